/-! LAWS: what code means, and the class's scale -/
def Env : Type := (Nat → Int) × (Int → Int)
def EOk (e : Env) : Prop := (∀ i, i < 8 → VB (e.1 i)) ∧ ∀ p, VB (e.2 p)
def arR (k : Nat) (a b : Int) : Int := if k = 0 then a + b else if k = 1 then a - b else if k = 2 then a * b else if b = 0 then 0 else a.tdiv b
def ar (k : Nat) (a b : Int) : Int := clm (-1000000) 1000000 (arR k a b)
def cp (k : Nat) (a b : Int) : Bool := if k = 0 then decide (a < b) else if k = 1 then decide (b < a) else if k = 2 then decide (a = b) else if k = 3 then !decide (a = b) else if k = 4 then decide (a ≤ b) else decide (b ≤ a)
def btv (a b : Int) : Int := ((a.natAbs &&& b.natAbs : Nat) : Int)
def b01 (b : Bool) : Int := if b = true then 1 else 0
def orv (a b : Int) : Int := ((a.natAbs ||| b.natAbs : Nat) : Int)
def ci (k : Nat) : Nat := if k = 39 then 4 else if k = 40 then 5 else k - 28
theorem ofN (n : Nat) : Int32.ofNat n = nI n := rfl
/-- one step of the class's code -/
def stC (e : Env) (k v at' : Nat) (l : List Int) : Option (Nat × List Int) :=
  if k = 41 then (if v ≤ 10000 then some (at' + 1, (v : Int) :: l) else none)
  else if k ≤ 15 then (if 8 ≤ k then some (at' + 1, e.1 (k - 8) :: l) else none)
  else if k = 45 then some (max (at' + 1) v, l)
  else match l with
    | [] => none
    | x :: r =>
      if k = 46 then (if x = 0 then some (max (at' + 1) v, r) else some (at' + 1, r))
      else if k = 44 then some (at' + 1, -x :: r)
      else if k = 20 then some (at' + 1, e.2 x :: r)
      else if k = 27 then (if 0 ≤ x ∧ x ≤ 1 then some (at' + 1, (1 - x) :: r) else none)
      else match r with
        | [] => none
        | y :: r =>
          if k = 19 then some (at' + 1, btv y x :: r)
          else if k = 25 then (if 0 ≤ x ∧ x ≤ 1 ∧ 0 ≤ y ∧ y ≤ 1 then some (at' + 1, orv y x :: r) else none)
          else if k = 26 then (if 0 ≤ x ∧ x ≤ 1 ∧ 0 ≤ y ∧ y ≤ 1 then some (at' + 1, btv y x :: r) else none)
          else if 32 ≤ k ∧ k ≤ 35 then some (at' + 1, ar (k - 32) y x :: r)
          else if (28 ≤ k ∧ k ≤ 31) ∨ k = 39 ∨ k = 40 then some (at' + 1, b01 (cp (ci k) y x) :: r)
          else none
def rcC (e : Env) (code : Nat → Nat × Nat) : Nat → Nat → List Int → Option (Nat × List Int)
  | 0, a, l => some (a, l)
  | k + 1, a, l => (stC e (code a).1 (code a).2 a l).bind (fun x => rcC e code k x.1 x.2)
theorem rcC_add {e : Env} {code : Nat → Nat × Nat} {j : Nat} : ∀ {k a l}, rcC e code (k + j) a l = (rcC e code k a l).bind (fun x => rcC e code j x.1 x.2) := by
  intro k
  induction k with
  | zero => intro a l; rw [Nat.zero_add]; rfl
  | succ k ih =>
    intro a l
    rw [show k + 1 + j = k + j + 1 by omega, rcC, rcC]
    cases stC e (code a).1 (code a).2 a l with
    | none => rfl
    | some x => exact ih
def upK (a : Nat) (o : Option (Nat × List Int)) : Prop := ∀ b t, o = some (b, t) → a + 1 ≤ b
theorem upK_n {a : Nat} : upK a none := fun _ _ h => by cases h
theorem upK_s {a : Nat} {t : List Int} : upK a (some (a + 1, t)) := fun b _ h => by injection h with h; injection h with h1 h2; omega
theorem upK_m {a v : Nat} {t : List Int} : upK a (some (max (a + 1) v, t)) := fun b _ h => by injection h with h; injection h with h1 h2; omega
theorem upK_i {a : Nat} {x y : Option (Nat × List Int)} {P : Prop} [Decidable P] (h1 : upK a x) (h2 : upK a y) : upK a (if P then x else y) := by
  by_cases h : P
  · rw [if_pos h]; exact h1
  · rw [if_neg h]; exact h2
theorem stC_upK {e : Env} {k v a : Nat} {l : List Int} : upK a (stC e k v a l) := by
  unfold stC
  refine upK_i (upK_i upK_s upK_n) (upK_i (upK_i upK_s upK_n) (upK_i upK_m ?_))
  cases l with
  | nil => exact upK_n
  | cons x r =>
    refine upK_i (upK_i upK_m upK_s) (upK_i upK_s (upK_i upK_s (upK_i (upK_i upK_s upK_n) ?_)))
    cases r with
    | nil => exact upK_n
    | cons y r => exact upK_i upK_s (upK_i (upK_i upK_s upK_n) (upK_i (upK_i upK_s upK_n) (upK_i upK_s (upK_i upK_s upK_n))))
theorem stC_up {e : Env} {k v a a' : Nat} {l l' : List Int} (h : stC e k v a l = some (a', l')) : a + 1 ≤ a' := stC_upK _ _ h
theorem rcC_up {e : Env} {code : Nat → Nat × Nat} : ∀ {k a l a' l'}, rcC e code k a l = some (a', l') → a + k ≤ a' := by
  intro k
  induction k with
  | zero => intro a l a' l' h; rw [rcC, Option.some.injEq, Prod.mk.injEq] at h; omega
  | succ k ih =>
    intro a l a' l' h
    rw [rcC] at h
    cases hs : stC e (code a).1 (code a).2 a l with
    | none => rw [hs] at h; cases h
    | some x =>
      rw [hs] at h
      have h1 := stC_up (a' := x.1) (l' := x.2) hs
      have h2 := ih h
      omega
theorem rcC_congr {e : Env} {code code' : Nat → Nat × Nat} : ∀ {k a l a' l'}, rcC e code k a l = some (a', l') → (∀ j, a ≤ j → j < a' → code' j = code j) → rcC e code' k a l = some (a', l') := by
  intro k
  induction k with
  | zero => intro a l a' l' h _; exact h
  | succ k ih =>
    intro a l a' l' h hc
    have hup := rcC_up h
    rw [rcC] at h ⊢
    rw [hc a (Nat.le_refl _) (by omega)]
    cases hs : stC e (code a).1 (code a).2 a l with
    | none => rw [hs] at h; cases h
    | some x =>
      rw [hs] at h
      have h1 := stC_up (a' := x.1) (l' := x.2) hs
      exact ih h (fun j a b => hc j (by omega) b)
theorem clmVB {v : Int} : VB (clm (-1000000) 1000000 v) := clm_b (by omega)
theorem btVB {a b : Int} (h : VB a) : VB (btv a b) := by
  unfold btv
  have h1 : a.natAbs &&& b.natAbs ≤ a.natAbs := Nat.and_le_left
  have := h.1; have := h.2
  constructor <;> omega
theorem b01VB {b : Bool} : VB (b01 b) := by cases b <;> constructor <;> decide
/-! the scale's stack -/
def Skr (M : Mem) : List Int → Prop
  | [] => True
  | x :: r => gI M 147 r.length = iI x ∧ Skr M r
def Sk (M : Mem) (l : List Int) : Prop := gR M 146 0 = some 147 ∧ gI M 146 1 = nI l.length ∧ Skr M l
def PW (k j : Nat) : Prop := (k = 146 ∧ j = 1) ∨ k = 147
theorem Skr.mono {M : Mem} {k : Nat} {v : Int32} : ∀ {l : List Int}, Skr M l → l.length ≤ k → Skr (sI M 147 k v) l := by
  intro l
  induction l with
  | nil => intro _ _; trivial
  | cons x r ih =>
    intro h hk
    rw [List.length_cons] at hk
    exact ⟨by rw [gI_sI_nj (by omega)]; exact h.1, ih h.2 (by omega)⟩
theorem Skr.n1 {M : Mem} {v : Int32} : ∀ {l : List Int}, Skr M l → Skr (sI M 146 1 v) l := by
  intro l
  induction l with
  | nil => intro _; trivial
  | cons x r ih => intro h; exact ⟨by rw [gI_sI_nk (by decide)]; exact h.1, ih h.2⟩
def psh (M : Mem) (l : List Int) (v : Int) : Mem := sI (sI M 147 l.length (iI v)) 146 1 (nI (l.length + 1))
def ppm (M : Mem) (l : List Int) : Mem := sI M 146 1 (nI l.length)
theorem Sk.psh {M : Mem} {l : List Int} {v : Int} (h : Sk M l) : Sk (psh M l v) (v :: l) := by
  refine ⟨h.1, gI_sI_eq, ⟨?_, (h.2.2.mono (Nat.le_refl _)).n1⟩⟩
  show gI (sI (sI M 147 l.length (iI v)) 146 1 _) 147 l.length = _
  rw [gI_sI_nk (by decide), gI_sI_eq]
theorem Sk.ppm {M : Mem} {l : List Int} {x : Int} (h : Sk M (x :: l)) : Sk (ppm M l) l := ⟨h.1, gI_sI_eq, h.2.2.2.n1⟩
theorem D_psh {M M' : Mem} {l : List Int} {v : Int} (h : D PW M M') : D PW M (psh M' l v) := (h.sI (Or.inr rfl)).sI (Or.inl ⟨rfl, rfl⟩)
theorem D_ppm {M M' : Mem} {l : List Int} (h : D PW M M') : D PW M (ppm M' l) := h.sI (Or.inl ⟨rfl, rfl⟩)
section WG
variable {d c n p : Nat} {M : Mem} {W Rs : Nat → Nat} {m : Mo}
theorem y_push {l : List Int} {v : Int} (h : Sk M l) (hl : l.length < 300) : ev (d + 1) m_Sc_push [.ref 146, .int (iI v)] NX M = some (none, NX, psh M l v) := by
  have hn : ¬ 300 ≤ l.length := by omega
  have h1 : gI (sI M 147 l.length (iI v)) 146 1 = nI l.length := by rw [gI_sI_nk (by decide)]; exact h.2.1
  rw [e_Sc_push]
  simp (disch := omega) only [r_Sc_push_0, r_Sc_push_0n, r_Sc_push_1, r_Sc_push_4, r_Sc_push_7, r_Sc_push_7n, r_Sc_push_8, r_Sc_push_11, r_Sc_push_11n, r_Sc_push_12, r_Sc_push_15, r_Sc_push_16, r_Sc_push_19, r_Sc_push_19n, r_Sc_push_20, r_Sc_push_23, r_Sc_push_23n, r_Sc_push_24, r_Sc_push_27, r_Sc_push_28, r_Sc_push_29, r_Sc_push_29n, r_Sc_push_30, r_Sc_push_30i, r_Sc_push_31, r_Sc_push_34, r_Sc_push_35, r_Sc_push_36, r_Sc_push_39, bnd, tl_s, tl_n, wt_nil, wt_int, wt_ref, wt_null, wt_long, Nat.reduceAdd, Nat.reduceLeDiff, if_true, if_false, decide_true, Bool.true_and, Bool.and_true, zok_n0, zok_n1, zok_bI, bI_eq0, bI_eq1, Bool.true_eq_false, Bool.false_eq_true, not_false_eq_true, not_true_eq_false, decide_false, decide_eq_false_iff_not, decide_eq_true_eq, Classical.not_not, ite_not, lit, Nat.reduceEqDiff, Nat.reduceLT, nI_add, nI_lt', nI_le', nI_eq', nI_sub', pk_mul, nI_rem', nI_div', nI_nz, remN, clampN, inb_nI, Nat.not_lt_zero, Nat.zero_le, Nat.le_zero_eq, if_true, if_false, m1_lt0, m1_eq, t_ite, f_ite, Bool.not_false, Bool.not_true, nI_and, nI_or, nI_xor, nI_shl1, nI_shr, nI_ushr, nI_not, nI_and_p2, Nat.one_mul, vrf_s, vrf_n, oF_0, oO_0, oF_1, oO_1, oA_2, oS_2, oA_3, oS_3, oF_4, oO_4, oA_5, oS_5, oA_6, oS_6, oA_7, oS_7, oA_8, oS_8, oA_9, oS_9, oF_70, oO_70, oA_71, oS_71, oA_72, oS_72, oF_73, oO_73, oA_74, oS_74, oA_75, oS_75, oA_76, oS_76, oA_77, oS_77, oA_78, oS_78, oA_139, oS_139, oF_140, oO_140, oA_141, oS_141, oA_142, oS_142, oA_143, oS_143, oA_144, oS_144, oF_145, oO_145, oF_146, oO_146, oA_147, oS_147, oF_148, oO_148, oA_149, oS_149, oA_150, oS_150, oA_151, oS_151, oF_152, oO_152, oA_153, oS_153, oF_154, oO_154, oA_155, oS_155, oA_156, oS_156, oA_157, oS_157, oA_158, oS_158, oF_159, oO_159, oA_160, oS_160, oA_161, oS_161, oA_162, oS_162, oA_163, oS_163, oF_164, oO_164, oA_165, oS_165, oA_166, oS_166, oA_167, oS_167, oA_168, oS_168, oF_169, oO_169, oA_170, oS_170, oA_171, oS_171, oA_172, oS_172, oA_173, oS_173, h.1, h.2.1, hn, h1, oL_147, oN_147, ofN]
  rfl
theorem y_pop {l : List Int} {x : Int} (h : Sk M (x :: l)) (hl : l.length < 300) : ev (d + 1) m_Sc_pop [.ref 146] NX M = some (some (.int (iI x)), NX, ppm M l) := by
  have h0 : gI M 146 1 = nI (l.length + 1) := h.2.1
  have hn : ¬ l.length + 1 < 1 := by omega
  have hn2 : l.length + 1 ≤ 300 := by omega
  have h2 : gI (sI M 146 1 (nI l.length)) 147 l.length = iI x := by rw [gI_sI_nk (by decide)]; exact h.2.2.1
  rw [e_Sc_pop]
  simp (disch := omega) only [r_Sc_pop_0, r_Sc_pop_0n, r_Sc_pop_1, r_Sc_pop_4, r_Sc_pop_5, r_Sc_pop_8, r_Sc_pop_8n, r_Sc_pop_9, r_Sc_pop_12, r_Sc_pop_12n, r_Sc_pop_13, r_Sc_pop_16, r_Sc_pop_17, r_Sc_pop_20, r_Sc_pop_21, r_Sc_pop_22, r_Sc_pop_22n, r_Sc_pop_23, r_Sc_pop_23i, r_Sc_pop_24, r_Sc_pop_27, r_Sc_pop_28, r_Sc_pop_29, r_Sc_pop_32, r_Sc_pop_32n, r_Sc_pop_33, r_Sc_pop_36, r_Sc_pop_36n, r_Sc_pop_37, r_Sc_pop_40, r_Sc_pop_41, bnd, tl_s, tl_n, wt_nil, wt_int, wt_ref, wt_null, wt_long, Nat.reduceAdd, Nat.reduceLeDiff, if_true, if_false, decide_true, Bool.true_and, Bool.and_true, zok_n0, zok_n1, zok_bI, bI_eq0, bI_eq1, Bool.true_eq_false, Bool.false_eq_true, not_false_eq_true, not_true_eq_false, decide_false, decide_eq_false_iff_not, decide_eq_true_eq, Classical.not_not, ite_not, lit, Nat.reduceEqDiff, Nat.reduceLT, nI_add, nI_lt', nI_le', nI_eq', nI_sub', pk_mul, nI_rem', nI_div', nI_nz, remN, clampN, inb_nI, Nat.not_lt_zero, Nat.zero_le, Nat.le_zero_eq, if_true, if_false, m1_lt0, m1_eq, t_ite, f_ite, Bool.not_false, Bool.not_true, nI_and, nI_or, nI_xor, nI_shl1, nI_shr, nI_ushr, nI_not, nI_and_p2, Nat.one_mul, vrf_s, vrf_n, oF_0, oO_0, oF_1, oO_1, oA_2, oS_2, oA_3, oS_3, oF_4, oO_4, oA_5, oS_5, oA_6, oS_6, oA_7, oS_7, oA_8, oS_8, oA_9, oS_9, oF_70, oO_70, oA_71, oS_71, oA_72, oS_72, oF_73, oO_73, oA_74, oS_74, oA_75, oS_75, oA_76, oS_76, oA_77, oS_77, oA_78, oS_78, oA_139, oS_139, oF_140, oO_140, oA_141, oS_141, oA_142, oS_142, oA_143, oS_143, oA_144, oS_144, oF_145, oO_145, oF_146, oO_146, oA_147, oS_147, oF_148, oO_148, oA_149, oS_149, oA_150, oS_150, oA_151, oS_151, oF_152, oO_152, oA_153, oS_153, oF_154, oO_154, oA_155, oS_155, oA_156, oS_156, oA_157, oS_157, oA_158, oS_158, oF_159, oO_159, oA_160, oS_160, oA_161, oS_161, oA_162, oS_162, oA_163, oS_163, oF_164, oO_164, oA_165, oS_165, oA_166, oS_166, oA_167, oS_167, oA_168, oS_168, oF_169, oO_169, oA_170, oS_170, oA_171, oS_171, oA_172, oS_172, oA_173, oS_173, h.1, h0, hn, hn2, oL_147, oN_147, ofN, gI_sI_eq, Nat.add_sub_cancel, h2, gR_sI]
  rfl
/-- how much a plank weighs, none if it is none -/
def hvO (n : Nat) (W : Nat → Nat) (x : Int) : Int := if 0 ≤ x ∧ x < n then (W x.toNat : Int) else 0
theorem y_weightOf {x : Int} (h : KX M c n W Rs m) (hx : VB x) : ev (d + 1) m_Sc_weightOf [.ref 1, .int (iI x)] NX M = some (some (.int (iI (hvO n W x))), NX, M) := by
  have hn := h.n8
  rw [e_Sc_weightOf]
  unfold hvO
  by_cases e : 0 ≤ x ∧ x < n
  · rw [if_pos e]
    obtain ⟨a, rfl⟩ : ∃ a : Nat, x = a := ⟨x.toNat, by omega⟩
    have ha : a < n := by omega
    have hna : ¬ n ≤ a := by omega
    simp (disch := omega) only [r_Sc_weightOf_0, r_Sc_weightOf_1, r_Sc_weightOf_4, r_Sc_weightOf_5, r_Sc_weightOf_5n, r_Sc_weightOf_6, r_Sc_weightOf_9, r_Sc_weightOf_12, r_Sc_weightOf_12n, r_Sc_weightOf_13, r_Sc_weightOf_16, r_Sc_weightOf_17, r_Sc_weightOf_18, r_Sc_weightOf_21, r_Sc_weightOf_22, bnd, tl_s, tl_n, wt_nil, wt_int, wt_ref, wt_null, wt_long, Nat.reduceAdd, Nat.reduceLeDiff, if_true, if_false, decide_true, Bool.true_and, Bool.and_true, zok_n0, zok_n1, zok_bI, bI_eq0, bI_eq1, Bool.true_eq_false, Bool.false_eq_true, not_false_eq_true, not_true_eq_false, decide_false, decide_eq_false_iff_not, decide_eq_true_eq, Classical.not_not, ite_not, lit, Nat.reduceEqDiff, Nat.reduceLT, nI_add, nI_lt', nI_le', nI_eq', nI_sub', pk_mul, nI_rem', nI_div', nI_nz, remN, clampN, inb_nI, Nat.not_lt_zero, Nat.zero_le, Nat.le_zero_eq, if_true, if_false, m1_lt0, m1_eq, t_ite, f_ite, Bool.not_false, Bool.not_true, nI_and, nI_or, nI_xor, nI_shl1, nI_shr, nI_ushr, nI_not, nI_and_p2, Nat.one_mul, vrf_s, vrf_n, oF_0, oO_0, oF_1, oO_1, oA_2, oS_2, oA_3, oS_3, oF_4, oO_4, oA_5, oS_5, oA_6, oS_6, oA_7, oS_7, oA_8, oS_8, oA_9, oS_9, oF_70, oO_70, oA_71, oS_71, oA_72, oS_72, oF_73, oO_73, oA_74, oS_74, oA_75, oS_75, oA_76, oS_76, oA_77, oS_77, oA_78, oS_78, oA_139, oS_139, oF_140, oO_140, oA_141, oS_141, oA_142, oS_142, oA_143, oS_143, oA_144, oS_144, oF_145, oO_145, oF_146, oO_146, oA_147, oS_147, oF_148, oO_148, oA_149, oS_149, oA_150, oS_150, oA_151, oS_151, oF_152, oO_152, oA_153, oS_153, oF_154, oO_154, oA_155, oS_155, oA_156, oS_156, oA_157, oS_157, oA_158, oS_158, oF_159, oO_159, oA_160, oS_160, oA_161, oS_161, oA_162, oS_162, oA_163, oS_163, oF_164, oO_164, oA_165, oS_165, oA_166, oS_166, oA_167, oS_167, oA_168, oS_168, oF_169, oO_169, oA_170, oS_170, oA_171, oS_171, oA_172, oS_172, oA_173, oS_173, iI_nat, h.r 0 0 1 rfl, h.r 0 1 70 rfl, h.r 0 2 139 rfl, h.r 0 3 140 rfl, h.r 0 4 145 rfl, h.r 0 5 146 rfl, h.r 0 6 148 rfl, h.r 0 7 152 rfl, h.r 1 1 2 rfl, h.r 1 2 3 rfl, h.r 1 3 4 rfl, h.r 1 4 6 rfl, h.r 1 9 7 rfl, h.r 1 11 8 rfl, h.r 1 12 9 rfl, h.r 4 6 5 rfl, h.r 152 6 153 rfl, h.r 140 0 141 rfl, h.r 140 2 142 rfl, h.r 140 3 143 rfl, h.r 140 4 144 rfl, h.r 146 0 147 rfl, h.r 148 0 149 rfl, h.r 148 2 150 rfl, h.r 148 3 151 rfl, h.nn, hna, Int.toNat_natCast, h.w ha]
  · rw [if_neg e, show iI 0 = nI 0 from rfl]
    have h1 := hx.1
    have h2 := hx.2
    have e1 : (iI x < nI 0) = (x < 0) := iI_lt (b := 0) (by omega) (by omega) (by omega) (by omega)
    have e2 : (nI n ≤ iI x) = ((n : Int) ≤ x) := by rw [← iI_nat]; exact iI_le (by omega) (by omega) (by omega) (by omega)
    simp (disch := omega) only [r_Sc_weightOf_0, r_Sc_weightOf_1, r_Sc_weightOf_4, r_Sc_weightOf_5, r_Sc_weightOf_5n, r_Sc_weightOf_6, r_Sc_weightOf_9, r_Sc_weightOf_12, r_Sc_weightOf_12n, r_Sc_weightOf_13, r_Sc_weightOf_16, r_Sc_weightOf_17, r_Sc_weightOf_18, r_Sc_weightOf_21, r_Sc_weightOf_22, bnd, tl_s, tl_n, wt_nil, wt_int, wt_ref, wt_null, wt_long, Nat.reduceAdd, Nat.reduceLeDiff, if_true, if_false, decide_true, Bool.true_and, Bool.and_true, zok_n0, zok_n1, zok_bI, bI_eq0, bI_eq1, Bool.true_eq_false, Bool.false_eq_true, not_false_eq_true, not_true_eq_false, decide_false, decide_eq_false_iff_not, decide_eq_true_eq, Classical.not_not, ite_not, lit, oF_1, oO_1, h.nn, e1, e2]
    by_cases e3 : x < 0
    · rw [if_pos e3]
    · rw [if_neg e3, if_pos (by omega)]
theorem hvVB (h : OkP n W Rs) (x : Int) : VB (hvO n W x) := by
  unfold hvO
  by_cases e : 0 ≤ x ∧ x < n
  · rw [if_pos e]
    have := h.2 x.toNat (by omega)
    constructor <;> omega
  · rw [if_neg e]; constructor <;> decide
/-- what a name stands for -/
def nmv (n : Nat) (W Rs : Nat → Nat) (m : Mo) (p i : Nat) : Nat := if i = 0 then mHr m else if i = 1 then mWd m else if i = 2 then p else if i = 3 then W p else if i = 4 then pc (mUp m) else if i = 5 then pc (ag (mOb m) p &&& mUp m) else if i = 6 then pc (Rs p) else pc (ron n Rs p &&& mUp m)
def env (n : Nat) (W Rs : Nat → Nat) (m : Mo) (p : Nat) : Env := (fun i => (nmv n W Rs m p i : Int), hvO n W)
theorem atk_one {B p : Nat} : atk B (2 ^ p) = ag B p := by
  apply eq_bits
  intro i
  rw [Bool.eq_iff_iff, atk_bit, ag_bit]
  constructor
  · intro ⟨h1, q, h2, h3⟩
    rw [Nat.testBit_two_pow, decide_eq_true_eq] at h3
    rw [h3]; exact ⟨h1, h2⟩
  · intro ⟨h1, h2⟩
    exact ⟨h1, p, h2, Nat.testBit_two_pow_self⟩
theorem nmv_le (hp : OkP n W Rs) (hm : OkM n m) (hpn : p < n) (i : Nat) : nmv n W Rs m p i ≤ 9999 := by
  have h8 := hp.1
  have h1 := hm.2.2.2.2.2.1
  have h2 := hm.2.2.2.2.1
  have h3 := hp.2 p hpn
  have h4 := pc_le (hm.u8 h8)
  have h5 := pc_le (show ag (mOb m) p &&& mUp m < 256 from and_8 ag_8)
  have h6 := pc_le (hp.r8 hpn)
  have h7 := pc_le (show ron n Rs p &&& mUp m < 256 from and_8 (ron_8 h8))
  unfold nmv
  repeat' split
  all_goals omega
theorem env_ok (hp : OkP n W Rs) (hm : OkM n m) (hpn : p < n) : EOk (env n W Rs m p) := by
  refine ⟨fun i _ => ?_, fun q => hvVB hp q⟩
  have := nmv_le (m := m) hp hm hpn i
  show VB (nmv n W Rs m p i : Int)
  constructor <;> omega
/-- the scale at work -/
def WX (M : Mem) (c n : Nat) (W Rs : Nat → Nat) (m : Mo) (p : Nat) : Prop := KX M c n W Rs m ∧ gR M 146 2 = some 1 ∧ gR M 146 3 = some c ∧ gI M 146 4 = nI p ∧ p < n ∧ (c = 4 ∨ c = 152)
theorem y_named {k : Nat} (h : WX M c n W Rs m p) (h1 : 8 ≤ k) (h2 : k ≤ 15) : ev (d + 2) m_Sc_named [.ref 146, .int (nI k)] NX M = some (some (.int (iI ((env n W Rs m p).1 (k - 8)))), NX, M) := by
  obtain ⟨hK, r1, r2, r3, hp, hc⟩ := h
  have hn := hK.n8
  have hp8 : p < 8 := by omega
  rw [show iI ((env n W Rs m p).1 (k - 8)) = nI (nmv n W Rs m p (k - 8)) from iI_nat _, e_Sc_named]
  have hu := hK.okm.u8 hn
  have ha : ag (mOb m) p &&& mUp m < 256 := and_8 ag_8
  have hr : ron n Rs p &&& mUp m < 256 := and_8 (ron_8 hn)
  have hw := y_weightOf (d := d) (x := (p : Int)) hK (by constructor <;> omega)
  rw [iI_nat, show hvO n W (p : Int) = (W p : Int) by unfold hvO; rw [if_pos (by omega), Int.toNat_natCast], iI_nat] at hw
  have hat := y_attackers (d := d) (nx := NX) (M := M) hK.okb.1 (p2_8 hp8)
  rw [atk_one] at hat
  have hk : k = 8 ∨ k = 9 ∨ k = 10 ∨ k = 11 ∨ k = 12 ∨ k = 13 ∨ k = 14 ∨ k = 15 := by omega
  rcases hc with rfl | rfl <;> rcases hk with rfl | rfl | rfl | rfl | rfl | rfl | rfl | rfl
  all_goals (simp (disch := omega) only [r_Sc_named_0, r_Sc_named_1, r_Sc_named_48, r_Sc_named_48n, r_Sc_named_49, r_Sc_named_52, r_Sc_named_55, r_Sc_named_56, r_Sc_named_56n, r_Sc_named_57, r_Sc_named_60, r_Sc_named_63, r_Sc_named_64, r_Sc_named_64n, r_Sc_named_65, r_Sc_named_68, r_Sc_named_69, r_Sc_named_69n, r_Sc_named_70, r_Sc_named_73, r_Sc_named_73n, r_Sc_named_74, r_Sc_named_77, r_Sc_named_80, r_Sc_named_81, r_Sc_named_81n, r_Sc_named_82, r_Sc_named_85, r_Sc_named_88, r_Sc_named_91, r_Sc_named_92, r_Sc_named_92n, r_Sc_named_93, r_Sc_named_96, r_Sc_named_99, r_Sc_named_100, r_Sc_named_100n, r_Sc_named_101, r_Sc_named_104, r_Sc_named_105, r_Sc_named_108, r_Sc_named_108n, r_Sc_named_109, r_Sc_named_112, r_Sc_named_115, r_Sc_named_116, r_Sc_named_119, r_Sc_named_120, r_Sc_named_120n, r_Sc_named_121, r_Sc_named_124, r_Sc_named_124n, r_Sc_named_125, r_Sc_named_128, r_Sc_named_131, r_Sc_named_134, r_Sc_named_134n, r_Sc_named_135, r_Sc_named_138, r_Sc_named_141, r_Sc_named_141n, r_Sc_named_142, r_Sc_named_145, r_Sc_named_146, r_Sc_named_149, r_Sc_named_152, r_Sc_named_153, r_Sc_named_154, r_Sc_named_154n, r_Sc_named_155, r_Sc_named_158, r_Sc_named_158n, r_Sc_named_159, r_Sc_named_162, r_Sc_named_165, r_Sc_named_165n, r_Sc_named_166, r_Sc_named_169, r_Sc_named_172, r_Sc_named_173, r_Sc_named_176, r_Sc_named_177, r_Sc_named_178, bnd, tl_s, tl_n, wt_nil, wt_int, wt_ref, wt_null, wt_long, Nat.reduceAdd, Nat.reduceLeDiff, if_true, if_false, decide_true, Bool.true_and, Bool.and_true, zok_n0, zok_n1, zok_bI, bI_eq0, bI_eq1, Bool.true_eq_false, Bool.false_eq_true, not_false_eq_true, not_true_eq_false, decide_false, decide_eq_false_iff_not, decide_eq_true_eq, Classical.not_not, ite_not, lit, Nat.reduceEqDiff, Nat.reduceLT, nI_add, nI_lt', nI_le', nI_eq', nI_sub', pk_mul, nI_rem', nI_div', nI_nz, remN, clampN, inb_nI, Nat.not_lt_zero, Nat.zero_le, Nat.le_zero_eq, if_true, if_false, m1_lt0, m1_eq, t_ite, f_ite, Bool.not_false, Bool.not_true, nI_and, nI_or, nI_xor, nI_shl1, nI_shr, nI_ushr, nI_not, nI_and_p2, Nat.one_mul, vrf_s, vrf_n, oF_0, oO_0, oF_1, oO_1, oA_2, oS_2, oA_3, oS_3, oF_4, oO_4, oA_5, oS_5, oA_6, oS_6, oA_7, oS_7, oA_8, oS_8, oA_9, oS_9, oF_70, oO_70, oA_71, oS_71, oA_72, oS_72, oF_73, oO_73, oA_74, oS_74, oA_75, oS_75, oA_76, oS_76, oA_77, oS_77, oA_78, oS_78, oA_139, oS_139, oF_140, oO_140, oA_141, oS_141, oA_142, oS_142, oA_143, oS_143, oA_144, oS_144, oF_145, oO_145, oF_146, oO_146, oA_147, oS_147, oF_148, oO_148, oA_149, oS_149, oA_150, oS_150, oA_151, oS_151, oF_152, oO_152, oA_153, oS_153, oF_154, oO_154, oA_155, oS_155, oA_156, oS_156, oA_157, oS_157, oA_158, oS_158, oF_159, oO_159, oA_160, oS_160, oA_161, oS_161, oA_162, oS_162, oA_163, oS_163, oF_164, oO_164, oA_165, oS_165, oA_166, oS_166, oA_167, oS_167, oA_168, oS_168, oF_169, oO_169, oA_170, oS_170, oA_171, oS_171, oA_172, oS_172, oA_173, oS_173, mO_Sc_weightOf, mO_Int_bitCount, mO_Dis_attackers, mO_Site_isPlank, mO_Frm_restingOn, r1, r2, r3, hK.hr, hK.wd, hK.up, hK.ob, hw, hat, y_bitCount hu, y_bitCount ha, y_bitCount hr, y_isPlank hK hp, hK.r 0 0 1 rfl, hK.r 0 1 70 rfl, hK.r 0 2 139 rfl, hK.r 0 3 140 rfl, hK.r 0 4 145 rfl, hK.r 0 5 146 rfl, hK.r 0 6 148 rfl, hK.r 0 7 152 rfl, hK.r 1 1 2 rfl, hK.r 1 2 3 rfl, hK.r 1 3 4 rfl, hK.r 1 4 6 rfl, hK.r 1 9 7 rfl, hK.r 1 11 8 rfl, hK.r 1 12 9 rfl, hK.r 4 6 5 rfl, hK.r 152 6 153 rfl, hK.r 140 0 141 rfl, hK.r 140 2 142 rfl, hK.r 140 3 143 rfl, hK.r 140 4 144 rfl, hK.r 146 0 147 rfl, hK.r 148 0 149 rfl, hK.r 148 2 150 rfl, hK.r 148 3 151 rfl, hK.rs hp, y_bitCount (hK.okp.r8 hp), y_restingOn hK hp8])
  all_goals rfl
end WG

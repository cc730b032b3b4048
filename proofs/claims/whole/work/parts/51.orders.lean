/-! PUBLIC: orders -/
theorem cmp_le {x y : Int64} : (cmpL x y ≤ nI 0) = (x ≤ y) := propext (lg_cmp_le x y)
theorem cmp_ge {x y : Int64} : (nI 0 ≤ cmpL x y) = (y ≤ x) := propext (lg_cmp_ge x y)
theorem cmp_gt {x y : Int64} : (nI 0 < cmpL x y) = (y < x) := propext (lg_cmp_gt x y)
theorem cmp_lt {x y : Int64} : (cmpL x y < nI 0) = (x < y) := propext (lg_cmp_lt x y)
theorem cmp_eq {x y : Int64} : (cmpL x y = nI 0) = (x = y) := propext (lg_cmp_eq x y)
theorem lN_le' {a b : Nat} (ha : a < 2 ^ 63) (hb : b < 2 ^ 63) : (lN a ≤ lN b) = (a ≤ b) := propext (pk_lLE ha hb)
theorem lN_lt' {a b : Nat} (ha : a < 2 ^ 63) (hb : b < 2 ^ 63) : (lN a < lN b) = (a < b) := propext (pk_lLT ha hb)
theorem lN_eq' {a b : Nat} (ha : a < 2 ^ 63) (hb : b < 2 ^ 63) : (lN a = lN b) = (a = b) := propext (pk_lEQ ha hb)
/-- the first i places of a cell of longs laid down -/
def fL (M : Mem) (c : Nat) (f : Nat → Int64) (i : Nat) : Mem := (M.1, fun a b => if a = c ∧ b < i then f b else M.2.1 a b, M.2.2)
theorem gL_fL {M : Mem} {c i k j : Nat} {f : Nat → Int64} : gL (fL M c f i) k j = if k = c ∧ j < i then f j else gL M k j := rfl
theorem gL_fL_in {M : Mem} {c i j : Nat} {f : Nat → Int64} (h : j < i) : gL (fL M c f i) c j = f j := by rw [gL_fL, if_pos ⟨rfl, h⟩]
theorem fL_0 {M : Mem} {c : Nat} {f : Nat → Int64} : fL M c f 0 = M := by
  unfold fL
  have : (fun a b => if a = c ∧ b < 0 then f b else M.2.1 a b) = M.2.1 := by
    funext a b
    rw [if_neg (fun z => by omega)]
  rw [this]
theorem fL_s {M : Mem} {c i : Nat} {f : Nat → Int64} : sL (fL M c f i) c i (f i) = fL M c f (i + 1) := by
  unfold sL fL u2
  congr 2
  funext a b
  by_cases h1 : a = c ∧ b = i
  · rw [if_pos h1, if_pos ⟨h1.1, by omega⟩, h1.2]
  · rw [if_neg h1]
    dsimp only
    by_cases h2 : a = c ∧ b < i
    · rw [if_pos h2, if_pos ⟨h2.1, by omega⟩]
    · rw [if_neg h2, if_neg (fun z => h1 ⟨z.1, by omega⟩)]
theorem sL_sL {M : Mem} {k j : Nat} {v w : Int64} : sL (sL M k j v) k j w = sL M k j w := by
  unfold sL u2
  congr 2
  funext a b
  by_cases h1 : a = k ∧ b = j
  · rw [if_pos h1, if_pos h1]
  · rw [if_neg h1, if_neg h1]; dsimp only; rw [if_neg h1]
theorem D.fL {P : Nat → Nat → Prop} {M M' : Mem} {c i : Nat} {f : Nat → Int64} (h : D P M M') (hp : ∀ j, j < i → P c j) : D P M (fL M' c f i) := by
  refine h.trans ⟨fun a b hab => ⟨rfl, ?_, rfl⟩, rfl⟩
  rw [gL_fL, if_neg]
  intro z
  rw [z.1] at hab
  exact hab (hp b z.2)
def cnd (P : Nat) (Rs : Nat → Nat) (s l : Nat) : Bool := (s &&& P).testBit l && decide (mns (Rs l &&& P) (mns s (2 ^ l)) = 0)
def wyT (P : Nat) (Rs : Nat → Nat) : Nat → Nat → Nat
  | 0 => fun _ => 0
  | s + 1 => fun t => if t = s then (if s = 0 then 1 else fb_sm (fun l => if cnd P Rs s l = true then wyT P Rs s (mns s (2 ^ l)) else 0) 8) else wyT P Rs s t
def wy (P : Nat) (Rs : Nat → Nat) (s : Nat) : Nat := wyT P Rs (s + 1) s
section WY
variable {P : Nat} {Rs : Nat → Nat}
theorem wyT_in {s : Nat} : ∀ {k}, s < k → wyT P Rs k s = wy P Rs s := by
  intro k
  induction k with
  | zero => intro h; omega
  | succ k ih =>
    intro h
    by_cases e : s = k
    · rw [e]; rfl
    · show (if s = k then _ else wyT P Rs k s) = _
      rw [if_neg e]; exact ih (by omega)
theorem cnd_bit {s l : Nat} (h : cnd P Rs s l = true) : s.testBit l = true ∧ P.testBit l = true := by
  unfold cnd at h
  rw [Bool.and_eq_true, Nat.testBit_and, Bool.and_eq_true] at h
  exact h.1
theorem mns_lt {s l : Nat} (h : s.testBit l = true) : mns s (2 ^ l) < s := by
  have h1 := mns_le s (2 ^ l)
  have h2 : mns s (2 ^ l) ≠ s := by
    intro z
    have := congrArg (fun x => Nat.testBit x l) z
    simp only [mns_bit, Nat.testBit_two_pow_self, h] at this
    cases this
  omega
theorem wy_0 : wy P Rs 0 = 1 := rfl
theorem wy_s {s : Nat} (hs : s ≠ 0) : wy P Rs s = fb_sm (fun l => if cnd P Rs s l = true then wy P Rs (mns s (2 ^ l)) else 0) 8 := by
  show (if s = s then (if s = 0 then 1 else fb_sm (fun l => if cnd P Rs s l = true then wyT P Rs s (mns s (2 ^ l)) else 0) 8) else wyT P Rs s s) = _
  rw [if_pos rfl, if_neg hs]
  apply fb_sm_cong
  intro l _
  by_cases e : cnd P Rs s l = true
  · rw [if_pos e, if_pos e, wyT_in (mns_lt (cnd_bit e).1)]
  · rw [if_neg e, if_neg e]
theorem wy_bd : ∀ b s, s < b → s < 256 → wy P Rs s ≤ 8 ^ bct s 8 := by
  intro b
  induction b with
  | zero => intro s h; omega
  | succ b ih =>
    intro s hb h8
    by_cases e : s = 0
    · subst e; exact Nat.pow_pos (by decide)
    · rw [wy_s e]
      have hc : ∀ l, l < 8 → (if cnd P Rs s l = true then wy P Rs (mns s (2 ^ l)) else 0) ≤ 8 ^ (bct s 8 - 1) := by
        intro l hl
        by_cases ec : cnd P Rs s l = true
        · rw [if_pos ec]
          have hbit := (cnd_bit ec).1
          have h1 := mns_lt hbit
          have h2 := ih (mns s (2 ^ l)) (by omega) (by omega)
          have h3 := fb_ct_upd (fun i => s.testBit i) false hl
          have h4 : bct (mns s (2 ^ l)) 8 = fb_ct (fun k => if k = l then false else s.testBit k) 8 := by
            apply fb_ct_cong
            intro k _
            show (mns s (2 ^ l)).testBit k = _
            rw [mns_bit, Nat.testBit_two_pow]
            by_cases ek : k = l
            · rw [if_pos ek, ek]; simp
            · rw [if_neg ek, decide_eq_false (fun z => ek z.symm)]; simp
          rw [hbit] at h3
          simp only [if_true] at h3
          rw [f_ite] at h3
          have h5 : bct (mns s (2 ^ l)) 8 = bct s 8 - 1 := by rw [h4]; unfold bct; omega
          rw [h5] at h2
          exact h2
        · rw [if_neg ec]; exact Nat.zero_le _
      have h6 := fb_sm_bound hc
      have hpos : 0 < bct s 8 := by
        apply Classical.byContradiction
        intro z
        have z0 : fb_ct (fun i => s.testBit i) 8 = 0 := by unfold bct at z; omega
        apply e
        rw [eq0_bits]
        intro i
        by_cases ei : i < 8
        · exact fb_ct_zero.mp z0 i ei
        · exact bit_big (n := 8) h8 (by omega)
      have h7 : 8 ^ bct s 8 = 8 * 8 ^ (bct s 8 - 1) := by
        rw [← Nat.pow_succ', show (bct s 8 - 1).succ = bct s 8 by omega]
      omega
theorem wy_lt {s : Nat} (h8 : s < 256) : wy P Rs s ≤ 16777216 := by
  have h1 := wy_bd (P := P) (Rs := Rs) (s + 1) s (by omega) h8
  have h2 : bct s 8 ≤ 8 := fb_ct_le _ _
  have h3 : 8 ^ bct s 8 ≤ 8 ^ 8 := Nat.pow_le_pow_right (by decide) h2
  omega
/-- what the reference has laid down before t's pth -/
def puc (t p s l : Nat) : Bool := decide (mns s (2 ^ l) < t ∨ (mns s (2 ^ l) = t ∧ l < p))
def pu (P : Nat) (Rs : Nat → Nat) (t p s : Nat) : Nat := if s = 0 then 1 else fb_sm (fun l => if (cnd P Rs s l && puc t p s l) = true then wy P Rs (mns s (2 ^ l)) else 0) 8
theorem pu_all {t p s : Nat} (h : s ≤ t) : pu P Rs t p s = wy P Rs s := by
  unfold pu
  by_cases e : s = 0
  · rw [if_pos e, e]; rfl
  · rw [if_neg e, wy_s e]
    apply fb_sm_cong
    intro l _
    cases ec : cnd P Rs s l
    · rfl
    · have := mns_lt (cnd_bit ec).1
      rw [show puc t p s l = true from decide_eq_true (Or.inl (by omega))]
      rfl
theorem pu_next {t n s : Nat} (hP : P < 2 ^ n) : pu P Rs t n s = pu P Rs (t + 1) 0 s := by
  unfold pu
  by_cases e : s = 0
  · rw [if_pos e, if_pos e]
  · rw [if_neg e, if_neg e]
    apply fb_sm_cong
    intro l _
    cases ec : cnd P Rs s l
    · rfl
    · have hl : l < n := by
        apply Classical.byContradiction; intro z
        have := (cnd_bit ec).2
        rw [bit_big hP (by omega)] at this; cases this
      have : puc t n s l = puc (t + 1) 0 s l := by
        unfold puc
        apply decide_eq_decide.mpr
        omega
      rw [this]
theorem pu_step {t p s : Nat} (hp : p < 8) : pu P Rs t (p + 1) s = pu P Rs t p s + (if s = t ||| 2 ^ p ∧ P.testBit p = true ∧ t.testBit p = false ∧ mns (Rs p &&& P) t = 0 then wy P Rs t else 0) := by
  have hor : (t ||| 2 ^ p).testBit p = true := by rw [Nat.testBit_or, Nat.testBit_two_pow_self, Bool.or_true]
  unfold pu
  by_cases e : s = 0
  · rw [if_pos e, if_pos e, if_neg (fun z => by rw [← z.1, e, Nat.zero_testBit] at hor; cases hor)]
  · rw [if_neg e, if_neg e]
    have hsplit : ∀ g : Nat → Nat, fb_sm (fun l => if l = p then g p else g l) 8 = fb_sm g 8 := by
      intro g
      apply fb_sm_cong
      intro l _
      by_cases el : l = p
      · rw [if_pos el, el]
      · rw [if_neg el]
    have hu := fb_sm_upd (fun l => if (cnd P Rs s l && puc t p s l) = true then wy P Rs (mns s (2 ^ l)) else 0) (if (cnd P Rs s p && puc t (p + 1) s p) = true then wy P Rs (mns s (2 ^ p)) else 0) hp
    have hc : fb_sm (fun l => if (cnd P Rs s l && puc t (p + 1) s l) = true then wy P Rs (mns s (2 ^ l)) else 0) 8 = fb_sm (fun k => if k = p then (if (cnd P Rs s p && puc t (p + 1) s p) = true then wy P Rs (mns s (2 ^ p)) else 0) else (if (cnd P Rs s k && puc t p s k) = true then wy P Rs (mns s (2 ^ k)) else 0)) 8 := by
      apply fb_sm_cong
      intro l _
      by_cases el : l = p
      · rw [if_pos el, el]
      · rw [if_neg el]
        have : puc t (p + 1) s l = puc t p s l := by
          unfold puc
          apply decide_eq_decide.mpr
          omega
        rw [this]
    rw [hc]
    have hfin : (if (cnd P Rs s p && puc t (p + 1) s p) = true then wy P Rs (mns s (2 ^ p)) else 0) = (if (cnd P Rs s p && puc t p s p) = true then wy P Rs (mns s (2 ^ p)) else 0) + (if s = t ||| 2 ^ p ∧ P.testBit p = true ∧ t.testBit p = false ∧ mns (Rs p &&& P) t = 0 then wy P Rs t else 0) := by
      by_cases ec : cnd P Rs s p = true
      · obtain ⟨b1, b2⟩ := cnd_bit ec
        have hm : mns (Rs p &&& P) (mns s (2 ^ p)) = 0 := by
          unfold cnd at ec
          rw [Bool.and_eq_true, decide_eq_true_eq] at ec
          exact ec.2
        by_cases et : mns s (2 ^ p) = t
        · have h1 : s = t ||| 2 ^ p := by
            apply eq_bits
            intro i
            rw [← et, Nat.testBit_or, mns_bit, Nat.testBit_two_pow]
            by_cases ei : p = i
            · rw [← ei, b1]; simp
            · rw [decide_eq_false ei]; simp
          have h2 : t.testBit p = false := by rw [← et, mns_bit, Nat.testBit_two_pow_self]; simp
          rw [if_pos (by rw [ec]; exact decide_eq_true (Or.inr ⟨et, by omega⟩)), if_neg (by rw [ec, Bool.true_and]; unfold puc; rw [decide_eq_true_eq]; omega), if_pos ⟨h1, b2, h2, by rw [← et]; exact hm⟩, et, Nat.zero_add]
        · have hn : ¬ (s = t ||| 2 ^ p ∧ P.testBit p = true ∧ t.testBit p = false ∧ mns (Rs p &&& P) t = 0) := by
            intro ⟨z1, _, z3, _⟩
            apply et
            rw [z1]
            apply eq_bits
            intro i
            rw [mns_bit, Nat.testBit_or, Nat.testBit_two_pow]
            by_cases ei : p = i
            · rw [← ei, z3]; simp
            · rw [decide_eq_false ei]; simp
          have : puc t (p + 1) s p = puc t p s p := by
            unfold puc
            apply decide_eq_decide.mpr
            omega
          rw [if_neg hn, this, Nat.add_zero]
      · have ec' : cnd P Rs s p = false := Bool.eq_false_iff.mpr ec
        have hn : ¬ (s = t ||| 2 ^ p ∧ P.testBit p = true ∧ t.testBit p = false ∧ mns (Rs p &&& P) t = 0) := by
          intro ⟨z1, z2, z3, z4⟩
          apply ec
          have et : mns s (2 ^ p) = t := by
            rw [z1]
            apply eq_bits
            intro i
            rw [mns_bit, Nat.testBit_or, Nat.testBit_two_pow]
            by_cases ei : p = i
            · rw [← ei, z3]; simp
            · rw [decide_eq_false ei]; simp
          unfold cnd
          rw [et, z4, Nat.testBit_and, z2, z1, hor]
          rfl
        rw [if_neg hn, ec']
        rfl
    rw [hfin] at hu
    rw [hfin]
    try dsimp only at hu
    omega
end WY
section OR
variable {d : Nat} {M : Mem} {n : Nat} {W Rs : Nat → Nat} {m : Mo}
theorem y_countOrders {P : Nat} (h : KX M 4 n W Rs m) (hP : P < 2 ^ n) : ev (d + 2) m_Dis_countOrders [.ref 148, .ref 3, .int (nI P)] NX M = some (some (.long (lN (wy P Rs P))), NX, fL M 151 (fun s => lN (wy P Rs s)) (P + 1)) := by
  have hn := h.n8
  have h2 := p2_le8 hn
  have hn1 : ¬ 256 ≤ P := by omega
  rw [e_Dis_countOrders]
  simp (disch := omega) only [r_Dis_countOrders_0, r_Dis_countOrders_1, r_Dis_countOrders_4, r_Dis_countOrders_5, r_Dis_countOrders_8, r_Dis_countOrders_11, r_Dis_countOrders_11n, r_Dis_countOrders_12, r_Dis_countOrders_12n, r_Dis_countOrders_15, r_Dis_countOrders_15n, r_Dis_countOrders_16, r_Dis_countOrders_17, r_Dis_countOrders_19, r_Dis_countOrders_22, r_Dis_countOrders_25, r_Dis_countOrders_26, r_Dis_countOrders_26n, r_Dis_countOrders_27, r_Dis_countOrders_30, r_Dis_countOrders_31, r_Dis_countOrders_32, r_Dis_countOrders_33, r_Dis_countOrders_34, bnd, tl_s, tl_n, wt_nil, wt_int, wt_ref, wt_null, wt_long, Nat.reduceAdd, Nat.reduceLeDiff, if_true, if_false, decide_true, Bool.true_and, Bool.and_true, zok_n0, zok_n1, zok_bI, bI_eq0, bI_eq1, Bool.true_eq_false, Bool.false_eq_true, not_false_eq_true, not_true_eq_false, decide_false, decide_eq_false_iff_not, decide_eq_true_eq, Classical.not_not, ite_not, lit, Nat.reduceEqDiff, Nat.reduceLT, nI_add, nI_lt', nI_le', nI_eq', nI_sub', pk_mul, nI_rem', nI_div', nI_nz, remN, clampN, inb_nI, Nat.not_lt_zero, Nat.zero_le, Nat.le_zero_eq, if_true, if_false, m1_lt0, m1_eq, t_ite, f_ite, nI_and, nI_or, nI_xor, nI_shl1, nI_shr, nI_ushr, nI_not, nI_and_p2, Nat.one_mul, vrf_s, vrf_n, oF_0, oO_0, oF_1, oO_1, oA_2, oS_2, oA_3, oS_3, oF_4, oO_4, oA_5, oS_5, oA_6, oS_6, oA_7, oS_7, oA_8, oS_8, oA_9, oS_9, oF_70, oO_70, oA_71, oS_71, oA_72, oS_72, oF_73, oO_73, oA_74, oS_74, oA_75, oS_75, oA_76, oS_76, oA_77, oS_77, oA_78, oS_78, oA_139, oS_139, oF_140, oO_140, oA_141, oS_141, oA_142, oS_142, oA_143, oS_143, oA_144, oS_144, oF_145, oO_145, oF_146, oO_146, oA_147, oS_147, oF_148, oO_148, oA_149, oS_149, oA_150, oS_150, oA_151, oS_151, oF_152, oO_152, oA_153, oS_153, oF_154, oO_154, oA_155, oS_155, oA_156, oS_156, oA_157, oS_157, oA_158, oS_158, oF_159, oO_159, oA_160, oS_160, oA_161, oS_161, oA_162, oS_162, oA_163, oS_163, oF_164, oO_164, oA_165, oS_165, oA_166, oS_166, oA_167, oS_167, oA_168, oS_168, oF_169, oO_169, oA_170, oS_170, oA_171, oS_171, oA_172, oS_172, oA_173, oS_173, mO_X_hasBit, h.r 148 3 151 rfl, hn1, oL_3, oN_3, litL, show (nI 8 ≤ Int32.ofNat 8) = True from eq_true (by decide), show lenOf M 3 = 8 from oN_3]
  refine Eq.trans ?_ (lpz (R := fun i (z : Option Value × Option Value) => run (ev (d + 1)) m_Dis_countOrders 35 [some (.ref 148), some (.ref 3), some (.int (nI P)), some (.int (nI (i + 1))), z.1, z.2] [] NX (fL M 151 (fun s => lN (wy P Rs s)) (i + 1))) (n := P) (out := some (some (.long (lN (wy P Rs P))), NX, fL M 151 (fun s => lN (wy P Rs s)) (P + 1))) ?_ ?_ P 0 (none, none) (by omega))
  · have := fL_s (M := M) (c := 151) (i := 0) (f := fun s => lN (wy P Rs s))
    rw [fL_0] at this
    try dsimp only at this
    rw [wy_0] at this
    try dsimp only
    rw [← this]
  · intro i z hi
    have hni : ¬ P < i + 1 := by omega
    have hr : gR (fL M 151 (fun s => lN (wy P Rs s)) (i + 1)) 148 3 = some 151 := h.r 148 3 151 rfl
    try dsimp only
    rw [r_Dis_countOrders_35]
    simp (disch := omega) only [r_Dis_countOrders_36, r_Dis_countOrders_37, r_Dis_countOrders_40, r_Dis_countOrders_40n, r_Dis_countOrders_41, r_Dis_countOrders_44, r_Dis_countOrders_45, r_Dis_countOrders_46, r_Dis_countOrders_47, r_Dis_countOrders_48, bnd, tl_s, tl_n, wt_nil, wt_int, wt_ref, wt_null, wt_long, Nat.reduceAdd, Nat.reduceLeDiff, if_true, if_false, decide_true, Bool.true_and, Bool.and_true, zok_n0, zok_n1, zok_bI, bI_eq0, bI_eq1, Bool.true_eq_false, Bool.false_eq_true, not_false_eq_true, not_true_eq_false, decide_false, decide_eq_false_iff_not, decide_eq_true_eq, Classical.not_not, ite_not, lit, Nat.reduceEqDiff, Nat.reduceLT, nI_add, nI_lt', nI_le', nI_eq', nI_sub', pk_mul, nI_rem', nI_div', nI_nz, remN, clampN, inb_nI, Nat.not_lt_zero, Nat.zero_le, Nat.le_zero_eq, if_true, if_false, m1_lt0, m1_eq, t_ite, f_ite, nI_and, nI_or, nI_xor, nI_shl1, nI_shr, nI_ushr, nI_not, nI_and_p2, Nat.one_mul, vrf_s, vrf_n, oF_0, oO_0, oF_1, oO_1, oA_2, oS_2, oA_3, oS_3, oF_4, oO_4, oA_5, oS_5, oA_6, oS_6, oA_7, oS_7, oA_8, oS_8, oA_9, oS_9, oF_70, oO_70, oA_71, oS_71, oA_72, oS_72, oF_73, oO_73, oA_74, oS_74, oA_75, oS_75, oA_76, oS_76, oA_77, oS_77, oA_78, oS_78, oA_139, oS_139, oF_140, oO_140, oA_141, oS_141, oA_142, oS_142, oA_143, oS_143, oA_144, oS_144, oF_145, oO_145, oF_146, oO_146, oA_147, oS_147, oF_148, oO_148, oA_149, oS_149, oA_150, oS_150, oA_151, oS_151, oF_152, oO_152, oA_153, oS_153, oF_154, oO_154, oA_155, oS_155, oA_156, oS_156, oA_157, oS_157, oA_158, oS_158, oF_159, oO_159, oA_160, oS_160, oA_161, oS_161, oA_162, oS_162, oA_163, oS_163, oF_164, oO_164, oA_165, oS_165, oA_166, oS_166, oA_167, oS_167, oA_168, oS_168, oF_169, oO_169, oA_170, oS_170, oA_171, oS_171, oA_172, oS_172, oA_173, oS_173, mO_X_hasBit, hni, hr, litL]
    obtain ⟨z5, -, hin⟩ := lpE (R := fun l (z : Option Value) => run (ev (d + 1)) m_Dis_countOrders 50 [some (.ref 148), some (.ref 3), some (.int (nI P)), some (.int (nI (i + 1))), some (.int (nI l)), z] [] NX (sL (fL M 151 (fun s => lN (wy P Rs s)) (i + 1)) 151 (i + 1) (lN (fb_sm (fun l => if cnd P Rs (i + 1) l = true then wy P Rs (mns (i + 1) (2 ^ l)) else 0) l)))) (I := fun _ _ => True) (n := 8) (by
      intro l z' hl _
      refine ⟨some (.int (nI (mns (i + 1) (2 ^ l)))), trivial, ?_⟩
      have hl8 : ¬ 8 ≤ l := by omega
      have hand : (i + 1) &&& P < 256 := and_8' (by omega)
      have hml := mns_le (i + 1) (2 ^ l)
      have hr' : gR (sL (fL M 151 (fun s => lN (wy P Rs s)) (i + 1)) 151 (i + 1) (lN (fb_sm (fun l => if cnd P Rs (i + 1) l = true then wy P Rs (mns (i + 1) (2 ^ l)) else 0) l))) 148 3 = some 151 := h.r 148 3 151 rfl
      try dsimp only
      rw [r_Dis_countOrders_50]
      cases e : ((i + 1) &&& P).testBit l
      · simp (disch := omega) only [r_Dis_countOrders_52, r_Dis_countOrders_54, r_Dis_countOrders_57, r_Dis_countOrders_58, r_Dis_countOrders_59, r_Dis_countOrders_61, r_Dis_countOrders_62, r_Dis_countOrders_63, r_Dis_countOrders_64, r_Dis_countOrders_65, r_Dis_countOrders_67, r_Dis_countOrders_68, r_Dis_countOrders_69, r_Dis_countOrders_70, r_Dis_countOrders_72, r_Dis_countOrders_75, r_Dis_countOrders_78, r_Dis_countOrders_78n, r_Dis_countOrders_79, r_Dis_countOrders_81, r_Dis_countOrders_82, r_Dis_countOrders_83, r_Dis_countOrders_84, r_Dis_countOrders_86, r_Dis_countOrders_87, r_Dis_countOrders_88, r_Dis_countOrders_89, r_Dis_countOrders_92, r_Dis_countOrders_92n, r_Dis_countOrders_93, r_Dis_countOrders_96, r_Dis_countOrders_97, r_Dis_countOrders_98, r_Dis_countOrders_99, r_Dis_countOrders_99n, r_Dis_countOrders_100, r_Dis_countOrders_103, r_Dis_countOrders_105, r_Dis_countOrders_106, r_Dis_countOrders_107, r_Dis_countOrders_108, r_Dis_countOrders_111, bnd, tl_s, tl_n, wt_nil, wt_int, wt_ref, wt_null, wt_long, Nat.reduceAdd, Nat.reduceLeDiff, if_true, if_false, decide_true, Bool.true_and, Bool.and_true, zok_n0, zok_n1, zok_bI, bI_eq0, bI_eq1, Bool.true_eq_false, Bool.false_eq_true, not_false_eq_true, not_true_eq_false, decide_false, decide_eq_false_iff_not, decide_eq_true_eq, Classical.not_not, ite_not, lit, Nat.reduceEqDiff, Nat.reduceLT, nI_add, nI_lt', nI_le', nI_eq', nI_sub', pk_mul, nI_rem', nI_div', nI_nz, remN, clampN, inb_nI, Nat.not_lt_zero, Nat.zero_le, Nat.le_zero_eq, if_true, if_false, m1_lt0, m1_eq, t_ite, f_ite, nI_and, nI_or, nI_xor, nI_shl1, nI_shr, nI_ushr, nI_not, nI_and_p2, Nat.one_mul, vrf_s, vrf_n, oF_0, oO_0, oF_1, oO_1, oA_2, oS_2, oA_3, oS_3, oF_4, oO_4, oA_5, oS_5, oA_6, oS_6, oA_7, oS_7, oA_8, oS_8, oA_9, oS_9, oF_70, oO_70, oA_71, oS_71, oA_72, oS_72, oF_73, oO_73, oA_74, oS_74, oA_75, oS_75, oA_76, oS_76, oA_77, oS_77, oA_78, oS_78, oA_139, oS_139, oF_140, oO_140, oA_141, oS_141, oA_142, oS_142, oA_143, oS_143, oA_144, oS_144, oF_145, oO_145, oF_146, oO_146, oA_147, oS_147, oF_148, oO_148, oA_149, oS_149, oA_150, oS_150, oA_151, oS_151, oF_152, oO_152, oA_153, oS_153, oF_154, oO_154, oA_155, oS_155, oA_156, oS_156, oA_157, oS_157, oA_158, oS_158, oF_159, oO_159, oA_160, oS_160, oA_161, oS_161, oA_162, oS_162, oA_163, oS_163, oF_164, oO_164, oA_165, oS_165, oA_166, oS_166, oA_167, oS_167, oA_168, oS_168, oF_169, oO_169, oA_170, oS_170, oA_171, oS_171, oA_172, oS_172, oA_173, oS_173, mO_X_hasBit, hl8, y_hasBit, e, bI_f]
        rw [fb_sm_succ, show cnd P Rs (i + 1) l = false by unfold cnd; rw [e]; rfl, f_ite]; rfl
      · have hb : (i + 1).testBit l = true ∧ P.testBit l = true := by rw [Nat.testBit_and, Bool.and_eq_true] at e; exact e
        have hln : l < n := by
          apply Classical.byContradiction; intro z; have := hb.2; rw [bit_big hP (by omega)] at this; cases this
        have hrs : gI (sL (fL M 151 (fun s => lN (wy P Rs s)) (i + 1)) 151 (i + 1) (lN (fb_sm (fun l => if cnd P Rs (i + 1) l = true then wy P Rs (mns (i + 1) (2 ^ l)) else 0) l))) 3 l = nI (Rs l) := h.rs hln
        have hlt := mns_lt hb.1
        have hle := mns_le (Rs l &&& P) (mns (i + 1) (2 ^ l))
        have hle2 : Rs l &&& P < 256 := and_8' (by omega)
        by_cases e2 : mns (Rs l &&& P) (mns (i + 1) (2 ^ l)) = 0
        · have hg1 : gL (sL (fL M 151 (fun s => lN (wy P Rs s)) (i + 1)) 151 (i + 1) (lN (fb_sm (fun l => if cnd P Rs (i + 1) l = true then wy P Rs (mns (i + 1) (2 ^ l)) else 0) l))) 151 (i + 1) = lN (fb_sm (fun l => if cnd P Rs (i + 1) l = true then wy P Rs (mns (i + 1) (2 ^ l)) else 0) l) := gL_sL_eq
          have hg2 : gL (sL (fL M 151 (fun s => lN (wy P Rs s)) (i + 1)) 151 (i + 1) (lN (fb_sm (fun l => if cnd P Rs (i + 1) l = true then wy P Rs (mns (i + 1) (2 ^ l)) else 0) l))) 151 (mns (i + 1) (2 ^ l)) = lN (wy P Rs (mns (i + 1) (2 ^ l))) := by rw [gL_sL_nj (by omega), gL_fL_in hlt]
          simp (disch := omega) only [r_Dis_countOrders_52, r_Dis_countOrders_54, r_Dis_countOrders_57, r_Dis_countOrders_58, r_Dis_countOrders_59, r_Dis_countOrders_61, r_Dis_countOrders_62, r_Dis_countOrders_63, r_Dis_countOrders_64, r_Dis_countOrders_65, r_Dis_countOrders_67, r_Dis_countOrders_68, r_Dis_countOrders_69, r_Dis_countOrders_70, r_Dis_countOrders_72, r_Dis_countOrders_75, r_Dis_countOrders_78, r_Dis_countOrders_78n, r_Dis_countOrders_79, r_Dis_countOrders_81, r_Dis_countOrders_82, r_Dis_countOrders_83, r_Dis_countOrders_84, r_Dis_countOrders_86, r_Dis_countOrders_87, r_Dis_countOrders_88, r_Dis_countOrders_89, r_Dis_countOrders_92, r_Dis_countOrders_92n, r_Dis_countOrders_93, r_Dis_countOrders_96, r_Dis_countOrders_97, r_Dis_countOrders_98, r_Dis_countOrders_99, r_Dis_countOrders_99n, r_Dis_countOrders_100, r_Dis_countOrders_103, r_Dis_countOrders_105, r_Dis_countOrders_106, r_Dis_countOrders_107, r_Dis_countOrders_108, r_Dis_countOrders_111, bnd, tl_s, tl_n, wt_nil, wt_int, wt_ref, wt_null, wt_long, Nat.reduceAdd, Nat.reduceLeDiff, if_true, if_false, decide_true, Bool.true_and, Bool.and_true, zok_n0, zok_n1, zok_bI, bI_eq0, bI_eq1, Bool.true_eq_false, Bool.false_eq_true, not_false_eq_true, not_true_eq_false, decide_false, decide_eq_false_iff_not, decide_eq_true_eq, Classical.not_not, ite_not, lit, Nat.reduceEqDiff, Nat.reduceLT, nI_add, nI_lt', nI_le', nI_eq', nI_sub', pk_mul, nI_rem', nI_div', nI_nz, remN, clampN, inb_nI, Nat.not_lt_zero, Nat.zero_le, Nat.le_zero_eq, if_true, if_false, m1_lt0, m1_eq, t_ite, f_ite, nI_and, nI_or, nI_xor, nI_shl1, nI_shr, nI_ushr, nI_not, nI_and_p2, Nat.one_mul, vrf_s, vrf_n, oF_0, oO_0, oF_1, oO_1, oA_2, oS_2, oA_3, oS_3, oF_4, oO_4, oA_5, oS_5, oA_6, oS_6, oA_7, oS_7, oA_8, oS_8, oA_9, oS_9, oF_70, oO_70, oA_71, oS_71, oA_72, oS_72, oF_73, oO_73, oA_74, oS_74, oA_75, oS_75, oA_76, oS_76, oA_77, oS_77, oA_78, oS_78, oA_139, oS_139, oF_140, oO_140, oA_141, oS_141, oA_142, oS_142, oA_143, oS_143, oA_144, oS_144, oF_145, oO_145, oF_146, oO_146, oA_147, oS_147, oF_148, oO_148, oA_149, oS_149, oA_150, oS_150, oA_151, oS_151, oF_152, oO_152, oA_153, oS_153, oF_154, oO_154, oA_155, oS_155, oA_156, oS_156, oA_157, oS_157, oA_158, oS_158, oF_159, oO_159, oA_160, oS_160, oA_161, oS_161, oA_162, oS_162, oA_163, oS_163, oF_164, oO_164, oA_165, oS_165, oA_166, oS_166, oA_167, oS_167, oA_168, oS_168, oF_169, oO_169, oA_170, oS_170, oA_171, oS_171, oA_172, oS_172, oA_173, oS_173, mO_X_hasBit, hl8, y_hasBit, e, bI_t, hrs, hr', e2, hg1, hg2, lN_add, sL_sL]
          rw [fb_sm_succ, show cnd P Rs (i + 1) l = true by unfold cnd; rw [e, e2]; rfl, t_ite]
        · simp (disch := omega) only [r_Dis_countOrders_52, r_Dis_countOrders_54, r_Dis_countOrders_57, r_Dis_countOrders_58, r_Dis_countOrders_59, r_Dis_countOrders_61, r_Dis_countOrders_62, r_Dis_countOrders_63, r_Dis_countOrders_64, r_Dis_countOrders_65, r_Dis_countOrders_67, r_Dis_countOrders_68, r_Dis_countOrders_69, r_Dis_countOrders_70, r_Dis_countOrders_72, r_Dis_countOrders_75, r_Dis_countOrders_78, r_Dis_countOrders_78n, r_Dis_countOrders_79, r_Dis_countOrders_81, r_Dis_countOrders_82, r_Dis_countOrders_83, r_Dis_countOrders_84, r_Dis_countOrders_86, r_Dis_countOrders_87, r_Dis_countOrders_88, r_Dis_countOrders_89, r_Dis_countOrders_92, r_Dis_countOrders_92n, r_Dis_countOrders_93, r_Dis_countOrders_96, r_Dis_countOrders_97, r_Dis_countOrders_98, r_Dis_countOrders_99, r_Dis_countOrders_99n, r_Dis_countOrders_100, r_Dis_countOrders_103, r_Dis_countOrders_105, r_Dis_countOrders_106, r_Dis_countOrders_107, r_Dis_countOrders_108, r_Dis_countOrders_111, bnd, tl_s, tl_n, wt_nil, wt_int, wt_ref, wt_null, wt_long, Nat.reduceAdd, Nat.reduceLeDiff, if_true, if_false, decide_true, Bool.true_and, Bool.and_true, zok_n0, zok_n1, zok_bI, bI_eq0, bI_eq1, Bool.true_eq_false, Bool.false_eq_true, not_false_eq_true, not_true_eq_false, decide_false, decide_eq_false_iff_not, decide_eq_true_eq, Classical.not_not, ite_not, lit, Nat.reduceEqDiff, Nat.reduceLT, nI_add, nI_lt', nI_le', nI_eq', nI_sub', pk_mul, nI_rem', nI_div', nI_nz, remN, clampN, inb_nI, Nat.not_lt_zero, Nat.zero_le, Nat.le_zero_eq, if_true, if_false, m1_lt0, m1_eq, t_ite, f_ite, nI_and, nI_or, nI_xor, nI_shl1, nI_shr, nI_ushr, nI_not, nI_and_p2, Nat.one_mul, vrf_s, vrf_n, oF_0, oO_0, oF_1, oO_1, oA_2, oS_2, oA_3, oS_3, oF_4, oO_4, oA_5, oS_5, oA_6, oS_6, oA_7, oS_7, oA_8, oS_8, oA_9, oS_9, oF_70, oO_70, oA_71, oS_71, oA_72, oS_72, oF_73, oO_73, oA_74, oS_74, oA_75, oS_75, oA_76, oS_76, oA_77, oS_77, oA_78, oS_78, oA_139, oS_139, oF_140, oO_140, oA_141, oS_141, oA_142, oS_142, oA_143, oS_143, oA_144, oS_144, oF_145, oO_145, oF_146, oO_146, oA_147, oS_147, oF_148, oO_148, oA_149, oS_149, oA_150, oS_150, oA_151, oS_151, oF_152, oO_152, oA_153, oS_153, oF_154, oO_154, oA_155, oS_155, oA_156, oS_156, oA_157, oS_157, oA_158, oS_158, oF_159, oO_159, oA_160, oS_160, oA_161, oS_161, oA_162, oS_162, oA_163, oS_163, oF_164, oO_164, oA_165, oS_165, oA_166, oS_166, oA_167, oS_167, oA_168, oS_168, oF_169, oO_169, oA_170, oS_170, oA_171, oS_171, oA_172, oS_172, oA_173, oS_173, mO_X_hasBit, hl8, y_hasBit, e, bI_t, hrs, e2]
          rw [fb_sm_succ, show cnd P Rs (i + 1) l = false by unfold cnd; rw [e, decide_eq_false e2]; rfl, f_ite]; rfl) 8 0 z.2 rfl trivial
    refine ⟨(some (.int (nI 8)), z5), ?_⟩
    refine Eq.trans hin ?_
    try dsimp only
    rw [r_Dis_countOrders_50]
    simp (disch := omega) only [r_Dis_countOrders_52, r_Dis_countOrders_54, bnd, tl_s, tl_n, wt_nil, wt_int, wt_ref, wt_null, wt_long, Nat.reduceAdd, Nat.reduceLeDiff, if_true, if_false, decide_true, Bool.true_and, Bool.and_true, zok_n0, zok_n1, zok_bI, bI_eq0, bI_eq1, Bool.true_eq_false, Bool.false_eq_true, not_false_eq_true, not_true_eq_false, decide_false, decide_eq_false_iff_not, decide_eq_true_eq, Classical.not_not, ite_not, lit, Nat.reduceEqDiff, Nat.reduceLT, nI_add, nI_lt', nI_le', nI_eq', nI_sub', pk_mul, nI_rem', nI_div', nI_nz, remN, clampN, inb_nI, Nat.not_lt_zero, Nat.zero_le, Nat.le_zero_eq, if_true, if_false, m1_lt0, m1_eq, t_ite, f_ite, nI_and, nI_or, nI_xor, nI_shl1, nI_shr, nI_ushr, nI_not, nI_and_p2, Nat.one_mul, vrf_s, vrf_n, oF_0, oO_0, oF_1, oO_1, oA_2, oS_2, oA_3, oS_3, oF_4, oO_4, oA_5, oS_5, oA_6, oS_6, oA_7, oS_7, oA_8, oS_8, oA_9, oS_9, oF_70, oO_70, oA_71, oS_71, oA_72, oS_72, oF_73, oO_73, oA_74, oS_74, oA_75, oS_75, oA_76, oS_76, oA_77, oS_77, oA_78, oS_78, oA_139, oS_139, oF_140, oO_140, oA_141, oS_141, oA_142, oS_142, oA_143, oS_143, oA_144, oS_144, oF_145, oO_145, oF_146, oO_146, oA_147, oS_147, oF_148, oO_148, oA_149, oS_149, oA_150, oS_150, oA_151, oS_151, oF_152, oO_152, oA_153, oS_153, oF_154, oO_154, oA_155, oS_155, oA_156, oS_156, oA_157, oS_157, oA_158, oS_158, oF_159, oO_159, oA_160, oS_160, oA_161, oS_161, oA_162, oS_162, oA_163, oS_163, oF_164, oO_164, oA_165, oS_165, oA_166, oS_166, oA_167, oS_167, oA_168, oS_168, oF_169, oO_169, oA_170, oS_170, oA_171, oS_171, oA_172, oS_172, oA_173, oS_173, mO_X_hasBit, Nat.le_refl]
    simp (disch := omega) only [r_Dis_countOrders_114, r_Dis_countOrders_117, bnd, tl_s, tl_n, wt_nil, wt_int, wt_ref, wt_null, wt_long, Nat.reduceAdd, Nat.reduceLeDiff, if_true, if_false, decide_true, Bool.true_and, Bool.and_true, zok_n0, zok_n1, zok_bI, bI_eq0, bI_eq1, Bool.true_eq_false, Bool.false_eq_true, not_false_eq_true, not_true_eq_false, decide_false, decide_eq_false_iff_not, decide_eq_true_eq, Classical.not_not, ite_not, lit, Nat.reduceEqDiff, Nat.reduceLT, nI_add, nI_lt', nI_le', nI_eq', nI_sub', pk_mul, nI_rem', nI_div', nI_nz, remN, clampN, inb_nI, Nat.not_lt_zero, Nat.zero_le, Nat.le_zero_eq, if_true, if_false, m1_lt0, m1_eq, t_ite, f_ite, nI_and, nI_or, nI_xor, nI_shl1, nI_shr, nI_ushr, nI_not, nI_and_p2, Nat.one_mul, vrf_s, vrf_n, oF_0, oO_0, oF_1, oO_1, oA_2, oS_2, oA_3, oS_3, oF_4, oO_4, oA_5, oS_5, oA_6, oS_6, oA_7, oS_7, oA_8, oS_8, oA_9, oS_9, oF_70, oO_70, oA_71, oS_71, oA_72, oS_72, oF_73, oO_73, oA_74, oS_74, oA_75, oS_75, oA_76, oS_76, oA_77, oS_77, oA_78, oS_78, oA_139, oS_139, oF_140, oO_140, oA_141, oS_141, oA_142, oS_142, oA_143, oS_143, oA_144, oS_144, oF_145, oO_145, oF_146, oO_146, oA_147, oS_147, oF_148, oO_148, oA_149, oS_149, oA_150, oS_150, oA_151, oS_151, oF_152, oO_152, oA_153, oS_153, oF_154, oO_154, oA_155, oS_155, oA_156, oS_156, oA_157, oS_157, oA_158, oS_158, oF_159, oO_159, oA_160, oS_160, oA_161, oS_161, oA_162, oS_162, oA_163, oS_163, oF_164, oO_164, oA_165, oS_165, oA_166, oS_166, oA_167, oS_167, oA_168, oS_168, oF_169, oO_169, oA_170, oS_170, oA_171, oS_171, oA_172, oS_172, oA_173, oS_173, mO_X_hasBit]
    have hs := fL_s (M := M) (c := 151) (i := i + 1) (f := fun s => lN (wy P Rs s))
    try dsimp only at hs
    rw [← wy_s (by omega), hs]
  · intro z
    have hlt : P < P + 1 := by omega
    have hr : gR (fL M 151 (fun s => lN (wy P Rs s)) (P + 1)) 148 3 = some 151 := h.r 148 3 151 rfl
    try dsimp only
    rw [r_Dis_countOrders_35]
    simp (disch := omega) only [r_Dis_countOrders_36, r_Dis_countOrders_37, bnd, tl_s, tl_n, wt_nil, wt_int, wt_ref, wt_null, wt_long, Nat.reduceAdd, Nat.reduceLeDiff, if_true, if_false, decide_true, Bool.true_and, Bool.and_true, zok_n0, zok_n1, zok_bI, bI_eq0, bI_eq1, Bool.true_eq_false, Bool.false_eq_true, not_false_eq_true, not_true_eq_false, decide_false, decide_eq_false_iff_not, decide_eq_true_eq, Classical.not_not, ite_not, lit, Nat.reduceEqDiff, Nat.reduceLT, nI_add, nI_lt', nI_le', nI_eq', nI_sub', pk_mul, nI_rem', nI_div', nI_nz, remN, clampN, inb_nI, Nat.not_lt_zero, Nat.zero_le, Nat.le_zero_eq, if_true, if_false, m1_lt0, m1_eq, t_ite, f_ite, nI_and, nI_or, nI_xor, nI_shl1, nI_shr, nI_ushr, nI_not, nI_and_p2, Nat.one_mul, vrf_s, vrf_n, oF_0, oO_0, oF_1, oO_1, oA_2, oS_2, oA_3, oS_3, oF_4, oO_4, oA_5, oS_5, oA_6, oS_6, oA_7, oS_7, oA_8, oS_8, oA_9, oS_9, oF_70, oO_70, oA_71, oS_71, oA_72, oS_72, oF_73, oO_73, oA_74, oS_74, oA_75, oS_75, oA_76, oS_76, oA_77, oS_77, oA_78, oS_78, oA_139, oS_139, oF_140, oO_140, oA_141, oS_141, oA_142, oS_142, oA_143, oS_143, oA_144, oS_144, oF_145, oO_145, oF_146, oO_146, oA_147, oS_147, oF_148, oO_148, oA_149, oS_149, oA_150, oS_150, oA_151, oS_151, oF_152, oO_152, oA_153, oS_153, oF_154, oO_154, oA_155, oS_155, oA_156, oS_156, oA_157, oS_157, oA_158, oS_158, oF_159, oO_159, oA_160, oS_160, oA_161, oS_161, oA_162, oS_162, oA_163, oS_163, oF_164, oO_164, oA_165, oS_165, oA_166, oS_166, oA_167, oS_167, oA_168, oS_168, oF_169, oO_169, oA_170, oS_170, oA_171, oS_171, oA_172, oS_172, oA_173, oS_173, mO_X_hasBit, hlt]
    simp (disch := omega) only [r_Dis_countOrders_120, r_Dis_countOrders_120n, r_Dis_countOrders_121, r_Dis_countOrders_124, r_Dis_countOrders_125, r_Dis_countOrders_126, bnd, tl_s, tl_n, wt_nil, wt_int, wt_ref, wt_null, wt_long, Nat.reduceAdd, Nat.reduceLeDiff, if_true, if_false, decide_true, Bool.true_and, Bool.and_true, zok_n0, zok_n1, zok_bI, bI_eq0, bI_eq1, Bool.true_eq_false, Bool.false_eq_true, not_false_eq_true, not_true_eq_false, decide_false, decide_eq_false_iff_not, decide_eq_true_eq, Classical.not_not, ite_not, lit, Nat.reduceEqDiff, Nat.reduceLT, nI_add, nI_lt', nI_le', nI_eq', nI_sub', pk_mul, nI_rem', nI_div', nI_nz, remN, clampN, inb_nI, Nat.not_lt_zero, Nat.zero_le, Nat.le_zero_eq, if_true, if_false, m1_lt0, m1_eq, t_ite, f_ite, nI_and, nI_or, nI_xor, nI_shl1, nI_shr, nI_ushr, nI_not, nI_and_p2, Nat.one_mul, vrf_s, vrf_n, oF_0, oO_0, oF_1, oO_1, oA_2, oS_2, oA_3, oS_3, oF_4, oO_4, oA_5, oS_5, oA_6, oS_6, oA_7, oS_7, oA_8, oS_8, oA_9, oS_9, oF_70, oO_70, oA_71, oS_71, oA_72, oS_72, oF_73, oO_73, oA_74, oS_74, oA_75, oS_75, oA_76, oS_76, oA_77, oS_77, oA_78, oS_78, oA_139, oS_139, oF_140, oO_140, oA_141, oS_141, oA_142, oS_142, oA_143, oS_143, oA_144, oS_144, oF_145, oO_145, oF_146, oO_146, oA_147, oS_147, oF_148, oO_148, oA_149, oS_149, oA_150, oS_150, oA_151, oS_151, oF_152, oO_152, oA_153, oS_153, oF_154, oO_154, oA_155, oS_155, oA_156, oS_156, oA_157, oS_157, oA_158, oS_158, oF_159, oO_159, oA_160, oS_160, oA_161, oS_161, oA_162, oS_162, oA_163, oS_163, oF_164, oO_164, oA_165, oS_165, oA_166, oS_166, oA_167, oS_167, oA_168, oS_168, oF_169, oO_169, oA_170, oS_170, oA_171, oS_171, oA_172, oS_172, oA_173, oS_173, mO_X_hasBit, hr, gL_fL_in hlt]
theorem x_orders {P : Nat} (h : KM M n W Rs m) (hP : P < 2 ^ n) : ∃ M', D PSM M M' ∧ ev (d + 3) m_M_orders [.ref 174, .int (nI P)] NX M = some (some (.long (lN (wy P Rs P))), NX, M') := by
  have hn := h.n8
  have h2 := p2_le8 hn
  -- all begin with none
  obtain ⟨M1, ⟨a1, a2⟩, a3⟩ := lpE (R := fun i (X : Mem) => run (ev (d + 2)) m_M_orders 14 [some (.ref 174), some (.int (nI P)), some (.int (nI i)), none] [] NX X) (I := fun i X => D PSM M X ∧ ∀ s, s < i → gL X 187 s = lN (pu P Rs 0 0 s)) (n := P + 1) (by
    intro i X hi ⟨x1, x2⟩
    have hK := kmM h x1
    have hni : ¬ P < i := by omega
    refine ⟨sL X 187 i (lN (pu P Rs 0 0 i)), ⟨x1.sL (by unfold PSM; omega), fun s hs => ?_⟩, ?_⟩
    · by_cases e : s = i
      · rw [e, gL_sL_eq]
      · rw [gL_sL_nj e]; exact x2 s (by omega)
    · try dsimp only
      rw [r_M_orders_14]
      have e0 : pu P Rs 0 0 i = if i = 0 then 1 else 0 := by
        by_cases e : i = 0
        · rw [if_pos e]; unfold pu; rw [if_pos e]
        · rw [if_neg e]; unfold pu; rw [if_neg e]
          have : ∀ l, l < 8 → (if (cnd P Rs i l && puc 0 0 i l) = true then wy P Rs (mns i (2 ^ l)) else 0) = (fun _ => 0) l := by
            intro l _
            rw [if_neg]
            rw [Bool.and_eq_true]
            intro z
            have := of_decide_eq_true z.2
            omega
          rw [fb_sm_cong this]; rfl
      by_cases e : i = 0
      · subst e
        simp (disch := omega) only [r_M_orders_15, r_M_orders_16, r_M_orders_19, r_M_orders_19n, r_M_orders_20, r_M_orders_23, r_M_orders_24, r_M_orders_25, r_M_orders_28, r_M_orders_29, r_M_orders_32, r_M_orders_33, r_M_orders_34, r_M_orders_37, bnd, tl_s, tl_n, wt_nil, wt_int, wt_ref, wt_null, wt_long, Nat.reduceAdd, Nat.reduceLeDiff, if_true, if_false, decide_true, Bool.true_and, Bool.and_true, zok_n0, zok_n1, zok_bI, bI_eq0, bI_eq1, Bool.true_eq_false, Bool.false_eq_true, not_false_eq_true, not_true_eq_false, decide_false, decide_eq_false_iff_not, decide_eq_true_eq, Classical.not_not, ite_not, lit, Nat.reduceEqDiff, Nat.reduceLT, nI_add, nI_lt', nI_le', nI_eq', nI_sub', pk_mul, nI_rem', nI_div', nI_nz, remN, clampN, inb_nI, Nat.not_lt_zero, Nat.zero_le, Nat.le_zero_eq, if_true, if_false, m1_lt0, m1_eq, t_ite, f_ite, nI_and, nI_or, nI_xor, nI_shl1, nI_shr, nI_ushr, nI_not, nI_and_p2, Nat.one_mul, vrf_s, vrf_n, oF_174, oO_174, oA_175, oS_175, oA_176, oS_176, oA_177, oS_177, oA_178, oS_178, oA_179, oS_179, oA_180, oS_180, oA_181, oS_181, oA_182, oS_182, oA_183, oS_183, oA_184, oS_184, oA_185, oS_185, oA_186, oS_186, oA_187, oS_187, oA_188, oS_188, mO_M_arePlanks, mO_M_isNext, hni, hK.1.wa, litL]
        rw [e0, if_pos rfl]
      · simp (disch := omega) only [r_M_orders_15, r_M_orders_16, r_M_orders_19, r_M_orders_19n, r_M_orders_20, r_M_orders_23, r_M_orders_24, r_M_orders_25, r_M_orders_28, r_M_orders_29, r_M_orders_32, r_M_orders_33, r_M_orders_34, r_M_orders_37, bnd, tl_s, tl_n, wt_nil, wt_int, wt_ref, wt_null, wt_long, Nat.reduceAdd, Nat.reduceLeDiff, if_true, if_false, decide_true, Bool.true_and, Bool.and_true, zok_n0, zok_n1, zok_bI, bI_eq0, bI_eq1, Bool.true_eq_false, Bool.false_eq_true, not_false_eq_true, not_true_eq_false, decide_false, decide_eq_false_iff_not, decide_eq_true_eq, Classical.not_not, ite_not, lit, Nat.reduceEqDiff, Nat.reduceLT, nI_add, nI_lt', nI_le', nI_eq', nI_sub', pk_mul, nI_rem', nI_div', nI_nz, remN, clampN, inb_nI, Nat.not_lt_zero, Nat.zero_le, Nat.le_zero_eq, if_true, if_false, m1_lt0, m1_eq, t_ite, f_ite, nI_and, nI_or, nI_xor, nI_shl1, nI_shr, nI_ushr, nI_not, nI_and_p2, Nat.one_mul, vrf_s, vrf_n, oF_174, oO_174, oA_175, oS_175, oA_176, oS_176, oA_177, oS_177, oA_178, oS_178, oA_179, oS_179, oA_180, oS_180, oA_181, oS_181, oA_182, oS_182, oA_183, oS_183, oA_184, oS_184, oA_185, oS_185, oA_186, oS_186, oA_187, oS_187, oA_188, oS_188, mO_M_arePlanks, mO_M_isNext, hni, hK.1.wa, litL, e]
        rw [e0, if_neg e]) (P + 1) 0 M (by omega) ⟨D.rfl', fun s hs => by omega⟩
  obtain ⟨⟨M2, z⟩, ⟨b1, b2⟩, b3⟩ := lpE (R := fun t (x : Mem × Option Value) => run (ev (d + 2)) m_M_orders 42 [some (.ref 174), some (.int (nI P)), some (.int (nI t)), x.2] [] NX x.1) (I := fun t x => D PSM M x.1 ∧ ∀ s, s < P + 1 → gL x.1 187 s = lN (pu P Rs t 0 s)) (n := P) (by
    intro t ⟨X, z⟩ ht ⟨x1, x2⟩
    try dsimp only at x1 x2
    have hnt : ¬ P ≤ t := by omega
    obtain ⟨Y, ⟨y1, y2⟩, y3⟩ := lpE (R := fun p (Y : Mem) => run (ev (d + 2)) m_M_orders 49 [some (.ref 174), some (.int (nI P)), some (.int (nI t)), some (.int (nI p))] [] NX Y) (I := fun p Y => D PSM M Y ∧ ∀ s, s < P + 1 → gL Y 187 s = lN (pu P Rs t p s)) (n := n) (by
      intro p Y hp ⟨y1, y2⟩
      have hK := kmM h y1
      have hnp : ¬ n ≤ p := by omega
      have hw := wy_lt (P := P) (Rs := Rs) (s := t) (by omega)
      have hg := y2 t (by omega)
      rw [pu_all (Nat.le_refl t)] at hg
      have hx := x_isNext (d := d) (P := P) (s := t) (p := p) hK (by omega) (by omega) hp
      have hst := fun s => pu_step (P := P) (Rs := Rs) (t := t) (p := p) (s := s) (by omega)
      by_cases e0 : wy P Rs t = 0
      · refine ⟨Y, ⟨y1, fun s hs => ?_⟩, ?_⟩
        · rw [y2 s hs, hst s, e0, ite_same, Nat.add_zero]
        · try dsimp only
          rw [r_M_orders_49]
          simp (disch := omega) only [r_M_orders_50, r_M_orders_50n, r_M_orders_51, r_M_orders_54, r_M_orders_55, r_M_orders_56, r_M_orders_59, r_M_orders_59n, r_M_orders_60, r_M_orders_63, r_M_orders_64, r_M_orders_65, r_M_orders_66, r_M_orders_67, r_M_orders_70, r_M_orders_70n, r_M_orders_71, r_M_orders_72, r_M_orders_73, r_M_orders_74, r_M_orders_77, r_M_orders_80, r_M_orders_80n, r_M_orders_81, r_M_orders_84, r_M_orders_85, r_M_orders_86, r_M_orders_87, r_M_orders_88, r_M_orders_89, r_M_orders_90, r_M_orders_91, r_M_orders_91n, r_M_orders_92, r_M_orders_95, r_M_orders_96, r_M_orders_97, r_M_orders_98, r_M_orders_99, r_M_orders_102, bnd, tl_s, tl_n, wt_nil, wt_int, wt_ref, wt_null, wt_long, Nat.reduceAdd, Nat.reduceLeDiff, if_true, if_false, decide_true, Bool.true_and, Bool.and_true, zok_n0, zok_n1, zok_bI, bI_eq0, bI_eq1, Bool.true_eq_false, Bool.false_eq_true, not_false_eq_true, not_true_eq_false, decide_false, decide_eq_false_iff_not, decide_eq_true_eq, Classical.not_not, ite_not, lit, Nat.reduceEqDiff, Nat.reduceLT, nI_add, nI_lt', nI_le', nI_eq', nI_sub', pk_mul, nI_rem', nI_div', nI_nz, remN, clampN, inb_nI, Nat.not_lt_zero, Nat.zero_le, Nat.le_zero_eq, if_true, if_false, m1_lt0, m1_eq, t_ite, f_ite, nI_and, nI_or, nI_xor, nI_shl1, nI_shr, nI_ushr, nI_not, nI_and_p2, Nat.one_mul, vrf_s, vrf_n, oF_174, oO_174, oA_175, oS_175, oA_176, oS_176, oA_177, oS_177, oA_178, oS_178, oA_179, oS_179, oA_180, oS_180, oA_181, oS_181, oA_182, oS_182, oA_183, oS_183, oA_184, oS_184, oA_185, oS_185, oA_186, oS_186, oA_187, oS_187, oA_188, oS_188, mO_M_arePlanks, mO_M_isNext, hK.f, hK.nn, hnp, hK.1.wa, hg, litL, cmp_le, lN_le', e0]
      · have e0' : ¬ wy P Rs t ≤ 0 := by omega
        cases en : (P.testBit p && !t.testBit p && decide (mns (Rs p &&& P) t = 0))
        · rw [en] at hx
          refine ⟨Y, ⟨y1, fun s hs => ?_⟩, ?_⟩
          · rw [y2 s hs, hst s, if_neg, Nat.add_zero]
            intro ⟨_, c1, c2, c3⟩
            rw [c1, c2, c3] at en
            cases en
          · try dsimp only
            rw [r_M_orders_49]
            simp (disch := omega) only [r_M_orders_50, r_M_orders_50n, r_M_orders_51, r_M_orders_54, r_M_orders_55, r_M_orders_56, r_M_orders_59, r_M_orders_59n, r_M_orders_60, r_M_orders_63, r_M_orders_64, r_M_orders_65, r_M_orders_66, r_M_orders_67, r_M_orders_70, r_M_orders_70n, r_M_orders_71, r_M_orders_72, r_M_orders_73, r_M_orders_74, r_M_orders_77, r_M_orders_80, r_M_orders_80n, r_M_orders_81, r_M_orders_84, r_M_orders_85, r_M_orders_86, r_M_orders_87, r_M_orders_88, r_M_orders_89, r_M_orders_90, r_M_orders_91, r_M_orders_91n, r_M_orders_92, r_M_orders_95, r_M_orders_96, r_M_orders_97, r_M_orders_98, r_M_orders_99, r_M_orders_102, bnd, tl_s, tl_n, wt_nil, wt_int, wt_ref, wt_null, wt_long, Nat.reduceAdd, Nat.reduceLeDiff, if_true, if_false, decide_true, Bool.true_and, Bool.and_true, zok_n0, zok_n1, zok_bI, bI_eq0, bI_eq1, Bool.true_eq_false, Bool.false_eq_true, not_false_eq_true, not_true_eq_false, decide_false, decide_eq_false_iff_not, decide_eq_true_eq, Classical.not_not, ite_not, lit, Nat.reduceEqDiff, Nat.reduceLT, nI_add, nI_lt', nI_le', nI_eq', nI_sub', pk_mul, nI_rem', nI_div', nI_nz, remN, clampN, inb_nI, Nat.not_lt_zero, Nat.zero_le, Nat.le_zero_eq, if_true, if_false, m1_lt0, m1_eq, t_ite, f_ite, nI_and, nI_or, nI_xor, nI_shl1, nI_shr, nI_ushr, nI_not, nI_and_p2, Nat.one_mul, vrf_s, vrf_n, oF_174, oO_174, oA_175, oS_175, oA_176, oS_176, oA_177, oS_177, oA_178, oS_178, oA_179, oS_179, oA_180, oS_180, oA_181, oS_181, oA_182, oS_182, oA_183, oS_183, oA_184, oS_184, oA_185, oS_185, oA_186, oS_186, oA_187, oS_187, oA_188, oS_188, mO_M_arePlanks, mO_M_isNext, hK.f, hK.nn, hnp, hK.1.wa, hg, litL, cmp_le, lN_le', e0, e0', hx, bI_f]
        · rw [en] at hx
          have hen := en
          rw [Bool.and_eq_true, Bool.and_eq_true, Bool.not_eq_true', decide_eq_true_eq] at hen
          have ho : t ||| 2 ^ p < 256 := or_8 (by omega) (p2_8 (by omega))
          refine ⟨sL Y 187 (t ||| 2 ^ p) (gL Y 187 (t ||| 2 ^ p) + lN (wy P Rs t)), ⟨y1.sL (by unfold PSM; omega), fun s hs => ?_⟩, ?_⟩
          · by_cases es : s = t ||| 2 ^ p
            · rw [← es, gL_sL_eq, y2 s hs, hst s, if_pos ⟨es, hen.1.1, hen.1.2, hen.2⟩, lN_add]
            · rw [gL_sL_nj es, y2 s hs, hst s, if_neg (fun z => es z.1), Nat.add_zero]
          · try dsimp only
            rw [r_M_orders_49]
            simp (disch := omega) only [r_M_orders_50, r_M_orders_50n, r_M_orders_51, r_M_orders_54, r_M_orders_55, r_M_orders_56, r_M_orders_59, r_M_orders_59n, r_M_orders_60, r_M_orders_63, r_M_orders_64, r_M_orders_65, r_M_orders_66, r_M_orders_67, r_M_orders_70, r_M_orders_70n, r_M_orders_71, r_M_orders_72, r_M_orders_73, r_M_orders_74, r_M_orders_77, r_M_orders_80, r_M_orders_80n, r_M_orders_81, r_M_orders_84, r_M_orders_85, r_M_orders_86, r_M_orders_87, r_M_orders_88, r_M_orders_89, r_M_orders_90, r_M_orders_91, r_M_orders_91n, r_M_orders_92, r_M_orders_95, r_M_orders_96, r_M_orders_97, r_M_orders_98, r_M_orders_99, r_M_orders_102, bnd, tl_s, tl_n, wt_nil, wt_int, wt_ref, wt_null, wt_long, Nat.reduceAdd, Nat.reduceLeDiff, if_true, if_false, decide_true, Bool.true_and, Bool.and_true, zok_n0, zok_n1, zok_bI, bI_eq0, bI_eq1, Bool.true_eq_false, Bool.false_eq_true, not_false_eq_true, not_true_eq_false, decide_false, decide_eq_false_iff_not, decide_eq_true_eq, Classical.not_not, ite_not, lit, Nat.reduceEqDiff, Nat.reduceLT, nI_add, nI_lt', nI_le', nI_eq', nI_sub', pk_mul, nI_rem', nI_div', nI_nz, remN, clampN, inb_nI, Nat.not_lt_zero, Nat.zero_le, Nat.le_zero_eq, if_true, if_false, m1_lt0, m1_eq, t_ite, f_ite, nI_and, nI_or, nI_xor, nI_shl1, nI_shr, nI_ushr, nI_not, nI_and_p2, Nat.one_mul, vrf_s, vrf_n, oF_174, oO_174, oA_175, oS_175, oA_176, oS_176, oA_177, oS_177, oA_178, oS_178, oA_179, oS_179, oA_180, oS_180, oA_181, oS_181, oA_182, oS_182, oA_183, oS_183, oA_184, oS_184, oA_185, oS_185, oA_186, oS_186, oA_187, oS_187, oA_188, oS_188, mO_M_arePlanks, mO_M_isNext, hK.f, hK.nn, hnp, hK.1.wa, hg, litL, cmp_le, lN_le', e0, e0', hx, bI_t]) n 0 X (by omega) ⟨x1, x2⟩
    have hK := kmM h y1
    refine ⟨(Y, some (.int (nI n))), ⟨y1, fun s hs => by rw [y2 s hs, pu_next hP]⟩, ?_⟩
    try dsimp only
    rw [r_M_orders_42]
    simp (disch := omega) only [r_M_orders_43, r_M_orders_44, r_M_orders_47, r_M_orders_48, bnd, tl_s, tl_n, wt_nil, wt_int, wt_ref, wt_null, wt_long, Nat.reduceAdd, Nat.reduceLeDiff, if_true, if_false, decide_true, Bool.true_and, Bool.and_true, zok_n0, zok_n1, zok_bI, bI_eq0, bI_eq1, Bool.true_eq_false, Bool.false_eq_true, not_false_eq_true, not_true_eq_false, decide_false, decide_eq_false_iff_not, decide_eq_true_eq, Classical.not_not, ite_not, lit, Nat.reduceEqDiff, Nat.reduceLT, nI_add, nI_lt', nI_le', nI_eq', nI_sub', pk_mul, nI_rem', nI_div', nI_nz, remN, clampN, inb_nI, Nat.not_lt_zero, Nat.zero_le, Nat.le_zero_eq, if_true, if_false, m1_lt0, m1_eq, t_ite, f_ite, nI_and, nI_or, nI_xor, nI_shl1, nI_shr, nI_ushr, nI_not, nI_and_p2, Nat.one_mul, vrf_s, vrf_n, oF_174, oO_174, oA_175, oS_175, oA_176, oS_176, oA_177, oS_177, oA_178, oS_178, oA_179, oS_179, oA_180, oS_180, oA_181, oS_181, oA_182, oS_182, oA_183, oS_183, oA_184, oS_184, oA_185, oS_185, oA_186, oS_186, oA_187, oS_187, oA_188, oS_188, mO_M_arePlanks, mO_M_isNext, hnt]
    refine Eq.trans y3 ?_
    try dsimp only
    rw [r_M_orders_49]
    simp (disch := omega) only [r_M_orders_50, r_M_orders_50n, r_M_orders_51, r_M_orders_54, r_M_orders_55, r_M_orders_56, bnd, tl_s, tl_n, wt_nil, wt_int, wt_ref, wt_null, wt_long, Nat.reduceAdd, Nat.reduceLeDiff, if_true, if_false, decide_true, Bool.true_and, Bool.and_true, zok_n0, zok_n1, zok_bI, bI_eq0, bI_eq1, Bool.true_eq_false, Bool.false_eq_true, not_false_eq_true, not_true_eq_false, decide_false, decide_eq_false_iff_not, decide_eq_true_eq, Classical.not_not, ite_not, lit, Nat.reduceEqDiff, Nat.reduceLT, nI_add, nI_lt', nI_le', nI_eq', nI_sub', pk_mul, nI_rem', nI_div', nI_nz, remN, clampN, inb_nI, Nat.not_lt_zero, Nat.zero_le, Nat.le_zero_eq, if_true, if_false, m1_lt0, m1_eq, t_ite, f_ite, nI_and, nI_or, nI_xor, nI_shl1, nI_shr, nI_ushr, nI_not, nI_and_p2, Nat.one_mul, vrf_s, vrf_n, oF_174, oO_174, oA_175, oS_175, oA_176, oS_176, oA_177, oS_177, oA_178, oS_178, oA_179, oS_179, oA_180, oS_180, oA_181, oS_181, oA_182, oS_182, oA_183, oS_183, oA_184, oS_184, oA_185, oS_185, oA_186, oS_186, oA_187, oS_187, oA_188, oS_188, mO_M_arePlanks, mO_M_isNext, hK.f, hK.nn, Nat.le_refl]
    simp (disch := omega) only [r_M_orders_105, r_M_orders_108, bnd, tl_s, tl_n, wt_nil, wt_int, wt_ref, wt_null, wt_long, Nat.reduceAdd, Nat.reduceLeDiff, if_true, if_false, decide_true, Bool.true_and, Bool.and_true, zok_n0, zok_n1, zok_bI, bI_eq0, bI_eq1, Bool.true_eq_false, Bool.false_eq_true, not_false_eq_true, not_true_eq_false, decide_false, decide_eq_false_iff_not, decide_eq_true_eq, Classical.not_not, ite_not, lit, Nat.reduceEqDiff, Nat.reduceLT, nI_add, nI_lt', nI_le', nI_eq', nI_sub', pk_mul, nI_rem', nI_div', nI_nz, remN, clampN, inb_nI, Nat.not_lt_zero, Nat.zero_le, Nat.le_zero_eq, if_true, if_false, m1_lt0, m1_eq, t_ite, f_ite, nI_and, nI_or, nI_xor, nI_shl1, nI_shr, nI_ushr, nI_not, nI_and_p2, Nat.one_mul, vrf_s, vrf_n, oF_174, oO_174, oA_175, oS_175, oA_176, oS_176, oA_177, oS_177, oA_178, oS_178, oA_179, oS_179, oA_180, oS_180, oA_181, oS_181, oA_182, oS_182, oA_183, oS_183, oA_184, oS_184, oA_185, oS_185, oA_186, oS_186, oA_187, oS_187, oA_188, oS_188, mO_M_arePlanks, mO_M_isNext]) P 0 (M1, none) (by omega) ⟨a1, a2⟩
  try dsimp only at b1 b2
  have hK := kmM h b1
  refine ⟨M2, b1, ?_⟩
  have hlt : P < P + 1 := by omega
  rw [e_M_orders]
  simp (disch := omega) only [r_M_orders_0, r_M_orders_0n, r_M_orders_1, r_M_orders_2, r_M_orders_5, r_M_orders_8, r_M_orders_11, r_M_orders_12, r_M_orders_13, bnd, tl_s, tl_n, wt_nil, wt_int, wt_ref, wt_null, wt_long, Nat.reduceAdd, Nat.reduceLeDiff, if_true, if_false, decide_true, Bool.true_and, Bool.and_true, zok_n0, zok_n1, zok_bI, bI_eq0, bI_eq1, Bool.true_eq_false, Bool.false_eq_true, not_false_eq_true, not_true_eq_false, decide_false, decide_eq_false_iff_not, decide_eq_true_eq, Classical.not_not, ite_not, lit, Nat.reduceEqDiff, Nat.reduceLT, nI_add, nI_lt', nI_le', nI_eq', nI_sub', pk_mul, nI_rem', nI_div', nI_nz, remN, clampN, inb_nI, Nat.not_lt_zero, Nat.zero_le, Nat.le_zero_eq, if_true, if_false, m1_lt0, m1_eq, t_ite, f_ite, nI_and, nI_or, nI_xor, nI_shl1, nI_shr, nI_ushr, nI_not, nI_and_p2, Nat.one_mul, vrf_s, vrf_n, oF_174, oO_174, oA_175, oS_175, oA_176, oS_176, oA_177, oS_177, oA_178, oS_178, oA_179, oS_179, oA_180, oS_180, oA_181, oS_181, oA_182, oS_182, oA_183, oS_183, oA_184, oS_184, oA_185, oS_185, oA_186, oS_186, oA_187, oS_187, oA_188, oS_188, mO_M_arePlanks, mO_M_isNext, x_arePlanks h hP]
  refine Eq.trans a3 ?_
  try dsimp only
  rw [r_M_orders_14]
  simp (disch := omega) only [r_M_orders_15, r_M_orders_16, bnd, tl_s, tl_n, wt_nil, wt_int, wt_ref, wt_null, wt_long, Nat.reduceAdd, Nat.reduceLeDiff, if_true, if_false, decide_true, Bool.true_and, Bool.and_true, zok_n0, zok_n1, zok_bI, bI_eq0, bI_eq1, Bool.true_eq_false, Bool.false_eq_true, not_false_eq_true, not_true_eq_false, decide_false, decide_eq_false_iff_not, decide_eq_true_eq, Classical.not_not, ite_not, lit, Nat.reduceEqDiff, Nat.reduceLT, nI_add, nI_lt', nI_le', nI_eq', nI_sub', pk_mul, nI_rem', nI_div', nI_nz, remN, clampN, inb_nI, Nat.not_lt_zero, Nat.zero_le, Nat.le_zero_eq, if_true, if_false, m1_lt0, m1_eq, t_ite, f_ite, nI_and, nI_or, nI_xor, nI_shl1, nI_shr, nI_ushr, nI_not, nI_and_p2, Nat.one_mul, vrf_s, vrf_n, oF_174, oO_174, oA_175, oS_175, oA_176, oS_176, oA_177, oS_177, oA_178, oS_178, oA_179, oS_179, oA_180, oS_180, oA_181, oS_181, oA_182, oS_182, oA_183, oS_183, oA_184, oS_184, oA_185, oS_185, oA_186, oS_186, oA_187, oS_187, oA_188, oS_188, mO_M_arePlanks, mO_M_isNext, hlt]
  simp (disch := omega) only [r_M_orders_40, r_M_orders_41, bnd, tl_s, tl_n, wt_nil, wt_int, wt_ref, wt_null, wt_long, Nat.reduceAdd, Nat.reduceLeDiff, if_true, if_false, decide_true, Bool.true_and, Bool.and_true, zok_n0, zok_n1, zok_bI, bI_eq0, bI_eq1, Bool.true_eq_false, Bool.false_eq_true, not_false_eq_true, not_true_eq_false, decide_false, decide_eq_false_iff_not, decide_eq_true_eq, Classical.not_not, ite_not, lit, Nat.reduceEqDiff, Nat.reduceLT, nI_add, nI_lt', nI_le', nI_eq', nI_sub', pk_mul, nI_rem', nI_div', nI_nz, remN, clampN, inb_nI, Nat.not_lt_zero, Nat.zero_le, Nat.le_zero_eq, if_true, if_false, m1_lt0, m1_eq, t_ite, f_ite, nI_and, nI_or, nI_xor, nI_shl1, nI_shr, nI_ushr, nI_not, nI_and_p2, Nat.one_mul, vrf_s, vrf_n, oF_174, oO_174, oA_175, oS_175, oA_176, oS_176, oA_177, oS_177, oA_178, oS_178, oA_179, oS_179, oA_180, oS_180, oA_181, oS_181, oA_182, oS_182, oA_183, oS_183, oA_184, oS_184, oA_185, oS_185, oA_186, oS_186, oA_187, oS_187, oA_188, oS_188, mO_M_arePlanks, mO_M_isNext]
  refine Eq.trans b3 ?_
  try dsimp only
  rw [r_M_orders_42]
  simp (disch := omega) only [r_M_orders_43, r_M_orders_44, bnd, tl_s, tl_n, wt_nil, wt_int, wt_ref, wt_null, wt_long, Nat.reduceAdd, Nat.reduceLeDiff, if_true, if_false, decide_true, Bool.true_and, Bool.and_true, zok_n0, zok_n1, zok_bI, bI_eq0, bI_eq1, Bool.true_eq_false, Bool.false_eq_true, not_false_eq_true, not_true_eq_false, decide_false, decide_eq_false_iff_not, decide_eq_true_eq, Classical.not_not, ite_not, lit, Nat.reduceEqDiff, Nat.reduceLT, nI_add, nI_lt', nI_le', nI_eq', nI_sub', pk_mul, nI_rem', nI_div', nI_nz, remN, clampN, inb_nI, Nat.not_lt_zero, Nat.zero_le, Nat.le_zero_eq, if_true, if_false, m1_lt0, m1_eq, t_ite, f_ite, nI_and, nI_or, nI_xor, nI_shl1, nI_shr, nI_ushr, nI_not, nI_and_p2, Nat.one_mul, vrf_s, vrf_n, oF_174, oO_174, oA_175, oS_175, oA_176, oS_176, oA_177, oS_177, oA_178, oS_178, oA_179, oS_179, oA_180, oS_180, oA_181, oS_181, oA_182, oS_182, oA_183, oS_183, oA_184, oS_184, oA_185, oS_185, oA_186, oS_186, oA_187, oS_187, oA_188, oS_188, mO_M_arePlanks, mO_M_isNext, Nat.le_refl]
  simp (disch := omega) only [r_M_orders_111, r_M_orders_111n, r_M_orders_112, r_M_orders_115, r_M_orders_116, r_M_orders_117, bnd, tl_s, tl_n, wt_nil, wt_int, wt_ref, wt_null, wt_long, Nat.reduceAdd, Nat.reduceLeDiff, if_true, if_false, decide_true, Bool.true_and, Bool.and_true, zok_n0, zok_n1, zok_bI, bI_eq0, bI_eq1, Bool.true_eq_false, Bool.false_eq_true, not_false_eq_true, not_true_eq_false, decide_false, decide_eq_false_iff_not, decide_eq_true_eq, Classical.not_not, ite_not, lit, Nat.reduceEqDiff, Nat.reduceLT, nI_add, nI_lt', nI_le', nI_eq', nI_sub', pk_mul, nI_rem', nI_div', nI_nz, remN, clampN, inb_nI, Nat.not_lt_zero, Nat.zero_le, Nat.le_zero_eq, if_true, if_false, m1_lt0, m1_eq, t_ite, f_ite, nI_and, nI_or, nI_xor, nI_shl1, nI_shr, nI_ushr, nI_not, nI_and_p2, Nat.one_mul, vrf_s, vrf_n, oF_174, oO_174, oA_175, oS_175, oA_176, oS_176, oA_177, oS_177, oA_178, oS_178, oA_179, oS_179, oA_180, oS_180, oA_181, oS_181, oA_182, oS_182, oA_183, oS_183, oA_184, oS_184, oA_185, oS_185, oA_186, oS_186, oA_187, oS_187, oA_188, oS_188, mO_M_arePlanks, mO_M_isNext, hK.1.wa, b2 P hlt]
  rw [pu_all (Nat.le_refl P)]
theorem P_orders {v : Int32} (hX : KX M 4 n W Rs m) (hM : KM M n W Rs m) : PubR m_X_orders m_M_orders [.int v] M := by
  have h2 := p2_le8 hX.n8
  rcases ix_cases v (n := 2 ^ n) (by omega) with ⟨P, hP, rfl⟩ | hv
  · have d1 : D PSX M (fL M 151 (fun s => lN (wy P Rs s)) (P + 1)) := D.rfl'.fL (fun j _ => by unfold PSX; omega)
    obtain ⟨M2, m1, m2⟩ := x_orders (d := 97) (kmX hM d1) hP
    refine ⟨.long (lN (wy P Rs P)), _, M2, ?_, d1, m2, m1⟩
    rw [e_X_orders]
    simp (disch := omega) only [r_X_orders_0, r_X_orders_0n, r_X_orders_1, r_X_orders_4, r_X_orders_5, r_X_orders_8, r_X_orders_11, r_X_orders_14, r_X_orders_15, r_X_orders_15n, r_X_orders_16, r_X_orders_19, r_X_orders_19n, r_X_orders_20, r_X_orders_23, r_X_orders_26, r_X_orders_27, r_X_orders_30, bnd, tl_s, tl_n, wt_nil, wt_int, wt_ref, wt_null, wt_long, Nat.reduceAdd, Nat.reduceLeDiff, if_true, if_false, decide_true, Bool.true_and, Bool.and_true, zok_n0, zok_n1, zok_bI, bI_eq0, bI_eq1, Bool.true_eq_false, Bool.false_eq_true, not_false_eq_true, not_true_eq_false, decide_false, decide_eq_false_iff_not, decide_eq_true_eq, Classical.not_not, ite_not, lit, Nat.reduceEqDiff, Nat.reduceLT, nI_add, nI_lt', nI_le', nI_eq', nI_sub', pk_mul, nI_rem', nI_div', nI_nz, remN, clampN, inb_nI, Nat.not_lt_zero, Nat.zero_le, Nat.le_zero_eq, if_true, if_false, m1_lt0, m1_eq, t_ite, f_ite, nI_and, nI_or, nI_xor, nI_shl1, nI_shr, nI_ushr, nI_not, nI_and_p2, Nat.one_mul, vrf_s, vrf_n, oF_0, oO_0, oF_1, oO_1, oA_2, oS_2, oA_3, oS_3, oF_4, oO_4, oA_5, oS_5, oA_6, oS_6, oA_7, oS_7, oA_8, oS_8, oA_9, oS_9, oF_70, oO_70, oA_71, oS_71, oA_72, oS_72, oF_73, oO_73, oA_74, oS_74, oA_75, oS_75, oA_76, oS_76, oA_77, oS_77, oA_78, oS_78, oA_139, oS_139, oF_140, oO_140, oA_141, oS_141, oA_142, oS_142, oA_143, oS_143, oA_144, oS_144, oF_145, oO_145, oF_146, oO_146, oA_147, oS_147, oF_148, oO_148, oA_149, oS_149, oA_150, oS_150, oA_151, oS_151, oF_152, oO_152, oA_153, oS_153, oF_154, oO_154, oA_155, oS_155, oA_156, oS_156, oA_157, oS_157, oA_158, oS_158, oF_159, oO_159, oA_160, oS_160, oA_161, oS_161, oA_162, oS_162, oA_163, oS_163, oF_164, oO_164, oA_165, oS_165, oA_166, oS_166, oA_167, oS_167, oA_168, oS_168, oF_169, oO_169, oA_170, oS_170, oA_171, oS_171, oA_172, oS_172, oA_173, oS_173, mO_Site_areBits, mO_Dis_countOrders, hX.r 0 0 1 rfl, hX.r 0 1 70 rfl, hX.r 0 2 139 rfl, hX.r 0 3 140 rfl, hX.r 0 4 145 rfl, hX.r 0 5 146 rfl, hX.r 0 6 148 rfl, hX.r 0 7 152 rfl, hX.r 1 1 2 rfl, hX.r 1 2 3 rfl, hX.r 1 3 4 rfl, hX.r 1 4 6 rfl, hX.r 1 9 7 rfl, hX.r 1 11 8 rfl, hX.r 1 12 9 rfl, hX.r 4 6 5 rfl, hX.r 152 6 153 rfl, hX.r 140 0 141 rfl, hX.r 140 2 142 rfl, hX.r 140 3 143 rfl, hX.r 140 4 144 rfl, hX.r 146 0 147 rfl, hX.r 148 0 149 rfl, hX.r 148 2 150 rfl, hX.r 148 3 151 rfl, y_areBits hX hP, y_countOrders hX hP]
  · refine PubR.same (.long (-1)) ?_ ?_
    · rw [e_X_orders]
      simp (disch := omega) only [r_X_orders_0, r_X_orders_0n, r_X_orders_1, r_X_orders_4, r_X_orders_5, r_X_orders_8, r_X_orders_11, r_X_orders_14, r_X_orders_15, r_X_orders_15n, r_X_orders_16, r_X_orders_19, r_X_orders_19n, r_X_orders_20, r_X_orders_23, r_X_orders_26, r_X_orders_27, r_X_orders_30, bnd, tl_s, tl_n, wt_nil, wt_int, wt_ref, wt_null, wt_long, Nat.reduceAdd, Nat.reduceLeDiff, if_true, if_false, decide_true, Bool.true_and, Bool.and_true, zok_n0, zok_n1, zok_bI, bI_eq0, bI_eq1, Bool.true_eq_false, Bool.false_eq_true, not_false_eq_true, not_true_eq_false, decide_false, decide_eq_false_iff_not, decide_eq_true_eq, Classical.not_not, ite_not, lit, Nat.reduceEqDiff, Nat.reduceLT, nI_add, nI_lt', nI_le', nI_eq', nI_sub', pk_mul, nI_rem', nI_div', nI_nz, remN, clampN, inb_nI, Nat.not_lt_zero, Nat.zero_le, Nat.le_zero_eq, if_true, if_false, m1_lt0, m1_eq, t_ite, f_ite, nI_and, nI_or, nI_xor, nI_shl1, nI_shr, nI_ushr, nI_not, nI_and_p2, Nat.one_mul, vrf_s, vrf_n, oF_0, oO_0, oF_1, oO_1, oA_2, oS_2, oA_3, oS_3, oF_4, oO_4, oA_5, oS_5, oA_6, oS_6, oA_7, oS_7, oA_8, oS_8, oA_9, oS_9, oF_70, oO_70, oA_71, oS_71, oA_72, oS_72, oF_73, oO_73, oA_74, oS_74, oA_75, oS_75, oA_76, oS_76, oA_77, oS_77, oA_78, oS_78, oA_139, oS_139, oF_140, oO_140, oA_141, oS_141, oA_142, oS_142, oA_143, oS_143, oA_144, oS_144, oF_145, oO_145, oF_146, oO_146, oA_147, oS_147, oF_148, oO_148, oA_149, oS_149, oA_150, oS_150, oA_151, oS_151, oF_152, oO_152, oA_153, oS_153, oF_154, oO_154, oA_155, oS_155, oA_156, oS_156, oA_157, oS_157, oA_158, oS_158, oF_159, oO_159, oA_160, oS_160, oA_161, oS_161, oA_162, oS_162, oA_163, oS_163, oF_164, oO_164, oA_165, oS_165, oA_166, oS_166, oA_167, oS_167, oA_168, oS_168, oF_169, oO_169, oA_170, oS_170, oA_171, oS_171, oA_172, oS_172, oA_173, oS_173, mO_Site_areBits, mO_Dis_countOrders, hX.r 0 0 1 rfl, hX.r 0 1 70 rfl, hX.r 0 2 139 rfl, hX.r 0 3 140 rfl, hX.r 0 4 145 rfl, hX.r 0 5 146 rfl, hX.r 0 6 148 rfl, hX.r 0 7 152 rfl, hX.r 1 1 2 rfl, hX.r 1 2 3 rfl, hX.r 1 3 4 rfl, hX.r 1 4 6 rfl, hX.r 1 9 7 rfl, hX.r 1 11 8 rfl, hX.r 1 12 9 rfl, hX.r 4 6 5 rfl, hX.r 152 6 153 rfl, hX.r 140 0 141 rfl, hX.r 140 2 142 rfl, hX.r 140 3 143 rfl, hX.r 140 4 144 rfl, hX.r 146 0 147 rfl, hX.r 148 0 149 rfl, hX.r 148 2 150 rfl, hX.r 148 3 151 rfl, y_areBits_n hX hv]
    · rw [e_M_orders]
      simp (disch := omega) only [r_M_orders_0, r_M_orders_0n, r_M_orders_1, r_M_orders_2, r_M_orders_5, r_M_orders_8, r_M_orders_11, r_M_orders_12, r_M_orders_13, r_M_orders_14, r_M_orders_15, r_M_orders_16, r_M_orders_19, r_M_orders_19n, r_M_orders_20, r_M_orders_23, r_M_orders_24, r_M_orders_25, r_M_orders_28, r_M_orders_29, r_M_orders_32, r_M_orders_33, r_M_orders_34, r_M_orders_37, r_M_orders_40, r_M_orders_41, r_M_orders_42, r_M_orders_43, r_M_orders_44, r_M_orders_47, r_M_orders_48, r_M_orders_49, r_M_orders_50, r_M_orders_50n, r_M_orders_51, r_M_orders_54, r_M_orders_55, r_M_orders_56, r_M_orders_59, r_M_orders_59n, r_M_orders_60, r_M_orders_63, r_M_orders_64, r_M_orders_65, r_M_orders_66, r_M_orders_67, r_M_orders_70, r_M_orders_70n, r_M_orders_71, r_M_orders_72, r_M_orders_73, r_M_orders_74, r_M_orders_77, r_M_orders_80, r_M_orders_80n, r_M_orders_81, r_M_orders_84, r_M_orders_85, r_M_orders_86, r_M_orders_87, r_M_orders_88, r_M_orders_89, r_M_orders_90, r_M_orders_91, r_M_orders_91n, r_M_orders_92, r_M_orders_95, r_M_orders_96, r_M_orders_97, r_M_orders_98, r_M_orders_99, r_M_orders_102, r_M_orders_105, r_M_orders_108, r_M_orders_111, r_M_orders_111n, r_M_orders_112, r_M_orders_115, r_M_orders_116, r_M_orders_117, bnd, tl_s, tl_n, wt_nil, wt_int, wt_ref, wt_null, wt_long, Nat.reduceAdd, Nat.reduceLeDiff, if_true, if_false, decide_true, Bool.true_and, Bool.and_true, zok_n0, zok_n1, zok_bI, bI_eq0, bI_eq1, Bool.true_eq_false, Bool.false_eq_true, not_false_eq_true, not_true_eq_false, decide_false, decide_eq_false_iff_not, decide_eq_true_eq, Classical.not_not, ite_not, lit, Nat.reduceEqDiff, Nat.reduceLT, nI_add, nI_lt', nI_le', nI_eq', nI_sub', pk_mul, nI_rem', nI_div', nI_nz, remN, clampN, inb_nI, Nat.not_lt_zero, Nat.zero_le, Nat.le_zero_eq, if_true, if_false, m1_lt0, m1_eq, t_ite, f_ite, nI_and, nI_or, nI_xor, nI_shl1, nI_shr, nI_ushr, nI_not, nI_and_p2, Nat.one_mul, vrf_s, vrf_n, oF_174, oO_174, oA_175, oS_175, oA_176, oS_176, oA_177, oS_177, oA_178, oS_178, oA_179, oS_179, oA_180, oS_180, oA_181, oS_181, oA_182, oS_182, oA_183, oS_183, oA_184, oS_184, oA_185, oS_185, oA_186, oS_186, oA_187, oS_187, oA_188, oS_188, mO_M_arePlanks, mO_M_isNext, x_arePlanks_n hM hv]
end OR

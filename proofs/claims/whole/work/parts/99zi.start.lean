/-! THE START: the class's object -/
def mCl (c : Nat) : Prop := c = 4 ∨ c = 73 ∨ c = 152 ∨ (10 ≤ c ∧ c < 70 ∧ c % 2 = 0) ∨ (79 ≤ c ∧ c < 139 ∧ c % 2 = 1)
def ini (k j : Nat) : Int32 := if (k = 1 ∨ k = 70) ∧ j = 8 then -1 else if k = 145 ∧ j = 1 then -1 else if (k = 4 ∨ k = 73 ∨ k = 152 ∨ (10 ≤ k ∧ k < 70 ∧ k % 2 = 0) ∨ (79 ≤ k ∧ k < 139 ∧ k % 2 = 1)) ∧ j = 5 then 337 else 0
/-- the cells from lo on are as a new object has them -/
def FI (lo hi : Nat) (M : Mem) : Prop := ∀ k j, lo ≤ k → k < hi → gI M k j = ini k j ∧ ∀ a, rxt k j = some a → gR M k j = some a
section INI
variable {d c lo hi : Nat} {M M' : Mem}
theorem gI_zr {k k' j : Nat} : gI (zr M k) k' j = if k' = k then 0 else gI M k' j := by
  show (u1 M.1 k (fun _ => 0)) k' j = _
  unfold u1
  by_cases e : k' = k
  · rw [if_pos e, if_pos e]
  · rw [if_neg e, if_neg e]; rfl
theorem gR_zr {k k' j : Nat} : gR (zr M k) k' j = if k' = k then none else gR M k' j := by
  show (u1 M.2.2.1 k (fun _ => none)) k' j = _
  unfold u1
  by_cases e : k' = k
  · rw [if_pos e, if_pos e]
  · rw [if_neg e, if_neg e]; rfl
theorem gL_zr {k k' j : Nat} : gL (zr M k) k' j = if k' = k then 0 else gL M k' j := by
  show (u1 M.2.1 k (fun _ => 0)) k' j = _
  unfold u1
  by_cases e : k' = k
  · rw [if_pos e, if_pos e]
  · rw [if_neg e, if_neg e]; rfl
/-- longs stay nought -/
def Lz (M M' : Mem) : Prop := (∀ k j, gL M k j = 0) → ∀ k j, gL M' k j = 0
theorem Lz.rf : Lz M M := fun h => h
theorem Lz.tr {M'' : Mem} (h1 : Lz M M') (h2 : Lz M' M'') : Lz M M'' := fun h => h2 (h1 h)
theorem lz_z {k : Nat} (h : Lz M M') : Lz M (zr M' k) := fun z k' j => by
  rw [gL_zr]
  split
  · rfl
  · exact h z k' j
theorem lz_I {k j : Nat} {v : Int32} (h : Lz M M') : Lz M (sI M' k j v) := fun z k' j' => h z k' j'
theorem lz_R {k j : Nat} {v : Option Nat} (h : Lz M M') : Lz M (sR M' k j v) := fun z k' j' => h z k' j'
theorem D_zr {P : Nat → Nat → Prop} {k : Nat} (h : D P M M') (hp : ∀ j, P k j) : D P M (zr M' k) := by
  refine ⟨fun k' j hn => ?_, h.2⟩
  have hne : k' ≠ k := fun z => hn (by rw [z]; exact hp j)
  rw [gI_zr, gL_zr, gR_zr, if_neg hne, if_neg hne, if_neg hne]
  exact h.1 k' j hn
theorem FI.mv {P : Nat → Nat → Prop} (h : FI lo hi M) (hd : D P M M') (hp : ∀ k j, P k j → k < lo ∨ hi ≤ k) : FI lo hi M' := fun k j h1 h2 => by
  have hn : ¬ P k j := fun z => by have := hp k j z; omega
  rw [hd.i hn, hd.r hn]
  exact h k j h1 h2
theorem FI.app {mi : Nat} (h1 : FI lo mi M) (h2 : FI mi hi M) : FI lo hi M := fun k j a b => by
  by_cases e : k < mi
  · exact h1 k j a e
  · exact h2 k j (by omega) b
theorem i_mom (h1 : okF (c + 1) c 2 = true) (h2 : (decide (c + 1 < NX) && sh (c + 1) == (100, Int32.toNatClampNeg 30) && decide (¬ (30 : Int32) < 0)) = true) (h3 : okF (c + 1 + 1) c 2 = true) : ev (d + 1) m_Mom_init [.ref c] (c + 1) M = some (none, c + 1 + 1, sR (zr (sI M c 5 337) (c + 1)) c 6 (some (c + 1))) := by
  rw [e_Mom_init]
  simp only [r_Mom_init_0, r_Mom_init_0n, r_Mom_init_1, r_Mom_init_4, r_Mom_init_4n, r_Mom_init_5, r_Mom_init_8, r_Mom_init_11, r_Mom_init_11n, r_Mom_init_12, r_Mom_init_14, r_Mom_init_16, r_Mom_init_16n, r_Mom_init_19, wt_nil, wt_ref, h1, h2, h3, Nat.zero_le, decide_true, if_true, Nat.reduceAdd, Nat.reduceLeDiff]
theorem f_mom (hc : mCl c) : FI c (c + 2) (sR (zr (sI (zr M c) c 5 337) (c + 1)) c 6 (some (c + 1))) := by
  unfold mCl at hc
  intro k j h1 h2
  have hk : k = c ∨ k = c + 1 := by omega
  have gi : gI (sR (zr (sI (zr M c) c 5 337) (c + 1)) c 6 (some (c + 1))) k j = gI (zr (sI (zr M c) c 5 337) (c + 1)) k j := rfl
  rw [gi, gI_zr, gI_sI, gI_zr, gR_sR, gR_zr]
  unfold ini rxt
  rcases hk with rfl | rfl
  · rw [if_neg (show ¬ k = k + 1 by omega), if_pos rfl, if_neg (show ¬ ((k = 1 ∨ k = 70) ∧ j = 8) by omega), if_neg (show ¬ (k = 145 ∧ j = 1) by omega)]
    refine ⟨?_, fun a ha => ?_⟩
    · by_cases e : j = 5
      · rw [if_pos ⟨rfl, e⟩, if_pos ⟨hc, e⟩]
      · rw [if_neg (fun z => e z.2), if_neg (fun z => e z.2)]
    · rw [if_neg (show ¬ k = 0 by omega), if_neg (show ¬ (k = 1 ∨ k = 70) by omega), if_neg (show ¬ (k = 6 ∨ k = 75) by omega), if_pos hc] at ha
      by_cases e : j = 6
      · rw [if_pos e] at ha
        rw [if_pos ⟨rfl, e⟩]; exact ha
      · rw [if_neg e] at ha; cases ha
  · rw [if_pos rfl, if_neg (show ¬ ((c + 1 = 1 ∨ c + 1 = 70) ∧ j = 8) by omega), if_neg (show ¬ (c + 1 = 145 ∧ j = 1) by omega), if_neg (show ¬ ((c + 1 = 4 ∨ c + 1 = 73 ∨ c + 1 = 152 ∨ (10 ≤ c + 1 ∧ c + 1 < 70 ∧ (c + 1) % 2 = 0) ∨ (79 ≤ c + 1 ∧ c + 1 < 139 ∧ (c + 1) % 2 = 1)) ∧ j = 5) by omega)]
    refine ⟨rfl, fun a ha => ?_⟩
    rw [if_neg (by omega), if_neg (by omega), if_neg (by omega), if_neg (by omega), if_neg (by omega), if_neg (by omega), if_neg (by omega), if_neg (by omega), if_neg (by omega)] at ha
    cases ha
end INI

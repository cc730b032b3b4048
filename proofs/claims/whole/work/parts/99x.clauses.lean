/-! TEXT: clauses and texts -/
abbrev CR : Type := Nat × Nat × Tx
def addT (x : Tx) (c : Nat × Nat × Nat) : Tx := ((tN x + 1, fun i => if i = tN x then c else tC x i), x.2)
def setL (x : Tx) (s : Nat) (g : Env → Int) : Tx := (x.1, if s = 0 then (some g, x.2.2) else (x.2.1, some g))
def loS (s : Nat) : Nat := if s = 2 ∨ s = 8 then 1 else 0
def hiS (s : Nat) : Nat := if s = 2 then 9 else if s = 8 then 60 else 7
def wdS (s : Nat) : Nat := if s = 2 then 16 else 17
section CLP
variable (kd vl : Nat → Nat)
def mvF (x : Tx) (s k : Nat) : CR := if kd k = 41 then (if loS s ≤ vl k ∧ vl k ≤ hiS s then (if s = 2 ∨ s = 6 ∨ s = 7 then (if kd (k + 1) = wdS s then (if kd (k + 2) = 41 then (if vl (k + 2) ≤ 7 ∨ (s = 2 ∧ vl (k + 2) = 9) then (0, k + 3, addT x (s, vl k, vl (k + 2))) else (2, k + 2, x)) else (1, k + 2, x)) else (1, k + 1, x)) else (0, k + 1, addT x (s, vl k, 0))) else (2, k, x)) else (1, k, x)
def lwG (x : Tx) (s : Nat) (r : PR) : CR := (r.1, r.2.1, addT (setL x s (fun e => (r.2.2 e).1)) (s, 0, 0))
def bdF (x : Tx) (s k : Nat) : CR := if s ≤ 1 then lwG x s (smF kd (lv kd vl s 8).1 k) else mvF kd vl x s k
def smc (r : CR) : CR := if r.1 = 0 then (if kd r.2.1 = 38 then (0, r.2.1 + 1, r.2.2) else (1, r.2.1, r.2.2)) else r
def clF (x : Tx) (k : Nat) : CR := if kd k ≤ 8 then (if kd k ≤ 1 ∧ (tL x (kd k)).isSome = true then (4, k, x) else if tN x < 24 then smc kd (bdF kd vl x (kd k) (k + 1)) else (6, k, x)) else (1, k, x)
def txF : Nat → Nat → Tx → CR
  | 0, k, x => (0, k, x)
  | n + 1, k, x => if kd k = 43 then (0, k, x) else if (clF kd vl x k).1 = 0 then txF n (clF kd vl x k).2.1 (clF kd vl x k).2.2 else clF kd vl x k
end CLP
theorem tN_add {x : Tx} {c : Nat × Nat × Nat} : tN (addT x c) = tN x + 1 := rfl
theorem tC_add {x : Tx} {c : Nat × Nat × Nat} {i : Nat} : tC (addT x c) i = if i = tN x then c else tC x i := rfl
theorem tL_add {x : Tx} {c : Nat × Nat × Nat} {l : Nat} : tL (addT x c) l = tL x l := rfl
theorem tN_set {x : Tx} {s : Nat} {g : Env → Int} : tN (setL x s g) = tN x := rfl
theorem tC_set {x : Tx} {s : Nat} {g : Env → Int} {i : Nat} : tC (setL x s g) i = tC x i := rfl
theorem tL_set {x : Tx} {s l : Nat} {g : Env → Int} (hs : s < 2) (hl : l < 2) : tL (setL x s g) l = if l = s then some g else tL x l := by
  have h1 : s = 0 ∨ s = 1 := by omega
  have h2 : l = 0 ∨ l = 1 := by omega
  rcases h1 with rfl | rfl <;> rcases h2 with rfl | rfl <;> rfl
theorem txOk_add {x : Tx} {c : Nat × Nat × Nat} (h : TxOk x) (hn : tN x < 24) (hc : clOk c) : TxOk (addT x c) := by
  refine ⟨by rw [tN_add]; omega, fun i hi => ?_⟩
  rw [tN_add] at hi
  rw [tC_add]
  by_cases e : i = tN x
  · rw [if_pos e]; exact hc
  · rw [if_neg e]; exact h.2 i (by omega)
theorem txOk_set {x : Tx} {s : Nat} {g : Env → Int} (h : TxOk x) : TxOk (setL x s g) := h
/-! a law's values keep their bounds -/
def GvV (F : Nat → PR) : Prop := ∀ k, (F k).1 = 0 → ∀ e, EOk e → VB ((F k).2.2 e).1
theorem vb0 : VB 0 := by constructor <;> decide
theorem gv_sq {r : PR} {h : Nat → Gv → PR} (hh : r.1 = 0 → (h r.2.1 r.2.2).1 = 0 → ∀ e, EOk e → VB ((h r.2.1 r.2.2).2.2 e).1) : (sq r h).1 = 0 → ∀ e, EOk e → VB ((sq r h).2.2 e).1 := by
  intro e0
  by_cases e : r.1 = 0
  · rw [sq_0 e] at e0 ⊢; exact hh e e0
  · rw [sq_1 e] at e0; exact absurd e0 e
theorem gv_lp {kd : Nat → Nat} {one : Nat → PR} {op : Nat → Bool} : ∀ n k g, (∀ e, EOk e → VB (g e).1) → (lpR kd one op fAr n k g).1 = 0 → ∀ e, EOk e → VB ((lpR kd one op fAr n k g).2.2 e).1 := by
  intro n
  induction n with
  | zero => intro k g hg _; exact hg
  | succ n ih =>
    intro k g hg
    rw [lpR]
    by_cases eo : op (kd k) = true
    · rw [if_pos eo]
      exact gv_sq (fun _ => ih _ _ (fun e he => clmVB))
    · rw [if_neg eo]
      exact fun _ => hg
theorem gv_sum {kd : Nat → Nat} {one : Nat → PR} (h : GvV one) : GvV (smF kd one) := by
  have hp : GvV (prF kd one) := fun k => gv_sq (fun e0 => gv_lp 300 _ _ (h k e0))
  exact fun k => gv_sq (fun e0 => gv_lp 300 _ _ (hp k e0))
theorem gv_one {kd vl : Nat → Nat} {law : Nat} {sub : Nat → PR} (h : GvV sub) : GvV (oneF kd vl law sub) := by
  intro k
  unfold oneF
  by_cases c1 : kd k = 41
  · rw [if_pos c1]
    by_cases c2 : vl k ≤ 9999
    · rw [if_pos c2]
      intro _ e _
      show VB (vl k : Int)
      constructor <;> omega
    · rw [if_neg c2]; intro z; cases z
  · rw [if_neg c1]
    by_cases c3 : 8 ≤ kd k ∧ kd k ≤ 15
    · rw [if_pos c3]
      by_cases c4 : wrn law (kd k) = true
      · rw [if_pos c4]; intro z; cases z
      · rw [if_neg c4]
        intro _ e he
        exact he.1 _ (by omega)
    · rw [if_neg c3]
      by_cases c5 : opn (kd k) = true
      · rw [if_pos c5]; exact h k
      · rw [if_neg c5]; intro z; cases z
theorem gv_ac {kd : Nat → Nat} {w : Nat} {r : PR} (h : r.1 = 0 → ∀ e, EOk e → VB (r.2.2 e).1) : (ac kd w r).1 = 0 → ∀ e, EOk e → VB ((ac kd w r).2.2 e).1 := by
  unfold ac
  refine gv_sq (fun e0 => ?_)
  by_cases c : kd r.2.1 = w
  · rw [if_pos c]; exact fun _ => h e0
  · rw [if_neg c]; intro z; cases z
theorem gv_inn {kd : Nat → Nat} {one ask : Nat → PR} (h : GvV one) : GvV (innF kd one ask) := by
  intro k
  have hs := gv_sum (kd := kd) h
  unfold innF
  by_cases c1 : kd k = 36
  · rw [if_pos c1]; exact gv_ac (hs _)
  · rw [if_neg c1]
    by_cases c2 : kd k = 33
    · rw [if_pos c2]
      refine gv_sq (fun e0 _ e he => ?_)
      have := h _ e0 e he
      show VB (-(((one (k + 1)).2.2 e).1))
      constructor
      · have := this.2; omega
      · have := this.1; omega
    · rw [if_neg c2]
      by_cases c3 : kd k = 19
      · rw [if_pos c3]
        refine gv_sq (fun e0 => gv_sq (fun e1 _ e he => btVB ?_))
        exact gv_ac (h _) e0 e he
      · rw [if_neg c3]
        by_cases c4 : kd k = 20
        · rw [if_pos c4]
          exact gv_sq (fun e0 _ e he => he.2 _)
        · rw [if_neg c4]
          unfold choF
          refine gv_sq (fun e0 => gv_sq (fun e1 => gv_sq (fun e2 _ e he => ?_)))
          have ha := gv_ac (hs _) e1 e he
          have hb := gv_ac (hs _) e2 e he
          show VB (if _ = true then _ else _)
          split
          · exact ha
          · exact hb
theorem gv_lv {kd vl : Nat → Nat} {law : Nat} : ∀ n, GvV (lv kd vl law n).1 := by
  intro n
  induction n with
  | zero => exact gv_one (fun k z => by cases z)
  | succ n ih => exact gv_one (gv_inn ih)
theorem gv_law {kd vl : Nat → Nat} {s : Nat} : GvV (smF kd (lv kd vl s 8).1) := gv_sum (gv_lv 8)

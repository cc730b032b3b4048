/-! TEXT: what a law's tokens mean -/
abbrev Gv : Type := Env → Int × Bool
abbrev PR : Type := Nat × Nat × Gv
def gZ : Gv := fun _ => (0, false)
def gNum (v : Nat) : Gv := fun _ => ((v : Int), false)
def gNam (j : Nat) : Gv := fun e => (e.1 j, false)
def gNeg (a : Gv) : Gv := fun e => (-(a e).1, false)
def gHvy (a : Gv) : Gv := fun e => (e.2 (a e).1, false)
def gBts (a b : Gv) : Gv := fun e => (btv (a e).1 (b e).1, false)
def gAr (o : Nat) (a b : Gv) : Gv := fun e => (ar o (a e).1 (b e).1, false)
def gCp (o : Nat) (a b : Gv) : Gv := fun e => (0, cp o (a e).1 (b e).1)
def gNot (q : Gv) : Gv := fun e => (0, !(q e).2)
def gAnd (a b : Gv) : Gv := fun e => (0, (a e).2 && (b e).2)
def gOr (a b : Gv) : Gv := fun e => (0, (a e).2 || (b e).2)
def gSel (q a b : Gv) : Gv := fun e => (if (q e).2 = true then (a e).1 else (b e).1, false)
def sq (r : PR) (h : Nat → Gv → PR) : PR := if r.1 = 0 then h r.2.1 r.2.2 else r
theorem sq_0 {r : PR} {h : Nat → Gv → PR} (e : r.1 = 0) : sq r h = h r.2.1 r.2.2 := if_pos e
theorem sq_1 {r : PR} {h : Nat → Gv → PR} (e : r.1 ≠ 0) : sq r h = r := if_neg e
def isC (k : Nat) : Bool := (decide (28 ≤ k) && decide (k ≤ 31)) || (decide (k = 39) || decide (k = 40))
section PRS
variable (kd vl : Nat → Nat) (law : Nat)
def ac (w : Nat) (r : PR) : PR := sq r (fun k g => if kd k = w then (0, k + 1, g) else (1, k, g))
def lpR (one : Nat → PR) (op : Nat → Bool) (f : Nat → Gv → Gv → Gv) : Nat → Nat → Gv → PR
  | 0, k, g => (0, k, g)
  | n + 1, k, g => if op (kd k) = true then sq (one (k + 1)) (fun k' g' => lpR one op f n k' (f (kd k) g g')) else (0, k, g)
def o34 (k : Nat) : Bool := decide (k = 34) || decide (k = 35)
def o32 (k : Nat) : Bool := decide (k = 32) || decide (k = 33)
def o26 (k : Nat) : Bool := decide (k = 26)
def o25 (k : Nat) : Bool := decide (k = 25)
def fAr (s : Nat) (a b : Gv) : Gv := gAr (s - 32) a b
def fAnd (_ : Nat) (a b : Gv) : Gv := gAnd a b
def fOr (_ : Nat) (a b : Gv) : Gv := gOr a b
def prF (one : Nat → PR) (k : Nat) : PR := sq (one k) (fun k g => lpR kd one o34 fAr 300 k g)
def smF (one : Nat → PR) (k : Nat) : PR := sq (prF kd one k) (fun k g => lpR kd (prF kd one) o32 fAr 300 k g)
def botF (ask : Nat → PR) (k : Nat) : PR := sq (ask k) (fun k g => lpR kd ask o26 fAnd 300 k g)
def eitF (ask : Nat → PR) (k : Nat) : PR := sq (botF kd ask k) (fun k g => lpR kd (botF kd ask) o25 fOr 300 k g)
def askF (one nt : Nat → PR) (k : Nat) : PR := if kd k = 27 then nt k else sq (smF kd one k) (fun k a => if isC (kd k) = true then sq (smF kd one (k + 1)) (fun k' b => (0, k', gCp (ci (kd k)) a b)) else (1, k, gZ))
def choF (one ask : Nat → PR) (k : Nat) : PR := sq (ac kd 22 (eitF kd ask k)) (fun k q => sq (ac kd 23 (smF kd one k)) (fun k a => sq (ac kd 24 (smF kd one k)) (fun k b => (0, k, gSel q a b))))
def innF (one ask : Nat → PR) (k : Nat) : PR := if kd k = 36 then ac kd 37 (smF kd one (k + 1)) else if kd k = 33 then sq (one (k + 1)) (fun k g => (0, k, gNeg g)) else if kd k = 19 then sq (ac kd 18 (one (k + 1))) (fun k a => sq (one k) (fun k b => (0, k, gBts a b))) else if kd k = 20 then sq (one (k + 1)) (fun k g => (0, k, gHvy g)) else choF kd one ask (k + 1)
def opn (k : Nat) : Bool := decide (k = 36 ∨ k = 33 ∨ k = 19 ∨ k = 20 ∨ k = 21)
def wrn (k : Nat) : Bool := decide ((k = 14 ∧ law ≠ 0) ∨ (k = 15 ∧ law ≠ 1))
def oneF (sub : Nat → PR) (k : Nat) : PR := if kd k = 41 then (if vl k ≤ 9999 then (0, k + 1, gNum (vl k)) else (2, k, gZ)) else if 8 ≤ kd k ∧ kd k ≤ 15 then (if wrn law (kd k) = true then (5, k, gZ) else (0, k + 1, gNam (kd k - 8))) else if opn (kd k) = true then sub k else (1, k, gZ)
def lv : Nat → (Nat → PR) × (Nat → PR)
  | 0 => (oneF kd vl law (fun k => (3, k, gZ)), askF kd (oneF kd vl law (fun k => (3, k, gZ))) (fun k => (3, k, gZ)))
  | n + 1 => (oneF kd vl law (innF kd (lv n).1 (lv n).2), askF kd (oneF kd vl law (innF kd (lv n).1 (lv n).2)) (fun k => sq ((lv n).2 (k + 1)) (fun k g => (0, k, gNot g))))
end PRS
/-! what the class's code means -/
def RC (e : Env) (code : Nat → Nat × Nat) (s : Nat) (l : List Int) (t : Nat) (l' : List Int) : Prop := ∃ K, rcC e code K s l = some (t, l')
theorem RC.trans {e : Env} {code : Nat → Nat × Nat} {s t u : Nat} {l l' l'' : List Int} (h1 : RC e code s l t l') (h2 : RC e code t l' u l'') : RC e code s l u l'' := by
  obtain ⟨K1, h1⟩ := h1
  obtain ⟨K2, h2⟩ := h2
  refine ⟨K1 + K2, ?_⟩
  rw [rcC_add, h1]
  exact h2
theorem RC.step {e : Env} {code : Nat → Nat × Nat} {s t : Nat} {l l' : List Int} {k v : Nat} (hc : code s = (k, v)) (h : stC e k v s l = some (t, l')) : RC e code s l t l' := by
  refine ⟨1, ?_⟩
  rw [rcC, hc, h]
  rfl
theorem RC.congr {e : Env} {code code' : Nat → Nat × Nat} {s t : Nat} {l l' : List Int} (h : RC e code s l t l') (hc : ∀ j, s ≤ j → j < t → code' j = code j) : RC e code' s l t l' := by
  obtain ⟨K, h⟩ := h
  exact ⟨K, rcC_congr h hc⟩
def CV (code : Nat → Nat × Nat) (s t : Nat) (g : Gv) : Prop := s < t ∧ ∀ e, EOk e → VB (g e).1 ∧ ∀ l, RC e code s l t ((g e).1 :: l)
def CB (code : Nat → Nat × Nat) (s t : Nat) (g : Gv) : Prop := s < t ∧ ∀ e, EOk e → ∀ l, RC e code s l t (b01 (g e).2 :: l)
section CSM
variable {code code' : Nat → Nat × Nat} {s t u m : Nat} {a b q : Gv}
theorem CV.congr (h : CV code s t a) (hc : ∀ j, s ≤ j → j < t → code' j = code j) : CV code' s t a := ⟨h.1, fun e he => ⟨(h.2 e he).1, fun l => ((h.2 e he).2 l).congr hc⟩⟩
theorem CB.congr (h : CB code s t a) (hc : ∀ j, s ≤ j → j < t → code' j = code j) : CB code' s t a := ⟨h.1, fun e he l => (h.2 e he l).congr hc⟩
theorem CV_num {v : Nat} (hc : code s = (41, v)) (hv : v ≤ 9999) : CV code s (s + 1) (gNum v) := by
  refine ⟨by omega, fun e he => ⟨?_, fun l => RC.step hc ?_⟩⟩
  · show VB (v : Int); constructor <;> omega
  · show (if v ≤ 10000 then some (s + 1, (v : Int) :: l) else none) = _
    rw [if_pos (by omega)]; rfl
theorem CV_nam {k : Nat} (hc : code s = (k, 0)) (h1 : 8 ≤ k) (h2 : k ≤ 15) : CV code s (s + 1) (gNam (k - 8)) := by
  refine ⟨by omega, fun e he => ⟨he.1 (k - 8) (by omega), fun l => RC.step hc ?_⟩⟩
  unfold stC
  rw [if_neg (by omega), if_pos h2, if_pos h1]
  rfl
theorem CV_neg (h : CV code s t a) (hc : code t = (44, 0)) : CV code s (t + 1) (gNeg a) := by
  have := h.1
  refine ⟨by omega, fun e he => ⟨?_, fun l => ((h.2 e he).2 l).trans (RC.step hc rfl)⟩⟩
  have h1 := (h.2 e he).1
  show VB (-(a e).1)
  constructor
  · have := h1.2; omega
  · have := h1.1; omega
theorem CV_hvy (h : CV code s t a) (hc : code t = (20, 0)) : CV code s (t + 1) (gHvy a) := by
  have := h.1
  exact ⟨by omega, fun e he => ⟨he.2 _, fun l => ((h.2 e he).2 l).trans (RC.step hc rfl)⟩⟩
theorem CV_bts (h : CV code s t a) (h2 : CV code t u b) (hc : code u = (19, 0)) : CV code s (u + 1) (gBts a b) := by
  have := h.1
  have := h2.1
  exact ⟨by omega, fun e he => ⟨btVB (h.2 e he).1, fun l => (((h.2 e he).2 l).trans ((h2.2 e he).2 _)).trans (RC.step hc rfl)⟩⟩
theorem CV_ar {k : Nat} (h : CV code s t a) (h2 : CV code t u b) (h3 : 32 ≤ k) (h4 : k ≤ 35) (hc : code u = (k, 0)) : CV code s (u + 1) (gAr (k - 32) a b) := by
  have := h.1
  have := h2.1
  refine ⟨by omega, fun e he => ⟨clmVB, fun l => (((h.2 e he).2 l).trans ((h2.2 e he).2 _)).trans (RC.step hc ?_)⟩⟩
  have hk : k = 32 ∨ k = 33 ∨ k = 34 ∨ k = 35 := by omega
  rcases hk with rfl | rfl | rfl | rfl <;> rfl
theorem CB_cp {k : Nat} (h : CV code s t a) (h2 : CV code t u b) (h3 : isC k = true) (hc : code u = (k, 0)) : CB code s (u + 1) (gCp (ci k) a b) := by
  have := h.1
  have := h2.1
  refine ⟨by omega, fun e he l => (((h.2 e he).2 l).trans ((h2.2 e he).2 _)).trans (RC.step hc ?_)⟩
  have hk : k = 28 ∨ k = 29 ∨ k = 30 ∨ k = 31 ∨ k = 39 ∨ k = 40 := by
    unfold isC at h3
    rw [Bool.or_eq_true, Bool.or_eq_true, Bool.and_eq_true, decide_eq_true_eq, decide_eq_true_eq, decide_eq_true_eq, decide_eq_true_eq] at h3
    omega
  rcases hk with rfl | rfl | rfl | rfl | rfl | rfl <;> rfl
theorem CB_not (h : CB code s t a) (hc : code t = (27, 0)) : CB code s (t + 1) (gNot a) := by
  have := h.1
  refine ⟨by omega, fun e he l => (h.2 e he l).trans (RC.step hc ?_)⟩
  show _ = some (t + 1, b01 (!(a e).2) :: l)
  cases (a e).2 <;> rfl
theorem CB_and (h : CB code s t a) (h2 : CB code t u b) (hc : code u = (26, 0)) : CB code s (u + 1) (gAnd a b) := by
  have := h.1
  have := h2.1
  refine ⟨by omega, fun e he l => ((h.2 e he l).trans (h2.2 e he _)).trans (RC.step hc ?_)⟩
  show _ = some (u + 1, b01 ((a e).2 && (b e).2) :: l)
  cases (a e).2 <;> cases (b e).2 <;> rfl
theorem CB_or (h : CB code s t a) (h2 : CB code t u b) (hc : code u = (25, 0)) : CB code s (u + 1) (gOr a b) := by
  have := h.1
  have := h2.1
  refine ⟨by omega, fun e he l => ((h.2 e he l).trans (h2.2 e he _)).trans (RC.step hc ?_)⟩
  show _ = some (u + 1, b01 ((a e).2 || (b e).2) :: l)
  cases (a e).2 <;> cases (b e).2 <;> rfl
theorem CV_sel (hq : CB code s t q) (hc1 : code t = (46, m + 1)) (ha : CV code (t + 1) m a) (hc2 : code m = (45, u)) (hb : CV code (m + 1) u b) : CV code s u (gSel q a b) := by
  have := hq.1
  have := ha.1
  have := hb.1
  refine ⟨by omega, fun e he => ⟨?_, fun l => (hq.2 e he l).trans ?_⟩⟩
  · show VB (if (q e).2 = true then (a e).1 else (b e).1)
    split
    · exact (ha.2 e he).1
    · exact (hb.2 e he).1
  · show RC e code t _ u ((if (q e).2 = true then (a e).1 else (b e).1) :: l)
    cases (q e).2
    · rw [if_neg (by decide)]
      refine RC.trans (RC.step hc1 (t := m + 1) (l' := l) ?_) ((hb.2 e he).2 l)
      show some (max (t + 1) (m + 1), l) = _
      rw [Nat.max_eq_right (by omega)]
    · rw [if_pos rfl]
      refine RC.trans (RC.step hc1 (t := t + 1) (l' := l) rfl) (((ha.2 e he).2 l).trans (RC.step hc2 ?_))
      show some (max (m + 1) u, _) = _
      rw [Nat.max_eq_right (by omega)]
end CSM

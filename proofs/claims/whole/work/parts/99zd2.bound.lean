/-! TEXT: faults are small -/
theorem fq_sq {r : PR} {h : Nat → Gv → PR} (h1 : r.1 ≤ 6) (h2 : ∀ k g, (h k g).1 ≤ 6) : (sq r h).1 ≤ 6 := by
  by_cases e : r.1 = 0
  · rw [sq_0 e]; exact h2 _ _
  · rw [sq_1 e]; exact h1
theorem fq_ac {kd : Nat → Nat} {w : Nat} {r : PR} (h : r.1 ≤ 6) : (ac kd w r).1 ≤ 6 := by
  unfold ac
  refine fq_sq h (fun k g => ?_)
  by_cases c : kd k = w
  · rw [if_pos c]; exact Nat.zero_le _
  · rw [if_neg c]; show 1 ≤ 6; decide
theorem fq_lp {kd : Nat → Nat} {one : Nat → PR} {op : Nat → Bool} {f : Nat → Gv → Gv → Gv} (h : ∀ k, (one k).1 ≤ 6) : ∀ n k g, (lpR kd one op f n k g).1 ≤ 6 := by
  intro n
  induction n with
  | zero => intro k g; exact Nat.zero_le _
  | succ n ih =>
    intro k g
    rw [lpR]
    by_cases eo : op (kd k) = true
    · rw [if_pos eo]; exact fq_sq (h _) (fun _ _ => ih _ _)
    · rw [if_neg eo]; exact Nat.zero_le _
theorem fq_pr {kd : Nat → Nat} {one : Nat → PR} (h : ∀ k, (one k).1 ≤ 6) (k : Nat) : (prF kd one k).1 ≤ 6 := fq_sq (h k) (fun _ _ => fq_lp h 300 _ _)
theorem fq_sm {kd : Nat → Nat} {one : Nat → PR} (h : ∀ k, (one k).1 ≤ 6) (k : Nat) : (smF kd one k).1 ≤ 6 := fq_sq (fq_pr h k) (fun _ _ => fq_lp (fq_pr h) 300 _ _)
theorem fq_bt {kd : Nat → Nat} {ask : Nat → PR} (h : ∀ k, (ask k).1 ≤ 6) (k : Nat) : (botF kd ask k).1 ≤ 6 := fq_sq (h k) (fun _ _ => fq_lp h 300 _ _)
theorem fq_ei {kd : Nat → Nat} {ask : Nat → PR} (h : ∀ k, (ask k).1 ≤ 6) (k : Nat) : (eitF kd ask k).1 ≤ 6 := fq_sq (fq_bt h k) (fun _ _ => fq_lp (fq_bt h) 300 _ _)
theorem fq_ask {kd : Nat → Nat} {one nt : Nat → PR} (h : ∀ k, (one k).1 ≤ 6) (h2 : ∀ k, (nt k).1 ≤ 6) (k : Nat) : (askF kd one nt k).1 ≤ 6 := by
  unfold askF
  by_cases c : kd k = 27
  · rw [if_pos c]; exact h2 k
  · rw [if_neg c]
    refine fq_sq (fq_sm h k) (fun k g => ?_)
    by_cases c2 : isC (kd k) = true
    · rw [if_pos c2]; exact fq_sq (fq_sm h _) (fun _ _ => Nat.zero_le _)
    · rw [if_neg c2]; show 1 ≤ 6; decide
theorem fq_one {kd vl : Nat → Nat} {law : Nat} {sub : Nat → PR} (h : ∀ k, (sub k).1 ≤ 6) (k : Nat) : (oneF kd vl law sub k).1 ≤ 6 := by
  unfold oneF
  by_cases c1 : kd k = 41
  · rw [if_pos c1]
    by_cases c2 : vl k ≤ 9999
    · rw [if_pos c2]; exact Nat.zero_le _
    · rw [if_neg c2]; show 2 ≤ 6; decide
  · rw [if_neg c1]
    by_cases c3 : 8 ≤ kd k ∧ kd k ≤ 15
    · rw [if_pos c3]
      by_cases c4 : wrn law (kd k) = true
      · rw [if_pos c4]; show 5 ≤ 6; decide
      · rw [if_neg c4]; exact Nat.zero_le _
    · rw [if_neg c3]
      by_cases c5 : opn (kd k) = true
      · rw [if_pos c5]; exact h k
      · rw [if_neg c5]; show 1 ≤ 6; decide
theorem fq_inn {kd : Nat → Nat} {one ask : Nat → PR} (h : ∀ k, (one k).1 ≤ 6) (h2 : ∀ k, (ask k).1 ≤ 6) (k : Nat) : (innF kd one ask k).1 ≤ 6 := by
  unfold innF
  by_cases c1 : kd k = 36
  · rw [if_pos c1]; exact fq_ac (fq_sm h _)
  · rw [if_neg c1]
    by_cases c2 : kd k = 33
    · rw [if_pos c2]; exact fq_sq (h _) (fun _ _ => Nat.zero_le _)
    · rw [if_neg c2]
      by_cases c3 : kd k = 19
      · rw [if_pos c3]; exact fq_sq (fq_ac (h _)) (fun _ _ => fq_sq (h _) (fun _ _ => Nat.zero_le _))
      · rw [if_neg c3]
        by_cases c4 : kd k = 20
        · rw [if_pos c4]; exact fq_sq (h _) (fun _ _ => Nat.zero_le _)
        · rw [if_neg c4]
          exact fq_sq (fq_ac (fq_ei h2 _)) (fun _ _ => fq_sq (fq_ac (fq_sm h _)) (fun _ _ => fq_sq (fq_ac (fq_sm h _)) (fun _ _ => Nat.zero_le _)))
theorem fq_lv {kd vl : Nat → Nat} {law : Nat} : ∀ n, (∀ k, ((lv kd vl law n).1 k).1 ≤ 6) ∧ ∀ k, ((lv kd vl law n).2 k).1 ≤ 6 := by
  intro n
  induction n with
  | zero =>
    have h3 : ∀ k : Nat, ((3, k, gZ) : PR).1 ≤ 6 := fun k => by show 3 ≤ 6; decide
    have h1 := fq_one (kd := kd) (vl := vl) (law := law) h3
    exact ⟨h1, fq_ask h1 h3⟩
  | succ n ih =>
    have h1 := fq_one (kd := kd) (vl := vl) (law := law) (fq_inn (kd := kd) ih.1 ih.2)
    exact ⟨h1, fq_ask h1 (fun k => fq_sq (ih.2 _) (fun _ _ => Nat.zero_le _))⟩
theorem fq_bd {kd vl : Nat → Nat} {x : Tx} {s k : Nat} : (bdF kd vl x s k).1 ≤ 6 := by
  unfold bdF
  by_cases b1 : s ≤ 1
  · rw [if_pos b1]; exact fq_sm (fq_lv 8).1 k
  · rw [if_neg b1]
    unfold mvF
    repeat' split
    all_goals (first | exact Nat.zero_le _ | (show 1 ≤ 6; decide) | (show 2 ≤ 6; decide))
theorem fq_cl {kd vl : Nat → Nat} {x : Tx} {k : Nat} : (clF kd vl x k).1 ≤ 6 := by
  unfold clF smc
  have h := fq_bd (kd := kd) (vl := vl) (x := x) (s := kd k) (k := k + 1)
  repeat' split
  all_goals (first | exact Nat.zero_le _ | exact h | (show 1 ≤ 6; decide) | (show 4 ≤ 6; decide) | (show 6 ≤ 6; decide))
theorem fq_tx {kd vl : Nat → Nat} : ∀ n k x, (txF kd vl n k x).1 ≤ 6 := by
  intro n
  induction n with
  | zero => intro k x; exact Nat.zero_le _
  | succ n ih =>
    intro k x
    rw [txF]
    repeat' split
    · exact Nat.zero_le _
    · exact ih _ _
    · exact fq_cl
theorem cl_tN {kd vl : Nat → Nat} {x : Tx} {k : Nat} : (clF kd vl x k).1 = 0 → tN (clF kd vl x k).2.2 = tN x + 1 := by
  unfold clF
  by_cases a1 : kd k ≤ 8
  · rw [if_pos a1]
    by_cases a2 : kd k ≤ 1 ∧ (tL x (kd k)).isSome = true
    · rw [if_pos a2]; intro z; cases z
    · rw [if_neg a2]
      by_cases a3 : tN x < 24
      · rw [if_pos a3]
        have hb := bd_tN (kd := kd) (vl := vl) (x := x) (s := kd k) (k := k + 1)
        unfold smc
        by_cases b2 : (bdF kd vl x (kd k) (k + 1)).1 = 0
        · rw [if_pos b2]
          split
          · intro _; exact hb b2
          · intro z; cases z
        · rw [if_neg b2]; intro z; exact absurd z b2
      · rw [if_neg a3]; intro z; cases z
  · rw [if_neg a1]; intro z; cases z

/-! TEXT: words, on both sides -/
def lts (tb : Nat → Nat) : Nat → Nat → List Nat
  | 0, _ => []
  | n + 1, p => tb p :: lts tb n (p + 1)
def wl : List (List Nat) := [[112, 117, 116, 115], [102, 97, 108, 108, 115], [112, 108, 97, 110, 107], [112, 117, 116], [116, 97, 107, 101], [99, 111, 110, 99, 101, 100, 101], [111, 98, 106, 101, 99, 116], [100, 114, 111, 112], [104, 111, 117, 114], [119, 105, 110, 100], [110, 117, 109, 98, 101, 114], [119, 101, 105, 103, 104, 116], [117, 112], [97, 103, 97, 105, 110, 115, 116], [114, 101, 115, 116, 115], [108, 111, 97, 100], [111, 110], [116, 111], [111, 102], [98, 105, 116, 115], [104, 101, 97, 118, 121], [105, 102], [116, 104, 101, 110], [101, 108, 115, 101], [101, 110, 100], [111, 114], [97, 110, 100], [110, 111, 116]]
def jn : List (List Nat) → List Nat
  | [] => []
  | [x] => x
  | x :: y :: r => x ++ 32 :: jn (y :: r)
theorem wds_jn : wds = jn wl := by decide +kernel
def mt (tb : Nat → Nat) (b : Nat) : List Nat → Nat → Bool
  | [], _ => true
  | c :: cs, p => (decide (p < b) && decide (tb p = c)) && mt tb b cs (p + 1)
theorem wkGo_app {tb : Nat → Nat} {a b w : Nat} {cs : List Nat} : ∀ (x : List Nat) p al, (∀ c ∈ x, c ≠ 32) → wkGo tb a b (x ++ cs) w p al = wkGo tb a b cs w (p + x.length) (al && mt tb b x p) := by
  intro x
  induction x with
  | nil => intro p al _; rw [mt, Bool.and_true]; rfl
  | cons c r ih =>
    intro p al h
    rw [List.cons_append, wkGo, if_neg (h c (List.mem_cons_self ..)), ih _ _ (fun z hz => h z (List.mem_cons_of_mem _ hz)), mt, List.length_cons, Bool.and_assoc, show p + 1 + r.length = p + (r.length + 1) by omega]
theorem mt_lts {tb : Nat → Nat} {b : Nat} : ∀ (x : List Nat) p, p ≤ b → (mt tb b x p && decide (p + x.length = b)) = decide (lts tb (b - p) p = x) := by
  intro x
  induction x with
  | nil =>
    intro p h
    rw [mt, Bool.true_and]
    by_cases e : p = b
    · subst e
      rw [Nat.sub_self, lts, decide_eq_true (by rfl), decide_eq_true (by rfl)]
    · rw [show b - p = (b - p - 1) + 1 by omega, lts, decide_eq_false (by rw [List.length_nil]; omega), decide_eq_false (fun z => by cases z)]
  | cons c r ih =>
    intro p h
    rw [mt]
    by_cases e : p < b
    · have hi := ih (p + 1) (by omega)
      rw [decide_eq_true e, Bool.true_and, Bool.and_assoc, List.length_cons, show p + (r.length + 1) = p + 1 + r.length by omega, hi, show b - p = (b - (p + 1)) + 1 by omega, lts]
      by_cases e1 : tb p = c
      · rw [decide_eq_true e1, Bool.true_and]
        congr 1
        rw [e1, List.cons.injEq, eq_self, true_and]
      · rw [decide_eq_false e1, Bool.false_and, decide_eq_false (fun z => by injection z with z1 z2; exact e1 z1)]
    · rw [decide_eq_false e, Bool.false_and, Bool.false_and, Bool.false_and, show b - p = 0 by omega, lts, decide_eq_false (fun z => by cases z)]
def wkI (ls : List Nat) : List (List Nat) → Nat → Nat
  | [], _ => 42
  | x :: xs, w => if ls = x then w else wkI ls xs (w + 1)
theorem wkGo_jn {tb : Nat → Nat} {a b : Nat} (hab : a ≤ b) : ∀ (ws : List (List Nat)) w, ws ≠ [] → (∀ x ∈ ws, ∀ c ∈ x, c ≠ 32) → wkGo tb a b (jn ws) w a true = wkI (lts tb (b - a) a) ws w := by
  intro ws
  induction ws with
  | nil => intro w h; exact absurd rfl h
  | cons x r ih =>
    intro w _ h
    have hx := h x (List.mem_cons_self ..)
    have hm := mt_lts (tb := tb) x a hab
    cases r with
    | nil =>
      rw [jn, wkI, wkI, ← List.append_nil x, wkGo_app _ _ _ hx, wkGo, Bool.true_and, hm, List.append_nil]
      by_cases e : lts tb (b - a) a = x
      · rw [decide_eq_true e, if_pos rfl, if_pos e]
      · rw [decide_eq_false e, if_neg (by decide), if_neg e]
    | cons y r' =>
      rw [jn, wkI, wkGo_app _ _ _ hx, wkGo, if_pos rfl, Bool.true_and, hm]
      by_cases e : lts tb (b - a) a = x
      · rw [decide_eq_true e, if_pos rfl, if_pos e]
      · rw [decide_eq_false e, if_neg (by decide), if_neg e]
        exact ih (w + 1) (by intro z; cases z) (fun z hz => h z (List.mem_cons_of_mem _ hz))
theorem wl_32 : ∀ x ∈ wl, ∀ c ∈ x, c ≠ 32 := by decide +kernel
theorem wk_kw {tb : Nat → Nat} {a b : Nat} (hab : a ≤ b) : wkGo tb a b wds 0 a true = wkI (lts tb (b - a) a) wl 0 := by
  rw [wds_jn]
  exact wkGo_jn hab wl 0 (by intro z; cases z) wl_32
theorem wkI_out {ls : List Nat} : ∀ (ws : List (List Nat)) w, wkI ls ws w = 42 ∨ (w ≤ wkI ls ws w ∧ wkI ls ws w < w + ws.length ∧ ls = ws.getD (wkI ls ws w - w) []) := by
  intro ws
  induction ws with
  | nil => intro w; exact Or.inl rfl
  | cons x r ih =>
    intro w
    rw [wkI]
    by_cases e : ls = x
    · rw [if_pos e, Nat.sub_self]
      exact Or.inr ⟨Nat.le_refl _, by rw [List.length_cons]; omega, e⟩
    · rw [if_neg e]
      rcases ih (w + 1) with h | ⟨h1, h2, h3⟩
      · exact Or.inl h
      · refine Or.inr ⟨by omega, by rw [List.length_cons]; omega, ?_⟩
        rw [show wkI ls r (w + 1) - w = (wkI ls r (w + 1) - (w + 1)) + 1 by omega]
        exact h3
theorem wl_at : ∀ j : Fin 28, wkI (wl.getD j.1 []) wl 0 = j.1 := by decide +kernel
theorem kw_iff {ls : List Nat} {j : Nat} (hj : j < 28) : wkI ls wl 0 = j ↔ ls = wl.getD j [] := by
  constructor
  · intro h
    rcases wkI_out (ls := ls) wl 0 with h1 | ⟨_, _, h3⟩
    · omega
    · rw [h, Nat.sub_zero] at h3; exact h3
  · intro h
    rw [h]
    exact wl_at ⟨j, hj⟩
theorem kw_rng (ls : List Nat) : wkI ls wl 0 = 42 ∨ wkI ls wl 0 < 28 := by
  rcases wkI_out (ls := ls) wl 0 with h1 | ⟨_, h2, _⟩
  · exact Or.inl h1
  · exact Or.inr (by rw [Nat.zero_add] at h2; exact h2)
/-! how the reference packs them -/
def wst (w b : Nat) : Nat := if w / 2 ^ 48 = 0 then w * 256 + b else 2 ^ 60
def wf (ls : List Nat) : Nat := ls.foldl wst 0
theorem wdG_lts {tb : Nat → Nat} {q : Nat → Bool} : ∀ k p w, wdG tb q k p w = (lts tb (spn q k p - p) p).foldl wst w := by
  intro k
  induction k with
  | zero => intro p w; rw [spn, Nat.sub_self]; rfl
  | succ k ih =>
    intro p w
    rw [wdG, spn]
    cases e : q p
    · rw [if_neg (by decide), if_neg (by decide), Nat.sub_self]; rfl
    · have h := spn_ge (q := q) k (p + 1)
      rw [if_pos rfl, if_pos rfl, ih, show spn q k (p + 1) - p = (spn q k (p + 1) - (p + 1)) + 1 by omega, lts, List.foldl_cons]
      rfl
theorem lts_mem {tb : Nat → Nat} {P : Nat → Prop} : ∀ n p, (∀ i, p ≤ i → i < p + n → P (tb i)) → ∀ x ∈ lts tb n p, P x := by
  intro n
  induction n with
  | zero => intro p _ x hx; cases hx
  | succ n ih =>
    intro p h x hx
    rw [lts, List.mem_cons] at hx
    rcases hx with rfl | hx
    · exact h p (Nat.le_refl _) (by omega)
    · exact ih (p + 1) (fun i h1 h2 => h i (by omega) (by omega)) x hx
def Lt (x : Nat) : Prop := 65 ≤ x ∧ x ≤ 122
theorem pkR_lt : ∀ l : List Nat, (∀ x ∈ l, Lt x) → pkR l < 256 ^ l.length := by
  intro l
  induction l with
  | nil => intro _; decide
  | cons b r ih =>
    intro h
    have h1 := h b (List.mem_cons_self ..)
    have h2 := ih (fun x hx => h x (List.mem_cons_of_mem _ hx))
    unfold Lt at h1
    rw [pkR, List.length_cons, Nat.pow_succ]
    omega
theorem pkR_ge : ∀ l : List Nat, l ≠ [] → (∀ x ∈ l, Lt x) → 256 ^ (l.length - 1) ≤ pkR l := by
  intro l
  induction l with
  | nil => intro h; exact absurd rfl h
  | cons b r ih =>
    intro _ h
    have h1 := h b (List.mem_cons_self ..)
    unfold Lt at h1
    rw [pkR, List.length_cons, Nat.add_sub_cancel]
    cases r with
    | nil => rw [pkR]; show 1 ≤ _; omega
    | cons c r' =>
      have h2 := ih (by intro z; cases z) (fun x hx => h x (List.mem_cons_of_mem _ hx))
      rw [List.length_cons, Nat.add_sub_cancel] at h2
      rw [List.length_cons, Nat.pow_succ]
      omega
def wF (u : List Nat) : Nat := if u.length ≤ 7 then pkR u.reverse else 2 ^ 60
theorem wst_F {u : List Nat} {b : Nat} (hu : ∀ x ∈ u, Lt x) (hb : Lt b) : wst (wF u) b = wF (u ++ [b]) := by
  have hr : ∀ x ∈ u.reverse, Lt x := fun x hx => hu x (List.mem_reverse.mp hx)
  unfold wst wF
  rw [List.length_append, List.length_singleton, List.reverse_append, List.reverse_singleton]
  by_cases e6 : u.length ≤ 6
  · have h1 := pkR_lt _ hr
    rw [List.length_reverse] at h1
    have h2 : 256 ^ u.length ≤ 256 ^ 6 := Nat.pow_le_pow_right (by decide) e6
    rw [if_pos (show u.length ≤ 7 by omega), if_pos (show u.length + 1 ≤ 7 by omega), if_pos (by omega)]
    show _ = pkR (b :: u.reverse)
    rw [pkR]
    omega
  · by_cases e7 : u.length = 7
    · have h1 := pkR_ge u.reverse (fun z => by have := congrArg List.length z; rw [List.length_reverse, e7] at this; cases this) hr
      rw [List.length_reverse, e7] at h1
      rw [if_pos (show u.length ≤ 7 by omega), if_neg (show ¬ u.length + 1 ≤ 7 by omega), if_neg (by omega)]
    · rw [if_neg (show ¬ u.length ≤ 7 by omega), if_neg (show ¬ u.length + 1 ≤ 7 by omega), if_neg (by decide)]
theorem wf_F : ∀ (ls u : List Nat), (∀ x ∈ u, Lt x) → (∀ x ∈ ls, Lt x) → ls.foldl wst (wF u) = wF (u ++ ls) := by
  intro ls
  induction ls with
  | nil => intro u _ _; rw [List.append_nil]; rfl
  | cons b r ih =>
    intro u hu hl
    have hb := hl b (List.mem_cons_self ..)
    rw [List.foldl_cons, wst_F hu hb, ih (u ++ [b]) (fun x hx => by rcases List.mem_append.mp hx with z | z; exact hu x z; rw [List.mem_singleton] at z; rw [z]; exact hb) (fun x hx => hl x (List.mem_cons_of_mem _ hx)), List.append_assoc]
    rfl
theorem wf_eq {ls : List Nat} (h : ∀ x ∈ ls, Lt x) : wf ls = wF ls := by
  have := wf_F ls [] (fun x hx => by cases hx) h
  rw [List.nil_append] at this
  exact this
theorem wf_inj {ls w : List Nat} (h : ∀ x ∈ ls, Lt x) (hw : ∀ x ∈ w, Lt x) (h6 : w.length ≤ 6) : wf ls = wf w ↔ ls = w := by
  constructor
  · intro e
    rw [wf_eq h, wf_eq hw] at e
    unfold wF at e
    rw [if_pos (show w.length ≤ 7 by omega)] at e
    have hr : ∀ x ∈ ls.reverse, Lt x := fun x hx => h x (List.mem_reverse.mp hx)
    have hwr : ∀ x ∈ w.reverse, Lt x := fun x hx => hw x (List.mem_reverse.mp hx)
    have h1 := pkR_lt _ hwr
    rw [List.length_reverse] at h1
    have h2 : 256 ^ w.length ≤ 256 ^ 6 := Nat.pow_le_pow_right (by decide) h6
    by_cases e7 : ls.length ≤ 7
    · rw [if_pos e7] at e
      have := pkR_inj _ _ (fun x hx => by have := hr x hx; unfold Lt at this; omega) (fun x hx => by have := hwr x hx; unfold Lt at this; omega) e
      exact List.reverse_inj.mp this
    · rw [if_neg e7] at e
      omega
  · intro e; rw [e]
theorem wf_lt {ls : List Nat} (h : ∀ x ∈ ls, Lt x) : wf ls < 2 ^ 61 := by
  rw [wf_eq h]
  unfold wF
  by_cases e : ls.length ≤ 7
  · have h1 := pkR_lt ls.reverse (fun x hx => h x (List.mem_reverse.mp hx))
    rw [List.length_reverse] at h1
    have h2 : 256 ^ ls.length ≤ 256 ^ 7 := Nat.pow_le_pow_right (by decide) e
    rw [if_pos e]
    omega
  · rw [if_neg e]; decide
theorem wl_Lt : ∀ j : Fin 28, ∀ x ∈ wl.getD j.1 [], Lt x := by unfold Lt; decide +kernel

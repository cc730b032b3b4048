/-! TEXT: the reference on what is joined -/
def ZF (d : Nat) (M : Mem) (z : Option Value) (tb : Nat → Nat) (tl T : Nat) (r : PR) : Prop := ∃ M', D (PRm T) M M' ∧ LHd d M z = some (some (.int (nI r.1)), NX, M') ∧ gI M' 174 8 = nI (plT tb tl r.2.1)
def ZW (Sem : (Nat → Nat × Nat) → Nat → Nat → Gv → Prop) (lo : Nat) (en : Nat → Prop) (Q : List Nat → Prop) (d : Nat) (M : Mem) (z : Option Value) (tb : Nat → Nat) (tl T law k w o : Nat) (cm : Nat → Nat × Nat) (P : List Nat) (r : PR) : Prop := ∃ M' w' cm' p z', D (PRm T) M M' ∧ RfS M' tb tl T law r.2.1 w' (o + c20 p) cm' (p ++ P) ∧ gI M' 174 18 = nI 1 ∧ (∀ x ∈ p, lo ≤ rk x ∧ rk x ≤ 6) ∧ Q p ∧ en r.2.1 ∧ (k < r.2.1 ∧ r.2.1 ≤ 300 ∧ w' + p.length + k ≤ w + r.2.1 ∧ w < w') ∧ (∀ j, j < w → cm' j = cm j) ∧ PD Sem cm' w w' p r.2.2 ∧ LHd d M z = LHd d M' z'
def ZR (Sem : (Nat → Nat × Nat) → Nat → Nat → Gv → Prop) (lo : Nat) (en : Nat → Prop) (Q : List Nat → Prop) (d : Nat) (M : Mem) (z : Option Value) (tb : Nat → Nat) (tl T law k w o : Nat) (cm : Nat → Nat × Nat) (P : List Nat) (r : PR) : Prop := (r.1 ≠ 0 → ZF d M z tb tl T r) ∧ (r.1 = 0 → ZW Sem lo en Q d M z tb tl T law k w o cm P r)
def ZC (Sem : (Nat → Nat × Nat) → Nat → Nat → Gv → Prop) (d : Nat) (tb : Nat → Nat) (tl T law o lo c : Nat) (cnd : Nat → List Nat → Prop) (en : Nat → Prop) (Q : List Nat → Prop) (F : Nat → PR) : Prop := ∀ M k w cm P z, RfS M tb tl T law k w o cm P → gI M 174 18 = nI 0 → cnd k P → P.length ≤ 6 * o + c → w + P.length ≤ k → k ≤ 300 → ZR Sem lo en Q d M z tb tl T law k w o cm P (F k)
theorem c20_app : ∀ p q : List Nat, c20 (p ++ q) = c20 p + c20 q := by
  intro p q
  induction p with
  | nil => rw [List.nil_append, c20, Nat.zero_add]
  | cons x r ih => rw [List.cons_append, c20, c20, ih]; omega
theorem c20_1 {x : Nat} (h : rk x ≤ 6) (h2 : x ≠ 20) : c20 [x] = 0 := by
  rw [c20, c20, if_neg (by omega)]
section ZLP
variable {d : Nat} {tb : Nat → Nat} {tl T law o : Nat}
theorem z_loop {Sem : (Nat → Nat × Nat) → Nat → Nat → Gv → Prop} {R lo' c : Nat} {cnd cnd' : Nat → List Nat → Prop} {en' : Nat → Prop} {Q Q' : List Nat → Prop} {one : Nat → PR} {op : Nat → Bool} {f : Nat → Gv → Gv → Gv} {oc : Nat → Nat}
  (hR : R ≤ 6 ∧ R ≠ 4) (hlo : R < lo') (ho : o ≤ 8) (hcc : c ≤ 5)
  (hone : ZC Sem d tb tl T law o lo' (c + 1) cnd' en' Q' one)
  (h1 : ∀ k P, cnd k P → cnd' k P)
  (h2 : ∀ k0 P s k, cnd k0 P → op s = true → cnd' k (oc s :: P))
  (h3 : ∀ s, op s = true → rk (oc s) = R ∧ oc s < 64 ∧ oc s ≠ 20 ∧ s ≠ 43)
  (hlw : ∀ k P, cnd k P → low P R)
  (hbw : ∀ M k w o cm p P k0, RfS M tb tl T law k w o cm (p ++ P) → cnd k0 P → (∀ x ∈ p, R ≤ rk x ∧ rk x ≤ 6) → Q p → en' k → op (kdT tb tl k) = true → ev (d + 8) m_M_betweenOf [.ref 174] NX M = some (some (.int (nI (oc (kdT tb tl k)))), NX, M))
  (hj : ∀ cm s t u a b s', op s' = true → Sem cm s t a → Sem cm t u b → cm u = (oc s', 0) → Sem cm s (u + 1) (f s' a b))
  (hcg : ∀ c c' s t g, Sem c s t g → (∀ j, s ≤ j → j < t → c' j = c j) → Sem c' s t g)
  (hlt : ∀ c s t g, Sem c s t g → s < t)
  (hQ : ∀ p, Q' p → Q p) (hQ2 : ∀ p s, Q' p → op s = true → Q (p ++ [oc s])) :
  ZC Sem d tb tl T law o R c cnd (fun k => en' k ∧ op (kdT tb tl k) = false) Q (fun k => sq (one k) (fun k g => lpR (kdT tb tl) one op f 300 k g)) := by
  intro M k w cm P z hS hw0 hcnd hlen hwk hk
  have h3t : tl ≤ 300 := hS.1.2.2.2.1
  have base : ∀ n i k1 w1 (cm1 : Nat → Nat × Nat) (p : List Nat) (M1 : Mem) (g : Gv) (z1 : Option Value), i + n = 300 → RfS M1 tb tl T law k1 w1 (o + c20 p) cm1 (p ++ P) → gI M1 174 18 = nI 1 → (∀ x ∈ p, R ≤ rk x ∧ rk x ≤ 6) → Q p → en' k1 → i ≤ k1 → k < k1 → k1 ≤ 300 → w1 + p.length + k ≤ w + k1 → w < w1 → (∀ j, j < w → cm1 j = cm j) → PD Sem cm1 w w1 p g → D (PRm T) M M1 → LHd d M z = LHd d M1 z1 → ZR Sem R (fun k => en' k ∧ op (kdT tb tl k) = false) Q d M z tb tl T law k w o cm P (lpR (kdT tb tl) one op f n k1 g) := by
    intro n
    induction n with
    | zero =>
      intro i k1 w1 cm1 p M1 g z1 hi hS1 hw1 hp hq hen hik hkk hk1 hb hww hag hpd hd hl
      refine ⟨fun e => absurd rfl e, fun _ => ⟨M1, w1, cm1, p, z1, hd, hS1, hw1, hp, hq, ⟨hen, ?_⟩, ⟨hkk, hk1, hb, hww⟩, hag, hpd, hl⟩⟩
      rw [Bool.eq_false_iff]
      intro e
      exact (h3 _ e).2.2.2 (kd_300 h3t (by show 300 ≤ k1; omega))
    | succ n ih =>
      intro i k1 w1 cm1 p M1 g z1 hi hS1 hw1 hp hq hen hik hkk hk1 hb hww hag hpd hd hl
      rw [lpR]
      by_cases eo : op (kdT tb tl k1) = true
      · rw [if_pos eo]
        obtain ⟨q1, q2, q3, q4⟩ := h3 _ eo
        have hk300 := kd_lt (tb := tb) (k := k1) h3t q4
        obtain ⟨M2, d2, hS2, hw2, r2⟩ := bh_op (d := d) (x := oc (kdT tb tl k1)) (l := R) hS1 (hbw M1 k1 w1 _ cm1 p P k hS1 hcnd hp hq hen eo) q2 (by rw [q1, if_neg hR.2]) (fun y hy => (hp y hy).1) (hlw k P hcnd) (by omega) (by omega)
        have l2 : LHd d M z = LHd d M2 (some (.int (nI 0))) := by rw [hl, LH1 hw1 r2, CF0]
        have hy := hone M2 (k1 + 1) (w1 + p.length) (emt cm1 w1 p) (oc (kdT tb tl k1) :: P) (some (.int (nI 0))) hS2 hw2 (h2 k P _ _ hcnd eo) (by rw [List.length_cons]; omega) (by rw [List.length_cons]; omega) (by omega)
        by_cases e1 : (one (k1 + 1)).1 = 0
        · obtain ⟨M3, w3, cm3, p3, z3, d3, hS3, hw3, hp3, hq3, hen3, ⟨b1, b2, b3, b4⟩, hag3, hpd3, hl3⟩ := hy.2 e1
          rw [sq_0 e1]
          have c1 : c20 (p3 ++ [oc (kdT tb tl k1)]) = c20 p3 := by rw [c20_app, c20_1 (by omega) q3, Nat.add_zero]
          have hS3' : RfS M3 tb tl T law (one (k1 + 1)).2.1 w3 (o + c20 (p3 ++ [oc (kdT tb tl k1)])) cm3 ((p3 ++ [oc (kdT tb tl k1)]) ++ P) := by
            rw [c1, List.append_assoc]
            exact hS3
          have hdone := hpd.done
          have hle := hlt _ _ _ _ hdone
          refine ih (i + 1) (one (k1 + 1)).2.1 w3 cm3 (p3 ++ [oc (kdT tb tl k1)]) M3 (f (kdT tb tl k1) g (one (k1 + 1)).2.2) z3 (by omega) hS3' hw3 ?_ (hQ2 p3 _ hq3 eo) hen3 (by omega) (by omega) b2 ?_ (by omega) ?_ ?_ ((hd.trans d2).trans d3) (l2.trans hl3)
          · intro x hx
            rcases List.mem_append.mp hx with y | y
            · have := hp3 x y; omega
            · rw [List.mem_singleton] at y; rw [y]; omega
          · rw [List.length_append, List.length_singleton]; omega
          · intro j hj
            rw [hag3 j (by omega), emt_lo _ _ _ (by omega)]
            exact hag j hj
          · refine PD.snoc hpd3 (fun cm' ha hb' hc' => hj cm' w (w1 + p.length) _ g _ (kdT tb tl k1) eo (hcg _ _ _ _ _ hdone (fun j x y => ?_)) hb' hc') (by omega)
            rw [ha j x (by omega), hag3 j y]
        · obtain ⟨M3, d3, r3, g3⟩ := hy.1 e1
          rw [sq_1 e1]
          exact ⟨fun _ => ⟨M3, (hd.trans d2).trans d3, l2.trans r3, g3⟩, fun z => absurd z e1⟩
      · rw [if_neg eo]
        exact ⟨fun e => absurd rfl e, fun _ => ⟨M1, w1, cm1, p, z1, hd, hS1, hw1, hp, hq, ⟨hen, Bool.eq_false_iff.mpr eo⟩, ⟨hkk, hk1, hb, hww⟩, hag, hpd, hl⟩⟩
  have hy := hone M k w cm P z hS hw0 (h1 k P hcnd) (by omega) hwk hk
  show ZR Sem R _ Q d M z tb tl T law k w o cm P (sq (one k) (fun k g => lpR (kdT tb tl) one op f 300 k g))
  by_cases e1 : (one k).1 = 0
  · obtain ⟨M3, w3, cm3, p3, z3, d3, hS3, hw3, hp3, hq3, hen3, ⟨b1, b2, b3, b4⟩, hag3, hpd3, hl3⟩ := hy.2 e1
    rw [sq_0 e1]
    exact base 300 0 (one k).2.1 w3 cm3 p3 M3 (one k).2.2 z3 (by omega) hS3 hw3 (fun x hx => by have := hp3 x hx; omega) (hQ p3 hq3) hen3 (by omega) b1 b2 b3 b4 hag3 hpd3 d3 hl3
  · rw [sq_1 e1]
    exact ⟨hy.1, fun z => absurd z e1⟩
end ZLP

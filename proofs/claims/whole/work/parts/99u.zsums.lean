/-! TEXT: the reference's sums and asks -/
theorem rk_0 {x : Nat} (h : 1 ≤ rk x) : x < 40 := by
  unfold rk at h
  by_cases e : 40 ≤ x
  · rw [if_pos e] at h; omega
  · omega
theorem oAt_app {P : List Nat} : ∀ p : List Nat, (∀ x ∈ p, 1 ≤ rk x) → oAt (p ++ P) = oAt P := by
  intro p
  induction p with
  | nil => intro _; rfl
  | cons x r ih =>
    intro h
    have := rk_0 (h x (List.mem_cons_self ..))
    rw [List.cons_append, oAt, if_neg (by omega)]
    exact ih (fun y hy => h y (List.mem_cons_of_mem _ hy))
theorem oV_app {P p : List Nat} (h : ∀ x ∈ p, 1 ≤ rk x) : oV (p ++ P) = oV P := by unfold oV; rw [oAt_app p h]
theorem oNw_app {P p : List Nat} (h : ∀ x ∈ p, 1 ≤ rk x) : oNw (p ++ P) = oNw P := by unfold oNw; rw [oAt_app p h]
theorem oV_hd {b : Nat} {P : List Nat} (h : 40 ≤ b) : oV (b :: P) = b ∧ oNw (b :: P) = nI b := by unfold oV oNw; rw [oAt, if_pos h]; exact ⟨rfl, rfl⟩
theorem oV_lo {x : Nat} {P : List Nat} (h : x < 40) : oV (x :: P) = oV P := by unfold oV; rw [oAt, if_neg (by omega)]
theorem cmpd_hi {P : List Nat} : ∀ p : List Nat, (∀ x ∈ p, 4 < rk x) → cmpd (p ++ P) = cmpd P := by
  intro p
  induction p with
  | nil => intro _; rfl
  | cons x r ih =>
    intro h
    rw [List.cons_append, cmpd, if_pos (h x (List.mem_cons_self ..))]
    exact ih (fun y hy => h y (List.mem_cons_of_mem _ hy))
theorem cmpd_app {P : List Nat} : ∀ p : List Nat, cmpd p = true → cmpd (p ++ P) = true := by
  intro p
  induction p with
  | nil => intro h; cases h
  | cons x r ih =>
    intro h
    rw [cmpd] at h
    rw [List.cons_append, cmpd]
    by_cases e : 4 < rk x
    · rw [if_pos e] at h ⊢; exact ih h
    · rw [if_neg e] at h ⊢; exact h
theorem askA_no {x : Nat} {P : List Nat} (h : x < 40) (h2 : 3 < rk x) : askA (x :: P) = false := by
  unfold askA
  dsimp only
  rw [decide_eq_false (show ¬ 40 ≤ x by omega), decide_eq_false (show ¬ rk x ≤ 3 by omega), Bool.and_false, Bool.or_false, Bool.and_false]
theorem askA_v {x : Nat} {P : List Nat} (h : oV (x :: P) ≠ 42) : askA (x :: P) = false := by
  unfold askA
  dsimp only
  rw [decide_eq_false h, Bool.false_and]
theorem askA_y {x : Nat} {P : List Nat} (h : oV (x :: P) = 42) (h2 : 40 ≤ x ∨ (1 ≤ rk x ∧ rk x ≤ 3)) : askA (x :: P) = true := by
  unfold askA
  dsimp only
  rw [decide_eq_true h, Bool.true_and, Bool.or_eq_true, Bool.and_eq_true, decide_eq_true_eq, decide_eq_true_eq, decide_eq_true_eq]
  exact h2
def nT (_ : Nat) : Prop := True
def qT (_ : List Nat) : Prop := True
def qC (p : List Nat) : Prop := cmpd p = true
def cndS (tb : Nat → Nat) (tl R k : Nat) (P : List Nat) : Prop := low P R ∧ P.head? ≠ some 41 ∧ (kdT tb tl k = 27 → askA P = false)
def cndA (R k : Nat) (P : List Nat) : Prop := low P R ∧ P.head? ≠ some 41 ∧ oV P = 42 ∧ askA P = true ∧ cmpd P = false
def enP (tb : Nat → Nat) (tl k : Nat) : Prop := nT k ∧ o34 (kdT tb tl k) = false
def enS (tb : Nat → Nat) (tl k : Nat) : Prop := enP tb tl k ∧ o32 (kdT tb tl k) = false
def enB (tb : Nat → Nat) (tl k : Nat) : Prop := enS tb tl k ∧ o26 (kdT tb tl k) = false
def enE (tb : Nat → Nat) (tl k : Nat) : Prop := enB tb tl k ∧ o25 (kdT tb tl k) = false
theorem low_mono {P : List Nat} {a b : Nat} (h : low P a) (hab : a ≤ b) : low P b := by
  cases P with
  | nil => trivial
  | cons x r => have h' : rk x < a := h; show rk x < b; omega
theorem enS_nAr {tb : Nat → Nat} {tl k : Nat} (h : enS tb tl k) : nAr (kdT tb tl k) := by
  obtain ⟨⟨_, a⟩, b⟩ := h
  unfold o34 at a
  unfold o32 at b
  rw [Bool.or_eq_false_iff, decide_eq_false_iff_not, decide_eq_false_iff_not] at a b
  unfold nAr
  omega
/-- what comes of one -/
def ZOr (d : Nat) (M : Mem) (z : Option Value) (tb : Nat → Nat) (tl T law k w o : Nat) (cm : Nat → Nat × Nat) (P : List Nat) (r : PR) : Prop := (r.1 ≠ 0 → ZF d M z tb tl T r) ∧ (r.1 = 0 → ∃ M' w' cm', D (PRm T) M M' ∧ RfS M' tb tl T law r.2.1 w' o cm' P ∧ (k < r.2.1 ∧ r.2.1 ≤ 300 ∧ w' + k ≤ w + r.2.1 ∧ w < w') ∧ (∀ j, j < w → cm' j = cm j) ∧ MV cm' w w' r.2.2 ∧ ∀ f M'', ev (d + 8) m_M_endOne [.ref 174] NX M' = some (some (.int f), NX, M'') → LHd d M z = CFr d f M'')
def ZO (d : Nat) (tb : Nat → Nat) (tl T law o : Nat) (F : Nat → PR) : Prop := ∀ M k w cm P z, RfS M tb tl T law k w o cm P → gI M 174 18 = nI 0 → (kdT tb tl k = 27 → askA P = false) → P.length ≤ 6 * o + 5 → w + P.length ≤ k → k ≤ 300 → ZOr d M z tb tl T law k w o cm P (F k)
section ZSM
variable {d : Nat} {tb : Nat → Nat} {tl T law o : Nat}
theorem z_oneW {one : Nat → PR} (h : ZO d tb tl T law o one) : ZC MV d tb tl T law o 7 5 (cndS tb tl 7) nT qT one := by
  intro M k w cm P z hS hw0 hc hlen hwk hk
  obtain ⟨h1, h2⟩ := h M k w cm P z hS hw0 hc.2.2 hlen hwk hk
  refine ⟨h1, fun e => ?_⟩
  obtain ⟨M', w', cm', d1, hS1, ⟨b1, b2, b3, b4⟩, hag, hmv, him⟩ := h2 e
  have he := en_ok (d := d + 5) hS1 hc.1 hc.2.1
  refine ⟨_, w', cm', [], some (.int (nI 0)), d1.sI (Or.inl ⟨rfl, by omega⟩), hS1.whole (v := nI 1), gI_sI_eq, fun x hx => (by cases hx), trivial, trivial, ⟨b1, b2, by rw [List.length_nil]; omega, b4⟩, hag, PD.nil (fun a b => a.congr b) hmv, ?_⟩
  rw [him _ _ he, CF0]
theorem z_prod {one : Nat → PR} (ho : o ≤ 8) (h : ZO d tb tl T law o one) : ZC MV d tb tl T law o 6 4 (cndS tb tl 6) (enP tb tl) qT (prF (kdT tb tl) one) := by
  have hop : ∀ s, o34 s = true → s = 34 ∨ s = 35 := fun s hs => by unfold o34 at hs; rw [Bool.or_eq_true, decide_eq_true_eq, decide_eq_true_eq] at hs; exact hs
  refine z_loop (R := 6) (lo' := 7) (c := 4) (cnd' := cndS tb tl 7) (en' := nT) (Q' := qT) (oc := fun s => s - 26) (by omega) (by omega) ho (by omega) (z_oneW h) (fun k P hc => ⟨low_mono hc.1 (by omega), hc.2⟩) (fun k0 P s k hc hs => ?_) (fun s hs => ?_) (fun k P hc => hc.1) (fun M k w o cm p P k0 hS hc hp hq hen hs => ?_) (fun cm s t u a b s' hs ha hb hcm => ?_) (fun c c' s t g a b => a.congr b) (fun c s t g a => a.1) (fun _ _ => trivial) (fun _ _ _ _ => trivial)
  · rcases hop s hs with rfl | rfl
    · exact ⟨by show rk 8 < 7; decide, (by intro z; cases z), fun _ => askA_no (by decide) (by decide)⟩
    · exact ⟨by show rk 9 < 7; decide, (by intro z; cases z), fun _ => askA_no (by decide) (by decide)⟩
  · rcases hop s hs with rfl | rfl <;> decide
  · exact bw_ar (d := d + 5) hS.2.1 (by rcases hop _ hs with z | z <;> omega) (by rcases hop _ hs with z | z <;> omega)
  · exact MV_ar ha hb (by rcases hop _ hs with z | z <;> omega) (by rcases hop _ hs with z | z <;> omega) hcm
theorem z_sum {one : Nat → PR} (ho : o ≤ 8) (h : ZO d tb tl T law o one) : ZC MV d tb tl T law o 5 3 (cndS tb tl 5) (enS tb tl) qT (smF (kdT tb tl) one) := by
  have hop : ∀ s, o32 s = true → s = 32 ∨ s = 33 := fun s hs => by unfold o32 at hs; rw [Bool.or_eq_true, decide_eq_true_eq, decide_eq_true_eq] at hs; exact hs
  refine z_loop (R := 5) (lo' := 6) (c := 3) (cnd' := cndS tb tl 6) (en' := enP tb tl) (Q' := qT) (oc := fun s => s - 26) (by omega) (by omega) ho (by omega) (z_prod ho h) (fun k P hc => ⟨low_mono hc.1 (by omega), hc.2⟩) (fun k0 P s k hc hs => ?_) (fun s hs => ?_) (fun k P hc => hc.1) (fun M k w o cm p P k0 hS hc hp hq hen hs => ?_) (fun cm s t u a b s' hs ha hb hcm => ?_) (fun c c' s t g a b => a.congr b) (fun c s t g a => a.1) (fun _ _ => trivial) (fun _ _ _ _ => trivial)
  · rcases hop s hs with rfl | rfl
    · exact ⟨by show rk 6 < 6; decide, (by intro z; cases z), fun _ => askA_no (by decide) (by decide)⟩
    · exact ⟨by show rk 7 < 6; decide, (by intro z; cases z), fun _ => askA_no (by decide) (by decide)⟩
  · rcases hop s hs with rfl | rfl <;> decide
  · exact bw_ar (d := d + 5) hS.2.1 (by rcases hop _ hs with z | z <;> omega) (by rcases hop _ hs with z | z <;> omega)
  · exact MV_ar ha hb (by rcases hop _ hs with z | z <;> omega) (by rcases hop _ hs with z | z <;> omega) hcm
theorem z_both {ask : Nat → PR} (ho : o ≤ 8) (h : ZC MB d tb tl T law o 3 2 (cndA 4) (enS tb tl) qC ask) : ZC MB d tb tl T law o 2 1 (cndA 2) (enB tb tl) qC (botF (kdT tb tl) ask) := by
  refine z_loop (R := 2) (lo' := 3) (c := 1) (cnd' := cndA 4) (en' := enS tb tl) (Q' := qC) (oc := fun _ => 21) (by omega) (by omega) ho (by omega) h (fun k P hc => ⟨low_mono hc.1 (by omega), hc.2⟩) (fun k0 P s k hc hs => ?_) (fun s hs => ?_) (fun k P hc => hc.1) (fun M k w o cm p P k0 hS hc hp hq hen hs => ?_) (fun cm s t u a b s' hs ha hb hcm => MB_and ha hb hcm) (fun c c' s t g a b => a.congr b) (fun c s t g a => a.1) (fun _ a => a) (fun p _ a _ => cmpd_app p a)
  · have hv : oV (21 :: P) = 42 := by rw [oV_lo (by decide)]; exact hc.2.2.1
    exact ⟨by show rk 21 < 4; decide, (by intro z; cases z), hv, askA_y hv (Or.inr (by decide)), rfl⟩
  · unfold o26 at hs
    rw [decide_eq_true_eq] at hs
    subst hs
    decide
  · have e26 : kdT tb tl k = 26 := by unfold o26 at hs; rw [decide_eq_true_eq] at hs; exact hs
    have h1 : ∀ x ∈ p, 1 ≤ rk x := fun x hx => by have := hp x hx; omega
    have hb := bw_log (d := d + 5) hS (enS_nAr hen) (by rw [oV_app h1]; exact hc.2.2.1) (cmpd_app p hq)
    rw [if_pos e26] at hb
    exact hb
theorem z_either {ask : Nat → PR} (ho : o ≤ 8) (h : ZC MB d tb tl T law o 3 2 (cndA 4) (enS tb tl) qC ask) : ZC MB d tb tl T law o 1 0 (cndA 1) (enE tb tl) qC (eitF (kdT tb tl) ask) := by
  refine z_loop (R := 1) (lo' := 2) (c := 0) (cnd' := cndA 2) (en' := enB tb tl) (Q' := qC) (oc := fun _ => 22) (by omega) (by omega) ho (by omega) (z_both ho h) (fun k P hc => ⟨low_mono hc.1 (by omega), hc.2⟩) (fun k0 P s k hc hs => ?_) (fun s hs => ?_) (fun k P hc => hc.1) (fun M k w o cm p P k0 hS hc hp hq hen hs => ?_) (fun cm s t u a b s' hs ha hb hcm => MB_or ha hb hcm) (fun c c' s t g a b => a.congr b) (fun c s t g a => a.1) (fun _ a => a) (fun p _ a _ => cmpd_app p a)
  · have hv : oV (22 :: P) = 42 := by rw [oV_lo (by decide)]; exact hc.2.2.1
    exact ⟨by show rk 22 < 2; decide, (by intro z; cases z), hv, askA_y hv (Or.inr (by decide)), rfl⟩
  · unfold o25 at hs
    rw [decide_eq_true_eq] at hs
    subst hs
    decide
  · have e25 : kdT tb tl k = 25 := by unfold o25 at hs; rw [decide_eq_true_eq] at hs; exact hs
    have h1 : ∀ x ∈ p, 1 ≤ rk x := fun x hx => by have := hp x hx; omega
    have hb := bw_log (d := d + 5) hS (enS_nAr hen.1) (by rw [oV_app h1]; exact hc.2.2.1) (cmpd_app p hq)
    rw [if_neg (by omega), if_pos e25] at hb
    exact hb
theorem z_ask {one nt : Nat → PR} (ho : o ≤ 8) (h : ZO d tb tl T law o one) (hnt : ∀ M k w cm P z, RfS M tb tl T law k w o cm P → gI M 174 18 = nI 0 → cndA 4 k P → P.length ≤ 6 * o + 2 → w + P.length ≤ k → k ≤ 300 → kdT tb tl k = 27 → ZR MB 3 (enS tb tl) qC d M z tb tl T law k w o cm P (nt k)) : ZC MB d tb tl T law o 3 2 (cndA 4) (enS tb tl) qC (askF (kdT tb tl) one nt) := by
  intro M k w cm P z hS hw0 hc hlen hwk hk
  have h3t : tl ≤ 300 := hS.1.2.2.2.1
  unfold askF
  by_cases e27 : kdT tb tl k = 27
  · rw [if_pos e27]
    exact hnt M k w cm P z hS hw0 hc hlen hwk hk e27
  · rw [if_neg e27]
    have hs := z_sum ho h
    obtain ⟨y1, y2⟩ := hs M k w cm P z hS hw0 ⟨low_mono hc.1 (by omega), hc.2.1, fun z => absurd z e27⟩ (by omega) hwk hk
    by_cases e1 : (smF (kdT tb tl) one k).1 = 0
    · obtain ⟨M1, w1, cm1, p1, z1, d1, hS1, hw1, hp1, _, hen1, ⟨b1, b2, b3, b4⟩, hag1, hpd1, hl1⟩ := y2 e1
      rw [sq_0 e1]
      generalize (smF (kdT tb tl) one k).2.1 = k1 at *
      generalize (smF (kdT tb tl) one k).2.2 = g1 at *
      have h1 : ∀ x ∈ p1, 1 ≤ rk x := fun x hx => by have := hp1 x hx; omega
      have hv : oV (p1 ++ P) = 42 := by rw [oV_app h1]; exact hc.2.2.1
      have hcm : cmpd (p1 ++ P) = false := by rw [cmpd_hi p1 (fun x hx => by have := hp1 x hx; omega)]; exact hc.2.2.2.2
      have hbw := bw_cmp (d := d + 5) hS1 (enS_nAr hen1) hv hcm
      by_cases eC : isC (kdT tb tl k1) = true
      · rw [if_pos eC] at hbw ⊢
        have hk300 := kd_lt (tb := tb) (k := k1) h3t (by intro q; rw [q] at eC; cases eC)
        have hx : rk (cmO (kdT tb tl k1)) = 4 ∧ cmO (kdT tb tl k1) < 40 ∧ cmO (kdT tb tl k1) ≠ 20 := by rcases isC_or eC with q | q | q | q | q | q <;> rw [q] <;> decide
        obtain ⟨M2, d2, hS2, hw2, r2⟩ := bh_op (d := d) (x := cmO (kdT tb tl k1)) (l := 5) hS1 hbw (by omega) (by rw [if_pos hx.1]) (fun y hy => (hp1 y hy).1) (low_mono hc.1 (by omega)) (by omega) (by omega)
        have l2 : LHd d M z = LHd d M2 (some (.int (nI 0))) := by rw [hl1, LH1 hw1 r2, CF0]
        obtain ⟨u1, u2⟩ := hs M2 (k1 + 1) (w1 + p1.length) (emt cm1 w1 p1) (cmO (kdT tb tl k1) :: P) (some (.int (nI 0))) hS2 hw2 ⟨by show rk _ < 5; omega, by intro q; injection q with q; omega, fun _ => askA_no hx.2.1 (by omega)⟩ (by rw [List.length_cons]; omega) (by rw [List.length_cons]; omega) (by omega)
        by_cases e2 : (smF (kdT tb tl) one (k1 + 1)).1 = 0
        · obtain ⟨M3, w3, cm3, p3, z3, d3, hS3, hw3, hp3, _, hen3, ⟨c1, c2, c3, c4⟩, hag3, hpd3, hl3⟩ := u2 e2
          rw [sq_0 e2]
          have c5 : c20 (p3 ++ [cmO (kdT tb tl k1)]) = c20 p3 := by rw [c20_app, c20_1 (by omega) hx.2.2, Nat.add_zero]
          have hdone := hpd1.done
          refine ⟨fun q => absurd rfl q, fun _ => ⟨M3, w3, cm3, p3 ++ [cmO (kdT tb tl k1)], z3, (d1.trans d2).trans d3, by rw [c5, List.append_assoc]; exact hS3, hw3, ?_, ?_, hen3, ⟨by dsimp only; omega, c2, by rw [List.length_append, List.length_singleton]; dsimp only; omega, by omega⟩, ?_, ?_, l2.trans hl3⟩⟩
          · intro x hx'
            rcases List.mem_append.mp hx' with y | y
            · have := hp3 x y; omega
            · rw [List.mem_singleton] at y; rw [y]; omega
          · show cmpd _ = true
            rw [cmpd_hi p3 (fun x hx => by have := hp3 x hx; omega), cmpd, if_neg (by omega), decide_eq_true hx.1]
          · intro j hj
            rw [hag3 j (by omega), emt_lo _ _ _ (by omega)]
            exact hag1 j hj
          · refine PD.snoc hpd3 (fun cm' ha hb' hc' => MB_cp (hdone.congr (fun j x y => ?_)) hb' eC hc') (by omega)
            rw [ha j x (by omega), hag3 j y]
        · obtain ⟨M3, d3, r3, g3⟩ := u1 e2
          rw [sq_1 e2]
          exact ⟨fun _ => ⟨M3, (d1.trans d2).trans d3, l2.trans r3, g3⟩, fun q => absurd q e2⟩
      · rw [if_neg eC] at hbw ⊢
        have hpr : prt (oV (p1 ++ P)) (kdT tb tl k1) (cmpd (p1 ++ P)) = -nI 1 := by
          rw [hv, hcm]
          unfold prt
          rw [if_neg (by decide), if_pos rfl, if_neg (fun q => by cases q.2)]
        have r2 := bh_no (d := d) hS1 hbw hpr
        refine ⟨fun _ => ⟨M1, d1, ?_, hS1.2.1.2.1⟩, fun q => by cases q⟩
        rw [hl1, LH1 hw1 r2, CFm hS1 (by omega)]
    · rw [sq_1 e1]
      exact ⟨y1, fun q => absurd q e1⟩
end ZSM

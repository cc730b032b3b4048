/-! THE LAW: its loop -/
def Ing (M : Mem) (L : Nat) (xs : Nat → Int32) : Prop := (∃ s s' T tb tl f, IX M s s' T tb tl f ∧ IM M s s' T tb tl f ∧ IO s s' tb tl) ∧ StrW M ∧ (∀ j, j < L → gI M 1000 j = xs j) ∧ M.2.2.2 = L
theorem exN_int {E : Hdl} {y : Nat} (hE : mono E) (hm : mR y = some .int ∨ mR y = some .boolean) : ∀ n f (r : Res), exN E y n f = some r → ∃ x, r.1 = some (.int x) := by
  intro n
  induction n with
  | zero => intro f r h; cases h
  | succ n ih =>
    intro f r h
    rw [exN] at h
    cases hd : decode (mB y) f.1 with
    | error e => rw [hd] at h; cases h
    | ok q =>
      obtain ⟨i, l⟩ := q
      rw [hd] at h
      dsimp only at h
      split at h
      · cases hs : stp E y i f.1 f.2.1 f.2.2.1 f.2.2.2.1 f.2.2.2.2 with
        | none => rw [hs] at h; cases h
        | some w =>
          rw [hs] at h
          cases w with
          | inl f' => exact ih f' r h
          | inr o =>
            have ho : o = r := Option.some.inj h
            subst ho
            cases hi : isRet i with
            | false =>
              obtain ⟨f', hf, _⟩ := stp_ok hE hi _ hs
              cases hf
            | true =>
              obtain ⟨_, _, hr⟩ := stp_ret hi hs
              rcases hr with ⟨_, x, hx, _⟩ | ⟨_, x, _, ht⟩ | ⟨_, _, ht⟩ | ⟨_, _, ht⟩
              · exact ⟨x, hx⟩
              · rcases hm with z | z <;> rw [z] at ht <;> cases ht
              · rcases hm with z | z <;> rw [z] at ht <;> cases ht
              · rcases hm with z | z <;> rw [z] at ht <;> cases ht
      · cases h
theorem exN_long {E : Hdl} {y : Nat} (hE : mono E) (hm : mR y = some .long) : ∀ n f (r : Res), exN E y n f = some r → ∃ x, r.1 = some (.long x) := by
  intro n
  induction n with
  | zero => intro f r h; cases h
  | succ n ih =>
    intro f r h
    rw [exN] at h
    cases hd : decode (mB y) f.1 with
    | error e => rw [hd] at h; cases h
    | ok q =>
      obtain ⟨i, l⟩ := q
      rw [hd] at h
      dsimp only at h
      split at h
      · cases hs : stp E y i f.1 f.2.1 f.2.2.1 f.2.2.2.1 f.2.2.2.2 with
        | none => rw [hs] at h; cases h
        | some w =>
          rw [hs] at h
          cases w with
          | inl f' => exact ih f' r h
          | inr o =>
            have ho : o = r := Option.some.inj h
            subst ho
            cases hi : isRet i with
            | false =>
              obtain ⟨f', hf, _⟩ := stp_ok hE hi _ hs
              cases hf
            | true =>
              obtain ⟨_, _, hr⟩ := stp_ret hi hs
              rcases hr with ⟨_, x, _, hq⟩ | ⟨_, x, hx, ht⟩ | ⟨_, _, ht⟩ | ⟨_, _, ht⟩
              · rw [hm] at hq
                unfold rok at hq
                rw [Bool.and_eq_true] at hq
                exact absurd hq.2 (by decide)
              · exact ⟨x, hx⟩
              · rw [hm] at ht; cases ht
              · rw [hm] at ht; cases ht
      · cases h
theorem ev_int {d y nx : Nat} {as : List Value} {M : Mem} {r : Res} (hm : mR y = some .int ∨ mR y = some .boolean) (h : ev (d + 1) y as nx M = some r) : ∃ x, r.1 = some (.int x) := by
  have h' : (if (lcl as).length ≤ mL y then run (ev d) y 0 (entry y as) [] nx M else none) = some r := h
  split at h'
  · obtain ⟨n, hn⟩ := runF_some.mp h'
    exact exN_int (ev_mono d) hm n _ r hn
  · cases h'
theorem ev_long {d y nx : Nat} {as : List Value} {M : Mem} {r : Res} (hm : mR y = some .long) (h : ev (d + 1) y as nx M = some r) : ∃ x, r.1 = some (.long x) := by
  have h' : (if (lcl as).length ≤ mL y then run (ev d) y 0 (entry y as) [] nx M else none) = some r := h
  split at h'
  · obtain ⟨n, hn⟩ := runF_some.mp h'
    exact exN_long (ev_mono d) hm n _ r hn
  · cases h'
section LLP
variable {M : Mem} {L i : Nat} {xs : Nat → Int32}
theorem ing_op {yX yM : Nat} {as : List Value} (h : Ing M L xs) (hm : mR yX = some .int ∨ mR yX = some .boolean) (hop : ∃ s2 s2' T2 tb2 tl2 f2, Op yX yM as M s2 s2' T2 tb2 tl2 f2) : ∃ v M1 M2, ev 100 yX (.ref 0 :: as) NX M = some (some (.int v), NX, M1) ∧ ev 100 yM (.ref 174 :: as) NX M1 = some (some (.int v), NX, M2) ∧ Ing M2 L xs ∧ (∀ j, j < L → gI M1 1000 j = xs j) ∧ M1.2.2.2 = L := by
  obtain ⟨_, hw, hs, hl⟩ := h
  obtain ⟨s2, s2', T2, tb2, tl2, f2, r, M1, M2, a1, a2, a3, a4, a5, a6, a7⟩ := hop
  obtain ⟨v, hv⟩ := ev_int (d := 99) hm a1
  have hv' : r = .int v := Option.some.inj hv
  subst hv'
  exact ⟨v, M1, M2, a1, a2, ⟨⟨s2, s2', T2, tb2, tl2, f2, a4, a5, a6⟩, hw.D a3 (fun k j z => z), fun j hj => (a3.i (by omega)).trans (hs j hj), a3.2.trans hl⟩, fun j hj => (a7.i (by omega)).trans (hs j hj), a7.2.trans hl⟩
theorem ing_opL {yX yM : Nat} {as : List Value} (h : Ing M L xs) (hm : mR yX = some .long) (hop : ∃ s2 s2' T2 tb2 tl2 f2, Op yX yM as M s2 s2' T2 tb2 tl2 f2) : ∃ v M1 M2, ev 100 yX (.ref 0 :: as) NX M = some (some (.long v), NX, M1) ∧ ev 100 yM (.ref 174 :: as) NX M1 = some (some (.long v), NX, M2) ∧ Ing M2 L xs ∧ (∀ j, j < L → gI M1 1000 j = xs j) ∧ M1.2.2.2 = L := by
  obtain ⟨_, hw, hs, hl⟩ := h
  obtain ⟨s2, s2', T2, tb2, tl2, f2, r, M1, M2, a1, a2, a3, a4, a5, a6, a7⟩ := hop
  obtain ⟨v, hv⟩ := ev_long (d := 99) hm a1
  have hv' : r = .long v := Option.some.inj hv
  subst hv'
  exact ⟨v, M1, M2, a1, a2, ⟨⟨s2, s2', T2, tb2, tl2, f2, a4, a5, a6⟩, hw.D a3 (fun k j z => z), fun j hj => (a3.i (by omega)).trans (hs j hj), a3.2.trans hl⟩, fun j hj => (a7.i (by omega)).trans (hs j hj), a7.2.trans hl⟩
theorem oA1000 {j : Nat} (hl : M.2.2.2 = L) (hL : L ≤ 3072) (hj : j < L) : okA M NX 1000 100 (nI j) = true := by
  unfold okA
  rw [show lenOf M 1000 = L from hl, show (live NX 1000 && (sh 1000).1 == 100) = true by decide +kernel, inb_nI hj (by omega)]
  rfl
end LLP

/-! SOUNDNESS, part two: locals, constants, switches, cells -/
section SND2
variable {p : Program} {l : Launch} {e : Env} {R : Room} {s : State} {m : MethodId} {args : Array Value} {below : List Frame} {meth : Method} {c : Code} {Q : State → Prop} {G : Wd} {y nx0 nxE : Nat} {E : Hdl} {pc nx : Nat} {ls : Lcl} {st : List Value} {M : Mem} {f' : Fr}
theorem LH.get1 {lsC : Array Slot} {n i : Nat} {v : Value} (h : LH G lsC n ls) (hi : ls[i]? = some (some v)) (hc : v.category = 1) : lsC[i]? = some (.val (cv G v)) := h.2.2.2 i v hi (fun z => by omega)
theorem LH.get2 {lsC : Array Slot} {n i : Nat} {v : Value} (h : LH G lsC n ls) (hi : ls[i]? = some (some v)) (h2 : ls[i + 1]? = some none) : lsC[i]? = some (.val (cv G v)) := h.2.2.2 i v hi (fun _ => h2)
/-- the list that the kit's rows keep: any that holds -/
theorem LH.has {lsC : Array Slot} {n : Nat} (h : LH G lsC n ls) (l : List (Nat × Value)) (hl : ∀ q ∈ l, lsC[q.1]? = some (.val q.2)) : lv_has lsC n l := ⟨h.1, h.2.1, hl⟩
/-- all readable locals, as the kit lists them -/
def lall (G : Wd) (ls : Lcl) : List (Nat × Value) := (List.range ls.length).filterMap (fun i => match ls[i]?, ls[i + 1]? with
  | some (some v), some none => some (i, cv G v)
  | some (some v), _ => if v.category = 1 then some (i, cv G v) else none
  | _, _ => none)
theorem lall_mem {i : Nat} {v : Value} (hi : ls[i]? = some (some v)) (hc : v.category = 2 → ls[i + 1]? = some none) : (i, cv G v) ∈ lall G ls := by
  unfold lall
  refine List.mem_filterMap.mpr ⟨i, List.mem_range.mpr (List.getElem?_eq_some_iff.mp hi).1, ?_⟩
  rw [hi]
  rcases lv_cat v with h1 | h2
  · cases hx : ls[i + 1]? with
    | none => simp [h1]
    | some o => cases o <;> simp [h1]
  · rw [hc h2]
theorem lall_of {q : Nat × Value} (h : q ∈ lall G ls) : ∃ v, ls[q.1]? = some (some v) ∧ q.2 = cv G v ∧ (v.category = 2 → ls[q.1 + 1]? = some none) := by
  unfold lall at h
  obtain ⟨i, hi, h⟩ := List.mem_filterMap.mp h
  split at h
  · rename_i v h1 h2
    cases h
    exact ⟨v, h1, rfl, fun _ => h2⟩
  · rename_i v h1 h2
    by_cases hc : v.category = 1
    · rw [if_pos hc] at h
      cases h
      exact ⟨v, h1, rfl, fun z => by omega⟩
    · rw [if_neg hc] at h
      cases h
  · cases h
theorem LH.all {lsC : Array Slot} {n : Nat} (h : LH G lsC n ls) : lv_has lsC n (lall G ls) := h.has _ (fun q hq => by
  obtain ⟨v, h1, h2, h3⟩ := lall_of hq
  rw [h2]
  exact h.2.2.2 q.1 v h1 h3)
theorem LH.st1 {lsC ls' : Array Slot} {n i : Nat} {v : Value} (h : LH G lsC n ls) (hi : i < ls.length) (hc : v.category = 1) (h' : lv_has ls' n ((i, cv G v) :: (lall G ls).filter (fun q => !(q.1 == i) && !(q.1 + 1 == i && q.2.category == 2)))) : LH G ls' n (ls.set i (some v)) := by
  refine ⟨h'.1, h'.2.1, by rw [List.length_set]; exact h.2.2.1, fun j w hj hw => ?_⟩
  by_cases e : j = i
  · subst e
    rw [List.getElem?_set_self hi] at hj
    cases hj
    exact h'.2.2 _ List.mem_cons_self
  · rw [List.getElem?_set_ne (Ne.symm e)] at hj
    have hm : w.category = 2 → ls[j + 1]? = some none ∧ j + 1 ≠ i := by
      intro h2
      have h3 := hw h2
      by_cases e2 : j + 1 = i
      · rw [e2, List.getElem?_set_self hi] at h3
        cases h3
      · rw [List.getElem?_set_ne (Ne.symm e2)] at h3
        exact ⟨h3, e2⟩
    have hmem := lall_mem (G := G) hj (fun z => (hm z).1)
    refine h'.2.2 (j, cv G w) (List.mem_cons_of_mem _ (List.mem_filter.mpr ⟨hmem, ?_⟩))
    simp only [cat_cv, Bool.and_eq_true, Bool.not_eq_true', beq_eq_false_iff_ne, ne_eq, Bool.and_eq_false_iff]
    refine ⟨e, ?_⟩
    rcases lv_cat w with h1 | h2
    · exact Or.inr (by omega)
    · exact Or.inl (hm h2).2
theorem LH.st2 {lsC ls' : Array Slot} {n i : Nat} {v : Value} (h : LH G lsC n ls) (hi : i + 1 < ls.length) (hc : v.category = 2) (h' : lv_has ls' n ((i, cv G v) :: (lall G ls).filter (fun q => !(q.1 == i) && (!(q.1 == i + 1) && !(q.1 + 1 == i && q.2.category == 2))))) : LH G ls' n ((ls.set i (some v)).set (i + 1) none) := by
  refine ⟨h'.1, h'.2.1, by rw [List.length_set, List.length_set]; exact h.2.2.1, fun j w hj hw => ?_⟩
  by_cases e1 : j = i + 1
  · subst e1
    rw [List.getElem?_set_self (by rw [List.length_set]; exact hi)] at hj
    cases hj
  · rw [List.getElem?_set_ne (Ne.symm e1)] at hj
    by_cases e : j = i
    · subst e
      rw [List.getElem?_set_self (by omega)] at hj
      cases hj
      exact h'.2.2 _ List.mem_cons_self
    · rw [List.getElem?_set_ne (Ne.symm e)] at hj
      have hm : w.category = 2 → ls[j + 1]? = some none ∧ j + 1 ≠ i := by
        intro h2
        have h3 := hw h2
        rw [List.getElem?_set_ne (by omega)] at h3
        by_cases e2 : j + 1 = i
        · rw [e2, List.getElem?_set_self (by omega)] at h3
          cases h3
        · rw [List.getElem?_set_ne (Ne.symm e2)] at h3
          exact ⟨h3, e2⟩
      have hmem := lall_mem (G := G) hj (fun z => (hm z).1)
      refine h'.2.2 (j, cv G w) (List.mem_cons_of_mem _ (List.mem_filter.mpr ⟨hmem, ?_⟩))
      simp only [cat_cv, Bool.and_eq_true, Bool.not_eq_true', beq_eq_false_iff_ne, ne_eq, Bool.and_eq_false_iff]
      refine ⟨e, e1, ?_⟩
      rcases lv_cat w with h1 | h2
      · exact Or.inr (by omega)
      · exact Or.inl (hm h2).2
theorem ldI_eq {k : Nat} {f : Value → Option (Fr ⊕ Res)} {r : Fr ⊕ Res} (h : ldI ls k f = some r) : ∃ x, ls[k]? = some (some (.int x)) ∧ f (.int x) = some r := by
  unfold ldI at h
  split at h
  · rename_i x hx
    exact ⟨x, hx, h⟩
  · cases h
theorem ldL_eq {k : Nat} {f : Value → Option (Fr ⊕ Res)} {r : Fr ⊕ Res} (h : ldL ls k f = some r) : ∃ x, ls[k]? = some (some (.long x)) ∧ ls[k + 1]? = some none ∧ f (.long x) = some r := by
  unfold ldL at h
  split at h
  · rename_i x hx h2
    exact ⟨x, hx, h2, h⟩
  · cases h
theorem ldA_eq {k : Nat} {f : Value → Option (Fr ⊕ Res)} {r : Fr ⊕ Res} (h : ldA ls k f = some r) : (∃ x, ls[k]? = some (some (.ref x)) ∧ f (.ref x) = some r) ∨ (ls[k]? = some (some .null) ∧ f .null = some r) := by
  unfold ldA at h
  split at h
  · rename_i x hx
    exact Or.inl ⟨x, hx, h⟩
  · rename_i hx
    exact Or.inr ⟨hx, h⟩
  · cases h
theorem s_iload {q : Nat} (C : CX p R s m args meth c G y nx0 nxE) (hd : decode (mB y) pc = .ok (.iload q, 2)) (h : stp E y (.iload q) pc ls st nx M = some (.inl f')) (k : GW p l e R s m args below meth c Q G y nx0 f') : GW p l e R s m args below meth c Q G y nx0 (pc, ls, st, nx, M) := by
  unfold stp at h
  dsimp only at h
  obtain ⟨x, g1, h⟩ := ldI_eq h
  cases go_eq h
  exact fun lsC H locs hl hn ho hs hx => lv_iload C.1 C.2.1 hd (hl.get1 g1 rfl) (k lsC H locs hl hn ho hs hx)
theorem s_iload_n {q : Fin 4} (C : CX p R s m args meth c G y nx0 nxE) (hd : decode (mB y) pc = .ok (.iload_n q, 1)) (h : stp E y (.iload_n q) pc ls st nx M = some (.inl f')) (k : GW p l e R s m args below meth c Q G y nx0 f') : GW p l e R s m args below meth c Q G y nx0 (pc, ls, st, nx, M) := by
  unfold stp at h
  dsimp only at h
  obtain ⟨x, g1, h⟩ := ldI_eq h
  cases go_eq h
  exact fun lsC H locs hl hn ho hs hx => lv_iload_n C.1 C.2.1 hd rfl (hl.get1 g1 rfl) (k lsC H locs hl hn ho hs hx)
theorem s_lload {q : Nat} (C : CX p R s m args meth c G y nx0 nxE) (hd : decode (mB y) pc = .ok (.lload q, 2)) (h : stp E y (.lload q) pc ls st nx M = some (.inl f')) (k : GW p l e R s m args below meth c Q G y nx0 f') : GW p l e R s m args below meth c Q G y nx0 (pc, ls, st, nx, M) := by
  unfold stp at h
  dsimp only at h
  obtain ⟨x, g1, g2, h⟩ := ldL_eq h
  cases go_eq h
  exact fun lsC H locs hl hn ho hs hx => lv_lload C.1 C.2.1 hd (hl.get2 g1 g2) (k lsC H locs hl hn ho hs hx)
theorem s_lload_n {q : Fin 4} (C : CX p R s m args meth c G y nx0 nxE) (hd : decode (mB y) pc = .ok (.lload_n q, 1)) (h : stp E y (.lload_n q) pc ls st nx M = some (.inl f')) (k : GW p l e R s m args below meth c Q G y nx0 f') : GW p l e R s m args below meth c Q G y nx0 (pc, ls, st, nx, M) := by
  unfold stp at h
  dsimp only at h
  obtain ⟨x, g1, g2, h⟩ := ldL_eq h
  cases go_eq h
  exact fun lsC H locs hl hn ho hs hx => lv_lload_n C.1 C.2.1 hd rfl (hl.get2 g1 g2) (k lsC H locs hl hn ho hs hx)
theorem s_aload {q : Nat} (C : CX p R s m args meth c G y nx0 nxE) (hd : decode (mB y) pc = .ok (.aload q, 2)) (h : stp E y (.aload q) pc ls st nx M = some (.inl f')) (k : GW p l e R s m args below meth c Q G y nx0 f') : GW p l e R s m args below meth c Q G y nx0 (pc, ls, st, nx, M) := by
  unfold stp at h
  dsimp only at h
  rcases ldA_eq h with ⟨x, g1, h⟩ | ⟨g1, h⟩
  · cases go_eq h
    exact fun lsC H locs hl hn ho hs hx => lv_aload C.1 C.2.1 hd (hl.get1 g1 rfl) (k lsC H locs hl hn ho hs hx)
  · cases go_eq h
    exact fun lsC H locs hl hn ho hs hx => lv_aloadN C.1 C.2.1 hd (hl.get1 g1 rfl) (k lsC H locs hl hn ho hs hx)
theorem s_aload_n {q : Fin 4} (C : CX p R s m args meth c G y nx0 nxE) (hd : decode (mB y) pc = .ok (.aload_n q, 1)) (h : stp E y (.aload_n q) pc ls st nx M = some (.inl f')) (k : GW p l e R s m args below meth c Q G y nx0 f') : GW p l e R s m args below meth c Q G y nx0 (pc, ls, st, nx, M) := by
  unfold stp at h
  dsimp only at h
  rcases ldA_eq h with ⟨x, g1, h⟩ | ⟨g1, h⟩
  · cases go_eq h
    exact fun lsC H locs hl hn ho hs hx => lv_aload_n C.1 C.2.1 hd rfl (hl.get1 g1 rfl) (k lsC H locs hl hn ho hs hx)
  · cases go_eq h
    exact fun lsC H locs hl hn ho hs hx => lv_aload_nN C.1 C.2.1 hd rfl (hl.get1 g1 rfl) (k lsC H locs hl hn ho hs hx)
theorem s_istore {q : Nat} (C : CX p R s m args meth c G y nx0 nxE) (hd : decode (mB y) pc = .ok (.istore q, 2)) (h : stp E y (.istore q) pc ls st nx M = some (.inl f')) (k : GW p l e R s m args below meth c Q G y nx0 f') : GW p l e R s m args below meth c Q G y nx0 (pc, ls, st, nx, M) := by
  unfold stp at h
  dsimp only at h
  obtain ⟨x, t, rfl, h⟩ := one_eq h
  obtain ⟨hg, h⟩ := gd_eq h
  cases go_eq h
  exact fun lsC H locs hl hn ho hs hx => lv_istore C.1 C.2.1 hd hl.all (Nat.lt_of_lt_of_le (of_decide_eq_true hg) hl.2.2.1) rfl (fun ls' h' => k ls' H locs (hl.st1 (v := .int x) (of_decide_eq_true hg) rfl h') hn ho hs hx)
theorem s_istore_n {q : Fin 4} (C : CX p R s m args meth c G y nx0 nxE) (hd : decode (mB y) pc = .ok (.istore_n q, 1)) (h : stp E y (.istore_n q) pc ls st nx M = some (.inl f')) (k : GW p l e R s m args below meth c Q G y nx0 f') : GW p l e R s m args below meth c Q G y nx0 (pc, ls, st, nx, M) := by
  unfold stp at h
  dsimp only at h
  obtain ⟨x, t, rfl, h⟩ := one_eq h
  obtain ⟨hg, h⟩ := gd_eq h
  cases go_eq h
  exact fun lsC H locs hl hn ho hs hx => lv_istore_n C.1 C.2.1 hd rfl hl.all (Nat.lt_of_lt_of_le (of_decide_eq_true hg) hl.2.2.1) rfl (fun ls' h' => k ls' H locs (hl.st1 (v := .int x) (of_decide_eq_true hg) rfl h') hn ho hs hx)
theorem s_lstore {q : Nat} (C : CX p R s m args meth c G y nx0 nxE) (hd : decode (mB y) pc = .ok (.lstore q, 2)) (h : stp E y (.lstore q) pc ls st nx M = some (.inl f')) (k : GW p l e R s m args below meth c Q G y nx0 f') : GW p l e R s m args below meth c Q G y nx0 (pc, ls, st, nx, M) := by
  unfold stp at h
  dsimp only at h
  obtain ⟨x, t, rfl, h⟩ := oneL_eq h
  obtain ⟨hg, h⟩ := gd_eq h
  cases go_eq h
  exact fun lsC H locs hl hn ho hs hx => lv_lstore C.1 C.2.1 hd hl.all (Nat.lt_of_lt_of_le (of_decide_eq_true hg) hl.2.2.1) rfl (fun ls' h' => k ls' H locs (hl.st2 (v := .long x) (of_decide_eq_true hg) rfl h') hn ho hs hx)
theorem s_lstore_n {q : Fin 4} (C : CX p R s m args meth c G y nx0 nxE) (hd : decode (mB y) pc = .ok (.lstore_n q, 1)) (h : stp E y (.lstore_n q) pc ls st nx M = some (.inl f')) (k : GW p l e R s m args below meth c Q G y nx0 f') : GW p l e R s m args below meth c Q G y nx0 (pc, ls, st, nx, M) := by
  unfold stp at h
  dsimp only at h
  obtain ⟨x, t, rfl, h⟩ := oneL_eq h
  obtain ⟨hg, h⟩ := gd_eq h
  cases go_eq h
  exact fun lsC H locs hl hn ho hs hx => lv_lstore_n C.1 C.2.1 hd rfl hl.all (Nat.lt_of_lt_of_le (of_decide_eq_true hg) hl.2.2.1) rfl (fun ls' h' => k ls' H locs (hl.st2 (v := .long x) (of_decide_eq_true hg) rfl h') hn ho hs hx)
theorem s_astore {q : Nat} (C : CX p R s m args meth c G y nx0 nxE) (hd : decode (mB y) pc = .ok (.astore q, 2)) (h : stp E y (.astore q) pc ls st nx M = some (.inl f')) (k : GW p l e R s m args below meth c Q G y nx0 f') : GW p l e R s m args below meth c Q G y nx0 (pc, ls, st, nx, M) := by
  unfold stp at h
  dsimp only at h
  split at h
  · rename_i x t
    obtain ⟨hg, h⟩ := gd_eq h
    cases go_eq h
    exact fun lsC H locs hl hn ho hs hx => lv_astore C.1 C.2.1 hd hl.all (Nat.lt_of_lt_of_le (of_decide_eq_true hg) hl.2.2.1) rfl (fun ls' h' => k ls' H locs (hl.st1 (v := .ref x) (of_decide_eq_true hg) rfl h') hn ho hs hx)
  · obtain ⟨hg, h⟩ := gd_eq h
    cases go_eq h
    exact fun lsC H locs hl hn ho hs hx => lv_astoreN C.1 C.2.1 hd hl.all (Nat.lt_of_lt_of_le (of_decide_eq_true hg) hl.2.2.1) rfl (fun ls' h' => k ls' H locs (hl.st1 (v := .null) (of_decide_eq_true hg) rfl h') hn ho hs hx)
  · cases h
theorem s_astore_n {q : Fin 4} (C : CX p R s m args meth c G y nx0 nxE) (hd : decode (mB y) pc = .ok (.astore_n q, 1)) (h : stp E y (.astore_n q) pc ls st nx M = some (.inl f')) (k : GW p l e R s m args below meth c Q G y nx0 f') : GW p l e R s m args below meth c Q G y nx0 (pc, ls, st, nx, M) := by
  unfold stp at h
  dsimp only at h
  split at h
  · rename_i x t
    obtain ⟨hg, h⟩ := gd_eq h
    cases go_eq h
    exact fun lsC H locs hl hn ho hs hx => lv_astore_n C.1 C.2.1 hd rfl hl.all (Nat.lt_of_lt_of_le (of_decide_eq_true hg) hl.2.2.1) rfl (fun ls' h' => k ls' H locs (hl.st1 (v := .ref x) (of_decide_eq_true hg) rfl h') hn ho hs hx)
  · obtain ⟨hg, h⟩ := gd_eq h
    cases go_eq h
    exact fun lsC H locs hl hn ho hs hx => lv_astore_nN C.1 C.2.1 hd rfl hl.all (Nat.lt_of_lt_of_le (of_decide_eq_true hg) hl.2.2.1) rfl (fun ls' h' => k ls' H locs (hl.st1 (v := .null) (of_decide_eq_true hg) rfl h') hn ho hs hx)
  · cases h
theorem s_iinc {q : Nat} {n : Int} (C : CX p R s m args meth c G y nx0 nxE) (hd : decode (mB y) pc = .ok (.iinc q n, 3)) (h : stp E y (.iinc q n) pc ls st nx M = some (.inl f')) (k : GW p l e R s m args below meth c Q G y nx0 f') : GW p l e R s m args below meth c Q G y nx0 (pc, ls, st, nx, M) := by
  unfold stp at h
  dsimp only at h
  split at h
  · rename_i x g1
    cases go_eq h
    intro lsC H locs hl hn ho hs hx
    have hm := lall_mem (G := G) g1 (fun z => by cases z)
    obtain ⟨i, hi⟩ := List.getElem?_of_mem hm
    have hq : q < ls.length := (List.getElem?_eq_some_iff.mp g1).1
    exact lv_iinc C.1 C.2.1 hd hl.all hi rfl (Nat.lt_of_lt_of_le hq hl.2.2.1) rfl (fun ls' h' => k ls' H locs (hl.st1 (v := .int (x + Int32.ofInt n)) hq rfl h') hn ho hs hx)
  · cases h
theorem lk_mem {α : Type} {t : List (Nat × α)} {k : Nat} {v : α} (h : lk t k = some v) : (k, v) ∈ t := by
  induction t with
  | nil => cases h
  | cons a t ih =>
    obtain ⟨a, b⟩ := a
    rw [lk] at h
    by_cases e : (a == k) = true
    · rw [if_pos e] at h
      cases h
      rw [eq_of_beq e]
      exact List.mem_cons_self
    · rw [if_neg e] at h
      exact List.mem_cons_of_mem _ (ih h)
theorem pk_eq0 {q : Nat} (h : (pk y q != 0) = true) : pk y q / 2000 = mO y ∧ pk y q % 2000 = q := by
  unfold pk at h ⊢
  by_cases e : q < 2000
  · rw [if_pos e]
    omega
  · rw [if_neg e] at h
    cases h
theorem tK_word {q : Nat} {v : Int32} (h : lk tKl (pk y q) = some v) : Cond.constant (oS (mO y)) q v ∈ gtl := by
  have h1 := List.all_eq_true.mp tK_ok _ (lk_mem h)
  unfold chkK at h1
  obtain ⟨h2, h3⟩ := (Bool.and_eq_true _ _ ▸ h1 : _ ∧ _)
  obtain ⟨e1, e2⟩ := pk_eq0 h2
  have h4 := memT_iff.mp h3
  dsimp only at h4
  rw [e1, e2] at h4
  exact h4
theorem tJ_word {q : Nat} {v : Int64} (h : lk tJl (pk y q) = some v) : Cond.constantLong (oS (mO y)) q v ∈ gtl := by
  have h1 := List.all_eq_true.mp tJ_ok _ (lk_mem h)
  unfold chkJ at h1
  obtain ⟨h2, h3⟩ := (Bool.and_eq_true _ _ ▸ h1 : _ ∧ _)
  obtain ⟨e1, e2⟩ := pk_eq0 h2
  have h4 := memT_iff.mp h3
  dsimp only at h4
  rw [e1, e2] at h4
  exact h4
theorem s_ldc_w {q : Nat} (C : CX p R s m args meth c G y nx0 nxE) (hd : decode (mB y) pc = .ok (.ldc_w q, 3)) (h : stp E y (.ldc_w q) pc ls st nx M = some (.inl f')) (k : GW p l e R s m args below meth c Q G y nx0 f') : GW p l e R s m args below meth c Q G y nx0 (pc, ls, st, nx, M) := by
  unfold stp at h
  dsimp only at h
  split at h
  · rename_i v hv
    cases go_eq h
    exact fun lsC H locs hl hn ho hs hx => lv_ldcw C.1 C.2.1 C.2.2.2.1 (C.2.2.2.2.1 _ (tK_word hv)) hd (k lsC H locs hl hn ho hs hx)
  · cases h
theorem s_ldc2_w {q : Nat} (C : CX p R s m args meth c G y nx0 nxE) (hd : decode (mB y) pc = .ok (.ldc2_w q, 3)) (h : stp E y (.ldc2_w q) pc ls st nx M = some (.inl f')) (k : GW p l e R s m args below meth c Q G y nx0 f') : GW p l e R s m args below meth c Q G y nx0 (pc, ls, st, nx, M) := by
  unfold stp at h
  dsimp only at h
  split at h
  · rename_i v hv
    cases go_eq h
    exact fun lsC H locs hl hn ho hs hx => lv_ldc2 C.1 C.2.1 C.2.2.2.1 (C.2.2.2.2.1 _ (tJ_word hv)) hd (k lsC H locs hl hn ho hs hx)
  · cases h
theorem s_ldc {q : Nat} (C : CX p R s m args meth c G y nx0 nxE) (hd : decode (mB y) pc = .ok (.ldc q, 2)) (h : stp E y (.ldc q) pc ls st nx M = some (.inl f')) (k : GW p l e R s m args below meth c Q G y nx0 f') : GW p l e R s m args below meth c Q G y nx0 (pc, ls, st, nx, M) := by
  unfold stp at h
  dsimp only at h
  split at h
  · rename_i v hv
    cases go_eq h
    exact fun lsC H locs hl hn ho hs hx => lv_ldc C.1 C.2.1 C.2.2.2.1 (C.2.2.2.2.1 _ (tK_word hv)) hd (k lsC H locs hl hn ho hs hx)
  · rename_i a _ ha
    cases go_eq h
    have h1 := lk_mem ha
    have hKW := C.2.2.2.2.2.2.1
    intro lsC H locs hl hn ho hs hx
    have h2 : (pk y q = 6072 ∧ a = 1001) ∨ (pk y q = 6065 ∧ a = 1003) := by
      rcases List.mem_cons.mp h1 with h1 | h1
      · exact Or.inl ⟨congrArg Prod.fst h1, congrArg Prod.snd h1⟩
      · rcases List.mem_cons.mp h1 with h1 | h1
        · exact Or.inr ⟨congrArg Prod.fst h1, congrArg Prod.snd h1⟩
        · cases h1
    have hne : (pk y q != 0) = true := by rcases h2 with ⟨h2, -⟩ | ⟨h2, -⟩ <;> rw [h2] <;> rfl
    obtain ⟨e1, e2⟩ := pk_eq0 hne
    rcases h2 with ⟨h2, rfl⟩ | ⟨h2, rfl⟩
    · rw [h2] at e1 e2
      have hR : vk_R (oS (mO y)) q wordsT (w_K G 0) s := by rw [← e1, ← e2]; exact hKW.2.2.2.2.2.1
      exact va_ldcS C.1 C.2.1 C.2.2.2.1 hR hd (k lsC H locs hl hn ho hs hx)
    · rw [h2] at e1 e2
      have hR : vk_R (oS (mO y)) q signsT (w_K G 1) s := by rw [← e1, ← e2]; exact hKW.2.2.2.2.2.2.1
      exact va_ldcS C.1 C.2.1 C.2.2.2.1 hR hd (k lsC H locs hl hn ho hs hx)
  · cases h
end SND2

/-! SOUNDNESS, part three: switches, cells -/
section SND3
variable {p : Program} {l : Launch} {e : Env} {R : Room} {s : State} {m : MethodId} {args : Array Value} {below : List Frame} {meth : Method} {c : Code} {Q : State → Prop} {G : Wd} {y nx0 nxE : Nat} {E : Hdl} {pc nx : Nat} {ls : Lcl} {st : List Value} {M : Mem} {f' : Fr}
theorem ofInt_toInt {a : Int} (h1 : -1000 ≤ a) (h2 : a ≤ 2000) : (Int32.ofInt a).toInt = a := Int32.toInt_ofInt_of_le (by omega) (by omega)
theorem tsw_spec {d : Int} {x : Int32} : ∀ (offs : List Int) (lo : Int), -1000 ≤ lo → lo + offs.length ≤ 1001 → ((x.toInt < lo ∨ lo + offs.length ≤ x.toInt) → tsw d offs (Int32.ofInt lo) x = d) ∧ ((lo ≤ x.toInt ∧ x.toInt < lo + offs.length) → offs[(x.toInt - lo).toNat]? = some (tsw d offs (Int32.ofInt lo) x)) := by
  intro offs
  induction offs with
  | nil =>
    intro lo h1 h2
    refine ⟨fun _ => rfl, fun h => ?_⟩
    have : (([] : List Int).length : Int) = 0 := rfl
    omega
  | cons o r ih =>
    intro lo h1 h2
    have hl : ((o :: r).length : Int) = r.length + 1 := by simp
    rw [hl] at h2 ⊢
    have hk : Int32.ofInt lo + 1 = Int32.ofInt (lo + 1) := by rw [Int32.ofInt_add]; rfl
    have ht : (Int32.ofInt lo).toInt = lo := ofInt_toInt h1 (by omega)
    obtain ⟨i1, i2⟩ := ih (lo + 1) (by omega) (by omega)
    rw [tsw]
    by_cases e : x = Int32.ofInt lo
    · rw [if_pos e]
      have hx : x.toInt = lo := by rw [e, ht]
      refine ⟨fun h => by omega, fun _ => ?_⟩
      rw [hx]
      simp
    · rw [if_neg e, hk]
      have hx : x.toInt ≠ lo := fun z => e (Int32.toInt_inj.mp (by rw [z, ht]))
      refine ⟨fun h => i1 (by omega), fun h => ?_⟩
      rw [← i2 (by omega)]
      have e2 : (x.toInt - lo).toNat = (x.toInt - (lo + 1)).toNat + 1 := by omega
      rw [e2, List.getElem?_cons_succ]
theorem and3 {a b : Bool} (h : (a && b) = true) : a = true ∧ b = true := Bool.and_eq_true _ _ ▸ h
theorem s_tableswitch {d lo hi : Int} {offs : Array Int} {len : Nat} (C : CX p R s m args meth c G y nx0 nxE) (hd : decode (mB y) pc = .ok (.tableswitch d lo hi offs, len)) (h : stp E y (.tableswitch d lo hi offs) pc ls st nx M = some (.inl f')) (k : GW p l e R s m args below meth c Q G y nx0 f') : GW p l e R s m args below meth c Q G y nx0 (pc, ls, st, nx, M) := by
  unfold stp at h
  dsimp only at h
  obtain ⟨x, t, rfl, h⟩ := one_eq h
  obtain ⟨hg, h⟩ := gd_eq h
  cases go_eq h
  obtain ⟨hg, g4⟩ := and3 hg
  obtain ⟨hg, g3⟩ := and3 hg
  obtain ⟨g1, g2⟩ := and3 hg
  have g1 := of_decide_eq_true g1
  have g2 := of_decide_eq_true g2
  have g3 := of_decide_eq_true g3
  obtain ⟨i1, i2⟩ := tsw_spec (d := d) (x := x) offs.toList lo g2 (by omega)
  intro lsC H locs hl hn ho hs hx
  by_cases hin : x.toInt < lo ∨ hi < x.toInt
  · have e := i1 (by omega)
    refine lv_tableOut C.1 C.2.1 hd hin (tgt := jump pc (tsw d offs.toList (Int32.ofInt lo) x)) ?_ (k lsC H locs hl hn ho hs hx)
    have h9 := jump_ok g4
    rw [e] at h9 ⊢
    exact h9
  · have e := i2 (by omega)
    exact lv_tableIn C.1 C.2.1 hd (by omega) (by omega) (off := tsw d offs.toList (Int32.ofInt lo) x) (by rw [← Array.getElem?_toList]; exact e) (jump_ok g4) (k lsC H locs hl hn ho hs hx)
theorem lsw_spec {d : Int} {x : Int32} : ∀ (ps : List (Int × Int)), ps.all (fun q => decide (-1000 ≤ q.1) && decide (q.1 ≤ 1000)) = true → Op.lookupswitch.offset ps d x.toInt = lsw d ps x := by
  intro ps
  induction ps with
  | nil => intro _; rfl
  | cons q r ih =>
    intro h
    obtain ⟨a, o⟩ := q
    rw [List.all_cons] at h
    obtain ⟨h1, h2⟩ := and3 h
    obtain ⟨h3, h4⟩ := and3 h1
    have ht : (Int32.ofInt a).toInt = a := ofInt_toInt (of_decide_eq_true h3) (by have := of_decide_eq_true h4; dsimp only at this; omega)
    rw [Op.lookupswitch.offset_cons, lsw]
    by_cases e : x = Int32.ofInt a
    · rw [if_pos e, if_pos (by rw [e, ht])]
    · rw [if_neg e, if_neg (fun z => e (Int32.toInt_inj.mp (by rw [ht]; exact z.symm))), ih h2]
theorem s_lookupswitch {d : Int} {ps : Array (Int × Int)} {len : Nat} (C : CX p R s m args meth c G y nx0 nxE) (hd : decode (mB y) pc = .ok (.lookupswitch d ps, len)) (h : stp E y (.lookupswitch d ps) pc ls st nx M = some (.inl f')) (k : GW p l e R s m args below meth c Q G y nx0 f') : GW p l e R s m args below meth c Q G y nx0 (pc, ls, st, nx, M) := by
  unfold stp at h
  dsimp only at h
  obtain ⟨x, t, rfl, h⟩ := one_eq h
  obtain ⟨hg, h⟩ := gd_eq h
  cases go_eq h
  obtain ⟨hg, g3⟩ := and3 hg
  obtain ⟨g1, g2⟩ := and3 hg
  exact fun lsC H locs hl hn ho hs hx => lv_lookup C.1 C.2.1 hd g1 (lsw_spec ps.toList g2) (jump_ok g3) (k lsC H locs hl hn ho hs hx)
/-! cells -/
theorem tF_word {q c' j : Nat} (h : lk tFl (pk y q) = some (c', j)) : c' < 9 ∧ j < (cls c').2.2 ∧ Cond.fieldLink (oS (mO y)) q ((cls c').2.1 j).1 ((cls c').2.1 j).2.1 ((cls c').2.1 j).2.2.1 ∈ gtl := by
  have h1 := List.all_eq_true.mp tF_ok _ (lk_mem h)
  unfold chkF at h1
  obtain ⟨h1, h5⟩ := and3 h1
  obtain ⟨h1, h4⟩ := and3 h1
  obtain ⟨h2, h3⟩ := and3 h1
  obtain ⟨e1, e2⟩ := pk_eq0 h2
  have h5 := memT_iff.mp h5
  dsimp only at h5
  rw [e1, e2] at h5
  exact ⟨of_decide_eq_true h3, of_decide_eq_true h4, h5⟩
theorem ws_word {c' : Nat} (h : c' < 9) : ∀ w ∈ u_ws (cls c').1 (cls c').2.1 (cls c').2.2, w ∈ gtl := by
  have h1 := List.all_eq_true.mp ws_ok c' (List.mem_range.mpr h)
  intro w hw
  exact memT_iff.mp (List.all_eq_true.mp h1 w hw)
theorem cls_get {c' : Nat} (h : c' < 9) : clsl[c']? = some ((cls c').1, (cls c').2.1, (cls c').2.2) := by
  have hl : c' < clsl.length := h
  have e : clsl[c']? = some clsl[c'] := List.getElem?_eq_getElem hl
  have e2 : cls c' = clsl[c'] := by unfold cls; rw [List.getD_eq_getElem?_getD, e]; rfl
  rw [e, ← e2]
theorem okO_ok {k c' : Nat} (h : okO nx k c' = true) : (sh k).1 = c' := by
  unfold okO at h
  exact eq_of_beq (and3 h).2
theorem okW_ok {k : Nat} (h : okW nx k = true) : k < nx := of_decide_eq_true h
theorem NX1000 : NX < 1000 := by decide
theorem HN.obj {H : Heap} {k : Nat} (h : HN G nx M H) (hk : k < nx) (ht : (sh k).1 < 100) : t_OB (w_B G + k) (w_C G (sh k).1) (cls (sh k).1).2.2 (w_I G (sh k).1) H (fun j => cv G (cval M k j)) := by
  have := h.2.2 k hk
  unfold cP at this
  rw [if_pos ht] at this
  exact this
theorem HN.arr {H : Heap} {k : Nat} (h : HN G nx M H) (hk : k < nx) (ht : ¬ (sh k).1 < 100) : H[w_B G + k]? = some (arrV (w_A G ((sh k).1 - 100)) (sh k).2 (fun j => cv G (cval M k j))) := by
  have := h.2.2 k hk
  unfold cP at this
  rw [if_neg ht] at this
  exact this
theorem ad_new {k : Nat} (hn : nx ≤ NX) (hk : k < nx) : ad G k = w_B G + k := by
  unfold ad
  rw [if_pos (by have := NX1000; omega)]
theorem fs_ok : memT (.fieldLink (oS 12) 9 "java/lang/String" "value" "[B") = true ∧ memT (.fieldLink (oS 12) 15 "java/lang/String" "coder" "B") = true ∧ memT (.fieldLink (oS 12) 38 "java/lang/String" "COMPACT_STRINGS" "Z") = true ∧ memT (.fieldLink (oS 12) 1053 "jdk/internal/util/Preconditions" "SIOOBE_FORMATTER" "Ljava/util/function/BiFunction;") = true := by decide +kernel
theorem s_getfield {q : Nat} (C : CX p R s m args meth c G y nx0 nxE) (hd : decode (mB y) pc = .ok (.getfield q, 3)) (h : stp E y (.getfield q) pc ls st nx M = some (.inl f')) (k : GW p l e R s m args below meth c Q G y nx0 f') : GW p l e R s m args below meth c Q G y nx0 (pc, ls, st, nx, M) := by
  unfold stp at h
  dsimp only at h
  obtain ⟨a, t, rfl, h9⟩ := oneR_eq h
  clear h
  have h := h9
  clear h9
  split at h
  · rename_i c' j hq
    obtain ⟨hg, h⟩ := gd_eq h
    cases go_eq h
    obtain ⟨g1, g2⟩ := and3 hg
    have hk := okW_ok g1
    have hc := okO_ok g2
    obtain ⟨hc9, hj, hw⟩ := tF_word hq
    intro lsC H locs hl hn ho hs hx
    have ht : (sh a).1 < 100 := by omega
    obtain ⟨cell, q1, q2, q3, q4⟩ := hn.obj hk ht
    rw [hc] at q2 q4
    have hK := C.2.2.2.2.2.2.1.1
    obtain ⟨hS, hfc, kC, hkC, hkind⟩ := hK.1 c' _ (cls_get hc9)
    obtain ⟨cf, kf, fi, f, hi, hsl⟩ := hS j hj
    show W p l e R s m args below meth c H locs _ _ Q (F0 m pc lsC (.ref (ad G a) :: t.map (cv G)))
    rw [ad_new hn.2.1 hk]
    refine W.getf C.1 C.2.1 C.2.2.2.1 (C.2.2.2.2.1 _ hw) hi (u_facts hfc hkC (u_lays C.2.2.2.2.1 (ws_word hc9) hj) hi).1 q1 (by rw [q3]; exact fun h => by cases h) (v := cv G (fval M c' a j)) ?_ rfl rfl hd (k lsC H locs hl hn ho hs hx)
    rw [hsl, q4 j hj]
    show some (cv G (cval M a j)) = _
    unfold cval
    rw [if_pos ht, hc]
  · by_cases e1 : pk y q = 24009
    · rw [if_pos e1] at h
      obtain ⟨hg, h⟩ := gd_eq h
      cases go_eq h
      obtain ⟨o1, o2⟩ := pk_eq0 (y := y) (q := q) (by rw [e1]; rfl)
      rw [e1] at o1 o2
      have hw : Cond.fieldLink (oS (mO y)) q "java/lang/String" "value" "[B" ∈ gtl := by rw [← o1, ← o2]; exact memT_iff.mp fs_ok.1
      have hK := C.2.2.2.2.2.2.1.2.2.2.2.1
      intro lsC H locs hl hn ho hs hx
      rcases Bool.or_eq_true _ _ ▸ hg with hg | hg
      · cases eq_of_beq hg
        exact vk_getf C.1 C.2.1 (hK.1 0 (by decide)).2.2.1 hs C.2.2.2.1 (C.2.2.2.2.1 _ hw) (fun _ z => z) hd (k lsC H locs hl hn ho hs hx)
      · cases eq_of_beq hg
        exact vk_getf C.1 C.2.1 (hK.1 1 (by decide)).2.2.1 hs C.2.2.2.1 (C.2.2.2.2.1 _ hw) (fun _ z => z) hd (k lsC H locs hl hn ho hs hx)
    · rw [if_neg e1] at h
      by_cases e2 : pk y q = 24015
      · rw [if_pos e2] at h
        obtain ⟨hg, h⟩ := gd_eq h
        cases go_eq h
        obtain ⟨o1, o2⟩ := pk_eq0 (y := y) (q := q) (by rw [e2]; rfl)
        rw [e2] at o1 o2
        have hw : Cond.fieldLink (oS (mO y)) q "java/lang/String" "coder" "B" ∈ gtl := by rw [← o1, ← o2]; exact memT_iff.mp fs_ok.2.1
        have hK := C.2.2.2.2.2.2.1.2.2.2.2.1
        intro lsC H locs hl hn ho hs hx
        rcases Bool.or_eq_true _ _ ▸ hg with hg | hg
        · cases eq_of_beq hg
          exact vk_getf C.1 C.2.1 (hK.1 0 (by decide)).2.1 hs C.2.2.2.1 (C.2.2.2.2.1 _ hw) (fun _ z => z) hd (k lsC H locs hl hn ho hs hx)
        · cases eq_of_beq hg
          exact vk_getf C.1 C.2.1 (hK.1 1 (by decide)).2.1 hs C.2.2.2.1 (C.2.2.2.2.1 _ hw) (fun _ z => z) hd (k lsC H locs hl hn ho hs hx)
      · rw [if_neg e2] at h
        cases h
theorem s_getstatic {q : Nat} (C : CX p R s m args meth c G y nx0 nxE) (hd : decode (mB y) pc = .ok (.getstatic q, 3)) (h : stp E y (.getstatic q) pc ls st nx M = some (.inl f')) (k : GW p l e R s m args below meth c Q G y nx0 f') : GW p l e R s m args below meth c Q G y nx0 (pc, ls, st, nx, M) := by
  unfold stp at h
  dsimp only at h
  by_cases e1 : pk y q = 24038
  · rw [if_pos e1] at h
    cases go_eq h
    obtain ⟨o1, o2⟩ := pk_eq0 (y := y) (q := q) (by rw [e1]; rfl)
    rw [e1] at o1 o2
    have hw : Cond.fieldLink (oS (mO y)) q "java/lang/String" "COMPACT_STRINGS" "Z" ∈ gtl := by rw [← o1, ← o2]; exact memT_iff.mp fs_ok.2.2.1
    have hK := C.2.2.2.2.2.2.1.2.2.2.2.2.2.2.1
    exact fun lsC H locs hl hn ho hs hx => va_gets C.1 C.2.1 hK hs C.2.2.2.1 (C.2.2.2.2.1 _ hw) (fun _ z => z) hd (k lsC H locs hl hn ho hs hx)
  · rw [if_neg e1] at h
    cases h
end SND3

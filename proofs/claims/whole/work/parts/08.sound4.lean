/-! SOUNDNESS, part four: arrays and fields, read and written; new cells -/
section SND4
variable {p : Program} {l : Launch} {e : Env} {R : Room} {s : State} {m : MethodId} {args : Array Value} {below : List Frame} {meth : Method} {c : Code} {Q : State → Prop} {G : Wd} {y nx0 nxE : Nat} {E : Hdl} {pc nx : Nat} {ls : Lcl} {st : List Value} {M M' : Mem} {f' : Fr}
theorem gI_sI {k j k' j' : Nat} {v : Int32} : gI (sI M k j v) k' j' = if k' = k ∧ j' = j then v else gI M k' j' := rfl
theorem gL_sI {k j k' j' : Nat} {v : Int32} : gL (sI M k j v) k' j' = gL M k' j' := rfl
theorem gR_sI {k j k' j' : Nat} {v : Int32} : gR (sI M k j v) k' j' = gR M k' j' := rfl
theorem gI_sL {k j k' j' : Nat} {v : Int64} : gI (sL M k j v) k' j' = gI M k' j' := rfl
theorem gL_sL {k j k' j' : Nat} {v : Int64} : gL (sL M k j v) k' j' = if k' = k ∧ j' = j then v else gL M k' j' := rfl
theorem gR_sL {k j k' j' : Nat} {v : Int64} : gR (sL M k j v) k' j' = gR M k' j' := rfl
theorem gI_sR {k j k' j' : Nat} {v : Option Nat} : gI (sR M k j v) k' j' = gI M k' j' := rfl
theorem gL_sR {k j k' j' : Nat} {v : Option Nat} : gL (sR M k j v) k' j' = gL M k' j' := rfl
theorem gR_sR {k j k' j' : Nat} {v : Option Nat} : gR (sR M k j v) k' j' = if k' = k ∧ j' = j then v else gR M k' j' := rfl
theorem cval_ne {k : Nat} (hI : ∀ j, gI M' k j = gI M k j) (hL : ∀ j, gL M' k j = gL M k j) (hR : ∀ j, gR M' k j = gR M k j) (j : Nat) : cval M' k j = cval M k j := by
  unfold cval fval
  rw [hI, hL, hR]
theorem cvI {a i k' : Nat} {v : Int32} (h : k' ≠ a) (j : Nat) : cval (sI M a i v) k' j = cval M k' j := cval_ne (M := M) (M' := sI M a i v) (fun j => by rw [gI_sI, if_neg (fun q => h q.1)]) (fun _ => rfl) (fun _ => rfl) j
theorem cvL {a i k' : Nat} {v : Int64} (h : k' ≠ a) (j : Nat) : cval (sL M a i v) k' j = cval M k' j := cval_ne (M := M) (M' := sL M a i v) (fun _ => rfl) (fun j => by rw [gL_sL, if_neg (fun q => h q.1)]) (fun _ => rfl) j
theorem cvR {a i k' : Nat} {v : Option Nat} (h : k' ≠ a) (j : Nat) : cval (sR M a i v) k' j = cval M k' j := cval_ne (M := M) (M' := sR M a i v) (fun _ => rfl) (fun _ => rfl) (fun j => by rw [gR_sR, if_neg (fun q => h q.1)]) j
theorem HN.upd {H H1 : Heap} {k : Nat} (h : HN G nx M H) (hk : k < nx) (z : H1.size = H.size) (oq : ∀ q : Nat, q ≠ w_B G + k → H1[q]? = H[q]?) (hs : ∀ k', k' ≠ k → ∀ j, cval M' k' j = cval M k' j) (hn : cP G M' H1 k) : HN G nx M' H1 := by
  refine ⟨z.trans h.1, h.2.1, fun k' hk' => ?_⟩
  by_cases e : k' = k
  · rw [e]; exact hn
  · have h1 := h.2.2 k' hk'
    have hf : (fun j => cv G (cval M' k' j)) = fun j => cv G (cval M k' j) := funext fun j => by rw [hs k' e j]
    have ho := oq (w_B G + k') (by omega)
    unfold cP at h1 ⊢
    rw [hf]
    by_cases ht : (sh k').1 < 100
    · rw [if_pos ht] at h1 ⊢
      exact h1.kept ho
    · rw [if_neg ht] at h1 ⊢
      rw [ho]
      exact h1
theorem OM.to (h : OM G M) (h3 : M'.2.2.2 = M.2.2.2) (hI : ∀ k j, 1000 ≤ k → gI M' k j = gI M k j) : OM G M' := by
  obtain ⟨h1, h2, h4, h5⟩ := h
  exact ⟨h3.trans h1, fun j hj => (hI 1000 j (by omega)).trans (h2 j hj), fun j hj => (hI 1002 j (by omega)).trans (h4 j hj), fun j hj => (hI 1004 j (by omega)).trans (h5 j hj)⟩
theorem OM.sI {k j : Nat} {v : Int32} (h : OM G M) (hk : k < nx) (hn : nx ≤ NX) : OM G (sI M k j v) := h.to rfl (fun k' j' h' => by rw [gI_sI, if_neg]; have := NX1000; omega)
theorem sh_le : (List.range NX).all (fun k => decide ((sh k).1 ≤ 105)) = true := by decide +kernel
theorem sh_le' {k : Nat} (h : k < NX) : (sh k).1 ≤ 105 := of_decide_eq_true (List.all_eq_true.mp sh_le k (List.mem_range.mpr h))
theorem inb_in {i : Int32} {n : Nat} (h : inb i n = true) : ¬ (i < 0 ∨ n ≤ i.toNatClampNeg) := of_decide_eq_true h
theorem inb_lt {i : Int32} {n : Nat} (h : inb i n = true) : i.toNatClampNeg < n := Nat.not_le.mp fun q => inb_in h (Or.inr q)
theorem lenOf_new {k : Nat} (hk : k < nx) (hn : nx ≤ NX) : lenOf M k = (sh k).2 := by unfold lenOf; rw [if_neg (by have := NX1000; omega)]
theorem okA_ok {k t : Nat} {i : Int32} (h : okA M nx k t i = true) : (k < nx ∨ (1000 ≤ k ∧ k < 1005)) ∧ (sh k).1 = t ∧ inb i (lenOf M k) = true := by
  unfold okA live at h
  obtain ⟨h, h3⟩ := and3 h
  obtain ⟨h1, h2⟩ := and3 h
  refine ⟨?_, eq_of_beq h2, h3⟩
  rcases Bool.or_eq_true _ _ ▸ h1 with h1 | h1
  · exact Or.inl (of_decide_eq_true h1)
  · obtain ⟨a, b⟩ := and3 h1
    exact Or.inr ⟨of_decide_eq_true a, of_decide_eq_true b⟩
theorem old_cases {k : Nat} (h : 1000 ≤ k ∧ k < 1005) : k = 1000 ∨ k = 1001 ∨ k = 1002 ∨ k = 1003 ∨ k = 1004 := by omega
theorem cval_i {k j : Nat} (h1 : 100 ≤ (sh k).1) (h2 : (sh k).1 < 103) : cval M k j = .int (gI M k j) := by
  unfold cval
  rw [if_neg (by omega), if_neg (by omega), if_pos h2]
theorem cval_l {k j : Nat} (h1 : (sh k).1 = 103) : cval M k j = .long (gL M k j) := by
  unfold cval
  rw [if_neg (by omega), if_pos h1]
theorem cval_r {k j : Nat} (h1 : 103 < (sh k).1) : cval M k j = vrf (gR M k j) := by
  unfold cval
  rw [if_neg (by omega), if_neg (by omega), if_neg (by omega)]
/-- an array of ours, read -/
theorem HN.rd {H : Heap} {k t : Nat} {i : Int32} (hn : HN G nx M H) (hk : k < nx) (ht : (sh k).1 = t) (h1 : 100 ≤ t) (hi : inb i (lenOf M k) = true) : H[ad G k]? = some (arrV (w_A G (t - 100)) (sh k).2 (fun j => cv G (cval M k j))) ∧ ¬ (i < 0 ∨ (arrV (w_A G (t - 100)) (sh k).2 (fun j => cv G (cval M k j))).slots.size ≤ i.toNatClampNeg) ∧ (arrV (w_A G (t - 100)) (sh k).2 (fun j => cv G (cval M k j))).slots[i.toNatClampNeg]? = some (cv G (cval M k i.toNatClampNeg)) := by
  rw [lenOf_new hk hn.2.1] at hi
  refine ⟨?_, ?_, arrV_read _ _ (inb_lt hi)⟩
  · rw [ad_new hn.2.1 hk]
    have := hn.arr hk (by omega)
    rw [ht] at this
    exact this
  · rw [arrV_size]
    exact inb_in hi
theorem s_iaload (C : CX p R s m args meth c G y nx0 nxE) (hd : decode (mB y) pc = .ok (.iaload, 1)) (h : stp E y .iaload pc ls st nx M = some (.inl f')) (k : GW p l e R s m args below meth c Q G y nx0 f') : GW p l e R s m args below meth c Q G y nx0 (pc, ls, st, nx, M) := by
  unfold stp at h
  dsimp only at h
  obtain ⟨a, i, t, rfl, h⟩ := arl_eq h
  obtain ⟨hg, h⟩ := gd_eq h
  cases go_eq h
  obtain ⟨g1, g2, g3⟩ := okA_ok hg
  have hKW := C.2.2.2.2.2.2.1
  intro lsC H locs hl hn ho hs hx
  rcases g1 with g1 | g1
  · obtain ⟨q1, q2, q3⟩ := hn.rd g1 g2 (by omega) g3
    rw [cval_i (by omega) (by omega)] at q3
    exact W.iald C.1 C.2.1 q1 ((hKW.1.2 0 _ rfl).1 _ _) (fun z => by cases z) q2 q3 rfl rfl hd (k lsC H locs hl hn ho hs hx)
  · rcases old_cases g1 with rfl | rfl | rfl | rfl | rfl
    · have hL : lenOf M 1000 = w_L G := ho.1
      rw [hL] at g3
      have hb : w_S G < s.heap.size := Nat.lt_of_lt_of_le hKW.2.2.1 C.2.2.2.2.2.2.2.1
      refine va_sld C.1 C.2.1 hKW.2.1 hb (fun z => Nat.lt_irrefl _ (Nat.lt_of_lt_of_le hKW.2.2.1 z)) hs (inb_in g3) hd ?_
      rw [← ho.2.1 _ (inb_lt g3)]
      exact k lsC H locs hl hn ho hs hx
    · cases g2
    · cases g2
    · cases g2
    · cases g2
theorem s_laload (C : CX p R s m args meth c G y nx0 nxE) (hd : decode (mB y) pc = .ok (.laload, 1)) (h : stp E y .laload pc ls st nx M = some (.inl f')) (k : GW p l e R s m args below meth c Q G y nx0 f') : GW p l e R s m args below meth c Q G y nx0 (pc, ls, st, nx, M) := by
  unfold stp at h
  dsimp only at h
  obtain ⟨a, i, t, rfl, h⟩ := arl_eq h
  obtain ⟨hg, h⟩ := gd_eq h
  cases go_eq h
  obtain ⟨g1, g2, g3⟩ := okA_ok hg
  have hKW := C.2.2.2.2.2.2.1
  intro lsC H locs hl hn ho hs hx
  rcases g1 with g1 | g1
  · obtain ⟨q1, q2, q3⟩ := hn.rd g1 g2 (by omega) g3
    rw [cval_l g2] at q3
    exact W.lald C.1 C.2.1 q1 ((hKW.1.2 3 _ rfl).1 _ _) (fun z => by cases z) q2 q3 rfl rfl hd (k lsC H locs hl hn ho hs hx)
  · rcases old_cases g1 with rfl | rfl | rfl | rfl | rfl <;> cases g2
theorem s_aaload (C : CX p R s m args meth c G y nx0 nxE) (hd : decode (mB y) pc = .ok (.aaload, 1)) (h : stp E y .aaload pc ls st nx M = some (.inl f')) (k : GW p l e R s m args below meth c Q G y nx0 f') : GW p l e R s m args below meth c Q G y nx0 (pc, ls, st, nx, M) := by
  unfold stp at h
  dsimp only at h
  obtain ⟨a, i, t, rfl, h⟩ := arl_eq h
  obtain ⟨hg, h⟩ := gd_eq h
  cases go_eq h
  have hKW := C.2.2.2.2.2.2.1
  intro lsC H locs hl hn ho hs hx
  rcases Bool.or_eq_true _ _ ▸ hg with hg | hg
  · obtain ⟨g1, g2, g3⟩ := okA_ok hg
    rcases g1 with g1 | g1
    · obtain ⟨q1, q2, q3⟩ := hn.rd g1 g2 (by omega) g3
      rw [cval_r (by omega)] at q3
      exact W.aald C.1 C.2.1 q1 ((hKW.1.2 4 _ rfl).1 _ _) rfl (fun z => by cases z) q2 q3 rfl rfl hd (k lsC H locs hl hn ho hs hx)
    · rcases old_cases g1 with rfl | rfl | rfl | rfl | rfl <;> cases g2
  · obtain ⟨g1, g2, g3⟩ := okA_ok hg
    rcases g1 with g1 | g1
    · obtain ⟨q1, q2, q3⟩ := hn.rd g1 g2 (by omega) g3
      rw [cval_r (by omega)] at q3
      exact W.aald C.1 C.2.1 q1 ((hKW.1.2 5 _ rfl).1 _ _) rfl (fun z => by cases z) q2 q3 rfl rfl hd (k lsC H locs hl hn ho hs hx)
    · rcases old_cases g1 with rfl | rfl | rfl | rfl | rfl <;> cases g2
/-- the bytes of a text -/
theorem bald_old {H : Heap} {locs : List Loc} {cells slots : Nat} {lsC : Array Slot} {rest : List Value} {a N : Nat} {f : Nat → Int32} {i : Int32} (hx : p.tables.exec = Jvm.exec) (hb : c.code = mB y) (hT : va_T .byte a N (fun j => .int (f j)) (AR G) s s.heap) (hs : va_S (AR G) s.heap H locs) (hi : inb i N = true) (hd : decode (mB y) pc = .ok (.baload, 1)) (k : W p l e R s m args below meth c H locs cells slots Q (F0 m (pc + 1) lsC (.int (f i.toNatClampNeg) :: rest))) : W p l e R s m args below meth c H locs cells slots Q (F0 m pc lsC (.int i :: .ref a :: rest)) := by
  obtain ⟨cell, h1, h2, h3, h4, h5, h6, h7⟩ := hT.kept hs.2.1
  refine W.bald hx hb h1 h2 h3 ?_ (h6 _ (inb_lt hi)) rfl rfl hd k
  rintro (z | z)
  · exact inb_in hi (Or.inl z)
  · exact inb_in hi (Or.inr (Nat.le_trans h4 z))
theorem s_baload (C : CX p R s m args meth c G y nx0 nxE) (hd : decode (mB y) pc = .ok (.baload, 1)) (h : stp E y .baload pc ls st nx M = some (.inl f')) (k : GW p l e R s m args below meth c Q G y nx0 f') : GW p l e R s m args below meth c Q G y nx0 (pc, ls, st, nx, M) := by
  unfold stp at h
  dsimp only at h
  obtain ⟨a, i, t, rfl, h⟩ := arl_eq h
  obtain ⟨hg, h⟩ := gd_eq h
  cases go_eq h
  have hKW := C.2.2.2.2.2.2.1
  intro lsC H locs hl hn ho hs hx
  rcases Bool.or_eq_true _ _ ▸ hg with hg | hg
  · obtain ⟨g1, g2, g3⟩ := okA_ok hg
    rcases g1 with g1 | g1
    · obtain ⟨q1, q2, q3⟩ := hn.rd g1 g2 (by omega) g3
      rw [cval_i (by omega) (by omega)] at q3
      exact W.bald C.1 C.2.1 q1 ((hKW.1.2 1 _ rfl).1 _ _) (fun z => by cases z) q2 q3 rfl rfl hd (k lsC H locs hl hn ho hs hx)
    · rcases old_cases g1 with rfl | rfl | rfl | rfl | rfl
      · cases g2
      · cases g2
      · have hT := (hKW.2.2.2.2.1.1 0 (by decide)).2.2.2
        have g3 : inb i 139 = true := g3
        refine bald_old (f := fun j => wordsB.getD j 0) C.1 C.2.1 hT hs g3 hd ?_
        rw [← ho.2.2.1 _ (inb_lt g3)]
        exact k lsC H locs hl hn ho hs hx
      · cases g2
      · have hT := (hKW.2.2.2.2.1.1 1 (by decide)).2.2.2
        have g3 : inb i 11 = true := g3
        refine bald_old (f := fun j => signsB.getD j 0) C.1 C.2.1 hT hs g3 hd ?_
        rw [← ho.2.2.2 _ (inb_lt g3)]
        exact k lsC H locs hl hn ho hs hx
  · obtain ⟨g1, g2, g3⟩ := okA_ok hg
    rcases g1 with g1 | g1
    · obtain ⟨q1, q2, q3⟩ := hn.rd g1 g2 (by omega) g3
      rw [cval_i (by omega) (by omega)] at q3
      exact W.zald C.1 C.2.1 q1 ((hKW.1.2 2 _ rfl).1 _ _) (fun z => by cases z) q2 q3 rfl rfl hd (k lsC H locs hl hn ho hs hx)
    · rcases old_cases g1 with rfl | rfl | rfl | rfl | rfl <;> cases g2
theorem s_arraylength (C : CX p R s m args meth c G y nx0 nxE) (hd : decode (mB y) pc = .ok (.arraylength, 1)) (h : stp E y .arraylength pc ls st nx M = some (.inl f')) (k : GW p l e R s m args below meth c Q G y nx0 f') : GW p l e R s m args below meth c Q G y nx0 (pc, ls, st, nx, M) := by
  unfold stp at h
  dsimp only at h
  obtain ⟨a, t, rfl, h⟩ := oneR_eq h
  obtain ⟨hg, h⟩ := gd_eq h
  cases go_eq h
  obtain ⟨hg, g2⟩ := and3 hg
  have g2 := of_decide_eq_true g2
  have hKW := C.2.2.2.2.2.2.1
  intro lsC H locs hl hn ho hs hx
  unfold live at hg
  rcases Bool.or_eq_true _ _ ▸ hg with g1 | g1
  · have g1 := of_decide_eq_true g1
    have h5 := sh_le' (Nat.lt_of_lt_of_le g1 hn.2.1)
    have q1 := hn.arr g1 (by omega)
    rw [← ad_new hn.2.1 g1] at q1
    have hk := k lsC H locs hl hn ho hs hx
    rw [lenOf_new g1 hn.2.1] at hk
    have hty : ∃ ty, ArrOfT s (w_A G ((sh a).1 - 100)) ty := by
      have h6 : (sh a).1 - 100 = 0 ∨ (sh a).1 - 100 = 1 ∨ (sh a).1 - 100 = 2 ∨ (sh a).1 - 100 = 3 ∨ (sh a).1 - 100 = 4 ∨ (sh a).1 - 100 = 5 := by omega
      rcases h6 with h6 | h6 | h6 | h6 | h6 | h6 <;> rw [h6]
      · exact ⟨_, (hKW.1.2 0 _ rfl).1⟩
      · exact ⟨_, (hKW.1.2 1 _ rfl).1⟩
      · exact ⟨_, (hKW.1.2 2 _ rfl).1⟩
      · exact ⟨_, (hKW.1.2 3 _ rfl).1⟩
      · exact ⟨_, (hKW.1.2 4 _ rfl).1⟩
      · exact ⟨_, (hKW.1.2 5 _ rfl).1⟩
    obtain ⟨ty, hty⟩ := hty
    exact W.alen C.1 C.2.1 q1 (hty _ _) (by rw [arrV_size] <;> rfl) rfl rfl hd hk
  · obtain ⟨a1, a2⟩ := and3 g1
    rcases old_cases ⟨of_decide_eq_true a1, of_decide_eq_true a2⟩ with rfl | rfl | rfl | rfl | rfl
    · have hb : w_S G < s.heap.size := Nat.lt_of_lt_of_le hKW.2.2.1 C.2.2.2.2.2.2.2.1
      have hL : lenOf M 1000 = w_L G := ho.1
      have hk := k lsC H locs hl hn ho hs hx
      rw [hL] at hk
      exact va_slen C.1 C.2.1 hKW.2.1 hb (fun z => Nat.lt_irrefl _ (Nat.lt_of_lt_of_le hKW.2.2.1 z)) hs hd hk
    · exact absurd g2 (by decide)
    · obtain ⟨cell, h1, h2, h3, h4, h5, h6, h7⟩ := (hKW.2.2.2.2.1.1 0 (by decide)).2.2.2.kept hs.2.1
      exact W.alen C.1 C.2.1 h1 h2 h5 rfl rfl hd (k lsC H locs hl hn ho hs hx)
    · exact absurd g2 (by decide)
    · obtain ⟨cell, h1, h2, h3, h4, h5, h6, h7⟩ := (hKW.2.2.2.2.1.1 1 (by decide)).2.2.2.kept hs.2.1
      exact W.alen C.1 C.2.1 h1 h2 h5 rfl rfl hd (k lsC H locs hl hn ho hs hx)
/-- an array of ours, written -/
theorem HN.wr {H H1 : Heap} {a i : Nat} {v : Value} (hn : HN G nx M H) (ha : a < nx) (h1 : 100 ≤ (sh a).1) (z : H1.size = H.size) (oq : ∀ q : Nat, q ≠ ad G a → H1[q]? = H[q]?) (e1 : H1[ad G a]? = some ((arrV (w_A G ((sh a).1 - 100)) (sh a).2 (fun j => cv G (cval M a j))).setSlot i (cv G v))) (hm : ∀ j, cval M' a j = if j = i then v else cval M a j) (hs : ∀ k', k' ≠ a → ∀ j, cval M' k' j = cval M k' j) : HN G nx M' H1 := by
  have hA := ad_new (G := G) hn.2.1 ha
  rw [hA] at oq e1
  refine hn.upd ha z oq hs ?_
  unfold cP
  rw [if_neg (by omega), e1, arrV_store]
  congr 2
  funext j
  rw [hm j]
  unfold updV
  by_cases e : j = i
  · rw [if_pos e, if_pos e]
  · rw [if_neg e, if_neg e]
theorem AR_new {a : Nat} (hn : nx ≤ NX) (ha : a < nx) : AR G (ad G a) := by
  rw [ad_new hn ha]
  exact Nat.le_add_right _ _
theorem s_iastore (C : CX p R s m args meth c G y nx0 nxE) (hd : decode (mB y) pc = .ok (.iastore, 1)) (h : stp E y .iastore pc ls st nx M = some (.inl f')) (k : GW p l e R s m args below meth c Q G y nx0 f') : GW p l e R s m args below meth c Q G y nx0 (pc, ls, st, nx, M) := by
  unfold stp at h
  dsimp only at h
  obtain ⟨a, i, x, t, rfl, h⟩ := ars_eq h
  obtain ⟨hg, h⟩ := gd_eq h
  cases go_eq h
  obtain ⟨g0, hg⟩ := and3 hg
  have g0 := okW_ok g0
  obtain ⟨-, g2, g3⟩ := okA_ok hg
  have hKW := C.2.2.2.2.2.2.1
  intro lsC H locs hl hn ho hs hx
  obtain ⟨q1, q2, q3⟩ := hn.rd g0 g2 (by omega) g3
  refine W.iast C.1 C.2.1 q1 ((hKW.1.2 0 _ rfl).1 _ _) (fun z => by cases z) q2 rfl rfl hd (fun H1 e1 z oq => ?_)
  refine k lsC H1 _ hl (hn.wr (v := .int x) g0 (by omega) z oq (by rw [g2]; exact e1) (fun j => ?_) (fun k' hk' j => cvI hk' j)) (ho.sI g0 hn.2.1) (hs.put z oq (AR_new hn.2.1 g0)) hx
  · rw [cval_i (by omega) (by omega), cval_i (by omega) (by omega), gI_sI]
    by_cases e : j = i.toNatClampNeg
    · rw [if_pos ⟨rfl, e⟩, if_pos e]
    · rw [if_neg (fun q => e q.2), if_neg e]
theorem s_bastore (C : CX p R s m args meth c G y nx0 nxE) (hd : decode (mB y) pc = .ok (.bastore, 1)) (h : stp E y .bastore pc ls st nx M = some (.inl f')) (k : GW p l e R s m args below meth c Q G y nx0 f') : GW p l e R s m args below meth c Q G y nx0 (pc, ls, st, nx, M) := by
  unfold stp at h
  dsimp only at h
  obtain ⟨a, i, x, t, rfl, h9⟩ := ars_eq h
  clear h
  have hKW := C.2.2.2.2.2.2.1
  have key : ∀ (ty : FieldType) (tg : Nat) (v : Int32), (sh a).1 = tg → 100 ≤ tg → tg < 103 → a < nx → inb i (lenOf M a) = true → narrow ty (.int x) = .int v → (∀ (lsC : Array Slot) (H : Heap) (locs : List Loc), HN G nx M H → (∀ H1 : Heap, H1[ad G a]? = some ((arrV (w_A G ((sh a).1 - 100)) (sh a).2 (fun j => cv G (cval M a j))).setSlot i.toNatClampNeg (.int v)) → H1.size = H.size → (∀ q, q ≠ ad G a → H1[q]? = H[q]?) → W p l e R s m args below meth c H1 (locs ++ [⟨ad G a, i.toNatClampNeg⟩]) (nx - nx0) (SLn nx - SLn nx0) Q (F0 m (pc + 1) lsC (t.map (cv G)))) → W p l e R s m args below meth c H locs (nx - nx0) (SLn nx - SLn nx0) Q (F0 m pc lsC (.int x :: .int i :: .ref (ad G a) :: t.map (cv G)))) → GW p l e R s m args below meth c Q G y nx0 (pc + 1, ls, t, nx, sI M a i.toNatClampNeg v) → GW p l e R s m args below meth c Q G y nx0 (pc, ls, .int x :: .int i :: .ref a :: t, nx, M) := by
    intro ty tg v g2 b1 b2 g0 g3 hv hrow k
    intro lsC H locs hl hn ho hs hx
    refine hrow lsC H locs hn (fun H1 e1 z oq => ?_)
    refine k lsC H1 _ hl (hn.wr (v := .int v) g0 (by omega) z oq e1 (fun j => ?_) (fun k' hk' j => cvI hk' j)) (ho.sI g0 hn.2.1) (hs.put z oq (AR_new hn.2.1 g0)) hx
    · rw [cval_i (by omega) (by omega), cval_i (by omega) (by omega), gI_sI]
      by_cases e : j = i.toNatClampNeg
      · rw [if_pos ⟨rfl, e⟩, if_pos e]
      · rw [if_neg (fun q => e q.2), if_neg e]
  by_cases c1 : (okW nx a && okA M nx a 101 i) = true
  · obtain ⟨g0, hg⟩ := and3 c1
    have g0 := okW_ok g0
    obtain ⟨-, g2, g3⟩ := okA_ok hg
    have h9 : go (pc + 1) ls t nx (sI M a i.toNatClampNeg (vp_nar .byte x)) = some (.inl f') := by
      rw [show gd (okW nx a && okA M nx a 101 i) (go (pc + 1) ls t nx (sI M a i.toNatClampNeg (vp_nar .byte x))) = go (pc + 1) ls t nx (sI M a i.toNatClampNeg (vp_nar .byte x)) from by unfold gd; rw [if_pos c1]] at h9
      exact h9
    cases go_eq h9
    refine key .byte 101 _ g2 (by omega) (by omega) g0 g3 rfl (fun lsC H locs hn kk => ?_) k
    obtain ⟨q1, q2, q3⟩ := hn.rd g0 g2 (by omega) g3
    refine W.bast C.1 C.2.1 q1 ((hKW.1.2 1 _ rfl).1 _ _) (fun z => by cases z) q2 rfl rfl hd (fun H1 e1 z oq => kk H1 (by rw [g2]; exact e1) z oq)
  · have e1 : gd (okW nx a && okA M nx a 101 i) (go (pc + 1) ls t nx (sI M a i.toNatClampNeg (vp_nar .byte x))) = none := by unfold gd; rw [if_neg c1]
    rw [e1] at h9
    have h9 : gd (okW nx a && okA M nx a 102 i) (go (pc + 1) ls t nx (sI M a i.toNatClampNeg (vp_nar .boolean x))) = some (.inl f') := h9
    obtain ⟨hg, h⟩ := gd_eq h9
    cases go_eq h
    obtain ⟨g0, hg⟩ := and3 hg
    have g0 := okW_ok g0
    obtain ⟨-, g2, g3⟩ := okA_ok hg
    refine key .boolean 102 _ g2 (by omega) (by omega) g0 g3 rfl (fun lsC H locs hn kk => ?_) k
    obtain ⟨q1, q2, q3⟩ := hn.rd g0 g2 (by omega) g3
    refine W.zast C.1 C.2.1 q1 ((hKW.1.2 2 _ rfl).1 _ _) (fun z => by cases z) q2 rfl rfl hd (fun H1 e1 z oq => kk H1 (by rw [g2]; exact e1) z oq)
theorem OM.sL {k j : Nat} {v : Int64} (h : OM G M) : OM G (sL M k j v) := h.to rfl (fun k' j' h' => rfl)
theorem OM.sR {k j : Nat} {v : Option Nat} (h : OM G M) : OM G (sR M k j v) := h.to rfl (fun k' j' h' => rfl)
theorem s_lastore (C : CX p R s m args meth c G y nx0 nxE) (hd : decode (mB y) pc = .ok (.lastore, 1)) (h : stp E y .lastore pc ls st nx M = some (.inl f')) (k : GW p l e R s m args below meth c Q G y nx0 f') : GW p l e R s m args below meth c Q G y nx0 (pc, ls, st, nx, M) := by
  unfold stp at h
  dsimp only at h
  obtain ⟨a, i, x, t, rfl, h⟩ := arsL_eq h
  obtain ⟨hg, h⟩ := gd_eq h
  cases go_eq h
  obtain ⟨g0, hg⟩ := and3 hg
  have g0 := okW_ok g0
  obtain ⟨-, g2, g3⟩ := okA_ok hg
  have hKW := C.2.2.2.2.2.2.1
  intro lsC H locs hl hn ho hs hx
  obtain ⟨q1, q2, q3⟩ := hn.rd g0 g2 (by omega) g3
  refine W.last C.1 C.2.1 q1 ((hKW.1.2 3 _ rfl).1 _ _) (fun z => by cases z) q2 rfl rfl hd (fun H1 e1 z oq => ?_)
  refine k lsC H1 _ hl (hn.wr (v := .long x) g0 (by omega) z oq (by rw [g2]; exact e1) (fun j => ?_) (fun k' hk' j => cvL hk' j)) ho.sL (hs.put z oq (AR_new hn.2.1 g0)) hx
  · rw [cval_l g2, cval_l g2, gL_sL]
    by_cases e : j = i.toNatClampNeg
    · rw [if_pos ⟨rfl, e⟩, if_pos e]
    · rw [if_neg (fun q => e q.2), if_neg e]
theorem s_aastore (C : CX p R s m args meth c G y nx0 nxE) (hd : decode (mB y) pc = .ok (.aastore, 1)) (h : stp E y .aastore pc ls st nx M = some (.inl f')) (k : GW p l e R s m args below meth c Q G y nx0 f') : GW p l e R s m args below meth c Q G y nx0 (pc, ls, st, nx, M) := by
  unfold stp at h
  dsimp only at h
  obtain ⟨a, i, x, t, rfl, h⟩ := arsR_eq h
  obtain ⟨hg, h⟩ := gd_eq h
  cases go_eq h
  obtain ⟨hg, hq⟩ := and3 hg
  obtain ⟨g0, gx⟩ := and3 hg
  have g0 := okW_ok g0
  have gx := okW_ok gx
  have hKW := C.2.2.2.2.2.2.1
  intro lsC H locs hl hn ho hs hx
  have key : ∀ (tg ci : Nat) (C' : String), (sh a).1 = tg → (tg = 104 ∨ tg = 105) → (sh x).1 = ci → ci < 9 → inb i (lenOf M a) = true → tysG G = tysG G → va_RA s (w_A G (tg - 100)) (.object (cls ci).1) → W p l e R s m args below meth c H locs (nx - nx0) (SLn nx - SLn nx0) Q (F0 m pc lsC (.ref (ad G x) :: .int i :: .ref (ad G a) :: t.map (cv G))) := by
    intro tg ci C' g2 ht gc hc g3 _ hRA
    obtain ⟨q1, q2, q3⟩ := hn.rd g0 g2 (by omega) g3
    obtain ⟨cellV, v1, v2, v3, v4⟩ := hn.obj gx (by omega)
    rw [← ad_new hn.2.1 gx] at v1
    rw [gc] at v2
    obtain ⟨kA, comp, k1, k2, k3, -⟩ := hRA
    have hcls := (hKW.1.1 ci _ (cls_get hc)).2
    have hcomp : comp = w_C G ci := Option.some.inj (k3.symm.trans hcls.1)
    subst hcomp
    obtain ⟨kC, hkC, -⟩ := hcls.2
    refine W.aast C.1 C.2.1 q1 (fun q h => by cases h) (fun h => by cases h) k1 k2 rfl hkC ⟨fun z => inb_in g3 (Or.inl z), Nat.not_le.mp fun z => q2 (Or.inr z)⟩ v1 (fun q h => by rw [v3] at h; cases h) (by rw [v2]; exact hkC) (by rw [v2]; exact va_assign hcls) rfl rfl hd (fun H1 e1 z oq => ?_)
    refine k lsC H1 _ hl (hn.wr (v := .ref x) g0 (by omega) z oq (by rw [g2]; exact e1) (fun j => ?_) (fun k' hk' j => cvR hk' j)) ho.sR (hs.put z oq (AR_new hn.2.1 g0)) hx
    · rw [cval_r (by omega), cval_r (by omega), gR_sR]
      by_cases e : j = i.toNatClampNeg
      · rw [if_pos ⟨rfl, e⟩, if_pos e]; rfl
      · rw [if_neg (fun q => e q.2), if_neg e]
  rcases Bool.or_eq_true _ _ ▸ hq with hq | hq
  · obtain ⟨hg, hc⟩ := and3 hq
    obtain ⟨-, g2, g3⟩ := okA_ok hg
    exact key 104 2 "" g2 (Or.inl rfl) (eq_of_beq hc) (by decide) g3 rfl (hKW.1.2 4 _ rfl).2
  · obtain ⟨hg, hc⟩ := and3 hq
    obtain ⟨-, g2, g3⟩ := okA_ok hg
    exact key 105 7 "" g2 (Or.inr rfl) (eq_of_beq hc) (by decide) g3 rfl (hKW.1.2 5 _ rfl).2
end SND4

/-! SOUNDNESS, part six: calls, ends, and the whole -/
theorem tM_lt : tMl.all (fun e => decide (e.2.2.1 < nM)) = true := by decide +kernel
theorem mO_lt : mtl.all (fun q => decide (q.2.2.2.2 < 17)) = true := by decide +kernel
theorem sh_cls : (List.range NX).all (fun k => decide ((sh k).1 < 9) || decide (100 ≤ (sh k).1)) = true := by decide +kernel
theorem mtl_len : mtl.length = nM + 1 := by decide +kernel
theorem nM_pos : 0 < nM := by decide
def wsM (y : Nat) : List Cond := Cond.code (mI y).1 (mB y) (mL y) (mR y) :: gtl
def rmD (d mc ms : Nat) : Room := { frames := d + 1, cells := mc, slots := ms, locals := 64 * d + 256 }
theorem code_gtl {y : Nat} (h : y < nM) : Cond.code (mI y).1 (mB y) (mL y) (mR y) ∈ gtl := gtl_mem (code_mem h) rfl
theorem good_gtl {w : Cond} (h : w ∈ gtl) : (w.onTables && w.keeps) = true ∨ ∃ ty, w = .arrayClass ty := by
  have h1 := (List.mem_filter.mp h).2
  rcases Bool.or_eq_true _ _ ▸ h1 with h1 | h1
  · cases w <;> first | (simp [k2_isCode] at h1; done) | exact Or.inl rfl
  · exact good_of_word h1
theorem goodIn_gtl {ws : List Cond} (h : ∀ w ∈ ws, w ∈ gtl) : GoodIn gtl ws := fun w hw => ⟨h w hw, good_gtl (h w hw)⟩
theorem wsM_gtl {y : Nat} (h : y < nM) : ∀ w ∈ wsM y, w ∈ gtl := by
  intro w hw
  rcases List.mem_cons.mp hw with rfl | hw
  · exact code_gtl h
  · exact hw
theorem mI_mem {y : Nat} (h : y < nM) : mI y ∈ mtl := by
  have hl : y < mtl.length := by rw [mtl_len]; omega
  unfold mI
  rw [List.getD_eq_getElem?_getD, List.getElem?_eq_getElem hl]
  exact List.getElem_mem hl
theorem mt_word {y : Nat} (h : y < nM) : (mI y).1.cls = oS (mO y) ∧ plainName (mI y).1.cls = true ∧ Cond.initialized (mI y).1.cls ∈ gtl ∧ (mI y).1.cls ≠ "java/lang/invoke/MethodHandle" ∧ (mI y).1.cls ≠ "java/lang/invoke/VarHandle" ∧ mL y ≤ 45 ∧ mO y < 17 := by
  have h1 := List.all_eq_true.mp mt_ok _ (mI_mem h)
  have h2 := List.all_eq_true.mp mO_lt _ (mI_mem h)
  unfold chkM at h1
  obtain ⟨h1, a6⟩ := and3 h1
  obtain ⟨h1, a5⟩ := and3 h1
  obtain ⟨h1, a4⟩ := and3 h1
  obtain ⟨h1, a3⟩ := and3 h1
  obtain ⟨a1, a2⟩ := and3 h1
  exact ⟨of_decide_eq_true a1, a2, memT_iff.mp a3, of_decide_eq_true a4, of_decide_eq_true a5, of_decide_eq_true a6, of_decide_eq_true h2⟩
theorem tM_word {y q kd y' n : Nat} (h : lk tMl (pk y q) = some (kd, y', n)) : y' < nM ∧ chkI (pk y q, kd, y', n) = true ∧ (isNest (pk y q, kd, y', n) = false → lkW (pk y q, kd, y', n) ∈ gtl) ∧ (pk y q, kd, y', n) ∈ tMl ∧ pk y q / 2000 = mO y ∧ pk y q % 2000 = q := by
  have hm := lk_mem h
  have h1 := List.all_eq_true.mp tM_ok _ hm
  have h2 := List.all_eq_true.mp tM_lt _ hm
  have hne : (pk y q != 0) = true := by
    unfold chkI at h1
    obtain ⟨h1, -⟩ := and3 h1
    exact (and3 h1).1
  refine ⟨of_decide_eq_true h2, h1, fun hn => ?_, hm, pk_eq0 hne⟩
  exact subl_mem lkW_ok _ (List.mem_map.mpr ⟨_, List.mem_filter.mpr ⟨hm, by rw [hn]; rfl⟩, rfl⟩)
theorem st_word {y : Nat} (h : stl.contains y = true) : Cond.static (mI y).1 ∈ gtl := subl_mem stl_ok _ (List.mem_map.mpr ⟨y, List.contains_iff_mem.mp h, rfl⟩)
theorem in_word {y : Nat} (h : inl.contains y = true) : Cond.instanceMethod (mI y).1 ∈ gtl := subl_mem inl_ok _ (List.mem_map.mpr ⟨y, List.contains_iff_mem.mp h, rfl⟩)
theorem se_word {y : Nat} (h : sel.contains y = true) : Cond.selects (mI y).1.cls (mI y).1 (mI y).1 ∈ gtl := subl_mem sel_ok _ (List.mem_map.mpr ⟨y, List.contains_iff_mem.mp h, rfl⟩)
def PcD (G : Wd) (as : List Value) (nx : Nat) (M : Mem) : Array Value → State → Prop := va_Pc (as.map (cv G)) (fun U => HN G nx M U.heap ∧ OM G M ∧ KW G U U.heap)
def QcD (G : Wd) (r : Option Value) (nx' : Nat) (M' : Mem) : Array Value → State → Outcome → State → Prop := fun _ st oc t => oc = .returned (r.map (cv G)) ∧ HN G nx' M' t.heap ∧ OM G M' ∧ va_F (AR G) st t
/-- what a method does at depth d, over the machine -/
def SD (l : Launch) (d : Nat) : Prop := ∀ (y : Nat) (as : List Value) (nx : Nat) (M : Mem) (r : Option Value) (nx' : Nat) (M' : Mem), y < nM → ev d y as nx M = some (r, nx', M') → ∀ G : Wd, Met l (mI y).1 (wsM y) (rmD d (nx' - nx) (SLn nx' - SLn nx)) (PcD G as nx M) (QcD G r nx' M') (nx' - nx) (SLn nx' - SLn nx) (AR G)
theorem PcD_blind {G : Wd} {as : List Value} {nx : Nat} {M : Mem} : FrameBlind (PcD G as nx M) := fun a U g mk q => by
  obtain ⟨q0, q1, q2, q3⟩ := q
  exact ⟨q0, q1, q2, q3.same rfl⟩
section SND6
variable {p : Program} {l : Launch} {e : Env} {R : Room} {s : State} {m : MethodId} {args : Array Value} {below : List Frame} {meth : Method} {c : Code} {Q : State → Prop} {G : Wd} {y nx0 nxE d : Nat} {pc nx : Nat} {ls : Lcl} {st : List Value} {M M' : Mem} {f' : Fr}
/-- behind a call -/
theorem call_go {H : Heap} {locs : List Loc} {lsC : Array Slot} {rest : List Value} {stC : List Value} {r : Option Value} {nx' : Nat} {a : Array Value} (hr : va_Run p l e R s m args below meth c H locs (nx - nx0) (SLn nx - SLn nx0) (nx' - nx) (SLn nx' - SLn nx) (F0 m pc lsC stC) (rest.map (cv G)) (QcD G r nx' M' a) (AR G)) (hs : va_S (AR G) s.heap H locs) (hx : nx0 ≤ nx) (hm : nx ≤ nx') (hl : LH G lsC (mL y) ls) (k : GW p l e R s m args below meth c Q G y nx0 (pc + 3, ls, r.toList ++ rest, nx', M')) : W p l e R s m args below meth c H locs (nx - nx0) (SLn nx - SLn nx0) Q (F0 m pc lsC stC) := by
  intro T hT X
  obtain ⟨v, st₀, t, T', L, h0, X', hL, e1, e2, ⟨hv, hn', ho', hF⟩, st⟩ := hr T hT X
  cases Outcome.returned.inj hv
  have hz := hF.1
  have hk := hF.2
  rw [h0] at hz hk
  have h1 := SLn_le hx
  have h2 := SLn_le hm
  rw [show nx - nx0 + (nx' - nx) = nx' - nx0 by omega, show SLn nx - SLn nx0 + (SLn nx' - SLn nx) = SLn nx' - SLn nx0 by omega] at X'
  obtain ⟨t2, a1, b1⟩ := k lsC T'.heap (locs ++ L) hl (by rw [e1]; exact hn') ho' ⟨Nat.le_trans hs.1 (by rw [e1]; exact hz), fun q g1 g2 => by rw [e1, hk q (Nat.lt_of_lt_of_le g1 hs.1) g2]; exact hs.2.1 q g1 g2, fun q hq => by
      rcases List.mem_append.mp hq with h | h
      · exact hs.2.2 q h
      · exact hL q h⟩ (Nat.le_trans hx hm) T' rfl X'
  refine ⟨t2, st t2 ?_, b1⟩
  have e3 : (r.map (cv G)).toList ++ rest.map (cv G) = (r.toList ++ rest).map (cv G) := by cases r <;> simp
  rw [e3]
  exact a1
/-- before a call -/
theorem pre_call {H : Heap} {locs : List Loc} (C : CX p R s m args meth c G y nx0 nxE) (hn : HN G nx M H) (ho : OM G M) (hs : va_S (AR G) s.heap H locs) {as : List Value} : ∀ U : State, U.heap = H → s.WarmedH U.vm → PcD G as nx M (as.map (cv G)).toArray U := fun U hU hW => ⟨rfl, by rw [hU]; exact hn, ho, by rw [hU]; exact C.2.2.2.2.2.2.1.to hW hs.2.1⟩
theorem wt_sum (r : List Value) : ((r.map (cv G)).map fun v => v.category).sum = wt r := by
  induction r with
  | nil => rfl
  | cons v r ih =>
    show (cv G v).category + _ = _
    rw [wt, cat_cv]
    exact congrArg _ ih
theorem callE_eq {E : Hdl} {y' n : Nat} (h : callE E y' n pc ls st nx M = some (.inl f')) : ∃ r nx' M', E y' (st.take n).reverse nx M = some (r, nx', M') ∧ f' = (pc + 3, ls, r.toList ++ st.drop n, nx', M') := by
  unfold callE at h
  cases hE : E y' (st.take n).reverse nx M with
  | none => rw [hE] at h; cases h
  | some o =>
    obtain ⟨r, nx', M'⟩ := o
    rw [hE] at h
    exact ⟨r, nx', M', rfl, (Sum.inl.inj (Option.some.inj h)).symm⟩
/-- the room of a call -/
theorem room_call {r : Nat} (C : CX p R s m args meth c G y nx0 nxE) (hR : d + 2 ≤ R.frames ∧ 64 * d + 320 ≤ R.locals) {y' nx' : Nat} (hy : mL y' ≤ 45) (hx : nx0 ≤ nx) (hm : nx ≤ nx') (hE : nx' ≤ nxE) : ((rmD d (nx' - nx) (SLn nx' - SLn nx)).frames + 1 ≤ R.frames ∧ 8 + (mL y' + 11) + (rmD d (nx' - nx) (SLn nx' - SLn nx)).locals ≤ R.locals) ∧ (nx - nx0 + (nx' - nx) ≤ R.cells ∧ SLn nx - SLn nx0 + (SLn nx' - SLn nx) ≤ R.slots) := by
  obtain ⟨-, -, -, -, -, -, -, -, h1, h2, -⟩ := C
  have g1 := SLn_le hx
  have g2 := SLn_le hm
  have g3 := SLn_le hE
  unfold rmD
  dsimp only
  refine ⟨⟨by omega, by omega⟩, by omega, by omega⟩
theorem stk_split {n : Nat} (h : n ≤ st.length) : st.map (cv G) = ((st.take n).reverse.map (cv G)).reverse ++ (st.drop n).map (cv G) := by
  rw [← List.map_reverse, List.reverse_reverse, ← List.map_append, List.take_append_drop]
theorem stk_splitV {n k : Nat} (h : st[n]? = some (.ref k)) : st.take (n + 1) = st.take n ++ [.ref k] := by
  rw [List.take_add_one, h]
  rfl
theorem recv_ok {H : Heap} {locs : List Loc} {k c' : Nat} (C : CX p R s m args meth c G y nx0 nxE) (hn : HN G nx M H) (hs : va_S (AR G) s.heap H locs) (h : okO nx k c' = true) (hc : c' < 17) : ∃ cell : Cell, H[ad G k]? = some cell ∧ cell.vm.isStatics = false ∧ s.vm.findClass (oS c') = some cell.cls := by
  have ht := okO_ok h
  have hKW := C.2.2.2.2.2.2.1
  unfold okO live at h
  obtain ⟨h, -⟩ := and3 h
  rcases Bool.or_eq_true _ _ ▸ h with h | h
  · have hk := of_decide_eq_true h
    have h9 := List.all_eq_true.mp sh_cls k (List.mem_range.mpr (Nat.lt_of_lt_of_le hk hn.2.1))
    have h9 : (sh k).1 < 9 := by
      rcases Bool.or_eq_true _ _ ▸ h9 with z | z
      · exact of_decide_eq_true z
      · have := of_decide_eq_true z; omega
    obtain ⟨cell, q1, q2, q3, -⟩ := hn.obj hk (by omega)
    rw [← ad_new hn.2.1 hk] at q1
    refine ⟨cell, q1, by rw [q3]; rfl, ?_⟩
    rw [q2, ht, ← (cls_own (c' := c') (by omega)).1]
    exact (hKW.1.1 c' _ (cls_get (by omega))).2.1
  · obtain ⟨a1, a2⟩ := and3 h
    rcases old_cases ⟨of_decide_eq_true a1, of_decide_eq_true a2⟩ with rfl | rfl | rfl | rfl | rfl
    · exact absurd (show (100 : Nat) = c' from ht) (by omega)
    · have e : (12 : Nat) = c' := ht
      subst e
      exact vk_recv hKW.2.2.2.2.1 (i := 0) (by decide) hs
    · exact absurd (show (101 : Nat) = c' from ht) (by omega)
    · have e : (12 : Nat) = c' := ht
      subst e
      exact vk_recv hKW.2.2.2.2.1 (i := 1) (by decide) hs
    · exact absurd (show (101 : Nat) = c' from ht) (by omega)
theorem nP_ok {y' n : Nat} (h : decide (nP y' = some n) = true) : (parseMethodDescriptor (mI y').1.desc).map (fun d => d.parameters.length) = some n := of_decide_eq_true h
/-- a static call -/
theorem s_callS {q y' n : Nat} (hSD : SD l d) (hR : d + 2 ≤ R.frames ∧ 64 * d + 320 ≤ R.locals) (C : CX p R s m args meth c G y nx0 nxE) (hd : decode (mB y) pc = .ok (.invokestatic q, 3)) (hq : lk tMl (pk y q) = some (0, y', n)) (hg : (decide (n ≤ st.length) && decide (wt (st.drop n) ≤ 8)) = true) (h : callE (ev d) y' n pc ls st nx M = some (.inl f')) (hmo : nx ≤ f'.2.2.2.1) (hE : f'.2.2.2.1 ≤ nxE) (k : GW p l e R s m args below meth c Q G y nx0 f') : GW p l e R s m args below meth c Q G y nx0 (pc, ls, st, nx, M) := by
  obtain ⟨r, nx', M', hev, rfl⟩ := callE_eq h
  obtain ⟨hy', hck, hlw, hmem, o1, o2⟩ := tM_word hq
  obtain ⟨c1, c2, c3, c4, c5, c6, c7⟩ := mt_word hy'
  obtain ⟨g1, g2⟩ := and3 hg
  have g1 := of_decide_eq_true g1
  have g2 := of_decide_eq_true g2
  unfold chkI at hck
  obtain ⟨-, hck⟩ := and3 hck
  obtain ⟨k1, k2⟩ := and3 hck
  have hlink : Cond.methodLink (oS (mO y)) q (mI y').1 ∈ gtl := by
    have := hlw rfl
    unfold lkW at this
    dsimp only at this
    rw [o1, o2] at this
    exact this
  intro lsC H locs hl hn ho hs hx
  obtain ⟨rm1, rm2⟩ := room_call (r := 0) C hR c6 hx hmo hE
  have hM := hSD y' _ nx M r nx' M' hy' hev G
  have cw := va_cwS (R := R) (s := s) (args := args) (own := oS (mO y)) (index := q) (Ts := gtl) (ws' := gtl) n C.2.2.2.2.1 (goodIn_gtl (fun w hw => by
    unfold va_wsS at hw
    rcases List.mem_append.mp hw with hw | hw
    · rcases List.mem_cons.mp hw with rfl | hw
      · exact hlink
      · rcases List.mem_cons.mp hw with rfl | hw
        · exact st_word k1
        · rcases List.mem_cons.mp hw with rfl | hw
          · exact c3
          · cases hw
    · exact wsM_gtl hy' w hw)) rfl rfl rfl ⟨c4, c5, nP_ok k2⟩ rm1
  refine call_go (rest := st.drop n) (va_runS ⟨C.1, C.2.1, C.2.2.1, C.2.2.2.1, C.2.2.2.2.1⟩ hM cw ⟨PcD_blind, pre_call C hn ho hs⟩ rfl (by rw [List.length_map, List.length_reverse, List.length_take]; omega) hl.1 (stk_split g1) ?_ hd rm2) hs hx hmo hl k
  exact lv_room (by rw [wt_sum]; exact g2)
theorem s_callSN {q y' n : Nat} (hSD : SD l d) (hR : d + 2 ≤ R.frames ∧ 64 * d + 320 ≤ R.locals) (C : CX p R s m args meth c G y nx0 nxE) (hd : decode (mB y) pc = .ok (.invokestatic q, 3)) (hq : lk tMl (pk y q) = some (10, y', n)) (hg : (decide (n ≤ st.length) && decide (wt (st.drop n) ≤ 8)) = true) (h : callE (ev d) y' n pc ls st nx M = some (.inl f')) (hmo : nx ≤ f'.2.2.2.1) (hE : f'.2.2.2.1 ≤ nxE) (k : GW p l e R s m args below meth c Q G y nx0 f') : GW p l e R s m args below meth c Q G y nx0 (pc, ls, st, nx, M) := by
  obtain ⟨r, nx', M', hev, rfl⟩ := callE_eq h
  obtain ⟨hy', hck, hlw, hmem, o1, o2⟩ := tM_word hq
  obtain ⟨c1, c2, c3, c4, c5, c6, c7⟩ := mt_word hy'
  obtain ⟨g1, g2⟩ := and3 hg
  have g1 := of_decide_eq_true g1
  have g2 := of_decide_eq_true g2
  unfold chkI at hck
  obtain ⟨-, hck⟩ := and3 hck
  obtain ⟨k1, k2⟩ := and3 hck
  have hlink : va_Nw (.methodLinkNest (oS (mO y)) q (mI y').1 "ScaffoldReasons") s := by
    have := C.2.2.2.2.2.2.1.2.2.2.2.2.2.2.2.2.2.2 _ hmem rfl
    unfold lkW at this
    dsimp only at this
    rw [o1, o2] at this
    exact this
  intro lsC H locs hl hn ho hs hx
  obtain ⟨rm1, rm2⟩ := room_call (r := 0) C hR c6 hx hmo hE
  have hM := hSD y' _ nx M r nx' M' hy' hev G
  have cw := va_cnB (R := R) (s := s) (args := args) (own := oS (mO y)) (index := q) (Ts := gtl) (ws' := gtl) n C.2.2.2.2.1 (goodIn_gtl (wsM_gtl hy')) rfl rfl rfl hlink (C.2.2.2.2.1 _ c3) ⟨c4, c5, nP_ok k2⟩ rm1
  refine call_go (rest := st.drop n) (va_runSN ⟨C.1, C.2.1, C.2.2.1, C.2.2.2.1, C.2.2.2.2.1⟩ hM ⟨cw, C.2.2.2.2.1 _ (st_word k1), trivial⟩ ⟨PcD_blind, pre_call C hn ho hs⟩ rfl (by rw [List.length_map, List.length_reverse, List.length_take]; omega) hl.1 (stk_split g1) ?_ hd rm2) hs hx hmo hl k
  exact lv_room (by rw [wt_sum]; exact g2)
theorem recv_eq {n c' : Nat} (h : recv nx c' n st = true) : ∃ k, st[n]? = some (.ref k) ∧ okO nx k c' = true := by
  unfold recv at h
  split at h
  · rename_i k hk
    exact ⟨k, hk, h⟩
  · cases h
/-- a call of an object -/
theorem s_callV {q y' n : Nat} (hSD : SD l d) (hR : d + 2 ≤ R.frames ∧ 64 * d + 320 ≤ R.locals) (C : CX p R s m args meth c G y nx0 nxE) (hd : decode (mB y) pc = .ok (.invokevirtual q, 3)) (hq : lk tMl (pk y q) = some (1, y', n)) (hg : (decide (n + 1 ≤ st.length) && decide (wt (st.drop (n + 1)) ≤ 8) && recv nx (mO y') n st) = true) (h : callE (ev d) y' (n + 1) pc ls st nx M = some (.inl f')) (hmo : nx ≤ f'.2.2.2.1) (hE : f'.2.2.2.1 ≤ nxE) (k : GW p l e R s m args below meth c Q G y nx0 f') : GW p l e R s m args below meth c Q G y nx0 (pc, ls, st, nx, M) := by
  obtain ⟨r, nx', M', hev, rfl⟩ := callE_eq h
  obtain ⟨hy', hck, hlw, hmem, o1, o2⟩ := tM_word hq
  obtain ⟨c1, c2, c3, c4, c5, c6, c7⟩ := mt_word hy'
  obtain ⟨hg, g3⟩ := and3 hg
  obtain ⟨g1, g2⟩ := and3 hg
  have g1 := of_decide_eq_true g1
  have g2 := of_decide_eq_true g2
  obtain ⟨b, g4, g5⟩ := recv_eq g3
  unfold chkI at hck
  obtain ⟨-, hck⟩ := and3 hck
  obtain ⟨hck, k2⟩ := and3 hck
  obtain ⟨k1, k3⟩ := and3 hck
  have hlink : Cond.methodLink (oS (mO y)) q (mI y').1 ∈ gtl := by
    have := hlw rfl
    unfold lkW at this
    dsimp only at this
    rw [o1, o2] at this
    exact this
  have hsp := stk_splitV g4
  intro lsC H locs hl hn ho hs hx
  obtain ⟨rm1, rm2⟩ := room_call (r := 0) C hR c6 hx hmo hE
  have hM := hSD y' _ nx M r nx' M' hy' hev G
  have cw := cwV (R := R) (s := s) (args := args) (own := oS (mO y)) (C := (mI y').1.cls) (index := q) (Ts := gtl) (ws' := gtl) n C.2.2.2.2.1 (goodIn_gtl (fun w hw => by
    unfold wsV at hw
    rcases List.mem_append.mp hw with hw | hw
    · rcases List.mem_cons.mp hw with rfl | hw
      · exact hlink
      · rcases List.mem_cons.mp hw with rfl | hw
        · exact in_word k1
        · rcases List.mem_cons.mp hw with rfl | hw
          · exact se_word k3
          · rcases List.mem_cons.mp hw with rfl | hw
            · exact c3
            · cases hw
    · exact wsM_gtl hy' w hw)) rfl rfl rfl ⟨rfl, c4, c5, nP_ok k2⟩ rm1
  have hargs : (st.take (n + 1)).reverse.map (cv G) = .ref (ad G b) :: (st.take n).reverse.map (cv G) := by
    rw [hsp, List.reverse_append]
    rfl
  have hrc := recv_ok C hn hs g5 c7
  rw [← c1] at hrc
  have hpre := pre_call (as := (st.take (n + 1)).reverse) C hn ho hs
  rw [hargs] at hpre
  refine call_go (rest := st.drop (n + 1)) (va_runV (b := ad G b) (As := (st.take n).reverse.map (cv G)) ⟨C.1, C.2.1, C.2.2.1, C.2.2.2.1, C.2.2.2.2.1⟩ hM cw ⟨PcD_blind, hrc, hpre⟩ rfl (by rw [List.length_map, List.length_reverse, List.length_take]; omega) hl.1 ?_ ?_ hd rm2) hs hx hmo hl k
  · show st.map (cv G) = _
    rw [stk_split g1, hsp, List.reverse_append, ← List.map_reverse, List.reverse_append, List.reverse_reverse, ← List.map_reverse, List.reverse_reverse]
    simp [cv]
  · exact lv_room (by rw [wt_sum]; exact g2)
theorem s_callI {q y' n : Nat} (hSD : SD l d) (hR : d + 2 ≤ R.frames ∧ 64 * d + 320 ≤ R.locals) (C : CX p R s m args meth c G y nx0 nxE) (hd : decode (mB y) pc = .ok (.invokespecial q, 3)) (hq : lk tMl (pk y q) = some (2, y', n) ∨ lk tMl (pk y q) = some (12, y', n)) (hg : (decide (n + 1 ≤ st.length) && decide (wt (st.drop (n + 1)) ≤ 8) && recv nx (mO y') n st) = true) (h : callE (ev d) y' (n + 1) pc ls st nx M = some (.inl f')) (hmo : nx ≤ f'.2.2.2.1) (hE : f'.2.2.2.1 ≤ nxE) (k : GW p l e R s m args below meth c Q G y nx0 f') : GW p l e R s m args below meth c Q G y nx0 (pc, ls, st, nx, M) := by
  obtain ⟨r, nx', M', hev, rfl⟩ := callE_eq h
  obtain ⟨hg, g3⟩ := and3 hg
  obtain ⟨g1, g2⟩ := and3 hg
  have g1 := of_decide_eq_true g1
  have g2 := of_decide_eq_true g2
  obtain ⟨b, g4, g5⟩ := recv_eq g3
  have hsp := stk_splitV g4
  have hargs : (st.take (n + 1)).reverse.map (cv G) = .ref (ad G b) :: (st.take n).reverse.map (cv G) := by
    rw [hsp, List.reverse_append]
    rfl
  have hstk : st.map (cv G) = ((st.take n).reverse.map (cv G)).reverse ++ .ref (ad G b) :: (st.drop (n + 1)).map (cv G) := by
    rw [stk_split g1, hsp, List.reverse_append, ← List.map_reverse, List.reverse_append, List.reverse_reverse, ← List.map_reverse, List.reverse_reverse]
    simp [cv]
  intro lsC H locs hl hn ho hs hx
  have hpre := pre_call (as := (st.take (n + 1)).reverse) C hn ho hs
  rw [hargs] at hpre
  rcases hq with hq | hq
  · obtain ⟨hy', hck, hlw, hmem, o1, o2⟩ := tM_word hq
    obtain ⟨c1, c2, c3, c4, c5, c6, c7⟩ := mt_word hy'
    unfold chkI at hck
    obtain ⟨-, hck⟩ := and3 hck
    obtain ⟨hck, k2⟩ := and3 hck
    obtain ⟨hck, k4⟩ := and3 hck
    obtain ⟨k1, k3⟩ := and3 hck
    have k3 := of_decide_eq_true k3
    have k4 := of_decide_eq_true k4
    have hlink : Cond.methodLink (oS (mO y)) q (mI y').1 ∈ gtl := by
      have := hlw rfl
      unfold lkW at this
      dsimp only at this
      rw [o1, o2] at this
      exact this
    obtain ⟨rm1, rm2⟩ := room_call (r := 0) C hR c6 hx hmo hE
    have hM := hSD y' _ nx M r nx' M' hy' hev G
    have cw := cwI (R := R) (s := s) (args := args) (own := oS (mO y)) (index := q) (Ts := gtl) (bytes := mB y') (maxL := mL y') (ws' := gtl) n C.2.2.2.2.1 (goodIn_gtl (wsM_gtl hy')) (by unfold wsM; rw [show mR y' = none from k4]) rfl rfl (C.2.2.2.2.1 _ c3) (C.2.2.2.2.1 _ hlink) (C.2.2.2.2.1 _ (in_word k1)) k3 ⟨c4, c5, nP_ok k2⟩ rm1
    exact call_go (rest := st.drop (n + 1)) (va_runI (b := ad G b) (As := (st.take n).reverse.map (cv G)) ⟨C.1, C.2.1, C.2.2.1, C.2.2.2.1, C.2.2.2.2.1⟩ hM cw ⟨PcD_blind, hpre⟩ rfl (by rw [List.length_map, List.length_reverse, List.length_take]; omega) hl.1 hstk (lv_room (by rw [wt_sum]; exact g2)) hd rm2) hs hx hmo hl k
  · obtain ⟨hy', hck, hlw, hmem, o1, o2⟩ := tM_word hq
    obtain ⟨c1, c2, c3, c4, c5, c6, c7⟩ := mt_word hy'
    unfold chkI at hck
    obtain ⟨-, hck⟩ := and3 hck
    obtain ⟨hck, k2⟩ := and3 hck
    obtain ⟨hck, k4⟩ := and3 hck
    obtain ⟨k1, k3⟩ := and3 hck
    have k3 := of_decide_eq_true k3
    have k4 := of_decide_eq_true k4
    have hlink : va_Nw (.methodLinkNest (oS (mO y)) q (mI y').1 "ScaffoldReasons") s := by
      have := C.2.2.2.2.2.2.1.2.2.2.2.2.2.2.2.2.2.2 _ hmem rfl
      unfold lkW at this
      dsimp only at this
      rw [o1, o2] at this
      exact this
    obtain ⟨rm1, rm2⟩ := room_call (r := 0) C hR c6 hx hmo hE
    have hM := hSD y' _ nx M r nx' M' hy' hev G
    have cw := va_cnB (R := R) (s := s) (args := args) (own := oS (mO y)) (index := q) (Ts := gtl) (bytes := mB y') (maxL := mL y') (ret := none) (ws := wsM y') (ws' := gtl) n C.2.2.2.2.1 (goodIn_gtl (wsM_gtl hy')) (by unfold wsM; rw [show mR y' = none from k4]) rfl rfl hlink (C.2.2.2.2.1 _ c3) ⟨c4, c5, nP_ok k2⟩ rm1
    exact call_go (rest := st.drop (n + 1)) (va_runIN (b := ad G b) (As := (st.take n).reverse.map (cv G)) ⟨C.1, C.2.1, C.2.2.1, C.2.2.2.1, C.2.2.2.2.1⟩ hM ⟨cw, k3, C.2.2.2.2.1 _ (in_word k1)⟩ ⟨PcD_blind, hpre⟩ rfl (by rw [List.length_map, List.length_reverse, List.length_take]; omega) hl.1 hstk (lv_room (by rw [wt_sum]; exact g2)) hd rm2) hs hx hmo hl k
end SND6

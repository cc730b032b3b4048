/-! THE LAW'S ENTRY: the world there, and what is left to show of the abstract machine -/
def M0 (L : Nat) (xs : Nat → Int32) : Mem := (fun k j => if k = 1000 then xs j else if k = 1002 then wordsB.getD j 0 else if k = 1004 then signsB.getD j 0 else 0, fun _ _ => 0, fun _ _ => none, L)
def trm (i : Nat) : Term := if i = 0 then .string (oS 3) 72 else .string (oS 3) 65
def lensT : List Nat := [139, 11]
def bytsT : List (List Int32) := [wordsB, signsB]
theorem st_ex : ∀ i, i < 2 → Cond.exactly (trm i) "java/lang/String" ∈ flatC (Jvm.Cond.and given_1 narrow_1) := by decide +kernel
theorem st_co : ∀ i, i < 2 → Cond.eq (.field (trm i) "java/lang/String" "coder" "B") (.int 0) ∈ flatC (Jvm.Cond.and given_1 narrow_1) := by decide +kernel
theorem st_ar : ∀ i, i < 2 → Cond.arrayOf (.field (trm i) "java/lang/String" "value" "[B") .byte ∈ flatC (Jvm.Cond.and given_1 narrow_1) := by decide +kernel
theorem st_le : ∀ i, i < 2 → Cond.eq (.length (.field (trm i) "java/lang/String" "value" "[B")) (.int (Int32.ofNat (lensT.getD i 0))) ∈ flatC (Jvm.Cond.and given_1 narrow_1) := by decide +kernel
theorem st_el0 : ∀ j, j < 139 → Cond.eq (.elem (.field (trm 0) "java/lang/String" "value" "[B") (.int (Int32.ofNat j))) (.int (wordsB.getD j 0)) ∈ flatC (Jvm.Cond.and given_1 narrow_1) := by decide +kernel
theorem st_el1 : ∀ j, j < 11 → Cond.eq (.elem (.field (trm 1) "java/lang/String" "value" "[B") (.int (Int32.ofNat j))) (.int (signsB.getD j 0)) ∈ flatC (Jvm.Cond.and given_1 narrow_1) := by decide +kernel
theorem st_ne : Cond.not (Cond.eq (trm 0) (trm 1)) ∈ flatC (Jvm.Cond.and given_1 narrow_1) ∨ Cond.not (Cond.eq (trm 1) (trm 0)) ∈ flatC (Jvm.Cond.and given_1 narrow_1) := by decide +kernel
theorem st_cs : Cond.eq (.static "java/lang/String" "COMPACT_STRINGS" "Z") (.int 1) ∈ flatC (Jvm.Cond.and given_1 narrow_1) := by decide +kernel
theorem st_fm : Cond.isRef (.static "jdk/internal/util/Preconditions" "SIOOBE_FORMATTER" "Ljava/util/function/BiFunction;") ∈ flatC (Jvm.Cond.and given_1 narrow_1) := by decide +kernel
theorem st_w : Cond.laysStatic "java/lang/String" "COMPACT_STRINGS" "Z" ∈ lw_tbl ∧ Cond.laysStatic "jdk/internal/util/Preconditions" "SIOOBE_FORMATTER" "Ljava/util/function/BiFunction;" ∈ lw_tbl ∧ Cond.initialized "java/lang/String" ∈ lw_tbl ∧ Cond.initialized "jdk/internal/util/Preconditions" ∈ lw_tbl ∧ Cond.stringRef (oS 3) 72 wordsT ∈ lw_tbl ∧ Cond.stringRef (oS 3) 65 signsT ∈ lw_tbl := by decide +kernel
theorem gtl_tbl {w : Cond} (h : w ∈ gtl) : w ∈ lw_tbl := (List.mem_filter.mp h).1
/-- the world at the law's entry -/
theorem world {s : State} {b L : Nat} {xs : Nat → Int32} (hL : L ≤ 3072) (hts : ∀ w ∈ lw_tbl, w.before #[Value.ref b] s = true) (hX : va_X b L xs s s.heap) (hbl : b < s.heap.size) (hgv : (Jvm.Cond.and given_1 narrow_1).before #[Value.ref b] s = true) : ∃ G : Wd, KW G s s.heap ∧ w_B G = s.heap.size ∧ w_S G = b ∧ w_L G = L ∧ w_X G = xs := by
  have hfl := flat_of_before _ hgv
  have h1 : ∀ c, ∃ q : ClassId × (Nat → Nat), c < 9 → u_Kn s (cls c).1 (cls c).2.1 (cls c).2.2 q.1 q.2 := by
    intro c
    by_cases h : c < 9
    · obtain ⟨cC, iS, hK⟩ := u_known (fun w hw => hts w (gtl_tbl hw)) (ws_word h) (hts _ (gtl_tbl (cls_own h).2.1))
      exact ⟨(cC, iS), fun _ => hK⟩
    · exact ⟨(0, fun _ => 0), fun z => absurd z h⟩
  obtain ⟨dD, hdD⟩ := Classical.axiomOfChoice h1
  obtain ⟨a3, ar4⟩ := and3 arr_ok
  obtain ⟨a2, ar3⟩ := and3 a3
  obtain ⟨ar1, ar2⟩ := and3 a2
  have arr : ∀ ty : FieldType, memT (.arrayClass ty) = true → ∃ cA, ArrOfT s cA ty ∧ s.vm.findClass ("[" ++ ty.toString) = some cA := by
    intro ty h
    obtain ⟨cA, kA, comp, f1, f2, f3⟩ := Cond.arrayClass_spec (hts _ (gtl_tbl (memT_iff.mp h)))
    exact ⟨cA, fun n z => ⟨(fun k h => by cases h), kA, f2, comp, f3⟩, f1⟩
  obtain ⟨c0, q0, n0⟩ := arr .int ar1
  obtain ⟨c1, q1, n1⟩ := arr .byte ar2
  obtain ⟨c2, q2, n2⟩ := arr .boolean ar3
  obtain ⟨c3, q3, n3⟩ := arr .long ar4
  obtain ⟨o4, o5⟩ := and3 over_ok
  have ov4 := hts _ (of_decide_eq_true o4)
  have ov5 := hts _ (of_decide_eq_true o5)
  have ovr : ∀ n : String, (Cond.arrayOver (.object n)).before #[Value.ref b] s = true → ∃ cA, ArrOfT s cA (.object n) ∧ va_RA s cA (.object n) := by
    intro n h
    obtain ⟨comp, cA, kA, f1, f2, f3, f4, f5⟩ := Cond.arrayOver_spec h
    exact ⟨cA, fun n z => ⟨(fun k h => by cases h), kA, f3, comp, f4⟩, kA, comp, f3, f4, f1, f5⟩
  obtain ⟨c4, q4, n4⟩ := ovr _ ov4
  obtain ⟨c5, q5, n5⟩ := ovr _ ov5
  have hA : ∀ a : Nat, a < s.heap.size → ¬ (fun q => s.heap.size ≤ q) a := fun a h z => Nat.lt_irrefl _ (Nat.lt_of_lt_of_le h z)
  have lt2 : ∀ i : Nat, i < 2 → i = 0 ∨ i = 1 := fun i h => by omega
  obtain ⟨adK, adV, hS, hT⟩ := vk_Sof (args := #[Value.ref b]) (s := s) (N := 2) (tm := trm) (len := lensT) (byt := bytsT) (A := fun q => s.heap.size ≤ q) (by decide) (fun i hi => hfl _ (st_ex i hi)) (fun i hi => hfl _ (st_co i hi)) (fun i hi => hfl _ (st_ar i hi)) (fun i hi => hfl _ (st_le i hi)) (fun i hi j hj => by
    rcases lt2 i hi with rfl | rfl
    · exact hfl _ (st_el0 j hj)
    · exact hfl _ (st_el1 j hj)) (fun i j hi hj hne => by
    have hne2 : (i = 0 ∧ j = 1) ∨ (i = 1 ∧ j = 0) := by omega
    rcases hne2 with ⟨rfl, rfl⟩ | ⟨rfl, rfl⟩
    · rcases st_ne with z | z
      · exact Or.inl (hfl _ z)
      · exact Or.inr (hfl _ z)
    · rcases st_ne with z | z
      · exact Or.inr (hfl _ z)
      · exact Or.inl (hfl _ z)) hA
  obtain ⟨w1, w2, w3, w4, w5, w6⟩ := st_w
  have cAf : Nat → ClassId := fun i => 0
  refine ⟨(fun c => (dD c).1, fun c => (dD c).2, fun i => if i = 0 then c0 else if i = 1 then c1 else if i = 2 then c2 else if i = 3 then c3 else if i = 4 then c4 else c5, s.heap.size, b, adK, adV, xs, L), ⟨⟨?_, ?_⟩, hX, hbl, by show L < 2 ^ 31; omega, hS, vk_R.of (hts _ w5) (hT 0 (by decide)), vk_R.of (hts _ w6) (hT 1 (by decide)), va_Zof (hts _ w1) (hts _ w3) (va_eqi (hfl _ st_cs)) hA, va_Zqof (hts _ w2) (hts _ w4) (hfl _ st_fm) hA, va_AO.of ov4, va_AO.of ov5, ?_⟩, rfl, rfl, rfl, rfl⟩
  · intro c q hq
    have hc : c < 9 := (List.getElem?_eq_some_iff.mp hq).1
    have e := (cls_get hc).symm.trans hq
    cases Option.some.inj e
    exact hdD c hc
  · intro k q hk
    have h6 : k < 6 := (List.getElem?_eq_some_iff.mp hk).1
    have h7 : k = 0 ∨ k = 1 ∨ k = 2 ∨ k = 3 ∨ k = 4 ∨ k = 5 := by omega
    rcases h7 with rfl | rfl | rfl | rfl | rfl | rfl
    · cases Option.some.inj hk; exact ⟨q0, n0⟩
    · cases Option.some.inj hk; exact ⟨q1, n1⟩
    · cases Option.some.inj hk; exact ⟨q2, n2⟩
    · cases Option.some.inj hk; exact ⟨q3, n3⟩
    · cases Option.some.inj hk; exact ⟨q4, n4⟩
    · cases Option.some.inj hk; exact ⟨q5, n5⟩
  · intro e he hn
    obtain ⟨a, i, x, hx⟩ := nest_form hn
    have hm : lkW e ∈ lw_tbl := subl_mem nest_ok _ (List.mem_map.mpr ⟨e, List.mem_filter.mpr ⟨he, hn⟩, rfl⟩)
    have := hts _ hm
    rw [hx] at this ⊢
    exact va_Nw.of rfl this
theorem law_y : mB m_Law_law = code ∧ mL m_Law_law = 4 ∧ oS (mO m_Law_law) = "ScaffoldReasonsLaw" ∧ mR m_Law_law = some .boolean ∧ isInit m_Law_law = false := ⟨rfl, by decide +kernel, by decide +kernel, by decide +kernel, by decide +kernel⟩
theorem slots_ok : SLn NX ≤ 7302250 := by decide +kernel
/-- WHAT IS LEFT TO SHOW: on every script the law answers 1 in the abstract machine -/
def LawRuns : Prop := ∀ (L : Nat) (xs : Nat → Int32), L ≤ 3072 → ∃ M' : Mem, run (ev 100) m_Law_law 0 [some (.ref 1000), none, none, none] [] 0 (M0 L xs) = some (some (.int 1), NX, M')
/-! THE CLAIM OUT OF ONE WALK OF THE LAW'S BODY. Your part is whole_start (and what it stands on); all else here is the same for every law, but numbers. -/
def R_law : String := "ScaffoldReasonsLaw"
def lw_P (b : Addr) (xs : List Int32) (args : Array Value) (s : State) : Prop := args = #[.ref b] ∧ s.IntsAt b xs ∧ xs.length ≤ 3072 ∧ (Jvm.Cond.and given_1 narrow_1).before args s = true
def lw_Q (_ : Array Value) (s : State) (o : Outcome) (t : State) : Prop := o = .returned (some (.int 1)) ∧ Framed s o t [] 600000 7302250
def lw_Z (below : List Frame) (a : Array Value) (s : State) : State → Prop := fun t => ∃ o, t.status = .running ∧ Ended t below o ∧ lw_Q a s o t
/-- the law's own end, with 1 on the stack, nothing written that was there before, its room as the claim has it -/
theorem lw_ret {p : Program} {l : Launch} {e : Env} {s : State} {m : MethodId} {below : List Frame} {meth : Method} {c : Code} {b : Nat} (hx : p.tables.exec = Jvm.exec) (hb : c.code = code) (hr : meth.sig.returnType = ret) (hlocks : meth.locks = false) {pc : Nat} {H : Heap} {ls : Array Slot} (hdg : decode code pc = .ok (.ireturn, 1)) : W p l e room_1 s m #[Value.ref b] below meth c H [] 600000 7302250 (lw_Z below #[Value.ref b] s) (F0 m pc ls [.int 1]) := by
  intro T hT X
  obtain ⟨fs, hret, hrun, hended, hW, hframe⟩ := X.leave (v := some (.int 1)) (hlocks := hlocks) (fun h => by rw [hr] at h; cases h)
  have hmeth' : T.vm.method? m = some meth := X.method'
  refine ⟨T.setFrames fs, ?_, .returned (some (.int 1)), hrun, hended, rfl, ⟨_, rfl⟩, hW, hframe⟩
  jvm_step X.here [X.here.top, hx, hb, hdg, hmeth', hr, ret, narrow_b1]
  (try refine ⟨rfl, ?_⟩); (try refine ⟨rfl, ?_⟩)
  first | (intro acts; rw [hret _ acts rfl rfl rfl]) | rw [hret _ _ rfl rfl rfl]
  exact Steps.refl _
/-- what holds at the law's entry: the machine, the code, the tables' words (any of lw_tbl by 'hts w (by decide +kernel)'), the script of L ints xs at the cell b, what the Statement gives of the start (any of its parts by flat_of_before) -/
def lw_At (p : Program) (s : State) (m : MethodId) (meth : Method) (c : Code) (b L : Nat) (xs : Nat → Int32) : Prop :=
  p.tables.exec = Jvm.exec ∧ c.code = code ∧ meth.sig.returnType = ret ∧ c.maxLocals = 4 ∧ s.vm.findClass R_law = some m.cls ∧ (∀ w ∈ lw_tbl, w.before #[Value.ref b] s = true) ∧ va_X b L xs s s.heap ∧ b < s.heap.size ∧ meth.locks = false ∧ (Jvm.Cond.and given_1 narrow_1).before #[Value.ref b] s = true
theorem whole_start (hLR : LawRuns) {p : Program} {e : Env} {s : State} {m : MethodId} {below : List Frame} {meth : Method} {c : Code} (l : Launch) {b L : Nat} {xs : Nat → Int32} (hL : L ≤ 3072) (C0 : lw_At p s m meth c b L xs) : W p l e room_1 s m #[Value.ref b] below meth c s.heap [] 0 0 (lw_Z below #[Value.ref b] s) (entryFrame m ([Value.ref b] : List Value).toArray 4) := by
  obtain ⟨hx, hb, hr, hml, hown, hts, hX, hbl, hlocks, hgv⟩ := C0
  obtain ⟨G, hK, eB, eS, eL, eX⟩ := world hL hts hX hbl hgv
  obtain ⟨M', hrun⟩ := hLR L xs hL
  obtain ⟨n, hn⟩ := runF_some.mp hrun
  obtain ⟨y1, y2, y3, y4, y5⟩ := law_y
  have C : CX p room_1 s m #[Value.ref b] meth c G m_Law_law 0 NX := ⟨hx, hb.trans y1.symm, hml.trans y2.symm, by rw [y3]; exact hown, fun w hw => hts w (gtl_tbl hw), (fun h => by rw [y5] at h; cases h), hK, by rw [eB]; exact Nat.le_refl _, by decide, Nat.le_trans (Nat.sub_le _ _) slots_ok, by decide, by decide⟩
  have had : cv G (.ref 1000) = .ref b := by show Value.ref (ad G 1000) = _; unfold ad; rw [if_neg (by decide), if_pos rfl, eS]
  have hmap : [Value.ref 1000].map (cv G) = [Value.ref b] := by rw [List.map_cons, had]; rfl
  have hent : entry m_Law_law [.ref 1000] = [some (.ref 1000), none, none, none] := by unfold entry; rw [y2]; rfl
  have hl := LH_entry (G := G) (y := m_Law_law) (as := [.ref 1000]) (by rw [y2]; decide)
  rw [hmap, hent, y2] at hl
  rw [lg_entry_eq]
  have hN : HN G 0 (M0 L xs) s.heap := ⟨by rw [eB]; rfl, Nat.zero_le _, fun k hk => absurd hk (Nat.not_lt_zero _)⟩
  have hO : OM G (M0 L xs) := ⟨by rw [eL]; rfl, fun j _ => by rw [eX]; rfl, fun j _ => rfl, fun j _ => rfl⟩
  have key := exN_sound (p := p) (l := l) (e := e) (below := below) (Q := lw_Z below #[Value.ref b] s) (SD_all l 100) (ev_mono 100) ⟨by decide, by decide⟩ C n _ _ hn rfl (fun i pc lsC H locs hd hret hn' ho' hs hx' => by
    rcases hret with ⟨rfl, x, hv, hrk⟩ | ⟨rfl, x, hv, hrk⟩ | ⟨rfl, hv, hrk⟩ | ⟨rfl, hv, hrk⟩
    · refine va_forget (fun q hq => by have h9 := hs.2.2 q hq; unfold AR at h9; rw [eB] at h9; exact h9) (W.widen (k := 600000) (n := 7302250) (show NX - 0 ≤ 600000 by decide) (Nat.le_trans (Nat.sub_le _ _) slots_ok) ?_)
      rw [y1] at hd
      exact lw_ret hx hb hr hlocks hd
    · cases hv
    · rcases hv with hv | ⟨a, hv⟩ <;> cases hv
    · cases hv) _ s.heap [] (by rw [y2]; exact hl) hN hO va_S.rf (Nat.le_refl _)
  exact key
set_option maxHeartbeats 4000000 in
theorem lw_walk (hLR : LawRuns) (l : Launch) (hflags : l.flags = flags0) (b : Addr) (xs : List Int32) : MetFree l x (headSpec (Jvm.Cond.code x code maxLocals ret :: tables_1) room_1) (lw_P b xs) (fun _ _ _ _ _ => True) lw_Q := by
  refine MetFree.of_bodyS (code := code) (maxLocals := maxLocals) (ret := ret) (by decide) ?_ ?_
  · intro args s m h hn
    obtain ⟨meth, c, h1, h2, h3, h4, h5, h6, -, -⟩ := Cond.code_spec hn (atoms_spec (ws := Jvm.Cond.code x code maxLocals ret :: tables_1) h _ List.mem_cons_self)
    exact ⟨meth, c, h1, h2, h3, h4, h5, h6⟩
  · intro p e s m args below meth c s₁ B hml0 hP _
    obtain ⟨rfl, hx, hbd, hgv⟩ := hP
    obtain ⟨scr, harrAt, hlist, hof, hsmall⟩ := hx
    obtain ⟨hcb, hkn, -, -⟩ := State.arrayAt?_spec harrAt
    have hown : s.vm.findClass R_law = some m.cls := findClass_of_methodNamed B.named
    have hts0 : ∀ c ∈ (Jvm.Cond.code x code maxLocals ret :: tables_1), c.before #[Value.ref b] s = true := atoms_spec (ws := Jvm.Cond.code x code maxLocals ret :: tables_1) B.pre
    have hts : ∀ w ∈ lw_tbl, w.before #[Value.ref b] s = true := k2_hts_sels lw_privs (fun w hw => hts0 w (List.mem_cons_of_mem _ hw)) lw_privs_ok
    have hml : c.maxLocals = 4 := B.maxLocals_eq (hts0 _ List.mem_cons_self)
    have X₀ : Stand p l e room_1 s m #[Value.ref b] below meth c s₁ [] 0 0 := Stand.of_body B
    have hh0 : s₁.heap = s.heap := by rw [B.state]; rfl
    have hsz : scr.slots.size = xs.length := by rw [← Array.length_toList, hlist, List.length_map]
    have hval : ∀ j : Nat, j < xs.length → scr.slots[j]? = some (.int (xs.getD j 0)) := fun j hj => by
      rw [← Array.getElem?_toList, hlist]
      simp [hj]
    have hbl : b < s.heap.size := (Array.getElem?_eq_some_iff.mp hcb).1
    have hX : va_X b xs.length (fun j => xs.getD j 0) s s.heap := ⟨scr, hcb, hof, hkn, hsz, hval⟩
    have K : W p l e room_1 s m #[Value.ref b] below meth c s₁.heap [] 0 0 (lw_Z below #[Value.ref b] s) (entryFrame m ([Value.ref b] : List Value).toArray 4) := by
      rw [hh0]
      exact whole_start hLR l hbd ⟨B.exec, B.bytes, B.returns, hml, hown, hts, hX, hbl, B.notSynchronized, hgv⟩
    obtain ⟨t, a1, o, b1, b2, b3⟩ := K s₁ rfl X₀
    exact ⟨t, o, a1, b1, b2, b3⟩
theorem lw_pre_spec {args : Array Value} {s : State} (h : (Jvm.Cond.and given_1 narrow_1).before args s = true) (hr : rest_1_c.before args s = true) : ∃ (b : Addr) (xs : List Int32), lw_P b xs args s := by
  have hs := flat_of_before _ h
  have hq := flat_of_before _ hr
  have hc : (Cond.count 1).before args s = true := hs _ (by decide +kernel)
  have harr : (Cond.arrayOf (.arg 0) .int).before args s = true := hs _ (by decide +kernel)
  have hle : (Cond.le (.length (.arg 0)) (.int 3072)).before args s = true := hs _ (by decide +kernel)
  have hlen : (Cond.isInt (.length (.arg 0))).before args s = true := hq _ (by decide +kernel)
  have hall : (Cond.all (.arg 0) (.isInt (.elem (.arg 0) (.index 0)))).before args s = true := hq _ (by decide +kernel)
  obtain ⟨b, xs, hb, hx⟩ := State.ints_of_pre rfl harr hlen hall
  have hsm : xs.length < 2 ^ 31 := hx.choose_spec.2.2.2
  have hev : (Term.length (.arg 0)).eval args s none [] s = some (.int xs.length.toInt32) := hx.length_eval hb
  have hv := Cond.le_ints hev (show (Term.int 3072).eval args s none [] s = some (.int 3072) from rfl)
  have hd : xs.length.toInt32 ≤ 3072 := by
    simpa [Cond.before, Cond.holds, hv] using hle
  have hN : xs.length ≤ 3072 := (Int32.ofNat_le_ofNat hsm (by decide)).mp (show Int32.ofNat xs.length ≤ Int32.ofNat 3072 from hd)
  exact ⟨b, xs, Cond.one_arg hc (show args[0]? = some (.ref b) from hb), hx, hN, h⟩
theorem lw_comes (hLR : LawRuns) (l : Launch) (hflags : l.flags = flags0) : Comes l x (Jvm.Cond.code x code maxLocals ret :: tables_1) room_1 (fun tb e args s => Calls_1 tb e args s ∧ rest_1 tb e args s ∧ Pre_1 tb e args s)
    (fun _ _ args s o t => lw_Q args s o t) := by
  intro p e ha hc hk s m args below hf hfit hheap happ hpre
  obtain ⟨b, xs, hP⟩ := lw_pre_spec hpre.2.2 hpre.2.1
  obtain ⟨k, o, h1, h2, h3, hQ⟩ := lw_walk hLR l hflags b xs p e ha hc hk s m args below hf ((Spec.applies_iff_loose hf).mp happ).1 hP trivial
  exact ⟨k, o, h1, h2, h3, hQ⟩
theorem lw_frame {s t : State} {o : Outcome} {args : Array Value} (h : Framed s o t [] 600000 7302250) :
    Framed s o t (fieldLocs frame_1_writes args s ++ arrayLocs frame_1_arrays args s ++ staticLocs frame_1_statics s) 600000 7302250 := h
theorem lw_limb (hLR : LawRuns) (L : Cond) (hL : ∀ (args : Array Value) (s t : State), L.after args s (.returned (some (.int 1))) t = true) :
    ArmFor flags0 classFile x code maxLocals ret World_1 tables_1 room_1 Calls_1 rest_1 Pre_1
      (fun tb e a s o t => postC L tb e a s o t ∧ Framed s o t (fieldLocs frame_1_writes a s ++ arrayLocs frame_1_arrays a s ++ staticLocs frame_1_statics s) 600000 7302250) := by
  intro l hflags _ _ p e ha hc hk s m args below hf hfit hheap happ hpre
  obtain ⟨k, o, h1, h2, h3, rfl, hF⟩ := lw_comes hLR l hflags p e ha hc hk s m args below hf hfit hheap happ hpre
  exact ⟨k, _, h1, h2, h3, hL args s _, lw_frame hF⟩
theorem i_vc_of (hLR : LawRuns) : Claimed_1_1 ∧ Claimed_1_2 := ⟨lw_limb hLR limb_1_1 (fun args s t => by simp [limb_1_1, Cond.after, Cond.holds, Cond.value]), lw_limb hLR limb_1_2 (fun args s t => Cond.after_iff.mpr (by
  first | (rw [show limb_1_2 = Cond.eq .result (.int 1) from rfl, Cond.eq_ints (x := 1) (y := 1) rfl rfl]; simp; done) | (simp [limb_1_2, Cond.value, Term.eval]; done)))⟩

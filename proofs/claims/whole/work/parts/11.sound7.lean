/-! SOUNDNESS, part seven: arraycopy, Math, the index check, ends; a method at any depth -/
def yPre : MethodName := ⟨"jdk/internal/util/Preconditions", "checkIndex", "(IILjava/util/function/BiFunction;)I"⟩
def yChk : MethodName := ⟨"java/lang/String", "checkIndex", "(II)V"⟩
def wsPre : List Cond := [Cond.code yPre prog_21_method_11_code 3 (some .int)]
theorem e_pre0 : decode prog_21_method_11_code 0 = .ok (.iload_n 0, 1) := by decide +kernel
theorem e_pre1 : decode prog_21_method_11_code 1 = .ok (.ifCond .lt 8, 3) := by decide +kernel
theorem e_pre4 : decode prog_21_method_11_code 4 = .ok (.iload_n 0, 1) := by decide +kernel
theorem e_pre5 : decode prog_21_method_11_code 5 = .ok (.iload_n 1, 1) := by decide +kernel
theorem e_pre6 : decode prog_21_method_11_code 6 = .ok (.if_icmp .lt 10, 3) := by decide +kernel
theorem e_pre16 : decode prog_21_method_11_code 16 = .ok (.iload_n 0, 1) := by decide +kernel
theorem e_pre17 : decode prog_21_method_11_code 17 = .ok (.ireturn, 1) := by decide +kernel
theorem e_chk0 : decode prog_16_method_155_code 0 = .ok (.iload_n 0, 1) := by decide +kernel
theorem e_chk1 : decode prog_16_method_155_code 1 = .ok (.iload_n 1, 1) := by decide +kernel
theorem e_chk2 : decode prog_16_method_155_code 2 = .ok (.getstatic 1053, 3) := by decide +kernel
theorem e_chk5 : decode prog_16_method_155_code 5 = .ok (.invokestatic 1059, 3) := by decide +kernel
theorem e_chk8 : decode prog_16_method_155_code 8 = .ok (.pop, 1) := by decide +kernel
theorem e_chk9 : decode prog_16_method_155_code 9 = .ok (.return_, 1) := by decide +kernel
theorem ix_ok : (memT (.methodLink "java/lang/String" 1059 yPre) && memT (.static yPre) && memT (.initialized "jdk/internal/util/Preconditions") && memT (.static yChk) && memT (.initialized "java/lang/String")) = true := by decide +kernel
/-- an index within: no throw -/
theorem c_pre (l : Launch) (x n : Int32) (v : Value) (hv : v.category = 1) (h0 : ¬ x < 0) (h1 : x < n) : Met l yPre wsPre { frames := 0, cells := 0, slots := 0, locals := 0 } (fun a _ => a = [Value.int x, .int n, v].toArray) (fun _ st oc t => oc = .returned (some (.int x)) ∧ t.heap = st.heap) 0 0 (fun _ => False) := by
  refine Met.ofW (cc := prog_21_method_11_code) (maxL := 3) (ret := some .int) (by decide) rfl ?_
  intro p e s m args below meth c s₁ B hml hP
  subst hP
  have hx := B.exec
  have hb := B.bytes
  have hr := B.returns
  have hlocks := B.notSynchronized
  have hlen : (lg_sl [Value.int x, .int n, v]).length ≤ 3 := by
    show ([Slot.val (Value.int x)] ++ ([Slot.val (Value.int n)] ++ ((if v.category = 2 then [Slot.val v, Slot.second] else [Slot.val v]) ++ []))).length ≤ 3
    rw [if_neg (by omega)]
    exact Nat.le_refl 3
  have hl := lv_entry [Value.int x, .int n, v] (n := 3) hlen
  rw [lg_entry_eq]
  generalize (lg_sl [Value.int x, .int n, v] ++ List.replicate (3 - (lg_sl [Value.int x, .int n, v]).length) Slot.unset).toArray = ls at hl ⊢
  have q0 : ls[0]? = some (.val (.int x)) := hl.2.2 (0, .int x) List.mem_cons_self
  have q1 : ls[1]? = some (.val (.int n)) := hl.2.2 (1, .int n) (List.mem_cons_of_mem _ List.mem_cons_self)
  refine lv_iload_n hx hb e_pre0 rfl q0 ?_
  refine lv_if_lt hx hb e_pre1 (tgt := 9) (by decide) (fun z => absurd z h0) (fun _ => ?_)
  refine lv_iload_n hx hb e_pre4 rfl q0 ?_
  refine lv_iload_n hx hb e_pre5 rfl q1 ?_
  refine lv_icmp_lt hx hb e_pre6 (tgt := 16) (by decide) (fun _ => ?_) (fun z => absurd h1 z)
  refine lv_iload_n hx hb e_pre16 rfl q0 ?_
  exact W.iret hx hb hr (fun t ht hW => ⟨rfl, ht⟩) (fun q h => by cases h) e_pre17
def wsChk : List Cond := Cond.code yChk prog_16_method_155_code 2 none :: gtl
theorem c_chk (l : Launch) (G : Wd) (x n : Int32) (h0 : ¬ x < 0) (h1 : x < n) : Met l yChk wsChk { frames := 1, cells := 0, slots := 0, locals := 40 } (fun a U => a = [Value.int x, .int n].toArray ∧ va_Zq "jdk/internal/util/Preconditions" "SIOOBE_FORMATTER" "Ljava/util/function/BiFunction;" (AR G) U U.heap) (fun _ st oc t => oc = .returned none ∧ t.heap = st.heap) 0 0 (fun _ => False) := by
  refine Met.ofW (cc := prog_16_method_155_code) (maxL := 2) (ret := none) (by decide) rfl ?_
  intro p e s m args below meth c s₁ B hml hP
  obtain ⟨rfl, hZ⟩ := hP
  have hx := B.exec
  have hb := B.bytes
  have hr := B.returns
  have hlocks := B.notSynchronized
  have hts0 := atoms_spec (ws := wsChk) B.pre
  have hts : ∀ w ∈ gtl, w.before [Value.int x, .int n].toArray s = true := fun w hw => hts0 w (List.mem_cons_of_mem _ hw)
  have hown : s.vm.findClass "java/lang/String" = some m.cls := findClass_of_methodNamed B.named
  obtain ⟨ix, ix5⟩ := and3 ix_ok
  obtain ⟨ix, ix4⟩ := and3 ix
  obtain ⟨ix, ix3⟩ := and3 ix
  obtain ⟨ix1, ix2⟩ := and3 ix
  have hl := lv_entry [Value.int x, .int n] (n := 2) (Nat.le_of_ble_eq_true rfl)
  rw [lg_entry_eq]
  generalize (lg_sl [Value.int x, .int n] ++ List.replicate (2 - (lg_sl [Value.int x, .int n]).length) Slot.unset).toArray = ls at hl ⊢
  have q0 : ls[0]? = some (.val (.int x)) := hl.2.2 (0, .int x) List.mem_cons_self
  have q1 : ls[1]? = some (.val (.int n)) := hl.2.2 (1, .int n) (List.mem_cons_of_mem _ List.mem_cons_self)
  have rest : ∀ v : Value, v.category = 1 → va_Z "jdk/internal/util/Preconditions" "SIOOBE_FORMATTER" "Ljava/util/function/BiFunction;" v (AR G) s s.heap → W p l e (headSpec wsChk { frames := 1, cells := 0, slots := 0, locals := 40 }).room s m [Value.int x, .int n].toArray below meth c s.heap [] 0 0 (MQ below (fun _ st oc t => oc = .returned none ∧ t.heap = st.heap) [Value.int x, .int n].toArray s 0 0 (fun _ => False)) (F0 m 2 ls [.int n, .int x]) := by
    intro v hv hz
    refine va_gets hx hb hz va_S.rf hown (hts _ (memT_iff.mp fs_ok.2.2.2)) (fun _ z => z) e_chk2 ?_
    have cw := va_cwS (R := (headSpec wsChk { frames := 1, cells := 0, slots := 0, locals := 40 }).room) (s := s) (args := [Value.int x, .int n].toArray) (own := "java/lang/String") (index := 1059) (y := yPre) (bytes := prog_21_method_11_code) (maxL := 3) (ret := some .int) (Ts := gtl) (ws := wsPre) (ws' := []) (rm := { frames := 0, cells := 0, slots := 0, locals := 0 }) (mc := 0) (ms := 0) 3 hts (goodIn_gtl (fun w hw => by
      unfold va_wsS at hw
      rcases List.mem_append.mp hw with hw | hw
      · rcases List.mem_cons.mp hw with rfl | hw
        · exact memT_iff.mp ix1
        · rcases List.mem_cons.mp hw with rfl | hw
          · exact memT_iff.mp ix2
          · rcases List.mem_cons.mp hw with rfl | hw
            · exact memT_iff.mp ix3
            · cases hw
      · rcases List.mem_cons.mp hw with rfl | hw
        · exact gtl_mem cm_pre rfl
        · cases hw)) rfl rfl rfl ⟨by decide, by decide, by decide +kernel⟩ ⟨by decide, by decide⟩
    have hrun := va_runS (l := l) (e := e) (below := below) (meth := meth) (H := s.heap) (locs := []) (cells := 0) (slots := 0) (As := [.int x, .int n, v]) (rest := []) (g := F0 m 5 ls [v, .int n, .int x]) ⟨hx, hb, hml, hown, hts⟩ (c_pre l x n v hv h0 h1) cw ⟨fun _ _ _ _ z => z, fun _ _ _ => rfl⟩ rfl rfl hl.1 rfl (lv_room (Nat.le_of_ble_eq_true rfl)) e_chk5 ⟨Nat.le_refl _, Nat.le_refl _⟩
    intro T hT X
    obtain ⟨v', st₀, t, T', L, g0, X', hL, e1, e2, ⟨hv', hh⟩, st⟩ := hrun T hT X
    cases Outcome.returned.inj hv'
    have X2 := Stand.forget (extra := L) X' (fun q h => (hL q h).elim)
    have k2 : W p l e (headSpec wsChk { frames := 1, cells := 0, slots := 0, locals := 40 }).room s m [Value.int x, .int n].toArray below meth c s.heap [] 0 0 (MQ below (fun _ st oc t => oc = .returned none ∧ t.heap = st.heap) [Value.int x, .int n].toArray s 0 0 (fun _ => False)) (F0 m 8 ls [.int x]) := by
      refine lv_pop hx hb e_chk8 rfl ?_
      exact W.vret hx hb hr (fun t ht hW => ⟨rfl, ht⟩) (fun q h => by cases h) e_chk9
    obtain ⟨t2, a1, b1⟩ := k2 T' (by rw [e1, hh, g0]) X2
    exact ⟨t2, st t2 a1, b1⟩
  refine lv_iload_n hx hb e_chk0 rfl q0 ?_
  refine lv_iload_n hx hb e_chk1 rfl q1 ?_
  rcases hZ with hz | ⟨a, hz⟩
  · exact rest .null rfl hz
  · exact rest (.ref a) rfl hz
section SND7
variable {p : Program} {l : Launch} {e : Env} {R : Room} {s : State} {m : MethodId} {args : Array Value} {below : List Frame} {meth : Method} {c : Code} {Q : State → Prop} {G : Wd} {y nx0 nxE d : Nat} {E : Hdl} {pc nx : Nat} {ls : Lcl} {st : List Value} {M M' : Mem} {f' : Fr}
theorem s_chk {q y' n' : Nat} {x n : Int32} {r : List Value} (C : CX p R s m args meth c G y nx0 nxE) (hR : 2 ≤ R.frames) (hE : nx ≤ nxE) (hd : decode (mB y) pc = .ok (.invokestatic q, 3)) (hq : lk tMl (pk y q) = some (8, y', n')) (hg : (decide (¬ x < 0) && decide (x < n) && decide (wt r ≤ 8)) = true) (k : GW p l e R s m args below meth c Q G y nx0 (pc + 3, ls, r, nx, M)) : GW p l e R s m args below meth c Q G y nx0 (pc, ls, .int n :: .int x :: r, nx, M) := by
  obtain ⟨hg, g3⟩ := and3 hg
  obtain ⟨g1, g2⟩ := and3 hg
  have g1 := of_decide_eq_true g1
  have g2 := of_decide_eq_true g2
  have g3 := of_decide_eq_true g3
  obtain ⟨hy', hck, hlw, hmem, o1, o2⟩ := tM_word hq
  have hlink : Cond.methodLink (oS (mO y)) q yChk ∈ gtl := by
    have := hlw rfl
    unfold lkW at this
    dsimp only at this
    rw [o1, o2] at this
    exact this
  obtain ⟨ix, ix5⟩ := and3 ix_ok
  obtain ⟨ix, ix4⟩ := and3 ix
  intro lsC H locs hl hn ho hs hx
  have hRl := C.2.2.2.2.2.2.2.2.2.2.2
  have cw := va_cwS (R := R) (s := s) (args := args) (own := oS (mO y)) (index := q) (y := yChk) (bytes := prog_16_method_155_code) (maxL := 2) (ret := none) (Ts := gtl) (ws := wsChk) (ws' := gtl) (rm := { frames := 1, cells := 0, slots := 0, locals := 40 }) (mc := 0) (ms := 0) 2 C.2.2.2.2.1 (goodIn_gtl (fun w hw => by
    unfold va_wsS at hw
    rcases List.mem_append.mp hw with hw | hw
    · rcases List.mem_cons.mp hw with rfl | hw
      · exact hlink
      · rcases List.mem_cons.mp hw with rfl | hw
        · exact memT_iff.mp ix4
        · rcases List.mem_cons.mp hw with rfl | hw
          · exact memT_iff.mp ix5
          · cases hw
    · rcases List.mem_cons.mp hw with rfl | hw
      · exact gtl_mem cm_chk rfl
      · exact hw)) rfl rfl rfl ⟨by decide, by decide, by decide +kernel⟩ ⟨hR, by dsimp only; omega⟩
  have hcl : nx - nx0 ≤ R.cells ∧ SLn nx - SLn nx0 ≤ R.slots := by
    obtain ⟨-, -, -, -, -, -, -, -, h1, h2, -⟩ := C
    have := SLn_le hE
    exact ⟨by omega, by omega⟩
  have hrun := va_runS (l := l) (e := e) (below := below) (meth := meth) (H := H) (locs := locs) (cells := nx - nx0) (slots := SLn nx - SLn nx0) (As := [.int x, .int n]) (rest := r.map (cv G)) (g := F0 m pc lsC (.int n :: .int x :: r.map (cv G))) ⟨C.1, C.2.1, C.2.2.1, C.2.2.2.1, C.2.2.2.2.1⟩ (c_chk l G x n g1 g2) cw ⟨fun _ U _ _ z => ⟨z.1, va_Zq.moved (u := U) (Vm.Alike.refl U.vm) z.2⟩, fun U hU hW => ⟨rfl, by rw [hU]; exact va_Zq.moved hW.alike (C.2.2.2.2.2.2.1.2.2.2.2.2.2.2.2.1.kept hs.2.1)⟩⟩ rfl rfl hl.1 rfl (lv_room (by rw [wt_sum]; exact g3)) hd hcl
  intro T hT X
  obtain ⟨v', st₀, t, T', L, g0, X', hL, e1, e2, ⟨hv', hh⟩, st⟩ := hrun T hT X
  cases Outcome.returned.inj hv'
  have X2 := Stand.forget (extra := L) X' (fun q h => (hL q h).elim)
  obtain ⟨t2, a1, b1⟩ := k lsC H locs hl hn ho hs hx T' (by rw [e1, hh, g0]) X2
  exact ⟨t2, st t2 a1, b1⟩
theorem rl (C : CX p R s m args meth c G y nx0 nxE) (hE : nx ≤ nxE) : nx - nx0 ≤ R.cells ∧ SLn nx - SLn nx0 ≤ R.slots := by
  obtain ⟨-, -, -, -, -, -, -, -, h1, h2, -⟩ := C
  have := SLn_le hE
  exact ⟨by omega, by omega⟩
theorem misc8 : Cond.instanceMethod objectInit ∈ gtl ∧ Cond.native arraycopyName ∈ gtl ∧ Cond.static arraycopyName ∈ gtl ∧ Cond.initialized "java/lang/System" ∈ gtl ∧ Cond.initialized "java/lang/Math" ∈ gtl ∧ Cond.static Lib.Math.max.name ∈ gtl ∧ Cond.static Lib.Math.min.name ∈ gtl ∧ Cond.static Lib.Math.abs.name ∈ gtl ∧ Cond.static Lib.MathLoose.max_long.x ∈ gtl ∧ Cond.static Lib.MathLoose.min_long.x ∈ gtl := by
  have h := misc_ok
  simp only [Bool.and_eq_true, decide_eq_true_eq, memT_iff] at h
  obtain ⟨⟨⟨⟨⟨⟨⟨⟨⟨⟨⟨a1, a2⟩, a3⟩, a4⟩, a5⟩, a6⟩, a7⟩, a8⟩, a9⟩, a10⟩, a11⟩, a12⟩ := h
  exact ⟨a1, a2, a3, a4, a6, a7, a8, a9, a10, a11⟩
theorem s_objInit {q y' n' : Nat} {a : Nat} {r : List Value} (C : CX p R s m args meth c G y nx0 nxE) (hd : decode (mB y) pc = .ok (.invokespecial q, 3)) (hq : lk tMl (pk y q) = some (6, y', n')) (hg : decide (wt r ≤ 8) = true) (k : GW p l e R s m args below meth c Q G y nx0 (pc + 3, ls, r, nx, M)) : GW p l e R s m args below meth c Q G y nx0 (pc, ls, .ref a :: r, nx, M) := by
  have hg := of_decide_eq_true hg
  obtain ⟨hy', hck, hlw, hmem, o1, o2⟩ := tM_word hq
  have hlink : Cond.methodLink (oS (mO y)) q objectInit ∈ gtl := by
    have := hlw rfl
    unfold lkW at this
    dsimp only at this
    rw [o1, o2] at this
    exact this
  intro lsC H locs hl hn ho hs hx
  have hRl := C.2.2.2.2.2.2.2.2.2.2
  refine W.objInit C.1 C.2.1 C.2.2.2.1 (C.2.2.2.2.1 _ hlink) (C.2.2.2.2.1 _ misc8.1) (C.2.2.2.2.1 _ (gtl_mem cm_obj rfl)) rfl (hl.1.trans C.2.2.1.symm) rfl hd hRl.1 ?_ (k lsC H locs hl hn ho hs hx)
  have h9 := lv_room (m := m) (pc := pc) (ls := lsC) (rest := (.ref a :: r).map (cv G)) (st := r.map (cv G)) (by rw [wt_sum]; exact hg)
  have := hRl.2
  exact Nat.le_trans (Nat.add_le_add_right h9 12) (by omega)
theorem s_max {q y' n' : Nat} {x z : Int32} {r : List Value} (C : CX p R s m args meth c G y nx0 nxE) (hE : nx ≤ nxE) (hd : decode (mB y) pc = .ok (.invokestatic q, 3)) (hq : lk tMl (pk y q) = some (20, y', n')) (hg : decide (wt r ≤ 8) = true) (k : GW p l e R s m args below meth c Q G y nx0 (pc + 3, ls, .int (if x < z then z else x) :: r, nx, M)) : GW p l e R s m args below meth c Q G y nx0 (pc, ls, .int z :: .int x :: r, nx, M) := by
  have hg := of_decide_eq_true hg
  obtain ⟨hy', hck, hlw, hmem, o1, o2⟩ := tM_word hq
  have hlink : Cond.methodLink (oS (mO y)) q Lib.Math.max.name ∈ gtl := by
    have := hlw rfl
    unfold lkW at this
    dsimp only at this
    rw [o1, o2] at this
    exact this
  intro lsC H locs hl hn ho hs hx
  have hRl := C.2.2.2.2.2.2.2.2.2.2
  exact va_mmax C.1 C.2.1 (C.2.2.1.trans hl.1.symm) C.2.2.2.1 (C.2.2.2.2.1 _ hlink) (C.2.2.2.2.1 _ misc8.2.2.2.2.2.1) (C.2.2.2.2.1 _ misc8.2.2.2.2.1) (C.2.2.2.2.1 _ (gtl_mem cm_max rfl)) hRl.1 (by rw [wt_sum]; have := hRl.2; omega) (rl C hE).1 (rl C hE).2 hd (k lsC H locs hl hn ho hs hx)
theorem s_min {q y' n' : Nat} {x z : Int32} {r : List Value} (C : CX p R s m args meth c G y nx0 nxE) (hE : nx ≤ nxE) (hd : decode (mB y) pc = .ok (.invokestatic q, 3)) (hq : lk tMl (pk y q) = some (21, y', n')) (hg : decide (wt r ≤ 8) = true) (k : GW p l e R s m args below meth c Q G y nx0 (pc + 3, ls, .int (if z < x then z else x) :: r, nx, M)) : GW p l e R s m args below meth c Q G y nx0 (pc, ls, .int z :: .int x :: r, nx, M) := by
  have hg := of_decide_eq_true hg
  obtain ⟨hy', hck, hlw, hmem, o1, o2⟩ := tM_word hq
  have hlink : Cond.methodLink (oS (mO y)) q Lib.Math.min.name ∈ gtl := by
    have := hlw rfl
    unfold lkW at this
    dsimp only at this
    rw [o1, o2] at this
    exact this
  intro lsC H locs hl hn ho hs hx
  have hRl := C.2.2.2.2.2.2.2.2.2.2
  exact va_mmin C.1 C.2.1 (C.2.2.1.trans hl.1.symm) C.2.2.2.1 (C.2.2.2.2.1 _ hlink) (C.2.2.2.2.1 _ misc8.2.2.2.2.2.2.1) (C.2.2.2.2.1 _ misc8.2.2.2.2.1) (C.2.2.2.2.1 _ (gtl_mem cm_min rfl)) hRl.1 (by rw [wt_sum]; have := hRl.2; omega) (rl C hE).1 (rl C hE).2 hd (k lsC H locs hl hn ho hs hx)
theorem s_abs {q y' n' : Nat} {x : Int32} {r : List Value} (C : CX p R s m args meth c G y nx0 nxE) (hE : nx ≤ nxE) (hd : decode (mB y) pc = .ok (.invokestatic q, 3)) (hq : lk tMl (pk y q) = some (22, y', n')) (hg : decide (wt r ≤ 8) = true) (k : GW p l e R s m args below meth c Q G y nx0 (pc + 3, ls, .int (if 0 ≤ x then x else 0 - x) :: r, nx, M)) : GW p l e R s m args below meth c Q G y nx0 (pc, ls, .int x :: r, nx, M) := by
  have hg := of_decide_eq_true hg
  obtain ⟨hy', hck, hlw, hmem, o1, o2⟩ := tM_word hq
  have hlink : Cond.methodLink (oS (mO y)) q Lib.Math.abs.name ∈ gtl := by
    have := hlw rfl
    unfold lkW at this
    dsimp only at this
    rw [o1, o2] at this
    exact this
  intro lsC H locs hl hn ho hs hx
  have hRl := C.2.2.2.2.2.2.2.2.2.2
  exact va_mabs C.1 C.2.1 (C.2.2.1.trans hl.1.symm) C.2.2.2.1 (C.2.2.2.2.1 _ hlink) (C.2.2.2.2.1 _ misc8.2.2.2.2.2.2.2.1) (C.2.2.2.2.1 _ misc8.2.2.2.2.1) (C.2.2.2.2.1 _ (gtl_mem cm_abs rfl)) hRl.1 (by rw [wt_sum]; have := hRl.2; omega) (rl C hE).1 (rl C hE).2 hd (k lsC H locs hl hn ho hs hx)
theorem s_maxl {q y' n' : Nat} {x z : Int64} {r : List Value} (C : CX p R s m args meth c G y nx0 nxE) (hE : nx ≤ nxE) (hd : decode (mB y) pc = .ok (.invokestatic q, 3)) (hq : lk tMl (pk y q) = some (23, y', n')) (hg : decide (wt r ≤ 8) = true) (k : GW p l e R s m args below meth c Q G y nx0 (pc + 3, ls, .long (if z < x then x else z) :: r, nx, M)) : GW p l e R s m args below meth c Q G y nx0 (pc, ls, .long z :: .long x :: r, nx, M) := by
  have hg := of_decide_eq_true hg
  obtain ⟨hy', hck, hlw, hmem, o1, o2⟩ := tM_word hq
  have hlink : Cond.methodLink (oS (mO y)) q Lib.MathLoose.max_long.x ∈ gtl := by
    have := hlw rfl
    unfold lkW at this
    dsimp only at this
    rw [o1, o2] at this
    exact this
  intro lsC H locs hl hn ho hs hx
  have hRl := C.2.2.2.2.2.2.2.2.2.2
  exact va_mmax_long C.1 C.2.1 (C.2.2.1.trans hl.1.symm) C.2.2.2.1 (C.2.2.2.2.1 _ hlink) (C.2.2.2.2.1 _ misc8.2.2.2.2.2.2.2.2.1) (C.2.2.2.2.1 _ misc8.2.2.2.2.1) (C.2.2.2.2.1 _ (gtl_mem cm_maxl rfl)) hRl.1 (by rw [wt_sum]; have := hRl.2; omega) (rl C hE).1 (rl C hE).2 hd (k lsC H locs hl hn ho hs hx)
theorem s_minl {q y' n' : Nat} {x z : Int64} {r : List Value} (C : CX p R s m args meth c G y nx0 nxE) (hE : nx ≤ nxE) (hd : decode (mB y) pc = .ok (.invokestatic q, 3)) (hq : lk tMl (pk y q) = some (24, y', n')) (hg : decide (wt r ≤ 8) = true) (k : GW p l e R s m args below meth c Q G y nx0 (pc + 3, ls, .long (if z < x then z else x) :: r, nx, M)) : GW p l e R s m args below meth c Q G y nx0 (pc, ls, .long z :: .long x :: r, nx, M) := by
  have hg := of_decide_eq_true hg
  obtain ⟨hy', hck, hlw, hmem, o1, o2⟩ := tM_word hq
  have hlink : Cond.methodLink (oS (mO y)) q Lib.MathLoose.min_long.x ∈ gtl := by
    have := hlw rfl
    unfold lkW at this
    dsimp only at this
    rw [o1, o2] at this
    exact this
  intro lsC H locs hl hn ho hs hx
  have hRl := C.2.2.2.2.2.2.2.2.2.2
  exact va_mmin_long C.1 C.2.1 (C.2.2.1.trans hl.1.symm) C.2.2.2.1 (C.2.2.2.2.1 _ hlink) (C.2.2.2.2.1 _ misc8.2.2.2.2.2.2.2.2.2) (C.2.2.2.2.1 _ misc8.2.2.2.2.1) (C.2.2.2.2.1 _ (gtl_mem cm_minl rfl)) hRl.1 (by rw [wt_sum]; have := hRl.2; omega) (rl C hE).1 (rl C hE).2 hd (k lsC H locs hl hn ho hs hx)
end SND7

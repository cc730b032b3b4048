/-! SOUNDNESS of the abstract machine, part one: what a heap holds, and one instruction each -/
abbrev Wd : Type := (Nat → ClassId) × (Nat → Nat → Nat) × (Nat → ClassId) × Nat × Nat × (Nat → Nat) × (Nat → Nat) × (Nat → Int32) × Nat
def w_C (G : Wd) : Nat → ClassId := G.1
def w_I (G : Wd) : Nat → Nat → Nat := G.2.1
def w_A (G : Wd) : Nat → ClassId := G.2.2.1
def w_B (G : Wd) : Nat := G.2.2.2.1
def w_S (G : Wd) : Nat := G.2.2.2.2.1
def w_K (G : Wd) : Nat → Nat := G.2.2.2.2.2.1
def w_V (G : Wd) : Nat → Nat := G.2.2.2.2.2.2.1
def w_X (G : Wd) : Nat → Int32 := G.2.2.2.2.2.2.2.1
def w_L (G : Wd) : Nat := G.2.2.2.2.2.2.2.2
/-- the address of a cell -/
def ad (G : Wd) (k : Nat) : Nat := if k < 1000 then w_B G + k else if k = 1000 then w_S G else if k = 1001 then w_K G 0 else if k = 1002 then w_V G 0 else if k = 1003 then w_K G 1 else w_V G 1
def cv (G : Wd) : Value → Value
  | .ref k => .ref (ad G k)
  | v => v
def AR (G : Wd) : Nat → Prop := fun q => w_B G ≤ q
def tysG (G : Wd) : List (ClassId × FieldType) := [(w_A G 0, .int), (w_A G 1, .byte), (w_A G 2, .boolean), (w_A G 3, .long), (w_A G 4, .object (oS 2)), (w_A G 5, .object (oS 7))]
def cval (M : Mem) (k j : Nat) : Value := if (sh k).1 < 100 then fval M (sh k).1 k j else if (sh k).1 = 103 then .long (gL M k j) else if (sh k).1 < 103 then .int (gI M k j) else vrf (gR M k j)
/-- the cell k, as the heap has it -/
def cP (G : Wd) (M : Mem) (H : Heap) (k : Nat) : Prop := if (sh k).1 < 100 then t_OB (w_B G + k) (w_C G (sh k).1) (cls (sh k).1).2.2 (w_I G (sh k).1) H (fun j => cv G (cval M k j)) else H[w_B G + k]? = some (arrV (w_A G ((sh k).1 - 100)) (sh k).2 (fun j => cv G (cval M k j)))
def HN (G : Wd) (nx : Nat) (M : Mem) (H : Heap) : Prop := H.size = w_B G + nx ∧ nx ≤ NX ∧ ∀ k, k < nx → cP G M H k
def OM (G : Wd) (M : Mem) : Prop := M.2.2.2 = w_L G ∧ (∀ j, j < w_L G → gI M 1000 j = w_X G j) ∧ (∀ j, j < 139 → gI M 1002 j = wordsB.getD j 0) ∧ (∀ j, j < 11 → gI M 1004 j = signsB.getD j 0)
def wordsT : String := "puts falls plank put take concede object drop hour wind number weight up against rests load on to of bits heavy if then else end or and not"
def signsT : String := "<>=#+-*/();"
/-- what is so of the tables, and of the cells that were there -/
def KW (G : Wd) (U : State) (H : Heap) : Prop := va_K (w_C G, w_I G) clsl (tysG G) U ∧ va_X (w_S G) (w_L G) (w_X G) U H ∧ w_S G < w_B G ∧ w_L G < 2 ^ 31 ∧ vk_S 2 [139, 11] [wordsB, signsB] (w_K G) (w_V G) (AR G) U H ∧ vk_R (oS 3) 72 wordsT (w_K G 0) U ∧ vk_R (oS 3) 65 signsT (w_K G 1) U ∧ va_Z "java/lang/String" "COMPACT_STRINGS" "Z" (.int 1) (AR G) U H ∧ va_Zq "jdk/internal/util/Preconditions" "SIOOBE_FORMATTER" "Ljava/util/function/BiFunction;" (AR G) U H ∧ va_AO (oS 2) U ∧ va_AO (oS 7) U ∧ ∀ e ∈ tMl, isNest e = true → va_Nw (lkW e) U
theorem nest_form {e : Nat × Nat × Nat × Nat} (h : isNest e = true) : ∃ a i x, lkW e = .methodLinkNest a i x "ScaffoldReasons" := by
  obtain ⟨a, b, c, d⟩ := e
  unfold isNest at h
  dsimp only at h
  rcases Bool.or_eq_true _ _ ▸ h with h | h
  · have hb : b = 10 := eq_of_beq h
    subst hb
    exact ⟨_, _, _, rfl⟩
  · have hb : b = 12 := eq_of_beq h
    subst hb
    exact ⟨_, _, _, rfl⟩
theorem KW.to {G : Wd} {s U : State} {H H1 : Heap} (h : KW G s H) (hW : s.WarmedH U.vm) (hq : ∀ a : Nat, a < H.size → ¬ AR G a → H1[a]? = H[a]?) : KW G U H1 := by
  obtain ⟨h1, h2, h3, h4, h5, h6, h7, h8, h9, h10, h11, h12⟩ := h
  have hlt : w_S G < H.size := by
    obtain ⟨scr, q, -⟩ := h2
    exact (Array.getElem?_eq_some_iff.mp q).1
  refine ⟨va_K.moved hW.alike h1, va_X.moved hW.alike (h2.kept (hq _ hlt (fun z => Nat.lt_irrefl _ (Nat.lt_of_lt_of_le h3 z)))), h3, h4, vk_S.moved hW.alike (h5.kept hq), vk_R.warm hW h6, vk_R.warm hW h7, va_Z.moved hW.alike (h8.kept hq), va_Zq.moved hW.alike (h9.kept hq), va_AO.moved hW.alike h10, va_AO.moved hW.alike h11, fun e he hn => ?_⟩
  obtain ⟨a, i, x, hx⟩ := nest_form hn
  have := h12 e he hn
  rw [hx] at this ⊢
  exact va_Nw.warmM hW this
theorem KW.same {G : Wd} {s U : State} {H : Heap} (h : KW G s H) (hv : s.vm = U.vm) : KW G U H := by
  obtain ⟨h1, h2, h3, h4, h5, h6, h7, h8, h9, h10, h11, h12⟩ := h
  have ha : s.vm.Alike U.vm := by rw [hv]; exact Vm.Alike.refl _
  refine ⟨va_K.moved ha h1, va_X.moved ha h2, h3, h4, vk_S.moved ha h5, vk_R.same hv.symm h6, vk_R.same hv.symm h7, va_Z.moved ha h8, va_Zq.moved ha h9, va_AO.moved ha h10, va_AO.moved ha h11, fun e he hn => ?_⟩
  obtain ⟨a, i, x, hx⟩ := nest_form hn
  have := h12 e he hn
  rw [hx] at this ⊢
  exact va_Nw.same rfl hv this
/-- locals -/
def LH (G : Wd) (lsC : Array Slot) (n : Nat) (ls : Lcl) : Prop := lsC.size = n ∧ lv_wf lsC ∧ ls.length ≤ n ∧ ∀ (i : Nat) (v : Value), ls[i]? = some (some v) → (v.category = 2 → ls[i + 1]? = some none) → lsC[i]? = some (.val (cv G v))
def szC (k : Nat) : Nat := if (sh k).1 < 100 then (cls (sh k).1).2.2 else (sh k).2
def SLn : Nat → Nat
  | 0 => 0
  | k + 1 => SLn k + szC k
theorem SLn_le {a b : Nat} (h : a ≤ b) : SLn a ≤ SLn b := by
  induction h with
  | refl => exact Nat.le_refl _
  | step _ ih => exact Nat.le_trans ih (Nat.le_add_right _ _)
theorem SLn_succ {nx0 nx : Nat} (h : nx0 ≤ nx) : SLn (nx + 1) - SLn nx0 = SLn nx - SLn nx0 + szC nx := by
  have := SLn_le h
  rw [SLn]
  omega
/-- a method's own: its machine, its code, its class, the words, its room -/
def CX (p : Program) (R : Room) (s : State) (m : MethodId) (args : Array Value) (meth : Method) (c : Code) (G : Wd) (y nx0 nxE : Nat) : Prop :=
  p.tables.exec = Jvm.exec ∧ c.code = mB y ∧ c.maxLocals = mL y ∧ s.vm.findClass (oS (mO y)) = some m.cls ∧ (∀ w ∈ gtl, w.before args s = true) ∧ (isInit y = true → meth.name = "<init>") ∧ KW G s s.heap ∧ w_B G ≤ s.heap.size ∧ nxE - nx0 ≤ R.cells ∧ SLn nxE - SLn nx0 ≤ R.slots ∧ 1 ≤ R.frames ∧ 200 ≤ R.locals
section SND
variable {p : Program} {l : Launch} {e : Env} {R : Room} {s : State} {m : MethodId} {args : Array Value} {below : List Frame} {meth : Method} {c : Code} {Q : State → Prop} {G : Wd} {y nx0 nxE : Nat} {E : Hdl} {pc nx : Nat} {ls : Lcl} {st : List Value} {M : Mem} {f' : Fr}
/-- from this frame the machine comes to Q -/
def GW (p : Program) (l : Launch) (e : Env) (R : Room) (s : State) (m : MethodId) (args : Array Value) (below : List Frame) (meth : Method) (c : Code) (Q : State → Prop) (G : Wd) (y nx0 : Nat) (f : Fr) : Prop :=
  ∀ (lsC : Array Slot) (H : Heap) (locs : List Loc), LH G lsC (mL y) f.2.1 → HN G f.2.2.2.1 f.2.2.2.2 H → OM G f.2.2.2.2 → va_S (AR G) s.heap H locs → nx0 ≤ f.2.2.2.1 → W p l e R s m args below meth c H locs (f.2.2.2.1 - nx0) (SLn f.2.2.2.1 - SLn nx0) Q (F0 m f.1 lsC (f.2.2.1.map (cv G)))
theorem go_eq {ls' : Lcl} {st' : List Value} {nx' : Nat} {M' : Mem} {pc' : Nat} (h : go pc' ls' st' nx' M' = some (.inl f')) : f' = (pc', ls', st', nx', M') := by
  unfold go at h
  exact (Sum.inl.inj (Option.some.inj h)).symm
theorem gd_eq {b : Bool} {x : Option (Fr ⊕ Res)} {r : Fr ⊕ Res} (h : gd b x = some r) : b = true ∧ x = some r := by
  unfold gd at h
  by_cases hb : b = true
  · rw [if_pos hb] at h; exact ⟨hb, h⟩
  · rw [if_neg hb] at h; cases h
theorem two_eq {k : Int32 → Int32 → List Value → Option (Fr ⊕ Res)} {r : Fr ⊕ Res} (h : two st k = some r) : ∃ x z t, st = .int z :: .int x :: t ∧ k x z t = some r := by
  unfold two at h
  split at h
  · exact ⟨_, _, _, rfl, h⟩
  · cases h
theorem twoL_eq {k : Int64 → Int64 → List Value → Option (Fr ⊕ Res)} {r : Fr ⊕ Res} (h : twoL st k = some r) : ∃ x z t, st = .long z :: .long x :: t ∧ k x z t = some r := by
  unfold twoL at h
  split at h
  · exact ⟨_, _, _, rfl, h⟩
  · cases h
theorem one_eq {k : Int32 → List Value → Option (Fr ⊕ Res)} {r : Fr ⊕ Res} (h : one st k = some r) : ∃ x t, st = .int x :: t ∧ k x t = some r := by
  unfold one at h
  split at h
  · exact ⟨_, _, rfl, h⟩
  · cases h
theorem oneL_eq {k : Int64 → List Value → Option (Fr ⊕ Res)} {r : Fr ⊕ Res} (h : oneL st k = some r) : ∃ x t, st = .long x :: t ∧ k x t = some r := by
  unfold oneL at h
  split at h
  · exact ⟨_, _, rfl, h⟩
  · cases h
theorem oneR_eq {k : Nat → List Value → Option (Fr ⊕ Res)} {r : Fr ⊕ Res} (h : oneR st k = some r) : ∃ x t, st = .ref x :: t ∧ k x t = some r := by
  unfold oneR at h
  split at h
  · exact ⟨_, _, rfl, h⟩
  · cases h
theorem arl_eq {k : Nat → Int32 → List Value → Option (Fr ⊕ Res)} {r : Fr ⊕ Res} (h : arl st k = some r) : ∃ a i t, st = .int i :: .ref a :: t ∧ k a i t = some r := by
  unfold arl at h
  split at h
  · exact ⟨_, _, _, rfl, h⟩
  · cases h
theorem ars_eq {k : Nat → Int32 → Int32 → List Value → Option (Fr ⊕ Res)} {r : Fr ⊕ Res} (h : ars st k = some r) : ∃ a i x t, st = .int x :: .int i :: .ref a :: t ∧ k a i x t = some r := by
  unfold ars at h
  split at h
  · exact ⟨_, _, _, _, rfl, h⟩
  · cases h
theorem arsL_eq {k : Nat → Int32 → Int64 → List Value → Option (Fr ⊕ Res)} {r : Fr ⊕ Res} (h : arsL st k = some r) : ∃ a i x t, st = .long x :: .int i :: .ref a :: t ∧ k a i x t = some r := by
  unfold arsL at h
  split at h
  · exact ⟨_, _, _, _, rfl, h⟩
  · cases h
theorem arsR_eq {k : Nat → Int32 → Nat → List Value → Option (Fr ⊕ Res)} {r : Fr ⊕ Res} (h : arsR st k = some r) : ∃ a i x t, st = .ref x :: .int i :: .ref a :: t ∧ k a i x t = some r := by
  unfold arsR at h
  split at h
  · exact ⟨_, _, _, _, rfl, h⟩
  · cases h
theorem jump_ok {off : Int} (h : jok pc off = true) : (pc : Int) + off = ((jump pc off : Nat) : Int) := by
  unfold jok at h
  unfold jump
  have := of_decide_eq_true h
  omega
theorem cat_cv (v : Value) : (cv G v).category = v.category := by cases v <;> rfl
theorem s_iadd (C : CX p R s m args meth c G y nx0 nxE) (hd : decode (mB y) pc = .ok (.iadd, 1)) (h : stp E y (.iadd) pc ls st nx M = some (.inl f')) (k : GW p l e R s m args below meth c Q G y nx0 f') : GW p l e R s m args below meth c Q G y nx0 (pc, ls, st, nx, M) := by
  unfold stp at h
  dsimp only at h
  obtain ⟨x, z, t, rfl, h⟩ := two_eq h
  cases go_eq h
  exact fun lsC H locs hl hn ho hs hx => lv_iadd C.1 C.2.1 hd (k lsC H locs hl hn ho hs hx)
theorem s_isub (C : CX p R s m args meth c G y nx0 nxE) (hd : decode (mB y) pc = .ok (.isub, 1)) (h : stp E y (.isub) pc ls st nx M = some (.inl f')) (k : GW p l e R s m args below meth c Q G y nx0 f') : GW p l e R s m args below meth c Q G y nx0 (pc, ls, st, nx, M) := by
  unfold stp at h
  dsimp only at h
  obtain ⟨x, z, t, rfl, h⟩ := two_eq h
  cases go_eq h
  exact fun lsC H locs hl hn ho hs hx => lv_isub C.1 C.2.1 hd (k lsC H locs hl hn ho hs hx)
theorem s_imul (C : CX p R s m args meth c G y nx0 nxE) (hd : decode (mB y) pc = .ok (.imul, 1)) (h : stp E y (.imul) pc ls st nx M = some (.inl f')) (k : GW p l e R s m args below meth c Q G y nx0 f') : GW p l e R s m args below meth c Q G y nx0 (pc, ls, st, nx, M) := by
  unfold stp at h
  dsimp only at h
  obtain ⟨x, z, t, rfl, h⟩ := two_eq h
  cases go_eq h
  exact fun lsC H locs hl hn ho hs hx => lv_imul C.1 C.2.1 hd (k lsC H locs hl hn ho hs hx)
theorem s_iand (C : CX p R s m args meth c G y nx0 nxE) (hd : decode (mB y) pc = .ok (.iand, 1)) (h : stp E y (.iand) pc ls st nx M = some (.inl f')) (k : GW p l e R s m args below meth c Q G y nx0 f') : GW p l e R s m args below meth c Q G y nx0 (pc, ls, st, nx, M) := by
  unfold stp at h
  dsimp only at h
  obtain ⟨x, z, t, rfl, h⟩ := two_eq h
  cases go_eq h
  exact fun lsC H locs hl hn ho hs hx => lv_iand C.1 C.2.1 hd (k lsC H locs hl hn ho hs hx)
theorem s_ior (C : CX p R s m args meth c G y nx0 nxE) (hd : decode (mB y) pc = .ok (.ior, 1)) (h : stp E y (.ior) pc ls st nx M = some (.inl f')) (k : GW p l e R s m args below meth c Q G y nx0 f') : GW p l e R s m args below meth c Q G y nx0 (pc, ls, st, nx, M) := by
  unfold stp at h
  dsimp only at h
  obtain ⟨x, z, t, rfl, h⟩ := two_eq h
  cases go_eq h
  exact fun lsC H locs hl hn ho hs hx => lv_ior C.1 C.2.1 hd (k lsC H locs hl hn ho hs hx)
theorem s_ixor (C : CX p R s m args meth c G y nx0 nxE) (hd : decode (mB y) pc = .ok (.ixor, 1)) (h : stp E y (.ixor) pc ls st nx M = some (.inl f')) (k : GW p l e R s m args below meth c Q G y nx0 f') : GW p l e R s m args below meth c Q G y nx0 (pc, ls, st, nx, M) := by
  unfold stp at h
  dsimp only at h
  obtain ⟨x, z, t, rfl, h⟩ := two_eq h
  cases go_eq h
  exact fun lsC H locs hl hn ho hs hx => lv_ixor C.1 C.2.1 hd (k lsC H locs hl hn ho hs hx)
theorem s_ishl (C : CX p R s m args meth c G y nx0 nxE) (hd : decode (mB y) pc = .ok (.ishl, 1)) (h : stp E y (.ishl) pc ls st nx M = some (.inl f')) (k : GW p l e R s m args below meth c Q G y nx0 f') : GW p l e R s m args below meth c Q G y nx0 (pc, ls, st, nx, M) := by
  unfold stp at h
  dsimp only at h
  obtain ⟨x, z, t, rfl, h⟩ := two_eq h
  cases go_eq h
  exact fun lsC H locs hl hn ho hs hx => lv_ishl C.1 C.2.1 hd (k lsC H locs hl hn ho hs hx)
theorem s_ishr (C : CX p R s m args meth c G y nx0 nxE) (hd : decode (mB y) pc = .ok (.ishr, 1)) (h : stp E y (.ishr) pc ls st nx M = some (.inl f')) (k : GW p l e R s m args below meth c Q G y nx0 f') : GW p l e R s m args below meth c Q G y nx0 (pc, ls, st, nx, M) := by
  unfold stp at h
  dsimp only at h
  obtain ⟨x, z, t, rfl, h⟩ := two_eq h
  cases go_eq h
  exact fun lsC H locs hl hn ho hs hx => lv_ishr C.1 C.2.1 hd (k lsC H locs hl hn ho hs hx)
theorem s_iushr (C : CX p R s m args meth c G y nx0 nxE) (hd : decode (mB y) pc = .ok (.iushr, 1)) (h : stp E y (.iushr) pc ls st nx M = some (.inl f')) (k : GW p l e R s m args below meth c Q G y nx0 f') : GW p l e R s m args below meth c Q G y nx0 (pc, ls, st, nx, M) := by
  unfold stp at h
  dsimp only at h
  obtain ⟨x, z, t, rfl, h⟩ := two_eq h
  cases go_eq h
  exact fun lsC H locs hl hn ho hs hx => lv_iushr C.1 C.2.1 hd rfl (k lsC H locs hl hn ho hs hx)
theorem s_idiv (C : CX p R s m args meth c G y nx0 nxE) (hd : decode (mB y) pc = .ok (.idiv, 1)) (h : stp E y (.idiv) pc ls st nx M = some (.inl f')) (k : GW p l e R s m args below meth c Q G y nx0 f') : GW p l e R s m args below meth c Q G y nx0 (pc, ls, st, nx, M) := by
  unfold stp at h
  dsimp only at h
  obtain ⟨x, z, t, rfl, h⟩ := two_eq h
  obtain ⟨hg, h⟩ := gd_eq h
  cases go_eq h
  exact fun lsC H locs hl hn ho hs hx => lv_idiv C.1 C.2.1 hd (by simpa using hg) (k lsC H locs hl hn ho hs hx)
theorem s_irem (C : CX p R s m args meth c G y nx0 nxE) (hd : decode (mB y) pc = .ok (.irem, 1)) (h : stp E y (.irem) pc ls st nx M = some (.inl f')) (k : GW p l e R s m args below meth c Q G y nx0 f') : GW p l e R s m args below meth c Q G y nx0 (pc, ls, st, nx, M) := by
  unfold stp at h
  dsimp only at h
  obtain ⟨x, z, t, rfl, h⟩ := two_eq h
  obtain ⟨hg, h⟩ := gd_eq h
  cases go_eq h
  exact fun lsC H locs hl hn ho hs hx => lv_irem C.1 C.2.1 hd (by simpa using hg) (k lsC H locs hl hn ho hs hx)
theorem s_ladd (C : CX p R s m args meth c G y nx0 nxE) (hd : decode (mB y) pc = .ok (.ladd, 1)) (h : stp E y (.ladd) pc ls st nx M = some (.inl f')) (k : GW p l e R s m args below meth c Q G y nx0 f') : GW p l e R s m args below meth c Q G y nx0 (pc, ls, st, nx, M) := by
  unfold stp at h
  dsimp only at h
  obtain ⟨x, z, t, rfl, h⟩ := twoL_eq h
  cases go_eq h
  exact fun lsC H locs hl hn ho hs hx => lv_ladd C.1 C.2.1 hd (k lsC H locs hl hn ho hs hx)
theorem s_lsub (C : CX p R s m args meth c G y nx0 nxE) (hd : decode (mB y) pc = .ok (.lsub, 1)) (h : stp E y (.lsub) pc ls st nx M = some (.inl f')) (k : GW p l e R s m args below meth c Q G y nx0 f') : GW p l e R s m args below meth c Q G y nx0 (pc, ls, st, nx, M) := by
  unfold stp at h
  dsimp only at h
  obtain ⟨x, z, t, rfl, h⟩ := twoL_eq h
  cases go_eq h
  exact fun lsC H locs hl hn ho hs hx => lv_lsub C.1 C.2.1 hd (k lsC H locs hl hn ho hs hx)
theorem s_lmul (C : CX p R s m args meth c G y nx0 nxE) (hd : decode (mB y) pc = .ok (.lmul, 1)) (h : stp E y (.lmul) pc ls st nx M = some (.inl f')) (k : GW p l e R s m args below meth c Q G y nx0 f') : GW p l e R s m args below meth c Q G y nx0 (pc, ls, st, nx, M) := by
  unfold stp at h
  dsimp only at h
  obtain ⟨x, z, t, rfl, h⟩ := twoL_eq h
  cases go_eq h
  exact fun lsC H locs hl hn ho hs hx => lv_lmul C.1 C.2.1 hd (k lsC H locs hl hn ho hs hx)
theorem s_land (C : CX p R s m args meth c G y nx0 nxE) (hd : decode (mB y) pc = .ok (.land, 1)) (h : stp E y (.land) pc ls st nx M = some (.inl f')) (k : GW p l e R s m args below meth c Q G y nx0 f') : GW p l e R s m args below meth c Q G y nx0 (pc, ls, st, nx, M) := by
  unfold stp at h
  dsimp only at h
  obtain ⟨x, z, t, rfl, h⟩ := twoL_eq h
  cases go_eq h
  exact fun lsC H locs hl hn ho hs hx => lv_land C.1 C.2.1 hd (k lsC H locs hl hn ho hs hx)
theorem s_lor (C : CX p R s m args meth c G y nx0 nxE) (hd : decode (mB y) pc = .ok (.lor, 1)) (h : stp E y (.lor) pc ls st nx M = some (.inl f')) (k : GW p l e R s m args below meth c Q G y nx0 f') : GW p l e R s m args below meth c Q G y nx0 (pc, ls, st, nx, M) := by
  unfold stp at h
  dsimp only at h
  obtain ⟨x, z, t, rfl, h⟩ := twoL_eq h
  cases go_eq h
  exact fun lsC H locs hl hn ho hs hx => lv_lor C.1 C.2.1 hd (k lsC H locs hl hn ho hs hx)
theorem s_lxor (C : CX p R s m args meth c G y nx0 nxE) (hd : decode (mB y) pc = .ok (.lxor, 1)) (h : stp E y (.lxor) pc ls st nx M = some (.inl f')) (k : GW p l e R s m args below meth c Q G y nx0 f') : GW p l e R s m args below meth c Q G y nx0 (pc, ls, st, nx, M) := by
  unfold stp at h
  dsimp only at h
  obtain ⟨x, z, t, rfl, h⟩ := twoL_eq h
  cases go_eq h
  exact fun lsC H locs hl hn ho hs hx => lv_lxor C.1 C.2.1 hd (k lsC H locs hl hn ho hs hx)
theorem s_ldiv (C : CX p R s m args meth c G y nx0 nxE) (hd : decode (mB y) pc = .ok (.ldiv, 1)) (h : stp E y (.ldiv) pc ls st nx M = some (.inl f')) (k : GW p l e R s m args below meth c Q G y nx0 f') : GW p l e R s m args below meth c Q G y nx0 (pc, ls, st, nx, M) := by
  unfold stp at h
  dsimp only at h
  obtain ⟨x, z, t, rfl, h⟩ := twoL_eq h
  obtain ⟨hg, h⟩ := gd_eq h
  cases go_eq h
  exact fun lsC H locs hl hn ho hs hx => lv_ldiv C.1 C.2.1 hd (by simpa using hg) (k lsC H locs hl hn ho hs hx)
theorem s_lrem (C : CX p R s m args meth c G y nx0 nxE) (hd : decode (mB y) pc = .ok (.lrem, 1)) (h : stp E y (.lrem) pc ls st nx M = some (.inl f')) (k : GW p l e R s m args below meth c Q G y nx0 f') : GW p l e R s m args below meth c Q G y nx0 (pc, ls, st, nx, M) := by
  unfold stp at h
  dsimp only at h
  obtain ⟨x, z, t, rfl, h⟩ := twoL_eq h
  obtain ⟨hg, h⟩ := gd_eq h
  cases go_eq h
  exact fun lsC H locs hl hn ho hs hx => lv_lrem C.1 C.2.1 hd (by simpa using hg) (k lsC H locs hl hn ho hs hx)
theorem s_lcmp (C : CX p R s m args meth c G y nx0 nxE) (hd : decode (mB y) pc = .ok (.lcmp, 1)) (h : stp E y (.lcmp) pc ls st nx M = some (.inl f')) (k : GW p l e R s m args below meth c Q G y nx0 f') : GW p l e R s m args below meth c Q G y nx0 (pc, ls, st, nx, M) := by
  unfold stp at h
  dsimp only at h
  obtain ⟨x, z, t, rfl, h⟩ := twoL_eq h
  cases go_eq h
  exact fun lsC H locs hl hn ho hs hx => W.lcmp C.1 C.2.1 hd (k lsC H locs hl hn ho hs hx)
theorem s_ineg (C : CX p R s m args meth c G y nx0 nxE) (hd : decode (mB y) pc = .ok (.ineg, 1)) (h : stp E y (.ineg) pc ls st nx M = some (.inl f')) (k : GW p l e R s m args below meth c Q G y nx0 f') : GW p l e R s m args below meth c Q G y nx0 (pc, ls, st, nx, M) := by
  unfold stp at h
  dsimp only at h
  obtain ⟨x, t, rfl, h⟩ := one_eq h
  cases go_eq h
  exact fun lsC H locs hl hn ho hs hx => lv_ineg C.1 C.2.1 hd (k lsC H locs hl hn ho hs hx)
theorem s_lneg (C : CX p R s m args meth c G y nx0 nxE) (hd : decode (mB y) pc = .ok (.lneg, 1)) (h : stp E y (.lneg) pc ls st nx M = some (.inl f')) (k : GW p l e R s m args below meth c Q G y nx0 f') : GW p l e R s m args below meth c Q G y nx0 (pc, ls, st, nx, M) := by
  unfold stp at h
  dsimp only at h
  obtain ⟨x, t, rfl, h⟩ := oneL_eq h
  cases go_eq h
  exact fun lsC H locs hl hn ho hs hx => lv_lneg C.1 C.2.1 hd (k lsC H locs hl hn ho hs hx)
theorem s_i2l (C : CX p R s m args meth c G y nx0 nxE) (hd : decode (mB y) pc = .ok (.i2l, 1)) (h : stp E y (.i2l) pc ls st nx M = some (.inl f')) (k : GW p l e R s m args below meth c Q G y nx0 f') : GW p l e R s m args below meth c Q G y nx0 (pc, ls, st, nx, M) := by
  unfold stp at h
  dsimp only at h
  obtain ⟨x, t, rfl, h⟩ := one_eq h
  cases go_eq h
  exact fun lsC H locs hl hn ho hs hx => lv_i2l C.1 C.2.1 hd rfl (k lsC H locs hl hn ho hs hx)
theorem s_i2b (C : CX p R s m args meth c G y nx0 nxE) (hd : decode (mB y) pc = .ok (.i2b, 1)) (h : stp E y (.i2b) pc ls st nx M = some (.inl f')) (k : GW p l e R s m args below meth c Q G y nx0 f') : GW p l e R s m args below meth c Q G y nx0 (pc, ls, st, nx, M) := by
  unfold stp at h
  dsimp only at h
  obtain ⟨x, t, rfl, h⟩ := one_eq h
  cases go_eq h
  exact fun lsC H locs hl hn ho hs hx => lv_i2b C.1 C.2.1 hd rfl (k lsC H locs hl hn ho hs hx)
theorem s_i2c (C : CX p R s m args meth c G y nx0 nxE) (hd : decode (mB y) pc = .ok (.i2c, 1)) (h : stp E y (.i2c) pc ls st nx M = some (.inl f')) (k : GW p l e R s m args below meth c Q G y nx0 f') : GW p l e R s m args below meth c Q G y nx0 (pc, ls, st, nx, M) := by
  unfold stp at h
  dsimp only at h
  obtain ⟨x, t, rfl, h⟩ := one_eq h
  cases go_eq h
  exact fun lsC H locs hl hn ho hs hx => lv_i2c C.1 C.2.1 hd rfl (k lsC H locs hl hn ho hs hx)
theorem s_l2i (C : CX p R s m args meth c G y nx0 nxE) (hd : decode (mB y) pc = .ok (.l2i, 1)) (h : stp E y (.l2i) pc ls st nx M = some (.inl f')) (k : GW p l e R s m args below meth c Q G y nx0 f') : GW p l e R s m args below meth c Q G y nx0 (pc, ls, st, nx, M) := by
  unfold stp at h
  dsimp only at h
  obtain ⟨x, t, rfl, h⟩ := oneL_eq h
  cases go_eq h
  exact fun lsC H locs hl hn ho hs hx => lv_l2i C.1 C.2.1 hd rfl (k lsC H locs hl hn ho hs hx)
theorem s_lshl (C : CX p R s m args meth c G y nx0 nxE) (hd : decode (mB y) pc = .ok (.lshl, 1)) (h : stp E y (.lshl) pc ls st nx M = some (.inl f')) (k : GW p l e R s m args below meth c Q G y nx0 f') : GW p l e R s m args below meth c Q G y nx0 (pc, ls, st, nx, M) := by
  unfold stp at h
  dsimp only at h
  split at h
  · cases go_eq h
    exact fun lsC H locs hl hn ho hs hx => lv_lshl C.1 C.2.1 hd rfl (k lsC H locs hl hn ho hs hx)
  · cases h
theorem s_lshr (C : CX p R s m args meth c G y nx0 nxE) (hd : decode (mB y) pc = .ok (.lshr, 1)) (h : stp E y (.lshr) pc ls st nx M = some (.inl f')) (k : GW p l e R s m args below meth c Q G y nx0 f') : GW p l e R s m args below meth c Q G y nx0 (pc, ls, st, nx, M) := by
  unfold stp at h
  dsimp only at h
  split at h
  · cases go_eq h
    exact fun lsC H locs hl hn ho hs hx => lv_lshr C.1 C.2.1 hd rfl (k lsC H locs hl hn ho hs hx)
  · cases h
theorem s_lushr (C : CX p R s m args meth c G y nx0 nxE) (hd : decode (mB y) pc = .ok (.lushr, 1)) (h : stp E y (.lushr) pc ls st nx M = some (.inl f')) (k : GW p l e R s m args below meth c Q G y nx0 f') : GW p l e R s m args below meth c Q G y nx0 (pc, ls, st, nx, M) := by
  unfold stp at h
  dsimp only at h
  split at h
  · cases go_eq h
    exact fun lsC H locs hl hn ho hs hx => lv_lushr C.1 C.2.1 hd rfl (k lsC H locs hl hn ho hs hx)
  · cases h
theorem s_iconst {n : Int} (C : CX p R s m args meth c G y nx0 nxE) (hd : decode (mB y) pc = .ok (.iconst n, 1)) (h : stp E y (.iconst n) pc ls st nx M = some (.inl f')) (k : GW p l e R s m args below meth c Q G y nx0 f') : GW p l e R s m args below meth c Q G y nx0 (pc, ls, st, nx, M) := by
  unfold stp at h
  dsimp only at h
  cases go_eq h
  exact fun lsC H locs hl hn ho hs hx => lv_iconst C.1 C.2.1 hd rfl (k lsC H locs hl hn ho hs hx)
theorem s_bipush {n : Int} (C : CX p R s m args meth c G y nx0 nxE) (hd : decode (mB y) pc = .ok (.bipush n, 2)) (h : stp E y (.bipush n) pc ls st nx M = some (.inl f')) (k : GW p l e R s m args below meth c Q G y nx0 f') : GW p l e R s m args below meth c Q G y nx0 (pc, ls, st, nx, M) := by
  unfold stp at h
  dsimp only at h
  cases go_eq h
  exact fun lsC H locs hl hn ho hs hx => lv_bipush C.1 C.2.1 hd rfl (k lsC H locs hl hn ho hs hx)
theorem s_sipush {n : Int} (C : CX p R s m args meth c G y nx0 nxE) (hd : decode (mB y) pc = .ok (.sipush n, 3)) (h : stp E y (.sipush n) pc ls st nx M = some (.inl f')) (k : GW p l e R s m args below meth c Q G y nx0 f') : GW p l e R s m args below meth c Q G y nx0 (pc, ls, st, nx, M) := by
  unfold stp at h
  dsimp only at h
  cases go_eq h
  exact fun lsC H locs hl hn ho hs hx => lv_sipush C.1 C.2.1 hd rfl (k lsC H locs hl hn ho hs hx)
theorem s_lconst {n : Fin 2} (C : CX p R s m args meth c G y nx0 nxE) (hd : decode (mB y) pc = .ok (.lconst n, 1)) (h : stp E y (.lconst n) pc ls st nx M = some (.inl f')) (k : GW p l e R s m args below meth c Q G y nx0 f') : GW p l e R s m args below meth c Q G y nx0 (pc, ls, st, nx, M) := by
  unfold stp at h
  dsimp only at h
  cases go_eq h
  exact fun lsC H locs hl hn ho hs hx => lv_lconst C.1 C.2.1 hd rfl (k lsC H locs hl hn ho hs hx)
theorem s_aconst_null (C : CX p R s m args meth c G y nx0 nxE) (hd : decode (mB y) pc = .ok (.aconst_null, 1)) (h : stp E y (.aconst_null) pc ls st nx M = some (.inl f')) (k : GW p l e R s m args below meth c Q G y nx0 f') : GW p l e R s m args below meth c Q G y nx0 (pc, ls, st, nx, M) := by
  unfold stp at h
  dsimp only at h
  cases go_eq h
  exact fun lsC H locs hl hn ho hs hx => lv_null C.1 C.2.1 hd (k lsC H locs hl hn ho hs hx)
theorem s_goto {off : Int} (C : CX p R s m args meth c G y nx0 nxE) (hd : decode (mB y) pc = .ok (.goto off, 3)) (h : stp E y (.goto off) pc ls st nx M = some (.inl f')) (k : GW p l e R s m args below meth c Q G y nx0 f') : GW p l e R s m args below meth c Q G y nx0 (pc, ls, st, nx, M) := by
  unfold stp at h
  dsimp only at h
  obtain ⟨hj, h⟩ := gd_eq h
  cases go_eq h
  exact fun lsC H locs hl hn ho hs hx => lv_goto C.1 C.2.1 hd (jump_ok hj) (k lsC H locs hl hn ho hs hx)
theorem s_dup (C : CX p R s m args meth c G y nx0 nxE) (hd : decode (mB y) pc = .ok (.dup, 1)) (h : stp E y (.dup) pc ls st nx M = some (.inl f')) (k : GW p l e R s m args below meth c Q G y nx0 f') : GW p l e R s m args below meth c Q G y nx0 (pc, ls, st, nx, M) := by
  unfold stp at h
  dsimp only at h
  split at h
  · obtain ⟨hg, h⟩ := gd_eq h
    cases go_eq h
    exact fun lsC H locs hl hn ho hs hx => lv_dup C.1 C.2.1 hd (by rw [cat_cv]; exact eq_of_beq hg) (k lsC H locs hl hn ho hs hx)
  · cases h
theorem s_pop (C : CX p R s m args meth c G y nx0 nxE) (hd : decode (mB y) pc = .ok (.pop, 1)) (h : stp E y (.pop) pc ls st nx M = some (.inl f')) (k : GW p l e R s m args below meth c Q G y nx0 f') : GW p l e R s m args below meth c Q G y nx0 (pc, ls, st, nx, M) := by
  unfold stp at h
  dsimp only at h
  split at h
  · obtain ⟨hg, h⟩ := gd_eq h
    cases go_eq h
    exact fun lsC H locs hl hn ho hs hx => lv_pop C.1 C.2.1 hd (by rw [cat_cv]; exact eq_of_beq hg) (k lsC H locs hl hn ho hs hx)
  · cases h
theorem s_dup2 (C : CX p R s m args meth c G y nx0 nxE) (hd : decode (mB y) pc = .ok (.dup2, 1)) (h : stp E y (.dup2) pc ls st nx M = some (.inl f')) (k : GW p l e R s m args below meth c Q G y nx0 f') : GW p l e R s m args below meth c Q G y nx0 (pc, ls, st, nx, M) := by
  unfold stp at h
  dsimp only at h
  split at h
  · obtain ⟨hg, h⟩ := gd_eq h
    cases go_eq h
    obtain ⟨g1, g2⟩ := (Bool.and_eq_true _ _ ▸ hg : _ ∧ _)
    exact fun lsC H locs hl hn ho hs hx => lv_dup2_11 C.1 C.2.1 hd (by rw [cat_cv]; exact eq_of_beq g1) (by rw [cat_cv]; exact eq_of_beq g2) (k lsC H locs hl hn ho hs hx)
  · cases h
theorem s_ifnull {off : Int} (C : CX p R s m args meth c G y nx0 nxE) (hd : decode (mB y) pc = .ok (.ifnull off, 3)) (h : stp E y (.ifnull off) pc ls st nx M = some (.inl f')) (k : GW p l e R s m args below meth c Q G y nx0 f') : GW p l e R s m args below meth c Q G y nx0 (pc, ls, st, nx, M) := by
  unfold stp at h
  dsimp only at h
  split at h
  · cases go_eq h
    exact fun lsC H locs hl hn ho hs hx => lv_ifnull C.1 C.2.1 hd (k lsC H locs hl hn ho hs hx)
  · obtain ⟨hj, h⟩ := gd_eq h
    cases go_eq h
    exact fun lsC H locs hl hn ho hs hx => lv_ifnullN C.1 C.2.1 hd (jump_ok hj) (k lsC H locs hl hn ho hs hx)
  · cases h
theorem s_ifnonnull {off : Int} (C : CX p R s m args meth c G y nx0 nxE) (hd : decode (mB y) pc = .ok (.ifnonnull off, 3)) (h : stp E y (.ifnonnull off) pc ls st nx M = some (.inl f')) (k : GW p l e R s m args below meth c Q G y nx0 f') : GW p l e R s m args below meth c Q G y nx0 (pc, ls, st, nx, M) := by
  unfold stp at h
  dsimp only at h
  split at h
  · obtain ⟨hj, h⟩ := gd_eq h
    cases go_eq h
    exact fun lsC H locs hl hn ho hs hx => lv_ifnonnull C.1 C.2.1 hd (jump_ok hj) (k lsC H locs hl hn ho hs hx)
  · cases go_eq h
    exact fun lsC H locs hl hn ho hs hx => lv_ifnonnullN C.1 C.2.1 hd (k lsC H locs hl hn ho hs hx)
  · cases h
theorem s_ifCond {q : ClassFile.Cond} {off : Int} (C : CX p R s m args meth c G y nx0 nxE) (hd : decode (mB y) pc = .ok (.ifCond q off, 3)) (h : stp E y (.ifCond q off) pc ls st nx M = some (.inl f')) (k : GW p l e R s m args below meth c Q G y nx0 f') : GW p l e R s m args below meth c Q G y nx0 (pc, ls, st, nx, M) := by
  unfold stp at h
  dsimp only at h
  obtain ⟨x, t, rfl, h⟩ := one_eq h
  obtain ⟨hj, h⟩ := gd_eq h
  intro lsC H locs hl hn ho hs hx
  cases q with
  | eq => exact lv_if_eq C.1 C.2.1 hd (jump_ok hj) (fun P9 => by simp only [cb, P9, decide_true, if_true] at h; cases go_eq h; exact k lsC H locs hl hn ho hs hx) (fun P9 => by simp only [cb, P9, decide_false, Bool.false_eq_true, if_false] at h; cases go_eq h; exact k lsC H locs hl hn ho hs hx)
  | ne => exact lv_if_ne C.1 C.2.1 hd (jump_ok hj) (fun P9 => by simp only [cb, P9, decide_false, Bool.not_false, if_true] at h; cases go_eq h; exact k lsC H locs hl hn ho hs hx) (fun P9 => by simp only [cb, P9, decide_true, Bool.not_true, Bool.false_eq_true, if_false] at h; cases go_eq h; exact k lsC H locs hl hn ho hs hx)
  | lt => exact lv_if_lt C.1 C.2.1 hd (jump_ok hj) (fun P9 => by simp only [cb, P9, decide_true, if_true] at h; cases go_eq h; exact k lsC H locs hl hn ho hs hx) (fun P9 => by simp only [cb, P9, decide_false, Bool.false_eq_true, if_false] at h; cases go_eq h; exact k lsC H locs hl hn ho hs hx)
  | ge => exact lv_if_ge C.1 C.2.1 hd (jump_ok hj) (fun P9 => by simp only [cb, P9, decide_true, if_true] at h; cases go_eq h; exact k lsC H locs hl hn ho hs hx) (fun P9 => by simp only [cb, P9, decide_false, Bool.false_eq_true, if_false] at h; cases go_eq h; exact k lsC H locs hl hn ho hs hx)
  | gt => exact lv_if_gt C.1 C.2.1 hd (jump_ok hj) (fun P9 => by simp only [cb, P9, decide_true, if_true] at h; cases go_eq h; exact k lsC H locs hl hn ho hs hx) (fun P9 => by simp only [cb, P9, decide_false, Bool.false_eq_true, if_false] at h; cases go_eq h; exact k lsC H locs hl hn ho hs hx)
  | le => exact lv_if_le C.1 C.2.1 hd (jump_ok hj) (fun P9 => by simp only [cb, P9, decide_true, if_true] at h; cases go_eq h; exact k lsC H locs hl hn ho hs hx) (fun P9 => by simp only [cb, P9, decide_false, Bool.false_eq_true, if_false] at h; cases go_eq h; exact k lsC H locs hl hn ho hs hx)
theorem s_if_icmp {q : ClassFile.Cond} {off : Int} (C : CX p R s m args meth c G y nx0 nxE) (hd : decode (mB y) pc = .ok (.if_icmp q off, 3)) (h : stp E y (.if_icmp q off) pc ls st nx M = some (.inl f')) (k : GW p l e R s m args below meth c Q G y nx0 f') : GW p l e R s m args below meth c Q G y nx0 (pc, ls, st, nx, M) := by
  unfold stp at h
  dsimp only at h
  obtain ⟨x, z, t, rfl, h⟩ := two_eq h
  obtain ⟨hj, h⟩ := gd_eq h
  intro lsC H locs hl hn ho hs hx
  cases q with
  | eq => exact lv_icmp_eq C.1 C.2.1 hd (jump_ok hj) (fun P9 => by simp only [cb, P9, decide_true, if_true] at h; cases go_eq h; exact k lsC H locs hl hn ho hs hx) (fun P9 => by simp only [cb, P9, decide_false, Bool.false_eq_true, if_false] at h; cases go_eq h; exact k lsC H locs hl hn ho hs hx)
  | ne => exact lv_icmp_ne C.1 C.2.1 hd (jump_ok hj) (fun P9 => by simp only [cb, P9, decide_false, Bool.not_false, if_true] at h; cases go_eq h; exact k lsC H locs hl hn ho hs hx) (fun P9 => by simp only [cb, P9, decide_true, Bool.not_true, Bool.false_eq_true, if_false] at h; cases go_eq h; exact k lsC H locs hl hn ho hs hx)
  | lt => exact lv_icmp_lt C.1 C.2.1 hd (jump_ok hj) (fun P9 => by simp only [cb, P9, decide_true, if_true] at h; cases go_eq h; exact k lsC H locs hl hn ho hs hx) (fun P9 => by simp only [cb, P9, decide_false, Bool.false_eq_true, if_false] at h; cases go_eq h; exact k lsC H locs hl hn ho hs hx)
  | ge => exact lv_icmp_ge C.1 C.2.1 hd (jump_ok hj) (fun P9 => by simp only [cb, P9, decide_true, if_true] at h; cases go_eq h; exact k lsC H locs hl hn ho hs hx) (fun P9 => by simp only [cb, P9, decide_false, Bool.false_eq_true, if_false] at h; cases go_eq h; exact k lsC H locs hl hn ho hs hx)
  | gt => exact lv_icmp_gt C.1 C.2.1 hd (jump_ok hj) (fun P9 => by simp only [cb, P9, decide_true, if_true] at h; cases go_eq h; exact k lsC H locs hl hn ho hs hx) (fun P9 => by simp only [cb, P9, decide_false, Bool.false_eq_true, if_false] at h; cases go_eq h; exact k lsC H locs hl hn ho hs hx)
  | le => exact lv_icmp_le C.1 C.2.1 hd (jump_ok hj) (fun P9 => by simp only [cb, P9, decide_true, if_true] at h; cases go_eq h; exact k lsC H locs hl hn ho hs hx) (fun P9 => by simp only [cb, P9, decide_false, Bool.false_eq_true, if_false] at h; cases go_eq h; exact k lsC H locs hl hn ho hs hx)
end SND

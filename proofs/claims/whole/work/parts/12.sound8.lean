/-! SOUNDNESS, part eight: arraycopy; ends; all instructions; a method at any depth -/
section SND8
variable {p : Program} {l : Launch} {e : Env} {R : Room} {s : State} {m : MethodId} {args : Array Value} {below : List Frame} {meth : Method} {c : Code} {Q : State → Prop} {G : Wd} {y nx0 nxE d : Nat} {E : Hdl} {pc nx : Nat} {ls : Lcl} {st : List Value} {M M' : Mem} {f' : Fr}
theorem cpI_ne {k0 k1 sp dp n k' : Nat} (h : k' ≠ k1) (j : Nat) : cval (cpI M k0 k1 sp dp n) k' j = cval M k' j := cval_ne (M := M) (M' := cpI M k0 k1 sp dp n) (fun j => by unfold gI cpI u1; dsimp only; rw [if_neg h]) (fun _ => rfl) (fun _ => rfl) j
theorem s_copy {q y' n' k0 k1 : Nat} {sp dp n : Int32} {r : List Value} (C : CX p R s m args meth c G y nx0 nxE) (hd : decode (mB y) pc = .ok (.invokestatic q, 3)) (hq : lk tMl (pk y q) = some (7, y', n')) (g0 : k0 < nx) (g1 : k1 < nx) (t0 : (sh k0).1 = 100) (t1 : (sh k1).1 = 100) (h1 : ¬ sp < 0) (h2 : ¬ dp < 0) (h3 : ¬ n < 0) (h4 : sp.toNatClampNeg + n.toNatClampNeg ≤ (sh k0).2) (h5 : dp.toNatClampNeg + n.toNatClampNeg ≤ (sh k1).2) (hw : wt r ≤ 8) (k : GW p l e R s m args below meth c Q G y nx0 (pc + 3, ls, r, nx, cpI M k0 k1 sp.toNatClampNeg dp.toNatClampNeg n.toNatClampNeg)) : GW p l e R s m args below meth c Q G y nx0 (pc, ls, .int n :: .int dp :: .ref k1 :: .int sp :: .ref k0 :: r, nx, M) := by
  obtain ⟨hy', hck, hlw, hmem, o1, o2⟩ := tM_word hq
  have hlink : Cond.methodLink (oS (mO y)) q arraycopyName ∈ gtl := by
    have := hlw rfl
    unfold lkW at this
    dsimp only at this
    rw [o1, o2] at this
    exact this
  have nn : ∀ z : Int32, ¬ z < 0 → z.toInt = (z.toNatClampNeg : Int) := by
    intro z hz
    have hz0 : (0 : Int) ≤ z.toInt := by
      have := Int32.not_lt.mp hz
      simpa using Int32.le_iff_toInt_le.mp this
    show z.toInt = ((z.toInt.toNat : Nat) : Int)
    omega
  have hKW := C.2.2.2.2.2.2.1
  have hts := C.2.2.2.2.1
  have hRl := C.2.2.2.2.2.2.2.2.2.2
  intro lsC H locs hl hn ho hs hx T hT X
  have cell : ∀ k', k' < nx → (sh k').1 = 100 → H[ad G k']? = some (vp_cell (w_A G 0) ((sh k').2, .inl (M.1 k'))) := by
    intro k' hk' ht
    rw [ad_new hn.2.1 hk']
    have := hn.arr hk' (by omega)
    rw [ht] at this
    rw [this, vp_cell_i]
    congr 2
    funext j
    show cv G (cval M k' j) = _
    rw [cval_i (by omega) (by omega)]
    rfl
  have hc0 := cell k0 g0 t0
  have hc1 := cell k1 g1 t1
  obtain ⟨-, kk0, hk0, cm0, hkk0⟩ := (hKW.1.2 0 _ rfl).1 (sh k0).2 (fun j => .int (M.1 k0 j))
  obtain ⟨-, kk1, hk1, cm1, hkk1⟩ := (hKW.1.2 0 _ rfl).1 (sh k1).2 (fun j => .int (M.1 k1 j))
  have hrm : ((r.map (cv G)).map fun v => v.category).sum + (nativeFrameWords "java/lang/System" "arraycopy" 5 + 11) ≤ R.locals := by
    rw [wt_sum]
    have e9 : nativeFrameWords "java/lang/System" "arraycopy" 5 = 7 := by decide +kernel
    have := hRl.2
    omega
  obtain ⟨vm', X', step⟩ := X.arraycopy C.1 C.2.2.2.1 (hts _ hlink) (hts _ misc8.2.1) (hts _ misc8.2.2.1) (hts _ misc8.2.2.2.1) (src := ad G k0) (dst := ad G k1) (cs := vp_cell (w_A G 0) ((sh k0).2, .inl (M.1 k0))) (cd := vp_cell (w_A G 0) ((sh k1).2, .inl (M.1 k1))) (srcPos := sp) (destPos := dp) (n := n) (by rw [hT]; exact hc0) (by rw [hT]; exact hc1)
    (fun _ h => by cases h) (fun _ h => by cases h) (fun h => by cases h) (fun h => by cases h) hk0 hk1 hkk0 hkk1 (by simp [refKind]) h1 h2 h3
    (by rw [nn sp h1, nn n h3]; show ¬ _ > ((arrV (w_A G 0) (sh k0).2 (fun j => .int (M.1 k0 j))).slots.size : Int); rw [arrV_size]; omega)
    (by rw [nn dp h2, nn n h3]; show ¬ _ > ((arrV (w_A G 0) (sh k1).2 (fun j => .int (M.1 k1 j))).slots.size : Int); rw [arrV_size]; omega)
    (fun vm₁ _ i hi => by
      have e9 : (vp_cell (w_A G 0) ((sh k0).2, .inl (M.1 k0))).slots.getD (sp.toNatClampNeg + i) .null = .int (M.1 k0 (sp.toNatClampNeg + i)) := by
        show (arrV (w_A G 0) (sh k0).2 (fun j => .int (M.1 k0 j))).slots.getD _ _ = _
        rw [Array.getD_eq_getD_getElem?, arrV_read _ _ (by omega)]
        rfl
      refine ⟨?_, ?_⟩
      · rw [e9]
        rfl
      · rw [e9]
        exact trivial)
    (g := F0 m pc lsC (.int n :: .int dp :: .ref (ad G k1) :: .int sp :: .ref (ad G k0) :: r.map (cv G))) rfl (hl.1.trans C.2.2.1.symm) (rest := r.map (cv G)) rfl (by rw [C.2.1]; exact hd) hRl.1 (by show 2 * 0 + _ + _ ≤ _; omega)
  have e1 : copied (vp_cell (w_A G 0) ((sh k0).2, .inl (M.1 k0))) (vp_cell (w_A G 0) ((sh k1).2, .inl (M.1 k1))) sp dp n = vp_cell (w_A G 0) ((sh k1).2, .inl (va_cpy (M.1 k0) (M.1 k1) sp.toNatClampNeg dp.toNatClampNeg n.toNatClampNeg)) := va_copied (fun z => .int z) (w_A G 0) (w_A G 0) (M.1 k0) (M.1 k1) h4
  rw [e1] at X' step
  have hlt : ad G k1 < H.size := (Array.getElem?_eq_some_iff.mp hc1).1
  generalize hH1 : H.setIfInBounds (ad G k1) (vp_cell (w_A G 0) ((sh k1).2, .inl (va_cpy (M.1 k0) (M.1 k1) sp.toNatClampNeg dp.toNatClampNeg n.toNatClampNeg))) = H1
  have hheap : ((T.setVm vm').setCell (ad G k1) (vp_cell (w_A G 0) ((sh k1).2, .inl (va_cpy (M.1 k0) (M.1 k1) sp.toNatClampNeg dp.toNatClampNeg n.toNatClampNeg)))).heap = H1 := by rw [← hH1, ← hT]; rfl
  have oq : ∀ q : Nat, q ≠ ad G k1 → H1[q]? = H[q]? := fun q hq => by rw [← hH1]; simp [Array.getElem?_setIfInBounds, Ne.symm hq]
  have z : H1.size = H.size := by rw [← hH1]; simp
  have e2 : H1[ad G k1]? = some (vp_cell (w_A G 0) ((sh k1).2, .inl (va_cpy (M.1 k0) (M.1 k1) sp.toNatClampNeg dp.toNatClampNeg n.toNatClampNeg))) := by rw [← hH1]; simp [Array.getElem?_setIfInBounds, hlt]
  have hA := ad_new (G := G) hn.2.1 g1
  have hN : HN G nx (cpI M k0 k1 sp.toNatClampNeg dp.toNatClampNeg n.toNatClampNeg) H1 := by
    refine hn.upd g1 z (fun q' hq' => oq q' (by rw [hA]; exact hq')) (fun k' hk' j => cpI_ne hk' j) ?_
    unfold cP
    rw [if_neg (by omega), ← hA, e2, t1, vp_cell_i]
    congr 2
    funext j
    rw [cval_i (by omega) (by omega)]
    show _ = Value.int _
    unfold gI cpI u1
    dsimp only
    rw [if_pos rfl]
  have hO : OM G (cpI M k0 k1 sp.toNatClampNeg dp.toNatClampNeg n.toNatClampNeg) := ho.to rfl (fun k' j' h' => by
    unfold gI cpI u1
    dsimp only
    rw [if_neg (by have := NX1000; have := hn.2.1; dsimp only at this; omega)])
  obtain ⟨t, a1, b1⟩ := k lsC H1 _ hl hN hO ⟨by rw [z]; exact hs.1, fun q g1' g2' => by
      rw [oq q (fun e => g2' (by rw [e]; exact AR_new hn.2.1 g1))]
      exact hs.2.1 q g1' g2', fun q hq => by
      rcases List.mem_append.mp hq with h | h
      · exact hs.2.2 q h
      · obtain ⟨z, -, hz⟩ := List.mem_map.mp h
        rw [← hz]
        exact AR_new hn.2.1 g1⟩ hx _ hheap X'
  exact ⟨t, step t a1, b1⟩
theorem cpA_eq {g : Mem → List Value → Option (Fr ⊕ Res)} {v : Fr ⊕ Res} (h : cpA st nx M g = some v) : ∃ n dp k1 sp k0 r, st = .int n :: .int dp :: .ref k1 :: .int sp :: .ref k0 :: r ∧ k0 < nx ∧ k1 < nx ∧ (sh k0).1 = 100 ∧ (sh k1).1 = 100 ∧ ¬ sp < 0 ∧ ¬ dp < 0 ∧ ¬ n < 0 ∧ sp.toNatClampNeg + n.toNatClampNeg ≤ (sh k0).2 ∧ dp.toNatClampNeg + n.toNatClampNeg ≤ (sh k1).2 ∧ wt r ≤ 8 ∧ g (cpI M k0 k1 sp.toNatClampNeg dp.toNatClampNeg n.toNatClampNeg) r = some v := by
  unfold cpA at h
  split at h
  · split at h
    · rename_i n dp k1 sp k0 r hg
      simp only [Bool.and_eq_true, decide_eq_true_eq] at hg
      obtain ⟨⟨⟨⟨⟨⟨⟨⟨⟨a1, a2⟩, a3⟩, a4⟩, a5⟩, a6⟩, a7⟩, a8⟩, a9⟩, a10⟩ := hg
      exact ⟨_, _, _, _, _, _, rfl, okW_ok a1, okW_ok a2, eq_of_beq a3, eq_of_beq a4, a5, a6, a7, a8, a9, a10, h⟩
    · cases h
  · cases h
/-! the number of cells only grows -/
def mono (E : Hdl) : Prop := ∀ y as nx M r, E y as nx M = some r → nx ≤ r.2.1
theorem go_nx {pc' : Nat} {ls' : Lcl} {st' : List Value} {nx' : Nat} {M1 : Mem} (h : go pc' ls' st' nx' M1 = some (.inl f')) : f'.2.2.2.1 = nx' := by rw [go_eq h]
theorem s_invokestatic {q : Nat} (hSD : SD l d) (hmn : mono (ev d)) (hR : d + 2 ≤ R.frames ∧ 64 * d + 320 ≤ R.locals) (C : CX p R s m args meth c G y nx0 nxE) (hd : decode (mB y) pc = .ok (.invokestatic q, 3)) (h : stp (ev d) y (.invokestatic q) pc ls st nx M = some (.inl f')) (hE : f'.2.2.2.1 ≤ nxE) (k : GW p l e R s m args below meth c Q G y nx0 f') : GW p l e R s m args below meth c Q G y nx0 (pc, ls, st, nx, M) := by
  unfold stp at h
  dsimp only at h
  split at h
  · rename_i y' n hq
    obtain ⟨hg, h⟩ := gd_eq h
    have hm : nx ≤ f'.2.2.2.1 := by
      obtain ⟨r, nx', M', hev, rfl⟩ := callE_eq h
      exact hmn _ _ _ _ _ hev
    exact s_callS hSD hR C hd hq hg h hm hE k
  · rename_i y' n hq
    obtain ⟨hg, h⟩ := gd_eq h
    have hm : nx ≤ f'.2.2.2.1 := by
      obtain ⟨r, nx', M', hev, rfl⟩ := callE_eq h
      exact hmn _ _ _ _ _ hev
    exact s_callSN hSD hR C hd hq hg h hm hE k
  · rename_i y' n hq
    obtain ⟨n, dp, k1, sp, k0, r, rfl, a1, a2, a3, a4, a5, a6, a7, a8, a9, a10, h⟩ := cpA_eq h
    cases go_eq h
    exact s_copy C hd hq a1 a2 a3 a4 a5 a6 a7 a8 a9 a10 k
  · rename_i y' n hq
    obtain ⟨x, z, r, rfl, h⟩ := two_eq h
    obtain ⟨hg, h⟩ := gd_eq h
    cases go_eq h
    exact s_max C hE hd hq hg k
  · rename_i y' n hq
    obtain ⟨x, z, r, rfl, h⟩ := two_eq h
    obtain ⟨hg, h⟩ := gd_eq h
    cases go_eq h
    exact s_min C hE hd hq hg k
  · rename_i y' n hq
    obtain ⟨x, r, rfl, h⟩ := one_eq h
    obtain ⟨hg, h⟩ := gd_eq h
    cases go_eq h
    exact s_abs C hE hd hq hg k
  · rename_i y' n hq
    obtain ⟨x, z, r, rfl, h⟩ := twoL_eq h
    obtain ⟨hg, h⟩ := gd_eq h
    cases go_eq h
    exact s_maxl C hE hd hq hg k
  · rename_i y' n hq
    obtain ⟨x, z, r, rfl, h⟩ := twoL_eq h
    obtain ⟨hg, h⟩ := gd_eq h
    cases go_eq h
    exact s_minl C hE hd hq hg k
  · rename_i y' n hq
    obtain ⟨x, z, r, rfl, h⟩ := two_eq h
    obtain ⟨hg, h⟩ := gd_eq h
    cases go_eq h
    exact s_chk C (by omega) hE hd hq hg k
  · cases h
theorem s_invokevirtual {q : Nat} (hSD : SD l d) (hmn : mono (ev d)) (hR : d + 2 ≤ R.frames ∧ 64 * d + 320 ≤ R.locals) (C : CX p R s m args meth c G y nx0 nxE) (hd : decode (mB y) pc = .ok (.invokevirtual q, 3)) (h : stp (ev d) y (.invokevirtual q) pc ls st nx M = some (.inl f')) (hE : f'.2.2.2.1 ≤ nxE) (k : GW p l e R s m args below meth c Q G y nx0 f') : GW p l e R s m args below meth c Q G y nx0 (pc, ls, st, nx, M) := by
  unfold stp at h
  dsimp only at h
  split at h
  · rename_i y' n hq
    obtain ⟨hg, h⟩ := gd_eq h
    have hm : nx ≤ f'.2.2.2.1 := by
      obtain ⟨r, nx', M', hev, rfl⟩ := callE_eq h
      exact hmn _ _ _ _ _ hev
    exact s_callV hSD hR C hd hq hg h hm hE k
  · cases h
theorem s_invokespecial {q : Nat} (hSD : SD l d) (hmn : mono (ev d)) (hR : d + 2 ≤ R.frames ∧ 64 * d + 320 ≤ R.locals) (C : CX p R s m args meth c G y nx0 nxE) (hd : decode (mB y) pc = .ok (.invokespecial q, 3)) (h : stp (ev d) y (.invokespecial q) pc ls st nx M = some (.inl f')) (hE : f'.2.2.2.1 ≤ nxE) (k : GW p l e R s m args below meth c Q G y nx0 f') : GW p l e R s m args below meth c Q G y nx0 (pc, ls, st, nx, M) := by
  unfold stp at h
  dsimp only at h
  split at h
  · rename_i y' n hq
    obtain ⟨hg, h⟩ := gd_eq h
    have hm : nx ≤ f'.2.2.2.1 := by
      obtain ⟨r, nx', M', hev, rfl⟩ := callE_eq h
      exact hmn _ _ _ _ _ hev
    exact s_callI hSD hR C hd (Or.inl hq) hg h hm hE k
  · rename_i y' n hq
    obtain ⟨hg, h⟩ := gd_eq h
    have hm : nx ≤ f'.2.2.2.1 := by
      obtain ⟨r, nx', M', hev, rfl⟩ := callE_eq h
      exact hmn _ _ _ _ _ hev
    exact s_callI hSD hR C hd (Or.inr hq) hg h hm hE k
  · rename_i y' n hq
    obtain ⟨a, r, rfl, h⟩ := oneR_eq h
    obtain ⟨hg, h⟩ := gd_eq h
    cases go_eq h
    exact s_objInit C hd hq hg k
  · cases h
end SND8

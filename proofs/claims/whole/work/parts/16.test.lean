theorem x_isIn {d nx : Nat} {M : Mem} {v lo hi : Int32} : ev (d + 1) m_M_isIn [.int v, .int lo, .int hi] nx M = some (some (.int (if lo ≤ v ∧ v ≤ hi then 1 else 0)), nx, M) := by
  rw [e_M_isIn]
  simp only [r_M_isIn_0, r_M_isIn_1, r_M_isIn_2, r_M_isIn_5, r_M_isIn_6, r_M_isIn_7, r_M_isIn_10, r_M_isIn_11, r_M_isIn_14, r_M_isIn_15, zok_0, zok_1, if_true]
  trace_state
  sorry
theorem x_has {d nx : Nat} {M : Mem} {s k : Int32} : ev (d + 1) m_M_has [.int s, .int k] nx M = some (some (.int (if s >>> (k &&& 31) &&& 1 = 1 then 1 else 0)), nx, M) := by
  rw [e_M_has]
  simp only [r_M_has_0, r_M_has_1, r_M_has_2, r_M_has_3, r_M_has_4, r_M_has_5, r_M_has_6, r_M_has_9, r_M_has_10, r_M_has_13, r_M_has_14, zok_0, zok_1, if_true]
  trace_state
  sorry
theorem x_those {d : Nat} {M : Mem} {how : Int32} : ev (d + 1) m_M_those [.ref 174, .int how] NX M = some (some (.int 0), NX, M) := by
  rw [e_M_those]
  simp only [r_M_those_0, r_M_those_1, r_M_those_2, r_M_those_3]
  trace_state
  sorry

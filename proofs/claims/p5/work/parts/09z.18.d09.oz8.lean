/-! More of what the functions leave. -/

theorem q_X10_isKnown_1_4_38 (u0 : ac_U) (p1 : Int32) (u : ac_U) (h : ac_Fr [(1, some 9), (1, some 10), (1, some 11)] u0 u) : ac_Fr [(1, some 9), (1, some 10), (1, some 11)] u0 (K_X10_isKnown_1_4_38 u0 p1 u).1 := by
  unfold K_X10_isKnown_1_4_38
  exact (fr_bd (h.tr (q_X10_fail_1 u (3 : Int32)) (by decide)) (fun (u1 : ac_U) (r1 : Int32) h1 => h1))
theorem q_X10_isKnown_1_4 (u0 : ac_U) (p1 : Int32) : ac_Fr [(1, some 9), (1, some 10), (1, some 11)] u0 (f_X10_isKnown_1_4 u0 p1).1 := by
  unfold f_X10_isKnown_1_4
  exact (fr_if (fr_vl (fun (r5 : Int32) => (fr_if (q_X10_isKnown_1_4_38 u0 p1 u0 ac_Fr.rf) (fr_vl (fun (v7 : Int32) => (fr_if (fr_vl (fun (v9 : Int32) => (fr_I ac_Fr.rf rfl))) (q_X10_isKnown_1_4_38 u0 p1 u0 ac_Fr.rf))))))) (fr_bd (ac_Fr.rf.tr (q_X10_fail_1 u0 (1 : Int32)) (by decide)) (fun (u10 : ac_U) (r10 : Int32) h10 => h10)))


/-! More of what the functions leave. -/


theorem q_X6_passHours_24 (u0 : ac_U) (p0 : Int32) : ac_Fr [(25, none)] u0 (f_X6_passHours_24 u0 p0).1 := by
  unfold f_X6_passHours_24
  exact (fr_vl (fun (r1 : Int32) => (fr_vl (fun (v4 : Int32) => (fr_vl (fun (v5 : Int32) => (fr_I (fr_I ac_Fr.rf rfl) rfl)))))))


theorem q_X0_liveHours_39 (u0 : ac_U) (p0 : Int32) : ac_Fr [(25, none)] u0 (f_X0_liveHours_39 u0 p0).1 := by
  unfold f_X0_liveHours_39
  exact (fr_vl (fun (r1 : Int32) => (fr_if (fr_bd (ac_Fr.rf.tr (q_X6_passHours_24 u0 p0) (by decide)) (fun (u5 : ac_U) (r5 : Int32) h5 => h5)) ac_Fr.rf)))

theorem q_X6_tryDo_24_107 (u0 : ac_U) (p0 : Int32) (p1 : Int32) (u : ac_U) (x3 : Int32) (h : ac_Fr [(25, none), (26, none)] u0 u) : ac_Fr [(25, none), (26, none)] u0 (K_X6_tryDo_24_107 u0 p0 p1 u x3).1 := by
  unfold K_X6_tryDo_24_107
  exact h
theorem q_X6_tryDo_24 (u0 : ac_U) (p0 : Int32) (p1 : Int32) : ac_Fr [(25, none), (26, none)] u0 (f_X6_tryDo_24 u0 p0 p1).1 := by
  unfold f_X6_tryDo_24
  exact (fr_vl (fun (r1 : Int32) => (fr_if (q_X6_tryDo_24_107 u0 p0 p1 u0 r1 ac_Fr.rf) (fr_vl (fun (v4 : Int32) => (fr_vl (fun (v5 : Int32) => (fr_vl (fun (v7 : Int32) => (fr_vl (fun (v8 : Int32) => (fr_vl (fun (v9 : Int32) => (fr_vl (fun (v10 : Int32) => (fr_vl (fun (v11 : Int32) => (fr_vl (fun (v12 : Int32) => (fr_vl (fun (v13 : Int32) => (fr_vl (fun (v14 : Int32) => (fr_vl (fun (v15 : Int32) => (fr_vl (fun (v16 : Int32) => (fr_vl (fun (v17 : Int32) => (q_X6_tryDo_24_107 u0 p0 p1 (pI (pI (pI (pI (pI (pI (pI u0 26 v5.toNatClampNeg (u0.1 25 0)) 26 v7.toNatClampNeg p0) 26 v8.toNatClampNeg p1) 26 v9.toNatClampNeg v11) 25 1 v13) 25 2 v14) 25 v15.toNatClampNeg v17) r1 (fr_I (fr_I (fr_I (fr_I (fr_I (fr_I (fr_I ac_Fr.rf rfl) rfl) rfl) rfl) rfl) rfl) rfl)))))))))))))))))))))))))))))))

theorem q_X6_tryGo_24_45 (u0 : ac_U) (p0 : Int32) (p1 : Int32) (u : ac_U) (x3 : Int32) (h : ac_Fr [(25, none)] u0 u) : ac_Fr [(25, none)] u0 (K_X6_tryGo_24_45 u0 p0 p1 u x3).1 := by
  unfold K_X6_tryGo_24_45
  exact h
theorem q_X6_tryGo_24 (u0 : ac_U) (p0 : Int32) (p1 : Int32) : ac_Fr [(25, none)] u0 (f_X6_tryGo_24 u0 p0 p1).1 := by
  unfold f_X6_tryGo_24
  exact (fr_vl (fun (r1 : Int32) => (fr_if (q_X6_tryGo_24_45 u0 p0 p1 u0 r1 ac_Fr.rf) (fr_vl (fun (v3 : Int32) => (fr_vl (fun (v4 : Int32) => (fr_vl (fun (v5 : Int32) => (fr_vl (fun (v6 : Int32) => (fr_vl (fun (v7 : Int32) => (fr_vl (fun (v8 : Int32) => (q_X6_tryGo_24_45 u0 p0 p1 (pI (pI (pI u0 25 1 v4) 25 v5.toNatClampNeg p1) 25 v6.toNatClampNeg v8) r1 (fr_I (fr_I (fr_I ac_Fr.rf rfl) rfl) rfl)))))))))))))))))

theorem q_X6_trySay_24_43 (u0 : ac_U) (p0 : Int32) (p1 : Int32) (u : ac_U) (x3 : Int32) (h : ac_Fr [(25, none)] u0 u) : ac_Fr [(25, none)] u0 (K_X6_trySay_24_43 u0 p0 p1 u x3).1 := by
  unfold K_X6_trySay_24_43
  exact h
theorem q_X6_trySay_24 (u0 : ac_U) (p0 : Int32) (p1 : Int32) : ac_Fr [(25, none)] u0 (f_X6_trySay_24 u0 p0 p1).1 := by
  unfold f_X6_trySay_24
  exact (fr_vl (fun (r1 : Int32) => (fr_if (q_X6_trySay_24_43 u0 p0 p1 u0 r1 ac_Fr.rf) (fr_vl (fun (v3 : Int32) => (fr_vl (fun (v5 : Int32) => (fr_vl (fun (v6 : Int32) => (fr_vl (fun (v7 : Int32) => (q_X6_trySay_24_43 u0 p0 p1 (pI (pI u0 25 v3.toNatClampNeg (u0.1 25 0)) 25 v5.toNatClampNeg v7) r1 (fr_I (fr_I ac_Fr.rf rfl) rfl)))))))))))))


theorem q_X0_liveLine_39 (u0 : ac_U) (p0 : Int32) : ac_Fr [(25, none), (26, none)] u0 (f_X0_liveLine_39 u0 p0).1 := by
  unfold f_X0_liveLine_39
  exact (fr_vl (fun (v1 : Int32) => (fr_if (fr_vl (fun (v3 : Int32) => (fr_bd (ac_Fr.rf.tr (q_X0_liveHours_39 u0 v3) (by decide)) (fun (u4 : ac_U) (r4 : Int32) h4 => h4)))) (fr_if (fr_vl (fun (v5 : Int32) => (fr_vl (fun (v6 : Int32) => (fr_bd (ac_Fr.rf.tr (q_X6_tryGo_24 u0 v5 v6) (by decide)) (fun (u7 : ac_U) (r7 : Int32) h7 => h7)))))) (fr_if (fr_vl (fun (v8 : Int32) => (fr_vl (fun (v9 : Int32) => (fr_bd (ac_Fr.rf.tr (q_X6_tryDo_24 u0 v8 v9) (by decide)) (fun (u10 : ac_U) (r10 : Int32) h10 => h10)))))) (fr_vl (fun (v11 : Int32) => (fr_vl (fun (v12 : Int32) => (fr_bd (ac_Fr.rf.tr (q_X6_trySay_24 u0 v11 v12) (by decide)) (fun (u13 : ac_U) (r13 : Int32) h13 => h13)))))))))))

theorem q_X0_live_39_63 (u0 : ac_U) (u : ac_U) (h : ac_Fr [(25, none), (26, none), (39, some 7), (39, some 8), (39, some 9)] u0 u) : ac_Fr [(25, none), (26, none), (39, some 7), (39, some 8), (39, some 9)] u0 (K_X0_live_39_63 u0 u) := by
  unfold K_X0_live_39_63
  exact (fr_I h rfl)
theorem q_X0_live_39_53 (u0 : ac_U) (B12 : ac_U → Int32 → ac_U) (hB12 : ∀ (u : ac_U) (x1 : Int32), ac_Fr [(25, none), (26, none), (39, some 7), (39, some 8), (39, some 9)] u0 u → ac_Fr [(25, none), (26, none), (39, some 7), (39, some 8), (39, some 9)] u0 (B12 u x1)) (u : ac_U) (x1 : Int32) (z1 : Int32) (z2 : Int32) (h : ac_Fr [(25, none), (26, none), (39, some 7), (39, some 8), (39, some 9)] u0 u) : ac_Fr [(25, none), (26, none), (39, some 7), (39, some 8), (39, some 9)] u0 (K_X0_live_39_53 B12 u0 u x1 z1 z2) := by
  unfold K_X0_live_39_53
  exact (fr_vlv (fun (v2 : Int32) => (fr_vlv (fun (v3 : Int32) => (hB12 (pI u 39 8 v2) v3 (fr_I h rfl))))))
theorem q_X0_live_39_12_b (u0 : ac_U) (B12 : ac_U → Int32 → ac_U) (hB12 : ∀ (u : ac_U) (x1 : Int32), ac_Fr [(25, none), (26, none), (39, some 7), (39, some 8), (39, some 9)] u0 u → ac_Fr [(25, none), (26, none), (39, some 7), (39, some 8), (39, some 9)] u0 (B12 u x1)) (u : ac_U) (x1 : Int32) (h : ac_Fr [(25, none), (26, none), (39, some 7), (39, some 8), (39, some 9)] u0 u) : ac_Fr [(25, none), (26, none), (39, some 7), (39, some 8), (39, some 9)] u0 (K_X0_live_39_12_b B12 u0 u x1) := by
  unfold K_X0_live_39_12_b
  exact (fr_ifv (q_X0_live_39_63 u0 u h) (fr_ifv (q_X0_live_39_63 u0 u h) (fr_bdv (h.tr (q_X0_liveLine_39 u x1) (by decide)) (fun (u7 : ac_U) (r7 : Int32) h7 => (fr_ifv (q_X0_live_39_53 u0 B12 hB12 (pI u7 39 7 r7) x1 (u7.1 39 8) (0 : Int32) (fr_I h7 rfl)) (q_X0_live_39_53 u0 B12 hB12 (pI u7 39 7 r7) x1 (u7.1 39 8) (1 : Int32) (fr_I h7 rfl)))))))
theorem q_X0_live_39_12 (u0 : ac_U) : ∀ n : Nat, ∀ (u : ac_U) (x1 : Int32), ac_Fr [(25, none), (26, none), (39, some 7), (39, some 8), (39, some 9)] u0 u → ac_Fr [(25, none), (26, none), (39, some 7), (39, some 8), (39, some 9)] u0 (K_X0_live_39_12 u0 n u x1)
  | 0 => fun u _ h => h
  | n + 1 => fun u x1 h => q_X0_live_39_12_b u0 (K_X0_live_39_12 u0 n) (q_X0_live_39_12 u0 n) u x1 h
theorem q_X0_live_39 (u0 : ac_U) : ac_Fr [(25, none), (26, none), (39, some 7), (39, some 8), (39, some 9)] u0 (f_X0_live_39 u0) := by
  unfold f_X0_live_39
  exact (q_X0_live_39_12 u0 42 (pI (pI u0 39 7 (0 : Int32)) 39 8 (0 : Int32)) (0 : Int32) (fr_I (fr_I ac_Fr.rf rfl) rfl))


theorem q_X10_takeKnown_1_4 (u0 : ac_U) (p1 : Int32) : ac_Fr [(1, some 4), (1, some 5), (1, some 6), (1, some 8), (1, some 9), (1, some 10), (1, some 11)] u0 (f_X10_takeKnown_1_4 u0 p1).1 := by
  unfold f_X10_takeKnown_1_4
  exact (fr_cv (ac_Fr.rf.tr (q_X10_readNext_1 u0) (by decide)) (fun (u1 : ac_U) h1 => (fr_bd (h1.tr (q_X10_isKnown_1_4 u1 p1) (by decide)) (fun (u2 : ac_U) (r2 : Int32) h2 => h2))))


theorem q_X5_weighDeed_29_169 (u0 : ac_U) (p0 : Int32) (p1 : Int32) (p2 : Int32) (u : ac_U) (x5 : Int32) (h : ac_Fr [(29, some 4), (30, none)] u0 u) : ac_Fr [(29, some 4), (30, none)] u0 (K_X5_weighDeed_29_169 u0 p0 p1 p2 u x5) := by
  unfold K_X5_weighDeed_29_169
  exact (fr_vlv (fun (v1 : Int32) => (fr_vlv (fun (v2 : Int32) => (fr_I h rfl)))))
theorem q_X5_weighDeed_29_143 (u0 : ac_U) (p0 : Int32) (p1 : Int32) (p2 : Int32) (u : ac_U) (x5 : Int32) (x6 : Int32) (x7 : Int32) (h : ac_Fr [(29, some 4), (30, none)] u0 u) : ac_Fr [(29, some 4), (30, none)] u0 (K_X5_weighDeed_29_143 u0 p0 p1 p2 u x5 x6 x7) := by
  unfold K_X5_weighDeed_29_143
  exact (fr_vlv (fun (r3 : Int32) => (fr_ifv h (fr_ifv (q_X5_weighDeed_29_169 u0 p0 p1 p2 u x5 h) (fr_vlv (fun (v6 : Int32) => (fr_ifv h (q_X5_weighDeed_29_169 u0 p0 p1 p2 u x5 h))))))))
theorem q_X5_weighDeed_29_61 (u0 : ac_U) (p0 : Int32) (p1 : Int32) (p2 : Int32) (u : ac_U) (x4 : Int32) (x5 : Int32) (z0 : Int32) (h : ac_Fr [(29, some 4), (30, none)] u0 u) : ac_Fr [(29, some 4), (30, none)] u0 (K_X5_weighDeed_29_61 u0 p0 p1 p2 u x4 x5 z0) := by
  unfold K_X5_weighDeed_29_61
  exact (fr_vlv (fun (r8 : Int32) => (fr_ifv (q_X5_weighDeed_29_143 u0 p0 p1 p2 u x5 z0 r8 h) (fr_vlv (fun (r10 : Int32) => (fr_ifv (q_X5_weighDeed_29_143 u0 p0 p1 p2 u x5 z0 r8 h) (fr_vlv (fun (r12 : Int32) => (fr_vlv (fun (r13 : Int32) => (fr_ifv (q_X5_weighDeed_29_143 u0 p0 p1 p2 u x5 z0 r8 h) (fr_vlv (fun (r15 : Int32) => (fr_vlv (fun (r16 : Int32) => (fr_ifv (q_X5_weighDeed_29_143 u0 p0 p1 p2 u x5 z0 r8 h) (fr_vlv (fun (v18 : Int32) => (fr_vlv (fun (v19 : Int32) => (q_X5_weighDeed_29_143 u0 p0 p1 p2 (pI u 30 x5.toNatClampNeg v19) x5 z0 r8 (fr_I h rfl))))))))))))))))))))))
theorem q_X5_weighDeed_29 (u0 : ac_U) (p0 : Int32) (p1 : Int32) (p2 : Int32) : ac_Fr [(29, some 4), (30, none)] u0 (f_X5_weighDeed_29 u0 p0 p1 p2) := by
  unfold f_X5_weighDeed_29
  exact (fr_vlv (fun (r20 : Int32) => (fr_vlv (fun (r21 : Int32) => (fr_ifv ac_Fr.rf (fr_ifv (fr_vlv (fun (r25 : Int32) => (fr_vlv (fun (r26 : Int32) => (fr_ifv (q_X5_weighDeed_29_61 u0 p0 p1 p2 u0 r20 r21 (0 : Int32) ac_Fr.rf) (q_X5_weighDeed_29_61 u0 p0 p1 p2 u0 r20 r21 (1 : Int32) ac_Fr.rf)))))) ac_Fr.rf))))))

theorem q_J7_fill_53178_30_5_b (u0 : ac_U) (p1 : Int32) (B5 : ac_U → Int32 → Int32 → ac_U) (hB5 : ∀ (u : ac_U) (x2 : Int32) (x3 : Int32), ac_Fr [(30, none)] u0 u → ac_Fr [(30, none)] u0 (B5 u x2 x3)) (u : ac_U) (x2 : Int32) (x3 : Int32) (h : ac_Fr [(30, none)] u0 u) : ac_Fr [(30, none)] u0 (K_J7_fill_53178_30_5_b B5 u0 p1 u x2 x3) := by
  unfold K_J7_fill_53178_30_5_b
  exact (fr_ifv h (fr_vlv (fun (v2 : Int32) => (hB5 (pI u 30 x2.toNatClampNeg p1) v2 x3 (fr_I h rfl)))))
theorem q_J7_fill_53178_30_5 (u0 : ac_U) (p1 : Int32) : ∀ n : Nat, ∀ (u : ac_U) (x2 : Int32) (x3 : Int32), ac_Fr [(30, none)] u0 u → ac_Fr [(30, none)] u0 (K_J7_fill_53178_30_5 u0 p1 n u x2 x3)
  | 0 => fun u _ _ h => h
  | n + 1 => fun u x2 x3 h => q_J7_fill_53178_30_5_b u0 p1 (K_J7_fill_53178_30_5 u0 p1 n) (q_J7_fill_53178_30_5 u0 p1 n) u x2 x3 h
theorem q_J7_fill_53178_30 (u0 : ac_U) (p1 : Int32) : ac_Fr [(30, none)] u0 (f_J7_fill_53178_30 u0 p1) := by
  unfold f_J7_fill_53178_30
  exact (q_J7_fill_53178_30_5 u0 p1 22 u0 (0 : Int32) (20 : Int32) ac_Fr.rf)

theorem q_X5_weigh_29_161 (u0 : ac_U) (p0 : Int32) (p1 : Int32) (B104 : ac_U → Int32 → Int32 → ac_U) (hB104 : ∀ (u : ac_U) (x4 : Int32) (x5 : Int32), ac_Fr [(29, some 4), (29, some 5), (29, some 6), (30, none)] u0 u → ac_Fr [(29, some 4), (29, some 5), (29, some 6), (30, none)] u0 (B104 u x4 x5)) (u : ac_U) (x4 : Int32) (x5 : Int32) (h : ac_Fr [(29, some 4), (29, some 5), (29, some 6), (30, none)] u0 u) : ac_Fr [(29, some 4), (29, some 5), (29, some 6), (30, none)] u0 (K_X5_weigh_29_161 B104 u0 p0 p1 u x4 x5) := by
  unfold K_X5_weigh_29_161
  exact (fr_vlv (fun (v1 : Int32) => (hB104 u x4 v1 h)))
theorem q_X5_weigh_29_104_b (u0 : ac_U) (p0 : Int32) (p1 : Int32) (B104 : ac_U → Int32 → Int32 → ac_U) (hB104 : ∀ (u : ac_U) (x4 : Int32) (x5 : Int32), ac_Fr [(29, some 4), (29, some 5), (29, some 6), (30, none)] u0 u → ac_Fr [(29, some 4), (29, some 5), (29, some 6), (30, none)] u0 (B104 u x4 x5)) (u : ac_U) (x4 : Int32) (x5 : Int32) (h : ac_Fr [(29, some 4), (29, some 5), (29, some 6), (30, none)] u0 u) : ac_Fr [(29, some 4), (29, some 5), (29, some 6), (30, none)] u0 (K_X5_weigh_29_104_b B104 u0 p0 p1 u x4 x5) := by
  unfold K_X5_weigh_29_104_b
  exact (fr_ifv h (fr_vlv (fun (r4 : Int32) => (fr_ifv (q_X5_weigh_29_161 u0 p0 p1 B104 hB104 u x4 x5 h) (fr_vlv (fun (r6 : Int32) => (fr_ifv (q_X5_weigh_29_161 u0 p0 p1 B104 hB104 u x4 x5 h) (fr_cvv (h.tr (q_X5_weighDeed_29 u p0 p1 x5) (by decide)) (fun (u8 : ac_U) h8 => (q_X5_weigh_29_161 u0 p0 p1 B104 hB104 u8 x4 x5 h8))))))))))
theorem q_X5_weigh_29_104 (u0 : ac_U) (p0 : Int32) (p1 : Int32) : ∀ n : Nat, ∀ (u : ac_U) (x4 : Int32) (x5 : Int32), ac_Fr [(29, some 4), (29, some 5), (29, some 6), (30, none)] u0 u → ac_Fr [(29, some 4), (29, some 5), (29, some 6), (30, none)] u0 (K_X5_weigh_29_104 u0 p0 p1 n u x4 x5)
  | 0 => fun u _ _ h => h
  | n + 1 => fun u x4 x5 h => q_X5_weigh_29_104_b u0 p0 p1 (K_X5_weigh_29_104 u0 p0 p1 n) (q_X5_weigh_29_104 u0 p0 p1 n) u x4 x5 h
theorem q_X5_weigh_29_84 (u0 : ac_U) (p0 : Int32) (p1 : Int32) (u : ac_U) (x4 : Int32) (z1 : Int32) (z2 : Int32) (h : ac_Fr [(29, some 4), (29, some 5), (29, some 6), (30, none)] u0 u) : ac_Fr [(29, some 4), (29, some 5), (29, some 6), (30, none)] u0 (K_X5_weigh_29_84 u0 p0 p1 u x4 z1 z2) := by
  unfold K_X5_weigh_29_84
  exact (fr_vlv (fun (v9 : Int32) => (fr_cvv ((fr_I (fr_I h rfl) rfl).tr (q_J7_fill_53178_30 (pI (pI u 29 6 v9) 29 4 (0 : Int32)) (0 : Int32)) (by decide)) (fun (u10 : ac_U) h10 => (q_X5_weigh_29_104 u0 p0 p1 82 u10 x4 (0 : Int32) h10)))))
theorem q_X5_weigh_29_11 (u0 : ac_U) (p0 : Int32) (p1 : Int32) (u : ac_U) (z0 : Int32) (h : ac_Fr [(29, some 4), (29, some 5), (29, some 6), (30, none)] u0 u) : ac_Fr [(29, some 4), (29, some 5), (29, some 6), (30, none)] u0 (K_X5_weigh_29_11 u0 p0 p1 u z0) := by
  unfold K_X5_weigh_29_11
  exact (fr_vlv (fun (r11 : Int32) => (fr_vlv (fun (v12 : Int32) => (fr_vlv (fun (v14 : Int32) => (fr_vlv (fun (v15 : Int32) => (fr_vlv (fun (v16 : Int32) => (fr_vlv (fun (v17 : Int32) => (fr_vlv (fun (r18 : Int32) => (fr_vlv (fun (r19 : Int32) => (fr_ifv (q_X5_weigh_29_84 u0 p0 p1 (pI u 29 5 v15) v17 r18 (1 : Int32) (fr_I h rfl)) (q_X5_weigh_29_84 u0 p0 p1 (pI u 29 5 v15) v17 r18 (0 : Int32) (fr_I h rfl)))))))))))))))))))
theorem q_X5_weigh_29 (u0 : ac_U) (p0 : Int32) (p1 : Int32) : ac_Fr [(29, some 4), (29, some 5), (29, some 6), (30, none)] u0 (f_X5_weigh_29 u0 p0 p1) := by
  unfold f_X5_weigh_29
  exact (fr_vlv (fun (v21 : Int32) => (fr_ifv (q_X5_weigh_29_11 u0 p0 p1 u0 (0 : Int32) ac_Fr.rf) (q_X5_weigh_29_11 u0 p0 p1 u0 (1 : Int32) ac_Fr.rf))))

theorem q_X5_brokenDay_29_92 (u0 : ac_U) (p0 : Int32) (p1 : Int32) (u : ac_U) (h : ac_Fr [(29, some 4), (29, some 5), (29, some 6), (30, none)] u0 u) : ac_Fr [(29, some 4), (29, some 5), (29, some 6), (30, none)] u0 (K_X5_brokenDay_29_92 u0 p0 p1 u).1 := by
  unfold K_X5_brokenDay_29_92
  exact h
theorem q_X5_brokenDay_29_86 (u0 : ac_U) (p0 : Int32) (p1 : Int32) (B49 : ac_U → Int32 → Int32 → ac_U × Int32) (hB49 : ∀ (u : ac_U) (x3 : Int32) (x4 : Int32), ac_Fr [(29, some 4), (29, some 5), (29, some 6), (30, none)] u0 u → ac_Fr [(29, some 4), (29, some 5), (29, some 6), (30, none)] u0 (B49 u x3 x4).1) (u : ac_U) (x3 : Int32) (x4 : Int32) (h : ac_Fr [(29, some 4), (29, some 5), (29, some 6), (30, none)] u0 u) : ac_Fr [(29, some 4), (29, some 5), (29, some 6), (30, none)] u0 (K_X5_brokenDay_29_86 B49 u0 p0 p1 u x3 x4).1 := by
  unfold K_X5_brokenDay_29_86
  exact (fr_vl (fun (v1 : Int32) => (hB49 u x3 v1 h)))
theorem q_X5_brokenDay_29_49_b (u0 : ac_U) (p0 : Int32) (p1 : Int32) (B49 : ac_U → Int32 → Int32 → ac_U × Int32) (hB49 : ∀ (u : ac_U) (x3 : Int32) (x4 : Int32), ac_Fr [(29, some 4), (29, some 5), (29, some 6), (30, none)] u0 u → ac_Fr [(29, some 4), (29, some 5), (29, some 6), (30, none)] u0 (B49 u x3 x4).1) (u : ac_U) (x3 : Int32) (x4 : Int32) (h : ac_Fr [(29, some 4), (29, some 5), (29, some 6), (30, none)] u0 u) : ac_Fr [(29, some 4), (29, some 5), (29, some 6), (30, none)] u0 (K_X5_brokenDay_29_49_b B49 u0 p0 p1 u x3 x4).1 := by
  unfold K_X5_brokenDay_29_49_b
  exact (fr_if (q_X5_brokenDay_29_92 u0 p0 p1 u h) (fr_vl (fun (r3 : Int32) => (fr_if (q_X5_brokenDay_29_92 u0 p0 p1 u h) (fr_vl (fun (r5 : Int32) => (fr_if (q_X5_brokenDay_29_86 u0 p0 p1 B49 hB49 u x3 x4 h) (fr_vl (fun (r7 : Int32) => (fr_if (q_X5_brokenDay_29_86 u0 p0 p1 B49 hB49 u x3 x4 h) h))))))))))
theorem q_X5_brokenDay_29_49 (u0 : ac_U) (p0 : Int32) (p1 : Int32) : ∀ n : Nat, ∀ (u : ac_U) (x3 : Int32) (x4 : Int32), ac_Fr [(29, some 4), (29, some 5), (29, some 6), (30, none)] u0 u → ac_Fr [(29, some 4), (29, some 5), (29, some 6), (30, none)] u0 (K_X5_brokenDay_29_49 u0 p0 p1 n u x3 x4).1
  | 0 => fun u _ _ h => h
  | n + 1 => fun u x3 x4 h => q_X5_brokenDay_29_49_b u0 p0 p1 (K_X5_brokenDay_29_49 u0 p0 p1 n) (q_X5_brokenDay_29_49 u0 p0 p1 n) u x3 x4 h
theorem q_X5_brokenDay_29_42 (u0 : ac_U) (p0 : Int32) (p1 : Int32) (u : ac_U) (z0 : Int32) (h : ac_Fr [(29, some 4), (29, some 5), (29, some 6), (30, none)] u0 u) : ac_Fr [(29, some 4), (29, some 5), (29, some 6), (30, none)] u0 (K_X5_brokenDay_29_42 u0 p0 p1 u z0).1 := by
  unfold K_X5_brokenDay_29_42
  exact (q_X5_brokenDay_29_49 u0 p0 p1 124 u z0 (u.1 29 6) h)
theorem q_X5_brokenDay_29 (u0 : ac_U) (p0 : Int32) (p1 : Int32) : ac_Fr [(29, some 4), (29, some 5), (29, some 6), (30, none)] u0 (f_X5_brokenDay_29 u0 p0 p1).1 := by
  unfold f_X5_brokenDay_29
  exact (fr_vl (fun (r10 : Int32) => (fr_if (fr_cv (ac_Fr.rf.tr (q_X5_weigh_29 u0 p0 p1) (by decide)) (fun (u12 : ac_U) h12 => (fr_vl (fun (r13 : Int32) => (fr_if (q_X5_brokenDay_29_42 u0 p0 p1 u12 (u12.1 29 6) h12) (q_X5_brokenDay_29_42 u0 p0 p1 u12 (19 : Int32) h12)))))) ac_Fr.rf)))

theorem q_X5_brokenCount_29_31 (u0 : ac_U) (B4 : ac_U → Int32 → Int32 → ac_U × Int32) (hB4 : ∀ (u : ac_U) (x1 : Int32) (x2 : Int32), ac_Fr [(29, some 4), (29, some 5), (29, some 6), (30, none)] u0 u → ac_Fr [(29, some 4), (29, some 5), (29, some 6), (30, none)] u0 (B4 u x1 x2).1) (u : ac_U) (x2 : Int32) (z0 : Int32) (z1 : Int32) (h : ac_Fr [(29, some 4), (29, some 5), (29, some 6), (30, none)] u0 u) : ac_Fr [(29, some 4), (29, some 5), (29, some 6), (30, none)] u0 (K_X5_brokenCount_29_31 B4 u0 u x2 z0 z1).1 := by
  unfold K_X5_brokenCount_29_31
  exact (fr_vl (fun (v1 : Int32) => (fr_vl (fun (v2 : Int32) => (hB4 u v1 v2 h)))))
theorem q_X5_brokenCount_29_4_b (u0 : ac_U) (B4 : ac_U → Int32 → Int32 → ac_U × Int32) (hB4 : ∀ (u : ac_U) (x1 : Int32) (x2 : Int32), ac_Fr [(29, some 4), (29, some 5), (29, some 6), (30, none)] u0 u → ac_Fr [(29, some 4), (29, some 5), (29, some 6), (30, none)] u0 (B4 u x1 x2).1) (u : ac_U) (x1 : Int32) (x2 : Int32) (h : ac_Fr [(29, some 4), (29, some 5), (29, some 6), (30, none)] u0 u) : ac_Fr [(29, some 4), (29, some 5), (29, some 6), (30, none)] u0 (K_X5_brokenCount_29_4_b B4 u0 u x1 x2).1 := by
  unfold K_X5_brokenCount_29_4_b
  exact (fr_if h (fr_bd (h.tr (q_X5_brokenDay_29 u x2 (0 : Int32)) (by decide)) (fun (u5 : ac_U) (r5 : Int32) h5 => (fr_if (q_X5_brokenCount_29_31 u0 B4 hB4 u5 x2 x1 (0 : Int32) h5) (q_X5_brokenCount_29_31 u0 B4 hB4 u5 x2 x1 (1 : Int32) h5)))))
theorem q_X5_brokenCount_29_4 (u0 : ac_U) : ∀ n : Nat, ∀ (u : ac_U) (x1 : Int32) (x2 : Int32), ac_Fr [(29, some 4), (29, some 5), (29, some 6), (30, none)] u0 u → ac_Fr [(29, some 4), (29, some 5), (29, some 6), (30, none)] u0 (K_X5_brokenCount_29_4 u0 n u x1 x2).1
  | 0 => fun u _ _ h => h
  | n + 1 => fun u x1 x2 h => q_X5_brokenCount_29_4_b u0 (K_X5_brokenCount_29_4 u0 n) (q_X5_brokenCount_29_4 u0 n) u x1 x2 h
theorem q_X5_brokenCount_29 (u0 : ac_U) : ac_Fr [(29, some 4), (29, some 5), (29, some 6), (30, none)] u0 (f_X5_brokenCount_29 u0).1 := by
  unfold f_X5_brokenCount_29
  exact (q_X5_brokenCount_29_4 u0 10 u0 (0 : Int32) (0 : Int32) ac_Fr.rf)


theorem q_X6_remember_24 (u0 : ac_U) : ac_Fr [(24, some 5), (24, some 6), (28, none)] u0 (f_X6_remember_24 u0) := by
  unfold f_X6_remember_24
  exact (fr_vlv (fun (v2 : Int32) => (fr_vlv (fun (v3 : Int32) => (fr_vlv (fun (v4 : Int32) => (fr_vlv (fun (v6 : Int32) => (fr_vlv (fun (v7 : Int32) => (fr_I (fr_I (fr_C ac_Fr.rf (fun _ => rfl)) rfl) rfl)))))))))))


theorem q_X6_setAside_24 (u0 : ac_U) : ac_Fr [(27, none)] u0 (f_X6_setAside_24 u0) := by
  unfold f_X6_setAside_24
  exact (fr_C ac_Fr.rf (fun _ => rfl))


theorem q_X6_takeBack_24 (u0 : ac_U) : ac_Fr [(25, none)] u0 (f_X6_takeBack_24 u0) := by
  unfold f_X6_takeBack_24
  exact (fr_C ac_Fr.rf (fun _ => rfl))

theorem q_X12_does_85 (u0 : ac_U) (p0 : Int32) (p1 : Int32) : ac_Fr [(87, none)] u0 (f_X12_does_85 u0 p0 p1) := by
  unfold f_X12_does_85
  exact (fr_vlv (fun (v2 : Int32) => (fr_vlv (fun (v3 : Int32) => (fr_vlv (fun (v5 : Int32) => (fr_vlv (fun (v6 : Int32) => (fr_vlv (fun (v7 : Int32) => (fr_vlv (fun (v8 : Int32) => (fr_vlv (fun (v9 : Int32) => (fr_vlv (fun (v10 : Int32) => (fr_vlv (fun (v11 : Int32) => (fr_vlv (fun (v12 : Int32) => (fr_vlv (fun (v13 : Int32) => (fr_vlv (fun (v14 : Int32) => (fr_I (fr_I (fr_I (fr_I (fr_I (fr_I (fr_I ac_Fr.rf rfl) rfl) rfl) rfl) rfl) rfl) rfl)))))))))))))))))))))))))

theorem q_X12_keep_85_48_b (u0 : ac_U) (B48 : ac_U → Int32 → ac_U) (hB48 : ∀ (u : ac_U) (x1 : Int32), ac_Fr [(85, some 24), (93, none)] u0 u → ac_Fr [(85, some 24), (93, none)] u0 (B48 u x1)) (u : ac_U) (x1 : Int32) (h : ac_Fr [(85, some 24), (93, none)] u0 u) : ac_Fr [(85, some 24), (93, none)] u0 (K_X12_keep_85_48_b B48 u0 u x1) := by
  unfold K_X12_keep_85_48_b
  exact (fr_ifv (fr_vlv (fun (v3 : Int32) => (fr_I h rfl))) (fr_vlv (fun (v5 : Int32) => (fr_vlv (fun (v6 : Int32) => (fr_vlv (fun (v7 : Int32) => (fr_vlv (fun (v8 : Int32) => (fr_vlv (fun (v9 : Int32) => (hB48 (pI u 93 v6.toNatClampNeg v8) v9 (fr_I h rfl)))))))))))))
theorem q_X12_keep_85_48 (u0 : ac_U) : ∀ n : Nat, ∀ (u : ac_U) (x1 : Int32), ac_Fr [(85, some 24), (93, none)] u0 u → ac_Fr [(85, some 24), (93, none)] u0 (K_X12_keep_85_48 u0 n u x1)
  | 0 => fun u _ h => h
  | n + 1 => fun u x1 h => q_X12_keep_85_48_b u0 (K_X12_keep_85_48 u0 n) (q_X12_keep_85_48 u0 n) u x1 h
theorem q_X12_keep_85_46 (u0 : ac_U) (u : ac_U) (h : ac_Fr [(85, some 24), (93, none)] u0 u) : ac_Fr [(85, some 24), (93, none)] u0 (K_X12_keep_85_46 u0 u) := by
  unfold K_X12_keep_85_46
  exact (q_X12_keep_85_48 u0 372 u (0 : Int32) h)
theorem q_X12_keep_85_11_b (u0 : ac_U) (B11 : ac_U → Int32 → ac_U) (hB11 : ∀ (u : ac_U) (x1 : Int32), ac_Fr [(85, some 24), (93, none)] u0 u → ac_Fr [(85, some 24), (93, none)] u0 (B11 u x1)) (u : ac_U) (x1 : Int32) (h : ac_Fr [(85, some 24), (93, none)] u0 u) : ac_Fr [(85, some 24), (93, none)] u0 (K_X12_keep_85_11_b B11 u0 u x1) := by
  unfold K_X12_keep_85_11_b
  exact (fr_ifv (q_X12_keep_85_46 u0 (pI u 85 24 (7 : Int32)) (fr_I h rfl)) (fr_vlv (fun (v12 : Int32) => (fr_vlv (fun (v13 : Int32) => (fr_vlv (fun (v14 : Int32) => (hB11 (pI u 93 x1.toNatClampNeg v13) v14 (fr_I h rfl)))))))))
theorem q_X12_keep_85_11 (u0 : ac_U) : ∀ n : Nat, ∀ (u : ac_U) (x1 : Int32), ac_Fr [(85, some 24), (93, none)] u0 u → ac_Fr [(85, some 24), (93, none)] u0 (K_X12_keep_85_11 u0 n u x1)
  | 0 => fun u _ h => h
  | n + 1 => fun u x1 h => q_X12_keep_85_11_b u0 (K_X12_keep_85_11 u0 n) (q_X12_keep_85_11 u0 n) u x1 h
theorem q_X12_keep_85 (u0 : ac_U) : ac_Fr [(85, some 24), (93, none)] u0 (f_X12_keep_85 u0) := by
  unfold f_X12_keep_85
  exact (fr_ifv (q_X12_keep_85_46 u0 u0 ac_Fr.rf) (q_X12_keep_85_11 u0 2592 u0 (0 : Int32) ac_Fr.rf))

theorem q_X12_back_85_2_b (u0 : ac_U) (B2 : ac_U → Int32 → ac_U) (hB2 : ∀ (u : ac_U) (x1 : Int32), ac_Fr [(87, none)] u0 u → ac_Fr [(87, none)] u0 (B2 u x1)) (u : ac_U) (x1 : Int32) (h : ac_Fr [(87, none)] u0 u) : ac_Fr [(87, none)] u0 (K_X12_back_85_2_b B2 u0 u x1) := by
  unfold K_X12_back_85_2_b
  exact (fr_ifv h (fr_vlv (fun (v2 : Int32) => (fr_vlv (fun (v3 : Int32) => (fr_vlv (fun (v4 : Int32) => (hB2 (pI u 87 v2.toNatClampNeg v3) v4 (fr_I h rfl)))))))))
theorem q_X12_back_85_2 (u0 : ac_U) : ∀ n : Nat, ∀ (u : ac_U) (x1 : Int32), ac_Fr [(87, none)] u0 u → ac_Fr [(87, none)] u0 (K_X12_back_85_2 u0 n u x1)
  | 0 => fun u _ h => h
  | n + 1 => fun u x1 h => q_X12_back_85_2_b u0 (K_X12_back_85_2 u0 n) (q_X12_back_85_2 u0 n) u x1 h
theorem q_X12_back_85 (u0 : ac_U) : ac_Fr [(87, none)] u0 (f_X12_back_85 u0) := by
  unfold f_X12_back_85
  exact (q_X12_back_85_2 u0 372 u0 (0 : Int32) ac_Fr.rf)

theorem q_X12_goes_85 (u0 : ac_U) (p0 : Int32) (p1 : Int32) : ac_Fr [(87, none)] u0 (f_X12_goes_85 u0 p0 p1) := by
  unfold f_X12_goes_85
  exact (fr_vlv (fun (v2 : Int32) => (fr_vlv (fun (v5 : Int32) => (fr_vlv (fun (v6 : Int32) => (fr_vlv (fun (v7 : Int32) => (fr_vlv (fun (v8 : Int32) => (fr_I (fr_I (fr_I ac_Fr.rf rfl) rfl) rfl)))))))))))

theorem q_X12_hour_85_13_b (u0 : ac_U) (B13 : ac_U → Int32 → ac_U) (hB13 : ∀ (u : ac_U) (x1 : Int32), ac_Fr [(87, none)] u0 u → ac_Fr [(87, none)] u0 (B13 u x1)) (u : ac_U) (x1 : Int32) (h : ac_Fr [(87, none)] u0 u) : ac_Fr [(87, none)] u0 (K_X12_hour_85_13_b B13 u0 u x1) := by
  unfold K_X12_hour_85_13_b
  exact (fr_ifv h (fr_vlv (fun (v4 : Int32) => (fr_vlv (fun (v7 : Int32) => (hB13 (pI u 87 v4.toNatClampNeg (0 : Int32)) v7 (fr_I h rfl)))))))
theorem q_X12_hour_85_13 (u0 : ac_U) : ∀ n : Nat, ∀ (u : ac_U) (x1 : Int32), ac_Fr [(87, none)] u0 u → ac_Fr [(87, none)] u0 (K_X12_hour_85_13 u0 n u x1)
  | 0 => fun u _ h => h
  | n + 1 => fun u x1 h => q_X12_hour_85_13_b u0 (K_X12_hour_85_13 u0 n) (q_X12_hour_85_13 u0 n) u x1 h
theorem q_X12_hour_85 (u0 : ac_U) : ac_Fr [(87, none)] u0 (f_X12_hour_85 u0) := by
  unfold f_X12_hour_85
  exact (fr_vlv (fun (v9 : Int32) => (q_X12_hour_85_13 u0 6 (pI u0 87 106 v9) (0 : Int32) (fr_I ac_Fr.rf rfl))))

theorem q_X12_says_85_81 (u0 : ac_U) (p0 : Int32) (p1 : Int32) (B39 : ac_U → Int32 → ac_U) (hB39 : ∀ (u : ac_U) (x3 : Int32), ac_Fr [(87, none)] u0 u → ac_Fr [(87, none)] u0 (B39 u x3)) (u : ac_U) (x3 : Int32) (h : ac_Fr [(87, none)] u0 u) : ac_Fr [(87, none)] u0 (K_X12_says_85_81 B39 u0 p0 p1 u x3) := by
  unfold K_X12_says_85_81
  exact (fr_vlv (fun (v1 : Int32) => (hB39 u v1 h)))
theorem q_X12_says_85_39_b (u0 : ac_U) (p0 : Int32) (p1 : Int32) (B39 : ac_U → Int32 → ac_U) (hB39 : ∀ (u : ac_U) (x3 : Int32), ac_Fr [(87, none)] u0 u → ac_Fr [(87, none)] u0 (B39 u x3)) (u : ac_U) (x3 : Int32) (h : ac_Fr [(87, none)] u0 u) : ac_Fr [(87, none)] u0 (K_X12_says_85_39_b B39 u0 p0 p1 u x3) := by
  unfold K_X12_says_85_39_b
  exact (fr_ifv h (fr_vlv (fun (v4 : Int32) => (fr_vlv (fun (v5 : Int32) => (fr_vlv (fun (v6 : Int32) => (fr_vlv (fun (v7 : Int32) => (fr_ifv (q_X12_says_85_81 u0 p0 p1 B39 hB39 u x3 h) (fr_vlv (fun (v9 : Int32) => (q_X12_says_85_81 u0 p0 p1 B39 hB39 (pI u 87 v9.toNatClampNeg (1 : Int32)) x3 (fr_I h rfl))))))))))))))
theorem q_X12_says_85_39 (u0 : ac_U) (p0 : Int32) (p1 : Int32) : ∀ n : Nat, ∀ (u : ac_U) (x3 : Int32), ac_Fr [(87, none)] u0 u → ac_Fr [(87, none)] u0 (K_X12_says_85_39 u0 p0 p1 n u x3)
  | 0 => fun u _ h => h
  | n + 1 => fun u x3 h => q_X12_says_85_39_b u0 p0 p1 (K_X12_says_85_39 u0 p0 p1 n) (q_X12_says_85_39 u0 p0 p1 n) u x3 h
theorem q_X12_says_85 (u0 : ac_U) (p0 : Int32) (p1 : Int32) : ac_Fr [(87, none)] u0 (f_X12_says_85 u0 p0 p1) := by
  unfold f_X12_says_85
  exact (fr_vlv (fun (v10 : Int32) => (fr_vlv (fun (v12 : Int32) => (fr_vlv (fun (v13 : Int32) => (fr_vlv (fun (v14 : Int32) => (fr_vlv (fun (v15 : Int32) => (q_X12_says_85_39 u0 p0 p1 8 (pI (pI u0 87 v10.toNatClampNeg v12) 87 v13.toNatClampNeg v15) (0 : Int32) (fr_I (fr_I ac_Fr.rf rfl) rfl))))))))))))

theorem q_X12_lives_85_143_b (u0 : ac_U) (p0 : Int32) (B143 : ac_U → Int32 → Int32 → ac_U × Int32) (hB143 : ∀ (u : ac_U) (x2 : Int32) (x5 : Int32), ac_Fr [(87, none)] u0 u → ac_Fr [(87, none)] u0 (B143 u x2 x5).1) (u : ac_U) (x2 : Int32) (x5 : Int32) (h : ac_Fr [(87, none)] u0 u) : ac_Fr [(87, none)] u0 (K_X12_lives_85_143_b B143 u0 p0 u x2 x5).1 := by
  unfold K_X12_lives_85_143_b
  exact (fr_if h (fr_cv (h.tr (q_X12_hour_85 u) (by decide)) (fun (u5 : ac_U) h5 => (fr_vl (fun (v8 : Int32) => (hB143 u5 x2 v8 h5))))))
theorem q_X12_lives_85_143 (u0 : ac_U) (p0 : Int32) : ∀ n : Nat, ∀ (u : ac_U) (x2 : Int32) (x5 : Int32), ac_Fr [(87, none)] u0 u → ac_Fr [(87, none)] u0 (K_X12_lives_85_143 u0 p0 n u x2 x5).1
  | 0 => fun u _ _ h => h
  | n + 1 => fun u x2 x5 h => q_X12_lives_85_143_b u0 p0 (K_X12_lives_85_143 u0 p0 n) (q_X12_lives_85_143 u0 p0 n) u x2 x5 h
theorem q_X12_lives_85_114 (u0 : ac_U) (p0 : Int32) (u : ac_U) (x4 : Int32) (h : ac_Fr [(87, none)] u0 u) : ac_Fr [(87, none)] u0 (K_X12_lives_85_114 u0 p0 u x4).1 := by
  unfold K_X12_lives_85_114
  exact h
theorem q_X12_lives_85_92 (u0 : ac_U) (p0 : Int32) (u : ac_U) (x4 : Int32) (h : ac_Fr [(87, none)] u0 u) : ac_Fr [(87, none)] u0 (K_X12_lives_85_92 u0 p0 u x4).1 := by
  unfold K_X12_lives_85_92
  exact h
theorem q_X12_lives_85_71 (u0 : ac_U) (p0 : Int32) (u : ac_U) (x4 : Int32) (h : ac_Fr [(87, none)] u0 u) : ac_Fr [(87, none)] u0 (K_X12_lives_85_71 u0 p0 u x4).1 := by
  unfold K_X12_lives_85_71
  exact h
theorem q_X12_lives_85 (u0 : ac_U) (p0 : Int32) : ac_Fr [(87, none)] u0 (f_X12_lives_85 u0 p0).1 := by
  unfold f_X12_lives_85
  exact (fr_vl (fun (v9 : Int32) => (fr_vl (fun (v10 : Int32) => (fr_vl (fun (v11 : Int32) => (fr_vl (fun (v12 : Int32) => (fr_vl (fun (v13 : Int32) => (fr_if (fr_vl (fun (v16 : Int32) => (fr_vl (fun (v18 : Int32) => (fr_if (q_X12_lives_85_143 u0 p0 101 u0 v10 (0 : Int32) ac_Fr.rf) ac_Fr.rf))))) (fr_if (fr_vl (fun (r20 : Int32) => (fr_if (q_X12_lives_85_71 u0 p0 u0 r20 ac_Fr.rf) (fr_cv (ac_Fr.rf.tr (q_X12_goes_85 u0 v10 v12) (by decide)) (fun (u23 : ac_U) h23 => (q_X12_lives_85_71 u0 p0 u23 r20 h23)))))) (fr_if (fr_vl (fun (r26 : Int32) => (fr_if (q_X12_lives_85_92 u0 p0 u0 r26 ac_Fr.rf) (fr_cv (ac_Fr.rf.tr (q_X12_does_85 u0 v10 v12) (by decide)) (fun (u29 : ac_U) h29 => (q_X12_lives_85_92 u0 p0 u29 r26 h29)))))) (fr_vl (fun (r32 : Int32) => (fr_if (q_X12_lives_85_114 u0 p0 u0 r32 ac_Fr.rf) (fr_cv (ac_Fr.rf.tr (q_X12_says_85 u0 v10 v12) (by decide)) (fun (u34 : ac_U) h34 => (q_X12_lives_85_114 u0 p0 u34 r32 h34)))))))))))))))))))

theorem q_X12_now_85_80 (u0 : ac_U) (p0 : Int32) (B15 : ac_U → Int32 → Int32 → Int32 → Int32 → ac_U × Int32) (hB15 : ∀ (u : ac_U) (x2 : Int32) (x3 : Int32) (x4 : Int32) (x5 : Int32), ac_Fr [(85, some 0)] u0 u → ac_Fr [(85, some 0)] u0 (B15 u x2 x3 x4 x5).1) (u : ac_U) (x2 : Int32) (x3 : Int32) (x5 : Int32) (z0 : Int32) (z1 : Int32) (h : ac_Fr [(85, some 0)] u0 u) : ac_Fr [(85, some 0)] u0 (K_X12_now_85_80 B15 u0 p0 u x2 x3 x5 z0 z1).1 := by
  unfold K_X12_now_85_80
  exact (fr_vl (fun (v1 : Int32) => (fr_vl (fun (v2 : Int32) => (hB15 u x2 x3 v1 v2 h)))))
theorem q_X12_now_85_46 (u0 : ac_U) (p0 : Int32) (B15 : ac_U → Int32 → Int32 → Int32 → Int32 → ac_U × Int32) (hB15 : ∀ (u : ac_U) (x2 : Int32) (x3 : Int32) (x4 : Int32) (x5 : Int32), ac_Fr [(85, some 0)] u0 u → ac_Fr [(85, some 0)] u0 (B15 u x2 x3 x4 x5).1) (u : ac_U) (x3 : Int32) (x4 : Int32) (x5 : Int32) (z0 : Int32) (z1 : Int32) (h : ac_Fr [(85, some 0)] u0 u) : ac_Fr [(85, some 0)] u0 (K_X12_now_85_46 B15 u0 p0 u x3 x4 x5 z0 z1).1 := by
  unfold K_X12_now_85_46
  exact (fr_vl (fun (v4 : Int32) => (fr_vl (fun (v5 : Int32) => (fr_vl (fun (v6 : Int32) => (fr_vl (fun (v7 : Int32) => (fr_vl (fun (r8 : Int32) => (fr_if (q_X12_now_85_80 u0 p0 B15 hB15 u v4 v7 x5 x4 (0 : Int32) h) (q_X12_now_85_80 u0 p0 B15 hB15 u v4 v7 x5 x4 (1 : Int32) h))))))))))))
theorem q_X12_now_85_15_b (u0 : ac_U) (p0 : Int32) (B15 : ac_U → Int32 → Int32 → Int32 → Int32 → ac_U × Int32) (hB15 : ∀ (u : ac_U) (x2 : Int32) (x3 : Int32) (x4 : Int32) (x5 : Int32), ac_Fr [(85, some 0)] u0 u → ac_Fr [(85, some 0)] u0 (B15 u x2 x3 x4 x5).1) (u : ac_U) (x2 : Int32) (x3 : Int32) (x4 : Int32) (x5 : Int32) (h : ac_Fr [(85, some 0)] u0 u) : ac_Fr [(85, some 0)] u0 (K_X12_now_85_15_b B15 u0 p0 u x2 x3 x4 x5).1 := by
  unfold K_X12_now_85_15_b
  exact (fr_if (fr_if h (fr_if (fr_vl (fun (r17 : Int32) => h)) (fr_if (fr_vl (fun (v20 : Int32) => h)) (fr_if h (fr_if h (fr_if h h)))))) (fr_vl (fun (v22 : Int32) => (fr_vl (fun (v23 : Int32) => (fr_if (q_X12_now_85_46 u0 p0 B15 hB15 u x3 x4 x5 x2 (0 : Int32) h) (q_X12_now_85_46 u0 p0 B15 hB15 u x3 x4 x5 x2 (1 : Int32) h)))))))
theorem q_X12_now_85_15 (u0 : ac_U) (p0 : Int32) : ∀ n : Nat, ∀ (u : ac_U) (x2 : Int32) (x3 : Int32) (x4 : Int32) (x5 : Int32), ac_Fr [(85, some 0)] u0 u → ac_Fr [(85, some 0)] u0 (K_X12_now_85_15 u0 p0 n u x2 x3 x4 x5).1
  | 0 => fun u _ _ _ _ h => h
  | n + 1 => fun u x2 x3 x4 x5 h => q_X12_now_85_15_b u0 p0 (K_X12_now_85_15 u0 p0 n) (q_X12_now_85_15 u0 p0 n) u x2 x3 x4 x5 h
theorem q_X12_now_85 (u0 : ac_U) (p0 : Int32) : ac_Fr [(85, some 0)] u0 (f_X12_now_85 u0 p0).1 := by
  unfold f_X12_now_85
  exact (q_X12_now_85_15 u0 p0 10 (pI u0 85 0 (0 : Int32)) (0 : Int32) (0 : Int32) (0 : Int32) (0 : Int32) (fr_I ac_Fr.rf rfl))

theorem q_X12_tries_85_2_b (u0 : ac_U) (B2 : ac_U → Int32 → ac_U) (hB2 : ∀ (u : ac_U) (x1 : Int32), ac_Fr [(94, none)] u0 u → ac_Fr [(94, none)] u0 (B2 u x1)) (u : ac_U) (x1 : Int32) (h : ac_Fr [(94, none)] u0 u) : ac_Fr [(94, none)] u0 (K_X12_tries_85_2_b B2 u0 u x1) := by
  unfold K_X12_tries_85_2_b
  exact (fr_ifv h (fr_vlv (fun (v2 : Int32) => (fr_vlv (fun (v3 : Int32) => (fr_vlv (fun (v4 : Int32) => (hB2 (pI u 94 x1.toNatClampNeg v3) v4 (fr_I h rfl)))))))))
theorem q_X12_tries_85_2 (u0 : ac_U) : ∀ n : Nat, ∀ (u : ac_U) (x1 : Int32), ac_Fr [(94, none)] u0 u → ac_Fr [(94, none)] u0 (K_X12_tries_85_2 u0 n u x1)
  | 0 => fun u _ h => h
  | n + 1 => fun u x1 h => q_X12_tries_85_2_b u0 (K_X12_tries_85_2 u0 n) (q_X12_tries_85_2 u0 n) u x1 h
theorem q_X12_tries_85 (u0 : ac_U) : ac_Fr [(94, none)] u0 (f_X12_tries_85 u0) := by
  unfold f_X12_tries_85
  exact (q_X12_tries_85_2 u0 372 u0 (0 : Int32) ac_Fr.rf)

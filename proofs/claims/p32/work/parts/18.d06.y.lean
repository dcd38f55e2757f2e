/-! What the functions leave as it was. (printed by wip/p41/gen/exact.py) -/
section FRX
variable {L : List (Nat × Option Nat)} {u0 u : ac_U} {α β : Type}
theorem fr_I (h : ac_Fr L u0 u) {c k : Nat} {v : Int32} (hc : ac_cv L c k = true) : ac_Fr L u0 (pI u c k v) := h.si hc
theorem fr_L (h : ac_Fr L u0 u) {c : Nat} {g : Nat → Int64} : ac_Fr L u0 (ac_sl u c g) := h
theorem fr_C (h : ac_Fr L u0 u) {c0 c1 a b n : Nat} (hc : ∀ k, ac_cv L c1 k = true) : ac_Fr L u0 (cpI u c0 c1 a b n) := h.sg hc
theorem fr_vl {x : α} {k : α → ac_U × β} (h : ∀ v, ac_Fr L u0 (k v).1) : ac_Fr L u0 (vl x k).1 := h x
theorem fr_vlv {x : α} {k : α → ac_U} (h : ∀ v, ac_Fr L u0 (k v)) : ac_Fr L u0 (vl x k) := h x
theorem fr_if {c : Prop} {hd : Decidable c} {a b : ac_U × β} (h1 : ac_Fr L u0 a.1) (h2 : ac_Fr L u0 b.1) : ac_Fr L u0 (@ite _ c hd a b).1 := by split; exact h1; exact h2
theorem fr_ifv {c : Prop} {hd : Decidable c} {a b : ac_U} (h1 : ac_Fr L u0 a) (h2 : ac_Fr L u0 b) : ac_Fr L u0 (@ite _ c hd a b) := by split; exact h1; exact h2
theorem fr_cv {x : ac_U} {k : ac_U → ac_U × β} (hx : ac_Fr L u0 x) (h : ∀ v, ac_Fr L u0 v → ac_Fr L u0 (k v).1) : ac_Fr L u0 (vl x k).1 := h x hx
theorem fr_cvv {x : ac_U} {k : ac_U → ac_U} (hx : ac_Fr L u0 x) (h : ∀ v, ac_Fr L u0 v → ac_Fr L u0 (k v)) : ac_Fr L u0 (vl x k) := h x hx
theorem fr_bd {q : ac_U × α} {k : ac_U → α → ac_U × β} (hq : ac_Fr L u0 q.1) (h : ∀ v r, ac_Fr L u0 v → ac_Fr L u0 (k v r).1) : ac_Fr L u0 (bd q k).1 := h _ _ hq
end FRX

theorem q_X10_fail_1 (u0 : ac_U) (p0 : Int32) : ac_Fr [(1, some 10), (1, some 11)] u0 (f_X10_fail_1 u0 p0).1 := by
  unfold f_X10_fail_1
  exact (fr_I (fr_I ac_Fr.rf rfl) rfl)

theorem q_X10_readRun_1_172 (u0 : ac_U) (u : ac_U) (z1 : Int32) (h : ac_Fr [(1, some 4), (1, some 6), (1, some 8)] u0 u) : ac_Fr [(1, some 4), (1, some 6), (1, some 8)] u0 (K_X10_readRun_1_172 u0 u z1) := by
  unfold K_X10_readRun_1_172
  exact (fr_I h rfl)
theorem q_X10_readRun_1_171 (u0 : ac_U) (u : ac_U) (h : ac_Fr [(1, some 4), (1, some 6), (1, some 8)] u0 u) : ac_Fr [(1, some 4), (1, some 6), (1, some 8)] u0 (K_X10_readRun_1_171 u0 u) := by
  unfold K_X10_readRun_1_171
  exact (q_X10_readRun_1_172 u0 u (1 : Int32) h)
theorem q_X10_readRun_1_157 (u0 : ac_U) (u : ac_U) (x1 : Int32) (x2 : Int32) (h : ac_Fr [(1, some 4), (1, some 6), (1, some 8)] u0 u) : ac_Fr [(1, some 4), (1, some 6), (1, some 8)] u0 (K_X10_readRun_1_157 u0 u x1 x2) := by
  unfold K_X10_readRun_1_157
  exact (fr_ifv (q_X10_readRun_1_171 u0 u h) (fr_ifv (q_X10_readRun_1_171 u0 u h) (q_X10_readRun_1_172 u0 u (3 : Int32) h)))
theorem q_X10_readRun_1_136 (u0 : ac_U) (u : ac_U) (x1 : Int32) (x2 : Int32) (h : ac_Fr [(1, some 4), (1, some 6), (1, some 8)] u0 u) : ac_Fr [(1, some 4), (1, some 6), (1, some 8)] u0 (K_X10_readRun_1_136 u0 u x1 x2) := by
  unfold K_X10_readRun_1_136
  exact (fr_ifv (q_X10_readRun_1_157 u0 u x1 x2 h) (fr_ifv (q_X10_readRun_1_157 u0 u x1 x2 h) (fr_vlv (fun (r5 : Int32) => (fr_I h rfl)))))
theorem q_X10_readRun_1_123 (u0 : ac_U) (B14 : ac_U → Int32 → Int32 → ac_U) (hB14 : ∀ (u : ac_U) (x1 : Int32) (x2 : Int32), ac_Fr [(1, some 4), (1, some 6), (1, some 8)] u0 u → ac_Fr [(1, some 4), (1, some 6), (1, some 8)] u0 (B14 u x1 x2)) (u : ac_U) (x1 : Int32) (x2 : Int32) (h : ac_Fr [(1, some 4), (1, some 6), (1, some 8)] u0 u) : ac_Fr [(1, some 4), (1, some 6), (1, some 8)] u0 (K_X10_readRun_1_123 B14 u0 u x1 x2) := by
  unfold K_X10_readRun_1_123
  exact (fr_vlv (fun (v7 : Int32) => (hB14 (pI u 1 4 v7) x1 x2 (fr_I h rfl))))
theorem q_X10_readRun_1_55 (u0 : ac_U) (B14 : ac_U → Int32 → Int32 → ac_U) (hB14 : ∀ (u : ac_U) (x1 : Int32) (x2 : Int32), ac_Fr [(1, some 4), (1, some 6), (1, some 8)] u0 u → ac_Fr [(1, some 4), (1, some 6), (1, some 8)] u0 (B14 u x1 x2)) (u : ac_U) (x1 : Int32) (x2 : Int32) (h : ac_Fr [(1, some 4), (1, some 6), (1, some 8)] u0 u) : ac_Fr [(1, some 4), (1, some 6), (1, some 8)] u0 (K_X10_readRun_1_55 B14 u0 u x1 x2) := by
  unfold K_X10_readRun_1_55
  exact (fr_vlv (fun (v9 : Int32) => (fr_vlv (fun (r10 : Int32) => (fr_ifv (fr_vlv (fun (v12 : Int32) => (fr_vlv (fun (v13 : Int32) => (fr_vlv (fun (v14 : Int32) => (fr_vlv (fun (v15 : Int32) => (fr_vlv (fun (v16 : Int32) => (q_X10_readRun_1_123 u0 B14 hB14 (pI u 1 8 v16) x1 v12 (fr_I h rfl)))))))))))) (fr_vlv (fun (v18 : Int32) => (fr_vlv (fun (v19 : Int32) => (fr_vlv (fun (r20 : Int64) => (q_X10_readRun_1_123 u0 B14 hB14 (pL u 1 7 r20) v18 x2 (fr_L h)))))))))))))
theorem q_X10_readRun_1_14_b (u0 : ac_U) (B14 : ac_U → Int32 → Int32 → ac_U) (hB14 : ∀ (u : ac_U) (x1 : Int32) (x2 : Int32), ac_Fr [(1, some 4), (1, some 6), (1, some 8)] u0 u → ac_Fr [(1, some 4), (1, some 6), (1, some 8)] u0 (B14 u x1 x2)) (u : ac_U) (x1 : Int32) (x2 : Int32) (h : ac_Fr [(1, some 4), (1, some 6), (1, some 8)] u0 u) : ac_Fr [(1, some 4), (1, some 6), (1, some 8)] u0 (K_X10_readRun_1_14_b B14 u0 u x1 x2) := by
  unfold K_X10_readRun_1_14_b
  exact (fr_ifv (q_X10_readRun_1_136 u0 u x1 x2 h) (fr_vlv (fun (v25 : Int32) => (fr_vlv (fun (r26 : Int32) => (fr_ifv (q_X10_readRun_1_55 u0 B14 hB14 u x1 x2 h) (fr_vlv (fun (v28 : Int32) => (fr_vlv (fun (r29 : Int32) => (fr_ifv (q_X10_readRun_1_136 u0 u x1 x2 h) (q_X10_readRun_1_55 u0 B14 hB14 u x1 x2 h))))))))))))
theorem q_X10_readRun_1_14 (u0 : ac_U) : ∀ n : Nat, ∀ (u : ac_U) (x1 : Int32) (x2 : Int32), ac_Fr [(1, some 4), (1, some 6), (1, some 8)] u0 u → ac_Fr [(1, some 4), (1, some 6), (1, some 8)] u0 (K_X10_readRun_1_14 u0 n u x1 x2)
  | 0 => fun u _ _ h => h
  | n + 1 => fun u x1 x2 h => q_X10_readRun_1_14_b u0 (K_X10_readRun_1_14 u0 n) (q_X10_readRun_1_14 u0 n) u x1 x2 h
theorem q_X10_readRun_1 (u0 : ac_U) : ac_Fr [(1, some 4), (1, some 6), (1, some 8)] u0 (f_X10_readRun_1 u0) := by
  unfold f_X10_readRun_1
  exact (q_X10_readRun_1_14 u0 942 (pI (pL u0 1 7 (0 : Int64)) 1 8 (0 : Int32)) (0 : Int32) (0 : Int32) (fr_I (fr_L ac_Fr.rf) rfl))

theorem q_X10_readNext_1_181 (u0 : ac_U) (u : ac_U) (z1 : Int32) (h : ac_Fr [(1, some 4), (1, some 5), (1, some 6), (1, some 8)] u0 u) : ac_Fr [(1, some 4), (1, some 5), (1, some 6), (1, some 8)] u0 (K_X10_readNext_1_181 u0 u z1) := by
  unfold K_X10_readNext_1_181
  exact (fr_vlv (fun (v2 : Int32) => (fr_I (fr_I h rfl) rfl)))
theorem q_X10_readNext_1_145 (u0 : ac_U) (u : ac_U) (h : ac_Fr [(1, some 4), (1, some 5), (1, some 6), (1, some 8)] u0 u) : ac_Fr [(1, some 4), (1, some 5), (1, some 6), (1, some 8)] u0 (K_X10_readNext_1_145 u0 u) := by
  unfold K_X10_readNext_1_145
  exact (fr_cvv (h.tr (q_X10_readRun_1 u) (by decide)) (fun (u3 : ac_U) h3 => h3))
theorem q_X10_readNext_1_88 (u0 : ac_U) (u : ac_U) (h : ac_Fr [(1, some 4), (1, some 5), (1, some 6), (1, some 8)] u0 u) : ac_Fr [(1, some 4), (1, some 5), (1, some 6), (1, some 8)] u0 (K_X10_readNext_1_88 u0 u) := by
  unfold K_X10_readNext_1_88
  exact (fr_ifv (fr_vlv (fun (v7 : Int32) => (fr_vlv (fun (r8 : Int32) => (fr_ifv (q_X10_readNext_1_145 u0 (pI u 1 5 (u.1 1 4)) (fr_I h rfl)) (fr_vlv (fun (v10 : Int32) => (fr_vlv (fun (r11 : Int32) => (fr_ifv (fr_vlv (fun (v13 : Int32) => (fr_vlv (fun (r14 : Int32) => (fr_ifv (q_X10_readNext_1_181 u0 (pI u 1 5 (u.1 1 4)) (1 : Int32) (fr_I h rfl)) (fr_vlv (fun (v16 : Int32) => (q_X10_readNext_1_181 u0 (pI u 1 5 (u.1 1 4)) v16 (fr_I h rfl))))))))) (q_X10_readNext_1_145 u0 (pI u 1 5 (u.1 1 4)) (fr_I h rfl)))))))))))) (fr_I (fr_I h rfl) rfl))
theorem q_X10_readNext_1_52 (u0 : ac_U) (u : ac_U) (h : ac_Fr [(1, some 4), (1, some 5), (1, some 6), (1, some 8)] u0 u) : ac_Fr [(1, some 4), (1, some 5), (1, some 6), (1, some 8)] u0 (K_X10_readNext_1_52 u0 u) := by
  unfold K_X10_readNext_1_52
  exact (fr_ifv (q_X10_readNext_1_88 u0 u h) (fr_ifv (q_X10_readNext_1_88 u0 u h) (fr_I (fr_I h rfl) rfl)))
theorem q_X10_readNext_1_39 (u0 : ac_U) (B0 : ac_U → ac_U) (hB0 : ∀ (u : ac_U), ac_Fr [(1, some 4), (1, some 5), (1, some 6), (1, some 8)] u0 u → ac_Fr [(1, some 4), (1, some 5), (1, some 6), (1, some 8)] u0 (B0 u)) (u : ac_U) (h : ac_Fr [(1, some 4), (1, some 5), (1, some 6), (1, some 8)] u0 u) : ac_Fr [(1, some 4), (1, some 5), (1, some 6), (1, some 8)] u0 (K_X10_readNext_1_39 B0 u0 u) := by
  unfold K_X10_readNext_1_39
  exact (fr_vlv (fun (v23 : Int32) => (hB0 (pI u 1 4 v23) (fr_I h rfl))))
theorem q_X10_readNext_1_0_b (u0 : ac_U) (B0 : ac_U → ac_U) (hB0 : ∀ (u : ac_U), ac_Fr [(1, some 4), (1, some 5), (1, some 6), (1, some 8)] u0 u → ac_Fr [(1, some 4), (1, some 5), (1, some 6), (1, some 8)] u0 (B0 u)) (u : ac_U) (h : ac_Fr [(1, some 4), (1, some 5), (1, some 6), (1, some 8)] u0 u) : ac_Fr [(1, some 4), (1, some 5), (1, some 6), (1, some 8)] u0 (K_X10_readNext_1_0_b B0 u0 u) := by
  unfold K_X10_readNext_1_0_b
  exact (fr_ifv (q_X10_readNext_1_52 u0 u h) (fr_vlv (fun (v27 : Int32) => (fr_ifv (q_X10_readNext_1_39 u0 B0 hB0 u h) (fr_vlv (fun (v29 : Int32) => (fr_ifv (q_X10_readNext_1_52 u0 u h) (q_X10_readNext_1_39 u0 B0 hB0 u h))))))))
theorem q_X10_readNext_1_0 (u0 : ac_U) : ∀ n : Nat, ∀ (u : ac_U), ac_Fr [(1, some 4), (1, some 5), (1, some 6), (1, some 8)] u0 u → ac_Fr [(1, some 4), (1, some 5), (1, some 6), (1, some 8)] u0 (K_X10_readNext_1_0 u0 n u)
  | 0 => fun u h => h
  | n + 1 => fun u h => q_X10_readNext_1_0_b u0 (K_X10_readNext_1_0 u0 n) (q_X10_readNext_1_0 u0 n) u h
theorem q_X10_readNext_1 (u0 : ac_U) : ac_Fr [(1, some 4), (1, some 5), (1, some 6), (1, some 8)] u0 (f_X10_readNext_1 u0) := by
  unfold f_X10_readNext_1
  exact (q_X10_readNext_1_0 u0 942 u0 ac_Fr.rf)

theorem q_X10_takeNumber_1_34 (u0 : ac_U) (p0 : Int32) (p1 : Int32) (u : ac_U) (h : ac_Fr [(1, some 4), (1, some 5), (1, some 6), (1, some 8), (1, some 10), (1, some 11)] u0 u) : ac_Fr [(1, some 4), (1, some 5), (1, some 6), (1, some 8), (1, some 10), (1, some 11)] u0 (K_X10_takeNumber_1_34 u0 p0 p1 u).1 := by
  unfold K_X10_takeNumber_1_34
  exact (fr_bd (h.tr (q_X10_fail_1 u (2 : Int32)) (by decide)) (fun (u1 : ac_U) (r1 : Int32) h1 => (fr_if h1 h1)))
theorem q_X10_takeNumber_1 (u0 : ac_U) (p0 : Int32) (p1 : Int32) : ac_Fr [(1, some 4), (1, some 5), (1, some 6), (1, some 8), (1, some 10), (1, some 11)] u0 (f_X10_takeNumber_1 u0 p0 p1).1 := by
  unfold f_X10_takeNumber_1
  exact (fr_cv (ac_Fr.rf.tr (q_X10_readNext_1 u0) (by decide)) (fun (u3 : ac_U) h3 => (fr_if (fr_if (q_X10_takeNumber_1_34 u0 p0 p1 u3 h3) (fr_if h3 (q_X10_takeNumber_1_34 u0 p0 p1 u3 h3))) (fr_bd (h3.tr (q_X10_fail_1 u3 (1 : Int32)) (by decide)) (fun (u8 : ac_U) (r8 : Int32) h8 => h8)))))

theorem q_X10_takeSign_1_20 (u0 : ac_U) (p0 : Int32) (u : ac_U) (h : ac_Fr [(1, some 4), (1, some 5), (1, some 6), (1, some 8), (1, some 10), (1, some 11)] u0 u) : ac_Fr [(1, some 4), (1, some 5), (1, some 6), (1, some 8), (1, some 10), (1, some 11)] u0 (K_X10_takeSign_1_20 u0 p0 u).1 := by
  unfold K_X10_takeSign_1_20
  exact h
theorem q_X10_takeSign_1 (u0 : ac_U) (p0 : Int32) : ac_Fr [(1, some 4), (1, some 5), (1, some 6), (1, some 8), (1, some 10), (1, some 11)] u0 (f_X10_takeSign_1 u0 p0).1 := by
  unfold f_X10_takeSign_1
  exact (fr_cv (ac_Fr.rf.tr (q_X10_readNext_1 u0) (by decide)) (fun (u1 : ac_U) h1 => (fr_if (q_X10_takeSign_1_20 u0 p0 u1 h1) (fr_bd (h1.tr (q_X10_fail_1 u1 (1 : Int32)) (by decide)) (fun (u4 : ac_U) (r4 : Int32) h4 => (fr_if h4 h4))))))


theorem q_X10_startReading_1 (u0 : ac_U) (p0 : Int32) : ac_Fr [(1, some 3), (1, some 4), (1, some 5), (1, some 6), (1, some 8), (1, some 10), (1, some 11)] u0 (f_X10_startReading_1 u0 p0) := by
  unfold f_X10_startReading_1
  exact (fr_cvv ((fr_I (fr_I (fr_I (fr_I (fr_I ac_Fr.rf rfl) rfl) rfl) rfl) rfl).tr (q_X10_readNext_1 (pI (pI (pI (pI (pI u0 1 3 p0) 1 4 (0 : Int32)) 1 5 (0 : Int32)) 1 10 (0 : Int32)) 1 11 (0 : Int32))) (by decide)) (fun (u1 : ac_U) h1 => h1))


theorem q_X2_addName_13 (u0 : ac_U) (p0 : Int64) (p1 : Int32) (p2 : Int32) : ac_Fr [(13, some 8), (20, none), (21, none)] u0 (f_X2_addName_13 u0 p0 p1 p2) := by
  unfold f_X2_addName_13
  exact (fr_ifv ac_Fr.rf (fr_vlv (fun (v3 : Int32) => (fr_I (fr_I (fr_I (fr_L ac_Fr.rf) rfl) rfl) rfl))))


theorem q_X2_addDeed_13 (u0 : ac_U) (p0 : Int64) : ac_Fr [(13, some 5), (13, some 8), (20, none), (21, none)] u0 (f_X2_addDeed_13 u0 p0) := by
  unfold f_X2_addDeed_13
  exact (fr_cvv (ac_Fr.rf.tr (q_X2_addName_13 u0 p0 (2 : Int32) (u0.1 13 5)) (by decide)) (fun (u2 : ac_U) h2 => (fr_vlv (fun (v3 : Int32) => (fr_I h2 rfl)))))


theorem q_X2_addFrog_13 (u0 : ac_U) (p0 : Int32) : ac_Fr [(13, some 3), (15, none)] u0 (f_X2_addFrog_13 u0 p0) := by
  unfold f_X2_addFrog_13
  exact (fr_ifv ac_Fr.rf (fr_vlv (fun (v3 : Int32) => (fr_I (fr_I ac_Fr.rf rfl) rfl))))


theorem q_X2_addPerson_13 (u0 : ac_U) (p0 : Int64) (p1 : Int32) : ac_Fr [(13, some 4), (13, some 8), (16, none), (20, none), (21, none)] u0 (f_X2_addPerson_13 u0 p0 p1) := by
  unfold f_X2_addPerson_13
  exact (fr_ifv ac_Fr.rf (fr_cvv (ac_Fr.rf.tr (q_X2_addName_13 u0 p0 (1 : Int32) (u0.1 13 4)) (by decide)) (fun (u3 : ac_U) h3 => (fr_vlv (fun (v4 : Int32) => (fr_I (fr_I h3 rfl) rfl))))))


theorem q_X2_addPlace_13 (u0 : ac_U) (p0 : Int64) : ac_Fr [(13, some 1), (13, some 8), (20, none), (21, none)] u0 (f_X2_addPlace_13 u0 p0) := by
  unfold f_X2_addPlace_13
  exact (fr_cvv (ac_Fr.rf.tr (q_X2_addName_13 u0 p0 (0 : Int32) (u0.1 13 1)) (by decide)) (fun (u2 : ac_U) h2 => (fr_vlv (fun (v3 : Int32) => (fr_I h2 rfl)))))


theorem q_X2_addPromise_13_23 (u0 : ac_U) (p0 : Int64) : ac_Fr [(13, some 6), (13, some 8), (17, none), (20, none), (21, none)] u0 (f_X2_addPromise_13_23 u0 p0) := by
  unfold f_X2_addPromise_13_23
  exact (fr_ifv ac_Fr.rf (fr_cvv (ac_Fr.rf.tr (q_X2_addName_13 u0 p0 (3 : Int32) (u0.1 13 6)) (by decide)) (fun (u3 : ac_U) h3 => (fr_vlv (fun (v4 : Int32) => (fr_vlv (fun (v5 : Int32) => (fr_I (fr_C h3 (fun _ => rfl)) rfl))))))))


theorem q_X2_addVow_13 (u0 : ac_U) (p0 : Int32) (p1 : Int32) : ac_Fr [(13, some 7), (18, none)] u0 (f_X2_addVow_13 u0 p0 p1) := by
  unfold f_X2_addVow_13
  exact (fr_vlv (fun (v1 : Int32) => (fr_vlv (fun (v2 : Int32) => (fr_vlv (fun (v3 : Int32) => (fr_vlv (fun (v5 : Int32) => (fr_I (fr_I ac_Fr.rf rfl) rfl)))))))))


theorem q_X2_addWay_13 (u0 : ac_U) (p0 : Int32) (p1 : Int32) : ac_Fr [(13, some 2), (14, none)] u0 (f_X2_addWay_13 u0 p0 p1) := by
  unfold f_X2_addWay_13
  exact (fr_vlv (fun (v1 : Int32) => (fr_vlv (fun (v2 : Int32) => (fr_vlv (fun (v3 : Int32) => (fr_vlv (fun (v4 : Int32) => (fr_vlv (fun (v5 : Int32) => (fr_vlv (fun (v6 : Int32) => (fr_vlv (fun (v8 : Int32) => (fr_I (fr_I (fr_I ac_Fr.rf rfl) rfl) rfl)))))))))))))))

theorem q_J7_fill_53178_14_5_b (u0 : ac_U) (p1 : Int32) (B5 : ac_U → Int32 → Int32 → ac_U) (hB5 : ∀ (u : ac_U) (x2 : Int32) (x3 : Int32), ac_Fr [(14, none)] u0 u → ac_Fr [(14, none)] u0 (B5 u x2 x3)) (u : ac_U) (x2 : Int32) (x3 : Int32) (h : ac_Fr [(14, none)] u0 u) : ac_Fr [(14, none)] u0 (K_J7_fill_53178_14_5_b B5 u0 p1 u x2 x3) := by
  unfold K_J7_fill_53178_14_5_b
  exact (fr_ifv h (fr_vlv (fun (v2 : Int32) => (hB5 (pI u 14 x2.toNatClampNeg p1) v2 x3 (fr_I h rfl)))))
theorem q_J7_fill_53178_14_5 (u0 : ac_U) (p1 : Int32) : ∀ n : Nat, ∀ (u : ac_U) (x2 : Int32) (x3 : Int32), ac_Fr [(14, none)] u0 u → ac_Fr [(14, none)] u0 (K_J7_fill_53178_14_5 u0 p1 n u x2 x3)
  | 0 => fun u _ _ h => h
  | n + 1 => fun u x2 x3 h => q_J7_fill_53178_14_5_b u0 p1 (K_J7_fill_53178_14_5 u0 p1 n) (q_J7_fill_53178_14_5 u0 p1 n) u x2 x3 h
theorem q_J7_fill_53178_14 (u0 : ac_U) (p1 : Int32) : ac_Fr [(14, none)] u0 (f_J7_fill_53178_14 u0 p1) := by
  unfold f_J7_fill_53178_14
  exact (q_J7_fill_53178_14_5 u0 p1 10 u0 (0 : Int32) (8 : Int32) ac_Fr.rf)

theorem q_J7_fill_53178_18_5_b (u0 : ac_U) (p1 : Int32) (B5 : ac_U → Int32 → Int32 → ac_U) (hB5 : ∀ (u : ac_U) (x2 : Int32) (x3 : Int32), ac_Fr [(18, none)] u0 u → ac_Fr [(18, none)] u0 (B5 u x2 x3)) (u : ac_U) (x2 : Int32) (x3 : Int32) (h : ac_Fr [(18, none)] u0 u) : ac_Fr [(18, none)] u0 (K_J7_fill_53178_18_5_b B5 u0 p1 u x2 x3) := by
  unfold K_J7_fill_53178_18_5_b
  exact (fr_ifv h (fr_vlv (fun (v2 : Int32) => (hB5 (pI u 18 x2.toNatClampNeg p1) v2 x3 (fr_I h rfl)))))
theorem q_J7_fill_53178_18_5 (u0 : ac_U) (p1 : Int32) : ∀ n : Nat, ∀ (u : ac_U) (x2 : Int32) (x3 : Int32), ac_Fr [(18, none)] u0 u → ac_Fr [(18, none)] u0 (K_J7_fill_53178_18_5 u0 p1 n u x2 x3)
  | 0 => fun u _ _ h => h
  | n + 1 => fun u x2 x3 h => q_J7_fill_53178_18_5_b u0 p1 (K_J7_fill_53178_18_5 u0 p1 n) (q_J7_fill_53178_18_5 u0 p1 n) u x2 x3 h
theorem q_J7_fill_53178_18 (u0 : ac_U) (p1 : Int32) : ac_Fr [(18, none)] u0 (f_J7_fill_53178_18 u0 p1) := by
  unfold f_J7_fill_53178_18
  exact (q_J7_fill_53178_18_5 u0 p1 10 u0 (0 : Int32) (8 : Int32) ac_Fr.rf)


theorem q_X2_clear_13 (u0 : ac_U) : ac_Fr [(13, some 0), (13, some 1), (13, some 2), (13, some 3), (13, some 4), (13, some 5), (13, some 6), (13, some 7), (13, some 8), (14, none), (18, none)] u0 (f_X2_clear_13 u0) := by
  unfold f_X2_clear_13
  exact (fr_cvv ((fr_I (fr_I (fr_I (fr_I (fr_I (fr_I (fr_I (fr_I (fr_I ac_Fr.rf rfl) rfl) rfl) rfl) rfl) rfl) rfl) rfl) rfl).tr (q_J7_fill_53178_14 (pI (pI (pI (pI (pI (pI (pI (pI (pI u0 13 0 (24 : Int32)) 13 1 (0 : Int32)) 13 2 (0 : Int32)) 13 3 (0 : Int32)) 13 4 (0 : Int32)) 13 5 (0 : Int32)) 13 6 (0 : Int32)) 13 7 (0 : Int32)) 13 8 (0 : Int32)) (0 : Int32)) (by decide)) (fun (u1 : ac_U) h1 => (fr_cvv (h1.tr (q_J7_fill_53178_18 u1 (0 : Int32)) (by decide)) (fun (u2 : ac_U) h2 => h2))))


theorem q_X2_copyFrom_4_13 (u0 : ac_U) : ac_Fr [(4, some 0), (4, some 1), (4, some 2), (4, some 3), (4, some 4), (4, some 5), (4, some 6), (4, some 7), (4, some 8), (5, none), (6, none), (7, none), (8, none), (9, none), (11, none), (12, none)] u0 (f_X2_copyFrom_4_13 u0) := by
  unfold f_X2_copyFrom_4_13
  exact (fr_C (fr_C (fr_L (fr_C (fr_C (fr_C (fr_C (fr_C (fr_I (fr_I (fr_I (fr_I (fr_I (fr_I (fr_I (fr_I (fr_I ac_Fr.rf rfl) rfl) rfl) rfl) rfl) rfl) rfl) rfl) rfl) (fun _ => rfl)) (fun _ => rfl)) (fun _ => rfl)) (fun _ => rfl)) (fun _ => rfl))) (fun _ => rfl)) (fun _ => rfl))


theorem q_X2_copyFrom_55_4 (u0 : ac_U) : ac_Fr [(55, some 0), (55, some 1), (55, some 2), (55, some 3), (55, some 4), (55, some 5), (55, some 6), (55, some 7), (55, some 8), (56, none), (57, none), (58, none), (59, none), (60, none), (62, none), (63, none)] u0 (f_X2_copyFrom_55_4 u0) := by
  unfold f_X2_copyFrom_55_4
  exact (fr_C (fr_C (fr_L (fr_C (fr_C (fr_C (fr_C (fr_C (fr_I (fr_I (fr_I (fr_I (fr_I (fr_I (fr_I (fr_I (fr_I ac_Fr.rf rfl) rfl) rfl) rfl) rfl) rfl) rfl) rfl) rfl) (fun _ => rfl)) (fun _ => rfl)) (fun _ => rfl)) (fun _ => rfl)) (fun _ => rfl))) (fun _ => rfl)) (fun _ => rfl))


theorem q_X2_copyFrom_64_4 (u0 : ac_U) : ac_Fr [(64, some 0), (64, some 1), (64, some 2), (64, some 3), (64, some 4), (64, some 5), (64, some 6), (64, some 7), (64, some 8), (65, none), (66, none), (67, none), (68, none), (69, none), (71, none), (72, none)] u0 (f_X2_copyFrom_64_4 u0) := by
  unfold f_X2_copyFrom_64_4
  exact (fr_C (fr_C (fr_L (fr_C (fr_C (fr_C (fr_C (fr_C (fr_I (fr_I (fr_I (fr_I (fr_I (fr_I (fr_I (fr_I (fr_I ac_Fr.rf rfl) rfl) rfl) rfl) rfl) rfl) rfl) rfl) rfl) (fun _ => rfl)) (fun _ => rfl)) (fun _ => rfl)) (fun _ => rfl)) (fun _ => rfl))) (fun _ => rfl)) (fun _ => rfl))

theorem q_X10_takeNew_1_13_38 (u0 : ac_U) (u : ac_U) (h : ac_Fr [(1, some 4), (1, some 5), (1, some 6), (1, some 8), (1, some 10), (1, some 11)] u0 u) : ac_Fr [(1, some 4), (1, some 5), (1, some 6), (1, some 8), (1, some 10), (1, some 11)] u0 (K_X10_takeNew_1_13_38 u0 u).1 := by
  unfold K_X10_takeNew_1_13_38
  exact h
theorem q_X10_takeNew_1_13 (u0 : ac_U) : ac_Fr [(1, some 4), (1, some 5), (1, some 6), (1, some 8), (1, some 10), (1, some 11)] u0 (f_X10_takeNew_1_13 u0).1 := by
  unfold f_X10_takeNew_1_13
  exact (fr_cv (ac_Fr.rf.tr (q_X10_readNext_1 u0) (by decide)) (fun (u1 : ac_U) h1 => (fr_if (fr_vl (fun (r4 : Int32) => (fr_if (q_X10_takeNew_1_13_38 u0 u1 h1) (fr_bd (h1.tr (q_X10_fail_1 u1 (3 : Int32)) (by decide)) (fun (u6 : ac_U) (r6 : Int32) h6 => (fr_if h6 h6)))))) (fr_bd (h1.tr (q_X10_fail_1 u1 (1 : Int32)) (by decide)) (fun (u8 : ac_U) (r8 : Int32) h8 => h8)))))


theorem q_X3_readDeed_22 (u0 : ac_U) : ac_Fr [(1, some 4), (1, some 5), (1, some 6), (1, some 8), (1, some 10), (1, some 11), (13, some 5), (13, some 8), (20, none), (21, none)] u0 (f_X3_readDeed_22 u0).1 := by
  unfold f_X3_readDeed_22
  exact (fr_if (fr_bd (ac_Fr.rf.tr (q_X10_takeNew_1_13 u0) (by decide)) (fun (u3 : ac_U) (r3 : Int32) h3 => (fr_if (fr_cv (h3.tr (q_X2_addDeed_13 u3 (u3.2 1 7)) (by decide)) (fun (u5 : ac_U) h5 => (fr_bd (h5.tr (q_X10_takeSign_1 u5 (59 : Int32)) (by decide)) (fun (u6 : ac_U) (r6 : Int32) h6 => h6)))) h3))) (fr_bd (ac_Fr.rf.tr (q_X10_fail_1 u0 (4 : Int32)) (by decide)) (fun (u7 : ac_U) (r7 : Int32) h7 => h7)))

theorem q_X10_isKnown_1_13_38 (u0 : ac_U) (p1 : Int32) (u : ac_U) (h : ac_Fr [(1, some 9), (1, some 10), (1, some 11)] u0 u) : ac_Fr [(1, some 9), (1, some 10), (1, some 11)] u0 (K_X10_isKnown_1_13_38 u0 p1 u).1 := by
  unfold K_X10_isKnown_1_13_38
  exact (fr_bd (h.tr (q_X10_fail_1 u (3 : Int32)) (by decide)) (fun (u1 : ac_U) (r1 : Int32) h1 => h1))
theorem q_X10_isKnown_1_13 (u0 : ac_U) (p1 : Int32) : ac_Fr [(1, some 9), (1, some 10), (1, some 11)] u0 (f_X10_isKnown_1_13 u0 p1).1 := by
  unfold f_X10_isKnown_1_13
  exact (fr_if (fr_vl (fun (r5 : Int32) => (fr_if (q_X10_isKnown_1_13_38 u0 p1 u0 ac_Fr.rf) (fr_vl (fun (v7 : Int32) => (fr_if (fr_vl (fun (v9 : Int32) => (fr_I ac_Fr.rf rfl))) (q_X10_isKnown_1_13_38 u0 p1 u0 ac_Fr.rf))))))) (fr_bd (ac_Fr.rf.tr (q_X10_fail_1 u0 (1 : Int32)) (by decide)) (fun (u10 : ac_U) (r10 : Int32) h10 => h10)))


theorem q_X10_takeKnown_1_13 (u0 : ac_U) (p1 : Int32) : ac_Fr [(1, some 4), (1, some 5), (1, some 6), (1, some 8), (1, some 9), (1, some 10), (1, some 11)] u0 (f_X10_takeKnown_1_13 u0 p1).1 := by
  unfold f_X10_takeKnown_1_13
  exact (fr_cv (ac_Fr.rf.tr (q_X10_readNext_1 u0) (by decide)) (fun (u1 : ac_U) h1 => (fr_bd (h1.tr (q_X10_isKnown_1_13 u1 p1) (by decide)) (fun (u2 : ac_U) (r2 : Int32) h2 => h2))))

theorem q_X3_readEachUnless_22_123 (u0 : ac_U) (u : ac_U) (h : ac_Fr [(1, some 4), (1, some 5), (1, some 6), (1, some 8), (1, some 9), (1, some 10), (1, some 11), (23, none)] u0 u) : ac_Fr [(1, some 4), (1, some 5), (1, some 6), (1, some 8), (1, some 9), (1, some 10), (1, some 11), (23, none)] u0 (K_X3_readEachUnless_22_123 u0 u).1 := by
  unfold K_X3_readEachUnless_22_123
  exact h
theorem q_X3_readEachUnless_22_100 (u0 : ac_U) (u : ac_U) (h : ac_Fr [(1, some 4), (1, some 5), (1, some 6), (1, some 8), (1, some 9), (1, some 10), (1, some 11), (23, none)] u0 u) : ac_Fr [(1, some 4), (1, some 5), (1, some 6), (1, some 8), (1, some 9), (1, some 10), (1, some 11), (23, none)] u0 (K_X3_readEachUnless_22_100 u0 u).1 := by
  unfold K_X3_readEachUnless_22_100
  exact (fr_if (q_X3_readEachUnless_22_123 u0 u h) (fr_bd (h.tr (q_X10_fail_1 u (1 : Int32)) (by decide)) (fun (u3 : ac_U) (r3 : Int32) h3 => (fr_if h3 h3))))
theorem q_X3_readEachUnless_22_50 (u0 : ac_U) (u : ac_U) (h : ac_Fr [(1, some 4), (1, some 5), (1, some 6), (1, some 8), (1, some 9), (1, some 10), (1, some 11), (23, none)] u0 u) : ac_Fr [(1, some 4), (1, some 5), (1, some 6), (1, some 8), (1, some 9), (1, some 10), (1, some 11), (23, none)] u0 (K_X3_readEachUnless_22_50 u0 u).1 := by
  unfold K_X3_readEachUnless_22_50
  exact (fr_if (q_X3_readEachUnless_22_100 u0 u h) (fr_bd (h.tr (q_X10_takeKnown_1_13 u (2 : Int32)) (by decide)) (fun (u7 : ac_U) (r7 : Int32) h7 => (fr_if (fr_cv ((fr_I h7 rfl).tr (q_X10_readNext_1 (pI u7 23 7 (u7.1 1 9))) (by decide)) (fun (u10 : ac_U) h10 => (q_X3_readEachUnless_22_100 u0 u10 h10))) h7))))
theorem q_X3_readEachUnless_22 (u0 : ac_U) : ac_Fr [(1, some 4), (1, some 5), (1, some 6), (1, some 8), (1, some 9), (1, some 10), (1, some 11), (23, none)] u0 (f_X3_readEachUnless_22 u0).1 := by
  unfold f_X3_readEachUnless_22
  exact (fr_cv ((fr_I (fr_I ac_Fr.rf rfl) rfl).tr (q_X10_readNext_1 (pI (pI u0 23 6 (0 : Int32)) 23 7 (-1 : Int32))) (by decide)) (fun (u11 : ac_U) h11 => (fr_if (q_X3_readEachUnless_22_50 u0 u11 h11) (fr_cv ((fr_I h11 rfl).tr (q_X10_readNext_1 (pI u11 23 6 (1 : Int32))) (by decide)) (fun (u14 : ac_U) h14 => (q_X3_readEachUnless_22_50 u0 u14 h14))))))


theorem q_X3_readFrog_22 (u0 : ac_U) : ac_Fr [(1, some 4), (1, some 5), (1, some 6), (1, some 8), (1, some 9), (1, some 10), (1, some 11), (13, some 3), (15, none)] u0 (f_X3_readFrog_22 u0).1 := by
  unfold f_X3_readFrog_22
  exact (fr_if (fr_bd (ac_Fr.rf.tr (q_X10_takeKnown_1_13 u0 (0 : Int32)) (by decide)) (fun (u3 : ac_U) (r3 : Int32) h3 => (fr_if (fr_cv (h3.tr (q_X2_addFrog_13 u3 (u3.1 1 9)) (by decide)) (fun (u6 : ac_U) h6 => (fr_bd (h6.tr (q_X10_takeSign_1 u6 (59 : Int32)) (by decide)) (fun (u7 : ac_U) (r7 : Int32) h7 => h7)))) h3))) (fr_bd (ac_Fr.rf.tr (q_X10_fail_1 u0 (4 : Int32)) (by decide)) (fun (u8 : ac_U) (r8 : Int32) h8 => h8)))


theorem q_X3_readHours_22 (u0 : ac_U) : ac_Fr [(1, some 4), (1, some 5), (1, some 6), (1, some 8), (1, some 10), (1, some 11), (13, some 0), (22, some 4)] u0 (f_X3_readHours_22 u0).1 := by
  unfold f_X3_readHours_22
  exact (fr_if (fr_bd ((fr_I ac_Fr.rf rfl).tr (q_X10_takeNumber_1 (pI u0 22 4 (1 : Int32)) (4 : Int32) (24 : Int32)) (by decide)) (fun (u3 : ac_U) (r3 : Int32) h3 => (fr_if (fr_bd ((fr_I h3 rfl).tr (q_X10_takeSign_1 (pI u3 13 0 (u3.1 1 8)) (59 : Int32)) (by decide)) (fun (u5 : ac_U) (r5 : Int32) h5 => h5)) h3))) (fr_bd (ac_Fr.rf.tr (q_X10_fail_1 u0 (3 : Int32)) (by decide)) (fun (u6 : ac_U) (r6 : Int32) h6 => h6)))


theorem q_X3_readPerson_22 (u0 : ac_U) : ac_Fr [(1, some 4), (1, some 5), (1, some 6), (1, some 8), (1, some 9), (1, some 10), (1, some 11), (13, some 4), (13, some 8), (16, none), (20, none), (21, none)] u0 (f_X3_readPerson_22 u0).1 := by
  unfold f_X3_readPerson_22
  exact (fr_if (fr_bd (ac_Fr.rf.tr (q_X10_takeNew_1_13 u0) (by decide)) (fun (u3 : ac_U) (r3 : Int32) h3 => (fr_if (fr_bd (h3.tr (q_X10_takeKnown_1_13 u3 (0 : Int32)) (by decide)) (fun (u5 : ac_U) (r5 : Int32) h5 => (fr_if (fr_cv (h5.tr (q_X2_addPerson_13 u5 (u3.2 1 7) (u5.1 1 9)) (by decide)) (fun (u8 : ac_U) h8 => (fr_bd (h8.tr (q_X10_takeSign_1 u8 (59 : Int32)) (by decide)) (fun (u9 : ac_U) (r9 : Int32) h9 => h9)))) h5))) h3))) (fr_bd (ac_Fr.rf.tr (q_X10_fail_1 u0 (4 : Int32)) (by decide)) (fun (u10 : ac_U) (r10 : Int32) h10 => h10)))


theorem q_X3_readPlace_22 (u0 : ac_U) : ac_Fr [(1, some 4), (1, some 5), (1, some 6), (1, some 8), (1, some 10), (1, some 11), (13, some 1), (13, some 8), (20, none), (21, none)] u0 (f_X3_readPlace_22 u0).1 := by
  unfold f_X3_readPlace_22
  exact (fr_if (fr_bd (ac_Fr.rf.tr (q_X10_takeNew_1_13 u0) (by decide)) (fun (u3 : ac_U) (r3 : Int32) h3 => (fr_if (fr_cv (h3.tr (q_X2_addPlace_13 u3 (u3.2 1 7)) (by decide)) (fun (u5 : ac_U) h5 => (fr_bd (h5.tr (q_X10_takeSign_1 u5 (59 : Int32)) (by decide)) (fun (u6 : ac_U) (r6 : Int32) h6 => h6)))) h3))) (fr_bd (ac_Fr.rf.tr (q_X10_fail_1 u0 (4 : Int32)) (by decide)) (fun (u7 : ac_U) (r7 : Int32) h7 => h7)))


theorem q_X3_readWhenHowOften_22 (u0 : ac_U) : ac_Fr [(1, some 4), (1, some 5), (1, some 6), (1, some 8), (1, some 10), (1, some 11), (23, none)] u0 (f_X3_readWhenHowOften_22 u0).1 := by
  unfold f_X3_readWhenHowOften_22
  exact (fr_bd (ac_Fr.rf.tr (q_X10_takeNumber_1 u0 (0 : Int32) (23 : Int32)) (by decide)) (fun (u1 : ac_U) (r1 : Int32) h1 => (fr_if (fr_bd ((fr_I h1 rfl).tr (q_X10_takeNumber_1 (pI u1 23 3 (u1.1 1 8)) (u1.1 1 8) (23 : Int32)) (by decide)) (fun (u3 : ac_U) (r3 : Int32) h3 => (fr_if (fr_bd ((fr_I h3 rfl).tr (q_X10_takeNumber_1 (pI u3 23 4 (u3.1 1 8)) (1 : Int32) (3 : Int32)) (by decide)) (fun (u5 : ac_U) (r5 : Int32) h5 => (fr_if (fr_I h5 rfl) h5))) h3))) h1)))


theorem q_X3_readWhoWhatWhere_22 (u0 : ac_U) : ac_Fr [(1, some 4), (1, some 5), (1, some 6), (1, some 8), (1, some 9), (1, some 10), (1, some 11), (23, none)] u0 (f_X3_readWhoWhatWhere_22 u0).1 := by
  unfold f_X3_readWhoWhatWhere_22
  exact (fr_bd (ac_Fr.rf.tr (q_X10_takeKnown_1_13 u0 (1 : Int32)) (by decide)) (fun (u1 : ac_U) (r1 : Int32) h1 => (fr_if (fr_bd ((fr_I h1 rfl).tr (q_X10_takeKnown_1_13 (pI u1 23 0 (u1.1 1 9)) (2 : Int32)) (by decide)) (fun (u4 : ac_U) (r4 : Int32) h4 => (fr_if (fr_bd ((fr_I h4 rfl).tr (q_X10_takeKnown_1_13 (pI u4 23 1 (u4.1 1 9)) (0 : Int32)) (by decide)) (fun (u7 : ac_U) (r7 : Int32) h7 => (fr_if (fr_I h7 rfl) h7))) h4))) h1)))

theorem q_X3_readPromise_22_66 (u0 : ac_U) (u : ac_U) (h : ac_Fr [(1, some 4), (1, some 5), (1, some 6), (1, some 8), (1, some 9), (1, some 10), (1, some 11), (13, some 6), (13, some 8), (17, none), (20, none), (21, none), (23, none)] u0 u) : ac_Fr [(1, some 4), (1, some 5), (1, some 6), (1, some 8), (1, some 9), (1, some 10), (1, some 11), (13, some 6), (13, some 8), (17, none), (20, none), (21, none), (23, none)] u0 (K_X3_readPromise_22_66 u0 u).1 := by
  unfold K_X3_readPromise_22_66
  exact h
theorem q_X3_readPromise_22 (u0 : ac_U) : ac_Fr [(1, some 4), (1, some 5), (1, some 6), (1, some 8), (1, some 9), (1, some 10), (1, some 11), (13, some 6), (13, some 8), (17, none), (20, none), (21, none), (23, none)] u0 (f_X3_readPromise_22 u0).1 := by
  unfold f_X3_readPromise_22
  exact (fr_if (fr_bd (ac_Fr.rf.tr (q_X10_takeNew_1_13 u0) (by decide)) (fun (u3 : ac_U) (r3 : Int32) h3 => (fr_if (fr_bd (h3.tr (q_X3_readWhoWhatWhere_22 u3) (by decide)) (fun (u5 : ac_U) (r5 : Int32) h5 => (fr_if (q_X3_readPromise_22_66 u0 u5 h5) (fr_bd (h5.tr (q_X3_readWhenHowOften_22 u5) (by decide)) (fun (u7 : ac_U) (r7 : Int32) h7 => (fr_if (q_X3_readPromise_22_66 u0 u7 h7) (fr_bd (h7.tr (q_X3_readEachUnless_22 u7) (by decide)) (fun (u9 : ac_U) (r9 : Int32) h9 => (fr_if (fr_cv (h9.tr (q_X2_addPromise_13_23 u9 (u3.2 1 7)) (by decide)) (fun (u11 : ac_U) h11 => h11)) (q_X3_readPromise_22_66 u0 u9 h9)))))))))) h3))) (fr_bd (ac_Fr.rf.tr (q_X10_fail_1 u0 (4 : Int32)) (by decide)) (fun (u12 : ac_U) (r12 : Int32) h12 => h12)))

theorem q_X3_readVow_22_88 (u0 : ac_U) (u : ac_U) (h : ac_Fr [(1, some 4), (1, some 5), (1, some 6), (1, some 8), (1, some 9), (1, some 10), (1, some 11), (13, some 7), (18, none)] u0 u) : ac_Fr [(1, some 4), (1, some 5), (1, some 6), (1, some 8), (1, some 9), (1, some 10), (1, some 11), (13, some 7), (18, none)] u0 (K_X3_readVow_22_88 u0 u).1 := by
  unfold K_X3_readVow_22_88
  exact (fr_bd (h.tr (q_X10_fail_1 u (3 : Int32)) (by decide)) (fun (u1 : ac_U) (r1 : Int32) h1 => h1))
theorem q_X3_readVow_22 (u0 : ac_U) : ac_Fr [(1, some 4), (1, some 5), (1, some 6), (1, some 8), (1, some 9), (1, some 10), (1, some 11), (13, some 7), (18, none)] u0 (f_X3_readVow_22 u0).1 := by
  unfold f_X3_readVow_22
  exact (fr_if (fr_bd (ac_Fr.rf.tr (q_X10_takeKnown_1_13 u0 (3 : Int32)) (by decide)) (fun (u4 : ac_U) (r4 : Int32) h4 => (fr_if (fr_bd (h4.tr (q_X10_takeKnown_1_13 u4 (3 : Int32)) (by decide)) (fun (u7 : ac_U) (r7 : Int32) h7 => (fr_if (fr_if (q_X3_readVow_22_88 u0 u7 h7) (fr_vl (fun (r11 : Int32) => (fr_if (fr_cv (h7.tr (q_X2_addVow_13 u7 (u4.1 1 9) (u7.1 1 9)) (by decide)) (fun (u13 : ac_U) h13 => (fr_bd (h13.tr (q_X10_takeSign_1 u13 (59 : Int32)) (by decide)) (fun (u14 : ac_U) (r14 : Int32) h14 => h14)))) (q_X3_readVow_22_88 u0 u7 h7))))) h7))) h4))) (fr_bd (ac_Fr.rf.tr (q_X10_fail_1 u0 (4 : Int32)) (by decide)) (fun (u15 : ac_U) (r15 : Int32) h15 => h15)))

theorem q_X3_readWay_22_88 (u0 : ac_U) (u : ac_U) (h : ac_Fr [(1, some 4), (1, some 5), (1, some 6), (1, some 8), (1, some 9), (1, some 10), (1, some 11), (13, some 2), (14, none)] u0 u) : ac_Fr [(1, some 4), (1, some 5), (1, some 6), (1, some 8), (1, some 9), (1, some 10), (1, some 11), (13, some 2), (14, none)] u0 (K_X3_readWay_22_88 u0 u).1 := by
  unfold K_X3_readWay_22_88
  exact (fr_bd (h.tr (q_X10_fail_1 u (3 : Int32)) (by decide)) (fun (u1 : ac_U) (r1 : Int32) h1 => h1))
theorem q_X3_readWay_22 (u0 : ac_U) : ac_Fr [(1, some 4), (1, some 5), (1, some 6), (1, some 8), (1, some 9), (1, some 10), (1, some 11), (13, some 2), (14, none)] u0 (f_X3_readWay_22 u0).1 := by
  unfold f_X3_readWay_22
  exact (fr_if (fr_bd (ac_Fr.rf.tr (q_X10_takeKnown_1_13 u0 (0 : Int32)) (by decide)) (fun (u4 : ac_U) (r4 : Int32) h4 => (fr_if (fr_bd (h4.tr (q_X10_takeKnown_1_13 u4 (0 : Int32)) (by decide)) (fun (u7 : ac_U) (r7 : Int32) h7 => (fr_if (fr_if (q_X3_readWay_22_88 u0 u7 h7) (fr_vl (fun (r11 : Int32) => (fr_if (fr_cv (h7.tr (q_X2_addWay_13 u7 (u4.1 1 9) (u7.1 1 9)) (by decide)) (fun (u13 : ac_U) h13 => (fr_bd (h13.tr (q_X10_takeSign_1 u13 (59 : Int32)) (by decide)) (fun (u14 : ac_U) (r14 : Int32) h14 => h14)))) (q_X3_readWay_22_88 u0 u7 h7))))) h7))) h4))) (fr_bd (ac_Fr.rf.tr (q_X10_fail_1 u0 (4 : Int32)) (by decide)) (fun (u15 : ac_U) (r15 : Int32) h15 => h15)))

theorem q_X3_readWhole_22_209 (u0 : ac_U) (u : ac_U) (x1 : Int32) (h : ac_Fr [(1, some 3), (1, some 4), (1, some 5), (1, some 6), (1, some 8), (1, some 9), (1, some 10), (1, some 11), (13, some 0), (13, some 1), (13, some 2), (13, some 3), (13, some 4), (13, some 5), (13, some 6), (13, some 7), (13, some 8), (14, none), (15, none), (16, none), (17, none), (18, none), (20, none), (21, none), (22, some 3), (22, some 4), (23, none)] u0 u) : ac_Fr [(1, some 3), (1, some 4), (1, some 5), (1, some 6), (1, some 8), (1, some 9), (1, some 10), (1, some 11), (13, some 0), (13, some 1), (13, some 2), (13, some 3), (13, some 4), (13, some 5), (13, some 6), (13, some 7), (13, some 8), (14, none), (15, none), (16, none), (17, none), (18, none), (20, none), (21, none), (22, some 3), (22, some 4), (23, none)] u0 (K_X3_readWhole_22_209 u0 u x1).1 := by
  unfold K_X3_readWhole_22_209
  exact h
theorem q_X3_readWhole_22_189 (u0 : ac_U) (B29 : ac_U → Int32 → ac_U × Int32) (hB29 : ∀ (u : ac_U) (x1 : Int32), ac_Fr [(1, some 3), (1, some 4), (1, some 5), (1, some 6), (1, some 8), (1, some 9), (1, some 10), (1, some 11), (13, some 0), (13, some 1), (13, some 2), (13, some 3), (13, some 4), (13, some 5), (13, some 6), (13, some 7), (13, some 8), (14, none), (15, none), (16, none), (17, none), (18, none), (20, none), (21, none), (22, some 3), (22, some 4), (23, none)] u0 u → ac_Fr [(1, some 3), (1, some 4), (1, some 5), (1, some 6), (1, some 8), (1, some 9), (1, some 10), (1, some 11), (13, some 0), (13, some 1), (13, some 2), (13, some 3), (13, some 4), (13, some 5), (13, some 6), (13, some 7), (13, some 8), (14, none), (15, none), (16, none), (17, none), (18, none), (20, none), (21, none), (22, some 3), (22, some 4), (23, none)] u0 (B29 u x1).1) (u : ac_U) (x1 : Int32) (h : ac_Fr [(1, some 3), (1, some 4), (1, some 5), (1, some 6), (1, some 8), (1, some 9), (1, some 10), (1, some 11), (13, some 0), (13, some 1), (13, some 2), (13, some 3), (13, some 4), (13, some 5), (13, some 6), (13, some 7), (13, some 8), (14, none), (15, none), (16, none), (17, none), (18, none), (20, none), (21, none), (22, some 3), (22, some 4), (23, none)] u0 u) : ac_Fr [(1, some 3), (1, some 4), (1, some 5), (1, some 6), (1, some 8), (1, some 9), (1, some 10), (1, some 11), (13, some 0), (13, some 1), (13, some 2), (13, some 3), (13, some 4), (13, some 5), (13, some 6), (13, some 7), (13, some 8), (14, none), (15, none), (16, none), (17, none), (18, none), (20, none), (21, none), (22, some 3), (22, some 4), (23, none)] u0 (K_X3_readWhole_22_189 B29 u0 u x1).1 := by
  unfold K_X3_readWhole_22_189
  exact (fr_cv (h.tr (q_X10_readNext_1 u) (by decide)) (fun (u1 : ac_U) h1 => (fr_vl (fun (v2 : Int32) => (hB29 (pI u1 22 3 v2) x1 (fr_I h1 rfl))))))
theorem q_X3_readWhole_22_29_b (u0 : ac_U) (B29 : ac_U → Int32 → ac_U × Int32) (hB29 : ∀ (u : ac_U) (x1 : Int32), ac_Fr [(1, some 3), (1, some 4), (1, some 5), (1, some 6), (1, some 8), (1, some 9), (1, some 10), (1, some 11), (13, some 0), (13, some 1), (13, some 2), (13, some 3), (13, some 4), (13, some 5), (13, some 6), (13, some 7), (13, some 8), (14, none), (15, none), (16, none), (17, none), (18, none), (20, none), (21, none), (22, some 3), (22, some 4), (23, none)] u0 u → ac_Fr [(1, some 3), (1, some 4), (1, some 5), (1, some 6), (1, some 8), (1, some 9), (1, some 10), (1, some 11), (13, some 0), (13, some 1), (13, some 2), (13, some 3), (13, some 4), (13, some 5), (13, some 6), (13, some 7), (13, some 8), (14, none), (15, none), (16, none), (17, none), (18, none), (20, none), (21, none), (22, some 3), (22, some 4), (23, none)] u0 (B29 u x1).1) (u : ac_U) (x1 : Int32) (h : ac_Fr [(1, some 3), (1, some 4), (1, some 5), (1, some 6), (1, some 8), (1, some 9), (1, some 10), (1, some 11), (13, some 0), (13, some 1), (13, some 2), (13, some 3), (13, some 4), (13, some 5), (13, some 6), (13, some 7), (13, some 8), (14, none), (15, none), (16, none), (17, none), (18, none), (20, none), (21, none), (22, some 3), (22, some 4), (23, none)] u0 u) : ac_Fr [(1, some 3), (1, some 4), (1, some 5), (1, some 6), (1, some 8), (1, some 9), (1, some 10), (1, some 11), (13, some 0), (13, some 1), (13, some 2), (13, some 3), (13, some 4), (13, some 5), (13, some 6), (13, some 7), (13, some 8), (14, none), (15, none), (16, none), (17, none), (18, none), (20, none), (21, none), (22, some 3), (22, some 4), (23, none)] u0 (K_X3_readWhole_22_29_b B29 u0 u x1).1 := by
  unfold K_X3_readWhole_22_29_b
  exact (fr_if (q_X3_readWhole_22_209 u0 u x1 h) (fr_if (q_X3_readWhole_22_209 u0 u x1 h) (fr_if (q_X3_readWhole_22_209 u0 u x1 h) (fr_if (fr_bd (h.tr (q_X10_fail_1 u (1 : Int32)) (by decide)) (fun (u9 : ac_U) (r9 : Int32) h9 => (q_X3_readWhole_22_189 u0 B29 hB29 u9 r9 h9))) (fr_if (fr_bd (h.tr (q_X3_readHours_22 u) (by decide)) (fun (u10 : ac_U) (r10 : Int32) h10 => (q_X3_readWhole_22_189 u0 B29 hB29 u10 r10 h10))) (fr_if (fr_bd (h.tr (q_X3_readPlace_22 u) (by decide)) (fun (u11 : ac_U) (r11 : Int32) h11 => (q_X3_readWhole_22_189 u0 B29 hB29 u11 r11 h11))) (fr_if (fr_bd (h.tr (q_X3_readWay_22 u) (by decide)) (fun (u12 : ac_U) (r12 : Int32) h12 => (q_X3_readWhole_22_189 u0 B29 hB29 u12 r12 h12))) (fr_if (fr_bd (h.tr (q_X3_readFrog_22 u) (by decide)) (fun (u13 : ac_U) (r13 : Int32) h13 => (q_X3_readWhole_22_189 u0 B29 hB29 u13 r13 h13))) (fr_if (fr_bd (h.tr (q_X3_readPerson_22 u) (by decide)) (fun (u14 : ac_U) (r14 : Int32) h14 => (q_X3_readWhole_22_189 u0 B29 hB29 u14 r14 h14))) (fr_if (fr_bd (h.tr (q_X3_readDeed_22 u) (by decide)) (fun (u15 : ac_U) (r15 : Int32) h15 => (q_X3_readWhole_22_189 u0 B29 hB29 u15 r15 h15))) (fr_if (fr_bd (h.tr (q_X3_readPromise_22 u) (by decide)) (fun (u16 : ac_U) (r16 : Int32) h16 => (q_X3_readWhole_22_189 u0 B29 hB29 u16 r16 h16))) (fr_if (fr_bd (h.tr (q_X10_fail_1 u (1 : Int32)) (by decide)) (fun (u17 : ac_U) (r17 : Int32) h17 => (q_X3_readWhole_22_189 u0 B29 hB29 u17 r17 h17))) (fr_if (fr_bd (h.tr (q_X10_fail_1 u (1 : Int32)) (by decide)) (fun (u18 : ac_U) (r18 : Int32) h18 => (q_X3_readWhole_22_189 u0 B29 hB29 u18 r18 h18))) (fr_bd (h.tr (q_X3_readVow_22 u) (by decide)) (fun (u19 : ac_U) (r19 : Int32) h19 => (q_X3_readWhole_22_189 u0 B29 hB29 u19 r19 h19))))))))))))))))
theorem q_X3_readWhole_22_29 (u0 : ac_U) : ∀ n : Nat, ∀ (u : ac_U) (x1 : Int32), ac_Fr [(1, some 3), (1, some 4), (1, some 5), (1, some 6), (1, some 8), (1, some 9), (1, some 10), (1, some 11), (13, some 0), (13, some 1), (13, some 2), (13, some 3), (13, some 4), (13, some 5), (13, some 6), (13, some 7), (13, some 8), (14, none), (15, none), (16, none), (17, none), (18, none), (20, none), (21, none), (22, some 3), (22, some 4), (23, none)] u0 u → ac_Fr [(1, some 3), (1, some 4), (1, some 5), (1, some 6), (1, some 8), (1, some 9), (1, some 10), (1, some 11), (13, some 0), (13, some 1), (13, some 2), (13, some 3), (13, some 4), (13, some 5), (13, some 6), (13, some 7), (13, some 8), (14, none), (15, none), (16, none), (17, none), (18, none), (20, none), (21, none), (22, some 3), (22, some 4), (23, none)] u0 (K_X3_readWhole_22_29 u0 n u x1).1
  | 0 => fun u _ h => h
  | n + 1 => fun u x1 h => q_X3_readWhole_22_29_b u0 (K_X3_readWhole_22_29 u0 n) (q_X3_readWhole_22_29 u0 n) u x1 h
theorem q_X3_readWhole_22 (u0 : ac_U) : ac_Fr [(1, some 3), (1, some 4), (1, some 5), (1, some 6), (1, some 8), (1, some 9), (1, some 10), (1, some 11), (13, some 0), (13, some 1), (13, some 2), (13, some 3), (13, some 4), (13, some 5), (13, some 6), (13, some 7), (13, some 8), (14, none), (15, none), (16, none), (17, none), (18, none), (20, none), (21, none), (22, some 3), (22, some 4), (23, none)] u0 (f_X3_readWhole_22 u0).1 := by
  unfold f_X3_readWhole_22
  exact (fr_cv (ac_Fr.rf.tr (q_X2_clear_13 u0) (by decide)) (fun (u20 : ac_U) h20 => (fr_cv ((fr_I h20 rfl).tr (q_X10_startReading_1 (pI u20 22 4 (0 : Int32)) (900 : Int32)) (by decide)) (fun (u21 : ac_U) h21 => (q_X3_readWhole_22_29 u0 943 (pI u21 22 3 (0 : Int32)) (1 : Int32) (fr_I h21 rfl))))))


theorem q_X8_copyFrom_43_73 (u0 : ac_U) : ac_Fr [(43, some 3), (43, some 4), (44, none), (45, none), (46, none)] u0 (f_X8_copyFrom_43_73 u0) := by
  unfold f_X8_copyFrom_43_73
  exact (fr_C (fr_C (fr_C (fr_I (fr_I ac_Fr.rf rfl) rfl) (fun _ => rfl)) (fun _ => rfl)) (fun _ => rfl))


theorem q_X8_copyFrom_43_77 (u0 : ac_U) : ac_Fr [(43, some 3), (43, some 4), (44, none), (45, none), (46, none)] u0 (f_X8_copyFrom_43_77 u0) := by
  unfold f_X8_copyFrom_43_77
  exact (fr_C (fr_C (fr_C (fr_I (fr_I ac_Fr.rf rfl) rfl) (fun _ => rfl)) (fun _ => rfl)) (fun _ => rfl))


theorem q_X8_copyFrom_73_43 (u0 : ac_U) : ac_Fr [(73, some 3), (73, some 4), (74, none), (75, none), (76, none)] u0 (f_X8_copyFrom_73_43 u0) := by
  unfold f_X8_copyFrom_73_43
  exact (fr_C (fr_C (fr_C (fr_I (fr_I ac_Fr.rf rfl) rfl) (fun _ => rfl)) (fun _ => rfl)) (fun _ => rfl))


theorem q_X4_take_53_4_24_43 (u0 : ac_U) : ac_Fr [(53, some 4), (55, some 0), (55, some 1), (55, some 2), (55, some 3), (55, some 4), (55, some 5), (55, some 6), (55, some 7), (55, some 8), (56, none), (57, none), (58, none), (59, none), (60, none), (62, none), (63, none), (73, some 3), (73, some 4), (74, none), (75, none), (76, none), (81, none), (82, none)] u0 (f_X4_take_53_4_24_43 u0) := by
  unfold f_X4_take_53_4_24_43
  exact (fr_cvv (ac_Fr.rf.tr (q_X2_copyFrom_55_4 u0) (by decide)) (fun (u1 : ac_U) h1 => (fr_cvv (h1.tr (q_X8_copyFrom_73_43 u1) (by decide)) (fun (u3 : ac_U) h3 => (fr_I (fr_C (fr_C h3 (fun _ => rfl)) (fun _ => rfl)) rfl)))))


theorem q_X8_copyFrom_77_43 (u0 : ac_U) : ac_Fr [(77, some 3), (77, some 4), (78, none), (79, none), (80, none)] u0 (f_X8_copyFrom_77_43 u0) := by
  unfold f_X8_copyFrom_77_43
  exact (fr_C (fr_C (fr_C (fr_I (fr_I ac_Fr.rf rfl) rfl) (fun _ => rfl)) (fun _ => rfl)) (fun _ => rfl))


theorem q_X4_take_54_4_24_43 (u0 : ac_U) : ac_Fr [(54, some 4), (64, some 0), (64, some 1), (64, some 2), (64, some 3), (64, some 4), (64, some 5), (64, some 6), (64, some 7), (64, some 8), (65, none), (66, none), (67, none), (68, none), (69, none), (71, none), (72, none), (77, some 3), (77, some 4), (78, none), (79, none), (80, none), (83, none), (84, none)] u0 (f_X4_take_54_4_24_43 u0) := by
  unfold f_X4_take_54_4_24_43
  exact (fr_cvv (ac_Fr.rf.tr (q_X2_copyFrom_64_4 u0) (by decide)) (fun (u1 : ac_U) h1 => (fr_cvv (h1.tr (q_X8_copyFrom_77_43 u1) (by decide)) (fun (u3 : ac_U) h3 => (fr_I (fr_C (fr_C h3 (fun _ => rfl)) (fun _ => rfl)) rfl)))))

theorem q_X6_unsayAll_24_2_b (u0 : ac_U) (B2 : ac_U → Int32 → ac_U) (hB2 : ∀ (u : ac_U) (x1 : Int32), ac_Fr [(25, none)] u0 u → ac_Fr [(25, none)] u0 (B2 u x1)) (u : ac_U) (x1 : Int32) (h : ac_Fr [(25, none)] u0 u) : ac_Fr [(25, none)] u0 (K_X6_unsayAll_24_2_b B2 u0 u x1) := by
  unfold K_X6_unsayAll_24_2_b
  exact (fr_ifv h (fr_vlv (fun (v2 : Int32) => (fr_vlv (fun (v3 : Int32) => (hB2 (pI u 25 v2.toNatClampNeg (-1 : Int32)) v3 (fr_I h rfl)))))))
theorem q_X6_unsayAll_24_2 (u0 : ac_U) : ∀ n : Nat, ∀ (u : ac_U) (x1 : Int32), ac_Fr [(25, none)] u0 u → ac_Fr [(25, none)] u0 (K_X6_unsayAll_24_2 u0 n u x1)
  | 0 => fun u _ h => h
  | n + 1 => fun u x1 h => q_X6_unsayAll_24_2_b u0 (K_X6_unsayAll_24_2 u0 n) (q_X6_unsayAll_24_2 u0 n) u x1 h
theorem q_X6_unsayAll_24 (u0 : ac_U) : ac_Fr [(25, none)] u0 (f_X6_unsayAll_24 u0) := by
  unfold f_X6_unsayAll_24
  exact (q_X6_unsayAll_24_2 u0 10 u0 (0 : Int32) ac_Fr.rf)

theorem q_J7_fill_53178_25_5_b (u0 : ac_U) (p1 : Int32) (B5 : ac_U → Int32 → Int32 → ac_U) (hB5 : ∀ (u : ac_U) (x2 : Int32) (x3 : Int32), ac_Fr [(25, none)] u0 u → ac_Fr [(25, none)] u0 (B5 u x2 x3)) (u : ac_U) (x2 : Int32) (x3 : Int32) (h : ac_Fr [(25, none)] u0 u) : ac_Fr [(25, none)] u0 (K_J7_fill_53178_25_5_b B5 u0 p1 u x2 x3) := by
  unfold K_J7_fill_53178_25_5_b
  exact (fr_ifv h (fr_vlv (fun (v2 : Int32) => (hB5 (pI u 25 x2.toNatClampNeg p1) v2 x3 (fr_I h rfl)))))
theorem q_J7_fill_53178_25_5 (u0 : ac_U) (p1 : Int32) : ∀ n : Nat, ∀ (u : ac_U) (x2 : Int32) (x3 : Int32), ac_Fr [(25, none)] u0 u → ac_Fr [(25, none)] u0 (K_J7_fill_53178_25_5 u0 p1 n u x2 x3)
  | 0 => fun u _ _ h => h
  | n + 1 => fun u x2 x3 h => q_J7_fill_53178_25_5_b u0 p1 (K_J7_fill_53178_25_5 u0 p1 n) (q_J7_fill_53178_25_5 u0 p1 n) u x2 x3 h
theorem q_J7_fill_53178_25 (u0 : ac_U) (p1 : Int32) : ac_Fr [(25, none)] u0 (f_J7_fill_53178_25 u0 p1) := by
  unfold f_J7_fill_53178_25
  exact (q_J7_fill_53178_25_5 u0 p1 33 u0 (0 : Int32) (31 : Int32) ac_Fr.rf)


theorem q_X6_begin_24 (u0 : ac_U) : ac_Fr [(24, some 5), (25, none)] u0 (f_X6_begin_24 u0) := by
  unfold f_X6_begin_24
  exact (fr_cvv (ac_Fr.rf.tr (q_J7_fill_53178_25 u0 (0 : Int32)) (by decide)) (fun (u1 : ac_U) h1 => (fr_cvv (h1.tr (q_X6_unsayAll_24 u1) (by decide)) (fun (u2 : ac_U) h2 => (fr_I (fr_C h2 (fun _ => rfl)) rfl)))))


theorem q_X8_clear_43 (u0 : ac_U) : ac_Fr [(43, some 3), (43, some 4)] u0 (f_X8_clear_43 u0) := by
  unfold f_X8_clear_43
  exact (fr_I (fr_I ac_Fr.rf rfl) rfl)

theorem q_X12_bad_85 (u0 : ac_U) (p0 : Int32) : ac_Fr [(85, some 15), (85, some 16)] u0 (f_X12_bad_85 u0 p0).1 := by
  unfold f_X12_bad_85
  exact (fr_I (fr_I ac_Fr.rf rfl) rfl)

theorem q_X12_next_85_333 (u0 : ac_U) (u : ac_U) (z1 : Int32) (h : ac_Fr [(85, some 4), (85, some 11), (85, some 12), (85, some 13), (85, some 14)] u0 u) : ac_Fr [(85, some 4), (85, some 11), (85, some 12), (85, some 13), (85, some 14)] u0 (K_X12_next_85_333 u0 u z1) := by
  unfold K_X12_next_85_333
  exact (fr_I h rfl)
theorem q_X12_next_85_320 (u0 : ac_U) (u : ac_U) (h : ac_Fr [(85, some 4), (85, some 11), (85, some 12), (85, some 13), (85, some 14)] u0 u) : ac_Fr [(85, some 4), (85, some 11), (85, some 12), (85, some 13), (85, some 14)] u0 (K_X12_next_85_320 u0 u) := by
  unfold K_X12_next_85_320
  exact (q_X12_next_85_333 u0 u (4 : Int32) h)
theorem q_X12_next_85_317 (u0 : ac_U) (u : ac_U) (x2 : Int32) (z1 : Int32) (z2 : Int32) (h : ac_Fr [(85, some 4), (85, some 11), (85, some 12), (85, some 13), (85, some 14)] u0 u) : ac_Fr [(85, some 4), (85, some 11), (85, some 12), (85, some 13), (85, some 14)] u0 (K_X12_next_85_317 u0 u x2 z1 z2) := by
  unfold K_X12_next_85_317
  exact (fr_ifv (fr_ifv (q_X12_next_85_333 u0 u (2 : Int32) h) (q_X12_next_85_333 u0 u (1 : Int32) h)) (q_X12_next_85_320 u0 u h))
theorem q_X12_next_85_275 (u0 : ac_U) (B181 : ac_U → Int32 → Int32 → ac_U) (hB181 : ∀ (u : ac_U) (x2 : Int32) (x3 : Int32), ac_Fr [(85, some 4), (85, some 11), (85, some 12), (85, some 13), (85, some 14)] u0 u → ac_Fr [(85, some 4), (85, some 11), (85, some 12), (85, some 13), (85, some 14)] u0 (B181 u x2 x3)) (u : ac_U) (x2 : Int32) (x3 : Int32) (h : ac_Fr [(85, some 4), (85, some 11), (85, some 12), (85, some 13), (85, some 14)] u0 u) : ac_Fr [(85, some 4), (85, some 11), (85, some 12), (85, some 13), (85, some 14)] u0 (K_X12_next_85_275 B181 u0 u x2 x3) := by
  unfold K_X12_next_85_275
  exact (fr_vlv (fun (v3 : Int32) => (fr_vlv (fun (v5 : Int32) => (hB181 (pI (pI u 85 13 v3) 85 4 v5) x2 x3 (fr_I (fr_I h rfl) rfl))))))
theorem q_X12_next_85_248 (u0 : ac_U) (B181 : ac_U → Int32 → Int32 → ac_U) (hB181 : ∀ (u : ac_U) (x2 : Int32) (x3 : Int32), ac_Fr [(85, some 4), (85, some 11), (85, some 12), (85, some 13), (85, some 14)] u0 u → ac_Fr [(85, some 4), (85, some 11), (85, some 12), (85, some 13), (85, some 14)] u0 (B181 u x2 x3)) (u : ac_U) (x2 : Int32) (x3 : Int32) (h : ac_Fr [(85, some 4), (85, some 11), (85, some 12), (85, some 13), (85, some 14)] u0 u) : ac_Fr [(85, some 4), (85, some 11), (85, some 12), (85, some 13), (85, some 14)] u0 (K_X12_next_85_248 B181 u0 u x2 x3) := by
  unfold K_X12_next_85_248
  exact (fr_ifv (q_X12_next_85_275 u0 B181 hB181 u x2 x3 h) (fr_vlv (fun (v8 : Int32) => (fr_vlv (fun (r9 : Int32) => (fr_vlv (fun (v12 : Int32) => (fr_vlv (fun (v13 : Int32) => (q_X12_next_85_275 u0 B181 hB181 (pI u 85 14 v13) x2 x3 (fr_I h rfl)))))))))))
theorem q_X12_next_85_221 (u0 : ac_U) (B181 : ac_U → Int32 → Int32 → ac_U) (hB181 : ∀ (u : ac_U) (x2 : Int32) (x3 : Int32), ac_Fr [(85, some 4), (85, some 11), (85, some 12), (85, some 13), (85, some 14)] u0 u → ac_Fr [(85, some 4), (85, some 11), (85, some 12), (85, some 13), (85, some 14)] u0 (B181 u x2 x3)) (u : ac_U) (x2 : Int32) (z0 : Int32) (h : ac_Fr [(85, some 4), (85, some 11), (85, some 12), (85, some 13), (85, some 14)] u0 u) : ac_Fr [(85, some 4), (85, some 11), (85, some 12), (85, some 13), (85, some 14)] u0 (K_X12_next_85_221 B181 u0 u x2 z0) := by
  unfold K_X12_next_85_221
  exact (fr_ifv (q_X12_next_85_248 u0 B181 hB181 u x2 z0 h) (fr_vlv (fun (w16 : Int64) => (fr_vlv (fun (r17 : Int32) => (fr_vlv (fun (w20 : Int64) => (fr_vlv (fun (w21 : Int64) => (q_X12_next_85_248 u0 B181 hB181 (pL u 85 17 w21) x2 z0 (fr_L h)))))))))))
theorem q_X12_next_85_220 (u0 : ac_U) (B181 : ac_U → Int32 → Int32 → ac_U) (hB181 : ∀ (u : ac_U) (x2 : Int32) (x3 : Int32), ac_Fr [(85, some 4), (85, some 11), (85, some 12), (85, some 13), (85, some 14)] u0 u → ac_Fr [(85, some 4), (85, some 11), (85, some 12), (85, some 13), (85, some 14)] u0 (B181 u x2 x3)) (u : ac_U) (x2 : Int32) (h : ac_Fr [(85, some 4), (85, some 11), (85, some 12), (85, some 13), (85, some 14)] u0 u) : ac_Fr [(85, some 4), (85, some 11), (85, some 12), (85, some 13), (85, some 14)] u0 (K_X12_next_85_220 B181 u0 u x2) := by
  unfold K_X12_next_85_220
  exact (q_X12_next_85_221 u0 B181 hB181 u x2 (0 : Int32) h)
theorem q_X12_next_85_201 (u0 : ac_U) (B181 : ac_U → Int32 → Int32 → ac_U) (hB181 : ∀ (u : ac_U) (x2 : Int32) (x3 : Int32), ac_Fr [(85, some 4), (85, some 11), (85, some 12), (85, some 13), (85, some 14)] u0 u → ac_Fr [(85, some 4), (85, some 11), (85, some 12), (85, some 13), (85, some 14)] u0 (B181 u x2 x3)) (u : ac_U) (x2 : Int32) (x3 : Int32) (h : ac_Fr [(85, some 4), (85, some 11), (85, some 12), (85, some 13), (85, some 14)] u0 u) : ac_Fr [(85, some 4), (85, some 11), (85, some 12), (85, some 13), (85, some 14)] u0 (K_X12_next_85_201 B181 u0 u x2 x3) := by
  unfold K_X12_next_85_201
  exact (fr_ifv (q_X12_next_85_220 u0 B181 hB181 u x2 h) (fr_vlv (fun (r25 : Int32) => (fr_vlv (fun (r28 : Int32) => (fr_ifv (q_X12_next_85_220 u0 B181 hB181 u x2 h) (q_X12_next_85_221 u0 B181 hB181 u x2 (1 : Int32) h)))))))
theorem q_X12_next_85_181_b (u0 : ac_U) (B181 : ac_U → Int32 → Int32 → ac_U) (hB181 : ∀ (u : ac_U) (x2 : Int32) (x3 : Int32), ac_Fr [(85, some 4), (85, some 11), (85, some 12), (85, some 13), (85, some 14)] u0 u → ac_Fr [(85, some 4), (85, some 11), (85, some 12), (85, some 13), (85, some 14)] u0 (B181 u x2 x3)) (u : ac_U) (x2 : Int32) (x3 : Int32) (h : ac_Fr [(85, some 4), (85, some 11), (85, some 12), (85, some 13), (85, some 14)] u0 u) : ac_Fr [(85, some 4), (85, some 11), (85, some 12), (85, some 13), (85, some 14)] u0 (K_X12_next_85_181_b B181 u0 u x2 x3) := by
  unfold K_X12_next_85_181_b
  exact (fr_vlv (fun (r30 : Int32) => (fr_vlv (fun (r33 : Int32) => (fr_ifv (q_X12_next_85_201 u0 B181 hB181 u x2 x3 h) (fr_vlv (fun (r35 : Int32) => (fr_vlv (fun (r36 : Int32) => (fr_ifv (fr_ifv (q_X12_next_85_320 u0 u h) (fr_ifv (q_X12_next_85_317 u0 u x2 (u.1 85 13) (3 : Int32) h) (q_X12_next_85_317 u0 u x2 (u.1 85 13) (7 : Int32) h))) (q_X12_next_85_201 u0 B181 hB181 u x2 x3 h)))))))))))
theorem q_X12_next_85_181 (u0 : ac_U) : ∀ n : Nat, ∀ (u : ac_U) (x2 : Int32) (x3 : Int32), ac_Fr [(85, some 4), (85, some 11), (85, some 12), (85, some 13), (85, some 14)] u0 u → ac_Fr [(85, some 4), (85, some 11), (85, some 12), (85, some 13), (85, some 14)] u0 (K_X12_next_85_181 u0 n u x2 x3)
  | 0 => fun u _ _ h => h
  | n + 1 => fun u x2 x3 h => q_X12_next_85_181_b u0 (K_X12_next_85_181 u0 n) (q_X12_next_85_181 u0 n) u x2 x3 h
theorem q_X12_next_85_164 (u0 : ac_U) (u : ac_U) (x1 : Int32) (h : ac_Fr [(85, some 4), (85, some 11), (85, some 12), (85, some 13), (85, some 14)] u0 u) : ac_Fr [(85, some 4), (85, some 11), (85, some 12), (85, some 13), (85, some 14)] u0 (K_X12_next_85_164 u0 u x1) := by
  unfold K_X12_next_85_164
  exact (fr_vlv (fun (r40 : Int32) => (q_X12_next_85_181 u0 942 (pI (pL u 85 17 (0 : Int64)) 85 14 (0 : Int32)) r40 (1 : Int32) (fr_I (fr_L h) rfl))))
theorem q_X12_next_85_145 (u0 : ac_U) (u : ac_U) (x1 : Int32) (z1 : Int32) (h : ac_Fr [(85, some 4), (85, some 11), (85, some 12), (85, some 13), (85, some 14)] u0 u) : ac_Fr [(85, some 4), (85, some 11), (85, some 12), (85, some 13), (85, some 14)] u0 (K_X12_next_85_145 u0 u x1 z1) := by
  unfold K_X12_next_85_145
  exact (fr_vlv (fun (v43 : Int32) => (fr_I (fr_I (fr_I h rfl) rfl) rfl)))
theorem q_X12_next_85_144 (u0 : ac_U) (u : ac_U) (x1 : Int32) (h : ac_Fr [(85, some 4), (85, some 11), (85, some 12), (85, some 13), (85, some 14)] u0 u) : ac_Fr [(85, some 4), (85, some 11), (85, some 12), (85, some 13), (85, some 14)] u0 (K_X12_next_85_144 u0 u x1) := by
  unfold K_X12_next_85_144
  exact (q_X12_next_85_145 u0 u x1 (4 : Int32) h)
theorem q_X12_next_85_140 (u0 : ac_U) (u : ac_U) (x1 : Int32) (h : ac_Fr [(85, some 4), (85, some 11), (85, some 12), (85, some 13), (85, some 14)] u0 u) : ac_Fr [(85, some 4), (85, some 11), (85, some 12), (85, some 13), (85, some 14)] u0 (K_X12_next_85_140 u0 u x1) := by
  unfold K_X12_next_85_140
  exact (q_X12_next_85_145 u0 u x1 (3 : Int32) h)
theorem q_X12_next_85_80 (u0 : ac_U) (u : ac_U) (h : ac_Fr [(85, some 4), (85, some 11), (85, some 12), (85, some 13), (85, some 14)] u0 u) : ac_Fr [(85, some 4), (85, some 11), (85, some 12), (85, some 13), (85, some 14)] u0 (K_X12_next_85_80 u0 u) := by
  unfold K_X12_next_85_80
  exact (fr_vlv (fun (r46 : Int32) => (fr_ifv (fr_vlv (fun (r50 : Int32) => (fr_ifv (q_X12_next_85_164 u0 u r46 h) (fr_vlv (fun (r52 : Int32) => (fr_ifv (q_X12_next_85_164 u0 u r46 h) (fr_ifv (q_X12_next_85_140 u0 u r46 h) (fr_ifv (q_X12_next_85_140 u0 u r46 h) (fr_ifv (q_X12_next_85_140 u0 u r46 h) (fr_ifv (q_X12_next_85_144 u0 u r46 h) (fr_ifv (q_X12_next_85_144 u0 u r46 h) (q_X12_next_85_140 u0 u r46 h)))))))))))) (fr_I h rfl))))
theorem q_X12_next_85_18 (u0 : ac_U) (B0 : ac_U → ac_U) (hB0 : ∀ (u : ac_U), ac_Fr [(85, some 4), (85, some 11), (85, some 12), (85, some 13), (85, some 14)] u0 u → ac_Fr [(85, some 4), (85, some 11), (85, some 12), (85, some 13), (85, some 14)] u0 (B0 u)) (u : ac_U) (h : ac_Fr [(85, some 4), (85, some 11), (85, some 12), (85, some 13), (85, some 14)] u0 u) : ac_Fr [(85, some 4), (85, some 11), (85, some 12), (85, some 13), (85, some 14)] u0 (K_X12_next_85_18 B0 u0 u) := by
  unfold K_X12_next_85_18
  exact (fr_vlv (fun (v60 : Int32) => (hB0 (pI u 85 4 v60) (fr_I h rfl))))
theorem q_X12_next_85_0_b (u0 : ac_U) (B0 : ac_U → ac_U) (hB0 : ∀ (u : ac_U), ac_Fr [(85, some 4), (85, some 11), (85, some 12), (85, some 13), (85, some 14)] u0 u → ac_Fr [(85, some 4), (85, some 11), (85, some 12), (85, some 13), (85, some 14)] u0 (B0 u)) (u : ac_U) (h : ac_Fr [(85, some 4), (85, some 11), (85, some 12), (85, some 13), (85, some 14)] u0 u) : ac_Fr [(85, some 4), (85, some 11), (85, some 12), (85, some 13), (85, some 14)] u0 (K_X12_next_85_0_b B0 u0 u) := by
  unfold K_X12_next_85_0_b
  exact (fr_vlv (fun (r61 : Int32) => (fr_ifv (q_X12_next_85_18 u0 B0 hB0 u h) (fr_vlv (fun (r65 : Int32) => (fr_ifv (fr_ifv (q_X12_next_85_80 u0 (pI (pI u 85 12 (u.1 85 4)) 85 13 (0 : Int32)) (fr_I (fr_I h rfl) rfl)) (fr_ifv (q_X12_next_85_80 u0 (pI (pI u 85 12 (u.1 85 4)) 85 13 (0 : Int32)) (fr_I (fr_I h rfl) rfl)) (fr_I (fr_I (fr_I (fr_I h rfl) rfl) rfl) rfl))) (q_X12_next_85_18 u0 B0 hB0 u h)))))))
theorem q_X12_next_85_0 (u0 : ac_U) : ∀ n : Nat, ∀ (u : ac_U), ac_Fr [(85, some 4), (85, some 11), (85, some 12), (85, some 13), (85, some 14)] u0 u → ac_Fr [(85, some 4), (85, some 11), (85, some 12), (85, some 13), (85, some 14)] u0 (K_X12_next_85_0 u0 n u)
  | 0 => fun u h => h
  | n + 1 => fun u h => q_X12_next_85_0_b u0 (K_X12_next_85_0 u0 n) (q_X12_next_85_0 u0 n) u h
theorem q_X12_next_85 (u0 : ac_U) : ac_Fr [(85, some 4), (85, some 11), (85, some 12), (85, some 13), (85, some 14)] u0 (f_X12_next_85 u0) := by
  unfold f_X12_next_85
  exact (q_X12_next_85_0 u0 942 u0 ac_Fr.rf)


theorem q_X12_looksAt_85 (u0 : ac_U) (p0 : Int32) (p1 : Int32) : ac_Fr [(85, some 15), (85, some 16), (85, some 18)] u0 (f_X12_looksAt_85 u0 p0 p1).1 := by
  unfold f_X12_looksAt_85
  exact (fr_vl (fun (r1 : Int32) => (fr_if (fr_vl (fun (r3 : Int32) => (fr_if (fr_I ac_Fr.rf rfl) (fr_bd ((fr_I ac_Fr.rf rfl).tr (q_X12_bad_85 (pI u0 85 18 r3) (3 : Int32)) (by decide)) (fun (u5 : ac_U) (r5 : Int32) h5 => (fr_if h5 h5)))))) (fr_bd (ac_Fr.rf.tr (q_X12_bad_85 u0 (1 : Int32)) (by decide)) (fun (u8 : ac_U) (r8 : Int32) h8 => h8)))))


theorem q_X12_takes_85 (u0 : ac_U) (p0 : Int32) (p1 : Int32) : ac_Fr [(85, some 4), (85, some 11), (85, some 12), (85, some 13), (85, some 14), (85, some 15), (85, some 16), (85, some 18)] u0 (f_X12_takes_85 u0 p0 p1).1 := by
  unfold f_X12_takes_85
  exact (fr_if (fr_vl (fun (r3 : Int32) => (fr_if (fr_cv ((fr_I ac_Fr.rf rfl).tr (q_X12_next_85 (pI u0 85 18 (u0.1 85 14))) (by decide)) (fun (u5 : ac_U) h5 => h5)) (fr_bd (ac_Fr.rf.tr (q_X12_bad_85 u0 (2 : Int32)) (by decide)) (fun (u7 : ac_U) (r7 : Int32) h7 => h7))))) (fr_bd (ac_Fr.rf.tr (q_X12_bad_85 u0 (1 : Int32)) (by decide)) (fun (u8 : ac_U) (r8 : Int32) h8 => h8)))


theorem q_X12_takesName_85 (u0 : ac_U) (p0 : Int32) (p1 : Int32) : ac_Fr [(85, some 4), (85, some 11), (85, some 12), (85, some 13), (85, some 14), (85, some 15), (85, some 16), (85, some 18)] u0 (f_X12_takesName_85 u0 p0 p1).1 := by
  unfold f_X12_takesName_85
  exact (fr_bd (ac_Fr.rf.tr (q_X12_looksAt_85 u0 p0 p1) (by decide)) (fun (u1 : ac_U) (r1 : Int32) h1 => (fr_if (fr_cv (h1.tr (q_X12_next_85 u1) (by decide)) (fun (u3 : ac_U) h3 => h3)) h1)))


theorem q_X12_sign_85 (u0 : ac_U) (p0 : Int32) : ac_Fr [(85, some 4), (85, some 11), (85, some 12), (85, some 13), (85, some 14), (85, some 15), (85, some 16)] u0 (f_X12_sign_85 u0 p0).1 := by
  unfold f_X12_sign_85
  exact (fr_vl (fun (r1 : Int32) => (fr_if (fr_cv (ac_Fr.rf.tr (q_X12_next_85 u0) (by decide)) (fun (u3 : ac_U) h3 => h3)) (fr_bd (ac_Fr.rf.tr (q_X12_bad_85 u0 (1 : Int32)) (by decide)) (fun (u4 : ac_U) (r4 : Int32) h4 => h4)))))


theorem q_X12_fresh_85_74 (u0 : ac_U) (p0 : Int32) (u : ac_U) (h : ac_Fr [(85, some 4), (85, some 11), (85, some 12), (85, some 13), (85, some 14), (85, some 15), (85, some 16)] u0 u) : ac_Fr [(85, some 4), (85, some 11), (85, some 12), (85, some 13), (85, some 14), (85, some 15), (85, some 16)] u0 (K_X12_fresh_85_74 u0 p0 u).1 := by
  unfold K_X12_fresh_85_74
  exact (fr_bd (h.tr (q_X12_bad_85 u (3 : Int32)) (by decide)) (fun (u1 : ac_U) (r1 : Int32) h1 => h1))
theorem q_X12_fresh_85 (u0 : ac_U) (p0 : Int32) : ac_Fr [(85, some 4), (85, some 11), (85, some 12), (85, some 13), (85, some 14), (85, some 15), (85, some 16)] u0 (f_X12_fresh_85 u0 p0).1 := by
  unfold f_X12_fresh_85
  exact (fr_vl (fun (r2 : Int32) => (fr_if (fr_vl (fun (r5 : Int32) => (fr_if (q_X12_fresh_85_74 u0 p0 u0 ac_Fr.rf) (fr_vl (fun (r8 : Int32) => (fr_if (q_X12_fresh_85_74 u0 p0 u0 ac_Fr.rf) (fr_vl (fun (r11 : Int32) => (fr_if (q_X12_fresh_85_74 u0 p0 u0 ac_Fr.rf) (fr_vl (fun (r14 : Int32) => (fr_if (fr_cv ((fr_L ac_Fr.rf).tr (q_X12_next_85 (pL u0 90 p0.toNatClampNeg (u0.2 85 17))) (by decide)) (fun (u16 : ac_U) h16 => h16)) (q_X12_fresh_85_74 u0 p0 u0 ac_Fr.rf))))))))))))) (fr_bd (ac_Fr.rf.tr (q_X12_bad_85 u0 (1 : Int32)) (by decide)) (fun (u17 : ac_U) (r17 : Int32) h17 => h17)))))


theorem q_X12_readPromise_85_301 (u0 : ac_U) (u : ac_U) (h : ac_Fr [(85, some 4), (85, some 11), (85, some 12), (85, some 13), (85, some 14), (85, some 15), (85, some 16), (85, some 18), (88, none)] u0 u) : ac_Fr [(85, some 4), (85, some 11), (85, some 12), (85, some 13), (85, some 14), (85, some 15), (85, some 16), (85, some 18), (88, none)] u0 (K_X12_readPromise_85_301 u0 u).1 := by
  unfold K_X12_readPromise_85_301
  exact (fr_vl (fun (v2 : Int32) => (fr_I h rfl)))
theorem q_X12_readPromise_85_245 (u0 : ac_U) (u : ac_U) (x1 : Int32) (h : ac_Fr [(85, some 4), (85, some 11), (85, some 12), (85, some 13), (85, some 14), (85, some 15), (85, some 16), (85, some 18), (88, none)] u0 u) : ac_Fr [(85, some 4), (85, some 11), (85, some 12), (85, some 13), (85, some 14), (85, some 15), (85, some 16), (85, some 18), (88, none)] u0 (K_X12_readPromise_85_245 u0 u x1).1 := by
  unfold K_X12_readPromise_85_245
  exact (fr_vl (fun (v3 : Int32) => (fr_vl (fun (r5 : Int32) => (fr_if (q_X12_readPromise_85_301 u0 (pI u 88 v3.toNatClampNeg (0 : Int32)) (fr_I h rfl)) (fr_cv ((fr_I h rfl).tr (q_X12_next_85 (pI u 88 v3.toNatClampNeg (0 : Int32))) (by decide)) (fun (u7 : ac_U) h7 => (fr_bd (h7.tr (q_X12_takesName_85 u7 (38 : Int32) (u7.1 88 5)) (by decide)) (fun (u9 : ac_U) (r9 : Int32) h9 => (fr_if (fr_vl (fun (v11 : Int32) => (fr_vl (fun (v12 : Int32) => (q_X12_readPromise_85_301 u0 (pI u9 88 v11.toNatClampNeg v12) (fr_I h9 rfl)))))) h9))))))))))
theorem q_X12_readPromise_85_230 (u0 : ac_U) (u : ac_U) (x1 : Int32) (z1 : Int32) (z2 : Int32) (h : ac_Fr [(85, some 4), (85, some 11), (85, some 12), (85, some 13), (85, some 14), (85, some 15), (85, some 16), (85, some 18), (88, none)] u0 u) : ac_Fr [(85, some 4), (85, some 11), (85, some 12), (85, some 13), (85, some 14), (85, some 15), (85, some 16), (85, some 18), (88, none)] u0 (K_X12_readPromise_85_230 u0 u x1 z1 z2).1 := by
  unfold K_X12_readPromise_85_230
  exact (fr_vl (fun (r14 : Int32) => (fr_if (q_X12_readPromise_85_245 u0 (pI u 88 z1.toNatClampNeg z2) x1 (fr_I h rfl)) (fr_cv ((fr_I h rfl).tr (q_X12_next_85 (pI u 88 z1.toNatClampNeg z2)) (by decide)) (fun (u16 : ac_U) h16 => (q_X12_readPromise_85_245 u0 u16 x1 h16))))))
theorem q_X12_readPromise_85_50 (u0 : ac_U) (u : ac_U) (h : ac_Fr [(85, some 4), (85, some 11), (85, some 12), (85, some 13), (85, some 14), (85, some 15), (85, some 16), (85, some 18), (88, none)] u0 u) : ac_Fr [(85, some 4), (85, some 11), (85, some 12), (85, some 13), (85, some 14), (85, some 15), (85, some 16), (85, some 18), (88, none)] u0 (K_X12_readPromise_85_50 u0 u).1 := by
  unfold K_X12_readPromise_85_50
  exact h
theorem q_X12_readPromise_85 (u0 : ac_U) : ac_Fr [(85, some 4), (85, some 11), (85, some 12), (85, some 13), (85, some 14), (85, some 15), (85, some 16), (85, some 18), (88, none)] u0 (f_X12_readPromise_85 u0).1 := by
  unfold f_X12_readPromise_85
  exact (fr_if (fr_cv (ac_Fr.rf.tr (q_X12_next_85 u0) (by decide)) (fun (u19 : ac_U) h19 => (fr_vl (fun (v20 : Int32) => (fr_bd (h19.tr (q_X12_fresh_85 u19 v20) (by decide)) (fun (u21 : ac_U) (r21 : Int32) h21 => (fr_if (q_X12_readPromise_85_50 u0 u21 h21) (fr_bd (h21.tr (q_X12_takesName_85 u21 (34 : Int32) (u21.1 88 4)) (by decide)) (fun (u24 : ac_U) (r24 : Int32) h24 => (fr_if (fr_vl (fun (v26 : Int32) => (fr_vl (fun (v27 : Int32) => (fr_bd ((fr_I h24 rfl).tr (q_X12_takesName_85 (pI u24 88 v26.toNatClampNeg (u24.1 85 18)) (38 : Int32) v27) (by decide)) (fun (u28 : ac_U) (r28 : Int32) h28 => (fr_if (fr_vl (fun (v30 : Int32) => (fr_vl (fun (v31 : Int32) => (fr_bd ((fr_I h28 rfl).tr (q_X12_takesName_85 (pI u28 88 v30.toNatClampNeg (u28.1 85 18)) (26 : Int32) v31) (by decide)) (fun (u32 : ac_U) (r32 : Int32) h32 => (fr_if (fr_vl (fun (v34 : Int32) => (fr_bd ((fr_I h32 rfl).tr (q_X12_takes_85 (pI u32 88 v34.toNatClampNeg (u32.1 85 18)) (0 : Int32) (23 : Int32)) (by decide)) (fun (u35 : ac_U) (r35 : Int32) h35 => (fr_if (fr_vl (fun (v37 : Int32) => (fr_vl (fun (v38 : Int32) => (fr_vl (fun (v39 : Int32) => (fr_bd ((fr_I h35 rfl).tr (q_X12_takes_85 (pI u35 88 v37.toNatClampNeg (u35.1 85 18)) v39 (23 : Int32)) (by decide)) (fun (u40 : ac_U) (r40 : Int32) h40 => (fr_if (fr_vl (fun (v42 : Int32) => (fr_bd ((fr_I h40 rfl).tr (q_X12_takes_85 (pI u40 88 v42.toNatClampNeg (u40.1 85 18)) (1 : Int32) (3 : Int32)) (by decide)) (fun (u43 : ac_U) (r43 : Int32) h43 => (fr_if (fr_vl (fun (v45 : Int32) => (fr_vl (fun (v46 : Int32) => (fr_vl (fun (r47 : Int32) => (fr_if (q_X12_readPromise_85_230 u0 (pI u43 88 v45.toNatClampNeg (u43.1 85 18)) (u0.1 88 6) v46 (0 : Int32) (fr_I h43 rfl)) (q_X12_readPromise_85_230 u0 (pI u43 88 v45.toNatClampNeg (u43.1 85 18)) (u0.1 88 6) v46 (1 : Int32) (fr_I h43 rfl))))))))) h43))))) h40))))))))) h35))))) h32))))))) h28))))))) (q_X12_readPromise_85_50 u0 u24 h24))))))))))) (fr_bd (ac_Fr.rf.tr (q_X12_bad_85 u0 (4 : Int32)) (by decide)) (fun (u49 : ac_U) (r49 : Int32) h49 => h49)))

theorem q_X12_line_85_663 (u0 : ac_U) (B614 : ac_U → Int32 → Int32 → Int32 → ac_U × Int32) (hB614 : ∀ (u : ac_U) (x1 : Int32) (x2 : Int32) (x3 : Int32), ac_Fr [(85, some 4), (85, some 11), (85, some 12), (85, some 13), (85, some 14), (85, some 15), (85, some 16), (85, some 18), (85, some 20), (88, none)] u0 u → ac_Fr [(85, some 4), (85, some 11), (85, some 12), (85, some 13), (85, some 14), (85, some 15), (85, some 16), (85, some 18), (85, some 20), (88, none)] u0 (B614 u x1 x2 x3).1) (u : ac_U) (x1 : Int32) (x3 : Int32) (z0 : Int32) (h : ac_Fr [(85, some 4), (85, some 11), (85, some 12), (85, some 13), (85, some 14), (85, some 15), (85, some 16), (85, some 18), (85, some 20), (88, none)] u0 u) : ac_Fr [(85, some 4), (85, some 11), (85, some 12), (85, some 13), (85, some 14), (85, some 15), (85, some 16), (85, some 18), (85, some 20), (88, none)] u0 (K_X12_line_85_663 B614 u0 u x1 x3 z0).1 := by
  unfold K_X12_line_85_663
  exact (fr_vl (fun (v1 : Int32) => (hB614 u x1 z0 v1 h)))
theorem q_X12_line_85_662 (u0 : ac_U) (B614 : ac_U → Int32 → Int32 → Int32 → ac_U × Int32) (hB614 : ∀ (u : ac_U) (x1 : Int32) (x2 : Int32) (x3 : Int32), ac_Fr [(85, some 4), (85, some 11), (85, some 12), (85, some 13), (85, some 14), (85, some 15), (85, some 16), (85, some 18), (85, some 20), (88, none)] u0 u → ac_Fr [(85, some 4), (85, some 11), (85, some 12), (85, some 13), (85, some 14), (85, some 15), (85, some 16), (85, some 18), (85, some 20), (88, none)] u0 (B614 u x1 x2 x3).1) (u : ac_U) (x1 : Int32) (x3 : Int32) (h : ac_Fr [(85, some 4), (85, some 11), (85, some 12), (85, some 13), (85, some 14), (85, some 15), (85, some 16), (85, some 18), (85, some 20), (88, none)] u0 u) : ac_Fr [(85, some 4), (85, some 11), (85, some 12), (85, some 13), (85, some 14), (85, some 15), (85, some 16), (85, some 18), (85, some 20), (88, none)] u0 (K_X12_line_85_662 B614 u0 u x1 x3).1 := by
  unfold K_X12_line_85_662
  exact (q_X12_line_85_663 u0 B614 hB614 u x1 x3 (0 : Int32) h)
theorem q_X12_line_85_658 (u0 : ac_U) (B614 : ac_U → Int32 → Int32 → Int32 → ac_U × Int32) (hB614 : ∀ (u : ac_U) (x1 : Int32) (x2 : Int32) (x3 : Int32), ac_Fr [(85, some 4), (85, some 11), (85, some 12), (85, some 13), (85, some 14), (85, some 15), (85, some 16), (85, some 18), (85, some 20), (88, none)] u0 u → ac_Fr [(85, some 4), (85, some 11), (85, some 12), (85, some 13), (85, some 14), (85, some 15), (85, some 16), (85, some 18), (85, some 20), (88, none)] u0 (B614 u x1 x2 x3).1) (u : ac_U) (x1 : Int32) (x3 : Int32) (h : ac_Fr [(85, some 4), (85, some 11), (85, some 12), (85, some 13), (85, some 14), (85, some 15), (85, some 16), (85, some 18), (85, some 20), (88, none)] u0 u) : ac_Fr [(85, some 4), (85, some 11), (85, some 12), (85, some 13), (85, some 14), (85, some 15), (85, some 16), (85, some 18), (85, some 20), (88, none)] u0 (K_X12_line_85_658 B614 u0 u x1 x3).1 := by
  unfold K_X12_line_85_658
  exact (q_X12_line_85_663 u0 B614 hB614 u x1 x3 (1 : Int32) h)
theorem q_X12_line_85_614_b (u0 : ac_U) (B614 : ac_U → Int32 → Int32 → Int32 → ac_U × Int32) (hB614 : ∀ (u : ac_U) (x1 : Int32) (x2 : Int32) (x3 : Int32), ac_Fr [(85, some 4), (85, some 11), (85, some 12), (85, some 13), (85, some 14), (85, some 15), (85, some 16), (85, some 18), (85, some 20), (88, none)] u0 u → ac_Fr [(85, some 4), (85, some 11), (85, some 12), (85, some 13), (85, some 14), (85, some 15), (85, some 16), (85, some 18), (85, some 20), (88, none)] u0 (B614 u x1 x2 x3).1) (u : ac_U) (x1 : Int32) (x2 : Int32) (x3 : Int32) (h : ac_Fr [(85, some 4), (85, some 11), (85, some 12), (85, some 13), (85, some 14), (85, some 15), (85, some 16), (85, some 18), (85, some 20), (88, none)] u0 u) : ac_Fr [(85, some 4), (85, some 11), (85, some 12), (85, some 13), (85, some 14), (85, some 15), (85, some 16), (85, some 18), (85, some 20), (88, none)] u0 (K_X12_line_85_614_b B614 u0 u x1 x2 x3).1 := by
  unfold K_X12_line_85_614_b
  exact (fr_if (fr_if (fr_vl (fun (v8 : Int32) => (fr_vl (fun (v10 : Int32) => (fr_vl (fun (v11 : Int32) => (fr_cv ((fr_I (fr_I (fr_I h rfl) rfl) rfl).tr (q_X12_next_85 (pI (pI (pI u 88 v8.toNatClampNeg x1) 88 v10.toNatClampNeg (u.1 85 18)) 88 7 v11)) (by decide)) (fun (u12 : ac_U) h12 => h12)))))))) (fr_bd (h.tr (q_X12_bad_85 u (3 : Int32)) (by decide)) (fun (u13 : ac_U) (r13 : Int32) h13 => h13))) (fr_if (q_X12_line_85_662 u0 B614 hB614 u x1 x3 h) (fr_vl (fun (v16 : Int32) => (fr_vl (fun (v17 : Int32) => (fr_if (q_X12_line_85_658 u0 B614 hB614 u x1 x3 h) (fr_vl (fun (v19 : Int32) => (fr_vl (fun (v20 : Int32) => (fr_if (q_X12_line_85_662 u0 B614 hB614 u x1 x3 h) (q_X12_line_85_658 u0 B614 hB614 u x1 x3 h)))))))))))))
theorem q_X12_line_85_614 (u0 : ac_U) : ∀ n : Nat, ∀ (u : ac_U) (x1 : Int32) (x2 : Int32) (x3 : Int32), ac_Fr [(85, some 4), (85, some 11), (85, some 12), (85, some 13), (85, some 14), (85, some 15), (85, some 16), (85, some 18), (85, some 20), (88, none)] u0 u → ac_Fr [(85, some 4), (85, some 11), (85, some 12), (85, some 13), (85, some 14), (85, some 15), (85, some 16), (85, some 18), (85, some 20), (88, none)] u0 (K_X12_line_85_614 u0 n u x1 x2 x3).1
  | 0 => fun u _ _ _ h => h
  | n + 1 => fun u x1 x2 x3 h => q_X12_line_85_614_b u0 (K_X12_line_85_614 u0 n) (q_X12_line_85_614 u0 n) u x1 x2 x3 h
theorem q_X12_line_85_611 (u0 : ac_U) (u : ac_U) (x1 : Int32) (z0 : Int32) (h : ac_Fr [(85, some 4), (85, some 11), (85, some 12), (85, some 13), (85, some 14), (85, some 15), (85, some 16), (85, some 18), (85, some 20), (88, none)] u0 u) : ac_Fr [(85, some 4), (85, some 11), (85, some 12), (85, some 13), (85, some 14), (85, some 15), (85, some 16), (85, some 18), (85, some 20), (88, none)] u0 (K_X12_line_85_611 u0 u x1 z0).1 := by
  unfold K_X12_line_85_611
  exact (q_X12_line_85_614 u0 9 u x1 z0 (0 : Int32) h)
theorem q_X12_line_85_411 (u0 : ac_U) (u : ac_U) (h : ac_Fr [(85, some 4), (85, some 11), (85, some 12), (85, some 13), (85, some 14), (85, some 15), (85, some 16), (85, some 18), (85, some 20), (88, none)] u0 u) : ac_Fr [(85, some 4), (85, some 11), (85, some 12), (85, some 13), (85, some 14), (85, some 15), (85, some 16), (85, some 18), (85, some 20), (88, none)] u0 (K_X12_line_85_411 u0 u).1 := by
  unfold K_X12_line_85_411
  exact h
theorem q_X12_line_85_214 (u0 : ac_U) (u : ac_U) (h : ac_Fr [(85, some 4), (85, some 11), (85, some 12), (85, some 13), (85, some 14), (85, some 15), (85, some 16), (85, some 18), (85, some 20), (88, none)] u0 u) : ac_Fr [(85, some 4), (85, some 11), (85, some 12), (85, some 13), (85, some 14), (85, some 15), (85, some 16), (85, some 18), (85, some 20), (88, none)] u0 (K_X12_line_85_214 u0 u).1 := by
  unfold K_X12_line_85_214
  exact (fr_bd (h.tr (q_X12_bad_85 u (3 : Int32)) (by decide)) (fun (u23 : ac_U) (r23 : Int32) h23 => h23))
theorem q_X12_line_85 (u0 : ac_U) : ac_Fr [(85, some 4), (85, some 11), (85, some 12), (85, some 13), (85, some 14), (85, some 15), (85, some 16), (85, some 18), (85, some 20), (88, none)] u0 (f_X12_line_85 u0).1 := by
  unfold f_X12_line_85
  exact (fr_vl (fun (r25 : Int32) => (fr_if (fr_vl (fun (r27 : Int32) => (fr_if (fr_vl (fun (r29 : Int32) => (fr_if (fr_vl (fun (r31 : Int32) => (fr_if (fr_vl (fun (r33 : Int32) => (fr_if (fr_vl (fun (r35 : Int32) => (fr_if (fr_vl (fun (r37 : Int32) => (fr_if (fr_vl (fun (r39 : Int32) => (fr_if (fr_if (fr_cv (ac_Fr.rf.tr (q_X12_next_85 u0) (by decide)) (fun (u43 : ac_U) h43 => (fr_bd (h43.tr (q_X12_takesName_85 u43 (44 : Int32) (u43.1 88 6)) (by decide)) (fun (u46 : ac_U) (r46 : Int32) h46 => (fr_if (fr_bd (h46.tr (q_X12_looksAt_85 u46 (44 : Int32) (u43.1 88 6)) (by decide)) (fun (u48 : ac_U) (r48 : Int32) h48 => (fr_if (fr_if (q_X12_line_85_611 u0 u48 (u46.1 85 18) (0 : Int32) h48) (q_X12_line_85_611 u0 u48 (u46.1 85 18) (1 : Int32) h48)) h48))) h46))))) (fr_bd (ac_Fr.rf.tr (q_X12_bad_85 u0 (4 : Int32)) (by decide)) (fun (u51 : ac_U) (r51 : Int32) h51 => h51))) (fr_bd (ac_Fr.rf.tr (q_X12_bad_85 u0 (1 : Int32)) (by decide)) (fun (u53 : ac_U) (r53 : Int32) h53 => h53))))) (fr_bd (ac_Fr.rf.tr (q_X12_readPromise_85 u0) (by decide)) (fun (u55 : ac_U) (r55 : Int32) h55 => h55))))) (fr_if (fr_cv (ac_Fr.rf.tr (q_X12_next_85 u0) (by decide)) (fun (u59 : ac_U) h59 => (fr_vl (fun (v61 : Int32) => (fr_bd (h59.tr (q_X12_fresh_85 u59 v61) (by decide)) (fun (u62 : ac_U) (r62 : Int32) h62 => (fr_if (fr_vl (fun (v64 : Int32) => (fr_I h62 rfl))) h62))))))) (fr_bd (ac_Fr.rf.tr (q_X12_bad_85 u0 (4 : Int32)) (by decide)) (fun (u65 : ac_U) (r65 : Int32) h65 => h65)))))) (fr_if (fr_cv (ac_Fr.rf.tr (q_X12_next_85 u0) (by decide)) (fun (u69 : ac_U) h69 => (fr_vl (fun (v71 : Int32) => (fr_bd (h69.tr (q_X12_fresh_85 u69 v71) (by decide)) (fun (u72 : ac_U) (r72 : Int32) h72 => (fr_if (q_X12_line_85_411 u0 u72 h72) (fr_bd (h72.tr (q_X12_takesName_85 u72 (26 : Int32) (u0.1 88 1)) (by decide)) (fun (u74 : ac_U) (r74 : Int32) h74 => (fr_if (fr_vl (fun (v76 : Int32) => (fr_vl (fun (v77 : Int32) => (fr_I (fr_I h74 rfl) rfl))))) (q_X12_line_85_411 u0 u74 h74))))))))))) (fr_bd (ac_Fr.rf.tr (q_X12_bad_85 u0 (4 : Int32)) (by decide)) (fun (u78 : ac_U) (r78 : Int32) h78 => h78)))))) (fr_if (fr_cv (ac_Fr.rf.tr (q_X12_next_85 u0) (by decide)) (fun (u82 : ac_U) h82 => (fr_bd (h82.tr (q_X12_takesName_85 u82 (26 : Int32) (u0.1 88 1)) (by decide)) (fun (u84 : ac_U) (r84 : Int32) h84 => (fr_if (fr_vl (fun (v86 : Int32) => (fr_vl (fun (v87 : Int32) => (fr_I (fr_I h84 rfl) rfl))))) h84))))) (fr_bd (ac_Fr.rf.tr (q_X12_bad_85 u0 (4 : Int32)) (by decide)) (fun (u88 : ac_U) (r88 : Int32) h88 => h88)))))) (fr_if (fr_cv (ac_Fr.rf.tr (q_X12_next_85 u0) (by decide)) (fun (u92 : ac_U) h92 => (fr_bd (h92.tr (q_X12_takesName_85 u92 (26 : Int32) (u0.1 88 1)) (by decide)) (fun (u94 : ac_U) (r94 : Int32) h94 => (fr_if (fr_bd (h94.tr (q_X12_looksAt_85 u94 (26 : Int32) (u0.1 88 1)) (by decide)) (fun (u96 : ac_U) (r96 : Int32) h96 => (fr_if (fr_if (q_X12_line_85_214 u0 u96 h96) (fr_vl (fun (v99 : Int32) => (fr_vl (fun (v100 : Int32) => (fr_vl (fun (r101 : Int32) => (fr_if (fr_vl (fun (v103 : Int32) => (fr_vl (fun (v104 : Int32) => (fr_vl (fun (v105 : Int32) => (fr_vl (fun (v106 : Int32) => (fr_vl (fun (v107 : Int32) => (fr_vl (fun (v108 : Int32) => (fr_vl (fun (v109 : Int32) => (fr_vl (fun (v110 : Int32) => (fr_vl (fun (v111 : Int32) => (fr_cv ((fr_I (fr_I (fr_I h96 rfl) rfl) rfl).tr (q_X12_next_85 (pI (pI (pI u96 88 v103.toNatClampNeg v106) 88 v107.toNatClampNeg v110) 88 2 v111)) (by decide)) (fun (u112 : ac_U) h112 => h112)))))))))))))))))))) (q_X12_line_85_214 u0 u96 h96))))))))) h96))) h94))))) (fr_bd (ac_Fr.rf.tr (q_X12_bad_85 u0 (4 : Int32)) (by decide)) (fun (u113 : ac_U) (r113 : Int32) h113 => h113)))))) (fr_if (fr_cv (ac_Fr.rf.tr (q_X12_next_85 u0) (by decide)) (fun (u117 : ac_U) h117 => (fr_vl (fun (v118 : Int32) => (fr_bd (h117.tr (q_X12_fresh_85 u117 v118) (by decide)) (fun (u119 : ac_U) (r119 : Int32) h119 => (fr_if (fr_vl (fun (v121 : Int32) => (fr_I h119 rfl))) h119))))))) (fr_bd (ac_Fr.rf.tr (q_X12_bad_85 u0 (4 : Int32)) (by decide)) (fun (u122 : ac_U) (r122 : Int32) h122 => h122)))))) (fr_if (fr_cv ((fr_I ac_Fr.rf rfl).tr (q_X12_next_85 (pI u0 85 20 (1 : Int32))) (by decide)) (fun (u125 : ac_U) h125 => (fr_bd (h125.tr (q_X12_takes_85 u125 (4 : Int32) (24 : Int32)) (by decide)) (fun (u127 : ac_U) (r127 : Int32) h127 => (fr_if (fr_I h127 rfl) h127))))) (fr_bd (ac_Fr.rf.tr (q_X12_bad_85 u0 (3 : Int32)) (by decide)) (fun (u129 : ac_U) (r129 : Int32) h129 => h129))))))

/-! Names' cells that stay. (printed by wip/sent/lf.py) -/
def ac_Fl (u v : ac_U) : Prop := ∀ c k, isNm c = true → v.2 c k = u.2 c k
section FLX
variable {u0 u v : ac_U} {α β : Type}
theorem ac_Fl.rf : ac_Fl u u := fun _ _ _ => rfl
theorem ac_Fl.tr (h : ac_Fl u0 u) (g : ac_Fl u v) (_ : true = true) : ac_Fl u0 v := fun c k q => (g c k q).trans (h c k q)
theorem fl_I (h : ac_Fl u0 u) {c k : Nat} {x : Int32} (_ : true = true) : ac_Fl u0 (pI u c k x) := h
theorem fl_L (h : ac_Fl u0 u) {c : Nat} {g : Nat → Int64} (hc : isNm c = false := by rfl) : ac_Fl u0 (ac_sl u c g) := fun d k q => by
  have e : d ≠ c := fun z => by rw [z, hc] at q; cases q
  rw [sl2, if_neg e]
  exact h d k q
theorem fl_C (h : ac_Fl u0 u) {c0 c1 a b n : Nat} (_ : Nat → true = true) : ac_Fl u0 (cpI u c0 c1 a b n) := h
theorem fl_vl {x : α} {k : α → ac_U × β} (h : ∀ v, ac_Fl u0 (k v).1) : ac_Fl u0 (vl x k).1 := h x
theorem fl_vlv {x : α} {k : α → ac_U} (h : ∀ v, ac_Fl u0 (k v)) : ac_Fl u0 (vl x k) := h x
theorem fl_if {c : Prop} {hd : Decidable c} {a b : ac_U × β} (h1 : ac_Fl u0 a.1) (h2 : ac_Fl u0 b.1) : ac_Fl u0 (@ite _ c hd a b).1 := by split; exact h1; exact h2
theorem fl_ifv {c : Prop} {hd : Decidable c} {a b : ac_U} (h1 : ac_Fl u0 a) (h2 : ac_Fl u0 b) : ac_Fl u0 (@ite _ c hd a b) := by split; exact h1; exact h2
theorem fl_cv {x : ac_U} {k : ac_U → ac_U × β} (hx : ac_Fl u0 x) (h : ∀ v, ac_Fl u0 v → ac_Fl u0 (k v).1) : ac_Fl u0 (vl x k).1 := h x hx
theorem fl_cvv {x : ac_U} {k : ac_U → ac_U} (hx : ac_Fl u0 x) (h : ∀ v, ac_Fl u0 v → ac_Fl u0 (k v)) : ac_Fl u0 (vl x k) := h x hx
theorem fl_bd {q : ac_U × α} {k : ac_U → α → ac_U × β} (hq : ac_Fl u0 q.1) (h : ∀ v r, ac_Fl u0 v → ac_Fl u0 (k v r).1) : ac_Fl u0 (bd q k).1 := h _ _ hq
theorem fl_bdv {q : ac_U × α} {k : ac_U → α → ac_U} (hq : ac_Fl u0 q.1) (h : ∀ v r, ac_Fl u0 v → ac_Fl u0 (k v r)) : ac_Fl u0 (bd q k) := h _ _ hq
end FLX
theorem ql_X10_fail_1 (u0 : ac_U) (p0 : Int32) : ac_Fl u0 (f_X10_fail_1 u0 p0).1 := by
  unfold f_X10_fail_1
  exact (fl_I (fl_I ac_Fl.rf rfl) rfl)
theorem ql_X10_readRun_1_172 (u0 : ac_U) (u : ac_U) (z1 : Int32) (h : ac_Fl u0 u) : ac_Fl u0 (K_X10_readRun_1_172 u0 u z1) := by
  unfold K_X10_readRun_1_172
  exact (fl_I h rfl)
theorem ql_X10_readRun_1_171 (u0 : ac_U) (u : ac_U) (h : ac_Fl u0 u) : ac_Fl u0 (K_X10_readRun_1_171 u0 u) := by
  unfold K_X10_readRun_1_171
  exact (ql_X10_readRun_1_172 u0 u (1 : Int32) h)
theorem ql_X10_readRun_1_157 (u0 : ac_U) (u : ac_U) (x1 : Int32) (x2 : Int32) (h : ac_Fl u0 u) : ac_Fl u0 (K_X10_readRun_1_157 u0 u x1 x2) := by
  unfold K_X10_readRun_1_157
  exact (fl_ifv (ql_X10_readRun_1_171 u0 u h) (fl_ifv (ql_X10_readRun_1_171 u0 u h) (ql_X10_readRun_1_172 u0 u (3 : Int32) h)))
theorem ql_X10_readRun_1_136 (u0 : ac_U) (u : ac_U) (x1 : Int32) (x2 : Int32) (h : ac_Fl u0 u) : ac_Fl u0 (K_X10_readRun_1_136 u0 u x1 x2) := by
  unfold K_X10_readRun_1_136
  exact (fl_ifv (ql_X10_readRun_1_157 u0 u x1 x2 h) (fl_ifv (ql_X10_readRun_1_157 u0 u x1 x2 h) (fl_vlv (fun (r5 : Int32) => (fl_I h rfl)))))
theorem ql_X10_readRun_1_123 (u0 : ac_U) (B14 : ac_U → Int32 → Int32 → ac_U) (hB14 : ∀ (u : ac_U) (x1 : Int32) (x2 : Int32), ac_Fl u0 u → ac_Fl u0 (B14 u x1 x2)) (u : ac_U) (x1 : Int32) (x2 : Int32) (h : ac_Fl u0 u) : ac_Fl u0 (K_X10_readRun_1_123 B14 u0 u x1 x2) := by
  unfold K_X10_readRun_1_123
  exact (fl_vlv (fun (v7 : Int32) => (hB14 (pI u 1 4 v7) x1 x2 (fl_I h rfl))))
theorem ql_X10_readRun_1_55 (u0 : ac_U) (B14 : ac_U → Int32 → Int32 → ac_U) (hB14 : ∀ (u : ac_U) (x1 : Int32) (x2 : Int32), ac_Fl u0 u → ac_Fl u0 (B14 u x1 x2)) (u : ac_U) (x1 : Int32) (x2 : Int32) (h : ac_Fl u0 u) : ac_Fl u0 (K_X10_readRun_1_55 B14 u0 u x1 x2) := by
  unfold K_X10_readRun_1_55
  exact (fl_vlv (fun (v9 : Int32) => (fl_vlv (fun (r10 : Int32) => (fl_ifv (fl_vlv (fun (v12 : Int32) => (fl_vlv (fun (v13 : Int32) => (fl_vlv (fun (v14 : Int32) => (fl_vlv (fun (v15 : Int32) => (fl_vlv (fun (v16 : Int32) => (ql_X10_readRun_1_123 u0 B14 hB14 (pI u 1 8 v16) x1 v12 (fl_I h rfl)))))))))))) (fl_vlv (fun (v18 : Int32) => (fl_vlv (fun (v19 : Int32) => (fl_vlv (fun (r20 : Int64) => (ql_X10_readRun_1_123 u0 B14 hB14 (pL u 1 7 r20) v18 x2 (fl_L h)))))))))))))
theorem ql_X10_readRun_1_14_b (u0 : ac_U) (B14 : ac_U → Int32 → Int32 → ac_U) (hB14 : ∀ (u : ac_U) (x1 : Int32) (x2 : Int32), ac_Fl u0 u → ac_Fl u0 (B14 u x1 x2)) (u : ac_U) (x1 : Int32) (x2 : Int32) (h : ac_Fl u0 u) : ac_Fl u0 (K_X10_readRun_1_14_b B14 u0 u x1 x2) := by
  unfold K_X10_readRun_1_14_b
  exact (fl_ifv (ql_X10_readRun_1_136 u0 u x1 x2 h) (fl_vlv (fun (v25 : Int32) => (fl_vlv (fun (r26 : Int32) => (fl_ifv (ql_X10_readRun_1_55 u0 B14 hB14 u x1 x2 h) (fl_vlv (fun (v28 : Int32) => (fl_vlv (fun (r29 : Int32) => (fl_ifv (ql_X10_readRun_1_136 u0 u x1 x2 h) (ql_X10_readRun_1_55 u0 B14 hB14 u x1 x2 h))))))))))))
theorem ql_X10_readRun_1_14 (u0 : ac_U) : ∀ n : Nat, ∀ (u : ac_U) (x1 : Int32) (x2 : Int32), ac_Fl u0 u → ac_Fl u0 (K_X10_readRun_1_14 u0 n u x1 x2)
  | 0 => fun u _ _ h => h
  | n + 1 => fun u x1 x2 h => ql_X10_readRun_1_14_b u0 (K_X10_readRun_1_14 u0 n) (ql_X10_readRun_1_14 u0 n) u x1 x2 h
theorem ql_X10_readRun_1 (u0 : ac_U) : ac_Fl u0 (f_X10_readRun_1 u0) := by
  unfold f_X10_readRun_1
  exact (ql_X10_readRun_1_14 u0 942 (pI (pL u0 1 7 (0 : Int64)) 1 8 (0 : Int32)) (0 : Int32) (0 : Int32) (fl_I (fl_L ac_Fl.rf) rfl))
theorem ql_X10_readNext_1_181 (u0 : ac_U) (u : ac_U) (z1 : Int32) (h : ac_Fl u0 u) : ac_Fl u0 (K_X10_readNext_1_181 u0 u z1) := by
  unfold K_X10_readNext_1_181
  exact (fl_vlv (fun (v2 : Int32) => (fl_I (fl_I h rfl) rfl)))
theorem ql_X10_readNext_1_145 (u0 : ac_U) (u : ac_U) (h : ac_Fl u0 u) : ac_Fl u0 (K_X10_readNext_1_145 u0 u) := by
  unfold K_X10_readNext_1_145
  exact (fl_cvv (h.tr (ql_X10_readRun_1 u) (by decide)) (fun (u3 : ac_U) h3 => h3))
theorem ql_X10_readNext_1_88 (u0 : ac_U) (u : ac_U) (h : ac_Fl u0 u) : ac_Fl u0 (K_X10_readNext_1_88 u0 u) := by
  unfold K_X10_readNext_1_88
  exact (fl_ifv (fl_vlv (fun (v7 : Int32) => (fl_vlv (fun (r8 : Int32) => (fl_ifv (ql_X10_readNext_1_145 u0 (pI u 1 5 (u.1 1 4)) (fl_I h rfl)) (fl_vlv (fun (v10 : Int32) => (fl_vlv (fun (r11 : Int32) => (fl_ifv (fl_vlv (fun (v13 : Int32) => (fl_vlv (fun (r14 : Int32) => (fl_ifv (ql_X10_readNext_1_181 u0 (pI u 1 5 (u.1 1 4)) (1 : Int32) (fl_I h rfl)) (fl_vlv (fun (v16 : Int32) => (ql_X10_readNext_1_181 u0 (pI u 1 5 (u.1 1 4)) v16 (fl_I h rfl))))))))) (ql_X10_readNext_1_145 u0 (pI u 1 5 (u.1 1 4)) (fl_I h rfl)))))))))))) (fl_I (fl_I h rfl) rfl))
theorem ql_X10_readNext_1_52 (u0 : ac_U) (u : ac_U) (h : ac_Fl u0 u) : ac_Fl u0 (K_X10_readNext_1_52 u0 u) := by
  unfold K_X10_readNext_1_52
  exact (fl_ifv (ql_X10_readNext_1_88 u0 u h) (fl_ifv (ql_X10_readNext_1_88 u0 u h) (fl_I (fl_I h rfl) rfl)))
theorem ql_X10_readNext_1_39 (u0 : ac_U) (B0 : ac_U → ac_U) (hB0 : ∀ (u : ac_U), ac_Fl u0 u → ac_Fl u0 (B0 u)) (u : ac_U) (h : ac_Fl u0 u) : ac_Fl u0 (K_X10_readNext_1_39 B0 u0 u) := by
  unfold K_X10_readNext_1_39
  exact (fl_vlv (fun (v23 : Int32) => (hB0 (pI u 1 4 v23) (fl_I h rfl))))
theorem ql_X10_readNext_1_0_b (u0 : ac_U) (B0 : ac_U → ac_U) (hB0 : ∀ (u : ac_U), ac_Fl u0 u → ac_Fl u0 (B0 u)) (u : ac_U) (h : ac_Fl u0 u) : ac_Fl u0 (K_X10_readNext_1_0_b B0 u0 u) := by
  unfold K_X10_readNext_1_0_b
  exact (fl_ifv (ql_X10_readNext_1_52 u0 u h) (fl_vlv (fun (v27 : Int32) => (fl_ifv (ql_X10_readNext_1_39 u0 B0 hB0 u h) (fl_vlv (fun (v29 : Int32) => (fl_ifv (ql_X10_readNext_1_52 u0 u h) (ql_X10_readNext_1_39 u0 B0 hB0 u h))))))))
theorem ql_X10_readNext_1_0 (u0 : ac_U) : ∀ n : Nat, ∀ (u : ac_U), ac_Fl u0 u → ac_Fl u0 (K_X10_readNext_1_0 u0 n u)
  | 0 => fun u h => h
  | n + 1 => fun u h => ql_X10_readNext_1_0_b u0 (K_X10_readNext_1_0 u0 n) (ql_X10_readNext_1_0 u0 n) u h
theorem ql_X10_readNext_1 (u0 : ac_U) : ac_Fl u0 (f_X10_readNext_1 u0) := by
  unfold f_X10_readNext_1
  exact (ql_X10_readNext_1_0 u0 942 u0 ac_Fl.rf)
theorem ql_X10_takeNumber_1_34 (u0 : ac_U) (p0 : Int32) (p1 : Int32) (u : ac_U) (h : ac_Fl u0 u) : ac_Fl u0 (K_X10_takeNumber_1_34 u0 p0 p1 u).1 := by
  unfold K_X10_takeNumber_1_34
  exact (fl_bd (h.tr (ql_X10_fail_1 u (2 : Int32)) (by decide)) (fun (u1 : ac_U) (r1 : Int32) h1 => (fl_if h1 h1)))
theorem ql_X10_takeNumber_1 (u0 : ac_U) (p0 : Int32) (p1 : Int32) : ac_Fl u0 (f_X10_takeNumber_1 u0 p0 p1).1 := by
  unfold f_X10_takeNumber_1
  exact (fl_cv (ac_Fl.rf.tr (ql_X10_readNext_1 u0) (by decide)) (fun (u3 : ac_U) h3 => (fl_if (fl_if (ql_X10_takeNumber_1_34 u0 p0 p1 u3 h3) (fl_if h3 (ql_X10_takeNumber_1_34 u0 p0 p1 u3 h3))) (fl_bd (h3.tr (ql_X10_fail_1 u3 (1 : Int32)) (by decide)) (fun (u8 : ac_U) (r8 : Int32) h8 => h8)))))
theorem ql_X10_takeSign_1_20 (u0 : ac_U) (p0 : Int32) (u : ac_U) (h : ac_Fl u0 u) : ac_Fl u0 (K_X10_takeSign_1_20 u0 p0 u).1 := by
  unfold K_X10_takeSign_1_20
  exact h
theorem ql_X10_takeSign_1 (u0 : ac_U) (p0 : Int32) : ac_Fl u0 (f_X10_takeSign_1 u0 p0).1 := by
  unfold f_X10_takeSign_1
  exact (fl_cv (ac_Fl.rf.tr (ql_X10_readNext_1 u0) (by decide)) (fun (u1 : ac_U) h1 => (fl_if (ql_X10_takeSign_1_20 u0 p0 u1 h1) (fl_bd (h1.tr (ql_X10_fail_1 u1 (1 : Int32)) (by decide)) (fun (u4 : ac_U) (r4 : Int32) h4 => (fl_if h4 h4))))))
theorem ql_X10_startReading_1 (u0 : ac_U) (p0 : Int32) : ac_Fl u0 (f_X10_startReading_1 u0 p0) := by
  unfold f_X10_startReading_1
  exact (fl_cvv ((fl_I (fl_I (fl_I (fl_I (fl_I ac_Fl.rf rfl) rfl) rfl) rfl) rfl).tr (ql_X10_readNext_1 (pI (pI (pI (pI (pI u0 1 3 p0) 1 4 (0 : Int32)) 1 5 (0 : Int32)) 1 10 (0 : Int32)) 1 11 (0 : Int32))) (by decide)) (fun (u1 : ac_U) h1 => h1))
theorem ql_X2_addName_13 (u0 : ac_U) (p0 : Int64) (p1 : Int32) (p2 : Int32) : ac_Fl u0 (f_X2_addName_13 u0 p0 p1 p2) := by
  unfold f_X2_addName_13
  exact (fl_ifv ac_Fl.rf (fl_vlv (fun (v3 : Int32) => (fl_I (fl_I (fl_I (fl_L ac_Fl.rf) rfl) rfl) rfl))))
theorem ql_X2_addDeed_13 (u0 : ac_U) (p0 : Int64) : ac_Fl u0 (f_X2_addDeed_13 u0 p0) := by
  unfold f_X2_addDeed_13
  exact (fl_cvv (ac_Fl.rf.tr (ql_X2_addName_13 u0 p0 (2 : Int32) (u0.1 13 5)) (by decide)) (fun (u2 : ac_U) h2 => (fl_vlv (fun (v3 : Int32) => (fl_I h2 rfl)))))
theorem ql_X2_addFrog_13 (u0 : ac_U) (p0 : Int32) : ac_Fl u0 (f_X2_addFrog_13 u0 p0) := by
  unfold f_X2_addFrog_13
  exact (fl_ifv ac_Fl.rf (fl_vlv (fun (v3 : Int32) => (fl_I (fl_I ac_Fl.rf rfl) rfl))))
theorem ql_X2_addPerson_13 (u0 : ac_U) (p0 : Int64) (p1 : Int32) : ac_Fl u0 (f_X2_addPerson_13 u0 p0 p1) := by
  unfold f_X2_addPerson_13
  exact (fl_ifv ac_Fl.rf (fl_cvv (ac_Fl.rf.tr (ql_X2_addName_13 u0 p0 (1 : Int32) (u0.1 13 4)) (by decide)) (fun (u3 : ac_U) h3 => (fl_vlv (fun (v4 : Int32) => (fl_I (fl_I h3 rfl) rfl))))))
theorem ql_X2_addPlace_13 (u0 : ac_U) (p0 : Int64) : ac_Fl u0 (f_X2_addPlace_13 u0 p0) := by
  unfold f_X2_addPlace_13
  exact (fl_cvv (ac_Fl.rf.tr (ql_X2_addName_13 u0 p0 (0 : Int32) (u0.1 13 1)) (by decide)) (fun (u2 : ac_U) h2 => (fl_vlv (fun (v3 : Int32) => (fl_I h2 rfl)))))
theorem ql_X2_addPromise_13_23 (u0 : ac_U) (p0 : Int64) : ac_Fl u0 (f_X2_addPromise_13_23 u0 p0) := by
  unfold f_X2_addPromise_13_23
  exact (fl_ifv ac_Fl.rf (fl_cvv (ac_Fl.rf.tr (ql_X2_addName_13 u0 p0 (3 : Int32) (u0.1 13 6)) (by decide)) (fun (u3 : ac_U) h3 => (fl_vlv (fun (v4 : Int32) => (fl_vlv (fun (v5 : Int32) => (fl_I (fl_C h3 (fun _ => rfl)) rfl))))))))
theorem ql_X2_addVow_13 (u0 : ac_U) (p0 : Int32) (p1 : Int32) : ac_Fl u0 (f_X2_addVow_13 u0 p0 p1) := by
  unfold f_X2_addVow_13
  exact (fl_vlv (fun (v1 : Int32) => (fl_vlv (fun (v2 : Int32) => (fl_vlv (fun (v3 : Int32) => (fl_vlv (fun (v5 : Int32) => (fl_I (fl_I ac_Fl.rf rfl) rfl)))))))))
theorem ql_X2_addWay_13 (u0 : ac_U) (p0 : Int32) (p1 : Int32) : ac_Fl u0 (f_X2_addWay_13 u0 p0 p1) := by
  unfold f_X2_addWay_13
  exact (fl_vlv (fun (v1 : Int32) => (fl_vlv (fun (v2 : Int32) => (fl_vlv (fun (v3 : Int32) => (fl_vlv (fun (v4 : Int32) => (fl_vlv (fun (v5 : Int32) => (fl_vlv (fun (v6 : Int32) => (fl_vlv (fun (v8 : Int32) => (fl_I (fl_I (fl_I ac_Fl.rf rfl) rfl) rfl)))))))))))))))
theorem ql_J7_fill_53178_14_5_b (u0 : ac_U) (p1 : Int32) (B5 : ac_U → Int32 → Int32 → ac_U) (hB5 : ∀ (u : ac_U) (x2 : Int32) (x3 : Int32), ac_Fl u0 u → ac_Fl u0 (B5 u x2 x3)) (u : ac_U) (x2 : Int32) (x3 : Int32) (h : ac_Fl u0 u) : ac_Fl u0 (K_J7_fill_53178_14_5_b B5 u0 p1 u x2 x3) := by
  unfold K_J7_fill_53178_14_5_b
  exact (fl_ifv h (fl_vlv (fun (v2 : Int32) => (hB5 (pI u 14 x2.toNatClampNeg p1) v2 x3 (fl_I h rfl)))))
theorem ql_J7_fill_53178_14_5 (u0 : ac_U) (p1 : Int32) : ∀ n : Nat, ∀ (u : ac_U) (x2 : Int32) (x3 : Int32), ac_Fl u0 u → ac_Fl u0 (K_J7_fill_53178_14_5 u0 p1 n u x2 x3)
  | 0 => fun u _ _ h => h
  | n + 1 => fun u x2 x3 h => ql_J7_fill_53178_14_5_b u0 p1 (K_J7_fill_53178_14_5 u0 p1 n) (ql_J7_fill_53178_14_5 u0 p1 n) u x2 x3 h
theorem ql_J7_fill_53178_14 (u0 : ac_U) (p1 : Int32) : ac_Fl u0 (f_J7_fill_53178_14 u0 p1) := by
  unfold f_J7_fill_53178_14
  exact (ql_J7_fill_53178_14_5 u0 p1 10 u0 (0 : Int32) (8 : Int32) ac_Fl.rf)
theorem ql_J7_fill_53178_18_5_b (u0 : ac_U) (p1 : Int32) (B5 : ac_U → Int32 → Int32 → ac_U) (hB5 : ∀ (u : ac_U) (x2 : Int32) (x3 : Int32), ac_Fl u0 u → ac_Fl u0 (B5 u x2 x3)) (u : ac_U) (x2 : Int32) (x3 : Int32) (h : ac_Fl u0 u) : ac_Fl u0 (K_J7_fill_53178_18_5_b B5 u0 p1 u x2 x3) := by
  unfold K_J7_fill_53178_18_5_b
  exact (fl_ifv h (fl_vlv (fun (v2 : Int32) => (hB5 (pI u 18 x2.toNatClampNeg p1) v2 x3 (fl_I h rfl)))))
theorem ql_J7_fill_53178_18_5 (u0 : ac_U) (p1 : Int32) : ∀ n : Nat, ∀ (u : ac_U) (x2 : Int32) (x3 : Int32), ac_Fl u0 u → ac_Fl u0 (K_J7_fill_53178_18_5 u0 p1 n u x2 x3)
  | 0 => fun u _ _ h => h
  | n + 1 => fun u x2 x3 h => ql_J7_fill_53178_18_5_b u0 p1 (K_J7_fill_53178_18_5 u0 p1 n) (ql_J7_fill_53178_18_5 u0 p1 n) u x2 x3 h
theorem ql_J7_fill_53178_18 (u0 : ac_U) (p1 : Int32) : ac_Fl u0 (f_J7_fill_53178_18 u0 p1) := by
  unfold f_J7_fill_53178_18
  exact (ql_J7_fill_53178_18_5 u0 p1 10 u0 (0 : Int32) (8 : Int32) ac_Fl.rf)
theorem ql_X2_clear_13 (u0 : ac_U) : ac_Fl u0 (f_X2_clear_13 u0) := by
  unfold f_X2_clear_13
  exact (fl_cvv ((fl_I (fl_I (fl_I (fl_I (fl_I (fl_I (fl_I (fl_I (fl_I ac_Fl.rf rfl) rfl) rfl) rfl) rfl) rfl) rfl) rfl) rfl).tr (ql_J7_fill_53178_14 (pI (pI (pI (pI (pI (pI (pI (pI (pI u0 13 0 (24 : Int32)) 13 1 (0 : Int32)) 13 2 (0 : Int32)) 13 3 (0 : Int32)) 13 4 (0 : Int32)) 13 5 (0 : Int32)) 13 6 (0 : Int32)) 13 7 (0 : Int32)) 13 8 (0 : Int32)) (0 : Int32)) (by decide)) (fun (u1 : ac_U) h1 => (fl_cvv (h1.tr (ql_J7_fill_53178_18 u1 (0 : Int32)) (by decide)) (fun (u2 : ac_U) h2 => h2))))
theorem ql_X10_takeNew_1_13_38 (u0 : ac_U) (u : ac_U) (h : ac_Fl u0 u) : ac_Fl u0 (K_X10_takeNew_1_13_38 u0 u).1 := by
  unfold K_X10_takeNew_1_13_38
  exact h
theorem ql_X10_takeNew_1_13 (u0 : ac_U) : ac_Fl u0 (f_X10_takeNew_1_13 u0).1 := by
  unfold f_X10_takeNew_1_13
  exact (fl_cv (ac_Fl.rf.tr (ql_X10_readNext_1 u0) (by decide)) (fun (u1 : ac_U) h1 => (fl_if (fl_vl (fun (r4 : Int32) => (fl_if (ql_X10_takeNew_1_13_38 u0 u1 h1) (fl_bd (h1.tr (ql_X10_fail_1 u1 (3 : Int32)) (by decide)) (fun (u6 : ac_U) (r6 : Int32) h6 => (fl_if h6 h6)))))) (fl_bd (h1.tr (ql_X10_fail_1 u1 (1 : Int32)) (by decide)) (fun (u8 : ac_U) (r8 : Int32) h8 => h8)))))
theorem ql_X3_readDeed_22 (u0 : ac_U) : ac_Fl u0 (f_X3_readDeed_22 u0).1 := by
  unfold f_X3_readDeed_22
  exact (fl_if (fl_bd (ac_Fl.rf.tr (ql_X10_takeNew_1_13 u0) (by decide)) (fun (u3 : ac_U) (r3 : Int32) h3 => (fl_if (fl_cv (h3.tr (ql_X2_addDeed_13 u3 (u3.2 1 7)) (by decide)) (fun (u5 : ac_U) h5 => (fl_bd (h5.tr (ql_X10_takeSign_1 u5 (59 : Int32)) (by decide)) (fun (u6 : ac_U) (r6 : Int32) h6 => h6)))) h3))) (fl_bd (ac_Fl.rf.tr (ql_X10_fail_1 u0 (4 : Int32)) (by decide)) (fun (u7 : ac_U) (r7 : Int32) h7 => h7)))
theorem ql_X10_isKnown_1_13_38 (u0 : ac_U) (p1 : Int32) (u : ac_U) (h : ac_Fl u0 u) : ac_Fl u0 (K_X10_isKnown_1_13_38 u0 p1 u).1 := by
  unfold K_X10_isKnown_1_13_38
  exact (fl_bd (h.tr (ql_X10_fail_1 u (3 : Int32)) (by decide)) (fun (u1 : ac_U) (r1 : Int32) h1 => h1))
theorem ql_X10_isKnown_1_13 (u0 : ac_U) (p1 : Int32) : ac_Fl u0 (f_X10_isKnown_1_13 u0 p1).1 := by
  unfold f_X10_isKnown_1_13
  exact (fl_if (fl_vl (fun (r5 : Int32) => (fl_if (ql_X10_isKnown_1_13_38 u0 p1 u0 ac_Fl.rf) (fl_vl (fun (v7 : Int32) => (fl_if (fl_vl (fun (v9 : Int32) => (fl_I ac_Fl.rf rfl))) (ql_X10_isKnown_1_13_38 u0 p1 u0 ac_Fl.rf))))))) (fl_bd (ac_Fl.rf.tr (ql_X10_fail_1 u0 (1 : Int32)) (by decide)) (fun (u10 : ac_U) (r10 : Int32) h10 => h10)))
theorem ql_X10_takeKnown_1_13 (u0 : ac_U) (p1 : Int32) : ac_Fl u0 (f_X10_takeKnown_1_13 u0 p1).1 := by
  unfold f_X10_takeKnown_1_13
  exact (fl_cv (ac_Fl.rf.tr (ql_X10_readNext_1 u0) (by decide)) (fun (u1 : ac_U) h1 => (fl_bd (h1.tr (ql_X10_isKnown_1_13 u1 p1) (by decide)) (fun (u2 : ac_U) (r2 : Int32) h2 => h2))))
theorem ql_X3_readEachUnless_22_123 (u0 : ac_U) (u : ac_U) (h : ac_Fl u0 u) : ac_Fl u0 (K_X3_readEachUnless_22_123 u0 u).1 := by
  unfold K_X3_readEachUnless_22_123
  exact h
theorem ql_X3_readEachUnless_22_100 (u0 : ac_U) (u : ac_U) (h : ac_Fl u0 u) : ac_Fl u0 (K_X3_readEachUnless_22_100 u0 u).1 := by
  unfold K_X3_readEachUnless_22_100
  exact (fl_if (ql_X3_readEachUnless_22_123 u0 u h) (fl_bd (h.tr (ql_X10_fail_1 u (1 : Int32)) (by decide)) (fun (u3 : ac_U) (r3 : Int32) h3 => (fl_if h3 h3))))
theorem ql_X3_readEachUnless_22_50 (u0 : ac_U) (u : ac_U) (h : ac_Fl u0 u) : ac_Fl u0 (K_X3_readEachUnless_22_50 u0 u).1 := by
  unfold K_X3_readEachUnless_22_50
  exact (fl_if (ql_X3_readEachUnless_22_100 u0 u h) (fl_bd (h.tr (ql_X10_takeKnown_1_13 u (2 : Int32)) (by decide)) (fun (u7 : ac_U) (r7 : Int32) h7 => (fl_if (fl_cv ((fl_I h7 rfl).tr (ql_X10_readNext_1 (pI u7 23 7 (u7.1 1 9))) (by decide)) (fun (u10 : ac_U) h10 => (ql_X3_readEachUnless_22_100 u0 u10 h10))) h7))))
theorem ql_X3_readEachUnless_22 (u0 : ac_U) : ac_Fl u0 (f_X3_readEachUnless_22 u0).1 := by
  unfold f_X3_readEachUnless_22
  exact (fl_cv ((fl_I (fl_I ac_Fl.rf rfl) rfl).tr (ql_X10_readNext_1 (pI (pI u0 23 6 (0 : Int32)) 23 7 (-1 : Int32))) (by decide)) (fun (u11 : ac_U) h11 => (fl_if (ql_X3_readEachUnless_22_50 u0 u11 h11) (fl_cv ((fl_I h11 rfl).tr (ql_X10_readNext_1 (pI u11 23 6 (1 : Int32))) (by decide)) (fun (u14 : ac_U) h14 => (ql_X3_readEachUnless_22_50 u0 u14 h14))))))
theorem ql_X3_readFrog_22 (u0 : ac_U) : ac_Fl u0 (f_X3_readFrog_22 u0).1 := by
  unfold f_X3_readFrog_22
  exact (fl_if (fl_bd (ac_Fl.rf.tr (ql_X10_takeKnown_1_13 u0 (0 : Int32)) (by decide)) (fun (u3 : ac_U) (r3 : Int32) h3 => (fl_if (fl_cv (h3.tr (ql_X2_addFrog_13 u3 (u3.1 1 9)) (by decide)) (fun (u6 : ac_U) h6 => (fl_bd (h6.tr (ql_X10_takeSign_1 u6 (59 : Int32)) (by decide)) (fun (u7 : ac_U) (r7 : Int32) h7 => h7)))) h3))) (fl_bd (ac_Fl.rf.tr (ql_X10_fail_1 u0 (4 : Int32)) (by decide)) (fun (u8 : ac_U) (r8 : Int32) h8 => h8)))
theorem ql_X3_readHours_22 (u0 : ac_U) : ac_Fl u0 (f_X3_readHours_22 u0).1 := by
  unfold f_X3_readHours_22
  exact (fl_if (fl_bd ((fl_I ac_Fl.rf rfl).tr (ql_X10_takeNumber_1 (pI u0 22 4 (1 : Int32)) (4 : Int32) (24 : Int32)) (by decide)) (fun (u3 : ac_U) (r3 : Int32) h3 => (fl_if (fl_bd ((fl_I h3 rfl).tr (ql_X10_takeSign_1 (pI u3 13 0 (u3.1 1 8)) (59 : Int32)) (by decide)) (fun (u5 : ac_U) (r5 : Int32) h5 => h5)) h3))) (fl_bd (ac_Fl.rf.tr (ql_X10_fail_1 u0 (3 : Int32)) (by decide)) (fun (u6 : ac_U) (r6 : Int32) h6 => h6)))
theorem ql_X3_readPerson_22 (u0 : ac_U) : ac_Fl u0 (f_X3_readPerson_22 u0).1 := by
  unfold f_X3_readPerson_22
  exact (fl_if (fl_bd (ac_Fl.rf.tr (ql_X10_takeNew_1_13 u0) (by decide)) (fun (u3 : ac_U) (r3 : Int32) h3 => (fl_if (fl_bd (h3.tr (ql_X10_takeKnown_1_13 u3 (0 : Int32)) (by decide)) (fun (u5 : ac_U) (r5 : Int32) h5 => (fl_if (fl_cv (h5.tr (ql_X2_addPerson_13 u5 (u3.2 1 7) (u5.1 1 9)) (by decide)) (fun (u8 : ac_U) h8 => (fl_bd (h8.tr (ql_X10_takeSign_1 u8 (59 : Int32)) (by decide)) (fun (u9 : ac_U) (r9 : Int32) h9 => h9)))) h5))) h3))) (fl_bd (ac_Fl.rf.tr (ql_X10_fail_1 u0 (4 : Int32)) (by decide)) (fun (u10 : ac_U) (r10 : Int32) h10 => h10)))
theorem ql_X3_readPlace_22 (u0 : ac_U) : ac_Fl u0 (f_X3_readPlace_22 u0).1 := by
  unfold f_X3_readPlace_22
  exact (fl_if (fl_bd (ac_Fl.rf.tr (ql_X10_takeNew_1_13 u0) (by decide)) (fun (u3 : ac_U) (r3 : Int32) h3 => (fl_if (fl_cv (h3.tr (ql_X2_addPlace_13 u3 (u3.2 1 7)) (by decide)) (fun (u5 : ac_U) h5 => (fl_bd (h5.tr (ql_X10_takeSign_1 u5 (59 : Int32)) (by decide)) (fun (u6 : ac_U) (r6 : Int32) h6 => h6)))) h3))) (fl_bd (ac_Fl.rf.tr (ql_X10_fail_1 u0 (4 : Int32)) (by decide)) (fun (u7 : ac_U) (r7 : Int32) h7 => h7)))
theorem ql_X3_readWhenHowOften_22 (u0 : ac_U) : ac_Fl u0 (f_X3_readWhenHowOften_22 u0).1 := by
  unfold f_X3_readWhenHowOften_22
  exact (fl_bd (ac_Fl.rf.tr (ql_X10_takeNumber_1 u0 (0 : Int32) (23 : Int32)) (by decide)) (fun (u1 : ac_U) (r1 : Int32) h1 => (fl_if (fl_bd ((fl_I h1 rfl).tr (ql_X10_takeNumber_1 (pI u1 23 3 (u1.1 1 8)) (u1.1 1 8) (23 : Int32)) (by decide)) (fun (u3 : ac_U) (r3 : Int32) h3 => (fl_if (fl_bd ((fl_I h3 rfl).tr (ql_X10_takeNumber_1 (pI u3 23 4 (u3.1 1 8)) (1 : Int32) (3 : Int32)) (by decide)) (fun (u5 : ac_U) (r5 : Int32) h5 => (fl_if (fl_I h5 rfl) h5))) h3))) h1)))
theorem ql_X3_readWhoWhatWhere_22 (u0 : ac_U) : ac_Fl u0 (f_X3_readWhoWhatWhere_22 u0).1 := by
  unfold f_X3_readWhoWhatWhere_22
  exact (fl_bd (ac_Fl.rf.tr (ql_X10_takeKnown_1_13 u0 (1 : Int32)) (by decide)) (fun (u1 : ac_U) (r1 : Int32) h1 => (fl_if (fl_bd ((fl_I h1 rfl).tr (ql_X10_takeKnown_1_13 (pI u1 23 0 (u1.1 1 9)) (2 : Int32)) (by decide)) (fun (u4 : ac_U) (r4 : Int32) h4 => (fl_if (fl_bd ((fl_I h4 rfl).tr (ql_X10_takeKnown_1_13 (pI u4 23 1 (u4.1 1 9)) (0 : Int32)) (by decide)) (fun (u7 : ac_U) (r7 : Int32) h7 => (fl_if (fl_I h7 rfl) h7))) h4))) h1)))
theorem ql_X3_readPromise_22_66 (u0 : ac_U) (u : ac_U) (h : ac_Fl u0 u) : ac_Fl u0 (K_X3_readPromise_22_66 u0 u).1 := by
  unfold K_X3_readPromise_22_66
  exact h
theorem ql_X3_readPromise_22 (u0 : ac_U) : ac_Fl u0 (f_X3_readPromise_22 u0).1 := by
  unfold f_X3_readPromise_22
  exact (fl_if (fl_bd (ac_Fl.rf.tr (ql_X10_takeNew_1_13 u0) (by decide)) (fun (u3 : ac_U) (r3 : Int32) h3 => (fl_if (fl_bd (h3.tr (ql_X3_readWhoWhatWhere_22 u3) (by decide)) (fun (u5 : ac_U) (r5 : Int32) h5 => (fl_if (ql_X3_readPromise_22_66 u0 u5 h5) (fl_bd (h5.tr (ql_X3_readWhenHowOften_22 u5) (by decide)) (fun (u7 : ac_U) (r7 : Int32) h7 => (fl_if (ql_X3_readPromise_22_66 u0 u7 h7) (fl_bd (h7.tr (ql_X3_readEachUnless_22 u7) (by decide)) (fun (u9 : ac_U) (r9 : Int32) h9 => (fl_if (fl_cv (h9.tr (ql_X2_addPromise_13_23 u9 (u3.2 1 7)) (by decide)) (fun (u11 : ac_U) h11 => h11)) (ql_X3_readPromise_22_66 u0 u9 h9)))))))))) h3))) (fl_bd (ac_Fl.rf.tr (ql_X10_fail_1 u0 (4 : Int32)) (by decide)) (fun (u12 : ac_U) (r12 : Int32) h12 => h12)))
theorem ql_X3_readVow_22_88 (u0 : ac_U) (u : ac_U) (h : ac_Fl u0 u) : ac_Fl u0 (K_X3_readVow_22_88 u0 u).1 := by
  unfold K_X3_readVow_22_88
  exact (fl_bd (h.tr (ql_X10_fail_1 u (3 : Int32)) (by decide)) (fun (u1 : ac_U) (r1 : Int32) h1 => h1))
theorem ql_X3_readVow_22 (u0 : ac_U) : ac_Fl u0 (f_X3_readVow_22 u0).1 := by
  unfold f_X3_readVow_22
  exact (fl_if (fl_bd (ac_Fl.rf.tr (ql_X10_takeKnown_1_13 u0 (3 : Int32)) (by decide)) (fun (u4 : ac_U) (r4 : Int32) h4 => (fl_if (fl_bd (h4.tr (ql_X10_takeKnown_1_13 u4 (3 : Int32)) (by decide)) (fun (u7 : ac_U) (r7 : Int32) h7 => (fl_if (fl_if (ql_X3_readVow_22_88 u0 u7 h7) (fl_vl (fun (r11 : Int32) => (fl_if (fl_cv (h7.tr (ql_X2_addVow_13 u7 (u4.1 1 9) (u7.1 1 9)) (by decide)) (fun (u13 : ac_U) h13 => (fl_bd (h13.tr (ql_X10_takeSign_1 u13 (59 : Int32)) (by decide)) (fun (u14 : ac_U) (r14 : Int32) h14 => h14)))) (ql_X3_readVow_22_88 u0 u7 h7))))) h7))) h4))) (fl_bd (ac_Fl.rf.tr (ql_X10_fail_1 u0 (4 : Int32)) (by decide)) (fun (u15 : ac_U) (r15 : Int32) h15 => h15)))
theorem ql_X3_readWay_22_88 (u0 : ac_U) (u : ac_U) (h : ac_Fl u0 u) : ac_Fl u0 (K_X3_readWay_22_88 u0 u).1 := by
  unfold K_X3_readWay_22_88
  exact (fl_bd (h.tr (ql_X10_fail_1 u (3 : Int32)) (by decide)) (fun (u1 : ac_U) (r1 : Int32) h1 => h1))
theorem ql_X3_readWay_22 (u0 : ac_U) : ac_Fl u0 (f_X3_readWay_22 u0).1 := by
  unfold f_X3_readWay_22
  exact (fl_if (fl_bd (ac_Fl.rf.tr (ql_X10_takeKnown_1_13 u0 (0 : Int32)) (by decide)) (fun (u4 : ac_U) (r4 : Int32) h4 => (fl_if (fl_bd (h4.tr (ql_X10_takeKnown_1_13 u4 (0 : Int32)) (by decide)) (fun (u7 : ac_U) (r7 : Int32) h7 => (fl_if (fl_if (ql_X3_readWay_22_88 u0 u7 h7) (fl_vl (fun (r11 : Int32) => (fl_if (fl_cv (h7.tr (ql_X2_addWay_13 u7 (u4.1 1 9) (u7.1 1 9)) (by decide)) (fun (u13 : ac_U) h13 => (fl_bd (h13.tr (ql_X10_takeSign_1 u13 (59 : Int32)) (by decide)) (fun (u14 : ac_U) (r14 : Int32) h14 => h14)))) (ql_X3_readWay_22_88 u0 u7 h7))))) h7))) h4))) (fl_bd (ac_Fl.rf.tr (ql_X10_fail_1 u0 (4 : Int32)) (by decide)) (fun (u15 : ac_U) (r15 : Int32) h15 => h15)))
theorem ql_X3_readWhole_22_209 (u0 : ac_U) (u : ac_U) (x1 : Int32) (h : ac_Fl u0 u) : ac_Fl u0 (K_X3_readWhole_22_209 u0 u x1).1 := by
  unfold K_X3_readWhole_22_209
  exact h
theorem ql_X3_readWhole_22_189 (u0 : ac_U) (B29 : ac_U → Int32 → ac_U × Int32) (hB29 : ∀ (u : ac_U) (x1 : Int32), ac_Fl u0 u → ac_Fl u0 (B29 u x1).1) (u : ac_U) (x1 : Int32) (h : ac_Fl u0 u) : ac_Fl u0 (K_X3_readWhole_22_189 B29 u0 u x1).1 := by
  unfold K_X3_readWhole_22_189
  exact (fl_cv (h.tr (ql_X10_readNext_1 u) (by decide)) (fun (u1 : ac_U) h1 => (fl_vl (fun (v2 : Int32) => (hB29 (pI u1 22 3 v2) x1 (fl_I h1 rfl))))))
theorem ql_X3_readWhole_22_29_b (u0 : ac_U) (B29 : ac_U → Int32 → ac_U × Int32) (hB29 : ∀ (u : ac_U) (x1 : Int32), ac_Fl u0 u → ac_Fl u0 (B29 u x1).1) (u : ac_U) (x1 : Int32) (h : ac_Fl u0 u) : ac_Fl u0 (K_X3_readWhole_22_29_b B29 u0 u x1).1 := by
  unfold K_X3_readWhole_22_29_b
  exact (fl_if (ql_X3_readWhole_22_209 u0 u x1 h) (fl_if (ql_X3_readWhole_22_209 u0 u x1 h) (fl_if (ql_X3_readWhole_22_209 u0 u x1 h) (fl_if (fl_bd (h.tr (ql_X10_fail_1 u (1 : Int32)) (by decide)) (fun (u9 : ac_U) (r9 : Int32) h9 => (ql_X3_readWhole_22_189 u0 B29 hB29 u9 r9 h9))) (fl_if (fl_bd (h.tr (ql_X3_readHours_22 u) (by decide)) (fun (u10 : ac_U) (r10 : Int32) h10 => (ql_X3_readWhole_22_189 u0 B29 hB29 u10 r10 h10))) (fl_if (fl_bd (h.tr (ql_X3_readPlace_22 u) (by decide)) (fun (u11 : ac_U) (r11 : Int32) h11 => (ql_X3_readWhole_22_189 u0 B29 hB29 u11 r11 h11))) (fl_if (fl_bd (h.tr (ql_X3_readWay_22 u) (by decide)) (fun (u12 : ac_U) (r12 : Int32) h12 => (ql_X3_readWhole_22_189 u0 B29 hB29 u12 r12 h12))) (fl_if (fl_bd (h.tr (ql_X3_readFrog_22 u) (by decide)) (fun (u13 : ac_U) (r13 : Int32) h13 => (ql_X3_readWhole_22_189 u0 B29 hB29 u13 r13 h13))) (fl_if (fl_bd (h.tr (ql_X3_readPerson_22 u) (by decide)) (fun (u14 : ac_U) (r14 : Int32) h14 => (ql_X3_readWhole_22_189 u0 B29 hB29 u14 r14 h14))) (fl_if (fl_bd (h.tr (ql_X3_readDeed_22 u) (by decide)) (fun (u15 : ac_U) (r15 : Int32) h15 => (ql_X3_readWhole_22_189 u0 B29 hB29 u15 r15 h15))) (fl_if (fl_bd (h.tr (ql_X3_readPromise_22 u) (by decide)) (fun (u16 : ac_U) (r16 : Int32) h16 => (ql_X3_readWhole_22_189 u0 B29 hB29 u16 r16 h16))) (fl_if (fl_bd (h.tr (ql_X10_fail_1 u (1 : Int32)) (by decide)) (fun (u17 : ac_U) (r17 : Int32) h17 => (ql_X3_readWhole_22_189 u0 B29 hB29 u17 r17 h17))) (fl_if (fl_bd (h.tr (ql_X10_fail_1 u (1 : Int32)) (by decide)) (fun (u18 : ac_U) (r18 : Int32) h18 => (ql_X3_readWhole_22_189 u0 B29 hB29 u18 r18 h18))) (fl_bd (h.tr (ql_X3_readVow_22 u) (by decide)) (fun (u19 : ac_U) (r19 : Int32) h19 => (ql_X3_readWhole_22_189 u0 B29 hB29 u19 r19 h19))))))))))))))))
theorem ql_X3_readWhole_22_29 (u0 : ac_U) : ∀ n : Nat, ∀ (u : ac_U) (x1 : Int32), ac_Fl u0 u → ac_Fl u0 (K_X3_readWhole_22_29 u0 n u x1).1
  | 0 => fun u _ h => h
  | n + 1 => fun u x1 h => ql_X3_readWhole_22_29_b u0 (K_X3_readWhole_22_29 u0 n) (ql_X3_readWhole_22_29 u0 n) u x1 h
theorem ql_X3_readWhole_22 (u0 : ac_U) : ac_Fl u0 (f_X3_readWhole_22 u0).1 := by
  unfold f_X3_readWhole_22
  exact (fl_cv (ac_Fl.rf.tr (ql_X2_clear_13 u0) (by decide)) (fun (u20 : ac_U) h20 => (fl_cv ((fl_I h20 rfl).tr (ql_X10_startReading_1 (pI u20 22 4 (0 : Int32)) (900 : Int32)) (by decide)) (fun (u21 : ac_U) h21 => (ql_X3_readWhole_22_29 u0 943 (pI u21 22 3 (0 : Int32)) (1 : Int32) (fl_I h21 rfl))))))
theorem ql_X8_copyFrom_43_73 (u0 : ac_U) : ac_Fl u0 (f_X8_copyFrom_43_73 u0) := by
  unfold f_X8_copyFrom_43_73
  exact (fl_C (fl_C (fl_C (fl_I (fl_I ac_Fl.rf rfl) rfl) (fun _ => rfl)) (fun _ => rfl)) (fun _ => rfl))
theorem ql_X8_copyFrom_43_77 (u0 : ac_U) : ac_Fl u0 (f_X8_copyFrom_43_77 u0) := by
  unfold f_X8_copyFrom_43_77
  exact (fl_C (fl_C (fl_C (fl_I (fl_I ac_Fl.rf rfl) rfl) (fun _ => rfl)) (fun _ => rfl)) (fun _ => rfl))
theorem ql_X8_copyFrom_73_43 (u0 : ac_U) : ac_Fl u0 (f_X8_copyFrom_73_43 u0) := by
  unfold f_X8_copyFrom_73_43
  exact (fl_C (fl_C (fl_C (fl_I (fl_I ac_Fl.rf rfl) rfl) (fun _ => rfl)) (fun _ => rfl)) (fun _ => rfl))
theorem ql_X8_copyFrom_77_43 (u0 : ac_U) : ac_Fl u0 (f_X8_copyFrom_77_43 u0) := by
  unfold f_X8_copyFrom_77_43
  exact (fl_C (fl_C (fl_C (fl_I (fl_I ac_Fl.rf rfl) rfl) (fun _ => rfl)) (fun _ => rfl)) (fun _ => rfl))
theorem ql_X6_unsayAll_24_2_b (u0 : ac_U) (B2 : ac_U → Int32 → ac_U) (hB2 : ∀ (u : ac_U) (x1 : Int32), ac_Fl u0 u → ac_Fl u0 (B2 u x1)) (u : ac_U) (x1 : Int32) (h : ac_Fl u0 u) : ac_Fl u0 (K_X6_unsayAll_24_2_b B2 u0 u x1) := by
  unfold K_X6_unsayAll_24_2_b
  exact (fl_ifv h (fl_vlv (fun (v2 : Int32) => (fl_vlv (fun (v3 : Int32) => (hB2 (pI u 25 v2.toNatClampNeg (-1 : Int32)) v3 (fl_I h rfl)))))))
theorem ql_X6_unsayAll_24_2 (u0 : ac_U) : ∀ n : Nat, ∀ (u : ac_U) (x1 : Int32), ac_Fl u0 u → ac_Fl u0 (K_X6_unsayAll_24_2 u0 n u x1)
  | 0 => fun u _ h => h
  | n + 1 => fun u x1 h => ql_X6_unsayAll_24_2_b u0 (K_X6_unsayAll_24_2 u0 n) (ql_X6_unsayAll_24_2 u0 n) u x1 h
theorem ql_X6_unsayAll_24 (u0 : ac_U) : ac_Fl u0 (f_X6_unsayAll_24 u0) := by
  unfold f_X6_unsayAll_24
  exact (ql_X6_unsayAll_24_2 u0 10 u0 (0 : Int32) ac_Fl.rf)
theorem ql_J7_fill_53178_25_5_b (u0 : ac_U) (p1 : Int32) (B5 : ac_U → Int32 → Int32 → ac_U) (hB5 : ∀ (u : ac_U) (x2 : Int32) (x3 : Int32), ac_Fl u0 u → ac_Fl u0 (B5 u x2 x3)) (u : ac_U) (x2 : Int32) (x3 : Int32) (h : ac_Fl u0 u) : ac_Fl u0 (K_J7_fill_53178_25_5_b B5 u0 p1 u x2 x3) := by
  unfold K_J7_fill_53178_25_5_b
  exact (fl_ifv h (fl_vlv (fun (v2 : Int32) => (hB5 (pI u 25 x2.toNatClampNeg p1) v2 x3 (fl_I h rfl)))))
theorem ql_J7_fill_53178_25_5 (u0 : ac_U) (p1 : Int32) : ∀ n : Nat, ∀ (u : ac_U) (x2 : Int32) (x3 : Int32), ac_Fl u0 u → ac_Fl u0 (K_J7_fill_53178_25_5 u0 p1 n u x2 x3)
  | 0 => fun u _ _ h => h
  | n + 1 => fun u x2 x3 h => ql_J7_fill_53178_25_5_b u0 p1 (K_J7_fill_53178_25_5 u0 p1 n) (ql_J7_fill_53178_25_5 u0 p1 n) u x2 x3 h
theorem ql_J7_fill_53178_25 (u0 : ac_U) (p1 : Int32) : ac_Fl u0 (f_J7_fill_53178_25 u0 p1) := by
  unfold f_J7_fill_53178_25
  exact (ql_J7_fill_53178_25_5 u0 p1 33 u0 (0 : Int32) (31 : Int32) ac_Fl.rf)
theorem ql_X6_begin_24 (u0 : ac_U) : ac_Fl u0 (f_X6_begin_24 u0) := by
  unfold f_X6_begin_24
  exact (fl_cvv (ac_Fl.rf.tr (ql_J7_fill_53178_25 u0 (0 : Int32)) (by decide)) (fun (u1 : ac_U) h1 => (fl_cvv (h1.tr (ql_X6_unsayAll_24 u1) (by decide)) (fun (u2 : ac_U) h2 => (fl_I (fl_C h2 (fun _ => rfl)) rfl)))))
theorem ql_X8_clear_43 (u0 : ac_U) : ac_Fl u0 (f_X8_clear_43 u0) := by
  unfold f_X8_clear_43
  exact (fl_I (fl_I ac_Fl.rf rfl) rfl)
theorem ql_X10_append_1_3_b (u0 : ac_U) (p0 : Int32) (B3 : ac_U → Int32 → ac_U) (hB3 : ∀ (u : ac_U) (x2 : Int32), ac_Fl u0 u → ac_Fl u0 (B3 u x2)) (u : ac_U) (x2 : Int32) (h : ac_Fl u0 u) : ac_Fl u0 (K_X10_append_1_3_b B3 u0 p0 u x2) := by
  unfold K_X10_append_1_3_b
  exact (fl_ifv h (fl_ifv h (fl_vlv (fun (v5 : Int32) => (fl_vlv (fun (v6 : Int32) => (fl_vlv (fun (v7 : Int32) => (fl_vlv (fun (v8 : Int32) => (hB3 (pI (pI u 2 (u.1 1 2).toNatClampNeg v6) 1 2 v7) v8 (fl_I (fl_I h rfl) rfl))))))))))))
theorem ql_X10_append_1_3 (u0 : ac_U) (p0 : Int32) : ∀ n : Nat, ∀ (u : ac_U) (x2 : Int32), ac_Fl u0 u → ac_Fl u0 (K_X10_append_1_3 u0 p0 n u x2)
  | 0 => fun u _ h => h
  | n + 1 => fun u x2 h => ql_X10_append_1_3_b u0 p0 (K_X10_append_1_3 u0 p0 n) (ql_X10_append_1_3 u0 p0 n) u x2 h
theorem ql_X10_append_1 (u0 : ac_U) (p0 : Int32) : ac_Fl u0 (f_X10_append_1 u0 p0) := by
  unfold f_X10_append_1
  exact (ql_X10_append_1_3 u0 p0 34 u0 (24 : Int32) ac_Fl.rf)
theorem ql_X11_feed_0 (u0 : ac_U) (p0 : Int32) (p1 : Int32) (p2 : Int32) (p3 : Int32) (p4 : Int32) : ac_Fl u0 (f_X11_feed_0 u0 p0 p1 p2 p3 p4).1 := by
  unfold f_X11_feed_0
  exact (fl_vl (fun (v2 : Int32) => (fl_if (fl_cv (ac_Fl.rf.tr (ql_X10_append_1 u0 p0) (by decide)) (fun (u4 : ac_U) h4 => (fl_cv (h4.tr (ql_X10_append_1 u4 p1) (by decide)) (fun (u6 : ac_U) h6 => (fl_cv (h6.tr (ql_X10_append_1 u6 p2) (by decide)) (fun (u8 : ac_U) h8 => (fl_cv (h8.tr (ql_X10_append_1 u8 p3) (by decide)) (fun (u10 : ac_U) h10 => (fl_cv (h10.tr (ql_X10_append_1 u10 p4) (by decide)) (fun (u12 : ac_U) h12 => h12)))))))))) ac_Fl.rf)))
theorem ql_X12_bad_85 (u0 : ac_U) (p0 : Int32) : ac_Fl u0 (f_X12_bad_85 u0 p0).1 := by
  unfold f_X12_bad_85
  exact (fl_I (fl_I ac_Fl.rf rfl) rfl)
theorem ql_X12_next_85_333 (u0 : ac_U) (u : ac_U) (z1 : Int32) (h : ac_Fl u0 u) : ac_Fl u0 (K_X12_next_85_333 u0 u z1) := by
  unfold K_X12_next_85_333
  exact (fl_I h rfl)
theorem ql_X12_next_85_320 (u0 : ac_U) (u : ac_U) (h : ac_Fl u0 u) : ac_Fl u0 (K_X12_next_85_320 u0 u) := by
  unfold K_X12_next_85_320
  exact (ql_X12_next_85_333 u0 u (4 : Int32) h)
theorem ql_X12_next_85_317 (u0 : ac_U) (u : ac_U) (x2 : Int32) (z1 : Int32) (z2 : Int32) (h : ac_Fl u0 u) : ac_Fl u0 (K_X12_next_85_317 u0 u x2 z1 z2) := by
  unfold K_X12_next_85_317
  exact (fl_ifv (fl_ifv (ql_X12_next_85_333 u0 u (2 : Int32) h) (ql_X12_next_85_333 u0 u (1 : Int32) h)) (ql_X12_next_85_320 u0 u h))
theorem ql_X12_next_85_275 (u0 : ac_U) (B181 : ac_U → Int32 → Int32 → ac_U) (hB181 : ∀ (u : ac_U) (x2 : Int32) (x3 : Int32), ac_Fl u0 u → ac_Fl u0 (B181 u x2 x3)) (u : ac_U) (x2 : Int32) (x3 : Int32) (h : ac_Fl u0 u) : ac_Fl u0 (K_X12_next_85_275 B181 u0 u x2 x3) := by
  unfold K_X12_next_85_275
  exact (fl_vlv (fun (v3 : Int32) => (fl_vlv (fun (v5 : Int32) => (hB181 (pI (pI u 85 13 v3) 85 4 v5) x2 x3 (fl_I (fl_I h rfl) rfl))))))
theorem ql_X12_next_85_248 (u0 : ac_U) (B181 : ac_U → Int32 → Int32 → ac_U) (hB181 : ∀ (u : ac_U) (x2 : Int32) (x3 : Int32), ac_Fl u0 u → ac_Fl u0 (B181 u x2 x3)) (u : ac_U) (x2 : Int32) (x3 : Int32) (h : ac_Fl u0 u) : ac_Fl u0 (K_X12_next_85_248 B181 u0 u x2 x3) := by
  unfold K_X12_next_85_248
  exact (fl_ifv (ql_X12_next_85_275 u0 B181 hB181 u x2 x3 h) (fl_vlv (fun (v8 : Int32) => (fl_vlv (fun (r9 : Int32) => (fl_vlv (fun (v12 : Int32) => (fl_vlv (fun (v13 : Int32) => (ql_X12_next_85_275 u0 B181 hB181 (pI u 85 14 v13) x2 x3 (fl_I h rfl)))))))))))
theorem ql_X12_next_85_221 (u0 : ac_U) (B181 : ac_U → Int32 → Int32 → ac_U) (hB181 : ∀ (u : ac_U) (x2 : Int32) (x3 : Int32), ac_Fl u0 u → ac_Fl u0 (B181 u x2 x3)) (u : ac_U) (x2 : Int32) (z0 : Int32) (h : ac_Fl u0 u) : ac_Fl u0 (K_X12_next_85_221 B181 u0 u x2 z0) := by
  unfold K_X12_next_85_221
  exact (fl_ifv (ql_X12_next_85_248 u0 B181 hB181 u x2 z0 h) (fl_vlv (fun (w16 : Int64) => (fl_vlv (fun (r17 : Int32) => (fl_vlv (fun (w20 : Int64) => (fl_vlv (fun (w21 : Int64) => (ql_X12_next_85_248 u0 B181 hB181 (pL u 85 17 w21) x2 z0 (fl_L h)))))))))))
theorem ql_X12_next_85_220 (u0 : ac_U) (B181 : ac_U → Int32 → Int32 → ac_U) (hB181 : ∀ (u : ac_U) (x2 : Int32) (x3 : Int32), ac_Fl u0 u → ac_Fl u0 (B181 u x2 x3)) (u : ac_U) (x2 : Int32) (h : ac_Fl u0 u) : ac_Fl u0 (K_X12_next_85_220 B181 u0 u x2) := by
  unfold K_X12_next_85_220
  exact (ql_X12_next_85_221 u0 B181 hB181 u x2 (0 : Int32) h)
theorem ql_X12_next_85_201 (u0 : ac_U) (B181 : ac_U → Int32 → Int32 → ac_U) (hB181 : ∀ (u : ac_U) (x2 : Int32) (x3 : Int32), ac_Fl u0 u → ac_Fl u0 (B181 u x2 x3)) (u : ac_U) (x2 : Int32) (x3 : Int32) (h : ac_Fl u0 u) : ac_Fl u0 (K_X12_next_85_201 B181 u0 u x2 x3) := by
  unfold K_X12_next_85_201
  exact (fl_ifv (ql_X12_next_85_220 u0 B181 hB181 u x2 h) (fl_vlv (fun (r25 : Int32) => (fl_vlv (fun (r28 : Int32) => (fl_ifv (ql_X12_next_85_220 u0 B181 hB181 u x2 h) (ql_X12_next_85_221 u0 B181 hB181 u x2 (1 : Int32) h)))))))
theorem ql_X12_next_85_181_b (u0 : ac_U) (B181 : ac_U → Int32 → Int32 → ac_U) (hB181 : ∀ (u : ac_U) (x2 : Int32) (x3 : Int32), ac_Fl u0 u → ac_Fl u0 (B181 u x2 x3)) (u : ac_U) (x2 : Int32) (x3 : Int32) (h : ac_Fl u0 u) : ac_Fl u0 (K_X12_next_85_181_b B181 u0 u x2 x3) := by
  unfold K_X12_next_85_181_b
  exact (fl_vlv (fun (r30 : Int32) => (fl_vlv (fun (r33 : Int32) => (fl_ifv (ql_X12_next_85_201 u0 B181 hB181 u x2 x3 h) (fl_vlv (fun (r35 : Int32) => (fl_vlv (fun (r36 : Int32) => (fl_ifv (fl_ifv (ql_X12_next_85_320 u0 u h) (fl_ifv (ql_X12_next_85_317 u0 u x2 (u.1 85 13) (3 : Int32) h) (ql_X12_next_85_317 u0 u x2 (u.1 85 13) (7 : Int32) h))) (ql_X12_next_85_201 u0 B181 hB181 u x2 x3 h)))))))))))
theorem ql_X12_next_85_181 (u0 : ac_U) : ∀ n : Nat, ∀ (u : ac_U) (x2 : Int32) (x3 : Int32), ac_Fl u0 u → ac_Fl u0 (K_X12_next_85_181 u0 n u x2 x3)
  | 0 => fun u _ _ h => h
  | n + 1 => fun u x2 x3 h => ql_X12_next_85_181_b u0 (K_X12_next_85_181 u0 n) (ql_X12_next_85_181 u0 n) u x2 x3 h
theorem ql_X12_next_85_164 (u0 : ac_U) (u : ac_U) (x1 : Int32) (h : ac_Fl u0 u) : ac_Fl u0 (K_X12_next_85_164 u0 u x1) := by
  unfold K_X12_next_85_164
  exact (fl_vlv (fun (r40 : Int32) => (ql_X12_next_85_181 u0 942 (pI (pL u 85 17 (0 : Int64)) 85 14 (0 : Int32)) r40 (1 : Int32) (fl_I (fl_L h) rfl))))
theorem ql_X12_next_85_145 (u0 : ac_U) (u : ac_U) (x1 : Int32) (z1 : Int32) (h : ac_Fl u0 u) : ac_Fl u0 (K_X12_next_85_145 u0 u x1 z1) := by
  unfold K_X12_next_85_145
  exact (fl_vlv (fun (v43 : Int32) => (fl_I (fl_I (fl_I h rfl) rfl) rfl)))
theorem ql_X12_next_85_144 (u0 : ac_U) (u : ac_U) (x1 : Int32) (h : ac_Fl u0 u) : ac_Fl u0 (K_X12_next_85_144 u0 u x1) := by
  unfold K_X12_next_85_144
  exact (ql_X12_next_85_145 u0 u x1 (4 : Int32) h)
theorem ql_X12_next_85_140 (u0 : ac_U) (u : ac_U) (x1 : Int32) (h : ac_Fl u0 u) : ac_Fl u0 (K_X12_next_85_140 u0 u x1) := by
  unfold K_X12_next_85_140
  exact (ql_X12_next_85_145 u0 u x1 (3 : Int32) h)
theorem ql_X12_next_85_80 (u0 : ac_U) (u : ac_U) (h : ac_Fl u0 u) : ac_Fl u0 (K_X12_next_85_80 u0 u) := by
  unfold K_X12_next_85_80
  exact (fl_vlv (fun (r46 : Int32) => (fl_ifv (fl_vlv (fun (r50 : Int32) => (fl_ifv (ql_X12_next_85_164 u0 u r46 h) (fl_vlv (fun (r52 : Int32) => (fl_ifv (ql_X12_next_85_164 u0 u r46 h) (fl_ifv (ql_X12_next_85_140 u0 u r46 h) (fl_ifv (ql_X12_next_85_140 u0 u r46 h) (fl_ifv (ql_X12_next_85_140 u0 u r46 h) (fl_ifv (ql_X12_next_85_144 u0 u r46 h) (fl_ifv (ql_X12_next_85_144 u0 u r46 h) (ql_X12_next_85_140 u0 u r46 h)))))))))))) (fl_I h rfl))))
theorem ql_X12_next_85_18 (u0 : ac_U) (B0 : ac_U → ac_U) (hB0 : ∀ (u : ac_U), ac_Fl u0 u → ac_Fl u0 (B0 u)) (u : ac_U) (h : ac_Fl u0 u) : ac_Fl u0 (K_X12_next_85_18 B0 u0 u) := by
  unfold K_X12_next_85_18
  exact (fl_vlv (fun (v60 : Int32) => (hB0 (pI u 85 4 v60) (fl_I h rfl))))
theorem ql_X12_next_85_0_b (u0 : ac_U) (B0 : ac_U → ac_U) (hB0 : ∀ (u : ac_U), ac_Fl u0 u → ac_Fl u0 (B0 u)) (u : ac_U) (h : ac_Fl u0 u) : ac_Fl u0 (K_X12_next_85_0_b B0 u0 u) := by
  unfold K_X12_next_85_0_b
  exact (fl_vlv (fun (r61 : Int32) => (fl_ifv (ql_X12_next_85_18 u0 B0 hB0 u h) (fl_vlv (fun (r65 : Int32) => (fl_ifv (fl_ifv (ql_X12_next_85_80 u0 (pI (pI u 85 12 (u.1 85 4)) 85 13 (0 : Int32)) (fl_I (fl_I h rfl) rfl)) (fl_ifv (ql_X12_next_85_80 u0 (pI (pI u 85 12 (u.1 85 4)) 85 13 (0 : Int32)) (fl_I (fl_I h rfl) rfl)) (fl_I (fl_I (fl_I (fl_I h rfl) rfl) rfl) rfl))) (ql_X12_next_85_18 u0 B0 hB0 u h)))))))
theorem ql_X12_next_85_0 (u0 : ac_U) : ∀ n : Nat, ∀ (u : ac_U), ac_Fl u0 u → ac_Fl u0 (K_X12_next_85_0 u0 n u)
  | 0 => fun u h => h
  | n + 1 => fun u h => ql_X12_next_85_0_b u0 (K_X12_next_85_0 u0 n) (ql_X12_next_85_0 u0 n) u h
theorem ql_X12_next_85 (u0 : ac_U) : ac_Fl u0 (f_X12_next_85 u0) := by
  unfold f_X12_next_85
  exact (ql_X12_next_85_0 u0 942 u0 ac_Fl.rf)
theorem ql_X12_looksAt_85 (u0 : ac_U) (p0 : Int32) (p1 : Int32) : ac_Fl u0 (f_X12_looksAt_85 u0 p0 p1).1 := by
  unfold f_X12_looksAt_85
  exact (fl_vl (fun (r1 : Int32) => (fl_if (fl_vl (fun (r3 : Int32) => (fl_if (fl_I ac_Fl.rf rfl) (fl_bd ((fl_I ac_Fl.rf rfl).tr (ql_X12_bad_85 (pI u0 85 18 r3) (3 : Int32)) (by decide)) (fun (u5 : ac_U) (r5 : Int32) h5 => (fl_if h5 h5)))))) (fl_bd (ac_Fl.rf.tr (ql_X12_bad_85 u0 (1 : Int32)) (by decide)) (fun (u8 : ac_U) (r8 : Int32) h8 => h8)))))
theorem ql_X12_takes_85 (u0 : ac_U) (p0 : Int32) (p1 : Int32) : ac_Fl u0 (f_X12_takes_85 u0 p0 p1).1 := by
  unfold f_X12_takes_85
  exact (fl_if (fl_vl (fun (r3 : Int32) => (fl_if (fl_cv ((fl_I ac_Fl.rf rfl).tr (ql_X12_next_85 (pI u0 85 18 (u0.1 85 14))) (by decide)) (fun (u5 : ac_U) h5 => h5)) (fl_bd (ac_Fl.rf.tr (ql_X12_bad_85 u0 (2 : Int32)) (by decide)) (fun (u7 : ac_U) (r7 : Int32) h7 => h7))))) (fl_bd (ac_Fl.rf.tr (ql_X12_bad_85 u0 (1 : Int32)) (by decide)) (fun (u8 : ac_U) (r8 : Int32) h8 => h8)))
theorem ql_X12_takesName_85 (u0 : ac_U) (p0 : Int32) (p1 : Int32) : ac_Fl u0 (f_X12_takesName_85 u0 p0 p1).1 := by
  unfold f_X12_takesName_85
  exact (fl_bd (ac_Fl.rf.tr (ql_X12_looksAt_85 u0 p0 p1) (by decide)) (fun (u1 : ac_U) (r1 : Int32) h1 => (fl_if (fl_cv (h1.tr (ql_X12_next_85 u1) (by decide)) (fun (u3 : ac_U) h3 => h3)) h1)))
theorem ql_X12_sign_85 (u0 : ac_U) (p0 : Int32) : ac_Fl u0 (f_X12_sign_85 u0 p0).1 := by
  unfold f_X12_sign_85
  exact (fl_vl (fun (r1 : Int32) => (fl_if (fl_cv (ac_Fl.rf.tr (ql_X12_next_85 u0) (by decide)) (fun (u3 : ac_U) h3 => h3)) (fl_bd (ac_Fl.rf.tr (ql_X12_bad_85 u0 (1 : Int32)) (by decide)) (fun (u4 : ac_U) (r4 : Int32) h4 => h4)))))
theorem ql_X12_taken_85 (u0 : ac_U) (p0 : Int32) : ac_Fl u0 (f_X12_taken_85 u0 p0) := by
  unfold f_X12_taken_85
  exact (fl_I (fl_I (fl_I (fl_I ac_Fl.rf rfl) rfl) rfl) rfl)
theorem ql_X12_four_85_3_b (u0 : ac_U) (p0 : Int32) (B3 : ac_U → Int32 → ac_U) (hB3 : ∀ (u : ac_U) (x2 : Int32), ac_Fl u0 u → ac_Fl u0 (B3 u x2)) (u : ac_U) (x2 : Int32) (h : ac_Fl u0 u) : ac_Fl u0 (K_X12_four_85_3_b B3 u0 p0 u x2) := by
  unfold K_X12_four_85_3_b
  exact (fl_ifv h (fl_vlv (fun (v4 : Int32) => (fl_vlv (fun (v5 : Int32) => (fl_vlv (fun (v6 : Int32) => (fl_vlv (fun (v7 : Int32) => (hB3 (pI (pI u 86 (u.1 85 2).toNatClampNeg v5) 85 2 v6) v7 (fl_I (fl_I h rfl) rfl)))))))))))
theorem ql_X12_four_85_3 (u0 : ac_U) (p0 : Int32) : ∀ n : Nat, ∀ (u : ac_U) (x2 : Int32), ac_Fl u0 u → ac_Fl u0 (K_X12_four_85_3 u0 p0 n u x2)
  | 0 => fun u _ h => h
  | n + 1 => fun u x2 h => ql_X12_four_85_3_b u0 p0 (K_X12_four_85_3 u0 p0 n) (ql_X12_four_85_3 u0 p0 n) u x2 h
theorem ql_X12_four_85 (u0 : ac_U) (p0 : Int32) : ac_Fl u0 (f_X12_four_85 u0 p0) := by
  unfold f_X12_four_85
  exact (ql_X12_four_85_3 u0 p0 34 u0 (24 : Int32) ac_Fl.rf)
theorem ql_X12_feed_85 (u0 : ac_U) (p0 : Int32) (p1 : Int32) (p2 : Int32) (p3 : Int32) (p4 : Int32) : ac_Fl u0 (f_X12_feed_85 u0 p0 p1 p2 p3 p4).1 := by
  unfold f_X12_feed_85
  exact (fl_vl (fun (v2 : Int32) => (fl_if (fl_cv ((fl_I ac_Fl.rf rfl).tr (ql_X12_four_85 (pI u0 85 0 (0 : Int32)) p0) (by decide)) (fun (u4 : ac_U) h4 => (fl_cv (h4.tr (ql_X12_four_85 u4 p1) (by decide)) (fun (u6 : ac_U) h6 => (fl_cv (h6.tr (ql_X12_four_85 u6 p2) (by decide)) (fun (u8 : ac_U) h8 => (fl_cv (h8.tr (ql_X12_four_85 u8 p3) (by decide)) (fun (u10 : ac_U) h10 => (fl_cv (h10.tr (ql_X12_four_85 u10 p4) (by decide)) (fun (u12 : ac_U) h12 => h12)))))))))) (fl_I ac_Fl.rf rfl))))
theorem ql_X10_isKnown_1_4_38 (u0 : ac_U) (p1 : Int32) (u : ac_U) (h : ac_Fl u0 u) : ac_Fl u0 (K_X10_isKnown_1_4_38 u0 p1 u).1 := by
  unfold K_X10_isKnown_1_4_38
  exact (fl_bd (h.tr (ql_X10_fail_1 u (3 : Int32)) (by decide)) (fun (u1 : ac_U) (r1 : Int32) h1 => h1))
theorem ql_X10_isKnown_1_4 (u0 : ac_U) (p1 : Int32) : ac_Fl u0 (f_X10_isKnown_1_4 u0 p1).1 := by
  unfold f_X10_isKnown_1_4
  exact (fl_if (fl_vl (fun (r5 : Int32) => (fl_if (ql_X10_isKnown_1_4_38 u0 p1 u0 ac_Fl.rf) (fl_vl (fun (v7 : Int32) => (fl_if (fl_vl (fun (v9 : Int32) => (fl_I ac_Fl.rf rfl))) (ql_X10_isKnown_1_4_38 u0 p1 u0 ac_Fl.rf))))))) (fl_bd (ac_Fl.rf.tr (ql_X10_fail_1 u0 (1 : Int32)) (by decide)) (fun (u10 : ac_U) (r10 : Int32) h10 => h10)))
theorem ql_X8_add_47 (u0 : ac_U) (p0 : Int32) (p1 : Int32) (p2 : Int32) : ac_Fl u0 (f_X8_add_47 u0 p0 p1 p2) := by
  unfold f_X8_add_47
  exact (fl_ifv ac_Fl.rf (fl_vlv (fun (v3 : Int32) => (fl_I (fl_I (fl_I (fl_I ac_Fl.rf rfl) rfl) rfl) rfl))))
theorem ql_X8_clear_47 (u0 : ac_U) : ac_Fl u0 (f_X8_clear_47 u0) := by
  unfold f_X8_clear_47
  exact (fl_I (fl_I ac_Fl.rf rfl) rfl)
theorem ql_X8_copyFrom_43_47 (u0 : ac_U) : ac_Fl u0 (f_X8_copyFrom_43_47 u0) := by
  unfold f_X8_copyFrom_43_47
  exact (fl_C (fl_C (fl_C (fl_I (fl_I ac_Fl.rf rfl) rfl) (fun _ => rfl)) (fun _ => rfl)) (fun _ => rfl))
theorem ql_X9_begin_51 (u0 : ac_U) : ac_Fl u0 (f_X9_begin_51 u0) := by
  unfold f_X9_begin_51
  exact (fl_cvv (ac_Fl.rf.tr (ql_X8_clear_47 u0) (by decide)) (fun (u1 : ac_U) h1 => (fl_cvv (h1.tr (ql_X10_startReading_1 u1 (200 : Int32)) (by decide)) (fun (u2 : ac_U) h2 => h2))))
theorem ql_X9_isAtEnd_51_21 (u0 : ac_U) (u : ac_U) (h : ac_Fl u0 u) : ac_Fl u0 (K_X9_isAtEnd_51_21 u0 u).1 := by
  unfold K_X9_isAtEnd_51_21
  exact h
theorem ql_X9_isAtEnd_51 (u0 : ac_U) : ac_Fl u0 (f_X9_isAtEnd_51 u0).1 := by
  unfold f_X9_isAtEnd_51
  exact (fl_if (ql_X9_isAtEnd_51_21 u0 u0 ac_Fl.rf) (fl_bd (ac_Fl.rf.tr (ql_X10_fail_1 u0 (1 : Int32)) (by decide)) (fun (u3 : ac_U) (r3 : Int32) h3 => (fl_if h3 h3))))
theorem ql_X9_readOne_51_d9_53 (u0 : ac_U) (p0 : Int32) (u : ac_U) (h : ac_Fl u0 u) : ac_Fl u0 (K_X9_readOne_51_d9_53 u0 p0 u).1 := by
  unfold K_X9_readOne_51_d9_53
  exact (fl_bd (h.tr (ql_X10_fail_1 u (4 : Int32)) (by decide)) (fun (u1 : ac_U) (r1 : Int32) h1 => h1))
theorem ql_X9_readOne_51_d9_35 (u0 : ac_U) (p0 : Int32) (u : ac_U) (x2 : Int32) (h : ac_Fl u0 u) : ac_Fl u0 (K_X9_readOne_51_d9_35 u0 p0 u x2).1 := by
  unfold K_X9_readOne_51_d9_35
  exact (fl_if (ql_X9_readOne_51_d9_53 u0 p0 u h) (fl_if h (ql_X9_readOne_51_d9_53 u0 p0 u h)))
theorem ql_X9_readOne_51_d9_26 (u0 : ac_U) (p0 : Int32) (u : ac_U) (h : ac_Fl u0 u) : ac_Fl u0 (K_X9_readOne_51_d9_26 u0 p0 u).1 := by
  unfold K_X9_readOne_51_d9_26
  exact (fl_bd (h.tr (ql_X10_fail_1 u (1 : Int32)) (by decide)) (fun (u7 : ac_U) (r7 : Int32) h7 => h7))
theorem ql_X9_readOne_51_d9 (u0 : ac_U) (p0 : Int32) : ac_Fl u0 (f_X9_readOne_51_d9 u0 p0).1 := by
  unfold f_X9_readOne_51_d9
  exact (fl_if (ql_X9_readOne_51_d9_35 u0 p0 u0 (u0.1 1 6) ac_Fl.rf) (fl_if (ql_X9_readOne_51_d9_26 u0 p0 u0 ac_Fl.rf) (fl_if (ql_X9_readOne_51_d9_35 u0 p0 u0 (u0.1 1 6) ac_Fl.rf) (ql_X9_readOne_51_d9_26 u0 p0 u0 ac_Fl.rf))))
theorem ql_X9_readBoth_51_d9 (u0 : ac_U) (p0 : Int32) : ac_Fl u0 (f_X9_readBoth_51_d9 u0 p0).1 := by
  unfold f_X9_readBoth_51_d9
  exact (fl_bd (ac_Fl.rf.tr (ql_X9_readOne_51_d9 u0 p0) (by decide)) (fun (u1 : ac_U) (r1 : Int32) h1 => (fl_if h1 h1)))
theorem ql_X9_readCond_51_d9 (u0 : ac_U) (p0 : Int32) : ac_Fl u0 (f_X9_readCond_51_d9 u0 p0).1 := by
  unfold f_X9_readCond_51_d9
  exact (fl_bd (ac_Fl.rf.tr (ql_X9_readBoth_51_d9 u0 p0) (by decide)) (fun (u1 : ac_U) (r1 : Int32) h1 => (fl_if h1 h1)))
theorem ql_X9_readBracket_51_d8 (u0 : ac_U) (p0 : Int32) : ac_Fl u0 (f_X9_readBracket_51_d8 u0 p0).1 := by
  unfold f_X9_readBracket_51_d8
  exact (fl_cv (ac_Fl.rf.tr (ql_X10_readNext_1 u0) (by decide)) (fun (u1 : ac_U) h1 => (fl_vl (fun (v2 : Int32) => (fl_bd (h1.tr (ql_X9_readCond_51_d9 u1 v2) (by decide)) (fun (u3 : ac_U) (r3 : Int32) h3 => (fl_if h3 h3)))))))
theorem ql_X9_readCompare_51 (u0 : ac_U) (p0 : Int32) : ac_Fl u0 (f_X9_readCompare_51 u0 p0).1 := by
  unfold f_X9_readCompare_51
  exact (fl_cv (ac_Fl.rf.tr (ql_X10_readNext_1 u0) (by decide)) (fun (u1 : ac_U) h1 => (fl_vl (fun (r3 : Int32) => (fl_if (fl_cv (h1.tr (ql_X10_readNext_1 u1) (by decide)) (fun (u5 : ac_U) h5 => (fl_if (fl_cv (h5.tr (ql_X8_add_47 u5 p0 (u1.1 1 6) (u5.1 1 8)) (by decide)) (fun (u8 : ac_U) h8 => (fl_cv (h8.tr (ql_X10_readNext_1 u8) (by decide)) (fun (u9 : ac_U) h9 => h9)))) (fl_bd (h5.tr (ql_X10_fail_1 u5 (1 : Int32)) (by decide)) (fun (u10 : ac_U) (r10 : Int32) h10 => h10))))) (fl_bd (h1.tr (ql_X10_fail_1 u1 (1 : Int32)) (by decide)) (fun (u11 : ac_U) (r11 : Int32) h11 => h11)))))))
theorem ql_X9_readNot_51_d8 (u0 : ac_U) (p0 : Int32) : ac_Fl u0 (f_X9_readNot_51_d8 u0 p0).1 := by
  unfold f_X9_readNot_51_d8
  exact (fl_cv (ac_Fl.rf.tr (ql_X10_readNext_1 u0) (by decide)) (fun (u1 : ac_U) h1 => (fl_vl (fun (v2 : Int32) => (fl_bd (h1.tr (ql_X9_readOne_51_d9 u1 v2) (by decide)) (fun (u3 : ac_U) (r3 : Int32) h3 => (fl_if h3 h3)))))))
theorem ql_X9_readOf_51 (u0 : ac_U) : ac_Fl u0 (f_X9_readOf_51 u0).1 := by
  unfold f_X9_readOf_51
  exact (fl_cv (ac_Fl.rf.tr (ql_X10_readNext_1 u0) (by decide)) (fun (u1 : ac_U) h1 => (fl_bd (h1.tr (ql_X10_isKnown_1_4 u1 (1 : Int32)) (by decide)) (fun (u2 : ac_U) (r2 : Int32) h2 => (fl_if (fl_cv (h2.tr (ql_X8_add_47 u2 (122 : Int32) (0 : Int32) (u2.1 1 9)) (by decide)) (fun (u5 : ac_U) h5 => (fl_cv (h5.tr (ql_X10_readNext_1 u5) (by decide)) (fun (u6 : ac_U) h6 => h6)))) h2)))))
theorem ql_X9_readStatus_51 (u0 : ac_U) (p0 : Int32) : ac_Fl u0 (f_X9_readStatus_51 u0 p0).1 := by
  unfold f_X9_readStatus_51
  exact (fl_cv (ac_Fl.rf.tr (ql_X8_add_47 u0 p0 (0 : Int32) (0 : Int32)) (by decide)) (fun (u1 : ac_U) h1 => (fl_cv (h1.tr (ql_X10_readNext_1 u1) (by decide)) (fun (u2 : ac_U) h2 => h2))))
theorem ql_X9_readOne_51_d8_53 (u0 : ac_U) (p0 : Int32) (u : ac_U) (h : ac_Fl u0 u) : ac_Fl u0 (K_X9_readOne_51_d8_53 u0 p0 u).1 := by
  unfold K_X9_readOne_51_d8_53
  exact (fl_bd (h.tr (ql_X10_fail_1 u (4 : Int32)) (by decide)) (fun (u1 : ac_U) (r1 : Int32) h1 => h1))
theorem ql_X9_readOne_51_d8_35 (u0 : ac_U) (p0 : Int32) (u : ac_U) (x2 : Int32) (h : ac_Fl u0 u) : ac_Fl u0 (K_X9_readOne_51_d8_35 u0 p0 u x2).1 := by
  unfold K_X9_readOne_51_d8_35
  exact (fl_if (ql_X9_readOne_51_d8_53 u0 p0 u h) (fl_if (fl_vl (fun (v6 : Int32) => (fl_if (fl_if (fl_if (fl_if (fl_bd ((fl_I h rfl).tr (ql_X9_readStatus_51 (pI u 47 4 v6) x2) (by decide)) (fun (u11 : ac_U) (r11 : Int32) h11 => h11)) (fl_bd ((fl_I h rfl).tr (ql_X9_readCompare_51 (pI u 47 4 v6) x2) (by decide)) (fun (u12 : ac_U) (r12 : Int32) h12 => h12))) (fl_bd ((fl_I h rfl).tr (ql_X9_readOf_51 (pI u 47 4 v6)) (by decide)) (fun (u13 : ac_U) (r13 : Int32) h13 => h13))) (fl_bd ((fl_I h rfl).tr (ql_X9_readNot_51_d8 (pI u 47 4 v6) p0) (by decide)) (fun (u14 : ac_U) (r14 : Int32) h14 => h14))) (fl_bd ((fl_I h rfl).tr (ql_X9_readBracket_51_d8 (pI u 47 4 v6) p0) (by decide)) (fun (u15 : ac_U) (r15 : Int32) h15 => h15))))) h))
theorem ql_X9_readOne_51_d8_26 (u0 : ac_U) (p0 : Int32) (u : ac_U) (h : ac_Fl u0 u) : ac_Fl u0 (K_X9_readOne_51_d8_26 u0 p0 u).1 := by
  unfold K_X9_readOne_51_d8_26
  exact (fl_bd (h.tr (ql_X10_fail_1 u (1 : Int32)) (by decide)) (fun (u16 : ac_U) (r16 : Int32) h16 => h16))
theorem ql_X9_readOne_51_d8 (u0 : ac_U) (p0 : Int32) : ac_Fl u0 (f_X9_readOne_51_d8 u0 p0).1 := by
  unfold f_X9_readOne_51_d8
  exact (fl_if (ql_X9_readOne_51_d8_35 u0 p0 u0 (u0.1 1 6) ac_Fl.rf) (fl_if (ql_X9_readOne_51_d8_26 u0 p0 u0 ac_Fl.rf) (fl_if (ql_X9_readOne_51_d8_35 u0 p0 u0 (u0.1 1 6) ac_Fl.rf) (ql_X9_readOne_51_d8_26 u0 p0 u0 ac_Fl.rf))))
theorem ql_X9_readBoth_51_d8_64 (u0 : ac_U) (p0 : Int32) (u : ac_U) (h : ac_Fl u0 u) : ac_Fl u0 (K_X9_readBoth_51_d8_64 u0 p0 u).1 := by
  unfold K_X9_readBoth_51_d8_64
  exact h
theorem ql_X9_readBoth_51_d8_12_b (u0 : ac_U) (p0 : Int32) (B12 : ac_U → Int32 → ac_U × Int32) (hB12 : ∀ (u : ac_U) (x2 : Int32), ac_Fl u0 u → ac_Fl u0 (B12 u x2).1) (u : ac_U) (x2 : Int32) (h : ac_Fl u0 u) : ac_Fl u0 (K_X9_readBoth_51_d8_12_b B12 u0 p0 u x2).1 := by
  unfold K_X9_readBoth_51_d8_12_b
  exact (fl_if (ql_X9_readBoth_51_d8_64 u0 p0 u h) (fl_if (ql_X9_readBoth_51_d8_64 u0 p0 u h) (fl_cv (h.tr (ql_X10_readNext_1 u) (by decide)) (fun (u4 : ac_U) h4 => (fl_bd (h4.tr (ql_X9_readOne_51_d8 u4 p0) (by decide)) (fun (u5 : ac_U) (r5 : Int32) h5 => (fl_if (fl_cv (h5.tr (ql_X8_add_47 u5 (115 : Int32) (0 : Int32) (0 : Int32)) (by decide)) (fun (u7 : ac_U) h7 => (fl_vl (fun (v8 : Int32) => (hB12 u7 v8 h7))))) h5)))))))
theorem ql_X9_readBoth_51_d8_12 (u0 : ac_U) (p0 : Int32) : ∀ n : Nat, ∀ (u : ac_U) (x2 : Int32), ac_Fl u0 u → ac_Fl u0 (K_X9_readBoth_51_d8_12 u0 p0 n u x2).1
  | 0 => fun u _ h => h
  | n + 1 => fun u x2 h => ql_X9_readBoth_51_d8_12_b u0 p0 (K_X9_readBoth_51_d8_12 u0 p0 n) (ql_X9_readBoth_51_d8_12 u0 p0 n) u x2 h
theorem ql_X9_readBoth_51_d8 (u0 : ac_U) (p0 : Int32) : ac_Fl u0 (f_X9_readBoth_51_d8 u0 p0).1 := by
  unfold f_X9_readBoth_51_d8
  exact (fl_bd (ac_Fl.rf.tr (ql_X9_readOne_51_d8 u0 p0) (by decide)) (fun (u9 : ac_U) (r9 : Int32) h9 => (fl_if (ql_X9_readBoth_51_d8_12 u0 p0 22 u9 (0 : Int32) h9) h9)))
theorem ql_X9_readCond_51_d8_64 (u0 : ac_U) (p0 : Int32) (u : ac_U) (h : ac_Fl u0 u) : ac_Fl u0 (K_X9_readCond_51_d8_64 u0 p0 u).1 := by
  unfold K_X9_readCond_51_d8_64
  exact h
theorem ql_X9_readCond_51_d8_12_b (u0 : ac_U) (p0 : Int32) (B12 : ac_U → Int32 → ac_U × Int32) (hB12 : ∀ (u : ac_U) (x2 : Int32), ac_Fl u0 u → ac_Fl u0 (B12 u x2).1) (u : ac_U) (x2 : Int32) (h : ac_Fl u0 u) : ac_Fl u0 (K_X9_readCond_51_d8_12_b B12 u0 p0 u x2).1 := by
  unfold K_X9_readCond_51_d8_12_b
  exact (fl_if (ql_X9_readCond_51_d8_64 u0 p0 u h) (fl_if (ql_X9_readCond_51_d8_64 u0 p0 u h) (fl_cv (h.tr (ql_X10_readNext_1 u) (by decide)) (fun (u4 : ac_U) h4 => (fl_bd (h4.tr (ql_X9_readBoth_51_d8 u4 p0) (by decide)) (fun (u5 : ac_U) (r5 : Int32) h5 => (fl_if (fl_cv (h5.tr (ql_X8_add_47 u5 (114 : Int32) (0 : Int32) (0 : Int32)) (by decide)) (fun (u7 : ac_U) h7 => (fl_vl (fun (v8 : Int32) => (hB12 u7 v8 h7))))) h5)))))))
theorem ql_X9_readCond_51_d8_12 (u0 : ac_U) (p0 : Int32) : ∀ n : Nat, ∀ (u : ac_U) (x2 : Int32), ac_Fl u0 u → ac_Fl u0 (K_X9_readCond_51_d8_12 u0 p0 n u x2).1
  | 0 => fun u _ h => h
  | n + 1 => fun u x2 h => ql_X9_readCond_51_d8_12_b u0 p0 (K_X9_readCond_51_d8_12 u0 p0 n) (ql_X9_readCond_51_d8_12 u0 p0 n) u x2 h
theorem ql_X9_readCond_51_d8 (u0 : ac_U) (p0 : Int32) : ac_Fl u0 (f_X9_readCond_51_d8 u0 p0).1 := by
  unfold f_X9_readCond_51_d8
  exact (fl_bd (ac_Fl.rf.tr (ql_X9_readBoth_51_d8 u0 p0) (by decide)) (fun (u9 : ac_U) (r9 : Int32) h9 => (fl_if (ql_X9_readCond_51_d8_12 u0 p0 22 u9 (0 : Int32) h9) h9)))
theorem ql_X9_readBracket_51_d7 (u0 : ac_U) (p0 : Int32) : ac_Fl u0 (f_X9_readBracket_51_d7 u0 p0).1 := by
  unfold f_X9_readBracket_51_d7
  exact (fl_cv (ac_Fl.rf.tr (ql_X10_readNext_1 u0) (by decide)) (fun (u1 : ac_U) h1 => (fl_vl (fun (v2 : Int32) => (fl_bd (h1.tr (ql_X9_readCond_51_d8 u1 v2) (by decide)) (fun (u3 : ac_U) (r3 : Int32) h3 => (fl_if (fl_if (fl_cv (h3.tr (ql_X10_readNext_1 u3) (by decide)) (fun (u7 : ac_U) h7 => h7)) (fl_bd (h3.tr (ql_X10_fail_1 u3 (1 : Int32)) (by decide)) (fun (u8 : ac_U) (r8 : Int32) h8 => h8))) h3)))))))
theorem ql_X9_readNot_51_d7 (u0 : ac_U) (p0 : Int32) : ac_Fl u0 (f_X9_readNot_51_d7 u0 p0).1 := by
  unfold f_X9_readNot_51_d7
  exact (fl_cv (ac_Fl.rf.tr (ql_X10_readNext_1 u0) (by decide)) (fun (u1 : ac_U) h1 => (fl_vl (fun (v2 : Int32) => (fl_bd (h1.tr (ql_X9_readOne_51_d8 u1 v2) (by decide)) (fun (u3 : ac_U) (r3 : Int32) h3 => (fl_if (fl_cv (h3.tr (ql_X8_add_47 u3 (116 : Int32) (0 : Int32) (0 : Int32)) (by decide)) (fun (u5 : ac_U) h5 => h5)) h3)))))))
theorem ql_X9_readOne_51_d7_53 (u0 : ac_U) (p0 : Int32) (u : ac_U) (h : ac_Fl u0 u) : ac_Fl u0 (K_X9_readOne_51_d7_53 u0 p0 u).1 := by
  unfold K_X9_readOne_51_d7_53
  exact (fl_bd (h.tr (ql_X10_fail_1 u (4 : Int32)) (by decide)) (fun (u1 : ac_U) (r1 : Int32) h1 => h1))
theorem ql_X9_readOne_51_d7_35 (u0 : ac_U) (p0 : Int32) (u : ac_U) (x2 : Int32) (h : ac_Fl u0 u) : ac_Fl u0 (K_X9_readOne_51_d7_35 u0 p0 u x2).1 := by
  unfold K_X9_readOne_51_d7_35
  exact (fl_if (ql_X9_readOne_51_d7_53 u0 p0 u h) (fl_if (fl_vl (fun (v6 : Int32) => (fl_if (fl_if (fl_if (fl_if (fl_bd ((fl_I h rfl).tr (ql_X9_readStatus_51 (pI u 47 4 v6) x2) (by decide)) (fun (u11 : ac_U) (r11 : Int32) h11 => h11)) (fl_bd ((fl_I h rfl).tr (ql_X9_readCompare_51 (pI u 47 4 v6) x2) (by decide)) (fun (u12 : ac_U) (r12 : Int32) h12 => h12))) (fl_bd ((fl_I h rfl).tr (ql_X9_readOf_51 (pI u 47 4 v6)) (by decide)) (fun (u13 : ac_U) (r13 : Int32) h13 => h13))) (fl_bd ((fl_I h rfl).tr (ql_X9_readNot_51_d7 (pI u 47 4 v6) p0) (by decide)) (fun (u14 : ac_U) (r14 : Int32) h14 => h14))) (fl_bd ((fl_I h rfl).tr (ql_X9_readBracket_51_d7 (pI u 47 4 v6) p0) (by decide)) (fun (u15 : ac_U) (r15 : Int32) h15 => h15))))) h))
theorem ql_X9_readOne_51_d7_26 (u0 : ac_U) (p0 : Int32) (u : ac_U) (h : ac_Fl u0 u) : ac_Fl u0 (K_X9_readOne_51_d7_26 u0 p0 u).1 := by
  unfold K_X9_readOne_51_d7_26
  exact (fl_bd (h.tr (ql_X10_fail_1 u (1 : Int32)) (by decide)) (fun (u16 : ac_U) (r16 : Int32) h16 => h16))
theorem ql_X9_readOne_51_d7 (u0 : ac_U) (p0 : Int32) : ac_Fl u0 (f_X9_readOne_51_d7 u0 p0).1 := by
  unfold f_X9_readOne_51_d7
  exact (fl_if (ql_X9_readOne_51_d7_35 u0 p0 u0 (u0.1 1 6) ac_Fl.rf) (fl_if (ql_X9_readOne_51_d7_26 u0 p0 u0 ac_Fl.rf) (fl_if (ql_X9_readOne_51_d7_35 u0 p0 u0 (u0.1 1 6) ac_Fl.rf) (ql_X9_readOne_51_d7_26 u0 p0 u0 ac_Fl.rf))))
theorem ql_X9_readBoth_51_d7_64 (u0 : ac_U) (p0 : Int32) (u : ac_U) (h : ac_Fl u0 u) : ac_Fl u0 (K_X9_readBoth_51_d7_64 u0 p0 u).1 := by
  unfold K_X9_readBoth_51_d7_64
  exact h
theorem ql_X9_readBoth_51_d7_12_b (u0 : ac_U) (p0 : Int32) (B12 : ac_U → Int32 → ac_U × Int32) (hB12 : ∀ (u : ac_U) (x2 : Int32), ac_Fl u0 u → ac_Fl u0 (B12 u x2).1) (u : ac_U) (x2 : Int32) (h : ac_Fl u0 u) : ac_Fl u0 (K_X9_readBoth_51_d7_12_b B12 u0 p0 u x2).1 := by
  unfold K_X9_readBoth_51_d7_12_b
  exact (fl_if (ql_X9_readBoth_51_d7_64 u0 p0 u h) (fl_if (ql_X9_readBoth_51_d7_64 u0 p0 u h) (fl_cv (h.tr (ql_X10_readNext_1 u) (by decide)) (fun (u4 : ac_U) h4 => (fl_bd (h4.tr (ql_X9_readOne_51_d7 u4 p0) (by decide)) (fun (u5 : ac_U) (r5 : Int32) h5 => (fl_if (fl_cv (h5.tr (ql_X8_add_47 u5 (115 : Int32) (0 : Int32) (0 : Int32)) (by decide)) (fun (u7 : ac_U) h7 => (fl_vl (fun (v8 : Int32) => (hB12 u7 v8 h7))))) h5)))))))
theorem ql_X9_readBoth_51_d7_12 (u0 : ac_U) (p0 : Int32) : ∀ n : Nat, ∀ (u : ac_U) (x2 : Int32), ac_Fl u0 u → ac_Fl u0 (K_X9_readBoth_51_d7_12 u0 p0 n u x2).1
  | 0 => fun u _ h => h
  | n + 1 => fun u x2 h => ql_X9_readBoth_51_d7_12_b u0 p0 (K_X9_readBoth_51_d7_12 u0 p0 n) (ql_X9_readBoth_51_d7_12 u0 p0 n) u x2 h
theorem ql_X9_readBoth_51_d7 (u0 : ac_U) (p0 : Int32) : ac_Fl u0 (f_X9_readBoth_51_d7 u0 p0).1 := by
  unfold f_X9_readBoth_51_d7
  exact (fl_bd (ac_Fl.rf.tr (ql_X9_readOne_51_d7 u0 p0) (by decide)) (fun (u9 : ac_U) (r9 : Int32) h9 => (fl_if (ql_X9_readBoth_51_d7_12 u0 p0 22 u9 (0 : Int32) h9) h9)))
theorem ql_X9_readCond_51_d7_64 (u0 : ac_U) (p0 : Int32) (u : ac_U) (h : ac_Fl u0 u) : ac_Fl u0 (K_X9_readCond_51_d7_64 u0 p0 u).1 := by
  unfold K_X9_readCond_51_d7_64
  exact h
theorem ql_X9_readCond_51_d7_12_b (u0 : ac_U) (p0 : Int32) (B12 : ac_U → Int32 → ac_U × Int32) (hB12 : ∀ (u : ac_U) (x2 : Int32), ac_Fl u0 u → ac_Fl u0 (B12 u x2).1) (u : ac_U) (x2 : Int32) (h : ac_Fl u0 u) : ac_Fl u0 (K_X9_readCond_51_d7_12_b B12 u0 p0 u x2).1 := by
  unfold K_X9_readCond_51_d7_12_b
  exact (fl_if (ql_X9_readCond_51_d7_64 u0 p0 u h) (fl_if (ql_X9_readCond_51_d7_64 u0 p0 u h) (fl_cv (h.tr (ql_X10_readNext_1 u) (by decide)) (fun (u4 : ac_U) h4 => (fl_bd (h4.tr (ql_X9_readBoth_51_d7 u4 p0) (by decide)) (fun (u5 : ac_U) (r5 : Int32) h5 => (fl_if (fl_cv (h5.tr (ql_X8_add_47 u5 (114 : Int32) (0 : Int32) (0 : Int32)) (by decide)) (fun (u7 : ac_U) h7 => (fl_vl (fun (v8 : Int32) => (hB12 u7 v8 h7))))) h5)))))))
theorem ql_X9_readCond_51_d7_12 (u0 : ac_U) (p0 : Int32) : ∀ n : Nat, ∀ (u : ac_U) (x2 : Int32), ac_Fl u0 u → ac_Fl u0 (K_X9_readCond_51_d7_12 u0 p0 n u x2).1
  | 0 => fun u _ h => h
  | n + 1 => fun u x2 h => ql_X9_readCond_51_d7_12_b u0 p0 (K_X9_readCond_51_d7_12 u0 p0 n) (ql_X9_readCond_51_d7_12 u0 p0 n) u x2 h
theorem ql_X9_readCond_51_d7 (u0 : ac_U) (p0 : Int32) : ac_Fl u0 (f_X9_readCond_51_d7 u0 p0).1 := by
  unfold f_X9_readCond_51_d7
  exact (fl_bd (ac_Fl.rf.tr (ql_X9_readBoth_51_d7 u0 p0) (by decide)) (fun (u9 : ac_U) (r9 : Int32) h9 => (fl_if (ql_X9_readCond_51_d7_12 u0 p0 22 u9 (0 : Int32) h9) h9)))
theorem ql_X9_readBracket_51_d6 (u0 : ac_U) (p0 : Int32) : ac_Fl u0 (f_X9_readBracket_51_d6 u0 p0).1 := by
  unfold f_X9_readBracket_51_d6
  exact (fl_cv (ac_Fl.rf.tr (ql_X10_readNext_1 u0) (by decide)) (fun (u1 : ac_U) h1 => (fl_vl (fun (v2 : Int32) => (fl_bd (h1.tr (ql_X9_readCond_51_d7 u1 v2) (by decide)) (fun (u3 : ac_U) (r3 : Int32) h3 => (fl_if (fl_if (fl_cv (h3.tr (ql_X10_readNext_1 u3) (by decide)) (fun (u7 : ac_U) h7 => h7)) (fl_bd (h3.tr (ql_X10_fail_1 u3 (1 : Int32)) (by decide)) (fun (u8 : ac_U) (r8 : Int32) h8 => h8))) h3)))))))
theorem ql_X9_readNot_51_d6 (u0 : ac_U) (p0 : Int32) : ac_Fl u0 (f_X9_readNot_51_d6 u0 p0).1 := by
  unfold f_X9_readNot_51_d6
  exact (fl_cv (ac_Fl.rf.tr (ql_X10_readNext_1 u0) (by decide)) (fun (u1 : ac_U) h1 => (fl_vl (fun (v2 : Int32) => (fl_bd (h1.tr (ql_X9_readOne_51_d7 u1 v2) (by decide)) (fun (u3 : ac_U) (r3 : Int32) h3 => (fl_if (fl_cv (h3.tr (ql_X8_add_47 u3 (116 : Int32) (0 : Int32) (0 : Int32)) (by decide)) (fun (u5 : ac_U) h5 => h5)) h3)))))))
theorem ql_X9_readOne_51_d6_53 (u0 : ac_U) (p0 : Int32) (u : ac_U) (h : ac_Fl u0 u) : ac_Fl u0 (K_X9_readOne_51_d6_53 u0 p0 u).1 := by
  unfold K_X9_readOne_51_d6_53
  exact (fl_bd (h.tr (ql_X10_fail_1 u (4 : Int32)) (by decide)) (fun (u1 : ac_U) (r1 : Int32) h1 => h1))
theorem ql_X9_readOne_51_d6_35 (u0 : ac_U) (p0 : Int32) (u : ac_U) (x2 : Int32) (h : ac_Fl u0 u) : ac_Fl u0 (K_X9_readOne_51_d6_35 u0 p0 u x2).1 := by
  unfold K_X9_readOne_51_d6_35
  exact (fl_if (ql_X9_readOne_51_d6_53 u0 p0 u h) (fl_if (fl_vl (fun (v6 : Int32) => (fl_if (fl_if (fl_if (fl_if (fl_bd ((fl_I h rfl).tr (ql_X9_readStatus_51 (pI u 47 4 v6) x2) (by decide)) (fun (u11 : ac_U) (r11 : Int32) h11 => h11)) (fl_bd ((fl_I h rfl).tr (ql_X9_readCompare_51 (pI u 47 4 v6) x2) (by decide)) (fun (u12 : ac_U) (r12 : Int32) h12 => h12))) (fl_bd ((fl_I h rfl).tr (ql_X9_readOf_51 (pI u 47 4 v6)) (by decide)) (fun (u13 : ac_U) (r13 : Int32) h13 => h13))) (fl_bd ((fl_I h rfl).tr (ql_X9_readNot_51_d6 (pI u 47 4 v6) p0) (by decide)) (fun (u14 : ac_U) (r14 : Int32) h14 => h14))) (fl_bd ((fl_I h rfl).tr (ql_X9_readBracket_51_d6 (pI u 47 4 v6) p0) (by decide)) (fun (u15 : ac_U) (r15 : Int32) h15 => h15))))) h))
theorem ql_X9_readOne_51_d6_26 (u0 : ac_U) (p0 : Int32) (u : ac_U) (h : ac_Fl u0 u) : ac_Fl u0 (K_X9_readOne_51_d6_26 u0 p0 u).1 := by
  unfold K_X9_readOne_51_d6_26
  exact (fl_bd (h.tr (ql_X10_fail_1 u (1 : Int32)) (by decide)) (fun (u16 : ac_U) (r16 : Int32) h16 => h16))
theorem ql_X9_readOne_51_d6 (u0 : ac_U) (p0 : Int32) : ac_Fl u0 (f_X9_readOne_51_d6 u0 p0).1 := by
  unfold f_X9_readOne_51_d6
  exact (fl_if (ql_X9_readOne_51_d6_35 u0 p0 u0 (u0.1 1 6) ac_Fl.rf) (fl_if (ql_X9_readOne_51_d6_26 u0 p0 u0 ac_Fl.rf) (fl_if (ql_X9_readOne_51_d6_35 u0 p0 u0 (u0.1 1 6) ac_Fl.rf) (ql_X9_readOne_51_d6_26 u0 p0 u0 ac_Fl.rf))))
theorem ql_X9_readBoth_51_d6_64 (u0 : ac_U) (p0 : Int32) (u : ac_U) (h : ac_Fl u0 u) : ac_Fl u0 (K_X9_readBoth_51_d6_64 u0 p0 u).1 := by
  unfold K_X9_readBoth_51_d6_64
  exact h
theorem ql_X9_readBoth_51_d6_12_b (u0 : ac_U) (p0 : Int32) (B12 : ac_U → Int32 → ac_U × Int32) (hB12 : ∀ (u : ac_U) (x2 : Int32), ac_Fl u0 u → ac_Fl u0 (B12 u x2).1) (u : ac_U) (x2 : Int32) (h : ac_Fl u0 u) : ac_Fl u0 (K_X9_readBoth_51_d6_12_b B12 u0 p0 u x2).1 := by
  unfold K_X9_readBoth_51_d6_12_b
  exact (fl_if (ql_X9_readBoth_51_d6_64 u0 p0 u h) (fl_if (ql_X9_readBoth_51_d6_64 u0 p0 u h) (fl_cv (h.tr (ql_X10_readNext_1 u) (by decide)) (fun (u4 : ac_U) h4 => (fl_bd (h4.tr (ql_X9_readOne_51_d6 u4 p0) (by decide)) (fun (u5 : ac_U) (r5 : Int32) h5 => (fl_if (fl_cv (h5.tr (ql_X8_add_47 u5 (115 : Int32) (0 : Int32) (0 : Int32)) (by decide)) (fun (u7 : ac_U) h7 => (fl_vl (fun (v8 : Int32) => (hB12 u7 v8 h7))))) h5)))))))
theorem ql_X9_readBoth_51_d6_12 (u0 : ac_U) (p0 : Int32) : ∀ n : Nat, ∀ (u : ac_U) (x2 : Int32), ac_Fl u0 u → ac_Fl u0 (K_X9_readBoth_51_d6_12 u0 p0 n u x2).1
  | 0 => fun u _ h => h
  | n + 1 => fun u x2 h => ql_X9_readBoth_51_d6_12_b u0 p0 (K_X9_readBoth_51_d6_12 u0 p0 n) (ql_X9_readBoth_51_d6_12 u0 p0 n) u x2 h
theorem ql_X9_readBoth_51_d6 (u0 : ac_U) (p0 : Int32) : ac_Fl u0 (f_X9_readBoth_51_d6 u0 p0).1 := by
  unfold f_X9_readBoth_51_d6
  exact (fl_bd (ac_Fl.rf.tr (ql_X9_readOne_51_d6 u0 p0) (by decide)) (fun (u9 : ac_U) (r9 : Int32) h9 => (fl_if (ql_X9_readBoth_51_d6_12 u0 p0 22 u9 (0 : Int32) h9) h9)))
theorem ql_X9_readCond_51_d6_64 (u0 : ac_U) (p0 : Int32) (u : ac_U) (h : ac_Fl u0 u) : ac_Fl u0 (K_X9_readCond_51_d6_64 u0 p0 u).1 := by
  unfold K_X9_readCond_51_d6_64
  exact h
theorem ql_X9_readCond_51_d6_12_b (u0 : ac_U) (p0 : Int32) (B12 : ac_U → Int32 → ac_U × Int32) (hB12 : ∀ (u : ac_U) (x2 : Int32), ac_Fl u0 u → ac_Fl u0 (B12 u x2).1) (u : ac_U) (x2 : Int32) (h : ac_Fl u0 u) : ac_Fl u0 (K_X9_readCond_51_d6_12_b B12 u0 p0 u x2).1 := by
  unfold K_X9_readCond_51_d6_12_b
  exact (fl_if (ql_X9_readCond_51_d6_64 u0 p0 u h) (fl_if (ql_X9_readCond_51_d6_64 u0 p0 u h) (fl_cv (h.tr (ql_X10_readNext_1 u) (by decide)) (fun (u4 : ac_U) h4 => (fl_bd (h4.tr (ql_X9_readBoth_51_d6 u4 p0) (by decide)) (fun (u5 : ac_U) (r5 : Int32) h5 => (fl_if (fl_cv (h5.tr (ql_X8_add_47 u5 (114 : Int32) (0 : Int32) (0 : Int32)) (by decide)) (fun (u7 : ac_U) h7 => (fl_vl (fun (v8 : Int32) => (hB12 u7 v8 h7))))) h5)))))))
theorem ql_X9_readCond_51_d6_12 (u0 : ac_U) (p0 : Int32) : ∀ n : Nat, ∀ (u : ac_U) (x2 : Int32), ac_Fl u0 u → ac_Fl u0 (K_X9_readCond_51_d6_12 u0 p0 n u x2).1
  | 0 => fun u _ h => h
  | n + 1 => fun u x2 h => ql_X9_readCond_51_d6_12_b u0 p0 (K_X9_readCond_51_d6_12 u0 p0 n) (ql_X9_readCond_51_d6_12 u0 p0 n) u x2 h
theorem ql_X9_readCond_51_d6 (u0 : ac_U) (p0 : Int32) : ac_Fl u0 (f_X9_readCond_51_d6 u0 p0).1 := by
  unfold f_X9_readCond_51_d6
  exact (fl_bd (ac_Fl.rf.tr (ql_X9_readBoth_51_d6 u0 p0) (by decide)) (fun (u9 : ac_U) (r9 : Int32) h9 => (fl_if (ql_X9_readCond_51_d6_12 u0 p0 22 u9 (0 : Int32) h9) h9)))
theorem ql_X9_readBracket_51_d5 (u0 : ac_U) (p0 : Int32) : ac_Fl u0 (f_X9_readBracket_51_d5 u0 p0).1 := by
  unfold f_X9_readBracket_51_d5
  exact (fl_cv (ac_Fl.rf.tr (ql_X10_readNext_1 u0) (by decide)) (fun (u1 : ac_U) h1 => (fl_vl (fun (v2 : Int32) => (fl_bd (h1.tr (ql_X9_readCond_51_d6 u1 v2) (by decide)) (fun (u3 : ac_U) (r3 : Int32) h3 => (fl_if (fl_if (fl_cv (h3.tr (ql_X10_readNext_1 u3) (by decide)) (fun (u7 : ac_U) h7 => h7)) (fl_bd (h3.tr (ql_X10_fail_1 u3 (1 : Int32)) (by decide)) (fun (u8 : ac_U) (r8 : Int32) h8 => h8))) h3)))))))
theorem ql_X9_readNot_51_d5 (u0 : ac_U) (p0 : Int32) : ac_Fl u0 (f_X9_readNot_51_d5 u0 p0).1 := by
  unfold f_X9_readNot_51_d5
  exact (fl_cv (ac_Fl.rf.tr (ql_X10_readNext_1 u0) (by decide)) (fun (u1 : ac_U) h1 => (fl_vl (fun (v2 : Int32) => (fl_bd (h1.tr (ql_X9_readOne_51_d6 u1 v2) (by decide)) (fun (u3 : ac_U) (r3 : Int32) h3 => (fl_if (fl_cv (h3.tr (ql_X8_add_47 u3 (116 : Int32) (0 : Int32) (0 : Int32)) (by decide)) (fun (u5 : ac_U) h5 => h5)) h3)))))))
theorem ql_X9_readOne_51_d5_53 (u0 : ac_U) (p0 : Int32) (u : ac_U) (h : ac_Fl u0 u) : ac_Fl u0 (K_X9_readOne_51_d5_53 u0 p0 u).1 := by
  unfold K_X9_readOne_51_d5_53
  exact (fl_bd (h.tr (ql_X10_fail_1 u (4 : Int32)) (by decide)) (fun (u1 : ac_U) (r1 : Int32) h1 => h1))
theorem ql_X9_readOne_51_d5_35 (u0 : ac_U) (p0 : Int32) (u : ac_U) (x2 : Int32) (h : ac_Fl u0 u) : ac_Fl u0 (K_X9_readOne_51_d5_35 u0 p0 u x2).1 := by
  unfold K_X9_readOne_51_d5_35
  exact (fl_if (ql_X9_readOne_51_d5_53 u0 p0 u h) (fl_if (fl_vl (fun (v6 : Int32) => (fl_if (fl_if (fl_if (fl_if (fl_bd ((fl_I h rfl).tr (ql_X9_readStatus_51 (pI u 47 4 v6) x2) (by decide)) (fun (u11 : ac_U) (r11 : Int32) h11 => h11)) (fl_bd ((fl_I h rfl).tr (ql_X9_readCompare_51 (pI u 47 4 v6) x2) (by decide)) (fun (u12 : ac_U) (r12 : Int32) h12 => h12))) (fl_bd ((fl_I h rfl).tr (ql_X9_readOf_51 (pI u 47 4 v6)) (by decide)) (fun (u13 : ac_U) (r13 : Int32) h13 => h13))) (fl_bd ((fl_I h rfl).tr (ql_X9_readNot_51_d5 (pI u 47 4 v6) p0) (by decide)) (fun (u14 : ac_U) (r14 : Int32) h14 => h14))) (fl_bd ((fl_I h rfl).tr (ql_X9_readBracket_51_d5 (pI u 47 4 v6) p0) (by decide)) (fun (u15 : ac_U) (r15 : Int32) h15 => h15))))) h))
theorem ql_X9_readOne_51_d5_26 (u0 : ac_U) (p0 : Int32) (u : ac_U) (h : ac_Fl u0 u) : ac_Fl u0 (K_X9_readOne_51_d5_26 u0 p0 u).1 := by
  unfold K_X9_readOne_51_d5_26
  exact (fl_bd (h.tr (ql_X10_fail_1 u (1 : Int32)) (by decide)) (fun (u16 : ac_U) (r16 : Int32) h16 => h16))
theorem ql_X9_readOne_51_d5 (u0 : ac_U) (p0 : Int32) : ac_Fl u0 (f_X9_readOne_51_d5 u0 p0).1 := by
  unfold f_X9_readOne_51_d5
  exact (fl_if (ql_X9_readOne_51_d5_35 u0 p0 u0 (u0.1 1 6) ac_Fl.rf) (fl_if (ql_X9_readOne_51_d5_26 u0 p0 u0 ac_Fl.rf) (fl_if (ql_X9_readOne_51_d5_35 u0 p0 u0 (u0.1 1 6) ac_Fl.rf) (ql_X9_readOne_51_d5_26 u0 p0 u0 ac_Fl.rf))))
theorem ql_X9_readBoth_51_d5_64 (u0 : ac_U) (p0 : Int32) (u : ac_U) (h : ac_Fl u0 u) : ac_Fl u0 (K_X9_readBoth_51_d5_64 u0 p0 u).1 := by
  unfold K_X9_readBoth_51_d5_64
  exact h
theorem ql_X9_readBoth_51_d5_12_b (u0 : ac_U) (p0 : Int32) (B12 : ac_U → Int32 → ac_U × Int32) (hB12 : ∀ (u : ac_U) (x2 : Int32), ac_Fl u0 u → ac_Fl u0 (B12 u x2).1) (u : ac_U) (x2 : Int32) (h : ac_Fl u0 u) : ac_Fl u0 (K_X9_readBoth_51_d5_12_b B12 u0 p0 u x2).1 := by
  unfold K_X9_readBoth_51_d5_12_b
  exact (fl_if (ql_X9_readBoth_51_d5_64 u0 p0 u h) (fl_if (ql_X9_readBoth_51_d5_64 u0 p0 u h) (fl_cv (h.tr (ql_X10_readNext_1 u) (by decide)) (fun (u4 : ac_U) h4 => (fl_bd (h4.tr (ql_X9_readOne_51_d5 u4 p0) (by decide)) (fun (u5 : ac_U) (r5 : Int32) h5 => (fl_if (fl_cv (h5.tr (ql_X8_add_47 u5 (115 : Int32) (0 : Int32) (0 : Int32)) (by decide)) (fun (u7 : ac_U) h7 => (fl_vl (fun (v8 : Int32) => (hB12 u7 v8 h7))))) h5)))))))
theorem ql_X9_readBoth_51_d5_12 (u0 : ac_U) (p0 : Int32) : ∀ n : Nat, ∀ (u : ac_U) (x2 : Int32), ac_Fl u0 u → ac_Fl u0 (K_X9_readBoth_51_d5_12 u0 p0 n u x2).1
  | 0 => fun u _ h => h
  | n + 1 => fun u x2 h => ql_X9_readBoth_51_d5_12_b u0 p0 (K_X9_readBoth_51_d5_12 u0 p0 n) (ql_X9_readBoth_51_d5_12 u0 p0 n) u x2 h
theorem ql_X9_readBoth_51_d5 (u0 : ac_U) (p0 : Int32) : ac_Fl u0 (f_X9_readBoth_51_d5 u0 p0).1 := by
  unfold f_X9_readBoth_51_d5
  exact (fl_bd (ac_Fl.rf.tr (ql_X9_readOne_51_d5 u0 p0) (by decide)) (fun (u9 : ac_U) (r9 : Int32) h9 => (fl_if (ql_X9_readBoth_51_d5_12 u0 p0 22 u9 (0 : Int32) h9) h9)))
theorem ql_X9_readCond_51_d5_64 (u0 : ac_U) (p0 : Int32) (u : ac_U) (h : ac_Fl u0 u) : ac_Fl u0 (K_X9_readCond_51_d5_64 u0 p0 u).1 := by
  unfold K_X9_readCond_51_d5_64
  exact h
theorem ql_X9_readCond_51_d5_12_b (u0 : ac_U) (p0 : Int32) (B12 : ac_U → Int32 → ac_U × Int32) (hB12 : ∀ (u : ac_U) (x2 : Int32), ac_Fl u0 u → ac_Fl u0 (B12 u x2).1) (u : ac_U) (x2 : Int32) (h : ac_Fl u0 u) : ac_Fl u0 (K_X9_readCond_51_d5_12_b B12 u0 p0 u x2).1 := by
  unfold K_X9_readCond_51_d5_12_b
  exact (fl_if (ql_X9_readCond_51_d5_64 u0 p0 u h) (fl_if (ql_X9_readCond_51_d5_64 u0 p0 u h) (fl_cv (h.tr (ql_X10_readNext_1 u) (by decide)) (fun (u4 : ac_U) h4 => (fl_bd (h4.tr (ql_X9_readBoth_51_d5 u4 p0) (by decide)) (fun (u5 : ac_U) (r5 : Int32) h5 => (fl_if (fl_cv (h5.tr (ql_X8_add_47 u5 (114 : Int32) (0 : Int32) (0 : Int32)) (by decide)) (fun (u7 : ac_U) h7 => (fl_vl (fun (v8 : Int32) => (hB12 u7 v8 h7))))) h5)))))))
theorem ql_X9_readCond_51_d5_12 (u0 : ac_U) (p0 : Int32) : ∀ n : Nat, ∀ (u : ac_U) (x2 : Int32), ac_Fl u0 u → ac_Fl u0 (K_X9_readCond_51_d5_12 u0 p0 n u x2).1
  | 0 => fun u _ h => h
  | n + 1 => fun u x2 h => ql_X9_readCond_51_d5_12_b u0 p0 (K_X9_readCond_51_d5_12 u0 p0 n) (ql_X9_readCond_51_d5_12 u0 p0 n) u x2 h
theorem ql_X9_readCond_51_d5 (u0 : ac_U) (p0 : Int32) : ac_Fl u0 (f_X9_readCond_51_d5 u0 p0).1 := by
  unfold f_X9_readCond_51_d5
  exact (fl_bd (ac_Fl.rf.tr (ql_X9_readBoth_51_d5 u0 p0) (by decide)) (fun (u9 : ac_U) (r9 : Int32) h9 => (fl_if (ql_X9_readCond_51_d5_12 u0 p0 22 u9 (0 : Int32) h9) h9)))
theorem ql_X9_readBracket_51_d4 (u0 : ac_U) (p0 : Int32) : ac_Fl u0 (f_X9_readBracket_51_d4 u0 p0).1 := by
  unfold f_X9_readBracket_51_d4
  exact (fl_cv (ac_Fl.rf.tr (ql_X10_readNext_1 u0) (by decide)) (fun (u1 : ac_U) h1 => (fl_vl (fun (v2 : Int32) => (fl_bd (h1.tr (ql_X9_readCond_51_d5 u1 v2) (by decide)) (fun (u3 : ac_U) (r3 : Int32) h3 => (fl_if (fl_if (fl_cv (h3.tr (ql_X10_readNext_1 u3) (by decide)) (fun (u7 : ac_U) h7 => h7)) (fl_bd (h3.tr (ql_X10_fail_1 u3 (1 : Int32)) (by decide)) (fun (u8 : ac_U) (r8 : Int32) h8 => h8))) h3)))))))
theorem ql_X9_readNot_51_d4 (u0 : ac_U) (p0 : Int32) : ac_Fl u0 (f_X9_readNot_51_d4 u0 p0).1 := by
  unfold f_X9_readNot_51_d4
  exact (fl_cv (ac_Fl.rf.tr (ql_X10_readNext_1 u0) (by decide)) (fun (u1 : ac_U) h1 => (fl_vl (fun (v2 : Int32) => (fl_bd (h1.tr (ql_X9_readOne_51_d5 u1 v2) (by decide)) (fun (u3 : ac_U) (r3 : Int32) h3 => (fl_if (fl_cv (h3.tr (ql_X8_add_47 u3 (116 : Int32) (0 : Int32) (0 : Int32)) (by decide)) (fun (u5 : ac_U) h5 => h5)) h3)))))))
theorem ql_X9_readOne_51_d4_53 (u0 : ac_U) (p0 : Int32) (u : ac_U) (h : ac_Fl u0 u) : ac_Fl u0 (K_X9_readOne_51_d4_53 u0 p0 u).1 := by
  unfold K_X9_readOne_51_d4_53
  exact (fl_bd (h.tr (ql_X10_fail_1 u (4 : Int32)) (by decide)) (fun (u1 : ac_U) (r1 : Int32) h1 => h1))
theorem ql_X9_readOne_51_d4_35 (u0 : ac_U) (p0 : Int32) (u : ac_U) (x2 : Int32) (h : ac_Fl u0 u) : ac_Fl u0 (K_X9_readOne_51_d4_35 u0 p0 u x2).1 := by
  unfold K_X9_readOne_51_d4_35
  exact (fl_if (ql_X9_readOne_51_d4_53 u0 p0 u h) (fl_if (fl_vl (fun (v6 : Int32) => (fl_if (fl_if (fl_if (fl_if (fl_bd ((fl_I h rfl).tr (ql_X9_readStatus_51 (pI u 47 4 v6) x2) (by decide)) (fun (u11 : ac_U) (r11 : Int32) h11 => h11)) (fl_bd ((fl_I h rfl).tr (ql_X9_readCompare_51 (pI u 47 4 v6) x2) (by decide)) (fun (u12 : ac_U) (r12 : Int32) h12 => h12))) (fl_bd ((fl_I h rfl).tr (ql_X9_readOf_51 (pI u 47 4 v6)) (by decide)) (fun (u13 : ac_U) (r13 : Int32) h13 => h13))) (fl_bd ((fl_I h rfl).tr (ql_X9_readNot_51_d4 (pI u 47 4 v6) p0) (by decide)) (fun (u14 : ac_U) (r14 : Int32) h14 => h14))) (fl_bd ((fl_I h rfl).tr (ql_X9_readBracket_51_d4 (pI u 47 4 v6) p0) (by decide)) (fun (u15 : ac_U) (r15 : Int32) h15 => h15))))) h))
theorem ql_X9_readOne_51_d4_26 (u0 : ac_U) (p0 : Int32) (u : ac_U) (h : ac_Fl u0 u) : ac_Fl u0 (K_X9_readOne_51_d4_26 u0 p0 u).1 := by
  unfold K_X9_readOne_51_d4_26
  exact (fl_bd (h.tr (ql_X10_fail_1 u (1 : Int32)) (by decide)) (fun (u16 : ac_U) (r16 : Int32) h16 => h16))
theorem ql_X9_readOne_51_d4 (u0 : ac_U) (p0 : Int32) : ac_Fl u0 (f_X9_readOne_51_d4 u0 p0).1 := by
  unfold f_X9_readOne_51_d4
  exact (fl_if (ql_X9_readOne_51_d4_35 u0 p0 u0 (u0.1 1 6) ac_Fl.rf) (fl_if (ql_X9_readOne_51_d4_26 u0 p0 u0 ac_Fl.rf) (fl_if (ql_X9_readOne_51_d4_35 u0 p0 u0 (u0.1 1 6) ac_Fl.rf) (ql_X9_readOne_51_d4_26 u0 p0 u0 ac_Fl.rf))))
theorem ql_X9_readBoth_51_d4_64 (u0 : ac_U) (p0 : Int32) (u : ac_U) (h : ac_Fl u0 u) : ac_Fl u0 (K_X9_readBoth_51_d4_64 u0 p0 u).1 := by
  unfold K_X9_readBoth_51_d4_64
  exact h
theorem ql_X9_readBoth_51_d4_12_b (u0 : ac_U) (p0 : Int32) (B12 : ac_U → Int32 → ac_U × Int32) (hB12 : ∀ (u : ac_U) (x2 : Int32), ac_Fl u0 u → ac_Fl u0 (B12 u x2).1) (u : ac_U) (x2 : Int32) (h : ac_Fl u0 u) : ac_Fl u0 (K_X9_readBoth_51_d4_12_b B12 u0 p0 u x2).1 := by
  unfold K_X9_readBoth_51_d4_12_b
  exact (fl_if (ql_X9_readBoth_51_d4_64 u0 p0 u h) (fl_if (ql_X9_readBoth_51_d4_64 u0 p0 u h) (fl_cv (h.tr (ql_X10_readNext_1 u) (by decide)) (fun (u4 : ac_U) h4 => (fl_bd (h4.tr (ql_X9_readOne_51_d4 u4 p0) (by decide)) (fun (u5 : ac_U) (r5 : Int32) h5 => (fl_if (fl_cv (h5.tr (ql_X8_add_47 u5 (115 : Int32) (0 : Int32) (0 : Int32)) (by decide)) (fun (u7 : ac_U) h7 => (fl_vl (fun (v8 : Int32) => (hB12 u7 v8 h7))))) h5)))))))
theorem ql_X9_readBoth_51_d4_12 (u0 : ac_U) (p0 : Int32) : ∀ n : Nat, ∀ (u : ac_U) (x2 : Int32), ac_Fl u0 u → ac_Fl u0 (K_X9_readBoth_51_d4_12 u0 p0 n u x2).1
  | 0 => fun u _ h => h
  | n + 1 => fun u x2 h => ql_X9_readBoth_51_d4_12_b u0 p0 (K_X9_readBoth_51_d4_12 u0 p0 n) (ql_X9_readBoth_51_d4_12 u0 p0 n) u x2 h
theorem ql_X9_readBoth_51_d4 (u0 : ac_U) (p0 : Int32) : ac_Fl u0 (f_X9_readBoth_51_d4 u0 p0).1 := by
  unfold f_X9_readBoth_51_d4
  exact (fl_bd (ac_Fl.rf.tr (ql_X9_readOne_51_d4 u0 p0) (by decide)) (fun (u9 : ac_U) (r9 : Int32) h9 => (fl_if (ql_X9_readBoth_51_d4_12 u0 p0 22 u9 (0 : Int32) h9) h9)))
theorem ql_X9_readCond_51_d4_64 (u0 : ac_U) (p0 : Int32) (u : ac_U) (h : ac_Fl u0 u) : ac_Fl u0 (K_X9_readCond_51_d4_64 u0 p0 u).1 := by
  unfold K_X9_readCond_51_d4_64
  exact h
theorem ql_X9_readCond_51_d4_12_b (u0 : ac_U) (p0 : Int32) (B12 : ac_U → Int32 → ac_U × Int32) (hB12 : ∀ (u : ac_U) (x2 : Int32), ac_Fl u0 u → ac_Fl u0 (B12 u x2).1) (u : ac_U) (x2 : Int32) (h : ac_Fl u0 u) : ac_Fl u0 (K_X9_readCond_51_d4_12_b B12 u0 p0 u x2).1 := by
  unfold K_X9_readCond_51_d4_12_b
  exact (fl_if (ql_X9_readCond_51_d4_64 u0 p0 u h) (fl_if (ql_X9_readCond_51_d4_64 u0 p0 u h) (fl_cv (h.tr (ql_X10_readNext_1 u) (by decide)) (fun (u4 : ac_U) h4 => (fl_bd (h4.tr (ql_X9_readBoth_51_d4 u4 p0) (by decide)) (fun (u5 : ac_U) (r5 : Int32) h5 => (fl_if (fl_cv (h5.tr (ql_X8_add_47 u5 (114 : Int32) (0 : Int32) (0 : Int32)) (by decide)) (fun (u7 : ac_U) h7 => (fl_vl (fun (v8 : Int32) => (hB12 u7 v8 h7))))) h5)))))))
theorem ql_X9_readCond_51_d4_12 (u0 : ac_U) (p0 : Int32) : ∀ n : Nat, ∀ (u : ac_U) (x2 : Int32), ac_Fl u0 u → ac_Fl u0 (K_X9_readCond_51_d4_12 u0 p0 n u x2).1
  | 0 => fun u _ h => h
  | n + 1 => fun u x2 h => ql_X9_readCond_51_d4_12_b u0 p0 (K_X9_readCond_51_d4_12 u0 p0 n) (ql_X9_readCond_51_d4_12 u0 p0 n) u x2 h
theorem ql_X9_readCond_51_d4 (u0 : ac_U) (p0 : Int32) : ac_Fl u0 (f_X9_readCond_51_d4 u0 p0).1 := by
  unfold f_X9_readCond_51_d4
  exact (fl_bd (ac_Fl.rf.tr (ql_X9_readBoth_51_d4 u0 p0) (by decide)) (fun (u9 : ac_U) (r9 : Int32) h9 => (fl_if (ql_X9_readCond_51_d4_12 u0 p0 22 u9 (0 : Int32) h9) h9)))
theorem ql_X9_readBracket_51_d3 (u0 : ac_U) (p0 : Int32) : ac_Fl u0 (f_X9_readBracket_51_d3 u0 p0).1 := by
  unfold f_X9_readBracket_51_d3
  exact (fl_cv (ac_Fl.rf.tr (ql_X10_readNext_1 u0) (by decide)) (fun (u1 : ac_U) h1 => (fl_vl (fun (v2 : Int32) => (fl_bd (h1.tr (ql_X9_readCond_51_d4 u1 v2) (by decide)) (fun (u3 : ac_U) (r3 : Int32) h3 => (fl_if (fl_if (fl_cv (h3.tr (ql_X10_readNext_1 u3) (by decide)) (fun (u7 : ac_U) h7 => h7)) (fl_bd (h3.tr (ql_X10_fail_1 u3 (1 : Int32)) (by decide)) (fun (u8 : ac_U) (r8 : Int32) h8 => h8))) h3)))))))
theorem ql_X9_readNot_51_d3 (u0 : ac_U) (p0 : Int32) : ac_Fl u0 (f_X9_readNot_51_d3 u0 p0).1 := by
  unfold f_X9_readNot_51_d3
  exact (fl_cv (ac_Fl.rf.tr (ql_X10_readNext_1 u0) (by decide)) (fun (u1 : ac_U) h1 => (fl_vl (fun (v2 : Int32) => (fl_bd (h1.tr (ql_X9_readOne_51_d4 u1 v2) (by decide)) (fun (u3 : ac_U) (r3 : Int32) h3 => (fl_if (fl_cv (h3.tr (ql_X8_add_47 u3 (116 : Int32) (0 : Int32) (0 : Int32)) (by decide)) (fun (u5 : ac_U) h5 => h5)) h3)))))))
theorem ql_X9_readOne_51_d3_53 (u0 : ac_U) (p0 : Int32) (u : ac_U) (h : ac_Fl u0 u) : ac_Fl u0 (K_X9_readOne_51_d3_53 u0 p0 u).1 := by
  unfold K_X9_readOne_51_d3_53
  exact (fl_bd (h.tr (ql_X10_fail_1 u (4 : Int32)) (by decide)) (fun (u1 : ac_U) (r1 : Int32) h1 => h1))
theorem ql_X9_readOne_51_d3_35 (u0 : ac_U) (p0 : Int32) (u : ac_U) (x2 : Int32) (h : ac_Fl u0 u) : ac_Fl u0 (K_X9_readOne_51_d3_35 u0 p0 u x2).1 := by
  unfold K_X9_readOne_51_d3_35
  exact (fl_if (ql_X9_readOne_51_d3_53 u0 p0 u h) (fl_if (fl_vl (fun (v6 : Int32) => (fl_if (fl_if (fl_if (fl_if (fl_bd ((fl_I h rfl).tr (ql_X9_readStatus_51 (pI u 47 4 v6) x2) (by decide)) (fun (u11 : ac_U) (r11 : Int32) h11 => h11)) (fl_bd ((fl_I h rfl).tr (ql_X9_readCompare_51 (pI u 47 4 v6) x2) (by decide)) (fun (u12 : ac_U) (r12 : Int32) h12 => h12))) (fl_bd ((fl_I h rfl).tr (ql_X9_readOf_51 (pI u 47 4 v6)) (by decide)) (fun (u13 : ac_U) (r13 : Int32) h13 => h13))) (fl_bd ((fl_I h rfl).tr (ql_X9_readNot_51_d3 (pI u 47 4 v6) p0) (by decide)) (fun (u14 : ac_U) (r14 : Int32) h14 => h14))) (fl_bd ((fl_I h rfl).tr (ql_X9_readBracket_51_d3 (pI u 47 4 v6) p0) (by decide)) (fun (u15 : ac_U) (r15 : Int32) h15 => h15))))) h))
theorem ql_X9_readOne_51_d3_26 (u0 : ac_U) (p0 : Int32) (u : ac_U) (h : ac_Fl u0 u) : ac_Fl u0 (K_X9_readOne_51_d3_26 u0 p0 u).1 := by
  unfold K_X9_readOne_51_d3_26
  exact (fl_bd (h.tr (ql_X10_fail_1 u (1 : Int32)) (by decide)) (fun (u16 : ac_U) (r16 : Int32) h16 => h16))
theorem ql_X9_readOne_51_d3 (u0 : ac_U) (p0 : Int32) : ac_Fl u0 (f_X9_readOne_51_d3 u0 p0).1 := by
  unfold f_X9_readOne_51_d3
  exact (fl_if (ql_X9_readOne_51_d3_35 u0 p0 u0 (u0.1 1 6) ac_Fl.rf) (fl_if (ql_X9_readOne_51_d3_26 u0 p0 u0 ac_Fl.rf) (fl_if (ql_X9_readOne_51_d3_35 u0 p0 u0 (u0.1 1 6) ac_Fl.rf) (ql_X9_readOne_51_d3_26 u0 p0 u0 ac_Fl.rf))))
theorem ql_X9_readBoth_51_d3_64 (u0 : ac_U) (p0 : Int32) (u : ac_U) (h : ac_Fl u0 u) : ac_Fl u0 (K_X9_readBoth_51_d3_64 u0 p0 u).1 := by
  unfold K_X9_readBoth_51_d3_64
  exact h
theorem ql_X9_readBoth_51_d3_12_b (u0 : ac_U) (p0 : Int32) (B12 : ac_U → Int32 → ac_U × Int32) (hB12 : ∀ (u : ac_U) (x2 : Int32), ac_Fl u0 u → ac_Fl u0 (B12 u x2).1) (u : ac_U) (x2 : Int32) (h : ac_Fl u0 u) : ac_Fl u0 (K_X9_readBoth_51_d3_12_b B12 u0 p0 u x2).1 := by
  unfold K_X9_readBoth_51_d3_12_b
  exact (fl_if (ql_X9_readBoth_51_d3_64 u0 p0 u h) (fl_if (ql_X9_readBoth_51_d3_64 u0 p0 u h) (fl_cv (h.tr (ql_X10_readNext_1 u) (by decide)) (fun (u4 : ac_U) h4 => (fl_bd (h4.tr (ql_X9_readOne_51_d3 u4 p0) (by decide)) (fun (u5 : ac_U) (r5 : Int32) h5 => (fl_if (fl_cv (h5.tr (ql_X8_add_47 u5 (115 : Int32) (0 : Int32) (0 : Int32)) (by decide)) (fun (u7 : ac_U) h7 => (fl_vl (fun (v8 : Int32) => (hB12 u7 v8 h7))))) h5)))))))
theorem ql_X9_readBoth_51_d3_12 (u0 : ac_U) (p0 : Int32) : ∀ n : Nat, ∀ (u : ac_U) (x2 : Int32), ac_Fl u0 u → ac_Fl u0 (K_X9_readBoth_51_d3_12 u0 p0 n u x2).1
  | 0 => fun u _ h => h
  | n + 1 => fun u x2 h => ql_X9_readBoth_51_d3_12_b u0 p0 (K_X9_readBoth_51_d3_12 u0 p0 n) (ql_X9_readBoth_51_d3_12 u0 p0 n) u x2 h
theorem ql_X9_readBoth_51_d3 (u0 : ac_U) (p0 : Int32) : ac_Fl u0 (f_X9_readBoth_51_d3 u0 p0).1 := by
  unfold f_X9_readBoth_51_d3
  exact (fl_bd (ac_Fl.rf.tr (ql_X9_readOne_51_d3 u0 p0) (by decide)) (fun (u9 : ac_U) (r9 : Int32) h9 => (fl_if (ql_X9_readBoth_51_d3_12 u0 p0 22 u9 (0 : Int32) h9) h9)))
theorem ql_X9_readCond_51_d3_64 (u0 : ac_U) (p0 : Int32) (u : ac_U) (h : ac_Fl u0 u) : ac_Fl u0 (K_X9_readCond_51_d3_64 u0 p0 u).1 := by
  unfold K_X9_readCond_51_d3_64
  exact h
theorem ql_X9_readCond_51_d3_12_b (u0 : ac_U) (p0 : Int32) (B12 : ac_U → Int32 → ac_U × Int32) (hB12 : ∀ (u : ac_U) (x2 : Int32), ac_Fl u0 u → ac_Fl u0 (B12 u x2).1) (u : ac_U) (x2 : Int32) (h : ac_Fl u0 u) : ac_Fl u0 (K_X9_readCond_51_d3_12_b B12 u0 p0 u x2).1 := by
  unfold K_X9_readCond_51_d3_12_b
  exact (fl_if (ql_X9_readCond_51_d3_64 u0 p0 u h) (fl_if (ql_X9_readCond_51_d3_64 u0 p0 u h) (fl_cv (h.tr (ql_X10_readNext_1 u) (by decide)) (fun (u4 : ac_U) h4 => (fl_bd (h4.tr (ql_X9_readBoth_51_d3 u4 p0) (by decide)) (fun (u5 : ac_U) (r5 : Int32) h5 => (fl_if (fl_cv (h5.tr (ql_X8_add_47 u5 (114 : Int32) (0 : Int32) (0 : Int32)) (by decide)) (fun (u7 : ac_U) h7 => (fl_vl (fun (v8 : Int32) => (hB12 u7 v8 h7))))) h5)))))))
theorem ql_X9_readCond_51_d3_12 (u0 : ac_U) (p0 : Int32) : ∀ n : Nat, ∀ (u : ac_U) (x2 : Int32), ac_Fl u0 u → ac_Fl u0 (K_X9_readCond_51_d3_12 u0 p0 n u x2).1
  | 0 => fun u _ h => h
  | n + 1 => fun u x2 h => ql_X9_readCond_51_d3_12_b u0 p0 (K_X9_readCond_51_d3_12 u0 p0 n) (ql_X9_readCond_51_d3_12 u0 p0 n) u x2 h
theorem ql_X9_readCond_51_d3 (u0 : ac_U) (p0 : Int32) : ac_Fl u0 (f_X9_readCond_51_d3 u0 p0).1 := by
  unfold f_X9_readCond_51_d3
  exact (fl_bd (ac_Fl.rf.tr (ql_X9_readBoth_51_d3 u0 p0) (by decide)) (fun (u9 : ac_U) (r9 : Int32) h9 => (fl_if (ql_X9_readCond_51_d3_12 u0 p0 22 u9 (0 : Int32) h9) h9)))
theorem ql_X9_readBracket_51_d2 (u0 : ac_U) (p0 : Int32) : ac_Fl u0 (f_X9_readBracket_51_d2 u0 p0).1 := by
  unfold f_X9_readBracket_51_d2
  exact (fl_cv (ac_Fl.rf.tr (ql_X10_readNext_1 u0) (by decide)) (fun (u1 : ac_U) h1 => (fl_vl (fun (v2 : Int32) => (fl_bd (h1.tr (ql_X9_readCond_51_d3 u1 v2) (by decide)) (fun (u3 : ac_U) (r3 : Int32) h3 => (fl_if (fl_if (fl_cv (h3.tr (ql_X10_readNext_1 u3) (by decide)) (fun (u7 : ac_U) h7 => h7)) (fl_bd (h3.tr (ql_X10_fail_1 u3 (1 : Int32)) (by decide)) (fun (u8 : ac_U) (r8 : Int32) h8 => h8))) h3)))))))
theorem ql_X9_readNot_51_d2 (u0 : ac_U) (p0 : Int32) : ac_Fl u0 (f_X9_readNot_51_d2 u0 p0).1 := by
  unfold f_X9_readNot_51_d2
  exact (fl_cv (ac_Fl.rf.tr (ql_X10_readNext_1 u0) (by decide)) (fun (u1 : ac_U) h1 => (fl_vl (fun (v2 : Int32) => (fl_bd (h1.tr (ql_X9_readOne_51_d3 u1 v2) (by decide)) (fun (u3 : ac_U) (r3 : Int32) h3 => (fl_if (fl_cv (h3.tr (ql_X8_add_47 u3 (116 : Int32) (0 : Int32) (0 : Int32)) (by decide)) (fun (u5 : ac_U) h5 => h5)) h3)))))))
theorem ql_X9_readOne_51_d2_53 (u0 : ac_U) (p0 : Int32) (u : ac_U) (h : ac_Fl u0 u) : ac_Fl u0 (K_X9_readOne_51_d2_53 u0 p0 u).1 := by
  unfold K_X9_readOne_51_d2_53
  exact (fl_bd (h.tr (ql_X10_fail_1 u (4 : Int32)) (by decide)) (fun (u1 : ac_U) (r1 : Int32) h1 => h1))
theorem ql_X9_readOne_51_d2_35 (u0 : ac_U) (p0 : Int32) (u : ac_U) (x2 : Int32) (h : ac_Fl u0 u) : ac_Fl u0 (K_X9_readOne_51_d2_35 u0 p0 u x2).1 := by
  unfold K_X9_readOne_51_d2_35
  exact (fl_if (ql_X9_readOne_51_d2_53 u0 p0 u h) (fl_if (fl_vl (fun (v6 : Int32) => (fl_if (fl_if (fl_if (fl_if (fl_bd ((fl_I h rfl).tr (ql_X9_readStatus_51 (pI u 47 4 v6) x2) (by decide)) (fun (u11 : ac_U) (r11 : Int32) h11 => h11)) (fl_bd ((fl_I h rfl).tr (ql_X9_readCompare_51 (pI u 47 4 v6) x2) (by decide)) (fun (u12 : ac_U) (r12 : Int32) h12 => h12))) (fl_bd ((fl_I h rfl).tr (ql_X9_readOf_51 (pI u 47 4 v6)) (by decide)) (fun (u13 : ac_U) (r13 : Int32) h13 => h13))) (fl_bd ((fl_I h rfl).tr (ql_X9_readNot_51_d2 (pI u 47 4 v6) p0) (by decide)) (fun (u14 : ac_U) (r14 : Int32) h14 => h14))) (fl_bd ((fl_I h rfl).tr (ql_X9_readBracket_51_d2 (pI u 47 4 v6) p0) (by decide)) (fun (u15 : ac_U) (r15 : Int32) h15 => h15))))) h))
theorem ql_X9_readOne_51_d2_26 (u0 : ac_U) (p0 : Int32) (u : ac_U) (h : ac_Fl u0 u) : ac_Fl u0 (K_X9_readOne_51_d2_26 u0 p0 u).1 := by
  unfold K_X9_readOne_51_d2_26
  exact (fl_bd (h.tr (ql_X10_fail_1 u (1 : Int32)) (by decide)) (fun (u16 : ac_U) (r16 : Int32) h16 => h16))
theorem ql_X9_readOne_51_d2 (u0 : ac_U) (p0 : Int32) : ac_Fl u0 (f_X9_readOne_51_d2 u0 p0).1 := by
  unfold f_X9_readOne_51_d2
  exact (fl_if (ql_X9_readOne_51_d2_35 u0 p0 u0 (u0.1 1 6) ac_Fl.rf) (fl_if (ql_X9_readOne_51_d2_26 u0 p0 u0 ac_Fl.rf) (fl_if (ql_X9_readOne_51_d2_35 u0 p0 u0 (u0.1 1 6) ac_Fl.rf) (ql_X9_readOne_51_d2_26 u0 p0 u0 ac_Fl.rf))))
theorem ql_X9_readBoth_51_d2_64 (u0 : ac_U) (p0 : Int32) (u : ac_U) (h : ac_Fl u0 u) : ac_Fl u0 (K_X9_readBoth_51_d2_64 u0 p0 u).1 := by
  unfold K_X9_readBoth_51_d2_64
  exact h
theorem ql_X9_readBoth_51_d2_12_b (u0 : ac_U) (p0 : Int32) (B12 : ac_U → Int32 → ac_U × Int32) (hB12 : ∀ (u : ac_U) (x2 : Int32), ac_Fl u0 u → ac_Fl u0 (B12 u x2).1) (u : ac_U) (x2 : Int32) (h : ac_Fl u0 u) : ac_Fl u0 (K_X9_readBoth_51_d2_12_b B12 u0 p0 u x2).1 := by
  unfold K_X9_readBoth_51_d2_12_b
  exact (fl_if (ql_X9_readBoth_51_d2_64 u0 p0 u h) (fl_if (ql_X9_readBoth_51_d2_64 u0 p0 u h) (fl_cv (h.tr (ql_X10_readNext_1 u) (by decide)) (fun (u4 : ac_U) h4 => (fl_bd (h4.tr (ql_X9_readOne_51_d2 u4 p0) (by decide)) (fun (u5 : ac_U) (r5 : Int32) h5 => (fl_if (fl_cv (h5.tr (ql_X8_add_47 u5 (115 : Int32) (0 : Int32) (0 : Int32)) (by decide)) (fun (u7 : ac_U) h7 => (fl_vl (fun (v8 : Int32) => (hB12 u7 v8 h7))))) h5)))))))
theorem ql_X9_readBoth_51_d2_12 (u0 : ac_U) (p0 : Int32) : ∀ n : Nat, ∀ (u : ac_U) (x2 : Int32), ac_Fl u0 u → ac_Fl u0 (K_X9_readBoth_51_d2_12 u0 p0 n u x2).1
  | 0 => fun u _ h => h
  | n + 1 => fun u x2 h => ql_X9_readBoth_51_d2_12_b u0 p0 (K_X9_readBoth_51_d2_12 u0 p0 n) (ql_X9_readBoth_51_d2_12 u0 p0 n) u x2 h
theorem ql_X9_readBoth_51_d2 (u0 : ac_U) (p0 : Int32) : ac_Fl u0 (f_X9_readBoth_51_d2 u0 p0).1 := by
  unfold f_X9_readBoth_51_d2
  exact (fl_bd (ac_Fl.rf.tr (ql_X9_readOne_51_d2 u0 p0) (by decide)) (fun (u9 : ac_U) (r9 : Int32) h9 => (fl_if (ql_X9_readBoth_51_d2_12 u0 p0 22 u9 (0 : Int32) h9) h9)))
theorem ql_X9_readCond_51_d2_64 (u0 : ac_U) (p0 : Int32) (u : ac_U) (h : ac_Fl u0 u) : ac_Fl u0 (K_X9_readCond_51_d2_64 u0 p0 u).1 := by
  unfold K_X9_readCond_51_d2_64
  exact h
theorem ql_X9_readCond_51_d2_12_b (u0 : ac_U) (p0 : Int32) (B12 : ac_U → Int32 → ac_U × Int32) (hB12 : ∀ (u : ac_U) (x2 : Int32), ac_Fl u0 u → ac_Fl u0 (B12 u x2).1) (u : ac_U) (x2 : Int32) (h : ac_Fl u0 u) : ac_Fl u0 (K_X9_readCond_51_d2_12_b B12 u0 p0 u x2).1 := by
  unfold K_X9_readCond_51_d2_12_b
  exact (fl_if (ql_X9_readCond_51_d2_64 u0 p0 u h) (fl_if (ql_X9_readCond_51_d2_64 u0 p0 u h) (fl_cv (h.tr (ql_X10_readNext_1 u) (by decide)) (fun (u4 : ac_U) h4 => (fl_bd (h4.tr (ql_X9_readBoth_51_d2 u4 p0) (by decide)) (fun (u5 : ac_U) (r5 : Int32) h5 => (fl_if (fl_cv (h5.tr (ql_X8_add_47 u5 (114 : Int32) (0 : Int32) (0 : Int32)) (by decide)) (fun (u7 : ac_U) h7 => (fl_vl (fun (v8 : Int32) => (hB12 u7 v8 h7))))) h5)))))))
theorem ql_X9_readCond_51_d2_12 (u0 : ac_U) (p0 : Int32) : ∀ n : Nat, ∀ (u : ac_U) (x2 : Int32), ac_Fl u0 u → ac_Fl u0 (K_X9_readCond_51_d2_12 u0 p0 n u x2).1
  | 0 => fun u _ h => h
  | n + 1 => fun u x2 h => ql_X9_readCond_51_d2_12_b u0 p0 (K_X9_readCond_51_d2_12 u0 p0 n) (ql_X9_readCond_51_d2_12 u0 p0 n) u x2 h
theorem ql_X9_readCond_51_d2 (u0 : ac_U) (p0 : Int32) : ac_Fl u0 (f_X9_readCond_51_d2 u0 p0).1 := by
  unfold f_X9_readCond_51_d2
  exact (fl_bd (ac_Fl.rf.tr (ql_X9_readBoth_51_d2 u0 p0) (by decide)) (fun (u9 : ac_U) (r9 : Int32) h9 => (fl_if (ql_X9_readCond_51_d2_12 u0 p0 22 u9 (0 : Int32) h9) h9)))
theorem ql_X9_readBracket_51_d1 (u0 : ac_U) (p0 : Int32) : ac_Fl u0 (f_X9_readBracket_51_d1 u0 p0).1 := by
  unfold f_X9_readBracket_51_d1
  exact (fl_cv (ac_Fl.rf.tr (ql_X10_readNext_1 u0) (by decide)) (fun (u1 : ac_U) h1 => (fl_vl (fun (v2 : Int32) => (fl_bd (h1.tr (ql_X9_readCond_51_d2 u1 v2) (by decide)) (fun (u3 : ac_U) (r3 : Int32) h3 => (fl_if (fl_if (fl_cv (h3.tr (ql_X10_readNext_1 u3) (by decide)) (fun (u7 : ac_U) h7 => h7)) (fl_bd (h3.tr (ql_X10_fail_1 u3 (1 : Int32)) (by decide)) (fun (u8 : ac_U) (r8 : Int32) h8 => h8))) h3)))))))
theorem ql_X9_readNot_51_d1 (u0 : ac_U) (p0 : Int32) : ac_Fl u0 (f_X9_readNot_51_d1 u0 p0).1 := by
  unfold f_X9_readNot_51_d1
  exact (fl_cv (ac_Fl.rf.tr (ql_X10_readNext_1 u0) (by decide)) (fun (u1 : ac_U) h1 => (fl_vl (fun (v2 : Int32) => (fl_bd (h1.tr (ql_X9_readOne_51_d2 u1 v2) (by decide)) (fun (u3 : ac_U) (r3 : Int32) h3 => (fl_if (fl_cv (h3.tr (ql_X8_add_47 u3 (116 : Int32) (0 : Int32) (0 : Int32)) (by decide)) (fun (u5 : ac_U) h5 => h5)) h3)))))))
theorem ql_X9_readOne_51_d1_53 (u0 : ac_U) (p0 : Int32) (u : ac_U) (h : ac_Fl u0 u) : ac_Fl u0 (K_X9_readOne_51_d1_53 u0 p0 u).1 := by
  unfold K_X9_readOne_51_d1_53
  exact (fl_bd (h.tr (ql_X10_fail_1 u (4 : Int32)) (by decide)) (fun (u1 : ac_U) (r1 : Int32) h1 => h1))
theorem ql_X9_readOne_51_d1_35 (u0 : ac_U) (p0 : Int32) (u : ac_U) (x2 : Int32) (h : ac_Fl u0 u) : ac_Fl u0 (K_X9_readOne_51_d1_35 u0 p0 u x2).1 := by
  unfold K_X9_readOne_51_d1_35
  exact (fl_if (ql_X9_readOne_51_d1_53 u0 p0 u h) (fl_if (fl_vl (fun (v6 : Int32) => (fl_if (fl_if (fl_if (fl_if (fl_bd ((fl_I h rfl).tr (ql_X9_readStatus_51 (pI u 47 4 v6) x2) (by decide)) (fun (u11 : ac_U) (r11 : Int32) h11 => h11)) (fl_bd ((fl_I h rfl).tr (ql_X9_readCompare_51 (pI u 47 4 v6) x2) (by decide)) (fun (u12 : ac_U) (r12 : Int32) h12 => h12))) (fl_bd ((fl_I h rfl).tr (ql_X9_readOf_51 (pI u 47 4 v6)) (by decide)) (fun (u13 : ac_U) (r13 : Int32) h13 => h13))) (fl_bd ((fl_I h rfl).tr (ql_X9_readNot_51_d1 (pI u 47 4 v6) p0) (by decide)) (fun (u14 : ac_U) (r14 : Int32) h14 => h14))) (fl_bd ((fl_I h rfl).tr (ql_X9_readBracket_51_d1 (pI u 47 4 v6) p0) (by decide)) (fun (u15 : ac_U) (r15 : Int32) h15 => h15))))) h))
theorem ql_X9_readOne_51_d1_26 (u0 : ac_U) (p0 : Int32) (u : ac_U) (h : ac_Fl u0 u) : ac_Fl u0 (K_X9_readOne_51_d1_26 u0 p0 u).1 := by
  unfold K_X9_readOne_51_d1_26
  exact (fl_bd (h.tr (ql_X10_fail_1 u (1 : Int32)) (by decide)) (fun (u16 : ac_U) (r16 : Int32) h16 => h16))
theorem ql_X9_readOne_51_d1 (u0 : ac_U) (p0 : Int32) : ac_Fl u0 (f_X9_readOne_51_d1 u0 p0).1 := by
  unfold f_X9_readOne_51_d1
  exact (fl_if (ql_X9_readOne_51_d1_35 u0 p0 u0 (u0.1 1 6) ac_Fl.rf) (fl_if (ql_X9_readOne_51_d1_26 u0 p0 u0 ac_Fl.rf) (fl_if (ql_X9_readOne_51_d1_35 u0 p0 u0 (u0.1 1 6) ac_Fl.rf) (ql_X9_readOne_51_d1_26 u0 p0 u0 ac_Fl.rf))))
theorem ql_X9_readBoth_51_d1_64 (u0 : ac_U) (p0 : Int32) (u : ac_U) (h : ac_Fl u0 u) : ac_Fl u0 (K_X9_readBoth_51_d1_64 u0 p0 u).1 := by
  unfold K_X9_readBoth_51_d1_64
  exact h
theorem ql_X9_readBoth_51_d1_12_b (u0 : ac_U) (p0 : Int32) (B12 : ac_U → Int32 → ac_U × Int32) (hB12 : ∀ (u : ac_U) (x2 : Int32), ac_Fl u0 u → ac_Fl u0 (B12 u x2).1) (u : ac_U) (x2 : Int32) (h : ac_Fl u0 u) : ac_Fl u0 (K_X9_readBoth_51_d1_12_b B12 u0 p0 u x2).1 := by
  unfold K_X9_readBoth_51_d1_12_b
  exact (fl_if (ql_X9_readBoth_51_d1_64 u0 p0 u h) (fl_if (ql_X9_readBoth_51_d1_64 u0 p0 u h) (fl_cv (h.tr (ql_X10_readNext_1 u) (by decide)) (fun (u4 : ac_U) h4 => (fl_bd (h4.tr (ql_X9_readOne_51_d1 u4 p0) (by decide)) (fun (u5 : ac_U) (r5 : Int32) h5 => (fl_if (fl_cv (h5.tr (ql_X8_add_47 u5 (115 : Int32) (0 : Int32) (0 : Int32)) (by decide)) (fun (u7 : ac_U) h7 => (fl_vl (fun (v8 : Int32) => (hB12 u7 v8 h7))))) h5)))))))
theorem ql_X9_readBoth_51_d1_12 (u0 : ac_U) (p0 : Int32) : ∀ n : Nat, ∀ (u : ac_U) (x2 : Int32), ac_Fl u0 u → ac_Fl u0 (K_X9_readBoth_51_d1_12 u0 p0 n u x2).1
  | 0 => fun u _ h => h
  | n + 1 => fun u x2 h => ql_X9_readBoth_51_d1_12_b u0 p0 (K_X9_readBoth_51_d1_12 u0 p0 n) (ql_X9_readBoth_51_d1_12 u0 p0 n) u x2 h
theorem ql_X9_readBoth_51_d1 (u0 : ac_U) (p0 : Int32) : ac_Fl u0 (f_X9_readBoth_51_d1 u0 p0).1 := by
  unfold f_X9_readBoth_51_d1
  exact (fl_bd (ac_Fl.rf.tr (ql_X9_readOne_51_d1 u0 p0) (by decide)) (fun (u9 : ac_U) (r9 : Int32) h9 => (fl_if (ql_X9_readBoth_51_d1_12 u0 p0 22 u9 (0 : Int32) h9) h9)))
theorem ql_X9_readCond_51_d1_64 (u0 : ac_U) (p0 : Int32) (u : ac_U) (h : ac_Fl u0 u) : ac_Fl u0 (K_X9_readCond_51_d1_64 u0 p0 u).1 := by
  unfold K_X9_readCond_51_d1_64
  exact h
theorem ql_X9_readCond_51_d1_12_b (u0 : ac_U) (p0 : Int32) (B12 : ac_U → Int32 → ac_U × Int32) (hB12 : ∀ (u : ac_U) (x2 : Int32), ac_Fl u0 u → ac_Fl u0 (B12 u x2).1) (u : ac_U) (x2 : Int32) (h : ac_Fl u0 u) : ac_Fl u0 (K_X9_readCond_51_d1_12_b B12 u0 p0 u x2).1 := by
  unfold K_X9_readCond_51_d1_12_b
  exact (fl_if (ql_X9_readCond_51_d1_64 u0 p0 u h) (fl_if (ql_X9_readCond_51_d1_64 u0 p0 u h) (fl_cv (h.tr (ql_X10_readNext_1 u) (by decide)) (fun (u4 : ac_U) h4 => (fl_bd (h4.tr (ql_X9_readBoth_51_d1 u4 p0) (by decide)) (fun (u5 : ac_U) (r5 : Int32) h5 => (fl_if (fl_cv (h5.tr (ql_X8_add_47 u5 (114 : Int32) (0 : Int32) (0 : Int32)) (by decide)) (fun (u7 : ac_U) h7 => (fl_vl (fun (v8 : Int32) => (hB12 u7 v8 h7))))) h5)))))))
theorem ql_X9_readCond_51_d1_12 (u0 : ac_U) (p0 : Int32) : ∀ n : Nat, ∀ (u : ac_U) (x2 : Int32), ac_Fl u0 u → ac_Fl u0 (K_X9_readCond_51_d1_12 u0 p0 n u x2).1
  | 0 => fun u _ h => h
  | n + 1 => fun u x2 h => ql_X9_readCond_51_d1_12_b u0 p0 (K_X9_readCond_51_d1_12 u0 p0 n) (ql_X9_readCond_51_d1_12 u0 p0 n) u x2 h
theorem ql_X9_readCond_51_d1 (u0 : ac_U) (p0 : Int32) : ac_Fl u0 (f_X9_readCond_51_d1 u0 p0).1 := by
  unfold f_X9_readCond_51_d1
  exact (fl_bd (ac_Fl.rf.tr (ql_X9_readBoth_51_d1 u0 p0) (by decide)) (fun (u9 : ac_U) (r9 : Int32) h9 => (fl_if (ql_X9_readCond_51_d1_12 u0 p0 22 u9 (0 : Int32) h9) h9)))
theorem ql_X11_sentence_0_33 (u0 : ac_U) (u : ac_U) (z0 : Int32) (h : ac_Fl u0 u) : ac_Fl u0 (K_X11_sentence_0_33 u0 u z0).1 := by
  unfold K_X11_sentence_0_33
  exact (fl_if (fl_cv ((fl_I h rfl).tr (ql_X8_copyFrom_43_47 (pI u 1 2 (0 : Int32))) (by decide)) (fun (u2 : ac_U) h2 => h2)) (fl_vl (fun (v5 : Int32) => (fl_I h rfl))))
theorem ql_X11_sentence_0_32 (u0 : ac_U) (u : ac_U) (h : ac_Fl u0 u) : ac_Fl u0 (K_X11_sentence_0_32 u0 u).1 := by
  unfold K_X11_sentence_0_32
  exact (ql_X11_sentence_0_33 u0 u (0 : Int32) h)
theorem ql_X11_sentence_0 (u0 : ac_U) : ac_Fl u0 (f_X11_sentence_0 u0).1 := by
  unfold f_X11_sentence_0
  exact (fl_cv (ac_Fl.rf.tr (ql_X9_begin_51 u0) (by decide)) (fun (u6 : ac_U) h6 => (fl_bd (h6.tr (ql_X9_readCond_51_d1 u6 (1 : Int32)) (by decide)) (fun (u7 : ac_U) (r7 : Int32) h7 => (fl_if (ql_X11_sentence_0_32 u0 u7 h7) (fl_bd (h7.tr (ql_X9_isAtEnd_51 u7) (by decide)) (fun (u9 : ac_U) (r9 : Int32) h9 => (fl_if (ql_X11_sentence_0_32 u0 u9 h9) (ql_X11_sentence_0_33 u0 u9 (1 : Int32) h9)))))))))
theorem ql_X12_code_85 (u0 : ac_U) (p0 : Int32) (p1 : Int32) (p2 : Int32) : ac_Fl u0 (f_X12_code_85 u0 p0 p1 p2) := by
  unfold f_X12_code_85
  exact (fl_vlv (fun (v2 : Int32) => (fl_vlv (fun (v3 : Int32) => (fl_vlv (fun (v4 : Int32) => (fl_vlv (fun (v5 : Int32) => (fl_vlv (fun (v6 : Int32) => (fl_vlv (fun (v7 : Int32) => (fl_I (fl_I (fl_I (fl_I ac_Fl.rf rfl) rfl) rfl) rfl)))))))))))))
theorem ql_X12_joins_85_0_b (u0 : ac_U) (p0 : Int32) (B0 : ac_U → ac_U) (hB0 : ∀ (u : ac_U), ac_Fl u0 u → ac_Fl u0 (B0 u)) (u : ac_U) (h : ac_Fl u0 u) : ac_Fl u0 (K_X12_joins_85_0_b B0 u0 p0 u) := by
  unfold K_X12_joins_85_0_b
  exact (fl_ifv h (fl_vlv (fun (v4 : Int32) => (fl_vlv (fun (v5 : Int32) => (fl_ifv (fl_vlv (fun (v7 : Int32) => (fl_vlv (fun (v8 : Int32) => (fl_cvv ((fl_I h rfl).tr (ql_X12_code_85 (pI u 85 41 v7) v8 (0 : Int32) (0 : Int32)) (by decide)) (fun (u10 : ac_U) h10 => (hB0 u10 h10))))))) (fl_vlv (fun (v12 : Int32) => (fl_vlv (fun (v13 : Int32) => (fl_ifv h (fl_ifv h (fl_vlv (fun (v18 : Int32) => (fl_vlv (fun (v19 : Int32) => (fl_cvv ((fl_I h rfl).tr (ql_X12_code_85 (pI u 85 41 v18) v19 (0 : Int32) (0 : Int32)) (by decide)) (fun (u21 : ac_U) h21 => (hB0 u21 h21)))))))))))))))))))
theorem ql_X12_joins_85_0 (u0 : ac_U) (p0 : Int32) : ∀ n : Nat, ∀ (u : ac_U), ac_Fl u0 u → ac_Fl u0 (K_X12_joins_85_0 u0 p0 n u)
  | 0 => fun u h => h
  | n + 1 => fun u h => ql_X12_joins_85_0_b u0 p0 (K_X12_joins_85_0 u0 p0 n) (ql_X12_joins_85_0 u0 p0 n) u h
theorem ql_X12_joins_85 (u0 : ac_U) (p0 : Int32) : ac_Fl u0 (f_X12_joins_85 u0 p0) := by
  unfold f_X12_joins_85
  exact (ql_X12_joins_85_0 u0 p0 47 u0 ac_Fl.rf)
theorem ql_X12_nots_85_0_b (u0 : ac_U) (B0 : ac_U → ac_U) (hB0 : ∀ (u : ac_U), ac_Fl u0 u → ac_Fl u0 (B0 u)) (u : ac_U) (h : ac_Fl u0 u) : ac_Fl u0 (K_X12_nots_85_0_b B0 u0 u) := by
  unfold K_X12_nots_85_0_b
  exact (fl_ifv h (fl_vlv (fun (v4 : Int32) => (fl_vlv (fun (v5 : Int32) => (fl_ifv h (fl_vlv (fun (v8 : Int32) => (fl_vlv (fun (v9 : Int32) => (fl_cvv ((fl_I (fl_I h rfl) rfl).tr (ql_X12_code_85 (pI (pI u 85 41 v8) 85 42 v9) (20 : Int32) (0 : Int32) (0 : Int32)) (by decide)) (fun (u11 : ac_U) h11 => (hB0 u11 h11)))))))))))))
theorem ql_X12_nots_85_0 (u0 : ac_U) : ∀ n : Nat, ∀ (u : ac_U), ac_Fl u0 u → ac_Fl u0 (K_X12_nots_85_0 u0 n u)
  | 0 => fun u h => h
  | n + 1 => fun u h => ql_X12_nots_85_0_b u0 (K_X12_nots_85_0 u0 n) (ql_X12_nots_85_0 u0 n) u h
theorem ql_X12_nots_85 (u0 : ac_U) : ac_Fl u0 (f_X12_nots_85 u0) := by
  unfold f_X12_nots_85
  exact (ql_X12_nots_85_0 u0 47 u0 ac_Fl.rf)
theorem ql_X12_behind_85_114 (u0 : ac_U) (u : ac_U) (h : ac_Fl u0 u) : ac_Fl u0 (K_X12_behind_85_114 u0 u).1 := by
  unfold K_X12_behind_85_114
  exact (fl_bd (h.tr (ql_X12_bad_85 u (1 : Int32)) (by decide)) (fun (u1 : ac_U) (r1 : Int32) h1 => h1))
theorem ql_X12_behind_85_24 (u0 : ac_U) (u : ac_U) (h : ac_Fl u0 u) : ac_Fl u0 (K_X12_behind_85_24 u0 u).1 := by
  unfold K_X12_behind_85_24
  exact (fl_vl (fun (r10 : Int32) => (fl_if (fl_cv (h.tr (ql_X12_joins_85 u (22 : Int32)) (by decide)) (fun (u14 : ac_U) h14 => (fl_vl (fun (r19 : Int32) => (fl_if (fl_vl (fun (v21 : Int32) => (fl_cv ((fl_I (fl_I (fl_I h14 rfl) rfl) rfl).tr (ql_X12_next_85 (pI (pI (pI u14 100 (u14.1 85 41).toNatClampNeg (22 : Int32)) 85 41 v21) 85 43 (0 : Int32))) (by decide)) (fun (u22 : ac_U) h22 => h22)))) (fl_vl (fun (v27 : Int32) => (fl_cv ((fl_I (fl_I (fl_I h14 rfl) rfl) rfl).tr (ql_X12_next_85 (pI (pI (pI u14 100 (u14.1 85 41).toNatClampNeg (21 : Int32)) 85 41 v27) 85 43 (0 : Int32))) (by decide)) (fun (u28 : ac_U) h28 => h28))))))))) (fl_cv (h.tr (ql_X12_joins_85 u (21 : Int32)) (by decide)) (fun (u35 : ac_U) h35 => (fl_vl (fun (r40 : Int32) => (fl_if (fl_vl (fun (v42 : Int32) => (fl_cv ((fl_I (fl_I (fl_I h35 rfl) rfl) rfl).tr (ql_X12_next_85 (pI (pI (pI u35 100 (u35.1 85 41).toNatClampNeg (22 : Int32)) 85 41 v42) 85 43 (0 : Int32))) (by decide)) (fun (u43 : ac_U) h43 => h43)))) (fl_vl (fun (v48 : Int32) => (fl_cv ((fl_I (fl_I (fl_I h35 rfl) rfl) rfl).tr (ql_X12_next_85 (pI (pI (pI u35 100 (u35.1 85 41).toNatClampNeg (21 : Int32)) 85 41 v48) 85 43 (0 : Int32))) (by decide)) (fun (u49 : ac_U) h49 => h49))))))))))))
theorem ql_X12_behind_85 (u0 : ac_U) : ac_Fl u0 (f_X12_behind_85 u0).1 := by
  unfold f_X12_behind_85
  exact (fl_cv (ac_Fl.rf.tr (ql_X12_nots_85 u0) (by decide)) (fun (u56 : ac_U) h56 => (fl_vl (fun (r61 : Int32) => (fl_if (ql_X12_behind_85_24 u0 u56 h56) (fl_vl (fun (r63 : Int32) => (fl_if (fl_cv (h56.tr (ql_X12_joins_85 u56 (22 : Int32)) (by decide)) (fun (u65 : ac_U) h65 => (fl_vl (fun (r68 : Int32) => (fl_if (ql_X12_behind_85_114 u0 u65 h65) (fl_if (fl_vl (fun (v71 : Int32) => (fl_vl (fun (v72 : Int32) => (fl_cv ((fl_I (fl_I h65 rfl) rfl).tr (ql_X12_next_85 (pI (pI u65 85 41 v71) 85 42 v72)) (by decide)) (fun (u73 : ac_U) h73 => h73)))))) (ql_X12_behind_85_114 u0 u65 h65))))))) (ql_X12_behind_85_24 u0 u56 h56)))))))))
theorem ql_X12_operand_85_209 (u0 : ac_U) (u : ac_U) (h : ac_Fl u0 u) : ac_Fl u0 (K_X12_operand_85_209 u0 u).1 := by
  unfold K_X12_operand_85_209
  exact (fl_bd (h.tr (ql_X12_bad_85 u (1 : Int32)) (by decide)) (fun (u1 : ac_U) (r1 : Int32) h1 => h1))
theorem ql_X12_operand_85_84 (u0 : ac_U) (u : ac_U) (x1 : Int32) (h : ac_Fl u0 u) : ac_Fl u0 (K_X12_operand_85_84 u0 u x1).1 := by
  unfold K_X12_operand_85_84
  exact (fl_if (fl_vl (fun (v13 : Int32) => (fl_vl (fun (v14 : Int32) => (fl_I (fl_I (fl_I h rfl) rfl) rfl))))) (fl_vl (fun (v18 : Int32) => (fl_vl (fun (v19 : Int32) => (fl_I (fl_I (fl_I h rfl) rfl) rfl))))))
theorem ql_X12_operand_85_56 (u0 : ac_U) (u : ac_U) (h : ac_Fl u0 u) : ac_Fl u0 (K_X12_operand_85_56 u0 u).1 := by
  unfold K_X12_operand_85_56
  exact (fl_bd (h.tr (ql_X12_bad_85 u (4 : Int32)) (by decide)) (fun (u23 : ac_U) (r23 : Int32) h23 => h23))
theorem ql_X12_operand_85_38 (u0 : ac_U) (u : ac_U) (x1 : Int32) (x2 : Int32) (x3 : Int32) (h : ac_Fl u0 u) : ac_Fl u0 (K_X12_operand_85_38 u0 u x1 x2 x3).1 := by
  unfold K_X12_operand_85_38
  exact (fl_if (ql_X12_operand_85_56 u0 u h) (fl_if (fl_vl (fun (v36 : Int32) => (fl_cv ((fl_I h rfl).tr (ql_X12_next_85 (pI u 85 40 v36)) (by decide)) (fun (u37 : ac_U) h37 => (fl_if (ql_X12_operand_85_84 u0 u37 x1 h37) (fl_if (fl_if (fl_if (fl_if (ql_X12_operand_85_209 u0 (pI u37 85 43 (1 : Int32)) (fl_I h37 rfl)) (fl_if (ql_X12_operand_85_209 u0 (pI u37 85 43 (1 : Int32)) (fl_I h37 rfl)) (fl_if (fl_cv ((fl_I h37 rfl).tr (ql_X12_next_85 (pI u37 85 43 (1 : Int32))) (by decide)) (fun (u53 : ac_U) h53 => (fl_if (fl_cv (h53.tr (ql_X12_code_85 u53 x3 (u37.1 85 14) (u53.1 85 14)) (by decide)) (fun (u56 : ac_U) h56 => (fl_cv (h56.tr (ql_X12_next_85 u56) (by decide)) (fun (u59 : ac_U) h59 => h59)))) (fl_bd (h53.tr (ql_X12_bad_85 u53 (1 : Int32)) (by decide)) (fun (u64 : ac_U) (r64 : Int32) h64 => h64))))) (ql_X12_operand_85_209 u0 (pI u37 85 43 (1 : Int32)) (fl_I h37 rfl))))) (fl_bd ((fl_I h37 rfl).tr (ql_X12_looksAt_85 (pI u37 85 43 (1 : Int32)) (8 : Int32) (u37.1 87 4)) (by decide)) (fun (u70 : ac_U) (r70 : Int32) h70 => (fl_if (fl_cv (h70.tr (ql_X12_code_85 u70 x3 (0 : Int32) (u70.1 85 18)) (by decide)) (fun (u72 : ac_U) h72 => (fl_cv (h72.tr (ql_X12_next_85 u72) (by decide)) (fun (u75 : ac_U) h75 => h75)))) h70)))) (fl_cv ((fl_I h37 rfl).tr (ql_X12_code_85 (pI u37 85 43 (1 : Int32)) x3 (0 : Int32) (0 : Int32)) (by decide)) (fun (u84 : ac_U) h84 => h84))) (ql_X12_operand_85_84 u0 u37 x1 h37))))))) (ql_X12_operand_85_56 u0 u h)))
theorem ql_X12_operand_85 (u0 : ac_U) : ac_Fl u0 (f_X12_operand_85 u0).1 := by
  unfold f_X12_operand_85
  exact (fl_vl (fun (r90 : Int32) => (fl_vl (fun (r91 : Int32) => (fl_vl (fun (r92 : Int32) => (fl_if (ql_X12_operand_85_38 u0 u0 r90 r91 r92 ac_Fl.rf) (fl_if (ql_X12_operand_85_38 u0 u0 r90 r91 r92 ac_Fl.rf) (fl_if (ql_X12_operand_85_38 u0 u0 r90 r91 r92 ac_Fl.rf) (fl_bd (ac_Fl.rf.tr (ql_X12_bad_85 u0 (1 : Int32)) (by decide)) (fun (u108 : ac_U) (r108 : Int32) h108 => h108)))))))))))
theorem ql_X12_sentence_85_146_b (u0 : ac_U) (B146 : ac_U → Int32 → ac_U × Int32) (hB146 : ∀ (u : ac_U) (x2 : Int32), ac_Fl u0 u → ac_Fl u0 (B146 u x2).1) (u : ac_U) (x2 : Int32) (h : ac_Fl u0 u) : ac_Fl u0 (K_X12_sentence_85_146_b B146 u0 u x2).1 := by
  unfold K_X12_sentence_85_146_b
  exact (fl_vl (fun (v2 : Int32) => (fl_if h (fl_vl (fun (v5 : Int32) => (fl_vl (fun (v6 : Int32) => (fl_vl (fun (v7 : Int32) => (hB146 (pI u 87 v5.toNatClampNeg v6) v7 (fl_I h rfl)))))))))))
theorem ql_X12_sentence_85_146 (u0 : ac_U) : ∀ n : Nat, ∀ (u : ac_U) (x2 : Int32), ac_Fl u0 u → ac_Fl u0 (K_X12_sentence_85_146 u0 n u x2).1
  | 0 => fun u _ h => h
  | n + 1 => fun u x2 h => ql_X12_sentence_85_146_b u0 (K_X12_sentence_85_146 u0 n) (ql_X12_sentence_85_146 u0 n) u x2 h
theorem ql_X12_sentence_85_125 (u0 : ac_U) (u : ac_U) (h : ac_Fl u0 u) : ac_Fl u0 (K_X12_sentence_85_125 u0 u).1 := by
  unfold K_X12_sentence_85_125
  exact (fl_vl (fun (v9 : Int32) => h))
theorem ql_X12_sentence_85_101 (u0 : ac_U) (B48 : ac_U → Int32 → ac_U × Int32) (hB48 : ∀ (u : ac_U) (x1 : Int32), ac_Fl u0 u → ac_Fl u0 (B48 u x1).1) (u : ac_U) (x1 : Int32) (h : ac_Fl u0 u) : ac_Fl u0 (K_X12_sentence_85_101 B48 u0 u x1).1 := by
  unfold K_X12_sentence_85_101
  exact (fl_if (fl_bd (h.tr (ql_X12_operand_85 u) (by decide)) (fun (u15 : ac_U) (r15 : Int32) h15 => (fl_if (hB48 u15 x1 h15) (ql_X12_sentence_85_125 u0 u15 h15)))) (fl_bd (h.tr (ql_X12_behind_85 u) (by decide)) (fun (u24 : ac_U) (r24 : Int32) h24 => (fl_if (hB48 u24 x1 h24) (ql_X12_sentence_85_125 u0 u24 h24)))))
theorem ql_X12_sentence_85_48_b (u0 : ac_U) (B48 : ac_U → Int32 → ac_U × Int32) (hB48 : ∀ (u : ac_U) (x1 : Int32), ac_Fl u0 u → ac_Fl u0 (B48 u x1).1) (u : ac_U) (x1 : Int32) (h : ac_Fl u0 u) : ac_Fl u0 (K_X12_sentence_85_48_b B48 u0 u x1).1 := by
  unfold K_X12_sentence_85_48_b
  exact (fl_if (ql_X12_sentence_85_146 u0 137 (pI u 87 476 (u.1 85 39)) (0 : Int32) (fl_I h rfl)) (fl_if (ql_X12_sentence_85_101 u0 B48 hB48 u x1 h) (fl_if (ql_X12_sentence_85_101 u0 B48 hB48 u x1 h) (fl_cv (h.tr (ql_X12_nots_85 u) (by decide)) (fun (u47 : ac_U) h47 => (fl_cv (h47.tr (ql_X12_joins_85 u47 (22 : Int32)) (by decide)) (fun (u51 : ac_U) h51 => (fl_if (hB48 u51 (0 : Int32) h51) (fl_bd (h51.tr (ql_X12_bad_85 u51 (1 : Int32)) (by decide)) (fun (u55 : ac_U) (r55 : Int32) h55 => (fl_vl (fun (v56 : Int32) => h55))))))))))))
theorem ql_X12_sentence_85_48 (u0 : ac_U) : ∀ n : Nat, ∀ (u : ac_U) (x1 : Int32), ac_Fl u0 u → ac_Fl u0 (K_X12_sentence_85_48 u0 n u x1).1
  | 0 => fun u _ h => h
  | n + 1 => fun u x1 h => ql_X12_sentence_85_48_b u0 (K_X12_sentence_85_48 u0 n) (ql_X12_sentence_85_48 u0 n) u x1 h
theorem ql_X12_sentence_85 (u0 : ac_U) : ac_Fl u0 (f_X12_sentence_85 u0).1 := by
  unfold f_X12_sentence_85
  exact (fl_cv ((fl_I ac_Fl.rf rfl).tr (ql_X12_taken_85 (pI u0 85 0 (0 : Int32)) (200 : Int32)) (by decide)) (fun (u57 : ac_U) h57 => (fl_cv ((fl_I (fl_I (fl_I (fl_I (fl_I (fl_I h57 rfl) rfl) rfl) rfl) rfl) rfl).tr (ql_X12_next_85 (pI (pI (pI (pI (pI (pI u57 85 15 (0 : Int32)) 85 39 (0 : Int32)) 85 40 (0 : Int32)) 85 41 (0 : Int32)) 85 42 (1 : Int32)) 85 43 (0 : Int32))) (by decide)) (fun (u62 : ac_U) h62 => (ql_X12_sentence_85_48 u0 140 u62 (1 : Int32) h62)))))
theorem ql_X6_passHours_24 (u0 : ac_U) (p0 : Int32) : ac_Fl u0 (f_X6_passHours_24 u0 p0).1 := by
  unfold f_X6_passHours_24
  exact (fl_vl (fun (r1 : Int32) => (fl_vl (fun (v4 : Int32) => (fl_vl (fun (v5 : Int32) => (fl_I (fl_I ac_Fl.rf rfl) rfl)))))))
theorem ql_X0_liveHours_39 (u0 : ac_U) (p0 : Int32) : ac_Fl u0 (f_X0_liveHours_39 u0 p0).1 := by
  unfold f_X0_liveHours_39
  exact (fl_vl (fun (r1 : Int32) => (fl_if (fl_bd (ac_Fl.rf.tr (ql_X6_passHours_24 u0 p0) (by decide)) (fun (u5 : ac_U) (r5 : Int32) h5 => h5)) ac_Fl.rf)))
theorem ql_X6_tryDo_24_107 (u0 : ac_U) (p0 : Int32) (p1 : Int32) (u : ac_U) (x3 : Int32) (h : ac_Fl u0 u) : ac_Fl u0 (K_X6_tryDo_24_107 u0 p0 p1 u x3).1 := by
  unfold K_X6_tryDo_24_107
  exact h
theorem ql_X6_tryDo_24 (u0 : ac_U) (p0 : Int32) (p1 : Int32) : ac_Fl u0 (f_X6_tryDo_24 u0 p0 p1).1 := by
  unfold f_X6_tryDo_24
  exact (fl_vl (fun (r1 : Int32) => (fl_if (ql_X6_tryDo_24_107 u0 p0 p1 u0 r1 ac_Fl.rf) (fl_vl (fun (v4 : Int32) => (fl_vl (fun (v5 : Int32) => (fl_vl (fun (v7 : Int32) => (fl_vl (fun (v8 : Int32) => (fl_vl (fun (v9 : Int32) => (fl_vl (fun (v10 : Int32) => (fl_vl (fun (v11 : Int32) => (fl_vl (fun (v12 : Int32) => (fl_vl (fun (v13 : Int32) => (fl_vl (fun (v14 : Int32) => (fl_vl (fun (v15 : Int32) => (fl_vl (fun (v16 : Int32) => (fl_vl (fun (v17 : Int32) => (ql_X6_tryDo_24_107 u0 p0 p1 (pI (pI (pI (pI (pI (pI (pI u0 26 v5.toNatClampNeg (u0.1 25 0)) 26 v7.toNatClampNeg p0) 26 v8.toNatClampNeg p1) 26 v9.toNatClampNeg v11) 25 1 v13) 25 2 v14) 25 v15.toNatClampNeg v17) r1 (fl_I (fl_I (fl_I (fl_I (fl_I (fl_I (fl_I ac_Fl.rf rfl) rfl) rfl) rfl) rfl) rfl) rfl)))))))))))))))))))))))))))))))
theorem ql_X6_tryGo_24_45 (u0 : ac_U) (p0 : Int32) (p1 : Int32) (u : ac_U) (x3 : Int32) (h : ac_Fl u0 u) : ac_Fl u0 (K_X6_tryGo_24_45 u0 p0 p1 u x3).1 := by
  unfold K_X6_tryGo_24_45
  exact h
theorem ql_X6_tryGo_24 (u0 : ac_U) (p0 : Int32) (p1 : Int32) : ac_Fl u0 (f_X6_tryGo_24 u0 p0 p1).1 := by
  unfold f_X6_tryGo_24
  exact (fl_vl (fun (r1 : Int32) => (fl_if (ql_X6_tryGo_24_45 u0 p0 p1 u0 r1 ac_Fl.rf) (fl_vl (fun (v3 : Int32) => (fl_vl (fun (v4 : Int32) => (fl_vl (fun (v5 : Int32) => (fl_vl (fun (v6 : Int32) => (fl_vl (fun (v7 : Int32) => (fl_vl (fun (v8 : Int32) => (ql_X6_tryGo_24_45 u0 p0 p1 (pI (pI (pI u0 25 1 v4) 25 v5.toNatClampNeg p1) 25 v6.toNatClampNeg v8) r1 (fl_I (fl_I (fl_I ac_Fl.rf rfl) rfl) rfl)))))))))))))))))
theorem ql_X6_trySay_24_43 (u0 : ac_U) (p0 : Int32) (p1 : Int32) (u : ac_U) (x3 : Int32) (h : ac_Fl u0 u) : ac_Fl u0 (K_X6_trySay_24_43 u0 p0 p1 u x3).1 := by
  unfold K_X6_trySay_24_43
  exact h
theorem ql_X6_trySay_24 (u0 : ac_U) (p0 : Int32) (p1 : Int32) : ac_Fl u0 (f_X6_trySay_24 u0 p0 p1).1 := by
  unfold f_X6_trySay_24
  exact (fl_vl (fun (r1 : Int32) => (fl_if (ql_X6_trySay_24_43 u0 p0 p1 u0 r1 ac_Fl.rf) (fl_vl (fun (v3 : Int32) => (fl_vl (fun (v5 : Int32) => (fl_vl (fun (v6 : Int32) => (fl_vl (fun (v7 : Int32) => (ql_X6_trySay_24_43 u0 p0 p1 (pI (pI u0 25 v3.toNatClampNeg (u0.1 25 0)) 25 v5.toNatClampNeg v7) r1 (fl_I (fl_I ac_Fl.rf rfl) rfl)))))))))))))
theorem ql_X0_liveLine_39 (u0 : ac_U) (p0 : Int32) : ac_Fl u0 (f_X0_liveLine_39 u0 p0).1 := by
  unfold f_X0_liveLine_39
  exact (fl_vl (fun (v1 : Int32) => (fl_if (fl_vl (fun (v3 : Int32) => (fl_bd (ac_Fl.rf.tr (ql_X0_liveHours_39 u0 v3) (by decide)) (fun (u4 : ac_U) (r4 : Int32) h4 => h4)))) (fl_if (fl_vl (fun (v5 : Int32) => (fl_vl (fun (v6 : Int32) => (fl_bd (ac_Fl.rf.tr (ql_X6_tryGo_24 u0 v5 v6) (by decide)) (fun (u7 : ac_U) (r7 : Int32) h7 => h7)))))) (fl_if (fl_vl (fun (v8 : Int32) => (fl_vl (fun (v9 : Int32) => (fl_bd (ac_Fl.rf.tr (ql_X6_tryDo_24 u0 v8 v9) (by decide)) (fun (u10 : ac_U) (r10 : Int32) h10 => h10)))))) (fl_vl (fun (v11 : Int32) => (fl_vl (fun (v12 : Int32) => (fl_bd (ac_Fl.rf.tr (ql_X6_trySay_24 u0 v11 v12) (by decide)) (fun (u13 : ac_U) (r13 : Int32) h13 => h13)))))))))))
theorem ql_X0_live_39_63 (u0 : ac_U) (u : ac_U) (h : ac_Fl u0 u) : ac_Fl u0 (K_X0_live_39_63 u0 u) := by
  unfold K_X0_live_39_63
  exact (fl_I h rfl)
theorem ql_X0_live_39_53 (u0 : ac_U) (B12 : ac_U → Int32 → ac_U) (hB12 : ∀ (u : ac_U) (x1 : Int32), ac_Fl u0 u → ac_Fl u0 (B12 u x1)) (u : ac_U) (x1 : Int32) (z1 : Int32) (z2 : Int32) (h : ac_Fl u0 u) : ac_Fl u0 (K_X0_live_39_53 B12 u0 u x1 z1 z2) := by
  unfold K_X0_live_39_53
  exact (fl_vlv (fun (v2 : Int32) => (fl_vlv (fun (v3 : Int32) => (hB12 (pI u 39 8 v2) v3 (fl_I h rfl))))))
theorem ql_X0_live_39_12_b (u0 : ac_U) (B12 : ac_U → Int32 → ac_U) (hB12 : ∀ (u : ac_U) (x1 : Int32), ac_Fl u0 u → ac_Fl u0 (B12 u x1)) (u : ac_U) (x1 : Int32) (h : ac_Fl u0 u) : ac_Fl u0 (K_X0_live_39_12_b B12 u0 u x1) := by
  unfold K_X0_live_39_12_b
  exact (fl_ifv (ql_X0_live_39_63 u0 u h) (fl_ifv (ql_X0_live_39_63 u0 u h) (fl_bdv (h.tr (ql_X0_liveLine_39 u x1) (by decide)) (fun (u7 : ac_U) (r7 : Int32) h7 => (fl_ifv (ql_X0_live_39_53 u0 B12 hB12 (pI u7 39 7 r7) x1 (u7.1 39 8) (0 : Int32) (fl_I h7 rfl)) (ql_X0_live_39_53 u0 B12 hB12 (pI u7 39 7 r7) x1 (u7.1 39 8) (1 : Int32) (fl_I h7 rfl)))))))
theorem ql_X0_live_39_12 (u0 : ac_U) : ∀ n : Nat, ∀ (u : ac_U) (x1 : Int32), ac_Fl u0 u → ac_Fl u0 (K_X0_live_39_12 u0 n u x1)
  | 0 => fun u _ h => h
  | n + 1 => fun u x1 h => ql_X0_live_39_12_b u0 (K_X0_live_39_12 u0 n) (ql_X0_live_39_12 u0 n) u x1 h
theorem ql_X0_live_39 (u0 : ac_U) : ac_Fl u0 (f_X0_live_39 u0) := by
  unfold f_X0_live_39
  exact (ql_X0_live_39_12 u0 42 (pI (pI u0 39 7 (0 : Int32)) 39 8 (0 : Int32)) (0 : Int32) (fl_I (fl_I ac_Fl.rf rfl) rfl))
theorem ql_X10_takeKnown_1_4 (u0 : ac_U) (p1 : Int32) : ac_Fl u0 (f_X10_takeKnown_1_4 u0 p1).1 := by
  unfold f_X10_takeKnown_1_4
  exact (fl_cv (ac_Fl.rf.tr (ql_X10_readNext_1 u0) (by decide)) (fun (u1 : ac_U) h1 => (fl_bd (h1.tr (ql_X10_isKnown_1_4 u1 p1) (by decide)) (fun (u2 : ac_U) (r2 : Int32) h2 => h2))))
theorem ql_X0_readDoing_39 (u0 : ac_U) : ac_Fl u0 (f_X0_readDoing_39 u0).1 := by
  unfold f_X0_readDoing_39
  exact (fl_cv (ac_Fl.rf.tr (ql_X10_readNext_1 u0) (by decide)) (fun (u1 : ac_U) h1 => (fl_vl (fun (r3 : Int32) => (fl_if (fl_bd ((fl_I h1 rfl).tr (ql_X10_takeKnown_1_4 (pI u1 41 (u0.1 39 6).toNatClampNeg (u1.1 1 6)) r3) (by decide)) (fun (u5 : ac_U) (r5 : Int32) h5 => (fl_if (fl_I h5 rfl) h5))) (fl_bd ((fl_I h1 rfl).tr (ql_X10_fail_1 (pI u1 41 (u0.1 39 6).toNatClampNeg (u1.1 1 6)) (1 : Int32)) (by decide)) (fun (u8 : ac_U) (r8 : Int32) h8 => h8)))))))
theorem ql_X0_readHour_39 (u0 : ac_U) : ac_Fl u0 (f_X0_readHour_39 u0).1 := by
  unfold f_X0_readHour_39
  exact (fl_bd ((fl_I ac_Fl.rf rfl).tr (ql_X10_takeNumber_1 (pI u0 41 (u0.1 39 6).toNatClampNeg (113 : Int32)) (1 : Int32) (99 : Int32)) (by decide)) (fun (u2 : ac_U) (r2 : Int32) h2 => (fl_if (fl_I h2 rfl) h2)))
theorem ql_X0_readLine_39_118 (u0 : ac_U) (u : ac_U) (h : ac_Fl u0 u) : ac_Fl u0 (K_X0_readLine_39_118 u0 u).1 := by
  unfold K_X0_readLine_39_118
  exact h
theorem ql_X0_readLine_39_102 (u0 : ac_U) (u : ac_U) (h : ac_Fl u0 u) : ac_Fl u0 (K_X0_readLine_39_102 u0 u).1 := by
  unfold K_X0_readLine_39_102
  exact (fl_bd (h.tr (ql_X10_takeSign_1 u (59 : Int32)) (by decide)) (fun (u2 : ac_U) (r2 : Int32) h2 => (fl_if (ql_X0_readLine_39_118 u0 u2 h2) h2)))
theorem ql_X0_readLine_39_39 (u0 : ac_U) (u : ac_U) (x1 : Int32) (h : ac_Fl u0 u) : ac_Fl u0 (K_X0_readLine_39_39 u0 u x1).1 := by
  unfold K_X0_readLine_39_39
  exact (fl_if (fl_if (fl_if (fl_bd ((fl_I h rfl).tr (ql_X0_readDoing_39 (pI u 40 (u.1 39 6).toNatClampNeg (u.1 1 9))) (by decide)) (fun (u10 : ac_U) (r10 : Int32) h10 => (fl_if (ql_X0_readLine_39_118 u0 u10 h10) (ql_X0_readLine_39_102 u0 u10 h10)))) (fl_I h rfl)) (fl_if (fl_I h rfl) (fl_bd ((fl_I h rfl).tr (ql_X0_readHour_39 (pI u 40 (u.1 39 6).toNatClampNeg (-1 : Int32))) (by decide)) (fun (u13 : ac_U) (r13 : Int32) h13 => (fl_if (ql_X0_readLine_39_118 u0 u13 h13) (ql_X0_readLine_39_102 u0 u13 h13)))))) (fl_bd (h.tr (ql_X10_fail_1 u (4 : Int32)) (by decide)) (fun (u15 : ac_U) (r15 : Int32) h15 => h15)))
theorem ql_X0_readLine_39_17 (u0 : ac_U) (u : ac_U) (z0 : Int32) (h : ac_Fl u0 u) : ac_Fl u0 (K_X0_readLine_39_17 u0 u z0).1 := by
  unfold K_X0_readLine_39_17
  exact (fl_if (ql_X0_readLine_39_39 u0 u z0 h) (fl_bd (h.tr (ql_X10_isKnown_1_4 u (1 : Int32)) (by decide)) (fun (u19 : ac_U) (r19 : Int32) h19 => (fl_if (ql_X0_readLine_39_39 u0 u19 z0 h19) h19))))
theorem ql_X0_readLine_39 (u0 : ac_U) : ac_Fl u0 (f_X0_readLine_39 u0).1 := by
  unfold f_X0_readLine_39
  exact (fl_if (ql_X0_readLine_39_17 u0 u0 (0 : Int32) ac_Fl.rf) (ql_X0_readLine_39_17 u0 u0 (1 : Int32) ac_Fl.rf))
theorem ql_X0_readWhole_39_63 (u0 : ac_U) (u : ac_U) (h : ac_Fl u0 u) : ac_Fl u0 (K_X0_readWhole_39_63 u0 u).1 := by
  unfold K_X0_readWhole_39_63
  exact h
theorem ql_X0_readWhole_39_15_b (u0 : ac_U) (B15 : ac_U → ac_U × Int32) (hB15 : ∀ (u : ac_U), ac_Fl u0 u → ac_Fl u0 (B15 u).1) (u : ac_U) (h : ac_Fl u0 u) : ac_Fl u0 (K_X0_readWhole_39_15_b B15 u0 u).1 := by
  unfold K_X0_readWhole_39_15_b
  exact (fl_if h (fl_if (ql_X0_readWhole_39_63 u0 u h) (fl_bd (h.tr (ql_X0_readLine_39 u) (by decide)) (fun (u5 : ac_U) (r5 : Int32) h5 => (fl_if (fl_cv (h5.tr (ql_X10_readNext_1 u5) (by decide)) (fun (u8 : ac_U) h8 => (fl_vl (fun (v9 : Int32) => (hB15 (pI u8 39 6 v9) (fl_I h8 rfl)))))) h5)))))
theorem ql_X0_readWhole_39_15 (u0 : ac_U) : ∀ n : Nat, ∀ (u : ac_U), ac_Fl u0 u → ac_Fl u0 (K_X0_readWhole_39_15 u0 n u).1
  | 0 => fun u h => h
  | n + 1 => fun u h => ql_X0_readWhole_39_15_b u0 (K_X0_readWhole_39_15 u0 n) (ql_X0_readWhole_39_15 u0 n) u h
theorem ql_X0_readWhole_39 (u0 : ac_U) : ac_Fl u0 (f_X0_readWhole_39 u0).1 := by
  unfold f_X0_readWhole_39
  exact (fl_cv (ac_Fl.rf.tr (ql_X10_startReading_1 u0 (500 : Int32)) (by decide)) (fun (u10 : ac_U) h10 => (ql_X0_readWhole_39_15 u0 43 (pI u10 39 6 (0 : Int32)) (fl_I h10 rfl))))
theorem ql_X5_weighDeed_29_169 (u0 : ac_U) (p0 : Int32) (p1 : Int32) (p2 : Int32) (u : ac_U) (x5 : Int32) (h : ac_Fl u0 u) : ac_Fl u0 (K_X5_weighDeed_29_169 u0 p0 p1 p2 u x5) := by
  unfold K_X5_weighDeed_29_169
  exact (fl_vlv (fun (v1 : Int32) => (fl_vlv (fun (v2 : Int32) => (fl_I h rfl)))))
theorem ql_X5_weighDeed_29_143 (u0 : ac_U) (p0 : Int32) (p1 : Int32) (p2 : Int32) (u : ac_U) (x5 : Int32) (x6 : Int32) (x7 : Int32) (h : ac_Fl u0 u) : ac_Fl u0 (K_X5_weighDeed_29_143 u0 p0 p1 p2 u x5 x6 x7) := by
  unfold K_X5_weighDeed_29_143
  exact (fl_vlv (fun (r3 : Int32) => (fl_ifv h (fl_ifv (ql_X5_weighDeed_29_169 u0 p0 p1 p2 u x5 h) (fl_vlv (fun (v6 : Int32) => (fl_ifv h (ql_X5_weighDeed_29_169 u0 p0 p1 p2 u x5 h))))))))
theorem ql_X5_weighDeed_29_61 (u0 : ac_U) (p0 : Int32) (p1 : Int32) (p2 : Int32) (u : ac_U) (x4 : Int32) (x5 : Int32) (z0 : Int32) (h : ac_Fl u0 u) : ac_Fl u0 (K_X5_weighDeed_29_61 u0 p0 p1 p2 u x4 x5 z0) := by
  unfold K_X5_weighDeed_29_61
  exact (fl_vlv (fun (r8 : Int32) => (fl_ifv (ql_X5_weighDeed_29_143 u0 p0 p1 p2 u x5 z0 r8 h) (fl_vlv (fun (r10 : Int32) => (fl_ifv (ql_X5_weighDeed_29_143 u0 p0 p1 p2 u x5 z0 r8 h) (fl_vlv (fun (r12 : Int32) => (fl_vlv (fun (r13 : Int32) => (fl_ifv (ql_X5_weighDeed_29_143 u0 p0 p1 p2 u x5 z0 r8 h) (fl_vlv (fun (r15 : Int32) => (fl_vlv (fun (r16 : Int32) => (fl_ifv (ql_X5_weighDeed_29_143 u0 p0 p1 p2 u x5 z0 r8 h) (fl_vlv (fun (v18 : Int32) => (fl_vlv (fun (v19 : Int32) => (ql_X5_weighDeed_29_143 u0 p0 p1 p2 (pI u 30 x5.toNatClampNeg v19) x5 z0 r8 (fl_I h rfl))))))))))))))))))))))
theorem ql_X5_weighDeed_29 (u0 : ac_U) (p0 : Int32) (p1 : Int32) (p2 : Int32) : ac_Fl u0 (f_X5_weighDeed_29 u0 p0 p1 p2) := by
  unfold f_X5_weighDeed_29
  exact (fl_vlv (fun (r20 : Int32) => (fl_vlv (fun (r21 : Int32) => (fl_ifv ac_Fl.rf (fl_ifv (fl_vlv (fun (r25 : Int32) => (fl_vlv (fun (r26 : Int32) => (fl_ifv (ql_X5_weighDeed_29_61 u0 p0 p1 p2 u0 r20 r21 (0 : Int32) ac_Fl.rf) (ql_X5_weighDeed_29_61 u0 p0 p1 p2 u0 r20 r21 (1 : Int32) ac_Fl.rf)))))) ac_Fl.rf))))))
theorem ql_J7_fill_53178_30_5_b (u0 : ac_U) (p1 : Int32) (B5 : ac_U → Int32 → Int32 → ac_U) (hB5 : ∀ (u : ac_U) (x2 : Int32) (x3 : Int32), ac_Fl u0 u → ac_Fl u0 (B5 u x2 x3)) (u : ac_U) (x2 : Int32) (x3 : Int32) (h : ac_Fl u0 u) : ac_Fl u0 (K_J7_fill_53178_30_5_b B5 u0 p1 u x2 x3) := by
  unfold K_J7_fill_53178_30_5_b
  exact (fl_ifv h (fl_vlv (fun (v2 : Int32) => (hB5 (pI u 30 x2.toNatClampNeg p1) v2 x3 (fl_I h rfl)))))
theorem ql_J7_fill_53178_30_5 (u0 : ac_U) (p1 : Int32) : ∀ n : Nat, ∀ (u : ac_U) (x2 : Int32) (x3 : Int32), ac_Fl u0 u → ac_Fl u0 (K_J7_fill_53178_30_5 u0 p1 n u x2 x3)
  | 0 => fun u _ _ h => h
  | n + 1 => fun u x2 x3 h => ql_J7_fill_53178_30_5_b u0 p1 (K_J7_fill_53178_30_5 u0 p1 n) (ql_J7_fill_53178_30_5 u0 p1 n) u x2 x3 h
theorem ql_J7_fill_53178_30 (u0 : ac_U) (p1 : Int32) : ac_Fl u0 (f_J7_fill_53178_30 u0 p1) := by
  unfold f_J7_fill_53178_30
  exact (ql_J7_fill_53178_30_5 u0 p1 22 u0 (0 : Int32) (20 : Int32) ac_Fl.rf)
theorem ql_X5_weigh_29_161 (u0 : ac_U) (p0 : Int32) (p1 : Int32) (B104 : ac_U → Int32 → Int32 → ac_U) (hB104 : ∀ (u : ac_U) (x4 : Int32) (x5 : Int32), ac_Fl u0 u → ac_Fl u0 (B104 u x4 x5)) (u : ac_U) (x4 : Int32) (x5 : Int32) (h : ac_Fl u0 u) : ac_Fl u0 (K_X5_weigh_29_161 B104 u0 p0 p1 u x4 x5) := by
  unfold K_X5_weigh_29_161
  exact (fl_vlv (fun (v1 : Int32) => (hB104 u x4 v1 h)))
theorem ql_X5_weigh_29_104_b (u0 : ac_U) (p0 : Int32) (p1 : Int32) (B104 : ac_U → Int32 → Int32 → ac_U) (hB104 : ∀ (u : ac_U) (x4 : Int32) (x5 : Int32), ac_Fl u0 u → ac_Fl u0 (B104 u x4 x5)) (u : ac_U) (x4 : Int32) (x5 : Int32) (h : ac_Fl u0 u) : ac_Fl u0 (K_X5_weigh_29_104_b B104 u0 p0 p1 u x4 x5) := by
  unfold K_X5_weigh_29_104_b
  exact (fl_ifv h (fl_vlv (fun (r4 : Int32) => (fl_ifv (ql_X5_weigh_29_161 u0 p0 p1 B104 hB104 u x4 x5 h) (fl_vlv (fun (r6 : Int32) => (fl_ifv (ql_X5_weigh_29_161 u0 p0 p1 B104 hB104 u x4 x5 h) (fl_cvv (h.tr (ql_X5_weighDeed_29 u p0 p1 x5) (by decide)) (fun (u8 : ac_U) h8 => (ql_X5_weigh_29_161 u0 p0 p1 B104 hB104 u8 x4 x5 h8))))))))))
theorem ql_X5_weigh_29_104 (u0 : ac_U) (p0 : Int32) (p1 : Int32) : ∀ n : Nat, ∀ (u : ac_U) (x4 : Int32) (x5 : Int32), ac_Fl u0 u → ac_Fl u0 (K_X5_weigh_29_104 u0 p0 p1 n u x4 x5)
  | 0 => fun u _ _ h => h
  | n + 1 => fun u x4 x5 h => ql_X5_weigh_29_104_b u0 p0 p1 (K_X5_weigh_29_104 u0 p0 p1 n) (ql_X5_weigh_29_104 u0 p0 p1 n) u x4 x5 h
theorem ql_X5_weigh_29_84 (u0 : ac_U) (p0 : Int32) (p1 : Int32) (u : ac_U) (x4 : Int32) (z1 : Int32) (z2 : Int32) (h : ac_Fl u0 u) : ac_Fl u0 (K_X5_weigh_29_84 u0 p0 p1 u x4 z1 z2) := by
  unfold K_X5_weigh_29_84
  exact (fl_vlv (fun (v9 : Int32) => (fl_cvv ((fl_I (fl_I h rfl) rfl).tr (ql_J7_fill_53178_30 (pI (pI u 29 6 v9) 29 4 (0 : Int32)) (0 : Int32)) (by decide)) (fun (u10 : ac_U) h10 => (ql_X5_weigh_29_104 u0 p0 p1 82 u10 x4 (0 : Int32) h10)))))
theorem ql_X5_weigh_29_11 (u0 : ac_U) (p0 : Int32) (p1 : Int32) (u : ac_U) (z0 : Int32) (h : ac_Fl u0 u) : ac_Fl u0 (K_X5_weigh_29_11 u0 p0 p1 u z0) := by
  unfold K_X5_weigh_29_11
  exact (fl_vlv (fun (r11 : Int32) => (fl_vlv (fun (v12 : Int32) => (fl_vlv (fun (v14 : Int32) => (fl_vlv (fun (v15 : Int32) => (fl_vlv (fun (v16 : Int32) => (fl_vlv (fun (v17 : Int32) => (fl_vlv (fun (r18 : Int32) => (fl_vlv (fun (r19 : Int32) => (fl_ifv (ql_X5_weigh_29_84 u0 p0 p1 (pI u 29 5 v15) v17 r18 (1 : Int32) (fl_I h rfl)) (ql_X5_weigh_29_84 u0 p0 p1 (pI u 29 5 v15) v17 r18 (0 : Int32) (fl_I h rfl)))))))))))))))))))
theorem ql_X5_weigh_29 (u0 : ac_U) (p0 : Int32) (p1 : Int32) : ac_Fl u0 (f_X5_weigh_29 u0 p0 p1) := by
  unfold f_X5_weigh_29
  exact (fl_vlv (fun (v21 : Int32) => (fl_ifv (ql_X5_weigh_29_11 u0 p0 p1 u0 (0 : Int32) ac_Fl.rf) (ql_X5_weigh_29_11 u0 p0 p1 u0 (1 : Int32) ac_Fl.rf))))
theorem ql_X5_brokenDay_29_92 (u0 : ac_U) (p0 : Int32) (p1 : Int32) (u : ac_U) (h : ac_Fl u0 u) : ac_Fl u0 (K_X5_brokenDay_29_92 u0 p0 p1 u).1 := by
  unfold K_X5_brokenDay_29_92
  exact h
theorem ql_X5_brokenDay_29_86 (u0 : ac_U) (p0 : Int32) (p1 : Int32) (B49 : ac_U → Int32 → Int32 → ac_U × Int32) (hB49 : ∀ (u : ac_U) (x3 : Int32) (x4 : Int32), ac_Fl u0 u → ac_Fl u0 (B49 u x3 x4).1) (u : ac_U) (x3 : Int32) (x4 : Int32) (h : ac_Fl u0 u) : ac_Fl u0 (K_X5_brokenDay_29_86 B49 u0 p0 p1 u x3 x4).1 := by
  unfold K_X5_brokenDay_29_86
  exact (fl_vl (fun (v1 : Int32) => (hB49 u x3 v1 h)))
theorem ql_X5_brokenDay_29_49_b (u0 : ac_U) (p0 : Int32) (p1 : Int32) (B49 : ac_U → Int32 → Int32 → ac_U × Int32) (hB49 : ∀ (u : ac_U) (x3 : Int32) (x4 : Int32), ac_Fl u0 u → ac_Fl u0 (B49 u x3 x4).1) (u : ac_U) (x3 : Int32) (x4 : Int32) (h : ac_Fl u0 u) : ac_Fl u0 (K_X5_brokenDay_29_49_b B49 u0 p0 p1 u x3 x4).1 := by
  unfold K_X5_brokenDay_29_49_b
  exact (fl_if (ql_X5_brokenDay_29_92 u0 p0 p1 u h) (fl_vl (fun (r3 : Int32) => (fl_if (ql_X5_brokenDay_29_92 u0 p0 p1 u h) (fl_vl (fun (r5 : Int32) => (fl_if (ql_X5_brokenDay_29_86 u0 p0 p1 B49 hB49 u x3 x4 h) (fl_vl (fun (r7 : Int32) => (fl_if (ql_X5_brokenDay_29_86 u0 p0 p1 B49 hB49 u x3 x4 h) h))))))))))
theorem ql_X5_brokenDay_29_49 (u0 : ac_U) (p0 : Int32) (p1 : Int32) : ∀ n : Nat, ∀ (u : ac_U) (x3 : Int32) (x4 : Int32), ac_Fl u0 u → ac_Fl u0 (K_X5_brokenDay_29_49 u0 p0 p1 n u x3 x4).1
  | 0 => fun u _ _ h => h
  | n + 1 => fun u x3 x4 h => ql_X5_brokenDay_29_49_b u0 p0 p1 (K_X5_brokenDay_29_49 u0 p0 p1 n) (ql_X5_brokenDay_29_49 u0 p0 p1 n) u x3 x4 h
theorem ql_X5_brokenDay_29_42 (u0 : ac_U) (p0 : Int32) (p1 : Int32) (u : ac_U) (z0 : Int32) (h : ac_Fl u0 u) : ac_Fl u0 (K_X5_brokenDay_29_42 u0 p0 p1 u z0).1 := by
  unfold K_X5_brokenDay_29_42
  exact (ql_X5_brokenDay_29_49 u0 p0 p1 124 u z0 (u.1 29 6) h)
theorem ql_X5_brokenDay_29 (u0 : ac_U) (p0 : Int32) (p1 : Int32) : ac_Fl u0 (f_X5_brokenDay_29 u0 p0 p1).1 := by
  unfold f_X5_brokenDay_29
  exact (fl_vl (fun (r10 : Int32) => (fl_if (fl_cv (ac_Fl.rf.tr (ql_X5_weigh_29 u0 p0 p1) (by decide)) (fun (u12 : ac_U) h12 => (fl_vl (fun (r13 : Int32) => (fl_if (ql_X5_brokenDay_29_42 u0 p0 p1 u12 (u12.1 29 6) h12) (ql_X5_brokenDay_29_42 u0 p0 p1 u12 (19 : Int32) h12)))))) ac_Fl.rf)))
theorem ql_X5_brokenCount_29_31 (u0 : ac_U) (B4 : ac_U → Int32 → Int32 → ac_U × Int32) (hB4 : ∀ (u : ac_U) (x1 : Int32) (x2 : Int32), ac_Fl u0 u → ac_Fl u0 (B4 u x1 x2).1) (u : ac_U) (x2 : Int32) (z0 : Int32) (z1 : Int32) (h : ac_Fl u0 u) : ac_Fl u0 (K_X5_brokenCount_29_31 B4 u0 u x2 z0 z1).1 := by
  unfold K_X5_brokenCount_29_31
  exact (fl_vl (fun (v1 : Int32) => (fl_vl (fun (v2 : Int32) => (hB4 u v1 v2 h)))))
theorem ql_X5_brokenCount_29_4_b (u0 : ac_U) (B4 : ac_U → Int32 → Int32 → ac_U × Int32) (hB4 : ∀ (u : ac_U) (x1 : Int32) (x2 : Int32), ac_Fl u0 u → ac_Fl u0 (B4 u x1 x2).1) (u : ac_U) (x1 : Int32) (x2 : Int32) (h : ac_Fl u0 u) : ac_Fl u0 (K_X5_brokenCount_29_4_b B4 u0 u x1 x2).1 := by
  unfold K_X5_brokenCount_29_4_b
  exact (fl_if h (fl_bd (h.tr (ql_X5_brokenDay_29 u x2 (0 : Int32)) (by decide)) (fun (u5 : ac_U) (r5 : Int32) h5 => (fl_if (ql_X5_brokenCount_29_31 u0 B4 hB4 u5 x2 x1 (0 : Int32) h5) (ql_X5_brokenCount_29_31 u0 B4 hB4 u5 x2 x1 (1 : Int32) h5)))))
theorem ql_X5_brokenCount_29_4 (u0 : ac_U) : ∀ n : Nat, ∀ (u : ac_U) (x1 : Int32) (x2 : Int32), ac_Fl u0 u → ac_Fl u0 (K_X5_brokenCount_29_4 u0 n u x1 x2).1
  | 0 => fun u _ _ h => h
  | n + 1 => fun u x1 x2 h => ql_X5_brokenCount_29_4_b u0 (K_X5_brokenCount_29_4 u0 n) (ql_X5_brokenCount_29_4 u0 n) u x1 x2 h
theorem ql_X5_brokenCount_29 (u0 : ac_U) : ac_Fl u0 (f_X5_brokenCount_29 u0).1 := by
  unfold f_X5_brokenCount_29
  exact (ql_X5_brokenCount_29_4 u0 10 u0 (0 : Int32) (0 : Int32) ac_Fl.rf)
theorem ql_X6_remember_24 (u0 : ac_U) : ac_Fl u0 (f_X6_remember_24 u0) := by
  unfold f_X6_remember_24
  exact (fl_vlv (fun (v2 : Int32) => (fl_vlv (fun (v3 : Int32) => (fl_vlv (fun (v4 : Int32) => (fl_vlv (fun (v6 : Int32) => (fl_vlv (fun (v7 : Int32) => (fl_I (fl_I (fl_C ac_Fl.rf (fun _ => rfl)) rfl) rfl)))))))))))
theorem ql_X6_setAside_24 (u0 : ac_U) : ac_Fl u0 (f_X6_setAside_24 u0) := by
  unfold f_X6_setAside_24
  exact (fl_C ac_Fl.rf (fun _ => rfl))
theorem ql_X6_takeBack_24 (u0 : ac_U) : ac_Fl u0 (f_X6_takeBack_24 u0) := by
  unfold f_X6_takeBack_24
  exact (fl_C ac_Fl.rf (fun _ => rfl))
theorem ql_X11_daybook_0_97 (u0 : ac_U) (p0 : Int32) (u : ac_U) (h : ac_Fl u0 u) : ac_Fl u0 (K_X11_daybook_0_97 u0 p0 u).1 := by
  unfold K_X11_daybook_0_97
  exact (fl_if h h)
theorem ql_X11_daybook_0_56 (u0 : ac_U) (p0 : Int32) (u : ac_U) (h : ac_Fl u0 u) : ac_Fl u0 (K_X11_daybook_0_56 u0 p0 u).1 := by
  unfold K_X11_daybook_0_56
  exact (fl_cv (h.tr (ql_X6_setAside_24 u) (by decide)) (fun (u3 : ac_U) h3 => (fl_cv (h3.tr (ql_X0_live_39 u3) (by decide)) (fun (u4 : ac_U) h4 => (fl_bd (h4.tr (ql_X5_brokenCount_29 u4) (by decide)) (fun (u5 : ac_U) (r5 : Int32) h5 => (fl_if (ql_X11_daybook_0_97 u0 p0 (pI (pI u5 0 13 r5) 0 14 (1 : Int32)) (fl_I (fl_I h5 rfl) rfl)) (fl_cv ((fl_I (fl_I h5 rfl) rfl).tr (ql_X6_takeBack_24 (pI (pI u5 0 13 r5) 0 14 (1 : Int32))) (by decide)) (fun (u7 : ac_U) h7 => (ql_X11_daybook_0_97 u0 p0 u7 h7))))))))))
theorem ql_X11_daybook_0_13 (u0 : ac_U) (p0 : Int32) (u : ac_U) (h : ac_Fl u0 u) : ac_Fl u0 (K_X11_daybook_0_13 u0 p0 u).1 := by
  unfold K_X11_daybook_0_13
  exact (fl_bd (h.tr (ql_X0_readWhole_39 u) (by decide)) (fun (u8 : ac_U) (r8 : Int32) h8 => (fl_if (fl_if (ql_X11_daybook_0_56 u0 p0 (pI u8 1 2 (0 : Int32)) (fl_I h8 rfl)) (fl_cv ((fl_I h8 rfl).tr (ql_X6_remember_24 (pI u8 1 2 (0 : Int32))) (by decide)) (fun (u11 : ac_U) h11 => (ql_X11_daybook_0_56 u0 p0 u11 h11)))) (fl_vl (fun (v13 : Int32) => (fl_I h8 rfl))))))
theorem ql_X11_daybook_0 (u0 : ac_U) (p0 : Int32) : ac_Fl u0 (f_X11_daybook_0 u0 p0).1 := by
  unfold f_X11_daybook_0
  exact (fl_if (ql_X11_daybook_0_13 u0 p0 u0 ac_Fl.rf) (fl_if (ql_X11_daybook_0_13 u0 p0 u0 ac_Fl.rf) ac_Fl.rf))
theorem ql_X12_does_85 (u0 : ac_U) (p0 : Int32) (p1 : Int32) : ac_Fl u0 (f_X12_does_85 u0 p0 p1) := by
  unfold f_X12_does_85
  exact (fl_vlv (fun (v2 : Int32) => (fl_vlv (fun (v3 : Int32) => (fl_vlv (fun (v5 : Int32) => (fl_vlv (fun (v6 : Int32) => (fl_vlv (fun (v7 : Int32) => (fl_vlv (fun (v8 : Int32) => (fl_vlv (fun (v9 : Int32) => (fl_vlv (fun (v10 : Int32) => (fl_vlv (fun (v11 : Int32) => (fl_vlv (fun (v12 : Int32) => (fl_vlv (fun (v13 : Int32) => (fl_vlv (fun (v14 : Int32) => (fl_I (fl_I (fl_I (fl_I (fl_I (fl_I (fl_I ac_Fl.rf rfl) rfl) rfl) rfl) rfl) rfl) rfl)))))))))))))))))))))))))
theorem ql_X12_keep_85_48_b (u0 : ac_U) (B48 : ac_U → Int32 → ac_U) (hB48 : ∀ (u : ac_U) (x1 : Int32), ac_Fl u0 u → ac_Fl u0 (B48 u x1)) (u : ac_U) (x1 : Int32) (h : ac_Fl u0 u) : ac_Fl u0 (K_X12_keep_85_48_b B48 u0 u x1) := by
  unfold K_X12_keep_85_48_b
  exact (fl_ifv (fl_vlv (fun (v3 : Int32) => (fl_I h rfl))) (fl_vlv (fun (v5 : Int32) => (fl_vlv (fun (v6 : Int32) => (fl_vlv (fun (v7 : Int32) => (fl_vlv (fun (v8 : Int32) => (fl_vlv (fun (v9 : Int32) => (hB48 (pI u 93 v6.toNatClampNeg v8) v9 (fl_I h rfl)))))))))))))
theorem ql_X12_keep_85_48 (u0 : ac_U) : ∀ n : Nat, ∀ (u : ac_U) (x1 : Int32), ac_Fl u0 u → ac_Fl u0 (K_X12_keep_85_48 u0 n u x1)
  | 0 => fun u _ h => h
  | n + 1 => fun u x1 h => ql_X12_keep_85_48_b u0 (K_X12_keep_85_48 u0 n) (ql_X12_keep_85_48 u0 n) u x1 h
theorem ql_X12_keep_85_46 (u0 : ac_U) (u : ac_U) (h : ac_Fl u0 u) : ac_Fl u0 (K_X12_keep_85_46 u0 u) := by
  unfold K_X12_keep_85_46
  exact (ql_X12_keep_85_48 u0 372 u (0 : Int32) h)
theorem ql_X12_keep_85_11_b (u0 : ac_U) (B11 : ac_U → Int32 → ac_U) (hB11 : ∀ (u : ac_U) (x1 : Int32), ac_Fl u0 u → ac_Fl u0 (B11 u x1)) (u : ac_U) (x1 : Int32) (h : ac_Fl u0 u) : ac_Fl u0 (K_X12_keep_85_11_b B11 u0 u x1) := by
  unfold K_X12_keep_85_11_b
  exact (fl_ifv (ql_X12_keep_85_46 u0 (pI u 85 24 (7 : Int32)) (fl_I h rfl)) (fl_vlv (fun (v12 : Int32) => (fl_vlv (fun (v13 : Int32) => (fl_vlv (fun (v14 : Int32) => (hB11 (pI u 93 x1.toNatClampNeg v13) v14 (fl_I h rfl)))))))))
theorem ql_X12_keep_85_11 (u0 : ac_U) : ∀ n : Nat, ∀ (u : ac_U) (x1 : Int32), ac_Fl u0 u → ac_Fl u0 (K_X12_keep_85_11 u0 n u x1)
  | 0 => fun u _ h => h
  | n + 1 => fun u x1 h => ql_X12_keep_85_11_b u0 (K_X12_keep_85_11 u0 n) (ql_X12_keep_85_11 u0 n) u x1 h
theorem ql_X12_keep_85 (u0 : ac_U) : ac_Fl u0 (f_X12_keep_85 u0) := by
  unfold f_X12_keep_85
  exact (fl_ifv (ql_X12_keep_85_46 u0 u0 ac_Fl.rf) (ql_X12_keep_85_11 u0 2592 u0 (0 : Int32) ac_Fl.rf))
theorem ql_X12_back_85_2_b (u0 : ac_U) (B2 : ac_U → Int32 → ac_U) (hB2 : ∀ (u : ac_U) (x1 : Int32), ac_Fl u0 u → ac_Fl u0 (B2 u x1)) (u : ac_U) (x1 : Int32) (h : ac_Fl u0 u) : ac_Fl u0 (K_X12_back_85_2_b B2 u0 u x1) := by
  unfold K_X12_back_85_2_b
  exact (fl_ifv h (fl_vlv (fun (v2 : Int32) => (fl_vlv (fun (v3 : Int32) => (fl_vlv (fun (v4 : Int32) => (hB2 (pI u 87 v2.toNatClampNeg v3) v4 (fl_I h rfl)))))))))
theorem ql_X12_back_85_2 (u0 : ac_U) : ∀ n : Nat, ∀ (u : ac_U) (x1 : Int32), ac_Fl u0 u → ac_Fl u0 (K_X12_back_85_2 u0 n u x1)
  | 0 => fun u _ h => h
  | n + 1 => fun u x1 h => ql_X12_back_85_2_b u0 (K_X12_back_85_2 u0 n) (ql_X12_back_85_2 u0 n) u x1 h
theorem ql_X12_back_85 (u0 : ac_U) : ac_Fl u0 (f_X12_back_85 u0) := by
  unfold f_X12_back_85
  exact (ql_X12_back_85_2 u0 372 u0 (0 : Int32) ac_Fl.rf)
theorem ql_X12_bookLine_85_160 (u0 : ac_U) (u : ac_U) (x1 : Int32) (z0 : Int32) (h : ac_Fl u0 u) : ac_Fl u0 (K_X12_bookLine_85_160 u0 u x1 z0).1 := by
  unfold K_X12_bookLine_85_160
  exact (fl_if (fl_cv ((fl_I h rfl).tr (ql_X12_next_85 (pI u 89 x1.toNatClampNeg z0)) (by decide)) (fun (u2 : ac_U) h2 => (fl_if (fl_if (fl_if (fl_if (fl_bd (h2.tr (ql_X12_takesName_85 u2 (18 : Int32) (u2.1 87 6)) (by decide)) (fun (u8 : ac_U) (r8 : Int32) h8 => (fl_if (fl_vl (fun (v10 : Int32) => (fl_I h8 rfl))) h8))) h2) h2) (fl_if (fl_if h2 (fl_bd (h2.tr (ql_X12_takesName_85 u2 (12 : Int32) (u2.1 87 5)) (by decide)) (fun (u16 : ac_U) (r16 : Int32) h16 => (fl_if (fl_vl (fun (v18 : Int32) => (fl_I h16 rfl))) h16)))) h2)) (fl_if h2 (fl_bd (h2.tr (ql_X12_takesName_85 u2 (0 : Int32) (u2.1 87 1)) (by decide)) (fun (u23 : ac_U) (r23 : Int32) h23 => (fl_if (fl_vl (fun (v25 : Int32) => (fl_I h23 rfl))) h23))))))) (fl_bd (h.tr (ql_X12_bad_85 u (1 : Int32)) (by decide)) (fun (u28 : ac_U) (r28 : Int32) h28 => h28)))
theorem ql_X12_bookLine_85 (u0 : ac_U) : ac_Fl u0 (f_X12_bookLine_85 u0).1 := by
  unfold f_X12_bookLine_85
  exact (fl_vl (fun (v31 : Int32) => (fl_vl (fun (r32 : Int32) => (fl_if (fl_bd (ac_Fl.rf.tr (ql_X12_looksAt_85 u0 (8 : Int32) (u0.1 87 4)) (by decide)) (fun (u35 : ac_U) (r35 : Int32) h35 => (fl_if (fl_if (fl_vl (fun (v38 : Int32) => (fl_cv ((fl_I h35 rfl).tr (ql_X12_next_85 (pI u35 89 v38.toNatClampNeg (u35.1 85 18))) (by decide)) (fun (u39 : ac_U) h39 => (fl_vl (fun (r40 : Int32) => (fl_if (fl_vl (fun (r42 : Int32) => (fl_if (fl_vl (fun (r44 : Int32) => (fl_if (ql_X12_bookLine_85_160 u0 u39 v31 (-1 : Int32) h39) (ql_X12_bookLine_85_160 u0 u39 v31 (2 : Int32) h39)))) (ql_X12_bookLine_85_160 u0 u39 v31 (1 : Int32) h39)))) (ql_X12_bookLine_85_160 u0 u39 v31 (0 : Int32) h39)))))))) (fl_bd (h35.tr (ql_X12_bad_85 u35 (4 : Int32)) (by decide)) (fun (u46 : ac_U) (r46 : Int32) h46 => h46))) h35))) (fl_if (fl_cv (ac_Fl.rf.tr (ql_X12_next_85 u0) (by decide)) (fun (u50 : ac_U) h50 => (fl_bd (h50.tr (ql_X12_takes_85 u50 (1 : Int32) (99 : Int32)) (by decide)) (fun (u51 : ac_U) (r51 : Int32) h51 => (fl_if (fl_vl (fun (v53 : Int32) => (fl_I (fl_I h51 rfl) rfl))) h51))))) (fl_bd (ac_Fl.rf.tr (ql_X12_bad_85 u0 (4 : Int32)) (by decide)) (fun (u56 : ac_U) (r56 : Int32) h56 => h56))))))))
theorem ql_X12_goes_85 (u0 : ac_U) (p0 : Int32) (p1 : Int32) : ac_Fl u0 (f_X12_goes_85 u0 p0 p1) := by
  unfold f_X12_goes_85
  exact (fl_vlv (fun (v2 : Int32) => (fl_vlv (fun (v5 : Int32) => (fl_vlv (fun (v6 : Int32) => (fl_vlv (fun (v7 : Int32) => (fl_vlv (fun (v8 : Int32) => (fl_I (fl_I (fl_I ac_Fl.rf rfl) rfl) rfl)))))))))))
theorem ql_X12_hour_85_13_b (u0 : ac_U) (B13 : ac_U → Int32 → ac_U) (hB13 : ∀ (u : ac_U) (x1 : Int32), ac_Fl u0 u → ac_Fl u0 (B13 u x1)) (u : ac_U) (x1 : Int32) (h : ac_Fl u0 u) : ac_Fl u0 (K_X12_hour_85_13_b B13 u0 u x1) := by
  unfold K_X12_hour_85_13_b
  exact (fl_ifv h (fl_vlv (fun (v4 : Int32) => (fl_vlv (fun (v7 : Int32) => (hB13 (pI u 87 v4.toNatClampNeg (0 : Int32)) v7 (fl_I h rfl)))))))
theorem ql_X12_hour_85_13 (u0 : ac_U) : ∀ n : Nat, ∀ (u : ac_U) (x1 : Int32), ac_Fl u0 u → ac_Fl u0 (K_X12_hour_85_13 u0 n u x1)
  | 0 => fun u _ h => h
  | n + 1 => fun u x1 h => ql_X12_hour_85_13_b u0 (K_X12_hour_85_13 u0 n) (ql_X12_hour_85_13 u0 n) u x1 h
theorem ql_X12_hour_85 (u0 : ac_U) : ac_Fl u0 (f_X12_hour_85 u0) := by
  unfold f_X12_hour_85
  exact (fl_vlv (fun (v9 : Int32) => (ql_X12_hour_85_13 u0 6 (pI u0 87 106 v9) (0 : Int32) (fl_I ac_Fl.rf rfl))))
theorem ql_X12_says_85_81 (u0 : ac_U) (p0 : Int32) (p1 : Int32) (B39 : ac_U → Int32 → ac_U) (hB39 : ∀ (u : ac_U) (x3 : Int32), ac_Fl u0 u → ac_Fl u0 (B39 u x3)) (u : ac_U) (x3 : Int32) (h : ac_Fl u0 u) : ac_Fl u0 (K_X12_says_85_81 B39 u0 p0 p1 u x3) := by
  unfold K_X12_says_85_81
  exact (fl_vlv (fun (v1 : Int32) => (hB39 u v1 h)))
theorem ql_X12_says_85_39_b (u0 : ac_U) (p0 : Int32) (p1 : Int32) (B39 : ac_U → Int32 → ac_U) (hB39 : ∀ (u : ac_U) (x3 : Int32), ac_Fl u0 u → ac_Fl u0 (B39 u x3)) (u : ac_U) (x3 : Int32) (h : ac_Fl u0 u) : ac_Fl u0 (K_X12_says_85_39_b B39 u0 p0 p1 u x3) := by
  unfold K_X12_says_85_39_b
  exact (fl_ifv h (fl_vlv (fun (v4 : Int32) => (fl_vlv (fun (v5 : Int32) => (fl_vlv (fun (v6 : Int32) => (fl_vlv (fun (v7 : Int32) => (fl_ifv (ql_X12_says_85_81 u0 p0 p1 B39 hB39 u x3 h) (fl_vlv (fun (v9 : Int32) => (ql_X12_says_85_81 u0 p0 p1 B39 hB39 (pI u 87 v9.toNatClampNeg (1 : Int32)) x3 (fl_I h rfl))))))))))))))
theorem ql_X12_says_85_39 (u0 : ac_U) (p0 : Int32) (p1 : Int32) : ∀ n : Nat, ∀ (u : ac_U) (x3 : Int32), ac_Fl u0 u → ac_Fl u0 (K_X12_says_85_39 u0 p0 p1 n u x3)
  | 0 => fun u _ h => h
  | n + 1 => fun u x3 h => ql_X12_says_85_39_b u0 p0 p1 (K_X12_says_85_39 u0 p0 p1 n) (ql_X12_says_85_39 u0 p0 p1 n) u x3 h
theorem ql_X12_says_85 (u0 : ac_U) (p0 : Int32) (p1 : Int32) : ac_Fl u0 (f_X12_says_85 u0 p0 p1) := by
  unfold f_X12_says_85
  exact (fl_vlv (fun (v10 : Int32) => (fl_vlv (fun (v12 : Int32) => (fl_vlv (fun (v13 : Int32) => (fl_vlv (fun (v14 : Int32) => (fl_vlv (fun (v15 : Int32) => (ql_X12_says_85_39 u0 p0 p1 8 (pI (pI u0 87 v10.toNatClampNeg v12) 87 v13.toNatClampNeg v15) (0 : Int32) (fl_I (fl_I ac_Fl.rf rfl) rfl))))))))))))
theorem ql_X12_lives_85_143_b (u0 : ac_U) (p0 : Int32) (B143 : ac_U → Int32 → Int32 → ac_U × Int32) (hB143 : ∀ (u : ac_U) (x2 : Int32) (x5 : Int32), ac_Fl u0 u → ac_Fl u0 (B143 u x2 x5).1) (u : ac_U) (x2 : Int32) (x5 : Int32) (h : ac_Fl u0 u) : ac_Fl u0 (K_X12_lives_85_143_b B143 u0 p0 u x2 x5).1 := by
  unfold K_X12_lives_85_143_b
  exact (fl_if h (fl_cv (h.tr (ql_X12_hour_85 u) (by decide)) (fun (u5 : ac_U) h5 => (fl_vl (fun (v8 : Int32) => (hB143 u5 x2 v8 h5))))))
theorem ql_X12_lives_85_143 (u0 : ac_U) (p0 : Int32) : ∀ n : Nat, ∀ (u : ac_U) (x2 : Int32) (x5 : Int32), ac_Fl u0 u → ac_Fl u0 (K_X12_lives_85_143 u0 p0 n u x2 x5).1
  | 0 => fun u _ _ h => h
  | n + 1 => fun u x2 x5 h => ql_X12_lives_85_143_b u0 p0 (K_X12_lives_85_143 u0 p0 n) (ql_X12_lives_85_143 u0 p0 n) u x2 x5 h
theorem ql_X12_lives_85_114 (u0 : ac_U) (p0 : Int32) (u : ac_U) (x4 : Int32) (h : ac_Fl u0 u) : ac_Fl u0 (K_X12_lives_85_114 u0 p0 u x4).1 := by
  unfold K_X12_lives_85_114
  exact h
theorem ql_X12_lives_85_92 (u0 : ac_U) (p0 : Int32) (u : ac_U) (x4 : Int32) (h : ac_Fl u0 u) : ac_Fl u0 (K_X12_lives_85_92 u0 p0 u x4).1 := by
  unfold K_X12_lives_85_92
  exact h
theorem ql_X12_lives_85_71 (u0 : ac_U) (p0 : Int32) (u : ac_U) (x4 : Int32) (h : ac_Fl u0 u) : ac_Fl u0 (K_X12_lives_85_71 u0 p0 u x4).1 := by
  unfold K_X12_lives_85_71
  exact h
theorem ql_X12_lives_85 (u0 : ac_U) (p0 : Int32) : ac_Fl u0 (f_X12_lives_85 u0 p0).1 := by
  unfold f_X12_lives_85
  exact (fl_vl (fun (v9 : Int32) => (fl_vl (fun (v10 : Int32) => (fl_vl (fun (v11 : Int32) => (fl_vl (fun (v12 : Int32) => (fl_vl (fun (v13 : Int32) => (fl_if (fl_vl (fun (v16 : Int32) => (fl_vl (fun (v18 : Int32) => (fl_if (ql_X12_lives_85_143 u0 p0 101 u0 v10 (0 : Int32) ac_Fl.rf) ac_Fl.rf))))) (fl_if (fl_vl (fun (r20 : Int32) => (fl_if (ql_X12_lives_85_71 u0 p0 u0 r20 ac_Fl.rf) (fl_cv (ac_Fl.rf.tr (ql_X12_goes_85 u0 v10 v12) (by decide)) (fun (u23 : ac_U) h23 => (ql_X12_lives_85_71 u0 p0 u23 r20 h23)))))) (fl_if (fl_vl (fun (r26 : Int32) => (fl_if (ql_X12_lives_85_92 u0 p0 u0 r26 ac_Fl.rf) (fl_cv (ac_Fl.rf.tr (ql_X12_does_85 u0 v10 v12) (by decide)) (fun (u29 : ac_U) h29 => (ql_X12_lives_85_92 u0 p0 u29 r26 h29)))))) (fl_vl (fun (r32 : Int32) => (fl_if (ql_X12_lives_85_114 u0 p0 u0 r32 ac_Fl.rf) (fl_cv (ac_Fl.rf.tr (ql_X12_says_85 u0 v10 v12) (by decide)) (fun (u34 : ac_U) h34 => (ql_X12_lives_85_114 u0 p0 u34 r32 h34)))))))))))))))))))
theorem ql_X12_now_85_80 (u0 : ac_U) (p0 : Int32) (B15 : ac_U → Int32 → Int32 → Int32 → Int32 → ac_U × Int32) (hB15 : ∀ (u : ac_U) (x2 : Int32) (x3 : Int32) (x4 : Int32) (x5 : Int32), ac_Fl u0 u → ac_Fl u0 (B15 u x2 x3 x4 x5).1) (u : ac_U) (x2 : Int32) (x3 : Int32) (x5 : Int32) (z0 : Int32) (z1 : Int32) (h : ac_Fl u0 u) : ac_Fl u0 (K_X12_now_85_80 B15 u0 p0 u x2 x3 x5 z0 z1).1 := by
  unfold K_X12_now_85_80
  exact (fl_vl (fun (v1 : Int32) => (fl_vl (fun (v2 : Int32) => (hB15 u x2 x3 v1 v2 h)))))
theorem ql_X12_now_85_46 (u0 : ac_U) (p0 : Int32) (B15 : ac_U → Int32 → Int32 → Int32 → Int32 → ac_U × Int32) (hB15 : ∀ (u : ac_U) (x2 : Int32) (x3 : Int32) (x4 : Int32) (x5 : Int32), ac_Fl u0 u → ac_Fl u0 (B15 u x2 x3 x4 x5).1) (u : ac_U) (x3 : Int32) (x4 : Int32) (x5 : Int32) (z0 : Int32) (z1 : Int32) (h : ac_Fl u0 u) : ac_Fl u0 (K_X12_now_85_46 B15 u0 p0 u x3 x4 x5 z0 z1).1 := by
  unfold K_X12_now_85_46
  exact (fl_vl (fun (v4 : Int32) => (fl_vl (fun (v5 : Int32) => (fl_vl (fun (v6 : Int32) => (fl_vl (fun (v7 : Int32) => (fl_vl (fun (r8 : Int32) => (fl_if (ql_X12_now_85_80 u0 p0 B15 hB15 u v4 v7 x5 x4 (0 : Int32) h) (ql_X12_now_85_80 u0 p0 B15 hB15 u v4 v7 x5 x4 (1 : Int32) h))))))))))))
theorem ql_X12_now_85_15_b (u0 : ac_U) (p0 : Int32) (B15 : ac_U → Int32 → Int32 → Int32 → Int32 → ac_U × Int32) (hB15 : ∀ (u : ac_U) (x2 : Int32) (x3 : Int32) (x4 : Int32) (x5 : Int32), ac_Fl u0 u → ac_Fl u0 (B15 u x2 x3 x4 x5).1) (u : ac_U) (x2 : Int32) (x3 : Int32) (x4 : Int32) (x5 : Int32) (h : ac_Fl u0 u) : ac_Fl u0 (K_X12_now_85_15_b B15 u0 p0 u x2 x3 x4 x5).1 := by
  unfold K_X12_now_85_15_b
  exact (fl_if (fl_if h (fl_if (fl_vl (fun (r17 : Int32) => h)) (fl_if (fl_vl (fun (v20 : Int32) => h)) (fl_if h (fl_if h (fl_if h h)))))) (fl_vl (fun (v22 : Int32) => (fl_vl (fun (v23 : Int32) => (fl_if (ql_X12_now_85_46 u0 p0 B15 hB15 u x3 x4 x5 x2 (0 : Int32) h) (ql_X12_now_85_46 u0 p0 B15 hB15 u x3 x4 x5 x2 (1 : Int32) h)))))))
theorem ql_X12_now_85_15 (u0 : ac_U) (p0 : Int32) : ∀ n : Nat, ∀ (u : ac_U) (x2 : Int32) (x3 : Int32) (x4 : Int32) (x5 : Int32), ac_Fl u0 u → ac_Fl u0 (K_X12_now_85_15 u0 p0 n u x2 x3 x4 x5).1
  | 0 => fun u _ _ _ _ h => h
  | n + 1 => fun u x2 x3 x4 x5 h => ql_X12_now_85_15_b u0 p0 (K_X12_now_85_15 u0 p0 n) (ql_X12_now_85_15 u0 p0 n) u x2 x3 x4 x5 h
theorem ql_X12_now_85 (u0 : ac_U) (p0 : Int32) : ac_Fl u0 (f_X12_now_85 u0 p0).1 := by
  unfold f_X12_now_85
  exact (ql_X12_now_85_15 u0 p0 10 (pI u0 85 0 (0 : Int32)) (0 : Int32) (0 : Int32) (0 : Int32) (0 : Int32) (fl_I ac_Fl.rf rfl))
theorem ql_X12_tries_85_2_b (u0 : ac_U) (B2 : ac_U → Int32 → ac_U) (hB2 : ∀ (u : ac_U) (x1 : Int32), ac_Fl u0 u → ac_Fl u0 (B2 u x1)) (u : ac_U) (x1 : Int32) (h : ac_Fl u0 u) : ac_Fl u0 (K_X12_tries_85_2_b B2 u0 u x1) := by
  unfold K_X12_tries_85_2_b
  exact (fl_ifv h (fl_vlv (fun (v2 : Int32) => (fl_vlv (fun (v3 : Int32) => (fl_vlv (fun (v4 : Int32) => (hB2 (pI u 94 x1.toNatClampNeg v3) v4 (fl_I h rfl)))))))))
theorem ql_X12_tries_85_2 (u0 : ac_U) : ∀ n : Nat, ∀ (u : ac_U) (x1 : Int32), ac_Fl u0 u → ac_Fl u0 (K_X12_tries_85_2 u0 n u x1)
  | 0 => fun u _ h => h
  | n + 1 => fun u x1 h => ql_X12_tries_85_2_b u0 (K_X12_tries_85_2 u0 n) (ql_X12_tries_85_2 u0 n) u x1 h
theorem ql_X12_tries_85 (u0 : ac_U) : ac_Fl u0 (f_X12_tries_85 u0) := by
  unfold f_X12_tries_85
  exact (ql_X12_tries_85_2 u0 372 u0 (0 : Int32) ac_Fl.rf)
theorem ql_X12_daybook_85_259 (u0 : ac_U) (p0 : Int32) (u : ac_U) (x2 : Int32) (h : ac_Fl u0 u) : ac_Fl u0 (K_X12_daybook_85_259 u0 p0 u x2).1 := by
  unfold K_X12_daybook_85_259
  exact h
theorem ql_X12_daybook_85_251 (u0 : ac_U) (p0 : Int32) (u : ac_U) (x2 : Int32) (h : ac_Fl u0 u) : ac_Fl u0 (K_X12_daybook_85_251 u0 p0 u x2).1 := by
  unfold K_X12_daybook_85_251
  exact (fl_if (ql_X12_daybook_85_259 u0 p0 u x2 h) (fl_cv (h.tr (ql_X12_back_85 u) (by decide)) (fun (u4 : ac_U) h4 => (ql_X12_daybook_85_259 u0 p0 u4 x2 h4))))
theorem ql_X12_daybook_85_215_b (u0 : ac_U) (p0 : Int32) (B215 : ac_U → Int32 → Int32 → ac_U × Int32) (hB215 : ∀ (u : ac_U) (x2 : Int32) (x3 : Int32), ac_Fl u0 u → ac_Fl u0 (B215 u x2 x3).1) (u : ac_U) (x2 : Int32) (x3 : Int32) (h : ac_Fl u0 u) : ac_Fl u0 (K_X12_daybook_85_215_b B215 u0 p0 u x2 x3).1 := by
  unfold K_X12_daybook_85_215_b
  exact (fl_if (ql_X12_daybook_85_251 u0 p0 u x2 h) (fl_vl (fun (v10 : Int32) => (fl_vl (fun (v11 : Int32) => (fl_vl (fun (v12 : Int32) => (fl_vl (fun (v13 : Int32) => (fl_vl (fun (v14 : Int32) => (hB215 (pI u 93 v12.toNatClampNeg v13) x2 v14 (fl_I h rfl)))))))))))))
theorem ql_X12_daybook_85_215 (u0 : ac_U) (p0 : Int32) : ∀ n : Nat, ∀ (u : ac_U) (x2 : Int32) (x3 : Int32), ac_Fl u0 u → ac_Fl u0 (K_X12_daybook_85_215 u0 p0 n u x2 x3).1
  | 0 => fun u _ _ h => h
  | n + 1 => fun u x2 x3 h => ql_X12_daybook_85_215_b u0 p0 (K_X12_daybook_85_215 u0 p0 n) (ql_X12_daybook_85_215 u0 p0 n) u x2 x3 h
theorem ql_X12_daybook_85_166 (u0 : ac_U) (p0 : Int32) (u : ac_U) (x2 : Int32) (h : ac_Fl u0 u) : ac_Fl u0 (K_X12_daybook_85_166 u0 p0 u x2).1 := by
  unfold K_X12_daybook_85_166
  exact (fl_bd ((fl_I h rfl).tr (ql_X12_now_85 (pI u 99 2 (u.1 87 106)) (5 : Int32)) (by decide)) (fun (u18 : ac_U) (r18 : Int32) h18 => (fl_if (ql_X12_daybook_85_251 u0 p0 (pI (pI u18 99 3 r18) 85 37 (1 : Int32)) x2 (fl_I (fl_I h18 rfl) rfl)) (fl_if (ql_X12_daybook_85_251 u0 p0 (pI (pI u18 99 3 r18) 85 37 (1 : Int32)) x2 (fl_I (fl_I h18 rfl) rfl)) (fl_cv ((fl_I (fl_I h18 rfl) rfl).tr (ql_X12_keep_85 (pI (pI u18 99 3 r18) 85 37 (1 : Int32))) (by decide)) (fun (u22 : ac_U) h22 => (ql_X12_daybook_85_215 u0 p0 372 u22 x2 (0 : Int32) h22)))))))
theorem ql_X12_daybook_85_160 (u0 : ac_U) (p0 : Int32) (B111 : ac_U → Int32 → Int32 → ac_U × Int32) (hB111 : ∀ (u : ac_U) (x2 : Int32) (x3 : Int32), ac_Fl u0 u → ac_Fl u0 (B111 u x2 x3).1) (u : ac_U) (x2 : Int32) (x3 : Int32) (h : ac_Fl u0 u) : ac_Fl u0 (K_X12_daybook_85_160 B111 u0 p0 u x2 x3).1 := by
  unfold K_X12_daybook_85_160
  exact (fl_vl (fun (v24 : Int32) => (hB111 u x2 v24 h)))
theorem ql_X12_daybook_85_111_b (u0 : ac_U) (p0 : Int32) (B111 : ac_U → Int32 → Int32 → ac_U × Int32) (hB111 : ∀ (u : ac_U) (x2 : Int32) (x3 : Int32), ac_Fl u0 u → ac_Fl u0 (B111 u x2 x3).1) (u : ac_U) (x2 : Int32) (x3 : Int32) (h : ac_Fl u0 u) : ac_Fl u0 (K_X12_daybook_85_111_b B111 u0 p0 u x2 x3).1 := by
  unfold K_X12_daybook_85_111_b
  exact (fl_if (ql_X12_daybook_85_166 u0 p0 u x2 h) (fl_if (ql_X12_daybook_85_166 u0 p0 u x2 h) (fl_vl (fun (v34 : Int32) => (fl_bd (h.tr (ql_X12_lives_85 u v34) (by decide)) (fun (u35 : ac_U) (r35 : Int32) h35 => (fl_if (fl_vl (fun (v37 : Int32) => (ql_X12_daybook_85_160 u0 p0 B111 hB111 (pI (pI u35 99 0 r35) 99 1 v37) x2 x3 (fl_I (fl_I h35 rfl) rfl)))) (ql_X12_daybook_85_160 u0 p0 B111 hB111 (pI u35 99 0 r35) x3 x3 (fl_I h35 rfl)))))))))
theorem ql_X12_daybook_85_111 (u0 : ac_U) (p0 : Int32) : ∀ n : Nat, ∀ (u : ac_U) (x2 : Int32) (x3 : Int32), ac_Fl u0 u → ac_Fl u0 (K_X12_daybook_85_111 u0 p0 n u x2 x3).1
  | 0 => fun u _ _ h => h
  | n + 1 => fun u x2 x3 h => ql_X12_daybook_85_111_b u0 p0 (K_X12_daybook_85_111 u0 p0 n) (ql_X12_daybook_85_111 u0 p0 n) u x2 x3 h
theorem ql_X12_daybook_85_89_b (u0 : ac_U) (p0 : Int32) (B89 : ac_U → Int32 → ac_U × Int32) (hB89 : ∀ (u : ac_U) (x2 : Int32), ac_Fl u0 u → ac_Fl u0 (B89 u x2).1) (u : ac_U) (x2 : Int32) (h : ac_Fl u0 u) : ac_Fl u0 (K_X12_daybook_85_89_b B89 u0 p0 u x2).1 := by
  unfold K_X12_daybook_85_89_b
  exact (fl_if (ql_X12_daybook_85_111 u0 p0 42 u (-1 : Int32) (0 : Int32) h) (fl_vl (fun (v41 : Int32) => (hB89 (pI u 99 x2.toNatClampNeg (0 : Int32)) v41 (fl_I h rfl)))))
theorem ql_X12_daybook_85_89 (u0 : ac_U) (p0 : Int32) : ∀ n : Nat, ∀ (u : ac_U) (x2 : Int32), ac_Fl u0 u → ac_Fl u0 (K_X12_daybook_85_89 u0 p0 n u x2).1
  | 0 => fun u _ h => h
  | n + 1 => fun u x2 h => ql_X12_daybook_85_89_b u0 p0 (K_X12_daybook_85_89 u0 p0 n) (ql_X12_daybook_85_89 u0 p0 n) u x2 h
theorem ql_X12_daybook_85_62 (u0 : ac_U) (p0 : Int32) (u : ac_U) (h : ac_Fl u0 u) : ac_Fl u0 (K_X12_daybook_85_62 u0 p0 u).1 := by
  unfold K_X12_daybook_85_62
  exact (fl_vl (fun (v44 : Int32) => h))
theorem ql_X12_daybook_85_39_b (u0 : ac_U) (p0 : Int32) (B39 : ac_U → ac_U × Int32) (hB39 : ∀ (u : ac_U), ac_Fl u0 u → ac_Fl u0 (B39 u).1) (u : ac_U) (h : ac_Fl u0 u) : ac_Fl u0 (K_X12_daybook_85_39_b B39 u0 p0 u).1 := by
  unfold K_X12_daybook_85_39_b
  exact (fl_if (fl_cv (h.tr (ql_X12_tries_85 u) (by decide)) (fun (u47 : ac_U) h47 => (ql_X12_daybook_85_89 u0 p0 6 u47 (0 : Int32) h47))) (fl_bd (h.tr (ql_X12_bookLine_85 u) (by decide)) (fun (u49 : ac_U) (r49 : Int32) h49 => (fl_if (ql_X12_daybook_85_62 u0 p0 u49 h49) (fl_bd (h49.tr (ql_X12_sign_85 u49 (59 : Int32)) (by decide)) (fun (u53 : ac_U) (r53 : Int32) h53 => (fl_if (fl_vl (fun (v55 : Int32) => (hB39 (pI u53 85 35 v55) (fl_I h53 rfl)))) (ql_X12_daybook_85_62 u0 p0 u53 h53))))))))
theorem ql_X12_daybook_85_39 (u0 : ac_U) (p0 : Int32) : ∀ n : Nat, ∀ (u : ac_U), ac_Fl u0 u → ac_Fl u0 (K_X12_daybook_85_39 u0 p0 n u).1
  | 0 => fun u h => h
  | n + 1 => fun u h => ql_X12_daybook_85_39_b u0 p0 (K_X12_daybook_85_39 u0 p0 n) (ql_X12_daybook_85_39 u0 p0 n) u h
theorem ql_X12_daybook_85 (u0 : ac_U) (p0 : Int32) : ac_Fl u0 (f_X12_daybook_85 u0 p0).1 := by
  unfold f_X12_daybook_85
  exact (fl_vl (fun (r56 : Int32) => (fl_if (fl_cv ((fl_I ac_Fl.rf rfl).tr (ql_X12_taken_85 (pI u0 85 0 (0 : Int32)) (500 : Int32)) (by decide)) (fun (u58 : ac_U) h58 => (fl_cv ((fl_I (fl_I h58 rfl) rfl).tr (ql_X12_next_85 (pI (pI u58 85 15 (0 : Int32)) 85 35 (0 : Int32))) (by decide)) (fun (u60 : ac_U) h60 => (ql_X12_daybook_85_39 u0 p0 43 u60 h60))))) (fl_I ac_Fl.rf rfl))))
/-! The names of the house that stands, in the reference's lines. (printed by wip/sent/lf.py) -/
def ac_F9 (u v : ac_U) : Prop := ∀ k, k < 26 → v.2 90 k = u.2 90 k
section F9X
variable {u0 u v : ac_U} {α β : Type}
theorem ac_F9.rf : ac_F9 u u := fun _ _ => rfl
theorem ac_F9.tr (h : ac_F9 u0 u) (g : ac_Fl u v) (_ : true = true) : ac_F9 u0 v := fun k q => (g 90 k rfl).trans (h k q)
theorem ac_F9.tr9 (h : ac_F9 u0 u) (g : ac_F9 u v) (_ : true = true) : ac_F9 u0 v := fun k q => (g k q).trans (h k q)
theorem f9_I (h : ac_F9 u0 u) {c k : Nat} {x : Int32} (_ : true = true) : ac_F9 u0 (pI u c k x) := h
theorem f9_L {p : Nat} (hp : 26 ≤ p) (h : ac_F9 u0 u) {x : Int64} : ac_F9 u0 (pL u 90 p x) := fun k q => by
  rw [pL_k (by omega)]
  exact h k q
theorem f9_vl {x : α} {k : α → ac_U × β} (h : ∀ v, ac_F9 u0 (k v).1) : ac_F9 u0 (vl x k).1 := h x
theorem f9_vle {x : α} {k : α → ac_U × β} (h : ∀ v, v = x → ac_F9 u0 (k v).1) : ac_F9 u0 (vl x k).1 := h x rfl
theorem f9_if {c : Prop} {hd : Decidable c} {a b : ac_U × β} (h1 : ac_F9 u0 a.1) (h2 : ac_F9 u0 b.1) : ac_F9 u0 (@ite _ c hd a b).1 := by split; exact h1; exact h2
theorem f9_cv {x : ac_U} {k : ac_U → ac_U × β} (hx : ac_F9 u0 x) (h : ∀ v, ac_F9 u0 v → ac_F9 u0 (k v).1) : ac_F9 u0 (vl x k).1 := h x hx
theorem f9_bd {q : ac_U × α} {k : ac_U → α → ac_U × β} (hq : ac_F9 u0 q.1) (h : ∀ v r, ac_F9 u0 v → ac_F9 u0 (k v r).1) : ac_F9 u0 (bd q k).1 := h _ _ hq
end F9X
theorem hi26 {c x : Int32} {n : Nat} (hc : c.toInt = n) (hn : 26 ≤ n ∧ n ≤ 60) (h : 0 ≤ x.toInt ∧ x.toInt ≤ 8) : 26 ≤ (c + x).toNatClampNeg := by
  have e : (c + x).toInt = n + x.toInt := i_add hc rfl (by omega)
  have := i_cl (x := c + x) (by omega)
  omega
theorem q9_X12_fresh_85_74 (u0 : ac_U) (p0 : Int32) (u : ac_U) (h : ac_F9 u0 u) : ac_F9 u0 (K_X12_fresh_85_74 u0 p0 u).1 := by
  unfold K_X12_fresh_85_74
  exact (f9_bd (h.tr (ql_X12_bad_85 u (3 : Int32)) (by decide)) (fun (u1 : ac_U) (r1 : Int32) h1 => h1))
theorem q9_X12_fresh_85 (u0 : ac_U) (p0 : Int32) (hp : 26 ≤ p0.toNatClampNeg) : ac_F9 u0 (f_X12_fresh_85 u0 p0).1 := by
  unfold f_X12_fresh_85
  exact (f9_vl (fun (r2 : Int32) => (f9_if (f9_vl (fun (r5 : Int32) => (f9_if (q9_X12_fresh_85_74 u0 p0 u0 ac_F9.rf) (f9_vl (fun (r8 : Int32) => (f9_if (q9_X12_fresh_85_74 u0 p0 u0 ac_F9.rf) (f9_vl (fun (r11 : Int32) => (f9_if (q9_X12_fresh_85_74 u0 p0 u0 ac_F9.rf) (f9_vl (fun (r14 : Int32) => (f9_if (f9_cv ((f9_L hp ac_F9.rf).tr (ql_X12_next_85 (pL u0 90 p0.toNatClampNeg (u0.2 85 17))) (by decide)) (fun (u16 : ac_U) h16 => h16)) (q9_X12_fresh_85_74 u0 p0 u0 ac_F9.rf))))))))))))) (f9_bd (ac_F9.rf.tr (ql_X12_bad_85 u0 (1 : Int32)) (by decide)) (fun (u17 : ac_U) (r17 : Int32) h17 => h17)))))
theorem q9_X12_readPromise_85_301 (u0 : ac_U) (u : ac_U) (h : ac_F9 u0 u) : ac_F9 u0 (K_X12_readPromise_85_301 u0 u).1 := by
  unfold K_X12_readPromise_85_301
  exact (f9_vl (fun (v2 : Int32) => (f9_I h rfl)))
theorem q9_X12_readPromise_85_245 (u0 : ac_U) (u : ac_U) (x1 : Int32) (h : ac_F9 u0 u) : ac_F9 u0 (K_X12_readPromise_85_245 u0 u x1).1 := by
  unfold K_X12_readPromise_85_245
  exact (f9_vl (fun (v3 : Int32) => (f9_vl (fun (r5 : Int32) => (f9_if (q9_X12_readPromise_85_301 u0 (pI u 88 v3.toNatClampNeg (0 : Int32)) (f9_I h rfl)) (f9_cv ((f9_I h rfl).tr (ql_X12_next_85 (pI u 88 v3.toNatClampNeg (0 : Int32))) (by decide)) (fun (u7 : ac_U) h7 => (f9_bd (h7.tr (ql_X12_takesName_85 u7 (38 : Int32) (u7.1 88 5)) (by decide)) (fun (u9 : ac_U) (r9 : Int32) h9 => (f9_if (f9_vl (fun (v11 : Int32) => (f9_vl (fun (v12 : Int32) => (q9_X12_readPromise_85_301 u0 (pI u9 88 v11.toNatClampNeg v12) (f9_I h9 rfl)))))) h9))))))))))
theorem q9_X12_readPromise_85_230 (u0 : ac_U) (u : ac_U) (x1 : Int32) (z1 : Int32) (z2 : Int32) (h : ac_F9 u0 u) : ac_F9 u0 (K_X12_readPromise_85_230 u0 u x1 z1 z2).1 := by
  unfold K_X12_readPromise_85_230
  exact (f9_vl (fun (r14 : Int32) => (f9_if (q9_X12_readPromise_85_245 u0 (pI u 88 z1.toNatClampNeg z2) x1 (f9_I h rfl)) (f9_cv ((f9_I h rfl).tr (ql_X12_next_85 (pI u 88 z1.toNatClampNeg z2)) (by decide)) (fun (u16 : ac_U) h16 => (q9_X12_readPromise_85_245 u0 u16 x1 h16))))))
theorem q9_X12_readPromise_85_50 (u0 : ac_U) (u : ac_U) (h : ac_F9 u0 u) : ac_F9 u0 (K_X12_readPromise_85_50 u0 u).1 := by
  unfold K_X12_readPromise_85_50
  exact h
theorem q9_X12_readPromise_85 (u0 : ac_U) (hh : ∀ j, j = 1 ∨ j = 4 ∨ j = 5 ∨ j = 6 → 0 ≤ (u0.1 88 j).toInt ∧ (u0.1 88 j).toInt ≤ 8) : ac_F9 u0 (f_X12_readPromise_85 u0).1 := by
  unfold f_X12_readPromise_85
  exact (f9_if (f9_cv (ac_F9.rf.tr (ql_X12_next_85 u0) (by decide)) (fun (u19 : ac_U) h19 => (f9_vle (fun (v20 : Int32) e9 => (f9_bd (h19.tr9 (q9_X12_fresh_85 u19 v20 (by rw [e9]; first | exact hi26 (n := 26) (by decide) (by decide) (hh 1 (by decide)) | exact hi26 (n := 34) (by decide) (by decide) (hh 4 (by decide)) | exact hi26 (n := 38) (by decide) (by decide) (hh 5 (by decide)) | exact hi26 (n := 44) (by decide) (by decide) (hh 6 (by decide)))) (by decide)) (fun (u21 : ac_U) (r21 : Int32) h21 => (f9_if (q9_X12_readPromise_85_50 u0 u21 h21) (f9_bd (h21.tr (ql_X12_takesName_85 u21 (34 : Int32) (u21.1 88 4)) (by decide)) (fun (u24 : ac_U) (r24 : Int32) h24 => (f9_if (f9_vl (fun (v26 : Int32) => (f9_vl (fun (v27 : Int32) => (f9_bd ((f9_I h24 rfl).tr (ql_X12_takesName_85 (pI u24 88 v26.toNatClampNeg (u24.1 85 18)) (38 : Int32) v27) (by decide)) (fun (u28 : ac_U) (r28 : Int32) h28 => (f9_if (f9_vl (fun (v30 : Int32) => (f9_vl (fun (v31 : Int32) => (f9_bd ((f9_I h28 rfl).tr (ql_X12_takesName_85 (pI u28 88 v30.toNatClampNeg (u28.1 85 18)) (26 : Int32) v31) (by decide)) (fun (u32 : ac_U) (r32 : Int32) h32 => (f9_if (f9_vl (fun (v34 : Int32) => (f9_bd ((f9_I h32 rfl).tr (ql_X12_takes_85 (pI u32 88 v34.toNatClampNeg (u32.1 85 18)) (0 : Int32) (23 : Int32)) (by decide)) (fun (u35 : ac_U) (r35 : Int32) h35 => (f9_if (f9_vl (fun (v37 : Int32) => (f9_vl (fun (v38 : Int32) => (f9_vl (fun (v39 : Int32) => (f9_bd ((f9_I h35 rfl).tr (ql_X12_takes_85 (pI u35 88 v37.toNatClampNeg (u35.1 85 18)) v39 (23 : Int32)) (by decide)) (fun (u40 : ac_U) (r40 : Int32) h40 => (f9_if (f9_vl (fun (v42 : Int32) => (f9_bd ((f9_I h40 rfl).tr (ql_X12_takes_85 (pI u40 88 v42.toNatClampNeg (u40.1 85 18)) (1 : Int32) (3 : Int32)) (by decide)) (fun (u43 : ac_U) (r43 : Int32) h43 => (f9_if (f9_vl (fun (v45 : Int32) => (f9_vl (fun (v46 : Int32) => (f9_vl (fun (r47 : Int32) => (f9_if (q9_X12_readPromise_85_230 u0 (pI u43 88 v45.toNatClampNeg (u43.1 85 18)) (u0.1 88 6) v46 (0 : Int32) (f9_I h43 rfl)) (q9_X12_readPromise_85_230 u0 (pI u43 88 v45.toNatClampNeg (u43.1 85 18)) (u0.1 88 6) v46 (1 : Int32) (f9_I h43 rfl))))))))) h43))))) h40))))))))) h35))))) h32))))))) h28))))))) (q9_X12_readPromise_85_50 u0 u24 h24))))))))))) (f9_bd (ac_F9.rf.tr (ql_X12_bad_85 u0 (4 : Int32)) (by decide)) (fun (u49 : ac_U) (r49 : Int32) h49 => h49)))
theorem q9_X12_line_85_663 (u0 : ac_U) (B614 : ac_U → Int32 → Int32 → Int32 → ac_U × Int32) (hB614 : ∀ (u : ac_U) (x1 : Int32) (x2 : Int32) (x3 : Int32), ac_F9 u0 u → ac_F9 u0 (B614 u x1 x2 x3).1) (u : ac_U) (x1 : Int32) (x3 : Int32) (z0 : Int32) (h : ac_F9 u0 u) : ac_F9 u0 (K_X12_line_85_663 B614 u0 u x1 x3 z0).1 := by
  unfold K_X12_line_85_663
  exact (f9_vl (fun (v1 : Int32) => (hB614 u x1 z0 v1 h)))
theorem q9_X12_line_85_662 (u0 : ac_U) (B614 : ac_U → Int32 → Int32 → Int32 → ac_U × Int32) (hB614 : ∀ (u : ac_U) (x1 : Int32) (x2 : Int32) (x3 : Int32), ac_F9 u0 u → ac_F9 u0 (B614 u x1 x2 x3).1) (u : ac_U) (x1 : Int32) (x3 : Int32) (h : ac_F9 u0 u) : ac_F9 u0 (K_X12_line_85_662 B614 u0 u x1 x3).1 := by
  unfold K_X12_line_85_662
  exact (q9_X12_line_85_663 u0 B614 hB614 u x1 x3 (0 : Int32) h)
theorem q9_X12_line_85_658 (u0 : ac_U) (B614 : ac_U → Int32 → Int32 → Int32 → ac_U × Int32) (hB614 : ∀ (u : ac_U) (x1 : Int32) (x2 : Int32) (x3 : Int32), ac_F9 u0 u → ac_F9 u0 (B614 u x1 x2 x3).1) (u : ac_U) (x1 : Int32) (x3 : Int32) (h : ac_F9 u0 u) : ac_F9 u0 (K_X12_line_85_658 B614 u0 u x1 x3).1 := by
  unfold K_X12_line_85_658
  exact (q9_X12_line_85_663 u0 B614 hB614 u x1 x3 (1 : Int32) h)
theorem q9_X12_line_85_614_b (u0 : ac_U) (B614 : ac_U → Int32 → Int32 → Int32 → ac_U × Int32) (hB614 : ∀ (u : ac_U) (x1 : Int32) (x2 : Int32) (x3 : Int32), ac_F9 u0 u → ac_F9 u0 (B614 u x1 x2 x3).1) (u : ac_U) (x1 : Int32) (x2 : Int32) (x3 : Int32) (h : ac_F9 u0 u) : ac_F9 u0 (K_X12_line_85_614_b B614 u0 u x1 x2 x3).1 := by
  unfold K_X12_line_85_614_b
  exact (f9_if (f9_if (f9_vl (fun (v8 : Int32) => (f9_vl (fun (v10 : Int32) => (f9_vl (fun (v11 : Int32) => (f9_cv ((f9_I (f9_I (f9_I h rfl) rfl) rfl).tr (ql_X12_next_85 (pI (pI (pI u 88 v8.toNatClampNeg x1) 88 v10.toNatClampNeg (u.1 85 18)) 88 7 v11)) (by decide)) (fun (u12 : ac_U) h12 => h12)))))))) (f9_bd (h.tr (ql_X12_bad_85 u (3 : Int32)) (by decide)) (fun (u13 : ac_U) (r13 : Int32) h13 => h13))) (f9_if (q9_X12_line_85_662 u0 B614 hB614 u x1 x3 h) (f9_vl (fun (v16 : Int32) => (f9_vl (fun (v17 : Int32) => (f9_if (q9_X12_line_85_658 u0 B614 hB614 u x1 x3 h) (f9_vl (fun (v19 : Int32) => (f9_vl (fun (v20 : Int32) => (f9_if (q9_X12_line_85_662 u0 B614 hB614 u x1 x3 h) (q9_X12_line_85_658 u0 B614 hB614 u x1 x3 h)))))))))))))
theorem q9_X12_line_85_614 (u0 : ac_U) : ∀ n : Nat, ∀ (u : ac_U) (x1 : Int32) (x2 : Int32) (x3 : Int32), ac_F9 u0 u → ac_F9 u0 (K_X12_line_85_614 u0 n u x1 x2 x3).1
  | 0 => fun u _ _ _ h => h
  | n + 1 => fun u x1 x2 x3 h => q9_X12_line_85_614_b u0 (K_X12_line_85_614 u0 n) (q9_X12_line_85_614 u0 n) u x1 x2 x3 h
theorem q9_X12_line_85_611 (u0 : ac_U) (u : ac_U) (x1 : Int32) (z0 : Int32) (h : ac_F9 u0 u) : ac_F9 u0 (K_X12_line_85_611 u0 u x1 z0).1 := by
  unfold K_X12_line_85_611
  exact (q9_X12_line_85_614 u0 9 u x1 z0 (0 : Int32) h)
theorem q9_X12_line_85_411 (u0 : ac_U) (u : ac_U) (h : ac_F9 u0 u) : ac_F9 u0 (K_X12_line_85_411 u0 u).1 := by
  unfold K_X12_line_85_411
  exact h
theorem q9_X12_line_85_214 (u0 : ac_U) (u : ac_U) (h : ac_F9 u0 u) : ac_F9 u0 (K_X12_line_85_214 u0 u).1 := by
  unfold K_X12_line_85_214
  exact (f9_bd (h.tr (ql_X12_bad_85 u (3 : Int32)) (by decide)) (fun (u23 : ac_U) (r23 : Int32) h23 => h23))
theorem q9_X12_line_85 (u0 : ac_U) (hh : ∀ j, j = 1 ∨ j = 4 ∨ j = 5 ∨ j = 6 → 0 ≤ (u0.1 88 j).toInt ∧ (u0.1 88 j).toInt ≤ 8) : ac_F9 u0 (f_X12_line_85 u0).1 := by
  unfold f_X12_line_85
  exact (f9_vl (fun (r25 : Int32) => (f9_if (f9_vl (fun (r27 : Int32) => (f9_if (f9_vl (fun (r29 : Int32) => (f9_if (f9_vl (fun (r31 : Int32) => (f9_if (f9_vl (fun (r33 : Int32) => (f9_if (f9_vl (fun (r35 : Int32) => (f9_if (f9_vl (fun (r37 : Int32) => (f9_if (f9_vl (fun (r39 : Int32) => (f9_if (f9_if (f9_cv (ac_F9.rf.tr (ql_X12_next_85 u0) (by decide)) (fun (u43 : ac_U) h43 => (f9_bd (h43.tr (ql_X12_takesName_85 u43 (44 : Int32) (u43.1 88 6)) (by decide)) (fun (u46 : ac_U) (r46 : Int32) h46 => (f9_if (f9_bd (h46.tr (ql_X12_looksAt_85 u46 (44 : Int32) (u43.1 88 6)) (by decide)) (fun (u48 : ac_U) (r48 : Int32) h48 => (f9_if (f9_if (q9_X12_line_85_611 u0 u48 (u46.1 85 18) (0 : Int32) h48) (q9_X12_line_85_611 u0 u48 (u46.1 85 18) (1 : Int32) h48)) h48))) h46))))) (f9_bd (ac_F9.rf.tr (ql_X12_bad_85 u0 (4 : Int32)) (by decide)) (fun (u51 : ac_U) (r51 : Int32) h51 => h51))) (f9_bd (ac_F9.rf.tr (ql_X12_bad_85 u0 (1 : Int32)) (by decide)) (fun (u53 : ac_U) (r53 : Int32) h53 => h53))))) (f9_bd (ac_F9.rf.tr9 (q9_X12_readPromise_85 u0 hh) (by decide)) (fun (u55 : ac_U) (r55 : Int32) h55 => h55))))) (f9_if (f9_cv (ac_F9.rf.tr (ql_X12_next_85 u0) (by decide)) (fun (u59 : ac_U) h59 => (f9_vle (fun (v61 : Int32) e9 => (f9_bd (h59.tr9 (q9_X12_fresh_85 u59 v61 (by rw [e9]; first | exact hi26 (n := 26) (by decide) (by decide) (hh 1 (by decide)) | exact hi26 (n := 34) (by decide) (by decide) (hh 4 (by decide)) | exact hi26 (n := 38) (by decide) (by decide) (hh 5 (by decide)) | exact hi26 (n := 44) (by decide) (by decide) (hh 6 (by decide)))) (by decide)) (fun (u62 : ac_U) (r62 : Int32) h62 => (f9_if (f9_vl (fun (v64 : Int32) => (f9_I h62 rfl))) h62))))))) (f9_bd (ac_F9.rf.tr (ql_X12_bad_85 u0 (4 : Int32)) (by decide)) (fun (u65 : ac_U) (r65 : Int32) h65 => h65)))))) (f9_if (f9_cv (ac_F9.rf.tr (ql_X12_next_85 u0) (by decide)) (fun (u69 : ac_U) h69 => (f9_vle (fun (v71 : Int32) e9 => (f9_bd (h69.tr9 (q9_X12_fresh_85 u69 v71 (by rw [e9]; first | exact hi26 (n := 26) (by decide) (by decide) (hh 1 (by decide)) | exact hi26 (n := 34) (by decide) (by decide) (hh 4 (by decide)) | exact hi26 (n := 38) (by decide) (by decide) (hh 5 (by decide)) | exact hi26 (n := 44) (by decide) (by decide) (hh 6 (by decide)))) (by decide)) (fun (u72 : ac_U) (r72 : Int32) h72 => (f9_if (q9_X12_line_85_411 u0 u72 h72) (f9_bd (h72.tr (ql_X12_takesName_85 u72 (26 : Int32) (u0.1 88 1)) (by decide)) (fun (u74 : ac_U) (r74 : Int32) h74 => (f9_if (f9_vl (fun (v76 : Int32) => (f9_vl (fun (v77 : Int32) => (f9_I (f9_I h74 rfl) rfl))))) (q9_X12_line_85_411 u0 u74 h74))))))))))) (f9_bd (ac_F9.rf.tr (ql_X12_bad_85 u0 (4 : Int32)) (by decide)) (fun (u78 : ac_U) (r78 : Int32) h78 => h78)))))) (f9_if (f9_cv (ac_F9.rf.tr (ql_X12_next_85 u0) (by decide)) (fun (u82 : ac_U) h82 => (f9_bd (h82.tr (ql_X12_takesName_85 u82 (26 : Int32) (u0.1 88 1)) (by decide)) (fun (u84 : ac_U) (r84 : Int32) h84 => (f9_if (f9_vl (fun (v86 : Int32) => (f9_vl (fun (v87 : Int32) => (f9_I (f9_I h84 rfl) rfl))))) h84))))) (f9_bd (ac_F9.rf.tr (ql_X12_bad_85 u0 (4 : Int32)) (by decide)) (fun (u88 : ac_U) (r88 : Int32) h88 => h88)))))) (f9_if (f9_cv (ac_F9.rf.tr (ql_X12_next_85 u0) (by decide)) (fun (u92 : ac_U) h92 => (f9_bd (h92.tr (ql_X12_takesName_85 u92 (26 : Int32) (u0.1 88 1)) (by decide)) (fun (u94 : ac_U) (r94 : Int32) h94 => (f9_if (f9_bd (h94.tr (ql_X12_looksAt_85 u94 (26 : Int32) (u0.1 88 1)) (by decide)) (fun (u96 : ac_U) (r96 : Int32) h96 => (f9_if (f9_if (q9_X12_line_85_214 u0 u96 h96) (f9_vl (fun (v99 : Int32) => (f9_vl (fun (v100 : Int32) => (f9_vl (fun (r101 : Int32) => (f9_if (f9_vl (fun (v103 : Int32) => (f9_vl (fun (v104 : Int32) => (f9_vl (fun (v105 : Int32) => (f9_vl (fun (v106 : Int32) => (f9_vl (fun (v107 : Int32) => (f9_vl (fun (v108 : Int32) => (f9_vl (fun (v109 : Int32) => (f9_vl (fun (v110 : Int32) => (f9_vl (fun (v111 : Int32) => (f9_cv ((f9_I (f9_I (f9_I h96 rfl) rfl) rfl).tr (ql_X12_next_85 (pI (pI (pI u96 88 v103.toNatClampNeg v106) 88 v107.toNatClampNeg v110) 88 2 v111)) (by decide)) (fun (u112 : ac_U) h112 => h112)))))))))))))))))))) (q9_X12_line_85_214 u0 u96 h96))))))))) h96))) h94))))) (f9_bd (ac_F9.rf.tr (ql_X12_bad_85 u0 (4 : Int32)) (by decide)) (fun (u113 : ac_U) (r113 : Int32) h113 => h113)))))) (f9_if (f9_cv (ac_F9.rf.tr (ql_X12_next_85 u0) (by decide)) (fun (u117 : ac_U) h117 => (f9_vle (fun (v118 : Int32) e9 => (f9_bd (h117.tr9 (q9_X12_fresh_85 u117 v118 (by rw [e9]; first | exact hi26 (n := 26) (by decide) (by decide) (hh 1 (by decide)) | exact hi26 (n := 34) (by decide) (by decide) (hh 4 (by decide)) | exact hi26 (n := 38) (by decide) (by decide) (hh 5 (by decide)) | exact hi26 (n := 44) (by decide) (by decide) (hh 6 (by decide)))) (by decide)) (fun (u119 : ac_U) (r119 : Int32) h119 => (f9_if (f9_vl (fun (v121 : Int32) => (f9_I h119 rfl))) h119))))))) (f9_bd (ac_F9.rf.tr (ql_X12_bad_85 u0 (4 : Int32)) (by decide)) (fun (u122 : ac_U) (r122 : Int32) h122 => h122)))))) (f9_if (f9_cv ((f9_I ac_F9.rf rfl).tr (ql_X12_next_85 (pI u0 85 20 (1 : Int32))) (by decide)) (fun (u125 : ac_U) h125 => (f9_bd (h125.tr (ql_X12_takes_85 u125 (4 : Int32) (24 : Int32)) (by decide)) (fun (u127 : ac_U) (r127 : Int32) h127 => (f9_if (f9_I h127 rfl) h127))))) (f9_bd (ac_F9.rf.tr (ql_X12_bad_85 u0 (3 : Int32)) (by decide)) (fun (u129 : ac_U) (r129 : Int32) h129 => h129))))))
/-! Names' cells that stay where others are written. (printed by wip/sent/lf.py) -/
def ac_Fw (S : List Nat) (u v : ac_U) : Prop := ∀ c k, isNm c = true → S.contains c = false → v.2 c k = u.2 c k
section FWX
variable {S : List Nat} {u0 u v : ac_U} {α β : Type}
theorem ac_Fw.rf : ac_Fw S u u := fun _ _ _ _ => rfl
theorem ac_Fw.tr (h : ac_Fw S u0 u) (g : ac_Fl u v) (_ : true = true) : ac_Fw S u0 v := fun c k q z => (g c k q).trans (h c k q z)
theorem ac_Fw.trw {S' : List Nat} (h : ac_Fw S u0 u) (g : ac_Fw S' u v) (hs : S'.all (fun c => S.contains c) = true) : ac_Fw S u0 v := fun c k q z => by
  refine (g c k q ?_).trans (h c k q z)
  cases e : S'.contains c with
  | false => rfl
  | true =>
    have h1 := List.all_eq_true.mp hs c (by simpa using e)
    rw [z] at h1
    cases h1
theorem fw_I (h : ac_Fw S u0 u) {c k : Nat} {x : Int32} (_ : true = true) : ac_Fw S u0 (pI u c k x) := h
theorem fw_L (h : ac_Fw S u0 u) {c : Nat} {g : Nat → Int64} (hc : (!(isNm c) || S.contains c) = true := by rfl) : ac_Fw S u0 (ac_sl u c g) := fun d k q z => by
  have e : d ≠ c := fun y => by rw [y] at q z; rw [q, z] at hc; cases hc
  rw [sl2, if_neg e]
  exact h d k q z
theorem fw_C (h : ac_Fw S u0 u) {c0 c1 a b n : Nat} (_ : Nat → true = true) : ac_Fw S u0 (cpI u c0 c1 a b n) := h
theorem fw_vl {x : α} {k : α → ac_U × β} (h : ∀ v, ac_Fw S u0 (k v).1) : ac_Fw S u0 (vl x k).1 := h x
theorem fw_if {c : Prop} {hd : Decidable c} {a b : ac_U × β} (h1 : ac_Fw S u0 a.1) (h2 : ac_Fw S u0 b.1) : ac_Fw S u0 (@ite _ c hd a b).1 := by split; exact h1; exact h2
theorem fw_cv {x : ac_U} {k : ac_U → ac_U × β} (hx : ac_Fw S u0 x) (h : ∀ v, ac_Fw S u0 v → ac_Fw S u0 (k v).1) : ac_Fw S u0 (vl x k).1 := h x hx
theorem fw_cvv {x : ac_U} {k : ac_U → ac_U} (hx : ac_Fw S u0 x) (h : ∀ v, ac_Fw S u0 v → ac_Fw S u0 (k v)) : ac_Fw S u0 (vl x k) := h x hx
theorem fw_bd {q : ac_U × α} {k : ac_U → α → ac_U × β} (hq : ac_Fw S u0 q.1) (h : ∀ v r, ac_Fw S u0 v → ac_Fw S u0 (k v r).1) : ac_Fw S u0 (bd q k).1 := h _ _ hq
end FWX
theorem qs_X2_copyFrom_4_13 (u0 : ac_U) : ac_Fw [10] u0 (f_X2_copyFrom_4_13 u0) := by
  unfold f_X2_copyFrom_4_13
  exact (fw_C (fw_C (fw_L (fw_C (fw_C (fw_C (fw_C (fw_C (fw_I (fw_I (fw_I (fw_I (fw_I (fw_I (fw_I (fw_I (fw_I ac_Fw.rf rfl) rfl) rfl) rfl) rfl) rfl) rfl) rfl) rfl) (fun _ => rfl)) (fun _ => rfl)) (fun _ => rfl)) (fun _ => rfl)) (fun _ => rfl))) (fun _ => rfl)) (fun _ => rfl))
theorem qs_X2_copyFrom_4_55 (u0 : ac_U) : ac_Fw [10] u0 (f_X2_copyFrom_4_55 u0) := by
  unfold f_X2_copyFrom_4_55
  exact (fw_C (fw_C (fw_L (fw_C (fw_C (fw_C (fw_C (fw_C (fw_I (fw_I (fw_I (fw_I (fw_I (fw_I (fw_I (fw_I (fw_I ac_Fw.rf rfl) rfl) rfl) rfl) rfl) rfl) rfl) rfl) rfl) (fun _ => rfl)) (fun _ => rfl)) (fun _ => rfl)) (fun _ => rfl)) (fun _ => rfl))) (fun _ => rfl)) (fun _ => rfl))
theorem qs_X2_copyFrom_4_64 (u0 : ac_U) : ac_Fw [10] u0 (f_X2_copyFrom_4_64 u0) := by
  unfold f_X2_copyFrom_4_64
  exact (fw_C (fw_C (fw_L (fw_C (fw_C (fw_C (fw_C (fw_C (fw_I (fw_I (fw_I (fw_I (fw_I (fw_I (fw_I (fw_I (fw_I ac_Fw.rf rfl) rfl) rfl) rfl) rfl) rfl) rfl) rfl) rfl) (fun _ => rfl)) (fun _ => rfl)) (fun _ => rfl)) (fun _ => rfl)) (fun _ => rfl))) (fun _ => rfl)) (fun _ => rfl))
theorem qs_X2_copyFrom_55_4 (u0 : ac_U) : ac_Fw [61] u0 (f_X2_copyFrom_55_4 u0) := by
  unfold f_X2_copyFrom_55_4
  exact (fw_C (fw_C (fw_L (fw_C (fw_C (fw_C (fw_C (fw_C (fw_I (fw_I (fw_I (fw_I (fw_I (fw_I (fw_I (fw_I (fw_I ac_Fw.rf rfl) rfl) rfl) rfl) rfl) rfl) rfl) rfl) rfl) (fun _ => rfl)) (fun _ => rfl)) (fun _ => rfl)) (fun _ => rfl)) (fun _ => rfl))) (fun _ => rfl)) (fun _ => rfl))
theorem qs_X2_copyFrom_64_4 (u0 : ac_U) : ac_Fw [70] u0 (f_X2_copyFrom_64_4 u0) := by
  unfold f_X2_copyFrom_64_4
  exact (fw_C (fw_C (fw_L (fw_C (fw_C (fw_C (fw_C (fw_C (fw_I (fw_I (fw_I (fw_I (fw_I (fw_I (fw_I (fw_I (fw_I ac_Fw.rf rfl) rfl) rfl) rfl) rfl) rfl) rfl) rfl) rfl) (fun _ => rfl)) (fun _ => rfl)) (fun _ => rfl)) (fun _ => rfl)) (fun _ => rfl))) (fun _ => rfl)) (fun _ => rfl))
theorem qs_X4_give_53_4_24_43 (u0 : ac_U) : ac_Fw [10] u0 (f_X4_give_53_4_24_43 u0) := by
  unfold f_X4_give_53_4_24_43
  exact (fw_cvv (ac_Fw.rf.trw (qs_X2_copyFrom_4_55 u0) (by decide)) (fun (u1 : ac_U) h1 => (fw_cvv (h1.tr (ql_X8_copyFrom_43_73 u1) (by decide)) (fun (u2 : ac_U) h2 => (fw_I (fw_C (fw_C h2 (fun _ => rfl)) (fun _ => rfl)) rfl)))))
theorem qs_X4_give_54_4_24_43 (u0 : ac_U) : ac_Fw [10] u0 (f_X4_give_54_4_24_43 u0) := by
  unfold f_X4_give_54_4_24_43
  exact (fw_cvv (ac_Fw.rf.trw (qs_X2_copyFrom_4_64 u0) (by decide)) (fun (u1 : ac_U) h1 => (fw_cvv (h1.tr (ql_X8_copyFrom_43_77 u1) (by decide)) (fun (u2 : ac_U) h2 => (fw_I (fw_C (fw_C h2 (fun _ => rfl)) (fun _ => rfl)) rfl)))))
theorem qs_X4_take_53_4_24_43 (u0 : ac_U) : ac_Fw [61] u0 (f_X4_take_53_4_24_43 u0) := by
  unfold f_X4_take_53_4_24_43
  exact (fw_cvv (ac_Fw.rf.trw (qs_X2_copyFrom_55_4 u0) (by decide)) (fun (u1 : ac_U) h1 => (fw_cvv (h1.tr (ql_X8_copyFrom_73_43 u1) (by decide)) (fun (u3 : ac_U) h3 => (fw_I (fw_C (fw_C h3 (fun _ => rfl)) (fun _ => rfl)) rfl)))))
theorem qs_X4_take_54_4_24_43 (u0 : ac_U) : ac_Fw [70] u0 (f_X4_take_54_4_24_43 u0) := by
  unfold f_X4_take_54_4_24_43
  exact (fw_cvv (ac_Fw.rf.trw (qs_X2_copyFrom_64_4 u0) (by decide)) (fun (u1 : ac_U) h1 => (fw_cvv (h1.tr (ql_X8_copyFrom_77_43 u1) (by decide)) (fun (u3 : ac_U) h3 => (fw_I (fw_C (fw_C h3 (fun _ => rfl)) (fun _ => rfl)) rfl)))))
theorem qs_X11_house_0 (u0 : ac_U) : ac_Fw [10] u0 (f_X11_house_0 u0).1 := by
  unfold f_X11_house_0
  exact (fw_bd (ac_Fw.rf.tr (ql_X3_readWhole_22 u0) (by decide)) (fun (u1 : ac_U) (r1 : Int32) h1 => (fw_if (fw_cv ((fw_I h1 rfl).trw (qs_X2_copyFrom_4_13 (pI u1 1 2 (0 : Int32))) (by decide)) (fun (u3 : ac_U) h3 => (fw_cv (h3.tr (ql_X6_begin_24 u3) (by decide)) (fun (u4 : ac_U) h4 => (fw_cv (h4.tr (ql_X8_clear_43 u4) (by decide)) (fun (u5 : ac_U) h5 => h5)))))) (fw_vl (fun (v8 : Int32) => (fw_I h1 rfl))))))
theorem qs_X11_image_0 (u0 : ac_U) (p0 : Int32) : ac_Fw [61, 70] u0 (f_X11_image_0 u0 p0).1 := by
  unfold f_X11_image_0
  exact (fw_if ac_Fw.rf (fw_if (fw_if (fw_cv (ac_Fw.rf.trw (qs_X4_take_53_4_24_43 u0) (by decide)) (fun (u6 : ac_U) h6 => h6)) (fw_cv (ac_Fw.rf.trw (qs_X4_take_54_4_24_43 u0) (by decide)) (fun (u11 : ac_U) h11 => h11))) ac_Fw.rf))
theorem qs_X11_restore_0 (u0 : ac_U) (p0 : Int32) : ac_Fw [10] u0 (f_X11_restore_0 u0 p0).1 := by
  unfold f_X11_restore_0
  exact (fw_if ac_Fw.rf (fw_if ac_Fw.rf (fw_if (fw_if (fw_if (fw_cv (ac_Fw.rf.trw (qs_X4_give_53_4_24_43 u0) (by decide)) (fun (u7 : ac_U) h7 => h7)) (fw_cv (ac_Fw.rf.trw (qs_X4_give_54_4_24_43 u0) (by decide)) (fun (u8 : ac_U) h8 => h8))) ac_Fw.rf) (fw_if (fw_if (fw_cv (ac_Fw.rf.trw (qs_X4_give_53_4_24_43 u0) (by decide)) (fun (u12 : ac_U) h12 => h12)) (fw_cv (ac_Fw.rf.trw (qs_X4_give_54_4_24_43 u0) (by decide)) (fun (u13 : ac_U) h13 => h13))) ac_Fw.rf))))
theorem qs_X12_fresh_85_74 (u0 : ac_U) (p0 : Int32) (u : ac_U) (h : ac_Fw [90] u0 u) : ac_Fw [90] u0 (K_X12_fresh_85_74 u0 p0 u).1 := by
  unfold K_X12_fresh_85_74
  exact (fw_bd (h.tr (ql_X12_bad_85 u (3 : Int32)) (by decide)) (fun (u1 : ac_U) (r1 : Int32) h1 => h1))
theorem qs_X12_fresh_85 (u0 : ac_U) (p0 : Int32) : ac_Fw [90] u0 (f_X12_fresh_85 u0 p0).1 := by
  unfold f_X12_fresh_85
  exact (fw_vl (fun (r2 : Int32) => (fw_if (fw_vl (fun (r5 : Int32) => (fw_if (qs_X12_fresh_85_74 u0 p0 u0 ac_Fw.rf) (fw_vl (fun (r8 : Int32) => (fw_if (qs_X12_fresh_85_74 u0 p0 u0 ac_Fw.rf) (fw_vl (fun (r11 : Int32) => (fw_if (qs_X12_fresh_85_74 u0 p0 u0 ac_Fw.rf) (fw_vl (fun (r14 : Int32) => (fw_if (fw_cv ((fw_L ac_Fw.rf).tr (ql_X12_next_85 (pL u0 90 p0.toNatClampNeg (u0.2 85 17))) (by decide)) (fun (u16 : ac_U) h16 => h16)) (qs_X12_fresh_85_74 u0 p0 u0 ac_Fw.rf))))))))))))) (fw_bd (ac_Fw.rf.tr (ql_X12_bad_85 u0 (1 : Int32)) (by decide)) (fun (u17 : ac_U) (r17 : Int32) h17 => h17)))))
theorem qs_X12_readPromise_85_301 (u0 : ac_U) (u : ac_U) (h : ac_Fw [90] u0 u) : ac_Fw [90] u0 (K_X12_readPromise_85_301 u0 u).1 := by
  unfold K_X12_readPromise_85_301
  exact (fw_vl (fun (v2 : Int32) => (fw_I h rfl)))
theorem qs_X12_readPromise_85_245 (u0 : ac_U) (u : ac_U) (x1 : Int32) (h : ac_Fw [90] u0 u) : ac_Fw [90] u0 (K_X12_readPromise_85_245 u0 u x1).1 := by
  unfold K_X12_readPromise_85_245
  exact (fw_vl (fun (v3 : Int32) => (fw_vl (fun (r5 : Int32) => (fw_if (qs_X12_readPromise_85_301 u0 (pI u 88 v3.toNatClampNeg (0 : Int32)) (fw_I h rfl)) (fw_cv ((fw_I h rfl).tr (ql_X12_next_85 (pI u 88 v3.toNatClampNeg (0 : Int32))) (by decide)) (fun (u7 : ac_U) h7 => (fw_bd (h7.tr (ql_X12_takesName_85 u7 (38 : Int32) (u7.1 88 5)) (by decide)) (fun (u9 : ac_U) (r9 : Int32) h9 => (fw_if (fw_vl (fun (v11 : Int32) => (fw_vl (fun (v12 : Int32) => (qs_X12_readPromise_85_301 u0 (pI u9 88 v11.toNatClampNeg v12) (fw_I h9 rfl)))))) h9))))))))))
theorem qs_X12_readPromise_85_230 (u0 : ac_U) (u : ac_U) (x1 : Int32) (z1 : Int32) (z2 : Int32) (h : ac_Fw [90] u0 u) : ac_Fw [90] u0 (K_X12_readPromise_85_230 u0 u x1 z1 z2).1 := by
  unfold K_X12_readPromise_85_230
  exact (fw_vl (fun (r14 : Int32) => (fw_if (qs_X12_readPromise_85_245 u0 (pI u 88 z1.toNatClampNeg z2) x1 (fw_I h rfl)) (fw_cv ((fw_I h rfl).tr (ql_X12_next_85 (pI u 88 z1.toNatClampNeg z2)) (by decide)) (fun (u16 : ac_U) h16 => (qs_X12_readPromise_85_245 u0 u16 x1 h16))))))
theorem qs_X12_readPromise_85_50 (u0 : ac_U) (u : ac_U) (h : ac_Fw [90] u0 u) : ac_Fw [90] u0 (K_X12_readPromise_85_50 u0 u).1 := by
  unfold K_X12_readPromise_85_50
  exact h
theorem qs_X12_readPromise_85 (u0 : ac_U) : ac_Fw [90] u0 (f_X12_readPromise_85 u0).1 := by
  unfold f_X12_readPromise_85
  exact (fw_if (fw_cv (ac_Fw.rf.tr (ql_X12_next_85 u0) (by decide)) (fun (u19 : ac_U) h19 => (fw_vl (fun (v20 : Int32) => (fw_bd (h19.trw (qs_X12_fresh_85 u19 v20) (by decide)) (fun (u21 : ac_U) (r21 : Int32) h21 => (fw_if (qs_X12_readPromise_85_50 u0 u21 h21) (fw_bd (h21.tr (ql_X12_takesName_85 u21 (34 : Int32) (u21.1 88 4)) (by decide)) (fun (u24 : ac_U) (r24 : Int32) h24 => (fw_if (fw_vl (fun (v26 : Int32) => (fw_vl (fun (v27 : Int32) => (fw_bd ((fw_I h24 rfl).tr (ql_X12_takesName_85 (pI u24 88 v26.toNatClampNeg (u24.1 85 18)) (38 : Int32) v27) (by decide)) (fun (u28 : ac_U) (r28 : Int32) h28 => (fw_if (fw_vl (fun (v30 : Int32) => (fw_vl (fun (v31 : Int32) => (fw_bd ((fw_I h28 rfl).tr (ql_X12_takesName_85 (pI u28 88 v30.toNatClampNeg (u28.1 85 18)) (26 : Int32) v31) (by decide)) (fun (u32 : ac_U) (r32 : Int32) h32 => (fw_if (fw_vl (fun (v34 : Int32) => (fw_bd ((fw_I h32 rfl).tr (ql_X12_takes_85 (pI u32 88 v34.toNatClampNeg (u32.1 85 18)) (0 : Int32) (23 : Int32)) (by decide)) (fun (u35 : ac_U) (r35 : Int32) h35 => (fw_if (fw_vl (fun (v37 : Int32) => (fw_vl (fun (v38 : Int32) => (fw_vl (fun (v39 : Int32) => (fw_bd ((fw_I h35 rfl).tr (ql_X12_takes_85 (pI u35 88 v37.toNatClampNeg (u35.1 85 18)) v39 (23 : Int32)) (by decide)) (fun (u40 : ac_U) (r40 : Int32) h40 => (fw_if (fw_vl (fun (v42 : Int32) => (fw_bd ((fw_I h40 rfl).tr (ql_X12_takes_85 (pI u40 88 v42.toNatClampNeg (u40.1 85 18)) (1 : Int32) (3 : Int32)) (by decide)) (fun (u43 : ac_U) (r43 : Int32) h43 => (fw_if (fw_vl (fun (v45 : Int32) => (fw_vl (fun (v46 : Int32) => (fw_vl (fun (r47 : Int32) => (fw_if (qs_X12_readPromise_85_230 u0 (pI u43 88 v45.toNatClampNeg (u43.1 85 18)) (u0.1 88 6) v46 (0 : Int32) (fw_I h43 rfl)) (qs_X12_readPromise_85_230 u0 (pI u43 88 v45.toNatClampNeg (u43.1 85 18)) (u0.1 88 6) v46 (1 : Int32) (fw_I h43 rfl))))))))) h43))))) h40))))))))) h35))))) h32))))))) h28))))))) (qs_X12_readPromise_85_50 u0 u24 h24))))))))))) (fw_bd (ac_Fw.rf.tr (ql_X12_bad_85 u0 (4 : Int32)) (by decide)) (fun (u49 : ac_U) (r49 : Int32) h49 => h49)))
theorem qs_X12_line_85_663 (u0 : ac_U) (B614 : ac_U → Int32 → Int32 → Int32 → ac_U × Int32) (hB614 : ∀ (u : ac_U) (x1 : Int32) (x2 : Int32) (x3 : Int32), ac_Fw [90] u0 u → ac_Fw [90] u0 (B614 u x1 x2 x3).1) (u : ac_U) (x1 : Int32) (x3 : Int32) (z0 : Int32) (h : ac_Fw [90] u0 u) : ac_Fw [90] u0 (K_X12_line_85_663 B614 u0 u x1 x3 z0).1 := by
  unfold K_X12_line_85_663
  exact (fw_vl (fun (v1 : Int32) => (hB614 u x1 z0 v1 h)))
theorem qs_X12_line_85_662 (u0 : ac_U) (B614 : ac_U → Int32 → Int32 → Int32 → ac_U × Int32) (hB614 : ∀ (u : ac_U) (x1 : Int32) (x2 : Int32) (x3 : Int32), ac_Fw [90] u0 u → ac_Fw [90] u0 (B614 u x1 x2 x3).1) (u : ac_U) (x1 : Int32) (x3 : Int32) (h : ac_Fw [90] u0 u) : ac_Fw [90] u0 (K_X12_line_85_662 B614 u0 u x1 x3).1 := by
  unfold K_X12_line_85_662
  exact (qs_X12_line_85_663 u0 B614 hB614 u x1 x3 (0 : Int32) h)
theorem qs_X12_line_85_658 (u0 : ac_U) (B614 : ac_U → Int32 → Int32 → Int32 → ac_U × Int32) (hB614 : ∀ (u : ac_U) (x1 : Int32) (x2 : Int32) (x3 : Int32), ac_Fw [90] u0 u → ac_Fw [90] u0 (B614 u x1 x2 x3).1) (u : ac_U) (x1 : Int32) (x3 : Int32) (h : ac_Fw [90] u0 u) : ac_Fw [90] u0 (K_X12_line_85_658 B614 u0 u x1 x3).1 := by
  unfold K_X12_line_85_658
  exact (qs_X12_line_85_663 u0 B614 hB614 u x1 x3 (1 : Int32) h)
theorem qs_X12_line_85_614_b (u0 : ac_U) (B614 : ac_U → Int32 → Int32 → Int32 → ac_U × Int32) (hB614 : ∀ (u : ac_U) (x1 : Int32) (x2 : Int32) (x3 : Int32), ac_Fw [90] u0 u → ac_Fw [90] u0 (B614 u x1 x2 x3).1) (u : ac_U) (x1 : Int32) (x2 : Int32) (x3 : Int32) (h : ac_Fw [90] u0 u) : ac_Fw [90] u0 (K_X12_line_85_614_b B614 u0 u x1 x2 x3).1 := by
  unfold K_X12_line_85_614_b
  exact (fw_if (fw_if (fw_vl (fun (v8 : Int32) => (fw_vl (fun (v10 : Int32) => (fw_vl (fun (v11 : Int32) => (fw_cv ((fw_I (fw_I (fw_I h rfl) rfl) rfl).tr (ql_X12_next_85 (pI (pI (pI u 88 v8.toNatClampNeg x1) 88 v10.toNatClampNeg (u.1 85 18)) 88 7 v11)) (by decide)) (fun (u12 : ac_U) h12 => h12)))))))) (fw_bd (h.tr (ql_X12_bad_85 u (3 : Int32)) (by decide)) (fun (u13 : ac_U) (r13 : Int32) h13 => h13))) (fw_if (qs_X12_line_85_662 u0 B614 hB614 u x1 x3 h) (fw_vl (fun (v16 : Int32) => (fw_vl (fun (v17 : Int32) => (fw_if (qs_X12_line_85_658 u0 B614 hB614 u x1 x3 h) (fw_vl (fun (v19 : Int32) => (fw_vl (fun (v20 : Int32) => (fw_if (qs_X12_line_85_662 u0 B614 hB614 u x1 x3 h) (qs_X12_line_85_658 u0 B614 hB614 u x1 x3 h)))))))))))))
theorem qs_X12_line_85_614 (u0 : ac_U) : ∀ n : Nat, ∀ (u : ac_U) (x1 : Int32) (x2 : Int32) (x3 : Int32), ac_Fw [90] u0 u → ac_Fw [90] u0 (K_X12_line_85_614 u0 n u x1 x2 x3).1
  | 0 => fun u _ _ _ h => h
  | n + 1 => fun u x1 x2 x3 h => qs_X12_line_85_614_b u0 (K_X12_line_85_614 u0 n) (qs_X12_line_85_614 u0 n) u x1 x2 x3 h
theorem qs_X12_line_85_611 (u0 : ac_U) (u : ac_U) (x1 : Int32) (z0 : Int32) (h : ac_Fw [90] u0 u) : ac_Fw [90] u0 (K_X12_line_85_611 u0 u x1 z0).1 := by
  unfold K_X12_line_85_611
  exact (qs_X12_line_85_614 u0 9 u x1 z0 (0 : Int32) h)
theorem qs_X12_line_85_411 (u0 : ac_U) (u : ac_U) (h : ac_Fw [90] u0 u) : ac_Fw [90] u0 (K_X12_line_85_411 u0 u).1 := by
  unfold K_X12_line_85_411
  exact h
theorem qs_X12_line_85_214 (u0 : ac_U) (u : ac_U) (h : ac_Fw [90] u0 u) : ac_Fw [90] u0 (K_X12_line_85_214 u0 u).1 := by
  unfold K_X12_line_85_214
  exact (fw_bd (h.tr (ql_X12_bad_85 u (3 : Int32)) (by decide)) (fun (u23 : ac_U) (r23 : Int32) h23 => h23))
theorem qs_X12_line_85 (u0 : ac_U) : ac_Fw [90] u0 (f_X12_line_85 u0).1 := by
  unfold f_X12_line_85
  exact (fw_vl (fun (r25 : Int32) => (fw_if (fw_vl (fun (r27 : Int32) => (fw_if (fw_vl (fun (r29 : Int32) => (fw_if (fw_vl (fun (r31 : Int32) => (fw_if (fw_vl (fun (r33 : Int32) => (fw_if (fw_vl (fun (r35 : Int32) => (fw_if (fw_vl (fun (r37 : Int32) => (fw_if (fw_vl (fun (r39 : Int32) => (fw_if (fw_if (fw_cv (ac_Fw.rf.tr (ql_X12_next_85 u0) (by decide)) (fun (u43 : ac_U) h43 => (fw_bd (h43.tr (ql_X12_takesName_85 u43 (44 : Int32) (u43.1 88 6)) (by decide)) (fun (u46 : ac_U) (r46 : Int32) h46 => (fw_if (fw_bd (h46.tr (ql_X12_looksAt_85 u46 (44 : Int32) (u43.1 88 6)) (by decide)) (fun (u48 : ac_U) (r48 : Int32) h48 => (fw_if (fw_if (qs_X12_line_85_611 u0 u48 (u46.1 85 18) (0 : Int32) h48) (qs_X12_line_85_611 u0 u48 (u46.1 85 18) (1 : Int32) h48)) h48))) h46))))) (fw_bd (ac_Fw.rf.tr (ql_X12_bad_85 u0 (4 : Int32)) (by decide)) (fun (u51 : ac_U) (r51 : Int32) h51 => h51))) (fw_bd (ac_Fw.rf.tr (ql_X12_bad_85 u0 (1 : Int32)) (by decide)) (fun (u53 : ac_U) (r53 : Int32) h53 => h53))))) (fw_bd (ac_Fw.rf.trw (qs_X12_readPromise_85 u0) (by decide)) (fun (u55 : ac_U) (r55 : Int32) h55 => h55))))) (fw_if (fw_cv (ac_Fw.rf.tr (ql_X12_next_85 u0) (by decide)) (fun (u59 : ac_U) h59 => (fw_vl (fun (v61 : Int32) => (fw_bd (h59.trw (qs_X12_fresh_85 u59 v61) (by decide)) (fun (u62 : ac_U) (r62 : Int32) h62 => (fw_if (fw_vl (fun (v64 : Int32) => (fw_I h62 rfl))) h62))))))) (fw_bd (ac_Fw.rf.tr (ql_X12_bad_85 u0 (4 : Int32)) (by decide)) (fun (u65 : ac_U) (r65 : Int32) h65 => h65)))))) (fw_if (fw_cv (ac_Fw.rf.tr (ql_X12_next_85 u0) (by decide)) (fun (u69 : ac_U) h69 => (fw_vl (fun (v71 : Int32) => (fw_bd (h69.trw (qs_X12_fresh_85 u69 v71) (by decide)) (fun (u72 : ac_U) (r72 : Int32) h72 => (fw_if (qs_X12_line_85_411 u0 u72 h72) (fw_bd (h72.tr (ql_X12_takesName_85 u72 (26 : Int32) (u0.1 88 1)) (by decide)) (fun (u74 : ac_U) (r74 : Int32) h74 => (fw_if (fw_vl (fun (v76 : Int32) => (fw_vl (fun (v77 : Int32) => (fw_I (fw_I h74 rfl) rfl))))) (qs_X12_line_85_411 u0 u74 h74))))))))))) (fw_bd (ac_Fw.rf.tr (ql_X12_bad_85 u0 (4 : Int32)) (by decide)) (fun (u78 : ac_U) (r78 : Int32) h78 => h78)))))) (fw_if (fw_cv (ac_Fw.rf.tr (ql_X12_next_85 u0) (by decide)) (fun (u82 : ac_U) h82 => (fw_bd (h82.tr (ql_X12_takesName_85 u82 (26 : Int32) (u0.1 88 1)) (by decide)) (fun (u84 : ac_U) (r84 : Int32) h84 => (fw_if (fw_vl (fun (v86 : Int32) => (fw_vl (fun (v87 : Int32) => (fw_I (fw_I h84 rfl) rfl))))) h84))))) (fw_bd (ac_Fw.rf.tr (ql_X12_bad_85 u0 (4 : Int32)) (by decide)) (fun (u88 : ac_U) (r88 : Int32) h88 => h88)))))) (fw_if (fw_cv (ac_Fw.rf.tr (ql_X12_next_85 u0) (by decide)) (fun (u92 : ac_U) h92 => (fw_bd (h92.tr (ql_X12_takesName_85 u92 (26 : Int32) (u0.1 88 1)) (by decide)) (fun (u94 : ac_U) (r94 : Int32) h94 => (fw_if (fw_bd (h94.tr (ql_X12_looksAt_85 u94 (26 : Int32) (u0.1 88 1)) (by decide)) (fun (u96 : ac_U) (r96 : Int32) h96 => (fw_if (fw_if (qs_X12_line_85_214 u0 u96 h96) (fw_vl (fun (v99 : Int32) => (fw_vl (fun (v100 : Int32) => (fw_vl (fun (r101 : Int32) => (fw_if (fw_vl (fun (v103 : Int32) => (fw_vl (fun (v104 : Int32) => (fw_vl (fun (v105 : Int32) => (fw_vl (fun (v106 : Int32) => (fw_vl (fun (v107 : Int32) => (fw_vl (fun (v108 : Int32) => (fw_vl (fun (v109 : Int32) => (fw_vl (fun (v110 : Int32) => (fw_vl (fun (v111 : Int32) => (fw_cv ((fw_I (fw_I (fw_I h96 rfl) rfl) rfl).tr (ql_X12_next_85 (pI (pI (pI u96 88 v103.toNatClampNeg v106) 88 v107.toNatClampNeg v110) 88 2 v111)) (by decide)) (fun (u112 : ac_U) h112 => h112)))))))))))))))))))) (qs_X12_line_85_214 u0 u96 h96))))))))) h96))) h94))))) (fw_bd (ac_Fw.rf.tr (ql_X12_bad_85 u0 (4 : Int32)) (by decide)) (fun (u113 : ac_U) (r113 : Int32) h113 => h113)))))) (fw_if (fw_cv (ac_Fw.rf.tr (ql_X12_next_85 u0) (by decide)) (fun (u117 : ac_U) h117 => (fw_vl (fun (v118 : Int32) => (fw_bd (h117.trw (qs_X12_fresh_85 u117 v118) (by decide)) (fun (u119 : ac_U) (r119 : Int32) h119 => (fw_if (fw_vl (fun (v121 : Int32) => (fw_I h119 rfl))) h119))))))) (fw_bd (ac_Fw.rf.tr (ql_X12_bad_85 u0 (4 : Int32)) (by decide)) (fun (u122 : ac_U) (r122 : Int32) h122 => h122)))))) (fw_if (fw_cv ((fw_I ac_Fw.rf rfl).tr (ql_X12_next_85 (pI u0 85 20 (1 : Int32))) (by decide)) (fun (u125 : ac_U) h125 => (fw_bd (h125.tr (ql_X12_takes_85 u125 (4 : Int32) (24 : Int32)) (by decide)) (fun (u127 : ac_U) (r127 : Int32) h127 => (fw_if (fw_I h127 rfl) h127))))) (fw_bd (ac_Fw.rf.tr (ql_X12_bad_85 u0 (3 : Int32)) (by decide)) (fun (u129 : ac_U) (r129 : Int32) h129 => h129))))))
theorem qs_X12_house_85_171_b (u0 : ac_U) (B171 : ac_U → Int32 → ac_U × Int32) (hB171 : ∀ (u : ac_U) (x1 : Int32), ac_Fw [90] u0 u → ac_Fw [90] u0 (B171 u x1).1) (u : ac_U) (x1 : Int32) (h : ac_Fw [90] u0 u) : ac_Fw [90] u0 (K_X12_house_85_171_b B171 u0 u x1).1 := by
  unfold K_X12_house_85_171_b
  exact (fw_if (fw_I h rfl) (fw_vl (fun (v2 : Int32) => (fw_vl (fun (v3 : Int32) => (fw_vl (fun (v4 : Int32) => (fw_vl (fun (v5 : Int32) => (hB171 (pI u 87 v2.toNatClampNeg v4) v5 (fw_I h rfl)))))))))))
theorem qs_X12_house_85_171 (u0 : ac_U) : ∀ n : Nat, ∀ (u : ac_U) (x1 : Int32), ac_Fw [90] u0 u → ac_Fw [90] u0 (K_X12_house_85_171 u0 n u x1).1
  | 0 => fun u _ h => h
  | n + 1 => fun u x1 h => qs_X12_house_85_171_b u0 (K_X12_house_85_171 u0 n) (qs_X12_house_85_171 u0 n) u x1 h
theorem qs_X12_house_85_142_b (u0 : ac_U) (B142 : ac_U → Int32 → ac_U × Int32) (hB142 : ∀ (u : ac_U) (x1 : Int32), ac_Fw [90] u0 u → ac_Fw [90] u0 (B142 u x1).1) (u : ac_U) (x1 : Int32) (h : ac_Fw [90] u0 u) : ac_Fw [90] u0 (K_X12_house_85_142_b B142 u0 u x1).1 := by
  unfold K_X12_house_85_142_b
  exact (fw_if (qs_X12_house_85_171 u0 6 u (0 : Int32) h) (fw_vl (fun (v11 : Int32) => (fw_vl (fun (w12 : Int64) => (fw_vl (fun (v13 : Int32) => (hB142 (pL u 90 x1.toNatClampNeg w12) v13 (fw_L h)))))))))
theorem qs_X12_house_85_142 (u0 : ac_U) : ∀ n : Nat, ∀ (u : ac_U) (x1 : Int32), ac_Fw [90] u0 u → ac_Fw [90] u0 (K_X12_house_85_142 u0 n u x1).1
  | 0 => fun u _ h => h
  | n + 1 => fun u x1 h => qs_X12_house_85_142_b u0 (K_X12_house_85_142 u0 n) (qs_X12_house_85_142 u0 n) u x1 h
theorem qs_X12_house_85_105_b (u0 : ac_U) (B105 : ac_U → Int32 → ac_U × Int32) (hB105 : ∀ (u : ac_U) (x1 : Int32), ac_Fw [90] u0 u → ac_Fw [90] u0 (B105 u x1).1) (u : ac_U) (x1 : Int32) (h : ac_Fw [90] u0 u) : ac_Fw [90] u0 (K_X12_house_85_105_b B105 u0 u x1).1 := by
  unfold K_X12_house_85_105_b
  exact (fw_if (qs_X12_house_85_142 u0 28 u (0 : Int32) h) (fw_if (fw_vl (fun (v20 : Int32) => (hB105 (pI u 87 x1.toNatClampNeg (0 : Int32)) v20 (fw_I h rfl)))) (fw_vl (fun (v23 : Int32) => (fw_vl (fun (v24 : Int32) => (hB105 (pI u 87 x1.toNatClampNeg v23) v24 (fw_I h rfl))))))))
theorem qs_X12_house_85_105 (u0 : ac_U) : ∀ n : Nat, ∀ (u : ac_U) (x1 : Int32), ac_Fw [90] u0 u → ac_Fw [90] u0 (K_X12_house_85_105 u0 n u x1).1
  | 0 => fun u _ h => h
  | n + 1 => fun u x1 h => qs_X12_house_85_105_b u0 (K_X12_house_85_105 u0 n) (qs_X12_house_85_105 u0 n) u x1 h
theorem qs_X12_house_85_83 (u0 : ac_U) (u : ac_U) (h : ac_Fw [90] u0 u) : ac_Fw [90] u0 (K_X12_house_85_83 u0 u).1 := by
  unfold K_X12_house_85_83
  exact (fw_vl (fun (v27 : Int32) => h))
theorem qs_X12_house_85_60_b (u0 : ac_U) (B60 : ac_U → ac_U × Int32) (hB60 : ∀ (u : ac_U), ac_Fw [90] u0 u → ac_Fw [90] u0 (B60 u).1) (u : ac_U) (h : ac_Fw [90] u0 u) : ac_Fw [90] u0 (K_X12_house_85_60_b B60 u0 u).1 := by
  unfold K_X12_house_85_60_b
  exact (fw_if (qs_X12_house_85_105 u0 659 u (0 : Int32) h) (fw_bd (h.trw (qs_X12_line_85 u) (by decide)) (fun (u31 : ac_U) (r31 : Int32) h31 => (fw_if (qs_X12_house_85_83 u0 u31 h31) (fw_bd (h31.tr (ql_X12_sign_85 u31 (59 : Int32)) (by decide)) (fun (u42 : ac_U) (r42 : Int32) h42 => (fw_if (fw_vl (fun (v52 : Int32) => (hB60 (pI u42 85 19 v52) (fw_I h42 rfl)))) (qs_X12_house_85_83 u0 u42 h42))))))))
theorem qs_X12_house_85_60 (u0 : ac_U) : ∀ n : Nat, ∀ (u : ac_U), ac_Fw [90] u0 u → ac_Fw [90] u0 (K_X12_house_85_60 u0 n u).1
  | 0 => fun u h => h
  | n + 1 => fun u h => qs_X12_house_85_60_b u0 (K_X12_house_85_60 u0 n) (qs_X12_house_85_60 u0 n) u h
theorem qs_X12_house_85_29_b (u0 : ac_U) (B29 : ac_U → Int32 → ac_U × Int32) (hB29 : ∀ (u : ac_U) (x1 : Int32), ac_Fw [90] u0 u → ac_Fw [90] u0 (B29 u x1).1) (u : ac_U) (x1 : Int32) (h : ac_Fw [90] u0 u) : ac_Fw [90] u0 (K_X12_house_85_29_b B29 u0 u x1).1 := by
  unfold K_X12_house_85_29_b
  exact (fw_if (fw_cv ((fw_I h rfl).tr (ql_X12_next_85 (pI u 88 0 (24 : Int32))) (by decide)) (fun (u54 : ac_U) h54 => (qs_X12_house_85_60 u0 56 u54 h54))) (fw_vl (fun (v70 : Int32) => (hB29 (pI u 88 x1.toNatClampNeg (0 : Int32)) v70 (fw_I h rfl)))))
theorem qs_X12_house_85_29 (u0 : ac_U) : ∀ n : Nat, ∀ (u : ac_U) (x1 : Int32), ac_Fw [90] u0 u → ac_Fw [90] u0 (K_X12_house_85_29 u0 n u x1).1
  | 0 => fun u _ h => h
  | n + 1 => fun u x1 h => qs_X12_house_85_29_b u0 (K_X12_house_85_29 u0 n) (qs_X12_house_85_29 u0 n) u x1 h
theorem qs_X12_house_85 (u0 : ac_U) : ac_Fw [90] u0 (f_X12_house_85 u0).1 := by
  unfold f_X12_house_85
  exact (fw_cv ((fw_I ac_Fw.rf rfl).tr (ql_X12_taken_85 (pI u0 85 0 (0 : Int32)) (900 : Int32)) (by decide)) (fun (u73 : ac_U) h73 => (qs_X12_house_85_29 u0 108 (pI (pI (pI u73 85 15 (0 : Int32)) 85 19 (0 : Int32)) 85 20 (0 : Int32)) (0 : Int32) (fw_I (fw_I (fw_I h73 rfl) rfl) rfl))))
theorem qs_X12_image_85_51_b (u0 : ac_U) (p0 : Int32) (B51 : ac_U → Int32 → ac_U × Int32) (hB51 : ∀ (u : ac_U) (x2 : Int32), ac_Fw [103] u0 u → ac_Fw [103] u0 (B51 u x2).1) (u : ac_U) (x2 : Int32) (h : ac_Fw [103] u0 u) : ac_Fw [103] u0 (K_X12_image_85_51_b B51 u0 p0 u x2).1 := by
  unfold K_X12_image_85_51_b
  exact (fw_if (fw_I h rfl) (fw_vl (fun (v2 : Int32) => (fw_vl (fun (v3 : Int32) => (fw_vl (fun (w4 : Int64) => (fw_vl (fun (v5 : Int32) => (hB51 (pL u 103 v3.toNatClampNeg w4) v5 (fw_L h)))))))))))
theorem qs_X12_image_85_51 (u0 : ac_U) (p0 : Int32) : ∀ n : Nat, ∀ (u : ac_U) (x2 : Int32), ac_Fw [103] u0 u → ac_Fw [103] u0 (K_X12_image_85_51 u0 p0 n u x2).1
  | 0 => fun u _ h => h
  | n + 1 => fun u x2 h => qs_X12_image_85_51_b u0 p0 (K_X12_image_85_51 u0 p0 n) (qs_X12_image_85_51 u0 p0 n) u x2 h
theorem qs_X12_image_85_18_b (u0 : ac_U) (p0 : Int32) (B18 : ac_U → Int32 → ac_U × Int32) (hB18 : ∀ (u : ac_U) (x2 : Int32), ac_Fw [103] u0 u → ac_Fw [103] u0 (B18 u x2).1) (u : ac_U) (x2 : Int32) (h : ac_Fw [103] u0 u) : ac_Fw [103] u0 (K_X12_image_85_18_b B18 u0 p0 u x2).1 := by
  unfold K_X12_image_85_18_b
  exact (fw_if (qs_X12_image_85_51 u0 p0 28 u (0 : Int32) h) (fw_vl (fun (v9 : Int32) => (fw_vl (fun (v10 : Int32) => (fw_vl (fun (v11 : Int32) => (fw_vl (fun (v12 : Int32) => (hB18 (pI u 102 v10.toNatClampNeg v11) v12 (fw_I h rfl)))))))))))
theorem qs_X12_image_85_18 (u0 : ac_U) (p0 : Int32) : ∀ n : Nat, ∀ (u : ac_U) (x2 : Int32), ac_Fw [103] u0 u → ac_Fw [103] u0 (K_X12_image_85_18 u0 p0 n u x2).1
  | 0 => fun u _ h => h
  | n + 1 => fun u x2 h => qs_X12_image_85_18_b u0 p0 (K_X12_image_85_18 u0 p0 n) (qs_X12_image_85_18 u0 p0 n) u x2 h
theorem qs_X12_image_85 (u0 : ac_U) (p0 : Int32) : ac_Fw [103] u0 (f_X12_image_85 u0 p0).1 := by
  unfold f_X12_image_85
  exact (fw_vl (fun (r14 : Int32) => (fw_if (qs_X12_image_85_18 u0 p0 659 (pI u0 85 0 (0 : Int32)) (0 : Int32) (fw_I ac_Fw.rf rfl)) (fw_I ac_Fw.rf rfl))))
theorem qs_X12_restore_85_60_b (u0 : ac_U) (p0 : Int32) (B60 : ac_U → Int32 → ac_U × Int32) (hB60 : ∀ (u : ac_U) (x2 : Int32), ac_Fw [90] u0 u → ac_Fw [90] u0 (B60 u x2).1) (u : ac_U) (x2 : Int32) (h : ac_Fw [90] u0 u) : ac_Fw [90] u0 (K_X12_restore_85_60_b B60 u0 p0 u x2).1 := by
  unfold K_X12_restore_85_60_b
  exact (fw_if (fw_I h rfl) (fw_vl (fun (v2 : Int32) => (fw_vl (fun (v3 : Int32) => (fw_vl (fun (w4 : Int64) => (fw_vl (fun (v5 : Int32) => (hB60 (pL u 90 x2.toNatClampNeg w4) v5 (fw_L h)))))))))))
theorem qs_X12_restore_85_60 (u0 : ac_U) (p0 : Int32) : ∀ n : Nat, ∀ (u : ac_U) (x2 : Int32), ac_Fw [90] u0 u → ac_Fw [90] u0 (K_X12_restore_85_60 u0 p0 n u x2).1
  | 0 => fun u _ h => h
  | n + 1 => fun u x2 h => qs_X12_restore_85_60_b u0 p0 (K_X12_restore_85_60 u0 p0 n) (qs_X12_restore_85_60 u0 p0 n) u x2 h
theorem qs_X12_restore_85_27_b (u0 : ac_U) (p0 : Int32) (B27 : ac_U → Int32 → ac_U × Int32) (hB27 : ∀ (u : ac_U) (x2 : Int32), ac_Fw [90] u0 u → ac_Fw [90] u0 (B27 u x2).1) (u : ac_U) (x2 : Int32) (h : ac_Fw [90] u0 u) : ac_Fw [90] u0 (K_X12_restore_85_27_b B27 u0 p0 u x2).1 := by
  unfold K_X12_restore_85_27_b
  exact (fw_if (qs_X12_restore_85_60 u0 p0 28 u (0 : Int32) h) (fw_vl (fun (v9 : Int32) => (fw_vl (fun (v10 : Int32) => (fw_vl (fun (v11 : Int32) => (fw_vl (fun (v12 : Int32) => (hB27 (pI u 87 x2.toNatClampNeg v11) v12 (fw_I h rfl)))))))))))
theorem qs_X12_restore_85_27 (u0 : ac_U) (p0 : Int32) : ∀ n : Nat, ∀ (u : ac_U) (x2 : Int32), ac_Fw [90] u0 u → ac_Fw [90] u0 (K_X12_restore_85_27 u0 p0 n u x2).1
  | 0 => fun u _ h => h
  | n + 1 => fun u x2 h => qs_X12_restore_85_27_b u0 p0 (K_X12_restore_85_27 u0 p0 n) (qs_X12_restore_85_27 u0 p0 n) u x2 h
theorem qs_X12_restore_85 (u0 : ac_U) (p0 : Int32) : ac_Fw [90] u0 (f_X12_restore_85 u0 p0).1 := by
  unfold f_X12_restore_85
  exact (fw_vl (fun (r14 : Int32) => (fw_if (fw_I ac_Fw.rf rfl) (fw_vl (fun (v16 : Int32) => (fw_if (qs_X12_restore_85_27 u0 p0 659 (pI u0 85 0 (0 : Int32)) (0 : Int32) (fw_I ac_Fw.rf rfl)) (fw_I ac_Fw.rf rfl)))))))

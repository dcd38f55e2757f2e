/-! Rows of one instruction over a walk's ground F: results named, with their values. -/
section AC5
variable {p : Program} {l : Launch} {e : Env} {R : Room} {s : State} {m : MethodId} {args : Array Value} {below : List Frame} {meth : Method} {c : Code} {H : Heap} {locs : List Loc} {cells slots : Nat} {Q : State → Prop}
variable {cc : ByteArray} {pc : Nat} {ls : Array Slot} {rest : List Value} {D : va_G} {cl : List vw_C} {tys : List (ClassId × FieldType)} {own : String} {Ts : List Cond} {x y : Int32} {a b : Int}
theorem i_div0 (hx : x.toInt = a) (hy : y.toInt = b) (hb : 0 < b) : (x / y).toInt = a.tdiv b := by
  have h1 := i_lo x
  have h2 := i_hi x
  rw [hx] at h1 h2
  rw [Int32.toInt_div, hx, hy]
  rcases (show a < 0 ∨ 0 ≤ a by omega) with h | h
  · have e : a.tdiv b = -((-a).tdiv b) := by rw [Int.neg_tdiv, Int.neg_neg]
    have e2 : (-a).tdiv b = (-a) / b := Int.tdiv_eq_ediv_of_nonneg (by omega)
    have l1 : 0 ≤ (-a) / b := Int.ediv_nonneg (by omega) (by omega)
    have l2 : (-a) / b ≤ -a := Int.ediv_le_self b (by omega)
    rw [e, e2]
    exact i_bm (by omega) (by omega)
  · have e2 : a.tdiv b = a / b := Int.tdiv_eq_ediv_of_nonneg h
    have l1 : 0 ≤ a / b := Int.ediv_nonneg h (by omega)
    have l2 : a / b ≤ a := Int.ediv_le_self b h
    rw [e2]
    exact i_bm (by omega) (by omega)
theorem i_tdiv {k : Int} (hk : 1 ≤ k ∧ k ≤ b) : (0 ≤ a → 0 ≤ a.tdiv b ∧ a.tdiv b ≤ a ∧ a.tdiv b ≤ a / k ∧ a.tdiv b = a / b) ∧ (a ≤ 0 → a ≤ a.tdiv b ∧ a.tdiv b ≤ 0) := by
  refine ⟨fun h => ?_, fun h => ?_⟩
  · rw [Int.tdiv_eq_ediv_of_nonneg h]
    refine ⟨Int.ediv_nonneg h (by omega), Int.ediv_le_self b h, ?_, rfl⟩
    have h0 : 0 ≤ a / b := Int.ediv_nonneg h (by omega)
    have h1 : a / b * b ≤ a := Int.ediv_mul_le a (by omega)
    have h2 : a / b * k ≤ a / b * b := Int.mul_le_mul_of_nonneg_left hk.2 h0
    exact (Int.le_ediv_iff_mul_le (by omega)).mpr (Int.le_trans h2 h1)
  · have e : a.tdiv b = -((-a).tdiv b) := by rw [Int.neg_tdiv, Int.neg_neg]
    have e2 : (-a).tdiv b = (-a) / b := Int.tdiv_eq_ediv_of_nonneg (by omega)
    have l1 : 0 ≤ (-a) / b := Int.ediv_nonneg (by omega) (by omega)
    have l2 : (-a) / b ≤ -a := Int.ediv_le_self b (by omega)
    rw [e, e2]
    omega
theorem i_rem0 (hx : x.toInt = a) (hy : y.toInt = b) (hb : 0 < b) : (x - x / y * y).toInt = a - a.tdiv b * b := by
  have h1 := i_lo x
  have h2 := i_hi x
  rw [hx] at h1 h2
  have hq := i_div0 hx hy hb
  have hm : -2147483648 ≤ a.tdiv b * b ∧ a.tdiv b * b ≤ 2147483647 ∧ -2147483648 ≤ a - a.tdiv b * b ∧ a - a.tdiv b * b ≤ 2147483647 := by
    rcases (show a < 0 ∨ 0 ≤ a by omega) with h | h
    · have e : a.tdiv b = -((-a).tdiv b) := by rw [Int.neg_tdiv, Int.neg_neg]
      have e2 : (-a).tdiv b = (-a) / b := Int.tdiv_eq_ediv_of_nonneg (by omega)
      have l1 : (-a) / b * b ≤ -a := Int.ediv_mul_le _ (by omega)
      have l2 : 0 ≤ (-a) / b * b := Int.mul_nonneg (Int.ediv_nonneg (by omega) (by omega)) (by omega)
      rw [e, e2, Int.neg_mul]
      omega
    · rw [Int.tdiv_eq_ediv_of_nonneg h]
      have l1 : a / b * b ≤ a := Int.ediv_mul_le _ (by omega)
      have l2 : 0 ≤ a / b * b := Int.mul_nonneg (Int.ediv_nonneg h (by omega)) (by omega)
      omega
  exact i_sub hx (i_mul hq hy ⟨hm.1, hm.2.1⟩) ⟨hm.2.2.1, hm.2.2.2⟩
theorem i_tmod (hb : 0 < b) : (0 ≤ a → 0 ≤ a - a.tdiv b * b ∧ a - a.tdiv b * b < b ∧ a - a.tdiv b * b ≤ a) ∧ (a ≤ 0 → -b < a - a.tdiv b * b ∧ a - a.tdiv b * b ≤ 0) := by
  refine ⟨fun h => ?_, fun h => ?_⟩
  · rw [Int.tdiv_eq_ediv_of_nonneg h]
    have l1 : a / b * b ≤ a := Int.ediv_mul_le _ (by omega)
    have l2 : a < (a / b + 1) * b := Int.lt_ediv_add_one_mul_self a hb
    have l3 : 0 ≤ a / b * b := Int.mul_nonneg (Int.ediv_nonneg h (by omega)) (by omega)
    rw [Int.add_mul] at l2
    omega
  · have e : a.tdiv b = -((-a).tdiv b) := by rw [Int.neg_tdiv, Int.neg_neg]
    have e2 : (-a).tdiv b = (-a) / b := Int.tdiv_eq_ediv_of_nonneg (by omega)
    have l1 : (-a) / b * b ≤ -a := Int.ediv_mul_le _ (by omega)
    have l2 : -a < ((-a) / b + 1) * b := Int.lt_ediv_add_one_mul_self (-a) hb
    rw [Int.add_mul] at l2
    rw [e, e2, Int.neg_mul]
    omega
theorem i_and (hy : y.toInt = b) (hb : 0 ≤ b) : 0 ≤ (x &&& y).toInt ∧ (x &&& y).toInt ≤ b := by
  have hn : y.toBitVec.toNat = b.toNat := by
    have h1 : y.toInt = y.toBitVec.toInt := rfl
    rw [h1, BitVec.toInt_eq_toNat_cond] at hy
    have h2 := y.toBitVec.isLt
    split at hy <;> omega
  have hlt : b ≤ 2147483647 := hy ▸ i_hi y
  have h3 : (x &&& y).toBitVec.toNat ≤ y.toBitVec.toNat := by
    rw [Int32.toBitVec_and, BitVec.toNat_and]
    exact Nat.and_le_right
  have h4 : (x &&& y).toInt = (x &&& y).toBitVec.toInt := rfl
  rw [h4, BitVec.toInt_eq_toNat_cond]
  split <;> omega
theorem a_ic (F : ac_X p s m args c cc own Ts D cl tys) {n : Int} (v : Int32) (hdg : decode cc pc = .ok (.iconst n, 1)) (hv : Int32.ofInt n = v) (k : W p l e R s m args below meth c H locs cells slots Q (F0 m (pc + 1) ls (.int v :: rest))) : W p l e R s m args below meth c H locs cells slots Q (F0 m pc ls rest) := lv_iconst F.1 F.2.1 hdg hv k
theorem a_bp (F : ac_X p s m args c cc own Ts D cl tys) {n : Int} (v : Int32) (hdg : decode cc pc = .ok (.bipush n, 2)) (hv : (Int8.ofInt n).toInt32 = v) (k : W p l e R s m args below meth c H locs cells slots Q (F0 m (pc + 2) ls (.int v :: rest))) : W p l e R s m args below meth c H locs cells slots Q (F0 m pc ls rest) := lv_bipush F.1 F.2.1 hdg hv k
theorem a_sp (F : ac_X p s m args c cc own Ts D cl tys) {n : Int} (v : Int32) (hdg : decode cc pc = .ok (.sipush n, 3)) (hv : (Int16.ofInt n).toInt32 = v) (k : W p l e R s m args below meth c H locs cells slots Q (F0 m (pc + 3) ls (.int v :: rest))) : W p l e R s m args below meth c H locs cells slots Q (F0 m pc ls rest) := lv_sipush F.1 F.2.1 hdg hv k

theorem a_iadd (F : ac_X p s m args c cc own Ts D cl tys) (hdg : decode cc pc = .ok (.iadd, 1)) (hx : x.toInt = a) (hy : y.toInt = b) (h : -2147483648 ≤ a + b ∧ a + b ≤ 2147483647) (k : ∀ v : Int32, v.toInt = a + b → W p l e R s m args below meth c H locs cells slots Q (F0 m (pc + 1) ls (.int v :: rest))) : W p l e R s m args below meth c H locs cells slots Q (F0 m pc ls (.int y :: .int x :: rest)) := lv_iadd F.1 F.2.1 hdg (k _ (i_add hx hy h))
theorem a_isub (F : ac_X p s m args c cc own Ts D cl tys) (hdg : decode cc pc = .ok (.isub, 1)) (hx : x.toInt = a) (hy : y.toInt = b) (h : -2147483648 ≤ a - b ∧ a - b ≤ 2147483647) (k : ∀ v : Int32, v.toInt = a - b → W p l e R s m args below meth c H locs cells slots Q (F0 m (pc + 1) ls (.int v :: rest))) : W p l e R s m args below meth c H locs cells slots Q (F0 m pc ls (.int y :: .int x :: rest)) := lv_isub F.1 F.2.1 hdg (k _ (i_sub hx hy h))
theorem a_imul (F : ac_X p s m args c cc own Ts D cl tys) (hdg : decode cc pc = .ok (.imul, 1)) (hx : x.toInt = a) (hy : y.toInt = b) (h : -2147483648 ≤ a * b ∧ a * b ≤ 2147483647) (k : ∀ v : Int32, v.toInt = a * b → W p l e R s m args below meth c H locs cells slots Q (F0 m (pc + 1) ls (.int v :: rest))) : W p l e R s m args below meth c H locs cells slots Q (F0 m pc ls (.int y :: .int x :: rest)) := lv_imul F.1 F.2.1 hdg (k _ (i_mul hx hy h))
theorem a_iaddU (F : ac_X p s m args c cc own Ts D cl tys) (hdg : decode cc pc = .ok (.iadd, 1)) (k : ∀ v : Int32, W p l e R s m args below meth c H locs cells slots Q (F0 m (pc + 1) ls (.int v :: rest))) : W p l e R s m args below meth c H locs cells slots Q (F0 m pc ls (.int y :: .int x :: rest)) := lv_iadd F.1 F.2.1 hdg (k _)
theorem a_isubU (F : ac_X p s m args c cc own Ts D cl tys) (hdg : decode cc pc = .ok (.isub, 1)) (k : ∀ v : Int32, W p l e R s m args below meth c H locs cells slots Q (F0 m (pc + 1) ls (.int v :: rest))) : W p l e R s m args below meth c H locs cells slots Q (F0 m pc ls (.int y :: .int x :: rest)) := lv_isub F.1 F.2.1 hdg (k _)
theorem a_imulU (F : ac_X p s m args c cc own Ts D cl tys) (hdg : decode cc pc = .ok (.imul, 1)) (k : ∀ v : Int32, W p l e R s m args below meth c H locs cells slots Q (F0 m (pc + 1) ls (.int v :: rest))) : W p l e R s m args below meth c H locs cells slots Q (F0 m pc ls (.int y :: .int x :: rest)) := lv_imul F.1 F.2.1 hdg (k _)
theorem a_iandU (F : ac_X p s m args c cc own Ts D cl tys) (hdg : decode cc pc = .ok (.iand, 1)) (k : ∀ v : Int32, W p l e R s m args below meth c H locs cells slots Q (F0 m (pc + 1) ls (.int v :: rest))) : W p l e R s m args below meth c H locs cells slots Q (F0 m pc ls (.int y :: .int x :: rest)) := lv_iand F.1 F.2.1 hdg (k _)
theorem a_iorU (F : ac_X p s m args c cc own Ts D cl tys) (hdg : decode cc pc = .ok (.ior, 1)) (k : ∀ v : Int32, W p l e R s m args below meth c H locs cells slots Q (F0 m (pc + 1) ls (.int v :: rest))) : W p l e R s m args below meth c H locs cells slots Q (F0 m pc ls (.int y :: .int x :: rest)) := lv_ior F.1 F.2.1 hdg (k _)
theorem a_ixorU (F : ac_X p s m args c cc own Ts D cl tys) (hdg : decode cc pc = .ok (.ixor, 1)) (k : ∀ v : Int32, W p l e R s m args below meth c H locs cells slots Q (F0 m (pc + 1) ls (.int v :: rest))) : W p l e R s m args below meth c H locs cells slots Q (F0 m pc ls (.int y :: .int x :: rest)) := lv_ixor F.1 F.2.1 hdg (k _)
theorem a_ishlU (F : ac_X p s m args c cc own Ts D cl tys) (hdg : decode cc pc = .ok (.ishl, 1)) (k : ∀ v : Int32, W p l e R s m args below meth c H locs cells slots Q (F0 m (pc + 1) ls (.int v :: rest))) : W p l e R s m args below meth c H locs cells slots Q (F0 m pc ls (.int y :: .int x :: rest)) := lv_ishl F.1 F.2.1 hdg (k _)
theorem a_ishrU (F : ac_X p s m args c cc own Ts D cl tys) (hdg : decode cc pc = .ok (.ishr, 1)) (k : ∀ v : Int32, W p l e R s m args below meth c H locs cells slots Q (F0 m (pc + 1) ls (.int v :: rest))) : W p l e R s m args below meth c H locs cells slots Q (F0 m pc ls (.int y :: .int x :: rest)) := lv_ishr F.1 F.2.1 hdg (k _)
theorem a_i2b (F : ac_X p s m args c cc own Ts D cl tys) (hdg : decode cc pc = .ok (.i2b, 1)) (k : ∀ v : Int32, vp_nar .byte v = v → (-128 ≤ v.toInt ∧ v.toInt ≤ 127) → W p l e R s m args below meth c H locs cells slots Q (F0 m (pc + 1) ls (.int v :: rest))) : W p l e R s m args below meth c H locs cells slots Q (F0 m pc ls (.int x :: rest)) := by
  refine lv_i2b F.1 F.2.1 hdg rfl (k _ (pk_vb x) ?_)
  have h1 : x.toInt8.toInt32.toInt = x.toInt8.toInt := by simp
  have h2 := Int8.le_toInt x.toInt8
  have h3 := Int8.toInt_lt x.toInt8
  rw [h1]
  omega
theorem a_iandM (F : ac_X p s m args c cc own Ts D cl tys) (hdg : decode cc pc = .ok (.iand, 1)) (hy : y.toInt = b) (hb : 0 ≤ b) (k : ∀ v : Int32, (0 ≤ v.toInt ∧ v.toInt ≤ b) → W p l e R s m args below meth c H locs cells slots Q (F0 m (pc + 1) ls (.int v :: rest))) : W p l e R s m args below meth c H locs cells slots Q (F0 m pc ls (.int y :: .int x :: rest)) := lv_iand F.1 F.2.1 hdg (k _ (i_and hy hb))
theorem a_idiv {kk : Int} (F : ac_X p s m args c cc own Ts D cl tys) (hdg : decode cc pc = .ok (.idiv, 1)) (hx : x.toInt = a) (hy : y.toInt = b) (hk : 1 ≤ kk ∧ kk ≤ b) (k : ∀ v : Int32, v.toInt = a.tdiv b → ((0 ≤ a → 0 ≤ v.toInt ∧ v.toInt ≤ a ∧ v.toInt ≤ a / kk ∧ v.toInt = a / b) ∧ (a ≤ 0 → a ≤ v.toInt ∧ v.toInt ≤ 0)) → W p l e R s m args below meth c H locs cells slots Q (F0 m (pc + 1) ls (.int v :: rest))) : W p l e R s m args below meth c H locs cells slots Q (F0 m pc ls (.int y :: .int x :: rest)) := by
  refine lv_idiv F.1 F.2.1 hdg (fun h => ?_) (k _ (i_div0 hx hy (by omega)) ?_)
  · rw [h] at hy
    have : (0 : Int32).toInt = 0 := rfl
    omega
  · rw [i_div0 hx hy (by omega)]
    exact i_tdiv hk
theorem a_irem (F : ac_X p s m args c cc own Ts D cl tys) (hdg : decode cc pc = .ok (.irem, 1)) (hx : x.toInt = a) (hy : y.toInt = b) (hb : 0 < b) (k : ∀ v : Int32, ((0 ≤ a → 0 ≤ v.toInt ∧ v.toInt < b ∧ v.toInt ≤ a) ∧ (a ≤ 0 → -b < v.toInt ∧ v.toInt ≤ 0)) → W p l e R s m args below meth c H locs cells slots Q (F0 m (pc + 1) ls (.int v :: rest))) : W p l e R s m args below meth c H locs cells slots Q (F0 m pc ls (.int y :: .int x :: rest)) := by
  refine lv_irem F.1 F.2.1 hdg (fun h => ?_) (k _ ?_)
  · rw [h] at hy
    have : (0 : Int32).toInt = 0 := rfl
    omega
  · rw [i_rem0 hx hy hb]
    exact i_tmod hb
theorem a_iinc (F : ac_X p s m args c cc own Ts D cl tys) {i nL k : Nat} {n : Int} {lv : List (Nat × Value)} (lv' : Int32 → List (Nat × Value)) (hdg : decode cc pc = .ok (.iinc i n, 3)) (h : lv_has ls nL lv) (hk : lv[k]? = some (i, .int x)) (hx : x.toInt = a) (hn : (Int32.ofInt n).toInt = n) (hr : -2147483648 ≤ a + n ∧ a + n ≤ 2147483647) (hi : i < nL) (hl : ∀ v : Int32, (i, Value.int v) :: lv.filter (fun q => !(q.1 == i) && !(q.1 + 1 == i && q.2.category == 2)) = lv' v)
    (kk : ∀ (v : Int32) (ls' : Array Slot), v.toInt = a + n → lv_has ls' nL (lv' v) → W p l e R s m args below meth c H locs cells slots Q (F0 m (pc + 3) ls' rest)) : W p l e R s m args below meth c H locs cells slots Q (F0 m pc ls rest) :=
  lv_iinc F.1 F.2.1 hdg h hk rfl hi (hl _) (fun ls' h' => kk _ ls' (i_add hx hn hr) h')
theorem a_iincU (F : ac_X p s m args c cc own Ts D cl tys) {i nL k : Nat} {n : Int} {lv : List (Nat × Value)} (lv' : Int32 → List (Nat × Value)) (hdg : decode cc pc = .ok (.iinc i n, 3)) (h : lv_has ls nL lv) (hk : lv[k]? = some (i, .int x)) (hi : i < nL) (hl : ∀ v : Int32, (i, Value.int v) :: lv.filter (fun q => !(q.1 == i) && !(q.1 + 1 == i && q.2.category == 2)) = lv' v)
    (kk : ∀ (v : Int32) (ls' : Array Slot), lv_has ls' nL (lv' v) → W p l e R s m args below meth c H locs cells slots Q (F0 m (pc + 3) ls' rest)) : W p l e R s m args below meth c H locs cells slots Q (F0 m pc ls rest) :=
  lv_iinc F.1 F.2.1 hdg h hk rfl hi (hl _) (fun ls' h' => kk _ ls' h')
theorem b_eq (F : ac_X p s m args c cc own Ts D cl tys) {off : Int} (tgt : Nat) (hdg : decode cc pc = .ok (.if_icmp .eq off, 3)) (ht : (pc : Int) + off = (tgt : Int)) (hx : x.toInt = a) (hy : y.toInt = b) (kt : a = b → W p l e R s m args below meth c H locs cells slots Q (F0 m tgt ls rest)) (kf : a ≠ b → W p l e R s m args below meth c H locs cells slots Q (F0 m (pc + 3) ls rest)) : W p l e R s m args below meth c H locs cells slots Q (F0 m pc ls (.int y :: .int x :: rest)) := lv_icmp_eq F.1 F.2.1 hdg ht (fun h => kt ((i_eq hx hy).mp h)) (fun h => kf (fun q => h ((i_eq hx hy).mpr q)))
theorem b_ne (F : ac_X p s m args c cc own Ts D cl tys) {off : Int} (tgt : Nat) (hdg : decode cc pc = .ok (.if_icmp .ne off, 3)) (ht : (pc : Int) + off = (tgt : Int)) (hx : x.toInt = a) (hy : y.toInt = b) (kt : a ≠ b → W p l e R s m args below meth c H locs cells slots Q (F0 m tgt ls rest)) (kf : a = b → W p l e R s m args below meth c H locs cells slots Q (F0 m (pc + 3) ls rest)) : W p l e R s m args below meth c H locs cells slots Q (F0 m pc ls (.int y :: .int x :: rest)) := lv_icmp_ne F.1 F.2.1 hdg ht (fun h => kt (fun q => h ((i_eq hx hy).mpr q))) (fun h => kf ((i_eq hx hy).mp h))
theorem b_lt (F : ac_X p s m args c cc own Ts D cl tys) {off : Int} (tgt : Nat) (hdg : decode cc pc = .ok (.if_icmp .lt off, 3)) (ht : (pc : Int) + off = (tgt : Int)) (hx : x.toInt = a) (hy : y.toInt = b) (kt : a < b → W p l e R s m args below meth c H locs cells slots Q (F0 m tgt ls rest)) (kf : b ≤ a → W p l e R s m args below meth c H locs cells slots Q (F0 m (pc + 3) ls rest)) : W p l e R s m args below meth c H locs cells slots Q (F0 m pc ls (.int y :: .int x :: rest)) := lv_icmp_lt F.1 F.2.1 hdg ht (fun h => kt ((i_lt hx hy).mp h)) (fun h => kf (Int.not_lt.mp (fun q => h ((i_lt hx hy).mpr q))))
theorem b_ge (F : ac_X p s m args c cc own Ts D cl tys) {off : Int} (tgt : Nat) (hdg : decode cc pc = .ok (.if_icmp .ge off, 3)) (ht : (pc : Int) + off = (tgt : Int)) (hx : x.toInt = a) (hy : y.toInt = b) (kt : b ≤ a → W p l e R s m args below meth c H locs cells slots Q (F0 m tgt ls rest)) (kf : a < b → W p l e R s m args below meth c H locs cells slots Q (F0 m (pc + 3) ls rest)) : W p l e R s m args below meth c H locs cells slots Q (F0 m pc ls (.int y :: .int x :: rest)) := lv_icmp_ge F.1 F.2.1 hdg ht (fun h => kt ((i_le hy hx).mp h)) (fun h => kf (Int.not_le.mp (fun q => h ((i_le hy hx).mpr q))))
theorem b_gt (F : ac_X p s m args c cc own Ts D cl tys) {off : Int} (tgt : Nat) (hdg : decode cc pc = .ok (.if_icmp .gt off, 3)) (ht : (pc : Int) + off = (tgt : Int)) (hx : x.toInt = a) (hy : y.toInt = b) (kt : b < a → W p l e R s m args below meth c H locs cells slots Q (F0 m tgt ls rest)) (kf : a ≤ b → W p l e R s m args below meth c H locs cells slots Q (F0 m (pc + 3) ls rest)) : W p l e R s m args below meth c H locs cells slots Q (F0 m pc ls (.int y :: .int x :: rest)) := lv_icmp_gt F.1 F.2.1 hdg ht (fun h => kt ((i_lt hy hx).mp h)) (fun h => kf (Int.not_lt.mp (fun q => h ((i_lt hy hx).mpr q))))
theorem b_le (F : ac_X p s m args c cc own Ts D cl tys) {off : Int} (tgt : Nat) (hdg : decode cc pc = .ok (.if_icmp .le off, 3)) (ht : (pc : Int) + off = (tgt : Int)) (hx : x.toInt = a) (hy : y.toInt = b) (kt : a ≤ b → W p l e R s m args below meth c H locs cells slots Q (F0 m tgt ls rest)) (kf : b < a → W p l e R s m args below meth c H locs cells slots Q (F0 m (pc + 3) ls rest)) : W p l e R s m args below meth c H locs cells slots Q (F0 m pc ls (.int y :: .int x :: rest)) := lv_icmp_le F.1 F.2.1 hdg ht (fun h => kt ((i_le hx hy).mp h)) (fun h => kf (Int.not_le.mp (fun q => h ((i_le hx hy).mpr q))))
theorem z_eq (F : ac_X p s m args c cc own Ts D cl tys) {off : Int} (tgt : Nat) (hdg : decode cc pc = .ok (.ifCond .eq off, 3)) (ht : (pc : Int) + off = (tgt : Int)) (hx : x.toInt = a) (kt : a = 0 → W p l e R s m args below meth c H locs cells slots Q (F0 m tgt ls rest)) (kf : a ≠ 0 → W p l e R s m args below meth c H locs cells slots Q (F0 m (pc + 3) ls rest)) : W p l e R s m args below meth c H locs cells slots Q (F0 m pc ls (.int x :: rest)) := lv_if_eq F.1 F.2.1 hdg ht (fun h => kt ((i_eq hx (rfl : (0 : Int32).toInt = 0)).mp h)) (fun h => kf (fun q => h ((i_eq hx (rfl : (0 : Int32).toInt = 0)).mpr q)))
theorem z_ne (F : ac_X p s m args c cc own Ts D cl tys) {off : Int} (tgt : Nat) (hdg : decode cc pc = .ok (.ifCond .ne off, 3)) (ht : (pc : Int) + off = (tgt : Int)) (hx : x.toInt = a) (kt : a ≠ 0 → W p l e R s m args below meth c H locs cells slots Q (F0 m tgt ls rest)) (kf : a = 0 → W p l e R s m args below meth c H locs cells slots Q (F0 m (pc + 3) ls rest)) : W p l e R s m args below meth c H locs cells slots Q (F0 m pc ls (.int x :: rest)) := lv_if_ne F.1 F.2.1 hdg ht (fun h => kt (fun q => h ((i_eq hx (rfl : (0 : Int32).toInt = 0)).mpr q))) (fun h => kf ((i_eq hx (rfl : (0 : Int32).toInt = 0)).mp h))
theorem z_lt (F : ac_X p s m args c cc own Ts D cl tys) {off : Int} (tgt : Nat) (hdg : decode cc pc = .ok (.ifCond .lt off, 3)) (ht : (pc : Int) + off = (tgt : Int)) (hx : x.toInt = a) (kt : a < 0 → W p l e R s m args below meth c H locs cells slots Q (F0 m tgt ls rest)) (kf : 0 ≤ a → W p l e R s m args below meth c H locs cells slots Q (F0 m (pc + 3) ls rest)) : W p l e R s m args below meth c H locs cells slots Q (F0 m pc ls (.int x :: rest)) := lv_if_lt F.1 F.2.1 hdg ht (fun h => kt ((i_lt hx (rfl : (0 : Int32).toInt = 0)).mp h)) (fun h => kf (Int.not_lt.mp (fun q => h ((i_lt hx (rfl : (0 : Int32).toInt = 0)).mpr q))))
theorem z_ge (F : ac_X p s m args c cc own Ts D cl tys) {off : Int} (tgt : Nat) (hdg : decode cc pc = .ok (.ifCond .ge off, 3)) (ht : (pc : Int) + off = (tgt : Int)) (hx : x.toInt = a) (kt : 0 ≤ a → W p l e R s m args below meth c H locs cells slots Q (F0 m tgt ls rest)) (kf : a < 0 → W p l e R s m args below meth c H locs cells slots Q (F0 m (pc + 3) ls rest)) : W p l e R s m args below meth c H locs cells slots Q (F0 m pc ls (.int x :: rest)) := lv_if_ge F.1 F.2.1 hdg ht (fun h => kt ((i_le (rfl : (0 : Int32).toInt = 0) hx).mp h)) (fun h => kf (Int.not_le.mp (fun q => h ((i_le (rfl : (0 : Int32).toInt = 0) hx).mpr q))))
theorem z_gt (F : ac_X p s m args c cc own Ts D cl tys) {off : Int} (tgt : Nat) (hdg : decode cc pc = .ok (.ifCond .gt off, 3)) (ht : (pc : Int) + off = (tgt : Int)) (hx : x.toInt = a) (kt : 0 < a → W p l e R s m args below meth c H locs cells slots Q (F0 m tgt ls rest)) (kf : a ≤ 0 → W p l e R s m args below meth c H locs cells slots Q (F0 m (pc + 3) ls rest)) : W p l e R s m args below meth c H locs cells slots Q (F0 m pc ls (.int x :: rest)) := lv_if_gt F.1 F.2.1 hdg ht (fun h => kt ((i_lt (rfl : (0 : Int32).toInt = 0) hx).mp h)) (fun h => kf (Int.not_lt.mp (fun q => h ((i_lt (rfl : (0 : Int32).toInt = 0) hx).mpr q))))
theorem z_le (F : ac_X p s m args c cc own Ts D cl tys) {off : Int} (tgt : Nat) (hdg : decode cc pc = .ok (.ifCond .le off, 3)) (ht : (pc : Int) + off = (tgt : Int)) (hx : x.toInt = a) (kt : a ≤ 0 → W p l e R s m args below meth c H locs cells slots Q (F0 m tgt ls rest)) (kf : 0 < a → W p l e R s m args below meth c H locs cells slots Q (F0 m (pc + 3) ls rest)) : W p l e R s m args below meth c H locs cells slots Q (F0 m pc ls (.int x :: rest)) := lv_if_le F.1 F.2.1 hdg ht (fun h => kt ((i_le hx (rfl : (0 : Int32).toInt = 0)).mp h)) (fun h => kf (Int.not_le.mp (fun q => h ((i_le hx (rfl : (0 : Int32).toInt = 0)).mpr q))))
end AC5

/-! Rows that hand over the exact value too; functions that say what a method does. -/
abbrev vl {α β : Type} (x : α) (k : α → β) : β := k x
theorem vl_eq {α β : Type} {R : β} {x v : α} {k : α → β} (hC : R = vl x k) (he : v = x) : R = k v := by subst he; exact hC
abbrev bd {α β γ : Type} (q : α × β) (k : α → β → γ) : γ := k q.1 q.2
theorem bd_eq {α β γ : Type} {R : γ} {q : α × β} {u : α} {r : β} {k : α → β → γ} (hC : R = bd q k) (he : q = (u, r)) : R = k u r := by subst he; exact hC
abbrev pI (u : ac_U) (c k : Nat) (v : Int32) : ac_U := ac_si u c (upd (u.1 c) k v)
abbrev pL (u : ac_U) (c k : Nat) (v : Int64) : ac_U := ac_sl u c (vp_updL (u.2 c) k v)
abbrev cpI (u : ac_U) (c0 c1 a b n : Nat) : ac_U := ac_si u c1 (va_cpy (u.1 c0) (u.1 c1) a b n)
abbrev cpL (u : ac_U) (c0 c1 a b n : Nat) : ac_U := ac_sl u c1 (va_cpy (u.2 c0) (u.2 c1) a b n)
abbrev jushr (x y : Int32) : Int32 := (x.toUInt32 >>> (y.toUInt32 &&& Int32.toUInt32 31)).toInt32
section ACX
variable {p : Program} {l : Launch} {e : Env} {R : Room} {s : State} {m : MethodId} {args : Array Value} {below : List Frame} {meth : Method} {c : Code} {H : Heap} {locs : List Loc} {cells slots : Nat} {Q : State → Prop}
variable {cc : ByteArray} {pc : Nat} {ls : Array Slot} {rest : List Value} {D : va_G} {cl : List vw_C} {tys : List (ClassId × FieldType)} {own : String} {Ts : List Cond} {x y : Int32} {a b : Int}
theorem a_iaddX (F : ac_X p s m args c cc own Ts D cl tys) (hdg : decode cc pc = .ok (.iadd, 1)) (hx : x.toInt = a) (hy : y.toInt = b) (h : -2147483648 ≤ a + b ∧ a + b ≤ 2147483647) (k : ∀ v : Int32, v.toInt = a + b → v = x + y → W p l e R s m args below meth c H locs cells slots Q (F0 m (pc + 1) ls (.int v :: rest))) : W p l e R s m args below meth c H locs cells slots Q (F0 m pc ls (.int y :: .int x :: rest)) := lv_iadd F.1 F.2.1 hdg (k _ (i_add hx hy h) rfl)
theorem a_iaddUX (F : ac_X p s m args c cc own Ts D cl tys) (hdg : decode cc pc = .ok (.iadd, 1)) (k : ∀ v : Int32, v = x + y → W p l e R s m args below meth c H locs cells slots Q (F0 m (pc + 1) ls (.int v :: rest))) : W p l e R s m args below meth c H locs cells slots Q (F0 m pc ls (.int y :: .int x :: rest)) := lv_iadd F.1 F.2.1 hdg (k _ rfl)
theorem a_isubX (F : ac_X p s m args c cc own Ts D cl tys) (hdg : decode cc pc = .ok (.isub, 1)) (hx : x.toInt = a) (hy : y.toInt = b) (h : -2147483648 ≤ a - b ∧ a - b ≤ 2147483647) (k : ∀ v : Int32, v.toInt = a - b → v = x - y → W p l e R s m args below meth c H locs cells slots Q (F0 m (pc + 1) ls (.int v :: rest))) : W p l e R s m args below meth c H locs cells slots Q (F0 m pc ls (.int y :: .int x :: rest)) := lv_isub F.1 F.2.1 hdg (k _ (i_sub hx hy h) rfl)
theorem a_isubUX (F : ac_X p s m args c cc own Ts D cl tys) (hdg : decode cc pc = .ok (.isub, 1)) (k : ∀ v : Int32, v = x - y → W p l e R s m args below meth c H locs cells slots Q (F0 m (pc + 1) ls (.int v :: rest))) : W p l e R s m args below meth c H locs cells slots Q (F0 m pc ls (.int y :: .int x :: rest)) := lv_isub F.1 F.2.1 hdg (k _ rfl)
theorem a_imulX (F : ac_X p s m args c cc own Ts D cl tys) (hdg : decode cc pc = .ok (.imul, 1)) (hx : x.toInt = a) (hy : y.toInt = b) (h : -2147483648 ≤ a * b ∧ a * b ≤ 2147483647) (k : ∀ v : Int32, v.toInt = a * b → v = x * y → W p l e R s m args below meth c H locs cells slots Q (F0 m (pc + 1) ls (.int v :: rest))) : W p l e R s m args below meth c H locs cells slots Q (F0 m pc ls (.int y :: .int x :: rest)) := lv_imul F.1 F.2.1 hdg (k _ (i_mul hx hy h) rfl)
theorem a_imulUX (F : ac_X p s m args c cc own Ts D cl tys) (hdg : decode cc pc = .ok (.imul, 1)) (k : ∀ v : Int32, v = x * y → W p l e R s m args below meth c H locs cells slots Q (F0 m (pc + 1) ls (.int v :: rest))) : W p l e R s m args below meth c H locs cells slots Q (F0 m pc ls (.int y :: .int x :: rest)) := lv_imul F.1 F.2.1 hdg (k _ rfl)
theorem a_iorUX (F : ac_X p s m args c cc own Ts D cl tys) (hdg : decode cc pc = .ok (.ior, 1)) (k : ∀ v : Int32, v = x ||| y → W p l e R s m args below meth c H locs cells slots Q (F0 m (pc + 1) ls (.int v :: rest))) : W p l e R s m args below meth c H locs cells slots Q (F0 m pc ls (.int y :: .int x :: rest)) := lv_ior F.1 F.2.1 hdg (k _ rfl)
theorem a_ixorUX (F : ac_X p s m args c cc own Ts D cl tys) (hdg : decode cc pc = .ok (.ixor, 1)) (k : ∀ v : Int32, v = x ^^^ y → W p l e R s m args below meth c H locs cells slots Q (F0 m (pc + 1) ls (.int v :: rest))) : W p l e R s m args below meth c H locs cells slots Q (F0 m pc ls (.int y :: .int x :: rest)) := lv_ixor F.1 F.2.1 hdg (k _ rfl)
theorem a_ishrUX (F : ac_X p s m args c cc own Ts D cl tys) (hdg : decode cc pc = .ok (.ishr, 1)) (k : ∀ v : Int32, v = x >>> (y &&& 31) → W p l e R s m args below meth c H locs cells slots Q (F0 m (pc + 1) ls (.int v :: rest))) : W p l e R s m args below meth c H locs cells slots Q (F0 m pc ls (.int y :: .int x :: rest)) := lv_ishr F.1 F.2.1 hdg (k _ rfl)
theorem a_iushrUX (F : ac_X p s m args c cc own Ts D cl tys) (hdg : decode cc pc = .ok (.iushr, 1)) (k : ∀ v : Int32, v = jushr x y → W p l e R s m args below meth c H locs cells slots Q (F0 m (pc + 1) ls (.int v :: rest))) : W p l e R s m args below meth c H locs cells slots Q (F0 m pc ls (.int y :: .int x :: rest)) := lv_iushr F.1 F.2.1 hdg rfl (k _ rfl)
theorem a_iandMX (F : ac_X p s m args c cc own Ts D cl tys) (hdg : decode cc pc = .ok (.iand, 1)) (hy : y.toInt = b) (hb : 0 ≤ b) (k : ∀ v : Int32, (0 ≤ v.toInt ∧ v.toInt ≤ b) → v = x &&& y → W p l e R s m args below meth c H locs cells slots Q (F0 m (pc + 1) ls (.int v :: rest))) : W p l e R s m args below meth c H locs cells slots Q (F0 m pc ls (.int y :: .int x :: rest)) := lv_iand F.1 F.2.1 hdg (k _ (i_and hy hb) rfl)
theorem a_iandLX (F : ac_X p s m args c cc own Ts D cl tys) (hdg : decode cc pc = .ok (.iand, 1)) (hx : x.toInt = a) (ha : 0 ≤ a) (k : ∀ v : Int32, (0 ≤ v.toInt ∧ v.toInt ≤ a) → v = x &&& y → W p l e R s m args below meth c H locs cells slots Q (F0 m (pc + 1) ls (.int v :: rest))) : W p l e R s m args below meth c H locs cells slots Q (F0 m pc ls (.int y :: .int x :: rest)) := lv_iand F.1 F.2.1 hdg (k _ (by rw [Int32.and_comm]; exact i_and hx ha) rfl)
theorem a_iorBX {n m' : Nat} (F : ac_X p s m args c cc own Ts D cl tys) (hdg : decode cc pc = .ok (.ior, 1)) (hx : x.toInt = a) (hy : y.toInt = b) (hm : 2 ^ n = m') (hn : n ≤ 30) (ha : 0 ≤ a ∧ a < (m' : Int)) (hb : 0 ≤ b ∧ b < (m' : Int)) (k : ∀ v : Int32, (0 ≤ v.toInt ∧ v.toInt ≤ (m' : Int) - 1) → v = x ||| y → W p l e R s m args below meth c H locs cells slots Q (F0 m (pc + 1) ls (.int v :: rest))) : W p l e R s m args below meth c H locs cells slots Q (F0 m pc ls (.int y :: .int x :: rest)) := lv_ior F.1 F.2.1 hdg (k _ (i_or hx hy hm hn ha hb) rfl)
theorem a_ishl1X {lo hi : Nat} (F : ac_X p s m args c cc own Ts D cl tys) (hdg : decode cc pc = .ok (.ishl, 1)) (hy : y.toInt = b) (hb : (lo : Int) ≤ b ∧ b ≤ hi) (hh : hi ≤ 24) (k : ∀ v : Int32, ((2 : Int) ^ lo ≤ v.toInt ∧ v.toInt ≤ 2 ^ hi) → v = (1 : Int32) <<< (y &&& 31) → W p l e R s m args below meth c H locs cells slots Q (F0 m (pc + 1) ls (.int v :: rest))) : W p l e R s m args below meth c H locs cells slots Q (F0 m pc ls (.int y :: .int (1 : Int32) :: rest)) := by
  refine lv_ishl F.1 F.2.1 hdg (k _ ?_ rfl)
  have h1 : y = nI b.toNat := by
    apply Int32.toInt_inj.mp
    rw [nI_toInt (by omega), hy]
    omega
  rw [h1, i_shl1 b.toNat (by omega)]
  have h2 : (2 : Nat) ^ lo ≤ 2 ^ b.toNat := Nat.pow_le_pow_right (by decide) (by omega)
  have h3 : (2 : Nat) ^ b.toNat ≤ 2 ^ hi := Nat.pow_le_pow_right (by decide) (by omega)
  exact ⟨by exact_mod_cast h2, by exact_mod_cast h3⟩
theorem a_i2bX (F : ac_X p s m args c cc own Ts D cl tys) (hdg : decode cc pc = .ok (.i2b, 1)) (k : ∀ v : Int32, vp_nar .byte v = v → (-128 ≤ v.toInt ∧ v.toInt ≤ 127) → v = x.toInt8.toInt32 → W p l e R s m args below meth c H locs cells slots Q (F0 m (pc + 1) ls (.int v :: rest))) : W p l e R s m args below meth c H locs cells slots Q (F0 m pc ls (.int x :: rest)) := by
  refine lv_i2b F.1 F.2.1 hdg rfl (k _ (pk_vb x) ?_ rfl)
  have h1 : x.toInt8.toInt32.toInt = x.toInt8.toInt := by simp
  have h2 := Int8.le_toInt x.toInt8
  have h3 := Int8.toInt_lt x.toInt8
  rw [h1]
  omega
theorem a_iincX (F : ac_X p s m args c cc own Ts D cl tys) {i nL k : Nat} {n : Int} {lv : List (Nat × Value)} (lv' : Int32 → List (Nat × Value)) (hdg : decode cc pc = .ok (.iinc i n, 3)) (h : lv_has ls nL lv) (hk : lv[k]? = some (i, .int x)) (hx : x.toInt = a) (hn : (Int32.ofInt n).toInt = n) (hr : -2147483648 ≤ a + n ∧ a + n ≤ 2147483647) (hi : i < nL) (hl : ∀ v : Int32, (i, Value.int v) :: lv.filter (fun q => !(q.1 == i) && !(q.1 + 1 == i && q.2.category == 2)) = lv' v)
    (kk : ∀ (v : Int32) (ls' : Array Slot), v.toInt = a + n → v = x + Int32.ofInt n → lv_has ls' nL (lv' v) → W p l e R s m args below meth c H locs cells slots Q (F0 m (pc + 3) ls' rest)) : W p l e R s m args below meth c H locs cells slots Q (F0 m pc ls rest) :=
  lv_iinc F.1 F.2.1 hdg h hk rfl hi (hl _) (fun ls' h' => kk _ ls' (i_add hx hn hr) rfl h')
theorem a_iincUX (F : ac_X p s m args c cc own Ts D cl tys) {i nL k : Nat} {n : Int} {lv : List (Nat × Value)} (lv' : Int32 → List (Nat × Value)) (hdg : decode cc pc = .ok (.iinc i n, 3)) (h : lv_has ls nL lv) (hk : lv[k]? = some (i, .int x)) (hi : i < nL) (hl : ∀ v : Int32, (i, Value.int v) :: lv.filter (fun q => !(q.1 == i) && !(q.1 + 1 == i && q.2.category == 2)) = lv' v)
    (kk : ∀ (v : Int32) (ls' : Array Slot), v = x + Int32.ofInt n → lv_has ls' nL (lv' v) → W p l e R s m args below meth c H locs cells slots Q (F0 m (pc + 3) ls' rest)) : W p l e R s m args below meth c H locs cells slots Q (F0 m pc ls rest) :=
  lv_iinc F.1 F.2.1 hdg h hk rfl hi (hl _) (fun ls' h' => kk _ ls' rfl h')
end ACX

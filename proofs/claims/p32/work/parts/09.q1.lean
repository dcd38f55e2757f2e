/-! Lemmas of the planner's bits; bytes copied. -/
def bits4 (x : Int) : Prop := ∃ n : Nat, n < 86 ∧ n &&& 85 = n ∧ x = n
theorem ev_0 : bits4 (0 : Int32).toInt := ⟨0, by decide, by decide, by decide⟩
theorem ev_rg {x : Int} (h : bits4 x) : (0 : Int) ≤ x ∧ x ≤ 85 := by
  obtain ⟨n, h1, h2, h3⟩ := h
  omega
theorem ev_d1 : ∀ n, n < 86 → n &&& 85 = n → ∀ k, k < 4 → ((n ||| 2 ^ (2 * k)) < 86 ∧ (n ||| 2 ^ (2 * k)) &&& 85 = (n ||| 2 ^ (2 * k))) := by decide +kernel
theorem ev_d2 : ∀ s, s < 256 → ∀ c, c < 86 → c &&& 85 = c → ((s ||| s / 2) &&& c) ≤ s := by decide +kernel
theorem ev_d3 : ∀ k, k < 4 → ((1 : Int32) <<< (nI (2 * k) &&& 31)).toBitVec.toNat = 2 ^ (2 * k) := by decide +kernel
theorem i_ofn {x : Int32} {n : Nat} (h : x.toBitVec.toNat = n) (hn : n < 2 ^ 31) : x.toInt = n := by
  have h1 : x.toInt = x.toBitVec.toInt := rfl
  rw [h1, BitVec.toInt_eq_toNat_cond, if_pos (by omega), h]
theorem ev_or {b y z : Int32} {k : Int} (h : bits4 b.toInt) (hk : 0 ≤ k ∧ k < 4) (hy : y.toInt = 2 * k) (e : z = (b ||| ((1 : Int32) <<< (y &&& 31)))) : bits4 z.toInt := by
  obtain ⟨n, h1, h2, h3⟩ := h
  have hb := i_nat h3 (by omega)
  have hy2 : y = nI (2 * k.toNat) := by
    apply Int32.toInt_inj.mp
    rw [nI_toInt (by omega), hy]
    omega
  have h4 := ev_d3 k.toNat (by omega)
  have h5 := ev_d1 n h1 h2 k.toNat (by omega)
  have h6 : z.toBitVec.toNat = n ||| 2 ^ (2 * k.toNat) := by
    rw [e, Int32.toBitVec_or, BitVec.toNat_or, hb, hy2, h4]
    simp
  exact ⟨_, h5.1, h5.2, i_ofn h6 (by omega)⟩
theorem i_shr1 {x : Int32} (h : 0 ≤ x.toInt) : (x >>> ((1 : Int32) &&& 31)).toBitVec.toNat = x.toBitVec.toNat / 2 := by
  have h0 : ((1 : Int32) &&& 31) = 1 := by decide
  rw [h0]
  have h1 : (x >>> (1 : Int32)).toBitVec = x.toBitVec.sshiftRight 1 := by
    rw [Int32.toBitVec_shiftRight]
    rfl
  have h3 : x.toBitVec.toInt = x.toInt := rfl
  have h4 : x.toBitVec.msb = false := by
    rw [BitVec.msb_eq_toInt, decide_eq_false_iff_not]
    omega
  rw [h1, BitVec.sshiftRight_eq_of_msb_false h4, BitVec.toNat_ushiftRight, Nat.shiftRight_eq_div_pow]
theorem ev_ad {s c : Int32} (hs : 0 ≤ s.toInt ∧ s.toInt ≤ 255) (hc : bits4 c.toInt) : (0 : Int) ≤ (s - ((s ||| (s >>> ((1 : Int32) &&& 31))) &&& c)).toInt ∧ (s - ((s ||| (s >>> ((1 : Int32) &&& 31))) &&& c)).toInt ≤ 255 := by
  obtain ⟨n, h1, h2, h3⟩ := hc
  have hb := i_nat h3 (by omega)
  have hs2 := i_nat (rfl : s.toInt = _) hs.1
  have h5 : ((s ||| (s >>> ((1 : Int32) &&& 31))) &&& c).toBitVec.toNat = ((s.toInt.toNat ||| s.toInt.toNat / 2) &&& n) := by
    rw [Int32.toBitVec_and, BitVec.toNat_and, Int32.toBitVec_or, BitVec.toNat_or, i_shr1 hs.1, hb, hs2]
    simp
  have h6 := ev_d2 s.toInt.toNat (by omega) n h1 h2
  generalize ((s ||| (s >>> ((1 : Int32) &&& 31))) &&& c) = t at h5 ⊢
  have h7 := i_ofn h5 (by omega)
  have h8 : (s - t).toInt = s.toInt - t.toInt := i_sub rfl rfl (by omega)
  omega
theorem wi_0 {x y v : Int32} (e : v = ((x >>> (y &&& 31)) &&& (3 : Int32))) : (x.toInt = 0 → v.toInt = 0) ∧ (0 ≤ v.toInt ∧ v.toInt ≤ 3) := by
  constructor
  · intro h
    have h1 : x = 0 := Int32.toInt_inj.mp h
    rw [e, h1]
    have h2 : ((0 : Int32) >>> (y &&& 31)) = 0 := by
      apply Int32.toBitVec_inj.mp
      rw [Int32.toBitVec_shiftRight]
      simp
    rw [h2]
    decide
  · rw [e]
    exact i_and rfl (by decide)
theorem sh_d : ∀ a, a < 4 → ∀ b, b < 7 → (nI a <<< (nI b &&& 31)).toInt = a * 2 ^ b := by decide +kernel
theorem i_fitb {v : Int32} (h : (-128 : Int) ≤ v.toInt ∧ v.toInt ≤ 127) : fits .byte (.int v) = true := by
  simp only [fits, Bool.and_eq_true, decide_eq_true_eq]
  exact ⟨(i_le (by decide : (-(128 : Int32)).toInt = -128) rfl).mpr h.1, (i_le rfl (by decide : (127 : Int32).toInt = 127)).mpr h.2⟩
section AC8
variable {p : Program} {l : Launch} {e : Env} {R : Room} {s : State} {m : MethodId} {args : Array Value} {below : List Frame} {meth : Method} {c : Code} {H : Heap} {locs : List Loc} {cells slots : Nat} {Q : State → Prop}
variable {cc : ByteArray} {pc : Nat} {ls : Array Slot} {rest : List Value} {D : va_G} {cl : List vw_C} {A : Nat → Prop} {tys : List (ClassId × FieldType)} {own : String} {Ts : List Cond} {x y : Int32} {a b : Int} {ad : Nat → Nat} {cA : Nat → ClassId} {T : List ac_T} {u : ac_U} {H0 : Heap} {index : Nat}
theorem a_ishlS {a1 hi : Nat} (F : ac_X p s m args c cc own Ts D cl tys) (hdg : decode cc pc = .ok (.ishl, 1)) (hx : x.toInt = a) (hy : y.toInt = b) (ha : (0 : Int) ≤ a ∧ a ≤ a1) (hb : (0 : Int) ≤ b ∧ b ≤ hi) (hh : a1 ≤ 3 ∧ hi ≤ 6) (k : ∀ v : Int32, ((0 : Int) ≤ v.toInt ∧ v.toInt ≤ a1 * 2 ^ hi) → W p l e R s m args below meth c H locs cells slots Q (F0 m (pc + 1) ls (.int v :: rest))) : W p l e R s m args below meth c H locs cells slots Q (F0 m pc ls (.int y :: .int x :: rest)) := by
  refine lv_ishl F.1 F.2.1 hdg (k _ ?_)
  have h1 : y = nI b.toNat := by
    apply Int32.toInt_inj.mp
    rw [nI_toInt (by omega), hy]
    omega
  have h2 : x = nI a.toNat := by
    apply Int32.toInt_inj.mp
    rw [nI_toInt (by omega), hx]
    omega
  rw [h1, h2, sh_d a.toNat (by omega) b.toNat (by omega)]
  have h3 : (2 : Nat) ^ b.toNat ≤ 2 ^ hi := Nat.pow_le_pow_right (by decide) (by omega)
  have h4 : a.toNat * 2 ^ b.toNat ≤ a1 * 2 ^ hi := Nat.mul_le_mul (by omega) h3
  exact ⟨by exact_mod_cast Nat.zero_le (a.toNat * 2 ^ b.toNat), by exact_mod_cast h4⟩
theorem a_cpyb {rg : Nat → Nat → Int × Int} (F : ac_X p s m args c cc own Ts D cl tys) (hml : c.maxLocals = ls.size) (hlink : Cond.methodLink own index arraycopyName ∈ Ts) (hnat : Cond.native arraycopyName ∈ Ts) (hstat : Cond.static arraycopyName ∈ Ts) (hini : Cond.initialized "java/lang/System" ∈ Ts) (hP : va_P D cl (ac_w ad cA T u) H) (hD : va_D A (ac_w ad cA T u)) (hS : va_S A H0 H locs) (c0 c1 : Nat) {t0 n0 n1 : Nat} (hT0 : T[c0]? = some (.inr (t0, n0, 0))) (hT1 : T[c1]? = some (.inr (t0, n1, 0))) (ht : tys[t0]? = some (cA t0, .byte)) (hR : ac_R rg u) (hb : ∀ k, (rg c0 k) = (-128, 127))
    {sp dp n : Int32} (h1 : 0 ≤ sp.toInt) (h2 : 0 ≤ dp.toInt) (h3 : 0 ≤ n.toInt) (h4 : sp.toInt + n.toInt ≤ n0) (h5 : dp.toInt + n.toInt ≤ n1) (hframes : 1 ≤ R.frames) (hlocals : (rest.map fun v => v.category).sum + (nativeFrameWords "java/lang/System" "arraycopy" 5 + 11) ≤ R.locals) (hdg : decode cc pc = .ok (.invokestatic index, 3))
    (kk : ∀ (H1 : Heap) (locs1 : List Loc), va_P D cl (ac_w ad cA T (ac_si u c1 (va_cpy (u.1 c0) (u.1 c1) sp.toNatClampNeg dp.toNatClampNeg n.toNatClampNeg))) H1 → va_D A (ac_w ad cA T (ac_si u c1 (va_cpy (u.1 c0) (u.1 c1) sp.toNatClampNeg dp.toNatClampNeg n.toNatClampNeg))) → va_S A H0 H1 locs1 → W p l e R s m args below meth c H1 locs1 cells slots Q (F0 m (pc + 3) ls rest)) : W p l e R s m args below meth c H locs cells slots Q (F0 m pc ls (.int n :: .int dp :: .ref (ad c1) :: .int sp :: .ref (ad c0) :: rest)) := by
  have hn : ∀ {z : Int32}, 0 ≤ z.toInt → ¬ z < 0 := fun h q => by have := (i_lt rfl (rfl : (0 : Int32).toInt = _)).mp q; have e : (0 : Int32).toInt = 0 := rfl; omega
  have e1 := i_cl h1
  have e2 := i_cl h2
  have e3 := i_cl h3
  refine va_copyi F.1 F.2.1 hml F.2.2.2.1 (F.2.2.1 _ hlink) (F.2.2.1 _ hnat) (F.2.2.1 _ hstat) (F.2.2.1 _ hini) F.2.2.2.2 hP hD hS c0 c1 t0 t0 (ac_at hT0) (ac_at hT1) ht ht rfl (hn h1) (hn h2) (hn h3) (by show sp.toNatClampNeg + n.toNatClampNeg ≤ n0; omega) (by show dp.toNatClampNeg + n.toNatClampNeg ≤ n1; omega) (fun i _ => ?_) hframes hlocals hdg (fun H1 locs1 q1 q2 q3 => kk H1 locs1 (ac_ari hT1 _ ▸ q1) (ac_ari hT1 _ ▸ q2) q3)
  have h6 := hR c0 (sp.toNatClampNeg + i)
  rw [hb] at h6
  exact i_fitb h6
end AC8
theorem rg37 : ∀ k, rg 37 k = (-128, 127) := fun _ => rfl

/-! More rows: static void calls, division with a sharper bound, elements at known places, copies of arrays. -/
section AC6
variable {p : Program} {l : Launch} {e : Env} {R : Room} {s : State} {m : MethodId} {args : Array Value} {below : List Frame} {meth : Method} {c : Code} {H : Heap} {locs : List Loc} {cells slots : Nat} {Q : State → Prop}
variable {cc : ByteArray} {pc : Nat} {ls : Array Slot} {rest st0 As : List Value} {D : va_G} {cl : List vw_C} {A : Nat → Prop} {tys : List (ClassId × FieldType)} {ad : Nat → Nat} {cA : Nat → ClassId} {T : List ac_T} {u : ac_U} {H0 : Heap}
variable {own C : String} {ci index nL maxL n d : Nat} {Ts ws ws' : List Cond} {y : MethodName} {bytes : ByteArray} {ret : Option FieldType} {av : List Value}
theorem a_Sv {post : ac_U → Prop} {d' : Nat} (F : ac_X p s m args c cc own Ts D cl tys) (hml : c.maxLocals = nL) (hsz : ls.size = nL) (hA : ∀ q : Nat, s.heap.size ≤ q → A q) (hP : va_P D cl (ac_w ad cA T u) H) (hD : va_D A (ac_w ad cA T u)) (hS : va_S A s.heap H locs)
    (hM : ac_Mv l y ws d' D cl tys ad cA T As u post) (cw : CallB R s args own index y bytes maxL ret ws (ac_rm d') 0 0 n ∧ (Cond.static y).before args s = true) (hn : As.length = n) (hst : st0 = As.reverse ++ rest) (hW : (rest.map fun v => v.category).sum ≤ 8) (hdg : decode cc pc = .ok (.invokestatic index, 3)) (hf : cells ≤ R.cells ∧ slots ≤ R.slots)
    (kk : ∀ (u' : ac_U) (H1 : Heap) (locs1 : List Loc), post u' → va_P D cl (ac_w ad cA T u') H1 → va_D A (ac_w ad cA T u') → va_S A s.heap H1 locs1 → W p l e R s m args below meth c H1 locs1 cells slots Q (F0 m (pc + 3) ls rest)) : W p l e R s m args below meth c H locs cells slots Q (F0 m pc ls st0) := by
  subst hst
  have hin := ac_in hD hS hA
  refine va_callv (va_runS (As := As) (rest := rest) (n := n) ⟨F.1, F.2.1, hml, F.2.2.2.1, F.2.2.1⟩ (hM H.size) cw ⟨ac_blind, ac_pre F hP hD⟩ rfl hn hsz rfl (lv_room hW) hdg hf) hS (fun q _ h => hin q h) hin (fun u' t H1 locs1 ht _ hw hB _ _ hS => ?_)
  obtain ⟨h1, h2⟩ := ac_back hin ht hB
  exact kk u' H1 locs1 hw h1 h2 hS
theorem i_tdivn {a b k : Int} (hk : 1 ≤ k ∧ k ≤ b) (h : a ≤ 0) : -((-a) / k) ≤ a.tdiv b := by
  have e : a.tdiv b = -((-a).tdiv b) := by rw [Int.neg_tdiv, Int.neg_neg]
  have h3 := ((i_tdiv (a := -a) hk).1 (by omega)).2.2.1
  rw [e]
  omega
theorem a_idiv2 {kk : Int} {x y : Int32} {a b : Int} (F : ac_X p s m args c cc own Ts D cl tys) (hdg : decode cc pc = .ok (.idiv, 1)) (hx : x.toInt = a) (hy : y.toInt = b) (hk : 1 ≤ kk ∧ kk ≤ b) (k : ∀ v : Int32, v.toInt = a.tdiv b → ((0 ≤ a → 0 ≤ v.toInt ∧ v.toInt ≤ a ∧ v.toInt ≤ a / kk ∧ v.toInt = a / b) ∧ (a ≤ 0 → a ≤ v.toInt ∧ v.toInt ≤ 0 ∧ -((-a) / kk) ≤ v.toInt)) → W p l e R s m args below meth c H locs cells slots Q (F0 m (pc + 1) ls (.int v :: rest))) : W p l e R s m args below meth c H locs cells slots Q (F0 m pc ls (.int y :: .int x :: rest)) :=
  a_idiv F hdg hx hy hk (fun v e h => k v e ⟨h.1, fun q => ⟨(h.2 q).1, (h.2 q).2, e ▸ i_tdivn hk q⟩⟩)
theorem a_ialdK (F : ac_X p s m args c cc own Ts D cl tys) (hP : va_P D cl (ac_w ad cA T u) H) (c0 k : Nat) {t0 n : Nat} (hT : T[c0]? = some (.inr (t0, n, 0))) (ht : tys[t0]? = some (cA t0, .int)) {i : Int32} (hi : i.toNatClampNeg = k) (hin : vp_in i n) {v : Int32} (hv : u.1 c0 k = v) (hdg : decode cc pc = .ok (.iaload, 1))
    (kk : W p l e R s m args below meth c H locs cells slots Q (F0 m (pc + 1) ls (.int v :: rest))) : W p l e R s m args below meth c H locs cells slots Q (F0 m pc ls (.int i :: .ref (ad c0) :: rest)) :=
  a_iald F hP c0 hT ht hin hdg (fun v' e => by rw [hi, hv] at e; exact e ▸ kk)
theorem a_iastK (F : ac_X p s m args c cc own Ts D cl tys) (hP : va_P D cl (ac_w ad cA T u) H) (hD : va_D A (ac_w ad cA T u)) (hS : va_S A H0 H locs) (c0 k : Nat) {t0 n : Nat} (hT : T[c0]? = some (.inr (t0, n, 0))) (ht : tys[t0]? = some (cA t0, .int)) {i x : Int32} (hi : i.toNatClampNeg = k) (hin : vp_in i n) (hdg : decode cc pc = .ok (.iastore, 1))
    (kk : ∀ (H1 : Heap) (locs1 : List Loc), va_P D cl (ac_w ad cA T (ac_si u c0 (upd (u.1 c0) k x))) H1 → va_D A (ac_w ad cA T (ac_si u c0 (upd (u.1 c0) k x))) → va_S A H0 H1 locs1 → W p l e R s m args below meth c H1 locs1 cells slots Q (F0 m (pc + 1) ls rest)) : W p l e R s m args below meth c H locs cells slots Q (F0 m pc ls (.int x :: .int i :: .ref (ad c0) :: rest)) :=
  a_iast F hP hD hS c0 hT ht hin hdg (fun H1 locs1 h1 h2 h3 => kk H1 locs1 (hi ▸ h1) (hi ▸ h2) h3)
theorem a_cpyi (F : ac_X p s m args c cc own Ts D cl tys) (hml : c.maxLocals = ls.size) (hlink : Cond.methodLink own index arraycopyName ∈ Ts) (hnat : Cond.native arraycopyName ∈ Ts) (hstat : Cond.static arraycopyName ∈ Ts) (hini : Cond.initialized "java/lang/System" ∈ Ts) (hP : va_P D cl (ac_w ad cA T u) H) (hD : va_D A (ac_w ad cA T u)) (hS : va_S A H0 H locs) (c0 c1 : Nat) {t0 n0 n1 : Nat} (hT0 : T[c0]? = some (.inr (t0, n0, 0))) (hT1 : T[c1]? = some (.inr (t0, n1, 0))) (ht : tys[t0]? = some (cA t0, .int))
    {sp dp n : Int32} (h1 : 0 ≤ sp.toInt) (h2 : 0 ≤ dp.toInt) (h3 : 0 ≤ n.toInt) (h4 : sp.toInt + n.toInt ≤ n0) (h5 : dp.toInt + n.toInt ≤ n1) (hframes : 1 ≤ R.frames) (hlocals : (rest.map fun v => v.category).sum + (nativeFrameWords "java/lang/System" "arraycopy" 5 + 11) ≤ R.locals) (hdg : decode cc pc = .ok (.invokestatic index, 3))
    (kk : ∀ (H1 : Heap) (locs1 : List Loc), va_P D cl (ac_w ad cA T (ac_si u c1 (va_cpy (u.1 c0) (u.1 c1) sp.toNatClampNeg dp.toNatClampNeg n.toNatClampNeg))) H1 → va_D A (ac_w ad cA T (ac_si u c1 (va_cpy (u.1 c0) (u.1 c1) sp.toNatClampNeg dp.toNatClampNeg n.toNatClampNeg))) → va_S A H0 H1 locs1 → W p l e R s m args below meth c H1 locs1 cells slots Q (F0 m (pc + 3) ls rest)) : W p l e R s m args below meth c H locs cells slots Q (F0 m pc ls (.int n :: .int dp :: .ref (ad c1) :: .int sp :: .ref (ad c0) :: rest)) := by
  have hn : ∀ {z : Int32}, 0 ≤ z.toInt → ¬ z < 0 := fun h q => by have := (i_lt rfl (rfl : (0 : Int32).toInt = _)).mp q; have e : (0 : Int32).toInt = 0 := rfl; omega
  have e1 := i_cl h1
  have e2 := i_cl h2
  have e3 := i_cl h3
  refine va_copyi F.1 F.2.1 hml F.2.2.2.1 (F.2.2.1 _ hlink) (F.2.2.1 _ hnat) (F.2.2.1 _ hstat) (F.2.2.1 _ hini) F.2.2.2.2 hP hD hS c0 c1 t0 t0 (ac_at hT0) (ac_at hT1) ht ht rfl (hn h1) (hn h2) (hn h3) (by show sp.toNatClampNeg + n.toNatClampNeg ≤ n0; omega) (by show dp.toNatClampNeg + n.toNatClampNeg ≤ n1; omega) (fun _ _ => rfl) hframes hlocals hdg (fun H1 locs1 q1 q2 q3 => kk H1 locs1 (ac_ari hT1 _ ▸ q1) (ac_ari hT1 _ ▸ q2) q3)
theorem a_cpyl (F : ac_X p s m args c cc own Ts D cl tys) (hml : c.maxLocals = ls.size) (hlink : Cond.methodLink own index arraycopyName ∈ Ts) (hnat : Cond.native arraycopyName ∈ Ts) (hstat : Cond.static arraycopyName ∈ Ts) (hini : Cond.initialized "java/lang/System" ∈ Ts) (hP : va_P D cl (ac_w ad cA T u) H) (hD : va_D A (ac_w ad cA T u)) (hS : va_S A H0 H locs) (c0 c1 : Nat) {t0 n0 n1 : Nat} (hT0 : T[c0]? = some (.inr (t0, n0, 1))) (hT1 : T[c1]? = some (.inr (t0, n1, 1))) (ht : tys[t0]? = some (cA t0, .long))
    {sp dp n : Int32} (h1 : 0 ≤ sp.toInt) (h2 : 0 ≤ dp.toInt) (h3 : 0 ≤ n.toInt) (h4 : sp.toInt + n.toInt ≤ n0) (h5 : dp.toInt + n.toInt ≤ n1) (hframes : 1 ≤ R.frames) (hlocals : (rest.map fun v => v.category).sum + (nativeFrameWords "java/lang/System" "arraycopy" 5 + 11) ≤ R.locals) (hdg : decode cc pc = .ok (.invokestatic index, 3))
    (kk : ∀ (H1 : Heap) (locs1 : List Loc), va_P D cl (ac_w ad cA T (ac_sl u c1 (va_cpy (u.2 c0) (u.2 c1) sp.toNatClampNeg dp.toNatClampNeg n.toNatClampNeg))) H1 → va_D A (ac_w ad cA T (ac_sl u c1 (va_cpy (u.2 c0) (u.2 c1) sp.toNatClampNeg dp.toNatClampNeg n.toNatClampNeg))) → va_S A H0 H1 locs1 → W p l e R s m args below meth c H1 locs1 cells slots Q (F0 m (pc + 3) ls rest)) : W p l e R s m args below meth c H locs cells slots Q (F0 m pc ls (.int n :: .int dp :: .ref (ad c1) :: .int sp :: .ref (ad c0) :: rest)) := by
  have hn : ∀ {z : Int32}, 0 ≤ z.toInt → ¬ z < 0 := fun h q => by have := (i_lt rfl (rfl : (0 : Int32).toInt = _)).mp q; have e : (0 : Int32).toInt = 0 := rfl; omega
  have e1 := i_cl h1
  have e2 := i_cl h2
  have e3 := i_cl h3
  refine va_copyl F.1 F.2.1 hml F.2.2.2.1 (F.2.2.1 _ hlink) (F.2.2.1 _ hnat) (F.2.2.1 _ hstat) (F.2.2.1 _ hini) F.2.2.2.2 hP hD hS c0 c1 t0 t0 (ac_at hT0) (ac_at hT1) ht ht rfl (hn h1) (hn h2) (hn h3) (by show sp.toNatClampNeg + n.toNatClampNeg ≤ n0; omega) (by show dp.toNatClampNeg + n.toNatClampNeg ≤ n1; omega) (fun _ _ => rfl) hframes hlocals hdg (fun H1 locs1 q1 q2 q3 => kk H1 locs1 (ac_arl hT1 _ ▸ q1) (ac_arl hT1 _ ▸ q2) q3)
theorem ac_R.cp {rg : Nat → Nat → Int × Int} {u : ac_U} (h : ac_R rg u) {c0 c1 sp dp n : Nat} (hc : ∀ j, j < n → rg c1 (dp + j) = rg c0 (sp + j)) : ac_R rg (ac_si u c1 (va_cpy (u.1 c0) (u.1 c1) sp dp n)) := by
  refine h.sg (fun k => ?_)
  unfold va_cpy
  by_cases hk : dp ≤ k ∧ k < dp + n
  · rw [if_pos hk]
    have h2 := hc (k - dp) (by omega)
    rw [show dp + (k - dp) = k by omega] at h2
    rw [h2]
    exact h c0 (sp + (k - dp))
  · rw [if_neg hk]
    exact h c1 k
end AC6
theorem ac_Fr.cp {L : List (Nat × Option Nat)} {u u' : ac_U} (h : ac_Fr L u u') {c0 c1 sp dp n : Nat} (hc : ∀ k, ac_cv L c1 k = true) : ac_Fr L u (ac_si u' c1 (va_cpy (u'.1 c0) (u'.1 c1) sp dp n)) := h.sg hc
theorem rg_terms : ∀ p, p < 8 → ∀ w, w < 8 → rg 8 (8 * p + w) = rg 8 w ∧ rg 17 (8 * p + w) = rg 23 w := by decide +kernel
theorem rg_past : ∀ q, q < 8 → ∀ j, j < 31 → rg 28 (31 * q + j) = rg 25 j := by decide +kernel
theorem rg_marks : ∀ q, q < 80 → ∀ j, j < 4 → rg 26 (4 * q + j) = rg 26 j := by decide +kernel
theorem mk_when {u : ac_U} {i v : Int32} (hR : ac_R rg u) (e : u.1 26 i.toNatClampNeg = v) {q : Int} (hq : 0 ≤ q ∧ q < 80) (hi : i.toInt = 4 * q) : 0 ≤ v.toInt ∧ v.toInt ≤ 480 := by
  have h1 := i_cl (x := i) (by omega)
  have h2 : i.toNatClampNeg = 4 * q.toNat + 0 := by omega
  have h3 := hR 26 i.toNatClampNeg
  rw [e, h2, rg_marks q.toNat (by omega) 0 (by decide)] at h3
  exact h3
theorem tm_w {u : ac_U} {i v : Int32} (hR : ac_R rg u) (e : u.1 8 i.toNatClampNeg = v) {q : Int} {w : Nat} (hq : 0 ≤ q ∧ q < 8) (hw : w < 8) (hi : i.toInt = 8 * q + w) : (rg 8 w).1 ≤ v.toInt ∧ v.toInt ≤ (rg 8 w).2 := by
  have h1 := i_cl (x := i) (by omega)
  have h2 : i.toNatClampNeg = 8 * q.toNat + w := by omega
  have h3 := hR 8 i.toNatClampNeg
  rw [e, h2, (rg_terms q.toNat (by omega) w hw).1] at h3
  exact h3
theorem cp_terms {v : Int32} {q : Int} (hq : 0 ≤ q ∧ q < 8) (hv : v.toInt = q * 8) : ∀ j, j < (8 : Int32).toNatClampNeg → rg 17 (v.toNatClampNeg + j) = rg 23 ((0 : Int32).toNatClampNeg + j) := by
  intro j hj
  have h1 := i_cl (x := v) (by omega)
  have hj : j < 8 := hj
  have h2 : v.toNatClampNeg + j = 8 * q.toNat + j := by omega
  have h3 : (0 : Int32).toNatClampNeg + j = j := Nat.zero_add j
  rw [h2, h3]
  exact (rg_terms q.toNat (by omega) j hj).2
theorem cp_past1 {v : Int32} {q : Int} (hq : 0 ≤ q ∧ q < 8) (hv : v.toInt = q * 31) : ∀ j, j < (31 : Int32).toNatClampNeg → rg 28 (v.toNatClampNeg + j) = rg 25 ((0 : Int32).toNatClampNeg + j) := by
  intro j hj
  have h1 := i_cl (x := v) (by omega)
  have hj : j < 31 := hj
  have h2 : v.toNatClampNeg + j = 31 * q.toNat + j := by omega
  have h3 : (0 : Int32).toNatClampNeg + j = j := Nat.zero_add j
  rw [h2, h3]
  exact rg_past q.toNat (by omega) j hj
theorem cp_past2 {v : Int32} {q : Int} (hq : 0 ≤ q ∧ q < 8) (hv : v.toInt = q * 31) : ∀ j, j < (31 : Int32).toNatClampNeg → rg 25 ((0 : Int32).toNatClampNeg + j) = rg 28 (v.toNatClampNeg + j) := fun j hj => (cp_past1 hq hv j hj).symm
section AC7
variable {p : Program} {l : Launch} {e : Env} {R : Room} {s : State} {m : MethodId} {args : Array Value} {below : List Frame} {meth : Method} {c : Code} {H : Heap} {locs : List Loc} {cells slots : Nat} {Q : State → Prop}
variable {cc : ByteArray} {pc : Nat} {ls : Array Slot} {rest : List Value} {D : va_G} {cl : List vw_C} {tys : List (ClassId × FieldType)} {own : String} {Ts : List Cond} {x y : Int32} {a b : Int}
theorem a_iushrC {n : Nat} (F : ac_X p s m args c cc own Ts D cl tys) (hdg : decode cc pc = .ok (.iushr, 1)) (hn : ((y.toUInt32 &&& Int32.toUInt32 31).toBitVec % 32).toNat = n) (h1 : 1 ≤ n ∧ n ≤ 31) (k : ∀ v : Int32, (0 ≤ v.toInt ∧ v.toInt ≤ 2 ^ (32 - n) - 1) → W p l e R s m args below meth c H locs cells slots Q (F0 m (pc + 1) ls (.int v :: rest))) : W p l e R s m args below meth c H locs cells slots Q (F0 m pc ls (.int y :: .int x :: rest)) := by
  refine lv_iushr F.1 F.2.1 hdg rfl (k _ ?_)
  have h2 := pk_ushr x y n hn
  generalize (x.toUInt32 >>> (y.toUInt32 &&& Int32.toUInt32 31)).toInt32 = v at h2 ⊢
  have h3 : x.toBitVec.toNat < 2 ^ 32 := x.toBitVec.isLt
  have h4 : x.toBitVec.toNat / 2 ^ n < 2 ^ (32 - n) := by
    rw [Nat.div_lt_iff_lt_mul (Nat.two_pow_pos n), ← Nat.pow_add, show 32 - n + n = 32 by omega]
    exact h3
  have h5 : (2 : Nat) ^ (32 - n) ≤ 2 ^ 31 := Nat.pow_le_pow_right (by decide) (by omega)
  have h6 : v.toInt = v.toBitVec.toInt := rfl
  have h7 : v.toInt = (v.toBitVec.toNat : Int) := by
    rw [h6, BitVec.toInt_eq_toNat_cond, if_pos (by omega)]
  have h8 : ((2 ^ (32 - n) : Nat) : Int) = 2 ^ (32 - n) := by simp
  rw [h7, ← h8]
  omega
theorem i_shl1 : ∀ n, n < 25 → ((1 : Int32) <<< (nI n &&& 31)).toInt = 2 ^ n := by decide +kernel
theorem a_ishl1 {lo hi : Nat} (F : ac_X p s m args c cc own Ts D cl tys) (hdg : decode cc pc = .ok (.ishl, 1)) (hy : y.toInt = b) (hb : (lo : Int) ≤ b ∧ b ≤ hi) (hh : hi ≤ 24) (k : ∀ v : Int32, ((2 : Int) ^ lo ≤ v.toInt ∧ v.toInt ≤ 2 ^ hi) → W p l e R s m args below meth c H locs cells slots Q (F0 m (pc + 1) ls (.int v :: rest))) : W p l e R s m args below meth c H locs cells slots Q (F0 m pc ls (.int y :: .int (1 : Int32) :: rest)) := by
  refine lv_ishl F.1 F.2.1 hdg (k _ ?_)
  have h1 : y = nI b.toNat := by
    apply Int32.toInt_inj.mp
    rw [nI_toInt (by omega), hy]
    omega
  rw [h1, i_shl1 b.toNat (by omega)]
  have h2 : (2 : Nat) ^ lo ≤ 2 ^ b.toNat := Nat.pow_le_pow_right (by decide) (by omega)
  have h3 : (2 : Nat) ^ b.toNat ≤ 2 ^ hi := Nat.pow_le_pow_right (by decide) (by omega)
  exact ⟨by exact_mod_cast h2, by exact_mod_cast h3⟩
end AC7
theorem st_marks {i v : Int32} {q : Int} {j : Nat} (hq : 0 ≤ q ∧ q < 80) (hj : 1 ≤ j ∧ j < 4) (hi : i.toInt = 4 * q + j) : (rg 26 i.toNatClampNeg).1 ≤ v.toInt ∧ v.toInt ≤ (rg 26 i.toNatClampNeg).2 := by
  have h1 := i_cl (x := i) (by omega)
  have h2 : i.toNatClampNeg = 4 * q.toNat + j := by omega
  rw [h2, rg_marks q.toNat (by omega) j hj.2]
  rcases (show j = 1 ∨ j = 2 ∨ j = 3 by omega) with h | h | h <;> subst h <;> exact ⟨i_lo _, i_hi _⟩
theorem ac_slR {A : Nat → Prop} {ad : Nat → Nat} {cA : Nat → ClassId} {T : List ac_T} {u : ac_U} {c : Nat} {g : Nat → Int64} {rg : Nat → Nat → Int × Int} (_ : va_D A (ac_w ad cA T (ac_sl u c g))) (hR : ac_R rg u) : ac_R rg (ac_sl u c g) := hR
theorem ac_slF {A : Nat → Prop} {ad : Nat → Nat} {cA : Nat → ClassId} {T : List ac_T} {u u0 : ac_U} {c : Nat} {g : Nat → Int64} {L : List (Nat × Option Nat)} (_ : va_D A (ac_w ad cA T (ac_sl u c g))) (hF : ac_Fr L u0 u) : ac_Fr L u0 (ac_sl u c g) := hF
theorem ac_ne {u : ac_U} {c k : Nat} {i x : Int32} (h : i.toNatClampNeg ≠ k) : (ac_si u c (upd (u.1 c) i.toNatClampNeg x)).1 c k = u.1 c k := by
  rw [ac_si_s]
  exact if_neg (fun q => h q.symm)
def rgle (c0 k0 c1 k1 : Nat) : Prop := (rg c1 k1).1 ≤ (rg c0 k0).1 ∧ (rg c0 k0).2 ≤ (rg c1 k1).2
theorem cp_el {u : ac_U} {c0 c1 k0 k1 : Nat} {v : Int32} (hR : ac_R rg u) (e : u.1 c0 k0 = v) (h : rgle c0 k0 c1 k1) : (rg c1 k1).1 ≤ v.toInt ∧ v.toInt ≤ (rg c1 k1).2 := by
  have h1 := hR c0 k0
  rw [e] at h1
  exact ⟨Int.le_trans h.1 h1.1, Int.le_trans h1.2 h.2⟩
theorem rg_d1 : ∀ i, i < 2590 → ((rg 93 i).1 ≤ (rg 93 (i + 370)).1 ∧ (rg 93 (i + 370)).2 ≤ (rg 93 i).2) := by decide +kernel
theorem rg_d2 : ∀ m, m < 8 → ∀ x, x < 370 → ((rg 93 (370 * m + x)).1 ≤ (rg 87 (106 + x)).1 ∧ (rg 87 (106 + x)).2 ≤ (rg 93 (370 * m + x)).2) ∧ ((rg 87 (106 + x)).1 ≤ (rg 93 (370 * m + x)).1 ∧ (rg 93 (370 * m + x)).2 ≤ (rg 87 (106 + x)).2) := by decide +kernel
theorem rg_d3 : ∀ x, x < 370 → ((rg 94 x).1 ≤ (rg 87 (106 + x)).1 ∧ (rg 87 (106 + x)).2 ≤ (rg 94 x).2) ∧ ((rg 87 (106 + x)).1 ≤ (rg 94 x).1 ∧ (rg 94 x).2 ≤ (rg 87 (106 + x)).2) := by decide +kernel
theorem rg_d4 : ∀ m, m < 2 → ∀ x, x < 657 → ((rg 102 (657 * m + x)).1 ≤ (rg 87 x).1 ∧ (rg 87 x).2 ≤ (rg 102 (657 * m + x)).2) := by decide +kernel
theorem rg_u1 {i j : Int32} (hi : 0 ≤ i.toInt ∧ i.toInt < 2590) (hj : j.toInt = i.toInt + 370) : rgle 93 j.toNatClampNeg 93 i.toNatClampNeg := by
  have h1 := i_cl (x := i) (by omega)
  have h2 := i_cl (x := j) (by omega)
  have h3 : j.toNatClampNeg = i.toNatClampNeg + 370 := by omega
  unfold rgle
  rw [h3]
  exact rg_d1 _ (by omega)
theorem rg_u2 {i j : Int32} {m x : Int} (hm : 0 ≤ m ∧ m < 8) (hx : 0 ≤ x ∧ x < 370) (hi : i.toInt = 370 * m + x) (hj : j.toInt = 106 + x) : rgle 87 j.toNatClampNeg 93 i.toNatClampNeg ∧ rgle 93 i.toNatClampNeg 87 j.toNatClampNeg := by
  have h1 := i_cl (x := i) (by omega)
  have h2 := i_cl (x := j) (by omega)
  have h3 : i.toNatClampNeg = 370 * m.toNat + x.toNat := by omega
  have h4 : j.toNatClampNeg = 106 + x.toNat := by omega
  unfold rgle
  rw [h3, h4]
  exact rg_d2 m.toNat (by omega) x.toNat (by omega)
theorem rg_u3 {i j : Int32} (hx : 0 ≤ i.toInt ∧ i.toInt < 370) (hj : j.toInt = 106 + i.toInt) : rgle 87 j.toNatClampNeg 94 i.toNatClampNeg ∧ rgle 94 i.toNatClampNeg 87 j.toNatClampNeg := by
  have h1 := i_cl (x := i) (by omega)
  have h2 := i_cl (x := j) (by omega)
  have h4 : j.toNatClampNeg = 106 + i.toNatClampNeg := by omega
  unfold rgle
  rw [h4]
  exact rg_d3 _ (by omega)
theorem rg_u4 {i j : Int32} {m : Int} (hm : 0 ≤ m ∧ m < 2) (hx : 0 ≤ j.toInt ∧ j.toInt < 657) (hi : i.toInt = 657 * m + j.toInt) : rgle 87 j.toNatClampNeg 102 i.toNatClampNeg := by
  have h1 := i_cl (x := i) (by omega)
  have h2 := i_cl (x := j) (by omega)
  have h3 : i.toNatClampNeg = 657 * m.toNat + j.toNatClampNeg := by omega
  unfold rgle
  rw [h3]
  exact rg_d4 m.toNat (by omega) _ (by omega)
theorem bits_dec {x : Int32} (h : x.toInt ≠ 0) : (x &&& (x - (1 : Int32))).toBitVec.toNat < x.toBitVec.toNat := by
  have h0 : x.toBitVec.toNat ≠ 0 := by
    intro q
    apply h
    have h6 : x.toInt = x.toBitVec.toInt := rfl
    rw [h6, BitVec.toInt_eq_toNat_cond, q]
    rfl
  have h1 : (x - (1 : Int32)).toBitVec.toNat = x.toBitVec.toNat - 1 := by
    have h2 : (x - (1 : Int32)).toBitVec = x.toBitVec - (1 : Int32).toBitVec := rfl
    have h3 : (1 : Int32).toBitVec.toNat = 1 := rfl
    have h4 := x.toBitVec.isLt
    rw [h2, BitVec.toNat_sub, h3]
    omega
  have h5 : (x &&& (x - (1 : Int32))).toBitVec.toNat = x.toBitVec.toNat &&& (x - (1 : Int32)).toBitVec.toNat := by
    rw [Int32.toBitVec_and, BitVec.toNat_and]
  have h7 : x.toBitVec.toNat &&& (x - (1 : Int32)).toBitVec.toNat ≤ (x - (1 : Int32)).toBitVec.toNat := Nat.and_le_right
  omega
theorem i_nat {y : Int32} {b : Int} (hy : y.toInt = b) (hb : 0 ≤ b) : y.toBitVec.toNat = b.toNat := by
  have h1 : y.toInt = y.toBitVec.toInt := rfl
  rw [h1, BitVec.toInt_eq_toNat_cond] at hy
  have h2 := y.toBitVec.isLt
  split at hy <;> omega
theorem i_or {x y : Int32} {a b : Int} {n m : Nat} (hx : x.toInt = a) (hy : y.toInt = b) (hm : 2 ^ n = m) (hn : n ≤ 30) (ha : 0 ≤ a ∧ a < m) (hb : 0 ≤ b ∧ b < m) : 0 ≤ (x ||| y).toInt ∧ (x ||| y).toInt ≤ (m : Int) - 1 := by
  have h1 := i_nat hx ha.1
  have h2 := i_nat hy hb.1
  have h3 : (x ||| y).toBitVec.toNat < 2 ^ n := by
    rw [Int32.toBitVec_or, BitVec.toNat_or]
    exact Nat.or_lt_two_pow (by omega) (by omega)
  have h5 : (2 : Nat) ^ n ≤ 2 ^ 30 := Nat.pow_le_pow_right (by decide) hn
  have h4 : (x ||| y).toInt = (x ||| y).toBitVec.toInt := rfl
  rw [h4, BitVec.toInt_eq_toNat_cond]
  split <;> omega
theorem a_iorB {p : Program} {l : Launch} {e : Env} {R : Room} {s : State} {m : MethodId} {args : Array Value} {below : List Frame} {meth : Method} {c : Code} {H : Heap} {locs : List Loc} {cells slots : Nat} {Q : State → Prop} {cc : ByteArray} {pc : Nat} {ls : Array Slot} {rest : List Value} {D : va_G} {cl : List vw_C} {tys : List (ClassId × FieldType)} {own : String} {Ts : List Cond} {x y : Int32} {a b : Int} {n m' : Nat} (F : ac_X p s m args c cc own Ts D cl tys) (hdg : decode cc pc = .ok (.ior, 1)) (hx : x.toInt = a) (hy : y.toInt = b) (hm : 2 ^ n = m') (hn : n ≤ 30) (ha : 0 ≤ a ∧ a < (m' : Int)) (hb : 0 ≤ b ∧ b < (m' : Int)) (k : ∀ v : Int32, (0 ≤ v.toInt ∧ v.toInt ≤ (m' : Int) - 1) → W p l e R s m args below meth c H locs cells slots Q (F0 m (pc + 1) ls (.int v :: rest))) : W p l e R s m args below meth c H locs cells slots Q (F0 m pc ls (.int y :: .int x :: rest)) :=
  lv_ior F.1 F.2.1 hdg (k _ (i_or hx hy hm hn ha hb))
theorem a_aald {p : Program} {l : Launch} {e : Env} {R : Room} {s : State} {m : MethodId} {args : Array Value} {below : List Frame} {meth : Method} {c : Code} {H : Heap} {locs : List Loc} {cells slots : Nat} {Q : State → Prop} {cc : ByteArray} {pc : Nat} {ls : Array Slot} {rest : List Value} {D : va_G} {cl : List vw_C} {tys : List (ClassId × FieldType)} {own : String} {Ts : List Cond} {ad : Nat → Nat} {cA : Nat → ClassId} {T : List ac_T} {u : ac_U} {C : String} (F : ac_X p s m args c cc own Ts D cl tys) (hP : va_P D cl (ac_w ad cA T u) H) (c0 : Nat) {t0 n b : Nat} (hT : T[c0]? = some (.inr (t0, n, b + 4))) (ht : tys[t0]? = some (cA t0, .object C)) {i : Int32} (k r : Nat) (hi : i.toNatClampNeg = k) (hr : b + k = r) (hin : vp_in i n) (hdg : decode cc pc = .ok (.aaload, 1))
    (kk : W p l e R s m args below meth c H locs cells slots Q (F0 m (pc + 1) ls (.ref (ad r) :: rest))) : W p l e R s m args below meth c H locs cells slots Q (F0 m pc ls (.int i :: .ref (ad c0) :: rest)) := by
  refine va_aldq F.1 F.2.1 F.2.2.2.2 hP c0 t0 (f := fun z => some (ad (b + z))) (ac_at hT) ht hin hdg ?_
  rw [hi, hr]
  exact kk

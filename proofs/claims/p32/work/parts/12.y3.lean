/-! Sentences: what a code does, the stack's top, the whole of it. -/
theorem ld_same {u u' : ac_U} {c : Nat} {i j x y : Int32} (e1 : u.1 c i.toNatClampNeg = x) (e2 : u'.1 c j.toNatClampNeg = y) (hu : u'.1 c = u.1 c) (h : j.toInt = i.toInt) : y.toInt = x.toInt := by
  have : j = i := Int32.toInt_inj.mp h
  rw [← e1, ← e2, hu, this]
theorem cd_bin {x : Int} {u u' : ac_U} (h : cdE x u u') (q : swI 2 u) (hx : x = 21 ∨ x = 22) : swI 1 u' := by
  have := bcS_nn (st := u.1 100) (nT u)
  exact sw_cast (h 2 q (fun z => by omega) (fun _ => by omega)) (by rw [cdl_b hx]; rfl)
theorem cd_not {x : Int} {u u' : ac_U} (h : cdE x u u') (q : swI 1 u) (hx : x = 20) : swI 1 u' := by
  have := bcS_nn (st := u.1 100) (nT u)
  exact sw_cast (h 1 q (fun _ => by omega) (fun z => by omega)) (by rw [cdl_n hx]; rfl)
theorem cd_leaf {x : Int} {u u' : ac_U} (h : cdE x u u') (q : swI 0 u) (hx : x < 20) : swI 1 u' :=
  sw_cast (h 0 q (fun z => by omega) (fun z => by omega)) (by rw [cdl_l hx]; rfl)
def tpB (u : ac_U) : Prop := 1 ≤ (u.1 85 41).toInt → ¬ ((u.1 100 ((u.1 85 41).toInt.toNat - 1)).toInt = 21 ∨ (u.1 100 ((u.1 85 41).toInt.toNat - 1)).toInt = 22)
theorem sp_tpb : ac_Sp [(85, 41, 41), (100, 0, 44)] (fun u => (u.1 85 41).toInt ≤ 45 → tpB u) := fun u u' h q ht h1 => by
  have h2 := h 85 41 (by decide)
  rw [h2] at h1 ht ⊢
  rw [h 100 ((u.1 85 41).toInt.toNat - 1) (sp_of (a := 0) (b := 44) (by simp) (by omega) (by omega))]
  exact q ht h1
theorem sp_TB {P : Prop} : ac_Sp [(85, 41, 41), (100, 0, 44)] (fun u => P → (u.1 85 41).toInt ≤ 45 → tpB u) := fun u u' h q hp => sp_tpb u u' h (q hp)
theorem tp_0 {u : ac_U} (h : (u.1 85 41).toInt ≤ 0) : tpB u := fun q => by omega
theorem tp_x {u : ac_U} {i j x y : Int32} (hi : 0 ≤ i.toInt ∧ i.toInt = (u.1 85 41).toInt - 1) (hj : j.toInt = i.toInt) (ex : u.1 100 i.toNatClampNeg = x) (ey : u.1 100 j.toNatClampNeg = y) (hx : x.toInt ≠ 21) (hy : y.toInt ≠ 22) : tpB u := by
  intro _
  have n1 := i_cl hi.1
  have h1 := ld_same ex ey rfl hj
  rw [show (u.1 85 41).toInt.toNat - 1 = i.toNatClampNeg by omega, ex]
  omega
theorem sw_popn {w : Int} {u : ac_U} {v t : Int32} (h : swI w u) (hb : tpB u) (e : u.1 85 41 = t) (ht : 1 ≤ t.toInt ∧ t.toInt ≤ 45) (hv : v.toInt = t.toInt - 1) : swI w (ac_si u 85 (upd (u.1 85) 41 v)) := by
  subst e
  have h1 := hb ht.1
  have h2 := sw_pop h ht (i := v) hv rfl hv
  refine sw_cast h2 ?_
  have n1 := i_cl (x := v) (by omega)
  rw [show (u.1 85 41).toInt.toNat - 1 = v.toNatClampNeg by omega] at h1
  rw [if_neg h1]
  omega
theorem sw_pop2 {w : Int} {u : ac_U} {i v x t : Int32} (h : swI w u) (e0 : u.1 85 41 = t) (ht : 1 ≤ t.toInt ∧ t.toInt ≤ 45) (hi : i.toInt = t.toInt - 1) (e : u.1 100 i.toNatClampNeg = x) (hx : x.toInt = 21 ∨ x.toInt = 22) (hv : v.toInt = t.toInt - 1) : swI (w + 1) (ac_si u 85 (upd (u.1 85) 41 v)) := by
  subst e0
  have h2 := sw_pop h ht hi e hv
  rw [if_pos hx] at h2
  exact h2
theorem sw_pop0 {w : Int} {u : ac_U} {i v x t : Int32} (h : swI w u) (e0 : u.1 85 41 = t) (ht : 1 ≤ t.toInt ∧ t.toInt ≤ 45) (hi : i.toInt = t.toInt - 1) (e : u.1 100 i.toNatClampNeg = x) (hx : x.toInt = 20) (hv : v.toInt = t.toInt - 1) : swI w (ac_si u 85 (upd (u.1 85) 41 v)) := by
  subst e0
  have h2 := sw_pop h ht hi e hv
  rw [if_neg (by omega), Int.add_zero] at h2
  exact h2
theorem sw_ps1 {u u1 u2 : ac_U} {i x v t : Int32} (h : swI 1 u) (e : u.1 85 41 = t) (h0 : 0 ≤ t.toInt ∧ t.toInt ≤ 44) (hi : i.toInt = t.toInt) (hv : v.toInt = t.toInt + 1) (hx : x.toInt = 21 ∨ x.toInt = 22) (e1 : u1 = ac_si u 100 (upd (u.1 100) i.toNatClampNeg x)) (e2 : u2 = ac_si u1 85 (upd (u1.1 85) 41 v)) : swI 0 u2 := by
  subst e
  have h2 := sw_psh h h0 hi hv e1 e2
  rw [if_pos hx] at h2
  exact h2
theorem sw_ps0 {u u1 u2 : ac_U} {i x v t : Int32} (h : swI 0 u) (e : u.1 85 41 = t) (h0 : 0 ≤ t.toInt ∧ t.toInt ≤ 44) (hi : i.toInt = t.toInt) (hv : v.toInt = t.toInt + 1) (hx : ¬ (x.toInt = 21 ∨ x.toInt = 22)) (e1 : u1 = ac_si u 100 (upd (u.1 100) i.toNatClampNeg x)) (e2 : u2 = ac_si u1 85 (upd (u1.1 85) 41 v)) : swI 0 u2 := by
  subst e
  have h2 := sw_psh h h0 hi hv e1 e2
  rw [if_neg hx] at h2
  exact h2
theorem sw_putw {w : Int} {u : ac_U} {v : Int32} (h : swI w u) (hv : v.toInt = w) : swW (ac_si u 85 (upd (u.1 85) 43 v)) := by
  refine sw_to (w := w) (sp_si (sp_sw w) h (fun j q => ?_)) (by rw [sw_e]; exact hv)
  intro z
  rw [z] at q
  exact absurd q (by decide)
section SWD
variable {A : Nat → Prop} {ad : Nat → Nat} {cA : Nat → ClassId} {T : List ac_T} {u : ac_U}
theorem sw_toD {w : Int} {t : Int32} (_ : va_D A (ac_w ad cA T u)) (h : swI w u) (e : u.1 85 43 = t) (ht : t.toInt = w) : swW u := sw_to h (by rw [e]; exact ht)
theorem sw_0D {a b c : Int32} (_ : va_D A (ac_w ad cA T u)) (e1 : u.1 85 39 = a) (e2 : u.1 85 41 = b) (e3 : u.1 85 43 = c) (ha : a.toInt = 0) (hb : b.toInt = 0) (hc : c.toInt = 0) : swW u := sw_to (sw_0 (by rw [e1]; exact ha) (by rw [e2]; exact hb)) (by rw [e3]; exact hc)
theorem sc_0D {n : Int} {v : Int32} (_ : va_D A (ac_w ad cA T (ac_si u 87 (upd (u.1 87) 476 v)))) (e : u.1 85 39 = v) (hn : n ≤ 0) : scI n (ac_si u 87 (upd (u.1 87) 476 v)) := sc_0 e hn
end SWD

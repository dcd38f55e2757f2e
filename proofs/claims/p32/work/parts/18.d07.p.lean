/-! Pure: the promise line, the proof. -/
/-- the class's told row is written -/
theorem S1.t23 {u w : ac_U} (h : S1 u w) {k : Nat} {x : Int32} : S1 (pI u 23 k x) w := h.mk2 (h.1.u23 rfl rfl rfl rfl rfl rfl rfl rfl rfl rfl) rfl rfl rfl rfl
theorem S0.t23 {u w : ac_U} (h : S0 u w) {k : Nat} {x : Int32} : S0 (pI u 23 k x) w := h.mk2 (h.1.u23 rfl rfl rfl rfl rfl rfl rfl rfl rfl rfl) rfl rfl rfl rfl
/-- what a promise's reading keeps: the draft's counts and names on both sides -/
def Kp (u w u' w' : ac_U) : Prop := u'.1 13 = u.1 13 ∧ u'.1 22 = u.1 22 ∧ u'.2 19 = u.2 19 ∧ w'.1 88 6 = w.1 88 6 ∧ w'.1 85 19 = w.1 85 19 ∧ w'.2 90 = w.2 90
theorem Kp.rf {u w : ac_U} : Kp u w u w := ⟨rfl, rfl, rfl, rfl, rfl, rfl⟩
theorem Kp.tr {u w u1 w1 u2 w2 : ac_U} (h : Kp u w u1 w1) (g : Kp u1 w1 u2 w2) : Kp u w u2 w2 :=
  ⟨g.1.trans h.1, g.2.1.trans h.2.1, g.2.2.1.trans h.2.2.1, g.2.2.2.1.trans h.2.2.2.1, g.2.2.2.2.1.trans h.2.2.2.2.1, g.2.2.2.2.2.trans h.2.2.2.2.2⟩
theorem Kp.g {u w u' w' : ac_U} (hc : CG u u') (hr : RG w w') : Kp u w u' w' :=
  ⟨funext fun k => hc.1 13 k (by omega), funext fun k => hc.1 22 k (by omega), funext fun k => hc.2 19 k (by omega), hr.1 88 6 (by omega), hr.1 85 19 (by omega), funext fun k => hr.2 90 k (by omega)⟩
theorem Kp.w {u w : ac_U} {k : Nat} {x : Int32} (hk : 7 ≤ k) : Kp u w u (pI w 88 k x) := ⟨rfl, rfl, rfl, pI_k (by omega), rfl, rfl⟩
theorem Kp.t {u w : ac_U} {k : Nat} {x : Int32} : Kp u w (pI u 23 k x) w := ⟨rfl, rfl, rfl, rfl, rfl, rfl⟩
theorem ek {u w : ac_U} (hT : Tk u w) : ((u.1 1 6).toInt = 107 → f_X12_isWord_85 w (1700881256 : Int64) = 1) ∧ ((u.1 1 6).toInt ≠ 107 → f_X12_isWord_85 w (1700881256 : Int64) = 0) ∧ ((u.1 1 6).toInt = 108 → f_X12_isWord_85 w (129117125440371 : Int64) = 1) ∧ ((u.1 1 6).toInt ≠ 108 → f_X12_isWord_85 w (129117125440371 : Int64) = 0) := by
  have e0 : (1700881256 : Int64) = Int64.ofNat (ph 8 (toldN 7)) := by decide +kernel
  have e1 : (129117125440371 : Int64) = Int64.ofNat (ph 8 (toldN 8)) := by decide +kernel
  rw [e0, e1]
  exact ⟨(isWord_k hT 7 (by decide)).1, (isWord_k hT 7 (by decide)).2, (isWord_k hT 8 (by decide)).1, (isWord_k hT 8 (by decide)).2⟩
/-- the end of a promise: the sign, the name, the count -/
def endC (W : Int64) (u : ac_U) : ac_U × Int32 := Bd (if (u.1 1 6).toInt = 59 then (u, 1) else f_X10_fail_1 u (1 : Int32)) (fun u9 => (f_X2_addPromise_13_23 u9 W, 1))
def PrP (u w u' w' : ac_U) : Prop := S1 u' w' ∧ u'.1 22 = u.1 22 ∧ w'.1 85 19 = w.1 85 19 ∧ (∀ k, k ≠ 6 → k ≠ 8 → u'.1 13 k = u.1 13 k) ∧ u'.1 13 6 = u.1 13 6 + 1
theorem end_sim {u w : ac_U} {n : Nat} (h : S0 u w) (hq : (u.1 13 6).toInt < 8) (hn : n < 32 ^ 7) (hw : w.2 90 (44 + (u.1 13 6).toNatClampNeg) = Int64.ofNat (ph 8 n)) (hnew : ∀ k : Nat, (k : Int) < (u.1 13 8).toInt → u.2 19 k ≠ Int64.ofNat n) : Tw (endC (Int64.ofNat n) u) (tailR w) (PrP u w) := by
  have d1 := h.1.2.2.2.2.1
  have hcp := h.1.2.2.2.2.2.1
  unfold Cp at hcp
  have e6 : w.1 88 6 = u.1 13 6 := (d1 6 (by decide)).symm
  have hS := upd_name (s := 3) (sv := (3 : Int32)) h.1 (by decide) (by decide) (show (u.1 13 6).toInt < 8 from hq) hn hw hnew
  have hS : Sm (nmU u (Int64.ofNat n) (3 : Int32) (cp 3)) (pI w 88 6 (u.1 13 6 + 1)) := hS
  unfold endC tailR
  rw [e6]
  by_cases q : (u.1 1 6).toInt = 59
  · rw [if_pos q, Bd_ret]
    have ha : f_X2_addPromise_13_23 u (Int64.ofNat n) = pI (cpI (pI (pI (pI (pL u 19 (u.1 13 8).toNatClampNeg (Int64.ofNat n)) 20 (u.1 13 8).toNatClampNeg 3) 21 (u.1 13 8).toNatClampNeg (u.1 13 6)) 13 8 (u.1 13 8 + 1)) 23 17 (0 : Int32).toNatClampNeg (u.1 13 6 * 8).toNatClampNeg (8 : Int32).toNatClampNeg) 13 6 (u.1 13 6 + 1) := by
      simp only [f_X2_addPromise_13_23, f_X2_addName_13, vl]
      rw [if_neg (by omega), if_neg (by omega)]
    rw [ha]
    have hSX := hS.u23 (u' := pI (cpI (pI (pI (pI (pL u 19 (u.1 13 8).toNatClampNeg (Int64.ofNat n)) 20 (u.1 13 8).toNatClampNeg 3) 21 (u.1 13 8).toNatClampNeg (u.1 13 6)) 13 8 (u.1 13 8 + 1)) 23 17 (0 : Int32).toNatClampNeg (u.1 13 6 * 8).toNatClampNeg (8 : Int32).toNatClampNeg) 13 6 (u.1 13 6 + 1)) rfl rfl rfl rfl rfl rfl rfl rfl rfl rfl
    have hS0 := h.mk2 hSX rfl rfl rfl rfl
    have hk := isSign_k hS0.2.2
    simp only [f_X12_sign_85, vl, bd]
    rw [hk.1 q, if_pos n1]
    obtain ⟨m1, m2⟩ := hS0.next
    refine Or.inl ⟨rfl, rfl, m1, rfl, ?_, fun k k1 k2 => ?_, ?_⟩
    · rw [m2.1 85 19 (by omega)]; rfl
    · show (pI _ 13 6 _).1 13 k = _
      rw [pI_k k1]
      show (pI _ 13 8 _).1 13 k = _
      rw [pI_k k2]
      rfl
    · show (pI _ 13 6 _).1 13 6 = _
      rw [pI_s]
  · rw [if_neg q]
    have hk := isSign_k h.2.2
    have hk2 : f_X12_isSign_85 (pI w 88 6 (u.1 13 6 + 1)) (59 : Int32) = 0 := hk.2 q
    simp only [f_X12_sign_85, vl, bd]
    rw [hk2, if_neg n0]
    have e : Bd (f_X10_fail_1 u (1 : Int32)) (fun u9 => (f_X2_addPromise_13_23 u9 (Int64.ofNat n), 1)) = f_X10_fail_1 u (1 : Int32) := if_neg n0
    rw [e]
    exact Or.inr ⟨rfl, rfl, ft_mk (w := pI w 88 6 (u.1 13 6 + 1)) h.2.2.1⟩

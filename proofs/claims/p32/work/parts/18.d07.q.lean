/-! Pure: the promise line, the proof's end. -/
def Nw (u w : ac_U) (n : Nat) : Prop := n < 32 ^ 7 ∧ (u.1 13 6).toInt < 8 ∧ w.2 90 (44 + (u.1 13 6).toNatClampNeg) = Int64.ofNat (ph 8 n) ∧ ∀ k : Nat, (k : Int) < (u.1 13 8).toInt → u.2 19 k ≠ Int64.ofNat n
theorem Nw.to {u w u' w' : ac_U} {n : Nat} (h : Nw u w n) (hk : Kp u w u' w') : Nw u' w' n := by
  unfold Nw
  rw [hk.1, hk.2.2.1, hk.2.2.2.2.2]
  exact h
theorem PrP.of {u w u1 w1 u' w' : ac_U} (hk : Kp u w u1 w1) (h : PrP u1 w1 u' w') : PrP u w u' w' := by
  obtain ⟨h1, h2, h3, h4, h5⟩ := h
  refine ⟨h1, h2.trans hk.2.1, h3.trans hk.2.2.2.2.1, fun k k1 k2 => (h4 k k1 k2).trans (by rw [hk.1]), h5.trans (by rw [hk.1])⟩
def addF (n : Nat) (u9 : ac_U) : ac_U × Int32 := (f_X2_addPromise_13_23 u9 (Int64.ofNat n), 1)
theorem k100_Bd (u0 u : ac_U) (n : Nat) : Bd (K_X3_readEachUnless_22_100 u0 u) (addF n) = endC (Int64.ofNat n) u := by
  simp only [K_X3_readEachUnless_22_100, K_X3_readEachUnless_22_123, bd, endC]
  have e0 : (if (f_X10_fail_1 u (1 : Int32)).2.toInt = 0 then ((f_X10_fail_1 u (1 : Int32)).1, (0 : Int32)) else ((f_X10_fail_1 u (1 : Int32)).1, 0)) = f_X10_fail_1 u (1 : Int32) := if_pos t0i
  rw [e0]
  rfl
theorem k50_Bd (u0 u : ac_U) (n : Nat) : Bd (K_X3_readEachUnless_22_50 u0 u) (addF n) = if (u.1 1 6).toInt ≠ 108 then endC (Int64.ofNat n) u else Bd (f_X10_takeKnown_1_13 u (2 : Int32)) (fun u7 => endC (Int64.ofNat n) (f_X10_readNext_1 (pI u7 23 7 (u7.1 1 9)))) := by
  simp only [K_X3_readEachUnless_22_50, vl, bd]
  by_cases h : (u.1 1 6).toInt ≠ 108
  · rw [if_pos h, if_pos h, k100_Bd]
  · rw [if_neg h, if_neg h]
    generalize f_X10_takeKnown_1_13 u (2 : Int32) = q
    by_cases h2 : q.2.toInt ≠ 0
    · rw [if_pos h2, k100_Bd]
      unfold Bd
      rw [if_pos h2]
    · rw [if_neg h2]
      unfold Bd
      rw [if_neg n0, if_neg h2]
theorem off82 {x : Int32} (h : 0 ≤ x.toInt ∧ x.toInt < 8) {c : Int32} {n : Nat} (hc : c.toInt = n) (hn : 22 ≤ n ∧ n ≤ 82) : 22 ≤ (c + x).toNatClampNeg ∧ (c + x).toNatClampNeg < 90 := by
  have e := off_n (x := x) (c := c) (n := n) hc (by omega) (by omega)
  have h3 := i_cl (x := x) h.1
  omega
theorem unl_sim {u0 u w : ac_U} {n : Nat} {x1 : Int32} (h : S0 u w) (hN : Nw u w n) (hx : x1 = u.1 13 6) : Tw (Bd (K_X3_readEachUnless_22_50 u0 u) (addF n)) (unlR w x1) (PrP u w) := by
  subst hx
  have hcp := h.1.2.2.2.2.2.1
  unfold Cp at hcp
  have ho := off82 (x := u.1 13 6) (c := (82 : Int32)) (n := 82) ⟨hcp.2.2.2.2.2.1.1, hN.2.1⟩ (by decide) (by decide)
  rw [k50_Bd]
  unfold unlR
  generalize (82 + u.1 13 6).toNatClampNeg = t at ho ⊢
  have h1 : S0 u (pI w 88 t 0) := h.w88 ho
  have hK1 : Kp u w u (pI w 88 t 0) := Kp.w (by omega)
  have hw := ek h1.2.2
  have hN1 := hN.to hK1
  by_cases q : (u.1 1 6).toInt = 108
  · rw [if_neg (fun z => z q), hw.2.2.1 q, if_neg n1']
    obtain ⟨s1, s2⟩ := h1.next
    have e5 : (f_X12_next_85 (pI w 88 t 0)).1 88 5 = u.1 13 5 := (s2.1 88 5 (by omega)).trans (h1.1.2.2.2.2.1 5 (by decide)).symm
    rw [e5]
    have ht := takeKnown_sim (s := 2) (p0 := (38 : Int32)) (p1 := (2 : Int32)) s1 (by decide) (by decide) (by decide)
    have ht : Tw (f_X10_takeKnown_1_13 u (2 : Int32)) (f_X12_takesName_85 (f_X12_next_85 (pI w 88 t 0)) (38 : Int32) (u.1 13 5)) _ := ht
    refine Tw.bind ht (fun a b hP => ?_)
    obtain ⟨t3, t4, t5, -⟩ := hP
    have hS := (t3.t23 (k := 7) (x := a.1 1 9)).w88 (k := t) (x := b.1 85 18 + 1) ho
    obtain ⟨r1, r2⟩ := hS.read
    have hK2 : Kp u w (f_X10_readNext_1 (pI a 23 7 (a.1 1 9))) (pI b 88 t (b.1 85 18 + 1)) := ((hK1.tr (Kp.g CG.rf s2.g)).tr (Kp.g t4 t5)).tr (Kp.t.tr ((Kp.w (by omega)).tr (Kp.g r2.g RG.rf)))
    obtain ⟨m1, m2, m3, m4⟩ := hN.to hK2
    exact (end_sim r1 m2 m1 m3 m4).mono (fun _ _ hp => hp.of hK2)
  · rw [if_pos q, hw.2.2.2 q, if_pos t0i]
    obtain ⟨m1, m2, m3, m4⟩ := hN1
    exact (end_sim h1 m2 m1 m3 m4).mono (fun _ _ hp => hp.of hK1)
theorem eu_Bd (u : ac_U) (n : Nat) : Bd (f_X3_readEachUnless_22 u) (addF n) = if ((f_X10_readNext_1 (pI (pI u 23 6 (0 : Int32)) 23 7 (-1 : Int32))).1 1 6).toInt ≠ 107 then Bd (K_X3_readEachUnless_22_50 u (f_X10_readNext_1 (pI (pI u 23 6 (0 : Int32)) 23 7 (-1 : Int32)))) (addF n) else Bd (K_X3_readEachUnless_22_50 u (f_X10_readNext_1 (pI (f_X10_readNext_1 (pI (pI u 23 6 (0 : Int32)) 23 7 (-1 : Int32))) 23 6 (1 : Int32)))) (addF n) := by
  simp only [f_X3_readEachUnless_22, vl]
  by_cases h : ((f_X10_readNext_1 (pI (pI u 23 6 (0 : Int32)) 23 7 (-1 : Int32))).1 1 6).toInt ≠ 107
  · rw [if_pos h, if_pos h]
  · rw [if_neg h, if_neg h]
/-- the reference behind the numbers of a promise -/
def eaR (w : ac_U) (x1 z1 : Int32) : ac_U × Int32 := if (f_X12_isWord_85 w (1700881256 : Int64)).toInt = 0 then eachR w x1 z1 (0 : Int32) else eachR w x1 z1 (1 : Int32)
theorem each_sim {u w : ac_U} {n : Nat} {x1 z1 : Int32} (h : S1 u w) (hN : Nw u w n) (hx : x1 = u.1 13 6) (hz : 22 ≤ z1.toNatClampNeg ∧ z1.toNatClampNeg < 90) : Tw (Bd (f_X3_readEachUnless_22 u) (addF n)) (eaR w x1 z1) (PrP u w) := by
  rw [eu_Bd]
  obtain ⟨r1, r2⟩ := ((h.t23 (k := 6) (x := (0 : Int32))).t23 (k := 7) (x := (-1 : Int32))).read
  have hK0 : Kp u w (f_X10_readNext_1 (pI (pI u 23 6 (0 : Int32)) 23 7 (-1 : Int32))) w := (Kp.t.tr Kp.t).tr (Kp.g r2.g RG.rf)
  generalize f_X10_readNext_1 (pI (pI u 23 6 (0 : Int32)) 23 7 (-1 : Int32)) = u1 at r1 r2 hK0 ⊢
  unfold eaR eachR
  generalize z1.toNatClampNeg = t at hz ⊢
  have hw := ek r1.2.2
  have hx1 : x1 = u1.1 13 6 := by rw [hx, hK0.1]
  by_cases q : (u1.1 1 6).toInt = 107
  · have h2 : S0 u1 (pI w 88 t (1 : Int32)) := r1.w88 hz
    have hw2 := ek h2.2.2
    rw [if_neg (fun z => z q), hw.1 q, if_neg n1', hw2.1 q, if_neg n1']
    obtain ⟨s1, s2⟩ := h2.next
    obtain ⟨k1, k2⟩ := (s1.t23 (k := 6) (x := (1 : Int32))).read
    have hK2 : Kp u w (f_X10_readNext_1 (pI u1 23 6 (1 : Int32))) (f_X12_next_85 (pI w 88 t (1 : Int32))) := hK0.tr (((Kp.w (by omega)).tr (Kp.g CG.rf s2.g)).tr (Kp.t.tr (Kp.g k2.g RG.rf)))
    exact (unl_sim k1 (hN.to hK2) (by rw [hx, hK2.1])).mono (fun _ _ hp => hp.of hK2)
  · have h2 : S0 u1 (pI w 88 t (0 : Int32)) := r1.w88 hz
    have hw2 := ek h2.2.2
    rw [if_pos q, hw.2.1 q, if_pos t0i, hw2.2.1 q, if_pos t0i]
    have hK2 : Kp u w u1 (pI w 88 t (0 : Int32)) := hK0.tr (Kp.w (by omega))
    exact (unl_sim h2 (hN.to hK2) hx1).mono (fun _ _ hp => hp.of hK2)
theorem rp_Bd (w : ac_U) (h : (w.1 88 6).toInt ≠ 8) : Bd (f_X12_readPromise_85 w) (fun w1 => f_X12_sign_85 w1 (59 : Int32)) = Bd (f_X12_fresh_85 (f_X12_next_85 w) (44 + w.1 88 6)) (fun b0 => Bd (f_X12_takesName_85 b0 (34 : Int32) (b0.1 88 4)) (fun b1 => Bd (f_X12_takesName_85 (pI b1 88 (26 + w.1 88 6).toNatClampNeg (b1.1 85 18)) (38 : Int32) ((pI b1 88 (26 + w.1 88 6).toNatClampNeg (b1.1 85 18)).1 88 (5 : Int32).toNatClampNeg)) (fun b2 => Bd (f_X12_takesName_85 (pI b2 88 (34 + w.1 88 6).toNatClampNeg (b2.1 85 18)) (26 : Int32) ((pI b2 88 (34 + w.1 88 6).toNatClampNeg (b2.1 85 18)).1 88 (1 : Int32).toNatClampNeg)) (fun b3 => Bd (f_X12_takes_85 (pI b3 88 (42 + w.1 88 6).toNatClampNeg (b3.1 85 18)) (0 : Int32) (23 : Int32)) (fun b4 => Bd (f_X12_takes_85 (pI b4 88 (50 + w.1 88 6).toNatClampNeg (b4.1 85 18)) ((pI b4 88 (50 + w.1 88 6).toNatClampNeg (b4.1 85 18)).1 88 (50 + w.1 88 6).toNatClampNeg) (23 : Int32)) (fun b5 => Bd (f_X12_takes_85 (pI b5 88 (58 + w.1 88 6).toNatClampNeg (b5.1 85 18)) (1 : Int32) (3 : Int32)) (fun b6 => eaR (pI b6 88 (66 + w.1 88 6).toNatClampNeg (b6.1 85 18)) (w.1 88 6) (74 + w.1 88 6)))))))) := by
  have e : f_X12_readPromise_85 w = Bd (f_X12_fresh_85 (f_X12_next_85 w) (44 + w.1 88 6)) (fun b0 => Bd (f_X12_takesName_85 b0 (34 : Int32) (b0.1 88 4)) (fun b1 => Bd (f_X12_takesName_85 (pI b1 88 (26 + w.1 88 6).toNatClampNeg (b1.1 85 18)) (38 : Int32) ((pI b1 88 (26 + w.1 88 6).toNatClampNeg (b1.1 85 18)).1 88 (5 : Int32).toNatClampNeg)) (fun b2 => Bd (f_X12_takesName_85 (pI b2 88 (34 + w.1 88 6).toNatClampNeg (b2.1 85 18)) (26 : Int32) ((pI b2 88 (34 + w.1 88 6).toNatClampNeg (b2.1 85 18)).1 88 (1 : Int32).toNatClampNeg)) (fun b3 => Bd (f_X12_takes_85 (pI b3 88 (42 + w.1 88 6).toNatClampNeg (b3.1 85 18)) (0 : Int32) (23 : Int32)) (fun b4 => Bd (f_X12_takes_85 (pI b4 88 (50 + w.1 88 6).toNatClampNeg (b4.1 85 18)) ((pI b4 88 (50 + w.1 88 6).toNatClampNeg (b4.1 85 18)).1 88 (50 + w.1 88 6).toNatClampNeg) (23 : Int32)) (fun b5 => Bd (f_X12_takes_85 (pI b5 88 (58 + w.1 88 6).toNatClampNeg (b5.1 85 18)) (1 : Int32) (3 : Int32)) (fun b6 => if (f_X12_isWord_85 (pI b6 88 (66 + w.1 88 6).toNatClampNeg (b6.1 85 18)) (1700881256 : Int64)).toInt = 0 then K_X12_readPromise_85_230 w (pI b6 88 (66 + w.1 88 6).toNatClampNeg (b6.1 85 18)) (w.1 88 6) (74 + w.1 88 6) (0 : Int32) else K_X12_readPromise_85_230 w (pI b6 88 (66 + w.1 88 6).toNatClampNeg (b6.1 85 18)) (w.1 88 6) (74 + w.1 88 6) (1 : Int32)))))))) := by
    simp only [f_X12_readPromise_85, K_X12_readPromise_85_50, vl, bd, Bd]
    rw [if_pos h]
    exact Bd_flip _ _
  rw [e]
  simp only [Bd_assoc]
  have e2 : ∀ b6 : ac_U, Bd (if (f_X12_isWord_85 (pI b6 88 (66 + w.1 88 6).toNatClampNeg (b6.1 85 18)) (1700881256 : Int64)).toInt = 0 then K_X12_readPromise_85_230 w (pI b6 88 (66 + w.1 88 6).toNatClampNeg (b6.1 85 18)) (w.1 88 6) (74 + w.1 88 6) (0 : Int32) else K_X12_readPromise_85_230 w (pI b6 88 (66 + w.1 88 6).toNatClampNeg (b6.1 85 18)) (w.1 88 6) (74 + w.1 88 6) (1 : Int32)) (fun w1 => f_X12_sign_85 w1 (59 : Int32)) = eaR (pI b6 88 (66 + w.1 88 6).toNatClampNeg (b6.1 85 18)) (w.1 88 6) (74 + w.1 88 6) := by
    intro b6
    unfold eaR
    by_cases q : (f_X12_isWord_85 (pI b6 88 (66 + w.1 88 6).toNatClampNeg (b6.1 85 18)) (1700881256 : Int64)).toInt = 0
    · rw [if_pos q, if_pos q]; exact each_Bd _ _ _ _ _
    · rw [if_neg q, if_neg q]; exact each_Bd _ _ _ _ _
  simp only [e2]

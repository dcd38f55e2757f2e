/-! Pure: the promise line. -/
theorem Nt5 : (5 : Int32).toNatClampNeg = 5 := by decide
theorem Nt1 : (1 : Int32).toNatClampNeg = 1 := by decide
theorem cl_prom (u : ac_U) (h : (u.1 13 6).toInt < 8) : f_X3_readPromise_22 u = Bd (f_X10_takeNew_1_13 u) (fun a0 => Bd (f_X10_takeKnown_1_13 a0 (1 : Int32)) (fun a1 => Bd (f_X10_takeKnown_1_13 (pI a1 23 0 (a1.1 1 9)) (2 : Int32)) (fun a2 => Bd (f_X10_takeKnown_1_13 (pI a2 23 1 (a2.1 1 9)) (0 : Int32)) (fun a3 => Bd (f_X10_takeNumber_1 (pI a3 23 2 (a3.1 1 9)) (0 : Int32) (23 : Int32)) (fun a4 => Bd (f_X10_takeNumber_1 (pI a4 23 3 (a4.1 1 8)) (a4.1 1 8) (23 : Int32)) (fun a5 => Bd (f_X10_takeNumber_1 (pI a5 23 4 (a5.1 1 8)) (1 : Int32) (3 : Int32)) (fun a6 => Bd (f_X3_readEachUnless_22 (pI a6 23 5 (a6.1 1 8))) (fun u9 => (f_X2_addPromise_13_23 u9 (a0.2 1 7), 1))))))))) := by
  rw [prom_Bd u h]
  simp only [www_Bd, who_Bd, Bd_assoc, Bd_ret]
theorem promise_sim {u w : ac_U} (h : S0 u w) (hk : (u.1 1 6).toInt = 106) : Tw (f_X3_readPromise_22 u) (lineS w) (LnP u w) := by
  have hw := wk h.2.2
  have hbeg := h.2.2.1
  have d1 := h.1.2.2.2.2.1
  have hcp := h.1.2.2.2.2.2.1
  unfold Cp at hcp
  have e6 : w.1 88 6 = u.1 13 6 := (d1 6 (by decide)).symm
  have hl : f_X12_line_85 w = f_X12_readPromise_85 w := by
    simp only [f_X12_line_85, vl, bd]
    rw [hw.2.1 (by omega), if_pos t0i, hw.2.2.2.1 (by omega), if_pos t0i, hw.2.2.2.2.2.1 (by omega), if_pos t0i, hw.2.2.2.2.2.2.2.1 (by omega), if_pos t0i, hw.2.2.2.2.2.2.2.2.2.1 (by omega), if_pos t0i, hw.2.2.2.2.2.2.2.2.2.2.2.1 (by omega), if_pos t0i, hw.2.2.2.2.2.2.2.2.2.2.2.2.1 hk, if_neg n1']
  rw [lineS_Bd, hl]
  by_cases q : (u.1 13 6).toInt < 8
  · rw [cl_prom u q, rp_Bd w (by rw [e6]; omega), e6]
    obtain ⟨s1, s2⟩ := h.next
    have hpi : (44 + u.1 13 6 : Int32).toInt = 44 + (u.1 13 6).toInt := i_add (by decide) rfl (by omega)
    have hpn : (44 + u.1 13 6 : Int32).toNatClampNeg = 44 + (u.1 13 6).toNatClampNeg := off_n (by decide) (by omega) (by decide)
    have o26 := off82 (x := u.1 13 6) (c := (26 : Int32)) (n := 26) (by omega) (by decide) (by decide)
    have o34 := off82 (x := u.1 13 6) (c := (34 : Int32)) (n := 34) (by omega) (by decide) (by decide)
    have o42 := off82 (x := u.1 13 6) (c := (42 : Int32)) (n := 42) (by omega) (by decide) (by decide)
    have o50 := off82 (x := u.1 13 6) (c := (50 : Int32)) (n := 50) (by omega) (by decide) (by decide)
    have o58 := off82 (x := u.1 13 6) (c := (58 : Int32)) (n := 58) (by omega) (by decide) (by decide)
    have o66 := off82 (x := u.1 13 6) (c := (66 : Int32)) (n := 66) (by omega) (by decide) (by decide)
    have o74 := off82 (x := u.1 13 6) (c := (74 : Int32)) (n := 74) (by omega) (by decide) (by decide)
    generalize hj26 : (26 + u.1 13 6).toNatClampNeg = j26 at o26 ⊢
    generalize hj34 : (34 + u.1 13 6).toNatClampNeg = j34 at o34 ⊢
    generalize hj42 : (42 + u.1 13 6).toNatClampNeg = j42 at o42 ⊢
    generalize hj50 : (50 + u.1 13 6).toNatClampNeg = j50 at o50 ⊢
    generalize hj58 : (58 + u.1 13 6).toNatClampNeg = j58 at o58 ⊢
    generalize hj66 : (66 + u.1 13 6).toNatClampNeg = j66 at o66 ⊢
    have ht := takeNew_sim (s := 3) (p0 := 44 + u.1 13 6) s1 (by decide) hpi (Or.inr rfl)
    rw [hpn] at ht
    refine Tw.bind ht (fun a0 b0 hP => ?_)
    obtain ⟨t3, t4, t5, n, m1, m2, m3, m4⟩ := hP
    have a13 : ∀ k, a0.1 13 k = u.1 13 k := fun k => t4.1 13 k (by omega)
    have hN0 : Nw a0 b0 n := ⟨m1, by rw [a13]; exact q, by rw [a13]; exact m3, m4⟩
    have hF : (fun u9 => ((f_X2_addPromise_13_23 u9 (a0.2 1 7), 1) : ac_U × Int32)) = addF n := by rw [m2]; rfl
    rw [hF]
    -- the person
    have c1 : b0.1 88 4 = a0.1 13 4 := (t3.1.2.2.2.2.1 4 (by decide)).symm
    rw [c1]
    refine Tw.mono (P := PrP a0 b0) (Tw.bind (takeKnown_sim (s := 1) (p0 := (34 : Int32)) (p1 := (1 : Int32)) t3 (by decide) (by decide) (by decide)) (fun a1 b1 hP => ?_)) (fun u' w' hp => ?_)
    · obtain ⟨x3, x4, x5, x6, -⟩ := hP
      have k1 := Kp.g x4 x5
      -- the deed
      have y3 : S1 (pI a1 23 0 (a1.1 1 9)) (pI b1 88 j26 (b1.1 85 18)) := (x3.t23).w88 o26
      have z1 : Kp a0 b0 (pI a1 23 0 (a1.1 1 9)) (pI b1 88 j26 (b1.1 85 18)) := k1.tr (Kp.t.tr (Kp.w (by omega)))
      have c2 : (pI b1 88 j26 (b1.1 85 18)).1 88 (5 : Int32).toNatClampNeg = (pI a1 23 0 (a1.1 1 9)).1 13 5 := by rw [Nt5]; exact (y3.1.2.2.2.2.1 5 (by decide)).symm
      rw [c2]
      refine Tw.bind (takeKnown_sim (s := 2) (p0 := (38 : Int32)) (p1 := (2 : Int32)) y3 (by decide) (by decide) (by decide)) (fun a2 b2 hP => ?_)
      obtain ⟨x3', x4', x5', -⟩ := hP
      have k2 := z1.tr (Kp.g x4' x5')
      -- the place
      have y4 : S1 (pI a2 23 1 (a2.1 1 9)) (pI b2 88 j34 (b2.1 85 18)) := (x3'.t23).w88 o34
      have z2 : Kp a0 b0 (pI a2 23 1 (a2.1 1 9)) (pI b2 88 j34 (b2.1 85 18)) := k2.tr (Kp.t.tr (Kp.w (by omega)))
      have c3 : (pI b2 88 j34 (b2.1 85 18)).1 88 (1 : Int32).toNatClampNeg = (pI a2 23 1 (a2.1 1 9)).1 13 1 := by rw [Nt1]; exact (y4.1.2.2.2.2.1 1 (by decide)).symm
      rw [c3]
      refine Tw.bind (takeKnown_sim (s := 0) (p0 := (26 : Int32)) (p1 := (0 : Int32)) y4 (by decide) (by decide) (by decide)) (fun a3 b3 hP => ?_)
      obtain ⟨x3'', x4'', x5'', -⟩ := hP
      have k3 := z2.tr (Kp.g x4'' x5'')
      -- from
      have y5 : S1 (pI a3 23 2 (a3.1 1 9)) (pI b3 88 j42 (b3.1 85 18)) := (x3''.t23).w88 o42
      have z3 : Kp a0 b0 (pI a3 23 2 (a3.1 1 9)) (pI b3 88 j42 (b3.1 85 18)) := k3.tr (Kp.t.tr (Kp.w (by omega)))
      refine Tw.bind (takeNumber_sim (p0 := (0 : Int32)) (p1 := (23 : Int32)) y5 rfl) (fun a4 b4 hP => ?_)
      obtain ⟨w3, w4, w5, w6, -⟩ := hP
      have k4 := z3.tr (Kp.g w4 w5)
      -- till
      have y6 : S1 (pI a4 23 3 (a4.1 1 8)) (pI b4 88 j50 (b4.1 85 18)) := (w3.t23).w88 o50
      have z4 : Kp a0 b0 (pI a4 23 3 (a4.1 1 8)) (pI b4 88 j50 (b4.1 85 18)) := k4.tr (Kp.t.tr (Kp.w (by omega)))
      have c4 : (pI b4 88 j50 (b4.1 85 18)).1 88 j50 = a4.1 1 8 := pI_s.trans w6.symm
      refine Tw.bind (takeNumber_sim (p0 := a4.1 1 8) (p1 := (23 : Int32)) y6 c4) (fun a5 b5 hP => ?_)
      obtain ⟨v3, v4, v5, -⟩ := hP
      have k5 := z4.tr (Kp.g v4 v5)
      -- times
      have y7 : S1 (pI a5 23 4 (a5.1 1 8)) (pI b5 88 j58 (b5.1 85 18)) := (v3.t23).w88 o58
      have z5 : Kp a0 b0 (pI a5 23 4 (a5.1 1 8)) (pI b5 88 j58 (b5.1 85 18)) := k5.tr (Kp.t.tr (Kp.w (by omega)))
      refine Tw.bind (takeNumber_sim (p0 := (1 : Int32)) (p1 := (3 : Int32)) y7 rfl) (fun a6 b6 hP => ?_)
      obtain ⟨g3, g4, g5, -⟩ := hP
      have k6 := z5.tr (Kp.g g4 g5)
      have y8 : S1 (pI a6 23 5 (a6.1 1 8)) (pI b6 88 j66 (b6.1 85 18)) := (g3.t23).w88 o66
      have z6 : Kp a0 b0 (pI a6 23 5 (a6.1 1 8)) (pI b6 88 j66 (b6.1 85 18)) := k6.tr (Kp.t.tr (Kp.w (by omega)))
      exact (each_sim y8 (hN0.to z6) (by rw [z6.1, a13]) o74).mono (fun _ _ hp => hp.of z6)
    · obtain ⟨p1, p2, p3, p4, p5⟩ := hp
      refine ⟨p1, ?_, ?_, ?_⟩
      · rw [p2, t4.1 22 3 (by omega)]
      · rw [p3, t5 85 19 (by omega), s2.1 85 19 (by omega)]
      · unfold tol
        rw [p4 1 (by decide) (by decide), p4 2 (by decide) (by decide), p4 3 (by decide) (by decide), p4 4 (by decide) (by decide), p4 5 (by decide) (by decide), p5, p4 7 (by decide) (by decide), p2, a13, a13, a13, a13, a13, a13, a13, t4.1 22 4 (by omega), inc_i (by omega)]
        omega
  · have e1 : f_X3_readPromise_22 u = f_X10_fail_1 u (4 : Int32) := by
      simp only [f_X3_readPromise_22, vl, bd]
      rw [if_neg q]
    have e2 : f_X12_readPromise_85 w = f_X12_bad_85 w (4 : Int32) := by
      simp only [f_X12_readPromise_85, vl, bd]
      rw [if_neg (by rw [e6]; omega)]
    rw [e1, e2]
    have e3 : Bd (f_X12_bad_85 w (4 : Int32)) (fun w1 => f_X12_sign_85 w1 (59 : Int32)) = f_X12_bad_85 w (4 : Int32) := if_neg n0
    rw [e3]
    exact Tw.bad hbeg

/-! Pure: frogs, ways. -/
theorem inc_i {x : Int32} (h : -2147483648 ≤ x.toInt ∧ x.toInt < 2147483647) : (x + 1).toInt = x.toInt + 1 := i_add rfl (by decide) (by omega)
theorem off_n {x : Int32} {c : Int32} {n : Nat} (hc : c.toInt = n) (h : 0 ≤ x.toInt ∧ x.toInt ≤ 1000) (hn : n ≤ 1000) : (c + x).toNatClampNeg = n + x.toNatClampNeg := by
  have h1 : (c + x).toInt = n + x.toInt := i_add hc rfl (by omega)
  have h2 := i_cl (x := c + x) (by omega)
  have h3 := i_cl (x := x) h.1
  omega
theorem upd_frog {u w : ac_U} (h : Sm u w) (x : Int32) (hf : (u.1 13 3).toInt < 6) : Sm (pI (pI u 15 (u.1 13 3).toNatClampNeg x) 13 3 (u.1 13 3 + 1)) (pI (pI w 88 (16 + (u.1 13 3).toNatClampNeg) x) 88 3 (u.1 13 3 + 1)) := by
  obtain ⟨d1, d2, d3, d4, d5, d6, d7⟩ := h.2.2.2.2
  have c3 := d2.2.2.1
  have hF := i_cl (x := u.1 13 3) c3.1
  have hi := inc_i (x := u.1 13 3) (by omega)
  generalize hFq : (u.1 13 3).toNatClampNeg = F at *
  have e13 : ∀ k, k ≠ 3 → (pI (pI u 15 F x) 13 3 (u.1 13 3 + 1)).1 13 k = u.1 13 k := fun k hk => by rw [pI_k hk, pI_c (by decide)]
  have e133 : (pI (pI u 15 F x) 13 3 (u.1 13 3 + 1)).1 13 3 = u.1 13 3 + 1 := pI_s
  have e88 : ∀ k, k ≠ 3 → k ≠ 16 + F → (pI (pI w 88 (16 + F) x) 88 3 (u.1 13 3 + 1)).1 88 k = w.1 88 k := fun k hk hk2 => by rw [pI_k hk, pI_k hk2]
  refine h.mk2 rfl rfl rfl rfl rfl rfl ⟨fun j hj => ?_, ?_, fun k hk => ?_, fun f hf2 => ?_, d5.to rfl (e13 7 (by decide)) (fun k hk => e88 k (by omega) (by omega)), d6.to (fun k hk => e13 k (by omega)) rfl rfl rfl rfl, d7⟩
  · by_cases e : j = 3
    · subst e; rw [e133, pI_s]
    · rw [e13 j e, e88 j e (by omega)]; exact d1 j hj
  · unfold Cp
    rw [e13 1 (by decide), e13 2 (by decide), e133, e13 4 (by decide), e13 5 (by decide), e13 6 (by decide), e13 7 (by decide), e13 8 (by decide), hi]
    exact ⟨d2.1, d2.2.1, by omega, d2.2.2.2⟩
  · rw [pI_c (show 14 ≠ 13 by decide), pI_c (show 14 ≠ 15 by decide), e88 _ (by omega) (by omega)]; exact d3 k hk
  · rw [e133, hi] at hf2
    rw [pI_c (show 15 ≠ 13 by decide), pI_k (show 16 + f ≠ 3 by omega)]
    by_cases e : f = F
    · subst e; rw [pI_s, pI_s]
    · rw [pI_k e, pI_k (show 16 + f ≠ 16 + F by omega)]
      exact d4 f (by omega)
theorem frog_sim {u w : ac_U} (h : S0 u w) (hk : (u.1 1 6).toInt = 103) : Tw (f_X3_readFrog_22 u) (lineS w) (LnP u w) := by
  have hw := wk h.2.2
  have hbeg := h.2.2.1
  have d1 := h.1.2.2.2.2.1
  have c3 := h.1.2.2.2.2.2.1.2.2.1
  have e3 : w.1 88 3 = u.1 13 3 := (d1 3 (by decide)).symm
  have e1 : w.1 88 1 = u.1 13 1 := (d1 1 (by decide)).symm
  have hl : f_X12_line_85 w = if (u.1 13 3).toInt ≠ 6 then (if (f_X12_takesName_85 (f_X12_next_85 w) (26 : Int32) (u.1 13 1)).2.toInt ≠ 0 then (pI (pI (f_X12_takesName_85 (f_X12_next_85 w) (26 : Int32) (u.1 13 1)).1 88 (16 + u.1 13 3).toNatClampNeg ((f_X12_takesName_85 (f_X12_next_85 w) (26 : Int32) (u.1 13 1)).1.1 85 18)) 88 3 (u.1 13 3 + 1), 1) else ((f_X12_takesName_85 (f_X12_next_85 w) (26 : Int32) (u.1 13 1)).1, 0)) else f_X12_bad_85 w (4 : Int32) := by
    simp only [f_X12_line_85, vl, bd]
    rw [hw.2.1 (by omega), if_pos t0i, hw.2.2.2.1 (by omega), if_pos t0i, hw.2.2.2.2.2.1 (by omega), if_pos t0i, hw.2.2.2.2.2.2.1 hk, if_neg n1', e3, e1]
  have hc : f_X3_readFrog_22 u = if (u.1 13 3).toInt < 6 then (if (f_X10_takeKnown_1_13 u (0 : Int32)).2.toInt ≠ 0 then f_X10_takeSign_1 (f_X2_addFrog_13 (f_X10_takeKnown_1_13 u (0 : Int32)).1 ((f_X10_takeKnown_1_13 u (0 : Int32)).1.1 1 9)) (59 : Int32) else ((f_X10_takeKnown_1_13 u (0 : Int32)).1, 0)) else f_X10_fail_1 u (4 : Int32) := by
    simp only [f_X3_readFrog_22, vl, bd]
  rw [hc]
  by_cases q : (u.1 13 3).toInt < 6
  · rw [if_pos q]
    rw [if_pos (by omega)] at hl
    obtain ⟨s1, s2⟩ := h.next
    have ht := takeKnown_sim (s := 0) (p0 := (26 : Int32)) (p1 := (0 : Int32)) s1 (by decide) (by decide) (by decide)
    have ht : Tw (f_X10_takeKnown_1_13 u (0 : Int32)) (f_X12_takesName_85 (f_X12_next_85 w) (26 : Int32) (u.1 13 1)) _ := ht
    generalize f_X10_takeKnown_1_13 u (0 : Int32) = a at ht ⊢
    generalize f_X12_takesName_85 (f_X12_next_85 w) (26 : Int32) (u.1 13 1) = b at ht hl
    rcases ht with ⟨t1, t2, t3, t4, t5, t6, t7, t8⟩ | ⟨t1, t2, t3⟩
    · rw [t1, if_pos n1]
      rw [t2, if_pos n1] at hl
      rw [lineS_1 hl n1, ← t6]
      have a13 : a.1.1 13 3 = u.1 13 3 := t4.1 13 3 (by omega)
      have ha : f_X2_addFrog_13 a.1 (a.1.1 1 9) = pI (pI a.1 15 (a.1.1 13 3).toNatClampNeg (a.1.1 1 9)) 13 3 (a.1.1 13 3 + 1) := by
        simp only [f_X2_addFrog_13, vl]
        rw [if_neg (by rw [a13]; omega)]
      rw [ha]
      have ho : (16 + u.1 13 3).toNatClampNeg = 16 + (a.1.1 13 3).toNatClampNeg := by rw [a13]; exact off_n (by decide) (by omega) (by decide)
      rw [ho, ← a13]
      have hS := upd_frog t3.1 (a.1.1 1 9) (by rw [a13]; exact q)
      have hS2 := t3.mk2 hS rfl rfl rfl rfl
      rcases takeSign_sim hS2 with ⟨k1, k2, k3, k4, k5⟩ | k
      · refine Or.inl ⟨k1, k2, k3, ?_, ?_, ?_⟩
        · rw [k4.1 22 3 (by omega), pI_c (by decide), pI_c (by decide), t4.1 22 3 (by omega)]
        · rw [k5.1 85 19 (by omega), pI_c (by decide), pI_c (by decide), t5.1 85 19 (by omega), s2.1 85 19 (by omega)]
        · unfold tol
          have f13 : ∀ k, k ≠ 3 → (f_X10_takeSign_1 (pI (pI a.1 15 (a.1.1 13 3).toNatClampNeg (a.1.1 1 9)) 13 3 (a.1.1 13 3 + 1)) 59).1.1 13 k = u.1 13 k := fun k hk => by
            rw [k4.1 13 k (by omega), pI_k hk, pI_c (by decide), t4.1 13 k (by omega)]
          have f3 : (f_X10_takeSign_1 (pI (pI a.1 15 (a.1.1 13 3).toNatClampNeg (a.1.1 1 9)) 13 3 (a.1.1 13 3 + 1)) 59).1.1 13 3 = u.1 13 3 + 1 := by
            rw [k4.1 13 3 (by omega), pI_s, a13]
          have f22 : (f_X10_takeSign_1 (pI (pI a.1 15 (a.1.1 13 3).toNatClampNeg (a.1.1 1 9)) 13 3 (a.1.1 13 3 + 1)) 59).1.1 22 4 = u.1 22 4 := by
            rw [k4.1 22 4 (by omega), pI_c (by decide), pI_c (by decide), t4.1 22 4 (by omega)]
          rw [f13 1 (by decide), f13 2 (by decide), f3, f13 4 (by decide), f13 5 (by decide), f13 6 (by decide), f13 7 (by decide), f22, inc_i (by omega)]
          omega
      · exact Or.inr k
    · rw [t1, if_neg n0]
      rw [t2, if_neg n0] at hl
      rw [lineS_0 hl t0i]
      exact Or.inr ⟨rfl, rfl, t3⟩
  · rw [if_neg q]
    rw [if_neg (by omega)] at hl
    rw [lineS_0 hl t0i]
    exact Or.inr ⟨rfl, rfl, ft_mk hbeg⟩

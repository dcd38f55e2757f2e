/-! Pure: ways. -/
theorem upd_way {u w : ac_U} (h : Sm u w) {a b : Int32} (ha : 0 ≤ a.toInt ∧ a.toInt < 8) (hb : 0 ≤ b.toInt ∧ b.toInt < 8) (hy : (u.1 13 2).toInt < 12) (x y : Int32) : Sm (pI (pI (pI u 14 a.toNatClampNeg x) 14 b.toNatClampNeg y) 13 2 (u.1 13 2 + 1)) (pI (pI (pI w 88 (8 + a.toNatClampNeg) x) 88 (8 + b.toNatClampNeg) y) 88 2 (u.1 13 2 + 1)) := by
  obtain ⟨d1, d2, d3, d4, d5, d6, d7⟩ := h.2.2.2.2
  have c2 := d2.2.1
  have hi := inc_i (x := u.1 13 2) (by omega)
  have hA := i_cl (x := a) ha.1
  have hB := i_cl (x := b) hb.1
  generalize hAq : a.toNatClampNeg = A at *
  generalize hBq : b.toNatClampNeg = B at *
  have e13 : ∀ k, k ≠ 2 → (pI (pI (pI u 14 A x) 14 B y) 13 2 (u.1 13 2 + 1)).1 13 k = u.1 13 k := fun k hk => by rw [pI_k hk, pI_c (by decide), pI_c (by decide)]
  have e132 : (pI (pI (pI u 14 A x) 14 B y) 13 2 (u.1 13 2 + 1)).1 13 2 = u.1 13 2 + 1 := pI_s
  have e88 : ∀ k, k ≠ 2 → k ≠ 8 + A → k ≠ 8 + B → (pI (pI (pI w 88 (8 + A) x) 88 (8 + B) y) 88 2 (u.1 13 2 + 1)).1 88 k = w.1 88 k := fun k h1 h2 h3 => by rw [pI_k h1, pI_k h3, pI_k h2]
  refine h.mk2 rfl rfl rfl rfl rfl rfl ⟨fun j hj => ?_, ?_, fun k hk => ?_, fun f hf2 => ?_, d5.to rfl (e13 7 (by decide)) (fun k hk => e88 k (by omega) (by omega) (by omega)), d6.to (fun k hk => e13 k (by omega)) rfl rfl rfl rfl, d7⟩
  · by_cases e : j = 2
    · subst e; rw [e132, pI_s]
    · rw [e13 j e, e88 j e (by omega) (by omega)]; exact d1 j hj
  · unfold Cp
    rw [e13 1 (by decide), e132, e13 3 (by decide), e13 4 (by decide), e13 5 (by decide), e13 6 (by decide), e13 7 (by decide), e13 8 (by decide), hi]
    exact ⟨d2.1, by omega, d2.2.2⟩
  · rw [pI_c (show 14 ≠ 13 by decide), pI_k (show 8 + k ≠ 2 by omega)]
    by_cases e : k = B
    · subst e; rw [pI_s, pI_s]
    · rw [pI_k e, pI_k (show 8 + k ≠ 8 + B by omega)]
      by_cases e2 : k = A
      · subst e2; rw [pI_s, pI_s]
      · rw [pI_k e2, pI_k (show 8 + k ≠ 8 + A by omega)]
        exact d3 k hk
  · rw [e13 3 (by decide)] at hf2
    rw [pI_c (show 15 ≠ 13 by decide), pI_c (show 15 ≠ 14 by decide), pI_c (show 15 ≠ 14 by decide), e88 _ (by omega) (by omega) (by omega)]
    exact d4 f hf2
theorem way_sim {u w : ac_U} (h : S0 u w) (hk : (u.1 1 6).toInt = 102) : Tw (f_X3_readWay_22 u) (lineS w) (LnP u w) := by
  have hw := wk h.2.2
  have hbeg := h.2.2.1
  have d1 := h.1.2.2.2.2.1
  have cp1 := h.1.2.2.2.2.2.1.1
  have cp2 := h.1.2.2.2.2.2.1.2.1
  have e2 : w.1 88 2 = u.1 13 2 := (d1 2 (by decide)).symm
  have e1 : w.1 88 1 = u.1 13 1 := (d1 1 (by decide)).symm
  obtain ⟨s1, s2⟩ := h.next
  have ht := takeKnown_sim (s := 0) (p0 := (26 : Int32)) (p1 := (0 : Int32)) s1 (by decide) (by decide) (by decide)
  have ht : Tw (f_X10_takeKnown_1_13 u (0 : Int32)) (f_X12_takesName_85 (f_X12_next_85 w) (26 : Int32) (u.1 13 1)) _ := ht
  simp only [f_X3_readWay_22, K_X3_readWay_22_88, vl, bd]
  have hl : f_X12_line_85 w = if (u.1 13 2).toInt ≠ 12 then (let c := f_X12_takesName_85 (f_X12_next_85 w) (26 : Int32) (u.1 13 1); if c.2.toInt ≠ 0 then (let d := f_X12_looksAt_85 c.1 (26 : Int32) (u.1 13 1); if d.2.toInt ≠ 0 then (if (c.1.1 85 18).toInt = (d.1.1 85 18).toInt then f_X12_bad_85 d.1 (3 : Int32) else if (f_X12_bitOf d.1 (d.1.1 88 (8 + c.1.1 85 18).toNatClampNeg) (d.1.1 85 18)).toInt = 0 then (f_X12_next_85 (pI (pI (pI d.1 88 (8 + c.1.1 85 18).toNatClampNeg (d.1.1 88 (8 + c.1.1 85 18).toNatClampNeg ||| (1 : Int32) <<< (d.1.1 85 18 &&& 31))) 88 (8 + d.1.1 85 18).toNatClampNeg ((pI d.1 88 (8 + c.1.1 85 18).toNatClampNeg (d.1.1 88 (8 + c.1.1 85 18).toNatClampNeg ||| (1 : Int32) <<< (d.1.1 85 18 &&& 31))).1 88 (8 + d.1.1 85 18).toNatClampNeg ||| (1 : Int32) <<< (c.1.1 85 18 &&& 31))) 88 2 (u.1 13 2 + 1)), 1) else f_X12_bad_85 d.1 (3 : Int32)) else (d.1, 0)) else (c.1, 0)) else f_X12_bad_85 w (4 : Int32) := by
    simp only [f_X12_line_85, K_X12_line_85_214, vl, bd]
    rw [hw.2.1 (by omega), if_pos t0i, hw.2.2.2.1 (by omega), if_pos t0i, hw.2.2.2.2.1 hk, if_neg n1', e2, e1]
  by_cases q : (u.1 13 2).toInt < 12
  · rw [if_pos q]
    rw [if_pos (by omega)] at hl
    generalize f_X10_takeKnown_1_13 u (0 : Int32) = a at ht ⊢
    generalize f_X12_takesName_85 (f_X12_next_85 w) (26 : Int32) (u.1 13 1) = c at ht hl
    simp only at hl
    rcases ht with ⟨t1, t2, t3, t4, t5, t6, t7, t8⟩ | ⟨t1, t2, t3⟩
    · rw [t1, if_pos n1]
      rw [t2, if_pos n1] at hl
      have a13 : ∀ k, a.1.1 13 k = u.1 13 k := fun k => t4.1 13 k (by omega)
      have ht2 := takeLook_sim (s := 0) (p0 := (26 : Int32)) (p1 := (0 : Int32)) t3 (by decide) (by decide) (by decide)
      have ht2 : Tw (f_X10_takeKnown_1_13 a.1 (0 : Int32)) (f_X12_looksAt_85 c.1 (26 : Int32) (a.1.1 13 1)) _ := ht2
      rw [a13 1] at ht2
      generalize f_X10_takeKnown_1_13 a.1 (0 : Int32) = b at ht2 ⊢
      generalize f_X12_looksAt_85 c.1 (26 : Int32) (u.1 13 1) = d at ht2 hl
      rcases ht2 with ⟨r1, r2, r3, r4, r5, r6, r7, r8⟩ | ⟨r1, r2, r3⟩
      · rw [r1, if_pos n1]
        rw [r2, if_pos n1] at hl
        have b13 : ∀ k, b.1.1 13 k = u.1 13 k := fun k => (r4.1 13 k (by omega)).trans (a13 k)
        have hcp : cp 0 = 1 := rfl
        rw [hcp] at t8 r8
        rw [a13 1] at r8
        rw [← t6, ← r6] at hl
        have hbeg2 := r3.2.2.1
        have hbad : Tw (f_X10_fail_1 b.1 (3 : Int32)) (f_X12_bad_85 d.1 (3 : Int32)) (LnP u w) := Tw.bad hbeg2
        have hd3 := r3.1.2.2.2.2.2.2.1
        have oA : (8 + a.1.1 1 9).toNatClampNeg = 8 + (a.1.1 1 9).toNatClampNeg := off_n (by decide) (by omega) (by decide)
        have oB : (8 + b.1.1 1 9).toNatClampNeg = 8 + (b.1.1 1 9).toNatClampNeg := off_n (by decide) (by omega) (by decide)
        rw [oA, oB] at hl
        have hA := i_cl (x := a.1.1 1 9) (by omega)
        have hB := i_cl (x := b.1.1 1 9) (by omega)
        have nA : b.1.1 14 (a.1.1 1 9).toNatClampNeg = d.1.1 88 (8 + (a.1.1 1 9).toNatClampNeg) := hd3 _ (by omega)
        have nB : b.1.1 14 (b.1.1 1 9).toNatClampNeg = d.1.1 88 (8 + (b.1.1 1 9).toNatClampNeg) := hd3 _ (by omega)
        by_cases z1 : (a.1.1 1 9).toInt = (b.1.1 1 9).toInt
        · rw [if_pos z1]
          rw [if_pos z1] at hl
          rw [lineS_0 hl t0i]
          exact Or.inr ⟨rfl, rfl, ft_mk hbeg2⟩
        · rw [if_neg z1]
          rw [if_neg z1, ← nA] at hl
          have hnear : f_X2_isNear_13 b.1 (a.1.1 1 9) (b.1.1 1 9) = f_X12_bitOf d.1 (b.1.1 14 (a.1.1 1 9).toNatClampNeg) (b.1.1 1 9) := rfl
          rw [hnear]
          by_cases z2 : (f_X12_bitOf d.1 (b.1.1 14 (a.1.1 1 9).toNatClampNeg) (b.1.1 1 9)).toInt = 0
          · rw [if_pos z2]
            rw [if_pos z2] at hl
            rw [lineS_1 hl n1]
            have ha : f_X2_addWay_13 b.1 (a.1.1 1 9) (b.1.1 1 9) = pI (pI (pI b.1 14 (a.1.1 1 9).toNatClampNeg (b.1.1 14 (a.1.1 1 9).toNatClampNeg ||| (1 : Int32) <<< (b.1.1 1 9 &&& 31))) 14 (b.1.1 1 9).toNatClampNeg ((pI b.1 14 (a.1.1 1 9).toNatClampNeg (b.1.1 14 (a.1.1 1 9).toNatClampNeg ||| (1 : Int32) <<< (b.1.1 1 9 &&& 31))).1 14 (b.1.1 1 9).toNatClampNeg ||| (1 : Int32) <<< (a.1.1 1 9 &&& 31))) 13 2 (b.1.1 13 2 + 1) := rfl
            rw [ha]
            generalize hx : b.1.1 14 (a.1.1 1 9).toNatClampNeg ||| (1 : Int32) <<< (b.1.1 1 9 &&& 31) = x at *
            have hne : (b.1.1 1 9).toNatClampNeg ≠ (a.1.1 1 9).toNatClampNeg := fun e => z1 (by omega)
            have hyy : (pI d.1 88 (8 + (a.1.1 1 9).toNatClampNeg) x).1 88 (8 + (b.1.1 1 9).toNatClampNeg) = (pI b.1 14 (a.1.1 1 9).toNatClampNeg x).1 14 (b.1.1 1 9).toNatClampNeg := by
              rw [pI_k (by omega), pI_k hne, nB]
            rw [hyy, ← b13 2]
            generalize hy : ((pI b.1 14 (a.1.1 1 9).toNatClampNeg x).1 14 (b.1.1 1 9).toNatClampNeg ||| (1 : Int32) <<< (a.1.1 1 9 &&& 31)) = y at *
            have hS := upd_way r3.1 (a := a.1.1 1 9) (b := b.1.1 1 9) (by omega) (by omega) (by rw [b13]; exact q) x y
            have hS0 := r3.mk2 hS rfl rfl rfl rfl
            obtain ⟨m1, m2⟩ := hS0.next
            generalize hU : pI (pI (pI b.1 14 (a.1.1 1 9).toNatClampNeg x) 14 (b.1.1 1 9).toNatClampNeg y) 13 2 (b.1.1 13 2 + 1) = U at *
            generalize hV : pI (pI (pI d.1 88 (8 + (a.1.1 1 9).toNatClampNeg) x) 88 (8 + (b.1.1 1 9).toNatClampNeg) y) 88 2 (b.1.1 13 2 + 1) = V at *
            have u13 : ∀ k, k ≠ 2 → U.1 13 k = u.1 13 k := fun k hk2 => by rw [← hU, pI_k hk2, pI_c (by decide), pI_c (by decide), b13]
            have u132 : U.1 13 2 = u.1 13 2 + 1 := by rw [← hU, pI_s, b13]
            have u22 : ∀ k, U.1 22 k = u.1 22 k := fun k => by rw [← hU, pI_c (by decide), pI_c (by decide), pI_c (by decide), r4.1 22 k (by omega), t4.1 22 k (by omega)]
            have v85 : V.1 85 19 = w.1 85 19 := by rw [← hV, pI_c (by decide), pI_c (by decide), pI_c (by decide), r5.1 85 19 (by omega), t5.1 85 19 (by omega), s2.1 85 19 (by omega)]
            rcases takeSign_sim m1 with ⟨k1, k2, k3, k4, k5⟩ | k
            · refine Or.inl ⟨k1, k2, k3, ?_, ?_, ?_⟩
              · rw [k4.1 22 3 (by omega), u22]
              · rw [k5.1 85 19 (by omega), m2.1 85 19 (by omega), v85]
              · unfold tol
                rw [k4.1 13 1 (by omega), k4.1 13 2 (by omega), k4.1 13 3 (by omega), k4.1 13 4 (by omega), k4.1 13 5 (by omega), k4.1 13 6 (by omega), k4.1 13 7 (by omega), k4.1 22 4 (by omega), u13 1 (by decide), u132, u13 3 (by decide), u13 4 (by decide), u13 5 (by decide), u13 6 (by decide), u13 7 (by decide), u22, inc_i (by omega)]
                omega
            · exact Or.inr k
          · rw [if_neg z2]
            rw [if_neg z2] at hl
            rw [lineS_0 hl t0i]
            exact Or.inr ⟨rfl, rfl, ft_mk hbeg2⟩
      · rw [r1, if_neg n0]
        rw [r2, if_neg n0] at hl
        rw [lineS_0 hl t0i]
        exact Or.inr ⟨rfl, rfl, r3⟩
    · rw [t1, if_neg n0]
      rw [t2, if_neg n0] at hl
      rw [lineS_0 hl t0i]
      exact Or.inr ⟨rfl, rfl, t3⟩
  · rw [if_neg q]
    rw [if_neg (by omega)] at hl
    rw [lineS_0 hl t0i]
    exact Or.inr ⟨rfl, rfl, ft_mk hbeg⟩

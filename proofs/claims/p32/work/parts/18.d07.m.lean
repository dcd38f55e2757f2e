/-! Pure: the lines place and deed. -/
theorem place_sim {u w : ac_U} (h : S0 u w) (hk : (u.1 1 6).toInt = 101) : Tw (f_X3_readPlace_22 u) (lineS w) (LnP u w) := by
  have hw := wk h.2.2
  have hbeg := h.2.2.1
  have d1 := h.1.2.2.2.2.1
  have hcc := cp_cnt h.1.2.2.2.2 (s := 0) (by decide)
  have hcc : 0 ≤ (u.1 13 1).toInt ∧ (u.1 13 1).toInt ≤ 8 := hcc
  have hcp := h.1.2.2.2.2.2.1
  unfold Cp at hcp
  have e1 : w.1 88 1 = u.1 13 1 := (d1 1 (by decide)).symm
  have hl : f_X12_line_85 w = if (u.1 13 1).toInt ≠ 8 then (if (f_X12_fresh_85 (f_X12_next_85 w) (26 + u.1 13 1)).2.toInt ≠ 0 then (pI (f_X12_fresh_85 (f_X12_next_85 w) (26 + u.1 13 1)).1 88 1 (u.1 13 1 + 1), 1) else ((f_X12_fresh_85 (f_X12_next_85 w) (26 + u.1 13 1)).1, 0)) else f_X12_bad_85 w (4 : Int32) := by
    simp only [f_X12_line_85, vl, bd]
    rw [hw.2.1 (by omega), if_pos t0i, hw.2.2.1 hk, if_neg n1', e1]
  have hc : f_X3_readPlace_22 u = if (u.1 13 1).toInt < 8 then (if (f_X10_takeNew_1_13 u).2.toInt ≠ 0 then f_X10_takeSign_1 (f_X2_addPlace_13 (f_X10_takeNew_1_13 u).1 ((f_X10_takeNew_1_13 u).1.2 1 7)) (59 : Int32) else ((f_X10_takeNew_1_13 u).1, 0)) else f_X10_fail_1 u (4 : Int32) := by
    simp only [f_X3_readPlace_22, vl, bd]
  rw [hc]
  by_cases q : (u.1 13 1).toInt < 8
  · rw [if_pos q]
    rw [if_pos (by omega)] at hl
    obtain ⟨s1, s2⟩ := h.next
    have hpi : (26 + u.1 13 1 : Int32).toInt = 26 + (u.1 13 1).toInt := i_add (by decide) rfl (by omega)
    have hpn : (26 + u.1 13 1 : Int32).toNatClampNeg = 26 + (u.1 13 1).toNatClampNeg := off_n (by decide) (by omega) (by decide)
    have ht := takeNew_sim (s := 0) (p0 := 26 + u.1 13 1) s1 (by decide) hpi (Or.inl (show (26 : Int) + (u.1 13 1).toInt < 34 by omega))
    rw [hpn] at ht
    generalize f_X10_takeNew_1_13 u = a at ht ⊢
    generalize f_X12_fresh_85 (f_X12_next_85 w) (26 + u.1 13 1) = b at ht hl
    rcases ht with ⟨t1, t2, t3, t4, t5, n, n1', n2, n3, n4⟩ | ⟨t1, t2, t3⟩
    · rw [t1, if_pos n1]
      rw [t2, if_pos n1] at hl
      rw [lineS_1 hl n1]
      have a13 : ∀ k, a.1.1 13 k = u.1 13 k := fun k => t4.1 13 k (by omega)
      have hNN := cp_names t3.1.2.2.2.2
      have ha : f_X2_addPlace_13 a.1 (a.1.2 1 7) = nmU a.1 (Int64.ofNat n) (0 : Int32) (cp 0) := by
        rw [n2]
        simp only [f_X2_addPlace_13, f_X2_addName_13, vl]
        rw [if_neg (by rw [a13] at *; omega)]
        rfl
      rw [ha, ← a13 1]
      have hS := upd_name (s := 0) (sv := (0 : Int32)) t3.1 (by decide) (by decide) (show (a.1.1 13 1).toInt < 8 by rw [a13]; exact q) n1' (show b.1.2 90 (26 + (a.1.1 13 1).toNatClampNeg) = _ by rw [a13]; exact n3) n4
      have hS2 := t3.mk2 hS (by unfold nmU; rfl) (by unfold nmU; rfl) rfl rfl
      have hS2 : S1 (nmU a.1 (Int64.ofNat n) (0 : Int32) (cp 0)) (pI b.1 88 1 (a.1.1 13 1 + 1)) := hS2
      have u13 : ∀ k, k ≠ 1 → k ≠ 8 → (nmU a.1 (Int64.ofNat n) (0 : Int32) (cp 0)).1 13 k = u.1 13 k := fun k k1 k2 => (nmU_13 k k1 k2).trans (a13 k)
      have u1c : (nmU a.1 (Int64.ofNat n) (0 : Int32) (cp 0)).1 13 1 = u.1 13 1 + 1 := by unfold nmU; rw [← a13]; exact pI_s
      have u22 : ∀ k, (nmU a.1 (Int64.ofNat n) (0 : Int32) (cp 0)).1 22 k = u.1 22 k := fun k => (show _ = a.1.1 22 k from by unfold nmU; rfl).trans (t4.1 22 k (by omega))
      generalize nmU a.1 (Int64.ofNat n) (0 : Int32) (cp 0) = U at *
      rcases takeSign_sim hS2 with ⟨k1, k2, k3, k4, k5⟩ | k
      · refine Or.inl ⟨k1, k2, k3, ?_, ?_, ?_⟩
        · rw [k4.1 22 3 (by omega), u22]
        · rw [k5.1 85 19 (by omega), pI_c (by decide), t5 85 19 (by omega), s2.1 85 19 (by omega)]
        · unfold tol
          rw [k4.1 13 1 (by omega), k4.1 13 2 (by omega), k4.1 13 3 (by omega), k4.1 13 4 (by omega), k4.1 13 5 (by omega), k4.1 13 6 (by omega), k4.1 13 7 (by omega), k4.1 22 4 (by omega), u1c, u13 2 (by decide) (by decide), u13 3 (by decide) (by decide), u13 4 (by decide) (by decide), u13 5 (by decide) (by decide), u13 6 (by decide) (by decide), u13 7 (by decide) (by decide), u22, inc_i (by omega)]
          omega
      · exact Or.inr k
    · rw [t1, if_neg n0]
      rw [t2, if_neg n0] at hl
      rw [lineS_0 hl t0i]
      exact Or.inr ⟨rfl, rfl, t3⟩
  · rw [if_neg q]
    rw [if_neg (by omega)] at hl
    rw [lineS_0 hl t0i]
    exact Or.inr ⟨rfl, rfl, ft_mk hbeg⟩

theorem deed_sim {u w : ac_U} (h : S0 u w) (hk : (u.1 1 6).toInt = 105) : Tw (f_X3_readDeed_22 u) (lineS w) (LnP u w) := by
  have hw := wk h.2.2
  have hbeg := h.2.2.1
  have d1 := h.1.2.2.2.2.1
  have hcc := cp_cnt h.1.2.2.2.2 (s := 2) (by decide)
  have hcc : 0 ≤ (u.1 13 5).toInt ∧ (u.1 13 5).toInt ≤ 8 := hcc
  have hcp := h.1.2.2.2.2.2.1
  unfold Cp at hcp
  have e1 : w.1 88 5 = u.1 13 5 := (d1 5 (by decide)).symm
  have hl : f_X12_line_85 w = if (u.1 13 5).toInt ≠ 6 then (if (f_X12_fresh_85 (f_X12_next_85 w) (38 + u.1 13 5)).2.toInt ≠ 0 then (pI (f_X12_fresh_85 (f_X12_next_85 w) (38 + u.1 13 5)).1 88 5 (u.1 13 5 + 1), 1) else ((f_X12_fresh_85 (f_X12_next_85 w) (38 + u.1 13 5)).1, 0)) else f_X12_bad_85 w (4 : Int32) := by
    simp only [f_X12_line_85, vl, bd]
    rw [hw.2.1 (by omega), if_pos t0i, hw.2.2.2.1 (by omega), if_pos t0i, hw.2.2.2.2.2.1 (by omega), if_pos t0i, hw.2.2.2.2.2.2.2.1 (by omega), if_pos t0i, hw.2.2.2.2.2.2.2.2.2.1 (by omega), if_pos t0i, hw.2.2.2.2.2.2.2.2.2.2.1 hk, if_neg n1', e1]
  have hc : f_X3_readDeed_22 u = if (u.1 13 5).toInt < 6 then (if (f_X10_takeNew_1_13 u).2.toInt ≠ 0 then f_X10_takeSign_1 (f_X2_addDeed_13 (f_X10_takeNew_1_13 u).1 ((f_X10_takeNew_1_13 u).1.2 1 7)) (59 : Int32) else ((f_X10_takeNew_1_13 u).1, 0)) else f_X10_fail_1 u (4 : Int32) := by
    simp only [f_X3_readDeed_22, vl, bd]
  rw [hc]
  by_cases q : (u.1 13 5).toInt < 6
  · rw [if_pos q]
    rw [if_pos (by omega)] at hl
    obtain ⟨s1, s2⟩ := h.next
    have hpi : (38 + u.1 13 5 : Int32).toInt = 38 + (u.1 13 5).toInt := i_add (by decide) rfl (by omega)
    have hpn : (38 + u.1 13 5 : Int32).toNatClampNeg = 38 + (u.1 13 5).toNatClampNeg := off_n (by decide) (by omega) (by decide)
    have ht := takeNew_sim (s := 2) (p0 := 38 + u.1 13 5) s1 (by decide) hpi (Or.inl (show (38 : Int) + (u.1 13 5).toInt < 44 by omega))
    rw [hpn] at ht
    generalize f_X10_takeNew_1_13 u = a at ht ⊢
    generalize f_X12_fresh_85 (f_X12_next_85 w) (38 + u.1 13 5) = b at ht hl
    rcases ht with ⟨t1, t2, t3, t4, t5, n, n1', n2, n3, n4⟩ | ⟨t1, t2, t3⟩
    · rw [t1, if_pos n1]
      rw [t2, if_pos n1] at hl
      rw [lineS_1 hl n1]
      have a13 : ∀ k, a.1.1 13 k = u.1 13 k := fun k => t4.1 13 k (by omega)
      have hNN := cp_names t3.1.2.2.2.2
      have ha : f_X2_addDeed_13 a.1 (a.1.2 1 7) = nmU a.1 (Int64.ofNat n) (2 : Int32) (cp 2) := by
        rw [n2]
        simp only [f_X2_addDeed_13, f_X2_addName_13, vl]
        rw [if_neg (by rw [a13] at *; omega)]
        rfl
      rw [ha, ← a13 5]
      have hS := upd_name (s := 2) (sv := (2 : Int32)) t3.1 (by decide) (by decide) (show (a.1.1 13 5).toInt < 6 by rw [a13]; exact q) n1' (show b.1.2 90 (38 + (a.1.1 13 5).toNatClampNeg) = _ by rw [a13]; exact n3) n4
      have hS2 := t3.mk2 hS (by unfold nmU; rfl) (by unfold nmU; rfl) rfl rfl
      have hS2 : S1 (nmU a.1 (Int64.ofNat n) (2 : Int32) (cp 2)) (pI b.1 88 5 (a.1.1 13 5 + 1)) := hS2
      have u13 : ∀ k, k ≠ 5 → k ≠ 8 → (nmU a.1 (Int64.ofNat n) (2 : Int32) (cp 2)).1 13 k = u.1 13 k := fun k k1 k2 => (nmU_13 k k1 k2).trans (a13 k)
      have u1c : (nmU a.1 (Int64.ofNat n) (2 : Int32) (cp 2)).1 13 5 = u.1 13 5 + 1 := by unfold nmU; rw [← a13]; exact pI_s
      have u22 : ∀ k, (nmU a.1 (Int64.ofNat n) (2 : Int32) (cp 2)).1 22 k = u.1 22 k := fun k => (show _ = a.1.1 22 k from by unfold nmU; rfl).trans (t4.1 22 k (by omega))
      generalize nmU a.1 (Int64.ofNat n) (2 : Int32) (cp 2) = U at *
      rcases takeSign_sim hS2 with ⟨k1, k2, k3, k4, k5⟩ | k
      · refine Or.inl ⟨k1, k2, k3, ?_, ?_, ?_⟩
        · rw [k4.1 22 3 (by omega), u22]
        · rw [k5.1 85 19 (by omega), pI_c (by decide), t5 85 19 (by omega), s2.1 85 19 (by omega)]
        · unfold tol
          rw [k4.1 13 1 (by omega), k4.1 13 2 (by omega), k4.1 13 3 (by omega), k4.1 13 4 (by omega), k4.1 13 5 (by omega), k4.1 13 6 (by omega), k4.1 13 7 (by omega), k4.1 22 4 (by omega), u13 1 (by decide) (by decide), u13 2 (by decide) (by decide), u13 3 (by decide) (by decide), u13 4 (by decide) (by decide), u1c, u13 6 (by decide) (by decide), u13 7 (by decide) (by decide), u22, inc_i (by omega)]
          omega
      · exact Or.inr k
    · rw [t1, if_neg n0]
      rw [t2, if_neg n0] at hl
      rw [lineS_0 hl t0i]
      exact Or.inr ⟨rfl, rfl, t3⟩
  · rw [if_neg q]
    rw [if_neg (by omega)] at hl
    rw [lineS_0 hl t0i]
    exact Or.inr ⟨rfl, rfl, ft_mk hbeg⟩

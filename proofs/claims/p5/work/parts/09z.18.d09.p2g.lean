/-! The levels of the class's reader, the last first. -/
theorem pe2 {α β : Type} (q : α × β) : (q.1, q.2) = q := rfl
theorem one_9 : OneOK 9 f_X9_readOne_51_d9 := by
  intro u w w0 σ p hp h
  have hT := h.1.1.2.2.2
  have hM := ms_O h
  obtain ⟨s1, s2, s3, s4, s5, s6⟩ := h
  have o20 := s1.2.1.2.2
  by_cases hnv : ¬ ((u.1 1 6).toInt = 40 ∨ (116 ≤ (u.1 1 6).toInt ∧ (u.1 1 6).toInt ≤ 126))
  · have e : f_X9_readOne_51_d9 u p = f_X10_fail_1 u (1 : Int32) := by
      simp only [f_X9_readOne_51_d9, K_X9_readOne_51_d9_26, bd, pe2]
      rw [if_neg (by omega)]
      by_cases q : (u.1 1 6).toInt < 116
      · rw [if_pos q]
      · rw [if_neg q, if_neg (by omega)]
    rw [e]
    exact Or.inr ⟨rfl, fl_op s3 (op_bad hT (by omega)) (by omega) (fail_Ft hT)⟩
  have hv : (u.1 1 6).toInt = 40 ∨ (116 ≤ (u.1 1 6).toInt ∧ (u.1 1 6).toInt ≤ 126) := Classical.not_not.mp hnv
  have hK : ∀ x, K_X9_readOne_51_d9_35 u p u x = f_X10_fail_1 u (4 : Int32) := fun x => by
    simp only [K_X9_readOne_51_d9_35, K_X9_readOne_51_d9_53, bd, pe2]
    by_cases q : (20 : Int) ≤ (u.1 47 4).toInt
    · rw [if_pos q]
    · rw [if_neg q, if_neg (show ¬ p.toInt ≤ 8 by omega)]
  have e : f_X9_readOne_51_d9 u p = f_X10_fail_1 u (4 : Int32) := by
    simp only [f_X9_readOne_51_d9, hK]
    by_cases q : (u.1 1 6).toInt = 40
    · rw [if_pos q]
    · rw [if_neg q, if_neg (by omega), if_pos (by omega)]
  rw [e]
  exact Or.inr ⟨rfl, fl_op s3 (op_many hT hv (Or.inr (by omega))) (by omega) (fail_Ft hT)⟩
theorem cond_9 : CondOK 9 f_X9_readCond_51_d9 := by
  intro u w w0 σ p hp h h0 h1 h2
  have hq := one_9 u w w0 σ p hp h
  have eB : f_X9_readBoth_51_d9 u p = ((f_X9_readOne_51_d9 u p).1, 0) := by
    show (if (f_X9_readOne_51_d9 u p).2.toInt ≠ 0 then ((f_X9_readOne_51_d9 u p).1, (0 : Int32)) else ((f_X9_readOne_51_d9 u p).1, (0 : Int32))) = _
    split
    · rfl
    · rfl
  have eC : f_X9_readCond_51_d9 u p = ((f_X9_readBoth_51_d9 u p).1, 0) := by
    show (if (f_X9_readBoth_51_d9 u p).2.toInt ≠ 0 then ((f_X9_readBoth_51_d9 u p).1, (0 : Int32)) else ((f_X9_readBoth_51_d9 u p).1, (0 : Int32))) = _
    split
    · rfl
    · rfl
  rw [eC, eB]
  generalize f_X9_readOne_51_d9 u p = q at hq ⊢
  rcases hq with ⟨b1, b2, -⟩ | ⟨b1, b2⟩
  · omega
  · exact Or.inr ⟨rfl, b2⟩
theorem brk_8 : BrkOK 8 f_X9_readBracket_51_d8 := by
  intro u w w0 σ p hp hos
  have hp1 : (p + 1).toInt = ((9 : Nat) : Int) := by rw [inc_i (by omega)]; omega
  have h := cond_9 (f_X10_readNext_1 u) w w0 (23 :: σ) (p + 1) hp1 hos (by simp) (by simp) (by simp)
  simp only [f_X9_readBracket_51_d8, vl, bd]
  generalize f_X9_readCond_51_d9 (f_X10_readNext_1 u) (p + 1) = q at h ⊢
  rcases h with ⟨h1, h2, -⟩ | ⟨h1, h2⟩
  · omega
  · rw [h1, if_neg n0]
    exact Or.inr ⟨rfl, h2⟩
theorem not_8 : NotOK 8 f_X9_readNot_51_d8 := by
  have e : f_X9_readNot_51_d8 = not8 f_X9_readOne_51_d9 := by
    funext u p
    simp only [f_X9_readNot_51_d8, not8, vl, bd]
  rw [e]
  exact not_ok8 one_9
theorem one_8 : OneOK 8 f_X9_readOne_51_d8 := by
  have e : f_X9_readOne_51_d8 = oneB f_X9_readNot_51_d8 f_X9_readBracket_51_d8 := by
    funext u p
    simp only [f_X9_readOne_51_d8, K_X9_readOne_51_d8_35, K_X9_readOne_51_d8_53, K_X9_readOne_51_d8_26, oneB, oneX, vl, bd, pe2]
  rw [e]
  exact one_ok (by decide) not_8 brk_8
theorem bK_8 (u0 : ac_U) (p : Int32) : ∀ (n : Nat) (u : ac_U) (x : Int32), K_X9_readBoth_51_d8_12 u0 p n u x = bothK f_X9_readOne_51_d8 p n u x := by
  intro n
  induction n with
  | zero => exact fun _ _ => rfl
  | succ n ih =>
    intro u x
    show K_X9_readBoth_51_d8_12_b (K_X9_readBoth_51_d8_12 u0 p n) u0 p u x = _
    simp only [K_X9_readBoth_51_d8_12_b, K_X9_readBoth_51_d8_64, vl, bd, ih]
    rfl
theorem both_8 : BothOK 8 f_X9_readBoth_51_d8 := by
  have e : f_X9_readBoth_51_d8 = bothB f_X9_readOne_51_d8 := by
    funext u p
    simp only [f_X9_readBoth_51_d8, bothB, bd, bK_8]
  rw [e]
  exact both_ok (by decide) one_8
theorem cK_8 (u0 : ac_U) (p : Int32) : ∀ (n : Nat) (u : ac_U) (x : Int32), K_X9_readCond_51_d8_12 u0 p n u x = condK f_X9_readBoth_51_d8 p n u x := by
  intro n
  induction n with
  | zero => exact fun _ _ => rfl
  | succ n ih =>
    intro u x
    show K_X9_readCond_51_d8_12_b (K_X9_readCond_51_d8_12 u0 p n) u0 p u x = _
    simp only [K_X9_readCond_51_d8_12_b, K_X9_readCond_51_d8_64, vl, bd, ih]
    rfl
theorem cond_8 : CondOK 8 f_X9_readCond_51_d8 := by
  have e : f_X9_readCond_51_d8 = condB f_X9_readBoth_51_d8 := by
    funext u p
    simp only [f_X9_readCond_51_d8, condB, bd, cK_8]
  rw [e]
  exact cond_ok (by decide) both_8
theorem not_7 : NotOK 7 f_X9_readNot_51_d7 := by
  have e : f_X9_readNot_51_d7 = notB f_X9_readOne_51_d8 := by
    funext u p
    simp only [f_X9_readNot_51_d7, notB, vl, bd]
  rw [e]
  exact not_ok (by decide) one_8
theorem brk_7 : BrkOK 7 f_X9_readBracket_51_d7 := by
  have e : f_X9_readBracket_51_d7 = brkB f_X9_readCond_51_d8 := by
    funext u p
    simp only [f_X9_readBracket_51_d7, brkB, vl, bd, pe2]
  rw [e]
  exact brk_ok (by decide) cond_8
theorem one_7 : OneOK 7 f_X9_readOne_51_d7 := by
  have e : f_X9_readOne_51_d7 = oneB f_X9_readNot_51_d7 f_X9_readBracket_51_d7 := by
    funext u p
    simp only [f_X9_readOne_51_d7, K_X9_readOne_51_d7_35, K_X9_readOne_51_d7_53, K_X9_readOne_51_d7_26, oneB, oneX, vl, bd, pe2]
  rw [e]
  exact one_ok (by decide) not_7 brk_7
theorem bK_7 (u0 : ac_U) (p : Int32) : ∀ (n : Nat) (u : ac_U) (x : Int32), K_X9_readBoth_51_d7_12 u0 p n u x = bothK f_X9_readOne_51_d7 p n u x := by
  intro n
  induction n with
  | zero => exact fun _ _ => rfl
  | succ n ih =>
    intro u x
    show K_X9_readBoth_51_d7_12_b (K_X9_readBoth_51_d7_12 u0 p n) u0 p u x = _
    simp only [K_X9_readBoth_51_d7_12_b, K_X9_readBoth_51_d7_64, vl, bd, ih]
    rfl
theorem both_7 : BothOK 7 f_X9_readBoth_51_d7 := by
  have e : f_X9_readBoth_51_d7 = bothB f_X9_readOne_51_d7 := by
    funext u p
    simp only [f_X9_readBoth_51_d7, bothB, bd, bK_7]
  rw [e]
  exact both_ok (by decide) one_7
theorem cK_7 (u0 : ac_U) (p : Int32) : ∀ (n : Nat) (u : ac_U) (x : Int32), K_X9_readCond_51_d7_12 u0 p n u x = condK f_X9_readBoth_51_d7 p n u x := by
  intro n
  induction n with
  | zero => exact fun _ _ => rfl
  | succ n ih =>
    intro u x
    show K_X9_readCond_51_d7_12_b (K_X9_readCond_51_d7_12 u0 p n) u0 p u x = _
    simp only [K_X9_readCond_51_d7_12_b, K_X9_readCond_51_d7_64, vl, bd, ih]
    rfl
theorem cond_7 : CondOK 7 f_X9_readCond_51_d7 := by
  have e : f_X9_readCond_51_d7 = condB f_X9_readBoth_51_d7 := by
    funext u p
    simp only [f_X9_readCond_51_d7, condB, bd, cK_7]
  rw [e]
  exact cond_ok (by decide) both_7
theorem not_6 : NotOK 6 f_X9_readNot_51_d6 := by
  have e : f_X9_readNot_51_d6 = notB f_X9_readOne_51_d7 := by
    funext u p
    simp only [f_X9_readNot_51_d6, notB, vl, bd]
  rw [e]
  exact not_ok (by decide) one_7
theorem brk_6 : BrkOK 6 f_X9_readBracket_51_d6 := by
  have e : f_X9_readBracket_51_d6 = brkB f_X9_readCond_51_d7 := by
    funext u p
    simp only [f_X9_readBracket_51_d6, brkB, vl, bd, pe2]
  rw [e]
  exact brk_ok (by decide) cond_7
theorem one_6 : OneOK 6 f_X9_readOne_51_d6 := by
  have e : f_X9_readOne_51_d6 = oneB f_X9_readNot_51_d6 f_X9_readBracket_51_d6 := by
    funext u p
    simp only [f_X9_readOne_51_d6, K_X9_readOne_51_d6_35, K_X9_readOne_51_d6_53, K_X9_readOne_51_d6_26, oneB, oneX, vl, bd, pe2]
  rw [e]
  exact one_ok (by decide) not_6 brk_6
theorem bK_6 (u0 : ac_U) (p : Int32) : ∀ (n : Nat) (u : ac_U) (x : Int32), K_X9_readBoth_51_d6_12 u0 p n u x = bothK f_X9_readOne_51_d6 p n u x := by
  intro n
  induction n with
  | zero => exact fun _ _ => rfl
  | succ n ih =>
    intro u x
    show K_X9_readBoth_51_d6_12_b (K_X9_readBoth_51_d6_12 u0 p n) u0 p u x = _
    simp only [K_X9_readBoth_51_d6_12_b, K_X9_readBoth_51_d6_64, vl, bd, ih]
    rfl
theorem both_6 : BothOK 6 f_X9_readBoth_51_d6 := by
  have e : f_X9_readBoth_51_d6 = bothB f_X9_readOne_51_d6 := by
    funext u p
    simp only [f_X9_readBoth_51_d6, bothB, bd, bK_6]
  rw [e]
  exact both_ok (by decide) one_6
theorem cK_6 (u0 : ac_U) (p : Int32) : ∀ (n : Nat) (u : ac_U) (x : Int32), K_X9_readCond_51_d6_12 u0 p n u x = condK f_X9_readBoth_51_d6 p n u x := by
  intro n
  induction n with
  | zero => exact fun _ _ => rfl
  | succ n ih =>
    intro u x
    show K_X9_readCond_51_d6_12_b (K_X9_readCond_51_d6_12 u0 p n) u0 p u x = _
    simp only [K_X9_readCond_51_d6_12_b, K_X9_readCond_51_d6_64, vl, bd, ih]
    rfl
theorem cond_6 : CondOK 6 f_X9_readCond_51_d6 := by
  have e : f_X9_readCond_51_d6 = condB f_X9_readBoth_51_d6 := by
    funext u p
    simp only [f_X9_readCond_51_d6, condB, bd, cK_6]
  rw [e]
  exact cond_ok (by decide) both_6
theorem not_5 : NotOK 5 f_X9_readNot_51_d5 := by
  have e : f_X9_readNot_51_d5 = notB f_X9_readOne_51_d6 := by
    funext u p
    simp only [f_X9_readNot_51_d5, notB, vl, bd]
  rw [e]
  exact not_ok (by decide) one_6
theorem brk_5 : BrkOK 5 f_X9_readBracket_51_d5 := by
  have e : f_X9_readBracket_51_d5 = brkB f_X9_readCond_51_d6 := by
    funext u p
    simp only [f_X9_readBracket_51_d5, brkB, vl, bd, pe2]
  rw [e]
  exact brk_ok (by decide) cond_6
theorem one_5 : OneOK 5 f_X9_readOne_51_d5 := by
  have e : f_X9_readOne_51_d5 = oneB f_X9_readNot_51_d5 f_X9_readBracket_51_d5 := by
    funext u p
    simp only [f_X9_readOne_51_d5, K_X9_readOne_51_d5_35, K_X9_readOne_51_d5_53, K_X9_readOne_51_d5_26, oneB, oneX, vl, bd, pe2]
  rw [e]
  exact one_ok (by decide) not_5 brk_5
theorem bK_5 (u0 : ac_U) (p : Int32) : ∀ (n : Nat) (u : ac_U) (x : Int32), K_X9_readBoth_51_d5_12 u0 p n u x = bothK f_X9_readOne_51_d5 p n u x := by
  intro n
  induction n with
  | zero => exact fun _ _ => rfl
  | succ n ih =>
    intro u x
    show K_X9_readBoth_51_d5_12_b (K_X9_readBoth_51_d5_12 u0 p n) u0 p u x = _
    simp only [K_X9_readBoth_51_d5_12_b, K_X9_readBoth_51_d5_64, vl, bd, ih]
    rfl
theorem both_5 : BothOK 5 f_X9_readBoth_51_d5 := by
  have e : f_X9_readBoth_51_d5 = bothB f_X9_readOne_51_d5 := by
    funext u p
    simp only [f_X9_readBoth_51_d5, bothB, bd, bK_5]
  rw [e]
  exact both_ok (by decide) one_5
theorem cK_5 (u0 : ac_U) (p : Int32) : ∀ (n : Nat) (u : ac_U) (x : Int32), K_X9_readCond_51_d5_12 u0 p n u x = condK f_X9_readBoth_51_d5 p n u x := by
  intro n
  induction n with
  | zero => exact fun _ _ => rfl
  | succ n ih =>
    intro u x
    show K_X9_readCond_51_d5_12_b (K_X9_readCond_51_d5_12 u0 p n) u0 p u x = _
    simp only [K_X9_readCond_51_d5_12_b, K_X9_readCond_51_d5_64, vl, bd, ih]
    rfl
theorem cond_5 : CondOK 5 f_X9_readCond_51_d5 := by
  have e : f_X9_readCond_51_d5 = condB f_X9_readBoth_51_d5 := by
    funext u p
    simp only [f_X9_readCond_51_d5, condB, bd, cK_5]
  rw [e]
  exact cond_ok (by decide) both_5
theorem not_4 : NotOK 4 f_X9_readNot_51_d4 := by
  have e : f_X9_readNot_51_d4 = notB f_X9_readOne_51_d5 := by
    funext u p
    simp only [f_X9_readNot_51_d4, notB, vl, bd]
  rw [e]
  exact not_ok (by decide) one_5
theorem brk_4 : BrkOK 4 f_X9_readBracket_51_d4 := by
  have e : f_X9_readBracket_51_d4 = brkB f_X9_readCond_51_d5 := by
    funext u p
    simp only [f_X9_readBracket_51_d4, brkB, vl, bd, pe2]
  rw [e]
  exact brk_ok (by decide) cond_5
theorem one_4 : OneOK 4 f_X9_readOne_51_d4 := by
  have e : f_X9_readOne_51_d4 = oneB f_X9_readNot_51_d4 f_X9_readBracket_51_d4 := by
    funext u p
    simp only [f_X9_readOne_51_d4, K_X9_readOne_51_d4_35, K_X9_readOne_51_d4_53, K_X9_readOne_51_d4_26, oneB, oneX, vl, bd, pe2]
  rw [e]
  exact one_ok (by decide) not_4 brk_4
theorem bK_4 (u0 : ac_U) (p : Int32) : ∀ (n : Nat) (u : ac_U) (x : Int32), K_X9_readBoth_51_d4_12 u0 p n u x = bothK f_X9_readOne_51_d4 p n u x := by
  intro n
  induction n with
  | zero => exact fun _ _ => rfl
  | succ n ih =>
    intro u x
    show K_X9_readBoth_51_d4_12_b (K_X9_readBoth_51_d4_12 u0 p n) u0 p u x = _
    simp only [K_X9_readBoth_51_d4_12_b, K_X9_readBoth_51_d4_64, vl, bd, ih]
    rfl
theorem both_4 : BothOK 4 f_X9_readBoth_51_d4 := by
  have e : f_X9_readBoth_51_d4 = bothB f_X9_readOne_51_d4 := by
    funext u p
    simp only [f_X9_readBoth_51_d4, bothB, bd, bK_4]
  rw [e]
  exact both_ok (by decide) one_4
theorem cK_4 (u0 : ac_U) (p : Int32) : ∀ (n : Nat) (u : ac_U) (x : Int32), K_X9_readCond_51_d4_12 u0 p n u x = condK f_X9_readBoth_51_d4 p n u x := by
  intro n
  induction n with
  | zero => exact fun _ _ => rfl
  | succ n ih =>
    intro u x
    show K_X9_readCond_51_d4_12_b (K_X9_readCond_51_d4_12 u0 p n) u0 p u x = _
    simp only [K_X9_readCond_51_d4_12_b, K_X9_readCond_51_d4_64, vl, bd, ih]
    rfl
theorem cond_4 : CondOK 4 f_X9_readCond_51_d4 := by
  have e : f_X9_readCond_51_d4 = condB f_X9_readBoth_51_d4 := by
    funext u p
    simp only [f_X9_readCond_51_d4, condB, bd, cK_4]
  rw [e]
  exact cond_ok (by decide) both_4
theorem not_3 : NotOK 3 f_X9_readNot_51_d3 := by
  have e : f_X9_readNot_51_d3 = notB f_X9_readOne_51_d4 := by
    funext u p
    simp only [f_X9_readNot_51_d3, notB, vl, bd]
  rw [e]
  exact not_ok (by decide) one_4
theorem brk_3 : BrkOK 3 f_X9_readBracket_51_d3 := by
  have e : f_X9_readBracket_51_d3 = brkB f_X9_readCond_51_d4 := by
    funext u p
    simp only [f_X9_readBracket_51_d3, brkB, vl, bd, pe2]
  rw [e]
  exact brk_ok (by decide) cond_4
theorem one_3 : OneOK 3 f_X9_readOne_51_d3 := by
  have e : f_X9_readOne_51_d3 = oneB f_X9_readNot_51_d3 f_X9_readBracket_51_d3 := by
    funext u p
    simp only [f_X9_readOne_51_d3, K_X9_readOne_51_d3_35, K_X9_readOne_51_d3_53, K_X9_readOne_51_d3_26, oneB, oneX, vl, bd, pe2]
  rw [e]
  exact one_ok (by decide) not_3 brk_3
theorem bK_3 (u0 : ac_U) (p : Int32) : ∀ (n : Nat) (u : ac_U) (x : Int32), K_X9_readBoth_51_d3_12 u0 p n u x = bothK f_X9_readOne_51_d3 p n u x := by
  intro n
  induction n with
  | zero => exact fun _ _ => rfl
  | succ n ih =>
    intro u x
    show K_X9_readBoth_51_d3_12_b (K_X9_readBoth_51_d3_12 u0 p n) u0 p u x = _
    simp only [K_X9_readBoth_51_d3_12_b, K_X9_readBoth_51_d3_64, vl, bd, ih]
    rfl
theorem both_3 : BothOK 3 f_X9_readBoth_51_d3 := by
  have e : f_X9_readBoth_51_d3 = bothB f_X9_readOne_51_d3 := by
    funext u p
    simp only [f_X9_readBoth_51_d3, bothB, bd, bK_3]
  rw [e]
  exact both_ok (by decide) one_3
theorem cK_3 (u0 : ac_U) (p : Int32) : ∀ (n : Nat) (u : ac_U) (x : Int32), K_X9_readCond_51_d3_12 u0 p n u x = condK f_X9_readBoth_51_d3 p n u x := by
  intro n
  induction n with
  | zero => exact fun _ _ => rfl
  | succ n ih =>
    intro u x
    show K_X9_readCond_51_d3_12_b (K_X9_readCond_51_d3_12 u0 p n) u0 p u x = _
    simp only [K_X9_readCond_51_d3_12_b, K_X9_readCond_51_d3_64, vl, bd, ih]
    rfl
theorem cond_3 : CondOK 3 f_X9_readCond_51_d3 := by
  have e : f_X9_readCond_51_d3 = condB f_X9_readBoth_51_d3 := by
    funext u p
    simp only [f_X9_readCond_51_d3, condB, bd, cK_3]
  rw [e]
  exact cond_ok (by decide) both_3
theorem not_2 : NotOK 2 f_X9_readNot_51_d2 := by
  have e : f_X9_readNot_51_d2 = notB f_X9_readOne_51_d3 := by
    funext u p
    simp only [f_X9_readNot_51_d2, notB, vl, bd]
  rw [e]
  exact not_ok (by decide) one_3
theorem brk_2 : BrkOK 2 f_X9_readBracket_51_d2 := by
  have e : f_X9_readBracket_51_d2 = brkB f_X9_readCond_51_d3 := by
    funext u p
    simp only [f_X9_readBracket_51_d2, brkB, vl, bd, pe2]
  rw [e]
  exact brk_ok (by decide) cond_3
theorem one_2 : OneOK 2 f_X9_readOne_51_d2 := by
  have e : f_X9_readOne_51_d2 = oneB f_X9_readNot_51_d2 f_X9_readBracket_51_d2 := by
    funext u p
    simp only [f_X9_readOne_51_d2, K_X9_readOne_51_d2_35, K_X9_readOne_51_d2_53, K_X9_readOne_51_d2_26, oneB, oneX, vl, bd, pe2]
  rw [e]
  exact one_ok (by decide) not_2 brk_2
theorem bK_2 (u0 : ac_U) (p : Int32) : ∀ (n : Nat) (u : ac_U) (x : Int32), K_X9_readBoth_51_d2_12 u0 p n u x = bothK f_X9_readOne_51_d2 p n u x := by
  intro n
  induction n with
  | zero => exact fun _ _ => rfl
  | succ n ih =>
    intro u x
    show K_X9_readBoth_51_d2_12_b (K_X9_readBoth_51_d2_12 u0 p n) u0 p u x = _
    simp only [K_X9_readBoth_51_d2_12_b, K_X9_readBoth_51_d2_64, vl, bd, ih]
    rfl
theorem both_2 : BothOK 2 f_X9_readBoth_51_d2 := by
  have e : f_X9_readBoth_51_d2 = bothB f_X9_readOne_51_d2 := by
    funext u p
    simp only [f_X9_readBoth_51_d2, bothB, bd, bK_2]
  rw [e]
  exact both_ok (by decide) one_2
theorem cK_2 (u0 : ac_U) (p : Int32) : ∀ (n : Nat) (u : ac_U) (x : Int32), K_X9_readCond_51_d2_12 u0 p n u x = condK f_X9_readBoth_51_d2 p n u x := by
  intro n
  induction n with
  | zero => exact fun _ _ => rfl
  | succ n ih =>
    intro u x
    show K_X9_readCond_51_d2_12_b (K_X9_readCond_51_d2_12 u0 p n) u0 p u x = _
    simp only [K_X9_readCond_51_d2_12_b, K_X9_readCond_51_d2_64, vl, bd, ih]
    rfl
theorem cond_2 : CondOK 2 f_X9_readCond_51_d2 := by
  have e : f_X9_readCond_51_d2 = condB f_X9_readBoth_51_d2 := by
    funext u p
    simp only [f_X9_readCond_51_d2, condB, bd, cK_2]
  rw [e]
  exact cond_ok (by decide) both_2
theorem not_1 : NotOK 1 f_X9_readNot_51_d1 := by
  have e : f_X9_readNot_51_d1 = notB f_X9_readOne_51_d2 := by
    funext u p
    simp only [f_X9_readNot_51_d1, notB, vl, bd]
  rw [e]
  exact not_ok (by decide) one_2
theorem brk_1 : BrkOK 1 f_X9_readBracket_51_d1 := by
  have e : f_X9_readBracket_51_d1 = brkB f_X9_readCond_51_d2 := by
    funext u p
    simp only [f_X9_readBracket_51_d1, brkB, vl, bd, pe2]
  rw [e]
  exact brk_ok (by decide) cond_2
theorem one_1 : OneOK 1 f_X9_readOne_51_d1 := by
  have e : f_X9_readOne_51_d1 = oneB f_X9_readNot_51_d1 f_X9_readBracket_51_d1 := by
    funext u p
    simp only [f_X9_readOne_51_d1, K_X9_readOne_51_d1_35, K_X9_readOne_51_d1_53, K_X9_readOne_51_d1_26, oneB, oneX, vl, bd, pe2]
  rw [e]
  exact one_ok (by decide) not_1 brk_1
theorem bK_1 (u0 : ac_U) (p : Int32) : ∀ (n : Nat) (u : ac_U) (x : Int32), K_X9_readBoth_51_d1_12 u0 p n u x = bothK f_X9_readOne_51_d1 p n u x := by
  intro n
  induction n with
  | zero => exact fun _ _ => rfl
  | succ n ih =>
    intro u x
    show K_X9_readBoth_51_d1_12_b (K_X9_readBoth_51_d1_12 u0 p n) u0 p u x = _
    simp only [K_X9_readBoth_51_d1_12_b, K_X9_readBoth_51_d1_64, vl, bd, ih]
    rfl
theorem both_1 : BothOK 1 f_X9_readBoth_51_d1 := by
  have e : f_X9_readBoth_51_d1 = bothB f_X9_readOne_51_d1 := by
    funext u p
    simp only [f_X9_readBoth_51_d1, bothB, bd, bK_1]
  rw [e]
  exact both_ok (by decide) one_1
theorem cK_1 (u0 : ac_U) (p : Int32) : ∀ (n : Nat) (u : ac_U) (x : Int32), K_X9_readCond_51_d1_12 u0 p n u x = condK f_X9_readBoth_51_d1 p n u x := by
  intro n
  induction n with
  | zero => exact fun _ _ => rfl
  | succ n ih =>
    intro u x
    show K_X9_readCond_51_d1_12_b (K_X9_readCond_51_d1_12 u0 p n) u0 p u x = _
    simp only [K_X9_readCond_51_d1_12_b, K_X9_readCond_51_d1_64, vl, bd, ih]
    rfl
theorem cond_1 : CondOK 1 f_X9_readCond_51_d1 := by
  have e : f_X9_readCond_51_d1 = condB f_X9_readBoth_51_d1 := by
    funext u p
    simp only [f_X9_readCond_51_d1, condB, bd, cK_1]
  rw [e]
  exact cond_ok (by decide) both_1

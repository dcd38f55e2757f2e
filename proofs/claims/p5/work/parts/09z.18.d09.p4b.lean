/-! A line of a daybook, read by both. -/
theorem T0.c {u w u' w' : ac_U} (h : T0 u w) (c1 : u'.1 1 = u.1 1) (c2 : u'.1 2 = u.1 2) (c4 : u'.1 4 = u.1 4) (c11 : u'.1 11 = u.1 11) (c12 : u'.1 12 = u.1 12) (l : u'.2 = u.2) (r85 : ∀ k, k ≤ 18 → w'.1 85 k = w.1 85 k) (r86 : w'.1 86 = w.1 86) (r87 : w'.1 87 = w.1 87) (rl : w'.2 = w.2) : T0 u' w' := by
  obtain ⟨⟨h1, h2, h3, h4, h5, h6⟩, h7, h8⟩ := h
  refine ⟨⟨?_, ?_, h3, h4, ?_, ?_⟩, ?_, ?_⟩
  · unfold InE; rw [c1, c2, r85 3 (by decide), r85 5 (by decide), r85 15 (by decide), r86]; exact h1
  · unfold InR; rw [c1, c2]; exact h2
  · exact h5.to c4 (by rw [l]) c11 c12 (by rw [rl])
  · intro s hs; rw [c4, r87]; exact h6 s hs
  · unfold At; rw [c1, r85 4 (by decide)]; exact h7
  · unfold Tk Wd; rw [c1, l, rl, r85 12 (by decide), r85 11 (by decide), r85 14 (by decide)]; exact h8
theorem T1.c {u w u' w' : ac_U} (h : T1 u w) (c1 : ∀ k, k ≠ 9 → u'.1 1 k = u.1 1 k) (c2 : u'.1 2 = u.1 2) (c4 : u'.1 4 = u.1 4) (c11 : u'.1 11 = u.1 11) (c12 : u'.1 12 = u.1 12) (l : u'.2 = u.2) (r85 : ∀ k, k ≤ 15 → w'.1 85 k = w.1 85 k) (r86 : w'.1 86 = w.1 86) (r87 : w'.1 87 = w.1 87) (rl : w'.2 = w.2) : T1 u' w' := by
  obtain ⟨⟨h1, h2, h3, h4, h5, h6⟩, wp, ⟨i1, i2, i3⟩, h8, h9⟩ := h
  refine ⟨⟨?_, ?_, h3, h4, ?_, ?_⟩, wp, ⟨?_, ?_, ?_⟩, fun k hk => ?_, ?_⟩
  · unfold InE; rw [c1 2 (by decide), c1 3 (by decide), c1 10 (by decide), c2, r85 3 (by decide), r85 5 (by decide), r85 15 (by decide), r86]; exact h1
  · unfold InR; rw [c1 2 (by decide), c2]; exact h2
  · exact h5.to c4 (by rw [l]) c11 c12 (by rw [rl])
  · intro s hs; rw [c4, r87]; exact h6 s hs
  · unfold InE; rw [c1 2 (by decide), c1 3 (by decide), c1 10 (by decide), c2]; exact i1
  · unfold InR; rw [c1 2 (by decide), c2]; exact i2
  · unfold At; rw [c1 4 (by decide)]; exact i3
  · rw [r85 k (by omega)]; exact h8 k hk
  · rw [rl]; exact h9
def bookS (w : ac_U) : ac_U × Int32 := if (f_X12_bookLine_85 w).2.toInt = 0 then ((f_X12_bookLine_85 w).1, 0) else f_X12_sign_85 (f_X12_bookLine_85 w).1 (59 : Int32)
theorem bookS_0 {w w1 : ac_U} {r1 : Int32} (h : f_X12_bookLine_85 w = (w1, r1)) (h1 : r1.toInt = 0) : bookS w = (w1, 0) := by
  unfold bookS
  rw [h]
  exact if_pos h1
theorem bookS_1 {w w1 : ac_U} {r1 : Int32} (h : f_X12_bookLine_85 w = (w1, r1)) (h1 : r1.toInt ≠ 0) : bookS w = f_X12_sign_85 w1 (59 : Int32) := by
  unfold bookS
  rw [h]
  exact if_neg h1
theorem wd_k {u w : ac_U} (hT : Tk u w) : ((u.1 1 6).toInt = 110 → f_X12_isWord_85 w (1735353715 : Int64) = 1) ∧ ((u.1 1 6).toInt ≠ 110 → f_X12_isWord_85 w (1735353715 : Int64) = 0) ∧ ((u.1 1 6).toInt = 111 → f_X12_isWord_85 w (1685022067 : Int64) = 1) ∧ ((u.1 1 6).toInt ≠ 111 → f_X12_isWord_85 w (1685022067 : Int64) = 0) ∧ ((u.1 1 6).toInt = 112 → f_X12_isWord_85 w (1935767923 : Int64) = 1) ∧ ((u.1 1 6).toInt ≠ 112 → f_X12_isWord_85 w (1935767923 : Int64) = 0) ∧ ((u.1 1 6).toInt = 113 → f_X12_isWord_85 w (1752135026 : Int64) = 1) ∧ ((u.1 1 6).toInt ≠ 113 → f_X12_isWord_85 w (1752135026 : Int64) = 0) := by
  have e0 : (1735353715 : Int64) = Int64.ofNat (ph 8 (toldN 10)) := by decide +kernel
  have e1 : (1685022067 : Int64) = Int64.ofNat (ph 8 (toldN 11)) := by decide +kernel
  have e2 : (1935767923 : Int64) = Int64.ofNat (ph 8 (toldN 12)) := by decide +kernel
  have e3 : (1752135026 : Int64) = Int64.ofNat (ph 8 (toldN 13)) := by decide +kernel
  rw [e0, e1, e2, e3]
  exact ⟨fun h => (isWord_k hT 10 (by decide)).1 (by omega), fun h => (isWord_k hT 10 (by decide)).2 (by omega), fun h => (isWord_k hT 11 (by decide)).1 (by omega), fun h => (isWord_k hT 11 (by decide)).2 (by omega), fun h => (isWord_k hT 12 (by decide)).1 (by omega), fun h => (isWord_k hT 12 (by decide)).2 (by omega), fun h => (isWord_k hT 13 (by decide)).1 (by omega), fun h => (isWord_k hT 13 (by decide)).2 (by omega)⟩
def DyP (u w u' w' : ac_U) : Prop := T1 u' w' ∧ u'.1 39 6 = u.1 39 6 ∧ w'.1 85 35 = w.1 85 35 ∧ (u.1 39 6).toInt < 40
/-- the end of a line -/
theorem day_sign {u w u0 w0 uL : ac_U} (h : T1 u w) (e1 : u.1 39 6 = u0.1 39 6) (e2 : w.1 85 35 = w0.1 85 35) (hq : (u0.1 39 6).toInt < 40) : Tw (K_X0_readLine_39_102 uL u) (f_X12_sign_85 w (59 : Int32)) (DyP u0 w0) := by
  have hs := takeSignT_sim h
  have f1 := q_X10_takeSign_1 u (59 : Int32) 39 6 rfl
  have f2 := q_X12_sign_85 w (59 : Int32) 85 35 rfl
  simp only [K_X0_readLine_39_102, K_X0_readLine_39_118, bd]
  generalize f_X10_takeSign_1 u (59 : Int32) = a at hs f1 ⊢
  generalize f_X12_sign_85 w (59 : Int32) = b at hs f2 ⊢
  rcases hs with ⟨s1, s2, s3, s4, s5⟩ | ⟨s1, s2, s3⟩
  · rw [s1, if_neg n1']
    exact Or.inl ⟨rfl, s2, s3, f1.trans e1, f2.trans e2, hq⟩
  · rw [s1, if_pos t0i]
    exact Or.inr ⟨rfl, s2, s3⟩
theorem day_hour {u w uL : ac_U} (h : T0 u w) (hk : u.1 39 6 = w.1 85 35) (h40 : 0 ≤ (u.1 39 6).toInt ∧ (u.1 39 6).toInt ≤ 40) (ht : (u.1 1 6).toInt = 113) : Tw (K_X0_readLine_39_39 uL u (1 : Int32)) (bookS w) (DyP u w) := by
  have hw := wd_k h.2.2
  have hb : f_X12_bookLine_85 w = if (w.1 85 35).toInt ≠ 40 then (if (f_X12_takes_85 (f_X12_next_85 w) (1 : Int32) (99 : Int32)).2.toInt ≠ 0 then (pI (pI (f_X12_takes_85 (f_X12_next_85 w) (1 : Int32) (99 : Int32)).1 89 ((3 : Int32) * w.1 85 35).toNatClampNeg (3 : Int32)) 89 ((3 : Int32) * w.1 85 35 + 1).toNatClampNeg ((f_X12_takes_85 (f_X12_next_85 w) (1 : Int32) (99 : Int32)).1.1 85 18), 1) else ((f_X12_takes_85 (f_X12_next_85 w) (1 : Int32) (99 : Int32)).1, 0)) else f_X12_bad_85 w (4 : Int32) := by
    simp only [f_X12_bookLine_85, vl, bd, pe2]
    rw [hw.2.2.2.2.2.2.1 ht, if_neg n1']
  have hcl : K_X0_readLine_39_39 uL u (1 : Int32) = if (u.1 39 6).toInt < 40 then (if (f_X10_takeNumber_1 (pI (pI u 40 (u.1 39 6).toNatClampNeg (-1 : Int32)) 41 (u.1 39 6).toNatClampNeg (113 : Int32)) (1 : Int32) (99 : Int32)).2.toInt ≠ 0 then K_X0_readLine_39_102 uL (pI (f_X10_takeNumber_1 (pI (pI u 40 (u.1 39 6).toNatClampNeg (-1 : Int32)) 41 (u.1 39 6).toNatClampNeg (113 : Int32)) (1 : Int32) (99 : Int32)).1 42 (u.1 39 6).toNatClampNeg ((f_X10_takeNumber_1 (pI (pI u 40 (u.1 39 6).toNatClampNeg (-1 : Int32)) 41 (u.1 39 6).toNatClampNeg (113 : Int32)) (1 : Int32) (99 : Int32)).1.1 1 8)) else ((f_X10_takeNumber_1 (pI (pI u 40 (u.1 39 6).toNatClampNeg (-1 : Int32)) 41 (u.1 39 6).toNatClampNeg (113 : Int32)) (1 : Int32) (99 : Int32)).1, 0)) else f_X10_fail_1 u (4 : Int32) := by
    have e39 : (pI u 40 (u.1 39 6).toNatClampNeg (-1 : Int32)).1 39 6 = u.1 39 6 := pI_c (by decide)
    simp only [K_X0_readLine_39_39, K_X0_readLine_39_118, f_X0_readHour_39, bd, pe2]
    rw [if_neg n1', if_neg n1']
    simp only [e39]
    by_cases q : (u.1 39 6).toInt < 40
    · rw [if_pos q, if_pos q]
      by_cases z : (f_X10_takeNumber_1 (pI (pI u 40 (u.1 39 6).toNatClampNeg (-1 : Int32)) 41 (u.1 39 6).toNatClampNeg (113 : Int32)) (1 : Int32) (99 : Int32)).2.toInt ≠ 0
      · rw [if_pos z, if_pos z]
        exact if_neg n1'
      · rw [if_neg z, if_neg z]
        exact if_pos t0i
    · rw [if_neg q, if_neg q]
  rw [hcl]
  by_cases q : (u.1 39 6).toInt < 40
  · rw [if_pos q]
    rw [if_pos (show (w.1 85 35).toInt ≠ 40 by rw [← hk]; omega)] at hb
    have h0 : T0 (pI (pI u 40 (u.1 39 6).toNatClampNeg (-1 : Int32)) 41 (u.1 39 6).toNatClampNeg (113 : Int32)) w := h.c rfl rfl rfl rfl rfl rfl (fun _ _ => rfl) rfl rfl rfl
    obtain ⟨t1, t2⟩ := h0.next
    have hs := takeNumberT_sim (p0 := (1 : Int32)) (p1 := (99 : Int32)) (q0 := (1 : Int32)) t1 rfl
    have f1 : (f_X10_takeNumber_1 (pI (pI u 40 (u.1 39 6).toNatClampNeg (-1 : Int32)) 41 (u.1 39 6).toNatClampNeg (113 : Int32)) (1 : Int32) (99 : Int32)).1.1 39 6 = u.1 39 6 := (q_X10_takeNumber_1 _ _ _ 39 6 rfl).trans rfl
    have f2 : (f_X12_takes_85 (f_X12_next_85 w) (1 : Int32) (99 : Int32)).1.1 85 35 = w.1 85 35 := (q_X12_takes_85 _ _ _ 85 35 rfl).trans (t2.1 85 35 (by omega))
    generalize f_X10_takeNumber_1 (pI (pI u 40 (u.1 39 6).toNatClampNeg (-1 : Int32)) 41 (u.1 39 6).toNatClampNeg (113 : Int32)) (1 : Int32) (99 : Int32) = a at hs f1 ⊢
    generalize f_X12_takes_85 (f_X12_next_85 w) (1 : Int32) (99 : Int32) = b at hs f2 hb
    rcases hs with ⟨s1, s2, s3, _⟩ | ⟨s1, s2, s3⟩
    · rw [s1, if_pos n1]
      rw [s2, if_pos n1] at hb
      rw [bookS_1 hb n1]
      refine day_sign (s3.c (fun _ _ => rfl) rfl rfl rfl rfl rfl (fun _ _ => rfl) rfl rfl rfl) ?_ ?_ q
      · exact (pI_c (by decide)).trans f1
      · exact ((pI_c (by decide)).trans (pI_c (by decide))).trans f2
    · rw [s1, if_neg n0]
      rw [s2, if_neg n0] at hb
      rw [bookS_0 hb t0i]
      exact Or.inr ⟨rfl, rfl, s3⟩
  · rw [if_neg q]
    rw [if_neg (fun z => z (by rw [← hk]; omega))] at hb
    rw [bookS_0 (hb.trans (bad_eq w 4)) t0i]
    exact Or.inr ⟨rfl, rfl, ft_mk h.2.2.1⟩

/-! Pure: lines that add no name are read alike. -/
/-- the reference's line with the sign behind it -/
def lineS (w : ac_U) : ac_U × Int32 := if (f_X12_line_85 w).2.toInt = 0 then ((f_X12_line_85 w).1, 0) else f_X12_sign_85 (f_X12_line_85 w).1 (59 : Int32)
/-- what a line leaves: both stand before the next token, one line more is told -/
def tol (u : ac_U) : Int := (u.1 13 1).toInt + (u.1 13 2).toInt + (u.1 13 3).toInt + (u.1 13 4).toInt + (u.1 13 5).toInt + (u.1 13 6).toInt + (u.1 13 7).toInt + (u.1 22 4).toInt
def LnP (u w : ac_U) (u' w' : ac_U) : Prop := S1 u' w' ∧ u'.1 22 3 = u.1 22 3 ∧ w'.1 85 19 = w.1 85 19 ∧ tol u' = tol u + 1
theorem upd_told {u w : ac_U} (h : Sm u w) : Sm (pI u 22 4 (1 : Int32)) (pI w 85 20 (1 : Int32)) := by
  obtain ⟨h1, h2, h3, h4, d1, d2, d3, d4, d5, d6, -⟩ := h
  refine ⟨⟨?_, ?_, h1.2.2⟩, h2, h3, h4, d1, d2, d3, d4, d5, d6, ?_⟩
  · rw [pI_k (show 3 ≠ 20 by decide)]; exact h1.1
  · rw [pI_k (show 5 ≠ 20 by decide)]; exact h1.2.1
  · rw [pI_s, pI_s]; exact ⟨rfl, Or.inr rfl⟩
theorem cp_k {s : Nat} (hs : s < 4) : cp s = 1 ∨ cp s = 4 ∨ cp s = 5 ∨ cp s = 6 := by
  rcases (show s = 0 ∨ s = 1 ∨ s = 2 ∨ s = 3 by omega) with e | e | e | e <;> subst e <;> decide
theorem Nm.to {u w u' w' : ac_U} (h : Nm u w) (e : ∀ k, (k = 1 ∨ k = 4 ∨ k = 5 ∨ k = 6 ∨ k = 8) → u'.1 13 k = u.1 13 k) (a20 : u'.1 20 = u.1 20) (a21 : u'.1 21 = u.1 21) (l19 : u'.2 19 = u.2 19) (l90 : w'.2 90 = w.2 90) : Nm u' w' := by
  obtain ⟨g, g1, g2, g3⟩ := h
  have ec : ∀ s, s < 4 → u'.1 13 (cp s) = u.1 13 (cp s) := fun s hs => e _ (by have := cp_k hs; omega)
  refine ⟨g, fun s hs i hi => ?_, fun k hk => ?_, fun s s' i i' hs hs' hi hi' q => ?_⟩
  · rw [ec s hs] at hi
    rw [e 8 (by omega), l19, l90]
    exact g1 s hs i hi
  · rw [e 8 (by omega)] at hk
    obtain ⟨s, i, a1, a2, a3⟩ := g2 k hk
    rw [a20, a21, l19]
    exact ⟨s, i, a1, by rw [ec s a1]; exact a2, a3⟩
  · rw [ec s hs] at hi
    rw [ec s' hs'] at hi'
    exact g3 s s' i i' hs hs' hi hi' q
theorem Vw.to {u w u' w' : ac_U} (h : Vw u w) (a18 : u'.1 18 = u.1 18) (a7 : u'.1 13 7 = u.1 13 7) (e : ∀ k, 90 ≤ k → w'.1 88 k = w.1 88 k) : Vw u' w' := by
  intro a b a1 a2 b1 b2
  rw [a18, a7]
  refine (h a b a1 a2 b1 b2).trans ⟨fun ⟨i, q⟩ => ⟨i, ?_⟩, fun ⟨i, q⟩ => ⟨i, ?_⟩⟩
  · rw [e _ (by omega), e _ (by omega)]; exact q
  · rw [e _ (by omega), e _ (by omega)] at q; exact q
theorem Sm.mk2 {u w u' w' : ac_U} (h : Sm u w) (c1 : u'.1 1 = u.1 1) (c2 : u'.1 2 = u.1 2) (l3 : u'.2 3 = u.2 3) (r85 : w'.1 85 = w.1 85) (r86 : w'.1 86 = w.1 86) (l91 : w'.2 91 = w.2 91) (hd : Dr u' w') : Sm u' w' := by
  obtain ⟨h1, h2, h3, h4, -⟩ := h
  refine ⟨?_, ?_, ?_, ?_, hd⟩
  · unfold InE; rw [c1, c2, r85, r86]; exact h1
  · unfold InR; rw [c1, c2]; exact h2
  · exact h3
  · exact h4
theorem S1.mk2 {u w u' w' : ac_U} (h : S1 u w) (hs : Sm u' w') (c1 : u'.1 1 = u.1 1) (c2 : u'.1 2 = u.1 2) (r85 : w'.1 85 = w.1 85) (l85 : w'.2 85 = w.2 85) : S1 u' w' :=
  h.to hs (by rw [c1]) (by rw [c1]) (by rw [c1]) c2 (fun k _ => by rw [r85]) (by rw [l85])
theorem S0.mk2 {u w u' w' : ac_U} (h : S0 u w) (hs : Sm u' w') (c1 : u'.1 1 = u.1 1) (l1 : u'.2 1 = u.2 1) (r85 : w'.1 85 = w.1 85) (l85 : w'.2 85 = w.2 85) : S0 u' w' := by
  refine ⟨hs, ?_, ?_⟩
  · unfold At; rw [c1, r85]; exact h.2.1
  · unfold Tk Wd; rw [c1, l1, r85, l85]; exact h.2.2
theorem upd_hours {u w : ac_U} (h : Sm u w) (x : Int32) : Sm (pI u 13 0 x) (pI w 88 0 x) := by
  have e13 : ∀ k, k ≠ 0 → (pI u 13 0 x).1 13 k = u.1 13 k := fun k hk => pI_k hk
  have e88 : ∀ k, k ≠ 0 → (pI w 88 0 x).1 88 k = w.1 88 k := fun k hk => pI_k hk
  obtain ⟨d1, d2, d3, d4, d5, d6, d7⟩ := h.2.2.2.2
  refine h.mk2 rfl rfl rfl rfl rfl rfl ⟨fun j hj => ?_, ?_, fun k hk => ?_, fun f hf => ?_, d5.to rfl (e13 7 (by decide)) (fun k hk => e88 k (by omega)), d6.to (fun k hk => e13 k (by omega)) rfl rfl rfl rfl, d7⟩
  · by_cases e : j = 0
    · subst e; rw [pI_s, pI_s]
    · rw [e13 j e, e88 j e]; exact d1 j hj
  · unfold Cp
    rw [e13 1 (by decide), e13 2 (by decide), e13 3 (by decide), e13 4 (by decide), e13 5 (by decide), e13 6 (by decide), e13 7 (by decide), e13 8 (by decide)]
    exact d2
  · rw [pI_c (show 14 ≠ 13 by decide), e88 _ (by omega)]; exact d3 k hk
  · rw [e13 3 (by decide)] at hf
    rw [pI_c (show 15 ≠ 13 by decide), e88 _ (by omega)]; exact d4 f hf
theorem S1.pII {u w : ac_U} (h : S1 u w) {c k c' k' : Nat} {x x' : Int32} (hs : Sm (pI u c k x) (pI w c' k' x')) (hc : c ≠ 1 ∧ c ≠ 2) (hc' : c' ≠ 85) : S1 (pI u c k x) (pI w c' k' x') := by
  refine h.to hs (pI_c (by omega)) (pI_c (by omega)) (pI_c (by omega)) (funext fun j => pI_c (by omega)) (fun j _ => pI_c (by omega)) rfl
theorem lineS_1 {w w1 : ac_U} {r1 : Int32} (h : f_X12_line_85 w = (w1, r1)) (h1 : r1.toInt ≠ 0) : lineS w = f_X12_sign_85 w1 (59 : Int32) := by
  unfold lineS; rw [h]; exact if_neg h1
theorem lineS_0 {w w1 : ac_U} {r1 : Int32} (h : f_X12_line_85 w = (w1, r1)) (h1 : r1.toInt = 0) : lineS w = (w1, 0) := by
  unfold lineS; rw [h]; exact if_pos h1
/-- the words that a line begins with -/
theorem wk {u w : ac_U} (hT : Tk u w) : ((u.1 1 6).toInt = 100 → f_X12_isWord_85 w (448546566771 : Int64) = 1) ∧ ((u.1 1 6).toInt ≠ 100 → f_X12_isWord_85 w (448546566771 : Int64) = 0) ∧ ((u.1 1 6).toInt = 101 → f_X12_isWord_85 w (482854658917 : Int64) = 1) ∧ ((u.1 1 6).toInt ≠ 101 → f_X12_isWord_85 w (482854658917 : Int64) = 0) ∧ ((u.1 1 6).toInt = 102 → f_X12_isWord_85 w (7823737 : Int64) = 1) ∧ ((u.1 1 6).toInt ≠ 102 → f_X12_isWord_85 w (7823737 : Int64) = 0) ∧ ((u.1 1 6).toInt = 103 → f_X12_isWord_85 w (1718775655 : Int64) = 1) ∧ ((u.1 1 6).toInt ≠ 103 → f_X12_isWord_85 w (1718775655 : Int64) = 0) ∧ ((u.1 1 6).toInt = 104 → f_X12_isWord_85 w (123581014175598 : Int64) = 1) ∧ ((u.1 1 6).toInt ≠ 104 → f_X12_isWord_85 w (123581014175598 : Int64) = 0) ∧ ((u.1 1 6).toInt = 105 → f_X12_isWord_85 w (1684366692 : Int64) = 1) ∧ ((u.1 1 6).toInt ≠ 105 → f_X12_isWord_85 w (1684366692 : Int64) = 0) ∧ ((u.1 1 6).toInt = 106 → f_X12_isWord_85 w (31651020294157157 : Int64) = 1) ∧ ((u.1 1 6).toInt ≠ 106 → f_X12_isWord_85 w (31651020294157157 : Int64) = 0) ∧ ((u.1 1 6).toInt = 109 → f_X12_isWord_85 w (7761783 : Int64) = 1) ∧ ((u.1 1 6).toInt ≠ 109 → f_X12_isWord_85 w (7761783 : Int64) = 0) := by
  have e0 : (448546566771 : Int64) = Int64.ofNat (ph 8 (toldN 0)) := by decide +kernel
  have e1 : (482854658917 : Int64) = Int64.ofNat (ph 8 (toldN 1)) := by decide +kernel
  have e2 : (7823737 : Int64) = Int64.ofNat (ph 8 (toldN 2)) := by decide +kernel
  have e3 : (1718775655 : Int64) = Int64.ofNat (ph 8 (toldN 3)) := by decide +kernel
  have e4 : (123581014175598 : Int64) = Int64.ofNat (ph 8 (toldN 4)) := by decide +kernel
  have e5 : (1684366692 : Int64) = Int64.ofNat (ph 8 (toldN 5)) := by decide +kernel
  have e6 : (31651020294157157 : Int64) = Int64.ofNat (ph 8 (toldN 6)) := by decide +kernel
  have e9 : (7761783 : Int64) = Int64.ofNat (ph 8 (toldN 9)) := by decide +kernel
  rw [e0, e1, e2, e3, e4, e5, e6, e9]
  exact ⟨(isWord_k hT 0 (by decide)).1, (isWord_k hT 0 (by decide)).2, (isWord_k hT 1 (by decide)).1, (isWord_k hT 1 (by decide)).2, (isWord_k hT 2 (by decide)).1, (isWord_k hT 2 (by decide)).2, (isWord_k hT 3 (by decide)).1, (isWord_k hT 3 (by decide)).2, (isWord_k hT 4 (by decide)).1, (isWord_k hT 4 (by decide)).2, (isWord_k hT 5 (by decide)).1, (isWord_k hT 5 (by decide)).2, (isWord_k hT 6 (by decide)).1, (isWord_k hT 6 (by decide)).2, (isWord_k hT 9 (by decide)).1, (isWord_k hT 9 (by decide)).2⟩
theorem hours_sim {u w : ac_U} (h : S0 u w) (hk : (u.1 1 6).toInt = 100) : Tw (f_X3_readHours_22 u) (lineS w) (LnP u w) := by
  have hw := wk h.2.2
  have hbeg := h.2.2.1
  have hl : f_X12_line_85 w = if (w.1 85 20).toInt = 0 then (if (f_X12_takes_85 (f_X12_next_85 (pI w 85 20 (1 : Int32))) (4 : Int32) (24 : Int32)).2.toInt ≠ 0 then (pI (f_X12_takes_85 (f_X12_next_85 (pI w 85 20 (1 : Int32))) (4 : Int32) (24 : Int32)).1 88 0 ((f_X12_takes_85 (f_X12_next_85 (pI w 85 20 (1 : Int32))) (4 : Int32) (24 : Int32)).1.1 85 18), 1) else ((f_X12_takes_85 (f_X12_next_85 (pI w 85 20 (1 : Int32))) (4 : Int32) (24 : Int32)).1, 0)) else f_X12_bad_85 w (3 : Int32) := by
    simp only [f_X12_line_85, vl, bd]
    rw [hw.1 hk, if_neg n1']
  have hc : f_X3_readHours_22 u = if (u.1 22 4).toInt = 0 then (if (f_X10_takeNumber_1 (pI u 22 4 (1 : Int32)) (4 : Int32) (24 : Int32)).2.toInt ≠ 0 then f_X10_takeSign_1 (pI (f_X10_takeNumber_1 (pI u 22 4 (1 : Int32)) (4 : Int32) (24 : Int32)).1 13 0 ((f_X10_takeNumber_1 (pI u 22 4 (1 : Int32)) (4 : Int32) (24 : Int32)).1.1 1 8)) (59 : Int32) else ((f_X10_takeNumber_1 (pI u 22 4 (1 : Int32)) (4 : Int32) (24 : Int32)).1, 0)) else f_X10_fail_1 u (3 : Int32) := by
    simp only [f_X3_readHours_22, vl, bd]
  have e20 : u.1 22 4 = w.1 85 20 := h.1.2.2.2.2.2.2.2.2.2.2.1
  rw [hc]
  by_cases q : (u.1 22 4).toInt = 0
  · rw [if_pos q]
    rw [if_pos (by rw [← e20]; exact q)] at hl
    have hS : S0 (pI u 22 4 (1 : Int32)) (pI w 85 20 (1 : Int32)) := by
      refine ⟨upd_told h.1, ?_, ?_⟩
      · unfold At; rw [pI_c (show 1 ≠ 22 by decide), pI_k (show 4 ≠ 20 by decide)]; exact h.2.1
      · have e4 : (pI w 85 20 (1 : Int32)).1 85 12 = w.1 85 12 := pI_k (by decide)
        have e5 : (pI w 85 20 (1 : Int32)).1 85 11 = w.1 85 11 := pI_k (by decide)
        have e6 : (pI w 85 20 (1 : Int32)).1 85 14 = w.1 85 14 := pI_k (by decide)
        unfold Tk
        rw [e4, e5, e6]
        exact h.2.2
    obtain ⟨s1, s2⟩ := hS.next
    have ht := takeNumber_sim (p0 := (4 : Int32)) (p1 := (24 : Int32)) s1 rfl
    generalize f_X10_takeNumber_1 (pI u 22 4 (1 : Int32)) (4 : Int32) (24 : Int32) = a at ht ⊢
    generalize f_X12_takes_85 (f_X12_next_85 (pI w 85 20 (1 : Int32))) (4 : Int32) (24 : Int32) = b at ht hl
    rcases ht with ⟨t1, t2, t3, t4, t5, t6, t7, t8⟩ | ⟨t1, t2, t3⟩
    · rw [t1, if_pos n1]
      rw [t2, if_pos n1] at hl
      rw [lineS_1 hl n1, ← t6]
      have hS2 : S1 (pI a.1 13 0 (a.1.1 1 8)) (pI b.1 88 0 (a.1.1 1 8)) := t3.pII (upd_hours t3.1 _) (by decide) (by decide)
      rcases takeSign_sim hS2 with ⟨k1, k2, k3, k4, k5⟩ | k
      · refine Or.inl ⟨k1, k2, k3, ?_, ?_, ?_⟩
        · rw [k4.1 22 3 (by omega), pI_c (by decide), t4.1 22 3 (by omega), pI_k (by decide)]
        · rw [k5.1 85 19 (by omega), pI_c (by decide), t5.1 85 19 (by omega), s2.1 85 19 (by omega), pI_k (by decide)]
        · have f13 : ∀ k, k ≠ 0 → (f_X10_takeSign_1 (pI a.1 13 0 (a.1.1 1 8)) 59).1.1 13 k = u.1 13 k := fun k hk => by
            rw [k4.1 13 k (by omega), pI_k hk, t4.1 13 k (by omega), pI_c (by decide)]
          have f22 : (f_X10_takeSign_1 (pI a.1 13 0 (a.1.1 1 8)) 59).1.1 22 4 = 1 := by
            rw [k4.1 22 4 (by omega), pI_c (by decide), t4.1 22 4 (by omega), pI_s]
          unfold tol
          rw [f13 1 (by decide), f13 2 (by decide), f13 3 (by decide), f13 4 (by decide), f13 5 (by decide), f13 6 (by decide), f13 7 (by decide), f22, t1i]
          omega
      · exact Or.inr k
    · rw [t1, if_neg n0]
      rw [t2, if_neg n0] at hl
      rw [lineS_0 hl t0i]
      exact Or.inr ⟨rfl, rfl, t3⟩
  · rw [if_neg q]
    rw [if_neg (by rw [← e20]; exact q)] at hl
    rw [lineS_0 hl t0i]
    exact Or.inr ⟨rfl, rfl, ft_mk hbeg⟩

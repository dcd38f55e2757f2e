/-! Pure: the person line. -/
theorem Dr.w88 {u w w' : ac_U} (h : Dr u w) (e : ∀ k, (k < 22 ∨ 90 ≤ k) → w'.1 88 k = w.1 88 k) (b85 : w'.1 85 20 = w.1 85 20) (l90 : w'.2 90 = w.2 90) : Dr u w' := by
  obtain ⟨d1, d2, d3, d4, d5, d6, d7⟩ := h
  have c3 := d2.2.2.1
  refine ⟨fun j hj => by rw [e j (by omega)]; exact d1 j hj, d2, fun k hk => by rw [e _ (by omega)]; exact d3 k hk, fun f hf => by rw [e _ (by omega)]; exact d4 f hf, d5.to rfl rfl (fun k hk => e k (Or.inr hk)), d6.to (fun _ _ => rfl) rfl rfl rfl l90, by rw [b85]; exact d7⟩
theorem Sm.w88 {u w : ac_U} (h : Sm u w) {k : Nat} {x : Int32} (hk : 22 ≤ k ∧ k < 90) : Sm u (pI w 88 k x) :=
  h.mk2 rfl rfl rfl rfl rfl rfl (h.2.2.2.2.w88 (fun j hj => pI_k (by omega)) rfl rfl)
theorem S1.w88 {u w : ac_U} (h : S1 u w) {k : Nat} {x : Int32} (hk : 22 ≤ k ∧ k < 90) : S1 u (pI w 88 k x) := h.mk2 (h.1.w88 hk) rfl rfl rfl rfl
theorem S0.w88 {u w : ac_U} (h : S0 u w) {k : Nat} {x : Int32} (hk : 22 ≤ k ∧ k < 90) : S0 u (pI w 88 k x) := h.mk2 (h.1.w88 hk) rfl rfl rfl rfl
/-- what the class writes beside the draft's compared places -/
theorem Sm.u23 {u w u' : ac_U} (h : Sm u w) (c1 : u'.1 1 = u.1 1) (c2 : u'.1 2 = u.1 2) (l : u'.2 = u.2) (a13 : u'.1 13 = u.1 13) (a14 : u'.1 14 = u.1 14) (a15 : u'.1 15 = u.1 15) (a18 : u'.1 18 = u.1 18) (a20 : u'.1 20 = u.1 20) (a21 : u'.1 21 = u.1 21) (a22 : u'.1 22 = u.1 22) : Sm u' w :=
  h.mk2 c1 c2 (by rw [l]) rfl rfl rfl (h.2.2.2.2.to a13 a14 a15 a18 a20 a21 (by rw [a22]) (by rw [l]) rfl rfl rfl)
theorem person_sim {u w : ac_U} (h : S0 u w) (hk : (u.1 1 6).toInt = 104) : Tw (f_X3_readPerson_22 u) (lineS w) (LnP u w) := by
  have hw := wk h.2.2
  have hbeg := h.2.2.1
  have d1 := h.1.2.2.2.2.1
  have hcp := h.1.2.2.2.2.2.1
  unfold Cp at hcp
  have e4 : w.1 88 4 = u.1 13 4 := (d1 4 (by decide)).symm
  have e1 : w.1 88 1 = u.1 13 1 := (d1 1 (by decide)).symm
  have hl : f_X12_line_85 w = if (u.1 13 4).toInt ≠ 4 then (let b := f_X12_fresh_85 (f_X12_next_85 w) (34 + u.1 13 4); if b.2.toInt = 0 then (b.1, 0) else (let d := f_X12_takesName_85 b.1 (26 : Int32) (u.1 13 1); if d.2.toInt ≠ 0 then (pI (pI d.1 88 (22 + u.1 13 4).toNatClampNeg (d.1.1 85 18)) 88 4 (u.1 13 4 + 1), 1) else (d.1, 0))) else f_X12_bad_85 w (4 : Int32) := by
    simp only [f_X12_line_85, K_X12_line_85_411, vl, bd]
    rw [hw.2.1 (by omega), if_pos t0i, hw.2.2.2.1 (by omega), if_pos t0i, hw.2.2.2.2.2.1 (by omega), if_pos t0i, hw.2.2.2.2.2.2.2.1 (by omega), if_pos t0i, hw.2.2.2.2.2.2.2.2.1 hk, if_neg n1', e4, e1]
  simp only [f_X3_readPerson_22, vl, bd]
  by_cases q : (u.1 13 4).toInt < 4
  · rw [if_pos q]
    rw [if_pos (by omega)] at hl
    obtain ⟨s1, s2⟩ := h.next
    have hpi : (34 + u.1 13 4 : Int32).toInt = 34 + (u.1 13 4).toInt := i_add (by decide) rfl (by omega)
    have hpn : (34 + u.1 13 4 : Int32).toNatClampNeg = 34 + (u.1 13 4).toNatClampNeg := off_n (by decide) (by omega) (by decide)
    have ho : (22 + u.1 13 4 : Int32).toNatClampNeg = 22 + (u.1 13 4).toNatClampNeg := off_n (by decide) (by omega) (by decide)
    have hP4 := i_cl (x := u.1 13 4) (by omega)
    have ht := takeNew_sim (s := 1) (p0 := 34 + u.1 13 4) s1 (by decide) hpi (Or.inl (show (34 : Int) + (u.1 13 4).toInt < 38 by omega))
    rw [hpn] at ht
    generalize f_X10_takeNew_1_13 u = a at ht ⊢
    generalize f_X12_fresh_85 (f_X12_next_85 w) (34 + u.1 13 4) = b at ht hl
    simp only at hl
    rcases ht with ⟨t1, t2, t3, t4, t5, n, m1, m2, m3, m4⟩ | ⟨t1, t2, t3⟩
    · rw [t1, if_pos n1]
      rw [t2, if_neg n1'] at hl
      have a13 : ∀ k, a.1.1 13 k = u.1 13 k := fun k => t4.1 13 k (by omega)
      have ht2 := takeKnown_sim (s := 0) (p0 := (26 : Int32)) (p1 := (0 : Int32)) t3 (by decide) (by decide) (by decide)
      have ht2 : Tw (f_X10_takeKnown_1_13 a.1 (0 : Int32)) (f_X12_takesName_85 b.1 (26 : Int32) (a.1.1 13 1)) _ := ht2
      rw [a13 1] at ht2
      generalize f_X10_takeKnown_1_13 a.1 (0 : Int32) = c at ht2 ⊢
      generalize f_X12_takesName_85 b.1 (26 : Int32) (u.1 13 1) = d at ht2 hl
      rcases ht2 with ⟨r1, r2, r3, r4, r5, r6, r7⟩ | ⟨r1, r2, r3⟩
      · rw [r1, if_pos n1]
        rw [r2, if_pos n1] at hl
        rw [lineS_1 hl n1]
        have c13 : ∀ k, c.1.1 13 k = u.1 13 k := fun k => (r4.1 13 k (by omega)).trans (a13 k)
        have hNN := cp_names r3.1.2.2.2.2
        have m3' : d.1.2 90 (34 + (c.1.1 13 4).toNatClampNeg) = Int64.ofNat (ph 8 n) := by rw [c13, r5.2 90 _ (by omega)]; exact m3
        have m4' : ∀ k : Nat, (k : Int) < (c.1.1 13 8).toInt → c.1.2 19 k ≠ Int64.ofNat n := fun k hk2 => by
          rw [r4.2 19 k (by omega)]
          exact m4 k (by rw [← r4.1 13 8 (by omega)]; exact hk2)
        have hS := upd_name (s := 1) (sv := (1 : Int32)) r3.1 (by decide) (by decide) (show (c.1.1 13 4).toInt < 4 by rw [c13]; exact q) m1 m3' m4'
        have hS : Sm (nmU c.1 (Int64.ofNat n) (1 : Int32) (cp 1)) (pI d.1 88 4 (c.1.1 13 4 + 1)) := hS
        have hN26 : (c.1.1 13 8).toInt < 26 := by
          have := r3.1.2.2.2.2.2.1
          unfold Cp at this
          rw [c13] at this ⊢
          simp only [c13] at this
          omega
        have ha : f_X2_addPerson_13 c.1 (a.1.2 1 7) (c.1.1 1 9) = pI (pI (pI (pI (pI (pL c.1 19 (c.1.1 13 8).toNatClampNeg (Int64.ofNat n)) 20 (c.1.1 13 8).toNatClampNeg 1) 21 (c.1.1 13 8).toNatClampNeg (c.1.1 13 4)) 13 8 (c.1.1 13 8 + 1)) 16 (c.1.1 13 4).toNatClampNeg (c.1.1 1 9)) 13 4 (c.1.1 13 4 + 1) := by
          rw [m2]
          simp only [f_X2_addPerson_13, f_X2_addName_13, vl]
          rw [if_neg (by rw [c13]; omega), if_neg (by omega)]
        rw [ha]
        have hSX : Sm (pI (pI (pI (pI (pI (pL c.1 19 (c.1.1 13 8).toNatClampNeg (Int64.ofNat n)) 20 (c.1.1 13 8).toNatClampNeg 1) 21 (c.1.1 13 8).toNatClampNeg (c.1.1 13 4)) 13 8 (c.1.1 13 8 + 1)) 16 (c.1.1 13 4).toNatClampNeg (c.1.1 1 9)) 13 4 (c.1.1 13 4 + 1)) (pI (pI d.1 88 (22 + (u.1 13 4).toNatClampNeg) (d.1.1 85 18)) 88 4 (c.1.1 13 4 + 1)) := by
          refine (hS.u23 rfl rfl rfl rfl rfl rfl rfl rfl rfl rfl).mk2 rfl rfl rfl rfl rfl rfl ?_
          refine ((hS.u23 (u' := pI (pI (pI (pI (pI (pL c.1 19 (c.1.1 13 8).toNatClampNeg (Int64.ofNat n)) 20 (c.1.1 13 8).toNatClampNeg 1) 21 (c.1.1 13 8).toNatClampNeg (c.1.1 13 4)) 13 8 (c.1.1 13 8 + 1)) 16 (c.1.1 13 4).toNatClampNeg (c.1.1 1 9)) 13 4 (c.1.1 13 4 + 1)) rfl rfl rfl rfl rfl rfl rfl rfl rfl rfl).2.2.2.2).w88 (fun k hk2 => ?_) rfl rfl
          by_cases e : k = 4
          · subst e; rw [pI_s, pI_s]
          · rw [pI_k e, pI_k e, pI_k (by omega)]
        rw [ho, ← c13 4] 
        rw [← c13 4] at hSX
        have hS2 := r3.mk2 hSX rfl rfl rfl rfl
        generalize hU : pI (pI (pI (pI (pI (pL c.1 19 (c.1.1 13 8).toNatClampNeg (Int64.ofNat n)) 20 (c.1.1 13 8).toNatClampNeg 1) 21 (c.1.1 13 8).toNatClampNeg (c.1.1 13 4)) 13 8 (c.1.1 13 8 + 1)) 16 (c.1.1 13 4).toNatClampNeg (c.1.1 1 9)) 13 4 (c.1.1 13 4 + 1) = U at *
        have u13 : ∀ k, k ≠ 4 → k ≠ 8 → U.1 13 k = u.1 13 k := fun k k1 k2 => by rw [← hU, pI_k k1, pI_c (by decide), pI_k k2, pI_c (by decide), pI_c (by decide), pL_1, c13]
        have u134 : U.1 13 4 = u.1 13 4 + 1 := by rw [← hU, pI_s, c13]
        have u22 : ∀ k, U.1 22 k = u.1 22 k := fun k => by rw [← hU, pI_c (by decide), pI_c (by decide), pI_c (by decide), pI_c (by decide), pI_c (by decide), pL_1, r4.1 22 k (by omega), t4.1 22 k (by omega)]
        rcases takeSign_sim hS2 with ⟨k1, k2, k3, k4, k5⟩ | k
        · refine Or.inl ⟨k1, k2, k3, ?_, ?_, ?_⟩
          · rw [k4.1 22 3 (by omega), u22]
          · rw [k5.1 85 19 (by omega), pI_c (by decide), pI_c (by decide), r5.1 85 19 (by omega), t5 85 19 (by omega), s2.1 85 19 (by omega)]
          · unfold tol
            rw [k4.1 13 1 (by omega), k4.1 13 2 (by omega), k4.1 13 3 (by omega), k4.1 13 4 (by omega), k4.1 13 5 (by omega), k4.1 13 6 (by omega), k4.1 13 7 (by omega), k4.1 22 4 (by omega), u13 1 (by decide) (by decide), u13 2 (by decide) (by decide), u13 3 (by decide) (by decide), u134, u13 5 (by decide) (by decide), u13 6 (by decide) (by decide), u13 7 (by decide) (by decide), u22, inc_i (by omega)]
            omega
        · exact Or.inr k
      · rw [r1, if_neg n0]
        rw [r2, if_neg n0] at hl
        rw [lineS_0 hl t0i]
        exact Or.inr ⟨rfl, rfl, r3⟩
    · rw [t1, if_neg n0]
      rw [t2, if_pos t0i] at hl
      rw [lineS_0 hl t0i]
      exact Or.inr ⟨rfl, rfl, t3⟩
  · rw [if_neg q]
    rw [if_neg (by omega)] at hl
    rw [lineS_0 hl t0i]
    exact Or.inr ⟨rfl, rfl, ft_mk hbeg⟩

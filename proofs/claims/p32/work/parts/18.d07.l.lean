/-! Pure: the vow line; names. -/
theorem vow_sim {u w : ac_U} (h : S0 u w) (hk : (u.1 1 6).toInt = 109) : Tw (f_X3_readVow_22 u) (lineS w) (LnP u w) := by
  have hw := wk h.2.2
  have hbeg := h.2.2.1
  have d1 := h.1.2.2.2.2.1
  have cp6 := h.1.2.2.2.2.2.1.2.2.2.2.2.1
  have cp7 := h.1.2.2.2.2.2.1.2.2.2.2.2.2.1
  obtain ⟨s1, s2⟩ := h.next
  have e7 : w.1 88 7 = u.1 13 7 := (d1 7 (by decide)).symm
  have e6 : (f_X12_next_85 w).1 88 6 = u.1 13 6 := (s2.1 88 6 (by omega)).trans (d1 6 (by decide)).symm
  have ht := takeKnown_sim (s := 3) (p0 := (44 : Int32)) (p1 := (3 : Int32)) s1 (by decide) (by decide) (by decide)
  have ht : Tw (f_X10_takeKnown_1_13 u (3 : Int32)) (f_X12_takesName_85 (f_X12_next_85 w) (44 : Int32) (u.1 13 6)) _ := ht
  simp only [f_X3_readVow_22, K_X3_readVow_22_88, vl, bd]
  have hl : f_X12_line_85 w = if (u.1 13 7).toInt ≠ 8 then (let c := f_X12_takesName_85 (f_X12_next_85 w) (44 : Int32) (u.1 13 6); if c.2.toInt ≠ 0 then (let d := f_X12_looksAt_85 c.1 (44 : Int32) (u.1 13 6); if d.2.toInt ≠ 0 then (if (c.1.1 85 18).toInt = (d.1.1 85 18).toInt then K_X12_line_85_614 w 9 d.1 (c.1.1 85 18) (0 : Int32) (0 : Int32) else K_X12_line_85_614 w 9 d.1 (c.1.1 85 18) (1 : Int32) (0 : Int32)) else (d.1, 0)) else (c.1, 0)) else f_X12_bad_85 w (4 : Int32) := by
    simp only [f_X12_line_85, K_X12_line_85_611, vl, bd]
    rw [hw.2.1 (by omega), if_pos t0i, hw.2.2.2.1 (by omega), if_pos t0i, hw.2.2.2.2.2.1 (by omega), if_pos t0i, hw.2.2.2.2.2.2.2.1 (by omega), if_pos t0i, hw.2.2.2.2.2.2.2.2.2.1 (by omega), if_pos t0i, hw.2.2.2.2.2.2.2.2.2.2.2.1 (by omega), if_pos t0i, hw.2.2.2.2.2.2.2.2.2.2.2.2.2.1 (by omega), if_pos t0i, hw.2.2.2.2.2.2.2.2.2.2.2.2.2.2.1 hk, if_pos n1, e7, e6]
  by_cases q : (u.1 13 7).toInt < 8
  · rw [if_pos q]
    rw [if_pos (by omega)] at hl
    generalize f_X10_takeKnown_1_13 u (3 : Int32) = a at ht ⊢
    generalize f_X12_takesName_85 (f_X12_next_85 w) (44 : Int32) (u.1 13 6) = c at ht hl
    simp only at hl
    rcases ht with ⟨t1, t2, t3, t4, t5, t6, t7, t8⟩ | ⟨t1, t2, t3⟩
    · rw [t1, if_pos n1]
      rw [t2, if_pos n1] at hl
      have a13 : ∀ k, a.1.1 13 k = u.1 13 k := fun k => t4.1 13 k (by omega)
      have ht2 := takeLook_sim (s := 3) (p0 := (44 : Int32)) (p1 := (3 : Int32)) t3 (by decide) (by decide) (by decide)
      have ht2 : Tw (f_X10_takeKnown_1_13 a.1 (3 : Int32)) (f_X12_looksAt_85 c.1 (44 : Int32) (a.1.1 13 6)) _ := ht2
      rw [a13 6] at ht2
      generalize f_X10_takeKnown_1_13 a.1 (3 : Int32) = b at ht2 ⊢
      generalize f_X12_looksAt_85 c.1 (44 : Int32) (u.1 13 6) = d at ht2 hl
      rcases ht2 with ⟨r1, r2, r3, r4, r5, r6, r7, r8⟩ | ⟨r1, r2, r3⟩
      · rw [r1, if_pos n1]
        rw [r2, if_pos n1] at hl
        have b13 : ∀ k, b.1.1 13 k = u.1 13 k := fun k => (r4.1 13 k (by omega)).trans (a13 k)
        have hcp : cp 3 = 6 := rfl
        rw [hcp] at t8 r8
        rw [a13 6] at r8
        have hbeg2 := r3.2.2.1
        have hd7 : d.1.1 88 7 = u.1 13 7 := (r3.1.2.2.2.2.1 7 (by decide)).symm.trans (b13 7)
        have hlp := fun x2 => vw_loop (w0 := w) (w := d.1) (x1 := c.1.1 85 18) (by rw [hd7]; omega) (u.1 13 7).toInt.toNat 9 x2 (0 : Int32) (by rw [hd7, t0i]; omega) (by decide) (by omega)
        have hVw := r3.1.2.2.2.2.2.2.2.2.1 (a.1.1 1 9) (b.1.1 1 9) (by omega) (by omega) (by omega) (by omega)
        rw [b13 7] at hVw
        rw [hd7, ← t6, ← r6] at hlp
        rw [← t6, ← r6] at hl
        by_cases z1 : (a.1.1 1 9).toInt = (b.1.1 1 9).toInt
        · rw [if_pos z1]
          rw [if_pos z1, (hlp 0 (Or.inl rfl)).2 (Or.inl rfl)] at hl
          rw [lineS_0 hl t0i]
          exact Or.inr ⟨rfl, rfl, ft_mk hbeg2⟩
        · rw [if_neg z1]
          rw [if_neg z1] at hl
          have hiv := isVow_k (u := b.1) (a := a.1.1 1 9) (b := b.1.1 1 9)
          by_cases z2 : vbit (b.1.1 18 (b.1.1 1 9).toNatClampNeg) (a.1.1 1 9)
          · rw [hiv.1 z2, if_neg n1']
            obtain ⟨i, i1, i2, i3⟩ := hVw.mp z2
            rw [(hlp 1 (Or.inr rfl)).2 (Or.inr ⟨i, by rw [t0i]; omega, i1, i2, i3⟩)] at hl
            rw [lineS_0 hl t0i]
            exact Or.inr ⟨rfl, rfl, ft_mk hbeg2⟩
          · rw [hiv.2 z2, if_pos t0i]
            rw [(hlp 1 (Or.inr rfl)).1 ⟨rfl, fun k _ k2 q3 => z2 (hVw.mpr ⟨k, k2, q3.1, q3.2⟩)⟩] at hl
            rw [lineS_1 hl n1]
            have ha : f_X2_addVow_13 b.1 (a.1.1 1 9) (b.1.1 1 9) = pI (pI b.1 18 (b.1.1 1 9).toNatClampNeg (b.1.1 18 (b.1.1 1 9).toNatClampNeg ||| (1 : Int32) <<< (a.1.1 1 9 &&& 31))) 13 7 (b.1.1 13 7 + 1) := rfl
            rw [ha]
            have hS := upd_vow r3.1 (a := a.1.1 1 9) (b := b.1.1 1 9) (by omega) (by omega) (by rw [b13]; exact q)
            have hS0 := r3.mk2 hS rfl rfl rfl rfl
            rw [← b13 7]
            obtain ⟨m1, m2⟩ := hS0.next
            generalize hU : pI (pI b.1 18 (b.1.1 1 9).toNatClampNeg (b.1.1 18 (b.1.1 1 9).toNatClampNeg ||| (1 : Int32) <<< (a.1.1 1 9 &&& 31))) 13 7 (b.1.1 13 7 + 1) = U at *
            generalize hV : pI (pI (pI d.1 88 (90 + (b.1.1 13 7).toNatClampNeg) (a.1.1 1 9)) 88 (98 + (b.1.1 13 7).toNatClampNeg) (b.1.1 1 9)) 88 7 (b.1.1 13 7 + 1) = V at *
            have u13 : ∀ k, k ≠ 7 → U.1 13 k = u.1 13 k := fun k hk2 => by rw [← hU, pI_k hk2, pI_c (by decide), b13]
            have u137 : U.1 13 7 = u.1 13 7 + 1 := by rw [← hU, pI_s, b13]
            have u22 : ∀ k, U.1 22 k = u.1 22 k := fun k => by rw [← hU, pI_c (by decide), pI_c (by decide), r4.1 22 k (by omega), t4.1 22 k (by omega)]
            have v85 : V.1 85 19 = w.1 85 19 := by rw [← hV, pI_c (by decide), pI_c (by decide), pI_c (by decide), r5.1 85 19 (by omega), t5.1 85 19 (by omega), s2.1 85 19 (by omega)]
            rcases takeSign_sim m1 with ⟨k1, k2, k3, k4, k5⟩ | k
            · refine Or.inl ⟨k1, k2, k3, ?_, ?_, ?_⟩
              · rw [k4.1 22 3 (by omega), u22]
              · rw [k5.1 85 19 (by omega), m2.1 85 19 (by omega), v85]
              · unfold tol
                rw [k4.1 13 1 (by omega), k4.1 13 2 (by omega), k4.1 13 3 (by omega), k4.1 13 4 (by omega), k4.1 13 5 (by omega), k4.1 13 6 (by omega), k4.1 13 7 (by omega), k4.1 22 4 (by omega), u13 1 (by decide), u13 2 (by decide), u13 3 (by decide), u13 4 (by decide), u13 5 (by decide), u13 6 (by decide), u137, u22, inc_i (by omega)]
                omega
            · exact Or.inr k
      · rw [r1, if_neg n0]
        rw [r2, if_neg n0] at hl
        rw [lineS_0 hl t0i]
        exact Or.inr ⟨rfl, rfl, r3⟩
    · rw [t1, if_neg n0]
      rw [t2, if_neg n0] at hl
      rw [lineS_0 hl t0i]
      exact Or.inr ⟨rfl, rfl, t3⟩
  · rw [if_neg q]
    rw [if_neg (by omega)] at hl
    rw [lineS_0 hl t0i]
    exact Or.inr ⟨rfl, rfl, ft_mk hbeg⟩
def gup (g : Nat → Nat → Nat) (s C n s' i : Nat) : Nat := if s' = s ∧ i = C then n else g s' i
theorem gup_s {g : Nat → Nat → Nat} {s C n : Nat} : gup g s C n s C = n := if_pos ⟨rfl, rfl⟩
theorem gup_o {g : Nat → Nat → Nat} {s C n s' i : Nat} (h : ¬ (s' = s ∧ i = C)) : gup g s C n s' i = g s' i := if_neg h
/-- a name more, of the sort s -/
def nmU (u : ac_U) (W : Int64) (sv : Int32) (c : Nat) : ac_U := pI (pI (pI (pI (pL u 19 (u.1 13 8).toNatClampNeg W) 20 (u.1 13 8).toNatClampNeg sv) 21 (u.1 13 8).toNatClampNeg (u.1 13 c)) 13 8 (u.1 13 8 + 1)) 13 c (u.1 13 c + 1)
theorem nmU_13 {u : ac_U} {W : Int64} {sv : Int32} {c : Nat} (k : Nat) (h1 : k ≠ c) (h2 : k ≠ 8) : (nmU u W sv c).1 13 k = u.1 13 k := by
  unfold nmU; rw [pI_k h1, pI_k h2, pI_c (by decide), pI_c (by decide)]; rfl
theorem upd_name {u w : ac_U} {s n : Nat} {sv : Int32} (h : Sm u w) (hs : s < 4) (hsv : sv.toInt = s) (hcap : (u.1 13 (cp s)).toInt < (if s = 1 then 4 else if s = 2 then 6 else 8)) (hn : n < 32 ^ 7) (hw : w.2 90 (bs s + (u.1 13 (cp s)).toNatClampNeg) = Int64.ofNat (ph 8 n)) (hnew : ∀ k : Nat, (k : Int) < (u.1 13 8).toInt → u.2 19 k ≠ Int64.ofNat n) : Sm (nmU u (Int64.ofNat n) sv (cp s)) (pI w 88 (cp s) (u.1 13 (cp s) + 1)) := by
  obtain ⟨d1, d2, d3, d4, d5, ⟨g, g1, g2, g3⟩, d7⟩ := h.2.2.2.2
  have hcc := cp_cnt h.2.2.2.2 hs
  have hNN := cp_names h.2.2.2.2
  have hck := cp_k hs
  obtain ⟨c1, c2, c3, c4, c5, c6, c7, c8⟩ := d2
  have hN26 : (u.1 13 8).toInt < 26 := by
    rcases (show s = 0 ∨ s = 1 ∨ s = 2 ∨ s = 3 by omega) with e | e | e | e <;> subst e <;> simp [cp] at hcap <;> omega
  have hiC := inc_i (x := u.1 13 (cp s)) (by omega)
  have hiN := inc_i (x := u.1 13 8) (by omega)
  have hC := i_cl (x := u.1 13 (cp s)) hcc.1
  have hN := i_cl (x := u.1 13 8) hNN.1
  have e13 : ∀ k, k ≠ cp s → k ≠ 8 → (nmU u (Int64.ofNat n) sv (cp s)).1 13 k = u.1 13 k := fun k h1 h2 => nmU_13 k h1 h2
  have e13c : (nmU u (Int64.ofNat n) sv (cp s)).1 13 (cp s) = u.1 13 (cp s) + 1 := by unfold nmU; exact pI_s
  have e138 : (nmU u (Int64.ofNat n) sv (cp s)).1 13 8 = u.1 13 8 + 1 := by unfold nmU; rw [pI_k (by omega), pI_s]
  have e88 : ∀ k, k ≠ cp s → (pI w 88 (cp s) (u.1 13 (cp s) + 1)).1 88 k = w.1 88 k := fun k hk => pI_k hk
  have x20 : (nmU u (Int64.ofNat n) sv (cp s)).1 20 (u.1 13 8).toNatClampNeg = sv := by unfold nmU; rw [pI_c (by decide), pI_c (by decide), pI_c (by decide), pI_s]
  have x21 : (nmU u (Int64.ofNat n) sv (cp s)).1 21 (u.1 13 8).toNatClampNeg = u.1 13 (cp s) := by unfold nmU; rw [pI_c (by decide), pI_c (by decide), pI_s]
  have y20 : ∀ k, k ≠ (u.1 13 8).toNatClampNeg → (nmU u (Int64.ofNat n) sv (cp s)).1 20 k = u.1 20 k := fun k hk => by unfold nmU; rw [pI_c (by decide), pI_c (by decide), pI_c (by decide), pI_k hk]; rfl
  have y21 : ∀ k, k ≠ (u.1 13 8).toNatClampNeg → (nmU u (Int64.ofNat n) sv (cp s)).1 21 k = u.1 21 k := fun k hk => by unfold nmU; rw [pI_c (by decide), pI_c (by decide), pI_k hk, pI_c (by decide)]; rfl
  have x19 : (nmU u (Int64.ofNat n) sv (cp s)).2 19 (u.1 13 8).toNatClampNeg = Int64.ofNat n := by unfold nmU; rw [pI_2, pI_2, pI_2, pI_2, pL_s]
  have y19 : ∀ k, k ≠ (u.1 13 8).toNatClampNeg → (nmU u (Int64.ofNat n) sv (cp s)).2 19 k = u.2 19 k := fun k hk => by unfold nmU; rw [pI_2, pI_2, pI_2, pI_2, pL_k hk]
  have ecnt : ∀ s', s' < 4 → s' ≠ s → (nmU u (Int64.ofNat n) sv (cp s)).1 13 (cp s') = u.1 13 (cp s') := fun s' hs' hne => e13 _ (by
    rcases (show s = 0 ∨ s = 1 ∨ s = 2 ∨ s = 3 by omega) with e | e | e | e <;> subst e <;> rcases (show s' = 0 ∨ s' = 1 ∨ s' = 2 ∨ s' = 3 by omega) with e' | e' | e' | e' <;> subst e' <;> first | exact absurd rfl hne | decide) (by have := cp_k hs'; omega)
  have c1' : (nmU u (Int64.ofNat n) sv (cp s)).1 1 = u.1 1 := by unfold nmU; rfl
  have c2' : (nmU u (Int64.ofNat n) sv (cp s)).1 2 = u.1 2 := by unfold nmU; rfl
  have e22 : (nmU u (Int64.ofNat n) sv (cp s)).1 22 4 = u.1 22 4 := by unfold nmU; rfl
  have d7' : (nmU u (Int64.ofNat n) sv (cp s)).1 22 4 = (pI w 88 (cp s) (u.1 13 (cp s) + 1)).1 85 20 ∧ ((nmU u (Int64.ofNat n) sv (cp s)).1 22 4 = 0 ∨ (nmU u (Int64.ofNat n) sv (cp s)).1 22 4 = 1) := by rw [e22]; exact d7
  refine h.mk2 c1' c2' (by unfold nmU; rfl) rfl rfl rfl ⟨fun j hj => ?_, ?_, fun k hk => ?_, fun f hf => ?_, d5.to (by unfold nmU; rfl) (e13 7 (by omega) (by decide)) (fun k hk => e88 k (by omega)), ?_, d7'⟩
  · by_cases e : j = cp s
    · subst e; rw [e13c, pI_s]
    · rw [e13 j e (by omega), e88 j e]; exact d1 j hj
  · unfold Cp
    rcases (show s = 0 ∨ s = 1 ∨ s = 2 ∨ s = 3 by omega) with e | e | e | e <;> subst e
    · have q1 : (nmU u (Int64.ofNat n) sv (cp 0)).1 13 1 = u.1 13 1 + 1 := e13c
      have hiC : (u.1 13 1 + 1).toInt = (u.1 13 1).toInt + 1 := hiC
      rw [q1, e13 2 (by decide) (by decide), e13 3 (by decide) (by decide), e13 4 (by decide) (by decide), e13 5 (by decide) (by decide), e13 6 (by decide) (by decide), e13 7 (by decide) (by decide), e138, hiC, hiN]
      have hcap : (u.1 13 1).toInt < 8 := hcap
      omega
    · have q1 : (nmU u (Int64.ofNat n) sv (cp 1)).1 13 4 = u.1 13 4 + 1 := e13c
      have hiC : (u.1 13 4 + 1).toInt = (u.1 13 4).toInt + 1 := hiC
      rw [q1, e13 1 (by decide) (by decide), e13 2 (by decide) (by decide), e13 3 (by decide) (by decide), e13 5 (by decide) (by decide), e13 6 (by decide) (by decide), e13 7 (by decide) (by decide), e138, hiC, hiN]
      have hcap : (u.1 13 4).toInt < 4 := hcap
      omega
    · have q1 : (nmU u (Int64.ofNat n) sv (cp 2)).1 13 5 = u.1 13 5 + 1 := e13c
      have hiC : (u.1 13 5 + 1).toInt = (u.1 13 5).toInt + 1 := hiC
      rw [q1, e13 1 (by decide) (by decide), e13 2 (by decide) (by decide), e13 3 (by decide) (by decide), e13 4 (by decide) (by decide), e13 6 (by decide) (by decide), e13 7 (by decide) (by decide), e138, hiC, hiN]
      have hcap : (u.1 13 5).toInt < 6 := hcap
      omega
    · have q1 : (nmU u (Int64.ofNat n) sv (cp 3)).1 13 6 = u.1 13 6 + 1 := e13c
      have hiC : (u.1 13 6 + 1).toInt = (u.1 13 6).toInt + 1 := hiC
      rw [q1, e13 1 (by decide) (by decide), e13 2 (by decide) (by decide), e13 3 (by decide) (by decide), e13 4 (by decide) (by decide), e13 5 (by decide) (by decide), e13 7 (by decide) (by decide), e138, hiC, hiN]
      have hcap : (u.1 13 6).toInt < 8 := hcap
      omega
  · rw [e88 _ (by omega)]
    exact (show (nmU u (Int64.ofNat n) sv (cp s)).1 14 k = u.1 14 k from by unfold nmU; rfl).trans (d3 k hk)
  · rw [e13 3 (by omega) (by decide)] at hf
    rw [e88 _ (by omega)]
    exact (show (nmU u (Int64.ofNat n) sv (cp s)).1 15 f = u.1 15 f from by unfold nmU; rfl).trans (d4 f hf)
  · -- the names
    generalize hNq : (u.1 13 8).toNatClampNeg = N at *
    generalize hCq : (u.1 13 (cp s)).toNatClampNeg = C at *
    refine ⟨gup g s C n, fun s' hs' i hi => ?_, fun k hk => ?_, fun s' s'' i i' hs' hs'' hi hi' q => ?_⟩
    · rw [e138, hiN]
      by_cases e : s' = s ∧ i = C
      · obtain ⟨e1, e2⟩ := e
        subst e1; subst e2
        rw [gup_s]
        exact ⟨hn, hw, N, by omega, x19⟩
      · rw [gup_o e]
        have hi2 : (i : Int) < (u.1 13 (cp s')).toInt := by
          by_cases e3 : s' = s
          · subst e3
            rw [e13c, hiC] at hi
            have : i ≠ C := fun z => e ⟨rfl, z⟩
            omega
          · rw [ecnt s' hs' e3] at hi; exact hi
        obtain ⟨b1, b2, k, b3, b4⟩ := g1 s' hs' i hi2
        exact ⟨b1, b2, k, by omega, by rw [y19 k (by omega)]; exact b4⟩
    · rw [e138, hiN] at hk
      by_cases e : k = N
      · subst e
        refine ⟨s, C, hs, by rw [e13c, hiC]; omega, by rw [x20, hsv], by rw [x21]; omega, ?_⟩
        rw [gup_s]; exact x19
      · obtain ⟨s', i, b1, b2, b3, b4, b5⟩ := g2 k (by omega)
        refine ⟨s', i, b1, ?_, by rw [y20 k e]; exact b3, by rw [y21 k e]; exact b4, ?_⟩
        · by_cases e3 : s' = s
          · subst e3; rw [e13c, hiC]; omega
          · rw [ecnt s' b1 e3]; exact b2
        · rw [gup_o (fun z => by obtain ⟨z1, z2⟩ := z; subst z1; omega), y19 k e]
          exact b5
    · have old : ∀ s1 i1 : Nat, s1 < 4 → (i1 : Int) < ((nmU u (Int64.ofNat n) sv (cp s)).1 13 (cp s1)).toInt → ¬ (s1 = s ∧ i1 = C) → (i1 : Int) < (u.1 13 (cp s1)).toInt ∧ g s1 i1 ≠ n := by
        intro s1 i1 h1 h2 h3
        have h4 : (i1 : Int) < (u.1 13 (cp s1)).toInt := by
          by_cases e3 : s1 = s
          · subst e3
            rw [e13c, hiC] at h2
            have : i1 ≠ C := fun z => h3 ⟨rfl, z⟩
            omega
          · rw [ecnt s1 h1 e3] at h2; exact h2
        refine ⟨h4, fun z => ?_⟩
        obtain ⟨-, -, k, b3, b4⟩ := g1 s1 h1 i1 h4
        rw [z] at b4
        exact hnew k b3 b4
      by_cases e : s' = s ∧ i = C
      · by_cases e' : s'' = s ∧ i' = C
        · exact ⟨e.1.trans e'.1.symm, e.2.trans e'.2.symm⟩
        · rw [e.1, e.2, gup_s, gup_o e'] at q
          exact absurd q.symm (old s'' i' hs'' hi' e').2
      · by_cases e' : s'' = s ∧ i' = C
        · rw [e'.1, e'.2, gup_s, gup_o e] at q
          exact absurd q (old s' i hs' hi e).2
        · rw [gup_o e, gup_o e'] at q
          exact g3 s' s'' i i' hs' hs'' (old s' i hs' hi e).1 (old s'' i' hs'' hi' e').1 q

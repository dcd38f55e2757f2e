/-! Takings of tokens beside the house that stands. -/
def Sn (u w : ac_U) : Prop := InE u w ∧ InR u ∧ TdA u ∧ RsB w ∧ Nq u w ∧ (∀ s, s < 4 → u.1 4 (cp s) = w.1 87 (cp s))
theorem Sn.to {u w u' w' : ac_U} (h : Sn u w) (hc : CG u u') (hr : RG w w') : Sn u' w' := by
  obtain ⟨h1, h2, h3, h4, h5, h6⟩ := h
  refine ⟨⟨?_, ?_, fun k => ?_, ?_⟩, ⟨?_, fun k => ?_⟩, fun k hk => ?_, fun k hk => ?_, ?_, fun s hs => ?_⟩
  · rw [hc.1 1 2 (by omega), hr.1 85 3 (by omega)]; exact h1.1
  · rw [hc.1 1 3 (by omega), hr.1 85 5 (by omega)]; exact h1.2.1
  · rw [hc.1 2 k (by omega), hr.1 86 k (by omega)]; exact h1.2.2.1 k
  · rw [hc.1 1 10 (by omega), hr.1 85 15 (by omega)]; exact h1.2.2.2
  · rw [hc.1 1 2 (by omega)]; exact h2.1
  · rw [hc.1 2 k (by omega)]; exact h2.2 k
  · exact h3 k hk
  · exact h4 k hk
  · exact h5.to (funext fun k => hc.1 4 k (by omega)) (funext fun k => hc.2 10 k (by omega)) (funext fun k => hc.1 11 k (by omega)) (funext fun k => hc.1 12 k (by omega)) (funext fun k => hr.2 90 k (by omega))
  · rw [hc.1 4 _ (by omega), hr.1 87 _ (by omega)]; exact h6 s hs
def T0 (u w : ac_U) : Prop := Sn u w ∧ At u w ∧ Tk u w
def T1 (u w : ac_U) : Prop := Sn u w ∧ ∃ wp, Lx u wp ∧ LA (f_X12_next_85 wp) w
theorem T0.next {u w : ac_U} (h : T0 u w) : T1 u (f_X12_next_85 w) ∧ RF w (f_X12_next_85 w) := by
  obtain ⟨h1, h2, h3⟩ := h
  have hl := lex h1.2.2.1 ⟨h1.1, h1.2.1, h2⟩
  exact ⟨⟨h1.to CG.rf hl.2.1.g, w, ⟨h1.1, h1.2.1, h2⟩, fun _ _ => rfl, rfl⟩, hl.2.1⟩
theorem T1.read {u w : ac_U} (h : T1 u w) : T0 (f_X10_readNext_1 u) w ∧ CF u (f_X10_readNext_1 u) := by
  obtain ⟨h1, wp, h2, h3, h4⟩ := h
  obtain ⟨f1, f2, f3, f4⟩ := lex h1.2.2.1 h2
  refine ⟨⟨h1.to f1.g RG.rf, ?_, ?_⟩, f1⟩
  · unfold At; rw [h3 4 (by omega)]; exact f3
  · unfold Tk Wd; rw [h3 12 (by omega), h3 11 (by omega), h3 14 (by omega), h4]; exact f4
theorem knownT_sim {u w : ac_U} {s : Nat} {p0 p1 : Int32} (h : T0 u w) (hs : s < 4) (hp1 : p1.toInt = s) (hp0 : p0.toInt = bh s) : Tw (f_X10_isKnown_1_4 u p1) (f_X12_looksAt_85 w p0 (u.1 4 (cp s))) (fun u' w' => T0 u' w' ∧ CG u u' ∧ RG w w' ∧ u'.1 1 9 = w'.1 85 18 ∧ 0 ≤ (u'.1 1 9).toInt ∧ (u'.1 1 9).toInt < (u.1 4 (cp s)).toInt) := by
  obtain ⟨h1, h2, h3⟩ := h
  have hn := isName_k h3 h1.2.2.2.1
  have hbeg := h3.1
  simp only [f_X10_isKnown_1_4, K_X10_isKnown_1_4_38, f_X12_looksAt_85, vl, bd]
  by_cases hk : (u.1 1 6).toInt = 2
  · rw [if_pos hk, hn.1 hk, if_pos (show (1 : Int32).toInt ≠ 0 by decide)]
    obtain ⟨n, n1, n2, n3⟩ := h3.name hk
    have hsp := kn4_sp h1.2.2.2.2.1 n1 n2 n3 hs hp0
    have hcnt := h1.2.2.2.2.1.2.1 s hs
    generalize f_X2_nameIndex_4 u (u.2 1 7) = r at hsp ⊢
    generalize f_X12_find_85 w p0 (u.1 4 (cp s)) = q at hsp ⊢
    have hbad : Tw (f_X10_fail_1 u (3 : Int32)) (pI (pI (pI w 85 18 q) 85 15 (3 : Int32)) 85 16 ((pI w 85 18 q).1 85 12), 0) (fun u' w' => T0 u' w' ∧ CG u u' ∧ RG w w' ∧ u'.1 1 9 = w'.1 85 18 ∧ 0 ≤ (u'.1 1 9).toInt ∧ (u'.1 1 9).toInt < (u.1 4 (cp s)).toInt) := by
      have hb2 : u.1 1 5 = (pI w 85 18 q).1 85 12 := by rw [pI_k (by decide)]; exact hbeg
      exact Or.inr ⟨rfl, rfl, ft_mk hb2⟩
    rcases hsp with ⟨i, i1, i2, i3, i4, i5⟩ | ⟨i1, i2⟩
    · rw [if_neg (show ¬ r.toInt = -1 by omega), if_pos (show (u.1 11 r.toNatClampNeg).toInt = p1.toInt by omega), if_pos (show 0 ≤ q.toInt by omega)]
      have hc : CG u (pI u 1 9 (u.1 12 r.toNatClampNeg)) := CG.rf.pI (by omega)
      have hr : RG w (pI w 85 18 q) := RG.rf.pI (by omega)
      refine Or.inl ⟨rfl, rfl, ⟨h1.to hc hr, ?_, ?_⟩, hc, hr, ?_, ?_⟩
      · unfold At; rw [pI_k (show 4 ≠ 9 by decide), pI_k (show 4 ≠ 18 by decide)]; exact h2
      · have e1 : (pI u 1 9 (u.1 12 r.toNatClampNeg)).1 1 5 = u.1 1 5 := pI_k (by decide)
        have e2 : (pI u 1 9 (u.1 12 r.toNatClampNeg)).1 1 6 = u.1 1 6 := pI_k (by decide)
        have e3 : (pI u 1 9 (u.1 12 r.toNatClampNeg)).1 1 8 = u.1 1 8 := pI_k (by decide)
        have e4 : (pI w 85 18 q).1 85 12 = w.1 85 12 := pI_k (by decide)
        have e5 : (pI w 85 18 q).1 85 11 = w.1 85 11 := pI_k (by decide)
        have e6 : (pI w 85 18 q).1 85 14 = w.1 85 14 := pI_k (by decide)
        show Tk (pI u 1 9 (u.1 12 r.toNatClampNeg)) (pI w 85 18 q)
        unfold Tk
        rw [e1, e2, e3, e4, e5, e6]
        exact h3
      · show (pI u 1 9 (u.1 12 r.toNatClampNeg)).1 1 9 = (pI w 85 18 q).1 85 18
        rw [pI_s, pI_s]
        exact Int32.toInt_inj.mp (by omega)
      · show 0 ≤ ((pI u 1 9 (u.1 12 r.toNatClampNeg)).1 1 9).toInt ∧ ((pI u 1 9 (u.1 12 r.toNatClampNeg)).1 1 9).toInt < _
        rw [pI_s]
        omega
    · rw [if_neg (show ¬ 0 ≤ q.toInt by omega)]
      have e0 : ∀ x : ac_U, (if (f_X12_bad_85 x (3 : Int32)).2.toInt = 0 then ((f_X12_bad_85 x (3 : Int32)).1, (0 : Int32)) else ((f_X12_bad_85 x (3 : Int32)).1, 0)) = (pI (pI x 85 15 (3 : Int32)) 85 16 (x.1 85 12), 0) := fun x => if_pos t0i
      rw [e0]
      rcases i1 with i1 | i1
      · rw [if_pos i1]; exact hbad
      · rw [if_neg (show ¬ r.toInt = -1 by omega), if_neg (show ¬ (u.1 11 r.toNatClampNeg).toInt = p1.toInt by omega)]; exact hbad
  · rw [if_neg hk, hn.2 hk, if_neg (show ¬ (0 : Int32).toInt ≠ 0 by decide)]
    exact Tw.bad hbeg
theorem takeKnownT_sim {u w : ac_U} {s : Nat} {p0 p1 : Int32} (h : T1 u w) (hs : s < 4) (hp1 : p1.toInt = s) (hp0 : p0.toInt = bh s) : Tw (f_X10_takeKnown_1_4 u p1) (f_X12_takesName_85 w p0 (u.1 4 (cp s))) (fun u' w' => T1 u' w' ∧ CG u u' ∧ RG w w' ∧ u'.1 1 9 = w'.1 85 18 ∧ 0 ≤ (u'.1 1 9).toInt ∧ (u'.1 1 9).toInt < (u.1 4 (cp s)).toInt) := by
  obtain ⟨h0, hc⟩ := h.read
  have e13 : (f_X10_readNext_1 u).1 4 (cp s) = u.1 4 (cp s) := hc.1 4 _ (by omega)
  have hk := knownT_sim h0 hs hp1 hp0
  rw [e13] at hk
  simp only [f_X10_takeKnown_1_4, f_X12_takesName_85, vl, bd]
  rcases hk with ⟨k1, k2, k3, k4, k5, k6, k7⟩ | ⟨k1, k2, k3⟩
  · rw [k2, if_pos (show (1 : Int32).toInt ≠ 0 by decide)]
    obtain ⟨n1, n2⟩ := k3.next
    refine Or.inl ⟨k1, rfl, n1, hc.g.tr k4, k5.tr n2.g, ?_, k7⟩
    rw [n2.1 85 18 (by omega)]
    exact k6
  · rw [k2, if_neg (show ¬ (0 : Int32).toInt ≠ 0 by decide)]
    exact Or.inr ⟨k1, rfl, k3⟩
theorem takeNumberT_sim {u w : ac_U} {p0 p1 q0 : Int32} (h : T1 u w) (hq : q0 = p0) : Tw (f_X10_takeNumber_1 u p0 p1) (f_X12_takes_85 w q0 p1) (fun u' w' => T1 u' w' ∧ CG u u' ∧ RG w w' ∧ u'.1 1 8 = w'.1 85 18 ∧ p0.toInt ≤ (u'.1 1 8).toInt ∧ (u'.1 1 8).toInt ≤ p1.toInt) := by
  subst hq
  obtain ⟨h0, hc⟩ := h.read
  obtain ⟨h1, h2, h3⟩ := h0
  have hbeg := h3.1
  simp only [f_X10_takeNumber_1, K_X10_takeNumber_1_34, f_X12_takes_85, vl, bd]
  generalize f_X10_readNext_1 u = u1 at h1 h2 h3 hc hbeg ⊢
  have e0 : ∀ x : ac_U, (if (f_X10_fail_1 x (2 : Int32)).2.toInt = 0 then ((f_X10_fail_1 x (2 : Int32)).1, (0 : Int32)) else ((f_X10_fail_1 x (2 : Int32)).1, 0)) = f_X10_fail_1 x (2 : Int32) := fun x => if_pos t0i
  rw [e0]
  by_cases hk : (u1.1 1 6).toInt = 3
  · have hn : (w.1 85 11).toInt = 2 ∧ u1.1 1 8 = w.1 85 14 := by
      obtain ⟨-, h | h | h | h | h⟩ := h3
      · omega
      · omega
      · exact h.2
      · have h4 := h.1; unfold isSg at h4; omega
      · obtain ⟨-, n, -, d1, d2⟩ := h
        exfalso
        by_cases hall : ∀ j : Nat, j < 27 → n ≠ toldN j
        · have := d2 hall; omega
        · obtain ⟨j, hj⟩ := Classical.not_forall.mp hall
          have hj1 : j < 27 := Classical.byContradiction (fun a => hj (fun b => absurd b a))
          have hj2 : n = toldN j := Classical.byContradiction (fun a => hj (fun _ => a))
          have := d1 j hj1 hj2
          omega
    rw [if_pos hk, if_pos hn.1, ← hn.2]
    by_cases a1 : (u1.1 1 8).toInt < q0.toInt
    · rw [if_pos a1, in0 (by omega), if_neg n0]
      exact Tw.bad hbeg
    · rw [if_neg a1]
      by_cases a2 : (u1.1 1 8).toInt ≤ p1.toInt
      · rw [if_pos a2, in1 (by omega), if_pos n1]
        have hr : RG w (pI w 85 18 (u1.1 1 8)) := RG.rf.pI (by omega)
        have hS : T0 u1 (pI w 85 18 (u1.1 1 8)) := by
          refine ⟨h1.to CG.rf hr, ?_, ?_⟩
          · unfold At; rw [pI_k (show 4 ≠ 18 by decide)]; exact h2
          · have e4 : (pI w 85 18 (u1.1 1 8)).1 85 12 = w.1 85 12 := pI_k (by decide)
            have e5 : (pI w 85 18 (u1.1 1 8)).1 85 11 = w.1 85 11 := pI_k (by decide)
            have e6 : (pI w 85 18 (u1.1 1 8)).1 85 14 = w.1 85 14 := pI_k (by decide)
            unfold Tk
            rw [e4, e5, e6]
            exact h3
        obtain ⟨n1, n2⟩ := hS.next
        refine Or.inl ⟨rfl, rfl, n1, hc.g, hr.tr n2.g, ?_, (show q0.toInt ≤ (u1.1 1 8).toInt by omega), a2⟩
        show u1.1 1 8 = (f_X12_next_85 (pI w 85 18 (u1.1 1 8))).1 85 18
        rw [n2.1 85 18 (by omega), pI_s]
      · rw [if_neg a2, in0 (by omega), if_neg n0]
        exact Tw.bad hbeg
  · have hn : (w.1 85 11).toInt ≠ 2 := by
      obtain ⟨-, h | h | h | h | h⟩ := h3
      · omega
      · omega
      · exact absurd h.1 hk
      · omega
      · omega
    rw [if_neg hk, if_neg hn]
    exact Tw.bad hbeg
theorem signT_sim {u w : ac_U} (h0 : T0 u w) : Tw (if (u.1 1 6).toInt = 59 then (u, 1) else f_X10_fail_1 u (1 : Int32)) (f_X12_sign_85 w (59 : Int32)) (fun u' w' => T1 u' w' ∧ CG u u' ∧ RG w w') := by
  have hs := isSign_k h0.2.2
  simp only [f_X12_sign_85, vl, bd]
  by_cases q : (u.1 1 6).toInt = 59
  · rw [if_pos q, hs.1 q, if_pos (show (1 : Int32).toInt ≠ 0 by decide)]
    obtain ⟨n1, n2⟩ := h0.next
    exact Or.inl ⟨rfl, rfl, n1, CG.rf, n2.g⟩
  · rw [if_neg q, hs.2 q, if_neg (show ¬ (0 : Int32).toInt ≠ 0 by decide)]
    exact Tw.bad h0.2.2.1
theorem takeSignT_sim {u w : ac_U} (h : T1 u w) : Tw (f_X10_takeSign_1 u (59 : Int32)) (f_X12_sign_85 w (59 : Int32)) (fun u' w' => T1 u' w' ∧ CG u u' ∧ RG w w') := by
  obtain ⟨h0, hc⟩ := h.read
  have hk := signT_sim h0
  have e : f_X10_takeSign_1 u (59 : Int32) = if ((f_X10_readNext_1 u).1 1 6).toInt = 59 then (f_X10_readNext_1 u, 1) else f_X10_fail_1 (f_X10_readNext_1 u) (1 : Int32) := by
    simp only [f_X10_takeSign_1, K_X10_takeSign_1_20, vl, bd]
    have a59 : (59 : Int32).toInt = 59 := by decide
    rw [a59]
    by_cases q : ((f_X10_readNext_1 u).1 1 6).toInt = 59
    · rw [if_pos q, if_pos q]
    · rw [if_neg q, if_neg q]
      exact if_pos t0i
  rw [e]
  rcases hk with ⟨k1, k2, k3, k4, k5⟩ | k
  · exact Or.inl ⟨k1, k2, k3, hc.g.tr k4, k5⟩
  · exact Or.inr k

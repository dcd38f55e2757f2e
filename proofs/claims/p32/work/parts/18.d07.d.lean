/-! Pure: the next token is read alike. -/
theorem cm1 {u : ac_U} {v : Int32} (h : v.toInt = 60 ∨ v.toInt = 61 ∨ v.toInt = 62) : f_X10_isCompare u v = 1 := by
  simp only [f_X10_isCompare, K_X10_isCompare_18]
  by_cases h4 : v.toInt = 60
  · rw [if_pos h4]
  rw [if_neg h4]
  by_cases h5 : v.toInt = 61
  · rw [if_pos h5]
  rw [if_neg h5, if_neg (show ¬ v.toInt ≠ 62 by omega)]
theorem cm0 {u : ac_U} {v : Int32} (h : ¬ (v.toInt = 60 ∨ v.toInt = 61 ∨ v.toInt = 62)) : f_X10_isCompare u v = 0 := by
  simp only [f_X10_isCompare, K_X10_isCompare_18]
  rw [if_neg (show ¬ v.toInt = 60 by omega), if_neg (show ¬ v.toInt = 61 by omega), if_pos (show v.toInt ≠ 62 by omega)]
theorem sg1 {u : ac_U} {v : Int32} (h : isSg v.toInt) : f_X10_isSign u v = 1 := by
  unfold isSg at h
  simp only [f_X10_isSign, K_X10_isSign_25, vl]
  by_cases h1 : v.toInt = 59
  · rw [if_pos h1]
  rw [if_neg h1]
  by_cases h2 : v.toInt = 40
  · rw [if_pos h2]
  rw [if_neg h2]
  by_cases h3 : v.toInt = 41
  · rw [if_pos h3]
  rw [if_neg h3, cm1 (by omega), if_neg n1']
theorem sg0 {u : ac_U} {v : Int32} (h : ¬ isSg v.toInt) : f_X10_isSign u v = 0 := by
  unfold isSg at h
  simp only [f_X10_isSign, K_X10_isSign_25, vl]
  rw [if_neg (show ¬ v.toInt = 59 by omega), if_neg (show ¬ v.toInt = 40 by omega), if_neg (show ¬ v.toInt = 41 by omega), cm0 (by omega), if_pos t0i]
theorem rr_eq (u : ac_U) : f_X10_readRun_1 u = K_X10_readRun_1_14 u 942 (pI (pL u 1 7 (0 : Int64)) 1 8 (0 : Int32)) (0 : Int32) (0 : Int32) := rfl
theorem sg_fin {u w : ac_U} {a b c : Int32} (hat : At u w) (hn : (u.1 1 4).toInt < 940) (hb : u.1 1 5 = w.1 85 12) (ht : (a.toInt = 1 ∧ b.toInt = 4) ∨ (isSg a.toInt ∧ b.toInt = 3 ∧ c.toInt = a.toInt)) : Fin2 u w (pI (pI u 1 6 a) 1 4 (u.1 1 4 + 1)) (pI (pI (pI w 85 11 b) 85 14 c) 85 4 (w.1 85 4 + 1)) := by
  have hp1 : (u.1 1 4 + 1).toInt = (u.1 1 4).toInt + 1 := i_add rfl (by decide) (by have := hat.2; omega)
  have e1 : (pI (pI u 1 6 a) 1 4 (u.1 1 4 + 1)).1 1 5 = u.1 1 5 := by rw [pI_k (by decide), pI_k (by decide)]
  have e2 : (pI (pI (pI w 85 11 b) 85 14 c) 85 4 (w.1 85 4 + 1)).1 85 12 = w.1 85 12 := by rw [pI_k (by decide), pI_k (by decide), pI_k (by decide)]
  have e3 : (pI (pI u 1 6 a) 1 4 (u.1 1 4 + 1)).1 1 6 = a := by rw [pI_k (by decide), pI_s]
  have e4 : (pI (pI (pI w 85 11 b) 85 14 c) 85 4 (w.1 85 4 + 1)).1 85 11 = b := by rw [pI_k (by decide), pI_k (by decide), pI_s]
  have e5 : (pI (pI (pI w 85 11 b) 85 14 c) 85 4 (w.1 85 4 + 1)).1 85 14 = c := by rw [pI_k (by decide), pI_s]
  refine ⟨(CF.rf.pI (by omega)).pI (by omega), ((RF.rf.pI (by omega)).pI (by omega)).pI (by omega), ?_, ?_⟩
  · unfold At
    rw [pI_s, pI_s, hat.1]
    rw [hat.1] at hp1
    have := hat.2
    rw [hat.1] at this hn
    exact ⟨rfl, by omega, by omega⟩
  · unfold Tk
    rw [e1, e2, e3, e4, e5]
    refine ⟨hb, ?_⟩
    rcases ht with h | h
    · exact Or.inr (Or.inl h)
    · exact Or.inr (Or.inr (Or.inr (Or.inl h)))
/-- a run of letters and digits begins -/
theorem run_start {w0 u1 w1 : ac_U} {y2 : Int32} (hA1 : TdA u1) (hL1 : Lx u1 w1) (hbeg : u1.1 1 5 = w1.1 85 12) (hspan : w1.1 85 13 = 0) (hn : ¬ (u1.1 1 2).toInt ≤ (u1.1 1 4).toInt) (hy : (isLt (u1.1 2 (u1.1 1 4).toNatClampNeg) ∧ y2.toInt = 1) ∨ (isDg (u1.1 2 (u1.1 1 4).toNatClampNeg) ∧ y2.toInt = 0)) : ∀ N : Nat, N = 942 → Fin2 u1 w1 (K_X10_readRun_1_14 u1 N (pI (pL u1 1 7 (0 : Int64)) 1 8 (0 : Int32)) (0 : Int32) (0 : Int32)) (K_X12_next_85_181 w0 N (pI (pL w1 85 17 (0 : Int64)) 85 14 (0 : Int32)) y2 (1 : Int32)) := by
  intro N hN
  have hat1 := hL1.2.2
  have hatr := hat1.2
  have hc2 : CF u1 (pI (pL u1 1 7 (0 : Int64)) 1 8 (0 : Int32)) := CF.rf.pL.pI (by omega)
  have hr2 : RF w1 (pI (pL w1 85 17 (0 : Int64)) 85 14 (0 : Int32)) := RF.rf.pL.pI (by omega)
  have hy2 : y2.toInt = 0 ∨ y2.toInt = 1 := by rcases hy with q | q; exact Or.inr q.2; exact Or.inl q.2
  have e1 : (pI (pL w1 85 17 (0 : Int64)) 85 14 (0 : Int32)).1 85 13 = 0 := by rw [pI_k (by decide)]; exact hspan
  have e2 : (pI (pL u1 1 7 (0 : Int64)) 1 8 (0 : Int32)).1 1 4 = u1.1 1 4 := pI_k (by decide)
  have e3 : (pI (pL u1 1 7 (0 : Int64)) 1 8 (0 : Int32)).1 1 2 = u1.1 1 2 := pI_k (by decide)
  have e4 : ∀ k, (pI (pL u1 1 7 (0 : Int64)) 1 8 (0 : Int32)).1 2 k = u1.1 2 k := fun k => pI_c (by decide)
  refine Fin2.of hc2 hr2 (run_sim _ _ N _ _ _ _ _ _ (fun k hk => ?_) ⟨hL1.1.to hc2 hr2, hL1.2.1.to hc2, ?_⟩ ⟨?_, ?_, hy2, ⟨Or.inr t1i, ?_⟩, fun _ _ => ⟨0, by decide, ?_, ?_⟩, fun _ _ => ?_, fun q => ?_, fun _ => ⟨?_, ?_⟩⟩ ?_)
  · exact hA1 k hk
  · unfold At; rw [e2, pI_k (by decide)]; exact hat1
  · rw [pI_k (by decide), pI_k (by decide)]; exact hbeg
  · rw [e1, e2, t0i]; omega
  · rw [t1i, t0i]; omega
  · rw [pI_2, pL_s]; rfl
  · rw [pI_2, pL_s]; rfl
  · rw [pI_s, pI_s]
  · rw [t0i] at q; omega
  · rw [e2, e3]; exact hn
  · rw [e2, e4]; exact hy
  · rw [e2]; omega
theorem nx80 (w0 w1 : ac_U) : K_X12_next_85_80 w0 w1 = if 0 ≤ (f_X12_peek_85 w1).toInt then (if (f_X12_isSmall w1 (f_X12_peek_85 w1)).toInt ≠ 0 then K_X12_next_85_181 w0 942 (pI (pL w1 85 17 (0 : Int64)) 85 14 (0 : Int32)) (f_X12_isSmall w1 (f_X12_peek_85 w1)) (1 : Int32) else if (f_X12_isDigit w1 (f_X12_peek_85 w1)).toInt ≠ 0 then K_X12_next_85_181 w0 942 (pI (pL w1 85 17 (0 : Int64)) 85 14 (0 : Int32)) (f_X12_isSmall w1 (f_X12_peek_85 w1)) (1 : Int32) else if (f_X12_peek_85 w1).toInt = 59 then pI (pI (pI w1 85 11 (3 : Int32)) 85 14 (f_X12_peek_85 w1)) 85 4 (w1.1 85 4 + 1) else if (f_X12_peek_85 w1).toInt = 40 then pI (pI (pI w1 85 11 (3 : Int32)) 85 14 (f_X12_peek_85 w1)) 85 4 (w1.1 85 4 + 1) else if (f_X12_peek_85 w1).toInt = 41 then pI (pI (pI w1 85 11 (3 : Int32)) 85 14 (f_X12_peek_85 w1)) 85 4 (w1.1 85 4 + 1) else if (f_X12_peek_85 w1).toInt < 60 then pI (pI (pI w1 85 11 (4 : Int32)) 85 14 (f_X12_peek_85 w1)) 85 4 (w1.1 85 4 + 1) else if (62 : Int) < (f_X12_peek_85 w1).toInt then pI (pI (pI w1 85 11 (4 : Int32)) 85 14 (f_X12_peek_85 w1)) 85 4 (w1.1 85 4 + 1) else pI (pI (pI w1 85 11 (3 : Int32)) 85 14 (f_X12_peek_85 w1)) 85 4 (w1.1 85 4 + 1)) else pI w1 85 11 (0 : Int32) := rfl
/-- a token that begins where both stand -/
theorem tok_sim {u0 w0 u w : ac_U} (hA : TdA u) (hL : Lx u w) (hb : (u.1 1 2).toInt ≤ (u.1 1 4).toInt ∨ True) : Fin2 u w (K_X10_readNext_1_88 u0 u) (K_X12_next_85_80 w0 (pI (pI w 85 12 (w.1 85 4)) 85 13 (0 : Int32))) := by
  have hat := hL.2.2
  have hc1 : CF u (pI u 1 5 (u.1 1 4)) := CF.rf.pI (by omega)
  have hr1 : RF w (pI (pI w 85 12 (w.1 85 4)) 85 13 (0 : Int32)) := (RF.rf.pI (by omega)).pI (by omega)
  have hat1 : At (pI u 1 5 (u.1 1 4)) (pI (pI w 85 12 (w.1 85 4)) 85 13 (0 : Int32)) := by
    unfold At
    rw [pI_k (show 4 ≠ 5 by decide), pI_k (show 4 ≠ 13 by decide), pI_k (show 4 ≠ 12 by decide)]
    exact hat
  have hL1 : Lx (pI u 1 5 (u.1 1 4)) (pI (pI w 85 12 (w.1 85 4)) 85 13 (0 : Int32)) := ⟨hL.1.to hc1 hr1, hL.2.1.to hc1, hat1⟩
  have hA1 : TdA (pI u 1 5 (u.1 1 4)) := fun k hk => hA k hk
  have hbeg : (pI u 1 5 (u.1 1 4)).1 1 5 = (pI (pI w 85 12 (w.1 85 4)) 85 13 (0 : Int32)).1 85 12 := by
    rw [pI_s, pI_k (show 12 ≠ 13 by decide), pI_s]
    exact hat.1
  have hspan : (pI (pI w 85 12 (w.1 85 4)) 85 13 (0 : Int32)).1 85 13 = 0 := pI_s
  have hat4 : (pI u 1 5 (u.1 1 4)).1 1 4 = u.1 1 4 := pI_k (by decide)
  have hlen : (pI u 1 5 (u.1 1 4)).1 1 2 = u.1 1 2 := pI_k (by decide)
  have hbyte : (pI u 1 5 (u.1 1 4)).1 2 (u.1 1 4).toNatClampNeg = u.1 2 (u.1 1 4).toNatClampNeg := pI_c (by decide)
  refine Fin2.of hc1 hr1 ?_
  generalize hu1 : pI u 1 5 (u.1 1 4) = u1 at *
  generalize hw1 : pI (pI w 85 12 (w.1 85 4)) 85 13 (0 : Int32) = w1 at *
  have hK : K_X10_readNext_1_88 u0 u = if (u1.1 1 4).toInt < (u1.1 1 2).toInt then (if (f_X10_isLetter u1 (u1.1 2 (u1.1 1 4).toNatClampNeg)).toInt ≠ 0 then f_X10_readRun_1 u1 else if (f_X10_isDigit u1 (u1.1 2 (u1.1 1 4).toNatClampNeg)).toInt = 0 then (if (f_X10_isSign u1 (u1.1 2 (u1.1 1 4).toNatClampNeg)).toInt = 0 then pI (pI u1 1 6 (1 : Int32)) 1 4 (u1.1 1 4 + 1) else pI (pI u1 1 6 (u1.1 2 (u1.1 1 4).toNatClampNeg)) 1 4 (u1.1 1 4 + 1)) else f_X10_readRun_1 u1) else pI u1 1 6 (0 : Int32) := by
    simp only [K_X10_readNext_1_88, K_X10_readNext_1_145, K_X10_readNext_1_181, vl]
    rw [hat4, hlen, hu1, hat4]
  rw [hK]
  rw [nx80]
  have hm1 : (-1 : Int32).toInt = -1 := by decide
  by_cases hend : (u1.1 1 4).toInt < (u1.1 1 2).toInt
  · have hn : ¬ (u1.1 1 2).toInt ≤ (u1.1 1 4).toInt := by omega
    have hp := pk_b hL1 hn
    rw [if_pos hend]
    obtain ⟨b, hbq⟩ : ∃ b, u1.1 2 (u1.1 1 4).toNatClampNeg = b := ⟨_, rfl⟩
    have hrb := hL1.2.1.2 (u1.1 1 4).toNatClampNeg
    have hn940 := hL1.2.1.1
    rw [hbq] at hp hrb
    rw [hbq, hp]
    have h255 := and255 hrb
    have hcge : 0 ≤ (b &&& 255).toInt := by
      rcases (show 0 ≤ b.toInt ∨ b.toInt < 0 by omega) with q | q
      · rw [h255.1 q]; exact q
      · have := h255.2 q; omega
    rw [if_pos hcge]
    by_cases hl : isLt b
    · have hb2 : b &&& 255 = b := h255.1 (by unfold isLt at hl; omega)
      rw [fL1 hl, if_pos n1, hb2, gL1 hl, if_pos n1, rr_eq]
      exact run_start hA1 hL1 hbeg hspan hn (Or.inl ⟨by rw [hbq]; exact hl, t1i⟩) 942 rfl
    · rw [fL0 hl, if_neg n0]
      by_cases hd : isDg b
      · have hb2 : b &&& 255 = b := h255.1 (by unfold isDg at hd; omega)
        rw [fD1 hd, if_neg n1', hb2, gL0 hl, if_neg n0, gD1 hd, if_pos n1, rr_eq]
        exact run_start hA1 hL1 hbeg hspan hn (Or.inr ⟨by rw [hbq]; exact hd, t0i⟩) 942 rfl
      · have hcl : ¬ isLt (b &&& 255) ∧ ¬ isDg (b &&& 255) := by
          rcases (show 0 ≤ b.toInt ∨ b.toInt < 0 by omega) with q | q
          · rw [h255.1 q]; exact ⟨hl, hd⟩
          · have := h255.2 q
            unfold isLt isDg
            omega
        rw [fD0 hd, if_pos t0i, gL0 hcl.1, if_neg n0, gD0 hcl.2, if_neg n0]
        have hlt : (u1.1 1 4).toInt < 940 := by omega
        have a3 : (3 : Int32).toInt = 3 := by decide
        have a4 : (4 : Int32).toInt = 4 := by decide
        by_cases hs : isSg b.toInt
        · have hb2 : b &&& 255 = b := h255.1 (by unfold isSg at hs; omega)
          rw [sg1 hs, if_neg n1', hb2]
          have hsf := sg_fin (a := b) (b := (3 : Int32)) (c := b) hat1 hlt hbeg (Or.inr ⟨hs, a3, rfl⟩)
          unfold isSg at hs
          by_cases h1 : b.toInt = 59
          · rw [if_pos h1]; exact hsf
          rw [if_neg h1]
          by_cases h2 : b.toInt = 40
          · rw [if_pos h2]; exact hsf
          rw [if_neg h2]
          by_cases h3 : b.toInt = 41
          · rw [if_pos h3]; exact hsf
          rw [if_neg h3, if_neg (show ¬ b.toInt < 60 by omega), if_neg (show ¬ (62 : Int) < b.toInt by omega)]
          exact hsf
        · rw [sg0 hs, if_pos t0i]
          have hsf := sg_fin (a := (1 : Int32)) (b := (4 : Int32)) (c := b &&& 255) hat1 hlt hbeg (Or.inl ⟨t1i, a4⟩)
          have hs2 : ¬ isSg (b &&& 255).toInt := by
            rcases (show 0 ≤ b.toInt ∨ b.toInt < 0 by omega) with q | q
            · rw [h255.1 q]; exact hs
            · have := h255.2 q
              unfold isSg
              omega
          unfold isSg at hs2
          rw [if_neg (show ¬ (b &&& 255).toInt = 59 by omega), if_neg (show ¬ (b &&& 255).toInt = 40 by omega), if_neg (show ¬ (b &&& 255).toInt = 41 by omega)]
          by_cases h1 : (b &&& 255).toInt < 60
          · rw [if_pos h1]; exact hsf
          · rw [if_neg h1, if_pos (show (62 : Int) < (b &&& 255).toInt by omega)]; exact hsf
  · have hp : f_X12_peek_85 w1 = -1 := pk_end (by rw [← hL1.1.1, ← hat1.1]; omega)
    rw [if_neg hend, hp, if_neg (show ¬ 0 ≤ (-1 : Int32).toInt by rw [hm1]; omega)]
    exact fin_mk hat1 hbeg (Or.inl ⟨t0i, t0i⟩)
theorem skip_sim (u0 w0 : ac_U) : ∀ (fuel : Nat) (u w : ac_U), TdA u → Lx u w → 941 - (u.1 1 4).toInt < fuel → Fin2 u w (K_X10_readNext_1_0 u0 fuel u) (K_X12_next_85_0 w0 fuel w) := by
  intro fuel
  induction fuel with
  | zero => intro u w _ hL hf; have := hL.2.2.2.2; exfalso; omega
  | succ fuel ih =>
    intro u w hA hL hf
    have hat := hL.2.2
    have hatr := hat.2
    have hn940 := hL.2.1.1
    -- a blank
    have hblank : ¬ (u.1 1 2).toInt ≤ (u.1 1 4).toInt → Fin2 u w (K_X10_readNext_1_39 (K_X10_readNext_1_0 u0 fuel) u0 u) (K_X12_next_85_18 (K_X12_next_85_0 w0 fuel) w0 w) := by
      intro hn
      have hp1 : (u.1 1 4 + 1).toInt = (u.1 1 4).toInt + 1 := i_add rfl (by decide) (by omega)
      have hc : CF u (pI u 1 4 (u.1 1 4 + 1)) := CF.rf.pI (by omega)
      have hr : RF w (pI w 85 4 (w.1 85 4 + 1)) := RF.rf.pI (by omega)
      refine Fin2.of hc hr (ih _ _ (fun k hk => hA k hk) ⟨hL.1.to hc hr, hL.2.1.to hc, ?_⟩ ?_)
      · unfold At
        rw [pI_s, pI_s]
        exact ⟨by rw [hat.1], by omega, by omega⟩
      · rw [pI_s, hp1]; omega
    -- no blank
    have hgo : Fin2 u w (K_X10_readNext_1_52 u0 u) (if (w.1 85 3).toInt ≤ (w.1 85 5).toInt then (K_X12_next_85_80 w0 (pI (pI w 85 12 (w.1 85 4)) 85 13 (0 : Int32))) else (if (w.1 85 4).toInt < (w.1 85 5).toInt then (K_X12_next_85_80 w0 (pI (pI w 85 12 (w.1 85 4)) 85 13 (0 : Int32))) else (pI (pI (pI (pI w 85 12 (w.1 85 4)) 85 13 (0 : Int32)) 85 12 (w.1 85 5)) 85 11 (4 : Int32)))) := by
      have ht := tok_sim (u0 := u0) (w0 := w0) hA hL (Or.inr trivial)
      have i1 := hL.1.1
      have i2 := hL.1.2.1
      unfold K_X10_readNext_1_52
      rw [i1, i2, hat.1]
      by_cases q1 : (w.1 85 3).toInt ≤ (w.1 85 5).toInt
      · rw [if_pos q1, if_pos q1]
        by_cases q2 : (w.1 85 4).toInt < (w.1 85 5).toInt
        · rw [if_pos q2]; exact ht
        · rw [if_neg q2]; exact ht
      · rw [if_neg q1, if_neg q1]
        by_cases q2 : (w.1 85 4).toInt < (w.1 85 5).toInt
        · rw [if_pos q2, if_pos q2]; exact ht
        · rw [if_neg q2, if_neg q2]
          have hc : CF u (pI u 1 5 (w.1 85 5)) := CF.rf.pI (by omega)
          have hr : RF w (pI (pI (pI w 85 12 (w.1 85 4)) 85 13 (0 : Int32)) 85 12 (w.1 85 5)) := ((RF.rf.pI (by omega)).pI (by omega)).pI (by omega)
          refine Fin2.of hc hr (fin_mk ?_ ?_ (Or.inr (Or.inl ⟨t1i, by decide⟩)))
          · unfold At
            rw [pI_k (show 4 ≠ 5 by decide), pI_k (show 4 ≠ 12 by decide), pI_k (show 4 ≠ 13 by decide), pI_k (show 4 ≠ 12 by decide)]
            exact hat
          · rw [pI_s, pI_s]
    show Fin2 u w (K_X10_readNext_1_0_b (K_X10_readNext_1_0 u0 fuel) u0 u) (K_X12_next_85_0_b (K_X12_next_85_0 w0 fuel) w0 w)
    have hm1 : (-1 : Int32).toInt = -1 := by decide
    simp only [K_X10_readNext_1_0_b, K_X12_next_85_0_b, vl]
    by_cases hend : (u.1 1 2).toInt ≤ (u.1 1 4).toInt
    · have hp : f_X12_peek_85 w = -1 := pk_end (by rw [← hL.1.1, ← hat.1]; exact hend)
      rw [if_pos hend, hp, if_neg (show ¬ (-1 : Int32).toInt = 32 by rw [hm1]; omega), if_pos (show (-1 : Int32).toInt ≠ 10 by rw [hm1]; omega)]
      exact hgo
    · have hp := pk_b hL hend
      rw [if_neg hend, hp]
      obtain ⟨b, hbq⟩ : ∃ b, u.1 2 (u.1 1 4).toNatClampNeg = b := ⟨_, rfl⟩
      have hrb := hL.2.1.2 (u.1 1 4).toNatClampNeg
      rw [hbq] at hrb
      rw [hbq]
      have h255 := and255 hrb
      by_cases h32 : b.toInt = 32
      · rw [if_pos h32, h255.1 (by omega), if_pos h32]
        exact hblank hend
      · rw [if_neg h32]
        by_cases h10 : b.toInt = 10
        · rw [if_neg (show ¬ b.toInt ≠ 10 from fun q => q h10), h255.1 (by omega), if_neg h32, if_neg (show ¬ b.toInt ≠ 10 from fun q => q h10)]
          exact hblank hend
        · rw [if_pos h10]
          have hc : (b &&& 255).toInt ≠ 32 ∧ (b &&& 255).toInt ≠ 10 := by
            rcases (show 0 ≤ b.toInt ∨ b.toInt < 0 by omega) with q | q
            · rw [h255.1 q]; exact ⟨h32, h10⟩
            · have := h255.2 q
              omega
          rw [if_neg hc.1, if_pos hc.2]
          exact hgo
/-- both read the next token -/
theorem rn_eq (u : ac_U) : f_X10_readNext_1 u = K_X10_readNext_1_0 u 942 u := rfl
theorem nx_eq (w : ac_U) : f_X12_next_85 w = K_X12_next_85_0 w 942 w := rfl
theorem lex {u w : ac_U} (hA : TdA u) (hL : Lx u w) : Fin2 u w (f_X10_readNext_1 u) (f_X12_next_85 w) := by
  rw [rn_eq, nx_eq]
  exact skip_sim u w 942 u w hA hL (by have := hL.2.2.2; omega)

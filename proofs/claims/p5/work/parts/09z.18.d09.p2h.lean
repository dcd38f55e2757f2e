/-! sentence() alike. -/
theorem c146 {w0 : ac_U} : ∀ (m n : Nat) (w : ac_U) (x : Int32), 0 ≤ (w.1 85 39).toInt → (w.1 85 39).toInt ≤ 45 → x.toInt = 3 * (w.1 85 39).toInt - (m : Int) → 0 ≤ x.toInt → m < n → (K_X12_sentence_85_146 w0 n w x).2 = w.1 85 40 ∧ (K_X12_sentence_85_146 w0 n w x).1.1 85 15 = w.1 85 15 := by
  intro m
  induction m with
  | zero =>
    intro n w x h0 h1 hx hx0 hn
    obtain ⟨k, rfl⟩ : ∃ k, n = k + 1 := ⟨n - 1, by omega⟩
    have hm : ((3 : Int32) * w.1 85 39).toInt = 3 * (w.1 85 39).toInt := i_mul (by decide : (3 : Int32).toInt = 3) rfl (by omega)
    have e : K_X12_sentence_85_146 w0 (k + 1) w x = (w, w.1 85 40) := by
      show K_X12_sentence_85_146_b (K_X12_sentence_85_146 w0 k) w0 w x = _
      simp only [K_X12_sentence_85_146_b, vl]
      rw [if_pos (by omega)]
    rw [e]
    exact ⟨rfl, rfl⟩
  | succ m ih =>
    intro n w x h0 h1 hx hx0 hn
    obtain ⟨k, rfl⟩ : ∃ k, n = k + 1 := ⟨n - 1, by omega⟩
    have hm : ((3 : Int32) * w.1 85 39).toInt = 3 * (w.1 85 39).toInt := i_mul (by decide : (3 : Int32).toInt = 3) rfl (by omega)
    have hx1 : (x + Int32.ofInt 1).toInt = x.toInt + 1 := i_add rfl (by decide : (Int32.ofInt 1).toInt = 1) (by omega)
    have e : K_X12_sentence_85_146 w0 (k + 1) w x = K_X12_sentence_85_146 w0 k (pI w 87 ((477 : Int32) + x).toNatClampNeg (w.1 89 x.toNatClampNeg)) (x + Int32.ofInt 1) := by
      show K_X12_sentence_85_146_b (K_X12_sentence_85_146 w0 k) w0 w x = _
      simp only [K_X12_sentence_85_146_b, vl]
      rw [if_neg (by omega)]
    have g : ∀ j, (pI w 87 ((477 : Int32) + x).toNatClampNeg (w.1 89 x.toNatClampNeg)).1 85 j = w.1 85 j := fun j => pI_c (by decide)
    rw [e]
    have hi := ih k (pI w 87 ((477 : Int32) + x).toNatClampNeg (w.1 89 x.toNatClampNeg)) (x + Int32.ofInt 1) (by rw [g]; exact h0) (by rw [g]; exact h1) (by rw [g]; omega) (by omega) (by omega)
    rw [g, g] at hi
    exact hi
theorem cp43 {x : ac_U} : (f_X8_copyFrom_43_47 x).1 43 4 = x.1 47 4 ∧ (f_X8_copyFrom_43_47 x).1 1 = x.1 1 := by
  unfold f_X8_copyFrom_43_47
  refine ⟨?_, ?_⟩
  · rw [cp_o (by decide), cp_o (by decide), cp_o (by decide)]
    exact pI_s
  · rw [cp_o (by decide), cp_o (by decide), cp_o (by decide)]
    rfl
set_option maxHeartbeats 4000000 in
theorem sentence_sim {u w : ac_U} (hb : ∀ k, u.1 2 k = w.1 86 k) (hl : u.1 1 2 = w.1 85 2) (hr : InR u) (hN : Nq u w) (h44 : u.1 4 4 = w.1 87 4) : (f_X11_sentence_0 u).2 = (f_X12_sentence_85 w).2 ∧ (f_X11_sentence_0 u).1.1 1 10 = (f_X12_sentence_85 w).1.1 85 15 := by
  -- both stand before the first token
  obtain ⟨ub, hub⟩ : ∃ ub, ub = pI (pI (pI (pI (pI (f_X8_clear_47 u) 1 3 (200 : Int32)) 1 4 (0 : Int32)) 1 5 (0 : Int32)) 1 10 (0 : Int32)) 1 11 (0 : Int32) := ⟨_, rfl⟩
  obtain ⟨wb, hwb⟩ : ∃ wb, wb = pI (pI (pI (pI (pI (pI (f_X12_taken_85 (pI w 85 0 (0 : Int32)) (200 : Int32)) 85 15 (0 : Int32)) 85 39 (0 : Int32)) 85 40 (0 : Int32)) 85 41 (0 : Int32)) 85 42 (1 : Int32)) 85 43 (0 : Int32) := ⟨_, rfl⟩
  have hc : f_X11_sentence_0 u = if (f_X9_readCond_51_d1 (f_X10_readNext_1 ub) (1 : Int32)).2.toInt = 0 then (pI (f_X9_readCond_51_d1 (f_X10_readNext_1 ub) (1 : Int32)).1 1 2 (0 : Int32), (-1 : Int32) - (f_X9_readCond_51_d1 (f_X10_readNext_1 ub) (1 : Int32)).1.1 1 11) else (if (f_X9_isAtEnd_51 (f_X9_readCond_51_d1 (f_X10_readNext_1 ub) (1 : Int32)).1).2.toInt = 0 then (pI (f_X9_isAtEnd_51 (f_X9_readCond_51_d1 (f_X10_readNext_1 ub) (1 : Int32)).1).1 1 2 (0 : Int32), (-1 : Int32) - (f_X9_isAtEnd_51 (f_X9_readCond_51_d1 (f_X10_readNext_1 ub) (1 : Int32)).1).1.1 1 11) else (f_X8_copyFrom_43_47 (pI (f_X9_isAtEnd_51 (f_X9_readCond_51_d1 (f_X10_readNext_1 ub) (1 : Int32)).1).1 1 2 (0 : Int32)), (f_X8_copyFrom_43_47 (pI (f_X9_isAtEnd_51 (f_X9_readCond_51_d1 (f_X10_readNext_1 ub) (1 : Int32)).1).1 1 2 (0 : Int32))).1 43 4)) := by
    have e32 : ∀ x, K_X11_sentence_0_32 u x = (pI x 1 2 (0 : Int32), (-1 : Int32) - x.1 1 11) := fun x => by
      unfold K_X11_sentence_0_32 K_X11_sentence_0_33
      exact if_neg n0
    have e33 : ∀ x, K_X11_sentence_0_33 u x (1 : Int32) = (f_X8_copyFrom_43_47 (pI x 1 2 (0 : Int32)), (f_X8_copyFrom_43_47 (pI x 1 2 (0 : Int32))).1 43 4) := fun x => by
      unfold K_X11_sentence_0_33
      exact if_pos n1
    have e : f_X11_sentence_0 u = (if (f_X9_readCond_51_d1 (f_X10_readNext_1 ub) (1 : Int32)).2.toInt = 0 then K_X11_sentence_0_32 u (f_X9_readCond_51_d1 (f_X10_readNext_1 ub) (1 : Int32)).1 else (if (f_X9_isAtEnd_51 (f_X9_readCond_51_d1 (f_X10_readNext_1 ub) (1 : Int32)).1).2.toInt = 0 then K_X11_sentence_0_32 u (f_X9_isAtEnd_51 (f_X9_readCond_51_d1 (f_X10_readNext_1 ub) (1 : Int32)).1).1 else K_X11_sentence_0_33 u (f_X9_isAtEnd_51 (f_X9_readCond_51_d1 (f_X10_readNext_1 ub) (1 : Int32)).1).1 (1 : Int32))) := by
      have hbg : f_X9_begin_51 u = f_X10_readNext_1 ub := by
        rw [hub]
        rfl
      simp only [f_X11_sentence_0, vl, bd, hbg]
    rw [e, e32, e32, e33]
  have hw : f_X12_sentence_85 w = LPs w 140 (f_X12_next_85 wb) := by
    rw [hwb]
    rfl
  have c1 : ub.1 1 2 = u.1 1 2 := by rw [hub]; rfl
  have c3 : ub.1 1 3 = 200 := by rw [hub]; rfl
  have c4 : ub.1 1 4 = 0 := by rw [hub]; rfl
  have c10 : ub.1 1 10 = 0 := by rw [hub]; rfl
  have c47 : ub.1 47 4 = 0 := by rw [hub]; rfl
  have d3 : wb.1 85 3 = w.1 85 2 := by rw [hwb]; rfl
  have d5 : wb.1 85 5 = 200 := by rw [hwb]; rfl
  have d4 : wb.1 85 4 = 0 := by rw [hwb]; rfl
  have d15 : wb.1 85 15 = 0 := by rw [hwb]; rfl
  have d39 : wb.1 85 39 = 0 := by rw [hwb]; rfl
  have d40 : wb.1 85 40 = 0 := by rw [hwb]; rfl
  have d41 : wb.1 85 41 = 0 := by rw [hwb]; rfl
  have d42 : wb.1 85 42 = 1 := by rw [hwb]; rfl
  have d43 : wb.1 85 43 = 0 := by rw [hwb]; rfl
  have cb : ub.1 2 = u.1 2 := by rw [hub]; rfl
  have db : wb.1 86 = w.1 86 := by rw [hwb]; rfl
  have cN : Nq ub wb := hN.to (by rw [hub]; rfl) (by rw [hub]; rfl) (by rw [hub]; rfl) (by rw [hub]; rfl) (by rw [hwb]; rfl)
  have c44 : ub.1 4 4 = wb.1 87 4 := by
    have e1 : ub.1 4 4 = u.1 4 4 := by rw [hub]; rfl
    have e2 : wb.1 87 4 = w.1 87 4 := by rw [hwb]; rfl
    rw [e1, e2]; exact h44
  clear hub hwb
  have hIn : InE ub wb := ⟨by rw [c1, d3]; exact hl, by rw [c3, d5], fun k => by rw [cb, db]; exact hb k, by rw [c10, d15]⟩
  have hRr : InR ub := by unfold InR; rw [c1, cb]; exact hr
  have hAt : At ub wb := by unfold At; rw [c4, d4, t0i]; exact ⟨rfl, by omega, by omega⟩
  obtain ⟨f1, f2, f3, f4⟩ := lex (fun _ _ => rfl) ⟨hIn, hRr, hAt⟩
  have hS : OS (f_X10_readNext_1 ub) (f_X12_next_85 wb) [] 1 := by
    refine ⟨⟨⟨hIn.to f1 f2, hRr.to f1, f3, f4⟩, ⟨?_, ?_, ?_⟩, ?_, ?_, ?_⟩, ⟨?_, trivial⟩, ?_, ?_, ?_, ?_⟩
    · rw [f1.1 47 4 (by omega), f2.1 85 40 (by omega), c47, d40]
    · rw [f1.1 47 4 (by omega), c47, t0i]; omega
    · rw [f1.1 47 4 (by omega), c47, t0i]; omega
    · exact cN.to (funext fun k => f1.1 4 k (by omega)) (funext fun k => f1.2 10 k (by omega)) (funext fun k => f1.1 11 k (by omega)) (funext fun k => f1.1 12 k (by omega)) (funext fun k => f2.2 90 k (by omega))
    · rw [f1.1 4 4 (by omega), f2.1 87 4 (by omega)]; exact c44
    · rw [f1.1 1 10 (by omega), f2.1 85 15 (by omega), c10, d15]
    · rw [f2.1 85 41 (by omega), d41, t0i]; rfl
    · rw [f2.1 85 43 (by omega), d43]
    · rw [f2.1 85 42 (by omega), d42, t1i]; rfl
    · rw [f2.1 85 39 (by omega), d39, t0i]; omega
    · unfold Cd
      rw [f2.1 85 39 (by omega), d39, f1.1 47 4 (by omega), c47, t0i]
      decide
  have hM := ms_O hS
  have ho : ((f_X10_readNext_1 ub).1 47 4).toInt = 0 := by rw [f1.1 47 4 (by omega), c47, t0i]
  rw [ho] at hM
  have hq := cond_1 (f_X10_readNext_1 ub) (f_X12_next_85 wb) w [] (1 : Int32) (by decide) hS (by simp) (by simp) (by simp)
  rw [hc, hw]
  generalize f_X9_readCond_51_d1 (f_X10_readNext_1 ub) (1 : Int32) = q at hq ⊢
  generalize f_X12_next_85 wb = v at hq hM ⊢
  have hM : Ms v = 84 := by rw [hM]; rfl
  have fin : ∀ u', Fl w v u' → (LPs w 140 v).2 = (-1 : Int32) - u'.1 1 11 ∧ u'.1 1 10 = (LPs w 140 v).1.1 85 15 := fun u' hf => by
    obtain ⟨k, w', g1, g2, g3⟩ := hf
    have := g2 (140 - k)
    rw [show 140 - k + k = 140 by omega] at this
    rw [this]
    exact ⟨by rw [g3.2], g3.1⟩
  rcases hq with ⟨h1, h2, h3, h4, h5, w', k, a, h6, h7, h8⟩ | ⟨h1, h2⟩
  · rw [h1, if_neg n1']
    have h8 : WS q.1 w' (List.replicate k 20 ++ (a ++ [])) (1 + k) := h8
    obtain ⟨w1, w2, e1, e2, q1, q2⟩ := h8.pops (d := 1) (p := (22 : Int32)) (by decide) (by simp) (by simp) (fun _ => by simp) (fun x hx => (h6 x hx).imp id (fun z => ⟨z, by decide⟩))
    have hT := h8.1.1.2.2.2
    have hT1 := q1.1.2.2.2
    have hT2 := q2.1.1.2.2.2
    have m1 := ms_W h8
    have o20 := h8.1.2.1.2.2
    have a41 : (41 : Int32).toInt = 41 := by decide
    have htop := q2.2.1.1
    have htop : (w2.1 85 41).toInt = 0 := htop
    have eA1 : (q.1.1 1 6).toInt = 0 → f_X9_isAtEnd_51 q.1 = (q.1, 1) := fun ht => by
      unfold f_X9_isAtEnd_51 K_X9_isAtEnd_51_21
      rw [if_pos ht]
    have eA0 : ¬ (q.1.1 1 6).toInt = 0 → f_X9_isAtEnd_51 q.1 = ((f_X10_fail_1 q.1 (1 : Int32)).1, 0) := fun ht => by
      unfold f_X9_isAtEnd_51
      rw [if_neg ht]
      show (if (f_X10_fail_1 q.1 (1 : Int32)).2.toInt = 0 then ((f_X10_fail_1 q.1 (1 : Int32)).1, (0 : Int32)) else ((f_X10_fail_1 q.1 (1 : Int32)).1, 0)) = _
      exact if_pos t0i
    by_cases ht : (q.1.1 1 6).toInt = 0
    · rw [eA1 ht, if_neg n1']
      have hst := (hT.st).mpr ht
      obtain ⟨j, r1, r2⟩ := h7
      have hj : j + 2 ≤ 140 := by omega
      have e3 : LPs w 140 v = K_X12_sentence_85_146 w 137 (pI w2 87 476 (w2.1 85 39)) (0 : Int32) := by
        have h3 := r2 (140 - j)
        rw [show 140 - j + j = 140 by omega] at h3
        rw [h3, show 140 - j = (138 - j) + 1 + 1 by omega, lp_st h8.2.2.1 hst, e1, e2, if_pos (by omega)]
        show K_X12_sentence_85_48_b (K_X12_sentence_85_48 w (138 - j)) w w2 (0 : Int32) = _
        exact if_pos t0i
      have g : ∀ i, (pI w2 87 476 (w2.1 85 39)).1 85 i = w2.1 85 i := fun i => pI_c (by decide)
      have s5 := q2.2.2.2.2.1
      have s6 := q2.2.2.2.2.2
      unfold Cd at s6
      have hf := c146 (w0 := w) (3 * (w2.1 85 39).toInt).toNat 137 (pI w2 87 476 (w2.1 85 39)) (0 : Int32) (by rw [g]; exact s5) (by rw [g]; simp at s6; omega) (by rw [g, t0i]; omega) (by rw [t0i]; omega) (by simp at s6; omega)
      rw [e3]
      obtain ⟨cp1, cp2⟩ := cp43 (x := pI q.1 1 2 (0 : Int32))
      rw [g, g] at hf
      refine ⟨?_, ?_⟩
      · show (f_X8_copyFrom_43_47 (pI q.1 1 2 (0 : Int32))).1 43 4 = _
        rw [cp1, hf.1, pI_c (by decide)]
        exact q2.1.2.1.1
      · show (f_X8_copyFrom_43_47 (pI q.1 1 2 (0 : Int32))).1 1 10 = _
        rw [cp2, hf.2, pI_k (by decide)]
        exact q2.1.2.2.2.2
    · rw [eA0 ht, if_pos t0i]
      have hst : ¬ (w'.1 85 11).toInt = 0 := fun z => ht ((hT.st).mp z)
      have e := bh_no (w := w') (by rw [e1]; exact (ws15 hT1).2 h4) (by rw [e1]; exact (ws14 hT1).2 h5)
      rw [e1, e2, if_neg (show ¬ (w2.1 85 41).toInt ≠ 0 from fun z => z htop)] at e
      have e : f_X12_behind_85 w' = f_X12_bad_85 w2 (1 : Int32) := by
        rw [e]
        by_cases z : (f_X12_isSign_85 w2 (41 : Int32)).toInt = 0
        · rw [if_pos z]
        · rw [if_neg z]
      have hf := fin _ (h7.fl (fl_bh h8.2.2.1 hst e (by omega) (fail_Ft (p := (1 : Int32)) hT2)))
      refine ⟨?_, ?_⟩
      · show (-1 : Int32) - (f_X10_fail_1 q.1 (1 : Int32)).1.1 1 11 = _
        exact hf.1.symm
      · show (pI (f_X10_fail_1 q.1 (1 : Int32)).1 1 2 (0 : Int32)).1 1 10 = _
        rw [pI_k (by decide)]
        exact hf.2
  · rw [h1, if_pos t0i]
    have hf := fin _ h2
    refine ⟨?_, ?_⟩
    · show (-1 : Int32) - q.1.1 1 11 = _
      exact hf.1.symm
    · show (pI q.1 1 2 (0 : Int32)).1 1 10 = _
      rw [pI_k (by decide)]
      exact hf.2

/-! One level of the class's reader, given the next. -/
theorem nn1 : (1 : Int32).toInt ≠ 0 := by decide
theorem nn0 : ¬ (0 : Int32).toInt ≠ 0 := by decide
theorem not_ok {d : Nat} {one : ac_U → Int32 → ac_U × Int32} (hd : d ≤ 8) (hO : OneOK (d + 1) one) : NotOK d (notB one) := by
  intro u w w0 σ p hp hos
  have hp1 : (p + 1).toInt = ((d + 1 : Nat) : Int) := by rw [inc_i (by omega)]; omega
  have h := hO (f_X10_readNext_1 u) w w0 (20 :: σ) (p + 1) hp1 hos
  unfold notB
  simp only [bd]
  generalize one (f_X10_readNext_1 u) (p + 1) = q at h ⊢
  rcases h with ⟨h1, h2, h3, w', k, h4, h5⟩ | ⟨h1, h2⟩
  · rw [h1, if_pos n1]
    refine Or.inl ⟨rfl, by omega, ?_, w', k, h4, h5.add⟩
    show _ ≤ ((f_X8_add_47 q.1 (116 : Int32) (0 : Int32) (0 : Int32)).1 47 4).toInt
    rw [add_S.1 47 4 (by omega)]
    omega
  · rw [h1, if_neg n0]
    exact Or.inr ⟨rfl, h2⟩
theorem not_ok8 {one : ac_U → Int32 → ac_U × Int32} (hO : OneOK 9 one) : NotOK 8 (not8 one) := by
  intro u w w0 σ p hp hos
  have hp1 : (p + 1).toInt = ((9 : Nat) : Int) := by
    rw [inc_i (by omega)]; omega
  have h := hO (f_X10_readNext_1 u) w w0 (20 :: σ) (p + 1) hp1 hos
  unfold not8
  simp only [bd]
  generalize one (f_X10_readNext_1 u) (p + 1) = q at h ⊢
  rcases h with ⟨h1, h2, h3, w', k, h4, h5⟩ | ⟨h1, h2⟩
  · omega
  · rw [h1, if_neg n0]
    exact Or.inr ⟨rfl, h2⟩
theorem brk_ok {d : Nat} {cond : ac_U → Int32 → ac_U × Int32} (hd : d ≤ 8) (hC : CondOK (d + 1) cond) : BrkOK d (brkB cond) := by
  intro u w w0 σ p hp hos
  have hp1 : (p + 1).toInt = ((d + 1 : Nat) : Int) := by rw [inc_i (by omega)]; omega
  have h := hC (f_X10_readNext_1 u) w w0 (23 :: σ) (p + 1) hp1 hos (by simp) (by simp) (by simp)
  unfold brkB
  simp only [bd]
  generalize cond (f_X10_readNext_1 u) (p + 1) = q at h ⊢
  rcases h with ⟨h1, h2, h3, h4, h5, w', k, a, h6, h7, h8⟩ | ⟨h1, h2⟩
  · rw [h1, if_pos n1]
    obtain ⟨g1, g2⟩ := ws_end (w0 := w0) h8 (by omega) h6 h4 h5
    by_cases ht : (q.1.1 1 6).toInt = 41
    · rw [if_pos ht]
      obtain ⟨w4, r1, r2⟩ := g1 ht
      refine Or.inl ⟨rfl, by omega, ?_, w4, h7.tr r1, r2⟩
      have hn := (h8.1.nx).2.1.o
      show _ ≤ ((f_X10_readNext_1 q.1).1 47 4).toInt
      rw [hn]
      omega
    · rw [if_neg ht]
      exact Or.inr ⟨rfl, h7.fl (g2 ht)⟩
  · rw [h1, if_neg n0]
    exact Or.inr ⟨rfl, h2⟩
theorem psh_OS {u v : ac_U} {σ : List Nat} {d x' : Nat} {x : Int32} (s1 : Sq u v) (s2 : Sk v σ) (s3 : v.1 85 43 = 0) (s4 : (v.1 85 42).toInt = (d : Int)) (hd : d ≤ 8) (s5 : 0 ≤ (v.1 85 39).toInt) (s6 : Cd v σ + 1 ≤ 2 * (u.1 47 4).toInt) (hx : x.toInt = (x' : Int)) : OS u (psh v x) (x' :: σ) (d + 1) := by
  have o20 := s1.2.1.2.2
  have hl := Cd_len (σ := σ) s5
  obtain ⟨t1, t2⟩ := psh_top s2 (by omega)
  have hrs : RS v (psh v x) := (RS.rf.q.p (by omega)).p (by omega)
  have k41 : (psh v x).1 85 41 = v.1 85 41 + 1 := by unfold psh; rw [pI_k (by decide), pI_s]
  have k42 : (psh v x).1 85 42 = v.1 85 42 + 1 := by unfold psh; rw [pI_s]
  have k43 : (psh v x).1 85 43 = v.1 85 43 := by unfold psh; rw [pI_k (by decide), pI_k (by decide), pI_c (by decide)]
  have k39 : (psh v x).1 85 39 = v.1 85 39 := by unfold psh; rw [pI_k (by decide), pI_k (by decide), pI_c (by decide)]
  have k100 : (psh v x).1 100 σ.length = x := by unfold psh; rw [pI_c (by decide), pI_c (by decide), t1, pI_s]
  have j100 : ∀ i, i < σ.length → (psh v x).1 100 i = v.1 100 i := fun i hi => by unfold psh; rw [pI_c (by decide), pI_c (by decide), pI_k (by omega)]
  refine ⟨s1.r hrs, ⟨by rw [k41, t2, List.length_cons], by rw [k100]; exact hx, stP_cg σ j100 s2.2⟩, ?_, ?_, ?_, ?_⟩
  · rw [k43]; exact s3
  · rw [k42, inc_i (by omega)]; omega
  · rw [k39]; exact s5
  · unfold Cd at s6 ⊢
    rw [k39, List.length_cons]
    omega
/-- both have counted a ONE and gone behind its word -/
theorem OS.next {u w : ac_U} {σ : List Nat} {d : Nat} (h : OS u w σ d) (h20 : (u.1 47 4).toInt < 20) {u1 : ac_U} (hu : Sq u1 (pI w 85 40 (w.1 85 40 + 1))) (ho : (u1.1 47 4).toInt = (u.1 47 4).toInt + 1) : Sq (f_X10_readNext_1 u1) (f_X12_next_85 (pI w 85 40 (w.1 85 40 + 1))) ∧ Sk (f_X12_next_85 (pI w 85 40 (w.1 85 40 + 1))) σ ∧ (f_X12_next_85 (pI w 85 40 (w.1 85 40 + 1))).1 85 43 = 0 ∧ ((f_X12_next_85 (pI w 85 40 (w.1 85 40 + 1))).1 85 42).toInt = (d : Int) ∧ 0 ≤ ((f_X12_next_85 (pI w 85 40 (w.1 85 40 + 1))).1 85 39).toInt ∧ Cd (f_X12_next_85 (pI w 85 40 (w.1 85 40 + 1))) σ + 2 ≤ 2 * ((f_X10_readNext_1 u1).1 47 4).toInt ∧ ((f_X10_readNext_1 u1).1 47 4).toInt = (u.1 47 4).toInt + 1 := by
  obtain ⟨h1, h2, h3, h4, h5, h6⟩ := h
  obtain ⟨n1, n2, n3⟩ := hu.nx
  have e85 : ∀ k, k ≠ 40 → (pI w 85 40 (w.1 85 40 + 1)).1 85 k = w.1 85 k := fun k hk => pI_k hk
  have e100 : ∀ k, (pI w 85 40 (w.1 85 40 + 1)).1 100 k = w.1 100 k := fun k => pI_c (by decide)
  have hSk : Sk (pI w 85 40 (w.1 85 40 + 1)) σ := ⟨by rw [e85 41 (by decide)]; exact h2.1, stP_cg σ (fun i _ => e100 i) h2.2⟩
  have hcd : Cd (pI w 85 40 (w.1 85 40 + 1)) σ = Cd w σ := by unfold Cd; rw [e85 39 (by decide)]
  refine ⟨n1, n3.sk hSk, ?_, ?_, ?_, ?_, ?_⟩
  · rw [n3.1 85 43 (by omega), e85 43 (by decide)]; exact h3
  · rw [n3.1 85 42 (by omega), e85 42 (by decide)]; exact h4
  · rw [n3.1 85 39 (by omega), e85 39 (by decide)]; exact h5
  · rw [n3.cd, n2.o, hcd]; omega
  · rw [n2.o]; exact ho
theorem opl_RS {v : ac_U} : RS v (opl v) := RS.rf.p (by omega)
theorem opl_43 {v : ac_U} : (opl v).1 85 43 = 1 := pI_s
theorem opl_k {v : ac_U} {k : Nat} (h : k ≠ 43) : (opl v).1 85 k = v.1 85 k := pI_k h
theorem opl_100 {v : ac_U} {k : Nat} : (opl v).1 100 k = v.1 100 k := pI_c (by decide)
/-- an operand that is all there -/
theorem leaf_WS {u v y : ac_U} {σ : List Nat} {d : Nat} {o : Int} (sq : Sq u y) (r41 : y.1 85 41 = v.1 85 41) (r100 : ∀ i, y.1 100 i = v.1 100 i) (r43 : y.1 85 43 = 1) (r42 : y.1 85 42 = v.1 85 42) (r39 : y.1 85 39 = v.1 85 39 + 1) (s2 : Sk v σ) (s4 : (v.1 85 42).toInt = (d : Int)) (s5 : 0 ≤ (v.1 85 39).toInt) (s6 : Cd v σ + 2 ≤ 2 * o) (ho : (u.1 47 4).toInt = o) : WS u y (List.replicate 0 20 ++ σ) (d + 0) := by
  have o20 := sq.2.1.2.2
  have hl : 0 ≤ (σ.length : Int) := by omega
  have hi : (v.1 85 39 + 1).toInt = (v.1 85 39).toInt + 1 := inc_i (by unfold Cd at s6; omega)
  refine ⟨sq, ⟨by rw [r41]; exact s2.1, stP_cg σ (fun i _ => r100 i) s2.2⟩, r43, by rw [r42]; exact s4, by rw [r39]; omega, ?_⟩
  show Cd y σ + 1 ≤ _
  unfold Cd at s6 ⊢
  rw [r39]
  omega
set_option maxHeartbeats 4000000 in
theorem one_ok {d : Nat} {rn rb : ac_U → Int32 → ac_U × Int32} (hd : d ≤ 8) (hN : NotOK d rn) (hB : BrkOK d rb) : OneOK d (oneB rn rb) := by
  intro u w w0 σ p hp h
  have hT := h.1.1.2.2.2
  have hM := ms_O h
  obtain ⟨s1, s2, s3, s4, s5, s6⟩ := h
  have hos : OS u w σ d := ⟨s1, s2, s3, s4, s5, s6⟩
  have o40 := s1.2.1.1
  have o0 := s1.2.1.2.1
  have o20 := s1.2.1.2.2
  by_cases hnv : ¬ ((u.1 1 6).toInt = 40 ∨ (116 ≤ (u.1 1 6).toInt ∧ (u.1 1 6).toInt ≤ 126))
  · have e : oneB rn rb u p = f_X10_fail_1 u (1 : Int32) := by
      unfold oneB
      rw [if_neg (by omega)]
      by_cases q : (u.1 1 6).toInt < 116
      · rw [if_pos q]
      · rw [if_neg q, if_neg (by omega)]
    rw [e]
    exact Or.inr ⟨rfl, fl_op s3 (op_bad hT (by omega)) (by omega) (fail_Ft hT)⟩
  have hv : (u.1 1 6).toInt = 40 ∨ (116 ≤ (u.1 1 6).toInt ∧ (u.1 1 6).toInt ≤ 126) := Classical.not_not.mp hnv
  have e : oneB rn rb u p = oneX rn rb u p (u.1 1 6) := by
    unfold oneB
    by_cases q : (u.1 1 6).toInt = 40
    · rw [if_pos q]
    · rw [if_neg q, if_neg (by omega), if_pos (by omega)]
  rw [e]
  unfold oneX
  by_cases h20 : (20 : Int) ≤ (u.1 47 4).toInt
  · rw [if_pos h20]
    exact Or.inr ⟨rfl, fl_op s3 (op_many hT hv (Or.inl (by rw [← o40]; omega))) (by omega) (fail_Ft hT)⟩
  rw [if_neg h20, if_pos (show p.toInt ≤ 8 by omega)]
  have g20 : ¬ (w.1 85 40).toInt = 20 := by rw [← o40]; omega
  have g8 : (w.1 85 42).toInt ≤ 8 := by omega
  obtain ⟨q1, q2⟩ := s1.one (by omega)
  have q3 : ((pI u 47 4 (u.1 47 4 + 1)).1 47 4).toInt = (u.1 47 4).toInt + 1 := by rw [pI_s]; exact q2
  generalize pI u 47 4 (u.1 47 4 + 1) = u1 at q1 q3 ⊢
  by_cases t40 : (u.1 1 6).toInt = 40
  · rw [if_neg (fun z => z t40)]
    obtain ⟨n1, n2, n3, n4, n5, n6, n7⟩ := hos.next (by omega) q1 q3
    have hO := psh_OS (x := (23 : Int32)) (x' := 23) n1 n2 n3 n4 hd n5 (by omega) (by decide)
    have hr : Rc w0 w (psh (f_X12_next_85 (pI w 85 40 (w.1 85 40 + 1))) (23 : Int32)) := rc_op s3 (op_open hT t40 g20 g8) (by have := ms_O hO; rw [n7, List.length_cons] at this; omega)
    rcases hB u1 _ w0 σ p hp hO with ⟨b1, b2, b3, w', b4, b5⟩ | ⟨b1, b2⟩
    · exact Or.inl ⟨b1, hd, by omega, w', 0, hr.tr b4, b5⟩
    · exact Or.inr ⟨b1, hr.fl b2⟩
  rw [if_pos t40]
  by_cases t116 : (u.1 1 6).toInt = 116
  · rw [if_neg (fun z => z t116)]
    obtain ⟨n1, n2, n3, n4, n5, n6, n7⟩ := hos.next (by omega) q1 q3
    have hO := psh_OS (x := (20 : Int32)) (x' := 20) n1 n2 n3 n4 hd n5 (by omega) (by decide)
    have hr : Rc w0 w (psh (f_X12_next_85 (pI w 85 40 (w.1 85 40 + 1))) (20 : Int32)) := rc_op s3 (op_not hT t116 g20 g8) (by have := ms_O hO; rw [n7, List.length_cons] at this; omega)
    rcases hN u1 _ w0 σ p hp hO with ⟨b1, b2, b3, w', k, b4, b5⟩ | ⟨b1, b2⟩
    · refine Or.inl ⟨b1, hd, by omega, w', k + 1, hr.tr b4, ?_⟩
      have el : List.replicate (k + 1) 20 ++ σ = List.replicate k 20 ++ 20 :: σ := by
        rw [List.replicate_succ', List.append_assoc]; rfl
      rw [el, show d + (k + 1) = d + 1 + k by omega]
      exact b5
    · exact Or.inr ⟨b1, hr.fl b2⟩
  rw [if_pos t116]
  by_cases t122 : (u.1 1 6).toInt = 122
  · rw [if_neg (fun z => z t122)]
    obtain ⟨n1, n2, n3, n4, n5, n6, n7⟩ := hos.next (by omega) q1 q3
    obtain ⟨L, eo⟩ := op_of hT t122 g20 g8
    simp only [f_X9_readOf_51, vl, bd]
    generalize f_X10_readNext_1 u1 = u2 at *
    generalize f_X12_next_85 (pI w 85 40 (w.1 85 40 + 1)) = v at *
    have hsv := n1.r (opl_RS (v := v))
    have hpn : u2.1 4 4 = v.1 87 4 := n1.2.2.2.1
    have hk := known4_sim (s := 1) (p0 := (8 : Int32)) (p1 := (1 : Int32)) hsv.1.2.2.2 hsv.2.2.1 (by decide) (by decide) (by decide)
    have hk : Tw (f_X10_isKnown_1_4 u2 (1 : Int32)) (f_X12_looksAt_85 (opl v) (8 : Int32) (u2.1 4 4)) (fun u' w' => ∃ x : Int32, u' = pI u2 1 9 x ∧ w' = pI (opl v) 85 18 x ∧ 0 ≤ x.toInt ∧ x.toInt < (u2.1 4 4).toInt) := hk
    rw [hpn] at hk
    generalize f_X10_isKnown_1_4 u2 (1 : Int32) = A at hk ⊢
    generalize f_X12_looksAt_85 (opl v) (8 : Int32) (v.1 87 4) = B at hk eo
    rcases hk with ⟨k1, k2, x, k3, k4, _⟩ | ⟨k1, k2, k3⟩
    · rw [k1, if_pos nn1]
      rw [k2, if_pos nn1] at eo
      have hsA : Sq (pI u2 1 9 x) (pI (opl v) 85 18 x) := hsv.mk2 (fun k hk => pI_k hk) rfl rfl rfl rfl rfl rfl (RS.rf.p (by omega))
      have hsB : Sq (f_X8_add_47 A.1 (122 : Int32) (0 : Int32) (A.1.1 1 9)) (f_X12_code_85 B.1 L (0 : Int32) (B.1.1 85 18)) := by
        rw [k3, k4]
        exact (hsA.r RS.rf.code).add
      obtain ⟨m1, m2, m3⟩ := hsB.nx
      obtain ⟨c1, c2, c3⟩ := code_S (w := B.1) (a := L) (b := (0 : Int32)) (c := B.1.1 85 18)
      have b85 : ∀ k, k ≠ 18 → k ≠ 43 → B.1.1 85 k = v.1 85 k := fun k h1 h2 => by rw [k4, pI_k h1, opl_k h2]
      have b43 : B.1.1 85 43 = 1 := by rw [k4, pI_k (by decide), opl_43]
      have b100 : ∀ k, B.1.1 100 k = v.1 100 k := fun k => by rw [k4, pI_c (by decide), opl_100]
      have hones : ((f_X10_readNext_1 (f_X8_add_47 A.1 (122 : Int32) (0 : Int32) (A.1.1 1 9))).1 47 4).toInt = (u.1 47 4).toInt + 1 := by
        rw [m2.o, add_S.1 47 4 (by omega), k3, pI_c (by decide)]; exact n7
      have hW := leaf_WS (v := v) (σ := σ) (d := d) (o := (u.1 47 4).toInt + 1) m1 (by rw [m3.1 85 41 (by omega), c1 85 41 (by omega), b85 41 (by decide) (by decide)]) (fun i => by rw [m3.1 100 i (by omega), c1 100 i (by omega), b100 i]) (by rw [m3.1 85 43 (by omega), c1 85 43 (by omega), b43]) (by rw [m3.1 85 42 (by omega), c1 85 42 (by omega), b85 42 (by decide) (by decide)]) (by rw [m3.1 85 39 (by omega), c3, b85 39 (by decide) (by decide)]) n2 n4 n5 (by omega) hones
      refine Or.inl ⟨rfl, hd, ?_, _, 0, rc_op s3 eo ?_, hW⟩
      · show _ ≤ ((f_X10_readNext_1 (f_X8_add_47 A.1 (122 : Int32) (0 : Int32) (A.1.1 1 9))).1 47 4).toInt
        omega
      · have := ms_W hW
        have hl : (List.replicate 0 20 ++ σ).length = σ.length := by simp
        rw [hl, hones] at this
        omega
    · rw [k1, if_neg nn0]
      rw [k2, if_neg nn0] at eo
      exact Or.inr ⟨rfl, fl_op s3 eo (by omega) k3⟩
  rw [if_pos t122]
  by_cases t121 : (u.1 1 6).toInt ≤ 122
  · rw [if_pos t121]
    obtain ⟨L, eo⟩ := op_leaf hT (by omega) g20 g8
    simp only [f_X9_readStatus_51, vl]
    obtain ⟨n1, n2, n3, n4, n5, n6, n7⟩ := hos.next (by omega) (q1.add (a := u.1 1 6) (b := (0 : Int32)) (c := (0 : Int32))) (by rw [add_S.1 47 4 (by omega)]; exact q3)
    generalize f_X10_readNext_1 (f_X8_add_47 u1 (u.1 1 6) (0 : Int32) (0 : Int32)) = u2 at *
    generalize f_X12_next_85 (pI w 85 40 (w.1 85 40 + 1)) = v at *
    obtain ⟨c1, c2, c3⟩ := code_S (w := opl v) (a := L) (b := (0 : Int32)) (c := (0 : Int32))
    have hW := leaf_WS (v := v) (σ := σ) (d := d) (o := (u.1 47 4).toInt + 1) ((n1.r opl_RS).r (RS.rf.code (a := L) (b := (0 : Int32)) (c := (0 : Int32)))) (by rw [c1 85 41 (by omega), opl_k (by decide)]) (fun i => by rw [c1 100 i (by omega), opl_100]) (by rw [c1 85 43 (by omega), opl_43]) (by rw [c1 85 42 (by omega), opl_k (by decide)]) (by rw [c3, opl_k (by decide)]) n2 n4 n5 (by omega) n7
    refine Or.inl ⟨trivial, hd, ?_, _, 0, rc_op s3 eo ?_, hW⟩
    · show _ ≤ (u2.1 47 4).toInt
      omega
    · have := ms_W hW
      have hl : (List.replicate 0 20 ++ σ).length = σ.length := by simp
      rw [hl, n7] at this
      omega
  rw [if_neg t121]
  obtain ⟨n1, n2, n3, n4, n5, n6, n7⟩ := hos.next (by omega) q1 q3
  obtain ⟨L, eo⟩ := op_cmp hT (by omega) g20 g8
  simp only at eo
  simp only [f_X9_readCompare_51, vl, bd]
  generalize f_X10_readNext_1 u1 = u2 at *
  generalize f_X12_next_85 (pI w 85 40 (w.1 85 40 + 1)) = v at *
  have hTv := n1.1.2.2.2
  have hTo := (n1.r (opl_RS (v := v))).1.2.2.2
  by_cases hc : (u2.1 1 6).toInt = 60 ∨ (u2.1 1 6).toInt = 61 ∨ (u2.1 1 6).toInt = 62
  · have hv3 : (v.1 85 11).toInt = 3 ∧ (v.1 85 14).toInt = (u2.1 1 6).toInt := by
      obtain ⟨-, z | z | z | z | z⟩ := hTv
      · omega
      · omega
      · omega
      · exact ⟨z.2.1, z.2.2⟩
      · obtain ⟨z1, n, -, d1, d2⟩ := z
        exfalso
        by_cases hall : ∀ j : Nat, j < 27 → n ≠ toldN j
        · have := d2 hall; omega
        · obtain ⟨j, hj⟩ := Classical.not_forall.mp hall
          have hj1 : j < 27 := Classical.byContradiction (fun a => hj (fun b => absurd b a))
          have hj2 : n = toldN j := Classical.byContradiction (fun a => hj (fun _ => a))
          have := d1 j hj1 hj2
          omega
    rw [cm1 hc, if_pos nn1]
    rw [if_neg (fun z => z hv3.1), if_neg (by omega), if_pos (by omega)] at eo
    obtain ⟨m1, m2, m3⟩ := (n1.r (opl_RS (v := v))).nx
    generalize f_X10_readNext_1 u2 = u5 at *
    have y85 : ∀ k, 39 ≤ k → k ≠ 43 → (f_X12_next_85 (opl v)).1 85 k = v.1 85 k := fun k h1 h2 => by rw [m3.1 85 k (by omega), opl_k h2]
    have y43 : (f_X12_next_85 (opl v)).1 85 43 = 1 := by rw [m3.1 85 43 (by omega), opl_43]
    have y100 : ∀ k, (f_X12_next_85 (opl v)).1 100 k = v.1 100 k := fun k => by rw [m3.1 100 k (by omega), opl_100]
    generalize f_X12_next_85 (opl v) = y at *
    have hTy := m1.1.2.2.2
    by_cases h3 : (u5.1 1 6).toInt = 3
    · have hy2 : (y.1 85 11).toInt = 2 := by
        obtain ⟨-, z | z | z | z | z⟩ := hTy
        · omega
        · omega
        · exact z.2.1
        · have z1 := z.1; unfold isSg at z1; omega
        · obtain ⟨z1, n, -, d1, d2⟩ := z
          exfalso
          by_cases hall : ∀ j : Nat, j < 27 → n ≠ toldN j
          · have := d2 hall; omega
          · obtain ⟨j, hj⟩ := Classical.not_forall.mp hall
            have hj1 : j < 27 := Classical.byContradiction (fun a => hj (fun b => absurd b a))
            have hj2 : n = toldN j := Classical.byContradiction (fun a => hj (fun _ => a))
            have := d1 j hj1 hj2
            omega
      rw [if_pos h3]
      rw [if_pos hy2] at eo
      have hsB : Sq (f_X8_add_47 u5 (u.1 1 6) (u2.1 1 6) (u5.1 1 8)) (f_X12_code_85 y L (v.1 85 14) (y.1 85 14)) := (m1.r RS.rf.code).add
      obtain ⟨p1, p2, p3⟩ := hsB.nx
      obtain ⟨c1, c2, c3⟩ := code_S (w := y) (a := L) (b := v.1 85 14) (c := y.1 85 14)
      have hones : ((f_X10_readNext_1 (f_X8_add_47 u5 (u.1 1 6) (u2.1 1 6) (u5.1 1 8))).1 47 4).toInt = (u.1 47 4).toInt + 1 := by
        rw [p2.o, add_S.1 47 4 (by omega), m2.o]; exact n7
      have hW := leaf_WS (v := v) (σ := σ) (d := d) (o := (u.1 47 4).toInt + 1) p1 (by rw [p3.1 85 41 (by omega), c1 85 41 (by omega), y85 41 (by decide) (by decide)]) (fun i => by rw [p3.1 100 i (by omega), c1 100 i (by omega), y100 i]) (by rw [p3.1 85 43 (by omega), c1 85 43 (by omega), y43]) (by rw [p3.1 85 42 (by omega), c1 85 42 (by omega), y85 42 (by decide) (by decide)]) (by rw [p3.1 85 39 (by omega), c3, y85 39 (by decide) (by decide)]) n2 n4 n5 (by omega) hones
      refine Or.inl ⟨rfl, hd, ?_, _, 0, rc_op s3 eo ?_, hW⟩
      · show _ ≤ ((f_X10_readNext_1 (f_X8_add_47 u5 (u.1 1 6) (u2.1 1 6) (u5.1 1 8))).1 47 4).toInt
        omega
      · have := ms_W hW
        have hl : (List.replicate 0 20 ++ σ).length = σ.length := by simp
        rw [hl, hones] at this
        omega
    · have hy2 : ¬ (y.1 85 11).toInt = 2 := by
        obtain ⟨-, z | z | z | z | z⟩ := hTy
        · omega
        · omega
        · omega
        · omega
        · omega
      rw [if_neg h3]
      rw [if_neg hy2] at eo
      exact Or.inr ⟨rfl, fl_op s3 eo (by omega) (fail_Ft hTy)⟩
  · rw [cm0 hc, if_neg nn0]
    have hbad : f_X12_operand_85 w = f_X12_bad_85 (opl v) (1 : Int32) := by
      rw [eo]
      by_cases z3 : (v.1 85 11).toInt ≠ 3
      · rw [if_pos z3]
      · rw [if_neg z3]
        have z4 : (v.1 85 14).toInt = (u2.1 1 6).toInt := by
          obtain ⟨-, z | z | z | z | z⟩ := hTv
          · omega
          · omega
          · omega
          · exact z.2.2
          · omega
        by_cases z5 : (v.1 85 14).toInt < 60
        · rw [if_pos z5]
        · rw [if_neg z5, if_neg (by omega)]
    exact Or.inr ⟨rfl, fl_op s3 hbad (by omega) (fail_Ft hTo)⟩
theorem both_K {d : Nat} {one : ac_U → Int32 → ac_U × Int32} (hd : d ≤ 8) (hO : OneOK d one) {p : Int32} (hp : p.toInt = (d : Int)) (w0 : ac_U) (σ : List Nat) (h0 : σ.head? ≠ some 20) (h1 : σ.head? ≠ some 21) : ∀ (n : Nat) (u w : ac_U) (x : Int32) (k : Nat) (a : List Nat), 21 - x.toInt < (n : Int) → 0 ≤ x.toInt → x.toInt + 1 ≤ (u.1 47 4).toInt → (a = [] ∨ a = [21]) → WS u w (List.replicate k 20 ++ (a ++ σ)) (d + k) → BthS d w0 w σ (bothK one p n u x) ((u.1 47 4).toInt) := by
  intro n
  induction n with
  | zero =>
    intro u w x k a hn hx0 hx ha h
    have := h.1.2.1.2.2
    exfalso
    omega
  | succ n ih =>
    intro u w x k a hn hx0 hx ha h
    have o20 := h.1.2.1.2.2
    show BthS d w0 w σ (if (20 : Int) ≤ x.toInt then (u, 1) else if (u.1 1 6).toInt ≠ (115 : Int) then (u, 1) else if (one (f_X10_readNext_1 u) p).2.toInt ≠ 0 then bothK one p n (f_X8_add_47 (one (f_X10_readNext_1 u) p).1 (115 : Int32) (0 : Int32) (0 : Int32)) (x + Int32.ofInt (1)) else ((one (f_X10_readNext_1 u) p).1, 0)) _
    rw [if_neg (by omega)]
    by_cases ht : (u.1 1 6).toInt = 115
    · rw [if_neg (fun z => z ht)]
      obtain ⟨w4, r1, r2⟩ := ws_and (w0 := w0) h (by omega) ha h0 h1 ht
      have ho := (h.1.nx).2.1.o
      have hq := hO (f_X10_readNext_1 u) w4 w0 (21 :: σ) p hp r2
      rw [ho] at hq
      generalize one (f_X10_readNext_1 u) p = q at hq ⊢
      rcases hq with ⟨b1, b2, b3, w', k', b4, b5⟩ | ⟨b1, b2⟩
      · rw [b1, if_pos n1]
        have hx1 : (x + Int32.ofInt 1).toInt = x.toInt + 1 := i_add rfl (by decide : (Int32.ofInt 1).toInt = 1) (by omega)
        have hoa : (f_X8_add_47 q.1 (115 : Int32) (0 : Int32) (0 : Int32)).1 47 4 = q.1.1 47 4 := add_S.1 47 4 (by omega)
        have hi := ih (f_X8_add_47 q.1 (115 : Int32) (0 : Int32) (0 : Int32)) w' (x + Int32.ofInt 1) k' [21] (by omega) (by omega) (by rw [hoa]; omega) (Or.inr rfl) b5.add
        rw [hoa] at hi
        rcases hi with ⟨i1, i2, i3, i4, w2, k2, a2, i5, i6, i7⟩ | ⟨i1, i2⟩
        · exact Or.inl ⟨i1, i2, by omega, i4, w2, k2, a2, i5, (r1.tr b4).tr i6, i7⟩
        · exact Or.inr ⟨i1, (r1.tr b4).fl i2⟩
      · rw [b1, if_neg n0]
        exact Or.inr ⟨rfl, r1.fl b2⟩
    · rw [if_pos ht]
      exact Or.inl ⟨rfl, hd, Int.le_refl _, ht, w, k, a, ha, Rc.rf, h⟩
theorem both_ok {d : Nat} {one : ac_U → Int32 → ac_U × Int32} (hd : d ≤ 8) (hO : OneOK d one) : BothOK d (bothB one) := by
  intro u w w0 σ p hp h h0 h1
  have hq := hO u w w0 σ p hp h
  have o0 := h.1.2.1.2.1
  unfold bothB
  generalize one u p = q at hq ⊢
  rcases hq with ⟨b1, b2, b3, w', k', b4, b5⟩ | ⟨b1, b2⟩
  · rw [b1, if_pos n1]
    have hi := both_K hd hO hp w0 σ h0 h1 22 q.1 w' (0 : Int32) k' [] (by rw [t0i]; decide) (by decide) (by rw [t0i]; omega) (Or.inl rfl) b5
    rcases hi with ⟨i1, i2, i3, i4, w2, k2, a2, i5, i6, i7⟩ | ⟨i1, i2⟩
    · exact Or.inl ⟨i1, i2, by omega, i4, w2, k2, a2, i5, b4.tr i6, i7⟩
    · exact Or.inr ⟨i1, b4.fl i2⟩
  · rw [b1, if_neg n0]
    exact Or.inr ⟨rfl, b2⟩
theorem cond_K {d : Nat} {both : ac_U → Int32 → ac_U × Int32} (hd : d ≤ 8) (hO : BothOK d both) {p : Int32} (hp : p.toInt = (d : Int)) (w0 : ac_U) (σ : List Nat) (h0 : σ.head? ≠ some 20) (h1 : σ.head? ≠ some 21) (h2 : σ.head? ≠ some 22) : ∀ (n : Nat) (u w : ac_U) (x : Int32) (k : Nat) (a : List Nat), 21 - x.toInt < (n : Int) → 0 ≤ x.toInt → x.toInt + 1 ≤ (u.1 47 4).toInt → (∀ y, y ∈ a → y = 21 ∨ y = 22) → (u.1 1 6).toInt ≠ 115 → WS u w (List.replicate k 20 ++ (a ++ σ)) (d + k) → CndS d w0 w σ (condK both p n u x) ((u.1 47 4).toInt) := by
  intro n
  induction n with
  | zero =>
    intro u w x k a hn hx0 hx ha h15 h
    have := h.1.2.1.2.2
    exfalso
    omega
  | succ n ih =>
    intro u w x k a hn hx0 hx ha h15 h
    have o20 := h.1.2.1.2.2
    show CndS d w0 w σ (if (20 : Int) ≤ x.toInt then (u, 1) else if (u.1 1 6).toInt ≠ (114 : Int) then (u, 1) else if (both (f_X10_readNext_1 u) p).2.toInt ≠ 0 then condK both p n (f_X8_add_47 (both (f_X10_readNext_1 u) p).1 (114 : Int32) (0 : Int32) (0 : Int32)) (x + Int32.ofInt (1)) else ((both (f_X10_readNext_1 u) p).1, 0)) _
    rw [if_neg (by omega)]
    by_cases ht : (u.1 1 6).toInt = 114
    · rw [if_neg (fun z => z ht)]
      obtain ⟨w4, r1, r2⟩ := ws_or (w0 := w0) h (by omega) ha h0 h1 h2 ht
      have ho := (h.1.nx).2.1.o
      have hq := hO (f_X10_readNext_1 u) w4 w0 (22 :: σ) p hp r2 (by simp) (by simp)
      rw [ho] at hq
      generalize both (f_X10_readNext_1 u) p = q at hq ⊢
      rcases hq with ⟨b1, b2, b3, b6, w', k', a', b7, b4, b5⟩ | ⟨b1, b2⟩
      · rw [b1, if_pos n1]
        have hx1 : (x + Int32.ofInt 1).toInt = x.toInt + 1 := i_add rfl (by decide : (Int32.ofInt 1).toInt = 1) (by omega)
        have hoa : (f_X8_add_47 q.1 (114 : Int32) (0 : Int32) (0 : Int32)).1 47 4 = q.1.1 47 4 := add_S.1 47 4 (by omega)
        have hta : (f_X8_add_47 q.1 (114 : Int32) (0 : Int32) (0 : Int32)).1 1 6 = q.1.1 1 6 := add_S.1 1 6 (by omega)
        have el : List.replicate k' 20 ++ (a' ++ 22 :: σ) = List.replicate k' 20 ++ ((a' ++ [22]) ++ σ) := by simp
        rw [el] at b5
        have hi := ih (f_X8_add_47 q.1 (114 : Int32) (0 : Int32) (0 : Int32)) w' (x + Int32.ofInt 1) k' (a' ++ [22]) (by omega) (by omega) (by rw [hoa]; omega) (fun y hy => by
          rcases b7 with z | z <;> subst z <;> simp at hy
          · exact Or.inr hy
          · exact hy) (by rw [hta]; exact b6) b5.add
        rw [hoa] at hi
        rcases hi with ⟨i1, i2, i3, i4, i8, w2, k2, a2, i5, i6, i7⟩ | ⟨i1, i2⟩
        · exact Or.inl ⟨i1, i2, by omega, i4, i8, w2, k2, a2, i5, (r1.tr b4).tr i6, i7⟩
        · exact Or.inr ⟨i1, (r1.tr b4).fl i2⟩
      · rw [b1, if_neg n0]
        exact Or.inr ⟨rfl, r1.fl b2⟩
    · rw [if_pos ht]
      exact Or.inl ⟨rfl, hd, Int.le_refl _, h15, ht, w, k, a, ha, Rc.rf, h⟩
theorem cond_ok {d : Nat} {both : ac_U → Int32 → ac_U × Int32} (hd : d ≤ 8) (hO : BothOK d both) : CondOK d (condB both) := by
  intro u w w0 σ p hp h h0 h1 h2
  have hq := hO u w w0 σ p hp h h0 h1
  have o0 := h.1.2.1.2.1
  unfold condB
  generalize both u p = q at hq ⊢
  rcases hq with ⟨b1, b2, b3, b6, w', k', a', b7, b4, b5⟩ | ⟨b1, b2⟩
  · rw [b1, if_pos n1]
    have hi := cond_K hd hO hp w0 σ h0 h1 h2 22 q.1 w' (0 : Int32) k' a' (by rw [t0i]; decide) (by decide) (by rw [t0i]; omega) (fun y hy => by
      rcases b7 with z | z <;> subst z <;> simp at hy
      exact Or.inl hy) b6 b5
    rcases hi with ⟨i1, i2, i3, i4, i8, w2, k2, a2, i5, i6, i7⟩ | ⟨i1, i2⟩
    · exact Or.inl ⟨i1, i2, by omega, i4, i8, w2, k2, a2, i5, b4.tr i6, i7⟩
    · exact Or.inr ⟨i1, b4.fl i2⟩
  · rw [b1, if_neg n0]
    exact Or.inr ⟨rfl, b2⟩

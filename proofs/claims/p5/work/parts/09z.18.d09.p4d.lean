/-! A line of a daybook; all lines; the kinds of the faults behind daybook(). -/
theorem day_line {u w : ac_U} (h : T0 u w) (hk : u.1 39 6 = w.1 85 35) (h40 : 0 ≤ (u.1 39 6).toInt ∧ (u.1 39 6).toInt ≤ 40) : Tw (f_X0_readLine_39 u) (bookS w) (DyP u w) := by
  have hw := wd_k h.2.2
  unfold f_X0_readLine_39
  by_cases t : (u.1 1 6).toInt = 113
  · rw [if_neg (fun z => z t)]
    have e : K_X0_readLine_39_17 u u (1 : Int32) = K_X0_readLine_39_39 u u (1 : Int32) := by
      unfold K_X0_readLine_39_17
      exact if_pos n1
    rw [e]
    exact day_hour h hk h40 t
  · rw [if_pos t]
    have e : K_X0_readLine_39_17 u u (0 : Int32) = if (f_X10_isKnown_1_4 u (1 : Int32)).2.toInt ≠ 0 then K_X0_readLine_39_39 u (f_X10_isKnown_1_4 u (1 : Int32)).1 (0 : Int32) else ((f_X10_isKnown_1_4 u (1 : Int32)).1, 0) := by
      unfold K_X0_readLine_39_17
      exact if_neg n0
    rw [e]
    have hs := knownT_sim (s := 1) (p0 := (8 : Int32)) (p1 := (1 : Int32)) h (by decide) (by decide) (by decide)
    rw [h.1.2.2.2.2.2 1 (by decide)] at hs
    have hs : Tw (f_X10_isKnown_1_4 u (1 : Int32)) (f_X12_looksAt_85 w (8 : Int32) (w.1 87 4)) (fun u' w' => T0 u' w' ∧ CG u u' ∧ RG w w' ∧ u'.1 1 9 = w'.1 85 18 ∧ 0 ≤ (u'.1 1 9).toInt ∧ (u'.1 1 9).toInt < (w.1 87 4).toInt) := hs
    have hb := fun (x : ac_U) (r : Int32) => book_1 (w0 := w) (hw.2.2.2.2.2.2.2 t) (w := x) (r := r)
    generalize f_X10_isKnown_1_4 u (1 : Int32) = A at hs ⊢
    generalize f_X12_looksAt_85 w (8 : Int32) (w.1 87 4) = B at hs hb
    have hb := hb B.1 B.2 rfl
    rcases hs with ⟨s1, s2, s3, s4, s5, s6⟩ | ⟨s1, s2, s3⟩
    · rw [s1, if_pos n1]
      rw [s2, if_pos n1] at hb
      have g1 : A.1.1 39 6 = u.1 39 6 := s4.1 39 6 (by omega)
      have g2 : B.1.1 85 35 = w.1 85 35 := s5.1 85 35 (by omega)
      by_cases q : (u.1 39 6).toInt < 40
      · have e : K_X0_readLine_39_39 u A.1 (0 : Int32) = bd (f_X0_readDoing_39 (pI A.1 40 (A.1.1 39 6).toNatClampNeg (A.1.1 1 9))) (fun (u10 : ac_U) (r10 : Int32) => (if r10.toInt = 0 then (K_X0_readLine_39_118 u u10) else (K_X0_readLine_39_102 u u10))) := by
          unfold K_X0_readLine_39_39
          rw [if_pos (by rw [g1]; exact q), if_pos t0i, if_pos t0i]
        rw [e]
        rw [if_pos (show (w.1 85 35).toInt ≠ 40 by rw [← hk]; omega)] at hb
        rw [bookS_of hb]
        exact day_doing s3 g1 g2 q
      · have e : K_X0_readLine_39_39 u A.1 (0 : Int32) = f_X10_fail_1 A.1 (4 : Int32) := by
          unfold K_X0_readLine_39_39
          exact (if_neg (show ¬ (A.1.1 39 6).toInt < 40 by rw [g1]; exact q)).trans rfl
        rw [e]
        rw [if_neg (fun z => z (by rw [← hk]; omega))] at hb
        rw [bookS_0 (hb.trans (bad_eq B.1 4)) t0i]
        exact Or.inr ⟨rfl, rfl, ft_mk s3.2.2.1⟩
    · rw [s1, if_neg n0]
      rw [s2, if_neg n0] at hb
      rw [bookS_0 hb t0i]
      exact Or.inr ⟨rfl, rfl, s3⟩
theorem dcE {u0 u : ac_U} {n : Nat} (h : ¬ (40 : Int) < (u.1 39 6).toInt) (q : (u.1 1 6).toInt = 0) : K_X0_readWhole_39_15 u0 (n + 1) u = (u, 1) := by
  show K_X0_readWhole_39_15_b (K_X0_readWhole_39_15 u0 n) u0 u = _
  simp only [K_X0_readWhole_39_15_b, K_X0_readWhole_39_63, vl, bd]
  rw [if_neg h, if_pos q]
theorem dcK {u0 u : ac_U} {n : Nat} (h : ¬ (40 : Int) < (u.1 39 6).toInt) (q : ¬ (u.1 1 6).toInt = 0) : K_X0_readWhole_39_15 u0 (n + 1) u = if (f_X0_readLine_39 u).2.toInt ≠ 0 then K_X0_readWhole_39_15 u0 n (pI (f_X10_readNext_1 (f_X0_readLine_39 u).1) 39 6 (u.1 39 6 + 1)) else ((f_X0_readLine_39 u).1, 0) := by
  show K_X0_readWhole_39_15_b (K_X0_readWhole_39_15 u0 n) u0 u = _
  simp only [K_X0_readWhole_39_15_b, vl, bd]
  rw [if_neg h, if_neg q]
theorem drE {w0 w : ac_U} {p : Int32} {n : Nat} (h : (w.1 85 11).toInt = 0) : K_X12_daybook_85_39 w0 p (n + 1) w = K_X12_daybook_85_89 w0 p 6 (f_X12_tries_85 w) (0 : Int32) := by
  show K_X12_daybook_85_39_b (K_X12_daybook_85_39 w0 p n) w0 p w = _
  simp only [K_X12_daybook_85_39_b, vl, bd]
  rw [if_pos h]
theorem drK {w0 w : ac_U} {p : Int32} {n : Nat} (h : ¬ (w.1 85 11).toInt = 0) : K_X12_daybook_85_39 w0 p (n + 1) w = if (bookS w).2.toInt ≠ 0 then K_X12_daybook_85_39 w0 p n (pI (bookS w).1 85 35 (w.1 85 35 + 1)) else K_X12_daybook_85_62 w0 p (bookS w).1 := by
  show K_X12_daybook_85_39_b (K_X12_daybook_85_39 w0 p n) w0 p w = _
  simp only [K_X12_daybook_85_39_b, vl, bd]
  rw [if_neg h]
  by_cases q : (f_X12_bookLine_85 w).2.toInt = 0
  · have e : bookS w = ((f_X12_bookLine_85 w).1, 0) := by unfold bookS; exact if_pos q
    rw [if_pos q, e, if_neg n0]
  · have e : bookS w = f_X12_sign_85 (f_X12_bookLine_85 w).1 (59 : Int32) := by unfold bookS; exact if_neg q
    rw [if_neg q, e]
/-- both read the lines: to the end, or to the same fault -/
def DsP (w0 : ac_U) (p : Int32) (q r : ac_U × Int32) : Prop := (q.2 = 1 ∧ ∃ w, T0 q.1 w ∧ r = K_X12_daybook_85_89 w0 p 6 (f_X12_tries_85 w) (0 : Int32)) ∨ (q.2 = 0 ∧ ∃ w, Ft q.1 w ∧ r = K_X12_daybook_85_62 w0 p w)
theorem day_loop (u0 w0 : ac_U) (p : Int32) : ∀ (n : Nat) (u w : ac_U), T0 u w → u.1 39 6 = w.1 85 35 → 0 ≤ (u.1 39 6).toInt ∧ (u.1 39 6).toInt ≤ 40 → 41 - (u.1 39 6).toInt < (n : Int) → DsP w0 p (K_X0_readWhole_39_15 u0 n u) (K_X12_daybook_85_39 w0 p n w) := by
  intro n
  induction n with
  | zero =>
    intro u w _ _ h40 hn
    exfalso
    omega
  | succ n ih =>
    intro u w h hk h40 hn
    have he := Tk.end_ h.2.2
    by_cases q : (u.1 1 6).toInt = 0
    · rw [dcE (by omega) q, drE (he.mp q)]
      exact Or.inl ⟨rfl, w, h, rfl⟩
    · rw [dcK (by omega) q, drK (fun z => q (he.mpr z))]
      have hl := day_line h hk h40
      generalize f_X0_readLine_39 u = a at hl ⊢
      generalize bookS w = b at hl ⊢
      rcases hl with ⟨l1, l2, l3, l4, l5, l6⟩ | ⟨l1, l2, l3⟩
      · rw [l1, l2, if_pos n1, if_pos n1]
        obtain ⟨r1, r2⟩ := l3.read
        have hi : (u.1 39 6 + 1).toInt = (u.1 39 6).toInt + 1 := inc_i (by omega)
        refine ih _ _ (r1.c rfl rfl rfl rfl rfl rfl (fun k hk2 => pI_k (by omega)) rfl rfl rfl) ?_ ?_ ?_
        · rw [pI_s, pI_s, hk]
        · rw [pI_s]; omega
        · rw [pI_s]; omega
      · rw [l1, l2, if_neg n0, if_neg n0]
        exact Or.inr ⟨rfl, b.1, l3, rfl⟩
/-- the class behind its lines leaves the fault -/
theorem day_c56 (u0 : ac_U) (p : Int32) (x : ac_U) : (K_X11_daybook_0_56 u0 p x).1.1 1 10 = x.1 1 10 := by
  have e97 : ∀ y, (K_X11_daybook_0_97 u0 p y).1 = y := fun y => by
    unfold K_X11_daybook_0_97
    split
    · rfl
    · rfl
  simp only [K_X11_daybook_0_56, vl, bd]
  have h : (f_X5_brokenCount_29 (f_X0_live_39 (f_X6_setAside_24 x))).1.1 1 10 = x.1 1 10 := (q_X5_brokenCount_29 _ 1 10 rfl).trans ((q_X0_live_39 _ 1 10 rfl).trans (q_X6_setAside_24 x 1 10 rfl))
  generalize f_X5_brokenCount_29 (f_X0_live_39 (f_X6_setAside_24 x)) = q at h ⊢
  by_cases z : p.toInt ≠ 0
  · rw [if_pos z, e97, pI_c (by decide), pI_c (by decide)]
    exact h
  · rw [if_neg z, e97, q_X6_takeBack_24 _ 1 10 rfl, pI_c (by decide), pI_c (by decide)]
    exact h
theorem daybook_ft {u w : ac_U} (p : Int32) (hb : ∀ k, u.1 2 k = w.1 86 k) (hl : u.1 1 2 = w.1 85 2) (hr : InR u) (hN : Nq u w) (h4 : ∀ s, s < 4 → u.1 4 (cp s) = w.1 87 (cp s)) (hft : u.1 1 10 = w.1 85 15) : (f_X11_daybook_0 u p).1.1 1 10 = (f_X12_daybook_85 w p).1.1 85 15 := by
  by_cases hp : p.toInt = 0 ∨ p.toInt = 1
  · obtain ⟨ub, hub⟩ : ∃ ub, ub = pI (pI (pI (pI (pI u 1 3 (500 : Int32)) 1 4 (0 : Int32)) 1 5 (0 : Int32)) 1 10 (0 : Int32)) 1 11 (0 : Int32) := ⟨_, rfl⟩
    obtain ⟨wb, hwb⟩ : ∃ wb, wb = pI (pI (f_X12_taken_85 (pI w 85 0 (0 : Int32)) (500 : Int32)) 85 15 (0 : Int32)) 85 35 (0 : Int32) := ⟨_, rfl⟩
    have hrW : f_X0_readWhole_39 u = K_X0_readWhole_39_15 u 43 (pI (f_X10_readNext_1 ub) 39 6 (0 : Int32)) := by
      rw [hub]
      rfl
    have hc : f_X11_daybook_0 u p = if (f_X0_readWhole_39 u).2.toInt ≠ 0 then (if p.toInt ≠ (1 : Int) then K_X11_daybook_0_56 u p (pI (f_X0_readWhole_39 u).1 1 2 (0 : Int32)) else K_X11_daybook_0_56 u p (f_X6_remember_24 (pI (f_X0_readWhole_39 u).1 1 2 (0 : Int32)))) else (pI (f_X0_readWhole_39 u).1 1 2 (0 : Int32), (-2 : Int32) - (f_X0_readWhole_39 u).1.1 1 11) := by
      have e : f_X11_daybook_0 u p = K_X11_daybook_0_13 u p u := by
        unfold f_X11_daybook_0
        rcases hp with q | q
        · rw [if_pos q]
        · rw [if_neg (by omega), if_pos q]
      rw [e]
      simp only [K_X11_daybook_0_13, vl, bd]
    have hw : f_X12_daybook_85 w p = K_X12_daybook_85_39 w p 43 (f_X12_next_85 wb) := by
      simp only [f_X12_daybook_85, vl]
      rw [if1 (by rw [t0i, t1i]; omega), if_pos n1, hwb]
    have c1 : ub.1 1 2 = u.1 1 2 := by rw [hub]; rfl
    have c3 : ub.1 1 3 = 500 := by rw [hub]; rfl
    have c4 : ub.1 1 4 = 0 := by rw [hub]; rfl
    have c10 : ub.1 1 10 = 0 := by rw [hub]; rfl
    have d3 : wb.1 85 3 = w.1 85 2 := by rw [hwb]; rfl
    have d5 : wb.1 85 5 = 500 := by rw [hwb]; rfl
    have d4 : wb.1 85 4 = 0 := by rw [hwb]; rfl
    have d15 : wb.1 85 15 = 0 := by rw [hwb]; rfl
    have d35 : wb.1 85 35 = 0 := by rw [hwb]; rfl
    have cb : ub.1 2 = u.1 2 := by rw [hub]; rfl
    have db : wb.1 86 = w.1 86 := by rw [hwb]; rfl
    have cN : Nq ub wb := hN.to (by rw [hub]; rfl) (by rw [hub]; rfl) (by rw [hub]; rfl) (by rw [hub]; rfl) (by rw [hwb]; rfl)
    have c44 : ∀ s, s < 4 → ub.1 4 (cp s) = wb.1 87 (cp s) := fun s hs => by
      have e1 : ub.1 4 = u.1 4 := by rw [hub]; rfl
      have e2 : wb.1 87 = w.1 87 := by rw [hwb]; rfl
      rw [e1, e2]
      exact h4 s hs
    clear hub hwb
    have hIn : InE ub wb := ⟨by rw [c1, d3]; exact hl, by rw [c3, d5], fun k => by rw [cb, db]; exact hb k, by rw [c10, d15]⟩
    have hRr : InR ub := by unfold InR; rw [c1, cb]; exact hr
    have hAt : At ub wb := by unfold At; rw [c4, d4, t0i]; exact ⟨rfl, by omega, by omega⟩
    have hSn : Sn ub wb := ⟨hIn, hRr, fun _ _ => rfl, fun _ _ => rfl, cN, c44⟩
    obtain ⟨f1, f2, f3, f4⟩ := lex (fun _ _ => rfl) ⟨hIn, hRr, hAt⟩
    have hT : T0 (f_X10_readNext_1 ub) (f_X12_next_85 wb) := ⟨hSn.to f1.g f2.g, f3, f4⟩
    have hT2 : T0 (pI (f_X10_readNext_1 ub) 39 6 (0 : Int32)) (f_X12_next_85 wb) := hT.c rfl rfl rfl rfl rfl rfl (fun _ _ => rfl) rfl rfl rfl
    have hlp := day_loop u w p 43 _ _ hT2 (by rw [pI_s, f2.1 85 35 (by omega), d35]) (by rw [pI_s, t0i]; decide) (by rw [pI_s, t0i]; decide)
    rw [← hrW, ← hw] at hlp
    rw [hc]
    generalize f_X0_readWhole_39 u = q at hlp ⊢
    generalize f_X12_daybook_85 w p = r at hlp ⊢
    rcases hlp with ⟨q1, w', q2, q3⟩ | ⟨q1, w', q2, q3⟩
    · rw [q1, if_pos n1, q3]
      have hz := qt_X12_daybook_85_89 w' w p 6 (f_X12_tries_85 w') (0 : Int32) (ac_Fr.rf.tr (q_X12_tries_85 w') (by decide)) 85 15 rfl
      rw [hz]
      by_cases z : p.toInt ≠ (1 : Int)
      · rw [if_pos z, day_c56, pI_k (by decide)]
        exact q2.1.1.2.2.2
      · rw [if_neg z, day_c56, q_X6_remember_24 _ 1 10 rfl, pI_k (by decide)]
        exact q2.1.1.2.2.2
    · rw [q1, if_neg n0, q3]
      show (pI q.1 1 2 (0 : Int32)).1 1 10 = w'.1 85 15
      rw [pI_k (by decide)]
      exact q2.1
  · have e1 : f_X11_daybook_0 u p = (u, (-1000 : Int32)) := by
      unfold f_X11_daybook_0
      rw [if_neg (by omega), if_neg (by omega)]
    have e2 : f_X12_daybook_85 w p = (pI w 85 0 (0 : Int32), (-1000 : Int32)) := by
      simp only [f_X12_daybook_85, vl]
      rw [if0 (by rw [t0i, t1i]; omega), if_neg n0]
    rw [e1, e2]
    show u.1 1 10 = (pI w 85 0 (0 : Int32)).1 85 15
    rw [pI_k (by decide)]
    exact hft

/-! A line of a daybook that begins with a person. -/
theorem bookS_of {w : ac_U} {A : ac_U × Int32} (h : f_X12_bookLine_85 w = A) : bookS w = if A.2.toInt = 0 then (A.1, 0) else f_X12_sign_85 A.1 (59 : Int32) := by
  unfold bookS
  rw [h]
theorem day_name {u w u0 w0 uL : ac_U} {s : Nat} {p0 p1 : Int32} {L M : Nat} (h : T1 u w) (hs : s < 4) (hp1 : p1.toInt = s) (hp0 : p0.toInt = bh s) (e1 : u.1 39 6 = u0.1 39 6) (e2 : w.1 85 35 = w0.1 85 35) (hq : (u0.1 39 6).toInt < 40) {A B : ac_U × Int32} (hA : A = if (f_X12_takesName_85 w p0 (w.1 87 (cp s))).2.toInt ≠ 0 then (pI (f_X12_takesName_85 w p0 (w.1 87 (cp s))).1 89 M ((f_X12_takesName_85 w p0 (w.1 87 (cp s))).1.1 85 18), 1) else ((f_X12_takesName_85 w p0 (w.1 87 (cp s))).1, 0)) (hB : B = if (f_X10_takeKnown_1_4 u p1).2.toInt ≠ 0 then (pI (f_X10_takeKnown_1_4 u p1).1 42 L ((f_X10_takeKnown_1_4 u p1).1.1 1 9), 1) else ((f_X10_takeKnown_1_4 u p1).1, 0)) : Tw (if B.2.toInt = 0 then (B.1, 0) else K_X0_readLine_39_102 uL B.1) (if A.2.toInt = 0 then (A.1, 0) else f_X12_sign_85 A.1 (59 : Int32)) (DyP u0 w0) := by
  have hs' := takeKnownT_sim h hs hp1 hp0
  rw [h.1.2.2.2.2.2 s hs] at hs'
  have f1 := q_X10_takeKnown_1_4 u p1 39 6 rfl
  have f2 := q_X12_takesName_85 w p0 (w.1 87 (cp s)) 85 35 rfl
  generalize f_X10_takeKnown_1_4 u p1 = a at hs' f1 hB
  generalize f_X12_takesName_85 w p0 (w.1 87 (cp s)) = b at hs' f2 hA
  rcases hs' with ⟨s1, s2, s3, _⟩ | ⟨s1, s2, s3⟩
  · rw [s1, if_pos n1] at hB
    rw [s2, if_pos n1] at hA
    subst hA
    subst hB
    show Tw (if (1 : Int32).toInt = 0 then _ else K_X0_readLine_39_102 uL (pI a.1 42 L (a.1.1 1 9))) (if (1 : Int32).toInt = 0 then _ else f_X12_sign_85 (pI b.1 89 M (b.1.1 85 18)) (59 : Int32)) (DyP u0 w0)
    rw [if_neg n1', if_neg n1']
    exact day_sign (s3.c (fun _ _ => rfl) rfl rfl rfl rfl rfl (fun _ _ => rfl) rfl rfl rfl) ((pI_c (by decide)).trans (f1.trans e1)) ((pI_c (by decide)).trans (f2.trans e2)) hq
  · rw [s1, if_neg n0] at hB
    rw [s2, if_neg n0] at hA
    subst hA
    subst hB
    show Tw (if (0 : Int32).toInt = 0 then (a.1, 0) else _) (if (0 : Int32).toInt = 0 then (b.1, 0) else _) (DyP u0 w0)
    rw [if_pos t0i, if_pos t0i]
    exact Or.inr ⟨rfl, rfl, s3⟩
def bkE (w0 u39 : ac_U) : ac_U × Int32 := if (f_X12_isWord_85 u39 (1735353715 : Int64)).toInt = 0 then (if (f_X12_isWord_85 u39 (1685022067 : Int64)).toInt = 0 then (if (f_X12_isWord_85 u39 (1935767923 : Int64)).toInt = 0 then (K_X12_bookLine_85_160 w0 u39 ((3 : Int32) * (w0.1 85 35)) (-1 : Int32)) else (K_X12_bookLine_85_160 w0 u39 ((3 : Int32) * (w0.1 85 35)) (2 : Int32))) else (K_X12_bookLine_85_160 w0 u39 ((3 : Int32) * (w0.1 85 35)) (1 : Int32))) else (K_X12_bookLine_85_160 w0 u39 ((3 : Int32) * (w0.1 85 35)) (0 : Int32))
def bkD (w0 w : ac_U) : ac_U × Int32 := bkE w0 (f_X12_next_85 (pI w 89 ((3 : Int32) * (w0.1 85 35) + (1 : Int32)).toNatClampNeg (w.1 85 18)))
theorem book_1 {w0 : ac_U} (hw : f_X12_isWord_85 w0 (1752135026 : Int64) = 0) {w : ac_U} {r : Int32} (hl : f_X12_looksAt_85 w0 (8 : Int32) (w0.1 87 4) = (w, r)) : f_X12_bookLine_85 w0 = if r.toInt ≠ 0 then (if (w0.1 85 35).toInt ≠ 40 then bkD w0 w else f_X12_bad_85 w (4 : Int32)) else (w, 0) := by
  simp only [f_X12_bookLine_85, vl, bd, pe2]
  rw [hw, if_pos t0i, hl]
  rfl
theorem bkL_0 (u0 u : ac_U) (x : Int32) {u2 : ac_U} (h : f_X12_next_85 (pI u 89 x.toNatClampNeg (0 : Int32)) = u2) : K_X12_bookLine_85_160 u0 u x (0 : Int32) = if (f_X12_takesName_85 u2 (0 : Int32) (u2.1 87 1)).2.toInt ≠ 0 then (pI (f_X12_takesName_85 u2 (0 : Int32) (u2.1 87 1)).1 89 (x + (2 : Int32)).toNatClampNeg ((f_X12_takesName_85 u2 (0 : Int32) (u2.1 87 1)).1.1 85 18), 1) else ((f_X12_takesName_85 u2 (0 : Int32) (u2.1 87 1)).1, 0) := by
  simp only [K_X12_bookLine_85_160, vl, bd]
  rw [h]
  rw [if_pos (show (0 : Int) ≤ (0 : Int32).toInt by decide), if_neg (show ¬ ((0 : Int32).toInt ≠ 0) by decide), if_neg (show ¬ ((0 : Int32).toInt ≠ 0) by decide)]
theorem bkL_1 (u0 u : ac_U) (x : Int32) {u2 : ac_U} (h : f_X12_next_85 (pI u 89 x.toNatClampNeg (1 : Int32)) = u2) : K_X12_bookLine_85_160 u0 u x (1 : Int32) = if (f_X12_takesName_85 u2 (12 : Int32) (u2.1 87 5)).2.toInt ≠ 0 then (pI (f_X12_takesName_85 u2 (12 : Int32) (u2.1 87 5)).1 89 (x + (2 : Int32)).toNatClampNeg ((f_X12_takesName_85 u2 (12 : Int32) (u2.1 87 5)).1.1 85 18), 1) else ((f_X12_takesName_85 u2 (12 : Int32) (u2.1 87 5)).1, 0) := by
  simp only [K_X12_bookLine_85_160, vl, bd]
  rw [h]
  rw [if_pos (show (0 : Int) ≤ (1 : Int32).toInt by decide), if_pos (show (1 : Int32).toInt ≠ 0 by decide), if_neg (show ¬ ((1 : Int32).toInt ≠ (1 : Int)) by decide), if_pos (show (1 : Int32).toInt ≠ 0 by decide), if_neg (show ¬ ((1 : Int32).toInt ≠ (1 : Int)) by decide)]
theorem bkL_2 (u0 u : ac_U) (x : Int32) {u2 : ac_U} (h : f_X12_next_85 (pI u 89 x.toNatClampNeg (2 : Int32)) = u2) : K_X12_bookLine_85_160 u0 u x (2 : Int32) = if (f_X12_takesName_85 u2 (18 : Int32) (u2.1 87 6)).2.toInt ≠ 0 then (pI (f_X12_takesName_85 u2 (18 : Int32) (u2.1 87 6)).1 89 (x + (2 : Int32)).toNatClampNeg ((f_X12_takesName_85 u2 (18 : Int32) (u2.1 87 6)).1.1 85 18), 1) else ((f_X12_takesName_85 u2 (18 : Int32) (u2.1 87 6)).1, 0) := by
  simp only [K_X12_bookLine_85_160, vl, bd]
  rw [h]
  rw [if_pos (show (0 : Int) ≤ (2 : Int32).toInt by decide), if_pos (show (2 : Int32).toInt ≠ 0 by decide), if_pos (show (2 : Int32).toInt ≠ (1 : Int) by decide), if_pos (show (2 : Int32).toInt ≠ 0 by decide), if_pos (show (2 : Int32).toInt ≠ (1 : Int) by decide)]
theorem bkL_m (u0 u : ac_U) (x : Int32) : K_X12_bookLine_85_160 u0 u x (-1 : Int32) = f_X12_bad_85 u (1 : Int32) := by
  simp only [K_X12_bookLine_85_160, vl, bd]
  rw [if_neg (show ¬ ((0 : Int) ≤ (-1 : Int32).toInt) by decide)]
/-- the road behind the person -/
theorem day_doing {u w u0 w0 w00 uL : ac_U} {N : Nat} {X : Int32} (h : T0 u w) (e1 : u.1 39 6 = u0.1 39 6) (e2 : w.1 85 35 = w00.1 85 35) (hq : (u0.1 39 6).toInt < 40) : Tw (bd (f_X0_readDoing_39 (pI u 40 N X)) (fun (u10 : ac_U) (r10 : Int32) => (if r10.toInt = 0 then (K_X0_readLine_39_118 uL u10) else (K_X0_readLine_39_102 uL u10)))) (if (bkD w0 w).2.toInt = 0 then ((bkD w0 w).1, 0) else f_X12_sign_85 (bkD w0 w).1 (59 : Int32)) (DyP u0 w00) := by
  have h1 : T0 (pI u 40 N X) (pI w 89 ((3 : Int32) * (w0.1 85 35) + (1 : Int32)).toNatClampNeg (w.1 85 18)) := h.c rfl rfl rfl rfl rfl rfl (fun _ _ => rfl) rfl rfl rfl
  obtain ⟨t1, t2⟩ := h1.next
  obtain ⟨t3, t4⟩ := t1.read
  have g1 : (f_X10_readNext_1 (pI u 40 N X)).1 39 6 = u0.1 39 6 := (t4.1 39 6 (by omega)).trans ((pI_c (by decide)).trans e1)
  have g2 : (f_X12_next_85 (pI w 89 ((3 : Int32) * (w0.1 85 35) + (1 : Int32)).toNatClampNeg (w.1 85 18))).1 85 35 = w00.1 85 35 := (t2.1 85 35 (by omega)).trans ((pI_c (by decide)).trans e2)
  have hB : f_X0_readDoing_39 (pI u 40 N X) = (if (f_X0_sortBehind (pI (f_X10_readNext_1 (pI u 40 N X)) 41 ((pI u 40 N X).1 39 6).toNatClampNeg ((f_X10_readNext_1 (pI u 40 N X)).1 1 6)) ((f_X10_readNext_1 (pI u 40 N X)).1 1 6)).toInt ≠ (-1 : Int) then (bd (f_X10_takeKnown_1_4 (pI (f_X10_readNext_1 (pI u 40 N X)) 41 ((pI u 40 N X).1 39 6).toNatClampNeg ((f_X10_readNext_1 (pI u 40 N X)).1 1 6)) (f_X0_sortBehind (pI (f_X10_readNext_1 (pI u 40 N X)) 41 ((pI u 40 N X).1 39 6).toNatClampNeg ((f_X10_readNext_1 (pI u 40 N X)).1 1 6)) ((f_X10_readNext_1 (pI u 40 N X)).1 1 6))) (fun (u5 : ac_U) (r5 : Int32) => (if r5.toInt ≠ 0 then ((pI u5 42 ((pI u 40 N X).1 39 6).toNatClampNeg (u5.1 1 9)), (1 : Int32)) else (u5, (0 : Int32))))) else f_X10_fail_1 (pI (f_X10_readNext_1 (pI u 40 N X)) 41 ((pI u 40 N X).1 39 6).toNatClampNeg ((f_X10_readNext_1 (pI u 40 N X)).1 1 6)) (1 : Int32)) := rfl
  rw [hB]
  unfold bkD
  generalize f_X10_readNext_1 (pI u 40 N X) = a at t3 t4 g1 ⊢
  generalize ((pI u 40 N X).1 39 6).toNatClampNeg = L
  generalize f_X12_next_85 (pI w 89 ((3 : Int32) * (w0.1 85 35) + (1 : Int32)).toNatClampNeg (w.1 85 18)) = b at t3 g2 ⊢
  have hw := wd_k t3.2.2
  have t5 : T0 (pI a 41 L (a.1 1 6)) b := t3.c rfl rfl rfl rfl rfl rfl (fun _ _ => rfl) rfl rfl rfl
  have g3 : (pI a 41 L (a.1 1 6)).1 39 6 = u0.1 39 6 := (pI_c (by decide)).trans g1
  have cB : ∀ (B : ac_U × Int32), bd B (fun (u10 : ac_U) (r10 : Int32) => (if r10.toInt = 0 then (K_X0_readLine_39_118 uL u10) else (K_X0_readLine_39_102 uL u10))) = if B.2.toInt = 0 then (B.1, 0) else K_X0_readLine_39_102 uL B.1 := fun _ => rfl
  rw [cB]
  generalize ht : a.1 1 6 = t at hw t5 g3 ⊢
  have key : ∀ {s c : Nat} {p1 p0 z : Int32}, s < 4 → c = cp s → p1.toInt = s → p0.toInt = bh s → f_X0_sortBehind (pI a 41 L t) t = p1 → bkE w0 b = (if (f_X12_takesName_85 (f_X12_next_85 (pI b 89 ((3 : Int32) * (w0.1 85 35)).toNatClampNeg z)) p0 ((f_X12_next_85 (pI b 89 ((3 : Int32) * (w0.1 85 35)).toNatClampNeg z)).1 87 c)).2.toInt ≠ 0 then (pI (f_X12_takesName_85 (f_X12_next_85 (pI b 89 ((3 : Int32) * (w0.1 85 35)).toNatClampNeg z)) p0 ((f_X12_next_85 (pI b 89 ((3 : Int32) * (w0.1 85 35)).toNatClampNeg z)).1 87 c)).1 89 ((3 : Int32) * (w0.1 85 35) + (2 : Int32)).toNatClampNeg ((f_X12_takesName_85 (f_X12_next_85 (pI b 89 ((3 : Int32) * (w0.1 85 35)).toNatClampNeg z)) p0 ((f_X12_next_85 (pI b 89 ((3 : Int32) * (w0.1 85 35)).toNatClampNeg z)).1 87 c)).1.1 85 18), 1) else ((f_X12_takesName_85 (f_X12_next_85 (pI b 89 ((3 : Int32) * (w0.1 85 35)).toNatClampNeg z)) p0 ((f_X12_next_85 (pI b 89 ((3 : Int32) * (w0.1 85 35)).toNatClampNeg z)).1 87 c)).1, 0)) → Tw (if ((if (f_X0_sortBehind (pI a 41 L t) t).toInt ≠ (-1 : Int) then (bd (f_X10_takeKnown_1_4 (pI a 41 L t) (f_X0_sortBehind (pI a 41 L t) t)) (fun (u5 : ac_U) (r5 : Int32) => (if r5.toInt ≠ 0 then ((pI u5 42 L (u5.1 1 9)), (1 : Int32)) else (u5, (0 : Int32))))) else f_X10_fail_1 (pI a 41 L t) (1 : Int32)) : ac_U × Int32).2.toInt = 0 then ((if (f_X0_sortBehind (pI a 41 L t) t).toInt ≠ (-1 : Int) then (bd (f_X10_takeKnown_1_4 (pI a 41 L t) (f_X0_sortBehind (pI a 41 L t) t)) (fun (u5 : ac_U) (r5 : Int32) => (if r5.toInt ≠ 0 then ((pI u5 42 L (u5.1 1 9)), (1 : Int32)) else (u5, (0 : Int32))))) else f_X10_fail_1 (pI a 41 L t) (1 : Int32)).1, 0) else K_X0_readLine_39_102 uL (if (f_X0_sortBehind (pI a 41 L t) t).toInt ≠ (-1 : Int) then (bd (f_X10_takeKnown_1_4 (pI a 41 L t) (f_X0_sortBehind (pI a 41 L t) t)) (fun (u5 : ac_U) (r5 : Int32) => (if r5.toInt ≠ 0 then ((pI u5 42 L (u5.1 1 9)), (1 : Int32)) else (u5, (0 : Int32))))) else f_X10_fail_1 (pI a 41 L t) (1 : Int32)).1) (if (bkE w0 b).2.toInt = 0 then ((bkE w0 b).1, 0) else f_X12_sign_85 (bkE w0 b).1 (59 : Int32)) (DyP u0 w00) := by
    intro s c p1 p0 z hs hc hp1 hp0 e eb
    subst hc
    rw [e, if_pos (show p1.toInt ≠ (-1 : Int) by omega)]
    have t6 : T0 (pI a 41 L t) (pI b 89 ((3 : Int32) * (w0.1 85 35)).toNatClampNeg z) := t5.c rfl rfl rfl rfl rfl rfl (fun _ _ => rfl) rfl rfl rfl
    obtain ⟨t7, t8⟩ := t6.next
    exact day_name t7 hs hp1 hp0 g3 ((t8.1 85 35 (by omega)).trans ((pI_c (by decide)).trans g2)) hq eb rfl
  by_cases k0 : t.toInt = 110
  · refine key (s := 0) (c := 1) (p1 := (0 : Int32)) (p0 := (0 : Int32)) (z := (0 : Int32)) (by decide) (by decide) (by decide) (by decide) ?_ ?_
    · unfold f_X0_sortBehind
      rw [if_neg (by omega), if_pos k0]
    · unfold bkE
      rw [hw.1 k0, if_neg n1', bkL_0 _ _ _ rfl]
  · by_cases k1 : t.toInt = 111
    · refine key (s := 2) (c := 5) (p1 := (2 : Int32)) (p0 := (12 : Int32)) (z := (1 : Int32)) (by decide) (by decide) (by decide) (by decide) ?_ ?_
      · unfold f_X0_sortBehind
        rw [if_neg (by omega), if_neg k0, if_pos k1]
      · unfold bkE
        rw [hw.2.1 k0, hw.2.2.1 k1, if_pos t0i, if_neg n1', bkL_1 _ _ _ rfl]
    · by_cases k2 : t.toInt = 112
      · refine key (s := 3) (c := 6) (p1 := (3 : Int32)) (p0 := (18 : Int32)) (z := (2 : Int32)) (by decide) (by decide) (by decide) (by decide) ?_ ?_
        · unfold f_X0_sortBehind
          rw [if_neg (by omega), if_neg k0, if_neg k1]
        · unfold bkE
          rw [hw.2.1 k0, hw.2.2.2.1 k1, hw.2.2.2.2.1 k2, if_pos t0i, if_pos t0i, if_neg n1', bkL_2 _ _ _ rfl]
      · have es : f_X0_sortBehind (pI a 41 L t) t = (-1 : Int32) := by
          unfold f_X0_sortBehind
          rw [if_pos (by omega)]
        have eb : bkE w0 b = f_X12_bad_85 b (1 : Int32) := by
          unfold bkE
          rw [hw.2.1 k0, hw.2.2.2.1 k1, hw.2.2.2.2.2.1 k2, if_pos t0i, if_pos t0i, if_pos t0i]
          exact bkL_m _ _ _
        rw [es, eb, if_neg (show ¬ ((-1 : Int32).toInt ≠ (-1 : Int)) by decide), if_pos (show (f_X10_fail_1 (pI a 41 L t) (1 : Int32)).2.toInt = 0 from t0i), if_pos (show (f_X12_bad_85 b (1 : Int32)).2.toInt = 0 from t0i)]
        exact Or.inr ⟨rfl, rfl, ft_mk t5.2.2.1⟩

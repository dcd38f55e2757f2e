
def f_X8_copyFrom_77_43 (u0 : ac_U) : ac_U := (cpI (cpI (cpI (pI (pI u0 77 3 (u0.1 43 3)) 77 4 (u0.1 43 4)) 44 78 (0 : Int32).toNatClampNeg (0 : Int32).toNatClampNeg (40 : Int32).toNatClampNeg) 45 79 (0 : Int32).toNatClampNeg (0 : Int32).toNatClampNeg (40 : Int32).toNatClampNeg) 46 80 (0 : Int32).toNatClampNeg (0 : Int32).toNatClampNeg (40 : Int32).toNatClampNeg)
set_option maxHeartbeats 600000 in
set_option maxRecDepth 100000 in
theorem x_X8_copyFrom_77_43 (l : Launch) (dC : Nat → ClassId) (dI : Nat → Nat → Nat) (ad : Nat → Nat) (cA : Nat → ClassId) (nF : Nat) (u0 : ac_U)  (hR : ac_R rg u0) : ac_Mv l yX8_copyFrom (.code yX8_copyFrom cX8_copyFrom 2 none :: TB) 1 (dC, dI) vwCl (ac_ty cA) ad cA (TT nF) [.ref (ad 77), .ref (ad 43)] u0 (fun (u : ac_U) => ac_R rg u ∧ ac_Fr [(77, some 3), (77, some 4), (78, none), (79, none), (80, none)] u0 u ∧ f_X8_copyFrom_77_43 u0 = u) := by
  refine ac_Mv.of (cc := cX8_copyFrom) (maxL := 2) (ret := none) (by decide) rfl (Nat.le_of_ble_eq_true rfl) ?_
  intro p e s m below meth c A ls F hml hr hlocks hA hP hD hS hl
  have F : ac_X p s m [.ref (ad 77), .ref (ad 43)].toArray c cX8_copyFrom RX8 TB (dC, dI) vwCl (ac_ty cA) := ⟨F.1, F.2.1, fun w h => F.2.2.1 w (List.mem_cons_of_mem _ h), F.2.2.2.1, F.2.2.2.2⟩
  have hl : lv_has ls 2 [(0, .ref (ad 77)), (1, .ref (ad 43))] := hl
  obtain ⟨RR, hRR⟩ : ∃ q, q = f_X8_copyFrom_77_43 u0 := ⟨_, rfl⟩
  have hF : ac_Fr [(77, some 3), (77, some 4), (78, none), (79, none), (80, none)] u0 u0 := ac_Fr.rf
  have hC : RR = f_X8_copyFrom_77_43 u0 := hRR
  unfold f_X8_copyFrom_77_43 at hC
  refine lv_aload_n F.1 F.2.1 dX8_copyFrom_0 rfl (lv_at hl 0 rfl) ?_
  refine lv_aload_n F.1 F.2.1 dX8_copyFrom_1 rfl (lv_at hl 1 rfl) ?_
  have g1 : (0 : Int) ≤ (u0.1 43 3).toInt ∧ (u0.1 43 3).toInt ≤ 40 := hR 43 3
  refine a_geti F inX8 hP 43 3 tc_43 rfl rfl (by decide) q443 (fun _ h9 => h9) (v := (u0.1 43 3)) rfl dX8_copyFrom_2 ?_
  refine a_puti F inX8 tyX8 tyX8_ok nmX8 hP hD hS 77 3 tc_77 rfl rfl (by decide) q443 (fun _ h9 => h9) rfl (ty := .int) (tyX8_ok 3 (by decide)) rfl rfl dX8_copyFrom_5 (fun H locs hP hD hS => ?_)
  have hR := hR.si (c := 77) (k := 3) (v := (u0.1 43 3)) (by omega : (0 : Int) ≤ (u0.1 43 3).toInt ∧ (u0.1 43 3).toInt ≤ 40)
  have hF := hF.si (c := 77) (k := 3) (v := (u0.1 43 3)) rfl
  refine lv_aload_n F.1 F.2.1 dX8_copyFrom_8 rfl (lv_at hl 0 rfl) ?_
  refine lv_aload_n F.1 F.2.1 dX8_copyFrom_9 rfl (lv_at hl 1 rfl) ?_
  have g2 : (0 : Int) ≤ (u0.1 43 4).toInt ∧ (u0.1 43 4).toInt ≤ 20 := hR 43 4
  refine a_geti F inX8 hP 43 4 tc_43 rfl rfl (by decide) q445 (fun _ h9 => h9) (v := (u0.1 43 4)) rfl dX8_copyFrom_10 ?_
  refine a_puti F inX8 tyX8 tyX8_ok nmX8 hP hD hS 77 4 tc_77 rfl rfl (by decide) q445 (fun _ h9 => h9) rfl (ty := .int) (tyX8_ok 4 (by decide)) rfl rfl dX8_copyFrom_13 (fun H locs hP hD hS => ?_)
  have hR := hR.si (c := 77) (k := 4) (v := (u0.1 43 4)) (by omega : (0 : Int) ≤ (u0.1 43 4).toInt ∧ (u0.1 43 4).toInt ≤ 20)
  have hF := hF.si (c := 77) (k := 4) (v := (u0.1 43 4)) rfl
  refine lv_aload_n F.1 F.2.1 dX8_copyFrom_16 rfl (lv_at hl 1 rfl) ?_
  refine a_getr F inX8 hP 43 0 tc_43 rfl rfl (by decide) q440 (fun _ h9 => h9) dX8_copyFrom_17 ?_
  refine a_ic F (0 : Int32) dX8_copyFrom_20 (by decide) ?_
  refine lv_aload_n F.1 F.2.1 dX8_copyFrom_21 rfl (lv_at hl 0 rfl) ?_
  refine a_getr F inX8 hP 77 0 tc_77 rfl rfl (by decide) q440 (fun _ h9 => h9) dX8_copyFrom_22 ?_
  refine a_ic F (0 : Int32) dX8_copyFrom_25 (by decide) ?_
  refine lv_aload_n F.1 F.2.1 dX8_copyFrom_26 rfl (lv_at hl 0 rfl) ?_
  refine a_getr F inX8 hP 77 0 tc_77 rfl rfl (by decide) q440 (fun _ h9 => h9) dX8_copyFrom_27 ?_
  refine va_alen (v := (40 : Int32)) F.1 F.2.1 F.2.2.2.2 hP 78 0 (ac_at tc_78) rfl rfl dX8_copyFrom_30 ?_
  refine a_cpyi F (hml.trans hl.1.symm) q1313 q708 q707 q19 hP hD hS 44 78 tc_44 tc_78 rfl (by decide) (by decide) (by decide) (by simp only [ic_0, ic_40]; omega) (by simp only [ic_0, ic_40]; omega) (by decide) (by decide) dX8_copyFrom_31 (fun H locs hP hD hS => ?_)
  have hR := hR.cp (c0 := 44) (c1 := 78) (sp := (0 : Int32).toNatClampNeg) (dp := (0 : Int32).toNatClampNeg) (n := (40 : Int32).toNatClampNeg) (by decide +kernel)
  have hF := hF.cp (c0 := 44) (c1 := 78) (sp := (0 : Int32).toNatClampNeg) (dp := (0 : Int32).toNatClampNeg) (n := (40 : Int32).toNatClampNeg) (fun _ => rfl)
  refine lv_aload_n F.1 F.2.1 dX8_copyFrom_34 rfl (lv_at hl 1 rfl) ?_
  refine a_getr F inX8 hP 43 1 tc_43 rfl rfl (by decide) q441 (fun _ h9 => h9) dX8_copyFrom_35 ?_
  refine a_ic F (0 : Int32) dX8_copyFrom_38 (by decide) ?_
  refine lv_aload_n F.1 F.2.1 dX8_copyFrom_39 rfl (lv_at hl 0 rfl) ?_
  refine a_getr F inX8 hP 77 1 tc_77 rfl rfl (by decide) q441 (fun _ h9 => h9) dX8_copyFrom_40 ?_
  refine a_ic F (0 : Int32) dX8_copyFrom_43 (by decide) ?_
  refine lv_aload_n F.1 F.2.1 dX8_copyFrom_44 rfl (lv_at hl 0 rfl) ?_
  refine a_getr F inX8 hP 77 1 tc_77 rfl rfl (by decide) q441 (fun _ h9 => h9) dX8_copyFrom_45 ?_
  refine va_alen (v := (40 : Int32)) F.1 F.2.1 F.2.2.2.2 hP 79 0 (ac_at tc_79) rfl rfl dX8_copyFrom_48 ?_
  refine a_cpyi F (hml.trans hl.1.symm) q1313 q708 q707 q19 hP hD hS 45 79 tc_45 tc_79 rfl (by decide) (by decide) (by decide) (by simp only [ic_0, ic_40]; omega) (by simp only [ic_0, ic_40]; omega) (by decide) (by decide) dX8_copyFrom_49 (fun H locs hP hD hS => ?_)
  have hR := hR.cp (c0 := 45) (c1 := 79) (sp := (0 : Int32).toNatClampNeg) (dp := (0 : Int32).toNatClampNeg) (n := (40 : Int32).toNatClampNeg) (by decide +kernel)
  have hF := hF.cp (c0 := 45) (c1 := 79) (sp := (0 : Int32).toNatClampNeg) (dp := (0 : Int32).toNatClampNeg) (n := (40 : Int32).toNatClampNeg) (fun _ => rfl)
  refine lv_aload_n F.1 F.2.1 dX8_copyFrom_52 rfl (lv_at hl 1 rfl) ?_
  refine a_getr F inX8 hP 43 2 tc_43 rfl rfl (by decide) q442 (fun _ h9 => h9) dX8_copyFrom_53 ?_
  refine a_ic F (0 : Int32) dX8_copyFrom_56 (by decide) ?_
  refine lv_aload_n F.1 F.2.1 dX8_copyFrom_57 rfl (lv_at hl 0 rfl) ?_
  refine a_getr F inX8 hP 77 2 tc_77 rfl rfl (by decide) q442 (fun _ h9 => h9) dX8_copyFrom_58 ?_
  refine a_ic F (0 : Int32) dX8_copyFrom_61 (by decide) ?_
  refine lv_aload_n F.1 F.2.1 dX8_copyFrom_62 rfl (lv_at hl 0 rfl) ?_
  refine a_getr F inX8 hP 77 2 tc_77 rfl rfl (by decide) q442 (fun _ h9 => h9) dX8_copyFrom_63 ?_
  refine va_alen (v := (40 : Int32)) F.1 F.2.1 F.2.2.2.2 hP 80 0 (ac_at tc_80) rfl rfl dX8_copyFrom_66 ?_
  refine a_cpyi F (hml.trans hl.1.symm) q1313 q708 q707 q19 hP hD hS 46 80 tc_46 tc_80 rfl (by decide) (by decide) (by decide) (by simp only [ic_0, ic_40]; omega) (by simp only [ic_0, ic_40]; omega) (by decide) (by decide) dX8_copyFrom_67 (fun H locs hP hD hS => ?_)
  have hR := hR.cp (c0 := 46) (c1 := 80) (sp := (0 : Int32).toNatClampNeg) (dp := (0 : Int32).toNatClampNeg) (n := (40 : Int32).toNatClampNeg) (by decide +kernel)
  have hF := hF.cp (c0 := 46) (c1 := 80) (sp := (0 : Int32).toNatClampNeg) (dp := (0 : Int32).toNatClampNeg) (n := (40 : Int32).toNatClampNeg) (fun _ => rfl)
  exact a_retv F hr hlocks hP hD hS dX8_copyFrom_70 ⟨hR, hF, hRR.symm.trans hC⟩

def f_X4_take_54_4_24_43 (u0 : ac_U) : ac_U := (vl (f_X2_copyFrom_64_4 u0) (fun (u1 : ac_U) => (vl (f_X8_copyFrom_77_43 u1) (fun (u3 : ac_U) => (pI (cpI (cpI u3 25 83 (0 : Int32).toNatClampNeg (0 : Int32).toNatClampNeg (31 : Int32).toNatClampNeg) 26 84 (0 : Int32).toNatClampNeg (0 : Int32).toNatClampNeg (320 : Int32).toNatClampNeg) 54 4 (1 : Int32))))))
set_option maxHeartbeats 600000 in
set_option maxRecDepth 100000 in
theorem x_X4_take_54_4_24_43 (l : Launch) (dC : Nat → ClassId) (dI : Nat → Nat → Nat) (ad : Nat → Nat) (cA : Nat → ClassId) (nF : Nat) (u0 : ac_U)  (hR : ac_R rg u0) (hK_N4 : nmI 11 12 u0) : ac_Mv l yX4_take (.code yX4_take cX4_take 4 none :: TB) 2 (dC, dI) vwCl (ac_ty cA) ad cA (TT nF) [.ref (ad 54), .ref (ad 4), .ref (ad 24), .ref (ad 43)] u0 (fun (u : ac_U) => ac_R rg u ∧ ac_Fr [(54, some 4), (64, some 0), (64, some 1), (64, some 2), (64, some 3), (64, some 4), (64, some 5), (64, some 6), (64, some 7), (64, some 8), (65, none), (66, none), (67, none), (68, none), (69, none), (71, none), (72, none), (77, some 3), (77, some 4), (78, none), (79, none), (80, none), (83, none), (84, none)] u0 u ∧ ((u.1 54 4).toInt = 1) ∧ nmI 71 72 u ∧ f_X4_take_54_4_24_43 u0 = u) := by
  refine ac_Mv.of (cc := cX4_take) (maxL := 4) (ret := none) (by decide) rfl (Nat.le_of_ble_eq_true rfl) ?_
  intro p e s m below meth c A ls F hml hr hlocks hA hP hD hS hl
  have F : ac_X p s m [.ref (ad 54), .ref (ad 4), .ref (ad 24), .ref (ad 43)].toArray c cX4_take RX4 TB (dC, dI) vwCl (ac_ty cA) := ⟨F.1, F.2.1, fun w h => F.2.2.1 w (List.mem_cons_of_mem _ h), F.2.2.2.1, F.2.2.2.2⟩
  have hl : lv_has ls 4 [(0, .ref (ad 54)), (1, .ref (ad 4)), (2, .ref (ad 24)), (3, .ref (ad 43))] := hl
  obtain ⟨RR, hRR⟩ : ∃ q, q = f_X4_take_54_4_24_43 u0 := ⟨_, rfl⟩
  have hF : ac_Fr [(54, some 4), (64, some 0), (64, some 1), (64, some 2), (64, some 3), (64, some 4), (64, some 5), (64, some 6), (64, some 7), (64, some 8), (65, none), (66, none), (67, none), (68, none), (69, none), (71, none), (72, none), (77, some 3), (77, some 4), (78, none), (79, none), (80, none), (83, none), (84, none)] u0 u0 := ac_Fr.rf
  have hC : RR = f_X4_take_54_4_24_43 u0 := hRR
  unfold f_X4_take_54_4_24_43 at hC
  refine lv_aload_n F.1 F.2.1 dX4_take_0 rfl (lv_at hl 0 rfl) ?_
  refine a_getr F inX4 hP 54 0 tc_54 rfl rfl (by decide) q486 (fun _ h9 => h9) dX4_take_1 ?_
  refine lv_aload_n F.1 F.2.1 dX4_take_4 rfl (lv_at hl 1 rfl) ?_
  have g2 : (0 : Int) ≤ (u0.1 54 4).toInt ∧ (u0.1 54 4).toInt ≤ 1 := hR 54 4
  refine a_Vv F hml hl.1 hA hP hD hS (As := [.ref (ad 4)]) (x_X2_copyFrom_64_4 l dC dI ad cA nF _  hR hK_N4) (cs_RX4_36 (d := 1) F.2.2.1 (by decide)) tc_64 rfl rfl rfl rfl (Nat.le_of_ble_eq_true rfl) dX4_take_5 ⟨Nat.le_refl 0, Nat.le_refl 0⟩ (fun u1 H locs hq hP hD hS => ?_)
  obtain ⟨hR, hF1, hK_N64, hz1⟩ := hq
  have hF := hF.tr hF1 (by decide)
  have hK_N4 := sp_fr sp_N4 hF1 (by decide) hK_N4
  have hC := vl_eq hC hz1.symm
  refine lv_aload_n F.1 F.2.1 dX4_take_8 rfl (lv_at hl 0 rfl) ?_
  refine a_getr F inX4 hP 54 1 tc_54 rfl rfl (by decide) q487 (fun _ h9 => h9) dX4_take_9 ?_
  refine lv_aload_n F.1 F.2.1 dX4_take_12 rfl (lv_at hl 3 rfl) ?_
  refine a_Vv F hml hl.1 hA hP hD hS (As := [.ref (ad 43)]) (x_X8_copyFrom_77_43 l dC dI ad cA nF _  hR) (cs_RX4_40 (d := 1) F.2.2.1 (by decide)) tc_77 rfl rfl rfl rfl (Nat.le_of_ble_eq_true rfl) dX4_take_13 ⟨Nat.le_refl 0, Nat.le_refl 0⟩ (fun u3 H locs hq hP hD hS => ?_)
  obtain ⟨hR, hF3, hz3⟩ := hq
  have hF := hF.tr hF3 (by decide)
  have hK_N4 := sp_fr sp_N4 hF3 (by decide) hK_N4
  have hK_N64 := sp_fr sp_N64 hF3 (by decide) hK_N64
  have hC := vl_eq hC hz3.symm
  refine lv_aload_n F.1 F.2.1 dX4_take_16 rfl (lv_at hl 2 rfl) ?_
  refine a_getr F inX6 hP 24 1 tc_24 rfl rfl (by decide) q273 (fun _ h9 => h9) dX4_take_17 ?_
  refine a_ic F (0 : Int32) dX4_take_20 (by decide) ?_
  refine lv_aload_n F.1 F.2.1 dX4_take_21 rfl (lv_at hl 0 rfl) ?_
  refine a_getr F inX4 hP 54 2 tc_54 rfl rfl (by decide) q488 (fun _ h9 => h9) dX4_take_22 ?_
  refine a_ic F (0 : Int32) dX4_take_25 (by decide) ?_
  refine a_bp F (31 : Int32) dX4_take_26 (by decide) ?_
  refine a_cpyi F (hml.trans hl.1.symm) q1341 q708 q707 q19 hP hD hS 25 83 tc_25 tc_83 rfl (by decide) (by decide) (by decide) (by simp only [ic_0, ic_31]; omega) (by simp only [ic_0, ic_31]; omega) (by decide) (by decide) dX4_take_28 (fun H locs hP hD hS => ?_)
  have hR := hR.cp (c0 := 25) (c1 := 83) (sp := (0 : Int32).toNatClampNeg) (dp := (0 : Int32).toNatClampNeg) (n := (31 : Int32).toNatClampNeg) (by decide +kernel)
  have hF := hF.cp (c0 := 25) (c1 := 83) (sp := (0 : Int32).toNatClampNeg) (dp := (0 : Int32).toNatClampNeg) (n := (31 : Int32).toNatClampNeg) (fun _ => rfl)
  have hK_N4 := sp_sgD sp_N4 hD hK_N4 (by decide)
  have hK_N64 := sp_sgD sp_N64 hD hK_N64 (by decide)
  refine lv_aload_n F.1 F.2.1 dX4_take_31 rfl (lv_at hl 2 rfl) ?_
  refine a_getr F inX6 hP 24 2 tc_24 rfl rfl (by decide) q279 (fun _ h9 => h9) dX4_take_32 ?_
  refine a_ic F (0 : Int32) dX4_take_35 (by decide) ?_
  refine lv_aload_n F.1 F.2.1 dX4_take_36 rfl (lv_at hl 0 rfl) ?_
  refine a_getr F inX4 hP 54 3 tc_54 rfl rfl (by decide) q489 (fun _ h9 => h9) dX4_take_37 ?_
  refine a_ic F (0 : Int32) dX4_take_40 (by decide) ?_
  refine lv_aload_n F.1 F.2.1 dX4_take_41 rfl (lv_at hl 0 rfl) ?_
  refine a_getr F inX4 hP 54 3 tc_54 rfl rfl (by decide) q489 (fun _ h9 => h9) dX4_take_42 ?_
  refine va_alen (v := (320 : Int32)) F.1 F.2.1 F.2.2.2.2 hP 84 0 (ac_at tc_84) rfl rfl dX4_take_45 ?_
  refine a_cpyi F (hml.trans hl.1.symm) q1341 q708 q707 q19 hP hD hS 26 84 tc_26 tc_84 rfl (by decide) (by decide) (by decide) (by simp only [ic_0, ic_320]; omega) (by simp only [ic_0, ic_320]; omega) (by decide) (by decide) dX4_take_46 (fun H locs hP hD hS => ?_)
  have hR := hR.cp (c0 := 26) (c1 := 84) (sp := (0 : Int32).toNatClampNeg) (dp := (0 : Int32).toNatClampNeg) (n := (320 : Int32).toNatClampNeg) (by decide +kernel)
  have hF := hF.cp (c0 := 26) (c1 := 84) (sp := (0 : Int32).toNatClampNeg) (dp := (0 : Int32).toNatClampNeg) (n := (320 : Int32).toNatClampNeg) (fun _ => rfl)
  have hK_N4 := sp_sgD sp_N4 hD hK_N4 (by decide)
  have hK_N64 := sp_sgD sp_N64 hD hK_N64 (by decide)
  refine lv_aload_n F.1 F.2.1 dX4_take_49 rfl (lv_at hl 0 rfl) ?_
  refine a_ic F (1 : Int32) dX4_take_50 (by decide) ?_
  refine a_puti F inX4 tyX4 tyX4_ok nmX4 hP hD hS 54 4 tc_54 rfl rfl (by decide) q490 (fun _ h9 => h9) rfl (ty := .boolean) (tyX4_ok 4 (by decide)) (i_zn (Or.inr rfl)) (i_zf (Or.inr rfl)) dX4_take_51 (fun H locs hP hD hS => ?_)
  have hR := hR.si (c := 54) (k := 4) (v := (1 : Int32)) (by rw [ic_1]; exact (by omega : (0 : Int) ≤ (1 : Int) ∧ (1 : Int) ≤ 1))
  have hF := hF.si (c := 54) (k := 4) (v := (1 : Int32)) rfl
  have hK_N4 := sp_sgD sp_N4 hD hK_N4 (by decide)
  have hK_N64 := sp_sgD sp_N64 hD hK_N64 (by decide)
  exact a_retv F hr hlocks hP hD hS dX4_take_54 ⟨hR, hF, (by omega : (1 : Int) = 1), hK_N64, hRR.symm.trans hC⟩
def K_X6_unsayAll_24_2_b (B2 : ac_U → Int32 → ac_U) (u0 : ac_U) (u : ac_U) (x1 : Int32) : ac_U := (if (8 : Int) ≤ x1.toInt then u else (vl ((15 : Int32) + x1) (fun (v2 : Int32) => (vl (x1 + Int32.ofInt (1)) (fun (v3 : Int32) => (B2 (pI u 25 v2.toNatClampNeg (-1 : Int32)) v3))))))
def K_X6_unsayAll_24_2 (u0 : ac_U) : Nat → ac_U → Int32 → ac_U
  | 0 => fun u x1 => u
  | n + 1 => fun u x1 => K_X6_unsayAll_24_2_b (K_X6_unsayAll_24_2 u0 n) u0 u x1
def f_X6_unsayAll_24 (u0 : ac_U) : ac_U := (K_X6_unsayAll_24_2 u0 10 u0 (0 : Int32))
set_option maxHeartbeats 600000 in
set_option maxRecDepth 100000 in
theorem x_X6_unsayAll_24 (l : Launch) (dC : Nat → ClassId) (dI : Nat → Nat → Nat) (ad : Nat → Nat) (cA : Nat → ClassId) (nF : Nat) (u0 : ac_U)  (hR : ac_R rg u0) : ac_Mv l yX6_unsayAll (.code yX6_unsayAll cX6_unsayAll 2 none :: TB) 1 (dC, dI) vwCl (ac_ty cA) ad cA (TT nF) [.ref (ad 24)] u0 (fun (u : ac_U) => ac_R rg u ∧ ac_Fr [(25, none)] u0 u ∧ f_X6_unsayAll_24 u0 = u) := by
  refine ac_Mv.of (cc := cX6_unsayAll) (maxL := 2) (ret := none) (by decide) rfl (Nat.le_of_ble_eq_true rfl) ?_
  intro p e s m below meth c A ls F hml hr hlocks hA hP hD hS hl
  have F : ac_X p s m [.ref (ad 24)].toArray c cX6_unsayAll RX6 TB (dC, dI) vwCl (ac_ty cA) := ⟨F.1, F.2.1, fun w h => F.2.2.1 w (List.mem_cons_of_mem _ h), F.2.2.2.1, F.2.2.2.2⟩
  have hl : lv_has ls 2 [(0, .ref (ad 24))] := hl
  obtain ⟨RR, hRR⟩ : ∃ q, q = f_X6_unsayAll_24 u0 := ⟨_, rfl⟩
  have hF : ac_Fr [(25, none)] u0 u0 := ac_Fr.rf
  have L2 : ∀ (n2 : Nat) (x1 : Int32) (u : ac_U) (H : Heap) (locs : List Loc) (ls : Array Slot), ac_R rg u → ac_Fr [(25, none)] u0 u → 8 - x1.toInt < (n2 : Int) → (0 : Int) ≤ x1.toInt ∧ x1.toInt ≤ 8 → RR = (K_X6_unsayAll_24_2 u0 n2 u x1) → va_P (dC, dI) vwCl (ac_w ad cA (TT nF) u) H → va_D A (ac_w ad cA (TT nF) u) → va_S A s.heap H locs → lv_has ls 2 [(0, .ref (ad 24)), (1, .int x1)] → W p l e (ac_rm 1) s m [.ref (ad 24)].toArray below meth c H locs 0 0 (MQ below (va_Qv (fun (u : ac_U) => ac_R rg u ∧ ac_Fr [(25, none)] u0 u ∧ f_X6_unsayAll_24 u0 = u) (ac_B (dC, dI) vwCl (ac_ty cA) ad cA (TT nF) A) A) [.ref (ad 24)].toArray s 0 0 A) (F0 m 2 ls []) := by
    intro n2
    induction n2 with
    | zero => intro x1 u H locs ls hR hF hn2 f0 hC hP hD hS hl; exfalso; omega
    | succ n2 ih2 =>
      intro x1 u H locs ls hR hF hn2 f0 hC hP hD hS hl
      have hC : RR = K_X6_unsayAll_24_2_b (K_X6_unsayAll_24_2 u0 n2) u0 u x1 := hC
      unfold K_X6_unsayAll_24_2_b at hC
      refine lv_iload_n F.1 F.2.1 dX6_unsayAll_2 rfl (lv_at hl 1 rfl) ?_
      refine a_bp F (8 : Int32) dX6_unsayAll_3 (by decide) ?_
      refine b_ge F 24 dX6_unsayAll_5 (by decide) rfl ic_8 (fun c1 => ?_) (fun c1 => ?_)
      · have hC := hC.trans (if_pos c1)
        exact a_retv F hr hlocks hP hD hS dX6_unsayAll_24 ⟨hR, hF, hRR.symm.trans hC⟩
      · have hC := hC.trans (if_neg (by omega))
        refine lv_aload_n F.1 F.2.1 dX6_unsayAll_8 rfl (lv_at hl 0 rfl) ?_
        refine a_getr F inX6 hP 24 1 tc_24 rfl rfl (by decide) q272 (fun _ h9 => h9) dX6_unsayAll_9 ?_
        refine a_bp F (15 : Int32) dX6_unsayAll_12 (by decide) ?_
        refine lv_iload_n F.1 F.2.1 dX6_unsayAll_14 rfl (lv_at hl 1 rfl) ?_
        refine a_iaddX F dX6_unsayAll_15 ic_15 rfl (by omega) (fun v2 hv2 yv2 => ?_)
        have hC := vl_eq hC yv2
        refine a_ic F (-1 : Int32) dX6_unsayAll_16 (by decide) ?_
        refine a_iast F hP hD hS 25 tc_25 rfl (i_in rfl (by omega)) dX6_unsayAll_17 (fun H locs hP hD hS => ?_)
        have hR := hR.si (c := 25) (k := v2.toNatClampNeg) (v := (-1 : Int32)) (rs_25_15_22 (by omega) (by omega : (-1 : Int) ≤ (-1 : Int) ∧ (-1 : Int) ≤ 480))
        have hF := hF.si (c := 25) (k := v2.toNatClampNeg) (v := (-1 : Int32)) rfl
        refine a_iincX F (k := 1) (fun v3 => [(1, .int v3), (0, .ref (ad 24))]) dX6_unsayAll_18 hl rfl rfl (by decide) (by omega) (by decide) (fun _ => rfl) (fun v3 ls hv3 yv3 hl => ?_)
        have hC := vl_eq hC yv3
        refine lv_goto (tgt := 2) F.1 F.2.1 dX6_unsayAll_21 (by decide) ?_
        exact ih2 v3 _ _ _ _ hR hF (by omega) (by omega) hC hP hD hS (lv_sub hl [1, 0] rfl)
  have hC : RR = f_X6_unsayAll_24 u0 := hRR
  unfold f_X6_unsayAll_24 at hC
  refine a_ic F (0 : Int32) dX6_unsayAll_0 (by decide) ?_
  refine lv_istore_n (lv' := [(1, .int (0 : Int32)), (0, .ref (ad 24))]) F.1 F.2.1 dX6_unsayAll_1 rfl hl (by decide) rfl (fun ls hl => ?_)
  exact L2 10 (0 : Int32) _ _ _ _ hR hF (by decide) (by decide) hC hP hD hS (lv_sub hl [1, 0] rfl)
def K_J7_fill_53178_25_5_b (B5 : ac_U → Int32 → Int32 → ac_U) (u0 : ac_U) (p1 : Int32) (u : ac_U) (x2 : Int32) (x3 : Int32) : ac_U := (if x3.toInt ≤ x2.toInt then u else (vl (x2 + Int32.ofInt (1)) (fun (v2 : Int32) => (B5 (pI u 25 x2.toNatClampNeg p1) v2 x3))))
def K_J7_fill_53178_25_5 (u0 : ac_U) (p1 : Int32) : Nat → ac_U → Int32 → Int32 → ac_U
  | 0 => fun u x2 x3 => u
  | n + 1 => fun u x2 x3 => K_J7_fill_53178_25_5_b (K_J7_fill_53178_25_5 u0 p1 n) u0 p1 u x2 x3
def f_J7_fill_53178_25 (u0 : ac_U) (p1 : Int32) : ac_U := (K_J7_fill_53178_25_5 u0 p1 33 u0 (0 : Int32) (31 : Int32))
set_option maxHeartbeats 600000 in
set_option maxRecDepth 100000 in
theorem x_J7_fill_53178_25 (l : Launch) (dC : Nat → ClassId) (dI : Nat → Nat → Nat) (ad : Nat → Nat) (cA : Nat → ClassId) (nF : Nat) (u0 : ac_U) (p1 : Int32) (hR : ac_R rg u0) (hp1 : (0 : Int) ≤ p1.toInt ∧ p1.toInt ≤ 0) : ac_Mv l yJ7_fill_53178 (.code yJ7_fill_53178 cJ7_fill_53178 4 none :: TB) 1 (dC, dI) vwCl (ac_ty cA) ad cA (TT nF) [.ref (ad 25), .int p1] u0 (fun (u : ac_U) => ac_R rg u ∧ ac_Fr [(25, none)] u0 u ∧ f_J7_fill_53178_25 u0 p1 = u) := by
  refine ac_Mv.of (cc := cJ7_fill_53178) (maxL := 4) (ret := none) (by decide) rfl (Nat.le_of_ble_eq_true rfl) ?_
  intro p e s m below meth c A ls F hml hr hlocks hA hP hD hS hl
  have F : ac_X p s m [.ref (ad 25), .int p1].toArray c cJ7_fill_53178 RJ7 TB (dC, dI) vwCl (ac_ty cA) := ⟨F.1, F.2.1, fun w h => F.2.2.1 w (List.mem_cons_of_mem _ h), F.2.2.2.1, F.2.2.2.2⟩
  have hl : lv_has ls 4 [(0, .ref (ad 25)), (1, .int p1)] := hl
  obtain ⟨RR, hRR⟩ : ∃ q, q = f_J7_fill_53178_25 u0 p1 := ⟨_, rfl⟩
  have hF : ac_Fr [(25, none)] u0 u0 := ac_Fr.rf
  have L5 : ∀ (n5 : Nat) (x2 : Int32) (x3 : Int32) (u : ac_U) (H : Heap) (locs : List Loc) (ls : Array Slot), ac_R rg u → ac_Fr [(25, none)] u0 u → 31 - x2.toInt < (n5 : Int) → (0 : Int) ≤ x2.toInt ∧ x2.toInt ≤ 31 → (31 : Int) ≤ x3.toInt ∧ x3.toInt ≤ 31 → RR = (K_J7_fill_53178_25_5 u0 p1 n5 u x2 x3) → va_P (dC, dI) vwCl (ac_w ad cA (TT nF) u) H → va_D A (ac_w ad cA (TT nF) u) → va_S A s.heap H locs → lv_has ls 4 [(0, .ref (ad 25)), (1, .int p1), (2, .int x2), (3, .int x3)] → W p l e (ac_rm 1) s m [.ref (ad 25), .int p1].toArray below meth c H locs 0 0 (MQ below (va_Qv (fun (u : ac_U) => ac_R rg u ∧ ac_Fr [(25, none)] u0 u ∧ f_J7_fill_53178_25 u0 p1 = u) (ac_B (dC, dI) vwCl (ac_ty cA) ad cA (TT nF) A) A) [.ref (ad 25), .int p1].toArray s 0 0 A) (F0 m 5 ls []) := by
    intro n5
    induction n5 with
    | zero => intro x2 x3 u H locs ls hR hF hn5 f0 f1 hC hP hD hS hl; exfalso; omega
    | succ n5 ih5 =>
      intro x2 x3 u H locs ls hR hF hn5 f0 f1 hC hP hD hS hl
      have hC : RR = K_J7_fill_53178_25_5_b (K_J7_fill_53178_25_5 u0 p1 n5) u0 p1 u x2 x3 := hC
      unfold K_J7_fill_53178_25_5_b at hC
      refine lv_iload_n F.1 F.2.1 dJ7_fill_53178_5 rfl (lv_at hl 2 rfl) ?_
      refine lv_iload_n F.1 F.2.1 dJ7_fill_53178_6 rfl (lv_at hl 3 rfl) ?_
      refine b_ge F 20 dJ7_fill_53178_7 (by decide) rfl rfl (fun c1 => ?_) (fun c1 => ?_)
      · have hC := hC.trans (if_pos c1)
        exact a_retv F hr hlocks hP hD hS dJ7_fill_53178_20 ⟨hR, hF, hRR.symm.trans hC⟩
      · have hC := hC.trans (if_neg (by omega))
        refine lv_aload_n F.1 F.2.1 dJ7_fill_53178_10 rfl (lv_at hl 0 rfl) ?_
        refine lv_iload_n F.1 F.2.1 dJ7_fill_53178_11 rfl (lv_at hl 2 rfl) ?_
        refine lv_iload_n F.1 F.2.1 dJ7_fill_53178_12 rfl (lv_at hl 1 rfl) ?_
        refine a_iast F hP hD hS 25 tc_25 rfl (i_in rfl (by omega)) dJ7_fill_53178_13 (fun H locs hP hD hS => ?_)
        have hR := hR.si (c := 25) (k := x2.toNatClampNeg) (v := p1) (rs_25_0_30 (by omega) (by omega : (0 : Int) ≤ p1.toInt ∧ p1.toInt ≤ 7))
        have hF := hF.si (c := 25) (k := x2.toNatClampNeg) (v := p1) rfl
        refine a_iincX F (k := 2) (fun v2 => [(2, .int v2), (0, .ref (ad 25)), (1, .int p1), (3, .int x3)]) dJ7_fill_53178_14 hl rfl rfl (by decide) (by omega) (by decide) (fun _ => rfl) (fun v2 ls hv2 yv2 hl => ?_)
        have hC := vl_eq hC yv2
        refine lv_goto (tgt := 5) F.1 F.2.1 dJ7_fill_53178_17 (by decide) ?_
        exact ih5 v2 x3 _ _ _ _ hR hF (by omega) (by omega) (by omega) hC hP hD hS (lv_sub hl [1, 2, 0, 3] rfl)
  have hC : RR = f_J7_fill_53178_25 u0 p1 := hRR
  unfold f_J7_fill_53178_25 at hC
  refine a_ic F (0 : Int32) dJ7_fill_53178_0 (by decide) ?_
  refine lv_istore_n (lv' := [(2, .int (0 : Int32)), (0, .ref (ad 25)), (1, .int p1)]) F.1 F.2.1 dJ7_fill_53178_1 rfl hl (by decide) rfl (fun ls hl => ?_)
  refine lv_aload_n F.1 F.2.1 dJ7_fill_53178_2 rfl (lv_at hl 1 rfl) ?_
  refine va_alen (v := (31 : Int32)) F.1 F.2.1 F.2.2.2.2 hP 25 0 (ac_at tc_25) rfl rfl dJ7_fill_53178_3 ?_
  refine lv_istore_n (lv' := [(3, .int (31 : Int32)), (2, .int (0 : Int32)), (0, .ref (ad 25)), (1, .int p1)]) F.1 F.2.1 dJ7_fill_53178_4 rfl hl (by decide) rfl (fun ls hl => ?_)
  exact L5 33 (0 : Int32) (31 : Int32) _ _ _ _ hR hF (by decide) (by decide) (by decide) hC hP hD hS (lv_sub hl [2, 3, 1, 0] rfl)

def f_X6_begin_24 (u0 : ac_U) : ac_U := (vl (f_J7_fill_53178_25 u0 (0 : Int32)) (fun (u1 : ac_U) => (vl (f_X6_unsayAll_24 u1) (fun (u2 : ac_U) => (pI (cpI u2 7 25 (0 : Int32).toNatClampNeg (3 : Int32).toNatClampNeg (4 : Int32).toNatClampNeg) 24 5 (0 : Int32))))))
set_option maxHeartbeats 600000 in
set_option maxRecDepth 100000 in
theorem x_X6_begin_24 (l : Launch) (dC : Nat → ClassId) (dI : Nat → Nat → Nat) (ad : Nat → Nat) (cA : Nat → ClassId) (nF : Nat) (u0 : ac_U)  (hR : ac_R rg u0) : ac_Mv l yX6_begin (.code yX6_begin cX6_begin 1 none :: TB) 2 (dC, dI) vwCl (ac_ty cA) ad cA (TT nF) [.ref (ad 24)] u0 (fun (u : ac_U) => ac_R rg u ∧ ac_Fr [(24, some 5), (25, none)] u0 u ∧ f_X6_begin_24 u0 = u) := by
  refine ac_Mv.of (cc := cX6_begin) (maxL := 1) (ret := none) (by decide) rfl (Nat.le_of_ble_eq_true rfl) ?_
  intro p e s m below meth c A ls F hml hr hlocks hA hP hD hS hl
  have F : ac_X p s m [.ref (ad 24)].toArray c cX6_begin RX6 TB (dC, dI) vwCl (ac_ty cA) := ⟨F.1, F.2.1, fun w h => F.2.2.1 w (List.mem_cons_of_mem _ h), F.2.2.2.1, F.2.2.2.2⟩
  have hl : lv_has ls 1 [(0, .ref (ad 24))] := hl
  obtain ⟨RR, hRR⟩ : ∃ q, q = f_X6_begin_24 u0 := ⟨_, rfl⟩
  have hF : ac_Fr [(24, some 5), (25, none)] u0 u0 := ac_Fr.rf
  have hC : RR = f_X6_begin_24 u0 := hRR
  unfold f_X6_begin_24 at hC
  refine lv_aload_n F.1 F.2.1 dX6_begin_0 rfl (lv_at hl 0 rfl) ?_
  refine a_getr F inX6 hP 24 1 tc_24 rfl rfl (by decide) q272 (fun _ h9 => h9) dX6_begin_1 ?_
  refine a_ic F (0 : Int32) dX6_begin_4 (by decide) ?_
  refine a_Sv F hml hl.1 hA hP hD hS (As := [.ref (ad 25), .int (0 : Int32)]) (x_J7_fill_53178_25 l dC dI ad cA nF _ (0 : Int32) hR (by decide)) (cs_RX6_38 (d := 1) F.2.2.1 (by decide)) rfl rfl (Nat.le_of_ble_eq_true rfl) dX6_begin_5 ⟨Nat.le_refl 0, Nat.le_refl 0⟩ (fun u1 H locs hq hP hD hS => ?_)
  obtain ⟨hR, hF1, hz1⟩ := hq
  have hF := hF.tr hF1 (by decide)
  have hC := vl_eq hC hz1.symm
  refine lv_aload_n F.1 F.2.1 dX6_begin_8 rfl (lv_at hl 0 rfl) ?_
  refine a_Vv F hml hl.1 hA hP hD hS (As := []) (x_X6_unsayAll_24 l dC dI ad cA nF _  hR) (cs_RX6_35 (d := 1) F.2.2.1 (by decide)) tc_24 rfl rfl rfl rfl (Nat.le_of_ble_eq_true rfl) dX6_begin_9 ⟨Nat.le_refl 0, Nat.le_refl 0⟩ (fun u2 H locs hq hP hD hS => ?_)
  obtain ⟨hR, hF2, hz2⟩ := hq
  have hF := hF.tr hF2 (by decide)
  have hC := vl_eq hC hz2.symm
  refine lv_aload_n F.1 F.2.1 dX6_begin_12 rfl (lv_at hl 0 rfl) ?_
  refine a_getr F inX6 hP 24 0 tc_24 rfl rfl (by decide) q271 (fun _ h9 => h9) dX6_begin_13 ?_
  refine a_getr F inX2 hP 4 11 tc_4 rfl rfl (by decide) q194 (fun _ h9 => h9) dX6_begin_16 ?_
  refine a_ic F (0 : Int32) dX6_begin_19 (by decide) ?_
  refine lv_aload_n F.1 F.2.1 dX6_begin_20 rfl (lv_at hl 0 rfl) ?_
  refine a_getr F inX6 hP 24 1 tc_24 rfl rfl (by decide) q272 (fun _ h9 => h9) dX6_begin_21 ?_
  refine a_ic F (3 : Int32) dX6_begin_24 (by decide) ?_
  refine a_ic F (4 : Int32) dX6_begin_25 (by decide) ?_
  refine a_cpyi F (hml.trans hl.1.symm) q730 q708 q707 q19 hP hD hS 7 25 tc_7 tc_25 rfl (by decide) (by decide) (by decide) (by simp only [ic_0, ic_3, ic_4]; omega) (by simp only [ic_0, ic_3, ic_4]; omega) (by decide) (by decide) dX6_begin_26 (fun H locs hP hD hS => ?_)
  have hR := hR.cp (c0 := 7) (c1 := 25) (sp := (0 : Int32).toNatClampNeg) (dp := (3 : Int32).toNatClampNeg) (n := (4 : Int32).toNatClampNeg) (by decide +kernel)
  have hF := hF.cp (c0 := 7) (c1 := 25) (sp := (0 : Int32).toNatClampNeg) (dp := (3 : Int32).toNatClampNeg) (n := (4 : Int32).toNatClampNeg) (fun _ => rfl)
  refine lv_aload_n F.1 F.2.1 dX6_begin_29 rfl (lv_at hl 0 rfl) ?_
  refine a_ic F (0 : Int32) dX6_begin_30 (by decide) ?_
  refine a_puti F inX6 tyX6 tyX6_ok nmX6 hP hD hS 24 5 tc_24 rfl rfl (by decide) q282 (fun _ h9 => h9) rfl (ty := .int) (tyX6_ok 5 (by decide)) rfl rfl dX6_begin_31 (fun H locs hP hD hS => ?_)
  have hR := hR.si (c := 24) (k := 5) (v := (0 : Int32)) (by rw [ic_0]; exact (by omega : (0 : Int) ≤ (0 : Int) ∧ (0 : Int) ≤ 8))
  have hF := hF.si (c := 24) (k := 5) (v := (0 : Int32)) rfl
  exact a_retv F hr hlocks hP hD hS dX6_begin_34 ⟨hR, hF, hRR.symm.trans hC⟩

def f_X8_clear_43 (u0 : ac_U) : ac_U := (pI (pI u0 43 3 (0 : Int32)) 43 4 (0 : Int32))
set_option maxHeartbeats 600000 in
set_option maxRecDepth 100000 in
theorem x_X8_clear_43 (l : Launch) (dC : Nat → ClassId) (dI : Nat → Nat → Nat) (ad : Nat → Nat) (cA : Nat → ClassId) (nF : Nat) (u0 : ac_U)  (hR : ac_R rg u0) : ac_Mv l yX8_clear (.code yX8_clear cX8_clear 1 none :: TB) 1 (dC, dI) vwCl (ac_ty cA) ad cA (TT nF) [.ref (ad 43)] u0 (fun (u : ac_U) => ac_R rg u ∧ ac_Fr [(43, some 3), (43, some 4)] u0 u ∧ f_X8_clear_43 u0 = u) := by
  refine ac_Mv.of (cc := cX8_clear) (maxL := 1) (ret := none) (by decide) rfl (Nat.le_of_ble_eq_true rfl) ?_
  intro p e s m below meth c A ls F hml hr hlocks hA hP hD hS hl
  have F : ac_X p s m [.ref (ad 43)].toArray c cX8_clear RX8 TB (dC, dI) vwCl (ac_ty cA) := ⟨F.1, F.2.1, fun w h => F.2.2.1 w (List.mem_cons_of_mem _ h), F.2.2.2.1, F.2.2.2.2⟩
  have hl : lv_has ls 1 [(0, .ref (ad 43))] := hl
  obtain ⟨RR, hRR⟩ : ∃ q, q = f_X8_clear_43 u0 := ⟨_, rfl⟩
  have hF : ac_Fr [(43, some 3), (43, some 4)] u0 u0 := ac_Fr.rf
  have hC : RR = f_X8_clear_43 u0 := hRR
  unfold f_X8_clear_43 at hC
  refine lv_aload_n F.1 F.2.1 dX8_clear_0 rfl (lv_at hl 0 rfl) ?_
  refine a_ic F (0 : Int32) dX8_clear_1 (by decide) ?_
  refine a_puti F inX8 tyX8 tyX8_ok nmX8 hP hD hS 43 3 tc_43 rfl rfl (by decide) q443 (fun _ h9 => h9) rfl (ty := .int) (tyX8_ok 3 (by decide)) rfl rfl dX8_clear_2 (fun H locs hP hD hS => ?_)
  have hR := hR.si (c := 43) (k := 3) (v := (0 : Int32)) (by rw [ic_0]; exact (by omega : (0 : Int) ≤ (0 : Int) ∧ (0 : Int) ≤ 40))
  have hF := hF.si (c := 43) (k := 3) (v := (0 : Int32)) rfl
  refine lv_aload_n F.1 F.2.1 dX8_clear_5 rfl (lv_at hl 0 rfl) ?_
  refine a_ic F (0 : Int32) dX8_clear_6 (by decide) ?_
  refine a_puti F inX8 tyX8 tyX8_ok nmX8 hP hD hS 43 4 tc_43 rfl rfl (by decide) q445 (fun _ h9 => h9) rfl (ty := .int) (tyX8_ok 4 (by decide)) rfl rfl dX8_clear_7 (fun H locs hP hD hS => ?_)
  have hR := hR.si (c := 43) (k := 4) (v := (0 : Int32)) (by rw [ic_0]; exact (by omega : (0 : Int) ≤ (0 : Int) ∧ (0 : Int) ≤ 20))
  have hF := hF.si (c := 43) (k := 4) (v := (0 : Int32)) rfl
  exact a_retv F hr hlocks hP hD hS dX8_clear_10 ⟨hR, hF, hRR.symm.trans hC⟩
def K_X10_append_1_3_b (B3 : ac_U → Int32 → ac_U) (u0 : ac_U) (p0 : Int32) (u : ac_U) (x2 : Int32) : ac_U := (if x2.toInt < 0 then u else (if (940 : Int) ≤ (u.1 1 2).toInt then u else (vl (jushr p0 x2) (fun (v5 : Int32) => (vl ((v5).toInt8.toInt32) (fun (v6 : Int32) => (vl ((u.1 1 2) + (1 : Int32)) (fun (v7 : Int32) => (vl (x2 + Int32.ofInt (-8)) (fun (v8 : Int32) => (B3 (pI (pI u 2 (u.1 1 2).toNatClampNeg v6) 1 2 v7) v8)))))))))))
def K_X10_append_1_3 (u0 : ac_U) (p0 : Int32) : Nat → ac_U → Int32 → ac_U
  | 0 => fun u x2 => u
  | n + 1 => fun u x2 => K_X10_append_1_3_b (K_X10_append_1_3 u0 p0 n) u0 p0 u x2
def f_X10_append_1 (u0 : ac_U) (p0 : Int32) : ac_U := (K_X10_append_1_3 u0 p0 34 u0 (24 : Int32))
set_option maxHeartbeats 600000 in
set_option maxRecDepth 100000 in
theorem x_X10_append_1 (l : Launch) (dC : Nat → ClassId) (dI : Nat → Nat → Nat) (ad : Nat → Nat) (cA : Nat → ClassId) (nF : Nat) (u0 : ac_U) (p0 : Int32) (hR : ac_R rg u0) : ac_Mv l yX10_append (.code yX10_append cX10_append 3 none :: TB) 1 (dC, dI) vwCl (ac_ty cA) ad cA (TT nF) [.ref (ad 1), .int p0] u0 (fun (u : ac_U) => ac_R rg u ∧ ac_Fr [(1, some 2), (2, none)] u0 u ∧ ((u0.1 1 2).toInt ≤ 936 → (u.1 1 2).toInt = (u0.1 1 2).toInt + 4) ∧ f_X10_append_1 u0 p0 = u) := by
  refine ac_Mv.of (cc := cX10_append) (maxL := 3) (ret := none) (by decide) rfl (Nat.le_of_ble_eq_true rfl) ?_
  intro p e s m below meth c A ls F hml hr hlocks hA hP hD hS hl
  have F : ac_X p s m [.ref (ad 1), .int p0].toArray c cX10_append RX10 TB (dC, dI) vwCl (ac_ty cA) := ⟨F.1, F.2.1, fun w h => F.2.2.1 w (List.mem_cons_of_mem _ h), F.2.2.2.1, F.2.2.2.2⟩
  have hl : lv_has ls 3 [(0, .ref (ad 1)), (1, .int p0)] := hl
  obtain ⟨RR, hRR⟩ : ∃ q, q = f_X10_append_1 u0 p0 := ⟨_, rfl⟩
  have hF : ac_Fr [(1, some 2), (2, none)] u0 u0 := ac_Fr.rf
  have L3 : ∀ (n3 : Nat) (x2 : Int32) (u : ac_U) (H : Heap) (locs : List Loc) (ls : Array Slot), ac_R rg u → ac_Fr [(1, some 2), (2, none)] u0 u → x2.toInt + 8 < (n3 : Int) → (-8 : Int) ≤ x2.toInt ∧ x2.toInt ≤ 24 → ((u0.1 1 2).toInt ≤ 936 → 8 * (u.1 1 2).toInt + x2.toInt = 8 * (u0.1 1 2).toInt + 24) → RR = (K_X10_append_1_3 u0 p0 n3 u x2) → va_P (dC, dI) vwCl (ac_w ad cA (TT nF) u) H → va_D A (ac_w ad cA (TT nF) u) → va_S A s.heap H locs → lv_has ls 3 [(0, .ref (ad 1)), (1, .int p0), (2, .int x2)] → W p l e (ac_rm 1) s m [.ref (ad 1), .int p0].toArray below meth c H locs 0 0 (MQ below (va_Qv (fun (u : ac_U) => ac_R rg u ∧ ac_Fr [(1, some 2), (2, none)] u0 u ∧ ((u0.1 1 2).toInt ≤ 936 → (u.1 1 2).toInt = (u0.1 1 2).toInt + 4) ∧ f_X10_append_1 u0 p0 = u) (ac_B (dC, dI) vwCl (ac_ty cA) ad cA (TT nF) A) A) [.ref (ad 1), .int p0].toArray s 0 0 A) (F0 m 3 ls []) := by
    intro n3
    induction n3 with
    | zero => intro x2 u H locs ls hR hF hn3 f0 f1 hC hP hD hS hl; exfalso; omega
    | succ n3 ih3 =>
      intro x2 u H locs ls hR hF hn3 f0 f1 hC hP hD hS hl
      have hC : RR = K_X10_append_1_3_b (K_X10_append_1_3 u0 p0 n3) u0 p0 u x2 := hC
      unfold K_X10_append_1_3_b at hC
      refine lv_iload_n F.1 F.2.1 dX10_append_3 rfl (lv_at hl 2 rfl) ?_
      refine z_lt F 46 dX10_append_4 (by decide) rfl (fun c1 => ?_) (fun c1 => ?_)
      · have hC := hC.trans (if_pos c1)
        have g2 : (0 : Int) ≤ (u.1 1 2).toInt ∧ (u.1 1 2).toInt ≤ 940 := hR 1 2
        exact a_retv F hr hlocks hP hD hS dX10_append_46 ⟨hR, hF, (by omega : (u0.1 1 2).toInt ≤ 936 → (u.1 1 2).toInt = (u0.1 1 2).toInt + 4), hRR.symm.trans hC⟩
      · have hC := hC.trans (if_neg (by omega))
        refine lv_aload_n F.1 F.2.1 dX10_append_7 rfl (lv_at hl 0 rfl) ?_
        have g3 : (0 : Int) ≤ (u.1 1 2).toInt ∧ (u.1 1 2).toInt ≤ 940 := hR 1 2
        refine a_geti F inX10 hP 1 2 tc_1 rfl rfl (by decide) q95 (fun _ h9 => h9) (v := (u.1 1 2)) rfl dX10_append_8 ?_
        refine a_sp F (940 : Int32) dX10_append_11 (by decide) ?_
        refine b_ge F 46 dX10_append_14 (by decide) rfl ic_940 (fun c4 => ?_) (fun c4 => ?_)
        · have hC := hC.trans (if_pos c4)
          exact a_retv F hr hlocks hP hD hS dX10_append_46 ⟨hR, hF, (by omega : (u0.1 1 2).toInt ≤ 936 → (u.1 1 2).toInt = (u0.1 1 2).toInt + 4), hRR.symm.trans hC⟩
        · have hC := hC.trans (if_neg (by omega))
          refine lv_aload_n F.1 F.2.1 dX10_append_17 rfl (lv_at hl 0 rfl) ?_
          refine a_getr F inX10 hP 1 0 tc_1 rfl rfl (by decide) q93 (fun _ h9 => h9) dX10_append_18 ?_
          refine lv_aload_n F.1 F.2.1 dX10_append_21 rfl (lv_at hl 0 rfl) ?_
          refine a_geti F inX10 hP 1 2 tc_1 rfl rfl (by decide) q95 (fun _ h9 => h9) (v := (u.1 1 2)) (rfl) dX10_append_22 ?_
          refine lv_iload_n F.1 F.2.1 dX10_append_25 rfl (lv_at hl 1 rfl) ?_
          refine lv_iload_n F.1 F.2.1 dX10_append_26 rfl (lv_at hl 2 rfl) ?_
          refine a_iushrUX F dX10_append_27 (fun v5 yv5 => ?_)
          have hC := vl_eq hC yv5
          refine a_i2bX F dX10_append_28 (fun v6 bv6 hv6 yv6 => ?_)
          have hC := vl_eq hC yv6
          refine a_bast F hP hD hS 2 tc_2 rfl (i_in rfl (by omega)) dX10_append_29 (fun H locs hP hD hS => ?_)
          rw [bv6] at hP hD
          have hR := hR.si (c := 2) (k := (u.1 1 2).toNatClampNeg) (v := v6) (by omega : (-128 : Int) ≤ v6.toInt ∧ v6.toInt ≤ 127)
          have hF := hF.si (c := 2) (k := (u.1 1 2).toNatClampNeg) (v := v6) rfl
          refine lv_aload_n F.1 F.2.1 dX10_append_30 rfl (lv_at hl 0 rfl) ?_
          refine lv_dup F.1 F.2.1 dX10_append_31 rfl ?_
          refine a_geti F inX10 hP 1 2 tc_1 rfl rfl (by decide) q95 (fun _ h9 => h9) (v := (u.1 1 2)) (rfl) dX10_append_32 ?_
          refine a_ic F (1 : Int32) dX10_append_35 (by decide) ?_
          refine a_iaddX F dX10_append_36 rfl ic_1 (by omega) (fun v7 hv7 yv7 => ?_)
          have hC := vl_eq hC yv7
          refine a_puti F inX10 tyX10 tyX10_ok nmX10 hP hD hS 1 2 tc_1 rfl rfl (by decide) q95 (fun _ h9 => h9) rfl (ty := .int) (tyX10_ok 2 (by decide)) rfl rfl dX10_append_37 (fun H locs hP hD hS => ?_)
          have hR := hR.si (c := 1) (k := 2) (v := v7) (by omega : (0 : Int) ≤ v7.toInt ∧ v7.toInt ≤ 940)
          have hF := hF.si (c := 1) (k := 2) (v := v7) rfl
          refine a_iincX F (k := 2) (fun v8 => [(2, .int v8), (0, .ref (ad 1)), (1, .int p0)]) dX10_append_40 hl rfl rfl (by decide) (by omega) (by decide) (fun _ => rfl) (fun v8 ls hv8 yv8 hl => ?_)
          have hC := vl_eq hC yv8
          refine lv_goto (tgt := 3) F.1 F.2.1 dX10_append_43 (by decide) ?_
          exact ih3 v8 _ _ _ _ hR hF (by omega) (by omega) (by omega : (u0.1 1 2).toInt ≤ 936 → 8 * v7.toInt + v8.toInt = 8 * (u0.1 1 2).toInt + 24) hC hP hD hS (lv_sub hl [1, 2, 0] rfl)
  have hC : RR = f_X10_append_1 u0 p0 := hRR
  unfold f_X10_append_1 at hC
  refine a_bp F (24 : Int32) dX10_append_0 (by decide) ?_
  refine lv_istore_n (lv' := [(2, .int (24 : Int32)), (0, .ref (ad 1)), (1, .int p0)]) F.1 F.2.1 dX10_append_2 rfl hl (by decide) rfl (fun ls hl => ?_)
  have g9 : (0 : Int) ≤ (u0.1 1 2).toInt ∧ (u0.1 1 2).toInt ≤ 940 := hR 1 2
  exact L3 34 (24 : Int32) _ _ _ _ hR hF (by decide) (by decide) (by first | (rw [ic_24]; exact (by omega : (u0.1 1 2).toInt ≤ 936 → 8 * (u0.1 1 2).toInt + (24 : Int) = 8 * (u0.1 1 2).toInt + 24)) | rw [ic_24]) hC hP hD hS (lv_sub hl [1, 2, 0] rfl)

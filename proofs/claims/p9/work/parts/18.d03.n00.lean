set_option maxHeartbeats 600000 in
set_option maxRecDepth 100000 in
theorem c_X4_take_53_4_24_43__2 (l : Launch) (dC : Nat → ClassId) (dI : Nat → Nat → Nat) (ad : Nat → Nat) (cA : Nat → ClassId) (nF : Nat) (u0 : ac_U)  (hR : ac_R rg u0) (hK_N4 : nmI 11 12 u0) : ac_Mv l yX4_take (.code yX4_take cX4_take 4 none :: TB) 2 (dC, dI) vwCl (ac_ty cA) ad cA (TT nF) [.ref (ad 53), .ref (ad 4), .ref (ad 24), .ref (ad 43)] u0 (fun (u : ac_U) => ac_R rg u ∧ ac_Fr [(53, some 4), (55, some 0), (55, some 1), (55, some 2), (55, some 3), (55, some 4), (55, some 5), (55, some 6), (55, some 7), (55, some 8), (56, none), (57, none), (58, none), (59, none), (60, none), (62, none), (63, none), (73, some 3), (73, some 4), (74, none), (75, none), (76, none), (81, none), (82, none)] u0 u ∧ ((u.1 53 4).toInt = 1) ∧ nmI 62 63 u) := by
  refine ac_Mv.of (cc := cX4_take) (maxL := 4) (ret := none) (by decide) rfl (Nat.le_of_ble_eq_true rfl) ?_
  intro p e s m below meth c A ls F hml hr hlocks hA hP hD hS hl
  have F : ac_X p s m [.ref (ad 53), .ref (ad 4), .ref (ad 24), .ref (ad 43)].toArray c cX4_take RX4 TB (dC, dI) vwCl (ac_ty cA) := ⟨F.1, F.2.1, fun w h => F.2.2.1 w (List.mem_cons_of_mem _ h), F.2.2.2.1, F.2.2.2.2⟩
  have hl : lv_has ls 4 [(0, .ref (ad 53)), (1, .ref (ad 4)), (2, .ref (ad 24)), (3, .ref (ad 43))] := hl
  have hF : ac_Fr [(53, some 4), (55, some 0), (55, some 1), (55, some 2), (55, some 3), (55, some 4), (55, some 5), (55, some 6), (55, some 7), (55, some 8), (56, none), (57, none), (58, none), (59, none), (60, none), (62, none), (63, none), (73, some 3), (73, some 4), (74, none), (75, none), (76, none), (81, none), (82, none)] u0 u0 := ac_Fr.rf
  refine lv_aload_n F.1 F.2.1 dX4_take_0 rfl (lv_at hl 0 rfl) ?_
  refine a_getr F inX4 hP 53 0 tc_53 rfl rfl (by decide) q486 (fun _ h9 => h9) dX4_take_1 ?_
  refine lv_aload_n F.1 F.2.1 dX4_take_4 rfl (lv_at hl 1 rfl) ?_
  have g2 : (0 : Int) ≤ (u0.1 53 4).toInt ∧ (u0.1 53 4).toInt ≤ 1 := hR 53 4
  refine a_Vv F hml hl.1 hA hP hD hS (As := [.ref (ad 4)]) (c_X2_copyFrom_55_4 l dC dI ad cA nF _  hR hK_N4) (cs_RX4_36 (d := 1) F.2.2.1 (by decide)) tc_55 rfl rfl rfl rfl (Nat.le_of_ble_eq_true rfl) dX4_take_5 ⟨Nat.le_refl 0, Nat.le_refl 0⟩ (fun u1 H locs hq hP hD hS => ?_)
  obtain ⟨hR, hF1, hK_N55⟩ := hq
  have hF := hF.tr hF1 (by decide)
  have hK_N4 := sp_fr sp_N4 hF1 (by decide) hK_N4
  refine lv_aload_n F.1 F.2.1 dX4_take_8 rfl (lv_at hl 0 rfl) ?_
  refine a_getr F inX4 hP 53 1 tc_53 rfl rfl (by decide) q487 (fun _ h9 => h9) dX4_take_9 ?_
  refine lv_aload_n F.1 F.2.1 dX4_take_12 rfl (lv_at hl 3 rfl) ?_
  refine a_Vv F hml hl.1 hA hP hD hS (As := [.ref (ad 43)]) (c_X8_copyFrom_73_43 l dC dI ad cA nF _  hR) (cs_RX4_40 (d := 1) F.2.2.1 (by decide)) tc_73 rfl rfl rfl rfl (Nat.le_of_ble_eq_true rfl) dX4_take_13 ⟨Nat.le_refl 0, Nat.le_refl 0⟩ (fun u3 H locs hq hP hD hS => ?_)
  obtain ⟨hR, hF3⟩ := hq
  have hF := hF.tr hF3 (by decide)
  have hK_N4 := sp_fr sp_N4 hF3 (by decide) hK_N4
  have hK_N55 := sp_fr sp_N55 hF3 (by decide) hK_N55
  refine lv_aload_n F.1 F.2.1 dX4_take_16 rfl (lv_at hl 2 rfl) ?_
  refine a_getr F inX6 hP 24 1 tc_24 rfl rfl (by decide) q273 (fun _ h9 => h9) dX4_take_17 ?_
  refine a_ic F (0 : Int32) dX4_take_20 (by decide) ?_
  refine lv_aload_n F.1 F.2.1 dX4_take_21 rfl (lv_at hl 0 rfl) ?_
  refine a_getr F inX4 hP 53 2 tc_53 rfl rfl (by decide) q488 (fun _ h9 => h9) dX4_take_22 ?_
  refine a_ic F (0 : Int32) dX4_take_25 (by decide) ?_
  refine a_bp F (31 : Int32) dX4_take_26 (by decide) ?_
  refine a_cpyi F (hml.trans hl.1.symm) q1341 q708 q707 q19 hP hD hS 25 81 tc_25 tc_81 rfl (by decide) (by decide) (by decide) (by simp only [ic_0, ic_31]; omega) (by simp only [ic_0, ic_31]; omega) (by decide) (by decide) dX4_take_28 (fun H locs hP hD hS => ?_)
  have hR := hR.cp (c0 := 25) (c1 := 81) (sp := (0 : Int32).toNatClampNeg) (dp := (0 : Int32).toNatClampNeg) (n := (31 : Int32).toNatClampNeg) (by decide +kernel)
  have hF := hF.cp (c0 := 25) (c1 := 81) (sp := (0 : Int32).toNatClampNeg) (dp := (0 : Int32).toNatClampNeg) (n := (31 : Int32).toNatClampNeg) (fun _ => rfl)
  have hK_N4 := sp_sgD sp_N4 hD hK_N4 (by decide)
  have hK_N55 := sp_sgD sp_N55 hD hK_N55 (by decide)
  refine lv_aload_n F.1 F.2.1 dX4_take_31 rfl (lv_at hl 2 rfl) ?_
  refine a_getr F inX6 hP 24 2 tc_24 rfl rfl (by decide) q279 (fun _ h9 => h9) dX4_take_32 ?_
  refine a_ic F (0 : Int32) dX4_take_35 (by decide) ?_
  refine lv_aload_n F.1 F.2.1 dX4_take_36 rfl (lv_at hl 0 rfl) ?_
  refine a_getr F inX4 hP 53 3 tc_53 rfl rfl (by decide) q489 (fun _ h9 => h9) dX4_take_37 ?_
  refine a_ic F (0 : Int32) dX4_take_40 (by decide) ?_
  refine lv_aload_n F.1 F.2.1 dX4_take_41 rfl (lv_at hl 0 rfl) ?_
  refine a_getr F inX4 hP 53 3 tc_53 rfl rfl (by decide) q489 (fun _ h9 => h9) dX4_take_42 ?_
  refine va_alen (v := (320 : Int32)) F.1 F.2.1 F.2.2.2.2 hP 82 0 (ac_at tc_82) rfl rfl dX4_take_45 ?_
  refine a_cpyi F (hml.trans hl.1.symm) q1341 q708 q707 q19 hP hD hS 26 82 tc_26 tc_82 rfl (by decide) (by decide) (by decide) (by simp only [ic_0, ic_320]; omega) (by simp only [ic_0, ic_320]; omega) (by decide) (by decide) dX4_take_46 (fun H locs hP hD hS => ?_)
  have hR := hR.cp (c0 := 26) (c1 := 82) (sp := (0 : Int32).toNatClampNeg) (dp := (0 : Int32).toNatClampNeg) (n := (320 : Int32).toNatClampNeg) (by decide +kernel)
  have hF := hF.cp (c0 := 26) (c1 := 82) (sp := (0 : Int32).toNatClampNeg) (dp := (0 : Int32).toNatClampNeg) (n := (320 : Int32).toNatClampNeg) (fun _ => rfl)
  have hK_N4 := sp_sgD sp_N4 hD hK_N4 (by decide)
  have hK_N55 := sp_sgD sp_N55 hD hK_N55 (by decide)
  refine lv_aload_n F.1 F.2.1 dX4_take_49 rfl (lv_at hl 0 rfl) ?_
  refine a_ic F (1 : Int32) dX4_take_50 (by decide) ?_
  refine a_puti F inX4 tyX4 tyX4_ok nmX4 hP hD hS 53 4 tc_53 rfl rfl (by decide) q490 (fun _ h9 => h9) rfl (ty := .boolean) (tyX4_ok 4 (by decide)) (i_zn (Or.inr rfl)) (i_zf (Or.inr rfl)) dX4_take_51 (fun H locs hP hD hS => ?_)
  have hR := hR.si (c := 53) (k := 4) (v := (1 : Int32)) (by rw [ic_1]; exact (by omega : (0 : Int) ≤ (1 : Int) ∧ (1 : Int) ≤ 1))
  have hF := hF.si (c := 53) (k := 4) (v := (1 : Int32)) rfl
  have hK_N4 := sp_sgD sp_N4 hD hK_N4 (by decide)
  have hK_N55 := sp_sgD sp_N55 hD hK_N55 (by decide)
  exact a_retv F hr hlocks hP hD hS dX4_take_54 ⟨hR, hF, (by omega : (1 : Int) = 1), hK_N55⟩
set_option maxHeartbeats 600000 in
set_option maxRecDepth 100000 in
theorem c_X4_take_54_4_24_43__2 (l : Launch) (dC : Nat → ClassId) (dI : Nat → Nat → Nat) (ad : Nat → Nat) (cA : Nat → ClassId) (nF : Nat) (u0 : ac_U)  (hR : ac_R rg u0) (hK_N4 : nmI 11 12 u0) : ac_Mv l yX4_take (.code yX4_take cX4_take 4 none :: TB) 2 (dC, dI) vwCl (ac_ty cA) ad cA (TT nF) [.ref (ad 54), .ref (ad 4), .ref (ad 24), .ref (ad 43)] u0 (fun (u : ac_U) => ac_R rg u ∧ ac_Fr [(54, some 4), (64, some 0), (64, some 1), (64, some 2), (64, some 3), (64, some 4), (64, some 5), (64, some 6), (64, some 7), (64, some 8), (65, none), (66, none), (67, none), (68, none), (69, none), (71, none), (72, none), (77, some 3), (77, some 4), (78, none), (79, none), (80, none), (83, none), (84, none)] u0 u ∧ ((u.1 54 4).toInt = 1) ∧ nmI 71 72 u) := by
  refine ac_Mv.of (cc := cX4_take) (maxL := 4) (ret := none) (by decide) rfl (Nat.le_of_ble_eq_true rfl) ?_
  intro p e s m below meth c A ls F hml hr hlocks hA hP hD hS hl
  have F : ac_X p s m [.ref (ad 54), .ref (ad 4), .ref (ad 24), .ref (ad 43)].toArray c cX4_take RX4 TB (dC, dI) vwCl (ac_ty cA) := ⟨F.1, F.2.1, fun w h => F.2.2.1 w (List.mem_cons_of_mem _ h), F.2.2.2.1, F.2.2.2.2⟩
  have hl : lv_has ls 4 [(0, .ref (ad 54)), (1, .ref (ad 4)), (2, .ref (ad 24)), (3, .ref (ad 43))] := hl
  have hF : ac_Fr [(54, some 4), (64, some 0), (64, some 1), (64, some 2), (64, some 3), (64, some 4), (64, some 5), (64, some 6), (64, some 7), (64, some 8), (65, none), (66, none), (67, none), (68, none), (69, none), (71, none), (72, none), (77, some 3), (77, some 4), (78, none), (79, none), (80, none), (83, none), (84, none)] u0 u0 := ac_Fr.rf
  refine lv_aload_n F.1 F.2.1 dX4_take_0 rfl (lv_at hl 0 rfl) ?_
  refine a_getr F inX4 hP 54 0 tc_54 rfl rfl (by decide) q486 (fun _ h9 => h9) dX4_take_1 ?_
  refine lv_aload_n F.1 F.2.1 dX4_take_4 rfl (lv_at hl 1 rfl) ?_
  have g2 : (0 : Int) ≤ (u0.1 54 4).toInt ∧ (u0.1 54 4).toInt ≤ 1 := hR 54 4
  refine a_Vv F hml hl.1 hA hP hD hS (As := [.ref (ad 4)]) (c_X2_copyFrom_64_4 l dC dI ad cA nF _  hR hK_N4) (cs_RX4_36 (d := 1) F.2.2.1 (by decide)) tc_64 rfl rfl rfl rfl (Nat.le_of_ble_eq_true rfl) dX4_take_5 ⟨Nat.le_refl 0, Nat.le_refl 0⟩ (fun u1 H locs hq hP hD hS => ?_)
  obtain ⟨hR, hF1, hK_N64⟩ := hq
  have hF := hF.tr hF1 (by decide)
  have hK_N4 := sp_fr sp_N4 hF1 (by decide) hK_N4
  refine lv_aload_n F.1 F.2.1 dX4_take_8 rfl (lv_at hl 0 rfl) ?_
  refine a_getr F inX4 hP 54 1 tc_54 rfl rfl (by decide) q487 (fun _ h9 => h9) dX4_take_9 ?_
  refine lv_aload_n F.1 F.2.1 dX4_take_12 rfl (lv_at hl 3 rfl) ?_
  refine a_Vv F hml hl.1 hA hP hD hS (As := [.ref (ad 43)]) (c_X8_copyFrom_77_43 l dC dI ad cA nF _  hR) (cs_RX4_40 (d := 1) F.2.2.1 (by decide)) tc_77 rfl rfl rfl rfl (Nat.le_of_ble_eq_true rfl) dX4_take_13 ⟨Nat.le_refl 0, Nat.le_refl 0⟩ (fun u3 H locs hq hP hD hS => ?_)
  obtain ⟨hR, hF3⟩ := hq
  have hF := hF.tr hF3 (by decide)
  have hK_N4 := sp_fr sp_N4 hF3 (by decide) hK_N4
  have hK_N64 := sp_fr sp_N64 hF3 (by decide) hK_N64
  refine lv_aload_n F.1 F.2.1 dX4_take_16 rfl (lv_at hl 2 rfl) ?_
  refine a_getr F inX6 hP 24 1 tc_24 rfl rfl (by decide) q273 (fun _ h9 => h9) dX4_take_17 ?_
  refine a_ic F (0 : Int32) dX4_take_20 (by decide) ?_
  refine lv_aload_n F.1 F.2.1 dX4_take_21 rfl (lv_at hl 0 rfl) ?_
  refine a_getr F inX4 hP 54 2 tc_54 rfl rfl (by decide) q488 (fun _ h9 => h9) dX4_take_22 ?_
  refine a_ic F (0 : Int32) dX4_take_25 (by decide) ?_
  refine a_bp F (31 : Int32) dX4_take_26 (by decide) ?_
  refine a_cpyi F (hml.trans hl.1.symm) q1341 q708 q707 q19 hP hD hS 25 83 tc_25 tc_83 rfl (by decide) (by decide) (by decide) (by simp only [ic_0, ic_31]; omega) (by simp only [ic_0, ic_31]; omega) (by decide) (by decide) dX4_take_28 (fun H locs hP hD hS => ?_)
  have hR := hR.cp (c0 := 25) (c1 := 83) (sp := (0 : Int32).toNatClampNeg) (dp := (0 : Int32).toNatClampNeg) (n := (31 : Int32).toNatClampNeg) (by decide +kernel)
  have hF := hF.cp (c0 := 25) (c1 := 83) (sp := (0 : Int32).toNatClampNeg) (dp := (0 : Int32).toNatClampNeg) (n := (31 : Int32).toNatClampNeg) (fun _ => rfl)
  have hK_N4 := sp_sgD sp_N4 hD hK_N4 (by decide)
  have hK_N64 := sp_sgD sp_N64 hD hK_N64 (by decide)
  refine lv_aload_n F.1 F.2.1 dX4_take_31 rfl (lv_at hl 2 rfl) ?_
  refine a_getr F inX6 hP 24 2 tc_24 rfl rfl (by decide) q279 (fun _ h9 => h9) dX4_take_32 ?_
  refine a_ic F (0 : Int32) dX4_take_35 (by decide) ?_
  refine lv_aload_n F.1 F.2.1 dX4_take_36 rfl (lv_at hl 0 rfl) ?_
  refine a_getr F inX4 hP 54 3 tc_54 rfl rfl (by decide) q489 (fun _ h9 => h9) dX4_take_37 ?_
  refine a_ic F (0 : Int32) dX4_take_40 (by decide) ?_
  refine lv_aload_n F.1 F.2.1 dX4_take_41 rfl (lv_at hl 0 rfl) ?_
  refine a_getr F inX4 hP 54 3 tc_54 rfl rfl (by decide) q489 (fun _ h9 => h9) dX4_take_42 ?_
  refine va_alen (v := (320 : Int32)) F.1 F.2.1 F.2.2.2.2 hP 84 0 (ac_at tc_84) rfl rfl dX4_take_45 ?_
  refine a_cpyi F (hml.trans hl.1.symm) q1341 q708 q707 q19 hP hD hS 26 84 tc_26 tc_84 rfl (by decide) (by decide) (by decide) (by simp only [ic_0, ic_320]; omega) (by simp only [ic_0, ic_320]; omega) (by decide) (by decide) dX4_take_46 (fun H locs hP hD hS => ?_)
  have hR := hR.cp (c0 := 26) (c1 := 84) (sp := (0 : Int32).toNatClampNeg) (dp := (0 : Int32).toNatClampNeg) (n := (320 : Int32).toNatClampNeg) (by decide +kernel)
  have hF := hF.cp (c0 := 26) (c1 := 84) (sp := (0 : Int32).toNatClampNeg) (dp := (0 : Int32).toNatClampNeg) (n := (320 : Int32).toNatClampNeg) (fun _ => rfl)
  have hK_N4 := sp_sgD sp_N4 hD hK_N4 (by decide)
  have hK_N64 := sp_sgD sp_N64 hD hK_N64 (by decide)
  refine lv_aload_n F.1 F.2.1 dX4_take_49 rfl (lv_at hl 0 rfl) ?_
  refine a_ic F (1 : Int32) dX4_take_50 (by decide) ?_
  refine a_puti F inX4 tyX4 tyX4_ok nmX4 hP hD hS 54 4 tc_54 rfl rfl (by decide) q490 (fun _ h9 => h9) rfl (ty := .boolean) (tyX4_ok 4 (by decide)) (i_zn (Or.inr rfl)) (i_zf (Or.inr rfl)) dX4_take_51 (fun H locs hP hD hS => ?_)
  have hR := hR.si (c := 54) (k := 4) (v := (1 : Int32)) (by rw [ic_1]; exact (by omega : (0 : Int) ≤ (1 : Int) ∧ (1 : Int) ≤ 1))
  have hF := hF.si (c := 54) (k := 4) (v := (1 : Int32)) rfl
  have hK_N4 := sp_sgD sp_N4 hD hK_N4 (by decide)
  have hK_N64 := sp_sgD sp_N64 hD hK_N64 (by decide)
  exact a_retv F hr hlocks hP hD hS dX4_take_54 ⟨hR, hF, (by omega : (1 : Int) = 1), hK_N64⟩
set_option maxHeartbeats 600000 in
set_option maxRecDepth 100000 in
theorem c_X10_append_1__2 (l : Launch) (dC : Nat → ClassId) (dI : Nat → Nat → Nat) (ad : Nat → Nat) (cA : Nat → ClassId) (nF : Nat) (u0 : ac_U) (p0 : Int32) (hR : ac_R rg u0) : ac_Mv l yX10_append (.code yX10_append cX10_append 3 none :: TB) 1 (dC, dI) vwCl (ac_ty cA) ad cA (TT nF) [.ref (ad 1), .int p0] u0 (fun (u : ac_U) => ac_R rg u ∧ ac_Fr [(1, some 2), (2, none)] u0 u ∧ ((u0.1 1 2).toInt ≤ 936 → (u.1 1 2).toInt = (u0.1 1 2).toInt + 4)) := by
  refine ac_Mv.of (cc := cX10_append) (maxL := 3) (ret := none) (by decide) rfl (Nat.le_of_ble_eq_true rfl) ?_
  intro p e s m below meth c A ls F hml hr hlocks hA hP hD hS hl
  have F : ac_X p s m [.ref (ad 1), .int p0].toArray c cX10_append RX10 TB (dC, dI) vwCl (ac_ty cA) := ⟨F.1, F.2.1, fun w h => F.2.2.1 w (List.mem_cons_of_mem _ h), F.2.2.2.1, F.2.2.2.2⟩
  have hl : lv_has ls 3 [(0, .ref (ad 1)), (1, .int p0)] := hl
  have hF : ac_Fr [(1, some 2), (2, none)] u0 u0 := ac_Fr.rf
  have L3 : ∀ (n3 : Nat) (x2 : Int32) (u : ac_U) (H : Heap) (locs : List Loc) (ls : Array Slot), ac_R rg u → ac_Fr [(1, some 2), (2, none)] u0 u → x2.toInt + 8 < (n3 : Int) → (-8 : Int) ≤ x2.toInt ∧ x2.toInt ≤ 24 → ((u0.1 1 2).toInt ≤ 936 → 8 * (u.1 1 2).toInt + x2.toInt = 8 * (u0.1 1 2).toInt + 24) → va_P (dC, dI) vwCl (ac_w ad cA (TT nF) u) H → va_D A (ac_w ad cA (TT nF) u) → va_S A s.heap H locs → lv_has ls 3 [(0, .ref (ad 1)), (1, .int p0), (2, .int x2)] → W p l e (ac_rm 1) s m [.ref (ad 1), .int p0].toArray below meth c H locs 0 0 (MQ below (va_Qv (fun (u : ac_U) => ac_R rg u ∧ ac_Fr [(1, some 2), (2, none)] u0 u ∧ ((u0.1 1 2).toInt ≤ 936 → (u.1 1 2).toInt = (u0.1 1 2).toInt + 4)) (ac_B (dC, dI) vwCl (ac_ty cA) ad cA (TT nF) A) A) [.ref (ad 1), .int p0].toArray s 0 0 A) (F0 m 3 ls []) := by
    intro n3
    induction n3 with
    | zero => intro x2 u H locs ls hR hF hn3 f0 f1 hP hD hS hl; exfalso; omega
    | succ n3 ih3 =>
      intro x2 u H locs ls hR hF hn3 f0 f1 hP hD hS hl
      refine lv_iload_n F.1 F.2.1 dX10_append_3 rfl (lv_at hl 2 rfl) ?_
      refine z_lt F 46 dX10_append_4 (by decide) rfl (fun c1 => ?_) (fun c1 => ?_)
      · have g2 : (0 : Int) ≤ (u.1 1 2).toInt ∧ (u.1 1 2).toInt ≤ 940 := hR 1 2
        exact a_retv F hr hlocks hP hD hS dX10_append_46 ⟨hR, hF, (by omega : (u0.1 1 2).toInt ≤ 936 → (u.1 1 2).toInt = (u0.1 1 2).toInt + 4)⟩
      · refine lv_aload_n F.1 F.2.1 dX10_append_7 rfl (lv_at hl 0 rfl) ?_
        have g3 : (0 : Int) ≤ (u.1 1 2).toInt ∧ (u.1 1 2).toInt ≤ 940 := hR 1 2
        refine a_geti F inX10 hP 1 2 tc_1 rfl rfl (by decide) q95 (fun _ h9 => h9) (v := (u.1 1 2)) rfl dX10_append_8 ?_
        refine a_sp F (940 : Int32) dX10_append_11 (by decide) ?_
        refine b_ge F 46 dX10_append_14 (by decide) rfl ic_940 (fun c4 => ?_) (fun c4 => ?_)
        · exact a_retv F hr hlocks hP hD hS dX10_append_46 ⟨hR, hF, (by omega : (u0.1 1 2).toInt ≤ 936 → (u.1 1 2).toInt = (u0.1 1 2).toInt + 4)⟩
        · refine lv_aload_n F.1 F.2.1 dX10_append_17 rfl (lv_at hl 0 rfl) ?_
          refine a_getr F inX10 hP 1 0 tc_1 rfl rfl (by decide) q93 (fun _ h9 => h9) dX10_append_18 ?_
          refine lv_aload_n F.1 F.2.1 dX10_append_21 rfl (lv_at hl 0 rfl) ?_
          refine a_geti F inX10 hP 1 2 tc_1 rfl rfl (by decide) q95 (fun _ h9 => h9) (v := (u.1 1 2)) (rfl) dX10_append_22 ?_
          refine lv_iload_n F.1 F.2.1 dX10_append_25 rfl (lv_at hl 1 rfl) ?_
          refine lv_iload_n F.1 F.2.1 dX10_append_26 rfl (lv_at hl 2 rfl) ?_
          refine a_iushrU F dX10_append_27 (fun v5 => ?_)
          refine a_i2b F dX10_append_28 (fun v6 bv6 hv6 => ?_)
          refine a_bast F hP hD hS 2 tc_2 rfl (i_in rfl (by omega)) dX10_append_29 (fun H locs hP hD hS => ?_)
          rw [bv6] at hP hD
          have hR := hR.si (c := 2) (k := (u.1 1 2).toNatClampNeg) (v := v6) (by omega : (-128 : Int) ≤ v6.toInt ∧ v6.toInt ≤ 127)
          have hF := hF.si (c := 2) (k := (u.1 1 2).toNatClampNeg) (v := v6) rfl
          refine lv_aload_n F.1 F.2.1 dX10_append_30 rfl (lv_at hl 0 rfl) ?_
          refine lv_dup F.1 F.2.1 dX10_append_31 rfl ?_
          refine a_geti F inX10 hP 1 2 tc_1 rfl rfl (by decide) q95 (fun _ h9 => h9) (v := (u.1 1 2)) (rfl) dX10_append_32 ?_
          refine a_ic F (1 : Int32) dX10_append_35 (by decide) ?_
          refine a_iadd F dX10_append_36 rfl ic_1 (by omega) (fun v7 hv7 => ?_)
          refine a_puti F inX10 tyX10 tyX10_ok nmX10 hP hD hS 1 2 tc_1 rfl rfl (by decide) q95 (fun _ h9 => h9) rfl (ty := .int) (tyX10_ok 2 (by decide)) rfl rfl dX10_append_37 (fun H locs hP hD hS => ?_)
          have hR := hR.si (c := 1) (k := 2) (v := v7) (by omega : (0 : Int) ≤ v7.toInt ∧ v7.toInt ≤ 940)
          have hF := hF.si (c := 1) (k := 2) (v := v7) rfl
          refine a_iinc F (k := 2) (fun v8 => [(2, .int v8), (0, .ref (ad 1)), (1, .int p0)]) dX10_append_40 hl rfl rfl (by decide) (by omega) (by decide) (fun _ => rfl) (fun v8 ls hv8 hl => ?_)
          refine lv_goto (tgt := 3) F.1 F.2.1 dX10_append_43 (by decide) ?_
          exact ih3 v8 _ _ _ _ hR hF (by omega) (by omega) (by omega : (u0.1 1 2).toInt ≤ 936 → 8 * v7.toInt + v8.toInt = 8 * (u0.1 1 2).toInt + 24) hP hD hS (lv_sub hl [1, 2, 0] rfl)
  refine a_bp F (24 : Int32) dX10_append_0 (by decide) ?_
  refine lv_istore_n (lv' := [(2, .int (24 : Int32)), (0, .ref (ad 1)), (1, .int p0)]) F.1 F.2.1 dX10_append_2 rfl hl (by decide) rfl (fun ls hl => ?_)
  have g9 : (0 : Int) ≤ (u0.1 1 2).toInt ∧ (u0.1 1 2).toInt ≤ 940 := hR 1 2
  exact L3 34 (24 : Int32) _ _ _ _ hR hF (by decide) (by decide) (by first | (rw [ic_24]; exact (by omega : (u0.1 1 2).toInt ≤ 936 → 8 * (u0.1 1 2).toInt + (24 : Int) = 8 * (u0.1 1 2).toInt + 24)) | rw [ic_24]) hP hD hS (lv_sub hl [1, 2, 0] rfl)
set_option maxHeartbeats 600000 in
set_option maxRecDepth 100000 in
theorem c_X11_daybook_0__2 (l : Launch) (dC : Nat → ClassId) (dI : Nat → Nat → Nat) (ad : Nat → Nat) (cA : Nat → ClassId) (nF : Nat) (u0 : ac_U) (p0 : Int32) (hR : ac_R rg u0) (hK_N4 : nmI 11 12 u0) : ac_Mi l yX11_daybook (.code yX11_daybook cX11_daybook 3 (some .int) :: TB) 8 (dC, dI) vwCl (ac_ty cA) ad cA (TT nF) [.ref (ad 0), .int p0] u0 (fun (r : Int32) (u : ac_U) => ac_R rg u ∧ ac_Fr [(0, some 13), (0, some 14), (1, some 2), (1, some 3), (1, some 4), (1, some 5), (1, some 6), (1, some 8), (1, some 9), (1, some 10), (1, some 11), (24, some 5), (24, some 6), (25, none), (26, none), (27, none), (28, none), (29, some 4), (29, some 5), (29, some 6), (30, none), (39, some 6), (39, some 7), (39, some 8), (39, some 9), (40, none), (41, none), (42, none)] u0 u ∧ (r.toInt ≤ 39) ∧ (dlI 1 u0 p0.toInt) u) := by
  refine ac_Mi.of (cc := cX11_daybook) (maxL := 3) (ret := (some .int)) (by decide) rfl (Nat.le_of_ble_eq_true rfl) ?_
  intro p e s m below meth c A ls F hml hr hlocks hA hP hD hS hl
  have F : ac_X p s m [.ref (ad 0), .int p0].toArray c cX11_daybook RX11 TB (dC, dI) vwCl (ac_ty cA) := ⟨F.1, F.2.1, fun w h => F.2.2.1 w (List.mem_cons_of_mem _ h), F.2.2.2.1, F.2.2.2.2⟩
  have hl : lv_has ls 3 [(0, .ref (ad 0)), (1, .int p0)] := hl
  have hF : ac_Fr [(0, some 13), (0, some 14), (1, some 2), (1, some 3), (1, some 4), (1, some 5), (1, some 6), (1, some 8), (1, some 9), (1, some 10), (1, some 11), (24, some 5), (24, some 6), (25, none), (26, none), (27, none), (28, none), (29, some 4), (29, some 5), (29, some 6), (30, none), (39, some 6), (39, some 7), (39, some 8), (39, some 9), (40, none), (41, none), (42, none)] u0 u0 := ac_Fr.rf
  have L97 : ∀ (u : ac_U) (H : Heap) (locs : List Loc) (ls : Array Slot), ac_R rg u → ac_Fr [(0, some 13), (0, some 14), (1, some 2), (1, some 3), (1, some 4), (1, some 5), (1, some 6), (1, some 8), (1, some 9), (1, some 10), (1, some 11), (24, some 5), (24, some 6), (25, none), (26, none), (27, none), (28, none), (29, some 4), (29, some 5), (29, some 6), (30, none), (39, some 6), (39, some 7), (39, some 8), (39, some 9), (40, none), (41, none), (42, none)] u0 u → (dlI 1 u0 p0.toInt) u → (1 : Int) ≤ (u.1 0 14).toInt ∧ (u.1 0 14).toInt ≤ 1 → (0 : Int) ≤ (u.1 1 2).toInt ∧ (u.1 1 2).toInt ≤ 0 → va_P (dC, dI) vwCl (ac_w ad cA (TT nF) u) H → va_D A (ac_w ad cA (TT nF) u) → va_S A s.heap H locs → lv_has ls 3 [(0, .ref (ad 0))] → W p l e (ac_rm 8) s m [.ref (ad 0), .int p0].toArray below meth c H locs 0 0 (MQ below (va_Qi (fun (r : Int32) (u : ac_U) => ac_R rg u ∧ ac_Fr [(0, some 13), (0, some 14), (1, some 2), (1, some 3), (1, some 4), (1, some 5), (1, some 6), (1, some 8), (1, some 9), (1, some 10), (1, some 11), (24, some 5), (24, some 6), (25, none), (26, none), (27, none), (28, none), (29, some 4), (29, some 5), (29, some 6), (30, none), (39, some 6), (39, some 7), (39, some 8), (39, some 9), (40, none), (41, none), (42, none)] u0 u ∧ (r.toInt ≤ 39) ∧ (dlI 1 u0 p0.toInt) u) (ac_B (dC, dI) vwCl (ac_ty cA) ad cA (TT nF) A) A) [.ref (ad 0), .int p0].toArray s 0 0 A) (F0 m 97 ls []) := by
    intro u H locs ls hR hF hK_DC f0 f1 hP hD hS hl
    refine lv_aload_n F.1 F.2.1 dX11_daybook_97 rfl (lv_at hl 0 rfl) ?_
    refine a_getr F inX11 hP 0 8 tc_0 rfl rfl (by decide) q511 (fun _ h9 => h9) dX11_daybook_98 ?_
    refine a_geti F inX0 hP 39 8 tc_39 rfl rfl (by decide) q410 (fun _ h9 => h9) (v := (u.1 39 8)) rfl dX11_daybook_101 ?_
    refine lv_aload_n F.1 F.2.1 dX11_daybook_104 rfl (lv_at hl 0 rfl) ?_
    refine a_getr F inX11 hP 0 8 tc_0 rfl rfl (by decide) q511 (fun _ h9 => h9) dX11_daybook_105 ?_
    have g1 : (0 : Int) ≤ (u.1 39 6).toInt ∧ (u.1 39 6).toInt ≤ 40 := hR 39 6
    refine a_geti F inX0 hP 39 6 tc_39 rfl rfl (by decide) q406 (fun _ h9 => h9) (v := (u.1 39 6)) rfl dX11_daybook_108 ?_
    refine b_ge F 124 dX11_daybook_111 (by decide) rfl rfl (fun c2 => ?_) (fun c2 => ?_)
    · refine a_ic F (-1 : Int32) dX11_daybook_124 (by decide) ?_
      exact a_reti F hr hlocks hP hD hS dX11_daybook_125 ⟨hR, hF, (by decide), hK_DC⟩
    · refine lv_aload_n F.1 F.2.1 dX11_daybook_114 rfl (lv_at hl 0 rfl) ?_
      refine a_getr F inX11 hP 0 8 tc_0 rfl rfl (by decide) q511 (fun _ h9 => h9) dX11_daybook_115 ?_
      refine a_geti F inX0 hP 39 8 tc_39 rfl rfl (by decide) q410 (fun _ h9 => h9) (v := (u.1 39 8)) (rfl) dX11_daybook_118 ?_
      refine lv_goto (tgt := 125) F.1 F.2.1 dX11_daybook_121 (by decide) ?_
      exact a_reti F hr hlocks hP hD hS dX11_daybook_125 ⟨hR, hF, (by omega : (u.1 39 8).toInt ≤ 39), hK_DC⟩
  have L56 : ∀ (u : ac_U) (H : Heap) (locs : List Loc) (ls : Array Slot), ac_R rg u → ac_Fr [(0, some 13), (0, some 14), (1, some 2), (1, some 3), (1, some 4), (1, some 5), (1, some 6), (1, some 8), (1, some 9), (1, some 10), (1, some 11), (24, some 5), (24, some 6), (25, none), (26, none), (27, none), (28, none), (29, some 4), (29, some 5), (29, some 6), (30, none), (39, some 6), (39, some 7), (39, some 8), (39, some 9), (40, none), (41, none), (42, none)] u0 u → nmI 11 12 u → dbI u → (dlI 1 u0 p0.toInt) u → (0 : Int) ≤ p0.toInt ∧ p0.toInt ≤ 1 → (0 : Int) ≤ (u.1 1 2).toInt ∧ (u.1 1 2).toInt ≤ 0 → va_P (dC, dI) vwCl (ac_w ad cA (TT nF) u) H → va_D A (ac_w ad cA (TT nF) u) → va_S A s.heap H locs → lv_has ls 3 [(0, .ref (ad 0)), (1, .int p0)] → W p l e (ac_rm 8) s m [.ref (ad 0), .int p0].toArray below meth c H locs 0 0 (MQ below (va_Qi (fun (r : Int32) (u : ac_U) => ac_R rg u ∧ ac_Fr [(0, some 13), (0, some 14), (1, some 2), (1, some 3), (1, some 4), (1, some 5), (1, some 6), (1, some 8), (1, some 9), (1, some 10), (1, some 11), (24, some 5), (24, some 6), (25, none), (26, none), (27, none), (28, none), (29, some 4), (29, some 5), (29, some 6), (30, none), (39, some 6), (39, some 7), (39, some 8), (39, some 9), (40, none), (41, none), (42, none)] u0 u ∧ (r.toInt ≤ 39) ∧ (dlI 1 u0 p0.toInt) u) (ac_B (dC, dI) vwCl (ac_ty cA) ad cA (TT nF) A) A) [.ref (ad 0), .int p0].toArray s 0 0 A) (F0 m 56 ls []) := by
    intro u H locs ls hR hF hK_N4 hK_DBI hK_DC f0 f1 hP hD hS hl
    refine lv_aload_n F.1 F.2.1 dX11_daybook_56 rfl (lv_at hl 0 rfl) ?_
    refine a_getr F inX11 hP 0 4 tc_0 rfl rfl (by decide) q507 (fun _ h9 => h9) dX11_daybook_57 ?_
    refine a_Vv F hml hl.1 hA hP hD hS (As := []) (c_X6_setAside_24 l dC dI ad cA nF _  hR) (cs_RX11_294 (d := 1) F.2.2.1 (by decide)) tc_24 rfl rfl rfl rfl (Nat.le_of_ble_eq_true rfl) dX11_daybook_60 ⟨Nat.le_refl 0, Nat.le_refl 0⟩ (fun u3 H locs hq hP hD hS => ?_)
    obtain ⟨hR, hF3⟩ := hq
    have hF := hF.tr hF3 (by decide)
    have hK_N4 := sp_fr sp_N4 hF3 (by decide) hK_N4
    have hK_DBI := sp_fr sp_DBI hF3 (by decide) hK_DBI
    have hK_DC := sp_fr (sp_dl 1 _ _) hF3 (by decide) hK_DC
    refine lv_aload_n F.1 F.2.1 dX11_daybook_63 rfl (lv_at hl 0 rfl) ?_
    refine a_getr F inX11 hP 0 8 tc_0 rfl rfl (by decide) q511 (fun _ h9 => h9) dX11_daybook_64 ?_
    refine a_Vv F hml hl.1 hA hP hD hS (As := []) (c_X0_live_39 l dC dI ad cA nF _  hR hK_DBI) (cs_RX11_304 (d := 6) F.2.2.1 (by decide)) tc_39 rfl rfl rfl rfl (Nat.le_of_ble_eq_true rfl) dX11_daybook_67 ⟨Nat.le_refl 0, Nat.le_refl 0⟩ (fun u4 H locs hq hP hD hS => ?_)
    obtain ⟨hR, hF4⟩ := hq
    have hF := hF.tr hF4 (by decide)
    have hK_N4 := sp_fr sp_N4 hF4 (by decide) hK_N4
    have hK_DBI := sp_fr sp_DBI hF4 (by decide) hK_DBI
    have hK_DC := sp_fr (sp_dl 1 _ _) hF4 (by decide) hK_DC
    refine lv_aload_n F.1 F.2.1 dX11_daybook_70 rfl (lv_at hl 0 rfl) ?_
    refine lv_aload_n F.1 F.2.1 dX11_daybook_71 rfl (lv_at hl 0 rfl) ?_
    refine a_getr F inX11 hP 0 5 tc_0 rfl rfl (by decide) q508 (fun _ h9 => h9) dX11_daybook_72 ?_
    refine a_Vi F hml hl.1 hA hP hD hS (As := []) (c_X5_brokenCount_29 l dC dI ad cA nF _  hR) (cs_RX11_191 (d := 6) F.2.2.1 (by decide)) tc_29 rfl rfl rfl rfl (Nat.le_of_ble_eq_true rfl) dX11_daybook_75 ⟨Nat.le_refl 0, Nat.le_refl 0⟩ (fun r5 u5 H locs hq hP hD hS => ?_)
    obtain ⟨hR, hF5⟩ := hq
    have hF := hF.tr hF5 (by decide)
    have hK_N4 := sp_fr sp_N4 hF5 (by decide) hK_N4
    have hK_DBI := sp_fr sp_DBI hF5 (by decide) hK_DBI
    have hK_DC := sp_fr (sp_dl 1 _ _) hF5 (by decide) hK_DC
    refine a_puti F inX11 tyX11 tyX11_ok nmX11 hP hD hS 0 13 tc_0 rfl rfl (by decide) q516 (fun _ h9 => h9) rfl (ty := .int) (tyX11_ok 13 (by decide)) rfl rfl dX11_daybook_78 (fun H locs hP hD hS => ?_)
    have hR := hR.si (c := 0) (k := 13) (v := r5) ⟨i_lo _, i_hi _⟩
    have hF := hF.si (c := 0) (k := 13) (v := r5) rfl
    have hK_N4 := sp_sgD sp_N4 hD hK_N4 (by decide)
    have hK_DBI := sp_sgD sp_DBI hD hK_DBI (by decide)
    have hK_DC := sp_sgD (sp_dl 1 _ _) hD hK_DC (by decide)
    refine lv_aload_n F.1 F.2.1 dX11_daybook_81 rfl (lv_at hl 0 rfl) ?_
    refine a_ic F (1 : Int32) dX11_daybook_82 (by decide) ?_
    refine a_puti F inX11 tyX11 tyX11_ok nmX11 hP hD hS 0 14 tc_0 rfl rfl (by decide) q517 (fun _ h9 => h9) rfl (ty := .boolean) (tyX11_ok 14 (by decide)) (i_zn (Or.inr rfl)) (i_zf (Or.inr rfl)) dX11_daybook_83 (fun H locs hP hD hS => ?_)
    have hR := hR.si (c := 0) (k := 14) (v := (1 : Int32)) (by rw [ic_1]; exact (by omega : (0 : Int) ≤ (1 : Int) ∧ (1 : Int) ≤ 1))
    have hF := hF.si (c := 0) (k := 14) (v := (1 : Int32)) rfl
    have hK_N4 := sp_sgD sp_N4 hD hK_N4 (by decide)
    have hK_DBI := sp_sgD sp_DBI hD hK_DBI (by decide)
    have hK_DC := sp_sgD (sp_dl 1 _ _) hD hK_DC (by decide)
    refine lv_iload_n F.1 F.2.1 dX11_daybook_86 rfl (lv_at hl 1 rfl) ?_
    refine z_ne F 97 dX11_daybook_87 (by decide) rfl (fun c6 => ?_) (fun c6 => ?_)
    · exact L97 _ _ _ _ hR hF hK_DC (by omega : (1 : Int) ≤ (1 : Int) ∧ (1 : Int) ≤ 1) (i_trB ((hF5 1 2 rfl).trans ((hF4 1 2 rfl).trans (hF3 1 2 rfl))) (by omega : (0 : Int) ≤ (u.1 1 2).toInt ∧ (u.1 1 2).toInt ≤ 0)) hP hD hS (lv_sub hl [0] rfl)
    · refine lv_aload_n F.1 F.2.1 dX11_daybook_90 rfl (lv_at hl 0 rfl) ?_
      refine a_getr F inX11 hP 0 4 tc_0 rfl rfl (by decide) q507 (fun _ h9 => h9) dX11_daybook_91 ?_
      refine a_Vv F hml hl.1 hA hP hD hS (As := []) (c_X6_takeBack_24 l dC dI ad cA nF _  hR) (cs_RX11_300 (d := 1) F.2.2.1 (by decide)) tc_24 rfl rfl rfl rfl (Nat.le_of_ble_eq_true rfl) dX11_daybook_94 ⟨Nat.le_refl 0, Nat.le_refl 0⟩ (fun u7 H locs hq hP hD hS => ?_)
      obtain ⟨hR, hF7⟩ := hq
      have hF := hF.tr hF7 (by decide)
      have hK_N4 := sp_fr sp_N4 hF7 (by decide) hK_N4
      have hK_DBI := sp_fr sp_DBI hF7 (by decide) hK_DBI
      have hK_DC := sp_fr (sp_dl 1 _ _) hF7 (by decide) hK_DC
      exact L97 _ _ _ _ hR hF hK_DC (i_trB (hF7 0 14 rfl) (by omega : (1 : Int) ≤ (1 : Int) ∧ (1 : Int) ≤ 1)) (i_trB ((hF7 1 2 rfl).trans ((hF5 1 2 rfl).trans ((hF4 1 2 rfl).trans (hF3 1 2 rfl)))) (by omega : (0 : Int) ≤ (u.1 1 2).toInt ∧ (u.1 1 2).toInt ≤ 0)) hP hD hS (lv_sub hl [0] rfl)
  have L13 : ∀ (u : ac_U) (H : Heap) (locs : List Loc) (ls : Array Slot), ac_R rg u → ac_Fr [(0, some 13), (0, some 14), (1, some 2), (1, some 3), (1, some 4), (1, some 5), (1, some 6), (1, some 8), (1, some 9), (1, some 10), (1, some 11), (24, some 5), (24, some 6), (25, none), (26, none), (27, none), (28, none), (29, some 4), (29, some 5), (29, some 6), (30, none), (39, some 6), (39, some 7), (39, some 8), (39, some 9), (40, none), (41, none), (42, none)] u0 u → nmI 11 12 u → (0 : Int) ≤ p0.toInt ∧ p0.toInt ≤ 1 → va_P (dC, dI) vwCl (ac_w ad cA (TT nF) u) H → va_D A (ac_w ad cA (TT nF) u) → va_S A s.heap H locs → lv_has ls 3 [(0, .ref (ad 0)), (1, .int p0)] → W p l e (ac_rm 8) s m [.ref (ad 0), .int p0].toArray below meth c H locs 0 0 (MQ below (va_Qi (fun (r : Int32) (u : ac_U) => ac_R rg u ∧ ac_Fr [(0, some 13), (0, some 14), (1, some 2), (1, some 3), (1, some 4), (1, some 5), (1, some 6), (1, some 8), (1, some 9), (1, some 10), (1, some 11), (24, some 5), (24, some 6), (25, none), (26, none), (27, none), (28, none), (29, some 4), (29, some 5), (29, some 6), (30, none), (39, some 6), (39, some 7), (39, some 8), (39, some 9), (40, none), (41, none), (42, none)] u0 u ∧ (r.toInt ≤ 39) ∧ (dlI 1 u0 p0.toInt) u) (ac_B (dC, dI) vwCl (ac_ty cA) ad cA (TT nF) A) A) [.ref (ad 0), .int p0].toArray s 0 0 A) (F0 m 13 ls []) := by
    intro u H locs ls hR hF hK_N4 f0 hP hD hS hl
    refine lv_aload_n F.1 F.2.1 dX11_daybook_13 rfl (lv_at hl 0 rfl) ?_
    refine a_getr F inX11 hP 0 8 tc_0 rfl rfl (by decide) q511 (fun _ h9 => h9) dX11_daybook_14 ?_
    refine a_Vi F hml hl.1 hA hP hD hS (As := []) (c_X0_readWhole_39 l dC dI ad cA nF _  hR hK_N4) (cs_RX11_303 (d := 7) F.2.2.1 (by decide)) tc_39 rfl rfl rfl rfl (Nat.le_of_ble_eq_true rfl) dX11_daybook_17 ⟨Nat.le_refl 0, Nat.le_refl 0⟩ (fun r8 u8 H locs hq hP hD hS => ?_)
    obtain ⟨hR, hF8, gr8, hK_r8_DBI⟩ := hq
    have hF := hF.tr hF8 (by decide)
    have hK_N4 := sp_fr sp_N4 hF8 (by decide) hK_N4
    refine lv_istore_n (lv' := [(2, .int r8), (0, .ref (ad 0)), (1, .int p0)]) F.1 F.2.1 dX11_daybook_20 rfl hl (by decide) rfl (fun ls hl => ?_)
    refine lv_aload_n F.1 F.2.1 dX11_daybook_21 rfl (lv_at hl 1 rfl) ?_
    refine a_getr F inX11 hP 0 0 tc_0 rfl rfl (by decide) q503 (fun _ h9 => h9) dX11_daybook_22 ?_
    refine a_ic F (0 : Int32) dX11_daybook_25 (by decide) ?_
    refine a_puti F inX10 tyX10 tyX10_ok nmX10 hP hD hS 1 2 tc_1 rfl rfl (by decide) q96 (fun _ h9 => h9) rfl (ty := .int) (tyX10_ok 2 (by decide)) rfl rfl dX11_daybook_26 (fun H locs hP hD hS => ?_)
    have hR := hR.si (c := 1) (k := 2) (v := (0 : Int32)) (by rw [ic_0]; exact (by omega : (0 : Int) ≤ (0 : Int) ∧ (0 : Int) ≤ 940))
    have hF := hF.si (c := 1) (k := 2) (v := (0 : Int32)) rfl
    have hN_DC := dl_D (p := p0.toInt) (u0 := u0) (by omega) hD
    have hK_N4 := sp_sgD sp_N4 hD hK_N4 (by decide)
    have hK_r8_DBI := sp_sgD (sp_imp sp_DBI) hD hK_r8_DBI (by decide)
    have hK_DC := hN_DC
    refine lv_iload_n F.1 F.2.1 dX11_daybook_29 rfl (lv_at hl 0 rfl) ?_
    refine z_ne F 44 dX11_daybook_30 (by decide) rfl (fun c9 => ?_) (fun c9 => ?_)
    · have hK_DBI := hK_r8_DBI (by omega)
      refine lv_iload_n F.1 F.2.1 dX11_daybook_44 rfl (lv_at hl 2 rfl) ?_
      refine a_ic F (1 : Int32) dX11_daybook_45 (by decide) ?_
      refine b_ne F 56 dX11_daybook_46 (by decide) rfl ic_1 (fun c10 => ?_) (fun c10 => ?_)
      · exact L56 _ _ _ _ hR hF hK_N4 hK_DBI hK_DC (by omega) (by omega : (0 : Int) ≤ (0 : Int) ∧ (0 : Int) ≤ 0) hP hD hS (lv_sub hl [1, 2] rfl)
      · refine lv_aload_n F.1 F.2.1 dX11_daybook_49 rfl (lv_at hl 1 rfl) ?_
        refine a_getr F inX11 hP 0 4 tc_0 rfl rfl (by decide) q507 (fun _ h9 => h9) dX11_daybook_50 ?_
        refine a_Vv F hml hl.1 hA hP hD hS (As := []) (c_X6_remember_24 l dC dI ad cA nF _  hR) (cs_RX11_200 (d := 1) F.2.2.1 (by decide)) tc_24 rfl rfl rfl rfl (Nat.le_of_ble_eq_true rfl) dX11_daybook_53 ⟨Nat.le_refl 0, Nat.le_refl 0⟩ (fun u11 H locs hq hP hD hS => ?_)
        obtain ⟨hR, hF11⟩ := hq
        have hF := hF.tr hF11 (by decide)
        have hK_N4 := sp_fr sp_N4 hF11 (by decide) hK_N4
        have hK_r8_DBI := sp_fr (sp_imp sp_DBI) hF11 (by decide) hK_r8_DBI
        have hK_DC := sp_fr (sp_dl 1 _ _) hF11 (by decide) hK_DC
        have hK_DBI := sp_fr sp_DBI hF11 (by decide) hK_DBI
        exact L56 _ _ _ _ hR hF hK_N4 hK_DBI hK_DC (by omega) (i_trB (hF11 1 2 rfl) (by omega : (0 : Int) ≤ (0 : Int) ∧ (0 : Int) ≤ 0)) hP hD hS (lv_sub hl [1, 2] rfl)
    · refine a_bp F (-2 : Int32) dX11_daybook_33 (by decide) ?_
      refine lv_aload_n F.1 F.2.1 dX11_daybook_35 rfl (lv_at hl 1 rfl) ?_
      refine a_getr F inX11 hP 0 0 tc_0 rfl rfl (by decide) q503 (fun _ h9 => h9) dX11_daybook_36 ?_
      have g12 : (0 : Int) ≤ (u8.1 1 11).toInt ∧ (u8.1 1 11).toInt ≤ 940 := hR 1 11
      refine a_geti F inX10 hP 1 11 tc_1 rfl rfl (by decide) q117 (fun _ h9 => h9) (v := (u8.1 1 11)) rfl dX11_daybook_39 ?_
      refine a_isub F dX11_daybook_42 ic_m2 rfl (by omega) (fun v13 hv13 => ?_)
      exact a_reti F hr hlocks hP hD hS dX11_daybook_43 ⟨hR, hF, (by omega : v13.toInt ≤ 39), hK_DC⟩
  refine lv_iload_n F.1 F.2.1 dX11_daybook_0 rfl (lv_at hl 1 rfl) ?_
  refine z_eq F 13 dX11_daybook_1 (by decide) rfl (fun c14 => ?_) (fun c14 => ?_)
  · exact L13 _ _ _ _ hR hF hK_N4 (by omega) hP hD hS (lv_sub hl [0, 1] rfl)
  · refine lv_iload_n F.1 F.2.1 dX11_daybook_4 rfl (lv_at hl 1 rfl) ?_
    refine a_ic F (1 : Int32) dX11_daybook_5 (by decide) ?_
    refine b_eq F 13 dX11_daybook_6 (by decide) rfl ic_1 (fun c15 => ?_) (fun c15 => ?_)
    · exact L13 _ _ _ _ hR hF hK_N4 (by omega) hP hD hS (lv_sub hl [0, 1] rfl)
    · refine a_sp F (-1000 : Int32) dX11_daybook_9 (by decide) ?_
      exact a_reti F hr hlocks hP hD hS dX11_daybook_12 ⟨hR, hF, (by decide), (dl_k (by omega) (by omega) rfl)⟩


def f_X2_clear_13 (u0 : ac_U) : ac_U := (vl (f_J7_fill_53178_14 (pI (pI (pI (pI (pI (pI (pI (pI (pI u0 13 0 (24 : Int32)) 13 1 (0 : Int32)) 13 2 (0 : Int32)) 13 3 (0 : Int32)) 13 4 (0 : Int32)) 13 5 (0 : Int32)) 13 6 (0 : Int32)) 13 7 (0 : Int32)) 13 8 (0 : Int32)) (0 : Int32)) (fun (u1 : ac_U) => (vl (f_J7_fill_53178_18 u1 (0 : Int32)) (fun (u2 : ac_U) => u2))))
set_option maxHeartbeats 600000 in
set_option maxRecDepth 100000 in
theorem x_X2_clear_13 (l : Launch) (dC : Nat → ClassId) (dI : Nat → Nat → Nat) (ad : Nat → Nat) (cA : Nat → ClassId) (nF : Nat) (u0 : ac_U)  (hR : ac_R rg u0) : ac_Mv l yX2_clear (.code yX2_clear cX2_clear 1 none :: TB) 2 (dC, dI) vwCl (ac_ty cA) ad cA (TT nF) [.ref (ad 13)] u0 (fun (u : ac_U) => ac_R rg u ∧ ac_Fr [(13, some 0), (13, some 1), (13, some 2), (13, some 3), (13, some 4), (13, some 5), (13, some 6), (13, some 7), (13, some 8), (14, none), (18, none)] u0 u ∧ f_X2_clear_13 u0 = u) := by
  refine ac_Mv.of (cc := cX2_clear) (maxL := 1) (ret := none) (by decide) rfl (Nat.le_of_ble_eq_true rfl) ?_
  intro p e s m below meth c A ls F hml hr hlocks hA hP hD hS hl
  have F : ac_X p s m [.ref (ad 13)].toArray c cX2_clear RX2 TB (dC, dI) vwCl (ac_ty cA) := ⟨F.1, F.2.1, fun w h => F.2.2.1 w (List.mem_cons_of_mem _ h), F.2.2.2.1, F.2.2.2.2⟩
  have hl : lv_has ls 1 [(0, .ref (ad 13))] := hl
  obtain ⟨RR, hRR⟩ : ∃ q, q = f_X2_clear_13 u0 := ⟨_, rfl⟩
  have hF : ac_Fr [(13, some 0), (13, some 1), (13, some 2), (13, some 3), (13, some 4), (13, some 5), (13, some 6), (13, some 7), (13, some 8), (14, none), (18, none)] u0 u0 := ac_Fr.rf
  have hC : RR = f_X2_clear_13 u0 := hRR
  unfold f_X2_clear_13 at hC
  refine lv_aload_n F.1 F.2.1 dX2_clear_0 rfl (lv_at hl 0 rfl) ?_
  refine a_bp F (24 : Int32) dX2_clear_1 (by decide) ?_
  refine a_puti F inX2 tyX2 tyX2_ok nmX2 hP hD hS 13 0 tc_13 rfl rfl (by decide) q151 (fun _ h9 => h9) rfl (ty := .int) (tyX2_ok 0 (by decide)) rfl rfl dX2_clear_3 (fun H locs hP hD hS => ?_)
  have hR := hR.si (c := 13) (k := 0) (v := (24 : Int32)) (by rw [ic_24]; exact (by omega : (4 : Int) ≤ (24 : Int) ∧ (24 : Int) ≤ 24))
  have hF := hF.si (c := 13) (k := 0) (v := (24 : Int32)) rfl
  refine lv_aload_n F.1 F.2.1 dX2_clear_6 rfl (lv_at hl 0 rfl) ?_
  refine a_ic F (0 : Int32) dX2_clear_7 (by decide) ?_
  refine a_puti F inX2 tyX2 tyX2_ok nmX2 hP hD hS 13 1 tc_13 rfl rfl (by decide) q157 (fun _ h9 => h9) rfl (ty := .int) (tyX2_ok 1 (by decide)) rfl rfl dX2_clear_8 (fun H locs hP hD hS => ?_)
  have hR := hR.si (c := 13) (k := 1) (v := (0 : Int32)) (by rw [ic_0]; exact (by omega : (0 : Int) ≤ (0 : Int) ∧ (0 : Int) ≤ 8))
  have hF := hF.si (c := 13) (k := 1) (v := (0 : Int32)) rfl
  refine lv_aload_n F.1 F.2.1 dX2_clear_11 rfl (lv_at hl 0 rfl) ?_
  refine a_ic F (0 : Int32) dX2_clear_12 (by decide) ?_
  refine a_puti F inX2 tyX2 tyX2_ok nmX2 hP hD hS 13 2 tc_13 rfl rfl (by decide) q162 (fun _ h9 => h9) rfl (ty := .int) (tyX2_ok 2 (by decide)) rfl rfl dX2_clear_13 (fun H locs hP hD hS => ?_)
  have hR := hR.si (c := 13) (k := 2) (v := (0 : Int32)) (by rw [ic_0]; exact (by omega : (0 : Int) ≤ (0 : Int) ∧ (0 : Int) ≤ 12))
  have hF := hF.si (c := 13) (k := 2) (v := (0 : Int32)) rfl
  refine lv_aload_n F.1 F.2.1 dX2_clear_16 rfl (lv_at hl 0 rfl) ?_
  refine a_ic F (0 : Int32) dX2_clear_17 (by decide) ?_
  refine a_puti F inX2 tyX2 tyX2_ok nmX2 hP hD hS 13 3 tc_13 rfl rfl (by decide) q165 (fun _ h9 => h9) rfl (ty := .int) (tyX2_ok 3 (by decide)) rfl rfl dX2_clear_18 (fun H locs hP hD hS => ?_)
  have hR := hR.si (c := 13) (k := 3) (v := (0 : Int32)) (by rw [ic_0]; exact (by omega : (0 : Int) ≤ (0 : Int) ∧ (0 : Int) ≤ 6))
  have hF := hF.si (c := 13) (k := 3) (v := (0 : Int32)) rfl
  refine lv_aload_n F.1 F.2.1 dX2_clear_21 rfl (lv_at hl 0 rfl) ?_
  refine a_ic F (0 : Int32) dX2_clear_22 (by decide) ?_
  refine a_puti F inX2 tyX2 tyX2_ok nmX2 hP hD hS 13 4 tc_13 rfl rfl (by decide) q169 (fun _ h9 => h9) rfl (ty := .int) (tyX2_ok 4 (by decide)) rfl rfl dX2_clear_23 (fun H locs hP hD hS => ?_)
  have hR := hR.si (c := 13) (k := 4) (v := (0 : Int32)) (by rw [ic_0]; exact (by omega : (0 : Int) ≤ (0 : Int) ∧ (0 : Int) ≤ 4))
  have hF := hF.si (c := 13) (k := 4) (v := (0 : Int32)) rfl
  refine lv_aload_n F.1 F.2.1 dX2_clear_26 rfl (lv_at hl 0 rfl) ?_
  refine a_ic F (0 : Int32) dX2_clear_27 (by decide) ?_
  refine a_puti F inX2 tyX2 tyX2_ok nmX2 hP hD hS 13 5 tc_13 rfl rfl (by decide) q173 (fun _ h9 => h9) rfl (ty := .int) (tyX2_ok 5 (by decide)) rfl rfl dX2_clear_28 (fun H locs hP hD hS => ?_)
  have hR := hR.si (c := 13) (k := 5) (v := (0 : Int32)) (by rw [ic_0]; exact (by omega : (0 : Int) ≤ (0 : Int) ∧ (0 : Int) ≤ 6))
  have hF := hF.si (c := 13) (k := 5) (v := (0 : Int32)) rfl
  refine lv_aload_n F.1 F.2.1 dX2_clear_31 rfl (lv_at hl 0 rfl) ?_
  refine a_ic F (0 : Int32) dX2_clear_32 (by decide) ?_
  refine a_puti F inX2 tyX2 tyX2_ok nmX2 hP hD hS 13 6 tc_13 rfl rfl (by decide) q178 (fun _ h9 => h9) rfl (ty := .int) (tyX2_ok 6 (by decide)) rfl rfl dX2_clear_33 (fun H locs hP hD hS => ?_)
  have hR := hR.si (c := 13) (k := 6) (v := (0 : Int32)) (by rw [ic_0]; exact (by omega : (0 : Int) ≤ (0 : Int) ∧ (0 : Int) ≤ 8))
  have hF := hF.si (c := 13) (k := 6) (v := (0 : Int32)) rfl
  refine lv_aload_n F.1 F.2.1 dX2_clear_36 rfl (lv_at hl 0 rfl) ?_
  refine a_ic F (0 : Int32) dX2_clear_37 (by decide) ?_
  refine a_puti F inX2 tyX2 tyX2_ok nmX2 hP hD hS 13 7 tc_13 rfl rfl (by decide) q185 (fun _ h9 => h9) rfl (ty := .int) (tyX2_ok 7 (by decide)) rfl rfl dX2_clear_38 (fun H locs hP hD hS => ?_)
  have hR := hR.si (c := 13) (k := 7) (v := (0 : Int32)) (by rw [ic_0]; exact (by omega : (0 : Int) ≤ (0 : Int) ∧ (0 : Int) ≤ 8))
  have hF := hF.si (c := 13) (k := 7) (v := (0 : Int32)) rfl
  refine lv_aload_n F.1 F.2.1 dX2_clear_41 rfl (lv_at hl 0 rfl) ?_
  refine a_ic F (0 : Int32) dX2_clear_42 (by decide) ?_
  refine a_puti F inX2 tyX2 tyX2_ok nmX2 hP hD hS 13 8 tc_13 rfl rfl (by decide) q188 (fun _ h9 => h9) rfl (ty := .int) (tyX2_ok 8 (by decide)) rfl rfl dX2_clear_43 (fun H locs hP hD hS => ?_)
  have hR := hR.si (c := 13) (k := 8) (v := (0 : Int32)) (by rw [ic_0]; exact (by omega : (0 : Int) ≤ (0 : Int) ∧ (0 : Int) ≤ 26))
  have hF := hF.si (c := 13) (k := 8) (v := (0 : Int32)) rfl
  refine lv_aload_n F.1 F.2.1 dX2_clear_46 rfl (lv_at hl 0 rfl) ?_
  refine a_getr F inX2 hP 13 9 tc_13 rfl rfl (by decide) q189 (fun _ h9 => h9) dX2_clear_47 ?_
  refine a_ic F (0 : Int32) dX2_clear_50 (by decide) ?_
  refine a_Sv F hml hl.1 hA hP hD hS (As := [.ref (ad 14), .int (0 : Int32)]) (x_J7_fill_53178_14 l dC dI ad cA nF _ (0 : Int32) hR (by decide)) (cs_RX2_65 (d := 1) F.2.2.1 (by decide)) rfl rfl (Nat.le_of_ble_eq_true rfl) dX2_clear_51 ⟨Nat.le_refl 0, Nat.le_refl 0⟩ (fun u1 H locs hq hP hD hS => ?_)
  obtain ⟨hR, hF1, hz1⟩ := hq
  have hF := hF.tr hF1 (by decide)
  have hC := vl_eq hC hz1.symm
  refine lv_aload_n F.1 F.2.1 dX2_clear_54 rfl (lv_at hl 0 rfl) ?_
  refine a_getr F inX2 hP 13 13 tc_13 rfl rfl (by decide) q196 (fun _ h9 => h9) dX2_clear_55 ?_
  refine a_ic F (0 : Int32) dX2_clear_58 (by decide) ?_
  refine a_Sv F hml hl.1 hA hP hD hS (As := [.ref (ad 18), .int (0 : Int32)]) (x_J7_fill_53178_18 l dC dI ad cA nF _ (0 : Int32) hR (by decide)) (cs_RX2_65 (d := 1) F.2.2.1 (by decide)) rfl rfl (Nat.le_of_ble_eq_true rfl) dX2_clear_59 ⟨Nat.le_refl 0, Nat.le_refl 0⟩ (fun u2 H locs hq hP hD hS => ?_)
  obtain ⟨hR, hF2, hz2⟩ := hq
  have hF := hF.tr hF2 (by decide)
  have hC := vl_eq hC hz2.symm
  exact a_retv F hr hlocks hP hD hS dX2_clear_62 ⟨hR, hF, hRR.symm.trans hC⟩

def f_X2_copyFrom_4_13 (u0 : ac_U) : ac_U := (cpI (cpI (cpL (cpI (cpI (cpI (cpI (cpI (pI (pI (pI (pI (pI (pI (pI (pI (pI u0 4 0 (u0.1 13 0)) 4 1 (u0.1 13 1)) 4 2 (u0.1 13 2)) 4 3 (u0.1 13 3)) 4 4 (u0.1 13 4)) 4 5 (u0.1 13 5)) 4 6 (u0.1 13 6)) 4 7 (u0.1 13 7)) 4 8 (u0.1 13 8)) 14 5 (0 : Int32).toNatClampNeg (0 : Int32).toNatClampNeg (8 : Int32).toNatClampNeg) 15 6 (0 : Int32).toNatClampNeg (0 : Int32).toNatClampNeg (6 : Int32).toNatClampNeg) 16 7 (0 : Int32).toNatClampNeg (0 : Int32).toNatClampNeg (4 : Int32).toNatClampNeg) 17 8 (0 : Int32).toNatClampNeg (0 : Int32).toNatClampNeg (64 : Int32).toNatClampNeg) 18 9 (0 : Int32).toNatClampNeg (0 : Int32).toNatClampNeg (8 : Int32).toNatClampNeg) 19 10 (0 : Int32).toNatClampNeg (0 : Int32).toNatClampNeg (26 : Int32).toNatClampNeg) 20 11 (0 : Int32).toNatClampNeg (0 : Int32).toNatClampNeg (26 : Int32).toNatClampNeg) 21 12 (0 : Int32).toNatClampNeg (0 : Int32).toNatClampNeg (26 : Int32).toNatClampNeg)
set_option maxHeartbeats 600000 in
set_option maxRecDepth 100000 in
theorem x_X2_copyFrom_4_13 (l : Launch) (dC : Nat → ClassId) (dI : Nat → Nat → Nat) (ad : Nat → Nat) (cA : Nat → ClassId) (nF : Nat) (u0 : ac_U)  (hR : ac_R rg u0) (hK_N13 : nmI 20 21 u0) : ac_Mv l yX2_copyFrom (.code yX2_copyFrom cX2_copyFrom 2 none :: TB) 1 (dC, dI) vwCl (ac_ty cA) ad cA (TT nF) [.ref (ad 4), .ref (ad 13)] u0 (fun (u : ac_U) => ac_R rg u ∧ ac_Fr [(4, some 0), (4, some 1), (4, some 2), (4, some 3), (4, some 4), (4, some 5), (4, some 6), (4, some 7), (4, some 8), (5, none), (6, none), (7, none), (8, none), (9, none), (11, none), (12, none)] u0 u ∧ nmI 11 12 u ∧ f_X2_copyFrom_4_13 u0 = u) := by
  refine ac_Mv.of (cc := cX2_copyFrom) (maxL := 2) (ret := none) (by decide) rfl (Nat.le_of_ble_eq_true rfl) ?_
  intro p e s m below meth c A ls F hml hr hlocks hA hP hD hS hl
  have F : ac_X p s m [.ref (ad 4), .ref (ad 13)].toArray c cX2_copyFrom RX2 TB (dC, dI) vwCl (ac_ty cA) := ⟨F.1, F.2.1, fun w h => F.2.2.1 w (List.mem_cons_of_mem _ h), F.2.2.2.1, F.2.2.2.2⟩
  have hl : lv_has ls 2 [(0, .ref (ad 4)), (1, .ref (ad 13))] := hl
  obtain ⟨RR, hRR⟩ : ∃ q, q = f_X2_copyFrom_4_13 u0 := ⟨_, rfl⟩
  have hF : ac_Fr [(4, some 0), (4, some 1), (4, some 2), (4, some 3), (4, some 4), (4, some 5), (4, some 6), (4, some 7), (4, some 8), (5, none), (6, none), (7, none), (8, none), (9, none), (11, none), (12, none)] u0 u0 := ac_Fr.rf
  have hC : RR = f_X2_copyFrom_4_13 u0 := hRR
  unfold f_X2_copyFrom_4_13 at hC
  refine lv_aload_n F.1 F.2.1 dX2_copyFrom_0 rfl (lv_at hl 0 rfl) ?_
  refine lv_aload_n F.1 F.2.1 dX2_copyFrom_1 rfl (lv_at hl 1 rfl) ?_
  have g1 : (4 : Int) ≤ (u0.1 13 0).toInt ∧ (u0.1 13 0).toInt ≤ 24 := hR 13 0
  refine a_geti F inX2 hP 13 0 tc_13 rfl rfl (by decide) q151 (fun _ h9 => h9) (v := (u0.1 13 0)) rfl dX2_copyFrom_2 ?_
  refine a_puti F inX2 tyX2 tyX2_ok nmX2 hP hD hS 4 0 tc_4 rfl rfl (by decide) q151 (fun _ h9 => h9) rfl (ty := .int) (tyX2_ok 0 (by decide)) rfl rfl dX2_copyFrom_5 (fun H locs hP hD hS => ?_)
  have hR := hR.si (c := 4) (k := 0) (v := (u0.1 13 0)) (by omega : (4 : Int) ≤ (u0.1 13 0).toInt ∧ (u0.1 13 0).toInt ≤ 24)
  have hF := hF.si (c := 4) (k := 0) (v := (u0.1 13 0)) rfl
  have hK_N13 := sp_sgD sp_N13 hD hK_N13 (by decide)
  refine lv_aload_n F.1 F.2.1 dX2_copyFrom_8 rfl (lv_at hl 0 rfl) ?_
  refine lv_aload_n F.1 F.2.1 dX2_copyFrom_9 rfl (lv_at hl 1 rfl) ?_
  have g2 : (0 : Int) ≤ (u0.1 13 1).toInt ∧ (u0.1 13 1).toInt ≤ 8 := hR 13 1
  refine a_geti F inX2 hP 13 1 tc_13 rfl rfl (by decide) q157 (fun _ h9 => h9) (v := (u0.1 13 1)) rfl dX2_copyFrom_10 ?_
  refine a_puti F inX2 tyX2 tyX2_ok nmX2 hP hD hS 4 1 tc_4 rfl rfl (by decide) q157 (fun _ h9 => h9) rfl (ty := .int) (tyX2_ok 1 (by decide)) rfl rfl dX2_copyFrom_13 (fun H locs hP hD hS => ?_)
  have hR := hR.si (c := 4) (k := 1) (v := (u0.1 13 1)) (by omega : (0 : Int) ≤ (u0.1 13 1).toInt ∧ (u0.1 13 1).toInt ≤ 8)
  have hF := hF.si (c := 4) (k := 1) (v := (u0.1 13 1)) rfl
  have hK_N13 := sp_sgD sp_N13 hD hK_N13 (by decide)
  refine lv_aload_n F.1 F.2.1 dX2_copyFrom_16 rfl (lv_at hl 0 rfl) ?_
  refine lv_aload_n F.1 F.2.1 dX2_copyFrom_17 rfl (lv_at hl 1 rfl) ?_
  have g3 : (0 : Int) ≤ (u0.1 13 2).toInt ∧ (u0.1 13 2).toInt ≤ 12 := hR 13 2
  refine a_geti F inX2 hP 13 2 tc_13 rfl rfl (by decide) q162 (fun _ h9 => h9) (v := (u0.1 13 2)) rfl dX2_copyFrom_18 ?_
  refine a_puti F inX2 tyX2 tyX2_ok nmX2 hP hD hS 4 2 tc_4 rfl rfl (by decide) q162 (fun _ h9 => h9) rfl (ty := .int) (tyX2_ok 2 (by decide)) rfl rfl dX2_copyFrom_21 (fun H locs hP hD hS => ?_)
  have hR := hR.si (c := 4) (k := 2) (v := (u0.1 13 2)) (by omega : (0 : Int) ≤ (u0.1 13 2).toInt ∧ (u0.1 13 2).toInt ≤ 12)
  have hF := hF.si (c := 4) (k := 2) (v := (u0.1 13 2)) rfl
  have hK_N13 := sp_sgD sp_N13 hD hK_N13 (by decide)
  refine lv_aload_n F.1 F.2.1 dX2_copyFrom_24 rfl (lv_at hl 0 rfl) ?_
  refine lv_aload_n F.1 F.2.1 dX2_copyFrom_25 rfl (lv_at hl 1 rfl) ?_
  have g4 : (0 : Int) ≤ (u0.1 13 3).toInt ∧ (u0.1 13 3).toInt ≤ 6 := hR 13 3
  refine a_geti F inX2 hP 13 3 tc_13 rfl rfl (by decide) q165 (fun _ h9 => h9) (v := (u0.1 13 3)) rfl dX2_copyFrom_26 ?_
  refine a_puti F inX2 tyX2 tyX2_ok nmX2 hP hD hS 4 3 tc_4 rfl rfl (by decide) q165 (fun _ h9 => h9) rfl (ty := .int) (tyX2_ok 3 (by decide)) rfl rfl dX2_copyFrom_29 (fun H locs hP hD hS => ?_)
  have hR := hR.si (c := 4) (k := 3) (v := (u0.1 13 3)) (by omega : (0 : Int) ≤ (u0.1 13 3).toInt ∧ (u0.1 13 3).toInt ≤ 6)
  have hF := hF.si (c := 4) (k := 3) (v := (u0.1 13 3)) rfl
  have hK_N13 := sp_sgD sp_N13 hD hK_N13 (by decide)
  refine lv_aload_n F.1 F.2.1 dX2_copyFrom_32 rfl (lv_at hl 0 rfl) ?_
  refine lv_aload_n F.1 F.2.1 dX2_copyFrom_33 rfl (lv_at hl 1 rfl) ?_
  have g5 : (0 : Int) ≤ (u0.1 13 4).toInt ∧ (u0.1 13 4).toInt ≤ 4 := hR 13 4
  refine a_geti F inX2 hP 13 4 tc_13 rfl rfl (by decide) q169 (fun _ h9 => h9) (v := (u0.1 13 4)) rfl dX2_copyFrom_34 ?_
  refine a_puti F inX2 tyX2 tyX2_ok nmX2 hP hD hS 4 4 tc_4 rfl rfl (by decide) q169 (fun _ h9 => h9) rfl (ty := .int) (tyX2_ok 4 (by decide)) rfl rfl dX2_copyFrom_37 (fun H locs hP hD hS => ?_)
  have hR := hR.si (c := 4) (k := 4) (v := (u0.1 13 4)) (by omega : (0 : Int) ≤ (u0.1 13 4).toInt ∧ (u0.1 13 4).toInt ≤ 4)
  have hF := hF.si (c := 4) (k := 4) (v := (u0.1 13 4)) rfl
  have hK_N13 := sp_sgD sp_N13 hD hK_N13 (by decide)
  refine lv_aload_n F.1 F.2.1 dX2_copyFrom_40 rfl (lv_at hl 0 rfl) ?_
  refine lv_aload_n F.1 F.2.1 dX2_copyFrom_41 rfl (lv_at hl 1 rfl) ?_
  have g6 : (0 : Int) ≤ (u0.1 13 5).toInt ∧ (u0.1 13 5).toInt ≤ 6 := hR 13 5
  refine a_geti F inX2 hP 13 5 tc_13 rfl rfl (by decide) q173 (fun _ h9 => h9) (v := (u0.1 13 5)) rfl dX2_copyFrom_42 ?_
  refine a_puti F inX2 tyX2 tyX2_ok nmX2 hP hD hS 4 5 tc_4 rfl rfl (by decide) q173 (fun _ h9 => h9) rfl (ty := .int) (tyX2_ok 5 (by decide)) rfl rfl dX2_copyFrom_45 (fun H locs hP hD hS => ?_)
  have hR := hR.si (c := 4) (k := 5) (v := (u0.1 13 5)) (by omega : (0 : Int) ≤ (u0.1 13 5).toInt ∧ (u0.1 13 5).toInt ≤ 6)
  have hF := hF.si (c := 4) (k := 5) (v := (u0.1 13 5)) rfl
  have hK_N13 := sp_sgD sp_N13 hD hK_N13 (by decide)
  refine lv_aload_n F.1 F.2.1 dX2_copyFrom_48 rfl (lv_at hl 0 rfl) ?_
  refine lv_aload_n F.1 F.2.1 dX2_copyFrom_49 rfl (lv_at hl 1 rfl) ?_
  have g7 : (0 : Int) ≤ (u0.1 13 6).toInt ∧ (u0.1 13 6).toInt ≤ 8 := hR 13 6
  refine a_geti F inX2 hP 13 6 tc_13 rfl rfl (by decide) q178 (fun _ h9 => h9) (v := (u0.1 13 6)) rfl dX2_copyFrom_50 ?_
  refine a_puti F inX2 tyX2 tyX2_ok nmX2 hP hD hS 4 6 tc_4 rfl rfl (by decide) q178 (fun _ h9 => h9) rfl (ty := .int) (tyX2_ok 6 (by decide)) rfl rfl dX2_copyFrom_53 (fun H locs hP hD hS => ?_)
  have hR := hR.si (c := 4) (k := 6) (v := (u0.1 13 6)) (by omega : (0 : Int) ≤ (u0.1 13 6).toInt ∧ (u0.1 13 6).toInt ≤ 8)
  have hF := hF.si (c := 4) (k := 6) (v := (u0.1 13 6)) rfl
  have hK_N13 := sp_sgD sp_N13 hD hK_N13 (by decide)
  refine lv_aload_n F.1 F.2.1 dX2_copyFrom_56 rfl (lv_at hl 0 rfl) ?_
  refine lv_aload_n F.1 F.2.1 dX2_copyFrom_57 rfl (lv_at hl 1 rfl) ?_
  have g8 : (0 : Int) ≤ (u0.1 13 7).toInt ∧ (u0.1 13 7).toInt ≤ 8 := hR 13 7
  refine a_geti F inX2 hP 13 7 tc_13 rfl rfl (by decide) q185 (fun _ h9 => h9) (v := (u0.1 13 7)) rfl dX2_copyFrom_58 ?_
  refine a_puti F inX2 tyX2 tyX2_ok nmX2 hP hD hS 4 7 tc_4 rfl rfl (by decide) q185 (fun _ h9 => h9) rfl (ty := .int) (tyX2_ok 7 (by decide)) rfl rfl dX2_copyFrom_61 (fun H locs hP hD hS => ?_)
  have hR := hR.si (c := 4) (k := 7) (v := (u0.1 13 7)) (by omega : (0 : Int) ≤ (u0.1 13 7).toInt ∧ (u0.1 13 7).toInt ≤ 8)
  have hF := hF.si (c := 4) (k := 7) (v := (u0.1 13 7)) rfl
  have hK_N13 := sp_sgD sp_N13 hD hK_N13 (by decide)
  refine lv_aload_n F.1 F.2.1 dX2_copyFrom_64 rfl (lv_at hl 0 rfl) ?_
  refine lv_aload_n F.1 F.2.1 dX2_copyFrom_65 rfl (lv_at hl 1 rfl) ?_
  have g9 : (0 : Int) ≤ (u0.1 13 8).toInt ∧ (u0.1 13 8).toInt ≤ 26 := hR 13 8
  refine a_geti F inX2 hP 13 8 tc_13 rfl rfl (by decide) q188 (fun _ h9 => h9) (v := (u0.1 13 8)) rfl dX2_copyFrom_66 ?_
  refine a_puti F inX2 tyX2 tyX2_ok nmX2 hP hD hS 4 8 tc_4 rfl rfl (by decide) q188 (fun _ h9 => h9) rfl (ty := .int) (tyX2_ok 8 (by decide)) rfl rfl dX2_copyFrom_69 (fun H locs hP hD hS => ?_)
  have hR := hR.si (c := 4) (k := 8) (v := (u0.1 13 8)) (by omega : (0 : Int) ≤ (u0.1 13 8).toInt ∧ (u0.1 13 8).toInt ≤ 26)
  have hF := hF.si (c := 4) (k := 8) (v := (u0.1 13 8)) rfl
  have hK_N13 := sp_sgD sp_N13 hD hK_N13 (by decide)
  refine lv_aload_n F.1 F.2.1 dX2_copyFrom_72 rfl (lv_at hl 1 rfl) ?_
  refine a_getr F inX2 hP 13 9 tc_13 rfl rfl (by decide) q189 (fun _ h9 => h9) dX2_copyFrom_73 ?_
  refine a_ic F (0 : Int32) dX2_copyFrom_76 (by decide) ?_
  refine lv_aload_n F.1 F.2.1 dX2_copyFrom_77 rfl (lv_at hl 0 rfl) ?_
  refine a_getr F inX2 hP 4 9 tc_4 rfl rfl (by decide) q189 (fun _ h9 => h9) dX2_copyFrom_78 ?_
  refine a_ic F (0 : Int32) dX2_copyFrom_81 (by decide) ?_
  refine a_bp F (8 : Int32) dX2_copyFrom_82 (by decide) ?_
  refine a_cpyi F (hml.trans hl.1.symm) q706 q708 q707 q19 hP hD hS 14 5 tc_14 tc_5 rfl (by decide) (by decide) (by decide) (by simp only [ic_0, ic_8]; omega) (by simp only [ic_0, ic_8]; omega) (by decide) (by decide) dX2_copyFrom_84 (fun H locs hP hD hS => ?_)
  have hR := hR.cp (c0 := 14) (c1 := 5) (sp := (0 : Int32).toNatClampNeg) (dp := (0 : Int32).toNatClampNeg) (n := (8 : Int32).toNatClampNeg) (by decide +kernel)
  have hF := hF.cp (c0 := 14) (c1 := 5) (sp := (0 : Int32).toNatClampNeg) (dp := (0 : Int32).toNatClampNeg) (n := (8 : Int32).toNatClampNeg) (fun _ => rfl)
  have hK_N13 := sp_sgD sp_N13 hD hK_N13 (by decide)
  refine lv_aload_n F.1 F.2.1 dX2_copyFrom_87 rfl (lv_at hl 1 rfl) ?_
  refine a_getr F inX2 hP 13 10 tc_13 rfl rfl (by decide) q190 (fun _ h9 => h9) dX2_copyFrom_88 ?_
  refine a_ic F (0 : Int32) dX2_copyFrom_91 (by decide) ?_
  refine lv_aload_n F.1 F.2.1 dX2_copyFrom_92 rfl (lv_at hl 0 rfl) ?_
  refine a_getr F inX2 hP 4 10 tc_4 rfl rfl (by decide) q190 (fun _ h9 => h9) dX2_copyFrom_93 ?_
  refine a_ic F (0 : Int32) dX2_copyFrom_96 (by decide) ?_
  refine a_bp F (6 : Int32) dX2_copyFrom_97 (by decide) ?_
  refine a_cpyi F (hml.trans hl.1.symm) q706 q708 q707 q19 hP hD hS 15 6 tc_15 tc_6 rfl (by decide) (by decide) (by decide) (by simp only [ic_0, ic_6]; omega) (by simp only [ic_0, ic_6]; omega) (by decide) (by decide) dX2_copyFrom_99 (fun H locs hP hD hS => ?_)
  have hR := hR.cp (c0 := 15) (c1 := 6) (sp := (0 : Int32).toNatClampNeg) (dp := (0 : Int32).toNatClampNeg) (n := (6 : Int32).toNatClampNeg) (by decide +kernel)
  have hF := hF.cp (c0 := 15) (c1 := 6) (sp := (0 : Int32).toNatClampNeg) (dp := (0 : Int32).toNatClampNeg) (n := (6 : Int32).toNatClampNeg) (fun _ => rfl)
  have hK_N13 := sp_sgD sp_N13 hD hK_N13 (by decide)
  refine lv_aload_n F.1 F.2.1 dX2_copyFrom_102 rfl (lv_at hl 1 rfl) ?_
  refine a_getr F inX2 hP 13 11 tc_13 rfl rfl (by decide) q193 (fun _ h9 => h9) dX2_copyFrom_103 ?_
  refine a_ic F (0 : Int32) dX2_copyFrom_106 (by decide) ?_
  refine lv_aload_n F.1 F.2.1 dX2_copyFrom_107 rfl (lv_at hl 0 rfl) ?_
  refine a_getr F inX2 hP 4 11 tc_4 rfl rfl (by decide) q193 (fun _ h9 => h9) dX2_copyFrom_108 ?_
  refine a_ic F (0 : Int32) dX2_copyFrom_111 (by decide) ?_
  refine a_ic F (4 : Int32) dX2_copyFrom_112 (by decide) ?_
  refine a_cpyi F (hml.trans hl.1.symm) q706 q708 q707 q19 hP hD hS 16 7 tc_16 tc_7 rfl (by decide) (by decide) (by decide) (by simp only [ic_0, ic_4]; omega) (by simp only [ic_0, ic_4]; omega) (by decide) (by decide) dX2_copyFrom_113 (fun H locs hP hD hS => ?_)
  have hR := hR.cp (c0 := 16) (c1 := 7) (sp := (0 : Int32).toNatClampNeg) (dp := (0 : Int32).toNatClampNeg) (n := (4 : Int32).toNatClampNeg) (by decide +kernel)
  have hF := hF.cp (c0 := 16) (c1 := 7) (sp := (0 : Int32).toNatClampNeg) (dp := (0 : Int32).toNatClampNeg) (n := (4 : Int32).toNatClampNeg) (fun _ => rfl)
  have hK_N13 := sp_sgD sp_N13 hD hK_N13 (by decide)
  refine lv_aload_n F.1 F.2.1 dX2_copyFrom_116 rfl (lv_at hl 1 rfl) ?_
  refine a_getr F inX2 hP 13 12 tc_13 rfl rfl (by decide) q195 (fun _ h9 => h9) dX2_copyFrom_117 ?_
  refine a_ic F (0 : Int32) dX2_copyFrom_120 (by decide) ?_
  refine lv_aload_n F.1 F.2.1 dX2_copyFrom_121 rfl (lv_at hl 0 rfl) ?_
  refine a_getr F inX2 hP 4 12 tc_4 rfl rfl (by decide) q195 (fun _ h9 => h9) dX2_copyFrom_122 ?_
  refine a_ic F (0 : Int32) dX2_copyFrom_125 (by decide) ?_
  refine a_bp F (64 : Int32) dX2_copyFrom_126 (by decide) ?_
  refine a_cpyi F (hml.trans hl.1.symm) q706 q708 q707 q19 hP hD hS 17 8 tc_17 tc_8 rfl (by decide) (by decide) (by decide) (by simp only [ic_0, ic_64]; omega) (by simp only [ic_0, ic_64]; omega) (by decide) (by decide) dX2_copyFrom_128 (fun H locs hP hD hS => ?_)
  have hR := hR.cp (c0 := 17) (c1 := 8) (sp := (0 : Int32).toNatClampNeg) (dp := (0 : Int32).toNatClampNeg) (n := (64 : Int32).toNatClampNeg) (by decide +kernel)
  have hF := hF.cp (c0 := 17) (c1 := 8) (sp := (0 : Int32).toNatClampNeg) (dp := (0 : Int32).toNatClampNeg) (n := (64 : Int32).toNatClampNeg) (fun _ => rfl)
  have hK_N13 := sp_sgD sp_N13 hD hK_N13 (by decide)
  refine lv_aload_n F.1 F.2.1 dX2_copyFrom_131 rfl (lv_at hl 1 rfl) ?_
  refine a_getr F inX2 hP 13 13 tc_13 rfl rfl (by decide) q196 (fun _ h9 => h9) dX2_copyFrom_132 ?_
  refine a_ic F (0 : Int32) dX2_copyFrom_135 (by decide) ?_
  refine lv_aload_n F.1 F.2.1 dX2_copyFrom_136 rfl (lv_at hl 0 rfl) ?_
  refine a_getr F inX2 hP 4 13 tc_4 rfl rfl (by decide) q196 (fun _ h9 => h9) dX2_copyFrom_137 ?_
  refine a_ic F (0 : Int32) dX2_copyFrom_140 (by decide) ?_
  refine a_bp F (8 : Int32) dX2_copyFrom_141 (by decide) ?_
  refine a_cpyi F (hml.trans hl.1.symm) q706 q708 q707 q19 hP hD hS 18 9 tc_18 tc_9 rfl (by decide) (by decide) (by decide) (by simp only [ic_0, ic_8]; omega) (by simp only [ic_0, ic_8]; omega) (by decide) (by decide) dX2_copyFrom_143 (fun H locs hP hD hS => ?_)
  have hR := hR.cp (c0 := 18) (c1 := 9) (sp := (0 : Int32).toNatClampNeg) (dp := (0 : Int32).toNatClampNeg) (n := (8 : Int32).toNatClampNeg) (by decide +kernel)
  have hF := hF.cp (c0 := 18) (c1 := 9) (sp := (0 : Int32).toNatClampNeg) (dp := (0 : Int32).toNatClampNeg) (n := (8 : Int32).toNatClampNeg) (fun _ => rfl)
  have hK_N13 := sp_sgD sp_N13 hD hK_N13 (by decide)
  refine lv_aload_n F.1 F.2.1 dX2_copyFrom_146 rfl (lv_at hl 1 rfl) ?_
  refine a_getr F inX2 hP 13 14 tc_13 rfl rfl (by decide) q197 (fun _ h9 => h9) dX2_copyFrom_147 ?_
  refine a_ic F (0 : Int32) dX2_copyFrom_150 (by decide) ?_
  refine lv_aload_n F.1 F.2.1 dX2_copyFrom_151 rfl (lv_at hl 0 rfl) ?_
  refine a_getr F inX2 hP 4 14 tc_4 rfl rfl (by decide) q197 (fun _ h9 => h9) dX2_copyFrom_152 ?_
  refine a_ic F (0 : Int32) dX2_copyFrom_155 (by decide) ?_
  refine a_bp F (26 : Int32) dX2_copyFrom_156 (by decide) ?_
  refine a_cpyl F (hml.trans hl.1.symm) q706 q708 q707 q19 hP hD hS 19 10 tc_19 tc_10 rfl (by decide) (by decide) (by decide) (by simp only [ic_0, ic_26]; omega) (by simp only [ic_0, ic_26]; omega) (by decide) (by decide) dX2_copyFrom_158 (fun H locs hP hD hS => ?_)
  have hK_N13 := sp_sl sp_N13 hD hK_N13
  refine lv_aload_n F.1 F.2.1 dX2_copyFrom_161 rfl (lv_at hl 1 rfl) ?_
  refine a_getr F inX2 hP 13 15 tc_13 rfl rfl (by decide) q198 (fun _ h9 => h9) dX2_copyFrom_162 ?_
  refine a_ic F (0 : Int32) dX2_copyFrom_165 (by decide) ?_
  refine lv_aload_n F.1 F.2.1 dX2_copyFrom_166 rfl (lv_at hl 0 rfl) ?_
  refine a_getr F inX2 hP 4 15 tc_4 rfl rfl (by decide) q198 (fun _ h9 => h9) dX2_copyFrom_167 ?_
  refine a_ic F (0 : Int32) dX2_copyFrom_170 (by decide) ?_
  refine a_bp F (26 : Int32) dX2_copyFrom_171 (by decide) ?_
  refine a_cpyi F (hml.trans hl.1.symm) q706 q708 q707 q19 hP hD hS 20 11 tc_20 tc_11 rfl (by decide) (by decide) (by decide) (by simp only [ic_0, ic_26]; omega) (by simp only [ic_0, ic_26]; omega) (by decide) (by decide) dX2_copyFrom_173 (fun H locs hP hD hS => ?_)
  have hR := hR.cp (c0 := 20) (c1 := 11) (sp := (0 : Int32).toNatClampNeg) (dp := (0 : Int32).toNatClampNeg) (n := (26 : Int32).toNatClampNeg) (by decide +kernel)
  have hF := hF.cp (c0 := 20) (c1 := 11) (sp := (0 : Int32).toNatClampNeg) (dp := (0 : Int32).toNatClampNeg) (n := (26 : Int32).toNatClampNeg) (fun _ => rfl)
  have hK_N13 := sp_sgD sp_N13 hD hK_N13 (by decide)
  have hK_ES_4_13 := eq_cpD (n := 26) (by decide) rfl rfl rfl hD
  refine lv_aload_n F.1 F.2.1 dX2_copyFrom_176 rfl (lv_at hl 1 rfl) ?_
  refine a_getr F inX2 hP 13 16 tc_13 rfl rfl (by decide) q200 (fun _ h9 => h9) dX2_copyFrom_177 ?_
  refine a_ic F (0 : Int32) dX2_copyFrom_180 (by decide) ?_
  refine lv_aload_n F.1 F.2.1 dX2_copyFrom_181 rfl (lv_at hl 0 rfl) ?_
  refine a_getr F inX2 hP 4 16 tc_4 rfl rfl (by decide) q200 (fun _ h9 => h9) dX2_copyFrom_182 ?_
  refine a_ic F (0 : Int32) dX2_copyFrom_185 (by decide) ?_
  refine a_bp F (26 : Int32) dX2_copyFrom_186 (by decide) ?_
  refine a_cpyi F (hml.trans hl.1.symm) q706 q708 q707 q19 hP hD hS 21 12 tc_21 tc_12 rfl (by decide) (by decide) (by decide) (by simp only [ic_0, ic_26]; omega) (by simp only [ic_0, ic_26]; omega) (by decide) (by decide) dX2_copyFrom_188 (fun H locs hP hD hS => ?_)
  have hR := hR.cp (c0 := 21) (c1 := 12) (sp := (0 : Int32).toNatClampNeg) (dp := (0 : Int32).toNatClampNeg) (n := (26 : Int32).toNatClampNeg) (by decide +kernel)
  have hF := hF.cp (c0 := 21) (c1 := 12) (sp := (0 : Int32).toNatClampNeg) (dp := (0 : Int32).toNatClampNeg) (n := (26 : Int32).toNatClampNeg) (fun _ => rfl)
  have hK_ES_4_13 := sp_sgD sp_ES_4_13 hD hK_ES_4_13 (by decide)
  have hK_N13 := sp_sgD sp_N13 hD hK_N13 (by decide)
  have hK_N4 := nm_cp (a' := 11) (b' := 12) hK_N13 hK_ES_4_13 (eq_cpD (n := 26) (by decide) rfl rfl rfl hD)
  exact a_retv F hr hlocks hP hD hS dX2_copyFrom_191 ⟨hR, hF, hK_N4, hRR.symm.trans hC⟩

def f_X2_copyFrom_4_55 (u0 : ac_U) : ac_U := (cpI (cpI (cpL (cpI (cpI (cpI (cpI (cpI (pI (pI (pI (pI (pI (pI (pI (pI (pI u0 4 0 (u0.1 55 0)) 4 1 (u0.1 55 1)) 4 2 (u0.1 55 2)) 4 3 (u0.1 55 3)) 4 4 (u0.1 55 4)) 4 5 (u0.1 55 5)) 4 6 (u0.1 55 6)) 4 7 (u0.1 55 7)) 4 8 (u0.1 55 8)) 56 5 (0 : Int32).toNatClampNeg (0 : Int32).toNatClampNeg (8 : Int32).toNatClampNeg) 57 6 (0 : Int32).toNatClampNeg (0 : Int32).toNatClampNeg (6 : Int32).toNatClampNeg) 58 7 (0 : Int32).toNatClampNeg (0 : Int32).toNatClampNeg (4 : Int32).toNatClampNeg) 59 8 (0 : Int32).toNatClampNeg (0 : Int32).toNatClampNeg (64 : Int32).toNatClampNeg) 60 9 (0 : Int32).toNatClampNeg (0 : Int32).toNatClampNeg (8 : Int32).toNatClampNeg) 61 10 (0 : Int32).toNatClampNeg (0 : Int32).toNatClampNeg (26 : Int32).toNatClampNeg) 62 11 (0 : Int32).toNatClampNeg (0 : Int32).toNatClampNeg (26 : Int32).toNatClampNeg) 63 12 (0 : Int32).toNatClampNeg (0 : Int32).toNatClampNeg (26 : Int32).toNatClampNeg)
set_option maxHeartbeats 600000 in
set_option maxRecDepth 100000 in
theorem x_X2_copyFrom_4_55 (l : Launch) (dC : Nat → ClassId) (dI : Nat → Nat → Nat) (ad : Nat → Nat) (cA : Nat → ClassId) (nF : Nat) (u0 : ac_U)  (hR : ac_R rg u0) (hK_N55 : nmI 62 63 u0) : ac_Mv l yX2_copyFrom (.code yX2_copyFrom cX2_copyFrom 2 none :: TB) 1 (dC, dI) vwCl (ac_ty cA) ad cA (TT nF) [.ref (ad 4), .ref (ad 55)] u0 (fun (u : ac_U) => ac_R rg u ∧ ac_Fr [(4, some 0), (4, some 1), (4, some 2), (4, some 3), (4, some 4), (4, some 5), (4, some 6), (4, some 7), (4, some 8), (5, none), (6, none), (7, none), (8, none), (9, none), (11, none), (12, none)] u0 u ∧ nmI 11 12 u ∧ f_X2_copyFrom_4_55 u0 = u) := by
  refine ac_Mv.of (cc := cX2_copyFrom) (maxL := 2) (ret := none) (by decide) rfl (Nat.le_of_ble_eq_true rfl) ?_
  intro p e s m below meth c A ls F hml hr hlocks hA hP hD hS hl
  have F : ac_X p s m [.ref (ad 4), .ref (ad 55)].toArray c cX2_copyFrom RX2 TB (dC, dI) vwCl (ac_ty cA) := ⟨F.1, F.2.1, fun w h => F.2.2.1 w (List.mem_cons_of_mem _ h), F.2.2.2.1, F.2.2.2.2⟩
  have hl : lv_has ls 2 [(0, .ref (ad 4)), (1, .ref (ad 55))] := hl
  obtain ⟨RR, hRR⟩ : ∃ q, q = f_X2_copyFrom_4_55 u0 := ⟨_, rfl⟩
  have hF : ac_Fr [(4, some 0), (4, some 1), (4, some 2), (4, some 3), (4, some 4), (4, some 5), (4, some 6), (4, some 7), (4, some 8), (5, none), (6, none), (7, none), (8, none), (9, none), (11, none), (12, none)] u0 u0 := ac_Fr.rf
  have hC : RR = f_X2_copyFrom_4_55 u0 := hRR
  unfold f_X2_copyFrom_4_55 at hC
  refine lv_aload_n F.1 F.2.1 dX2_copyFrom_0 rfl (lv_at hl 0 rfl) ?_
  refine lv_aload_n F.1 F.2.1 dX2_copyFrom_1 rfl (lv_at hl 1 rfl) ?_
  have g1 : (4 : Int) ≤ (u0.1 55 0).toInt ∧ (u0.1 55 0).toInt ≤ 24 := hR 55 0
  refine a_geti F inX2 hP 55 0 tc_55 rfl rfl (by decide) q151 (fun _ h9 => h9) (v := (u0.1 55 0)) rfl dX2_copyFrom_2 ?_
  refine a_puti F inX2 tyX2 tyX2_ok nmX2 hP hD hS 4 0 tc_4 rfl rfl (by decide) q151 (fun _ h9 => h9) rfl (ty := .int) (tyX2_ok 0 (by decide)) rfl rfl dX2_copyFrom_5 (fun H locs hP hD hS => ?_)
  have hR := hR.si (c := 4) (k := 0) (v := (u0.1 55 0)) (by omega : (4 : Int) ≤ (u0.1 55 0).toInt ∧ (u0.1 55 0).toInt ≤ 24)
  have hF := hF.si (c := 4) (k := 0) (v := (u0.1 55 0)) rfl
  have hK_N55 := sp_sgD sp_N55 hD hK_N55 (by decide)
  refine lv_aload_n F.1 F.2.1 dX2_copyFrom_8 rfl (lv_at hl 0 rfl) ?_
  refine lv_aload_n F.1 F.2.1 dX2_copyFrom_9 rfl (lv_at hl 1 rfl) ?_
  have g2 : (0 : Int) ≤ (u0.1 55 1).toInt ∧ (u0.1 55 1).toInt ≤ 8 := hR 55 1
  refine a_geti F inX2 hP 55 1 tc_55 rfl rfl (by decide) q157 (fun _ h9 => h9) (v := (u0.1 55 1)) rfl dX2_copyFrom_10 ?_
  refine a_puti F inX2 tyX2 tyX2_ok nmX2 hP hD hS 4 1 tc_4 rfl rfl (by decide) q157 (fun _ h9 => h9) rfl (ty := .int) (tyX2_ok 1 (by decide)) rfl rfl dX2_copyFrom_13 (fun H locs hP hD hS => ?_)
  have hR := hR.si (c := 4) (k := 1) (v := (u0.1 55 1)) (by omega : (0 : Int) ≤ (u0.1 55 1).toInt ∧ (u0.1 55 1).toInt ≤ 8)
  have hF := hF.si (c := 4) (k := 1) (v := (u0.1 55 1)) rfl
  have hK_N55 := sp_sgD sp_N55 hD hK_N55 (by decide)
  refine lv_aload_n F.1 F.2.1 dX2_copyFrom_16 rfl (lv_at hl 0 rfl) ?_
  refine lv_aload_n F.1 F.2.1 dX2_copyFrom_17 rfl (lv_at hl 1 rfl) ?_
  have g3 : (0 : Int) ≤ (u0.1 55 2).toInt ∧ (u0.1 55 2).toInt ≤ 12 := hR 55 2
  refine a_geti F inX2 hP 55 2 tc_55 rfl rfl (by decide) q162 (fun _ h9 => h9) (v := (u0.1 55 2)) rfl dX2_copyFrom_18 ?_
  refine a_puti F inX2 tyX2 tyX2_ok nmX2 hP hD hS 4 2 tc_4 rfl rfl (by decide) q162 (fun _ h9 => h9) rfl (ty := .int) (tyX2_ok 2 (by decide)) rfl rfl dX2_copyFrom_21 (fun H locs hP hD hS => ?_)
  have hR := hR.si (c := 4) (k := 2) (v := (u0.1 55 2)) (by omega : (0 : Int) ≤ (u0.1 55 2).toInt ∧ (u0.1 55 2).toInt ≤ 12)
  have hF := hF.si (c := 4) (k := 2) (v := (u0.1 55 2)) rfl
  have hK_N55 := sp_sgD sp_N55 hD hK_N55 (by decide)
  refine lv_aload_n F.1 F.2.1 dX2_copyFrom_24 rfl (lv_at hl 0 rfl) ?_
  refine lv_aload_n F.1 F.2.1 dX2_copyFrom_25 rfl (lv_at hl 1 rfl) ?_
  have g4 : (0 : Int) ≤ (u0.1 55 3).toInt ∧ (u0.1 55 3).toInt ≤ 6 := hR 55 3
  refine a_geti F inX2 hP 55 3 tc_55 rfl rfl (by decide) q165 (fun _ h9 => h9) (v := (u0.1 55 3)) rfl dX2_copyFrom_26 ?_
  refine a_puti F inX2 tyX2 tyX2_ok nmX2 hP hD hS 4 3 tc_4 rfl rfl (by decide) q165 (fun _ h9 => h9) rfl (ty := .int) (tyX2_ok 3 (by decide)) rfl rfl dX2_copyFrom_29 (fun H locs hP hD hS => ?_)
  have hR := hR.si (c := 4) (k := 3) (v := (u0.1 55 3)) (by omega : (0 : Int) ≤ (u0.1 55 3).toInt ∧ (u0.1 55 3).toInt ≤ 6)
  have hF := hF.si (c := 4) (k := 3) (v := (u0.1 55 3)) rfl
  have hK_N55 := sp_sgD sp_N55 hD hK_N55 (by decide)
  refine lv_aload_n F.1 F.2.1 dX2_copyFrom_32 rfl (lv_at hl 0 rfl) ?_
  refine lv_aload_n F.1 F.2.1 dX2_copyFrom_33 rfl (lv_at hl 1 rfl) ?_
  have g5 : (0 : Int) ≤ (u0.1 55 4).toInt ∧ (u0.1 55 4).toInt ≤ 4 := hR 55 4
  refine a_geti F inX2 hP 55 4 tc_55 rfl rfl (by decide) q169 (fun _ h9 => h9) (v := (u0.1 55 4)) rfl dX2_copyFrom_34 ?_
  refine a_puti F inX2 tyX2 tyX2_ok nmX2 hP hD hS 4 4 tc_4 rfl rfl (by decide) q169 (fun _ h9 => h9) rfl (ty := .int) (tyX2_ok 4 (by decide)) rfl rfl dX2_copyFrom_37 (fun H locs hP hD hS => ?_)
  have hR := hR.si (c := 4) (k := 4) (v := (u0.1 55 4)) (by omega : (0 : Int) ≤ (u0.1 55 4).toInt ∧ (u0.1 55 4).toInt ≤ 4)
  have hF := hF.si (c := 4) (k := 4) (v := (u0.1 55 4)) rfl
  have hK_N55 := sp_sgD sp_N55 hD hK_N55 (by decide)
  refine lv_aload_n F.1 F.2.1 dX2_copyFrom_40 rfl (lv_at hl 0 rfl) ?_
  refine lv_aload_n F.1 F.2.1 dX2_copyFrom_41 rfl (lv_at hl 1 rfl) ?_
  have g6 : (0 : Int) ≤ (u0.1 55 5).toInt ∧ (u0.1 55 5).toInt ≤ 6 := hR 55 5
  refine a_geti F inX2 hP 55 5 tc_55 rfl rfl (by decide) q173 (fun _ h9 => h9) (v := (u0.1 55 5)) rfl dX2_copyFrom_42 ?_
  refine a_puti F inX2 tyX2 tyX2_ok nmX2 hP hD hS 4 5 tc_4 rfl rfl (by decide) q173 (fun _ h9 => h9) rfl (ty := .int) (tyX2_ok 5 (by decide)) rfl rfl dX2_copyFrom_45 (fun H locs hP hD hS => ?_)
  have hR := hR.si (c := 4) (k := 5) (v := (u0.1 55 5)) (by omega : (0 : Int) ≤ (u0.1 55 5).toInt ∧ (u0.1 55 5).toInt ≤ 6)
  have hF := hF.si (c := 4) (k := 5) (v := (u0.1 55 5)) rfl
  have hK_N55 := sp_sgD sp_N55 hD hK_N55 (by decide)
  refine lv_aload_n F.1 F.2.1 dX2_copyFrom_48 rfl (lv_at hl 0 rfl) ?_
  refine lv_aload_n F.1 F.2.1 dX2_copyFrom_49 rfl (lv_at hl 1 rfl) ?_
  have g7 : (0 : Int) ≤ (u0.1 55 6).toInt ∧ (u0.1 55 6).toInt ≤ 8 := hR 55 6
  refine a_geti F inX2 hP 55 6 tc_55 rfl rfl (by decide) q178 (fun _ h9 => h9) (v := (u0.1 55 6)) rfl dX2_copyFrom_50 ?_
  refine a_puti F inX2 tyX2 tyX2_ok nmX2 hP hD hS 4 6 tc_4 rfl rfl (by decide) q178 (fun _ h9 => h9) rfl (ty := .int) (tyX2_ok 6 (by decide)) rfl rfl dX2_copyFrom_53 (fun H locs hP hD hS => ?_)
  have hR := hR.si (c := 4) (k := 6) (v := (u0.1 55 6)) (by omega : (0 : Int) ≤ (u0.1 55 6).toInt ∧ (u0.1 55 6).toInt ≤ 8)
  have hF := hF.si (c := 4) (k := 6) (v := (u0.1 55 6)) rfl
  have hK_N55 := sp_sgD sp_N55 hD hK_N55 (by decide)
  refine lv_aload_n F.1 F.2.1 dX2_copyFrom_56 rfl (lv_at hl 0 rfl) ?_
  refine lv_aload_n F.1 F.2.1 dX2_copyFrom_57 rfl (lv_at hl 1 rfl) ?_
  have g8 : (0 : Int) ≤ (u0.1 55 7).toInt ∧ (u0.1 55 7).toInt ≤ 8 := hR 55 7
  refine a_geti F inX2 hP 55 7 tc_55 rfl rfl (by decide) q185 (fun _ h9 => h9) (v := (u0.1 55 7)) rfl dX2_copyFrom_58 ?_
  refine a_puti F inX2 tyX2 tyX2_ok nmX2 hP hD hS 4 7 tc_4 rfl rfl (by decide) q185 (fun _ h9 => h9) rfl (ty := .int) (tyX2_ok 7 (by decide)) rfl rfl dX2_copyFrom_61 (fun H locs hP hD hS => ?_)
  have hR := hR.si (c := 4) (k := 7) (v := (u0.1 55 7)) (by omega : (0 : Int) ≤ (u0.1 55 7).toInt ∧ (u0.1 55 7).toInt ≤ 8)
  have hF := hF.si (c := 4) (k := 7) (v := (u0.1 55 7)) rfl
  have hK_N55 := sp_sgD sp_N55 hD hK_N55 (by decide)
  refine lv_aload_n F.1 F.2.1 dX2_copyFrom_64 rfl (lv_at hl 0 rfl) ?_
  refine lv_aload_n F.1 F.2.1 dX2_copyFrom_65 rfl (lv_at hl 1 rfl) ?_
  have g9 : (0 : Int) ≤ (u0.1 55 8).toInt ∧ (u0.1 55 8).toInt ≤ 26 := hR 55 8
  refine a_geti F inX2 hP 55 8 tc_55 rfl rfl (by decide) q188 (fun _ h9 => h9) (v := (u0.1 55 8)) rfl dX2_copyFrom_66 ?_
  refine a_puti F inX2 tyX2 tyX2_ok nmX2 hP hD hS 4 8 tc_4 rfl rfl (by decide) q188 (fun _ h9 => h9) rfl (ty := .int) (tyX2_ok 8 (by decide)) rfl rfl dX2_copyFrom_69 (fun H locs hP hD hS => ?_)
  have hR := hR.si (c := 4) (k := 8) (v := (u0.1 55 8)) (by omega : (0 : Int) ≤ (u0.1 55 8).toInt ∧ (u0.1 55 8).toInt ≤ 26)
  have hF := hF.si (c := 4) (k := 8) (v := (u0.1 55 8)) rfl
  have hK_N55 := sp_sgD sp_N55 hD hK_N55 (by decide)
  refine lv_aload_n F.1 F.2.1 dX2_copyFrom_72 rfl (lv_at hl 1 rfl) ?_
  refine a_getr F inX2 hP 55 9 tc_55 rfl rfl (by decide) q189 (fun _ h9 => h9) dX2_copyFrom_73 ?_
  refine a_ic F (0 : Int32) dX2_copyFrom_76 (by decide) ?_
  refine lv_aload_n F.1 F.2.1 dX2_copyFrom_77 rfl (lv_at hl 0 rfl) ?_
  refine a_getr F inX2 hP 4 9 tc_4 rfl rfl (by decide) q189 (fun _ h9 => h9) dX2_copyFrom_78 ?_
  refine a_ic F (0 : Int32) dX2_copyFrom_81 (by decide) ?_
  refine a_bp F (8 : Int32) dX2_copyFrom_82 (by decide) ?_
  refine a_cpyi F (hml.trans hl.1.symm) q706 q708 q707 q19 hP hD hS 56 5 tc_56 tc_5 rfl (by decide) (by decide) (by decide) (by simp only [ic_0, ic_8]; omega) (by simp only [ic_0, ic_8]; omega) (by decide) (by decide) dX2_copyFrom_84 (fun H locs hP hD hS => ?_)
  have hR := hR.cp (c0 := 56) (c1 := 5) (sp := (0 : Int32).toNatClampNeg) (dp := (0 : Int32).toNatClampNeg) (n := (8 : Int32).toNatClampNeg) (by decide +kernel)
  have hF := hF.cp (c0 := 56) (c1 := 5) (sp := (0 : Int32).toNatClampNeg) (dp := (0 : Int32).toNatClampNeg) (n := (8 : Int32).toNatClampNeg) (fun _ => rfl)
  have hK_N55 := sp_sgD sp_N55 hD hK_N55 (by decide)
  refine lv_aload_n F.1 F.2.1 dX2_copyFrom_87 rfl (lv_at hl 1 rfl) ?_
  refine a_getr F inX2 hP 55 10 tc_55 rfl rfl (by decide) q190 (fun _ h9 => h9) dX2_copyFrom_88 ?_
  refine a_ic F (0 : Int32) dX2_copyFrom_91 (by decide) ?_
  refine lv_aload_n F.1 F.2.1 dX2_copyFrom_92 rfl (lv_at hl 0 rfl) ?_
  refine a_getr F inX2 hP 4 10 tc_4 rfl rfl (by decide) q190 (fun _ h9 => h9) dX2_copyFrom_93 ?_
  refine a_ic F (0 : Int32) dX2_copyFrom_96 (by decide) ?_
  refine a_bp F (6 : Int32) dX2_copyFrom_97 (by decide) ?_
  refine a_cpyi F (hml.trans hl.1.symm) q706 q708 q707 q19 hP hD hS 57 6 tc_57 tc_6 rfl (by decide) (by decide) (by decide) (by simp only [ic_0, ic_6]; omega) (by simp only [ic_0, ic_6]; omega) (by decide) (by decide) dX2_copyFrom_99 (fun H locs hP hD hS => ?_)
  have hR := hR.cp (c0 := 57) (c1 := 6) (sp := (0 : Int32).toNatClampNeg) (dp := (0 : Int32).toNatClampNeg) (n := (6 : Int32).toNatClampNeg) (by decide +kernel)
  have hF := hF.cp (c0 := 57) (c1 := 6) (sp := (0 : Int32).toNatClampNeg) (dp := (0 : Int32).toNatClampNeg) (n := (6 : Int32).toNatClampNeg) (fun _ => rfl)
  have hK_N55 := sp_sgD sp_N55 hD hK_N55 (by decide)
  refine lv_aload_n F.1 F.2.1 dX2_copyFrom_102 rfl (lv_at hl 1 rfl) ?_
  refine a_getr F inX2 hP 55 11 tc_55 rfl rfl (by decide) q193 (fun _ h9 => h9) dX2_copyFrom_103 ?_
  refine a_ic F (0 : Int32) dX2_copyFrom_106 (by decide) ?_
  refine lv_aload_n F.1 F.2.1 dX2_copyFrom_107 rfl (lv_at hl 0 rfl) ?_
  refine a_getr F inX2 hP 4 11 tc_4 rfl rfl (by decide) q193 (fun _ h9 => h9) dX2_copyFrom_108 ?_
  refine a_ic F (0 : Int32) dX2_copyFrom_111 (by decide) ?_
  refine a_ic F (4 : Int32) dX2_copyFrom_112 (by decide) ?_
  refine a_cpyi F (hml.trans hl.1.symm) q706 q708 q707 q19 hP hD hS 58 7 tc_58 tc_7 rfl (by decide) (by decide) (by decide) (by simp only [ic_0, ic_4]; omega) (by simp only [ic_0, ic_4]; omega) (by decide) (by decide) dX2_copyFrom_113 (fun H locs hP hD hS => ?_)
  have hR := hR.cp (c0 := 58) (c1 := 7) (sp := (0 : Int32).toNatClampNeg) (dp := (0 : Int32).toNatClampNeg) (n := (4 : Int32).toNatClampNeg) (by decide +kernel)
  have hF := hF.cp (c0 := 58) (c1 := 7) (sp := (0 : Int32).toNatClampNeg) (dp := (0 : Int32).toNatClampNeg) (n := (4 : Int32).toNatClampNeg) (fun _ => rfl)
  have hK_N55 := sp_sgD sp_N55 hD hK_N55 (by decide)
  refine lv_aload_n F.1 F.2.1 dX2_copyFrom_116 rfl (lv_at hl 1 rfl) ?_
  refine a_getr F inX2 hP 55 12 tc_55 rfl rfl (by decide) q195 (fun _ h9 => h9) dX2_copyFrom_117 ?_
  refine a_ic F (0 : Int32) dX2_copyFrom_120 (by decide) ?_
  refine lv_aload_n F.1 F.2.1 dX2_copyFrom_121 rfl (lv_at hl 0 rfl) ?_
  refine a_getr F inX2 hP 4 12 tc_4 rfl rfl (by decide) q195 (fun _ h9 => h9) dX2_copyFrom_122 ?_
  refine a_ic F (0 : Int32) dX2_copyFrom_125 (by decide) ?_
  refine a_bp F (64 : Int32) dX2_copyFrom_126 (by decide) ?_
  refine a_cpyi F (hml.trans hl.1.symm) q706 q708 q707 q19 hP hD hS 59 8 tc_59 tc_8 rfl (by decide) (by decide) (by decide) (by simp only [ic_0, ic_64]; omega) (by simp only [ic_0, ic_64]; omega) (by decide) (by decide) dX2_copyFrom_128 (fun H locs hP hD hS => ?_)
  have hR := hR.cp (c0 := 59) (c1 := 8) (sp := (0 : Int32).toNatClampNeg) (dp := (0 : Int32).toNatClampNeg) (n := (64 : Int32).toNatClampNeg) (by decide +kernel)
  have hF := hF.cp (c0 := 59) (c1 := 8) (sp := (0 : Int32).toNatClampNeg) (dp := (0 : Int32).toNatClampNeg) (n := (64 : Int32).toNatClampNeg) (fun _ => rfl)
  have hK_N55 := sp_sgD sp_N55 hD hK_N55 (by decide)
  refine lv_aload_n F.1 F.2.1 dX2_copyFrom_131 rfl (lv_at hl 1 rfl) ?_
  refine a_getr F inX2 hP 55 13 tc_55 rfl rfl (by decide) q196 (fun _ h9 => h9) dX2_copyFrom_132 ?_
  refine a_ic F (0 : Int32) dX2_copyFrom_135 (by decide) ?_
  refine lv_aload_n F.1 F.2.1 dX2_copyFrom_136 rfl (lv_at hl 0 rfl) ?_
  refine a_getr F inX2 hP 4 13 tc_4 rfl rfl (by decide) q196 (fun _ h9 => h9) dX2_copyFrom_137 ?_
  refine a_ic F (0 : Int32) dX2_copyFrom_140 (by decide) ?_
  refine a_bp F (8 : Int32) dX2_copyFrom_141 (by decide) ?_
  refine a_cpyi F (hml.trans hl.1.symm) q706 q708 q707 q19 hP hD hS 60 9 tc_60 tc_9 rfl (by decide) (by decide) (by decide) (by simp only [ic_0, ic_8]; omega) (by simp only [ic_0, ic_8]; omega) (by decide) (by decide) dX2_copyFrom_143 (fun H locs hP hD hS => ?_)
  have hR := hR.cp (c0 := 60) (c1 := 9) (sp := (0 : Int32).toNatClampNeg) (dp := (0 : Int32).toNatClampNeg) (n := (8 : Int32).toNatClampNeg) (by decide +kernel)
  have hF := hF.cp (c0 := 60) (c1 := 9) (sp := (0 : Int32).toNatClampNeg) (dp := (0 : Int32).toNatClampNeg) (n := (8 : Int32).toNatClampNeg) (fun _ => rfl)
  have hK_N55 := sp_sgD sp_N55 hD hK_N55 (by decide)
  refine lv_aload_n F.1 F.2.1 dX2_copyFrom_146 rfl (lv_at hl 1 rfl) ?_
  refine a_getr F inX2 hP 55 14 tc_55 rfl rfl (by decide) q197 (fun _ h9 => h9) dX2_copyFrom_147 ?_
  refine a_ic F (0 : Int32) dX2_copyFrom_150 (by decide) ?_
  refine lv_aload_n F.1 F.2.1 dX2_copyFrom_151 rfl (lv_at hl 0 rfl) ?_
  refine a_getr F inX2 hP 4 14 tc_4 rfl rfl (by decide) q197 (fun _ h9 => h9) dX2_copyFrom_152 ?_
  refine a_ic F (0 : Int32) dX2_copyFrom_155 (by decide) ?_
  refine a_bp F (26 : Int32) dX2_copyFrom_156 (by decide) ?_
  refine a_cpyl F (hml.trans hl.1.symm) q706 q708 q707 q19 hP hD hS 61 10 tc_61 tc_10 rfl (by decide) (by decide) (by decide) (by simp only [ic_0, ic_26]; omega) (by simp only [ic_0, ic_26]; omega) (by decide) (by decide) dX2_copyFrom_158 (fun H locs hP hD hS => ?_)
  have hK_N55 := sp_sl sp_N55 hD hK_N55
  refine lv_aload_n F.1 F.2.1 dX2_copyFrom_161 rfl (lv_at hl 1 rfl) ?_
  refine a_getr F inX2 hP 55 15 tc_55 rfl rfl (by decide) q198 (fun _ h9 => h9) dX2_copyFrom_162 ?_
  refine a_ic F (0 : Int32) dX2_copyFrom_165 (by decide) ?_
  refine lv_aload_n F.1 F.2.1 dX2_copyFrom_166 rfl (lv_at hl 0 rfl) ?_
  refine a_getr F inX2 hP 4 15 tc_4 rfl rfl (by decide) q198 (fun _ h9 => h9) dX2_copyFrom_167 ?_
  refine a_ic F (0 : Int32) dX2_copyFrom_170 (by decide) ?_
  refine a_bp F (26 : Int32) dX2_copyFrom_171 (by decide) ?_
  refine a_cpyi F (hml.trans hl.1.symm) q706 q708 q707 q19 hP hD hS 62 11 tc_62 tc_11 rfl (by decide) (by decide) (by decide) (by simp only [ic_0, ic_26]; omega) (by simp only [ic_0, ic_26]; omega) (by decide) (by decide) dX2_copyFrom_173 (fun H locs hP hD hS => ?_)
  have hR := hR.cp (c0 := 62) (c1 := 11) (sp := (0 : Int32).toNatClampNeg) (dp := (0 : Int32).toNatClampNeg) (n := (26 : Int32).toNatClampNeg) (by decide +kernel)
  have hF := hF.cp (c0 := 62) (c1 := 11) (sp := (0 : Int32).toNatClampNeg) (dp := (0 : Int32).toNatClampNeg) (n := (26 : Int32).toNatClampNeg) (fun _ => rfl)
  have hK_N55 := sp_sgD sp_N55 hD hK_N55 (by decide)
  have hK_ES_4_55 := eq_cpD (n := 26) (by decide) rfl rfl rfl hD
  refine lv_aload_n F.1 F.2.1 dX2_copyFrom_176 rfl (lv_at hl 1 rfl) ?_
  refine a_getr F inX2 hP 55 16 tc_55 rfl rfl (by decide) q200 (fun _ h9 => h9) dX2_copyFrom_177 ?_
  refine a_ic F (0 : Int32) dX2_copyFrom_180 (by decide) ?_
  refine lv_aload_n F.1 F.2.1 dX2_copyFrom_181 rfl (lv_at hl 0 rfl) ?_
  refine a_getr F inX2 hP 4 16 tc_4 rfl rfl (by decide) q200 (fun _ h9 => h9) dX2_copyFrom_182 ?_
  refine a_ic F (0 : Int32) dX2_copyFrom_185 (by decide) ?_
  refine a_bp F (26 : Int32) dX2_copyFrom_186 (by decide) ?_
  refine a_cpyi F (hml.trans hl.1.symm) q706 q708 q707 q19 hP hD hS 63 12 tc_63 tc_12 rfl (by decide) (by decide) (by decide) (by simp only [ic_0, ic_26]; omega) (by simp only [ic_0, ic_26]; omega) (by decide) (by decide) dX2_copyFrom_188 (fun H locs hP hD hS => ?_)
  have hR := hR.cp (c0 := 63) (c1 := 12) (sp := (0 : Int32).toNatClampNeg) (dp := (0 : Int32).toNatClampNeg) (n := (26 : Int32).toNatClampNeg) (by decide +kernel)
  have hF := hF.cp (c0 := 63) (c1 := 12) (sp := (0 : Int32).toNatClampNeg) (dp := (0 : Int32).toNatClampNeg) (n := (26 : Int32).toNatClampNeg) (fun _ => rfl)
  have hK_ES_4_55 := sp_sgD sp_ES_4_55 hD hK_ES_4_55 (by decide)
  have hK_N55 := sp_sgD sp_N55 hD hK_N55 (by decide)
  have hK_N4 := nm_cp (a' := 11) (b' := 12) hK_N55 hK_ES_4_55 (eq_cpD (n := 26) (by decide) rfl rfl rfl hD)
  exact a_retv F hr hlocks hP hD hS dX2_copyFrom_191 ⟨hR, hF, hK_N4, hRR.symm.trans hC⟩

def f_X2_copyFrom_4_64 (u0 : ac_U) : ac_U := (cpI (cpI (cpL (cpI (cpI (cpI (cpI (cpI (pI (pI (pI (pI (pI (pI (pI (pI (pI u0 4 0 (u0.1 64 0)) 4 1 (u0.1 64 1)) 4 2 (u0.1 64 2)) 4 3 (u0.1 64 3)) 4 4 (u0.1 64 4)) 4 5 (u0.1 64 5)) 4 6 (u0.1 64 6)) 4 7 (u0.1 64 7)) 4 8 (u0.1 64 8)) 65 5 (0 : Int32).toNatClampNeg (0 : Int32).toNatClampNeg (8 : Int32).toNatClampNeg) 66 6 (0 : Int32).toNatClampNeg (0 : Int32).toNatClampNeg (6 : Int32).toNatClampNeg) 67 7 (0 : Int32).toNatClampNeg (0 : Int32).toNatClampNeg (4 : Int32).toNatClampNeg) 68 8 (0 : Int32).toNatClampNeg (0 : Int32).toNatClampNeg (64 : Int32).toNatClampNeg) 69 9 (0 : Int32).toNatClampNeg (0 : Int32).toNatClampNeg (8 : Int32).toNatClampNeg) 70 10 (0 : Int32).toNatClampNeg (0 : Int32).toNatClampNeg (26 : Int32).toNatClampNeg) 71 11 (0 : Int32).toNatClampNeg (0 : Int32).toNatClampNeg (26 : Int32).toNatClampNeg) 72 12 (0 : Int32).toNatClampNeg (0 : Int32).toNatClampNeg (26 : Int32).toNatClampNeg)
set_option maxHeartbeats 600000 in
set_option maxRecDepth 100000 in
theorem x_X2_copyFrom_4_64 (l : Launch) (dC : Nat → ClassId) (dI : Nat → Nat → Nat) (ad : Nat → Nat) (cA : Nat → ClassId) (nF : Nat) (u0 : ac_U)  (hR : ac_R rg u0) (hK_N64 : nmI 71 72 u0) : ac_Mv l yX2_copyFrom (.code yX2_copyFrom cX2_copyFrom 2 none :: TB) 1 (dC, dI) vwCl (ac_ty cA) ad cA (TT nF) [.ref (ad 4), .ref (ad 64)] u0 (fun (u : ac_U) => ac_R rg u ∧ ac_Fr [(4, some 0), (4, some 1), (4, some 2), (4, some 3), (4, some 4), (4, some 5), (4, some 6), (4, some 7), (4, some 8), (5, none), (6, none), (7, none), (8, none), (9, none), (11, none), (12, none)] u0 u ∧ nmI 11 12 u ∧ f_X2_copyFrom_4_64 u0 = u) := by
  refine ac_Mv.of (cc := cX2_copyFrom) (maxL := 2) (ret := none) (by decide) rfl (Nat.le_of_ble_eq_true rfl) ?_
  intro p e s m below meth c A ls F hml hr hlocks hA hP hD hS hl
  have F : ac_X p s m [.ref (ad 4), .ref (ad 64)].toArray c cX2_copyFrom RX2 TB (dC, dI) vwCl (ac_ty cA) := ⟨F.1, F.2.1, fun w h => F.2.2.1 w (List.mem_cons_of_mem _ h), F.2.2.2.1, F.2.2.2.2⟩
  have hl : lv_has ls 2 [(0, .ref (ad 4)), (1, .ref (ad 64))] := hl
  obtain ⟨RR, hRR⟩ : ∃ q, q = f_X2_copyFrom_4_64 u0 := ⟨_, rfl⟩
  have hF : ac_Fr [(4, some 0), (4, some 1), (4, some 2), (4, some 3), (4, some 4), (4, some 5), (4, some 6), (4, some 7), (4, some 8), (5, none), (6, none), (7, none), (8, none), (9, none), (11, none), (12, none)] u0 u0 := ac_Fr.rf
  have hC : RR = f_X2_copyFrom_4_64 u0 := hRR
  unfold f_X2_copyFrom_4_64 at hC
  refine lv_aload_n F.1 F.2.1 dX2_copyFrom_0 rfl (lv_at hl 0 rfl) ?_
  refine lv_aload_n F.1 F.2.1 dX2_copyFrom_1 rfl (lv_at hl 1 rfl) ?_
  have g1 : (4 : Int) ≤ (u0.1 64 0).toInt ∧ (u0.1 64 0).toInt ≤ 24 := hR 64 0
  refine a_geti F inX2 hP 64 0 tc_64 rfl rfl (by decide) q151 (fun _ h9 => h9) (v := (u0.1 64 0)) rfl dX2_copyFrom_2 ?_
  refine a_puti F inX2 tyX2 tyX2_ok nmX2 hP hD hS 4 0 tc_4 rfl rfl (by decide) q151 (fun _ h9 => h9) rfl (ty := .int) (tyX2_ok 0 (by decide)) rfl rfl dX2_copyFrom_5 (fun H locs hP hD hS => ?_)
  have hR := hR.si (c := 4) (k := 0) (v := (u0.1 64 0)) (by omega : (4 : Int) ≤ (u0.1 64 0).toInt ∧ (u0.1 64 0).toInt ≤ 24)
  have hF := hF.si (c := 4) (k := 0) (v := (u0.1 64 0)) rfl
  have hK_N64 := sp_sgD sp_N64 hD hK_N64 (by decide)
  refine lv_aload_n F.1 F.2.1 dX2_copyFrom_8 rfl (lv_at hl 0 rfl) ?_
  refine lv_aload_n F.1 F.2.1 dX2_copyFrom_9 rfl (lv_at hl 1 rfl) ?_
  have g2 : (0 : Int) ≤ (u0.1 64 1).toInt ∧ (u0.1 64 1).toInt ≤ 8 := hR 64 1
  refine a_geti F inX2 hP 64 1 tc_64 rfl rfl (by decide) q157 (fun _ h9 => h9) (v := (u0.1 64 1)) rfl dX2_copyFrom_10 ?_
  refine a_puti F inX2 tyX2 tyX2_ok nmX2 hP hD hS 4 1 tc_4 rfl rfl (by decide) q157 (fun _ h9 => h9) rfl (ty := .int) (tyX2_ok 1 (by decide)) rfl rfl dX2_copyFrom_13 (fun H locs hP hD hS => ?_)
  have hR := hR.si (c := 4) (k := 1) (v := (u0.1 64 1)) (by omega : (0 : Int) ≤ (u0.1 64 1).toInt ∧ (u0.1 64 1).toInt ≤ 8)
  have hF := hF.si (c := 4) (k := 1) (v := (u0.1 64 1)) rfl
  have hK_N64 := sp_sgD sp_N64 hD hK_N64 (by decide)
  refine lv_aload_n F.1 F.2.1 dX2_copyFrom_16 rfl (lv_at hl 0 rfl) ?_
  refine lv_aload_n F.1 F.2.1 dX2_copyFrom_17 rfl (lv_at hl 1 rfl) ?_
  have g3 : (0 : Int) ≤ (u0.1 64 2).toInt ∧ (u0.1 64 2).toInt ≤ 12 := hR 64 2
  refine a_geti F inX2 hP 64 2 tc_64 rfl rfl (by decide) q162 (fun _ h9 => h9) (v := (u0.1 64 2)) rfl dX2_copyFrom_18 ?_
  refine a_puti F inX2 tyX2 tyX2_ok nmX2 hP hD hS 4 2 tc_4 rfl rfl (by decide) q162 (fun _ h9 => h9) rfl (ty := .int) (tyX2_ok 2 (by decide)) rfl rfl dX2_copyFrom_21 (fun H locs hP hD hS => ?_)
  have hR := hR.si (c := 4) (k := 2) (v := (u0.1 64 2)) (by omega : (0 : Int) ≤ (u0.1 64 2).toInt ∧ (u0.1 64 2).toInt ≤ 12)
  have hF := hF.si (c := 4) (k := 2) (v := (u0.1 64 2)) rfl
  have hK_N64 := sp_sgD sp_N64 hD hK_N64 (by decide)
  refine lv_aload_n F.1 F.2.1 dX2_copyFrom_24 rfl (lv_at hl 0 rfl) ?_
  refine lv_aload_n F.1 F.2.1 dX2_copyFrom_25 rfl (lv_at hl 1 rfl) ?_
  have g4 : (0 : Int) ≤ (u0.1 64 3).toInt ∧ (u0.1 64 3).toInt ≤ 6 := hR 64 3
  refine a_geti F inX2 hP 64 3 tc_64 rfl rfl (by decide) q165 (fun _ h9 => h9) (v := (u0.1 64 3)) rfl dX2_copyFrom_26 ?_
  refine a_puti F inX2 tyX2 tyX2_ok nmX2 hP hD hS 4 3 tc_4 rfl rfl (by decide) q165 (fun _ h9 => h9) rfl (ty := .int) (tyX2_ok 3 (by decide)) rfl rfl dX2_copyFrom_29 (fun H locs hP hD hS => ?_)
  have hR := hR.si (c := 4) (k := 3) (v := (u0.1 64 3)) (by omega : (0 : Int) ≤ (u0.1 64 3).toInt ∧ (u0.1 64 3).toInt ≤ 6)
  have hF := hF.si (c := 4) (k := 3) (v := (u0.1 64 3)) rfl
  have hK_N64 := sp_sgD sp_N64 hD hK_N64 (by decide)
  refine lv_aload_n F.1 F.2.1 dX2_copyFrom_32 rfl (lv_at hl 0 rfl) ?_
  refine lv_aload_n F.1 F.2.1 dX2_copyFrom_33 rfl (lv_at hl 1 rfl) ?_
  have g5 : (0 : Int) ≤ (u0.1 64 4).toInt ∧ (u0.1 64 4).toInt ≤ 4 := hR 64 4
  refine a_geti F inX2 hP 64 4 tc_64 rfl rfl (by decide) q169 (fun _ h9 => h9) (v := (u0.1 64 4)) rfl dX2_copyFrom_34 ?_
  refine a_puti F inX2 tyX2 tyX2_ok nmX2 hP hD hS 4 4 tc_4 rfl rfl (by decide) q169 (fun _ h9 => h9) rfl (ty := .int) (tyX2_ok 4 (by decide)) rfl rfl dX2_copyFrom_37 (fun H locs hP hD hS => ?_)
  have hR := hR.si (c := 4) (k := 4) (v := (u0.1 64 4)) (by omega : (0 : Int) ≤ (u0.1 64 4).toInt ∧ (u0.1 64 4).toInt ≤ 4)
  have hF := hF.si (c := 4) (k := 4) (v := (u0.1 64 4)) rfl
  have hK_N64 := sp_sgD sp_N64 hD hK_N64 (by decide)
  refine lv_aload_n F.1 F.2.1 dX2_copyFrom_40 rfl (lv_at hl 0 rfl) ?_
  refine lv_aload_n F.1 F.2.1 dX2_copyFrom_41 rfl (lv_at hl 1 rfl) ?_
  have g6 : (0 : Int) ≤ (u0.1 64 5).toInt ∧ (u0.1 64 5).toInt ≤ 6 := hR 64 5
  refine a_geti F inX2 hP 64 5 tc_64 rfl rfl (by decide) q173 (fun _ h9 => h9) (v := (u0.1 64 5)) rfl dX2_copyFrom_42 ?_
  refine a_puti F inX2 tyX2 tyX2_ok nmX2 hP hD hS 4 5 tc_4 rfl rfl (by decide) q173 (fun _ h9 => h9) rfl (ty := .int) (tyX2_ok 5 (by decide)) rfl rfl dX2_copyFrom_45 (fun H locs hP hD hS => ?_)
  have hR := hR.si (c := 4) (k := 5) (v := (u0.1 64 5)) (by omega : (0 : Int) ≤ (u0.1 64 5).toInt ∧ (u0.1 64 5).toInt ≤ 6)
  have hF := hF.si (c := 4) (k := 5) (v := (u0.1 64 5)) rfl
  have hK_N64 := sp_sgD sp_N64 hD hK_N64 (by decide)
  refine lv_aload_n F.1 F.2.1 dX2_copyFrom_48 rfl (lv_at hl 0 rfl) ?_
  refine lv_aload_n F.1 F.2.1 dX2_copyFrom_49 rfl (lv_at hl 1 rfl) ?_
  have g7 : (0 : Int) ≤ (u0.1 64 6).toInt ∧ (u0.1 64 6).toInt ≤ 8 := hR 64 6
  refine a_geti F inX2 hP 64 6 tc_64 rfl rfl (by decide) q178 (fun _ h9 => h9) (v := (u0.1 64 6)) rfl dX2_copyFrom_50 ?_
  refine a_puti F inX2 tyX2 tyX2_ok nmX2 hP hD hS 4 6 tc_4 rfl rfl (by decide) q178 (fun _ h9 => h9) rfl (ty := .int) (tyX2_ok 6 (by decide)) rfl rfl dX2_copyFrom_53 (fun H locs hP hD hS => ?_)
  have hR := hR.si (c := 4) (k := 6) (v := (u0.1 64 6)) (by omega : (0 : Int) ≤ (u0.1 64 6).toInt ∧ (u0.1 64 6).toInt ≤ 8)
  have hF := hF.si (c := 4) (k := 6) (v := (u0.1 64 6)) rfl
  have hK_N64 := sp_sgD sp_N64 hD hK_N64 (by decide)
  refine lv_aload_n F.1 F.2.1 dX2_copyFrom_56 rfl (lv_at hl 0 rfl) ?_
  refine lv_aload_n F.1 F.2.1 dX2_copyFrom_57 rfl (lv_at hl 1 rfl) ?_
  have g8 : (0 : Int) ≤ (u0.1 64 7).toInt ∧ (u0.1 64 7).toInt ≤ 8 := hR 64 7
  refine a_geti F inX2 hP 64 7 tc_64 rfl rfl (by decide) q185 (fun _ h9 => h9) (v := (u0.1 64 7)) rfl dX2_copyFrom_58 ?_
  refine a_puti F inX2 tyX2 tyX2_ok nmX2 hP hD hS 4 7 tc_4 rfl rfl (by decide) q185 (fun _ h9 => h9) rfl (ty := .int) (tyX2_ok 7 (by decide)) rfl rfl dX2_copyFrom_61 (fun H locs hP hD hS => ?_)
  have hR := hR.si (c := 4) (k := 7) (v := (u0.1 64 7)) (by omega : (0 : Int) ≤ (u0.1 64 7).toInt ∧ (u0.1 64 7).toInt ≤ 8)
  have hF := hF.si (c := 4) (k := 7) (v := (u0.1 64 7)) rfl
  have hK_N64 := sp_sgD sp_N64 hD hK_N64 (by decide)
  refine lv_aload_n F.1 F.2.1 dX2_copyFrom_64 rfl (lv_at hl 0 rfl) ?_
  refine lv_aload_n F.1 F.2.1 dX2_copyFrom_65 rfl (lv_at hl 1 rfl) ?_
  have g9 : (0 : Int) ≤ (u0.1 64 8).toInt ∧ (u0.1 64 8).toInt ≤ 26 := hR 64 8
  refine a_geti F inX2 hP 64 8 tc_64 rfl rfl (by decide) q188 (fun _ h9 => h9) (v := (u0.1 64 8)) rfl dX2_copyFrom_66 ?_
  refine a_puti F inX2 tyX2 tyX2_ok nmX2 hP hD hS 4 8 tc_4 rfl rfl (by decide) q188 (fun _ h9 => h9) rfl (ty := .int) (tyX2_ok 8 (by decide)) rfl rfl dX2_copyFrom_69 (fun H locs hP hD hS => ?_)
  have hR := hR.si (c := 4) (k := 8) (v := (u0.1 64 8)) (by omega : (0 : Int) ≤ (u0.1 64 8).toInt ∧ (u0.1 64 8).toInt ≤ 26)
  have hF := hF.si (c := 4) (k := 8) (v := (u0.1 64 8)) rfl
  have hK_N64 := sp_sgD sp_N64 hD hK_N64 (by decide)
  refine lv_aload_n F.1 F.2.1 dX2_copyFrom_72 rfl (lv_at hl 1 rfl) ?_
  refine a_getr F inX2 hP 64 9 tc_64 rfl rfl (by decide) q189 (fun _ h9 => h9) dX2_copyFrom_73 ?_
  refine a_ic F (0 : Int32) dX2_copyFrom_76 (by decide) ?_
  refine lv_aload_n F.1 F.2.1 dX2_copyFrom_77 rfl (lv_at hl 0 rfl) ?_
  refine a_getr F inX2 hP 4 9 tc_4 rfl rfl (by decide) q189 (fun _ h9 => h9) dX2_copyFrom_78 ?_
  refine a_ic F (0 : Int32) dX2_copyFrom_81 (by decide) ?_
  refine a_bp F (8 : Int32) dX2_copyFrom_82 (by decide) ?_
  refine a_cpyi F (hml.trans hl.1.symm) q706 q708 q707 q19 hP hD hS 65 5 tc_65 tc_5 rfl (by decide) (by decide) (by decide) (by simp only [ic_0, ic_8]; omega) (by simp only [ic_0, ic_8]; omega) (by decide) (by decide) dX2_copyFrom_84 (fun H locs hP hD hS => ?_)
  have hR := hR.cp (c0 := 65) (c1 := 5) (sp := (0 : Int32).toNatClampNeg) (dp := (0 : Int32).toNatClampNeg) (n := (8 : Int32).toNatClampNeg) (by decide +kernel)
  have hF := hF.cp (c0 := 65) (c1 := 5) (sp := (0 : Int32).toNatClampNeg) (dp := (0 : Int32).toNatClampNeg) (n := (8 : Int32).toNatClampNeg) (fun _ => rfl)
  have hK_N64 := sp_sgD sp_N64 hD hK_N64 (by decide)
  refine lv_aload_n F.1 F.2.1 dX2_copyFrom_87 rfl (lv_at hl 1 rfl) ?_
  refine a_getr F inX2 hP 64 10 tc_64 rfl rfl (by decide) q190 (fun _ h9 => h9) dX2_copyFrom_88 ?_
  refine a_ic F (0 : Int32) dX2_copyFrom_91 (by decide) ?_
  refine lv_aload_n F.1 F.2.1 dX2_copyFrom_92 rfl (lv_at hl 0 rfl) ?_
  refine a_getr F inX2 hP 4 10 tc_4 rfl rfl (by decide) q190 (fun _ h9 => h9) dX2_copyFrom_93 ?_
  refine a_ic F (0 : Int32) dX2_copyFrom_96 (by decide) ?_
  refine a_bp F (6 : Int32) dX2_copyFrom_97 (by decide) ?_
  refine a_cpyi F (hml.trans hl.1.symm) q706 q708 q707 q19 hP hD hS 66 6 tc_66 tc_6 rfl (by decide) (by decide) (by decide) (by simp only [ic_0, ic_6]; omega) (by simp only [ic_0, ic_6]; omega) (by decide) (by decide) dX2_copyFrom_99 (fun H locs hP hD hS => ?_)
  have hR := hR.cp (c0 := 66) (c1 := 6) (sp := (0 : Int32).toNatClampNeg) (dp := (0 : Int32).toNatClampNeg) (n := (6 : Int32).toNatClampNeg) (by decide +kernel)
  have hF := hF.cp (c0 := 66) (c1 := 6) (sp := (0 : Int32).toNatClampNeg) (dp := (0 : Int32).toNatClampNeg) (n := (6 : Int32).toNatClampNeg) (fun _ => rfl)
  have hK_N64 := sp_sgD sp_N64 hD hK_N64 (by decide)
  refine lv_aload_n F.1 F.2.1 dX2_copyFrom_102 rfl (lv_at hl 1 rfl) ?_
  refine a_getr F inX2 hP 64 11 tc_64 rfl rfl (by decide) q193 (fun _ h9 => h9) dX2_copyFrom_103 ?_
  refine a_ic F (0 : Int32) dX2_copyFrom_106 (by decide) ?_
  refine lv_aload_n F.1 F.2.1 dX2_copyFrom_107 rfl (lv_at hl 0 rfl) ?_
  refine a_getr F inX2 hP 4 11 tc_4 rfl rfl (by decide) q193 (fun _ h9 => h9) dX2_copyFrom_108 ?_
  refine a_ic F (0 : Int32) dX2_copyFrom_111 (by decide) ?_
  refine a_ic F (4 : Int32) dX2_copyFrom_112 (by decide) ?_
  refine a_cpyi F (hml.trans hl.1.symm) q706 q708 q707 q19 hP hD hS 67 7 tc_67 tc_7 rfl (by decide) (by decide) (by decide) (by simp only [ic_0, ic_4]; omega) (by simp only [ic_0, ic_4]; omega) (by decide) (by decide) dX2_copyFrom_113 (fun H locs hP hD hS => ?_)
  have hR := hR.cp (c0 := 67) (c1 := 7) (sp := (0 : Int32).toNatClampNeg) (dp := (0 : Int32).toNatClampNeg) (n := (4 : Int32).toNatClampNeg) (by decide +kernel)
  have hF := hF.cp (c0 := 67) (c1 := 7) (sp := (0 : Int32).toNatClampNeg) (dp := (0 : Int32).toNatClampNeg) (n := (4 : Int32).toNatClampNeg) (fun _ => rfl)
  have hK_N64 := sp_sgD sp_N64 hD hK_N64 (by decide)
  refine lv_aload_n F.1 F.2.1 dX2_copyFrom_116 rfl (lv_at hl 1 rfl) ?_
  refine a_getr F inX2 hP 64 12 tc_64 rfl rfl (by decide) q195 (fun _ h9 => h9) dX2_copyFrom_117 ?_
  refine a_ic F (0 : Int32) dX2_copyFrom_120 (by decide) ?_
  refine lv_aload_n F.1 F.2.1 dX2_copyFrom_121 rfl (lv_at hl 0 rfl) ?_
  refine a_getr F inX2 hP 4 12 tc_4 rfl rfl (by decide) q195 (fun _ h9 => h9) dX2_copyFrom_122 ?_
  refine a_ic F (0 : Int32) dX2_copyFrom_125 (by decide) ?_
  refine a_bp F (64 : Int32) dX2_copyFrom_126 (by decide) ?_
  refine a_cpyi F (hml.trans hl.1.symm) q706 q708 q707 q19 hP hD hS 68 8 tc_68 tc_8 rfl (by decide) (by decide) (by decide) (by simp only [ic_0, ic_64]; omega) (by simp only [ic_0, ic_64]; omega) (by decide) (by decide) dX2_copyFrom_128 (fun H locs hP hD hS => ?_)
  have hR := hR.cp (c0 := 68) (c1 := 8) (sp := (0 : Int32).toNatClampNeg) (dp := (0 : Int32).toNatClampNeg) (n := (64 : Int32).toNatClampNeg) (by decide +kernel)
  have hF := hF.cp (c0 := 68) (c1 := 8) (sp := (0 : Int32).toNatClampNeg) (dp := (0 : Int32).toNatClampNeg) (n := (64 : Int32).toNatClampNeg) (fun _ => rfl)
  have hK_N64 := sp_sgD sp_N64 hD hK_N64 (by decide)
  refine lv_aload_n F.1 F.2.1 dX2_copyFrom_131 rfl (lv_at hl 1 rfl) ?_
  refine a_getr F inX2 hP 64 13 tc_64 rfl rfl (by decide) q196 (fun _ h9 => h9) dX2_copyFrom_132 ?_
  refine a_ic F (0 : Int32) dX2_copyFrom_135 (by decide) ?_
  refine lv_aload_n F.1 F.2.1 dX2_copyFrom_136 rfl (lv_at hl 0 rfl) ?_
  refine a_getr F inX2 hP 4 13 tc_4 rfl rfl (by decide) q196 (fun _ h9 => h9) dX2_copyFrom_137 ?_
  refine a_ic F (0 : Int32) dX2_copyFrom_140 (by decide) ?_
  refine a_bp F (8 : Int32) dX2_copyFrom_141 (by decide) ?_
  refine a_cpyi F (hml.trans hl.1.symm) q706 q708 q707 q19 hP hD hS 69 9 tc_69 tc_9 rfl (by decide) (by decide) (by decide) (by simp only [ic_0, ic_8]; omega) (by simp only [ic_0, ic_8]; omega) (by decide) (by decide) dX2_copyFrom_143 (fun H locs hP hD hS => ?_)
  have hR := hR.cp (c0 := 69) (c1 := 9) (sp := (0 : Int32).toNatClampNeg) (dp := (0 : Int32).toNatClampNeg) (n := (8 : Int32).toNatClampNeg) (by decide +kernel)
  have hF := hF.cp (c0 := 69) (c1 := 9) (sp := (0 : Int32).toNatClampNeg) (dp := (0 : Int32).toNatClampNeg) (n := (8 : Int32).toNatClampNeg) (fun _ => rfl)
  have hK_N64 := sp_sgD sp_N64 hD hK_N64 (by decide)
  refine lv_aload_n F.1 F.2.1 dX2_copyFrom_146 rfl (lv_at hl 1 rfl) ?_
  refine a_getr F inX2 hP 64 14 tc_64 rfl rfl (by decide) q197 (fun _ h9 => h9) dX2_copyFrom_147 ?_
  refine a_ic F (0 : Int32) dX2_copyFrom_150 (by decide) ?_
  refine lv_aload_n F.1 F.2.1 dX2_copyFrom_151 rfl (lv_at hl 0 rfl) ?_
  refine a_getr F inX2 hP 4 14 tc_4 rfl rfl (by decide) q197 (fun _ h9 => h9) dX2_copyFrom_152 ?_
  refine a_ic F (0 : Int32) dX2_copyFrom_155 (by decide) ?_
  refine a_bp F (26 : Int32) dX2_copyFrom_156 (by decide) ?_
  refine a_cpyl F (hml.trans hl.1.symm) q706 q708 q707 q19 hP hD hS 70 10 tc_70 tc_10 rfl (by decide) (by decide) (by decide) (by simp only [ic_0, ic_26]; omega) (by simp only [ic_0, ic_26]; omega) (by decide) (by decide) dX2_copyFrom_158 (fun H locs hP hD hS => ?_)
  have hK_N64 := sp_sl sp_N64 hD hK_N64
  refine lv_aload_n F.1 F.2.1 dX2_copyFrom_161 rfl (lv_at hl 1 rfl) ?_
  refine a_getr F inX2 hP 64 15 tc_64 rfl rfl (by decide) q198 (fun _ h9 => h9) dX2_copyFrom_162 ?_
  refine a_ic F (0 : Int32) dX2_copyFrom_165 (by decide) ?_
  refine lv_aload_n F.1 F.2.1 dX2_copyFrom_166 rfl (lv_at hl 0 rfl) ?_
  refine a_getr F inX2 hP 4 15 tc_4 rfl rfl (by decide) q198 (fun _ h9 => h9) dX2_copyFrom_167 ?_
  refine a_ic F (0 : Int32) dX2_copyFrom_170 (by decide) ?_
  refine a_bp F (26 : Int32) dX2_copyFrom_171 (by decide) ?_
  refine a_cpyi F (hml.trans hl.1.symm) q706 q708 q707 q19 hP hD hS 71 11 tc_71 tc_11 rfl (by decide) (by decide) (by decide) (by simp only [ic_0, ic_26]; omega) (by simp only [ic_0, ic_26]; omega) (by decide) (by decide) dX2_copyFrom_173 (fun H locs hP hD hS => ?_)
  have hR := hR.cp (c0 := 71) (c1 := 11) (sp := (0 : Int32).toNatClampNeg) (dp := (0 : Int32).toNatClampNeg) (n := (26 : Int32).toNatClampNeg) (by decide +kernel)
  have hF := hF.cp (c0 := 71) (c1 := 11) (sp := (0 : Int32).toNatClampNeg) (dp := (0 : Int32).toNatClampNeg) (n := (26 : Int32).toNatClampNeg) (fun _ => rfl)
  have hK_N64 := sp_sgD sp_N64 hD hK_N64 (by decide)
  have hK_ES_4_64 := eq_cpD (n := 26) (by decide) rfl rfl rfl hD
  refine lv_aload_n F.1 F.2.1 dX2_copyFrom_176 rfl (lv_at hl 1 rfl) ?_
  refine a_getr F inX2 hP 64 16 tc_64 rfl rfl (by decide) q200 (fun _ h9 => h9) dX2_copyFrom_177 ?_
  refine a_ic F (0 : Int32) dX2_copyFrom_180 (by decide) ?_
  refine lv_aload_n F.1 F.2.1 dX2_copyFrom_181 rfl (lv_at hl 0 rfl) ?_
  refine a_getr F inX2 hP 4 16 tc_4 rfl rfl (by decide) q200 (fun _ h9 => h9) dX2_copyFrom_182 ?_
  refine a_ic F (0 : Int32) dX2_copyFrom_185 (by decide) ?_
  refine a_bp F (26 : Int32) dX2_copyFrom_186 (by decide) ?_
  refine a_cpyi F (hml.trans hl.1.symm) q706 q708 q707 q19 hP hD hS 72 12 tc_72 tc_12 rfl (by decide) (by decide) (by decide) (by simp only [ic_0, ic_26]; omega) (by simp only [ic_0, ic_26]; omega) (by decide) (by decide) dX2_copyFrom_188 (fun H locs hP hD hS => ?_)
  have hR := hR.cp (c0 := 72) (c1 := 12) (sp := (0 : Int32).toNatClampNeg) (dp := (0 : Int32).toNatClampNeg) (n := (26 : Int32).toNatClampNeg) (by decide +kernel)
  have hF := hF.cp (c0 := 72) (c1 := 12) (sp := (0 : Int32).toNatClampNeg) (dp := (0 : Int32).toNatClampNeg) (n := (26 : Int32).toNatClampNeg) (fun _ => rfl)
  have hK_ES_4_64 := sp_sgD sp_ES_4_64 hD hK_ES_4_64 (by decide)
  have hK_N64 := sp_sgD sp_N64 hD hK_N64 (by decide)
  have hK_N4 := nm_cp (a' := 11) (b' := 12) hK_N64 hK_ES_4_64 (eq_cpD (n := 26) (by decide) rfl rfl rfl hD)
  exact a_retv F hr hlocks hP hD hS dX2_copyFrom_191 ⟨hR, hF, hK_N4, hRR.symm.trans hC⟩

def f_X2_copyFrom_55_4 (u0 : ac_U) : ac_U := (cpI (cpI (cpL (cpI (cpI (cpI (cpI (cpI (pI (pI (pI (pI (pI (pI (pI (pI (pI u0 55 0 (u0.1 4 0)) 55 1 (u0.1 4 1)) 55 2 (u0.1 4 2)) 55 3 (u0.1 4 3)) 55 4 (u0.1 4 4)) 55 5 (u0.1 4 5)) 55 6 (u0.1 4 6)) 55 7 (u0.1 4 7)) 55 8 (u0.1 4 8)) 5 56 (0 : Int32).toNatClampNeg (0 : Int32).toNatClampNeg (8 : Int32).toNatClampNeg) 6 57 (0 : Int32).toNatClampNeg (0 : Int32).toNatClampNeg (6 : Int32).toNatClampNeg) 7 58 (0 : Int32).toNatClampNeg (0 : Int32).toNatClampNeg (4 : Int32).toNatClampNeg) 8 59 (0 : Int32).toNatClampNeg (0 : Int32).toNatClampNeg (64 : Int32).toNatClampNeg) 9 60 (0 : Int32).toNatClampNeg (0 : Int32).toNatClampNeg (8 : Int32).toNatClampNeg) 10 61 (0 : Int32).toNatClampNeg (0 : Int32).toNatClampNeg (26 : Int32).toNatClampNeg) 11 62 (0 : Int32).toNatClampNeg (0 : Int32).toNatClampNeg (26 : Int32).toNatClampNeg) 12 63 (0 : Int32).toNatClampNeg (0 : Int32).toNatClampNeg (26 : Int32).toNatClampNeg)
set_option maxHeartbeats 600000 in
set_option maxRecDepth 100000 in
theorem x_X2_copyFrom_55_4 (l : Launch) (dC : Nat → ClassId) (dI : Nat → Nat → Nat) (ad : Nat → Nat) (cA : Nat → ClassId) (nF : Nat) (u0 : ac_U)  (hR : ac_R rg u0) (hK_N4 : nmI 11 12 u0) : ac_Mv l yX2_copyFrom (.code yX2_copyFrom cX2_copyFrom 2 none :: TB) 1 (dC, dI) vwCl (ac_ty cA) ad cA (TT nF) [.ref (ad 55), .ref (ad 4)] u0 (fun (u : ac_U) => ac_R rg u ∧ ac_Fr [(55, some 0), (55, some 1), (55, some 2), (55, some 3), (55, some 4), (55, some 5), (55, some 6), (55, some 7), (55, some 8), (56, none), (57, none), (58, none), (59, none), (60, none), (62, none), (63, none)] u0 u ∧ nmI 62 63 u ∧ f_X2_copyFrom_55_4 u0 = u) := by
  refine ac_Mv.of (cc := cX2_copyFrom) (maxL := 2) (ret := none) (by decide) rfl (Nat.le_of_ble_eq_true rfl) ?_
  intro p e s m below meth c A ls F hml hr hlocks hA hP hD hS hl
  have F : ac_X p s m [.ref (ad 55), .ref (ad 4)].toArray c cX2_copyFrom RX2 TB (dC, dI) vwCl (ac_ty cA) := ⟨F.1, F.2.1, fun w h => F.2.2.1 w (List.mem_cons_of_mem _ h), F.2.2.2.1, F.2.2.2.2⟩
  have hl : lv_has ls 2 [(0, .ref (ad 55)), (1, .ref (ad 4))] := hl
  obtain ⟨RR, hRR⟩ : ∃ q, q = f_X2_copyFrom_55_4 u0 := ⟨_, rfl⟩
  have hF : ac_Fr [(55, some 0), (55, some 1), (55, some 2), (55, some 3), (55, some 4), (55, some 5), (55, some 6), (55, some 7), (55, some 8), (56, none), (57, none), (58, none), (59, none), (60, none), (62, none), (63, none)] u0 u0 := ac_Fr.rf
  have hC : RR = f_X2_copyFrom_55_4 u0 := hRR
  unfold f_X2_copyFrom_55_4 at hC
  refine lv_aload_n F.1 F.2.1 dX2_copyFrom_0 rfl (lv_at hl 0 rfl) ?_
  refine lv_aload_n F.1 F.2.1 dX2_copyFrom_1 rfl (lv_at hl 1 rfl) ?_
  have g1 : (4 : Int) ≤ (u0.1 4 0).toInt ∧ (u0.1 4 0).toInt ≤ 24 := hR 4 0
  refine a_geti F inX2 hP 4 0 tc_4 rfl rfl (by decide) q151 (fun _ h9 => h9) (v := (u0.1 4 0)) rfl dX2_copyFrom_2 ?_
  refine a_puti F inX2 tyX2 tyX2_ok nmX2 hP hD hS 55 0 tc_55 rfl rfl (by decide) q151 (fun _ h9 => h9) rfl (ty := .int) (tyX2_ok 0 (by decide)) rfl rfl dX2_copyFrom_5 (fun H locs hP hD hS => ?_)
  have hR := hR.si (c := 55) (k := 0) (v := (u0.1 4 0)) (by omega : (4 : Int) ≤ (u0.1 4 0).toInt ∧ (u0.1 4 0).toInt ≤ 24)
  have hF := hF.si (c := 55) (k := 0) (v := (u0.1 4 0)) rfl
  have hK_N4 := sp_sgD sp_N4 hD hK_N4 (by decide)
  refine lv_aload_n F.1 F.2.1 dX2_copyFrom_8 rfl (lv_at hl 0 rfl) ?_
  refine lv_aload_n F.1 F.2.1 dX2_copyFrom_9 rfl (lv_at hl 1 rfl) ?_
  have g2 : (0 : Int) ≤ (u0.1 4 1).toInt ∧ (u0.1 4 1).toInt ≤ 8 := hR 4 1
  refine a_geti F inX2 hP 4 1 tc_4 rfl rfl (by decide) q157 (fun _ h9 => h9) (v := (u0.1 4 1)) rfl dX2_copyFrom_10 ?_
  refine a_puti F inX2 tyX2 tyX2_ok nmX2 hP hD hS 55 1 tc_55 rfl rfl (by decide) q157 (fun _ h9 => h9) rfl (ty := .int) (tyX2_ok 1 (by decide)) rfl rfl dX2_copyFrom_13 (fun H locs hP hD hS => ?_)
  have hR := hR.si (c := 55) (k := 1) (v := (u0.1 4 1)) (by omega : (0 : Int) ≤ (u0.1 4 1).toInt ∧ (u0.1 4 1).toInt ≤ 8)
  have hF := hF.si (c := 55) (k := 1) (v := (u0.1 4 1)) rfl
  have hK_N4 := sp_sgD sp_N4 hD hK_N4 (by decide)
  refine lv_aload_n F.1 F.2.1 dX2_copyFrom_16 rfl (lv_at hl 0 rfl) ?_
  refine lv_aload_n F.1 F.2.1 dX2_copyFrom_17 rfl (lv_at hl 1 rfl) ?_
  have g3 : (0 : Int) ≤ (u0.1 4 2).toInt ∧ (u0.1 4 2).toInt ≤ 12 := hR 4 2
  refine a_geti F inX2 hP 4 2 tc_4 rfl rfl (by decide) q162 (fun _ h9 => h9) (v := (u0.1 4 2)) rfl dX2_copyFrom_18 ?_
  refine a_puti F inX2 tyX2 tyX2_ok nmX2 hP hD hS 55 2 tc_55 rfl rfl (by decide) q162 (fun _ h9 => h9) rfl (ty := .int) (tyX2_ok 2 (by decide)) rfl rfl dX2_copyFrom_21 (fun H locs hP hD hS => ?_)
  have hR := hR.si (c := 55) (k := 2) (v := (u0.1 4 2)) (by omega : (0 : Int) ≤ (u0.1 4 2).toInt ∧ (u0.1 4 2).toInt ≤ 12)
  have hF := hF.si (c := 55) (k := 2) (v := (u0.1 4 2)) rfl
  have hK_N4 := sp_sgD sp_N4 hD hK_N4 (by decide)
  refine lv_aload_n F.1 F.2.1 dX2_copyFrom_24 rfl (lv_at hl 0 rfl) ?_
  refine lv_aload_n F.1 F.2.1 dX2_copyFrom_25 rfl (lv_at hl 1 rfl) ?_
  have g4 : (0 : Int) ≤ (u0.1 4 3).toInt ∧ (u0.1 4 3).toInt ≤ 6 := hR 4 3
  refine a_geti F inX2 hP 4 3 tc_4 rfl rfl (by decide) q165 (fun _ h9 => h9) (v := (u0.1 4 3)) rfl dX2_copyFrom_26 ?_
  refine a_puti F inX2 tyX2 tyX2_ok nmX2 hP hD hS 55 3 tc_55 rfl rfl (by decide) q165 (fun _ h9 => h9) rfl (ty := .int) (tyX2_ok 3 (by decide)) rfl rfl dX2_copyFrom_29 (fun H locs hP hD hS => ?_)
  have hR := hR.si (c := 55) (k := 3) (v := (u0.1 4 3)) (by omega : (0 : Int) ≤ (u0.1 4 3).toInt ∧ (u0.1 4 3).toInt ≤ 6)
  have hF := hF.si (c := 55) (k := 3) (v := (u0.1 4 3)) rfl
  have hK_N4 := sp_sgD sp_N4 hD hK_N4 (by decide)
  refine lv_aload_n F.1 F.2.1 dX2_copyFrom_32 rfl (lv_at hl 0 rfl) ?_
  refine lv_aload_n F.1 F.2.1 dX2_copyFrom_33 rfl (lv_at hl 1 rfl) ?_
  have g5 : (0 : Int) ≤ (u0.1 4 4).toInt ∧ (u0.1 4 4).toInt ≤ 4 := hR 4 4
  refine a_geti F inX2 hP 4 4 tc_4 rfl rfl (by decide) q169 (fun _ h9 => h9) (v := (u0.1 4 4)) rfl dX2_copyFrom_34 ?_
  refine a_puti F inX2 tyX2 tyX2_ok nmX2 hP hD hS 55 4 tc_55 rfl rfl (by decide) q169 (fun _ h9 => h9) rfl (ty := .int) (tyX2_ok 4 (by decide)) rfl rfl dX2_copyFrom_37 (fun H locs hP hD hS => ?_)
  have hR := hR.si (c := 55) (k := 4) (v := (u0.1 4 4)) (by omega : (0 : Int) ≤ (u0.1 4 4).toInt ∧ (u0.1 4 4).toInt ≤ 4)
  have hF := hF.si (c := 55) (k := 4) (v := (u0.1 4 4)) rfl
  have hK_N4 := sp_sgD sp_N4 hD hK_N4 (by decide)
  refine lv_aload_n F.1 F.2.1 dX2_copyFrom_40 rfl (lv_at hl 0 rfl) ?_
  refine lv_aload_n F.1 F.2.1 dX2_copyFrom_41 rfl (lv_at hl 1 rfl) ?_
  have g6 : (0 : Int) ≤ (u0.1 4 5).toInt ∧ (u0.1 4 5).toInt ≤ 6 := hR 4 5
  refine a_geti F inX2 hP 4 5 tc_4 rfl rfl (by decide) q173 (fun _ h9 => h9) (v := (u0.1 4 5)) rfl dX2_copyFrom_42 ?_
  refine a_puti F inX2 tyX2 tyX2_ok nmX2 hP hD hS 55 5 tc_55 rfl rfl (by decide) q173 (fun _ h9 => h9) rfl (ty := .int) (tyX2_ok 5 (by decide)) rfl rfl dX2_copyFrom_45 (fun H locs hP hD hS => ?_)
  have hR := hR.si (c := 55) (k := 5) (v := (u0.1 4 5)) (by omega : (0 : Int) ≤ (u0.1 4 5).toInt ∧ (u0.1 4 5).toInt ≤ 6)
  have hF := hF.si (c := 55) (k := 5) (v := (u0.1 4 5)) rfl
  have hK_N4 := sp_sgD sp_N4 hD hK_N4 (by decide)
  refine lv_aload_n F.1 F.2.1 dX2_copyFrom_48 rfl (lv_at hl 0 rfl) ?_
  refine lv_aload_n F.1 F.2.1 dX2_copyFrom_49 rfl (lv_at hl 1 rfl) ?_
  have g7 : (0 : Int) ≤ (u0.1 4 6).toInt ∧ (u0.1 4 6).toInt ≤ 8 := hR 4 6
  refine a_geti F inX2 hP 4 6 tc_4 rfl rfl (by decide) q178 (fun _ h9 => h9) (v := (u0.1 4 6)) rfl dX2_copyFrom_50 ?_
  refine a_puti F inX2 tyX2 tyX2_ok nmX2 hP hD hS 55 6 tc_55 rfl rfl (by decide) q178 (fun _ h9 => h9) rfl (ty := .int) (tyX2_ok 6 (by decide)) rfl rfl dX2_copyFrom_53 (fun H locs hP hD hS => ?_)
  have hR := hR.si (c := 55) (k := 6) (v := (u0.1 4 6)) (by omega : (0 : Int) ≤ (u0.1 4 6).toInt ∧ (u0.1 4 6).toInt ≤ 8)
  have hF := hF.si (c := 55) (k := 6) (v := (u0.1 4 6)) rfl
  have hK_N4 := sp_sgD sp_N4 hD hK_N4 (by decide)
  refine lv_aload_n F.1 F.2.1 dX2_copyFrom_56 rfl (lv_at hl 0 rfl) ?_
  refine lv_aload_n F.1 F.2.1 dX2_copyFrom_57 rfl (lv_at hl 1 rfl) ?_
  have g8 : (0 : Int) ≤ (u0.1 4 7).toInt ∧ (u0.1 4 7).toInt ≤ 8 := hR 4 7
  refine a_geti F inX2 hP 4 7 tc_4 rfl rfl (by decide) q185 (fun _ h9 => h9) (v := (u0.1 4 7)) rfl dX2_copyFrom_58 ?_
  refine a_puti F inX2 tyX2 tyX2_ok nmX2 hP hD hS 55 7 tc_55 rfl rfl (by decide) q185 (fun _ h9 => h9) rfl (ty := .int) (tyX2_ok 7 (by decide)) rfl rfl dX2_copyFrom_61 (fun H locs hP hD hS => ?_)
  have hR := hR.si (c := 55) (k := 7) (v := (u0.1 4 7)) (by omega : (0 : Int) ≤ (u0.1 4 7).toInt ∧ (u0.1 4 7).toInt ≤ 8)
  have hF := hF.si (c := 55) (k := 7) (v := (u0.1 4 7)) rfl
  have hK_N4 := sp_sgD sp_N4 hD hK_N4 (by decide)
  refine lv_aload_n F.1 F.2.1 dX2_copyFrom_64 rfl (lv_at hl 0 rfl) ?_
  refine lv_aload_n F.1 F.2.1 dX2_copyFrom_65 rfl (lv_at hl 1 rfl) ?_
  have g9 : (0 : Int) ≤ (u0.1 4 8).toInt ∧ (u0.1 4 8).toInt ≤ 26 := hR 4 8
  refine a_geti F inX2 hP 4 8 tc_4 rfl rfl (by decide) q188 (fun _ h9 => h9) (v := (u0.1 4 8)) rfl dX2_copyFrom_66 ?_
  refine a_puti F inX2 tyX2 tyX2_ok nmX2 hP hD hS 55 8 tc_55 rfl rfl (by decide) q188 (fun _ h9 => h9) rfl (ty := .int) (tyX2_ok 8 (by decide)) rfl rfl dX2_copyFrom_69 (fun H locs hP hD hS => ?_)
  have hR := hR.si (c := 55) (k := 8) (v := (u0.1 4 8)) (by omega : (0 : Int) ≤ (u0.1 4 8).toInt ∧ (u0.1 4 8).toInt ≤ 26)
  have hF := hF.si (c := 55) (k := 8) (v := (u0.1 4 8)) rfl
  have hK_N4 := sp_sgD sp_N4 hD hK_N4 (by decide)
  refine lv_aload_n F.1 F.2.1 dX2_copyFrom_72 rfl (lv_at hl 1 rfl) ?_
  refine a_getr F inX2 hP 4 9 tc_4 rfl rfl (by decide) q189 (fun _ h9 => h9) dX2_copyFrom_73 ?_
  refine a_ic F (0 : Int32) dX2_copyFrom_76 (by decide) ?_
  refine lv_aload_n F.1 F.2.1 dX2_copyFrom_77 rfl (lv_at hl 0 rfl) ?_
  refine a_getr F inX2 hP 55 9 tc_55 rfl rfl (by decide) q189 (fun _ h9 => h9) dX2_copyFrom_78 ?_
  refine a_ic F (0 : Int32) dX2_copyFrom_81 (by decide) ?_
  refine a_bp F (8 : Int32) dX2_copyFrom_82 (by decide) ?_
  refine a_cpyi F (hml.trans hl.1.symm) q706 q708 q707 q19 hP hD hS 5 56 tc_5 tc_56 rfl (by decide) (by decide) (by decide) (by simp only [ic_0, ic_8]; omega) (by simp only [ic_0, ic_8]; omega) (by decide) (by decide) dX2_copyFrom_84 (fun H locs hP hD hS => ?_)
  have hR := hR.cp (c0 := 5) (c1 := 56) (sp := (0 : Int32).toNatClampNeg) (dp := (0 : Int32).toNatClampNeg) (n := (8 : Int32).toNatClampNeg) (by decide +kernel)
  have hF := hF.cp (c0 := 5) (c1 := 56) (sp := (0 : Int32).toNatClampNeg) (dp := (0 : Int32).toNatClampNeg) (n := (8 : Int32).toNatClampNeg) (fun _ => rfl)
  have hK_N4 := sp_sgD sp_N4 hD hK_N4 (by decide)
  refine lv_aload_n F.1 F.2.1 dX2_copyFrom_87 rfl (lv_at hl 1 rfl) ?_
  refine a_getr F inX2 hP 4 10 tc_4 rfl rfl (by decide) q190 (fun _ h9 => h9) dX2_copyFrom_88 ?_
  refine a_ic F (0 : Int32) dX2_copyFrom_91 (by decide) ?_
  refine lv_aload_n F.1 F.2.1 dX2_copyFrom_92 rfl (lv_at hl 0 rfl) ?_
  refine a_getr F inX2 hP 55 10 tc_55 rfl rfl (by decide) q190 (fun _ h9 => h9) dX2_copyFrom_93 ?_
  refine a_ic F (0 : Int32) dX2_copyFrom_96 (by decide) ?_
  refine a_bp F (6 : Int32) dX2_copyFrom_97 (by decide) ?_
  refine a_cpyi F (hml.trans hl.1.symm) q706 q708 q707 q19 hP hD hS 6 57 tc_6 tc_57 rfl (by decide) (by decide) (by decide) (by simp only [ic_0, ic_6]; omega) (by simp only [ic_0, ic_6]; omega) (by decide) (by decide) dX2_copyFrom_99 (fun H locs hP hD hS => ?_)
  have hR := hR.cp (c0 := 6) (c1 := 57) (sp := (0 : Int32).toNatClampNeg) (dp := (0 : Int32).toNatClampNeg) (n := (6 : Int32).toNatClampNeg) (by decide +kernel)
  have hF := hF.cp (c0 := 6) (c1 := 57) (sp := (0 : Int32).toNatClampNeg) (dp := (0 : Int32).toNatClampNeg) (n := (6 : Int32).toNatClampNeg) (fun _ => rfl)
  have hK_N4 := sp_sgD sp_N4 hD hK_N4 (by decide)
  refine lv_aload_n F.1 F.2.1 dX2_copyFrom_102 rfl (lv_at hl 1 rfl) ?_
  refine a_getr F inX2 hP 4 11 tc_4 rfl rfl (by decide) q193 (fun _ h9 => h9) dX2_copyFrom_103 ?_
  refine a_ic F (0 : Int32) dX2_copyFrom_106 (by decide) ?_
  refine lv_aload_n F.1 F.2.1 dX2_copyFrom_107 rfl (lv_at hl 0 rfl) ?_
  refine a_getr F inX2 hP 55 11 tc_55 rfl rfl (by decide) q193 (fun _ h9 => h9) dX2_copyFrom_108 ?_
  refine a_ic F (0 : Int32) dX2_copyFrom_111 (by decide) ?_
  refine a_ic F (4 : Int32) dX2_copyFrom_112 (by decide) ?_
  refine a_cpyi F (hml.trans hl.1.symm) q706 q708 q707 q19 hP hD hS 7 58 tc_7 tc_58 rfl (by decide) (by decide) (by decide) (by simp only [ic_0, ic_4]; omega) (by simp only [ic_0, ic_4]; omega) (by decide) (by decide) dX2_copyFrom_113 (fun H locs hP hD hS => ?_)
  have hR := hR.cp (c0 := 7) (c1 := 58) (sp := (0 : Int32).toNatClampNeg) (dp := (0 : Int32).toNatClampNeg) (n := (4 : Int32).toNatClampNeg) (by decide +kernel)
  have hF := hF.cp (c0 := 7) (c1 := 58) (sp := (0 : Int32).toNatClampNeg) (dp := (0 : Int32).toNatClampNeg) (n := (4 : Int32).toNatClampNeg) (fun _ => rfl)
  have hK_N4 := sp_sgD sp_N4 hD hK_N4 (by decide)
  refine lv_aload_n F.1 F.2.1 dX2_copyFrom_116 rfl (lv_at hl 1 rfl) ?_
  refine a_getr F inX2 hP 4 12 tc_4 rfl rfl (by decide) q195 (fun _ h9 => h9) dX2_copyFrom_117 ?_
  refine a_ic F (0 : Int32) dX2_copyFrom_120 (by decide) ?_
  refine lv_aload_n F.1 F.2.1 dX2_copyFrom_121 rfl (lv_at hl 0 rfl) ?_
  refine a_getr F inX2 hP 55 12 tc_55 rfl rfl (by decide) q195 (fun _ h9 => h9) dX2_copyFrom_122 ?_
  refine a_ic F (0 : Int32) dX2_copyFrom_125 (by decide) ?_
  refine a_bp F (64 : Int32) dX2_copyFrom_126 (by decide) ?_
  refine a_cpyi F (hml.trans hl.1.symm) q706 q708 q707 q19 hP hD hS 8 59 tc_8 tc_59 rfl (by decide) (by decide) (by decide) (by simp only [ic_0, ic_64]; omega) (by simp only [ic_0, ic_64]; omega) (by decide) (by decide) dX2_copyFrom_128 (fun H locs hP hD hS => ?_)
  have hR := hR.cp (c0 := 8) (c1 := 59) (sp := (0 : Int32).toNatClampNeg) (dp := (0 : Int32).toNatClampNeg) (n := (64 : Int32).toNatClampNeg) (by decide +kernel)
  have hF := hF.cp (c0 := 8) (c1 := 59) (sp := (0 : Int32).toNatClampNeg) (dp := (0 : Int32).toNatClampNeg) (n := (64 : Int32).toNatClampNeg) (fun _ => rfl)
  have hK_N4 := sp_sgD sp_N4 hD hK_N4 (by decide)
  refine lv_aload_n F.1 F.2.1 dX2_copyFrom_131 rfl (lv_at hl 1 rfl) ?_
  refine a_getr F inX2 hP 4 13 tc_4 rfl rfl (by decide) q196 (fun _ h9 => h9) dX2_copyFrom_132 ?_
  refine a_ic F (0 : Int32) dX2_copyFrom_135 (by decide) ?_
  refine lv_aload_n F.1 F.2.1 dX2_copyFrom_136 rfl (lv_at hl 0 rfl) ?_
  refine a_getr F inX2 hP 55 13 tc_55 rfl rfl (by decide) q196 (fun _ h9 => h9) dX2_copyFrom_137 ?_
  refine a_ic F (0 : Int32) dX2_copyFrom_140 (by decide) ?_
  refine a_bp F (8 : Int32) dX2_copyFrom_141 (by decide) ?_
  refine a_cpyi F (hml.trans hl.1.symm) q706 q708 q707 q19 hP hD hS 9 60 tc_9 tc_60 rfl (by decide) (by decide) (by decide) (by simp only [ic_0, ic_8]; omega) (by simp only [ic_0, ic_8]; omega) (by decide) (by decide) dX2_copyFrom_143 (fun H locs hP hD hS => ?_)
  have hR := hR.cp (c0 := 9) (c1 := 60) (sp := (0 : Int32).toNatClampNeg) (dp := (0 : Int32).toNatClampNeg) (n := (8 : Int32).toNatClampNeg) (by decide +kernel)
  have hF := hF.cp (c0 := 9) (c1 := 60) (sp := (0 : Int32).toNatClampNeg) (dp := (0 : Int32).toNatClampNeg) (n := (8 : Int32).toNatClampNeg) (fun _ => rfl)
  have hK_N4 := sp_sgD sp_N4 hD hK_N4 (by decide)
  refine lv_aload_n F.1 F.2.1 dX2_copyFrom_146 rfl (lv_at hl 1 rfl) ?_
  refine a_getr F inX2 hP 4 14 tc_4 rfl rfl (by decide) q197 (fun _ h9 => h9) dX2_copyFrom_147 ?_
  refine a_ic F (0 : Int32) dX2_copyFrom_150 (by decide) ?_
  refine lv_aload_n F.1 F.2.1 dX2_copyFrom_151 rfl (lv_at hl 0 rfl) ?_
  refine a_getr F inX2 hP 55 14 tc_55 rfl rfl (by decide) q197 (fun _ h9 => h9) dX2_copyFrom_152 ?_
  refine a_ic F (0 : Int32) dX2_copyFrom_155 (by decide) ?_
  refine a_bp F (26 : Int32) dX2_copyFrom_156 (by decide) ?_
  refine a_cpyl F (hml.trans hl.1.symm) q706 q708 q707 q19 hP hD hS 10 61 tc_10 tc_61 rfl (by decide) (by decide) (by decide) (by simp only [ic_0, ic_26]; omega) (by simp only [ic_0, ic_26]; omega) (by decide) (by decide) dX2_copyFrom_158 (fun H locs hP hD hS => ?_)
  have hK_N4 := sp_sl sp_N4 hD hK_N4
  refine lv_aload_n F.1 F.2.1 dX2_copyFrom_161 rfl (lv_at hl 1 rfl) ?_
  refine a_getr F inX2 hP 4 15 tc_4 rfl rfl (by decide) q198 (fun _ h9 => h9) dX2_copyFrom_162 ?_
  refine a_ic F (0 : Int32) dX2_copyFrom_165 (by decide) ?_
  refine lv_aload_n F.1 F.2.1 dX2_copyFrom_166 rfl (lv_at hl 0 rfl) ?_
  refine a_getr F inX2 hP 55 15 tc_55 rfl rfl (by decide) q198 (fun _ h9 => h9) dX2_copyFrom_167 ?_
  refine a_ic F (0 : Int32) dX2_copyFrom_170 (by decide) ?_
  refine a_bp F (26 : Int32) dX2_copyFrom_171 (by decide) ?_
  refine a_cpyi F (hml.trans hl.1.symm) q706 q708 q707 q19 hP hD hS 11 62 tc_11 tc_62 rfl (by decide) (by decide) (by decide) (by simp only [ic_0, ic_26]; omega) (by simp only [ic_0, ic_26]; omega) (by decide) (by decide) dX2_copyFrom_173 (fun H locs hP hD hS => ?_)
  have hR := hR.cp (c0 := 11) (c1 := 62) (sp := (0 : Int32).toNatClampNeg) (dp := (0 : Int32).toNatClampNeg) (n := (26 : Int32).toNatClampNeg) (by decide +kernel)
  have hF := hF.cp (c0 := 11) (c1 := 62) (sp := (0 : Int32).toNatClampNeg) (dp := (0 : Int32).toNatClampNeg) (n := (26 : Int32).toNatClampNeg) (fun _ => rfl)
  have hK_N4 := sp_sgD sp_N4 hD hK_N4 (by decide)
  have hK_ES_55_4 := eq_cpD (n := 26) (by decide) rfl rfl rfl hD
  refine lv_aload_n F.1 F.2.1 dX2_copyFrom_176 rfl (lv_at hl 1 rfl) ?_
  refine a_getr F inX2 hP 4 16 tc_4 rfl rfl (by decide) q200 (fun _ h9 => h9) dX2_copyFrom_177 ?_
  refine a_ic F (0 : Int32) dX2_copyFrom_180 (by decide) ?_
  refine lv_aload_n F.1 F.2.1 dX2_copyFrom_181 rfl (lv_at hl 0 rfl) ?_
  refine a_getr F inX2 hP 55 16 tc_55 rfl rfl (by decide) q200 (fun _ h9 => h9) dX2_copyFrom_182 ?_
  refine a_ic F (0 : Int32) dX2_copyFrom_185 (by decide) ?_
  refine a_bp F (26 : Int32) dX2_copyFrom_186 (by decide) ?_
  refine a_cpyi F (hml.trans hl.1.symm) q706 q708 q707 q19 hP hD hS 12 63 tc_12 tc_63 rfl (by decide) (by decide) (by decide) (by simp only [ic_0, ic_26]; omega) (by simp only [ic_0, ic_26]; omega) (by decide) (by decide) dX2_copyFrom_188 (fun H locs hP hD hS => ?_)
  have hR := hR.cp (c0 := 12) (c1 := 63) (sp := (0 : Int32).toNatClampNeg) (dp := (0 : Int32).toNatClampNeg) (n := (26 : Int32).toNatClampNeg) (by decide +kernel)
  have hF := hF.cp (c0 := 12) (c1 := 63) (sp := (0 : Int32).toNatClampNeg) (dp := (0 : Int32).toNatClampNeg) (n := (26 : Int32).toNatClampNeg) (fun _ => rfl)
  have hK_ES_55_4 := sp_sgD sp_ES_55_4 hD hK_ES_55_4 (by decide)
  have hK_N4 := sp_sgD sp_N4 hD hK_N4 (by decide)
  have hK_N55 := nm_cp (a' := 62) (b' := 63) hK_N4 hK_ES_55_4 (eq_cpD (n := 26) (by decide) rfl rfl rfl hD)
  exact a_retv F hr hlocks hP hD hS dX2_copyFrom_191 ⟨hR, hF, hK_N55, hRR.symm.trans hC⟩

def f_X2_copyFrom_64_4 (u0 : ac_U) : ac_U := (cpI (cpI (cpL (cpI (cpI (cpI (cpI (cpI (pI (pI (pI (pI (pI (pI (pI (pI (pI u0 64 0 (u0.1 4 0)) 64 1 (u0.1 4 1)) 64 2 (u0.1 4 2)) 64 3 (u0.1 4 3)) 64 4 (u0.1 4 4)) 64 5 (u0.1 4 5)) 64 6 (u0.1 4 6)) 64 7 (u0.1 4 7)) 64 8 (u0.1 4 8)) 5 65 (0 : Int32).toNatClampNeg (0 : Int32).toNatClampNeg (8 : Int32).toNatClampNeg) 6 66 (0 : Int32).toNatClampNeg (0 : Int32).toNatClampNeg (6 : Int32).toNatClampNeg) 7 67 (0 : Int32).toNatClampNeg (0 : Int32).toNatClampNeg (4 : Int32).toNatClampNeg) 8 68 (0 : Int32).toNatClampNeg (0 : Int32).toNatClampNeg (64 : Int32).toNatClampNeg) 9 69 (0 : Int32).toNatClampNeg (0 : Int32).toNatClampNeg (8 : Int32).toNatClampNeg) 10 70 (0 : Int32).toNatClampNeg (0 : Int32).toNatClampNeg (26 : Int32).toNatClampNeg) 11 71 (0 : Int32).toNatClampNeg (0 : Int32).toNatClampNeg (26 : Int32).toNatClampNeg) 12 72 (0 : Int32).toNatClampNeg (0 : Int32).toNatClampNeg (26 : Int32).toNatClampNeg)
set_option maxHeartbeats 600000 in
set_option maxRecDepth 100000 in
theorem x_X2_copyFrom_64_4 (l : Launch) (dC : Nat → ClassId) (dI : Nat → Nat → Nat) (ad : Nat → Nat) (cA : Nat → ClassId) (nF : Nat) (u0 : ac_U)  (hR : ac_R rg u0) (hK_N4 : nmI 11 12 u0) : ac_Mv l yX2_copyFrom (.code yX2_copyFrom cX2_copyFrom 2 none :: TB) 1 (dC, dI) vwCl (ac_ty cA) ad cA (TT nF) [.ref (ad 64), .ref (ad 4)] u0 (fun (u : ac_U) => ac_R rg u ∧ ac_Fr [(64, some 0), (64, some 1), (64, some 2), (64, some 3), (64, some 4), (64, some 5), (64, some 6), (64, some 7), (64, some 8), (65, none), (66, none), (67, none), (68, none), (69, none), (71, none), (72, none)] u0 u ∧ nmI 71 72 u ∧ f_X2_copyFrom_64_4 u0 = u) := by
  refine ac_Mv.of (cc := cX2_copyFrom) (maxL := 2) (ret := none) (by decide) rfl (Nat.le_of_ble_eq_true rfl) ?_
  intro p e s m below meth c A ls F hml hr hlocks hA hP hD hS hl
  have F : ac_X p s m [.ref (ad 64), .ref (ad 4)].toArray c cX2_copyFrom RX2 TB (dC, dI) vwCl (ac_ty cA) := ⟨F.1, F.2.1, fun w h => F.2.2.1 w (List.mem_cons_of_mem _ h), F.2.2.2.1, F.2.2.2.2⟩
  have hl : lv_has ls 2 [(0, .ref (ad 64)), (1, .ref (ad 4))] := hl
  obtain ⟨RR, hRR⟩ : ∃ q, q = f_X2_copyFrom_64_4 u0 := ⟨_, rfl⟩
  have hF : ac_Fr [(64, some 0), (64, some 1), (64, some 2), (64, some 3), (64, some 4), (64, some 5), (64, some 6), (64, some 7), (64, some 8), (65, none), (66, none), (67, none), (68, none), (69, none), (71, none), (72, none)] u0 u0 := ac_Fr.rf
  have hC : RR = f_X2_copyFrom_64_4 u0 := hRR
  unfold f_X2_copyFrom_64_4 at hC
  refine lv_aload_n F.1 F.2.1 dX2_copyFrom_0 rfl (lv_at hl 0 rfl) ?_
  refine lv_aload_n F.1 F.2.1 dX2_copyFrom_1 rfl (lv_at hl 1 rfl) ?_
  have g1 : (4 : Int) ≤ (u0.1 4 0).toInt ∧ (u0.1 4 0).toInt ≤ 24 := hR 4 0
  refine a_geti F inX2 hP 4 0 tc_4 rfl rfl (by decide) q151 (fun _ h9 => h9) (v := (u0.1 4 0)) rfl dX2_copyFrom_2 ?_
  refine a_puti F inX2 tyX2 tyX2_ok nmX2 hP hD hS 64 0 tc_64 rfl rfl (by decide) q151 (fun _ h9 => h9) rfl (ty := .int) (tyX2_ok 0 (by decide)) rfl rfl dX2_copyFrom_5 (fun H locs hP hD hS => ?_)
  have hR := hR.si (c := 64) (k := 0) (v := (u0.1 4 0)) (by omega : (4 : Int) ≤ (u0.1 4 0).toInt ∧ (u0.1 4 0).toInt ≤ 24)
  have hF := hF.si (c := 64) (k := 0) (v := (u0.1 4 0)) rfl
  have hK_N4 := sp_sgD sp_N4 hD hK_N4 (by decide)
  refine lv_aload_n F.1 F.2.1 dX2_copyFrom_8 rfl (lv_at hl 0 rfl) ?_
  refine lv_aload_n F.1 F.2.1 dX2_copyFrom_9 rfl (lv_at hl 1 rfl) ?_
  have g2 : (0 : Int) ≤ (u0.1 4 1).toInt ∧ (u0.1 4 1).toInt ≤ 8 := hR 4 1
  refine a_geti F inX2 hP 4 1 tc_4 rfl rfl (by decide) q157 (fun _ h9 => h9) (v := (u0.1 4 1)) rfl dX2_copyFrom_10 ?_
  refine a_puti F inX2 tyX2 tyX2_ok nmX2 hP hD hS 64 1 tc_64 rfl rfl (by decide) q157 (fun _ h9 => h9) rfl (ty := .int) (tyX2_ok 1 (by decide)) rfl rfl dX2_copyFrom_13 (fun H locs hP hD hS => ?_)
  have hR := hR.si (c := 64) (k := 1) (v := (u0.1 4 1)) (by omega : (0 : Int) ≤ (u0.1 4 1).toInt ∧ (u0.1 4 1).toInt ≤ 8)
  have hF := hF.si (c := 64) (k := 1) (v := (u0.1 4 1)) rfl
  have hK_N4 := sp_sgD sp_N4 hD hK_N4 (by decide)
  refine lv_aload_n F.1 F.2.1 dX2_copyFrom_16 rfl (lv_at hl 0 rfl) ?_
  refine lv_aload_n F.1 F.2.1 dX2_copyFrom_17 rfl (lv_at hl 1 rfl) ?_
  have g3 : (0 : Int) ≤ (u0.1 4 2).toInt ∧ (u0.1 4 2).toInt ≤ 12 := hR 4 2
  refine a_geti F inX2 hP 4 2 tc_4 rfl rfl (by decide) q162 (fun _ h9 => h9) (v := (u0.1 4 2)) rfl dX2_copyFrom_18 ?_
  refine a_puti F inX2 tyX2 tyX2_ok nmX2 hP hD hS 64 2 tc_64 rfl rfl (by decide) q162 (fun _ h9 => h9) rfl (ty := .int) (tyX2_ok 2 (by decide)) rfl rfl dX2_copyFrom_21 (fun H locs hP hD hS => ?_)
  have hR := hR.si (c := 64) (k := 2) (v := (u0.1 4 2)) (by omega : (0 : Int) ≤ (u0.1 4 2).toInt ∧ (u0.1 4 2).toInt ≤ 12)
  have hF := hF.si (c := 64) (k := 2) (v := (u0.1 4 2)) rfl
  have hK_N4 := sp_sgD sp_N4 hD hK_N4 (by decide)
  refine lv_aload_n F.1 F.2.1 dX2_copyFrom_24 rfl (lv_at hl 0 rfl) ?_
  refine lv_aload_n F.1 F.2.1 dX2_copyFrom_25 rfl (lv_at hl 1 rfl) ?_
  have g4 : (0 : Int) ≤ (u0.1 4 3).toInt ∧ (u0.1 4 3).toInt ≤ 6 := hR 4 3
  refine a_geti F inX2 hP 4 3 tc_4 rfl rfl (by decide) q165 (fun _ h9 => h9) (v := (u0.1 4 3)) rfl dX2_copyFrom_26 ?_
  refine a_puti F inX2 tyX2 tyX2_ok nmX2 hP hD hS 64 3 tc_64 rfl rfl (by decide) q165 (fun _ h9 => h9) rfl (ty := .int) (tyX2_ok 3 (by decide)) rfl rfl dX2_copyFrom_29 (fun H locs hP hD hS => ?_)
  have hR := hR.si (c := 64) (k := 3) (v := (u0.1 4 3)) (by omega : (0 : Int) ≤ (u0.1 4 3).toInt ∧ (u0.1 4 3).toInt ≤ 6)
  have hF := hF.si (c := 64) (k := 3) (v := (u0.1 4 3)) rfl
  have hK_N4 := sp_sgD sp_N4 hD hK_N4 (by decide)
  refine lv_aload_n F.1 F.2.1 dX2_copyFrom_32 rfl (lv_at hl 0 rfl) ?_
  refine lv_aload_n F.1 F.2.1 dX2_copyFrom_33 rfl (lv_at hl 1 rfl) ?_
  have g5 : (0 : Int) ≤ (u0.1 4 4).toInt ∧ (u0.1 4 4).toInt ≤ 4 := hR 4 4
  refine a_geti F inX2 hP 4 4 tc_4 rfl rfl (by decide) q169 (fun _ h9 => h9) (v := (u0.1 4 4)) rfl dX2_copyFrom_34 ?_
  refine a_puti F inX2 tyX2 tyX2_ok nmX2 hP hD hS 64 4 tc_64 rfl rfl (by decide) q169 (fun _ h9 => h9) rfl (ty := .int) (tyX2_ok 4 (by decide)) rfl rfl dX2_copyFrom_37 (fun H locs hP hD hS => ?_)
  have hR := hR.si (c := 64) (k := 4) (v := (u0.1 4 4)) (by omega : (0 : Int) ≤ (u0.1 4 4).toInt ∧ (u0.1 4 4).toInt ≤ 4)
  have hF := hF.si (c := 64) (k := 4) (v := (u0.1 4 4)) rfl
  have hK_N4 := sp_sgD sp_N4 hD hK_N4 (by decide)
  refine lv_aload_n F.1 F.2.1 dX2_copyFrom_40 rfl (lv_at hl 0 rfl) ?_
  refine lv_aload_n F.1 F.2.1 dX2_copyFrom_41 rfl (lv_at hl 1 rfl) ?_
  have g6 : (0 : Int) ≤ (u0.1 4 5).toInt ∧ (u0.1 4 5).toInt ≤ 6 := hR 4 5
  refine a_geti F inX2 hP 4 5 tc_4 rfl rfl (by decide) q173 (fun _ h9 => h9) (v := (u0.1 4 5)) rfl dX2_copyFrom_42 ?_
  refine a_puti F inX2 tyX2 tyX2_ok nmX2 hP hD hS 64 5 tc_64 rfl rfl (by decide) q173 (fun _ h9 => h9) rfl (ty := .int) (tyX2_ok 5 (by decide)) rfl rfl dX2_copyFrom_45 (fun H locs hP hD hS => ?_)
  have hR := hR.si (c := 64) (k := 5) (v := (u0.1 4 5)) (by omega : (0 : Int) ≤ (u0.1 4 5).toInt ∧ (u0.1 4 5).toInt ≤ 6)
  have hF := hF.si (c := 64) (k := 5) (v := (u0.1 4 5)) rfl
  have hK_N4 := sp_sgD sp_N4 hD hK_N4 (by decide)
  refine lv_aload_n F.1 F.2.1 dX2_copyFrom_48 rfl (lv_at hl 0 rfl) ?_
  refine lv_aload_n F.1 F.2.1 dX2_copyFrom_49 rfl (lv_at hl 1 rfl) ?_
  have g7 : (0 : Int) ≤ (u0.1 4 6).toInt ∧ (u0.1 4 6).toInt ≤ 8 := hR 4 6
  refine a_geti F inX2 hP 4 6 tc_4 rfl rfl (by decide) q178 (fun _ h9 => h9) (v := (u0.1 4 6)) rfl dX2_copyFrom_50 ?_
  refine a_puti F inX2 tyX2 tyX2_ok nmX2 hP hD hS 64 6 tc_64 rfl rfl (by decide) q178 (fun _ h9 => h9) rfl (ty := .int) (tyX2_ok 6 (by decide)) rfl rfl dX2_copyFrom_53 (fun H locs hP hD hS => ?_)
  have hR := hR.si (c := 64) (k := 6) (v := (u0.1 4 6)) (by omega : (0 : Int) ≤ (u0.1 4 6).toInt ∧ (u0.1 4 6).toInt ≤ 8)
  have hF := hF.si (c := 64) (k := 6) (v := (u0.1 4 6)) rfl
  have hK_N4 := sp_sgD sp_N4 hD hK_N4 (by decide)
  refine lv_aload_n F.1 F.2.1 dX2_copyFrom_56 rfl (lv_at hl 0 rfl) ?_
  refine lv_aload_n F.1 F.2.1 dX2_copyFrom_57 rfl (lv_at hl 1 rfl) ?_
  have g8 : (0 : Int) ≤ (u0.1 4 7).toInt ∧ (u0.1 4 7).toInt ≤ 8 := hR 4 7
  refine a_geti F inX2 hP 4 7 tc_4 rfl rfl (by decide) q185 (fun _ h9 => h9) (v := (u0.1 4 7)) rfl dX2_copyFrom_58 ?_
  refine a_puti F inX2 tyX2 tyX2_ok nmX2 hP hD hS 64 7 tc_64 rfl rfl (by decide) q185 (fun _ h9 => h9) rfl (ty := .int) (tyX2_ok 7 (by decide)) rfl rfl dX2_copyFrom_61 (fun H locs hP hD hS => ?_)
  have hR := hR.si (c := 64) (k := 7) (v := (u0.1 4 7)) (by omega : (0 : Int) ≤ (u0.1 4 7).toInt ∧ (u0.1 4 7).toInt ≤ 8)
  have hF := hF.si (c := 64) (k := 7) (v := (u0.1 4 7)) rfl
  have hK_N4 := sp_sgD sp_N4 hD hK_N4 (by decide)
  refine lv_aload_n F.1 F.2.1 dX2_copyFrom_64 rfl (lv_at hl 0 rfl) ?_
  refine lv_aload_n F.1 F.2.1 dX2_copyFrom_65 rfl (lv_at hl 1 rfl) ?_
  have g9 : (0 : Int) ≤ (u0.1 4 8).toInt ∧ (u0.1 4 8).toInt ≤ 26 := hR 4 8
  refine a_geti F inX2 hP 4 8 tc_4 rfl rfl (by decide) q188 (fun _ h9 => h9) (v := (u0.1 4 8)) rfl dX2_copyFrom_66 ?_
  refine a_puti F inX2 tyX2 tyX2_ok nmX2 hP hD hS 64 8 tc_64 rfl rfl (by decide) q188 (fun _ h9 => h9) rfl (ty := .int) (tyX2_ok 8 (by decide)) rfl rfl dX2_copyFrom_69 (fun H locs hP hD hS => ?_)
  have hR := hR.si (c := 64) (k := 8) (v := (u0.1 4 8)) (by omega : (0 : Int) ≤ (u0.1 4 8).toInt ∧ (u0.1 4 8).toInt ≤ 26)
  have hF := hF.si (c := 64) (k := 8) (v := (u0.1 4 8)) rfl
  have hK_N4 := sp_sgD sp_N4 hD hK_N4 (by decide)
  refine lv_aload_n F.1 F.2.1 dX2_copyFrom_72 rfl (lv_at hl 1 rfl) ?_
  refine a_getr F inX2 hP 4 9 tc_4 rfl rfl (by decide) q189 (fun _ h9 => h9) dX2_copyFrom_73 ?_
  refine a_ic F (0 : Int32) dX2_copyFrom_76 (by decide) ?_
  refine lv_aload_n F.1 F.2.1 dX2_copyFrom_77 rfl (lv_at hl 0 rfl) ?_
  refine a_getr F inX2 hP 64 9 tc_64 rfl rfl (by decide) q189 (fun _ h9 => h9) dX2_copyFrom_78 ?_
  refine a_ic F (0 : Int32) dX2_copyFrom_81 (by decide) ?_
  refine a_bp F (8 : Int32) dX2_copyFrom_82 (by decide) ?_
  refine a_cpyi F (hml.trans hl.1.symm) q706 q708 q707 q19 hP hD hS 5 65 tc_5 tc_65 rfl (by decide) (by decide) (by decide) (by simp only [ic_0, ic_8]; omega) (by simp only [ic_0, ic_8]; omega) (by decide) (by decide) dX2_copyFrom_84 (fun H locs hP hD hS => ?_)
  have hR := hR.cp (c0 := 5) (c1 := 65) (sp := (0 : Int32).toNatClampNeg) (dp := (0 : Int32).toNatClampNeg) (n := (8 : Int32).toNatClampNeg) (by decide +kernel)
  have hF := hF.cp (c0 := 5) (c1 := 65) (sp := (0 : Int32).toNatClampNeg) (dp := (0 : Int32).toNatClampNeg) (n := (8 : Int32).toNatClampNeg) (fun _ => rfl)
  have hK_N4 := sp_sgD sp_N4 hD hK_N4 (by decide)
  refine lv_aload_n F.1 F.2.1 dX2_copyFrom_87 rfl (lv_at hl 1 rfl) ?_
  refine a_getr F inX2 hP 4 10 tc_4 rfl rfl (by decide) q190 (fun _ h9 => h9) dX2_copyFrom_88 ?_
  refine a_ic F (0 : Int32) dX2_copyFrom_91 (by decide) ?_
  refine lv_aload_n F.1 F.2.1 dX2_copyFrom_92 rfl (lv_at hl 0 rfl) ?_
  refine a_getr F inX2 hP 64 10 tc_64 rfl rfl (by decide) q190 (fun _ h9 => h9) dX2_copyFrom_93 ?_
  refine a_ic F (0 : Int32) dX2_copyFrom_96 (by decide) ?_
  refine a_bp F (6 : Int32) dX2_copyFrom_97 (by decide) ?_
  refine a_cpyi F (hml.trans hl.1.symm) q706 q708 q707 q19 hP hD hS 6 66 tc_6 tc_66 rfl (by decide) (by decide) (by decide) (by simp only [ic_0, ic_6]; omega) (by simp only [ic_0, ic_6]; omega) (by decide) (by decide) dX2_copyFrom_99 (fun H locs hP hD hS => ?_)
  have hR := hR.cp (c0 := 6) (c1 := 66) (sp := (0 : Int32).toNatClampNeg) (dp := (0 : Int32).toNatClampNeg) (n := (6 : Int32).toNatClampNeg) (by decide +kernel)
  have hF := hF.cp (c0 := 6) (c1 := 66) (sp := (0 : Int32).toNatClampNeg) (dp := (0 : Int32).toNatClampNeg) (n := (6 : Int32).toNatClampNeg) (fun _ => rfl)
  have hK_N4 := sp_sgD sp_N4 hD hK_N4 (by decide)
  refine lv_aload_n F.1 F.2.1 dX2_copyFrom_102 rfl (lv_at hl 1 rfl) ?_
  refine a_getr F inX2 hP 4 11 tc_4 rfl rfl (by decide) q193 (fun _ h9 => h9) dX2_copyFrom_103 ?_
  refine a_ic F (0 : Int32) dX2_copyFrom_106 (by decide) ?_
  refine lv_aload_n F.1 F.2.1 dX2_copyFrom_107 rfl (lv_at hl 0 rfl) ?_
  refine a_getr F inX2 hP 64 11 tc_64 rfl rfl (by decide) q193 (fun _ h9 => h9) dX2_copyFrom_108 ?_
  refine a_ic F (0 : Int32) dX2_copyFrom_111 (by decide) ?_
  refine a_ic F (4 : Int32) dX2_copyFrom_112 (by decide) ?_
  refine a_cpyi F (hml.trans hl.1.symm) q706 q708 q707 q19 hP hD hS 7 67 tc_7 tc_67 rfl (by decide) (by decide) (by decide) (by simp only [ic_0, ic_4]; omega) (by simp only [ic_0, ic_4]; omega) (by decide) (by decide) dX2_copyFrom_113 (fun H locs hP hD hS => ?_)
  have hR := hR.cp (c0 := 7) (c1 := 67) (sp := (0 : Int32).toNatClampNeg) (dp := (0 : Int32).toNatClampNeg) (n := (4 : Int32).toNatClampNeg) (by decide +kernel)
  have hF := hF.cp (c0 := 7) (c1 := 67) (sp := (0 : Int32).toNatClampNeg) (dp := (0 : Int32).toNatClampNeg) (n := (4 : Int32).toNatClampNeg) (fun _ => rfl)
  have hK_N4 := sp_sgD sp_N4 hD hK_N4 (by decide)
  refine lv_aload_n F.1 F.2.1 dX2_copyFrom_116 rfl (lv_at hl 1 rfl) ?_
  refine a_getr F inX2 hP 4 12 tc_4 rfl rfl (by decide) q195 (fun _ h9 => h9) dX2_copyFrom_117 ?_
  refine a_ic F (0 : Int32) dX2_copyFrom_120 (by decide) ?_
  refine lv_aload_n F.1 F.2.1 dX2_copyFrom_121 rfl (lv_at hl 0 rfl) ?_
  refine a_getr F inX2 hP 64 12 tc_64 rfl rfl (by decide) q195 (fun _ h9 => h9) dX2_copyFrom_122 ?_
  refine a_ic F (0 : Int32) dX2_copyFrom_125 (by decide) ?_
  refine a_bp F (64 : Int32) dX2_copyFrom_126 (by decide) ?_
  refine a_cpyi F (hml.trans hl.1.symm) q706 q708 q707 q19 hP hD hS 8 68 tc_8 tc_68 rfl (by decide) (by decide) (by decide) (by simp only [ic_0, ic_64]; omega) (by simp only [ic_0, ic_64]; omega) (by decide) (by decide) dX2_copyFrom_128 (fun H locs hP hD hS => ?_)
  have hR := hR.cp (c0 := 8) (c1 := 68) (sp := (0 : Int32).toNatClampNeg) (dp := (0 : Int32).toNatClampNeg) (n := (64 : Int32).toNatClampNeg) (by decide +kernel)
  have hF := hF.cp (c0 := 8) (c1 := 68) (sp := (0 : Int32).toNatClampNeg) (dp := (0 : Int32).toNatClampNeg) (n := (64 : Int32).toNatClampNeg) (fun _ => rfl)
  have hK_N4 := sp_sgD sp_N4 hD hK_N4 (by decide)
  refine lv_aload_n F.1 F.2.1 dX2_copyFrom_131 rfl (lv_at hl 1 rfl) ?_
  refine a_getr F inX2 hP 4 13 tc_4 rfl rfl (by decide) q196 (fun _ h9 => h9) dX2_copyFrom_132 ?_
  refine a_ic F (0 : Int32) dX2_copyFrom_135 (by decide) ?_
  refine lv_aload_n F.1 F.2.1 dX2_copyFrom_136 rfl (lv_at hl 0 rfl) ?_
  refine a_getr F inX2 hP 64 13 tc_64 rfl rfl (by decide) q196 (fun _ h9 => h9) dX2_copyFrom_137 ?_
  refine a_ic F (0 : Int32) dX2_copyFrom_140 (by decide) ?_
  refine a_bp F (8 : Int32) dX2_copyFrom_141 (by decide) ?_
  refine a_cpyi F (hml.trans hl.1.symm) q706 q708 q707 q19 hP hD hS 9 69 tc_9 tc_69 rfl (by decide) (by decide) (by decide) (by simp only [ic_0, ic_8]; omega) (by simp only [ic_0, ic_8]; omega) (by decide) (by decide) dX2_copyFrom_143 (fun H locs hP hD hS => ?_)
  have hR := hR.cp (c0 := 9) (c1 := 69) (sp := (0 : Int32).toNatClampNeg) (dp := (0 : Int32).toNatClampNeg) (n := (8 : Int32).toNatClampNeg) (by decide +kernel)
  have hF := hF.cp (c0 := 9) (c1 := 69) (sp := (0 : Int32).toNatClampNeg) (dp := (0 : Int32).toNatClampNeg) (n := (8 : Int32).toNatClampNeg) (fun _ => rfl)
  have hK_N4 := sp_sgD sp_N4 hD hK_N4 (by decide)
  refine lv_aload_n F.1 F.2.1 dX2_copyFrom_146 rfl (lv_at hl 1 rfl) ?_
  refine a_getr F inX2 hP 4 14 tc_4 rfl rfl (by decide) q197 (fun _ h9 => h9) dX2_copyFrom_147 ?_
  refine a_ic F (0 : Int32) dX2_copyFrom_150 (by decide) ?_
  refine lv_aload_n F.1 F.2.1 dX2_copyFrom_151 rfl (lv_at hl 0 rfl) ?_
  refine a_getr F inX2 hP 64 14 tc_64 rfl rfl (by decide) q197 (fun _ h9 => h9) dX2_copyFrom_152 ?_
  refine a_ic F (0 : Int32) dX2_copyFrom_155 (by decide) ?_
  refine a_bp F (26 : Int32) dX2_copyFrom_156 (by decide) ?_
  refine a_cpyl F (hml.trans hl.1.symm) q706 q708 q707 q19 hP hD hS 10 70 tc_10 tc_70 rfl (by decide) (by decide) (by decide) (by simp only [ic_0, ic_26]; omega) (by simp only [ic_0, ic_26]; omega) (by decide) (by decide) dX2_copyFrom_158 (fun H locs hP hD hS => ?_)
  have hK_N4 := sp_sl sp_N4 hD hK_N4
  refine lv_aload_n F.1 F.2.1 dX2_copyFrom_161 rfl (lv_at hl 1 rfl) ?_
  refine a_getr F inX2 hP 4 15 tc_4 rfl rfl (by decide) q198 (fun _ h9 => h9) dX2_copyFrom_162 ?_
  refine a_ic F (0 : Int32) dX2_copyFrom_165 (by decide) ?_
  refine lv_aload_n F.1 F.2.1 dX2_copyFrom_166 rfl (lv_at hl 0 rfl) ?_
  refine a_getr F inX2 hP 64 15 tc_64 rfl rfl (by decide) q198 (fun _ h9 => h9) dX2_copyFrom_167 ?_
  refine a_ic F (0 : Int32) dX2_copyFrom_170 (by decide) ?_
  refine a_bp F (26 : Int32) dX2_copyFrom_171 (by decide) ?_
  refine a_cpyi F (hml.trans hl.1.symm) q706 q708 q707 q19 hP hD hS 11 71 tc_11 tc_71 rfl (by decide) (by decide) (by decide) (by simp only [ic_0, ic_26]; omega) (by simp only [ic_0, ic_26]; omega) (by decide) (by decide) dX2_copyFrom_173 (fun H locs hP hD hS => ?_)
  have hR := hR.cp (c0 := 11) (c1 := 71) (sp := (0 : Int32).toNatClampNeg) (dp := (0 : Int32).toNatClampNeg) (n := (26 : Int32).toNatClampNeg) (by decide +kernel)
  have hF := hF.cp (c0 := 11) (c1 := 71) (sp := (0 : Int32).toNatClampNeg) (dp := (0 : Int32).toNatClampNeg) (n := (26 : Int32).toNatClampNeg) (fun _ => rfl)
  have hK_N4 := sp_sgD sp_N4 hD hK_N4 (by decide)
  have hK_ES_64_4 := eq_cpD (n := 26) (by decide) rfl rfl rfl hD
  refine lv_aload_n F.1 F.2.1 dX2_copyFrom_176 rfl (lv_at hl 1 rfl) ?_
  refine a_getr F inX2 hP 4 16 tc_4 rfl rfl (by decide) q200 (fun _ h9 => h9) dX2_copyFrom_177 ?_
  refine a_ic F (0 : Int32) dX2_copyFrom_180 (by decide) ?_
  refine lv_aload_n F.1 F.2.1 dX2_copyFrom_181 rfl (lv_at hl 0 rfl) ?_
  refine a_getr F inX2 hP 64 16 tc_64 rfl rfl (by decide) q200 (fun _ h9 => h9) dX2_copyFrom_182 ?_
  refine a_ic F (0 : Int32) dX2_copyFrom_185 (by decide) ?_
  refine a_bp F (26 : Int32) dX2_copyFrom_186 (by decide) ?_
  refine a_cpyi F (hml.trans hl.1.symm) q706 q708 q707 q19 hP hD hS 12 72 tc_12 tc_72 rfl (by decide) (by decide) (by decide) (by simp only [ic_0, ic_26]; omega) (by simp only [ic_0, ic_26]; omega) (by decide) (by decide) dX2_copyFrom_188 (fun H locs hP hD hS => ?_)
  have hR := hR.cp (c0 := 12) (c1 := 72) (sp := (0 : Int32).toNatClampNeg) (dp := (0 : Int32).toNatClampNeg) (n := (26 : Int32).toNatClampNeg) (by decide +kernel)
  have hF := hF.cp (c0 := 12) (c1 := 72) (sp := (0 : Int32).toNatClampNeg) (dp := (0 : Int32).toNatClampNeg) (n := (26 : Int32).toNatClampNeg) (fun _ => rfl)
  have hK_ES_64_4 := sp_sgD sp_ES_64_4 hD hK_ES_64_4 (by decide)
  have hK_N4 := sp_sgD sp_N4 hD hK_N4 (by decide)
  have hK_N64 := nm_cp (a' := 71) (b' := 72) hK_N4 hK_ES_64_4 (eq_cpD (n := 26) (by decide) rfl rfl rfl hD)
  exact a_retv F hr hlocks hP hD hS dX2_copyFrom_191 ⟨hR, hF, hK_N64, hRR.symm.trans hC⟩
def K_X2_frogPlaces_4_4_b (B4 : Int32 → Int32 → Int32) (u0 : ac_U) (x1 : Int32) (x2 : Int32) : Int32 := (if (u0.1 4 3).toInt ≤ x2.toInt then x1 else (vl (u0.1 6 x2.toNatClampNeg) (fun (v3 : Int32) => (vl ((1 : Int32) <<< (v3 &&& 31)) (fun (v4 : Int32) => (vl (x1 ||| v4) (fun (v5 : Int32) => (vl (x2 + Int32.ofInt (1)) (fun (v6 : Int32) => (B4 v5 v6))))))))))
def K_X2_frogPlaces_4_4 (u0 : ac_U) : Nat → Int32 → Int32 → Int32
  | 0 => fun x1 x2 => 0
  | n + 1 => fun x1 x2 => K_X2_frogPlaces_4_4_b (K_X2_frogPlaces_4_4 u0 n) u0 x1 x2
def f_X2_frogPlaces_4 (u0 : ac_U) : Int32 := (K_X2_frogPlaces_4_4 u0 8 (0 : Int32) (0 : Int32))
set_option maxHeartbeats 600000 in
set_option maxRecDepth 100000 in
theorem x_X2_frogPlaces_4 (l : Launch) (dC : Nat → ClassId) (dI : Nat → Nat → Nat) (ad : Nat → Nat) (cA : Nat → ClassId) (nF : Nat) (u0 : ac_U)  (hR : ac_R rg u0) : ac_Mi l yX2_frogPlaces (.code yX2_frogPlaces cX2_frogPlaces 3 (some .int) :: TB) 1 (dC, dI) vwCl (ac_ty cA) ad cA (TT nF) [.ref (ad 4)] u0 (fun (r : Int32) (u : ac_U) => u = u0 ∧ ((0 : Int) ≤ r.toInt ∧ r.toInt ≤ 255) ∧ f_X2_frogPlaces_4 u0 = r) := by
  refine ac_Mi.of (cc := cX2_frogPlaces) (maxL := 3) (ret := (some .int)) (by decide) rfl (Nat.le_of_ble_eq_true rfl) ?_
  intro p e s m below meth c A ls F hml hr hlocks hA hP hD hS hl
  have F : ac_X p s m [.ref (ad 4)].toArray c cX2_frogPlaces RX2 TB (dC, dI) vwCl (ac_ty cA) := ⟨F.1, F.2.1, fun w h => F.2.2.1 w (List.mem_cons_of_mem _ h), F.2.2.2.1, F.2.2.2.2⟩
  have hl : lv_has ls 3 [(0, .ref (ad 4))] := hl
  obtain ⟨RR, hRR⟩ : ∃ q, q = f_X2_frogPlaces_4 u0 := ⟨_, rfl⟩
  have L4 : ∀ (n4 : Nat) (x1 : Int32) (x2 : Int32) (H : Heap) (locs : List Loc) (ls : Array Slot), 6 - x2.toInt < (n4 : Int) → (0 : Int) ≤ x1.toInt ∧ x1.toInt ≤ 255 → (0 : Int) ≤ x2.toInt ∧ x2.toInt ≤ 6 → RR = (K_X2_frogPlaces_4_4 u0 n4 x1 x2) → va_P (dC, dI) vwCl (ac_w ad cA (TT nF) u0) H → va_D A (ac_w ad cA (TT nF) u0) → va_S A s.heap H locs → lv_has ls 3 [(0, .ref (ad 4)), (1, .int x1), (2, .int x2)] → W p l e (ac_rm 1) s m [.ref (ad 4)].toArray below meth c H locs 0 0 (MQ below (va_Qi (fun (r : Int32) (u : ac_U) => u = u0 ∧ ((0 : Int) ≤ r.toInt ∧ r.toInt ≤ 255) ∧ f_X2_frogPlaces_4 u0 = r) (ac_B (dC, dI) vwCl (ac_ty cA) ad cA (TT nF) A) A) [.ref (ad 4)].toArray s 0 0 A) (F0 m 4 ls []) := by
    intro n4
    induction n4 with
    | zero => intro x1 x2 H locs ls hn4 f0 f1 hC hP hD hS hl; exfalso; omega
    | succ n4 ih4 =>
      intro x1 x2 H locs ls hn4 f0 f1 hC hP hD hS hl
      have hC : RR = K_X2_frogPlaces_4_4_b (K_X2_frogPlaces_4_4 u0 n4) u0 x1 x2 := hC
      unfold K_X2_frogPlaces_4_4_b at hC
      refine lv_iload_n F.1 F.2.1 dX2_frogPlaces_4 rfl (lv_at hl 2 rfl) ?_
      refine lv_aload_n F.1 F.2.1 dX2_frogPlaces_5 rfl (lv_at hl 0 rfl) ?_
      have g1 : (0 : Int) ≤ (u0.1 4 3).toInt ∧ (u0.1 4 3).toInt ≤ 6 := hR 4 3
      refine a_geti F inX2 hP 4 3 tc_4 rfl rfl (by decide) q165 (fun _ h9 => h9) (v := (u0.1 4 3)) rfl dX2_frogPlaces_6 ?_
      refine b_ge F 29 dX2_frogPlaces_9 (by decide) rfl rfl (fun c2 => ?_) (fun c2 => ?_)
      · have hC := hC.trans (if_pos c2)
        refine lv_iload_n F.1 F.2.1 dX2_frogPlaces_29 rfl (lv_at hl 1 rfl) ?_
        exact a_reti F hr hlocks hP hD hS dX2_frogPlaces_30 ⟨rfl, (by omega : (0 : Int) ≤ x1.toInt ∧ x1.toInt ≤ 255), hRR.symm.trans hC⟩
      · have hC := hC.trans (if_neg (by omega))
        refine lv_iload_n F.1 F.2.1 dX2_frogPlaces_12 rfl (lv_at hl 1 rfl) ?_
        refine a_ic F (1 : Int32) dX2_frogPlaces_13 (by decide) ?_
        refine lv_aload_n F.1 F.2.1 dX2_frogPlaces_14 rfl (lv_at hl 0 rfl) ?_
        refine a_getr F inX2 hP 4 10 tc_4 rfl rfl (by decide) q190 (fun _ h9 => h9) dX2_frogPlaces_15 ?_
        refine lv_iload_n F.1 F.2.1 dX2_frogPlaces_18 rfl (lv_at hl 2 rfl) ?_
        refine a_iald F hP 6 tc_6 rfl (i_in rfl (by omega)) dX2_frogPlaces_19 (fun v3 ev3 => ?_)
        have hC := vl_eq hC ev3.symm
        have hv3 : (0 : Int) ≤ v3.toInt ∧ v3.toInt ≤ 7 := ev3 ▸ hR 6 _
        refine a_ishl1X F dX2_frogPlaces_20 rfl (lo := 0) (hi := 7) (by omega) (by decide) (fun v4 hv4 yv4 => ?_)
        have hv4 : (1 : Int) ≤ v4.toInt ∧ v4.toInt ≤ 128 := hv4
        have hC := vl_eq hC yv4
        refine a_iorBX F dX2_frogPlaces_21 rfl rfl (n := 8) (m' := 256) rfl (by decide) (by omega) (by omega) (fun v5 hv5 yv5 => ?_)
        have hC := vl_eq hC yv5
        refine lv_istore_n (lv' := [(1, .int v5), (0, .ref (ad 4)), (2, .int x2)]) F.1 F.2.1 dX2_frogPlaces_22 rfl hl (by decide) rfl (fun ls hl => ?_)
        refine a_iincX F (k := 2) (fun v6 => [(2, .int v6), (1, .int v5), (0, .ref (ad 4))]) dX2_frogPlaces_23 hl rfl rfl (by decide) (by omega) (by decide) (fun _ => rfl) (fun v6 ls hv6 yv6 hl => ?_)
        have hC := vl_eq hC yv6
        refine lv_goto (tgt := 4) F.1 F.2.1 dX2_frogPlaces_26 (by decide) ?_
        exact ih4 v5 v6 _ _ _ (by omega) (by omega) (by omega) hC hP hD hS (lv_sub hl [2, 1, 0] rfl)
  have hC : RR = f_X2_frogPlaces_4 u0 := hRR
  unfold f_X2_frogPlaces_4 at hC
  refine a_ic F (0 : Int32) dX2_frogPlaces_0 (by decide) ?_
  refine lv_istore_n (lv' := [(1, .int (0 : Int32)), (0, .ref (ad 4))]) F.1 F.2.1 dX2_frogPlaces_1 rfl hl (by decide) rfl (fun ls hl => ?_)
  refine a_ic F (0 : Int32) dX2_frogPlaces_2 (by decide) ?_
  refine lv_istore_n (lv' := [(2, .int (0 : Int32)), (1, .int (0 : Int32)), (0, .ref (ad 4))]) F.1 F.2.1 dX2_frogPlaces_3 rfl hl (by decide) rfl (fun ls hl => ?_)
  exact L4 8 (0 : Int32) (0 : Int32) _ _ _ (by decide) (by decide) (by decide) hC hP hD hS (lv_sub hl [2, 1, 0] rfl)

def f_X2_dryBits_4 (u0 : ac_U) : Int32 := (vl ((1 : Int32) <<< ((u0.1 4 1) &&& 31)) (fun (v2 : Int32) => (vl (v2 - (1 : Int32)) (fun (v3 : Int32) => (vl (f_X2_frogPlaces_4 u0) (fun (r4 : Int32) => (vl (r4 ^^^ (-1 : Int32)) (fun (v5 : Int32) => (vl (v3 &&& v5) (fun (v6 : Int32) => v6))))))))))
set_option maxHeartbeats 600000 in
set_option maxRecDepth 100000 in
theorem x_X2_dryBits_4 (l : Launch) (dC : Nat → ClassId) (dI : Nat → Nat → Nat) (ad : Nat → Nat) (cA : Nat → ClassId) (nF : Nat) (u0 : ac_U)  (hR : ac_R rg u0) : ac_Mi l yX2_dryBits (.code yX2_dryBits cX2_dryBits 1 (some .int) :: TB) 2 (dC, dI) vwCl (ac_ty cA) ad cA (TT nF) [.ref (ad 4)] u0 (fun (r : Int32) (u : ac_U) => u = u0 ∧ ((0 : Int) ≤ r.toInt ∧ r.toInt ≤ 255) ∧ f_X2_dryBits_4 u0 = r) := by
  refine ac_Mi.of (cc := cX2_dryBits) (maxL := 1) (ret := (some .int)) (by decide) rfl (Nat.le_of_ble_eq_true rfl) ?_
  intro p e s m below meth c A ls F hml hr hlocks hA hP hD hS hl
  have F : ac_X p s m [.ref (ad 4)].toArray c cX2_dryBits RX2 TB (dC, dI) vwCl (ac_ty cA) := ⟨F.1, F.2.1, fun w h => F.2.2.1 w (List.mem_cons_of_mem _ h), F.2.2.2.1, F.2.2.2.2⟩
  have hl : lv_has ls 1 [(0, .ref (ad 4))] := hl
  obtain ⟨RR, hRR⟩ : ∃ q, q = f_X2_dryBits_4 u0 := ⟨_, rfl⟩
  have hC : RR = f_X2_dryBits_4 u0 := hRR
  unfold f_X2_dryBits_4 at hC
  refine a_ic F (1 : Int32) dX2_dryBits_0 (by decide) ?_
  refine lv_aload_n F.1 F.2.1 dX2_dryBits_1 rfl (lv_at hl 0 rfl) ?_
  have g1 : (0 : Int) ≤ (u0.1 4 1).toInt ∧ (u0.1 4 1).toInt ≤ 8 := hR 4 1
  refine a_geti F inX2 hP 4 1 tc_4 rfl rfl (by decide) q157 (fun _ h9 => h9) (v := (u0.1 4 1)) rfl dX2_dryBits_2 ?_
  refine a_ishl1X F dX2_dryBits_5 rfl (lo := 0) (hi := 8) (by omega) (by decide) (fun v2 hv2 yv2 => ?_)
  have hv2 : (1 : Int) ≤ v2.toInt ∧ v2.toInt ≤ 256 := hv2
  have hC := vl_eq hC yv2
  refine a_ic F (1 : Int32) dX2_dryBits_6 (by decide) ?_
  refine a_isubX F dX2_dryBits_7 rfl ic_1 (by omega) (fun v3 hv3 yv3 => ?_)
  have hC := vl_eq hC yv3
  refine lv_aload_n F.1 F.2.1 dX2_dryBits_8 rfl (lv_at hl 0 rfl) ?_
  refine a_Vi F hml hl.1 hA hP hD hS (As := []) (x_X2_frogPlaces_4 l dC dI ad cA nF _  hR) (cs_RX2_85 (d := 1) F.2.2.1 (by decide)) tc_4 rfl rfl rfl rfl (Nat.le_of_ble_eq_true rfl) dX2_dryBits_9 ⟨Nat.le_refl 0, Nat.le_refl 0⟩ (fun r4 uN4 H locs hq hP hD hS => ?_)
  obtain ⟨hu4, gr4, hz4⟩ := hq
  rw [hu4] at hP hD
  have hC := vl_eq hC hz4.symm
  refine a_ic F (-1 : Int32) dX2_dryBits_12 (by decide) ?_
  refine a_ixorUX F dX2_dryBits_13 (fun v5 yv5 => ?_)
  have hC := vl_eq hC yv5
  refine a_iandLX F dX2_dryBits_14 rfl (by omega) (fun v6 hv6 yv6 => ?_)
  have hC := vl_eq hC yv6
  exact a_reti F hr hlocks hP hD hS dX2_dryBits_15 ⟨rfl, (by omega : (0 : Int) ≤ v6.toInt ∧ v6.toInt ≤ 255), hRR.symm.trans hC⟩

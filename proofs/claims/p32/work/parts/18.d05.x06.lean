
def f_X3_readFrog_22 (u0 : ac_U) : ac_U × Int32 := (if (u0.1 13 3).toInt < (6 : Int) then (bd (f_X10_takeKnown_1_13 u0 (0 : Int32)) (fun (u3 : ac_U) (r3 : Int32) => (if r3.toInt ≠ 0 then (vl (f_X2_addFrog_13 u3 (u3.1 1 9)) (fun (u6 : ac_U) => (bd (f_X10_takeSign_1 u6 (59 : Int32)) (fun (u7 : ac_U) (r7 : Int32) => (u7, r7))))) else (u3, (0 : Int32))))) else (bd (f_X10_fail_1 u0 (4 : Int32)) (fun (u8 : ac_U) (r8 : Int32) => (u8, r8))))
set_option maxHeartbeats 600000 in
set_option maxRecDepth 100000 in
theorem x_X3_readFrog_22 (l : Launch) (dC : Nat → ClassId) (dI : Nat → Nat → Nat) (ad : Nat → Nat) (cA : Nat → ClassId) (nF : Nat) (u0 : ac_U)  (hR : ac_R rg u0) (hK_N13 : nmI 20 21 u0) : ac_Mi l yX3_readFrog (.code yX3_readFrog cX3_readFrog 1 (some .boolean) :: TB) 5 (dC, dI) vwCl (ac_ty cA) ad cA (TT nF) [.ref (ad 22)] u0 (fun (r : Int32) (u : ac_U) => ac_R rg u ∧ ac_Fr [(1, some 4), (1, some 5), (1, some 6), (1, some 8), (1, some 9), (1, some 10), (1, some 11), (13, some 3), (15, none)] u0 u ∧ ((0 : Int) ≤ r.toInt ∧ r.toInt ≤ 1) ∧ nmI 20 21 u ∧ f_X3_readFrog_22 u0 = (u, r)) := by
  refine ac_Mi.of (cc := cX3_readFrog) (maxL := 1) (ret := (some .boolean)) (by decide) rfl (Nat.le_of_ble_eq_true rfl) ?_
  intro p e s m below meth c A ls F hml hr hlocks hA hP hD hS hl
  have F : ac_X p s m [.ref (ad 22)].toArray c cX3_readFrog RX3 TB (dC, dI) vwCl (ac_ty cA) := ⟨F.1, F.2.1, fun w h => F.2.2.1 w (List.mem_cons_of_mem _ h), F.2.2.2.1, F.2.2.2.2⟩
  have hl : lv_has ls 1 [(0, .ref (ad 22))] := hl
  obtain ⟨RR, hRR⟩ : ∃ q, q = f_X3_readFrog_22 u0 := ⟨_, rfl⟩
  have hF : ac_Fr [(1, some 4), (1, some 5), (1, some 6), (1, some 8), (1, some 9), (1, some 10), (1, some 11), (13, some 3), (15, none)] u0 u0 := ac_Fr.rf
  have hC : RR = f_X3_readFrog_22 u0 := hRR
  unfold f_X3_readFrog_22 at hC
  refine lv_aload_n F.1 F.2.1 dX3_readFrog_0 rfl (lv_at hl 0 rfl) ?_
  refine a_getr F inX3 hP 22 1 tc_22 rfl rfl (by decide) q245 (fun _ h9 => h9) dX3_readFrog_1 ?_
  have g1 : (0 : Int) ≤ (u0.1 13 3).toInt ∧ (u0.1 13 3).toInt ≤ 6 := hR 13 3
  refine a_geti F inX2 hP 13 3 tc_13 rfl rfl (by decide) q166 (fun _ h9 => h9) (v := (u0.1 13 3)) rfl dX3_readFrog_4 ?_
  refine a_bp F (6 : Int32) dX3_readFrog_7 (by decide) ?_
  refine b_lt F 21 dX3_readFrog_9 (by decide) rfl ic_6 (fun c2 => ?_) (fun c2 => ?_)
  · have hC := hC.trans (if_pos c2)
    refine lv_aload_n F.1 F.2.1 dX3_readFrog_21 rfl (lv_at hl 0 rfl) ?_
    refine a_getr F inX3 hP 22 0 tc_22 rfl rfl (by decide) q244 (fun _ h9 => h9) dX3_readFrog_22 ?_
    refine lv_aload_n F.1 F.2.1 dX3_readFrog_25 rfl (lv_at hl 0 rfl) ?_
    refine a_getr F inX3 hP 22 1 tc_22 rfl rfl (by decide) q245 (fun _ h9 => h9) dX3_readFrog_26 ?_
    refine a_ic F (0 : Int32) dX3_readFrog_29 (by decide) ?_
    refine a_Vi F hml hl.1 hA hP hD hS (As := [.ref (ad 13), .int (0 : Int32)]) (x_X10_takeKnown_1_13 l dC dI ad cA nF _ (0 : Int32) hR (by decide) hK_N13) (cs_RX3_114 (d := 4) F.2.2.1 (by decide)) tc_1 rfl rfl rfl rfl (Nat.le_of_ble_eq_true rfl) dX3_readFrog_30 ⟨Nat.le_refl 0, Nat.le_refl 0⟩ (fun r3 u3 H locs hq hP hD hS => ?_)
    obtain ⟨hR, hF3, gr3, xr3, hz3⟩ := hq
    have hF := hF.tr hF3 (by decide)
    have hK_N13 := sp_fr sp_N13 hF3 (by decide) hK_N13
    have g4 : (0 : Int) ≤ (u3.1 1 9).toInt ∧ (u3.1 1 9).toInt ≤ 7 := hR 1 9
    have xr3 : r3.toInt ≠ 0 → (0 : Int) = 1 → (u3.1 1 9).toInt ≤ 3 := xr3
    have hC := bd_eq hC hz3
    refine z_ne F 38 dX3_readFrog_33 (by decide) rfl (fun c5 => ?_) (fun c5 => ?_)
    · have hC := hC.trans (if_pos c5)
      refine lv_aload_n F.1 F.2.1 dX3_readFrog_38 rfl (lv_at hl 0 rfl) ?_
      refine a_getr F inX3 hP 22 1 tc_22 rfl rfl (by decide) q245 (fun _ h9 => h9) dX3_readFrog_39 ?_
      refine lv_aload_n F.1 F.2.1 dX3_readFrog_42 rfl (lv_at hl 0 rfl) ?_
      refine a_getr F inX3 hP 22 0 tc_22 rfl rfl (by decide) q244 (fun _ h9 => h9) dX3_readFrog_43 ?_
      refine a_geti F inX10 hP 1 9 tc_1 rfl rfl (by decide) q112 (fun _ h9 => h9) (v := (u3.1 1 9)) (rfl) dX3_readFrog_46 ?_
      refine a_Vv F hml hl.1 hA hP hD hS (As := [.int (u3.1 1 9)]) (x_X2_addFrog_13 l dC dI ad cA nF _ (u3.1 1 9) hR (by omega)) (cs_RX3_131 (d := 1) F.2.2.1 (by decide)) tc_13 rfl rfl rfl rfl (Nat.le_of_ble_eq_true rfl) dX3_readFrog_49 ⟨Nat.le_refl 0, Nat.le_refl 0⟩ (fun u6 H locs hq hP hD hS => ?_)
      obtain ⟨hR, hF6, hz6⟩ := hq
      have hF := hF.tr hF6 (by decide)
      have hK_N13 := sp_fr sp_N13 hF6 (by decide) hK_N13
      have hC := vl_eq hC hz6.symm
      refine lv_aload_n F.1 F.2.1 dX3_readFrog_52 rfl (lv_at hl 0 rfl) ?_
      refine a_getr F inX3 hP 22 0 tc_22 rfl rfl (by decide) q244 (fun _ h9 => h9) dX3_readFrog_53 ?_
      refine a_bp F (59 : Int32) dX3_readFrog_56 (by decide) ?_
      refine a_Vi F hml hl.1 hA hP hD hS (As := [.int (59 : Int32)]) (x_X10_takeSign_1 l dC dI ad cA nF _ (59 : Int32) hR (by decide)) (cs_RX3_87 (d := 4) F.2.2.1 (by decide)) tc_1 rfl rfl rfl rfl (Nat.le_of_ble_eq_true rfl) dX3_readFrog_58 ⟨Nat.le_refl 0, Nat.le_refl 0⟩ (fun r7 u7 H locs hq hP hD hS => ?_)
      obtain ⟨hR, hF7, gr7, hz7⟩ := hq
      have hF := hF.tr hF7 (by decide)
      have hK_N13 := sp_fr sp_N13 hF7 (by decide) hK_N13
      have hC := bd_eq hC hz7
      exact a_retz F hr hlocks hP hD hS dX3_readFrog_61 (i_01 (by omega)) ⟨hR, hF, (by omega : (0 : Int) ≤ r7.toInt ∧ r7.toInt ≤ 1), hK_N13, hRR.symm.trans hC⟩
    · have hC := hC.trans (if_neg (by omega))
      refine a_ic F (0 : Int32) dX3_readFrog_36 (by decide) ?_
      exact a_retz F hr hlocks hP hD hS dX3_readFrog_37 (Or.inl rfl) ⟨hR, hF, (by decide), hK_N13, hRR.symm.trans hC⟩
  · have hC := hC.trans (if_neg (by omega))
    refine lv_aload_n F.1 F.2.1 dX3_readFrog_12 rfl (lv_at hl 0 rfl) ?_
    refine a_getr F inX3 hP 22 0 tc_22 rfl rfl (by decide) q244 (fun _ h9 => h9) dX3_readFrog_13 ?_
    refine a_ic F (4 : Int32) dX3_readFrog_16 (by decide) ?_
    refine a_Vi F hml hl.1 hA hP hD hS (As := [.int (4 : Int32)]) (x_X10_fail_1 l dC dI ad cA nF _ (4 : Int32) hR (by decide)) (cs_RX3_70 (d := 1) F.2.2.1 (by decide)) tc_1 rfl rfl rfl rfl (Nat.le_of_ble_eq_true rfl) dX3_readFrog_17 ⟨Nat.le_refl 0, Nat.le_refl 0⟩ (fun r8 u8 H locs hq hP hD hS => ?_)
    obtain ⟨hR, hF8, gr8, hz8⟩ := hq
    have hF := hF.tr hF8 (by decide)
    have hK_N13 := sp_fr sp_N13 hF8 (by decide) hK_N13
    have hC := bd_eq hC hz8
    exact a_retz F hr hlocks hP hD hS dX3_readFrog_20 (i_01 (by omega)) ⟨hR, hF, (by omega : (0 : Int) ≤ r8.toInt ∧ r8.toInt ≤ 1), hK_N13, hRR.symm.trans hC⟩

def f_X3_readHours_22 (u0 : ac_U) : ac_U × Int32 := (if (u0.1 22 4).toInt = 0 then (bd (f_X10_takeNumber_1 (pI u0 22 4 (1 : Int32)) (4 : Int32) (24 : Int32)) (fun (u3 : ac_U) (r3 : Int32) => (if r3.toInt ≠ 0 then (bd (f_X10_takeSign_1 (pI u3 13 0 (u3.1 1 8)) (59 : Int32)) (fun (u5 : ac_U) (r5 : Int32) => (u5, r5))) else (u3, (0 : Int32))))) else (bd (f_X10_fail_1 u0 (3 : Int32)) (fun (u6 : ac_U) (r6 : Int32) => (u6, r6))))
set_option maxHeartbeats 600000 in
set_option maxRecDepth 100000 in
theorem x_X3_readHours_22 (l : Launch) (dC : Nat → ClassId) (dI : Nat → Nat → Nat) (ad : Nat → Nat) (cA : Nat → ClassId) (nF : Nat) (u0 : ac_U)  (hR : ac_R rg u0) : ac_Mi l yX3_readHours (.code yX3_readHours cX3_readHours 1 (some .boolean) :: TB) 5 (dC, dI) vwCl (ac_ty cA) ad cA (TT nF) [.ref (ad 22)] u0 (fun (r : Int32) (u : ac_U) => ac_R rg u ∧ ac_Fr [(1, some 4), (1, some 5), (1, some 6), (1, some 8), (1, some 10), (1, some 11), (13, some 0), (22, some 4)] u0 u ∧ ((0 : Int) ≤ r.toInt ∧ r.toInt ≤ 1) ∧ f_X3_readHours_22 u0 = (u, r)) := by
  refine ac_Mi.of (cc := cX3_readHours) (maxL := 1) (ret := (some .boolean)) (by decide) rfl (Nat.le_of_ble_eq_true rfl) ?_
  intro p e s m below meth c A ls F hml hr hlocks hA hP hD hS hl
  have F : ac_X p s m [.ref (ad 22)].toArray c cX3_readHours RX3 TB (dC, dI) vwCl (ac_ty cA) := ⟨F.1, F.2.1, fun w h => F.2.2.1 w (List.mem_cons_of_mem _ h), F.2.2.2.1, F.2.2.2.2⟩
  have hl : lv_has ls 1 [(0, .ref (ad 22))] := hl
  obtain ⟨RR, hRR⟩ : ∃ q, q = f_X3_readHours_22 u0 := ⟨_, rfl⟩
  have hF : ac_Fr [(1, some 4), (1, some 5), (1, some 6), (1, some 8), (1, some 10), (1, some 11), (13, some 0), (22, some 4)] u0 u0 := ac_Fr.rf
  have hC : RR = f_X3_readHours_22 u0 := hRR
  unfold f_X3_readHours_22 at hC
  refine lv_aload_n F.1 F.2.1 dX3_readHours_0 rfl (lv_at hl 0 rfl) ?_
  have g1 : (0 : Int) ≤ (u0.1 22 4).toInt ∧ (u0.1 22 4).toInt ≤ 1 := hR 22 4
  refine a_geti F inX3 hP 22 4 tc_22 rfl rfl (by decide) q249 (fun _ h9 => h9) (v := (u0.1 22 4)) rfl dX3_readHours_1 ?_
  refine z_eq F 16 dX3_readHours_4 (by decide) rfl (fun c2 => ?_) (fun c2 => ?_)
  · have hC := hC.trans (if_pos c2)
    refine lv_aload_n F.1 F.2.1 dX3_readHours_16 rfl (lv_at hl 0 rfl) ?_
    refine a_ic F (1 : Int32) dX3_readHours_17 (by decide) ?_
    refine a_puti F inX3 tyX3 tyX3_ok nmX3 hP hD hS 22 4 tc_22 rfl rfl (by decide) q249 (fun _ h9 => h9) rfl (ty := .boolean) (tyX3_ok 4 (by decide)) (i_zn (Or.inr rfl)) (i_zf (Or.inr rfl)) dX3_readHours_18 (fun H locs hP hD hS => ?_)
    have hR := hR.si (c := 22) (k := 4) (v := (1 : Int32)) (by rw [ic_1]; exact (by omega : (0 : Int) ≤ (1 : Int) ∧ (1 : Int) ≤ 1))
    have hF := hF.si (c := 22) (k := 4) (v := (1 : Int32)) rfl
    refine lv_aload_n F.1 F.2.1 dX3_readHours_21 rfl (lv_at hl 0 rfl) ?_
    refine a_getr F inX3 hP 22 0 tc_22 rfl rfl (by decide) q244 (fun _ h9 => h9) dX3_readHours_22 ?_
    refine a_ic F (4 : Int32) dX3_readHours_25 (by decide) ?_
    refine a_bp F (24 : Int32) dX3_readHours_26 (by decide) ?_
    refine a_Vi F hml hl.1 hA hP hD hS (As := [.int (4 : Int32), .int (24 : Int32)]) (x_X10_takeNumber_1 l dC dI ad cA nF _ (4 : Int32) (24 : Int32) hR (by decide) (by decide)) (cs_RX3_77 (d := 4) F.2.2.1 (by decide)) tc_1 rfl rfl rfl rfl (Nat.le_of_ble_eq_true rfl) dX3_readHours_28 ⟨Nat.le_refl 0, Nat.le_refl 0⟩ (fun r3 u3 H locs hq hP hD hS => ?_)
    obtain ⟨hR, hF3, gr3, xr3, hz3⟩ := hq
    have hF := hF.tr hF3 (by decide)
    have xr3 : r3.toInt ≠ 0 → (4 : Int) ≤ (u3.1 1 8).toInt ∧ (u3.1 1 8).toInt ≤ (24 : Int) := xr3
    have hC := bd_eq hC hz3
    refine z_ne F 36 dX3_readHours_31 (by decide) rfl (fun c4 => ?_) (fun c4 => ?_)
    · have hC := hC.trans (if_pos c4)
      refine lv_aload_n F.1 F.2.1 dX3_readHours_36 rfl (lv_at hl 0 rfl) ?_
      refine a_getr F inX3 hP 22 1 tc_22 rfl rfl (by decide) q245 (fun _ h9 => h9) dX3_readHours_37 ?_
      refine lv_aload_n F.1 F.2.1 dX3_readHours_40 rfl (lv_at hl 0 rfl) ?_
      refine a_getr F inX3 hP 22 0 tc_22 rfl rfl (by decide) q244 (fun _ h9 => h9) dX3_readHours_41 ?_
      refine a_geti F inX10 hP 1 8 tc_1 rfl rfl (by decide) q107 (fun _ h9 => h9) (v := (u3.1 1 8)) (rfl) dX3_readHours_44 ?_
      refine a_puti F inX2 tyX2 tyX2_ok nmX2 hP hD hS 13 0 tc_13 rfl rfl (by decide) q153 (fun _ h9 => h9) rfl (ty := .int) (tyX2_ok 0 (by decide)) rfl rfl dX3_readHours_47 (fun H locs hP hD hS => ?_)
      have hR := hR.si (c := 13) (k := 0) (v := (u3.1 1 8)) (by omega : (4 : Int) ≤ (u3.1 1 8).toInt ∧ (u3.1 1 8).toInt ≤ 24)
      have hF := hF.si (c := 13) (k := 0) (v := (u3.1 1 8)) rfl
      refine lv_aload_n F.1 F.2.1 dX3_readHours_50 rfl (lv_at hl 0 rfl) ?_
      refine a_getr F inX3 hP 22 0 tc_22 rfl rfl (by decide) q244 (fun _ h9 => h9) dX3_readHours_51 ?_
      refine a_bp F (59 : Int32) dX3_readHours_54 (by decide) ?_
      refine a_Vi F hml hl.1 hA hP hD hS (As := [.int (59 : Int32)]) (x_X10_takeSign_1 l dC dI ad cA nF _ (59 : Int32) hR (by decide)) (cs_RX3_87 (d := 4) F.2.2.1 (by decide)) tc_1 rfl rfl rfl rfl (Nat.le_of_ble_eq_true rfl) dX3_readHours_56 ⟨Nat.le_refl 0, Nat.le_refl 0⟩ (fun r5 u5 H locs hq hP hD hS => ?_)
      obtain ⟨hR, hF5, gr5, hz5⟩ := hq
      have hF := hF.tr hF5 (by decide)
      have hC := bd_eq hC hz5
      exact a_retz F hr hlocks hP hD hS dX3_readHours_59 (i_01 (by omega)) ⟨hR, hF, (by omega : (0 : Int) ≤ r5.toInt ∧ r5.toInt ≤ 1), hRR.symm.trans hC⟩
    · have hC := hC.trans (if_neg (by omega))
      refine a_ic F (0 : Int32) dX3_readHours_34 (by decide) ?_
      exact a_retz F hr hlocks hP hD hS dX3_readHours_35 (Or.inl rfl) ⟨hR, hF, (by decide), hRR.symm.trans hC⟩
  · have hC := hC.trans (if_neg (by omega))
    refine lv_aload_n F.1 F.2.1 dX3_readHours_7 rfl (lv_at hl 0 rfl) ?_
    refine a_getr F inX3 hP 22 0 tc_22 rfl rfl (by decide) q244 (fun _ h9 => h9) dX3_readHours_8 ?_
    refine a_ic F (3 : Int32) dX3_readHours_11 (by decide) ?_
    refine a_Vi F hml hl.1 hA hP hD hS (As := [.int (3 : Int32)]) (x_X10_fail_1 l dC dI ad cA nF _ (3 : Int32) hR (by decide)) (cs_RX3_70 (d := 1) F.2.2.1 (by decide)) tc_1 rfl rfl rfl rfl (Nat.le_of_ble_eq_true rfl) dX3_readHours_12 ⟨Nat.le_refl 0, Nat.le_refl 0⟩ (fun r6 u6 H locs hq hP hD hS => ?_)
    obtain ⟨hR, hF6, gr6, hz6⟩ := hq
    have hF := hF.tr hF6 (by decide)
    have hC := bd_eq hC hz6
    exact a_retz F hr hlocks hP hD hS dX3_readHours_15 (i_01 (by omega)) ⟨hR, hF, (by omega : (0 : Int) ≤ r6.toInt ∧ r6.toInt ≤ 1), hRR.symm.trans hC⟩

def f_X3_readPerson_22 (u0 : ac_U) : ac_U × Int32 := (if (u0.1 13 4).toInt < (4 : Int) then (bd (f_X10_takeNew_1_13 u0) (fun (u3 : ac_U) (r3 : Int32) => (if r3.toInt ≠ 0 then (bd (f_X10_takeKnown_1_13 u3 (0 : Int32)) (fun (u5 : ac_U) (r5 : Int32) => (if r5.toInt ≠ 0 then (vl (f_X2_addPerson_13 u5 (u3.2 1 7) (u5.1 1 9)) (fun (u8 : ac_U) => (bd (f_X10_takeSign_1 u8 (59 : Int32)) (fun (u9 : ac_U) (r9 : Int32) => (u9, r9))))) else (u5, (0 : Int32))))) else (u3, (0 : Int32))))) else (bd (f_X10_fail_1 u0 (4 : Int32)) (fun (u10 : ac_U) (r10 : Int32) => (u10, r10))))
set_option maxHeartbeats 600000 in
set_option maxRecDepth 100000 in
theorem x_X3_readPerson_22 (l : Launch) (dC : Nat → ClassId) (dI : Nat → Nat → Nat) (ad : Nat → Nat) (cA : Nat → ClassId) (nF : Nat) (u0 : ac_U)  (hR : ac_R rg u0) (hK_N13 : nmI 20 21 u0) : ac_Mi l yX3_readPerson (.code yX3_readPerson cX3_readPerson 3 (some .boolean) :: TB) 5 (dC, dI) vwCl (ac_ty cA) ad cA (TT nF) [.ref (ad 22)] u0 (fun (r : Int32) (u : ac_U) => ac_R rg u ∧ ac_Fr [(1, some 4), (1, some 5), (1, some 6), (1, some 8), (1, some 9), (1, some 10), (1, some 11), (13, some 4), (13, some 8), (16, none), (20, none), (21, none)] u0 u ∧ ((0 : Int) ≤ r.toInt ∧ r.toInt ≤ 1) ∧ nmI 20 21 u ∧ f_X3_readPerson_22 u0 = (u, r)) := by
  refine ac_Mi.of (cc := cX3_readPerson) (maxL := 3) (ret := (some .boolean)) (by decide) rfl (Nat.le_of_ble_eq_true rfl) ?_
  intro p e s m below meth c A ls F hml hr hlocks hA hP hD hS hl
  have F : ac_X p s m [.ref (ad 22)].toArray c cX3_readPerson RX3 TB (dC, dI) vwCl (ac_ty cA) := ⟨F.1, F.2.1, fun w h => F.2.2.1 w (List.mem_cons_of_mem _ h), F.2.2.2.1, F.2.2.2.2⟩
  have hl : lv_has ls 3 [(0, .ref (ad 22))] := hl
  obtain ⟨RR, hRR⟩ : ∃ q, q = f_X3_readPerson_22 u0 := ⟨_, rfl⟩
  have hF : ac_Fr [(1, some 4), (1, some 5), (1, some 6), (1, some 8), (1, some 9), (1, some 10), (1, some 11), (13, some 4), (13, some 8), (16, none), (20, none), (21, none)] u0 u0 := ac_Fr.rf
  have hC : RR = f_X3_readPerson_22 u0 := hRR
  unfold f_X3_readPerson_22 at hC
  refine lv_aload_n F.1 F.2.1 dX3_readPerson_0 rfl (lv_at hl 0 rfl) ?_
  refine a_getr F inX3 hP 22 1 tc_22 rfl rfl (by decide) q245 (fun _ h9 => h9) dX3_readPerson_1 ?_
  have g1 : (0 : Int) ≤ (u0.1 13 4).toInt ∧ (u0.1 13 4).toInt ≤ 4 := hR 13 4
  refine a_geti F inX2 hP 13 4 tc_13 rfl rfl (by decide) q171 (fun _ h9 => h9) (v := (u0.1 13 4)) rfl dX3_readPerson_4 ?_
  refine a_ic F (4 : Int32) dX3_readPerson_7 (by decide) ?_
  refine b_lt F 20 dX3_readPerson_8 (by decide) rfl ic_4 (fun c2 => ?_) (fun c2 => ?_)
  · have hC := hC.trans (if_pos c2)
    refine lv_aload_n F.1 F.2.1 dX3_readPerson_20 rfl (lv_at hl 0 rfl) ?_
    refine a_getr F inX3 hP 22 0 tc_22 rfl rfl (by decide) q244 (fun _ h9 => h9) dX3_readPerson_21 ?_
    refine lv_aload_n F.1 F.2.1 dX3_readPerson_24 rfl (lv_at hl 0 rfl) ?_
    refine a_getr F inX3 hP 22 1 tc_22 rfl rfl (by decide) q245 (fun _ h9 => h9) dX3_readPerson_25 ?_
    refine a_Vi F hml hl.1 hA hP hD hS (As := [.ref (ad 13)]) (x_X10_takeNew_1_13 l dC dI ad cA nF _  hR) (cs_RX3_93 (d := 4) F.2.2.1 (by decide)) tc_1 rfl rfl rfl rfl (Nat.le_of_ble_eq_true rfl) dX3_readPerson_28 ⟨Nat.le_refl 0, Nat.le_refl 0⟩ (fun r3 u3 H locs hq hP hD hS => ?_)
    obtain ⟨hR, hF3, gr3, hz3⟩ := hq
    have hF := hF.tr hF3 (by decide)
    have hK_N13 := sp_fr sp_N13 hF3 (by decide) hK_N13
    have hC := bd_eq hC hz3
    refine z_ne F 36 dX3_readPerson_31 (by decide) rfl (fun c4 => ?_) (fun c4 => ?_)
    · have hC := hC.trans (if_pos c4)
      refine lv_aload_n F.1 F.2.1 dX3_readPerson_36 rfl (lv_at hl 0 rfl) ?_
      refine a_getr F inX3 hP 22 0 tc_22 rfl rfl (by decide) q244 (fun _ h9 => h9) dX3_readPerson_37 ?_
      refine a_getl F inX10 hP 1 7 tc_1 rfl rfl (by decide) q105 (fun _ h9 => h9) (v := (u3.2 1 7)) rfl dX3_readPerson_40 ?_
      refine lv_lstore_n (lv' := [(1, .long (u3.2 1 7)), (0, .ref (ad 22))]) F.1 F.2.1 dX3_readPerson_43 rfl hl (by decide) rfl (fun ls hl => ?_)
      refine lv_aload_n F.1 F.2.1 dX3_readPerson_44 rfl (lv_at hl 1 rfl) ?_
      refine a_getr F inX3 hP 22 0 tc_22 rfl rfl (by decide) q244 (fun _ h9 => h9) dX3_readPerson_45 ?_
      refine lv_aload_n F.1 F.2.1 dX3_readPerson_48 rfl (lv_at hl 1 rfl) ?_
      refine a_getr F inX3 hP 22 1 tc_22 rfl rfl (by decide) q245 (fun _ h9 => h9) dX3_readPerson_49 ?_
      refine a_ic F (0 : Int32) dX3_readPerson_52 (by decide) ?_
      refine a_Vi F hml hl.1 hA hP hD hS (As := [.ref (ad 13), .int (0 : Int32)]) (x_X10_takeKnown_1_13 l dC dI ad cA nF _ (0 : Int32) hR (by decide) hK_N13) (cs_RX3_114 (d := 4) F.2.2.1 (by decide)) tc_1 rfl rfl rfl rfl (Nat.le_of_ble_eq_true rfl) dX3_readPerson_53 ⟨Nat.le_refl 0, Nat.le_refl 0⟩ (fun r5 u5 H locs hq hP hD hS => ?_)
      obtain ⟨hR, hF5, gr5, xr5, hz5⟩ := hq
      have hF := hF.tr hF5 (by decide)
      have hK_N13 := sp_fr sp_N13 hF5 (by decide) hK_N13
      have g6 : (0 : Int) ≤ (u5.1 1 9).toInt ∧ (u5.1 1 9).toInt ≤ 7 := hR 1 9
      have xr5 : r5.toInt ≠ 0 → (0 : Int) = 1 → (u5.1 1 9).toInt ≤ 3 := xr5
      have hC := bd_eq hC hz5
      refine z_ne F 61 dX3_readPerson_56 (by decide) rfl (fun c7 => ?_) (fun c7 => ?_)
      · have hC := hC.trans (if_pos c7)
        refine lv_aload_n F.1 F.2.1 dX3_readPerson_61 rfl (lv_at hl 1 rfl) ?_
        refine a_getr F inX3 hP 22 1 tc_22 rfl rfl (by decide) q245 (fun _ h9 => h9) dX3_readPerson_62 ?_
        refine lv_lload_n F.1 F.2.1 dX3_readPerson_65 rfl (lv_at hl 0 rfl) ?_
        refine lv_aload_n F.1 F.2.1 dX3_readPerson_66 rfl (lv_at hl 1 rfl) ?_
        refine a_getr F inX3 hP 22 0 tc_22 rfl rfl (by decide) q244 (fun _ h9 => h9) dX3_readPerson_67 ?_
        refine a_geti F inX10 hP 1 9 tc_1 rfl rfl (by decide) q112 (fun _ h9 => h9) (v := (u5.1 1 9)) (rfl) dX3_readPerson_70 ?_
        refine a_Vv F hml hl.1 hA hP hD hS (As := [.long (u3.2 1 7), .int (u5.1 1 9)]) (x_X2_addPerson_13 l dC dI ad cA nF _ (u3.2 1 7) (u5.1 1 9) hR (by omega) hK_N13) (cs_RX3_137 (d := 2) F.2.2.1 (by decide)) tc_13 rfl rfl rfl rfl (Nat.le_of_ble_eq_true rfl) dX3_readPerson_73 ⟨Nat.le_refl 0, Nat.le_refl 0⟩ (fun u8 H locs hq hP hD hS => ?_)
        obtain ⟨hR, hF8, hK_N13, hz8⟩ := hq
        have hF := hF.tr hF8 (by decide)
        have hC := vl_eq hC hz8.symm
        refine lv_aload_n F.1 F.2.1 dX3_readPerson_76 rfl (lv_at hl 1 rfl) ?_
        refine a_getr F inX3 hP 22 0 tc_22 rfl rfl (by decide) q244 (fun _ h9 => h9) dX3_readPerson_77 ?_
        refine a_bp F (59 : Int32) dX3_readPerson_80 (by decide) ?_
        refine a_Vi F hml hl.1 hA hP hD hS (As := [.int (59 : Int32)]) (x_X10_takeSign_1 l dC dI ad cA nF _ (59 : Int32) hR (by decide)) (cs_RX3_87 (d := 4) F.2.2.1 (by decide)) tc_1 rfl rfl rfl rfl (Nat.le_of_ble_eq_true rfl) dX3_readPerson_82 ⟨Nat.le_refl 0, Nat.le_refl 0⟩ (fun r9 u9 H locs hq hP hD hS => ?_)
        obtain ⟨hR, hF9, gr9, hz9⟩ := hq
        have hF := hF.tr hF9 (by decide)
        have hK_N13 := sp_fr sp_N13 hF9 (by decide) hK_N13
        have hC := bd_eq hC hz9
        exact a_retz F hr hlocks hP hD hS dX3_readPerson_85 (i_01 (by omega)) ⟨hR, hF, (by omega : (0 : Int) ≤ r9.toInt ∧ r9.toInt ≤ 1), hK_N13, hRR.symm.trans hC⟩
      · have hC := hC.trans (if_neg (by omega))
        refine a_ic F (0 : Int32) dX3_readPerson_59 (by decide) ?_
        exact a_retz F hr hlocks hP hD hS dX3_readPerson_60 (Or.inl rfl) ⟨hR, hF, (by decide), hK_N13, hRR.symm.trans hC⟩
    · have hC := hC.trans (if_neg (by omega))
      refine a_ic F (0 : Int32) dX3_readPerson_34 (by decide) ?_
      exact a_retz F hr hlocks hP hD hS dX3_readPerson_35 (Or.inl rfl) ⟨hR, hF, (by decide), hK_N13, hRR.symm.trans hC⟩
  · have hC := hC.trans (if_neg (by omega))
    refine lv_aload_n F.1 F.2.1 dX3_readPerson_11 rfl (lv_at hl 0 rfl) ?_
    refine a_getr F inX3 hP 22 0 tc_22 rfl rfl (by decide) q244 (fun _ h9 => h9) dX3_readPerson_12 ?_
    refine a_ic F (4 : Int32) dX3_readPerson_15 (by decide) ?_
    refine a_Vi F hml hl.1 hA hP hD hS (As := [.int (4 : Int32)]) (x_X10_fail_1 l dC dI ad cA nF _ (4 : Int32) hR (by decide)) (cs_RX3_70 (d := 1) F.2.2.1 (by decide)) tc_1 rfl rfl rfl rfl (Nat.le_of_ble_eq_true rfl) dX3_readPerson_16 ⟨Nat.le_refl 0, Nat.le_refl 0⟩ (fun r10 u10 H locs hq hP hD hS => ?_)
    obtain ⟨hR, hF10, gr10, hz10⟩ := hq
    have hF := hF.tr hF10 (by decide)
    have hK_N13 := sp_fr sp_N13 hF10 (by decide) hK_N13
    have hC := bd_eq hC hz10
    exact a_retz F hr hlocks hP hD hS dX3_readPerson_19 (i_01 (by omega)) ⟨hR, hF, (by omega : (0 : Int) ≤ r10.toInt ∧ r10.toInt ≤ 1), hK_N13, hRR.symm.trans hC⟩

def f_X3_readPlace_22 (u0 : ac_U) : ac_U × Int32 := (if (u0.1 13 1).toInt < (8 : Int) then (bd (f_X10_takeNew_1_13 u0) (fun (u3 : ac_U) (r3 : Int32) => (if r3.toInt ≠ 0 then (vl (f_X2_addPlace_13 u3 (u3.2 1 7)) (fun (u5 : ac_U) => (bd (f_X10_takeSign_1 u5 (59 : Int32)) (fun (u6 : ac_U) (r6 : Int32) => (u6, r6))))) else (u3, (0 : Int32))))) else (bd (f_X10_fail_1 u0 (4 : Int32)) (fun (u7 : ac_U) (r7 : Int32) => (u7, r7))))
set_option maxHeartbeats 600000 in
set_option maxRecDepth 100000 in
theorem x_X3_readPlace_22 (l : Launch) (dC : Nat → ClassId) (dI : Nat → Nat → Nat) (ad : Nat → Nat) (cA : Nat → ClassId) (nF : Nat) (u0 : ac_U)  (hR : ac_R rg u0) (hK_N13 : nmI 20 21 u0) : ac_Mi l yX3_readPlace (.code yX3_readPlace cX3_readPlace 1 (some .boolean) :: TB) 5 (dC, dI) vwCl (ac_ty cA) ad cA (TT nF) [.ref (ad 22)] u0 (fun (r : Int32) (u : ac_U) => ac_R rg u ∧ ac_Fr [(1, some 4), (1, some 5), (1, some 6), (1, some 8), (1, some 10), (1, some 11), (13, some 1), (13, some 8), (20, none), (21, none)] u0 u ∧ ((0 : Int) ≤ r.toInt ∧ r.toInt ≤ 1) ∧ nmI 20 21 u ∧ f_X3_readPlace_22 u0 = (u, r)) := by
  refine ac_Mi.of (cc := cX3_readPlace) (maxL := 1) (ret := (some .boolean)) (by decide) rfl (Nat.le_of_ble_eq_true rfl) ?_
  intro p e s m below meth c A ls F hml hr hlocks hA hP hD hS hl
  have F : ac_X p s m [.ref (ad 22)].toArray c cX3_readPlace RX3 TB (dC, dI) vwCl (ac_ty cA) := ⟨F.1, F.2.1, fun w h => F.2.2.1 w (List.mem_cons_of_mem _ h), F.2.2.2.1, F.2.2.2.2⟩
  have hl : lv_has ls 1 [(0, .ref (ad 22))] := hl
  obtain ⟨RR, hRR⟩ : ∃ q, q = f_X3_readPlace_22 u0 := ⟨_, rfl⟩
  have hF : ac_Fr [(1, some 4), (1, some 5), (1, some 6), (1, some 8), (1, some 10), (1, some 11), (13, some 1), (13, some 8), (20, none), (21, none)] u0 u0 := ac_Fr.rf
  have hC : RR = f_X3_readPlace_22 u0 := hRR
  unfold f_X3_readPlace_22 at hC
  refine lv_aload_n F.1 F.2.1 dX3_readPlace_0 rfl (lv_at hl 0 rfl) ?_
  refine a_getr F inX3 hP 22 1 tc_22 rfl rfl (by decide) q245 (fun _ h9 => h9) dX3_readPlace_1 ?_
  have g1 : (0 : Int) ≤ (u0.1 13 1).toInt ∧ (u0.1 13 1).toInt ≤ 8 := hR 13 1
  refine a_geti F inX2 hP 13 1 tc_13 rfl rfl (by decide) q158 (fun _ h9 => h9) (v := (u0.1 13 1)) rfl dX3_readPlace_4 ?_
  refine a_bp F (8 : Int32) dX3_readPlace_7 (by decide) ?_
  refine b_lt F 21 dX3_readPlace_9 (by decide) rfl ic_8 (fun c2 => ?_) (fun c2 => ?_)
  · have hC := hC.trans (if_pos c2)
    refine lv_aload_n F.1 F.2.1 dX3_readPlace_21 rfl (lv_at hl 0 rfl) ?_
    refine a_getr F inX3 hP 22 0 tc_22 rfl rfl (by decide) q244 (fun _ h9 => h9) dX3_readPlace_22 ?_
    refine lv_aload_n F.1 F.2.1 dX3_readPlace_25 rfl (lv_at hl 0 rfl) ?_
    refine a_getr F inX3 hP 22 1 tc_22 rfl rfl (by decide) q245 (fun _ h9 => h9) dX3_readPlace_26 ?_
    refine a_Vi F hml hl.1 hA hP hD hS (As := [.ref (ad 13)]) (x_X10_takeNew_1_13 l dC dI ad cA nF _  hR) (cs_RX3_93 (d := 4) F.2.2.1 (by decide)) tc_1 rfl rfl rfl rfl (Nat.le_of_ble_eq_true rfl) dX3_readPlace_29 ⟨Nat.le_refl 0, Nat.le_refl 0⟩ (fun r3 u3 H locs hq hP hD hS => ?_)
    obtain ⟨hR, hF3, gr3, hz3⟩ := hq
    have hF := hF.tr hF3 (by decide)
    have hK_N13 := sp_fr sp_N13 hF3 (by decide) hK_N13
    have hC := bd_eq hC hz3
    refine z_ne F 37 dX3_readPlace_32 (by decide) rfl (fun c4 => ?_) (fun c4 => ?_)
    · have hC := hC.trans (if_pos c4)
      refine lv_aload_n F.1 F.2.1 dX3_readPlace_37 rfl (lv_at hl 0 rfl) ?_
      refine a_getr F inX3 hP 22 1 tc_22 rfl rfl (by decide) q245 (fun _ h9 => h9) dX3_readPlace_38 ?_
      refine lv_aload_n F.1 F.2.1 dX3_readPlace_41 rfl (lv_at hl 0 rfl) ?_
      refine a_getr F inX3 hP 22 0 tc_22 rfl rfl (by decide) q244 (fun _ h9 => h9) dX3_readPlace_42 ?_
      refine a_getl F inX10 hP 1 7 tc_1 rfl rfl (by decide) q105 (fun _ h9 => h9) (v := (u3.2 1 7)) rfl dX3_readPlace_45 ?_
      refine a_Vv F hml hl.1 hA hP hD hS (As := [.long (u3.2 1 7)]) (x_X2_addPlace_13 l dC dI ad cA nF _ (u3.2 1 7) hR (i_trB (hF3 13 1 rfl) (by omega : (0 : Int) ≤ (u0.1 13 1).toInt ∧ (u0.1 13 1).toInt ≤ 7)) hK_N13) (cs_RX3_101 (d := 2) F.2.2.1 (by decide)) tc_13 rfl rfl rfl rfl (Nat.le_of_ble_eq_true rfl) dX3_readPlace_48 ⟨Nat.le_refl 0, Nat.le_refl 0⟩ (fun u5 H locs hq hP hD hS => ?_)
      obtain ⟨hR, hF5, hK_N13, hz5⟩ := hq
      have hF := hF.tr hF5 (by decide)
      have hC := vl_eq hC hz5.symm
      refine lv_aload_n F.1 F.2.1 dX3_readPlace_51 rfl (lv_at hl 0 rfl) ?_
      refine a_getr F inX3 hP 22 0 tc_22 rfl rfl (by decide) q244 (fun _ h9 => h9) dX3_readPlace_52 ?_
      refine a_bp F (59 : Int32) dX3_readPlace_55 (by decide) ?_
      refine a_Vi F hml hl.1 hA hP hD hS (As := [.int (59 : Int32)]) (x_X10_takeSign_1 l dC dI ad cA nF _ (59 : Int32) hR (by decide)) (cs_RX3_87 (d := 4) F.2.2.1 (by decide)) tc_1 rfl rfl rfl rfl (Nat.le_of_ble_eq_true rfl) dX3_readPlace_57 ⟨Nat.le_refl 0, Nat.le_refl 0⟩ (fun r6 u6 H locs hq hP hD hS => ?_)
      obtain ⟨hR, hF6, gr6, hz6⟩ := hq
      have hF := hF.tr hF6 (by decide)
      have hK_N13 := sp_fr sp_N13 hF6 (by decide) hK_N13
      have hC := bd_eq hC hz6
      exact a_retz F hr hlocks hP hD hS dX3_readPlace_60 (i_01 (by omega)) ⟨hR, hF, (by omega : (0 : Int) ≤ r6.toInt ∧ r6.toInt ≤ 1), hK_N13, hRR.symm.trans hC⟩
    · have hC := hC.trans (if_neg (by omega))
      refine a_ic F (0 : Int32) dX3_readPlace_35 (by decide) ?_
      exact a_retz F hr hlocks hP hD hS dX3_readPlace_36 (Or.inl rfl) ⟨hR, hF, (by decide), hK_N13, hRR.symm.trans hC⟩
  · have hC := hC.trans (if_neg (by omega))
    refine lv_aload_n F.1 F.2.1 dX3_readPlace_12 rfl (lv_at hl 0 rfl) ?_
    refine a_getr F inX3 hP 22 0 tc_22 rfl rfl (by decide) q244 (fun _ h9 => h9) dX3_readPlace_13 ?_
    refine a_ic F (4 : Int32) dX3_readPlace_16 (by decide) ?_
    refine a_Vi F hml hl.1 hA hP hD hS (As := [.int (4 : Int32)]) (x_X10_fail_1 l dC dI ad cA nF _ (4 : Int32) hR (by decide)) (cs_RX3_70 (d := 1) F.2.2.1 (by decide)) tc_1 rfl rfl rfl rfl (Nat.le_of_ble_eq_true rfl) dX3_readPlace_17 ⟨Nat.le_refl 0, Nat.le_refl 0⟩ (fun r7 u7 H locs hq hP hD hS => ?_)
    obtain ⟨hR, hF7, gr7, hz7⟩ := hq
    have hF := hF.tr hF7 (by decide)
    have hK_N13 := sp_fr sp_N13 hF7 (by decide) hK_N13
    have hC := bd_eq hC hz7
    exact a_retz F hr hlocks hP hD hS dX3_readPlace_20 (i_01 (by omega)) ⟨hR, hF, (by omega : (0 : Int) ≤ r7.toInt ∧ r7.toInt ≤ 1), hK_N13, hRR.symm.trans hC⟩

def f_X3_readWhenHowOften_22 (u0 : ac_U) : ac_U × Int32 := (bd (f_X10_takeNumber_1 u0 (0 : Int32) (23 : Int32)) (fun (u1 : ac_U) (r1 : Int32) => (if r1.toInt ≠ 0 then (bd (f_X10_takeNumber_1 (pI u1 23 3 (u1.1 1 8)) (u1.1 1 8) (23 : Int32)) (fun (u3 : ac_U) (r3 : Int32) => (if r3.toInt ≠ 0 then (bd (f_X10_takeNumber_1 (pI u3 23 4 (u3.1 1 8)) (1 : Int32) (3 : Int32)) (fun (u5 : ac_U) (r5 : Int32) => (if r5.toInt ≠ 0 then ((pI u5 23 5 (u5.1 1 8)), (1 : Int32)) else (u5, (0 : Int32))))) else (u3, (0 : Int32))))) else (u1, (0 : Int32)))))
set_option maxHeartbeats 600000 in
set_option maxRecDepth 100000 in
theorem x_X3_readWhenHowOften_22 (l : Launch) (dC : Nat → ClassId) (dI : Nat → Nat → Nat) (ad : Nat → Nat) (cA : Nat → ClassId) (nF : Nat) (u0 : ac_U)  (hR : ac_R rg u0) (hK_N13 : nmI 20 21 u0) : ac_Mi l yX3_readWhenHowOften (.code yX3_readWhenHowOften cX3_readWhenHowOften 1 (some .boolean) :: TB) 5 (dC, dI) vwCl (ac_ty cA) ad cA (TT nF) [.ref (ad 22)] u0 (fun (r : Int32) (u : ac_U) => ac_R rg u ∧ ac_Fr [(1, some 4), (1, some 5), (1, some 6), (1, some 8), (1, some 10), (1, some 11), (23, none)] u0 u ∧ ((0 : Int) ≤ r.toInt ∧ r.toInt ≤ 1) ∧ nmI 20 21 u ∧ f_X3_readWhenHowOften_22 u0 = (u, r)) := by
  refine ac_Mi.of (cc := cX3_readWhenHowOften) (maxL := 1) (ret := (some .boolean)) (by decide) rfl (Nat.le_of_ble_eq_true rfl) ?_
  intro p e s m below meth c A ls F hml hr hlocks hA hP hD hS hl
  have F : ac_X p s m [.ref (ad 22)].toArray c cX3_readWhenHowOften RX3 TB (dC, dI) vwCl (ac_ty cA) := ⟨F.1, F.2.1, fun w h => F.2.2.1 w (List.mem_cons_of_mem _ h), F.2.2.2.1, F.2.2.2.2⟩
  have hl : lv_has ls 1 [(0, .ref (ad 22))] := hl
  obtain ⟨RR, hRR⟩ : ∃ q, q = f_X3_readWhenHowOften_22 u0 := ⟨_, rfl⟩
  have hF : ac_Fr [(1, some 4), (1, some 5), (1, some 6), (1, some 8), (1, some 10), (1, some 11), (23, none)] u0 u0 := ac_Fr.rf
  have hC : RR = f_X3_readWhenHowOften_22 u0 := hRR
  unfold f_X3_readWhenHowOften_22 at hC
  refine lv_aload_n F.1 F.2.1 dX3_readWhenHowOften_0 rfl (lv_at hl 0 rfl) ?_
  refine a_getr F inX3 hP 22 0 tc_22 rfl rfl (by decide) q244 (fun _ h9 => h9) dX3_readWhenHowOften_1 ?_
  refine a_ic F (0 : Int32) dX3_readWhenHowOften_4 (by decide) ?_
  refine a_bp F (23 : Int32) dX3_readWhenHowOften_5 (by decide) ?_
  refine a_Vi F hml hl.1 hA hP hD hS (As := [.int (0 : Int32), .int (23 : Int32)]) (x_X10_takeNumber_1 l dC dI ad cA nF _ (0 : Int32) (23 : Int32) hR (by decide) (by decide)) (cs_RX3_77 (d := 4) F.2.2.1 (by decide)) tc_1 rfl rfl rfl rfl (Nat.le_of_ble_eq_true rfl) dX3_readWhenHowOften_7 ⟨Nat.le_refl 0, Nat.le_refl 0⟩ (fun r1 u1 H locs hq hP hD hS => ?_)
  obtain ⟨hR, hF1, gr1, xr1, hz1⟩ := hq
  have hF := hF.tr hF1 (by decide)
  have hK_N13 := sp_fr sp_N13 hF1 (by decide) hK_N13
  have xr1 : r1.toInt ≠ 0 → (0 : Int) ≤ (u1.1 1 8).toInt ∧ (u1.1 1 8).toInt ≤ (23 : Int) := xr1
  have hC := bd_eq hC hz1
  refine z_ne F 15 dX3_readWhenHowOften_10 (by decide) rfl (fun c2 => ?_) (fun c2 => ?_)
  · have hC := hC.trans (if_pos c2)
    refine lv_aload_n F.1 F.2.1 dX3_readWhenHowOften_15 rfl (lv_at hl 0 rfl) ?_
    refine a_getr F inX3 hP 22 2 tc_22 rfl rfl (by decide) q246 (fun _ h9 => h9) dX3_readWhenHowOften_16 ?_
    refine a_ic F (3 : Int32) dX3_readWhenHowOften_19 (by decide) ?_
    refine lv_aload_n F.1 F.2.1 dX3_readWhenHowOften_20 rfl (lv_at hl 0 rfl) ?_
    refine a_getr F inX3 hP 22 0 tc_22 rfl rfl (by decide) q244 (fun _ h9 => h9) dX3_readWhenHowOften_21 ?_
    refine a_geti F inX10 hP 1 8 tc_1 rfl rfl (by decide) q107 (fun _ h9 => h9) (v := (u1.1 1 8)) (rfl) dX3_readWhenHowOften_24 ?_
    refine a_iastK F hP hD hS 23 3 tc_23 rfl rfl (i_in ic_3 (by omega)) dX3_readWhenHowOften_27 (fun H locs hP hD hS => ?_)
    have hR := hR.si (c := 23) (k := 3) (v := (u1.1 1 8)) ⟨i_lo _, i_hi _⟩
    have hF := hF.si (c := 23) (k := 3) (v := (u1.1 1 8)) rfl
    have hK_N13 := sp_sgD sp_N13 hD hK_N13 (by decide)
    refine lv_aload_n F.1 F.2.1 dX3_readWhenHowOften_28 rfl (lv_at hl 0 rfl) ?_
    refine a_getr F inX3 hP 22 0 tc_22 rfl rfl (by decide) q244 (fun _ h9 => h9) dX3_readWhenHowOften_29 ?_
    refine lv_aload_n F.1 F.2.1 dX3_readWhenHowOften_32 rfl (lv_at hl 0 rfl) ?_
    refine a_getr F inX3 hP 22 2 tc_22 rfl rfl (by decide) q246 (fun _ h9 => h9) dX3_readWhenHowOften_33 ?_
    refine a_ic F (3 : Int32) dX3_readWhenHowOften_36 (by decide) ?_
    refine a_ialdK F hP 23 3 tc_23 rfl rfl (i_in ic_3 (by omega)) (v := (u1.1 1 8)) (rfl) dX3_readWhenHowOften_37 ?_
    refine a_bp F (23 : Int32) dX3_readWhenHowOften_38 (by decide) ?_
    refine a_Vi F hml hl.1 hA hP hD hS (As := [.int (u1.1 1 8), .int (23 : Int32)]) (x_X10_takeNumber_1 l dC dI ad cA nF _ (u1.1 1 8) (23 : Int32) hR (by omega) (by decide)) (cs_RX3_77 (d := 4) F.2.2.1 (by decide)) tc_1 rfl rfl rfl rfl (Nat.le_of_ble_eq_true rfl) dX3_readWhenHowOften_40 ⟨Nat.le_refl 0, Nat.le_refl 0⟩ (fun r3 u3 H locs hq hP hD hS => ?_)
    obtain ⟨hR, hF3, gr3, xr3, hz3⟩ := hq
    have hF := hF.tr hF3 (by decide)
    have hK_N13 := sp_fr sp_N13 hF3 (by decide) hK_N13
    have xr3 : r3.toInt ≠ 0 → (u1.1 1 8).toInt ≤ (u3.1 1 8).toInt ∧ (u3.1 1 8).toInt ≤ (23 : Int) := xr3
    have hC := bd_eq hC hz3
    refine z_ne F 48 dX3_readWhenHowOften_43 (by decide) rfl (fun c4 => ?_) (fun c4 => ?_)
    · have hC := hC.trans (if_pos c4)
      refine lv_aload_n F.1 F.2.1 dX3_readWhenHowOften_48 rfl (lv_at hl 0 rfl) ?_
      refine a_getr F inX3 hP 22 2 tc_22 rfl rfl (by decide) q246 (fun _ h9 => h9) dX3_readWhenHowOften_49 ?_
      refine a_ic F (4 : Int32) dX3_readWhenHowOften_52 (by decide) ?_
      refine lv_aload_n F.1 F.2.1 dX3_readWhenHowOften_53 rfl (lv_at hl 0 rfl) ?_
      refine a_getr F inX3 hP 22 0 tc_22 rfl rfl (by decide) q244 (fun _ h9 => h9) dX3_readWhenHowOften_54 ?_
      refine a_geti F inX10 hP 1 8 tc_1 rfl rfl (by decide) q107 (fun _ h9 => h9) (v := (u3.1 1 8)) (rfl) dX3_readWhenHowOften_57 ?_
      refine a_iastK F hP hD hS 23 4 tc_23 rfl rfl (i_in ic_4 (by omega)) dX3_readWhenHowOften_60 (fun H locs hP hD hS => ?_)
      have hR := hR.si (c := 23) (k := 4) (v := (u3.1 1 8)) ⟨i_lo _, i_hi _⟩
      have hF := hF.si (c := 23) (k := 4) (v := (u3.1 1 8)) rfl
      have hK_N13 := sp_sgD sp_N13 hD hK_N13 (by decide)
      refine lv_aload_n F.1 F.2.1 dX3_readWhenHowOften_61 rfl (lv_at hl 0 rfl) ?_
      refine a_getr F inX3 hP 22 0 tc_22 rfl rfl (by decide) q244 (fun _ h9 => h9) dX3_readWhenHowOften_62 ?_
      refine a_ic F (1 : Int32) dX3_readWhenHowOften_65 (by decide) ?_
      refine a_ic F (3 : Int32) dX3_readWhenHowOften_66 (by decide) ?_
      refine a_Vi F hml hl.1 hA hP hD hS (As := [.int (1 : Int32), .int (3 : Int32)]) (x_X10_takeNumber_1 l dC dI ad cA nF _ (1 : Int32) (3 : Int32) hR (by decide) (by decide)) (cs_RX3_77 (d := 4) F.2.2.1 (by decide)) tc_1 rfl rfl rfl rfl (Nat.le_of_ble_eq_true rfl) dX3_readWhenHowOften_67 ⟨Nat.le_refl 0, Nat.le_refl 0⟩ (fun r5 u5 H locs hq hP hD hS => ?_)
      obtain ⟨hR, hF5, gr5, xr5, hz5⟩ := hq
      have hF := hF.tr hF5 (by decide)
      have hK_N13 := sp_fr sp_N13 hF5 (by decide) hK_N13
      have xr5 : r5.toInt ≠ 0 → (1 : Int) ≤ (u5.1 1 8).toInt ∧ (u5.1 1 8).toInt ≤ (3 : Int) := xr5
      have hC := bd_eq hC hz5
      refine z_ne F 75 dX3_readWhenHowOften_70 (by decide) rfl (fun c6 => ?_) (fun c6 => ?_)
      · have hC := hC.trans (if_pos c6)
        refine lv_aload_n F.1 F.2.1 dX3_readWhenHowOften_75 rfl (lv_at hl 0 rfl) ?_
        refine a_getr F inX3 hP 22 2 tc_22 rfl rfl (by decide) q246 (fun _ h9 => h9) dX3_readWhenHowOften_76 ?_
        refine a_ic F (5 : Int32) dX3_readWhenHowOften_79 (by decide) ?_
        refine lv_aload_n F.1 F.2.1 dX3_readWhenHowOften_80 rfl (lv_at hl 0 rfl) ?_
        refine a_getr F inX3 hP 22 0 tc_22 rfl rfl (by decide) q244 (fun _ h9 => h9) dX3_readWhenHowOften_81 ?_
        refine a_geti F inX10 hP 1 8 tc_1 rfl rfl (by decide) q107 (fun _ h9 => h9) (v := (u5.1 1 8)) (rfl) dX3_readWhenHowOften_84 ?_
        refine a_iastK F hP hD hS 23 5 tc_23 rfl rfl (i_in ic_5 (by omega)) dX3_readWhenHowOften_87 (fun H locs hP hD hS => ?_)
        have hR := hR.si (c := 23) (k := 5) (v := (u5.1 1 8)) (by omega : (0 : Int) ≤ (u5.1 1 8).toInt ∧ (u5.1 1 8).toInt ≤ 3)
        have hF := hF.si (c := 23) (k := 5) (v := (u5.1 1 8)) rfl
        have hK_N13 := sp_sgD sp_N13 hD hK_N13 (by decide)
        refine a_ic F (1 : Int32) dX3_readWhenHowOften_88 (by decide) ?_
        exact a_retz F hr hlocks hP hD hS dX3_readWhenHowOften_89 (Or.inr rfl) ⟨hR, hF, (by decide), hK_N13, hRR.symm.trans hC⟩
      · have hC := hC.trans (if_neg (by omega))
        refine a_ic F (0 : Int32) dX3_readWhenHowOften_73 (by decide) ?_
        exact a_retz F hr hlocks hP hD hS dX3_readWhenHowOften_74 (Or.inl rfl) ⟨hR, hF, (by decide), hK_N13, hRR.symm.trans hC⟩
    · have hC := hC.trans (if_neg (by omega))
      refine a_ic F (0 : Int32) dX3_readWhenHowOften_46 (by decide) ?_
      exact a_retz F hr hlocks hP hD hS dX3_readWhenHowOften_47 (Or.inl rfl) ⟨hR, hF, (by decide), hK_N13, hRR.symm.trans hC⟩
  · have hC := hC.trans (if_neg (by omega))
    refine a_ic F (0 : Int32) dX3_readWhenHowOften_13 (by decide) ?_
    exact a_retz F hr hlocks hP hD hS dX3_readWhenHowOften_14 (Or.inl rfl) ⟨hR, hF, (by decide), hK_N13, hRR.symm.trans hC⟩

def f_X3_readWhoWhatWhere_22 (u0 : ac_U) : ac_U × Int32 := (bd (f_X10_takeKnown_1_13 u0 (1 : Int32)) (fun (u1 : ac_U) (r1 : Int32) => (if r1.toInt ≠ 0 then (bd (f_X10_takeKnown_1_13 (pI u1 23 0 (u1.1 1 9)) (2 : Int32)) (fun (u4 : ac_U) (r4 : Int32) => (if r4.toInt ≠ 0 then (bd (f_X10_takeKnown_1_13 (pI u4 23 1 (u4.1 1 9)) (0 : Int32)) (fun (u7 : ac_U) (r7 : Int32) => (if r7.toInt ≠ 0 then ((pI u7 23 2 (u7.1 1 9)), (1 : Int32)) else (u7, (0 : Int32))))) else (u4, (0 : Int32))))) else (u1, (0 : Int32)))))
set_option maxHeartbeats 600000 in
set_option maxRecDepth 100000 in
theorem x_X3_readWhoWhatWhere_22 (l : Launch) (dC : Nat → ClassId) (dI : Nat → Nat → Nat) (ad : Nat → Nat) (cA : Nat → ClassId) (nF : Nat) (u0 : ac_U)  (hR : ac_R rg u0) (hK_N13 : nmI 20 21 u0) : ac_Mi l yX3_readWhoWhatWhere (.code yX3_readWhoWhatWhere cX3_readWhoWhatWhere 1 (some .boolean) :: TB) 5 (dC, dI) vwCl (ac_ty cA) ad cA (TT nF) [.ref (ad 22)] u0 (fun (r : Int32) (u : ac_U) => ac_R rg u ∧ ac_Fr [(1, some 4), (1, some 5), (1, some 6), (1, some 8), (1, some 9), (1, some 10), (1, some 11), (23, none)] u0 u ∧ ((0 : Int) ≤ r.toInt ∧ r.toInt ≤ 1) ∧ nmI 20 21 u ∧ f_X3_readWhoWhatWhere_22 u0 = (u, r)) := by
  refine ac_Mi.of (cc := cX3_readWhoWhatWhere) (maxL := 1) (ret := (some .boolean)) (by decide) rfl (Nat.le_of_ble_eq_true rfl) ?_
  intro p e s m below meth c A ls F hml hr hlocks hA hP hD hS hl
  have F : ac_X p s m [.ref (ad 22)].toArray c cX3_readWhoWhatWhere RX3 TB (dC, dI) vwCl (ac_ty cA) := ⟨F.1, F.2.1, fun w h => F.2.2.1 w (List.mem_cons_of_mem _ h), F.2.2.2.1, F.2.2.2.2⟩
  have hl : lv_has ls 1 [(0, .ref (ad 22))] := hl
  obtain ⟨RR, hRR⟩ : ∃ q, q = f_X3_readWhoWhatWhere_22 u0 := ⟨_, rfl⟩
  have hF : ac_Fr [(1, some 4), (1, some 5), (1, some 6), (1, some 8), (1, some 9), (1, some 10), (1, some 11), (23, none)] u0 u0 := ac_Fr.rf
  have hC : RR = f_X3_readWhoWhatWhere_22 u0 := hRR
  unfold f_X3_readWhoWhatWhere_22 at hC
  refine lv_aload_n F.1 F.2.1 dX3_readWhoWhatWhere_0 rfl (lv_at hl 0 rfl) ?_
  refine a_getr F inX3 hP 22 0 tc_22 rfl rfl (by decide) q244 (fun _ h9 => h9) dX3_readWhoWhatWhere_1 ?_
  refine lv_aload_n F.1 F.2.1 dX3_readWhoWhatWhere_4 rfl (lv_at hl 0 rfl) ?_
  refine a_getr F inX3 hP 22 1 tc_22 rfl rfl (by decide) q245 (fun _ h9 => h9) dX3_readWhoWhatWhere_5 ?_
  refine a_ic F (1 : Int32) dX3_readWhoWhatWhere_8 (by decide) ?_
  refine a_Vi F hml hl.1 hA hP hD hS (As := [.ref (ad 13), .int (1 : Int32)]) (x_X10_takeKnown_1_13 l dC dI ad cA nF _ (1 : Int32) hR (by decide) hK_N13) (cs_RX3_114 (d := 4) F.2.2.1 (by decide)) tc_1 rfl rfl rfl rfl (Nat.le_of_ble_eq_true rfl) dX3_readWhoWhatWhere_9 ⟨Nat.le_refl 0, Nat.le_refl 0⟩ (fun r1 u1 H locs hq hP hD hS => ?_)
  obtain ⟨hR, hF1, gr1, xr1, hz1⟩ := hq
  have hF := hF.tr hF1 (by decide)
  have hK_N13 := sp_fr sp_N13 hF1 (by decide) hK_N13
  have g2 : (0 : Int) ≤ (u1.1 1 9).toInt ∧ (u1.1 1 9).toInt ≤ 7 := hR 1 9
  have xr1 : r1.toInt ≠ 0 → (1 : Int) = 1 → (u1.1 1 9).toInt ≤ 3 := xr1
  have hC := bd_eq hC hz1
  refine z_ne F 17 dX3_readWhoWhatWhere_12 (by decide) rfl (fun c3 => ?_) (fun c3 => ?_)
  · have hC := hC.trans (if_pos c3)
    refine lv_aload_n F.1 F.2.1 dX3_readWhoWhatWhere_17 rfl (lv_at hl 0 rfl) ?_
    refine a_getr F inX3 hP 22 2 tc_22 rfl rfl (by decide) q246 (fun _ h9 => h9) dX3_readWhoWhatWhere_18 ?_
    refine a_ic F (0 : Int32) dX3_readWhoWhatWhere_21 (by decide) ?_
    refine lv_aload_n F.1 F.2.1 dX3_readWhoWhatWhere_22 rfl (lv_at hl 0 rfl) ?_
    refine a_getr F inX3 hP 22 0 tc_22 rfl rfl (by decide) q244 (fun _ h9 => h9) dX3_readWhoWhatWhere_23 ?_
    refine a_geti F inX10 hP 1 9 tc_1 rfl rfl (by decide) q112 (fun _ h9 => h9) (v := (u1.1 1 9)) (rfl) dX3_readWhoWhatWhere_26 ?_
    refine a_iastK F hP hD hS 23 0 tc_23 rfl rfl (i_in ic_0 (by omega)) dX3_readWhoWhatWhere_29 (fun H locs hP hD hS => ?_)
    have hR := hR.si (c := 23) (k := 0) (v := (u1.1 1 9)) ⟨i_lo _, i_hi _⟩
    have hF := hF.si (c := 23) (k := 0) (v := (u1.1 1 9)) rfl
    have hK_N13 := sp_sgD sp_N13 hD hK_N13 (by decide)
    refine lv_aload_n F.1 F.2.1 dX3_readWhoWhatWhere_30 rfl (lv_at hl 0 rfl) ?_
    refine a_getr F inX3 hP 22 0 tc_22 rfl rfl (by decide) q244 (fun _ h9 => h9) dX3_readWhoWhatWhere_31 ?_
    refine lv_aload_n F.1 F.2.1 dX3_readWhoWhatWhere_34 rfl (lv_at hl 0 rfl) ?_
    refine a_getr F inX3 hP 22 1 tc_22 rfl rfl (by decide) q245 (fun _ h9 => h9) dX3_readWhoWhatWhere_35 ?_
    refine a_ic F (2 : Int32) dX3_readWhoWhatWhere_38 (by decide) ?_
    refine a_Vi F hml hl.1 hA hP hD hS (As := [.ref (ad 13), .int (2 : Int32)]) (x_X10_takeKnown_1_13 l dC dI ad cA nF _ (2 : Int32) hR (by decide) hK_N13) (cs_RX3_114 (d := 4) F.2.2.1 (by decide)) tc_1 rfl rfl rfl rfl (Nat.le_of_ble_eq_true rfl) dX3_readWhoWhatWhere_39 ⟨Nat.le_refl 0, Nat.le_refl 0⟩ (fun r4 u4 H locs hq hP hD hS => ?_)
    obtain ⟨hR, hF4, gr4, xr4, hz4⟩ := hq
    have hF := hF.tr hF4 (by decide)
    have hK_N13 := sp_fr sp_N13 hF4 (by decide) hK_N13
    have g5 : (0 : Int) ≤ (u4.1 1 9).toInt ∧ (u4.1 1 9).toInt ≤ 7 := hR 1 9
    have xr4 : r4.toInt ≠ 0 → (2 : Int) = 1 → (u4.1 1 9).toInt ≤ 3 := xr4
    have hC := bd_eq hC hz4
    refine z_ne F 47 dX3_readWhoWhatWhere_42 (by decide) rfl (fun c6 => ?_) (fun c6 => ?_)
    · have hC := hC.trans (if_pos c6)
      refine lv_aload_n F.1 F.2.1 dX3_readWhoWhatWhere_47 rfl (lv_at hl 0 rfl) ?_
      refine a_getr F inX3 hP 22 2 tc_22 rfl rfl (by decide) q246 (fun _ h9 => h9) dX3_readWhoWhatWhere_48 ?_
      refine a_ic F (1 : Int32) dX3_readWhoWhatWhere_51 (by decide) ?_
      refine lv_aload_n F.1 F.2.1 dX3_readWhoWhatWhere_52 rfl (lv_at hl 0 rfl) ?_
      refine a_getr F inX3 hP 22 0 tc_22 rfl rfl (by decide) q244 (fun _ h9 => h9) dX3_readWhoWhatWhere_53 ?_
      refine a_geti F inX10 hP 1 9 tc_1 rfl rfl (by decide) q112 (fun _ h9 => h9) (v := (u4.1 1 9)) (rfl) dX3_readWhoWhatWhere_56 ?_
      refine a_iastK F hP hD hS 23 1 tc_23 rfl rfl (i_in ic_1 (by omega)) dX3_readWhoWhatWhere_59 (fun H locs hP hD hS => ?_)
      have hR := hR.si (c := 23) (k := 1) (v := (u4.1 1 9)) ⟨i_lo _, i_hi _⟩
      have hF := hF.si (c := 23) (k := 1) (v := (u4.1 1 9)) rfl
      have hK_N13 := sp_sgD sp_N13 hD hK_N13 (by decide)
      refine lv_aload_n F.1 F.2.1 dX3_readWhoWhatWhere_60 rfl (lv_at hl 0 rfl) ?_
      refine a_getr F inX3 hP 22 0 tc_22 rfl rfl (by decide) q244 (fun _ h9 => h9) dX3_readWhoWhatWhere_61 ?_
      refine lv_aload_n F.1 F.2.1 dX3_readWhoWhatWhere_64 rfl (lv_at hl 0 rfl) ?_
      refine a_getr F inX3 hP 22 1 tc_22 rfl rfl (by decide) q245 (fun _ h9 => h9) dX3_readWhoWhatWhere_65 ?_
      refine a_ic F (0 : Int32) dX3_readWhoWhatWhere_68 (by decide) ?_
      refine a_Vi F hml hl.1 hA hP hD hS (As := [.ref (ad 13), .int (0 : Int32)]) (x_X10_takeKnown_1_13 l dC dI ad cA nF _ (0 : Int32) hR (by decide) hK_N13) (cs_RX3_114 (d := 4) F.2.2.1 (by decide)) tc_1 rfl rfl rfl rfl (Nat.le_of_ble_eq_true rfl) dX3_readWhoWhatWhere_69 ⟨Nat.le_refl 0, Nat.le_refl 0⟩ (fun r7 u7 H locs hq hP hD hS => ?_)
      obtain ⟨hR, hF7, gr7, xr7, hz7⟩ := hq
      have hF := hF.tr hF7 (by decide)
      have hK_N13 := sp_fr sp_N13 hF7 (by decide) hK_N13
      have g8 : (0 : Int) ≤ (u7.1 1 9).toInt ∧ (u7.1 1 9).toInt ≤ 7 := hR 1 9
      have xr7 : r7.toInt ≠ 0 → (0 : Int) = 1 → (u7.1 1 9).toInt ≤ 3 := xr7
      have hC := bd_eq hC hz7
      refine z_ne F 77 dX3_readWhoWhatWhere_72 (by decide) rfl (fun c9 => ?_) (fun c9 => ?_)
      · have hC := hC.trans (if_pos c9)
        refine lv_aload_n F.1 F.2.1 dX3_readWhoWhatWhere_77 rfl (lv_at hl 0 rfl) ?_
        refine a_getr F inX3 hP 22 2 tc_22 rfl rfl (by decide) q246 (fun _ h9 => h9) dX3_readWhoWhatWhere_78 ?_
        refine a_ic F (2 : Int32) dX3_readWhoWhatWhere_81 (by decide) ?_
        refine lv_aload_n F.1 F.2.1 dX3_readWhoWhatWhere_82 rfl (lv_at hl 0 rfl) ?_
        refine a_getr F inX3 hP 22 0 tc_22 rfl rfl (by decide) q244 (fun _ h9 => h9) dX3_readWhoWhatWhere_83 ?_
        refine a_geti F inX10 hP 1 9 tc_1 rfl rfl (by decide) q112 (fun _ h9 => h9) (v := (u7.1 1 9)) (rfl) dX3_readWhoWhatWhere_86 ?_
        refine a_iastK F hP hD hS 23 2 tc_23 rfl rfl (i_in ic_2 (by omega)) dX3_readWhoWhatWhere_89 (fun H locs hP hD hS => ?_)
        have hR := hR.si (c := 23) (k := 2) (v := (u7.1 1 9)) (by omega : (0 : Int) ≤ (u7.1 1 9).toInt ∧ (u7.1 1 9).toInt ≤ 7)
        have hF := hF.si (c := 23) (k := 2) (v := (u7.1 1 9)) rfl
        have hK_N13 := sp_sgD sp_N13 hD hK_N13 (by decide)
        refine a_ic F (1 : Int32) dX3_readWhoWhatWhere_90 (by decide) ?_
        exact a_retz F hr hlocks hP hD hS dX3_readWhoWhatWhere_91 (Or.inr rfl) ⟨hR, hF, (by decide), hK_N13, hRR.symm.trans hC⟩
      · have hC := hC.trans (if_neg (by omega))
        refine a_ic F (0 : Int32) dX3_readWhoWhatWhere_75 (by decide) ?_
        exact a_retz F hr hlocks hP hD hS dX3_readWhoWhatWhere_76 (Or.inl rfl) ⟨hR, hF, (by decide), hK_N13, hRR.symm.trans hC⟩
    · have hC := hC.trans (if_neg (by omega))
      refine a_ic F (0 : Int32) dX3_readWhoWhatWhere_45 (by decide) ?_
      exact a_retz F hr hlocks hP hD hS dX3_readWhoWhatWhere_46 (Or.inl rfl) ⟨hR, hF, (by decide), hK_N13, hRR.symm.trans hC⟩
  · have hC := hC.trans (if_neg (by omega))
    refine a_ic F (0 : Int32) dX3_readWhoWhatWhere_15 (by decide) ?_
    exact a_retz F hr hlocks hP hD hS dX3_readWhoWhatWhere_16 (Or.inl rfl) ⟨hR, hF, (by decide), hK_N13, hRR.symm.trans hC⟩
def K_X3_readPromise_22_66 (u0 : ac_U) (u : ac_U) : ac_U × Int32 := (u, (0 : Int32))
def f_X3_readPromise_22 (u0 : ac_U) : ac_U × Int32 := (if (u0.1 13 6).toInt < (8 : Int) then (bd (f_X10_takeNew_1_13 u0) (fun (u3 : ac_U) (r3 : Int32) => (if r3.toInt ≠ 0 then (bd (f_X3_readWhoWhatWhere_22 u3) (fun (u5 : ac_U) (r5 : Int32) => (if r5.toInt = 0 then (K_X3_readPromise_22_66 u0 u5) else (bd (f_X3_readWhenHowOften_22 u5) (fun (u7 : ac_U) (r7 : Int32) => (if r7.toInt = 0 then (K_X3_readPromise_22_66 u0 u7) else (bd (f_X3_readEachUnless_22 u7) (fun (u9 : ac_U) (r9 : Int32) => (if r9.toInt ≠ 0 then (vl (f_X2_addPromise_13_23 u9 (u3.2 1 7)) (fun (u11 : ac_U) => (u11, (1 : Int32)))) else (K_X3_readPromise_22_66 u0 u9)))))))))) else (u3, (0 : Int32))))) else (bd (f_X10_fail_1 u0 (4 : Int32)) (fun (u12 : ac_U) (r12 : Int32) => (u12, r12))))
set_option maxHeartbeats 600000 in
set_option maxRecDepth 100000 in
theorem x_X3_readPromise_22 (l : Launch) (dC : Nat → ClassId) (dI : Nat → Nat → Nat) (ad : Nat → Nat) (cA : Nat → ClassId) (nF : Nat) (u0 : ac_U)  (hR : ac_R rg u0) (hK_N13 : nmI 20 21 u0) : ac_Mi l yX3_readPromise (.code yX3_readPromise cX3_readPromise 3 (some .boolean) :: TB) 6 (dC, dI) vwCl (ac_ty cA) ad cA (TT nF) [.ref (ad 22)] u0 (fun (r : Int32) (u : ac_U) => ac_R rg u ∧ ac_Fr [(1, some 4), (1, some 5), (1, some 6), (1, some 8), (1, some 9), (1, some 10), (1, some 11), (13, some 6), (13, some 8), (17, none), (20, none), (21, none), (23, none)] u0 u ∧ ((0 : Int) ≤ r.toInt ∧ r.toInt ≤ 1) ∧ nmI 20 21 u ∧ f_X3_readPromise_22 u0 = (u, r)) := by
  refine ac_Mi.of (cc := cX3_readPromise) (maxL := 3) (ret := (some .boolean)) (by decide) rfl (Nat.le_of_ble_eq_true rfl) ?_
  intro p e s m below meth c A ls F hml hr hlocks hA hP hD hS hl
  have F : ac_X p s m [.ref (ad 22)].toArray c cX3_readPromise RX3 TB (dC, dI) vwCl (ac_ty cA) := ⟨F.1, F.2.1, fun w h => F.2.2.1 w (List.mem_cons_of_mem _ h), F.2.2.2.1, F.2.2.2.2⟩
  have hl : lv_has ls 3 [(0, .ref (ad 22))] := hl
  obtain ⟨RR, hRR⟩ : ∃ q, q = f_X3_readPromise_22 u0 := ⟨_, rfl⟩
  have hF : ac_Fr [(1, some 4), (1, some 5), (1, some 6), (1, some 8), (1, some 9), (1, some 10), (1, some 11), (13, some 6), (13, some 8), (17, none), (20, none), (21, none), (23, none)] u0 u0 := ac_Fr.rf
  have L66 : ∀ (u : ac_U) (H : Heap) (locs : List Loc) (ls : Array Slot), ac_R rg u → ac_Fr [(1, some 4), (1, some 5), (1, some 6), (1, some 8), (1, some 9), (1, some 10), (1, some 11), (13, some 6), (13, some 8), (17, none), (20, none), (21, none), (23, none)] u0 u → nmI 20 21 u → (0 : Int) ≤ (u.1 13 6).toInt ∧ (u.1 13 6).toInt ≤ 7 → RR = (K_X3_readPromise_22_66 u0 u) → va_P (dC, dI) vwCl (ac_w ad cA (TT nF) u) H → va_D A (ac_w ad cA (TT nF) u) → va_S A s.heap H locs → lv_has ls 3 [] → W p l e (ac_rm 6) s m [.ref (ad 22)].toArray below meth c H locs 0 0 (MQ below (va_Qi (fun (r : Int32) (u : ac_U) => ac_R rg u ∧ ac_Fr [(1, some 4), (1, some 5), (1, some 6), (1, some 8), (1, some 9), (1, some 10), (1, some 11), (13, some 6), (13, some 8), (17, none), (20, none), (21, none), (23, none)] u0 u ∧ ((0 : Int) ≤ r.toInt ∧ r.toInt ≤ 1) ∧ nmI 20 21 u ∧ f_X3_readPromise_22 u0 = (u, r)) (ac_B (dC, dI) vwCl (ac_ty cA) ad cA (TT nF) A) A) [.ref (ad 22)].toArray s 0 0 A) (F0 m 66 ls []) := by
    intro u H locs ls hR hF hK_N13 f0 hC hP hD hS hl
    unfold K_X3_readPromise_22_66 at hC
    refine a_ic F (0 : Int32) dX3_readPromise_66 (by decide) ?_
    exact a_retz F hr hlocks hP hD hS dX3_readPromise_67 (Or.inl rfl) ⟨hR, hF, (by decide), hK_N13, hRR.symm.trans hC⟩
  have hC : RR = f_X3_readPromise_22 u0 := hRR
  unfold f_X3_readPromise_22 at hC
  refine lv_aload_n F.1 F.2.1 dX3_readPromise_0 rfl (lv_at hl 0 rfl) ?_
  refine a_getr F inX3 hP 22 1 tc_22 rfl rfl (by decide) q245 (fun _ h9 => h9) dX3_readPromise_1 ?_
  have g1 : (0 : Int) ≤ (u0.1 13 6).toInt ∧ (u0.1 13 6).toInt ≤ 8 := hR 13 6
  refine a_geti F inX2 hP 13 6 tc_13 rfl rfl (by decide) q181 (fun _ h9 => h9) (v := (u0.1 13 6)) rfl dX3_readPromise_4 ?_
  refine a_bp F (8 : Int32) dX3_readPromise_7 (by decide) ?_
  refine b_lt F 21 dX3_readPromise_9 (by decide) rfl ic_8 (fun c2 => ?_) (fun c2 => ?_)
  · have hC := hC.trans (if_pos c2)
    refine lv_aload_n F.1 F.2.1 dX3_readPromise_21 rfl (lv_at hl 0 rfl) ?_
    refine a_getr F inX3 hP 22 0 tc_22 rfl rfl (by decide) q244 (fun _ h9 => h9) dX3_readPromise_22 ?_
    refine lv_aload_n F.1 F.2.1 dX3_readPromise_25 rfl (lv_at hl 0 rfl) ?_
    refine a_getr F inX3 hP 22 1 tc_22 rfl rfl (by decide) q245 (fun _ h9 => h9) dX3_readPromise_26 ?_
    refine a_Vi F hml hl.1 hA hP hD hS (As := [.ref (ad 13)]) (x_X10_takeNew_1_13 l dC dI ad cA nF _  hR) (cs_RX3_93 (d := 4) F.2.2.1 (by decide)) tc_1 rfl rfl rfl rfl (Nat.le_of_ble_eq_true rfl) dX3_readPromise_29 ⟨Nat.le_refl 0, Nat.le_refl 0⟩ (fun r3 u3 H locs hq hP hD hS => ?_)
    obtain ⟨hR, hF3, gr3, hz3⟩ := hq
    have hF := hF.tr hF3 (by decide)
    have hK_N13 := sp_fr sp_N13 hF3 (by decide) hK_N13
    have hC := bd_eq hC hz3
    refine z_ne F 37 dX3_readPromise_32 (by decide) rfl (fun c4 => ?_) (fun c4 => ?_)
    · have hC := hC.trans (if_pos c4)
      refine lv_aload_n F.1 F.2.1 dX3_readPromise_37 rfl (lv_at hl 0 rfl) ?_
      refine a_getr F inX3 hP 22 0 tc_22 rfl rfl (by decide) q244 (fun _ h9 => h9) dX3_readPromise_38 ?_
      refine a_getl F inX10 hP 1 7 tc_1 rfl rfl (by decide) q105 (fun _ h9 => h9) (v := (u3.2 1 7)) rfl dX3_readPromise_41 ?_
      refine lv_lstore_n (lv' := [(1, .long (u3.2 1 7)), (0, .ref (ad 22))]) F.1 F.2.1 dX3_readPromise_44 rfl hl (by decide) rfl (fun ls hl => ?_)
      refine lv_aload_n F.1 F.2.1 dX3_readPromise_45 rfl (lv_at hl 1 rfl) ?_
      refine a_Vi F hml hl.1 hA hP hD hS (As := []) (x_X3_readWhoWhatWhere_22 l dC dI ad cA nF _  hR hK_N13) (cs_RX3_144 (d := 5) F.2.2.1 (by decide)) tc_22 rfl rfl rfl rfl (Nat.le_of_ble_eq_true rfl) dX3_readPromise_46 ⟨Nat.le_refl 0, Nat.le_refl 0⟩ (fun r5 u5 H locs hq hP hD hS => ?_)
      obtain ⟨hR, hF5, gr5, hK_N13, hz5⟩ := hq
      have hF := hF.tr hF5 (by decide)
      have hC := bd_eq hC hz5
      refine z_eq F 66 dX3_readPromise_49 (by decide) rfl (fun c6 => ?_) (fun c6 => ?_)
      · have hC := hC.trans (if_pos c6)
        exact L66 _ _ _ _ hR hF hK_N13 (i_trB ((hF5 13 6 rfl).trans (hF3 13 6 rfl)) (by omega : (0 : Int) ≤ (u0.1 13 6).toInt ∧ (u0.1 13 6).toInt ≤ 7)) hC hP hD hS (lv_sub hl [] rfl)
      · have hC := hC.trans (if_neg (by omega))
        refine lv_aload_n F.1 F.2.1 dX3_readPromise_52 rfl (lv_at hl 1 rfl) ?_
        refine a_Vi F hml hl.1 hA hP hD hS (As := []) (x_X3_readWhenHowOften_22 l dC dI ad cA nF _  hR hK_N13) (cs_RX3_147 (d := 5) F.2.2.1 (by decide)) tc_22 rfl rfl rfl rfl (Nat.le_of_ble_eq_true rfl) dX3_readPromise_53 ⟨Nat.le_refl 0, Nat.le_refl 0⟩ (fun r7 u7 H locs hq hP hD hS => ?_)
        obtain ⟨hR, hF7, gr7, hK_N13, hz7⟩ := hq
        have hF := hF.tr hF7 (by decide)
        have hC := bd_eq hC hz7
        refine z_eq F 66 dX3_readPromise_56 (by decide) rfl (fun c8 => ?_) (fun c8 => ?_)
        · have hC := hC.trans (if_pos c8)
          exact L66 _ _ _ _ hR hF hK_N13 (i_trB ((hF7 13 6 rfl).trans ((hF5 13 6 rfl).trans (hF3 13 6 rfl))) (by omega : (0 : Int) ≤ (u0.1 13 6).toInt ∧ (u0.1 13 6).toInt ≤ 7)) hC hP hD hS (lv_sub hl [] rfl)
        · have hC := hC.trans (if_neg (by omega))
          refine lv_aload_n F.1 F.2.1 dX3_readPromise_59 rfl (lv_at hl 1 rfl) ?_
          refine a_Vi F hml hl.1 hA hP hD hS (As := []) (x_X3_readEachUnless_22 l dC dI ad cA nF _  hR hK_N13) (cs_RX3_150 (d := 5) F.2.2.1 (by decide)) tc_22 rfl rfl rfl rfl (Nat.le_of_ble_eq_true rfl) dX3_readPromise_60 ⟨Nat.le_refl 0, Nat.le_refl 0⟩ (fun r9 u9 H locs hq hP hD hS => ?_)
          obtain ⟨hR, hF9, gr9, hK_N13, hz9⟩ := hq
          have hF := hF.tr hF9 (by decide)
          have hC := bd_eq hC hz9
          refine z_ne F 68 dX3_readPromise_63 (by decide) rfl (fun c10 => ?_) (fun c10 => ?_)
          · have hC := hC.trans (if_pos c10)
            refine lv_aload_n F.1 F.2.1 dX3_readPromise_68 rfl (lv_at hl 1 rfl) ?_
            refine a_getr F inX3 hP 22 1 tc_22 rfl rfl (by decide) q245 (fun _ h9 => h9) dX3_readPromise_69 ?_
            refine lv_lload_n F.1 F.2.1 dX3_readPromise_72 rfl (lv_at hl 0 rfl) ?_
            refine lv_aload_n F.1 F.2.1 dX3_readPromise_73 rfl (lv_at hl 1 rfl) ?_
            refine a_getr F inX3 hP 22 2 tc_22 rfl rfl (by decide) q246 (fun _ h9 => h9) dX3_readPromise_74 ?_
            refine a_Vv F hml hl.1 hA hP hD hS (As := [.long (u3.2 1 7), .ref (ad 23)]) (x_X2_addPromise_13_23 l dC dI ad cA nF _ (u3.2 1 7) hR hK_N13) (cs_RX3_153 (d := 2) F.2.2.1 (by decide)) tc_13 rfl rfl rfl rfl (Nat.le_of_ble_eq_true rfl) dX3_readPromise_77 ⟨Nat.le_refl 0, Nat.le_refl 0⟩ (fun u11 H locs hq hP hD hS => ?_)
            obtain ⟨hR, hF11, hK_N13, hz11⟩ := hq
            have hF := hF.tr hF11 (by decide)
            have hC := vl_eq hC hz11.symm
            refine a_ic F (1 : Int32) dX3_readPromise_80 (by decide) ?_
            exact a_retz F hr hlocks hP hD hS dX3_readPromise_81 (Or.inr rfl) ⟨hR, hF, (by decide), hK_N13, hRR.symm.trans hC⟩
          · have hC := hC.trans (if_neg (by omega))
            exact L66 _ _ _ _ hR hF hK_N13 (i_trB ((hF9 13 6 rfl).trans ((hF7 13 6 rfl).trans ((hF5 13 6 rfl).trans (hF3 13 6 rfl)))) (by omega : (0 : Int) ≤ (u0.1 13 6).toInt ∧ (u0.1 13 6).toInt ≤ 7)) hC hP hD hS (lv_sub hl [] rfl)
    · have hC := hC.trans (if_neg (by omega))
      refine a_ic F (0 : Int32) dX3_readPromise_35 (by decide) ?_
      exact a_retz F hr hlocks hP hD hS dX3_readPromise_36 (Or.inl rfl) ⟨hR, hF, (by decide), hK_N13, hRR.symm.trans hC⟩
  · have hC := hC.trans (if_neg (by omega))
    refine lv_aload_n F.1 F.2.1 dX3_readPromise_12 rfl (lv_at hl 0 rfl) ?_
    refine a_getr F inX3 hP 22 0 tc_22 rfl rfl (by decide) q244 (fun _ h9 => h9) dX3_readPromise_13 ?_
    refine a_ic F (4 : Int32) dX3_readPromise_16 (by decide) ?_
    refine a_Vi F hml hl.1 hA hP hD hS (As := [.int (4 : Int32)]) (x_X10_fail_1 l dC dI ad cA nF _ (4 : Int32) hR (by decide)) (cs_RX3_70 (d := 1) F.2.2.1 (by decide)) tc_1 rfl rfl rfl rfl (Nat.le_of_ble_eq_true rfl) dX3_readPromise_17 ⟨Nat.le_refl 0, Nat.le_refl 0⟩ (fun r12 u12 H locs hq hP hD hS => ?_)
    obtain ⟨hR, hF12, gr12, hz12⟩ := hq
    have hF := hF.tr hF12 (by decide)
    have hK_N13 := sp_fr sp_N13 hF12 (by decide) hK_N13
    have hC := bd_eq hC hz12
    exact a_retz F hr hlocks hP hD hS dX3_readPromise_20 (i_01 (by omega)) ⟨hR, hF, (by omega : (0 : Int) ≤ r12.toInt ∧ r12.toInt ≤ 1), hK_N13, hRR.symm.trans hC⟩
def K_X3_readVow_22_88 (u0 : ac_U) (u : ac_U) : ac_U × Int32 := (bd (f_X10_fail_1 u (3 : Int32)) (fun (u1 : ac_U) (r1 : Int32) => (u1, r1)))
def f_X3_readVow_22 (u0 : ac_U) : ac_U × Int32 := (if (u0.1 13 7).toInt < (8 : Int) then (bd (f_X10_takeKnown_1_13 u0 (3 : Int32)) (fun (u4 : ac_U) (r4 : Int32) => (if r4.toInt ≠ 0 then (bd (f_X10_takeKnown_1_13 u4 (3 : Int32)) (fun (u7 : ac_U) (r7 : Int32) => (if r7.toInt ≠ 0 then (if (u4.1 1 9).toInt = (u7.1 1 9).toInt then (K_X3_readVow_22_88 u0 u7) else (vl (f_X2_isVow_13 u7 (u4.1 1 9) (u7.1 1 9)) (fun (r11 : Int32) => (if r11.toInt = 0 then (vl (f_X2_addVow_13 u7 (u4.1 1 9) (u7.1 1 9)) (fun (u13 : ac_U) => (bd (f_X10_takeSign_1 u13 (59 : Int32)) (fun (u14 : ac_U) (r14 : Int32) => (u14, r14))))) else (K_X3_readVow_22_88 u0 u7))))) else (u7, (0 : Int32))))) else (u4, (0 : Int32))))) else (bd (f_X10_fail_1 u0 (4 : Int32)) (fun (u15 : ac_U) (r15 : Int32) => (u15, r15))))
set_option maxHeartbeats 600000 in
set_option maxRecDepth 100000 in
theorem x_X3_readVow_22 (l : Launch) (dC : Nat → ClassId) (dI : Nat → Nat → Nat) (ad : Nat → Nat) (cA : Nat → ClassId) (nF : Nat) (u0 : ac_U)  (hR : ac_R rg u0) (hK_N13 : nmI 20 21 u0) : ac_Mi l yX3_readVow (.code yX3_readVow cX3_readVow 3 (some .boolean) :: TB) 5 (dC, dI) vwCl (ac_ty cA) ad cA (TT nF) [.ref (ad 22)] u0 (fun (r : Int32) (u : ac_U) => ac_R rg u ∧ ac_Fr [(1, some 4), (1, some 5), (1, some 6), (1, some 8), (1, some 9), (1, some 10), (1, some 11), (13, some 7), (18, none)] u0 u ∧ ((0 : Int) ≤ r.toInt ∧ r.toInt ≤ 1) ∧ nmI 20 21 u ∧ f_X3_readVow_22 u0 = (u, r)) := by
  refine ac_Mi.of (cc := cX3_readVow) (maxL := 3) (ret := (some .boolean)) (by decide) rfl (Nat.le_of_ble_eq_true rfl) ?_
  intro p e s m below meth c A ls F hml hr hlocks hA hP hD hS hl
  have F : ac_X p s m [.ref (ad 22)].toArray c cX3_readVow RX3 TB (dC, dI) vwCl (ac_ty cA) := ⟨F.1, F.2.1, fun w h => F.2.2.1 w (List.mem_cons_of_mem _ h), F.2.2.2.1, F.2.2.2.2⟩
  have hl : lv_has ls 3 [(0, .ref (ad 22))] := hl
  obtain ⟨RR, hRR⟩ : ∃ q, q = f_X3_readVow_22 u0 := ⟨_, rfl⟩
  have hF : ac_Fr [(1, some 4), (1, some 5), (1, some 6), (1, some 8), (1, some 9), (1, some 10), (1, some 11), (13, some 7), (18, none)] u0 u0 := ac_Fr.rf
  have L88 : ∀ (u : ac_U) (H : Heap) (locs : List Loc) (ls : Array Slot), ac_R rg u → ac_Fr [(1, some 4), (1, some 5), (1, some 6), (1, some 8), (1, some 9), (1, some 10), (1, some 11), (13, some 7), (18, none)] u0 u → nmI 20 21 u → (0 : Int) ≤ (u.1 13 7).toInt ∧ (u.1 13 7).toInt ≤ 7 → RR = (K_X3_readVow_22_88 u0 u) → va_P (dC, dI) vwCl (ac_w ad cA (TT nF) u) H → va_D A (ac_w ad cA (TT nF) u) → va_S A s.heap H locs → lv_has ls 3 [(0, .ref (ad 22))] → W p l e (ac_rm 5) s m [.ref (ad 22)].toArray below meth c H locs 0 0 (MQ below (va_Qi (fun (r : Int32) (u : ac_U) => ac_R rg u ∧ ac_Fr [(1, some 4), (1, some 5), (1, some 6), (1, some 8), (1, some 9), (1, some 10), (1, some 11), (13, some 7), (18, none)] u0 u ∧ ((0 : Int) ≤ r.toInt ∧ r.toInt ≤ 1) ∧ nmI 20 21 u ∧ f_X3_readVow_22 u0 = (u, r)) (ac_B (dC, dI) vwCl (ac_ty cA) ad cA (TT nF) A) A) [.ref (ad 22)].toArray s 0 0 A) (F0 m 88 ls []) := by
    intro u H locs ls hR hF hK_N13 f0 hC hP hD hS hl
    unfold K_X3_readVow_22_88 at hC
    refine lv_aload_n F.1 F.2.1 dX3_readVow_88 rfl (lv_at hl 0 rfl) ?_
    refine a_getr F inX3 hP 22 0 tc_22 rfl rfl (by decide) q244 (fun _ h9 => h9) dX3_readVow_89 ?_
    refine a_ic F (3 : Int32) dX3_readVow_92 (by decide) ?_
    refine a_Vi F hml hl.1 hA hP hD hS (As := [.int (3 : Int32)]) (x_X10_fail_1 l dC dI ad cA nF _ (3 : Int32) hR (by decide)) (cs_RX3_70 (d := 1) F.2.2.1 (by decide)) tc_1 rfl rfl rfl rfl (Nat.le_of_ble_eq_true rfl) dX3_readVow_93 ⟨Nat.le_refl 0, Nat.le_refl 0⟩ (fun r1 u1 H locs hq hP hD hS => ?_)
    obtain ⟨hR, hF1, gr1, hz1⟩ := hq
    have hF := hF.tr hF1 (by decide)
    have hK_N13 := sp_fr sp_N13 hF1 (by decide) hK_N13
    have hC := bd_eq hC hz1
    exact a_retz F hr hlocks hP hD hS dX3_readVow_96 (i_01 (by omega)) ⟨hR, hF, (by omega : (0 : Int) ≤ r1.toInt ∧ r1.toInt ≤ 1), hK_N13, hRR.symm.trans hC⟩
  have hC : RR = f_X3_readVow_22 u0 := hRR
  unfold f_X3_readVow_22 at hC
  refine lv_aload_n F.1 F.2.1 dX3_readVow_0 rfl (lv_at hl 0 rfl) ?_
  refine a_getr F inX3 hP 22 1 tc_22 rfl rfl (by decide) q245 (fun _ h9 => h9) dX3_readVow_1 ?_
  have g2 : (0 : Int) ≤ (u0.1 13 7).toInt ∧ (u0.1 13 7).toInt ≤ 8 := hR 13 7
  refine a_geti F inX2 hP 13 7 tc_13 rfl rfl (by decide) q186 (fun _ h9 => h9) (v := (u0.1 13 7)) rfl dX3_readVow_4 ?_
  refine a_bp F (8 : Int32) dX3_readVow_7 (by decide) ?_
  refine b_lt F 21 dX3_readVow_9 (by decide) rfl ic_8 (fun c3 => ?_) (fun c3 => ?_)
  · have hC := hC.trans (if_pos c3)
    refine lv_aload_n F.1 F.2.1 dX3_readVow_21 rfl (lv_at hl 0 rfl) ?_
    refine a_getr F inX3 hP 22 0 tc_22 rfl rfl (by decide) q244 (fun _ h9 => h9) dX3_readVow_22 ?_
    refine lv_aload_n F.1 F.2.1 dX3_readVow_25 rfl (lv_at hl 0 rfl) ?_
    refine a_getr F inX3 hP 22 1 tc_22 rfl rfl (by decide) q245 (fun _ h9 => h9) dX3_readVow_26 ?_
    refine a_ic F (3 : Int32) dX3_readVow_29 (by decide) ?_
    refine a_Vi F hml hl.1 hA hP hD hS (As := [.ref (ad 13), .int (3 : Int32)]) (x_X10_takeKnown_1_13 l dC dI ad cA nF _ (3 : Int32) hR (by decide) hK_N13) (cs_RX3_114 (d := 4) F.2.2.1 (by decide)) tc_1 rfl rfl rfl rfl (Nat.le_of_ble_eq_true rfl) dX3_readVow_30 ⟨Nat.le_refl 0, Nat.le_refl 0⟩ (fun r4 u4 H locs hq hP hD hS => ?_)
    obtain ⟨hR, hF4, gr4, xr4, hz4⟩ := hq
    have hF := hF.tr hF4 (by decide)
    have hK_N13 := sp_fr sp_N13 hF4 (by decide) hK_N13
    have g5 : (0 : Int) ≤ (u4.1 1 9).toInt ∧ (u4.1 1 9).toInt ≤ 7 := hR 1 9
    have xr4 : r4.toInt ≠ 0 → (3 : Int) = 1 → (u4.1 1 9).toInt ≤ 3 := xr4
    have hC := bd_eq hC hz4
    refine z_ne F 38 dX3_readVow_33 (by decide) rfl (fun c6 => ?_) (fun c6 => ?_)
    · have hC := hC.trans (if_pos c6)
      refine lv_aload_n F.1 F.2.1 dX3_readVow_38 rfl (lv_at hl 0 rfl) ?_
      refine a_getr F inX3 hP 22 0 tc_22 rfl rfl (by decide) q244 (fun _ h9 => h9) dX3_readVow_39 ?_
      refine a_geti F inX10 hP 1 9 tc_1 rfl rfl (by decide) q112 (fun _ h9 => h9) (v := (u4.1 1 9)) (rfl) dX3_readVow_42 ?_
      refine lv_istore_n (lv' := [(1, .int (u4.1 1 9)), (0, .ref (ad 22))]) F.1 F.2.1 dX3_readVow_45 rfl hl (by decide) rfl (fun ls hl => ?_)
      refine lv_aload_n F.1 F.2.1 dX3_readVow_46 rfl (lv_at hl 1 rfl) ?_
      refine a_getr F inX3 hP 22 0 tc_22 rfl rfl (by decide) q244 (fun _ h9 => h9) dX3_readVow_47 ?_
      refine lv_aload_n F.1 F.2.1 dX3_readVow_50 rfl (lv_at hl 1 rfl) ?_
      refine a_getr F inX3 hP 22 1 tc_22 rfl rfl (by decide) q245 (fun _ h9 => h9) dX3_readVow_51 ?_
      refine a_ic F (3 : Int32) dX3_readVow_54 (by decide) ?_
      refine a_Vi F hml hl.1 hA hP hD hS (As := [.ref (ad 13), .int (3 : Int32)]) (x_X10_takeKnown_1_13 l dC dI ad cA nF _ (3 : Int32) hR (by decide) hK_N13) (cs_RX3_114 (d := 4) F.2.2.1 (by decide)) tc_1 rfl rfl rfl rfl (Nat.le_of_ble_eq_true rfl) dX3_readVow_55 ⟨Nat.le_refl 0, Nat.le_refl 0⟩ (fun r7 u7 H locs hq hP hD hS => ?_)
      obtain ⟨hR, hF7, gr7, xr7, hz7⟩ := hq
      have hF := hF.tr hF7 (by decide)
      have hK_N13 := sp_fr sp_N13 hF7 (by decide) hK_N13
      have g8 : (0 : Int) ≤ (u7.1 1 9).toInt ∧ (u7.1 1 9).toInt ≤ 7 := hR 1 9
      have xr7 : r7.toInt ≠ 0 → (3 : Int) = 1 → (u7.1 1 9).toInt ≤ 3 := xr7
      have hC := bd_eq hC hz7
      refine z_ne F 63 dX3_readVow_58 (by decide) rfl (fun c9 => ?_) (fun c9 => ?_)
      · have hC := hC.trans (if_pos c9)
        refine lv_aload_n F.1 F.2.1 dX3_readVow_63 rfl (lv_at hl 1 rfl) ?_
        refine a_getr F inX3 hP 22 0 tc_22 rfl rfl (by decide) q244 (fun _ h9 => h9) dX3_readVow_64 ?_
        refine a_geti F inX10 hP 1 9 tc_1 rfl rfl (by decide) q112 (fun _ h9 => h9) (v := (u7.1 1 9)) (rfl) dX3_readVow_67 ?_
        refine lv_istore_n (lv' := [(2, .int (u7.1 1 9)), (1, .int (u4.1 1 9)), (0, .ref (ad 22))]) F.1 F.2.1 dX3_readVow_70 rfl hl (by decide) rfl (fun ls hl => ?_)
        refine lv_iload_n F.1 F.2.1 dX3_readVow_71 rfl (lv_at hl 1 rfl) ?_
        refine lv_iload_n F.1 F.2.1 dX3_readVow_72 rfl (lv_at hl 0 rfl) ?_
        refine b_eq F 88 dX3_readVow_73 (by decide) rfl rfl (fun c10 => ?_) (fun c10 => ?_)
        · have hC := hC.trans (if_pos c10)
          exact L88 _ _ _ _ hR hF hK_N13 (i_trB ((hF7 13 7 rfl).trans (hF4 13 7 rfl)) (by omega : (0 : Int) ≤ (u0.1 13 7).toInt ∧ (u0.1 13 7).toInt ≤ 7)) hC hP hD hS (lv_sub hl [2] rfl)
        · have hC := hC.trans (if_neg (by omega))
          refine lv_aload_n F.1 F.2.1 dX3_readVow_76 rfl (lv_at hl 2 rfl) ?_
          refine a_getr F inX3 hP 22 1 tc_22 rfl rfl (by decide) q245 (fun _ h9 => h9) dX3_readVow_77 ?_
          refine lv_iload_n F.1 F.2.1 dX3_readVow_80 rfl (lv_at hl 1 rfl) ?_
          refine lv_iload_n F.1 F.2.1 dX3_readVow_81 rfl (lv_at hl 0 rfl) ?_
          refine a_Vi F hml hl.1 hA hP hD hS (As := [.int (u4.1 1 9), .int (u7.1 1 9)]) (x_X2_isVow_13 l dC dI ad cA nF _ (u4.1 1 9) (u7.1 1 9) hR (by omega) (by omega)) (cs_RX3_160 (d := 1) F.2.2.1 (by decide)) tc_13 rfl rfl rfl rfl (Nat.le_of_ble_eq_true rfl) dX3_readVow_82 ⟨Nat.le_refl 0, Nat.le_refl 0⟩ (fun r11 uN11 H locs hq hP hD hS => ?_)
          obtain ⟨hu11, gr11, hz11⟩ := hq
          rw [hu11] at hP hD
          have hC := vl_eq hC hz11.symm
          refine z_eq F 97 dX3_readVow_85 (by decide) rfl (fun c12 => ?_) (fun c12 => ?_)
          · have hC := hC.trans (if_pos c12)
            refine lv_aload_n F.1 F.2.1 dX3_readVow_97 rfl (lv_at hl 2 rfl) ?_
            refine a_getr F inX3 hP 22 1 tc_22 rfl rfl (by decide) q245 (fun _ h9 => h9) dX3_readVow_98 ?_
            refine lv_iload_n F.1 F.2.1 dX3_readVow_101 rfl (lv_at hl 1 rfl) ?_
            refine lv_iload_n F.1 F.2.1 dX3_readVow_102 rfl (lv_at hl 0 rfl) ?_
            refine a_Vv F hml hl.1 hA hP hD hS (As := [.int (u4.1 1 9), .int (u7.1 1 9)]) (x_X2_addVow_13 l dC dI ad cA nF _ (u4.1 1 9) (u7.1 1 9) hR (by omega) (by omega) (i_trB ((hF7 13 7 rfl).trans (hF4 13 7 rfl)) (by omega : (0 : Int) ≤ (u0.1 13 7).toInt ∧ (u0.1 13 7).toInt ≤ 7))) (cs_RX3_163 (d := 1) F.2.2.1 (by decide)) tc_13 rfl rfl rfl rfl (Nat.le_of_ble_eq_true rfl) dX3_readVow_103 ⟨Nat.le_refl 0, Nat.le_refl 0⟩ (fun u13 H locs hq hP hD hS => ?_)
            obtain ⟨hR, hF13, hz13⟩ := hq
            have hF := hF.tr hF13 (by decide)
            have hK_N13 := sp_fr sp_N13 hF13 (by decide) hK_N13
            have hC := vl_eq hC hz13.symm
            refine lv_aload_n F.1 F.2.1 dX3_readVow_106 rfl (lv_at hl 2 rfl) ?_
            refine a_getr F inX3 hP 22 0 tc_22 rfl rfl (by decide) q244 (fun _ h9 => h9) dX3_readVow_107 ?_
            refine a_bp F (59 : Int32) dX3_readVow_110 (by decide) ?_
            refine a_Vi F hml hl.1 hA hP hD hS (As := [.int (59 : Int32)]) (x_X10_takeSign_1 l dC dI ad cA nF _ (59 : Int32) hR (by decide)) (cs_RX3_87 (d := 4) F.2.2.1 (by decide)) tc_1 rfl rfl rfl rfl (Nat.le_of_ble_eq_true rfl) dX3_readVow_112 ⟨Nat.le_refl 0, Nat.le_refl 0⟩ (fun r14 u14 H locs hq hP hD hS => ?_)
            obtain ⟨hR, hF14, gr14, hz14⟩ := hq
            have hF := hF.tr hF14 (by decide)
            have hK_N13 := sp_fr sp_N13 hF14 (by decide) hK_N13
            have hC := bd_eq hC hz14
            exact a_retz F hr hlocks hP hD hS dX3_readVow_115 (i_01 (by omega)) ⟨hR, hF, (by omega : (0 : Int) ≤ r14.toInt ∧ r14.toInt ≤ 1), hK_N13, hRR.symm.trans hC⟩
          · have hC := hC.trans (if_neg (by omega))
            exact L88 _ _ _ _ hR hF hK_N13 (i_trB ((hF7 13 7 rfl).trans (hF4 13 7 rfl)) (by omega : (0 : Int) ≤ (u0.1 13 7).toInt ∧ (u0.1 13 7).toInt ≤ 7)) hC hP hD hS (lv_sub hl [2] rfl)
      · have hC := hC.trans (if_neg (by omega))
        refine a_ic F (0 : Int32) dX3_readVow_61 (by decide) ?_
        exact a_retz F hr hlocks hP hD hS dX3_readVow_62 (Or.inl rfl) ⟨hR, hF, (by decide), hK_N13, hRR.symm.trans hC⟩
    · have hC := hC.trans (if_neg (by omega))
      refine a_ic F (0 : Int32) dX3_readVow_36 (by decide) ?_
      exact a_retz F hr hlocks hP hD hS dX3_readVow_37 (Or.inl rfl) ⟨hR, hF, (by decide), hK_N13, hRR.symm.trans hC⟩
  · have hC := hC.trans (if_neg (by omega))
    refine lv_aload_n F.1 F.2.1 dX3_readVow_12 rfl (lv_at hl 0 rfl) ?_
    refine a_getr F inX3 hP 22 0 tc_22 rfl rfl (by decide) q244 (fun _ h9 => h9) dX3_readVow_13 ?_
    refine a_ic F (4 : Int32) dX3_readVow_16 (by decide) ?_
    refine a_Vi F hml hl.1 hA hP hD hS (As := [.int (4 : Int32)]) (x_X10_fail_1 l dC dI ad cA nF _ (4 : Int32) hR (by decide)) (cs_RX3_70 (d := 1) F.2.2.1 (by decide)) tc_1 rfl rfl rfl rfl (Nat.le_of_ble_eq_true rfl) dX3_readVow_17 ⟨Nat.le_refl 0, Nat.le_refl 0⟩ (fun r15 u15 H locs hq hP hD hS => ?_)
    obtain ⟨hR, hF15, gr15, hz15⟩ := hq
    have hF := hF.tr hF15 (by decide)
    have hK_N13 := sp_fr sp_N13 hF15 (by decide) hK_N13
    have hC := bd_eq hC hz15
    exact a_retz F hr hlocks hP hD hS dX3_readVow_20 (i_01 (by omega)) ⟨hR, hF, (by omega : (0 : Int) ≤ r15.toInt ∧ r15.toInt ≤ 1), hK_N13, hRR.symm.trans hC⟩

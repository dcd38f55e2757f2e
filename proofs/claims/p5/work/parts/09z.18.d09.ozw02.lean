
def f_X10_takeKnown_1_4 (u0 : ac_U) (p1 : Int32) : ac_U × Int32 := (vl (f_X10_readNext_1 u0) (fun (u1 : ac_U) => (bd (f_X10_isKnown_1_4 u1 p1) (fun (u2 : ac_U) (r2 : Int32) => (u2, r2)))))
set_option maxHeartbeats 600000 in
set_option maxRecDepth 100000 in
theorem x_X10_takeKnown_1_4 (l : Launch) (dC : Nat → ClassId) (dI : Nat → Nat → Nat) (ad : Nat → Nat) (cA : Nat → ClassId) (nF : Nat) (u0 : ac_U) (p1 : Int32) (hR : ac_R rg u0) (hp1 : (0 : Int) ≤ p1.toInt ∧ p1.toInt ≤ 3) (hK_N4 : nmI 11 12 u0) : ac_Mi l yX10_takeKnown (.code yX10_takeKnown cX10_takeKnown 3 (some .boolean) :: TB) 4 (dC, dI) vwCl (ac_ty cA) ad cA (TT nF) [.ref (ad 1), .ref (ad 4), .int p1] u0 (fun (r : Int32) (u : ac_U) => ac_R rg u ∧ ac_Fr [(1, some 4), (1, some 5), (1, some 6), (1, some 8), (1, some 9), (1, some 10), (1, some 11)] u0 u ∧ ((0 : Int) ≤ r.toInt ∧ r.toInt ≤ 1) ∧ (r.toInt ≠ 0 → p1.toInt = 1 → (u.1 1 9).toInt ≤ 3) ∧ f_X10_takeKnown_1_4 u0 p1 = (u, r)) := by
  refine ac_Mi.of (cc := cX10_takeKnown) (maxL := 3) (ret := (some .boolean)) (by decide) rfl (Nat.le_of_ble_eq_true rfl) ?_
  intro p e s m below meth c A ls F hml hr hlocks hA hP hD hS hl
  have F : ac_X p s m [.ref (ad 1), .ref (ad 4), .int p1].toArray c cX10_takeKnown RX10 TB (dC, dI) vwCl (ac_ty cA) := ⟨F.1, F.2.1, fun w h => F.2.2.1 w (List.mem_cons_of_mem _ h), F.2.2.2.1, F.2.2.2.2⟩
  have hl : lv_has ls 3 [(0, .ref (ad 1)), (1, .ref (ad 4)), (2, .int p1)] := hl
  obtain ⟨RR, hRR⟩ : ∃ q, q = f_X10_takeKnown_1_4 u0 p1 := ⟨_, rfl⟩
  have hF : ac_Fr [(1, some 4), (1, some 5), (1, some 6), (1, some 8), (1, some 9), (1, some 10), (1, some 11)] u0 u0 := ac_Fr.rf
  have hC : RR = f_X10_takeKnown_1_4 u0 p1 := hRR
  unfold f_X10_takeKnown_1_4 at hC
  refine lv_aload_n F.1 F.2.1 dX10_takeKnown_0 rfl (lv_at hl 0 rfl) ?_
  refine a_Vv F hml hl.1 hA hP hD hS (As := []) (x_X10_readNext_1 l dC dI ad cA nF _  hR) (cs_RX10_72 (d := 3) F.2.2.1 (by decide)) tc_1 rfl rfl rfl rfl (Nat.le_of_ble_eq_true rfl) dX10_takeKnown_1 ⟨Nat.le_refl 0, Nat.le_refl 0⟩ (fun u1 H locs hq hP hD hS => ?_)
  obtain ⟨hR, hF1, hz1⟩ := hq
  have hF := hF.tr hF1 (by decide)
  have hK_N4 := sp_fr sp_N4 hF1 (by decide) hK_N4
  have hC := vl_eq hC hz1.symm
  refine lv_aload_n F.1 F.2.1 dX10_takeKnown_4 rfl (lv_at hl 0 rfl) ?_
  refine lv_aload_n F.1 F.2.1 dX10_takeKnown_5 rfl (lv_at hl 1 rfl) ?_
  refine lv_iload_n F.1 F.2.1 dX10_takeKnown_6 rfl (lv_at hl 2 rfl) ?_
  refine a_Vi F hml hl.1 hA hP hD hS (As := [.ref (ad 4), .int p1]) (x_X10_isKnown_1_4 l dC dI ad cA nF _ p1 hR (by omega) hK_N4) (cs_RX10_99 (d := 2) F.2.2.1 (by decide)) tc_1 rfl rfl rfl rfl (Nat.le_of_ble_eq_true rfl) dX10_takeKnown_7 ⟨Nat.le_refl 0, Nat.le_refl 0⟩ (fun r2 u2 H locs hq hP hD hS => ?_)
  obtain ⟨hR, hF2, gr2, xr2, hz2⟩ := hq
  have hF := hF.tr hF2 (by decide)
  have hK_N4 := sp_fr sp_N4 hF2 (by decide) hK_N4
  have g3 : (0 : Int) ≤ (u2.1 1 9).toInt ∧ (u2.1 1 9).toInt ≤ 7 := hR 1 9
  have xr2 : r2.toInt ≠ 0 → p1.toInt = 1 → (u2.1 1 9).toInt ≤ 3 := xr2
  have hC := bd_eq hC hz2
  exact a_retz F hr hlocks hP hD hS dX10_takeKnown_10 (i_01 (by omega)) ⟨hR, hF, (by omega : (0 : Int) ≤ r2.toInt ∧ r2.toInt ≤ 1), (by omega : r2.toInt ≠ 0 → p1.toInt = 1 → (u2.1 1 9).toInt ≤ 3), hRR.symm.trans hC⟩

def f_X0_readDoing_39 (u0 : ac_U) : ac_U × Int32 := (vl (f_X10_readNext_1 u0) (fun (u1 : ac_U) => (vl (f_X0_sortBehind (pI u1 41 (u0.1 39 6).toNatClampNeg (u1.1 1 6)) (u1.1 1 6)) (fun (r3 : Int32) => (if r3.toInt ≠ (-1 : Int) then (bd (f_X10_takeKnown_1_4 (pI u1 41 (u0.1 39 6).toNatClampNeg (u1.1 1 6)) r3) (fun (u5 : ac_U) (r5 : Int32) => (if r5.toInt ≠ 0 then ((pI u5 42 (u0.1 39 6).toNatClampNeg (u5.1 1 9)), (1 : Int32)) else (u5, (0 : Int32))))) else (bd (f_X10_fail_1 (pI u1 41 (u0.1 39 6).toNatClampNeg (u1.1 1 6)) (1 : Int32)) (fun (u8 : ac_U) (r8 : Int32) => (u8, r8))))))))
set_option maxHeartbeats 600000 in
set_option maxRecDepth 100000 in
theorem x_X0_readDoing_39 (l : Launch) (dC : Nat → ClassId) (dI : Nat → Nat → Nat) (ad : Nat → Nat) (cA : Nat → ClassId) (nF : Nat) (u0 : ac_U)  (hR : ac_R rg u0) (hf_39_6 : (0 : Int) ≤ (u0.1 39 6).toInt ∧ (u0.1 39 6).toInt ≤ 39) (hK_DBI : dbI u0) (hK_N4 : nmI 11 12 u0) (hK_DBW : dbW u0) : ac_Mi l yX0_readDoing (.code yX0_readDoing cX0_readDoing 2 (some .boolean) :: TB) 5 (dC, dI) vwCl (ac_ty cA) ad cA (TT nF) [.ref (ad 39)] u0 (fun (r : Int32) (u : ac_U) => ac_R rg u ∧ ac_Fr [(1, some 4), (1, some 5), (1, some 6), (1, some 8), (1, some 9), (1, some 10), (1, some 11), (41, none), (42, none)] u0 u ∧ ((0 : Int) ≤ r.toInt ∧ r.toInt ≤ 1) ∧ dbI u ∧ (r.toInt ≠ 0 → dbT u) ∧ f_X0_readDoing_39 u0 = (u, r)) := by
  refine ac_Mi.of (cc := cX0_readDoing) (maxL := 2) (ret := (some .boolean)) (by decide) rfl (Nat.le_of_ble_eq_true rfl) ?_
  intro p e s m below meth c A ls F hml hr hlocks hA hP hD hS hl
  have F : ac_X p s m [.ref (ad 39)].toArray c cX0_readDoing RX0 TB (dC, dI) vwCl (ac_ty cA) := ⟨F.1, F.2.1, fun w h => F.2.2.1 w (List.mem_cons_of_mem _ h), F.2.2.2.1, F.2.2.2.2⟩
  have hl : lv_has ls 2 [(0, .ref (ad 39))] := hl
  obtain ⟨RR, hRR⟩ : ∃ q, q = f_X0_readDoing_39 u0 := ⟨_, rfl⟩
  have hF : ac_Fr [(1, some 4), (1, some 5), (1, some 6), (1, some 8), (1, some 9), (1, some 10), (1, some 11), (41, none), (42, none)] u0 u0 := ac_Fr.rf
  have hC : RR = f_X0_readDoing_39 u0 := hRR
  unfold f_X0_readDoing_39 at hC
  refine lv_aload_n F.1 F.2.1 dX0_readDoing_0 rfl (lv_at hl 0 rfl) ?_
  refine a_getr F inX0 hP 39 0 tc_39 rfl rfl (by decide) q399 (fun _ h9 => h9) dX0_readDoing_1 ?_
  refine a_Vv F hml hl.1 hA hP hD hS (As := []) (x_X10_readNext_1 l dC dI ad cA nF _  hR) (cs_RX0_59 (d := 3) F.2.2.1 (by decide)) tc_1 rfl rfl rfl rfl (Nat.le_of_ble_eq_true rfl) dX0_readDoing_4 ⟨Nat.le_refl 0, Nat.le_refl 0⟩ (fun u1 H locs hq hP hD hS => ?_)
  obtain ⟨hR, hF1, hz1⟩ := hq
  have hF := hF.tr hF1 (by decide)
  have hK_DBI := sp_fr sp_DBI hF1 (by decide) hK_DBI
  have hK_N4 := sp_fr sp_N4 hF1 (by decide) hK_N4
  have hK_DBW := sp_fr sp_DBW hF1 (by decide) hK_DBW
  have hC := vl_eq hC hz1.symm
  refine lv_aload_n F.1 F.2.1 dX0_readDoing_7 rfl (lv_at hl 0 rfl) ?_
  refine a_getr F inX0 hP 39 4 tc_39 rfl rfl (by decide) q403 (fun _ h9 => h9) dX0_readDoing_8 ?_
  refine lv_aload_n F.1 F.2.1 dX0_readDoing_11 rfl (lv_at hl 0 rfl) ?_
  refine a_geti F inX0 hP 39 6 tc_39 rfl rfl (by decide) q405 (fun _ h9 => h9) (v := (u0.1 39 6)) (hF1 39 6 rfl) dX0_readDoing_12 ?_
  refine lv_aload_n F.1 F.2.1 dX0_readDoing_15 rfl (lv_at hl 0 rfl) ?_
  refine a_getr F inX0 hP 39 0 tc_39 rfl rfl (by decide) q399 (fun _ h9 => h9) dX0_readDoing_16 ?_
  have g2 : (-128 : Int) ≤ (u1.1 1 6).toInt ∧ (u1.1 1 6).toInt ≤ 127 := hR 1 6
  refine a_geti F inX10 hP 1 6 tc_1 rfl rfl (by decide) q101 (fun _ h9 => h9) (v := (u1.1 1 6)) rfl dX0_readDoing_19 ?_
  refine a_iast F hP hD hS 41 tc_41 rfl (i_in rfl (by omega)) dX0_readDoing_22 (fun H locs hP hD hS => ?_)
  have hR := hR.si (c := 41) (k := (u0.1 39 6).toNatClampNeg) (v := (u1.1 1 6)) ⟨i_lo _, i_hi _⟩
  have hF := hF.si (c := 41) (k := (u0.1 39 6).toNatClampNeg) (v := (u1.1 1 6)) rfl
  have hK_DBI := db_w (c := 41) hK_DBI (i := (u0.1 39 6)) (v := (u1.1 1 6)) (by omega) (by decide) (hF1 39 6 rfl)
  have hK_N4 := sp_sgD sp_N4 hD hK_N4 (by decide)
  have hK_DBW := sp_sgD sp_DBW hD hK_DBW (by decide)
  refine lv_aload_n F.1 F.2.1 dX0_readDoing_23 rfl (lv_at hl 0 rfl) ?_
  refine a_getr F inX0 hP 39 0 tc_39 rfl rfl (by decide) q399 (fun _ h9 => h9) dX0_readDoing_24 ?_
  refine a_geti F inX10 hP 1 6 tc_1 rfl rfl (by decide) q101 (fun _ h9 => h9) (v := (u1.1 1 6)) (rfl) dX0_readDoing_27 ?_
  refine a_Si F hml hl.1 hA hP hD hS (As := [.int (u1.1 1 6)]) (x_X0_sortBehind l dC dI ad cA nF _ (u1.1 1 6) hR (by omega)) (cs_RX0_89 (d := 1) F.2.2.1 (by decide)) rfl rfl (Nat.le_of_ble_eq_true rfl) dX0_readDoing_30 ⟨Nat.le_refl 0, Nat.le_refl 0⟩ (fun r3 uN3 H locs hq hP hD hS => ?_)
  obtain ⟨hu3, gr3, hz3⟩ := hq
  rw [hu3] at hP hD
  have hC := vl_eq hC hz3.symm
  refine lv_istore_n (lv' := [(1, .int r3), (0, .ref (ad 39))]) F.1 F.2.1 dX0_readDoing_33 rfl hl (by decide) rfl (fun ls hl => ?_)
  refine lv_iload_n F.1 F.2.1 dX0_readDoing_34 rfl (lv_at hl 0 rfl) ?_
  refine a_ic F (-1 : Int32) dX0_readDoing_35 (by decide) ?_
  refine b_ne F 48 dX0_readDoing_36 (by decide) rfl ic_m1 (fun c4 => ?_) (fun c4 => ?_)
  · have hC := hC.trans (if_pos c4)
    refine lv_aload_n F.1 F.2.1 dX0_readDoing_48 rfl (lv_at hl 1 rfl) ?_
    refine a_getr F inX0 hP 39 0 tc_39 rfl rfl (by decide) q399 (fun _ h9 => h9) dX0_readDoing_49 ?_
    refine lv_aload_n F.1 F.2.1 dX0_readDoing_52 rfl (lv_at hl 1 rfl) ?_
    refine a_getr F inX0 hP 39 1 tc_39 rfl rfl (by decide) q400 (fun _ h9 => h9) dX0_readDoing_53 ?_
    refine lv_iload_n F.1 F.2.1 dX0_readDoing_56 rfl (lv_at hl 0 rfl) ?_
    refine a_Vi F hml hl.1 hA hP hD hS (As := [.ref (ad 4), .int r3]) (x_X10_takeKnown_1_4 l dC dI ad cA nF _ r3 hR (by omega) hK_N4) (cs_RX0_93 (d := 4) F.2.2.1 (by decide)) tc_1 rfl rfl rfl rfl (Nat.le_of_ble_eq_true rfl) dX0_readDoing_57 ⟨Nat.le_refl 0, Nat.le_refl 0⟩ (fun r5 u5 H locs hq hP hD hS => ?_)
    obtain ⟨hR, hF5, gr5, xr5, hz5⟩ := hq
    have hF := hF.tr hF5 (by decide)
    have hK_DBI := sp_fr sp_DBI hF5 (by decide) hK_DBI
    have hK_N4 := sp_fr sp_N4 hF5 (by decide) hK_N4
    have hK_DBW := sp_fr sp_DBW hF5 (by decide) hK_DBW
    have g6 : (0 : Int) ≤ (u5.1 1 9).toInt ∧ (u5.1 1 9).toInt ≤ 7 := hR 1 9
    have xr5 : r5.toInt ≠ 0 → r3.toInt = 1 → (u5.1 1 9).toInt ≤ 3 := xr5
    have hC := bd_eq hC hz5
    refine z_ne F 65 dX0_readDoing_60 (by decide) rfl (fun c7 => ?_) (fun c7 => ?_)
    · have hC := hC.trans (if_pos c7)
      refine lv_aload_n F.1 F.2.1 dX0_readDoing_65 rfl (lv_at hl 1 rfl) ?_
      refine a_getr F inX0 hP 39 5 tc_39 rfl rfl (by decide) q404 (fun _ h9 => h9) dX0_readDoing_66 ?_
      refine lv_aload_n F.1 F.2.1 dX0_readDoing_69 rfl (lv_at hl 1 rfl) ?_
      refine a_geti F inX0 hP 39 6 tc_39 rfl rfl (by decide) q405 (fun _ h9 => h9) (v := (u0.1 39 6)) ((hF5 39 6 rfl).trans (hF1 39 6 rfl)) dX0_readDoing_70 ?_
      refine lv_aload_n F.1 F.2.1 dX0_readDoing_73 rfl (lv_at hl 1 rfl) ?_
      refine a_getr F inX0 hP 39 0 tc_39 rfl rfl (by decide) q399 (fun _ h9 => h9) dX0_readDoing_74 ?_
      refine a_geti F inX10 hP 1 9 tc_1 rfl rfl (by decide) q111 (fun _ h9 => h9) (v := (u5.1 1 9)) (rfl) dX0_readDoing_77 ?_
      refine a_iast F hP hD hS 42 tc_42 rfl (i_in rfl (by omega)) dX0_readDoing_80 (fun H locs hP hD hS => ?_)
      have hR := hR.si (c := 42) (k := (u0.1 39 6).toNatClampNeg) (v := (u5.1 1 9)) (by omega : (0 : Int) ≤ (u5.1 1 9).toInt ∧ (u5.1 1 9).toInt ≤ 99)
      have hF := hF.si (c := 42) (k := (u0.1 39 6).toNatClampNeg) (v := (u5.1 1 9)) rfl
      have hN_DBT := db_t (i := (u0.1 39 6)) (v := (u5.1 1 9)) (by omega) ((hF5 39 6 rfl).trans (hF1 39 6 rfl)) (by omega)
      have hK_DBI := db_w (c := 42) hK_DBI (i := (u0.1 39 6)) (v := (u5.1 1 9)) (by omega) (by decide) ((hF5 39 6 rfl).trans (hF1 39 6 rfl))
      have hK_N4 := sp_sgD sp_N4 hD hK_N4 (by decide)
      have hK_DBW := sp_sgD sp_DBW hD hK_DBW (by decide)
      have hK_DBT := hN_DBT
      refine a_ic F (1 : Int32) dX0_readDoing_81 (by decide) ?_
      exact a_retz F hr hlocks hP hD hS dX0_readDoing_82 (Or.inr rfl) ⟨hR, hF, (by decide), hK_DBI, (fun _ => hK_DBT), hRR.symm.trans hC⟩
    · have hC := hC.trans (if_neg (by omega))
      refine a_ic F (0 : Int32) dX0_readDoing_63 (by decide) ?_
      exact a_retz F hr hlocks hP hD hS dX0_readDoing_64 (Or.inl rfl) ⟨hR, hF, (by decide), hK_DBI, (fun h9 => absurd (by decide) h9), hRR.symm.trans hC⟩
  · have hC := hC.trans (if_neg (by omega))
    refine lv_aload_n F.1 F.2.1 dX0_readDoing_39 rfl (lv_at hl 1 rfl) ?_
    refine a_getr F inX0 hP 39 0 tc_39 rfl rfl (by decide) q399 (fun _ h9 => h9) dX0_readDoing_40 ?_
    refine a_ic F (1 : Int32) dX0_readDoing_43 (by decide) ?_
    refine a_Vi F hml hl.1 hA hP hD hS (As := [.int (1 : Int32)]) (x_X10_fail_1 l dC dI ad cA nF _ (1 : Int32) hR (by decide)) (cs_RX0_66 (d := 1) F.2.2.1 (by decide)) tc_1 rfl rfl rfl rfl (Nat.le_of_ble_eq_true rfl) dX0_readDoing_44 ⟨Nat.le_refl 0, Nat.le_refl 0⟩ (fun r8 u8 H locs hq hP hD hS => ?_)
    obtain ⟨hR, hF8, gr8, hz8⟩ := hq
    have hF := hF.tr hF8 (by decide)
    have hK_DBI := sp_fr sp_DBI hF8 (by decide) hK_DBI
    have hK_N4 := sp_fr sp_N4 hF8 (by decide) hK_N4
    have hK_DBW := sp_fr sp_DBW hF8 (by decide) hK_DBW
    have hC := bd_eq hC hz8
    exact a_retz F hr hlocks hP hD hS dX0_readDoing_47 (i_01 (by omega)) ⟨hR, hF, (by omega : (0 : Int) ≤ r8.toInt ∧ r8.toInt ≤ 1), hK_DBI, (fun h9 => absurd (by omega : r8.toInt = 0) h9), hRR.symm.trans hC⟩

def f_X0_readHour_39 (u0 : ac_U) : ac_U × Int32 := (bd (f_X10_takeNumber_1 (pI u0 41 (u0.1 39 6).toNatClampNeg (113 : Int32)) (1 : Int32) (99 : Int32)) (fun (u2 : ac_U) (r2 : Int32) => (if r2.toInt ≠ 0 then ((pI u2 42 (u0.1 39 6).toNatClampNeg (u2.1 1 8)), (1 : Int32)) else (u2, (0 : Int32)))))
set_option maxHeartbeats 600000 in
set_option maxRecDepth 100000 in
theorem x_X0_readHour_39 (l : Launch) (dC : Nat → ClassId) (dI : Nat → Nat → Nat) (ad : Nat → Nat) (cA : Nat → ClassId) (nF : Nat) (u0 : ac_U)  (hR : ac_R rg u0) (hf_39_6 : (0 : Int) ≤ (u0.1 39 6).toInt ∧ (u0.1 39 6).toInt ≤ 39) (hK_DBI : dbI u0) : ac_Mi l yX0_readHour (.code yX0_readHour cX0_readHour 1 (some .boolean) :: TB) 5 (dC, dI) vwCl (ac_ty cA) ad cA (TT nF) [.ref (ad 39)] u0 (fun (r : Int32) (u : ac_U) => ac_R rg u ∧ ac_Fr [(1, some 4), (1, some 5), (1, some 6), (1, some 8), (1, some 10), (1, some 11), (41, none), (42, none)] u0 u ∧ ((0 : Int) ≤ r.toInt ∧ r.toInt ≤ 1) ∧ dbI u ∧ dbV u ∧ f_X0_readHour_39 u0 = (u, r)) := by
  refine ac_Mi.of (cc := cX0_readHour) (maxL := 1) (ret := (some .boolean)) (by decide) rfl (Nat.le_of_ble_eq_true rfl) ?_
  intro p e s m below meth c A ls F hml hr hlocks hA hP hD hS hl
  have F : ac_X p s m [.ref (ad 39)].toArray c cX0_readHour RX0 TB (dC, dI) vwCl (ac_ty cA) := ⟨F.1, F.2.1, fun w h => F.2.2.1 w (List.mem_cons_of_mem _ h), F.2.2.2.1, F.2.2.2.2⟩
  have hl : lv_has ls 1 [(0, .ref (ad 39))] := hl
  obtain ⟨RR, hRR⟩ : ∃ q, q = f_X0_readHour_39 u0 := ⟨_, rfl⟩
  have hF : ac_Fr [(1, some 4), (1, some 5), (1, some 6), (1, some 8), (1, some 10), (1, some 11), (41, none), (42, none)] u0 u0 := ac_Fr.rf
  have hC : RR = f_X0_readHour_39 u0 := hRR
  unfold f_X0_readHour_39 at hC
  refine lv_aload_n F.1 F.2.1 dX0_readHour_0 rfl (lv_at hl 0 rfl) ?_
  refine a_getr F inX0 hP 39 4 tc_39 rfl rfl (by decide) q403 (fun _ h9 => h9) dX0_readHour_1 ?_
  refine lv_aload_n F.1 F.2.1 dX0_readHour_4 rfl (lv_at hl 0 rfl) ?_
  have g1 : (0 : Int) ≤ (u0.1 39 6).toInt ∧ (u0.1 39 6).toInt ≤ 40 := hR 39 6
  refine a_geti F inX0 hP 39 6 tc_39 rfl rfl (by decide) q405 (fun _ h9 => h9) (v := (u0.1 39 6)) rfl dX0_readHour_5 ?_
  refine a_bp F (113 : Int32) dX0_readHour_8 (by decide) ?_
  refine a_iast F hP hD hS 41 tc_41 rfl (i_in rfl (by omega)) dX0_readHour_10 (fun H locs hP hD hS => ?_)
  have hR := hR.si (c := 41) (k := (u0.1 39 6).toNatClampNeg) (v := (113 : Int32)) ⟨i_lo _, i_hi _⟩
  have hF := hF.si (c := 41) (k := (u0.1 39 6).toNatClampNeg) (v := (113 : Int32)) rfl
  have hN_DBV := db_v (i := (u0.1 39 6)) (v := (113 : Int32)) (by omega) (rfl) (by decide)
  have hK_DBI := db_w (c := 41) hK_DBI (i := (u0.1 39 6)) (v := (113 : Int32)) (by omega) (by decide) (rfl)
  have hK_DBV := hN_DBV
  refine lv_aload_n F.1 F.2.1 dX0_readHour_11 rfl (lv_at hl 0 rfl) ?_
  refine a_getr F inX0 hP 39 0 tc_39 rfl rfl (by decide) q399 (fun _ h9 => h9) dX0_readHour_12 ?_
  refine a_ic F (1 : Int32) dX0_readHour_15 (by decide) ?_
  refine a_bp F (99 : Int32) dX0_readHour_16 (by decide) ?_
  refine a_Vi F hml hl.1 hA hP hD hS (As := [.int (1 : Int32), .int (99 : Int32)]) (x_X10_takeNumber_1 l dC dI ad cA nF _ (1 : Int32) (99 : Int32) hR (by decide) (by decide)) (cs_RX0_82 (d := 4) F.2.2.1 (by decide)) tc_1 rfl rfl rfl rfl (Nat.le_of_ble_eq_true rfl) dX0_readHour_18 ⟨Nat.le_refl 0, Nat.le_refl 0⟩ (fun r2 u2 H locs hq hP hD hS => ?_)
  obtain ⟨hR, hF2, gr2, xr2, hz2⟩ := hq
  have hF := hF.tr hF2 (by decide)
  have hK_DBI := sp_fr sp_DBI hF2 (by decide) hK_DBI
  have hK_DBV := sp_fr sp_DBV hF2 (by decide) hK_DBV
  have xr2 : r2.toInt ≠ 0 → (1 : Int) ≤ (u2.1 1 8).toInt ∧ (u2.1 1 8).toInt ≤ (99 : Int) := xr2
  have hC := bd_eq hC hz2
  refine z_ne F 26 dX0_readHour_21 (by decide) rfl (fun c3 => ?_) (fun c3 => ?_)
  · have hC := hC.trans (if_pos c3)
    refine lv_aload_n F.1 F.2.1 dX0_readHour_26 rfl (lv_at hl 0 rfl) ?_
    refine a_getr F inX0 hP 39 5 tc_39 rfl rfl (by decide) q404 (fun _ h9 => h9) dX0_readHour_27 ?_
    refine lv_aload_n F.1 F.2.1 dX0_readHour_30 rfl (lv_at hl 0 rfl) ?_
    refine a_geti F inX0 hP 39 6 tc_39 rfl rfl (by decide) q405 (fun _ h9 => h9) (v := (u0.1 39 6)) (hF2 39 6 rfl) dX0_readHour_31 ?_
    refine lv_aload_n F.1 F.2.1 dX0_readHour_34 rfl (lv_at hl 0 rfl) ?_
    refine a_getr F inX0 hP 39 0 tc_39 rfl rfl (by decide) q399 (fun _ h9 => h9) dX0_readHour_35 ?_
    refine a_geti F inX10 hP 1 8 tc_1 rfl rfl (by decide) q108 (fun _ h9 => h9) (v := (u2.1 1 8)) (rfl) dX0_readHour_38 ?_
    refine a_iast F hP hD hS 42 tc_42 rfl (i_in rfl (by omega)) dX0_readHour_41 (fun H locs hP hD hS => ?_)
    have hR := hR.si (c := 42) (k := (u0.1 39 6).toNatClampNeg) (v := (u2.1 1 8)) (by omega : (0 : Int) ≤ (u2.1 1 8).toInt ∧ (u2.1 1 8).toInt ≤ 99)
    have hF := hF.si (c := 42) (k := (u0.1 39 6).toNatClampNeg) (v := (u2.1 1 8)) rfl
    have hK_DBI := db_w (c := 42) hK_DBI (i := (u0.1 39 6)) (v := (u2.1 1 8)) (by omega) (by decide) (hF2 39 6 rfl)
    have hK_DBV := sp_sgD sp_DBV hD hK_DBV (by decide)
    refine a_ic F (1 : Int32) dX0_readHour_42 (by decide) ?_
    exact a_retz F hr hlocks hP hD hS dX0_readHour_43 (Or.inr rfl) ⟨hR, hF, (by decide), hK_DBI, hK_DBV, hRR.symm.trans hC⟩
  · have hC := hC.trans (if_neg (by omega))
    refine a_ic F (0 : Int32) dX0_readHour_24 (by decide) ?_
    exact a_retz F hr hlocks hP hD hS dX0_readHour_25 (Or.inl rfl) ⟨hR, hF, (by decide), hK_DBI, hK_DBV, hRR.symm.trans hC⟩
def K_X0_readLine_39_118 (u0 : ac_U) (u : ac_U) : ac_U × Int32 := (u, (0 : Int32))
def K_X0_readLine_39_102 (u0 : ac_U) (u : ac_U) : ac_U × Int32 := (bd (f_X10_takeSign_1 u (59 : Int32)) (fun (u2 : ac_U) (r2 : Int32) => (if r2.toInt = 0 then (K_X0_readLine_39_118 u0 u2) else (u2, (1 : Int32)))))
def K_X0_readLine_39_39 (u0 : ac_U) (u : ac_U) (x1 : Int32) : ac_U × Int32 := (if (u.1 39 6).toInt < (40 : Int) then (if x1.toInt = 0 then (if x1.toInt = 0 then (bd (f_X0_readDoing_39 (pI u 40 (u.1 39 6).toNatClampNeg (u.1 1 9))) (fun (u10 : ac_U) (r10 : Int32) => (if r10.toInt = 0 then (K_X0_readLine_39_118 u0 u10) else (K_X0_readLine_39_102 u0 u10)))) else ((pI u 40 (u.1 39 6).toNatClampNeg (u.1 1 9)), 0)) else (if x1.toInt = 0 then ((pI u 40 (u.1 39 6).toNatClampNeg (-1 : Int32)), 0) else (bd (f_X0_readHour_39 (pI u 40 (u.1 39 6).toNatClampNeg (-1 : Int32))) (fun (u13 : ac_U) (r13 : Int32) => (if r13.toInt = 0 then (K_X0_readLine_39_118 u0 u13) else (K_X0_readLine_39_102 u0 u13)))))) else (bd (f_X10_fail_1 u (4 : Int32)) (fun (u15 : ac_U) (r15 : Int32) => (u15, r15))))
def K_X0_readLine_39_17 (u0 : ac_U) (u : ac_U) (z0 : Int32) : ac_U × Int32 := (if z0.toInt ≠ 0 then (K_X0_readLine_39_39 u0 u z0) else (bd (f_X10_isKnown_1_4 u (1 : Int32)) (fun (u19 : ac_U) (r19 : Int32) => (if r19.toInt ≠ 0 then (K_X0_readLine_39_39 u0 u19 z0) else (u19, (0 : Int32))))))
def f_X0_readLine_39 (u0 : ac_U) : ac_U × Int32 := (if (u0.1 1 6).toInt ≠ (113 : Int) then (K_X0_readLine_39_17 u0 u0 (0 : Int32)) else (K_X0_readLine_39_17 u0 u0 (1 : Int32)))
set_option maxHeartbeats 600000 in
set_option maxRecDepth 100000 in
theorem x_X0_readLine_39 (l : Launch) (dC : Nat → ClassId) (dI : Nat → Nat → Nat) (ad : Nat → Nat) (cA : Nat → ClassId) (nF : Nat) (u0 : ac_U)  (hR : ac_R rg u0) (hK_N4 : nmI 11 12 u0) (hK_DBI : dbI u0) : ac_Mi l yX0_readLine (.code yX0_readLine cX0_readLine 2 (some .boolean) :: TB) 6 (dC, dI) vwCl (ac_ty cA) ad cA (TT nF) [.ref (ad 39)] u0 (fun (r : Int32) (u : ac_U) => ac_R rg u ∧ ac_Fr [(1, some 4), (1, some 5), (1, some 6), (1, some 8), (1, some 9), (1, some 10), (1, some 11), (40, none), (41, none), (42, none)] u0 u ∧ ((0 : Int) ≤ r.toInt ∧ r.toInt ≤ 1) ∧ (r.toInt ≠ 0 → (u.1 39 6).toInt ≤ 39) ∧ (r.toInt ≠ 0 → dbJ u) ∧ f_X0_readLine_39 u0 = (u, r)) := by
  refine ac_Mi.of (cc := cX0_readLine) (maxL := 2) (ret := (some .boolean)) (by decide) rfl (Nat.le_of_ble_eq_true rfl) ?_
  intro p e s m below meth c A ls F hml hr hlocks hA hP hD hS hl
  have F : ac_X p s m [.ref (ad 39)].toArray c cX0_readLine RX0 TB (dC, dI) vwCl (ac_ty cA) := ⟨F.1, F.2.1, fun w h => F.2.2.1 w (List.mem_cons_of_mem _ h), F.2.2.2.1, F.2.2.2.2⟩
  have hl : lv_has ls 2 [(0, .ref (ad 39))] := hl
  obtain ⟨RR, hRR⟩ : ∃ q, q = f_X0_readLine_39 u0 := ⟨_, rfl⟩
  have hF : ac_Fr [(1, some 4), (1, some 5), (1, some 6), (1, some 8), (1, some 9), (1, some 10), (1, some 11), (40, none), (41, none), (42, none)] u0 u0 := ac_Fr.rf
  have L118 : ∀ (u : ac_U) (H : Heap) (locs : List Loc) (ls : Array Slot), ac_R rg u → ac_Fr [(1, some 4), (1, some 5), (1, some 6), (1, some 8), (1, some 9), (1, some 10), (1, some 11), (40, none), (41, none), (42, none)] u0 u → (0 : Int) ≤ (u.1 39 6).toInt ∧ (u.1 39 6).toInt ≤ 39 → RR = (K_X0_readLine_39_118 u0 u) → va_P (dC, dI) vwCl (ac_w ad cA (TT nF) u) H → va_D A (ac_w ad cA (TT nF) u) → va_S A s.heap H locs → lv_has ls 2 [] → W p l e (ac_rm 6) s m [.ref (ad 39)].toArray below meth c H locs 0 0 (MQ below (va_Qi (fun (r : Int32) (u : ac_U) => ac_R rg u ∧ ac_Fr [(1, some 4), (1, some 5), (1, some 6), (1, some 8), (1, some 9), (1, some 10), (1, some 11), (40, none), (41, none), (42, none)] u0 u ∧ ((0 : Int) ≤ r.toInt ∧ r.toInt ≤ 1) ∧ (r.toInt ≠ 0 → (u.1 39 6).toInt ≤ 39) ∧ (r.toInt ≠ 0 → dbJ u) ∧ f_X0_readLine_39 u0 = (u, r)) (ac_B (dC, dI) vwCl (ac_ty cA) ad cA (TT nF) A) A) [.ref (ad 39)].toArray s 0 0 A) (F0 m 118 ls []) := by
    intro u H locs ls hR hF f0 hC hP hD hS hl
    unfold K_X0_readLine_39_118 at hC
    refine a_ic F (0 : Int32) dX0_readLine_118 (by decide) ?_
    have g1 : (0 : Int) ≤ (u.1 39 6).toInt ∧ (u.1 39 6).toInt ≤ 40 := hR 39 6
    exact a_retz F hr hlocks hP hD hS dX0_readLine_119 (Or.inl rfl) ⟨hR, hF, (by decide), (by first | exact (by omega : (0 : Int) ≠ 0 → (u.1 39 6).toInt ≤ 39) | (rw [ic_0]; exact (by omega : (0 : Int) ≠ 0 → (u.1 39 6).toInt ≤ 39))), (fun h9 => absurd (by decide) h9), hRR.symm.trans hC⟩
  have L102 : ∀ (u : ac_U) (H : Heap) (locs : List Loc) (ls : Array Slot), ac_R rg u → ac_Fr [(1, some 4), (1, some 5), (1, some 6), (1, some 8), (1, some 9), (1, some 10), (1, some 11), (40, none), (41, none), (42, none)] u0 u → nmI 11 12 u → dbI u → dbJ u → (0 : Int) ≤ (u.1 39 6).toInt ∧ (u.1 39 6).toInt ≤ 39 → RR = (K_X0_readLine_39_102 u0 u) → va_P (dC, dI) vwCl (ac_w ad cA (TT nF) u) H → va_D A (ac_w ad cA (TT nF) u) → va_S A s.heap H locs → lv_has ls 2 [(0, .ref (ad 39))] → W p l e (ac_rm 6) s m [.ref (ad 39)].toArray below meth c H locs 0 0 (MQ below (va_Qi (fun (r : Int32) (u : ac_U) => ac_R rg u ∧ ac_Fr [(1, some 4), (1, some 5), (1, some 6), (1, some 8), (1, some 9), (1, some 10), (1, some 11), (40, none), (41, none), (42, none)] u0 u ∧ ((0 : Int) ≤ r.toInt ∧ r.toInt ≤ 1) ∧ (r.toInt ≠ 0 → (u.1 39 6).toInt ≤ 39) ∧ (r.toInt ≠ 0 → dbJ u) ∧ f_X0_readLine_39 u0 = (u, r)) (ac_B (dC, dI) vwCl (ac_ty cA) ad cA (TT nF) A) A) [.ref (ad 39)].toArray s 0 0 A) (F0 m 102 ls []) := by
    intro u H locs ls hR hF hK_N4 hK_DBI hK_DBJ f0 hC hP hD hS hl
    unfold K_X0_readLine_39_102 at hC
    refine lv_aload_n F.1 F.2.1 dX0_readLine_102 rfl (lv_at hl 0 rfl) ?_
    refine a_getr F inX0 hP 39 0 tc_39 rfl rfl (by decide) q399 (fun _ h9 => h9) dX0_readLine_103 ?_
    refine a_bp F (59 : Int32) dX0_readLine_106 (by decide) ?_
    refine a_Vi F hml hl.1 hA hP hD hS (As := [.int (59 : Int32)]) (x_X10_takeSign_1 l dC dI ad cA nF _ (59 : Int32) hR (by decide)) (cs_RX0_79 (d := 4) F.2.2.1 (by decide)) tc_1 rfl rfl rfl rfl (Nat.le_of_ble_eq_true rfl) dX0_readLine_108 ⟨Nat.le_refl 0, Nat.le_refl 0⟩ (fun r2 u2 H locs hq hP hD hS => ?_)
    obtain ⟨hR, hF2, gr2, hz2⟩ := hq
    have hF := hF.tr hF2 (by decide)
    have hK_N4 := sp_fr sp_N4 hF2 (by decide) hK_N4
    have hK_DBI := sp_fr sp_DBI hF2 (by decide) hK_DBI
    have hK_DBJ := sp_fr sp_DBJ hF2 (by decide) hK_DBJ
    have hC := bd_eq hC hz2
    refine z_eq F 118 dX0_readLine_111 (by decide) rfl (fun c3 => ?_) (fun c3 => ?_)
    · have hC := hC.trans (if_pos c3)
      exact L118 _ _ _ _ hR hF (i_trB (hF2 39 6 rfl) (by omega : (0 : Int) ≤ (u.1 39 6).toInt ∧ (u.1 39 6).toInt ≤ 39)) hC hP hD hS (lv_sub hl [] rfl)
    · have hC := hC.trans (if_neg (by omega))
      refine a_ic F (1 : Int32) dX0_readLine_114 (by decide) ?_
      refine lv_goto (tgt := 119) F.1 F.2.1 dX0_readLine_115 (by decide) ?_
      have k4 : (u2.1 39 6).toInt = (u.1 39 6).toInt := congrArg Int32.toInt (show u2.1 39 6 = (u.1 39 6) from hF2 39 6 rfl)
      exact a_retz F hr hlocks hP hD hS dX0_readLine_119 (Or.inr rfl) ⟨hR, hF, (by decide), (by first | exact (by omega : (1 : Int) ≠ 0 → (u2.1 39 6).toInt ≤ 39) | (rw [ic_1]; exact (by omega : (1 : Int) ≠ 0 → (u2.1 39 6).toInt ≤ 39))), (fun _ => hK_DBJ), hRR.symm.trans hC⟩
  have L39 : ∀ (x1 : Int32) (u : ac_U) (H : Heap) (locs : List Loc) (ls : Array Slot), ac_R rg u → ac_Fr [(1, some 4), (1, some 5), (1, some 6), (1, some 8), (1, some 9), (1, some 10), (1, some 11), (40, none), (41, none), (42, none)] u0 u → nmI 11 12 u → dbI u → (0 : Int) ≤ x1.toInt ∧ x1.toInt ≤ 1 → (x1.toInt = 0 → (u.1 1 9).toInt ≤ 3) → RR = (K_X0_readLine_39_39 u0 u x1) → va_P (dC, dI) vwCl (ac_w ad cA (TT nF) u) H → va_D A (ac_w ad cA (TT nF) u) → va_S A s.heap H locs → lv_has ls 2 [(0, .ref (ad 39)), (1, .int x1)] → W p l e (ac_rm 6) s m [.ref (ad 39)].toArray below meth c H locs 0 0 (MQ below (va_Qi (fun (r : Int32) (u : ac_U) => ac_R rg u ∧ ac_Fr [(1, some 4), (1, some 5), (1, some 6), (1, some 8), (1, some 9), (1, some 10), (1, some 11), (40, none), (41, none), (42, none)] u0 u ∧ ((0 : Int) ≤ r.toInt ∧ r.toInt ≤ 1) ∧ (r.toInt ≠ 0 → (u.1 39 6).toInt ≤ 39) ∧ (r.toInt ≠ 0 → dbJ u) ∧ f_X0_readLine_39 u0 = (u, r)) (ac_B (dC, dI) vwCl (ac_ty cA) ad cA (TT nF) A) A) [.ref (ad 39)].toArray s 0 0 A) (F0 m 39 ls []) := by
    intro x1 u H locs ls hR hF hK_N4 hK_DBI f0 f1 hC hP hD hS hl
    unfold K_X0_readLine_39_39 at hC
    refine lv_aload_n F.1 F.2.1 dX0_readLine_39 rfl (lv_at hl 0 rfl) ?_
    have g5 : (0 : Int) ≤ (u.1 39 6).toInt ∧ (u.1 39 6).toInt ≤ 40 := hR 39 6
    refine a_geti F inX0 hP 39 6 tc_39 rfl rfl (by decide) q405 (fun _ h9 => h9) (v := (u.1 39 6)) rfl dX0_readLine_40 ?_
    refine a_bp F (40 : Int32) dX0_readLine_43 (by decide) ?_
    refine b_lt F 57 dX0_readLine_45 (by decide) rfl ic_40 (fun c6 => ?_) (fun c6 => ?_)
    · have hC := hC.trans (if_pos c6)
      refine lv_aload_n F.1 F.2.1 dX0_readLine_57 rfl (lv_at hl 0 rfl) ?_
      refine a_getr F inX0 hP 39 3 tc_39 rfl rfl (by decide) q402 (fun _ h9 => h9) dX0_readLine_58 ?_
      refine lv_aload_n F.1 F.2.1 dX0_readLine_61 rfl (lv_at hl 0 rfl) ?_
      refine a_geti F inX0 hP 39 6 tc_39 rfl rfl (by decide) q405 (fun _ h9 => h9) (v := (u.1 39 6)) (rfl) dX0_readLine_62 ?_
      refine lv_iload_n F.1 F.2.1 dX0_readLine_65 rfl (lv_at hl 1 rfl) ?_
      refine z_eq F 73 dX0_readLine_66 (by decide) rfl (fun c7 => ?_) (fun c7 => ?_)
      · have hC := hC.trans (if_pos c7)
        refine lv_aload_n F.1 F.2.1 dX0_readLine_73 rfl (lv_at hl 0 rfl) ?_
        refine a_getr F inX0 hP 39 0 tc_39 rfl rfl (by decide) q399 (fun _ h9 => h9) dX0_readLine_74 ?_
        have g8 : (0 : Int) ≤ (u.1 1 9).toInt ∧ (u.1 1 9).toInt ≤ 7 := hR 1 9
        refine a_geti F inX10 hP 1 9 tc_1 rfl rfl (by decide) q111 (fun _ h9 => h9) (v := (u.1 1 9)) rfl dX0_readLine_77 ?_
        refine a_iast F hP hD hS 40 tc_40 rfl (i_in rfl (by omega)) dX0_readLine_80 (fun H locs hP hD hS => ?_)
        have hR := hR.si (c := 40) (k := (u.1 39 6).toNatClampNeg) (v := (u.1 1 9)) (by omega : (-1 : Int) ≤ (u.1 1 9).toInt ∧ (u.1 1 9).toInt ≤ 7)
        have hF := hF.si (c := 40) (k := (u.1 39 6).toNatClampNeg) (v := (u.1 1 9)) rfl
        have hN_DBW := db_wh (i := (u.1 39 6)) (v := (u.1 1 9)) (by omega) (rfl) (by omega)
        have hK_N4 := sp_sgD sp_N4 hD hK_N4 (by decide)
        have hK_DBI := db_w (c := 40) hK_DBI (i := (u.1 39 6)) (v := (u.1 1 9)) (by omega) (by decide) (rfl)
        have hK_DBW := hN_DBW
        refine lv_iload_n F.1 F.2.1 dX0_readLine_81 rfl (lv_at hl 1 rfl) ?_
        refine z_eq F 95 dX0_readLine_82 (by decide) rfl (fun c9 => ?_) (fun c9 => ?_)
        · have hC := hC.trans (if_pos c9)
          refine lv_aload_n F.1 F.2.1 dX0_readLine_95 rfl (lv_at hl 0 rfl) ?_
          refine a_Vi F hml hl.1 hA hP hD hS (As := []) (x_X0_readDoing_39 l dC dI ad cA nF _  hR (by omega : (0 : Int) ≤ (u.1 39 6).toInt ∧ (u.1 39 6).toInt ≤ 39) hK_DBI hK_N4 hK_DBW) (cs_RX0_76 (d := 5) F.2.2.1 (by decide)) tc_39 rfl rfl rfl rfl (Nat.le_of_ble_eq_true rfl) dX0_readLine_96 ⟨Nat.le_refl 0, Nat.le_refl 0⟩ (fun r10 u10 H locs hq hP hD hS => ?_)
          obtain ⟨hR, hF10, gr10, hK_DBI, hK_r10_DBT, hz10⟩ := hq
          have hF := hF.tr hF10 (by decide)
          have hK_N4 := sp_fr sp_N4 hF10 (by decide) hK_N4
          have hK_DBW := sp_fr sp_DBW hF10 (by decide) hK_DBW
          have hC := bd_eq hC hz10
          refine z_eq F 118 dX0_readLine_99 (by decide) rfl (fun c11 => ?_) (fun c11 => ?_)
          · have hC := hC.trans (if_pos c11)
            exact L118 _ _ _ _ hR hF (i_trB (hF10 39 6 rfl) (by omega : (0 : Int) ≤ (u.1 39 6).toInt ∧ (u.1 39 6).toInt ≤ 39)) hC hP hD hS (lv_sub hl [] rfl)
          · have hC := hC.trans (if_neg (by omega))
            have hK_DBT := hK_r10_DBT (by omega)
            exact L102 _ _ _ _ hR hF hK_N4 hK_DBI (db_j2 hK_DBI hK_DBW hK_DBT) (i_trB (hF10 39 6 rfl) (by omega : (0 : Int) ≤ (u.1 39 6).toInt ∧ (u.1 39 6).toInt ≤ 39)) hC hP hD hS (lv_sub hl [0] rfl)
        · exfalso; omega
      · have hC := hC.trans (if_neg (by omega))
        refine a_ic F (-1 : Int32) dX0_readLine_69 (by decide) ?_
        refine lv_goto (tgt := 80) F.1 F.2.1 dX0_readLine_70 (by decide) ?_
        refine a_iast F hP hD hS 40 tc_40 rfl (i_in rfl (by omega)) dX0_readLine_80 (fun H locs hP hD hS => ?_)
        have hR := hR.si (c := 40) (k := (u.1 39 6).toNatClampNeg) (v := (-1 : Int32)) (by rw [ic_m1]; exact (by omega : (-1 : Int) ≤ (-1 : Int) ∧ (-1 : Int) ≤ 7))
        have hF := hF.si (c := 40) (k := (u.1 39 6).toNatClampNeg) (v := (-1 : Int32)) rfl
        have hK_N4 := sp_sgD sp_N4 hD hK_N4 (by decide)
        have hK_DBI := db_w (c := 40) hK_DBI (i := (u.1 39 6)) (v := (-1 : Int32)) (by omega) (by decide) (rfl)
        refine lv_iload_n F.1 F.2.1 dX0_readLine_81 rfl (lv_at hl 1 rfl) ?_
        refine z_eq F 95 dX0_readLine_82 (by decide) rfl (fun c12 => ?_) (fun c12 => ?_)
        · exfalso; omega
        · have hC := hC.trans (if_neg (by omega))
          refine lv_aload_n F.1 F.2.1 dX0_readLine_85 rfl (lv_at hl 0 rfl) ?_
          refine a_Vi F hml hl.1 hA hP hD hS (As := []) (x_X0_readHour_39 l dC dI ad cA nF _  hR (by omega : (0 : Int) ≤ (u.1 39 6).toInt ∧ (u.1 39 6).toInt ≤ 39) hK_DBI) (cs_RX0_73 (d := 5) F.2.2.1 (by decide)) tc_39 rfl rfl rfl rfl (Nat.le_of_ble_eq_true rfl) dX0_readLine_86 ⟨Nat.le_refl 0, Nat.le_refl 0⟩ (fun r13 u13 H locs hq hP hD hS => ?_)
          obtain ⟨hR, hF13, gr13, hK_DBI, hK_DBV, hz13⟩ := hq
          have hF := hF.tr hF13 (by decide)
          have hK_N4 := sp_fr sp_N4 hF13 (by decide) hK_N4
          have hC := bd_eq hC hz13
          refine z_eq F 118 dX0_readLine_89 (by decide) rfl (fun c14 => ?_) (fun c14 => ?_)
          · have hC := hC.trans (if_pos c14)
            exact L118 _ _ _ _ hR hF (i_trB (hF13 39 6 rfl) (by omega : (0 : Int) ≤ (u.1 39 6).toInt ∧ (u.1 39 6).toInt ≤ 39)) hC hP hD hS (lv_sub hl [] rfl)
          · have hC := hC.trans (if_neg (by omega))
            refine lv_goto (tgt := 102) F.1 F.2.1 dX0_readLine_92 (by decide) ?_
            exact L102 _ _ _ _ hR hF hK_N4 hK_DBI (db_j1 hK_DBI hK_DBV) (i_trB (hF13 39 6 rfl) (by omega : (0 : Int) ≤ (u.1 39 6).toInt ∧ (u.1 39 6).toInt ≤ 39)) hC hP hD hS (lv_sub hl [0] rfl)
    · have hC := hC.trans (if_neg (by omega))
      refine lv_aload_n F.1 F.2.1 dX0_readLine_48 rfl (lv_at hl 0 rfl) ?_
      refine a_getr F inX0 hP 39 0 tc_39 rfl rfl (by decide) q399 (fun _ h9 => h9) dX0_readLine_49 ?_
      refine a_ic F (4 : Int32) dX0_readLine_52 (by decide) ?_
      refine a_Vi F hml hl.1 hA hP hD hS (As := [.int (4 : Int32)]) (x_X10_fail_1 l dC dI ad cA nF _ (4 : Int32) hR (by decide)) (cs_RX0_66 (d := 1) F.2.2.1 (by decide)) tc_1 rfl rfl rfl rfl (Nat.le_of_ble_eq_true rfl) dX0_readLine_53 ⟨Nat.le_refl 0, Nat.le_refl 0⟩ (fun r15 u15 H locs hq hP hD hS => ?_)
      obtain ⟨hR, hF15, gr15, hz15⟩ := hq
      have hF := hF.tr hF15 (by decide)
      have hK_N4 := sp_fr sp_N4 hF15 (by decide) hK_N4
      have hK_DBI := sp_fr sp_DBI hF15 (by decide) hK_DBI
      have hC := bd_eq hC hz15
      have k16 : (u15.1 39 6).toInt = (u.1 39 6).toInt := congrArg Int32.toInt (show u15.1 39 6 = (u.1 39 6) from hF15 39 6 rfl)
      exact a_retz F hr hlocks hP hD hS dX0_readLine_56 (i_01 (by omega)) ⟨hR, hF, (by omega : (0 : Int) ≤ r15.toInt ∧ r15.toInt ≤ 1), (by omega : r15.toInt ≠ 0 → (u15.1 39 6).toInt ≤ 39), (fun h9 => absurd (by omega : r15.toInt = 0) h9), hRR.symm.trans hC⟩
  have L17 : ∀ (z0 : Int32) (u : ac_U) (H : Heap) (locs : List Loc) (ls : Array Slot), ac_R rg u → ac_Fr [(1, some 4), (1, some 5), (1, some 6), (1, some 8), (1, some 9), (1, some 10), (1, some 11), (40, none), (41, none), (42, none)] u0 u → nmI 11 12 u → dbI u → (0 : Int) ≤ z0.toInt ∧ z0.toInt ≤ 1 → RR = (K_X0_readLine_39_17 u0 u z0) → va_P (dC, dI) vwCl (ac_w ad cA (TT nF) u) H → va_D A (ac_w ad cA (TT nF) u) → va_S A s.heap H locs → lv_has ls 2 [(0, .ref (ad 39))] → W p l e (ac_rm 6) s m [.ref (ad 39)].toArray below meth c H locs 0 0 (MQ below (va_Qi (fun (r : Int32) (u : ac_U) => ac_R rg u ∧ ac_Fr [(1, some 4), (1, some 5), (1, some 6), (1, some 8), (1, some 9), (1, some 10), (1, some 11), (40, none), (41, none), (42, none)] u0 u ∧ ((0 : Int) ≤ r.toInt ∧ r.toInt ≤ 1) ∧ (r.toInt ≠ 0 → (u.1 39 6).toInt ≤ 39) ∧ (r.toInt ≠ 0 → dbJ u) ∧ f_X0_readLine_39 u0 = (u, r)) (ac_B (dC, dI) vwCl (ac_ty cA) ad cA (TT nF) A) A) [.ref (ad 39)].toArray s 0 0 A) (F0 m 17 ls [.int z0]) := by
    intro z0 u H locs ls hR hF hK_N4 hK_DBI f0 hC hP hD hS hl
    unfold K_X0_readLine_39_17 at hC
    refine lv_istore_n (lv' := [(1, .int z0), (0, .ref (ad 39))]) F.1 F.2.1 dX0_readLine_17 rfl hl (by decide) rfl (fun ls hl => ?_)
    refine lv_iload_n F.1 F.2.1 dX0_readLine_18 rfl (lv_at hl 0 rfl) ?_
    refine z_ne F 39 dX0_readLine_19 (by decide) rfl (fun c17 => ?_) (fun c17 => ?_)
    · have hC := hC.trans (if_pos c17)
      have g18 : (0 : Int) ≤ (u.1 1 9).toInt ∧ (u.1 1 9).toInt ≤ 7 := hR 1 9
      exact L39 z0 _ _ _ _ hR hF hK_N4 hK_DBI (by omega) (by omega : z0.toInt = 0 → (u.1 1 9).toInt ≤ 3) hC hP hD hS (lv_sub hl [1, 0] rfl)
    · have hC := hC.trans (if_neg (by omega))
      refine lv_aload_n F.1 F.2.1 dX0_readLine_22 rfl (lv_at hl 1 rfl) ?_
      refine a_getr F inX0 hP 39 0 tc_39 rfl rfl (by decide) q399 (fun _ h9 => h9) dX0_readLine_23 ?_
      refine lv_aload_n F.1 F.2.1 dX0_readLine_26 rfl (lv_at hl 1 rfl) ?_
      refine a_getr F inX0 hP 39 1 tc_39 rfl rfl (by decide) q400 (fun _ h9 => h9) dX0_readLine_27 ?_
      refine a_ic F (1 : Int32) dX0_readLine_30 (by decide) ?_
      refine a_Vi F hml hl.1 hA hP hD hS (As := [.ref (ad 4), .int (1 : Int32)]) (x_X10_isKnown_1_4 l dC dI ad cA nF _ (1 : Int32) hR (by decide) hK_N4) (cs_RX0_62 (d := 2) F.2.2.1 (by decide)) tc_1 rfl rfl rfl rfl (Nat.le_of_ble_eq_true rfl) dX0_readLine_31 ⟨Nat.le_refl 0, Nat.le_refl 0⟩ (fun r19 u19 H locs hq hP hD hS => ?_)
      obtain ⟨hR, hF19, gr19, xr19, hz19⟩ := hq
      have hF := hF.tr hF19 (by decide)
      have hK_N4 := sp_fr sp_N4 hF19 (by decide) hK_N4
      have hK_DBI := sp_fr sp_DBI hF19 (by decide) hK_DBI
      have g20 : (0 : Int) ≤ (u19.1 1 9).toInt ∧ (u19.1 1 9).toInt ≤ 7 := hR 1 9
      have xr19 : r19.toInt ≠ 0 → (1 : Int) = 1 → (u19.1 1 9).toInt ≤ 3 := xr19
      have hC := bd_eq hC hz19
      refine z_ne F 39 dX0_readLine_34 (by decide) rfl (fun c21 => ?_) (fun c21 => ?_)
      · have hC := hC.trans (if_pos c21)
        exact L39 z0 _ _ _ _ hR hF hK_N4 hK_DBI (by omega) (by omega : z0.toInt = 0 → (u19.1 1 9).toInt ≤ 3) hC hP hD hS (lv_sub hl [1, 0] rfl)
      · have hC := hC.trans (if_neg (by omega))
        refine a_ic F (0 : Int32) dX0_readLine_37 (by decide) ?_
        have g22 : (0 : Int) ≤ (u19.1 39 6).toInt ∧ (u19.1 39 6).toInt ≤ 40 := hR 39 6
        exact a_retz F hr hlocks hP hD hS dX0_readLine_38 (Or.inl rfl) ⟨hR, hF, (by decide), (by first | exact (by omega : (0 : Int) ≠ 0 → (u19.1 39 6).toInt ≤ 39) | (rw [ic_0]; exact (by omega : (0 : Int) ≠ 0 → (u19.1 39 6).toInt ≤ 39))), (fun h9 => absurd (by decide) h9), hRR.symm.trans hC⟩
  have hC : RR = f_X0_readLine_39 u0 := hRR
  unfold f_X0_readLine_39 at hC
  refine lv_aload_n F.1 F.2.1 dX0_readLine_0 rfl (lv_at hl 0 rfl) ?_
  refine a_getr F inX0 hP 39 0 tc_39 rfl rfl (by decide) q399 (fun _ h9 => h9) dX0_readLine_1 ?_
  have g23 : (-128 : Int) ≤ (u0.1 1 6).toInt ∧ (u0.1 1 6).toInt ≤ 127 := hR 1 6
  refine a_geti F inX10 hP 1 6 tc_1 rfl rfl (by decide) q101 (fun _ h9 => h9) (v := (u0.1 1 6)) rfl dX0_readLine_4 ?_
  refine a_bp F (113 : Int32) dX0_readLine_7 (by decide) ?_
  refine b_ne F 16 dX0_readLine_9 (by decide) rfl ic_113 (fun c24 => ?_) (fun c24 => ?_)
  · have hC := hC.trans (if_pos c24)
    refine a_ic F (0 : Int32) dX0_readLine_16 (by decide) ?_
    exact L17 (0 : Int32) _ _ _ _ hR hF hK_N4 hK_DBI (by decide) hC hP hD hS (lv_sub hl [0] rfl)
  · have hC := hC.trans (if_neg (by omega))
    refine a_ic F (1 : Int32) dX0_readLine_12 (by decide) ?_
    refine lv_goto (tgt := 17) F.1 F.2.1 dX0_readLine_13 (by decide) ?_
    exact L17 (1 : Int32) _ _ _ _ hR hF hK_N4 hK_DBI (by decide) hC hP hD hS (lv_sub hl [0] rfl)
def K_X0_readWhole_39_63 (u0 : ac_U) (u : ac_U) : ac_U × Int32 := (u, (1 : Int32))
def K_X0_readWhole_39_15_b (B15 : ac_U → ac_U × Int32) (u0 : ac_U) (u : ac_U) : ac_U × Int32 := (if (40 : Int) < (u.1 39 6).toInt then (u, 0) else (if (u.1 1 6).toInt = 0 then (K_X0_readWhole_39_63 u0 u) else (bd (f_X0_readLine_39 u) (fun (u5 : ac_U) (r5 : Int32) => (if r5.toInt ≠ 0 then (vl (f_X10_readNext_1 u5) (fun (u8 : ac_U) => (vl ((u.1 39 6) + (1 : Int32)) (fun (v9 : Int32) => (B15 (pI u8 39 6 v9)))))) else (u5, (0 : Int32)))))))
def K_X0_readWhole_39_15 (u0 : ac_U) : Nat → ac_U → ac_U × Int32
  | 0 => fun u => (u, 0)
  | n + 1 => fun u => K_X0_readWhole_39_15_b (K_X0_readWhole_39_15 u0 n) u0 u
def f_X0_readWhole_39 (u0 : ac_U) : ac_U × Int32 := (vl (f_X10_startReading_1 u0 (500 : Int32)) (fun (u10 : ac_U) => (K_X0_readWhole_39_15 u0 43 (pI u10 39 6 (0 : Int32)))))
set_option maxHeartbeats 600000 in
set_option maxRecDepth 100000 in
theorem x_X0_readWhole_39 (l : Launch) (dC : Nat → ClassId) (dI : Nat → Nat → Nat) (ad : Nat → Nat) (cA : Nat → ClassId) (nF : Nat) (u0 : ac_U)  (hR : ac_R rg u0) (hK_N4 : nmI 11 12 u0) : ac_Mi l yX0_readWhole (.code yX0_readWhole cX0_readWhole 1 (some .boolean) :: TB) 7 (dC, dI) vwCl (ac_ty cA) ad cA (TT nF) [.ref (ad 39)] u0 (fun (r : Int32) (u : ac_U) => ac_R rg u ∧ ac_Fr [(1, some 3), (1, some 4), (1, some 5), (1, some 6), (1, some 8), (1, some 9), (1, some 10), (1, some 11), (39, some 6), (40, none), (41, none), (42, none)] u0 u ∧ ((0 : Int) ≤ r.toInt ∧ r.toInt ≤ 1) ∧ (r.toInt ≠ 0 → dbI u) ∧ f_X0_readWhole_39 u0 = (u, r)) := by
  refine ac_Mi.of (cc := cX0_readWhole) (maxL := 1) (ret := (some .boolean)) (by decide) rfl (Nat.le_of_ble_eq_true rfl) ?_
  intro p e s m below meth c A ls F hml hr hlocks hA hP hD hS hl
  have F : ac_X p s m [.ref (ad 39)].toArray c cX0_readWhole RX0 TB (dC, dI) vwCl (ac_ty cA) := ⟨F.1, F.2.1, fun w h => F.2.2.1 w (List.mem_cons_of_mem _ h), F.2.2.2.1, F.2.2.2.2⟩
  have hl : lv_has ls 1 [(0, .ref (ad 39))] := hl
  obtain ⟨RR, hRR⟩ : ∃ q, q = f_X0_readWhole_39 u0 := ⟨_, rfl⟩
  have hF : ac_Fr [(1, some 3), (1, some 4), (1, some 5), (1, some 6), (1, some 8), (1, some 9), (1, some 10), (1, some 11), (39, some 6), (40, none), (41, none), (42, none)] u0 u0 := ac_Fr.rf
  have L63 : ∀ (u : ac_U) (H : Heap) (locs : List Loc) (ls : Array Slot), ac_R rg u → ac_Fr [(1, some 3), (1, some 4), (1, some 5), (1, some 6), (1, some 8), (1, some 9), (1, some 10), (1, some 11), (39, some 6), (40, none), (41, none), (42, none)] u0 u → dbI u → (0 : Int) ≤ (u.1 1 6).toInt ∧ (u.1 1 6).toInt ≤ 0 → RR = (K_X0_readWhole_39_63 u0 u) → va_P (dC, dI) vwCl (ac_w ad cA (TT nF) u) H → va_D A (ac_w ad cA (TT nF) u) → va_S A s.heap H locs → lv_has ls 1 [] → W p l e (ac_rm 7) s m [.ref (ad 39)].toArray below meth c H locs 0 0 (MQ below (va_Qi (fun (r : Int32) (u : ac_U) => ac_R rg u ∧ ac_Fr [(1, some 3), (1, some 4), (1, some 5), (1, some 6), (1, some 8), (1, some 9), (1, some 10), (1, some 11), (39, some 6), (40, none), (41, none), (42, none)] u0 u ∧ ((0 : Int) ≤ r.toInt ∧ r.toInt ≤ 1) ∧ (r.toInt ≠ 0 → dbI u) ∧ f_X0_readWhole_39 u0 = (u, r)) (ac_B (dC, dI) vwCl (ac_ty cA) ad cA (TT nF) A) A) [.ref (ad 39)].toArray s 0 0 A) (F0 m 63 ls []) := by
    intro u H locs ls hR hF hK_DBI f0 hC hP hD hS hl
    unfold K_X0_readWhole_39_63 at hC
    refine a_ic F (1 : Int32) dX0_readWhole_63 (by decide) ?_
    exact a_retz F hr hlocks hP hD hS dX0_readWhole_64 (Or.inr rfl) ⟨hR, hF, (by decide), (fun _ => hK_DBI), hRR.symm.trans hC⟩
  have L15 : ∀ (n15 : Nat) (u : ac_U) (H : Heap) (locs : List Loc) (ls : Array Slot), ac_R rg u → ac_Fr [(1, some 3), (1, some 4), (1, some 5), (1, some 6), (1, some 8), (1, some 9), (1, some 10), (1, some 11), (39, some 6), (40, none), (41, none), (42, none)] u0 u → 41 - (u.1 39 6).toInt < (n15 : Int) → nmI 11 12 u → dbI u → (0 : Int) ≤ (u.1 39 6).toInt ∧ (u.1 39 6).toInt ≤ 40 → RR = (K_X0_readWhole_39_15 u0 n15 u) → va_P (dC, dI) vwCl (ac_w ad cA (TT nF) u) H → va_D A (ac_w ad cA (TT nF) u) → va_S A s.heap H locs → lv_has ls 1 [(0, .ref (ad 39))] → W p l e (ac_rm 7) s m [.ref (ad 39)].toArray below meth c H locs 0 0 (MQ below (va_Qi (fun (r : Int32) (u : ac_U) => ac_R rg u ∧ ac_Fr [(1, some 3), (1, some 4), (1, some 5), (1, some 6), (1, some 8), (1, some 9), (1, some 10), (1, some 11), (39, some 6), (40, none), (41, none), (42, none)] u0 u ∧ ((0 : Int) ≤ r.toInt ∧ r.toInt ≤ 1) ∧ (r.toInt ≠ 0 → dbI u) ∧ f_X0_readWhole_39 u0 = (u, r)) (ac_B (dC, dI) vwCl (ac_ty cA) ad cA (TT nF) A) A) [.ref (ad 39)].toArray s 0 0 A) (F0 m 15 ls []) := by
    intro n15
    induction n15 with
    | zero => intro u H locs ls hR hF hn15 hK_N4 hK_DBI f0 hC hP hD hS hl; have gz0 : (0 : Int) ≤ (u.1 39 6).toInt ∧ (u.1 39 6).toInt ≤ 40 := hR 39 6; exfalso; omega
    | succ n15 ih15 =>
      intro u H locs ls hR hF hn15 hK_N4 hK_DBI f0 hC hP hD hS hl
      have hC : RR = K_X0_readWhole_39_15_b (K_X0_readWhole_39_15 u0 n15) u0 u := hC
      unfold K_X0_readWhole_39_15_b at hC
      refine lv_aload_n F.1 F.2.1 dX0_readWhole_15 rfl (lv_at hl 0 rfl) ?_
      have g1 : (0 : Int) ≤ (u.1 39 6).toInt ∧ (u.1 39 6).toInt ≤ 40 := hR 39 6
      refine a_geti F inX0 hP 39 6 tc_39 rfl rfl (by decide) q405 (fun _ h9 => h9) (v := (u.1 39 6)) rfl dX0_readWhole_16 ?_
      refine a_bp F (40 : Int32) dX0_readWhole_19 (by decide) ?_
      refine b_gt F 63 dX0_readWhole_21 (by decide) rfl ic_40 (fun c2 => ?_) (fun c2 => ?_)
      · exfalso; omega
      · have hC := hC.trans (if_neg (by omega))
        refine lv_aload_n F.1 F.2.1 dX0_readWhole_24 rfl (lv_at hl 0 rfl) ?_
        refine a_getr F inX0 hP 39 0 tc_39 rfl rfl (by decide) q399 (fun _ h9 => h9) dX0_readWhole_25 ?_
        have g3 : (-128 : Int) ≤ (u.1 1 6).toInt ∧ (u.1 1 6).toInt ≤ 127 := hR 1 6
        refine a_geti F inX10 hP 1 6 tc_1 rfl rfl (by decide) q101 (fun _ h9 => h9) (v := (u.1 1 6)) rfl dX0_readWhole_28 ?_
        refine z_eq F 63 dX0_readWhole_31 (by decide) rfl (fun c4 => ?_) (fun c4 => ?_)
        · have hC := hC.trans (if_pos c4)
          exact L63 _ _ _ _ hR hF hK_DBI (by omega : (0 : Int) ≤ (u.1 1 6).toInt ∧ (u.1 1 6).toInt ≤ 0) hC hP hD hS (lv_sub hl [] rfl)
        · have hC := hC.trans (if_neg (by omega))
          refine lv_aload_n F.1 F.2.1 dX0_readWhole_34 rfl (lv_at hl 0 rfl) ?_
          refine a_Vi F hml hl.1 hA hP hD hS (As := []) (x_X0_readLine_39 l dC dI ad cA nF _  hR hK_N4 hK_DBI) (cs_RX0_55 (d := 6) F.2.2.1 (by decide)) tc_39 rfl rfl rfl rfl (Nat.le_of_ble_eq_true rfl) dX0_readWhole_35 ⟨Nat.le_refl 0, Nat.le_refl 0⟩ (fun r5 u5 H locs hq hP hD hS => ?_)
          obtain ⟨hR, hF5, gr5, xr5, hK_r5_DBJ, hz5⟩ := hq
          have hF := hF.tr hF5 (by decide)
          have hK_N4 := sp_fr sp_N4 hF5 (by decide) hK_N4
          have k6 : (u5.1 39 6).toInt = (u.1 39 6).toInt := congrArg Int32.toInt (show u5.1 39 6 = (u.1 39 6) from hF5 39 6 rfl)
          have xr5 : r5.toInt ≠ 0 → (u5.1 39 6).toInt ≤ 39 := xr5
          have hC := bd_eq hC hz5
          refine z_ne F 43 dX0_readWhole_38 (by decide) rfl (fun c7 => ?_) (fun c7 => ?_)
          · have hC := hC.trans (if_pos c7)
            have hK_DBJ := hK_r5_DBJ (by omega)
            refine lv_aload_n F.1 F.2.1 dX0_readWhole_43 rfl (lv_at hl 0 rfl) ?_
            refine a_getr F inX0 hP 39 0 tc_39 rfl rfl (by decide) q399 (fun _ h9 => h9) dX0_readWhole_44 ?_
            refine a_Vv F hml hl.1 hA hP hD hS (As := []) (x_X10_readNext_1 l dC dI ad cA nF _  hR) (cs_RX0_59 (d := 3) F.2.2.1 (by decide)) tc_1 rfl rfl rfl rfl (Nat.le_of_ble_eq_true rfl) dX0_readWhole_47 ⟨Nat.le_refl 0, Nat.le_refl 0⟩ (fun u8 H locs hq hP hD hS => ?_)
            obtain ⟨hR, hF8, hz8⟩ := hq
            have hF := hF.tr hF8 (by decide)
            have hK_N4 := sp_fr sp_N4 hF8 (by decide) hK_N4
            have hK_r5_DBJ := sp_fr (sp_imp sp_DBJ) hF8 (by decide) hK_r5_DBJ
            have hK_DBJ := sp_fr sp_DBJ hF8 (by decide) hK_DBJ
            have hC := vl_eq hC hz8.symm
            refine lv_aload_n F.1 F.2.1 dX0_readWhole_50 rfl (lv_at hl 0 rfl) ?_
            refine lv_dup F.1 F.2.1 dX0_readWhole_51 rfl ?_
            refine a_geti F inX0 hP 39 6 tc_39 rfl rfl (by decide) q405 (fun _ h9 => h9) (v := (u.1 39 6)) ((hF8 39 6 rfl).trans (hF5 39 6 rfl)) dX0_readWhole_52 ?_
            refine a_ic F (1 : Int32) dX0_readWhole_55 (by decide) ?_
            refine a_iaddX F dX0_readWhole_56 rfl ic_1 (by omega) (fun v9 hv9 yv9 => ?_)
            have hC := vl_eq hC yv9
            refine a_puti F inX0 tyX0 tyX0_ok nmX0 hP hD hS 39 6 tc_39 rfl rfl (by decide) q405 (fun _ h9 => h9) rfl (ty := .int) (tyX0_ok 6 (by decide)) rfl rfl dX0_readWhole_57 (fun H locs hP hD hS => ?_)
            have hR := hR.si (c := 39) (k := 6) (v := v9) (by omega : (0 : Int) ≤ v9.toInt ∧ v9.toInt ≤ 40)
            have hF := hF.si (c := 39) (k := 6) (v := v9) rfl
            have hN_DBI := db_s hK_DBJ (i := (u.1 39 6)) (v := v9) ((hF8 39 6 rfl).trans (hF5 39 6 rfl)) (by omega)
            have hK_N4 := sp_sgD sp_N4 hD hK_N4 (by decide)
            have hK_DBI := hN_DBI
            refine lv_goto (tgt := 15) F.1 F.2.1 dX0_readWhole_60 (by decide) ?_
            exact ih15 _ _ _ _ hR hF (by omega : 41 - v9.toInt < ((n15 : Nat) : Int)) hK_N4 hK_DBI (by omega : (0 : Int) ≤ v9.toInt ∧ v9.toInt ≤ 40) hC hP hD hS (lv_sub hl [0] rfl)
          · have hC := hC.trans (if_neg (by omega))
            refine a_ic F (0 : Int32) dX0_readWhole_41 (by decide) ?_
            exact a_retz F hr hlocks hP hD hS dX0_readWhole_42 (Or.inl rfl) ⟨hR, hF, (by decide), (fun h9 => absurd (by decide) h9), hRR.symm.trans hC⟩
  have hC : RR = f_X0_readWhole_39 u0 := hRR
  unfold f_X0_readWhole_39 at hC
  refine lv_aload_n F.1 F.2.1 dX0_readWhole_0 rfl (lv_at hl 0 rfl) ?_
  refine a_getr F inX0 hP 39 0 tc_39 rfl rfl (by decide) q399 (fun _ h9 => h9) dX0_readWhole_1 ?_
  refine a_sp F (500 : Int32) dX0_readWhole_4 (by decide) ?_
  refine a_Vv F hml hl.1 hA hP hD hS (As := [.int (500 : Int32)]) (x_X10_startReading_1 l dC dI ad cA nF _ (500 : Int32) hR (by decide)) (cs_RX0_46 (d := 4) F.2.2.1 (by decide)) tc_1 rfl rfl rfl rfl (Nat.le_of_ble_eq_true rfl) dX0_readWhole_7 ⟨Nat.le_refl 0, Nat.le_refl 0⟩ (fun u10 H locs hq hP hD hS => ?_)
  obtain ⟨hR, hF10, hz10⟩ := hq
  have hF := hF.tr hF10 (by decide)
  have hK_N4 := sp_fr sp_N4 hF10 (by decide) hK_N4
  have hC := vl_eq hC hz10.symm
  refine lv_aload_n F.1 F.2.1 dX0_readWhole_10 rfl (lv_at hl 0 rfl) ?_
  refine a_ic F (0 : Int32) dX0_readWhole_11 (by decide) ?_
  refine a_puti F inX0 tyX0 tyX0_ok nmX0 hP hD hS 39 6 tc_39 rfl rfl (by decide) q405 (fun _ h9 => h9) rfl (ty := .int) (tyX0_ok 6 (by decide)) rfl rfl dX0_readWhole_12 (fun H locs hP hD hS => ?_)
  have hR := hR.si (c := 39) (k := 6) (v := (0 : Int32)) (by rw [ic_0]; exact (by omega : (0 : Int) ≤ (0 : Int) ∧ (0 : Int) ≤ 40))
  have hF := hF.si (c := 39) (k := 6) (v := (0 : Int32)) rfl
  have hN_DBI := db_0D hD (by decide)
  have hK_N4 := sp_sgD sp_N4 hD hK_N4 (by decide)
  have hK_DBI := hN_DBI
  exact L15 43 _ _ _ _ hR hF (by omega : 41 - (0 : Int) < (43 : Int)) hK_N4 hK_DBI (by omega : (0 : Int) ≤ (0 : Int) ∧ (0 : Int) ≤ 40) hC hP hD hS (lv_sub hl [0] rfl)

def f_X2_dayOf_4 (u0 : ac_U) (p0 : Int32) : Int32 := (if (u0.1 4 0).toInt ≤ 0 then 0 else (vl (p0 / (u0.1 4 0)) (fun (v3 : Int32) => v3)))
set_option maxHeartbeats 600000 in
set_option maxRecDepth 100000 in
theorem x_X2_dayOf_4 (l : Launch) (dC : Nat → ClassId) (dI : Nat → Nat → Nat) (ad : Nat → Nat) (cA : Nat → ClassId) (nF : Nat) (u0 : ac_U) (p0 : Int32) (hR : ac_R rg u0) (hp0 : (-1 : Int) ≤ p0.toInt ∧ p0.toInt ≤ 480) : ac_Mi l yX2_dayOf (.code yX2_dayOf cX2_dayOf 2 (some .int) :: TB) 1 (dC, dI) vwCl (ac_ty cA) ad cA (TT nF) [.ref (ad 4), .int p0] u0 (fun (r : Int32) (u : ac_U) => u = u0 ∧ ((0 : Int) ≤ r.toInt ∧ r.toInt ≤ 120) ∧ (0 ≤ p0.toInt → p0.toInt < 20 * (u0.1 4 0).toInt → r.toInt < 20) ∧ f_X2_dayOf_4 u0 p0 = r) := by
  refine ac_Mi.of (cc := cX2_dayOf) (maxL := 2) (ret := (some .int)) (by decide) rfl (Nat.le_of_ble_eq_true rfl) ?_
  intro p e s m below meth c A ls F hml hr hlocks hA hP hD hS hl
  have F : ac_X p s m [.ref (ad 4), .int p0].toArray c cX2_dayOf RX2 TB (dC, dI) vwCl (ac_ty cA) := ⟨F.1, F.2.1, fun w h => F.2.2.1 w (List.mem_cons_of_mem _ h), F.2.2.2.1, F.2.2.2.2⟩
  have hl : lv_has ls 2 [(0, .ref (ad 4)), (1, .int p0)] := hl
  obtain ⟨RR, hRR⟩ : ∃ q, q = f_X2_dayOf_4 u0 p0 := ⟨_, rfl⟩
  have hC : RR = f_X2_dayOf_4 u0 p0 := hRR
  unfold f_X2_dayOf_4 at hC
  refine lv_aload_n F.1 F.2.1 dX2_dayOf_0 rfl (lv_at hl 0 rfl) ?_
  have g1 : (4 : Int) ≤ (u0.1 4 0).toInt ∧ (u0.1 4 0).toInt ≤ 24 := hR 4 0
  refine a_geti F inX2 hP 4 0 tc_4 rfl rfl (by decide) q151 (fun _ h9 => h9) (v := (u0.1 4 0)) rfl dX2_dayOf_1 ?_
  refine z_le F 16 dX2_dayOf_4 (by decide) rfl (fun c2 => ?_) (fun c2 => ?_)
  · exfalso; omega
  · have hC := hC.trans (if_neg (by omega))
    refine lv_iload_n F.1 F.2.1 dX2_dayOf_7 rfl (lv_at hl 1 rfl) ?_
    refine lv_aload_n F.1 F.2.1 dX2_dayOf_8 rfl (lv_at hl 0 rfl) ?_
    refine a_geti F inX2 hP 4 0 tc_4 rfl rfl (by decide) q151 (fun _ h9 => h9) (v := (u0.1 4 0)) (rfl) dX2_dayOf_9 ?_
    refine a_idivX F (kk := 4) dX2_dayOf_12 rfl rfl (by omega) (fun v3 ev3 hv3 yv3 => ?_)
    have hC := vl_eq hC yv3
    have hd : 0 ≤ p0.toInt → p0.toInt < 20 * (u0.1 4 0).toInt → v3.toInt < 20 := fun h0 h1 => by rw [(hv3.1 h0).2.2.2]; exact Int.ediv_lt_of_lt_mul (by omega) h1
    refine lv_goto (tgt := 17) F.1 F.2.1 dX2_dayOf_13 (by decide) ?_
    exact a_reti F hr hlocks hP hD hS dX2_dayOf_17 ⟨rfl, (by omega : (0 : Int) ≤ v3.toInt ∧ v3.toInt ≤ 120), (by omega : 0 ≤ p0.toInt → p0.toInt < 20 * (u0.1 4 0).toInt → v3.toInt < 20), hRR.symm.trans hC⟩

def f_X2_hourOf_4 (u0 : ac_U) (p0 : Int32) : Int32 := (if (u0.1 4 0).toInt ≤ 0 then 0 else (vl (p0 - p0 / (u0.1 4 0) * (u0.1 4 0)) (fun (v3 : Int32) => v3)))
set_option maxHeartbeats 600000 in
set_option maxRecDepth 100000 in
theorem x_X2_hourOf_4 (l : Launch) (dC : Nat → ClassId) (dI : Nat → Nat → Nat) (ad : Nat → Nat) (cA : Nat → ClassId) (nF : Nat) (u0 : ac_U) (p0 : Int32) (hR : ac_R rg u0) (hp0 : (-1 : Int) ≤ p0.toInt ∧ p0.toInt ≤ 480) : ac_Mi l yX2_hourOf (.code yX2_hourOf cX2_hourOf 2 (some .int) :: TB) 1 (dC, dI) vwCl (ac_ty cA) ad cA (TT nF) [.ref (ad 4), .int p0] u0 (fun (r : Int32) (u : ac_U) => u = u0 ∧ ((-23 : Int) ≤ r.toInt ∧ r.toInt ≤ 23) ∧ (0 ≤ p0.toInt → 0 ≤ r.toInt) ∧ f_X2_hourOf_4 u0 p0 = r) := by
  refine ac_Mi.of (cc := cX2_hourOf) (maxL := 2) (ret := (some .int)) (by decide) rfl (Nat.le_of_ble_eq_true rfl) ?_
  intro p e s m below meth c A ls F hml hr hlocks hA hP hD hS hl
  have F : ac_X p s m [.ref (ad 4), .int p0].toArray c cX2_hourOf RX2 TB (dC, dI) vwCl (ac_ty cA) := ⟨F.1, F.2.1, fun w h => F.2.2.1 w (List.mem_cons_of_mem _ h), F.2.2.2.1, F.2.2.2.2⟩
  have hl : lv_has ls 2 [(0, .ref (ad 4)), (1, .int p0)] := hl
  obtain ⟨RR, hRR⟩ : ∃ q, q = f_X2_hourOf_4 u0 p0 := ⟨_, rfl⟩
  have hC : RR = f_X2_hourOf_4 u0 p0 := hRR
  unfold f_X2_hourOf_4 at hC
  refine lv_aload_n F.1 F.2.1 dX2_hourOf_0 rfl (lv_at hl 0 rfl) ?_
  have g1 : (4 : Int) ≤ (u0.1 4 0).toInt ∧ (u0.1 4 0).toInt ≤ 24 := hR 4 0
  refine a_geti F inX2 hP 4 0 tc_4 rfl rfl (by decide) q151 (fun _ h9 => h9) (v := (u0.1 4 0)) rfl dX2_hourOf_1 ?_
  refine z_le F 16 dX2_hourOf_4 (by decide) rfl (fun c2 => ?_) (fun c2 => ?_)
  · exfalso; omega
  · have hC := hC.trans (if_neg (by omega))
    refine lv_iload_n F.1 F.2.1 dX2_hourOf_7 rfl (lv_at hl 1 rfl) ?_
    refine lv_aload_n F.1 F.2.1 dX2_hourOf_8 rfl (lv_at hl 0 rfl) ?_
    refine a_geti F inX2 hP 4 0 tc_4 rfl rfl (by decide) q151 (fun _ h9 => h9) (v := (u0.1 4 0)) (rfl) dX2_hourOf_9 ?_
    refine a_iremX F dX2_hourOf_12 rfl rfl (by omega) (fun v3 hv3 yv3 => ?_)
    have hC := vl_eq hC yv3
    refine lv_goto (tgt := 17) F.1 F.2.1 dX2_hourOf_13 (by decide) ?_
    exact a_reti F hr hlocks hP hD hS dX2_hourOf_17 ⟨rfl, (by omega : (-23 : Int) ≤ v3.toInt ∧ v3.toInt ≤ 23), (by omega : 0 ≤ p0.toInt → 0 ≤ v3.toInt), hRR.symm.trans hC⟩
def K_X5_isThere_29_40 (u0 : ac_U) (p0 : Int32) (p1 : Int32) (p2 : Int32) : Int32 := (0 : Int32)
def K_X5_isThere_29_36 (u0 : ac_U) (p0 : Int32) (p1 : Int32) (p2 : Int32) : Int32 := (1 : Int32)
def f_X5_isThere_29 (u0 : ac_U) (p0 : Int32) (p1 : Int32) (p2 : Int32) : Int32 := (vl (f_X2_term_4 u0 p0 (2 : Int32)) (fun (r1 : Int32) => (if p2.toInt = r1.toInt then (K_X5_isThere_29_36 u0 p0 p1 p2) else (vl (p1 &&& (4 : Int32)) (fun (v3 : Int32) => (if v3.toInt = 0 then (K_X5_isThere_29_40 u0 p0 p1 p2) else (vl (f_X2_isNear_4 u0 r1 p2) (fun (r5 : Int32) => (if r5.toInt = 0 then (K_X5_isThere_29_40 u0 p0 p1 p2) else (K_X5_isThere_29_36 u0 p0 p1 p2))))))))))
set_option maxHeartbeats 600000 in
set_option maxRecDepth 100000 in
theorem x_X5_isThere_29 (l : Launch) (dC : Nat → ClassId) (dI : Nat → Nat → Nat) (ad : Nat → Nat) (cA : Nat → ClassId) (nF : Nat) (u0 : ac_U) (p0 : Int32) (p1 : Int32) (p2 : Int32) (hR : ac_R rg u0) (hp0 : (0 : Int) ≤ p0.toInt ∧ p0.toInt ≤ 7) (hp1 : (0 : Int) ≤ p1.toInt ∧ p1.toInt ≤ 7) : ac_Mi l yX5_isThere (.code yX5_isThere cX5_isThere 5 (some .boolean) :: TB) 2 (dC, dI) vwCl (ac_ty cA) ad cA (TT nF) [.ref (ad 29), .int p0, .int p1, .int p2] u0 (fun (r : Int32) (u : ac_U) => u = u0 ∧ ((0 : Int) ≤ r.toInt ∧ r.toInt ≤ 1) ∧ f_X5_isThere_29 u0 p0 p1 p2 = r) := by
  refine ac_Mi.of (cc := cX5_isThere) (maxL := 5) (ret := (some .boolean)) (by decide) rfl (Nat.le_of_ble_eq_true rfl) ?_
  intro p e s m below meth c A ls F hml hr hlocks hA hP hD hS hl
  have F : ac_X p s m [.ref (ad 29), .int p0, .int p1, .int p2].toArray c cX5_isThere RX5 TB (dC, dI) vwCl (ac_ty cA) := ⟨F.1, F.2.1, fun w h => F.2.2.1 w (List.mem_cons_of_mem _ h), F.2.2.2.1, F.2.2.2.2⟩
  have hl : lv_has ls 5 [(0, .ref (ad 29)), (1, .int p0), (2, .int p1), (3, .int p2)] := hl
  obtain ⟨RR, hRR⟩ : ∃ q, q = f_X5_isThere_29 u0 p0 p1 p2 := ⟨_, rfl⟩
  have L40 : ∀ (H : Heap) (locs : List Loc) (ls : Array Slot), RR = (K_X5_isThere_29_40 u0 p0 p1 p2) → va_P (dC, dI) vwCl (ac_w ad cA (TT nF) u0) H → va_D A (ac_w ad cA (TT nF) u0) → va_S A s.heap H locs → lv_has ls 5 [] → W p l e (ac_rm 2) s m [.ref (ad 29), .int p0, .int p1, .int p2].toArray below meth c H locs 0 0 (MQ below (va_Qi (fun (r : Int32) (u : ac_U) => u = u0 ∧ ((0 : Int) ≤ r.toInt ∧ r.toInt ≤ 1) ∧ f_X5_isThere_29 u0 p0 p1 p2 = r) (ac_B (dC, dI) vwCl (ac_ty cA) ad cA (TT nF) A) A) [.ref (ad 29), .int p0, .int p1, .int p2].toArray s 0 0 A) (F0 m 40 ls []) := by
    intro H locs ls hC hP hD hS hl
    unfold K_X5_isThere_29_40 at hC
    refine a_ic F (0 : Int32) dX5_isThere_40 (by decide) ?_
    exact a_retz F hr hlocks hP hD hS dX5_isThere_41 (Or.inl rfl) ⟨rfl, (by decide), hRR.symm.trans hC⟩
  have L36 : ∀ (H : Heap) (locs : List Loc) (ls : Array Slot), RR = (K_X5_isThere_29_36 u0 p0 p1 p2) → va_P (dC, dI) vwCl (ac_w ad cA (TT nF) u0) H → va_D A (ac_w ad cA (TT nF) u0) → va_S A s.heap H locs → lv_has ls 5 [] → W p l e (ac_rm 2) s m [.ref (ad 29), .int p0, .int p1, .int p2].toArray below meth c H locs 0 0 (MQ below (va_Qi (fun (r : Int32) (u : ac_U) => u = u0 ∧ ((0 : Int) ≤ r.toInt ∧ r.toInt ≤ 1) ∧ f_X5_isThere_29 u0 p0 p1 p2 = r) (ac_B (dC, dI) vwCl (ac_ty cA) ad cA (TT nF) A) A) [.ref (ad 29), .int p0, .int p1, .int p2].toArray s 0 0 A) (F0 m 36 ls []) := by
    intro H locs ls hC hP hD hS hl
    unfold K_X5_isThere_29_36 at hC
    refine a_ic F (1 : Int32) dX5_isThere_36 (by decide) ?_
    refine lv_goto (tgt := 41) F.1 F.2.1 dX5_isThere_37 (by decide) ?_
    exact a_retz F hr hlocks hP hD hS dX5_isThere_41 (Or.inr rfl) ⟨rfl, (by decide), hRR.symm.trans hC⟩
  have hC : RR = f_X5_isThere_29 u0 p0 p1 p2 := hRR
  unfold f_X5_isThere_29 at hC
  refine lv_aload_n F.1 F.2.1 dX5_isThere_0 rfl (lv_at hl 0 rfl) ?_
  refine a_getr F inX5 hP 29 0 tc_29 rfl rfl (by decide) q306 (fun _ h9 => h9) dX5_isThere_1 ?_
  refine lv_iload_n F.1 F.2.1 dX5_isThere_4 rfl (lv_at hl 1 rfl) ?_
  refine a_ic F (2 : Int32) dX5_isThere_5 (by decide) ?_
  refine a_Vi F hml hl.1 hA hP hD hS (As := [.int p0, .int (2 : Int32)]) (x_X2_term_4 l dC dI ad cA nF _ p0 (2 : Int32) hR (by omega) (by decide)) (cs_RX5_36 (d := 1) F.2.2.1 (by decide)) tc_4 rfl rfl rfl rfl (Nat.le_of_ble_eq_true rfl) dX5_isThere_6 ⟨Nat.le_refl 0, Nat.le_refl 0⟩ (fun r1 uN1 H locs hq hP hD hS => ?_)
  obtain ⟨hu1, xr1, hz1⟩ := hq
  rw [hu1] at hP hD
  have xr1 : ((2 : Int) = 2 → 0 ≤ r1.toInt ∧ r1.toInt ≤ 7) ∧ ((2 : Int) = 5 → 0 ≤ r1.toInt ∧ r1.toInt ≤ 3) := xr1
  have hC := vl_eq hC hz1.symm
  refine lv_istore (lv' := [(4, .int r1), (0, .ref (ad 29)), (1, .int p0), (2, .int p1), (3, .int p2)]) F.1 F.2.1 dX5_isThere_9 hl (by decide) rfl (fun ls hl => ?_)
  refine lv_iload_n F.1 F.2.1 dX5_isThere_11 rfl (lv_at hl 4 rfl) ?_
  refine lv_iload F.1 F.2.1 dX5_isThere_12 (lv_at hl 0 rfl) ?_
  refine b_eq F 36 dX5_isThere_14 (by decide) rfl rfl (fun c2 => ?_) (fun c2 => ?_)
  · have hC := hC.trans (if_pos c2)
    exact L36 _ _ _  hC hP hD hS (lv_sub hl [] rfl)
  · have hC := hC.trans (if_neg (by omega))
    refine lv_iload_n F.1 F.2.1 dX5_isThere_17 rfl (lv_at hl 3 rfl) ?_
    refine a_ic F (4 : Int32) dX5_isThere_18 (by decide) ?_
    refine a_iandMX F dX5_isThere_19 ic_4 (by omega) (fun v3 hv3 yv3 => ?_)
    have hC := vl_eq hC yv3
    refine z_eq F 40 dX5_isThere_20 (by decide) rfl (fun c4 => ?_) (fun c4 => ?_)
    · have hC := hC.trans (if_pos c4)
      exact L40 _ _ _  hC hP hD hS (lv_sub hl [] rfl)
    · have hC := hC.trans (if_neg (by omega))
      refine lv_aload_n F.1 F.2.1 dX5_isThere_23 rfl (lv_at hl 1 rfl) ?_
      refine a_getr F inX5 hP 29 0 tc_29 rfl rfl (by decide) q306 (fun _ h9 => h9) dX5_isThere_24 ?_
      refine lv_iload F.1 F.2.1 dX5_isThere_27 (lv_at hl 0 rfl) ?_
      refine lv_iload_n F.1 F.2.1 dX5_isThere_29 rfl (lv_at hl 4 rfl) ?_
      refine a_Vi F hml hl.1 hA hP hD hS (As := [.int r1, .int p2]) (x_X2_isNear_4 l dC dI ad cA nF _ r1 p2 hR (by omega)) (cs_RX5_79 (d := 1) F.2.2.1 (by decide)) tc_4 rfl rfl rfl rfl (Nat.le_of_ble_eq_true rfl) dX5_isThere_30 ⟨Nat.le_refl 0, Nat.le_refl 0⟩ (fun r5 uN5 H locs hq hP hD hS => ?_)
      obtain ⟨hu5, gr5, hz5⟩ := hq
      rw [hu5] at hP hD
      have hC := vl_eq hC hz5.symm
      refine z_eq F 40 dX5_isThere_33 (by decide) rfl (fun c6 => ?_) (fun c6 => ?_)
      · have hC := hC.trans (if_pos c6)
        exact L40 _ _ _  hC hP hD hS (lv_sub hl [] rfl)
      · have hC := hC.trans (if_neg (by omega))
        exact L36 _ _ _  hC hP hD hS (lv_sub hl [] rfl)

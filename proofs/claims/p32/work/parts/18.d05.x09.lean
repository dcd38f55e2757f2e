
def f_X11_dry_0 (u0 : ac_U) : Int32 := (vl (f_X2_dryBits_4 u0) (fun (r1 : Int32) => r1))
set_option maxHeartbeats 600000 in
set_option maxRecDepth 100000 in
theorem x_X11_dry_0 (l : Launch) (dC : Nat → ClassId) (dI : Nat → Nat → Nat) (ad : Nat → Nat) (cA : Nat → ClassId) (nF : Nat) (u0 : ac_U)  (hR : ac_R rg u0) : ac_Mi l yX11_dry (.code yX11_dry cX11_dry 1 (some .int) :: TB) 3 (dC, dI) vwCl (ac_ty cA) ad cA (TT nF) [.ref (ad 0)] u0 (fun (r : Int32) (u : ac_U) => u = u0 ∧ ((0 : Int) ≤ r.toInt ∧ r.toInt ≤ 255) ∧ f_X11_dry_0 u0 = r) := by
  refine ac_Mi.of (cc := cX11_dry) (maxL := 1) (ret := (some .int)) (by decide) rfl (Nat.le_of_ble_eq_true rfl) ?_
  intro p e s m below meth c A ls F hml hr hlocks hA hP hD hS hl
  have F : ac_X p s m [.ref (ad 0)].toArray c cX11_dry RX11 TB (dC, dI) vwCl (ac_ty cA) := ⟨F.1, F.2.1, fun w h => F.2.2.1 w (List.mem_cons_of_mem _ h), F.2.2.2.1, F.2.2.2.2⟩
  have hl : lv_has ls 1 [(0, .ref (ad 0))] := hl
  obtain ⟨RR, hRR⟩ : ∃ q, q = f_X11_dry_0 u0 := ⟨_, rfl⟩
  have hC : RR = f_X11_dry_0 u0 := hRR
  unfold f_X11_dry_0 at hC
  refine lv_aload_n F.1 F.2.1 dX11_dry_0 rfl (lv_at hl 0 rfl) ?_
  refine a_getr F inX11 hP 0 1 tc_0 rfl rfl (by decide) q504 (fun _ h9 => h9) dX11_dry_1 ?_
  refine a_Vi F hml hl.1 hA hP hD hS (As := []) (x_X2_dryBits_4 l dC dI ad cA nF _  hR) (cs_RX11_278 (d := 2) F.2.2.1 (by decide)) tc_4 rfl rfl rfl rfl (Nat.le_of_ble_eq_true rfl) dX11_dry_4 ⟨Nat.le_refl 0, Nat.le_refl 0⟩ (fun r1 uN1 H locs hq hP hD hS => ?_)
  obtain ⟨hu1, gr1, hz1⟩ := hq
  rw [hu1] at hP hD
  have hC := vl_eq hC hz1.symm
  exact a_reti F hr hlocks hP hD hS dX11_dry_7 ⟨rfl, (by omega : (0 : Int) ≤ r1.toInt ∧ r1.toInt ≤ 255), hRR.symm.trans hC⟩

def f_X11_feed_0 (u0 : ac_U) (p0 : Int32) (p1 : Int32) (p2 : Int32) (p3 : Int32) (p4 : Int32) : ac_U × Int32 := (vl ((u0.1 1 2) + (20 : Int32)) (fun (v2 : Int32) => (if v2.toInt ≤ (940 : Int) then (vl (f_X10_append_1 u0 p0) (fun (u4 : ac_U) => (vl (f_X10_append_1 u4 p1) (fun (u6 : ac_U) => (vl (f_X10_append_1 u6 p2) (fun (u8 : ac_U) => (vl (f_X10_append_1 u8 p3) (fun (u10 : ac_U) => (vl (f_X10_append_1 u10 p4) (fun (u12 : ac_U) => (u12, (u12.1 1 2)))))))))))) else (u0, (-1 : Int32)))))
set_option maxHeartbeats 600000 in
set_option maxRecDepth 100000 in
theorem x_X11_feed_0 (l : Launch) (dC : Nat → ClassId) (dI : Nat → Nat → Nat) (ad : Nat → Nat) (cA : Nat → ClassId) (nF : Nat) (u0 : ac_U) (p0 : Int32) (p1 : Int32) (p2 : Int32) (p3 : Int32) (p4 : Int32) (hR : ac_R rg u0) : ac_Mi l yX11_feed (.code yX11_feed cX11_feed 6 (some .int) :: TB) 2 (dC, dI) vwCl (ac_ty cA) ad cA (TT nF) [.ref (ad 0), .int p0, .int p1, .int p2, .int p3, .int p4] u0 (fun (r : Int32) (u : ac_U) => ac_R rg u ∧ ac_Fr [(1, some 2), (2, none)] u0 u ∧ ((-1 : Int) ≤ r.toInt ∧ r.toInt ≤ 940) ∧ (((u0.1 1 2).toInt ≤ 920 → (u.1 1 2).toInt = (u0.1 1 2).toInt + 20 ∧ r.toInt = (u0.1 1 2).toInt + 20) ∧ (920 < (u0.1 1 2).toInt → (u.1 1 2).toInt = (u0.1 1 2).toInt ∧ r.toInt = -1)) ∧ f_X11_feed_0 u0 p0 p1 p2 p3 p4 = (u, r)) := by
  refine ac_Mi.of (cc := cX11_feed) (maxL := 6) (ret := (some .int)) (by decide) rfl (Nat.le_of_ble_eq_true rfl) ?_
  intro p e s m below meth c A ls F hml hr hlocks hA hP hD hS hl
  have F : ac_X p s m [.ref (ad 0), .int p0, .int p1, .int p2, .int p3, .int p4].toArray c cX11_feed RX11 TB (dC, dI) vwCl (ac_ty cA) := ⟨F.1, F.2.1, fun w h => F.2.2.1 w (List.mem_cons_of_mem _ h), F.2.2.2.1, F.2.2.2.2⟩
  have hl : lv_has ls 6 [(0, .ref (ad 0)), (1, .int p0), (2, .int p1), (3, .int p2), (4, .int p3), (5, .int p4)] := hl
  obtain ⟨RR, hRR⟩ : ∃ q, q = f_X11_feed_0 u0 p0 p1 p2 p3 p4 := ⟨_, rfl⟩
  have hF : ac_Fr [(1, some 2), (2, none)] u0 u0 := ac_Fr.rf
  have hC : RR = f_X11_feed_0 u0 p0 p1 p2 p3 p4 := hRR
  unfold f_X11_feed_0 at hC
  refine lv_aload_n F.1 F.2.1 dX11_feed_0 rfl (lv_at hl 0 rfl) ?_
  refine a_getr F inX11 hP 0 0 tc_0 rfl rfl (by decide) q503 (fun _ h9 => h9) dX11_feed_1 ?_
  have g1 : (0 : Int) ≤ (u0.1 1 2).toInt ∧ (u0.1 1 2).toInt ≤ 940 := hR 1 2
  refine a_geti F inX10 hP 1 2 tc_1 rfl rfl (by decide) q96 (fun _ h9 => h9) (v := (u0.1 1 2)) rfl dX11_feed_4 ?_
  refine a_bp F (20 : Int32) dX11_feed_7 (by decide) ?_
  refine a_iaddX F dX11_feed_9 rfl ic_20 (by omega) (fun v2 hv2 yv2 => ?_)
  have hC := vl_eq hC yv2
  refine a_sp F (940 : Int32) dX11_feed_10 (by decide) ?_
  refine b_le F 18 dX11_feed_13 (by decide) rfl ic_940 (fun c3 => ?_) (fun c3 => ?_)
  · have hC := hC.trans (if_pos c3)
    refine lv_aload_n F.1 F.2.1 dX11_feed_18 rfl (lv_at hl 0 rfl) ?_
    refine a_getr F inX11 hP 0 0 tc_0 rfl rfl (by decide) q503 (fun _ h9 => h9) dX11_feed_19 ?_
    refine lv_iload_n F.1 F.2.1 dX11_feed_22 rfl (lv_at hl 1 rfl) ?_
    refine a_Vv F hml hl.1 hA hP hD hS (As := [.int p0]) (x_X10_append_1 l dC dI ad cA nF _ p0 hR) (cs_RX11_115 (d := 1) F.2.2.1 (by decide)) tc_1 rfl rfl rfl rfl (Nat.le_of_ble_eq_true rfl) dX11_feed_23 ⟨Nat.le_refl 0, Nat.le_refl 0⟩ (fun u4 H locs hq hP hD hS => ?_)
    obtain ⟨hR, hF4, xr4, hz4⟩ := hq
    have hF := hF.tr hF4 (by decide)
    have g5 : (0 : Int) ≤ (u4.1 1 2).toInt ∧ (u4.1 1 2).toInt ≤ 940 := hR 1 2
    have xr4 : (u0.1 1 2).toInt ≤ 936 → (u4.1 1 2).toInt = (u0.1 1 2).toInt + 4 := xr4
    have hC := vl_eq hC hz4.symm
    refine lv_aload_n F.1 F.2.1 dX11_feed_26 rfl (lv_at hl 0 rfl) ?_
    refine a_getr F inX11 hP 0 0 tc_0 rfl rfl (by decide) q503 (fun _ h9 => h9) dX11_feed_27 ?_
    refine lv_iload_n F.1 F.2.1 dX11_feed_30 rfl (lv_at hl 2 rfl) ?_
    refine a_Vv F hml hl.1 hA hP hD hS (As := [.int p1]) (x_X10_append_1 l dC dI ad cA nF _ p1 hR) (cs_RX11_115 (d := 1) F.2.2.1 (by decide)) tc_1 rfl rfl rfl rfl (Nat.le_of_ble_eq_true rfl) dX11_feed_31 ⟨Nat.le_refl 0, Nat.le_refl 0⟩ (fun u6 H locs hq hP hD hS => ?_)
    obtain ⟨hR, hF6, xr6, hz6⟩ := hq
    have hF := hF.tr hF6 (by decide)
    have g7 : (0 : Int) ≤ (u6.1 1 2).toInt ∧ (u6.1 1 2).toInt ≤ 940 := hR 1 2
    have xr6 : (u4.1 1 2).toInt ≤ 936 → (u6.1 1 2).toInt = (u4.1 1 2).toInt + 4 := xr6
    have hC := vl_eq hC hz6.symm
    refine lv_aload_n F.1 F.2.1 dX11_feed_34 rfl (lv_at hl 0 rfl) ?_
    refine a_getr F inX11 hP 0 0 tc_0 rfl rfl (by decide) q503 (fun _ h9 => h9) dX11_feed_35 ?_
    refine lv_iload_n F.1 F.2.1 dX11_feed_38 rfl (lv_at hl 3 rfl) ?_
    refine a_Vv F hml hl.1 hA hP hD hS (As := [.int p2]) (x_X10_append_1 l dC dI ad cA nF _ p2 hR) (cs_RX11_115 (d := 1) F.2.2.1 (by decide)) tc_1 rfl rfl rfl rfl (Nat.le_of_ble_eq_true rfl) dX11_feed_39 ⟨Nat.le_refl 0, Nat.le_refl 0⟩ (fun u8 H locs hq hP hD hS => ?_)
    obtain ⟨hR, hF8, xr8, hz8⟩ := hq
    have hF := hF.tr hF8 (by decide)
    have g9 : (0 : Int) ≤ (u8.1 1 2).toInt ∧ (u8.1 1 2).toInt ≤ 940 := hR 1 2
    have xr8 : (u6.1 1 2).toInt ≤ 936 → (u8.1 1 2).toInt = (u6.1 1 2).toInt + 4 := xr8
    have hC := vl_eq hC hz8.symm
    refine lv_aload_n F.1 F.2.1 dX11_feed_42 rfl (lv_at hl 0 rfl) ?_
    refine a_getr F inX11 hP 0 0 tc_0 rfl rfl (by decide) q503 (fun _ h9 => h9) dX11_feed_43 ?_
    refine lv_iload F.1 F.2.1 dX11_feed_46 (lv_at hl 4 rfl) ?_
    refine a_Vv F hml hl.1 hA hP hD hS (As := [.int p3]) (x_X10_append_1 l dC dI ad cA nF _ p3 hR) (cs_RX11_115 (d := 1) F.2.2.1 (by decide)) tc_1 rfl rfl rfl rfl (Nat.le_of_ble_eq_true rfl) dX11_feed_48 ⟨Nat.le_refl 0, Nat.le_refl 0⟩ (fun u10 H locs hq hP hD hS => ?_)
    obtain ⟨hR, hF10, xr10, hz10⟩ := hq
    have hF := hF.tr hF10 (by decide)
    have g11 : (0 : Int) ≤ (u10.1 1 2).toInt ∧ (u10.1 1 2).toInt ≤ 940 := hR 1 2
    have xr10 : (u8.1 1 2).toInt ≤ 936 → (u10.1 1 2).toInt = (u8.1 1 2).toInt + 4 := xr10
    have hC := vl_eq hC hz10.symm
    refine lv_aload_n F.1 F.2.1 dX11_feed_51 rfl (lv_at hl 0 rfl) ?_
    refine a_getr F inX11 hP 0 0 tc_0 rfl rfl (by decide) q503 (fun _ h9 => h9) dX11_feed_52 ?_
    refine lv_iload F.1 F.2.1 dX11_feed_55 (lv_at hl 5 rfl) ?_
    refine a_Vv F hml hl.1 hA hP hD hS (As := [.int p4]) (x_X10_append_1 l dC dI ad cA nF _ p4 hR) (cs_RX11_115 (d := 1) F.2.2.1 (by decide)) tc_1 rfl rfl rfl rfl (Nat.le_of_ble_eq_true rfl) dX11_feed_57 ⟨Nat.le_refl 0, Nat.le_refl 0⟩ (fun u12 H locs hq hP hD hS => ?_)
    obtain ⟨hR, hF12, xr12, hz12⟩ := hq
    have hF := hF.tr hF12 (by decide)
    have g13 : (0 : Int) ≤ (u12.1 1 2).toInt ∧ (u12.1 1 2).toInt ≤ 940 := hR 1 2
    have xr12 : (u10.1 1 2).toInt ≤ 936 → (u12.1 1 2).toInt = (u10.1 1 2).toInt + 4 := xr12
    have hC := vl_eq hC hz12.symm
    refine lv_aload_n F.1 F.2.1 dX11_feed_60 rfl (lv_at hl 0 rfl) ?_
    refine a_getr F inX11 hP 0 0 tc_0 rfl rfl (by decide) q503 (fun _ h9 => h9) dX11_feed_61 ?_
    refine a_geti F inX10 hP 1 2 tc_1 rfl rfl (by decide) q96 (fun _ h9 => h9) (v := (u12.1 1 2)) (rfl) dX11_feed_64 ?_
    exact a_reti F hr hlocks hP hD hS dX11_feed_67 ⟨hR, hF, (by omega : (-1 : Int) ≤ (u12.1 1 2).toInt ∧ (u12.1 1 2).toInt ≤ 940), (by omega : ((u0.1 1 2).toInt ≤ 920 → (u12.1 1 2).toInt = (u0.1 1 2).toInt + 20 ∧ (u12.1 1 2).toInt = (u0.1 1 2).toInt + 20) ∧ (920 < (u0.1 1 2).toInt → (u12.1 1 2).toInt = (u0.1 1 2).toInt ∧ (u12.1 1 2).toInt = -1)), hRR.symm.trans hC⟩
  · have hC := hC.trans (if_neg (by omega))
    refine a_ic F (-1 : Int32) dX11_feed_16 (by decide) ?_
    exact a_reti F hr hlocks hP hD hS dX11_feed_17 ⟨hR, hF, (by decide), (by first | exact (by omega : ((u0.1 1 2).toInt ≤ 920 → (u0.1 1 2).toInt = (u0.1 1 2).toInt + 20 ∧ (-1 : Int) = (u0.1 1 2).toInt + 20) ∧ (920 < (u0.1 1 2).toInt → (u0.1 1 2).toInt = (u0.1 1 2).toInt ∧ (-1 : Int) = -1)) | (rw [ic_m1]; exact (by omega : ((u0.1 1 2).toInt ≤ 920 → (u0.1 1 2).toInt = (u0.1 1 2).toInt + 20 ∧ (-1 : Int) = (u0.1 1 2).toInt + 20) ∧ (920 < (u0.1 1 2).toInt → (u0.1 1 2).toInt = (u0.1 1 2).toInt ∧ (-1 : Int) = -1)))), hRR.symm.trans hC⟩

def f_X11_house_0 (u0 : ac_U) : ac_U × Int32 := (bd (f_X3_readWhole_22 u0) (fun (u1 : ac_U) (r1 : Int32) => (if r1.toInt ≠ 0 then (vl (f_X2_copyFrom_4_13 (pI u1 1 2 (0 : Int32))) (fun (u3 : ac_U) => (vl (f_X6_begin_24 u3) (fun (u4 : ac_U) => (vl (f_X8_clear_43 u4) (fun (u5 : ac_U) => (u5, (u5.1 22 3)))))))) else (vl ((-1 : Int32) - (u1.1 1 11)) (fun (v8 : Int32) => ((pI u1 1 2 (0 : Int32)), v8))))))
set_option maxHeartbeats 600000 in
set_option maxRecDepth 100000 in
theorem x_X11_house_0 (l : Launch) (dC : Nat → ClassId) (dI : Nat → Nat → Nat) (ad : Nat → Nat) (cA : Nat → ClassId) (nF : Nat) (u0 : ac_U)  (hR : ac_R rg u0) (hK_N13 : nmI 20 21 u0) (hK_N4 : nmI 11 12 u0) : ac_Mi l yX11_house (.code yX11_house cX11_house 2 (some .int) :: TB) 8 (dC, dI) vwCl (ac_ty cA) ad cA (TT nF) [.ref (ad 0)] u0 (fun (r : Int32) (u : ac_U) => ac_R rg u ∧ ac_Fr [(1, some 2), (1, some 3), (1, some 4), (1, some 5), (1, some 6), (1, some 8), (1, some 9), (1, some 10), (1, some 11), (4, some 0), (4, some 1), (4, some 2), (4, some 3), (4, some 4), (4, some 5), (4, some 6), (4, some 7), (4, some 8), (5, none), (6, none), (7, none), (8, none), (9, none), (11, none), (12, none), (13, some 0), (13, some 1), (13, some 2), (13, some 3), (13, some 4), (13, some 5), (13, some 6), (13, some 7), (13, some 8), (14, none), (15, none), (16, none), (17, none), (18, none), (20, none), (21, none), (22, some 3), (22, some 4), (23, none), (24, some 5), (25, none), (43, some 3), (43, some 4)] u0 u ∧ ((-941 : Int) ≤ r.toInt ∧ r.toInt ≤ 940) ∧ nmI 20 21 u ∧ nmI 11 12 u ∧ (ln0 1) u ∧ f_X11_house_0 u0 = (u, r)) := by
  refine ac_Mi.of (cc := cX11_house) (maxL := 2) (ret := (some .int)) (by decide) rfl (Nat.le_of_ble_eq_true rfl) ?_
  intro p e s m below meth c A ls F hml hr hlocks hA hP hD hS hl
  have F : ac_X p s m [.ref (ad 0)].toArray c cX11_house RX11 TB (dC, dI) vwCl (ac_ty cA) := ⟨F.1, F.2.1, fun w h => F.2.2.1 w (List.mem_cons_of_mem _ h), F.2.2.2.1, F.2.2.2.2⟩
  have hl : lv_has ls 2 [(0, .ref (ad 0))] := hl
  obtain ⟨RR, hRR⟩ : ∃ q, q = f_X11_house_0 u0 := ⟨_, rfl⟩
  have hF : ac_Fr [(1, some 2), (1, some 3), (1, some 4), (1, some 5), (1, some 6), (1, some 8), (1, some 9), (1, some 10), (1, some 11), (4, some 0), (4, some 1), (4, some 2), (4, some 3), (4, some 4), (4, some 5), (4, some 6), (4, some 7), (4, some 8), (5, none), (6, none), (7, none), (8, none), (9, none), (11, none), (12, none), (13, some 0), (13, some 1), (13, some 2), (13, some 3), (13, some 4), (13, some 5), (13, some 6), (13, some 7), (13, some 8), (14, none), (15, none), (16, none), (17, none), (18, none), (20, none), (21, none), (22, some 3), (22, some 4), (23, none), (24, some 5), (25, none), (43, some 3), (43, some 4)] u0 u0 := ac_Fr.rf
  have hC : RR = f_X11_house_0 u0 := hRR
  unfold f_X11_house_0 at hC
  refine lv_aload_n F.1 F.2.1 dX11_house_0 rfl (lv_at hl 0 rfl) ?_
  refine a_getr F inX11 hP 0 3 tc_0 rfl rfl (by decide) q506 (fun _ h9 => h9) dX11_house_1 ?_
  refine a_Vi F hml hl.1 hA hP hD hS (As := []) (x_X3_readWhole_22 l dC dI ad cA nF _  hR hK_N13) (cs_RX11_119 (d := 7) F.2.2.1 (by decide)) tc_22 rfl rfl rfl rfl (Nat.le_of_ble_eq_true rfl) dX11_house_4 ⟨Nat.le_refl 0, Nat.le_refl 0⟩ (fun r1 u1 H locs hq hP hD hS => ?_)
  obtain ⟨hR, hF1, gr1, hK_N13, hz1⟩ := hq
  have hF := hF.tr hF1 (by decide)
  have hK_N4 := sp_fr sp_N4 hF1 (by decide) hK_N4
  have hC := bd_eq hC hz1
  refine lv_istore_n (lv' := [(1, .int r1), (0, .ref (ad 0))]) F.1 F.2.1 dX11_house_7 rfl hl (by decide) rfl (fun ls hl => ?_)
  refine lv_aload_n F.1 F.2.1 dX11_house_8 rfl (lv_at hl 1 rfl) ?_
  refine a_getr F inX11 hP 0 0 tc_0 rfl rfl (by decide) q503 (fun _ h9 => h9) dX11_house_9 ?_
  refine a_ic F (0 : Int32) dX11_house_12 (by decide) ?_
  refine a_puti F inX10 tyX10 tyX10_ok nmX10 hP hD hS 1 2 tc_1 rfl rfl (by decide) q96 (fun _ h9 => h9) rfl (ty := .int) (tyX10_ok 2 (by decide)) rfl rfl dX11_house_13 (fun H locs hP hD hS => ?_)
  have hR := hR.si (c := 1) (k := 2) (v := (0 : Int32)) (by rw [ic_0]; exact (by omega : (0 : Int) ≤ (0 : Int) ∧ (0 : Int) ≤ 940))
  have hF := hF.si (c := 1) (k := 2) (v := (0 : Int32)) rfl
  have hN_LC := ln0_D hD
  have hK_N13 := sp_sgD sp_N13 hD hK_N13 (by decide)
  have hK_N4 := sp_sgD sp_N4 hD hK_N4 (by decide)
  have hK_LC := hN_LC
  refine lv_iload_n F.1 F.2.1 dX11_house_16 rfl (lv_at hl 0 rfl) ?_
  refine z_ne F 30 dX11_house_17 (by decide) rfl (fun c2 => ?_) (fun c2 => ?_)
  · have hC := hC.trans (if_pos c2)
    refine lv_aload_n F.1 F.2.1 dX11_house_30 rfl (lv_at hl 1 rfl) ?_
    refine a_getr F inX11 hP 0 1 tc_0 rfl rfl (by decide) q504 (fun _ h9 => h9) dX11_house_31 ?_
    refine lv_aload_n F.1 F.2.1 dX11_house_34 rfl (lv_at hl 1 rfl) ?_
    refine a_getr F inX11 hP 0 2 tc_0 rfl rfl (by decide) q505 (fun _ h9 => h9) dX11_house_35 ?_
    refine a_Vv F hml hl.1 hA hP hD hS (As := [.ref (ad 13)]) (x_X2_copyFrom_4_13 l dC dI ad cA nF _  hR hK_N13) (cs_RX11_126 (d := 1) F.2.2.1 (by decide)) tc_4 rfl rfl rfl rfl (Nat.le_of_ble_eq_true rfl) dX11_house_38 ⟨Nat.le_refl 0, Nat.le_refl 0⟩ (fun u3 H locs hq hP hD hS => ?_)
    obtain ⟨hR, hF3, hK_N4, hz3⟩ := hq
    have hF := hF.tr hF3 (by decide)
    have hK_N13 := sp_fr sp_N13 hF3 (by decide) hK_N13
    have hK_LC := sp_fr (sp_ln0 1) hF3 (by decide) hK_LC
    have hC := vl_eq hC hz3.symm
    refine lv_aload_n F.1 F.2.1 dX11_house_41 rfl (lv_at hl 1 rfl) ?_
    refine a_getr F inX11 hP 0 4 tc_0 rfl rfl (by decide) q507 (fun _ h9 => h9) dX11_house_42 ?_
    refine a_Vv F hml hl.1 hA hP hD hS (As := []) (x_X6_begin_24 l dC dI ad cA nF _  hR) (cs_RX11_129 (d := 2) F.2.2.1 (by decide)) tc_24 rfl rfl rfl rfl (Nat.le_of_ble_eq_true rfl) dX11_house_45 ⟨Nat.le_refl 0, Nat.le_refl 0⟩ (fun u4 H locs hq hP hD hS => ?_)
    obtain ⟨hR, hF4, hz4⟩ := hq
    have hF := hF.tr hF4 (by decide)
    have hK_N13 := sp_fr sp_N13 hF4 (by decide) hK_N13
    have hK_N4 := sp_fr sp_N4 hF4 (by decide) hK_N4
    have hK_LC := sp_fr (sp_ln0 1) hF4 (by decide) hK_LC
    have hC := vl_eq hC hz4.symm
    refine lv_aload_n F.1 F.2.1 dX11_house_48 rfl (lv_at hl 1 rfl) ?_
    refine a_getr F inX11 hP 0 9 tc_0 rfl rfl (by decide) q512 (fun _ h9 => h9) dX11_house_49 ?_
    refine a_Vv F hml hl.1 hA hP hD hS (As := []) (x_X8_clear_43 l dC dI ad cA nF _  hR) (cs_RX11_132 (d := 1) F.2.2.1 (by decide)) tc_43 rfl rfl rfl rfl (Nat.le_of_ble_eq_true rfl) dX11_house_52 ⟨Nat.le_refl 0, Nat.le_refl 0⟩ (fun u5 H locs hq hP hD hS => ?_)
    obtain ⟨hR, hF5, hz5⟩ := hq
    have hF := hF.tr hF5 (by decide)
    have hK_N13 := sp_fr sp_N13 hF5 (by decide) hK_N13
    have hK_N4 := sp_fr sp_N4 hF5 (by decide) hK_N4
    have hK_LC := sp_fr (sp_ln0 1) hF5 (by decide) hK_LC
    have hC := vl_eq hC hz5.symm
    refine lv_aload_n F.1 F.2.1 dX11_house_55 rfl (lv_at hl 1 rfl) ?_
    refine a_getr F inX11 hP 0 3 tc_0 rfl rfl (by decide) q506 (fun _ h9 => h9) dX11_house_56 ?_
    have g6 : (0 : Int) ≤ (u5.1 22 3).toInt ∧ (u5.1 22 3).toInt ≤ 940 := hR 22 3
    refine a_geti F inX3 hP 22 3 tc_22 rfl rfl (by decide) q248 (fun _ h9 => h9) (v := (u5.1 22 3)) rfl dX11_house_59 ?_
    exact a_reti F hr hlocks hP hD hS dX11_house_62 ⟨hR, hF, (by omega : (-941 : Int) ≤ (u5.1 22 3).toInt ∧ (u5.1 22 3).toInt ≤ 940), hK_N13, hK_N4, hK_LC, hRR.symm.trans hC⟩
  · have hC := hC.trans (if_neg (by omega))
    refine a_ic F (-1 : Int32) dX11_house_20 (by decide) ?_
    refine lv_aload_n F.1 F.2.1 dX11_house_21 rfl (lv_at hl 1 rfl) ?_
    refine a_getr F inX11 hP 0 0 tc_0 rfl rfl (by decide) q503 (fun _ h9 => h9) dX11_house_22 ?_
    have g7 : (0 : Int) ≤ (u1.1 1 11).toInt ∧ (u1.1 1 11).toInt ≤ 940 := hR 1 11
    refine a_geti F inX10 hP 1 11 tc_1 rfl rfl (by decide) q117 (fun _ h9 => h9) (v := (u1.1 1 11)) rfl dX11_house_25 ?_
    refine a_isubX F dX11_house_28 ic_m1 rfl (by omega) (fun v8 hv8 yv8 => ?_)
    have hC := vl_eq hC yv8
    exact a_reti F hr hlocks hP hD hS dX11_house_29 ⟨hR, hF, (by omega : (-941 : Int) ≤ v8.toInt ∧ v8.toInt ≤ 940), hK_N13, hK_N4, hK_LC, hRR.symm.trans hC⟩

def f_X11_image_0 (u0 : ac_U) (p0 : Int32) : ac_U × Int32 := (if p0.toInt < 0 then (u0, (0 : Int32)) else (if p0.toInt < (2 : Int) then (if p0.toInt = 0 then (vl (f_X4_take_53_4_24_43 u0) (fun (u6 : ac_U) => (u6, (1 : Int32)))) else (vl (f_X4_take_54_4_24_43 u0) (fun (u11 : ac_U) => (u11, (1 : Int32))))) else (u0, (0 : Int32))))
set_option maxHeartbeats 600000 in
set_option maxRecDepth 100000 in
theorem x_X11_image_0 (l : Launch) (dC : Nat → ClassId) (dI : Nat → Nat → Nat) (ad : Nat → Nat) (cA : Nat → ClassId) (nF : Nat) (u0 : ac_U) (p0 : Int32) (hR : ac_R rg u0) (hK_N4 : nmI 11 12 u0) (hK_N55 : nmI 62 63 u0) (hK_N64 : nmI 71 72 u0) : ac_Mi l yX11_image (.code yX11_image cX11_image 2 (some .boolean) :: TB) 3 (dC, dI) vwCl (ac_ty cA) ad cA (TT nF) [.ref (ad 0), .int p0] u0 (fun (r : Int32) (u : ac_U) => ac_R rg u ∧ ac_Fr [(53, some 4), (54, some 4), (55, some 0), (55, some 1), (55, some 2), (55, some 3), (55, some 4), (55, some 5), (55, some 6), (55, some 7), (55, some 8), (56, none), (57, none), (58, none), (59, none), (60, none), (62, none), (63, none), (64, some 0), (64, some 1), (64, some 2), (64, some 3), (64, some 4), (64, some 5), (64, some 6), (64, some 7), (64, some 8), (65, none), (66, none), (67, none), (68, none), (69, none), (71, none), (72, none), (73, some 3), (73, some 4), (74, none), (75, none), (76, none), (77, some 3), (77, some 4), (78, none), (79, none), (80, none), (81, none), (82, none), (83, none), (84, none)] u0 u ∧ ((0 : Int) ≤ r.toInt ∧ r.toInt ≤ 1) ∧ (((r.toInt ≠ 0 → 0 ≤ p0.toInt ∧ p0.toInt ≤ 1) ∧ (r.toInt = 0 → p0.toInt < 0 ∨ 1 < p0.toInt)) ∧ (p0.toInt = 0 → (u.1 53 4).toInt = 1 ∧ (u.1 54 4).toInt = (u0.1 54 4).toInt) ∧ (p0.toInt = 1 → (u.1 54 4).toInt = 1 ∧ (u.1 53 4).toInt = (u0.1 53 4).toInt) ∧ (p0.toInt < 0 ∨ 1 < p0.toInt → (u.1 53 4).toInt = (u0.1 53 4).toInt ∧ (u.1 54 4).toInt = (u0.1 54 4).toInt)) ∧ nmI 62 63 u ∧ nmI 71 72 u ∧ f_X11_image_0 u0 p0 = (u, r)) := by
  refine ac_Mi.of (cc := cX11_image) (maxL := 2) (ret := (some .boolean)) (by decide) rfl (Nat.le_of_ble_eq_true rfl) ?_
  intro p e s m below meth c A ls F hml hr hlocks hA hP hD hS hl
  have F : ac_X p s m [.ref (ad 0), .int p0].toArray c cX11_image RX11 TB (dC, dI) vwCl (ac_ty cA) := ⟨F.1, F.2.1, fun w h => F.2.2.1 w (List.mem_cons_of_mem _ h), F.2.2.2.1, F.2.2.2.2⟩
  have hl : lv_has ls 2 [(0, .ref (ad 0)), (1, .int p0)] := hl
  obtain ⟨RR, hRR⟩ : ∃ q, q = f_X11_image_0 u0 p0 := ⟨_, rfl⟩
  have hF : ac_Fr [(53, some 4), (54, some 4), (55, some 0), (55, some 1), (55, some 2), (55, some 3), (55, some 4), (55, some 5), (55, some 6), (55, some 7), (55, some 8), (56, none), (57, none), (58, none), (59, none), (60, none), (62, none), (63, none), (64, some 0), (64, some 1), (64, some 2), (64, some 3), (64, some 4), (64, some 5), (64, some 6), (64, some 7), (64, some 8), (65, none), (66, none), (67, none), (68, none), (69, none), (71, none), (72, none), (73, some 3), (73, some 4), (74, none), (75, none), (76, none), (77, some 3), (77, some 4), (78, none), (79, none), (80, none), (81, none), (82, none), (83, none), (84, none)] u0 u0 := ac_Fr.rf
  have hC : RR = f_X11_image_0 u0 p0 := hRR
  unfold f_X11_image_0 at hC
  refine lv_iload_n F.1 F.2.1 dX11_image_0 rfl (lv_at hl 1 rfl) ?_
  refine z_lt F 9 dX11_image_1 (by decide) rfl (fun c1 => ?_) (fun c1 => ?_)
  · have hC := hC.trans (if_pos c1)
    refine a_ic F (0 : Int32) dX11_image_9 (by decide) ?_
    have g2 : (0 : Int) ≤ (u0.1 53 4).toInt ∧ (u0.1 53 4).toInt ≤ 1 := hR 53 4
    have g3 : (0 : Int) ≤ (u0.1 54 4).toInt ∧ (u0.1 54 4).toInt ≤ 1 := hR 54 4
    exact a_retz F hr hlocks hP hD hS dX11_image_10 (Or.inl rfl) ⟨hR, hF, (by decide), (by first | exact (by omega : (((0 : Int) ≠ 0 → 0 ≤ p0.toInt ∧ p0.toInt ≤ 1) ∧ ((0 : Int) = 0 → p0.toInt < 0 ∨ 1 < p0.toInt)) ∧ (p0.toInt = 0 → (u0.1 53 4).toInt = 1 ∧ (u0.1 54 4).toInt = (u0.1 54 4).toInt) ∧ (p0.toInt = 1 → (u0.1 54 4).toInt = 1 ∧ (u0.1 53 4).toInt = (u0.1 53 4).toInt) ∧ (p0.toInt < 0 ∨ 1 < p0.toInt → (u0.1 53 4).toInt = (u0.1 53 4).toInt ∧ (u0.1 54 4).toInt = (u0.1 54 4).toInt)) | (rw [ic_0]; exact (by omega : (((0 : Int) ≠ 0 → 0 ≤ p0.toInt ∧ p0.toInt ≤ 1) ∧ ((0 : Int) = 0 → p0.toInt < 0 ∨ 1 < p0.toInt)) ∧ (p0.toInt = 0 → (u0.1 53 4).toInt = 1 ∧ (u0.1 54 4).toInt = (u0.1 54 4).toInt) ∧ (p0.toInt = 1 → (u0.1 54 4).toInt = 1 ∧ (u0.1 53 4).toInt = (u0.1 53 4).toInt) ∧ (p0.toInt < 0 ∨ 1 < p0.toInt → (u0.1 53 4).toInt = (u0.1 53 4).toInt ∧ (u0.1 54 4).toInt = (u0.1 54 4).toInt)))), hK_N55, hK_N64, hRR.symm.trans hC⟩
  · have hC := hC.trans (if_neg (by omega))
    refine lv_iload_n F.1 F.2.1 dX11_image_4 rfl (lv_at hl 1 rfl) ?_
    refine a_ic F (2 : Int32) dX11_image_5 (by decide) ?_
    refine b_lt F 11 dX11_image_6 (by decide) rfl ic_2 (fun c4 => ?_) (fun c4 => ?_)
    · have hC := hC.trans (if_pos c4)
      refine lv_aload_n F.1 F.2.1 dX11_image_11 rfl (lv_at hl 0 rfl) ?_
      refine a_getr F inX11 hP 0 12 tc_0 rfl rfl (by decide) q515 (fun _ h9 => h9) dX11_image_12 ?_
      refine lv_iload_n F.1 F.2.1 dX11_image_15 rfl (lv_at hl 1 rfl) ?_
      rcases (show p0.toInt = 0 ∨ p0.toInt = 1 by omega) with c5 | c5
      · have hC := hC.trans (if_pos c5)
        refine a_aald F hP 52 (b := 53) tc_52 rfl 0 53 (i_nn rfl (by omega)) rfl (i_in rfl (by omega)) dX11_image_16 ?_
        refine lv_aload_n F.1 F.2.1 dX11_image_17 rfl (lv_at hl 0 rfl) ?_
        refine a_getr F inX11 hP 0 1 tc_0 rfl rfl (by decide) q504 (fun _ h9 => h9) dX11_image_18 ?_
        refine lv_aload_n F.1 F.2.1 dX11_image_21 rfl (lv_at hl 0 rfl) ?_
        refine a_getr F inX11 hP 0 4 tc_0 rfl rfl (by decide) q507 (fun _ h9 => h9) dX11_image_22 ?_
        refine lv_aload_n F.1 F.2.1 dX11_image_25 rfl (lv_at hl 0 rfl) ?_
        refine a_getr F inX11 hP 0 9 tc_0 rfl rfl (by decide) q512 (fun _ h9 => h9) dX11_image_26 ?_
        have g7 : (0 : Int) ≤ (u0.1 53 4).toInt ∧ (u0.1 53 4).toInt ≤ 1 := hR 53 4
        have g8 : (0 : Int) ≤ (u0.1 54 4).toInt ∧ (u0.1 54 4).toInt ≤ 1 := hR 54 4
        refine a_Vv F hml hl.1 hA hP hD hS (As := [.ref (ad 4), .ref (ad 24), .ref (ad 43)]) (x_X4_take_53_4_24_43 l dC dI ad cA nF _  hR hK_N4) (cs_RX11_338 (d := 2) F.2.2.1 (by decide)) tc_53 rfl rfl rfl rfl (Nat.le_of_ble_eq_true rfl) dX11_image_29 ⟨Nat.le_refl 0, Nat.le_refl 0⟩ (fun u6 H locs hq hP hD hS => ?_)
        obtain ⟨hR, hF6, xr6, hK_N55, hz6⟩ := hq
        have hF := hF.tr hF6 (by decide)
        have hK_N4 := sp_fr sp_N4 hF6 (by decide) hK_N4
        have hK_N64 := sp_fr sp_N64 hF6 (by decide) hK_N64
        have g9 : (0 : Int) ≤ (u6.1 53 4).toInt ∧ (u6.1 53 4).toInt ≤ 1 := hR 53 4
        have xr6 : (u6.1 53 4).toInt = 1 := xr6
        have hC := vl_eq hC hz6.symm
        refine a_ic F (1 : Int32) dX11_image_32 (by decide) ?_
        have k10 : (u6.1 54 4).toInt = (u0.1 54 4).toInt := congrArg Int32.toInt (show u6.1 54 4 = (u0.1 54 4) from hF6 54 4 rfl)
        exact a_retz F hr hlocks hP hD hS dX11_image_33 (Or.inr rfl) ⟨hR, hF, (by decide), (by first | exact (by omega : (((1 : Int) ≠ 0 → 0 ≤ p0.toInt ∧ p0.toInt ≤ 1) ∧ ((1 : Int) = 0 → p0.toInt < 0 ∨ 1 < p0.toInt)) ∧ (p0.toInt = 0 → (u6.1 53 4).toInt = 1 ∧ (u6.1 54 4).toInt = (u0.1 54 4).toInt) ∧ (p0.toInt = 1 → (u6.1 54 4).toInt = 1 ∧ (u6.1 53 4).toInt = (u0.1 53 4).toInt) ∧ (p0.toInt < 0 ∨ 1 < p0.toInt → (u6.1 53 4).toInt = (u0.1 53 4).toInt ∧ (u6.1 54 4).toInt = (u0.1 54 4).toInt)) | (rw [ic_1]; exact (by omega : (((1 : Int) ≠ 0 → 0 ≤ p0.toInt ∧ p0.toInt ≤ 1) ∧ ((1 : Int) = 0 → p0.toInt < 0 ∨ 1 < p0.toInt)) ∧ (p0.toInt = 0 → (u6.1 53 4).toInt = 1 ∧ (u6.1 54 4).toInt = (u0.1 54 4).toInt) ∧ (p0.toInt = 1 → (u6.1 54 4).toInt = 1 ∧ (u6.1 53 4).toInt = (u0.1 53 4).toInt) ∧ (p0.toInt < 0 ∨ 1 < p0.toInt → (u6.1 53 4).toInt = (u0.1 53 4).toInt ∧ (u6.1 54 4).toInt = (u0.1 54 4).toInt)))), hK_N55, hK_N64, hRR.symm.trans hC⟩
      · have hC := hC.trans (if_neg (by omega))
        refine a_aald F hP 52 (b := 53) tc_52 rfl 1 54 (i_nn rfl (by omega)) rfl (i_in rfl (by omega)) dX11_image_16 ?_
        refine lv_aload_n F.1 F.2.1 dX11_image_17 rfl (lv_at hl 0 rfl) ?_
        refine a_getr F inX11 hP 0 1 tc_0 rfl rfl (by decide) q504 (fun _ h9 => h9) dX11_image_18 ?_
        refine lv_aload_n F.1 F.2.1 dX11_image_21 rfl (lv_at hl 0 rfl) ?_
        refine a_getr F inX11 hP 0 4 tc_0 rfl rfl (by decide) q507 (fun _ h9 => h9) dX11_image_22 ?_
        refine lv_aload_n F.1 F.2.1 dX11_image_25 rfl (lv_at hl 0 rfl) ?_
        refine a_getr F inX11 hP 0 9 tc_0 rfl rfl (by decide) q512 (fun _ h9 => h9) dX11_image_26 ?_
        have g12 : (0 : Int) ≤ (u0.1 53 4).toInt ∧ (u0.1 53 4).toInt ≤ 1 := hR 53 4
        have g13 : (0 : Int) ≤ (u0.1 54 4).toInt ∧ (u0.1 54 4).toInt ≤ 1 := hR 54 4
        refine a_Vv F hml hl.1 hA hP hD hS (As := [.ref (ad 4), .ref (ad 24), .ref (ad 43)]) (x_X4_take_54_4_24_43 l dC dI ad cA nF _  hR hK_N4) (cs_RX11_338 (d := 2) F.2.2.1 (by decide)) tc_54 rfl rfl rfl rfl (Nat.le_of_ble_eq_true rfl) dX11_image_29 ⟨Nat.le_refl 0, Nat.le_refl 0⟩ (fun u11 H locs hq hP hD hS => ?_)
        obtain ⟨hR, hF11, xr11, hK_N64, hz11⟩ := hq
        have hF := hF.tr hF11 (by decide)
        have hK_N4 := sp_fr sp_N4 hF11 (by decide) hK_N4
        have hK_N55 := sp_fr sp_N55 hF11 (by decide) hK_N55
        have g14 : (0 : Int) ≤ (u11.1 54 4).toInt ∧ (u11.1 54 4).toInt ≤ 1 := hR 54 4
        have xr11 : (u11.1 54 4).toInt = 1 := xr11
        have hC := vl_eq hC hz11.symm
        refine a_ic F (1 : Int32) dX11_image_32 (by decide) ?_
        have k15 : (u11.1 53 4).toInt = (u0.1 53 4).toInt := congrArg Int32.toInt (show u11.1 53 4 = (u0.1 53 4) from hF11 53 4 rfl)
        exact a_retz F hr hlocks hP hD hS dX11_image_33 (Or.inr rfl) ⟨hR, hF, (by decide), (by first | exact (by omega : (((1 : Int) ≠ 0 → 0 ≤ p0.toInt ∧ p0.toInt ≤ 1) ∧ ((1 : Int) = 0 → p0.toInt < 0 ∨ 1 < p0.toInt)) ∧ (p0.toInt = 0 → (u11.1 53 4).toInt = 1 ∧ (u11.1 54 4).toInt = (u0.1 54 4).toInt) ∧ (p0.toInt = 1 → (u11.1 54 4).toInt = 1 ∧ (u11.1 53 4).toInt = (u0.1 53 4).toInt) ∧ (p0.toInt < 0 ∨ 1 < p0.toInt → (u11.1 53 4).toInt = (u0.1 53 4).toInt ∧ (u11.1 54 4).toInt = (u0.1 54 4).toInt)) | (rw [ic_1]; exact (by omega : (((1 : Int) ≠ 0 → 0 ≤ p0.toInt ∧ p0.toInt ≤ 1) ∧ ((1 : Int) = 0 → p0.toInt < 0 ∨ 1 < p0.toInt)) ∧ (p0.toInt = 0 → (u11.1 53 4).toInt = 1 ∧ (u11.1 54 4).toInt = (u0.1 54 4).toInt) ∧ (p0.toInt = 1 → (u11.1 54 4).toInt = 1 ∧ (u11.1 53 4).toInt = (u0.1 53 4).toInt) ∧ (p0.toInt < 0 ∨ 1 < p0.toInt → (u11.1 53 4).toInt = (u0.1 53 4).toInt ∧ (u11.1 54 4).toInt = (u0.1 54 4).toInt)))), hK_N55, hK_N64, hRR.symm.trans hC⟩
    · have hC := hC.trans (if_neg (by omega))
      refine a_ic F (0 : Int32) dX11_image_9 (by decide) ?_
      have g16 : (0 : Int) ≤ (u0.1 53 4).toInt ∧ (u0.1 53 4).toInt ≤ 1 := hR 53 4
      have g17 : (0 : Int) ≤ (u0.1 54 4).toInt ∧ (u0.1 54 4).toInt ≤ 1 := hR 54 4
      exact a_retz F hr hlocks hP hD hS dX11_image_10 (Or.inl rfl) ⟨hR, hF, (by decide), (by first | exact (by omega : (((0 : Int) ≠ 0 → 0 ≤ p0.toInt ∧ p0.toInt ≤ 1) ∧ ((0 : Int) = 0 → p0.toInt < 0 ∨ 1 < p0.toInt)) ∧ (p0.toInt = 0 → (u0.1 53 4).toInt = 1 ∧ (u0.1 54 4).toInt = (u0.1 54 4).toInt) ∧ (p0.toInt = 1 → (u0.1 54 4).toInt = 1 ∧ (u0.1 53 4).toInt = (u0.1 53 4).toInt) ∧ (p0.toInt < 0 ∨ 1 < p0.toInt → (u0.1 53 4).toInt = (u0.1 53 4).toInt ∧ (u0.1 54 4).toInt = (u0.1 54 4).toInt)) | (rw [ic_0]; exact (by omega : (((0 : Int) ≠ 0 → 0 ≤ p0.toInt ∧ p0.toInt ≤ 1) ∧ ((0 : Int) = 0 → p0.toInt < 0 ∨ 1 < p0.toInt)) ∧ (p0.toInt = 0 → (u0.1 53 4).toInt = 1 ∧ (u0.1 54 4).toInt = (u0.1 54 4).toInt) ∧ (p0.toInt = 1 → (u0.1 54 4).toInt = 1 ∧ (u0.1 53 4).toInt = (u0.1 53 4).toInt) ∧ (p0.toInt < 0 ∨ 1 < p0.toInt → (u0.1 53 4).toInt = (u0.1 53 4).toInt ∧ (u0.1 54 4).toInt = (u0.1 54 4).toInt)))), hK_N55, hK_N64, hRR.symm.trans hC⟩

def f_X11_restore_0 (u0 : ac_U) (p0 : Int32) : ac_U × Int32 := (if p0.toInt < 0 then (u0, (0 : Int32)) else (if (2 : Int) ≤ p0.toInt then (u0, (0 : Int32)) else (if p0.toInt = 0 then (if (u0.1 53 4).toInt ≠ 0 then (if p0.toInt = 0 then (vl (f_X4_give_53_4_24_43 u0) (fun (u7 : ac_U) => (u7, (1 : Int32)))) else (vl (f_X4_give_54_4_24_43 u0) (fun (u8 : ac_U) => (u8, (1 : Int32))))) else (u0, (0 : Int32))) else (if (u0.1 54 4).toInt ≠ 0 then (if p0.toInt = 0 then (vl (f_X4_give_53_4_24_43 u0) (fun (u12 : ac_U) => (u12, (1 : Int32)))) else (vl (f_X4_give_54_4_24_43 u0) (fun (u13 : ac_U) => (u13, (1 : Int32))))) else (u0, (0 : Int32))))))
set_option maxHeartbeats 600000 in
set_option maxRecDepth 100000 in
theorem x_X11_restore_0 (l : Launch) (dC : Nat → ClassId) (dI : Nat → Nat → Nat) (ad : Nat → Nat) (cA : Nat → ClassId) (nF : Nat) (u0 : ac_U) (p0 : Int32) (hR : ac_R rg u0) (hK_N4 : nmI 11 12 u0) (hK_N55 : nmI 62 63 u0) (hK_N64 : nmI 71 72 u0) : ac_Mi l yX11_restore (.code yX11_restore cX11_restore 2 (some .boolean) :: TB) 3 (dC, dI) vwCl (ac_ty cA) ad cA (TT nF) [.ref (ad 0), .int p0] u0 (fun (r : Int32) (u : ac_U) => ac_R rg u ∧ ac_Fr [(4, some 0), (4, some 1), (4, some 2), (4, some 3), (4, some 4), (4, some 5), (4, some 6), (4, some 7), (4, some 8), (5, none), (6, none), (7, none), (8, none), (9, none), (11, none), (12, none), (24, some 5), (25, none), (26, none), (43, some 3), (43, some 4), (44, none), (45, none), (46, none)] u0 u ∧ ((0 : Int) ≤ r.toInt ∧ r.toInt ≤ 1) ∧ ((r.toInt ≠ 0 → (p0.toInt = 0 ∧ (u0.1 53 4).toInt ≠ 0) ∨ (p0.toInt = 1 ∧ (u0.1 54 4).toInt ≠ 0)) ∧ (r.toInt = 0 → (p0.toInt = 0 → (u0.1 53 4).toInt = 0) ∧ (p0.toInt = 1 → (u0.1 54 4).toInt = 0))) ∧ nmI 11 12 u ∧ f_X11_restore_0 u0 p0 = (u, r)) := by
  refine ac_Mi.of (cc := cX11_restore) (maxL := 2) (ret := (some .boolean)) (by decide) rfl (Nat.le_of_ble_eq_true rfl) ?_
  intro p e s m below meth c A ls F hml hr hlocks hA hP hD hS hl
  have F : ac_X p s m [.ref (ad 0), .int p0].toArray c cX11_restore RX11 TB (dC, dI) vwCl (ac_ty cA) := ⟨F.1, F.2.1, fun w h => F.2.2.1 w (List.mem_cons_of_mem _ h), F.2.2.2.1, F.2.2.2.2⟩
  have hl : lv_has ls 2 [(0, .ref (ad 0)), (1, .int p0)] := hl
  obtain ⟨RR, hRR⟩ : ∃ q, q = f_X11_restore_0 u0 p0 := ⟨_, rfl⟩
  have hF : ac_Fr [(4, some 0), (4, some 1), (4, some 2), (4, some 3), (4, some 4), (4, some 5), (4, some 6), (4, some 7), (4, some 8), (5, none), (6, none), (7, none), (8, none), (9, none), (11, none), (12, none), (24, some 5), (25, none), (26, none), (43, some 3), (43, some 4), (44, none), (45, none), (46, none)] u0 u0 := ac_Fr.rf
  have hC : RR = f_X11_restore_0 u0 p0 := hRR
  unfold f_X11_restore_0 at hC
  refine lv_iload_n F.1 F.2.1 dX11_restore_0 rfl (lv_at hl 1 rfl) ?_
  refine z_lt F 21 dX11_restore_1 (by decide) rfl (fun c1 => ?_) (fun c1 => ?_)
  · have hC := hC.trans (if_pos c1)
    refine a_ic F (0 : Int32) dX11_restore_21 (by decide) ?_
    exact a_retz F hr hlocks hP hD hS dX11_restore_22 (Or.inl rfl) ⟨hR, hF, (by decide), (by first | exact (by omega : ((0 : Int) ≠ 0 → (p0.toInt = 0 ∧ (u0.1 53 4).toInt ≠ 0) ∨ (p0.toInt = 1 ∧ (u0.1 54 4).toInt ≠ 0)) ∧ ((0 : Int) = 0 → (p0.toInt = 0 → (u0.1 53 4).toInt = 0) ∧ (p0.toInt = 1 → (u0.1 54 4).toInt = 0))) | (rw [ic_0]; exact (by omega : ((0 : Int) ≠ 0 → (p0.toInt = 0 ∧ (u0.1 53 4).toInt ≠ 0) ∨ (p0.toInt = 1 ∧ (u0.1 54 4).toInt ≠ 0)) ∧ ((0 : Int) = 0 → (p0.toInt = 0 → (u0.1 53 4).toInt = 0) ∧ (p0.toInt = 1 → (u0.1 54 4).toInt = 0))))), hK_N4, hRR.symm.trans hC⟩
  · have hC := hC.trans (if_neg (by omega))
    refine lv_iload_n F.1 F.2.1 dX11_restore_4 rfl (lv_at hl 1 rfl) ?_
    refine a_ic F (2 : Int32) dX11_restore_5 (by decide) ?_
    refine b_ge F 21 dX11_restore_6 (by decide) rfl ic_2 (fun c2 => ?_) (fun c2 => ?_)
    · have hC := hC.trans (if_pos c2)
      refine a_ic F (0 : Int32) dX11_restore_21 (by decide) ?_
      exact a_retz F hr hlocks hP hD hS dX11_restore_22 (Or.inl rfl) ⟨hR, hF, (by decide), (by first | exact (by omega : ((0 : Int) ≠ 0 → (p0.toInt = 0 ∧ (u0.1 53 4).toInt ≠ 0) ∨ (p0.toInt = 1 ∧ (u0.1 54 4).toInt ≠ 0)) ∧ ((0 : Int) = 0 → (p0.toInt = 0 → (u0.1 53 4).toInt = 0) ∧ (p0.toInt = 1 → (u0.1 54 4).toInt = 0))) | (rw [ic_0]; exact (by omega : ((0 : Int) ≠ 0 → (p0.toInt = 0 ∧ (u0.1 53 4).toInt ≠ 0) ∨ (p0.toInt = 1 ∧ (u0.1 54 4).toInt ≠ 0)) ∧ ((0 : Int) = 0 → (p0.toInt = 0 → (u0.1 53 4).toInt = 0) ∧ (p0.toInt = 1 → (u0.1 54 4).toInt = 0))))), hK_N4, hRR.symm.trans hC⟩
    · have hC := hC.trans (if_neg (by omega))
      refine lv_aload_n F.1 F.2.1 dX11_restore_9 rfl (lv_at hl 0 rfl) ?_
      refine a_getr F inX11 hP 0 12 tc_0 rfl rfl (by decide) q515 (fun _ h9 => h9) dX11_restore_10 ?_
      refine lv_iload_n F.1 F.2.1 dX11_restore_13 rfl (lv_at hl 1 rfl) ?_
      rcases (show p0.toInt = 0 ∨ p0.toInt = 1 by omega) with c3 | c3
      · have hC := hC.trans (if_pos c3)
        refine a_aald F hP 52 (b := 53) tc_52 rfl 0 53 (i_nn rfl (by omega)) rfl (i_in rfl (by omega)) dX11_restore_14 ?_
        have g4 : (0 : Int) ≤ (u0.1 53 4).toInt ∧ (u0.1 53 4).toInt ≤ 1 := hR 53 4
        refine a_geti F inX4 hP 53 4 tc_53 rfl rfl (by decide) q491 (fun _ h9 => h9) (v := (u0.1 53 4)) rfl dX11_restore_15 ?_
        refine z_ne F 23 dX11_restore_18 (by decide) rfl (fun c5 => ?_) (fun c5 => ?_)
        · have hC := hC.trans (if_pos c5)
          refine lv_aload_n F.1 F.2.1 dX11_restore_23 rfl (lv_at hl 0 rfl) ?_
          refine a_getr F inX11 hP 0 12 tc_0 rfl rfl (by decide) q515 (fun _ h9 => h9) dX11_restore_24 ?_
          refine lv_iload_n F.1 F.2.1 dX11_restore_27 rfl (lv_at hl 1 rfl) ?_
          rcases (show p0.toInt = 0 ∨ p0.toInt = 1 by omega) with c6 | c6
          · have hC := hC.trans (if_pos c6)
            refine a_aald F hP 52 (b := 53) tc_52 rfl 0 53 (i_nn rfl (by omega)) rfl (i_in rfl (by omega)) dX11_restore_28 ?_
            refine lv_aload_n F.1 F.2.1 dX11_restore_29 rfl (lv_at hl 0 rfl) ?_
            refine a_getr F inX11 hP 0 1 tc_0 rfl rfl (by decide) q504 (fun _ h9 => h9) dX11_restore_30 ?_
            refine lv_aload_n F.1 F.2.1 dX11_restore_33 rfl (lv_at hl 0 rfl) ?_
            refine a_getr F inX11 hP 0 4 tc_0 rfl rfl (by decide) q507 (fun _ h9 => h9) dX11_restore_34 ?_
            refine lv_aload_n F.1 F.2.1 dX11_restore_37 rfl (lv_at hl 0 rfl) ?_
            refine a_getr F inX11 hP 0 9 tc_0 rfl rfl (by decide) q512 (fun _ h9 => h9) dX11_restore_38 ?_
            refine a_Vv F hml hl.1 hA hP hD hS (As := [.ref (ad 4), .ref (ad 24), .ref (ad 43)]) (x_X4_give_53_4_24_43 l dC dI ad cA nF _  hR hK_N55) (cs_RX11_345 (d := 2) F.2.2.1 (by decide)) tc_53 rfl rfl rfl rfl (Nat.le_of_ble_eq_true rfl) dX11_restore_41 ⟨Nat.le_refl 0, Nat.le_refl 0⟩ (fun u7 H locs hq hP hD hS => ?_)
            obtain ⟨hR, hF7, hK_N4, hz7⟩ := hq
            have hF := hF.tr hF7 (by decide)
            have hK_N55 := sp_fr sp_N55 hF7 (by decide) hK_N55
            have hK_N64 := sp_fr sp_N64 hF7 (by decide) hK_N64
            have hC := vl_eq hC hz7.symm
            refine a_ic F (1 : Int32) dX11_restore_44 (by decide) ?_
            exact a_retz F hr hlocks hP hD hS dX11_restore_45 (Or.inr rfl) ⟨hR, hF, (by decide), (by first | exact (by omega : ((1 : Int) ≠ 0 → (p0.toInt = 0 ∧ (u0.1 53 4).toInt ≠ 0) ∨ (p0.toInt = 1 ∧ (u0.1 54 4).toInt ≠ 0)) ∧ ((1 : Int) = 0 → (p0.toInt = 0 → (u0.1 53 4).toInt = 0) ∧ (p0.toInt = 1 → (u0.1 54 4).toInt = 0))) | (rw [ic_1]; exact (by omega : ((1 : Int) ≠ 0 → (p0.toInt = 0 ∧ (u0.1 53 4).toInt ≠ 0) ∨ (p0.toInt = 1 ∧ (u0.1 54 4).toInt ≠ 0)) ∧ ((1 : Int) = 0 → (p0.toInt = 0 → (u0.1 53 4).toInt = 0) ∧ (p0.toInt = 1 → (u0.1 54 4).toInt = 0))))), hK_N4, hRR.symm.trans hC⟩
          · have hC := hC.trans (if_neg (by omega))
            refine a_aald F hP 52 (b := 53) tc_52 rfl 1 54 (i_nn rfl (by omega)) rfl (i_in rfl (by omega)) dX11_restore_28 ?_
            refine lv_aload_n F.1 F.2.1 dX11_restore_29 rfl (lv_at hl 0 rfl) ?_
            refine a_getr F inX11 hP 0 1 tc_0 rfl rfl (by decide) q504 (fun _ h9 => h9) dX11_restore_30 ?_
            refine lv_aload_n F.1 F.2.1 dX11_restore_33 rfl (lv_at hl 0 rfl) ?_
            refine a_getr F inX11 hP 0 4 tc_0 rfl rfl (by decide) q507 (fun _ h9 => h9) dX11_restore_34 ?_
            refine lv_aload_n F.1 F.2.1 dX11_restore_37 rfl (lv_at hl 0 rfl) ?_
            refine a_getr F inX11 hP 0 9 tc_0 rfl rfl (by decide) q512 (fun _ h9 => h9) dX11_restore_38 ?_
            refine a_Vv F hml hl.1 hA hP hD hS (As := [.ref (ad 4), .ref (ad 24), .ref (ad 43)]) (x_X4_give_54_4_24_43 l dC dI ad cA nF _  hR hK_N64) (cs_RX11_345 (d := 2) F.2.2.1 (by decide)) tc_54 rfl rfl rfl rfl (Nat.le_of_ble_eq_true rfl) dX11_restore_41 ⟨Nat.le_refl 0, Nat.le_refl 0⟩ (fun u8 H locs hq hP hD hS => ?_)
            obtain ⟨hR, hF8, hK_N4, hz8⟩ := hq
            have hF := hF.tr hF8 (by decide)
            have hK_N55 := sp_fr sp_N55 hF8 (by decide) hK_N55
            have hK_N64 := sp_fr sp_N64 hF8 (by decide) hK_N64
            have hC := vl_eq hC hz8.symm
            refine a_ic F (1 : Int32) dX11_restore_44 (by decide) ?_
            exact a_retz F hr hlocks hP hD hS dX11_restore_45 (Or.inr rfl) ⟨hR, hF, (by decide), (by first | exact (by omega : ((1 : Int) ≠ 0 → (p0.toInt = 0 ∧ (u0.1 53 4).toInt ≠ 0) ∨ (p0.toInt = 1 ∧ (u0.1 54 4).toInt ≠ 0)) ∧ ((1 : Int) = 0 → (p0.toInt = 0 → (u0.1 53 4).toInt = 0) ∧ (p0.toInt = 1 → (u0.1 54 4).toInt = 0))) | (rw [ic_1]; exact (by omega : ((1 : Int) ≠ 0 → (p0.toInt = 0 ∧ (u0.1 53 4).toInt ≠ 0) ∨ (p0.toInt = 1 ∧ (u0.1 54 4).toInt ≠ 0)) ∧ ((1 : Int) = 0 → (p0.toInt = 0 → (u0.1 53 4).toInt = 0) ∧ (p0.toInt = 1 → (u0.1 54 4).toInt = 0))))), hK_N4, hRR.symm.trans hC⟩
        · have hC := hC.trans (if_neg (by omega))
          refine a_ic F (0 : Int32) dX11_restore_21 (by decide) ?_
          exact a_retz F hr hlocks hP hD hS dX11_restore_22 (Or.inl rfl) ⟨hR, hF, (by decide), (by first | exact (by omega : ((0 : Int) ≠ 0 → (p0.toInt = 0 ∧ (u0.1 53 4).toInt ≠ 0) ∨ (p0.toInt = 1 ∧ (u0.1 54 4).toInt ≠ 0)) ∧ ((0 : Int) = 0 → (p0.toInt = 0 → (u0.1 53 4).toInt = 0) ∧ (p0.toInt = 1 → (u0.1 54 4).toInt = 0))) | (rw [ic_0]; exact (by omega : ((0 : Int) ≠ 0 → (p0.toInt = 0 ∧ (u0.1 53 4).toInt ≠ 0) ∨ (p0.toInt = 1 ∧ (u0.1 54 4).toInt ≠ 0)) ∧ ((0 : Int) = 0 → (p0.toInt = 0 → (u0.1 53 4).toInt = 0) ∧ (p0.toInt = 1 → (u0.1 54 4).toInt = 0))))), hK_N4, hRR.symm.trans hC⟩
      · have hC := hC.trans (if_neg (by omega))
        refine a_aald F hP 52 (b := 53) tc_52 rfl 1 54 (i_nn rfl (by omega)) rfl (i_in rfl (by omega)) dX11_restore_14 ?_
        have g9 : (0 : Int) ≤ (u0.1 54 4).toInt ∧ (u0.1 54 4).toInt ≤ 1 := hR 54 4
        refine a_geti F inX4 hP 54 4 tc_54 rfl rfl (by decide) q491 (fun _ h9 => h9) (v := (u0.1 54 4)) rfl dX11_restore_15 ?_
        refine z_ne F 23 dX11_restore_18 (by decide) rfl (fun c10 => ?_) (fun c10 => ?_)
        · have hC := hC.trans (if_pos c10)
          refine lv_aload_n F.1 F.2.1 dX11_restore_23 rfl (lv_at hl 0 rfl) ?_
          refine a_getr F inX11 hP 0 12 tc_0 rfl rfl (by decide) q515 (fun _ h9 => h9) dX11_restore_24 ?_
          refine lv_iload_n F.1 F.2.1 dX11_restore_27 rfl (lv_at hl 1 rfl) ?_
          rcases (show p0.toInt = 0 ∨ p0.toInt = 1 by omega) with c11 | c11
          · have hC := hC.trans (if_pos c11)
            refine a_aald F hP 52 (b := 53) tc_52 rfl 0 53 (i_nn rfl (by omega)) rfl (i_in rfl (by omega)) dX11_restore_28 ?_
            refine lv_aload_n F.1 F.2.1 dX11_restore_29 rfl (lv_at hl 0 rfl) ?_
            refine a_getr F inX11 hP 0 1 tc_0 rfl rfl (by decide) q504 (fun _ h9 => h9) dX11_restore_30 ?_
            refine lv_aload_n F.1 F.2.1 dX11_restore_33 rfl (lv_at hl 0 rfl) ?_
            refine a_getr F inX11 hP 0 4 tc_0 rfl rfl (by decide) q507 (fun _ h9 => h9) dX11_restore_34 ?_
            refine lv_aload_n F.1 F.2.1 dX11_restore_37 rfl (lv_at hl 0 rfl) ?_
            refine a_getr F inX11 hP 0 9 tc_0 rfl rfl (by decide) q512 (fun _ h9 => h9) dX11_restore_38 ?_
            refine a_Vv F hml hl.1 hA hP hD hS (As := [.ref (ad 4), .ref (ad 24), .ref (ad 43)]) (x_X4_give_53_4_24_43 l dC dI ad cA nF _  hR hK_N55) (cs_RX11_345 (d := 2) F.2.2.1 (by decide)) tc_53 rfl rfl rfl rfl (Nat.le_of_ble_eq_true rfl) dX11_restore_41 ⟨Nat.le_refl 0, Nat.le_refl 0⟩ (fun u12 H locs hq hP hD hS => ?_)
            obtain ⟨hR, hF12, hK_N4, hz12⟩ := hq
            have hF := hF.tr hF12 (by decide)
            have hK_N55 := sp_fr sp_N55 hF12 (by decide) hK_N55
            have hK_N64 := sp_fr sp_N64 hF12 (by decide) hK_N64
            have hC := vl_eq hC hz12.symm
            refine a_ic F (1 : Int32) dX11_restore_44 (by decide) ?_
            exact a_retz F hr hlocks hP hD hS dX11_restore_45 (Or.inr rfl) ⟨hR, hF, (by decide), (by first | exact (by omega : ((1 : Int) ≠ 0 → (p0.toInt = 0 ∧ (u0.1 53 4).toInt ≠ 0) ∨ (p0.toInt = 1 ∧ (u0.1 54 4).toInt ≠ 0)) ∧ ((1 : Int) = 0 → (p0.toInt = 0 → (u0.1 53 4).toInt = 0) ∧ (p0.toInt = 1 → (u0.1 54 4).toInt = 0))) | (rw [ic_1]; exact (by omega : ((1 : Int) ≠ 0 → (p0.toInt = 0 ∧ (u0.1 53 4).toInt ≠ 0) ∨ (p0.toInt = 1 ∧ (u0.1 54 4).toInt ≠ 0)) ∧ ((1 : Int) = 0 → (p0.toInt = 0 → (u0.1 53 4).toInt = 0) ∧ (p0.toInt = 1 → (u0.1 54 4).toInt = 0))))), hK_N4, hRR.symm.trans hC⟩
          · have hC := hC.trans (if_neg (by omega))
            refine a_aald F hP 52 (b := 53) tc_52 rfl 1 54 (i_nn rfl (by omega)) rfl (i_in rfl (by omega)) dX11_restore_28 ?_
            refine lv_aload_n F.1 F.2.1 dX11_restore_29 rfl (lv_at hl 0 rfl) ?_
            refine a_getr F inX11 hP 0 1 tc_0 rfl rfl (by decide) q504 (fun _ h9 => h9) dX11_restore_30 ?_
            refine lv_aload_n F.1 F.2.1 dX11_restore_33 rfl (lv_at hl 0 rfl) ?_
            refine a_getr F inX11 hP 0 4 tc_0 rfl rfl (by decide) q507 (fun _ h9 => h9) dX11_restore_34 ?_
            refine lv_aload_n F.1 F.2.1 dX11_restore_37 rfl (lv_at hl 0 rfl) ?_
            refine a_getr F inX11 hP 0 9 tc_0 rfl rfl (by decide) q512 (fun _ h9 => h9) dX11_restore_38 ?_
            refine a_Vv F hml hl.1 hA hP hD hS (As := [.ref (ad 4), .ref (ad 24), .ref (ad 43)]) (x_X4_give_54_4_24_43 l dC dI ad cA nF _  hR hK_N64) (cs_RX11_345 (d := 2) F.2.2.1 (by decide)) tc_54 rfl rfl rfl rfl (Nat.le_of_ble_eq_true rfl) dX11_restore_41 ⟨Nat.le_refl 0, Nat.le_refl 0⟩ (fun u13 H locs hq hP hD hS => ?_)
            obtain ⟨hR, hF13, hK_N4, hz13⟩ := hq
            have hF := hF.tr hF13 (by decide)
            have hK_N55 := sp_fr sp_N55 hF13 (by decide) hK_N55
            have hK_N64 := sp_fr sp_N64 hF13 (by decide) hK_N64
            have hC := vl_eq hC hz13.symm
            refine a_ic F (1 : Int32) dX11_restore_44 (by decide) ?_
            exact a_retz F hr hlocks hP hD hS dX11_restore_45 (Or.inr rfl) ⟨hR, hF, (by decide), (by first | exact (by omega : ((1 : Int) ≠ 0 → (p0.toInt = 0 ∧ (u0.1 53 4).toInt ≠ 0) ∨ (p0.toInt = 1 ∧ (u0.1 54 4).toInt ≠ 0)) ∧ ((1 : Int) = 0 → (p0.toInt = 0 → (u0.1 53 4).toInt = 0) ∧ (p0.toInt = 1 → (u0.1 54 4).toInt = 0))) | (rw [ic_1]; exact (by omega : ((1 : Int) ≠ 0 → (p0.toInt = 0 ∧ (u0.1 53 4).toInt ≠ 0) ∨ (p0.toInt = 1 ∧ (u0.1 54 4).toInt ≠ 0)) ∧ ((1 : Int) = 0 → (p0.toInt = 0 → (u0.1 53 4).toInt = 0) ∧ (p0.toInt = 1 → (u0.1 54 4).toInt = 0))))), hK_N4, hRR.symm.trans hC⟩
        · have hC := hC.trans (if_neg (by omega))
          refine a_ic F (0 : Int32) dX11_restore_21 (by decide) ?_
          exact a_retz F hr hlocks hP hD hS dX11_restore_22 (Or.inl rfl) ⟨hR, hF, (by decide), (by first | exact (by omega : ((0 : Int) ≠ 0 → (p0.toInt = 0 ∧ (u0.1 53 4).toInt ≠ 0) ∨ (p0.toInt = 1 ∧ (u0.1 54 4).toInt ≠ 0)) ∧ ((0 : Int) = 0 → (p0.toInt = 0 → (u0.1 53 4).toInt = 0) ∧ (p0.toInt = 1 → (u0.1 54 4).toInt = 0))) | (rw [ic_0]; exact (by omega : ((0 : Int) ≠ 0 → (p0.toInt = 0 ∧ (u0.1 53 4).toInt ≠ 0) ∨ (p0.toInt = 1 ∧ (u0.1 54 4).toInt ≠ 0)) ∧ ((0 : Int) = 0 → (p0.toInt = 0 → (u0.1 53 4).toInt = 0) ∧ (p0.toInt = 1 → (u0.1 54 4).toInt = 0))))), hK_N4, hRR.symm.trans hC⟩

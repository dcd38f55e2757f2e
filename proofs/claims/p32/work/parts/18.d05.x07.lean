def K_X3_readWay_22_88 (u0 : ac_U) (u : ac_U) : ac_U × Int32 := (bd (f_X10_fail_1 u (3 : Int32)) (fun (u1 : ac_U) (r1 : Int32) => (u1, r1)))
def f_X3_readWay_22 (u0 : ac_U) : ac_U × Int32 := (if (u0.1 13 2).toInt < (12 : Int) then (bd (f_X10_takeKnown_1_13 u0 (0 : Int32)) (fun (u4 : ac_U) (r4 : Int32) => (if r4.toInt ≠ 0 then (bd (f_X10_takeKnown_1_13 u4 (0 : Int32)) (fun (u7 : ac_U) (r7 : Int32) => (if r7.toInt ≠ 0 then (if (u4.1 1 9).toInt = (u7.1 1 9).toInt then (K_X3_readWay_22_88 u0 u7) else (vl (f_X2_isNear_13 u7 (u4.1 1 9) (u7.1 1 9)) (fun (r11 : Int32) => (if r11.toInt = 0 then (vl (f_X2_addWay_13 u7 (u4.1 1 9) (u7.1 1 9)) (fun (u13 : ac_U) => (bd (f_X10_takeSign_1 u13 (59 : Int32)) (fun (u14 : ac_U) (r14 : Int32) => (u14, r14))))) else (K_X3_readWay_22_88 u0 u7))))) else (u7, (0 : Int32))))) else (u4, (0 : Int32))))) else (bd (f_X10_fail_1 u0 (4 : Int32)) (fun (u15 : ac_U) (r15 : Int32) => (u15, r15))))
set_option maxHeartbeats 600000 in
set_option maxRecDepth 100000 in
theorem x_X3_readWay_22 (l : Launch) (dC : Nat → ClassId) (dI : Nat → Nat → Nat) (ad : Nat → Nat) (cA : Nat → ClassId) (nF : Nat) (u0 : ac_U)  (hR : ac_R rg u0) (hK_N13 : nmI 20 21 u0) : ac_Mi l yX3_readWay (.code yX3_readWay cX3_readWay 3 (some .boolean) :: TB) 5 (dC, dI) vwCl (ac_ty cA) ad cA (TT nF) [.ref (ad 22)] u0 (fun (r : Int32) (u : ac_U) => ac_R rg u ∧ ac_Fr [(1, some 4), (1, some 5), (1, some 6), (1, some 8), (1, some 9), (1, some 10), (1, some 11), (13, some 2), (14, none)] u0 u ∧ ((0 : Int) ≤ r.toInt ∧ r.toInt ≤ 1) ∧ nmI 20 21 u ∧ f_X3_readWay_22 u0 = (u, r)) := by
  refine ac_Mi.of (cc := cX3_readWay) (maxL := 3) (ret := (some .boolean)) (by decide) rfl (Nat.le_of_ble_eq_true rfl) ?_
  intro p e s m below meth c A ls F hml hr hlocks hA hP hD hS hl
  have F : ac_X p s m [.ref (ad 22)].toArray c cX3_readWay RX3 TB (dC, dI) vwCl (ac_ty cA) := ⟨F.1, F.2.1, fun w h => F.2.2.1 w (List.mem_cons_of_mem _ h), F.2.2.2.1, F.2.2.2.2⟩
  have hl : lv_has ls 3 [(0, .ref (ad 22))] := hl
  obtain ⟨RR, hRR⟩ : ∃ q, q = f_X3_readWay_22 u0 := ⟨_, rfl⟩
  have hF : ac_Fr [(1, some 4), (1, some 5), (1, some 6), (1, some 8), (1, some 9), (1, some 10), (1, some 11), (13, some 2), (14, none)] u0 u0 := ac_Fr.rf
  have L88 : ∀ (u : ac_U) (H : Heap) (locs : List Loc) (ls : Array Slot), ac_R rg u → ac_Fr [(1, some 4), (1, some 5), (1, some 6), (1, some 8), (1, some 9), (1, some 10), (1, some 11), (13, some 2), (14, none)] u0 u → nmI 20 21 u → (0 : Int) ≤ (u.1 13 2).toInt ∧ (u.1 13 2).toInt ≤ 11 → RR = (K_X3_readWay_22_88 u0 u) → va_P (dC, dI) vwCl (ac_w ad cA (TT nF) u) H → va_D A (ac_w ad cA (TT nF) u) → va_S A s.heap H locs → lv_has ls 3 [(0, .ref (ad 22))] → W p l e (ac_rm 5) s m [.ref (ad 22)].toArray below meth c H locs 0 0 (MQ below (va_Qi (fun (r : Int32) (u : ac_U) => ac_R rg u ∧ ac_Fr [(1, some 4), (1, some 5), (1, some 6), (1, some 8), (1, some 9), (1, some 10), (1, some 11), (13, some 2), (14, none)] u0 u ∧ ((0 : Int) ≤ r.toInt ∧ r.toInt ≤ 1) ∧ nmI 20 21 u ∧ f_X3_readWay_22 u0 = (u, r)) (ac_B (dC, dI) vwCl (ac_ty cA) ad cA (TT nF) A) A) [.ref (ad 22)].toArray s 0 0 A) (F0 m 88 ls []) := by
    intro u H locs ls hR hF hK_N13 f0 hC hP hD hS hl
    unfold K_X3_readWay_22_88 at hC
    refine lv_aload_n F.1 F.2.1 dX3_readWay_88 rfl (lv_at hl 0 rfl) ?_
    refine a_getr F inX3 hP 22 0 tc_22 rfl rfl (by decide) q244 (fun _ h9 => h9) dX3_readWay_89 ?_
    refine a_ic F (3 : Int32) dX3_readWay_92 (by decide) ?_
    refine a_Vi F hml hl.1 hA hP hD hS (As := [.int (3 : Int32)]) (x_X10_fail_1 l dC dI ad cA nF _ (3 : Int32) hR (by decide)) (cs_RX3_70 (d := 1) F.2.2.1 (by decide)) tc_1 rfl rfl rfl rfl (Nat.le_of_ble_eq_true rfl) dX3_readWay_93 ⟨Nat.le_refl 0, Nat.le_refl 0⟩ (fun r1 u1 H locs hq hP hD hS => ?_)
    obtain ⟨hR, hF1, gr1, hz1⟩ := hq
    have hF := hF.tr hF1 (by decide)
    have hK_N13 := sp_fr sp_N13 hF1 (by decide) hK_N13
    have hC := bd_eq hC hz1
    exact a_retz F hr hlocks hP hD hS dX3_readWay_96 (i_01 (by omega)) ⟨hR, hF, (by omega : (0 : Int) ≤ r1.toInt ∧ r1.toInt ≤ 1), hK_N13, hRR.symm.trans hC⟩
  have hC : RR = f_X3_readWay_22 u0 := hRR
  unfold f_X3_readWay_22 at hC
  refine lv_aload_n F.1 F.2.1 dX3_readWay_0 rfl (lv_at hl 0 rfl) ?_
  refine a_getr F inX3 hP 22 1 tc_22 rfl rfl (by decide) q245 (fun _ h9 => h9) dX3_readWay_1 ?_
  have g2 : (0 : Int) ≤ (u0.1 13 2).toInt ∧ (u0.1 13 2).toInt ≤ 12 := hR 13 2
  refine a_geti F inX2 hP 13 2 tc_13 rfl rfl (by decide) q163 (fun _ h9 => h9) (v := (u0.1 13 2)) rfl dX3_readWay_4 ?_
  refine a_bp F (12 : Int32) dX3_readWay_7 (by decide) ?_
  refine b_lt F 21 dX3_readWay_9 (by decide) rfl ic_12 (fun c3 => ?_) (fun c3 => ?_)
  · have hC := hC.trans (if_pos c3)
    refine lv_aload_n F.1 F.2.1 dX3_readWay_21 rfl (lv_at hl 0 rfl) ?_
    refine a_getr F inX3 hP 22 0 tc_22 rfl rfl (by decide) q244 (fun _ h9 => h9) dX3_readWay_22 ?_
    refine lv_aload_n F.1 F.2.1 dX3_readWay_25 rfl (lv_at hl 0 rfl) ?_
    refine a_getr F inX3 hP 22 1 tc_22 rfl rfl (by decide) q245 (fun _ h9 => h9) dX3_readWay_26 ?_
    refine a_ic F (0 : Int32) dX3_readWay_29 (by decide) ?_
    refine a_Vi F hml hl.1 hA hP hD hS (As := [.ref (ad 13), .int (0 : Int32)]) (x_X10_takeKnown_1_13 l dC dI ad cA nF _ (0 : Int32) hR (by decide) hK_N13) (cs_RX3_114 (d := 4) F.2.2.1 (by decide)) tc_1 rfl rfl rfl rfl (Nat.le_of_ble_eq_true rfl) dX3_readWay_30 ⟨Nat.le_refl 0, Nat.le_refl 0⟩ (fun r4 u4 H locs hq hP hD hS => ?_)
    obtain ⟨hR, hF4, gr4, xr4, hz4⟩ := hq
    have hF := hF.tr hF4 (by decide)
    have hK_N13 := sp_fr sp_N13 hF4 (by decide) hK_N13
    have g5 : (0 : Int) ≤ (u4.1 1 9).toInt ∧ (u4.1 1 9).toInt ≤ 7 := hR 1 9
    have xr4 : r4.toInt ≠ 0 → (0 : Int) = 1 → (u4.1 1 9).toInt ≤ 3 := xr4
    have hC := bd_eq hC hz4
    refine z_ne F 38 dX3_readWay_33 (by decide) rfl (fun c6 => ?_) (fun c6 => ?_)
    · have hC := hC.trans (if_pos c6)
      refine lv_aload_n F.1 F.2.1 dX3_readWay_38 rfl (lv_at hl 0 rfl) ?_
      refine a_getr F inX3 hP 22 0 tc_22 rfl rfl (by decide) q244 (fun _ h9 => h9) dX3_readWay_39 ?_
      refine a_geti F inX10 hP 1 9 tc_1 rfl rfl (by decide) q112 (fun _ h9 => h9) (v := (u4.1 1 9)) (rfl) dX3_readWay_42 ?_
      refine lv_istore_n (lv' := [(1, .int (u4.1 1 9)), (0, .ref (ad 22))]) F.1 F.2.1 dX3_readWay_45 rfl hl (by decide) rfl (fun ls hl => ?_)
      refine lv_aload_n F.1 F.2.1 dX3_readWay_46 rfl (lv_at hl 1 rfl) ?_
      refine a_getr F inX3 hP 22 0 tc_22 rfl rfl (by decide) q244 (fun _ h9 => h9) dX3_readWay_47 ?_
      refine lv_aload_n F.1 F.2.1 dX3_readWay_50 rfl (lv_at hl 1 rfl) ?_
      refine a_getr F inX3 hP 22 1 tc_22 rfl rfl (by decide) q245 (fun _ h9 => h9) dX3_readWay_51 ?_
      refine a_ic F (0 : Int32) dX3_readWay_54 (by decide) ?_
      refine a_Vi F hml hl.1 hA hP hD hS (As := [.ref (ad 13), .int (0 : Int32)]) (x_X10_takeKnown_1_13 l dC dI ad cA nF _ (0 : Int32) hR (by decide) hK_N13) (cs_RX3_114 (d := 4) F.2.2.1 (by decide)) tc_1 rfl rfl rfl rfl (Nat.le_of_ble_eq_true rfl) dX3_readWay_55 ⟨Nat.le_refl 0, Nat.le_refl 0⟩ (fun r7 u7 H locs hq hP hD hS => ?_)
      obtain ⟨hR, hF7, gr7, xr7, hz7⟩ := hq
      have hF := hF.tr hF7 (by decide)
      have hK_N13 := sp_fr sp_N13 hF7 (by decide) hK_N13
      have g8 : (0 : Int) ≤ (u7.1 1 9).toInt ∧ (u7.1 1 9).toInt ≤ 7 := hR 1 9
      have xr7 : r7.toInt ≠ 0 → (0 : Int) = 1 → (u7.1 1 9).toInt ≤ 3 := xr7
      have hC := bd_eq hC hz7
      refine z_ne F 63 dX3_readWay_58 (by decide) rfl (fun c9 => ?_) (fun c9 => ?_)
      · have hC := hC.trans (if_pos c9)
        refine lv_aload_n F.1 F.2.1 dX3_readWay_63 rfl (lv_at hl 1 rfl) ?_
        refine a_getr F inX3 hP 22 0 tc_22 rfl rfl (by decide) q244 (fun _ h9 => h9) dX3_readWay_64 ?_
        refine a_geti F inX10 hP 1 9 tc_1 rfl rfl (by decide) q112 (fun _ h9 => h9) (v := (u7.1 1 9)) (rfl) dX3_readWay_67 ?_
        refine lv_istore_n (lv' := [(2, .int (u7.1 1 9)), (1, .int (u4.1 1 9)), (0, .ref (ad 22))]) F.1 F.2.1 dX3_readWay_70 rfl hl (by decide) rfl (fun ls hl => ?_)
        refine lv_iload_n F.1 F.2.1 dX3_readWay_71 rfl (lv_at hl 1 rfl) ?_
        refine lv_iload_n F.1 F.2.1 dX3_readWay_72 rfl (lv_at hl 0 rfl) ?_
        refine b_eq F 88 dX3_readWay_73 (by decide) rfl rfl (fun c10 => ?_) (fun c10 => ?_)
        · have hC := hC.trans (if_pos c10)
          exact L88 _ _ _ _ hR hF hK_N13 (i_trB ((hF7 13 2 rfl).trans (hF4 13 2 rfl)) (by omega : (0 : Int) ≤ (u0.1 13 2).toInt ∧ (u0.1 13 2).toInt ≤ 11)) hC hP hD hS (lv_sub hl [2] rfl)
        · have hC := hC.trans (if_neg (by omega))
          refine lv_aload_n F.1 F.2.1 dX3_readWay_76 rfl (lv_at hl 2 rfl) ?_
          refine a_getr F inX3 hP 22 1 tc_22 rfl rfl (by decide) q245 (fun _ h9 => h9) dX3_readWay_77 ?_
          refine lv_iload_n F.1 F.2.1 dX3_readWay_80 rfl (lv_at hl 1 rfl) ?_
          refine lv_iload_n F.1 F.2.1 dX3_readWay_81 rfl (lv_at hl 0 rfl) ?_
          refine a_Vi F hml hl.1 hA hP hD hS (As := [.int (u4.1 1 9), .int (u7.1 1 9)]) (x_X2_isNear_13 l dC dI ad cA nF _ (u4.1 1 9) (u7.1 1 9) hR (by omega)) (cs_RX3_121 (d := 1) F.2.2.1 (by decide)) tc_13 rfl rfl rfl rfl (Nat.le_of_ble_eq_true rfl) dX3_readWay_82 ⟨Nat.le_refl 0, Nat.le_refl 0⟩ (fun r11 uN11 H locs hq hP hD hS => ?_)
          obtain ⟨hu11, gr11, hz11⟩ := hq
          rw [hu11] at hP hD
          have hC := vl_eq hC hz11.symm
          refine z_eq F 97 dX3_readWay_85 (by decide) rfl (fun c12 => ?_) (fun c12 => ?_)
          · have hC := hC.trans (if_pos c12)
            refine lv_aload_n F.1 F.2.1 dX3_readWay_97 rfl (lv_at hl 2 rfl) ?_
            refine a_getr F inX3 hP 22 1 tc_22 rfl rfl (by decide) q245 (fun _ h9 => h9) dX3_readWay_98 ?_
            refine lv_iload_n F.1 F.2.1 dX3_readWay_101 rfl (lv_at hl 1 rfl) ?_
            refine lv_iload_n F.1 F.2.1 dX3_readWay_102 rfl (lv_at hl 0 rfl) ?_
            refine a_Vv F hml hl.1 hA hP hD hS (As := [.int (u4.1 1 9), .int (u7.1 1 9)]) (x_X2_addWay_13 l dC dI ad cA nF _ (u4.1 1 9) (u7.1 1 9) hR (by omega) (by omega) (i_trB ((hF7 13 2 rfl).trans (hF4 13 2 rfl)) (by omega : (0 : Int) ≤ (u0.1 13 2).toInt ∧ (u0.1 13 2).toInt ≤ 11))) (cs_RX3_124 (d := 1) F.2.2.1 (by decide)) tc_13 rfl rfl rfl rfl (Nat.le_of_ble_eq_true rfl) dX3_readWay_103 ⟨Nat.le_refl 0, Nat.le_refl 0⟩ (fun u13 H locs hq hP hD hS => ?_)
            obtain ⟨hR, hF13, hz13⟩ := hq
            have hF := hF.tr hF13 (by decide)
            have hK_N13 := sp_fr sp_N13 hF13 (by decide) hK_N13
            have hC := vl_eq hC hz13.symm
            refine lv_aload_n F.1 F.2.1 dX3_readWay_106 rfl (lv_at hl 2 rfl) ?_
            refine a_getr F inX3 hP 22 0 tc_22 rfl rfl (by decide) q244 (fun _ h9 => h9) dX3_readWay_107 ?_
            refine a_bp F (59 : Int32) dX3_readWay_110 (by decide) ?_
            refine a_Vi F hml hl.1 hA hP hD hS (As := [.int (59 : Int32)]) (x_X10_takeSign_1 l dC dI ad cA nF _ (59 : Int32) hR (by decide)) (cs_RX3_87 (d := 4) F.2.2.1 (by decide)) tc_1 rfl rfl rfl rfl (Nat.le_of_ble_eq_true rfl) dX3_readWay_112 ⟨Nat.le_refl 0, Nat.le_refl 0⟩ (fun r14 u14 H locs hq hP hD hS => ?_)
            obtain ⟨hR, hF14, gr14, hz14⟩ := hq
            have hF := hF.tr hF14 (by decide)
            have hK_N13 := sp_fr sp_N13 hF14 (by decide) hK_N13
            have hC := bd_eq hC hz14
            exact a_retz F hr hlocks hP hD hS dX3_readWay_115 (i_01 (by omega)) ⟨hR, hF, (by omega : (0 : Int) ≤ r14.toInt ∧ r14.toInt ≤ 1), hK_N13, hRR.symm.trans hC⟩
          · have hC := hC.trans (if_neg (by omega))
            exact L88 _ _ _ _ hR hF hK_N13 (i_trB ((hF7 13 2 rfl).trans (hF4 13 2 rfl)) (by omega : (0 : Int) ≤ (u0.1 13 2).toInt ∧ (u0.1 13 2).toInt ≤ 11)) hC hP hD hS (lv_sub hl [2] rfl)
      · have hC := hC.trans (if_neg (by omega))
        refine a_ic F (0 : Int32) dX3_readWay_61 (by decide) ?_
        exact a_retz F hr hlocks hP hD hS dX3_readWay_62 (Or.inl rfl) ⟨hR, hF, (by decide), hK_N13, hRR.symm.trans hC⟩
    · have hC := hC.trans (if_neg (by omega))
      refine a_ic F (0 : Int32) dX3_readWay_36 (by decide) ?_
      exact a_retz F hr hlocks hP hD hS dX3_readWay_37 (Or.inl rfl) ⟨hR, hF, (by decide), hK_N13, hRR.symm.trans hC⟩
  · have hC := hC.trans (if_neg (by omega))
    refine lv_aload_n F.1 F.2.1 dX3_readWay_12 rfl (lv_at hl 0 rfl) ?_
    refine a_getr F inX3 hP 22 0 tc_22 rfl rfl (by decide) q244 (fun _ h9 => h9) dX3_readWay_13 ?_
    refine a_ic F (4 : Int32) dX3_readWay_16 (by decide) ?_
    refine a_Vi F hml hl.1 hA hP hD hS (As := [.int (4 : Int32)]) (x_X10_fail_1 l dC dI ad cA nF _ (4 : Int32) hR (by decide)) (cs_RX3_70 (d := 1) F.2.2.1 (by decide)) tc_1 rfl rfl rfl rfl (Nat.le_of_ble_eq_true rfl) dX3_readWay_17 ⟨Nat.le_refl 0, Nat.le_refl 0⟩ (fun r15 u15 H locs hq hP hD hS => ?_)
    obtain ⟨hR, hF15, gr15, hz15⟩ := hq
    have hF := hF.tr hF15 (by decide)
    have hK_N13 := sp_fr sp_N13 hF15 (by decide) hK_N13
    have hC := bd_eq hC hz15
    exact a_retz F hr hlocks hP hD hS dX3_readWay_20 (i_01 (by omega)) ⟨hR, hF, (by omega : (0 : Int) ≤ r15.toInt ∧ r15.toInt ≤ 1), hK_N13, hRR.symm.trans hC⟩
def K_X3_readWhole_22_209 (u0 : ac_U) (u : ac_U) (x1 : Int32) : ac_U × Int32 := (u, x1)
def K_X3_readWhole_22_189 (B29 : ac_U → Int32 → ac_U × Int32) (u0 : ac_U) (u : ac_U) (x1 : Int32) : ac_U × Int32 := (vl (f_X10_readNext_1 u) (fun (u1 : ac_U) => (vl ((u.1 22 3) + (1 : Int32)) (fun (v2 : Int32) => (B29 (pI u1 22 3 v2) x1)))))
def K_X3_readWhole_22_29_b (B29 : ac_U → Int32 → ac_U × Int32) (u0 : ac_U) (u : ac_U) (x1 : Int32) : ac_U × Int32 := (if (940 : Int) ≤ (u.1 22 3).toInt then (K_X3_readWhole_22_209 u0 u x1) else (if x1.toInt = 0 then (K_X3_readWhole_22_209 u0 u x1) else (if (u.1 1 6).toInt = 0 then (K_X3_readWhole_22_209 u0 u x1) else (if (u.1 1 6).toInt < 100 ∨ 109 < (u.1 1 6).toInt then (bd (f_X10_fail_1 u (1 : Int32)) (fun (u9 : ac_U) (r9 : Int32) => (K_X3_readWhole_22_189 B29 u0 u9 r9))) else (if (u.1 1 6).toInt = 100 then (bd (f_X3_readHours_22 u) (fun (u10 : ac_U) (r10 : Int32) => (K_X3_readWhole_22_189 B29 u0 u10 r10))) else (if (u.1 1 6).toInt = 101 then (bd (f_X3_readPlace_22 u) (fun (u11 : ac_U) (r11 : Int32) => (K_X3_readWhole_22_189 B29 u0 u11 r11))) else (if (u.1 1 6).toInt = 102 then (bd (f_X3_readWay_22 u) (fun (u12 : ac_U) (r12 : Int32) => (K_X3_readWhole_22_189 B29 u0 u12 r12))) else (if (u.1 1 6).toInt = 103 then (bd (f_X3_readFrog_22 u) (fun (u13 : ac_U) (r13 : Int32) => (K_X3_readWhole_22_189 B29 u0 u13 r13))) else (if (u.1 1 6).toInt = 104 then (bd (f_X3_readPerson_22 u) (fun (u14 : ac_U) (r14 : Int32) => (K_X3_readWhole_22_189 B29 u0 u14 r14))) else (if (u.1 1 6).toInt = 105 then (bd (f_X3_readDeed_22 u) (fun (u15 : ac_U) (r15 : Int32) => (K_X3_readWhole_22_189 B29 u0 u15 r15))) else (if (u.1 1 6).toInt = 106 then (bd (f_X3_readPromise_22 u) (fun (u16 : ac_U) (r16 : Int32) => (K_X3_readWhole_22_189 B29 u0 u16 r16))) else (if (u.1 1 6).toInt = 107 then (bd (f_X10_fail_1 u (1 : Int32)) (fun (u17 : ac_U) (r17 : Int32) => (K_X3_readWhole_22_189 B29 u0 u17 r17))) else (if (u.1 1 6).toInt = 108 then (bd (f_X10_fail_1 u (1 : Int32)) (fun (u18 : ac_U) (r18 : Int32) => (K_X3_readWhole_22_189 B29 u0 u18 r18))) else (bd (f_X3_readVow_22 u) (fun (u19 : ac_U) (r19 : Int32) => (K_X3_readWhole_22_189 B29 u0 u19 r19))))))))))))))))
def K_X3_readWhole_22_29 (u0 : ac_U) : Nat → ac_U → Int32 → ac_U × Int32
  | 0 => fun u x1 => (u, 0)
  | n + 1 => fun u x1 => K_X3_readWhole_22_29_b (K_X3_readWhole_22_29 u0 n) u0 u x1
def f_X3_readWhole_22 (u0 : ac_U) : ac_U × Int32 := (vl (f_X2_clear_13 u0) (fun (u20 : ac_U) => (vl (f_X10_startReading_1 (pI u20 22 4 (0 : Int32)) (900 : Int32)) (fun (u21 : ac_U) => (K_X3_readWhole_22_29 u0 943 (pI u21 22 3 (0 : Int32)) (1 : Int32))))))
set_option maxHeartbeats 600000 in
set_option maxRecDepth 100000 in
theorem x_X3_readWhole_22 (l : Launch) (dC : Nat → ClassId) (dI : Nat → Nat → Nat) (ad : Nat → Nat) (cA : Nat → ClassId) (nF : Nat) (u0 : ac_U)  (hR : ac_R rg u0) (hK_N13 : nmI 20 21 u0) : ac_Mi l yX3_readWhole (.code yX3_readWhole cX3_readWhole 2 (some .boolean) :: TB) 7 (dC, dI) vwCl (ac_ty cA) ad cA (TT nF) [.ref (ad 22)] u0 (fun (r : Int32) (u : ac_U) => ac_R rg u ∧ ac_Fr [(1, some 3), (1, some 4), (1, some 5), (1, some 6), (1, some 8), (1, some 9), (1, some 10), (1, some 11), (13, some 0), (13, some 1), (13, some 2), (13, some 3), (13, some 4), (13, some 5), (13, some 6), (13, some 7), (13, some 8), (14, none), (15, none), (16, none), (17, none), (18, none), (20, none), (21, none), (22, some 3), (22, some 4), (23, none)] u0 u ∧ ((0 : Int) ≤ r.toInt ∧ r.toInt ≤ 1) ∧ nmI 20 21 u ∧ f_X3_readWhole_22 u0 = (u, r)) := by
  refine ac_Mi.of (cc := cX3_readWhole) (maxL := 2) (ret := (some .boolean)) (by decide) rfl (Nat.le_of_ble_eq_true rfl) ?_
  intro p e s m below meth c A ls F hml hr hlocks hA hP hD hS hl
  have F : ac_X p s m [.ref (ad 22)].toArray c cX3_readWhole RX3 TB (dC, dI) vwCl (ac_ty cA) := ⟨F.1, F.2.1, fun w h => F.2.2.1 w (List.mem_cons_of_mem _ h), F.2.2.2.1, F.2.2.2.2⟩
  have hl : lv_has ls 2 [(0, .ref (ad 22))] := hl
  obtain ⟨RR, hRR⟩ : ∃ q, q = f_X3_readWhole_22 u0 := ⟨_, rfl⟩
  have hF : ac_Fr [(1, some 3), (1, some 4), (1, some 5), (1, some 6), (1, some 8), (1, some 9), (1, some 10), (1, some 11), (13, some 0), (13, some 1), (13, some 2), (13, some 3), (13, some 4), (13, some 5), (13, some 6), (13, some 7), (13, some 8), (14, none), (15, none), (16, none), (17, none), (18, none), (20, none), (21, none), (22, some 3), (22, some 4), (23, none)] u0 u0 := ac_Fr.rf
  have L209 : ∀ (x1 : Int32) (u : ac_U) (H : Heap) (locs : List Loc) (ls : Array Slot), ac_R rg u → ac_Fr [(1, some 3), (1, some 4), (1, some 5), (1, some 6), (1, some 8), (1, some 9), (1, some 10), (1, some 11), (13, some 0), (13, some 1), (13, some 2), (13, some 3), (13, some 4), (13, some 5), (13, some 6), (13, some 7), (13, some 8), (14, none), (15, none), (16, none), (17, none), (18, none), (20, none), (21, none), (22, some 3), (22, some 4), (23, none)] u0 u → nmI 20 21 u → (0 : Int) ≤ x1.toInt ∧ x1.toInt ≤ 1 → (0 : Int) ≤ (u.1 22 3).toInt ∧ (u.1 22 3).toInt ≤ 940 → RR = (K_X3_readWhole_22_209 u0 u x1) → va_P (dC, dI) vwCl (ac_w ad cA (TT nF) u) H → va_D A (ac_w ad cA (TT nF) u) → va_S A s.heap H locs → lv_has ls 2 [(1, .int x1)] → W p l e (ac_rm 7) s m [.ref (ad 22)].toArray below meth c H locs 0 0 (MQ below (va_Qi (fun (r : Int32) (u : ac_U) => ac_R rg u ∧ ac_Fr [(1, some 3), (1, some 4), (1, some 5), (1, some 6), (1, some 8), (1, some 9), (1, some 10), (1, some 11), (13, some 0), (13, some 1), (13, some 2), (13, some 3), (13, some 4), (13, some 5), (13, some 6), (13, some 7), (13, some 8), (14, none), (15, none), (16, none), (17, none), (18, none), (20, none), (21, none), (22, some 3), (22, some 4), (23, none)] u0 u ∧ ((0 : Int) ≤ r.toInt ∧ r.toInt ≤ 1) ∧ nmI 20 21 u ∧ f_X3_readWhole_22 u0 = (u, r)) (ac_B (dC, dI) vwCl (ac_ty cA) ad cA (TT nF) A) A) [.ref (ad 22)].toArray s 0 0 A) (F0 m 209 ls []) := by
    intro x1 u H locs ls hR hF hK_N13 f0 f1 hC hP hD hS hl
    unfold K_X3_readWhole_22_209 at hC
    refine lv_iload_n F.1 F.2.1 dX3_readWhole_209 rfl (lv_at hl 0 rfl) ?_
    exact a_retz F hr hlocks hP hD hS dX3_readWhole_210 (i_01 (by omega)) ⟨hR, hF, (by omega : (0 : Int) ≤ x1.toInt ∧ x1.toInt ≤ 1), hK_N13, hRR.symm.trans hC⟩
  have L29 : ∀ (n29 : Nat) (x1 : Int32) (u : ac_U) (H : Heap) (locs : List Loc) (ls : Array Slot), ac_R rg u → ac_Fr [(1, some 3), (1, some 4), (1, some 5), (1, some 6), (1, some 8), (1, some 9), (1, some 10), (1, some 11), (13, some 0), (13, some 1), (13, some 2), (13, some 3), (13, some 4), (13, some 5), (13, some 6), (13, some 7), (13, some 8), (14, none), (15, none), (16, none), (17, none), (18, none), (20, none), (21, none), (22, some 3), (22, some 4), (23, none)] u0 u → 941 - (u.1 22 3).toInt < (n29 : Int) → nmI 20 21 u → (0 : Int) ≤ x1.toInt ∧ x1.toInt ≤ 1 → (0 : Int) ≤ (u.1 22 3).toInt ∧ (u.1 22 3).toInt ≤ 940 → RR = (K_X3_readWhole_22_29 u0 n29 u x1) → va_P (dC, dI) vwCl (ac_w ad cA (TT nF) u) H → va_D A (ac_w ad cA (TT nF) u) → va_S A s.heap H locs → lv_has ls 2 [(0, .ref (ad 22)), (1, .int x1)] → W p l e (ac_rm 7) s m [.ref (ad 22)].toArray below meth c H locs 0 0 (MQ below (va_Qi (fun (r : Int32) (u : ac_U) => ac_R rg u ∧ ac_Fr [(1, some 3), (1, some 4), (1, some 5), (1, some 6), (1, some 8), (1, some 9), (1, some 10), (1, some 11), (13, some 0), (13, some 1), (13, some 2), (13, some 3), (13, some 4), (13, some 5), (13, some 6), (13, some 7), (13, some 8), (14, none), (15, none), (16, none), (17, none), (18, none), (20, none), (21, none), (22, some 3), (22, some 4), (23, none)] u0 u ∧ ((0 : Int) ≤ r.toInt ∧ r.toInt ≤ 1) ∧ nmI 20 21 u ∧ f_X3_readWhole_22 u0 = (u, r)) (ac_B (dC, dI) vwCl (ac_ty cA) ad cA (TT nF) A) A) [.ref (ad 22)].toArray s 0 0 A) (F0 m 29 ls []) := by
    intro n29
    induction n29 with
    | zero => intro x1 u H locs ls hR hF hn29 hK_N13 f0 f1 hC hP hD hS hl; have gz0 : (0 : Int) ≤ (u.1 22 3).toInt ∧ (u.1 22 3).toInt ≤ 940 := hR 22 3; exfalso; omega
    | succ n29 ih29 =>
      intro x1 u H locs ls hR hF hn29 hK_N13 f0 f1 hC hP hD hS hl
      have hC : RR = K_X3_readWhole_22_29_b (K_X3_readWhole_22_29 u0 n29) u0 u x1 := hC
      have L189 : ∀ (x1 : Int32) (u : ac_U) (H : Heap) (locs : List Loc) (ls : Array Slot), ac_R rg u → ac_Fr [(1, some 3), (1, some 4), (1, some 5), (1, some 6), (1, some 8), (1, some 9), (1, some 10), (1, some 11), (13, some 0), (13, some 1), (13, some 2), (13, some 3), (13, some 4), (13, some 5), (13, some 6), (13, some 7), (13, some 8), (14, none), (15, none), (16, none), (17, none), (18, none), (20, none), (21, none), (22, some 3), (22, some 4), (23, none)] u0 u → nmI 20 21 u → (0 : Int) ≤ x1.toInt ∧ x1.toInt ≤ 1 → (0 : Int) ≤ (u.1 22 3).toInt ∧ (u.1 22 3).toInt ≤ 939 → 941 - (u.1 22 3).toInt < ((n29 : Nat) : Int) + 1 → RR = (K_X3_readWhole_22_189 (K_X3_readWhole_22_29 u0 n29) u0 u x1) → va_P (dC, dI) vwCl (ac_w ad cA (TT nF) u) H → va_D A (ac_w ad cA (TT nF) u) → va_S A s.heap H locs → lv_has ls 2 [(0, .ref (ad 22)), (1, .int x1)] → W p l e (ac_rm 7) s m [.ref (ad 22)].toArray below meth c H locs 0 0 (MQ below (va_Qi (fun (r : Int32) (u : ac_U) => ac_R rg u ∧ ac_Fr [(1, some 3), (1, some 4), (1, some 5), (1, some 6), (1, some 8), (1, some 9), (1, some 10), (1, some 11), (13, some 0), (13, some 1), (13, some 2), (13, some 3), (13, some 4), (13, some 5), (13, some 6), (13, some 7), (13, some 8), (14, none), (15, none), (16, none), (17, none), (18, none), (20, none), (21, none), (22, some 3), (22, some 4), (23, none)] u0 u ∧ ((0 : Int) ≤ r.toInt ∧ r.toInt ≤ 1) ∧ nmI 20 21 u ∧ f_X3_readWhole_22 u0 = (u, r)) (ac_B (dC, dI) vwCl (ac_ty cA) ad cA (TT nF) A) A) [.ref (ad 22)].toArray s 0 0 A) (F0 m 189 ls []) := by
        intro x1 u H locs ls hR hF hK_N13 f0 f1 f2 hC hP hD hS hl
        unfold K_X3_readWhole_22_189 at hC
        refine lv_aload_n F.1 F.2.1 dX3_readWhole_189 rfl (lv_at hl 0 rfl) ?_
        refine a_getr F inX3 hP 22 0 tc_22 rfl rfl (by decide) q244 (fun _ h9 => h9) dX3_readWhole_190 ?_
        refine a_Vv F hml hl.1 hA hP hD hS (As := []) (x_X10_readNext_1 l dC dI ad cA nF _  hR) (cs_RX3_74 (d := 3) F.2.2.1 (by decide)) tc_1 rfl rfl rfl rfl (Nat.le_of_ble_eq_true rfl) dX3_readWhole_193 ⟨Nat.le_refl 0, Nat.le_refl 0⟩ (fun u1 H locs hq hP hD hS => ?_)
        obtain ⟨hR, hF1, hz1⟩ := hq
        have hF := hF.tr hF1 (by decide)
        have hK_N13 := sp_fr sp_N13 hF1 (by decide) hK_N13
        have hC := vl_eq hC hz1.symm
        refine lv_aload_n F.1 F.2.1 dX3_readWhole_196 rfl (lv_at hl 0 rfl) ?_
        refine lv_dup F.1 F.2.1 dX3_readWhole_197 rfl ?_
        refine a_geti F inX3 hP 22 3 tc_22 rfl rfl (by decide) q247 (fun _ h9 => h9) (v := (u.1 22 3)) (hF1 22 3 rfl) dX3_readWhole_198 ?_
        refine a_ic F (1 : Int32) dX3_readWhole_201 (by decide) ?_
        refine a_iaddX F dX3_readWhole_202 rfl ic_1 (by omega) (fun v2 hv2 yv2 => ?_)
        have hC := vl_eq hC yv2
        refine a_puti F inX3 tyX3 tyX3_ok nmX3 hP hD hS 22 3 tc_22 rfl rfl (by decide) q247 (fun _ h9 => h9) rfl (ty := .int) (tyX3_ok 3 (by decide)) rfl rfl dX3_readWhole_203 (fun H locs hP hD hS => ?_)
        have hR := hR.si (c := 22) (k := 3) (v := v2) (by omega : (0 : Int) ≤ v2.toInt ∧ v2.toInt ≤ 940)
        have hF := hF.si (c := 22) (k := 3) (v := v2) rfl
        have hK_N13 := sp_sgD sp_N13 hD hK_N13 (by decide)
        refine lv_goto (tgt := 29) F.1 F.2.1 dX3_readWhole_206 (by decide) ?_
        exact ih29 x1 _ _ _ _ hR hF (by omega : 941 - v2.toInt < ((n29 : Nat) : Int)) hK_N13 (by omega) (by omega : (0 : Int) ≤ v2.toInt ∧ v2.toInt ≤ 940) hC hP hD hS (lv_sub hl [0, 1] rfl)
      unfold K_X3_readWhole_22_29_b at hC
      refine lv_aload_n F.1 F.2.1 dX3_readWhole_29 rfl (lv_at hl 0 rfl) ?_
      have g3 : (0 : Int) ≤ (u.1 22 3).toInt ∧ (u.1 22 3).toInt ≤ 940 := hR 22 3
      refine a_geti F inX3 hP 22 3 tc_22 rfl rfl (by decide) q247 (fun _ h9 => h9) (v := (u.1 22 3)) rfl dX3_readWhole_30 ?_
      refine a_sp F (940 : Int32) dX3_readWhole_33 (by decide) ?_
      refine b_ge F 209 dX3_readWhole_36 (by decide) rfl ic_940 (fun c4 => ?_) (fun c4 => ?_)
      · have hC := hC.trans (if_pos c4)
        exact L209 x1 _ _ _ _ hR hF hK_N13 (by omega) (by omega : (0 : Int) ≤ (u.1 22 3).toInt ∧ (u.1 22 3).toInt ≤ 940) hC hP hD hS (lv_sub hl [1] rfl)
      · have hC := hC.trans (if_neg (by omega))
        refine lv_iload_n F.1 F.2.1 dX3_readWhole_39 rfl (lv_at hl 1 rfl) ?_
        refine z_eq F 209 dX3_readWhole_40 (by decide) rfl (fun c5 => ?_) (fun c5 => ?_)
        · have hC := hC.trans (if_pos c5)
          exact L209 x1 _ _ _ _ hR hF hK_N13 (by omega) (by omega : (0 : Int) ≤ (u.1 22 3).toInt ∧ (u.1 22 3).toInt ≤ 940) hC hP hD hS (lv_sub hl [1] rfl)
        · have hC := hC.trans (if_neg (by omega))
          refine lv_aload_n F.1 F.2.1 dX3_readWhole_43 rfl (lv_at hl 0 rfl) ?_
          refine a_getr F inX3 hP 22 0 tc_22 rfl rfl (by decide) q244 (fun _ h9 => h9) dX3_readWhole_44 ?_
          have g6 : (-128 : Int) ≤ (u.1 1 6).toInt ∧ (u.1 1 6).toInt ≤ 127 := hR 1 6
          refine a_geti F inX10 hP 1 6 tc_1 rfl rfl (by decide) q102 (fun _ h9 => h9) (v := (u.1 1 6)) rfl dX3_readWhole_47 ?_
          refine z_eq F 209 dX3_readWhole_50 (by decide) rfl (fun c7 => ?_) (fun c7 => ?_)
          · have hC := hC.trans (if_pos c7)
            exact L209 x1 _ _ _ _ hR hF hK_N13 (by omega) (by omega : (0 : Int) ≤ (u.1 22 3).toInt ∧ (u.1 22 3).toInt ≤ 940) hC hP hD hS (lv_sub hl [1] rfl)
          · have hC := hC.trans (if_neg (by omega))
            refine lv_aload_n F.1 F.2.1 dX3_readWhole_53 rfl (lv_at hl 0 rfl) ?_
            refine a_getr F inX3 hP 22 0 tc_22 rfl rfl (by decide) q244 (fun _ h9 => h9) dX3_readWhole_54 ?_
            refine a_geti F inX10 hP 1 6 tc_1 rfl rfl (by decide) q102 (fun _ h9 => h9) (v := (u.1 1 6)) (rfl) dX3_readWhole_57 ?_
            rcases (show ((u.1 1 6).toInt < 100 ∨ 109 < (u.1 1 6).toInt) ∨ (u.1 1 6).toInt = 100 ∨ (u.1 1 6).toInt = 101 ∨ (u.1 1 6).toInt = 102 ∨ (u.1 1 6).toInt = 103 ∨ (u.1 1 6).toInt = 104 ∨ (u.1 1 6).toInt = 105 ∨ (u.1 1 6).toInt = 106 ∨ (u.1 1 6).toInt = 107 ∨ (u.1 1 6).toInt = 108 ∨ (u.1 1 6).toInt = 109 by omega) with c8 | c8 | c8 | c8 | c8 | c8 | c8 | c8 | c8 | c8 | c8
            · have hC := hC.trans (if_pos c8)
              refine lv_tableOut (tgt := 180) F.1 F.2.1 dX3_readWhole_60 c8 (by decide) ?_
              refine lv_aload_n F.1 F.2.1 dX3_readWhole_180 rfl (lv_at hl 0 rfl) ?_
              refine a_getr F inX3 hP 22 0 tc_22 rfl rfl (by decide) q244 (fun _ h9 => h9) dX3_readWhole_181 ?_
              refine a_ic F (1 : Int32) dX3_readWhole_184 (by decide) ?_
              refine a_Vi F hml hl.1 hA hP hD hS (As := [.int (1 : Int32)]) (x_X10_fail_1 l dC dI ad cA nF _ (1 : Int32) hR (by decide)) (cs_RX3_70 (d := 1) F.2.2.1 (by decide)) tc_1 rfl rfl rfl rfl (Nat.le_of_ble_eq_true rfl) dX3_readWhole_185 ⟨Nat.le_refl 0, Nat.le_refl 0⟩ (fun r9 u9 H locs hq hP hD hS => ?_)
              obtain ⟨hR, hF9, gr9, hz9⟩ := hq
              have hF := hF.tr hF9 (by decide)
              have hK_N13 := sp_fr sp_N13 hF9 (by decide) hK_N13
              have hC := bd_eq hC hz9
              refine lv_istore_n (lv' := [(1, .int r9), (0, .ref (ad 22))]) F.1 F.2.1 dX3_readWhole_188 rfl hl (by decide) rfl (fun ls hl => ?_)
              exact L189 r9 _ _ _ _ hR hF hK_N13 (by omega) (i_trB (hF9 22 3 rfl) (by omega : (0 : Int) ≤ (u.1 22 3).toInt ∧ (u.1 22 3).toInt ≤ 939)) (by rw [hF9 22 3 rfl]; exact (by omega : 941 - (u.1 22 3).toInt < ((n29 : Nat) : Int) + 1)) hC hP hD hS (lv_sub hl [1, 0] rfl)
            · have hC := hC.trans (if_neg (by omega))
              have hC := hC.trans (if_pos c8)
              refine lv_tableIn (tgt := 116) F.1 F.2.1 dX3_readWhole_60 (by omega) (by omega) (by rw [c8]; rfl) (by decide) ?_
              refine lv_aload_n F.1 F.2.1 dX3_readWhole_116 rfl (lv_at hl 0 rfl) ?_
              refine a_Vi F hml hl.1 hA hP hD hS (As := []) (x_X3_readHours_22 l dC dI ad cA nF _  hR) (cs_RX3_45 (d := 5) F.2.2.1 (by decide)) tc_22 rfl rfl rfl rfl (Nat.le_of_ble_eq_true rfl) dX3_readWhole_117 ⟨Nat.le_refl 0, Nat.le_refl 0⟩ (fun r10 u10 H locs hq hP hD hS => ?_)
              obtain ⟨hR, hF10, gr10, hz10⟩ := hq
              have hF := hF.tr hF10 (by decide)
              have hK_N13 := sp_fr sp_N13 hF10 (by decide) hK_N13
              have hC := bd_eq hC hz10
              refine lv_istore_n (lv' := [(1, .int r10), (0, .ref (ad 22))]) F.1 F.2.1 dX3_readWhole_120 rfl hl (by decide) rfl (fun ls hl => ?_)
              refine lv_goto (tgt := 189) F.1 F.2.1 dX3_readWhole_121 (by decide) ?_
              exact L189 r10 _ _ _ _ hR hF hK_N13 (by omega) (i_trB (hF10 22 3 rfl) (by omega : (0 : Int) ≤ (u.1 22 3).toInt ∧ (u.1 22 3).toInt ≤ 939)) (by rw [hF10 22 3 rfl]; exact (by omega : 941 - (u.1 22 3).toInt < ((n29 : Nat) : Int) + 1)) hC hP hD hS (lv_sub hl [1, 0] rfl)
            · have hC := hC.trans (if_neg (by omega))
              have hC := hC.trans (if_neg (by omega))
              have hC := hC.trans (if_pos c8)
              refine lv_tableIn (tgt := 124) F.1 F.2.1 dX3_readWhole_60 (by omega) (by omega) (by rw [c8]; rfl) (by decide) ?_
              refine lv_aload_n F.1 F.2.1 dX3_readWhole_124 rfl (lv_at hl 0 rfl) ?_
              refine a_Vi F hml hl.1 hA hP hD hS (As := []) (x_X3_readPlace_22 l dC dI ad cA nF _  hR hK_N13) (cs_RX3_49 (d := 5) F.2.2.1 (by decide)) tc_22 rfl rfl rfl rfl (Nat.le_of_ble_eq_true rfl) dX3_readWhole_125 ⟨Nat.le_refl 0, Nat.le_refl 0⟩ (fun r11 u11 H locs hq hP hD hS => ?_)
              obtain ⟨hR, hF11, gr11, hK_N13, hz11⟩ := hq
              have hF := hF.tr hF11 (by decide)
              have hC := bd_eq hC hz11
              refine lv_istore_n (lv' := [(1, .int r11), (0, .ref (ad 22))]) F.1 F.2.1 dX3_readWhole_128 rfl hl (by decide) rfl (fun ls hl => ?_)
              refine lv_goto (tgt := 189) F.1 F.2.1 dX3_readWhole_129 (by decide) ?_
              exact L189 r11 _ _ _ _ hR hF hK_N13 (by omega) (i_trB (hF11 22 3 rfl) (by omega : (0 : Int) ≤ (u.1 22 3).toInt ∧ (u.1 22 3).toInt ≤ 939)) (by rw [hF11 22 3 rfl]; exact (by omega : 941 - (u.1 22 3).toInt < ((n29 : Nat) : Int) + 1)) hC hP hD hS (lv_sub hl [1, 0] rfl)
            · have hC := hC.trans (if_neg (by omega))
              have hC := hC.trans (if_neg (by omega))
              have hC := hC.trans (if_neg (by omega))
              have hC := hC.trans (if_pos c8)
              refine lv_tableIn (tgt := 132) F.1 F.2.1 dX3_readWhole_60 (by omega) (by omega) (by rw [c8]; rfl) (by decide) ?_
              refine lv_aload_n F.1 F.2.1 dX3_readWhole_132 rfl (lv_at hl 0 rfl) ?_
              refine a_Vi F hml hl.1 hA hP hD hS (As := []) (x_X3_readWay_22 l dC dI ad cA nF _  hR hK_N13) (cs_RX3_52 (d := 5) F.2.2.1 (by decide)) tc_22 rfl rfl rfl rfl (Nat.le_of_ble_eq_true rfl) dX3_readWhole_133 ⟨Nat.le_refl 0, Nat.le_refl 0⟩ (fun r12 u12 H locs hq hP hD hS => ?_)
              obtain ⟨hR, hF12, gr12, hK_N13, hz12⟩ := hq
              have hF := hF.tr hF12 (by decide)
              have hC := bd_eq hC hz12
              refine lv_istore_n (lv' := [(1, .int r12), (0, .ref (ad 22))]) F.1 F.2.1 dX3_readWhole_136 rfl hl (by decide) rfl (fun ls hl => ?_)
              refine lv_goto (tgt := 189) F.1 F.2.1 dX3_readWhole_137 (by decide) ?_
              exact L189 r12 _ _ _ _ hR hF hK_N13 (by omega) (i_trB (hF12 22 3 rfl) (by omega : (0 : Int) ≤ (u.1 22 3).toInt ∧ (u.1 22 3).toInt ≤ 939)) (by rw [hF12 22 3 rfl]; exact (by omega : 941 - (u.1 22 3).toInt < ((n29 : Nat) : Int) + 1)) hC hP hD hS (lv_sub hl [1, 0] rfl)
            · have hC := hC.trans (if_neg (by omega))
              have hC := hC.trans (if_neg (by omega))
              have hC := hC.trans (if_neg (by omega))
              have hC := hC.trans (if_neg (by omega))
              have hC := hC.trans (if_pos c8)
              refine lv_tableIn (tgt := 140) F.1 F.2.1 dX3_readWhole_60 (by omega) (by omega) (by rw [c8]; rfl) (by decide) ?_
              refine lv_aload_n F.1 F.2.1 dX3_readWhole_140 rfl (lv_at hl 0 rfl) ?_
              refine a_Vi F hml hl.1 hA hP hD hS (As := []) (x_X3_readFrog_22 l dC dI ad cA nF _  hR hK_N13) (cs_RX3_55 (d := 5) F.2.2.1 (by decide)) tc_22 rfl rfl rfl rfl (Nat.le_of_ble_eq_true rfl) dX3_readWhole_141 ⟨Nat.le_refl 0, Nat.le_refl 0⟩ (fun r13 u13 H locs hq hP hD hS => ?_)
              obtain ⟨hR, hF13, gr13, hK_N13, hz13⟩ := hq
              have hF := hF.tr hF13 (by decide)
              have hC := bd_eq hC hz13
              refine lv_istore_n (lv' := [(1, .int r13), (0, .ref (ad 22))]) F.1 F.2.1 dX3_readWhole_144 rfl hl (by decide) rfl (fun ls hl => ?_)
              refine lv_goto (tgt := 189) F.1 F.2.1 dX3_readWhole_145 (by decide) ?_
              exact L189 r13 _ _ _ _ hR hF hK_N13 (by omega) (i_trB (hF13 22 3 rfl) (by omega : (0 : Int) ≤ (u.1 22 3).toInt ∧ (u.1 22 3).toInt ≤ 939)) (by rw [hF13 22 3 rfl]; exact (by omega : 941 - (u.1 22 3).toInt < ((n29 : Nat) : Int) + 1)) hC hP hD hS (lv_sub hl [1, 0] rfl)
            · have hC := hC.trans (if_neg (by omega))
              have hC := hC.trans (if_neg (by omega))
              have hC := hC.trans (if_neg (by omega))
              have hC := hC.trans (if_neg (by omega))
              have hC := hC.trans (if_neg (by omega))
              have hC := hC.trans (if_pos c8)
              refine lv_tableIn (tgt := 148) F.1 F.2.1 dX3_readWhole_60 (by omega) (by omega) (by rw [c8]; rfl) (by decide) ?_
              refine lv_aload_n F.1 F.2.1 dX3_readWhole_148 rfl (lv_at hl 0 rfl) ?_
              refine a_Vi F hml hl.1 hA hP hD hS (As := []) (x_X3_readPerson_22 l dC dI ad cA nF _  hR hK_N13) (cs_RX3_58 (d := 5) F.2.2.1 (by decide)) tc_22 rfl rfl rfl rfl (Nat.le_of_ble_eq_true rfl) dX3_readWhole_149 ⟨Nat.le_refl 0, Nat.le_refl 0⟩ (fun r14 u14 H locs hq hP hD hS => ?_)
              obtain ⟨hR, hF14, gr14, hK_N13, hz14⟩ := hq
              have hF := hF.tr hF14 (by decide)
              have hC := bd_eq hC hz14
              refine lv_istore_n (lv' := [(1, .int r14), (0, .ref (ad 22))]) F.1 F.2.1 dX3_readWhole_152 rfl hl (by decide) rfl (fun ls hl => ?_)
              refine lv_goto (tgt := 189) F.1 F.2.1 dX3_readWhole_153 (by decide) ?_
              exact L189 r14 _ _ _ _ hR hF hK_N13 (by omega) (i_trB (hF14 22 3 rfl) (by omega : (0 : Int) ≤ (u.1 22 3).toInt ∧ (u.1 22 3).toInt ≤ 939)) (by rw [hF14 22 3 rfl]; exact (by omega : 941 - (u.1 22 3).toInt < ((n29 : Nat) : Int) + 1)) hC hP hD hS (lv_sub hl [1, 0] rfl)
            · have hC := hC.trans (if_neg (by omega))
              have hC := hC.trans (if_neg (by omega))
              have hC := hC.trans (if_neg (by omega))
              have hC := hC.trans (if_neg (by omega))
              have hC := hC.trans (if_neg (by omega))
              have hC := hC.trans (if_neg (by omega))
              have hC := hC.trans (if_pos c8)
              refine lv_tableIn (tgt := 156) F.1 F.2.1 dX3_readWhole_60 (by omega) (by omega) (by rw [c8]; rfl) (by decide) ?_
              refine lv_aload_n F.1 F.2.1 dX3_readWhole_156 rfl (lv_at hl 0 rfl) ?_
              refine a_Vi F hml hl.1 hA hP hD hS (As := []) (x_X3_readDeed_22 l dC dI ad cA nF _  hR hK_N13) (cs_RX3_61 (d := 5) F.2.2.1 (by decide)) tc_22 rfl rfl rfl rfl (Nat.le_of_ble_eq_true rfl) dX3_readWhole_157 ⟨Nat.le_refl 0, Nat.le_refl 0⟩ (fun r15 u15 H locs hq hP hD hS => ?_)
              obtain ⟨hR, hF15, gr15, hK_N13, hz15⟩ := hq
              have hF := hF.tr hF15 (by decide)
              have hC := bd_eq hC hz15
              refine lv_istore_n (lv' := [(1, .int r15), (0, .ref (ad 22))]) F.1 F.2.1 dX3_readWhole_160 rfl hl (by decide) rfl (fun ls hl => ?_)
              refine lv_goto (tgt := 189) F.1 F.2.1 dX3_readWhole_161 (by decide) ?_
              exact L189 r15 _ _ _ _ hR hF hK_N13 (by omega) (i_trB (hF15 22 3 rfl) (by omega : (0 : Int) ≤ (u.1 22 3).toInt ∧ (u.1 22 3).toInt ≤ 939)) (by rw [hF15 22 3 rfl]; exact (by omega : 941 - (u.1 22 3).toInt < ((n29 : Nat) : Int) + 1)) hC hP hD hS (lv_sub hl [1, 0] rfl)
            · have hC := hC.trans (if_neg (by omega))
              have hC := hC.trans (if_neg (by omega))
              have hC := hC.trans (if_neg (by omega))
              have hC := hC.trans (if_neg (by omega))
              have hC := hC.trans (if_neg (by omega))
              have hC := hC.trans (if_neg (by omega))
              have hC := hC.trans (if_neg (by omega))
              have hC := hC.trans (if_pos c8)
              refine lv_tableIn (tgt := 164) F.1 F.2.1 dX3_readWhole_60 (by omega) (by omega) (by rw [c8]; rfl) (by decide) ?_
              refine lv_aload_n F.1 F.2.1 dX3_readWhole_164 rfl (lv_at hl 0 rfl) ?_
              refine a_Vi F hml hl.1 hA hP hD hS (As := []) (x_X3_readPromise_22 l dC dI ad cA nF _  hR hK_N13) (cs_RX3_64 (d := 6) F.2.2.1 (by decide)) tc_22 rfl rfl rfl rfl (Nat.le_of_ble_eq_true rfl) dX3_readWhole_165 ⟨Nat.le_refl 0, Nat.le_refl 0⟩ (fun r16 u16 H locs hq hP hD hS => ?_)
              obtain ⟨hR, hF16, gr16, hK_N13, hz16⟩ := hq
              have hF := hF.tr hF16 (by decide)
              have hC := bd_eq hC hz16
              refine lv_istore_n (lv' := [(1, .int r16), (0, .ref (ad 22))]) F.1 F.2.1 dX3_readWhole_168 rfl hl (by decide) rfl (fun ls hl => ?_)
              refine lv_goto (tgt := 189) F.1 F.2.1 dX3_readWhole_169 (by decide) ?_
              exact L189 r16 _ _ _ _ hR hF hK_N13 (by omega) (i_trB (hF16 22 3 rfl) (by omega : (0 : Int) ≤ (u.1 22 3).toInt ∧ (u.1 22 3).toInt ≤ 939)) (by rw [hF16 22 3 rfl]; exact (by omega : 941 - (u.1 22 3).toInt < ((n29 : Nat) : Int) + 1)) hC hP hD hS (lv_sub hl [1, 0] rfl)
            · have hC := hC.trans (if_neg (by omega))
              have hC := hC.trans (if_neg (by omega))
              have hC := hC.trans (if_neg (by omega))
              have hC := hC.trans (if_neg (by omega))
              have hC := hC.trans (if_neg (by omega))
              have hC := hC.trans (if_neg (by omega))
              have hC := hC.trans (if_neg (by omega))
              have hC := hC.trans (if_neg (by omega))
              have hC := hC.trans (if_pos c8)
              refine lv_tableIn (tgt := 180) F.1 F.2.1 dX3_readWhole_60 (by omega) (by omega) (by rw [c8]; rfl) (by decide) ?_
              refine lv_aload_n F.1 F.2.1 dX3_readWhole_180 rfl (lv_at hl 0 rfl) ?_
              refine a_getr F inX3 hP 22 0 tc_22 rfl rfl (by decide) q244 (fun _ h9 => h9) dX3_readWhole_181 ?_
              refine a_ic F (1 : Int32) dX3_readWhole_184 (by decide) ?_
              refine a_Vi F hml hl.1 hA hP hD hS (As := [.int (1 : Int32)]) (x_X10_fail_1 l dC dI ad cA nF _ (1 : Int32) hR (by decide)) (cs_RX3_70 (d := 1) F.2.2.1 (by decide)) tc_1 rfl rfl rfl rfl (Nat.le_of_ble_eq_true rfl) dX3_readWhole_185 ⟨Nat.le_refl 0, Nat.le_refl 0⟩ (fun r17 u17 H locs hq hP hD hS => ?_)
              obtain ⟨hR, hF17, gr17, hz17⟩ := hq
              have hF := hF.tr hF17 (by decide)
              have hK_N13 := sp_fr sp_N13 hF17 (by decide) hK_N13
              have hC := bd_eq hC hz17
              refine lv_istore_n (lv' := [(1, .int r17), (0, .ref (ad 22))]) F.1 F.2.1 dX3_readWhole_188 rfl hl (by decide) rfl (fun ls hl => ?_)
              exact L189 r17 _ _ _ _ hR hF hK_N13 (by omega) (i_trB (hF17 22 3 rfl) (by omega : (0 : Int) ≤ (u.1 22 3).toInt ∧ (u.1 22 3).toInt ≤ 939)) (by rw [hF17 22 3 rfl]; exact (by omega : 941 - (u.1 22 3).toInt < ((n29 : Nat) : Int) + 1)) hC hP hD hS (lv_sub hl [1, 0] rfl)
            · have hC := hC.trans (if_neg (by omega))
              have hC := hC.trans (if_neg (by omega))
              have hC := hC.trans (if_neg (by omega))
              have hC := hC.trans (if_neg (by omega))
              have hC := hC.trans (if_neg (by omega))
              have hC := hC.trans (if_neg (by omega))
              have hC := hC.trans (if_neg (by omega))
              have hC := hC.trans (if_neg (by omega))
              have hC := hC.trans (if_neg (by omega))
              have hC := hC.trans (if_pos c8)
              refine lv_tableIn (tgt := 180) F.1 F.2.1 dX3_readWhole_60 (by omega) (by omega) (by rw [c8]; rfl) (by decide) ?_
              refine lv_aload_n F.1 F.2.1 dX3_readWhole_180 rfl (lv_at hl 0 rfl) ?_
              refine a_getr F inX3 hP 22 0 tc_22 rfl rfl (by decide) q244 (fun _ h9 => h9) dX3_readWhole_181 ?_
              refine a_ic F (1 : Int32) dX3_readWhole_184 (by decide) ?_
              refine a_Vi F hml hl.1 hA hP hD hS (As := [.int (1 : Int32)]) (x_X10_fail_1 l dC dI ad cA nF _ (1 : Int32) hR (by decide)) (cs_RX3_70 (d := 1) F.2.2.1 (by decide)) tc_1 rfl rfl rfl rfl (Nat.le_of_ble_eq_true rfl) dX3_readWhole_185 ⟨Nat.le_refl 0, Nat.le_refl 0⟩ (fun r18 u18 H locs hq hP hD hS => ?_)
              obtain ⟨hR, hF18, gr18, hz18⟩ := hq
              have hF := hF.tr hF18 (by decide)
              have hK_N13 := sp_fr sp_N13 hF18 (by decide) hK_N13
              have hC := bd_eq hC hz18
              refine lv_istore_n (lv' := [(1, .int r18), (0, .ref (ad 22))]) F.1 F.2.1 dX3_readWhole_188 rfl hl (by decide) rfl (fun ls hl => ?_)
              exact L189 r18 _ _ _ _ hR hF hK_N13 (by omega) (i_trB (hF18 22 3 rfl) (by omega : (0 : Int) ≤ (u.1 22 3).toInt ∧ (u.1 22 3).toInt ≤ 939)) (by rw [hF18 22 3 rfl]; exact (by omega : 941 - (u.1 22 3).toInt < ((n29 : Nat) : Int) + 1)) hC hP hD hS (lv_sub hl [1, 0] rfl)
            · have hC := hC.trans (if_neg (by omega))
              have hC := hC.trans (if_neg (by omega))
              have hC := hC.trans (if_neg (by omega))
              have hC := hC.trans (if_neg (by omega))
              have hC := hC.trans (if_neg (by omega))
              have hC := hC.trans (if_neg (by omega))
              have hC := hC.trans (if_neg (by omega))
              have hC := hC.trans (if_neg (by omega))
              have hC := hC.trans (if_neg (by omega))
              have hC := hC.trans (if_neg (by omega))
              refine lv_tableIn (tgt := 172) F.1 F.2.1 dX3_readWhole_60 (by omega) (by omega) (by rw [c8]; rfl) (by decide) ?_
              refine lv_aload_n F.1 F.2.1 dX3_readWhole_172 rfl (lv_at hl 0 rfl) ?_
              refine a_Vi F hml hl.1 hA hP hD hS (As := []) (x_X3_readVow_22 l dC dI ad cA nF _  hR hK_N13) (cs_RX3_67 (d := 5) F.2.2.1 (by decide)) tc_22 rfl rfl rfl rfl (Nat.le_of_ble_eq_true rfl) dX3_readWhole_173 ⟨Nat.le_refl 0, Nat.le_refl 0⟩ (fun r19 u19 H locs hq hP hD hS => ?_)
              obtain ⟨hR, hF19, gr19, hK_N13, hz19⟩ := hq
              have hF := hF.tr hF19 (by decide)
              have hC := bd_eq hC hz19
              refine lv_istore_n (lv' := [(1, .int r19), (0, .ref (ad 22))]) F.1 F.2.1 dX3_readWhole_176 rfl hl (by decide) rfl (fun ls hl => ?_)
              refine lv_goto (tgt := 189) F.1 F.2.1 dX3_readWhole_177 (by decide) ?_
              exact L189 r19 _ _ _ _ hR hF hK_N13 (by omega) (i_trB (hF19 22 3 rfl) (by omega : (0 : Int) ≤ (u.1 22 3).toInt ∧ (u.1 22 3).toInt ≤ 939)) (by rw [hF19 22 3 rfl]; exact (by omega : 941 - (u.1 22 3).toInt < ((n29 : Nat) : Int) + 1)) hC hP hD hS (lv_sub hl [1, 0] rfl)
  have hC : RR = f_X3_readWhole_22 u0 := hRR
  unfold f_X3_readWhole_22 at hC
  refine lv_aload_n F.1 F.2.1 dX3_readWhole_0 rfl (lv_at hl 0 rfl) ?_
  refine a_getr F inX3 hP 22 1 tc_22 rfl rfl (by decide) q245 (fun _ h9 => h9) dX3_readWhole_1 ?_
  refine a_Vv F hml hl.1 hA hP hD hS (As := []) (x_X2_clear_13 l dC dI ad cA nF _  hR) (cs_RX3_31 (d := 2) F.2.2.1 (by decide)) tc_13 rfl rfl rfl rfl (Nat.le_of_ble_eq_true rfl) dX3_readWhole_4 ⟨Nat.le_refl 0, Nat.le_refl 0⟩ (fun u20 H locs hq hP hD hS => ?_)
  obtain ⟨hR, hF20, hz20⟩ := hq
  have hF := hF.tr hF20 (by decide)
  have hK_N13 := sp_fr sp_N13 hF20 (by decide) hK_N13
  have hC := vl_eq hC hz20.symm
  refine lv_aload_n F.1 F.2.1 dX3_readWhole_7 rfl (lv_at hl 0 rfl) ?_
  refine a_ic F (0 : Int32) dX3_readWhole_8 (by decide) ?_
  refine a_puti F inX3 tyX3 tyX3_ok nmX3 hP hD hS 22 4 tc_22 rfl rfl (by decide) q249 (fun _ h9 => h9) rfl (ty := .boolean) (tyX3_ok 4 (by decide)) (i_zn (Or.inl rfl)) (i_zf (Or.inl rfl)) dX3_readWhole_9 (fun H locs hP hD hS => ?_)
  have hR := hR.si (c := 22) (k := 4) (v := (0 : Int32)) (by rw [ic_0]; exact (by omega : (0 : Int) ≤ (0 : Int) ∧ (0 : Int) ≤ 1))
  have hF := hF.si (c := 22) (k := 4) (v := (0 : Int32)) rfl
  have hK_N13 := sp_sgD sp_N13 hD hK_N13 (by decide)
  refine lv_aload_n F.1 F.2.1 dX3_readWhole_12 rfl (lv_at hl 0 rfl) ?_
  refine a_getr F inX3 hP 22 0 tc_22 rfl rfl (by decide) q244 (fun _ h9 => h9) dX3_readWhole_13 ?_
  refine a_sp F (900 : Int32) dX3_readWhole_16 (by decide) ?_
  refine a_Vv F hml hl.1 hA hP hD hS (As := [.int (900 : Int32)]) (x_X10_startReading_1 l dC dI ad cA nF _ (900 : Int32) hR (by decide)) (cs_RX3_36 (d := 4) F.2.2.1 (by decide)) tc_1 rfl rfl rfl rfl (Nat.le_of_ble_eq_true rfl) dX3_readWhole_19 ⟨Nat.le_refl 0, Nat.le_refl 0⟩ (fun u21 H locs hq hP hD hS => ?_)
  obtain ⟨hR, hF21, hz21⟩ := hq
  have hF := hF.tr hF21 (by decide)
  have hK_N13 := sp_fr sp_N13 hF21 (by decide) hK_N13
  have hC := vl_eq hC hz21.symm
  refine a_ic F (1 : Int32) dX3_readWhole_22 (by decide) ?_
  refine lv_istore_n (lv' := [(1, .int (1 : Int32)), (0, .ref (ad 22))]) F.1 F.2.1 dX3_readWhole_23 rfl hl (by decide) rfl (fun ls hl => ?_)
  refine lv_aload_n F.1 F.2.1 dX3_readWhole_24 rfl (lv_at hl 1 rfl) ?_
  refine a_ic F (0 : Int32) dX3_readWhole_25 (by decide) ?_
  refine a_puti F inX3 tyX3 tyX3_ok nmX3 hP hD hS 22 3 tc_22 rfl rfl (by decide) q247 (fun _ h9 => h9) rfl (ty := .int) (tyX3_ok 3 (by decide)) rfl rfl dX3_readWhole_26 (fun H locs hP hD hS => ?_)
  have hR := hR.si (c := 22) (k := 3) (v := (0 : Int32)) (by rw [ic_0]; exact (by omega : (0 : Int) ≤ (0 : Int) ∧ (0 : Int) ≤ 940))
  have hF := hF.si (c := 22) (k := 3) (v := (0 : Int32)) rfl
  have hK_N13 := sp_sgD sp_N13 hD hK_N13 (by decide)
  exact L29 943 (1 : Int32) _ _ _ _ hR hF (by omega : 941 - (0 : Int) < (943 : Int)) hK_N13 (by decide) (by omega : (0 : Int) ≤ (0 : Int) ∧ (0 : Int) ≤ 940) hC hP hD hS (lv_sub hl [1, 0] rfl)

def f_X8_copyFrom_43_73 (u0 : ac_U) : ac_U := (cpI (cpI (cpI (pI (pI u0 43 3 (u0.1 73 3)) 43 4 (u0.1 73 4)) 74 44 (0 : Int32).toNatClampNeg (0 : Int32).toNatClampNeg (40 : Int32).toNatClampNeg) 75 45 (0 : Int32).toNatClampNeg (0 : Int32).toNatClampNeg (40 : Int32).toNatClampNeg) 76 46 (0 : Int32).toNatClampNeg (0 : Int32).toNatClampNeg (40 : Int32).toNatClampNeg)
set_option maxHeartbeats 600000 in
set_option maxRecDepth 100000 in
theorem x_X8_copyFrom_43_73 (l : Launch) (dC : Nat → ClassId) (dI : Nat → Nat → Nat) (ad : Nat → Nat) (cA : Nat → ClassId) (nF : Nat) (u0 : ac_U)  (hR : ac_R rg u0) : ac_Mv l yX8_copyFrom (.code yX8_copyFrom cX8_copyFrom 2 none :: TB) 1 (dC, dI) vwCl (ac_ty cA) ad cA (TT nF) [.ref (ad 43), .ref (ad 73)] u0 (fun (u : ac_U) => ac_R rg u ∧ ac_Fr [(43, some 3), (43, some 4), (44, none), (45, none), (46, none)] u0 u ∧ f_X8_copyFrom_43_73 u0 = u) := by
  refine ac_Mv.of (cc := cX8_copyFrom) (maxL := 2) (ret := none) (by decide) rfl (Nat.le_of_ble_eq_true rfl) ?_
  intro p e s m below meth c A ls F hml hr hlocks hA hP hD hS hl
  have F : ac_X p s m [.ref (ad 43), .ref (ad 73)].toArray c cX8_copyFrom RX8 TB (dC, dI) vwCl (ac_ty cA) := ⟨F.1, F.2.1, fun w h => F.2.2.1 w (List.mem_cons_of_mem _ h), F.2.2.2.1, F.2.2.2.2⟩
  have hl : lv_has ls 2 [(0, .ref (ad 43)), (1, .ref (ad 73))] := hl
  obtain ⟨RR, hRR⟩ : ∃ q, q = f_X8_copyFrom_43_73 u0 := ⟨_, rfl⟩
  have hF : ac_Fr [(43, some 3), (43, some 4), (44, none), (45, none), (46, none)] u0 u0 := ac_Fr.rf
  have hC : RR = f_X8_copyFrom_43_73 u0 := hRR
  unfold f_X8_copyFrom_43_73 at hC
  refine lv_aload_n F.1 F.2.1 dX8_copyFrom_0 rfl (lv_at hl 0 rfl) ?_
  refine lv_aload_n F.1 F.2.1 dX8_copyFrom_1 rfl (lv_at hl 1 rfl) ?_
  have g1 : (0 : Int) ≤ (u0.1 73 3).toInt ∧ (u0.1 73 3).toInt ≤ 40 := hR 73 3
  refine a_geti F inX8 hP 73 3 tc_73 rfl rfl (by decide) q443 (fun _ h9 => h9) (v := (u0.1 73 3)) rfl dX8_copyFrom_2 ?_
  refine a_puti F inX8 tyX8 tyX8_ok nmX8 hP hD hS 43 3 tc_43 rfl rfl (by decide) q443 (fun _ h9 => h9) rfl (ty := .int) (tyX8_ok 3 (by decide)) rfl rfl dX8_copyFrom_5 (fun H locs hP hD hS => ?_)
  have hR := hR.si (c := 43) (k := 3) (v := (u0.1 73 3)) (by omega : (0 : Int) ≤ (u0.1 73 3).toInt ∧ (u0.1 73 3).toInt ≤ 40)
  have hF := hF.si (c := 43) (k := 3) (v := (u0.1 73 3)) rfl
  refine lv_aload_n F.1 F.2.1 dX8_copyFrom_8 rfl (lv_at hl 0 rfl) ?_
  refine lv_aload_n F.1 F.2.1 dX8_copyFrom_9 rfl (lv_at hl 1 rfl) ?_
  have g2 : (0 : Int) ≤ (u0.1 73 4).toInt ∧ (u0.1 73 4).toInt ≤ 20 := hR 73 4
  refine a_geti F inX8 hP 73 4 tc_73 rfl rfl (by decide) q445 (fun _ h9 => h9) (v := (u0.1 73 4)) rfl dX8_copyFrom_10 ?_
  refine a_puti F inX8 tyX8 tyX8_ok nmX8 hP hD hS 43 4 tc_43 rfl rfl (by decide) q445 (fun _ h9 => h9) rfl (ty := .int) (tyX8_ok 4 (by decide)) rfl rfl dX8_copyFrom_13 (fun H locs hP hD hS => ?_)
  have hR := hR.si (c := 43) (k := 4) (v := (u0.1 73 4)) (by omega : (0 : Int) ≤ (u0.1 73 4).toInt ∧ (u0.1 73 4).toInt ≤ 20)
  have hF := hF.si (c := 43) (k := 4) (v := (u0.1 73 4)) rfl
  refine lv_aload_n F.1 F.2.1 dX8_copyFrom_16 rfl (lv_at hl 1 rfl) ?_
  refine a_getr F inX8 hP 73 0 tc_73 rfl rfl (by decide) q440 (fun _ h9 => h9) dX8_copyFrom_17 ?_
  refine a_ic F (0 : Int32) dX8_copyFrom_20 (by decide) ?_
  refine lv_aload_n F.1 F.2.1 dX8_copyFrom_21 rfl (lv_at hl 0 rfl) ?_
  refine a_getr F inX8 hP 43 0 tc_43 rfl rfl (by decide) q440 (fun _ h9 => h9) dX8_copyFrom_22 ?_
  refine a_ic F (0 : Int32) dX8_copyFrom_25 (by decide) ?_
  refine lv_aload_n F.1 F.2.1 dX8_copyFrom_26 rfl (lv_at hl 0 rfl) ?_
  refine a_getr F inX8 hP 43 0 tc_43 rfl rfl (by decide) q440 (fun _ h9 => h9) dX8_copyFrom_27 ?_
  refine va_alen (v := (40 : Int32)) F.1 F.2.1 F.2.2.2.2 hP 44 0 (ac_at tc_44) rfl rfl dX8_copyFrom_30 ?_
  refine a_cpyi F (hml.trans hl.1.symm) q1313 q708 q707 q19 hP hD hS 74 44 tc_74 tc_44 rfl (by decide) (by decide) (by decide) (by simp only [ic_0, ic_40]; omega) (by simp only [ic_0, ic_40]; omega) (by decide) (by decide) dX8_copyFrom_31 (fun H locs hP hD hS => ?_)
  have hR := hR.cp (c0 := 74) (c1 := 44) (sp := (0 : Int32).toNatClampNeg) (dp := (0 : Int32).toNatClampNeg) (n := (40 : Int32).toNatClampNeg) (by decide +kernel)
  have hF := hF.cp (c0 := 74) (c1 := 44) (sp := (0 : Int32).toNatClampNeg) (dp := (0 : Int32).toNatClampNeg) (n := (40 : Int32).toNatClampNeg) (fun _ => rfl)
  refine lv_aload_n F.1 F.2.1 dX8_copyFrom_34 rfl (lv_at hl 1 rfl) ?_
  refine a_getr F inX8 hP 73 1 tc_73 rfl rfl (by decide) q441 (fun _ h9 => h9) dX8_copyFrom_35 ?_
  refine a_ic F (0 : Int32) dX8_copyFrom_38 (by decide) ?_
  refine lv_aload_n F.1 F.2.1 dX8_copyFrom_39 rfl (lv_at hl 0 rfl) ?_
  refine a_getr F inX8 hP 43 1 tc_43 rfl rfl (by decide) q441 (fun _ h9 => h9) dX8_copyFrom_40 ?_
  refine a_ic F (0 : Int32) dX8_copyFrom_43 (by decide) ?_
  refine lv_aload_n F.1 F.2.1 dX8_copyFrom_44 rfl (lv_at hl 0 rfl) ?_
  refine a_getr F inX8 hP 43 1 tc_43 rfl rfl (by decide) q441 (fun _ h9 => h9) dX8_copyFrom_45 ?_
  refine va_alen (v := (40 : Int32)) F.1 F.2.1 F.2.2.2.2 hP 45 0 (ac_at tc_45) rfl rfl dX8_copyFrom_48 ?_
  refine a_cpyi F (hml.trans hl.1.symm) q1313 q708 q707 q19 hP hD hS 75 45 tc_75 tc_45 rfl (by decide) (by decide) (by decide) (by simp only [ic_0, ic_40]; omega) (by simp only [ic_0, ic_40]; omega) (by decide) (by decide) dX8_copyFrom_49 (fun H locs hP hD hS => ?_)
  have hR := hR.cp (c0 := 75) (c1 := 45) (sp := (0 : Int32).toNatClampNeg) (dp := (0 : Int32).toNatClampNeg) (n := (40 : Int32).toNatClampNeg) (by decide +kernel)
  have hF := hF.cp (c0 := 75) (c1 := 45) (sp := (0 : Int32).toNatClampNeg) (dp := (0 : Int32).toNatClampNeg) (n := (40 : Int32).toNatClampNeg) (fun _ => rfl)
  refine lv_aload_n F.1 F.2.1 dX8_copyFrom_52 rfl (lv_at hl 1 rfl) ?_
  refine a_getr F inX8 hP 73 2 tc_73 rfl rfl (by decide) q442 (fun _ h9 => h9) dX8_copyFrom_53 ?_
  refine a_ic F (0 : Int32) dX8_copyFrom_56 (by decide) ?_
  refine lv_aload_n F.1 F.2.1 dX8_copyFrom_57 rfl (lv_at hl 0 rfl) ?_
  refine a_getr F inX8 hP 43 2 tc_43 rfl rfl (by decide) q442 (fun _ h9 => h9) dX8_copyFrom_58 ?_
  refine a_ic F (0 : Int32) dX8_copyFrom_61 (by decide) ?_
  refine lv_aload_n F.1 F.2.1 dX8_copyFrom_62 rfl (lv_at hl 0 rfl) ?_
  refine a_getr F inX8 hP 43 2 tc_43 rfl rfl (by decide) q442 (fun _ h9 => h9) dX8_copyFrom_63 ?_
  refine va_alen (v := (40 : Int32)) F.1 F.2.1 F.2.2.2.2 hP 46 0 (ac_at tc_46) rfl rfl dX8_copyFrom_66 ?_
  refine a_cpyi F (hml.trans hl.1.symm) q1313 q708 q707 q19 hP hD hS 76 46 tc_76 tc_46 rfl (by decide) (by decide) (by decide) (by simp only [ic_0, ic_40]; omega) (by simp only [ic_0, ic_40]; omega) (by decide) (by decide) dX8_copyFrom_67 (fun H locs hP hD hS => ?_)
  have hR := hR.cp (c0 := 76) (c1 := 46) (sp := (0 : Int32).toNatClampNeg) (dp := (0 : Int32).toNatClampNeg) (n := (40 : Int32).toNatClampNeg) (by decide +kernel)
  have hF := hF.cp (c0 := 76) (c1 := 46) (sp := (0 : Int32).toNatClampNeg) (dp := (0 : Int32).toNatClampNeg) (n := (40 : Int32).toNatClampNeg) (fun _ => rfl)
  exact a_retv F hr hlocks hP hD hS dX8_copyFrom_70 ⟨hR, hF, hRR.symm.trans hC⟩

def f_X4_give_53_4_24_43 (u0 : ac_U) : ac_U := (vl (f_X2_copyFrom_4_55 u0) (fun (u1 : ac_U) => (vl (f_X8_copyFrom_43_73 u1) (fun (u2 : ac_U) => (pI (cpI (cpI u2 81 25 (0 : Int32).toNatClampNeg (0 : Int32).toNatClampNeg (31 : Int32).toNatClampNeg) 82 26 (0 : Int32).toNatClampNeg (0 : Int32).toNatClampNeg (320 : Int32).toNatClampNeg) 24 5 (0 : Int32))))))
set_option maxHeartbeats 600000 in
set_option maxRecDepth 100000 in
theorem x_X4_give_53_4_24_43 (l : Launch) (dC : Nat → ClassId) (dI : Nat → Nat → Nat) (ad : Nat → Nat) (cA : Nat → ClassId) (nF : Nat) (u0 : ac_U)  (hR : ac_R rg u0) (hK_N55 : nmI 62 63 u0) : ac_Mv l yX4_give (.code yX4_give cX4_give 4 none :: TB) 2 (dC, dI) vwCl (ac_ty cA) ad cA (TT nF) [.ref (ad 53), .ref (ad 4), .ref (ad 24), .ref (ad 43)] u0 (fun (u : ac_U) => ac_R rg u ∧ ac_Fr [(4, some 0), (4, some 1), (4, some 2), (4, some 3), (4, some 4), (4, some 5), (4, some 6), (4, some 7), (4, some 8), (5, none), (6, none), (7, none), (8, none), (9, none), (11, none), (12, none), (24, some 5), (25, none), (26, none), (43, some 3), (43, some 4), (44, none), (45, none), (46, none)] u0 u ∧ nmI 11 12 u ∧ f_X4_give_53_4_24_43 u0 = u) := by
  refine ac_Mv.of (cc := cX4_give) (maxL := 4) (ret := none) (by decide) rfl (Nat.le_of_ble_eq_true rfl) ?_
  intro p e s m below meth c A ls F hml hr hlocks hA hP hD hS hl
  have F : ac_X p s m [.ref (ad 53), .ref (ad 4), .ref (ad 24), .ref (ad 43)].toArray c cX4_give RX4 TB (dC, dI) vwCl (ac_ty cA) := ⟨F.1, F.2.1, fun w h => F.2.2.1 w (List.mem_cons_of_mem _ h), F.2.2.2.1, F.2.2.2.2⟩
  have hl : lv_has ls 4 [(0, .ref (ad 53)), (1, .ref (ad 4)), (2, .ref (ad 24)), (3, .ref (ad 43))] := hl
  obtain ⟨RR, hRR⟩ : ∃ q, q = f_X4_give_53_4_24_43 u0 := ⟨_, rfl⟩
  have hF : ac_Fr [(4, some 0), (4, some 1), (4, some 2), (4, some 3), (4, some 4), (4, some 5), (4, some 6), (4, some 7), (4, some 8), (5, none), (6, none), (7, none), (8, none), (9, none), (11, none), (12, none), (24, some 5), (25, none), (26, none), (43, some 3), (43, some 4), (44, none), (45, none), (46, none)] u0 u0 := ac_Fr.rf
  have hC : RR = f_X4_give_53_4_24_43 u0 := hRR
  unfold f_X4_give_53_4_24_43 at hC
  refine lv_aload_n F.1 F.2.1 dX4_give_0 rfl (lv_at hl 1 rfl) ?_
  refine lv_aload_n F.1 F.2.1 dX4_give_1 rfl (lv_at hl 0 rfl) ?_
  refine a_getr F inX4 hP 53 0 tc_53 rfl rfl (by decide) q486 (fun _ h9 => h9) dX4_give_2 ?_
  refine a_Vv F hml hl.1 hA hP hD hS (As := [.ref (ad 55)]) (x_X2_copyFrom_4_55 l dC dI ad cA nF _  hR hK_N55) (cs_RX4_36 (d := 1) F.2.2.1 (by decide)) tc_4 rfl rfl rfl rfl (Nat.le_of_ble_eq_true rfl) dX4_give_5 ⟨Nat.le_refl 0, Nat.le_refl 0⟩ (fun u1 H locs hq hP hD hS => ?_)
  obtain ⟨hR, hF1, hK_N4, hz1⟩ := hq
  have hF := hF.tr hF1 (by decide)
  have hK_N55 := sp_fr sp_N55 hF1 (by decide) hK_N55
  have hC := vl_eq hC hz1.symm
  refine lv_aload_n F.1 F.2.1 dX4_give_8 rfl (lv_at hl 3 rfl) ?_
  refine lv_aload_n F.1 F.2.1 dX4_give_9 rfl (lv_at hl 0 rfl) ?_
  refine a_getr F inX4 hP 53 1 tc_53 rfl rfl (by decide) q487 (fun _ h9 => h9) dX4_give_10 ?_
  refine a_Vv F hml hl.1 hA hP hD hS (As := [.ref (ad 73)]) (x_X8_copyFrom_43_73 l dC dI ad cA nF _  hR) (cs_RX4_40 (d := 1) F.2.2.1 (by decide)) tc_43 rfl rfl rfl rfl (Nat.le_of_ble_eq_true rfl) dX4_give_13 ⟨Nat.le_refl 0, Nat.le_refl 0⟩ (fun u2 H locs hq hP hD hS => ?_)
  obtain ⟨hR, hF2, hz2⟩ := hq
  have hF := hF.tr hF2 (by decide)
  have hK_N55 := sp_fr sp_N55 hF2 (by decide) hK_N55
  have hK_N4 := sp_fr sp_N4 hF2 (by decide) hK_N4
  have hC := vl_eq hC hz2.symm
  refine lv_aload_n F.1 F.2.1 dX4_give_16 rfl (lv_at hl 0 rfl) ?_
  refine a_getr F inX4 hP 53 2 tc_53 rfl rfl (by decide) q488 (fun _ h9 => h9) dX4_give_17 ?_
  refine a_ic F (0 : Int32) dX4_give_20 (by decide) ?_
  refine lv_aload_n F.1 F.2.1 dX4_give_21 rfl (lv_at hl 2 rfl) ?_
  refine a_getr F inX6 hP 24 1 tc_24 rfl rfl (by decide) q273 (fun _ h9 => h9) dX4_give_22 ?_
  refine a_ic F (0 : Int32) dX4_give_25 (by decide) ?_
  refine a_bp F (31 : Int32) dX4_give_26 (by decide) ?_
  refine a_cpyi F (hml.trans hl.1.symm) q1341 q708 q707 q19 hP hD hS 81 25 tc_81 tc_25 rfl (by decide) (by decide) (by decide) (by simp only [ic_0, ic_31]; omega) (by simp only [ic_0, ic_31]; omega) (by decide) (by decide) dX4_give_28 (fun H locs hP hD hS => ?_)
  have hR := hR.cp (c0 := 81) (c1 := 25) (sp := (0 : Int32).toNatClampNeg) (dp := (0 : Int32).toNatClampNeg) (n := (31 : Int32).toNatClampNeg) (by decide +kernel)
  have hF := hF.cp (c0 := 81) (c1 := 25) (sp := (0 : Int32).toNatClampNeg) (dp := (0 : Int32).toNatClampNeg) (n := (31 : Int32).toNatClampNeg) (fun _ => rfl)
  have hK_N4 := sp_sgD sp_N4 hD hK_N4 (by decide)
  have hK_N55 := sp_sgD sp_N55 hD hK_N55 (by decide)
  refine lv_aload_n F.1 F.2.1 dX4_give_31 rfl (lv_at hl 0 rfl) ?_
  refine a_getr F inX4 hP 53 3 tc_53 rfl rfl (by decide) q489 (fun _ h9 => h9) dX4_give_32 ?_
  refine a_ic F (0 : Int32) dX4_give_35 (by decide) ?_
  refine lv_aload_n F.1 F.2.1 dX4_give_36 rfl (lv_at hl 2 rfl) ?_
  refine a_getr F inX6 hP 24 2 tc_24 rfl rfl (by decide) q279 (fun _ h9 => h9) dX4_give_37 ?_
  refine a_ic F (0 : Int32) dX4_give_40 (by decide) ?_
  refine lv_aload_n F.1 F.2.1 dX4_give_41 rfl (lv_at hl 0 rfl) ?_
  refine a_getr F inX4 hP 53 3 tc_53 rfl rfl (by decide) q489 (fun _ h9 => h9) dX4_give_42 ?_
  refine va_alen (v := (320 : Int32)) F.1 F.2.1 F.2.2.2.2 hP 82 0 (ac_at tc_82) rfl rfl dX4_give_45 ?_
  refine a_cpyi F (hml.trans hl.1.symm) q1341 q708 q707 q19 hP hD hS 82 26 tc_82 tc_26 rfl (by decide) (by decide) (by decide) (by simp only [ic_0, ic_320]; omega) (by simp only [ic_0, ic_320]; omega) (by decide) (by decide) dX4_give_46 (fun H locs hP hD hS => ?_)
  have hR := hR.cp (c0 := 82) (c1 := 26) (sp := (0 : Int32).toNatClampNeg) (dp := (0 : Int32).toNatClampNeg) (n := (320 : Int32).toNatClampNeg) (by decide +kernel)
  have hF := hF.cp (c0 := 82) (c1 := 26) (sp := (0 : Int32).toNatClampNeg) (dp := (0 : Int32).toNatClampNeg) (n := (320 : Int32).toNatClampNeg) (fun _ => rfl)
  have hK_N4 := sp_sgD sp_N4 hD hK_N4 (by decide)
  have hK_N55 := sp_sgD sp_N55 hD hK_N55 (by decide)
  refine lv_aload_n F.1 F.2.1 dX4_give_49 rfl (lv_at hl 2 rfl) ?_
  refine a_ic F (0 : Int32) dX4_give_50 (by decide) ?_
  refine a_puti F inX6 tyX6 tyX6_ok nmX6 hP hD hS 24 5 tc_24 rfl rfl (by decide) q283 (fun _ h9 => h9) rfl (ty := .int) (tyX6_ok 5 (by decide)) rfl rfl dX4_give_51 (fun H locs hP hD hS => ?_)
  have hR := hR.si (c := 24) (k := 5) (v := (0 : Int32)) (by rw [ic_0]; exact (by omega : (0 : Int) ≤ (0 : Int) ∧ (0 : Int) ≤ 8))
  have hF := hF.si (c := 24) (k := 5) (v := (0 : Int32)) rfl
  have hK_N55 := sp_sgD sp_N55 hD hK_N55 (by decide)
  have hK_N4 := sp_sgD sp_N4 hD hK_N4 (by decide)
  exact a_retv F hr hlocks hP hD hS dX4_give_54 ⟨hR, hF, hK_N4, hRR.symm.trans hC⟩

def f_X8_copyFrom_43_77 (u0 : ac_U) : ac_U := (cpI (cpI (cpI (pI (pI u0 43 3 (u0.1 77 3)) 43 4 (u0.1 77 4)) 78 44 (0 : Int32).toNatClampNeg (0 : Int32).toNatClampNeg (40 : Int32).toNatClampNeg) 79 45 (0 : Int32).toNatClampNeg (0 : Int32).toNatClampNeg (40 : Int32).toNatClampNeg) 80 46 (0 : Int32).toNatClampNeg (0 : Int32).toNatClampNeg (40 : Int32).toNatClampNeg)
set_option maxHeartbeats 600000 in
set_option maxRecDepth 100000 in
theorem x_X8_copyFrom_43_77 (l : Launch) (dC : Nat → ClassId) (dI : Nat → Nat → Nat) (ad : Nat → Nat) (cA : Nat → ClassId) (nF : Nat) (u0 : ac_U)  (hR : ac_R rg u0) : ac_Mv l yX8_copyFrom (.code yX8_copyFrom cX8_copyFrom 2 none :: TB) 1 (dC, dI) vwCl (ac_ty cA) ad cA (TT nF) [.ref (ad 43), .ref (ad 77)] u0 (fun (u : ac_U) => ac_R rg u ∧ ac_Fr [(43, some 3), (43, some 4), (44, none), (45, none), (46, none)] u0 u ∧ f_X8_copyFrom_43_77 u0 = u) := by
  refine ac_Mv.of (cc := cX8_copyFrom) (maxL := 2) (ret := none) (by decide) rfl (Nat.le_of_ble_eq_true rfl) ?_
  intro p e s m below meth c A ls F hml hr hlocks hA hP hD hS hl
  have F : ac_X p s m [.ref (ad 43), .ref (ad 77)].toArray c cX8_copyFrom RX8 TB (dC, dI) vwCl (ac_ty cA) := ⟨F.1, F.2.1, fun w h => F.2.2.1 w (List.mem_cons_of_mem _ h), F.2.2.2.1, F.2.2.2.2⟩
  have hl : lv_has ls 2 [(0, .ref (ad 43)), (1, .ref (ad 77))] := hl
  obtain ⟨RR, hRR⟩ : ∃ q, q = f_X8_copyFrom_43_77 u0 := ⟨_, rfl⟩
  have hF : ac_Fr [(43, some 3), (43, some 4), (44, none), (45, none), (46, none)] u0 u0 := ac_Fr.rf
  have hC : RR = f_X8_copyFrom_43_77 u0 := hRR
  unfold f_X8_copyFrom_43_77 at hC
  refine lv_aload_n F.1 F.2.1 dX8_copyFrom_0 rfl (lv_at hl 0 rfl) ?_
  refine lv_aload_n F.1 F.2.1 dX8_copyFrom_1 rfl (lv_at hl 1 rfl) ?_
  have g1 : (0 : Int) ≤ (u0.1 77 3).toInt ∧ (u0.1 77 3).toInt ≤ 40 := hR 77 3
  refine a_geti F inX8 hP 77 3 tc_77 rfl rfl (by decide) q443 (fun _ h9 => h9) (v := (u0.1 77 3)) rfl dX8_copyFrom_2 ?_
  refine a_puti F inX8 tyX8 tyX8_ok nmX8 hP hD hS 43 3 tc_43 rfl rfl (by decide) q443 (fun _ h9 => h9) rfl (ty := .int) (tyX8_ok 3 (by decide)) rfl rfl dX8_copyFrom_5 (fun H locs hP hD hS => ?_)
  have hR := hR.si (c := 43) (k := 3) (v := (u0.1 77 3)) (by omega : (0 : Int) ≤ (u0.1 77 3).toInt ∧ (u0.1 77 3).toInt ≤ 40)
  have hF := hF.si (c := 43) (k := 3) (v := (u0.1 77 3)) rfl
  refine lv_aload_n F.1 F.2.1 dX8_copyFrom_8 rfl (lv_at hl 0 rfl) ?_
  refine lv_aload_n F.1 F.2.1 dX8_copyFrom_9 rfl (lv_at hl 1 rfl) ?_
  have g2 : (0 : Int) ≤ (u0.1 77 4).toInt ∧ (u0.1 77 4).toInt ≤ 20 := hR 77 4
  refine a_geti F inX8 hP 77 4 tc_77 rfl rfl (by decide) q445 (fun _ h9 => h9) (v := (u0.1 77 4)) rfl dX8_copyFrom_10 ?_
  refine a_puti F inX8 tyX8 tyX8_ok nmX8 hP hD hS 43 4 tc_43 rfl rfl (by decide) q445 (fun _ h9 => h9) rfl (ty := .int) (tyX8_ok 4 (by decide)) rfl rfl dX8_copyFrom_13 (fun H locs hP hD hS => ?_)
  have hR := hR.si (c := 43) (k := 4) (v := (u0.1 77 4)) (by omega : (0 : Int) ≤ (u0.1 77 4).toInt ∧ (u0.1 77 4).toInt ≤ 20)
  have hF := hF.si (c := 43) (k := 4) (v := (u0.1 77 4)) rfl
  refine lv_aload_n F.1 F.2.1 dX8_copyFrom_16 rfl (lv_at hl 1 rfl) ?_
  refine a_getr F inX8 hP 77 0 tc_77 rfl rfl (by decide) q440 (fun _ h9 => h9) dX8_copyFrom_17 ?_
  refine a_ic F (0 : Int32) dX8_copyFrom_20 (by decide) ?_
  refine lv_aload_n F.1 F.2.1 dX8_copyFrom_21 rfl (lv_at hl 0 rfl) ?_
  refine a_getr F inX8 hP 43 0 tc_43 rfl rfl (by decide) q440 (fun _ h9 => h9) dX8_copyFrom_22 ?_
  refine a_ic F (0 : Int32) dX8_copyFrom_25 (by decide) ?_
  refine lv_aload_n F.1 F.2.1 dX8_copyFrom_26 rfl (lv_at hl 0 rfl) ?_
  refine a_getr F inX8 hP 43 0 tc_43 rfl rfl (by decide) q440 (fun _ h9 => h9) dX8_copyFrom_27 ?_
  refine va_alen (v := (40 : Int32)) F.1 F.2.1 F.2.2.2.2 hP 44 0 (ac_at tc_44) rfl rfl dX8_copyFrom_30 ?_
  refine a_cpyi F (hml.trans hl.1.symm) q1313 q708 q707 q19 hP hD hS 78 44 tc_78 tc_44 rfl (by decide) (by decide) (by decide) (by simp only [ic_0, ic_40]; omega) (by simp only [ic_0, ic_40]; omega) (by decide) (by decide) dX8_copyFrom_31 (fun H locs hP hD hS => ?_)
  have hR := hR.cp (c0 := 78) (c1 := 44) (sp := (0 : Int32).toNatClampNeg) (dp := (0 : Int32).toNatClampNeg) (n := (40 : Int32).toNatClampNeg) (by decide +kernel)
  have hF := hF.cp (c0 := 78) (c1 := 44) (sp := (0 : Int32).toNatClampNeg) (dp := (0 : Int32).toNatClampNeg) (n := (40 : Int32).toNatClampNeg) (fun _ => rfl)
  refine lv_aload_n F.1 F.2.1 dX8_copyFrom_34 rfl (lv_at hl 1 rfl) ?_
  refine a_getr F inX8 hP 77 1 tc_77 rfl rfl (by decide) q441 (fun _ h9 => h9) dX8_copyFrom_35 ?_
  refine a_ic F (0 : Int32) dX8_copyFrom_38 (by decide) ?_
  refine lv_aload_n F.1 F.2.1 dX8_copyFrom_39 rfl (lv_at hl 0 rfl) ?_
  refine a_getr F inX8 hP 43 1 tc_43 rfl rfl (by decide) q441 (fun _ h9 => h9) dX8_copyFrom_40 ?_
  refine a_ic F (0 : Int32) dX8_copyFrom_43 (by decide) ?_
  refine lv_aload_n F.1 F.2.1 dX8_copyFrom_44 rfl (lv_at hl 0 rfl) ?_
  refine a_getr F inX8 hP 43 1 tc_43 rfl rfl (by decide) q441 (fun _ h9 => h9) dX8_copyFrom_45 ?_
  refine va_alen (v := (40 : Int32)) F.1 F.2.1 F.2.2.2.2 hP 45 0 (ac_at tc_45) rfl rfl dX8_copyFrom_48 ?_
  refine a_cpyi F (hml.trans hl.1.symm) q1313 q708 q707 q19 hP hD hS 79 45 tc_79 tc_45 rfl (by decide) (by decide) (by decide) (by simp only [ic_0, ic_40]; omega) (by simp only [ic_0, ic_40]; omega) (by decide) (by decide) dX8_copyFrom_49 (fun H locs hP hD hS => ?_)
  have hR := hR.cp (c0 := 79) (c1 := 45) (sp := (0 : Int32).toNatClampNeg) (dp := (0 : Int32).toNatClampNeg) (n := (40 : Int32).toNatClampNeg) (by decide +kernel)
  have hF := hF.cp (c0 := 79) (c1 := 45) (sp := (0 : Int32).toNatClampNeg) (dp := (0 : Int32).toNatClampNeg) (n := (40 : Int32).toNatClampNeg) (fun _ => rfl)
  refine lv_aload_n F.1 F.2.1 dX8_copyFrom_52 rfl (lv_at hl 1 rfl) ?_
  refine a_getr F inX8 hP 77 2 tc_77 rfl rfl (by decide) q442 (fun _ h9 => h9) dX8_copyFrom_53 ?_
  refine a_ic F (0 : Int32) dX8_copyFrom_56 (by decide) ?_
  refine lv_aload_n F.1 F.2.1 dX8_copyFrom_57 rfl (lv_at hl 0 rfl) ?_
  refine a_getr F inX8 hP 43 2 tc_43 rfl rfl (by decide) q442 (fun _ h9 => h9) dX8_copyFrom_58 ?_
  refine a_ic F (0 : Int32) dX8_copyFrom_61 (by decide) ?_
  refine lv_aload_n F.1 F.2.1 dX8_copyFrom_62 rfl (lv_at hl 0 rfl) ?_
  refine a_getr F inX8 hP 43 2 tc_43 rfl rfl (by decide) q442 (fun _ h9 => h9) dX8_copyFrom_63 ?_
  refine va_alen (v := (40 : Int32)) F.1 F.2.1 F.2.2.2.2 hP 46 0 (ac_at tc_46) rfl rfl dX8_copyFrom_66 ?_
  refine a_cpyi F (hml.trans hl.1.symm) q1313 q708 q707 q19 hP hD hS 80 46 tc_80 tc_46 rfl (by decide) (by decide) (by decide) (by simp only [ic_0, ic_40]; omega) (by simp only [ic_0, ic_40]; omega) (by decide) (by decide) dX8_copyFrom_67 (fun H locs hP hD hS => ?_)
  have hR := hR.cp (c0 := 80) (c1 := 46) (sp := (0 : Int32).toNatClampNeg) (dp := (0 : Int32).toNatClampNeg) (n := (40 : Int32).toNatClampNeg) (by decide +kernel)
  have hF := hF.cp (c0 := 80) (c1 := 46) (sp := (0 : Int32).toNatClampNeg) (dp := (0 : Int32).toNatClampNeg) (n := (40 : Int32).toNatClampNeg) (fun _ => rfl)
  exact a_retv F hr hlocks hP hD hS dX8_copyFrom_70 ⟨hR, hF, hRR.symm.trans hC⟩

def f_X4_give_54_4_24_43 (u0 : ac_U) : ac_U := (vl (f_X2_copyFrom_4_64 u0) (fun (u1 : ac_U) => (vl (f_X8_copyFrom_43_77 u1) (fun (u2 : ac_U) => (pI (cpI (cpI u2 83 25 (0 : Int32).toNatClampNeg (0 : Int32).toNatClampNeg (31 : Int32).toNatClampNeg) 84 26 (0 : Int32).toNatClampNeg (0 : Int32).toNatClampNeg (320 : Int32).toNatClampNeg) 24 5 (0 : Int32))))))
set_option maxHeartbeats 600000 in
set_option maxRecDepth 100000 in
theorem x_X4_give_54_4_24_43 (l : Launch) (dC : Nat → ClassId) (dI : Nat → Nat → Nat) (ad : Nat → Nat) (cA : Nat → ClassId) (nF : Nat) (u0 : ac_U)  (hR : ac_R rg u0) (hK_N64 : nmI 71 72 u0) : ac_Mv l yX4_give (.code yX4_give cX4_give 4 none :: TB) 2 (dC, dI) vwCl (ac_ty cA) ad cA (TT nF) [.ref (ad 54), .ref (ad 4), .ref (ad 24), .ref (ad 43)] u0 (fun (u : ac_U) => ac_R rg u ∧ ac_Fr [(4, some 0), (4, some 1), (4, some 2), (4, some 3), (4, some 4), (4, some 5), (4, some 6), (4, some 7), (4, some 8), (5, none), (6, none), (7, none), (8, none), (9, none), (11, none), (12, none), (24, some 5), (25, none), (26, none), (43, some 3), (43, some 4), (44, none), (45, none), (46, none)] u0 u ∧ nmI 11 12 u ∧ f_X4_give_54_4_24_43 u0 = u) := by
  refine ac_Mv.of (cc := cX4_give) (maxL := 4) (ret := none) (by decide) rfl (Nat.le_of_ble_eq_true rfl) ?_
  intro p e s m below meth c A ls F hml hr hlocks hA hP hD hS hl
  have F : ac_X p s m [.ref (ad 54), .ref (ad 4), .ref (ad 24), .ref (ad 43)].toArray c cX4_give RX4 TB (dC, dI) vwCl (ac_ty cA) := ⟨F.1, F.2.1, fun w h => F.2.2.1 w (List.mem_cons_of_mem _ h), F.2.2.2.1, F.2.2.2.2⟩
  have hl : lv_has ls 4 [(0, .ref (ad 54)), (1, .ref (ad 4)), (2, .ref (ad 24)), (3, .ref (ad 43))] := hl
  obtain ⟨RR, hRR⟩ : ∃ q, q = f_X4_give_54_4_24_43 u0 := ⟨_, rfl⟩
  have hF : ac_Fr [(4, some 0), (4, some 1), (4, some 2), (4, some 3), (4, some 4), (4, some 5), (4, some 6), (4, some 7), (4, some 8), (5, none), (6, none), (7, none), (8, none), (9, none), (11, none), (12, none), (24, some 5), (25, none), (26, none), (43, some 3), (43, some 4), (44, none), (45, none), (46, none)] u0 u0 := ac_Fr.rf
  have hC : RR = f_X4_give_54_4_24_43 u0 := hRR
  unfold f_X4_give_54_4_24_43 at hC
  refine lv_aload_n F.1 F.2.1 dX4_give_0 rfl (lv_at hl 1 rfl) ?_
  refine lv_aload_n F.1 F.2.1 dX4_give_1 rfl (lv_at hl 0 rfl) ?_
  refine a_getr F inX4 hP 54 0 tc_54 rfl rfl (by decide) q486 (fun _ h9 => h9) dX4_give_2 ?_
  refine a_Vv F hml hl.1 hA hP hD hS (As := [.ref (ad 64)]) (x_X2_copyFrom_4_64 l dC dI ad cA nF _  hR hK_N64) (cs_RX4_36 (d := 1) F.2.2.1 (by decide)) tc_4 rfl rfl rfl rfl (Nat.le_of_ble_eq_true rfl) dX4_give_5 ⟨Nat.le_refl 0, Nat.le_refl 0⟩ (fun u1 H locs hq hP hD hS => ?_)
  obtain ⟨hR, hF1, hK_N4, hz1⟩ := hq
  have hF := hF.tr hF1 (by decide)
  have hK_N64 := sp_fr sp_N64 hF1 (by decide) hK_N64
  have hC := vl_eq hC hz1.symm
  refine lv_aload_n F.1 F.2.1 dX4_give_8 rfl (lv_at hl 3 rfl) ?_
  refine lv_aload_n F.1 F.2.1 dX4_give_9 rfl (lv_at hl 0 rfl) ?_
  refine a_getr F inX4 hP 54 1 tc_54 rfl rfl (by decide) q487 (fun _ h9 => h9) dX4_give_10 ?_
  refine a_Vv F hml hl.1 hA hP hD hS (As := [.ref (ad 77)]) (x_X8_copyFrom_43_77 l dC dI ad cA nF _  hR) (cs_RX4_40 (d := 1) F.2.2.1 (by decide)) tc_43 rfl rfl rfl rfl (Nat.le_of_ble_eq_true rfl) dX4_give_13 ⟨Nat.le_refl 0, Nat.le_refl 0⟩ (fun u2 H locs hq hP hD hS => ?_)
  obtain ⟨hR, hF2, hz2⟩ := hq
  have hF := hF.tr hF2 (by decide)
  have hK_N64 := sp_fr sp_N64 hF2 (by decide) hK_N64
  have hK_N4 := sp_fr sp_N4 hF2 (by decide) hK_N4
  have hC := vl_eq hC hz2.symm
  refine lv_aload_n F.1 F.2.1 dX4_give_16 rfl (lv_at hl 0 rfl) ?_
  refine a_getr F inX4 hP 54 2 tc_54 rfl rfl (by decide) q488 (fun _ h9 => h9) dX4_give_17 ?_
  refine a_ic F (0 : Int32) dX4_give_20 (by decide) ?_
  refine lv_aload_n F.1 F.2.1 dX4_give_21 rfl (lv_at hl 2 rfl) ?_
  refine a_getr F inX6 hP 24 1 tc_24 rfl rfl (by decide) q273 (fun _ h9 => h9) dX4_give_22 ?_
  refine a_ic F (0 : Int32) dX4_give_25 (by decide) ?_
  refine a_bp F (31 : Int32) dX4_give_26 (by decide) ?_
  refine a_cpyi F (hml.trans hl.1.symm) q1341 q708 q707 q19 hP hD hS 83 25 tc_83 tc_25 rfl (by decide) (by decide) (by decide) (by simp only [ic_0, ic_31]; omega) (by simp only [ic_0, ic_31]; omega) (by decide) (by decide) dX4_give_28 (fun H locs hP hD hS => ?_)
  have hR := hR.cp (c0 := 83) (c1 := 25) (sp := (0 : Int32).toNatClampNeg) (dp := (0 : Int32).toNatClampNeg) (n := (31 : Int32).toNatClampNeg) (by decide +kernel)
  have hF := hF.cp (c0 := 83) (c1 := 25) (sp := (0 : Int32).toNatClampNeg) (dp := (0 : Int32).toNatClampNeg) (n := (31 : Int32).toNatClampNeg) (fun _ => rfl)
  have hK_N4 := sp_sgD sp_N4 hD hK_N4 (by decide)
  have hK_N64 := sp_sgD sp_N64 hD hK_N64 (by decide)
  refine lv_aload_n F.1 F.2.1 dX4_give_31 rfl (lv_at hl 0 rfl) ?_
  refine a_getr F inX4 hP 54 3 tc_54 rfl rfl (by decide) q489 (fun _ h9 => h9) dX4_give_32 ?_
  refine a_ic F (0 : Int32) dX4_give_35 (by decide) ?_
  refine lv_aload_n F.1 F.2.1 dX4_give_36 rfl (lv_at hl 2 rfl) ?_
  refine a_getr F inX6 hP 24 2 tc_24 rfl rfl (by decide) q279 (fun _ h9 => h9) dX4_give_37 ?_
  refine a_ic F (0 : Int32) dX4_give_40 (by decide) ?_
  refine lv_aload_n F.1 F.2.1 dX4_give_41 rfl (lv_at hl 0 rfl) ?_
  refine a_getr F inX4 hP 54 3 tc_54 rfl rfl (by decide) q489 (fun _ h9 => h9) dX4_give_42 ?_
  refine va_alen (v := (320 : Int32)) F.1 F.2.1 F.2.2.2.2 hP 84 0 (ac_at tc_84) rfl rfl dX4_give_45 ?_
  refine a_cpyi F (hml.trans hl.1.symm) q1341 q708 q707 q19 hP hD hS 84 26 tc_84 tc_26 rfl (by decide) (by decide) (by decide) (by simp only [ic_0, ic_320]; omega) (by simp only [ic_0, ic_320]; omega) (by decide) (by decide) dX4_give_46 (fun H locs hP hD hS => ?_)
  have hR := hR.cp (c0 := 84) (c1 := 26) (sp := (0 : Int32).toNatClampNeg) (dp := (0 : Int32).toNatClampNeg) (n := (320 : Int32).toNatClampNeg) (by decide +kernel)
  have hF := hF.cp (c0 := 84) (c1 := 26) (sp := (0 : Int32).toNatClampNeg) (dp := (0 : Int32).toNatClampNeg) (n := (320 : Int32).toNatClampNeg) (fun _ => rfl)
  have hK_N4 := sp_sgD sp_N4 hD hK_N4 (by decide)
  have hK_N64 := sp_sgD sp_N64 hD hK_N64 (by decide)
  refine lv_aload_n F.1 F.2.1 dX4_give_49 rfl (lv_at hl 2 rfl) ?_
  refine a_ic F (0 : Int32) dX4_give_50 (by decide) ?_
  refine a_puti F inX6 tyX6 tyX6_ok nmX6 hP hD hS 24 5 tc_24 rfl rfl (by decide) q283 (fun _ h9 => h9) rfl (ty := .int) (tyX6_ok 5 (by decide)) rfl rfl dX4_give_51 (fun H locs hP hD hS => ?_)
  have hR := hR.si (c := 24) (k := 5) (v := (0 : Int32)) (by rw [ic_0]; exact (by omega : (0 : Int) ≤ (0 : Int) ∧ (0 : Int) ≤ 8))
  have hF := hF.si (c := 24) (k := 5) (v := (0 : Int32)) rfl
  have hK_N64 := sp_sgD sp_N64 hD hK_N64 (by decide)
  have hK_N4 := sp_sgD sp_N4 hD hK_N4 (by decide)
  exact a_retv F hr hlocks hP hD hS dX4_give_54 ⟨hR, hF, hK_N4, hRR.symm.trans hC⟩

def f_X8_copyFrom_73_43 (u0 : ac_U) : ac_U := (cpI (cpI (cpI (pI (pI u0 73 3 (u0.1 43 3)) 73 4 (u0.1 43 4)) 44 74 (0 : Int32).toNatClampNeg (0 : Int32).toNatClampNeg (40 : Int32).toNatClampNeg) 45 75 (0 : Int32).toNatClampNeg (0 : Int32).toNatClampNeg (40 : Int32).toNatClampNeg) 46 76 (0 : Int32).toNatClampNeg (0 : Int32).toNatClampNeg (40 : Int32).toNatClampNeg)
set_option maxHeartbeats 600000 in
set_option maxRecDepth 100000 in
theorem x_X8_copyFrom_73_43 (l : Launch) (dC : Nat → ClassId) (dI : Nat → Nat → Nat) (ad : Nat → Nat) (cA : Nat → ClassId) (nF : Nat) (u0 : ac_U)  (hR : ac_R rg u0) : ac_Mv l yX8_copyFrom (.code yX8_copyFrom cX8_copyFrom 2 none :: TB) 1 (dC, dI) vwCl (ac_ty cA) ad cA (TT nF) [.ref (ad 73), .ref (ad 43)] u0 (fun (u : ac_U) => ac_R rg u ∧ ac_Fr [(73, some 3), (73, some 4), (74, none), (75, none), (76, none)] u0 u ∧ f_X8_copyFrom_73_43 u0 = u) := by
  refine ac_Mv.of (cc := cX8_copyFrom) (maxL := 2) (ret := none) (by decide) rfl (Nat.le_of_ble_eq_true rfl) ?_
  intro p e s m below meth c A ls F hml hr hlocks hA hP hD hS hl
  have F : ac_X p s m [.ref (ad 73), .ref (ad 43)].toArray c cX8_copyFrom RX8 TB (dC, dI) vwCl (ac_ty cA) := ⟨F.1, F.2.1, fun w h => F.2.2.1 w (List.mem_cons_of_mem _ h), F.2.2.2.1, F.2.2.2.2⟩
  have hl : lv_has ls 2 [(0, .ref (ad 73)), (1, .ref (ad 43))] := hl
  obtain ⟨RR, hRR⟩ : ∃ q, q = f_X8_copyFrom_73_43 u0 := ⟨_, rfl⟩
  have hF : ac_Fr [(73, some 3), (73, some 4), (74, none), (75, none), (76, none)] u0 u0 := ac_Fr.rf
  have hC : RR = f_X8_copyFrom_73_43 u0 := hRR
  unfold f_X8_copyFrom_73_43 at hC
  refine lv_aload_n F.1 F.2.1 dX8_copyFrom_0 rfl (lv_at hl 0 rfl) ?_
  refine lv_aload_n F.1 F.2.1 dX8_copyFrom_1 rfl (lv_at hl 1 rfl) ?_
  have g1 : (0 : Int) ≤ (u0.1 43 3).toInt ∧ (u0.1 43 3).toInt ≤ 40 := hR 43 3
  refine a_geti F inX8 hP 43 3 tc_43 rfl rfl (by decide) q443 (fun _ h9 => h9) (v := (u0.1 43 3)) rfl dX8_copyFrom_2 ?_
  refine a_puti F inX8 tyX8 tyX8_ok nmX8 hP hD hS 73 3 tc_73 rfl rfl (by decide) q443 (fun _ h9 => h9) rfl (ty := .int) (tyX8_ok 3 (by decide)) rfl rfl dX8_copyFrom_5 (fun H locs hP hD hS => ?_)
  have hR := hR.si (c := 73) (k := 3) (v := (u0.1 43 3)) (by omega : (0 : Int) ≤ (u0.1 43 3).toInt ∧ (u0.1 43 3).toInt ≤ 40)
  have hF := hF.si (c := 73) (k := 3) (v := (u0.1 43 3)) rfl
  refine lv_aload_n F.1 F.2.1 dX8_copyFrom_8 rfl (lv_at hl 0 rfl) ?_
  refine lv_aload_n F.1 F.2.1 dX8_copyFrom_9 rfl (lv_at hl 1 rfl) ?_
  have g2 : (0 : Int) ≤ (u0.1 43 4).toInt ∧ (u0.1 43 4).toInt ≤ 20 := hR 43 4
  refine a_geti F inX8 hP 43 4 tc_43 rfl rfl (by decide) q445 (fun _ h9 => h9) (v := (u0.1 43 4)) rfl dX8_copyFrom_10 ?_
  refine a_puti F inX8 tyX8 tyX8_ok nmX8 hP hD hS 73 4 tc_73 rfl rfl (by decide) q445 (fun _ h9 => h9) rfl (ty := .int) (tyX8_ok 4 (by decide)) rfl rfl dX8_copyFrom_13 (fun H locs hP hD hS => ?_)
  have hR := hR.si (c := 73) (k := 4) (v := (u0.1 43 4)) (by omega : (0 : Int) ≤ (u0.1 43 4).toInt ∧ (u0.1 43 4).toInt ≤ 20)
  have hF := hF.si (c := 73) (k := 4) (v := (u0.1 43 4)) rfl
  refine lv_aload_n F.1 F.2.1 dX8_copyFrom_16 rfl (lv_at hl 1 rfl) ?_
  refine a_getr F inX8 hP 43 0 tc_43 rfl rfl (by decide) q440 (fun _ h9 => h9) dX8_copyFrom_17 ?_
  refine a_ic F (0 : Int32) dX8_copyFrom_20 (by decide) ?_
  refine lv_aload_n F.1 F.2.1 dX8_copyFrom_21 rfl (lv_at hl 0 rfl) ?_
  refine a_getr F inX8 hP 73 0 tc_73 rfl rfl (by decide) q440 (fun _ h9 => h9) dX8_copyFrom_22 ?_
  refine a_ic F (0 : Int32) dX8_copyFrom_25 (by decide) ?_
  refine lv_aload_n F.1 F.2.1 dX8_copyFrom_26 rfl (lv_at hl 0 rfl) ?_
  refine a_getr F inX8 hP 73 0 tc_73 rfl rfl (by decide) q440 (fun _ h9 => h9) dX8_copyFrom_27 ?_
  refine va_alen (v := (40 : Int32)) F.1 F.2.1 F.2.2.2.2 hP 74 0 (ac_at tc_74) rfl rfl dX8_copyFrom_30 ?_
  refine a_cpyi F (hml.trans hl.1.symm) q1313 q708 q707 q19 hP hD hS 44 74 tc_44 tc_74 rfl (by decide) (by decide) (by decide) (by simp only [ic_0, ic_40]; omega) (by simp only [ic_0, ic_40]; omega) (by decide) (by decide) dX8_copyFrom_31 (fun H locs hP hD hS => ?_)
  have hR := hR.cp (c0 := 44) (c1 := 74) (sp := (0 : Int32).toNatClampNeg) (dp := (0 : Int32).toNatClampNeg) (n := (40 : Int32).toNatClampNeg) (by decide +kernel)
  have hF := hF.cp (c0 := 44) (c1 := 74) (sp := (0 : Int32).toNatClampNeg) (dp := (0 : Int32).toNatClampNeg) (n := (40 : Int32).toNatClampNeg) (fun _ => rfl)
  refine lv_aload_n F.1 F.2.1 dX8_copyFrom_34 rfl (lv_at hl 1 rfl) ?_
  refine a_getr F inX8 hP 43 1 tc_43 rfl rfl (by decide) q441 (fun _ h9 => h9) dX8_copyFrom_35 ?_
  refine a_ic F (0 : Int32) dX8_copyFrom_38 (by decide) ?_
  refine lv_aload_n F.1 F.2.1 dX8_copyFrom_39 rfl (lv_at hl 0 rfl) ?_
  refine a_getr F inX8 hP 73 1 tc_73 rfl rfl (by decide) q441 (fun _ h9 => h9) dX8_copyFrom_40 ?_
  refine a_ic F (0 : Int32) dX8_copyFrom_43 (by decide) ?_
  refine lv_aload_n F.1 F.2.1 dX8_copyFrom_44 rfl (lv_at hl 0 rfl) ?_
  refine a_getr F inX8 hP 73 1 tc_73 rfl rfl (by decide) q441 (fun _ h9 => h9) dX8_copyFrom_45 ?_
  refine va_alen (v := (40 : Int32)) F.1 F.2.1 F.2.2.2.2 hP 75 0 (ac_at tc_75) rfl rfl dX8_copyFrom_48 ?_
  refine a_cpyi F (hml.trans hl.1.symm) q1313 q708 q707 q19 hP hD hS 45 75 tc_45 tc_75 rfl (by decide) (by decide) (by decide) (by simp only [ic_0, ic_40]; omega) (by simp only [ic_0, ic_40]; omega) (by decide) (by decide) dX8_copyFrom_49 (fun H locs hP hD hS => ?_)
  have hR := hR.cp (c0 := 45) (c1 := 75) (sp := (0 : Int32).toNatClampNeg) (dp := (0 : Int32).toNatClampNeg) (n := (40 : Int32).toNatClampNeg) (by decide +kernel)
  have hF := hF.cp (c0 := 45) (c1 := 75) (sp := (0 : Int32).toNatClampNeg) (dp := (0 : Int32).toNatClampNeg) (n := (40 : Int32).toNatClampNeg) (fun _ => rfl)
  refine lv_aload_n F.1 F.2.1 dX8_copyFrom_52 rfl (lv_at hl 1 rfl) ?_
  refine a_getr F inX8 hP 43 2 tc_43 rfl rfl (by decide) q442 (fun _ h9 => h9) dX8_copyFrom_53 ?_
  refine a_ic F (0 : Int32) dX8_copyFrom_56 (by decide) ?_
  refine lv_aload_n F.1 F.2.1 dX8_copyFrom_57 rfl (lv_at hl 0 rfl) ?_
  refine a_getr F inX8 hP 73 2 tc_73 rfl rfl (by decide) q442 (fun _ h9 => h9) dX8_copyFrom_58 ?_
  refine a_ic F (0 : Int32) dX8_copyFrom_61 (by decide) ?_
  refine lv_aload_n F.1 F.2.1 dX8_copyFrom_62 rfl (lv_at hl 0 rfl) ?_
  refine a_getr F inX8 hP 73 2 tc_73 rfl rfl (by decide) q442 (fun _ h9 => h9) dX8_copyFrom_63 ?_
  refine va_alen (v := (40 : Int32)) F.1 F.2.1 F.2.2.2.2 hP 76 0 (ac_at tc_76) rfl rfl dX8_copyFrom_66 ?_
  refine a_cpyi F (hml.trans hl.1.symm) q1313 q708 q707 q19 hP hD hS 46 76 tc_46 tc_76 rfl (by decide) (by decide) (by decide) (by simp only [ic_0, ic_40]; omega) (by simp only [ic_0, ic_40]; omega) (by decide) (by decide) dX8_copyFrom_67 (fun H locs hP hD hS => ?_)
  have hR := hR.cp (c0 := 46) (c1 := 76) (sp := (0 : Int32).toNatClampNeg) (dp := (0 : Int32).toNatClampNeg) (n := (40 : Int32).toNatClampNeg) (by decide +kernel)
  have hF := hF.cp (c0 := 46) (c1 := 76) (sp := (0 : Int32).toNatClampNeg) (dp := (0 : Int32).toNatClampNeg) (n := (40 : Int32).toNatClampNeg) (fun _ => rfl)
  exact a_retv F hr hlocks hP hD hS dX8_copyFrom_70 ⟨hR, hF, hRR.symm.trans hC⟩

def f_X4_take_53_4_24_43 (u0 : ac_U) : ac_U := (vl (f_X2_copyFrom_55_4 u0) (fun (u1 : ac_U) => (vl (f_X8_copyFrom_73_43 u1) (fun (u3 : ac_U) => (pI (cpI (cpI u3 25 81 (0 : Int32).toNatClampNeg (0 : Int32).toNatClampNeg (31 : Int32).toNatClampNeg) 26 82 (0 : Int32).toNatClampNeg (0 : Int32).toNatClampNeg (320 : Int32).toNatClampNeg) 53 4 (1 : Int32))))))
set_option maxHeartbeats 600000 in
set_option maxRecDepth 100000 in
theorem x_X4_take_53_4_24_43 (l : Launch) (dC : Nat → ClassId) (dI : Nat → Nat → Nat) (ad : Nat → Nat) (cA : Nat → ClassId) (nF : Nat) (u0 : ac_U)  (hR : ac_R rg u0) (hK_N4 : nmI 11 12 u0) : ac_Mv l yX4_take (.code yX4_take cX4_take 4 none :: TB) 2 (dC, dI) vwCl (ac_ty cA) ad cA (TT nF) [.ref (ad 53), .ref (ad 4), .ref (ad 24), .ref (ad 43)] u0 (fun (u : ac_U) => ac_R rg u ∧ ac_Fr [(53, some 4), (55, some 0), (55, some 1), (55, some 2), (55, some 3), (55, some 4), (55, some 5), (55, some 6), (55, some 7), (55, some 8), (56, none), (57, none), (58, none), (59, none), (60, none), (62, none), (63, none), (73, some 3), (73, some 4), (74, none), (75, none), (76, none), (81, none), (82, none)] u0 u ∧ ((u.1 53 4).toInt = 1) ∧ nmI 62 63 u ∧ f_X4_take_53_4_24_43 u0 = u) := by
  refine ac_Mv.of (cc := cX4_take) (maxL := 4) (ret := none) (by decide) rfl (Nat.le_of_ble_eq_true rfl) ?_
  intro p e s m below meth c A ls F hml hr hlocks hA hP hD hS hl
  have F : ac_X p s m [.ref (ad 53), .ref (ad 4), .ref (ad 24), .ref (ad 43)].toArray c cX4_take RX4 TB (dC, dI) vwCl (ac_ty cA) := ⟨F.1, F.2.1, fun w h => F.2.2.1 w (List.mem_cons_of_mem _ h), F.2.2.2.1, F.2.2.2.2⟩
  have hl : lv_has ls 4 [(0, .ref (ad 53)), (1, .ref (ad 4)), (2, .ref (ad 24)), (3, .ref (ad 43))] := hl
  obtain ⟨RR, hRR⟩ : ∃ q, q = f_X4_take_53_4_24_43 u0 := ⟨_, rfl⟩
  have hF : ac_Fr [(53, some 4), (55, some 0), (55, some 1), (55, some 2), (55, some 3), (55, some 4), (55, some 5), (55, some 6), (55, some 7), (55, some 8), (56, none), (57, none), (58, none), (59, none), (60, none), (62, none), (63, none), (73, some 3), (73, some 4), (74, none), (75, none), (76, none), (81, none), (82, none)] u0 u0 := ac_Fr.rf
  have hC : RR = f_X4_take_53_4_24_43 u0 := hRR
  unfold f_X4_take_53_4_24_43 at hC
  refine lv_aload_n F.1 F.2.1 dX4_take_0 rfl (lv_at hl 0 rfl) ?_
  refine a_getr F inX4 hP 53 0 tc_53 rfl rfl (by decide) q486 (fun _ h9 => h9) dX4_take_1 ?_
  refine lv_aload_n F.1 F.2.1 dX4_take_4 rfl (lv_at hl 1 rfl) ?_
  have g2 : (0 : Int) ≤ (u0.1 53 4).toInt ∧ (u0.1 53 4).toInt ≤ 1 := hR 53 4
  refine a_Vv F hml hl.1 hA hP hD hS (As := [.ref (ad 4)]) (x_X2_copyFrom_55_4 l dC dI ad cA nF _  hR hK_N4) (cs_RX4_36 (d := 1) F.2.2.1 (by decide)) tc_55 rfl rfl rfl rfl (Nat.le_of_ble_eq_true rfl) dX4_take_5 ⟨Nat.le_refl 0, Nat.le_refl 0⟩ (fun u1 H locs hq hP hD hS => ?_)
  obtain ⟨hR, hF1, hK_N55, hz1⟩ := hq
  have hF := hF.tr hF1 (by decide)
  have hK_N4 := sp_fr sp_N4 hF1 (by decide) hK_N4
  have hC := vl_eq hC hz1.symm
  refine lv_aload_n F.1 F.2.1 dX4_take_8 rfl (lv_at hl 0 rfl) ?_
  refine a_getr F inX4 hP 53 1 tc_53 rfl rfl (by decide) q487 (fun _ h9 => h9) dX4_take_9 ?_
  refine lv_aload_n F.1 F.2.1 dX4_take_12 rfl (lv_at hl 3 rfl) ?_
  refine a_Vv F hml hl.1 hA hP hD hS (As := [.ref (ad 43)]) (x_X8_copyFrom_73_43 l dC dI ad cA nF _  hR) (cs_RX4_40 (d := 1) F.2.2.1 (by decide)) tc_73 rfl rfl rfl rfl (Nat.le_of_ble_eq_true rfl) dX4_take_13 ⟨Nat.le_refl 0, Nat.le_refl 0⟩ (fun u3 H locs hq hP hD hS => ?_)
  obtain ⟨hR, hF3, hz3⟩ := hq
  have hF := hF.tr hF3 (by decide)
  have hK_N4 := sp_fr sp_N4 hF3 (by decide) hK_N4
  have hK_N55 := sp_fr sp_N55 hF3 (by decide) hK_N55
  have hC := vl_eq hC hz3.symm
  refine lv_aload_n F.1 F.2.1 dX4_take_16 rfl (lv_at hl 2 rfl) ?_
  refine a_getr F inX6 hP 24 1 tc_24 rfl rfl (by decide) q273 (fun _ h9 => h9) dX4_take_17 ?_
  refine a_ic F (0 : Int32) dX4_take_20 (by decide) ?_
  refine lv_aload_n F.1 F.2.1 dX4_take_21 rfl (lv_at hl 0 rfl) ?_
  refine a_getr F inX4 hP 53 2 tc_53 rfl rfl (by decide) q488 (fun _ h9 => h9) dX4_take_22 ?_
  refine a_ic F (0 : Int32) dX4_take_25 (by decide) ?_
  refine a_bp F (31 : Int32) dX4_take_26 (by decide) ?_
  refine a_cpyi F (hml.trans hl.1.symm) q1341 q708 q707 q19 hP hD hS 25 81 tc_25 tc_81 rfl (by decide) (by decide) (by decide) (by simp only [ic_0, ic_31]; omega) (by simp only [ic_0, ic_31]; omega) (by decide) (by decide) dX4_take_28 (fun H locs hP hD hS => ?_)
  have hR := hR.cp (c0 := 25) (c1 := 81) (sp := (0 : Int32).toNatClampNeg) (dp := (0 : Int32).toNatClampNeg) (n := (31 : Int32).toNatClampNeg) (by decide +kernel)
  have hF := hF.cp (c0 := 25) (c1 := 81) (sp := (0 : Int32).toNatClampNeg) (dp := (0 : Int32).toNatClampNeg) (n := (31 : Int32).toNatClampNeg) (fun _ => rfl)
  have hK_N4 := sp_sgD sp_N4 hD hK_N4 (by decide)
  have hK_N55 := sp_sgD sp_N55 hD hK_N55 (by decide)
  refine lv_aload_n F.1 F.2.1 dX4_take_31 rfl (lv_at hl 2 rfl) ?_
  refine a_getr F inX6 hP 24 2 tc_24 rfl rfl (by decide) q279 (fun _ h9 => h9) dX4_take_32 ?_
  refine a_ic F (0 : Int32) dX4_take_35 (by decide) ?_
  refine lv_aload_n F.1 F.2.1 dX4_take_36 rfl (lv_at hl 0 rfl) ?_
  refine a_getr F inX4 hP 53 3 tc_53 rfl rfl (by decide) q489 (fun _ h9 => h9) dX4_take_37 ?_
  refine a_ic F (0 : Int32) dX4_take_40 (by decide) ?_
  refine lv_aload_n F.1 F.2.1 dX4_take_41 rfl (lv_at hl 0 rfl) ?_
  refine a_getr F inX4 hP 53 3 tc_53 rfl rfl (by decide) q489 (fun _ h9 => h9) dX4_take_42 ?_
  refine va_alen (v := (320 : Int32)) F.1 F.2.1 F.2.2.2.2 hP 82 0 (ac_at tc_82) rfl rfl dX4_take_45 ?_
  refine a_cpyi F (hml.trans hl.1.symm) q1341 q708 q707 q19 hP hD hS 26 82 tc_26 tc_82 rfl (by decide) (by decide) (by decide) (by simp only [ic_0, ic_320]; omega) (by simp only [ic_0, ic_320]; omega) (by decide) (by decide) dX4_take_46 (fun H locs hP hD hS => ?_)
  have hR := hR.cp (c0 := 26) (c1 := 82) (sp := (0 : Int32).toNatClampNeg) (dp := (0 : Int32).toNatClampNeg) (n := (320 : Int32).toNatClampNeg) (by decide +kernel)
  have hF := hF.cp (c0 := 26) (c1 := 82) (sp := (0 : Int32).toNatClampNeg) (dp := (0 : Int32).toNatClampNeg) (n := (320 : Int32).toNatClampNeg) (fun _ => rfl)
  have hK_N4 := sp_sgD sp_N4 hD hK_N4 (by decide)
  have hK_N55 := sp_sgD sp_N55 hD hK_N55 (by decide)
  refine lv_aload_n F.1 F.2.1 dX4_take_49 rfl (lv_at hl 0 rfl) ?_
  refine a_ic F (1 : Int32) dX4_take_50 (by decide) ?_
  refine a_puti F inX4 tyX4 tyX4_ok nmX4 hP hD hS 53 4 tc_53 rfl rfl (by decide) q490 (fun _ h9 => h9) rfl (ty := .boolean) (tyX4_ok 4 (by decide)) (i_zn (Or.inr rfl)) (i_zf (Or.inr rfl)) dX4_take_51 (fun H locs hP hD hS => ?_)
  have hR := hR.si (c := 53) (k := 4) (v := (1 : Int32)) (by rw [ic_1]; exact (by omega : (0 : Int) ≤ (1 : Int) ∧ (1 : Int) ≤ 1))
  have hF := hF.si (c := 53) (k := 4) (v := (1 : Int32)) rfl
  have hK_N4 := sp_sgD sp_N4 hD hK_N4 (by decide)
  have hK_N55 := sp_sgD sp_N55 hD hK_N55 (by decide)
  exact a_retv F hr hlocks hP hD hS dX4_take_54 ⟨hR, hF, (by omega : (1 : Int) = 1), hK_N55, hRR.symm.trans hC⟩

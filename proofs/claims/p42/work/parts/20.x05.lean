def K_X3_readWay_22_88 (u0 : ac_U) (u : ac_U) : ac_U × Int32 := (bd (f_X10_fail_1 u (3 : Int32)) (fun (u1 : ac_U) (r1 : Int32) => (u1, r1)))
def f_X3_readWay_22 (u0 : ac_U) : ac_U × Int32 := (if (u0.1 13 2).toInt < (12 : Int) then (bd (f_X10_takeKnown_1_13 u0 (0 : Int32)) (fun (u4 : ac_U) (r4 : Int32) => (if r4.toInt ≠ 0 then (bd (f_X10_takeKnown_1_13 u4 (0 : Int32)) (fun (u7 : ac_U) (r7 : Int32) => (if r7.toInt ≠ 0 then (if (u4.1 1 9).toInt = (u7.1 1 9).toInt then (K_X3_readWay_22_88 u0 u7) else (vl (f_X2_isNear_13 u7 (u4.1 1 9) (u7.1 1 9)) (fun (r11 : Int32) => (if r11.toInt = 0 then (vl (f_X2_addWay_13 u7 (u4.1 1 9) (u7.1 1 9)) (fun (u13 : ac_U) => (bd (f_X10_takeSign_1 u13 (59 : Int32)) (fun (u14 : ac_U) (r14 : Int32) => (u14, r14))))) else (K_X3_readWay_22_88 u0 u7))))) else (u7, (0 : Int32))))) else (u4, (0 : Int32))))) else (bd (f_X10_fail_1 u0 (4 : Int32)) (fun (u15 : ac_U) (r15 : Int32) => (u15, r15))))
set_option maxHeartbeats 600000 in
set_option maxRecDepth 100000 in
theorem x_X3_readWay_22 (l : Launch) (dC : Nat → ClassId) (dI : Nat → Nat → Nat) (ad : Nat → Nat) (cA : Nat → ClassId) (nF : Nat) (u0 : ac_U)  (hR : ac_R rg u0) (hK_N13 : nmI 20 21 u0) : ac_Mi l yX3_readWay (.code yX3_readWay cX3_readWay 3 (some .boolean) :: TB) 5 (dC, dI) vwCl (ac_ty cA) ad cA (TT nF) [.ref (ad 22)] u0 (fun (r : Int32) (u : ac_U) => ac_R rg u ∧ ac_Fr [(1, some 4), (1, some 5), (1, some 6), (1, some 8), (1, some 9), (1, some 10), (1, some 11), (13, some 2), (14, none)] u0 u ∧ ((0 : Int) ≤ r.toInt ∧ r.toInt ≤ 1) ∧ nmI 20 21 u ∧ f_X3_readWay_22 u0 = (u, r)) := by
  refine ac_Mi.of (cc := cX3_readWay) (maxL := 3) (ret := (some .boolean)) (by decide) rfl (Nat.le_of_ble_eq_true rfl) ?_
  intro p e s m below meth c A ls F hml hr hlocks hA hP hD hS hl
  have F : ac_X p s m [.ref (ad 22)].toArray c cX3_readWay RX3 TB (dC, dI) vwCl (ac_ty cA) := ⟨F.1, F.2.1, fun w h => F.2.2.1 w (List.mem_cons_of_mem _ h), F.2.2.2.1, F.2.2.2.2⟩
  have hl : lv_has ls 3 [(0, .ref (ad 22))] := hl
  obtain ⟨RR, hRR⟩ : ∃ q, q = f_X3_readWay_22 u0 := ⟨_, rfl⟩
  have hF : ac_Fr [(1, some 4), (1, some 5), (1, some 6), (1, some 8), (1, some 9), (1, some 10), (1, some 11), (13, some 2), (14, none)] u0 u0 := ac_Fr.rf
  have L88 : ∀ (u : ac_U) (H : Heap) (locs : List Loc) (ls : Array Slot), ac_R rg u → ac_Fr [(1, some 4), (1, some 5), (1, some 6), (1, some 8), (1, some 9), (1, some 10), (1, some 11), (13, some 2), (14, none)] u0 u → nmI 20 21 u → (0 : Int) ≤ (u.1 13 2).toInt ∧ (u.1 13 2).toInt ≤ 11 → RR = (K_X3_readWay_22_88 u0 u) → va_P (dC, dI) vwCl (ac_w ad cA (TT nF) u) H → va_D A (ac_w ad cA (TT nF) u) → va_S A s.heap H locs → lv_has ls 3 [(0, .ref (ad 22))] → W p l e (ac_rm 5) s m [.ref (ad 22)].toArray below meth c H locs 0 0 (MQ below (va_Qi (fun (r : Int32) (u : ac_U) => ac_R rg u ∧ ac_Fr [(1, some 4), (1, some 5), (1, some 6), (1, some 8), (1, some 9), (1, some 10), (1, some 11), (13, some 2), (14, none)] u0 u ∧ ((0 : Int) ≤ r.toInt ∧ r.toInt ≤ 1) ∧ nmI 20 21 u ∧ f_X3_readWay_22 u0 = (u, r)) (ac_B (dC, dI) vwCl (ac_ty cA) ad cA (TT nF) A) A) [.ref (ad 22)].toArray s 0 0 A) (F0 m 88 ls []) := by
    intro u H locs ls hR hF hK_N13 f0 hC hP hD hS hl
    unfold K_X3_readWay_22_88 at hC
    refine lv_aload_n F.1 F.2.1 dX3_readWay_88 rfl (lv_at hl 0 rfl) ?_
    refine a_getr F inX3 hP 22 0 tc_22 rfl rfl (by decide) q244 (fun _ h9 => h9) dX3_readWay_89 ?_
    refine a_ic F (3 : Int32) dX3_readWay_92 (by decide) ?_
    refine a_Vi F hml hl.1 hA hP hD hS (As := [.int (3 : Int32)]) (x_X10_fail_1 l dC dI ad cA nF _ (3 : Int32) hR (by decide)) (cs_RX3_70 (d := 1) F.2.2.1 (by decide)) tc_1 rfl rfl rfl rfl (Nat.le_of_ble_eq_true rfl) dX3_readWay_93 ⟨Nat.le_refl 0, Nat.le_refl 0⟩ (fun r1 u1 H locs hq hP hD hS => ?_)
    obtain ⟨hR, hF1, gr1, hz1⟩ := hq
    have hF := hF.tr hF1 (by decide)
    have hK_N13 := sp_fr sp_N13 hF1 (by decide) hK_N13
    have hC := bd_eq hC hz1
    exact a_retz F hr hlocks hP hD hS dX3_readWay_96 (i_01 (by omega)) ⟨hR, hF, (by omega : (0 : Int) ≤ r1.toInt ∧ r1.toInt ≤ 1), hK_N13, hRR.symm.trans hC⟩
  have hC : RR = f_X3_readWay_22 u0 := hRR
  unfold f_X3_readWay_22 at hC
  refine lv_aload_n F.1 F.2.1 dX3_readWay_0 rfl (lv_at hl 0 rfl) ?_
  refine a_getr F inX3 hP 22 1 tc_22 rfl rfl (by decide) q245 (fun _ h9 => h9) dX3_readWay_1 ?_
  have g2 : (0 : Int) ≤ (u0.1 13 2).toInt ∧ (u0.1 13 2).toInt ≤ 12 := hR 13 2
  refine a_geti F inX2 hP 13 2 tc_13 rfl rfl (by decide) q163 (fun _ h9 => h9) (v := (u0.1 13 2)) rfl dX3_readWay_4 ?_
  refine a_bp F (12 : Int32) dX3_readWay_7 (by decide) ?_
  refine b_lt F 21 dX3_readWay_9 (by decide) rfl ic_12 (fun c3 => ?_) (fun c3 => ?_)
  · have hC := hC.trans (if_pos c3)
    refine lv_aload_n F.1 F.2.1 dX3_readWay_21 rfl (lv_at hl 0 rfl) ?_
    refine a_getr F inX3 hP 22 0 tc_22 rfl rfl (by decide) q244 (fun _ h9 => h9) dX3_readWay_22 ?_
    refine lv_aload_n F.1 F.2.1 dX3_readWay_25 rfl (lv_at hl 0 rfl) ?_
    refine a_getr F inX3 hP 22 1 tc_22 rfl rfl (by decide) q245 (fun _ h9 => h9) dX3_readWay_26 ?_
    refine a_ic F (0 : Int32) dX3_readWay_29 (by decide) ?_
    refine a_Vi F hml hl.1 hA hP hD hS (As := [.ref (ad 13), .int (0 : Int32)]) (x_X10_takeKnown_1_13 l dC dI ad cA nF _ (0 : Int32) hR (by decide) hK_N13) (cs_RX3_114 (d := 4) F.2.2.1 (by decide)) tc_1 rfl rfl rfl rfl (Nat.le_of_ble_eq_true rfl) dX3_readWay_30 ⟨Nat.le_refl 0, Nat.le_refl 0⟩ (fun r4 u4 H locs hq hP hD hS => ?_)
    obtain ⟨hR, hF4, gr4, xr4, hz4⟩ := hq
    have hF := hF.tr hF4 (by decide)
    have hK_N13 := sp_fr sp_N13 hF4 (by decide) hK_N13
    have g5 : (0 : Int) ≤ (u4.1 1 9).toInt ∧ (u4.1 1 9).toInt ≤ 7 := hR 1 9
    have xr4 : r4.toInt ≠ 0 → (0 : Int) = 1 → (u4.1 1 9).toInt ≤ 3 := xr4
    have hC := bd_eq hC hz4
    refine z_ne F 38 dX3_readWay_33 (by decide) rfl (fun c6 => ?_) (fun c6 => ?_)
    · have hC := hC.trans (if_pos c6)
      refine lv_aload_n F.1 F.2.1 dX3_readWay_38 rfl (lv_at hl 0 rfl) ?_
      refine a_getr F inX3 hP 22 0 tc_22 rfl rfl (by decide) q244 (fun _ h9 => h9) dX3_readWay_39 ?_
      refine a_geti F inX10 hP 1 9 tc_1 rfl rfl (by decide) q112 (fun _ h9 => h9) (v := (u4.1 1 9)) (rfl) dX3_readWay_42 ?_
      refine lv_istore_n (lv' := [(1, .int (u4.1 1 9)), (0, .ref (ad 22))]) F.1 F.2.1 dX3_readWay_45 rfl hl (by decide) rfl (fun ls hl => ?_)
      refine lv_aload_n F.1 F.2.1 dX3_readWay_46 rfl (lv_at hl 1 rfl) ?_
      refine a_getr F inX3 hP 22 0 tc_22 rfl rfl (by decide) q244 (fun _ h9 => h9) dX3_readWay_47 ?_
      refine lv_aload_n F.1 F.2.1 dX3_readWay_50 rfl (lv_at hl 1 rfl) ?_
      refine a_getr F inX3 hP 22 1 tc_22 rfl rfl (by decide) q245 (fun _ h9 => h9) dX3_readWay_51 ?_
      refine a_ic F (0 : Int32) dX3_readWay_54 (by decide) ?_
      refine a_Vi F hml hl.1 hA hP hD hS (As := [.ref (ad 13), .int (0 : Int32)]) (x_X10_takeKnown_1_13 l dC dI ad cA nF _ (0 : Int32) hR (by decide) hK_N13) (cs_RX3_114 (d := 4) F.2.2.1 (by decide)) tc_1 rfl rfl rfl rfl (Nat.le_of_ble_eq_true rfl) dX3_readWay_55 ⟨Nat.le_refl 0, Nat.le_refl 0⟩ (fun r7 u7 H locs hq hP hD hS => ?_)
      obtain ⟨hR, hF7, gr7, xr7, hz7⟩ := hq
      have hF := hF.tr hF7 (by decide)
      have hK_N13 := sp_fr sp_N13 hF7 (by decide) hK_N13
      have g8 : (0 : Int) ≤ (u7.1 1 9).toInt ∧ (u7.1 1 9).toInt ≤ 7 := hR 1 9
      have xr7 : r7.toInt ≠ 0 → (0 : Int) = 1 → (u7.1 1 9).toInt ≤ 3 := xr7
      have hC := bd_eq hC hz7
      refine z_ne F 63 dX3_readWay_58 (by decide) rfl (fun c9 => ?_) (fun c9 => ?_)
      · have hC := hC.trans (if_pos c9)
        refine lv_aload_n F.1 F.2.1 dX3_readWay_63 rfl (lv_at hl 1 rfl) ?_
        refine a_getr F inX3 hP 22 0 tc_22 rfl rfl (by decide) q244 (fun _ h9 => h9) dX3_readWay_64 ?_
        refine a_geti F inX10 hP 1 9 tc_1 rfl rfl (by decide) q112 (fun _ h9 => h9) (v := (u7.1 1 9)) (rfl) dX3_readWay_67 ?_
        refine lv_istore_n (lv' := [(2, .int (u7.1 1 9)), (1, .int (u4.1 1 9)), (0, .ref (ad 22))]) F.1 F.2.1 dX3_readWay_70 rfl hl (by decide) rfl (fun ls hl => ?_)
        refine lv_iload_n F.1 F.2.1 dX3_readWay_71 rfl (lv_at hl 1 rfl) ?_
        refine lv_iload_n F.1 F.2.1 dX3_readWay_72 rfl (lv_at hl 0 rfl) ?_
        refine b_eq F 88 dX3_readWay_73 (by decide) rfl rfl (fun c10 => ?_) (fun c10 => ?_)
        · have hC := hC.trans (if_pos c10)
          exact L88 _ _ _ _ hR hF hK_N13 (i_trB ((hF7 13 2 rfl).trans (hF4 13 2 rfl)) (by omega : (0 : Int) ≤ (u0.1 13 2).toInt ∧ (u0.1 13 2).toInt ≤ 11)) hC hP hD hS (lv_sub hl [2] rfl)
        · have hC := hC.trans (if_neg (by omega))
          refine lv_aload_n F.1 F.2.1 dX3_readWay_76 rfl (lv_at hl 2 rfl) ?_
          refine a_getr F inX3 hP 22 1 tc_22 rfl rfl (by decide) q245 (fun _ h9 => h9) dX3_readWay_77 ?_
          refine lv_iload_n F.1 F.2.1 dX3_readWay_80 rfl (lv_at hl 1 rfl) ?_
          refine lv_iload_n F.1 F.2.1 dX3_readWay_81 rfl (lv_at hl 0 rfl) ?_
          refine a_Vi F hml hl.1 hA hP hD hS (As := [.int (u4.1 1 9), .int (u7.1 1 9)]) (x_X2_isNear_13 l dC dI ad cA nF _ (u4.1 1 9) (u7.1 1 9) hR (by omega)) (cs_RX3_121 (d := 1) F.2.2.1 (by decide)) tc_13 rfl rfl rfl rfl (Nat.le_of_ble_eq_true rfl) dX3_readWay_82 ⟨Nat.le_refl 0, Nat.le_refl 0⟩ (fun r11 uN11 H locs hq hP hD hS => ?_)
          obtain ⟨hu11, gr11, hz11⟩ := hq
          rw [hu11] at hP hD
          have hC := vl_eq hC hz11.symm
          refine z_eq F 97 dX3_readWay_85 (by decide) rfl (fun c12 => ?_) (fun c12 => ?_)
          · have hC := hC.trans (if_pos c12)
            refine lv_aload_n F.1 F.2.1 dX3_readWay_97 rfl (lv_at hl 2 rfl) ?_
            refine a_getr F inX3 hP 22 1 tc_22 rfl rfl (by decide) q245 (fun _ h9 => h9) dX3_readWay_98 ?_
            refine lv_iload_n F.1 F.2.1 dX3_readWay_101 rfl (lv_at hl 1 rfl) ?_
            refine lv_iload_n F.1 F.2.1 dX3_readWay_102 rfl (lv_at hl 0 rfl) ?_
            refine a_Vv F hml hl.1 hA hP hD hS (As := [.int (u4.1 1 9), .int (u7.1 1 9)]) (x_X2_addWay_13 l dC dI ad cA nF _ (u4.1 1 9) (u7.1 1 9) hR (by omega) (by omega) (i_trB ((hF7 13 2 rfl).trans (hF4 13 2 rfl)) (by omega : (0 : Int) ≤ (u0.1 13 2).toInt ∧ (u0.1 13 2).toInt ≤ 11))) (cs_RX3_124 (d := 1) F.2.2.1 (by decide)) tc_13 rfl rfl rfl rfl (Nat.le_of_ble_eq_true rfl) dX3_readWay_103 ⟨Nat.le_refl 0, Nat.le_refl 0⟩ (fun u13 H locs hq hP hD hS => ?_)
            obtain ⟨hR, hF13, hz13⟩ := hq
            have hF := hF.tr hF13 (by decide)
            have hK_N13 := sp_fr sp_N13 hF13 (by decide) hK_N13
            have hC := vl_eq hC hz13.symm
            refine lv_aload_n F.1 F.2.1 dX3_readWay_106 rfl (lv_at hl 2 rfl) ?_
            refine a_getr F inX3 hP 22 0 tc_22 rfl rfl (by decide) q244 (fun _ h9 => h9) dX3_readWay_107 ?_
            refine a_bp F (59 : Int32) dX3_readWay_110 (by decide) ?_
            refine a_Vi F hml hl.1 hA hP hD hS (As := [.int (59 : Int32)]) (x_X10_takeSign_1 l dC dI ad cA nF _ (59 : Int32) hR (by decide)) (cs_RX3_87 (d := 4) F.2.2.1 (by decide)) tc_1 rfl rfl rfl rfl (Nat.le_of_ble_eq_true rfl) dX3_readWay_112 ⟨Nat.le_refl 0, Nat.le_refl 0⟩ (fun r14 u14 H locs hq hP hD hS => ?_)
            obtain ⟨hR, hF14, gr14, hz14⟩ := hq
            have hF := hF.tr hF14 (by decide)
            have hK_N13 := sp_fr sp_N13 hF14 (by decide) hK_N13
            have hC := bd_eq hC hz14
            exact a_retz F hr hlocks hP hD hS dX3_readWay_115 (i_01 (by omega)) ⟨hR, hF, (by omega : (0 : Int) ≤ r14.toInt ∧ r14.toInt ≤ 1), hK_N13, hRR.symm.trans hC⟩
          · have hC := hC.trans (if_neg (by omega))
            exact L88 _ _ _ _ hR hF hK_N13 (i_trB ((hF7 13 2 rfl).trans (hF4 13 2 rfl)) (by omega : (0 : Int) ≤ (u0.1 13 2).toInt ∧ (u0.1 13 2).toInt ≤ 11)) hC hP hD hS (lv_sub hl [2] rfl)
      · have hC := hC.trans (if_neg (by omega))
        refine a_ic F (0 : Int32) dX3_readWay_61 (by decide) ?_
        exact a_retz F hr hlocks hP hD hS dX3_readWay_62 (Or.inl rfl) ⟨hR, hF, (by decide), hK_N13, hRR.symm.trans hC⟩
    · have hC := hC.trans (if_neg (by omega))
      refine a_ic F (0 : Int32) dX3_readWay_36 (by decide) ?_
      exact a_retz F hr hlocks hP hD hS dX3_readWay_37 (Or.inl rfl) ⟨hR, hF, (by decide), hK_N13, hRR.symm.trans hC⟩
  · have hC := hC.trans (if_neg (by omega))
    refine lv_aload_n F.1 F.2.1 dX3_readWay_12 rfl (lv_at hl 0 rfl) ?_
    refine a_getr F inX3 hP 22 0 tc_22 rfl rfl (by decide) q244 (fun _ h9 => h9) dX3_readWay_13 ?_
    refine a_ic F (4 : Int32) dX3_readWay_16 (by decide) ?_
    refine a_Vi F hml hl.1 hA hP hD hS (As := [.int (4 : Int32)]) (x_X10_fail_1 l dC dI ad cA nF _ (4 : Int32) hR (by decide)) (cs_RX3_70 (d := 1) F.2.2.1 (by decide)) tc_1 rfl rfl rfl rfl (Nat.le_of_ble_eq_true rfl) dX3_readWay_17 ⟨Nat.le_refl 0, Nat.le_refl 0⟩ (fun r15 u15 H locs hq hP hD hS => ?_)
    obtain ⟨hR, hF15, gr15, hz15⟩ := hq
    have hF := hF.tr hF15 (by decide)
    have hK_N13 := sp_fr sp_N13 hF15 (by decide) hK_N13
    have hC := bd_eq hC hz15
    exact a_retz F hr hlocks hP hD hS dX3_readWay_20 (i_01 (by omega)) ⟨hR, hF, (by omega : (0 : Int) ≤ r15.toInt ∧ r15.toInt ≤ 1), hK_N13, hRR.symm.trans hC⟩
def K_X3_readWhole_22_209 (u0 : ac_U) (u : ac_U) (x1 : Int32) : ac_U × Int32 := (u, x1)
def K_X3_readWhole_22_189 (B29 : ac_U → Int32 → ac_U × Int32) (u0 : ac_U) (u : ac_U) (x1 : Int32) : ac_U × Int32 := (vl (f_X10_readNext_1 u) (fun (u1 : ac_U) => (vl ((u.1 22 3) + (1 : Int32)) (fun (v2 : Int32) => (B29 (pI u1 22 3 v2) x1)))))
def K_X3_readWhole_22_29_b (B29 : ac_U → Int32 → ac_U × Int32) (u0 : ac_U) (u : ac_U) (x1 : Int32) : ac_U × Int32 := (if (940 : Int) ≤ (u.1 22 3).toInt then (K_X3_readWhole_22_209 u0 u x1) else (if x1.toInt = 0 then (K_X3_readWhole_22_209 u0 u x1) else (if (u.1 1 6).toInt = 0 then (K_X3_readWhole_22_209 u0 u x1) else (if (u.1 1 6).toInt < 100 ∨ 109 < (u.1 1 6).toInt then (bd (f_X10_fail_1 u (1 : Int32)) (fun (u9 : ac_U) (r9 : Int32) => (K_X3_readWhole_22_189 B29 u0 u9 r9))) else (if (u.1 1 6).toInt = 100 then (bd (f_X3_readHours_22 u) (fun (u10 : ac_U) (r10 : Int32) => (K_X3_readWhole_22_189 B29 u0 u10 r10))) else (if (u.1 1 6).toInt = 101 then (bd (f_X3_readPlace_22 u) (fun (u11 : ac_U) (r11 : Int32) => (K_X3_readWhole_22_189 B29 u0 u11 r11))) else (if (u.1 1 6).toInt = 102 then (bd (f_X3_readWay_22 u) (fun (u12 : ac_U) (r12 : Int32) => (K_X3_readWhole_22_189 B29 u0 u12 r12))) else (if (u.1 1 6).toInt = 103 then (bd (f_X3_readFrog_22 u) (fun (u13 : ac_U) (r13 : Int32) => (K_X3_readWhole_22_189 B29 u0 u13 r13))) else (if (u.1 1 6).toInt = 104 then (bd (f_X3_readPerson_22 u) (fun (u14 : ac_U) (r14 : Int32) => (K_X3_readWhole_22_189 B29 u0 u14 r14))) else (if (u.1 1 6).toInt = 105 then (bd (f_X3_readDeed_22 u) (fun (u15 : ac_U) (r15 : Int32) => (K_X3_readWhole_22_189 B29 u0 u15 r15))) else (if (u.1 1 6).toInt = 106 then (bd (f_X3_readPromise_22 u) (fun (u16 : ac_U) (r16 : Int32) => (K_X3_readWhole_22_189 B29 u0 u16 r16))) else (if (u.1 1 6).toInt = 107 then (bd (f_X10_fail_1 u (1 : Int32)) (fun (u17 : ac_U) (r17 : Int32) => (K_X3_readWhole_22_189 B29 u0 u17 r17))) else (if (u.1 1 6).toInt = 108 then (bd (f_X10_fail_1 u (1 : Int32)) (fun (u18 : ac_U) (r18 : Int32) => (K_X3_readWhole_22_189 B29 u0 u18 r18))) else (bd (f_X3_readVow_22 u) (fun (u19 : ac_U) (r19 : Int32) => (K_X3_readWhole_22_189 B29 u0 u19 r19))))))))))))))))
def K_X3_readWhole_22_29 (u0 : ac_U) : Nat → ac_U → Int32 → ac_U × Int32
  | 0 => fun u x1 => (u, 0)
  | n + 1 => fun u x1 => K_X3_readWhole_22_29_b (K_X3_readWhole_22_29 u0 n) u0 u x1
def f_X3_readWhole_22 (u0 : ac_U) : ac_U × Int32 := (vl (f_X2_clear_13 u0) (fun (u20 : ac_U) => (vl (f_X10_startReading_1 (pI u20 22 4 (0 : Int32)) (900 : Int32)) (fun (u21 : ac_U) => (K_X3_readWhole_22_29 u0 943 (pI u21 22 3 (0 : Int32)) (1 : Int32))))))
set_option maxHeartbeats 600000 in
set_option maxRecDepth 100000 in
theorem x_X3_readWhole_22 (l : Launch) (dC : Nat → ClassId) (dI : Nat → Nat → Nat) (ad : Nat → Nat) (cA : Nat → ClassId) (nF : Nat) (u0 : ac_U)  (hR : ac_R rg u0) (hK_N13 : nmI 20 21 u0) : ac_Mi l yX3_readWhole (.code yX3_readWhole cX3_readWhole 2 (some .boolean) :: TB) 7 (dC, dI) vwCl (ac_ty cA) ad cA (TT nF) [.ref (ad 22)] u0 (fun (r : Int32) (u : ac_U) => ac_R rg u ∧ ac_Fr [(1, some 3), (1, some 4), (1, some 5), (1, some 6), (1, some 8), (1, some 9), (1, some 10), (1, some 11), (13, some 0), (13, some 1), (13, some 2), (13, some 3), (13, some 4), (13, some 5), (13, some 6), (13, some 7), (13, some 8), (14, none), (15, none), (16, none), (17, none), (18, none), (20, none), (21, none), (22, some 3), (22, some 4), (23, none)] u0 u ∧ ((0 : Int) ≤ r.toInt ∧ r.toInt ≤ 1) ∧ nmI 20 21 u ∧ f_X3_readWhole_22 u0 = (u, r)) := by
  refine ac_Mi.of (cc := cX3_readWhole) (maxL := 2) (ret := (some .boolean)) (by decide) rfl (Nat.le_of_ble_eq_true rfl) ?_
  intro p e s m below meth c A ls F hml hr hlocks hA hP hD hS hl
  have F : ac_X p s m [.ref (ad 22)].toArray c cX3_readWhole RX3 TB (dC, dI) vwCl (ac_ty cA) := ⟨F.1, F.2.1, fun w h => F.2.2.1 w (List.mem_cons_of_mem _ h), F.2.2.2.1, F.2.2.2.2⟩
  have hl : lv_has ls 2 [(0, .ref (ad 22))] := hl
  obtain ⟨RR, hRR⟩ : ∃ q, q = f_X3_readWhole_22 u0 := ⟨_, rfl⟩
  have hF : ac_Fr [(1, some 3), (1, some 4), (1, some 5), (1, some 6), (1, some 8), (1, some 9), (1, some 10), (1, some 11), (13, some 0), (13, some 1), (13, some 2), (13, some 3), (13, some 4), (13, some 5), (13, some 6), (13, some 7), (13, some 8), (14, none), (15, none), (16, none), (17, none), (18, none), (20, none), (21, none), (22, some 3), (22, some 4), (23, none)] u0 u0 := ac_Fr.rf
  have L209 : ∀ (x1 : Int32) (u : ac_U) (H : Heap) (locs : List Loc) (ls : Array Slot), ac_R rg u → ac_Fr [(1, some 3), (1, some 4), (1, some 5), (1, some 6), (1, some 8), (1, some 9), (1, some 10), (1, some 11), (13, some 0), (13, some 1), (13, some 2), (13, some 3), (13, some 4), (13, some 5), (13, some 6), (13, some 7), (13, some 8), (14, none), (15, none), (16, none), (17, none), (18, none), (20, none), (21, none), (22, some 3), (22, some 4), (23, none)] u0 u → nmI 20 21 u → (0 : Int) ≤ x1.toInt ∧ x1.toInt ≤ 1 → (0 : Int) ≤ (u.1 22 3).toInt ∧ (u.1 22 3).toInt ≤ 940 → RR = (K_X3_readWhole_22_209 u0 u x1) → va_P (dC, dI) vwCl (ac_w ad cA (TT nF) u) H → va_D A (ac_w ad cA (TT nF) u) → va_S A s.heap H locs → lv_has ls 2 [(1, .int x1)] → W p l e (ac_rm 7) s m [.ref (ad 22)].toArray below meth c H locs 0 0 (MQ below (va_Qi (fun (r : Int32) (u : ac_U) => ac_R rg u ∧ ac_Fr [(1, some 3), (1, some 4), (1, some 5), (1, some 6), (1, some 8), (1, some 9), (1, some 10), (1, some 11), (13, some 0), (13, some 1), (13, some 2), (13, some 3), (13, some 4), (13, some 5), (13, some 6), (13, some 7), (13, some 8), (14, none), (15, none), (16, none), (17, none), (18, none), (20, none), (21, none), (22, some 3), (22, some 4), (23, none)] u0 u ∧ ((0 : Int) ≤ r.toInt ∧ r.toInt ≤ 1) ∧ nmI 20 21 u ∧ f_X3_readWhole_22 u0 = (u, r)) (ac_B (dC, dI) vwCl (ac_ty cA) ad cA (TT nF) A) A) [.ref (ad 22)].toArray s 0 0 A) (F0 m 209 ls []) := by
    intro x1 u H locs ls hR hF hK_N13 f0 f1 hC hP hD hS hl
    unfold K_X3_readWhole_22_209 at hC
    refine lv_iload_n F.1 F.2.1 dX3_readWhole_209 rfl (lv_at hl 0 rfl) ?_
    exact a_retz F hr hlocks hP hD hS dX3_readWhole_210 (i_01 (by omega)) ⟨hR, hF, (by omega : (0 : Int) ≤ x1.toInt ∧ x1.toInt ≤ 1), hK_N13, hRR.symm.trans hC⟩
  have L29 : ∀ (n29 : Nat) (x1 : Int32) (u : ac_U) (H : Heap) (locs : List Loc) (ls : Array Slot), ac_R rg u → ac_Fr [(1, some 3), (1, some 4), (1, some 5), (1, some 6), (1, some 8), (1, some 9), (1, some 10), (1, some 11), (13, some 0), (13, some 1), (13, some 2), (13, some 3), (13, some 4), (13, some 5), (13, some 6), (13, some 7), (13, some 8), (14, none), (15, none), (16, none), (17, none), (18, none), (20, none), (21, none), (22, some 3), (22, some 4), (23, none)] u0 u → 941 - (u.1 22 3).toInt < (n29 : Int) → nmI 20 21 u → (0 : Int) ≤ x1.toInt ∧ x1.toInt ≤ 1 → (0 : Int) ≤ (u.1 22 3).toInt ∧ (u.1 22 3).toInt ≤ 940 → RR = (K_X3_readWhole_22_29 u0 n29 u x1) → va_P (dC, dI) vwCl (ac_w ad cA (TT nF) u) H → va_D A (ac_w ad cA (TT nF) u) → va_S A s.heap H locs → lv_has ls 2 [(0, .ref (ad 22)), (1, .int x1)] → W p l e (ac_rm 7) s m [.ref (ad 22)].toArray below meth c H locs 0 0 (MQ below (va_Qi (fun (r : Int32) (u : ac_U) => ac_R rg u ∧ ac_Fr [(1, some 3), (1, some 4), (1, some 5), (1, some 6), (1, some 8), (1, some 9), (1, some 10), (1, some 11), (13, some 0), (13, some 1), (13, some 2), (13, some 3), (13, some 4), (13, some 5), (13, some 6), (13, some 7), (13, some 8), (14, none), (15, none), (16, none), (17, none), (18, none), (20, none), (21, none), (22, some 3), (22, some 4), (23, none)] u0 u ∧ ((0 : Int) ≤ r.toInt ∧ r.toInt ≤ 1) ∧ nmI 20 21 u ∧ f_X3_readWhole_22 u0 = (u, r)) (ac_B (dC, dI) vwCl (ac_ty cA) ad cA (TT nF) A) A) [.ref (ad 22)].toArray s 0 0 A) (F0 m 29 ls []) := by
    intro n29
    induction n29 with
    | zero => intro x1 u H locs ls hR hF hn29 hK_N13 f0 f1 hC hP hD hS hl; have gz0 : (0 : Int) ≤ (u.1 22 3).toInt ∧ (u.1 22 3).toInt ≤ 940 := hR 22 3; exfalso; omega
    | succ n29 ih29 =>
      intro x1 u H locs ls hR hF hn29 hK_N13 f0 f1 hC hP hD hS hl
      have hC : RR = K_X3_readWhole_22_29_b (K_X3_readWhole_22_29 u0 n29) u0 u x1 := hC
      have L189 : ∀ (x1 : Int32) (u : ac_U) (H : Heap) (locs : List Loc) (ls : Array Slot), ac_R rg u → ac_Fr [(1, some 3), (1, some 4), (1, some 5), (1, some 6), (1, some 8), (1, some 9), (1, some 10), (1, some 11), (13, some 0), (13, some 1), (13, some 2), (13, some 3), (13, some 4), (13, some 5), (13, some 6), (13, some 7), (13, some 8), (14, none), (15, none), (16, none), (17, none), (18, none), (20, none), (21, none), (22, some 3), (22, some 4), (23, none)] u0 u → nmI 20 21 u → (0 : Int) ≤ x1.toInt ∧ x1.toInt ≤ 1 → (0 : Int) ≤ (u.1 22 3).toInt ∧ (u.1 22 3).toInt ≤ 939 → 941 - (u.1 22 3).toInt < ((n29 : Nat) : Int) + 1 → RR = (K_X3_readWhole_22_189 (K_X3_readWhole_22_29 u0 n29) u0 u x1) → va_P (dC, dI) vwCl (ac_w ad cA (TT nF) u) H → va_D A (ac_w ad cA (TT nF) u) → va_S A s.heap H locs → lv_has ls 2 [(0, .ref (ad 22)), (1, .int x1)] → W p l e (ac_rm 7) s m [.ref (ad 22)].toArray below meth c H locs 0 0 (MQ below (va_Qi (fun (r : Int32) (u : ac_U) => ac_R rg u ∧ ac_Fr [(1, some 3), (1, some 4), (1, some 5), (1, some 6), (1, some 8), (1, some 9), (1, some 10), (1, some 11), (13, some 0), (13, some 1), (13, some 2), (13, some 3), (13, some 4), (13, some 5), (13, some 6), (13, some 7), (13, some 8), (14, none), (15, none), (16, none), (17, none), (18, none), (20, none), (21, none), (22, some 3), (22, some 4), (23, none)] u0 u ∧ ((0 : Int) ≤ r.toInt ∧ r.toInt ≤ 1) ∧ nmI 20 21 u ∧ f_X3_readWhole_22 u0 = (u, r)) (ac_B (dC, dI) vwCl (ac_ty cA) ad cA (TT nF) A) A) [.ref (ad 22)].toArray s 0 0 A) (F0 m 189 ls []) := by
        intro x1 u H locs ls hR hF hK_N13 f0 f1 f2 hC hP hD hS hl
        unfold K_X3_readWhole_22_189 at hC
        refine lv_aload_n F.1 F.2.1 dX3_readWhole_189 rfl (lv_at hl 0 rfl) ?_
        refine a_getr F inX3 hP 22 0 tc_22 rfl rfl (by decide) q244 (fun _ h9 => h9) dX3_readWhole_190 ?_
        refine a_Vv F hml hl.1 hA hP hD hS (As := []) (x_X10_readNext_1 l dC dI ad cA nF _  hR) (cs_RX3_74 (d := 3) F.2.2.1 (by decide)) tc_1 rfl rfl rfl rfl (Nat.le_of_ble_eq_true rfl) dX3_readWhole_193 ⟨Nat.le_refl 0, Nat.le_refl 0⟩ (fun u1 H locs hq hP hD hS => ?_)
        obtain ⟨hR, hF1, hz1⟩ := hq
        have hF := hF.tr hF1 (by decide)
        have hK_N13 := sp_fr sp_N13 hF1 (by decide) hK_N13
        have hC := vl_eq hC hz1.symm
        refine lv_aload_n F.1 F.2.1 dX3_readWhole_196 rfl (lv_at hl 0 rfl) ?_
        refine lv_dup F.1 F.2.1 dX3_readWhole_197 rfl ?_
        refine a_geti F inX3 hP 22 3 tc_22 rfl rfl (by decide) q247 (fun _ h9 => h9) (v := (u.1 22 3)) (hF1 22 3 rfl) dX3_readWhole_198 ?_
        refine a_ic F (1 : Int32) dX3_readWhole_201 (by decide) ?_
        refine a_iaddX F dX3_readWhole_202 rfl ic_1 (by omega) (fun v2 hv2 yv2 => ?_)
        have hC := vl_eq hC yv2
        refine a_puti F inX3 tyX3 tyX3_ok nmX3 hP hD hS 22 3 tc_22 rfl rfl (by decide) q247 (fun _ h9 => h9) rfl (ty := .int) (tyX3_ok 3 (by decide)) rfl rfl dX3_readWhole_203 (fun H locs hP hD hS => ?_)
        have hR := hR.si (c := 22) (k := 3) (v := v2) (by omega : (0 : Int) ≤ v2.toInt ∧ v2.toInt ≤ 940)
        have hF := hF.si (c := 22) (k := 3) (v := v2) rfl
        have hK_N13 := sp_sgD sp_N13 hD hK_N13 (by decide)
        refine lv_goto (tgt := 29) F.1 F.2.1 dX3_readWhole_206 (by decide) ?_
        exact ih29 x1 _ _ _ _ hR hF (by omega : 941 - v2.toInt < ((n29 : Nat) : Int)) hK_N13 (by omega) (by omega : (0 : Int) ≤ v2.toInt ∧ v2.toInt ≤ 940) hC hP hD hS (lv_sub hl [0, 1] rfl)
      unfold K_X3_readWhole_22_29_b at hC
      refine lv_aload_n F.1 F.2.1 dX3_readWhole_29 rfl (lv_at hl 0 rfl) ?_
      have g3 : (0 : Int) ≤ (u.1 22 3).toInt ∧ (u.1 22 3).toInt ≤ 940 := hR 22 3
      refine a_geti F inX3 hP 22 3 tc_22 rfl rfl (by decide) q247 (fun _ h9 => h9) (v := (u.1 22 3)) rfl dX3_readWhole_30 ?_
      refine a_sp F (940 : Int32) dX3_readWhole_33 (by decide) ?_
      refine b_ge F 209 dX3_readWhole_36 (by decide) rfl ic_940 (fun c4 => ?_) (fun c4 => ?_)
      · have hC := hC.trans (if_pos c4)
        exact L209 x1 _ _ _ _ hR hF hK_N13 (by omega) (by omega : (0 : Int) ≤ (u.1 22 3).toInt ∧ (u.1 22 3).toInt ≤ 940) hC hP hD hS (lv_sub hl [1] rfl)
      · have hC := hC.trans (if_neg (by omega))
        refine lv_iload_n F.1 F.2.1 dX3_readWhole_39 rfl (lv_at hl 1 rfl) ?_
        refine z_eq F 209 dX3_readWhole_40 (by decide) rfl (fun c5 => ?_) (fun c5 => ?_)
        · have hC := hC.trans (if_pos c5)
          exact L209 x1 _ _ _ _ hR hF hK_N13 (by omega) (by omega : (0 : Int) ≤ (u.1 22 3).toInt ∧ (u.1 22 3).toInt ≤ 940) hC hP hD hS (lv_sub hl [1] rfl)
        · have hC := hC.trans (if_neg (by omega))
          refine lv_aload_n F.1 F.2.1 dX3_readWhole_43 rfl (lv_at hl 0 rfl) ?_
          refine a_getr F inX3 hP 22 0 tc_22 rfl rfl (by decide) q244 (fun _ h9 => h9) dX3_readWhole_44 ?_
          have g6 : (-128 : Int) ≤ (u.1 1 6).toInt ∧ (u.1 1 6).toInt ≤ 127 := hR 1 6
          refine a_geti F inX10 hP 1 6 tc_1 rfl rfl (by decide) q102 (fun _ h9 => h9) (v := (u.1 1 6)) rfl dX3_readWhole_47 ?_
          refine z_eq F 209 dX3_readWhole_50 (by decide) rfl (fun c7 => ?_) (fun c7 => ?_)
          · have hC := hC.trans (if_pos c7)
            exact L209 x1 _ _ _ _ hR hF hK_N13 (by omega) (by omega : (0 : Int) ≤ (u.1 22 3).toInt ∧ (u.1 22 3).toInt ≤ 940) hC hP hD hS (lv_sub hl [1] rfl)
          · have hC := hC.trans (if_neg (by omega))
            refine lv_aload_n F.1 F.2.1 dX3_readWhole_53 rfl (lv_at hl 0 rfl) ?_
            refine a_getr F inX3 hP 22 0 tc_22 rfl rfl (by decide) q244 (fun _ h9 => h9) dX3_readWhole_54 ?_
            refine a_geti F inX10 hP 1 6 tc_1 rfl rfl (by decide) q102 (fun _ h9 => h9) (v := (u.1 1 6)) (rfl) dX3_readWhole_57 ?_
            rcases (show ((u.1 1 6).toInt < 100 ∨ 109 < (u.1 1 6).toInt) ∨ (u.1 1 6).toInt = 100 ∨ (u.1 1 6).toInt = 101 ∨ (u.1 1 6).toInt = 102 ∨ (u.1 1 6).toInt = 103 ∨ (u.1 1 6).toInt = 104 ∨ (u.1 1 6).toInt = 105 ∨ (u.1 1 6).toInt = 106 ∨ (u.1 1 6).toInt = 107 ∨ (u.1 1 6).toInt = 108 ∨ (u.1 1 6).toInt = 109 by omega) with c8 | c8 | c8 | c8 | c8 | c8 | c8 | c8 | c8 | c8 | c8
            · have hC := hC.trans (if_pos c8)
              refine lv_tableOut (tgt := 180) F.1 F.2.1 dX3_readWhole_60 c8 (by decide) ?_
              refine lv_aload_n F.1 F.2.1 dX3_readWhole_180 rfl (lv_at hl 0 rfl) ?_
              refine a_getr F inX3 hP 22 0 tc_22 rfl rfl (by decide) q244 (fun _ h9 => h9) dX3_readWhole_181 ?_
              refine a_ic F (1 : Int32) dX3_readWhole_184 (by decide) ?_
              refine a_Vi F hml hl.1 hA hP hD hS (As := [.int (1 : Int32)]) (x_X10_fail_1 l dC dI ad cA nF _ (1 : Int32) hR (by decide)) (cs_RX3_70 (d := 1) F.2.2.1 (by decide)) tc_1 rfl rfl rfl rfl (Nat.le_of_ble_eq_true rfl) dX3_readWhole_185 ⟨Nat.le_refl 0, Nat.le_refl 0⟩ (fun r9 u9 H locs hq hP hD hS => ?_)
              obtain ⟨hR, hF9, gr9, hz9⟩ := hq
              have hF := hF.tr hF9 (by decide)
              have hK_N13 := sp_fr sp_N13 hF9 (by decide) hK_N13
              have hC := bd_eq hC hz9
              refine lv_istore_n (lv' := [(1, .int r9), (0, .ref (ad 22))]) F.1 F.2.1 dX3_readWhole_188 rfl hl (by decide) rfl (fun ls hl => ?_)
              exact L189 r9 _ _ _ _ hR hF hK_N13 (by omega) (i_trB (hF9 22 3 rfl) (by omega : (0 : Int) ≤ (u.1 22 3).toInt ∧ (u.1 22 3).toInt ≤ 939)) (by rw [hF9 22 3 rfl]; exact (by omega : 941 - (u.1 22 3).toInt < ((n29 : Nat) : Int) + 1)) hC hP hD hS (lv_sub hl [1, 0] rfl)
            · have hC := hC.trans (if_neg (by omega))
              have hC := hC.trans (if_pos c8)
              refine lv_tableIn (tgt := 116) F.1 F.2.1 dX3_readWhole_60 (by omega) (by omega) (by rw [c8]; rfl) (by decide) ?_
              refine lv_aload_n F.1 F.2.1 dX3_readWhole_116 rfl (lv_at hl 0 rfl) ?_
              refine a_Vi F hml hl.1 hA hP hD hS (As := []) (x_X3_readHours_22 l dC dI ad cA nF _  hR) (cs_RX3_45 (d := 5) F.2.2.1 (by decide)) tc_22 rfl rfl rfl rfl (Nat.le_of_ble_eq_true rfl) dX3_readWhole_117 ⟨Nat.le_refl 0, Nat.le_refl 0⟩ (fun r10 u10 H locs hq hP hD hS => ?_)
              obtain ⟨hR, hF10, gr10, hz10⟩ := hq
              have hF := hF.tr hF10 (by decide)
              have hK_N13 := sp_fr sp_N13 hF10 (by decide) hK_N13
              have hC := bd_eq hC hz10
              refine lv_istore_n (lv' := [(1, .int r10), (0, .ref (ad 22))]) F.1 F.2.1 dX3_readWhole_120 rfl hl (by decide) rfl (fun ls hl => ?_)
              refine lv_goto (tgt := 189) F.1 F.2.1 dX3_readWhole_121 (by decide) ?_
              exact L189 r10 _ _ _ _ hR hF hK_N13 (by omega) (i_trB (hF10 22 3 rfl) (by omega : (0 : Int) ≤ (u.1 22 3).toInt ∧ (u.1 22 3).toInt ≤ 939)) (by rw [hF10 22 3 rfl]; exact (by omega : 941 - (u.1 22 3).toInt < ((n29 : Nat) : Int) + 1)) hC hP hD hS (lv_sub hl [1, 0] rfl)
            · have hC := hC.trans (if_neg (by omega))
              have hC := hC.trans (if_neg (by omega))
              have hC := hC.trans (if_pos c8)
              refine lv_tableIn (tgt := 124) F.1 F.2.1 dX3_readWhole_60 (by omega) (by omega) (by rw [c8]; rfl) (by decide) ?_
              refine lv_aload_n F.1 F.2.1 dX3_readWhole_124 rfl (lv_at hl 0 rfl) ?_
              refine a_Vi F hml hl.1 hA hP hD hS (As := []) (x_X3_readPlace_22 l dC dI ad cA nF _  hR hK_N13) (cs_RX3_49 (d := 5) F.2.2.1 (by decide)) tc_22 rfl rfl rfl rfl (Nat.le_of_ble_eq_true rfl) dX3_readWhole_125 ⟨Nat.le_refl 0, Nat.le_refl 0⟩ (fun r11 u11 H locs hq hP hD hS => ?_)
              obtain ⟨hR, hF11, gr11, hK_N13, hz11⟩ := hq
              have hF := hF.tr hF11 (by decide)
              have hC := bd_eq hC hz11
              refine lv_istore_n (lv' := [(1, .int r11), (0, .ref (ad 22))]) F.1 F.2.1 dX3_readWhole_128 rfl hl (by decide) rfl (fun ls hl => ?_)
              refine lv_goto (tgt := 189) F.1 F.2.1 dX3_readWhole_129 (by decide) ?_
              exact L189 r11 _ _ _ _ hR hF hK_N13 (by omega) (i_trB (hF11 22 3 rfl) (by omega : (0 : Int) ≤ (u.1 22 3).toInt ∧ (u.1 22 3).toInt ≤ 939)) (by rw [hF11 22 3 rfl]; exact (by omega : 941 - (u.1 22 3).toInt < ((n29 : Nat) : Int) + 1)) hC hP hD hS (lv_sub hl [1, 0] rfl)
            · have hC := hC.trans (if_neg (by omega))
              have hC := hC.trans (if_neg (by omega))
              have hC := hC.trans (if_neg (by omega))
              have hC := hC.trans (if_pos c8)
              refine lv_tableIn (tgt := 132) F.1 F.2.1 dX3_readWhole_60 (by omega) (by omega) (by rw [c8]; rfl) (by decide) ?_
              refine lv_aload_n F.1 F.2.1 dX3_readWhole_132 rfl (lv_at hl 0 rfl) ?_
              refine a_Vi F hml hl.1 hA hP hD hS (As := []) (x_X3_readWay_22 l dC dI ad cA nF _  hR hK_N13) (cs_RX3_52 (d := 5) F.2.2.1 (by decide)) tc_22 rfl rfl rfl rfl (Nat.le_of_ble_eq_true rfl) dX3_readWhole_133 ⟨Nat.le_refl 0, Nat.le_refl 0⟩ (fun r12 u12 H locs hq hP hD hS => ?_)
              obtain ⟨hR, hF12, gr12, hK_N13, hz12⟩ := hq
              have hF := hF.tr hF12 (by decide)
              have hC := bd_eq hC hz12
              refine lv_istore_n (lv' := [(1, .int r12), (0, .ref (ad 22))]) F.1 F.2.1 dX3_readWhole_136 rfl hl (by decide) rfl (fun ls hl => ?_)
              refine lv_goto (tgt := 189) F.1 F.2.1 dX3_readWhole_137 (by decide) ?_
              exact L189 r12 _ _ _ _ hR hF hK_N13 (by omega) (i_trB (hF12 22 3 rfl) (by omega : (0 : Int) ≤ (u.1 22 3).toInt ∧ (u.1 22 3).toInt ≤ 939)) (by rw [hF12 22 3 rfl]; exact (by omega : 941 - (u.1 22 3).toInt < ((n29 : Nat) : Int) + 1)) hC hP hD hS (lv_sub hl [1, 0] rfl)
            · have hC := hC.trans (if_neg (by omega))
              have hC := hC.trans (if_neg (by omega))
              have hC := hC.trans (if_neg (by omega))
              have hC := hC.trans (if_neg (by omega))
              have hC := hC.trans (if_pos c8)
              refine lv_tableIn (tgt := 140) F.1 F.2.1 dX3_readWhole_60 (by omega) (by omega) (by rw [c8]; rfl) (by decide) ?_
              refine lv_aload_n F.1 F.2.1 dX3_readWhole_140 rfl (lv_at hl 0 rfl) ?_
              refine a_Vi F hml hl.1 hA hP hD hS (As := []) (x_X3_readFrog_22 l dC dI ad cA nF _  hR hK_N13) (cs_RX3_55 (d := 5) F.2.2.1 (by decide)) tc_22 rfl rfl rfl rfl (Nat.le_of_ble_eq_true rfl) dX3_readWhole_141 ⟨Nat.le_refl 0, Nat.le_refl 0⟩ (fun r13 u13 H locs hq hP hD hS => ?_)
              obtain ⟨hR, hF13, gr13, hK_N13, hz13⟩ := hq
              have hF := hF.tr hF13 (by decide)
              have hC := bd_eq hC hz13
              refine lv_istore_n (lv' := [(1, .int r13), (0, .ref (ad 22))]) F.1 F.2.1 dX3_readWhole_144 rfl hl (by decide) rfl (fun ls hl => ?_)
              refine lv_goto (tgt := 189) F.1 F.2.1 dX3_readWhole_145 (by decide) ?_
              exact L189 r13 _ _ _ _ hR hF hK_N13 (by omega) (i_trB (hF13 22 3 rfl) (by omega : (0 : Int) ≤ (u.1 22 3).toInt ∧ (u.1 22 3).toInt ≤ 939)) (by rw [hF13 22 3 rfl]; exact (by omega : 941 - (u.1 22 3).toInt < ((n29 : Nat) : Int) + 1)) hC hP hD hS (lv_sub hl [1, 0] rfl)
            · have hC := hC.trans (if_neg (by omega))
              have hC := hC.trans (if_neg (by omega))
              have hC := hC.trans (if_neg (by omega))
              have hC := hC.trans (if_neg (by omega))
              have hC := hC.trans (if_neg (by omega))
              have hC := hC.trans (if_pos c8)
              refine lv_tableIn (tgt := 148) F.1 F.2.1 dX3_readWhole_60 (by omega) (by omega) (by rw [c8]; rfl) (by decide) ?_
              refine lv_aload_n F.1 F.2.1 dX3_readWhole_148 rfl (lv_at hl 0 rfl) ?_
              refine a_Vi F hml hl.1 hA hP hD hS (As := []) (x_X3_readPerson_22 l dC dI ad cA nF _  hR hK_N13) (cs_RX3_58 (d := 5) F.2.2.1 (by decide)) tc_22 rfl rfl rfl rfl (Nat.le_of_ble_eq_true rfl) dX3_readWhole_149 ⟨Nat.le_refl 0, Nat.le_refl 0⟩ (fun r14 u14 H locs hq hP hD hS => ?_)
              obtain ⟨hR, hF14, gr14, hK_N13, hz14⟩ := hq
              have hF := hF.tr hF14 (by decide)
              have hC := bd_eq hC hz14
              refine lv_istore_n (lv' := [(1, .int r14), (0, .ref (ad 22))]) F.1 F.2.1 dX3_readWhole_152 rfl hl (by decide) rfl (fun ls hl => ?_)
              refine lv_goto (tgt := 189) F.1 F.2.1 dX3_readWhole_153 (by decide) ?_
              exact L189 r14 _ _ _ _ hR hF hK_N13 (by omega) (i_trB (hF14 22 3 rfl) (by omega : (0 : Int) ≤ (u.1 22 3).toInt ∧ (u.1 22 3).toInt ≤ 939)) (by rw [hF14 22 3 rfl]; exact (by omega : 941 - (u.1 22 3).toInt < ((n29 : Nat) : Int) + 1)) hC hP hD hS (lv_sub hl [1, 0] rfl)
            · have hC := hC.trans (if_neg (by omega))
              have hC := hC.trans (if_neg (by omega))
              have hC := hC.trans (if_neg (by omega))
              have hC := hC.trans (if_neg (by omega))
              have hC := hC.trans (if_neg (by omega))
              have hC := hC.trans (if_neg (by omega))
              have hC := hC.trans (if_pos c8)
              refine lv_tableIn (tgt := 156) F.1 F.2.1 dX3_readWhole_60 (by omega) (by omega) (by rw [c8]; rfl) (by decide) ?_
              refine lv_aload_n F.1 F.2.1 dX3_readWhole_156 rfl (lv_at hl 0 rfl) ?_
              refine a_Vi F hml hl.1 hA hP hD hS (As := []) (x_X3_readDeed_22 l dC dI ad cA nF _  hR hK_N13) (cs_RX3_61 (d := 5) F.2.2.1 (by decide)) tc_22 rfl rfl rfl rfl (Nat.le_of_ble_eq_true rfl) dX3_readWhole_157 ⟨Nat.le_refl 0, Nat.le_refl 0⟩ (fun r15 u15 H locs hq hP hD hS => ?_)
              obtain ⟨hR, hF15, gr15, hK_N13, hz15⟩ := hq
              have hF := hF.tr hF15 (by decide)
              have hC := bd_eq hC hz15
              refine lv_istore_n (lv' := [(1, .int r15), (0, .ref (ad 22))]) F.1 F.2.1 dX3_readWhole_160 rfl hl (by decide) rfl (fun ls hl => ?_)
              refine lv_goto (tgt := 189) F.1 F.2.1 dX3_readWhole_161 (by decide) ?_
              exact L189 r15 _ _ _ _ hR hF hK_N13 (by omega) (i_trB (hF15 22 3 rfl) (by omega : (0 : Int) ≤ (u.1 22 3).toInt ∧ (u.1 22 3).toInt ≤ 939)) (by rw [hF15 22 3 rfl]; exact (by omega : 941 - (u.1 22 3).toInt < ((n29 : Nat) : Int) + 1)) hC hP hD hS (lv_sub hl [1, 0] rfl)
            · have hC := hC.trans (if_neg (by omega))
              have hC := hC.trans (if_neg (by omega))
              have hC := hC.trans (if_neg (by omega))
              have hC := hC.trans (if_neg (by omega))
              have hC := hC.trans (if_neg (by omega))
              have hC := hC.trans (if_neg (by omega))
              have hC := hC.trans (if_neg (by omega))
              have hC := hC.trans (if_pos c8)
              refine lv_tableIn (tgt := 164) F.1 F.2.1 dX3_readWhole_60 (by omega) (by omega) (by rw [c8]; rfl) (by decide) ?_
              refine lv_aload_n F.1 F.2.1 dX3_readWhole_164 rfl (lv_at hl 0 rfl) ?_
              refine a_Vi F hml hl.1 hA hP hD hS (As := []) (x_X3_readPromise_22 l dC dI ad cA nF _  hR hK_N13) (cs_RX3_64 (d := 6) F.2.2.1 (by decide)) tc_22 rfl rfl rfl rfl (Nat.le_of_ble_eq_true rfl) dX3_readWhole_165 ⟨Nat.le_refl 0, Nat.le_refl 0⟩ (fun r16 u16 H locs hq hP hD hS => ?_)
              obtain ⟨hR, hF16, gr16, hK_N13, hz16⟩ := hq
              have hF := hF.tr hF16 (by decide)
              have hC := bd_eq hC hz16
              refine lv_istore_n (lv' := [(1, .int r16), (0, .ref (ad 22))]) F.1 F.2.1 dX3_readWhole_168 rfl hl (by decide) rfl (fun ls hl => ?_)
              refine lv_goto (tgt := 189) F.1 F.2.1 dX3_readWhole_169 (by decide) ?_
              exact L189 r16 _ _ _ _ hR hF hK_N13 (by omega) (i_trB (hF16 22 3 rfl) (by omega : (0 : Int) ≤ (u.1 22 3).toInt ∧ (u.1 22 3).toInt ≤ 939)) (by rw [hF16 22 3 rfl]; exact (by omega : 941 - (u.1 22 3).toInt < ((n29 : Nat) : Int) + 1)) hC hP hD hS (lv_sub hl [1, 0] rfl)
            · have hC := hC.trans (if_neg (by omega))
              have hC := hC.trans (if_neg (by omega))
              have hC := hC.trans (if_neg (by omega))
              have hC := hC.trans (if_neg (by omega))
              have hC := hC.trans (if_neg (by omega))
              have hC := hC.trans (if_neg (by omega))
              have hC := hC.trans (if_neg (by omega))
              have hC := hC.trans (if_neg (by omega))
              have hC := hC.trans (if_pos c8)
              refine lv_tableIn (tgt := 180) F.1 F.2.1 dX3_readWhole_60 (by omega) (by omega) (by rw [c8]; rfl) (by decide) ?_
              refine lv_aload_n F.1 F.2.1 dX3_readWhole_180 rfl (lv_at hl 0 rfl) ?_
              refine a_getr F inX3 hP 22 0 tc_22 rfl rfl (by decide) q244 (fun _ h9 => h9) dX3_readWhole_181 ?_
              refine a_ic F (1 : Int32) dX3_readWhole_184 (by decide) ?_
              refine a_Vi F hml hl.1 hA hP hD hS (As := [.int (1 : Int32)]) (x_X10_fail_1 l dC dI ad cA nF _ (1 : Int32) hR (by decide)) (cs_RX3_70 (d := 1) F.2.2.1 (by decide)) tc_1 rfl rfl rfl rfl (Nat.le_of_ble_eq_true rfl) dX3_readWhole_185 ⟨Nat.le_refl 0, Nat.le_refl 0⟩ (fun r17 u17 H locs hq hP hD hS => ?_)
              obtain ⟨hR, hF17, gr17, hz17⟩ := hq
              have hF := hF.tr hF17 (by decide)
              have hK_N13 := sp_fr sp_N13 hF17 (by decide) hK_N13
              have hC := bd_eq hC hz17
              refine lv_istore_n (lv' := [(1, .int r17), (0, .ref (ad 22))]) F.1 F.2.1 dX3_readWhole_188 rfl hl (by decide) rfl (fun ls hl => ?_)
              exact L189 r17 _ _ _ _ hR hF hK_N13 (by omega) (i_trB (hF17 22 3 rfl) (by omega : (0 : Int) ≤ (u.1 22 3).toInt ∧ (u.1 22 3).toInt ≤ 939)) (by rw [hF17 22 3 rfl]; exact (by omega : 941 - (u.1 22 3).toInt < ((n29 : Nat) : Int) + 1)) hC hP hD hS (lv_sub hl [1, 0] rfl)
            · have hC := hC.trans (if_neg (by omega))
              have hC := hC.trans (if_neg (by omega))
              have hC := hC.trans (if_neg (by omega))
              have hC := hC.trans (if_neg (by omega))
              have hC := hC.trans (if_neg (by omega))
              have hC := hC.trans (if_neg (by omega))
              have hC := hC.trans (if_neg (by omega))
              have hC := hC.trans (if_neg (by omega))
              have hC := hC.trans (if_neg (by omega))
              have hC := hC.trans (if_pos c8)
              refine lv_tableIn (tgt := 180) F.1 F.2.1 dX3_readWhole_60 (by omega) (by omega) (by rw [c8]; rfl) (by decide) ?_
              refine lv_aload_n F.1 F.2.1 dX3_readWhole_180 rfl (lv_at hl 0 rfl) ?_
              refine a_getr F inX3 hP 22 0 tc_22 rfl rfl (by decide) q244 (fun _ h9 => h9) dX3_readWhole_181 ?_
              refine a_ic F (1 : Int32) dX3_readWhole_184 (by decide) ?_
              refine a_Vi F hml hl.1 hA hP hD hS (As := [.int (1 : Int32)]) (x_X10_fail_1 l dC dI ad cA nF _ (1 : Int32) hR (by decide)) (cs_RX3_70 (d := 1) F.2.2.1 (by decide)) tc_1 rfl rfl rfl rfl (Nat.le_of_ble_eq_true rfl) dX3_readWhole_185 ⟨Nat.le_refl 0, Nat.le_refl 0⟩ (fun r18 u18 H locs hq hP hD hS => ?_)
              obtain ⟨hR, hF18, gr18, hz18⟩ := hq
              have hF := hF.tr hF18 (by decide)
              have hK_N13 := sp_fr sp_N13 hF18 (by decide) hK_N13
              have hC := bd_eq hC hz18
              refine lv_istore_n (lv' := [(1, .int r18), (0, .ref (ad 22))]) F.1 F.2.1 dX3_readWhole_188 rfl hl (by decide) rfl (fun ls hl => ?_)
              exact L189 r18 _ _ _ _ hR hF hK_N13 (by omega) (i_trB (hF18 22 3 rfl) (by omega : (0 : Int) ≤ (u.1 22 3).toInt ∧ (u.1 22 3).toInt ≤ 939)) (by rw [hF18 22 3 rfl]; exact (by omega : 941 - (u.1 22 3).toInt < ((n29 : Nat) : Int) + 1)) hC hP hD hS (lv_sub hl [1, 0] rfl)
            · have hC := hC.trans (if_neg (by omega))
              have hC := hC.trans (if_neg (by omega))
              have hC := hC.trans (if_neg (by omega))
              have hC := hC.trans (if_neg (by omega))
              have hC := hC.trans (if_neg (by omega))
              have hC := hC.trans (if_neg (by omega))
              have hC := hC.trans (if_neg (by omega))
              have hC := hC.trans (if_neg (by omega))
              have hC := hC.trans (if_neg (by omega))
              have hC := hC.trans (if_neg (by omega))
              refine lv_tableIn (tgt := 172) F.1 F.2.1 dX3_readWhole_60 (by omega) (by omega) (by rw [c8]; rfl) (by decide) ?_
              refine lv_aload_n F.1 F.2.1 dX3_readWhole_172 rfl (lv_at hl 0 rfl) ?_
              refine a_Vi F hml hl.1 hA hP hD hS (As := []) (x_X3_readVow_22 l dC dI ad cA nF _  hR hK_N13) (cs_RX3_67 (d := 5) F.2.2.1 (by decide)) tc_22 rfl rfl rfl rfl (Nat.le_of_ble_eq_true rfl) dX3_readWhole_173 ⟨Nat.le_refl 0, Nat.le_refl 0⟩ (fun r19 u19 H locs hq hP hD hS => ?_)
              obtain ⟨hR, hF19, gr19, hK_N13, hz19⟩ := hq
              have hF := hF.tr hF19 (by decide)
              have hC := bd_eq hC hz19
              refine lv_istore_n (lv' := [(1, .int r19), (0, .ref (ad 22))]) F.1 F.2.1 dX3_readWhole_176 rfl hl (by decide) rfl (fun ls hl => ?_)
              refine lv_goto (tgt := 189) F.1 F.2.1 dX3_readWhole_177 (by decide) ?_
              exact L189 r19 _ _ _ _ hR hF hK_N13 (by omega) (i_trB (hF19 22 3 rfl) (by omega : (0 : Int) ≤ (u.1 22 3).toInt ∧ (u.1 22 3).toInt ≤ 939)) (by rw [hF19 22 3 rfl]; exact (by omega : 941 - (u.1 22 3).toInt < ((n29 : Nat) : Int) + 1)) hC hP hD hS (lv_sub hl [1, 0] rfl)
  have hC : RR = f_X3_readWhole_22 u0 := hRR
  unfold f_X3_readWhole_22 at hC
  refine lv_aload_n F.1 F.2.1 dX3_readWhole_0 rfl (lv_at hl 0 rfl) ?_
  refine a_getr F inX3 hP 22 1 tc_22 rfl rfl (by decide) q245 (fun _ h9 => h9) dX3_readWhole_1 ?_
  refine a_Vv F hml hl.1 hA hP hD hS (As := []) (x_X2_clear_13 l dC dI ad cA nF _  hR) (cs_RX3_31 (d := 2) F.2.2.1 (by decide)) tc_13 rfl rfl rfl rfl (Nat.le_of_ble_eq_true rfl) dX3_readWhole_4 ⟨Nat.le_refl 0, Nat.le_refl 0⟩ (fun u20 H locs hq hP hD hS => ?_)
  obtain ⟨hR, hF20, hz20⟩ := hq
  have hF := hF.tr hF20 (by decide)
  have hK_N13 := sp_fr sp_N13 hF20 (by decide) hK_N13
  have hC := vl_eq hC hz20.symm
  refine lv_aload_n F.1 F.2.1 dX3_readWhole_7 rfl (lv_at hl 0 rfl) ?_
  refine a_ic F (0 : Int32) dX3_readWhole_8 (by decide) ?_
  refine a_puti F inX3 tyX3 tyX3_ok nmX3 hP hD hS 22 4 tc_22 rfl rfl (by decide) q249 (fun _ h9 => h9) rfl (ty := .boolean) (tyX3_ok 4 (by decide)) (i_zn (Or.inl rfl)) (i_zf (Or.inl rfl)) dX3_readWhole_9 (fun H locs hP hD hS => ?_)
  have hR := hR.si (c := 22) (k := 4) (v := (0 : Int32)) (by rw [ic_0]; exact (by omega : (0 : Int) ≤ (0 : Int) ∧ (0 : Int) ≤ 1))
  have hF := hF.si (c := 22) (k := 4) (v := (0 : Int32)) rfl
  have hK_N13 := sp_sgD sp_N13 hD hK_N13 (by decide)
  refine lv_aload_n F.1 F.2.1 dX3_readWhole_12 rfl (lv_at hl 0 rfl) ?_
  refine a_getr F inX3 hP 22 0 tc_22 rfl rfl (by decide) q244 (fun _ h9 => h9) dX3_readWhole_13 ?_
  refine a_sp F (900 : Int32) dX3_readWhole_16 (by decide) ?_
  refine a_Vv F hml hl.1 hA hP hD hS (As := [.int (900 : Int32)]) (x_X10_startReading_1 l dC dI ad cA nF _ (900 : Int32) hR (by decide)) (cs_RX3_36 (d := 4) F.2.2.1 (by decide)) tc_1 rfl rfl rfl rfl (Nat.le_of_ble_eq_true rfl) dX3_readWhole_19 ⟨Nat.le_refl 0, Nat.le_refl 0⟩ (fun u21 H locs hq hP hD hS => ?_)
  obtain ⟨hR, hF21, hz21⟩ := hq
  have hF := hF.tr hF21 (by decide)
  have hK_N13 := sp_fr sp_N13 hF21 (by decide) hK_N13
  have hC := vl_eq hC hz21.symm
  refine a_ic F (1 : Int32) dX3_readWhole_22 (by decide) ?_
  refine lv_istore_n (lv' := [(1, .int (1 : Int32)), (0, .ref (ad 22))]) F.1 F.2.1 dX3_readWhole_23 rfl hl (by decide) rfl (fun ls hl => ?_)
  refine lv_aload_n F.1 F.2.1 dX3_readWhole_24 rfl (lv_at hl 1 rfl) ?_
  refine a_ic F (0 : Int32) dX3_readWhole_25 (by decide) ?_
  refine a_puti F inX3 tyX3 tyX3_ok nmX3 hP hD hS 22 3 tc_22 rfl rfl (by decide) q247 (fun _ h9 => h9) rfl (ty := .int) (tyX3_ok 3 (by decide)) rfl rfl dX3_readWhole_26 (fun H locs hP hD hS => ?_)
  have hR := hR.si (c := 22) (k := 3) (v := (0 : Int32)) (by rw [ic_0]; exact (by omega : (0 : Int) ≤ (0 : Int) ∧ (0 : Int) ≤ 940))
  have hF := hF.si (c := 22) (k := 3) (v := (0 : Int32)) rfl
  have hK_N13 := sp_sgD sp_N13 hD hK_N13 (by decide)
  exact L29 943 (1 : Int32) _ _ _ _ hR hF (by omega : 941 - (0 : Int) < (943 : Int)) hK_N13 (by decide) (by omega : (0 : Int) ≤ (0 : Int) ∧ (0 : Int) ≤ 940) hC hP hD hS (lv_sub hl [1, 0] rfl)
def K_X6_unsayAll_24_2_b (B2 : ac_U → Int32 → ac_U) (u0 : ac_U) (u : ac_U) (x1 : Int32) : ac_U := (if (8 : Int) ≤ x1.toInt then u else (vl ((15 : Int32) + x1) (fun (v2 : Int32) => (vl (x1 + Int32.ofInt (1)) (fun (v3 : Int32) => (B2 (pI u 25 v2.toNatClampNeg (-1 : Int32)) v3))))))
def K_X6_unsayAll_24_2 (u0 : ac_U) : Nat → ac_U → Int32 → ac_U
  | 0 => fun u x1 => u
  | n + 1 => fun u x1 => K_X6_unsayAll_24_2_b (K_X6_unsayAll_24_2 u0 n) u0 u x1
def f_X6_unsayAll_24 (u0 : ac_U) : ac_U := (K_X6_unsayAll_24_2 u0 10 u0 (0 : Int32))
set_option maxHeartbeats 600000 in
set_option maxRecDepth 100000 in
theorem x_X6_unsayAll_24 (l : Launch) (dC : Nat → ClassId) (dI : Nat → Nat → Nat) (ad : Nat → Nat) (cA : Nat → ClassId) (nF : Nat) (u0 : ac_U)  (hR : ac_R rg u0) : ac_Mv l yX6_unsayAll (.code yX6_unsayAll cX6_unsayAll 2 none :: TB) 1 (dC, dI) vwCl (ac_ty cA) ad cA (TT nF) [.ref (ad 24)] u0 (fun (u : ac_U) => ac_R rg u ∧ ac_Fr [(25, none)] u0 u ∧ f_X6_unsayAll_24 u0 = u) := by
  refine ac_Mv.of (cc := cX6_unsayAll) (maxL := 2) (ret := none) (by decide) rfl (Nat.le_of_ble_eq_true rfl) ?_
  intro p e s m below meth c A ls F hml hr hlocks hA hP hD hS hl
  have F : ac_X p s m [.ref (ad 24)].toArray c cX6_unsayAll RX6 TB (dC, dI) vwCl (ac_ty cA) := ⟨F.1, F.2.1, fun w h => F.2.2.1 w (List.mem_cons_of_mem _ h), F.2.2.2.1, F.2.2.2.2⟩
  have hl : lv_has ls 2 [(0, .ref (ad 24))] := hl
  obtain ⟨RR, hRR⟩ : ∃ q, q = f_X6_unsayAll_24 u0 := ⟨_, rfl⟩
  have hF : ac_Fr [(25, none)] u0 u0 := ac_Fr.rf
  have L2 : ∀ (n2 : Nat) (x1 : Int32) (u : ac_U) (H : Heap) (locs : List Loc) (ls : Array Slot), ac_R rg u → ac_Fr [(25, none)] u0 u → 8 - x1.toInt < (n2 : Int) → (0 : Int) ≤ x1.toInt ∧ x1.toInt ≤ 8 → RR = (K_X6_unsayAll_24_2 u0 n2 u x1) → va_P (dC, dI) vwCl (ac_w ad cA (TT nF) u) H → va_D A (ac_w ad cA (TT nF) u) → va_S A s.heap H locs → lv_has ls 2 [(0, .ref (ad 24)), (1, .int x1)] → W p l e (ac_rm 1) s m [.ref (ad 24)].toArray below meth c H locs 0 0 (MQ below (va_Qv (fun (u : ac_U) => ac_R rg u ∧ ac_Fr [(25, none)] u0 u ∧ f_X6_unsayAll_24 u0 = u) (ac_B (dC, dI) vwCl (ac_ty cA) ad cA (TT nF) A) A) [.ref (ad 24)].toArray s 0 0 A) (F0 m 2 ls []) := by
    intro n2
    induction n2 with
    | zero => intro x1 u H locs ls hR hF hn2 f0 hC hP hD hS hl; exfalso; omega
    | succ n2 ih2 =>
      intro x1 u H locs ls hR hF hn2 f0 hC hP hD hS hl
      have hC : RR = K_X6_unsayAll_24_2_b (K_X6_unsayAll_24_2 u0 n2) u0 u x1 := hC
      unfold K_X6_unsayAll_24_2_b at hC
      refine lv_iload_n F.1 F.2.1 dX6_unsayAll_2 rfl (lv_at hl 1 rfl) ?_
      refine a_bp F (8 : Int32) dX6_unsayAll_3 (by decide) ?_
      refine b_ge F 24 dX6_unsayAll_5 (by decide) rfl ic_8 (fun c1 => ?_) (fun c1 => ?_)
      · have hC := hC.trans (if_pos c1)
        exact a_retv F hr hlocks hP hD hS dX6_unsayAll_24 ⟨hR, hF, hRR.symm.trans hC⟩
      · have hC := hC.trans (if_neg (by omega))
        refine lv_aload_n F.1 F.2.1 dX6_unsayAll_8 rfl (lv_at hl 0 rfl) ?_
        refine a_getr F inX6 hP 24 1 tc_24 rfl rfl (by decide) q272 (fun _ h9 => h9) dX6_unsayAll_9 ?_
        refine a_bp F (15 : Int32) dX6_unsayAll_12 (by decide) ?_
        refine lv_iload_n F.1 F.2.1 dX6_unsayAll_14 rfl (lv_at hl 1 rfl) ?_
        refine a_iaddX F dX6_unsayAll_15 ic_15 rfl (by omega) (fun v2 hv2 yv2 => ?_)
        have hC := vl_eq hC yv2
        refine a_ic F (-1 : Int32) dX6_unsayAll_16 (by decide) ?_
        refine a_iast F hP hD hS 25 tc_25 rfl (i_in rfl (by omega)) dX6_unsayAll_17 (fun H locs hP hD hS => ?_)
        have hR := hR.si (c := 25) (k := v2.toNatClampNeg) (v := (-1 : Int32)) (rs_25_15_22 (by omega) (by omega : (-1 : Int) ≤ (-1 : Int) ∧ (-1 : Int) ≤ 480))
        have hF := hF.si (c := 25) (k := v2.toNatClampNeg) (v := (-1 : Int32)) rfl
        refine a_iincX F (k := 1) (fun v3 => [(1, .int v3), (0, .ref (ad 24))]) dX6_unsayAll_18 hl rfl rfl (by decide) (by omega) (by decide) (fun _ => rfl) (fun v3 ls hv3 yv3 hl => ?_)
        have hC := vl_eq hC yv3
        refine lv_goto (tgt := 2) F.1 F.2.1 dX6_unsayAll_21 (by decide) ?_
        exact ih2 v3 _ _ _ _ hR hF (by omega) (by omega) hC hP hD hS (lv_sub hl [1, 0] rfl)
  have hC : RR = f_X6_unsayAll_24 u0 := hRR
  unfold f_X6_unsayAll_24 at hC
  refine a_ic F (0 : Int32) dX6_unsayAll_0 (by decide) ?_
  refine lv_istore_n (lv' := [(1, .int (0 : Int32)), (0, .ref (ad 24))]) F.1 F.2.1 dX6_unsayAll_1 rfl hl (by decide) rfl (fun ls hl => ?_)
  exact L2 10 (0 : Int32) _ _ _ _ hR hF (by decide) (by decide) hC hP hD hS (lv_sub hl [1, 0] rfl)
def K_J7_fill_53178_25_5_b (B5 : ac_U → Int32 → Int32 → ac_U) (u0 : ac_U) (p1 : Int32) (u : ac_U) (x2 : Int32) (x3 : Int32) : ac_U := (if x3.toInt ≤ x2.toInt then u else (vl (x2 + Int32.ofInt (1)) (fun (v2 : Int32) => (B5 (pI u 25 x2.toNatClampNeg p1) v2 x3))))
def K_J7_fill_53178_25_5 (u0 : ac_U) (p1 : Int32) : Nat → ac_U → Int32 → Int32 → ac_U
  | 0 => fun u x2 x3 => u
  | n + 1 => fun u x2 x3 => K_J7_fill_53178_25_5_b (K_J7_fill_53178_25_5 u0 p1 n) u0 p1 u x2 x3
def f_J7_fill_53178_25 (u0 : ac_U) (p1 : Int32) : ac_U := (K_J7_fill_53178_25_5 u0 p1 33 u0 (0 : Int32) (31 : Int32))
set_option maxHeartbeats 600000 in
set_option maxRecDepth 100000 in
theorem x_J7_fill_53178_25 (l : Launch) (dC : Nat → ClassId) (dI : Nat → Nat → Nat) (ad : Nat → Nat) (cA : Nat → ClassId) (nF : Nat) (u0 : ac_U) (p1 : Int32) (hR : ac_R rg u0) (hp1 : (0 : Int) ≤ p1.toInt ∧ p1.toInt ≤ 0) : ac_Mv l yJ7_fill_53178 (.code yJ7_fill_53178 cJ7_fill_53178 4 none :: TB) 1 (dC, dI) vwCl (ac_ty cA) ad cA (TT nF) [.ref (ad 25), .int p1] u0 (fun (u : ac_U) => ac_R rg u ∧ ac_Fr [(25, none)] u0 u ∧ f_J7_fill_53178_25 u0 p1 = u) := by
  refine ac_Mv.of (cc := cJ7_fill_53178) (maxL := 4) (ret := none) (by decide) rfl (Nat.le_of_ble_eq_true rfl) ?_
  intro p e s m below meth c A ls F hml hr hlocks hA hP hD hS hl
  have F : ac_X p s m [.ref (ad 25), .int p1].toArray c cJ7_fill_53178 RJ7 TB (dC, dI) vwCl (ac_ty cA) := ⟨F.1, F.2.1, fun w h => F.2.2.1 w (List.mem_cons_of_mem _ h), F.2.2.2.1, F.2.2.2.2⟩
  have hl : lv_has ls 4 [(0, .ref (ad 25)), (1, .int p1)] := hl
  obtain ⟨RR, hRR⟩ : ∃ q, q = f_J7_fill_53178_25 u0 p1 := ⟨_, rfl⟩
  have hF : ac_Fr [(25, none)] u0 u0 := ac_Fr.rf
  have L5 : ∀ (n5 : Nat) (x2 : Int32) (x3 : Int32) (u : ac_U) (H : Heap) (locs : List Loc) (ls : Array Slot), ac_R rg u → ac_Fr [(25, none)] u0 u → 31 - x2.toInt < (n5 : Int) → (0 : Int) ≤ x2.toInt ∧ x2.toInt ≤ 31 → (31 : Int) ≤ x3.toInt ∧ x3.toInt ≤ 31 → RR = (K_J7_fill_53178_25_5 u0 p1 n5 u x2 x3) → va_P (dC, dI) vwCl (ac_w ad cA (TT nF) u) H → va_D A (ac_w ad cA (TT nF) u) → va_S A s.heap H locs → lv_has ls 4 [(0, .ref (ad 25)), (1, .int p1), (2, .int x2), (3, .int x3)] → W p l e (ac_rm 1) s m [.ref (ad 25), .int p1].toArray below meth c H locs 0 0 (MQ below (va_Qv (fun (u : ac_U) => ac_R rg u ∧ ac_Fr [(25, none)] u0 u ∧ f_J7_fill_53178_25 u0 p1 = u) (ac_B (dC, dI) vwCl (ac_ty cA) ad cA (TT nF) A) A) [.ref (ad 25), .int p1].toArray s 0 0 A) (F0 m 5 ls []) := by
    intro n5
    induction n5 with
    | zero => intro x2 x3 u H locs ls hR hF hn5 f0 f1 hC hP hD hS hl; exfalso; omega
    | succ n5 ih5 =>
      intro x2 x3 u H locs ls hR hF hn5 f0 f1 hC hP hD hS hl
      have hC : RR = K_J7_fill_53178_25_5_b (K_J7_fill_53178_25_5 u0 p1 n5) u0 p1 u x2 x3 := hC
      unfold K_J7_fill_53178_25_5_b at hC
      refine lv_iload_n F.1 F.2.1 dJ7_fill_53178_5 rfl (lv_at hl 2 rfl) ?_
      refine lv_iload_n F.1 F.2.1 dJ7_fill_53178_6 rfl (lv_at hl 3 rfl) ?_
      refine b_ge F 20 dJ7_fill_53178_7 (by decide) rfl rfl (fun c1 => ?_) (fun c1 => ?_)
      · have hC := hC.trans (if_pos c1)
        exact a_retv F hr hlocks hP hD hS dJ7_fill_53178_20 ⟨hR, hF, hRR.symm.trans hC⟩
      · have hC := hC.trans (if_neg (by omega))
        refine lv_aload_n F.1 F.2.1 dJ7_fill_53178_10 rfl (lv_at hl 0 rfl) ?_
        refine lv_iload_n F.1 F.2.1 dJ7_fill_53178_11 rfl (lv_at hl 2 rfl) ?_
        refine lv_iload_n F.1 F.2.1 dJ7_fill_53178_12 rfl (lv_at hl 1 rfl) ?_
        refine a_iast F hP hD hS 25 tc_25 rfl (i_in rfl (by omega)) dJ7_fill_53178_13 (fun H locs hP hD hS => ?_)
        have hR := hR.si (c := 25) (k := x2.toNatClampNeg) (v := p1) (rs_25_0_30 (by omega) (by omega : (0 : Int) ≤ p1.toInt ∧ p1.toInt ≤ 7))
        have hF := hF.si (c := 25) (k := x2.toNatClampNeg) (v := p1) rfl
        refine a_iincX F (k := 2) (fun v2 => [(2, .int v2), (0, .ref (ad 25)), (1, .int p1), (3, .int x3)]) dJ7_fill_53178_14 hl rfl rfl (by decide) (by omega) (by decide) (fun _ => rfl) (fun v2 ls hv2 yv2 hl => ?_)
        have hC := vl_eq hC yv2
        refine lv_goto (tgt := 5) F.1 F.2.1 dJ7_fill_53178_17 (by decide) ?_
        exact ih5 v2 x3 _ _ _ _ hR hF (by omega) (by omega) (by omega) hC hP hD hS (lv_sub hl [1, 2, 0, 3] rfl)
  have hC : RR = f_J7_fill_53178_25 u0 p1 := hRR
  unfold f_J7_fill_53178_25 at hC
  refine a_ic F (0 : Int32) dJ7_fill_53178_0 (by decide) ?_
  refine lv_istore_n (lv' := [(2, .int (0 : Int32)), (0, .ref (ad 25)), (1, .int p1)]) F.1 F.2.1 dJ7_fill_53178_1 rfl hl (by decide) rfl (fun ls hl => ?_)
  refine lv_aload_n F.1 F.2.1 dJ7_fill_53178_2 rfl (lv_at hl 1 rfl) ?_
  refine va_alen (v := (31 : Int32)) F.1 F.2.1 F.2.2.2.2 hP 25 0 (ac_at tc_25) rfl rfl dJ7_fill_53178_3 ?_
  refine lv_istore_n (lv' := [(3, .int (31 : Int32)), (2, .int (0 : Int32)), (0, .ref (ad 25)), (1, .int p1)]) F.1 F.2.1 dJ7_fill_53178_4 rfl hl (by decide) rfl (fun ls hl => ?_)
  exact L5 33 (0 : Int32) (31 : Int32) _ _ _ _ hR hF (by decide) (by decide) (by decide) hC hP hD hS (lv_sub hl [2, 3, 1, 0] rfl)

def f_X6_begin_24 (u0 : ac_U) : ac_U := (vl (f_J7_fill_53178_25 u0 (0 : Int32)) (fun (u1 : ac_U) => (vl (f_X6_unsayAll_24 u1) (fun (u2 : ac_U) => (pI (cpI u2 7 25 (0 : Int32).toNatClampNeg (3 : Int32).toNatClampNeg (4 : Int32).toNatClampNeg) 24 5 (0 : Int32))))))
set_option maxHeartbeats 600000 in
set_option maxRecDepth 100000 in
theorem x_X6_begin_24 (l : Launch) (dC : Nat → ClassId) (dI : Nat → Nat → Nat) (ad : Nat → Nat) (cA : Nat → ClassId) (nF : Nat) (u0 : ac_U)  (hR : ac_R rg u0) : ac_Mv l yX6_begin (.code yX6_begin cX6_begin 1 none :: TB) 2 (dC, dI) vwCl (ac_ty cA) ad cA (TT nF) [.ref (ad 24)] u0 (fun (u : ac_U) => ac_R rg u ∧ ac_Fr [(24, some 5), (25, none)] u0 u ∧ f_X6_begin_24 u0 = u) := by
  refine ac_Mv.of (cc := cX6_begin) (maxL := 1) (ret := none) (by decide) rfl (Nat.le_of_ble_eq_true rfl) ?_
  intro p e s m below meth c A ls F hml hr hlocks hA hP hD hS hl
  have F : ac_X p s m [.ref (ad 24)].toArray c cX6_begin RX6 TB (dC, dI) vwCl (ac_ty cA) := ⟨F.1, F.2.1, fun w h => F.2.2.1 w (List.mem_cons_of_mem _ h), F.2.2.2.1, F.2.2.2.2⟩
  have hl : lv_has ls 1 [(0, .ref (ad 24))] := hl
  obtain ⟨RR, hRR⟩ : ∃ q, q = f_X6_begin_24 u0 := ⟨_, rfl⟩
  have hF : ac_Fr [(24, some 5), (25, none)] u0 u0 := ac_Fr.rf
  have hC : RR = f_X6_begin_24 u0 := hRR
  unfold f_X6_begin_24 at hC
  refine lv_aload_n F.1 F.2.1 dX6_begin_0 rfl (lv_at hl 0 rfl) ?_
  refine a_getr F inX6 hP 24 1 tc_24 rfl rfl (by decide) q272 (fun _ h9 => h9) dX6_begin_1 ?_
  refine a_ic F (0 : Int32) dX6_begin_4 (by decide) ?_
  refine a_Sv F hml hl.1 hA hP hD hS (As := [.ref (ad 25), .int (0 : Int32)]) (x_J7_fill_53178_25 l dC dI ad cA nF _ (0 : Int32) hR (by decide)) (cs_RX6_38 (d := 1) F.2.2.1 (by decide)) rfl rfl (Nat.le_of_ble_eq_true rfl) dX6_begin_5 ⟨Nat.le_refl 0, Nat.le_refl 0⟩ (fun u1 H locs hq hP hD hS => ?_)
  obtain ⟨hR, hF1, hz1⟩ := hq
  have hF := hF.tr hF1 (by decide)
  have hC := vl_eq hC hz1.symm
  refine lv_aload_n F.1 F.2.1 dX6_begin_8 rfl (lv_at hl 0 rfl) ?_
  refine a_Vv F hml hl.1 hA hP hD hS (As := []) (x_X6_unsayAll_24 l dC dI ad cA nF _  hR) (cs_RX6_35 (d := 1) F.2.2.1 (by decide)) tc_24 rfl rfl rfl rfl (Nat.le_of_ble_eq_true rfl) dX6_begin_9 ⟨Nat.le_refl 0, Nat.le_refl 0⟩ (fun u2 H locs hq hP hD hS => ?_)
  obtain ⟨hR, hF2, hz2⟩ := hq
  have hF := hF.tr hF2 (by decide)
  have hC := vl_eq hC hz2.symm
  refine lv_aload_n F.1 F.2.1 dX6_begin_12 rfl (lv_at hl 0 rfl) ?_
  refine a_getr F inX6 hP 24 0 tc_24 rfl rfl (by decide) q271 (fun _ h9 => h9) dX6_begin_13 ?_
  refine a_getr F inX2 hP 4 11 tc_4 rfl rfl (by decide) q194 (fun _ h9 => h9) dX6_begin_16 ?_
  refine a_ic F (0 : Int32) dX6_begin_19 (by decide) ?_
  refine lv_aload_n F.1 F.2.1 dX6_begin_20 rfl (lv_at hl 0 rfl) ?_
  refine a_getr F inX6 hP 24 1 tc_24 rfl rfl (by decide) q272 (fun _ h9 => h9) dX6_begin_21 ?_
  refine a_ic F (3 : Int32) dX6_begin_24 (by decide) ?_
  refine a_ic F (4 : Int32) dX6_begin_25 (by decide) ?_
  refine a_cpyi F (hml.trans hl.1.symm) q730 q708 q707 q19 hP hD hS 7 25 tc_7 tc_25 rfl (by decide) (by decide) (by decide) (by simp only [ic_0, ic_3, ic_4]; omega) (by simp only [ic_0, ic_3, ic_4]; omega) (by decide) (by decide) dX6_begin_26 (fun H locs hP hD hS => ?_)
  have hR := hR.cp (c0 := 7) (c1 := 25) (sp := (0 : Int32).toNatClampNeg) (dp := (3 : Int32).toNatClampNeg) (n := (4 : Int32).toNatClampNeg) (by decide +kernel)
  have hF := hF.cp (c0 := 7) (c1 := 25) (sp := (0 : Int32).toNatClampNeg) (dp := (3 : Int32).toNatClampNeg) (n := (4 : Int32).toNatClampNeg) (fun _ => rfl)
  refine lv_aload_n F.1 F.2.1 dX6_begin_29 rfl (lv_at hl 0 rfl) ?_
  refine a_ic F (0 : Int32) dX6_begin_30 (by decide) ?_
  refine a_puti F inX6 tyX6 tyX6_ok nmX6 hP hD hS 24 5 tc_24 rfl rfl (by decide) q282 (fun _ h9 => h9) rfl (ty := .int) (tyX6_ok 5 (by decide)) rfl rfl dX6_begin_31 (fun H locs hP hD hS => ?_)
  have hR := hR.si (c := 24) (k := 5) (v := (0 : Int32)) (by rw [ic_0]; exact (by omega : (0 : Int) ≤ (0 : Int) ∧ (0 : Int) ≤ 8))
  have hF := hF.si (c := 24) (k := 5) (v := (0 : Int32)) rfl
  exact a_retv F hr hlocks hP hD hS dX6_begin_34 ⟨hR, hF, hRR.symm.trans hC⟩

def f_X8_clear_43 (u0 : ac_U) : ac_U := (pI (pI u0 43 3 (0 : Int32)) 43 4 (0 : Int32))
set_option maxHeartbeats 600000 in
set_option maxRecDepth 100000 in
theorem x_X8_clear_43 (l : Launch) (dC : Nat → ClassId) (dI : Nat → Nat → Nat) (ad : Nat → Nat) (cA : Nat → ClassId) (nF : Nat) (u0 : ac_U)  (hR : ac_R rg u0) : ac_Mv l yX8_clear (.code yX8_clear cX8_clear 1 none :: TB) 1 (dC, dI) vwCl (ac_ty cA) ad cA (TT nF) [.ref (ad 43)] u0 (fun (u : ac_U) => ac_R rg u ∧ ac_Fr [(43, some 3), (43, some 4)] u0 u ∧ f_X8_clear_43 u0 = u) := by
  refine ac_Mv.of (cc := cX8_clear) (maxL := 1) (ret := none) (by decide) rfl (Nat.le_of_ble_eq_true rfl) ?_
  intro p e s m below meth c A ls F hml hr hlocks hA hP hD hS hl
  have F : ac_X p s m [.ref (ad 43)].toArray c cX8_clear RX8 TB (dC, dI) vwCl (ac_ty cA) := ⟨F.1, F.2.1, fun w h => F.2.2.1 w (List.mem_cons_of_mem _ h), F.2.2.2.1, F.2.2.2.2⟩
  have hl : lv_has ls 1 [(0, .ref (ad 43))] := hl
  obtain ⟨RR, hRR⟩ : ∃ q, q = f_X8_clear_43 u0 := ⟨_, rfl⟩
  have hF : ac_Fr [(43, some 3), (43, some 4)] u0 u0 := ac_Fr.rf
  have hC : RR = f_X8_clear_43 u0 := hRR
  unfold f_X8_clear_43 at hC
  refine lv_aload_n F.1 F.2.1 dX8_clear_0 rfl (lv_at hl 0 rfl) ?_
  refine a_ic F (0 : Int32) dX8_clear_1 (by decide) ?_
  refine a_puti F inX8 tyX8 tyX8_ok nmX8 hP hD hS 43 3 tc_43 rfl rfl (by decide) q443 (fun _ h9 => h9) rfl (ty := .int) (tyX8_ok 3 (by decide)) rfl rfl dX8_clear_2 (fun H locs hP hD hS => ?_)
  have hR := hR.si (c := 43) (k := 3) (v := (0 : Int32)) (by rw [ic_0]; exact (by omega : (0 : Int) ≤ (0 : Int) ∧ (0 : Int) ≤ 40))
  have hF := hF.si (c := 43) (k := 3) (v := (0 : Int32)) rfl
  refine lv_aload_n F.1 F.2.1 dX8_clear_5 rfl (lv_at hl 0 rfl) ?_
  refine a_ic F (0 : Int32) dX8_clear_6 (by decide) ?_
  refine a_puti F inX8 tyX8 tyX8_ok nmX8 hP hD hS 43 4 tc_43 rfl rfl (by decide) q445 (fun _ h9 => h9) rfl (ty := .int) (tyX8_ok 4 (by decide)) rfl rfl dX8_clear_7 (fun H locs hP hD hS => ?_)
  have hR := hR.si (c := 43) (k := 4) (v := (0 : Int32)) (by rw [ic_0]; exact (by omega : (0 : Int) ≤ (0 : Int) ∧ (0 : Int) ≤ 20))
  have hF := hF.si (c := 43) (k := 4) (v := (0 : Int32)) rfl
  exact a_retv F hr hlocks hP hD hS dX8_clear_10 ⟨hR, hF, hRR.symm.trans hC⟩

def f_X11_house_0 (u0 : ac_U) : ac_U × Int32 := (bd (f_X3_readWhole_22 u0) (fun (u1 : ac_U) (r1 : Int32) => (if r1.toInt ≠ 0 then (vl (f_X2_copyFrom_4_13 (pI u1 1 2 (0 : Int32))) (fun (u3 : ac_U) => (vl (f_X6_begin_24 u3) (fun (u4 : ac_U) => (vl (f_X8_clear_43 u4) (fun (u5 : ac_U) => (u5, (u5.1 22 3)))))))) else (vl ((-1 : Int32) - (u1.1 1 11)) (fun (v8 : Int32) => ((pI u1 1 2 (0 : Int32)), v8))))))
set_option maxHeartbeats 600000 in
set_option maxRecDepth 100000 in
theorem x_X11_house_0 (l : Launch) (dC : Nat → ClassId) (dI : Nat → Nat → Nat) (ad : Nat → Nat) (cA : Nat → ClassId) (nF : Nat) (u0 : ac_U)  (hR : ac_R rg u0) (hK_N13 : nmI 20 21 u0) (hK_N4 : nmI 11 12 u0) : ac_Mi l yX11_house (.code yX11_house cX11_house 2 (some .int) :: TB) 8 (dC, dI) vwCl (ac_ty cA) ad cA (TT nF) [.ref (ad 0)] u0 (fun (r : Int32) (u : ac_U) => ac_R rg u ∧ ac_Fr [(1, some 2), (1, some 3), (1, some 4), (1, some 5), (1, some 6), (1, some 8), (1, some 9), (1, some 10), (1, some 11), (4, some 0), (4, some 1), (4, some 2), (4, some 3), (4, some 4), (4, some 5), (4, some 6), (4, some 7), (4, some 8), (5, none), (6, none), (7, none), (8, none), (9, none), (11, none), (12, none), (13, some 0), (13, some 1), (13, some 2), (13, some 3), (13, some 4), (13, some 5), (13, some 6), (13, some 7), (13, some 8), (14, none), (15, none), (16, none), (17, none), (18, none), (20, none), (21, none), (22, some 3), (22, some 4), (23, none), (24, some 5), (25, none), (43, some 3), (43, some 4)] u0 u ∧ ((-941 : Int) ≤ r.toInt ∧ r.toInt ≤ 940) ∧ nmI 20 21 u ∧ nmI 11 12 u ∧ (ln0 1) u ∧ f_X11_house_0 u0 = (u, r)) := by
  refine ac_Mi.of (cc := cX11_house) (maxL := 2) (ret := (some .int)) (by decide) rfl (Nat.le_of_ble_eq_true rfl) ?_
  intro p e s m below meth c A ls F hml hr hlocks hA hP hD hS hl
  have F : ac_X p s m [.ref (ad 0)].toArray c cX11_house RX11 TB (dC, dI) vwCl (ac_ty cA) := ⟨F.1, F.2.1, fun w h => F.2.2.1 w (List.mem_cons_of_mem _ h), F.2.2.2.1, F.2.2.2.2⟩
  have hl : lv_has ls 2 [(0, .ref (ad 0))] := hl
  obtain ⟨RR, hRR⟩ : ∃ q, q = f_X11_house_0 u0 := ⟨_, rfl⟩
  have hF : ac_Fr [(1, some 2), (1, some 3), (1, some 4), (1, some 5), (1, some 6), (1, some 8), (1, some 9), (1, some 10), (1, some 11), (4, some 0), (4, some 1), (4, some 2), (4, some 3), (4, some 4), (4, some 5), (4, some 6), (4, some 7), (4, some 8), (5, none), (6, none), (7, none), (8, none), (9, none), (11, none), (12, none), (13, some 0), (13, some 1), (13, some 2), (13, some 3), (13, some 4), (13, some 5), (13, some 6), (13, some 7), (13, some 8), (14, none), (15, none), (16, none), (17, none), (18, none), (20, none), (21, none), (22, some 3), (22, some 4), (23, none), (24, some 5), (25, none), (43, some 3), (43, some 4)] u0 u0 := ac_Fr.rf
  have hC : RR = f_X11_house_0 u0 := hRR
  unfold f_X11_house_0 at hC
  refine lv_aload_n F.1 F.2.1 dX11_house_0 rfl (lv_at hl 0 rfl) ?_
  refine a_getr F inX11 hP 0 3 tc_0 rfl rfl (by decide) q506 (fun _ h9 => h9) dX11_house_1 ?_
  refine a_Vi F hml hl.1 hA hP hD hS (As := []) (x_X3_readWhole_22 l dC dI ad cA nF _  hR hK_N13) (cs_RX11_119 (d := 7) F.2.2.1 (by decide)) tc_22 rfl rfl rfl rfl (Nat.le_of_ble_eq_true rfl) dX11_house_4 ⟨Nat.le_refl 0, Nat.le_refl 0⟩ (fun r1 u1 H locs hq hP hD hS => ?_)
  obtain ⟨hR, hF1, gr1, hK_N13, hz1⟩ := hq
  have hF := hF.tr hF1 (by decide)
  have hK_N4 := sp_fr sp_N4 hF1 (by decide) hK_N4
  have hC := bd_eq hC hz1
  refine lv_istore_n (lv' := [(1, .int r1), (0, .ref (ad 0))]) F.1 F.2.1 dX11_house_7 rfl hl (by decide) rfl (fun ls hl => ?_)
  refine lv_aload_n F.1 F.2.1 dX11_house_8 rfl (lv_at hl 1 rfl) ?_
  refine a_getr F inX11 hP 0 0 tc_0 rfl rfl (by decide) q503 (fun _ h9 => h9) dX11_house_9 ?_
  refine a_ic F (0 : Int32) dX11_house_12 (by decide) ?_
  refine a_puti F inX10 tyX10 tyX10_ok nmX10 hP hD hS 1 2 tc_1 rfl rfl (by decide) q96 (fun _ h9 => h9) rfl (ty := .int) (tyX10_ok 2 (by decide)) rfl rfl dX11_house_13 (fun H locs hP hD hS => ?_)
  have hR := hR.si (c := 1) (k := 2) (v := (0 : Int32)) (by rw [ic_0]; exact (by omega : (0 : Int) ≤ (0 : Int) ∧ (0 : Int) ≤ 940))
  have hF := hF.si (c := 1) (k := 2) (v := (0 : Int32)) rfl
  have hN_LC := ln0_D hD
  have hK_N13 := sp_sgD sp_N13 hD hK_N13 (by decide)
  have hK_N4 := sp_sgD sp_N4 hD hK_N4 (by decide)
  have hK_LC := hN_LC
  refine lv_iload_n F.1 F.2.1 dX11_house_16 rfl (lv_at hl 0 rfl) ?_
  refine z_ne F 30 dX11_house_17 (by decide) rfl (fun c2 => ?_) (fun c2 => ?_)
  · have hC := hC.trans (if_pos c2)
    refine lv_aload_n F.1 F.2.1 dX11_house_30 rfl (lv_at hl 1 rfl) ?_
    refine a_getr F inX11 hP 0 1 tc_0 rfl rfl (by decide) q504 (fun _ h9 => h9) dX11_house_31 ?_
    refine lv_aload_n F.1 F.2.1 dX11_house_34 rfl (lv_at hl 1 rfl) ?_
    refine a_getr F inX11 hP 0 2 tc_0 rfl rfl (by decide) q505 (fun _ h9 => h9) dX11_house_35 ?_
    refine a_Vv F hml hl.1 hA hP hD hS (As := [.ref (ad 13)]) (x_X2_copyFrom_4_13 l dC dI ad cA nF _  hR hK_N13) (cs_RX11_126 (d := 1) F.2.2.1 (by decide)) tc_4 rfl rfl rfl rfl (Nat.le_of_ble_eq_true rfl) dX11_house_38 ⟨Nat.le_refl 0, Nat.le_refl 0⟩ (fun u3 H locs hq hP hD hS => ?_)
    obtain ⟨hR, hF3, hK_N4, hz3⟩ := hq
    have hF := hF.tr hF3 (by decide)
    have hK_N13 := sp_fr sp_N13 hF3 (by decide) hK_N13
    have hK_LC := sp_fr (sp_ln0 1) hF3 (by decide) hK_LC
    have hC := vl_eq hC hz3.symm
    refine lv_aload_n F.1 F.2.1 dX11_house_41 rfl (lv_at hl 1 rfl) ?_
    refine a_getr F inX11 hP 0 4 tc_0 rfl rfl (by decide) q507 (fun _ h9 => h9) dX11_house_42 ?_
    refine a_Vv F hml hl.1 hA hP hD hS (As := []) (x_X6_begin_24 l dC dI ad cA nF _  hR) (cs_RX11_129 (d := 2) F.2.2.1 (by decide)) tc_24 rfl rfl rfl rfl (Nat.le_of_ble_eq_true rfl) dX11_house_45 ⟨Nat.le_refl 0, Nat.le_refl 0⟩ (fun u4 H locs hq hP hD hS => ?_)
    obtain ⟨hR, hF4, hz4⟩ := hq
    have hF := hF.tr hF4 (by decide)
    have hK_N13 := sp_fr sp_N13 hF4 (by decide) hK_N13
    have hK_N4 := sp_fr sp_N4 hF4 (by decide) hK_N4
    have hK_LC := sp_fr (sp_ln0 1) hF4 (by decide) hK_LC
    have hC := vl_eq hC hz4.symm
    refine lv_aload_n F.1 F.2.1 dX11_house_48 rfl (lv_at hl 1 rfl) ?_
    refine a_getr F inX11 hP 0 9 tc_0 rfl rfl (by decide) q512 (fun _ h9 => h9) dX11_house_49 ?_
    refine a_Vv F hml hl.1 hA hP hD hS (As := []) (x_X8_clear_43 l dC dI ad cA nF _  hR) (cs_RX11_132 (d := 1) F.2.2.1 (by decide)) tc_43 rfl rfl rfl rfl (Nat.le_of_ble_eq_true rfl) dX11_house_52 ⟨Nat.le_refl 0, Nat.le_refl 0⟩ (fun u5 H locs hq hP hD hS => ?_)
    obtain ⟨hR, hF5, hz5⟩ := hq
    have hF := hF.tr hF5 (by decide)
    have hK_N13 := sp_fr sp_N13 hF5 (by decide) hK_N13
    have hK_N4 := sp_fr sp_N4 hF5 (by decide) hK_N4
    have hK_LC := sp_fr (sp_ln0 1) hF5 (by decide) hK_LC
    have hC := vl_eq hC hz5.symm
    refine lv_aload_n F.1 F.2.1 dX11_house_55 rfl (lv_at hl 1 rfl) ?_
    refine a_getr F inX11 hP 0 3 tc_0 rfl rfl (by decide) q506 (fun _ h9 => h9) dX11_house_56 ?_
    have g6 : (0 : Int) ≤ (u5.1 22 3).toInt ∧ (u5.1 22 3).toInt ≤ 940 := hR 22 3
    refine a_geti F inX3 hP 22 3 tc_22 rfl rfl (by decide) q248 (fun _ h9 => h9) (v := (u5.1 22 3)) rfl dX11_house_59 ?_
    exact a_reti F hr hlocks hP hD hS dX11_house_62 ⟨hR, hF, (by omega : (-941 : Int) ≤ (u5.1 22 3).toInt ∧ (u5.1 22 3).toInt ≤ 940), hK_N13, hK_N4, hK_LC, hRR.symm.trans hC⟩
  · have hC := hC.trans (if_neg (by omega))
    refine a_ic F (-1 : Int32) dX11_house_20 (by decide) ?_
    refine lv_aload_n F.1 F.2.1 dX11_house_21 rfl (lv_at hl 1 rfl) ?_
    refine a_getr F inX11 hP 0 0 tc_0 rfl rfl (by decide) q503 (fun _ h9 => h9) dX11_house_22 ?_
    have g7 : (0 : Int) ≤ (u1.1 1 11).toInt ∧ (u1.1 1 11).toInt ≤ 940 := hR 1 11
    refine a_geti F inX10 hP 1 11 tc_1 rfl rfl (by decide) q117 (fun _ h9 => h9) (v := (u1.1 1 11)) rfl dX11_house_25 ?_
    refine a_isubX F dX11_house_28 ic_m1 rfl (by omega) (fun v8 hv8 yv8 => ?_)
    have hC := vl_eq hC yv8
    exact a_reti F hr hlocks hP hD hS dX11_house_29 ⟨hR, hF, (by omega : (-941 : Int) ≤ v8.toInt ∧ v8.toInt ≤ 940), hK_N13, hK_N4, hK_LC, hRR.symm.trans hC⟩
def K_X12_isIn_14 (u0 : ac_U) (p0 : Int32) (p1 : Int32) (p2 : Int32) : Int32 := (0 : Int32)
def f_X12_isIn (u0 : ac_U) (p0 : Int32) (p1 : Int32) (p2 : Int32) : Int32 := (if p0.toInt < p1.toInt then (K_X12_isIn_14 u0 p0 p1 p2) else (if p2.toInt < p0.toInt then (K_X12_isIn_14 u0 p0 p1 p2) else (1 : Int32)))
set_option maxHeartbeats 600000 in
set_option maxRecDepth 100000 in
theorem x_X12_isIn (l : Launch) (dC : Nat → ClassId) (dI : Nat → Nat → Nat) (ad : Nat → Nat) (cA : Nat → ClassId) (nF : Nat) (u0 : ac_U) (p0 : Int32) (p1 : Int32) (p2 : Int32) (hR : ac_R rg u0) (hp2 : p2.toInt ≤ 1000) : ac_Mi l yX12_isIn (.code yX12_isIn cX12_isIn 3 (some .boolean) :: TB) 1 (dC, dI) vwCl (ac_ty cA) ad cA (TT nF) [.int p0, .int p1, .int p2] u0 (fun (r : Int32) (u : ac_U) => u = u0 ∧ ((0 : Int) ≤ r.toInt ∧ r.toInt ≤ 1) ∧ (r.toInt ≠ 0 → p1.toInt ≤ p0.toInt ∧ p0.toInt ≤ p2.toInt) ∧ f_X12_isIn u0 p0 p1 p2 = r) := by
  refine ac_Mi.of (cc := cX12_isIn) (maxL := 3) (ret := (some .boolean)) (by decide) rfl (Nat.le_of_ble_eq_true rfl) ?_
  intro p e s m below meth c A ls F hml hr hlocks hA hP hD hS hl
  have F : ac_X p s m [.int p0, .int p1, .int p2].toArray c cX12_isIn RX12 TB (dC, dI) vwCl (ac_ty cA) := ⟨F.1, F.2.1, fun w h => F.2.2.1 w (List.mem_cons_of_mem _ h), F.2.2.2.1, F.2.2.2.2⟩
  have hl : lv_has ls 3 [(0, .int p0), (1, .int p1), (2, .int p2)] := hl
  obtain ⟨RR, hRR⟩ : ∃ q, q = f_X12_isIn u0 p0 p1 p2 := ⟨_, rfl⟩
  have L14 : ∀ (H : Heap) (locs : List Loc) (ls : Array Slot), RR = (K_X12_isIn_14 u0 p0 p1 p2) → va_P (dC, dI) vwCl (ac_w ad cA (TT nF) u0) H → va_D A (ac_w ad cA (TT nF) u0) → va_S A s.heap H locs → lv_has ls 3 [] → W p l e (ac_rm 1) s m [.int p0, .int p1, .int p2].toArray below meth c H locs 0 0 (MQ below (va_Qi (fun (r : Int32) (u : ac_U) => u = u0 ∧ ((0 : Int) ≤ r.toInt ∧ r.toInt ≤ 1) ∧ (r.toInt ≠ 0 → p1.toInt ≤ p0.toInt ∧ p0.toInt ≤ p2.toInt) ∧ f_X12_isIn u0 p0 p1 p2 = r) (ac_B (dC, dI) vwCl (ac_ty cA) ad cA (TT nF) A) A) [.int p0, .int p1, .int p2].toArray s 0 0 A) (F0 m 14 ls []) := by
    intro H locs ls hC hP hD hS hl
    unfold K_X12_isIn_14 at hC
    refine a_ic F (0 : Int32) dX12_isIn_14 (by decide) ?_
    exact a_retz F hr hlocks hP hD hS dX12_isIn_15 (Or.inl rfl) ⟨rfl, (by decide), (by first | exact (by omega : (0 : Int) ≠ 0 → p1.toInt ≤ p0.toInt ∧ p0.toInt ≤ p2.toInt) | (rw [ic_0]; exact (by omega : (0 : Int) ≠ 0 → p1.toInt ≤ p0.toInt ∧ p0.toInt ≤ p2.toInt))), hRR.symm.trans hC⟩
  have hC : RR = f_X12_isIn u0 p0 p1 p2 := hRR
  unfold f_X12_isIn at hC
  refine lv_iload_n F.1 F.2.1 dX12_isIn_0 rfl (lv_at hl 0 rfl) ?_
  refine lv_iload_n F.1 F.2.1 dX12_isIn_1 rfl (lv_at hl 1 rfl) ?_
  refine b_lt F 14 dX12_isIn_2 (by decide) rfl rfl (fun c1 => ?_) (fun c1 => ?_)
  · have hC := hC.trans (if_pos c1)
    exact L14 _ _ _  hC hP hD hS (lv_sub hl [] rfl)
  · have hC := hC.trans (if_neg (by omega))
    refine lv_iload_n F.1 F.2.1 dX12_isIn_5 rfl (lv_at hl 0 rfl) ?_
    refine lv_iload_n F.1 F.2.1 dX12_isIn_6 rfl (lv_at hl 2 rfl) ?_
    refine b_gt F 14 dX12_isIn_7 (by decide) rfl rfl (fun c2 => ?_) (fun c2 => ?_)
    · have hC := hC.trans (if_pos c2)
      exact L14 _ _ _  hC hP hD hS (lv_sub hl [] rfl)
    · have hC := hC.trans (if_neg (by omega))
      refine a_ic F (1 : Int32) dX12_isIn_10 (by decide) ?_
      refine lv_goto (tgt := 15) F.1 F.2.1 dX12_isIn_11 (by decide) ?_
      exact a_retz F hr hlocks hP hD hS dX12_isIn_15 (Or.inr rfl) ⟨rfl, (by decide), (by first | exact (by omega : (1 : Int) ≠ 0 → p1.toInt ≤ p0.toInt ∧ p0.toInt ≤ p2.toInt) | (rw [ic_1]; exact (by omega : (1 : Int) ≠ 0 → p1.toInt ≤ p0.toInt ∧ p0.toInt ≤ p2.toInt))), hRR.symm.trans hC⟩

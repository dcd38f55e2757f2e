def K_X9_readOne_51_d3_53 (u0 : ac_U) (p0 : Int32) (u : ac_U) : ac_U × Int32 := (bd (f_X10_fail_1 u (4 : Int32)) (fun (u1 : ac_U) (r1 : Int32) => (u1, r1)))
def K_X9_readOne_51_d3_35 (u0 : ac_U) (p0 : Int32) (u : ac_U) (x2 : Int32) : ac_U × Int32 := (if (20 : Int) ≤ (u.1 47 4).toInt then (K_X9_readOne_51_d3_53 u0 p0 u) else (if p0.toInt ≤ (8 : Int) then (vl ((u.1 47 4) + (1 : Int32)) (fun (v6 : Int32) => (if x2.toInt ≠ (40 : Int) then (if x2.toInt ≠ (116 : Int) then (if x2.toInt ≠ (122 : Int) then (if x2.toInt ≤ (122 : Int) then (bd (f_X9_readStatus_51 (pI u 47 4 v6) x2) (fun (u11 : ac_U) (r11 : Int32) => (u11, r11))) else (bd (f_X9_readCompare_51 (pI u 47 4 v6) x2) (fun (u12 : ac_U) (r12 : Int32) => (u12, r12)))) else (bd (f_X9_readOf_51 (pI u 47 4 v6)) (fun (u13 : ac_U) (r13 : Int32) => (u13, r13)))) else (bd (f_X9_readNot_51_d3 (pI u 47 4 v6) p0) (fun (u14 : ac_U) (r14 : Int32) => (u14, r14)))) else (bd (f_X9_readBracket_51_d3 (pI u 47 4 v6) p0) (fun (u15 : ac_U) (r15 : Int32) => (u15, r15)))))) else (u, 0)))
def K_X9_readOne_51_d3_26 (u0 : ac_U) (p0 : Int32) (u : ac_U) : ac_U × Int32 := (bd (f_X10_fail_1 u (1 : Int32)) (fun (u16 : ac_U) (r16 : Int32) => (u16, r16)))
def f_X9_readOne_51_d3 (u0 : ac_U) (p0 : Int32) : ac_U × Int32 := (if (u0.1 1 6).toInt = (40 : Int) then (K_X9_readOne_51_d3_35 u0 p0 u0 (u0.1 1 6)) else (if (u0.1 1 6).toInt < (116 : Int) then (K_X9_readOne_51_d3_26 u0 p0 u0) else (if (u0.1 1 6).toInt ≤ (126 : Int) then (K_X9_readOne_51_d3_35 u0 p0 u0 (u0.1 1 6)) else (K_X9_readOne_51_d3_26 u0 p0 u0))))
set_option maxHeartbeats 600000 in
set_option maxRecDepth 100000 in
theorem x_X9_readOne_51_d3 (l : Launch) (dC : Nat → ClassId) (dI : Nat → Nat → Nat) (ad : Nat → Nat) (cA : Nat → ClassId) (nF : Nat) (u0 : ac_U) (p0 : Int32) (hR : ac_R rg u0) (hp0 : (3 : Int) ≤ p0.toInt ∧ p0.toInt ≤ 3) (hK_N4 : nmI 11 12 u0) : ac_Mi l yX9_readOne (.code yX9_readOne cX9_readOne 3 (some .boolean) :: TB) 26 (dC, dI) vwCl (ac_ty cA) ad cA (TT nF) [.ref (ad 51), .int p0] u0 (fun (r : Int32) (u : ac_U) => ac_R rg u ∧ ac_Fr [(1, some 4), (1, some 5), (1, some 6), (1, some 8), (1, some 9), (1, some 10), (1, some 11), (47, some 3), (47, some 4), (48, none), (49, none), (50, none)] u0 u ∧ ((0 : Int) ≤ r.toInt ∧ r.toInt ≤ 1) ∧ f_X9_readOne_51_d3 u0 p0 = (u, r)) := by
  refine ac_Mi.of (cc := cX9_readOne) (maxL := 3) (ret := (some .boolean)) (by decide) rfl (Nat.le_of_ble_eq_true rfl) ?_
  intro p e s m below meth c A ls F hml hr hlocks hA hP hD hS hl
  have F : ac_X p s m [.ref (ad 51), .int p0].toArray c cX9_readOne RX9 TB (dC, dI) vwCl (ac_ty cA) := ⟨F.1, F.2.1, fun w h => F.2.2.1 w (List.mem_cons_of_mem _ h), F.2.2.2.1, F.2.2.2.2⟩
  have hl : lv_has ls 3 [(0, .ref (ad 51)), (1, .int p0)] := hl
  obtain ⟨RR, hRR⟩ : ∃ q, q = f_X9_readOne_51_d3 u0 p0 := ⟨_, rfl⟩
  have hF : ac_Fr [(1, some 4), (1, some 5), (1, some 6), (1, some 8), (1, some 9), (1, some 10), (1, some 11), (47, some 3), (47, some 4), (48, none), (49, none), (50, none)] u0 u0 := ac_Fr.rf
  have L53 : ∀ (u : ac_U) (H : Heap) (locs : List Loc) (ls : Array Slot), ac_R rg u → ac_Fr [(1, some 4), (1, some 5), (1, some 6), (1, some 8), (1, some 9), (1, some 10), (1, some 11), (47, some 3), (47, some 4), (48, none), (49, none), (50, none)] u0 u → nmI 11 12 u → (40 : Int) ≤ (u.1 1 6).toInt ∧ (u.1 1 6).toInt ≤ 126 → (20 : Int) ≤ (u.1 47 4).toInt ∧ (u.1 47 4).toInt ≤ 20 → RR = (K_X9_readOne_51_d3_53 u0 p0 u) → va_P (dC, dI) vwCl (ac_w ad cA (TT nF) u) H → va_D A (ac_w ad cA (TT nF) u) → va_S A s.heap H locs → lv_has ls 3 [(0, .ref (ad 51))] → W p l e (ac_rm 26) s m [.ref (ad 51), .int p0].toArray below meth c H locs 0 0 (MQ below (va_Qi (fun (r : Int32) (u : ac_U) => ac_R rg u ∧ ac_Fr [(1, some 4), (1, some 5), (1, some 6), (1, some 8), (1, some 9), (1, some 10), (1, some 11), (47, some 3), (47, some 4), (48, none), (49, none), (50, none)] u0 u ∧ ((0 : Int) ≤ r.toInt ∧ r.toInt ≤ 1) ∧ f_X9_readOne_51_d3 u0 p0 = (u, r)) (ac_B (dC, dI) vwCl (ac_ty cA) ad cA (TT nF) A) A) [.ref (ad 51), .int p0].toArray s 0 0 A) (F0 m 53 ls []) := by
    intro u H locs ls hR hF hK_N4 f0 f1 hC hP hD hS hl
    unfold K_X9_readOne_51_d3_53 at hC
    refine lv_aload_n F.1 F.2.1 dX9_readOne_53 rfl (lv_at hl 0 rfl) ?_
    refine a_getr F inX9 hP 51 0 tc_51 rfl rfl (by decide) q465 (fun _ h9 => h9) dX9_readOne_54 ?_
    refine a_ic F (4 : Int32) dX9_readOne_57 (by decide) ?_
    refine a_Vi F hml hl.1 hA hP hD hS (As := [.int (4 : Int32)]) (x_X10_fail_1 l dC dI ad cA nF _ (4 : Int32) hR (by decide)) (cs_RX9_38 (d := 1) F.2.2.1 (by decide)) tc_1 rfl rfl rfl rfl (Nat.le_of_ble_eq_true rfl) dX9_readOne_58 ⟨Nat.le_refl 0, Nat.le_refl 0⟩ (fun r1 u1 H locs hq hP hD hS => ?_)
    obtain ⟨hR, hF1, gr1, hz1⟩ := hq
    have hF := hF.tr hF1 (by decide)
    have hK_N4 := sp_fr sp_N4 hF1 (by decide) hK_N4
    have hC := bd_eq hC hz1
    exact a_retz F hr hlocks hP hD hS dX9_readOne_61 (i_01 (by omega)) ⟨hR, hF, (by omega : (0 : Int) ≤ r1.toInt ∧ r1.toInt ≤ 1), hRR.symm.trans hC⟩
  have L35 : ∀ (x2 : Int32) (u : ac_U) (H : Heap) (locs : List Loc) (ls : Array Slot), ac_R rg u → ac_Fr [(1, some 4), (1, some 5), (1, some 6), (1, some 8), (1, some 9), (1, some 10), (1, some 11), (47, some 3), (47, some 4), (48, none), (49, none), (50, none)] u0 u → nmI 11 12 u → (40 : Int) ≤ x2.toInt ∧ x2.toInt ≤ 126 → (40 : Int) ≤ (u.1 1 6).toInt ∧ (u.1 1 6).toInt ≤ 126 → RR = (K_X9_readOne_51_d3_35 u0 p0 u x2) → va_P (dC, dI) vwCl (ac_w ad cA (TT nF) u) H → va_D A (ac_w ad cA (TT nF) u) → va_S A s.heap H locs → lv_has ls 3 [(0, .ref (ad 51)), (1, .int p0), (2, .int x2)] → W p l e (ac_rm 26) s m [.ref (ad 51), .int p0].toArray below meth c H locs 0 0 (MQ below (va_Qi (fun (r : Int32) (u : ac_U) => ac_R rg u ∧ ac_Fr [(1, some 4), (1, some 5), (1, some 6), (1, some 8), (1, some 9), (1, some 10), (1, some 11), (47, some 3), (47, some 4), (48, none), (49, none), (50, none)] u0 u ∧ ((0 : Int) ≤ r.toInt ∧ r.toInt ≤ 1) ∧ f_X9_readOne_51_d3 u0 p0 = (u, r)) (ac_B (dC, dI) vwCl (ac_ty cA) ad cA (TT nF) A) A) [.ref (ad 51), .int p0].toArray s 0 0 A) (F0 m 35 ls []) := by
    intro x2 u H locs ls hR hF hK_N4 f0 f1 hC hP hD hS hl
    unfold K_X9_readOne_51_d3_35 at hC
    refine lv_aload_n F.1 F.2.1 dX9_readOne_35 rfl (lv_at hl 0 rfl) ?_
    refine a_getr F inX9 hP 51 2 tc_51 rfl rfl (by decide) q467 (fun _ h9 => h9) dX9_readOne_36 ?_
    have g2 : (0 : Int) ≤ (u.1 47 4).toInt ∧ (u.1 47 4).toInt ≤ 20 := hR 47 4
    refine a_geti F inX8 hP 47 4 tc_47 rfl rfl (by decide) q446 (fun _ h9 => h9) (v := (u.1 47 4)) rfl dX9_readOne_39 ?_
    refine a_bp F (20 : Int32) dX9_readOne_42 (by decide) ?_
    refine b_ge F 53 dX9_readOne_44 (by decide) rfl ic_20 (fun c3 => ?_) (fun c3 => ?_)
    · have hC := hC.trans (if_pos c3)
      have g4 : (-128 : Int) ≤ (u.1 1 6).toInt ∧ (u.1 1 6).toInt ≤ 127 := hR 1 6
      exact L53 _ _ _ _ hR hF hK_N4 (by omega : (40 : Int) ≤ (u.1 1 6).toInt ∧ (u.1 1 6).toInt ≤ 126) (by omega : (20 : Int) ≤ (u.1 47 4).toInt ∧ (u.1 47 4).toInt ≤ 20) hC hP hD hS (lv_sub hl [0] rfl)
    · have hC := hC.trans (if_neg (by omega))
      refine lv_iload_n F.1 F.2.1 dX9_readOne_47 rfl (lv_at hl 1 rfl) ?_
      refine a_bp F (8 : Int32) dX9_readOne_48 (by decide) ?_
      refine b_le F 62 dX9_readOne_50 (by decide) rfl ic_8 (fun c5 => ?_) (fun c5 => ?_)
      · have hC := hC.trans (if_pos c5)
        refine lv_aload_n F.1 F.2.1 dX9_readOne_62 rfl (lv_at hl 0 rfl) ?_
        refine a_getr F inX9 hP 51 2 tc_51 rfl rfl (by decide) q467 (fun _ h9 => h9) dX9_readOne_63 ?_
        refine lv_dup F.1 F.2.1 dX9_readOne_66 rfl ?_
        refine a_geti F inX8 hP 47 4 tc_47 rfl rfl (by decide) q446 (fun _ h9 => h9) (v := (u.1 47 4)) (rfl) dX9_readOne_67 ?_
        refine a_ic F (1 : Int32) dX9_readOne_70 (by decide) ?_
        refine a_iaddX F dX9_readOne_71 rfl ic_1 (by omega) (fun v6 hv6 yv6 => ?_)
        have hC := vl_eq hC yv6
        refine a_puti F inX8 tyX8 tyX8_ok nmX8 hP hD hS 47 4 tc_47 rfl rfl (by decide) q446 (fun _ h9 => h9) rfl (ty := .int) (tyX8_ok 4 (by decide)) rfl rfl dX9_readOne_72 (fun H locs hP hD hS => ?_)
        have hR := hR.si (c := 47) (k := 4) (v := v6) (by omega : (0 : Int) ≤ v6.toInt ∧ v6.toInt ≤ 20)
        have hF := hF.si (c := 47) (k := 4) (v := v6) rfl
        have hK_N4 := sp_sgD sp_N4 hD hK_N4 (by decide)
        refine lv_iload_n F.1 F.2.1 dX9_readOne_75 rfl (lv_at hl 2 rfl) ?_
        refine a_bp F (40 : Int32) dX9_readOne_76 (by decide) ?_
        refine b_ne F 87 dX9_readOne_78 (by decide) rfl ic_40 (fun c7 => ?_) (fun c7 => ?_)
        · have hC := hC.trans (if_pos c7)
          refine lv_iload_n F.1 F.2.1 dX9_readOne_87 rfl (lv_at hl 2 rfl) ?_
          refine a_bp F (116 : Int32) dX9_readOne_88 (by decide) ?_
          refine b_ne F 99 dX9_readOne_90 (by decide) rfl ic_116 (fun c8 => ?_) (fun c8 => ?_)
          · have hC := hC.trans (if_pos c8)
            refine lv_iload_n F.1 F.2.1 dX9_readOne_99 rfl (lv_at hl 2 rfl) ?_
            refine a_bp F (122 : Int32) dX9_readOne_100 (by decide) ?_
            refine b_ne F 110 dX9_readOne_102 (by decide) rfl ic_122 (fun c9 => ?_) (fun c9 => ?_)
            · have hC := hC.trans (if_pos c9)
              refine lv_iload_n F.1 F.2.1 dX9_readOne_110 rfl (lv_at hl 2 rfl) ?_
              refine a_bp F (122 : Int32) dX9_readOne_111 (by decide) ?_
              refine b_le F 124 dX9_readOne_113 (by decide) rfl ic_122 (fun c10 => ?_) (fun c10 => ?_)
              · have hC := hC.trans (if_pos c10)
                refine lv_aload_n F.1 F.2.1 dX9_readOne_124 rfl (lv_at hl 0 rfl) ?_
                refine lv_iload_n F.1 F.2.1 dX9_readOne_125 rfl (lv_at hl 2 rfl) ?_
                refine a_Vi F hml hl.1 hA hP hD hS (As := [.int x2]) (x_X9_readStatus_51 l dC dI ad cA nF _ x2 hR (by omega)) (cs_RX9_71 (d := 4) F.2.2.1 (by decide)) tc_51 rfl rfl rfl rfl (Nat.le_of_ble_eq_true rfl) dX9_readOne_126 ⟨Nat.le_refl 0, Nat.le_refl 0⟩ (fun r11 u11 H locs hq hP hD hS => ?_)
                obtain ⟨hR, hF11, gr11, hz11⟩ := hq
                have hF := hF.tr hF11 (by decide)
                have hK_N4 := sp_fr sp_N4 hF11 (by decide) hK_N4
                have hC := bd_eq hC hz11
                exact a_retz F hr hlocks hP hD hS dX9_readOne_129 (i_01 (by omega)) ⟨hR, hF, (by omega : (0 : Int) ≤ r11.toInt ∧ r11.toInt ≤ 1), hRR.symm.trans hC⟩
              · have hC := hC.trans (if_neg (by omega))
                refine lv_aload_n F.1 F.2.1 dX9_readOne_116 rfl (lv_at hl 0 rfl) ?_
                refine lv_iload_n F.1 F.2.1 dX9_readOne_117 rfl (lv_at hl 2 rfl) ?_
                refine a_Vi F hml hl.1 hA hP hD hS (As := [.int x2]) (x_X9_readCompare_51 l dC dI ad cA nF _ x2 hR (by omega)) (cs_RX9_68 (d := 4) F.2.2.1 (by decide)) tc_51 rfl rfl rfl rfl (Nat.le_of_ble_eq_true rfl) dX9_readOne_118 ⟨Nat.le_refl 0, Nat.le_refl 0⟩ (fun r12 u12 H locs hq hP hD hS => ?_)
                obtain ⟨hR, hF12, gr12, hz12⟩ := hq
                have hF := hF.tr hF12 (by decide)
                have hK_N4 := sp_fr sp_N4 hF12 (by decide) hK_N4
                have hC := bd_eq hC hz12
                refine lv_goto (tgt := 129) F.1 F.2.1 dX9_readOne_121 (by decide) ?_
                exact a_retz F hr hlocks hP hD hS dX9_readOne_129 (i_01 (by omega)) ⟨hR, hF, (by omega : (0 : Int) ≤ r12.toInt ∧ r12.toInt ≤ 1), hRR.symm.trans hC⟩
            · have hC := hC.trans (if_neg (by omega))
              refine lv_aload_n F.1 F.2.1 dX9_readOne_105 rfl (lv_at hl 0 rfl) ?_
              refine a_Vi F hml hl.1 hA hP hD hS (As := []) (x_X9_readOf_51 l dC dI ad cA nF _  hR hK_N4) (cs_RX9_64 (d := 4) F.2.2.1 (by decide)) tc_51 rfl rfl rfl rfl (Nat.le_of_ble_eq_true rfl) dX9_readOne_106 ⟨Nat.le_refl 0, Nat.le_refl 0⟩ (fun r13 u13 H locs hq hP hD hS => ?_)
              obtain ⟨hR, hF13, gr13, hz13⟩ := hq
              have hF := hF.tr hF13 (by decide)
              have hK_N4 := sp_fr sp_N4 hF13 (by decide) hK_N4
              have hC := bd_eq hC hz13
              exact a_retz F hr hlocks hP hD hS dX9_readOne_109 (i_01 (by omega)) ⟨hR, hF, (by omega : (0 : Int) ≤ r13.toInt ∧ r13.toInt ≤ 1), hRR.symm.trans hC⟩
          · have hC := hC.trans (if_neg (by omega))
            refine lv_aload_n F.1 F.2.1 dX9_readOne_93 rfl (lv_at hl 0 rfl) ?_
            refine lv_iload_n F.1 F.2.1 dX9_readOne_94 rfl (lv_at hl 1 rfl) ?_
            refine a_Vi F hml hl.1 hA hP hD hS (As := [.int p0]) (x_X9_readNot_51_d3 l dC dI ad cA nF _ p0 hR (by omega) hK_N4) (cs_RX9_61 (d := 23) F.2.2.1 (by decide)) tc_51 rfl rfl rfl rfl (Nat.le_of_ble_eq_true rfl) dX9_readOne_95 ⟨Nat.le_refl 0, Nat.le_refl 0⟩ (fun r14 u14 H locs hq hP hD hS => ?_)
            obtain ⟨hR, hF14, gr14, hz14⟩ := hq
            have hF := hF.tr hF14 (by decide)
            have hK_N4 := sp_fr sp_N4 hF14 (by decide) hK_N4
            have hC := bd_eq hC hz14
            exact a_retz F hr hlocks hP hD hS dX9_readOne_98 (i_01 (by omega)) ⟨hR, hF, (by omega : (0 : Int) ≤ r14.toInt ∧ r14.toInt ≤ 1), hRR.symm.trans hC⟩
        · have hC := hC.trans (if_neg (by omega))
          refine lv_aload_n F.1 F.2.1 dX9_readOne_81 rfl (lv_at hl 0 rfl) ?_
          refine lv_iload_n F.1 F.2.1 dX9_readOne_82 rfl (lv_at hl 1 rfl) ?_
          refine a_Vi F hml hl.1 hA hP hD hS (As := [.int p0]) (x_X9_readBracket_51_d3 l dC dI ad cA nF _ p0 hR (by omega) hK_N4) (cs_RX9_58 (d := 25) F.2.2.1 (by decide)) tc_51 rfl rfl rfl rfl (Nat.le_of_ble_eq_true rfl) dX9_readOne_83 ⟨Nat.le_refl 0, Nat.le_refl 0⟩ (fun r15 u15 H locs hq hP hD hS => ?_)
          obtain ⟨hR, hF15, gr15, hz15⟩ := hq
          have hF := hF.tr hF15 (by decide)
          have hK_N4 := sp_fr sp_N4 hF15 (by decide) hK_N4
          have hC := bd_eq hC hz15
          exact a_retz F hr hlocks hP hD hS dX9_readOne_86 (i_01 (by omega)) ⟨hR, hF, (by omega : (0 : Int) ≤ r15.toInt ∧ r15.toInt ≤ 1), hRR.symm.trans hC⟩
      · exfalso; omega
  have L26 : ∀ (u : ac_U) (H : Heap) (locs : List Loc) (ls : Array Slot), ac_R rg u → ac_Fr [(1, some 4), (1, some 5), (1, some 6), (1, some 8), (1, some 9), (1, some 10), (1, some 11), (47, some 3), (47, some 4), (48, none), (49, none), (50, none)] u0 u → nmI 11 12 u → (-128 : Int) ≤ (u.1 1 6).toInt ∧ (u.1 1 6).toInt ≤ 127 → RR = (K_X9_readOne_51_d3_26 u0 p0 u) → va_P (dC, dI) vwCl (ac_w ad cA (TT nF) u) H → va_D A (ac_w ad cA (TT nF) u) → va_S A s.heap H locs → lv_has ls 3 [(0, .ref (ad 51))] → W p l e (ac_rm 26) s m [.ref (ad 51), .int p0].toArray below meth c H locs 0 0 (MQ below (va_Qi (fun (r : Int32) (u : ac_U) => ac_R rg u ∧ ac_Fr [(1, some 4), (1, some 5), (1, some 6), (1, some 8), (1, some 9), (1, some 10), (1, some 11), (47, some 3), (47, some 4), (48, none), (49, none), (50, none)] u0 u ∧ ((0 : Int) ≤ r.toInt ∧ r.toInt ≤ 1) ∧ f_X9_readOne_51_d3 u0 p0 = (u, r)) (ac_B (dC, dI) vwCl (ac_ty cA) ad cA (TT nF) A) A) [.ref (ad 51), .int p0].toArray s 0 0 A) (F0 m 26 ls []) := by
    intro u H locs ls hR hF hK_N4 f0 hC hP hD hS hl
    unfold K_X9_readOne_51_d3_26 at hC
    refine lv_aload_n F.1 F.2.1 dX9_readOne_26 rfl (lv_at hl 0 rfl) ?_
    refine a_getr F inX9 hP 51 0 tc_51 rfl rfl (by decide) q465 (fun _ h9 => h9) dX9_readOne_27 ?_
    refine a_ic F (1 : Int32) dX9_readOne_30 (by decide) ?_
    refine a_Vi F hml hl.1 hA hP hD hS (As := [.int (1 : Int32)]) (x_X10_fail_1 l dC dI ad cA nF _ (1 : Int32) hR (by decide)) (cs_RX9_38 (d := 1) F.2.2.1 (by decide)) tc_1 rfl rfl rfl rfl (Nat.le_of_ble_eq_true rfl) dX9_readOne_31 ⟨Nat.le_refl 0, Nat.le_refl 0⟩ (fun r16 u16 H locs hq hP hD hS => ?_)
    obtain ⟨hR, hF16, gr16, hz16⟩ := hq
    have hF := hF.tr hF16 (by decide)
    have hK_N4 := sp_fr sp_N4 hF16 (by decide) hK_N4
    have hC := bd_eq hC hz16
    exact a_retz F hr hlocks hP hD hS dX9_readOne_34 (i_01 (by omega)) ⟨hR, hF, (by omega : (0 : Int) ≤ r16.toInt ∧ r16.toInt ≤ 1), hRR.symm.trans hC⟩
  have hC : RR = f_X9_readOne_51_d3 u0 p0 := hRR
  unfold f_X9_readOne_51_d3 at hC
  refine lv_aload_n F.1 F.2.1 dX9_readOne_0 rfl (lv_at hl 0 rfl) ?_
  refine a_getr F inX9 hP 51 0 tc_51 rfl rfl (by decide) q465 (fun _ h9 => h9) dX9_readOne_1 ?_
  have g17 : (-128 : Int) ≤ (u0.1 1 6).toInt ∧ (u0.1 1 6).toInt ≤ 127 := hR 1 6
  refine a_geti F inX10 hP 1 6 tc_1 rfl rfl (by decide) q103 (fun _ h9 => h9) (v := (u0.1 1 6)) rfl dX9_readOne_4 ?_
  refine lv_istore_n (lv' := [(2, .int (u0.1 1 6)), (0, .ref (ad 51)), (1, .int p0)]) F.1 F.2.1 dX9_readOne_7 rfl hl (by decide) rfl (fun ls hl => ?_)
  refine lv_iload_n F.1 F.2.1 dX9_readOne_8 rfl (lv_at hl 0 rfl) ?_
  refine a_bp F (40 : Int32) dX9_readOne_9 (by decide) ?_
  refine b_eq F 35 dX9_readOne_11 (by decide) rfl ic_40 (fun c18 => ?_) (fun c18 => ?_)
  · have hC := hC.trans (if_pos c18)
    exact L35 (u0.1 1 6) _ _ _ _ hR hF hK_N4 (by omega) (by omega : (40 : Int) ≤ (u0.1 1 6).toInt ∧ (u0.1 1 6).toInt ≤ 126) hC hP hD hS (lv_sub hl [1, 2, 0] rfl)
  · have hC := hC.trans (if_neg (by omega))
    refine lv_iload_n F.1 F.2.1 dX9_readOne_14 rfl (lv_at hl 0 rfl) ?_
    refine a_bp F (116 : Int32) dX9_readOne_15 (by decide) ?_
    refine b_lt F 26 dX9_readOne_17 (by decide) rfl ic_116 (fun c19 => ?_) (fun c19 => ?_)
    · have hC := hC.trans (if_pos c19)
      exact L26 _ _ _ _ hR hF hK_N4 (by omega : (-128 : Int) ≤ (u0.1 1 6).toInt ∧ (u0.1 1 6).toInt ≤ 127) hC hP hD hS (lv_sub hl [1] rfl)
    · have hC := hC.trans (if_neg (by omega))
      refine lv_iload_n F.1 F.2.1 dX9_readOne_20 rfl (lv_at hl 0 rfl) ?_
      refine a_bp F (126 : Int32) dX9_readOne_21 (by decide) ?_
      refine b_le F 35 dX9_readOne_23 (by decide) rfl ic_126 (fun c20 => ?_) (fun c20 => ?_)
      · have hC := hC.trans (if_pos c20)
        exact L35 (u0.1 1 6) _ _ _ _ hR hF hK_N4 (by omega) (by omega : (40 : Int) ≤ (u0.1 1 6).toInt ∧ (u0.1 1 6).toInt ≤ 126) hC hP hD hS (lv_sub hl [1, 2, 0] rfl)
      · have hC := hC.trans (if_neg (by omega))
        exact L26 _ _ _ _ hR hF hK_N4 (by omega : (-128 : Int) ≤ (u0.1 1 6).toInt ∧ (u0.1 1 6).toInt ≤ 127) hC hP hD hS (lv_sub hl [1] rfl)
def K_X9_readBoth_51_d3_64 (u0 : ac_U) (p0 : Int32) (u : ac_U) : ac_U × Int32 := (u, (1 : Int32))
def K_X9_readBoth_51_d3_12_b (B12 : ac_U → Int32 → ac_U × Int32) (u0 : ac_U) (p0 : Int32) (u : ac_U) (x2 : Int32) : ac_U × Int32 := (if (20 : Int) ≤ x2.toInt then (K_X9_readBoth_51_d3_64 u0 p0 u) else (if (u.1 1 6).toInt ≠ (115 : Int) then (K_X9_readBoth_51_d3_64 u0 p0 u) else (vl (f_X10_readNext_1 u) (fun (u4 : ac_U) => (bd (f_X9_readOne_51_d3 u4 p0) (fun (u5 : ac_U) (r5 : Int32) => (if r5.toInt ≠ 0 then (vl (f_X8_add_47 u5 (115 : Int32) (0 : Int32) (0 : Int32)) (fun (u7 : ac_U) => (vl (x2 + Int32.ofInt (1)) (fun (v8 : Int32) => (B12 u7 v8))))) else (u5, (0 : Int32)))))))))
def K_X9_readBoth_51_d3_12 (u0 : ac_U) (p0 : Int32) : Nat → ac_U → Int32 → ac_U × Int32
  | 0 => fun u x2 => (u, 0)
  | n + 1 => fun u x2 => K_X9_readBoth_51_d3_12_b (K_X9_readBoth_51_d3_12 u0 p0 n) u0 p0 u x2
def f_X9_readBoth_51_d3 (u0 : ac_U) (p0 : Int32) : ac_U × Int32 := (bd (f_X9_readOne_51_d3 u0 p0) (fun (u9 : ac_U) (r9 : Int32) => (if r9.toInt ≠ 0 then (K_X9_readBoth_51_d3_12 u0 p0 22 u9 (0 : Int32)) else (u9, (0 : Int32)))))
set_option maxHeartbeats 600000 in
set_option maxRecDepth 100000 in
theorem x_X9_readBoth_51_d3 (l : Launch) (dC : Nat → ClassId) (dI : Nat → Nat → Nat) (ad : Nat → Nat) (cA : Nat → ClassId) (nF : Nat) (u0 : ac_U) (p0 : Int32) (hR : ac_R rg u0) (hp0 : (3 : Int) ≤ p0.toInt ∧ p0.toInt ≤ 3) (hK_N4 : nmI 11 12 u0) : ac_Mi l yX9_readBoth (.code yX9_readBoth cX9_readBoth 3 (some .boolean) :: TB) 27 (dC, dI) vwCl (ac_ty cA) ad cA (TT nF) [.ref (ad 51), .int p0] u0 (fun (r : Int32) (u : ac_U) => ac_R rg u ∧ ac_Fr [(1, some 4), (1, some 5), (1, some 6), (1, some 8), (1, some 9), (1, some 10), (1, some 11), (47, some 3), (47, some 4), (48, none), (49, none), (50, none)] u0 u ∧ ((0 : Int) ≤ r.toInt ∧ r.toInt ≤ 1) ∧ f_X9_readBoth_51_d3 u0 p0 = (u, r)) := by
  refine ac_Mi.of (cc := cX9_readBoth) (maxL := 3) (ret := (some .boolean)) (by decide) rfl (Nat.le_of_ble_eq_true rfl) ?_
  intro p e s m below meth c A ls F hml hr hlocks hA hP hD hS hl
  have F : ac_X p s m [.ref (ad 51), .int p0].toArray c cX9_readBoth RX9 TB (dC, dI) vwCl (ac_ty cA) := ⟨F.1, F.2.1, fun w h => F.2.2.1 w (List.mem_cons_of_mem _ h), F.2.2.2.1, F.2.2.2.2⟩
  have hl : lv_has ls 3 [(0, .ref (ad 51)), (1, .int p0)] := hl
  obtain ⟨RR, hRR⟩ : ∃ q, q = f_X9_readBoth_51_d3 u0 p0 := ⟨_, rfl⟩
  have hF : ac_Fr [(1, some 4), (1, some 5), (1, some 6), (1, some 8), (1, some 9), (1, some 10), (1, some 11), (47, some 3), (47, some 4), (48, none), (49, none), (50, none)] u0 u0 := ac_Fr.rf
  have L64 : ∀ (u : ac_U) (H : Heap) (locs : List Loc) (ls : Array Slot), ac_R rg u → ac_Fr [(1, some 4), (1, some 5), (1, some 6), (1, some 8), (1, some 9), (1, some 10), (1, some 11), (47, some 3), (47, some 4), (48, none), (49, none), (50, none)] u0 u → nmI 11 12 u → RR = (K_X9_readBoth_51_d3_64 u0 p0 u) → va_P (dC, dI) vwCl (ac_w ad cA (TT nF) u) H → va_D A (ac_w ad cA (TT nF) u) → va_S A s.heap H locs → lv_has ls 3 [] → W p l e (ac_rm 27) s m [.ref (ad 51), .int p0].toArray below meth c H locs 0 0 (MQ below (va_Qi (fun (r : Int32) (u : ac_U) => ac_R rg u ∧ ac_Fr [(1, some 4), (1, some 5), (1, some 6), (1, some 8), (1, some 9), (1, some 10), (1, some 11), (47, some 3), (47, some 4), (48, none), (49, none), (50, none)] u0 u ∧ ((0 : Int) ≤ r.toInt ∧ r.toInt ≤ 1) ∧ f_X9_readBoth_51_d3 u0 p0 = (u, r)) (ac_B (dC, dI) vwCl (ac_ty cA) ad cA (TT nF) A) A) [.ref (ad 51), .int p0].toArray s 0 0 A) (F0 m 64 ls []) := by
    intro u H locs ls hR hF hK_N4 hC hP hD hS hl
    unfold K_X9_readBoth_51_d3_64 at hC
    refine a_ic F (1 : Int32) dX9_readBoth_64 (by decide) ?_
    exact a_retz F hr hlocks hP hD hS dX9_readBoth_65 (Or.inr rfl) ⟨hR, hF, (by decide), hRR.symm.trans hC⟩
  have L12 : ∀ (n12 : Nat) (x2 : Int32) (u : ac_U) (H : Heap) (locs : List Loc) (ls : Array Slot), ac_R rg u → ac_Fr [(1, some 4), (1, some 5), (1, some 6), (1, some 8), (1, some 9), (1, some 10), (1, some 11), (47, some 3), (47, some 4), (48, none), (49, none), (50, none)] u0 u → 20 - x2.toInt < (n12 : Int) → nmI 11 12 u → (0 : Int) ≤ x2.toInt ∧ x2.toInt ≤ 20 → RR = (K_X9_readBoth_51_d3_12 u0 p0 n12 u x2) → va_P (dC, dI) vwCl (ac_w ad cA (TT nF) u) H → va_D A (ac_w ad cA (TT nF) u) → va_S A s.heap H locs → lv_has ls 3 [(0, .ref (ad 51)), (1, .int p0), (2, .int x2)] → W p l e (ac_rm 27) s m [.ref (ad 51), .int p0].toArray below meth c H locs 0 0 (MQ below (va_Qi (fun (r : Int32) (u : ac_U) => ac_R rg u ∧ ac_Fr [(1, some 4), (1, some 5), (1, some 6), (1, some 8), (1, some 9), (1, some 10), (1, some 11), (47, some 3), (47, some 4), (48, none), (49, none), (50, none)] u0 u ∧ ((0 : Int) ≤ r.toInt ∧ r.toInt ≤ 1) ∧ f_X9_readBoth_51_d3 u0 p0 = (u, r)) (ac_B (dC, dI) vwCl (ac_ty cA) ad cA (TT nF) A) A) [.ref (ad 51), .int p0].toArray s 0 0 A) (F0 m 12 ls []) := by
    intro n12
    induction n12 with
    | zero => intro x2 u H locs ls hR hF hn12 hK_N4 f0 hC hP hD hS hl; exfalso; omega
    | succ n12 ih12 =>
      intro x2 u H locs ls hR hF hn12 hK_N4 f0 hC hP hD hS hl
      have hC : RR = K_X9_readBoth_51_d3_12_b (K_X9_readBoth_51_d3_12 u0 p0 n12) u0 p0 u x2 := hC
      unfold K_X9_readBoth_51_d3_12_b at hC
      refine lv_iload_n F.1 F.2.1 dX9_readBoth_12 rfl (lv_at hl 2 rfl) ?_
      refine a_bp F (20 : Int32) dX9_readBoth_13 (by decide) ?_
      refine b_ge F 64 dX9_readBoth_15 (by decide) rfl ic_20 (fun c1 => ?_) (fun c1 => ?_)
      · have hC := hC.trans (if_pos c1)
        exact L64 _ _ _ _ hR hF hK_N4 hC hP hD hS (lv_sub hl [] rfl)
      · have hC := hC.trans (if_neg (by omega))
        refine lv_aload_n F.1 F.2.1 dX9_readBoth_18 rfl (lv_at hl 0 rfl) ?_
        refine a_getr F inX9 hP 51 0 tc_51 rfl rfl (by decide) q465 (fun _ h9 => h9) dX9_readBoth_19 ?_
        have g2 : (-128 : Int) ≤ (u.1 1 6).toInt ∧ (u.1 1 6).toInt ≤ 127 := hR 1 6
        refine a_geti F inX10 hP 1 6 tc_1 rfl rfl (by decide) q103 (fun _ h9 => h9) (v := (u.1 1 6)) rfl dX9_readBoth_22 ?_
        refine a_bp F (115 : Int32) dX9_readBoth_25 (by decide) ?_
        refine b_ne F 64 dX9_readBoth_27 (by decide) rfl ic_115 (fun c3 => ?_) (fun c3 => ?_)
        · have hC := hC.trans (if_pos c3)
          exact L64 _ _ _ _ hR hF hK_N4 hC hP hD hS (lv_sub hl [] rfl)
        · have hC := hC.trans (if_neg (by omega))
          refine lv_aload_n F.1 F.2.1 dX9_readBoth_30 rfl (lv_at hl 0 rfl) ?_
          refine a_getr F inX9 hP 51 0 tc_51 rfl rfl (by decide) q465 (fun _ h9 => h9) dX9_readBoth_31 ?_
          refine a_Vv F hml hl.1 hA hP hD hS (As := []) (x_X10_readNext_1 l dC dI ad cA nF _  hR) (cs_RX9_45 (d := 3) F.2.2.1 (by decide)) tc_1 rfl rfl rfl rfl (Nat.le_of_ble_eq_true rfl) dX9_readBoth_34 ⟨Nat.le_refl 0, Nat.le_refl 0⟩ (fun u4 H locs hq hP hD hS => ?_)
          obtain ⟨hR, hF4, hz4⟩ := hq
          have hF := hF.tr hF4 (by decide)
          have hK_N4 := sp_fr sp_N4 hF4 (by decide) hK_N4
          have hC := vl_eq hC hz4.symm
          refine lv_aload_n F.1 F.2.1 dX9_readBoth_37 rfl (lv_at hl 0 rfl) ?_
          refine lv_iload_n F.1 F.2.1 dX9_readBoth_38 rfl (lv_at hl 1 rfl) ?_
          refine a_Vi F hml hl.1 hA hP hD hS (As := [.int p0]) (x_X9_readOne_51_d3 l dC dI ad cA nF _ p0 hR (by omega) hK_N4) (cs_RX9_52 (d := 26) F.2.2.1 (by decide)) tc_51 rfl rfl rfl rfl (Nat.le_of_ble_eq_true rfl) dX9_readBoth_39 ⟨Nat.le_refl 0, Nat.le_refl 0⟩ (fun r5 u5 H locs hq hP hD hS => ?_)
          obtain ⟨hR, hF5, gr5, hz5⟩ := hq
          have hF := hF.tr hF5 (by decide)
          have hK_N4 := sp_fr sp_N4 hF5 (by decide) hK_N4
          have hC := bd_eq hC hz5
          refine z_ne F 47 dX9_readBoth_42 (by decide) rfl (fun c6 => ?_) (fun c6 => ?_)
          · have hC := hC.trans (if_pos c6)
            refine lv_aload_n F.1 F.2.1 dX9_readBoth_47 rfl (lv_at hl 0 rfl) ?_
            refine a_getr F inX9 hP 51 2 tc_51 rfl rfl (by decide) q467 (fun _ h9 => h9) dX9_readBoth_48 ?_
            refine a_bp F (115 : Int32) dX9_readBoth_51 (by decide) ?_
            refine a_ic F (0 : Int32) dX9_readBoth_53 (by decide) ?_
            refine a_ic F (0 : Int32) dX9_readBoth_54 (by decide) ?_
            refine a_Vv F hml hl.1 hA hP hD hS (As := [.int (115 : Int32), .int (0 : Int32), .int (0 : Int32)]) (x_X8_add_47 l dC dI ad cA nF _ (115 : Int32) (0 : Int32) (0 : Int32) hR (by decide) (by decide)) (cs_RX9_48 (d := 1) F.2.2.1 (by decide)) tc_47 rfl rfl rfl rfl (Nat.le_of_ble_eq_true rfl) dX9_readBoth_55 ⟨Nat.le_refl 0, Nat.le_refl 0⟩ (fun u7 H locs hq hP hD hS => ?_)
            obtain ⟨hR, hF7, hz7⟩ := hq
            have hF := hF.tr hF7 (by decide)
            have hK_N4 := sp_fr sp_N4 hF7 (by decide) hK_N4
            have hC := vl_eq hC hz7.symm
            refine a_iincX F (k := 2) (fun v8 => [(2, .int v8), (0, .ref (ad 51)), (1, .int p0)]) dX9_readBoth_58 hl rfl rfl (by decide) (by omega) (by decide) (fun _ => rfl) (fun v8 ls hv8 yv8 hl => ?_)
            have hC := vl_eq hC yv8
            refine lv_goto (tgt := 12) F.1 F.2.1 dX9_readBoth_61 (by decide) ?_
            exact ih12 v8 _ _ _ _ hR hF (by omega) hK_N4 (by omega) hC hP hD hS (lv_sub hl [1, 2, 0] rfl)
          · have hC := hC.trans (if_neg (by omega))
            refine a_ic F (0 : Int32) dX9_readBoth_45 (by decide) ?_
            exact a_retz F hr hlocks hP hD hS dX9_readBoth_46 (Or.inl rfl) ⟨hR, hF, (by decide), hRR.symm.trans hC⟩
  have hC : RR = f_X9_readBoth_51_d3 u0 p0 := hRR
  unfold f_X9_readBoth_51_d3 at hC
  refine lv_aload_n F.1 F.2.1 dX9_readBoth_0 rfl (lv_at hl 0 rfl) ?_
  refine lv_iload_n F.1 F.2.1 dX9_readBoth_1 rfl (lv_at hl 1 rfl) ?_
  refine a_Vi F hml hl.1 hA hP hD hS (As := [.int p0]) (x_X9_readOne_51_d3 l dC dI ad cA nF _ p0 hR (by omega) hK_N4) (cs_RX9_52 (d := 26) F.2.2.1 (by decide)) tc_51 rfl rfl rfl rfl (Nat.le_of_ble_eq_true rfl) dX9_readBoth_2 ⟨Nat.le_refl 0, Nat.le_refl 0⟩ (fun r9 u9 H locs hq hP hD hS => ?_)
  obtain ⟨hR, hF9, gr9, hz9⟩ := hq
  have hF := hF.tr hF9 (by decide)
  have hK_N4 := sp_fr sp_N4 hF9 (by decide) hK_N4
  have hC := bd_eq hC hz9
  refine z_ne F 10 dX9_readBoth_5 (by decide) rfl (fun c10 => ?_) (fun c10 => ?_)
  · have hC := hC.trans (if_pos c10)
    refine a_ic F (0 : Int32) dX9_readBoth_10 (by decide) ?_
    refine lv_istore_n (lv' := [(2, .int (0 : Int32)), (0, .ref (ad 51)), (1, .int p0)]) F.1 F.2.1 dX9_readBoth_11 rfl hl (by decide) rfl (fun ls hl => ?_)
    exact L12 22 (0 : Int32) _ _ _ _ hR hF (by decide) hK_N4 (by decide) hC hP hD hS (lv_sub hl [1, 2, 0] rfl)
  · have hC := hC.trans (if_neg (by omega))
    refine a_ic F (0 : Int32) dX9_readBoth_8 (by decide) ?_
    exact a_retz F hr hlocks hP hD hS dX9_readBoth_9 (Or.inl rfl) ⟨hR, hF, (by decide), hRR.symm.trans hC⟩
def K_X9_readCond_51_d3_64 (u0 : ac_U) (p0 : Int32) (u : ac_U) : ac_U × Int32 := (u, (1 : Int32))
def K_X9_readCond_51_d3_12_b (B12 : ac_U → Int32 → ac_U × Int32) (u0 : ac_U) (p0 : Int32) (u : ac_U) (x2 : Int32) : ac_U × Int32 := (if (20 : Int) ≤ x2.toInt then (K_X9_readCond_51_d3_64 u0 p0 u) else (if (u.1 1 6).toInt ≠ (114 : Int) then (K_X9_readCond_51_d3_64 u0 p0 u) else (vl (f_X10_readNext_1 u) (fun (u4 : ac_U) => (bd (f_X9_readBoth_51_d3 u4 p0) (fun (u5 : ac_U) (r5 : Int32) => (if r5.toInt ≠ 0 then (vl (f_X8_add_47 u5 (114 : Int32) (0 : Int32) (0 : Int32)) (fun (u7 : ac_U) => (vl (x2 + Int32.ofInt (1)) (fun (v8 : Int32) => (B12 u7 v8))))) else (u5, (0 : Int32)))))))))
def K_X9_readCond_51_d3_12 (u0 : ac_U) (p0 : Int32) : Nat → ac_U → Int32 → ac_U × Int32
  | 0 => fun u x2 => (u, 0)
  | n + 1 => fun u x2 => K_X9_readCond_51_d3_12_b (K_X9_readCond_51_d3_12 u0 p0 n) u0 p0 u x2
def f_X9_readCond_51_d3 (u0 : ac_U) (p0 : Int32) : ac_U × Int32 := (bd (f_X9_readBoth_51_d3 u0 p0) (fun (u9 : ac_U) (r9 : Int32) => (if r9.toInt ≠ 0 then (K_X9_readCond_51_d3_12 u0 p0 22 u9 (0 : Int32)) else (u9, (0 : Int32)))))
set_option maxHeartbeats 600000 in
set_option maxRecDepth 100000 in
theorem x_X9_readCond_51_d3 (l : Launch) (dC : Nat → ClassId) (dI : Nat → Nat → Nat) (ad : Nat → Nat) (cA : Nat → ClassId) (nF : Nat) (u0 : ac_U) (p0 : Int32) (hR : ac_R rg u0) (hp0 : (3 : Int) ≤ p0.toInt ∧ p0.toInt ≤ 3) (hK_N4 : nmI 11 12 u0) : ac_Mi l yX9_readCond (.code yX9_readCond cX9_readCond 3 (some .boolean) :: TB) 28 (dC, dI) vwCl (ac_ty cA) ad cA (TT nF) [.ref (ad 51), .int p0] u0 (fun (r : Int32) (u : ac_U) => ac_R rg u ∧ ac_Fr [(1, some 4), (1, some 5), (1, some 6), (1, some 8), (1, some 9), (1, some 10), (1, some 11), (47, some 3), (47, some 4), (48, none), (49, none), (50, none)] u0 u ∧ ((0 : Int) ≤ r.toInt ∧ r.toInt ≤ 1) ∧ f_X9_readCond_51_d3 u0 p0 = (u, r)) := by
  refine ac_Mi.of (cc := cX9_readCond) (maxL := 3) (ret := (some .boolean)) (by decide) rfl (Nat.le_of_ble_eq_true rfl) ?_
  intro p e s m below meth c A ls F hml hr hlocks hA hP hD hS hl
  have F : ac_X p s m [.ref (ad 51), .int p0].toArray c cX9_readCond RX9 TB (dC, dI) vwCl (ac_ty cA) := ⟨F.1, F.2.1, fun w h => F.2.2.1 w (List.mem_cons_of_mem _ h), F.2.2.2.1, F.2.2.2.2⟩
  have hl : lv_has ls 3 [(0, .ref (ad 51)), (1, .int p0)] := hl
  obtain ⟨RR, hRR⟩ : ∃ q, q = f_X9_readCond_51_d3 u0 p0 := ⟨_, rfl⟩
  have hF : ac_Fr [(1, some 4), (1, some 5), (1, some 6), (1, some 8), (1, some 9), (1, some 10), (1, some 11), (47, some 3), (47, some 4), (48, none), (49, none), (50, none)] u0 u0 := ac_Fr.rf
  have L64 : ∀ (u : ac_U) (H : Heap) (locs : List Loc) (ls : Array Slot), ac_R rg u → ac_Fr [(1, some 4), (1, some 5), (1, some 6), (1, some 8), (1, some 9), (1, some 10), (1, some 11), (47, some 3), (47, some 4), (48, none), (49, none), (50, none)] u0 u → nmI 11 12 u → RR = (K_X9_readCond_51_d3_64 u0 p0 u) → va_P (dC, dI) vwCl (ac_w ad cA (TT nF) u) H → va_D A (ac_w ad cA (TT nF) u) → va_S A s.heap H locs → lv_has ls 3 [] → W p l e (ac_rm 28) s m [.ref (ad 51), .int p0].toArray below meth c H locs 0 0 (MQ below (va_Qi (fun (r : Int32) (u : ac_U) => ac_R rg u ∧ ac_Fr [(1, some 4), (1, some 5), (1, some 6), (1, some 8), (1, some 9), (1, some 10), (1, some 11), (47, some 3), (47, some 4), (48, none), (49, none), (50, none)] u0 u ∧ ((0 : Int) ≤ r.toInt ∧ r.toInt ≤ 1) ∧ f_X9_readCond_51_d3 u0 p0 = (u, r)) (ac_B (dC, dI) vwCl (ac_ty cA) ad cA (TT nF) A) A) [.ref (ad 51), .int p0].toArray s 0 0 A) (F0 m 64 ls []) := by
    intro u H locs ls hR hF hK_N4 hC hP hD hS hl
    unfold K_X9_readCond_51_d3_64 at hC
    refine a_ic F (1 : Int32) dX9_readCond_64 (by decide) ?_
    exact a_retz F hr hlocks hP hD hS dX9_readCond_65 (Or.inr rfl) ⟨hR, hF, (by decide), hRR.symm.trans hC⟩
  have L12 : ∀ (n12 : Nat) (x2 : Int32) (u : ac_U) (H : Heap) (locs : List Loc) (ls : Array Slot), ac_R rg u → ac_Fr [(1, some 4), (1, some 5), (1, some 6), (1, some 8), (1, some 9), (1, some 10), (1, some 11), (47, some 3), (47, some 4), (48, none), (49, none), (50, none)] u0 u → 20 - x2.toInt < (n12 : Int) → nmI 11 12 u → (0 : Int) ≤ x2.toInt ∧ x2.toInt ≤ 20 → RR = (K_X9_readCond_51_d3_12 u0 p0 n12 u x2) → va_P (dC, dI) vwCl (ac_w ad cA (TT nF) u) H → va_D A (ac_w ad cA (TT nF) u) → va_S A s.heap H locs → lv_has ls 3 [(0, .ref (ad 51)), (1, .int p0), (2, .int x2)] → W p l e (ac_rm 28) s m [.ref (ad 51), .int p0].toArray below meth c H locs 0 0 (MQ below (va_Qi (fun (r : Int32) (u : ac_U) => ac_R rg u ∧ ac_Fr [(1, some 4), (1, some 5), (1, some 6), (1, some 8), (1, some 9), (1, some 10), (1, some 11), (47, some 3), (47, some 4), (48, none), (49, none), (50, none)] u0 u ∧ ((0 : Int) ≤ r.toInt ∧ r.toInt ≤ 1) ∧ f_X9_readCond_51_d3 u0 p0 = (u, r)) (ac_B (dC, dI) vwCl (ac_ty cA) ad cA (TT nF) A) A) [.ref (ad 51), .int p0].toArray s 0 0 A) (F0 m 12 ls []) := by
    intro n12
    induction n12 with
    | zero => intro x2 u H locs ls hR hF hn12 hK_N4 f0 hC hP hD hS hl; exfalso; omega
    | succ n12 ih12 =>
      intro x2 u H locs ls hR hF hn12 hK_N4 f0 hC hP hD hS hl
      have hC : RR = K_X9_readCond_51_d3_12_b (K_X9_readCond_51_d3_12 u0 p0 n12) u0 p0 u x2 := hC
      unfold K_X9_readCond_51_d3_12_b at hC
      refine lv_iload_n F.1 F.2.1 dX9_readCond_12 rfl (lv_at hl 2 rfl) ?_
      refine a_bp F (20 : Int32) dX9_readCond_13 (by decide) ?_
      refine b_ge F 64 dX9_readCond_15 (by decide) rfl ic_20 (fun c1 => ?_) (fun c1 => ?_)
      · have hC := hC.trans (if_pos c1)
        exact L64 _ _ _ _ hR hF hK_N4 hC hP hD hS (lv_sub hl [] rfl)
      · have hC := hC.trans (if_neg (by omega))
        refine lv_aload_n F.1 F.2.1 dX9_readCond_18 rfl (lv_at hl 0 rfl) ?_
        refine a_getr F inX9 hP 51 0 tc_51 rfl rfl (by decide) q465 (fun _ h9 => h9) dX9_readCond_19 ?_
        have g2 : (-128 : Int) ≤ (u.1 1 6).toInt ∧ (u.1 1 6).toInt ≤ 127 := hR 1 6
        refine a_geti F inX10 hP 1 6 tc_1 rfl rfl (by decide) q103 (fun _ h9 => h9) (v := (u.1 1 6)) rfl dX9_readCond_22 ?_
        refine a_bp F (114 : Int32) dX9_readCond_25 (by decide) ?_
        refine b_ne F 64 dX9_readCond_27 (by decide) rfl ic_114 (fun c3 => ?_) (fun c3 => ?_)
        · have hC := hC.trans (if_pos c3)
          exact L64 _ _ _ _ hR hF hK_N4 hC hP hD hS (lv_sub hl [] rfl)
        · have hC := hC.trans (if_neg (by omega))
          refine lv_aload_n F.1 F.2.1 dX9_readCond_30 rfl (lv_at hl 0 rfl) ?_
          refine a_getr F inX9 hP 51 0 tc_51 rfl rfl (by decide) q465 (fun _ h9 => h9) dX9_readCond_31 ?_
          refine a_Vv F hml hl.1 hA hP hD hS (As := []) (x_X10_readNext_1 l dC dI ad cA nF _  hR) (cs_RX9_45 (d := 3) F.2.2.1 (by decide)) tc_1 rfl rfl rfl rfl (Nat.le_of_ble_eq_true rfl) dX9_readCond_34 ⟨Nat.le_refl 0, Nat.le_refl 0⟩ (fun u4 H locs hq hP hD hS => ?_)
          obtain ⟨hR, hF4, hz4⟩ := hq
          have hF := hF.tr hF4 (by decide)
          have hK_N4 := sp_fr sp_N4 hF4 (by decide) hK_N4
          have hC := vl_eq hC hz4.symm
          refine lv_aload_n F.1 F.2.1 dX9_readCond_37 rfl (lv_at hl 0 rfl) ?_
          refine lv_iload_n F.1 F.2.1 dX9_readCond_38 rfl (lv_at hl 1 rfl) ?_
          refine a_Vi F hml hl.1 hA hP hD hS (As := [.int p0]) (x_X9_readBoth_51_d3 l dC dI ad cA nF _ p0 hR (by omega) hK_N4) (cs_RX9_42 (d := 27) F.2.2.1 (by decide)) tc_51 rfl rfl rfl rfl (Nat.le_of_ble_eq_true rfl) dX9_readCond_39 ⟨Nat.le_refl 0, Nat.le_refl 0⟩ (fun r5 u5 H locs hq hP hD hS => ?_)
          obtain ⟨hR, hF5, gr5, hz5⟩ := hq
          have hF := hF.tr hF5 (by decide)
          have hK_N4 := sp_fr sp_N4 hF5 (by decide) hK_N4
          have hC := bd_eq hC hz5
          refine z_ne F 47 dX9_readCond_42 (by decide) rfl (fun c6 => ?_) (fun c6 => ?_)
          · have hC := hC.trans (if_pos c6)
            refine lv_aload_n F.1 F.2.1 dX9_readCond_47 rfl (lv_at hl 0 rfl) ?_
            refine a_getr F inX9 hP 51 2 tc_51 rfl rfl (by decide) q467 (fun _ h9 => h9) dX9_readCond_48 ?_
            refine a_bp F (114 : Int32) dX9_readCond_51 (by decide) ?_
            refine a_ic F (0 : Int32) dX9_readCond_53 (by decide) ?_
            refine a_ic F (0 : Int32) dX9_readCond_54 (by decide) ?_
            refine a_Vv F hml hl.1 hA hP hD hS (As := [.int (114 : Int32), .int (0 : Int32), .int (0 : Int32)]) (x_X8_add_47 l dC dI ad cA nF _ (114 : Int32) (0 : Int32) (0 : Int32) hR (by decide) (by decide)) (cs_RX9_48 (d := 1) F.2.2.1 (by decide)) tc_47 rfl rfl rfl rfl (Nat.le_of_ble_eq_true rfl) dX9_readCond_55 ⟨Nat.le_refl 0, Nat.le_refl 0⟩ (fun u7 H locs hq hP hD hS => ?_)
            obtain ⟨hR, hF7, hz7⟩ := hq
            have hF := hF.tr hF7 (by decide)
            have hK_N4 := sp_fr sp_N4 hF7 (by decide) hK_N4
            have hC := vl_eq hC hz7.symm
            refine a_iincX F (k := 2) (fun v8 => [(2, .int v8), (0, .ref (ad 51)), (1, .int p0)]) dX9_readCond_58 hl rfl rfl (by decide) (by omega) (by decide) (fun _ => rfl) (fun v8 ls hv8 yv8 hl => ?_)
            have hC := vl_eq hC yv8
            refine lv_goto (tgt := 12) F.1 F.2.1 dX9_readCond_61 (by decide) ?_
            exact ih12 v8 _ _ _ _ hR hF (by omega) hK_N4 (by omega) hC hP hD hS (lv_sub hl [1, 2, 0] rfl)
          · have hC := hC.trans (if_neg (by omega))
            refine a_ic F (0 : Int32) dX9_readCond_45 (by decide) ?_
            exact a_retz F hr hlocks hP hD hS dX9_readCond_46 (Or.inl rfl) ⟨hR, hF, (by decide), hRR.symm.trans hC⟩
  have hC : RR = f_X9_readCond_51_d3 u0 p0 := hRR
  unfold f_X9_readCond_51_d3 at hC
  refine lv_aload_n F.1 F.2.1 dX9_readCond_0 rfl (lv_at hl 0 rfl) ?_
  refine lv_iload_n F.1 F.2.1 dX9_readCond_1 rfl (lv_at hl 1 rfl) ?_
  refine a_Vi F hml hl.1 hA hP hD hS (As := [.int p0]) (x_X9_readBoth_51_d3 l dC dI ad cA nF _ p0 hR (by omega) hK_N4) (cs_RX9_42 (d := 27) F.2.2.1 (by decide)) tc_51 rfl rfl rfl rfl (Nat.le_of_ble_eq_true rfl) dX9_readCond_2 ⟨Nat.le_refl 0, Nat.le_refl 0⟩ (fun r9 u9 H locs hq hP hD hS => ?_)
  obtain ⟨hR, hF9, gr9, hz9⟩ := hq
  have hF := hF.tr hF9 (by decide)
  have hK_N4 := sp_fr sp_N4 hF9 (by decide) hK_N4
  have hC := bd_eq hC hz9
  refine z_ne F 10 dX9_readCond_5 (by decide) rfl (fun c10 => ?_) (fun c10 => ?_)
  · have hC := hC.trans (if_pos c10)
    refine a_ic F (0 : Int32) dX9_readCond_10 (by decide) ?_
    refine lv_istore_n (lv' := [(2, .int (0 : Int32)), (0, .ref (ad 51)), (1, .int p0)]) F.1 F.2.1 dX9_readCond_11 rfl hl (by decide) rfl (fun ls hl => ?_)
    exact L12 22 (0 : Int32) _ _ _ _ hR hF (by decide) hK_N4 (by decide) hC hP hD hS (lv_sub hl [1, 2, 0] rfl)
  · have hC := hC.trans (if_neg (by omega))
    refine a_ic F (0 : Int32) dX9_readCond_8 (by decide) ?_
    exact a_retz F hr hlocks hP hD hS dX9_readCond_9 (Or.inl rfl) ⟨hR, hF, (by decide), hRR.symm.trans hC⟩

def f_X9_readBracket_51_d2 (u0 : ac_U) (p0 : Int32) : ac_U × Int32 := (vl (f_X10_readNext_1 u0) (fun (u1 : ac_U) => (vl (p0 + (1 : Int32)) (fun (v2 : Int32) => (bd (f_X9_readCond_51_d3 u1 v2) (fun (u3 : ac_U) (r3 : Int32) => (if r3.toInt ≠ 0 then (if (u3.1 1 6).toInt = (41 : Int) then (vl (f_X10_readNext_1 u3) (fun (u7 : ac_U) => (u7, (1 : Int32)))) else (bd (f_X10_fail_1 u3 (1 : Int32)) (fun (u8 : ac_U) (r8 : Int32) => (u8, r8)))) else (u3, (0 : Int32)))))))))
set_option maxHeartbeats 600000 in
set_option maxRecDepth 100000 in
theorem x_X9_readBracket_51_d2 (l : Launch) (dC : Nat → ClassId) (dI : Nat → Nat → Nat) (ad : Nat → Nat) (cA : Nat → ClassId) (nF : Nat) (u0 : ac_U) (p0 : Int32) (hR : ac_R rg u0) (hp0 : (2 : Int) ≤ p0.toInt ∧ p0.toInt ≤ 2) (hK_N4 : nmI 11 12 u0) : ac_Mi l yX9_readBracket (.code yX9_readBracket cX9_readBracket 2 (some .boolean) :: TB) 29 (dC, dI) vwCl (ac_ty cA) ad cA (TT nF) [.ref (ad 51), .int p0] u0 (fun (r : Int32) (u : ac_U) => ac_R rg u ∧ ac_Fr [(1, some 4), (1, some 5), (1, some 6), (1, some 8), (1, some 9), (1, some 10), (1, some 11), (47, some 3), (47, some 4), (48, none), (49, none), (50, none)] u0 u ∧ ((0 : Int) ≤ r.toInt ∧ r.toInt ≤ 1) ∧ f_X9_readBracket_51_d2 u0 p0 = (u, r)) := by
  refine ac_Mi.of (cc := cX9_readBracket) (maxL := 2) (ret := (some .boolean)) (by decide) rfl (Nat.le_of_ble_eq_true rfl) ?_
  intro p e s m below meth c A ls F hml hr hlocks hA hP hD hS hl
  have F : ac_X p s m [.ref (ad 51), .int p0].toArray c cX9_readBracket RX9 TB (dC, dI) vwCl (ac_ty cA) := ⟨F.1, F.2.1, fun w h => F.2.2.1 w (List.mem_cons_of_mem _ h), F.2.2.2.1, F.2.2.2.2⟩
  have hl : lv_has ls 2 [(0, .ref (ad 51)), (1, .int p0)] := hl
  obtain ⟨RR, hRR⟩ : ∃ q, q = f_X9_readBracket_51_d2 u0 p0 := ⟨_, rfl⟩
  have hF : ac_Fr [(1, some 4), (1, some 5), (1, some 6), (1, some 8), (1, some 9), (1, some 10), (1, some 11), (47, some 3), (47, some 4), (48, none), (49, none), (50, none)] u0 u0 := ac_Fr.rf
  have hC : RR = f_X9_readBracket_51_d2 u0 p0 := hRR
  unfold f_X9_readBracket_51_d2 at hC
  refine lv_aload_n F.1 F.2.1 dX9_readBracket_0 rfl (lv_at hl 0 rfl) ?_
  refine a_getr F inX9 hP 51 0 tc_51 rfl rfl (by decide) q465 (fun _ h9 => h9) dX9_readBracket_1 ?_
  refine a_Vv F hml hl.1 hA hP hD hS (As := []) (x_X10_readNext_1 l dC dI ad cA nF _  hR) (cs_RX9_45 (d := 3) F.2.2.1 (by decide)) tc_1 rfl rfl rfl rfl (Nat.le_of_ble_eq_true rfl) dX9_readBracket_4 ⟨Nat.le_refl 0, Nat.le_refl 0⟩ (fun u1 H locs hq hP hD hS => ?_)
  obtain ⟨hR, hF1, hz1⟩ := hq
  have hF := hF.tr hF1 (by decide)
  have hK_N4 := sp_fr sp_N4 hF1 (by decide) hK_N4
  have hC := vl_eq hC hz1.symm
  refine lv_aload_n F.1 F.2.1 dX9_readBracket_7 rfl (lv_at hl 0 rfl) ?_
  refine lv_iload_n F.1 F.2.1 dX9_readBracket_8 rfl (lv_at hl 1 rfl) ?_
  refine a_ic F (1 : Int32) dX9_readBracket_9 (by decide) ?_
  refine a_iaddX F dX9_readBracket_10 rfl ic_1 (by omega) (fun v2 hv2 yv2 => ?_)
  have hC := vl_eq hC yv2
  refine a_Vi F hml hl.1 hA hP hD hS (As := [.int v2]) (x_X9_readCond_51_d3 l dC dI ad cA nF _ v2 hR (by omega) hK_N4) (cs_RX9_74 (d := 28) F.2.2.1 (by decide)) tc_51 rfl rfl rfl rfl (Nat.le_of_ble_eq_true rfl) dX9_readBracket_11 ⟨Nat.le_refl 0, Nat.le_refl 0⟩ (fun r3 u3 H locs hq hP hD hS => ?_)
  obtain ⟨hR, hF3, gr3, hz3⟩ := hq
  have hF := hF.tr hF3 (by decide)
  have hK_N4 := sp_fr sp_N4 hF3 (by decide) hK_N4
  have hC := bd_eq hC hz3
  refine z_ne F 19 dX9_readBracket_14 (by decide) rfl (fun c4 => ?_) (fun c4 => ?_)
  · have hC := hC.trans (if_pos c4)
    refine lv_aload_n F.1 F.2.1 dX9_readBracket_19 rfl (lv_at hl 0 rfl) ?_
    refine a_getr F inX9 hP 51 0 tc_51 rfl rfl (by decide) q465 (fun _ h9 => h9) dX9_readBracket_20 ?_
    have g5 : (-128 : Int) ≤ (u3.1 1 6).toInt ∧ (u3.1 1 6).toInt ≤ 127 := hR 1 6
    refine a_geti F inX10 hP 1 6 tc_1 rfl rfl (by decide) q103 (fun _ h9 => h9) (v := (u3.1 1 6)) rfl dX9_readBracket_23 ?_
    refine a_bp F (41 : Int32) dX9_readBracket_26 (by decide) ?_
    refine b_eq F 40 dX9_readBracket_28 (by decide) rfl ic_41 (fun c6 => ?_) (fun c6 => ?_)
    · have hC := hC.trans (if_pos c6)
      refine lv_aload_n F.1 F.2.1 dX9_readBracket_40 rfl (lv_at hl 0 rfl) ?_
      refine a_getr F inX9 hP 51 0 tc_51 rfl rfl (by decide) q465 (fun _ h9 => h9) dX9_readBracket_41 ?_
      refine a_Vv F hml hl.1 hA hP hD hS (As := []) (x_X10_readNext_1 l dC dI ad cA nF _  hR) (cs_RX9_45 (d := 3) F.2.2.1 (by decide)) tc_1 rfl rfl rfl rfl (Nat.le_of_ble_eq_true rfl) dX9_readBracket_44 ⟨Nat.le_refl 0, Nat.le_refl 0⟩ (fun u7 H locs hq hP hD hS => ?_)
      obtain ⟨hR, hF7, hz7⟩ := hq
      have hF := hF.tr hF7 (by decide)
      have hK_N4 := sp_fr sp_N4 hF7 (by decide) hK_N4
      have hC := vl_eq hC hz7.symm
      refine a_ic F (1 : Int32) dX9_readBracket_47 (by decide) ?_
      exact a_retz F hr hlocks hP hD hS dX9_readBracket_48 (Or.inr rfl) ⟨hR, hF, (by decide), hRR.symm.trans hC⟩
    · have hC := hC.trans (if_neg (by omega))
      refine lv_aload_n F.1 F.2.1 dX9_readBracket_31 rfl (lv_at hl 0 rfl) ?_
      refine a_getr F inX9 hP 51 0 tc_51 rfl rfl (by decide) q465 (fun _ h9 => h9) dX9_readBracket_32 ?_
      refine a_ic F (1 : Int32) dX9_readBracket_35 (by decide) ?_
      refine a_Vi F hml hl.1 hA hP hD hS (As := [.int (1 : Int32)]) (x_X10_fail_1 l dC dI ad cA nF _ (1 : Int32) hR (by decide)) (cs_RX9_38 (d := 1) F.2.2.1 (by decide)) tc_1 rfl rfl rfl rfl (Nat.le_of_ble_eq_true rfl) dX9_readBracket_36 ⟨Nat.le_refl 0, Nat.le_refl 0⟩ (fun r8 u8 H locs hq hP hD hS => ?_)
      obtain ⟨hR, hF8, gr8, hz8⟩ := hq
      have hF := hF.tr hF8 (by decide)
      have hK_N4 := sp_fr sp_N4 hF8 (by decide) hK_N4
      have hC := bd_eq hC hz8
      exact a_retz F hr hlocks hP hD hS dX9_readBracket_39 (i_01 (by omega)) ⟨hR, hF, (by omega : (0 : Int) ≤ r8.toInt ∧ r8.toInt ≤ 1), hRR.symm.trans hC⟩
  · have hC := hC.trans (if_neg (by omega))
    refine a_ic F (0 : Int32) dX9_readBracket_17 (by decide) ?_
    exact a_retz F hr hlocks hP hD hS dX9_readBracket_18 (Or.inl rfl) ⟨hR, hF, (by decide), hRR.symm.trans hC⟩

def f_X9_readNot_51_d2 (u0 : ac_U) (p0 : Int32) : ac_U × Int32 := (vl (f_X10_readNext_1 u0) (fun (u1 : ac_U) => (vl (p0 + (1 : Int32)) (fun (v2 : Int32) => (bd (f_X9_readOne_51_d3 u1 v2) (fun (u3 : ac_U) (r3 : Int32) => (if r3.toInt ≠ 0 then (vl (f_X8_add_47 u3 (116 : Int32) (0 : Int32) (0 : Int32)) (fun (u5 : ac_U) => (u5, (1 : Int32)))) else (u3, (0 : Int32)))))))))
set_option maxHeartbeats 600000 in
set_option maxRecDepth 100000 in
theorem x_X9_readNot_51_d2 (l : Launch) (dC : Nat → ClassId) (dI : Nat → Nat → Nat) (ad : Nat → Nat) (cA : Nat → ClassId) (nF : Nat) (u0 : ac_U) (p0 : Int32) (hR : ac_R rg u0) (hp0 : (2 : Int) ≤ p0.toInt ∧ p0.toInt ≤ 2) (hK_N4 : nmI 11 12 u0) : ac_Mi l yX9_readNot (.code yX9_readNot cX9_readNot 2 (some .boolean) :: TB) 27 (dC, dI) vwCl (ac_ty cA) ad cA (TT nF) [.ref (ad 51), .int p0] u0 (fun (r : Int32) (u : ac_U) => ac_R rg u ∧ ac_Fr [(1, some 4), (1, some 5), (1, some 6), (1, some 8), (1, some 9), (1, some 10), (1, some 11), (47, some 3), (47, some 4), (48, none), (49, none), (50, none)] u0 u ∧ ((0 : Int) ≤ r.toInt ∧ r.toInt ≤ 1) ∧ f_X9_readNot_51_d2 u0 p0 = (u, r)) := by
  refine ac_Mi.of (cc := cX9_readNot) (maxL := 2) (ret := (some .boolean)) (by decide) rfl (Nat.le_of_ble_eq_true rfl) ?_
  intro p e s m below meth c A ls F hml hr hlocks hA hP hD hS hl
  have F : ac_X p s m [.ref (ad 51), .int p0].toArray c cX9_readNot RX9 TB (dC, dI) vwCl (ac_ty cA) := ⟨F.1, F.2.1, fun w h => F.2.2.1 w (List.mem_cons_of_mem _ h), F.2.2.2.1, F.2.2.2.2⟩
  have hl : lv_has ls 2 [(0, .ref (ad 51)), (1, .int p0)] := hl
  obtain ⟨RR, hRR⟩ : ∃ q, q = f_X9_readNot_51_d2 u0 p0 := ⟨_, rfl⟩
  have hF : ac_Fr [(1, some 4), (1, some 5), (1, some 6), (1, some 8), (1, some 9), (1, some 10), (1, some 11), (47, some 3), (47, some 4), (48, none), (49, none), (50, none)] u0 u0 := ac_Fr.rf
  have hC : RR = f_X9_readNot_51_d2 u0 p0 := hRR
  unfold f_X9_readNot_51_d2 at hC
  refine lv_aload_n F.1 F.2.1 dX9_readNot_0 rfl (lv_at hl 0 rfl) ?_
  refine a_getr F inX9 hP 51 0 tc_51 rfl rfl (by decide) q465 (fun _ h9 => h9) dX9_readNot_1 ?_
  refine a_Vv F hml hl.1 hA hP hD hS (As := []) (x_X10_readNext_1 l dC dI ad cA nF _  hR) (cs_RX9_45 (d := 3) F.2.2.1 (by decide)) tc_1 rfl rfl rfl rfl (Nat.le_of_ble_eq_true rfl) dX9_readNot_4 ⟨Nat.le_refl 0, Nat.le_refl 0⟩ (fun u1 H locs hq hP hD hS => ?_)
  obtain ⟨hR, hF1, hz1⟩ := hq
  have hF := hF.tr hF1 (by decide)
  have hK_N4 := sp_fr sp_N4 hF1 (by decide) hK_N4
  have hC := vl_eq hC hz1.symm
  refine lv_aload_n F.1 F.2.1 dX9_readNot_7 rfl (lv_at hl 0 rfl) ?_
  refine lv_iload_n F.1 F.2.1 dX9_readNot_8 rfl (lv_at hl 1 rfl) ?_
  refine a_ic F (1 : Int32) dX9_readNot_9 (by decide) ?_
  refine a_iaddX F dX9_readNot_10 rfl ic_1 (by omega) (fun v2 hv2 yv2 => ?_)
  have hC := vl_eq hC yv2
  refine a_Vi F hml hl.1 hA hP hD hS (As := [.int v2]) (x_X9_readOne_51_d3 l dC dI ad cA nF _ v2 hR (by omega) hK_N4) (cs_RX9_52 (d := 26) F.2.2.1 (by decide)) tc_51 rfl rfl rfl rfl (Nat.le_of_ble_eq_true rfl) dX9_readNot_11 ⟨Nat.le_refl 0, Nat.le_refl 0⟩ (fun r3 u3 H locs hq hP hD hS => ?_)
  obtain ⟨hR, hF3, gr3, hz3⟩ := hq
  have hF := hF.tr hF3 (by decide)
  have hK_N4 := sp_fr sp_N4 hF3 (by decide) hK_N4
  have hC := bd_eq hC hz3
  refine z_ne F 19 dX9_readNot_14 (by decide) rfl (fun c4 => ?_) (fun c4 => ?_)
  · have hC := hC.trans (if_pos c4)
    refine lv_aload_n F.1 F.2.1 dX9_readNot_19 rfl (lv_at hl 0 rfl) ?_
    refine a_getr F inX9 hP 51 2 tc_51 rfl rfl (by decide) q467 (fun _ h9 => h9) dX9_readNot_20 ?_
    refine a_bp F (116 : Int32) dX9_readNot_23 (by decide) ?_
    refine a_ic F (0 : Int32) dX9_readNot_25 (by decide) ?_
    refine a_ic F (0 : Int32) dX9_readNot_26 (by decide) ?_
    refine a_Vv F hml hl.1 hA hP hD hS (As := [.int (116 : Int32), .int (0 : Int32), .int (0 : Int32)]) (x_X8_add_47 l dC dI ad cA nF _ (116 : Int32) (0 : Int32) (0 : Int32) hR (by decide) (by decide)) (cs_RX9_48 (d := 1) F.2.2.1 (by decide)) tc_47 rfl rfl rfl rfl (Nat.le_of_ble_eq_true rfl) dX9_readNot_27 ⟨Nat.le_refl 0, Nat.le_refl 0⟩ (fun u5 H locs hq hP hD hS => ?_)
    obtain ⟨hR, hF5, hz5⟩ := hq
    have hF := hF.tr hF5 (by decide)
    have hK_N4 := sp_fr sp_N4 hF5 (by decide) hK_N4
    have hC := vl_eq hC hz5.symm
    refine a_ic F (1 : Int32) dX9_readNot_30 (by decide) ?_
    exact a_retz F hr hlocks hP hD hS dX9_readNot_31 (Or.inr rfl) ⟨hR, hF, (by decide), hRR.symm.trans hC⟩
  · have hC := hC.trans (if_neg (by omega))
    refine a_ic F (0 : Int32) dX9_readNot_17 (by decide) ?_
    exact a_retz F hr hlocks hP hD hS dX9_readNot_18 (Or.inl rfl) ⟨hR, hF, (by decide), hRR.symm.trans hC⟩
def K_X9_readOne_51_d2_53 (u0 : ac_U) (p0 : Int32) (u : ac_U) : ac_U × Int32 := (bd (f_X10_fail_1 u (4 : Int32)) (fun (u1 : ac_U) (r1 : Int32) => (u1, r1)))
def K_X9_readOne_51_d2_35 (u0 : ac_U) (p0 : Int32) (u : ac_U) (x2 : Int32) : ac_U × Int32 := (if (20 : Int) ≤ (u.1 47 4).toInt then (K_X9_readOne_51_d2_53 u0 p0 u) else (if p0.toInt ≤ (8 : Int) then (vl ((u.1 47 4) + (1 : Int32)) (fun (v6 : Int32) => (if x2.toInt ≠ (40 : Int) then (if x2.toInt ≠ (116 : Int) then (if x2.toInt ≠ (122 : Int) then (if x2.toInt ≤ (122 : Int) then (bd (f_X9_readStatus_51 (pI u 47 4 v6) x2) (fun (u11 : ac_U) (r11 : Int32) => (u11, r11))) else (bd (f_X9_readCompare_51 (pI u 47 4 v6) x2) (fun (u12 : ac_U) (r12 : Int32) => (u12, r12)))) else (bd (f_X9_readOf_51 (pI u 47 4 v6)) (fun (u13 : ac_U) (r13 : Int32) => (u13, r13)))) else (bd (f_X9_readNot_51_d2 (pI u 47 4 v6) p0) (fun (u14 : ac_U) (r14 : Int32) => (u14, r14)))) else (bd (f_X9_readBracket_51_d2 (pI u 47 4 v6) p0) (fun (u15 : ac_U) (r15 : Int32) => (u15, r15)))))) else (u, 0)))
def K_X9_readOne_51_d2_26 (u0 : ac_U) (p0 : Int32) (u : ac_U) : ac_U × Int32 := (bd (f_X10_fail_1 u (1 : Int32)) (fun (u16 : ac_U) (r16 : Int32) => (u16, r16)))
def f_X9_readOne_51_d2 (u0 : ac_U) (p0 : Int32) : ac_U × Int32 := (if (u0.1 1 6).toInt = (40 : Int) then (K_X9_readOne_51_d2_35 u0 p0 u0 (u0.1 1 6)) else (if (u0.1 1 6).toInt < (116 : Int) then (K_X9_readOne_51_d2_26 u0 p0 u0) else (if (u0.1 1 6).toInt ≤ (126 : Int) then (K_X9_readOne_51_d2_35 u0 p0 u0 (u0.1 1 6)) else (K_X9_readOne_51_d2_26 u0 p0 u0))))
set_option maxHeartbeats 600000 in
set_option maxRecDepth 100000 in
theorem x_X9_readOne_51_d2 (l : Launch) (dC : Nat → ClassId) (dI : Nat → Nat → Nat) (ad : Nat → Nat) (cA : Nat → ClassId) (nF : Nat) (u0 : ac_U) (p0 : Int32) (hR : ac_R rg u0) (hp0 : (2 : Int) ≤ p0.toInt ∧ p0.toInt ≤ 2) (hK_N4 : nmI 11 12 u0) : ac_Mi l yX9_readOne (.code yX9_readOne cX9_readOne 3 (some .boolean) :: TB) 30 (dC, dI) vwCl (ac_ty cA) ad cA (TT nF) [.ref (ad 51), .int p0] u0 (fun (r : Int32) (u : ac_U) => ac_R rg u ∧ ac_Fr [(1, some 4), (1, some 5), (1, some 6), (1, some 8), (1, some 9), (1, some 10), (1, some 11), (47, some 3), (47, some 4), (48, none), (49, none), (50, none)] u0 u ∧ ((0 : Int) ≤ r.toInt ∧ r.toInt ≤ 1) ∧ f_X9_readOne_51_d2 u0 p0 = (u, r)) := by
  refine ac_Mi.of (cc := cX9_readOne) (maxL := 3) (ret := (some .boolean)) (by decide) rfl (Nat.le_of_ble_eq_true rfl) ?_
  intro p e s m below meth c A ls F hml hr hlocks hA hP hD hS hl
  have F : ac_X p s m [.ref (ad 51), .int p0].toArray c cX9_readOne RX9 TB (dC, dI) vwCl (ac_ty cA) := ⟨F.1, F.2.1, fun w h => F.2.2.1 w (List.mem_cons_of_mem _ h), F.2.2.2.1, F.2.2.2.2⟩
  have hl : lv_has ls 3 [(0, .ref (ad 51)), (1, .int p0)] := hl
  obtain ⟨RR, hRR⟩ : ∃ q, q = f_X9_readOne_51_d2 u0 p0 := ⟨_, rfl⟩
  have hF : ac_Fr [(1, some 4), (1, some 5), (1, some 6), (1, some 8), (1, some 9), (1, some 10), (1, some 11), (47, some 3), (47, some 4), (48, none), (49, none), (50, none)] u0 u0 := ac_Fr.rf
  have L53 : ∀ (u : ac_U) (H : Heap) (locs : List Loc) (ls : Array Slot), ac_R rg u → ac_Fr [(1, some 4), (1, some 5), (1, some 6), (1, some 8), (1, some 9), (1, some 10), (1, some 11), (47, some 3), (47, some 4), (48, none), (49, none), (50, none)] u0 u → nmI 11 12 u → (40 : Int) ≤ (u.1 1 6).toInt ∧ (u.1 1 6).toInt ≤ 126 → (20 : Int) ≤ (u.1 47 4).toInt ∧ (u.1 47 4).toInt ≤ 20 → RR = (K_X9_readOne_51_d2_53 u0 p0 u) → va_P (dC, dI) vwCl (ac_w ad cA (TT nF) u) H → va_D A (ac_w ad cA (TT nF) u) → va_S A s.heap H locs → lv_has ls 3 [(0, .ref (ad 51))] → W p l e (ac_rm 30) s m [.ref (ad 51), .int p0].toArray below meth c H locs 0 0 (MQ below (va_Qi (fun (r : Int32) (u : ac_U) => ac_R rg u ∧ ac_Fr [(1, some 4), (1, some 5), (1, some 6), (1, some 8), (1, some 9), (1, some 10), (1, some 11), (47, some 3), (47, some 4), (48, none), (49, none), (50, none)] u0 u ∧ ((0 : Int) ≤ r.toInt ∧ r.toInt ≤ 1) ∧ f_X9_readOne_51_d2 u0 p0 = (u, r)) (ac_B (dC, dI) vwCl (ac_ty cA) ad cA (TT nF) A) A) [.ref (ad 51), .int p0].toArray s 0 0 A) (F0 m 53 ls []) := by
    intro u H locs ls hR hF hK_N4 f0 f1 hC hP hD hS hl
    unfold K_X9_readOne_51_d2_53 at hC
    refine lv_aload_n F.1 F.2.1 dX9_readOne_53 rfl (lv_at hl 0 rfl) ?_
    refine a_getr F inX9 hP 51 0 tc_51 rfl rfl (by decide) q465 (fun _ h9 => h9) dX9_readOne_54 ?_
    refine a_ic F (4 : Int32) dX9_readOne_57 (by decide) ?_
    refine a_Vi F hml hl.1 hA hP hD hS (As := [.int (4 : Int32)]) (x_X10_fail_1 l dC dI ad cA nF _ (4 : Int32) hR (by decide)) (cs_RX9_38 (d := 1) F.2.2.1 (by decide)) tc_1 rfl rfl rfl rfl (Nat.le_of_ble_eq_true rfl) dX9_readOne_58 ⟨Nat.le_refl 0, Nat.le_refl 0⟩ (fun r1 u1 H locs hq hP hD hS => ?_)
    obtain ⟨hR, hF1, gr1, hz1⟩ := hq
    have hF := hF.tr hF1 (by decide)
    have hK_N4 := sp_fr sp_N4 hF1 (by decide) hK_N4
    have hC := bd_eq hC hz1
    exact a_retz F hr hlocks hP hD hS dX9_readOne_61 (i_01 (by omega)) ⟨hR, hF, (by omega : (0 : Int) ≤ r1.toInt ∧ r1.toInt ≤ 1), hRR.symm.trans hC⟩
  have L35 : ∀ (x2 : Int32) (u : ac_U) (H : Heap) (locs : List Loc) (ls : Array Slot), ac_R rg u → ac_Fr [(1, some 4), (1, some 5), (1, some 6), (1, some 8), (1, some 9), (1, some 10), (1, some 11), (47, some 3), (47, some 4), (48, none), (49, none), (50, none)] u0 u → nmI 11 12 u → (40 : Int) ≤ x2.toInt ∧ x2.toInt ≤ 126 → (40 : Int) ≤ (u.1 1 6).toInt ∧ (u.1 1 6).toInt ≤ 126 → RR = (K_X9_readOne_51_d2_35 u0 p0 u x2) → va_P (dC, dI) vwCl (ac_w ad cA (TT nF) u) H → va_D A (ac_w ad cA (TT nF) u) → va_S A s.heap H locs → lv_has ls 3 [(0, .ref (ad 51)), (1, .int p0), (2, .int x2)] → W p l e (ac_rm 30) s m [.ref (ad 51), .int p0].toArray below meth c H locs 0 0 (MQ below (va_Qi (fun (r : Int32) (u : ac_U) => ac_R rg u ∧ ac_Fr [(1, some 4), (1, some 5), (1, some 6), (1, some 8), (1, some 9), (1, some 10), (1, some 11), (47, some 3), (47, some 4), (48, none), (49, none), (50, none)] u0 u ∧ ((0 : Int) ≤ r.toInt ∧ r.toInt ≤ 1) ∧ f_X9_readOne_51_d2 u0 p0 = (u, r)) (ac_B (dC, dI) vwCl (ac_ty cA) ad cA (TT nF) A) A) [.ref (ad 51), .int p0].toArray s 0 0 A) (F0 m 35 ls []) := by
    intro x2 u H locs ls hR hF hK_N4 f0 f1 hC hP hD hS hl
    unfold K_X9_readOne_51_d2_35 at hC
    refine lv_aload_n F.1 F.2.1 dX9_readOne_35 rfl (lv_at hl 0 rfl) ?_
    refine a_getr F inX9 hP 51 2 tc_51 rfl rfl (by decide) q467 (fun _ h9 => h9) dX9_readOne_36 ?_
    have g2 : (0 : Int) ≤ (u.1 47 4).toInt ∧ (u.1 47 4).toInt ≤ 20 := hR 47 4
    refine a_geti F inX8 hP 47 4 tc_47 rfl rfl (by decide) q446 (fun _ h9 => h9) (v := (u.1 47 4)) rfl dX9_readOne_39 ?_
    refine a_bp F (20 : Int32) dX9_readOne_42 (by decide) ?_
    refine b_ge F 53 dX9_readOne_44 (by decide) rfl ic_20 (fun c3 => ?_) (fun c3 => ?_)
    · have hC := hC.trans (if_pos c3)
      have g4 : (-128 : Int) ≤ (u.1 1 6).toInt ∧ (u.1 1 6).toInt ≤ 127 := hR 1 6
      exact L53 _ _ _ _ hR hF hK_N4 (by omega : (40 : Int) ≤ (u.1 1 6).toInt ∧ (u.1 1 6).toInt ≤ 126) (by omega : (20 : Int) ≤ (u.1 47 4).toInt ∧ (u.1 47 4).toInt ≤ 20) hC hP hD hS (lv_sub hl [0] rfl)
    · have hC := hC.trans (if_neg (by omega))
      refine lv_iload_n F.1 F.2.1 dX9_readOne_47 rfl (lv_at hl 1 rfl) ?_
      refine a_bp F (8 : Int32) dX9_readOne_48 (by decide) ?_
      refine b_le F 62 dX9_readOne_50 (by decide) rfl ic_8 (fun c5 => ?_) (fun c5 => ?_)
      · have hC := hC.trans (if_pos c5)
        refine lv_aload_n F.1 F.2.1 dX9_readOne_62 rfl (lv_at hl 0 rfl) ?_
        refine a_getr F inX9 hP 51 2 tc_51 rfl rfl (by decide) q467 (fun _ h9 => h9) dX9_readOne_63 ?_
        refine lv_dup F.1 F.2.1 dX9_readOne_66 rfl ?_
        refine a_geti F inX8 hP 47 4 tc_47 rfl rfl (by decide) q446 (fun _ h9 => h9) (v := (u.1 47 4)) (rfl) dX9_readOne_67 ?_
        refine a_ic F (1 : Int32) dX9_readOne_70 (by decide) ?_
        refine a_iaddX F dX9_readOne_71 rfl ic_1 (by omega) (fun v6 hv6 yv6 => ?_)
        have hC := vl_eq hC yv6
        refine a_puti F inX8 tyX8 tyX8_ok nmX8 hP hD hS 47 4 tc_47 rfl rfl (by decide) q446 (fun _ h9 => h9) rfl (ty := .int) (tyX8_ok 4 (by decide)) rfl rfl dX9_readOne_72 (fun H locs hP hD hS => ?_)
        have hR := hR.si (c := 47) (k := 4) (v := v6) (by omega : (0 : Int) ≤ v6.toInt ∧ v6.toInt ≤ 20)
        have hF := hF.si (c := 47) (k := 4) (v := v6) rfl
        have hK_N4 := sp_sgD sp_N4 hD hK_N4 (by decide)
        refine lv_iload_n F.1 F.2.1 dX9_readOne_75 rfl (lv_at hl 2 rfl) ?_
        refine a_bp F (40 : Int32) dX9_readOne_76 (by decide) ?_
        refine b_ne F 87 dX9_readOne_78 (by decide) rfl ic_40 (fun c7 => ?_) (fun c7 => ?_)
        · have hC := hC.trans (if_pos c7)
          refine lv_iload_n F.1 F.2.1 dX9_readOne_87 rfl (lv_at hl 2 rfl) ?_
          refine a_bp F (116 : Int32) dX9_readOne_88 (by decide) ?_
          refine b_ne F 99 dX9_readOne_90 (by decide) rfl ic_116 (fun c8 => ?_) (fun c8 => ?_)
          · have hC := hC.trans (if_pos c8)
            refine lv_iload_n F.1 F.2.1 dX9_readOne_99 rfl (lv_at hl 2 rfl) ?_
            refine a_bp F (122 : Int32) dX9_readOne_100 (by decide) ?_
            refine b_ne F 110 dX9_readOne_102 (by decide) rfl ic_122 (fun c9 => ?_) (fun c9 => ?_)
            · have hC := hC.trans (if_pos c9)
              refine lv_iload_n F.1 F.2.1 dX9_readOne_110 rfl (lv_at hl 2 rfl) ?_
              refine a_bp F (122 : Int32) dX9_readOne_111 (by decide) ?_
              refine b_le F 124 dX9_readOne_113 (by decide) rfl ic_122 (fun c10 => ?_) (fun c10 => ?_)
              · have hC := hC.trans (if_pos c10)
                refine lv_aload_n F.1 F.2.1 dX9_readOne_124 rfl (lv_at hl 0 rfl) ?_
                refine lv_iload_n F.1 F.2.1 dX9_readOne_125 rfl (lv_at hl 2 rfl) ?_
                refine a_Vi F hml hl.1 hA hP hD hS (As := [.int x2]) (x_X9_readStatus_51 l dC dI ad cA nF _ x2 hR (by omega)) (cs_RX9_71 (d := 4) F.2.2.1 (by decide)) tc_51 rfl rfl rfl rfl (Nat.le_of_ble_eq_true rfl) dX9_readOne_126 ⟨Nat.le_refl 0, Nat.le_refl 0⟩ (fun r11 u11 H locs hq hP hD hS => ?_)
                obtain ⟨hR, hF11, gr11, hz11⟩ := hq
                have hF := hF.tr hF11 (by decide)
                have hK_N4 := sp_fr sp_N4 hF11 (by decide) hK_N4
                have hC := bd_eq hC hz11
                exact a_retz F hr hlocks hP hD hS dX9_readOne_129 (i_01 (by omega)) ⟨hR, hF, (by omega : (0 : Int) ≤ r11.toInt ∧ r11.toInt ≤ 1), hRR.symm.trans hC⟩
              · have hC := hC.trans (if_neg (by omega))
                refine lv_aload_n F.1 F.2.1 dX9_readOne_116 rfl (lv_at hl 0 rfl) ?_
                refine lv_iload_n F.1 F.2.1 dX9_readOne_117 rfl (lv_at hl 2 rfl) ?_
                refine a_Vi F hml hl.1 hA hP hD hS (As := [.int x2]) (x_X9_readCompare_51 l dC dI ad cA nF _ x2 hR (by omega)) (cs_RX9_68 (d := 4) F.2.2.1 (by decide)) tc_51 rfl rfl rfl rfl (Nat.le_of_ble_eq_true rfl) dX9_readOne_118 ⟨Nat.le_refl 0, Nat.le_refl 0⟩ (fun r12 u12 H locs hq hP hD hS => ?_)
                obtain ⟨hR, hF12, gr12, hz12⟩ := hq
                have hF := hF.tr hF12 (by decide)
                have hK_N4 := sp_fr sp_N4 hF12 (by decide) hK_N4
                have hC := bd_eq hC hz12
                refine lv_goto (tgt := 129) F.1 F.2.1 dX9_readOne_121 (by decide) ?_
                exact a_retz F hr hlocks hP hD hS dX9_readOne_129 (i_01 (by omega)) ⟨hR, hF, (by omega : (0 : Int) ≤ r12.toInt ∧ r12.toInt ≤ 1), hRR.symm.trans hC⟩
            · have hC := hC.trans (if_neg (by omega))
              refine lv_aload_n F.1 F.2.1 dX9_readOne_105 rfl (lv_at hl 0 rfl) ?_
              refine a_Vi F hml hl.1 hA hP hD hS (As := []) (x_X9_readOf_51 l dC dI ad cA nF _  hR hK_N4) (cs_RX9_64 (d := 4) F.2.2.1 (by decide)) tc_51 rfl rfl rfl rfl (Nat.le_of_ble_eq_true rfl) dX9_readOne_106 ⟨Nat.le_refl 0, Nat.le_refl 0⟩ (fun r13 u13 H locs hq hP hD hS => ?_)
              obtain ⟨hR, hF13, gr13, hz13⟩ := hq
              have hF := hF.tr hF13 (by decide)
              have hK_N4 := sp_fr sp_N4 hF13 (by decide) hK_N4
              have hC := bd_eq hC hz13
              exact a_retz F hr hlocks hP hD hS dX9_readOne_109 (i_01 (by omega)) ⟨hR, hF, (by omega : (0 : Int) ≤ r13.toInt ∧ r13.toInt ≤ 1), hRR.symm.trans hC⟩
          · have hC := hC.trans (if_neg (by omega))
            refine lv_aload_n F.1 F.2.1 dX9_readOne_93 rfl (lv_at hl 0 rfl) ?_
            refine lv_iload_n F.1 F.2.1 dX9_readOne_94 rfl (lv_at hl 1 rfl) ?_
            refine a_Vi F hml hl.1 hA hP hD hS (As := [.int p0]) (x_X9_readNot_51_d2 l dC dI ad cA nF _ p0 hR (by omega) hK_N4) (cs_RX9_61 (d := 27) F.2.2.1 (by decide)) tc_51 rfl rfl rfl rfl (Nat.le_of_ble_eq_true rfl) dX9_readOne_95 ⟨Nat.le_refl 0, Nat.le_refl 0⟩ (fun r14 u14 H locs hq hP hD hS => ?_)
            obtain ⟨hR, hF14, gr14, hz14⟩ := hq
            have hF := hF.tr hF14 (by decide)
            have hK_N4 := sp_fr sp_N4 hF14 (by decide) hK_N4
            have hC := bd_eq hC hz14
            exact a_retz F hr hlocks hP hD hS dX9_readOne_98 (i_01 (by omega)) ⟨hR, hF, (by omega : (0 : Int) ≤ r14.toInt ∧ r14.toInt ≤ 1), hRR.symm.trans hC⟩
        · have hC := hC.trans (if_neg (by omega))
          refine lv_aload_n F.1 F.2.1 dX9_readOne_81 rfl (lv_at hl 0 rfl) ?_
          refine lv_iload_n F.1 F.2.1 dX9_readOne_82 rfl (lv_at hl 1 rfl) ?_
          refine a_Vi F hml hl.1 hA hP hD hS (As := [.int p0]) (x_X9_readBracket_51_d2 l dC dI ad cA nF _ p0 hR (by omega) hK_N4) (cs_RX9_58 (d := 29) F.2.2.1 (by decide)) tc_51 rfl rfl rfl rfl (Nat.le_of_ble_eq_true rfl) dX9_readOne_83 ⟨Nat.le_refl 0, Nat.le_refl 0⟩ (fun r15 u15 H locs hq hP hD hS => ?_)
          obtain ⟨hR, hF15, gr15, hz15⟩ := hq
          have hF := hF.tr hF15 (by decide)
          have hK_N4 := sp_fr sp_N4 hF15 (by decide) hK_N4
          have hC := bd_eq hC hz15
          exact a_retz F hr hlocks hP hD hS dX9_readOne_86 (i_01 (by omega)) ⟨hR, hF, (by omega : (0 : Int) ≤ r15.toInt ∧ r15.toInt ≤ 1), hRR.symm.trans hC⟩
      · exfalso; omega
  have L26 : ∀ (u : ac_U) (H : Heap) (locs : List Loc) (ls : Array Slot), ac_R rg u → ac_Fr [(1, some 4), (1, some 5), (1, some 6), (1, some 8), (1, some 9), (1, some 10), (1, some 11), (47, some 3), (47, some 4), (48, none), (49, none), (50, none)] u0 u → nmI 11 12 u → (-128 : Int) ≤ (u.1 1 6).toInt ∧ (u.1 1 6).toInt ≤ 127 → RR = (K_X9_readOne_51_d2_26 u0 p0 u) → va_P (dC, dI) vwCl (ac_w ad cA (TT nF) u) H → va_D A (ac_w ad cA (TT nF) u) → va_S A s.heap H locs → lv_has ls 3 [(0, .ref (ad 51))] → W p l e (ac_rm 30) s m [.ref (ad 51), .int p0].toArray below meth c H locs 0 0 (MQ below (va_Qi (fun (r : Int32) (u : ac_U) => ac_R rg u ∧ ac_Fr [(1, some 4), (1, some 5), (1, some 6), (1, some 8), (1, some 9), (1, some 10), (1, some 11), (47, some 3), (47, some 4), (48, none), (49, none), (50, none)] u0 u ∧ ((0 : Int) ≤ r.toInt ∧ r.toInt ≤ 1) ∧ f_X9_readOne_51_d2 u0 p0 = (u, r)) (ac_B (dC, dI) vwCl (ac_ty cA) ad cA (TT nF) A) A) [.ref (ad 51), .int p0].toArray s 0 0 A) (F0 m 26 ls []) := by
    intro u H locs ls hR hF hK_N4 f0 hC hP hD hS hl
    unfold K_X9_readOne_51_d2_26 at hC
    refine lv_aload_n F.1 F.2.1 dX9_readOne_26 rfl (lv_at hl 0 rfl) ?_
    refine a_getr F inX9 hP 51 0 tc_51 rfl rfl (by decide) q465 (fun _ h9 => h9) dX9_readOne_27 ?_
    refine a_ic F (1 : Int32) dX9_readOne_30 (by decide) ?_
    refine a_Vi F hml hl.1 hA hP hD hS (As := [.int (1 : Int32)]) (x_X10_fail_1 l dC dI ad cA nF _ (1 : Int32) hR (by decide)) (cs_RX9_38 (d := 1) F.2.2.1 (by decide)) tc_1 rfl rfl rfl rfl (Nat.le_of_ble_eq_true rfl) dX9_readOne_31 ⟨Nat.le_refl 0, Nat.le_refl 0⟩ (fun r16 u16 H locs hq hP hD hS => ?_)
    obtain ⟨hR, hF16, gr16, hz16⟩ := hq
    have hF := hF.tr hF16 (by decide)
    have hK_N4 := sp_fr sp_N4 hF16 (by decide) hK_N4
    have hC := bd_eq hC hz16
    exact a_retz F hr hlocks hP hD hS dX9_readOne_34 (i_01 (by omega)) ⟨hR, hF, (by omega : (0 : Int) ≤ r16.toInt ∧ r16.toInt ≤ 1), hRR.symm.trans hC⟩
  have hC : RR = f_X9_readOne_51_d2 u0 p0 := hRR
  unfold f_X9_readOne_51_d2 at hC
  refine lv_aload_n F.1 F.2.1 dX9_readOne_0 rfl (lv_at hl 0 rfl) ?_
  refine a_getr F inX9 hP 51 0 tc_51 rfl rfl (by decide) q465 (fun _ h9 => h9) dX9_readOne_1 ?_
  have g17 : (-128 : Int) ≤ (u0.1 1 6).toInt ∧ (u0.1 1 6).toInt ≤ 127 := hR 1 6
  refine a_geti F inX10 hP 1 6 tc_1 rfl rfl (by decide) q103 (fun _ h9 => h9) (v := (u0.1 1 6)) rfl dX9_readOne_4 ?_
  refine lv_istore_n (lv' := [(2, .int (u0.1 1 6)), (0, .ref (ad 51)), (1, .int p0)]) F.1 F.2.1 dX9_readOne_7 rfl hl (by decide) rfl (fun ls hl => ?_)
  refine lv_iload_n F.1 F.2.1 dX9_readOne_8 rfl (lv_at hl 0 rfl) ?_
  refine a_bp F (40 : Int32) dX9_readOne_9 (by decide) ?_
  refine b_eq F 35 dX9_readOne_11 (by decide) rfl ic_40 (fun c18 => ?_) (fun c18 => ?_)
  · have hC := hC.trans (if_pos c18)
    exact L35 (u0.1 1 6) _ _ _ _ hR hF hK_N4 (by omega) (by omega : (40 : Int) ≤ (u0.1 1 6).toInt ∧ (u0.1 1 6).toInt ≤ 126) hC hP hD hS (lv_sub hl [1, 2, 0] rfl)
  · have hC := hC.trans (if_neg (by omega))
    refine lv_iload_n F.1 F.2.1 dX9_readOne_14 rfl (lv_at hl 0 rfl) ?_
    refine a_bp F (116 : Int32) dX9_readOne_15 (by decide) ?_
    refine b_lt F 26 dX9_readOne_17 (by decide) rfl ic_116 (fun c19 => ?_) (fun c19 => ?_)
    · have hC := hC.trans (if_pos c19)
      exact L26 _ _ _ _ hR hF hK_N4 (by omega : (-128 : Int) ≤ (u0.1 1 6).toInt ∧ (u0.1 1 6).toInt ≤ 127) hC hP hD hS (lv_sub hl [1] rfl)
    · have hC := hC.trans (if_neg (by omega))
      refine lv_iload_n F.1 F.2.1 dX9_readOne_20 rfl (lv_at hl 0 rfl) ?_
      refine a_bp F (126 : Int32) dX9_readOne_21 (by decide) ?_
      refine b_le F 35 dX9_readOne_23 (by decide) rfl ic_126 (fun c20 => ?_) (fun c20 => ?_)
      · have hC := hC.trans (if_pos c20)
        exact L35 (u0.1 1 6) _ _ _ _ hR hF hK_N4 (by omega) (by omega : (40 : Int) ≤ (u0.1 1 6).toInt ∧ (u0.1 1 6).toInt ≤ 126) hC hP hD hS (lv_sub hl [1, 2, 0] rfl)
      · have hC := hC.trans (if_neg (by omega))
        exact L26 _ _ _ _ hR hF hK_N4 (by omega : (-128 : Int) ≤ (u0.1 1 6).toInt ∧ (u0.1 1 6).toInt ≤ 127) hC hP hD hS (lv_sub hl [1] rfl)
def K_X9_readBoth_51_d2_64 (u0 : ac_U) (p0 : Int32) (u : ac_U) : ac_U × Int32 := (u, (1 : Int32))
def K_X9_readBoth_51_d2_12_b (B12 : ac_U → Int32 → ac_U × Int32) (u0 : ac_U) (p0 : Int32) (u : ac_U) (x2 : Int32) : ac_U × Int32 := (if (20 : Int) ≤ x2.toInt then (K_X9_readBoth_51_d2_64 u0 p0 u) else (if (u.1 1 6).toInt ≠ (115 : Int) then (K_X9_readBoth_51_d2_64 u0 p0 u) else (vl (f_X10_readNext_1 u) (fun (u4 : ac_U) => (bd (f_X9_readOne_51_d2 u4 p0) (fun (u5 : ac_U) (r5 : Int32) => (if r5.toInt ≠ 0 then (vl (f_X8_add_47 u5 (115 : Int32) (0 : Int32) (0 : Int32)) (fun (u7 : ac_U) => (vl (x2 + Int32.ofInt (1)) (fun (v8 : Int32) => (B12 u7 v8))))) else (u5, (0 : Int32)))))))))
def K_X9_readBoth_51_d2_12 (u0 : ac_U) (p0 : Int32) : Nat → ac_U → Int32 → ac_U × Int32
  | 0 => fun u x2 => (u, 0)
  | n + 1 => fun u x2 => K_X9_readBoth_51_d2_12_b (K_X9_readBoth_51_d2_12 u0 p0 n) u0 p0 u x2
def f_X9_readBoth_51_d2 (u0 : ac_U) (p0 : Int32) : ac_U × Int32 := (bd (f_X9_readOne_51_d2 u0 p0) (fun (u9 : ac_U) (r9 : Int32) => (if r9.toInt ≠ 0 then (K_X9_readBoth_51_d2_12 u0 p0 22 u9 (0 : Int32)) else (u9, (0 : Int32)))))
set_option maxHeartbeats 600000 in
set_option maxRecDepth 100000 in
theorem x_X9_readBoth_51_d2 (l : Launch) (dC : Nat → ClassId) (dI : Nat → Nat → Nat) (ad : Nat → Nat) (cA : Nat → ClassId) (nF : Nat) (u0 : ac_U) (p0 : Int32) (hR : ac_R rg u0) (hp0 : (2 : Int) ≤ p0.toInt ∧ p0.toInt ≤ 2) (hK_N4 : nmI 11 12 u0) : ac_Mi l yX9_readBoth (.code yX9_readBoth cX9_readBoth 3 (some .boolean) :: TB) 31 (dC, dI) vwCl (ac_ty cA) ad cA (TT nF) [.ref (ad 51), .int p0] u0 (fun (r : Int32) (u : ac_U) => ac_R rg u ∧ ac_Fr [(1, some 4), (1, some 5), (1, some 6), (1, some 8), (1, some 9), (1, some 10), (1, some 11), (47, some 3), (47, some 4), (48, none), (49, none), (50, none)] u0 u ∧ ((0 : Int) ≤ r.toInt ∧ r.toInt ≤ 1) ∧ f_X9_readBoth_51_d2 u0 p0 = (u, r)) := by
  refine ac_Mi.of (cc := cX9_readBoth) (maxL := 3) (ret := (some .boolean)) (by decide) rfl (Nat.le_of_ble_eq_true rfl) ?_
  intro p e s m below meth c A ls F hml hr hlocks hA hP hD hS hl
  have F : ac_X p s m [.ref (ad 51), .int p0].toArray c cX9_readBoth RX9 TB (dC, dI) vwCl (ac_ty cA) := ⟨F.1, F.2.1, fun w h => F.2.2.1 w (List.mem_cons_of_mem _ h), F.2.2.2.1, F.2.2.2.2⟩
  have hl : lv_has ls 3 [(0, .ref (ad 51)), (1, .int p0)] := hl
  obtain ⟨RR, hRR⟩ : ∃ q, q = f_X9_readBoth_51_d2 u0 p0 := ⟨_, rfl⟩
  have hF : ac_Fr [(1, some 4), (1, some 5), (1, some 6), (1, some 8), (1, some 9), (1, some 10), (1, some 11), (47, some 3), (47, some 4), (48, none), (49, none), (50, none)] u0 u0 := ac_Fr.rf
  have L64 : ∀ (u : ac_U) (H : Heap) (locs : List Loc) (ls : Array Slot), ac_R rg u → ac_Fr [(1, some 4), (1, some 5), (1, some 6), (1, some 8), (1, some 9), (1, some 10), (1, some 11), (47, some 3), (47, some 4), (48, none), (49, none), (50, none)] u0 u → nmI 11 12 u → RR = (K_X9_readBoth_51_d2_64 u0 p0 u) → va_P (dC, dI) vwCl (ac_w ad cA (TT nF) u) H → va_D A (ac_w ad cA (TT nF) u) → va_S A s.heap H locs → lv_has ls 3 [] → W p l e (ac_rm 31) s m [.ref (ad 51), .int p0].toArray below meth c H locs 0 0 (MQ below (va_Qi (fun (r : Int32) (u : ac_U) => ac_R rg u ∧ ac_Fr [(1, some 4), (1, some 5), (1, some 6), (1, some 8), (1, some 9), (1, some 10), (1, some 11), (47, some 3), (47, some 4), (48, none), (49, none), (50, none)] u0 u ∧ ((0 : Int) ≤ r.toInt ∧ r.toInt ≤ 1) ∧ f_X9_readBoth_51_d2 u0 p0 = (u, r)) (ac_B (dC, dI) vwCl (ac_ty cA) ad cA (TT nF) A) A) [.ref (ad 51), .int p0].toArray s 0 0 A) (F0 m 64 ls []) := by
    intro u H locs ls hR hF hK_N4 hC hP hD hS hl
    unfold K_X9_readBoth_51_d2_64 at hC
    refine a_ic F (1 : Int32) dX9_readBoth_64 (by decide) ?_
    exact a_retz F hr hlocks hP hD hS dX9_readBoth_65 (Or.inr rfl) ⟨hR, hF, (by decide), hRR.symm.trans hC⟩
  have L12 : ∀ (n12 : Nat) (x2 : Int32) (u : ac_U) (H : Heap) (locs : List Loc) (ls : Array Slot), ac_R rg u → ac_Fr [(1, some 4), (1, some 5), (1, some 6), (1, some 8), (1, some 9), (1, some 10), (1, some 11), (47, some 3), (47, some 4), (48, none), (49, none), (50, none)] u0 u → 20 - x2.toInt < (n12 : Int) → nmI 11 12 u → (0 : Int) ≤ x2.toInt ∧ x2.toInt ≤ 20 → RR = (K_X9_readBoth_51_d2_12 u0 p0 n12 u x2) → va_P (dC, dI) vwCl (ac_w ad cA (TT nF) u) H → va_D A (ac_w ad cA (TT nF) u) → va_S A s.heap H locs → lv_has ls 3 [(0, .ref (ad 51)), (1, .int p0), (2, .int x2)] → W p l e (ac_rm 31) s m [.ref (ad 51), .int p0].toArray below meth c H locs 0 0 (MQ below (va_Qi (fun (r : Int32) (u : ac_U) => ac_R rg u ∧ ac_Fr [(1, some 4), (1, some 5), (1, some 6), (1, some 8), (1, some 9), (1, some 10), (1, some 11), (47, some 3), (47, some 4), (48, none), (49, none), (50, none)] u0 u ∧ ((0 : Int) ≤ r.toInt ∧ r.toInt ≤ 1) ∧ f_X9_readBoth_51_d2 u0 p0 = (u, r)) (ac_B (dC, dI) vwCl (ac_ty cA) ad cA (TT nF) A) A) [.ref (ad 51), .int p0].toArray s 0 0 A) (F0 m 12 ls []) := by
    intro n12
    induction n12 with
    | zero => intro x2 u H locs ls hR hF hn12 hK_N4 f0 hC hP hD hS hl; exfalso; omega
    | succ n12 ih12 =>
      intro x2 u H locs ls hR hF hn12 hK_N4 f0 hC hP hD hS hl
      have hC : RR = K_X9_readBoth_51_d2_12_b (K_X9_readBoth_51_d2_12 u0 p0 n12) u0 p0 u x2 := hC
      unfold K_X9_readBoth_51_d2_12_b at hC
      refine lv_iload_n F.1 F.2.1 dX9_readBoth_12 rfl (lv_at hl 2 rfl) ?_
      refine a_bp F (20 : Int32) dX9_readBoth_13 (by decide) ?_
      refine b_ge F 64 dX9_readBoth_15 (by decide) rfl ic_20 (fun c1 => ?_) (fun c1 => ?_)
      · have hC := hC.trans (if_pos c1)
        exact L64 _ _ _ _ hR hF hK_N4 hC hP hD hS (lv_sub hl [] rfl)
      · have hC := hC.trans (if_neg (by omega))
        refine lv_aload_n F.1 F.2.1 dX9_readBoth_18 rfl (lv_at hl 0 rfl) ?_
        refine a_getr F inX9 hP 51 0 tc_51 rfl rfl (by decide) q465 (fun _ h9 => h9) dX9_readBoth_19 ?_
        have g2 : (-128 : Int) ≤ (u.1 1 6).toInt ∧ (u.1 1 6).toInt ≤ 127 := hR 1 6
        refine a_geti F inX10 hP 1 6 tc_1 rfl rfl (by decide) q103 (fun _ h9 => h9) (v := (u.1 1 6)) rfl dX9_readBoth_22 ?_
        refine a_bp F (115 : Int32) dX9_readBoth_25 (by decide) ?_
        refine b_ne F 64 dX9_readBoth_27 (by decide) rfl ic_115 (fun c3 => ?_) (fun c3 => ?_)
        · have hC := hC.trans (if_pos c3)
          exact L64 _ _ _ _ hR hF hK_N4 hC hP hD hS (lv_sub hl [] rfl)
        · have hC := hC.trans (if_neg (by omega))
          refine lv_aload_n F.1 F.2.1 dX9_readBoth_30 rfl (lv_at hl 0 rfl) ?_
          refine a_getr F inX9 hP 51 0 tc_51 rfl rfl (by decide) q465 (fun _ h9 => h9) dX9_readBoth_31 ?_
          refine a_Vv F hml hl.1 hA hP hD hS (As := []) (x_X10_readNext_1 l dC dI ad cA nF _  hR) (cs_RX9_45 (d := 3) F.2.2.1 (by decide)) tc_1 rfl rfl rfl rfl (Nat.le_of_ble_eq_true rfl) dX9_readBoth_34 ⟨Nat.le_refl 0, Nat.le_refl 0⟩ (fun u4 H locs hq hP hD hS => ?_)
          obtain ⟨hR, hF4, hz4⟩ := hq
          have hF := hF.tr hF4 (by decide)
          have hK_N4 := sp_fr sp_N4 hF4 (by decide) hK_N4
          have hC := vl_eq hC hz4.symm
          refine lv_aload_n F.1 F.2.1 dX9_readBoth_37 rfl (lv_at hl 0 rfl) ?_
          refine lv_iload_n F.1 F.2.1 dX9_readBoth_38 rfl (lv_at hl 1 rfl) ?_
          refine a_Vi F hml hl.1 hA hP hD hS (As := [.int p0]) (x_X9_readOne_51_d2 l dC dI ad cA nF _ p0 hR (by omega) hK_N4) (cs_RX9_52 (d := 30) F.2.2.1 (by decide)) tc_51 rfl rfl rfl rfl (Nat.le_of_ble_eq_true rfl) dX9_readBoth_39 ⟨Nat.le_refl 0, Nat.le_refl 0⟩ (fun r5 u5 H locs hq hP hD hS => ?_)
          obtain ⟨hR, hF5, gr5, hz5⟩ := hq
          have hF := hF.tr hF5 (by decide)
          have hK_N4 := sp_fr sp_N4 hF5 (by decide) hK_N4
          have hC := bd_eq hC hz5
          refine z_ne F 47 dX9_readBoth_42 (by decide) rfl (fun c6 => ?_) (fun c6 => ?_)
          · have hC := hC.trans (if_pos c6)
            refine lv_aload_n F.1 F.2.1 dX9_readBoth_47 rfl (lv_at hl 0 rfl) ?_
            refine a_getr F inX9 hP 51 2 tc_51 rfl rfl (by decide) q467 (fun _ h9 => h9) dX9_readBoth_48 ?_
            refine a_bp F (115 : Int32) dX9_readBoth_51 (by decide) ?_
            refine a_ic F (0 : Int32) dX9_readBoth_53 (by decide) ?_
            refine a_ic F (0 : Int32) dX9_readBoth_54 (by decide) ?_
            refine a_Vv F hml hl.1 hA hP hD hS (As := [.int (115 : Int32), .int (0 : Int32), .int (0 : Int32)]) (x_X8_add_47 l dC dI ad cA nF _ (115 : Int32) (0 : Int32) (0 : Int32) hR (by decide) (by decide)) (cs_RX9_48 (d := 1) F.2.2.1 (by decide)) tc_47 rfl rfl rfl rfl (Nat.le_of_ble_eq_true rfl) dX9_readBoth_55 ⟨Nat.le_refl 0, Nat.le_refl 0⟩ (fun u7 H locs hq hP hD hS => ?_)
            obtain ⟨hR, hF7, hz7⟩ := hq
            have hF := hF.tr hF7 (by decide)
            have hK_N4 := sp_fr sp_N4 hF7 (by decide) hK_N4
            have hC := vl_eq hC hz7.symm
            refine a_iincX F (k := 2) (fun v8 => [(2, .int v8), (0, .ref (ad 51)), (1, .int p0)]) dX9_readBoth_58 hl rfl rfl (by decide) (by omega) (by decide) (fun _ => rfl) (fun v8 ls hv8 yv8 hl => ?_)
            have hC := vl_eq hC yv8
            refine lv_goto (tgt := 12) F.1 F.2.1 dX9_readBoth_61 (by decide) ?_
            exact ih12 v8 _ _ _ _ hR hF (by omega) hK_N4 (by omega) hC hP hD hS (lv_sub hl [1, 2, 0] rfl)
          · have hC := hC.trans (if_neg (by omega))
            refine a_ic F (0 : Int32) dX9_readBoth_45 (by decide) ?_
            exact a_retz F hr hlocks hP hD hS dX9_readBoth_46 (Or.inl rfl) ⟨hR, hF, (by decide), hRR.symm.trans hC⟩
  have hC : RR = f_X9_readBoth_51_d2 u0 p0 := hRR
  unfold f_X9_readBoth_51_d2 at hC
  refine lv_aload_n F.1 F.2.1 dX9_readBoth_0 rfl (lv_at hl 0 rfl) ?_
  refine lv_iload_n F.1 F.2.1 dX9_readBoth_1 rfl (lv_at hl 1 rfl) ?_
  refine a_Vi F hml hl.1 hA hP hD hS (As := [.int p0]) (x_X9_readOne_51_d2 l dC dI ad cA nF _ p0 hR (by omega) hK_N4) (cs_RX9_52 (d := 30) F.2.2.1 (by decide)) tc_51 rfl rfl rfl rfl (Nat.le_of_ble_eq_true rfl) dX9_readBoth_2 ⟨Nat.le_refl 0, Nat.le_refl 0⟩ (fun r9 u9 H locs hq hP hD hS => ?_)
  obtain ⟨hR, hF9, gr9, hz9⟩ := hq
  have hF := hF.tr hF9 (by decide)
  have hK_N4 := sp_fr sp_N4 hF9 (by decide) hK_N4
  have hC := bd_eq hC hz9
  refine z_ne F 10 dX9_readBoth_5 (by decide) rfl (fun c10 => ?_) (fun c10 => ?_)
  · have hC := hC.trans (if_pos c10)
    refine a_ic F (0 : Int32) dX9_readBoth_10 (by decide) ?_
    refine lv_istore_n (lv' := [(2, .int (0 : Int32)), (0, .ref (ad 51)), (1, .int p0)]) F.1 F.2.1 dX9_readBoth_11 rfl hl (by decide) rfl (fun ls hl => ?_)
    exact L12 22 (0 : Int32) _ _ _ _ hR hF (by decide) hK_N4 (by decide) hC hP hD hS (lv_sub hl [1, 2, 0] rfl)
  · have hC := hC.trans (if_neg (by omega))
    refine a_ic F (0 : Int32) dX9_readBoth_8 (by decide) ?_
    exact a_retz F hr hlocks hP hD hS dX9_readBoth_9 (Or.inl rfl) ⟨hR, hF, (by decide), hRR.symm.trans hC⟩
def K_X9_readCond_51_d2_64 (u0 : ac_U) (p0 : Int32) (u : ac_U) : ac_U × Int32 := (u, (1 : Int32))
def K_X9_readCond_51_d2_12_b (B12 : ac_U → Int32 → ac_U × Int32) (u0 : ac_U) (p0 : Int32) (u : ac_U) (x2 : Int32) : ac_U × Int32 := (if (20 : Int) ≤ x2.toInt then (K_X9_readCond_51_d2_64 u0 p0 u) else (if (u.1 1 6).toInt ≠ (114 : Int) then (K_X9_readCond_51_d2_64 u0 p0 u) else (vl (f_X10_readNext_1 u) (fun (u4 : ac_U) => (bd (f_X9_readBoth_51_d2 u4 p0) (fun (u5 : ac_U) (r5 : Int32) => (if r5.toInt ≠ 0 then (vl (f_X8_add_47 u5 (114 : Int32) (0 : Int32) (0 : Int32)) (fun (u7 : ac_U) => (vl (x2 + Int32.ofInt (1)) (fun (v8 : Int32) => (B12 u7 v8))))) else (u5, (0 : Int32)))))))))
def K_X9_readCond_51_d2_12 (u0 : ac_U) (p0 : Int32) : Nat → ac_U → Int32 → ac_U × Int32
  | 0 => fun u x2 => (u, 0)
  | n + 1 => fun u x2 => K_X9_readCond_51_d2_12_b (K_X9_readCond_51_d2_12 u0 p0 n) u0 p0 u x2
def f_X9_readCond_51_d2 (u0 : ac_U) (p0 : Int32) : ac_U × Int32 := (bd (f_X9_readBoth_51_d2 u0 p0) (fun (u9 : ac_U) (r9 : Int32) => (if r9.toInt ≠ 0 then (K_X9_readCond_51_d2_12 u0 p0 22 u9 (0 : Int32)) else (u9, (0 : Int32)))))
set_option maxHeartbeats 600000 in
set_option maxRecDepth 100000 in
theorem x_X9_readCond_51_d2 (l : Launch) (dC : Nat → ClassId) (dI : Nat → Nat → Nat) (ad : Nat → Nat) (cA : Nat → ClassId) (nF : Nat) (u0 : ac_U) (p0 : Int32) (hR : ac_R rg u0) (hp0 : (2 : Int) ≤ p0.toInt ∧ p0.toInt ≤ 2) (hK_N4 : nmI 11 12 u0) : ac_Mi l yX9_readCond (.code yX9_readCond cX9_readCond 3 (some .boolean) :: TB) 32 (dC, dI) vwCl (ac_ty cA) ad cA (TT nF) [.ref (ad 51), .int p0] u0 (fun (r : Int32) (u : ac_U) => ac_R rg u ∧ ac_Fr [(1, some 4), (1, some 5), (1, some 6), (1, some 8), (1, some 9), (1, some 10), (1, some 11), (47, some 3), (47, some 4), (48, none), (49, none), (50, none)] u0 u ∧ ((0 : Int) ≤ r.toInt ∧ r.toInt ≤ 1) ∧ f_X9_readCond_51_d2 u0 p0 = (u, r)) := by
  refine ac_Mi.of (cc := cX9_readCond) (maxL := 3) (ret := (some .boolean)) (by decide) rfl (Nat.le_of_ble_eq_true rfl) ?_
  intro p e s m below meth c A ls F hml hr hlocks hA hP hD hS hl
  have F : ac_X p s m [.ref (ad 51), .int p0].toArray c cX9_readCond RX9 TB (dC, dI) vwCl (ac_ty cA) := ⟨F.1, F.2.1, fun w h => F.2.2.1 w (List.mem_cons_of_mem _ h), F.2.2.2.1, F.2.2.2.2⟩
  have hl : lv_has ls 3 [(0, .ref (ad 51)), (1, .int p0)] := hl
  obtain ⟨RR, hRR⟩ : ∃ q, q = f_X9_readCond_51_d2 u0 p0 := ⟨_, rfl⟩
  have hF : ac_Fr [(1, some 4), (1, some 5), (1, some 6), (1, some 8), (1, some 9), (1, some 10), (1, some 11), (47, some 3), (47, some 4), (48, none), (49, none), (50, none)] u0 u0 := ac_Fr.rf
  have L64 : ∀ (u : ac_U) (H : Heap) (locs : List Loc) (ls : Array Slot), ac_R rg u → ac_Fr [(1, some 4), (1, some 5), (1, some 6), (1, some 8), (1, some 9), (1, some 10), (1, some 11), (47, some 3), (47, some 4), (48, none), (49, none), (50, none)] u0 u → nmI 11 12 u → RR = (K_X9_readCond_51_d2_64 u0 p0 u) → va_P (dC, dI) vwCl (ac_w ad cA (TT nF) u) H → va_D A (ac_w ad cA (TT nF) u) → va_S A s.heap H locs → lv_has ls 3 [] → W p l e (ac_rm 32) s m [.ref (ad 51), .int p0].toArray below meth c H locs 0 0 (MQ below (va_Qi (fun (r : Int32) (u : ac_U) => ac_R rg u ∧ ac_Fr [(1, some 4), (1, some 5), (1, some 6), (1, some 8), (1, some 9), (1, some 10), (1, some 11), (47, some 3), (47, some 4), (48, none), (49, none), (50, none)] u0 u ∧ ((0 : Int) ≤ r.toInt ∧ r.toInt ≤ 1) ∧ f_X9_readCond_51_d2 u0 p0 = (u, r)) (ac_B (dC, dI) vwCl (ac_ty cA) ad cA (TT nF) A) A) [.ref (ad 51), .int p0].toArray s 0 0 A) (F0 m 64 ls []) := by
    intro u H locs ls hR hF hK_N4 hC hP hD hS hl
    unfold K_X9_readCond_51_d2_64 at hC
    refine a_ic F (1 : Int32) dX9_readCond_64 (by decide) ?_
    exact a_retz F hr hlocks hP hD hS dX9_readCond_65 (Or.inr rfl) ⟨hR, hF, (by decide), hRR.symm.trans hC⟩
  have L12 : ∀ (n12 : Nat) (x2 : Int32) (u : ac_U) (H : Heap) (locs : List Loc) (ls : Array Slot), ac_R rg u → ac_Fr [(1, some 4), (1, some 5), (1, some 6), (1, some 8), (1, some 9), (1, some 10), (1, some 11), (47, some 3), (47, some 4), (48, none), (49, none), (50, none)] u0 u → 20 - x2.toInt < (n12 : Int) → nmI 11 12 u → (0 : Int) ≤ x2.toInt ∧ x2.toInt ≤ 20 → RR = (K_X9_readCond_51_d2_12 u0 p0 n12 u x2) → va_P (dC, dI) vwCl (ac_w ad cA (TT nF) u) H → va_D A (ac_w ad cA (TT nF) u) → va_S A s.heap H locs → lv_has ls 3 [(0, .ref (ad 51)), (1, .int p0), (2, .int x2)] → W p l e (ac_rm 32) s m [.ref (ad 51), .int p0].toArray below meth c H locs 0 0 (MQ below (va_Qi (fun (r : Int32) (u : ac_U) => ac_R rg u ∧ ac_Fr [(1, some 4), (1, some 5), (1, some 6), (1, some 8), (1, some 9), (1, some 10), (1, some 11), (47, some 3), (47, some 4), (48, none), (49, none), (50, none)] u0 u ∧ ((0 : Int) ≤ r.toInt ∧ r.toInt ≤ 1) ∧ f_X9_readCond_51_d2 u0 p0 = (u, r)) (ac_B (dC, dI) vwCl (ac_ty cA) ad cA (TT nF) A) A) [.ref (ad 51), .int p0].toArray s 0 0 A) (F0 m 12 ls []) := by
    intro n12
    induction n12 with
    | zero => intro x2 u H locs ls hR hF hn12 hK_N4 f0 hC hP hD hS hl; exfalso; omega
    | succ n12 ih12 =>
      intro x2 u H locs ls hR hF hn12 hK_N4 f0 hC hP hD hS hl
      have hC : RR = K_X9_readCond_51_d2_12_b (K_X9_readCond_51_d2_12 u0 p0 n12) u0 p0 u x2 := hC
      unfold K_X9_readCond_51_d2_12_b at hC
      refine lv_iload_n F.1 F.2.1 dX9_readCond_12 rfl (lv_at hl 2 rfl) ?_
      refine a_bp F (20 : Int32) dX9_readCond_13 (by decide) ?_
      refine b_ge F 64 dX9_readCond_15 (by decide) rfl ic_20 (fun c1 => ?_) (fun c1 => ?_)
      · have hC := hC.trans (if_pos c1)
        exact L64 _ _ _ _ hR hF hK_N4 hC hP hD hS (lv_sub hl [] rfl)
      · have hC := hC.trans (if_neg (by omega))
        refine lv_aload_n F.1 F.2.1 dX9_readCond_18 rfl (lv_at hl 0 rfl) ?_
        refine a_getr F inX9 hP 51 0 tc_51 rfl rfl (by decide) q465 (fun _ h9 => h9) dX9_readCond_19 ?_
        have g2 : (-128 : Int) ≤ (u.1 1 6).toInt ∧ (u.1 1 6).toInt ≤ 127 := hR 1 6
        refine a_geti F inX10 hP 1 6 tc_1 rfl rfl (by decide) q103 (fun _ h9 => h9) (v := (u.1 1 6)) rfl dX9_readCond_22 ?_
        refine a_bp F (114 : Int32) dX9_readCond_25 (by decide) ?_
        refine b_ne F 64 dX9_readCond_27 (by decide) rfl ic_114 (fun c3 => ?_) (fun c3 => ?_)
        · have hC := hC.trans (if_pos c3)
          exact L64 _ _ _ _ hR hF hK_N4 hC hP hD hS (lv_sub hl [] rfl)
        · have hC := hC.trans (if_neg (by omega))
          refine lv_aload_n F.1 F.2.1 dX9_readCond_30 rfl (lv_at hl 0 rfl) ?_
          refine a_getr F inX9 hP 51 0 tc_51 rfl rfl (by decide) q465 (fun _ h9 => h9) dX9_readCond_31 ?_
          refine a_Vv F hml hl.1 hA hP hD hS (As := []) (x_X10_readNext_1 l dC dI ad cA nF _  hR) (cs_RX9_45 (d := 3) F.2.2.1 (by decide)) tc_1 rfl rfl rfl rfl (Nat.le_of_ble_eq_true rfl) dX9_readCond_34 ⟨Nat.le_refl 0, Nat.le_refl 0⟩ (fun u4 H locs hq hP hD hS => ?_)
          obtain ⟨hR, hF4, hz4⟩ := hq
          have hF := hF.tr hF4 (by decide)
          have hK_N4 := sp_fr sp_N4 hF4 (by decide) hK_N4
          have hC := vl_eq hC hz4.symm
          refine lv_aload_n F.1 F.2.1 dX9_readCond_37 rfl (lv_at hl 0 rfl) ?_
          refine lv_iload_n F.1 F.2.1 dX9_readCond_38 rfl (lv_at hl 1 rfl) ?_
          refine a_Vi F hml hl.1 hA hP hD hS (As := [.int p0]) (x_X9_readBoth_51_d2 l dC dI ad cA nF _ p0 hR (by omega) hK_N4) (cs_RX9_42 (d := 31) F.2.2.1 (by decide)) tc_51 rfl rfl rfl rfl (Nat.le_of_ble_eq_true rfl) dX9_readCond_39 ⟨Nat.le_refl 0, Nat.le_refl 0⟩ (fun r5 u5 H locs hq hP hD hS => ?_)
          obtain ⟨hR, hF5, gr5, hz5⟩ := hq
          have hF := hF.tr hF5 (by decide)
          have hK_N4 := sp_fr sp_N4 hF5 (by decide) hK_N4
          have hC := bd_eq hC hz5
          refine z_ne F 47 dX9_readCond_42 (by decide) rfl (fun c6 => ?_) (fun c6 => ?_)
          · have hC := hC.trans (if_pos c6)
            refine lv_aload_n F.1 F.2.1 dX9_readCond_47 rfl (lv_at hl 0 rfl) ?_
            refine a_getr F inX9 hP 51 2 tc_51 rfl rfl (by decide) q467 (fun _ h9 => h9) dX9_readCond_48 ?_
            refine a_bp F (114 : Int32) dX9_readCond_51 (by decide) ?_
            refine a_ic F (0 : Int32) dX9_readCond_53 (by decide) ?_
            refine a_ic F (0 : Int32) dX9_readCond_54 (by decide) ?_
            refine a_Vv F hml hl.1 hA hP hD hS (As := [.int (114 : Int32), .int (0 : Int32), .int (0 : Int32)]) (x_X8_add_47 l dC dI ad cA nF _ (114 : Int32) (0 : Int32) (0 : Int32) hR (by decide) (by decide)) (cs_RX9_48 (d := 1) F.2.2.1 (by decide)) tc_47 rfl rfl rfl rfl (Nat.le_of_ble_eq_true rfl) dX9_readCond_55 ⟨Nat.le_refl 0, Nat.le_refl 0⟩ (fun u7 H locs hq hP hD hS => ?_)
            obtain ⟨hR, hF7, hz7⟩ := hq
            have hF := hF.tr hF7 (by decide)
            have hK_N4 := sp_fr sp_N4 hF7 (by decide) hK_N4
            have hC := vl_eq hC hz7.symm
            refine a_iincX F (k := 2) (fun v8 => [(2, .int v8), (0, .ref (ad 51)), (1, .int p0)]) dX9_readCond_58 hl rfl rfl (by decide) (by omega) (by decide) (fun _ => rfl) (fun v8 ls hv8 yv8 hl => ?_)
            have hC := vl_eq hC yv8
            refine lv_goto (tgt := 12) F.1 F.2.1 dX9_readCond_61 (by decide) ?_
            exact ih12 v8 _ _ _ _ hR hF (by omega) hK_N4 (by omega) hC hP hD hS (lv_sub hl [1, 2, 0] rfl)
          · have hC := hC.trans (if_neg (by omega))
            refine a_ic F (0 : Int32) dX9_readCond_45 (by decide) ?_
            exact a_retz F hr hlocks hP hD hS dX9_readCond_46 (Or.inl rfl) ⟨hR, hF, (by decide), hRR.symm.trans hC⟩
  have hC : RR = f_X9_readCond_51_d2 u0 p0 := hRR
  unfold f_X9_readCond_51_d2 at hC
  refine lv_aload_n F.1 F.2.1 dX9_readCond_0 rfl (lv_at hl 0 rfl) ?_
  refine lv_iload_n F.1 F.2.1 dX9_readCond_1 rfl (lv_at hl 1 rfl) ?_
  refine a_Vi F hml hl.1 hA hP hD hS (As := [.int p0]) (x_X9_readBoth_51_d2 l dC dI ad cA nF _ p0 hR (by omega) hK_N4) (cs_RX9_42 (d := 31) F.2.2.1 (by decide)) tc_51 rfl rfl rfl rfl (Nat.le_of_ble_eq_true rfl) dX9_readCond_2 ⟨Nat.le_refl 0, Nat.le_refl 0⟩ (fun r9 u9 H locs hq hP hD hS => ?_)
  obtain ⟨hR, hF9, gr9, hz9⟩ := hq
  have hF := hF.tr hF9 (by decide)
  have hK_N4 := sp_fr sp_N4 hF9 (by decide) hK_N4
  have hC := bd_eq hC hz9
  refine z_ne F 10 dX9_readCond_5 (by decide) rfl (fun c10 => ?_) (fun c10 => ?_)
  · have hC := hC.trans (if_pos c10)
    refine a_ic F (0 : Int32) dX9_readCond_10 (by decide) ?_
    refine lv_istore_n (lv' := [(2, .int (0 : Int32)), (0, .ref (ad 51)), (1, .int p0)]) F.1 F.2.1 dX9_readCond_11 rfl hl (by decide) rfl (fun ls hl => ?_)
    exact L12 22 (0 : Int32) _ _ _ _ hR hF (by decide) hK_N4 (by decide) hC hP hD hS (lv_sub hl [1, 2, 0] rfl)
  · have hC := hC.trans (if_neg (by omega))
    refine a_ic F (0 : Int32) dX9_readCond_8 (by decide) ?_
    exact a_retz F hr hlocks hP hD hS dX9_readCond_9 (Or.inl rfl) ⟨hR, hF, (by decide), hRR.symm.trans hC⟩


def f_X9_readBracket_51_d1 (u0 : ac_U) (p0 : Int32) : ac_U × Int32 := (vl (f_X10_readNext_1 u0) (fun (u1 : ac_U) => (vl (p0 + (1 : Int32)) (fun (v2 : Int32) => (bd (f_X9_readCond_51_d2 u1 v2) (fun (u3 : ac_U) (r3 : Int32) => (if r3.toInt ≠ 0 then (if (u3.1 1 6).toInt = (41 : Int) then (vl (f_X10_readNext_1 u3) (fun (u7 : ac_U) => (u7, (1 : Int32)))) else (bd (f_X10_fail_1 u3 (1 : Int32)) (fun (u8 : ac_U) (r8 : Int32) => (u8, r8)))) else (u3, (0 : Int32)))))))))
set_option maxHeartbeats 600000 in
set_option maxRecDepth 100000 in
theorem x_X9_readBracket_51_d1 (l : Launch) (dC : Nat → ClassId) (dI : Nat → Nat → Nat) (ad : Nat → Nat) (cA : Nat → ClassId) (nF : Nat) (u0 : ac_U) (p0 : Int32) (hR : ac_R rg u0) (hp0 : (1 : Int) ≤ p0.toInt ∧ p0.toInt ≤ 1) (hK_N4 : nmI 11 12 u0) : ac_Mi l yX9_readBracket (.code yX9_readBracket cX9_readBracket 2 (some .boolean) :: TB) 33 (dC, dI) vwCl (ac_ty cA) ad cA (TT nF) [.ref (ad 51), .int p0] u0 (fun (r : Int32) (u : ac_U) => ac_R rg u ∧ ac_Fr [(1, some 4), (1, some 5), (1, some 6), (1, some 8), (1, some 9), (1, some 10), (1, some 11), (47, some 3), (47, some 4), (48, none), (49, none), (50, none)] u0 u ∧ ((0 : Int) ≤ r.toInt ∧ r.toInt ≤ 1) ∧ f_X9_readBracket_51_d1 u0 p0 = (u, r)) := by
  refine ac_Mi.of (cc := cX9_readBracket) (maxL := 2) (ret := (some .boolean)) (by decide) rfl (Nat.le_of_ble_eq_true rfl) ?_
  intro p e s m below meth c A ls F hml hr hlocks hA hP hD hS hl
  have F : ac_X p s m [.ref (ad 51), .int p0].toArray c cX9_readBracket RX9 TB (dC, dI) vwCl (ac_ty cA) := ⟨F.1, F.2.1, fun w h => F.2.2.1 w (List.mem_cons_of_mem _ h), F.2.2.2.1, F.2.2.2.2⟩
  have hl : lv_has ls 2 [(0, .ref (ad 51)), (1, .int p0)] := hl
  obtain ⟨RR, hRR⟩ : ∃ q, q = f_X9_readBracket_51_d1 u0 p0 := ⟨_, rfl⟩
  have hF : ac_Fr [(1, some 4), (1, some 5), (1, some 6), (1, some 8), (1, some 9), (1, some 10), (1, some 11), (47, some 3), (47, some 4), (48, none), (49, none), (50, none)] u0 u0 := ac_Fr.rf
  have hC : RR = f_X9_readBracket_51_d1 u0 p0 := hRR
  unfold f_X9_readBracket_51_d1 at hC
  refine lv_aload_n F.1 F.2.1 dX9_readBracket_0 rfl (lv_at hl 0 rfl) ?_
  refine a_getr F inX9 hP 51 0 tc_51 rfl rfl (by decide) q465 (fun _ h9 => h9) dX9_readBracket_1 ?_
  refine a_Vv F hml hl.1 hA hP hD hS (As := []) (x_X10_readNext_1 l dC dI ad cA nF _  hR) (cs_RX9_45 (d := 3) F.2.2.1 (by decide)) tc_1 rfl rfl rfl rfl (Nat.le_of_ble_eq_true rfl) dX9_readBracket_4 ⟨Nat.le_refl 0, Nat.le_refl 0⟩ (fun u1 H locs hq hP hD hS => ?_)
  obtain ⟨hR, hF1, hz1⟩ := hq
  have hF := hF.tr hF1 (by decide)
  have hK_N4 := sp_fr sp_N4 hF1 (by decide) hK_N4
  have hC := vl_eq hC hz1.symm
  refine lv_aload_n F.1 F.2.1 dX9_readBracket_7 rfl (lv_at hl 0 rfl) ?_
  refine lv_iload_n F.1 F.2.1 dX9_readBracket_8 rfl (lv_at hl 1 rfl) ?_
  refine a_ic F (1 : Int32) dX9_readBracket_9 (by decide) ?_
  refine a_iaddX F dX9_readBracket_10 rfl ic_1 (by omega) (fun v2 hv2 yv2 => ?_)
  have hC := vl_eq hC yv2
  refine a_Vi F hml hl.1 hA hP hD hS (As := [.int v2]) (x_X9_readCond_51_d2 l dC dI ad cA nF _ v2 hR (by omega) hK_N4) (cs_RX9_74 (d := 32) F.2.2.1 (by decide)) tc_51 rfl rfl rfl rfl (Nat.le_of_ble_eq_true rfl) dX9_readBracket_11 ⟨Nat.le_refl 0, Nat.le_refl 0⟩ (fun r3 u3 H locs hq hP hD hS => ?_)
  obtain ⟨hR, hF3, gr3, hz3⟩ := hq
  have hF := hF.tr hF3 (by decide)
  have hK_N4 := sp_fr sp_N4 hF3 (by decide) hK_N4
  have hC := bd_eq hC hz3
  refine z_ne F 19 dX9_readBracket_14 (by decide) rfl (fun c4 => ?_) (fun c4 => ?_)
  · have hC := hC.trans (if_pos c4)
    refine lv_aload_n F.1 F.2.1 dX9_readBracket_19 rfl (lv_at hl 0 rfl) ?_
    refine a_getr F inX9 hP 51 0 tc_51 rfl rfl (by decide) q465 (fun _ h9 => h9) dX9_readBracket_20 ?_
    have g5 : (-128 : Int) ≤ (u3.1 1 6).toInt ∧ (u3.1 1 6).toInt ≤ 127 := hR 1 6
    refine a_geti F inX10 hP 1 6 tc_1 rfl rfl (by decide) q103 (fun _ h9 => h9) (v := (u3.1 1 6)) rfl dX9_readBracket_23 ?_
    refine a_bp F (41 : Int32) dX9_readBracket_26 (by decide) ?_
    refine b_eq F 40 dX9_readBracket_28 (by decide) rfl ic_41 (fun c6 => ?_) (fun c6 => ?_)
    · have hC := hC.trans (if_pos c6)
      refine lv_aload_n F.1 F.2.1 dX9_readBracket_40 rfl (lv_at hl 0 rfl) ?_
      refine a_getr F inX9 hP 51 0 tc_51 rfl rfl (by decide) q465 (fun _ h9 => h9) dX9_readBracket_41 ?_
      refine a_Vv F hml hl.1 hA hP hD hS (As := []) (x_X10_readNext_1 l dC dI ad cA nF _  hR) (cs_RX9_45 (d := 3) F.2.2.1 (by decide)) tc_1 rfl rfl rfl rfl (Nat.le_of_ble_eq_true rfl) dX9_readBracket_44 ⟨Nat.le_refl 0, Nat.le_refl 0⟩ (fun u7 H locs hq hP hD hS => ?_)
      obtain ⟨hR, hF7, hz7⟩ := hq
      have hF := hF.tr hF7 (by decide)
      have hK_N4 := sp_fr sp_N4 hF7 (by decide) hK_N4
      have hC := vl_eq hC hz7.symm
      refine a_ic F (1 : Int32) dX9_readBracket_47 (by decide) ?_
      exact a_retz F hr hlocks hP hD hS dX9_readBracket_48 (Or.inr rfl) ⟨hR, hF, (by decide), hRR.symm.trans hC⟩
    · have hC := hC.trans (if_neg (by omega))
      refine lv_aload_n F.1 F.2.1 dX9_readBracket_31 rfl (lv_at hl 0 rfl) ?_
      refine a_getr F inX9 hP 51 0 tc_51 rfl rfl (by decide) q465 (fun _ h9 => h9) dX9_readBracket_32 ?_
      refine a_ic F (1 : Int32) dX9_readBracket_35 (by decide) ?_
      refine a_Vi F hml hl.1 hA hP hD hS (As := [.int (1 : Int32)]) (x_X10_fail_1 l dC dI ad cA nF _ (1 : Int32) hR (by decide)) (cs_RX9_38 (d := 1) F.2.2.1 (by decide)) tc_1 rfl rfl rfl rfl (Nat.le_of_ble_eq_true rfl) dX9_readBracket_36 ⟨Nat.le_refl 0, Nat.le_refl 0⟩ (fun r8 u8 H locs hq hP hD hS => ?_)
      obtain ⟨hR, hF8, gr8, hz8⟩ := hq
      have hF := hF.tr hF8 (by decide)
      have hK_N4 := sp_fr sp_N4 hF8 (by decide) hK_N4
      have hC := bd_eq hC hz8
      exact a_retz F hr hlocks hP hD hS dX9_readBracket_39 (i_01 (by omega)) ⟨hR, hF, (by omega : (0 : Int) ≤ r8.toInt ∧ r8.toInt ≤ 1), hRR.symm.trans hC⟩
  · have hC := hC.trans (if_neg (by omega))
    refine a_ic F (0 : Int32) dX9_readBracket_17 (by decide) ?_
    exact a_retz F hr hlocks hP hD hS dX9_readBracket_18 (Or.inl rfl) ⟨hR, hF, (by decide), hRR.symm.trans hC⟩

def f_X9_readNot_51_d1 (u0 : ac_U) (p0 : Int32) : ac_U × Int32 := (vl (f_X10_readNext_1 u0) (fun (u1 : ac_U) => (vl (p0 + (1 : Int32)) (fun (v2 : Int32) => (bd (f_X9_readOne_51_d2 u1 v2) (fun (u3 : ac_U) (r3 : Int32) => (if r3.toInt ≠ 0 then (vl (f_X8_add_47 u3 (116 : Int32) (0 : Int32) (0 : Int32)) (fun (u5 : ac_U) => (u5, (1 : Int32)))) else (u3, (0 : Int32)))))))))
set_option maxHeartbeats 600000 in
set_option maxRecDepth 100000 in
theorem x_X9_readNot_51_d1 (l : Launch) (dC : Nat → ClassId) (dI : Nat → Nat → Nat) (ad : Nat → Nat) (cA : Nat → ClassId) (nF : Nat) (u0 : ac_U) (p0 : Int32) (hR : ac_R rg u0) (hp0 : (1 : Int) ≤ p0.toInt ∧ p0.toInt ≤ 1) (hK_N4 : nmI 11 12 u0) : ac_Mi l yX9_readNot (.code yX9_readNot cX9_readNot 2 (some .boolean) :: TB) 31 (dC, dI) vwCl (ac_ty cA) ad cA (TT nF) [.ref (ad 51), .int p0] u0 (fun (r : Int32) (u : ac_U) => ac_R rg u ∧ ac_Fr [(1, some 4), (1, some 5), (1, some 6), (1, some 8), (1, some 9), (1, some 10), (1, some 11), (47, some 3), (47, some 4), (48, none), (49, none), (50, none)] u0 u ∧ ((0 : Int) ≤ r.toInt ∧ r.toInt ≤ 1) ∧ f_X9_readNot_51_d1 u0 p0 = (u, r)) := by
  refine ac_Mi.of (cc := cX9_readNot) (maxL := 2) (ret := (some .boolean)) (by decide) rfl (Nat.le_of_ble_eq_true rfl) ?_
  intro p e s m below meth c A ls F hml hr hlocks hA hP hD hS hl
  have F : ac_X p s m [.ref (ad 51), .int p0].toArray c cX9_readNot RX9 TB (dC, dI) vwCl (ac_ty cA) := ⟨F.1, F.2.1, fun w h => F.2.2.1 w (List.mem_cons_of_mem _ h), F.2.2.2.1, F.2.2.2.2⟩
  have hl : lv_has ls 2 [(0, .ref (ad 51)), (1, .int p0)] := hl
  obtain ⟨RR, hRR⟩ : ∃ q, q = f_X9_readNot_51_d1 u0 p0 := ⟨_, rfl⟩
  have hF : ac_Fr [(1, some 4), (1, some 5), (1, some 6), (1, some 8), (1, some 9), (1, some 10), (1, some 11), (47, some 3), (47, some 4), (48, none), (49, none), (50, none)] u0 u0 := ac_Fr.rf
  have hC : RR = f_X9_readNot_51_d1 u0 p0 := hRR
  unfold f_X9_readNot_51_d1 at hC
  refine lv_aload_n F.1 F.2.1 dX9_readNot_0 rfl (lv_at hl 0 rfl) ?_
  refine a_getr F inX9 hP 51 0 tc_51 rfl rfl (by decide) q465 (fun _ h9 => h9) dX9_readNot_1 ?_
  refine a_Vv F hml hl.1 hA hP hD hS (As := []) (x_X10_readNext_1 l dC dI ad cA nF _  hR) (cs_RX9_45 (d := 3) F.2.2.1 (by decide)) tc_1 rfl rfl rfl rfl (Nat.le_of_ble_eq_true rfl) dX9_readNot_4 ⟨Nat.le_refl 0, Nat.le_refl 0⟩ (fun u1 H locs hq hP hD hS => ?_)
  obtain ⟨hR, hF1, hz1⟩ := hq
  have hF := hF.tr hF1 (by decide)
  have hK_N4 := sp_fr sp_N4 hF1 (by decide) hK_N4
  have hC := vl_eq hC hz1.symm
  refine lv_aload_n F.1 F.2.1 dX9_readNot_7 rfl (lv_at hl 0 rfl) ?_
  refine lv_iload_n F.1 F.2.1 dX9_readNot_8 rfl (lv_at hl 1 rfl) ?_
  refine a_ic F (1 : Int32) dX9_readNot_9 (by decide) ?_
  refine a_iaddX F dX9_readNot_10 rfl ic_1 (by omega) (fun v2 hv2 yv2 => ?_)
  have hC := vl_eq hC yv2
  refine a_Vi F hml hl.1 hA hP hD hS (As := [.int v2]) (x_X9_readOne_51_d2 l dC dI ad cA nF _ v2 hR (by omega) hK_N4) (cs_RX9_52 (d := 30) F.2.2.1 (by decide)) tc_51 rfl rfl rfl rfl (Nat.le_of_ble_eq_true rfl) dX9_readNot_11 ⟨Nat.le_refl 0, Nat.le_refl 0⟩ (fun r3 u3 H locs hq hP hD hS => ?_)
  obtain ⟨hR, hF3, gr3, hz3⟩ := hq
  have hF := hF.tr hF3 (by decide)
  have hK_N4 := sp_fr sp_N4 hF3 (by decide) hK_N4
  have hC := bd_eq hC hz3
  refine z_ne F 19 dX9_readNot_14 (by decide) rfl (fun c4 => ?_) (fun c4 => ?_)
  · have hC := hC.trans (if_pos c4)
    refine lv_aload_n F.1 F.2.1 dX9_readNot_19 rfl (lv_at hl 0 rfl) ?_
    refine a_getr F inX9 hP 51 2 tc_51 rfl rfl (by decide) q467 (fun _ h9 => h9) dX9_readNot_20 ?_
    refine a_bp F (116 : Int32) dX9_readNot_23 (by decide) ?_
    refine a_ic F (0 : Int32) dX9_readNot_25 (by decide) ?_
    refine a_ic F (0 : Int32) dX9_readNot_26 (by decide) ?_
    refine a_Vv F hml hl.1 hA hP hD hS (As := [.int (116 : Int32), .int (0 : Int32), .int (0 : Int32)]) (x_X8_add_47 l dC dI ad cA nF _ (116 : Int32) (0 : Int32) (0 : Int32) hR (by decide) (by decide)) (cs_RX9_48 (d := 1) F.2.2.1 (by decide)) tc_47 rfl rfl rfl rfl (Nat.le_of_ble_eq_true rfl) dX9_readNot_27 ⟨Nat.le_refl 0, Nat.le_refl 0⟩ (fun u5 H locs hq hP hD hS => ?_)
    obtain ⟨hR, hF5, hz5⟩ := hq
    have hF := hF.tr hF5 (by decide)
    have hK_N4 := sp_fr sp_N4 hF5 (by decide) hK_N4
    have hC := vl_eq hC hz5.symm
    refine a_ic F (1 : Int32) dX9_readNot_30 (by decide) ?_
    exact a_retz F hr hlocks hP hD hS dX9_readNot_31 (Or.inr rfl) ⟨hR, hF, (by decide), hRR.symm.trans hC⟩
  · have hC := hC.trans (if_neg (by omega))
    refine a_ic F (0 : Int32) dX9_readNot_17 (by decide) ?_
    exact a_retz F hr hlocks hP hD hS dX9_readNot_18 (Or.inl rfl) ⟨hR, hF, (by decide), hRR.symm.trans hC⟩
def K_X9_readOne_51_d1_53 (u0 : ac_U) (p0 : Int32) (u : ac_U) : ac_U × Int32 := (bd (f_X10_fail_1 u (4 : Int32)) (fun (u1 : ac_U) (r1 : Int32) => (u1, r1)))
def K_X9_readOne_51_d1_35 (u0 : ac_U) (p0 : Int32) (u : ac_U) (x2 : Int32) : ac_U × Int32 := (if (20 : Int) ≤ (u.1 47 4).toInt then (K_X9_readOne_51_d1_53 u0 p0 u) else (if p0.toInt ≤ (8 : Int) then (vl ((u.1 47 4) + (1 : Int32)) (fun (v6 : Int32) => (if x2.toInt ≠ (40 : Int) then (if x2.toInt ≠ (116 : Int) then (if x2.toInt ≠ (122 : Int) then (if x2.toInt ≤ (122 : Int) then (bd (f_X9_readStatus_51 (pI u 47 4 v6) x2) (fun (u11 : ac_U) (r11 : Int32) => (u11, r11))) else (bd (f_X9_readCompare_51 (pI u 47 4 v6) x2) (fun (u12 : ac_U) (r12 : Int32) => (u12, r12)))) else (bd (f_X9_readOf_51 (pI u 47 4 v6)) (fun (u13 : ac_U) (r13 : Int32) => (u13, r13)))) else (bd (f_X9_readNot_51_d1 (pI u 47 4 v6) p0) (fun (u14 : ac_U) (r14 : Int32) => (u14, r14)))) else (bd (f_X9_readBracket_51_d1 (pI u 47 4 v6) p0) (fun (u15 : ac_U) (r15 : Int32) => (u15, r15)))))) else (u, 0)))
def K_X9_readOne_51_d1_26 (u0 : ac_U) (p0 : Int32) (u : ac_U) : ac_U × Int32 := (bd (f_X10_fail_1 u (1 : Int32)) (fun (u16 : ac_U) (r16 : Int32) => (u16, r16)))
def f_X9_readOne_51_d1 (u0 : ac_U) (p0 : Int32) : ac_U × Int32 := (if (u0.1 1 6).toInt = (40 : Int) then (K_X9_readOne_51_d1_35 u0 p0 u0 (u0.1 1 6)) else (if (u0.1 1 6).toInt < (116 : Int) then (K_X9_readOne_51_d1_26 u0 p0 u0) else (if (u0.1 1 6).toInt ≤ (126 : Int) then (K_X9_readOne_51_d1_35 u0 p0 u0 (u0.1 1 6)) else (K_X9_readOne_51_d1_26 u0 p0 u0))))
set_option maxHeartbeats 600000 in
set_option maxRecDepth 100000 in
theorem x_X9_readOne_51_d1 (l : Launch) (dC : Nat → ClassId) (dI : Nat → Nat → Nat) (ad : Nat → Nat) (cA : Nat → ClassId) (nF : Nat) (u0 : ac_U) (p0 : Int32) (hR : ac_R rg u0) (hp0 : (1 : Int) ≤ p0.toInt ∧ p0.toInt ≤ 1) (hK_N4 : nmI 11 12 u0) : ac_Mi l yX9_readOne (.code yX9_readOne cX9_readOne 3 (some .boolean) :: TB) 34 (dC, dI) vwCl (ac_ty cA) ad cA (TT nF) [.ref (ad 51), .int p0] u0 (fun (r : Int32) (u : ac_U) => ac_R rg u ∧ ac_Fr [(1, some 4), (1, some 5), (1, some 6), (1, some 8), (1, some 9), (1, some 10), (1, some 11), (47, some 3), (47, some 4), (48, none), (49, none), (50, none)] u0 u ∧ ((0 : Int) ≤ r.toInt ∧ r.toInt ≤ 1) ∧ f_X9_readOne_51_d1 u0 p0 = (u, r)) := by
  refine ac_Mi.of (cc := cX9_readOne) (maxL := 3) (ret := (some .boolean)) (by decide) rfl (Nat.le_of_ble_eq_true rfl) ?_
  intro p e s m below meth c A ls F hml hr hlocks hA hP hD hS hl
  have F : ac_X p s m [.ref (ad 51), .int p0].toArray c cX9_readOne RX9 TB (dC, dI) vwCl (ac_ty cA) := ⟨F.1, F.2.1, fun w h => F.2.2.1 w (List.mem_cons_of_mem _ h), F.2.2.2.1, F.2.2.2.2⟩
  have hl : lv_has ls 3 [(0, .ref (ad 51)), (1, .int p0)] := hl
  obtain ⟨RR, hRR⟩ : ∃ q, q = f_X9_readOne_51_d1 u0 p0 := ⟨_, rfl⟩
  have hF : ac_Fr [(1, some 4), (1, some 5), (1, some 6), (1, some 8), (1, some 9), (1, some 10), (1, some 11), (47, some 3), (47, some 4), (48, none), (49, none), (50, none)] u0 u0 := ac_Fr.rf
  have L53 : ∀ (u : ac_U) (H : Heap) (locs : List Loc) (ls : Array Slot), ac_R rg u → ac_Fr [(1, some 4), (1, some 5), (1, some 6), (1, some 8), (1, some 9), (1, some 10), (1, some 11), (47, some 3), (47, some 4), (48, none), (49, none), (50, none)] u0 u → nmI 11 12 u → (40 : Int) ≤ (u.1 1 6).toInt ∧ (u.1 1 6).toInt ≤ 126 → (20 : Int) ≤ (u.1 47 4).toInt ∧ (u.1 47 4).toInt ≤ 20 → RR = (K_X9_readOne_51_d1_53 u0 p0 u) → va_P (dC, dI) vwCl (ac_w ad cA (TT nF) u) H → va_D A (ac_w ad cA (TT nF) u) → va_S A s.heap H locs → lv_has ls 3 [(0, .ref (ad 51))] → W p l e (ac_rm 34) s m [.ref (ad 51), .int p0].toArray below meth c H locs 0 0 (MQ below (va_Qi (fun (r : Int32) (u : ac_U) => ac_R rg u ∧ ac_Fr [(1, some 4), (1, some 5), (1, some 6), (1, some 8), (1, some 9), (1, some 10), (1, some 11), (47, some 3), (47, some 4), (48, none), (49, none), (50, none)] u0 u ∧ ((0 : Int) ≤ r.toInt ∧ r.toInt ≤ 1) ∧ f_X9_readOne_51_d1 u0 p0 = (u, r)) (ac_B (dC, dI) vwCl (ac_ty cA) ad cA (TT nF) A) A) [.ref (ad 51), .int p0].toArray s 0 0 A) (F0 m 53 ls []) := by
    intro u H locs ls hR hF hK_N4 f0 f1 hC hP hD hS hl
    unfold K_X9_readOne_51_d1_53 at hC
    refine lv_aload_n F.1 F.2.1 dX9_readOne_53 rfl (lv_at hl 0 rfl) ?_
    refine a_getr F inX9 hP 51 0 tc_51 rfl rfl (by decide) q465 (fun _ h9 => h9) dX9_readOne_54 ?_
    refine a_ic F (4 : Int32) dX9_readOne_57 (by decide) ?_
    refine a_Vi F hml hl.1 hA hP hD hS (As := [.int (4 : Int32)]) (x_X10_fail_1 l dC dI ad cA nF _ (4 : Int32) hR (by decide)) (cs_RX9_38 (d := 1) F.2.2.1 (by decide)) tc_1 rfl rfl rfl rfl (Nat.le_of_ble_eq_true rfl) dX9_readOne_58 ⟨Nat.le_refl 0, Nat.le_refl 0⟩ (fun r1 u1 H locs hq hP hD hS => ?_)
    obtain ⟨hR, hF1, gr1, hz1⟩ := hq
    have hF := hF.tr hF1 (by decide)
    have hK_N4 := sp_fr sp_N4 hF1 (by decide) hK_N4
    have hC := bd_eq hC hz1
    exact a_retz F hr hlocks hP hD hS dX9_readOne_61 (i_01 (by omega)) ⟨hR, hF, (by omega : (0 : Int) ≤ r1.toInt ∧ r1.toInt ≤ 1), hRR.symm.trans hC⟩
  have L35 : ∀ (x2 : Int32) (u : ac_U) (H : Heap) (locs : List Loc) (ls : Array Slot), ac_R rg u → ac_Fr [(1, some 4), (1, some 5), (1, some 6), (1, some 8), (1, some 9), (1, some 10), (1, some 11), (47, some 3), (47, some 4), (48, none), (49, none), (50, none)] u0 u → nmI 11 12 u → (40 : Int) ≤ x2.toInt ∧ x2.toInt ≤ 126 → (40 : Int) ≤ (u.1 1 6).toInt ∧ (u.1 1 6).toInt ≤ 126 → RR = (K_X9_readOne_51_d1_35 u0 p0 u x2) → va_P (dC, dI) vwCl (ac_w ad cA (TT nF) u) H → va_D A (ac_w ad cA (TT nF) u) → va_S A s.heap H locs → lv_has ls 3 [(0, .ref (ad 51)), (1, .int p0), (2, .int x2)] → W p l e (ac_rm 34) s m [.ref (ad 51), .int p0].toArray below meth c H locs 0 0 (MQ below (va_Qi (fun (r : Int32) (u : ac_U) => ac_R rg u ∧ ac_Fr [(1, some 4), (1, some 5), (1, some 6), (1, some 8), (1, some 9), (1, some 10), (1, some 11), (47, some 3), (47, some 4), (48, none), (49, none), (50, none)] u0 u ∧ ((0 : Int) ≤ r.toInt ∧ r.toInt ≤ 1) ∧ f_X9_readOne_51_d1 u0 p0 = (u, r)) (ac_B (dC, dI) vwCl (ac_ty cA) ad cA (TT nF) A) A) [.ref (ad 51), .int p0].toArray s 0 0 A) (F0 m 35 ls []) := by
    intro x2 u H locs ls hR hF hK_N4 f0 f1 hC hP hD hS hl
    unfold K_X9_readOne_51_d1_35 at hC
    refine lv_aload_n F.1 F.2.1 dX9_readOne_35 rfl (lv_at hl 0 rfl) ?_
    refine a_getr F inX9 hP 51 2 tc_51 rfl rfl (by decide) q467 (fun _ h9 => h9) dX9_readOne_36 ?_
    have g2 : (0 : Int) ≤ (u.1 47 4).toInt ∧ (u.1 47 4).toInt ≤ 20 := hR 47 4
    refine a_geti F inX8 hP 47 4 tc_47 rfl rfl (by decide) q446 (fun _ h9 => h9) (v := (u.1 47 4)) rfl dX9_readOne_39 ?_
    refine a_bp F (20 : Int32) dX9_readOne_42 (by decide) ?_
    refine b_ge F 53 dX9_readOne_44 (by decide) rfl ic_20 (fun c3 => ?_) (fun c3 => ?_)
    · have hC := hC.trans (if_pos c3)
      have g4 : (-128 : Int) ≤ (u.1 1 6).toInt ∧ (u.1 1 6).toInt ≤ 127 := hR 1 6
      exact L53 _ _ _ _ hR hF hK_N4 (by omega : (40 : Int) ≤ (u.1 1 6).toInt ∧ (u.1 1 6).toInt ≤ 126) (by omega : (20 : Int) ≤ (u.1 47 4).toInt ∧ (u.1 47 4).toInt ≤ 20) hC hP hD hS (lv_sub hl [0] rfl)
    · have hC := hC.trans (if_neg (by omega))
      refine lv_iload_n F.1 F.2.1 dX9_readOne_47 rfl (lv_at hl 1 rfl) ?_
      refine a_bp F (8 : Int32) dX9_readOne_48 (by decide) ?_
      refine b_le F 62 dX9_readOne_50 (by decide) rfl ic_8 (fun c5 => ?_) (fun c5 => ?_)
      · have hC := hC.trans (if_pos c5)
        refine lv_aload_n F.1 F.2.1 dX9_readOne_62 rfl (lv_at hl 0 rfl) ?_
        refine a_getr F inX9 hP 51 2 tc_51 rfl rfl (by decide) q467 (fun _ h9 => h9) dX9_readOne_63 ?_
        refine lv_dup F.1 F.2.1 dX9_readOne_66 rfl ?_
        refine a_geti F inX8 hP 47 4 tc_47 rfl rfl (by decide) q446 (fun _ h9 => h9) (v := (u.1 47 4)) (rfl) dX9_readOne_67 ?_
        refine a_ic F (1 : Int32) dX9_readOne_70 (by decide) ?_
        refine a_iaddX F dX9_readOne_71 rfl ic_1 (by omega) (fun v6 hv6 yv6 => ?_)
        have hC := vl_eq hC yv6
        refine a_puti F inX8 tyX8 tyX8_ok nmX8 hP hD hS 47 4 tc_47 rfl rfl (by decide) q446 (fun _ h9 => h9) rfl (ty := .int) (tyX8_ok 4 (by decide)) rfl rfl dX9_readOne_72 (fun H locs hP hD hS => ?_)
        have hR := hR.si (c := 47) (k := 4) (v := v6) (by omega : (0 : Int) ≤ v6.toInt ∧ v6.toInt ≤ 20)
        have hF := hF.si (c := 47) (k := 4) (v := v6) rfl
        have hK_N4 := sp_sgD sp_N4 hD hK_N4 (by decide)
        refine lv_iload_n F.1 F.2.1 dX9_readOne_75 rfl (lv_at hl 2 rfl) ?_
        refine a_bp F (40 : Int32) dX9_readOne_76 (by decide) ?_
        refine b_ne F 87 dX9_readOne_78 (by decide) rfl ic_40 (fun c7 => ?_) (fun c7 => ?_)
        · have hC := hC.trans (if_pos c7)
          refine lv_iload_n F.1 F.2.1 dX9_readOne_87 rfl (lv_at hl 2 rfl) ?_
          refine a_bp F (116 : Int32) dX9_readOne_88 (by decide) ?_
          refine b_ne F 99 dX9_readOne_90 (by decide) rfl ic_116 (fun c8 => ?_) (fun c8 => ?_)
          · have hC := hC.trans (if_pos c8)
            refine lv_iload_n F.1 F.2.1 dX9_readOne_99 rfl (lv_at hl 2 rfl) ?_
            refine a_bp F (122 : Int32) dX9_readOne_100 (by decide) ?_
            refine b_ne F 110 dX9_readOne_102 (by decide) rfl ic_122 (fun c9 => ?_) (fun c9 => ?_)
            · have hC := hC.trans (if_pos c9)
              refine lv_iload_n F.1 F.2.1 dX9_readOne_110 rfl (lv_at hl 2 rfl) ?_
              refine a_bp F (122 : Int32) dX9_readOne_111 (by decide) ?_
              refine b_le F 124 dX9_readOne_113 (by decide) rfl ic_122 (fun c10 => ?_) (fun c10 => ?_)
              · have hC := hC.trans (if_pos c10)
                refine lv_aload_n F.1 F.2.1 dX9_readOne_124 rfl (lv_at hl 0 rfl) ?_
                refine lv_iload_n F.1 F.2.1 dX9_readOne_125 rfl (lv_at hl 2 rfl) ?_
                refine a_Vi F hml hl.1 hA hP hD hS (As := [.int x2]) (x_X9_readStatus_51 l dC dI ad cA nF _ x2 hR (by omega)) (cs_RX9_71 (d := 4) F.2.2.1 (by decide)) tc_51 rfl rfl rfl rfl (Nat.le_of_ble_eq_true rfl) dX9_readOne_126 ⟨Nat.le_refl 0, Nat.le_refl 0⟩ (fun r11 u11 H locs hq hP hD hS => ?_)
                obtain ⟨hR, hF11, gr11, hz11⟩ := hq
                have hF := hF.tr hF11 (by decide)
                have hK_N4 := sp_fr sp_N4 hF11 (by decide) hK_N4
                have hC := bd_eq hC hz11
                exact a_retz F hr hlocks hP hD hS dX9_readOne_129 (i_01 (by omega)) ⟨hR, hF, (by omega : (0 : Int) ≤ r11.toInt ∧ r11.toInt ≤ 1), hRR.symm.trans hC⟩
              · have hC := hC.trans (if_neg (by omega))
                refine lv_aload_n F.1 F.2.1 dX9_readOne_116 rfl (lv_at hl 0 rfl) ?_
                refine lv_iload_n F.1 F.2.1 dX9_readOne_117 rfl (lv_at hl 2 rfl) ?_
                refine a_Vi F hml hl.1 hA hP hD hS (As := [.int x2]) (x_X9_readCompare_51 l dC dI ad cA nF _ x2 hR (by omega)) (cs_RX9_68 (d := 4) F.2.2.1 (by decide)) tc_51 rfl rfl rfl rfl (Nat.le_of_ble_eq_true rfl) dX9_readOne_118 ⟨Nat.le_refl 0, Nat.le_refl 0⟩ (fun r12 u12 H locs hq hP hD hS => ?_)
                obtain ⟨hR, hF12, gr12, hz12⟩ := hq
                have hF := hF.tr hF12 (by decide)
                have hK_N4 := sp_fr sp_N4 hF12 (by decide) hK_N4
                have hC := bd_eq hC hz12
                refine lv_goto (tgt := 129) F.1 F.2.1 dX9_readOne_121 (by decide) ?_
                exact a_retz F hr hlocks hP hD hS dX9_readOne_129 (i_01 (by omega)) ⟨hR, hF, (by omega : (0 : Int) ≤ r12.toInt ∧ r12.toInt ≤ 1), hRR.symm.trans hC⟩
            · have hC := hC.trans (if_neg (by omega))
              refine lv_aload_n F.1 F.2.1 dX9_readOne_105 rfl (lv_at hl 0 rfl) ?_
              refine a_Vi F hml hl.1 hA hP hD hS (As := []) (x_X9_readOf_51 l dC dI ad cA nF _  hR hK_N4) (cs_RX9_64 (d := 4) F.2.2.1 (by decide)) tc_51 rfl rfl rfl rfl (Nat.le_of_ble_eq_true rfl) dX9_readOne_106 ⟨Nat.le_refl 0, Nat.le_refl 0⟩ (fun r13 u13 H locs hq hP hD hS => ?_)
              obtain ⟨hR, hF13, gr13, hz13⟩ := hq
              have hF := hF.tr hF13 (by decide)
              have hK_N4 := sp_fr sp_N4 hF13 (by decide) hK_N4
              have hC := bd_eq hC hz13
              exact a_retz F hr hlocks hP hD hS dX9_readOne_109 (i_01 (by omega)) ⟨hR, hF, (by omega : (0 : Int) ≤ r13.toInt ∧ r13.toInt ≤ 1), hRR.symm.trans hC⟩
          · have hC := hC.trans (if_neg (by omega))
            refine lv_aload_n F.1 F.2.1 dX9_readOne_93 rfl (lv_at hl 0 rfl) ?_
            refine lv_iload_n F.1 F.2.1 dX9_readOne_94 rfl (lv_at hl 1 rfl) ?_
            refine a_Vi F hml hl.1 hA hP hD hS (As := [.int p0]) (x_X9_readNot_51_d1 l dC dI ad cA nF _ p0 hR (by omega) hK_N4) (cs_RX9_61 (d := 31) F.2.2.1 (by decide)) tc_51 rfl rfl rfl rfl (Nat.le_of_ble_eq_true rfl) dX9_readOne_95 ⟨Nat.le_refl 0, Nat.le_refl 0⟩ (fun r14 u14 H locs hq hP hD hS => ?_)
            obtain ⟨hR, hF14, gr14, hz14⟩ := hq
            have hF := hF.tr hF14 (by decide)
            have hK_N4 := sp_fr sp_N4 hF14 (by decide) hK_N4
            have hC := bd_eq hC hz14
            exact a_retz F hr hlocks hP hD hS dX9_readOne_98 (i_01 (by omega)) ⟨hR, hF, (by omega : (0 : Int) ≤ r14.toInt ∧ r14.toInt ≤ 1), hRR.symm.trans hC⟩
        · have hC := hC.trans (if_neg (by omega))
          refine lv_aload_n F.1 F.2.1 dX9_readOne_81 rfl (lv_at hl 0 rfl) ?_
          refine lv_iload_n F.1 F.2.1 dX9_readOne_82 rfl (lv_at hl 1 rfl) ?_
          refine a_Vi F hml hl.1 hA hP hD hS (As := [.int p0]) (x_X9_readBracket_51_d1 l dC dI ad cA nF _ p0 hR (by omega) hK_N4) (cs_RX9_58 (d := 33) F.2.2.1 (by decide)) tc_51 rfl rfl rfl rfl (Nat.le_of_ble_eq_true rfl) dX9_readOne_83 ⟨Nat.le_refl 0, Nat.le_refl 0⟩ (fun r15 u15 H locs hq hP hD hS => ?_)
          obtain ⟨hR, hF15, gr15, hz15⟩ := hq
          have hF := hF.tr hF15 (by decide)
          have hK_N4 := sp_fr sp_N4 hF15 (by decide) hK_N4
          have hC := bd_eq hC hz15
          exact a_retz F hr hlocks hP hD hS dX9_readOne_86 (i_01 (by omega)) ⟨hR, hF, (by omega : (0 : Int) ≤ r15.toInt ∧ r15.toInt ≤ 1), hRR.symm.trans hC⟩
      · exfalso; omega
  have L26 : ∀ (u : ac_U) (H : Heap) (locs : List Loc) (ls : Array Slot), ac_R rg u → ac_Fr [(1, some 4), (1, some 5), (1, some 6), (1, some 8), (1, some 9), (1, some 10), (1, some 11), (47, some 3), (47, some 4), (48, none), (49, none), (50, none)] u0 u → nmI 11 12 u → (-128 : Int) ≤ (u.1 1 6).toInt ∧ (u.1 1 6).toInt ≤ 127 → RR = (K_X9_readOne_51_d1_26 u0 p0 u) → va_P (dC, dI) vwCl (ac_w ad cA (TT nF) u) H → va_D A (ac_w ad cA (TT nF) u) → va_S A s.heap H locs → lv_has ls 3 [(0, .ref (ad 51))] → W p l e (ac_rm 34) s m [.ref (ad 51), .int p0].toArray below meth c H locs 0 0 (MQ below (va_Qi (fun (r : Int32) (u : ac_U) => ac_R rg u ∧ ac_Fr [(1, some 4), (1, some 5), (1, some 6), (1, some 8), (1, some 9), (1, some 10), (1, some 11), (47, some 3), (47, some 4), (48, none), (49, none), (50, none)] u0 u ∧ ((0 : Int) ≤ r.toInt ∧ r.toInt ≤ 1) ∧ f_X9_readOne_51_d1 u0 p0 = (u, r)) (ac_B (dC, dI) vwCl (ac_ty cA) ad cA (TT nF) A) A) [.ref (ad 51), .int p0].toArray s 0 0 A) (F0 m 26 ls []) := by
    intro u H locs ls hR hF hK_N4 f0 hC hP hD hS hl
    unfold K_X9_readOne_51_d1_26 at hC
    refine lv_aload_n F.1 F.2.1 dX9_readOne_26 rfl (lv_at hl 0 rfl) ?_
    refine a_getr F inX9 hP 51 0 tc_51 rfl rfl (by decide) q465 (fun _ h9 => h9) dX9_readOne_27 ?_
    refine a_ic F (1 : Int32) dX9_readOne_30 (by decide) ?_
    refine a_Vi F hml hl.1 hA hP hD hS (As := [.int (1 : Int32)]) (x_X10_fail_1 l dC dI ad cA nF _ (1 : Int32) hR (by decide)) (cs_RX9_38 (d := 1) F.2.2.1 (by decide)) tc_1 rfl rfl rfl rfl (Nat.le_of_ble_eq_true rfl) dX9_readOne_31 ⟨Nat.le_refl 0, Nat.le_refl 0⟩ (fun r16 u16 H locs hq hP hD hS => ?_)
    obtain ⟨hR, hF16, gr16, hz16⟩ := hq
    have hF := hF.tr hF16 (by decide)
    have hK_N4 := sp_fr sp_N4 hF16 (by decide) hK_N4
    have hC := bd_eq hC hz16
    exact a_retz F hr hlocks hP hD hS dX9_readOne_34 (i_01 (by omega)) ⟨hR, hF, (by omega : (0 : Int) ≤ r16.toInt ∧ r16.toInt ≤ 1), hRR.symm.trans hC⟩
  have hC : RR = f_X9_readOne_51_d1 u0 p0 := hRR
  unfold f_X9_readOne_51_d1 at hC
  refine lv_aload_n F.1 F.2.1 dX9_readOne_0 rfl (lv_at hl 0 rfl) ?_
  refine a_getr F inX9 hP 51 0 tc_51 rfl rfl (by decide) q465 (fun _ h9 => h9) dX9_readOne_1 ?_
  have g17 : (-128 : Int) ≤ (u0.1 1 6).toInt ∧ (u0.1 1 6).toInt ≤ 127 := hR 1 6
  refine a_geti F inX10 hP 1 6 tc_1 rfl rfl (by decide) q103 (fun _ h9 => h9) (v := (u0.1 1 6)) rfl dX9_readOne_4 ?_
  refine lv_istore_n (lv' := [(2, .int (u0.1 1 6)), (0, .ref (ad 51)), (1, .int p0)]) F.1 F.2.1 dX9_readOne_7 rfl hl (by decide) rfl (fun ls hl => ?_)
  refine lv_iload_n F.1 F.2.1 dX9_readOne_8 rfl (lv_at hl 0 rfl) ?_
  refine a_bp F (40 : Int32) dX9_readOne_9 (by decide) ?_
  refine b_eq F 35 dX9_readOne_11 (by decide) rfl ic_40 (fun c18 => ?_) (fun c18 => ?_)
  · have hC := hC.trans (if_pos c18)
    exact L35 (u0.1 1 6) _ _ _ _ hR hF hK_N4 (by omega) (by omega : (40 : Int) ≤ (u0.1 1 6).toInt ∧ (u0.1 1 6).toInt ≤ 126) hC hP hD hS (lv_sub hl [1, 2, 0] rfl)
  · have hC := hC.trans (if_neg (by omega))
    refine lv_iload_n F.1 F.2.1 dX9_readOne_14 rfl (lv_at hl 0 rfl) ?_
    refine a_bp F (116 : Int32) dX9_readOne_15 (by decide) ?_
    refine b_lt F 26 dX9_readOne_17 (by decide) rfl ic_116 (fun c19 => ?_) (fun c19 => ?_)
    · have hC := hC.trans (if_pos c19)
      exact L26 _ _ _ _ hR hF hK_N4 (by omega : (-128 : Int) ≤ (u0.1 1 6).toInt ∧ (u0.1 1 6).toInt ≤ 127) hC hP hD hS (lv_sub hl [1] rfl)
    · have hC := hC.trans (if_neg (by omega))
      refine lv_iload_n F.1 F.2.1 dX9_readOne_20 rfl (lv_at hl 0 rfl) ?_
      refine a_bp F (126 : Int32) dX9_readOne_21 (by decide) ?_
      refine b_le F 35 dX9_readOne_23 (by decide) rfl ic_126 (fun c20 => ?_) (fun c20 => ?_)
      · have hC := hC.trans (if_pos c20)
        exact L35 (u0.1 1 6) _ _ _ _ hR hF hK_N4 (by omega) (by omega : (40 : Int) ≤ (u0.1 1 6).toInt ∧ (u0.1 1 6).toInt ≤ 126) hC hP hD hS (lv_sub hl [1, 2, 0] rfl)
      · have hC := hC.trans (if_neg (by omega))
        exact L26 _ _ _ _ hR hF hK_N4 (by omega : (-128 : Int) ≤ (u0.1 1 6).toInt ∧ (u0.1 1 6).toInt ≤ 127) hC hP hD hS (lv_sub hl [1] rfl)
def K_X9_readBoth_51_d1_64 (u0 : ac_U) (p0 : Int32) (u : ac_U) : ac_U × Int32 := (u, (1 : Int32))
def K_X9_readBoth_51_d1_12_b (B12 : ac_U → Int32 → ac_U × Int32) (u0 : ac_U) (p0 : Int32) (u : ac_U) (x2 : Int32) : ac_U × Int32 := (if (20 : Int) ≤ x2.toInt then (K_X9_readBoth_51_d1_64 u0 p0 u) else (if (u.1 1 6).toInt ≠ (115 : Int) then (K_X9_readBoth_51_d1_64 u0 p0 u) else (vl (f_X10_readNext_1 u) (fun (u4 : ac_U) => (bd (f_X9_readOne_51_d1 u4 p0) (fun (u5 : ac_U) (r5 : Int32) => (if r5.toInt ≠ 0 then (vl (f_X8_add_47 u5 (115 : Int32) (0 : Int32) (0 : Int32)) (fun (u7 : ac_U) => (vl (x2 + Int32.ofInt (1)) (fun (v8 : Int32) => (B12 u7 v8))))) else (u5, (0 : Int32)))))))))
def K_X9_readBoth_51_d1_12 (u0 : ac_U) (p0 : Int32) : Nat → ac_U → Int32 → ac_U × Int32
  | 0 => fun u x2 => (u, 0)
  | n + 1 => fun u x2 => K_X9_readBoth_51_d1_12_b (K_X9_readBoth_51_d1_12 u0 p0 n) u0 p0 u x2
def f_X9_readBoth_51_d1 (u0 : ac_U) (p0 : Int32) : ac_U × Int32 := (bd (f_X9_readOne_51_d1 u0 p0) (fun (u9 : ac_U) (r9 : Int32) => (if r9.toInt ≠ 0 then (K_X9_readBoth_51_d1_12 u0 p0 22 u9 (0 : Int32)) else (u9, (0 : Int32)))))
set_option maxHeartbeats 600000 in
set_option maxRecDepth 100000 in
theorem x_X9_readBoth_51_d1 (l : Launch) (dC : Nat → ClassId) (dI : Nat → Nat → Nat) (ad : Nat → Nat) (cA : Nat → ClassId) (nF : Nat) (u0 : ac_U) (p0 : Int32) (hR : ac_R rg u0) (hp0 : (1 : Int) ≤ p0.toInt ∧ p0.toInt ≤ 1) (hK_N4 : nmI 11 12 u0) : ac_Mi l yX9_readBoth (.code yX9_readBoth cX9_readBoth 3 (some .boolean) :: TB) 35 (dC, dI) vwCl (ac_ty cA) ad cA (TT nF) [.ref (ad 51), .int p0] u0 (fun (r : Int32) (u : ac_U) => ac_R rg u ∧ ac_Fr [(1, some 4), (1, some 5), (1, some 6), (1, some 8), (1, some 9), (1, some 10), (1, some 11), (47, some 3), (47, some 4), (48, none), (49, none), (50, none)] u0 u ∧ ((0 : Int) ≤ r.toInt ∧ r.toInt ≤ 1) ∧ f_X9_readBoth_51_d1 u0 p0 = (u, r)) := by
  refine ac_Mi.of (cc := cX9_readBoth) (maxL := 3) (ret := (some .boolean)) (by decide) rfl (Nat.le_of_ble_eq_true rfl) ?_
  intro p e s m below meth c A ls F hml hr hlocks hA hP hD hS hl
  have F : ac_X p s m [.ref (ad 51), .int p0].toArray c cX9_readBoth RX9 TB (dC, dI) vwCl (ac_ty cA) := ⟨F.1, F.2.1, fun w h => F.2.2.1 w (List.mem_cons_of_mem _ h), F.2.2.2.1, F.2.2.2.2⟩
  have hl : lv_has ls 3 [(0, .ref (ad 51)), (1, .int p0)] := hl
  obtain ⟨RR, hRR⟩ : ∃ q, q = f_X9_readBoth_51_d1 u0 p0 := ⟨_, rfl⟩
  have hF : ac_Fr [(1, some 4), (1, some 5), (1, some 6), (1, some 8), (1, some 9), (1, some 10), (1, some 11), (47, some 3), (47, some 4), (48, none), (49, none), (50, none)] u0 u0 := ac_Fr.rf
  have L64 : ∀ (u : ac_U) (H : Heap) (locs : List Loc) (ls : Array Slot), ac_R rg u → ac_Fr [(1, some 4), (1, some 5), (1, some 6), (1, some 8), (1, some 9), (1, some 10), (1, some 11), (47, some 3), (47, some 4), (48, none), (49, none), (50, none)] u0 u → nmI 11 12 u → RR = (K_X9_readBoth_51_d1_64 u0 p0 u) → va_P (dC, dI) vwCl (ac_w ad cA (TT nF) u) H → va_D A (ac_w ad cA (TT nF) u) → va_S A s.heap H locs → lv_has ls 3 [] → W p l e (ac_rm 35) s m [.ref (ad 51), .int p0].toArray below meth c H locs 0 0 (MQ below (va_Qi (fun (r : Int32) (u : ac_U) => ac_R rg u ∧ ac_Fr [(1, some 4), (1, some 5), (1, some 6), (1, some 8), (1, some 9), (1, some 10), (1, some 11), (47, some 3), (47, some 4), (48, none), (49, none), (50, none)] u0 u ∧ ((0 : Int) ≤ r.toInt ∧ r.toInt ≤ 1) ∧ f_X9_readBoth_51_d1 u0 p0 = (u, r)) (ac_B (dC, dI) vwCl (ac_ty cA) ad cA (TT nF) A) A) [.ref (ad 51), .int p0].toArray s 0 0 A) (F0 m 64 ls []) := by
    intro u H locs ls hR hF hK_N4 hC hP hD hS hl
    unfold K_X9_readBoth_51_d1_64 at hC
    refine a_ic F (1 : Int32) dX9_readBoth_64 (by decide) ?_
    exact a_retz F hr hlocks hP hD hS dX9_readBoth_65 (Or.inr rfl) ⟨hR, hF, (by decide), hRR.symm.trans hC⟩
  have L12 : ∀ (n12 : Nat) (x2 : Int32) (u : ac_U) (H : Heap) (locs : List Loc) (ls : Array Slot), ac_R rg u → ac_Fr [(1, some 4), (1, some 5), (1, some 6), (1, some 8), (1, some 9), (1, some 10), (1, some 11), (47, some 3), (47, some 4), (48, none), (49, none), (50, none)] u0 u → 20 - x2.toInt < (n12 : Int) → nmI 11 12 u → (0 : Int) ≤ x2.toInt ∧ x2.toInt ≤ 20 → RR = (K_X9_readBoth_51_d1_12 u0 p0 n12 u x2) → va_P (dC, dI) vwCl (ac_w ad cA (TT nF) u) H → va_D A (ac_w ad cA (TT nF) u) → va_S A s.heap H locs → lv_has ls 3 [(0, .ref (ad 51)), (1, .int p0), (2, .int x2)] → W p l e (ac_rm 35) s m [.ref (ad 51), .int p0].toArray below meth c H locs 0 0 (MQ below (va_Qi (fun (r : Int32) (u : ac_U) => ac_R rg u ∧ ac_Fr [(1, some 4), (1, some 5), (1, some 6), (1, some 8), (1, some 9), (1, some 10), (1, some 11), (47, some 3), (47, some 4), (48, none), (49, none), (50, none)] u0 u ∧ ((0 : Int) ≤ r.toInt ∧ r.toInt ≤ 1) ∧ f_X9_readBoth_51_d1 u0 p0 = (u, r)) (ac_B (dC, dI) vwCl (ac_ty cA) ad cA (TT nF) A) A) [.ref (ad 51), .int p0].toArray s 0 0 A) (F0 m 12 ls []) := by
    intro n12
    induction n12 with
    | zero => intro x2 u H locs ls hR hF hn12 hK_N4 f0 hC hP hD hS hl; exfalso; omega
    | succ n12 ih12 =>
      intro x2 u H locs ls hR hF hn12 hK_N4 f0 hC hP hD hS hl
      have hC : RR = K_X9_readBoth_51_d1_12_b (K_X9_readBoth_51_d1_12 u0 p0 n12) u0 p0 u x2 := hC
      unfold K_X9_readBoth_51_d1_12_b at hC
      refine lv_iload_n F.1 F.2.1 dX9_readBoth_12 rfl (lv_at hl 2 rfl) ?_
      refine a_bp F (20 : Int32) dX9_readBoth_13 (by decide) ?_
      refine b_ge F 64 dX9_readBoth_15 (by decide) rfl ic_20 (fun c1 => ?_) (fun c1 => ?_)
      · have hC := hC.trans (if_pos c1)
        exact L64 _ _ _ _ hR hF hK_N4 hC hP hD hS (lv_sub hl [] rfl)
      · have hC := hC.trans (if_neg (by omega))
        refine lv_aload_n F.1 F.2.1 dX9_readBoth_18 rfl (lv_at hl 0 rfl) ?_
        refine a_getr F inX9 hP 51 0 tc_51 rfl rfl (by decide) q465 (fun _ h9 => h9) dX9_readBoth_19 ?_
        have g2 : (-128 : Int) ≤ (u.1 1 6).toInt ∧ (u.1 1 6).toInt ≤ 127 := hR 1 6
        refine a_geti F inX10 hP 1 6 tc_1 rfl rfl (by decide) q103 (fun _ h9 => h9) (v := (u.1 1 6)) rfl dX9_readBoth_22 ?_
        refine a_bp F (115 : Int32) dX9_readBoth_25 (by decide) ?_
        refine b_ne F 64 dX9_readBoth_27 (by decide) rfl ic_115 (fun c3 => ?_) (fun c3 => ?_)
        · have hC := hC.trans (if_pos c3)
          exact L64 _ _ _ _ hR hF hK_N4 hC hP hD hS (lv_sub hl [] rfl)
        · have hC := hC.trans (if_neg (by omega))
          refine lv_aload_n F.1 F.2.1 dX9_readBoth_30 rfl (lv_at hl 0 rfl) ?_
          refine a_getr F inX9 hP 51 0 tc_51 rfl rfl (by decide) q465 (fun _ h9 => h9) dX9_readBoth_31 ?_
          refine a_Vv F hml hl.1 hA hP hD hS (As := []) (x_X10_readNext_1 l dC dI ad cA nF _  hR) (cs_RX9_45 (d := 3) F.2.2.1 (by decide)) tc_1 rfl rfl rfl rfl (Nat.le_of_ble_eq_true rfl) dX9_readBoth_34 ⟨Nat.le_refl 0, Nat.le_refl 0⟩ (fun u4 H locs hq hP hD hS => ?_)
          obtain ⟨hR, hF4, hz4⟩ := hq
          have hF := hF.tr hF4 (by decide)
          have hK_N4 := sp_fr sp_N4 hF4 (by decide) hK_N4
          have hC := vl_eq hC hz4.symm
          refine lv_aload_n F.1 F.2.1 dX9_readBoth_37 rfl (lv_at hl 0 rfl) ?_
          refine lv_iload_n F.1 F.2.1 dX9_readBoth_38 rfl (lv_at hl 1 rfl) ?_
          refine a_Vi F hml hl.1 hA hP hD hS (As := [.int p0]) (x_X9_readOne_51_d1 l dC dI ad cA nF _ p0 hR (by omega) hK_N4) (cs_RX9_52 (d := 34) F.2.2.1 (by decide)) tc_51 rfl rfl rfl rfl (Nat.le_of_ble_eq_true rfl) dX9_readBoth_39 ⟨Nat.le_refl 0, Nat.le_refl 0⟩ (fun r5 u5 H locs hq hP hD hS => ?_)
          obtain ⟨hR, hF5, gr5, hz5⟩ := hq
          have hF := hF.tr hF5 (by decide)
          have hK_N4 := sp_fr sp_N4 hF5 (by decide) hK_N4
          have hC := bd_eq hC hz5
          refine z_ne F 47 dX9_readBoth_42 (by decide) rfl (fun c6 => ?_) (fun c6 => ?_)
          · have hC := hC.trans (if_pos c6)
            refine lv_aload_n F.1 F.2.1 dX9_readBoth_47 rfl (lv_at hl 0 rfl) ?_
            refine a_getr F inX9 hP 51 2 tc_51 rfl rfl (by decide) q467 (fun _ h9 => h9) dX9_readBoth_48 ?_
            refine a_bp F (115 : Int32) dX9_readBoth_51 (by decide) ?_
            refine a_ic F (0 : Int32) dX9_readBoth_53 (by decide) ?_
            refine a_ic F (0 : Int32) dX9_readBoth_54 (by decide) ?_
            refine a_Vv F hml hl.1 hA hP hD hS (As := [.int (115 : Int32), .int (0 : Int32), .int (0 : Int32)]) (x_X8_add_47 l dC dI ad cA nF _ (115 : Int32) (0 : Int32) (0 : Int32) hR (by decide) (by decide)) (cs_RX9_48 (d := 1) F.2.2.1 (by decide)) tc_47 rfl rfl rfl rfl (Nat.le_of_ble_eq_true rfl) dX9_readBoth_55 ⟨Nat.le_refl 0, Nat.le_refl 0⟩ (fun u7 H locs hq hP hD hS => ?_)
            obtain ⟨hR, hF7, hz7⟩ := hq
            have hF := hF.tr hF7 (by decide)
            have hK_N4 := sp_fr sp_N4 hF7 (by decide) hK_N4
            have hC := vl_eq hC hz7.symm
            refine a_iincX F (k := 2) (fun v8 => [(2, .int v8), (0, .ref (ad 51)), (1, .int p0)]) dX9_readBoth_58 hl rfl rfl (by decide) (by omega) (by decide) (fun _ => rfl) (fun v8 ls hv8 yv8 hl => ?_)
            have hC := vl_eq hC yv8
            refine lv_goto (tgt := 12) F.1 F.2.1 dX9_readBoth_61 (by decide) ?_
            exact ih12 v8 _ _ _ _ hR hF (by omega) hK_N4 (by omega) hC hP hD hS (lv_sub hl [1, 2, 0] rfl)
          · have hC := hC.trans (if_neg (by omega))
            refine a_ic F (0 : Int32) dX9_readBoth_45 (by decide) ?_
            exact a_retz F hr hlocks hP hD hS dX9_readBoth_46 (Or.inl rfl) ⟨hR, hF, (by decide), hRR.symm.trans hC⟩
  have hC : RR = f_X9_readBoth_51_d1 u0 p0 := hRR
  unfold f_X9_readBoth_51_d1 at hC
  refine lv_aload_n F.1 F.2.1 dX9_readBoth_0 rfl (lv_at hl 0 rfl) ?_
  refine lv_iload_n F.1 F.2.1 dX9_readBoth_1 rfl (lv_at hl 1 rfl) ?_
  refine a_Vi F hml hl.1 hA hP hD hS (As := [.int p0]) (x_X9_readOne_51_d1 l dC dI ad cA nF _ p0 hR (by omega) hK_N4) (cs_RX9_52 (d := 34) F.2.2.1 (by decide)) tc_51 rfl rfl rfl rfl (Nat.le_of_ble_eq_true rfl) dX9_readBoth_2 ⟨Nat.le_refl 0, Nat.le_refl 0⟩ (fun r9 u9 H locs hq hP hD hS => ?_)
  obtain ⟨hR, hF9, gr9, hz9⟩ := hq
  have hF := hF.tr hF9 (by decide)
  have hK_N4 := sp_fr sp_N4 hF9 (by decide) hK_N4
  have hC := bd_eq hC hz9
  refine z_ne F 10 dX9_readBoth_5 (by decide) rfl (fun c10 => ?_) (fun c10 => ?_)
  · have hC := hC.trans (if_pos c10)
    refine a_ic F (0 : Int32) dX9_readBoth_10 (by decide) ?_
    refine lv_istore_n (lv' := [(2, .int (0 : Int32)), (0, .ref (ad 51)), (1, .int p0)]) F.1 F.2.1 dX9_readBoth_11 rfl hl (by decide) rfl (fun ls hl => ?_)
    exact L12 22 (0 : Int32) _ _ _ _ hR hF (by decide) hK_N4 (by decide) hC hP hD hS (lv_sub hl [1, 2, 0] rfl)
  · have hC := hC.trans (if_neg (by omega))
    refine a_ic F (0 : Int32) dX9_readBoth_8 (by decide) ?_
    exact a_retz F hr hlocks hP hD hS dX9_readBoth_9 (Or.inl rfl) ⟨hR, hF, (by decide), hRR.symm.trans hC⟩
def K_X9_readCond_51_d1_64 (u0 : ac_U) (p0 : Int32) (u : ac_U) : ac_U × Int32 := (u, (1 : Int32))
def K_X9_readCond_51_d1_12_b (B12 : ac_U → Int32 → ac_U × Int32) (u0 : ac_U) (p0 : Int32) (u : ac_U) (x2 : Int32) : ac_U × Int32 := (if (20 : Int) ≤ x2.toInt then (K_X9_readCond_51_d1_64 u0 p0 u) else (if (u.1 1 6).toInt ≠ (114 : Int) then (K_X9_readCond_51_d1_64 u0 p0 u) else (vl (f_X10_readNext_1 u) (fun (u4 : ac_U) => (bd (f_X9_readBoth_51_d1 u4 p0) (fun (u5 : ac_U) (r5 : Int32) => (if r5.toInt ≠ 0 then (vl (f_X8_add_47 u5 (114 : Int32) (0 : Int32) (0 : Int32)) (fun (u7 : ac_U) => (vl (x2 + Int32.ofInt (1)) (fun (v8 : Int32) => (B12 u7 v8))))) else (u5, (0 : Int32)))))))))
def K_X9_readCond_51_d1_12 (u0 : ac_U) (p0 : Int32) : Nat → ac_U → Int32 → ac_U × Int32
  | 0 => fun u x2 => (u, 0)
  | n + 1 => fun u x2 => K_X9_readCond_51_d1_12_b (K_X9_readCond_51_d1_12 u0 p0 n) u0 p0 u x2
def f_X9_readCond_51_d1 (u0 : ac_U) (p0 : Int32) : ac_U × Int32 := (bd (f_X9_readBoth_51_d1 u0 p0) (fun (u9 : ac_U) (r9 : Int32) => (if r9.toInt ≠ 0 then (K_X9_readCond_51_d1_12 u0 p0 22 u9 (0 : Int32)) else (u9, (0 : Int32)))))
set_option maxHeartbeats 600000 in
set_option maxRecDepth 100000 in
theorem x_X9_readCond_51_d1 (l : Launch) (dC : Nat → ClassId) (dI : Nat → Nat → Nat) (ad : Nat → Nat) (cA : Nat → ClassId) (nF : Nat) (u0 : ac_U) (p0 : Int32) (hR : ac_R rg u0) (hp0 : (1 : Int) ≤ p0.toInt ∧ p0.toInt ≤ 1) (hK_N4 : nmI 11 12 u0) : ac_Mi l yX9_readCond (.code yX9_readCond cX9_readCond 3 (some .boolean) :: TB) 36 (dC, dI) vwCl (ac_ty cA) ad cA (TT nF) [.ref (ad 51), .int p0] u0 (fun (r : Int32) (u : ac_U) => ac_R rg u ∧ ac_Fr [(1, some 4), (1, some 5), (1, some 6), (1, some 8), (1, some 9), (1, some 10), (1, some 11), (47, some 3), (47, some 4), (48, none), (49, none), (50, none)] u0 u ∧ ((0 : Int) ≤ r.toInt ∧ r.toInt ≤ 1) ∧ f_X9_readCond_51_d1 u0 p0 = (u, r)) := by
  refine ac_Mi.of (cc := cX9_readCond) (maxL := 3) (ret := (some .boolean)) (by decide) rfl (Nat.le_of_ble_eq_true rfl) ?_
  intro p e s m below meth c A ls F hml hr hlocks hA hP hD hS hl
  have F : ac_X p s m [.ref (ad 51), .int p0].toArray c cX9_readCond RX9 TB (dC, dI) vwCl (ac_ty cA) := ⟨F.1, F.2.1, fun w h => F.2.2.1 w (List.mem_cons_of_mem _ h), F.2.2.2.1, F.2.2.2.2⟩
  have hl : lv_has ls 3 [(0, .ref (ad 51)), (1, .int p0)] := hl
  obtain ⟨RR, hRR⟩ : ∃ q, q = f_X9_readCond_51_d1 u0 p0 := ⟨_, rfl⟩
  have hF : ac_Fr [(1, some 4), (1, some 5), (1, some 6), (1, some 8), (1, some 9), (1, some 10), (1, some 11), (47, some 3), (47, some 4), (48, none), (49, none), (50, none)] u0 u0 := ac_Fr.rf
  have L64 : ∀ (u : ac_U) (H : Heap) (locs : List Loc) (ls : Array Slot), ac_R rg u → ac_Fr [(1, some 4), (1, some 5), (1, some 6), (1, some 8), (1, some 9), (1, some 10), (1, some 11), (47, some 3), (47, some 4), (48, none), (49, none), (50, none)] u0 u → nmI 11 12 u → RR = (K_X9_readCond_51_d1_64 u0 p0 u) → va_P (dC, dI) vwCl (ac_w ad cA (TT nF) u) H → va_D A (ac_w ad cA (TT nF) u) → va_S A s.heap H locs → lv_has ls 3 [] → W p l e (ac_rm 36) s m [.ref (ad 51), .int p0].toArray below meth c H locs 0 0 (MQ below (va_Qi (fun (r : Int32) (u : ac_U) => ac_R rg u ∧ ac_Fr [(1, some 4), (1, some 5), (1, some 6), (1, some 8), (1, some 9), (1, some 10), (1, some 11), (47, some 3), (47, some 4), (48, none), (49, none), (50, none)] u0 u ∧ ((0 : Int) ≤ r.toInt ∧ r.toInt ≤ 1) ∧ f_X9_readCond_51_d1 u0 p0 = (u, r)) (ac_B (dC, dI) vwCl (ac_ty cA) ad cA (TT nF) A) A) [.ref (ad 51), .int p0].toArray s 0 0 A) (F0 m 64 ls []) := by
    intro u H locs ls hR hF hK_N4 hC hP hD hS hl
    unfold K_X9_readCond_51_d1_64 at hC
    refine a_ic F (1 : Int32) dX9_readCond_64 (by decide) ?_
    exact a_retz F hr hlocks hP hD hS dX9_readCond_65 (Or.inr rfl) ⟨hR, hF, (by decide), hRR.symm.trans hC⟩
  have L12 : ∀ (n12 : Nat) (x2 : Int32) (u : ac_U) (H : Heap) (locs : List Loc) (ls : Array Slot), ac_R rg u → ac_Fr [(1, some 4), (1, some 5), (1, some 6), (1, some 8), (1, some 9), (1, some 10), (1, some 11), (47, some 3), (47, some 4), (48, none), (49, none), (50, none)] u0 u → 20 - x2.toInt < (n12 : Int) → nmI 11 12 u → (0 : Int) ≤ x2.toInt ∧ x2.toInt ≤ 20 → RR = (K_X9_readCond_51_d1_12 u0 p0 n12 u x2) → va_P (dC, dI) vwCl (ac_w ad cA (TT nF) u) H → va_D A (ac_w ad cA (TT nF) u) → va_S A s.heap H locs → lv_has ls 3 [(0, .ref (ad 51)), (1, .int p0), (2, .int x2)] → W p l e (ac_rm 36) s m [.ref (ad 51), .int p0].toArray below meth c H locs 0 0 (MQ below (va_Qi (fun (r : Int32) (u : ac_U) => ac_R rg u ∧ ac_Fr [(1, some 4), (1, some 5), (1, some 6), (1, some 8), (1, some 9), (1, some 10), (1, some 11), (47, some 3), (47, some 4), (48, none), (49, none), (50, none)] u0 u ∧ ((0 : Int) ≤ r.toInt ∧ r.toInt ≤ 1) ∧ f_X9_readCond_51_d1 u0 p0 = (u, r)) (ac_B (dC, dI) vwCl (ac_ty cA) ad cA (TT nF) A) A) [.ref (ad 51), .int p0].toArray s 0 0 A) (F0 m 12 ls []) := by
    intro n12
    induction n12 with
    | zero => intro x2 u H locs ls hR hF hn12 hK_N4 f0 hC hP hD hS hl; exfalso; omega
    | succ n12 ih12 =>
      intro x2 u H locs ls hR hF hn12 hK_N4 f0 hC hP hD hS hl
      have hC : RR = K_X9_readCond_51_d1_12_b (K_X9_readCond_51_d1_12 u0 p0 n12) u0 p0 u x2 := hC
      unfold K_X9_readCond_51_d1_12_b at hC
      refine lv_iload_n F.1 F.2.1 dX9_readCond_12 rfl (lv_at hl 2 rfl) ?_
      refine a_bp F (20 : Int32) dX9_readCond_13 (by decide) ?_
      refine b_ge F 64 dX9_readCond_15 (by decide) rfl ic_20 (fun c1 => ?_) (fun c1 => ?_)
      · have hC := hC.trans (if_pos c1)
        exact L64 _ _ _ _ hR hF hK_N4 hC hP hD hS (lv_sub hl [] rfl)
      · have hC := hC.trans (if_neg (by omega))
        refine lv_aload_n F.1 F.2.1 dX9_readCond_18 rfl (lv_at hl 0 rfl) ?_
        refine a_getr F inX9 hP 51 0 tc_51 rfl rfl (by decide) q465 (fun _ h9 => h9) dX9_readCond_19 ?_
        have g2 : (-128 : Int) ≤ (u.1 1 6).toInt ∧ (u.1 1 6).toInt ≤ 127 := hR 1 6
        refine a_geti F inX10 hP 1 6 tc_1 rfl rfl (by decide) q103 (fun _ h9 => h9) (v := (u.1 1 6)) rfl dX9_readCond_22 ?_
        refine a_bp F (114 : Int32) dX9_readCond_25 (by decide) ?_
        refine b_ne F 64 dX9_readCond_27 (by decide) rfl ic_114 (fun c3 => ?_) (fun c3 => ?_)
        · have hC := hC.trans (if_pos c3)
          exact L64 _ _ _ _ hR hF hK_N4 hC hP hD hS (lv_sub hl [] rfl)
        · have hC := hC.trans (if_neg (by omega))
          refine lv_aload_n F.1 F.2.1 dX9_readCond_30 rfl (lv_at hl 0 rfl) ?_
          refine a_getr F inX9 hP 51 0 tc_51 rfl rfl (by decide) q465 (fun _ h9 => h9) dX9_readCond_31 ?_
          refine a_Vv F hml hl.1 hA hP hD hS (As := []) (x_X10_readNext_1 l dC dI ad cA nF _  hR) (cs_RX9_45 (d := 3) F.2.2.1 (by decide)) tc_1 rfl rfl rfl rfl (Nat.le_of_ble_eq_true rfl) dX9_readCond_34 ⟨Nat.le_refl 0, Nat.le_refl 0⟩ (fun u4 H locs hq hP hD hS => ?_)
          obtain ⟨hR, hF4, hz4⟩ := hq
          have hF := hF.tr hF4 (by decide)
          have hK_N4 := sp_fr sp_N4 hF4 (by decide) hK_N4
          have hC := vl_eq hC hz4.symm
          refine lv_aload_n F.1 F.2.1 dX9_readCond_37 rfl (lv_at hl 0 rfl) ?_
          refine lv_iload_n F.1 F.2.1 dX9_readCond_38 rfl (lv_at hl 1 rfl) ?_
          refine a_Vi F hml hl.1 hA hP hD hS (As := [.int p0]) (x_X9_readBoth_51_d1 l dC dI ad cA nF _ p0 hR (by omega) hK_N4) (cs_RX9_42 (d := 35) F.2.2.1 (by decide)) tc_51 rfl rfl rfl rfl (Nat.le_of_ble_eq_true rfl) dX9_readCond_39 ⟨Nat.le_refl 0, Nat.le_refl 0⟩ (fun r5 u5 H locs hq hP hD hS => ?_)
          obtain ⟨hR, hF5, gr5, hz5⟩ := hq
          have hF := hF.tr hF5 (by decide)
          have hK_N4 := sp_fr sp_N4 hF5 (by decide) hK_N4
          have hC := bd_eq hC hz5
          refine z_ne F 47 dX9_readCond_42 (by decide) rfl (fun c6 => ?_) (fun c6 => ?_)
          · have hC := hC.trans (if_pos c6)
            refine lv_aload_n F.1 F.2.1 dX9_readCond_47 rfl (lv_at hl 0 rfl) ?_
            refine a_getr F inX9 hP 51 2 tc_51 rfl rfl (by decide) q467 (fun _ h9 => h9) dX9_readCond_48 ?_
            refine a_bp F (114 : Int32) dX9_readCond_51 (by decide) ?_
            refine a_ic F (0 : Int32) dX9_readCond_53 (by decide) ?_
            refine a_ic F (0 : Int32) dX9_readCond_54 (by decide) ?_
            refine a_Vv F hml hl.1 hA hP hD hS (As := [.int (114 : Int32), .int (0 : Int32), .int (0 : Int32)]) (x_X8_add_47 l dC dI ad cA nF _ (114 : Int32) (0 : Int32) (0 : Int32) hR (by decide) (by decide)) (cs_RX9_48 (d := 1) F.2.2.1 (by decide)) tc_47 rfl rfl rfl rfl (Nat.le_of_ble_eq_true rfl) dX9_readCond_55 ⟨Nat.le_refl 0, Nat.le_refl 0⟩ (fun u7 H locs hq hP hD hS => ?_)
            obtain ⟨hR, hF7, hz7⟩ := hq
            have hF := hF.tr hF7 (by decide)
            have hK_N4 := sp_fr sp_N4 hF7 (by decide) hK_N4
            have hC := vl_eq hC hz7.symm
            refine a_iincX F (k := 2) (fun v8 => [(2, .int v8), (0, .ref (ad 51)), (1, .int p0)]) dX9_readCond_58 hl rfl rfl (by decide) (by omega) (by decide) (fun _ => rfl) (fun v8 ls hv8 yv8 hl => ?_)
            have hC := vl_eq hC yv8
            refine lv_goto (tgt := 12) F.1 F.2.1 dX9_readCond_61 (by decide) ?_
            exact ih12 v8 _ _ _ _ hR hF (by omega) hK_N4 (by omega) hC hP hD hS (lv_sub hl [1, 2, 0] rfl)
          · have hC := hC.trans (if_neg (by omega))
            refine a_ic F (0 : Int32) dX9_readCond_45 (by decide) ?_
            exact a_retz F hr hlocks hP hD hS dX9_readCond_46 (Or.inl rfl) ⟨hR, hF, (by decide), hRR.symm.trans hC⟩
  have hC : RR = f_X9_readCond_51_d1 u0 p0 := hRR
  unfold f_X9_readCond_51_d1 at hC
  refine lv_aload_n F.1 F.2.1 dX9_readCond_0 rfl (lv_at hl 0 rfl) ?_
  refine lv_iload_n F.1 F.2.1 dX9_readCond_1 rfl (lv_at hl 1 rfl) ?_
  refine a_Vi F hml hl.1 hA hP hD hS (As := [.int p0]) (x_X9_readBoth_51_d1 l dC dI ad cA nF _ p0 hR (by omega) hK_N4) (cs_RX9_42 (d := 35) F.2.2.1 (by decide)) tc_51 rfl rfl rfl rfl (Nat.le_of_ble_eq_true rfl) dX9_readCond_2 ⟨Nat.le_refl 0, Nat.le_refl 0⟩ (fun r9 u9 H locs hq hP hD hS => ?_)
  obtain ⟨hR, hF9, gr9, hz9⟩ := hq
  have hF := hF.tr hF9 (by decide)
  have hK_N4 := sp_fr sp_N4 hF9 (by decide) hK_N4
  have hC := bd_eq hC hz9
  refine z_ne F 10 dX9_readCond_5 (by decide) rfl (fun c10 => ?_) (fun c10 => ?_)
  · have hC := hC.trans (if_pos c10)
    refine a_ic F (0 : Int32) dX9_readCond_10 (by decide) ?_
    refine lv_istore_n (lv' := [(2, .int (0 : Int32)), (0, .ref (ad 51)), (1, .int p0)]) F.1 F.2.1 dX9_readCond_11 rfl hl (by decide) rfl (fun ls hl => ?_)
    exact L12 22 (0 : Int32) _ _ _ _ hR hF (by decide) hK_N4 (by decide) hC hP hD hS (lv_sub hl [1, 2, 0] rfl)
  · have hC := hC.trans (if_neg (by omega))
    refine a_ic F (0 : Int32) dX9_readCond_8 (by decide) ?_
    exact a_retz F hr hlocks hP hD hS dX9_readCond_9 (Or.inl rfl) ⟨hR, hF, (by decide), hRR.symm.trans hC⟩
def K_X11_sentence_0_33 (u0 : ac_U) (u : ac_U) (z0 : Int32) : ac_U × Int32 := (if z0.toInt ≠ 0 then (vl (f_X8_copyFrom_43_47 (pI u 1 2 (0 : Int32))) (fun (u2 : ac_U) => (u2, (u2.1 43 4)))) else (vl ((-1 : Int32) - (u.1 1 11)) (fun (v5 : Int32) => ((pI u 1 2 (0 : Int32)), v5))))
def K_X11_sentence_0_32 (u0 : ac_U) (u : ac_U) : ac_U × Int32 := (K_X11_sentence_0_33 u0 u (0 : Int32))
def f_X11_sentence_0 (u0 : ac_U) : ac_U × Int32 := (vl (f_X9_begin_51 u0) (fun (u6 : ac_U) => (bd (f_X9_readCond_51_d1 u6 (1 : Int32)) (fun (u7 : ac_U) (r7 : Int32) => (if r7.toInt = 0 then (K_X11_sentence_0_32 u0 u7) else (bd (f_X9_isAtEnd_51 u7) (fun (u9 : ac_U) (r9 : Int32) => (if r9.toInt = 0 then (K_X11_sentence_0_32 u0 u9) else (K_X11_sentence_0_33 u0 u9 (1 : Int32))))))))))
set_option maxHeartbeats 600000 in
set_option maxRecDepth 100000 in
theorem x_X11_sentence_0 (l : Launch) (dC : Nat → ClassId) (dI : Nat → Nat → Nat) (ad : Nat → Nat) (cA : Nat → ClassId) (nF : Nat) (u0 : ac_U)  (hR : ac_R rg u0) (hK_N4 : nmI 11 12 u0) : ac_Mi l yX11_sentence (.code yX11_sentence cX11_sentence 2 (some .int) :: TB) 37 (dC, dI) vwCl (ac_ty cA) ad cA (TT nF) [.ref (ad 0)] u0 (fun (r : Int32) (u : ac_U) => ac_R rg u ∧ ac_Fr [(1, some 2), (1, some 3), (1, some 4), (1, some 5), (1, some 6), (1, some 8), (1, some 9), (1, some 10), (1, some 11), (43, some 3), (43, some 4), (44, none), (45, none), (46, none), (47, some 3), (47, some 4), (48, none), (49, none), (50, none)] u0 u ∧ ((-941 : Int) ≤ r.toInt ∧ r.toInt ≤ 20) ∧ (ln0 1) u ∧ f_X11_sentence_0 u0 = (u, r)) := by
  refine ac_Mi.of (cc := cX11_sentence) (maxL := 2) (ret := (some .int)) (by decide) rfl (Nat.le_of_ble_eq_true rfl) ?_
  intro p e s m below meth c A ls F hml hr hlocks hA hP hD hS hl
  have F : ac_X p s m [.ref (ad 0)].toArray c cX11_sentence RX11 TB (dC, dI) vwCl (ac_ty cA) := ⟨F.1, F.2.1, fun w h => F.2.2.1 w (List.mem_cons_of_mem _ h), F.2.2.2.1, F.2.2.2.2⟩
  have hl : lv_has ls 2 [(0, .ref (ad 0))] := hl
  obtain ⟨RR, hRR⟩ : ∃ q, q = f_X11_sentence_0 u0 := ⟨_, rfl⟩
  have hF : ac_Fr [(1, some 2), (1, some 3), (1, some 4), (1, some 5), (1, some 6), (1, some 8), (1, some 9), (1, some 10), (1, some 11), (43, some 3), (43, some 4), (44, none), (45, none), (46, none), (47, some 3), (47, some 4), (48, none), (49, none), (50, none)] u0 u0 := ac_Fr.rf
  have L33 : ∀ (z0 : Int32) (u : ac_U) (H : Heap) (locs : List Loc) (ls : Array Slot), ac_R rg u → ac_Fr [(1, some 2), (1, some 3), (1, some 4), (1, some 5), (1, some 6), (1, some 8), (1, some 9), (1, some 10), (1, some 11), (43, some 3), (43, some 4), (44, none), (45, none), (46, none), (47, some 3), (47, some 4), (48, none), (49, none), (50, none)] u0 u → nmI 11 12 u → (0 : Int) ≤ z0.toInt ∧ z0.toInt ≤ 1 → RR = (K_X11_sentence_0_33 u0 u z0) → va_P (dC, dI) vwCl (ac_w ad cA (TT nF) u) H → va_D A (ac_w ad cA (TT nF) u) → va_S A s.heap H locs → lv_has ls 2 [(0, .ref (ad 0))] → W p l e (ac_rm 37) s m [.ref (ad 0)].toArray below meth c H locs 0 0 (MQ below (va_Qi (fun (r : Int32) (u : ac_U) => ac_R rg u ∧ ac_Fr [(1, some 2), (1, some 3), (1, some 4), (1, some 5), (1, some 6), (1, some 8), (1, some 9), (1, some 10), (1, some 11), (43, some 3), (43, some 4), (44, none), (45, none), (46, none), (47, some 3), (47, some 4), (48, none), (49, none), (50, none)] u0 u ∧ ((-941 : Int) ≤ r.toInt ∧ r.toInt ≤ 20) ∧ (ln0 1) u ∧ f_X11_sentence_0 u0 = (u, r)) (ac_B (dC, dI) vwCl (ac_ty cA) ad cA (TT nF) A) A) [.ref (ad 0)].toArray s 0 0 A) (F0 m 33 ls [.int z0]) := by
    intro z0 u H locs ls hR hF hK_N4 f0 hC hP hD hS hl
    unfold K_X11_sentence_0_33 at hC
    refine lv_istore_n (lv' := [(1, .int z0), (0, .ref (ad 0))]) F.1 F.2.1 dX11_sentence_33 rfl hl (by decide) rfl (fun ls hl => ?_)
    refine lv_aload_n F.1 F.2.1 dX11_sentence_34 rfl (lv_at hl 1 rfl) ?_
    refine a_getr F inX11 hP 0 0 tc_0 rfl rfl (by decide) q503 (fun _ h9 => h9) dX11_sentence_35 ?_
    refine a_ic F (0 : Int32) dX11_sentence_38 (by decide) ?_
    refine a_puti F inX10 tyX10 tyX10_ok nmX10 hP hD hS 1 2 tc_1 rfl rfl (by decide) q96 (fun _ h9 => h9) rfl (ty := .int) (tyX10_ok 2 (by decide)) rfl rfl dX11_sentence_39 (fun H locs hP hD hS => ?_)
    have hR := hR.si (c := 1) (k := 2) (v := (0 : Int32)) (by rw [ic_0]; exact (by omega : (0 : Int) ≤ (0 : Int) ∧ (0 : Int) ≤ 940))
    have hF := hF.si (c := 1) (k := 2) (v := (0 : Int32)) rfl
    have hN_LC := ln0_D hD
    have hK_N4 := sp_sgD sp_N4 hD hK_N4 (by decide)
    have hK_LC := hN_LC
    refine lv_iload_n F.1 F.2.1 dX11_sentence_42 rfl (lv_at hl 0 rfl) ?_
    refine z_ne F 56 dX11_sentence_43 (by decide) rfl (fun c1 => ?_) (fun c1 => ?_)
    · have hC := hC.trans (if_pos c1)
      refine lv_aload_n F.1 F.2.1 dX11_sentence_56 rfl (lv_at hl 1 rfl) ?_
      refine a_getr F inX11 hP 0 9 tc_0 rfl rfl (by decide) q512 (fun _ h9 => h9) dX11_sentence_57 ?_
      refine lv_aload_n F.1 F.2.1 dX11_sentence_60 rfl (lv_at hl 1 rfl) ?_
      refine a_getr F inX11 hP 0 10 tc_0 rfl rfl (by decide) q513 (fun _ h9 => h9) dX11_sentence_61 ?_
      refine a_Vv F hml hl.1 hA hP hD hS (As := [.ref (ad 47)]) (x_X8_copyFrom_43_47 l dC dI ad cA nF _  hR) (cs_RX11_324 (d := 1) F.2.2.1 (by decide)) tc_43 rfl rfl rfl rfl (Nat.le_of_ble_eq_true rfl) dX11_sentence_64 ⟨Nat.le_refl 0, Nat.le_refl 0⟩ (fun u2 H locs hq hP hD hS => ?_)
      obtain ⟨hR, hF2, hz2⟩ := hq
      have hF := hF.tr hF2 (by decide)
      have hK_N4 := sp_fr sp_N4 hF2 (by decide) hK_N4
      have hK_LC := sp_fr (sp_ln0 1) hF2 (by decide) hK_LC
      have hC := vl_eq hC hz2.symm
      refine lv_aload_n F.1 F.2.1 dX11_sentence_67 rfl (lv_at hl 1 rfl) ?_
      refine a_getr F inX11 hP 0 9 tc_0 rfl rfl (by decide) q512 (fun _ h9 => h9) dX11_sentence_68 ?_
      have g3 : (0 : Int) ≤ (u2.1 43 4).toInt ∧ (u2.1 43 4).toInt ≤ 20 := hR 43 4
      refine a_geti F inX8 hP 43 4 tc_43 rfl rfl (by decide) q447 (fun _ h9 => h9) (v := (u2.1 43 4)) rfl dX11_sentence_71 ?_
      exact a_reti F hr hlocks hP hD hS dX11_sentence_74 ⟨hR, hF, (by omega : (-941 : Int) ≤ (u2.1 43 4).toInt ∧ (u2.1 43 4).toInt ≤ 20), hK_LC, hRR.symm.trans hC⟩
    · have hC := hC.trans (if_neg (by omega))
      refine a_ic F (-1 : Int32) dX11_sentence_46 (by decide) ?_
      refine lv_aload_n F.1 F.2.1 dX11_sentence_47 rfl (lv_at hl 1 rfl) ?_
      refine a_getr F inX11 hP 0 0 tc_0 rfl rfl (by decide) q503 (fun _ h9 => h9) dX11_sentence_48 ?_
      have g4 : (0 : Int) ≤ (u.1 1 11).toInt ∧ (u.1 1 11).toInt ≤ 940 := hR 1 11
      refine a_geti F inX10 hP 1 11 tc_1 rfl rfl (by decide) q117 (fun _ h9 => h9) (v := (u.1 1 11)) rfl dX11_sentence_51 ?_
      refine a_isubX F dX11_sentence_54 ic_m1 rfl (by omega) (fun v5 hv5 yv5 => ?_)
      have hC := vl_eq hC yv5
      exact a_reti F hr hlocks hP hD hS dX11_sentence_55 ⟨hR, hF, (by omega : (-941 : Int) ≤ v5.toInt ∧ v5.toInt ≤ 20), hK_LC, hRR.symm.trans hC⟩
  have L32 : ∀ (u : ac_U) (H : Heap) (locs : List Loc) (ls : Array Slot), ac_R rg u → ac_Fr [(1, some 2), (1, some 3), (1, some 4), (1, some 5), (1, some 6), (1, some 8), (1, some 9), (1, some 10), (1, some 11), (43, some 3), (43, some 4), (44, none), (45, none), (46, none), (47, some 3), (47, some 4), (48, none), (49, none), (50, none)] u0 u → nmI 11 12 u → RR = (K_X11_sentence_0_32 u0 u) → va_P (dC, dI) vwCl (ac_w ad cA (TT nF) u) H → va_D A (ac_w ad cA (TT nF) u) → va_S A s.heap H locs → lv_has ls 2 [(0, .ref (ad 0))] → W p l e (ac_rm 37) s m [.ref (ad 0)].toArray below meth c H locs 0 0 (MQ below (va_Qi (fun (r : Int32) (u : ac_U) => ac_R rg u ∧ ac_Fr [(1, some 2), (1, some 3), (1, some 4), (1, some 5), (1, some 6), (1, some 8), (1, some 9), (1, some 10), (1, some 11), (43, some 3), (43, some 4), (44, none), (45, none), (46, none), (47, some 3), (47, some 4), (48, none), (49, none), (50, none)] u0 u ∧ ((-941 : Int) ≤ r.toInt ∧ r.toInt ≤ 20) ∧ (ln0 1) u ∧ f_X11_sentence_0 u0 = (u, r)) (ac_B (dC, dI) vwCl (ac_ty cA) ad cA (TT nF) A) A) [.ref (ad 0)].toArray s 0 0 A) (F0 m 32 ls []) := by
    intro u H locs ls hR hF hK_N4 hC hP hD hS hl
    unfold K_X11_sentence_0_32 at hC
    refine a_ic F (0 : Int32) dX11_sentence_32 (by decide) ?_
    exact L33 (0 : Int32) _ _ _ _ hR hF hK_N4 (by decide) hC hP hD hS (lv_sub hl [0] rfl)
  have hC : RR = f_X11_sentence_0 u0 := hRR
  unfold f_X11_sentence_0 at hC
  refine lv_aload_n F.1 F.2.1 dX11_sentence_0 rfl (lv_at hl 0 rfl) ?_
  refine a_getr F inX11 hP 0 11 tc_0 rfl rfl (by decide) q514 (fun _ h9 => h9) dX11_sentence_1 ?_
  refine a_Vv F hml hl.1 hA hP hD hS (As := []) (x_X9_begin_51 l dC dI ad cA nF _  hR) (cs_RX11_317 (d := 5) F.2.2.1 (by decide)) tc_51 rfl rfl rfl rfl (Nat.le_of_ble_eq_true rfl) dX11_sentence_4 ⟨Nat.le_refl 0, Nat.le_refl 0⟩ (fun u6 H locs hq hP hD hS => ?_)
  obtain ⟨hR, hF6, hz6⟩ := hq
  have hF := hF.tr hF6 (by decide)
  have hK_N4 := sp_fr sp_N4 hF6 (by decide) hK_N4
  have hC := vl_eq hC hz6.symm
  refine lv_aload_n F.1 F.2.1 dX11_sentence_7 rfl (lv_at hl 0 rfl) ?_
  refine a_getr F inX11 hP 0 11 tc_0 rfl rfl (by decide) q514 (fun _ h9 => h9) dX11_sentence_8 ?_
  refine a_ic F (1 : Int32) dX11_sentence_11 (by decide) ?_
  refine a_Vi F hml hl.1 hA hP hD hS (As := [.int (1 : Int32)]) (x_X9_readCond_51_d1 l dC dI ad cA nF _ (1 : Int32) hR (by decide) hK_N4) (cs_RX11_318 (d := 36) F.2.2.1 (by decide)) tc_51 rfl rfl rfl rfl (Nat.le_of_ble_eq_true rfl) dX11_sentence_12 ⟨Nat.le_refl 0, Nat.le_refl 0⟩ (fun r7 u7 H locs hq hP hD hS => ?_)
  obtain ⟨hR, hF7, gr7, hz7⟩ := hq
  have hF := hF.tr hF7 (by decide)
  have hK_N4 := sp_fr sp_N4 hF7 (by decide) hK_N4
  have hC := bd_eq hC hz7
  refine z_eq F 32 dX11_sentence_15 (by decide) rfl (fun c8 => ?_) (fun c8 => ?_)
  · have hC := hC.trans (if_pos c8)
    exact L32 _ _ _ _ hR hF hK_N4 hC hP hD hS (lv_sub hl [0] rfl)
  · have hC := hC.trans (if_neg (by omega))
    refine lv_aload_n F.1 F.2.1 dX11_sentence_18 rfl (lv_at hl 0 rfl) ?_
    refine a_getr F inX11 hP 0 11 tc_0 rfl rfl (by decide) q514 (fun _ h9 => h9) dX11_sentence_19 ?_
    refine a_Vi F hml hl.1 hA hP hD hS (As := []) (x_X9_isAtEnd_51 l dC dI ad cA nF _  hR) (cs_RX11_321 (d := 2) F.2.2.1 (by decide)) tc_51 rfl rfl rfl rfl (Nat.le_of_ble_eq_true rfl) dX11_sentence_22 ⟨Nat.le_refl 0, Nat.le_refl 0⟩ (fun r9 u9 H locs hq hP hD hS => ?_)
    obtain ⟨hR, hF9, gr9, hz9⟩ := hq
    have hF := hF.tr hF9 (by decide)
    have hK_N4 := sp_fr sp_N4 hF9 (by decide) hK_N4
    have hC := bd_eq hC hz9
    refine z_eq F 32 dX11_sentence_25 (by decide) rfl (fun c10 => ?_) (fun c10 => ?_)
    · have hC := hC.trans (if_pos c10)
      exact L32 _ _ _ _ hR hF hK_N4 hC hP hD hS (lv_sub hl [0] rfl)
    · have hC := hC.trans (if_neg (by omega))
      refine a_ic F (1 : Int32) dX11_sentence_28 (by decide) ?_
      refine lv_goto (tgt := 33) F.1 F.2.1 dX11_sentence_29 (by decide) ?_
      exact L33 (1 : Int32) _ _ _ _ hR hF hK_N4 (by decide) hC hP hD hS (lv_sub hl [0] rfl)

def f_X12_code_85 (u0 : ac_U) (p0 : Int32) (p1 : Int32) (p2 : Int32) : ac_U := (vl ((3 : Int32) * (u0.1 85 39)) (fun (v2 : Int32) => (vl ((3 : Int32) * (u0.1 85 39)) (fun (v3 : Int32) => (vl (v3 + (1 : Int32)) (fun (v4 : Int32) => (vl ((3 : Int32) * (u0.1 85 39)) (fun (v5 : Int32) => (vl (v5 + (2 : Int32)) (fun (v6 : Int32) => (vl ((u0.1 85 39) + (1 : Int32)) (fun (v7 : Int32) => (pI (pI (pI (pI u0 89 v2.toNatClampNeg p0) 89 v4.toNatClampNeg p1) 89 v6.toNatClampNeg p2) 85 39 v7)))))))))))))
set_option maxHeartbeats 600000 in
set_option maxRecDepth 100000 in
theorem x_X12_code_85 (l : Launch) (dC : Nat → ClassId) (dI : Nat → Nat → Nat) (ad : Nat → Nat) (cA : Nat → ClassId) (nF : Nat) (u0 : ac_U) (p0 : Int32) (p1 : Int32) (p2 : Int32) (hR : ac_R rg u0) (hf_85_39 : (0 : Int) ≤ (u0.1 85 39).toInt ∧ (u0.1 85 39).toInt ≤ 44) : ac_Mv l yX12_code (.code yX12_code cX12_code 4 none :: TB) 1 (dC, dI) vwCl (ac_ty cA) ad cA (TT nF) [.ref (ad 85), .int p0, .int p1, .int p2] u0 (fun (u : ac_U) => ac_R rg u ∧ ac_Fr [(85, some 39), (89, none)] u0 u ∧ ((u.1 85 39).toInt = (u0.1 85 39).toInt + 1) ∧ (cdE p0.toInt u0 u) ∧ f_X12_code_85 u0 p0 p1 p2 = u) := by
  refine ac_Mv.of (cc := cX12_code) (maxL := 4) (ret := none) (by decide) rfl (Nat.le_of_ble_eq_true rfl) ?_
  intro p e s m below meth c A ls F hml hr hlocks hA hP hD hS hl
  have F : ac_X p s m [.ref (ad 85), .int p0, .int p1, .int p2].toArray c cX12_code RX12 TB (dC, dI) vwCl (ac_ty cA) := ⟨F.1, F.2.1, fun w h => F.2.2.1 w (List.mem_cons_of_mem _ h), F.2.2.2.1, F.2.2.2.2⟩
  have hl : lv_has ls 4 [(0, .ref (ad 85)), (1, .int p0), (2, .int p1), (3, .int p2)] := hl
  obtain ⟨RR, hRR⟩ : ∃ q, q = f_X12_code_85 u0 p0 p1 p2 := ⟨_, rfl⟩
  have hF : ac_Fr [(85, some 39), (89, none)] u0 u0 := ac_Fr.rf
  have hC : RR = f_X12_code_85 u0 p0 p1 p2 := hRR
  unfold f_X12_code_85 at hC
  refine lv_aload_n F.1 F.2.1 dX12_code_0 rfl (lv_at hl 0 rfl) ?_
  refine a_getr F inX12 hP 85 8 tc_85 rfl rfl (by decide) q1479 (fun _ h9 => h9) dX12_code_1 ?_
  refine a_ic F (3 : Int32) dX12_code_4 (by decide) ?_
  refine lv_aload_n F.1 F.2.1 dX12_code_5 rfl (lv_at hl 0 rfl) ?_
  have g1 : (0 : Int) ≤ (u0.1 85 39).toInt ∧ (u0.1 85 39).toInt ≤ 45 := hR 85 39
  refine a_geti F inX12 hP 85 39 tc_85 rfl rfl (by decide) q1510 (fun _ h9 => h9) (v := (u0.1 85 39)) rfl dX12_code_6 ?_
  refine a_imulX F dX12_code_9 ic_3 rfl (by omega) (fun v2 hv2 yv2 => ?_)
  have hC := vl_eq hC yv2
  refine lv_iload_n F.1 F.2.1 dX12_code_10 rfl (lv_at hl 1 rfl) ?_
  refine a_iast F hP hD hS 89 tc_89 rfl (i_in rfl (by omega)) dX12_code_11 (fun H locs hP hD hS => ?_)
  have hR := hR.si (c := 89) (k := v2.toNatClampNeg) (v := p0) ⟨i_lo _, i_hi _⟩
  have hF := hF.si (c := 89) (k := v2.toNatClampNeg) (v := p0) rfl
  refine lv_aload_n F.1 F.2.1 dX12_code_12 rfl (lv_at hl 0 rfl) ?_
  refine a_getr F inX12 hP 85 8 tc_85 rfl rfl (by decide) q1479 (fun _ h9 => h9) dX12_code_13 ?_
  refine a_ic F (3 : Int32) dX12_code_16 (by decide) ?_
  refine lv_aload_n F.1 F.2.1 dX12_code_17 rfl (lv_at hl 0 rfl) ?_
  refine a_geti F inX12 hP 85 39 tc_85 rfl rfl (by decide) q1510 (fun _ h9 => h9) (v := (u0.1 85 39)) (rfl) dX12_code_18 ?_
  refine a_imulX F dX12_code_21 ic_3 rfl (by omega) (fun v3 hv3 yv3 => ?_)
  have hC := vl_eq hC yv3
  refine a_ic F (1 : Int32) dX12_code_22 (by decide) ?_
  refine a_iaddX F dX12_code_23 rfl ic_1 (by omega) (fun v4 hv4 yv4 => ?_)
  have hC := vl_eq hC yv4
  refine lv_iload_n F.1 F.2.1 dX12_code_24 rfl (lv_at hl 2 rfl) ?_
  refine a_iast F hP hD hS 89 tc_89 rfl (i_in rfl (by omega)) dX12_code_25 (fun H locs hP hD hS => ?_)
  have hR := hR.si (c := 89) (k := v4.toNatClampNeg) (v := p1) ⟨i_lo _, i_hi _⟩
  have hF := hF.si (c := 89) (k := v4.toNatClampNeg) (v := p1) rfl
  refine lv_aload_n F.1 F.2.1 dX12_code_26 rfl (lv_at hl 0 rfl) ?_
  refine a_getr F inX12 hP 85 8 tc_85 rfl rfl (by decide) q1479 (fun _ h9 => h9) dX12_code_27 ?_
  refine a_ic F (3 : Int32) dX12_code_30 (by decide) ?_
  refine lv_aload_n F.1 F.2.1 dX12_code_31 rfl (lv_at hl 0 rfl) ?_
  refine a_geti F inX12 hP 85 39 tc_85 rfl rfl (by decide) q1510 (fun _ h9 => h9) (v := (u0.1 85 39)) (rfl) dX12_code_32 ?_
  refine a_imulX F dX12_code_35 ic_3 rfl (by omega) (fun v5 hv5 yv5 => ?_)
  have hC := vl_eq hC yv5
  refine a_ic F (2 : Int32) dX12_code_36 (by decide) ?_
  refine a_iaddX F dX12_code_37 rfl ic_2 (by omega) (fun v6 hv6 yv6 => ?_)
  have hC := vl_eq hC yv6
  refine lv_iload_n F.1 F.2.1 dX12_code_38 rfl (lv_at hl 3 rfl) ?_
  refine a_iast F hP hD hS 89 tc_89 rfl (i_in rfl (by omega)) dX12_code_39 (fun H locs hP hD hS => ?_)
  have hR := hR.si (c := 89) (k := v6.toNatClampNeg) (v := p2) ⟨i_lo _, i_hi _⟩
  have hF := hF.si (c := 89) (k := v6.toNatClampNeg) (v := p2) rfl
  refine lv_aload_n F.1 F.2.1 dX12_code_40 rfl (lv_at hl 0 rfl) ?_
  refine lv_dup F.1 F.2.1 dX12_code_41 rfl ?_
  refine a_geti F inX12 hP 85 39 tc_85 rfl rfl (by decide) q1510 (fun _ h9 => h9) (v := (u0.1 85 39)) (rfl) dX12_code_42 ?_
  refine a_ic F (1 : Int32) dX12_code_45 (by decide) ?_
  refine a_iaddX F dX12_code_46 rfl ic_1 (by omega) (fun v7 hv7 yv7 => ?_)
  have hC := vl_eq hC yv7
  refine a_puti F inX12 tyX12 tyX12_ok nmX12 hP hD hS 85 39 tc_85 rfl rfl (by decide) q1510 (fun _ h9 => h9) rfl (ty := .int) (tyX12_ok 39 (by decide)) rfl rfl dX12_code_47 (fun H locs hP hD hS => ?_)
  have hR := hR.si (c := 85) (k := 39) (v := v7) (by omega : (0 : Int) ≤ v7.toInt ∧ v7.toInt ≤ 45)
  have hF := hF.si (c := 85) (k := 39) (v := v7) rfl
  exact a_retv F hr hlocks hP hD hS dX12_code_50 ⟨hR, hF, (by omega : v7.toInt = (u0.1 85 39).toInt + 1), (cd_codeD hD rfl rfl rfl rfl (by omega) (by omega) (by omega) (by omega) (by omega)), hRR.symm.trans hC⟩
def K_X12_joins_85_0_b (B0 : ac_U → ac_U) (u0 : ac_U) (p0 : Int32) (u : ac_U) : ac_U := (if (u.1 85 41).toInt ≤ 0 then u else (vl ((u.1 85 41) - (1 : Int32)) (fun (v4 : Int32) => (vl (u.1 100 v4.toNatClampNeg) (fun (v5 : Int32) => (if v5.toInt = (21 : Int) then (vl ((u.1 85 41) - (1 : Int32)) (fun (v7 : Int32) => (vl ((pI u 85 41 v7).1 100 v7.toNatClampNeg) (fun (v8 : Int32) => (vl (f_X12_code_85 (pI u 85 41 v7) v8 (0 : Int32) (0 : Int32)) (fun (u10 : ac_U) => (B0 u10))))))) else (vl ((u.1 85 41) - (1 : Int32)) (fun (v12 : Int32) => (vl (u.1 100 v12.toNatClampNeg) (fun (v13 : Int32) => (if v13.toInt ≠ (22 : Int) then u else (if p0.toInt ≠ (22 : Int) then u else (vl ((u.1 85 41) - (1 : Int32)) (fun (v18 : Int32) => (vl ((pI u 85 41 v18).1 100 v18.toNatClampNeg) (fun (v19 : Int32) => (vl (f_X12_code_85 (pI u 85 41 v18) v19 (0 : Int32) (0 : Int32)) (fun (u21 : ac_U) => (B0 u21)))))))))))))))))))
def K_X12_joins_85_0 (u0 : ac_U) (p0 : Int32) : Nat → ac_U → ac_U
  | 0 => fun u => u
  | n + 1 => fun u => K_X12_joins_85_0_b (K_X12_joins_85_0 u0 p0 n) u0 p0 u
def f_X12_joins_85 (u0 : ac_U) (p0 : Int32) : ac_U := (K_X12_joins_85_0 u0 p0 47 u0)
set_option maxHeartbeats 600000 in
set_option maxRecDepth 100000 in
theorem x_X12_joins_85 (l : Launch) (dC : Nat → ClassId) (dI : Nat → Nat → Nat) (ad : Nat → Nat) (cA : Nat → ClassId) (nF : Nat) (u0 : ac_U) (p0 : Int32) (hR : ac_R rg u0) (hp0 : (21 : Int) ≤ p0.toInt ∧ p0.toInt ≤ 22) (hr0 : (u0.1 85 39).toInt + (u0.1 85 41).toInt ≤ 44) (hK_SW1 : (swI 1) u0) : ac_Mv l yX12_joins (.code yX12_joins cX12_joins 2 none :: TB) 2 (dC, dI) vwCl (ac_ty cA) ad cA (TT nF) [.ref (ad 85), .int p0] u0 (fun (u : ac_U) => ac_R rg u ∧ ac_Fr [(85, some 39), (85, some 41), (89, none)] u0 u ∧ ((u.1 85 39).toInt + (u.1 85 41).toInt = (u0.1 85 39).toInt + (u0.1 85 41).toInt ∧ (u.1 85 41).toInt ≤ (u0.1 85 41).toInt) ∧ (swI 1) u ∧ (fun u => p0.toInt = 22 → (u.1 85 41).toInt ≤ 45 → tpB u) u ∧ f_X12_joins_85 u0 p0 = u) := by
  refine ac_Mv.of (cc := cX12_joins) (maxL := 2) (ret := none) (by decide) rfl (Nat.le_of_ble_eq_true rfl) ?_
  intro p e s m below meth c A ls F hml hr hlocks hA hP hD hS hl
  have F : ac_X p s m [.ref (ad 85), .int p0].toArray c cX12_joins RX12 TB (dC, dI) vwCl (ac_ty cA) := ⟨F.1, F.2.1, fun w h => F.2.2.1 w (List.mem_cons_of_mem _ h), F.2.2.2.1, F.2.2.2.2⟩
  have hl : lv_has ls 2 [(0, .ref (ad 85)), (1, .int p0)] := hl
  obtain ⟨RR, hRR⟩ : ∃ q, q = f_X12_joins_85 u0 p0 := ⟨_, rfl⟩
  have hF : ac_Fr [(85, some 39), (85, some 41), (89, none)] u0 u0 := ac_Fr.rf
  have L0 : ∀ (n0 : Nat) (u : ac_U) (H : Heap) (locs : List Loc) (ls : Array Slot), ac_R rg u → ac_Fr [(85, some 39), (85, some 41), (89, none)] u0 u → (u.1 85 41).toInt < (n0 : Int) → (swI 1) u → (u.1 85 39).toInt + (u.1 85 41).toInt = (u0.1 85 39).toInt + (u0.1 85 41).toInt → (u.1 85 41).toInt ≤ (u0.1 85 41).toInt → RR = (K_X12_joins_85_0 u0 p0 n0 u) → va_P (dC, dI) vwCl (ac_w ad cA (TT nF) u) H → va_D A (ac_w ad cA (TT nF) u) → va_S A s.heap H locs → lv_has ls 2 [(0, .ref (ad 85)), (1, .int p0)] → W p l e (ac_rm 2) s m [.ref (ad 85), .int p0].toArray below meth c H locs 0 0 (MQ below (va_Qv (fun (u : ac_U) => ac_R rg u ∧ ac_Fr [(85, some 39), (85, some 41), (89, none)] u0 u ∧ ((u.1 85 39).toInt + (u.1 85 41).toInt = (u0.1 85 39).toInt + (u0.1 85 41).toInt ∧ (u.1 85 41).toInt ≤ (u0.1 85 41).toInt) ∧ (swI 1) u ∧ (fun u => p0.toInt = 22 → (u.1 85 41).toInt ≤ 45 → tpB u) u ∧ f_X12_joins_85 u0 p0 = u) (ac_B (dC, dI) vwCl (ac_ty cA) ad cA (TT nF) A) A) [.ref (ad 85), .int p0].toArray s 0 0 A) (F0 m 0 ls []) := by
    intro n0
    induction n0 with
    | zero => intro u H locs ls hR hF hn0 hK_SW1 f0 f1 hC hP hD hS hl; have gz0 : (0 : Int) ≤ (u.1 85 41).toInt ∧ (u.1 85 41).toInt ≤ 45 := hR 85 41; exfalso; omega
    | succ n0 ih0 =>
      intro u H locs ls hR hF hn0 hK_SW1 f0 f1 hC hP hD hS hl
      have hC : RR = K_X12_joins_85_0_b (K_X12_joins_85_0 u0 p0 n0) u0 p0 u := hC
      unfold K_X12_joins_85_0_b at hC
      refine lv_aload_n F.1 F.2.1 dX12_joins_0 rfl (lv_at hl 0 rfl) ?_
      have g1 : (0 : Int) ≤ (u.1 85 41).toInt ∧ (u.1 85 41).toInt ≤ 45 := hR 85 41
      refine a_geti F inX12 hP 85 41 tc_85 rfl rfl (by decide) q1512 (fun _ h9 => h9) (v := (u.1 85 41)) rfl dX12_joins_1 ?_
      refine z_le F 73 dX12_joins_4 (by decide) rfl (fun c2 => ?_) (fun c2 => ?_)
      · have hC := hC.trans (if_pos c2)
        have g3 : (0 : Int) ≤ (u.1 85 39).toInt ∧ (u.1 85 39).toInt ≤ 45 := hR 85 39
        exact a_retv F hr hlocks hP hD hS dX12_joins_73 ⟨hR, hF, (by omega : (u.1 85 39).toInt + (u.1 85 41).toInt = (u0.1 85 39).toInt + (u0.1 85 41).toInt ∧ (u.1 85 41).toInt ≤ (u0.1 85 41).toInt), hK_SW1, (by intro h9 _; exact tp_0 (by omega)), hRR.symm.trans hC⟩
      · have hC := hC.trans (if_neg (by omega))
        refine lv_aload_n F.1 F.2.1 dX12_joins_7 rfl (lv_at hl 0 rfl) ?_
        refine a_getr F inX12 hP 85 38 tc_85 rfl rfl (by decide) q1509 (fun _ h9 => h9) dX12_joins_8 ?_
        refine lv_aload_n F.1 F.2.1 dX12_joins_11 rfl (lv_at hl 0 rfl) ?_
        refine a_geti F inX12 hP 85 41 tc_85 rfl rfl (by decide) q1512 (fun _ h9 => h9) (v := (u.1 85 41)) (rfl) dX12_joins_12 ?_
        refine a_ic F (1 : Int32) dX12_joins_15 (by decide) ?_
        refine a_isubX F dX12_joins_16 rfl ic_1 (by omega) (fun v4 hv4 yv4 => ?_)
        have hC := vl_eq hC yv4
        refine a_iald F hP 100 tc_100 rfl (i_in rfl (by omega)) dX12_joins_17 (fun v5 ev5 => ?_)
        have hC := vl_eq hC ev5.symm
        refine a_bp F (21 : Int32) dX12_joins_18 (by decide) ?_
        refine b_eq F 45 dX12_joins_20 (by decide) rfl ic_21 (fun c6 => ?_) (fun c6 => ?_)
        · have hC := hC.trans (if_pos c6)
          refine lv_aload_n F.1 F.2.1 dX12_joins_45 rfl (lv_at hl 0 rfl) ?_
          refine lv_dup F.1 F.2.1 dX12_joins_46 rfl ?_
          refine a_geti F inX12 hP 85 41 tc_85 rfl rfl (by decide) q1512 (fun _ h9 => h9) (v := (u.1 85 41)) (rfl) dX12_joins_47 ?_
          refine a_ic F (1 : Int32) dX12_joins_50 (by decide) ?_
          refine a_isubX F dX12_joins_51 rfl ic_1 (by omega) (fun v7 hv7 yv7 => ?_)
          have hC := vl_eq hC yv7
          refine a_puti F inX12 tyX12 tyX12_ok nmX12 hP hD hS 85 41 tc_85 rfl rfl (by decide) q1512 (fun _ h9 => h9) rfl (ty := .int) (tyX12_ok 41 (by decide)) rfl rfl dX12_joins_52 (fun H locs hP hD hS => ?_)
          have hR := hR.si (c := 85) (k := 41) (v := v7) (by omega : (0 : Int) ≤ v7.toInt ∧ v7.toInt ≤ 45)
          have hF := hF.si (c := 85) (k := 41) (v := v7) rfl
          have hO_SW1 := hK_SW1
          have hN_SW2 := sw_pop2 hO_SW1 (t := (u.1 85 41)) (rfl) (i := v4) (v := v7) (by omega) (by omega) ev5 (by omega) (by omega)
          have hK_SW2 := hN_SW2
          refine lv_aload_n F.1 F.2.1 dX12_joins_55 rfl (lv_at hl 0 rfl) ?_
          refine lv_aload_n F.1 F.2.1 dX12_joins_56 rfl (lv_at hl 0 rfl) ?_
          refine a_getr F inX12 hP 85 38 tc_85 rfl rfl (by decide) q1509 (fun _ h9 => h9) dX12_joins_57 ?_
          refine lv_aload_n F.1 F.2.1 dX12_joins_60 rfl (lv_at hl 0 rfl) ?_
          refine a_geti F inX12 hP 85 41 tc_85 rfl rfl (by decide) q1512 (fun _ h9 => h9) (v := v7) (rfl) dX12_joins_61 ?_
          refine a_iald F hP 100 tc_100 rfl (i_in rfl (by omega)) dX12_joins_64 (fun v8 ev8 => ?_)
          have hC := vl_eq hC ev8.symm
          have hm9 := ld_same ev5 ev8 rfl (by omega)
          refine a_ic F (0 : Int32) dX12_joins_65 (by decide) ?_
          refine a_ic F (0 : Int32) dX12_joins_66 (by decide) ?_
          have g9 : (0 : Int) ≤ (u.1 85 39).toInt ∧ (u.1 85 39).toInt ≤ 45 := hR 85 39
          have hP_SW2 := hK_SW2
          refine a_Vv F hml hl.1 hA hP hD hS (As := [.int v8, .int (0 : Int32), .int (0 : Int32)]) (x_X12_code_85 l dC dI ad cA nF _ v8 (0 : Int32) (0 : Int32) hR (by omega : (0 : Int) ≤ (u.1 85 39).toInt ∧ (u.1 85 39).toInt ≤ 44)) (cs_RX12_419 (d := 1) F.2.2.1 (by decide)) tc_85 rfl rfl rfl rfl (Nat.le_of_ble_eq_true rfl) dX12_joins_67 ⟨Nat.le_refl 0, Nat.le_refl 0⟩ (fun u10 H locs hq hP hD hS => ?_)
          obtain ⟨hR, hF10, xr10, hE_r10, hz10⟩ := hq
          have hF := hF.tr hF10 (by decide)
          have hK_SW1 := cd_bin hE_r10 hK_SW2 (by omega)
          have g11 : (0 : Int) ≤ (u10.1 85 39).toInt ∧ (u10.1 85 39).toInt ≤ 45 := hR 85 39
          have xr10 : (u10.1 85 39).toInt = (u.1 85 39).toInt + 1 := xr10
          have hC := vl_eq hC hz10.symm
          refine lv_goto (tgt := 0) F.1 F.2.1 dX12_joins_70 (by decide) ?_
          exact ih0 _ _ _ _ hR hF (by show (u10.1 85 41).toInt < ((n0 : Nat) : Int); rw [hF10 85 41 rfl]; exact (by omega : v7.toInt < ((n0 : Nat) : Int))) hK_SW1 (by rw [hF10 85 41 rfl]; try exact (by omega : (u10.1 85 39).toInt + v7.toInt = (u0.1 85 39).toInt + (u0.1 85 41).toInt)) (by rw [hF10 85 41 rfl]; try exact (by omega : v7.toInt ≤ (u0.1 85 41).toInt)) hC hP hD hS (lv_sub hl [0, 1] rfl)
        · have hC := hC.trans (if_neg (by omega))
          refine lv_aload_n F.1 F.2.1 dX12_joins_23 rfl (lv_at hl 0 rfl) ?_
          refine a_getr F inX12 hP 85 38 tc_85 rfl rfl (by decide) q1509 (fun _ h9 => h9) dX12_joins_24 ?_
          refine lv_aload_n F.1 F.2.1 dX12_joins_27 rfl (lv_at hl 0 rfl) ?_
          refine a_geti F inX12 hP 85 41 tc_85 rfl rfl (by decide) q1512 (fun _ h9 => h9) (v := (u.1 85 41)) (rfl) dX12_joins_28 ?_
          refine a_ic F (1 : Int32) dX12_joins_31 (by decide) ?_
          refine a_isubX F dX12_joins_32 rfl ic_1 (by omega) (fun v12 hv12 yv12 => ?_)
          have hC := vl_eq hC yv12
          refine a_iald F hP 100 tc_100 rfl (i_in rfl (by omega)) dX12_joins_33 (fun v13 ev13 => ?_)
          have hC := vl_eq hC ev13.symm
          refine a_bp F (22 : Int32) dX12_joins_34 (by decide) ?_
          refine b_ne F 73 dX12_joins_36 (by decide) rfl ic_22 (fun c14 => ?_) (fun c14 => ?_)
          · have hC := hC.trans (if_pos c14)
            have g15 : (0 : Int) ≤ (u.1 85 39).toInt ∧ (u.1 85 39).toInt ≤ 45 := hR 85 39
            exact a_retv F hr hlocks hP hD hS dX12_joins_73 ⟨hR, hF, (by omega : (u.1 85 39).toInt + (u.1 85 41).toInt = (u0.1 85 39).toInt + (u0.1 85 41).toInt ∧ (u.1 85 41).toInt ≤ (u0.1 85 41).toInt), hK_SW1, (by intro h9 _; first | exact absurd h9 (by omega) | exact tp_x (i := v4) (j := v12) (by omega) (by omega) ev5 ev13 (by omega) (by omega)), hRR.symm.trans hC⟩
          · have hC := hC.trans (if_neg (by omega))
            refine lv_iload_n F.1 F.2.1 dX12_joins_39 rfl (lv_at hl 1 rfl) ?_
            refine a_bp F (22 : Int32) dX12_joins_40 (by decide) ?_
            refine b_ne F 73 dX12_joins_42 (by decide) rfl ic_22 (fun c16 => ?_) (fun c16 => ?_)
            · have hC := hC.trans (if_pos c16)
              have g17 : (0 : Int) ≤ (u.1 85 39).toInt ∧ (u.1 85 39).toInt ≤ 45 := hR 85 39
              exact a_retv F hr hlocks hP hD hS dX12_joins_73 ⟨hR, hF, (by omega : (u.1 85 39).toInt + (u.1 85 41).toInt = (u0.1 85 39).toInt + (u0.1 85 41).toInt ∧ (u.1 85 41).toInt ≤ (u0.1 85 41).toInt), hK_SW1, (by intro h9 _; first | exact absurd h9 (by omega) | exact tp_x (i := v4) (j := v12) (by omega) (by omega) ev5 ev13 (by omega) (by omega)), hRR.symm.trans hC⟩
            · have hC := hC.trans (if_neg (by omega))
              refine lv_aload_n F.1 F.2.1 dX12_joins_45 rfl (lv_at hl 0 rfl) ?_
              refine lv_dup F.1 F.2.1 dX12_joins_46 rfl ?_
              refine a_geti F inX12 hP 85 41 tc_85 rfl rfl (by decide) q1512 (fun _ h9 => h9) (v := (u.1 85 41)) (rfl) dX12_joins_47 ?_
              refine a_ic F (1 : Int32) dX12_joins_50 (by decide) ?_
              refine a_isubX F dX12_joins_51 rfl ic_1 (by omega) (fun v18 hv18 yv18 => ?_)
              have hC := vl_eq hC yv18
              refine a_puti F inX12 tyX12 tyX12_ok nmX12 hP hD hS 85 41 tc_85 rfl rfl (by decide) q1512 (fun _ h9 => h9) rfl (ty := .int) (tyX12_ok 41 (by decide)) rfl rfl dX12_joins_52 (fun H locs hP hD hS => ?_)
              have hR := hR.si (c := 85) (k := 41) (v := v18) (by omega : (0 : Int) ≤ v18.toInt ∧ v18.toInt ≤ 45)
              have hF := hF.si (c := 85) (k := 41) (v := v18) rfl
              have hO_SW1 := hK_SW1
              have hN_SW2 := sw_pop2 hO_SW1 (t := (u.1 85 41)) (rfl) (i := v12) (v := v18) (by omega) (by omega) ev13 (by omega) (by omega)
              have hK_SW2 := hN_SW2
              refine lv_aload_n F.1 F.2.1 dX12_joins_55 rfl (lv_at hl 0 rfl) ?_
              refine lv_aload_n F.1 F.2.1 dX12_joins_56 rfl (lv_at hl 0 rfl) ?_
              refine a_getr F inX12 hP 85 38 tc_85 rfl rfl (by decide) q1509 (fun _ h9 => h9) dX12_joins_57 ?_
              refine lv_aload_n F.1 F.2.1 dX12_joins_60 rfl (lv_at hl 0 rfl) ?_
              refine a_geti F inX12 hP 85 41 tc_85 rfl rfl (by decide) q1512 (fun _ h9 => h9) (v := v18) (rfl) dX12_joins_61 ?_
              refine a_iald F hP 100 tc_100 rfl (i_in rfl (by omega)) dX12_joins_64 (fun v19 ev19 => ?_)
              have hC := vl_eq hC ev19.symm
              have hm9 := ld_same ev13 ev19 rfl (by omega)
              refine a_ic F (0 : Int32) dX12_joins_65 (by decide) ?_
              refine a_ic F (0 : Int32) dX12_joins_66 (by decide) ?_
              have g20 : (0 : Int) ≤ (u.1 85 39).toInt ∧ (u.1 85 39).toInt ≤ 45 := hR 85 39
              have hP_SW2 := hK_SW2
              refine a_Vv F hml hl.1 hA hP hD hS (As := [.int v19, .int (0 : Int32), .int (0 : Int32)]) (x_X12_code_85 l dC dI ad cA nF _ v19 (0 : Int32) (0 : Int32) hR (by omega : (0 : Int) ≤ (u.1 85 39).toInt ∧ (u.1 85 39).toInt ≤ 44)) (cs_RX12_419 (d := 1) F.2.2.1 (by decide)) tc_85 rfl rfl rfl rfl (Nat.le_of_ble_eq_true rfl) dX12_joins_67 ⟨Nat.le_refl 0, Nat.le_refl 0⟩ (fun u21 H locs hq hP hD hS => ?_)
              obtain ⟨hR, hF21, xr21, hE_r21, hz21⟩ := hq
              have hF := hF.tr hF21 (by decide)
              have hK_SW1 := cd_bin hE_r21 hK_SW2 (by omega)
              have g22 : (0 : Int) ≤ (u21.1 85 39).toInt ∧ (u21.1 85 39).toInt ≤ 45 := hR 85 39
              have xr21 : (u21.1 85 39).toInt = (u.1 85 39).toInt + 1 := xr21
              have hC := vl_eq hC hz21.symm
              refine lv_goto (tgt := 0) F.1 F.2.1 dX12_joins_70 (by decide) ?_
              exact ih0 _ _ _ _ hR hF (by show (u21.1 85 41).toInt < ((n0 : Nat) : Int); rw [hF21 85 41 rfl]; exact (by omega : v18.toInt < ((n0 : Nat) : Int))) hK_SW1 (by rw [hF21 85 41 rfl]; try exact (by omega : (u21.1 85 39).toInt + v18.toInt = (u0.1 85 39).toInt + (u0.1 85 41).toInt)) (by rw [hF21 85 41 rfl]; try exact (by omega : v18.toInt ≤ (u0.1 85 41).toInt)) hC hP hD hS (lv_sub hl [0, 1] rfl)
  have hC : RR = f_X12_joins_85 u0 p0 := hRR
  unfold f_X12_joins_85 at hC
  have g23 : (0 : Int) ≤ (u0.1 85 39).toInt ∧ (u0.1 85 39).toInt ≤ 45 := hR 85 39
  have g24 : (0 : Int) ≤ (u0.1 85 41).toInt ∧ (u0.1 85 41).toInt ≤ 45 := hR 85 41
  exact L0 47 _ _ _ _ hR hF (by omega : (u0.1 85 41).toInt < (47 : Int)) hK_SW1 (by omega : (u0.1 85 39).toInt + (u0.1 85 41).toInt = (u0.1 85 39).toInt + (u0.1 85 41).toInt) (by omega : (u0.1 85 41).toInt ≤ (u0.1 85 41).toInt) hC hP hD hS (lv_sub hl [0, 1] rfl)

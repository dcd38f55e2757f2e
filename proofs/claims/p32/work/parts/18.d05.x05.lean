def K_X10_takeNew_1_13_38 (u0 : ac_U) (u : ac_U) : ac_U × Int32 := (u, (1 : Int32))
def f_X10_takeNew_1_13 (u0 : ac_U) : ac_U × Int32 := (vl (f_X10_readNext_1 u0) (fun (u1 : ac_U) => (if (u1.1 1 6).toInt = (2 : Int) then (vl (f_X2_nameIndex_13 u1 (u1.2 1 7)) (fun (r4 : Int32) => (if r4.toInt = (-1 : Int) then (K_X10_takeNew_1_13_38 u0 u1) else (bd (f_X10_fail_1 u1 (3 : Int32)) (fun (u6 : ac_U) (r6 : Int32) => (if r6.toInt = 0 then (u6, (0 : Int32)) else (u6, 0))))))) else (bd (f_X10_fail_1 u1 (1 : Int32)) (fun (u8 : ac_U) (r8 : Int32) => (u8, r8))))))
set_option maxHeartbeats 600000 in
set_option maxRecDepth 100000 in
theorem x_X10_takeNew_1_13 (l : Launch) (dC : Nat → ClassId) (dI : Nat → Nat → Nat) (ad : Nat → Nat) (cA : Nat → ClassId) (nF : Nat) (u0 : ac_U)  (hR : ac_R rg u0) : ac_Mi l yX10_takeNew (.code yX10_takeNew cX10_takeNew 2 (some .boolean) :: TB) 4 (dC, dI) vwCl (ac_ty cA) ad cA (TT nF) [.ref (ad 1), .ref (ad 13)] u0 (fun (r : Int32) (u : ac_U) => ac_R rg u ∧ ac_Fr [(1, some 4), (1, some 5), (1, some 6), (1, some 8), (1, some 10), (1, some 11)] u0 u ∧ ((0 : Int) ≤ r.toInt ∧ r.toInt ≤ 1) ∧ f_X10_takeNew_1_13 u0 = (u, r)) := by
  refine ac_Mi.of (cc := cX10_takeNew) (maxL := 2) (ret := (some .boolean)) (by decide) rfl (Nat.le_of_ble_eq_true rfl) ?_
  intro p e s m below meth c A ls F hml hr hlocks hA hP hD hS hl
  have F : ac_X p s m [.ref (ad 1), .ref (ad 13)].toArray c cX10_takeNew RX10 TB (dC, dI) vwCl (ac_ty cA) := ⟨F.1, F.2.1, fun w h => F.2.2.1 w (List.mem_cons_of_mem _ h), F.2.2.2.1, F.2.2.2.2⟩
  have hl : lv_has ls 2 [(0, .ref (ad 1)), (1, .ref (ad 13))] := hl
  obtain ⟨RR, hRR⟩ : ∃ q, q = f_X10_takeNew_1_13 u0 := ⟨_, rfl⟩
  have hF : ac_Fr [(1, some 4), (1, some 5), (1, some 6), (1, some 8), (1, some 10), (1, some 11)] u0 u0 := ac_Fr.rf
  have L38 : ∀ (u : ac_U) (H : Heap) (locs : List Loc) (ls : Array Slot), ac_R rg u → ac_Fr [(1, some 4), (1, some 5), (1, some 6), (1, some 8), (1, some 10), (1, some 11)] u0 u → (2 : Int) ≤ (u.1 1 6).toInt ∧ (u.1 1 6).toInt ≤ 2 → RR = (K_X10_takeNew_1_13_38 u0 u) → va_P (dC, dI) vwCl (ac_w ad cA (TT nF) u) H → va_D A (ac_w ad cA (TT nF) u) → va_S A s.heap H locs → lv_has ls 2 [] → W p l e (ac_rm 4) s m [.ref (ad 1), .ref (ad 13)].toArray below meth c H locs 0 0 (MQ below (va_Qi (fun (r : Int32) (u : ac_U) => ac_R rg u ∧ ac_Fr [(1, some 4), (1, some 5), (1, some 6), (1, some 8), (1, some 10), (1, some 11)] u0 u ∧ ((0 : Int) ≤ r.toInt ∧ r.toInt ≤ 1) ∧ f_X10_takeNew_1_13 u0 = (u, r)) (ac_B (dC, dI) vwCl (ac_ty cA) ad cA (TT nF) A) A) [.ref (ad 1), .ref (ad 13)].toArray s 0 0 A) (F0 m 38 ls []) := by
    intro u H locs ls hR hF f0 hC hP hD hS hl
    unfold K_X10_takeNew_1_13_38 at hC
    refine a_ic F (1 : Int32) dX10_takeNew_38 (by decide) ?_
    refine lv_goto (tgt := 43) F.1 F.2.1 dX10_takeNew_39 (by decide) ?_
    exact a_retz F hr hlocks hP hD hS dX10_takeNew_43 (Or.inr rfl) ⟨hR, hF, (by decide), hRR.symm.trans hC⟩
  have hC : RR = f_X10_takeNew_1_13 u0 := hRR
  unfold f_X10_takeNew_1_13 at hC
  refine lv_aload_n F.1 F.2.1 dX10_takeNew_0 rfl (lv_at hl 0 rfl) ?_
  refine a_Vv F hml hl.1 hA hP hD hS (As := []) (x_X10_readNext_1 l dC dI ad cA nF _  hR) (cs_RX10_72 (d := 3) F.2.2.1 (by decide)) tc_1 rfl rfl rfl rfl (Nat.le_of_ble_eq_true rfl) dX10_takeNew_1 ⟨Nat.le_refl 0, Nat.le_refl 0⟩ (fun u1 H locs hq hP hD hS => ?_)
  obtain ⟨hR, hF1, hz1⟩ := hq
  have hF := hF.tr hF1 (by decide)
  have hC := vl_eq hC hz1.symm
  refine lv_aload_n F.1 F.2.1 dX10_takeNew_4 rfl (lv_at hl 0 rfl) ?_
  have g2 : (-128 : Int) ≤ (u1.1 1 6).toInt ∧ (u1.1 1 6).toInt ≤ 127 := hR 1 6
  refine a_geti F inX10 hP 1 6 tc_1 rfl rfl (by decide) q100 (fun _ h9 => h9) (v := (u1.1 1 6)) rfl dX10_takeNew_5 ?_
  refine a_ic F (2 : Int32) dX10_takeNew_8 (by decide) ?_
  refine b_eq F 18 dX10_takeNew_9 (by decide) rfl ic_2 (fun c3 => ?_) (fun c3 => ?_)
  · have hC := hC.trans (if_pos c3)
    refine lv_aload_n F.1 F.2.1 dX10_takeNew_18 rfl (lv_at hl 1 rfl) ?_
    refine lv_aload_n F.1 F.2.1 dX10_takeNew_19 rfl (lv_at hl 0 rfl) ?_
    refine a_getl F inX10 hP 1 7 tc_1 rfl rfl (by decide) q104 (fun _ h9 => h9) (v := (u1.2 1 7)) rfl dX10_takeNew_20 ?_
    refine a_Vi F hml hl.1 hA hP hD hS (As := [.long (u1.2 1 7)]) (x_X2_nameIndex_13 l dC dI ad cA nF _ (u1.2 1 7) hR) (cs_RX10_93 (d := 1) F.2.2.1 (by decide)) tc_13 rfl rfl rfl rfl (Nat.le_of_ble_eq_true rfl) dX10_takeNew_23 ⟨Nat.le_refl 0, Nat.le_refl 0⟩ (fun r4 uN4 H locs hq hP hD hS => ?_)
    obtain ⟨hu4, gr4, hz4⟩ := hq
    rw [hu4] at hP hD
    have hC := vl_eq hC hz4.symm
    refine a_ic F (-1 : Int32) dX10_takeNew_26 (by decide) ?_
    refine b_eq F 38 dX10_takeNew_27 (by decide) rfl ic_m1 (fun c5 => ?_) (fun c5 => ?_)
    · have hC := hC.trans (if_pos c5)
      exact L38 _ _ _ _ hR hF (by omega : (2 : Int) ≤ (u1.1 1 6).toInt ∧ (u1.1 1 6).toInt ≤ 2) hC hP hD hS (lv_sub hl [] rfl)
    · have hC := hC.trans (if_neg (by omega))
      refine lv_aload_n F.1 F.2.1 dX10_takeNew_30 rfl (lv_at hl 0 rfl) ?_
      refine a_ic F (3 : Int32) dX10_takeNew_31 (by decide) ?_
      refine a_Vi F hml hl.1 hA hP hD hS (As := [.int (3 : Int32)]) (x_X10_fail_1 l dC dI ad cA nF _ (3 : Int32) hR (by decide)) (cs_RX10_90 (d := 1) F.2.2.1 (by decide)) tc_1 rfl rfl rfl rfl (Nat.le_of_ble_eq_true rfl) dX10_takeNew_32 ⟨Nat.le_refl 0, Nat.le_refl 0⟩ (fun r6 u6 H locs hq hP hD hS => ?_)
      obtain ⟨hR, hF6, gr6, hz6⟩ := hq
      have hF := hF.tr hF6 (by decide)
      have hC := bd_eq hC hz6
      refine z_eq F 42 dX10_takeNew_35 (by decide) rfl (fun c7 => ?_) (fun c7 => ?_)
      · have hC := hC.trans (if_pos c7)
        refine a_ic F (0 : Int32) dX10_takeNew_42 (by decide) ?_
        exact a_retz F hr hlocks hP hD hS dX10_takeNew_43 (Or.inl rfl) ⟨hR, hF, (by decide), hRR.symm.trans hC⟩
      · exfalso; omega
  · have hC := hC.trans (if_neg (by omega))
    refine lv_aload_n F.1 F.2.1 dX10_takeNew_12 rfl (lv_at hl 0 rfl) ?_
    refine a_ic F (1 : Int32) dX10_takeNew_13 (by decide) ?_
    refine a_Vi F hml hl.1 hA hP hD hS (As := [.int (1 : Int32)]) (x_X10_fail_1 l dC dI ad cA nF _ (1 : Int32) hR (by decide)) (cs_RX10_90 (d := 1) F.2.2.1 (by decide)) tc_1 rfl rfl rfl rfl (Nat.le_of_ble_eq_true rfl) dX10_takeNew_14 ⟨Nat.le_refl 0, Nat.le_refl 0⟩ (fun r8 u8 H locs hq hP hD hS => ?_)
    obtain ⟨hR, hF8, gr8, hz8⟩ := hq
    have hF := hF.tr hF8 (by decide)
    have hC := bd_eq hC hz8
    exact a_retz F hr hlocks hP hD hS dX10_takeNew_17 (i_01 (by omega)) ⟨hR, hF, (by omega : (0 : Int) ≤ r8.toInt ∧ r8.toInt ≤ 1), hRR.symm.trans hC⟩

def f_X3_readDeed_22 (u0 : ac_U) : ac_U × Int32 := (if (u0.1 13 5).toInt < (6 : Int) then (bd (f_X10_takeNew_1_13 u0) (fun (u3 : ac_U) (r3 : Int32) => (if r3.toInt ≠ 0 then (vl (f_X2_addDeed_13 u3 (u3.2 1 7)) (fun (u5 : ac_U) => (bd (f_X10_takeSign_1 u5 (59 : Int32)) (fun (u6 : ac_U) (r6 : Int32) => (u6, r6))))) else (u3, (0 : Int32))))) else (bd (f_X10_fail_1 u0 (4 : Int32)) (fun (u7 : ac_U) (r7 : Int32) => (u7, r7))))
set_option maxHeartbeats 600000 in
set_option maxRecDepth 100000 in
theorem x_X3_readDeed_22 (l : Launch) (dC : Nat → ClassId) (dI : Nat → Nat → Nat) (ad : Nat → Nat) (cA : Nat → ClassId) (nF : Nat) (u0 : ac_U)  (hR : ac_R rg u0) (hK_N13 : nmI 20 21 u0) : ac_Mi l yX3_readDeed (.code yX3_readDeed cX3_readDeed 1 (some .boolean) :: TB) 5 (dC, dI) vwCl (ac_ty cA) ad cA (TT nF) [.ref (ad 22)] u0 (fun (r : Int32) (u : ac_U) => ac_R rg u ∧ ac_Fr [(1, some 4), (1, some 5), (1, some 6), (1, some 8), (1, some 10), (1, some 11), (13, some 5), (13, some 8), (20, none), (21, none)] u0 u ∧ ((0 : Int) ≤ r.toInt ∧ r.toInt ≤ 1) ∧ nmI 20 21 u ∧ f_X3_readDeed_22 u0 = (u, r)) := by
  refine ac_Mi.of (cc := cX3_readDeed) (maxL := 1) (ret := (some .boolean)) (by decide) rfl (Nat.le_of_ble_eq_true rfl) ?_
  intro p e s m below meth c A ls F hml hr hlocks hA hP hD hS hl
  have F : ac_X p s m [.ref (ad 22)].toArray c cX3_readDeed RX3 TB (dC, dI) vwCl (ac_ty cA) := ⟨F.1, F.2.1, fun w h => F.2.2.1 w (List.mem_cons_of_mem _ h), F.2.2.2.1, F.2.2.2.2⟩
  have hl : lv_has ls 1 [(0, .ref (ad 22))] := hl
  obtain ⟨RR, hRR⟩ : ∃ q, q = f_X3_readDeed_22 u0 := ⟨_, rfl⟩
  have hF : ac_Fr [(1, some 4), (1, some 5), (1, some 6), (1, some 8), (1, some 10), (1, some 11), (13, some 5), (13, some 8), (20, none), (21, none)] u0 u0 := ac_Fr.rf
  have hC : RR = f_X3_readDeed_22 u0 := hRR
  unfold f_X3_readDeed_22 at hC
  refine lv_aload_n F.1 F.2.1 dX3_readDeed_0 rfl (lv_at hl 0 rfl) ?_
  refine a_getr F inX3 hP 22 1 tc_22 rfl rfl (by decide) q245 (fun _ h9 => h9) dX3_readDeed_1 ?_
  have g1 : (0 : Int) ≤ (u0.1 13 5).toInt ∧ (u0.1 13 5).toInt ≤ 6 := hR 13 5
  refine a_geti F inX2 hP 13 5 tc_13 rfl rfl (by decide) q175 (fun _ h9 => h9) (v := (u0.1 13 5)) rfl dX3_readDeed_4 ?_
  refine a_bp F (6 : Int32) dX3_readDeed_7 (by decide) ?_
  refine b_lt F 21 dX3_readDeed_9 (by decide) rfl ic_6 (fun c2 => ?_) (fun c2 => ?_)
  · have hC := hC.trans (if_pos c2)
    refine lv_aload_n F.1 F.2.1 dX3_readDeed_21 rfl (lv_at hl 0 rfl) ?_
    refine a_getr F inX3 hP 22 0 tc_22 rfl rfl (by decide) q244 (fun _ h9 => h9) dX3_readDeed_22 ?_
    refine lv_aload_n F.1 F.2.1 dX3_readDeed_25 rfl (lv_at hl 0 rfl) ?_
    refine a_getr F inX3 hP 22 1 tc_22 rfl rfl (by decide) q245 (fun _ h9 => h9) dX3_readDeed_26 ?_
    refine a_Vi F hml hl.1 hA hP hD hS (As := [.ref (ad 13)]) (x_X10_takeNew_1_13 l dC dI ad cA nF _  hR) (cs_RX3_93 (d := 4) F.2.2.1 (by decide)) tc_1 rfl rfl rfl rfl (Nat.le_of_ble_eq_true rfl) dX3_readDeed_29 ⟨Nat.le_refl 0, Nat.le_refl 0⟩ (fun r3 u3 H locs hq hP hD hS => ?_)
    obtain ⟨hR, hF3, gr3, hz3⟩ := hq
    have hF := hF.tr hF3 (by decide)
    have hK_N13 := sp_fr sp_N13 hF3 (by decide) hK_N13
    have hC := bd_eq hC hz3
    refine z_ne F 37 dX3_readDeed_32 (by decide) rfl (fun c4 => ?_) (fun c4 => ?_)
    · have hC := hC.trans (if_pos c4)
      refine lv_aload_n F.1 F.2.1 dX3_readDeed_37 rfl (lv_at hl 0 rfl) ?_
      refine a_getr F inX3 hP 22 1 tc_22 rfl rfl (by decide) q245 (fun _ h9 => h9) dX3_readDeed_38 ?_
      refine lv_aload_n F.1 F.2.1 dX3_readDeed_41 rfl (lv_at hl 0 rfl) ?_
      refine a_getr F inX3 hP 22 0 tc_22 rfl rfl (by decide) q244 (fun _ h9 => h9) dX3_readDeed_42 ?_
      refine a_getl F inX10 hP 1 7 tc_1 rfl rfl (by decide) q105 (fun _ h9 => h9) (v := (u3.2 1 7)) rfl dX3_readDeed_45 ?_
      refine a_Vv F hml hl.1 hA hP hD hS (As := [.long (u3.2 1 7)]) (x_X2_addDeed_13 l dC dI ad cA nF _ (u3.2 1 7) hR (i_trB (hF3 13 5 rfl) (by omega : (0 : Int) ≤ (u0.1 13 5).toInt ∧ (u0.1 13 5).toInt ≤ 5)) hK_N13) (cs_RX3_108 (d := 2) F.2.2.1 (by decide)) tc_13 rfl rfl rfl rfl (Nat.le_of_ble_eq_true rfl) dX3_readDeed_48 ⟨Nat.le_refl 0, Nat.le_refl 0⟩ (fun u5 H locs hq hP hD hS => ?_)
      obtain ⟨hR, hF5, hK_N13, hz5⟩ := hq
      have hF := hF.tr hF5 (by decide)
      have hC := vl_eq hC hz5.symm
      refine lv_aload_n F.1 F.2.1 dX3_readDeed_51 rfl (lv_at hl 0 rfl) ?_
      refine a_getr F inX3 hP 22 0 tc_22 rfl rfl (by decide) q244 (fun _ h9 => h9) dX3_readDeed_52 ?_
      refine a_bp F (59 : Int32) dX3_readDeed_55 (by decide) ?_
      refine a_Vi F hml hl.1 hA hP hD hS (As := [.int (59 : Int32)]) (x_X10_takeSign_1 l dC dI ad cA nF _ (59 : Int32) hR (by decide)) (cs_RX3_87 (d := 4) F.2.2.1 (by decide)) tc_1 rfl rfl rfl rfl (Nat.le_of_ble_eq_true rfl) dX3_readDeed_57 ⟨Nat.le_refl 0, Nat.le_refl 0⟩ (fun r6 u6 H locs hq hP hD hS => ?_)
      obtain ⟨hR, hF6, gr6, hz6⟩ := hq
      have hF := hF.tr hF6 (by decide)
      have hK_N13 := sp_fr sp_N13 hF6 (by decide) hK_N13
      have hC := bd_eq hC hz6
      exact a_retz F hr hlocks hP hD hS dX3_readDeed_60 (i_01 (by omega)) ⟨hR, hF, (by omega : (0 : Int) ≤ r6.toInt ∧ r6.toInt ≤ 1), hK_N13, hRR.symm.trans hC⟩
    · have hC := hC.trans (if_neg (by omega))
      refine a_ic F (0 : Int32) dX3_readDeed_35 (by decide) ?_
      exact a_retz F hr hlocks hP hD hS dX3_readDeed_36 (Or.inl rfl) ⟨hR, hF, (by decide), hK_N13, hRR.symm.trans hC⟩
  · have hC := hC.trans (if_neg (by omega))
    refine lv_aload_n F.1 F.2.1 dX3_readDeed_12 rfl (lv_at hl 0 rfl) ?_
    refine a_getr F inX3 hP 22 0 tc_22 rfl rfl (by decide) q244 (fun _ h9 => h9) dX3_readDeed_13 ?_
    refine a_ic F (4 : Int32) dX3_readDeed_16 (by decide) ?_
    refine a_Vi F hml hl.1 hA hP hD hS (As := [.int (4 : Int32)]) (x_X10_fail_1 l dC dI ad cA nF _ (4 : Int32) hR (by decide)) (cs_RX3_70 (d := 1) F.2.2.1 (by decide)) tc_1 rfl rfl rfl rfl (Nat.le_of_ble_eq_true rfl) dX3_readDeed_17 ⟨Nat.le_refl 0, Nat.le_refl 0⟩ (fun r7 u7 H locs hq hP hD hS => ?_)
    obtain ⟨hR, hF7, gr7, hz7⟩ := hq
    have hF := hF.tr hF7 (by decide)
    have hK_N13 := sp_fr sp_N13 hF7 (by decide) hK_N13
    have hC := bd_eq hC hz7
    exact a_retz F hr hlocks hP hD hS dX3_readDeed_20 (i_01 (by omega)) ⟨hR, hF, (by omega : (0 : Int) ≤ r7.toInt ∧ r7.toInt ≤ 1), hK_N13, hRR.symm.trans hC⟩
def K_X10_isKnown_1_13_38 (u0 : ac_U) (p1 : Int32) (u : ac_U) : ac_U × Int32 := (bd (f_X10_fail_1 u (3 : Int32)) (fun (u1 : ac_U) (r1 : Int32) => (u1, r1)))
def f_X10_isKnown_1_13 (u0 : ac_U) (p1 : Int32) : ac_U × Int32 := (if (u0.1 1 6).toInt = (2 : Int) then (vl (f_X2_nameIndex_13 u0 (u0.2 1 7)) (fun (r5 : Int32) => (if r5.toInt = (-1 : Int) then (K_X10_isKnown_1_13_38 u0 p1 u0) else (vl (u0.1 20 r5.toNatClampNeg) (fun (v7 : Int32) => (if v7.toInt = p1.toInt then (vl (u0.1 21 r5.toNatClampNeg) (fun (v9 : Int32) => ((pI u0 1 9 v9), (1 : Int32)))) else (K_X10_isKnown_1_13_38 u0 p1 u0))))))) else (bd (f_X10_fail_1 u0 (1 : Int32)) (fun (u10 : ac_U) (r10 : Int32) => (u10, r10))))
set_option maxHeartbeats 600000 in
set_option maxRecDepth 100000 in
theorem x_X10_isKnown_1_13 (l : Launch) (dC : Nat → ClassId) (dI : Nat → Nat → Nat) (ad : Nat → Nat) (cA : Nat → ClassId) (nF : Nat) (u0 : ac_U) (p1 : Int32) (hR : ac_R rg u0) (hp1 : (0 : Int) ≤ p1.toInt ∧ p1.toInt ≤ 3) (hK_N13 : nmI 20 21 u0) : ac_Mi l yX10_isKnown (.code yX10_isKnown cX10_isKnown 4 (some .boolean) :: TB) 2 (dC, dI) vwCl (ac_ty cA) ad cA (TT nF) [.ref (ad 1), .ref (ad 13), .int p1] u0 (fun (r : Int32) (u : ac_U) => ac_R rg u ∧ ac_Fr [(1, some 9), (1, some 10), (1, some 11)] u0 u ∧ ((0 : Int) ≤ r.toInt ∧ r.toInt ≤ 1) ∧ (r.toInt ≠ 0 → p1.toInt = 1 → (u.1 1 9).toInt ≤ 3) ∧ f_X10_isKnown_1_13 u0 p1 = (u, r)) := by
  refine ac_Mi.of (cc := cX10_isKnown) (maxL := 4) (ret := (some .boolean)) (by decide) rfl (Nat.le_of_ble_eq_true rfl) ?_
  intro p e s m below meth c A ls F hml hr hlocks hA hP hD hS hl
  have F : ac_X p s m [.ref (ad 1), .ref (ad 13), .int p1].toArray c cX10_isKnown RX10 TB (dC, dI) vwCl (ac_ty cA) := ⟨F.1, F.2.1, fun w h => F.2.2.1 w (List.mem_cons_of_mem _ h), F.2.2.2.1, F.2.2.2.2⟩
  have hl : lv_has ls 4 [(0, .ref (ad 1)), (1, .ref (ad 13)), (2, .int p1)] := hl
  obtain ⟨RR, hRR⟩ : ∃ q, q = f_X10_isKnown_1_13 u0 p1 := ⟨_, rfl⟩
  have hF : ac_Fr [(1, some 9), (1, some 10), (1, some 11)] u0 u0 := ac_Fr.rf
  have L38 : ∀ (u : ac_U) (H : Heap) (locs : List Loc) (ls : Array Slot), ac_R rg u → ac_Fr [(1, some 9), (1, some 10), (1, some 11)] u0 u → nmI 20 21 u → (2 : Int) ≤ (u.1 1 6).toInt ∧ (u.1 1 6).toInt ≤ 2 → RR = (K_X10_isKnown_1_13_38 u0 p1 u) → va_P (dC, dI) vwCl (ac_w ad cA (TT nF) u) H → va_D A (ac_w ad cA (TT nF) u) → va_S A s.heap H locs → lv_has ls 4 [(0, .ref (ad 1))] → W p l e (ac_rm 2) s m [.ref (ad 1), .ref (ad 13), .int p1].toArray below meth c H locs 0 0 (MQ below (va_Qi (fun (r : Int32) (u : ac_U) => ac_R rg u ∧ ac_Fr [(1, some 9), (1, some 10), (1, some 11)] u0 u ∧ ((0 : Int) ≤ r.toInt ∧ r.toInt ≤ 1) ∧ (r.toInt ≠ 0 → p1.toInt = 1 → (u.1 1 9).toInt ≤ 3) ∧ f_X10_isKnown_1_13 u0 p1 = (u, r)) (ac_B (dC, dI) vwCl (ac_ty cA) ad cA (TT nF) A) A) [.ref (ad 1), .ref (ad 13), .int p1].toArray s 0 0 A) (F0 m 38 ls []) := by
    intro u H locs ls hR hF hK_N13 f0 hC hP hD hS hl
    unfold K_X10_isKnown_1_13_38 at hC
    refine lv_aload_n F.1 F.2.1 dX10_isKnown_38 rfl (lv_at hl 0 rfl) ?_
    refine a_ic F (3 : Int32) dX10_isKnown_39 (by decide) ?_
    refine a_Vi F hml hl.1 hA hP hD hS (As := [.int (3 : Int32)]) (x_X10_fail_1 l dC dI ad cA nF _ (3 : Int32) hR (by decide)) (cs_RX10_90 (d := 1) F.2.2.1 (by decide)) tc_1 rfl rfl rfl rfl (Nat.le_of_ble_eq_true rfl) dX10_isKnown_40 ⟨Nat.le_refl 0, Nat.le_refl 0⟩ (fun r1 u1 H locs hq hP hD hS => ?_)
    obtain ⟨hR, hF1, gr1, hz1⟩ := hq
    have hF := hF.tr hF1 (by decide)
    have hK_N13 := sp_fr sp_N13 hF1 (by decide) hK_N13
    have hC := bd_eq hC hz1
    have g2 : (0 : Int) ≤ (u1.1 1 9).toInt ∧ (u1.1 1 9).toInt ≤ 7 := hR 1 9
    exact a_retz F hr hlocks hP hD hS dX10_isKnown_43 (i_01 (by omega)) ⟨hR, hF, (by omega : (0 : Int) ≤ r1.toInt ∧ r1.toInt ≤ 1), (by omega : r1.toInt ≠ 0 → p1.toInt = 1 → (u1.1 1 9).toInt ≤ 3), hRR.symm.trans hC⟩
  have hC : RR = f_X10_isKnown_1_13 u0 p1 := hRR
  unfold f_X10_isKnown_1_13 at hC
  refine lv_aload_n F.1 F.2.1 dX10_isKnown_0 rfl (lv_at hl 0 rfl) ?_
  have g3 : (-128 : Int) ≤ (u0.1 1 6).toInt ∧ (u0.1 1 6).toInt ≤ 127 := hR 1 6
  refine a_geti F inX10 hP 1 6 tc_1 rfl rfl (by decide) q100 (fun _ h9 => h9) (v := (u0.1 1 6)) rfl dX10_isKnown_1 ?_
  refine a_ic F (2 : Int32) dX10_isKnown_4 (by decide) ?_
  refine b_eq F 14 dX10_isKnown_5 (by decide) rfl ic_2 (fun c4 => ?_) (fun c4 => ?_)
  · have hC := hC.trans (if_pos c4)
    refine lv_aload_n F.1 F.2.1 dX10_isKnown_14 rfl (lv_at hl 1 rfl) ?_
    refine lv_aload_n F.1 F.2.1 dX10_isKnown_15 rfl (lv_at hl 0 rfl) ?_
    refine a_getl F inX10 hP 1 7 tc_1 rfl rfl (by decide) q104 (fun _ h9 => h9) (v := (u0.2 1 7)) rfl dX10_isKnown_16 ?_
    refine a_Vi F hml hl.1 hA hP hD hS (As := [.long (u0.2 1 7)]) (x_X2_nameIndex_13 l dC dI ad cA nF _ (u0.2 1 7) hR) (cs_RX10_93 (d := 1) F.2.2.1 (by decide)) tc_13 rfl rfl rfl rfl (Nat.le_of_ble_eq_true rfl) dX10_isKnown_19 ⟨Nat.le_refl 0, Nat.le_refl 0⟩ (fun r5 uN5 H locs hq hP hD hS => ?_)
    obtain ⟨hu5, gr5, hz5⟩ := hq
    rw [hu5] at hP hD
    have hC := vl_eq hC hz5.symm
    refine lv_istore_n (lv' := [(3, .int r5), (0, .ref (ad 1)), (1, .ref (ad 13)), (2, .int p1)]) F.1 F.2.1 dX10_isKnown_22 rfl hl (by decide) rfl (fun ls hl => ?_)
    refine lv_iload_n F.1 F.2.1 dX10_isKnown_23 rfl (lv_at hl 0 rfl) ?_
    refine a_ic F (-1 : Int32) dX10_isKnown_24 (by decide) ?_
    refine b_eq F 38 dX10_isKnown_25 (by decide) rfl ic_m1 (fun c6 => ?_) (fun c6 => ?_)
    · have hC := hC.trans (if_pos c6)
      exact L38 _ _ _ _ hR hF hK_N13 (by omega : (2 : Int) ≤ (u0.1 1 6).toInt ∧ (u0.1 1 6).toInt ≤ 2) hC hP hD hS (lv_sub hl [1] rfl)
    · have hC := hC.trans (if_neg (by omega))
      refine lv_aload_n F.1 F.2.1 dX10_isKnown_28 rfl (lv_at hl 2 rfl) ?_
      refine a_getr F inX2 hP 13 15 tc_13 rfl rfl (by decide) q199 (fun _ h9 => h9) dX10_isKnown_29 ?_
      refine lv_iload_n F.1 F.2.1 dX10_isKnown_32 rfl (lv_at hl 0 rfl) ?_
      refine a_iald F hP 20 tc_20 rfl (i_in rfl (by omega)) dX10_isKnown_33 (fun v7 ev7 => ?_)
      have hC := vl_eq hC ev7.symm
      have hv7 : (0 : Int) ≤ v7.toInt ∧ v7.toInt ≤ 3 := ev7 ▸ hR 20 _
      refine lv_iload_n F.1 F.2.1 dX10_isKnown_34 rfl (lv_at hl 3 rfl) ?_
      refine b_eq F 44 dX10_isKnown_35 (by decide) rfl rfl (fun c8 => ?_) (fun c8 => ?_)
      · have hC := hC.trans (if_pos c8)
        refine lv_aload_n F.1 F.2.1 dX10_isKnown_44 rfl (lv_at hl 1 rfl) ?_
        refine lv_aload_n F.1 F.2.1 dX10_isKnown_45 rfl (lv_at hl 2 rfl) ?_
        refine a_getr F inX2 hP 13 16 tc_13 rfl rfl (by decide) q201 (fun _ h9 => h9) dX10_isKnown_46 ?_
        refine lv_iload_n F.1 F.2.1 dX10_isKnown_49 rfl (lv_at hl 0 rfl) ?_
        refine a_iald F hP 21 tc_21 rfl (i_in rfl (by omega)) dX10_isKnown_50 (fun v9 ev9 => ?_)
        have hC := vl_eq hC ev9.symm
        have hv9 : (0 : Int) ≤ v9.toInt ∧ v9.toInt ≤ 7 := ev9 ▸ hR 21 _
        have hm9 := nm_get hK_N13 (i := r5) (by omega) ev7 ev9
        refine a_puti F inX10 tyX10 tyX10_ok nmX10 hP hD hS 1 9 tc_1 rfl rfl (by decide) q110 (fun _ h9 => h9) rfl (ty := .int) (tyX10_ok 9 (by decide)) rfl rfl dX10_isKnown_51 (fun H locs hP hD hS => ?_)
        have hR := hR.si (c := 1) (k := 9) (v := v9) (by omega : (0 : Int) ≤ v9.toInt ∧ v9.toInt ≤ 7)
        have hF := hF.si (c := 1) (k := 9) (v := v9) rfl
        have hK_N13 := sp_sgD sp_N13 hD hK_N13 (by decide)
        refine a_ic F (1 : Int32) dX10_isKnown_54 (by decide) ?_
        exact a_retz F hr hlocks hP hD hS dX10_isKnown_55 (Or.inr rfl) ⟨hR, hF, (by decide), (by first | exact (by omega : (1 : Int) ≠ 0 → p1.toInt = 1 → v9.toInt ≤ 3) | (rw [ic_1]; exact (by omega : (1 : Int) ≠ 0 → p1.toInt = 1 → v9.toInt ≤ 3))), hRR.symm.trans hC⟩
      · have hC := hC.trans (if_neg (by omega))
        exact L38 _ _ _ _ hR hF hK_N13 (by omega : (2 : Int) ≤ (u0.1 1 6).toInt ∧ (u0.1 1 6).toInt ≤ 2) hC hP hD hS (lv_sub hl [1] rfl)
  · have hC := hC.trans (if_neg (by omega))
    refine lv_aload_n F.1 F.2.1 dX10_isKnown_8 rfl (lv_at hl 0 rfl) ?_
    refine a_ic F (1 : Int32) dX10_isKnown_9 (by decide) ?_
    refine a_Vi F hml hl.1 hA hP hD hS (As := [.int (1 : Int32)]) (x_X10_fail_1 l dC dI ad cA nF _ (1 : Int32) hR (by decide)) (cs_RX10_90 (d := 1) F.2.2.1 (by decide)) tc_1 rfl rfl rfl rfl (Nat.le_of_ble_eq_true rfl) dX10_isKnown_10 ⟨Nat.le_refl 0, Nat.le_refl 0⟩ (fun r10 u10 H locs hq hP hD hS => ?_)
    obtain ⟨hR, hF10, gr10, hz10⟩ := hq
    have hF := hF.tr hF10 (by decide)
    have hK_N13 := sp_fr sp_N13 hF10 (by decide) hK_N13
    have hC := bd_eq hC hz10
    have g11 : (0 : Int) ≤ (u10.1 1 9).toInt ∧ (u10.1 1 9).toInt ≤ 7 := hR 1 9
    exact a_retz F hr hlocks hP hD hS dX10_isKnown_13 (i_01 (by omega)) ⟨hR, hF, (by omega : (0 : Int) ≤ r10.toInt ∧ r10.toInt ≤ 1), (by omega : r10.toInt ≠ 0 → p1.toInt = 1 → (u10.1 1 9).toInt ≤ 3), hRR.symm.trans hC⟩

def f_X10_takeKnown_1_13 (u0 : ac_U) (p1 : Int32) : ac_U × Int32 := (vl (f_X10_readNext_1 u0) (fun (u1 : ac_U) => (bd (f_X10_isKnown_1_13 u1 p1) (fun (u2 : ac_U) (r2 : Int32) => (u2, r2)))))
set_option maxHeartbeats 600000 in
set_option maxRecDepth 100000 in
theorem x_X10_takeKnown_1_13 (l : Launch) (dC : Nat → ClassId) (dI : Nat → Nat → Nat) (ad : Nat → Nat) (cA : Nat → ClassId) (nF : Nat) (u0 : ac_U) (p1 : Int32) (hR : ac_R rg u0) (hp1 : (0 : Int) ≤ p1.toInt ∧ p1.toInt ≤ 3) (hK_N13 : nmI 20 21 u0) : ac_Mi l yX10_takeKnown (.code yX10_takeKnown cX10_takeKnown 3 (some .boolean) :: TB) 4 (dC, dI) vwCl (ac_ty cA) ad cA (TT nF) [.ref (ad 1), .ref (ad 13), .int p1] u0 (fun (r : Int32) (u : ac_U) => ac_R rg u ∧ ac_Fr [(1, some 4), (1, some 5), (1, some 6), (1, some 8), (1, some 9), (1, some 10), (1, some 11)] u0 u ∧ ((0 : Int) ≤ r.toInt ∧ r.toInt ≤ 1) ∧ (r.toInt ≠ 0 → p1.toInt = 1 → (u.1 1 9).toInt ≤ 3) ∧ f_X10_takeKnown_1_13 u0 p1 = (u, r)) := by
  refine ac_Mi.of (cc := cX10_takeKnown) (maxL := 3) (ret := (some .boolean)) (by decide) rfl (Nat.le_of_ble_eq_true rfl) ?_
  intro p e s m below meth c A ls F hml hr hlocks hA hP hD hS hl
  have F : ac_X p s m [.ref (ad 1), .ref (ad 13), .int p1].toArray c cX10_takeKnown RX10 TB (dC, dI) vwCl (ac_ty cA) := ⟨F.1, F.2.1, fun w h => F.2.2.1 w (List.mem_cons_of_mem _ h), F.2.2.2.1, F.2.2.2.2⟩
  have hl : lv_has ls 3 [(0, .ref (ad 1)), (1, .ref (ad 13)), (2, .int p1)] := hl
  obtain ⟨RR, hRR⟩ : ∃ q, q = f_X10_takeKnown_1_13 u0 p1 := ⟨_, rfl⟩
  have hF : ac_Fr [(1, some 4), (1, some 5), (1, some 6), (1, some 8), (1, some 9), (1, some 10), (1, some 11)] u0 u0 := ac_Fr.rf
  have hC : RR = f_X10_takeKnown_1_13 u0 p1 := hRR
  unfold f_X10_takeKnown_1_13 at hC
  refine lv_aload_n F.1 F.2.1 dX10_takeKnown_0 rfl (lv_at hl 0 rfl) ?_
  refine a_Vv F hml hl.1 hA hP hD hS (As := []) (x_X10_readNext_1 l dC dI ad cA nF _  hR) (cs_RX10_72 (d := 3) F.2.2.1 (by decide)) tc_1 rfl rfl rfl rfl (Nat.le_of_ble_eq_true rfl) dX10_takeKnown_1 ⟨Nat.le_refl 0, Nat.le_refl 0⟩ (fun u1 H locs hq hP hD hS => ?_)
  obtain ⟨hR, hF1, hz1⟩ := hq
  have hF := hF.tr hF1 (by decide)
  have hK_N13 := sp_fr sp_N13 hF1 (by decide) hK_N13
  have hC := vl_eq hC hz1.symm
  refine lv_aload_n F.1 F.2.1 dX10_takeKnown_4 rfl (lv_at hl 0 rfl) ?_
  refine lv_aload_n F.1 F.2.1 dX10_takeKnown_5 rfl (lv_at hl 1 rfl) ?_
  refine lv_iload_n F.1 F.2.1 dX10_takeKnown_6 rfl (lv_at hl 2 rfl) ?_
  refine a_Vi F hml hl.1 hA hP hD hS (As := [.ref (ad 13), .int p1]) (x_X10_isKnown_1_13 l dC dI ad cA nF _ p1 hR (by omega) hK_N13) (cs_RX10_99 (d := 2) F.2.2.1 (by decide)) tc_1 rfl rfl rfl rfl (Nat.le_of_ble_eq_true rfl) dX10_takeKnown_7 ⟨Nat.le_refl 0, Nat.le_refl 0⟩ (fun r2 u2 H locs hq hP hD hS => ?_)
  obtain ⟨hR, hF2, gr2, xr2, hz2⟩ := hq
  have hF := hF.tr hF2 (by decide)
  have hK_N13 := sp_fr sp_N13 hF2 (by decide) hK_N13
  have g3 : (0 : Int) ≤ (u2.1 1 9).toInt ∧ (u2.1 1 9).toInt ≤ 7 := hR 1 9
  have xr2 : r2.toInt ≠ 0 → p1.toInt = 1 → (u2.1 1 9).toInt ≤ 3 := xr2
  have hC := bd_eq hC hz2
  exact a_retz F hr hlocks hP hD hS dX10_takeKnown_10 (i_01 (by omega)) ⟨hR, hF, (by omega : (0 : Int) ≤ r2.toInt ∧ r2.toInt ≤ 1), (by omega : r2.toInt ≠ 0 → p1.toInt = 1 → (u2.1 1 9).toInt ≤ 3), hRR.symm.trans hC⟩
def K_X3_readEachUnless_22_123 (u0 : ac_U) (u : ac_U) : ac_U × Int32 := (u, (1 : Int32))
def K_X3_readEachUnless_22_100 (u0 : ac_U) (u : ac_U) : ac_U × Int32 := (if (u.1 1 6).toInt = (59 : Int) then (K_X3_readEachUnless_22_123 u0 u) else (bd (f_X10_fail_1 u (1 : Int32)) (fun (u3 : ac_U) (r3 : Int32) => (if r3.toInt = 0 then (u3, (0 : Int32)) else (u3, 0)))))
def K_X3_readEachUnless_22_50 (u0 : ac_U) (u : ac_U) : ac_U × Int32 := (if (u.1 1 6).toInt ≠ (108 : Int) then (K_X3_readEachUnless_22_100 u0 u) else (bd (f_X10_takeKnown_1_13 u (2 : Int32)) (fun (u7 : ac_U) (r7 : Int32) => (if r7.toInt ≠ 0 then (vl (f_X10_readNext_1 (pI u7 23 7 (u7.1 1 9))) (fun (u10 : ac_U) => (K_X3_readEachUnless_22_100 u0 u10))) else (u7, (0 : Int32))))))
def f_X3_readEachUnless_22 (u0 : ac_U) : ac_U × Int32 := (vl (f_X10_readNext_1 (pI (pI u0 23 6 (0 : Int32)) 23 7 (-1 : Int32))) (fun (u11 : ac_U) => (if (u11.1 1 6).toInt ≠ (107 : Int) then (K_X3_readEachUnless_22_50 u0 u11) else (vl (f_X10_readNext_1 (pI u11 23 6 (1 : Int32))) (fun (u14 : ac_U) => (K_X3_readEachUnless_22_50 u0 u14))))))
set_option maxHeartbeats 600000 in
set_option maxRecDepth 100000 in
theorem x_X3_readEachUnless_22 (l : Launch) (dC : Nat → ClassId) (dI : Nat → Nat → Nat) (ad : Nat → Nat) (cA : Nat → ClassId) (nF : Nat) (u0 : ac_U)  (hR : ac_R rg u0) (hK_N13 : nmI 20 21 u0) : ac_Mi l yX3_readEachUnless (.code yX3_readEachUnless cX3_readEachUnless 1 (some .boolean) :: TB) 5 (dC, dI) vwCl (ac_ty cA) ad cA (TT nF) [.ref (ad 22)] u0 (fun (r : Int32) (u : ac_U) => ac_R rg u ∧ ac_Fr [(1, some 4), (1, some 5), (1, some 6), (1, some 8), (1, some 9), (1, some 10), (1, some 11), (23, none)] u0 u ∧ ((0 : Int) ≤ r.toInt ∧ r.toInt ≤ 1) ∧ nmI 20 21 u ∧ f_X3_readEachUnless_22 u0 = (u, r)) := by
  refine ac_Mi.of (cc := cX3_readEachUnless) (maxL := 1) (ret := (some .boolean)) (by decide) rfl (Nat.le_of_ble_eq_true rfl) ?_
  intro p e s m below meth c A ls F hml hr hlocks hA hP hD hS hl
  have F : ac_X p s m [.ref (ad 22)].toArray c cX3_readEachUnless RX3 TB (dC, dI) vwCl (ac_ty cA) := ⟨F.1, F.2.1, fun w h => F.2.2.1 w (List.mem_cons_of_mem _ h), F.2.2.2.1, F.2.2.2.2⟩
  have hl : lv_has ls 1 [(0, .ref (ad 22))] := hl
  obtain ⟨RR, hRR⟩ : ∃ q, q = f_X3_readEachUnless_22 u0 := ⟨_, rfl⟩
  have hF : ac_Fr [(1, some 4), (1, some 5), (1, some 6), (1, some 8), (1, some 9), (1, some 10), (1, some 11), (23, none)] u0 u0 := ac_Fr.rf
  have L123 : ∀ (u : ac_U) (H : Heap) (locs : List Loc) (ls : Array Slot), ac_R rg u → ac_Fr [(1, some 4), (1, some 5), (1, some 6), (1, some 8), (1, some 9), (1, some 10), (1, some 11), (23, none)] u0 u → nmI 20 21 u → (59 : Int) ≤ (u.1 1 6).toInt ∧ (u.1 1 6).toInt ≤ 59 → (0 : Int) ≤ (u.1 23 6).toInt ∧ (u.1 23 6).toInt ≤ 1 → (-1 : Int) ≤ (u.1 23 7).toInt ∧ (u.1 23 7).toInt ≤ 7 → RR = (K_X3_readEachUnless_22_123 u0 u) → va_P (dC, dI) vwCl (ac_w ad cA (TT nF) u) H → va_D A (ac_w ad cA (TT nF) u) → va_S A s.heap H locs → lv_has ls 1 [] → W p l e (ac_rm 5) s m [.ref (ad 22)].toArray below meth c H locs 0 0 (MQ below (va_Qi (fun (r : Int32) (u : ac_U) => ac_R rg u ∧ ac_Fr [(1, some 4), (1, some 5), (1, some 6), (1, some 8), (1, some 9), (1, some 10), (1, some 11), (23, none)] u0 u ∧ ((0 : Int) ≤ r.toInt ∧ r.toInt ≤ 1) ∧ nmI 20 21 u ∧ f_X3_readEachUnless_22 u0 = (u, r)) (ac_B (dC, dI) vwCl (ac_ty cA) ad cA (TT nF) A) A) [.ref (ad 22)].toArray s 0 0 A) (F0 m 123 ls []) := by
    intro u H locs ls hR hF hK_N13 f0 f1 f2 hC hP hD hS hl
    unfold K_X3_readEachUnless_22_123 at hC
    refine a_ic F (1 : Int32) dX3_readEachUnless_123 (by decide) ?_
    refine lv_goto (tgt := 128) F.1 F.2.1 dX3_readEachUnless_124 (by decide) ?_
    exact a_retz F hr hlocks hP hD hS dX3_readEachUnless_128 (Or.inr rfl) ⟨hR, hF, (by decide), hK_N13, hRR.symm.trans hC⟩
  have L100 : ∀ (u : ac_U) (H : Heap) (locs : List Loc) (ls : Array Slot), ac_R rg u → ac_Fr [(1, some 4), (1, some 5), (1, some 6), (1, some 8), (1, some 9), (1, some 10), (1, some 11), (23, none)] u0 u → nmI 20 21 u → (0 : Int) ≤ (u.1 23 6).toInt ∧ (u.1 23 6).toInt ≤ 1 → (-1 : Int) ≤ (u.1 23 7).toInt ∧ (u.1 23 7).toInt ≤ 7 → RR = (K_X3_readEachUnless_22_100 u0 u) → va_P (dC, dI) vwCl (ac_w ad cA (TT nF) u) H → va_D A (ac_w ad cA (TT nF) u) → va_S A s.heap H locs → lv_has ls 1 [(0, .ref (ad 22))] → W p l e (ac_rm 5) s m [.ref (ad 22)].toArray below meth c H locs 0 0 (MQ below (va_Qi (fun (r : Int32) (u : ac_U) => ac_R rg u ∧ ac_Fr [(1, some 4), (1, some 5), (1, some 6), (1, some 8), (1, some 9), (1, some 10), (1, some 11), (23, none)] u0 u ∧ ((0 : Int) ≤ r.toInt ∧ r.toInt ≤ 1) ∧ nmI 20 21 u ∧ f_X3_readEachUnless_22 u0 = (u, r)) (ac_B (dC, dI) vwCl (ac_ty cA) ad cA (TT nF) A) A) [.ref (ad 22)].toArray s 0 0 A) (F0 m 100 ls []) := by
    intro u H locs ls hR hF hK_N13 f0 f1 hC hP hD hS hl
    unfold K_X3_readEachUnless_22_100 at hC
    refine lv_aload_n F.1 F.2.1 dX3_readEachUnless_100 rfl (lv_at hl 0 rfl) ?_
    refine a_getr F inX3 hP 22 0 tc_22 rfl rfl (by decide) q244 (fun _ h9 => h9) dX3_readEachUnless_101 ?_
    have g1 : (-128 : Int) ≤ (u.1 1 6).toInt ∧ (u.1 1 6).toInt ≤ 127 := hR 1 6
    refine a_geti F inX10 hP 1 6 tc_1 rfl rfl (by decide) q102 (fun _ h9 => h9) (v := (u.1 1 6)) rfl dX3_readEachUnless_104 ?_
    refine a_bp F (59 : Int32) dX3_readEachUnless_107 (by decide) ?_
    refine b_eq F 123 dX3_readEachUnless_109 (by decide) rfl ic_59 (fun c2 => ?_) (fun c2 => ?_)
    · have hC := hC.trans (if_pos c2)
      exact L123 _ _ _ _ hR hF hK_N13 (by omega : (59 : Int) ≤ (u.1 1 6).toInt ∧ (u.1 1 6).toInt ≤ 59) (by omega : (0 : Int) ≤ (u.1 23 6).toInt ∧ (u.1 23 6).toInt ≤ 1) (by omega : (-1 : Int) ≤ (u.1 23 7).toInt ∧ (u.1 23 7).toInt ≤ 7) hC hP hD hS (lv_sub hl [] rfl)
    · have hC := hC.trans (if_neg (by omega))
      refine lv_aload_n F.1 F.2.1 dX3_readEachUnless_112 rfl (lv_at hl 0 rfl) ?_
      refine a_getr F inX3 hP 22 0 tc_22 rfl rfl (by decide) q244 (fun _ h9 => h9) dX3_readEachUnless_113 ?_
      refine a_ic F (1 : Int32) dX3_readEachUnless_116 (by decide) ?_
      refine a_Vi F hml hl.1 hA hP hD hS (As := [.int (1 : Int32)]) (x_X10_fail_1 l dC dI ad cA nF _ (1 : Int32) hR (by decide)) (cs_RX3_70 (d := 1) F.2.2.1 (by decide)) tc_1 rfl rfl rfl rfl (Nat.le_of_ble_eq_true rfl) dX3_readEachUnless_117 ⟨Nat.le_refl 0, Nat.le_refl 0⟩ (fun r3 u3 H locs hq hP hD hS => ?_)
      obtain ⟨hR, hF3, gr3, hz3⟩ := hq
      have hF := hF.tr hF3 (by decide)
      have hK_N13 := sp_fr sp_N13 hF3 (by decide) hK_N13
      have hC := bd_eq hC hz3
      refine z_eq F 127 dX3_readEachUnless_120 (by decide) rfl (fun c4 => ?_) (fun c4 => ?_)
      · have hC := hC.trans (if_pos c4)
        refine a_ic F (0 : Int32) dX3_readEachUnless_127 (by decide) ?_
        exact a_retz F hr hlocks hP hD hS dX3_readEachUnless_128 (Or.inl rfl) ⟨hR, hF, (by decide), hK_N13, hRR.symm.trans hC⟩
      · exfalso; omega
  have L50 : ∀ (u : ac_U) (H : Heap) (locs : List Loc) (ls : Array Slot), ac_R rg u → ac_Fr [(1, some 4), (1, some 5), (1, some 6), (1, some 8), (1, some 9), (1, some 10), (1, some 11), (23, none)] u0 u → nmI 20 21 u → (0 : Int) ≤ (u.1 23 6).toInt ∧ (u.1 23 6).toInt ≤ 1 → (-1 : Int) ≤ (u.1 23 7).toInt ∧ (u.1 23 7).toInt ≤ -1 → RR = (K_X3_readEachUnless_22_50 u0 u) → va_P (dC, dI) vwCl (ac_w ad cA (TT nF) u) H → va_D A (ac_w ad cA (TT nF) u) → va_S A s.heap H locs → lv_has ls 1 [(0, .ref (ad 22))] → W p l e (ac_rm 5) s m [.ref (ad 22)].toArray below meth c H locs 0 0 (MQ below (va_Qi (fun (r : Int32) (u : ac_U) => ac_R rg u ∧ ac_Fr [(1, some 4), (1, some 5), (1, some 6), (1, some 8), (1, some 9), (1, some 10), (1, some 11), (23, none)] u0 u ∧ ((0 : Int) ≤ r.toInt ∧ r.toInt ≤ 1) ∧ nmI 20 21 u ∧ f_X3_readEachUnless_22 u0 = (u, r)) (ac_B (dC, dI) vwCl (ac_ty cA) ad cA (TT nF) A) A) [.ref (ad 22)].toArray s 0 0 A) (F0 m 50 ls []) := by
    intro u H locs ls hR hF hK_N13 f0 f1 hC hP hD hS hl
    unfold K_X3_readEachUnless_22_50 at hC
    refine lv_aload_n F.1 F.2.1 dX3_readEachUnless_50 rfl (lv_at hl 0 rfl) ?_
    refine a_getr F inX3 hP 22 0 tc_22 rfl rfl (by decide) q244 (fun _ h9 => h9) dX3_readEachUnless_51 ?_
    have g5 : (-128 : Int) ≤ (u.1 1 6).toInt ∧ (u.1 1 6).toInt ≤ 127 := hR 1 6
    refine a_geti F inX10 hP 1 6 tc_1 rfl rfl (by decide) q102 (fun _ h9 => h9) (v := (u.1 1 6)) rfl dX3_readEachUnless_54 ?_
    refine a_bp F (108 : Int32) dX3_readEachUnless_57 (by decide) ?_
    refine b_ne F 100 dX3_readEachUnless_59 (by decide) rfl ic_108 (fun c6 => ?_) (fun c6 => ?_)
    · have hC := hC.trans (if_pos c6)
      exact L100 _ _ _ _ hR hF hK_N13 (by omega : (0 : Int) ≤ (u.1 23 6).toInt ∧ (u.1 23 6).toInt ≤ 1) (by omega : (-1 : Int) ≤ (u.1 23 7).toInt ∧ (u.1 23 7).toInt ≤ 7) hC hP hD hS (lv_sub hl [0] rfl)
    · have hC := hC.trans (if_neg (by omega))
      refine lv_aload_n F.1 F.2.1 dX3_readEachUnless_62 rfl (lv_at hl 0 rfl) ?_
      refine a_getr F inX3 hP 22 0 tc_22 rfl rfl (by decide) q244 (fun _ h9 => h9) dX3_readEachUnless_63 ?_
      refine lv_aload_n F.1 F.2.1 dX3_readEachUnless_66 rfl (lv_at hl 0 rfl) ?_
      refine a_getr F inX3 hP 22 1 tc_22 rfl rfl (by decide) q245 (fun _ h9 => h9) dX3_readEachUnless_67 ?_
      refine a_ic F (2 : Int32) dX3_readEachUnless_70 (by decide) ?_
      refine a_Vi F hml hl.1 hA hP hD hS (As := [.ref (ad 13), .int (2 : Int32)]) (x_X10_takeKnown_1_13 l dC dI ad cA nF _ (2 : Int32) hR (by decide) hK_N13) (cs_RX3_114 (d := 4) F.2.2.1 (by decide)) tc_1 rfl rfl rfl rfl (Nat.le_of_ble_eq_true rfl) dX3_readEachUnless_71 ⟨Nat.le_refl 0, Nat.le_refl 0⟩ (fun r7 u7 H locs hq hP hD hS => ?_)
      obtain ⟨hR, hF7, gr7, xr7, hz7⟩ := hq
      have hF := hF.tr hF7 (by decide)
      have hK_N13 := sp_fr sp_N13 hF7 (by decide) hK_N13
      have g8 : (0 : Int) ≤ (u7.1 1 9).toInt ∧ (u7.1 1 9).toInt ≤ 7 := hR 1 9
      have xr7 : r7.toInt ≠ 0 → (2 : Int) = 1 → (u7.1 1 9).toInt ≤ 3 := xr7
      have hC := bd_eq hC hz7
      refine z_ne F 79 dX3_readEachUnless_74 (by decide) rfl (fun c9 => ?_) (fun c9 => ?_)
      · have hC := hC.trans (if_pos c9)
        refine lv_aload_n F.1 F.2.1 dX3_readEachUnless_79 rfl (lv_at hl 0 rfl) ?_
        refine a_getr F inX3 hP 22 2 tc_22 rfl rfl (by decide) q246 (fun _ h9 => h9) dX3_readEachUnless_80 ?_
        refine a_bp F (7 : Int32) dX3_readEachUnless_83 (by decide) ?_
        refine lv_aload_n F.1 F.2.1 dX3_readEachUnless_85 rfl (lv_at hl 0 rfl) ?_
        refine a_getr F inX3 hP 22 0 tc_22 rfl rfl (by decide) q244 (fun _ h9 => h9) dX3_readEachUnless_86 ?_
        refine a_geti F inX10 hP 1 9 tc_1 rfl rfl (by decide) q112 (fun _ h9 => h9) (v := (u7.1 1 9)) (rfl) dX3_readEachUnless_89 ?_
        refine a_iastK F hP hD hS 23 7 tc_23 rfl rfl (i_in ic_7 (by omega)) dX3_readEachUnless_92 (fun H locs hP hD hS => ?_)
        have hR := hR.si (c := 23) (k := 7) (v := (u7.1 1 9)) ⟨i_lo _, i_hi _⟩
        have hF := hF.si (c := 23) (k := 7) (v := (u7.1 1 9)) rfl
        have hK_N13 := sp_sgD sp_N13 hD hK_N13 (by decide)
        refine lv_aload_n F.1 F.2.1 dX3_readEachUnless_93 rfl (lv_at hl 0 rfl) ?_
        refine a_getr F inX3 hP 22 0 tc_22 rfl rfl (by decide) q244 (fun _ h9 => h9) dX3_readEachUnless_94 ?_
        refine a_Vv F hml hl.1 hA hP hD hS (As := []) (x_X10_readNext_1 l dC dI ad cA nF _  hR) (cs_RX3_74 (d := 3) F.2.2.1 (by decide)) tc_1 rfl rfl rfl rfl (Nat.le_of_ble_eq_true rfl) dX3_readEachUnless_97 ⟨Nat.le_refl 0, Nat.le_refl 0⟩ (fun u10 H locs hq hP hD hS => ?_)
        obtain ⟨hR, hF10, hz10⟩ := hq
        have hF := hF.tr hF10 (by decide)
        have hK_N13 := sp_fr sp_N13 hF10 (by decide) hK_N13
        have hC := vl_eq hC hz10.symm
        exact L100 _ _ _ _ hR hF hK_N13 (i_trB ((hF10 23 6 rfl).trans (hF7 23 6 rfl)) (by omega : (0 : Int) ≤ (u.1 23 6).toInt ∧ (u.1 23 6).toInt ≤ 1)) (i_trB (hF10 23 7 rfl) (by omega : (-1 : Int) ≤ (u7.1 1 9).toInt ∧ (u7.1 1 9).toInt ≤ 7)) hC hP hD hS (lv_sub hl [0] rfl)
      · have hC := hC.trans (if_neg (by omega))
        refine a_ic F (0 : Int32) dX3_readEachUnless_77 (by decide) ?_
        exact a_retz F hr hlocks hP hD hS dX3_readEachUnless_78 (Or.inl rfl) ⟨hR, hF, (by decide), hK_N13, hRR.symm.trans hC⟩
  have hC : RR = f_X3_readEachUnless_22 u0 := hRR
  unfold f_X3_readEachUnless_22 at hC
  refine lv_aload_n F.1 F.2.1 dX3_readEachUnless_0 rfl (lv_at hl 0 rfl) ?_
  refine a_getr F inX3 hP 22 2 tc_22 rfl rfl (by decide) q246 (fun _ h9 => h9) dX3_readEachUnless_1 ?_
  refine a_bp F (6 : Int32) dX3_readEachUnless_4 (by decide) ?_
  refine a_ic F (0 : Int32) dX3_readEachUnless_6 (by decide) ?_
  refine a_iastK F hP hD hS 23 6 tc_23 rfl rfl (i_in ic_6 (by omega)) dX3_readEachUnless_7 (fun H locs hP hD hS => ?_)
  have hR := hR.si (c := 23) (k := 6) (v := (0 : Int32)) ⟨i_lo _, i_hi _⟩
  have hF := hF.si (c := 23) (k := 6) (v := (0 : Int32)) rfl
  have hK_N13 := sp_sgD sp_N13 hD hK_N13 (by decide)
  refine lv_aload_n F.1 F.2.1 dX3_readEachUnless_8 rfl (lv_at hl 0 rfl) ?_
  refine a_getr F inX3 hP 22 2 tc_22 rfl rfl (by decide) q246 (fun _ h9 => h9) dX3_readEachUnless_9 ?_
  refine a_bp F (7 : Int32) dX3_readEachUnless_12 (by decide) ?_
  refine a_ic F (-1 : Int32) dX3_readEachUnless_14 (by decide) ?_
  refine a_iastK F hP hD hS 23 7 tc_23 rfl rfl (i_in ic_7 (by omega)) dX3_readEachUnless_15 (fun H locs hP hD hS => ?_)
  have hR := hR.si (c := 23) (k := 7) (v := (-1 : Int32)) ⟨i_lo _, i_hi _⟩
  have hF := hF.si (c := 23) (k := 7) (v := (-1 : Int32)) rfl
  have hK_N13 := sp_sgD sp_N13 hD hK_N13 (by decide)
  refine lv_aload_n F.1 F.2.1 dX3_readEachUnless_16 rfl (lv_at hl 0 rfl) ?_
  refine a_getr F inX3 hP 22 0 tc_22 rfl rfl (by decide) q244 (fun _ h9 => h9) dX3_readEachUnless_17 ?_
  refine a_Vv F hml hl.1 hA hP hD hS (As := []) (x_X10_readNext_1 l dC dI ad cA nF _  hR) (cs_RX3_74 (d := 3) F.2.2.1 (by decide)) tc_1 rfl rfl rfl rfl (Nat.le_of_ble_eq_true rfl) dX3_readEachUnless_20 ⟨Nat.le_refl 0, Nat.le_refl 0⟩ (fun u11 H locs hq hP hD hS => ?_)
  obtain ⟨hR, hF11, hz11⟩ := hq
  have hF := hF.tr hF11 (by decide)
  have hK_N13 := sp_fr sp_N13 hF11 (by decide) hK_N13
  have hC := vl_eq hC hz11.symm
  refine lv_aload_n F.1 F.2.1 dX3_readEachUnless_23 rfl (lv_at hl 0 rfl) ?_
  refine a_getr F inX3 hP 22 0 tc_22 rfl rfl (by decide) q244 (fun _ h9 => h9) dX3_readEachUnless_24 ?_
  have g12 : (-128 : Int) ≤ (u11.1 1 6).toInt ∧ (u11.1 1 6).toInt ≤ 127 := hR 1 6
  refine a_geti F inX10 hP 1 6 tc_1 rfl rfl (by decide) q102 (fun _ h9 => h9) (v := (u11.1 1 6)) rfl dX3_readEachUnless_27 ?_
  refine a_bp F (107 : Int32) dX3_readEachUnless_30 (by decide) ?_
  refine b_ne F 50 dX3_readEachUnless_32 (by decide) rfl ic_107 (fun c13 => ?_) (fun c13 => ?_)
  · have hC := hC.trans (if_pos c13)
    exact L50 _ _ _ _ hR hF hK_N13 (i_trB (hF11 23 6 rfl) (by omega : (0 : Int) ≤ (0 : Int) ∧ (0 : Int) ≤ 1)) (i_trB (hF11 23 7 rfl) (by omega : (-1 : Int) ≤ (-1 : Int) ∧ (-1 : Int) ≤ -1)) hC hP hD hS (lv_sub hl [0] rfl)
  · have hC := hC.trans (if_neg (by omega))
    refine lv_aload_n F.1 F.2.1 dX3_readEachUnless_35 rfl (lv_at hl 0 rfl) ?_
    refine a_getr F inX3 hP 22 2 tc_22 rfl rfl (by decide) q246 (fun _ h9 => h9) dX3_readEachUnless_36 ?_
    refine a_bp F (6 : Int32) dX3_readEachUnless_39 (by decide) ?_
    refine a_ic F (1 : Int32) dX3_readEachUnless_41 (by decide) ?_
    refine a_iastK F hP hD hS 23 6 tc_23 rfl rfl (i_in ic_6 (by omega)) dX3_readEachUnless_42 (fun H locs hP hD hS => ?_)
    have hR := hR.si (c := 23) (k := 6) (v := (1 : Int32)) ⟨i_lo _, i_hi _⟩
    have hF := hF.si (c := 23) (k := 6) (v := (1 : Int32)) rfl
    have hK_N13 := sp_sgD sp_N13 hD hK_N13 (by decide)
    refine lv_aload_n F.1 F.2.1 dX3_readEachUnless_43 rfl (lv_at hl 0 rfl) ?_
    refine a_getr F inX3 hP 22 0 tc_22 rfl rfl (by decide) q244 (fun _ h9 => h9) dX3_readEachUnless_44 ?_
    refine a_Vv F hml hl.1 hA hP hD hS (As := []) (x_X10_readNext_1 l dC dI ad cA nF _  hR) (cs_RX3_74 (d := 3) F.2.2.1 (by decide)) tc_1 rfl rfl rfl rfl (Nat.le_of_ble_eq_true rfl) dX3_readEachUnless_47 ⟨Nat.le_refl 0, Nat.le_refl 0⟩ (fun u14 H locs hq hP hD hS => ?_)
    obtain ⟨hR, hF14, hz14⟩ := hq
    have hF := hF.tr hF14 (by decide)
    have hK_N13 := sp_fr sp_N13 hF14 (by decide) hK_N13
    have hC := vl_eq hC hz14.symm
    exact L50 _ _ _ _ hR hF hK_N13 (i_trB (hF14 23 6 rfl) (by omega : (0 : Int) ≤ (1 : Int) ∧ (1 : Int) ≤ 1)) (i_trB ((hF14 23 7 rfl).trans (hF11 23 7 rfl)) (by omega : (-1 : Int) ≤ (-1 : Int) ∧ (-1 : Int) ≤ -1)) hC hP hD hS (lv_sub hl [0] rfl)


def f_X12_looksAt_85 (u0 : ac_U) (p0 : Int32) (p1 : Int32) : ac_U × Int32 := (vl (f_X12_isName_85 u0) (fun (r1 : Int32) => (if r1.toInt ≠ 0 then (vl (f_X12_find_85 u0 p0 p1) (fun (r3 : Int32) => (if 0 ≤ r3.toInt then ((pI u0 85 18 r3), (1 : Int32)) else (bd (f_X12_bad_85 (pI u0 85 18 r3) (3 : Int32)) (fun (u5 : ac_U) (r5 : Int32) => (if r5.toInt = 0 then (u5, (0 : Int32)) else (u5, 0))))))) else (bd (f_X12_bad_85 u0 (1 : Int32)) (fun (u8 : ac_U) (r8 : Int32) => (u8, r8))))))
set_option maxHeartbeats 600000 in
set_option maxRecDepth 100000 in
theorem x_X12_looksAt_85 (l : Launch) (dC : Nat → ClassId) (dI : Nat → Nat → Nat) (ad : Nat → Nat) (cA : Nat → ClassId) (nF : Nat) (u0 : ac_U) (p0 : Int32) (p1 : Int32) (hR : ac_R rg u0) (hp0 : (0 : Int) ≤ p0.toInt ∧ p0.toInt ≤ 44) (hp1 : (0 : Int) ≤ p1.toInt ∧ p1.toInt ≤ 12) (hh0 : p0.toInt + p1.toInt ≤ 52) : ac_Mi l yX12_looksAt (.code yX12_looksAt cX12_looksAt 3 (some .boolean) :: TB) 2 (dC, dI) vwCl (ac_ty cA) ad cA (TT nF) [.ref (ad 85), .int p0, .int p1] u0 (fun (r : Int32) (u : ac_U) => ac_R rg u ∧ ac_Fr [(85, some 15), (85, some 16), (85, some 18)] u0 u ∧ ((0 : Int) ≤ r.toInt ∧ r.toInt ≤ 1) ∧ (r.toInt ≠ 0 → 0 ≤ (u.1 85 18).toInt ∧ (u.1 85 18).toInt < p1.toInt) ∧ f_X12_looksAt_85 u0 p0 p1 = (u, r)) := by
  refine ac_Mi.of (cc := cX12_looksAt) (maxL := 3) (ret := (some .boolean)) (by decide) rfl (Nat.le_of_ble_eq_true rfl) ?_
  intro p e s m below meth c A ls F hml hr hlocks hA hP hD hS hl
  have F : ac_X p s m [.ref (ad 85), .int p0, .int p1].toArray c cX12_looksAt RX12 TB (dC, dI) vwCl (ac_ty cA) := ⟨F.1, F.2.1, fun w h => F.2.2.1 w (List.mem_cons_of_mem _ h), F.2.2.2.1, F.2.2.2.2⟩
  have hl : lv_has ls 3 [(0, .ref (ad 85)), (1, .int p0), (2, .int p1)] := hl
  obtain ⟨RR, hRR⟩ : ∃ q, q = f_X12_looksAt_85 u0 p0 p1 := ⟨_, rfl⟩
  have hF : ac_Fr [(85, some 15), (85, some 16), (85, some 18)] u0 u0 := ac_Fr.rf
  have hC : RR = f_X12_looksAt_85 u0 p0 p1 := hRR
  unfold f_X12_looksAt_85 at hC
  refine lv_aload_n F.1 F.2.1 dX12_looksAt_0 rfl (lv_at hl 0 rfl) ?_
  refine a_Vi F hml hl.1 hA hP hD hS (As := []) (x_X12_isName_85 l dC dI ad cA nF _  hR) (cs_RX12_194 (d := 1) F.2.2.1 (by decide)) tc_85 rfl rfl rfl rfl (Nat.le_of_ble_eq_true rfl) dX12_looksAt_1 ⟨Nat.le_refl 0, Nat.le_refl 0⟩ (fun r1 uN1 H locs hq hP hD hS => ?_)
  obtain ⟨hu1, gr1, hz1⟩ := hq
  rw [hu1] at hP hD
  have hC := vl_eq hC hz1.symm
  refine z_ne F 13 dX12_looksAt_4 (by decide) rfl (fun c2 => ?_) (fun c2 => ?_)
  · have hC := hC.trans (if_pos c2)
    refine lv_aload_n F.1 F.2.1 dX12_looksAt_13 rfl (lv_at hl 0 rfl) ?_
    refine lv_aload_n F.1 F.2.1 dX12_looksAt_14 rfl (lv_at hl 0 rfl) ?_
    refine lv_iload_n F.1 F.2.1 dX12_looksAt_15 rfl (lv_at hl 1 rfl) ?_
    refine lv_iload_n F.1 F.2.1 dX12_looksAt_16 rfl (lv_at hl 2 rfl) ?_
    refine a_Vi F hml hl.1 hA hP hD hS (As := [.int p0, .int p1]) (x_X12_find_85 l dC dI ad cA nF _ p0 p1 hR (by omega) (by omega) (by omega)) (cs_RX12_198 (d := 1) F.2.2.1 (by decide)) tc_85 rfl rfl rfl rfl (Nat.le_of_ble_eq_true rfl) dX12_looksAt_17 ⟨Nat.le_refl 0, Nat.le_refl 0⟩ (fun r3 uN3 H locs hq hP hD hS => ?_)
    obtain ⟨hu3, gr3, xr3, hz3⟩ := hq
    rw [hu3] at hP hD
    have xr3 : -1 ≤ r3.toInt ∧ r3.toInt < p1.toInt ∨ r3.toInt = -1 := xr3
    have hC := vl_eq hC hz3.symm
    refine a_puti F inX12 tyX12 tyX12_ok nmX12 hP hD hS 85 18 tc_85 rfl rfl (by decide) q1489 (fun _ h9 => h9) rfl (ty := .int) (tyX12_ok 18 (by decide)) rfl rfl dX12_looksAt_20 (fun H locs hP hD hS => ?_)
    have hR := hR.si (c := 85) (k := 18) (v := r3) ⟨i_lo _, i_hi _⟩
    have hF := hF.si (c := 85) (k := 18) (v := r3) rfl
    refine lv_aload_n F.1 F.2.1 dX12_looksAt_23 rfl (lv_at hl 0 rfl) ?_
    refine a_geti F inX12 hP 85 18 tc_85 rfl rfl (by decide) q1489 (fun _ h9 => h9) (v := r3) (rfl) dX12_looksAt_24 ?_
    refine z_ge F 38 dX12_looksAt_27 (by decide) rfl (fun c4 => ?_) (fun c4 => ?_)
    · have hC := hC.trans (if_pos c4)
      refine a_ic F (1 : Int32) dX12_looksAt_38 (by decide) ?_
      refine lv_goto (tgt := 43) F.1 F.2.1 dX12_looksAt_39 (by decide) ?_
      exact a_retz F hr hlocks hP hD hS dX12_looksAt_43 (Or.inr rfl) ⟨hR, hF, (by decide), (by first | exact (by omega : (1 : Int) ≠ 0 → 0 ≤ r3.toInt ∧ r3.toInt < p1.toInt) | (rw [ic_1]; exact (by omega : (1 : Int) ≠ 0 → 0 ≤ r3.toInt ∧ r3.toInt < p1.toInt))), hRR.symm.trans hC⟩
    · have hC := hC.trans (if_neg (by omega))
      refine lv_aload_n F.1 F.2.1 dX12_looksAt_30 rfl (lv_at hl 0 rfl) ?_
      refine a_ic F (3 : Int32) dX12_looksAt_31 (by decide) ?_
      refine a_Vi F hml hl.1 hA hP hD hS (As := [.int (3 : Int32)]) (x_X12_bad_85 l dC dI ad cA nF _ (3 : Int32) hR (by decide)) (cs_RX12_181 (d := 1) F.2.2.1 (by decide)) tc_85 rfl rfl rfl rfl (Nat.le_of_ble_eq_true rfl) dX12_looksAt_32 ⟨Nat.le_refl 0, Nat.le_refl 0⟩ (fun r5 u5 H locs hq hP hD hS => ?_)
      obtain ⟨hR, hF5, gr5, hz5⟩ := hq
      have hF := hF.tr hF5 (by decide)
      have hC := bd_eq hC hz5
      refine z_eq F 42 dX12_looksAt_35 (by decide) rfl (fun c6 => ?_) (fun c6 => ?_)
      · have hC := hC.trans (if_pos c6)
        refine a_ic F (0 : Int32) dX12_looksAt_42 (by decide) ?_
        have k7 : (u5.1 85 18).toInt = r3.toInt := congrArg Int32.toInt (show u5.1 85 18 = r3 from hF5 85 18 rfl)
        exact a_retz F hr hlocks hP hD hS dX12_looksAt_43 (Or.inl rfl) ⟨hR, hF, (by decide), (by first | exact (by omega : (0 : Int) ≠ 0 → 0 ≤ (u5.1 85 18).toInt ∧ (u5.1 85 18).toInt < p1.toInt) | (rw [ic_0]; exact (by omega : (0 : Int) ≠ 0 → 0 ≤ (u5.1 85 18).toInt ∧ (u5.1 85 18).toInt < p1.toInt))), hRR.symm.trans hC⟩
      · exfalso; omega
  · have hC := hC.trans (if_neg (by omega))
    refine lv_aload_n F.1 F.2.1 dX12_looksAt_7 rfl (lv_at hl 0 rfl) ?_
    refine a_ic F (1 : Int32) dX12_looksAt_8 (by decide) ?_
    refine a_Vi F hml hl.1 hA hP hD hS (As := [.int (1 : Int32)]) (x_X12_bad_85 l dC dI ad cA nF _ (1 : Int32) hR (by decide)) (cs_RX12_181 (d := 1) F.2.2.1 (by decide)) tc_85 rfl rfl rfl rfl (Nat.le_of_ble_eq_true rfl) dX12_looksAt_9 ⟨Nat.le_refl 0, Nat.le_refl 0⟩ (fun r8 u8 H locs hq hP hD hS => ?_)
    obtain ⟨hR, hF8, gr8, hz8⟩ := hq
    have hF := hF.tr hF8 (by decide)
    have hC := bd_eq hC hz8
    exact a_retz F hr hlocks hP hD hS dX12_looksAt_12 (i_01 (by omega)) ⟨hR, hF, (by omega : (0 : Int) ≤ r8.toInt ∧ r8.toInt ≤ 1), (by omega : r8.toInt ≠ 0 → 0 ≤ (u8.1 85 18).toInt ∧ (u8.1 85 18).toInt < p1.toInt), hRR.symm.trans hC⟩

def f_X12_takes_85 (u0 : ac_U) (p0 : Int32) (p1 : Int32) : ac_U × Int32 := (if (u0.1 85 11).toInt = (2 : Int) then (vl (f_X12_isIn u0 (u0.1 85 14) p0 p1) (fun (r3 : Int32) => (if r3.toInt ≠ 0 then (vl (f_X12_next_85 (pI u0 85 18 (u0.1 85 14))) (fun (u5 : ac_U) => (u5, (1 : Int32)))) else (bd (f_X12_bad_85 u0 (2 : Int32)) (fun (u7 : ac_U) (r7 : Int32) => (u7, r7)))))) else (bd (f_X12_bad_85 u0 (1 : Int32)) (fun (u8 : ac_U) (r8 : Int32) => (u8, r8))))
set_option maxHeartbeats 600000 in
set_option maxRecDepth 100000 in
theorem x_X12_takes_85 (l : Launch) (dC : Nat → ClassId) (dI : Nat → Nat → Nat) (ad : Nat → Nat) (cA : Nat → ClassId) (nF : Nat) (u0 : ac_U) (p0 : Int32) (p1 : Int32) (hR : ac_R rg u0) (hp1 : (3 : Int) ≤ p1.toInt ∧ p1.toInt ≤ 99) : ac_Mi l yX12_takes (.code yX12_takes cX12_takes 3 (some .boolean) :: TB) 3 (dC, dI) vwCl (ac_ty cA) ad cA (TT nF) [.ref (ad 85), .int p0, .int p1] u0 (fun (r : Int32) (u : ac_U) => ac_R rg u ∧ ac_Fr [(85, some 4), (85, some 11), (85, some 12), (85, some 13), (85, some 14), (85, some 15), (85, some 16), (85, some 18)] u0 u ∧ ((0 : Int) ≤ r.toInt ∧ r.toInt ≤ 1) ∧ (r.toInt ≠ 0 → p0.toInt ≤ (u.1 85 18).toInt ∧ (u.1 85 18).toInt ≤ p1.toInt) ∧ f_X12_takes_85 u0 p0 p1 = (u, r)) := by
  refine ac_Mi.of (cc := cX12_takes) (maxL := 3) (ret := (some .boolean)) (by decide) rfl (Nat.le_of_ble_eq_true rfl) ?_
  intro p e s m below meth c A ls F hml hr hlocks hA hP hD hS hl
  have F : ac_X p s m [.ref (ad 85), .int p0, .int p1].toArray c cX12_takes RX12 TB (dC, dI) vwCl (ac_ty cA) := ⟨F.1, F.2.1, fun w h => F.2.2.1 w (List.mem_cons_of_mem _ h), F.2.2.2.1, F.2.2.2.2⟩
  have hl : lv_has ls 3 [(0, .ref (ad 85)), (1, .int p0), (2, .int p1)] := hl
  obtain ⟨RR, hRR⟩ : ∃ q, q = f_X12_takes_85 u0 p0 p1 := ⟨_, rfl⟩
  have hF : ac_Fr [(85, some 4), (85, some 11), (85, some 12), (85, some 13), (85, some 14), (85, some 15), (85, some 16), (85, some 18)] u0 u0 := ac_Fr.rf
  have hC : RR = f_X12_takes_85 u0 p0 p1 := hRR
  unfold f_X12_takes_85 at hC
  refine lv_aload_n F.1 F.2.1 dX12_takes_0 rfl (lv_at hl 0 rfl) ?_
  have g1 : (0 : Int) ≤ (u0.1 85 11).toInt ∧ (u0.1 85 11).toInt ≤ 4 := hR 85 11
  refine a_geti F inX12 hP 85 11 tc_85 rfl rfl (by decide) q1482 (fun _ h9 => h9) (v := (u0.1 85 11)) rfl dX12_takes_1 ?_
  refine a_ic F (2 : Int32) dX12_takes_4 (by decide) ?_
  refine b_eq F 14 dX12_takes_5 (by decide) rfl ic_2 (fun c2 => ?_) (fun c2 => ?_)
  · have hC := hC.trans (if_pos c2)
    refine lv_aload_n F.1 F.2.1 dX12_takes_14 rfl (lv_at hl 0 rfl) ?_
    refine a_geti F inX12 hP 85 14 tc_85 rfl rfl (by decide) q1485 (fun _ h9 => h9) (v := (u0.1 85 14)) rfl dX12_takes_15 ?_
    refine lv_iload_n F.1 F.2.1 dX12_takes_18 rfl (lv_at hl 1 rfl) ?_
    refine lv_iload_n F.1 F.2.1 dX12_takes_19 rfl (lv_at hl 2 rfl) ?_
    refine a_Si F hml hl.1 hA hP hD hS (As := [.int (u0.1 85 14), .int p0, .int p1]) (x_X12_isIn l dC dI ad cA nF _ (u0.1 85 14) p0 p1 hR (by omega)) (cs_RX12_187 (d := 1) F.2.2.1 (by decide)) rfl rfl (Nat.le_of_ble_eq_true rfl) dX12_takes_20 ⟨Nat.le_refl 0, Nat.le_refl 0⟩ (fun r3 uN3 H locs hq hP hD hS => ?_)
    obtain ⟨hu3, gr3, xr3, hz3⟩ := hq
    rw [hu3] at hP hD
    have xr3 : r3.toInt ≠ 0 → p0.toInt ≤ (u0.1 85 14).toInt ∧ (u0.1 85 14).toInt ≤ p1.toInt := xr3
    have hC := vl_eq hC hz3.symm
    refine z_ne F 32 dX12_takes_23 (by decide) rfl (fun c4 => ?_) (fun c4 => ?_)
    · have hC := hC.trans (if_pos c4)
      refine lv_aload_n F.1 F.2.1 dX12_takes_32 rfl (lv_at hl 0 rfl) ?_
      refine lv_aload_n F.1 F.2.1 dX12_takes_33 rfl (lv_at hl 0 rfl) ?_
      refine a_geti F inX12 hP 85 14 tc_85 rfl rfl (by decide) q1485 (fun _ h9 => h9) (v := (u0.1 85 14)) (rfl) dX12_takes_34 ?_
      refine a_puti F inX12 tyX12 tyX12_ok nmX12 hP hD hS 85 18 tc_85 rfl rfl (by decide) q1489 (fun _ h9 => h9) rfl (ty := .int) (tyX12_ok 18 (by decide)) rfl rfl dX12_takes_37 (fun H locs hP hD hS => ?_)
      have hR := hR.si (c := 85) (k := 18) (v := (u0.1 85 14)) ⟨i_lo _, i_hi _⟩
      have hF := hF.si (c := 85) (k := 18) (v := (u0.1 85 14)) rfl
      refine lv_aload_n F.1 F.2.1 dX12_takes_40 rfl (lv_at hl 0 rfl) ?_
      refine a_Vv F hml hl.1 hA hP hD hS (As := []) (x_X12_next_85 l dC dI ad cA nF _  hR) (cs_RX12_184 (d := 2) F.2.2.1 (by decide)) tc_85 rfl rfl rfl rfl (Nat.le_of_ble_eq_true rfl) dX12_takes_41 ⟨Nat.le_refl 0, Nat.le_refl 0⟩ (fun u5 H locs hq hP hD hS => ?_)
      obtain ⟨hR, hF5, hz5⟩ := hq
      have hF := hF.tr hF5 (by decide)
      have hC := vl_eq hC hz5.symm
      refine a_ic F (1 : Int32) dX12_takes_44 (by decide) ?_
      have k6 : (u5.1 85 18).toInt = (u0.1 85 14).toInt := congrArg Int32.toInt (show u5.1 85 18 = (u0.1 85 14) from hF5 85 18 rfl)
      exact a_retz F hr hlocks hP hD hS dX12_takes_45 (Or.inr rfl) ⟨hR, hF, (by decide), (by first | exact (by omega : (1 : Int) ≠ 0 → p0.toInt ≤ (u5.1 85 18).toInt ∧ (u5.1 85 18).toInt ≤ p1.toInt) | (rw [ic_1]; exact (by omega : (1 : Int) ≠ 0 → p0.toInt ≤ (u5.1 85 18).toInt ∧ (u5.1 85 18).toInt ≤ p1.toInt))), hRR.symm.trans hC⟩
    · have hC := hC.trans (if_neg (by omega))
      refine lv_aload_n F.1 F.2.1 dX12_takes_26 rfl (lv_at hl 0 rfl) ?_
      refine a_ic F (2 : Int32) dX12_takes_27 (by decide) ?_
      refine a_Vi F hml hl.1 hA hP hD hS (As := [.int (2 : Int32)]) (x_X12_bad_85 l dC dI ad cA nF _ (2 : Int32) hR (by decide)) (cs_RX12_181 (d := 1) F.2.2.1 (by decide)) tc_85 rfl rfl rfl rfl (Nat.le_of_ble_eq_true rfl) dX12_takes_28 ⟨Nat.le_refl 0, Nat.le_refl 0⟩ (fun r7 u7 H locs hq hP hD hS => ?_)
      obtain ⟨hR, hF7, gr7, hz7⟩ := hq
      have hF := hF.tr hF7 (by decide)
      have hC := bd_eq hC hz7
      exact a_retz F hr hlocks hP hD hS dX12_takes_31 (i_01 (by omega)) ⟨hR, hF, (by omega : (0 : Int) ≤ r7.toInt ∧ r7.toInt ≤ 1), (by omega : r7.toInt ≠ 0 → p0.toInt ≤ (u7.1 85 18).toInt ∧ (u7.1 85 18).toInt ≤ p1.toInt), hRR.symm.trans hC⟩
  · have hC := hC.trans (if_neg (by omega))
    refine lv_aload_n F.1 F.2.1 dX12_takes_8 rfl (lv_at hl 0 rfl) ?_
    refine a_ic F (1 : Int32) dX12_takes_9 (by decide) ?_
    refine a_Vi F hml hl.1 hA hP hD hS (As := [.int (1 : Int32)]) (x_X12_bad_85 l dC dI ad cA nF _ (1 : Int32) hR (by decide)) (cs_RX12_181 (d := 1) F.2.2.1 (by decide)) tc_85 rfl rfl rfl rfl (Nat.le_of_ble_eq_true rfl) dX12_takes_10 ⟨Nat.le_refl 0, Nat.le_refl 0⟩ (fun r8 u8 H locs hq hP hD hS => ?_)
    obtain ⟨hR, hF8, gr8, hz8⟩ := hq
    have hF := hF.tr hF8 (by decide)
    have hC := bd_eq hC hz8
    exact a_retz F hr hlocks hP hD hS dX12_takes_13 (i_01 (by omega)) ⟨hR, hF, (by omega : (0 : Int) ≤ r8.toInt ∧ r8.toInt ≤ 1), (by omega : r8.toInt ≠ 0 → p0.toInt ≤ (u8.1 85 18).toInt ∧ (u8.1 85 18).toInt ≤ p1.toInt), hRR.symm.trans hC⟩

def f_X12_takesName_85 (u0 : ac_U) (p0 : Int32) (p1 : Int32) : ac_U × Int32 := (bd (f_X12_looksAt_85 u0 p0 p1) (fun (u1 : ac_U) (r1 : Int32) => (if r1.toInt ≠ 0 then (vl (f_X12_next_85 u1) (fun (u3 : ac_U) => (u3, (1 : Int32)))) else (u1, (0 : Int32)))))
set_option maxHeartbeats 600000 in
set_option maxRecDepth 100000 in
theorem x_X12_takesName_85 (l : Launch) (dC : Nat → ClassId) (dI : Nat → Nat → Nat) (ad : Nat → Nat) (cA : Nat → ClassId) (nF : Nat) (u0 : ac_U) (p0 : Int32) (p1 : Int32) (hR : ac_R rg u0) (hp0 : (0 : Int) ≤ p0.toInt ∧ p0.toInt ≤ 44) (hp1 : (0 : Int) ≤ p1.toInt ∧ p1.toInt ≤ 12) (hh0 : p0.toInt + p1.toInt ≤ 52) : ac_Mi l yX12_takesName (.code yX12_takesName cX12_takesName 3 (some .boolean) :: TB) 3 (dC, dI) vwCl (ac_ty cA) ad cA (TT nF) [.ref (ad 85), .int p0, .int p1] u0 (fun (r : Int32) (u : ac_U) => ac_R rg u ∧ ac_Fr [(85, some 4), (85, some 11), (85, some 12), (85, some 13), (85, some 14), (85, some 15), (85, some 16), (85, some 18)] u0 u ∧ ((0 : Int) ≤ r.toInt ∧ r.toInt ≤ 1) ∧ (r.toInt ≠ 0 → 0 ≤ (u.1 85 18).toInt ∧ (u.1 85 18).toInt < p1.toInt) ∧ f_X12_takesName_85 u0 p0 p1 = (u, r)) := by
  refine ac_Mi.of (cc := cX12_takesName) (maxL := 3) (ret := (some .boolean)) (by decide) rfl (Nat.le_of_ble_eq_true rfl) ?_
  intro p e s m below meth c A ls F hml hr hlocks hA hP hD hS hl
  have F : ac_X p s m [.ref (ad 85), .int p0, .int p1].toArray c cX12_takesName RX12 TB (dC, dI) vwCl (ac_ty cA) := ⟨F.1, F.2.1, fun w h => F.2.2.1 w (List.mem_cons_of_mem _ h), F.2.2.2.1, F.2.2.2.2⟩
  have hl : lv_has ls 3 [(0, .ref (ad 85)), (1, .int p0), (2, .int p1)] := hl
  obtain ⟨RR, hRR⟩ : ∃ q, q = f_X12_takesName_85 u0 p0 p1 := ⟨_, rfl⟩
  have hF : ac_Fr [(85, some 4), (85, some 11), (85, some 12), (85, some 13), (85, some 14), (85, some 15), (85, some 16), (85, some 18)] u0 u0 := ac_Fr.rf
  have hC : RR = f_X12_takesName_85 u0 p0 p1 := hRR
  unfold f_X12_takesName_85 at hC
  refine lv_aload_n F.1 F.2.1 dX12_takesName_0 rfl (lv_at hl 0 rfl) ?_
  refine lv_iload_n F.1 F.2.1 dX12_takesName_1 rfl (lv_at hl 1 rfl) ?_
  refine lv_iload_n F.1 F.2.1 dX12_takesName_2 rfl (lv_at hl 2 rfl) ?_
  refine a_Vi F hml hl.1 hA hP hD hS (As := [.int p0, .int p1]) (x_X12_looksAt_85 l dC dI ad cA nF _ p0 p1 hR (by omega) (by omega) (by omega)) (cs_RX12_202 (d := 2) F.2.2.1 (by decide)) tc_85 rfl rfl rfl rfl (Nat.le_of_ble_eq_true rfl) dX12_takesName_3 ⟨Nat.le_refl 0, Nat.le_refl 0⟩ (fun r1 u1 H locs hq hP hD hS => ?_)
  obtain ⟨hR, hF1, gr1, xr1, hz1⟩ := hq
  have hF := hF.tr hF1 (by decide)
  have xr1 : r1.toInt ≠ 0 → 0 ≤ (u1.1 85 18).toInt ∧ (u1.1 85 18).toInt < p1.toInt := xr1
  have hC := bd_eq hC hz1
  refine z_ne F 11 dX12_takesName_6 (by decide) rfl (fun c2 => ?_) (fun c2 => ?_)
  · have hC := hC.trans (if_pos c2)
    refine lv_aload_n F.1 F.2.1 dX12_takesName_11 rfl (lv_at hl 0 rfl) ?_
    refine a_Vv F hml hl.1 hA hP hD hS (As := []) (x_X12_next_85 l dC dI ad cA nF _  hR) (cs_RX12_184 (d := 2) F.2.2.1 (by decide)) tc_85 rfl rfl rfl rfl (Nat.le_of_ble_eq_true rfl) dX12_takesName_12 ⟨Nat.le_refl 0, Nat.le_refl 0⟩ (fun u3 H locs hq hP hD hS => ?_)
    obtain ⟨hR, hF3, hz3⟩ := hq
    have hF := hF.tr hF3 (by decide)
    have hC := vl_eq hC hz3.symm
    refine a_ic F (1 : Int32) dX12_takesName_15 (by decide) ?_
    have k4 : (u3.1 85 18).toInt = (u1.1 85 18).toInt := congrArg Int32.toInt (show u3.1 85 18 = (u1.1 85 18) from hF3 85 18 rfl)
    exact a_retz F hr hlocks hP hD hS dX12_takesName_16 (Or.inr rfl) ⟨hR, hF, (by decide), (by first | exact (by omega : (1 : Int) ≠ 0 → 0 ≤ (u3.1 85 18).toInt ∧ (u3.1 85 18).toInt < p1.toInt) | (rw [ic_1]; exact (by omega : (1 : Int) ≠ 0 → 0 ≤ (u3.1 85 18).toInt ∧ (u3.1 85 18).toInt < p1.toInt))), hRR.symm.trans hC⟩
  · have hC := hC.trans (if_neg (by omega))
    refine a_ic F (0 : Int32) dX12_takesName_9 (by decide) ?_
    exact a_retz F hr hlocks hP hD hS dX12_takesName_10 (Or.inl rfl) ⟨hR, hF, (by decide), (by first | exact (by omega : (0 : Int) ≠ 0 → 0 ≤ (u1.1 85 18).toInt ∧ (u1.1 85 18).toInt < p1.toInt) | (rw [ic_0]; exact (by omega : (0 : Int) ≠ 0 → 0 ≤ (u1.1 85 18).toInt ∧ (u1.1 85 18).toInt < p1.toInt))), hRR.symm.trans hC⟩
def f_X12_sign_85 (u0 : ac_U) (p0 : Int32) : ac_U × Int32 := (vl (f_X12_isSign_85 u0 p0) (fun (r1 : Int32) => (if r1.toInt ≠ 0 then (vl (f_X12_next_85 u0) (fun (u3 : ac_U) => (u3, (1 : Int32)))) else (bd (f_X12_bad_85 u0 (1 : Int32)) (fun (u4 : ac_U) (r4 : Int32) => (u4, r4))))))
set_option maxHeartbeats 600000 in
set_option maxRecDepth 100000 in
theorem x_X12_sign_85 (l : Launch) (dC : Nat → ClassId) (dI : Nat → Nat → Nat) (ad : Nat → Nat) (cA : Nat → ClassId) (nF : Nat) (u0 : ac_U) (p0 : Int32) (hR : ac_R rg u0) (hp0 : (59 : Int) ≤ p0.toInt ∧ p0.toInt ≤ 59) : ac_Mi l yX12_sign (.code yX12_sign cX12_sign 2 (some .boolean) :: TB) 3 (dC, dI) vwCl (ac_ty cA) ad cA (TT nF) [.ref (ad 85), .int p0] u0 (fun (r : Int32) (u : ac_U) => ac_R rg u ∧ ac_Fr [(85, some 4), (85, some 11), (85, some 12), (85, some 13), (85, some 14), (85, some 15), (85, some 16)] u0 u ∧ ((0 : Int) ≤ r.toInt ∧ r.toInt ≤ 1) ∧ f_X12_sign_85 u0 p0 = (u, r)) := by
  refine ac_Mi.of (cc := cX12_sign) (maxL := 2) (ret := (some .boolean)) (by decide) rfl (Nat.le_of_ble_eq_true rfl) ?_
  intro p e s m below meth c A ls F hml hr hlocks hA hP hD hS hl
  have F : ac_X p s m [.ref (ad 85), .int p0].toArray c cX12_sign RX12 TB (dC, dI) vwCl (ac_ty cA) := ⟨F.1, F.2.1, fun w h => F.2.2.1 w (List.mem_cons_of_mem _ h), F.2.2.2.1, F.2.2.2.2⟩
  have hl : lv_has ls 2 [(0, .ref (ad 85)), (1, .int p0)] := hl
  obtain ⟨RR, hRR⟩ : ∃ q, q = f_X12_sign_85 u0 p0 := ⟨_, rfl⟩
  have hF : ac_Fr [(85, some 4), (85, some 11), (85, some 12), (85, some 13), (85, some 14), (85, some 15), (85, some 16)] u0 u0 := ac_Fr.rf
  have hC : RR = f_X12_sign_85 u0 p0 := hRR
  unfold f_X12_sign_85 at hC
  refine lv_aload_n F.1 F.2.1 dX12_sign_0 rfl (lv_at hl 0 rfl) ?_
  refine lv_iload_n F.1 F.2.1 dX12_sign_1 rfl (lv_at hl 1 rfl) ?_
  refine a_Vi F hml hl.1 hA hP hD hS (As := [.int p0]) (x_X12_isSign_85 l dC dI ad cA nF _ p0 hR (by omega)) (cs_RX12_178 (d := 1) F.2.2.1 (by decide)) tc_85 rfl rfl rfl rfl (Nat.le_of_ble_eq_true rfl) dX12_sign_2 ⟨Nat.le_refl 0, Nat.le_refl 0⟩ (fun r1 uN1 H locs hq hP hD hS => ?_)
  obtain ⟨hu1, gr1, hz1⟩ := hq
  rw [hu1] at hP hD
  have hC := vl_eq hC hz1.symm
  refine z_ne F 14 dX12_sign_5 (by decide) rfl (fun c2 => ?_) (fun c2 => ?_)
  · have hC := hC.trans (if_pos c2)
    refine lv_aload_n F.1 F.2.1 dX12_sign_14 rfl (lv_at hl 0 rfl) ?_
    refine a_Vv F hml hl.1 hA hP hD hS (As := []) (x_X12_next_85 l dC dI ad cA nF _  hR) (cs_RX12_184 (d := 2) F.2.2.1 (by decide)) tc_85 rfl rfl rfl rfl (Nat.le_of_ble_eq_true rfl) dX12_sign_15 ⟨Nat.le_refl 0, Nat.le_refl 0⟩ (fun u3 H locs hq hP hD hS => ?_)
    obtain ⟨hR, hF3, hz3⟩ := hq
    have hF := hF.tr hF3 (by decide)
    have hC := vl_eq hC hz3.symm
    refine a_ic F (1 : Int32) dX12_sign_18 (by decide) ?_
    exact a_retz F hr hlocks hP hD hS dX12_sign_19 (Or.inr rfl) ⟨hR, hF, (by decide), hRR.symm.trans hC⟩
  · have hC := hC.trans (if_neg (by omega))
    refine lv_aload_n F.1 F.2.1 dX12_sign_8 rfl (lv_at hl 0 rfl) ?_
    refine a_ic F (1 : Int32) dX12_sign_9 (by decide) ?_
    refine a_Vi F hml hl.1 hA hP hD hS (As := [.int (1 : Int32)]) (x_X12_bad_85 l dC dI ad cA nF _ (1 : Int32) hR (by decide)) (cs_RX12_181 (d := 1) F.2.2.1 (by decide)) tc_85 rfl rfl rfl rfl (Nat.le_of_ble_eq_true rfl) dX12_sign_10 ⟨Nat.le_refl 0, Nat.le_refl 0⟩ (fun r4 u4 H locs hq hP hD hS => ?_)
    obtain ⟨hR, hF4, gr4, hz4⟩ := hq
    have hF := hF.tr hF4 (by decide)
    have hC := bd_eq hC hz4
    exact a_retz F hr hlocks hP hD hS dX12_sign_13 (i_01 (by omega)) ⟨hR, hF, (by omega : (0 : Int) ≤ r4.toInt ∧ r4.toInt ≤ 1), hRR.symm.trans hC⟩

def f_X12_taken_85 (u0 : ac_U) (p0 : Int32) : ac_U := (pI (pI (pI (pI u0 85 3 (u0.1 85 2)) 85 2 (0 : Int32)) 85 4 (0 : Int32)) 85 5 p0)
set_option maxHeartbeats 600000 in
set_option maxRecDepth 100000 in
theorem x_X12_taken_85 (l : Launch) (dC : Nat → ClassId) (dI : Nat → Nat → Nat) (ad : Nat → Nat) (cA : Nat → ClassId) (nF : Nat) (u0 : ac_U) (p0 : Int32) (hR : ac_R rg u0) (hp0 : (200 : Int) ≤ p0.toInt ∧ p0.toInt ≤ 900) : ac_Mv l yX12_taken (.code yX12_taken cX12_taken 2 none :: TB) 1 (dC, dI) vwCl (ac_ty cA) ad cA (TT nF) [.ref (ad 85), .int p0] u0 (fun (u : ac_U) => ac_R rg u ∧ ac_Fr [(85, some 2), (85, some 3), (85, some 4), (85, some 5)] u0 u ∧ (ln0 85) u ∧ f_X12_taken_85 u0 p0 = u) := by
  refine ac_Mv.of (cc := cX12_taken) (maxL := 2) (ret := none) (by decide) rfl (Nat.le_of_ble_eq_true rfl) ?_
  intro p e s m below meth c A ls F hml hr hlocks hA hP hD hS hl
  have F : ac_X p s m [.ref (ad 85), .int p0].toArray c cX12_taken RX12 TB (dC, dI) vwCl (ac_ty cA) := ⟨F.1, F.2.1, fun w h => F.2.2.1 w (List.mem_cons_of_mem _ h), F.2.2.2.1, F.2.2.2.2⟩
  have hl : lv_has ls 2 [(0, .ref (ad 85)), (1, .int p0)] := hl
  obtain ⟨RR, hRR⟩ : ∃ q, q = f_X12_taken_85 u0 p0 := ⟨_, rfl⟩
  have hF : ac_Fr [(85, some 2), (85, some 3), (85, some 4), (85, some 5)] u0 u0 := ac_Fr.rf
  have hC : RR = f_X12_taken_85 u0 p0 := hRR
  unfold f_X12_taken_85 at hC
  refine lv_aload_n F.1 F.2.1 dX12_taken_0 rfl (lv_at hl 0 rfl) ?_
  refine lv_aload_n F.1 F.2.1 dX12_taken_1 rfl (lv_at hl 0 rfl) ?_
  have g1 : (0 : Int) ≤ (u0.1 85 2).toInt ∧ (u0.1 85 2).toInt ≤ 940 := hR 85 2
  refine a_geti F inX12 hP 85 2 tc_85 rfl rfl (by decide) q1473 (fun _ h9 => h9) (v := (u0.1 85 2)) rfl dX12_taken_2 ?_
  refine a_puti F inX12 tyX12 tyX12_ok nmX12 hP hD hS 85 3 tc_85 rfl rfl (by decide) q1474 (fun _ h9 => h9) rfl (ty := .int) (tyX12_ok 3 (by decide)) rfl rfl dX12_taken_5 (fun H locs hP hD hS => ?_)
  have hR := hR.si (c := 85) (k := 3) (v := (u0.1 85 2)) (by omega : (0 : Int) ≤ (u0.1 85 2).toInt ∧ (u0.1 85 2).toInt ≤ 940)
  have hF := hF.si (c := 85) (k := 3) (v := (u0.1 85 2)) rfl
  refine lv_aload_n F.1 F.2.1 dX12_taken_8 rfl (lv_at hl 0 rfl) ?_
  refine a_ic F (0 : Int32) dX12_taken_9 (by decide) ?_
  refine a_puti F inX12 tyX12 tyX12_ok nmX12 hP hD hS 85 2 tc_85 rfl rfl (by decide) q1473 (fun _ h9 => h9) rfl (ty := .int) (tyX12_ok 2 (by decide)) rfl rfl dX12_taken_10 (fun H locs hP hD hS => ?_)
  have hR := hR.si (c := 85) (k := 2) (v := (0 : Int32)) (by rw [ic_0]; exact (by omega : (0 : Int) ≤ (0 : Int) ∧ (0 : Int) ≤ 940))
  have hF := hF.si (c := 85) (k := 2) (v := (0 : Int32)) rfl
  have hN_LR := ln0_D hD
  have hK_LR := hN_LR
  refine lv_aload_n F.1 F.2.1 dX12_taken_13 rfl (lv_at hl 0 rfl) ?_
  refine a_ic F (0 : Int32) dX12_taken_14 (by decide) ?_
  refine a_puti F inX12 tyX12 tyX12_ok nmX12 hP hD hS 85 4 tc_85 rfl rfl (by decide) q1475 (fun _ h9 => h9) rfl (ty := .int) (tyX12_ok 4 (by decide)) rfl rfl dX12_taken_15 (fun H locs hP hD hS => ?_)
  have hR := hR.si (c := 85) (k := 4) (v := (0 : Int32)) (by rw [ic_0]; exact (by omega : (0 : Int) ≤ (0 : Int) ∧ (0 : Int) ≤ 940))
  have hF := hF.si (c := 85) (k := 4) (v := (0 : Int32)) rfl
  have hK_LR := sp_si (sp_ln0 85) hK_LR (c := 85) (k := 4) (v := (0 : Int32)) (fun j9 h9 q9 => by rw [q9] at h9; exact absurd h9 (by decide))
  refine lv_aload_n F.1 F.2.1 dX12_taken_18 rfl (lv_at hl 0 rfl) ?_
  refine lv_iload_n F.1 F.2.1 dX12_taken_19 rfl (lv_at hl 1 rfl) ?_
  refine a_puti F inX12 tyX12 tyX12_ok nmX12 hP hD hS 85 5 tc_85 rfl rfl (by decide) q1476 (fun _ h9 => h9) rfl (ty := .int) (tyX12_ok 5 (by decide)) rfl rfl dX12_taken_20 (fun H locs hP hD hS => ?_)
  have hR := hR.si (c := 85) (k := 5) (v := p0) (by omega : (0 : Int) ≤ p0.toInt ∧ p0.toInt ≤ 900)
  have hF := hF.si (c := 85) (k := 5) (v := p0) rfl
  have hK_LR := sp_si (sp_ln0 85) hK_LR (c := 85) (k := 5) (v := p0) (fun j9 h9 q9 => by rw [q9] at h9; exact absurd h9 (by decide))
  exact a_retv F hr hlocks hP hD hS dX12_taken_23 ⟨hR, hF, hK_LR, hRR.symm.trans hC⟩


def f_X2_addPlace_13 (u0 : ac_U) (p0 : Int64) : ac_U := (vl (f_X2_addName_13 u0 p0 (0 : Int32) (u0.1 13 1)) (fun (u2 : ac_U) => (vl ((u0.1 13 1) + (1 : Int32)) (fun (v3 : Int32) => (pI u2 13 1 v3)))))
set_option maxHeartbeats 600000 in
set_option maxRecDepth 100000 in
theorem x_X2_addPlace_13 (l : Launch) (dC : Nat → ClassId) (dI : Nat → Nat → Nat) (ad : Nat → Nat) (cA : Nat → ClassId) (nF : Nat) (u0 : ac_U) (p0 : Int64) (hR : ac_R rg u0) (hf_13_1 : (0 : Int) ≤ (u0.1 13 1).toInt ∧ (u0.1 13 1).toInt ≤ 7) (hK_N13 : nmI 20 21 u0) : ac_Mv l yX2_addPlace (.code yX2_addPlace cX2_addPlace 3 none :: TB) 2 (dC, dI) vwCl (ac_ty cA) ad cA (TT nF) [.ref (ad 13), .long p0] u0 (fun (u : ac_U) => ac_R rg u ∧ ac_Fr [(13, some 1), (13, some 8), (20, none), (21, none)] u0 u ∧ nmI 20 21 u ∧ f_X2_addPlace_13 u0 p0 = u) := by
  refine ac_Mv.of (cc := cX2_addPlace) (maxL := 3) (ret := none) (by decide) rfl (Nat.le_of_ble_eq_true rfl) ?_
  intro p e s m below meth c A ls F hml hr hlocks hA hP hD hS hl
  have F : ac_X p s m [.ref (ad 13), .long p0].toArray c cX2_addPlace RX2 TB (dC, dI) vwCl (ac_ty cA) := ⟨F.1, F.2.1, fun w h => F.2.2.1 w (List.mem_cons_of_mem _ h), F.2.2.2.1, F.2.2.2.2⟩
  have hl : lv_has ls 3 [(0, .ref (ad 13)), (1, .long p0)] := hl
  obtain ⟨RR, hRR⟩ : ∃ q, q = f_X2_addPlace_13 u0 p0 := ⟨_, rfl⟩
  have hF : ac_Fr [(13, some 1), (13, some 8), (20, none), (21, none)] u0 u0 := ac_Fr.rf
  have hC : RR = f_X2_addPlace_13 u0 p0 := hRR
  unfold f_X2_addPlace_13 at hC
  refine lv_aload_n F.1 F.2.1 dX2_addPlace_0 rfl (lv_at hl 0 rfl) ?_
  refine lv_lload_n F.1 F.2.1 dX2_addPlace_1 rfl (lv_at hl 1 rfl) ?_
  refine a_ic F (0 : Int32) dX2_addPlace_2 (by decide) ?_
  refine lv_aload_n F.1 F.2.1 dX2_addPlace_3 rfl (lv_at hl 0 rfl) ?_
  have g1 : (0 : Int) ≤ (u0.1 13 1).toInt ∧ (u0.1 13 1).toInt ≤ 8 := hR 13 1
  refine a_geti F inX2 hP 13 1 tc_13 rfl rfl (by decide) q157 (fun _ h9 => h9) (v := (u0.1 13 1)) rfl dX2_addPlace_4 ?_
  refine a_Vv F hml hl.1 hA hP hD hS (As := [.long p0, .int (0 : Int32), .int (u0.1 13 1)]) (x_X2_addName_13 l dC dI ad cA nF _ p0 (0 : Int32) (u0.1 13 1) hR (by decide) (by omega) (by simp only [ic_0]; omega) hK_N13) (cs_RX2_77 (d := 1) F.2.2.1 (by decide)) tc_13 rfl rfl rfl rfl (Nat.le_of_ble_eq_true rfl) dX2_addPlace_7 ⟨Nat.le_refl 0, Nat.le_refl 0⟩ (fun u2 H locs hq hP hD hS => ?_)
  obtain ⟨hR, hF2, hK_N13, hz2⟩ := hq
  have hF := hF.tr hF2 (by decide)
  have hC := vl_eq hC hz2.symm
  refine lv_aload_n F.1 F.2.1 dX2_addPlace_10 rfl (lv_at hl 0 rfl) ?_
  refine lv_dup F.1 F.2.1 dX2_addPlace_11 rfl ?_
  refine a_geti F inX2 hP 13 1 tc_13 rfl rfl (by decide) q157 (fun _ h9 => h9) (v := (u0.1 13 1)) (hF2 13 1 rfl) dX2_addPlace_12 ?_
  refine a_ic F (1 : Int32) dX2_addPlace_15 (by decide) ?_
  refine a_iaddX F dX2_addPlace_16 rfl ic_1 (by omega) (fun v3 hv3 yv3 => ?_)
  have hC := vl_eq hC yv3
  refine a_puti F inX2 tyX2 tyX2_ok nmX2 hP hD hS 13 1 tc_13 rfl rfl (by decide) q157 (fun _ h9 => h9) rfl (ty := .int) (tyX2_ok 1 (by decide)) rfl rfl dX2_addPlace_17 (fun H locs hP hD hS => ?_)
  have hR := hR.si (c := 13) (k := 1) (v := v3) (by omega : (0 : Int) ≤ v3.toInt ∧ v3.toInt ≤ 8)
  have hF := hF.si (c := 13) (k := 1) (v := v3) rfl
  have hK_N13 := sp_sgD sp_N13 hD hK_N13 (by decide)
  exact a_retv F hr hlocks hP hD hS dX2_addPlace_20 ⟨hR, hF, hK_N13, hRR.symm.trans hC⟩

def f_X2_addPromise_13_23 (u0 : ac_U) (p0 : Int64) : ac_U := (if (8 : Int) ≤ (u0.1 13 6).toInt then u0 else (vl (f_X2_addName_13 u0 p0 (3 : Int32) (u0.1 13 6)) (fun (u3 : ac_U) => (vl ((u0.1 13 6) * (8 : Int32)) (fun (v4 : Int32) => (vl ((u0.1 13 6) + (1 : Int32)) (fun (v5 : Int32) => (pI (cpI u3 23 17 (0 : Int32).toNatClampNeg v4.toNatClampNeg (8 : Int32).toNatClampNeg) 13 6 v5))))))))
set_option maxHeartbeats 600000 in
set_option maxRecDepth 100000 in
theorem x_X2_addPromise_13_23 (l : Launch) (dC : Nat → ClassId) (dI : Nat → Nat → Nat) (ad : Nat → Nat) (cA : Nat → ClassId) (nF : Nat) (u0 : ac_U) (p0 : Int64) (hR : ac_R rg u0) (hK_N13 : nmI 20 21 u0) : ac_Mv l yX2_addPromise (.code yX2_addPromise cX2_addPromise 4 none :: TB) 2 (dC, dI) vwCl (ac_ty cA) ad cA (TT nF) [.ref (ad 13), .long p0, .ref (ad 23)] u0 (fun (u : ac_U) => ac_R rg u ∧ ac_Fr [(13, some 6), (13, some 8), (17, none), (20, none), (21, none)] u0 u ∧ nmI 20 21 u ∧ f_X2_addPromise_13_23 u0 p0 = u) := by
  refine ac_Mv.of (cc := cX2_addPromise) (maxL := 4) (ret := none) (by decide) rfl (Nat.le_of_ble_eq_true rfl) ?_
  intro p e s m below meth c A ls F hml hr hlocks hA hP hD hS hl
  have F : ac_X p s m [.ref (ad 13), .long p0, .ref (ad 23)].toArray c cX2_addPromise RX2 TB (dC, dI) vwCl (ac_ty cA) := ⟨F.1, F.2.1, fun w h => F.2.2.1 w (List.mem_cons_of_mem _ h), F.2.2.2.1, F.2.2.2.2⟩
  have hl : lv_has ls 4 [(0, .ref (ad 13)), (1, .long p0), (3, .ref (ad 23))] := hl
  obtain ⟨RR, hRR⟩ : ∃ q, q = f_X2_addPromise_13_23 u0 p0 := ⟨_, rfl⟩
  have hF : ac_Fr [(13, some 6), (13, some 8), (17, none), (20, none), (21, none)] u0 u0 := ac_Fr.rf
  have hC : RR = f_X2_addPromise_13_23 u0 p0 := hRR
  unfold f_X2_addPromise_13_23 at hC
  refine lv_aload_n F.1 F.2.1 dX2_addPromise_0 rfl (lv_at hl 0 rfl) ?_
  have g1 : (0 : Int) ≤ (u0.1 13 6).toInt ∧ (u0.1 13 6).toInt ≤ 8 := hR 13 6
  refine a_geti F inX2 hP 13 6 tc_13 rfl rfl (by decide) q178 (fun _ h9 => h9) (v := (u0.1 13 6)) rfl dX2_addPromise_1 ?_
  refine a_bp F (8 : Int32) dX2_addPromise_4 (by decide) ?_
  refine b_ge F 47 dX2_addPromise_6 (by decide) rfl ic_8 (fun c2 => ?_) (fun c2 => ?_)
  · have hC := hC.trans (if_pos c2)
    exact a_retv F hr hlocks hP hD hS dX2_addPromise_47 ⟨hR, hF, hK_N13, hRR.symm.trans hC⟩
  · have hC := hC.trans (if_neg (by omega))
    refine lv_aload_n F.1 F.2.1 dX2_addPromise_9 rfl (lv_at hl 0 rfl) ?_
    refine lv_lload_n F.1 F.2.1 dX2_addPromise_10 rfl (lv_at hl 1 rfl) ?_
    refine a_ic F (3 : Int32) dX2_addPromise_11 (by decide) ?_
    refine lv_aload_n F.1 F.2.1 dX2_addPromise_12 rfl (lv_at hl 0 rfl) ?_
    refine a_geti F inX2 hP 13 6 tc_13 rfl rfl (by decide) q178 (fun _ h9 => h9) (v := (u0.1 13 6)) (rfl) dX2_addPromise_13 ?_
    refine a_Vv F hml hl.1 hA hP hD hS (As := [.long p0, .int (3 : Int32), .int (u0.1 13 6)]) (x_X2_addName_13 l dC dI ad cA nF _ p0 (3 : Int32) (u0.1 13 6) hR (by decide) (by omega) (by simp only [ic_3]; omega) hK_N13) (cs_RX2_77 (d := 1) F.2.2.1 (by decide)) tc_13 rfl rfl rfl rfl (Nat.le_of_ble_eq_true rfl) dX2_addPromise_16 ⟨Nat.le_refl 0, Nat.le_refl 0⟩ (fun u3 H locs hq hP hD hS => ?_)
    obtain ⟨hR, hF3, hK_N13, hz3⟩ := hq
    have hF := hF.tr hF3 (by decide)
    have hC := vl_eq hC hz3.symm
    refine lv_aload_n F.1 F.2.1 dX2_addPromise_19 rfl (lv_at hl 2 rfl) ?_
    refine a_ic F (0 : Int32) dX2_addPromise_20 (by decide) ?_
    refine lv_aload_n F.1 F.2.1 dX2_addPromise_21 rfl (lv_at hl 0 rfl) ?_
    refine a_getr F inX2 hP 13 12 tc_13 rfl rfl (by decide) q195 (fun _ h9 => h9) dX2_addPromise_22 ?_
    refine lv_aload_n F.1 F.2.1 dX2_addPromise_25 rfl (lv_at hl 0 rfl) ?_
    refine a_geti F inX2 hP 13 6 tc_13 rfl rfl (by decide) q178 (fun _ h9 => h9) (v := (u0.1 13 6)) (hF3 13 6 rfl) dX2_addPromise_26 ?_
    refine a_bp F (8 : Int32) dX2_addPromise_29 (by decide) ?_
    refine a_imulX F dX2_addPromise_31 rfl ic_8 (by omega) (fun v4 hv4 yv4 => ?_)
    have hC := vl_eq hC yv4
    refine a_bp F (8 : Int32) dX2_addPromise_32 (by decide) ?_
    refine a_cpyi F (hml.trans hl.1.symm) q706 q708 q707 q19 hP hD hS 23 17 tc_23 tc_17 rfl (by decide) (by omega) (by decide) (by simp only [ic_0, ic_8]; omega) (by simp only [ic_0, ic_8]; omega) (by decide) (by decide) dX2_addPromise_34 (fun H locs hP hD hS => ?_)
    have hR := hR.cp (c0 := 23) (c1 := 17) (sp := (0 : Int32).toNatClampNeg) (dp := v4.toNatClampNeg) (n := (8 : Int32).toNatClampNeg) (cp_terms (q := (u0.1 13 6).toInt) (by omega) (by omega))
    have hF := hF.cp (c0 := 23) (c1 := 17) (sp := (0 : Int32).toNatClampNeg) (dp := v4.toNatClampNeg) (n := (8 : Int32).toNatClampNeg) (fun _ => rfl)
    have hK_N13 := sp_sgD sp_N13 hD hK_N13 (by decide)
    refine lv_aload_n F.1 F.2.1 dX2_addPromise_37 rfl (lv_at hl 0 rfl) ?_
    refine lv_dup F.1 F.2.1 dX2_addPromise_38 rfl ?_
    refine a_geti F inX2 hP 13 6 tc_13 rfl rfl (by decide) q178 (fun _ h9 => h9) (v := (u0.1 13 6)) (hF3 13 6 rfl) dX2_addPromise_39 ?_
    refine a_ic F (1 : Int32) dX2_addPromise_42 (by decide) ?_
    refine a_iaddX F dX2_addPromise_43 rfl ic_1 (by omega) (fun v5 hv5 yv5 => ?_)
    have hC := vl_eq hC yv5
    refine a_puti F inX2 tyX2 tyX2_ok nmX2 hP hD hS 13 6 tc_13 rfl rfl (by decide) q178 (fun _ h9 => h9) rfl (ty := .int) (tyX2_ok 6 (by decide)) rfl rfl dX2_addPromise_44 (fun H locs hP hD hS => ?_)
    have hR := hR.si (c := 13) (k := 6) (v := v5) (by omega : (0 : Int) ≤ v5.toInt ∧ v5.toInt ≤ 8)
    have hF := hF.si (c := 13) (k := 6) (v := v5) rfl
    have hK_N13 := sp_sgD sp_N13 hD hK_N13 (by decide)
    exact a_retv F hr hlocks hP hD hS dX2_addPromise_47 ⟨hR, hF, hK_N13, hRR.symm.trans hC⟩

def f_X2_addVow_13 (u0 : ac_U) (p0 : Int32) (p1 : Int32) : ac_U := (vl (u0.1 18 p1.toNatClampNeg) (fun (v1 : Int32) => (vl ((1 : Int32) <<< (p0 &&& 31)) (fun (v2 : Int32) => (vl (v1 ||| v2) (fun (v3 : Int32) => (vl ((u0.1 13 7) + (1 : Int32)) (fun (v5 : Int32) => (pI (pI u0 18 p1.toNatClampNeg v3) 13 7 v5)))))))))
set_option maxHeartbeats 600000 in
set_option maxRecDepth 100000 in
theorem x_X2_addVow_13 (l : Launch) (dC : Nat → ClassId) (dI : Nat → Nat → Nat) (ad : Nat → Nat) (cA : Nat → ClassId) (nF : Nat) (u0 : ac_U) (p0 : Int32) (p1 : Int32) (hR : ac_R rg u0) (hp0 : (0 : Int) ≤ p0.toInt ∧ p0.toInt ≤ 7) (hp1 : (0 : Int) ≤ p1.toInt ∧ p1.toInt ≤ 7) (hf_13_7 : (0 : Int) ≤ (u0.1 13 7).toInt ∧ (u0.1 13 7).toInt ≤ 7) : ac_Mv l yX2_addVow (.code yX2_addVow cX2_addVow 3 none :: TB) 1 (dC, dI) vwCl (ac_ty cA) ad cA (TT nF) [.ref (ad 13), .int p0, .int p1] u0 (fun (u : ac_U) => ac_R rg u ∧ ac_Fr [(13, some 7), (18, none)] u0 u ∧ f_X2_addVow_13 u0 p0 p1 = u) := by
  refine ac_Mv.of (cc := cX2_addVow) (maxL := 3) (ret := none) (by decide) rfl (Nat.le_of_ble_eq_true rfl) ?_
  intro p e s m below meth c A ls F hml hr hlocks hA hP hD hS hl
  have F : ac_X p s m [.ref (ad 13), .int p0, .int p1].toArray c cX2_addVow RX2 TB (dC, dI) vwCl (ac_ty cA) := ⟨F.1, F.2.1, fun w h => F.2.2.1 w (List.mem_cons_of_mem _ h), F.2.2.2.1, F.2.2.2.2⟩
  have hl : lv_has ls 3 [(0, .ref (ad 13)), (1, .int p0), (2, .int p1)] := hl
  obtain ⟨RR, hRR⟩ : ∃ q, q = f_X2_addVow_13 u0 p0 p1 := ⟨_, rfl⟩
  have hF : ac_Fr [(13, some 7), (18, none)] u0 u0 := ac_Fr.rf
  have hC : RR = f_X2_addVow_13 u0 p0 p1 := hRR
  unfold f_X2_addVow_13 at hC
  refine lv_aload_n F.1 F.2.1 dX2_addVow_0 rfl (lv_at hl 0 rfl) ?_
  refine a_getr F inX2 hP 13 13 tc_13 rfl rfl (by decide) q196 (fun _ h9 => h9) dX2_addVow_1 ?_
  refine lv_iload_n F.1 F.2.1 dX2_addVow_4 rfl (lv_at hl 2 rfl) ?_
  refine lv_dup2_11 F.1 F.2.1 dX2_addVow_5 rfl rfl ?_
  refine a_iald F hP 18 tc_18 rfl (i_in rfl (by omega)) dX2_addVow_6 (fun v1 ev1 => ?_)
  have hC := vl_eq hC ev1.symm
  refine a_ic F (1 : Int32) dX2_addVow_7 (by decide) ?_
  refine lv_iload_n F.1 F.2.1 dX2_addVow_8 rfl (lv_at hl 1 rfl) ?_
  refine a_ishl1X F dX2_addVow_9 rfl (lo := 0) (hi := 7) (by omega) (by decide) (fun v2 hv2 yv2 => ?_)
  have hv2 : (1 : Int) ≤ v2.toInt ∧ v2.toInt ≤ 128 := hv2
  have hC := vl_eq hC yv2
  refine a_iorUX F dX2_addVow_10 (fun v3 yv3 => ?_)
  have hC := vl_eq hC yv3
  refine a_iast F hP hD hS 18 tc_18 rfl (i_in rfl (by omega)) dX2_addVow_11 (fun H locs hP hD hS => ?_)
  have hR := hR.si (c := 18) (k := p1.toNatClampNeg) (v := v3) ⟨i_lo _, i_hi _⟩
  have hF := hF.si (c := 18) (k := p1.toNatClampNeg) (v := v3) rfl
  refine lv_aload_n F.1 F.2.1 dX2_addVow_12 rfl (lv_at hl 0 rfl) ?_
  refine lv_dup F.1 F.2.1 dX2_addVow_13 rfl ?_
  have g4 : (0 : Int) ≤ (u0.1 13 7).toInt ∧ (u0.1 13 7).toInt ≤ 8 := hR 13 7
  refine a_geti F inX2 hP 13 7 tc_13 rfl rfl (by decide) q185 (fun _ h9 => h9) (v := (u0.1 13 7)) rfl dX2_addVow_14 ?_
  refine a_ic F (1 : Int32) dX2_addVow_17 (by decide) ?_
  refine a_iaddX F dX2_addVow_18 rfl ic_1 (by omega) (fun v5 hv5 yv5 => ?_)
  have hC := vl_eq hC yv5
  refine a_puti F inX2 tyX2 tyX2_ok nmX2 hP hD hS 13 7 tc_13 rfl rfl (by decide) q185 (fun _ h9 => h9) rfl (ty := .int) (tyX2_ok 7 (by decide)) rfl rfl dX2_addVow_19 (fun H locs hP hD hS => ?_)
  have hR := hR.si (c := 13) (k := 7) (v := v5) (by omega : (0 : Int) ≤ v5.toInt ∧ v5.toInt ≤ 8)
  have hF := hF.si (c := 13) (k := 7) (v := v5) rfl
  exact a_retv F hr hlocks hP hD hS dX2_addVow_22 ⟨hR, hF, hRR.symm.trans hC⟩

def f_X2_addWay_13 (u0 : ac_U) (p0 : Int32) (p1 : Int32) : ac_U := (vl (u0.1 14 p0.toNatClampNeg) (fun (v1 : Int32) => (vl ((1 : Int32) <<< (p1 &&& 31)) (fun (v2 : Int32) => (vl (v1 ||| v2) (fun (v3 : Int32) => (vl ((pI u0 14 p0.toNatClampNeg v3).1 14 p1.toNatClampNeg) (fun (v4 : Int32) => (vl ((1 : Int32) <<< (p0 &&& 31)) (fun (v5 : Int32) => (vl (v4 ||| v5) (fun (v6 : Int32) => (vl ((u0.1 13 2) + (1 : Int32)) (fun (v8 : Int32) => (pI (pI (pI u0 14 p0.toNatClampNeg v3) 14 p1.toNatClampNeg v6) 13 2 v8)))))))))))))))
set_option maxHeartbeats 600000 in
set_option maxRecDepth 100000 in
theorem x_X2_addWay_13 (l : Launch) (dC : Nat → ClassId) (dI : Nat → Nat → Nat) (ad : Nat → Nat) (cA : Nat → ClassId) (nF : Nat) (u0 : ac_U) (p0 : Int32) (p1 : Int32) (hR : ac_R rg u0) (hp0 : (0 : Int) ≤ p0.toInt ∧ p0.toInt ≤ 7) (hp1 : (0 : Int) ≤ p1.toInt ∧ p1.toInt ≤ 7) (hf_13_2 : (0 : Int) ≤ (u0.1 13 2).toInt ∧ (u0.1 13 2).toInt ≤ 11) : ac_Mv l yX2_addWay (.code yX2_addWay cX2_addWay 3 none :: TB) 1 (dC, dI) vwCl (ac_ty cA) ad cA (TT nF) [.ref (ad 13), .int p0, .int p1] u0 (fun (u : ac_U) => ac_R rg u ∧ ac_Fr [(13, some 2), (14, none)] u0 u ∧ f_X2_addWay_13 u0 p0 p1 = u) := by
  refine ac_Mv.of (cc := cX2_addWay) (maxL := 3) (ret := none) (by decide) rfl (Nat.le_of_ble_eq_true rfl) ?_
  intro p e s m below meth c A ls F hml hr hlocks hA hP hD hS hl
  have F : ac_X p s m [.ref (ad 13), .int p0, .int p1].toArray c cX2_addWay RX2 TB (dC, dI) vwCl (ac_ty cA) := ⟨F.1, F.2.1, fun w h => F.2.2.1 w (List.mem_cons_of_mem _ h), F.2.2.2.1, F.2.2.2.2⟩
  have hl : lv_has ls 3 [(0, .ref (ad 13)), (1, .int p0), (2, .int p1)] := hl
  obtain ⟨RR, hRR⟩ : ∃ q, q = f_X2_addWay_13 u0 p0 p1 := ⟨_, rfl⟩
  have hF : ac_Fr [(13, some 2), (14, none)] u0 u0 := ac_Fr.rf
  have hC : RR = f_X2_addWay_13 u0 p0 p1 := hRR
  unfold f_X2_addWay_13 at hC
  refine lv_aload_n F.1 F.2.1 dX2_addWay_0 rfl (lv_at hl 0 rfl) ?_
  refine a_getr F inX2 hP 13 9 tc_13 rfl rfl (by decide) q189 (fun _ h9 => h9) dX2_addWay_1 ?_
  refine lv_iload_n F.1 F.2.1 dX2_addWay_4 rfl (lv_at hl 1 rfl) ?_
  refine lv_dup2_11 F.1 F.2.1 dX2_addWay_5 rfl rfl ?_
  refine a_iald F hP 14 tc_14 rfl (i_in rfl (by omega)) dX2_addWay_6 (fun v1 ev1 => ?_)
  have hC := vl_eq hC ev1.symm
  refine a_ic F (1 : Int32) dX2_addWay_7 (by decide) ?_
  refine lv_iload_n F.1 F.2.1 dX2_addWay_8 rfl (lv_at hl 2 rfl) ?_
  refine a_ishl1X F dX2_addWay_9 rfl (lo := 0) (hi := 7) (by omega) (by decide) (fun v2 hv2 yv2 => ?_)
  have hv2 : (1 : Int) ≤ v2.toInt ∧ v2.toInt ≤ 128 := hv2
  have hC := vl_eq hC yv2
  refine a_iorUX F dX2_addWay_10 (fun v3 yv3 => ?_)
  have hC := vl_eq hC yv3
  refine a_iast F hP hD hS 14 tc_14 rfl (i_in rfl (by omega)) dX2_addWay_11 (fun H locs hP hD hS => ?_)
  have hR := hR.si (c := 14) (k := p0.toNatClampNeg) (v := v3) ⟨i_lo _, i_hi _⟩
  have hF := hF.si (c := 14) (k := p0.toNatClampNeg) (v := v3) rfl
  refine lv_aload_n F.1 F.2.1 dX2_addWay_12 rfl (lv_at hl 0 rfl) ?_
  refine a_getr F inX2 hP 13 9 tc_13 rfl rfl (by decide) q189 (fun _ h9 => h9) dX2_addWay_13 ?_
  refine lv_iload_n F.1 F.2.1 dX2_addWay_16 rfl (lv_at hl 2 rfl) ?_
  refine lv_dup2_11 F.1 F.2.1 dX2_addWay_17 rfl rfl ?_
  refine a_iald F hP 14 tc_14 rfl (i_in rfl (by omega)) dX2_addWay_18 (fun v4 ev4 => ?_)
  have hC := vl_eq hC ev4.symm
  refine a_ic F (1 : Int32) dX2_addWay_19 (by decide) ?_
  refine lv_iload_n F.1 F.2.1 dX2_addWay_20 rfl (lv_at hl 1 rfl) ?_
  refine a_ishl1X F dX2_addWay_21 rfl (lo := 0) (hi := 7) (by omega) (by decide) (fun v5 hv5 yv5 => ?_)
  have hv5 : (1 : Int) ≤ v5.toInt ∧ v5.toInt ≤ 128 := hv5
  have hC := vl_eq hC yv5
  refine a_iorUX F dX2_addWay_22 (fun v6 yv6 => ?_)
  have hC := vl_eq hC yv6
  refine a_iast F hP hD hS 14 tc_14 rfl (i_in rfl (by omega)) dX2_addWay_23 (fun H locs hP hD hS => ?_)
  have hR := hR.si (c := 14) (k := p1.toNatClampNeg) (v := v6) ⟨i_lo _, i_hi _⟩
  have hF := hF.si (c := 14) (k := p1.toNatClampNeg) (v := v6) rfl
  refine lv_aload_n F.1 F.2.1 dX2_addWay_24 rfl (lv_at hl 0 rfl) ?_
  refine lv_dup F.1 F.2.1 dX2_addWay_25 rfl ?_
  have g7 : (0 : Int) ≤ (u0.1 13 2).toInt ∧ (u0.1 13 2).toInt ≤ 12 := hR 13 2
  refine a_geti F inX2 hP 13 2 tc_13 rfl rfl (by decide) q162 (fun _ h9 => h9) (v := (u0.1 13 2)) rfl dX2_addWay_26 ?_
  refine a_ic F (1 : Int32) dX2_addWay_29 (by decide) ?_
  refine a_iaddX F dX2_addWay_30 rfl ic_1 (by omega) (fun v8 hv8 yv8 => ?_)
  have hC := vl_eq hC yv8
  refine a_puti F inX2 tyX2 tyX2_ok nmX2 hP hD hS 13 2 tc_13 rfl rfl (by decide) q162 (fun _ h9 => h9) rfl (ty := .int) (tyX2_ok 2 (by decide)) rfl rfl dX2_addWay_31 (fun H locs hP hD hS => ?_)
  have hR := hR.si (c := 13) (k := 2) (v := v8) (by omega : (0 : Int) ≤ v8.toInt ∧ v8.toInt ≤ 12)
  have hF := hF.si (c := 13) (k := 2) (v := v8) rfl
  exact a_retv F hr hlocks hP hD hS dX2_addWay_34 ⟨hR, hF, hRR.symm.trans hC⟩
def K_J7_fill_53178_14_5_b (B5 : ac_U → Int32 → Int32 → ac_U) (u0 : ac_U) (p1 : Int32) (u : ac_U) (x2 : Int32) (x3 : Int32) : ac_U := (if x3.toInt ≤ x2.toInt then u else (vl (x2 + Int32.ofInt (1)) (fun (v2 : Int32) => (B5 (pI u 14 x2.toNatClampNeg p1) v2 x3))))
def K_J7_fill_53178_14_5 (u0 : ac_U) (p1 : Int32) : Nat → ac_U → Int32 → Int32 → ac_U
  | 0 => fun u x2 x3 => u
  | n + 1 => fun u x2 x3 => K_J7_fill_53178_14_5_b (K_J7_fill_53178_14_5 u0 p1 n) u0 p1 u x2 x3
def f_J7_fill_53178_14 (u0 : ac_U) (p1 : Int32) : ac_U := (K_J7_fill_53178_14_5 u0 p1 10 u0 (0 : Int32) (8 : Int32))
set_option maxHeartbeats 600000 in
set_option maxRecDepth 100000 in
theorem x_J7_fill_53178_14 (l : Launch) (dC : Nat → ClassId) (dI : Nat → Nat → Nat) (ad : Nat → Nat) (cA : Nat → ClassId) (nF : Nat) (u0 : ac_U) (p1 : Int32) (hR : ac_R rg u0) (hp1 : (0 : Int) ≤ p1.toInt ∧ p1.toInt ≤ 0) : ac_Mv l yJ7_fill_53178 (.code yJ7_fill_53178 cJ7_fill_53178 4 none :: TB) 1 (dC, dI) vwCl (ac_ty cA) ad cA (TT nF) [.ref (ad 14), .int p1] u0 (fun (u : ac_U) => ac_R rg u ∧ ac_Fr [(14, none)] u0 u ∧ f_J7_fill_53178_14 u0 p1 = u) := by
  refine ac_Mv.of (cc := cJ7_fill_53178) (maxL := 4) (ret := none) (by decide) rfl (Nat.le_of_ble_eq_true rfl) ?_
  intro p e s m below meth c A ls F hml hr hlocks hA hP hD hS hl
  have F : ac_X p s m [.ref (ad 14), .int p1].toArray c cJ7_fill_53178 RJ7 TB (dC, dI) vwCl (ac_ty cA) := ⟨F.1, F.2.1, fun w h => F.2.2.1 w (List.mem_cons_of_mem _ h), F.2.2.2.1, F.2.2.2.2⟩
  have hl : lv_has ls 4 [(0, .ref (ad 14)), (1, .int p1)] := hl
  obtain ⟨RR, hRR⟩ : ∃ q, q = f_J7_fill_53178_14 u0 p1 := ⟨_, rfl⟩
  have hF : ac_Fr [(14, none)] u0 u0 := ac_Fr.rf
  have L5 : ∀ (n5 : Nat) (x2 : Int32) (x3 : Int32) (u : ac_U) (H : Heap) (locs : List Loc) (ls : Array Slot), ac_R rg u → ac_Fr [(14, none)] u0 u → 8 - x2.toInt < (n5 : Int) → (0 : Int) ≤ x2.toInt ∧ x2.toInt ≤ 8 → (8 : Int) ≤ x3.toInt ∧ x3.toInt ≤ 8 → RR = (K_J7_fill_53178_14_5 u0 p1 n5 u x2 x3) → va_P (dC, dI) vwCl (ac_w ad cA (TT nF) u) H → va_D A (ac_w ad cA (TT nF) u) → va_S A s.heap H locs → lv_has ls 4 [(0, .ref (ad 14)), (1, .int p1), (2, .int x2), (3, .int x3)] → W p l e (ac_rm 1) s m [.ref (ad 14), .int p1].toArray below meth c H locs 0 0 (MQ below (va_Qv (fun (u : ac_U) => ac_R rg u ∧ ac_Fr [(14, none)] u0 u ∧ f_J7_fill_53178_14 u0 p1 = u) (ac_B (dC, dI) vwCl (ac_ty cA) ad cA (TT nF) A) A) [.ref (ad 14), .int p1].toArray s 0 0 A) (F0 m 5 ls []) := by
    intro n5
    induction n5 with
    | zero => intro x2 x3 u H locs ls hR hF hn5 f0 f1 hC hP hD hS hl; exfalso; omega
    | succ n5 ih5 =>
      intro x2 x3 u H locs ls hR hF hn5 f0 f1 hC hP hD hS hl
      have hC : RR = K_J7_fill_53178_14_5_b (K_J7_fill_53178_14_5 u0 p1 n5) u0 p1 u x2 x3 := hC
      unfold K_J7_fill_53178_14_5_b at hC
      refine lv_iload_n F.1 F.2.1 dJ7_fill_53178_5 rfl (lv_at hl 2 rfl) ?_
      refine lv_iload_n F.1 F.2.1 dJ7_fill_53178_6 rfl (lv_at hl 3 rfl) ?_
      refine b_ge F 20 dJ7_fill_53178_7 (by decide) rfl rfl (fun c1 => ?_) (fun c1 => ?_)
      · have hC := hC.trans (if_pos c1)
        exact a_retv F hr hlocks hP hD hS dJ7_fill_53178_20 ⟨hR, hF, hRR.symm.trans hC⟩
      · have hC := hC.trans (if_neg (by omega))
        refine lv_aload_n F.1 F.2.1 dJ7_fill_53178_10 rfl (lv_at hl 0 rfl) ?_
        refine lv_iload_n F.1 F.2.1 dJ7_fill_53178_11 rfl (lv_at hl 2 rfl) ?_
        refine lv_iload_n F.1 F.2.1 dJ7_fill_53178_12 rfl (lv_at hl 1 rfl) ?_
        refine a_iast F hP hD hS 14 tc_14 rfl (i_in rfl (by omega)) dJ7_fill_53178_13 (fun H locs hP hD hS => ?_)
        have hR := hR.si (c := 14) (k := x2.toNatClampNeg) (v := p1) ⟨i_lo _, i_hi _⟩
        have hF := hF.si (c := 14) (k := x2.toNatClampNeg) (v := p1) rfl
        refine a_iincX F (k := 2) (fun v2 => [(2, .int v2), (0, .ref (ad 14)), (1, .int p1), (3, .int x3)]) dJ7_fill_53178_14 hl rfl rfl (by decide) (by omega) (by decide) (fun _ => rfl) (fun v2 ls hv2 yv2 hl => ?_)
        have hC := vl_eq hC yv2
        refine lv_goto (tgt := 5) F.1 F.2.1 dJ7_fill_53178_17 (by decide) ?_
        exact ih5 v2 x3 _ _ _ _ hR hF (by omega) (by omega) (by omega) hC hP hD hS (lv_sub hl [1, 2, 0, 3] rfl)
  have hC : RR = f_J7_fill_53178_14 u0 p1 := hRR
  unfold f_J7_fill_53178_14 at hC
  refine a_ic F (0 : Int32) dJ7_fill_53178_0 (by decide) ?_
  refine lv_istore_n (lv' := [(2, .int (0 : Int32)), (0, .ref (ad 14)), (1, .int p1)]) F.1 F.2.1 dJ7_fill_53178_1 rfl hl (by decide) rfl (fun ls hl => ?_)
  refine lv_aload_n F.1 F.2.1 dJ7_fill_53178_2 rfl (lv_at hl 1 rfl) ?_
  refine va_alen (v := (8 : Int32)) F.1 F.2.1 F.2.2.2.2 hP 14 0 (ac_at tc_14) rfl rfl dJ7_fill_53178_3 ?_
  refine lv_istore_n (lv' := [(3, .int (8 : Int32)), (2, .int (0 : Int32)), (0, .ref (ad 14)), (1, .int p1)]) F.1 F.2.1 dJ7_fill_53178_4 rfl hl (by decide) rfl (fun ls hl => ?_)
  exact L5 10 (0 : Int32) (8 : Int32) _ _ _ _ hR hF (by decide) (by decide) (by decide) hC hP hD hS (lv_sub hl [2, 3, 1, 0] rfl)
def K_J7_fill_53178_18_5_b (B5 : ac_U → Int32 → Int32 → ac_U) (u0 : ac_U) (p1 : Int32) (u : ac_U) (x2 : Int32) (x3 : Int32) : ac_U := (if x3.toInt ≤ x2.toInt then u else (vl (x2 + Int32.ofInt (1)) (fun (v2 : Int32) => (B5 (pI u 18 x2.toNatClampNeg p1) v2 x3))))
def K_J7_fill_53178_18_5 (u0 : ac_U) (p1 : Int32) : Nat → ac_U → Int32 → Int32 → ac_U
  | 0 => fun u x2 x3 => u
  | n + 1 => fun u x2 x3 => K_J7_fill_53178_18_5_b (K_J7_fill_53178_18_5 u0 p1 n) u0 p1 u x2 x3
def f_J7_fill_53178_18 (u0 : ac_U) (p1 : Int32) : ac_U := (K_J7_fill_53178_18_5 u0 p1 10 u0 (0 : Int32) (8 : Int32))
set_option maxHeartbeats 600000 in
set_option maxRecDepth 100000 in
theorem x_J7_fill_53178_18 (l : Launch) (dC : Nat → ClassId) (dI : Nat → Nat → Nat) (ad : Nat → Nat) (cA : Nat → ClassId) (nF : Nat) (u0 : ac_U) (p1 : Int32) (hR : ac_R rg u0) (hp1 : (0 : Int) ≤ p1.toInt ∧ p1.toInt ≤ 0) : ac_Mv l yJ7_fill_53178 (.code yJ7_fill_53178 cJ7_fill_53178 4 none :: TB) 1 (dC, dI) vwCl (ac_ty cA) ad cA (TT nF) [.ref (ad 18), .int p1] u0 (fun (u : ac_U) => ac_R rg u ∧ ac_Fr [(18, none)] u0 u ∧ f_J7_fill_53178_18 u0 p1 = u) := by
  refine ac_Mv.of (cc := cJ7_fill_53178) (maxL := 4) (ret := none) (by decide) rfl (Nat.le_of_ble_eq_true rfl) ?_
  intro p e s m below meth c A ls F hml hr hlocks hA hP hD hS hl
  have F : ac_X p s m [.ref (ad 18), .int p1].toArray c cJ7_fill_53178 RJ7 TB (dC, dI) vwCl (ac_ty cA) := ⟨F.1, F.2.1, fun w h => F.2.2.1 w (List.mem_cons_of_mem _ h), F.2.2.2.1, F.2.2.2.2⟩
  have hl : lv_has ls 4 [(0, .ref (ad 18)), (1, .int p1)] := hl
  obtain ⟨RR, hRR⟩ : ∃ q, q = f_J7_fill_53178_18 u0 p1 := ⟨_, rfl⟩
  have hF : ac_Fr [(18, none)] u0 u0 := ac_Fr.rf
  have L5 : ∀ (n5 : Nat) (x2 : Int32) (x3 : Int32) (u : ac_U) (H : Heap) (locs : List Loc) (ls : Array Slot), ac_R rg u → ac_Fr [(18, none)] u0 u → 8 - x2.toInt < (n5 : Int) → (0 : Int) ≤ x2.toInt ∧ x2.toInt ≤ 8 → (8 : Int) ≤ x3.toInt ∧ x3.toInt ≤ 8 → RR = (K_J7_fill_53178_18_5 u0 p1 n5 u x2 x3) → va_P (dC, dI) vwCl (ac_w ad cA (TT nF) u) H → va_D A (ac_w ad cA (TT nF) u) → va_S A s.heap H locs → lv_has ls 4 [(0, .ref (ad 18)), (1, .int p1), (2, .int x2), (3, .int x3)] → W p l e (ac_rm 1) s m [.ref (ad 18), .int p1].toArray below meth c H locs 0 0 (MQ below (va_Qv (fun (u : ac_U) => ac_R rg u ∧ ac_Fr [(18, none)] u0 u ∧ f_J7_fill_53178_18 u0 p1 = u) (ac_B (dC, dI) vwCl (ac_ty cA) ad cA (TT nF) A) A) [.ref (ad 18), .int p1].toArray s 0 0 A) (F0 m 5 ls []) := by
    intro n5
    induction n5 with
    | zero => intro x2 x3 u H locs ls hR hF hn5 f0 f1 hC hP hD hS hl; exfalso; omega
    | succ n5 ih5 =>
      intro x2 x3 u H locs ls hR hF hn5 f0 f1 hC hP hD hS hl
      have hC : RR = K_J7_fill_53178_18_5_b (K_J7_fill_53178_18_5 u0 p1 n5) u0 p1 u x2 x3 := hC
      unfold K_J7_fill_53178_18_5_b at hC
      refine lv_iload_n F.1 F.2.1 dJ7_fill_53178_5 rfl (lv_at hl 2 rfl) ?_
      refine lv_iload_n F.1 F.2.1 dJ7_fill_53178_6 rfl (lv_at hl 3 rfl) ?_
      refine b_ge F 20 dJ7_fill_53178_7 (by decide) rfl rfl (fun c1 => ?_) (fun c1 => ?_)
      · have hC := hC.trans (if_pos c1)
        exact a_retv F hr hlocks hP hD hS dJ7_fill_53178_20 ⟨hR, hF, hRR.symm.trans hC⟩
      · have hC := hC.trans (if_neg (by omega))
        refine lv_aload_n F.1 F.2.1 dJ7_fill_53178_10 rfl (lv_at hl 0 rfl) ?_
        refine lv_iload_n F.1 F.2.1 dJ7_fill_53178_11 rfl (lv_at hl 2 rfl) ?_
        refine lv_iload_n F.1 F.2.1 dJ7_fill_53178_12 rfl (lv_at hl 1 rfl) ?_
        refine a_iast F hP hD hS 18 tc_18 rfl (i_in rfl (by omega)) dJ7_fill_53178_13 (fun H locs hP hD hS => ?_)
        have hR := hR.si (c := 18) (k := x2.toNatClampNeg) (v := p1) ⟨i_lo _, i_hi _⟩
        have hF := hF.si (c := 18) (k := x2.toNatClampNeg) (v := p1) rfl
        refine a_iincX F (k := 2) (fun v2 => [(2, .int v2), (0, .ref (ad 18)), (1, .int p1), (3, .int x3)]) dJ7_fill_53178_14 hl rfl rfl (by decide) (by omega) (by decide) (fun _ => rfl) (fun v2 ls hv2 yv2 hl => ?_)
        have hC := vl_eq hC yv2
        refine lv_goto (tgt := 5) F.1 F.2.1 dJ7_fill_53178_17 (by decide) ?_
        exact ih5 v2 x3 _ _ _ _ hR hF (by omega) (by omega) (by omega) hC hP hD hS (lv_sub hl [1, 2, 0, 3] rfl)
  have hC : RR = f_J7_fill_53178_18 u0 p1 := hRR
  unfold f_J7_fill_53178_18 at hC
  refine a_ic F (0 : Int32) dJ7_fill_53178_0 (by decide) ?_
  refine lv_istore_n (lv' := [(2, .int (0 : Int32)), (0, .ref (ad 18)), (1, .int p1)]) F.1 F.2.1 dJ7_fill_53178_1 rfl hl (by decide) rfl (fun ls hl => ?_)
  refine lv_aload_n F.1 F.2.1 dJ7_fill_53178_2 rfl (lv_at hl 1 rfl) ?_
  refine va_alen (v := (8 : Int32)) F.1 F.2.1 F.2.2.2.2 hP 18 0 (ac_at tc_18) rfl rfl dJ7_fill_53178_3 ?_
  refine lv_istore_n (lv' := [(3, .int (8 : Int32)), (2, .int (0 : Int32)), (0, .ref (ad 18)), (1, .int p1)]) F.1 F.2.1 dJ7_fill_53178_4 rfl hl (by decide) rfl (fun ls hl => ?_)
  exact L5 10 (0 : Int32) (8 : Int32) _ _ _ _ hR hF (by decide) (by decide) (by decide) hC hP hD hS (lv_sub hl [2, 3, 1, 0] rfl)

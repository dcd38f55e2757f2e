
def f_X6_whyNotGo_24 (u0 : ac_U) (p0 : Int32) (p1 : Int32) : Int32 := (vl (f_X6_isBusy_24 u0 p0) (fun (r1 : Int32) => (if r1.toInt = 0 then (vl ((3 : Int32) + p0) (fun (v3 : Int32) => (vl (u0.1 25 v3.toNatClampNeg) (fun (v4 : Int32) => (vl (f_X2_isNear_4 u0 v4 p1) (fun (r5 : Int32) => (if r5.toInt ≠ 0 then (vl (f_X6_isOver_24 u0) (fun (r7 : Int32) => (if r7.toInt = 0 then (0 : Int32) else (3 : Int32)))) else (2 : Int32)))))))) else (1 : Int32))))
set_option maxHeartbeats 600000 in
set_option maxRecDepth 100000 in
theorem x_X6_whyNotGo_24 (l : Launch) (dC : Nat → ClassId) (dI : Nat → Nat → Nat) (ad : Nat → Nat) (cA : Nat → ClassId) (nF : Nat) (u0 : ac_U) (p0 : Int32) (p1 : Int32) (hR : ac_R rg u0) (hp0 : (0 : Int) ≤ p0.toInt ∧ p0.toInt ≤ 3) (hp1 : (0 : Int) ≤ p1.toInt ∧ p1.toInt ≤ 7) : ac_Mi l yX6_whyNotGo (.code yX6_whyNotGo cX6_whyNotGo 3 (some .int) :: TB) 3 (dC, dI) vwCl (ac_ty cA) ad cA (TT nF) [.ref (ad 24), .int p0, .int p1] u0 (fun (r : Int32) (u : ac_U) => u = u0 ∧ ((0 : Int) ≤ r.toInt ∧ r.toInt ≤ 3) ∧ f_X6_whyNotGo_24 u0 p0 p1 = r) := by
  refine ac_Mi.of (cc := cX6_whyNotGo) (maxL := 3) (ret := (some .int)) (by decide) rfl (Nat.le_of_ble_eq_true rfl) ?_
  intro p e s m below meth c A ls F hml hr hlocks hA hP hD hS hl
  have F : ac_X p s m [.ref (ad 24), .int p0, .int p1].toArray c cX6_whyNotGo RX6 TB (dC, dI) vwCl (ac_ty cA) := ⟨F.1, F.2.1, fun w h => F.2.2.1 w (List.mem_cons_of_mem _ h), F.2.2.2.1, F.2.2.2.2⟩
  have hl : lv_has ls 3 [(0, .ref (ad 24)), (1, .int p0), (2, .int p1)] := hl
  obtain ⟨RR, hRR⟩ : ∃ q, q = f_X6_whyNotGo_24 u0 p0 p1 := ⟨_, rfl⟩
  have hC : RR = f_X6_whyNotGo_24 u0 p0 p1 := hRR
  unfold f_X6_whyNotGo_24 at hC
  refine lv_aload_n F.1 F.2.1 dX6_whyNotGo_0 rfl (lv_at hl 0 rfl) ?_
  refine lv_iload_n F.1 F.2.1 dX6_whyNotGo_1 rfl (lv_at hl 1 rfl) ?_
  refine a_Vi F hml hl.1 hA hP hD hS (As := [.int p0]) (x_X6_isBusy_24 l dC dI ad cA nF _ p0 hR (by omega)) (cs_RX6_68 (d := 1) F.2.2.1 (by decide)) tc_24 rfl rfl rfl rfl (Nat.le_of_ble_eq_true rfl) dX6_whyNotGo_2 ⟨Nat.le_refl 0, Nat.le_refl 0⟩ (fun r1 uN1 H locs hq hP hD hS => ?_)
  obtain ⟨hu1, gr1, hz1⟩ := hq
  rw [hu1] at hP hD
  have hC := vl_eq hC hz1.symm
  refine z_eq F 10 dX6_whyNotGo_5 (by decide) rfl (fun c2 => ?_) (fun c2 => ?_)
  · have hC := hC.trans (if_pos c2)
    refine lv_aload_n F.1 F.2.1 dX6_whyNotGo_10 rfl (lv_at hl 0 rfl) ?_
    refine a_getr F inX6 hP 24 0 tc_24 rfl rfl (by decide) q271 (fun _ h9 => h9) dX6_whyNotGo_11 ?_
    refine lv_aload_n F.1 F.2.1 dX6_whyNotGo_14 rfl (lv_at hl 0 rfl) ?_
    refine a_getr F inX6 hP 24 1 tc_24 rfl rfl (by decide) q272 (fun _ h9 => h9) dX6_whyNotGo_15 ?_
    refine a_ic F (3 : Int32) dX6_whyNotGo_18 (by decide) ?_
    refine lv_iload_n F.1 F.2.1 dX6_whyNotGo_19 rfl (lv_at hl 1 rfl) ?_
    refine a_iaddX F dX6_whyNotGo_20 ic_3 rfl (by omega) (fun v3 hv3 yv3 => ?_)
    have hC := vl_eq hC yv3
    refine a_iald F hP 25 tc_25 rfl (i_in rfl (by omega)) dX6_whyNotGo_21 (fun v4 ev4 => ?_)
    have hC := vl_eq hC ev4.symm
    have hv4 : (0 : Int) ≤ v4.toInt ∧ v4.toInt ≤ 7 := rg_seg_25_3_6 hR ev4 (by omega)
    refine lv_iload_n F.1 F.2.1 dX6_whyNotGo_22 rfl (lv_at hl 2 rfl) ?_
    refine a_Vi F hml hl.1 hA hP hD hS (As := [.int v4, .int p1]) (x_X2_isNear_4 l dC dI ad cA nF _ v4 p1 hR (by omega)) (cs_RX6_72 (d := 1) F.2.2.1 (by decide)) tc_4 rfl rfl rfl rfl (Nat.le_of_ble_eq_true rfl) dX6_whyNotGo_23 ⟨Nat.le_refl 0, Nat.le_refl 0⟩ (fun r5 uN5 H locs hq hP hD hS => ?_)
    obtain ⟨hu5, gr5, hz5⟩ := hq
    rw [hu5] at hP hD
    have hC := vl_eq hC hz5.symm
    refine z_ne F 31 dX6_whyNotGo_26 (by decide) rfl (fun c6 => ?_) (fun c6 => ?_)
    · have hC := hC.trans (if_pos c6)
      refine lv_aload_n F.1 F.2.1 dX6_whyNotGo_31 rfl (lv_at hl 0 rfl) ?_
      refine a_Vi F hml hl.1 hA hP hD hS (As := []) (x_X6_isOver_24 l dC dI ad cA nF _  hR) (cs_RX6_76 (d := 2) F.2.2.1 (by decide)) tc_24 rfl rfl rfl rfl (Nat.le_of_ble_eq_true rfl) dX6_whyNotGo_32 ⟨Nat.le_refl 0, Nat.le_refl 0⟩ (fun r7 uN7 H locs hq hP hD hS => ?_)
      obtain ⟨hu7, gr7, xr7, hz7⟩ := hq
      rw [hu7] at hP hD
      have g8 : (0 : Int) ≤ (u0.1 25 0).toInt ∧ (u0.1 25 0).toInt ≤ 480 := hR 25 0
      have g9 : (4 : Int) ≤ (u0.1 4 0).toInt ∧ (u0.1 4 0).toInt ≤ 24 := hR 4 0
      have xr7 : r7.toInt = 0 → (u0.1 25 0).toInt < 20 * (u0.1 4 0).toInt := xr7
      have hC := vl_eq hC hz7.symm
      refine z_eq F 42 dX6_whyNotGo_35 (by decide) rfl (fun c10 => ?_) (fun c10 => ?_)
      · have hC := hC.trans (if_pos c10)
        refine a_ic F (0 : Int32) dX6_whyNotGo_42 (by decide) ?_
        exact a_reti F hr hlocks hP hD hS dX6_whyNotGo_43 ⟨rfl, (by decide), hRR.symm.trans hC⟩
      · have hC := hC.trans (if_neg (by omega))
        refine a_ic F (3 : Int32) dX6_whyNotGo_38 (by decide) ?_
        refine lv_goto (tgt := 43) F.1 F.2.1 dX6_whyNotGo_39 (by decide) ?_
        exact a_reti F hr hlocks hP hD hS dX6_whyNotGo_43 ⟨rfl, (by decide), hRR.symm.trans hC⟩
    · have hC := hC.trans (if_neg (by omega))
      refine a_ic F (2 : Int32) dX6_whyNotGo_29 (by decide) ?_
      exact a_reti F hr hlocks hP hD hS dX6_whyNotGo_30 ⟨rfl, (by decide), hRR.symm.trans hC⟩
  · have hC := hC.trans (if_neg (by omega))
    refine a_ic F (1 : Int32) dX6_whyNotGo_8 (by decide) ?_
    exact a_reti F hr hlocks hP hD hS dX6_whyNotGo_9 ⟨rfl, (by decide), hRR.symm.trans hC⟩
def K_X6_tryGo_24_45 (u0 : ac_U) (p0 : Int32) (p1 : Int32) (u : ac_U) (x3 : Int32) : ac_U × Int32 := (u, x3)
def f_X6_tryGo_24 (u0 : ac_U) (p0 : Int32) (p1 : Int32) : ac_U × Int32 := (vl (f_X6_whyNotGo_24 u0 p0 p1) (fun (r1 : Int32) => (if r1.toInt ≠ 0 then (K_X6_tryGo_24_45 u0 p0 p1 u0 r1) else (vl ((1 : Int32) <<< (p0 &&& 31)) (fun (v3 : Int32) => (vl ((u0.1 25 1) ||| v3) (fun (v4 : Int32) => (vl ((3 : Int32) + p0) (fun (v5 : Int32) => (vl ((11 : Int32) + p0) (fun (v6 : Int32) => (vl ((pI (pI u0 25 1 v4) 25 v5.toNatClampNeg p1).1 25 v6.toNatClampNeg) (fun (v7 : Int32) => (vl (v7 + (1 : Int32)) (fun (v8 : Int32) => (K_X6_tryGo_24_45 u0 p0 p1 (pI (pI (pI u0 25 1 v4) 25 v5.toNatClampNeg p1) 25 v6.toNatClampNeg v8) r1))))))))))))))))
set_option maxHeartbeats 600000 in
set_option maxRecDepth 100000 in
theorem x_X6_tryGo_24 (l : Launch) (dC : Nat → ClassId) (dI : Nat → Nat → Nat) (ad : Nat → Nat) (cA : Nat → ClassId) (nF : Nat) (u0 : ac_U) (p0 : Int32) (p1 : Int32) (hR : ac_R rg u0) (hp0 : (0 : Int) ≤ p0.toInt ∧ p0.toInt ≤ 3) (hp1 : (0 : Int) ≤ p1.toInt ∧ p1.toInt ≤ 7) : ac_Mi l yX6_tryGo (.code yX6_tryGo cX6_tryGo 4 (some .int) :: TB) 4 (dC, dI) vwCl (ac_ty cA) ad cA (TT nF) [.ref (ad 24), .int p0, .int p1] u0 (fun (r : Int32) (u : ac_U) => ac_R rg u ∧ ac_Fr [(25, none)] u0 u ∧ ((0 : Int) ≤ r.toInt ∧ r.toInt ≤ 3) ∧ f_X6_tryGo_24 u0 p0 p1 = (u, r)) := by
  refine ac_Mi.of (cc := cX6_tryGo) (maxL := 4) (ret := (some .int)) (by decide) rfl (Nat.le_of_ble_eq_true rfl) ?_
  intro p e s m below meth c A ls F hml hr hlocks hA hP hD hS hl
  have F : ac_X p s m [.ref (ad 24), .int p0, .int p1].toArray c cX6_tryGo RX6 TB (dC, dI) vwCl (ac_ty cA) := ⟨F.1, F.2.1, fun w h => F.2.2.1 w (List.mem_cons_of_mem _ h), F.2.2.2.1, F.2.2.2.2⟩
  have hl : lv_has ls 4 [(0, .ref (ad 24)), (1, .int p0), (2, .int p1)] := hl
  obtain ⟨RR, hRR⟩ : ∃ q, q = f_X6_tryGo_24 u0 p0 p1 := ⟨_, rfl⟩
  have hF : ac_Fr [(25, none)] u0 u0 := ac_Fr.rf
  have L45 : ∀ (x3 : Int32) (u : ac_U) (H : Heap) (locs : List Loc) (ls : Array Slot), ac_R rg u → ac_Fr [(25, none)] u0 u → (0 : Int) ≤ x3.toInt ∧ x3.toInt ≤ 3 → RR = (K_X6_tryGo_24_45 u0 p0 p1 u x3) → va_P (dC, dI) vwCl (ac_w ad cA (TT nF) u) H → va_D A (ac_w ad cA (TT nF) u) → va_S A s.heap H locs → lv_has ls 4 [(3, .int x3)] → W p l e (ac_rm 4) s m [.ref (ad 24), .int p0, .int p1].toArray below meth c H locs 0 0 (MQ below (va_Qi (fun (r : Int32) (u : ac_U) => ac_R rg u ∧ ac_Fr [(25, none)] u0 u ∧ ((0 : Int) ≤ r.toInt ∧ r.toInt ≤ 3) ∧ f_X6_tryGo_24 u0 p0 p1 = (u, r)) (ac_B (dC, dI) vwCl (ac_ty cA) ad cA (TT nF) A) A) [.ref (ad 24), .int p0, .int p1].toArray s 0 0 A) (F0 m 45 ls []) := by
    intro x3 u H locs ls hR hF f0 hC hP hD hS hl
    unfold K_X6_tryGo_24_45 at hC
    refine lv_iload_n F.1 F.2.1 dX6_tryGo_45 rfl (lv_at hl 0 rfl) ?_
    exact a_reti F hr hlocks hP hD hS dX6_tryGo_46 ⟨hR, hF, (by omega : (0 : Int) ≤ x3.toInt ∧ x3.toInt ≤ 3), hRR.symm.trans hC⟩
  have hC : RR = f_X6_tryGo_24 u0 p0 p1 := hRR
  unfold f_X6_tryGo_24 at hC
  refine lv_aload_n F.1 F.2.1 dX6_tryGo_0 rfl (lv_at hl 0 rfl) ?_
  refine lv_iload_n F.1 F.2.1 dX6_tryGo_1 rfl (lv_at hl 1 rfl) ?_
  refine lv_iload_n F.1 F.2.1 dX6_tryGo_2 rfl (lv_at hl 2 rfl) ?_
  refine a_Vi F hml hl.1 hA hP hD hS (As := [.int p0, .int p1]) (x_X6_whyNotGo_24 l dC dI ad cA nF _ p0 p1 hR (by omega) (by omega)) (cs_RX6_83 (d := 3) F.2.2.1 (by decide)) tc_24 rfl rfl rfl rfl (Nat.le_of_ble_eq_true rfl) dX6_tryGo_3 ⟨Nat.le_refl 0, Nat.le_refl 0⟩ (fun r1 uN1 H locs hq hP hD hS => ?_)
  obtain ⟨hu1, gr1, hz1⟩ := hq
  rw [hu1] at hP hD
  have hC := vl_eq hC hz1.symm
  refine lv_istore_n (lv' := [(3, .int r1), (0, .ref (ad 24)), (1, .int p0), (2, .int p1)]) F.1 F.2.1 dX6_tryGo_6 rfl hl (by decide) rfl (fun ls hl => ?_)
  refine lv_iload_n F.1 F.2.1 dX6_tryGo_7 rfl (lv_at hl 0 rfl) ?_
  refine z_ne F 45 dX6_tryGo_8 (by decide) rfl (fun c2 => ?_) (fun c2 => ?_)
  · have hC := hC.trans (if_pos c2)
    exact L45 r1 _ _ _ _ hR hF (by omega) hC hP hD hS (lv_sub hl [0] rfl)
  · have hC := hC.trans (if_neg (by omega))
    refine lv_aload_n F.1 F.2.1 dX6_tryGo_11 rfl (lv_at hl 1 rfl) ?_
    refine a_getr F inX6 hP 24 1 tc_24 rfl rfl (by decide) q272 (fun _ h9 => h9) dX6_tryGo_12 ?_
    refine a_ic F (1 : Int32) dX6_tryGo_15 (by decide) ?_
    refine lv_dup2_11 F.1 F.2.1 dX6_tryGo_16 rfl rfl ?_
    refine a_ialdK F hP 25 1 tc_25 rfl rfl (i_in ic_1 (by omega)) (v := (u0.1 25 1)) rfl dX6_tryGo_17 ?_
    refine a_ic F (1 : Int32) dX6_tryGo_18 (by decide) ?_
    refine lv_iload_n F.1 F.2.1 dX6_tryGo_19 rfl (lv_at hl 2 rfl) ?_
    refine a_ishl1X F dX6_tryGo_20 rfl (lo := 0) (hi := 3) (by omega) (by decide) (fun v3 hv3 yv3 => ?_)
    have hv3 : (1 : Int) ≤ v3.toInt ∧ v3.toInt ≤ 8 := hv3
    have hC := vl_eq hC yv3
    refine a_iorUX F dX6_tryGo_21 (fun v4 yv4 => ?_)
    have hC := vl_eq hC yv4
    refine a_iastK F hP hD hS 25 1 tc_25 rfl rfl (i_in ic_1 (by omega)) dX6_tryGo_22 (fun H locs hP hD hS => ?_)
    have hR := hR.si (c := 25) (k := 1) (v := v4) ⟨i_lo _, i_hi _⟩
    have hF := hF.si (c := 25) (k := 1) (v := v4) rfl
    refine lv_aload_n F.1 F.2.1 dX6_tryGo_23 rfl (lv_at hl 1 rfl) ?_
    refine a_getr F inX6 hP 24 1 tc_24 rfl rfl (by decide) q272 (fun _ h9 => h9) dX6_tryGo_24 ?_
    refine a_ic F (3 : Int32) dX6_tryGo_27 (by decide) ?_
    refine lv_iload_n F.1 F.2.1 dX6_tryGo_28 rfl (lv_at hl 2 rfl) ?_
    refine a_iaddX F dX6_tryGo_29 ic_3 rfl (by omega) (fun v5 hv5 yv5 => ?_)
    have hC := vl_eq hC yv5
    refine lv_iload_n F.1 F.2.1 dX6_tryGo_30 rfl (lv_at hl 3 rfl) ?_
    refine a_iast F hP hD hS 25 tc_25 rfl (i_in rfl (by omega)) dX6_tryGo_31 (fun H locs hP hD hS => ?_)
    have hR := hR.si (c := 25) (k := v5.toNatClampNeg) (v := p1) (rs_25_3_6 (by omega) (by omega : (0 : Int) ≤ p1.toInt ∧ p1.toInt ≤ 7))
    have hF := hF.si (c := 25) (k := v5.toNatClampNeg) (v := p1) rfl
    refine lv_aload_n F.1 F.2.1 dX6_tryGo_32 rfl (lv_at hl 1 rfl) ?_
    refine a_getr F inX6 hP 24 1 tc_24 rfl rfl (by decide) q272 (fun _ h9 => h9) dX6_tryGo_33 ?_
    refine a_bp F (11 : Int32) dX6_tryGo_36 (by decide) ?_
    refine lv_iload_n F.1 F.2.1 dX6_tryGo_38 rfl (lv_at hl 2 rfl) ?_
    refine a_iaddX F dX6_tryGo_39 ic_11 rfl (by omega) (fun v6 hv6 yv6 => ?_)
    have hC := vl_eq hC yv6
    refine lv_dup2_11 F.1 F.2.1 dX6_tryGo_40 rfl rfl ?_
    refine a_iald F hP 25 tc_25 rfl (i_in rfl (by omega)) dX6_tryGo_41 (fun v7 ev7 => ?_)
    have hC := vl_eq hC ev7.symm
    refine a_ic F (1 : Int32) dX6_tryGo_42 (by decide) ?_
    refine a_iaddUX F dX6_tryGo_43 (fun v8 yv8 => ?_)
    have hC := vl_eq hC yv8
    refine a_iast F hP hD hS 25 tc_25 rfl (i_in rfl (by omega)) dX6_tryGo_44 (fun H locs hP hD hS => ?_)
    have hR := hR.si (c := 25) (k := v6.toNatClampNeg) (v := v8) (rs_25_11_14 (by omega) ⟨i_lo _, i_hi _⟩)
    have hF := hF.si (c := 25) (k := v6.toNatClampNeg) (v := v8) rfl
    exact L45 r1 _ _ _ _ hR hF (by omega) hC hP hD hS (lv_sub hl [0] rfl)

def f_X2_term_4 (u0 : ac_U) (p0 : Int32) (p1 : Int32) : Int32 := (vl (p0 * (8 : Int32)) (fun (v1 : Int32) => (vl (v1 + p1) (fun (v2 : Int32) => (vl (u0.1 8 v2.toNatClampNeg) (fun (v3 : Int32) => v3))))))
set_option maxHeartbeats 600000 in
set_option maxRecDepth 100000 in
theorem x_X2_term_4 (l : Launch) (dC : Nat → ClassId) (dI : Nat → Nat → Nat) (ad : Nat → Nat) (cA : Nat → ClassId) (nF : Nat) (u0 : ac_U) (p0 : Int32) (p1 : Int32) (hR : ac_R rg u0) (hp0 : (0 : Int) ≤ p0.toInt ∧ p0.toInt ≤ 7) (hp1 : (0 : Int) ≤ p1.toInt ∧ p1.toInt ≤ 7) : ac_Mi l yX2_term (.code yX2_term cX2_term 3 (some .int) :: TB) 1 (dC, dI) vwCl (ac_ty cA) ad cA (TT nF) [.ref (ad 4), .int p0, .int p1] u0 (fun (r : Int32) (u : ac_U) => u = u0 ∧ ((p1.toInt = 2 → 0 ≤ r.toInt ∧ r.toInt ≤ 7) ∧ (p1.toInt = 5 → 0 ≤ r.toInt ∧ r.toInt ≤ 3)) ∧ f_X2_term_4 u0 p0 p1 = r) := by
  refine ac_Mi.of (cc := cX2_term) (maxL := 3) (ret := (some .int)) (by decide) rfl (Nat.le_of_ble_eq_true rfl) ?_
  intro p e s m below meth c A ls F hml hr hlocks hA hP hD hS hl
  have F : ac_X p s m [.ref (ad 4), .int p0, .int p1].toArray c cX2_term RX2 TB (dC, dI) vwCl (ac_ty cA) := ⟨F.1, F.2.1, fun w h => F.2.2.1 w (List.mem_cons_of_mem _ h), F.2.2.2.1, F.2.2.2.2⟩
  have hl : lv_has ls 3 [(0, .ref (ad 4)), (1, .int p0), (2, .int p1)] := hl
  obtain ⟨RR, hRR⟩ : ∃ q, q = f_X2_term_4 u0 p0 p1 := ⟨_, rfl⟩
  have hC : RR = f_X2_term_4 u0 p0 p1 := hRR
  unfold f_X2_term_4 at hC
  refine lv_aload_n F.1 F.2.1 dX2_term_0 rfl (lv_at hl 0 rfl) ?_
  refine a_getr F inX2 hP 4 12 tc_4 rfl rfl (by decide) q195 (fun _ h9 => h9) dX2_term_1 ?_
  refine lv_iload_n F.1 F.2.1 dX2_term_4 rfl (lv_at hl 1 rfl) ?_
  refine a_bp F (8 : Int32) dX2_term_5 (by decide) ?_
  refine a_imulX F dX2_term_7 rfl ic_8 (by omega) (fun v1 hv1 yv1 => ?_)
  have hC := vl_eq hC yv1
  refine lv_iload_n F.1 F.2.1 dX2_term_8 rfl (lv_at hl 2 rfl) ?_
  refine a_iaddX F dX2_term_9 rfl rfl (by omega) (fun v2 hv2 yv2 => ?_)
  have hC := vl_eq hC yv2
  refine a_iald F hP 8 tc_8 rfl (i_in rfl (by omega)) dX2_term_10 (fun v3 ev3 => ?_)
  have hC := vl_eq hC ev3.symm
  have hm2 : p1.toInt = 2 → 0 ≤ v3.toInt ∧ v3.toInt ≤ 7 := fun h => tm_w hR ev3 (q := p0.toInt) (w := 2) (by omega) (by decide) (by omega)
  have hm5 : p1.toInt = 5 → 0 ≤ v3.toInt ∧ v3.toInt ≤ 3 := fun h => tm_w hR ev3 (q := p0.toInt) (w := 5) (by omega) (by decide) (by omega)
  exact a_reti F hr hlocks hP hD hS dX2_term_11 ⟨rfl, (by omega : (p1.toInt = 2 → 0 ≤ v3.toInt ∧ v3.toInt ≤ 7) ∧ (p1.toInt = 5 → 0 ≤ v3.toInt ∧ v3.toInt ≤ 3)), hRR.symm.trans hC⟩

def f_X6_whyNotSay_24 (u0 : ac_U) (p0 : Int32) (p1 : Int32) : Int32 := (vl (f_X6_isOver_24 u0) (fun (r1 : Int32) => (if r1.toInt = 0 then (vl (f_X2_term_4 u0 p1 (0 : Int32)) (fun (r5 : Int32) => (if r5.toInt = p0.toInt then (vl ((15 : Int32) + p1) (fun (v7 : Int32) => (vl (u0.1 25 v7.toNatClampNeg) (fun (v8 : Int32) => (if v8.toInt = (-1 : Int) then (0 : Int32) else (6 : Int32)))))) else (5 : Int32)))) else (3 : Int32))))
set_option maxHeartbeats 600000 in
set_option maxRecDepth 100000 in
theorem x_X6_whyNotSay_24 (l : Launch) (dC : Nat → ClassId) (dI : Nat → Nat → Nat) (ad : Nat → Nat) (cA : Nat → ClassId) (nF : Nat) (u0 : ac_U) (p0 : Int32) (p1 : Int32) (hR : ac_R rg u0) (hp0 : (0 : Int) ≤ p0.toInt ∧ p0.toInt ≤ 3) (hp1 : (0 : Int) ≤ p1.toInt ∧ p1.toInt ≤ 7) : ac_Mi l yX6_whyNotSay (.code yX6_whyNotSay cX6_whyNotSay 3 (some .int) :: TB) 3 (dC, dI) vwCl (ac_ty cA) ad cA (TT nF) [.ref (ad 24), .int p0, .int p1] u0 (fun (r : Int32) (u : ac_U) => u = u0 ∧ ((0 : Int) ≤ r.toInt ∧ r.toInt ≤ 6) ∧ f_X6_whyNotSay_24 u0 p0 p1 = r) := by
  refine ac_Mi.of (cc := cX6_whyNotSay) (maxL := 3) (ret := (some .int)) (by decide) rfl (Nat.le_of_ble_eq_true rfl) ?_
  intro p e s m below meth c A ls F hml hr hlocks hA hP hD hS hl
  have F : ac_X p s m [.ref (ad 24), .int p0, .int p1].toArray c cX6_whyNotSay RX6 TB (dC, dI) vwCl (ac_ty cA) := ⟨F.1, F.2.1, fun w h => F.2.2.1 w (List.mem_cons_of_mem _ h), F.2.2.2.1, F.2.2.2.2⟩
  have hl : lv_has ls 3 [(0, .ref (ad 24)), (1, .int p0), (2, .int p1)] := hl
  obtain ⟨RR, hRR⟩ : ∃ q, q = f_X6_whyNotSay_24 u0 p0 p1 := ⟨_, rfl⟩
  have hC : RR = f_X6_whyNotSay_24 u0 p0 p1 := hRR
  unfold f_X6_whyNotSay_24 at hC
  refine lv_aload_n F.1 F.2.1 dX6_whyNotSay_0 rfl (lv_at hl 0 rfl) ?_
  refine a_Vi F hml hl.1 hA hP hD hS (As := []) (x_X6_isOver_24 l dC dI ad cA nF _  hR) (cs_RX6_76 (d := 2) F.2.2.1 (by decide)) tc_24 rfl rfl rfl rfl (Nat.le_of_ble_eq_true rfl) dX6_whyNotSay_1 ⟨Nat.le_refl 0, Nat.le_refl 0⟩ (fun r1 uN1 H locs hq hP hD hS => ?_)
  obtain ⟨hu1, gr1, xr1, hz1⟩ := hq
  rw [hu1] at hP hD
  have g2 : (0 : Int) ≤ (u0.1 25 0).toInt ∧ (u0.1 25 0).toInt ≤ 480 := hR 25 0
  have g3 : (4 : Int) ≤ (u0.1 4 0).toInt ∧ (u0.1 4 0).toInt ≤ 24 := hR 4 0
  have xr1 : r1.toInt = 0 → (u0.1 25 0).toInt < 20 * (u0.1 4 0).toInt := xr1
  have hC := vl_eq hC hz1.symm
  refine z_eq F 9 dX6_whyNotSay_4 (by decide) rfl (fun c4 => ?_) (fun c4 => ?_)
  · have hC := hC.trans (if_pos c4)
    refine lv_aload_n F.1 F.2.1 dX6_whyNotSay_9 rfl (lv_at hl 0 rfl) ?_
    refine a_getr F inX6 hP 24 0 tc_24 rfl rfl (by decide) q271 (fun _ h9 => h9) dX6_whyNotSay_10 ?_
    refine lv_iload_n F.1 F.2.1 dX6_whyNotSay_13 rfl (lv_at hl 2 rfl) ?_
    refine a_ic F (0 : Int32) dX6_whyNotSay_14 (by decide) ?_
    refine a_Vi F hml hl.1 hA hP hD hS (As := [.int p1, .int (0 : Int32)]) (x_X2_term_4 l dC dI ad cA nF _ p1 (0 : Int32) hR (by omega) (by decide)) (cs_RX6_80 (d := 1) F.2.2.1 (by decide)) tc_4 rfl rfl rfl rfl (Nat.le_of_ble_eq_true rfl) dX6_whyNotSay_15 ⟨Nat.le_refl 0, Nat.le_refl 0⟩ (fun r5 uN5 H locs hq hP hD hS => ?_)
    obtain ⟨hu5, xr5, hz5⟩ := hq
    rw [hu5] at hP hD
    have xr5 : ((0 : Int) = 2 → 0 ≤ r5.toInt ∧ r5.toInt ≤ 7) ∧ ((0 : Int) = 5 → 0 ≤ r5.toInt ∧ r5.toInt ≤ 3) := xr5
    have hC := vl_eq hC hz5.symm
    refine lv_iload_n F.1 F.2.1 dX6_whyNotSay_18 rfl (lv_at hl 1 rfl) ?_
    refine b_eq F 24 dX6_whyNotSay_19 (by decide) rfl rfl (fun c6 => ?_) (fun c6 => ?_)
    · have hC := hC.trans (if_pos c6)
      refine lv_aload_n F.1 F.2.1 dX6_whyNotSay_24 rfl (lv_at hl 0 rfl) ?_
      refine a_getr F inX6 hP 24 1 tc_24 rfl rfl (by decide) q272 (fun _ h9 => h9) dX6_whyNotSay_25 ?_
      refine a_bp F (15 : Int32) dX6_whyNotSay_28 (by decide) ?_
      refine lv_iload_n F.1 F.2.1 dX6_whyNotSay_30 rfl (lv_at hl 2 rfl) ?_
      refine a_iaddX F dX6_whyNotSay_31 ic_15 rfl (by omega) (fun v7 hv7 yv7 => ?_)
      have hC := vl_eq hC yv7
      refine a_iald F hP 25 tc_25 rfl (i_in rfl (by omega)) dX6_whyNotSay_32 (fun v8 ev8 => ?_)
      have hC := vl_eq hC ev8.symm
      have hv8 : (-1 : Int) ≤ v8.toInt ∧ v8.toInt ≤ 480 := rg_seg_25_15_22 hR ev8 (by omega)
      refine a_ic F (-1 : Int32) dX6_whyNotSay_33 (by decide) ?_
      refine b_eq F 42 dX6_whyNotSay_34 (by decide) rfl ic_m1 (fun c9 => ?_) (fun c9 => ?_)
      · have hC := hC.trans (if_pos c9)
        refine a_ic F (0 : Int32) dX6_whyNotSay_42 (by decide) ?_
        exact a_reti F hr hlocks hP hD hS dX6_whyNotSay_43 ⟨rfl, (by decide), hRR.symm.trans hC⟩
      · have hC := hC.trans (if_neg (by omega))
        refine a_bp F (6 : Int32) dX6_whyNotSay_37 (by decide) ?_
        refine lv_goto (tgt := 43) F.1 F.2.1 dX6_whyNotSay_39 (by decide) ?_
        exact a_reti F hr hlocks hP hD hS dX6_whyNotSay_43 ⟨rfl, (by decide), hRR.symm.trans hC⟩
    · have hC := hC.trans (if_neg (by omega))
      refine a_ic F (5 : Int32) dX6_whyNotSay_22 (by decide) ?_
      exact a_reti F hr hlocks hP hD hS dX6_whyNotSay_23 ⟨rfl, (by decide), hRR.symm.trans hC⟩
  · have hC := hC.trans (if_neg (by omega))
    refine a_ic F (3 : Int32) dX6_whyNotSay_7 (by decide) ?_
    exact a_reti F hr hlocks hP hD hS dX6_whyNotSay_8 ⟨rfl, (by decide), hRR.symm.trans hC⟩
def K_X6_trySay_24_43 (u0 : ac_U) (p0 : Int32) (p1 : Int32) (u : ac_U) (x3 : Int32) : ac_U × Int32 := (u, x3)
def f_X6_trySay_24 (u0 : ac_U) (p0 : Int32) (p1 : Int32) : ac_U × Int32 := (vl (f_X6_whyNotSay_24 u0 p0 p1) (fun (r1 : Int32) => (if r1.toInt ≠ 0 then (K_X6_trySay_24_43 u0 p0 p1 u0 r1) else (vl ((15 : Int32) + p1) (fun (v3 : Int32) => (vl ((23 : Int32) + p1) (fun (v5 : Int32) => (vl ((3 : Int32) + p0) (fun (v6 : Int32) => (vl ((pI u0 25 v3.toNatClampNeg (u0.1 25 0)).1 25 v6.toNatClampNeg) (fun (v7 : Int32) => (K_X6_trySay_24_43 u0 p0 p1 (pI (pI u0 25 v3.toNatClampNeg (u0.1 25 0)) 25 v5.toNatClampNeg v7) r1))))))))))))
set_option maxHeartbeats 600000 in
set_option maxRecDepth 100000 in
theorem x_X6_trySay_24 (l : Launch) (dC : Nat → ClassId) (dI : Nat → Nat → Nat) (ad : Nat → Nat) (cA : Nat → ClassId) (nF : Nat) (u0 : ac_U) (p0 : Int32) (p1 : Int32) (hR : ac_R rg u0) (hp0 : (0 : Int) ≤ p0.toInt ∧ p0.toInt ≤ 3) (hp1 : (0 : Int) ≤ p1.toInt ∧ p1.toInt ≤ 7) : ac_Mi l yX6_trySay (.code yX6_trySay cX6_trySay 4 (some .int) :: TB) 4 (dC, dI) vwCl (ac_ty cA) ad cA (TT nF) [.ref (ad 24), .int p0, .int p1] u0 (fun (r : Int32) (u : ac_U) => ac_R rg u ∧ ac_Fr [(25, none)] u0 u ∧ ((0 : Int) ≤ r.toInt ∧ r.toInt ≤ 6) ∧ f_X6_trySay_24 u0 p0 p1 = (u, r)) := by
  refine ac_Mi.of (cc := cX6_trySay) (maxL := 4) (ret := (some .int)) (by decide) rfl (Nat.le_of_ble_eq_true rfl) ?_
  intro p e s m below meth c A ls F hml hr hlocks hA hP hD hS hl
  have F : ac_X p s m [.ref (ad 24), .int p0, .int p1].toArray c cX6_trySay RX6 TB (dC, dI) vwCl (ac_ty cA) := ⟨F.1, F.2.1, fun w h => F.2.2.1 w (List.mem_cons_of_mem _ h), F.2.2.2.1, F.2.2.2.2⟩
  have hl : lv_has ls 4 [(0, .ref (ad 24)), (1, .int p0), (2, .int p1)] := hl
  obtain ⟨RR, hRR⟩ : ∃ q, q = f_X6_trySay_24 u0 p0 p1 := ⟨_, rfl⟩
  have hF : ac_Fr [(25, none)] u0 u0 := ac_Fr.rf
  have L43 : ∀ (x3 : Int32) (u : ac_U) (H : Heap) (locs : List Loc) (ls : Array Slot), ac_R rg u → ac_Fr [(25, none)] u0 u → (0 : Int) ≤ x3.toInt ∧ x3.toInt ≤ 6 → RR = (K_X6_trySay_24_43 u0 p0 p1 u x3) → va_P (dC, dI) vwCl (ac_w ad cA (TT nF) u) H → va_D A (ac_w ad cA (TT nF) u) → va_S A s.heap H locs → lv_has ls 4 [(3, .int x3)] → W p l e (ac_rm 4) s m [.ref (ad 24), .int p0, .int p1].toArray below meth c H locs 0 0 (MQ below (va_Qi (fun (r : Int32) (u : ac_U) => ac_R rg u ∧ ac_Fr [(25, none)] u0 u ∧ ((0 : Int) ≤ r.toInt ∧ r.toInt ≤ 6) ∧ f_X6_trySay_24 u0 p0 p1 = (u, r)) (ac_B (dC, dI) vwCl (ac_ty cA) ad cA (TT nF) A) A) [.ref (ad 24), .int p0, .int p1].toArray s 0 0 A) (F0 m 43 ls []) := by
    intro x3 u H locs ls hR hF f0 hC hP hD hS hl
    unfold K_X6_trySay_24_43 at hC
    refine lv_iload_n F.1 F.2.1 dX6_trySay_43 rfl (lv_at hl 0 rfl) ?_
    exact a_reti F hr hlocks hP hD hS dX6_trySay_44 ⟨hR, hF, (by omega : (0 : Int) ≤ x3.toInt ∧ x3.toInt ≤ 6), hRR.symm.trans hC⟩
  have hC : RR = f_X6_trySay_24 u0 p0 p1 := hRR
  unfold f_X6_trySay_24 at hC
  refine lv_aload_n F.1 F.2.1 dX6_trySay_0 rfl (lv_at hl 0 rfl) ?_
  refine lv_iload_n F.1 F.2.1 dX6_trySay_1 rfl (lv_at hl 1 rfl) ?_
  refine lv_iload_n F.1 F.2.1 dX6_trySay_2 rfl (lv_at hl 2 rfl) ?_
  refine a_Vi F hml hl.1 hA hP hD hS (As := [.int p0, .int p1]) (x_X6_whyNotSay_24 l dC dI ad cA nF _ p0 p1 hR (by omega) (by omega)) (cs_RX6_90 (d := 3) F.2.2.1 (by decide)) tc_24 rfl rfl rfl rfl (Nat.le_of_ble_eq_true rfl) dX6_trySay_3 ⟨Nat.le_refl 0, Nat.le_refl 0⟩ (fun r1 uN1 H locs hq hP hD hS => ?_)
  obtain ⟨hu1, gr1, hz1⟩ := hq
  rw [hu1] at hP hD
  have hC := vl_eq hC hz1.symm
  refine lv_istore_n (lv' := [(3, .int r1), (0, .ref (ad 24)), (1, .int p0), (2, .int p1)]) F.1 F.2.1 dX6_trySay_6 rfl hl (by decide) rfl (fun ls hl => ?_)
  refine lv_iload_n F.1 F.2.1 dX6_trySay_7 rfl (lv_at hl 0 rfl) ?_
  refine z_ne F 43 dX6_trySay_8 (by decide) rfl (fun c2 => ?_) (fun c2 => ?_)
  · have hC := hC.trans (if_pos c2)
    exact L43 r1 _ _ _ _ hR hF (by omega) hC hP hD hS (lv_sub hl [0] rfl)
  · have hC := hC.trans (if_neg (by omega))
    refine lv_aload_n F.1 F.2.1 dX6_trySay_11 rfl (lv_at hl 1 rfl) ?_
    refine a_getr F inX6 hP 24 1 tc_24 rfl rfl (by decide) q272 (fun _ h9 => h9) dX6_trySay_12 ?_
    refine a_bp F (15 : Int32) dX6_trySay_15 (by decide) ?_
    refine lv_iload_n F.1 F.2.1 dX6_trySay_17 rfl (lv_at hl 3 rfl) ?_
    refine a_iaddX F dX6_trySay_18 ic_15 rfl (by omega) (fun v3 hv3 yv3 => ?_)
    have hC := vl_eq hC yv3
    refine lv_aload_n F.1 F.2.1 dX6_trySay_19 rfl (lv_at hl 1 rfl) ?_
    refine a_getr F inX6 hP 24 1 tc_24 rfl rfl (by decide) q272 (fun _ h9 => h9) dX6_trySay_20 ?_
    refine a_ic F (0 : Int32) dX6_trySay_23 (by decide) ?_
    have g4 : (0 : Int) ≤ (u0.1 25 0).toInt ∧ (u0.1 25 0).toInt ≤ 480 := hR 25 0
    refine a_ialdK F hP 25 0 tc_25 rfl rfl (i_in ic_0 (by omega)) (v := (u0.1 25 0)) rfl dX6_trySay_24 ?_
    refine a_iast F hP hD hS 25 tc_25 rfl (i_in rfl (by omega)) dX6_trySay_25 (fun H locs hP hD hS => ?_)
    have hR := hR.si (c := 25) (k := v3.toNatClampNeg) (v := (u0.1 25 0)) (rs_25_15_22 (by omega) (by omega : (-1 : Int) ≤ (u0.1 25 0).toInt ∧ (u0.1 25 0).toInt ≤ 480))
    have hF := hF.si (c := 25) (k := v3.toNatClampNeg) (v := (u0.1 25 0)) rfl
    refine lv_aload_n F.1 F.2.1 dX6_trySay_26 rfl (lv_at hl 1 rfl) ?_
    refine a_getr F inX6 hP 24 1 tc_24 rfl rfl (by decide) q272 (fun _ h9 => h9) dX6_trySay_27 ?_
    refine a_bp F (23 : Int32) dX6_trySay_30 (by decide) ?_
    refine lv_iload_n F.1 F.2.1 dX6_trySay_32 rfl (lv_at hl 3 rfl) ?_
    refine a_iaddX F dX6_trySay_33 ic_23 rfl (by omega) (fun v5 hv5 yv5 => ?_)
    have hC := vl_eq hC yv5
    refine lv_aload_n F.1 F.2.1 dX6_trySay_34 rfl (lv_at hl 1 rfl) ?_
    refine a_getr F inX6 hP 24 1 tc_24 rfl rfl (by decide) q272 (fun _ h9 => h9) dX6_trySay_35 ?_
    refine a_ic F (3 : Int32) dX6_trySay_38 (by decide) ?_
    refine lv_iload_n F.1 F.2.1 dX6_trySay_39 rfl (lv_at hl 2 rfl) ?_
    refine a_iaddX F dX6_trySay_40 ic_3 rfl (by omega) (fun v6 hv6 yv6 => ?_)
    have hC := vl_eq hC yv6
    refine a_iald F hP 25 tc_25 rfl (i_in rfl (by omega)) dX6_trySay_41 (fun v7 ev7 => ?_)
    have hC := vl_eq hC ev7.symm
    have hv7 : (0 : Int) ≤ v7.toInt ∧ v7.toInt ≤ 7 := rg_seg_25_3_6 hR ev7 (by omega)
    refine a_iast F hP hD hS 25 tc_25 rfl (i_in rfl (by omega)) dX6_trySay_42 (fun H locs hP hD hS => ?_)
    have hR := hR.si (c := 25) (k := v5.toNatClampNeg) (v := v7) (rs_25_23_30 (by omega) ⟨i_lo _, i_hi _⟩)
    have hF := hF.si (c := 25) (k := v5.toNatClampNeg) (v := v7) rfl
    exact L43 r1 _ _ _ _ hR hF (by omega) hC hP hD hS (lv_sub hl [0] rfl)

def f_X0_liveLine_39 (u0 : ac_U) (p0 : Int32) : ac_U × Int32 := (vl (u0.1 41 p0.toNatClampNeg) (fun (v1 : Int32) => (if v1.toInt < 110 ∨ 112 < v1.toInt then (vl (u0.1 42 p0.toNatClampNeg) (fun (v3 : Int32) => (bd (f_X0_liveHours_39 u0 v3) (fun (u4 : ac_U) (r4 : Int32) => (u4, r4))))) else (if v1.toInt = 110 then (vl (u0.1 40 p0.toNatClampNeg) (fun (v5 : Int32) => (vl (u0.1 42 p0.toNatClampNeg) (fun (v6 : Int32) => (bd (f_X6_tryGo_24 u0 v5 v6) (fun (u7 : ac_U) (r7 : Int32) => (u7, r7))))))) else (if v1.toInt = 111 then (vl (u0.1 40 p0.toNatClampNeg) (fun (v8 : Int32) => (vl (u0.1 42 p0.toNatClampNeg) (fun (v9 : Int32) => (bd (f_X6_tryDo_24 u0 v8 v9) (fun (u10 : ac_U) (r10 : Int32) => (u10, r10))))))) else (vl (u0.1 40 p0.toNatClampNeg) (fun (v11 : Int32) => (vl (u0.1 42 p0.toNatClampNeg) (fun (v12 : Int32) => (bd (f_X6_trySay_24 u0 v11 v12) (fun (u13 : ac_U) (r13 : Int32) => (u13, r13))))))))))))
set_option maxHeartbeats 600000 in
set_option maxRecDepth 100000 in
theorem x_X0_liveLine_39 (l : Launch) (dC : Nat → ClassId) (dI : Nat → Nat → Nat) (ad : Nat → Nat) (cA : Nat → ClassId) (nF : Nat) (u0 : ac_U) (p0 : Int32) (hR : ac_R rg u0) (hp0 : (0 : Int) ≤ p0.toInt ∧ p0.toInt ≤ 39) (hg0 : p0.toInt < (u0.1 39 6).toInt) (hK_DBI : dbI u0) : ac_Mi l yX0_liveLine (.code yX0_liveLine cX0_liveLine 2 (some .int) :: TB) 5 (dC, dI) vwCl (ac_ty cA) ad cA (TT nF) [.ref (ad 39), .int p0] u0 (fun (r : Int32) (u : ac_U) => ac_R rg u ∧ ac_Fr [(25, none), (26, none)] u0 u ∧ ((0 : Int) ≤ r.toInt ∧ r.toInt ≤ 6) ∧ f_X0_liveLine_39 u0 p0 = (u, r)) := by
  refine ac_Mi.of (cc := cX0_liveLine) (maxL := 2) (ret := (some .int)) (by decide) rfl (Nat.le_of_ble_eq_true rfl) ?_
  intro p e s m below meth c A ls F hml hr hlocks hA hP hD hS hl
  have F : ac_X p s m [.ref (ad 39), .int p0].toArray c cX0_liveLine RX0 TB (dC, dI) vwCl (ac_ty cA) := ⟨F.1, F.2.1, fun w h => F.2.2.1 w (List.mem_cons_of_mem _ h), F.2.2.2.1, F.2.2.2.2⟩
  have hl : lv_has ls 2 [(0, .ref (ad 39)), (1, .int p0)] := hl
  obtain ⟨RR, hRR⟩ : ∃ q, q = f_X0_liveLine_39 u0 p0 := ⟨_, rfl⟩
  have hF : ac_Fr [(25, none), (26, none)] u0 u0 := ac_Fr.rf
  have hC : RR = f_X0_liveLine_39 u0 p0 := hRR
  unfold f_X0_liveLine_39 at hC
  refine lv_aload_n F.1 F.2.1 dX0_liveLine_0 rfl (lv_at hl 0 rfl) ?_
  refine a_getr F inX0 hP 39 4 tc_39 rfl rfl (by decide) q403 (fun _ h9 => h9) dX0_liveLine_1 ?_
  refine lv_iload_n F.1 F.2.1 dX0_liveLine_4 rfl (lv_at hl 1 rfl) ?_
  refine a_iald F hP 41 tc_41 rfl (i_in rfl (by omega)) dX0_liveLine_5 (fun v1 ev1 => ?_)
  have hC := vl_eq hC ev1.symm
  rcases (show (v1.toInt < 110 ∨ 112 < v1.toInt) ∨ v1.toInt = 110 ∨ v1.toInt = 111 ∨ v1.toInt = 112 by omega) with c2 | c2 | c2 | c2
  · have hC := hC.trans (if_pos c2)
    refine lv_tableOut (tgt := 92) F.1 F.2.1 dX0_liveLine_6 c2 (by decide) ?_
    refine lv_aload_n F.1 F.2.1 dX0_liveLine_92 rfl (lv_at hl 0 rfl) ?_
    refine lv_aload_n F.1 F.2.1 dX0_liveLine_93 rfl (lv_at hl 0 rfl) ?_
    refine a_getr F inX0 hP 39 5 tc_39 rfl rfl (by decide) q404 (fun _ h9 => h9) dX0_liveLine_94 ?_
    refine lv_iload_n F.1 F.2.1 dX0_liveLine_97 rfl (lv_at hl 1 rfl) ?_
    refine a_iald F hP 42 tc_42 rfl (i_in rfl (by omega)) dX0_liveLine_98 (fun v3 ev3 => ?_)
    have hC := vl_eq hC ev3.symm
    have hv3 : (0 : Int) ≤ v3.toInt ∧ v3.toInt ≤ 99 := ev3 ▸ hR 42 _
    refine a_Vi F hml hl.1 hA hP hD hS (As := [.int v3]) (x_X0_liveHours_39 l dC dI ad cA nF _ v3 hR (by omega)) (cs_RX0_114 (d := 3) F.2.2.1 (by decide)) tc_39 rfl rfl rfl rfl (Nat.le_of_ble_eq_true rfl) dX0_liveLine_99 ⟨Nat.le_refl 0, Nat.le_refl 0⟩ (fun r4 u4 H locs hq hP hD hS => ?_)
    obtain ⟨hR, hF4, gr4, hz4⟩ := hq
    have hF := hF.tr hF4 (by decide)
    have hK_DBI := sp_fr sp_DBI hF4 (by decide) hK_DBI
    have hC := bd_eq hC hz4
    exact a_reti F hr hlocks hP hD hS dX0_liveLine_102 ⟨hR, hF, (by omega : (0 : Int) ≤ r4.toInt ∧ r4.toInt ≤ 6), hRR.symm.trans hC⟩
  · have hC := hC.trans (if_neg (by omega))
    have hC := hC.trans (if_pos c2)
    refine lv_tableIn (tgt := 32) F.1 F.2.1 dX0_liveLine_6 (by omega) (by omega) (by rw [c2]; rfl) (by decide) ?_
    refine lv_aload_n F.1 F.2.1 dX0_liveLine_32 rfl (lv_at hl 0 rfl) ?_
    refine a_getr F inX0 hP 39 2 tc_39 rfl rfl (by decide) q401 (fun _ h9 => h9) dX0_liveLine_33 ?_
    refine lv_aload_n F.1 F.2.1 dX0_liveLine_36 rfl (lv_at hl 0 rfl) ?_
    refine a_getr F inX0 hP 39 3 tc_39 rfl rfl (by decide) q402 (fun _ h9 => h9) dX0_liveLine_37 ?_
    refine lv_iload_n F.1 F.2.1 dX0_liveLine_40 rfl (lv_at hl 1 rfl) ?_
    refine a_iald F hP 40 tc_40 rfl (i_in rfl (by omega)) dX0_liveLine_41 (fun v5 ev5 => ?_)
    have hC := vl_eq hC ev5.symm
    have hv5 : (-1 : Int) ≤ v5.toInt ∧ v5.toInt ≤ 7 := ev5 ▸ hR 40 _
    refine lv_aload_n F.1 F.2.1 dX0_liveLine_42 rfl (lv_at hl 0 rfl) ?_
    refine a_getr F inX0 hP 39 5 tc_39 rfl rfl (by decide) q404 (fun _ h9 => h9) dX0_liveLine_43 ?_
    refine lv_iload_n F.1 F.2.1 dX0_liveLine_46 rfl (lv_at hl 1 rfl) ?_
    refine a_iald F hP 42 tc_42 rfl (i_in rfl (by omega)) dX0_liveLine_47 (fun v6 ev6 => ?_)
    have hC := vl_eq hC ev6.symm
    have hv6 : (0 : Int) ≤ v6.toInt ∧ v6.toInt ≤ 99 := ev6 ▸ hR 42 _
    have hm9 := db_get hK_DBI (i := p0) (by omega) (by omega) ev1 ev5 ev6
    refine a_Vi F hml hl.1 hA hP hD hS (As := [.int v5, .int v6]) (x_X6_tryGo_24 l dC dI ad cA nF _ v5 v6 hR (by omega) (by omega)) (cs_RX0_104 (d := 4) F.2.2.1 (by decide)) tc_24 rfl rfl rfl rfl (Nat.le_of_ble_eq_true rfl) dX0_liveLine_48 ⟨Nat.le_refl 0, Nat.le_refl 0⟩ (fun r7 u7 H locs hq hP hD hS => ?_)
    obtain ⟨hR, hF7, gr7, hz7⟩ := hq
    have hF := hF.tr hF7 (by decide)
    have hK_DBI := sp_fr sp_DBI hF7 (by decide) hK_DBI
    have hC := bd_eq hC hz7
    exact a_reti F hr hlocks hP hD hS dX0_liveLine_51 ⟨hR, hF, (by omega : (0 : Int) ≤ r7.toInt ∧ r7.toInt ≤ 6), hRR.symm.trans hC⟩
  · have hC := hC.trans (if_neg (by omega))
    have hC := hC.trans (if_neg (by omega))
    have hC := hC.trans (if_pos c2)
    refine lv_tableIn (tgt := 52) F.1 F.2.1 dX0_liveLine_6 (by omega) (by omega) (by rw [c2]; rfl) (by decide) ?_
    refine lv_aload_n F.1 F.2.1 dX0_liveLine_52 rfl (lv_at hl 0 rfl) ?_
    refine a_getr F inX0 hP 39 2 tc_39 rfl rfl (by decide) q401 (fun _ h9 => h9) dX0_liveLine_53 ?_
    refine lv_aload_n F.1 F.2.1 dX0_liveLine_56 rfl (lv_at hl 0 rfl) ?_
    refine a_getr F inX0 hP 39 3 tc_39 rfl rfl (by decide) q402 (fun _ h9 => h9) dX0_liveLine_57 ?_
    refine lv_iload_n F.1 F.2.1 dX0_liveLine_60 rfl (lv_at hl 1 rfl) ?_
    refine a_iald F hP 40 tc_40 rfl (i_in rfl (by omega)) dX0_liveLine_61 (fun v8 ev8 => ?_)
    have hC := vl_eq hC ev8.symm
    have hv8 : (-1 : Int) ≤ v8.toInt ∧ v8.toInt ≤ 7 := ev8 ▸ hR 40 _
    refine lv_aload_n F.1 F.2.1 dX0_liveLine_62 rfl (lv_at hl 0 rfl) ?_
    refine a_getr F inX0 hP 39 5 tc_39 rfl rfl (by decide) q404 (fun _ h9 => h9) dX0_liveLine_63 ?_
    refine lv_iload_n F.1 F.2.1 dX0_liveLine_66 rfl (lv_at hl 1 rfl) ?_
    refine a_iald F hP 42 tc_42 rfl (i_in rfl (by omega)) dX0_liveLine_67 (fun v9 ev9 => ?_)
    have hC := vl_eq hC ev9.symm
    have hv9 : (0 : Int) ≤ v9.toInt ∧ v9.toInt ≤ 99 := ev9 ▸ hR 42 _
    have hm9 := db_get hK_DBI (i := p0) (by omega) (by omega) ev1 ev8 ev9
    refine a_Vi F hml hl.1 hA hP hD hS (As := [.int v8, .int v9]) (x_X6_tryDo_24 l dC dI ad cA nF _ v8 v9 hR (by omega)) (cs_RX0_108 (d := 4) F.2.2.1 (by decide)) tc_24 rfl rfl rfl rfl (Nat.le_of_ble_eq_true rfl) dX0_liveLine_68 ⟨Nat.le_refl 0, Nat.le_refl 0⟩ (fun r10 u10 H locs hq hP hD hS => ?_)
    obtain ⟨hR, hF10, gr10, hz10⟩ := hq
    have hF := hF.tr hF10 (by decide)
    have hK_DBI := sp_fr sp_DBI hF10 (by decide) hK_DBI
    have hC := bd_eq hC hz10
    exact a_reti F hr hlocks hP hD hS dX0_liveLine_71 ⟨hR, hF, (by omega : (0 : Int) ≤ r10.toInt ∧ r10.toInt ≤ 6), hRR.symm.trans hC⟩
  · have hC := hC.trans (if_neg (by omega))
    have hC := hC.trans (if_neg (by omega))
    have hC := hC.trans (if_neg (by omega))
    refine lv_tableIn (tgt := 72) F.1 F.2.1 dX0_liveLine_6 (by omega) (by omega) (by rw [c2]; rfl) (by decide) ?_
    refine lv_aload_n F.1 F.2.1 dX0_liveLine_72 rfl (lv_at hl 0 rfl) ?_
    refine a_getr F inX0 hP 39 2 tc_39 rfl rfl (by decide) q401 (fun _ h9 => h9) dX0_liveLine_73 ?_
    refine lv_aload_n F.1 F.2.1 dX0_liveLine_76 rfl (lv_at hl 0 rfl) ?_
    refine a_getr F inX0 hP 39 3 tc_39 rfl rfl (by decide) q402 (fun _ h9 => h9) dX0_liveLine_77 ?_
    refine lv_iload_n F.1 F.2.1 dX0_liveLine_80 rfl (lv_at hl 1 rfl) ?_
    refine a_iald F hP 40 tc_40 rfl (i_in rfl (by omega)) dX0_liveLine_81 (fun v11 ev11 => ?_)
    have hC := vl_eq hC ev11.symm
    have hv11 : (-1 : Int) ≤ v11.toInt ∧ v11.toInt ≤ 7 := ev11 ▸ hR 40 _
    refine lv_aload_n F.1 F.2.1 dX0_liveLine_82 rfl (lv_at hl 0 rfl) ?_
    refine a_getr F inX0 hP 39 5 tc_39 rfl rfl (by decide) q404 (fun _ h9 => h9) dX0_liveLine_83 ?_
    refine lv_iload_n F.1 F.2.1 dX0_liveLine_86 rfl (lv_at hl 1 rfl) ?_
    refine a_iald F hP 42 tc_42 rfl (i_in rfl (by omega)) dX0_liveLine_87 (fun v12 ev12 => ?_)
    have hC := vl_eq hC ev12.symm
    have hv12 : (0 : Int) ≤ v12.toInt ∧ v12.toInt ≤ 99 := ev12 ▸ hR 42 _
    have hm9 := db_get hK_DBI (i := p0) (by omega) (by omega) ev1 ev11 ev12
    refine a_Vi F hml hl.1 hA hP hD hS (As := [.int v11, .int v12]) (x_X6_trySay_24 l dC dI ad cA nF _ v11 v12 hR (by omega) (by omega)) (cs_RX0_111 (d := 4) F.2.2.1 (by decide)) tc_24 rfl rfl rfl rfl (Nat.le_of_ble_eq_true rfl) dX0_liveLine_88 ⟨Nat.le_refl 0, Nat.le_refl 0⟩ (fun r13 u13 H locs hq hP hD hS => ?_)
    obtain ⟨hR, hF13, gr13, hz13⟩ := hq
    have hF := hF.tr hF13 (by decide)
    have hK_DBI := sp_fr sp_DBI hF13 (by decide) hK_DBI
    have hC := bd_eq hC hz13
    exact a_reti F hr hlocks hP hD hS dX0_liveLine_91 ⟨hR, hF, (by omega : (0 : Int) ≤ r13.toInt ∧ r13.toInt ≤ 6), hRR.symm.trans hC⟩
def K_X0_live_39_63 (u0 : ac_U) (u : ac_U) : ac_U := (pI u 39 9 (u.1 25 0))
def K_X0_live_39_53 (B12 : ac_U → Int32 → ac_U) (u0 : ac_U) (u : ac_U) (x1 : Int32) (z1 : Int32) (z2 : Int32) : ac_U := (vl (z1 + z2) (fun (v2 : Int32) => (vl (x1 + Int32.ofInt (1)) (fun (v3 : Int32) => (B12 (pI u 39 8 v2) v3)))))
def K_X0_live_39_12_b (B12 : ac_U → Int32 → ac_U) (u0 : ac_U) (u : ac_U) (x1 : Int32) : ac_U := (if (u.1 39 6).toInt ≤ x1.toInt then (K_X0_live_39_63 u0 u) else (if (u.1 39 7).toInt ≠ 0 then (K_X0_live_39_63 u0 u) else (bd (f_X0_liveLine_39 u x1) (fun (u7 : ac_U) (r7 : Int32) => (if r7.toInt ≠ 0 then (K_X0_live_39_53 B12 u0 (pI u7 39 7 r7) x1 (u7.1 39 8) (0 : Int32)) else (K_X0_live_39_53 B12 u0 (pI u7 39 7 r7) x1 (u7.1 39 8) (1 : Int32)))))))
def K_X0_live_39_12 (u0 : ac_U) : Nat → ac_U → Int32 → ac_U
  | 0 => fun u x1 => u
  | n + 1 => fun u x1 => K_X0_live_39_12_b (K_X0_live_39_12 u0 n) u0 u x1
def f_X0_live_39 (u0 : ac_U) : ac_U := (K_X0_live_39_12 u0 42 (pI (pI u0 39 7 (0 : Int32)) 39 8 (0 : Int32)) (0 : Int32))
set_option maxHeartbeats 600000 in
set_option maxRecDepth 100000 in
theorem x_X0_live_39 (l : Launch) (dC : Nat → ClassId) (dI : Nat → Nat → Nat) (ad : Nat → Nat) (cA : Nat → ClassId) (nF : Nat) (u0 : ac_U)  (hR : ac_R rg u0) (hK_DBI : dbI u0) : ac_Mv l yX0_live (.code yX0_live cX0_live 2 none :: TB) 6 (dC, dI) vwCl (ac_ty cA) ad cA (TT nF) [.ref (ad 39)] u0 (fun (u : ac_U) => ac_R rg u ∧ ac_Fr [(25, none), (26, none), (39, some 7), (39, some 8), (39, some 9)] u0 u ∧ f_X0_live_39 u0 = u) := by
  refine ac_Mv.of (cc := cX0_live) (maxL := 2) (ret := none) (by decide) rfl (Nat.le_of_ble_eq_true rfl) ?_
  intro p e s m below meth c A ls F hml hr hlocks hA hP hD hS hl
  have F : ac_X p s m [.ref (ad 39)].toArray c cX0_live RX0 TB (dC, dI) vwCl (ac_ty cA) := ⟨F.1, F.2.1, fun w h => F.2.2.1 w (List.mem_cons_of_mem _ h), F.2.2.2.1, F.2.2.2.2⟩
  have hl : lv_has ls 2 [(0, .ref (ad 39))] := hl
  obtain ⟨RR, hRR⟩ : ∃ q, q = f_X0_live_39 u0 := ⟨_, rfl⟩
  have hF : ac_Fr [(25, none), (26, none), (39, some 7), (39, some 8), (39, some 9)] u0 u0 := ac_Fr.rf
  have L63 : ∀ (u : ac_U) (H : Heap) (locs : List Loc) (ls : Array Slot), ac_R rg u → ac_Fr [(25, none), (26, none), (39, some 7), (39, some 8), (39, some 9)] u0 u → dbI u → (0 : Int) ≤ (u.1 39 7).toInt ∧ (u.1 39 7).toInt ≤ 6 → RR = (K_X0_live_39_63 u0 u) → va_P (dC, dI) vwCl (ac_w ad cA (TT nF) u) H → va_D A (ac_w ad cA (TT nF) u) → va_S A s.heap H locs → lv_has ls 2 [(0, .ref (ad 39))] → W p l e (ac_rm 6) s m [.ref (ad 39)].toArray below meth c H locs 0 0 (MQ below (va_Qv (fun (u : ac_U) => ac_R rg u ∧ ac_Fr [(25, none), (26, none), (39, some 7), (39, some 8), (39, some 9)] u0 u ∧ f_X0_live_39 u0 = u) (ac_B (dC, dI) vwCl (ac_ty cA) ad cA (TT nF) A) A) [.ref (ad 39)].toArray s 0 0 A) (F0 m 63 ls []) := by
    intro u H locs ls hR hF hK_DBI f0 hC hP hD hS hl
    unfold K_X0_live_39_63 at hC
    refine lv_aload_n F.1 F.2.1 dX0_live_63 rfl (lv_at hl 0 rfl) ?_
    refine lv_aload_n F.1 F.2.1 dX0_live_64 rfl (lv_at hl 0 rfl) ?_
    refine a_getr F inX0 hP 39 2 tc_39 rfl rfl (by decide) q401 (fun _ h9 => h9) dX0_live_65 ?_
    refine a_getr F inX6 hP 24 1 tc_24 rfl rfl (by decide) q277 (fun _ h9 => h9) dX0_live_68 ?_
    refine a_ic F (0 : Int32) dX0_live_71 (by decide) ?_
    have g1 : (0 : Int) ≤ (u.1 25 0).toInt ∧ (u.1 25 0).toInt ≤ 480 := hR 25 0
    refine a_ialdK F hP 25 0 tc_25 rfl rfl (i_in ic_0 (by omega)) (v := (u.1 25 0)) rfl dX0_live_72 ?_
    refine a_puti F inX0 tyX0 tyX0_ok nmX0 hP hD hS 39 9 tc_39 rfl rfl (by decide) q411 (fun _ h9 => h9) rfl (ty := .int) (tyX0_ok 9 (by decide)) rfl rfl dX0_live_73 (fun H locs hP hD hS => ?_)
    have hR := hR.si (c := 39) (k := 9) (v := (u.1 25 0)) ⟨i_lo _, i_hi _⟩
    have hF := hF.si (c := 39) (k := 9) (v := (u.1 25 0)) rfl
    have hK_DBI := sp_si sp_DBI hK_DBI (c := 39) (k := 9) (v := (u.1 25 0)) (fun j9 h9 q9 => by rw [q9] at h9; exact absurd h9 (by decide))
    exact a_retv F hr hlocks hP hD hS dX0_live_76 ⟨hR, hF, hRR.symm.trans hC⟩
  have L12 : ∀ (n12 : Nat) (x1 : Int32) (u : ac_U) (H : Heap) (locs : List Loc) (ls : Array Slot), ac_R rg u → ac_Fr [(25, none), (26, none), (39, some 7), (39, some 8), (39, some 9)] u0 u → 40 - x1.toInt < (n12 : Int) → dbI u → (0 : Int) ≤ x1.toInt ∧ x1.toInt ≤ 40 → (0 : Int) ≤ (u.1 39 7).toInt ∧ (u.1 39 7).toInt ≤ 6 → RR = (K_X0_live_39_12 u0 n12 u x1) → va_P (dC, dI) vwCl (ac_w ad cA (TT nF) u) H → va_D A (ac_w ad cA (TT nF) u) → va_S A s.heap H locs → lv_has ls 2 [(0, .ref (ad 39)), (1, .int x1)] → W p l e (ac_rm 6) s m [.ref (ad 39)].toArray below meth c H locs 0 0 (MQ below (va_Qv (fun (u : ac_U) => ac_R rg u ∧ ac_Fr [(25, none), (26, none), (39, some 7), (39, some 8), (39, some 9)] u0 u ∧ f_X0_live_39 u0 = u) (ac_B (dC, dI) vwCl (ac_ty cA) ad cA (TT nF) A) A) [.ref (ad 39)].toArray s 0 0 A) (F0 m 12 ls []) := by
    intro n12
    induction n12 with
    | zero => intro x1 u H locs ls hR hF hn12 hK_DBI f0 f1 hC hP hD hS hl; exfalso; omega
    | succ n12 ih12 =>
      intro x1 u H locs ls hR hF hn12 hK_DBI f0 f1 hC hP hD hS hl
      have hC : RR = K_X0_live_39_12_b (K_X0_live_39_12 u0 n12) u0 u x1 := hC
      have L53 : ∀ (x1 : Int32) (z1 : Int32) (z2 : Int32) (u : ac_U) (H : Heap) (locs : List Loc) (ls : Array Slot), ac_R rg u → ac_Fr [(25, none), (26, none), (39, some 7), (39, some 8), (39, some 9)] u0 u → dbI u → (0 : Int) ≤ x1.toInt ∧ x1.toInt ≤ 39 → (0 : Int) ≤ z2.toInt ∧ z2.toInt ≤ 1 → (1 : Int) ≤ (u.1 39 6).toInt ∧ (u.1 39 6).toInt ≤ 40 → (0 : Int) ≤ (u.1 39 7).toInt ∧ (u.1 39 7).toInt ≤ 6 → 40 - x1.toInt + 0 < ((n12 : Nat) : Int) + 1 → RR = (K_X0_live_39_53 (K_X0_live_39_12 u0 n12) u0 u x1 z1 z2) → va_P (dC, dI) vwCl (ac_w ad cA (TT nF) u) H → va_D A (ac_w ad cA (TT nF) u) → va_S A s.heap H locs → lv_has ls 2 [(0, .ref (ad 39)), (1, .int x1)] → W p l e (ac_rm 6) s m [.ref (ad 39)].toArray below meth c H locs 0 0 (MQ below (va_Qv (fun (u : ac_U) => ac_R rg u ∧ ac_Fr [(25, none), (26, none), (39, some 7), (39, some 8), (39, some 9)] u0 u ∧ f_X0_live_39 u0 = u) (ac_B (dC, dI) vwCl (ac_ty cA) ad cA (TT nF) A) A) [.ref (ad 39)].toArray s 0 0 A) (F0 m 53 ls [.int z2, .int z1, .ref (ad 39)]) := by
        intro x1 z1 z2 u H locs ls hR hF hK_DBI f0 f1 f2 f3 f4 hC hP hD hS hl
        unfold K_X0_live_39_53 at hC
        refine a_iaddUX F dX0_live_53 (fun v2 yv2 => ?_)
        have hC := vl_eq hC yv2
        refine a_puti F inX0 tyX0 tyX0_ok nmX0 hP hD hS 39 8 tc_39 rfl rfl (by decide) q409 (fun _ h9 => h9) rfl (ty := .int) (tyX0_ok 8 (by decide)) rfl rfl dX0_live_54 (fun H locs hP hD hS => ?_)
        have hR := hR.si (c := 39) (k := 8) (v := v2) ⟨i_lo _, i_hi _⟩
        have hF := hF.si (c := 39) (k := 8) (v := v2) rfl
        have hK_DBI := sp_si sp_DBI hK_DBI (c := 39) (k := 8) (v := v2) (fun j9 h9 q9 => by rw [q9] at h9; exact absurd h9 (by decide))
        refine a_iincX F (k := 1) (fun v3 => [(1, .int v3), (0, .ref (ad 39))]) dX0_live_57 hl rfl rfl (by decide) (by omega) (by decide) (fun _ => rfl) (fun v3 ls hv3 yv3 hl => ?_)
        have hC := vl_eq hC yv3
        refine lv_goto (tgt := 12) F.1 F.2.1 dX0_live_60 (by decide) ?_
        exact ih12 v3 _ _ _ _ hR hF (by omega) hK_DBI (by omega) (by omega : (0 : Int) ≤ (u.1 39 7).toInt ∧ (u.1 39 7).toInt ≤ 6) hC hP hD hS (lv_sub hl [1, 0] rfl)
      unfold K_X0_live_39_12_b at hC
      refine lv_iload_n F.1 F.2.1 dX0_live_12 rfl (lv_at hl 1 rfl) ?_
      refine lv_aload_n F.1 F.2.1 dX0_live_13 rfl (lv_at hl 0 rfl) ?_
      have g4 : (0 : Int) ≤ (u.1 39 6).toInt ∧ (u.1 39 6).toInt ≤ 40 := hR 39 6
      refine a_geti F inX0 hP 39 6 tc_39 rfl rfl (by decide) q405 (fun _ h9 => h9) (v := (u.1 39 6)) rfl dX0_live_14 ?_
      refine b_ge F 63 dX0_live_17 (by decide) rfl rfl (fun c5 => ?_) (fun c5 => ?_)
      · have hC := hC.trans (if_pos c5)
        exact L63 _ _ _ _ hR hF hK_DBI (by omega : (0 : Int) ≤ (u.1 39 7).toInt ∧ (u.1 39 7).toInt ≤ 6) hC hP hD hS (lv_sub hl [0] rfl)
      · have hC := hC.trans (if_neg (by omega))
        refine lv_aload_n F.1 F.2.1 dX0_live_20 rfl (lv_at hl 0 rfl) ?_
        refine a_geti F inX0 hP 39 7 tc_39 rfl rfl (by decide) q407 (fun _ h9 => h9) (v := (u.1 39 7)) rfl dX0_live_21 ?_
        refine z_ne F 63 dX0_live_24 (by decide) rfl (fun c6 => ?_) (fun c6 => ?_)
        · have hC := hC.trans (if_pos c6)
          exact L63 _ _ _ _ hR hF hK_DBI (by omega : (0 : Int) ≤ (u.1 39 7).toInt ∧ (u.1 39 7).toInt ≤ 6) hC hP hD hS (lv_sub hl [0] rfl)
        · have hC := hC.trans (if_neg (by omega))
          refine lv_aload_n F.1 F.2.1 dX0_live_27 rfl (lv_at hl 0 rfl) ?_
          refine lv_aload_n F.1 F.2.1 dX0_live_28 rfl (lv_at hl 0 rfl) ?_
          refine lv_iload_n F.1 F.2.1 dX0_live_29 rfl (lv_at hl 1 rfl) ?_
          refine a_Vi F hml hl.1 hA hP hD hS (As := [.int x1]) (x_X0_liveLine_39 l dC dI ad cA nF _ x1 hR (by omega) (by exact (by omega : x1.toInt < (u.1 39 6).toInt)) hK_DBI) (cs_RX0_96 (d := 5) F.2.2.1 (by decide)) tc_39 rfl rfl rfl rfl (Nat.le_of_ble_eq_true rfl) dX0_live_30 ⟨Nat.le_refl 0, Nat.le_refl 0⟩ (fun r7 u7 H locs hq hP hD hS => ?_)
          obtain ⟨hR, hF7, gr7, hz7⟩ := hq
          have hF := hF.tr hF7 (by decide)
          have hK_DBI := sp_fr sp_DBI hF7 (by decide) hK_DBI
          have hC := bd_eq hC hz7
          refine a_puti F inX0 tyX0 tyX0_ok nmX0 hP hD hS 39 7 tc_39 rfl rfl (by decide) q407 (fun _ h9 => h9) rfl (ty := .int) (tyX0_ok 7 (by decide)) rfl rfl dX0_live_33 (fun H locs hP hD hS => ?_)
          have hR := hR.si (c := 39) (k := 7) (v := r7) ⟨i_lo _, i_hi _⟩
          have hF := hF.si (c := 39) (k := 7) (v := r7) rfl
          have hK_DBI := sp_si sp_DBI hK_DBI (c := 39) (k := 7) (v := r7) (fun j9 h9 q9 => by rw [q9] at h9; exact absurd h9 (by decide))
          refine lv_aload_n F.1 F.2.1 dX0_live_36 rfl (lv_at hl 0 rfl) ?_
          refine lv_dup F.1 F.2.1 dX0_live_37 rfl ?_
          refine a_geti F inX0 hP 39 8 tc_39 rfl rfl (by decide) q409 (fun _ h9 => h9) (v := (u7.1 39 8)) rfl dX0_live_38 ?_
          refine lv_aload_n F.1 F.2.1 dX0_live_41 rfl (lv_at hl 0 rfl) ?_
          refine a_geti F inX0 hP 39 7 tc_39 rfl rfl (by decide) q407 (fun _ h9 => h9) (v := r7) (rfl) dX0_live_42 ?_
          refine z_ne F 52 dX0_live_45 (by decide) rfl (fun c8 => ?_) (fun c8 => ?_)
          · have hC := hC.trans (if_pos c8)
            refine a_ic F (0 : Int32) dX0_live_52 (by decide) ?_
            exact L53 x1 (u7.1 39 8) (0 : Int32) _ _ _ _ hR hF hK_DBI (by omega) (by decide) (i_trB (hF7 39 6 rfl) (by omega : (1 : Int) ≤ (u.1 39 6).toInt ∧ (u.1 39 6).toInt ≤ 40)) (by omega : (0 : Int) ≤ r7.toInt ∧ r7.toInt ≤ 6) (by omega) hC hP hD hS (lv_sub hl [0, 1] rfl)
          · have hC := hC.trans (if_neg (by omega))
            refine a_ic F (1 : Int32) dX0_live_48 (by decide) ?_
            refine lv_goto (tgt := 53) F.1 F.2.1 dX0_live_49 (by decide) ?_
            exact L53 x1 (u7.1 39 8) (1 : Int32) _ _ _ _ hR hF hK_DBI (by omega) (by decide) (i_trB (hF7 39 6 rfl) (by omega : (1 : Int) ≤ (u.1 39 6).toInt ∧ (u.1 39 6).toInt ≤ 40)) (by omega : (0 : Int) ≤ r7.toInt ∧ r7.toInt ≤ 6) (by omega) hC hP hD hS (lv_sub hl [0, 1] rfl)
  have hC : RR = f_X0_live_39 u0 := hRR
  unfold f_X0_live_39 at hC
  refine lv_aload_n F.1 F.2.1 dX0_live_0 rfl (lv_at hl 0 rfl) ?_
  refine a_ic F (0 : Int32) dX0_live_1 (by decide) ?_
  refine a_puti F inX0 tyX0 tyX0_ok nmX0 hP hD hS 39 7 tc_39 rfl rfl (by decide) q407 (fun _ h9 => h9) rfl (ty := .int) (tyX0_ok 7 (by decide)) rfl rfl dX0_live_2 (fun H locs hP hD hS => ?_)
  have hR := hR.si (c := 39) (k := 7) (v := (0 : Int32)) ⟨i_lo _, i_hi _⟩
  have hF := hF.si (c := 39) (k := 7) (v := (0 : Int32)) rfl
  have hK_DBI := sp_si sp_DBI hK_DBI (c := 39) (k := 7) (v := (0 : Int32)) (fun j9 h9 q9 => by rw [q9] at h9; exact absurd h9 (by decide))
  refine lv_aload_n F.1 F.2.1 dX0_live_5 rfl (lv_at hl 0 rfl) ?_
  refine a_ic F (0 : Int32) dX0_live_6 (by decide) ?_
  refine a_puti F inX0 tyX0 tyX0_ok nmX0 hP hD hS 39 8 tc_39 rfl rfl (by decide) q409 (fun _ h9 => h9) rfl (ty := .int) (tyX0_ok 8 (by decide)) rfl rfl dX0_live_7 (fun H locs hP hD hS => ?_)
  have hR := hR.si (c := 39) (k := 8) (v := (0 : Int32)) ⟨i_lo _, i_hi _⟩
  have hF := hF.si (c := 39) (k := 8) (v := (0 : Int32)) rfl
  have hK_DBI := sp_si sp_DBI hK_DBI (c := 39) (k := 8) (v := (0 : Int32)) (fun j9 h9 q9 => by rw [q9] at h9; exact absurd h9 (by decide))
  refine a_ic F (0 : Int32) dX0_live_10 (by decide) ?_
  refine lv_istore_n (lv' := [(1, .int (0 : Int32)), (0, .ref (ad 39))]) F.1 F.2.1 dX0_live_11 rfl hl (by decide) rfl (fun ls hl => ?_)
  exact L12 42 (0 : Int32) _ _ _ _ hR hF (by decide) hK_DBI (by decide) (by omega : (0 : Int) ≤ (0 : Int) ∧ (0 : Int) ≤ 6) hC hP hD hS (lv_sub hl [1, 0] rfl)

def f_X0_sortBehind (u0 : ac_U) (p0 : Int32) : Int32 := (if p0.toInt < 110 ∨ 112 < p0.toInt then (-1 : Int32) else (if p0.toInt = 110 then (0 : Int32) else (if p0.toInt = 111 then (2 : Int32) else (3 : Int32))))
set_option maxHeartbeats 600000 in
set_option maxRecDepth 100000 in
theorem x_X0_sortBehind (l : Launch) (dC : Nat → ClassId) (dI : Nat → Nat → Nat) (ad : Nat → Nat) (cA : Nat → ClassId) (nF : Nat) (u0 : ac_U) (p0 : Int32) (hR : ac_R rg u0) (hp0 : (-128 : Int) ≤ p0.toInt ∧ p0.toInt ≤ 127) : ac_Mi l yX0_sortBehind (.code yX0_sortBehind cX0_sortBehind 1 (some .int) :: TB) 1 (dC, dI) vwCl (ac_ty cA) ad cA (TT nF) [.int p0] u0 (fun (r : Int32) (u : ac_U) => u = u0 ∧ ((-1 : Int) ≤ r.toInt ∧ r.toInt ≤ 3) ∧ f_X0_sortBehind u0 p0 = r) := by
  refine ac_Mi.of (cc := cX0_sortBehind) (maxL := 1) (ret := (some .int)) (by decide) rfl (Nat.le_of_ble_eq_true rfl) ?_
  intro p e s m below meth c A ls F hml hr hlocks hA hP hD hS hl
  have F : ac_X p s m [.int p0].toArray c cX0_sortBehind RX0 TB (dC, dI) vwCl (ac_ty cA) := ⟨F.1, F.2.1, fun w h => F.2.2.1 w (List.mem_cons_of_mem _ h), F.2.2.2.1, F.2.2.2.2⟩
  have hl : lv_has ls 1 [(0, .int p0)] := hl
  obtain ⟨RR, hRR⟩ : ∃ q, q = f_X0_sortBehind u0 p0 := ⟨_, rfl⟩
  have hC : RR = f_X0_sortBehind u0 p0 := hRR
  unfold f_X0_sortBehind at hC
  refine lv_iload_n F.1 F.2.1 dX0_sortBehind_0 rfl (lv_at hl 0 rfl) ?_
  rcases (show (p0.toInt < 110 ∨ 112 < p0.toInt) ∨ p0.toInt = 110 ∨ p0.toInt = 111 ∨ p0.toInt = 112 by omega) with c1 | c1 | c1 | c1
  · have hC := hC.trans (if_pos c1)
    refine lv_tableOut (tgt := 34) F.1 F.2.1 dX0_sortBehind_1 c1 (by decide) ?_
    refine a_ic F (-1 : Int32) dX0_sortBehind_34 (by decide) ?_
    exact a_reti F hr hlocks hP hD hS dX0_sortBehind_35 ⟨rfl, (by decide), hRR.symm.trans hC⟩
  · have hC := hC.trans (if_neg (by omega))
    have hC := hC.trans (if_pos c1)
    refine lv_tableIn (tgt := 28) F.1 F.2.1 dX0_sortBehind_1 (by omega) (by omega) (by rw [c1]; rfl) (by decide) ?_
    refine a_ic F (0 : Int32) dX0_sortBehind_28 (by decide) ?_
    exact a_reti F hr hlocks hP hD hS dX0_sortBehind_29 ⟨rfl, (by decide), hRR.symm.trans hC⟩
  · have hC := hC.trans (if_neg (by omega))
    have hC := hC.trans (if_neg (by omega))
    have hC := hC.trans (if_pos c1)
    refine lv_tableIn (tgt := 30) F.1 F.2.1 dX0_sortBehind_1 (by omega) (by omega) (by rw [c1]; rfl) (by decide) ?_
    refine a_ic F (2 : Int32) dX0_sortBehind_30 (by decide) ?_
    exact a_reti F hr hlocks hP hD hS dX0_sortBehind_31 ⟨rfl, (by decide), hRR.symm.trans hC⟩
  · have hC := hC.trans (if_neg (by omega))
    have hC := hC.trans (if_neg (by omega))
    have hC := hC.trans (if_neg (by omega))
    refine lv_tableIn (tgt := 32) F.1 F.2.1 dX0_sortBehind_1 (by omega) (by omega) (by rw [c1]; rfl) (by decide) ?_
    refine a_ic F (3 : Int32) dX0_sortBehind_32 (by decide) ?_
    exact a_reti F hr hlocks hP hD hS dX0_sortBehind_33 ⟨rfl, (by decide), hRR.symm.trans hC⟩

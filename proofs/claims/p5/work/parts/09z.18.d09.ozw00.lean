
def f_X6_hoursLeft_24 (u0 : ac_U) : Int32 := (vl ((20 : Int32) * (u0.1 4 0)) (fun (v2 : Int32) => (vl (v2 - (u0.1 25 0)) (fun (v4 : Int32) => v4))))
set_option maxHeartbeats 600000 in
set_option maxRecDepth 100000 in
theorem x_X6_hoursLeft_24 (l : Launch) (dC : Nat → ClassId) (dI : Nat → Nat → Nat) (ad : Nat → Nat) (cA : Nat → ClassId) (nF : Nat) (u0 : ac_U)  (hR : ac_R rg u0) : ac_Mi l yX6_hoursLeft (.code yX6_hoursLeft cX6_hoursLeft 1 (some .int) :: TB) 1 (dC, dI) vwCl (ac_ty cA) ad cA (TT nF) [.ref (ad 24)] u0 (fun (r : Int32) (u : ac_U) => u = u0 ∧ ((-400 : Int) ≤ r.toInt ∧ r.toInt ≤ 480) ∧ (r.toInt = 20 * (u0.1 4 0).toInt - (u0.1 25 0).toInt) ∧ f_X6_hoursLeft_24 u0 = r) := by
  refine ac_Mi.of (cc := cX6_hoursLeft) (maxL := 1) (ret := (some .int)) (by decide) rfl (Nat.le_of_ble_eq_true rfl) ?_
  intro p e s m below meth c A ls F hml hr hlocks hA hP hD hS hl
  have F : ac_X p s m [.ref (ad 24)].toArray c cX6_hoursLeft RX6 TB (dC, dI) vwCl (ac_ty cA) := ⟨F.1, F.2.1, fun w h => F.2.2.1 w (List.mem_cons_of_mem _ h), F.2.2.2.1, F.2.2.2.2⟩
  have hl : lv_has ls 1 [(0, .ref (ad 24))] := hl
  obtain ⟨RR, hRR⟩ : ∃ q, q = f_X6_hoursLeft_24 u0 := ⟨_, rfl⟩
  have hC : RR = f_X6_hoursLeft_24 u0 := hRR
  unfold f_X6_hoursLeft_24 at hC
  refine a_bp F (20 : Int32) dX6_hoursLeft_0 (by decide) ?_
  refine lv_aload_n F.1 F.2.1 dX6_hoursLeft_2 rfl (lv_at hl 0 rfl) ?_
  refine a_getr F inX6 hP 24 0 tc_24 rfl rfl (by decide) q271 (fun _ h9 => h9) dX6_hoursLeft_3 ?_
  have g1 : (4 : Int) ≤ (u0.1 4 0).toInt ∧ (u0.1 4 0).toInt ≤ 24 := hR 4 0
  refine a_geti F inX2 hP 4 0 tc_4 rfl rfl (by decide) q154 (fun _ h9 => h9) (v := (u0.1 4 0)) rfl dX6_hoursLeft_6 ?_
  refine a_imulX F dX6_hoursLeft_9 ic_20 rfl (by omega) (fun v2 hv2 yv2 => ?_)
  have hC := vl_eq hC yv2
  refine lv_aload_n F.1 F.2.1 dX6_hoursLeft_10 rfl (lv_at hl 0 rfl) ?_
  refine a_getr F inX6 hP 24 1 tc_24 rfl rfl (by decide) q272 (fun _ h9 => h9) dX6_hoursLeft_11 ?_
  refine a_ic F (0 : Int32) dX6_hoursLeft_14 (by decide) ?_
  have g3 : (0 : Int) ≤ (u0.1 25 0).toInt ∧ (u0.1 25 0).toInt ≤ 480 := hR 25 0
  refine a_ialdK F hP 25 0 tc_25 rfl rfl (i_in ic_0 (by omega)) (v := (u0.1 25 0)) rfl dX6_hoursLeft_15 ?_
  refine a_isubX F dX6_hoursLeft_16 rfl rfl (by omega) (fun v4 hv4 yv4 => ?_)
  have hC := vl_eq hC yv4
  exact a_reti F hr hlocks hP hD hS dX6_hoursLeft_17 ⟨rfl, (by omega : (-400 : Int) ≤ v4.toInt ∧ v4.toInt ≤ 480), (by omega : v4.toInt = 20 * (u0.1 4 0).toInt - (u0.1 25 0).toInt), hRR.symm.trans hC⟩

def f_X6_passHours_24 (u0 : ac_U) (p0 : Int32) : ac_U × Int32 := (vl (f_X6_hoursLeft_24 u0) (fun (r1 : Int32) => (vl (if r1 < p0 then r1 else p0) (fun (v4 : Int32) => (vl ((u0.1 25 0) + v4) (fun (v5 : Int32) => ((pI (pI u0 25 0 v5) 25 1 (0 : Int32)), v4)))))))
set_option maxHeartbeats 600000 in
set_option maxRecDepth 100000 in
theorem x_X6_passHours_24 (l : Launch) (dC : Nat → ClassId) (dI : Nat → Nat → Nat) (ad : Nat → Nat) (cA : Nat → ClassId) (nF : Nat) (u0 : ac_U) (p0 : Int32) (hR : ac_R rg u0) (hp0 : (0 : Int) ≤ p0.toInt ∧ p0.toInt ≤ 99) : ac_Mi l yX6_passHours (.code yX6_passHours cX6_passHours 3 (some .int) :: TB) 2 (dC, dI) vwCl (ac_ty cA) ad cA (TT nF) [.ref (ad 24), .int p0] u0 (fun (r : Int32) (u : ac_U) => ac_R rg u ∧ ac_Fr [(25, none)] u0 u ∧ ((-400 : Int) ≤ r.toInt ∧ r.toInt ≤ 99) ∧ f_X6_passHours_24 u0 p0 = (u, r)) := by
  refine ac_Mi.of (cc := cX6_passHours) (maxL := 3) (ret := (some .int)) (by decide) rfl (Nat.le_of_ble_eq_true rfl) ?_
  intro p e s m below meth c A ls F hml hr hlocks hA hP hD hS hl
  have F : ac_X p s m [.ref (ad 24), .int p0].toArray c cX6_passHours RX6 TB (dC, dI) vwCl (ac_ty cA) := ⟨F.1, F.2.1, fun w h => F.2.2.1 w (List.mem_cons_of_mem _ h), F.2.2.2.1, F.2.2.2.2⟩
  have hl : lv_has ls 3 [(0, .ref (ad 24)), (1, .int p0)] := hl
  obtain ⟨RR, hRR⟩ : ∃ q, q = f_X6_passHours_24 u0 p0 := ⟨_, rfl⟩
  have hF : ac_Fr [(25, none)] u0 u0 := ac_Fr.rf
  have hC : RR = f_X6_passHours_24 u0 p0 := hRR
  unfold f_X6_passHours_24 at hC
  refine lv_iload_n F.1 F.2.1 dX6_passHours_0 rfl (lv_at hl 1 rfl) ?_
  refine lv_aload_n F.1 F.2.1 dX6_passHours_1 rfl (lv_at hl 0 rfl) ?_
  refine a_Vi F hml hl.1 hA hP hD hS (As := []) (x_X6_hoursLeft_24 l dC dI ad cA nF _  hR) (cs_RX6_64 (d := 1) F.2.2.1 (by decide)) tc_24 rfl rfl rfl rfl (Nat.le_of_ble_eq_true rfl) dX6_passHours_2 ⟨Nat.le_refl 0, Nat.le_refl 0⟩ (fun r1 uN1 H locs hq hP hD hS => ?_)
  obtain ⟨hu1, gr1, xr1, hz1⟩ := hq
  rw [hu1] at hP hD
  have g2 : (4 : Int) ≤ (u0.1 4 0).toInt ∧ (u0.1 4 0).toInt ≤ 24 := hR 4 0
  have g3 : (0 : Int) ≤ (u0.1 25 0).toInt ∧ (u0.1 25 0).toInt ≤ 480 := hR 25 0
  have xr1 : r1.toInt = 20 * (u0.1 4 0).toInt - (u0.1 25 0).toInt := xr1
  have hC := vl_eq hC hz1.symm
  refine va_mmin F.1 F.2.1 (hml.trans hl.1.symm) F.2.2.2.1 (F.2.2.1 _ q882) (F.2.2.1 _ q825) (F.2.2.1 _ q24) (F.2.2.1 _ q826) (by decide) (Nat.le_of_ble_eq_true rfl) (Nat.le_refl 0) (Nat.le_refl 0) dX6_passHours_5 ?_
  refine lv_topi (fun v4 ev4 => ?_)
  have hv4 := i_min rfl rfl ev4
  have hC := vl_eq hC ev4
  refine lv_istore_n (lv' := [(2, .int v4), (0, .ref (ad 24)), (1, .int p0)]) F.1 F.2.1 dX6_passHours_8 rfl hl (by decide) rfl (fun ls hl => ?_)
  refine lv_aload_n F.1 F.2.1 dX6_passHours_9 rfl (lv_at hl 1 rfl) ?_
  refine a_getr F inX6 hP 24 1 tc_24 rfl rfl (by decide) q272 (fun _ h9 => h9) dX6_passHours_10 ?_
  refine a_ic F (0 : Int32) dX6_passHours_13 (by decide) ?_
  refine lv_dup2_11 F.1 F.2.1 dX6_passHours_14 rfl rfl ?_
  refine a_ialdK F hP 25 0 tc_25 rfl rfl (i_in ic_0 (by omega)) (v := (u0.1 25 0)) (rfl) dX6_passHours_15 ?_
  refine lv_iload_n F.1 F.2.1 dX6_passHours_16 rfl (lv_at hl 0 rfl) ?_
  refine a_iaddX F dX6_passHours_17 rfl rfl (by omega) (fun v5 hv5 yv5 => ?_)
  have hC := vl_eq hC yv5
  refine a_iastK F hP hD hS 25 0 tc_25 rfl rfl (i_in ic_0 (by omega)) dX6_passHours_18 (fun H locs hP hD hS => ?_)
  have hR := hR.si (c := 25) (k := 0) (v := v5) (by omega : (0 : Int) ≤ v5.toInt ∧ v5.toInt ≤ 480)
  have hF := hF.si (c := 25) (k := 0) (v := v5) rfl
  refine lv_aload_n F.1 F.2.1 dX6_passHours_19 rfl (lv_at hl 1 rfl) ?_
  refine a_getr F inX6 hP 24 1 tc_24 rfl rfl (by decide) q272 (fun _ h9 => h9) dX6_passHours_20 ?_
  refine a_ic F (1 : Int32) dX6_passHours_23 (by decide) ?_
  refine a_ic F (0 : Int32) dX6_passHours_24 (by decide) ?_
  refine a_iastK F hP hD hS 25 1 tc_25 rfl rfl (i_in ic_1 (by omega)) dX6_passHours_25 (fun H locs hP hD hS => ?_)
  have hR := hR.si (c := 25) (k := 1) (v := (0 : Int32)) ⟨i_lo _, i_hi _⟩
  have hF := hF.si (c := 25) (k := 1) (v := (0 : Int32)) rfl
  refine lv_iload_n F.1 F.2.1 dX6_passHours_26 rfl (lv_at hl 0 rfl) ?_
  exact a_reti F hr hlocks hP hD hS dX6_passHours_27 ⟨hR, hF, (by omega : (-400 : Int) ≤ v4.toInt ∧ v4.toInt ≤ 99), hRR.symm.trans hC⟩

def f_X0_liveHours_39 (u0 : ac_U) (p0 : Int32) : ac_U × Int32 := (vl (f_X6_hoursLeft_24 u0) (fun (r1 : Int32) => (if p0.toInt ≤ r1.toInt then (bd (f_X6_passHours_24 u0 p0) (fun (u5 : ac_U) (r5 : Int32) => (u5, (0 : Int32)))) else (u0, (3 : Int32)))))
set_option maxHeartbeats 600000 in
set_option maxRecDepth 100000 in
theorem x_X0_liveHours_39 (l : Launch) (dC : Nat → ClassId) (dI : Nat → Nat → Nat) (ad : Nat → Nat) (cA : Nat → ClassId) (nF : Nat) (u0 : ac_U) (p0 : Int32) (hR : ac_R rg u0) (hp0 : (0 : Int) ≤ p0.toInt ∧ p0.toInt ≤ 99) : ac_Mi l yX0_liveHours (.code yX0_liveHours cX0_liveHours 2 (some .int) :: TB) 3 (dC, dI) vwCl (ac_ty cA) ad cA (TT nF) [.ref (ad 39), .int p0] u0 (fun (r : Int32) (u : ac_U) => ac_R rg u ∧ ac_Fr [(25, none)] u0 u ∧ ((0 : Int) ≤ r.toInt ∧ r.toInt ≤ 3) ∧ f_X0_liveHours_39 u0 p0 = (u, r)) := by
  refine ac_Mi.of (cc := cX0_liveHours) (maxL := 2) (ret := (some .int)) (by decide) rfl (Nat.le_of_ble_eq_true rfl) ?_
  intro p e s m below meth c A ls F hml hr hlocks hA hP hD hS hl
  have F : ac_X p s m [.ref (ad 39), .int p0].toArray c cX0_liveHours RX0 TB (dC, dI) vwCl (ac_ty cA) := ⟨F.1, F.2.1, fun w h => F.2.2.1 w (List.mem_cons_of_mem _ h), F.2.2.2.1, F.2.2.2.2⟩
  have hl : lv_has ls 2 [(0, .ref (ad 39)), (1, .int p0)] := hl
  obtain ⟨RR, hRR⟩ : ∃ q, q = f_X0_liveHours_39 u0 p0 := ⟨_, rfl⟩
  have hF : ac_Fr [(25, none)] u0 u0 := ac_Fr.rf
  have hC : RR = f_X0_liveHours_39 u0 p0 := hRR
  unfold f_X0_liveHours_39 at hC
  refine lv_aload_n F.1 F.2.1 dX0_liveHours_0 rfl (lv_at hl 0 rfl) ?_
  refine a_getr F inX0 hP 39 2 tc_39 rfl rfl (by decide) q401 (fun _ h9 => h9) dX0_liveHours_1 ?_
  refine a_Vi F hml hl.1 hA hP hD hS (As := []) (x_X6_hoursLeft_24 l dC dI ad cA nF _  hR) (cs_RX0_117 (d := 1) F.2.2.1 (by decide)) tc_24 rfl rfl rfl rfl (Nat.le_of_ble_eq_true rfl) dX0_liveHours_4 ⟨Nat.le_refl 0, Nat.le_refl 0⟩ (fun r1 uN1 H locs hq hP hD hS => ?_)
  obtain ⟨hu1, gr1, xr1, hz1⟩ := hq
  rw [hu1] at hP hD
  have g2 : (4 : Int) ≤ (u0.1 4 0).toInt ∧ (u0.1 4 0).toInt ≤ 24 := hR 4 0
  have g3 : (0 : Int) ≤ (u0.1 25 0).toInt ∧ (u0.1 25 0).toInt ≤ 480 := hR 25 0
  have xr1 : r1.toInt = 20 * (u0.1 4 0).toInt - (u0.1 25 0).toInt := xr1
  have hC := vl_eq hC hz1.symm
  refine lv_iload_n F.1 F.2.1 dX0_liveHours_7 rfl (lv_at hl 1 rfl) ?_
  refine b_ge F 13 dX0_liveHours_8 (by decide) rfl rfl (fun c4 => ?_) (fun c4 => ?_)
  · have hC := hC.trans (if_pos c4)
    refine lv_aload_n F.1 F.2.1 dX0_liveHours_13 rfl (lv_at hl 0 rfl) ?_
    refine a_getr F inX0 hP 39 2 tc_39 rfl rfl (by decide) q401 (fun _ h9 => h9) dX0_liveHours_14 ?_
    refine lv_iload_n F.1 F.2.1 dX0_liveHours_17 rfl (lv_at hl 1 rfl) ?_
    refine a_Vi F hml hl.1 hA hP hD hS (As := [.int p0]) (x_X6_passHours_24 l dC dI ad cA nF _ p0 hR (by omega)) (cs_RX0_121 (d := 2) F.2.2.1 (by decide)) tc_24 rfl rfl rfl rfl (Nat.le_of_ble_eq_true rfl) dX0_liveHours_18 ⟨Nat.le_refl 0, Nat.le_refl 0⟩ (fun r5 u5 H locs hq hP hD hS => ?_)
    obtain ⟨hR, hF5, gr5, hz5⟩ := hq
    have hF := hF.tr hF5 (by decide)
    have hC := bd_eq hC hz5
    refine lv_pop F.1 F.2.1 dX0_liveHours_21 rfl ?_
    refine a_ic F (0 : Int32) dX0_liveHours_22 (by decide) ?_
    exact a_reti F hr hlocks hP hD hS dX0_liveHours_23 ⟨hR, hF, (by decide), hRR.symm.trans hC⟩
  · have hC := hC.trans (if_neg (by omega))
    refine a_ic F (3 : Int32) dX0_liveHours_11 (by decide) ?_
    exact a_reti F hr hlocks hP hD hS dX0_liveHours_12 ⟨hR, hF, (by decide), hRR.symm.trans hC⟩

def f_X6_isBusy_24 (u0 : ac_U) (p0 : Int32) : Int32 := (vl ((u0.1 25 1) >>> (p0 &&& 31)) (fun (v1 : Int32) => (vl (v1 &&& (1 : Int32)) (fun (v2 : Int32) => (if v2.toInt ≠ (1 : Int) then (0 : Int32) else (1 : Int32))))))
set_option maxHeartbeats 600000 in
set_option maxRecDepth 100000 in
theorem x_X6_isBusy_24 (l : Launch) (dC : Nat → ClassId) (dI : Nat → Nat → Nat) (ad : Nat → Nat) (cA : Nat → ClassId) (nF : Nat) (u0 : ac_U) (p0 : Int32) (hR : ac_R rg u0) (hp0 : (0 : Int) ≤ p0.toInt ∧ p0.toInt ≤ 3) : ac_Mi l yX6_isBusy (.code yX6_isBusy cX6_isBusy 2 (some .boolean) :: TB) 1 (dC, dI) vwCl (ac_ty cA) ad cA (TT nF) [.ref (ad 24), .int p0] u0 (fun (r : Int32) (u : ac_U) => u = u0 ∧ ((0 : Int) ≤ r.toInt ∧ r.toInt ≤ 1) ∧ f_X6_isBusy_24 u0 p0 = r) := by
  refine ac_Mi.of (cc := cX6_isBusy) (maxL := 2) (ret := (some .boolean)) (by decide) rfl (Nat.le_of_ble_eq_true rfl) ?_
  intro p e s m below meth c A ls F hml hr hlocks hA hP hD hS hl
  have F : ac_X p s m [.ref (ad 24), .int p0].toArray c cX6_isBusy RX6 TB (dC, dI) vwCl (ac_ty cA) := ⟨F.1, F.2.1, fun w h => F.2.2.1 w (List.mem_cons_of_mem _ h), F.2.2.2.1, F.2.2.2.2⟩
  have hl : lv_has ls 2 [(0, .ref (ad 24)), (1, .int p0)] := hl
  obtain ⟨RR, hRR⟩ : ∃ q, q = f_X6_isBusy_24 u0 p0 := ⟨_, rfl⟩
  have hC : RR = f_X6_isBusy_24 u0 p0 := hRR
  unfold f_X6_isBusy_24 at hC
  refine lv_aload_n F.1 F.2.1 dX6_isBusy_0 rfl (lv_at hl 0 rfl) ?_
  refine a_getr F inX6 hP 24 1 tc_24 rfl rfl (by decide) q272 (fun _ h9 => h9) dX6_isBusy_1 ?_
  refine a_ic F (1 : Int32) dX6_isBusy_4 (by decide) ?_
  refine a_ialdK F hP 25 1 tc_25 rfl rfl (i_in ic_1 (by omega)) (v := (u0.1 25 1)) rfl dX6_isBusy_5 ?_
  refine lv_iload_n F.1 F.2.1 dX6_isBusy_6 rfl (lv_at hl 1 rfl) ?_
  refine a_ishrUX F dX6_isBusy_7 (fun v1 yv1 => ?_)
  have hC := vl_eq hC yv1
  refine a_ic F (1 : Int32) dX6_isBusy_8 (by decide) ?_
  refine a_iandMX F dX6_isBusy_9 ic_1 (by omega) (fun v2 hv2 yv2 => ?_)
  have hC := vl_eq hC yv2
  refine a_ic F (1 : Int32) dX6_isBusy_10 (by decide) ?_
  refine b_ne F 18 dX6_isBusy_11 (by decide) rfl ic_1 (fun c3 => ?_) (fun c3 => ?_)
  · have hC := hC.trans (if_pos c3)
    refine a_ic F (0 : Int32) dX6_isBusy_18 (by decide) ?_
    exact a_retz F hr hlocks hP hD hS dX6_isBusy_19 (Or.inl rfl) ⟨rfl, (by decide), hRR.symm.trans hC⟩
  · have hC := hC.trans (if_neg (by omega))
    refine a_ic F (1 : Int32) dX6_isBusy_14 (by decide) ?_
    refine lv_goto (tgt := 19) F.1 F.2.1 dX6_isBusy_15 (by decide) ?_
    exact a_retz F hr hlocks hP hD hS dX6_isBusy_19 (Or.inr rfl) ⟨rfl, (by decide), hRR.symm.trans hC⟩

def f_X6_isOver_24 (u0 : ac_U) : Int32 := (vl (f_X6_hoursLeft_24 u0) (fun (r1 : Int32) => (if 0 < r1.toInt then (0 : Int32) else (1 : Int32))))
set_option maxHeartbeats 600000 in
set_option maxRecDepth 100000 in
theorem x_X6_isOver_24 (l : Launch) (dC : Nat → ClassId) (dI : Nat → Nat → Nat) (ad : Nat → Nat) (cA : Nat → ClassId) (nF : Nat) (u0 : ac_U)  (hR : ac_R rg u0) : ac_Mi l yX6_isOver (.code yX6_isOver cX6_isOver 1 (some .boolean) :: TB) 2 (dC, dI) vwCl (ac_ty cA) ad cA (TT nF) [.ref (ad 24)] u0 (fun (r : Int32) (u : ac_U) => u = u0 ∧ ((0 : Int) ≤ r.toInt ∧ r.toInt ≤ 1) ∧ (r.toInt = 0 → (u0.1 25 0).toInt < 20 * (u0.1 4 0).toInt) ∧ f_X6_isOver_24 u0 = r) := by
  refine ac_Mi.of (cc := cX6_isOver) (maxL := 1) (ret := (some .boolean)) (by decide) rfl (Nat.le_of_ble_eq_true rfl) ?_
  intro p e s m below meth c A ls F hml hr hlocks hA hP hD hS hl
  have F : ac_X p s m [.ref (ad 24)].toArray c cX6_isOver RX6 TB (dC, dI) vwCl (ac_ty cA) := ⟨F.1, F.2.1, fun w h => F.2.2.1 w (List.mem_cons_of_mem _ h), F.2.2.2.1, F.2.2.2.2⟩
  have hl : lv_has ls 1 [(0, .ref (ad 24))] := hl
  obtain ⟨RR, hRR⟩ : ∃ q, q = f_X6_isOver_24 u0 := ⟨_, rfl⟩
  have hC : RR = f_X6_isOver_24 u0 := hRR
  unfold f_X6_isOver_24 at hC
  refine lv_aload_n F.1 F.2.1 dX6_isOver_0 rfl (lv_at hl 0 rfl) ?_
  refine a_Vi F hml hl.1 hA hP hD hS (As := []) (x_X6_hoursLeft_24 l dC dI ad cA nF _  hR) (cs_RX6_64 (d := 1) F.2.2.1 (by decide)) tc_24 rfl rfl rfl rfl (Nat.le_of_ble_eq_true rfl) dX6_isOver_1 ⟨Nat.le_refl 0, Nat.le_refl 0⟩ (fun r1 uN1 H locs hq hP hD hS => ?_)
  obtain ⟨hu1, gr1, xr1, hz1⟩ := hq
  rw [hu1] at hP hD
  have g2 : (4 : Int) ≤ (u0.1 4 0).toInt ∧ (u0.1 4 0).toInt ≤ 24 := hR 4 0
  have g3 : (0 : Int) ≤ (u0.1 25 0).toInt ∧ (u0.1 25 0).toInt ≤ 480 := hR 25 0
  have xr1 : r1.toInt = 20 * (u0.1 4 0).toInt - (u0.1 25 0).toInt := xr1
  have hC := vl_eq hC hz1.symm
  refine z_gt F 11 dX6_isOver_4 (by decide) rfl (fun c4 => ?_) (fun c4 => ?_)
  · have hC := hC.trans (if_pos c4)
    refine a_ic F (0 : Int32) dX6_isOver_11 (by decide) ?_
    exact a_retz F hr hlocks hP hD hS dX6_isOver_12 (Or.inl rfl) ⟨rfl, (by decide), (by first | exact (by omega : (0 : Int) = 0 → (u0.1 25 0).toInt < 20 * (u0.1 4 0).toInt) | (rw [ic_0]; exact (by omega : (0 : Int) = 0 → (u0.1 25 0).toInt < 20 * (u0.1 4 0).toInt))), hRR.symm.trans hC⟩
  · have hC := hC.trans (if_neg (by omega))
    refine a_ic F (1 : Int32) dX6_isOver_7 (by decide) ?_
    refine lv_goto (tgt := 12) F.1 F.2.1 dX6_isOver_8 (by decide) ?_
    exact a_retz F hr hlocks hP hD hS dX6_isOver_12 (Or.inr rfl) ⟨rfl, (by decide), (by first | exact (by omega : (1 : Int) = 0 → (u0.1 25 0).toInt < 20 * (u0.1 4 0).toInt) | (rw [ic_1]; exact (by omega : (1 : Int) = 0 → (u0.1 25 0).toInt < 20 * (u0.1 4 0).toInt))), hRR.symm.trans hC⟩

def f_X6_whyNotDo_24 (u0 : ac_U) (p0 : Int32) : Int32 := (vl (f_X6_isBusy_24 u0 p0) (fun (r1 : Int32) => (if r1.toInt = 0 then (vl (f_X6_isOver_24 u0) (fun (r3 : Int32) => (if r3.toInt = 0 then (if (u0.1 25 2).toInt < (80 : Int) then (0 : Int32) else (4 : Int32)) else (3 : Int32)))) else (1 : Int32))))
set_option maxHeartbeats 600000 in
set_option maxRecDepth 100000 in
theorem x_X6_whyNotDo_24 (l : Launch) (dC : Nat → ClassId) (dI : Nat → Nat → Nat) (ad : Nat → Nat) (cA : Nat → ClassId) (nF : Nat) (u0 : ac_U) (p0 : Int32) (hR : ac_R rg u0) (hp0 : (0 : Int) ≤ p0.toInt ∧ p0.toInt ≤ 3) : ac_Mi l yX6_whyNotDo (.code yX6_whyNotDo cX6_whyNotDo 2 (some .int) :: TB) 3 (dC, dI) vwCl (ac_ty cA) ad cA (TT nF) [.ref (ad 24), .int p0] u0 (fun (r : Int32) (u : ac_U) => u = u0 ∧ ((0 : Int) ≤ r.toInt ∧ r.toInt ≤ 4) ∧ (r.toInt = 0 → (u0.1 25 2).toInt ≤ 79) ∧ f_X6_whyNotDo_24 u0 p0 = r) := by
  refine ac_Mi.of (cc := cX6_whyNotDo) (maxL := 2) (ret := (some .int)) (by decide) rfl (Nat.le_of_ble_eq_true rfl) ?_
  intro p e s m below meth c A ls F hml hr hlocks hA hP hD hS hl
  have F : ac_X p s m [.ref (ad 24), .int p0].toArray c cX6_whyNotDo RX6 TB (dC, dI) vwCl (ac_ty cA) := ⟨F.1, F.2.1, fun w h => F.2.2.1 w (List.mem_cons_of_mem _ h), F.2.2.2.1, F.2.2.2.2⟩
  have hl : lv_has ls 2 [(0, .ref (ad 24)), (1, .int p0)] := hl
  obtain ⟨RR, hRR⟩ : ∃ q, q = f_X6_whyNotDo_24 u0 p0 := ⟨_, rfl⟩
  have hC : RR = f_X6_whyNotDo_24 u0 p0 := hRR
  unfold f_X6_whyNotDo_24 at hC
  refine lv_aload_n F.1 F.2.1 dX6_whyNotDo_0 rfl (lv_at hl 0 rfl) ?_
  refine lv_iload_n F.1 F.2.1 dX6_whyNotDo_1 rfl (lv_at hl 1 rfl) ?_
  refine a_Vi F hml hl.1 hA hP hD hS (As := [.int p0]) (x_X6_isBusy_24 l dC dI ad cA nF _ p0 hR (by omega)) (cs_RX6_68 (d := 1) F.2.2.1 (by decide)) tc_24 rfl rfl rfl rfl (Nat.le_of_ble_eq_true rfl) dX6_whyNotDo_2 ⟨Nat.le_refl 0, Nat.le_refl 0⟩ (fun r1 uN1 H locs hq hP hD hS => ?_)
  obtain ⟨hu1, gr1, hz1⟩ := hq
  rw [hu1] at hP hD
  have hC := vl_eq hC hz1.symm
  refine z_eq F 10 dX6_whyNotDo_5 (by decide) rfl (fun c2 => ?_) (fun c2 => ?_)
  · have hC := hC.trans (if_pos c2)
    refine lv_aload_n F.1 F.2.1 dX6_whyNotDo_10 rfl (lv_at hl 0 rfl) ?_
    refine a_Vi F hml hl.1 hA hP hD hS (As := []) (x_X6_isOver_24 l dC dI ad cA nF _  hR) (cs_RX6_76 (d := 2) F.2.2.1 (by decide)) tc_24 rfl rfl rfl rfl (Nat.le_of_ble_eq_true rfl) dX6_whyNotDo_11 ⟨Nat.le_refl 0, Nat.le_refl 0⟩ (fun r3 uN3 H locs hq hP hD hS => ?_)
    obtain ⟨hu3, gr3, xr3, hz3⟩ := hq
    rw [hu3] at hP hD
    have g4 : (0 : Int) ≤ (u0.1 25 0).toInt ∧ (u0.1 25 0).toInt ≤ 480 := hR 25 0
    have g5 : (4 : Int) ≤ (u0.1 4 0).toInt ∧ (u0.1 4 0).toInt ≤ 24 := hR 4 0
    have xr3 : r3.toInt = 0 → (u0.1 25 0).toInt < 20 * (u0.1 4 0).toInt := xr3
    have hC := vl_eq hC hz3.symm
    refine z_eq F 19 dX6_whyNotDo_14 (by decide) rfl (fun c6 => ?_) (fun c6 => ?_)
    · have hC := hC.trans (if_pos c6)
      refine lv_aload_n F.1 F.2.1 dX6_whyNotDo_19 rfl (lv_at hl 0 rfl) ?_
      refine a_getr F inX6 hP 24 1 tc_24 rfl rfl (by decide) q272 (fun _ h9 => h9) dX6_whyNotDo_20 ?_
      refine a_ic F (2 : Int32) dX6_whyNotDo_23 (by decide) ?_
      have g7 : (0 : Int) ≤ (u0.1 25 2).toInt ∧ (u0.1 25 2).toInt ≤ 80 := hR 25 2
      refine a_ialdK F hP 25 2 tc_25 rfl rfl (i_in ic_2 (by omega)) (v := (u0.1 25 2)) rfl dX6_whyNotDo_24 ?_
      refine a_bp F (80 : Int32) dX6_whyNotDo_25 (by decide) ?_
      refine b_lt F 34 dX6_whyNotDo_27 (by decide) rfl ic_80 (fun c8 => ?_) (fun c8 => ?_)
      · have hC := hC.trans (if_pos c8)
        refine a_ic F (0 : Int32) dX6_whyNotDo_34 (by decide) ?_
        exact a_reti F hr hlocks hP hD hS dX6_whyNotDo_35 ⟨rfl, (by decide), (by first | exact (by omega : (0 : Int) = 0 → (u0.1 25 2).toInt ≤ 79) | (rw [ic_0]; exact (by omega : (0 : Int) = 0 → (u0.1 25 2).toInt ≤ 79))), hRR.symm.trans hC⟩
      · have hC := hC.trans (if_neg (by omega))
        refine a_ic F (4 : Int32) dX6_whyNotDo_30 (by decide) ?_
        refine lv_goto (tgt := 35) F.1 F.2.1 dX6_whyNotDo_31 (by decide) ?_
        exact a_reti F hr hlocks hP hD hS dX6_whyNotDo_35 ⟨rfl, (by decide), (by first | exact (by omega : (4 : Int) = 0 → (u0.1 25 2).toInt ≤ 79) | (rw [ic_4]; exact (by omega : (4 : Int) = 0 → (u0.1 25 2).toInt ≤ 79))), hRR.symm.trans hC⟩
    · have hC := hC.trans (if_neg (by omega))
      refine a_ic F (3 : Int32) dX6_whyNotDo_17 (by decide) ?_
      exact a_reti F hr hlocks hP hD hS dX6_whyNotDo_18 ⟨rfl, (by decide), (by first | exact (by omega : (3 : Int) = 0 → (u0.1 25 2).toInt ≤ 79) | (rw [ic_3]; exact (by omega : (3 : Int) = 0 → (u0.1 25 2).toInt ≤ 79))), hRR.symm.trans hC⟩
  · have hC := hC.trans (if_neg (by omega))
    refine a_ic F (1 : Int32) dX6_whyNotDo_8 (by decide) ?_
    exact a_reti F hr hlocks hP hD hS dX6_whyNotDo_9 ⟨rfl, (by decide), (by first | exact (by omega : (1 : Int) = 0 → (u0.1 25 2).toInt ≤ 79) | (rw [ic_1]; exact (by omega : (1 : Int) = 0 → (u0.1 25 2).toInt ≤ 79))), hRR.symm.trans hC⟩
def K_X6_tryDo_24_107 (u0 : ac_U) (p0 : Int32) (p1 : Int32) (u : ac_U) (x3 : Int32) : ac_U × Int32 := (u, x3)
def f_X6_tryDo_24 (u0 : ac_U) (p0 : Int32) (p1 : Int32) : ac_U × Int32 := (vl (f_X6_whyNotDo_24 u0 p0) (fun (r1 : Int32) => (if r1.toInt ≠ 0 then (K_X6_tryDo_24_107 u0 p0 p1 u0 r1) else (vl ((u0.1 25 2) * (4 : Int32)) (fun (v4 : Int32) => (vl (v4 + (0 : Int32)) (fun (v5 : Int32) => (vl (v4 + (1 : Int32)) (fun (v7 : Int32) => (vl (v4 + (2 : Int32)) (fun (v8 : Int32) => (vl (v4 + (3 : Int32)) (fun (v9 : Int32) => (vl ((3 : Int32) + p0) (fun (v10 : Int32) => (vl ((pI (pI (pI u0 26 v5.toNatClampNeg (u0.1 25 0)) 26 v7.toNatClampNeg p0) 26 v8.toNatClampNeg p1).1 25 v10.toNatClampNeg) (fun (v11 : Int32) => (vl ((1 : Int32) <<< (p0 &&& 31)) (fun (v12 : Int32) => (vl ((u0.1 25 1) ||| v12) (fun (v13 : Int32) => (vl ((u0.1 25 2) + (1 : Int32)) (fun (v14 : Int32) => (vl ((7 : Int32) + p0) (fun (v15 : Int32) => (vl ((pI (pI (pI (pI (pI (pI u0 26 v5.toNatClampNeg (u0.1 25 0)) 26 v7.toNatClampNeg p0) 26 v8.toNatClampNeg p1) 26 v9.toNatClampNeg v11) 25 1 v13) 25 2 v14).1 25 v15.toNatClampNeg) (fun (v16 : Int32) => (vl (v16 + (1 : Int32)) (fun (v17 : Int32) => (K_X6_tryDo_24_107 u0 p0 p1 (pI (pI (pI (pI (pI (pI (pI u0 26 v5.toNatClampNeg (u0.1 25 0)) 26 v7.toNatClampNeg p0) 26 v8.toNatClampNeg p1) 26 v9.toNatClampNeg v11) 25 1 v13) 25 2 v14) 25 v15.toNatClampNeg v17) r1))))))))))))))))))))))))))))))
set_option maxHeartbeats 600000 in
set_option maxRecDepth 100000 in
theorem x_X6_tryDo_24 (l : Launch) (dC : Nat → ClassId) (dI : Nat → Nat → Nat) (ad : Nat → Nat) (cA : Nat → ClassId) (nF : Nat) (u0 : ac_U) (p0 : Int32) (p1 : Int32) (hR : ac_R rg u0) (hp0 : (0 : Int) ≤ p0.toInt ∧ p0.toInt ≤ 3) : ac_Mi l yX6_tryDo (.code yX6_tryDo cX6_tryDo 5 (some .int) :: TB) 4 (dC, dI) vwCl (ac_ty cA) ad cA (TT nF) [.ref (ad 24), .int p0, .int p1] u0 (fun (r : Int32) (u : ac_U) => ac_R rg u ∧ ac_Fr [(25, none), (26, none)] u0 u ∧ ((0 : Int) ≤ r.toInt ∧ r.toInt ≤ 4) ∧ f_X6_tryDo_24 u0 p0 p1 = (u, r)) := by
  refine ac_Mi.of (cc := cX6_tryDo) (maxL := 5) (ret := (some .int)) (by decide) rfl (Nat.le_of_ble_eq_true rfl) ?_
  intro p e s m below meth c A ls F hml hr hlocks hA hP hD hS hl
  have F : ac_X p s m [.ref (ad 24), .int p0, .int p1].toArray c cX6_tryDo RX6 TB (dC, dI) vwCl (ac_ty cA) := ⟨F.1, F.2.1, fun w h => F.2.2.1 w (List.mem_cons_of_mem _ h), F.2.2.2.1, F.2.2.2.2⟩
  have hl : lv_has ls 5 [(0, .ref (ad 24)), (1, .int p0), (2, .int p1)] := hl
  obtain ⟨RR, hRR⟩ : ∃ q, q = f_X6_tryDo_24 u0 p0 p1 := ⟨_, rfl⟩
  have hF : ac_Fr [(25, none), (26, none)] u0 u0 := ac_Fr.rf
  have L107 : ∀ (x3 : Int32) (u : ac_U) (H : Heap) (locs : List Loc) (ls : Array Slot), ac_R rg u → ac_Fr [(25, none), (26, none)] u0 u → (0 : Int) ≤ x3.toInt ∧ x3.toInt ≤ 4 → RR = (K_X6_tryDo_24_107 u0 p0 p1 u x3) → va_P (dC, dI) vwCl (ac_w ad cA (TT nF) u) H → va_D A (ac_w ad cA (TT nF) u) → va_S A s.heap H locs → lv_has ls 5 [(3, .int x3)] → W p l e (ac_rm 4) s m [.ref (ad 24), .int p0, .int p1].toArray below meth c H locs 0 0 (MQ below (va_Qi (fun (r : Int32) (u : ac_U) => ac_R rg u ∧ ac_Fr [(25, none), (26, none)] u0 u ∧ ((0 : Int) ≤ r.toInt ∧ r.toInt ≤ 4) ∧ f_X6_tryDo_24 u0 p0 p1 = (u, r)) (ac_B (dC, dI) vwCl (ac_ty cA) ad cA (TT nF) A) A) [.ref (ad 24), .int p0, .int p1].toArray s 0 0 A) (F0 m 107 ls []) := by
    intro x3 u H locs ls hR hF f0 hC hP hD hS hl
    unfold K_X6_tryDo_24_107 at hC
    refine lv_iload_n F.1 F.2.1 dX6_tryDo_107 rfl (lv_at hl 0 rfl) ?_
    exact a_reti F hr hlocks hP hD hS dX6_tryDo_108 ⟨hR, hF, (by omega : (0 : Int) ≤ x3.toInt ∧ x3.toInt ≤ 4), hRR.symm.trans hC⟩
  have hC : RR = f_X6_tryDo_24 u0 p0 p1 := hRR
  unfold f_X6_tryDo_24 at hC
  refine lv_aload_n F.1 F.2.1 dX6_tryDo_0 rfl (lv_at hl 0 rfl) ?_
  refine lv_iload_n F.1 F.2.1 dX6_tryDo_1 rfl (lv_at hl 1 rfl) ?_
  refine a_Vi F hml hl.1 hA hP hD hS (As := [.int p0]) (x_X6_whyNotDo_24 l dC dI ad cA nF _ p0 hR (by omega)) (cs_RX6_86 (d := 3) F.2.2.1 (by decide)) tc_24 rfl rfl rfl rfl (Nat.le_of_ble_eq_true rfl) dX6_tryDo_2 ⟨Nat.le_refl 0, Nat.le_refl 0⟩ (fun r1 uN1 H locs hq hP hD hS => ?_)
  obtain ⟨hu1, gr1, xr1, hz1⟩ := hq
  rw [hu1] at hP hD
  have g2 : (0 : Int) ≤ (u0.1 25 2).toInt ∧ (u0.1 25 2).toInt ≤ 80 := hR 25 2
  have xr1 : r1.toInt = 0 → (u0.1 25 2).toInt ≤ 79 := xr1
  have hC := vl_eq hC hz1.symm
  refine lv_istore_n (lv' := [(3, .int r1), (0, .ref (ad 24)), (1, .int p0), (2, .int p1)]) F.1 F.2.1 dX6_tryDo_5 rfl hl (by decide) rfl (fun ls hl => ?_)
  refine lv_iload_n F.1 F.2.1 dX6_tryDo_6 rfl (lv_at hl 0 rfl) ?_
  refine z_ne F 107 dX6_tryDo_7 (by decide) rfl (fun c3 => ?_) (fun c3 => ?_)
  · have hC := hC.trans (if_pos c3)
    exact L107 r1 _ _ _ _ hR hF (by omega) hC hP hD hS (lv_sub hl [0] rfl)
  · have hC := hC.trans (if_neg (by omega))
    refine lv_aload_n F.1 F.2.1 dX6_tryDo_10 rfl (lv_at hl 1 rfl) ?_
    refine a_getr F inX6 hP 24 1 tc_24 rfl rfl (by decide) q272 (fun _ h9 => h9) dX6_tryDo_11 ?_
    refine a_ic F (2 : Int32) dX6_tryDo_14 (by decide) ?_
    refine a_ialdK F hP 25 2 tc_25 rfl rfl (i_in ic_2 (by omega)) (v := (u0.1 25 2)) (rfl) dX6_tryDo_15 ?_
    refine a_ic F (4 : Int32) dX6_tryDo_16 (by decide) ?_
    refine a_imulX F dX6_tryDo_17 rfl ic_4 (by omega) (fun v4 hv4 yv4 => ?_)
    have hC := vl_eq hC yv4
    refine lv_istore (lv' := [(4, .int v4), (3, .int r1), (0, .ref (ad 24)), (1, .int p0), (2, .int p1)]) F.1 F.2.1 dX6_tryDo_18 hl (by decide) rfl (fun ls hl => ?_)
    refine lv_aload_n F.1 F.2.1 dX6_tryDo_20 rfl (lv_at hl 2 rfl) ?_
    refine a_getr F inX6 hP 24 2 tc_24 rfl rfl (by decide) q278 (fun _ h9 => h9) dX6_tryDo_21 ?_
    refine lv_iload F.1 F.2.1 dX6_tryDo_24 (lv_at hl 0 rfl) ?_
    refine a_ic F (0 : Int32) dX6_tryDo_26 (by decide) ?_
    refine a_iaddX F dX6_tryDo_27 rfl ic_0 (by omega) (fun v5 hv5 yv5 => ?_)
    have hC := vl_eq hC yv5
    refine lv_aload_n F.1 F.2.1 dX6_tryDo_28 rfl (lv_at hl 2 rfl) ?_
    refine a_getr F inX6 hP 24 1 tc_24 rfl rfl (by decide) q272 (fun _ h9 => h9) dX6_tryDo_29 ?_
    refine a_ic F (0 : Int32) dX6_tryDo_32 (by decide) ?_
    have g6 : (0 : Int) ≤ (u0.1 25 0).toInt ∧ (u0.1 25 0).toInt ≤ 480 := hR 25 0
    refine a_ialdK F hP 25 0 tc_25 rfl rfl (i_in ic_0 (by omega)) (v := (u0.1 25 0)) rfl dX6_tryDo_33 ?_
    refine a_iast F hP hD hS 26 tc_26 rfl (i_in rfl (by omega)) dX6_tryDo_34 (fun H locs hP hD hS => ?_)
    have hR := hR.si (c := 26) (k := v5.toNatClampNeg) (v := (u0.1 25 0)) (rs_26_0_316 (by omega) (by omega : (0 : Int) ≤ (u0.1 25 0).toInt ∧ (u0.1 25 0).toInt ≤ 480))
    have hF := hF.si (c := 26) (k := v5.toNatClampNeg) (v := (u0.1 25 0)) rfl
    refine lv_aload_n F.1 F.2.1 dX6_tryDo_35 rfl (lv_at hl 2 rfl) ?_
    refine a_getr F inX6 hP 24 2 tc_24 rfl rfl (by decide) q278 (fun _ h9 => h9) dX6_tryDo_36 ?_
    refine lv_iload F.1 F.2.1 dX6_tryDo_39 (lv_at hl 0 rfl) ?_
    refine a_ic F (1 : Int32) dX6_tryDo_41 (by decide) ?_
    refine a_iaddX F dX6_tryDo_42 rfl ic_1 (by omega) (fun v7 hv7 yv7 => ?_)
    have hC := vl_eq hC yv7
    refine lv_iload_n F.1 F.2.1 dX6_tryDo_43 rfl (lv_at hl 3 rfl) ?_
    refine a_iast F hP hD hS 26 tc_26 rfl (i_in rfl (by omega)) dX6_tryDo_44 (fun H locs hP hD hS => ?_)
    have hR := hR.si (c := 26) (k := v7.toNatClampNeg) (v := p0) (st_marks (q := (u0.1 25 2).toInt) (j := 1) (by omega) (by decide) (by omega))
    have hF := hF.si (c := 26) (k := v7.toNatClampNeg) (v := p0) rfl
    refine lv_aload_n F.1 F.2.1 dX6_tryDo_45 rfl (lv_at hl 2 rfl) ?_
    refine a_getr F inX6 hP 24 2 tc_24 rfl rfl (by decide) q278 (fun _ h9 => h9) dX6_tryDo_46 ?_
    refine lv_iload F.1 F.2.1 dX6_tryDo_49 (lv_at hl 0 rfl) ?_
    refine a_ic F (2 : Int32) dX6_tryDo_51 (by decide) ?_
    refine a_iaddX F dX6_tryDo_52 rfl ic_2 (by omega) (fun v8 hv8 yv8 => ?_)
    have hC := vl_eq hC yv8
    refine lv_iload_n F.1 F.2.1 dX6_tryDo_53 rfl (lv_at hl 4 rfl) ?_
    refine a_iast F hP hD hS 26 tc_26 rfl (i_in rfl (by omega)) dX6_tryDo_54 (fun H locs hP hD hS => ?_)
    have hR := hR.si (c := 26) (k := v8.toNatClampNeg) (v := p1) (st_marks (q := (u0.1 25 2).toInt) (j := 2) (by omega) (by decide) (by omega))
    have hF := hF.si (c := 26) (k := v8.toNatClampNeg) (v := p1) rfl
    refine lv_aload_n F.1 F.2.1 dX6_tryDo_55 rfl (lv_at hl 2 rfl) ?_
    refine a_getr F inX6 hP 24 2 tc_24 rfl rfl (by decide) q278 (fun _ h9 => h9) dX6_tryDo_56 ?_
    refine lv_iload F.1 F.2.1 dX6_tryDo_59 (lv_at hl 0 rfl) ?_
    refine a_ic F (3 : Int32) dX6_tryDo_61 (by decide) ?_
    refine a_iaddX F dX6_tryDo_62 rfl ic_3 (by omega) (fun v9 hv9 yv9 => ?_)
    have hC := vl_eq hC yv9
    refine lv_aload_n F.1 F.2.1 dX6_tryDo_63 rfl (lv_at hl 2 rfl) ?_
    refine a_getr F inX6 hP 24 1 tc_24 rfl rfl (by decide) q272 (fun _ h9 => h9) dX6_tryDo_64 ?_
    refine a_ic F (3 : Int32) dX6_tryDo_67 (by decide) ?_
    refine lv_iload_n F.1 F.2.1 dX6_tryDo_68 rfl (lv_at hl 3 rfl) ?_
    refine a_iaddX F dX6_tryDo_69 ic_3 rfl (by omega) (fun v10 hv10 yv10 => ?_)
    have hC := vl_eq hC yv10
    refine a_iald F hP 25 tc_25 rfl (i_in rfl (by omega)) dX6_tryDo_70 (fun v11 ev11 => ?_)
    have hC := vl_eq hC ev11.symm
    have hv11 : (0 : Int) ≤ v11.toInt ∧ v11.toInt ≤ 7 := rg_seg_25_3_6 hR ev11 (by omega)
    refine a_iast F hP hD hS 26 tc_26 rfl (i_in rfl (by omega)) dX6_tryDo_71 (fun H locs hP hD hS => ?_)
    have hR := hR.si (c := 26) (k := v9.toNatClampNeg) (v := v11) (rs_26_3_319 (by omega) (by omega : (0 : Int) ≤ v11.toInt ∧ v11.toInt ≤ 480))
    have hF := hF.si (c := 26) (k := v9.toNatClampNeg) (v := v11) rfl
    refine lv_aload_n F.1 F.2.1 dX6_tryDo_72 rfl (lv_at hl 2 rfl) ?_
    refine a_getr F inX6 hP 24 1 tc_24 rfl rfl (by decide) q272 (fun _ h9 => h9) dX6_tryDo_73 ?_
    refine a_ic F (1 : Int32) dX6_tryDo_76 (by decide) ?_
    refine lv_dup2_11 F.1 F.2.1 dX6_tryDo_77 rfl rfl ?_
    refine a_ialdK F hP 25 1 tc_25 rfl rfl (i_in ic_1 (by omega)) (v := (u0.1 25 1)) rfl dX6_tryDo_78 ?_
    refine a_ic F (1 : Int32) dX6_tryDo_79 (by decide) ?_
    refine lv_iload_n F.1 F.2.1 dX6_tryDo_80 rfl (lv_at hl 3 rfl) ?_
    refine a_ishl1X F dX6_tryDo_81 rfl (lo := 0) (hi := 3) (by omega) (by decide) (fun v12 hv12 yv12 => ?_)
    have hv12 : (1 : Int) ≤ v12.toInt ∧ v12.toInt ≤ 8 := hv12
    have hC := vl_eq hC yv12
    refine a_iorUX F dX6_tryDo_82 (fun v13 yv13 => ?_)
    have hC := vl_eq hC yv13
    refine a_iastK F hP hD hS 25 1 tc_25 rfl rfl (i_in ic_1 (by omega)) dX6_tryDo_83 (fun H locs hP hD hS => ?_)
    have hR := hR.si (c := 25) (k := 1) (v := v13) ⟨i_lo _, i_hi _⟩
    have hF := hF.si (c := 25) (k := 1) (v := v13) rfl
    refine lv_aload_n F.1 F.2.1 dX6_tryDo_84 rfl (lv_at hl 2 rfl) ?_
    refine a_getr F inX6 hP 24 1 tc_24 rfl rfl (by decide) q272 (fun _ h9 => h9) dX6_tryDo_85 ?_
    refine a_ic F (2 : Int32) dX6_tryDo_88 (by decide) ?_
    refine lv_dup2_11 F.1 F.2.1 dX6_tryDo_89 rfl rfl ?_
    refine a_ialdK F hP 25 2 tc_25 rfl rfl (i_in ic_2 (by omega)) (v := (u0.1 25 2)) (rfl) dX6_tryDo_90 ?_
    refine a_ic F (1 : Int32) dX6_tryDo_91 (by decide) ?_
    refine a_iaddX F dX6_tryDo_92 rfl ic_1 (by omega) (fun v14 hv14 yv14 => ?_)
    have hC := vl_eq hC yv14
    refine a_iastK F hP hD hS 25 2 tc_25 rfl rfl (i_in ic_2 (by omega)) dX6_tryDo_93 (fun H locs hP hD hS => ?_)
    have hR := hR.si (c := 25) (k := 2) (v := v14) (by omega : (0 : Int) ≤ v14.toInt ∧ v14.toInt ≤ 80)
    have hF := hF.si (c := 25) (k := 2) (v := v14) rfl
    refine lv_aload_n F.1 F.2.1 dX6_tryDo_94 rfl (lv_at hl 2 rfl) ?_
    refine a_getr F inX6 hP 24 1 tc_24 rfl rfl (by decide) q272 (fun _ h9 => h9) dX6_tryDo_95 ?_
    refine a_bp F (7 : Int32) dX6_tryDo_98 (by decide) ?_
    refine lv_iload_n F.1 F.2.1 dX6_tryDo_100 rfl (lv_at hl 3 rfl) ?_
    refine a_iaddX F dX6_tryDo_101 ic_7 rfl (by omega) (fun v15 hv15 yv15 => ?_)
    have hC := vl_eq hC yv15
    refine lv_dup2_11 F.1 F.2.1 dX6_tryDo_102 rfl rfl ?_
    refine a_iald F hP 25 tc_25 rfl (i_in rfl (by omega)) dX6_tryDo_103 (fun v16 ev16 => ?_)
    have hC := vl_eq hC ev16.symm
    refine a_ic F (1 : Int32) dX6_tryDo_104 (by decide) ?_
    refine a_iaddUX F dX6_tryDo_105 (fun v17 yv17 => ?_)
    have hC := vl_eq hC yv17
    refine a_iast F hP hD hS 25 tc_25 rfl (i_in rfl (by omega)) dX6_tryDo_106 (fun H locs hP hD hS => ?_)
    have hR := hR.si (c := 25) (k := v15.toNatClampNeg) (v := v17) (rs_25_7_10 (by omega) ⟨i_lo _, i_hi _⟩)
    have hF := hF.si (c := 25) (k := v15.toNatClampNeg) (v := v17) rfl
    exact L107 r1 _ _ _ _ hR hF (by omega) hC hP hD hS (lv_sub hl [1] rfl)

def f_X2_isNear_4 (u0 : ac_U) (p0 : Int32) (p1 : Int32) : Int32 := (vl (u0.1 5 p0.toNatClampNeg) (fun (v1 : Int32) => (vl (v1 >>> (p1 &&& 31)) (fun (v2 : Int32) => (vl (v2 &&& (1 : Int32)) (fun (v3 : Int32) => (if v3.toInt ≠ (1 : Int) then (0 : Int32) else (1 : Int32))))))))
set_option maxHeartbeats 600000 in
set_option maxRecDepth 100000 in
theorem x_X2_isNear_4 (l : Launch) (dC : Nat → ClassId) (dI : Nat → Nat → Nat) (ad : Nat → Nat) (cA : Nat → ClassId) (nF : Nat) (u0 : ac_U) (p0 : Int32) (p1 : Int32) (hR : ac_R rg u0) (hp0 : (0 : Int) ≤ p0.toInt ∧ p0.toInt ≤ 7) : ac_Mi l yX2_isNear (.code yX2_isNear cX2_isNear 3 (some .boolean) :: TB) 1 (dC, dI) vwCl (ac_ty cA) ad cA (TT nF) [.ref (ad 4), .int p0, .int p1] u0 (fun (r : Int32) (u : ac_U) => u = u0 ∧ ((0 : Int) ≤ r.toInt ∧ r.toInt ≤ 1) ∧ f_X2_isNear_4 u0 p0 p1 = r) := by
  refine ac_Mi.of (cc := cX2_isNear) (maxL := 3) (ret := (some .boolean)) (by decide) rfl (Nat.le_of_ble_eq_true rfl) ?_
  intro p e s m below meth c A ls F hml hr hlocks hA hP hD hS hl
  have F : ac_X p s m [.ref (ad 4), .int p0, .int p1].toArray c cX2_isNear RX2 TB (dC, dI) vwCl (ac_ty cA) := ⟨F.1, F.2.1, fun w h => F.2.2.1 w (List.mem_cons_of_mem _ h), F.2.2.2.1, F.2.2.2.2⟩
  have hl : lv_has ls 3 [(0, .ref (ad 4)), (1, .int p0), (2, .int p1)] := hl
  obtain ⟨RR, hRR⟩ : ∃ q, q = f_X2_isNear_4 u0 p0 p1 := ⟨_, rfl⟩
  have hC : RR = f_X2_isNear_4 u0 p0 p1 := hRR
  unfold f_X2_isNear_4 at hC
  refine lv_aload_n F.1 F.2.1 dX2_isNear_0 rfl (lv_at hl 0 rfl) ?_
  refine a_getr F inX2 hP 4 9 tc_4 rfl rfl (by decide) q189 (fun _ h9 => h9) dX2_isNear_1 ?_
  refine lv_iload_n F.1 F.2.1 dX2_isNear_4 rfl (lv_at hl 1 rfl) ?_
  refine a_iald F hP 5 tc_5 rfl (i_in rfl (by omega)) dX2_isNear_5 (fun v1 ev1 => ?_)
  have hC := vl_eq hC ev1.symm
  refine lv_iload_n F.1 F.2.1 dX2_isNear_6 rfl (lv_at hl 2 rfl) ?_
  refine a_ishrUX F dX2_isNear_7 (fun v2 yv2 => ?_)
  have hC := vl_eq hC yv2
  refine a_ic F (1 : Int32) dX2_isNear_8 (by decide) ?_
  refine a_iandMX F dX2_isNear_9 ic_1 (by omega) (fun v3 hv3 yv3 => ?_)
  have hC := vl_eq hC yv3
  refine a_ic F (1 : Int32) dX2_isNear_10 (by decide) ?_
  refine b_ne F 18 dX2_isNear_11 (by decide) rfl ic_1 (fun c4 => ?_) (fun c4 => ?_)
  · have hC := hC.trans (if_pos c4)
    refine a_ic F (0 : Int32) dX2_isNear_18 (by decide) ?_
    exact a_retz F hr hlocks hP hD hS dX2_isNear_19 (Or.inl rfl) ⟨rfl, (by decide), hRR.symm.trans hC⟩
  · have hC := hC.trans (if_neg (by omega))
    refine a_ic F (1 : Int32) dX2_isNear_14 (by decide) ?_
    refine lv_goto (tgt := 19) F.1 F.2.1 dX2_isNear_15 (by decide) ?_
    exact a_retz F hr hlocks hP hD hS dX2_isNear_19 (Or.inr rfl) ⟨rfl, (by decide), hRR.symm.trans hC⟩

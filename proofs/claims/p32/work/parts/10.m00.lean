set_option maxHeartbeats 600000 in
set_option maxRecDepth 100000 in
theorem c_X6_hoursLeft_24 (l : Launch) (dC : Nat → ClassId) (dI : Nat → Nat → Nat) (ad : Nat → Nat) (cA : Nat → ClassId) (nF : Nat) (u0 : ac_U)  (hR : ac_R rg u0) : ac_Mi l yX6_hoursLeft (.code yX6_hoursLeft cX6_hoursLeft 1 (some .int) :: TB) 1 (dC, dI) vwCl (ac_ty cA) ad cA (TT nF) [.ref (ad 24)] u0 (fun (r : Int32) (u : ac_U) => u = u0 ∧ ((-400 : Int) ≤ r.toInt ∧ r.toInt ≤ 480) ∧ (r.toInt = 20 * (u0.1 4 0).toInt - (u0.1 25 0).toInt)) := by
  refine ac_Mi.of (cc := cX6_hoursLeft) (maxL := 1) (ret := (some .int)) (by decide) rfl (Nat.le_of_ble_eq_true rfl) ?_
  intro p e s m below meth c A ls F hml hr hlocks hA hP hD hS hl
  have F : ac_X p s m [.ref (ad 24)].toArray c cX6_hoursLeft RX6 TB (dC, dI) vwCl (ac_ty cA) := ⟨F.1, F.2.1, fun w h => F.2.2.1 w (List.mem_cons_of_mem _ h), F.2.2.2.1, F.2.2.2.2⟩
  have hl : lv_has ls 1 [(0, .ref (ad 24))] := hl
  refine a_bp F (20 : Int32) dX6_hoursLeft_0 (by decide) ?_
  refine lv_aload_n F.1 F.2.1 dX6_hoursLeft_2 rfl (lv_at hl 0 rfl) ?_
  refine a_getr F inX6 hP 24 0 tc_24 rfl rfl (by decide) q271 (fun _ h9 => h9) dX6_hoursLeft_3 ?_
  have g1 : (4 : Int) ≤ (u0.1 4 0).toInt ∧ (u0.1 4 0).toInt ≤ 24 := hR 4 0
  refine a_geti F inX2 hP 4 0 tc_4 rfl rfl (by decide) q154 (fun _ h9 => h9) (v := (u0.1 4 0)) rfl dX6_hoursLeft_6 ?_
  refine a_imul F dX6_hoursLeft_9 ic_20 rfl (by omega) (fun v2 hv2 => ?_)
  refine lv_aload_n F.1 F.2.1 dX6_hoursLeft_10 rfl (lv_at hl 0 rfl) ?_
  refine a_getr F inX6 hP 24 1 tc_24 rfl rfl (by decide) q272 (fun _ h9 => h9) dX6_hoursLeft_11 ?_
  refine a_ic F (0 : Int32) dX6_hoursLeft_14 (by decide) ?_
  have g3 : (0 : Int) ≤ (u0.1 25 0).toInt ∧ (u0.1 25 0).toInt ≤ 480 := hR 25 0
  refine a_ialdK F hP 25 0 tc_25 rfl rfl (i_in ic_0 (by omega)) (v := (u0.1 25 0)) rfl dX6_hoursLeft_15 ?_
  refine a_isub F dX6_hoursLeft_16 rfl rfl (by omega) (fun v4 hv4 => ?_)
  exact a_reti F hr hlocks hP hD hS dX6_hoursLeft_17 ⟨rfl, (by omega : (-400 : Int) ≤ v4.toInt ∧ v4.toInt ≤ 480), (by omega : v4.toInt = 20 * (u0.1 4 0).toInt - (u0.1 25 0).toInt)⟩
set_option maxHeartbeats 600000 in
set_option maxRecDepth 100000 in
theorem c_X6_passHours_24 (l : Launch) (dC : Nat → ClassId) (dI : Nat → Nat → Nat) (ad : Nat → Nat) (cA : Nat → ClassId) (nF : Nat) (u0 : ac_U) (p0 : Int32) (hR : ac_R rg u0) (hp0 : (0 : Int) ≤ p0.toInt ∧ p0.toInt ≤ 99) : ac_Mi l yX6_passHours (.code yX6_passHours cX6_passHours 3 (some .int) :: TB) 2 (dC, dI) vwCl (ac_ty cA) ad cA (TT nF) [.ref (ad 24), .int p0] u0 (fun (r : Int32) (u : ac_U) => ac_R rg u ∧ ac_Fr [(25, none)] u0 u ∧ ((-400 : Int) ≤ r.toInt ∧ r.toInt ≤ 99)) := by
  refine ac_Mi.of (cc := cX6_passHours) (maxL := 3) (ret := (some .int)) (by decide) rfl (Nat.le_of_ble_eq_true rfl) ?_
  intro p e s m below meth c A ls F hml hr hlocks hA hP hD hS hl
  have F : ac_X p s m [.ref (ad 24), .int p0].toArray c cX6_passHours RX6 TB (dC, dI) vwCl (ac_ty cA) := ⟨F.1, F.2.1, fun w h => F.2.2.1 w (List.mem_cons_of_mem _ h), F.2.2.2.1, F.2.2.2.2⟩
  have hl : lv_has ls 3 [(0, .ref (ad 24)), (1, .int p0)] := hl
  have hF : ac_Fr [(25, none)] u0 u0 := ac_Fr.rf
  refine lv_iload_n F.1 F.2.1 dX6_passHours_0 rfl (lv_at hl 1 rfl) ?_
  refine lv_aload_n F.1 F.2.1 dX6_passHours_1 rfl (lv_at hl 0 rfl) ?_
  refine a_Vi F hml hl.1 hA hP hD hS (As := []) (c_X6_hoursLeft_24 l dC dI ad cA nF _  hR) (cs_RX6_64 (d := 1) F.2.2.1 (by decide)) tc_24 rfl rfl rfl rfl (Nat.le_of_ble_eq_true rfl) dX6_passHours_2 ⟨Nat.le_refl 0, Nat.le_refl 0⟩ (fun r1 uN1 H locs hq hP hD hS => ?_)
  obtain ⟨hu1, gr1, xr1⟩ := hq
  rw [hu1] at hP hD
  have g2 : (4 : Int) ≤ (u0.1 4 0).toInt ∧ (u0.1 4 0).toInt ≤ 24 := hR 4 0
  have g3 : (0 : Int) ≤ (u0.1 25 0).toInt ∧ (u0.1 25 0).toInt ≤ 480 := hR 25 0
  have xr1 : r1.toInt = 20 * (u0.1 4 0).toInt - (u0.1 25 0).toInt := xr1
  refine va_mmin F.1 F.2.1 (hml.trans hl.1.symm) F.2.2.2.1 (F.2.2.1 _ q882) (F.2.2.1 _ q825) (F.2.2.1 _ q24) (F.2.2.1 _ q826) (by decide) (Nat.le_of_ble_eq_true rfl) (Nat.le_refl 0) (Nat.le_refl 0) dX6_passHours_5 ?_
  refine lv_topi (fun v4 ev4 => ?_)
  have hv4 := i_min rfl rfl ev4
  refine lv_istore_n (lv' := [(2, .int v4), (0, .ref (ad 24)), (1, .int p0)]) F.1 F.2.1 dX6_passHours_8 rfl hl (by decide) rfl (fun ls hl => ?_)
  refine lv_aload_n F.1 F.2.1 dX6_passHours_9 rfl (lv_at hl 1 rfl) ?_
  refine a_getr F inX6 hP 24 1 tc_24 rfl rfl (by decide) q272 (fun _ h9 => h9) dX6_passHours_10 ?_
  refine a_ic F (0 : Int32) dX6_passHours_13 (by decide) ?_
  refine lv_dup2_11 F.1 F.2.1 dX6_passHours_14 rfl rfl ?_
  refine a_ialdK F hP 25 0 tc_25 rfl rfl (i_in ic_0 (by omega)) (v := (u0.1 25 0)) (rfl) dX6_passHours_15 ?_
  refine lv_iload_n F.1 F.2.1 dX6_passHours_16 rfl (lv_at hl 0 rfl) ?_
  refine a_iadd F dX6_passHours_17 rfl rfl (by omega) (fun v5 hv5 => ?_)
  refine a_iastK F hP hD hS 25 0 tc_25 rfl rfl (i_in ic_0 (by omega)) dX6_passHours_18 (fun H locs hP hD hS => ?_)
  have hR := hR.si (c := 25) (k := 0) (v := v5) (by omega : (0 : Int) ≤ v5.toInt ∧ v5.toInt ≤ 480)
  have hF := hF.si (c := 25) (k := 0) (v := v5) rfl
  refine lv_aload_n F.1 F.2.1 dX6_passHours_19 rfl (lv_at hl 1 rfl) ?_
  refine a_getr F inX6 hP 24 1 tc_24 rfl rfl (by decide) q272 (fun _ h9 => h9) dX6_passHours_20 ?_
  refine a_ic F (1 : Int32) dX6_passHours_23 (by decide) ?_
  refine a_ic F (0 : Int32) dX6_passHours_24 (by decide) ?_
  refine a_iastK F hP hD hS 25 1 tc_25 rfl rfl (i_in ic_1 (by omega)) dX6_passHours_25 (fun H locs hP hD hS => ?_)
  have hR := hR.si (c := 25) (k := 1) (v := (0 : Int32)) ⟨i_lo _, i_hi _⟩
  have hF := hF.si (c := 25) (k := 1) (v := (0 : Int32)) rfl
  refine lv_iload_n F.1 F.2.1 dX6_passHours_26 rfl (lv_at hl 0 rfl) ?_
  exact a_reti F hr hlocks hP hD hS dX6_passHours_27 ⟨hR, hF, (by omega : (-400 : Int) ≤ v4.toInt ∧ v4.toInt ≤ 99)⟩
set_option maxHeartbeats 600000 in
set_option maxRecDepth 100000 in
theorem c_X0_liveHours_39 (l : Launch) (dC : Nat → ClassId) (dI : Nat → Nat → Nat) (ad : Nat → Nat) (cA : Nat → ClassId) (nF : Nat) (u0 : ac_U) (p0 : Int32) (hR : ac_R rg u0) (hp0 : (0 : Int) ≤ p0.toInt ∧ p0.toInt ≤ 99) : ac_Mi l yX0_liveHours (.code yX0_liveHours cX0_liveHours 2 (some .int) :: TB) 3 (dC, dI) vwCl (ac_ty cA) ad cA (TT nF) [.ref (ad 39), .int p0] u0 (fun (r : Int32) (u : ac_U) => ac_R rg u ∧ ac_Fr [(25, none)] u0 u ∧ ((0 : Int) ≤ r.toInt ∧ r.toInt ≤ 3)) := by
  refine ac_Mi.of (cc := cX0_liveHours) (maxL := 2) (ret := (some .int)) (by decide) rfl (Nat.le_of_ble_eq_true rfl) ?_
  intro p e s m below meth c A ls F hml hr hlocks hA hP hD hS hl
  have F : ac_X p s m [.ref (ad 39), .int p0].toArray c cX0_liveHours RX0 TB (dC, dI) vwCl (ac_ty cA) := ⟨F.1, F.2.1, fun w h => F.2.2.1 w (List.mem_cons_of_mem _ h), F.2.2.2.1, F.2.2.2.2⟩
  have hl : lv_has ls 2 [(0, .ref (ad 39)), (1, .int p0)] := hl
  have hF : ac_Fr [(25, none)] u0 u0 := ac_Fr.rf
  refine lv_aload_n F.1 F.2.1 dX0_liveHours_0 rfl (lv_at hl 0 rfl) ?_
  refine a_getr F inX0 hP 39 2 tc_39 rfl rfl (by decide) q401 (fun _ h9 => h9) dX0_liveHours_1 ?_
  refine a_Vi F hml hl.1 hA hP hD hS (As := []) (c_X6_hoursLeft_24 l dC dI ad cA nF _  hR) (cs_RX0_117 (d := 1) F.2.2.1 (by decide)) tc_24 rfl rfl rfl rfl (Nat.le_of_ble_eq_true rfl) dX0_liveHours_4 ⟨Nat.le_refl 0, Nat.le_refl 0⟩ (fun r1 uN1 H locs hq hP hD hS => ?_)
  obtain ⟨hu1, gr1, xr1⟩ := hq
  rw [hu1] at hP hD
  have g2 : (4 : Int) ≤ (u0.1 4 0).toInt ∧ (u0.1 4 0).toInt ≤ 24 := hR 4 0
  have g3 : (0 : Int) ≤ (u0.1 25 0).toInt ∧ (u0.1 25 0).toInt ≤ 480 := hR 25 0
  have xr1 : r1.toInt = 20 * (u0.1 4 0).toInt - (u0.1 25 0).toInt := xr1
  refine lv_iload_n F.1 F.2.1 dX0_liveHours_7 rfl (lv_at hl 1 rfl) ?_
  refine b_ge F 13 dX0_liveHours_8 (by decide) rfl rfl (fun c4 => ?_) (fun c4 => ?_)
  · refine lv_aload_n F.1 F.2.1 dX0_liveHours_13 rfl (lv_at hl 0 rfl) ?_
    refine a_getr F inX0 hP 39 2 tc_39 rfl rfl (by decide) q401 (fun _ h9 => h9) dX0_liveHours_14 ?_
    refine lv_iload_n F.1 F.2.1 dX0_liveHours_17 rfl (lv_at hl 1 rfl) ?_
    refine a_Vi F hml hl.1 hA hP hD hS (As := [.int p0]) (c_X6_passHours_24 l dC dI ad cA nF _ p0 hR (by omega)) (cs_RX0_121 (d := 2) F.2.2.1 (by decide)) tc_24 rfl rfl rfl rfl (Nat.le_of_ble_eq_true rfl) dX0_liveHours_18 ⟨Nat.le_refl 0, Nat.le_refl 0⟩ (fun r5 u5 H locs hq hP hD hS => ?_)
    obtain ⟨hR, hF5, gr5⟩ := hq
    have hF := hF.tr hF5 (by decide)
    refine lv_pop F.1 F.2.1 dX0_liveHours_21 rfl ?_
    refine a_ic F (0 : Int32) dX0_liveHours_22 (by decide) ?_
    exact a_reti F hr hlocks hP hD hS dX0_liveHours_23 ⟨hR, hF, (by decide)⟩
  · refine a_ic F (3 : Int32) dX0_liveHours_11 (by decide) ?_
    exact a_reti F hr hlocks hP hD hS dX0_liveHours_12 ⟨hR, hF, (by decide)⟩
set_option maxHeartbeats 600000 in
set_option maxRecDepth 100000 in
theorem c_X6_isBusy_24 (l : Launch) (dC : Nat → ClassId) (dI : Nat → Nat → Nat) (ad : Nat → Nat) (cA : Nat → ClassId) (nF : Nat) (u0 : ac_U) (p0 : Int32) (hR : ac_R rg u0) (hp0 : (0 : Int) ≤ p0.toInt ∧ p0.toInt ≤ 3) : ac_Mi l yX6_isBusy (.code yX6_isBusy cX6_isBusy 2 (some .boolean) :: TB) 1 (dC, dI) vwCl (ac_ty cA) ad cA (TT nF) [.ref (ad 24), .int p0] u0 (fun (r : Int32) (u : ac_U) => u = u0 ∧ ((0 : Int) ≤ r.toInt ∧ r.toInt ≤ 1)) := by
  refine ac_Mi.of (cc := cX6_isBusy) (maxL := 2) (ret := (some .boolean)) (by decide) rfl (Nat.le_of_ble_eq_true rfl) ?_
  intro p e s m below meth c A ls F hml hr hlocks hA hP hD hS hl
  have F : ac_X p s m [.ref (ad 24), .int p0].toArray c cX6_isBusy RX6 TB (dC, dI) vwCl (ac_ty cA) := ⟨F.1, F.2.1, fun w h => F.2.2.1 w (List.mem_cons_of_mem _ h), F.2.2.2.1, F.2.2.2.2⟩
  have hl : lv_has ls 2 [(0, .ref (ad 24)), (1, .int p0)] := hl
  refine lv_aload_n F.1 F.2.1 dX6_isBusy_0 rfl (lv_at hl 0 rfl) ?_
  refine a_getr F inX6 hP 24 1 tc_24 rfl rfl (by decide) q272 (fun _ h9 => h9) dX6_isBusy_1 ?_
  refine a_ic F (1 : Int32) dX6_isBusy_4 (by decide) ?_
  refine a_ialdK F hP 25 1 tc_25 rfl rfl (i_in ic_1 (by omega)) (v := (u0.1 25 1)) rfl dX6_isBusy_5 ?_
  refine lv_iload_n F.1 F.2.1 dX6_isBusy_6 rfl (lv_at hl 1 rfl) ?_
  refine a_ishrU F dX6_isBusy_7 (fun v1 => ?_)
  refine a_ic F (1 : Int32) dX6_isBusy_8 (by decide) ?_
  refine a_iandM F dX6_isBusy_9 ic_1 (by omega) (fun v2 hv2 => ?_)
  refine a_ic F (1 : Int32) dX6_isBusy_10 (by decide) ?_
  refine b_ne F 18 dX6_isBusy_11 (by decide) rfl ic_1 (fun c3 => ?_) (fun c3 => ?_)
  · refine a_ic F (0 : Int32) dX6_isBusy_18 (by decide) ?_
    exact a_retz F hr hlocks hP hD hS dX6_isBusy_19 (Or.inl rfl) ⟨rfl, (by decide)⟩
  · refine a_ic F (1 : Int32) dX6_isBusy_14 (by decide) ?_
    refine lv_goto (tgt := 19) F.1 F.2.1 dX6_isBusy_15 (by decide) ?_
    exact a_retz F hr hlocks hP hD hS dX6_isBusy_19 (Or.inr rfl) ⟨rfl, (by decide)⟩
set_option maxHeartbeats 600000 in
set_option maxRecDepth 100000 in
theorem c_X6_isOver_24 (l : Launch) (dC : Nat → ClassId) (dI : Nat → Nat → Nat) (ad : Nat → Nat) (cA : Nat → ClassId) (nF : Nat) (u0 : ac_U)  (hR : ac_R rg u0) : ac_Mi l yX6_isOver (.code yX6_isOver cX6_isOver 1 (some .boolean) :: TB) 2 (dC, dI) vwCl (ac_ty cA) ad cA (TT nF) [.ref (ad 24)] u0 (fun (r : Int32) (u : ac_U) => u = u0 ∧ ((0 : Int) ≤ r.toInt ∧ r.toInt ≤ 1) ∧ (r.toInt = 0 → (u0.1 25 0).toInt < 20 * (u0.1 4 0).toInt)) := by
  refine ac_Mi.of (cc := cX6_isOver) (maxL := 1) (ret := (some .boolean)) (by decide) rfl (Nat.le_of_ble_eq_true rfl) ?_
  intro p e s m below meth c A ls F hml hr hlocks hA hP hD hS hl
  have F : ac_X p s m [.ref (ad 24)].toArray c cX6_isOver RX6 TB (dC, dI) vwCl (ac_ty cA) := ⟨F.1, F.2.1, fun w h => F.2.2.1 w (List.mem_cons_of_mem _ h), F.2.2.2.1, F.2.2.2.2⟩
  have hl : lv_has ls 1 [(0, .ref (ad 24))] := hl
  refine lv_aload_n F.1 F.2.1 dX6_isOver_0 rfl (lv_at hl 0 rfl) ?_
  refine a_Vi F hml hl.1 hA hP hD hS (As := []) (c_X6_hoursLeft_24 l dC dI ad cA nF _  hR) (cs_RX6_64 (d := 1) F.2.2.1 (by decide)) tc_24 rfl rfl rfl rfl (Nat.le_of_ble_eq_true rfl) dX6_isOver_1 ⟨Nat.le_refl 0, Nat.le_refl 0⟩ (fun r1 uN1 H locs hq hP hD hS => ?_)
  obtain ⟨hu1, gr1, xr1⟩ := hq
  rw [hu1] at hP hD
  have g2 : (4 : Int) ≤ (u0.1 4 0).toInt ∧ (u0.1 4 0).toInt ≤ 24 := hR 4 0
  have g3 : (0 : Int) ≤ (u0.1 25 0).toInt ∧ (u0.1 25 0).toInt ≤ 480 := hR 25 0
  have xr1 : r1.toInt = 20 * (u0.1 4 0).toInt - (u0.1 25 0).toInt := xr1
  refine z_gt F 11 dX6_isOver_4 (by decide) rfl (fun c4 => ?_) (fun c4 => ?_)
  · refine a_ic F (0 : Int32) dX6_isOver_11 (by decide) ?_
    exact a_retz F hr hlocks hP hD hS dX6_isOver_12 (Or.inl rfl) ⟨rfl, (by decide), (by first | exact (by omega : (0 : Int) = 0 → (u0.1 25 0).toInt < 20 * (u0.1 4 0).toInt) | (rw [ic_0]; exact (by omega : (0 : Int) = 0 → (u0.1 25 0).toInt < 20 * (u0.1 4 0).toInt)))⟩
  · refine a_ic F (1 : Int32) dX6_isOver_7 (by decide) ?_
    refine lv_goto (tgt := 12) F.1 F.2.1 dX6_isOver_8 (by decide) ?_
    exact a_retz F hr hlocks hP hD hS dX6_isOver_12 (Or.inr rfl) ⟨rfl, (by decide), (by first | exact (by omega : (1 : Int) = 0 → (u0.1 25 0).toInt < 20 * (u0.1 4 0).toInt) | (rw [ic_1]; exact (by omega : (1 : Int) = 0 → (u0.1 25 0).toInt < 20 * (u0.1 4 0).toInt)))⟩
set_option maxHeartbeats 600000 in
set_option maxRecDepth 100000 in
theorem c_X6_whyNotDo_24 (l : Launch) (dC : Nat → ClassId) (dI : Nat → Nat → Nat) (ad : Nat → Nat) (cA : Nat → ClassId) (nF : Nat) (u0 : ac_U) (p0 : Int32) (hR : ac_R rg u0) (hp0 : (0 : Int) ≤ p0.toInt ∧ p0.toInt ≤ 3) : ac_Mi l yX6_whyNotDo (.code yX6_whyNotDo cX6_whyNotDo 2 (some .int) :: TB) 3 (dC, dI) vwCl (ac_ty cA) ad cA (TT nF) [.ref (ad 24), .int p0] u0 (fun (r : Int32) (u : ac_U) => u = u0 ∧ ((0 : Int) ≤ r.toInt ∧ r.toInt ≤ 4) ∧ (r.toInt = 0 → (u0.1 25 2).toInt ≤ 79)) := by
  refine ac_Mi.of (cc := cX6_whyNotDo) (maxL := 2) (ret := (some .int)) (by decide) rfl (Nat.le_of_ble_eq_true rfl) ?_
  intro p e s m below meth c A ls F hml hr hlocks hA hP hD hS hl
  have F : ac_X p s m [.ref (ad 24), .int p0].toArray c cX6_whyNotDo RX6 TB (dC, dI) vwCl (ac_ty cA) := ⟨F.1, F.2.1, fun w h => F.2.2.1 w (List.mem_cons_of_mem _ h), F.2.2.2.1, F.2.2.2.2⟩
  have hl : lv_has ls 2 [(0, .ref (ad 24)), (1, .int p0)] := hl
  refine lv_aload_n F.1 F.2.1 dX6_whyNotDo_0 rfl (lv_at hl 0 rfl) ?_
  refine lv_iload_n F.1 F.2.1 dX6_whyNotDo_1 rfl (lv_at hl 1 rfl) ?_
  refine a_Vi F hml hl.1 hA hP hD hS (As := [.int p0]) (c_X6_isBusy_24 l dC dI ad cA nF _ p0 hR (by omega)) (cs_RX6_68 (d := 1) F.2.2.1 (by decide)) tc_24 rfl rfl rfl rfl (Nat.le_of_ble_eq_true rfl) dX6_whyNotDo_2 ⟨Nat.le_refl 0, Nat.le_refl 0⟩ (fun r1 uN1 H locs hq hP hD hS => ?_)
  obtain ⟨hu1, gr1⟩ := hq
  rw [hu1] at hP hD
  refine z_eq F 10 dX6_whyNotDo_5 (by decide) rfl (fun c2 => ?_) (fun c2 => ?_)
  · refine lv_aload_n F.1 F.2.1 dX6_whyNotDo_10 rfl (lv_at hl 0 rfl) ?_
    refine a_Vi F hml hl.1 hA hP hD hS (As := []) (c_X6_isOver_24 l dC dI ad cA nF _  hR) (cs_RX6_76 (d := 2) F.2.2.1 (by decide)) tc_24 rfl rfl rfl rfl (Nat.le_of_ble_eq_true rfl) dX6_whyNotDo_11 ⟨Nat.le_refl 0, Nat.le_refl 0⟩ (fun r3 uN3 H locs hq hP hD hS => ?_)
    obtain ⟨hu3, gr3, xr3⟩ := hq
    rw [hu3] at hP hD
    have g4 : (0 : Int) ≤ (u0.1 25 0).toInt ∧ (u0.1 25 0).toInt ≤ 480 := hR 25 0
    have g5 : (4 : Int) ≤ (u0.1 4 0).toInt ∧ (u0.1 4 0).toInt ≤ 24 := hR 4 0
    have xr3 : r3.toInt = 0 → (u0.1 25 0).toInt < 20 * (u0.1 4 0).toInt := xr3
    refine z_eq F 19 dX6_whyNotDo_14 (by decide) rfl (fun c6 => ?_) (fun c6 => ?_)
    · refine lv_aload_n F.1 F.2.1 dX6_whyNotDo_19 rfl (lv_at hl 0 rfl) ?_
      refine a_getr F inX6 hP 24 1 tc_24 rfl rfl (by decide) q272 (fun _ h9 => h9) dX6_whyNotDo_20 ?_
      refine a_ic F (2 : Int32) dX6_whyNotDo_23 (by decide) ?_
      have g7 : (0 : Int) ≤ (u0.1 25 2).toInt ∧ (u0.1 25 2).toInt ≤ 80 := hR 25 2
      refine a_ialdK F hP 25 2 tc_25 rfl rfl (i_in ic_2 (by omega)) (v := (u0.1 25 2)) rfl dX6_whyNotDo_24 ?_
      refine a_bp F (80 : Int32) dX6_whyNotDo_25 (by decide) ?_
      refine b_lt F 34 dX6_whyNotDo_27 (by decide) rfl ic_80 (fun c8 => ?_) (fun c8 => ?_)
      · refine a_ic F (0 : Int32) dX6_whyNotDo_34 (by decide) ?_
        exact a_reti F hr hlocks hP hD hS dX6_whyNotDo_35 ⟨rfl, (by decide), (by first | exact (by omega : (0 : Int) = 0 → (u0.1 25 2).toInt ≤ 79) | (rw [ic_0]; exact (by omega : (0 : Int) = 0 → (u0.1 25 2).toInt ≤ 79)))⟩
      · refine a_ic F (4 : Int32) dX6_whyNotDo_30 (by decide) ?_
        refine lv_goto (tgt := 35) F.1 F.2.1 dX6_whyNotDo_31 (by decide) ?_
        exact a_reti F hr hlocks hP hD hS dX6_whyNotDo_35 ⟨rfl, (by decide), (by first | exact (by omega : (4 : Int) = 0 → (u0.1 25 2).toInt ≤ 79) | (rw [ic_4]; exact (by omega : (4 : Int) = 0 → (u0.1 25 2).toInt ≤ 79)))⟩
    · refine a_ic F (3 : Int32) dX6_whyNotDo_17 (by decide) ?_
      exact a_reti F hr hlocks hP hD hS dX6_whyNotDo_18 ⟨rfl, (by decide), (by first | exact (by omega : (3 : Int) = 0 → (u0.1 25 2).toInt ≤ 79) | (rw [ic_3]; exact (by omega : (3 : Int) = 0 → (u0.1 25 2).toInt ≤ 79)))⟩
  · refine a_ic F (1 : Int32) dX6_whyNotDo_8 (by decide) ?_
    exact a_reti F hr hlocks hP hD hS dX6_whyNotDo_9 ⟨rfl, (by decide), (by first | exact (by omega : (1 : Int) = 0 → (u0.1 25 2).toInt ≤ 79) | (rw [ic_1]; exact (by omega : (1 : Int) = 0 → (u0.1 25 2).toInt ≤ 79)))⟩
set_option maxHeartbeats 600000 in
set_option maxRecDepth 100000 in
theorem c_X6_tryDo_24 (l : Launch) (dC : Nat → ClassId) (dI : Nat → Nat → Nat) (ad : Nat → Nat) (cA : Nat → ClassId) (nF : Nat) (u0 : ac_U) (p0 : Int32) (p1 : Int32) (hR : ac_R rg u0) (hp0 : (0 : Int) ≤ p0.toInt ∧ p0.toInt ≤ 3) : ac_Mi l yX6_tryDo (.code yX6_tryDo cX6_tryDo 5 (some .int) :: TB) 4 (dC, dI) vwCl (ac_ty cA) ad cA (TT nF) [.ref (ad 24), .int p0, .int p1] u0 (fun (r : Int32) (u : ac_U) => ac_R rg u ∧ ac_Fr [(25, none), (26, none)] u0 u ∧ ((0 : Int) ≤ r.toInt ∧ r.toInt ≤ 4)) := by
  refine ac_Mi.of (cc := cX6_tryDo) (maxL := 5) (ret := (some .int)) (by decide) rfl (Nat.le_of_ble_eq_true rfl) ?_
  intro p e s m below meth c A ls F hml hr hlocks hA hP hD hS hl
  have F : ac_X p s m [.ref (ad 24), .int p0, .int p1].toArray c cX6_tryDo RX6 TB (dC, dI) vwCl (ac_ty cA) := ⟨F.1, F.2.1, fun w h => F.2.2.1 w (List.mem_cons_of_mem _ h), F.2.2.2.1, F.2.2.2.2⟩
  have hl : lv_has ls 5 [(0, .ref (ad 24)), (1, .int p0), (2, .int p1)] := hl
  have hF : ac_Fr [(25, none), (26, none)] u0 u0 := ac_Fr.rf
  have L107 : ∀ (x3 : Int32) (u : ac_U) (H : Heap) (locs : List Loc) (ls : Array Slot), ac_R rg u → ac_Fr [(25, none), (26, none)] u0 u → (0 : Int) ≤ x3.toInt ∧ x3.toInt ≤ 4 → va_P (dC, dI) vwCl (ac_w ad cA (TT nF) u) H → va_D A (ac_w ad cA (TT nF) u) → va_S A s.heap H locs → lv_has ls 5 [(3, .int x3)] → W p l e (ac_rm 4) s m [.ref (ad 24), .int p0, .int p1].toArray below meth c H locs 0 0 (MQ below (va_Qi (fun (r : Int32) (u : ac_U) => ac_R rg u ∧ ac_Fr [(25, none), (26, none)] u0 u ∧ ((0 : Int) ≤ r.toInt ∧ r.toInt ≤ 4)) (ac_B (dC, dI) vwCl (ac_ty cA) ad cA (TT nF) A) A) [.ref (ad 24), .int p0, .int p1].toArray s 0 0 A) (F0 m 107 ls []) := by
    intro x3 u H locs ls hR hF f0 hP hD hS hl
    refine lv_iload_n F.1 F.2.1 dX6_tryDo_107 rfl (lv_at hl 0 rfl) ?_
    exact a_reti F hr hlocks hP hD hS dX6_tryDo_108 ⟨hR, hF, (by omega : (0 : Int) ≤ x3.toInt ∧ x3.toInt ≤ 4)⟩
  refine lv_aload_n F.1 F.2.1 dX6_tryDo_0 rfl (lv_at hl 0 rfl) ?_
  refine lv_iload_n F.1 F.2.1 dX6_tryDo_1 rfl (lv_at hl 1 rfl) ?_
  refine a_Vi F hml hl.1 hA hP hD hS (As := [.int p0]) (c_X6_whyNotDo_24 l dC dI ad cA nF _ p0 hR (by omega)) (cs_RX6_86 (d := 3) F.2.2.1 (by decide)) tc_24 rfl rfl rfl rfl (Nat.le_of_ble_eq_true rfl) dX6_tryDo_2 ⟨Nat.le_refl 0, Nat.le_refl 0⟩ (fun r1 uN1 H locs hq hP hD hS => ?_)
  obtain ⟨hu1, gr1, xr1⟩ := hq
  rw [hu1] at hP hD
  have g2 : (0 : Int) ≤ (u0.1 25 2).toInt ∧ (u0.1 25 2).toInt ≤ 80 := hR 25 2
  have xr1 : r1.toInt = 0 → (u0.1 25 2).toInt ≤ 79 := xr1
  refine lv_istore_n (lv' := [(3, .int r1), (0, .ref (ad 24)), (1, .int p0), (2, .int p1)]) F.1 F.2.1 dX6_tryDo_5 rfl hl (by decide) rfl (fun ls hl => ?_)
  refine lv_iload_n F.1 F.2.1 dX6_tryDo_6 rfl (lv_at hl 0 rfl) ?_
  refine z_ne F 107 dX6_tryDo_7 (by decide) rfl (fun c3 => ?_) (fun c3 => ?_)
  · exact L107 r1 _ _ _ _ hR hF (by omega) hP hD hS (lv_sub hl [0] rfl)
  · refine lv_aload_n F.1 F.2.1 dX6_tryDo_10 rfl (lv_at hl 1 rfl) ?_
    refine a_getr F inX6 hP 24 1 tc_24 rfl rfl (by decide) q272 (fun _ h9 => h9) dX6_tryDo_11 ?_
    refine a_ic F (2 : Int32) dX6_tryDo_14 (by decide) ?_
    refine a_ialdK F hP 25 2 tc_25 rfl rfl (i_in ic_2 (by omega)) (v := (u0.1 25 2)) (rfl) dX6_tryDo_15 ?_
    refine a_ic F (4 : Int32) dX6_tryDo_16 (by decide) ?_
    refine a_imul F dX6_tryDo_17 rfl ic_4 (by omega) (fun v4 hv4 => ?_)
    refine lv_istore (lv' := [(4, .int v4), (3, .int r1), (0, .ref (ad 24)), (1, .int p0), (2, .int p1)]) F.1 F.2.1 dX6_tryDo_18 hl (by decide) rfl (fun ls hl => ?_)
    refine lv_aload_n F.1 F.2.1 dX6_tryDo_20 rfl (lv_at hl 2 rfl) ?_
    refine a_getr F inX6 hP 24 2 tc_24 rfl rfl (by decide) q278 (fun _ h9 => h9) dX6_tryDo_21 ?_
    refine lv_iload F.1 F.2.1 dX6_tryDo_24 (lv_at hl 0 rfl) ?_
    refine a_ic F (0 : Int32) dX6_tryDo_26 (by decide) ?_
    refine a_iadd F dX6_tryDo_27 rfl ic_0 (by omega) (fun v5 hv5 => ?_)
    refine lv_aload_n F.1 F.2.1 dX6_tryDo_28 rfl (lv_at hl 2 rfl) ?_
    refine a_getr F inX6 hP 24 1 tc_24 rfl rfl (by decide) q272 (fun _ h9 => h9) dX6_tryDo_29 ?_
    refine a_ic F (0 : Int32) dX6_tryDo_32 (by decide) ?_
    have g6 : (0 : Int) ≤ (u0.1 25 0).toInt ∧ (u0.1 25 0).toInt ≤ 480 := hR 25 0
    refine a_ialdK F hP 25 0 tc_25 rfl rfl (i_in ic_0 (by omega)) (v := (u0.1 25 0)) rfl dX6_tryDo_33 ?_
    refine a_iast F hP hD hS 26 tc_26 rfl (i_in rfl (by omega)) dX6_tryDo_34 (fun H locs hP hD hS => ?_)
    have hR := hR.si (c := 26) (k := v5.toNatClampNeg) (v := (u0.1 25 0)) (rs_26_0_316 (by omega) (by omega : (0 : Int) ≤ (u0.1 25 0).toInt ∧ (u0.1 25 0).toInt ≤ 480))
    have hF := hF.si (c := 26) (k := v5.toNatClampNeg) (v := (u0.1 25 0)) rfl
    refine lv_aload_n F.1 F.2.1 dX6_tryDo_35 rfl (lv_at hl 2 rfl) ?_
    refine a_getr F inX6 hP 24 2 tc_24 rfl rfl (by decide) q278 (fun _ h9 => h9) dX6_tryDo_36 ?_
    refine lv_iload F.1 F.2.1 dX6_tryDo_39 (lv_at hl 0 rfl) ?_
    refine a_ic F (1 : Int32) dX6_tryDo_41 (by decide) ?_
    refine a_iadd F dX6_tryDo_42 rfl ic_1 (by omega) (fun v7 hv7 => ?_)
    refine lv_iload_n F.1 F.2.1 dX6_tryDo_43 rfl (lv_at hl 3 rfl) ?_
    refine a_iast F hP hD hS 26 tc_26 rfl (i_in rfl (by omega)) dX6_tryDo_44 (fun H locs hP hD hS => ?_)
    have hR := hR.si (c := 26) (k := v7.toNatClampNeg) (v := p0) (st_marks (q := (u0.1 25 2).toInt) (j := 1) (by omega) (by decide) (by omega))
    have hF := hF.si (c := 26) (k := v7.toNatClampNeg) (v := p0) rfl
    refine lv_aload_n F.1 F.2.1 dX6_tryDo_45 rfl (lv_at hl 2 rfl) ?_
    refine a_getr F inX6 hP 24 2 tc_24 rfl rfl (by decide) q278 (fun _ h9 => h9) dX6_tryDo_46 ?_
    refine lv_iload F.1 F.2.1 dX6_tryDo_49 (lv_at hl 0 rfl) ?_
    refine a_ic F (2 : Int32) dX6_tryDo_51 (by decide) ?_
    refine a_iadd F dX6_tryDo_52 rfl ic_2 (by omega) (fun v8 hv8 => ?_)
    refine lv_iload_n F.1 F.2.1 dX6_tryDo_53 rfl (lv_at hl 4 rfl) ?_
    refine a_iast F hP hD hS 26 tc_26 rfl (i_in rfl (by omega)) dX6_tryDo_54 (fun H locs hP hD hS => ?_)
    have hR := hR.si (c := 26) (k := v8.toNatClampNeg) (v := p1) (st_marks (q := (u0.1 25 2).toInt) (j := 2) (by omega) (by decide) (by omega))
    have hF := hF.si (c := 26) (k := v8.toNatClampNeg) (v := p1) rfl
    refine lv_aload_n F.1 F.2.1 dX6_tryDo_55 rfl (lv_at hl 2 rfl) ?_
    refine a_getr F inX6 hP 24 2 tc_24 rfl rfl (by decide) q278 (fun _ h9 => h9) dX6_tryDo_56 ?_
    refine lv_iload F.1 F.2.1 dX6_tryDo_59 (lv_at hl 0 rfl) ?_
    refine a_ic F (3 : Int32) dX6_tryDo_61 (by decide) ?_
    refine a_iadd F dX6_tryDo_62 rfl ic_3 (by omega) (fun v9 hv9 => ?_)
    refine lv_aload_n F.1 F.2.1 dX6_tryDo_63 rfl (lv_at hl 2 rfl) ?_
    refine a_getr F inX6 hP 24 1 tc_24 rfl rfl (by decide) q272 (fun _ h9 => h9) dX6_tryDo_64 ?_
    refine a_ic F (3 : Int32) dX6_tryDo_67 (by decide) ?_
    refine lv_iload_n F.1 F.2.1 dX6_tryDo_68 rfl (lv_at hl 3 rfl) ?_
    refine a_iadd F dX6_tryDo_69 ic_3 rfl (by omega) (fun v10 hv10 => ?_)
    refine a_iald F hP 25 tc_25 rfl (i_in rfl (by omega)) dX6_tryDo_70 (fun v11 ev11 => ?_)
    have hv11 : (0 : Int) ≤ v11.toInt ∧ v11.toInt ≤ 7 := rg_seg_25_3_6 hR ev11 (by omega)
    refine a_iast F hP hD hS 26 tc_26 rfl (i_in rfl (by omega)) dX6_tryDo_71 (fun H locs hP hD hS => ?_)
    have hR := hR.si (c := 26) (k := v9.toNatClampNeg) (v := v11) (rs_26_3_319 (by omega) (by omega : (0 : Int) ≤ v11.toInt ∧ v11.toInt ≤ 480))
    have hF := hF.si (c := 26) (k := v9.toNatClampNeg) (v := v11) rfl
    refine lv_aload_n F.1 F.2.1 dX6_tryDo_72 rfl (lv_at hl 2 rfl) ?_
    refine a_getr F inX6 hP 24 1 tc_24 rfl rfl (by decide) q272 (fun _ h9 => h9) dX6_tryDo_73 ?_
    refine a_ic F (1 : Int32) dX6_tryDo_76 (by decide) ?_
    refine lv_dup2_11 F.1 F.2.1 dX6_tryDo_77 rfl rfl ?_
    refine a_ialdK F hP 25 1 tc_25 rfl rfl (i_in ic_1 (by omega)) (v := (u0.1 25 1)) rfl dX6_tryDo_78 ?_
    refine a_ic F (1 : Int32) dX6_tryDo_79 (by decide) ?_
    refine lv_iload_n F.1 F.2.1 dX6_tryDo_80 rfl (lv_at hl 3 rfl) ?_
    refine a_ishl1 F dX6_tryDo_81 rfl (lo := 0) (hi := 3) (by omega) (by decide) (fun v12 hv12 => ?_)
    have hv12 : (1 : Int) ≤ v12.toInt ∧ v12.toInt ≤ 8 := hv12
    refine a_iorU F dX6_tryDo_82 (fun v13 => ?_)
    refine a_iastK F hP hD hS 25 1 tc_25 rfl rfl (i_in ic_1 (by omega)) dX6_tryDo_83 (fun H locs hP hD hS => ?_)
    have hR := hR.si (c := 25) (k := 1) (v := v13) ⟨i_lo _, i_hi _⟩
    have hF := hF.si (c := 25) (k := 1) (v := v13) rfl
    refine lv_aload_n F.1 F.2.1 dX6_tryDo_84 rfl (lv_at hl 2 rfl) ?_
    refine a_getr F inX6 hP 24 1 tc_24 rfl rfl (by decide) q272 (fun _ h9 => h9) dX6_tryDo_85 ?_
    refine a_ic F (2 : Int32) dX6_tryDo_88 (by decide) ?_
    refine lv_dup2_11 F.1 F.2.1 dX6_tryDo_89 rfl rfl ?_
    refine a_ialdK F hP 25 2 tc_25 rfl rfl (i_in ic_2 (by omega)) (v := (u0.1 25 2)) (rfl) dX6_tryDo_90 ?_
    refine a_ic F (1 : Int32) dX6_tryDo_91 (by decide) ?_
    refine a_iadd F dX6_tryDo_92 rfl ic_1 (by omega) (fun v14 hv14 => ?_)
    refine a_iastK F hP hD hS 25 2 tc_25 rfl rfl (i_in ic_2 (by omega)) dX6_tryDo_93 (fun H locs hP hD hS => ?_)
    have hR := hR.si (c := 25) (k := 2) (v := v14) (by omega : (0 : Int) ≤ v14.toInt ∧ v14.toInt ≤ 80)
    have hF := hF.si (c := 25) (k := 2) (v := v14) rfl
    refine lv_aload_n F.1 F.2.1 dX6_tryDo_94 rfl (lv_at hl 2 rfl) ?_
    refine a_getr F inX6 hP 24 1 tc_24 rfl rfl (by decide) q272 (fun _ h9 => h9) dX6_tryDo_95 ?_
    refine a_bp F (7 : Int32) dX6_tryDo_98 (by decide) ?_
    refine lv_iload_n F.1 F.2.1 dX6_tryDo_100 rfl (lv_at hl 3 rfl) ?_
    refine a_iadd F dX6_tryDo_101 ic_7 rfl (by omega) (fun v15 hv15 => ?_)
    refine lv_dup2_11 F.1 F.2.1 dX6_tryDo_102 rfl rfl ?_
    refine a_iald F hP 25 tc_25 rfl (i_in rfl (by omega)) dX6_tryDo_103 (fun v16 ev16 => ?_)
    refine a_ic F (1 : Int32) dX6_tryDo_104 (by decide) ?_
    refine a_iaddU F dX6_tryDo_105 (fun v17 => ?_)
    refine a_iast F hP hD hS 25 tc_25 rfl (i_in rfl (by omega)) dX6_tryDo_106 (fun H locs hP hD hS => ?_)
    have hR := hR.si (c := 25) (k := v15.toNatClampNeg) (v := v17) (rs_25_7_10 (by omega) ⟨i_lo _, i_hi _⟩)
    have hF := hF.si (c := 25) (k := v15.toNatClampNeg) (v := v17) rfl
    exact L107 r1 _ _ _ _ hR hF (by omega) hP hD hS (lv_sub hl [1] rfl)
set_option maxHeartbeats 600000 in
set_option maxRecDepth 100000 in
theorem c_X2_isNear_4 (l : Launch) (dC : Nat → ClassId) (dI : Nat → Nat → Nat) (ad : Nat → Nat) (cA : Nat → ClassId) (nF : Nat) (u0 : ac_U) (p0 : Int32) (p1 : Int32) (hR : ac_R rg u0) (hp0 : (0 : Int) ≤ p0.toInt ∧ p0.toInt ≤ 7) : ac_Mi l yX2_isNear (.code yX2_isNear cX2_isNear 3 (some .boolean) :: TB) 1 (dC, dI) vwCl (ac_ty cA) ad cA (TT nF) [.ref (ad 4), .int p0, .int p1] u0 (fun (r : Int32) (u : ac_U) => u = u0 ∧ ((0 : Int) ≤ r.toInt ∧ r.toInt ≤ 1)) := by
  refine ac_Mi.of (cc := cX2_isNear) (maxL := 3) (ret := (some .boolean)) (by decide) rfl (Nat.le_of_ble_eq_true rfl) ?_
  intro p e s m below meth c A ls F hml hr hlocks hA hP hD hS hl
  have F : ac_X p s m [.ref (ad 4), .int p0, .int p1].toArray c cX2_isNear RX2 TB (dC, dI) vwCl (ac_ty cA) := ⟨F.1, F.2.1, fun w h => F.2.2.1 w (List.mem_cons_of_mem _ h), F.2.2.2.1, F.2.2.2.2⟩
  have hl : lv_has ls 3 [(0, .ref (ad 4)), (1, .int p0), (2, .int p1)] := hl
  refine lv_aload_n F.1 F.2.1 dX2_isNear_0 rfl (lv_at hl 0 rfl) ?_
  refine a_getr F inX2 hP 4 9 tc_4 rfl rfl (by decide) q189 (fun _ h9 => h9) dX2_isNear_1 ?_
  refine lv_iload_n F.1 F.2.1 dX2_isNear_4 rfl (lv_at hl 1 rfl) ?_
  refine a_iald F hP 5 tc_5 rfl (i_in rfl (by omega)) dX2_isNear_5 (fun v1 ev1 => ?_)
  refine lv_iload_n F.1 F.2.1 dX2_isNear_6 rfl (lv_at hl 2 rfl) ?_
  refine a_ishrU F dX2_isNear_7 (fun v2 => ?_)
  refine a_ic F (1 : Int32) dX2_isNear_8 (by decide) ?_
  refine a_iandM F dX2_isNear_9 ic_1 (by omega) (fun v3 hv3 => ?_)
  refine a_ic F (1 : Int32) dX2_isNear_10 (by decide) ?_
  refine b_ne F 18 dX2_isNear_11 (by decide) rfl ic_1 (fun c4 => ?_) (fun c4 => ?_)
  · refine a_ic F (0 : Int32) dX2_isNear_18 (by decide) ?_
    exact a_retz F hr hlocks hP hD hS dX2_isNear_19 (Or.inl rfl) ⟨rfl, (by decide)⟩
  · refine a_ic F (1 : Int32) dX2_isNear_14 (by decide) ?_
    refine lv_goto (tgt := 19) F.1 F.2.1 dX2_isNear_15 (by decide) ?_
    exact a_retz F hr hlocks hP hD hS dX2_isNear_19 (Or.inr rfl) ⟨rfl, (by decide)⟩
set_option maxHeartbeats 600000 in
set_option maxRecDepth 100000 in
theorem c_X6_whyNotGo_24 (l : Launch) (dC : Nat → ClassId) (dI : Nat → Nat → Nat) (ad : Nat → Nat) (cA : Nat → ClassId) (nF : Nat) (u0 : ac_U) (p0 : Int32) (p1 : Int32) (hR : ac_R rg u0) (hp0 : (0 : Int) ≤ p0.toInt ∧ p0.toInt ≤ 3) (hp1 : (0 : Int) ≤ p1.toInt ∧ p1.toInt ≤ 7) : ac_Mi l yX6_whyNotGo (.code yX6_whyNotGo cX6_whyNotGo 3 (some .int) :: TB) 3 (dC, dI) vwCl (ac_ty cA) ad cA (TT nF) [.ref (ad 24), .int p0, .int p1] u0 (fun (r : Int32) (u : ac_U) => u = u0 ∧ ((0 : Int) ≤ r.toInt ∧ r.toInt ≤ 3)) := by
  refine ac_Mi.of (cc := cX6_whyNotGo) (maxL := 3) (ret := (some .int)) (by decide) rfl (Nat.le_of_ble_eq_true rfl) ?_
  intro p e s m below meth c A ls F hml hr hlocks hA hP hD hS hl
  have F : ac_X p s m [.ref (ad 24), .int p0, .int p1].toArray c cX6_whyNotGo RX6 TB (dC, dI) vwCl (ac_ty cA) := ⟨F.1, F.2.1, fun w h => F.2.2.1 w (List.mem_cons_of_mem _ h), F.2.2.2.1, F.2.2.2.2⟩
  have hl : lv_has ls 3 [(0, .ref (ad 24)), (1, .int p0), (2, .int p1)] := hl
  refine lv_aload_n F.1 F.2.1 dX6_whyNotGo_0 rfl (lv_at hl 0 rfl) ?_
  refine lv_iload_n F.1 F.2.1 dX6_whyNotGo_1 rfl (lv_at hl 1 rfl) ?_
  refine a_Vi F hml hl.1 hA hP hD hS (As := [.int p0]) (c_X6_isBusy_24 l dC dI ad cA nF _ p0 hR (by omega)) (cs_RX6_68 (d := 1) F.2.2.1 (by decide)) tc_24 rfl rfl rfl rfl (Nat.le_of_ble_eq_true rfl) dX6_whyNotGo_2 ⟨Nat.le_refl 0, Nat.le_refl 0⟩ (fun r1 uN1 H locs hq hP hD hS => ?_)
  obtain ⟨hu1, gr1⟩ := hq
  rw [hu1] at hP hD
  refine z_eq F 10 dX6_whyNotGo_5 (by decide) rfl (fun c2 => ?_) (fun c2 => ?_)
  · refine lv_aload_n F.1 F.2.1 dX6_whyNotGo_10 rfl (lv_at hl 0 rfl) ?_
    refine a_getr F inX6 hP 24 0 tc_24 rfl rfl (by decide) q271 (fun _ h9 => h9) dX6_whyNotGo_11 ?_
    refine lv_aload_n F.1 F.2.1 dX6_whyNotGo_14 rfl (lv_at hl 0 rfl) ?_
    refine a_getr F inX6 hP 24 1 tc_24 rfl rfl (by decide) q272 (fun _ h9 => h9) dX6_whyNotGo_15 ?_
    refine a_ic F (3 : Int32) dX6_whyNotGo_18 (by decide) ?_
    refine lv_iload_n F.1 F.2.1 dX6_whyNotGo_19 rfl (lv_at hl 1 rfl) ?_
    refine a_iadd F dX6_whyNotGo_20 ic_3 rfl (by omega) (fun v3 hv3 => ?_)
    refine a_iald F hP 25 tc_25 rfl (i_in rfl (by omega)) dX6_whyNotGo_21 (fun v4 ev4 => ?_)
    have hv4 : (0 : Int) ≤ v4.toInt ∧ v4.toInt ≤ 7 := rg_seg_25_3_6 hR ev4 (by omega)
    refine lv_iload_n F.1 F.2.1 dX6_whyNotGo_22 rfl (lv_at hl 2 rfl) ?_
    refine a_Vi F hml hl.1 hA hP hD hS (As := [.int v4, .int p1]) (c_X2_isNear_4 l dC dI ad cA nF _ v4 p1 hR (by omega)) (cs_RX6_72 (d := 1) F.2.2.1 (by decide)) tc_4 rfl rfl rfl rfl (Nat.le_of_ble_eq_true rfl) dX6_whyNotGo_23 ⟨Nat.le_refl 0, Nat.le_refl 0⟩ (fun r5 uN5 H locs hq hP hD hS => ?_)
    obtain ⟨hu5, gr5⟩ := hq
    rw [hu5] at hP hD
    refine z_ne F 31 dX6_whyNotGo_26 (by decide) rfl (fun c6 => ?_) (fun c6 => ?_)
    · refine lv_aload_n F.1 F.2.1 dX6_whyNotGo_31 rfl (lv_at hl 0 rfl) ?_
      refine a_Vi F hml hl.1 hA hP hD hS (As := []) (c_X6_isOver_24 l dC dI ad cA nF _  hR) (cs_RX6_76 (d := 2) F.2.2.1 (by decide)) tc_24 rfl rfl rfl rfl (Nat.le_of_ble_eq_true rfl) dX6_whyNotGo_32 ⟨Nat.le_refl 0, Nat.le_refl 0⟩ (fun r7 uN7 H locs hq hP hD hS => ?_)
      obtain ⟨hu7, gr7, xr7⟩ := hq
      rw [hu7] at hP hD
      have g8 : (0 : Int) ≤ (u0.1 25 0).toInt ∧ (u0.1 25 0).toInt ≤ 480 := hR 25 0
      have g9 : (4 : Int) ≤ (u0.1 4 0).toInt ∧ (u0.1 4 0).toInt ≤ 24 := hR 4 0
      have xr7 : r7.toInt = 0 → (u0.1 25 0).toInt < 20 * (u0.1 4 0).toInt := xr7
      refine z_eq F 42 dX6_whyNotGo_35 (by decide) rfl (fun c10 => ?_) (fun c10 => ?_)
      · refine a_ic F (0 : Int32) dX6_whyNotGo_42 (by decide) ?_
        exact a_reti F hr hlocks hP hD hS dX6_whyNotGo_43 ⟨rfl, (by decide)⟩
      · refine a_ic F (3 : Int32) dX6_whyNotGo_38 (by decide) ?_
        refine lv_goto (tgt := 43) F.1 F.2.1 dX6_whyNotGo_39 (by decide) ?_
        exact a_reti F hr hlocks hP hD hS dX6_whyNotGo_43 ⟨rfl, (by decide)⟩
    · refine a_ic F (2 : Int32) dX6_whyNotGo_29 (by decide) ?_
      exact a_reti F hr hlocks hP hD hS dX6_whyNotGo_30 ⟨rfl, (by decide)⟩
  · refine a_ic F (1 : Int32) dX6_whyNotGo_8 (by decide) ?_
    exact a_reti F hr hlocks hP hD hS dX6_whyNotGo_9 ⟨rfl, (by decide)⟩
set_option maxHeartbeats 600000 in
set_option maxRecDepth 100000 in
theorem c_X6_tryGo_24 (l : Launch) (dC : Nat → ClassId) (dI : Nat → Nat → Nat) (ad : Nat → Nat) (cA : Nat → ClassId) (nF : Nat) (u0 : ac_U) (p0 : Int32) (p1 : Int32) (hR : ac_R rg u0) (hp0 : (0 : Int) ≤ p0.toInt ∧ p0.toInt ≤ 3) (hp1 : (0 : Int) ≤ p1.toInt ∧ p1.toInt ≤ 7) : ac_Mi l yX6_tryGo (.code yX6_tryGo cX6_tryGo 4 (some .int) :: TB) 4 (dC, dI) vwCl (ac_ty cA) ad cA (TT nF) [.ref (ad 24), .int p0, .int p1] u0 (fun (r : Int32) (u : ac_U) => ac_R rg u ∧ ac_Fr [(25, none)] u0 u ∧ ((0 : Int) ≤ r.toInt ∧ r.toInt ≤ 3)) := by
  refine ac_Mi.of (cc := cX6_tryGo) (maxL := 4) (ret := (some .int)) (by decide) rfl (Nat.le_of_ble_eq_true rfl) ?_
  intro p e s m below meth c A ls F hml hr hlocks hA hP hD hS hl
  have F : ac_X p s m [.ref (ad 24), .int p0, .int p1].toArray c cX6_tryGo RX6 TB (dC, dI) vwCl (ac_ty cA) := ⟨F.1, F.2.1, fun w h => F.2.2.1 w (List.mem_cons_of_mem _ h), F.2.2.2.1, F.2.2.2.2⟩
  have hl : lv_has ls 4 [(0, .ref (ad 24)), (1, .int p0), (2, .int p1)] := hl
  have hF : ac_Fr [(25, none)] u0 u0 := ac_Fr.rf
  have L45 : ∀ (x3 : Int32) (u : ac_U) (H : Heap) (locs : List Loc) (ls : Array Slot), ac_R rg u → ac_Fr [(25, none)] u0 u → (0 : Int) ≤ x3.toInt ∧ x3.toInt ≤ 3 → va_P (dC, dI) vwCl (ac_w ad cA (TT nF) u) H → va_D A (ac_w ad cA (TT nF) u) → va_S A s.heap H locs → lv_has ls 4 [(3, .int x3)] → W p l e (ac_rm 4) s m [.ref (ad 24), .int p0, .int p1].toArray below meth c H locs 0 0 (MQ below (va_Qi (fun (r : Int32) (u : ac_U) => ac_R rg u ∧ ac_Fr [(25, none)] u0 u ∧ ((0 : Int) ≤ r.toInt ∧ r.toInt ≤ 3)) (ac_B (dC, dI) vwCl (ac_ty cA) ad cA (TT nF) A) A) [.ref (ad 24), .int p0, .int p1].toArray s 0 0 A) (F0 m 45 ls []) := by
    intro x3 u H locs ls hR hF f0 hP hD hS hl
    refine lv_iload_n F.1 F.2.1 dX6_tryGo_45 rfl (lv_at hl 0 rfl) ?_
    exact a_reti F hr hlocks hP hD hS dX6_tryGo_46 ⟨hR, hF, (by omega : (0 : Int) ≤ x3.toInt ∧ x3.toInt ≤ 3)⟩
  refine lv_aload_n F.1 F.2.1 dX6_tryGo_0 rfl (lv_at hl 0 rfl) ?_
  refine lv_iload_n F.1 F.2.1 dX6_tryGo_1 rfl (lv_at hl 1 rfl) ?_
  refine lv_iload_n F.1 F.2.1 dX6_tryGo_2 rfl (lv_at hl 2 rfl) ?_
  refine a_Vi F hml hl.1 hA hP hD hS (As := [.int p0, .int p1]) (c_X6_whyNotGo_24 l dC dI ad cA nF _ p0 p1 hR (by omega) (by omega)) (cs_RX6_83 (d := 3) F.2.2.1 (by decide)) tc_24 rfl rfl rfl rfl (Nat.le_of_ble_eq_true rfl) dX6_tryGo_3 ⟨Nat.le_refl 0, Nat.le_refl 0⟩ (fun r1 uN1 H locs hq hP hD hS => ?_)
  obtain ⟨hu1, gr1⟩ := hq
  rw [hu1] at hP hD
  refine lv_istore_n (lv' := [(3, .int r1), (0, .ref (ad 24)), (1, .int p0), (2, .int p1)]) F.1 F.2.1 dX6_tryGo_6 rfl hl (by decide) rfl (fun ls hl => ?_)
  refine lv_iload_n F.1 F.2.1 dX6_tryGo_7 rfl (lv_at hl 0 rfl) ?_
  refine z_ne F 45 dX6_tryGo_8 (by decide) rfl (fun c2 => ?_) (fun c2 => ?_)
  · exact L45 r1 _ _ _ _ hR hF (by omega) hP hD hS (lv_sub hl [0] rfl)
  · refine lv_aload_n F.1 F.2.1 dX6_tryGo_11 rfl (lv_at hl 1 rfl) ?_
    refine a_getr F inX6 hP 24 1 tc_24 rfl rfl (by decide) q272 (fun _ h9 => h9) dX6_tryGo_12 ?_
    refine a_ic F (1 : Int32) dX6_tryGo_15 (by decide) ?_
    refine lv_dup2_11 F.1 F.2.1 dX6_tryGo_16 rfl rfl ?_
    refine a_ialdK F hP 25 1 tc_25 rfl rfl (i_in ic_1 (by omega)) (v := (u0.1 25 1)) rfl dX6_tryGo_17 ?_
    refine a_ic F (1 : Int32) dX6_tryGo_18 (by decide) ?_
    refine lv_iload_n F.1 F.2.1 dX6_tryGo_19 rfl (lv_at hl 2 rfl) ?_
    refine a_ishl1 F dX6_tryGo_20 rfl (lo := 0) (hi := 3) (by omega) (by decide) (fun v3 hv3 => ?_)
    have hv3 : (1 : Int) ≤ v3.toInt ∧ v3.toInt ≤ 8 := hv3
    refine a_iorU F dX6_tryGo_21 (fun v4 => ?_)
    refine a_iastK F hP hD hS 25 1 tc_25 rfl rfl (i_in ic_1 (by omega)) dX6_tryGo_22 (fun H locs hP hD hS => ?_)
    have hR := hR.si (c := 25) (k := 1) (v := v4) ⟨i_lo _, i_hi _⟩
    have hF := hF.si (c := 25) (k := 1) (v := v4) rfl
    refine lv_aload_n F.1 F.2.1 dX6_tryGo_23 rfl (lv_at hl 1 rfl) ?_
    refine a_getr F inX6 hP 24 1 tc_24 rfl rfl (by decide) q272 (fun _ h9 => h9) dX6_tryGo_24 ?_
    refine a_ic F (3 : Int32) dX6_tryGo_27 (by decide) ?_
    refine lv_iload_n F.1 F.2.1 dX6_tryGo_28 rfl (lv_at hl 2 rfl) ?_
    refine a_iadd F dX6_tryGo_29 ic_3 rfl (by omega) (fun v5 hv5 => ?_)
    refine lv_iload_n F.1 F.2.1 dX6_tryGo_30 rfl (lv_at hl 3 rfl) ?_
    refine a_iast F hP hD hS 25 tc_25 rfl (i_in rfl (by omega)) dX6_tryGo_31 (fun H locs hP hD hS => ?_)
    have hR := hR.si (c := 25) (k := v5.toNatClampNeg) (v := p1) (rs_25_3_6 (by omega) (by omega : (0 : Int) ≤ p1.toInt ∧ p1.toInt ≤ 7))
    have hF := hF.si (c := 25) (k := v5.toNatClampNeg) (v := p1) rfl
    refine lv_aload_n F.1 F.2.1 dX6_tryGo_32 rfl (lv_at hl 1 rfl) ?_
    refine a_getr F inX6 hP 24 1 tc_24 rfl rfl (by decide) q272 (fun _ h9 => h9) dX6_tryGo_33 ?_
    refine a_bp F (11 : Int32) dX6_tryGo_36 (by decide) ?_
    refine lv_iload_n F.1 F.2.1 dX6_tryGo_38 rfl (lv_at hl 2 rfl) ?_
    refine a_iadd F dX6_tryGo_39 ic_11 rfl (by omega) (fun v6 hv6 => ?_)
    refine lv_dup2_11 F.1 F.2.1 dX6_tryGo_40 rfl rfl ?_
    refine a_iald F hP 25 tc_25 rfl (i_in rfl (by omega)) dX6_tryGo_41 (fun v7 ev7 => ?_)
    refine a_ic F (1 : Int32) dX6_tryGo_42 (by decide) ?_
    refine a_iaddU F dX6_tryGo_43 (fun v8 => ?_)
    refine a_iast F hP hD hS 25 tc_25 rfl (i_in rfl (by omega)) dX6_tryGo_44 (fun H locs hP hD hS => ?_)
    have hR := hR.si (c := 25) (k := v6.toNatClampNeg) (v := v8) (rs_25_11_14 (by omega) ⟨i_lo _, i_hi _⟩)
    have hF := hF.si (c := 25) (k := v6.toNatClampNeg) (v := v8) rfl
    exact L45 r1 _ _ _ _ hR hF (by omega) hP hD hS (lv_sub hl [0] rfl)
set_option maxHeartbeats 600000 in
set_option maxRecDepth 100000 in
theorem c_X2_term_4 (l : Launch) (dC : Nat → ClassId) (dI : Nat → Nat → Nat) (ad : Nat → Nat) (cA : Nat → ClassId) (nF : Nat) (u0 : ac_U) (p0 : Int32) (p1 : Int32) (hR : ac_R rg u0) (hp0 : (0 : Int) ≤ p0.toInt ∧ p0.toInt ≤ 7) (hp1 : (0 : Int) ≤ p1.toInt ∧ p1.toInt ≤ 7) : ac_Mi l yX2_term (.code yX2_term cX2_term 3 (some .int) :: TB) 1 (dC, dI) vwCl (ac_ty cA) ad cA (TT nF) [.ref (ad 4), .int p0, .int p1] u0 (fun (r : Int32) (u : ac_U) => u = u0 ∧ ((p1.toInt = 2 → 0 ≤ r.toInt ∧ r.toInt ≤ 7) ∧ (p1.toInt = 5 → 0 ≤ r.toInt ∧ r.toInt ≤ 3))) := by
  refine ac_Mi.of (cc := cX2_term) (maxL := 3) (ret := (some .int)) (by decide) rfl (Nat.le_of_ble_eq_true rfl) ?_
  intro p e s m below meth c A ls F hml hr hlocks hA hP hD hS hl
  have F : ac_X p s m [.ref (ad 4), .int p0, .int p1].toArray c cX2_term RX2 TB (dC, dI) vwCl (ac_ty cA) := ⟨F.1, F.2.1, fun w h => F.2.2.1 w (List.mem_cons_of_mem _ h), F.2.2.2.1, F.2.2.2.2⟩
  have hl : lv_has ls 3 [(0, .ref (ad 4)), (1, .int p0), (2, .int p1)] := hl
  refine lv_aload_n F.1 F.2.1 dX2_term_0 rfl (lv_at hl 0 rfl) ?_
  refine a_getr F inX2 hP 4 12 tc_4 rfl rfl (by decide) q195 (fun _ h9 => h9) dX2_term_1 ?_
  refine lv_iload_n F.1 F.2.1 dX2_term_4 rfl (lv_at hl 1 rfl) ?_
  refine a_bp F (8 : Int32) dX2_term_5 (by decide) ?_
  refine a_imul F dX2_term_7 rfl ic_8 (by omega) (fun v1 hv1 => ?_)
  refine lv_iload_n F.1 F.2.1 dX2_term_8 rfl (lv_at hl 2 rfl) ?_
  refine a_iadd F dX2_term_9 rfl rfl (by omega) (fun v2 hv2 => ?_)
  refine a_iald F hP 8 tc_8 rfl (i_in rfl (by omega)) dX2_term_10 (fun v3 ev3 => ?_)
  have hm2 : p1.toInt = 2 → 0 ≤ v3.toInt ∧ v3.toInt ≤ 7 := fun h => tm_w hR ev3 (q := p0.toInt) (w := 2) (by omega) (by decide) (by omega)
  have hm5 : p1.toInt = 5 → 0 ≤ v3.toInt ∧ v3.toInt ≤ 3 := fun h => tm_w hR ev3 (q := p0.toInt) (w := 5) (by omega) (by decide) (by omega)
  exact a_reti F hr hlocks hP hD hS dX2_term_11 ⟨rfl, (by omega : (p1.toInt = 2 → 0 ≤ v3.toInt ∧ v3.toInt ≤ 7) ∧ (p1.toInt = 5 → 0 ≤ v3.toInt ∧ v3.toInt ≤ 3))⟩
set_option maxHeartbeats 600000 in
set_option maxRecDepth 100000 in
theorem c_X6_whyNotSay_24 (l : Launch) (dC : Nat → ClassId) (dI : Nat → Nat → Nat) (ad : Nat → Nat) (cA : Nat → ClassId) (nF : Nat) (u0 : ac_U) (p0 : Int32) (p1 : Int32) (hR : ac_R rg u0) (hp0 : (0 : Int) ≤ p0.toInt ∧ p0.toInt ≤ 3) (hp1 : (0 : Int) ≤ p1.toInt ∧ p1.toInt ≤ 7) : ac_Mi l yX6_whyNotSay (.code yX6_whyNotSay cX6_whyNotSay 3 (some .int) :: TB) 3 (dC, dI) vwCl (ac_ty cA) ad cA (TT nF) [.ref (ad 24), .int p0, .int p1] u0 (fun (r : Int32) (u : ac_U) => u = u0 ∧ ((0 : Int) ≤ r.toInt ∧ r.toInt ≤ 6)) := by
  refine ac_Mi.of (cc := cX6_whyNotSay) (maxL := 3) (ret := (some .int)) (by decide) rfl (Nat.le_of_ble_eq_true rfl) ?_
  intro p e s m below meth c A ls F hml hr hlocks hA hP hD hS hl
  have F : ac_X p s m [.ref (ad 24), .int p0, .int p1].toArray c cX6_whyNotSay RX6 TB (dC, dI) vwCl (ac_ty cA) := ⟨F.1, F.2.1, fun w h => F.2.2.1 w (List.mem_cons_of_mem _ h), F.2.2.2.1, F.2.2.2.2⟩
  have hl : lv_has ls 3 [(0, .ref (ad 24)), (1, .int p0), (2, .int p1)] := hl
  refine lv_aload_n F.1 F.2.1 dX6_whyNotSay_0 rfl (lv_at hl 0 rfl) ?_
  refine a_Vi F hml hl.1 hA hP hD hS (As := []) (c_X6_isOver_24 l dC dI ad cA nF _  hR) (cs_RX6_76 (d := 2) F.2.2.1 (by decide)) tc_24 rfl rfl rfl rfl (Nat.le_of_ble_eq_true rfl) dX6_whyNotSay_1 ⟨Nat.le_refl 0, Nat.le_refl 0⟩ (fun r1 uN1 H locs hq hP hD hS => ?_)
  obtain ⟨hu1, gr1, xr1⟩ := hq
  rw [hu1] at hP hD
  have g2 : (0 : Int) ≤ (u0.1 25 0).toInt ∧ (u0.1 25 0).toInt ≤ 480 := hR 25 0
  have g3 : (4 : Int) ≤ (u0.1 4 0).toInt ∧ (u0.1 4 0).toInt ≤ 24 := hR 4 0
  have xr1 : r1.toInt = 0 → (u0.1 25 0).toInt < 20 * (u0.1 4 0).toInt := xr1
  refine z_eq F 9 dX6_whyNotSay_4 (by decide) rfl (fun c4 => ?_) (fun c4 => ?_)
  · refine lv_aload_n F.1 F.2.1 dX6_whyNotSay_9 rfl (lv_at hl 0 rfl) ?_
    refine a_getr F inX6 hP 24 0 tc_24 rfl rfl (by decide) q271 (fun _ h9 => h9) dX6_whyNotSay_10 ?_
    refine lv_iload_n F.1 F.2.1 dX6_whyNotSay_13 rfl (lv_at hl 2 rfl) ?_
    refine a_ic F (0 : Int32) dX6_whyNotSay_14 (by decide) ?_
    refine a_Vi F hml hl.1 hA hP hD hS (As := [.int p1, .int (0 : Int32)]) (c_X2_term_4 l dC dI ad cA nF _ p1 (0 : Int32) hR (by omega) (by decide)) (cs_RX6_80 (d := 1) F.2.2.1 (by decide)) tc_4 rfl rfl rfl rfl (Nat.le_of_ble_eq_true rfl) dX6_whyNotSay_15 ⟨Nat.le_refl 0, Nat.le_refl 0⟩ (fun r5 uN5 H locs hq hP hD hS => ?_)
    obtain ⟨hu5, xr5⟩ := hq
    rw [hu5] at hP hD
    have xr5 : ((0 : Int) = 2 → 0 ≤ r5.toInt ∧ r5.toInt ≤ 7) ∧ ((0 : Int) = 5 → 0 ≤ r5.toInt ∧ r5.toInt ≤ 3) := xr5
    refine lv_iload_n F.1 F.2.1 dX6_whyNotSay_18 rfl (lv_at hl 1 rfl) ?_
    refine b_eq F 24 dX6_whyNotSay_19 (by decide) rfl rfl (fun c6 => ?_) (fun c6 => ?_)
    · refine lv_aload_n F.1 F.2.1 dX6_whyNotSay_24 rfl (lv_at hl 0 rfl) ?_
      refine a_getr F inX6 hP 24 1 tc_24 rfl rfl (by decide) q272 (fun _ h9 => h9) dX6_whyNotSay_25 ?_
      refine a_bp F (15 : Int32) dX6_whyNotSay_28 (by decide) ?_
      refine lv_iload_n F.1 F.2.1 dX6_whyNotSay_30 rfl (lv_at hl 2 rfl) ?_
      refine a_iadd F dX6_whyNotSay_31 ic_15 rfl (by omega) (fun v7 hv7 => ?_)
      refine a_iald F hP 25 tc_25 rfl (i_in rfl (by omega)) dX6_whyNotSay_32 (fun v8 ev8 => ?_)
      have hv8 : (-1 : Int) ≤ v8.toInt ∧ v8.toInt ≤ 480 := rg_seg_25_15_22 hR ev8 (by omega)
      refine a_ic F (-1 : Int32) dX6_whyNotSay_33 (by decide) ?_
      refine b_eq F 42 dX6_whyNotSay_34 (by decide) rfl ic_m1 (fun c9 => ?_) (fun c9 => ?_)
      · refine a_ic F (0 : Int32) dX6_whyNotSay_42 (by decide) ?_
        exact a_reti F hr hlocks hP hD hS dX6_whyNotSay_43 ⟨rfl, (by decide)⟩
      · refine a_bp F (6 : Int32) dX6_whyNotSay_37 (by decide) ?_
        refine lv_goto (tgt := 43) F.1 F.2.1 dX6_whyNotSay_39 (by decide) ?_
        exact a_reti F hr hlocks hP hD hS dX6_whyNotSay_43 ⟨rfl, (by decide)⟩
    · refine a_ic F (5 : Int32) dX6_whyNotSay_22 (by decide) ?_
      exact a_reti F hr hlocks hP hD hS dX6_whyNotSay_23 ⟨rfl, (by decide)⟩
  · refine a_ic F (3 : Int32) dX6_whyNotSay_7 (by decide) ?_
    exact a_reti F hr hlocks hP hD hS dX6_whyNotSay_8 ⟨rfl, (by decide)⟩
set_option maxHeartbeats 600000 in
set_option maxRecDepth 100000 in
theorem c_X6_trySay_24 (l : Launch) (dC : Nat → ClassId) (dI : Nat → Nat → Nat) (ad : Nat → Nat) (cA : Nat → ClassId) (nF : Nat) (u0 : ac_U) (p0 : Int32) (p1 : Int32) (hR : ac_R rg u0) (hp0 : (0 : Int) ≤ p0.toInt ∧ p0.toInt ≤ 3) (hp1 : (0 : Int) ≤ p1.toInt ∧ p1.toInt ≤ 7) : ac_Mi l yX6_trySay (.code yX6_trySay cX6_trySay 4 (some .int) :: TB) 4 (dC, dI) vwCl (ac_ty cA) ad cA (TT nF) [.ref (ad 24), .int p0, .int p1] u0 (fun (r : Int32) (u : ac_U) => ac_R rg u ∧ ac_Fr [(25, none)] u0 u ∧ ((0 : Int) ≤ r.toInt ∧ r.toInt ≤ 6)) := by
  refine ac_Mi.of (cc := cX6_trySay) (maxL := 4) (ret := (some .int)) (by decide) rfl (Nat.le_of_ble_eq_true rfl) ?_
  intro p e s m below meth c A ls F hml hr hlocks hA hP hD hS hl
  have F : ac_X p s m [.ref (ad 24), .int p0, .int p1].toArray c cX6_trySay RX6 TB (dC, dI) vwCl (ac_ty cA) := ⟨F.1, F.2.1, fun w h => F.2.2.1 w (List.mem_cons_of_mem _ h), F.2.2.2.1, F.2.2.2.2⟩
  have hl : lv_has ls 4 [(0, .ref (ad 24)), (1, .int p0), (2, .int p1)] := hl
  have hF : ac_Fr [(25, none)] u0 u0 := ac_Fr.rf
  have L43 : ∀ (x3 : Int32) (u : ac_U) (H : Heap) (locs : List Loc) (ls : Array Slot), ac_R rg u → ac_Fr [(25, none)] u0 u → (0 : Int) ≤ x3.toInt ∧ x3.toInt ≤ 6 → va_P (dC, dI) vwCl (ac_w ad cA (TT nF) u) H → va_D A (ac_w ad cA (TT nF) u) → va_S A s.heap H locs → lv_has ls 4 [(3, .int x3)] → W p l e (ac_rm 4) s m [.ref (ad 24), .int p0, .int p1].toArray below meth c H locs 0 0 (MQ below (va_Qi (fun (r : Int32) (u : ac_U) => ac_R rg u ∧ ac_Fr [(25, none)] u0 u ∧ ((0 : Int) ≤ r.toInt ∧ r.toInt ≤ 6)) (ac_B (dC, dI) vwCl (ac_ty cA) ad cA (TT nF) A) A) [.ref (ad 24), .int p0, .int p1].toArray s 0 0 A) (F0 m 43 ls []) := by
    intro x3 u H locs ls hR hF f0 hP hD hS hl
    refine lv_iload_n F.1 F.2.1 dX6_trySay_43 rfl (lv_at hl 0 rfl) ?_
    exact a_reti F hr hlocks hP hD hS dX6_trySay_44 ⟨hR, hF, (by omega : (0 : Int) ≤ x3.toInt ∧ x3.toInt ≤ 6)⟩
  refine lv_aload_n F.1 F.2.1 dX6_trySay_0 rfl (lv_at hl 0 rfl) ?_
  refine lv_iload_n F.1 F.2.1 dX6_trySay_1 rfl (lv_at hl 1 rfl) ?_
  refine lv_iload_n F.1 F.2.1 dX6_trySay_2 rfl (lv_at hl 2 rfl) ?_
  refine a_Vi F hml hl.1 hA hP hD hS (As := [.int p0, .int p1]) (c_X6_whyNotSay_24 l dC dI ad cA nF _ p0 p1 hR (by omega) (by omega)) (cs_RX6_90 (d := 3) F.2.2.1 (by decide)) tc_24 rfl rfl rfl rfl (Nat.le_of_ble_eq_true rfl) dX6_trySay_3 ⟨Nat.le_refl 0, Nat.le_refl 0⟩ (fun r1 uN1 H locs hq hP hD hS => ?_)
  obtain ⟨hu1, gr1⟩ := hq
  rw [hu1] at hP hD
  refine lv_istore_n (lv' := [(3, .int r1), (0, .ref (ad 24)), (1, .int p0), (2, .int p1)]) F.1 F.2.1 dX6_trySay_6 rfl hl (by decide) rfl (fun ls hl => ?_)
  refine lv_iload_n F.1 F.2.1 dX6_trySay_7 rfl (lv_at hl 0 rfl) ?_
  refine z_ne F 43 dX6_trySay_8 (by decide) rfl (fun c2 => ?_) (fun c2 => ?_)
  · exact L43 r1 _ _ _ _ hR hF (by omega) hP hD hS (lv_sub hl [0] rfl)
  · refine lv_aload_n F.1 F.2.1 dX6_trySay_11 rfl (lv_at hl 1 rfl) ?_
    refine a_getr F inX6 hP 24 1 tc_24 rfl rfl (by decide) q272 (fun _ h9 => h9) dX6_trySay_12 ?_
    refine a_bp F (15 : Int32) dX6_trySay_15 (by decide) ?_
    refine lv_iload_n F.1 F.2.1 dX6_trySay_17 rfl (lv_at hl 3 rfl) ?_
    refine a_iadd F dX6_trySay_18 ic_15 rfl (by omega) (fun v3 hv3 => ?_)
    refine lv_aload_n F.1 F.2.1 dX6_trySay_19 rfl (lv_at hl 1 rfl) ?_
    refine a_getr F inX6 hP 24 1 tc_24 rfl rfl (by decide) q272 (fun _ h9 => h9) dX6_trySay_20 ?_
    refine a_ic F (0 : Int32) dX6_trySay_23 (by decide) ?_
    have g4 : (0 : Int) ≤ (u0.1 25 0).toInt ∧ (u0.1 25 0).toInt ≤ 480 := hR 25 0
    refine a_ialdK F hP 25 0 tc_25 rfl rfl (i_in ic_0 (by omega)) (v := (u0.1 25 0)) rfl dX6_trySay_24 ?_
    refine a_iast F hP hD hS 25 tc_25 rfl (i_in rfl (by omega)) dX6_trySay_25 (fun H locs hP hD hS => ?_)
    have hR := hR.si (c := 25) (k := v3.toNatClampNeg) (v := (u0.1 25 0)) (rs_25_15_22 (by omega) (by omega : (-1 : Int) ≤ (u0.1 25 0).toInt ∧ (u0.1 25 0).toInt ≤ 480))
    have hF := hF.si (c := 25) (k := v3.toNatClampNeg) (v := (u0.1 25 0)) rfl
    refine lv_aload_n F.1 F.2.1 dX6_trySay_26 rfl (lv_at hl 1 rfl) ?_
    refine a_getr F inX6 hP 24 1 tc_24 rfl rfl (by decide) q272 (fun _ h9 => h9) dX6_trySay_27 ?_
    refine a_bp F (23 : Int32) dX6_trySay_30 (by decide) ?_
    refine lv_iload_n F.1 F.2.1 dX6_trySay_32 rfl (lv_at hl 3 rfl) ?_
    refine a_iadd F dX6_trySay_33 ic_23 rfl (by omega) (fun v5 hv5 => ?_)
    refine lv_aload_n F.1 F.2.1 dX6_trySay_34 rfl (lv_at hl 1 rfl) ?_
    refine a_getr F inX6 hP 24 1 tc_24 rfl rfl (by decide) q272 (fun _ h9 => h9) dX6_trySay_35 ?_
    refine a_ic F (3 : Int32) dX6_trySay_38 (by decide) ?_
    refine lv_iload_n F.1 F.2.1 dX6_trySay_39 rfl (lv_at hl 2 rfl) ?_
    refine a_iadd F dX6_trySay_40 ic_3 rfl (by omega) (fun v6 hv6 => ?_)
    refine a_iald F hP 25 tc_25 rfl (i_in rfl (by omega)) dX6_trySay_41 (fun v7 ev7 => ?_)
    have hv7 : (0 : Int) ≤ v7.toInt ∧ v7.toInt ≤ 7 := rg_seg_25_3_6 hR ev7 (by omega)
    refine a_iast F hP hD hS 25 tc_25 rfl (i_in rfl (by omega)) dX6_trySay_42 (fun H locs hP hD hS => ?_)
    have hR := hR.si (c := 25) (k := v5.toNatClampNeg) (v := v7) (rs_25_23_30 (by omega) ⟨i_lo _, i_hi _⟩)
    have hF := hF.si (c := 25) (k := v5.toNatClampNeg) (v := v7) rfl
    exact L43 r1 _ _ _ _ hR hF (by omega) hP hD hS (lv_sub hl [0] rfl)
set_option maxHeartbeats 600000 in
set_option maxRecDepth 100000 in
theorem c_X0_liveLine_39 (l : Launch) (dC : Nat → ClassId) (dI : Nat → Nat → Nat) (ad : Nat → Nat) (cA : Nat → ClassId) (nF : Nat) (u0 : ac_U) (p0 : Int32) (hR : ac_R rg u0) (hp0 : (0 : Int) ≤ p0.toInt ∧ p0.toInt ≤ 39) (hg0 : p0.toInt < (u0.1 39 6).toInt) (hK_DBI : dbI u0) : ac_Mi l yX0_liveLine (.code yX0_liveLine cX0_liveLine 2 (some .int) :: TB) 5 (dC, dI) vwCl (ac_ty cA) ad cA (TT nF) [.ref (ad 39), .int p0] u0 (fun (r : Int32) (u : ac_U) => ac_R rg u ∧ ac_Fr [(25, none), (26, none)] u0 u ∧ ((0 : Int) ≤ r.toInt ∧ r.toInt ≤ 6)) := by
  refine ac_Mi.of (cc := cX0_liveLine) (maxL := 2) (ret := (some .int)) (by decide) rfl (Nat.le_of_ble_eq_true rfl) ?_
  intro p e s m below meth c A ls F hml hr hlocks hA hP hD hS hl
  have F : ac_X p s m [.ref (ad 39), .int p0].toArray c cX0_liveLine RX0 TB (dC, dI) vwCl (ac_ty cA) := ⟨F.1, F.2.1, fun w h => F.2.2.1 w (List.mem_cons_of_mem _ h), F.2.2.2.1, F.2.2.2.2⟩
  have hl : lv_has ls 2 [(0, .ref (ad 39)), (1, .int p0)] := hl
  have hF : ac_Fr [(25, none), (26, none)] u0 u0 := ac_Fr.rf
  refine lv_aload_n F.1 F.2.1 dX0_liveLine_0 rfl (lv_at hl 0 rfl) ?_
  refine a_getr F inX0 hP 39 4 tc_39 rfl rfl (by decide) q403 (fun _ h9 => h9) dX0_liveLine_1 ?_
  refine lv_iload_n F.1 F.2.1 dX0_liveLine_4 rfl (lv_at hl 1 rfl) ?_
  refine a_iald F hP 41 tc_41 rfl (i_in rfl (by omega)) dX0_liveLine_5 (fun v1 ev1 => ?_)
  rcases (show (v1.toInt < 110 ∨ 112 < v1.toInt) ∨ v1.toInt = 110 ∨ v1.toInt = 111 ∨ v1.toInt = 112 by omega) with c2 | c2 | c2 | c2
  · refine lv_tableOut (tgt := 92) F.1 F.2.1 dX0_liveLine_6 c2 (by decide) ?_
    refine lv_aload_n F.1 F.2.1 dX0_liveLine_92 rfl (lv_at hl 0 rfl) ?_
    refine lv_aload_n F.1 F.2.1 dX0_liveLine_93 rfl (lv_at hl 0 rfl) ?_
    refine a_getr F inX0 hP 39 5 tc_39 rfl rfl (by decide) q404 (fun _ h9 => h9) dX0_liveLine_94 ?_
    refine lv_iload_n F.1 F.2.1 dX0_liveLine_97 rfl (lv_at hl 1 rfl) ?_
    refine a_iald F hP 42 tc_42 rfl (i_in rfl (by omega)) dX0_liveLine_98 (fun v3 ev3 => ?_)
    have hv3 : (0 : Int) ≤ v3.toInt ∧ v3.toInt ≤ 99 := ev3 ▸ hR 42 _
    refine a_Vi F hml hl.1 hA hP hD hS (As := [.int v3]) (c_X0_liveHours_39 l dC dI ad cA nF _ v3 hR (by omega)) (cs_RX0_114 (d := 3) F.2.2.1 (by decide)) tc_39 rfl rfl rfl rfl (Nat.le_of_ble_eq_true rfl) dX0_liveLine_99 ⟨Nat.le_refl 0, Nat.le_refl 0⟩ (fun r4 u4 H locs hq hP hD hS => ?_)
    obtain ⟨hR, hF4, gr4⟩ := hq
    have hF := hF.tr hF4 (by decide)
    have hK_DBI := sp_fr sp_DBI hF4 (by decide) hK_DBI
    exact a_reti F hr hlocks hP hD hS dX0_liveLine_102 ⟨hR, hF, (by omega : (0 : Int) ≤ r4.toInt ∧ r4.toInt ≤ 6)⟩
  · refine lv_tableIn (tgt := 32) F.1 F.2.1 dX0_liveLine_6 (by omega) (by omega) (by rw [c2]; rfl) (by decide) ?_
    refine lv_aload_n F.1 F.2.1 dX0_liveLine_32 rfl (lv_at hl 0 rfl) ?_
    refine a_getr F inX0 hP 39 2 tc_39 rfl rfl (by decide) q401 (fun _ h9 => h9) dX0_liveLine_33 ?_
    refine lv_aload_n F.1 F.2.1 dX0_liveLine_36 rfl (lv_at hl 0 rfl) ?_
    refine a_getr F inX0 hP 39 3 tc_39 rfl rfl (by decide) q402 (fun _ h9 => h9) dX0_liveLine_37 ?_
    refine lv_iload_n F.1 F.2.1 dX0_liveLine_40 rfl (lv_at hl 1 rfl) ?_
    refine a_iald F hP 40 tc_40 rfl (i_in rfl (by omega)) dX0_liveLine_41 (fun v5 ev5 => ?_)
    have hv5 : (-1 : Int) ≤ v5.toInt ∧ v5.toInt ≤ 7 := ev5 ▸ hR 40 _
    refine lv_aload_n F.1 F.2.1 dX0_liveLine_42 rfl (lv_at hl 0 rfl) ?_
    refine a_getr F inX0 hP 39 5 tc_39 rfl rfl (by decide) q404 (fun _ h9 => h9) dX0_liveLine_43 ?_
    refine lv_iload_n F.1 F.2.1 dX0_liveLine_46 rfl (lv_at hl 1 rfl) ?_
    refine a_iald F hP 42 tc_42 rfl (i_in rfl (by omega)) dX0_liveLine_47 (fun v6 ev6 => ?_)
    have hv6 : (0 : Int) ≤ v6.toInt ∧ v6.toInt ≤ 99 := ev6 ▸ hR 42 _
    have hm9 := db_get hK_DBI (i := p0) (by omega) (by omega) ev1 ev5 ev6
    refine a_Vi F hml hl.1 hA hP hD hS (As := [.int v5, .int v6]) (c_X6_tryGo_24 l dC dI ad cA nF _ v5 v6 hR (by omega) (by omega)) (cs_RX0_104 (d := 4) F.2.2.1 (by decide)) tc_24 rfl rfl rfl rfl (Nat.le_of_ble_eq_true rfl) dX0_liveLine_48 ⟨Nat.le_refl 0, Nat.le_refl 0⟩ (fun r7 u7 H locs hq hP hD hS => ?_)
    obtain ⟨hR, hF7, gr7⟩ := hq
    have hF := hF.tr hF7 (by decide)
    have hK_DBI := sp_fr sp_DBI hF7 (by decide) hK_DBI
    exact a_reti F hr hlocks hP hD hS dX0_liveLine_51 ⟨hR, hF, (by omega : (0 : Int) ≤ r7.toInt ∧ r7.toInt ≤ 6)⟩
  · refine lv_tableIn (tgt := 52) F.1 F.2.1 dX0_liveLine_6 (by omega) (by omega) (by rw [c2]; rfl) (by decide) ?_
    refine lv_aload_n F.1 F.2.1 dX0_liveLine_52 rfl (lv_at hl 0 rfl) ?_
    refine a_getr F inX0 hP 39 2 tc_39 rfl rfl (by decide) q401 (fun _ h9 => h9) dX0_liveLine_53 ?_
    refine lv_aload_n F.1 F.2.1 dX0_liveLine_56 rfl (lv_at hl 0 rfl) ?_
    refine a_getr F inX0 hP 39 3 tc_39 rfl rfl (by decide) q402 (fun _ h9 => h9) dX0_liveLine_57 ?_
    refine lv_iload_n F.1 F.2.1 dX0_liveLine_60 rfl (lv_at hl 1 rfl) ?_
    refine a_iald F hP 40 tc_40 rfl (i_in rfl (by omega)) dX0_liveLine_61 (fun v8 ev8 => ?_)
    have hv8 : (-1 : Int) ≤ v8.toInt ∧ v8.toInt ≤ 7 := ev8 ▸ hR 40 _
    refine lv_aload_n F.1 F.2.1 dX0_liveLine_62 rfl (lv_at hl 0 rfl) ?_
    refine a_getr F inX0 hP 39 5 tc_39 rfl rfl (by decide) q404 (fun _ h9 => h9) dX0_liveLine_63 ?_
    refine lv_iload_n F.1 F.2.1 dX0_liveLine_66 rfl (lv_at hl 1 rfl) ?_
    refine a_iald F hP 42 tc_42 rfl (i_in rfl (by omega)) dX0_liveLine_67 (fun v9 ev9 => ?_)
    have hv9 : (0 : Int) ≤ v9.toInt ∧ v9.toInt ≤ 99 := ev9 ▸ hR 42 _
    have hm9 := db_get hK_DBI (i := p0) (by omega) (by omega) ev1 ev8 ev9
    refine a_Vi F hml hl.1 hA hP hD hS (As := [.int v8, .int v9]) (c_X6_tryDo_24 l dC dI ad cA nF _ v8 v9 hR (by omega)) (cs_RX0_108 (d := 4) F.2.2.1 (by decide)) tc_24 rfl rfl rfl rfl (Nat.le_of_ble_eq_true rfl) dX0_liveLine_68 ⟨Nat.le_refl 0, Nat.le_refl 0⟩ (fun r10 u10 H locs hq hP hD hS => ?_)
    obtain ⟨hR, hF10, gr10⟩ := hq
    have hF := hF.tr hF10 (by decide)
    have hK_DBI := sp_fr sp_DBI hF10 (by decide) hK_DBI
    exact a_reti F hr hlocks hP hD hS dX0_liveLine_71 ⟨hR, hF, (by omega : (0 : Int) ≤ r10.toInt ∧ r10.toInt ≤ 6)⟩
  · refine lv_tableIn (tgt := 72) F.1 F.2.1 dX0_liveLine_6 (by omega) (by omega) (by rw [c2]; rfl) (by decide) ?_
    refine lv_aload_n F.1 F.2.1 dX0_liveLine_72 rfl (lv_at hl 0 rfl) ?_
    refine a_getr F inX0 hP 39 2 tc_39 rfl rfl (by decide) q401 (fun _ h9 => h9) dX0_liveLine_73 ?_
    refine lv_aload_n F.1 F.2.1 dX0_liveLine_76 rfl (lv_at hl 0 rfl) ?_
    refine a_getr F inX0 hP 39 3 tc_39 rfl rfl (by decide) q402 (fun _ h9 => h9) dX0_liveLine_77 ?_
    refine lv_iload_n F.1 F.2.1 dX0_liveLine_80 rfl (lv_at hl 1 rfl) ?_
    refine a_iald F hP 40 tc_40 rfl (i_in rfl (by omega)) dX0_liveLine_81 (fun v11 ev11 => ?_)
    have hv11 : (-1 : Int) ≤ v11.toInt ∧ v11.toInt ≤ 7 := ev11 ▸ hR 40 _
    refine lv_aload_n F.1 F.2.1 dX0_liveLine_82 rfl (lv_at hl 0 rfl) ?_
    refine a_getr F inX0 hP 39 5 tc_39 rfl rfl (by decide) q404 (fun _ h9 => h9) dX0_liveLine_83 ?_
    refine lv_iload_n F.1 F.2.1 dX0_liveLine_86 rfl (lv_at hl 1 rfl) ?_
    refine a_iald F hP 42 tc_42 rfl (i_in rfl (by omega)) dX0_liveLine_87 (fun v12 ev12 => ?_)
    have hv12 : (0 : Int) ≤ v12.toInt ∧ v12.toInt ≤ 99 := ev12 ▸ hR 42 _
    have hm9 := db_get hK_DBI (i := p0) (by omega) (by omega) ev1 ev11 ev12
    refine a_Vi F hml hl.1 hA hP hD hS (As := [.int v11, .int v12]) (c_X6_trySay_24 l dC dI ad cA nF _ v11 v12 hR (by omega) (by omega)) (cs_RX0_111 (d := 4) F.2.2.1 (by decide)) tc_24 rfl rfl rfl rfl (Nat.le_of_ble_eq_true rfl) dX0_liveLine_88 ⟨Nat.le_refl 0, Nat.le_refl 0⟩ (fun r13 u13 H locs hq hP hD hS => ?_)
    obtain ⟨hR, hF13, gr13⟩ := hq
    have hF := hF.tr hF13 (by decide)
    have hK_DBI := sp_fr sp_DBI hF13 (by decide) hK_DBI
    exact a_reti F hr hlocks hP hD hS dX0_liveLine_91 ⟨hR, hF, (by omega : (0 : Int) ≤ r13.toInt ∧ r13.toInt ≤ 6)⟩
set_option maxHeartbeats 600000 in
set_option maxRecDepth 100000 in
theorem c_X0_live_39 (l : Launch) (dC : Nat → ClassId) (dI : Nat → Nat → Nat) (ad : Nat → Nat) (cA : Nat → ClassId) (nF : Nat) (u0 : ac_U)  (hR : ac_R rg u0) (hK_DBI : dbI u0) : ac_Mv l yX0_live (.code yX0_live cX0_live 2 none :: TB) 6 (dC, dI) vwCl (ac_ty cA) ad cA (TT nF) [.ref (ad 39)] u0 (fun (u : ac_U) => ac_R rg u ∧ ac_Fr [(25, none), (26, none), (39, some 7), (39, some 8), (39, some 9)] u0 u) := by
  refine ac_Mv.of (cc := cX0_live) (maxL := 2) (ret := none) (by decide) rfl (Nat.le_of_ble_eq_true rfl) ?_
  intro p e s m below meth c A ls F hml hr hlocks hA hP hD hS hl
  have F : ac_X p s m [.ref (ad 39)].toArray c cX0_live RX0 TB (dC, dI) vwCl (ac_ty cA) := ⟨F.1, F.2.1, fun w h => F.2.2.1 w (List.mem_cons_of_mem _ h), F.2.2.2.1, F.2.2.2.2⟩
  have hl : lv_has ls 2 [(0, .ref (ad 39))] := hl
  have hF : ac_Fr [(25, none), (26, none), (39, some 7), (39, some 8), (39, some 9)] u0 u0 := ac_Fr.rf
  have L63 : ∀ (u : ac_U) (H : Heap) (locs : List Loc) (ls : Array Slot), ac_R rg u → ac_Fr [(25, none), (26, none), (39, some 7), (39, some 8), (39, some 9)] u0 u → dbI u → (0 : Int) ≤ (u.1 39 7).toInt ∧ (u.1 39 7).toInt ≤ 6 → va_P (dC, dI) vwCl (ac_w ad cA (TT nF) u) H → va_D A (ac_w ad cA (TT nF) u) → va_S A s.heap H locs → lv_has ls 2 [(0, .ref (ad 39))] → W p l e (ac_rm 6) s m [.ref (ad 39)].toArray below meth c H locs 0 0 (MQ below (va_Qv (fun (u : ac_U) => ac_R rg u ∧ ac_Fr [(25, none), (26, none), (39, some 7), (39, some 8), (39, some 9)] u0 u) (ac_B (dC, dI) vwCl (ac_ty cA) ad cA (TT nF) A) A) [.ref (ad 39)].toArray s 0 0 A) (F0 m 63 ls []) := by
    intro u H locs ls hR hF hK_DBI f0 hP hD hS hl
    refine lv_aload_n F.1 F.2.1 dX0_live_63 rfl (lv_at hl 0 rfl) ?_
    refine lv_aload_n F.1 F.2.1 dX0_live_64 rfl (lv_at hl 0 rfl) ?_
    refine a_getr F inX0 hP 39 2 tc_39 rfl rfl (by decide) q401 (fun _ h9 => h9) dX0_live_65 ?_
    refine a_getr F inX6 hP 24 1 tc_24 rfl rfl (by decide) q277 (fun _ h9 => h9) dX0_live_68 ?_
    refine a_ic F (0 : Int32) dX0_live_71 (by decide) ?_
    have g1 : (0 : Int) ≤ (u.1 25 0).toInt ∧ (u.1 25 0).toInt ≤ 480 := hR 25 0
    refine a_ialdK F hP 25 0 tc_25 rfl rfl (i_in ic_0 (by omega)) (v := (u.1 25 0)) rfl dX0_live_72 ?_
    refine a_puti F inX0 tyX0 tyX0_ok nmX0 hP hD hS 39 9 tc_39 rfl rfl (by decide) q411 (fun _ h9 => h9) rfl (ty := .int) (tyX0_ok 9 (by decide)) rfl rfl dX0_live_73 (fun H locs hP hD hS => ?_)
    have hR := hR.si (c := 39) (k := 9) (v := (u.1 25 0)) ⟨i_lo _, i_hi _⟩
    have hF := hF.si (c := 39) (k := 9) (v := (u.1 25 0)) rfl
    have hK_DBI := sp_si sp_DBI hK_DBI (c := 39) (k := 9) (v := (u.1 25 0)) (fun j9 h9 q9 => by rw [q9] at h9; exact absurd h9 (by decide))
    exact a_retv F hr hlocks hP hD hS dX0_live_76 ⟨hR, hF⟩
  have L12 : ∀ (n12 : Nat) (x1 : Int32) (u : ac_U) (H : Heap) (locs : List Loc) (ls : Array Slot), ac_R rg u → ac_Fr [(25, none), (26, none), (39, some 7), (39, some 8), (39, some 9)] u0 u → 40 - x1.toInt < (n12 : Int) → dbI u → (0 : Int) ≤ x1.toInt ∧ x1.toInt ≤ 40 → (0 : Int) ≤ (u.1 39 7).toInt ∧ (u.1 39 7).toInt ≤ 6 → va_P (dC, dI) vwCl (ac_w ad cA (TT nF) u) H → va_D A (ac_w ad cA (TT nF) u) → va_S A s.heap H locs → lv_has ls 2 [(0, .ref (ad 39)), (1, .int x1)] → W p l e (ac_rm 6) s m [.ref (ad 39)].toArray below meth c H locs 0 0 (MQ below (va_Qv (fun (u : ac_U) => ac_R rg u ∧ ac_Fr [(25, none), (26, none), (39, some 7), (39, some 8), (39, some 9)] u0 u) (ac_B (dC, dI) vwCl (ac_ty cA) ad cA (TT nF) A) A) [.ref (ad 39)].toArray s 0 0 A) (F0 m 12 ls []) := by
    intro n12
    induction n12 with
    | zero => intro x1 u H locs ls hR hF hn12 hK_DBI f0 f1 hP hD hS hl; exfalso; omega
    | succ n12 ih12 =>
      intro x1 u H locs ls hR hF hn12 hK_DBI f0 f1 hP hD hS hl
      have L53 : ∀ (x1 : Int32) (z1 : Int32) (z2 : Int32) (u : ac_U) (H : Heap) (locs : List Loc) (ls : Array Slot), ac_R rg u → ac_Fr [(25, none), (26, none), (39, some 7), (39, some 8), (39, some 9)] u0 u → dbI u → (0 : Int) ≤ x1.toInt ∧ x1.toInt ≤ 39 → (0 : Int) ≤ z2.toInt ∧ z2.toInt ≤ 1 → (1 : Int) ≤ (u.1 39 6).toInt ∧ (u.1 39 6).toInt ≤ 40 → (0 : Int) ≤ (u.1 39 7).toInt ∧ (u.1 39 7).toInt ≤ 6 → 40 - x1.toInt + 0 < ((n12 : Nat) : Int) + 1 → va_P (dC, dI) vwCl (ac_w ad cA (TT nF) u) H → va_D A (ac_w ad cA (TT nF) u) → va_S A s.heap H locs → lv_has ls 2 [(0, .ref (ad 39)), (1, .int x1)] → W p l e (ac_rm 6) s m [.ref (ad 39)].toArray below meth c H locs 0 0 (MQ below (va_Qv (fun (u : ac_U) => ac_R rg u ∧ ac_Fr [(25, none), (26, none), (39, some 7), (39, some 8), (39, some 9)] u0 u) (ac_B (dC, dI) vwCl (ac_ty cA) ad cA (TT nF) A) A) [.ref (ad 39)].toArray s 0 0 A) (F0 m 53 ls [.int z2, .int z1, .ref (ad 39)]) := by
        intro x1 z1 z2 u H locs ls hR hF hK_DBI f0 f1 f2 f3 f4 hP hD hS hl
        refine a_iaddU F dX0_live_53 (fun v2 => ?_)
        refine a_puti F inX0 tyX0 tyX0_ok nmX0 hP hD hS 39 8 tc_39 rfl rfl (by decide) q409 (fun _ h9 => h9) rfl (ty := .int) (tyX0_ok 8 (by decide)) rfl rfl dX0_live_54 (fun H locs hP hD hS => ?_)
        have hR := hR.si (c := 39) (k := 8) (v := v2) ⟨i_lo _, i_hi _⟩
        have hF := hF.si (c := 39) (k := 8) (v := v2) rfl
        have hK_DBI := sp_si sp_DBI hK_DBI (c := 39) (k := 8) (v := v2) (fun j9 h9 q9 => by rw [q9] at h9; exact absurd h9 (by decide))
        refine a_iinc F (k := 1) (fun v3 => [(1, .int v3), (0, .ref (ad 39))]) dX0_live_57 hl rfl rfl (by decide) (by omega) (by decide) (fun _ => rfl) (fun v3 ls hv3 hl => ?_)
        refine lv_goto (tgt := 12) F.1 F.2.1 dX0_live_60 (by decide) ?_
        exact ih12 v3 _ _ _ _ hR hF (by omega) hK_DBI (by omega) (by omega : (0 : Int) ≤ (u.1 39 7).toInt ∧ (u.1 39 7).toInt ≤ 6) hP hD hS (lv_sub hl [1, 0] rfl)
      refine lv_iload_n F.1 F.2.1 dX0_live_12 rfl (lv_at hl 1 rfl) ?_
      refine lv_aload_n F.1 F.2.1 dX0_live_13 rfl (lv_at hl 0 rfl) ?_
      have g4 : (0 : Int) ≤ (u.1 39 6).toInt ∧ (u.1 39 6).toInt ≤ 40 := hR 39 6
      refine a_geti F inX0 hP 39 6 tc_39 rfl rfl (by decide) q405 (fun _ h9 => h9) (v := (u.1 39 6)) rfl dX0_live_14 ?_
      refine b_ge F 63 dX0_live_17 (by decide) rfl rfl (fun c5 => ?_) (fun c5 => ?_)
      · exact L63 _ _ _ _ hR hF hK_DBI (by omega : (0 : Int) ≤ (u.1 39 7).toInt ∧ (u.1 39 7).toInt ≤ 6) hP hD hS (lv_sub hl [0] rfl)
      · refine lv_aload_n F.1 F.2.1 dX0_live_20 rfl (lv_at hl 0 rfl) ?_
        refine a_geti F inX0 hP 39 7 tc_39 rfl rfl (by decide) q407 (fun _ h9 => h9) (v := (u.1 39 7)) rfl dX0_live_21 ?_
        refine z_ne F 63 dX0_live_24 (by decide) rfl (fun c6 => ?_) (fun c6 => ?_)
        · exact L63 _ _ _ _ hR hF hK_DBI (by omega : (0 : Int) ≤ (u.1 39 7).toInt ∧ (u.1 39 7).toInt ≤ 6) hP hD hS (lv_sub hl [0] rfl)
        · refine lv_aload_n F.1 F.2.1 dX0_live_27 rfl (lv_at hl 0 rfl) ?_
          refine lv_aload_n F.1 F.2.1 dX0_live_28 rfl (lv_at hl 0 rfl) ?_
          refine lv_iload_n F.1 F.2.1 dX0_live_29 rfl (lv_at hl 1 rfl) ?_
          refine a_Vi F hml hl.1 hA hP hD hS (As := [.int x1]) (c_X0_liveLine_39 l dC dI ad cA nF _ x1 hR (by omega) (by exact (by omega : x1.toInt < (u.1 39 6).toInt)) hK_DBI) (cs_RX0_96 (d := 5) F.2.2.1 (by decide)) tc_39 rfl rfl rfl rfl (Nat.le_of_ble_eq_true rfl) dX0_live_30 ⟨Nat.le_refl 0, Nat.le_refl 0⟩ (fun r7 u7 H locs hq hP hD hS => ?_)
          obtain ⟨hR, hF7, gr7⟩ := hq
          have hF := hF.tr hF7 (by decide)
          have hK_DBI := sp_fr sp_DBI hF7 (by decide) hK_DBI
          refine a_puti F inX0 tyX0 tyX0_ok nmX0 hP hD hS 39 7 tc_39 rfl rfl (by decide) q407 (fun _ h9 => h9) rfl (ty := .int) (tyX0_ok 7 (by decide)) rfl rfl dX0_live_33 (fun H locs hP hD hS => ?_)
          have hR := hR.si (c := 39) (k := 7) (v := r7) ⟨i_lo _, i_hi _⟩
          have hF := hF.si (c := 39) (k := 7) (v := r7) rfl
          have hK_DBI := sp_si sp_DBI hK_DBI (c := 39) (k := 7) (v := r7) (fun j9 h9 q9 => by rw [q9] at h9; exact absurd h9 (by decide))
          refine lv_aload_n F.1 F.2.1 dX0_live_36 rfl (lv_at hl 0 rfl) ?_
          refine lv_dup F.1 F.2.1 dX0_live_37 rfl ?_
          refine a_geti F inX0 hP 39 8 tc_39 rfl rfl (by decide) q409 (fun _ h9 => h9) (v := (u7.1 39 8)) rfl dX0_live_38 ?_
          refine lv_aload_n F.1 F.2.1 dX0_live_41 rfl (lv_at hl 0 rfl) ?_
          refine a_geti F inX0 hP 39 7 tc_39 rfl rfl (by decide) q407 (fun _ h9 => h9) (v := r7) (rfl) dX0_live_42 ?_
          refine z_ne F 52 dX0_live_45 (by decide) rfl (fun c8 => ?_) (fun c8 => ?_)
          · refine a_ic F (0 : Int32) dX0_live_52 (by decide) ?_
            exact L53 x1 (u7.1 39 8) (0 : Int32) _ _ _ _ hR hF hK_DBI (by omega) (by decide) (i_trB (hF7 39 6 rfl) (by omega : (1 : Int) ≤ (u.1 39 6).toInt ∧ (u.1 39 6).toInt ≤ 40)) (by omega : (0 : Int) ≤ r7.toInt ∧ r7.toInt ≤ 6) (by omega) hP hD hS (lv_sub hl [0, 1] rfl)
          · refine a_ic F (1 : Int32) dX0_live_48 (by decide) ?_
            refine lv_goto (tgt := 53) F.1 F.2.1 dX0_live_49 (by decide) ?_
            exact L53 x1 (u7.1 39 8) (1 : Int32) _ _ _ _ hR hF hK_DBI (by omega) (by decide) (i_trB (hF7 39 6 rfl) (by omega : (1 : Int) ≤ (u.1 39 6).toInt ∧ (u.1 39 6).toInt ≤ 40)) (by omega : (0 : Int) ≤ r7.toInt ∧ r7.toInt ≤ 6) (by omega) hP hD hS (lv_sub hl [0, 1] rfl)
  refine lv_aload_n F.1 F.2.1 dX0_live_0 rfl (lv_at hl 0 rfl) ?_
  refine a_ic F (0 : Int32) dX0_live_1 (by decide) ?_
  refine a_puti F inX0 tyX0 tyX0_ok nmX0 hP hD hS 39 7 tc_39 rfl rfl (by decide) q407 (fun _ h9 => h9) rfl (ty := .int) (tyX0_ok 7 (by decide)) rfl rfl dX0_live_2 (fun H locs hP hD hS => ?_)
  have hR := hR.si (c := 39) (k := 7) (v := (0 : Int32)) ⟨i_lo _, i_hi _⟩
  have hF := hF.si (c := 39) (k := 7) (v := (0 : Int32)) rfl
  have hK_DBI := sp_si sp_DBI hK_DBI (c := 39) (k := 7) (v := (0 : Int32)) (fun j9 h9 q9 => by rw [q9] at h9; exact absurd h9 (by decide))
  refine lv_aload_n F.1 F.2.1 dX0_live_5 rfl (lv_at hl 0 rfl) ?_
  refine a_ic F (0 : Int32) dX0_live_6 (by decide) ?_
  refine a_puti F inX0 tyX0 tyX0_ok nmX0 hP hD hS 39 8 tc_39 rfl rfl (by decide) q409 (fun _ h9 => h9) rfl (ty := .int) (tyX0_ok 8 (by decide)) rfl rfl dX0_live_7 (fun H locs hP hD hS => ?_)
  have hR := hR.si (c := 39) (k := 8) (v := (0 : Int32)) ⟨i_lo _, i_hi _⟩
  have hF := hF.si (c := 39) (k := 8) (v := (0 : Int32)) rfl
  have hK_DBI := sp_si sp_DBI hK_DBI (c := 39) (k := 8) (v := (0 : Int32)) (fun j9 h9 q9 => by rw [q9] at h9; exact absurd h9 (by decide))
  refine a_ic F (0 : Int32) dX0_live_10 (by decide) ?_
  refine lv_istore_n (lv' := [(1, .int (0 : Int32)), (0, .ref (ad 39))]) F.1 F.2.1 dX0_live_11 rfl hl (by decide) rfl (fun ls hl => ?_)
  exact L12 42 (0 : Int32) _ _ _ _ hR hF (by decide) hK_DBI (by decide) (by omega : (0 : Int) ≤ (0 : Int) ∧ (0 : Int) ≤ 6) hP hD hS (lv_sub hl [1, 0] rfl)
set_option maxHeartbeats 600000 in
set_option maxRecDepth 100000 in
theorem c_X0_sortBehind (l : Launch) (dC : Nat → ClassId) (dI : Nat → Nat → Nat) (ad : Nat → Nat) (cA : Nat → ClassId) (nF : Nat) (u0 : ac_U) (p0 : Int32) (hR : ac_R rg u0) (hp0 : (-128 : Int) ≤ p0.toInt ∧ p0.toInt ≤ 127) : ac_Mi l yX0_sortBehind (.code yX0_sortBehind cX0_sortBehind 1 (some .int) :: TB) 1 (dC, dI) vwCl (ac_ty cA) ad cA (TT nF) [.int p0] u0 (fun (r : Int32) (u : ac_U) => u = u0 ∧ ((-1 : Int) ≤ r.toInt ∧ r.toInt ≤ 3)) := by
  refine ac_Mi.of (cc := cX0_sortBehind) (maxL := 1) (ret := (some .int)) (by decide) rfl (Nat.le_of_ble_eq_true rfl) ?_
  intro p e s m below meth c A ls F hml hr hlocks hA hP hD hS hl
  have F : ac_X p s m [.int p0].toArray c cX0_sortBehind RX0 TB (dC, dI) vwCl (ac_ty cA) := ⟨F.1, F.2.1, fun w h => F.2.2.1 w (List.mem_cons_of_mem _ h), F.2.2.2.1, F.2.2.2.2⟩
  have hl : lv_has ls 1 [(0, .int p0)] := hl
  refine lv_iload_n F.1 F.2.1 dX0_sortBehind_0 rfl (lv_at hl 0 rfl) ?_
  rcases (show (p0.toInt < 110 ∨ 112 < p0.toInt) ∨ p0.toInt = 110 ∨ p0.toInt = 111 ∨ p0.toInt = 112 by omega) with c1 | c1 | c1 | c1
  · refine lv_tableOut (tgt := 34) F.1 F.2.1 dX0_sortBehind_1 c1 (by decide) ?_
    refine a_ic F (-1 : Int32) dX0_sortBehind_34 (by decide) ?_
    exact a_reti F hr hlocks hP hD hS dX0_sortBehind_35 ⟨rfl, (by decide)⟩
  · refine lv_tableIn (tgt := 28) F.1 F.2.1 dX0_sortBehind_1 (by omega) (by omega) (by rw [c1]; rfl) (by decide) ?_
    refine a_ic F (0 : Int32) dX0_sortBehind_28 (by decide) ?_
    exact a_reti F hr hlocks hP hD hS dX0_sortBehind_29 ⟨rfl, (by decide)⟩
  · refine lv_tableIn (tgt := 30) F.1 F.2.1 dX0_sortBehind_1 (by omega) (by omega) (by rw [c1]; rfl) (by decide) ?_
    refine a_ic F (2 : Int32) dX0_sortBehind_30 (by decide) ?_
    exact a_reti F hr hlocks hP hD hS dX0_sortBehind_31 ⟨rfl, (by decide)⟩
  · refine lv_tableIn (tgt := 32) F.1 F.2.1 dX0_sortBehind_1 (by omega) (by omega) (by rw [c1]; rfl) (by decide) ?_
    refine a_ic F (3 : Int32) dX0_sortBehind_32 (by decide) ?_
    exact a_reti F hr hlocks hP hD hS dX0_sortBehind_33 ⟨rfl, (by decide)⟩
set_option maxHeartbeats 600000 in
set_option maxRecDepth 100000 in
theorem c_X10_fail_1 (l : Launch) (dC : Nat → ClassId) (dI : Nat → Nat → Nat) (ad : Nat → Nat) (cA : Nat → ClassId) (nF : Nat) (u0 : ac_U) (p0 : Int32) (hR : ac_R rg u0) (hp0 : (1 : Int) ≤ p0.toInt ∧ p0.toInt ≤ 4) : ac_Mi l yX10_fail (.code yX10_fail cX10_fail 2 (some .boolean) :: TB) 1 (dC, dI) vwCl (ac_ty cA) ad cA (TT nF) [.ref (ad 1), .int p0] u0 (fun (r : Int32) (u : ac_U) => ac_R rg u ∧ ac_Fr [(1, some 10), (1, some 11)] u0 u ∧ ((0 : Int) ≤ r.toInt ∧ r.toInt ≤ 0)) := by
  refine ac_Mi.of (cc := cX10_fail) (maxL := 2) (ret := (some .boolean)) (by decide) rfl (Nat.le_of_ble_eq_true rfl) ?_
  intro p e s m below meth c A ls F hml hr hlocks hA hP hD hS hl
  have F : ac_X p s m [.ref (ad 1), .int p0].toArray c cX10_fail RX10 TB (dC, dI) vwCl (ac_ty cA) := ⟨F.1, F.2.1, fun w h => F.2.2.1 w (List.mem_cons_of_mem _ h), F.2.2.2.1, F.2.2.2.2⟩
  have hl : lv_has ls 2 [(0, .ref (ad 1)), (1, .int p0)] := hl
  have hF : ac_Fr [(1, some 10), (1, some 11)] u0 u0 := ac_Fr.rf
  refine lv_aload_n F.1 F.2.1 dX10_fail_0 rfl (lv_at hl 0 rfl) ?_
  refine lv_iload_n F.1 F.2.1 dX10_fail_1 rfl (lv_at hl 1 rfl) ?_
  refine a_puti F inX10 tyX10 tyX10_ok nmX10 hP hD hS 1 10 tc_1 rfl rfl (by decide) q114 (fun _ h9 => h9) rfl (ty := .int) (tyX10_ok 10 (by decide)) rfl rfl dX10_fail_2 (fun H locs hP hD hS => ?_)
  have hR := hR.si (c := 1) (k := 10) (v := p0) (by omega : (0 : Int) ≤ p0.toInt ∧ p0.toInt ≤ 4)
  have hF := hF.si (c := 1) (k := 10) (v := p0) rfl
  refine lv_aload_n F.1 F.2.1 dX10_fail_5 rfl (lv_at hl 0 rfl) ?_
  refine lv_aload_n F.1 F.2.1 dX10_fail_6 rfl (lv_at hl 0 rfl) ?_
  have g1 : (0 : Int) ≤ (u0.1 1 5).toInt ∧ (u0.1 1 5).toInt ≤ 940 := hR 1 5
  refine a_geti F inX10 hP 1 5 tc_1 rfl rfl (by decide) q99 (fun _ h9 => h9) (v := (u0.1 1 5)) rfl dX10_fail_7 ?_
  refine a_puti F inX10 tyX10 tyX10_ok nmX10 hP hD hS 1 11 tc_1 rfl rfl (by decide) q116 (fun _ h9 => h9) rfl (ty := .int) (tyX10_ok 11 (by decide)) rfl rfl dX10_fail_10 (fun H locs hP hD hS => ?_)
  have hR := hR.si (c := 1) (k := 11) (v := (u0.1 1 5)) (by omega : (0 : Int) ≤ (u0.1 1 5).toInt ∧ (u0.1 1 5).toInt ≤ 940)
  have hF := hF.si (c := 1) (k := 11) (v := (u0.1 1 5)) rfl
  refine a_ic F (0 : Int32) dX10_fail_13 (by decide) ?_
  exact a_retz F hr hlocks hP hD hS dX10_fail_14 (Or.inl rfl) ⟨hR, hF, (by decide)⟩
set_option maxHeartbeats 600000 in
set_option maxRecDepth 100000 in
theorem c_X10_isDigit (l : Launch) (dC : Nat → ClassId) (dI : Nat → Nat → Nat) (ad : Nat → Nat) (cA : Nat → ClassId) (nF : Nat) (u0 : ac_U) (p0 : Int32) (hR : ac_R rg u0) (hp0 : (-128 : Int) ≤ p0.toInt ∧ p0.toInt ≤ 127) : ac_Mi l yX10_isDigit (.code yX10_isDigit cX10_isDigit 1 (some .boolean) :: TB) 1 (dC, dI) vwCl (ac_ty cA) ad cA (TT nF) [.int p0] u0 (fun (r : Int32) (u : ac_U) => u = u0 ∧ ((0 : Int) ≤ r.toInt ∧ r.toInt ≤ 1)) := by
  refine ac_Mi.of (cc := cX10_isDigit) (maxL := 1) (ret := (some .boolean)) (by decide) rfl (Nat.le_of_ble_eq_true rfl) ?_
  intro p e s m below meth c A ls F hml hr hlocks hA hP hD hS hl
  have F : ac_X p s m [.int p0].toArray c cX10_isDigit RX10 TB (dC, dI) vwCl (ac_ty cA) := ⟨F.1, F.2.1, fun w h => F.2.2.1 w (List.mem_cons_of_mem _ h), F.2.2.2.1, F.2.2.2.2⟩
  have hl : lv_has ls 1 [(0, .int p0)] := hl
  have L16 : ∀ (H : Heap) (locs : List Loc) (ls : Array Slot), va_P (dC, dI) vwCl (ac_w ad cA (TT nF) u0) H → va_D A (ac_w ad cA (TT nF) u0) → va_S A s.heap H locs → lv_has ls 1 [] → W p l e (ac_rm 1) s m [.int p0].toArray below meth c H locs 0 0 (MQ below (va_Qi (fun (r : Int32) (u : ac_U) => u = u0 ∧ ((0 : Int) ≤ r.toInt ∧ r.toInt ≤ 1)) (ac_B (dC, dI) vwCl (ac_ty cA) ad cA (TT nF) A) A) [.int p0].toArray s 0 0 A) (F0 m 16 ls []) := by
    intro H locs ls hP hD hS hl
    refine a_ic F (0 : Int32) dX10_isDigit_16 (by decide) ?_
    exact a_retz F hr hlocks hP hD hS dX10_isDigit_17 (Or.inl rfl) ⟨rfl, (by decide)⟩
  refine lv_iload_n F.1 F.2.1 dX10_isDigit_0 rfl (lv_at hl 0 rfl) ?_
  refine a_bp F (48 : Int32) dX10_isDigit_1 (by decide) ?_
  refine b_lt F 16 dX10_isDigit_3 (by decide) rfl ic_48 (fun c1 => ?_) (fun c1 => ?_)
  · exact L16 _ _ _  hP hD hS (lv_sub hl [] rfl)
  · refine lv_iload_n F.1 F.2.1 dX10_isDigit_6 rfl (lv_at hl 0 rfl) ?_
    refine a_bp F (57 : Int32) dX10_isDigit_7 (by decide) ?_
    refine b_gt F 16 dX10_isDigit_9 (by decide) rfl ic_57 (fun c2 => ?_) (fun c2 => ?_)
    · exact L16 _ _ _  hP hD hS (lv_sub hl [] rfl)
    · refine a_ic F (1 : Int32) dX10_isDigit_12 (by decide) ?_
      refine lv_goto (tgt := 17) F.1 F.2.1 dX10_isDigit_13 (by decide) ?_
      exact a_retz F hr hlocks hP hD hS dX10_isDigit_17 (Or.inr rfl) ⟨rfl, (by decide)⟩
set_option maxHeartbeats 600000 in
set_option maxRecDepth 100000 in
theorem c_X10_isLetter (l : Launch) (dC : Nat → ClassId) (dI : Nat → Nat → Nat) (ad : Nat → Nat) (cA : Nat → ClassId) (nF : Nat) (u0 : ac_U) (p0 : Int32) (hR : ac_R rg u0) (hp0 : (-128 : Int) ≤ p0.toInt ∧ p0.toInt ≤ 127) : ac_Mi l yX10_isLetter (.code yX10_isLetter cX10_isLetter 1 (some .boolean) :: TB) 1 (dC, dI) vwCl (ac_ty cA) ad cA (TT nF) [.int p0] u0 (fun (r : Int32) (u : ac_U) => u = u0 ∧ ((0 : Int) ≤ r.toInt ∧ r.toInt ≤ 1)) := by
  refine ac_Mi.of (cc := cX10_isLetter) (maxL := 1) (ret := (some .boolean)) (by decide) rfl (Nat.le_of_ble_eq_true rfl) ?_
  intro p e s m below meth c A ls F hml hr hlocks hA hP hD hS hl
  have F : ac_X p s m [.int p0].toArray c cX10_isLetter RX10 TB (dC, dI) vwCl (ac_ty cA) := ⟨F.1, F.2.1, fun w h => F.2.2.1 w (List.mem_cons_of_mem _ h), F.2.2.2.1, F.2.2.2.2⟩
  have hl : lv_has ls 1 [(0, .int p0)] := hl
  have L16 : ∀ (H : Heap) (locs : List Loc) (ls : Array Slot), va_P (dC, dI) vwCl (ac_w ad cA (TT nF) u0) H → va_D A (ac_w ad cA (TT nF) u0) → va_S A s.heap H locs → lv_has ls 1 [] → W p l e (ac_rm 1) s m [.int p0].toArray below meth c H locs 0 0 (MQ below (va_Qi (fun (r : Int32) (u : ac_U) => u = u0 ∧ ((0 : Int) ≤ r.toInt ∧ r.toInt ≤ 1)) (ac_B (dC, dI) vwCl (ac_ty cA) ad cA (TT nF) A) A) [.int p0].toArray s 0 0 A) (F0 m 16 ls []) := by
    intro H locs ls hP hD hS hl
    refine a_ic F (0 : Int32) dX10_isLetter_16 (by decide) ?_
    exact a_retz F hr hlocks hP hD hS dX10_isLetter_17 (Or.inl rfl) ⟨rfl, (by decide)⟩
  refine lv_iload_n F.1 F.2.1 dX10_isLetter_0 rfl (lv_at hl 0 rfl) ?_
  refine a_bp F (97 : Int32) dX10_isLetter_1 (by decide) ?_
  refine b_lt F 16 dX10_isLetter_3 (by decide) rfl ic_97 (fun c1 => ?_) (fun c1 => ?_)
  · exact L16 _ _ _  hP hD hS (lv_sub hl [] rfl)
  · refine lv_iload_n F.1 F.2.1 dX10_isLetter_6 rfl (lv_at hl 0 rfl) ?_
    refine a_bp F (122 : Int32) dX10_isLetter_7 (by decide) ?_
    refine b_gt F 16 dX10_isLetter_9 (by decide) rfl ic_122 (fun c2 => ?_) (fun c2 => ?_)
    · exact L16 _ _ _  hP hD hS (lv_sub hl [] rfl)
    · refine a_ic F (1 : Int32) dX10_isLetter_12 (by decide) ?_
      refine lv_goto (tgt := 17) F.1 F.2.1 dX10_isLetter_13 (by decide) ?_
      exact a_retz F hr hlocks hP hD hS dX10_isLetter_17 (Or.inr rfl) ⟨rfl, (by decide)⟩
set_option maxHeartbeats 600000 in
set_option maxRecDepth 100000 in
theorem c_X10_isCompare (l : Launch) (dC : Nat → ClassId) (dI : Nat → Nat → Nat) (ad : Nat → Nat) (cA : Nat → ClassId) (nF : Nat) (u0 : ac_U) (p0 : Int32) (hR : ac_R rg u0) (hp0 : (-128 : Int) ≤ p0.toInt ∧ p0.toInt ≤ 127) : ac_Mi l yX10_isCompare (.code yX10_isCompare cX10_isCompare 1 (some .boolean) :: TB) 1 (dC, dI) vwCl (ac_ty cA) ad cA (TT nF) [.int p0] u0 (fun (r : Int32) (u : ac_U) => u = u0 ∧ ((0 : Int) ≤ r.toInt ∧ r.toInt ≤ 1)) := by
  refine ac_Mi.of (cc := cX10_isCompare) (maxL := 1) (ret := (some .boolean)) (by decide) rfl (Nat.le_of_ble_eq_true rfl) ?_
  intro p e s m below meth c A ls F hml hr hlocks hA hP hD hS hl
  have F : ac_X p s m [.int p0].toArray c cX10_isCompare RX10 TB (dC, dI) vwCl (ac_ty cA) := ⟨F.1, F.2.1, fun w h => F.2.2.1 w (List.mem_cons_of_mem _ h), F.2.2.2.1, F.2.2.2.2⟩
  have hl : lv_has ls 1 [(0, .int p0)] := hl
  have L18 : ∀ (H : Heap) (locs : List Loc) (ls : Array Slot), va_P (dC, dI) vwCl (ac_w ad cA (TT nF) u0) H → va_D A (ac_w ad cA (TT nF) u0) → va_S A s.heap H locs → lv_has ls 1 [] → W p l e (ac_rm 1) s m [.int p0].toArray below meth c H locs 0 0 (MQ below (va_Qi (fun (r : Int32) (u : ac_U) => u = u0 ∧ ((0 : Int) ≤ r.toInt ∧ r.toInt ≤ 1)) (ac_B (dC, dI) vwCl (ac_ty cA) ad cA (TT nF) A) A) [.int p0].toArray s 0 0 A) (F0 m 18 ls []) := by
    intro H locs ls hP hD hS hl
    refine a_ic F (1 : Int32) dX10_isCompare_18 (by decide) ?_
    refine lv_goto (tgt := 23) F.1 F.2.1 dX10_isCompare_19 (by decide) ?_
    exact a_retz F hr hlocks hP hD hS dX10_isCompare_23 (Or.inr rfl) ⟨rfl, (by decide)⟩
  refine lv_iload_n F.1 F.2.1 dX10_isCompare_0 rfl (lv_at hl 0 rfl) ?_
  refine a_bp F (60 : Int32) dX10_isCompare_1 (by decide) ?_
  refine b_eq F 18 dX10_isCompare_3 (by decide) rfl ic_60 (fun c1 => ?_) (fun c1 => ?_)
  · exact L18 _ _ _  hP hD hS (lv_sub hl [] rfl)
  · refine lv_iload_n F.1 F.2.1 dX10_isCompare_6 rfl (lv_at hl 0 rfl) ?_
    refine a_bp F (61 : Int32) dX10_isCompare_7 (by decide) ?_
    refine b_eq F 18 dX10_isCompare_9 (by decide) rfl ic_61 (fun c2 => ?_) (fun c2 => ?_)
    · exact L18 _ _ _  hP hD hS (lv_sub hl [] rfl)
    · refine lv_iload_n F.1 F.2.1 dX10_isCompare_12 rfl (lv_at hl 0 rfl) ?_
      refine a_bp F (62 : Int32) dX10_isCompare_13 (by decide) ?_
      refine b_ne F 22 dX10_isCompare_15 (by decide) rfl ic_62 (fun c3 => ?_) (fun c3 => ?_)
      · refine a_ic F (0 : Int32) dX10_isCompare_22 (by decide) ?_
        exact a_retz F hr hlocks hP hD hS dX10_isCompare_23 (Or.inl rfl) ⟨rfl, (by decide)⟩
      · exact L18 _ _ _  hP hD hS (lv_sub hl [] rfl)
set_option maxHeartbeats 600000 in
set_option maxRecDepth 100000 in
theorem c_X10_isSign (l : Launch) (dC : Nat → ClassId) (dI : Nat → Nat → Nat) (ad : Nat → Nat) (cA : Nat → ClassId) (nF : Nat) (u0 : ac_U) (p0 : Int32) (hR : ac_R rg u0) (hp0 : (-128 : Int) ≤ p0.toInt ∧ p0.toInt ≤ 127) : ac_Mi l yX10_isSign (.code yX10_isSign cX10_isSign 1 (some .boolean) :: TB) 2 (dC, dI) vwCl (ac_ty cA) ad cA (TT nF) [.int p0] u0 (fun (r : Int32) (u : ac_U) => u = u0 ∧ ((0 : Int) ≤ r.toInt ∧ r.toInt ≤ 1)) := by
  refine ac_Mi.of (cc := cX10_isSign) (maxL := 1) (ret := (some .boolean)) (by decide) rfl (Nat.le_of_ble_eq_true rfl) ?_
  intro p e s m below meth c A ls F hml hr hlocks hA hP hD hS hl
  have F : ac_X p s m [.int p0].toArray c cX10_isSign RX10 TB (dC, dI) vwCl (ac_ty cA) := ⟨F.1, F.2.1, fun w h => F.2.2.1 w (List.mem_cons_of_mem _ h), F.2.2.2.1, F.2.2.2.2⟩
  have hl : lv_has ls 1 [(0, .int p0)] := hl
  have L25 : ∀ (H : Heap) (locs : List Loc) (ls : Array Slot), va_P (dC, dI) vwCl (ac_w ad cA (TT nF) u0) H → va_D A (ac_w ad cA (TT nF) u0) → va_S A s.heap H locs → lv_has ls 1 [] → W p l e (ac_rm 2) s m [.int p0].toArray below meth c H locs 0 0 (MQ below (va_Qi (fun (r : Int32) (u : ac_U) => u = u0 ∧ ((0 : Int) ≤ r.toInt ∧ r.toInt ≤ 1)) (ac_B (dC, dI) vwCl (ac_ty cA) ad cA (TT nF) A) A) [.int p0].toArray s 0 0 A) (F0 m 25 ls []) := by
    intro H locs ls hP hD hS hl
    refine a_ic F (1 : Int32) dX10_isSign_25 (by decide) ?_
    refine lv_goto (tgt := 30) F.1 F.2.1 dX10_isSign_26 (by decide) ?_
    exact a_retz F hr hlocks hP hD hS dX10_isSign_30 (Or.inr rfl) ⟨rfl, (by decide)⟩
  refine lv_iload_n F.1 F.2.1 dX10_isSign_0 rfl (lv_at hl 0 rfl) ?_
  refine a_bp F (59 : Int32) dX10_isSign_1 (by decide) ?_
  refine b_eq F 25 dX10_isSign_3 (by decide) rfl ic_59 (fun c1 => ?_) (fun c1 => ?_)
  · exact L25 _ _ _  hP hD hS (lv_sub hl [] rfl)
  · refine lv_iload_n F.1 F.2.1 dX10_isSign_6 rfl (lv_at hl 0 rfl) ?_
    refine a_bp F (40 : Int32) dX10_isSign_7 (by decide) ?_
    refine b_eq F 25 dX10_isSign_9 (by decide) rfl ic_40 (fun c2 => ?_) (fun c2 => ?_)
    · exact L25 _ _ _  hP hD hS (lv_sub hl [] rfl)
    · refine lv_iload_n F.1 F.2.1 dX10_isSign_12 rfl (lv_at hl 0 rfl) ?_
      refine a_bp F (41 : Int32) dX10_isSign_13 (by decide) ?_
      refine b_eq F 25 dX10_isSign_15 (by decide) rfl ic_41 (fun c3 => ?_) (fun c3 => ?_)
      · exact L25 _ _ _  hP hD hS (lv_sub hl [] rfl)
      · refine lv_iload_n F.1 F.2.1 dX10_isSign_18 rfl (lv_at hl 0 rfl) ?_
        refine a_Si F hml hl.1 hA hP hD hS (As := [.int p0]) (c_X10_isCompare l dC dI ad cA nF _ p0 hR (by omega)) (cs_RX10_68 (d := 1) F.2.2.1 (by decide)) rfl rfl (Nat.le_of_ble_eq_true rfl) dX10_isSign_19 ⟨Nat.le_refl 0, Nat.le_refl 0⟩ (fun r4 uN4 H locs hq hP hD hS => ?_)
        obtain ⟨hu4, gr4⟩ := hq
        rw [hu4] at hP hD
        refine z_eq F 29 dX10_isSign_22 (by decide) rfl (fun c5 => ?_) (fun c5 => ?_)
        · refine a_ic F (0 : Int32) dX10_isSign_29 (by decide) ?_
          exact a_retz F hr hlocks hP hD hS dX10_isSign_30 (Or.inl rfl) ⟨rfl, (by decide)⟩
        · exact L25 _ _ _  hP hD hS (lv_sub hl [] rfl)
set_option maxHeartbeats 600000 in
set_option maxRecDepth 100000 in
theorem c_X10_kindOfWord_1 (l : Launch) (dC : Nat → ClassId) (dI : Nat → Nat → Nat) (ad : Nat → Nat) (cA : Nat → ClassId) (nF : Nat) (u0 : ac_U)  (hR : ac_R rg u0) : ac_Mi l yX10_kindOfWord (.code yX10_kindOfWord cX10_kindOfWord 2 (some .int) :: TB) 1 (dC, dI) vwCl (ac_ty cA) ad cA (TT nF) [.ref (ad 1)] u0 (fun (r : Int32) (u : ac_U) => u = u0 ∧ ((2 : Int) ≤ r.toInt ∧ r.toInt ≤ 126)) := by
  refine ac_Mi.of (cc := cX10_kindOfWord) (maxL := 2) (ret := (some .int)) (by decide) rfl (Nat.le_of_ble_eq_true rfl) ?_
  intro p e s m below meth c A ls F hml hr hlocks hA hP hD hS hl
  have F : ac_X p s m [.ref (ad 1)].toArray c cX10_kindOfWord RX10 TB (dC, dI) vwCl (ac_ty cA) := ⟨F.1, F.2.1, fun w h => F.2.2.1 w (List.mem_cons_of_mem _ h), F.2.2.2.1, F.2.2.2.2⟩
  have hl : lv_has ls 2 [(0, .ref (ad 1))] := hl
  have L2 : ∀ (n2 : Nat) (x1 : Int32) (H : Heap) (locs : List Loc) (ls : Array Slot), 27 - x1.toInt < (n2 : Int) → (0 : Int) ≤ x1.toInt ∧ x1.toInt ≤ 27 → va_P (dC, dI) vwCl (ac_w ad cA (TT nF) u0) H → va_D A (ac_w ad cA (TT nF) u0) → va_S A s.heap H locs → lv_has ls 2 [(0, .ref (ad 1)), (1, .int x1)] → W p l e (ac_rm 1) s m [.ref (ad 1)].toArray below meth c H locs 0 0 (MQ below (va_Qi (fun (r : Int32) (u : ac_U) => u = u0 ∧ ((2 : Int) ≤ r.toInt ∧ r.toInt ≤ 126)) (ac_B (dC, dI) vwCl (ac_ty cA) ad cA (TT nF) A) A) [.ref (ad 1)].toArray s 0 0 A) (F0 m 2 ls []) := by
    intro n2
    induction n2 with
    | zero => intro x1 H locs ls hn2 f0 hP hD hS hl; exfalso; omega
    | succ n2 ih2 =>
      intro x1 H locs ls hn2 f0 hP hD hS hl
      refine lv_iload_n F.1 F.2.1 dX10_kindOfWord_2 rfl (lv_at hl 1 rfl) ?_
      refine a_bp F (27 : Int32) dX10_kindOfWord_3 (by decide) ?_
      refine b_ge F 33 dX10_kindOfWord_5 (by decide) rfl ic_27 (fun c1 => ?_) (fun c1 => ?_)
      · refine a_ic F (2 : Int32) dX10_kindOfWord_33 (by decide) ?_
        exact a_reti F hr hlocks hP hD hS dX10_kindOfWord_34 ⟨rfl, (by decide)⟩
      · refine lv_aload_n F.1 F.2.1 dX10_kindOfWord_8 rfl (lv_at hl 0 rfl) ?_
        refine a_getr F inX10 hP 1 1 tc_1 rfl rfl (by decide) q94 (fun _ h9 => h9) dX10_kindOfWord_9 ?_
        refine lv_iload_n F.1 F.2.1 dX10_kindOfWord_12 rfl (lv_at hl 1 rfl) ?_
        refine a_laldA F hP 3 tc_3 rfl (i_in rfl (by omega)) dX10_kindOfWord_13 (fun w2 ew2 => ?_)
        refine lv_aload_n F.1 F.2.1 dX10_kindOfWord_14 rfl (lv_at hl 0 rfl) ?_
        refine a_getl F inX10 hP 1 7 tc_1 rfl rfl (by decide) q104 (fun _ h9 => h9) rfl dX10_kindOfWord_15 ?_
        refine lv_topl (fun w3 _ => ?_)
        refine W.lcmp F.1 F.2.1 dX10_kindOfWord_18 ?_
        refine lv_topi (fun v4 _ => ?_)
        refine z_ne F 27 dX10_kindOfWord_19 (by decide) rfl (fun c5 => ?_) (fun c5 => ?_)
        · refine a_iinc F (k := 1) (fun v6 => [(1, .int v6), (0, .ref (ad 1))]) dX10_kindOfWord_27 hl rfl rfl (by decide) (by omega) (by decide) (fun _ => rfl) (fun v6 ls hv6 hl => ?_)
          refine lv_goto (tgt := 2) F.1 F.2.1 dX10_kindOfWord_30 (by decide) ?_
          exact ih2 v6 _ _ _ (by omega) (by omega) hP hD hS (lv_sub hl [1, 0] rfl)
        · refine a_bp F (100 : Int32) dX10_kindOfWord_22 (by decide) ?_
          refine lv_iload_n F.1 F.2.1 dX10_kindOfWord_24 rfl (lv_at hl 1 rfl) ?_
          refine a_iadd F dX10_kindOfWord_25 ic_100 rfl (by omega) (fun v7 hv7 => ?_)
          exact a_reti F hr hlocks hP hD hS dX10_kindOfWord_26 ⟨rfl, (by omega : (2 : Int) ≤ v7.toInt ∧ v7.toInt ≤ 126)⟩
  refine a_ic F (0 : Int32) dX10_kindOfWord_0 (by decide) ?_
  refine lv_istore_n (lv' := [(1, .int (0 : Int32)), (0, .ref (ad 1))]) F.1 F.2.1 dX10_kindOfWord_1 rfl hl (by decide) rfl (fun ls hl => ?_)
  exact L2 29 (0 : Int32) _ _ _ (by decide) (by decide) hP hD hS (lv_sub hl [1, 0] rfl)
set_option maxHeartbeats 600000 in
set_option maxRecDepth 100000 in
theorem c_X10_withLetter (l : Launch) (dC : Nat → ClassId) (dI : Nat → Nat → Nat) (ad : Nat → Nat) (cA : Nat → ClassId) (nF : Nat) (u0 : ac_U) (p0 : Int64) (p1 : Int32) (hR : ac_R rg u0) (hp1 : (-128 : Int) ≤ p1.toInt ∧ p1.toInt ≤ 127) : ac_Ml l yX10_withLetter (.code yX10_withLetter cX10_withLetter 3 (some .long) :: TB) 1 (dC, dI) vwCl (ac_ty cA) ad cA (TT nF) [.long p0, .int p1] u0 (fun (_ : Int64) (u : ac_U) => u = u0) := by
  refine ac_Ml.of (cc := cX10_withLetter) (maxL := 3) (ret := (some .long)) (by decide) rfl (Nat.le_of_ble_eq_true rfl) ?_
  intro p e s m below meth c A ls F hml hr hlocks hA hP hD hS hl
  have F : ac_X p s m [.long p0, .int p1].toArray c cX10_withLetter RX10 TB (dC, dI) vwCl (ac_ty cA) := ⟨F.1, F.2.1, fun w h => F.2.2.1 w (List.mem_cons_of_mem _ h), F.2.2.2.1, F.2.2.2.2⟩
  have hl : lv_has ls 3 [(0, .long p0), (2, .int p1)] := hl
  refine lv_lload_n F.1 F.2.1 dX10_withLetter_0 rfl (lv_at hl 0 rfl) ?_
  refine lv_ldc2 (v := (32 : Int64)) F.1 F.2.1 F.2.2.2.1 (F.2.2.1 _ q92) dX10_withLetter_1 ?_
  refine lv_lmul F.1 F.2.1 dX10_withLetter_4 ?_
  refine lv_topl (fun w1 _ => ?_)
  refine lv_iload_n F.1 F.2.1 dX10_withLetter_5 rfl (lv_at hl 1 rfl) ?_
  refine a_bp F (97 : Int32) dX10_withLetter_6 (by decide) ?_
  refine a_isub F dX10_withLetter_8 rfl ic_97 (by omega) (fun v2 hv2 => ?_)
  refine a_ic F (1 : Int32) dX10_withLetter_9 (by decide) ?_
  refine a_iadd F dX10_withLetter_10 rfl ic_1 (by omega) (fun v3 hv3 => ?_)
  refine lv_i2l F.1 F.2.1 dX10_withLetter_11 rfl ?_
  refine lv_topl (fun w4 _ => ?_)
  refine lv_ladd F.1 F.2.1 dX10_withLetter_12 ?_
  refine lv_topl (fun w5 _ => ?_)
  exact a_retl F hr hlocks hP hD hS dX10_withLetter_13 rfl
set_option maxHeartbeats 600000 in
set_option maxRecDepth 100000 in
theorem c_X10_readRun_1 (l : Launch) (dC : Nat → ClassId) (dI : Nat → Nat → Nat) (ad : Nat → Nat) (cA : Nat → ClassId) (nF : Nat) (u0 : ac_U)  (hR : ac_R rg u0) : ac_Mv l yX10_readRun (.code yX10_readRun cX10_readRun 3 none :: TB) 2 (dC, dI) vwCl (ac_ty cA) ad cA (TT nF) [.ref (ad 1)] u0 (fun (u : ac_U) => ac_R rg u ∧ ac_Fr [(1, some 4), (1, some 6), (1, some 8)] u0 u) := by
  refine ac_Mv.of (cc := cX10_readRun) (maxL := 3) (ret := none) (by decide) rfl (Nat.le_of_ble_eq_true rfl) ?_
  intro p e s m below meth c A ls F hml hr hlocks hA hP hD hS hl
  have F : ac_X p s m [.ref (ad 1)].toArray c cX10_readRun RX10 TB (dC, dI) vwCl (ac_ty cA) := ⟨F.1, F.2.1, fun w h => F.2.2.1 w (List.mem_cons_of_mem _ h), F.2.2.2.1, F.2.2.2.2⟩
  have hl : lv_has ls 3 [(0, .ref (ad 1))] := hl
  have hF : ac_Fr [(1, some 4), (1, some 6), (1, some 8)] u0 u0 := ac_Fr.rf
  have L172 : ∀ (z1 : Int32) (u : ac_U) (H : Heap) (locs : List Loc) (ls : Array Slot), ac_R rg u → ac_Fr [(1, some 4), (1, some 6), (1, some 8)] u0 u → (1 : Int) ≤ z1.toInt ∧ z1.toInt ≤ 3 → va_P (dC, dI) vwCl (ac_w ad cA (TT nF) u) H → va_D A (ac_w ad cA (TT nF) u) → va_S A s.heap H locs → lv_has ls 3 [] → W p l e (ac_rm 2) s m [.ref (ad 1)].toArray below meth c H locs 0 0 (MQ below (va_Qv (fun (u : ac_U) => ac_R rg u ∧ ac_Fr [(1, some 4), (1, some 6), (1, some 8)] u0 u) (ac_B (dC, dI) vwCl (ac_ty cA) ad cA (TT nF) A) A) [.ref (ad 1)].toArray s 0 0 A) (F0 m 172 ls [.int z1, .ref (ad 1)]) := by
    intro z1 u H locs ls hR hF f0 hP hD hS hl
    refine a_puti F inX10 tyX10 tyX10_ok nmX10 hP hD hS 1 6 tc_1 rfl rfl (by decide) q100 (fun _ h9 => h9) rfl (ty := .int) (tyX10_ok 6 (by decide)) rfl rfl dX10_readRun_172 (fun H locs hP hD hS => ?_)
    have hR := hR.si (c := 1) (k := 6) (v := z1) (by omega : (-128 : Int) ≤ z1.toInt ∧ z1.toInt ≤ 127)
    have hF := hF.si (c := 1) (k := 6) (v := z1) rfl
    exact a_retv F hr hlocks hP hD hS dX10_readRun_175 ⟨hR, hF⟩
  have L171 : ∀ (u : ac_U) (H : Heap) (locs : List Loc) (ls : Array Slot), ac_R rg u → ac_Fr [(1, some 4), (1, some 6), (1, some 8)] u0 u → va_P (dC, dI) vwCl (ac_w ad cA (TT nF) u) H → va_D A (ac_w ad cA (TT nF) u) → va_S A s.heap H locs → lv_has ls 3 [] → W p l e (ac_rm 2) s m [.ref (ad 1)].toArray below meth c H locs 0 0 (MQ below (va_Qv (fun (u : ac_U) => ac_R rg u ∧ ac_Fr [(1, some 4), (1, some 6), (1, some 8)] u0 u) (ac_B (dC, dI) vwCl (ac_ty cA) ad cA (TT nF) A) A) [.ref (ad 1)].toArray s 0 0 A) (F0 m 171 ls [.ref (ad 1)]) := by
    intro u H locs ls hR hF hP hD hS hl
    refine a_ic F (1 : Int32) dX10_readRun_171 (by decide) ?_
    exact L172 (1 : Int32) _ _ _ _ hR hF (by decide) hP hD hS (lv_sub hl [] rfl)
  have L157 : ∀ (x1 : Int32) (x2 : Int32) (u : ac_U) (H : Heap) (locs : List Loc) (ls : Array Slot), ac_R rg u → ac_Fr [(1, some 4), (1, some 6), (1, some 8)] u0 u → va_P (dC, dI) vwCl (ac_w ad cA (TT nF) u) H → va_D A (ac_w ad cA (TT nF) u) → va_S A s.heap H locs → lv_has ls 3 [(0, .ref (ad 1)), (1, .int x1), (2, .int x2)] → W p l e (ac_rm 2) s m [.ref (ad 1)].toArray below meth c H locs 0 0 (MQ below (va_Qv (fun (u : ac_U) => ac_R rg u ∧ ac_Fr [(1, some 4), (1, some 6), (1, some 8)] u0 u) (ac_B (dC, dI) vwCl (ac_ty cA) ad cA (TT nF) A) A) [.ref (ad 1)].toArray s 0 0 A) (F0 m 157 ls []) := by
    intro x1 x2 u H locs ls hR hF hP hD hS hl
    refine lv_aload_n F.1 F.2.1 dX10_readRun_157 rfl (lv_at hl 0 rfl) ?_
    refine lv_iload_n F.1 F.2.1 dX10_readRun_158 rfl (lv_at hl 1 rfl) ?_
    refine z_ne F 171 dX10_readRun_159 (by decide) rfl (fun c1 => ?_) (fun c1 => ?_)
    · exact L171 _ _ _ _ hR hF hP hD hS (lv_sub hl [] rfl)
    · refine lv_iload_n F.1 F.2.1 dX10_readRun_162 rfl (lv_at hl 2 rfl) ?_
      refine a_ic F (3 : Int32) dX10_readRun_163 (by decide) ?_
      refine b_gt F 171 dX10_readRun_164 (by decide) rfl ic_3 (fun c2 => ?_) (fun c2 => ?_)
      · exact L171 _ _ _ _ hR hF hP hD hS (lv_sub hl [] rfl)
      · refine a_ic F (3 : Int32) dX10_readRun_167 (by decide) ?_
        refine lv_goto (tgt := 172) F.1 F.2.1 dX10_readRun_168 (by decide) ?_
        exact L172 (3 : Int32) _ _ _ _ hR hF (by decide) hP hD hS (lv_sub hl [] rfl)
  have L136 : ∀ (x1 : Int32) (x2 : Int32) (u : ac_U) (H : Heap) (locs : List Loc) (ls : Array Slot), ac_R rg u → ac_Fr [(1, some 4), (1, some 6), (1, some 8)] u0 u → va_P (dC, dI) vwCl (ac_w ad cA (TT nF) u) H → va_D A (ac_w ad cA (TT nF) u) → va_S A s.heap H locs → lv_has ls 3 [(0, .ref (ad 1)), (1, .int x1), (2, .int x2)] → W p l e (ac_rm 2) s m [.ref (ad 1)].toArray below meth c H locs 0 0 (MQ below (va_Qv (fun (u : ac_U) => ac_R rg u ∧ ac_Fr [(1, some 4), (1, some 6), (1, some 8)] u0 u) (ac_B (dC, dI) vwCl (ac_ty cA) ad cA (TT nF) A) A) [.ref (ad 1)].toArray s 0 0 A) (F0 m 136 ls []) := by
    intro x1 x2 u H locs ls hR hF hP hD hS hl
    refine lv_iload_n F.1 F.2.1 dX10_readRun_136 rfl (lv_at hl 2 rfl) ?_
    refine z_ne F 157 dX10_readRun_137 (by decide) rfl (fun c3 => ?_) (fun c3 => ?_)
    · exact L157 x1 x2 _ _ _ _ hR hF hP hD hS (lv_sub hl [0, 1, 2] rfl)
    · refine lv_iload_n F.1 F.2.1 dX10_readRun_140 rfl (lv_at hl 1 rfl) ?_
      refine a_bp F (7 : Int32) dX10_readRun_141 (by decide) ?_
      refine b_gt F 157 dX10_readRun_143 (by decide) rfl ic_7 (fun c4 => ?_) (fun c4 => ?_)
      · exact L157 x1 x2 _ _ _ _ hR hF hP hD hS (lv_sub hl [0, 1, 2] rfl)
      · refine lv_aload_n F.1 F.2.1 dX10_readRun_146 rfl (lv_at hl 0 rfl) ?_
        refine lv_aload_n F.1 F.2.1 dX10_readRun_147 rfl (lv_at hl 0 rfl) ?_
        refine a_Vi F hml hl.1 hA hP hD hS (As := []) (c_X10_kindOfWord_1 l dC dI ad cA nF _  hR) (cs_RX10_87 (d := 1) F.2.2.1 (by decide)) tc_1 rfl rfl rfl rfl (Nat.le_of_ble_eq_true rfl) dX10_readRun_148 ⟨Nat.le_refl 0, Nat.le_refl 0⟩ (fun r5 uN5 H locs hq hP hD hS => ?_)
        obtain ⟨hu5, gr5⟩ := hq
        rw [hu5] at hP hD
        refine a_puti F inX10 tyX10 tyX10_ok nmX10 hP hD hS 1 6 tc_1 rfl rfl (by decide) q100 (fun _ h9 => h9) rfl (ty := .int) (tyX10_ok 6 (by decide)) rfl rfl dX10_readRun_151 (fun H locs hP hD hS => ?_)
        have hR := hR.si (c := 1) (k := 6) (v := r5) (by omega : (-128 : Int) ≤ r5.toInt ∧ r5.toInt ≤ 127)
        have hF := hF.si (c := 1) (k := 6) (v := r5) rfl
        refine lv_goto (tgt := 175) F.1 F.2.1 dX10_readRun_154 (by decide) ?_
        exact a_retv F hr hlocks hP hD hS dX10_readRun_175 ⟨hR, hF⟩
  have L14 : ∀ (n14 : Nat) (x1 : Int32) (x2 : Int32) (u : ac_U) (H : Heap) (locs : List Loc) (ls : Array Slot), ac_R rg u → ac_Fr [(1, some 4), (1, some 6), (1, some 8)] u0 u → 940 - (u.1 1 4).toInt < (n14 : Int) → va_P (dC, dI) vwCl (ac_w ad cA (TT nF) u) H → va_D A (ac_w ad cA (TT nF) u) → va_S A s.heap H locs → lv_has ls 3 [(0, .ref (ad 1)), (1, .int x1), (2, .int x2)] → W p l e (ac_rm 2) s m [.ref (ad 1)].toArray below meth c H locs 0 0 (MQ below (va_Qv (fun (u : ac_U) => ac_R rg u ∧ ac_Fr [(1, some 4), (1, some 6), (1, some 8)] u0 u) (ac_B (dC, dI) vwCl (ac_ty cA) ad cA (TT nF) A) A) [.ref (ad 1)].toArray s 0 0 A) (F0 m 14 ls []) := by
    intro n14
    induction n14 with
    | zero => intro x1 x2 u H locs ls hR hF hn14 hP hD hS hl; have gz0 : (0 : Int) ≤ (u.1 1 4).toInt ∧ (u.1 1 4).toInt ≤ 940 := hR 1 4; exfalso; omega
    | succ n14 ih14 =>
      intro x1 x2 u H locs ls hR hF hn14 hP hD hS hl
      have L123 : ∀ (x1 : Int32) (x2 : Int32) (u : ac_U) (H : Heap) (locs : List Loc) (ls : Array Slot), ac_R rg u → ac_Fr [(1, some 4), (1, some 6), (1, some 8)] u0 u → (1 : Int) ≤ (u.1 1 2).toInt ∧ (u.1 1 2).toInt ≤ 940 → (0 : Int) ≤ (u.1 1 4).toInt ∧ (u.1 1 4).toInt ≤ 939 → 940 - (u.1 1 4).toInt < ((n14 : Nat) : Int) + 1 → va_P (dC, dI) vwCl (ac_w ad cA (TT nF) u) H → va_D A (ac_w ad cA (TT nF) u) → va_S A s.heap H locs → lv_has ls 3 [(0, .ref (ad 1)), (1, .int x1), (2, .int x2)] → W p l e (ac_rm 2) s m [.ref (ad 1)].toArray below meth c H locs 0 0 (MQ below (va_Qv (fun (u : ac_U) => ac_R rg u ∧ ac_Fr [(1, some 4), (1, some 6), (1, some 8)] u0 u) (ac_B (dC, dI) vwCl (ac_ty cA) ad cA (TT nF) A) A) [.ref (ad 1)].toArray s 0 0 A) (F0 m 123 ls []) := by
        intro x1 x2 u H locs ls hR hF f0 f1 f2 hP hD hS hl
        refine lv_aload_n F.1 F.2.1 dX10_readRun_123 rfl (lv_at hl 0 rfl) ?_
        refine lv_dup F.1 F.2.1 dX10_readRun_124 rfl ?_
        have g6 : (0 : Int) ≤ (u.1 1 4).toInt ∧ (u.1 1 4).toInt ≤ 940 := hR 1 4
        refine a_geti F inX10 hP 1 4 tc_1 rfl rfl (by decide) q98 (fun _ h9 => h9) (v := (u.1 1 4)) rfl dX10_readRun_125 ?_
        refine a_ic F (1 : Int32) dX10_readRun_128 (by decide) ?_
        refine a_iadd F dX10_readRun_129 rfl ic_1 (by omega) (fun v7 hv7 => ?_)
        refine a_puti F inX10 tyX10 tyX10_ok nmX10 hP hD hS 1 4 tc_1 rfl rfl (by decide) q98 (fun _ h9 => h9) rfl (ty := .int) (tyX10_ok 4 (by decide)) rfl rfl dX10_readRun_130 (fun H locs hP hD hS => ?_)
        have hR := hR.si (c := 1) (k := 4) (v := v7) (by omega : (0 : Int) ≤ v7.toInt ∧ v7.toInt ≤ 940)
        have hF := hF.si (c := 1) (k := 4) (v := v7) rfl
        refine lv_goto (tgt := 14) F.1 F.2.1 dX10_readRun_133 (by decide) ?_
        exact ih14 x1 x2 _ _ _ _ hR hF (by omega : 940 - v7.toInt < ((n14 : Nat) : Int)) hP hD hS (lv_sub hl [0, 1, 2] rfl)
      have L55 : ∀ (x1 : Int32) (x2 : Int32) (u : ac_U) (H : Heap) (locs : List Loc) (ls : Array Slot), ac_R rg u → ac_Fr [(1, some 4), (1, some 6), (1, some 8)] u0 u → (1 : Int) ≤ (u.1 1 2).toInt ∧ (u.1 1 2).toInt ≤ 940 → (0 : Int) ≤ (u.1 1 4).toInt ∧ (u.1 1 4).toInt ≤ 939 → 940 - (u.1 1 4).toInt < ((n14 : Nat) : Int) + 1 → va_P (dC, dI) vwCl (ac_w ad cA (TT nF) u) H → va_D A (ac_w ad cA (TT nF) u) → va_S A s.heap H locs → lv_has ls 3 [(0, .ref (ad 1)), (1, .int x1), (2, .int x2)] → W p l e (ac_rm 2) s m [.ref (ad 1)].toArray below meth c H locs 0 0 (MQ below (va_Qv (fun (u : ac_U) => ac_R rg u ∧ ac_Fr [(1, some 4), (1, some 6), (1, some 8)] u0 u) (ac_B (dC, dI) vwCl (ac_ty cA) ad cA (TT nF) A) A) [.ref (ad 1)].toArray s 0 0 A) (F0 m 55 ls []) := by
        intro x1 x2 u H locs ls hR hF f0 f1 f2 hP hD hS hl
        refine lv_aload_n F.1 F.2.1 dX10_readRun_55 rfl (lv_at hl 0 rfl) ?_
        refine a_getr F inX10 hP 1 0 tc_1 rfl rfl (by decide) q93 (fun _ h9 => h9) dX10_readRun_56 ?_
        refine lv_aload_n F.1 F.2.1 dX10_readRun_59 rfl (lv_at hl 0 rfl) ?_
        have g8 : (0 : Int) ≤ (u.1 1 4).toInt ∧ (u.1 1 4).toInt ≤ 940 := hR 1 4
        refine a_geti F inX10 hP 1 4 tc_1 rfl rfl (by decide) q98 (fun _ h9 => h9) (v := (u.1 1 4)) rfl dX10_readRun_60 ?_
        refine a_bald F hP 2 tc_2 rfl (i_in rfl (by omega)) dX10_readRun_63 (fun v9 ev9 => ?_)
        have hv9 : (-128 : Int) ≤ v9.toInt ∧ v9.toInt ≤ 127 := ev9 ▸ hR 2 _
        refine a_Si F hml hl.1 hA hP hD hS (As := [.int v9]) (c_X10_isLetter l dC dI ad cA nF _ v9 hR (by omega)) (cs_RX10_75 (d := 1) F.2.2.1 (by decide)) rfl rfl (Nat.le_of_ble_eq_true rfl) dX10_readRun_64 ⟨Nat.le_refl 0, Nat.le_refl 0⟩ (fun r10 uN10 H locs hq hP hD hS => ?_)
        obtain ⟨hu10, gr10⟩ := hq
        rw [hu10] at hP hD
        refine z_eq F 96 dX10_readRun_67 (by decide) rfl (fun c11 => ?_) (fun c11 => ?_)
        · refine a_iincU F (k := 2) (fun v12 => [(2, .int v12), (0, .ref (ad 1)), (1, .int x1)]) dX10_readRun_96 hl rfl (by decide) (fun _ => rfl) (fun v12 ls hl => ?_)
          refine lv_aload_n F.1 F.2.1 dX10_readRun_99 rfl (lv_at hl 1 rfl) ?_
          refine lv_aload_n F.1 F.2.1 dX10_readRun_100 rfl (lv_at hl 1 rfl) ?_
          refine a_geti F inX10 hP 1 8 tc_1 rfl rfl (by decide) q106 (fun _ h9 => h9) (v := (u.1 1 8)) rfl dX10_readRun_101 ?_
          refine a_bp F (10 : Int32) dX10_readRun_104 (by decide) ?_
          refine a_imulU F dX10_readRun_106 (fun v13 => ?_)
          refine lv_aload_n F.1 F.2.1 dX10_readRun_107 rfl (lv_at hl 1 rfl) ?_
          refine a_getr F inX10 hP 1 0 tc_1 rfl rfl (by decide) q93 (fun _ h9 => h9) dX10_readRun_108 ?_
          refine lv_aload_n F.1 F.2.1 dX10_readRun_111 rfl (lv_at hl 1 rfl) ?_
          refine a_geti F inX10 hP 1 4 tc_1 rfl rfl (by decide) q98 (fun _ h9 => h9) (v := (u.1 1 4)) (rfl) dX10_readRun_112 ?_
          refine a_bald F hP 2 tc_2 rfl (i_in rfl (by omega)) dX10_readRun_115 (fun v14 ev14 => ?_)
          have hv14 : (-128 : Int) ≤ v14.toInt ∧ v14.toInt ≤ 127 := ev14 ▸ hR 2 _
          refine a_bp F (48 : Int32) dX10_readRun_116 (by decide) ?_
          refine a_isub F dX10_readRun_118 rfl ic_48 (by omega) (fun v15 hv15 => ?_)
          refine a_iaddU F dX10_readRun_119 (fun v16 => ?_)
          refine a_puti F inX10 tyX10 tyX10_ok nmX10 hP hD hS 1 8 tc_1 rfl rfl (by decide) q106 (fun _ h9 => h9) rfl (ty := .int) (tyX10_ok 8 (by decide)) rfl rfl dX10_readRun_120 (fun H locs hP hD hS => ?_)
          have hR := hR.si (c := 1) (k := 8) (v := v16) ⟨i_lo _, i_hi _⟩
          have hF := hF.si (c := 1) (k := 8) (v := v16) rfl
          have g17 : (0 : Int) ≤ (u.1 1 2).toInt ∧ (u.1 1 2).toInt ≤ 940 := hR 1 2
          exact L123 x1 v12 _ _ _ _ hR hF (by omega : (1 : Int) ≤ (u.1 1 2).toInt ∧ (u.1 1 2).toInt ≤ 940) (by omega : (0 : Int) ≤ (u.1 1 4).toInt ∧ (u.1 1 4).toInt ≤ 939) (by omega : 940 - (u.1 1 4).toInt < ((n14 : Nat) : Int) + 1) hP hD hS (lv_sub hl [1, 2, 0] rfl)
        · refine a_iincU F (k := 1) (fun v18 => [(1, .int v18), (0, .ref (ad 1)), (2, .int x2)]) dX10_readRun_70 hl rfl (by decide) (fun _ => rfl) (fun v18 ls hl => ?_)
          refine lv_aload_n F.1 F.2.1 dX10_readRun_73 rfl (lv_at hl 1 rfl) ?_
          refine lv_aload_n F.1 F.2.1 dX10_readRun_74 rfl (lv_at hl 1 rfl) ?_
          refine a_getl F inX10 hP 1 7 tc_1 rfl rfl (by decide) q104 (fun _ h9 => h9) rfl dX10_readRun_75 ?_
          refine lv_topl (fun w19 _ => ?_)
          refine lv_aload_n F.1 F.2.1 dX10_readRun_78 rfl (lv_at hl 1 rfl) ?_
          refine a_getr F inX10 hP 1 0 tc_1 rfl rfl (by decide) q93 (fun _ h9 => h9) dX10_readRun_79 ?_
          refine lv_aload_n F.1 F.2.1 dX10_readRun_82 rfl (lv_at hl 1 rfl) ?_
          refine a_geti F inX10 hP 1 4 tc_1 rfl rfl (by decide) q98 (fun _ h9 => h9) (v := (u.1 1 4)) (rfl) dX10_readRun_83 ?_
          refine a_bald F hP 2 tc_2 rfl (i_in rfl (by omega)) dX10_readRun_86 (fun v20 ev20 => ?_)
          have hv20 : (-128 : Int) ≤ v20.toInt ∧ v20.toInt ≤ 127 := ev20 ▸ hR 2 _
          refine a_Sl F hml hl.1 hA hP hD hS (As := [.long w19, .int v20]) (c_X10_withLetter l dC dI ad cA nF _ w19 v20 hR (by omega)) (cs_RX10_62 (d := 1) F.2.2.1 (by decide)) rfl rfl (Nat.le_of_ble_eq_true rfl) dX10_readRun_87 ⟨Nat.le_refl 0, Nat.le_refl 0⟩ (fun r21 uN21 H locs hq hP hD hS => ?_)
          have hu21 := hq
          rw [hu21] at hP hD
          refine a_putl F inX10 tyX10 tyX10_ok nmX10 hP hD hS 1 7 tc_1 rfl rfl (by decide) q104 (fun _ h9 => h9) rfl (tyX10_ok 7 (by decide)) dX10_readRun_90 (fun H locs hP hD hS => ?_)
          have hR := ac_slR hD hR
          have hF := ac_slF hD hF
          refine lv_goto (tgt := 123) F.1 F.2.1 dX10_readRun_93 (by decide) ?_
          have g22 : (0 : Int) ≤ (u.1 1 2).toInt ∧ (u.1 1 2).toInt ≤ 940 := hR 1 2
          exact L123 v18 x2 _ _ _ _ hR hF (by omega : (1 : Int) ≤ (u.1 1 2).toInt ∧ (u.1 1 2).toInt ≤ 940) (by omega : (0 : Int) ≤ (u.1 1 4).toInt ∧ (u.1 1 4).toInt ≤ 939) (by omega : 940 - (u.1 1 4).toInt < ((n14 : Nat) : Int) + 1) hP hD hS (lv_sub hl [1, 0, 2] rfl)
      refine lv_aload_n F.1 F.2.1 dX10_readRun_14 rfl (lv_at hl 0 rfl) ?_
      have g23 : (0 : Int) ≤ (u.1 1 4).toInt ∧ (u.1 1 4).toInt ≤ 940 := hR 1 4
      refine a_geti F inX10 hP 1 4 tc_1 rfl rfl (by decide) q98 (fun _ h9 => h9) (v := (u.1 1 4)) rfl dX10_readRun_15 ?_
      refine lv_aload_n F.1 F.2.1 dX10_readRun_18 rfl (lv_at hl 0 rfl) ?_
      have g24 : (0 : Int) ≤ (u.1 1 2).toInt ∧ (u.1 1 2).toInt ≤ 940 := hR 1 2
      refine a_geti F inX10 hP 1 2 tc_1 rfl rfl (by decide) q95 (fun _ h9 => h9) (v := (u.1 1 2)) rfl dX10_readRun_19 ?_
      refine b_ge F 136 dX10_readRun_22 (by decide) rfl rfl (fun c25 => ?_) (fun c25 => ?_)
      · exact L136 x1 x2 _ _ _ _ hR hF hP hD hS (lv_sub hl [0, 1, 2] rfl)
      · refine lv_aload_n F.1 F.2.1 dX10_readRun_25 rfl (lv_at hl 0 rfl) ?_
        refine a_getr F inX10 hP 1 0 tc_1 rfl rfl (by decide) q93 (fun _ h9 => h9) dX10_readRun_26 ?_
        refine lv_aload_n F.1 F.2.1 dX10_readRun_29 rfl (lv_at hl 0 rfl) ?_
        refine a_geti F inX10 hP 1 4 tc_1 rfl rfl (by decide) q98 (fun _ h9 => h9) (v := (u.1 1 4)) (rfl) dX10_readRun_30 ?_
        refine a_bald F hP 2 tc_2 rfl (i_in rfl (by omega)) dX10_readRun_33 (fun v26 ev26 => ?_)
        have hv26 : (-128 : Int) ≤ v26.toInt ∧ v26.toInt ≤ 127 := ev26 ▸ hR 2 _
        refine a_Si F hml hl.1 hA hP hD hS (As := [.int v26]) (c_X10_isLetter l dC dI ad cA nF _ v26 hR (by omega)) (cs_RX10_75 (d := 1) F.2.2.1 (by decide)) rfl rfl (Nat.le_of_ble_eq_true rfl) dX10_readRun_34 ⟨Nat.le_refl 0, Nat.le_refl 0⟩ (fun r27 uN27 H locs hq hP hD hS => ?_)
        obtain ⟨hu27, gr27⟩ := hq
        rw [hu27] at hP hD
        refine z_ne F 55 dX10_readRun_37 (by decide) rfl (fun c28 => ?_) (fun c28 => ?_)
        · exact L55 x1 x2 _ _ _ _ hR hF (by omega : (1 : Int) ≤ (u.1 1 2).toInt ∧ (u.1 1 2).toInt ≤ 940) (by omega : (0 : Int) ≤ (u.1 1 4).toInt ∧ (u.1 1 4).toInt ≤ 939) (by omega : 940 - (u.1 1 4).toInt < ((n14 : Nat) : Int) + 1) hP hD hS (lv_sub hl [0, 1, 2] rfl)
        · refine lv_aload_n F.1 F.2.1 dX10_readRun_40 rfl (lv_at hl 0 rfl) ?_
          refine a_getr F inX10 hP 1 0 tc_1 rfl rfl (by decide) q93 (fun _ h9 => h9) dX10_readRun_41 ?_
          refine lv_aload_n F.1 F.2.1 dX10_readRun_44 rfl (lv_at hl 0 rfl) ?_
          refine a_geti F inX10 hP 1 4 tc_1 rfl rfl (by decide) q98 (fun _ h9 => h9) (v := (u.1 1 4)) (rfl) dX10_readRun_45 ?_
          refine a_bald F hP 2 tc_2 rfl (i_in rfl (by omega)) dX10_readRun_48 (fun v29 ev29 => ?_)
          have hv29 : (-128 : Int) ≤ v29.toInt ∧ v29.toInt ≤ 127 := ev29 ▸ hR 2 _
          refine a_Si F hml hl.1 hA hP hD hS (As := [.int v29]) (c_X10_isDigit l dC dI ad cA nF _ v29 hR (by omega)) (cs_RX10_78 (d := 1) F.2.2.1 (by decide)) rfl rfl (Nat.le_of_ble_eq_true rfl) dX10_readRun_49 ⟨Nat.le_refl 0, Nat.le_refl 0⟩ (fun r30 uN30 H locs hq hP hD hS => ?_)
          obtain ⟨hu30, gr30⟩ := hq
          rw [hu30] at hP hD
          refine z_eq F 136 dX10_readRun_52 (by decide) rfl (fun c31 => ?_) (fun c31 => ?_)
          · exact L136 x1 x2 _ _ _ _ hR hF hP hD hS (lv_sub hl [0, 1, 2] rfl)
          · exact L55 x1 x2 _ _ _ _ hR hF (by omega : (1 : Int) ≤ (u.1 1 2).toInt ∧ (u.1 1 2).toInt ≤ 940) (by omega : (0 : Int) ≤ (u.1 1 4).toInt ∧ (u.1 1 4).toInt ≤ 939) (by omega : 940 - (u.1 1 4).toInt < ((n14 : Nat) : Int) + 1) hP hD hS (lv_sub hl [0, 1, 2] rfl)
  refine a_ic F (0 : Int32) dX10_readRun_0 (by decide) ?_
  refine lv_istore_n (lv' := [(1, .int (0 : Int32)), (0, .ref (ad 1))]) F.1 F.2.1 dX10_readRun_1 rfl hl (by decide) rfl (fun ls hl => ?_)
  refine a_ic F (0 : Int32) dX10_readRun_2 (by decide) ?_
  refine lv_istore_n (lv' := [(2, .int (0 : Int32)), (1, .int (0 : Int32)), (0, .ref (ad 1))]) F.1 F.2.1 dX10_readRun_3 rfl hl (by decide) rfl (fun ls hl => ?_)
  refine lv_aload_n F.1 F.2.1 dX10_readRun_4 rfl (lv_at hl 2 rfl) ?_
  refine lv_lconst (v := (0 : Int64)) F.1 F.2.1 dX10_readRun_5 (by decide) ?_
  refine a_putl F inX10 tyX10 tyX10_ok nmX10 hP hD hS 1 7 tc_1 rfl rfl (by decide) q104 (fun _ h9 => h9) rfl (tyX10_ok 7 (by decide)) dX10_readRun_6 (fun H locs hP hD hS => ?_)
  have hR := ac_slR hD hR
  have hF := ac_slF hD hF
  refine lv_aload_n F.1 F.2.1 dX10_readRun_9 rfl (lv_at hl 2 rfl) ?_
  refine a_ic F (0 : Int32) dX10_readRun_10 (by decide) ?_
  refine a_puti F inX10 tyX10 tyX10_ok nmX10 hP hD hS 1 8 tc_1 rfl rfl (by decide) q106 (fun _ h9 => h9) rfl (ty := .int) (tyX10_ok 8 (by decide)) rfl rfl dX10_readRun_11 (fun H locs hP hD hS => ?_)
  have hR := hR.si (c := 1) (k := 8) (v := (0 : Int32)) ⟨i_lo _, i_hi _⟩
  have hF := hF.si (c := 1) (k := 8) (v := (0 : Int32)) rfl
  have g32 : (0 : Int) ≤ (u0.1 1 4).toInt ∧ (u0.1 1 4).toInt ≤ 940 := hR 1 4
  exact L14 942 (0 : Int32) (0 : Int32) _ _ _ _ hR hF (by omega : 940 - (u0.1 1 4).toInt < (942 : Int)) hP hD hS (lv_sub hl [2, 1, 0] rfl)
set_option maxHeartbeats 600000 in
set_option maxRecDepth 100000 in
theorem c_X10_readNext_1 (l : Launch) (dC : Nat → ClassId) (dI : Nat → Nat → Nat) (ad : Nat → Nat) (cA : Nat → ClassId) (nF : Nat) (u0 : ac_U)  (hR : ac_R rg u0) : ac_Mv l yX10_readNext (.code yX10_readNext cX10_readNext 1 none :: TB) 3 (dC, dI) vwCl (ac_ty cA) ad cA (TT nF) [.ref (ad 1)] u0 (fun (u : ac_U) => ac_R rg u ∧ ac_Fr [(1, some 4), (1, some 5), (1, some 6), (1, some 8)] u0 u) := by
  refine ac_Mv.of (cc := cX10_readNext) (maxL := 1) (ret := none) (by decide) rfl (Nat.le_of_ble_eq_true rfl) ?_
  intro p e s m below meth c A ls F hml hr hlocks hA hP hD hS hl
  have F : ac_X p s m [.ref (ad 1)].toArray c cX10_readNext RX10 TB (dC, dI) vwCl (ac_ty cA) := ⟨F.1, F.2.1, fun w h => F.2.2.1 w (List.mem_cons_of_mem _ h), F.2.2.2.1, F.2.2.2.2⟩
  have hl : lv_has ls 1 [(0, .ref (ad 1))] := hl
  have hF : ac_Fr [(1, some 4), (1, some 5), (1, some 6), (1, some 8)] u0 u0 := ac_Fr.rf
  have L181 : ∀ (z1 : Int32) (u : ac_U) (H : Heap) (locs : List Loc) (ls : Array Slot), ac_R rg u → ac_Fr [(1, some 4), (1, some 5), (1, some 6), (1, some 8)] u0 u → (-128 : Int) ≤ z1.toInt ∧ z1.toInt ≤ 127 → (1 : Int) ≤ (u.1 1 2).toInt ∧ (u.1 1 2).toInt ≤ 940 → (0 : Int) ≤ (u.1 1 4).toInt ∧ (u.1 1 4).toInt ≤ 939 → va_P (dC, dI) vwCl (ac_w ad cA (TT nF) u) H → va_D A (ac_w ad cA (TT nF) u) → va_S A s.heap H locs → lv_has ls 1 [(0, .ref (ad 1))] → W p l e (ac_rm 3) s m [.ref (ad 1)].toArray below meth c H locs 0 0 (MQ below (va_Qv (fun (u : ac_U) => ac_R rg u ∧ ac_Fr [(1, some 4), (1, some 5), (1, some 6), (1, some 8)] u0 u) (ac_B (dC, dI) vwCl (ac_ty cA) ad cA (TT nF) A) A) [.ref (ad 1)].toArray s 0 0 A) (F0 m 181 ls [.int z1, .ref (ad 1)]) := by
    intro z1 u H locs ls hR hF f0 f1 f2 hP hD hS hl
    refine a_puti F inX10 tyX10 tyX10_ok nmX10 hP hD hS 1 6 tc_1 rfl rfl (by decide) q100 (fun _ h9 => h9) rfl (ty := .int) (tyX10_ok 6 (by decide)) rfl rfl dX10_readNext_181 (fun H locs hP hD hS => ?_)
    have hR := hR.si (c := 1) (k := 6) (v := z1) (by omega : (-128 : Int) ≤ z1.toInt ∧ z1.toInt ≤ 127)
    have hF := hF.si (c := 1) (k := 6) (v := z1) rfl
    refine lv_aload_n F.1 F.2.1 dX10_readNext_184 rfl (lv_at hl 0 rfl) ?_
    refine lv_dup F.1 F.2.1 dX10_readNext_185 rfl ?_
    have g1 : (0 : Int) ≤ (u.1 1 4).toInt ∧ (u.1 1 4).toInt ≤ 940 := hR 1 4
    refine a_geti F inX10 hP 1 4 tc_1 rfl rfl (by decide) q98 (fun _ h9 => h9) (v := (u.1 1 4)) rfl dX10_readNext_186 ?_
    refine a_ic F (1 : Int32) dX10_readNext_189 (by decide) ?_
    refine a_iadd F dX10_readNext_190 rfl ic_1 (by omega) (fun v2 hv2 => ?_)
    refine a_puti F inX10 tyX10 tyX10_ok nmX10 hP hD hS 1 4 tc_1 rfl rfl (by decide) q98 (fun _ h9 => h9) rfl (ty := .int) (tyX10_ok 4 (by decide)) rfl rfl dX10_readNext_191 (fun H locs hP hD hS => ?_)
    have hR := hR.si (c := 1) (k := 4) (v := v2) (by omega : (0 : Int) ≤ v2.toInt ∧ v2.toInt ≤ 940)
    have hF := hF.si (c := 1) (k := 4) (v := v2) rfl
    exact a_retv F hr hlocks hP hD hS dX10_readNext_194 ⟨hR, hF⟩
  have L145 : ∀ (u : ac_U) (H : Heap) (locs : List Loc) (ls : Array Slot), ac_R rg u → ac_Fr [(1, some 4), (1, some 5), (1, some 6), (1, some 8)] u0 u → (1 : Int) ≤ (u.1 1 2).toInt ∧ (u.1 1 2).toInt ≤ 940 → (0 : Int) ≤ (u.1 1 4).toInt ∧ (u.1 1 4).toInt ≤ 939 → va_P (dC, dI) vwCl (ac_w ad cA (TT nF) u) H → va_D A (ac_w ad cA (TT nF) u) → va_S A s.heap H locs → lv_has ls 1 [(0, .ref (ad 1))] → W p l e (ac_rm 3) s m [.ref (ad 1)].toArray below meth c H locs 0 0 (MQ below (va_Qv (fun (u : ac_U) => ac_R rg u ∧ ac_Fr [(1, some 4), (1, some 5), (1, some 6), (1, some 8)] u0 u) (ac_B (dC, dI) vwCl (ac_ty cA) ad cA (TT nF) A) A) [.ref (ad 1)].toArray s 0 0 A) (F0 m 145 ls []) := by
    intro u H locs ls hR hF f0 f1 hP hD hS hl
    refine lv_aload_n F.1 F.2.1 dX10_readNext_145 rfl (lv_at hl 0 rfl) ?_
    refine a_Vv F hml hl.1 hA hP hD hS (As := []) (c_X10_readRun_1 l dC dI ad cA nF _  hR) (cs_RX10_81 (d := 2) F.2.2.1 (by decide)) tc_1 rfl rfl rfl rfl (Nat.le_of_ble_eq_true rfl) dX10_readNext_146 ⟨Nat.le_refl 0, Nat.le_refl 0⟩ (fun u3 H locs hq hP hD hS => ?_)
    obtain ⟨hR, hF3⟩ := hq
    have hF := hF.tr hF3 (by decide)
    refine lv_goto (tgt := 194) F.1 F.2.1 dX10_readNext_149 (by decide) ?_
    exact a_retv F hr hlocks hP hD hS dX10_readNext_194 ⟨hR, hF⟩
  have L88 : ∀ (u : ac_U) (H : Heap) (locs : List Loc) (ls : Array Slot), ac_R rg u → ac_Fr [(1, some 4), (1, some 5), (1, some 6), (1, some 8)] u0 u → va_P (dC, dI) vwCl (ac_w ad cA (TT nF) u) H → va_D A (ac_w ad cA (TT nF) u) → va_S A s.heap H locs → lv_has ls 1 [(0, .ref (ad 1))] → W p l e (ac_rm 3) s m [.ref (ad 1)].toArray below meth c H locs 0 0 (MQ below (va_Qv (fun (u : ac_U) => ac_R rg u ∧ ac_Fr [(1, some 4), (1, some 5), (1, some 6), (1, some 8)] u0 u) (ac_B (dC, dI) vwCl (ac_ty cA) ad cA (TT nF) A) A) [.ref (ad 1)].toArray s 0 0 A) (F0 m 88 ls []) := by
    intro u H locs ls hR hF hP hD hS hl
    refine lv_aload_n F.1 F.2.1 dX10_readNext_88 rfl (lv_at hl 0 rfl) ?_
    refine lv_aload_n F.1 F.2.1 dX10_readNext_89 rfl (lv_at hl 0 rfl) ?_
    have g4 : (0 : Int) ≤ (u.1 1 4).toInt ∧ (u.1 1 4).toInt ≤ 940 := hR 1 4
    refine a_geti F inX10 hP 1 4 tc_1 rfl rfl (by decide) q98 (fun _ h9 => h9) (v := (u.1 1 4)) rfl dX10_readNext_90 ?_
    refine a_puti F inX10 tyX10 tyX10_ok nmX10 hP hD hS 1 5 tc_1 rfl rfl (by decide) q99 (fun _ h9 => h9) rfl (ty := .int) (tyX10_ok 5 (by decide)) rfl rfl dX10_readNext_93 (fun H locs hP hD hS => ?_)
    have hR := hR.si (c := 1) (k := 5) (v := (u.1 1 4)) (by omega : (0 : Int) ≤ (u.1 1 4).toInt ∧ (u.1 1 4).toInt ≤ 940)
    have hF := hF.si (c := 1) (k := 5) (v := (u.1 1 4)) rfl
    refine lv_aload_n F.1 F.2.1 dX10_readNext_96 rfl (lv_at hl 0 rfl) ?_
    refine a_geti F inX10 hP 1 4 tc_1 rfl rfl (by decide) q98 (fun _ h9 => h9) (v := (u.1 1 4)) (rfl) dX10_readNext_97 ?_
    refine lv_aload_n F.1 F.2.1 dX10_readNext_100 rfl (lv_at hl 0 rfl) ?_
    have g5 : (0 : Int) ≤ (u.1 1 2).toInt ∧ (u.1 1 2).toInt ≤ 940 := hR 1 2
    refine a_geti F inX10 hP 1 2 tc_1 rfl rfl (by decide) q95 (fun _ h9 => h9) (v := (u.1 1 2)) rfl dX10_readNext_101 ?_
    refine b_lt F 115 dX10_readNext_104 (by decide) rfl rfl (fun c6 => ?_) (fun c6 => ?_)
    · refine lv_aload_n F.1 F.2.1 dX10_readNext_115 rfl (lv_at hl 0 rfl) ?_
      refine a_getr F inX10 hP 1 0 tc_1 rfl rfl (by decide) q93 (fun _ h9 => h9) dX10_readNext_116 ?_
      refine lv_aload_n F.1 F.2.1 dX10_readNext_119 rfl (lv_at hl 0 rfl) ?_
      refine a_geti F inX10 hP 1 4 tc_1 rfl rfl (by decide) q98 (fun _ h9 => h9) (v := (u.1 1 4)) (rfl) dX10_readNext_120 ?_
      refine a_bald F hP 2 tc_2 rfl (i_in rfl (by omega)) dX10_readNext_123 (fun v7 ev7 => ?_)
      have hv7 : (-128 : Int) ≤ v7.toInt ∧ v7.toInt ≤ 127 := ev7 ▸ hR 2 _
      refine a_Si F hml hl.1 hA hP hD hS (As := [.int v7]) (c_X10_isLetter l dC dI ad cA nF _ v7 hR (by omega)) (cs_RX10_75 (d := 1) F.2.2.1 (by decide)) rfl rfl (Nat.le_of_ble_eq_true rfl) dX10_readNext_124 ⟨Nat.le_refl 0, Nat.le_refl 0⟩ (fun r8 uN8 H locs hq hP hD hS => ?_)
      obtain ⟨hu8, gr8⟩ := hq
      rw [hu8] at hP hD
      refine z_ne F 145 dX10_readNext_127 (by decide) rfl (fun c9 => ?_) (fun c9 => ?_)
      · exact L145 _ _ _ _ hR hF (by omega : (1 : Int) ≤ (u.1 1 2).toInt ∧ (u.1 1 2).toInt ≤ 940) (by omega : (0 : Int) ≤ (u.1 1 4).toInt ∧ (u.1 1 4).toInt ≤ 939) hP hD hS (lv_sub hl [0] rfl)
      · refine lv_aload_n F.1 F.2.1 dX10_readNext_130 rfl (lv_at hl 0 rfl) ?_
        refine a_getr F inX10 hP 1 0 tc_1 rfl rfl (by decide) q93 (fun _ h9 => h9) dX10_readNext_131 ?_
        refine lv_aload_n F.1 F.2.1 dX10_readNext_134 rfl (lv_at hl 0 rfl) ?_
        refine a_geti F inX10 hP 1 4 tc_1 rfl rfl (by decide) q98 (fun _ h9 => h9) (v := (u.1 1 4)) (rfl) dX10_readNext_135 ?_
        refine a_bald F hP 2 tc_2 rfl (i_in rfl (by omega)) dX10_readNext_138 (fun v10 ev10 => ?_)
        have hv10 : (-128 : Int) ≤ v10.toInt ∧ v10.toInt ≤ 127 := ev10 ▸ hR 2 _
        refine a_Si F hml hl.1 hA hP hD hS (As := [.int v10]) (c_X10_isDigit l dC dI ad cA nF _ v10 hR (by omega)) (cs_RX10_78 (d := 1) F.2.2.1 (by decide)) rfl rfl (Nat.le_of_ble_eq_true rfl) dX10_readNext_139 ⟨Nat.le_refl 0, Nat.le_refl 0⟩ (fun r11 uN11 H locs hq hP hD hS => ?_)
        obtain ⟨hu11, gr11⟩ := hq
        rw [hu11] at hP hD
        refine z_eq F 152 dX10_readNext_142 (by decide) rfl (fun c12 => ?_) (fun c12 => ?_)
        · refine lv_aload_n F.1 F.2.1 dX10_readNext_152 rfl (lv_at hl 0 rfl) ?_
          refine lv_aload_n F.1 F.2.1 dX10_readNext_153 rfl (lv_at hl 0 rfl) ?_
          refine a_getr F inX10 hP 1 0 tc_1 rfl rfl (by decide) q93 (fun _ h9 => h9) dX10_readNext_154 ?_
          refine lv_aload_n F.1 F.2.1 dX10_readNext_157 rfl (lv_at hl 0 rfl) ?_
          refine a_geti F inX10 hP 1 4 tc_1 rfl rfl (by decide) q98 (fun _ h9 => h9) (v := (u.1 1 4)) (rfl) dX10_readNext_158 ?_
          refine a_bald F hP 2 tc_2 rfl (i_in rfl (by omega)) dX10_readNext_161 (fun v13 ev13 => ?_)
          have hv13 : (-128 : Int) ≤ v13.toInt ∧ v13.toInt ≤ 127 := ev13 ▸ hR 2 _
          refine a_Si F hml hl.1 hA hP hD hS (As := [.int v13]) (c_X10_isSign l dC dI ad cA nF _ v13 hR (by omega)) (cs_RX10_84 (d := 2) F.2.2.1 (by decide)) rfl rfl (Nat.le_of_ble_eq_true rfl) dX10_readNext_162 ⟨Nat.le_refl 0, Nat.le_refl 0⟩ (fun r14 uN14 H locs hq hP hD hS => ?_)
          obtain ⟨hu14, gr14⟩ := hq
          rw [hu14] at hP hD
          refine z_eq F 180 dX10_readNext_165 (by decide) rfl (fun c15 => ?_) (fun c15 => ?_)
          · refine a_ic F (1 : Int32) dX10_readNext_180 (by decide) ?_
            exact L181 (1 : Int32) _ _ _ _ hR hF (by decide) (by omega : (1 : Int) ≤ (u.1 1 2).toInt ∧ (u.1 1 2).toInt ≤ 940) (by omega : (0 : Int) ≤ (u.1 1 4).toInt ∧ (u.1 1 4).toInt ≤ 939) hP hD hS (lv_sub hl [0] rfl)
          · refine lv_aload_n F.1 F.2.1 dX10_readNext_168 rfl (lv_at hl 0 rfl) ?_
            refine a_getr F inX10 hP 1 0 tc_1 rfl rfl (by decide) q93 (fun _ h9 => h9) dX10_readNext_169 ?_
            refine lv_aload_n F.1 F.2.1 dX10_readNext_172 rfl (lv_at hl 0 rfl) ?_
            refine a_geti F inX10 hP 1 4 tc_1 rfl rfl (by decide) q98 (fun _ h9 => h9) (v := (u.1 1 4)) (rfl) dX10_readNext_173 ?_
            refine a_bald F hP 2 tc_2 rfl (i_in rfl (by omega)) dX10_readNext_176 (fun v16 ev16 => ?_)
            have hv16 : (-128 : Int) ≤ v16.toInt ∧ v16.toInt ≤ 127 := ev16 ▸ hR 2 _
            refine lv_goto (tgt := 181) F.1 F.2.1 dX10_readNext_177 (by decide) ?_
            exact L181 v16 _ _ _ _ hR hF (by omega) (by omega : (1 : Int) ≤ (u.1 1 2).toInt ∧ (u.1 1 2).toInt ≤ 940) (by omega : (0 : Int) ≤ (u.1 1 4).toInt ∧ (u.1 1 4).toInt ≤ 939) hP hD hS (lv_sub hl [0] rfl)
        · exact L145 _ _ _ _ hR hF (by omega : (1 : Int) ≤ (u.1 1 2).toInt ∧ (u.1 1 2).toInt ≤ 940) (by omega : (0 : Int) ≤ (u.1 1 4).toInt ∧ (u.1 1 4).toInt ≤ 939) hP hD hS (lv_sub hl [0] rfl)
    · refine lv_aload_n F.1 F.2.1 dX10_readNext_107 rfl (lv_at hl 0 rfl) ?_
      refine a_ic F (0 : Int32) dX10_readNext_108 (by decide) ?_
      refine a_puti F inX10 tyX10 tyX10_ok nmX10 hP hD hS 1 6 tc_1 rfl rfl (by decide) q100 (fun _ h9 => h9) rfl (ty := .int) (tyX10_ok 6 (by decide)) rfl rfl dX10_readNext_109 (fun H locs hP hD hS => ?_)
      have hR := hR.si (c := 1) (k := 6) (v := (0 : Int32)) (by rw [ic_0]; exact (by omega : (-128 : Int) ≤ (0 : Int) ∧ (0 : Int) ≤ 127))
      have hF := hF.si (c := 1) (k := 6) (v := (0 : Int32)) rfl
      refine lv_goto (tgt := 194) F.1 F.2.1 dX10_readNext_112 (by decide) ?_
      exact a_retv F hr hlocks hP hD hS dX10_readNext_194 ⟨hR, hF⟩
  have L52 : ∀ (u : ac_U) (H : Heap) (locs : List Loc) (ls : Array Slot), ac_R rg u → ac_Fr [(1, some 4), (1, some 5), (1, some 6), (1, some 8)] u0 u → va_P (dC, dI) vwCl (ac_w ad cA (TT nF) u) H → va_D A (ac_w ad cA (TT nF) u) → va_S A s.heap H locs → lv_has ls 1 [(0, .ref (ad 1))] → W p l e (ac_rm 3) s m [.ref (ad 1)].toArray below meth c H locs 0 0 (MQ below (va_Qv (fun (u : ac_U) => ac_R rg u ∧ ac_Fr [(1, some 4), (1, some 5), (1, some 6), (1, some 8)] u0 u) (ac_B (dC, dI) vwCl (ac_ty cA) ad cA (TT nF) A) A) [.ref (ad 1)].toArray s 0 0 A) (F0 m 52 ls []) := by
    intro u H locs ls hR hF hP hD hS hl
    refine lv_aload_n F.1 F.2.1 dX10_readNext_52 rfl (lv_at hl 0 rfl) ?_
    have g17 : (0 : Int) ≤ (u.1 1 4).toInt ∧ (u.1 1 4).toInt ≤ 940 := hR 1 4
    refine a_geti F inX10 hP 1 4 tc_1 rfl rfl (by decide) q98 (fun _ h9 => h9) (v := (u.1 1 4)) rfl dX10_readNext_53 ?_
    refine lv_aload_n F.1 F.2.1 dX10_readNext_56 rfl (lv_at hl 0 rfl) ?_
    have g18 : (0 : Int) ≤ (u.1 1 3).toInt ∧ (u.1 1 3).toInt ≤ 900 := hR 1 3
    refine a_geti F inX10 hP 1 3 tc_1 rfl rfl (by decide) q97 (fun _ h9 => h9) (v := (u.1 1 3)) rfl dX10_readNext_57 ?_
    refine b_lt F 88 dX10_readNext_60 (by decide) rfl rfl (fun c19 => ?_) (fun c19 => ?_)
    · exact L88 _ _ _ _ hR hF hP hD hS (lv_sub hl [0] rfl)
    · refine lv_aload_n F.1 F.2.1 dX10_readNext_63 rfl (lv_at hl 0 rfl) ?_
      have g20 : (0 : Int) ≤ (u.1 1 2).toInt ∧ (u.1 1 2).toInt ≤ 940 := hR 1 2
      refine a_geti F inX10 hP 1 2 tc_1 rfl rfl (by decide) q95 (fun _ h9 => h9) (v := (u.1 1 2)) rfl dX10_readNext_64 ?_
      refine lv_aload_n F.1 F.2.1 dX10_readNext_67 rfl (lv_at hl 0 rfl) ?_
      refine a_geti F inX10 hP 1 3 tc_1 rfl rfl (by decide) q97 (fun _ h9 => h9) (v := (u.1 1 3)) (rfl) dX10_readNext_68 ?_
      refine b_le F 88 dX10_readNext_71 (by decide) rfl rfl (fun c21 => ?_) (fun c21 => ?_)
      · exact L88 _ _ _ _ hR hF hP hD hS (lv_sub hl [0] rfl)
      · refine lv_aload_n F.1 F.2.1 dX10_readNext_74 rfl (lv_at hl 0 rfl) ?_
        refine lv_aload_n F.1 F.2.1 dX10_readNext_75 rfl (lv_at hl 0 rfl) ?_
        refine a_geti F inX10 hP 1 3 tc_1 rfl rfl (by decide) q97 (fun _ h9 => h9) (v := (u.1 1 3)) (rfl) dX10_readNext_76 ?_
        refine a_puti F inX10 tyX10 tyX10_ok nmX10 hP hD hS 1 5 tc_1 rfl rfl (by decide) q99 (fun _ h9 => h9) rfl (ty := .int) (tyX10_ok 5 (by decide)) rfl rfl dX10_readNext_79 (fun H locs hP hD hS => ?_)
        have hR := hR.si (c := 1) (k := 5) (v := (u.1 1 3)) (by omega : (0 : Int) ≤ (u.1 1 3).toInt ∧ (u.1 1 3).toInt ≤ 940)
        have hF := hF.si (c := 1) (k := 5) (v := (u.1 1 3)) rfl
        refine lv_aload_n F.1 F.2.1 dX10_readNext_82 rfl (lv_at hl 0 rfl) ?_
        refine a_ic F (1 : Int32) dX10_readNext_83 (by decide) ?_
        refine a_puti F inX10 tyX10 tyX10_ok nmX10 hP hD hS 1 6 tc_1 rfl rfl (by decide) q100 (fun _ h9 => h9) rfl (ty := .int) (tyX10_ok 6 (by decide)) rfl rfl dX10_readNext_84 (fun H locs hP hD hS => ?_)
        have hR := hR.si (c := 1) (k := 6) (v := (1 : Int32)) (by rw [ic_1]; exact (by omega : (-128 : Int) ≤ (1 : Int) ∧ (1 : Int) ≤ 127))
        have hF := hF.si (c := 1) (k := 6) (v := (1 : Int32)) rfl
        exact a_retv F hr hlocks hP hD hS dX10_readNext_87 ⟨hR, hF⟩
  have L0 : ∀ (n0 : Nat) (u : ac_U) (H : Heap) (locs : List Loc) (ls : Array Slot), ac_R rg u → ac_Fr [(1, some 4), (1, some 5), (1, some 6), (1, some 8)] u0 u → 940 - (u.1 1 4).toInt < (n0 : Int) → va_P (dC, dI) vwCl (ac_w ad cA (TT nF) u) H → va_D A (ac_w ad cA (TT nF) u) → va_S A s.heap H locs → lv_has ls 1 [(0, .ref (ad 1))] → W p l e (ac_rm 3) s m [.ref (ad 1)].toArray below meth c H locs 0 0 (MQ below (va_Qv (fun (u : ac_U) => ac_R rg u ∧ ac_Fr [(1, some 4), (1, some 5), (1, some 6), (1, some 8)] u0 u) (ac_B (dC, dI) vwCl (ac_ty cA) ad cA (TT nF) A) A) [.ref (ad 1)].toArray s 0 0 A) (F0 m 0 ls []) := by
    intro n0
    induction n0 with
    | zero => intro u H locs ls hR hF hn0 hP hD hS hl; have gz0 : (0 : Int) ≤ (u.1 1 4).toInt ∧ (u.1 1 4).toInt ≤ 940 := hR 1 4; exfalso; omega
    | succ n0 ih0 =>
      intro u H locs ls hR hF hn0 hP hD hS hl
      have L39 : ∀ (u : ac_U) (H : Heap) (locs : List Loc) (ls : Array Slot), ac_R rg u → ac_Fr [(1, some 4), (1, some 5), (1, some 6), (1, some 8)] u0 u → (1 : Int) ≤ (u.1 1 2).toInt ∧ (u.1 1 2).toInt ≤ 940 → (0 : Int) ≤ (u.1 1 4).toInt ∧ (u.1 1 4).toInt ≤ 939 → 940 - (u.1 1 4).toInt < ((n0 : Nat) : Int) + 1 → va_P (dC, dI) vwCl (ac_w ad cA (TT nF) u) H → va_D A (ac_w ad cA (TT nF) u) → va_S A s.heap H locs → lv_has ls 1 [(0, .ref (ad 1))] → W p l e (ac_rm 3) s m [.ref (ad 1)].toArray below meth c H locs 0 0 (MQ below (va_Qv (fun (u : ac_U) => ac_R rg u ∧ ac_Fr [(1, some 4), (1, some 5), (1, some 6), (1, some 8)] u0 u) (ac_B (dC, dI) vwCl (ac_ty cA) ad cA (TT nF) A) A) [.ref (ad 1)].toArray s 0 0 A) (F0 m 39 ls []) := by
        intro u H locs ls hR hF f0 f1 f2 hP hD hS hl
        refine lv_aload_n F.1 F.2.1 dX10_readNext_39 rfl (lv_at hl 0 rfl) ?_
        refine lv_dup F.1 F.2.1 dX10_readNext_40 rfl ?_
        have g22 : (0 : Int) ≤ (u.1 1 4).toInt ∧ (u.1 1 4).toInt ≤ 940 := hR 1 4
        refine a_geti F inX10 hP 1 4 tc_1 rfl rfl (by decide) q98 (fun _ h9 => h9) (v := (u.1 1 4)) rfl dX10_readNext_41 ?_
        refine a_ic F (1 : Int32) dX10_readNext_44 (by decide) ?_
        refine a_iadd F dX10_readNext_45 rfl ic_1 (by omega) (fun v23 hv23 => ?_)
        refine a_puti F inX10 tyX10 tyX10_ok nmX10 hP hD hS 1 4 tc_1 rfl rfl (by decide) q98 (fun _ h9 => h9) rfl (ty := .int) (tyX10_ok 4 (by decide)) rfl rfl dX10_readNext_46 (fun H locs hP hD hS => ?_)
        have hR := hR.si (c := 1) (k := 4) (v := v23) (by omega : (0 : Int) ≤ v23.toInt ∧ v23.toInt ≤ 940)
        have hF := hF.si (c := 1) (k := 4) (v := v23) rfl
        refine lv_goto (tgt := 0) F.1 F.2.1 dX10_readNext_49 (by decide) ?_
        exact ih0 _ _ _ _ hR hF (by omega : 940 - v23.toInt < ((n0 : Nat) : Int)) hP hD hS (lv_sub hl [0] rfl)
      refine lv_aload_n F.1 F.2.1 dX10_readNext_0 rfl (lv_at hl 0 rfl) ?_
      have g24 : (0 : Int) ≤ (u.1 1 4).toInt ∧ (u.1 1 4).toInt ≤ 940 := hR 1 4
      refine a_geti F inX10 hP 1 4 tc_1 rfl rfl (by decide) q98 (fun _ h9 => h9) (v := (u.1 1 4)) rfl dX10_readNext_1 ?_
      refine lv_aload_n F.1 F.2.1 dX10_readNext_4 rfl (lv_at hl 0 rfl) ?_
      have g25 : (0 : Int) ≤ (u.1 1 2).toInt ∧ (u.1 1 2).toInt ≤ 940 := hR 1 2
      refine a_geti F inX10 hP 1 2 tc_1 rfl rfl (by decide) q95 (fun _ h9 => h9) (v := (u.1 1 2)) rfl dX10_readNext_5 ?_
      refine b_ge F 52 dX10_readNext_8 (by decide) rfl rfl (fun c26 => ?_) (fun c26 => ?_)
      · exact L52 _ _ _ _ hR hF hP hD hS (lv_sub hl [0] rfl)
      · refine lv_aload_n F.1 F.2.1 dX10_readNext_11 rfl (lv_at hl 0 rfl) ?_
        refine a_getr F inX10 hP 1 0 tc_1 rfl rfl (by decide) q93 (fun _ h9 => h9) dX10_readNext_12 ?_
        refine lv_aload_n F.1 F.2.1 dX10_readNext_15 rfl (lv_at hl 0 rfl) ?_
        refine a_geti F inX10 hP 1 4 tc_1 rfl rfl (by decide) q98 (fun _ h9 => h9) (v := (u.1 1 4)) (rfl) dX10_readNext_16 ?_
        refine a_bald F hP 2 tc_2 rfl (i_in rfl (by omega)) dX10_readNext_19 (fun v27 ev27 => ?_)
        have hv27 : (-128 : Int) ≤ v27.toInt ∧ v27.toInt ≤ 127 := ev27 ▸ hR 2 _
        refine a_bp F (32 : Int32) dX10_readNext_20 (by decide) ?_
        refine b_eq F 39 dX10_readNext_22 (by decide) rfl ic_32 (fun c28 => ?_) (fun c28 => ?_)
        · exact L39 _ _ _ _ hR hF (by omega : (1 : Int) ≤ (u.1 1 2).toInt ∧ (u.1 1 2).toInt ≤ 940) (by omega : (0 : Int) ≤ (u.1 1 4).toInt ∧ (u.1 1 4).toInt ≤ 939) (by omega : 940 - (u.1 1 4).toInt < ((n0 : Nat) : Int) + 1) hP hD hS (lv_sub hl [0] rfl)
        · refine lv_aload_n F.1 F.2.1 dX10_readNext_25 rfl (lv_at hl 0 rfl) ?_
          refine a_getr F inX10 hP 1 0 tc_1 rfl rfl (by decide) q93 (fun _ h9 => h9) dX10_readNext_26 ?_
          refine lv_aload_n F.1 F.2.1 dX10_readNext_29 rfl (lv_at hl 0 rfl) ?_
          refine a_geti F inX10 hP 1 4 tc_1 rfl rfl (by decide) q98 (fun _ h9 => h9) (v := (u.1 1 4)) (rfl) dX10_readNext_30 ?_
          refine a_bald F hP 2 tc_2 rfl (i_in rfl (by omega)) dX10_readNext_33 (fun v29 ev29 => ?_)
          have hv29 : (-128 : Int) ≤ v29.toInt ∧ v29.toInt ≤ 127 := ev29 ▸ hR 2 _
          refine a_bp F (10 : Int32) dX10_readNext_34 (by decide) ?_
          refine b_ne F 52 dX10_readNext_36 (by decide) rfl ic_10 (fun c30 => ?_) (fun c30 => ?_)
          · exact L52 _ _ _ _ hR hF hP hD hS (lv_sub hl [0] rfl)
          · exact L39 _ _ _ _ hR hF (by omega : (1 : Int) ≤ (u.1 1 2).toInt ∧ (u.1 1 2).toInt ≤ 940) (by omega : (0 : Int) ≤ (u.1 1 4).toInt ∧ (u.1 1 4).toInt ≤ 939) (by omega : 940 - (u.1 1 4).toInt < ((n0 : Nat) : Int) + 1) hP hD hS (lv_sub hl [0] rfl)
  have g31 : (0 : Int) ≤ (u0.1 1 4).toInt ∧ (u0.1 1 4).toInt ≤ 940 := hR 1 4
  exact L0 942 _ _ _ _ hR hF (by omega : 940 - (u0.1 1 4).toInt < (942 : Int)) hP hD hS (lv_sub hl [0] rfl)
set_option maxHeartbeats 600000 in
set_option maxRecDepth 100000 in
theorem c_X2_nameIndex_4 (l : Launch) (dC : Nat → ClassId) (dI : Nat → Nat → Nat) (ad : Nat → Nat) (cA : Nat → ClassId) (nF : Nat) (u0 : ac_U) (p0 : Int64) (hR : ac_R rg u0) : ac_Mi l yX2_nameIndex (.code yX2_nameIndex cX2_nameIndex 4 (some .int) :: TB) 1 (dC, dI) vwCl (ac_ty cA) ad cA (TT nF) [.ref (ad 4), .long p0] u0 (fun (r : Int32) (u : ac_U) => u = u0 ∧ ((-1 : Int) ≤ r.toInt ∧ r.toInt ≤ 25)) := by
  refine ac_Mi.of (cc := cX2_nameIndex) (maxL := 4) (ret := (some .int)) (by decide) rfl (Nat.le_of_ble_eq_true rfl) ?_
  intro p e s m below meth c A ls F hml hr hlocks hA hP hD hS hl
  have F : ac_X p s m [.ref (ad 4), .long p0].toArray c cX2_nameIndex RX2 TB (dC, dI) vwCl (ac_ty cA) := ⟨F.1, F.2.1, fun w h => F.2.2.1 w (List.mem_cons_of_mem _ h), F.2.2.2.1, F.2.2.2.2⟩
  have hl : lv_has ls 4 [(0, .ref (ad 4)), (1, .long p0)] := hl
  have L2 : ∀ (n2 : Nat) (w1 : Int64) (x3 : Int32) (H : Heap) (locs : List Loc) (ls : Array Slot), 26 - x3.toInt < (n2 : Int) → (0 : Int) ≤ x3.toInt ∧ x3.toInt ≤ 26 → va_P (dC, dI) vwCl (ac_w ad cA (TT nF) u0) H → va_D A (ac_w ad cA (TT nF) u0) → va_S A s.heap H locs → lv_has ls 4 [(0, .ref (ad 4)), (1, .long w1), (3, .int x3)] → W p l e (ac_rm 1) s m [.ref (ad 4), .long p0].toArray below meth c H locs 0 0 (MQ below (va_Qi (fun (r : Int32) (u : ac_U) => u = u0 ∧ ((-1 : Int) ≤ r.toInt ∧ r.toInt ≤ 25)) (ac_B (dC, dI) vwCl (ac_ty cA) ad cA (TT nF) A) A) [.ref (ad 4), .long p0].toArray s 0 0 A) (F0 m 2 ls []) := by
    intro n2
    induction n2 with
    | zero => intro w1 x3 H locs ls hn2 f0 hP hD hS hl; exfalso; omega
    | succ n2 ih2 =>
      intro w1 x3 H locs ls hn2 f0 hP hD hS hl
      refine lv_iload_n F.1 F.2.1 dX2_nameIndex_2 rfl (lv_at hl 2 rfl) ?_
      refine lv_aload_n F.1 F.2.1 dX2_nameIndex_3 rfl (lv_at hl 0 rfl) ?_
      have g1 : (0 : Int) ≤ (u0.1 4 8).toInt ∧ (u0.1 4 8).toInt ≤ 26 := hR 4 8
      refine a_geti F inX2 hP 4 8 tc_4 rfl rfl (by decide) q188 (fun _ h9 => h9) (v := (u0.1 4 8)) rfl dX2_nameIndex_4 ?_
      refine b_ge F 29 dX2_nameIndex_7 (by decide) rfl rfl (fun c2 => ?_) (fun c2 => ?_)
      · refine a_ic F (-1 : Int32) dX2_nameIndex_29 (by decide) ?_
        exact a_reti F hr hlocks hP hD hS dX2_nameIndex_30 ⟨rfl, (by decide)⟩
      · refine lv_aload_n F.1 F.2.1 dX2_nameIndex_10 rfl (lv_at hl 0 rfl) ?_
        refine a_getr F inX2 hP 4 14 tc_4 rfl rfl (by decide) q197 (fun _ h9 => h9) dX2_nameIndex_11 ?_
        refine lv_iload_n F.1 F.2.1 dX2_nameIndex_14 rfl (lv_at hl 2 rfl) ?_
        refine a_lald F hP 10 tc_10 rfl (i_in rfl (by omega)) dX2_nameIndex_15 (fun w3 ew3 => ?_)
        refine lv_lload_n F.1 F.2.1 dX2_nameIndex_16 rfl (lv_at hl 1 rfl) ?_
        refine W.lcmp F.1 F.2.1 dX2_nameIndex_17 ?_
        refine lv_topi (fun v4 _ => ?_)
        refine z_ne F 23 dX2_nameIndex_18 (by decide) rfl (fun c5 => ?_) (fun c5 => ?_)
        · refine a_iinc F (k := 2) (fun v6 => [(3, .int v6), (0, .ref (ad 4)), (1, .long w1)]) dX2_nameIndex_23 hl rfl rfl (by decide) (by omega) (by decide) (fun _ => rfl) (fun v6 ls hv6 hl => ?_)
          refine lv_goto (tgt := 2) F.1 F.2.1 dX2_nameIndex_26 (by decide) ?_
          exact ih2 w1 v6 _ _ _ (by omega) (by omega) hP hD hS (lv_sub hl [1, 2, 0] rfl)
        · refine lv_iload_n F.1 F.2.1 dX2_nameIndex_21 rfl (lv_at hl 2 rfl) ?_
          exact a_reti F hr hlocks hP hD hS dX2_nameIndex_22 ⟨rfl, (by omega : (-1 : Int) ≤ x3.toInt ∧ x3.toInt ≤ 25)⟩
  refine a_ic F (0 : Int32) dX2_nameIndex_0 (by decide) ?_
  refine lv_istore_n (lv' := [(3, .int (0 : Int32)), (0, .ref (ad 4)), (1, .long p0)]) F.1 F.2.1 dX2_nameIndex_1 rfl hl (by decide) rfl (fun ls hl => ?_)
  exact L2 28 p0 (0 : Int32) _ _ _ (by decide) (by decide) hP hD hS (lv_sub hl [1, 2, 0] rfl)
set_option maxHeartbeats 600000 in
set_option maxRecDepth 100000 in
theorem c_X10_isKnown_1_4 (l : Launch) (dC : Nat → ClassId) (dI : Nat → Nat → Nat) (ad : Nat → Nat) (cA : Nat → ClassId) (nF : Nat) (u0 : ac_U) (p1 : Int32) (hR : ac_R rg u0) (hp1 : (0 : Int) ≤ p1.toInt ∧ p1.toInt ≤ 3) (hK_N4 : nmI 11 12 u0) : ac_Mi l yX10_isKnown (.code yX10_isKnown cX10_isKnown 4 (some .boolean) :: TB) 2 (dC, dI) vwCl (ac_ty cA) ad cA (TT nF) [.ref (ad 1), .ref (ad 4), .int p1] u0 (fun (r : Int32) (u : ac_U) => ac_R rg u ∧ ac_Fr [(1, some 9), (1, some 10), (1, some 11)] u0 u ∧ ((0 : Int) ≤ r.toInt ∧ r.toInt ≤ 1) ∧ (r.toInt ≠ 0 → p1.toInt = 1 → (u.1 1 9).toInt ≤ 3)) := by
  refine ac_Mi.of (cc := cX10_isKnown) (maxL := 4) (ret := (some .boolean)) (by decide) rfl (Nat.le_of_ble_eq_true rfl) ?_
  intro p e s m below meth c A ls F hml hr hlocks hA hP hD hS hl
  have F : ac_X p s m [.ref (ad 1), .ref (ad 4), .int p1].toArray c cX10_isKnown RX10 TB (dC, dI) vwCl (ac_ty cA) := ⟨F.1, F.2.1, fun w h => F.2.2.1 w (List.mem_cons_of_mem _ h), F.2.2.2.1, F.2.2.2.2⟩
  have hl : lv_has ls 4 [(0, .ref (ad 1)), (1, .ref (ad 4)), (2, .int p1)] := hl
  have hF : ac_Fr [(1, some 9), (1, some 10), (1, some 11)] u0 u0 := ac_Fr.rf
  have L38 : ∀ (u : ac_U) (H : Heap) (locs : List Loc) (ls : Array Slot), ac_R rg u → ac_Fr [(1, some 9), (1, some 10), (1, some 11)] u0 u → nmI 11 12 u → (2 : Int) ≤ (u.1 1 6).toInt ∧ (u.1 1 6).toInt ≤ 2 → va_P (dC, dI) vwCl (ac_w ad cA (TT nF) u) H → va_D A (ac_w ad cA (TT nF) u) → va_S A s.heap H locs → lv_has ls 4 [(0, .ref (ad 1))] → W p l e (ac_rm 2) s m [.ref (ad 1), .ref (ad 4), .int p1].toArray below meth c H locs 0 0 (MQ below (va_Qi (fun (r : Int32) (u : ac_U) => ac_R rg u ∧ ac_Fr [(1, some 9), (1, some 10), (1, some 11)] u0 u ∧ ((0 : Int) ≤ r.toInt ∧ r.toInt ≤ 1) ∧ (r.toInt ≠ 0 → p1.toInt = 1 → (u.1 1 9).toInt ≤ 3)) (ac_B (dC, dI) vwCl (ac_ty cA) ad cA (TT nF) A) A) [.ref (ad 1), .ref (ad 4), .int p1].toArray s 0 0 A) (F0 m 38 ls []) := by
    intro u H locs ls hR hF hK_N4 f0 hP hD hS hl
    refine lv_aload_n F.1 F.2.1 dX10_isKnown_38 rfl (lv_at hl 0 rfl) ?_
    refine a_ic F (3 : Int32) dX10_isKnown_39 (by decide) ?_
    refine a_Vi F hml hl.1 hA hP hD hS (As := [.int (3 : Int32)]) (c_X10_fail_1 l dC dI ad cA nF _ (3 : Int32) hR (by decide)) (cs_RX10_90 (d := 1) F.2.2.1 (by decide)) tc_1 rfl rfl rfl rfl (Nat.le_of_ble_eq_true rfl) dX10_isKnown_40 ⟨Nat.le_refl 0, Nat.le_refl 0⟩ (fun r1 u1 H locs hq hP hD hS => ?_)
    obtain ⟨hR, hF1, gr1⟩ := hq
    have hF := hF.tr hF1 (by decide)
    have hK_N4 := sp_fr sp_N4 hF1 (by decide) hK_N4
    have g2 : (0 : Int) ≤ (u1.1 1 9).toInt ∧ (u1.1 1 9).toInt ≤ 7 := hR 1 9
    exact a_retz F hr hlocks hP hD hS dX10_isKnown_43 (i_01 (by omega)) ⟨hR, hF, (by omega : (0 : Int) ≤ r1.toInt ∧ r1.toInt ≤ 1), (by omega : r1.toInt ≠ 0 → p1.toInt = 1 → (u1.1 1 9).toInt ≤ 3)⟩
  refine lv_aload_n F.1 F.2.1 dX10_isKnown_0 rfl (lv_at hl 0 rfl) ?_
  have g3 : (-128 : Int) ≤ (u0.1 1 6).toInt ∧ (u0.1 1 6).toInt ≤ 127 := hR 1 6
  refine a_geti F inX10 hP 1 6 tc_1 rfl rfl (by decide) q100 (fun _ h9 => h9) (v := (u0.1 1 6)) rfl dX10_isKnown_1 ?_
  refine a_ic F (2 : Int32) dX10_isKnown_4 (by decide) ?_
  refine b_eq F 14 dX10_isKnown_5 (by decide) rfl ic_2 (fun c4 => ?_) (fun c4 => ?_)
  · refine lv_aload_n F.1 F.2.1 dX10_isKnown_14 rfl (lv_at hl 1 rfl) ?_
    refine lv_aload_n F.1 F.2.1 dX10_isKnown_15 rfl (lv_at hl 0 rfl) ?_
    refine a_getl F inX10 hP 1 7 tc_1 rfl rfl (by decide) q104 (fun _ h9 => h9) rfl dX10_isKnown_16 ?_
    refine lv_topl (fun w5 _ => ?_)
    refine a_Vi F hml hl.1 hA hP hD hS (As := [.long w5]) (c_X2_nameIndex_4 l dC dI ad cA nF _ w5 hR) (cs_RX10_93 (d := 1) F.2.2.1 (by decide)) tc_4 rfl rfl rfl rfl (Nat.le_of_ble_eq_true rfl) dX10_isKnown_19 ⟨Nat.le_refl 0, Nat.le_refl 0⟩ (fun r6 uN6 H locs hq hP hD hS => ?_)
    obtain ⟨hu6, gr6⟩ := hq
    rw [hu6] at hP hD
    refine lv_istore_n (lv' := [(3, .int r6), (0, .ref (ad 1)), (1, .ref (ad 4)), (2, .int p1)]) F.1 F.2.1 dX10_isKnown_22 rfl hl (by decide) rfl (fun ls hl => ?_)
    refine lv_iload_n F.1 F.2.1 dX10_isKnown_23 rfl (lv_at hl 0 rfl) ?_
    refine a_ic F (-1 : Int32) dX10_isKnown_24 (by decide) ?_
    refine b_eq F 38 dX10_isKnown_25 (by decide) rfl ic_m1 (fun c7 => ?_) (fun c7 => ?_)
    · exact L38 _ _ _ _ hR hF hK_N4 (by omega : (2 : Int) ≤ (u0.1 1 6).toInt ∧ (u0.1 1 6).toInt ≤ 2) hP hD hS (lv_sub hl [1] rfl)
    · refine lv_aload_n F.1 F.2.1 dX10_isKnown_28 rfl (lv_at hl 2 rfl) ?_
      refine a_getr F inX2 hP 4 15 tc_4 rfl rfl (by decide) q199 (fun _ h9 => h9) dX10_isKnown_29 ?_
      refine lv_iload_n F.1 F.2.1 dX10_isKnown_32 rfl (lv_at hl 0 rfl) ?_
      refine a_iald F hP 11 tc_11 rfl (i_in rfl (by omega)) dX10_isKnown_33 (fun v8 ev8 => ?_)
      have hv8 : (0 : Int) ≤ v8.toInt ∧ v8.toInt ≤ 3 := ev8 ▸ hR 11 _
      refine lv_iload_n F.1 F.2.1 dX10_isKnown_34 rfl (lv_at hl 3 rfl) ?_
      refine b_eq F 44 dX10_isKnown_35 (by decide) rfl rfl (fun c9 => ?_) (fun c9 => ?_)
      · refine lv_aload_n F.1 F.2.1 dX10_isKnown_44 rfl (lv_at hl 1 rfl) ?_
        refine lv_aload_n F.1 F.2.1 dX10_isKnown_45 rfl (lv_at hl 2 rfl) ?_
        refine a_getr F inX2 hP 4 16 tc_4 rfl rfl (by decide) q201 (fun _ h9 => h9) dX10_isKnown_46 ?_
        refine lv_iload_n F.1 F.2.1 dX10_isKnown_49 rfl (lv_at hl 0 rfl) ?_
        refine a_iald F hP 12 tc_12 rfl (i_in rfl (by omega)) dX10_isKnown_50 (fun v10 ev10 => ?_)
        have hv10 : (0 : Int) ≤ v10.toInt ∧ v10.toInt ≤ 7 := ev10 ▸ hR 12 _
        have hm9 := nm_get hK_N4 (i := r6) (by omega) ev8 ev10
        refine a_puti F inX10 tyX10 tyX10_ok nmX10 hP hD hS 1 9 tc_1 rfl rfl (by decide) q110 (fun _ h9 => h9) rfl (ty := .int) (tyX10_ok 9 (by decide)) rfl rfl dX10_isKnown_51 (fun H locs hP hD hS => ?_)
        have hR := hR.si (c := 1) (k := 9) (v := v10) (by omega : (0 : Int) ≤ v10.toInt ∧ v10.toInt ≤ 7)
        have hF := hF.si (c := 1) (k := 9) (v := v10) rfl
        have hK_N4 := sp_sgD sp_N4 hD hK_N4 (by decide)
        refine a_ic F (1 : Int32) dX10_isKnown_54 (by decide) ?_
        exact a_retz F hr hlocks hP hD hS dX10_isKnown_55 (Or.inr rfl) ⟨hR, hF, (by decide), (by first | exact (by omega : (1 : Int) ≠ 0 → p1.toInt = 1 → v10.toInt ≤ 3) | (rw [ic_1]; exact (by omega : (1 : Int) ≠ 0 → p1.toInt = 1 → v10.toInt ≤ 3)))⟩
      · exact L38 _ _ _ _ hR hF hK_N4 (by omega : (2 : Int) ≤ (u0.1 1 6).toInt ∧ (u0.1 1 6).toInt ≤ 2) hP hD hS (lv_sub hl [1] rfl)
  · refine lv_aload_n F.1 F.2.1 dX10_isKnown_8 rfl (lv_at hl 0 rfl) ?_
    refine a_ic F (1 : Int32) dX10_isKnown_9 (by decide) ?_
    refine a_Vi F hml hl.1 hA hP hD hS (As := [.int (1 : Int32)]) (c_X10_fail_1 l dC dI ad cA nF _ (1 : Int32) hR (by decide)) (cs_RX10_90 (d := 1) F.2.2.1 (by decide)) tc_1 rfl rfl rfl rfl (Nat.le_of_ble_eq_true rfl) dX10_isKnown_10 ⟨Nat.le_refl 0, Nat.le_refl 0⟩ (fun r11 u11 H locs hq hP hD hS => ?_)
    obtain ⟨hR, hF11, gr11⟩ := hq
    have hF := hF.tr hF11 (by decide)
    have hK_N4 := sp_fr sp_N4 hF11 (by decide) hK_N4
    have g12 : (0 : Int) ≤ (u11.1 1 9).toInt ∧ (u11.1 1 9).toInt ≤ 7 := hR 1 9
    exact a_retz F hr hlocks hP hD hS dX10_isKnown_13 (i_01 (by omega)) ⟨hR, hF, (by omega : (0 : Int) ≤ r11.toInt ∧ r11.toInt ≤ 1), (by omega : r11.toInt ≠ 0 → p1.toInt = 1 → (u11.1 1 9).toInt ≤ 3)⟩
set_option maxHeartbeats 600000 in
set_option maxRecDepth 100000 in
theorem c_X10_takeKnown_1_4 (l : Launch) (dC : Nat → ClassId) (dI : Nat → Nat → Nat) (ad : Nat → Nat) (cA : Nat → ClassId) (nF : Nat) (u0 : ac_U) (p1 : Int32) (hR : ac_R rg u0) (hp1 : (0 : Int) ≤ p1.toInt ∧ p1.toInt ≤ 3) (hK_N4 : nmI 11 12 u0) : ac_Mi l yX10_takeKnown (.code yX10_takeKnown cX10_takeKnown 3 (some .boolean) :: TB) 4 (dC, dI) vwCl (ac_ty cA) ad cA (TT nF) [.ref (ad 1), .ref (ad 4), .int p1] u0 (fun (r : Int32) (u : ac_U) => ac_R rg u ∧ ac_Fr [(1, some 4), (1, some 5), (1, some 6), (1, some 8), (1, some 9), (1, some 10), (1, some 11)] u0 u ∧ ((0 : Int) ≤ r.toInt ∧ r.toInt ≤ 1) ∧ (r.toInt ≠ 0 → p1.toInt = 1 → (u.1 1 9).toInt ≤ 3)) := by
  refine ac_Mi.of (cc := cX10_takeKnown) (maxL := 3) (ret := (some .boolean)) (by decide) rfl (Nat.le_of_ble_eq_true rfl) ?_
  intro p e s m below meth c A ls F hml hr hlocks hA hP hD hS hl
  have F : ac_X p s m [.ref (ad 1), .ref (ad 4), .int p1].toArray c cX10_takeKnown RX10 TB (dC, dI) vwCl (ac_ty cA) := ⟨F.1, F.2.1, fun w h => F.2.2.1 w (List.mem_cons_of_mem _ h), F.2.2.2.1, F.2.2.2.2⟩
  have hl : lv_has ls 3 [(0, .ref (ad 1)), (1, .ref (ad 4)), (2, .int p1)] := hl
  have hF : ac_Fr [(1, some 4), (1, some 5), (1, some 6), (1, some 8), (1, some 9), (1, some 10), (1, some 11)] u0 u0 := ac_Fr.rf
  refine lv_aload_n F.1 F.2.1 dX10_takeKnown_0 rfl (lv_at hl 0 rfl) ?_
  refine a_Vv F hml hl.1 hA hP hD hS (As := []) (c_X10_readNext_1 l dC dI ad cA nF _  hR) (cs_RX10_72 (d := 3) F.2.2.1 (by decide)) tc_1 rfl rfl rfl rfl (Nat.le_of_ble_eq_true rfl) dX10_takeKnown_1 ⟨Nat.le_refl 0, Nat.le_refl 0⟩ (fun u1 H locs hq hP hD hS => ?_)
  obtain ⟨hR, hF1⟩ := hq
  have hF := hF.tr hF1 (by decide)
  have hK_N4 := sp_fr sp_N4 hF1 (by decide) hK_N4
  refine lv_aload_n F.1 F.2.1 dX10_takeKnown_4 rfl (lv_at hl 0 rfl) ?_
  refine lv_aload_n F.1 F.2.1 dX10_takeKnown_5 rfl (lv_at hl 1 rfl) ?_
  refine lv_iload_n F.1 F.2.1 dX10_takeKnown_6 rfl (lv_at hl 2 rfl) ?_
  refine a_Vi F hml hl.1 hA hP hD hS (As := [.ref (ad 4), .int p1]) (c_X10_isKnown_1_4 l dC dI ad cA nF _ p1 hR (by omega) hK_N4) (cs_RX10_99 (d := 2) F.2.2.1 (by decide)) tc_1 rfl rfl rfl rfl (Nat.le_of_ble_eq_true rfl) dX10_takeKnown_7 ⟨Nat.le_refl 0, Nat.le_refl 0⟩ (fun r2 u2 H locs hq hP hD hS => ?_)
  obtain ⟨hR, hF2, gr2, xr2⟩ := hq
  have hF := hF.tr hF2 (by decide)
  have hK_N4 := sp_fr sp_N4 hF2 (by decide) hK_N4
  have g3 : (0 : Int) ≤ (u2.1 1 9).toInt ∧ (u2.1 1 9).toInt ≤ 7 := hR 1 9
  have xr2 : r2.toInt ≠ 0 → p1.toInt = 1 → (u2.1 1 9).toInt ≤ 3 := xr2
  exact a_retz F hr hlocks hP hD hS dX10_takeKnown_10 (i_01 (by omega)) ⟨hR, hF, (by omega : (0 : Int) ≤ r2.toInt ∧ r2.toInt ≤ 1), (by omega : r2.toInt ≠ 0 → p1.toInt = 1 → (u2.1 1 9).toInt ≤ 3)⟩
set_option maxHeartbeats 600000 in
set_option maxRecDepth 100000 in
theorem c_X0_readDoing_39 (l : Launch) (dC : Nat → ClassId) (dI : Nat → Nat → Nat) (ad : Nat → Nat) (cA : Nat → ClassId) (nF : Nat) (u0 : ac_U)  (hR : ac_R rg u0) (hf_39_6 : (0 : Int) ≤ (u0.1 39 6).toInt ∧ (u0.1 39 6).toInt ≤ 39) (hK_DBI : dbI u0) (hK_N4 : nmI 11 12 u0) (hK_DBW : dbW u0) : ac_Mi l yX0_readDoing (.code yX0_readDoing cX0_readDoing 2 (some .boolean) :: TB) 5 (dC, dI) vwCl (ac_ty cA) ad cA (TT nF) [.ref (ad 39)] u0 (fun (r : Int32) (u : ac_U) => ac_R rg u ∧ ac_Fr [(1, some 4), (1, some 5), (1, some 6), (1, some 8), (1, some 9), (1, some 10), (1, some 11), (41, none), (42, none)] u0 u ∧ ((0 : Int) ≤ r.toInt ∧ r.toInt ≤ 1) ∧ dbI u ∧ (r.toInt ≠ 0 → dbT u)) := by
  refine ac_Mi.of (cc := cX0_readDoing) (maxL := 2) (ret := (some .boolean)) (by decide) rfl (Nat.le_of_ble_eq_true rfl) ?_
  intro p e s m below meth c A ls F hml hr hlocks hA hP hD hS hl
  have F : ac_X p s m [.ref (ad 39)].toArray c cX0_readDoing RX0 TB (dC, dI) vwCl (ac_ty cA) := ⟨F.1, F.2.1, fun w h => F.2.2.1 w (List.mem_cons_of_mem _ h), F.2.2.2.1, F.2.2.2.2⟩
  have hl : lv_has ls 2 [(0, .ref (ad 39))] := hl
  have hF : ac_Fr [(1, some 4), (1, some 5), (1, some 6), (1, some 8), (1, some 9), (1, some 10), (1, some 11), (41, none), (42, none)] u0 u0 := ac_Fr.rf
  refine lv_aload_n F.1 F.2.1 dX0_readDoing_0 rfl (lv_at hl 0 rfl) ?_
  refine a_getr F inX0 hP 39 0 tc_39 rfl rfl (by decide) q399 (fun _ h9 => h9) dX0_readDoing_1 ?_
  refine a_Vv F hml hl.1 hA hP hD hS (As := []) (c_X10_readNext_1 l dC dI ad cA nF _  hR) (cs_RX0_59 (d := 3) F.2.2.1 (by decide)) tc_1 rfl rfl rfl rfl (Nat.le_of_ble_eq_true rfl) dX0_readDoing_4 ⟨Nat.le_refl 0, Nat.le_refl 0⟩ (fun u1 H locs hq hP hD hS => ?_)
  obtain ⟨hR, hF1⟩ := hq
  have hF := hF.tr hF1 (by decide)
  have hK_DBI := sp_fr sp_DBI hF1 (by decide) hK_DBI
  have hK_N4 := sp_fr sp_N4 hF1 (by decide) hK_N4
  have hK_DBW := sp_fr sp_DBW hF1 (by decide) hK_DBW
  refine lv_aload_n F.1 F.2.1 dX0_readDoing_7 rfl (lv_at hl 0 rfl) ?_
  refine a_getr F inX0 hP 39 4 tc_39 rfl rfl (by decide) q403 (fun _ h9 => h9) dX0_readDoing_8 ?_
  refine lv_aload_n F.1 F.2.1 dX0_readDoing_11 rfl (lv_at hl 0 rfl) ?_
  refine a_geti F inX0 hP 39 6 tc_39 rfl rfl (by decide) q405 (fun _ h9 => h9) (v := (u0.1 39 6)) (hF1 39 6 rfl) dX0_readDoing_12 ?_
  refine lv_aload_n F.1 F.2.1 dX0_readDoing_15 rfl (lv_at hl 0 rfl) ?_
  refine a_getr F inX0 hP 39 0 tc_39 rfl rfl (by decide) q399 (fun _ h9 => h9) dX0_readDoing_16 ?_
  have g2 : (-128 : Int) ≤ (u1.1 1 6).toInt ∧ (u1.1 1 6).toInt ≤ 127 := hR 1 6
  refine a_geti F inX10 hP 1 6 tc_1 rfl rfl (by decide) q101 (fun _ h9 => h9) (v := (u1.1 1 6)) rfl dX0_readDoing_19 ?_
  refine a_iast F hP hD hS 41 tc_41 rfl (i_in rfl (by omega)) dX0_readDoing_22 (fun H locs hP hD hS => ?_)
  have hR := hR.si (c := 41) (k := (u0.1 39 6).toNatClampNeg) (v := (u1.1 1 6)) ⟨i_lo _, i_hi _⟩
  have hF := hF.si (c := 41) (k := (u0.1 39 6).toNatClampNeg) (v := (u1.1 1 6)) rfl
  have hK_DBI := db_w (c := 41) hK_DBI (i := (u0.1 39 6)) (v := (u1.1 1 6)) (by omega) (by decide) (hF1 39 6 rfl)
  have hK_N4 := sp_sgD sp_N4 hD hK_N4 (by decide)
  have hK_DBW := sp_sgD sp_DBW hD hK_DBW (by decide)
  refine lv_aload_n F.1 F.2.1 dX0_readDoing_23 rfl (lv_at hl 0 rfl) ?_
  refine a_getr F inX0 hP 39 0 tc_39 rfl rfl (by decide) q399 (fun _ h9 => h9) dX0_readDoing_24 ?_
  refine a_geti F inX10 hP 1 6 tc_1 rfl rfl (by decide) q101 (fun _ h9 => h9) (v := (u1.1 1 6)) (rfl) dX0_readDoing_27 ?_
  refine a_Si F hml hl.1 hA hP hD hS (As := [.int (u1.1 1 6)]) (c_X0_sortBehind l dC dI ad cA nF _ (u1.1 1 6) hR (by omega)) (cs_RX0_89 (d := 1) F.2.2.1 (by decide)) rfl rfl (Nat.le_of_ble_eq_true rfl) dX0_readDoing_30 ⟨Nat.le_refl 0, Nat.le_refl 0⟩ (fun r3 uN3 H locs hq hP hD hS => ?_)
  obtain ⟨hu3, gr3⟩ := hq
  rw [hu3] at hP hD
  refine lv_istore_n (lv' := [(1, .int r3), (0, .ref (ad 39))]) F.1 F.2.1 dX0_readDoing_33 rfl hl (by decide) rfl (fun ls hl => ?_)
  refine lv_iload_n F.1 F.2.1 dX0_readDoing_34 rfl (lv_at hl 0 rfl) ?_
  refine a_ic F (-1 : Int32) dX0_readDoing_35 (by decide) ?_
  refine b_ne F 48 dX0_readDoing_36 (by decide) rfl ic_m1 (fun c4 => ?_) (fun c4 => ?_)
  · refine lv_aload_n F.1 F.2.1 dX0_readDoing_48 rfl (lv_at hl 1 rfl) ?_
    refine a_getr F inX0 hP 39 0 tc_39 rfl rfl (by decide) q399 (fun _ h9 => h9) dX0_readDoing_49 ?_
    refine lv_aload_n F.1 F.2.1 dX0_readDoing_52 rfl (lv_at hl 1 rfl) ?_
    refine a_getr F inX0 hP 39 1 tc_39 rfl rfl (by decide) q400 (fun _ h9 => h9) dX0_readDoing_53 ?_
    refine lv_iload_n F.1 F.2.1 dX0_readDoing_56 rfl (lv_at hl 0 rfl) ?_
    refine a_Vi F hml hl.1 hA hP hD hS (As := [.ref (ad 4), .int r3]) (c_X10_takeKnown_1_4 l dC dI ad cA nF _ r3 hR (by omega) hK_N4) (cs_RX0_93 (d := 4) F.2.2.1 (by decide)) tc_1 rfl rfl rfl rfl (Nat.le_of_ble_eq_true rfl) dX0_readDoing_57 ⟨Nat.le_refl 0, Nat.le_refl 0⟩ (fun r5 u5 H locs hq hP hD hS => ?_)
    obtain ⟨hR, hF5, gr5, xr5⟩ := hq
    have hF := hF.tr hF5 (by decide)
    have hK_DBI := sp_fr sp_DBI hF5 (by decide) hK_DBI
    have hK_N4 := sp_fr sp_N4 hF5 (by decide) hK_N4
    have hK_DBW := sp_fr sp_DBW hF5 (by decide) hK_DBW
    have g6 : (0 : Int) ≤ (u5.1 1 9).toInt ∧ (u5.1 1 9).toInt ≤ 7 := hR 1 9
    have xr5 : r5.toInt ≠ 0 → r3.toInt = 1 → (u5.1 1 9).toInt ≤ 3 := xr5
    refine z_ne F 65 dX0_readDoing_60 (by decide) rfl (fun c7 => ?_) (fun c7 => ?_)
    · refine lv_aload_n F.1 F.2.1 dX0_readDoing_65 rfl (lv_at hl 1 rfl) ?_
      refine a_getr F inX0 hP 39 5 tc_39 rfl rfl (by decide) q404 (fun _ h9 => h9) dX0_readDoing_66 ?_
      refine lv_aload_n F.1 F.2.1 dX0_readDoing_69 rfl (lv_at hl 1 rfl) ?_
      refine a_geti F inX0 hP 39 6 tc_39 rfl rfl (by decide) q405 (fun _ h9 => h9) (v := (u0.1 39 6)) ((hF5 39 6 rfl).trans (hF1 39 6 rfl)) dX0_readDoing_70 ?_
      refine lv_aload_n F.1 F.2.1 dX0_readDoing_73 rfl (lv_at hl 1 rfl) ?_
      refine a_getr F inX0 hP 39 0 tc_39 rfl rfl (by decide) q399 (fun _ h9 => h9) dX0_readDoing_74 ?_
      refine a_geti F inX10 hP 1 9 tc_1 rfl rfl (by decide) q111 (fun _ h9 => h9) (v := (u5.1 1 9)) (rfl) dX0_readDoing_77 ?_
      refine a_iast F hP hD hS 42 tc_42 rfl (i_in rfl (by omega)) dX0_readDoing_80 (fun H locs hP hD hS => ?_)
      have hR := hR.si (c := 42) (k := (u0.1 39 6).toNatClampNeg) (v := (u5.1 1 9)) (by omega : (0 : Int) ≤ (u5.1 1 9).toInt ∧ (u5.1 1 9).toInt ≤ 99)
      have hF := hF.si (c := 42) (k := (u0.1 39 6).toNatClampNeg) (v := (u5.1 1 9)) rfl
      have hN_DBT := db_t (i := (u0.1 39 6)) (v := (u5.1 1 9)) (by omega) ((hF5 39 6 rfl).trans (hF1 39 6 rfl)) (by omega)
      have hK_DBI := db_w (c := 42) hK_DBI (i := (u0.1 39 6)) (v := (u5.1 1 9)) (by omega) (by decide) ((hF5 39 6 rfl).trans (hF1 39 6 rfl))
      have hK_N4 := sp_sgD sp_N4 hD hK_N4 (by decide)
      have hK_DBW := sp_sgD sp_DBW hD hK_DBW (by decide)
      have hK_DBT := hN_DBT
      refine a_ic F (1 : Int32) dX0_readDoing_81 (by decide) ?_
      exact a_retz F hr hlocks hP hD hS dX0_readDoing_82 (Or.inr rfl) ⟨hR, hF, (by decide), hK_DBI, (fun _ => hK_DBT)⟩
    · refine a_ic F (0 : Int32) dX0_readDoing_63 (by decide) ?_
      exact a_retz F hr hlocks hP hD hS dX0_readDoing_64 (Or.inl rfl) ⟨hR, hF, (by decide), hK_DBI, (fun h9 => absurd (by decide) h9)⟩
  · refine lv_aload_n F.1 F.2.1 dX0_readDoing_39 rfl (lv_at hl 1 rfl) ?_
    refine a_getr F inX0 hP 39 0 tc_39 rfl rfl (by decide) q399 (fun _ h9 => h9) dX0_readDoing_40 ?_
    refine a_ic F (1 : Int32) dX0_readDoing_43 (by decide) ?_
    refine a_Vi F hml hl.1 hA hP hD hS (As := [.int (1 : Int32)]) (c_X10_fail_1 l dC dI ad cA nF _ (1 : Int32) hR (by decide)) (cs_RX0_66 (d := 1) F.2.2.1 (by decide)) tc_1 rfl rfl rfl rfl (Nat.le_of_ble_eq_true rfl) dX0_readDoing_44 ⟨Nat.le_refl 0, Nat.le_refl 0⟩ (fun r8 u8 H locs hq hP hD hS => ?_)
    obtain ⟨hR, hF8, gr8⟩ := hq
    have hF := hF.tr hF8 (by decide)
    have hK_DBI := sp_fr sp_DBI hF8 (by decide) hK_DBI
    have hK_N4 := sp_fr sp_N4 hF8 (by decide) hK_N4
    have hK_DBW := sp_fr sp_DBW hF8 (by decide) hK_DBW
    exact a_retz F hr hlocks hP hD hS dX0_readDoing_47 (i_01 (by omega)) ⟨hR, hF, (by omega : (0 : Int) ≤ r8.toInt ∧ r8.toInt ≤ 1), hK_DBI, (fun h9 => absurd (by omega : r8.toInt = 0) h9)⟩
set_option maxHeartbeats 600000 in
set_option maxRecDepth 100000 in
theorem c_X10_takeNumber_1 (l : Launch) (dC : Nat → ClassId) (dI : Nat → Nat → Nat) (ad : Nat → Nat) (cA : Nat → ClassId) (nF : Nat) (u0 : ac_U) (p0 : Int32) (p1 : Int32) (hR : ac_R rg u0) (hp0 : (0 : Int) ≤ p0.toInt ∧ p0.toInt ≤ 23) (hp1 : (3 : Int) ≤ p1.toInt ∧ p1.toInt ≤ 99) : ac_Mi l yX10_takeNumber (.code yX10_takeNumber cX10_takeNumber 3 (some .boolean) :: TB) 4 (dC, dI) vwCl (ac_ty cA) ad cA (TT nF) [.ref (ad 1), .int p0, .int p1] u0 (fun (r : Int32) (u : ac_U) => ac_R rg u ∧ ac_Fr [(1, some 4), (1, some 5), (1, some 6), (1, some 8), (1, some 10), (1, some 11)] u0 u ∧ ((0 : Int) ≤ r.toInt ∧ r.toInt ≤ 1) ∧ (r.toInt ≠ 0 → p0.toInt ≤ (u.1 1 8).toInt ∧ (u.1 1 8).toInt ≤ p1.toInt)) := by
  refine ac_Mi.of (cc := cX10_takeNumber) (maxL := 3) (ret := (some .boolean)) (by decide) rfl (Nat.le_of_ble_eq_true rfl) ?_
  intro p e s m below meth c A ls F hml hr hlocks hA hP hD hS hl
  have F : ac_X p s m [.ref (ad 1), .int p0, .int p1].toArray c cX10_takeNumber RX10 TB (dC, dI) vwCl (ac_ty cA) := ⟨F.1, F.2.1, fun w h => F.2.2.1 w (List.mem_cons_of_mem _ h), F.2.2.2.1, F.2.2.2.2⟩
  have hl : lv_has ls 3 [(0, .ref (ad 1)), (1, .int p0), (2, .int p1)] := hl
  have hF : ac_Fr [(1, some 4), (1, some 5), (1, some 6), (1, some 8), (1, some 10), (1, some 11)] u0 u0 := ac_Fr.rf
  have L34 : ∀ (u : ac_U) (H : Heap) (locs : List Loc) (ls : Array Slot), ac_R rg u → ac_Fr [(1, some 4), (1, some 5), (1, some 6), (1, some 8), (1, some 10), (1, some 11)] u0 u → (3 : Int) ≤ (u.1 1 6).toInt ∧ (u.1 1 6).toInt ≤ 3 → va_P (dC, dI) vwCl (ac_w ad cA (TT nF) u) H → va_D A (ac_w ad cA (TT nF) u) → va_S A s.heap H locs → lv_has ls 3 [(0, .ref (ad 1))] → W p l e (ac_rm 4) s m [.ref (ad 1), .int p0, .int p1].toArray below meth c H locs 0 0 (MQ below (va_Qi (fun (r : Int32) (u : ac_U) => ac_R rg u ∧ ac_Fr [(1, some 4), (1, some 5), (1, some 6), (1, some 8), (1, some 10), (1, some 11)] u0 u ∧ ((0 : Int) ≤ r.toInt ∧ r.toInt ≤ 1) ∧ (r.toInt ≠ 0 → p0.toInt ≤ (u.1 1 8).toInt ∧ (u.1 1 8).toInt ≤ p1.toInt)) (ac_B (dC, dI) vwCl (ac_ty cA) ad cA (TT nF) A) A) [.ref (ad 1), .int p0, .int p1].toArray s 0 0 A) (F0 m 34 ls []) := by
    intro u H locs ls hR hF f0 hP hD hS hl
    refine lv_aload_n F.1 F.2.1 dX10_takeNumber_34 rfl (lv_at hl 0 rfl) ?_
    refine a_ic F (2 : Int32) dX10_takeNumber_35 (by decide) ?_
    refine a_Vi F hml hl.1 hA hP hD hS (As := [.int (2 : Int32)]) (c_X10_fail_1 l dC dI ad cA nF _ (2 : Int32) hR (by decide)) (cs_RX10_90 (d := 1) F.2.2.1 (by decide)) tc_1 rfl rfl rfl rfl (Nat.le_of_ble_eq_true rfl) dX10_takeNumber_36 ⟨Nat.le_refl 0, Nat.le_refl 0⟩ (fun r1 u1 H locs hq hP hD hS => ?_)
    obtain ⟨hR, hF1, gr1⟩ := hq
    have hF := hF.tr hF1 (by decide)
    refine z_eq F 46 dX10_takeNumber_39 (by decide) rfl (fun c2 => ?_) (fun c2 => ?_)
    · refine a_ic F (0 : Int32) dX10_takeNumber_46 (by decide) ?_
      exact a_retz F hr hlocks hP hD hS dX10_takeNumber_47 (Or.inl rfl) ⟨hR, hF, (by decide), (by first | exact (by omega : (0 : Int) ≠ 0 → p0.toInt ≤ (u1.1 1 8).toInt ∧ (u1.1 1 8).toInt ≤ p1.toInt) | (rw [ic_0]; exact (by omega : (0 : Int) ≠ 0 → p0.toInt ≤ (u1.1 1 8).toInt ∧ (u1.1 1 8).toInt ≤ p1.toInt)))⟩
    · exfalso; omega
  refine lv_aload_n F.1 F.2.1 dX10_takeNumber_0 rfl (lv_at hl 0 rfl) ?_
  refine a_Vv F hml hl.1 hA hP hD hS (As := []) (c_X10_readNext_1 l dC dI ad cA nF _  hR) (cs_RX10_72 (d := 3) F.2.2.1 (by decide)) tc_1 rfl rfl rfl rfl (Nat.le_of_ble_eq_true rfl) dX10_takeNumber_1 ⟨Nat.le_refl 0, Nat.le_refl 0⟩ (fun u3 H locs hq hP hD hS => ?_)
  obtain ⟨hR, hF3⟩ := hq
  have hF := hF.tr hF3 (by decide)
  refine lv_aload_n F.1 F.2.1 dX10_takeNumber_4 rfl (lv_at hl 0 rfl) ?_
  have g4 : (-128 : Int) ≤ (u3.1 1 6).toInt ∧ (u3.1 1 6).toInt ≤ 127 := hR 1 6
  refine a_geti F inX10 hP 1 6 tc_1 rfl rfl (by decide) q100 (fun _ h9 => h9) (v := (u3.1 1 6)) rfl dX10_takeNumber_5 ?_
  refine a_ic F (3 : Int32) dX10_takeNumber_8 (by decide) ?_
  refine b_eq F 18 dX10_takeNumber_9 (by decide) rfl ic_3 (fun c5 => ?_) (fun c5 => ?_)
  · refine lv_aload_n F.1 F.2.1 dX10_takeNumber_18 rfl (lv_at hl 0 rfl) ?_
    refine a_geti F inX10 hP 1 8 tc_1 rfl rfl (by decide) q106 (fun _ h9 => h9) (v := (u3.1 1 8)) rfl dX10_takeNumber_19 ?_
    refine lv_iload_n F.1 F.2.1 dX10_takeNumber_22 rfl (lv_at hl 1 rfl) ?_
    refine b_lt F 34 dX10_takeNumber_23 (by decide) rfl rfl (fun c6 => ?_) (fun c6 => ?_)
    · exact L34 _ _ _ _ hR hF (by omega : (3 : Int) ≤ (u3.1 1 6).toInt ∧ (u3.1 1 6).toInt ≤ 3) hP hD hS (lv_sub hl [0] rfl)
    · refine lv_aload_n F.1 F.2.1 dX10_takeNumber_26 rfl (lv_at hl 0 rfl) ?_
      refine a_geti F inX10 hP 1 8 tc_1 rfl rfl (by decide) q106 (fun _ h9 => h9) (v := (u3.1 1 8)) (rfl) dX10_takeNumber_27 ?_
      refine lv_iload_n F.1 F.2.1 dX10_takeNumber_30 rfl (lv_at hl 2 rfl) ?_
      refine b_le F 42 dX10_takeNumber_31 (by decide) rfl rfl (fun c7 => ?_) (fun c7 => ?_)
      · refine a_ic F (1 : Int32) dX10_takeNumber_42 (by decide) ?_
        refine lv_goto (tgt := 47) F.1 F.2.1 dX10_takeNumber_43 (by decide) ?_
        exact a_retz F hr hlocks hP hD hS dX10_takeNumber_47 (Or.inr rfl) ⟨hR, hF, (by decide), (by first | exact (by omega : (1 : Int) ≠ 0 → p0.toInt ≤ (u3.1 1 8).toInt ∧ (u3.1 1 8).toInt ≤ p1.toInt) | (rw [ic_1]; exact (by omega : (1 : Int) ≠ 0 → p0.toInt ≤ (u3.1 1 8).toInt ∧ (u3.1 1 8).toInt ≤ p1.toInt)))⟩
      · exact L34 _ _ _ _ hR hF (by omega : (3 : Int) ≤ (u3.1 1 6).toInt ∧ (u3.1 1 6).toInt ≤ 3) hP hD hS (lv_sub hl [0] rfl)
  · refine lv_aload_n F.1 F.2.1 dX10_takeNumber_12 rfl (lv_at hl 0 rfl) ?_
    refine a_ic F (1 : Int32) dX10_takeNumber_13 (by decide) ?_
    refine a_Vi F hml hl.1 hA hP hD hS (As := [.int (1 : Int32)]) (c_X10_fail_1 l dC dI ad cA nF _ (1 : Int32) hR (by decide)) (cs_RX10_90 (d := 1) F.2.2.1 (by decide)) tc_1 rfl rfl rfl rfl (Nat.le_of_ble_eq_true rfl) dX10_takeNumber_14 ⟨Nat.le_refl 0, Nat.le_refl 0⟩ (fun r8 u8 H locs hq hP hD hS => ?_)
    obtain ⟨hR, hF8, gr8⟩ := hq
    have hF := hF.tr hF8 (by decide)
    exact a_retz F hr hlocks hP hD hS dX10_takeNumber_17 (i_01 (by omega)) ⟨hR, hF, (by omega : (0 : Int) ≤ r8.toInt ∧ r8.toInt ≤ 1), (by omega : r8.toInt ≠ 0 → p0.toInt ≤ (u8.1 1 8).toInt ∧ (u8.1 1 8).toInt ≤ p1.toInt)⟩
set_option maxHeartbeats 600000 in
set_option maxRecDepth 100000 in
theorem c_X0_readHour_39 (l : Launch) (dC : Nat → ClassId) (dI : Nat → Nat → Nat) (ad : Nat → Nat) (cA : Nat → ClassId) (nF : Nat) (u0 : ac_U)  (hR : ac_R rg u0) (hf_39_6 : (0 : Int) ≤ (u0.1 39 6).toInt ∧ (u0.1 39 6).toInt ≤ 39) (hK_DBI : dbI u0) : ac_Mi l yX0_readHour (.code yX0_readHour cX0_readHour 1 (some .boolean) :: TB) 5 (dC, dI) vwCl (ac_ty cA) ad cA (TT nF) [.ref (ad 39)] u0 (fun (r : Int32) (u : ac_U) => ac_R rg u ∧ ac_Fr [(1, some 4), (1, some 5), (1, some 6), (1, some 8), (1, some 10), (1, some 11), (41, none), (42, none)] u0 u ∧ ((0 : Int) ≤ r.toInt ∧ r.toInt ≤ 1) ∧ dbI u ∧ dbV u) := by
  refine ac_Mi.of (cc := cX0_readHour) (maxL := 1) (ret := (some .boolean)) (by decide) rfl (Nat.le_of_ble_eq_true rfl) ?_
  intro p e s m below meth c A ls F hml hr hlocks hA hP hD hS hl
  have F : ac_X p s m [.ref (ad 39)].toArray c cX0_readHour RX0 TB (dC, dI) vwCl (ac_ty cA) := ⟨F.1, F.2.1, fun w h => F.2.2.1 w (List.mem_cons_of_mem _ h), F.2.2.2.1, F.2.2.2.2⟩
  have hl : lv_has ls 1 [(0, .ref (ad 39))] := hl
  have hF : ac_Fr [(1, some 4), (1, some 5), (1, some 6), (1, some 8), (1, some 10), (1, some 11), (41, none), (42, none)] u0 u0 := ac_Fr.rf
  refine lv_aload_n F.1 F.2.1 dX0_readHour_0 rfl (lv_at hl 0 rfl) ?_
  refine a_getr F inX0 hP 39 4 tc_39 rfl rfl (by decide) q403 (fun _ h9 => h9) dX0_readHour_1 ?_
  refine lv_aload_n F.1 F.2.1 dX0_readHour_4 rfl (lv_at hl 0 rfl) ?_
  have g1 : (0 : Int) ≤ (u0.1 39 6).toInt ∧ (u0.1 39 6).toInt ≤ 40 := hR 39 6
  refine a_geti F inX0 hP 39 6 tc_39 rfl rfl (by decide) q405 (fun _ h9 => h9) (v := (u0.1 39 6)) rfl dX0_readHour_5 ?_
  refine a_bp F (113 : Int32) dX0_readHour_8 (by decide) ?_
  refine a_iast F hP hD hS 41 tc_41 rfl (i_in rfl (by omega)) dX0_readHour_10 (fun H locs hP hD hS => ?_)
  have hR := hR.si (c := 41) (k := (u0.1 39 6).toNatClampNeg) (v := (113 : Int32)) ⟨i_lo _, i_hi _⟩
  have hF := hF.si (c := 41) (k := (u0.1 39 6).toNatClampNeg) (v := (113 : Int32)) rfl
  have hN_DBV := db_v (i := (u0.1 39 6)) (v := (113 : Int32)) (by omega) (rfl) (by decide)
  have hK_DBI := db_w (c := 41) hK_DBI (i := (u0.1 39 6)) (v := (113 : Int32)) (by omega) (by decide) (rfl)
  have hK_DBV := hN_DBV
  refine lv_aload_n F.1 F.2.1 dX0_readHour_11 rfl (lv_at hl 0 rfl) ?_
  refine a_getr F inX0 hP 39 0 tc_39 rfl rfl (by decide) q399 (fun _ h9 => h9) dX0_readHour_12 ?_
  refine a_ic F (1 : Int32) dX0_readHour_15 (by decide) ?_
  refine a_bp F (99 : Int32) dX0_readHour_16 (by decide) ?_
  refine a_Vi F hml hl.1 hA hP hD hS (As := [.int (1 : Int32), .int (99 : Int32)]) (c_X10_takeNumber_1 l dC dI ad cA nF _ (1 : Int32) (99 : Int32) hR (by decide) (by decide)) (cs_RX0_82 (d := 4) F.2.2.1 (by decide)) tc_1 rfl rfl rfl rfl (Nat.le_of_ble_eq_true rfl) dX0_readHour_18 ⟨Nat.le_refl 0, Nat.le_refl 0⟩ (fun r2 u2 H locs hq hP hD hS => ?_)
  obtain ⟨hR, hF2, gr2, xr2⟩ := hq
  have hF := hF.tr hF2 (by decide)
  have hK_DBI := sp_fr sp_DBI hF2 (by decide) hK_DBI
  have hK_DBV := sp_fr sp_DBV hF2 (by decide) hK_DBV
  have xr2 : r2.toInt ≠ 0 → (1 : Int) ≤ (u2.1 1 8).toInt ∧ (u2.1 1 8).toInt ≤ (99 : Int) := xr2
  refine z_ne F 26 dX0_readHour_21 (by decide) rfl (fun c3 => ?_) (fun c3 => ?_)
  · refine lv_aload_n F.1 F.2.1 dX0_readHour_26 rfl (lv_at hl 0 rfl) ?_
    refine a_getr F inX0 hP 39 5 tc_39 rfl rfl (by decide) q404 (fun _ h9 => h9) dX0_readHour_27 ?_
    refine lv_aload_n F.1 F.2.1 dX0_readHour_30 rfl (lv_at hl 0 rfl) ?_
    refine a_geti F inX0 hP 39 6 tc_39 rfl rfl (by decide) q405 (fun _ h9 => h9) (v := (u0.1 39 6)) (hF2 39 6 rfl) dX0_readHour_31 ?_
    refine lv_aload_n F.1 F.2.1 dX0_readHour_34 rfl (lv_at hl 0 rfl) ?_
    refine a_getr F inX0 hP 39 0 tc_39 rfl rfl (by decide) q399 (fun _ h9 => h9) dX0_readHour_35 ?_
    refine a_geti F inX10 hP 1 8 tc_1 rfl rfl (by decide) q108 (fun _ h9 => h9) (v := (u2.1 1 8)) (rfl) dX0_readHour_38 ?_
    refine a_iast F hP hD hS 42 tc_42 rfl (i_in rfl (by omega)) dX0_readHour_41 (fun H locs hP hD hS => ?_)
    have hR := hR.si (c := 42) (k := (u0.1 39 6).toNatClampNeg) (v := (u2.1 1 8)) (by omega : (0 : Int) ≤ (u2.1 1 8).toInt ∧ (u2.1 1 8).toInt ≤ 99)
    have hF := hF.si (c := 42) (k := (u0.1 39 6).toNatClampNeg) (v := (u2.1 1 8)) rfl
    have hK_DBI := db_w (c := 42) hK_DBI (i := (u0.1 39 6)) (v := (u2.1 1 8)) (by omega) (by decide) (hF2 39 6 rfl)
    have hK_DBV := sp_sgD sp_DBV hD hK_DBV (by decide)
    refine a_ic F (1 : Int32) dX0_readHour_42 (by decide) ?_
    exact a_retz F hr hlocks hP hD hS dX0_readHour_43 (Or.inr rfl) ⟨hR, hF, (by decide), hK_DBI, hK_DBV⟩
  · refine a_ic F (0 : Int32) dX0_readHour_24 (by decide) ?_
    exact a_retz F hr hlocks hP hD hS dX0_readHour_25 (Or.inl rfl) ⟨hR, hF, (by decide), hK_DBI, hK_DBV⟩
set_option maxHeartbeats 600000 in
set_option maxRecDepth 100000 in
theorem c_X10_takeSign_1 (l : Launch) (dC : Nat → ClassId) (dI : Nat → Nat → Nat) (ad : Nat → Nat) (cA : Nat → ClassId) (nF : Nat) (u0 : ac_U) (p0 : Int32) (hR : ac_R rg u0) (hp0 : (59 : Int) ≤ p0.toInt ∧ p0.toInt ≤ 59) : ac_Mi l yX10_takeSign (.code yX10_takeSign cX10_takeSign 2 (some .boolean) :: TB) 4 (dC, dI) vwCl (ac_ty cA) ad cA (TT nF) [.ref (ad 1), .int p0] u0 (fun (r : Int32) (u : ac_U) => ac_R rg u ∧ ac_Fr [(1, some 4), (1, some 5), (1, some 6), (1, some 8), (1, some 10), (1, some 11)] u0 u ∧ ((0 : Int) ≤ r.toInt ∧ r.toInt ≤ 1)) := by
  refine ac_Mi.of (cc := cX10_takeSign) (maxL := 2) (ret := (some .boolean)) (by decide) rfl (Nat.le_of_ble_eq_true rfl) ?_
  intro p e s m below meth c A ls F hml hr hlocks hA hP hD hS hl
  have F : ac_X p s m [.ref (ad 1), .int p0].toArray c cX10_takeSign RX10 TB (dC, dI) vwCl (ac_ty cA) := ⟨F.1, F.2.1, fun w h => F.2.2.1 w (List.mem_cons_of_mem _ h), F.2.2.2.1, F.2.2.2.2⟩
  have hl : lv_has ls 2 [(0, .ref (ad 1)), (1, .int p0)] := hl
  have hF : ac_Fr [(1, some 4), (1, some 5), (1, some 6), (1, some 8), (1, some 10), (1, some 11)] u0 u0 := ac_Fr.rf
  have L20 : ∀ (u : ac_U) (H : Heap) (locs : List Loc) (ls : Array Slot), ac_R rg u → ac_Fr [(1, some 4), (1, some 5), (1, some 6), (1, some 8), (1, some 10), (1, some 11)] u0 u → (59 : Int) ≤ (u.1 1 6).toInt ∧ (u.1 1 6).toInt ≤ 59 → va_P (dC, dI) vwCl (ac_w ad cA (TT nF) u) H → va_D A (ac_w ad cA (TT nF) u) → va_S A s.heap H locs → lv_has ls 2 [] → W p l e (ac_rm 4) s m [.ref (ad 1), .int p0].toArray below meth c H locs 0 0 (MQ below (va_Qi (fun (r : Int32) (u : ac_U) => ac_R rg u ∧ ac_Fr [(1, some 4), (1, some 5), (1, some 6), (1, some 8), (1, some 10), (1, some 11)] u0 u ∧ ((0 : Int) ≤ r.toInt ∧ r.toInt ≤ 1)) (ac_B (dC, dI) vwCl (ac_ty cA) ad cA (TT nF) A) A) [.ref (ad 1), .int p0].toArray s 0 0 A) (F0 m 20 ls []) := by
    intro u H locs ls hR hF f0 hP hD hS hl
    refine a_ic F (1 : Int32) dX10_takeSign_20 (by decide) ?_
    refine lv_goto (tgt := 25) F.1 F.2.1 dX10_takeSign_21 (by decide) ?_
    exact a_retz F hr hlocks hP hD hS dX10_takeSign_25 (Or.inr rfl) ⟨hR, hF, (by decide)⟩
  refine lv_aload_n F.1 F.2.1 dX10_takeSign_0 rfl (lv_at hl 0 rfl) ?_
  refine a_Vv F hml hl.1 hA hP hD hS (As := []) (c_X10_readNext_1 l dC dI ad cA nF _  hR) (cs_RX10_72 (d := 3) F.2.2.1 (by decide)) tc_1 rfl rfl rfl rfl (Nat.le_of_ble_eq_true rfl) dX10_takeSign_1 ⟨Nat.le_refl 0, Nat.le_refl 0⟩ (fun u1 H locs hq hP hD hS => ?_)
  obtain ⟨hR, hF1⟩ := hq
  have hF := hF.tr hF1 (by decide)
  refine lv_aload_n F.1 F.2.1 dX10_takeSign_4 rfl (lv_at hl 0 rfl) ?_
  have g2 : (-128 : Int) ≤ (u1.1 1 6).toInt ∧ (u1.1 1 6).toInt ≤ 127 := hR 1 6
  refine a_geti F inX10 hP 1 6 tc_1 rfl rfl (by decide) q100 (fun _ h9 => h9) (v := (u1.1 1 6)) rfl dX10_takeSign_5 ?_
  refine lv_iload_n F.1 F.2.1 dX10_takeSign_8 rfl (lv_at hl 1 rfl) ?_
  refine b_eq F 20 dX10_takeSign_9 (by decide) rfl rfl (fun c3 => ?_) (fun c3 => ?_)
  · exact L20 _ _ _ _ hR hF (by omega : (59 : Int) ≤ (u1.1 1 6).toInt ∧ (u1.1 1 6).toInt ≤ 59) hP hD hS (lv_sub hl [] rfl)
  · refine lv_aload_n F.1 F.2.1 dX10_takeSign_12 rfl (lv_at hl 0 rfl) ?_
    refine a_ic F (1 : Int32) dX10_takeSign_13 (by decide) ?_
    refine a_Vi F hml hl.1 hA hP hD hS (As := [.int (1 : Int32)]) (c_X10_fail_1 l dC dI ad cA nF _ (1 : Int32) hR (by decide)) (cs_RX10_90 (d := 1) F.2.2.1 (by decide)) tc_1 rfl rfl rfl rfl (Nat.le_of_ble_eq_true rfl) dX10_takeSign_14 ⟨Nat.le_refl 0, Nat.le_refl 0⟩ (fun r4 u4 H locs hq hP hD hS => ?_)
    obtain ⟨hR, hF4, gr4⟩ := hq
    have hF := hF.tr hF4 (by decide)
    refine z_eq F 24 dX10_takeSign_17 (by decide) rfl (fun c5 => ?_) (fun c5 => ?_)
    · refine a_ic F (0 : Int32) dX10_takeSign_24 (by decide) ?_
      exact a_retz F hr hlocks hP hD hS dX10_takeSign_25 (Or.inl rfl) ⟨hR, hF, (by decide)⟩
    · exfalso; omega
set_option maxHeartbeats 600000 in
set_option maxRecDepth 100000 in
theorem c_X0_readLine_39 (l : Launch) (dC : Nat → ClassId) (dI : Nat → Nat → Nat) (ad : Nat → Nat) (cA : Nat → ClassId) (nF : Nat) (u0 : ac_U)  (hR : ac_R rg u0) (hK_N4 : nmI 11 12 u0) (hK_DBI : dbI u0) : ac_Mi l yX0_readLine (.code yX0_readLine cX0_readLine 2 (some .boolean) :: TB) 6 (dC, dI) vwCl (ac_ty cA) ad cA (TT nF) [.ref (ad 39)] u0 (fun (r : Int32) (u : ac_U) => ac_R rg u ∧ ac_Fr [(1, some 4), (1, some 5), (1, some 6), (1, some 8), (1, some 9), (1, some 10), (1, some 11), (40, none), (41, none), (42, none)] u0 u ∧ ((0 : Int) ≤ r.toInt ∧ r.toInt ≤ 1) ∧ (r.toInt ≠ 0 → (u.1 39 6).toInt ≤ 39) ∧ (r.toInt ≠ 0 → dbJ u)) := by
  refine ac_Mi.of (cc := cX0_readLine) (maxL := 2) (ret := (some .boolean)) (by decide) rfl (Nat.le_of_ble_eq_true rfl) ?_
  intro p e s m below meth c A ls F hml hr hlocks hA hP hD hS hl
  have F : ac_X p s m [.ref (ad 39)].toArray c cX0_readLine RX0 TB (dC, dI) vwCl (ac_ty cA) := ⟨F.1, F.2.1, fun w h => F.2.2.1 w (List.mem_cons_of_mem _ h), F.2.2.2.1, F.2.2.2.2⟩
  have hl : lv_has ls 2 [(0, .ref (ad 39))] := hl
  have hF : ac_Fr [(1, some 4), (1, some 5), (1, some 6), (1, some 8), (1, some 9), (1, some 10), (1, some 11), (40, none), (41, none), (42, none)] u0 u0 := ac_Fr.rf
  have L118 : ∀ (u : ac_U) (H : Heap) (locs : List Loc) (ls : Array Slot), ac_R rg u → ac_Fr [(1, some 4), (1, some 5), (1, some 6), (1, some 8), (1, some 9), (1, some 10), (1, some 11), (40, none), (41, none), (42, none)] u0 u → (0 : Int) ≤ (u.1 39 6).toInt ∧ (u.1 39 6).toInt ≤ 39 → va_P (dC, dI) vwCl (ac_w ad cA (TT nF) u) H → va_D A (ac_w ad cA (TT nF) u) → va_S A s.heap H locs → lv_has ls 2 [] → W p l e (ac_rm 6) s m [.ref (ad 39)].toArray below meth c H locs 0 0 (MQ below (va_Qi (fun (r : Int32) (u : ac_U) => ac_R rg u ∧ ac_Fr [(1, some 4), (1, some 5), (1, some 6), (1, some 8), (1, some 9), (1, some 10), (1, some 11), (40, none), (41, none), (42, none)] u0 u ∧ ((0 : Int) ≤ r.toInt ∧ r.toInt ≤ 1) ∧ (r.toInt ≠ 0 → (u.1 39 6).toInt ≤ 39) ∧ (r.toInt ≠ 0 → dbJ u)) (ac_B (dC, dI) vwCl (ac_ty cA) ad cA (TT nF) A) A) [.ref (ad 39)].toArray s 0 0 A) (F0 m 118 ls []) := by
    intro u H locs ls hR hF f0 hP hD hS hl
    refine a_ic F (0 : Int32) dX0_readLine_118 (by decide) ?_
    have g1 : (0 : Int) ≤ (u.1 39 6).toInt ∧ (u.1 39 6).toInt ≤ 40 := hR 39 6
    exact a_retz F hr hlocks hP hD hS dX0_readLine_119 (Or.inl rfl) ⟨hR, hF, (by decide), (by first | exact (by omega : (0 : Int) ≠ 0 → (u.1 39 6).toInt ≤ 39) | (rw [ic_0]; exact (by omega : (0 : Int) ≠ 0 → (u.1 39 6).toInt ≤ 39))), (fun h9 => absurd (by decide) h9)⟩
  have L102 : ∀ (u : ac_U) (H : Heap) (locs : List Loc) (ls : Array Slot), ac_R rg u → ac_Fr [(1, some 4), (1, some 5), (1, some 6), (1, some 8), (1, some 9), (1, some 10), (1, some 11), (40, none), (41, none), (42, none)] u0 u → nmI 11 12 u → dbI u → dbJ u → (0 : Int) ≤ (u.1 39 6).toInt ∧ (u.1 39 6).toInt ≤ 39 → va_P (dC, dI) vwCl (ac_w ad cA (TT nF) u) H → va_D A (ac_w ad cA (TT nF) u) → va_S A s.heap H locs → lv_has ls 2 [(0, .ref (ad 39))] → W p l e (ac_rm 6) s m [.ref (ad 39)].toArray below meth c H locs 0 0 (MQ below (va_Qi (fun (r : Int32) (u : ac_U) => ac_R rg u ∧ ac_Fr [(1, some 4), (1, some 5), (1, some 6), (1, some 8), (1, some 9), (1, some 10), (1, some 11), (40, none), (41, none), (42, none)] u0 u ∧ ((0 : Int) ≤ r.toInt ∧ r.toInt ≤ 1) ∧ (r.toInt ≠ 0 → (u.1 39 6).toInt ≤ 39) ∧ (r.toInt ≠ 0 → dbJ u)) (ac_B (dC, dI) vwCl (ac_ty cA) ad cA (TT nF) A) A) [.ref (ad 39)].toArray s 0 0 A) (F0 m 102 ls []) := by
    intro u H locs ls hR hF hK_N4 hK_DBI hK_DBJ f0 hP hD hS hl
    refine lv_aload_n F.1 F.2.1 dX0_readLine_102 rfl (lv_at hl 0 rfl) ?_
    refine a_getr F inX0 hP 39 0 tc_39 rfl rfl (by decide) q399 (fun _ h9 => h9) dX0_readLine_103 ?_
    refine a_bp F (59 : Int32) dX0_readLine_106 (by decide) ?_
    refine a_Vi F hml hl.1 hA hP hD hS (As := [.int (59 : Int32)]) (c_X10_takeSign_1 l dC dI ad cA nF _ (59 : Int32) hR (by decide)) (cs_RX0_79 (d := 4) F.2.2.1 (by decide)) tc_1 rfl rfl rfl rfl (Nat.le_of_ble_eq_true rfl) dX0_readLine_108 ⟨Nat.le_refl 0, Nat.le_refl 0⟩ (fun r2 u2 H locs hq hP hD hS => ?_)
    obtain ⟨hR, hF2, gr2⟩ := hq
    have hF := hF.tr hF2 (by decide)
    have hK_N4 := sp_fr sp_N4 hF2 (by decide) hK_N4
    have hK_DBI := sp_fr sp_DBI hF2 (by decide) hK_DBI
    have hK_DBJ := sp_fr sp_DBJ hF2 (by decide) hK_DBJ
    refine z_eq F 118 dX0_readLine_111 (by decide) rfl (fun c3 => ?_) (fun c3 => ?_)
    · exact L118 _ _ _ _ hR hF (i_trB (hF2 39 6 rfl) (by omega : (0 : Int) ≤ (u.1 39 6).toInt ∧ (u.1 39 6).toInt ≤ 39)) hP hD hS (lv_sub hl [] rfl)
    · refine a_ic F (1 : Int32) dX0_readLine_114 (by decide) ?_
      refine lv_goto (tgt := 119) F.1 F.2.1 dX0_readLine_115 (by decide) ?_
      have k4 : (u2.1 39 6).toInt = (u.1 39 6).toInt := congrArg Int32.toInt (show u2.1 39 6 = (u.1 39 6) from hF2 39 6 rfl)
      exact a_retz F hr hlocks hP hD hS dX0_readLine_119 (Or.inr rfl) ⟨hR, hF, (by decide), (by first | exact (by omega : (1 : Int) ≠ 0 → (u2.1 39 6).toInt ≤ 39) | (rw [ic_1]; exact (by omega : (1 : Int) ≠ 0 → (u2.1 39 6).toInt ≤ 39))), (fun _ => hK_DBJ)⟩
  have L39 : ∀ (x1 : Int32) (u : ac_U) (H : Heap) (locs : List Loc) (ls : Array Slot), ac_R rg u → ac_Fr [(1, some 4), (1, some 5), (1, some 6), (1, some 8), (1, some 9), (1, some 10), (1, some 11), (40, none), (41, none), (42, none)] u0 u → nmI 11 12 u → dbI u → (0 : Int) ≤ x1.toInt ∧ x1.toInt ≤ 1 → (x1.toInt = 0 → (u.1 1 9).toInt ≤ 3) → va_P (dC, dI) vwCl (ac_w ad cA (TT nF) u) H → va_D A (ac_w ad cA (TT nF) u) → va_S A s.heap H locs → lv_has ls 2 [(0, .ref (ad 39)), (1, .int x1)] → W p l e (ac_rm 6) s m [.ref (ad 39)].toArray below meth c H locs 0 0 (MQ below (va_Qi (fun (r : Int32) (u : ac_U) => ac_R rg u ∧ ac_Fr [(1, some 4), (1, some 5), (1, some 6), (1, some 8), (1, some 9), (1, some 10), (1, some 11), (40, none), (41, none), (42, none)] u0 u ∧ ((0 : Int) ≤ r.toInt ∧ r.toInt ≤ 1) ∧ (r.toInt ≠ 0 → (u.1 39 6).toInt ≤ 39) ∧ (r.toInt ≠ 0 → dbJ u)) (ac_B (dC, dI) vwCl (ac_ty cA) ad cA (TT nF) A) A) [.ref (ad 39)].toArray s 0 0 A) (F0 m 39 ls []) := by
    intro x1 u H locs ls hR hF hK_N4 hK_DBI f0 f1 hP hD hS hl
    refine lv_aload_n F.1 F.2.1 dX0_readLine_39 rfl (lv_at hl 0 rfl) ?_
    have g5 : (0 : Int) ≤ (u.1 39 6).toInt ∧ (u.1 39 6).toInt ≤ 40 := hR 39 6
    refine a_geti F inX0 hP 39 6 tc_39 rfl rfl (by decide) q405 (fun _ h9 => h9) (v := (u.1 39 6)) rfl dX0_readLine_40 ?_
    refine a_bp F (40 : Int32) dX0_readLine_43 (by decide) ?_
    refine b_lt F 57 dX0_readLine_45 (by decide) rfl ic_40 (fun c6 => ?_) (fun c6 => ?_)
    · refine lv_aload_n F.1 F.2.1 dX0_readLine_57 rfl (lv_at hl 0 rfl) ?_
      refine a_getr F inX0 hP 39 3 tc_39 rfl rfl (by decide) q402 (fun _ h9 => h9) dX0_readLine_58 ?_
      refine lv_aload_n F.1 F.2.1 dX0_readLine_61 rfl (lv_at hl 0 rfl) ?_
      refine a_geti F inX0 hP 39 6 tc_39 rfl rfl (by decide) q405 (fun _ h9 => h9) (v := (u.1 39 6)) (rfl) dX0_readLine_62 ?_
      refine lv_iload_n F.1 F.2.1 dX0_readLine_65 rfl (lv_at hl 1 rfl) ?_
      refine z_eq F 73 dX0_readLine_66 (by decide) rfl (fun c7 => ?_) (fun c7 => ?_)
      · refine lv_aload_n F.1 F.2.1 dX0_readLine_73 rfl (lv_at hl 0 rfl) ?_
        refine a_getr F inX0 hP 39 0 tc_39 rfl rfl (by decide) q399 (fun _ h9 => h9) dX0_readLine_74 ?_
        have g8 : (0 : Int) ≤ (u.1 1 9).toInt ∧ (u.1 1 9).toInt ≤ 7 := hR 1 9
        refine a_geti F inX10 hP 1 9 tc_1 rfl rfl (by decide) q111 (fun _ h9 => h9) (v := (u.1 1 9)) rfl dX0_readLine_77 ?_
        refine a_iast F hP hD hS 40 tc_40 rfl (i_in rfl (by omega)) dX0_readLine_80 (fun H locs hP hD hS => ?_)
        have hR := hR.si (c := 40) (k := (u.1 39 6).toNatClampNeg) (v := (u.1 1 9)) (by omega : (-1 : Int) ≤ (u.1 1 9).toInt ∧ (u.1 1 9).toInt ≤ 7)
        have hF := hF.si (c := 40) (k := (u.1 39 6).toNatClampNeg) (v := (u.1 1 9)) rfl
        have hN_DBW := db_wh (i := (u.1 39 6)) (v := (u.1 1 9)) (by omega) (rfl) (by omega)
        have hK_N4 := sp_sgD sp_N4 hD hK_N4 (by decide)
        have hK_DBI := db_w (c := 40) hK_DBI (i := (u.1 39 6)) (v := (u.1 1 9)) (by omega) (by decide) (rfl)
        have hK_DBW := hN_DBW
        refine lv_iload_n F.1 F.2.1 dX0_readLine_81 rfl (lv_at hl 1 rfl) ?_
        refine z_eq F 95 dX0_readLine_82 (by decide) rfl (fun c9 => ?_) (fun c9 => ?_)
        · refine lv_aload_n F.1 F.2.1 dX0_readLine_95 rfl (lv_at hl 0 rfl) ?_
          refine a_Vi F hml hl.1 hA hP hD hS (As := []) (c_X0_readDoing_39 l dC dI ad cA nF _  hR (by omega : (0 : Int) ≤ (u.1 39 6).toInt ∧ (u.1 39 6).toInt ≤ 39) hK_DBI hK_N4 hK_DBW) (cs_RX0_76 (d := 5) F.2.2.1 (by decide)) tc_39 rfl rfl rfl rfl (Nat.le_of_ble_eq_true rfl) dX0_readLine_96 ⟨Nat.le_refl 0, Nat.le_refl 0⟩ (fun r10 u10 H locs hq hP hD hS => ?_)
          obtain ⟨hR, hF10, gr10, hK_DBI, hK_r10_DBT⟩ := hq
          have hF := hF.tr hF10 (by decide)
          have hK_N4 := sp_fr sp_N4 hF10 (by decide) hK_N4
          have hK_DBW := sp_fr sp_DBW hF10 (by decide) hK_DBW
          refine z_eq F 118 dX0_readLine_99 (by decide) rfl (fun c11 => ?_) (fun c11 => ?_)
          · exact L118 _ _ _ _ hR hF (i_trB (hF10 39 6 rfl) (by omega : (0 : Int) ≤ (u.1 39 6).toInt ∧ (u.1 39 6).toInt ≤ 39)) hP hD hS (lv_sub hl [] rfl)
          · have hK_DBT := hK_r10_DBT (by omega)
            exact L102 _ _ _ _ hR hF hK_N4 hK_DBI (db_j2 hK_DBI hK_DBW hK_DBT) (i_trB (hF10 39 6 rfl) (by omega : (0 : Int) ≤ (u.1 39 6).toInt ∧ (u.1 39 6).toInt ≤ 39)) hP hD hS (lv_sub hl [0] rfl)
        · exfalso; omega
      · refine a_ic F (-1 : Int32) dX0_readLine_69 (by decide) ?_
        refine lv_goto (tgt := 80) F.1 F.2.1 dX0_readLine_70 (by decide) ?_
        refine a_iast F hP hD hS 40 tc_40 rfl (i_in rfl (by omega)) dX0_readLine_80 (fun H locs hP hD hS => ?_)
        have hR := hR.si (c := 40) (k := (u.1 39 6).toNatClampNeg) (v := (-1 : Int32)) (by rw [ic_m1]; exact (by omega : (-1 : Int) ≤ (-1 : Int) ∧ (-1 : Int) ≤ 7))
        have hF := hF.si (c := 40) (k := (u.1 39 6).toNatClampNeg) (v := (-1 : Int32)) rfl
        have hK_N4 := sp_sgD sp_N4 hD hK_N4 (by decide)
        have hK_DBI := db_w (c := 40) hK_DBI (i := (u.1 39 6)) (v := (-1 : Int32)) (by omega) (by decide) (rfl)
        refine lv_iload_n F.1 F.2.1 dX0_readLine_81 rfl (lv_at hl 1 rfl) ?_
        refine z_eq F 95 dX0_readLine_82 (by decide) rfl (fun c12 => ?_) (fun c12 => ?_)
        · exfalso; omega
        · refine lv_aload_n F.1 F.2.1 dX0_readLine_85 rfl (lv_at hl 0 rfl) ?_
          refine a_Vi F hml hl.1 hA hP hD hS (As := []) (c_X0_readHour_39 l dC dI ad cA nF _  hR (by omega : (0 : Int) ≤ (u.1 39 6).toInt ∧ (u.1 39 6).toInt ≤ 39) hK_DBI) (cs_RX0_73 (d := 5) F.2.2.1 (by decide)) tc_39 rfl rfl rfl rfl (Nat.le_of_ble_eq_true rfl) dX0_readLine_86 ⟨Nat.le_refl 0, Nat.le_refl 0⟩ (fun r13 u13 H locs hq hP hD hS => ?_)
          obtain ⟨hR, hF13, gr13, hK_DBI, hK_DBV⟩ := hq
          have hF := hF.tr hF13 (by decide)
          have hK_N4 := sp_fr sp_N4 hF13 (by decide) hK_N4
          refine z_eq F 118 dX0_readLine_89 (by decide) rfl (fun c14 => ?_) (fun c14 => ?_)
          · exact L118 _ _ _ _ hR hF (i_trB (hF13 39 6 rfl) (by omega : (0 : Int) ≤ (u.1 39 6).toInt ∧ (u.1 39 6).toInt ≤ 39)) hP hD hS (lv_sub hl [] rfl)
          · refine lv_goto (tgt := 102) F.1 F.2.1 dX0_readLine_92 (by decide) ?_
            exact L102 _ _ _ _ hR hF hK_N4 hK_DBI (db_j1 hK_DBI hK_DBV) (i_trB (hF13 39 6 rfl) (by omega : (0 : Int) ≤ (u.1 39 6).toInt ∧ (u.1 39 6).toInt ≤ 39)) hP hD hS (lv_sub hl [0] rfl)
    · refine lv_aload_n F.1 F.2.1 dX0_readLine_48 rfl (lv_at hl 0 rfl) ?_
      refine a_getr F inX0 hP 39 0 tc_39 rfl rfl (by decide) q399 (fun _ h9 => h9) dX0_readLine_49 ?_
      refine a_ic F (4 : Int32) dX0_readLine_52 (by decide) ?_
      refine a_Vi F hml hl.1 hA hP hD hS (As := [.int (4 : Int32)]) (c_X10_fail_1 l dC dI ad cA nF _ (4 : Int32) hR (by decide)) (cs_RX0_66 (d := 1) F.2.2.1 (by decide)) tc_1 rfl rfl rfl rfl (Nat.le_of_ble_eq_true rfl) dX0_readLine_53 ⟨Nat.le_refl 0, Nat.le_refl 0⟩ (fun r15 u15 H locs hq hP hD hS => ?_)
      obtain ⟨hR, hF15, gr15⟩ := hq
      have hF := hF.tr hF15 (by decide)
      have hK_N4 := sp_fr sp_N4 hF15 (by decide) hK_N4
      have hK_DBI := sp_fr sp_DBI hF15 (by decide) hK_DBI
      have k16 : (u15.1 39 6).toInt = (u.1 39 6).toInt := congrArg Int32.toInt (show u15.1 39 6 = (u.1 39 6) from hF15 39 6 rfl)
      exact a_retz F hr hlocks hP hD hS dX0_readLine_56 (i_01 (by omega)) ⟨hR, hF, (by omega : (0 : Int) ≤ r15.toInt ∧ r15.toInt ≤ 1), (by omega : r15.toInt ≠ 0 → (u15.1 39 6).toInt ≤ 39), (fun h9 => absurd (by omega : r15.toInt = 0) h9)⟩
  have L17 : ∀ (z0 : Int32) (u : ac_U) (H : Heap) (locs : List Loc) (ls : Array Slot), ac_R rg u → ac_Fr [(1, some 4), (1, some 5), (1, some 6), (1, some 8), (1, some 9), (1, some 10), (1, some 11), (40, none), (41, none), (42, none)] u0 u → nmI 11 12 u → dbI u → (0 : Int) ≤ z0.toInt ∧ z0.toInt ≤ 1 → va_P (dC, dI) vwCl (ac_w ad cA (TT nF) u) H → va_D A (ac_w ad cA (TT nF) u) → va_S A s.heap H locs → lv_has ls 2 [(0, .ref (ad 39))] → W p l e (ac_rm 6) s m [.ref (ad 39)].toArray below meth c H locs 0 0 (MQ below (va_Qi (fun (r : Int32) (u : ac_U) => ac_R rg u ∧ ac_Fr [(1, some 4), (1, some 5), (1, some 6), (1, some 8), (1, some 9), (1, some 10), (1, some 11), (40, none), (41, none), (42, none)] u0 u ∧ ((0 : Int) ≤ r.toInt ∧ r.toInt ≤ 1) ∧ (r.toInt ≠ 0 → (u.1 39 6).toInt ≤ 39) ∧ (r.toInt ≠ 0 → dbJ u)) (ac_B (dC, dI) vwCl (ac_ty cA) ad cA (TT nF) A) A) [.ref (ad 39)].toArray s 0 0 A) (F0 m 17 ls [.int z0]) := by
    intro z0 u H locs ls hR hF hK_N4 hK_DBI f0 hP hD hS hl
    refine lv_istore_n (lv' := [(1, .int z0), (0, .ref (ad 39))]) F.1 F.2.1 dX0_readLine_17 rfl hl (by decide) rfl (fun ls hl => ?_)
    refine lv_iload_n F.1 F.2.1 dX0_readLine_18 rfl (lv_at hl 0 rfl) ?_
    refine z_ne F 39 dX0_readLine_19 (by decide) rfl (fun c17 => ?_) (fun c17 => ?_)
    · have g18 : (0 : Int) ≤ (u.1 1 9).toInt ∧ (u.1 1 9).toInt ≤ 7 := hR 1 9
      exact L39 z0 _ _ _ _ hR hF hK_N4 hK_DBI (by omega) (by omega : z0.toInt = 0 → (u.1 1 9).toInt ≤ 3) hP hD hS (lv_sub hl [1, 0] rfl)
    · refine lv_aload_n F.1 F.2.1 dX0_readLine_22 rfl (lv_at hl 1 rfl) ?_
      refine a_getr F inX0 hP 39 0 tc_39 rfl rfl (by decide) q399 (fun _ h9 => h9) dX0_readLine_23 ?_
      refine lv_aload_n F.1 F.2.1 dX0_readLine_26 rfl (lv_at hl 1 rfl) ?_
      refine a_getr F inX0 hP 39 1 tc_39 rfl rfl (by decide) q400 (fun _ h9 => h9) dX0_readLine_27 ?_
      refine a_ic F (1 : Int32) dX0_readLine_30 (by decide) ?_
      refine a_Vi F hml hl.1 hA hP hD hS (As := [.ref (ad 4), .int (1 : Int32)]) (c_X10_isKnown_1_4 l dC dI ad cA nF _ (1 : Int32) hR (by decide) hK_N4) (cs_RX0_62 (d := 2) F.2.2.1 (by decide)) tc_1 rfl rfl rfl rfl (Nat.le_of_ble_eq_true rfl) dX0_readLine_31 ⟨Nat.le_refl 0, Nat.le_refl 0⟩ (fun r19 u19 H locs hq hP hD hS => ?_)
      obtain ⟨hR, hF19, gr19, xr19⟩ := hq
      have hF := hF.tr hF19 (by decide)
      have hK_N4 := sp_fr sp_N4 hF19 (by decide) hK_N4
      have hK_DBI := sp_fr sp_DBI hF19 (by decide) hK_DBI
      have g20 : (0 : Int) ≤ (u19.1 1 9).toInt ∧ (u19.1 1 9).toInt ≤ 7 := hR 1 9
      have xr19 : r19.toInt ≠ 0 → (1 : Int) = 1 → (u19.1 1 9).toInt ≤ 3 := xr19
      refine z_ne F 39 dX0_readLine_34 (by decide) rfl (fun c21 => ?_) (fun c21 => ?_)
      · exact L39 z0 _ _ _ _ hR hF hK_N4 hK_DBI (by omega) (by omega : z0.toInt = 0 → (u19.1 1 9).toInt ≤ 3) hP hD hS (lv_sub hl [1, 0] rfl)
      · refine a_ic F (0 : Int32) dX0_readLine_37 (by decide) ?_
        have g22 : (0 : Int) ≤ (u19.1 39 6).toInt ∧ (u19.1 39 6).toInt ≤ 40 := hR 39 6
        exact a_retz F hr hlocks hP hD hS dX0_readLine_38 (Or.inl rfl) ⟨hR, hF, (by decide), (by first | exact (by omega : (0 : Int) ≠ 0 → (u19.1 39 6).toInt ≤ 39) | (rw [ic_0]; exact (by omega : (0 : Int) ≠ 0 → (u19.1 39 6).toInt ≤ 39))), (fun h9 => absurd (by decide) h9)⟩
  refine lv_aload_n F.1 F.2.1 dX0_readLine_0 rfl (lv_at hl 0 rfl) ?_
  refine a_getr F inX0 hP 39 0 tc_39 rfl rfl (by decide) q399 (fun _ h9 => h9) dX0_readLine_1 ?_
  have g23 : (-128 : Int) ≤ (u0.1 1 6).toInt ∧ (u0.1 1 6).toInt ≤ 127 := hR 1 6
  refine a_geti F inX10 hP 1 6 tc_1 rfl rfl (by decide) q101 (fun _ h9 => h9) (v := (u0.1 1 6)) rfl dX0_readLine_4 ?_
  refine a_bp F (113 : Int32) dX0_readLine_7 (by decide) ?_
  refine b_ne F 16 dX0_readLine_9 (by decide) rfl ic_113 (fun c24 => ?_) (fun c24 => ?_)
  · refine a_ic F (0 : Int32) dX0_readLine_16 (by decide) ?_
    exact L17 (0 : Int32) _ _ _ _ hR hF hK_N4 hK_DBI (by decide) hP hD hS (lv_sub hl [0] rfl)
  · refine a_ic F (1 : Int32) dX0_readLine_12 (by decide) ?_
    refine lv_goto (tgt := 17) F.1 F.2.1 dX0_readLine_13 (by decide) ?_
    exact L17 (1 : Int32) _ _ _ _ hR hF hK_N4 hK_DBI (by decide) hP hD hS (lv_sub hl [0] rfl)
set_option maxHeartbeats 600000 in
set_option maxRecDepth 100000 in
theorem c_X10_startReading_1 (l : Launch) (dC : Nat → ClassId) (dI : Nat → Nat → Nat) (ad : Nat → Nat) (cA : Nat → ClassId) (nF : Nat) (u0 : ac_U) (p0 : Int32) (hR : ac_R rg u0) (hp0 : (200 : Int) ≤ p0.toInt ∧ p0.toInt ≤ 900) : ac_Mv l yX10_startReading (.code yX10_startReading cX10_startReading 2 none :: TB) 4 (dC, dI) vwCl (ac_ty cA) ad cA (TT nF) [.ref (ad 1), .int p0] u0 (fun (u : ac_U) => ac_R rg u ∧ ac_Fr [(1, some 3), (1, some 4), (1, some 5), (1, some 6), (1, some 8), (1, some 10), (1, some 11)] u0 u) := by
  refine ac_Mv.of (cc := cX10_startReading) (maxL := 2) (ret := none) (by decide) rfl (Nat.le_of_ble_eq_true rfl) ?_
  intro p e s m below meth c A ls F hml hr hlocks hA hP hD hS hl
  have F : ac_X p s m [.ref (ad 1), .int p0].toArray c cX10_startReading RX10 TB (dC, dI) vwCl (ac_ty cA) := ⟨F.1, F.2.1, fun w h => F.2.2.1 w (List.mem_cons_of_mem _ h), F.2.2.2.1, F.2.2.2.2⟩
  have hl : lv_has ls 2 [(0, .ref (ad 1)), (1, .int p0)] := hl
  have hF : ac_Fr [(1, some 3), (1, some 4), (1, some 5), (1, some 6), (1, some 8), (1, some 10), (1, some 11)] u0 u0 := ac_Fr.rf
  refine lv_aload_n F.1 F.2.1 dX10_startReading_0 rfl (lv_at hl 0 rfl) ?_
  refine lv_iload_n F.1 F.2.1 dX10_startReading_1 rfl (lv_at hl 1 rfl) ?_
  refine a_puti F inX10 tyX10 tyX10_ok nmX10 hP hD hS 1 3 tc_1 rfl rfl (by decide) q97 (fun _ h9 => h9) rfl (ty := .int) (tyX10_ok 3 (by decide)) rfl rfl dX10_startReading_2 (fun H locs hP hD hS => ?_)
  have hR := hR.si (c := 1) (k := 3) (v := p0) (by omega : (0 : Int) ≤ p0.toInt ∧ p0.toInt ≤ 900)
  have hF := hF.si (c := 1) (k := 3) (v := p0) rfl
  refine lv_aload_n F.1 F.2.1 dX10_startReading_5 rfl (lv_at hl 0 rfl) ?_
  refine a_ic F (0 : Int32) dX10_startReading_6 (by decide) ?_
  refine a_puti F inX10 tyX10 tyX10_ok nmX10 hP hD hS 1 4 tc_1 rfl rfl (by decide) q98 (fun _ h9 => h9) rfl (ty := .int) (tyX10_ok 4 (by decide)) rfl rfl dX10_startReading_7 (fun H locs hP hD hS => ?_)
  have hR := hR.si (c := 1) (k := 4) (v := (0 : Int32)) (by rw [ic_0]; exact (by omega : (0 : Int) ≤ (0 : Int) ∧ (0 : Int) ≤ 940))
  have hF := hF.si (c := 1) (k := 4) (v := (0 : Int32)) rfl
  refine lv_aload_n F.1 F.2.1 dX10_startReading_10 rfl (lv_at hl 0 rfl) ?_
  refine a_ic F (0 : Int32) dX10_startReading_11 (by decide) ?_
  refine a_puti F inX10 tyX10 tyX10_ok nmX10 hP hD hS 1 5 tc_1 rfl rfl (by decide) q99 (fun _ h9 => h9) rfl (ty := .int) (tyX10_ok 5 (by decide)) rfl rfl dX10_startReading_12 (fun H locs hP hD hS => ?_)
  have hR := hR.si (c := 1) (k := 5) (v := (0 : Int32)) (by rw [ic_0]; exact (by omega : (0 : Int) ≤ (0 : Int) ∧ (0 : Int) ≤ 940))
  have hF := hF.si (c := 1) (k := 5) (v := (0 : Int32)) rfl
  refine lv_aload_n F.1 F.2.1 dX10_startReading_15 rfl (lv_at hl 0 rfl) ?_
  refine a_ic F (0 : Int32) dX10_startReading_16 (by decide) ?_
  refine a_puti F inX10 tyX10 tyX10_ok nmX10 hP hD hS 1 10 tc_1 rfl rfl (by decide) q114 (fun _ h9 => h9) rfl (ty := .int) (tyX10_ok 10 (by decide)) rfl rfl dX10_startReading_17 (fun H locs hP hD hS => ?_)
  have hR := hR.si (c := 1) (k := 10) (v := (0 : Int32)) (by rw [ic_0]; exact (by omega : (0 : Int) ≤ (0 : Int) ∧ (0 : Int) ≤ 4))
  have hF := hF.si (c := 1) (k := 10) (v := (0 : Int32)) rfl
  refine lv_aload_n F.1 F.2.1 dX10_startReading_20 rfl (lv_at hl 0 rfl) ?_
  refine a_ic F (0 : Int32) dX10_startReading_21 (by decide) ?_
  refine a_puti F inX10 tyX10 tyX10_ok nmX10 hP hD hS 1 11 tc_1 rfl rfl (by decide) q116 (fun _ h9 => h9) rfl (ty := .int) (tyX10_ok 11 (by decide)) rfl rfl dX10_startReading_22 (fun H locs hP hD hS => ?_)
  have hR := hR.si (c := 1) (k := 11) (v := (0 : Int32)) (by rw [ic_0]; exact (by omega : (0 : Int) ≤ (0 : Int) ∧ (0 : Int) ≤ 940))
  have hF := hF.si (c := 1) (k := 11) (v := (0 : Int32)) rfl
  refine lv_aload_n F.1 F.2.1 dX10_startReading_25 rfl (lv_at hl 0 rfl) ?_
  refine a_Vv F hml hl.1 hA hP hD hS (As := []) (c_X10_readNext_1 l dC dI ad cA nF _  hR) (cs_RX10_72 (d := 3) F.2.2.1 (by decide)) tc_1 rfl rfl rfl rfl (Nat.le_of_ble_eq_true rfl) dX10_startReading_26 ⟨Nat.le_refl 0, Nat.le_refl 0⟩ (fun u1 H locs hq hP hD hS => ?_)
  obtain ⟨hR, hF1⟩ := hq
  have hF := hF.tr hF1 (by decide)
  exact a_retv F hr hlocks hP hD hS dX10_startReading_29 ⟨hR, hF⟩
set_option maxHeartbeats 600000 in
set_option maxRecDepth 100000 in
theorem c_X0_readWhole_39 (l : Launch) (dC : Nat → ClassId) (dI : Nat → Nat → Nat) (ad : Nat → Nat) (cA : Nat → ClassId) (nF : Nat) (u0 : ac_U)  (hR : ac_R rg u0) (hK_N4 : nmI 11 12 u0) : ac_Mi l yX0_readWhole (.code yX0_readWhole cX0_readWhole 1 (some .boolean) :: TB) 7 (dC, dI) vwCl (ac_ty cA) ad cA (TT nF) [.ref (ad 39)] u0 (fun (r : Int32) (u : ac_U) => ac_R rg u ∧ ac_Fr [(1, some 3), (1, some 4), (1, some 5), (1, some 6), (1, some 8), (1, some 9), (1, some 10), (1, some 11), (39, some 6), (40, none), (41, none), (42, none)] u0 u ∧ ((0 : Int) ≤ r.toInt ∧ r.toInt ≤ 1) ∧ (r.toInt ≠ 0 → dbI u)) := by
  refine ac_Mi.of (cc := cX0_readWhole) (maxL := 1) (ret := (some .boolean)) (by decide) rfl (Nat.le_of_ble_eq_true rfl) ?_
  intro p e s m below meth c A ls F hml hr hlocks hA hP hD hS hl
  have F : ac_X p s m [.ref (ad 39)].toArray c cX0_readWhole RX0 TB (dC, dI) vwCl (ac_ty cA) := ⟨F.1, F.2.1, fun w h => F.2.2.1 w (List.mem_cons_of_mem _ h), F.2.2.2.1, F.2.2.2.2⟩
  have hl : lv_has ls 1 [(0, .ref (ad 39))] := hl
  have hF : ac_Fr [(1, some 3), (1, some 4), (1, some 5), (1, some 6), (1, some 8), (1, some 9), (1, some 10), (1, some 11), (39, some 6), (40, none), (41, none), (42, none)] u0 u0 := ac_Fr.rf
  have L63 : ∀ (u : ac_U) (H : Heap) (locs : List Loc) (ls : Array Slot), ac_R rg u → ac_Fr [(1, some 3), (1, some 4), (1, some 5), (1, some 6), (1, some 8), (1, some 9), (1, some 10), (1, some 11), (39, some 6), (40, none), (41, none), (42, none)] u0 u → dbI u → (0 : Int) ≤ (u.1 1 6).toInt ∧ (u.1 1 6).toInt ≤ 0 → va_P (dC, dI) vwCl (ac_w ad cA (TT nF) u) H → va_D A (ac_w ad cA (TT nF) u) → va_S A s.heap H locs → lv_has ls 1 [] → W p l e (ac_rm 7) s m [.ref (ad 39)].toArray below meth c H locs 0 0 (MQ below (va_Qi (fun (r : Int32) (u : ac_U) => ac_R rg u ∧ ac_Fr [(1, some 3), (1, some 4), (1, some 5), (1, some 6), (1, some 8), (1, some 9), (1, some 10), (1, some 11), (39, some 6), (40, none), (41, none), (42, none)] u0 u ∧ ((0 : Int) ≤ r.toInt ∧ r.toInt ≤ 1) ∧ (r.toInt ≠ 0 → dbI u)) (ac_B (dC, dI) vwCl (ac_ty cA) ad cA (TT nF) A) A) [.ref (ad 39)].toArray s 0 0 A) (F0 m 63 ls []) := by
    intro u H locs ls hR hF hK_DBI f0 hP hD hS hl
    refine a_ic F (1 : Int32) dX0_readWhole_63 (by decide) ?_
    exact a_retz F hr hlocks hP hD hS dX0_readWhole_64 (Or.inr rfl) ⟨hR, hF, (by decide), (fun _ => hK_DBI)⟩
  have L15 : ∀ (n15 : Nat) (u : ac_U) (H : Heap) (locs : List Loc) (ls : Array Slot), ac_R rg u → ac_Fr [(1, some 3), (1, some 4), (1, some 5), (1, some 6), (1, some 8), (1, some 9), (1, some 10), (1, some 11), (39, some 6), (40, none), (41, none), (42, none)] u0 u → 41 - (u.1 39 6).toInt < (n15 : Int) → nmI 11 12 u → dbI u → (0 : Int) ≤ (u.1 39 6).toInt ∧ (u.1 39 6).toInt ≤ 40 → va_P (dC, dI) vwCl (ac_w ad cA (TT nF) u) H → va_D A (ac_w ad cA (TT nF) u) → va_S A s.heap H locs → lv_has ls 1 [(0, .ref (ad 39))] → W p l e (ac_rm 7) s m [.ref (ad 39)].toArray below meth c H locs 0 0 (MQ below (va_Qi (fun (r : Int32) (u : ac_U) => ac_R rg u ∧ ac_Fr [(1, some 3), (1, some 4), (1, some 5), (1, some 6), (1, some 8), (1, some 9), (1, some 10), (1, some 11), (39, some 6), (40, none), (41, none), (42, none)] u0 u ∧ ((0 : Int) ≤ r.toInt ∧ r.toInt ≤ 1) ∧ (r.toInt ≠ 0 → dbI u)) (ac_B (dC, dI) vwCl (ac_ty cA) ad cA (TT nF) A) A) [.ref (ad 39)].toArray s 0 0 A) (F0 m 15 ls []) := by
    intro n15
    induction n15 with
    | zero => intro u H locs ls hR hF hn15 hK_N4 hK_DBI f0 hP hD hS hl; have gz0 : (0 : Int) ≤ (u.1 39 6).toInt ∧ (u.1 39 6).toInt ≤ 40 := hR 39 6; exfalso; omega
    | succ n15 ih15 =>
      intro u H locs ls hR hF hn15 hK_N4 hK_DBI f0 hP hD hS hl
      refine lv_aload_n F.1 F.2.1 dX0_readWhole_15 rfl (lv_at hl 0 rfl) ?_
      have g1 : (0 : Int) ≤ (u.1 39 6).toInt ∧ (u.1 39 6).toInt ≤ 40 := hR 39 6
      refine a_geti F inX0 hP 39 6 tc_39 rfl rfl (by decide) q405 (fun _ h9 => h9) (v := (u.1 39 6)) rfl dX0_readWhole_16 ?_
      refine a_bp F (40 : Int32) dX0_readWhole_19 (by decide) ?_
      refine b_gt F 63 dX0_readWhole_21 (by decide) rfl ic_40 (fun c2 => ?_) (fun c2 => ?_)
      · exfalso; omega
      · refine lv_aload_n F.1 F.2.1 dX0_readWhole_24 rfl (lv_at hl 0 rfl) ?_
        refine a_getr F inX0 hP 39 0 tc_39 rfl rfl (by decide) q399 (fun _ h9 => h9) dX0_readWhole_25 ?_
        have g3 : (-128 : Int) ≤ (u.1 1 6).toInt ∧ (u.1 1 6).toInt ≤ 127 := hR 1 6
        refine a_geti F inX10 hP 1 6 tc_1 rfl rfl (by decide) q101 (fun _ h9 => h9) (v := (u.1 1 6)) rfl dX0_readWhole_28 ?_
        refine z_eq F 63 dX0_readWhole_31 (by decide) rfl (fun c4 => ?_) (fun c4 => ?_)
        · exact L63 _ _ _ _ hR hF hK_DBI (by omega : (0 : Int) ≤ (u.1 1 6).toInt ∧ (u.1 1 6).toInt ≤ 0) hP hD hS (lv_sub hl [] rfl)
        · refine lv_aload_n F.1 F.2.1 dX0_readWhole_34 rfl (lv_at hl 0 rfl) ?_
          refine a_Vi F hml hl.1 hA hP hD hS (As := []) (c_X0_readLine_39 l dC dI ad cA nF _  hR hK_N4 hK_DBI) (cs_RX0_55 (d := 6) F.2.2.1 (by decide)) tc_39 rfl rfl rfl rfl (Nat.le_of_ble_eq_true rfl) dX0_readWhole_35 ⟨Nat.le_refl 0, Nat.le_refl 0⟩ (fun r5 u5 H locs hq hP hD hS => ?_)
          obtain ⟨hR, hF5, gr5, xr5, hK_r5_DBJ⟩ := hq
          have hF := hF.tr hF5 (by decide)
          have hK_N4 := sp_fr sp_N4 hF5 (by decide) hK_N4
          have k6 : (u5.1 39 6).toInt = (u.1 39 6).toInt := congrArg Int32.toInt (show u5.1 39 6 = (u.1 39 6) from hF5 39 6 rfl)
          have xr5 : r5.toInt ≠ 0 → (u5.1 39 6).toInt ≤ 39 := xr5
          refine z_ne F 43 dX0_readWhole_38 (by decide) rfl (fun c7 => ?_) (fun c7 => ?_)
          · have hK_DBJ := hK_r5_DBJ (by omega)
            refine lv_aload_n F.1 F.2.1 dX0_readWhole_43 rfl (lv_at hl 0 rfl) ?_
            refine a_getr F inX0 hP 39 0 tc_39 rfl rfl (by decide) q399 (fun _ h9 => h9) dX0_readWhole_44 ?_
            refine a_Vv F hml hl.1 hA hP hD hS (As := []) (c_X10_readNext_1 l dC dI ad cA nF _  hR) (cs_RX0_59 (d := 3) F.2.2.1 (by decide)) tc_1 rfl rfl rfl rfl (Nat.le_of_ble_eq_true rfl) dX0_readWhole_47 ⟨Nat.le_refl 0, Nat.le_refl 0⟩ (fun u8 H locs hq hP hD hS => ?_)
            obtain ⟨hR, hF8⟩ := hq
            have hF := hF.tr hF8 (by decide)
            have hK_N4 := sp_fr sp_N4 hF8 (by decide) hK_N4
            have hK_r5_DBJ := sp_fr (sp_imp sp_DBJ) hF8 (by decide) hK_r5_DBJ
            have hK_DBJ := sp_fr sp_DBJ hF8 (by decide) hK_DBJ
            refine lv_aload_n F.1 F.2.1 dX0_readWhole_50 rfl (lv_at hl 0 rfl) ?_
            refine lv_dup F.1 F.2.1 dX0_readWhole_51 rfl ?_
            refine a_geti F inX0 hP 39 6 tc_39 rfl rfl (by decide) q405 (fun _ h9 => h9) (v := (u.1 39 6)) ((hF8 39 6 rfl).trans (hF5 39 6 rfl)) dX0_readWhole_52 ?_
            refine a_ic F (1 : Int32) dX0_readWhole_55 (by decide) ?_
            refine a_iadd F dX0_readWhole_56 rfl ic_1 (by omega) (fun v9 hv9 => ?_)
            refine a_puti F inX0 tyX0 tyX0_ok nmX0 hP hD hS 39 6 tc_39 rfl rfl (by decide) q405 (fun _ h9 => h9) rfl (ty := .int) (tyX0_ok 6 (by decide)) rfl rfl dX0_readWhole_57 (fun H locs hP hD hS => ?_)
            have hR := hR.si (c := 39) (k := 6) (v := v9) (by omega : (0 : Int) ≤ v9.toInt ∧ v9.toInt ≤ 40)
            have hF := hF.si (c := 39) (k := 6) (v := v9) rfl
            have hN_DBI := db_s hK_DBJ (i := (u.1 39 6)) (v := v9) ((hF8 39 6 rfl).trans (hF5 39 6 rfl)) (by omega)
            have hK_N4 := sp_sgD sp_N4 hD hK_N4 (by decide)
            have hK_DBI := hN_DBI
            refine lv_goto (tgt := 15) F.1 F.2.1 dX0_readWhole_60 (by decide) ?_
            exact ih15 _ _ _ _ hR hF (by omega : 41 - v9.toInt < ((n15 : Nat) : Int)) hK_N4 hK_DBI (by omega : (0 : Int) ≤ v9.toInt ∧ v9.toInt ≤ 40) hP hD hS (lv_sub hl [0] rfl)
          · refine a_ic F (0 : Int32) dX0_readWhole_41 (by decide) ?_
            exact a_retz F hr hlocks hP hD hS dX0_readWhole_42 (Or.inl rfl) ⟨hR, hF, (by decide), (fun h9 => absurd (by decide) h9)⟩
  refine lv_aload_n F.1 F.2.1 dX0_readWhole_0 rfl (lv_at hl 0 rfl) ?_
  refine a_getr F inX0 hP 39 0 tc_39 rfl rfl (by decide) q399 (fun _ h9 => h9) dX0_readWhole_1 ?_
  refine a_sp F (500 : Int32) dX0_readWhole_4 (by decide) ?_
  refine a_Vv F hml hl.1 hA hP hD hS (As := [.int (500 : Int32)]) (c_X10_startReading_1 l dC dI ad cA nF _ (500 : Int32) hR (by decide)) (cs_RX0_46 (d := 4) F.2.2.1 (by decide)) tc_1 rfl rfl rfl rfl (Nat.le_of_ble_eq_true rfl) dX0_readWhole_7 ⟨Nat.le_refl 0, Nat.le_refl 0⟩ (fun u10 H locs hq hP hD hS => ?_)
  obtain ⟨hR, hF10⟩ := hq
  have hF := hF.tr hF10 (by decide)
  have hK_N4 := sp_fr sp_N4 hF10 (by decide) hK_N4
  refine lv_aload_n F.1 F.2.1 dX0_readWhole_10 rfl (lv_at hl 0 rfl) ?_
  refine a_ic F (0 : Int32) dX0_readWhole_11 (by decide) ?_
  refine a_puti F inX0 tyX0 tyX0_ok nmX0 hP hD hS 39 6 tc_39 rfl rfl (by decide) q405 (fun _ h9 => h9) rfl (ty := .int) (tyX0_ok 6 (by decide)) rfl rfl dX0_readWhole_12 (fun H locs hP hD hS => ?_)
  have hR := hR.si (c := 39) (k := 6) (v := (0 : Int32)) (by rw [ic_0]; exact (by omega : (0 : Int) ≤ (0 : Int) ∧ (0 : Int) ≤ 40))
  have hF := hF.si (c := 39) (k := 6) (v := (0 : Int32)) rfl
  have hN_DBI := db_0D hD (by decide)
  have hK_N4 := sp_sgD sp_N4 hD hK_N4 (by decide)
  have hK_DBI := hN_DBI
  exact L15 43 _ _ _ _ hR hF (by omega : 41 - (0 : Int) < (43 : Int)) hK_N4 hK_DBI (by omega : (0 : Int) ≤ (0 : Int) ∧ (0 : Int) ≤ 40) hP hD hS (lv_sub hl [0] rfl)
set_option maxHeartbeats 600000 in
set_option maxRecDepth 100000 in
theorem c_X1_draw_38 (l : Launch) (dC : Nat → ClassId) (dI : Nat → Nat → Nat) (ad : Nat → Nat) (cA : Nat → ClassId) (nF : Nat) (u0 : ac_U) (p0 : Int32) (hR : ac_R rg u0) (hp0 : (0 : Int) ≤ p0.toInt ∧ p0.toInt ≤ 8) : ac_Mi l yX1_draw (.code yX1_draw cX1_draw 2 (some .int) :: TB) 1 (dC, dI) vwCl (ac_ty cA) ad cA (TT nF) [.ref (ad 38), .int p0] u0 (fun (r : Int32) (u : ac_U) => ac_R rg u ∧ ac_Fr [(38, some 2)] u0 u ∧ ((0 : Int) ≤ r.toInt ∧ r.toInt ≤ 7)) := by
  refine ac_Mi.of (cc := cX1_draw) (maxL := 2) (ret := (some .int)) (by decide) rfl (Nat.le_of_ble_eq_true rfl) ?_
  intro p e s m below meth c A ls F hml hr hlocks hA hP hD hS hl
  have F : ac_X p s m [.ref (ad 38), .int p0].toArray c cX1_draw RX1 TB (dC, dI) vwCl (ac_ty cA) := ⟨F.1, F.2.1, fun w h => F.2.2.1 w (List.mem_cons_of_mem _ h), F.2.2.2.1, F.2.2.2.2⟩
  have hl : lv_has ls 2 [(0, .ref (ad 38)), (1, .int p0)] := hl
  have hF : ac_Fr [(38, some 2)] u0 u0 := ac_Fr.rf
  refine lv_aload_n F.1 F.2.1 dX1_draw_0 rfl (lv_at hl 0 rfl) ?_
  refine lv_aload_n F.1 F.2.1 dX1_draw_1 rfl (lv_at hl 0 rfl) ?_
  refine a_geti F inX1 hP 38 2 tc_38 rfl rfl (by decide) q385 (fun _ h9 => h9) (v := (u0.1 38 2)) rfl dX1_draw_2 ?_
  refine lv_ldc (v := (1103515245 : Int32)) F.1 F.2.1 F.2.2.2.1 (F.2.2.1 _ q1186) dX1_draw_5 ?_
  refine a_imulU F dX1_draw_7 (fun v1 => ?_)
  refine a_sp F (12345 : Int32) dX1_draw_8 (by decide) ?_
  refine a_iaddU F dX1_draw_11 (fun v2 => ?_)
  refine a_puti F inX1 tyX1 tyX1_ok nmX1 hP hD hS 38 2 tc_38 rfl rfl (by decide) q385 (fun _ h9 => h9) rfl (ty := .int) (tyX1_ok 2 (by decide)) rfl rfl dX1_draw_12 (fun H locs hP hD hS => ?_)
  have hR := hR.si (c := 38) (k := 2) (v := v2) ⟨i_lo _, i_hi _⟩
  have hF := hF.si (c := 38) (k := 2) (v := v2) rfl
  refine lv_iload_n F.1 F.2.1 dX1_draw_15 rfl (lv_at hl 1 rfl) ?_
  refine z_le F 31 dX1_draw_16 (by decide) rfl (fun c3 => ?_) (fun c3 => ?_)
  · refine a_ic F (0 : Int32) dX1_draw_31 (by decide) ?_
    exact a_reti F hr hlocks hP hD hS dX1_draw_32 ⟨hR, hF, (by decide)⟩
  · refine lv_aload_n F.1 F.2.1 dX1_draw_19 rfl (lv_at hl 0 rfl) ?_
    refine a_geti F inX1 hP 38 2 tc_38 rfl rfl (by decide) q385 (fun _ h9 => h9) (v := v2) (rfl) dX1_draw_20 ?_
    refine a_bp F (8 : Int32) dX1_draw_23 (by decide) ?_
    refine a_iushrC F dX1_draw_25 (n := 8) (by decide) (by decide) (fun v4 hv4 => ?_)
    have hv4 : (0 : Int) ≤ v4.toInt ∧ v4.toInt ≤ 16777215 := hv4
    refine lv_iload_n F.1 F.2.1 dX1_draw_26 rfl (lv_at hl 1 rfl) ?_
    refine a_irem F dX1_draw_27 rfl rfl (by omega) (fun v5 hv5 => ?_)
    refine lv_goto (tgt := 32) F.1 F.2.1 dX1_draw_28 (by decide) ?_
    exact a_reti F hr hlocks hP hD hS dX1_draw_32 ⟨hR, hF, (by omega : (0 : Int) ≤ v5.toInt ∧ v5.toInt ≤ 7)⟩
set_option maxHeartbeats 600000 in
set_option maxRecDepth 100000 in
theorem c_X1_drawFor_38 (l : Launch) (dC : Nat → ClassId) (dI : Nat → Nat → Nat) (ad : Nat → Nat) (cA : Nat → ClassId) (nF : Nat) (u0 : ac_U) (p0 : Int32) (hR : ac_R rg u0) (hp0 : (0 : Int) ≤ p0.toInt ∧ p0.toInt ≤ 3) : ac_Mv l yX1_drawFor (.code yX1_drawFor cX1_drawFor 3 none :: TB) 5 (dC, dI) vwCl (ac_ty cA) ad cA (TT nF) [.ref (ad 38), .int p0] u0 (fun (u : ac_U) => ac_R rg u ∧ ac_Fr [(25, none), (26, none), (38, some 2)] u0 u) := by
  refine ac_Mv.of (cc := cX1_drawFor) (maxL := 3) (ret := none) (by decide) rfl (Nat.le_of_ble_eq_true rfl) ?_
  intro p e s m below meth c A ls F hml hr hlocks hA hP hD hS hl
  have F : ac_X p s m [.ref (ad 38), .int p0].toArray c cX1_drawFor RX1 TB (dC, dI) vwCl (ac_ty cA) := ⟨F.1, F.2.1, fun w h => F.2.2.1 w (List.mem_cons_of_mem _ h), F.2.2.2.1, F.2.2.2.2⟩
  have hl : lv_has ls 3 [(0, .ref (ad 38)), (1, .int p0)] := hl
  have hF : ac_Fr [(25, none), (26, none), (38, some 2)] u0 u0 := ac_Fr.rf
  have L71 : ∀ (x2 : Int32) (u : ac_U) (H : Heap) (locs : List Loc) (ls : Array Slot), ac_R rg u → ac_Fr [(25, none), (26, none), (38, some 2)] u0 u → (1 : Int) ≤ x2.toInt ∧ x2.toInt ≤ 7 → va_P (dC, dI) vwCl (ac_w ad cA (TT nF) u) H → va_D A (ac_w ad cA (TT nF) u) → va_S A s.heap H locs → lv_has ls 3 [(0, .ref (ad 38)), (1, .int p0), (2, .int x2)] → W p l e (ac_rm 5) s m [.ref (ad 38), .int p0].toArray below meth c H locs 0 0 (MQ below (va_Qv (fun (u : ac_U) => ac_R rg u ∧ ac_Fr [(25, none), (26, none), (38, some 2)] u0 u) (ac_B (dC, dI) vwCl (ac_ty cA) ad cA (TT nF) A) A) [.ref (ad 38), .int p0].toArray s 0 0 A) (F0 m 71 ls []) := by
    intro x2 u H locs ls hR hF f0 hP hD hS hl
    refine lv_iload_n F.1 F.2.1 dX1_drawFor_71 rfl (lv_at hl 2 rfl) ?_
    refine a_ic F (2 : Int32) dX1_drawFor_72 (by decide) ?_
    refine b_ne F 106 dX1_drawFor_73 (by decide) rfl ic_2 (fun c1 => ?_) (fun c1 => ?_)
    · exact a_retv F hr hlocks hP hD hS dX1_drawFor_106 ⟨hR, hF⟩
    · refine lv_aload_n F.1 F.2.1 dX1_drawFor_76 rfl (lv_at hl 0 rfl) ?_
      refine a_getr F inX1 hP 38 0 tc_38 rfl rfl (by decide) q383 (fun _ h9 => h9) dX1_drawFor_77 ?_
      have g2 : (0 : Int) ≤ (u.1 4 6).toInt ∧ (u.1 4 6).toInt ≤ 8 := hR 4 6
      refine a_geti F inX2 hP 4 6 tc_4 rfl rfl (by decide) q179 (fun _ h9 => h9) (v := (u.1 4 6)) rfl dX1_drawFor_80 ?_
      refine z_le F 106 dX1_drawFor_83 (by decide) rfl (fun c3 => ?_) (fun c3 => ?_)
      · exact a_retv F hr hlocks hP hD hS dX1_drawFor_106 ⟨hR, hF⟩
      · refine lv_aload_n F.1 F.2.1 dX1_drawFor_86 rfl (lv_at hl 0 rfl) ?_
        refine a_getr F inX1 hP 38 1 tc_38 rfl rfl (by decide) q384 (fun _ h9 => h9) dX1_drawFor_87 ?_
        refine lv_iload_n F.1 F.2.1 dX1_drawFor_90 rfl (lv_at hl 1 rfl) ?_
        refine lv_aload_n F.1 F.2.1 dX1_drawFor_91 rfl (lv_at hl 0 rfl) ?_
        refine lv_aload_n F.1 F.2.1 dX1_drawFor_92 rfl (lv_at hl 0 rfl) ?_
        refine a_getr F inX1 hP 38 0 tc_38 rfl rfl (by decide) q383 (fun _ h9 => h9) dX1_drawFor_93 ?_
        refine a_geti F inX2 hP 4 6 tc_4 rfl rfl (by decide) q179 (fun _ h9 => h9) (v := (u.1 4 6)) (rfl) dX1_drawFor_96 ?_
        refine a_Vi F hml hl.1 hA hP hD hS (As := [.int (u.1 4 6)]) (c_X1_draw_38 l dC dI ad cA nF _ (u.1 4 6) hR (by omega)) (cs_RX1_47 (d := 1) F.2.2.1 (by decide)) tc_38 rfl rfl rfl rfl (Nat.le_of_ble_eq_true rfl) dX1_drawFor_99 ⟨Nat.le_refl 0, Nat.le_refl 0⟩ (fun r4 u4 H locs hq hP hD hS => ?_)
        obtain ⟨hR, hF4, gr4⟩ := hq
        have hF := hF.tr hF4 (by decide)
        refine a_Vi F hml hl.1 hA hP hD hS (As := [.int p0, .int r4]) (c_X6_trySay_24 l dC dI ad cA nF _ p0 r4 hR (by omega) (by omega)) (cs_RX1_65 (d := 4) F.2.2.1 (by decide)) tc_24 rfl rfl rfl rfl (Nat.le_of_ble_eq_true rfl) dX1_drawFor_102 ⟨Nat.le_refl 0, Nat.le_refl 0⟩ (fun r5 u5 H locs hq hP hD hS => ?_)
        obtain ⟨hR, hF5, gr5⟩ := hq
        have hF := hF.tr hF5 (by decide)
        refine lv_pop F.1 F.2.1 dX1_drawFor_105 rfl ?_
        exact a_retv F hr hlocks hP hD hS dX1_drawFor_106 ⟨hR, hF⟩
  refine lv_aload_n F.1 F.2.1 dX1_drawFor_0 rfl (lv_at hl 0 rfl) ?_
  refine a_ic F (3 : Int32) dX1_drawFor_1 (by decide) ?_
  refine a_Vi F hml hl.1 hA hP hD hS (As := [.int (3 : Int32)]) (c_X1_draw_38 l dC dI ad cA nF _ (3 : Int32) hR (by decide)) (cs_RX1_47 (d := 1) F.2.2.1 (by decide)) tc_38 rfl rfl rfl rfl (Nat.le_of_ble_eq_true rfl) dX1_drawFor_2 ⟨Nat.le_refl 0, Nat.le_refl 0⟩ (fun r6 u6 H locs hq hP hD hS => ?_)
  obtain ⟨hR, hF6, gr6⟩ := hq
  have hF := hF.tr hF6 (by decide)
  refine lv_istore_n (lv' := [(2, .int r6), (0, .ref (ad 38)), (1, .int p0)]) F.1 F.2.1 dX1_drawFor_5 rfl hl (by decide) rfl (fun ls hl => ?_)
  refine lv_iload_n F.1 F.2.1 dX1_drawFor_6 rfl (lv_at hl 0 rfl) ?_
  refine z_ne F 33 dX1_drawFor_7 (by decide) rfl (fun c7 => ?_) (fun c7 => ?_)
  · refine lv_iload_n F.1 F.2.1 dX1_drawFor_33 rfl (lv_at hl 0 rfl) ?_
    refine a_ic F (1 : Int32) dX1_drawFor_34 (by decide) ?_
    refine b_ne F 71 dX1_drawFor_35 (by decide) rfl ic_1 (fun c8 => ?_) (fun c8 => ?_)
    · exact L71 r6 _ _ _ _ hR hF (by omega) hP hD hS (lv_sub hl [1, 2, 0] rfl)
    · refine lv_aload_n F.1 F.2.1 dX1_drawFor_38 rfl (lv_at hl 1 rfl) ?_
      refine a_getr F inX1 hP 38 0 tc_38 rfl rfl (by decide) q383 (fun _ h9 => h9) dX1_drawFor_39 ?_
      have g9 : (0 : Int) ≤ (u6.1 4 5).toInt ∧ (u6.1 4 5).toInt ≤ 6 := hR 4 5
      refine a_geti F inX2 hP 4 5 tc_4 rfl rfl (by decide) q174 (fun _ h9 => h9) (v := (u6.1 4 5)) rfl dX1_drawFor_42 ?_
      refine z_le F 71 dX1_drawFor_45 (by decide) rfl (fun c10 => ?_) (fun c10 => ?_)
      · exact L71 r6 _ _ _ _ hR hF (by omega) hP hD hS (lv_sub hl [1, 2, 0] rfl)
      · refine lv_aload_n F.1 F.2.1 dX1_drawFor_48 rfl (lv_at hl 1 rfl) ?_
        refine a_getr F inX1 hP 38 1 tc_38 rfl rfl (by decide) q384 (fun _ h9 => h9) dX1_drawFor_49 ?_
        refine lv_iload_n F.1 F.2.1 dX1_drawFor_52 rfl (lv_at hl 2 rfl) ?_
        refine lv_aload_n F.1 F.2.1 dX1_drawFor_53 rfl (lv_at hl 1 rfl) ?_
        refine lv_aload_n F.1 F.2.1 dX1_drawFor_54 rfl (lv_at hl 1 rfl) ?_
        refine a_getr F inX1 hP 38 0 tc_38 rfl rfl (by decide) q383 (fun _ h9 => h9) dX1_drawFor_55 ?_
        refine a_geti F inX2 hP 4 5 tc_4 rfl rfl (by decide) q174 (fun _ h9 => h9) (v := (u6.1 4 5)) (rfl) dX1_drawFor_58 ?_
        refine a_Vi F hml hl.1 hA hP hD hS (As := [.int (u6.1 4 5)]) (c_X1_draw_38 l dC dI ad cA nF _ (u6.1 4 5) hR (by omega)) (cs_RX1_47 (d := 1) F.2.2.1 (by decide)) tc_38 rfl rfl rfl rfl (Nat.le_of_ble_eq_true rfl) dX1_drawFor_61 ⟨Nat.le_refl 0, Nat.le_refl 0⟩ (fun r11 u11 H locs hq hP hD hS => ?_)
        obtain ⟨hR, hF11, gr11⟩ := hq
        have hF := hF.tr hF11 (by decide)
        refine a_Vi F hml hl.1 hA hP hD hS (As := [.int p0, .int r11]) (c_X6_tryDo_24 l dC dI ad cA nF _ p0 r11 hR (by omega)) (cs_RX1_59 (d := 4) F.2.2.1 (by decide)) tc_24 rfl rfl rfl rfl (Nat.le_of_ble_eq_true rfl) dX1_drawFor_64 ⟨Nat.le_refl 0, Nat.le_refl 0⟩ (fun r12 u12 H locs hq hP hD hS => ?_)
        obtain ⟨hR, hF12, gr12⟩ := hq
        have hF := hF.tr hF12 (by decide)
        refine lv_pop F.1 F.2.1 dX1_drawFor_67 rfl ?_
        refine lv_goto (tgt := 106) F.1 F.2.1 dX1_drawFor_68 (by decide) ?_
        exact a_retv F hr hlocks hP hD hS dX1_drawFor_106 ⟨hR, hF⟩
  · refine lv_aload_n F.1 F.2.1 dX1_drawFor_10 rfl (lv_at hl 1 rfl) ?_
    refine a_getr F inX1 hP 38 1 tc_38 rfl rfl (by decide) q384 (fun _ h9 => h9) dX1_drawFor_11 ?_
    refine lv_iload_n F.1 F.2.1 dX1_drawFor_14 rfl (lv_at hl 2 rfl) ?_
    refine lv_aload_n F.1 F.2.1 dX1_drawFor_15 rfl (lv_at hl 1 rfl) ?_
    refine lv_aload_n F.1 F.2.1 dX1_drawFor_16 rfl (lv_at hl 1 rfl) ?_
    refine a_getr F inX1 hP 38 0 tc_38 rfl rfl (by decide) q383 (fun _ h9 => h9) dX1_drawFor_17 ?_
    have g13 : (0 : Int) ≤ (u6.1 4 1).toInt ∧ (u6.1 4 1).toInt ≤ 8 := hR 4 1
    refine a_geti F inX2 hP 4 1 tc_4 rfl rfl (by decide) q159 (fun _ h9 => h9) (v := (u6.1 4 1)) rfl dX1_drawFor_20 ?_
    refine a_Vi F hml hl.1 hA hP hD hS (As := [.int (u6.1 4 1)]) (c_X1_draw_38 l dC dI ad cA nF _ (u6.1 4 1) hR (by omega)) (cs_RX1_47 (d := 1) F.2.2.1 (by decide)) tc_38 rfl rfl rfl rfl (Nat.le_of_ble_eq_true rfl) dX1_drawFor_23 ⟨Nat.le_refl 0, Nat.le_refl 0⟩ (fun r14 u14 H locs hq hP hD hS => ?_)
    obtain ⟨hR, hF14, gr14⟩ := hq
    have hF := hF.tr hF14 (by decide)
    refine a_Vi F hml hl.1 hA hP hD hS (As := [.int p0, .int r14]) (c_X6_tryGo_24 l dC dI ad cA nF _ p0 r14 hR (by omega) (by omega)) (cs_RX1_53 (d := 4) F.2.2.1 (by decide)) tc_24 rfl rfl rfl rfl (Nat.le_of_ble_eq_true rfl) dX1_drawFor_26 ⟨Nat.le_refl 0, Nat.le_refl 0⟩ (fun r15 u15 H locs hq hP hD hS => ?_)
    obtain ⟨hR, hF15, gr15⟩ := hq
    have hF := hF.tr hF15 (by decide)
    refine lv_pop F.1 F.2.1 dX1_drawFor_29 rfl ?_
    refine lv_goto (tgt := 106) F.1 F.2.1 dX1_drawFor_30 (by decide) ?_
    exact a_retv F hr hlocks hP hD hS dX1_drawFor_106 ⟨hR, hF⟩
set_option maxHeartbeats 600000 in
set_option maxRecDepth 100000 in
theorem c_X1_passDrawn_38 (l : Launch) (dC : Nat → ClassId) (dI : Nat → Nat → Nat) (ad : Nat → Nat) (cA : Nat → ClassId) (nF : Nat) (u0 : ac_U) (p0 : Int32) (p1 : Int32) (hR : ac_R rg u0) (hp0 : (1 : Int) ≤ p0.toInt ∧ p0.toInt ≤ 99) : ac_Mi l yX1_passDrawn (.code yX1_passDrawn cX1_passDrawn 6 (some .int) :: TB) 6 (dC, dI) vwCl (ac_ty cA) ad cA (TT nF) [.ref (ad 38), .int p0, .int p1] u0 (fun (r : Int32) (u : ac_U) => ac_R rg u ∧ ac_Fr [(25, none), (26, none), (38, some 2)] u0 u ∧ ((-400 : Int) ≤ r.toInt ∧ r.toInt ≤ 99)) := by
  refine ac_Mi.of (cc := cX1_passDrawn) (maxL := 6) (ret := (some .int)) (by decide) rfl (Nat.le_of_ble_eq_true rfl) ?_
  intro p e s m below meth c A ls F hml hr hlocks hA hP hD hS hl
  have F : ac_X p s m [.ref (ad 38), .int p0, .int p1].toArray c cX1_passDrawn RX1 TB (dC, dI) vwCl (ac_ty cA) := ⟨F.1, F.2.1, fun w h => F.2.2.1 w (List.mem_cons_of_mem _ h), F.2.2.2.1, F.2.2.2.2⟩
  have hl : lv_has ls 6 [(0, .ref (ad 38)), (1, .int p0), (2, .int p1)] := hl
  have hF : ac_Fr [(25, none), (26, none), (38, some 2)] u0 u0 := ac_Fr.rf
  have L20 : ∀ (n20 : Nat) (x3 : Int32) (x4 : Int32) (u : ac_U) (H : Heap) (locs : List Loc) (ls : Array Slot), ac_R rg u → ac_Fr [(25, none), (26, none), (38, some 2)] u0 u → 100 - x4.toInt < (n20 : Int) → (-400 : Int) ≤ x3.toInt ∧ x3.toInt ≤ 99 → (0 : Int) ≤ x4.toInt ∧ x4.toInt ≤ 100 → va_P (dC, dI) vwCl (ac_w ad cA (TT nF) u) H → va_D A (ac_w ad cA (TT nF) u) → va_S A s.heap H locs → lv_has ls 6 [(0, .ref (ad 38)), (3, .int x3), (4, .int x4)] → W p l e (ac_rm 6) s m [.ref (ad 38), .int p0, .int p1].toArray below meth c H locs 0 0 (MQ below (va_Qi (fun (r : Int32) (u : ac_U) => ac_R rg u ∧ ac_Fr [(25, none), (26, none), (38, some 2)] u0 u ∧ ((-400 : Int) ≤ r.toInt ∧ r.toInt ≤ 99)) (ac_B (dC, dI) vwCl (ac_ty cA) ad cA (TT nF) A) A) [.ref (ad 38), .int p0, .int p1].toArray s 0 0 A) (F0 m 20 ls []) := by
    intro n20
    induction n20 with
    | zero => intro x3 x4 u H locs ls hR hF hn20 f0 f1 hP hD hS hl; exfalso; omega
    | succ n20 ih20 =>
      intro x3 x4 u H locs ls hR hF hn20 f0 f1 hP hD hS hl
      have L29 : ∀ (n29 : Nat) (x3 : Int32) (x4 : Int32) (x5 : Int32) (u : ac_U) (H : Heap) (locs : List Loc) (ls : Array Slot), ac_R rg u → ac_Fr [(25, none), (26, none), (38, some 2)] u0 u → 4 - x5.toInt < (n29 : Int) → (1 : Int) ≤ x3.toInt ∧ x3.toInt ≤ 99 → (0 : Int) ≤ x4.toInt ∧ x4.toInt ≤ 99 → (0 : Int) ≤ x5.toInt ∧ x5.toInt ≤ 4 → 100 - x4.toInt + 0 < ((n20 : Nat) : Int) + 1 → va_P (dC, dI) vwCl (ac_w ad cA (TT nF) u) H → va_D A (ac_w ad cA (TT nF) u) → va_S A s.heap H locs → lv_has ls 6 [(0, .ref (ad 38)), (3, .int x3), (4, .int x4), (5, .int x5)] → W p l e (ac_rm 6) s m [.ref (ad 38), .int p0, .int p1].toArray below meth c H locs 0 0 (MQ below (va_Qi (fun (r : Int32) (u : ac_U) => ac_R rg u ∧ ac_Fr [(25, none), (26, none), (38, some 2)] u0 u ∧ ((-400 : Int) ≤ r.toInt ∧ r.toInt ≤ 99)) (ac_B (dC, dI) vwCl (ac_ty cA) ad cA (TT nF) A) A) [.ref (ad 38), .int p0, .int p1].toArray s 0 0 A) (F0 m 29 ls []) := by
        intro n29
        induction n29 with
        | zero => intro x3 x4 x5 u H locs ls hR hF hn29 f0 f1 f2 f3 hP hD hS hl; exfalso; omega
        | succ n29 ih29 =>
          intro x3 x4 x5 u H locs ls hR hF hn29 f0 f1 f2 f3 hP hD hS hl
          refine lv_iload F.1 F.2.1 dX1_passDrawn_29 (lv_at hl 3 rfl) ?_
          refine lv_aload_n F.1 F.2.1 dX1_passDrawn_31 rfl (lv_at hl 0 rfl) ?_
          refine a_getr F inX1 hP 38 0 tc_38 rfl rfl (by decide) q383 (fun _ h9 => h9) dX1_passDrawn_32 ?_
          have g1 : (0 : Int) ≤ (u.1 4 4).toInt ∧ (u.1 4 4).toInt ≤ 4 := hR 4 4
          refine a_geti F inX2 hP 4 4 tc_4 rfl rfl (by decide) q170 (fun _ h9 => h9) (v := (u.1 4 4)) rfl dX1_passDrawn_35 ?_
          refine b_ge F 53 dX1_passDrawn_38 (by decide) rfl rfl (fun c2 => ?_) (fun c2 => ?_)
          · refine lv_aload_n F.1 F.2.1 dX1_passDrawn_53 rfl (lv_at hl 0 rfl) ?_
            refine a_getr F inX1 hP 38 1 tc_38 rfl rfl (by decide) q384 (fun _ h9 => h9) dX1_passDrawn_54 ?_
            refine a_ic F (1 : Int32) dX1_passDrawn_57 (by decide) ?_
            refine a_Vi F hml hl.1 hA hP hD hS (As := [.int (1 : Int32)]) (c_X6_passHours_24 l dC dI ad cA nF _ (1 : Int32) hR (by decide)) (cs_RX1_43 (d := 2) F.2.2.1 (by decide)) tc_24 rfl rfl rfl rfl (Nat.le_of_ble_eq_true rfl) dX1_passDrawn_58 ⟨Nat.le_refl 0, Nat.le_refl 0⟩ (fun r3 u3 H locs hq hP hD hS => ?_)
            obtain ⟨hR, hF3, gr3⟩ := hq
            have hF := hF.tr hF3 (by decide)
            refine lv_pop F.1 F.2.1 dX1_passDrawn_61 rfl ?_
            refine a_iinc F (k := 2) (fun v4 => [(4, .int v4), (0, .ref (ad 38)), (3, .int x3), (5, .int x5)]) dX1_passDrawn_62 hl rfl rfl (by decide) (by omega) (by decide) (fun _ => rfl) (fun v4 ls hv4 hl => ?_)
            refine lv_goto (tgt := 20) F.1 F.2.1 dX1_passDrawn_65 (by decide) ?_
            exact ih20 x3 v4 _ _ _ _ hR hF (by omega) (by omega) (by omega) hP hD hS (lv_sub hl [1, 2, 0] rfl)
          · refine lv_aload_n F.1 F.2.1 dX1_passDrawn_41 rfl (lv_at hl 0 rfl) ?_
            refine lv_iload F.1 F.2.1 dX1_passDrawn_42 (lv_at hl 3 rfl) ?_
            refine a_Vv F hml hl.1 hA hP hD hS (As := [.int x5]) (c_X1_drawFor_38 l dC dI ad cA nF _ x5 hR (by omega)) (cs_RX1_39 (d := 5) F.2.2.1 (by decide)) tc_38 rfl rfl rfl rfl (Nat.le_of_ble_eq_true rfl) dX1_passDrawn_44 ⟨Nat.le_refl 0, Nat.le_refl 0⟩ (fun u5 H locs hq hP hD hS => ?_)
            obtain ⟨hR, hF5⟩ := hq
            have hF := hF.tr hF5 (by decide)
            refine a_iinc F (k := 3) (fun v6 => [(5, .int v6), (0, .ref (ad 38)), (3, .int x3), (4, .int x4)]) dX1_passDrawn_47 hl rfl rfl (by decide) (by omega) (by decide) (fun _ => rfl) (fun v6 ls hv6 hl => ?_)
            refine lv_goto (tgt := 29) F.1 F.2.1 dX1_passDrawn_50 (by decide) ?_
            exact ih29 x3 x4 v6 _ _ _ _ hR hF (by omega) (by omega) (by omega) (by omega) (by omega) hP hD hS (lv_sub hl [1, 2, 3, 0] rfl)
      refine lv_iload F.1 F.2.1 dX1_passDrawn_20 (lv_at hl 2 rfl) ?_
      refine lv_iload_n F.1 F.2.1 dX1_passDrawn_22 rfl (lv_at hl 1 rfl) ?_
      refine b_ge F 68 dX1_passDrawn_23 (by decide) rfl rfl (fun c7 => ?_) (fun c7 => ?_)
      · refine lv_iload_n F.1 F.2.1 dX1_passDrawn_68 rfl (lv_at hl 1 rfl) ?_
        exact a_reti F hr hlocks hP hD hS dX1_passDrawn_69 ⟨hR, hF, (by omega : (-400 : Int) ≤ x3.toInt ∧ x3.toInt ≤ 99)⟩
      · refine a_ic F (0 : Int32) dX1_passDrawn_26 (by decide) ?_
        refine lv_istore (lv' := [(5, .int (0 : Int32)), (0, .ref (ad 38)), (3, .int x3), (4, .int x4)]) F.1 F.2.1 dX1_passDrawn_27 hl (by decide) rfl (fun ls hl => ?_)
        exact L29 6 x3 x4 (0 : Int32) _ _ _ _ hR hF (by decide) (by omega) (by omega) (by decide) (by omega) hP hD hS (lv_sub hl [1, 2, 3, 0] rfl)
  refine lv_aload_n F.1 F.2.1 dX1_passDrawn_0 rfl (lv_at hl 0 rfl) ?_
  refine lv_iload_n F.1 F.2.1 dX1_passDrawn_1 rfl (lv_at hl 2 rfl) ?_
  refine a_puti F inX1 tyX1 tyX1_ok nmX1 hP hD hS 38 2 tc_38 rfl rfl (by decide) q385 (fun _ h9 => h9) rfl (ty := .int) (tyX1_ok 2 (by decide)) rfl rfl dX1_passDrawn_2 (fun H locs hP hD hS => ?_)
  have hR := hR.si (c := 38) (k := 2) (v := p1) ⟨i_lo _, i_hi _⟩
  have hF := hF.si (c := 38) (k := 2) (v := p1) rfl
  refine lv_iload_n F.1 F.2.1 dX1_passDrawn_5 rfl (lv_at hl 1 rfl) ?_
  refine lv_aload_n F.1 F.2.1 dX1_passDrawn_6 rfl (lv_at hl 0 rfl) ?_
  refine a_getr F inX1 hP 38 1 tc_38 rfl rfl (by decide) q384 (fun _ h9 => h9) dX1_passDrawn_7 ?_
  refine a_Vi F hml hl.1 hA hP hD hS (As := []) (c_X6_hoursLeft_24 l dC dI ad cA nF _  hR) (cs_RX1_22 (d := 1) F.2.2.1 (by decide)) tc_24 rfl rfl rfl rfl (Nat.le_of_ble_eq_true rfl) dX1_passDrawn_10 ⟨Nat.le_refl 0, Nat.le_refl 0⟩ (fun r8 uN8 H locs hq hP hD hS => ?_)
  obtain ⟨hu8, gr8, xr8⟩ := hq
  rw [hu8] at hP hD
  have g9 : (4 : Int) ≤ (u0.1 4 0).toInt ∧ (u0.1 4 0).toInt ≤ 24 := hR 4 0
  have g10 : (0 : Int) ≤ (u0.1 25 0).toInt ∧ (u0.1 25 0).toInt ≤ 480 := hR 25 0
  have xr8 : r8.toInt = 20 * (u0.1 4 0).toInt - (u0.1 25 0).toInt := xr8
  refine va_mmin F.1 F.2.1 (hml.trans hl.1.symm) F.2.2.2.1 (F.2.2.1 _ q1177) (F.2.2.1 _ q825) (F.2.2.1 _ q24) (F.2.2.1 _ q826) (by decide) (Nat.le_of_ble_eq_true rfl) (Nat.le_refl 0) (Nat.le_refl 0) dX1_passDrawn_13 ?_
  refine lv_topi (fun v11 ev11 => ?_)
  have hv11 := i_min rfl rfl ev11
  refine lv_istore_n (lv' := [(3, .int v11), (0, .ref (ad 38)), (1, .int p0), (2, .int p1)]) F.1 F.2.1 dX1_passDrawn_16 rfl hl (by decide) rfl (fun ls hl => ?_)
  refine a_ic F (0 : Int32) dX1_passDrawn_17 (by decide) ?_
  refine lv_istore (lv' := [(4, .int (0 : Int32)), (3, .int v11), (0, .ref (ad 38)), (1, .int p0), (2, .int p1)]) F.1 F.2.1 dX1_passDrawn_18 hl (by decide) rfl (fun ls hl => ?_)
  exact L20 102 v11 (0 : Int32) _ _ _ _ hR hF (by decide) (by omega) (by decide) hP hD hS (lv_sub hl [2, 1, 0] rfl)
set_option maxHeartbeats 600000 in
set_option maxRecDepth 100000 in
theorem c_X2_brokenWith_4 (l : Launch) (dC : Nat → ClassId) (dI : Nat → Nat → Nat) (ad : Nat → Nat) (cA : Nat → ClassId) (nF : Nat) (u0 : ac_U) (p0 : Int32) (hR : ac_R rg u0) (hp0 : (0 : Int) ≤ p0.toInt ∧ p0.toInt ≤ 255) : ac_Mi l yX2_brokenWith (.code yX2_brokenWith cX2_brokenWith 6 (some .int) :: TB) 1 (dC, dI) vwCl (ac_ty cA) ad cA (TT nF) [.ref (ad 4), .int p0] u0 (fun (r : Int32) (u : ac_U) => u = u0) := by
  refine ac_Mi.of (cc := cX2_brokenWith) (maxL := 6) (ret := (some .int)) (by decide) rfl (Nat.le_of_ble_eq_true rfl) ?_
  intro p e s m below meth c A ls F hml hr hlocks hA hP hD hS hl
  have F : ac_X p s m [.ref (ad 4), .int p0].toArray c cX2_brokenWith RX2 TB (dC, dI) vwCl (ac_ty cA) := ⟨F.1, F.2.1, fun w h => F.2.2.1 w (List.mem_cons_of_mem _ h), F.2.2.2.1, F.2.2.2.2⟩
  have hl : lv_has ls 6 [(0, .ref (ad 4)), (1, .int p0)] := hl
  have L4 : ∀ (n4 : Nat) (x2 : Int32) (x3 : Int32) (H : Heap) (locs : List Loc) (ls : Array Slot), 8 - x3.toInt < (n4 : Int) → (0 : Int) ≤ x3.toInt ∧ x3.toInt ≤ 8 → va_P (dC, dI) vwCl (ac_w ad cA (TT nF) u0) H → va_D A (ac_w ad cA (TT nF) u0) → va_S A s.heap H locs → lv_has ls 6 [(0, .ref (ad 4)), (1, .int p0), (2, .int x2), (3, .int x3)] → W p l e (ac_rm 1) s m [.ref (ad 4), .int p0].toArray below meth c H locs 0 0 (MQ below (va_Qi (fun (r : Int32) (u : ac_U) => u = u0) (ac_B (dC, dI) vwCl (ac_ty cA) ad cA (TT nF) A) A) [.ref (ad 4), .int p0].toArray s 0 0 A) (F0 m 4 ls []) := by
    intro n4
    induction n4 with
    | zero => intro x2 x3 H locs ls hn4 f0 hP hD hS hl; exfalso; omega
    | succ n4 ih4 =>
      intro x2 x3 H locs ls hn4 f0 hP hD hS hl
      have L18 : ∀ (n18 : Nat) (x2 : Int32) (x3 : Int32) (x4 : Int32) (x5 : Int32) (H : Heap) (locs : List Loc) (ls : Array Slot), 8 - x5.toInt < (n18 : Int) → (0 : Int) ≤ x3.toInt ∧ x3.toInt ≤ 7 → (0 : Int) ≤ x5.toInt ∧ x5.toInt ≤ 8 → 8 - x3.toInt + 0 < ((n4 : Nat) : Int) + 1 → va_P (dC, dI) vwCl (ac_w ad cA (TT nF) u0) H → va_D A (ac_w ad cA (TT nF) u0) → va_S A s.heap H locs → lv_has ls 6 [(0, .ref (ad 4)), (1, .int p0), (2, .int x2), (3, .int x3), (4, .int x4), (5, .int x5)] → W p l e (ac_rm 1) s m [.ref (ad 4), .int p0].toArray below meth c H locs 0 0 (MQ below (va_Qi (fun (r : Int32) (u : ac_U) => u = u0) (ac_B (dC, dI) vwCl (ac_ty cA) ad cA (TT nF) A) A) [.ref (ad 4), .int p0].toArray s 0 0 A) (F0 m 18 ls []) := by
        intro n18
        induction n18 with
        | zero => intro x2 x3 x4 x5 H locs ls hn18 f0 f1 f2 hP hD hS hl; exfalso; omega
        | succ n18 ih18 =>
          intro x2 x3 x4 x5 H locs ls hn18 f0 f1 f2 hP hD hS hl
          have L48 : ∀ (x2 : Int32) (x3 : Int32) (x4 : Int32) (x5 : Int32) (H : Heap) (locs : List Loc) (ls : Array Slot), (0 : Int) ≤ x3.toInt ∧ x3.toInt ≤ 7 → (0 : Int) ≤ x5.toInt ∧ x5.toInt ≤ 7 → (1 : Int) ≤ (u0.1 4 6).toInt ∧ (u0.1 4 6).toInt ≤ 8 → 8 - x3.toInt + 0 < ((n4 : Nat) : Int) + 1 → 8 - x5.toInt + 0 < ((n18 : Nat) : Int) + 1 → va_P (dC, dI) vwCl (ac_w ad cA (TT nF) u0) H → va_D A (ac_w ad cA (TT nF) u0) → va_S A s.heap H locs → lv_has ls 6 [(0, .ref (ad 4)), (1, .int p0), (2, .int x2), (3, .int x3), (4, .int x4), (5, .int x5)] → W p l e (ac_rm 1) s m [.ref (ad 4), .int p0].toArray below meth c H locs 0 0 (MQ below (va_Qi (fun (r : Int32) (u : ac_U) => u = u0) (ac_B (dC, dI) vwCl (ac_ty cA) ad cA (TT nF) A) A) [.ref (ad 4), .int p0].toArray s 0 0 A) (F0 m 48 ls []) := by
            intro x2 x3 x4 x5 H locs ls f0 f1 f2 f3 f4 hP hD hS hl
            refine a_iinc F (k := 5) (fun v1 => [(5, .int v1), (0, .ref (ad 4)), (1, .int p0), (2, .int x2), (3, .int x3), (4, .int x4)]) dX2_brokenWith_48 hl rfl rfl (by decide) (by omega) (by decide) (fun _ => rfl) (fun v1 ls hv1 hl => ?_)
            refine lv_goto (tgt := 18) F.1 F.2.1 dX2_brokenWith_51 (by decide) ?_
            exact ih18 x2 x3 x4 v1 _ _ _ (by omega) (by omega) (by omega) (by omega) hP hD hS (lv_sub hl [1, 2, 3, 4, 5, 0] rfl)
          refine lv_iload F.1 F.2.1 dX2_brokenWith_18 (lv_at hl 5 rfl) ?_
          refine lv_aload_n F.1 F.2.1 dX2_brokenWith_20 rfl (lv_at hl 0 rfl) ?_
          have g2 : (0 : Int) ≤ (u0.1 4 6).toInt ∧ (u0.1 4 6).toInt ≤ 8 := hR 4 6
          refine a_geti F inX2 hP 4 6 tc_4 rfl rfl (by decide) q178 (fun _ h9 => h9) (v := (u0.1 4 6)) rfl dX2_brokenWith_21 ?_
          refine b_ge F 54 dX2_brokenWith_24 (by decide) rfl rfl (fun c3 => ?_) (fun c3 => ?_)
          · refine a_iinc F (k := 3) (fun v4 => [(3, .int v4), (0, .ref (ad 4)), (1, .int p0), (2, .int x2), (4, .int x4), (5, .int x5)]) dX2_brokenWith_54 hl rfl rfl (by decide) (by omega) (by decide) (fun _ => rfl) (fun v4 ls hv4 hl => ?_)
            refine lv_goto (tgt := 4) F.1 F.2.1 dX2_brokenWith_57 (by decide) ?_
            exact ih4 x2 v4 _ _ _ (by omega) (by omega) hP hD hS (lv_sub hl [1, 2, 3, 0] rfl)
          · refine lv_iload F.1 F.2.1 dX2_brokenWith_27 (lv_at hl 4 rfl) ?_
            refine lv_iload F.1 F.2.1 dX2_brokenWith_29 (lv_at hl 5 rfl) ?_
            refine a_ishrU F dX2_brokenWith_31 (fun v5 => ?_)
            refine a_ic F (1 : Int32) dX2_brokenWith_32 (by decide) ?_
            refine a_iandM F dX2_brokenWith_33 ic_1 (by omega) (fun v6 hv6 => ?_)
            refine a_ic F (1 : Int32) dX2_brokenWith_34 (by decide) ?_
            refine b_ne F 48 dX2_brokenWith_35 (by decide) rfl ic_1 (fun c7 => ?_) (fun c7 => ?_)
            · exact L48 x2 x3 x4 x5 _ _ _ (by omega) (by omega) (by omega : (1 : Int) ≤ (u0.1 4 6).toInt ∧ (u0.1 4 6).toInt ≤ 8) (by omega) (by omega) hP hD hS (lv_sub hl [0, 1, 2, 3, 4, 5] rfl)
            · refine lv_iload_n F.1 F.2.1 dX2_brokenWith_38 rfl (lv_at hl 2 rfl) ?_
              refine lv_aload_n F.1 F.2.1 dX2_brokenWith_39 rfl (lv_at hl 0 rfl) ?_
              refine a_getr F inX2 hP 4 13 tc_4 rfl rfl (by decide) q196 (fun _ h9 => h9) dX2_brokenWith_40 ?_
              refine lv_iload F.1 F.2.1 dX2_brokenWith_43 (lv_at hl 5 rfl) ?_
              refine a_iald F hP 9 tc_9 rfl (i_in rfl (by omega)) dX2_brokenWith_45 (fun v8 ev8 => ?_)
              refine a_iorU F dX2_brokenWith_46 (fun v9 => ?_)
              refine lv_istore_n (lv' := [(2, .int v9), (0, .ref (ad 4)), (1, .int p0), (3, .int x3), (4, .int x4), (5, .int x5)]) F.1 F.2.1 dX2_brokenWith_47 rfl hl (by decide) rfl (fun ls hl => ?_)
              exact L48 v9 x3 x4 x5 _ _ _ (by omega) (by omega) (by omega : (1 : Int) ≤ (u0.1 4 6).toInt ∧ (u0.1 4 6).toInt ≤ 8) (by omega) (by omega) hP hD hS (lv_sub hl [1, 2, 0, 3, 4, 5] rfl)
      refine lv_iload_n F.1 F.2.1 dX2_brokenWith_4 rfl (lv_at hl 3 rfl) ?_
      refine a_bp F (8 : Int32) dX2_brokenWith_5 (by decide) ?_
      refine b_ge F 60 dX2_brokenWith_7 (by decide) rfl ic_8 (fun c10 => ?_) (fun c10 => ?_)
      · refine lv_iload_n F.1 F.2.1 dX2_brokenWith_60 rfl (lv_at hl 2 rfl) ?_
        exact a_reti F hr hlocks hP hD hS dX2_brokenWith_61 rfl
      · refine lv_iload_n F.1 F.2.1 dX2_brokenWith_10 rfl (lv_at hl 1 rfl) ?_
        refine lv_iload_n F.1 F.2.1 dX2_brokenWith_11 rfl (lv_at hl 2 rfl) ?_
        refine a_iorU F dX2_brokenWith_12 (fun v11 => ?_)
        refine lv_istore (lv' := [(4, .int v11), (0, .ref (ad 4)), (1, .int p0), (2, .int x2), (3, .int x3)]) F.1 F.2.1 dX2_brokenWith_13 hl (by decide) rfl (fun ls hl => ?_)
        refine a_ic F (0 : Int32) dX2_brokenWith_15 (by decide) ?_
        refine lv_istore (lv' := [(5, .int (0 : Int32)), (4, .int v11), (0, .ref (ad 4)), (1, .int p0), (2, .int x2), (3, .int x3)]) F.1 F.2.1 dX2_brokenWith_16 hl (by decide) rfl (fun ls hl => ?_)
        exact L18 10 x2 x3 v11 (0 : Int32) _ _ _ (by decide) (by omega) (by decide) (by omega) hP hD hS (lv_sub hl [2, 3, 4, 5, 1, 0] rfl)
  refine a_ic F (0 : Int32) dX2_brokenWith_0 (by decide) ?_
  refine lv_istore_n (lv' := [(2, .int (0 : Int32)), (0, .ref (ad 4)), (1, .int p0)]) F.1 F.2.1 dX2_brokenWith_1 rfl hl (by decide) rfl (fun ls hl => ?_)
  refine a_ic F (0 : Int32) dX2_brokenWith_2 (by decide) ?_
  refine lv_istore_n (lv' := [(3, .int (0 : Int32)), (2, .int (0 : Int32)), (0, .ref (ad 4)), (1, .int p0)]) F.1 F.2.1 dX2_brokenWith_3 rfl hl (by decide) rfl (fun ls hl => ?_)
  exact L4 10 (0 : Int32) (0 : Int32) _ _ _ (by decide) (by decide) hP hD hS (lv_sub hl [2, 3, 1, 0] rfl)
set_option maxHeartbeats 600000 in
set_option maxRecDepth 100000 in
theorem c_X2_chainOf_4 (l : Launch) (dC : Nat → ClassId) (dI : Nat → Nat → Nat) (ad : Nat → Nat) (cA : Nat → ClassId) (nF : Nat) (u0 : ac_U) (p0 : Int32) (hR : ac_R rg u0) (hp0 : (0 : Int) ≤ p0.toInt ∧ p0.toInt ≤ 7) : ac_Mi l yX2_chainOf (.code yX2_chainOf cX2_chainOf 2 (some .int) :: TB) 2 (dC, dI) vwCl (ac_ty cA) ad cA (TT nF) [.ref (ad 4), .int p0] u0 (fun (r : Int32) (u : ac_U) => u = u0) := by
  refine ac_Mi.of (cc := cX2_chainOf) (maxL := 2) (ret := (some .int)) (by decide) rfl (Nat.le_of_ble_eq_true rfl) ?_
  intro p e s m below meth c A ls F hml hr hlocks hA hP hD hS hl
  have F : ac_X p s m [.ref (ad 4), .int p0].toArray c cX2_chainOf RX2 TB (dC, dI) vwCl (ac_ty cA) := ⟨F.1, F.2.1, fun w h => F.2.2.1 w (List.mem_cons_of_mem _ h), F.2.2.2.1, F.2.2.2.2⟩
  have hl : lv_has ls 2 [(0, .ref (ad 4)), (1, .int p0)] := hl
  refine a_ic F (1 : Int32) dX2_chainOf_0 (by decide) ?_
  refine lv_iload_n F.1 F.2.1 dX2_chainOf_1 rfl (lv_at hl 1 rfl) ?_
  refine a_ishl1 F dX2_chainOf_2 rfl (lo := 0) (hi := 7) (by omega) (by decide) (fun v1 hv1 => ?_)
  have hv1 : (1 : Int) ≤ v1.toInt ∧ v1.toInt ≤ 128 := hv1
  refine lv_aload_n F.1 F.2.1 dX2_chainOf_3 rfl (lv_at hl 0 rfl) ?_
  refine a_ic F (1 : Int32) dX2_chainOf_4 (by decide) ?_
  refine lv_iload_n F.1 F.2.1 dX2_chainOf_5 rfl (lv_at hl 1 rfl) ?_
  refine a_ishl1 F dX2_chainOf_6 rfl (lo := 0) (hi := 7) (by omega) (by decide) (fun v2 hv2 => ?_)
  have hv2 : (1 : Int) ≤ v2.toInt ∧ v2.toInt ≤ 128 := hv2
  refine a_Vi F hml hl.1 hA hP hD hS (As := [.int v2]) (c_X2_brokenWith_4 l dC dI ad cA nF _ v2 hR (by omega)) (cs_RX2_89 (d := 1) F.2.2.1 (by decide)) tc_4 rfl rfl rfl rfl (Nat.le_of_ble_eq_true rfl) dX2_chainOf_7 ⟨Nat.le_refl 0, Nat.le_refl 0⟩ (fun r3 uN3 H locs hq hP hD hS => ?_)
  have hu3 := hq
  rw [hu3] at hP hD
  refine a_iorU F dX2_chainOf_10 (fun v4 => ?_)
  exact a_reti F hr hlocks hP hD hS dX2_chainOf_11 rfl
set_option maxHeartbeats 600000 in
set_option maxRecDepth 100000 in
theorem c_X2_dayOf_4 (l : Launch) (dC : Nat → ClassId) (dI : Nat → Nat → Nat) (ad : Nat → Nat) (cA : Nat → ClassId) (nF : Nat) (u0 : ac_U) (p0 : Int32) (hR : ac_R rg u0) (hp0 : (-1 : Int) ≤ p0.toInt ∧ p0.toInt ≤ 480) : ac_Mi l yX2_dayOf (.code yX2_dayOf cX2_dayOf 2 (some .int) :: TB) 1 (dC, dI) vwCl (ac_ty cA) ad cA (TT nF) [.ref (ad 4), .int p0] u0 (fun (r : Int32) (u : ac_U) => u = u0 ∧ ((0 : Int) ≤ r.toInt ∧ r.toInt ≤ 120) ∧ (0 ≤ p0.toInt → p0.toInt < 20 * (u0.1 4 0).toInt → r.toInt < 20)) := by
  refine ac_Mi.of (cc := cX2_dayOf) (maxL := 2) (ret := (some .int)) (by decide) rfl (Nat.le_of_ble_eq_true rfl) ?_
  intro p e s m below meth c A ls F hml hr hlocks hA hP hD hS hl
  have F : ac_X p s m [.ref (ad 4), .int p0].toArray c cX2_dayOf RX2 TB (dC, dI) vwCl (ac_ty cA) := ⟨F.1, F.2.1, fun w h => F.2.2.1 w (List.mem_cons_of_mem _ h), F.2.2.2.1, F.2.2.2.2⟩
  have hl : lv_has ls 2 [(0, .ref (ad 4)), (1, .int p0)] := hl
  refine lv_aload_n F.1 F.2.1 dX2_dayOf_0 rfl (lv_at hl 0 rfl) ?_
  have g1 : (4 : Int) ≤ (u0.1 4 0).toInt ∧ (u0.1 4 0).toInt ≤ 24 := hR 4 0
  refine a_geti F inX2 hP 4 0 tc_4 rfl rfl (by decide) q151 (fun _ h9 => h9) (v := (u0.1 4 0)) rfl dX2_dayOf_1 ?_
  refine z_le F 16 dX2_dayOf_4 (by decide) rfl (fun c2 => ?_) (fun c2 => ?_)
  · exfalso; omega
  · refine lv_iload_n F.1 F.2.1 dX2_dayOf_7 rfl (lv_at hl 1 rfl) ?_
    refine lv_aload_n F.1 F.2.1 dX2_dayOf_8 rfl (lv_at hl 0 rfl) ?_
    refine a_geti F inX2 hP 4 0 tc_4 rfl rfl (by decide) q151 (fun _ h9 => h9) (v := (u0.1 4 0)) (rfl) dX2_dayOf_9 ?_
    refine a_idiv2 F (kk := 4) dX2_dayOf_12 rfl rfl (by omega) (fun v3 ev3 hv3 => ?_)
    have hd : 0 ≤ p0.toInt → p0.toInt < 20 * (u0.1 4 0).toInt → v3.toInt < 20 := fun h0 h1 => by rw [(hv3.1 h0).2.2.2]; exact Int.ediv_lt_of_lt_mul (by omega) h1
    refine lv_goto (tgt := 17) F.1 F.2.1 dX2_dayOf_13 (by decide) ?_
    exact a_reti F hr hlocks hP hD hS dX2_dayOf_17 ⟨rfl, (by omega : (0 : Int) ≤ v3.toInt ∧ v3.toInt ≤ 120), (by omega : 0 ≤ p0.toInt → p0.toInt < 20 * (u0.1 4 0).toInt → v3.toInt < 20)⟩
set_option maxHeartbeats 600000 in
set_option maxRecDepth 100000 in
theorem c_X2_frogPlaces_4 (l : Launch) (dC : Nat → ClassId) (dI : Nat → Nat → Nat) (ad : Nat → Nat) (cA : Nat → ClassId) (nF : Nat) (u0 : ac_U)  (hR : ac_R rg u0) : ac_Mi l yX2_frogPlaces (.code yX2_frogPlaces cX2_frogPlaces 3 (some .int) :: TB) 1 (dC, dI) vwCl (ac_ty cA) ad cA (TT nF) [.ref (ad 4)] u0 (fun (r : Int32) (u : ac_U) => u = u0 ∧ ((0 : Int) ≤ r.toInt ∧ r.toInt ≤ 255)) := by
  refine ac_Mi.of (cc := cX2_frogPlaces) (maxL := 3) (ret := (some .int)) (by decide) rfl (Nat.le_of_ble_eq_true rfl) ?_
  intro p e s m below meth c A ls F hml hr hlocks hA hP hD hS hl
  have F : ac_X p s m [.ref (ad 4)].toArray c cX2_frogPlaces RX2 TB (dC, dI) vwCl (ac_ty cA) := ⟨F.1, F.2.1, fun w h => F.2.2.1 w (List.mem_cons_of_mem _ h), F.2.2.2.1, F.2.2.2.2⟩
  have hl : lv_has ls 3 [(0, .ref (ad 4))] := hl
  have L4 : ∀ (n4 : Nat) (x1 : Int32) (x2 : Int32) (H : Heap) (locs : List Loc) (ls : Array Slot), 6 - x2.toInt < (n4 : Int) → (0 : Int) ≤ x1.toInt ∧ x1.toInt ≤ 255 → (0 : Int) ≤ x2.toInt ∧ x2.toInt ≤ 6 → va_P (dC, dI) vwCl (ac_w ad cA (TT nF) u0) H → va_D A (ac_w ad cA (TT nF) u0) → va_S A s.heap H locs → lv_has ls 3 [(0, .ref (ad 4)), (1, .int x1), (2, .int x2)] → W p l e (ac_rm 1) s m [.ref (ad 4)].toArray below meth c H locs 0 0 (MQ below (va_Qi (fun (r : Int32) (u : ac_U) => u = u0 ∧ ((0 : Int) ≤ r.toInt ∧ r.toInt ≤ 255)) (ac_B (dC, dI) vwCl (ac_ty cA) ad cA (TT nF) A) A) [.ref (ad 4)].toArray s 0 0 A) (F0 m 4 ls []) := by
    intro n4
    induction n4 with
    | zero => intro x1 x2 H locs ls hn4 f0 f1 hP hD hS hl; exfalso; omega
    | succ n4 ih4 =>
      intro x1 x2 H locs ls hn4 f0 f1 hP hD hS hl
      refine lv_iload_n F.1 F.2.1 dX2_frogPlaces_4 rfl (lv_at hl 2 rfl) ?_
      refine lv_aload_n F.1 F.2.1 dX2_frogPlaces_5 rfl (lv_at hl 0 rfl) ?_
      have g1 : (0 : Int) ≤ (u0.1 4 3).toInt ∧ (u0.1 4 3).toInt ≤ 6 := hR 4 3
      refine a_geti F inX2 hP 4 3 tc_4 rfl rfl (by decide) q165 (fun _ h9 => h9) (v := (u0.1 4 3)) rfl dX2_frogPlaces_6 ?_
      refine b_ge F 29 dX2_frogPlaces_9 (by decide) rfl rfl (fun c2 => ?_) (fun c2 => ?_)
      · refine lv_iload_n F.1 F.2.1 dX2_frogPlaces_29 rfl (lv_at hl 1 rfl) ?_
        exact a_reti F hr hlocks hP hD hS dX2_frogPlaces_30 ⟨rfl, (by omega : (0 : Int) ≤ x1.toInt ∧ x1.toInt ≤ 255)⟩
      · refine lv_iload_n F.1 F.2.1 dX2_frogPlaces_12 rfl (lv_at hl 1 rfl) ?_
        refine a_ic F (1 : Int32) dX2_frogPlaces_13 (by decide) ?_
        refine lv_aload_n F.1 F.2.1 dX2_frogPlaces_14 rfl (lv_at hl 0 rfl) ?_
        refine a_getr F inX2 hP 4 10 tc_4 rfl rfl (by decide) q190 (fun _ h9 => h9) dX2_frogPlaces_15 ?_
        refine lv_iload_n F.1 F.2.1 dX2_frogPlaces_18 rfl (lv_at hl 2 rfl) ?_
        refine a_iald F hP 6 tc_6 rfl (i_in rfl (by omega)) dX2_frogPlaces_19 (fun v3 ev3 => ?_)
        have hv3 : (0 : Int) ≤ v3.toInt ∧ v3.toInt ≤ 7 := ev3 ▸ hR 6 _
        refine a_ishl1 F dX2_frogPlaces_20 rfl (lo := 0) (hi := 7) (by omega) (by decide) (fun v4 hv4 => ?_)
        have hv4 : (1 : Int) ≤ v4.toInt ∧ v4.toInt ≤ 128 := hv4
        refine a_iorB F dX2_frogPlaces_21 rfl rfl (n := 8) (m' := 256) rfl (by decide) (by omega) (by omega) (fun v5 hv5 => ?_)
        refine lv_istore_n (lv' := [(1, .int v5), (0, .ref (ad 4)), (2, .int x2)]) F.1 F.2.1 dX2_frogPlaces_22 rfl hl (by decide) rfl (fun ls hl => ?_)
        refine a_iinc F (k := 2) (fun v6 => [(2, .int v6), (1, .int v5), (0, .ref (ad 4))]) dX2_frogPlaces_23 hl rfl rfl (by decide) (by omega) (by decide) (fun _ => rfl) (fun v6 ls hv6 hl => ?_)
        refine lv_goto (tgt := 4) F.1 F.2.1 dX2_frogPlaces_26 (by decide) ?_
        exact ih4 v5 v6 _ _ _ (by omega) (by omega) (by omega) hP hD hS (lv_sub hl [2, 1, 0] rfl)
  refine a_ic F (0 : Int32) dX2_frogPlaces_0 (by decide) ?_
  refine lv_istore_n (lv' := [(1, .int (0 : Int32)), (0, .ref (ad 4))]) F.1 F.2.1 dX2_frogPlaces_1 rfl hl (by decide) rfl (fun ls hl => ?_)
  refine a_ic F (0 : Int32) dX2_frogPlaces_2 (by decide) ?_
  refine lv_istore_n (lv' := [(2, .int (0 : Int32)), (1, .int (0 : Int32)), (0, .ref (ad 4))]) F.1 F.2.1 dX2_frogPlaces_3 rfl hl (by decide) rfl (fun ls hl => ?_)
  exact L4 8 (0 : Int32) (0 : Int32) _ _ _ (by decide) (by decide) (by decide) hP hD hS (lv_sub hl [2, 1, 0] rfl)
set_option maxHeartbeats 600000 in
set_option maxRecDepth 100000 in
theorem c_X2_hourOf_4 (l : Launch) (dC : Nat → ClassId) (dI : Nat → Nat → Nat) (ad : Nat → Nat) (cA : Nat → ClassId) (nF : Nat) (u0 : ac_U) (p0 : Int32) (hR : ac_R rg u0) (hp0 : (-1 : Int) ≤ p0.toInt ∧ p0.toInt ≤ 480) : ac_Mi l yX2_hourOf (.code yX2_hourOf cX2_hourOf 2 (some .int) :: TB) 1 (dC, dI) vwCl (ac_ty cA) ad cA (TT nF) [.ref (ad 4), .int p0] u0 (fun (r : Int32) (u : ac_U) => u = u0 ∧ ((-23 : Int) ≤ r.toInt ∧ r.toInt ≤ 23) ∧ (0 ≤ p0.toInt → 0 ≤ r.toInt)) := by
  refine ac_Mi.of (cc := cX2_hourOf) (maxL := 2) (ret := (some .int)) (by decide) rfl (Nat.le_of_ble_eq_true rfl) ?_
  intro p e s m below meth c A ls F hml hr hlocks hA hP hD hS hl
  have F : ac_X p s m [.ref (ad 4), .int p0].toArray c cX2_hourOf RX2 TB (dC, dI) vwCl (ac_ty cA) := ⟨F.1, F.2.1, fun w h => F.2.2.1 w (List.mem_cons_of_mem _ h), F.2.2.2.1, F.2.2.2.2⟩
  have hl : lv_has ls 2 [(0, .ref (ad 4)), (1, .int p0)] := hl
  refine lv_aload_n F.1 F.2.1 dX2_hourOf_0 rfl (lv_at hl 0 rfl) ?_
  have g1 : (4 : Int) ≤ (u0.1 4 0).toInt ∧ (u0.1 4 0).toInt ≤ 24 := hR 4 0
  refine a_geti F inX2 hP 4 0 tc_4 rfl rfl (by decide) q151 (fun _ h9 => h9) (v := (u0.1 4 0)) rfl dX2_hourOf_1 ?_
  refine z_le F 16 dX2_hourOf_4 (by decide) rfl (fun c2 => ?_) (fun c2 => ?_)
  · exfalso; omega
  · refine lv_iload_n F.1 F.2.1 dX2_hourOf_7 rfl (lv_at hl 1 rfl) ?_
    refine lv_aload_n F.1 F.2.1 dX2_hourOf_8 rfl (lv_at hl 0 rfl) ?_
    refine a_geti F inX2 hP 4 0 tc_4 rfl rfl (by decide) q151 (fun _ h9 => h9) (v := (u0.1 4 0)) (rfl) dX2_hourOf_9 ?_
    refine a_irem F dX2_hourOf_12 rfl rfl (by omega) (fun v3 hv3 => ?_)
    refine lv_goto (tgt := 17) F.1 F.2.1 dX2_hourOf_13 (by decide) ?_
    exact a_reti F hr hlocks hP hD hS dX2_hourOf_17 ⟨rfl, (by omega : (-23 : Int) ≤ v3.toInt ∧ v3.toInt ≤ 23), (by omega : 0 ≤ p0.toInt → 0 ≤ v3.toInt)⟩

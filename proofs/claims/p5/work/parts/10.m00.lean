set_option maxHeartbeats 600000 in
set_option maxRecDepth 100000 in
theorem c_X6_hoursLeft_24 (l : Launch) (dC : Nat → ClassId) (dI : Nat → Nat → Nat) (ad : Nat → Nat) (cA : Nat → ClassId) (nF : Nat) (u0 : ac_U)  (hR : ac_R rg u0) : ac_Mi l yX6_hoursLeft (.code yX6_hoursLeft cX6_hoursLeft 1 (some .int) :: TB) 1 (dC, dI) vwCl (ac_ty cA) ad cA (TN nF) [.ref (ad 24)] u0 (fun (r : Int32) (u : ac_U) => u = u0 ∧ ((-400 : Int) ≤ r.toInt ∧ r.toInt ≤ 480) ∧ (r.toInt = 20 * (u0.1 4 0).toInt - (u0.1 25 0).toInt)) := by
  refine ac_Mi.of (cc := cX6_hoursLeft) (maxL := 1) (ret := (some .int)) (by decide) rfl (Nat.le_of_ble_eq_true rfl) ?_
  intro p e s m below meth c A ls F hml hr hlocks hA hP hD hS hl
  have F : ac_X p s m [.ref (ad 24)].toArray c cX6_hoursLeft RX6 TB (dC, dI) vwCl (ac_ty cA) := ⟨F.1, F.2.1, fun w h => F.2.2.1 w (List.mem_cons_of_mem _ h), F.2.2.2.1, F.2.2.2.2⟩
  have hl : lv_has ls 1 [(0, .ref (ad 24))] := hl
  refine a_bp F (20 : Int32) dX6_hoursLeft_0 (by decide) ?_
  refine lv_aload_n F.1 F.2.1 dX6_hoursLeft_2 rfl (lv_at hl 0 rfl) ?_
  refine a_getr F inX6 hP 24 0 tn_24 rfl rfl (by decide) q271 (fun _ h9 => h9) dX6_hoursLeft_3 ?_
  have g1 : (4 : Int) ≤ (u0.1 4 0).toInt ∧ (u0.1 4 0).toInt ≤ 24 := hR 4 0
  refine a_geti F inX2 hP 4 0 tn_4 rfl rfl (by decide) q154 (fun _ h9 => h9) (v := (u0.1 4 0)) rfl dX6_hoursLeft_6 ?_
  refine a_imul F dX6_hoursLeft_9 ic_20 rfl (by omega) (fun v2 hv2 => ?_)
  refine lv_aload_n F.1 F.2.1 dX6_hoursLeft_10 rfl (lv_at hl 0 rfl) ?_
  refine a_getr F inX6 hP 24 1 tn_24 rfl rfl (by decide) q272 (fun _ h9 => h9) dX6_hoursLeft_11 ?_
  refine a_ic F (0 : Int32) dX6_hoursLeft_14 (by decide) ?_
  have g3 : (0 : Int) ≤ (u0.1 25 0).toInt ∧ (u0.1 25 0).toInt ≤ 480 := hR 25 0
  refine a_ialdK F hP 25 0 tn_25 rfl rfl (i_in ic_0 (by omega)) (v := (u0.1 25 0)) rfl dX6_hoursLeft_15 ?_
  refine a_isub F dX6_hoursLeft_16 rfl rfl (by omega) (fun v4 hv4 => ?_)
  exact a_reti F hr hlocks hP hD hS dX6_hoursLeft_17 ⟨rfl, (by omega : (-400 : Int) ≤ v4.toInt ∧ v4.toInt ≤ 480), (by omega : v4.toInt = 20 * (u0.1 4 0).toInt - (u0.1 25 0).toInt)⟩
set_option maxHeartbeats 600000 in
set_option maxRecDepth 100000 in
theorem c_X6_passHours_24 (l : Launch) (dC : Nat → ClassId) (dI : Nat → Nat → Nat) (ad : Nat → Nat) (cA : Nat → ClassId) (nF : Nat) (u0 : ac_U) (p0 : Int32) (hR : ac_R rg u0) (hp0 : (0 : Int) ≤ p0.toInt ∧ p0.toInt ≤ 99) : ac_Mi l yX6_passHours (.code yX6_passHours cX6_passHours 3 (some .int) :: TB) 2 (dC, dI) vwCl (ac_ty cA) ad cA (TN nF) [.ref (ad 24), .int p0] u0 (fun (r : Int32) (u : ac_U) => ac_R rg u ∧ ac_Fr [(25, none)] u0 u ∧ ((-400 : Int) ≤ r.toInt ∧ r.toInt ≤ 99)) := by
  refine ac_Mi.of (cc := cX6_passHours) (maxL := 3) (ret := (some .int)) (by decide) rfl (Nat.le_of_ble_eq_true rfl) ?_
  intro p e s m below meth c A ls F hml hr hlocks hA hP hD hS hl
  have F : ac_X p s m [.ref (ad 24), .int p0].toArray c cX6_passHours RX6 TB (dC, dI) vwCl (ac_ty cA) := ⟨F.1, F.2.1, fun w h => F.2.2.1 w (List.mem_cons_of_mem _ h), F.2.2.2.1, F.2.2.2.2⟩
  have hl : lv_has ls 3 [(0, .ref (ad 24)), (1, .int p0)] := hl
  have hF : ac_Fr [(25, none)] u0 u0 := ac_Fr.rf
  refine lv_iload_n F.1 F.2.1 dX6_passHours_0 rfl (lv_at hl 1 rfl) ?_
  refine lv_aload_n F.1 F.2.1 dX6_passHours_1 rfl (lv_at hl 0 rfl) ?_
  refine a_Vi F hml hl.1 hA hP hD hS (As := []) (c_X6_hoursLeft_24 l dC dI ad cA nF _  hR) (cs_RX6_64 (d := 1) F.2.2.1 (by decide)) tn_24 rfl rfl rfl rfl (Nat.le_of_ble_eq_true rfl) dX6_passHours_2 ⟨Nat.le_refl 0, Nat.le_refl 0⟩ (fun r1 uN1 H locs hq hP hD hS => ?_)
  obtain ⟨hu1, gr1, xr1⟩ := hq
  rw [hu1] at hP hD
  have g2 : (4 : Int) ≤ (u0.1 4 0).toInt ∧ (u0.1 4 0).toInt ≤ 24 := hR 4 0
  have g3 : (0 : Int) ≤ (u0.1 25 0).toInt ∧ (u0.1 25 0).toInt ≤ 480 := hR 25 0
  have xr1 : r1.toInt = 20 * (u0.1 4 0).toInt - (u0.1 25 0).toInt := xr1
  refine va_mmin F.1 F.2.1 (hml.trans hl.1.symm) F.2.2.2.1 (F.2.2.1 _ q882) (F.2.2.1 _ q825) (F.2.2.1 _ q24) (F.2.2.1 _ q826) (by decide) (Nat.le_of_ble_eq_true rfl) (Nat.le_refl 0) (Nat.le_refl 0) dX6_passHours_5 ?_
  refine lv_topi (fun v4 ev4 => ?_)
  have hv4 := i_min rfl rfl ev4
  refine lv_istore_n (lv' := [(2, .int v4), (0, .ref (ad 24)), (1, .int p0)]) F.1 F.2.1 dX6_passHours_8 rfl hl (by decide) rfl (fun ls hl => ?_)
  refine lv_aload_n F.1 F.2.1 dX6_passHours_9 rfl (lv_at hl 1 rfl) ?_
  refine a_getr F inX6 hP 24 1 tn_24 rfl rfl (by decide) q272 (fun _ h9 => h9) dX6_passHours_10 ?_
  refine a_ic F (0 : Int32) dX6_passHours_13 (by decide) ?_
  refine lv_dup2_11 F.1 F.2.1 dX6_passHours_14 rfl rfl ?_
  refine a_ialdK F hP 25 0 tn_25 rfl rfl (i_in ic_0 (by omega)) (v := (u0.1 25 0)) (rfl) dX6_passHours_15 ?_
  refine lv_iload_n F.1 F.2.1 dX6_passHours_16 rfl (lv_at hl 0 rfl) ?_
  refine a_iadd F dX6_passHours_17 rfl rfl (by omega) (fun v5 hv5 => ?_)
  refine a_iastK F hP hD hS 25 0 tn_25 rfl rfl (i_in ic_0 (by omega)) dX6_passHours_18 (fun H locs hP hD hS => ?_)
  have hR := hR.si (c := 25) (k := 0) (v := v5) (by omega : (0 : Int) ≤ v5.toInt ∧ v5.toInt ≤ 480)
  have hF := hF.si (c := 25) (k := 0) (v := v5) rfl
  refine lv_aload_n F.1 F.2.1 dX6_passHours_19 rfl (lv_at hl 1 rfl) ?_
  refine a_getr F inX6 hP 24 1 tn_24 rfl rfl (by decide) q272 (fun _ h9 => h9) dX6_passHours_20 ?_
  refine a_ic F (1 : Int32) dX6_passHours_23 (by decide) ?_
  refine a_ic F (0 : Int32) dX6_passHours_24 (by decide) ?_
  refine a_iastK F hP hD hS 25 1 tn_25 rfl rfl (i_in ic_1 (by omega)) dX6_passHours_25 (fun H locs hP hD hS => ?_)
  have hR := hR.si (c := 25) (k := 1) (v := (0 : Int32)) ⟨i_lo _, i_hi _⟩
  have hF := hF.si (c := 25) (k := 1) (v := (0 : Int32)) rfl
  refine lv_iload_n F.1 F.2.1 dX6_passHours_26 rfl (lv_at hl 0 rfl) ?_
  exact a_reti F hr hlocks hP hD hS dX6_passHours_27 ⟨hR, hF, (by omega : (-400 : Int) ≤ v4.toInt ∧ v4.toInt ≤ 99)⟩
set_option maxHeartbeats 600000 in
set_option maxRecDepth 100000 in
theorem c_X6_isBusy_24 (l : Launch) (dC : Nat → ClassId) (dI : Nat → Nat → Nat) (ad : Nat → Nat) (cA : Nat → ClassId) (nF : Nat) (u0 : ac_U) (p0 : Int32) (hR : ac_R rg u0) (hp0 : (0 : Int) ≤ p0.toInt ∧ p0.toInt ≤ 3) : ac_Mi l yX6_isBusy (.code yX6_isBusy cX6_isBusy 2 (some .boolean) :: TB) 1 (dC, dI) vwCl (ac_ty cA) ad cA (TN nF) [.ref (ad 24), .int p0] u0 (fun (r : Int32) (u : ac_U) => u = u0 ∧ ((0 : Int) ≤ r.toInt ∧ r.toInt ≤ 1)) := by
  refine ac_Mi.of (cc := cX6_isBusy) (maxL := 2) (ret := (some .boolean)) (by decide) rfl (Nat.le_of_ble_eq_true rfl) ?_
  intro p e s m below meth c A ls F hml hr hlocks hA hP hD hS hl
  have F : ac_X p s m [.ref (ad 24), .int p0].toArray c cX6_isBusy RX6 TB (dC, dI) vwCl (ac_ty cA) := ⟨F.1, F.2.1, fun w h => F.2.2.1 w (List.mem_cons_of_mem _ h), F.2.2.2.1, F.2.2.2.2⟩
  have hl : lv_has ls 2 [(0, .ref (ad 24)), (1, .int p0)] := hl
  refine lv_aload_n F.1 F.2.1 dX6_isBusy_0 rfl (lv_at hl 0 rfl) ?_
  refine a_getr F inX6 hP 24 1 tn_24 rfl rfl (by decide) q272 (fun _ h9 => h9) dX6_isBusy_1 ?_
  refine a_ic F (1 : Int32) dX6_isBusy_4 (by decide) ?_
  refine a_ialdK F hP 25 1 tn_25 rfl rfl (i_in ic_1 (by omega)) (v := (u0.1 25 1)) rfl dX6_isBusy_5 ?_
  refine lv_iload_n F.1 F.2.1 dX6_isBusy_6 rfl (lv_at hl 1 rfl) ?_
  refine a_ishrU F dX6_isBusy_7 (fun v1 => ?_)
  refine a_ic F (1 : Int32) dX6_isBusy_8 (by decide) ?_
  refine a_iandM F dX6_isBusy_9 ic_1 (by omega) (fun v2 hv2 => ?_)
  refine a_ic F (1 : Int32) dX6_isBusy_10 (by decide) ?_
  refine b_ne F 18 dX6_isBusy_11 (by decide) rfl ic_1 (fun c3 => ?_) (fun c3 => ?_)
  · refine a_ic F (0 : Int32) dX6_isBusy_18 (by decide) ?_
    exact a_retz F hr hlocks hP hD hS dX6_isBusy_19 (Or.inl rfl) ⟨rfl, (by decide)⟩
  · refine a_ic F (1 : Int32) dX6_isBusy_14 (by decide) ?_
    refine lv_goto (tgt := 19) F.1 F.2.1 dX6_isBusy_15 (by decide) ?_
    exact a_retz F hr hlocks hP hD hS dX6_isBusy_19 (Or.inr rfl) ⟨rfl, (by decide)⟩
set_option maxHeartbeats 600000 in
set_option maxRecDepth 100000 in
theorem c_X6_isOver_24 (l : Launch) (dC : Nat → ClassId) (dI : Nat → Nat → Nat) (ad : Nat → Nat) (cA : Nat → ClassId) (nF : Nat) (u0 : ac_U)  (hR : ac_R rg u0) : ac_Mi l yX6_isOver (.code yX6_isOver cX6_isOver 1 (some .boolean) :: TB) 2 (dC, dI) vwCl (ac_ty cA) ad cA (TN nF) [.ref (ad 24)] u0 (fun (r : Int32) (u : ac_U) => u = u0 ∧ ((0 : Int) ≤ r.toInt ∧ r.toInt ≤ 1) ∧ (r.toInt = 0 → (u0.1 25 0).toInt < 20 * (u0.1 4 0).toInt)) := by
  refine ac_Mi.of (cc := cX6_isOver) (maxL := 1) (ret := (some .boolean)) (by decide) rfl (Nat.le_of_ble_eq_true rfl) ?_
  intro p e s m below meth c A ls F hml hr hlocks hA hP hD hS hl
  have F : ac_X p s m [.ref (ad 24)].toArray c cX6_isOver RX6 TB (dC, dI) vwCl (ac_ty cA) := ⟨F.1, F.2.1, fun w h => F.2.2.1 w (List.mem_cons_of_mem _ h), F.2.2.2.1, F.2.2.2.2⟩
  have hl : lv_has ls 1 [(0, .ref (ad 24))] := hl
  refine lv_aload_n F.1 F.2.1 dX6_isOver_0 rfl (lv_at hl 0 rfl) ?_
  refine a_Vi F hml hl.1 hA hP hD hS (As := []) (c_X6_hoursLeft_24 l dC dI ad cA nF _  hR) (cs_RX6_64 (d := 1) F.2.2.1 (by decide)) tn_24 rfl rfl rfl rfl (Nat.le_of_ble_eq_true rfl) dX6_isOver_1 ⟨Nat.le_refl 0, Nat.le_refl 0⟩ (fun r1 uN1 H locs hq hP hD hS => ?_)
  obtain ⟨hu1, gr1, xr1⟩ := hq
  rw [hu1] at hP hD
  have g2 : (4 : Int) ≤ (u0.1 4 0).toInt ∧ (u0.1 4 0).toInt ≤ 24 := hR 4 0
  have g3 : (0 : Int) ≤ (u0.1 25 0).toInt ∧ (u0.1 25 0).toInt ≤ 480 := hR 25 0
  have xr1 : r1.toInt = 20 * (u0.1 4 0).toInt - (u0.1 25 0).toInt := xr1
  refine z_gt F 11 dX6_isOver_4 (by decide) rfl (fun c4 => ?_) (fun c4 => ?_)
  · refine a_ic F (0 : Int32) dX6_isOver_11 (by decide) ?_
    exact a_retz F hr hlocks hP hD hS dX6_isOver_12 (Or.inl rfl) ⟨rfl, (by decide), (by first | exact (by omega : (0 : Int) = 0 → (u0.1 25 0).toInt < 20 * (u0.1 4 0).toInt) | (rw [ic_0]; exact (by omega : (0 : Int) = 0 → (u0.1 25 0).toInt < 20 * (u0.1 4 0).toInt)))⟩
  · refine a_ic F (1 : Int32) dX6_isOver_7 (by decide) ?_
    refine lv_goto (tgt := 12) F.1 F.2.1 dX6_isOver_8 (by decide) ?_
    exact a_retz F hr hlocks hP hD hS dX6_isOver_12 (Or.inr rfl) ⟨rfl, (by decide), (by first | exact (by omega : (1 : Int) = 0 → (u0.1 25 0).toInt < 20 * (u0.1 4 0).toInt) | (rw [ic_1]; exact (by omega : (1 : Int) = 0 → (u0.1 25 0).toInt < 20 * (u0.1 4 0).toInt)))⟩
set_option maxHeartbeats 600000 in
set_option maxRecDepth 100000 in
theorem c_X6_whyNotDo_24 (l : Launch) (dC : Nat → ClassId) (dI : Nat → Nat → Nat) (ad : Nat → Nat) (cA : Nat → ClassId) (nF : Nat) (u0 : ac_U) (p0 : Int32) (hR : ac_R rg u0) (hp0 : (0 : Int) ≤ p0.toInt ∧ p0.toInt ≤ 3) : ac_Mi l yX6_whyNotDo (.code yX6_whyNotDo cX6_whyNotDo 2 (some .int) :: TB) 3 (dC, dI) vwCl (ac_ty cA) ad cA (TN nF) [.ref (ad 24), .int p0] u0 (fun (r : Int32) (u : ac_U) => u = u0 ∧ ((0 : Int) ≤ r.toInt ∧ r.toInt ≤ 4) ∧ (r.toInt = 0 → (u0.1 25 2).toInt ≤ 79)) := by
  refine ac_Mi.of (cc := cX6_whyNotDo) (maxL := 2) (ret := (some .int)) (by decide) rfl (Nat.le_of_ble_eq_true rfl) ?_
  intro p e s m below meth c A ls F hml hr hlocks hA hP hD hS hl
  have F : ac_X p s m [.ref (ad 24), .int p0].toArray c cX6_whyNotDo RX6 TB (dC, dI) vwCl (ac_ty cA) := ⟨F.1, F.2.1, fun w h => F.2.2.1 w (List.mem_cons_of_mem _ h), F.2.2.2.1, F.2.2.2.2⟩
  have hl : lv_has ls 2 [(0, .ref (ad 24)), (1, .int p0)] := hl
  refine lv_aload_n F.1 F.2.1 dX6_whyNotDo_0 rfl (lv_at hl 0 rfl) ?_
  refine lv_iload_n F.1 F.2.1 dX6_whyNotDo_1 rfl (lv_at hl 1 rfl) ?_
  refine a_Vi F hml hl.1 hA hP hD hS (As := [.int p0]) (c_X6_isBusy_24 l dC dI ad cA nF _ p0 hR (by omega)) (cs_RX6_68 (d := 1) F.2.2.1 (by decide)) tn_24 rfl rfl rfl rfl (Nat.le_of_ble_eq_true rfl) dX6_whyNotDo_2 ⟨Nat.le_refl 0, Nat.le_refl 0⟩ (fun r1 uN1 H locs hq hP hD hS => ?_)
  obtain ⟨hu1, gr1⟩ := hq
  rw [hu1] at hP hD
  refine z_eq F 10 dX6_whyNotDo_5 (by decide) rfl (fun c2 => ?_) (fun c2 => ?_)
  · refine lv_aload_n F.1 F.2.1 dX6_whyNotDo_10 rfl (lv_at hl 0 rfl) ?_
    refine a_Vi F hml hl.1 hA hP hD hS (As := []) (c_X6_isOver_24 l dC dI ad cA nF _  hR) (cs_RX6_76 (d := 2) F.2.2.1 (by decide)) tn_24 rfl rfl rfl rfl (Nat.le_of_ble_eq_true rfl) dX6_whyNotDo_11 ⟨Nat.le_refl 0, Nat.le_refl 0⟩ (fun r3 uN3 H locs hq hP hD hS => ?_)
    obtain ⟨hu3, gr3, xr3⟩ := hq
    rw [hu3] at hP hD
    have g4 : (0 : Int) ≤ (u0.1 25 0).toInt ∧ (u0.1 25 0).toInt ≤ 480 := hR 25 0
    have g5 : (4 : Int) ≤ (u0.1 4 0).toInt ∧ (u0.1 4 0).toInt ≤ 24 := hR 4 0
    have xr3 : r3.toInt = 0 → (u0.1 25 0).toInt < 20 * (u0.1 4 0).toInt := xr3
    refine z_eq F 19 dX6_whyNotDo_14 (by decide) rfl (fun c6 => ?_) (fun c6 => ?_)
    · refine lv_aload_n F.1 F.2.1 dX6_whyNotDo_19 rfl (lv_at hl 0 rfl) ?_
      refine a_getr F inX6 hP 24 1 tn_24 rfl rfl (by decide) q272 (fun _ h9 => h9) dX6_whyNotDo_20 ?_
      refine a_ic F (2 : Int32) dX6_whyNotDo_23 (by decide) ?_
      have g7 : (0 : Int) ≤ (u0.1 25 2).toInt ∧ (u0.1 25 2).toInt ≤ 80 := hR 25 2
      refine a_ialdK F hP 25 2 tn_25 rfl rfl (i_in ic_2 (by omega)) (v := (u0.1 25 2)) rfl dX6_whyNotDo_24 ?_
      refine a_bp F (80 : Int32) dX6_whyNotDo_25 (by decide) ?_
      refine b_lt F 34 dX6_whyNotDo_27 (by decide) rfl ic_80 (fun c8 => ?_) (fun c8 => ?_)
      · refine a_ic F (0 : Int32) dX6_whyNotDo_34 (by decide) ?_
        exact a_reti F hr hlocks hP hD hS dX6_whyNotDo_35 ⟨rfl, (by decide), (by first | exact (by omega : (0 : Int) = 0 → (u0.1 25 2).toInt ≤ 79) | (rw [ic_0]; exact (by omega : (0 : Int) = 0 → (u0.1 25 2).toInt ≤ 79)))⟩
      · refine a_ic F (4 : Int32) dX6_whyNotDo_30 (by decide) ?_
        refine lv_goto (tgt := 35) F.1 F.2.1 dX6_whyNotDo_31 (by decide) ?_
        exact a_reti F hr hlocks hP hD hS dX6_whyNotDo_35 ⟨rfl, (by decide), (by first | exact (by omega : (4 : Int) = 0 → (u0.1 25 2).toInt ≤ 79) | (rw [ic_4]; exact (by omega : (4 : Int) = 0 → (u0.1 25 2).toInt ≤ 79)))⟩
    · refine a_ic F (3 : Int32) dX6_whyNotDo_17 (by decide) ?_
      exact a_reti F hr hlocks hP hD hS dX6_whyNotDo_18 ⟨rfl, (by decide), (by first | exact (by omega : (3 : Int) = 0 → (u0.1 25 2).toInt ≤ 79) | (rw [ic_3]; exact (by omega : (3 : Int) = 0 → (u0.1 25 2).toInt ≤ 79)))⟩
  · refine a_ic F (1 : Int32) dX6_whyNotDo_8 (by decide) ?_
    exact a_reti F hr hlocks hP hD hS dX6_whyNotDo_9 ⟨rfl, (by decide), (by first | exact (by omega : (1 : Int) = 0 → (u0.1 25 2).toInt ≤ 79) | (rw [ic_1]; exact (by omega : (1 : Int) = 0 → (u0.1 25 2).toInt ≤ 79)))⟩
set_option maxHeartbeats 600000 in
set_option maxRecDepth 100000 in
theorem c_X6_tryDo_24 (l : Launch) (dC : Nat → ClassId) (dI : Nat → Nat → Nat) (ad : Nat → Nat) (cA : Nat → ClassId) (nF : Nat) (u0 : ac_U) (p0 : Int32) (p1 : Int32) (hR : ac_R rg u0) (hp0 : (0 : Int) ≤ p0.toInt ∧ p0.toInt ≤ 3) : ac_Mi l yX6_tryDo (.code yX6_tryDo cX6_tryDo 5 (some .int) :: TB) 4 (dC, dI) vwCl (ac_ty cA) ad cA (TN nF) [.ref (ad 24), .int p0, .int p1] u0 (fun (r : Int32) (u : ac_U) => ac_R rg u ∧ ac_Fr [(25, none), (26, none)] u0 u ∧ ((0 : Int) ≤ r.toInt ∧ r.toInt ≤ 4)) := by
  refine ac_Mi.of (cc := cX6_tryDo) (maxL := 5) (ret := (some .int)) (by decide) rfl (Nat.le_of_ble_eq_true rfl) ?_
  intro p e s m below meth c A ls F hml hr hlocks hA hP hD hS hl
  have F : ac_X p s m [.ref (ad 24), .int p0, .int p1].toArray c cX6_tryDo RX6 TB (dC, dI) vwCl (ac_ty cA) := ⟨F.1, F.2.1, fun w h => F.2.2.1 w (List.mem_cons_of_mem _ h), F.2.2.2.1, F.2.2.2.2⟩
  have hl : lv_has ls 5 [(0, .ref (ad 24)), (1, .int p0), (2, .int p1)] := hl
  have hF : ac_Fr [(25, none), (26, none)] u0 u0 := ac_Fr.rf
  have L107 : ∀ (x3 : Int32) (u : ac_U) (H : Heap) (locs : List Loc) (ls : Array Slot), ac_R rg u → ac_Fr [(25, none), (26, none)] u0 u → (0 : Int) ≤ x3.toInt ∧ x3.toInt ≤ 4 → va_P (dC, dI) vwCl (ac_w ad cA (TN nF) u) H → va_D A (ac_w ad cA (TN nF) u) → va_S A s.heap H locs → lv_has ls 5 [(3, .int x3)] → W p l e (ac_rm 4) s m [.ref (ad 24), .int p0, .int p1].toArray below meth c H locs 0 0 (MQ below (va_Qi (fun (r : Int32) (u : ac_U) => ac_R rg u ∧ ac_Fr [(25, none), (26, none)] u0 u ∧ ((0 : Int) ≤ r.toInt ∧ r.toInt ≤ 4)) (ac_B (dC, dI) vwCl (ac_ty cA) ad cA (TN nF) A) A) [.ref (ad 24), .int p0, .int p1].toArray s 0 0 A) (F0 m 107 ls []) := by
    intro x3 u H locs ls hR hF f0 hP hD hS hl
    refine lv_iload_n F.1 F.2.1 dX6_tryDo_107 rfl (lv_at hl 0 rfl) ?_
    exact a_reti F hr hlocks hP hD hS dX6_tryDo_108 ⟨hR, hF, (by omega : (0 : Int) ≤ x3.toInt ∧ x3.toInt ≤ 4)⟩
  refine lv_aload_n F.1 F.2.1 dX6_tryDo_0 rfl (lv_at hl 0 rfl) ?_
  refine lv_iload_n F.1 F.2.1 dX6_tryDo_1 rfl (lv_at hl 1 rfl) ?_
  refine a_Vi F hml hl.1 hA hP hD hS (As := [.int p0]) (c_X6_whyNotDo_24 l dC dI ad cA nF _ p0 hR (by omega)) (cs_RX6_86 (d := 3) F.2.2.1 (by decide)) tn_24 rfl rfl rfl rfl (Nat.le_of_ble_eq_true rfl) dX6_tryDo_2 ⟨Nat.le_refl 0, Nat.le_refl 0⟩ (fun r1 uN1 H locs hq hP hD hS => ?_)
  obtain ⟨hu1, gr1, xr1⟩ := hq
  rw [hu1] at hP hD
  have g2 : (0 : Int) ≤ (u0.1 25 2).toInt ∧ (u0.1 25 2).toInt ≤ 80 := hR 25 2
  have xr1 : r1.toInt = 0 → (u0.1 25 2).toInt ≤ 79 := xr1
  refine lv_istore_n (lv' := [(3, .int r1), (0, .ref (ad 24)), (1, .int p0), (2, .int p1)]) F.1 F.2.1 dX6_tryDo_5 rfl hl (by decide) rfl (fun ls hl => ?_)
  refine lv_iload_n F.1 F.2.1 dX6_tryDo_6 rfl (lv_at hl 0 rfl) ?_
  refine z_ne F 107 dX6_tryDo_7 (by decide) rfl (fun c3 => ?_) (fun c3 => ?_)
  · exact L107 r1 _ _ _ _ hR hF (by omega) hP hD hS (lv_sub hl [0] rfl)
  · refine lv_aload_n F.1 F.2.1 dX6_tryDo_10 rfl (lv_at hl 1 rfl) ?_
    refine a_getr F inX6 hP 24 1 tn_24 rfl rfl (by decide) q272 (fun _ h9 => h9) dX6_tryDo_11 ?_
    refine a_ic F (2 : Int32) dX6_tryDo_14 (by decide) ?_
    refine a_ialdK F hP 25 2 tn_25 rfl rfl (i_in ic_2 (by omega)) (v := (u0.1 25 2)) (rfl) dX6_tryDo_15 ?_
    refine a_ic F (4 : Int32) dX6_tryDo_16 (by decide) ?_
    refine a_imul F dX6_tryDo_17 rfl ic_4 (by omega) (fun v4 hv4 => ?_)
    refine lv_istore (lv' := [(4, .int v4), (3, .int r1), (0, .ref (ad 24)), (1, .int p0), (2, .int p1)]) F.1 F.2.1 dX6_tryDo_18 hl (by decide) rfl (fun ls hl => ?_)
    refine lv_aload_n F.1 F.2.1 dX6_tryDo_20 rfl (lv_at hl 2 rfl) ?_
    refine a_getr F inX6 hP 24 2 tn_24 rfl rfl (by decide) q278 (fun _ h9 => h9) dX6_tryDo_21 ?_
    refine lv_iload F.1 F.2.1 dX6_tryDo_24 (lv_at hl 0 rfl) ?_
    refine a_ic F (0 : Int32) dX6_tryDo_26 (by decide) ?_
    refine a_iadd F dX6_tryDo_27 rfl ic_0 (by omega) (fun v5 hv5 => ?_)
    refine lv_aload_n F.1 F.2.1 dX6_tryDo_28 rfl (lv_at hl 2 rfl) ?_
    refine a_getr F inX6 hP 24 1 tn_24 rfl rfl (by decide) q272 (fun _ h9 => h9) dX6_tryDo_29 ?_
    refine a_ic F (0 : Int32) dX6_tryDo_32 (by decide) ?_
    have g6 : (0 : Int) ≤ (u0.1 25 0).toInt ∧ (u0.1 25 0).toInt ≤ 480 := hR 25 0
    refine a_ialdK F hP 25 0 tn_25 rfl rfl (i_in ic_0 (by omega)) (v := (u0.1 25 0)) rfl dX6_tryDo_33 ?_
    refine a_iast F hP hD hS 26 tn_26 rfl (i_in rfl (by omega)) dX6_tryDo_34 (fun H locs hP hD hS => ?_)
    have hR := hR.si (c := 26) (k := v5.toNatClampNeg) (v := (u0.1 25 0)) (rs_26_0_316 (by omega) (by omega : (0 : Int) ≤ (u0.1 25 0).toInt ∧ (u0.1 25 0).toInt ≤ 480))
    have hF := hF.si (c := 26) (k := v5.toNatClampNeg) (v := (u0.1 25 0)) rfl
    refine lv_aload_n F.1 F.2.1 dX6_tryDo_35 rfl (lv_at hl 2 rfl) ?_
    refine a_getr F inX6 hP 24 2 tn_24 rfl rfl (by decide) q278 (fun _ h9 => h9) dX6_tryDo_36 ?_
    refine lv_iload F.1 F.2.1 dX6_tryDo_39 (lv_at hl 0 rfl) ?_
    refine a_ic F (1 : Int32) dX6_tryDo_41 (by decide) ?_
    refine a_iadd F dX6_tryDo_42 rfl ic_1 (by omega) (fun v7 hv7 => ?_)
    refine lv_iload_n F.1 F.2.1 dX6_tryDo_43 rfl (lv_at hl 3 rfl) ?_
    refine a_iast F hP hD hS 26 tn_26 rfl (i_in rfl (by omega)) dX6_tryDo_44 (fun H locs hP hD hS => ?_)
    have hR := hR.si (c := 26) (k := v7.toNatClampNeg) (v := p0) (st_marks (q := (u0.1 25 2).toInt) (j := 1) (by omega) (by decide) (by omega))
    have hF := hF.si (c := 26) (k := v7.toNatClampNeg) (v := p0) rfl
    refine lv_aload_n F.1 F.2.1 dX6_tryDo_45 rfl (lv_at hl 2 rfl) ?_
    refine a_getr F inX6 hP 24 2 tn_24 rfl rfl (by decide) q278 (fun _ h9 => h9) dX6_tryDo_46 ?_
    refine lv_iload F.1 F.2.1 dX6_tryDo_49 (lv_at hl 0 rfl) ?_
    refine a_ic F (2 : Int32) dX6_tryDo_51 (by decide) ?_
    refine a_iadd F dX6_tryDo_52 rfl ic_2 (by omega) (fun v8 hv8 => ?_)
    refine lv_iload_n F.1 F.2.1 dX6_tryDo_53 rfl (lv_at hl 4 rfl) ?_
    refine a_iast F hP hD hS 26 tn_26 rfl (i_in rfl (by omega)) dX6_tryDo_54 (fun H locs hP hD hS => ?_)
    have hR := hR.si (c := 26) (k := v8.toNatClampNeg) (v := p1) (st_marks (q := (u0.1 25 2).toInt) (j := 2) (by omega) (by decide) (by omega))
    have hF := hF.si (c := 26) (k := v8.toNatClampNeg) (v := p1) rfl
    refine lv_aload_n F.1 F.2.1 dX6_tryDo_55 rfl (lv_at hl 2 rfl) ?_
    refine a_getr F inX6 hP 24 2 tn_24 rfl rfl (by decide) q278 (fun _ h9 => h9) dX6_tryDo_56 ?_
    refine lv_iload F.1 F.2.1 dX6_tryDo_59 (lv_at hl 0 rfl) ?_
    refine a_ic F (3 : Int32) dX6_tryDo_61 (by decide) ?_
    refine a_iadd F dX6_tryDo_62 rfl ic_3 (by omega) (fun v9 hv9 => ?_)
    refine lv_aload_n F.1 F.2.1 dX6_tryDo_63 rfl (lv_at hl 2 rfl) ?_
    refine a_getr F inX6 hP 24 1 tn_24 rfl rfl (by decide) q272 (fun _ h9 => h9) dX6_tryDo_64 ?_
    refine a_ic F (3 : Int32) dX6_tryDo_67 (by decide) ?_
    refine lv_iload_n F.1 F.2.1 dX6_tryDo_68 rfl (lv_at hl 3 rfl) ?_
    refine a_iadd F dX6_tryDo_69 ic_3 rfl (by omega) (fun v10 hv10 => ?_)
    refine a_iald F hP 25 tn_25 rfl (i_in rfl (by omega)) dX6_tryDo_70 (fun v11 ev11 => ?_)
    have hv11 : (0 : Int) ≤ v11.toInt ∧ v11.toInt ≤ 7 := rg_seg_25_3_6 hR ev11 (by omega)
    refine a_iast F hP hD hS 26 tn_26 rfl (i_in rfl (by omega)) dX6_tryDo_71 (fun H locs hP hD hS => ?_)
    have hR := hR.si (c := 26) (k := v9.toNatClampNeg) (v := v11) (rs_26_3_319 (by omega) (by omega : (0 : Int) ≤ v11.toInt ∧ v11.toInt ≤ 480))
    have hF := hF.si (c := 26) (k := v9.toNatClampNeg) (v := v11) rfl
    refine lv_aload_n F.1 F.2.1 dX6_tryDo_72 rfl (lv_at hl 2 rfl) ?_
    refine a_getr F inX6 hP 24 1 tn_24 rfl rfl (by decide) q272 (fun _ h9 => h9) dX6_tryDo_73 ?_
    refine a_ic F (1 : Int32) dX6_tryDo_76 (by decide) ?_
    refine lv_dup2_11 F.1 F.2.1 dX6_tryDo_77 rfl rfl ?_
    refine a_ialdK F hP 25 1 tn_25 rfl rfl (i_in ic_1 (by omega)) (v := (u0.1 25 1)) rfl dX6_tryDo_78 ?_
    refine a_ic F (1 : Int32) dX6_tryDo_79 (by decide) ?_
    refine lv_iload_n F.1 F.2.1 dX6_tryDo_80 rfl (lv_at hl 3 rfl) ?_
    refine a_ishl1 F dX6_tryDo_81 rfl (lo := 0) (hi := 3) (by omega) (by decide) (fun v12 hv12 => ?_)
    have hv12 : (1 : Int) ≤ v12.toInt ∧ v12.toInt ≤ 8 := hv12
    refine a_iorU F dX6_tryDo_82 (fun v13 => ?_)
    refine a_iastK F hP hD hS 25 1 tn_25 rfl rfl (i_in ic_1 (by omega)) dX6_tryDo_83 (fun H locs hP hD hS => ?_)
    have hR := hR.si (c := 25) (k := 1) (v := v13) ⟨i_lo _, i_hi _⟩
    have hF := hF.si (c := 25) (k := 1) (v := v13) rfl
    refine lv_aload_n F.1 F.2.1 dX6_tryDo_84 rfl (lv_at hl 2 rfl) ?_
    refine a_getr F inX6 hP 24 1 tn_24 rfl rfl (by decide) q272 (fun _ h9 => h9) dX6_tryDo_85 ?_
    refine a_ic F (2 : Int32) dX6_tryDo_88 (by decide) ?_
    refine lv_dup2_11 F.1 F.2.1 dX6_tryDo_89 rfl rfl ?_
    refine a_ialdK F hP 25 2 tn_25 rfl rfl (i_in ic_2 (by omega)) (v := (u0.1 25 2)) (rfl) dX6_tryDo_90 ?_
    refine a_ic F (1 : Int32) dX6_tryDo_91 (by decide) ?_
    refine a_iadd F dX6_tryDo_92 rfl ic_1 (by omega) (fun v14 hv14 => ?_)
    refine a_iastK F hP hD hS 25 2 tn_25 rfl rfl (i_in ic_2 (by omega)) dX6_tryDo_93 (fun H locs hP hD hS => ?_)
    have hR := hR.si (c := 25) (k := 2) (v := v14) (by omega : (0 : Int) ≤ v14.toInt ∧ v14.toInt ≤ 80)
    have hF := hF.si (c := 25) (k := 2) (v := v14) rfl
    refine lv_aload_n F.1 F.2.1 dX6_tryDo_94 rfl (lv_at hl 2 rfl) ?_
    refine a_getr F inX6 hP 24 1 tn_24 rfl rfl (by decide) q272 (fun _ h9 => h9) dX6_tryDo_95 ?_
    refine a_bp F (7 : Int32) dX6_tryDo_98 (by decide) ?_
    refine lv_iload_n F.1 F.2.1 dX6_tryDo_100 rfl (lv_at hl 3 rfl) ?_
    refine a_iadd F dX6_tryDo_101 ic_7 rfl (by omega) (fun v15 hv15 => ?_)
    refine lv_dup2_11 F.1 F.2.1 dX6_tryDo_102 rfl rfl ?_
    refine a_iald F hP 25 tn_25 rfl (i_in rfl (by omega)) dX6_tryDo_103 (fun v16 ev16 => ?_)
    refine a_ic F (1 : Int32) dX6_tryDo_104 (by decide) ?_
    refine a_iaddU F dX6_tryDo_105 (fun v17 => ?_)
    refine a_iast F hP hD hS 25 tn_25 rfl (i_in rfl (by omega)) dX6_tryDo_106 (fun H locs hP hD hS => ?_)
    have hR := hR.si (c := 25) (k := v15.toNatClampNeg) (v := v17) (rs_25_7_10 (by omega) ⟨i_lo _, i_hi _⟩)
    have hF := hF.si (c := 25) (k := v15.toNatClampNeg) (v := v17) rfl
    exact L107 r1 _ _ _ _ hR hF (by omega) hP hD hS (lv_sub hl [1] rfl)
set_option maxHeartbeats 600000 in
set_option maxRecDepth 100000 in
theorem c_X2_isNear_4 (l : Launch) (dC : Nat → ClassId) (dI : Nat → Nat → Nat) (ad : Nat → Nat) (cA : Nat → ClassId) (nF : Nat) (u0 : ac_U) (p0 : Int32) (p1 : Int32) (hR : ac_R rg u0) (hp0 : (0 : Int) ≤ p0.toInt ∧ p0.toInt ≤ 7) : ac_Mi l yX2_isNear (.code yX2_isNear cX2_isNear 3 (some .boolean) :: TB) 1 (dC, dI) vwCl (ac_ty cA) ad cA (TN nF) [.ref (ad 4), .int p0, .int p1] u0 (fun (r : Int32) (u : ac_U) => u = u0 ∧ ((0 : Int) ≤ r.toInt ∧ r.toInt ≤ 1)) := by
  refine ac_Mi.of (cc := cX2_isNear) (maxL := 3) (ret := (some .boolean)) (by decide) rfl (Nat.le_of_ble_eq_true rfl) ?_
  intro p e s m below meth c A ls F hml hr hlocks hA hP hD hS hl
  have F : ac_X p s m [.ref (ad 4), .int p0, .int p1].toArray c cX2_isNear RX2 TB (dC, dI) vwCl (ac_ty cA) := ⟨F.1, F.2.1, fun w h => F.2.2.1 w (List.mem_cons_of_mem _ h), F.2.2.2.1, F.2.2.2.2⟩
  have hl : lv_has ls 3 [(0, .ref (ad 4)), (1, .int p0), (2, .int p1)] := hl
  refine lv_aload_n F.1 F.2.1 dX2_isNear_0 rfl (lv_at hl 0 rfl) ?_
  refine a_getr F inX2 hP 4 9 tn_4 rfl rfl (by decide) q189 (fun _ h9 => h9) dX2_isNear_1 ?_
  refine lv_iload_n F.1 F.2.1 dX2_isNear_4 rfl (lv_at hl 1 rfl) ?_
  refine a_iald F hP 5 tn_5 rfl (i_in rfl (by omega)) dX2_isNear_5 (fun v1 ev1 => ?_)
  refine lv_iload_n F.1 F.2.1 dX2_isNear_6 rfl (lv_at hl 2 rfl) ?_
  refine a_ishrU F dX2_isNear_7 (fun v2 => ?_)
  refine a_ic F (1 : Int32) dX2_isNear_8 (by decide) ?_
  refine a_iandM F dX2_isNear_9 ic_1 (by omega) (fun v3 hv3 => ?_)
  refine a_ic F (1 : Int32) dX2_isNear_10 (by decide) ?_
  refine b_ne F 18 dX2_isNear_11 (by decide) rfl ic_1 (fun c4 => ?_) (fun c4 => ?_)
  · refine a_ic F (0 : Int32) dX2_isNear_18 (by decide) ?_
    exact a_retz F hr hlocks hP hD hS dX2_isNear_19 (Or.inl rfl) ⟨rfl, (by decide)⟩
  · refine a_ic F (1 : Int32) dX2_isNear_14 (by decide) ?_
    refine lv_goto (tgt := 19) F.1 F.2.1 dX2_isNear_15 (by decide) ?_
    exact a_retz F hr hlocks hP hD hS dX2_isNear_19 (Or.inr rfl) ⟨rfl, (by decide)⟩
set_option maxHeartbeats 600000 in
set_option maxRecDepth 100000 in
theorem c_X6_whyNotGo_24 (l : Launch) (dC : Nat → ClassId) (dI : Nat → Nat → Nat) (ad : Nat → Nat) (cA : Nat → ClassId) (nF : Nat) (u0 : ac_U) (p0 : Int32) (p1 : Int32) (hR : ac_R rg u0) (hp0 : (0 : Int) ≤ p0.toInt ∧ p0.toInt ≤ 3) (hp1 : (0 : Int) ≤ p1.toInt ∧ p1.toInt ≤ 7) : ac_Mi l yX6_whyNotGo (.code yX6_whyNotGo cX6_whyNotGo 3 (some .int) :: TB) 3 (dC, dI) vwCl (ac_ty cA) ad cA (TN nF) [.ref (ad 24), .int p0, .int p1] u0 (fun (r : Int32) (u : ac_U) => u = u0 ∧ ((0 : Int) ≤ r.toInt ∧ r.toInt ≤ 3)) := by
  refine ac_Mi.of (cc := cX6_whyNotGo) (maxL := 3) (ret := (some .int)) (by decide) rfl (Nat.le_of_ble_eq_true rfl) ?_
  intro p e s m below meth c A ls F hml hr hlocks hA hP hD hS hl
  have F : ac_X p s m [.ref (ad 24), .int p0, .int p1].toArray c cX6_whyNotGo RX6 TB (dC, dI) vwCl (ac_ty cA) := ⟨F.1, F.2.1, fun w h => F.2.2.1 w (List.mem_cons_of_mem _ h), F.2.2.2.1, F.2.2.2.2⟩
  have hl : lv_has ls 3 [(0, .ref (ad 24)), (1, .int p0), (2, .int p1)] := hl
  refine lv_aload_n F.1 F.2.1 dX6_whyNotGo_0 rfl (lv_at hl 0 rfl) ?_
  refine lv_iload_n F.1 F.2.1 dX6_whyNotGo_1 rfl (lv_at hl 1 rfl) ?_
  refine a_Vi F hml hl.1 hA hP hD hS (As := [.int p0]) (c_X6_isBusy_24 l dC dI ad cA nF _ p0 hR (by omega)) (cs_RX6_68 (d := 1) F.2.2.1 (by decide)) tn_24 rfl rfl rfl rfl (Nat.le_of_ble_eq_true rfl) dX6_whyNotGo_2 ⟨Nat.le_refl 0, Nat.le_refl 0⟩ (fun r1 uN1 H locs hq hP hD hS => ?_)
  obtain ⟨hu1, gr1⟩ := hq
  rw [hu1] at hP hD
  refine z_eq F 10 dX6_whyNotGo_5 (by decide) rfl (fun c2 => ?_) (fun c2 => ?_)
  · refine lv_aload_n F.1 F.2.1 dX6_whyNotGo_10 rfl (lv_at hl 0 rfl) ?_
    refine a_getr F inX6 hP 24 0 tn_24 rfl rfl (by decide) q271 (fun _ h9 => h9) dX6_whyNotGo_11 ?_
    refine lv_aload_n F.1 F.2.1 dX6_whyNotGo_14 rfl (lv_at hl 0 rfl) ?_
    refine a_getr F inX6 hP 24 1 tn_24 rfl rfl (by decide) q272 (fun _ h9 => h9) dX6_whyNotGo_15 ?_
    refine a_ic F (3 : Int32) dX6_whyNotGo_18 (by decide) ?_
    refine lv_iload_n F.1 F.2.1 dX6_whyNotGo_19 rfl (lv_at hl 1 rfl) ?_
    refine a_iadd F dX6_whyNotGo_20 ic_3 rfl (by omega) (fun v3 hv3 => ?_)
    refine a_iald F hP 25 tn_25 rfl (i_in rfl (by omega)) dX6_whyNotGo_21 (fun v4 ev4 => ?_)
    have hv4 : (0 : Int) ≤ v4.toInt ∧ v4.toInt ≤ 7 := rg_seg_25_3_6 hR ev4 (by omega)
    refine lv_iload_n F.1 F.2.1 dX6_whyNotGo_22 rfl (lv_at hl 2 rfl) ?_
    refine a_Vi F hml hl.1 hA hP hD hS (As := [.int v4, .int p1]) (c_X2_isNear_4 l dC dI ad cA nF _ v4 p1 hR (by omega)) (cs_RX6_72 (d := 1) F.2.2.1 (by decide)) tn_4 rfl rfl rfl rfl (Nat.le_of_ble_eq_true rfl) dX6_whyNotGo_23 ⟨Nat.le_refl 0, Nat.le_refl 0⟩ (fun r5 uN5 H locs hq hP hD hS => ?_)
    obtain ⟨hu5, gr5⟩ := hq
    rw [hu5] at hP hD
    refine z_ne F 31 dX6_whyNotGo_26 (by decide) rfl (fun c6 => ?_) (fun c6 => ?_)
    · refine lv_aload_n F.1 F.2.1 dX6_whyNotGo_31 rfl (lv_at hl 0 rfl) ?_
      refine a_Vi F hml hl.1 hA hP hD hS (As := []) (c_X6_isOver_24 l dC dI ad cA nF _  hR) (cs_RX6_76 (d := 2) F.2.2.1 (by decide)) tn_24 rfl rfl rfl rfl (Nat.le_of_ble_eq_true rfl) dX6_whyNotGo_32 ⟨Nat.le_refl 0, Nat.le_refl 0⟩ (fun r7 uN7 H locs hq hP hD hS => ?_)
      obtain ⟨hu7, gr7, xr7⟩ := hq
      rw [hu7] at hP hD
      have g8 : (0 : Int) ≤ (u0.1 25 0).toInt ∧ (u0.1 25 0).toInt ≤ 480 := hR 25 0
      have g9 : (4 : Int) ≤ (u0.1 4 0).toInt ∧ (u0.1 4 0).toInt ≤ 24 := hR 4 0
      have xr7 : r7.toInt = 0 → (u0.1 25 0).toInt < 20 * (u0.1 4 0).toInt := xr7
      refine z_eq F 42 dX6_whyNotGo_35 (by decide) rfl (fun c10 => ?_) (fun c10 => ?_)
      · refine a_ic F (0 : Int32) dX6_whyNotGo_42 (by decide) ?_
        exact a_reti F hr hlocks hP hD hS dX6_whyNotGo_43 ⟨rfl, (by decide)⟩
      · refine a_ic F (3 : Int32) dX6_whyNotGo_38 (by decide) ?_
        refine lv_goto (tgt := 43) F.1 F.2.1 dX6_whyNotGo_39 (by decide) ?_
        exact a_reti F hr hlocks hP hD hS dX6_whyNotGo_43 ⟨rfl, (by decide)⟩
    · refine a_ic F (2 : Int32) dX6_whyNotGo_29 (by decide) ?_
      exact a_reti F hr hlocks hP hD hS dX6_whyNotGo_30 ⟨rfl, (by decide)⟩
  · refine a_ic F (1 : Int32) dX6_whyNotGo_8 (by decide) ?_
    exact a_reti F hr hlocks hP hD hS dX6_whyNotGo_9 ⟨rfl, (by decide)⟩
set_option maxHeartbeats 600000 in
set_option maxRecDepth 100000 in
theorem c_X6_tryGo_24 (l : Launch) (dC : Nat → ClassId) (dI : Nat → Nat → Nat) (ad : Nat → Nat) (cA : Nat → ClassId) (nF : Nat) (u0 : ac_U) (p0 : Int32) (p1 : Int32) (hR : ac_R rg u0) (hp0 : (0 : Int) ≤ p0.toInt ∧ p0.toInt ≤ 3) (hp1 : (0 : Int) ≤ p1.toInt ∧ p1.toInt ≤ 7) : ac_Mi l yX6_tryGo (.code yX6_tryGo cX6_tryGo 4 (some .int) :: TB) 4 (dC, dI) vwCl (ac_ty cA) ad cA (TN nF) [.ref (ad 24), .int p0, .int p1] u0 (fun (r : Int32) (u : ac_U) => ac_R rg u ∧ ac_Fr [(25, none)] u0 u ∧ ((0 : Int) ≤ r.toInt ∧ r.toInt ≤ 3)) := by
  refine ac_Mi.of (cc := cX6_tryGo) (maxL := 4) (ret := (some .int)) (by decide) rfl (Nat.le_of_ble_eq_true rfl) ?_
  intro p e s m below meth c A ls F hml hr hlocks hA hP hD hS hl
  have F : ac_X p s m [.ref (ad 24), .int p0, .int p1].toArray c cX6_tryGo RX6 TB (dC, dI) vwCl (ac_ty cA) := ⟨F.1, F.2.1, fun w h => F.2.2.1 w (List.mem_cons_of_mem _ h), F.2.2.2.1, F.2.2.2.2⟩
  have hl : lv_has ls 4 [(0, .ref (ad 24)), (1, .int p0), (2, .int p1)] := hl
  have hF : ac_Fr [(25, none)] u0 u0 := ac_Fr.rf
  have L45 : ∀ (x3 : Int32) (u : ac_U) (H : Heap) (locs : List Loc) (ls : Array Slot), ac_R rg u → ac_Fr [(25, none)] u0 u → (0 : Int) ≤ x3.toInt ∧ x3.toInt ≤ 3 → va_P (dC, dI) vwCl (ac_w ad cA (TN nF) u) H → va_D A (ac_w ad cA (TN nF) u) → va_S A s.heap H locs → lv_has ls 4 [(3, .int x3)] → W p l e (ac_rm 4) s m [.ref (ad 24), .int p0, .int p1].toArray below meth c H locs 0 0 (MQ below (va_Qi (fun (r : Int32) (u : ac_U) => ac_R rg u ∧ ac_Fr [(25, none)] u0 u ∧ ((0 : Int) ≤ r.toInt ∧ r.toInt ≤ 3)) (ac_B (dC, dI) vwCl (ac_ty cA) ad cA (TN nF) A) A) [.ref (ad 24), .int p0, .int p1].toArray s 0 0 A) (F0 m 45 ls []) := by
    intro x3 u H locs ls hR hF f0 hP hD hS hl
    refine lv_iload_n F.1 F.2.1 dX6_tryGo_45 rfl (lv_at hl 0 rfl) ?_
    exact a_reti F hr hlocks hP hD hS dX6_tryGo_46 ⟨hR, hF, (by omega : (0 : Int) ≤ x3.toInt ∧ x3.toInt ≤ 3)⟩
  refine lv_aload_n F.1 F.2.1 dX6_tryGo_0 rfl (lv_at hl 0 rfl) ?_
  refine lv_iload_n F.1 F.2.1 dX6_tryGo_1 rfl (lv_at hl 1 rfl) ?_
  refine lv_iload_n F.1 F.2.1 dX6_tryGo_2 rfl (lv_at hl 2 rfl) ?_
  refine a_Vi F hml hl.1 hA hP hD hS (As := [.int p0, .int p1]) (c_X6_whyNotGo_24 l dC dI ad cA nF _ p0 p1 hR (by omega) (by omega)) (cs_RX6_83 (d := 3) F.2.2.1 (by decide)) tn_24 rfl rfl rfl rfl (Nat.le_of_ble_eq_true rfl) dX6_tryGo_3 ⟨Nat.le_refl 0, Nat.le_refl 0⟩ (fun r1 uN1 H locs hq hP hD hS => ?_)
  obtain ⟨hu1, gr1⟩ := hq
  rw [hu1] at hP hD
  refine lv_istore_n (lv' := [(3, .int r1), (0, .ref (ad 24)), (1, .int p0), (2, .int p1)]) F.1 F.2.1 dX6_tryGo_6 rfl hl (by decide) rfl (fun ls hl => ?_)
  refine lv_iload_n F.1 F.2.1 dX6_tryGo_7 rfl (lv_at hl 0 rfl) ?_
  refine z_ne F 45 dX6_tryGo_8 (by decide) rfl (fun c2 => ?_) (fun c2 => ?_)
  · exact L45 r1 _ _ _ _ hR hF (by omega) hP hD hS (lv_sub hl [0] rfl)
  · refine lv_aload_n F.1 F.2.1 dX6_tryGo_11 rfl (lv_at hl 1 rfl) ?_
    refine a_getr F inX6 hP 24 1 tn_24 rfl rfl (by decide) q272 (fun _ h9 => h9) dX6_tryGo_12 ?_
    refine a_ic F (1 : Int32) dX6_tryGo_15 (by decide) ?_
    refine lv_dup2_11 F.1 F.2.1 dX6_tryGo_16 rfl rfl ?_
    refine a_ialdK F hP 25 1 tn_25 rfl rfl (i_in ic_1 (by omega)) (v := (u0.1 25 1)) rfl dX6_tryGo_17 ?_
    refine a_ic F (1 : Int32) dX6_tryGo_18 (by decide) ?_
    refine lv_iload_n F.1 F.2.1 dX6_tryGo_19 rfl (lv_at hl 2 rfl) ?_
    refine a_ishl1 F dX6_tryGo_20 rfl (lo := 0) (hi := 3) (by omega) (by decide) (fun v3 hv3 => ?_)
    have hv3 : (1 : Int) ≤ v3.toInt ∧ v3.toInt ≤ 8 := hv3
    refine a_iorU F dX6_tryGo_21 (fun v4 => ?_)
    refine a_iastK F hP hD hS 25 1 tn_25 rfl rfl (i_in ic_1 (by omega)) dX6_tryGo_22 (fun H locs hP hD hS => ?_)
    have hR := hR.si (c := 25) (k := 1) (v := v4) ⟨i_lo _, i_hi _⟩
    have hF := hF.si (c := 25) (k := 1) (v := v4) rfl
    refine lv_aload_n F.1 F.2.1 dX6_tryGo_23 rfl (lv_at hl 1 rfl) ?_
    refine a_getr F inX6 hP 24 1 tn_24 rfl rfl (by decide) q272 (fun _ h9 => h9) dX6_tryGo_24 ?_
    refine a_ic F (3 : Int32) dX6_tryGo_27 (by decide) ?_
    refine lv_iload_n F.1 F.2.1 dX6_tryGo_28 rfl (lv_at hl 2 rfl) ?_
    refine a_iadd F dX6_tryGo_29 ic_3 rfl (by omega) (fun v5 hv5 => ?_)
    refine lv_iload_n F.1 F.2.1 dX6_tryGo_30 rfl (lv_at hl 3 rfl) ?_
    refine a_iast F hP hD hS 25 tn_25 rfl (i_in rfl (by omega)) dX6_tryGo_31 (fun H locs hP hD hS => ?_)
    have hR := hR.si (c := 25) (k := v5.toNatClampNeg) (v := p1) (rs_25_3_6 (by omega) (by omega : (0 : Int) ≤ p1.toInt ∧ p1.toInt ≤ 7))
    have hF := hF.si (c := 25) (k := v5.toNatClampNeg) (v := p1) rfl
    refine lv_aload_n F.1 F.2.1 dX6_tryGo_32 rfl (lv_at hl 1 rfl) ?_
    refine a_getr F inX6 hP 24 1 tn_24 rfl rfl (by decide) q272 (fun _ h9 => h9) dX6_tryGo_33 ?_
    refine a_bp F (11 : Int32) dX6_tryGo_36 (by decide) ?_
    refine lv_iload_n F.1 F.2.1 dX6_tryGo_38 rfl (lv_at hl 2 rfl) ?_
    refine a_iadd F dX6_tryGo_39 ic_11 rfl (by omega) (fun v6 hv6 => ?_)
    refine lv_dup2_11 F.1 F.2.1 dX6_tryGo_40 rfl rfl ?_
    refine a_iald F hP 25 tn_25 rfl (i_in rfl (by omega)) dX6_tryGo_41 (fun v7 ev7 => ?_)
    refine a_ic F (1 : Int32) dX6_tryGo_42 (by decide) ?_
    refine a_iaddU F dX6_tryGo_43 (fun v8 => ?_)
    refine a_iast F hP hD hS 25 tn_25 rfl (i_in rfl (by omega)) dX6_tryGo_44 (fun H locs hP hD hS => ?_)
    have hR := hR.si (c := 25) (k := v6.toNatClampNeg) (v := v8) (rs_25_11_14 (by omega) ⟨i_lo _, i_hi _⟩)
    have hF := hF.si (c := 25) (k := v6.toNatClampNeg) (v := v8) rfl
    exact L45 r1 _ _ _ _ hR hF (by omega) hP hD hS (lv_sub hl [0] rfl)
set_option maxHeartbeats 600000 in
set_option maxRecDepth 100000 in
theorem c_X2_term_4 (l : Launch) (dC : Nat → ClassId) (dI : Nat → Nat → Nat) (ad : Nat → Nat) (cA : Nat → ClassId) (nF : Nat) (u0 : ac_U) (p0 : Int32) (p1 : Int32) (hR : ac_R rg u0) (hp0 : (0 : Int) ≤ p0.toInt ∧ p0.toInt ≤ 7) (hp1 : (0 : Int) ≤ p1.toInt ∧ p1.toInt ≤ 7) : ac_Mi l yX2_term (.code yX2_term cX2_term 3 (some .int) :: TB) 1 (dC, dI) vwCl (ac_ty cA) ad cA (TN nF) [.ref (ad 4), .int p0, .int p1] u0 (fun (r : Int32) (u : ac_U) => u = u0 ∧ ((p1.toInt = 2 → 0 ≤ r.toInt ∧ r.toInt ≤ 7) ∧ (p1.toInt = 5 → 0 ≤ r.toInt ∧ r.toInt ≤ 3))) := by
  refine ac_Mi.of (cc := cX2_term) (maxL := 3) (ret := (some .int)) (by decide) rfl (Nat.le_of_ble_eq_true rfl) ?_
  intro p e s m below meth c A ls F hml hr hlocks hA hP hD hS hl
  have F : ac_X p s m [.ref (ad 4), .int p0, .int p1].toArray c cX2_term RX2 TB (dC, dI) vwCl (ac_ty cA) := ⟨F.1, F.2.1, fun w h => F.2.2.1 w (List.mem_cons_of_mem _ h), F.2.2.2.1, F.2.2.2.2⟩
  have hl : lv_has ls 3 [(0, .ref (ad 4)), (1, .int p0), (2, .int p1)] := hl
  refine lv_aload_n F.1 F.2.1 dX2_term_0 rfl (lv_at hl 0 rfl) ?_
  refine a_getr F inX2 hP 4 12 tn_4 rfl rfl (by decide) q195 (fun _ h9 => h9) dX2_term_1 ?_
  refine lv_iload_n F.1 F.2.1 dX2_term_4 rfl (lv_at hl 1 rfl) ?_
  refine a_bp F (8 : Int32) dX2_term_5 (by decide) ?_
  refine a_imul F dX2_term_7 rfl ic_8 (by omega) (fun v1 hv1 => ?_)
  refine lv_iload_n F.1 F.2.1 dX2_term_8 rfl (lv_at hl 2 rfl) ?_
  refine a_iadd F dX2_term_9 rfl rfl (by omega) (fun v2 hv2 => ?_)
  refine a_iald F hP 8 tn_8 rfl (i_in rfl (by omega)) dX2_term_10 (fun v3 ev3 => ?_)
  have hm2 : p1.toInt = 2 → 0 ≤ v3.toInt ∧ v3.toInt ≤ 7 := fun h => tm_w hR ev3 (q := p0.toInt) (w := 2) (by omega) (by decide) (by omega)
  have hm5 : p1.toInt = 5 → 0 ≤ v3.toInt ∧ v3.toInt ≤ 3 := fun h => tm_w hR ev3 (q := p0.toInt) (w := 5) (by omega) (by decide) (by omega)
  exact a_reti F hr hlocks hP hD hS dX2_term_11 ⟨rfl, (by omega : (p1.toInt = 2 → 0 ≤ v3.toInt ∧ v3.toInt ≤ 7) ∧ (p1.toInt = 5 → 0 ≤ v3.toInt ∧ v3.toInt ≤ 3))⟩
set_option maxHeartbeats 600000 in
set_option maxRecDepth 100000 in
theorem c_X6_whyNotSay_24 (l : Launch) (dC : Nat → ClassId) (dI : Nat → Nat → Nat) (ad : Nat → Nat) (cA : Nat → ClassId) (nF : Nat) (u0 : ac_U) (p0 : Int32) (p1 : Int32) (hR : ac_R rg u0) (hp0 : (0 : Int) ≤ p0.toInt ∧ p0.toInt ≤ 3) (hp1 : (0 : Int) ≤ p1.toInt ∧ p1.toInt ≤ 7) : ac_Mi l yX6_whyNotSay (.code yX6_whyNotSay cX6_whyNotSay 3 (some .int) :: TB) 3 (dC, dI) vwCl (ac_ty cA) ad cA (TN nF) [.ref (ad 24), .int p0, .int p1] u0 (fun (r : Int32) (u : ac_U) => u = u0 ∧ ((0 : Int) ≤ r.toInt ∧ r.toInt ≤ 6)) := by
  refine ac_Mi.of (cc := cX6_whyNotSay) (maxL := 3) (ret := (some .int)) (by decide) rfl (Nat.le_of_ble_eq_true rfl) ?_
  intro p e s m below meth c A ls F hml hr hlocks hA hP hD hS hl
  have F : ac_X p s m [.ref (ad 24), .int p0, .int p1].toArray c cX6_whyNotSay RX6 TB (dC, dI) vwCl (ac_ty cA) := ⟨F.1, F.2.1, fun w h => F.2.2.1 w (List.mem_cons_of_mem _ h), F.2.2.2.1, F.2.2.2.2⟩
  have hl : lv_has ls 3 [(0, .ref (ad 24)), (1, .int p0), (2, .int p1)] := hl
  refine lv_aload_n F.1 F.2.1 dX6_whyNotSay_0 rfl (lv_at hl 0 rfl) ?_
  refine a_Vi F hml hl.1 hA hP hD hS (As := []) (c_X6_isOver_24 l dC dI ad cA nF _  hR) (cs_RX6_76 (d := 2) F.2.2.1 (by decide)) tn_24 rfl rfl rfl rfl (Nat.le_of_ble_eq_true rfl) dX6_whyNotSay_1 ⟨Nat.le_refl 0, Nat.le_refl 0⟩ (fun r1 uN1 H locs hq hP hD hS => ?_)
  obtain ⟨hu1, gr1, xr1⟩ := hq
  rw [hu1] at hP hD
  have g2 : (0 : Int) ≤ (u0.1 25 0).toInt ∧ (u0.1 25 0).toInt ≤ 480 := hR 25 0
  have g3 : (4 : Int) ≤ (u0.1 4 0).toInt ∧ (u0.1 4 0).toInt ≤ 24 := hR 4 0
  have xr1 : r1.toInt = 0 → (u0.1 25 0).toInt < 20 * (u0.1 4 0).toInt := xr1
  refine z_eq F 9 dX6_whyNotSay_4 (by decide) rfl (fun c4 => ?_) (fun c4 => ?_)
  · refine lv_aload_n F.1 F.2.1 dX6_whyNotSay_9 rfl (lv_at hl 0 rfl) ?_
    refine a_getr F inX6 hP 24 0 tn_24 rfl rfl (by decide) q271 (fun _ h9 => h9) dX6_whyNotSay_10 ?_
    refine lv_iload_n F.1 F.2.1 dX6_whyNotSay_13 rfl (lv_at hl 2 rfl) ?_
    refine a_ic F (0 : Int32) dX6_whyNotSay_14 (by decide) ?_
    refine a_Vi F hml hl.1 hA hP hD hS (As := [.int p1, .int (0 : Int32)]) (c_X2_term_4 l dC dI ad cA nF _ p1 (0 : Int32) hR (by omega) (by decide)) (cs_RX6_80 (d := 1) F.2.2.1 (by decide)) tn_4 rfl rfl rfl rfl (Nat.le_of_ble_eq_true rfl) dX6_whyNotSay_15 ⟨Nat.le_refl 0, Nat.le_refl 0⟩ (fun r5 uN5 H locs hq hP hD hS => ?_)
    obtain ⟨hu5, xr5⟩ := hq
    rw [hu5] at hP hD
    have xr5 : ((0 : Int) = 2 → 0 ≤ r5.toInt ∧ r5.toInt ≤ 7) ∧ ((0 : Int) = 5 → 0 ≤ r5.toInt ∧ r5.toInt ≤ 3) := xr5
    refine lv_iload_n F.1 F.2.1 dX6_whyNotSay_18 rfl (lv_at hl 1 rfl) ?_
    refine b_eq F 24 dX6_whyNotSay_19 (by decide) rfl rfl (fun c6 => ?_) (fun c6 => ?_)
    · refine lv_aload_n F.1 F.2.1 dX6_whyNotSay_24 rfl (lv_at hl 0 rfl) ?_
      refine a_getr F inX6 hP 24 1 tn_24 rfl rfl (by decide) q272 (fun _ h9 => h9) dX6_whyNotSay_25 ?_
      refine a_bp F (15 : Int32) dX6_whyNotSay_28 (by decide) ?_
      refine lv_iload_n F.1 F.2.1 dX6_whyNotSay_30 rfl (lv_at hl 2 rfl) ?_
      refine a_iadd F dX6_whyNotSay_31 ic_15 rfl (by omega) (fun v7 hv7 => ?_)
      refine a_iald F hP 25 tn_25 rfl (i_in rfl (by omega)) dX6_whyNotSay_32 (fun v8 ev8 => ?_)
      have hv8 : (-1 : Int) ≤ v8.toInt ∧ v8.toInt ≤ 480 := rg_seg_25_15_22 hR ev8 (by omega)
      refine a_ic F (-1 : Int32) dX6_whyNotSay_33 (by decide) ?_
      refine b_eq F 42 dX6_whyNotSay_34 (by decide) rfl ic_m1 (fun c9 => ?_) (fun c9 => ?_)
      · refine a_ic F (0 : Int32) dX6_whyNotSay_42 (by decide) ?_
        exact a_reti F hr hlocks hP hD hS dX6_whyNotSay_43 ⟨rfl, (by decide)⟩
      · refine a_bp F (6 : Int32) dX6_whyNotSay_37 (by decide) ?_
        refine lv_goto (tgt := 43) F.1 F.2.1 dX6_whyNotSay_39 (by decide) ?_
        exact a_reti F hr hlocks hP hD hS dX6_whyNotSay_43 ⟨rfl, (by decide)⟩
    · refine a_ic F (5 : Int32) dX6_whyNotSay_22 (by decide) ?_
      exact a_reti F hr hlocks hP hD hS dX6_whyNotSay_23 ⟨rfl, (by decide)⟩
  · refine a_ic F (3 : Int32) dX6_whyNotSay_7 (by decide) ?_
    exact a_reti F hr hlocks hP hD hS dX6_whyNotSay_8 ⟨rfl, (by decide)⟩
set_option maxHeartbeats 600000 in
set_option maxRecDepth 100000 in
theorem c_X6_trySay_24 (l : Launch) (dC : Nat → ClassId) (dI : Nat → Nat → Nat) (ad : Nat → Nat) (cA : Nat → ClassId) (nF : Nat) (u0 : ac_U) (p0 : Int32) (p1 : Int32) (hR : ac_R rg u0) (hp0 : (0 : Int) ≤ p0.toInt ∧ p0.toInt ≤ 3) (hp1 : (0 : Int) ≤ p1.toInt ∧ p1.toInt ≤ 7) : ac_Mi l yX6_trySay (.code yX6_trySay cX6_trySay 4 (some .int) :: TB) 4 (dC, dI) vwCl (ac_ty cA) ad cA (TN nF) [.ref (ad 24), .int p0, .int p1] u0 (fun (r : Int32) (u : ac_U) => ac_R rg u ∧ ac_Fr [(25, none)] u0 u ∧ ((0 : Int) ≤ r.toInt ∧ r.toInt ≤ 6)) := by
  refine ac_Mi.of (cc := cX6_trySay) (maxL := 4) (ret := (some .int)) (by decide) rfl (Nat.le_of_ble_eq_true rfl) ?_
  intro p e s m below meth c A ls F hml hr hlocks hA hP hD hS hl
  have F : ac_X p s m [.ref (ad 24), .int p0, .int p1].toArray c cX6_trySay RX6 TB (dC, dI) vwCl (ac_ty cA) := ⟨F.1, F.2.1, fun w h => F.2.2.1 w (List.mem_cons_of_mem _ h), F.2.2.2.1, F.2.2.2.2⟩
  have hl : lv_has ls 4 [(0, .ref (ad 24)), (1, .int p0), (2, .int p1)] := hl
  have hF : ac_Fr [(25, none)] u0 u0 := ac_Fr.rf
  have L43 : ∀ (x3 : Int32) (u : ac_U) (H : Heap) (locs : List Loc) (ls : Array Slot), ac_R rg u → ac_Fr [(25, none)] u0 u → (0 : Int) ≤ x3.toInt ∧ x3.toInt ≤ 6 → va_P (dC, dI) vwCl (ac_w ad cA (TN nF) u) H → va_D A (ac_w ad cA (TN nF) u) → va_S A s.heap H locs → lv_has ls 4 [(3, .int x3)] → W p l e (ac_rm 4) s m [.ref (ad 24), .int p0, .int p1].toArray below meth c H locs 0 0 (MQ below (va_Qi (fun (r : Int32) (u : ac_U) => ac_R rg u ∧ ac_Fr [(25, none)] u0 u ∧ ((0 : Int) ≤ r.toInt ∧ r.toInt ≤ 6)) (ac_B (dC, dI) vwCl (ac_ty cA) ad cA (TN nF) A) A) [.ref (ad 24), .int p0, .int p1].toArray s 0 0 A) (F0 m 43 ls []) := by
    intro x3 u H locs ls hR hF f0 hP hD hS hl
    refine lv_iload_n F.1 F.2.1 dX6_trySay_43 rfl (lv_at hl 0 rfl) ?_
    exact a_reti F hr hlocks hP hD hS dX6_trySay_44 ⟨hR, hF, (by omega : (0 : Int) ≤ x3.toInt ∧ x3.toInt ≤ 6)⟩
  refine lv_aload_n F.1 F.2.1 dX6_trySay_0 rfl (lv_at hl 0 rfl) ?_
  refine lv_iload_n F.1 F.2.1 dX6_trySay_1 rfl (lv_at hl 1 rfl) ?_
  refine lv_iload_n F.1 F.2.1 dX6_trySay_2 rfl (lv_at hl 2 rfl) ?_
  refine a_Vi F hml hl.1 hA hP hD hS (As := [.int p0, .int p1]) (c_X6_whyNotSay_24 l dC dI ad cA nF _ p0 p1 hR (by omega) (by omega)) (cs_RX6_90 (d := 3) F.2.2.1 (by decide)) tn_24 rfl rfl rfl rfl (Nat.le_of_ble_eq_true rfl) dX6_trySay_3 ⟨Nat.le_refl 0, Nat.le_refl 0⟩ (fun r1 uN1 H locs hq hP hD hS => ?_)
  obtain ⟨hu1, gr1⟩ := hq
  rw [hu1] at hP hD
  refine lv_istore_n (lv' := [(3, .int r1), (0, .ref (ad 24)), (1, .int p0), (2, .int p1)]) F.1 F.2.1 dX6_trySay_6 rfl hl (by decide) rfl (fun ls hl => ?_)
  refine lv_iload_n F.1 F.2.1 dX6_trySay_7 rfl (lv_at hl 0 rfl) ?_
  refine z_ne F 43 dX6_trySay_8 (by decide) rfl (fun c2 => ?_) (fun c2 => ?_)
  · exact L43 r1 _ _ _ _ hR hF (by omega) hP hD hS (lv_sub hl [0] rfl)
  · refine lv_aload_n F.1 F.2.1 dX6_trySay_11 rfl (lv_at hl 1 rfl) ?_
    refine a_getr F inX6 hP 24 1 tn_24 rfl rfl (by decide) q272 (fun _ h9 => h9) dX6_trySay_12 ?_
    refine a_bp F (15 : Int32) dX6_trySay_15 (by decide) ?_
    refine lv_iload_n F.1 F.2.1 dX6_trySay_17 rfl (lv_at hl 3 rfl) ?_
    refine a_iadd F dX6_trySay_18 ic_15 rfl (by omega) (fun v3 hv3 => ?_)
    refine lv_aload_n F.1 F.2.1 dX6_trySay_19 rfl (lv_at hl 1 rfl) ?_
    refine a_getr F inX6 hP 24 1 tn_24 rfl rfl (by decide) q272 (fun _ h9 => h9) dX6_trySay_20 ?_
    refine a_ic F (0 : Int32) dX6_trySay_23 (by decide) ?_
    have g4 : (0 : Int) ≤ (u0.1 25 0).toInt ∧ (u0.1 25 0).toInt ≤ 480 := hR 25 0
    refine a_ialdK F hP 25 0 tn_25 rfl rfl (i_in ic_0 (by omega)) (v := (u0.1 25 0)) rfl dX6_trySay_24 ?_
    refine a_iast F hP hD hS 25 tn_25 rfl (i_in rfl (by omega)) dX6_trySay_25 (fun H locs hP hD hS => ?_)
    have hR := hR.si (c := 25) (k := v3.toNatClampNeg) (v := (u0.1 25 0)) (rs_25_15_22 (by omega) (by omega : (-1 : Int) ≤ (u0.1 25 0).toInt ∧ (u0.1 25 0).toInt ≤ 480))
    have hF := hF.si (c := 25) (k := v3.toNatClampNeg) (v := (u0.1 25 0)) rfl
    refine lv_aload_n F.1 F.2.1 dX6_trySay_26 rfl (lv_at hl 1 rfl) ?_
    refine a_getr F inX6 hP 24 1 tn_24 rfl rfl (by decide) q272 (fun _ h9 => h9) dX6_trySay_27 ?_
    refine a_bp F (23 : Int32) dX6_trySay_30 (by decide) ?_
    refine lv_iload_n F.1 F.2.1 dX6_trySay_32 rfl (lv_at hl 3 rfl) ?_
    refine a_iadd F dX6_trySay_33 ic_23 rfl (by omega) (fun v5 hv5 => ?_)
    refine lv_aload_n F.1 F.2.1 dX6_trySay_34 rfl (lv_at hl 1 rfl) ?_
    refine a_getr F inX6 hP 24 1 tn_24 rfl rfl (by decide) q272 (fun _ h9 => h9) dX6_trySay_35 ?_
    refine a_ic F (3 : Int32) dX6_trySay_38 (by decide) ?_
    refine lv_iload_n F.1 F.2.1 dX6_trySay_39 rfl (lv_at hl 2 rfl) ?_
    refine a_iadd F dX6_trySay_40 ic_3 rfl (by omega) (fun v6 hv6 => ?_)
    refine a_iald F hP 25 tn_25 rfl (i_in rfl (by omega)) dX6_trySay_41 (fun v7 ev7 => ?_)
    have hv7 : (0 : Int) ≤ v7.toInt ∧ v7.toInt ≤ 7 := rg_seg_25_3_6 hR ev7 (by omega)
    refine a_iast F hP hD hS 25 tn_25 rfl (i_in rfl (by omega)) dX6_trySay_42 (fun H locs hP hD hS => ?_)
    have hR := hR.si (c := 25) (k := v5.toNatClampNeg) (v := v7) (rs_25_23_30 (by omega) ⟨i_lo _, i_hi _⟩)
    have hF := hF.si (c := 25) (k := v5.toNatClampNeg) (v := v7) rfl
    exact L43 r1 _ _ _ _ hR hF (by omega) hP hD hS (lv_sub hl [0] rfl)
set_option maxHeartbeats 600000 in
set_option maxRecDepth 100000 in
theorem c_X1_draw_38 (l : Launch) (dC : Nat → ClassId) (dI : Nat → Nat → Nat) (ad : Nat → Nat) (cA : Nat → ClassId) (nF : Nat) (u0 : ac_U) (p0 : Int32) (hR : ac_R rg u0) (hp0 : (0 : Int) ≤ p0.toInt ∧ p0.toInt ≤ 8) : ac_Mi l yX1_draw (.code yX1_draw cX1_draw 2 (some .int) :: TB) 1 (dC, dI) vwCl (ac_ty cA) ad cA (TN nF) [.ref (ad 38), .int p0] u0 (fun (r : Int32) (u : ac_U) => ac_R rg u ∧ ac_Fr [(38, some 2)] u0 u ∧ ((0 : Int) ≤ r.toInt ∧ r.toInt ≤ 7)) := by
  refine ac_Mi.of (cc := cX1_draw) (maxL := 2) (ret := (some .int)) (by decide) rfl (Nat.le_of_ble_eq_true rfl) ?_
  intro p e s m below meth c A ls F hml hr hlocks hA hP hD hS hl
  have F : ac_X p s m [.ref (ad 38), .int p0].toArray c cX1_draw RX1 TB (dC, dI) vwCl (ac_ty cA) := ⟨F.1, F.2.1, fun w h => F.2.2.1 w (List.mem_cons_of_mem _ h), F.2.2.2.1, F.2.2.2.2⟩
  have hl : lv_has ls 2 [(0, .ref (ad 38)), (1, .int p0)] := hl
  have hF : ac_Fr [(38, some 2)] u0 u0 := ac_Fr.rf
  refine lv_aload_n F.1 F.2.1 dX1_draw_0 rfl (lv_at hl 0 rfl) ?_
  refine lv_aload_n F.1 F.2.1 dX1_draw_1 rfl (lv_at hl 0 rfl) ?_
  refine a_geti F inX1 hP 38 2 tn_38 rfl rfl (by decide) q385 (fun _ h9 => h9) (v := (u0.1 38 2)) rfl dX1_draw_2 ?_
  refine lv_ldc (v := (1103515245 : Int32)) F.1 F.2.1 F.2.2.2.1 (F.2.2.1 _ q1186) dX1_draw_5 ?_
  refine a_imulU F dX1_draw_7 (fun v1 => ?_)
  refine a_sp F (12345 : Int32) dX1_draw_8 (by decide) ?_
  refine a_iaddU F dX1_draw_11 (fun v2 => ?_)
  refine a_puti F inX1 tyX1 tyX1_ok nmX1 hP hD hS 38 2 tn_38 rfl rfl (by decide) q385 (fun _ h9 => h9) rfl (ty := .int) (tyX1_ok 2 (by decide)) rfl rfl dX1_draw_12 (fun H locs hP hD hS => ?_)
  have hR := hR.si (c := 38) (k := 2) (v := v2) ⟨i_lo _, i_hi _⟩
  have hF := hF.si (c := 38) (k := 2) (v := v2) rfl
  refine lv_iload_n F.1 F.2.1 dX1_draw_15 rfl (lv_at hl 1 rfl) ?_
  refine z_le F 31 dX1_draw_16 (by decide) rfl (fun c3 => ?_) (fun c3 => ?_)
  · refine a_ic F (0 : Int32) dX1_draw_31 (by decide) ?_
    exact a_reti F hr hlocks hP hD hS dX1_draw_32 ⟨hR, hF, (by decide)⟩
  · refine lv_aload_n F.1 F.2.1 dX1_draw_19 rfl (lv_at hl 0 rfl) ?_
    refine a_geti F inX1 hP 38 2 tn_38 rfl rfl (by decide) q385 (fun _ h9 => h9) (v := v2) (rfl) dX1_draw_20 ?_
    refine a_bp F (8 : Int32) dX1_draw_23 (by decide) ?_
    refine a_iushrC F dX1_draw_25 (n := 8) (by decide) (by decide) (fun v4 hv4 => ?_)
    have hv4 : (0 : Int) ≤ v4.toInt ∧ v4.toInt ≤ 16777215 := hv4
    refine lv_iload_n F.1 F.2.1 dX1_draw_26 rfl (lv_at hl 1 rfl) ?_
    refine a_irem F dX1_draw_27 rfl rfl (by omega) (fun v5 hv5 => ?_)
    refine lv_goto (tgt := 32) F.1 F.2.1 dX1_draw_28 (by decide) ?_
    exact a_reti F hr hlocks hP hD hS dX1_draw_32 ⟨hR, hF, (by omega : (0 : Int) ≤ v5.toInt ∧ v5.toInt ≤ 7)⟩
set_option maxHeartbeats 600000 in
set_option maxRecDepth 100000 in
theorem c_X1_drawFor_38 (l : Launch) (dC : Nat → ClassId) (dI : Nat → Nat → Nat) (ad : Nat → Nat) (cA : Nat → ClassId) (nF : Nat) (u0 : ac_U) (p0 : Int32) (hR : ac_R rg u0) (hp0 : (0 : Int) ≤ p0.toInt ∧ p0.toInt ≤ 3) : ac_Mv l yX1_drawFor (.code yX1_drawFor cX1_drawFor 3 none :: TB) 5 (dC, dI) vwCl (ac_ty cA) ad cA (TN nF) [.ref (ad 38), .int p0] u0 (fun (u : ac_U) => ac_R rg u ∧ ac_Fr [(25, none), (26, none), (38, some 2)] u0 u) := by
  refine ac_Mv.of (cc := cX1_drawFor) (maxL := 3) (ret := none) (by decide) rfl (Nat.le_of_ble_eq_true rfl) ?_
  intro p e s m below meth c A ls F hml hr hlocks hA hP hD hS hl
  have F : ac_X p s m [.ref (ad 38), .int p0].toArray c cX1_drawFor RX1 TB (dC, dI) vwCl (ac_ty cA) := ⟨F.1, F.2.1, fun w h => F.2.2.1 w (List.mem_cons_of_mem _ h), F.2.2.2.1, F.2.2.2.2⟩
  have hl : lv_has ls 3 [(0, .ref (ad 38)), (1, .int p0)] := hl
  have hF : ac_Fr [(25, none), (26, none), (38, some 2)] u0 u0 := ac_Fr.rf
  have L71 : ∀ (x2 : Int32) (u : ac_U) (H : Heap) (locs : List Loc) (ls : Array Slot), ac_R rg u → ac_Fr [(25, none), (26, none), (38, some 2)] u0 u → (1 : Int) ≤ x2.toInt ∧ x2.toInt ≤ 7 → va_P (dC, dI) vwCl (ac_w ad cA (TN nF) u) H → va_D A (ac_w ad cA (TN nF) u) → va_S A s.heap H locs → lv_has ls 3 [(0, .ref (ad 38)), (1, .int p0), (2, .int x2)] → W p l e (ac_rm 5) s m [.ref (ad 38), .int p0].toArray below meth c H locs 0 0 (MQ below (va_Qv (fun (u : ac_U) => ac_R rg u ∧ ac_Fr [(25, none), (26, none), (38, some 2)] u0 u) (ac_B (dC, dI) vwCl (ac_ty cA) ad cA (TN nF) A) A) [.ref (ad 38), .int p0].toArray s 0 0 A) (F0 m 71 ls []) := by
    intro x2 u H locs ls hR hF f0 hP hD hS hl
    refine lv_iload_n F.1 F.2.1 dX1_drawFor_71 rfl (lv_at hl 2 rfl) ?_
    refine a_ic F (2 : Int32) dX1_drawFor_72 (by decide) ?_
    refine b_ne F 106 dX1_drawFor_73 (by decide) rfl ic_2 (fun c1 => ?_) (fun c1 => ?_)
    · exact a_retv F hr hlocks hP hD hS dX1_drawFor_106 ⟨hR, hF⟩
    · refine lv_aload_n F.1 F.2.1 dX1_drawFor_76 rfl (lv_at hl 0 rfl) ?_
      refine a_getr F inX1 hP 38 0 tn_38 rfl rfl (by decide) q383 (fun _ h9 => h9) dX1_drawFor_77 ?_
      have g2 : (0 : Int) ≤ (u.1 4 6).toInt ∧ (u.1 4 6).toInt ≤ 8 := hR 4 6
      refine a_geti F inX2 hP 4 6 tn_4 rfl rfl (by decide) q179 (fun _ h9 => h9) (v := (u.1 4 6)) rfl dX1_drawFor_80 ?_
      refine z_le F 106 dX1_drawFor_83 (by decide) rfl (fun c3 => ?_) (fun c3 => ?_)
      · exact a_retv F hr hlocks hP hD hS dX1_drawFor_106 ⟨hR, hF⟩
      · refine lv_aload_n F.1 F.2.1 dX1_drawFor_86 rfl (lv_at hl 0 rfl) ?_
        refine a_getr F inX1 hP 38 1 tn_38 rfl rfl (by decide) q384 (fun _ h9 => h9) dX1_drawFor_87 ?_
        refine lv_iload_n F.1 F.2.1 dX1_drawFor_90 rfl (lv_at hl 1 rfl) ?_
        refine lv_aload_n F.1 F.2.1 dX1_drawFor_91 rfl (lv_at hl 0 rfl) ?_
        refine lv_aload_n F.1 F.2.1 dX1_drawFor_92 rfl (lv_at hl 0 rfl) ?_
        refine a_getr F inX1 hP 38 0 tn_38 rfl rfl (by decide) q383 (fun _ h9 => h9) dX1_drawFor_93 ?_
        refine a_geti F inX2 hP 4 6 tn_4 rfl rfl (by decide) q179 (fun _ h9 => h9) (v := (u.1 4 6)) (rfl) dX1_drawFor_96 ?_
        refine a_Vi F hml hl.1 hA hP hD hS (As := [.int (u.1 4 6)]) (c_X1_draw_38 l dC dI ad cA nF _ (u.1 4 6) hR (by omega)) (cs_RX1_47 (d := 1) F.2.2.1 (by decide)) tn_38 rfl rfl rfl rfl (Nat.le_of_ble_eq_true rfl) dX1_drawFor_99 ⟨Nat.le_refl 0, Nat.le_refl 0⟩ (fun r4 u4 H locs hq hP hD hS => ?_)
        obtain ⟨hR, hF4, gr4⟩ := hq
        have hF := hF.tr hF4 (by decide)
        refine a_Vi F hml hl.1 hA hP hD hS (As := [.int p0, .int r4]) (c_X6_trySay_24 l dC dI ad cA nF _ p0 r4 hR (by omega) (by omega)) (cs_RX1_65 (d := 4) F.2.2.1 (by decide)) tn_24 rfl rfl rfl rfl (Nat.le_of_ble_eq_true rfl) dX1_drawFor_102 ⟨Nat.le_refl 0, Nat.le_refl 0⟩ (fun r5 u5 H locs hq hP hD hS => ?_)
        obtain ⟨hR, hF5, gr5⟩ := hq
        have hF := hF.tr hF5 (by decide)
        refine lv_pop F.1 F.2.1 dX1_drawFor_105 rfl ?_
        exact a_retv F hr hlocks hP hD hS dX1_drawFor_106 ⟨hR, hF⟩
  refine lv_aload_n F.1 F.2.1 dX1_drawFor_0 rfl (lv_at hl 0 rfl) ?_
  refine a_ic F (3 : Int32) dX1_drawFor_1 (by decide) ?_
  refine a_Vi F hml hl.1 hA hP hD hS (As := [.int (3 : Int32)]) (c_X1_draw_38 l dC dI ad cA nF _ (3 : Int32) hR (by decide)) (cs_RX1_47 (d := 1) F.2.2.1 (by decide)) tn_38 rfl rfl rfl rfl (Nat.le_of_ble_eq_true rfl) dX1_drawFor_2 ⟨Nat.le_refl 0, Nat.le_refl 0⟩ (fun r6 u6 H locs hq hP hD hS => ?_)
  obtain ⟨hR, hF6, gr6⟩ := hq
  have hF := hF.tr hF6 (by decide)
  refine lv_istore_n (lv' := [(2, .int r6), (0, .ref (ad 38)), (1, .int p0)]) F.1 F.2.1 dX1_drawFor_5 rfl hl (by decide) rfl (fun ls hl => ?_)
  refine lv_iload_n F.1 F.2.1 dX1_drawFor_6 rfl (lv_at hl 0 rfl) ?_
  refine z_ne F 33 dX1_drawFor_7 (by decide) rfl (fun c7 => ?_) (fun c7 => ?_)
  · refine lv_iload_n F.1 F.2.1 dX1_drawFor_33 rfl (lv_at hl 0 rfl) ?_
    refine a_ic F (1 : Int32) dX1_drawFor_34 (by decide) ?_
    refine b_ne F 71 dX1_drawFor_35 (by decide) rfl ic_1 (fun c8 => ?_) (fun c8 => ?_)
    · exact L71 r6 _ _ _ _ hR hF (by omega) hP hD hS (lv_sub hl [1, 2, 0] rfl)
    · refine lv_aload_n F.1 F.2.1 dX1_drawFor_38 rfl (lv_at hl 1 rfl) ?_
      refine a_getr F inX1 hP 38 0 tn_38 rfl rfl (by decide) q383 (fun _ h9 => h9) dX1_drawFor_39 ?_
      have g9 : (0 : Int) ≤ (u6.1 4 5).toInt ∧ (u6.1 4 5).toInt ≤ 6 := hR 4 5
      refine a_geti F inX2 hP 4 5 tn_4 rfl rfl (by decide) q174 (fun _ h9 => h9) (v := (u6.1 4 5)) rfl dX1_drawFor_42 ?_
      refine z_le F 71 dX1_drawFor_45 (by decide) rfl (fun c10 => ?_) (fun c10 => ?_)
      · exact L71 r6 _ _ _ _ hR hF (by omega) hP hD hS (lv_sub hl [1, 2, 0] rfl)
      · refine lv_aload_n F.1 F.2.1 dX1_drawFor_48 rfl (lv_at hl 1 rfl) ?_
        refine a_getr F inX1 hP 38 1 tn_38 rfl rfl (by decide) q384 (fun _ h9 => h9) dX1_drawFor_49 ?_
        refine lv_iload_n F.1 F.2.1 dX1_drawFor_52 rfl (lv_at hl 2 rfl) ?_
        refine lv_aload_n F.1 F.2.1 dX1_drawFor_53 rfl (lv_at hl 1 rfl) ?_
        refine lv_aload_n F.1 F.2.1 dX1_drawFor_54 rfl (lv_at hl 1 rfl) ?_
        refine a_getr F inX1 hP 38 0 tn_38 rfl rfl (by decide) q383 (fun _ h9 => h9) dX1_drawFor_55 ?_
        refine a_geti F inX2 hP 4 5 tn_4 rfl rfl (by decide) q174 (fun _ h9 => h9) (v := (u6.1 4 5)) (rfl) dX1_drawFor_58 ?_
        refine a_Vi F hml hl.1 hA hP hD hS (As := [.int (u6.1 4 5)]) (c_X1_draw_38 l dC dI ad cA nF _ (u6.1 4 5) hR (by omega)) (cs_RX1_47 (d := 1) F.2.2.1 (by decide)) tn_38 rfl rfl rfl rfl (Nat.le_of_ble_eq_true rfl) dX1_drawFor_61 ⟨Nat.le_refl 0, Nat.le_refl 0⟩ (fun r11 u11 H locs hq hP hD hS => ?_)
        obtain ⟨hR, hF11, gr11⟩ := hq
        have hF := hF.tr hF11 (by decide)
        refine a_Vi F hml hl.1 hA hP hD hS (As := [.int p0, .int r11]) (c_X6_tryDo_24 l dC dI ad cA nF _ p0 r11 hR (by omega)) (cs_RX1_59 (d := 4) F.2.2.1 (by decide)) tn_24 rfl rfl rfl rfl (Nat.le_of_ble_eq_true rfl) dX1_drawFor_64 ⟨Nat.le_refl 0, Nat.le_refl 0⟩ (fun r12 u12 H locs hq hP hD hS => ?_)
        obtain ⟨hR, hF12, gr12⟩ := hq
        have hF := hF.tr hF12 (by decide)
        refine lv_pop F.1 F.2.1 dX1_drawFor_67 rfl ?_
        refine lv_goto (tgt := 106) F.1 F.2.1 dX1_drawFor_68 (by decide) ?_
        exact a_retv F hr hlocks hP hD hS dX1_drawFor_106 ⟨hR, hF⟩
  · refine lv_aload_n F.1 F.2.1 dX1_drawFor_10 rfl (lv_at hl 1 rfl) ?_
    refine a_getr F inX1 hP 38 1 tn_38 rfl rfl (by decide) q384 (fun _ h9 => h9) dX1_drawFor_11 ?_
    refine lv_iload_n F.1 F.2.1 dX1_drawFor_14 rfl (lv_at hl 2 rfl) ?_
    refine lv_aload_n F.1 F.2.1 dX1_drawFor_15 rfl (lv_at hl 1 rfl) ?_
    refine lv_aload_n F.1 F.2.1 dX1_drawFor_16 rfl (lv_at hl 1 rfl) ?_
    refine a_getr F inX1 hP 38 0 tn_38 rfl rfl (by decide) q383 (fun _ h9 => h9) dX1_drawFor_17 ?_
    have g13 : (0 : Int) ≤ (u6.1 4 1).toInt ∧ (u6.1 4 1).toInt ≤ 8 := hR 4 1
    refine a_geti F inX2 hP 4 1 tn_4 rfl rfl (by decide) q159 (fun _ h9 => h9) (v := (u6.1 4 1)) rfl dX1_drawFor_20 ?_
    refine a_Vi F hml hl.1 hA hP hD hS (As := [.int (u6.1 4 1)]) (c_X1_draw_38 l dC dI ad cA nF _ (u6.1 4 1) hR (by omega)) (cs_RX1_47 (d := 1) F.2.2.1 (by decide)) tn_38 rfl rfl rfl rfl (Nat.le_of_ble_eq_true rfl) dX1_drawFor_23 ⟨Nat.le_refl 0, Nat.le_refl 0⟩ (fun r14 u14 H locs hq hP hD hS => ?_)
    obtain ⟨hR, hF14, gr14⟩ := hq
    have hF := hF.tr hF14 (by decide)
    refine a_Vi F hml hl.1 hA hP hD hS (As := [.int p0, .int r14]) (c_X6_tryGo_24 l dC dI ad cA nF _ p0 r14 hR (by omega) (by omega)) (cs_RX1_53 (d := 4) F.2.2.1 (by decide)) tn_24 rfl rfl rfl rfl (Nat.le_of_ble_eq_true rfl) dX1_drawFor_26 ⟨Nat.le_refl 0, Nat.le_refl 0⟩ (fun r15 u15 H locs hq hP hD hS => ?_)
    obtain ⟨hR, hF15, gr15⟩ := hq
    have hF := hF.tr hF15 (by decide)
    refine lv_pop F.1 F.2.1 dX1_drawFor_29 rfl ?_
    refine lv_goto (tgt := 106) F.1 F.2.1 dX1_drawFor_30 (by decide) ?_
    exact a_retv F hr hlocks hP hD hS dX1_drawFor_106 ⟨hR, hF⟩
set_option maxHeartbeats 600000 in
set_option maxRecDepth 100000 in
theorem c_X1_passDrawn_38 (l : Launch) (dC : Nat → ClassId) (dI : Nat → Nat → Nat) (ad : Nat → Nat) (cA : Nat → ClassId) (nF : Nat) (u0 : ac_U) (p0 : Int32) (p1 : Int32) (hR : ac_R rg u0) (hp0 : (1 : Int) ≤ p0.toInt ∧ p0.toInt ≤ 99) : ac_Mi l yX1_passDrawn (.code yX1_passDrawn cX1_passDrawn 6 (some .int) :: TB) 6 (dC, dI) vwCl (ac_ty cA) ad cA (TN nF) [.ref (ad 38), .int p0, .int p1] u0 (fun (r : Int32) (u : ac_U) => ac_R rg u ∧ ac_Fr [(25, none), (26, none), (38, some 2)] u0 u ∧ ((-400 : Int) ≤ r.toInt ∧ r.toInt ≤ 99)) := by
  refine ac_Mi.of (cc := cX1_passDrawn) (maxL := 6) (ret := (some .int)) (by decide) rfl (Nat.le_of_ble_eq_true rfl) ?_
  intro p e s m below meth c A ls F hml hr hlocks hA hP hD hS hl
  have F : ac_X p s m [.ref (ad 38), .int p0, .int p1].toArray c cX1_passDrawn RX1 TB (dC, dI) vwCl (ac_ty cA) := ⟨F.1, F.2.1, fun w h => F.2.2.1 w (List.mem_cons_of_mem _ h), F.2.2.2.1, F.2.2.2.2⟩
  have hl : lv_has ls 6 [(0, .ref (ad 38)), (1, .int p0), (2, .int p1)] := hl
  have hF : ac_Fr [(25, none), (26, none), (38, some 2)] u0 u0 := ac_Fr.rf
  have L20 : ∀ (n20 : Nat) (x3 : Int32) (x4 : Int32) (u : ac_U) (H : Heap) (locs : List Loc) (ls : Array Slot), ac_R rg u → ac_Fr [(25, none), (26, none), (38, some 2)] u0 u → 100 - x4.toInt < (n20 : Int) → (-400 : Int) ≤ x3.toInt ∧ x3.toInt ≤ 99 → (0 : Int) ≤ x4.toInt ∧ x4.toInt ≤ 100 → va_P (dC, dI) vwCl (ac_w ad cA (TN nF) u) H → va_D A (ac_w ad cA (TN nF) u) → va_S A s.heap H locs → lv_has ls 6 [(0, .ref (ad 38)), (3, .int x3), (4, .int x4)] → W p l e (ac_rm 6) s m [.ref (ad 38), .int p0, .int p1].toArray below meth c H locs 0 0 (MQ below (va_Qi (fun (r : Int32) (u : ac_U) => ac_R rg u ∧ ac_Fr [(25, none), (26, none), (38, some 2)] u0 u ∧ ((-400 : Int) ≤ r.toInt ∧ r.toInt ≤ 99)) (ac_B (dC, dI) vwCl (ac_ty cA) ad cA (TN nF) A) A) [.ref (ad 38), .int p0, .int p1].toArray s 0 0 A) (F0 m 20 ls []) := by
    intro n20
    induction n20 with
    | zero => intro x3 x4 u H locs ls hR hF hn20 f0 f1 hP hD hS hl; exfalso; omega
    | succ n20 ih20 =>
      intro x3 x4 u H locs ls hR hF hn20 f0 f1 hP hD hS hl
      have L29 : ∀ (n29 : Nat) (x3 : Int32) (x4 : Int32) (x5 : Int32) (u : ac_U) (H : Heap) (locs : List Loc) (ls : Array Slot), ac_R rg u → ac_Fr [(25, none), (26, none), (38, some 2)] u0 u → 4 - x5.toInt < (n29 : Int) → (1 : Int) ≤ x3.toInt ∧ x3.toInt ≤ 99 → (0 : Int) ≤ x4.toInt ∧ x4.toInt ≤ 99 → (0 : Int) ≤ x5.toInt ∧ x5.toInt ≤ 4 → 100 - x4.toInt + 0 < ((n20 : Nat) : Int) + 1 → va_P (dC, dI) vwCl (ac_w ad cA (TN nF) u) H → va_D A (ac_w ad cA (TN nF) u) → va_S A s.heap H locs → lv_has ls 6 [(0, .ref (ad 38)), (3, .int x3), (4, .int x4), (5, .int x5)] → W p l e (ac_rm 6) s m [.ref (ad 38), .int p0, .int p1].toArray below meth c H locs 0 0 (MQ below (va_Qi (fun (r : Int32) (u : ac_U) => ac_R rg u ∧ ac_Fr [(25, none), (26, none), (38, some 2)] u0 u ∧ ((-400 : Int) ≤ r.toInt ∧ r.toInt ≤ 99)) (ac_B (dC, dI) vwCl (ac_ty cA) ad cA (TN nF) A) A) [.ref (ad 38), .int p0, .int p1].toArray s 0 0 A) (F0 m 29 ls []) := by
        intro n29
        induction n29 with
        | zero => intro x3 x4 x5 u H locs ls hR hF hn29 f0 f1 f2 f3 hP hD hS hl; exfalso; omega
        | succ n29 ih29 =>
          intro x3 x4 x5 u H locs ls hR hF hn29 f0 f1 f2 f3 hP hD hS hl
          refine lv_iload F.1 F.2.1 dX1_passDrawn_29 (lv_at hl 3 rfl) ?_
          refine lv_aload_n F.1 F.2.1 dX1_passDrawn_31 rfl (lv_at hl 0 rfl) ?_
          refine a_getr F inX1 hP 38 0 tn_38 rfl rfl (by decide) q383 (fun _ h9 => h9) dX1_passDrawn_32 ?_
          have g1 : (0 : Int) ≤ (u.1 4 4).toInt ∧ (u.1 4 4).toInt ≤ 4 := hR 4 4
          refine a_geti F inX2 hP 4 4 tn_4 rfl rfl (by decide) q170 (fun _ h9 => h9) (v := (u.1 4 4)) rfl dX1_passDrawn_35 ?_
          refine b_ge F 53 dX1_passDrawn_38 (by decide) rfl rfl (fun c2 => ?_) (fun c2 => ?_)
          · refine lv_aload_n F.1 F.2.1 dX1_passDrawn_53 rfl (lv_at hl 0 rfl) ?_
            refine a_getr F inX1 hP 38 1 tn_38 rfl rfl (by decide) q384 (fun _ h9 => h9) dX1_passDrawn_54 ?_
            refine a_ic F (1 : Int32) dX1_passDrawn_57 (by decide) ?_
            refine a_Vi F hml hl.1 hA hP hD hS (As := [.int (1 : Int32)]) (c_X6_passHours_24 l dC dI ad cA nF _ (1 : Int32) hR (by decide)) (cs_RX1_43 (d := 2) F.2.2.1 (by decide)) tn_24 rfl rfl rfl rfl (Nat.le_of_ble_eq_true rfl) dX1_passDrawn_58 ⟨Nat.le_refl 0, Nat.le_refl 0⟩ (fun r3 u3 H locs hq hP hD hS => ?_)
            obtain ⟨hR, hF3, gr3⟩ := hq
            have hF := hF.tr hF3 (by decide)
            refine lv_pop F.1 F.2.1 dX1_passDrawn_61 rfl ?_
            refine a_iinc F (k := 2) (fun v4 => [(4, .int v4), (0, .ref (ad 38)), (3, .int x3), (5, .int x5)]) dX1_passDrawn_62 hl rfl rfl (by decide) (by omega) (by decide) (fun _ => rfl) (fun v4 ls hv4 hl => ?_)
            refine lv_goto (tgt := 20) F.1 F.2.1 dX1_passDrawn_65 (by decide) ?_
            exact ih20 x3 v4 _ _ _ _ hR hF (by omega) (by omega) (by omega) hP hD hS (lv_sub hl [1, 2, 0] rfl)
          · refine lv_aload_n F.1 F.2.1 dX1_passDrawn_41 rfl (lv_at hl 0 rfl) ?_
            refine lv_iload F.1 F.2.1 dX1_passDrawn_42 (lv_at hl 3 rfl) ?_
            refine a_Vv F hml hl.1 hA hP hD hS (As := [.int x5]) (c_X1_drawFor_38 l dC dI ad cA nF _ x5 hR (by omega)) (cs_RX1_39 (d := 5) F.2.2.1 (by decide)) tn_38 rfl rfl rfl rfl (Nat.le_of_ble_eq_true rfl) dX1_passDrawn_44 ⟨Nat.le_refl 0, Nat.le_refl 0⟩ (fun u5 H locs hq hP hD hS => ?_)
            obtain ⟨hR, hF5⟩ := hq
            have hF := hF.tr hF5 (by decide)
            refine a_iinc F (k := 3) (fun v6 => [(5, .int v6), (0, .ref (ad 38)), (3, .int x3), (4, .int x4)]) dX1_passDrawn_47 hl rfl rfl (by decide) (by omega) (by decide) (fun _ => rfl) (fun v6 ls hv6 hl => ?_)
            refine lv_goto (tgt := 29) F.1 F.2.1 dX1_passDrawn_50 (by decide) ?_
            exact ih29 x3 x4 v6 _ _ _ _ hR hF (by omega) (by omega) (by omega) (by omega) (by omega) hP hD hS (lv_sub hl [1, 2, 3, 0] rfl)
      refine lv_iload F.1 F.2.1 dX1_passDrawn_20 (lv_at hl 2 rfl) ?_
      refine lv_iload_n F.1 F.2.1 dX1_passDrawn_22 rfl (lv_at hl 1 rfl) ?_
      refine b_ge F 68 dX1_passDrawn_23 (by decide) rfl rfl (fun c7 => ?_) (fun c7 => ?_)
      · refine lv_iload_n F.1 F.2.1 dX1_passDrawn_68 rfl (lv_at hl 1 rfl) ?_
        exact a_reti F hr hlocks hP hD hS dX1_passDrawn_69 ⟨hR, hF, (by omega : (-400 : Int) ≤ x3.toInt ∧ x3.toInt ≤ 99)⟩
      · refine a_ic F (0 : Int32) dX1_passDrawn_26 (by decide) ?_
        refine lv_istore (lv' := [(5, .int (0 : Int32)), (0, .ref (ad 38)), (3, .int x3), (4, .int x4)]) F.1 F.2.1 dX1_passDrawn_27 hl (by decide) rfl (fun ls hl => ?_)
        exact L29 6 x3 x4 (0 : Int32) _ _ _ _ hR hF (by decide) (by omega) (by omega) (by decide) (by omega) hP hD hS (lv_sub hl [1, 2, 3, 0] rfl)
  refine lv_aload_n F.1 F.2.1 dX1_passDrawn_0 rfl (lv_at hl 0 rfl) ?_
  refine lv_iload_n F.1 F.2.1 dX1_passDrawn_1 rfl (lv_at hl 2 rfl) ?_
  refine a_puti F inX1 tyX1 tyX1_ok nmX1 hP hD hS 38 2 tn_38 rfl rfl (by decide) q385 (fun _ h9 => h9) rfl (ty := .int) (tyX1_ok 2 (by decide)) rfl rfl dX1_passDrawn_2 (fun H locs hP hD hS => ?_)
  have hR := hR.si (c := 38) (k := 2) (v := p1) ⟨i_lo _, i_hi _⟩
  have hF := hF.si (c := 38) (k := 2) (v := p1) rfl
  refine lv_iload_n F.1 F.2.1 dX1_passDrawn_5 rfl (lv_at hl 1 rfl) ?_
  refine lv_aload_n F.1 F.2.1 dX1_passDrawn_6 rfl (lv_at hl 0 rfl) ?_
  refine a_getr F inX1 hP 38 1 tn_38 rfl rfl (by decide) q384 (fun _ h9 => h9) dX1_passDrawn_7 ?_
  refine a_Vi F hml hl.1 hA hP hD hS (As := []) (c_X6_hoursLeft_24 l dC dI ad cA nF _  hR) (cs_RX1_22 (d := 1) F.2.2.1 (by decide)) tn_24 rfl rfl rfl rfl (Nat.le_of_ble_eq_true rfl) dX1_passDrawn_10 ⟨Nat.le_refl 0, Nat.le_refl 0⟩ (fun r8 uN8 H locs hq hP hD hS => ?_)
  obtain ⟨hu8, gr8, xr8⟩ := hq
  rw [hu8] at hP hD
  have g9 : (4 : Int) ≤ (u0.1 4 0).toInt ∧ (u0.1 4 0).toInt ≤ 24 := hR 4 0
  have g10 : (0 : Int) ≤ (u0.1 25 0).toInt ∧ (u0.1 25 0).toInt ≤ 480 := hR 25 0
  have xr8 : r8.toInt = 20 * (u0.1 4 0).toInt - (u0.1 25 0).toInt := xr8
  refine va_mmin F.1 F.2.1 (hml.trans hl.1.symm) F.2.2.2.1 (F.2.2.1 _ q1177) (F.2.2.1 _ q825) (F.2.2.1 _ q24) (F.2.2.1 _ q826) (by decide) (Nat.le_of_ble_eq_true rfl) (Nat.le_refl 0) (Nat.le_refl 0) dX1_passDrawn_13 ?_
  refine lv_topi (fun v11 ev11 => ?_)
  have hv11 := i_min rfl rfl ev11
  refine lv_istore_n (lv' := [(3, .int v11), (0, .ref (ad 38)), (1, .int p0), (2, .int p1)]) F.1 F.2.1 dX1_passDrawn_16 rfl hl (by decide) rfl (fun ls hl => ?_)
  refine a_ic F (0 : Int32) dX1_passDrawn_17 (by decide) ?_
  refine lv_istore (lv' := [(4, .int (0 : Int32)), (3, .int v11), (0, .ref (ad 38)), (1, .int p0), (2, .int p1)]) F.1 F.2.1 dX1_passDrawn_18 hl (by decide) rfl (fun ls hl => ?_)
  exact L20 102 v11 (0 : Int32) _ _ _ _ hR hF (by decide) (by omega) (by decide) hP hD hS (lv_sub hl [2, 1, 0] rfl)
set_option maxHeartbeats 600000 in
set_option maxRecDepth 100000 in
theorem c_X2_brokenWith_4 (l : Launch) (dC : Nat → ClassId) (dI : Nat → Nat → Nat) (ad : Nat → Nat) (cA : Nat → ClassId) (nF : Nat) (u0 : ac_U) (p0 : Int32) (hR : ac_R rg u0) (hp0 : (0 : Int) ≤ p0.toInt ∧ p0.toInt ≤ 255) : ac_Mi l yX2_brokenWith (.code yX2_brokenWith cX2_brokenWith 6 (some .int) :: TB) 1 (dC, dI) vwCl (ac_ty cA) ad cA (TN nF) [.ref (ad 4), .int p0] u0 (fun (r : Int32) (u : ac_U) => u = u0) := by
  refine ac_Mi.of (cc := cX2_brokenWith) (maxL := 6) (ret := (some .int)) (by decide) rfl (Nat.le_of_ble_eq_true rfl) ?_
  intro p e s m below meth c A ls F hml hr hlocks hA hP hD hS hl
  have F : ac_X p s m [.ref (ad 4), .int p0].toArray c cX2_brokenWith RX2 TB (dC, dI) vwCl (ac_ty cA) := ⟨F.1, F.2.1, fun w h => F.2.2.1 w (List.mem_cons_of_mem _ h), F.2.2.2.1, F.2.2.2.2⟩
  have hl : lv_has ls 6 [(0, .ref (ad 4)), (1, .int p0)] := hl
  have L4 : ∀ (n4 : Nat) (x2 : Int32) (x3 : Int32) (H : Heap) (locs : List Loc) (ls : Array Slot), 8 - x3.toInt < (n4 : Int) → (0 : Int) ≤ x3.toInt ∧ x3.toInt ≤ 8 → va_P (dC, dI) vwCl (ac_w ad cA (TN nF) u0) H → va_D A (ac_w ad cA (TN nF) u0) → va_S A s.heap H locs → lv_has ls 6 [(0, .ref (ad 4)), (1, .int p0), (2, .int x2), (3, .int x3)] → W p l e (ac_rm 1) s m [.ref (ad 4), .int p0].toArray below meth c H locs 0 0 (MQ below (va_Qi (fun (r : Int32) (u : ac_U) => u = u0) (ac_B (dC, dI) vwCl (ac_ty cA) ad cA (TN nF) A) A) [.ref (ad 4), .int p0].toArray s 0 0 A) (F0 m 4 ls []) := by
    intro n4
    induction n4 with
    | zero => intro x2 x3 H locs ls hn4 f0 hP hD hS hl; exfalso; omega
    | succ n4 ih4 =>
      intro x2 x3 H locs ls hn4 f0 hP hD hS hl
      have L18 : ∀ (n18 : Nat) (x2 : Int32) (x3 : Int32) (x4 : Int32) (x5 : Int32) (H : Heap) (locs : List Loc) (ls : Array Slot), 8 - x5.toInt < (n18 : Int) → (0 : Int) ≤ x3.toInt ∧ x3.toInt ≤ 7 → (0 : Int) ≤ x5.toInt ∧ x5.toInt ≤ 8 → 8 - x3.toInt + 0 < ((n4 : Nat) : Int) + 1 → va_P (dC, dI) vwCl (ac_w ad cA (TN nF) u0) H → va_D A (ac_w ad cA (TN nF) u0) → va_S A s.heap H locs → lv_has ls 6 [(0, .ref (ad 4)), (1, .int p0), (2, .int x2), (3, .int x3), (4, .int x4), (5, .int x5)] → W p l e (ac_rm 1) s m [.ref (ad 4), .int p0].toArray below meth c H locs 0 0 (MQ below (va_Qi (fun (r : Int32) (u : ac_U) => u = u0) (ac_B (dC, dI) vwCl (ac_ty cA) ad cA (TN nF) A) A) [.ref (ad 4), .int p0].toArray s 0 0 A) (F0 m 18 ls []) := by
        intro n18
        induction n18 with
        | zero => intro x2 x3 x4 x5 H locs ls hn18 f0 f1 f2 hP hD hS hl; exfalso; omega
        | succ n18 ih18 =>
          intro x2 x3 x4 x5 H locs ls hn18 f0 f1 f2 hP hD hS hl
          have L48 : ∀ (x2 : Int32) (x3 : Int32) (x4 : Int32) (x5 : Int32) (H : Heap) (locs : List Loc) (ls : Array Slot), (0 : Int) ≤ x3.toInt ∧ x3.toInt ≤ 7 → (0 : Int) ≤ x5.toInt ∧ x5.toInt ≤ 7 → (1 : Int) ≤ (u0.1 4 6).toInt ∧ (u0.1 4 6).toInt ≤ 8 → 8 - x3.toInt + 0 < ((n4 : Nat) : Int) + 1 → 8 - x5.toInt + 0 < ((n18 : Nat) : Int) + 1 → va_P (dC, dI) vwCl (ac_w ad cA (TN nF) u0) H → va_D A (ac_w ad cA (TN nF) u0) → va_S A s.heap H locs → lv_has ls 6 [(0, .ref (ad 4)), (1, .int p0), (2, .int x2), (3, .int x3), (4, .int x4), (5, .int x5)] → W p l e (ac_rm 1) s m [.ref (ad 4), .int p0].toArray below meth c H locs 0 0 (MQ below (va_Qi (fun (r : Int32) (u : ac_U) => u = u0) (ac_B (dC, dI) vwCl (ac_ty cA) ad cA (TN nF) A) A) [.ref (ad 4), .int p0].toArray s 0 0 A) (F0 m 48 ls []) := by
            intro x2 x3 x4 x5 H locs ls f0 f1 f2 f3 f4 hP hD hS hl
            refine a_iinc F (k := 5) (fun v1 => [(5, .int v1), (0, .ref (ad 4)), (1, .int p0), (2, .int x2), (3, .int x3), (4, .int x4)]) dX2_brokenWith_48 hl rfl rfl (by decide) (by omega) (by decide) (fun _ => rfl) (fun v1 ls hv1 hl => ?_)
            refine lv_goto (tgt := 18) F.1 F.2.1 dX2_brokenWith_51 (by decide) ?_
            exact ih18 x2 x3 x4 v1 _ _ _ (by omega) (by omega) (by omega) (by omega) hP hD hS (lv_sub hl [1, 2, 3, 4, 5, 0] rfl)
          refine lv_iload F.1 F.2.1 dX2_brokenWith_18 (lv_at hl 5 rfl) ?_
          refine lv_aload_n F.1 F.2.1 dX2_brokenWith_20 rfl (lv_at hl 0 rfl) ?_
          have g2 : (0 : Int) ≤ (u0.1 4 6).toInt ∧ (u0.1 4 6).toInt ≤ 8 := hR 4 6
          refine a_geti F inX2 hP 4 6 tn_4 rfl rfl (by decide) q178 (fun _ h9 => h9) (v := (u0.1 4 6)) rfl dX2_brokenWith_21 ?_
          refine b_ge F 54 dX2_brokenWith_24 (by decide) rfl rfl (fun c3 => ?_) (fun c3 => ?_)
          · refine a_iinc F (k := 3) (fun v4 => [(3, .int v4), (0, .ref (ad 4)), (1, .int p0), (2, .int x2), (4, .int x4), (5, .int x5)]) dX2_brokenWith_54 hl rfl rfl (by decide) (by omega) (by decide) (fun _ => rfl) (fun v4 ls hv4 hl => ?_)
            refine lv_goto (tgt := 4) F.1 F.2.1 dX2_brokenWith_57 (by decide) ?_
            exact ih4 x2 v4 _ _ _ (by omega) (by omega) hP hD hS (lv_sub hl [1, 2, 3, 0] rfl)
          · refine lv_iload F.1 F.2.1 dX2_brokenWith_27 (lv_at hl 4 rfl) ?_
            refine lv_iload F.1 F.2.1 dX2_brokenWith_29 (lv_at hl 5 rfl) ?_
            refine a_ishrU F dX2_brokenWith_31 (fun v5 => ?_)
            refine a_ic F (1 : Int32) dX2_brokenWith_32 (by decide) ?_
            refine a_iandM F dX2_brokenWith_33 ic_1 (by omega) (fun v6 hv6 => ?_)
            refine a_ic F (1 : Int32) dX2_brokenWith_34 (by decide) ?_
            refine b_ne F 48 dX2_brokenWith_35 (by decide) rfl ic_1 (fun c7 => ?_) (fun c7 => ?_)
            · exact L48 x2 x3 x4 x5 _ _ _ (by omega) (by omega) (by omega : (1 : Int) ≤ (u0.1 4 6).toInt ∧ (u0.1 4 6).toInt ≤ 8) (by omega) (by omega) hP hD hS (lv_sub hl [0, 1, 2, 3, 4, 5] rfl)
            · refine lv_iload_n F.1 F.2.1 dX2_brokenWith_38 rfl (lv_at hl 2 rfl) ?_
              refine lv_aload_n F.1 F.2.1 dX2_brokenWith_39 rfl (lv_at hl 0 rfl) ?_
              refine a_getr F inX2 hP 4 13 tn_4 rfl rfl (by decide) q196 (fun _ h9 => h9) dX2_brokenWith_40 ?_
              refine lv_iload F.1 F.2.1 dX2_brokenWith_43 (lv_at hl 5 rfl) ?_
              refine a_iald F hP 9 tn_9 rfl (i_in rfl (by omega)) dX2_brokenWith_45 (fun v8 ev8 => ?_)
              refine a_iorU F dX2_brokenWith_46 (fun v9 => ?_)
              refine lv_istore_n (lv' := [(2, .int v9), (0, .ref (ad 4)), (1, .int p0), (3, .int x3), (4, .int x4), (5, .int x5)]) F.1 F.2.1 dX2_brokenWith_47 rfl hl (by decide) rfl (fun ls hl => ?_)
              exact L48 v9 x3 x4 x5 _ _ _ (by omega) (by omega) (by omega : (1 : Int) ≤ (u0.1 4 6).toInt ∧ (u0.1 4 6).toInt ≤ 8) (by omega) (by omega) hP hD hS (lv_sub hl [1, 2, 0, 3, 4, 5] rfl)
      refine lv_iload_n F.1 F.2.1 dX2_brokenWith_4 rfl (lv_at hl 3 rfl) ?_
      refine a_bp F (8 : Int32) dX2_brokenWith_5 (by decide) ?_
      refine b_ge F 60 dX2_brokenWith_7 (by decide) rfl ic_8 (fun c10 => ?_) (fun c10 => ?_)
      · refine lv_iload_n F.1 F.2.1 dX2_brokenWith_60 rfl (lv_at hl 2 rfl) ?_
        exact a_reti F hr hlocks hP hD hS dX2_brokenWith_61 rfl
      · refine lv_iload_n F.1 F.2.1 dX2_brokenWith_10 rfl (lv_at hl 1 rfl) ?_
        refine lv_iload_n F.1 F.2.1 dX2_brokenWith_11 rfl (lv_at hl 2 rfl) ?_
        refine a_iorU F dX2_brokenWith_12 (fun v11 => ?_)
        refine lv_istore (lv' := [(4, .int v11), (0, .ref (ad 4)), (1, .int p0), (2, .int x2), (3, .int x3)]) F.1 F.2.1 dX2_brokenWith_13 hl (by decide) rfl (fun ls hl => ?_)
        refine a_ic F (0 : Int32) dX2_brokenWith_15 (by decide) ?_
        refine lv_istore (lv' := [(5, .int (0 : Int32)), (4, .int v11), (0, .ref (ad 4)), (1, .int p0), (2, .int x2), (3, .int x3)]) F.1 F.2.1 dX2_brokenWith_16 hl (by decide) rfl (fun ls hl => ?_)
        exact L18 10 x2 x3 v11 (0 : Int32) _ _ _ (by decide) (by omega) (by decide) (by omega) hP hD hS (lv_sub hl [2, 3, 4, 5, 1, 0] rfl)
  refine a_ic F (0 : Int32) dX2_brokenWith_0 (by decide) ?_
  refine lv_istore_n (lv' := [(2, .int (0 : Int32)), (0, .ref (ad 4)), (1, .int p0)]) F.1 F.2.1 dX2_brokenWith_1 rfl hl (by decide) rfl (fun ls hl => ?_)
  refine a_ic F (0 : Int32) dX2_brokenWith_2 (by decide) ?_
  refine lv_istore_n (lv' := [(3, .int (0 : Int32)), (2, .int (0 : Int32)), (0, .ref (ad 4)), (1, .int p0)]) F.1 F.2.1 dX2_brokenWith_3 rfl hl (by decide) rfl (fun ls hl => ?_)
  exact L4 10 (0 : Int32) (0 : Int32) _ _ _ (by decide) (by decide) hP hD hS (lv_sub hl [2, 3, 1, 0] rfl)
set_option maxHeartbeats 600000 in
set_option maxRecDepth 100000 in
theorem c_X2_chainOf_4 (l : Launch) (dC : Nat → ClassId) (dI : Nat → Nat → Nat) (ad : Nat → Nat) (cA : Nat → ClassId) (nF : Nat) (u0 : ac_U) (p0 : Int32) (hR : ac_R rg u0) (hp0 : (0 : Int) ≤ p0.toInt ∧ p0.toInt ≤ 7) : ac_Mi l yX2_chainOf (.code yX2_chainOf cX2_chainOf 2 (some .int) :: TB) 2 (dC, dI) vwCl (ac_ty cA) ad cA (TN nF) [.ref (ad 4), .int p0] u0 (fun (r : Int32) (u : ac_U) => u = u0) := by
  refine ac_Mi.of (cc := cX2_chainOf) (maxL := 2) (ret := (some .int)) (by decide) rfl (Nat.le_of_ble_eq_true rfl) ?_
  intro p e s m below meth c A ls F hml hr hlocks hA hP hD hS hl
  have F : ac_X p s m [.ref (ad 4), .int p0].toArray c cX2_chainOf RX2 TB (dC, dI) vwCl (ac_ty cA) := ⟨F.1, F.2.1, fun w h => F.2.2.1 w (List.mem_cons_of_mem _ h), F.2.2.2.1, F.2.2.2.2⟩
  have hl : lv_has ls 2 [(0, .ref (ad 4)), (1, .int p0)] := hl
  refine a_ic F (1 : Int32) dX2_chainOf_0 (by decide) ?_
  refine lv_iload_n F.1 F.2.1 dX2_chainOf_1 rfl (lv_at hl 1 rfl) ?_
  refine a_ishl1 F dX2_chainOf_2 rfl (lo := 0) (hi := 7) (by omega) (by decide) (fun v1 hv1 => ?_)
  have hv1 : (1 : Int) ≤ v1.toInt ∧ v1.toInt ≤ 128 := hv1
  refine lv_aload_n F.1 F.2.1 dX2_chainOf_3 rfl (lv_at hl 0 rfl) ?_
  refine a_ic F (1 : Int32) dX2_chainOf_4 (by decide) ?_
  refine lv_iload_n F.1 F.2.1 dX2_chainOf_5 rfl (lv_at hl 1 rfl) ?_
  refine a_ishl1 F dX2_chainOf_6 rfl (lo := 0) (hi := 7) (by omega) (by decide) (fun v2 hv2 => ?_)
  have hv2 : (1 : Int) ≤ v2.toInt ∧ v2.toInt ≤ 128 := hv2
  refine a_Vi F hml hl.1 hA hP hD hS (As := [.int v2]) (c_X2_brokenWith_4 l dC dI ad cA nF _ v2 hR (by omega)) (cs_RX2_89 (d := 1) F.2.2.1 (by decide)) tn_4 rfl rfl rfl rfl (Nat.le_of_ble_eq_true rfl) dX2_chainOf_7 ⟨Nat.le_refl 0, Nat.le_refl 0⟩ (fun r3 uN3 H locs hq hP hD hS => ?_)
  have hu3 := hq
  rw [hu3] at hP hD
  refine a_iorU F dX2_chainOf_10 (fun v4 => ?_)
  exact a_reti F hr hlocks hP hD hS dX2_chainOf_11 rfl
set_option maxHeartbeats 600000 in
set_option maxRecDepth 100000 in
theorem c_X2_dayOf_4 (l : Launch) (dC : Nat → ClassId) (dI : Nat → Nat → Nat) (ad : Nat → Nat) (cA : Nat → ClassId) (nF : Nat) (u0 : ac_U) (p0 : Int32) (hR : ac_R rg u0) (hp0 : (-1 : Int) ≤ p0.toInt ∧ p0.toInt ≤ 480) : ac_Mi l yX2_dayOf (.code yX2_dayOf cX2_dayOf 2 (some .int) :: TB) 1 (dC, dI) vwCl (ac_ty cA) ad cA (TN nF) [.ref (ad 4), .int p0] u0 (fun (r : Int32) (u : ac_U) => u = u0 ∧ ((0 : Int) ≤ r.toInt ∧ r.toInt ≤ 120) ∧ (0 ≤ p0.toInt → p0.toInt < 20 * (u0.1 4 0).toInt → r.toInt < 20)) := by
  refine ac_Mi.of (cc := cX2_dayOf) (maxL := 2) (ret := (some .int)) (by decide) rfl (Nat.le_of_ble_eq_true rfl) ?_
  intro p e s m below meth c A ls F hml hr hlocks hA hP hD hS hl
  have F : ac_X p s m [.ref (ad 4), .int p0].toArray c cX2_dayOf RX2 TB (dC, dI) vwCl (ac_ty cA) := ⟨F.1, F.2.1, fun w h => F.2.2.1 w (List.mem_cons_of_mem _ h), F.2.2.2.1, F.2.2.2.2⟩
  have hl : lv_has ls 2 [(0, .ref (ad 4)), (1, .int p0)] := hl
  refine lv_aload_n F.1 F.2.1 dX2_dayOf_0 rfl (lv_at hl 0 rfl) ?_
  have g1 : (4 : Int) ≤ (u0.1 4 0).toInt ∧ (u0.1 4 0).toInt ≤ 24 := hR 4 0
  refine a_geti F inX2 hP 4 0 tn_4 rfl rfl (by decide) q151 (fun _ h9 => h9) (v := (u0.1 4 0)) rfl dX2_dayOf_1 ?_
  refine z_le F 16 dX2_dayOf_4 (by decide) rfl (fun c2 => ?_) (fun c2 => ?_)
  · exfalso; omega
  · refine lv_iload_n F.1 F.2.1 dX2_dayOf_7 rfl (lv_at hl 1 rfl) ?_
    refine lv_aload_n F.1 F.2.1 dX2_dayOf_8 rfl (lv_at hl 0 rfl) ?_
    refine a_geti F inX2 hP 4 0 tn_4 rfl rfl (by decide) q151 (fun _ h9 => h9) (v := (u0.1 4 0)) (rfl) dX2_dayOf_9 ?_
    refine a_idiv2 F (kk := 4) dX2_dayOf_12 rfl rfl (by omega) (fun v3 ev3 hv3 => ?_)
    have hd : 0 ≤ p0.toInt → p0.toInt < 20 * (u0.1 4 0).toInt → v3.toInt < 20 := fun h0 h1 => by rw [(hv3.1 h0).2.2.2]; exact Int.ediv_lt_of_lt_mul (by omega) h1
    refine lv_goto (tgt := 17) F.1 F.2.1 dX2_dayOf_13 (by decide) ?_
    exact a_reti F hr hlocks hP hD hS dX2_dayOf_17 ⟨rfl, (by omega : (0 : Int) ≤ v3.toInt ∧ v3.toInt ≤ 120), (by omega : 0 ≤ p0.toInt → p0.toInt < 20 * (u0.1 4 0).toInt → v3.toInt < 20)⟩
set_option maxHeartbeats 600000 in
set_option maxRecDepth 100000 in
theorem c_X2_frogPlaces_4 (l : Launch) (dC : Nat → ClassId) (dI : Nat → Nat → Nat) (ad : Nat → Nat) (cA : Nat → ClassId) (nF : Nat) (u0 : ac_U)  (hR : ac_R rg u0) : ac_Mi l yX2_frogPlaces (.code yX2_frogPlaces cX2_frogPlaces 3 (some .int) :: TB) 1 (dC, dI) vwCl (ac_ty cA) ad cA (TN nF) [.ref (ad 4)] u0 (fun (r : Int32) (u : ac_U) => u = u0 ∧ ((0 : Int) ≤ r.toInt ∧ r.toInt ≤ 255)) := by
  refine ac_Mi.of (cc := cX2_frogPlaces) (maxL := 3) (ret := (some .int)) (by decide) rfl (Nat.le_of_ble_eq_true rfl) ?_
  intro p e s m below meth c A ls F hml hr hlocks hA hP hD hS hl
  have F : ac_X p s m [.ref (ad 4)].toArray c cX2_frogPlaces RX2 TB (dC, dI) vwCl (ac_ty cA) := ⟨F.1, F.2.1, fun w h => F.2.2.1 w (List.mem_cons_of_mem _ h), F.2.2.2.1, F.2.2.2.2⟩
  have hl : lv_has ls 3 [(0, .ref (ad 4))] := hl
  have L4 : ∀ (n4 : Nat) (x1 : Int32) (x2 : Int32) (H : Heap) (locs : List Loc) (ls : Array Slot), 6 - x2.toInt < (n4 : Int) → (0 : Int) ≤ x1.toInt ∧ x1.toInt ≤ 255 → (0 : Int) ≤ x2.toInt ∧ x2.toInt ≤ 6 → va_P (dC, dI) vwCl (ac_w ad cA (TN nF) u0) H → va_D A (ac_w ad cA (TN nF) u0) → va_S A s.heap H locs → lv_has ls 3 [(0, .ref (ad 4)), (1, .int x1), (2, .int x2)] → W p l e (ac_rm 1) s m [.ref (ad 4)].toArray below meth c H locs 0 0 (MQ below (va_Qi (fun (r : Int32) (u : ac_U) => u = u0 ∧ ((0 : Int) ≤ r.toInt ∧ r.toInt ≤ 255)) (ac_B (dC, dI) vwCl (ac_ty cA) ad cA (TN nF) A) A) [.ref (ad 4)].toArray s 0 0 A) (F0 m 4 ls []) := by
    intro n4
    induction n4 with
    | zero => intro x1 x2 H locs ls hn4 f0 f1 hP hD hS hl; exfalso; omega
    | succ n4 ih4 =>
      intro x1 x2 H locs ls hn4 f0 f1 hP hD hS hl
      refine lv_iload_n F.1 F.2.1 dX2_frogPlaces_4 rfl (lv_at hl 2 rfl) ?_
      refine lv_aload_n F.1 F.2.1 dX2_frogPlaces_5 rfl (lv_at hl 0 rfl) ?_
      have g1 : (0 : Int) ≤ (u0.1 4 3).toInt ∧ (u0.1 4 3).toInt ≤ 6 := hR 4 3
      refine a_geti F inX2 hP 4 3 tn_4 rfl rfl (by decide) q165 (fun _ h9 => h9) (v := (u0.1 4 3)) rfl dX2_frogPlaces_6 ?_
      refine b_ge F 29 dX2_frogPlaces_9 (by decide) rfl rfl (fun c2 => ?_) (fun c2 => ?_)
      · refine lv_iload_n F.1 F.2.1 dX2_frogPlaces_29 rfl (lv_at hl 1 rfl) ?_
        exact a_reti F hr hlocks hP hD hS dX2_frogPlaces_30 ⟨rfl, (by omega : (0 : Int) ≤ x1.toInt ∧ x1.toInt ≤ 255)⟩
      · refine lv_iload_n F.1 F.2.1 dX2_frogPlaces_12 rfl (lv_at hl 1 rfl) ?_
        refine a_ic F (1 : Int32) dX2_frogPlaces_13 (by decide) ?_
        refine lv_aload_n F.1 F.2.1 dX2_frogPlaces_14 rfl (lv_at hl 0 rfl) ?_
        refine a_getr F inX2 hP 4 10 tn_4 rfl rfl (by decide) q190 (fun _ h9 => h9) dX2_frogPlaces_15 ?_
        refine lv_iload_n F.1 F.2.1 dX2_frogPlaces_18 rfl (lv_at hl 2 rfl) ?_
        refine a_iald F hP 6 tn_6 rfl (i_in rfl (by omega)) dX2_frogPlaces_19 (fun v3 ev3 => ?_)
        have hv3 : (0 : Int) ≤ v3.toInt ∧ v3.toInt ≤ 7 := ev3 ▸ hR 6 _
        refine a_ishl1 F dX2_frogPlaces_20 rfl (lo := 0) (hi := 7) (by omega) (by decide) (fun v4 hv4 => ?_)
        have hv4 : (1 : Int) ≤ v4.toInt ∧ v4.toInt ≤ 128 := hv4
        refine a_iorB F dX2_frogPlaces_21 rfl rfl (n := 8) (m' := 256) rfl (by decide) (by omega) (by omega) (fun v5 hv5 => ?_)
        refine lv_istore_n (lv' := [(1, .int v5), (0, .ref (ad 4)), (2, .int x2)]) F.1 F.2.1 dX2_frogPlaces_22 rfl hl (by decide) rfl (fun ls hl => ?_)
        refine a_iinc F (k := 2) (fun v6 => [(2, .int v6), (1, .int v5), (0, .ref (ad 4))]) dX2_frogPlaces_23 hl rfl rfl (by decide) (by omega) (by decide) (fun _ => rfl) (fun v6 ls hv6 hl => ?_)
        refine lv_goto (tgt := 4) F.1 F.2.1 dX2_frogPlaces_26 (by decide) ?_
        exact ih4 v5 v6 _ _ _ (by omega) (by omega) (by omega) hP hD hS (lv_sub hl [2, 1, 0] rfl)
  refine a_ic F (0 : Int32) dX2_frogPlaces_0 (by decide) ?_
  refine lv_istore_n (lv' := [(1, .int (0 : Int32)), (0, .ref (ad 4))]) F.1 F.2.1 dX2_frogPlaces_1 rfl hl (by decide) rfl (fun ls hl => ?_)
  refine a_ic F (0 : Int32) dX2_frogPlaces_2 (by decide) ?_
  refine lv_istore_n (lv' := [(2, .int (0 : Int32)), (1, .int (0 : Int32)), (0, .ref (ad 4))]) F.1 F.2.1 dX2_frogPlaces_3 rfl hl (by decide) rfl (fun ls hl => ?_)
  exact L4 8 (0 : Int32) (0 : Int32) _ _ _ (by decide) (by decide) (by decide) hP hD hS (lv_sub hl [2, 1, 0] rfl)
set_option maxHeartbeats 600000 in
set_option maxRecDepth 100000 in
theorem c_X2_dryBits_4 (l : Launch) (dC : Nat → ClassId) (dI : Nat → Nat → Nat) (ad : Nat → Nat) (cA : Nat → ClassId) (nF : Nat) (u0 : ac_U)  (hR : ac_R rg u0) : ac_Mi l yX2_dryBits (.code yX2_dryBits cX2_dryBits 1 (some .int) :: TB) 2 (dC, dI) vwCl (ac_ty cA) ad cA (TN nF) [.ref (ad 4)] u0 (fun (r : Int32) (u : ac_U) => u = u0 ∧ ((0 : Int) ≤ r.toInt ∧ r.toInt ≤ 255)) := by
  refine ac_Mi.of (cc := cX2_dryBits) (maxL := 1) (ret := (some .int)) (by decide) rfl (Nat.le_of_ble_eq_true rfl) ?_
  intro p e s m below meth c A ls F hml hr hlocks hA hP hD hS hl
  have F : ac_X p s m [.ref (ad 4)].toArray c cX2_dryBits RX2 TB (dC, dI) vwCl (ac_ty cA) := ⟨F.1, F.2.1, fun w h => F.2.2.1 w (List.mem_cons_of_mem _ h), F.2.2.2.1, F.2.2.2.2⟩
  have hl : lv_has ls 1 [(0, .ref (ad 4))] := hl
  refine a_ic F (1 : Int32) dX2_dryBits_0 (by decide) ?_
  refine lv_aload_n F.1 F.2.1 dX2_dryBits_1 rfl (lv_at hl 0 rfl) ?_
  have g1 : (0 : Int) ≤ (u0.1 4 1).toInt ∧ (u0.1 4 1).toInt ≤ 8 := hR 4 1
  refine a_geti F inX2 hP 4 1 tn_4 rfl rfl (by decide) q157 (fun _ h9 => h9) (v := (u0.1 4 1)) rfl dX2_dryBits_2 ?_
  refine a_ishl1 F dX2_dryBits_5 rfl (lo := 0) (hi := 8) (by omega) (by decide) (fun v2 hv2 => ?_)
  have hv2 : (1 : Int) ≤ v2.toInt ∧ v2.toInt ≤ 256 := hv2
  refine a_ic F (1 : Int32) dX2_dryBits_6 (by decide) ?_
  refine a_isub F dX2_dryBits_7 rfl ic_1 (by omega) (fun v3 hv3 => ?_)
  refine lv_aload_n F.1 F.2.1 dX2_dryBits_8 rfl (lv_at hl 0 rfl) ?_
  refine a_Vi F hml hl.1 hA hP hD hS (As := []) (c_X2_frogPlaces_4 l dC dI ad cA nF _  hR) (cs_RX2_85 (d := 1) F.2.2.1 (by decide)) tn_4 rfl rfl rfl rfl (Nat.le_of_ble_eq_true rfl) dX2_dryBits_9 ⟨Nat.le_refl 0, Nat.le_refl 0⟩ (fun r4 uN4 H locs hq hP hD hS => ?_)
  obtain ⟨hu4, gr4⟩ := hq
  rw [hu4] at hP hD
  refine a_ic F (-1 : Int32) dX2_dryBits_12 (by decide) ?_
  refine a_ixorU F dX2_dryBits_13 (fun v5 => ?_)
  refine a_iandL F dX2_dryBits_14 rfl (by omega) (fun v6 hv6 => ?_)
  exact a_reti F hr hlocks hP hD hS dX2_dryBits_15 ⟨rfl, (by omega : (0 : Int) ≤ v6.toInt ∧ v6.toInt ≤ 255)⟩
set_option maxHeartbeats 600000 in
set_option maxRecDepth 100000 in
theorem c_X2_hourOf_4 (l : Launch) (dC : Nat → ClassId) (dI : Nat → Nat → Nat) (ad : Nat → Nat) (cA : Nat → ClassId) (nF : Nat) (u0 : ac_U) (p0 : Int32) (hR : ac_R rg u0) (hp0 : (-1 : Int) ≤ p0.toInt ∧ p0.toInt ≤ 480) : ac_Mi l yX2_hourOf (.code yX2_hourOf cX2_hourOf 2 (some .int) :: TB) 1 (dC, dI) vwCl (ac_ty cA) ad cA (TN nF) [.ref (ad 4), .int p0] u0 (fun (r : Int32) (u : ac_U) => u = u0 ∧ ((-23 : Int) ≤ r.toInt ∧ r.toInt ≤ 23) ∧ (0 ≤ p0.toInt → 0 ≤ r.toInt)) := by
  refine ac_Mi.of (cc := cX2_hourOf) (maxL := 2) (ret := (some .int)) (by decide) rfl (Nat.le_of_ble_eq_true rfl) ?_
  intro p e s m below meth c A ls F hml hr hlocks hA hP hD hS hl
  have F : ac_X p s m [.ref (ad 4), .int p0].toArray c cX2_hourOf RX2 TB (dC, dI) vwCl (ac_ty cA) := ⟨F.1, F.2.1, fun w h => F.2.2.1 w (List.mem_cons_of_mem _ h), F.2.2.2.1, F.2.2.2.2⟩
  have hl : lv_has ls 2 [(0, .ref (ad 4)), (1, .int p0)] := hl
  refine lv_aload_n F.1 F.2.1 dX2_hourOf_0 rfl (lv_at hl 0 rfl) ?_
  have g1 : (4 : Int) ≤ (u0.1 4 0).toInt ∧ (u0.1 4 0).toInt ≤ 24 := hR 4 0
  refine a_geti F inX2 hP 4 0 tn_4 rfl rfl (by decide) q151 (fun _ h9 => h9) (v := (u0.1 4 0)) rfl dX2_hourOf_1 ?_
  refine z_le F 16 dX2_hourOf_4 (by decide) rfl (fun c2 => ?_) (fun c2 => ?_)
  · exfalso; omega
  · refine lv_iload_n F.1 F.2.1 dX2_hourOf_7 rfl (lv_at hl 1 rfl) ?_
    refine lv_aload_n F.1 F.2.1 dX2_hourOf_8 rfl (lv_at hl 0 rfl) ?_
    refine a_geti F inX2 hP 4 0 tn_4 rfl rfl (by decide) q151 (fun _ h9 => h9) (v := (u0.1 4 0)) (rfl) dX2_hourOf_9 ?_
    refine a_irem F dX2_hourOf_12 rfl rfl (by omega) (fun v3 hv3 => ?_)
    refine lv_goto (tgt := 17) F.1 F.2.1 dX2_hourOf_13 (by decide) ?_
    exact a_reti F hr hlocks hP hD hS dX2_hourOf_17 ⟨rfl, (by omega : (-23 : Int) ≤ v3.toInt ∧ v3.toInt ≤ 23), (by omega : 0 ≤ p0.toInt → 0 ≤ v3.toInt)⟩

set_option maxHeartbeats 4000000 in
set_option maxRecDepth 100000 in
theorem c_X6_hoursLeft_24 (l : Launch) (dC : Nat → ClassId) (dI : Nat → Nat → Nat) (ad : Nat → Nat) (cA : Nat → ClassId) (nF : Nat) (u0 : ac_U)  (hR : ac_R rg u0) : ac_Mi l yX6_hoursLeft (.code yX6_hoursLeft cX6_hoursLeft 1 (some .int) :: TB) 1 (dC, dI) vwCl (ac_ty cA) ad cA (TT nF) [.ref (ad 24)] u0 (fun (r : Int32) (u : ac_U) => u = u0 ∧ ((-400 : Int) ≤ r.toInt ∧ r.toInt ≤ 480)) := by
  refine ac_Mi.of (cc := cX6_hoursLeft) (maxL := 1) (ret := (some .int)) (by decide) rfl (Nat.le_of_ble_eq_true rfl) ?_
  intro p e s m below meth c A ls F hml hr hlocks hA hP hD hS hl
  have F : ac_X p s m [.ref (ad 24)].toArray c cX6_hoursLeft RX6 TB (dC, dI) vwCl (ac_ty cA) := ⟨F.1, F.2.1, fun w h => F.2.2.1 w (List.mem_cons_of_mem _ h), F.2.2.2.1, F.2.2.2.2⟩
  have hl : lv_has ls 1 [(0, .ref (ad 24))] := hl
  refine a_bp F (20 : Int32) dX6_hoursLeft_0 (by decide) ?_
  refine lv_aload_n F.1 F.2.1 dX6_hoursLeft_2 rfl (lv_at hl 0 rfl) ?_
  refine a_getr F inX6 hP 24 0 tc_24 rfl rfl (by decide) q271 (fun _ h9 => h9) dX6_hoursLeft_3 ?_
  have g1 : (4 : Int) ≤ (u0.1 4 0).toInt ∧ (u0.1 4 0).toInt ≤ 24 := hR 4 0
  refine a_geti F inX2 hP 4 0 tc_4 rfl rfl (by decide) q154 (fun _ h9 => h9) (v := (u0.1 4 0)) rfl dX6_hoursLeft_6 ?_
  refine a_imul F dX6_hoursLeft_9 ic_20 rfl (by omega) (fun v2 hv2 => ?_)
  refine lv_aload_n F.1 F.2.1 dX6_hoursLeft_10 rfl (lv_at hl 0 rfl) ?_
  refine a_getr F inX6 hP 24 1 tc_24 rfl rfl (by decide) q272 (fun _ h9 => h9) dX6_hoursLeft_11 ?_
  refine a_ic F (0 : Int32) dX6_hoursLeft_14 (by decide) ?_
  refine a_iald F hP 25 tc_25 rfl (i_in ic_0 (by omega)) dX6_hoursLeft_15 (fun v3 ev3 => ?_)
  have hv3 : (0 : Int) ≤ v3.toInt ∧ v3.toInt ≤ 480 := ev3 ▸ hR 25 _
  refine a_isub F dX6_hoursLeft_16 rfl rfl (by omega) (fun v4 hv4 => ?_)
  exact a_reti F hr hlocks hP hD hS dX6_hoursLeft_17 ⟨rfl, (by omega : (-400 : Int) ≤ v4.toInt ∧ v4.toInt ≤ 480)⟩
set_option maxHeartbeats 4000000 in
set_option maxRecDepth 100000 in
theorem c_X6_isBusy_24 (l : Launch) (dC : Nat → ClassId) (dI : Nat → Nat → Nat) (ad : Nat → Nat) (cA : Nat → ClassId) (nF : Nat) (u0 : ac_U) (p0 : Int32) (hR : ac_R rg u0) : ac_Mi l yX6_isBusy (.code yX6_isBusy cX6_isBusy 2 (some .boolean) :: TB) 1 (dC, dI) vwCl (ac_ty cA) ad cA (TT nF) [.ref (ad 24), .int p0] u0 (fun (r : Int32) (u : ac_U) => u = u0 ∧ ((0 : Int) ≤ r.toInt ∧ r.toInt ≤ 1)) := by
  refine ac_Mi.of (cc := cX6_isBusy) (maxL := 2) (ret := (some .boolean)) (by decide) rfl (Nat.le_of_ble_eq_true rfl) ?_
  intro p e s m below meth c A ls F hml hr hlocks hA hP hD hS hl
  have F : ac_X p s m [.ref (ad 24), .int p0].toArray c cX6_isBusy RX6 TB (dC, dI) vwCl (ac_ty cA) := ⟨F.1, F.2.1, fun w h => F.2.2.1 w (List.mem_cons_of_mem _ h), F.2.2.2.1, F.2.2.2.2⟩
  have hl : lv_has ls 2 [(0, .ref (ad 24)), (1, .int p0)] := hl
  have L19 : ∀ (z0 : Int32) (H : Heap) (locs : List Loc) (ls : Array Slot), (0 : Int) ≤ z0.toInt ∧ z0.toInt ≤ 1 → va_P (dC, dI) vwCl (ac_w ad cA (TT nF) u0) H → va_D A (ac_w ad cA (TT nF) u0) → va_S A s.heap H locs → lv_has ls 2 [] → W p l e (ac_rm 1) s m [.ref (ad 24), .int p0].toArray below meth c H locs 0 0 (MQ below (va_Qi (fun (r : Int32) (u : ac_U) => u = u0 ∧ ((0 : Int) ≤ r.toInt ∧ r.toInt ≤ 1)) (ac_B (dC, dI) vwCl (ac_ty cA) ad cA (TT nF) A) A) [.ref (ad 24), .int p0].toArray s 0 0 A) (F0 m 19 ls [.int z0]) := by
    intro z0 H locs ls f0 hP hD hS hl
    exact a_retz F hr hlocks hP hD hS dX6_isBusy_19 (i_01 (by omega)) ⟨rfl, (by omega : (0 : Int) ≤ z0.toInt ∧ z0.toInt ≤ 1)⟩
  refine lv_aload_n F.1 F.2.1 dX6_isBusy_0 rfl (lv_at hl 0 rfl) ?_
  refine a_getr F inX6 hP 24 1 tc_24 rfl rfl (by decide) q272 (fun _ h9 => h9) dX6_isBusy_1 ?_
  refine a_ic F (1 : Int32) dX6_isBusy_4 (by decide) ?_
  refine a_iald F hP 25 tc_25 rfl (i_in ic_1 (by omega)) dX6_isBusy_5 (fun v1 ev1 => ?_)
  refine lv_iload_n F.1 F.2.1 dX6_isBusy_6 rfl (lv_at hl 1 rfl) ?_
  refine a_ishrU F dX6_isBusy_7 (fun v2 => ?_)
  refine a_ic F (1 : Int32) dX6_isBusy_8 (by decide) ?_
  refine a_iandM F dX6_isBusy_9 ic_1 (by omega) (fun v3 hv3 => ?_)
  refine a_ic F (1 : Int32) dX6_isBusy_10 (by decide) ?_
  refine b_ne F 18 dX6_isBusy_11 (by decide) rfl ic_1 (fun c4 => ?_) (fun c4 => ?_)
  · refine a_ic F (0 : Int32) dX6_isBusy_18 (by decide) ?_
    exact L19 (0 : Int32) _ _ _ (by decide) hP hD hS (lv_sub hl [] rfl)
  · refine a_ic F (1 : Int32) dX6_isBusy_14 (by decide) ?_
    refine lv_goto (tgt := 19) F.1 F.2.1 dX6_isBusy_15 (by decide) ?_
    exact L19 (1 : Int32) _ _ _ (by decide) hP hD hS (lv_sub hl [] rfl)
set_option maxHeartbeats 4000000 in
set_option maxRecDepth 100000 in
theorem c_X6_isOver_24 (l : Launch) (dC : Nat → ClassId) (dI : Nat → Nat → Nat) (ad : Nat → Nat) (cA : Nat → ClassId) (nF : Nat) (u0 : ac_U)  (hR : ac_R rg u0) : ac_Mi l yX6_isOver (.code yX6_isOver cX6_isOver 1 (some .boolean) :: TB) 2 (dC, dI) vwCl (ac_ty cA) ad cA (TT nF) [.ref (ad 24)] u0 (fun (r : Int32) (u : ac_U) => u = u0 ∧ ((0 : Int) ≤ r.toInt ∧ r.toInt ≤ 1)) := by
  refine ac_Mi.of (cc := cX6_isOver) (maxL := 1) (ret := (some .boolean)) (by decide) rfl (Nat.le_of_ble_eq_true rfl) ?_
  intro p e s m below meth c A ls F hml hr hlocks hA hP hD hS hl
  have F : ac_X p s m [.ref (ad 24)].toArray c cX6_isOver RX6 TB (dC, dI) vwCl (ac_ty cA) := ⟨F.1, F.2.1, fun w h => F.2.2.1 w (List.mem_cons_of_mem _ h), F.2.2.2.1, F.2.2.2.2⟩
  have hl : lv_has ls 1 [(0, .ref (ad 24))] := hl
  have L12 : ∀ (z0 : Int32) (H : Heap) (locs : List Loc) (ls : Array Slot), (0 : Int) ≤ z0.toInt ∧ z0.toInt ≤ 1 → va_P (dC, dI) vwCl (ac_w ad cA (TT nF) u0) H → va_D A (ac_w ad cA (TT nF) u0) → va_S A s.heap H locs → lv_has ls 1 [] → W p l e (ac_rm 2) s m [.ref (ad 24)].toArray below meth c H locs 0 0 (MQ below (va_Qi (fun (r : Int32) (u : ac_U) => u = u0 ∧ ((0 : Int) ≤ r.toInt ∧ r.toInt ≤ 1)) (ac_B (dC, dI) vwCl (ac_ty cA) ad cA (TT nF) A) A) [.ref (ad 24)].toArray s 0 0 A) (F0 m 12 ls [.int z0]) := by
    intro z0 H locs ls f0 hP hD hS hl
    exact a_retz F hr hlocks hP hD hS dX6_isOver_12 (i_01 (by omega)) ⟨rfl, (by omega : (0 : Int) ≤ z0.toInt ∧ z0.toInt ≤ 1)⟩
  refine lv_aload_n F.1 F.2.1 dX6_isOver_0 rfl (lv_at hl 0 rfl) ?_
  refine a_Vi F hml hl.1 hA hP hD hS (As := []) (c_X6_hoursLeft_24 l dC dI ad cA nF _  hR) (cs_RX6_64 (d := 1) F.2.2.1 (by decide)) tc_24 rfl rfl rfl rfl (Nat.le_of_ble_eq_true rfl) dX6_isOver_1 ⟨Nat.le_refl 0, Nat.le_refl 0⟩ (fun r1 uN1 H locs hq hP hD hS => ?_)
  obtain ⟨hu1, gr1⟩ := hq
  rw [hu1] at hP hD
  refine z_gt F 11 dX6_isOver_4 (by decide) rfl (fun c2 => ?_) (fun c2 => ?_)
  · refine a_ic F (0 : Int32) dX6_isOver_11 (by decide) ?_
    exact L12 (0 : Int32) _ _ _ (by decide) hP hD hS (lv_sub hl [] rfl)
  · refine a_ic F (1 : Int32) dX6_isOver_7 (by decide) ?_
    refine lv_goto (tgt := 12) F.1 F.2.1 dX6_isOver_8 (by decide) ?_
    exact L12 (1 : Int32) _ _ _ (by decide) hP hD hS (lv_sub hl [] rfl)
set_option maxHeartbeats 4000000 in
set_option maxRecDepth 100000 in
theorem c_X6_whyNotDo_24 (l : Launch) (dC : Nat → ClassId) (dI : Nat → Nat → Nat) (ad : Nat → Nat) (cA : Nat → ClassId) (nF : Nat) (u0 : ac_U) (p0 : Int32) (hR : ac_R rg u0) : ac_Mi l yX6_whyNotDo (.code yX6_whyNotDo cX6_whyNotDo 2 (some .int) :: TB) 3 (dC, dI) vwCl (ac_ty cA) ad cA (TT nF) [.ref (ad 24), .int p0] u0 (fun (r : Int32) (u : ac_U) => u = u0 ∧ ((0 : Int) ≤ r.toInt ∧ r.toInt ≤ 4)) := by
  refine ac_Mi.of (cc := cX6_whyNotDo) (maxL := 2) (ret := (some .int)) (by decide) rfl (Nat.le_of_ble_eq_true rfl) ?_
  intro p e s m below meth c A ls F hml hr hlocks hA hP hD hS hl
  have F : ac_X p s m [.ref (ad 24), .int p0].toArray c cX6_whyNotDo RX6 TB (dC, dI) vwCl (ac_ty cA) := ⟨F.1, F.2.1, fun w h => F.2.2.1 w (List.mem_cons_of_mem _ h), F.2.2.2.1, F.2.2.2.2⟩
  have hl : lv_has ls 2 [(0, .ref (ad 24)), (1, .int p0)] := hl
  have L35 : ∀ (z0 : Int32) (H : Heap) (locs : List Loc) (ls : Array Slot), (0 : Int) ≤ z0.toInt ∧ z0.toInt ≤ 4 → va_P (dC, dI) vwCl (ac_w ad cA (TT nF) u0) H → va_D A (ac_w ad cA (TT nF) u0) → va_S A s.heap H locs → lv_has ls 2 [] → W p l e (ac_rm 3) s m [.ref (ad 24), .int p0].toArray below meth c H locs 0 0 (MQ below (va_Qi (fun (r : Int32) (u : ac_U) => u = u0 ∧ ((0 : Int) ≤ r.toInt ∧ r.toInt ≤ 4)) (ac_B (dC, dI) vwCl (ac_ty cA) ad cA (TT nF) A) A) [.ref (ad 24), .int p0].toArray s 0 0 A) (F0 m 35 ls [.int z0]) := by
    intro z0 H locs ls f0 hP hD hS hl
    exact a_reti F hr hlocks hP hD hS dX6_whyNotDo_35 ⟨rfl, (by omega : (0 : Int) ≤ z0.toInt ∧ z0.toInt ≤ 4)⟩
  refine lv_aload_n F.1 F.2.1 dX6_whyNotDo_0 rfl (lv_at hl 0 rfl) ?_
  refine lv_iload_n F.1 F.2.1 dX6_whyNotDo_1 rfl (lv_at hl 1 rfl) ?_
  refine a_Vi F hml hl.1 hA hP hD hS (As := [.int p0]) (c_X6_isBusy_24 l dC dI ad cA nF _ p0 hR) (cs_RX6_68 (d := 1) F.2.2.1 (by decide)) tc_24 rfl rfl rfl rfl (Nat.le_of_ble_eq_true rfl) dX6_whyNotDo_2 ⟨Nat.le_refl 0, Nat.le_refl 0⟩ (fun r1 uN1 H locs hq hP hD hS => ?_)
  obtain ⟨hu1, gr1⟩ := hq
  rw [hu1] at hP hD
  refine z_eq F 10 dX6_whyNotDo_5 (by decide) rfl (fun c2 => ?_) (fun c2 => ?_)
  · refine lv_aload_n F.1 F.2.1 dX6_whyNotDo_10 rfl (lv_at hl 0 rfl) ?_
    refine a_Vi F hml hl.1 hA hP hD hS (As := []) (c_X6_isOver_24 l dC dI ad cA nF _  hR) (cs_RX6_76 (d := 2) F.2.2.1 (by decide)) tc_24 rfl rfl rfl rfl (Nat.le_of_ble_eq_true rfl) dX6_whyNotDo_11 ⟨Nat.le_refl 0, Nat.le_refl 0⟩ (fun r3 uN3 H locs hq hP hD hS => ?_)
    obtain ⟨hu3, gr3⟩ := hq
    rw [hu3] at hP hD
    refine z_eq F 19 dX6_whyNotDo_14 (by decide) rfl (fun c4 => ?_) (fun c4 => ?_)
    · refine lv_aload_n F.1 F.2.1 dX6_whyNotDo_19 rfl (lv_at hl 0 rfl) ?_
      refine a_getr F inX6 hP 24 1 tc_24 rfl rfl (by decide) q272 (fun _ h9 => h9) dX6_whyNotDo_20 ?_
      refine a_ic F (2 : Int32) dX6_whyNotDo_23 (by decide) ?_
      refine a_iald F hP 25 tc_25 rfl (i_in ic_2 (by omega)) dX6_whyNotDo_24 (fun v5 ev5 => ?_)
      have hv5 : (0 : Int) ≤ v5.toInt ∧ v5.toInt ≤ 80 := ev5 ▸ hR 25 _
      refine a_bp F (80 : Int32) dX6_whyNotDo_25 (by decide) ?_
      refine b_lt F 34 dX6_whyNotDo_27 (by decide) rfl ic_80 (fun c6 => ?_) (fun c6 => ?_)
      · refine a_ic F (0 : Int32) dX6_whyNotDo_34 (by decide) ?_
        exact L35 (0 : Int32) _ _ _ (by decide) hP hD hS (lv_sub hl [] rfl)
      · refine a_ic F (4 : Int32) dX6_whyNotDo_30 (by decide) ?_
        refine lv_goto (tgt := 35) F.1 F.2.1 dX6_whyNotDo_31 (by decide) ?_
        exact L35 (4 : Int32) _ _ _ (by decide) hP hD hS (lv_sub hl [] rfl)
    · refine a_ic F (3 : Int32) dX6_whyNotDo_17 (by decide) ?_
      exact a_reti F hr hlocks hP hD hS dX6_whyNotDo_18 ⟨rfl, (by decide)⟩
  · refine a_ic F (1 : Int32) dX6_whyNotDo_8 (by decide) ?_
    exact a_reti F hr hlocks hP hD hS dX6_whyNotDo_9 ⟨rfl, (by decide)⟩
set_option maxHeartbeats 4000000 in
set_option maxRecDepth 100000 in
theorem c_X0_sortBehind (l : Launch) (dC : Nat → ClassId) (dI : Nat → Nat → Nat) (ad : Nat → Nat) (cA : Nat → ClassId) (nF : Nat) (u0 : ac_U) (p0 : Int32) (hR : ac_R rg u0) (hp0 : (-128 : Int) ≤ p0.toInt ∧ p0.toInt ≤ 127) : ac_Mi l yX0_sortBehind (.code yX0_sortBehind cX0_sortBehind 1 (some .int) :: TB) 1 (dC, dI) vwCl (ac_ty cA) ad cA (TT nF) [.int p0] u0 (fun (r : Int32) (u : ac_U) => u = u0 ∧ ((-1 : Int) ≤ r.toInt ∧ r.toInt ≤ 3)) := by
  refine ac_Mi.of (cc := cX0_sortBehind) (maxL := 1) (ret := (some .int)) (by decide) rfl (Nat.le_of_ble_eq_true rfl) ?_
  intro p e s m below meth c A ls F hml hr hlocks hA hP hD hS hl
  have F : ac_X p s m [.int p0].toArray c cX0_sortBehind RX0 TB (dC, dI) vwCl (ac_ty cA) := ⟨F.1, F.2.1, fun w h => F.2.2.1 w (List.mem_cons_of_mem _ h), F.2.2.2.1, F.2.2.2.2⟩
  have hl : lv_has ls 1 [(0, .int p0)] := hl
  refine lv_iload_n F.1 F.2.1 dX0_sortBehind_0 rfl (lv_at hl 0 rfl) ?_
  rcases (show (p0.toInt < 110 ∨ 112 < p0.toInt) ∨ p0.toInt = 110 ∨ p0.toInt = 111 ∨ p0.toInt = 112 by omega) with c1 | c1 | c1 | c1
  · refine lv_tableOut (tgt := 34) F.1 F.2.1 dX0_sortBehind_1 c1 (by decide) ?_
    refine a_ic F (-1 : Int32) dX0_sortBehind_34 (by decide) ?_
    exact a_reti F hr hlocks hP hD hS dX0_sortBehind_35 ⟨rfl, (by decide)⟩
  · refine lv_tableIn (tgt := 28) F.1 F.2.1 dX0_sortBehind_1 (by omega) (by omega) (by rw [c1]; rfl) (by decide) ?_
    refine a_ic F (0 : Int32) dX0_sortBehind_28 (by decide) ?_
    exact a_reti F hr hlocks hP hD hS dX0_sortBehind_29 ⟨rfl, (by decide)⟩
  · refine lv_tableIn (tgt := 30) F.1 F.2.1 dX0_sortBehind_1 (by omega) (by omega) (by rw [c1]; rfl) (by decide) ?_
    refine a_ic F (2 : Int32) dX0_sortBehind_30 (by decide) ?_
    exact a_reti F hr hlocks hP hD hS dX0_sortBehind_31 ⟨rfl, (by decide)⟩
  · refine lv_tableIn (tgt := 32) F.1 F.2.1 dX0_sortBehind_1 (by omega) (by omega) (by rw [c1]; rfl) (by decide) ?_
    refine a_ic F (3 : Int32) dX0_sortBehind_32 (by decide) ?_
    exact a_reti F hr hlocks hP hD hS dX0_sortBehind_33 ⟨rfl, (by decide)⟩
set_option maxHeartbeats 4000000 in
set_option maxRecDepth 100000 in
theorem c_X10_fail_1 (l : Launch) (dC : Nat → ClassId) (dI : Nat → Nat → Nat) (ad : Nat → Nat) (cA : Nat → ClassId) (nF : Nat) (u0 : ac_U) (p0 : Int32) (hR : ac_R rg u0) (hp0 : (1 : Int) ≤ p0.toInt ∧ p0.toInt ≤ 4) : ac_Mi l yX10_fail (.code yX10_fail cX10_fail 2 (some .boolean) :: TB) 1 (dC, dI) vwCl (ac_ty cA) ad cA (TT nF) [.ref (ad 1), .int p0] u0 (fun (r : Int32) (u : ac_U) => ac_R rg u ∧ ac_Fr [(1, some 10), (1, some 11)] u0 u ∧ ((0 : Int) ≤ r.toInt ∧ r.toInt ≤ 0)) := by
  refine ac_Mi.of (cc := cX10_fail) (maxL := 2) (ret := (some .boolean)) (by decide) rfl (Nat.le_of_ble_eq_true rfl) ?_
  intro p e s m below meth c A ls F hml hr hlocks hA hP hD hS hl
  have F : ac_X p s m [.ref (ad 1), .int p0].toArray c cX10_fail RX10 TB (dC, dI) vwCl (ac_ty cA) := ⟨F.1, F.2.1, fun w h => F.2.2.1 w (List.mem_cons_of_mem _ h), F.2.2.2.1, F.2.2.2.2⟩
  have hl : lv_has ls 2 [(0, .ref (ad 1)), (1, .int p0)] := hl
  have hF : ac_Fr [(1, some 10), (1, some 11)] u0 u0 := ac_Fr.rf
  refine lv_aload_n F.1 F.2.1 dX10_fail_0 rfl (lv_at hl 0 rfl) ?_
  refine lv_iload_n F.1 F.2.1 dX10_fail_1 rfl (lv_at hl 1 rfl) ?_
  refine a_puti F inX10 tyX10 tyX10_ok nmX10 hP hD hS 1 10 tc_1 rfl rfl (by decide) q114 (fun _ h9 => h9) rfl (ty := .int) (tyX10_ok 10 (by decide)) rfl rfl dX10_fail_2 (fun H locs hP hD hS => ?_)
  have hR := hR.si (c := 1) (k := 10) (v := p0) (by omega : (0 : Int) ≤ p0.toInt ∧ p0.toInt ≤ 4)
  have hF := hF.si (c := 1) (k := 10) (v := p0) rfl
  refine lv_aload_n F.1 F.2.1 dX10_fail_5 rfl (lv_at hl 0 rfl) ?_
  refine lv_aload_n F.1 F.2.1 dX10_fail_6 rfl (lv_at hl 0 rfl) ?_
  have g1 : (0 : Int) ≤ (u0.1 1 5).toInt ∧ (u0.1 1 5).toInt ≤ 940 := hR 1 5
  refine a_geti F inX10 hP 1 5 tc_1 rfl rfl (by decide) q99 (fun _ h9 => h9) (v := (u0.1 1 5)) rfl dX10_fail_7 ?_
  refine a_puti F inX10 tyX10 tyX10_ok nmX10 hP hD hS 1 11 tc_1 rfl rfl (by decide) q116 (fun _ h9 => h9) rfl (ty := .int) (tyX10_ok 11 (by decide)) rfl rfl dX10_fail_10 (fun H locs hP hD hS => ?_)
  have hR := hR.si (c := 1) (k := 11) (v := (u0.1 1 5)) (by omega : (0 : Int) ≤ (u0.1 1 5).toInt ∧ (u0.1 1 5).toInt ≤ 940)
  have hF := hF.si (c := 1) (k := 11) (v := (u0.1 1 5)) rfl
  refine a_ic F (0 : Int32) dX10_fail_13 (by decide) ?_
  exact a_retz F hr hlocks hP hD hS dX10_fail_14 (Or.inl rfl) ⟨hR, hF, (by decide)⟩
set_option maxHeartbeats 4000000 in
set_option maxRecDepth 100000 in
theorem c_X10_isDigit (l : Launch) (dC : Nat → ClassId) (dI : Nat → Nat → Nat) (ad : Nat → Nat) (cA : Nat → ClassId) (nF : Nat) (u0 : ac_U) (p0 : Int32) (hR : ac_R rg u0) (hp0 : (-128 : Int) ≤ p0.toInt ∧ p0.toInt ≤ 127) : ac_Mi l yX10_isDigit (.code yX10_isDigit cX10_isDigit 1 (some .boolean) :: TB) 1 (dC, dI) vwCl (ac_ty cA) ad cA (TT nF) [.int p0] u0 (fun (r : Int32) (u : ac_U) => u = u0 ∧ ((0 : Int) ≤ r.toInt ∧ r.toInt ≤ 1)) := by
  refine ac_Mi.of (cc := cX10_isDigit) (maxL := 1) (ret := (some .boolean)) (by decide) rfl (Nat.le_of_ble_eq_true rfl) ?_
  intro p e s m below meth c A ls F hml hr hlocks hA hP hD hS hl
  have F : ac_X p s m [.int p0].toArray c cX10_isDigit RX10 TB (dC, dI) vwCl (ac_ty cA) := ⟨F.1, F.2.1, fun w h => F.2.2.1 w (List.mem_cons_of_mem _ h), F.2.2.2.1, F.2.2.2.2⟩
  have hl : lv_has ls 1 [(0, .int p0)] := hl
  have L17 : ∀ (z0 : Int32) (H : Heap) (locs : List Loc) (ls : Array Slot), (0 : Int) ≤ z0.toInt ∧ z0.toInt ≤ 1 → va_P (dC, dI) vwCl (ac_w ad cA (TT nF) u0) H → va_D A (ac_w ad cA (TT nF) u0) → va_S A s.heap H locs → lv_has ls 1 [] → W p l e (ac_rm 1) s m [.int p0].toArray below meth c H locs 0 0 (MQ below (va_Qi (fun (r : Int32) (u : ac_U) => u = u0 ∧ ((0 : Int) ≤ r.toInt ∧ r.toInt ≤ 1)) (ac_B (dC, dI) vwCl (ac_ty cA) ad cA (TT nF) A) A) [.int p0].toArray s 0 0 A) (F0 m 17 ls [.int z0]) := by
    intro z0 H locs ls f0 hP hD hS hl
    exact a_retz F hr hlocks hP hD hS dX10_isDigit_17 (i_01 (by omega)) ⟨rfl, (by omega : (0 : Int) ≤ z0.toInt ∧ z0.toInt ≤ 1)⟩
  have L16 : ∀ (H : Heap) (locs : List Loc) (ls : Array Slot), va_P (dC, dI) vwCl (ac_w ad cA (TT nF) u0) H → va_D A (ac_w ad cA (TT nF) u0) → va_S A s.heap H locs → lv_has ls 1 [] → W p l e (ac_rm 1) s m [.int p0].toArray below meth c H locs 0 0 (MQ below (va_Qi (fun (r : Int32) (u : ac_U) => u = u0 ∧ ((0 : Int) ≤ r.toInt ∧ r.toInt ≤ 1)) (ac_B (dC, dI) vwCl (ac_ty cA) ad cA (TT nF) A) A) [.int p0].toArray s 0 0 A) (F0 m 16 ls []) := by
    intro H locs ls hP hD hS hl
    refine a_ic F (0 : Int32) dX10_isDigit_16 (by decide) ?_
    exact L17 (0 : Int32) _ _ _ (by decide) hP hD hS (lv_sub hl [] rfl)
  refine lv_iload_n F.1 F.2.1 dX10_isDigit_0 rfl (lv_at hl 0 rfl) ?_
  refine a_bp F (48 : Int32) dX10_isDigit_1 (by decide) ?_
  refine b_lt F 16 dX10_isDigit_3 (by decide) rfl ic_48 (fun c1 => ?_) (fun c1 => ?_)
  · exact L16 _ _ _  hP hD hS (lv_sub hl [] rfl)
  · refine lv_iload_n F.1 F.2.1 dX10_isDigit_6 rfl (lv_at hl 0 rfl) ?_
    refine a_bp F (57 : Int32) dX10_isDigit_7 (by decide) ?_
    refine b_gt F 16 dX10_isDigit_9 (by decide) rfl ic_57 (fun c2 => ?_) (fun c2 => ?_)
    · exact L16 _ _ _  hP hD hS (lv_sub hl [] rfl)
    · refine a_ic F (1 : Int32) dX10_isDigit_12 (by decide) ?_
      refine lv_goto (tgt := 17) F.1 F.2.1 dX10_isDigit_13 (by decide) ?_
      exact L17 (1 : Int32) _ _ _ (by decide) hP hD hS (lv_sub hl [] rfl)
set_option maxHeartbeats 4000000 in
set_option maxRecDepth 100000 in
theorem c_X10_isLetter (l : Launch) (dC : Nat → ClassId) (dI : Nat → Nat → Nat) (ad : Nat → Nat) (cA : Nat → ClassId) (nF : Nat) (u0 : ac_U) (p0 : Int32) (hR : ac_R rg u0) (hp0 : (-128 : Int) ≤ p0.toInt ∧ p0.toInt ≤ 127) : ac_Mi l yX10_isLetter (.code yX10_isLetter cX10_isLetter 1 (some .boolean) :: TB) 1 (dC, dI) vwCl (ac_ty cA) ad cA (TT nF) [.int p0] u0 (fun (r : Int32) (u : ac_U) => u = u0 ∧ ((0 : Int) ≤ r.toInt ∧ r.toInt ≤ 1)) := by
  refine ac_Mi.of (cc := cX10_isLetter) (maxL := 1) (ret := (some .boolean)) (by decide) rfl (Nat.le_of_ble_eq_true rfl) ?_
  intro p e s m below meth c A ls F hml hr hlocks hA hP hD hS hl
  have F : ac_X p s m [.int p0].toArray c cX10_isLetter RX10 TB (dC, dI) vwCl (ac_ty cA) := ⟨F.1, F.2.1, fun w h => F.2.2.1 w (List.mem_cons_of_mem _ h), F.2.2.2.1, F.2.2.2.2⟩
  have hl : lv_has ls 1 [(0, .int p0)] := hl
  have L17 : ∀ (z0 : Int32) (H : Heap) (locs : List Loc) (ls : Array Slot), (0 : Int) ≤ z0.toInt ∧ z0.toInt ≤ 1 → va_P (dC, dI) vwCl (ac_w ad cA (TT nF) u0) H → va_D A (ac_w ad cA (TT nF) u0) → va_S A s.heap H locs → lv_has ls 1 [] → W p l e (ac_rm 1) s m [.int p0].toArray below meth c H locs 0 0 (MQ below (va_Qi (fun (r : Int32) (u : ac_U) => u = u0 ∧ ((0 : Int) ≤ r.toInt ∧ r.toInt ≤ 1)) (ac_B (dC, dI) vwCl (ac_ty cA) ad cA (TT nF) A) A) [.int p0].toArray s 0 0 A) (F0 m 17 ls [.int z0]) := by
    intro z0 H locs ls f0 hP hD hS hl
    exact a_retz F hr hlocks hP hD hS dX10_isLetter_17 (i_01 (by omega)) ⟨rfl, (by omega : (0 : Int) ≤ z0.toInt ∧ z0.toInt ≤ 1)⟩
  have L16 : ∀ (H : Heap) (locs : List Loc) (ls : Array Slot), va_P (dC, dI) vwCl (ac_w ad cA (TT nF) u0) H → va_D A (ac_w ad cA (TT nF) u0) → va_S A s.heap H locs → lv_has ls 1 [] → W p l e (ac_rm 1) s m [.int p0].toArray below meth c H locs 0 0 (MQ below (va_Qi (fun (r : Int32) (u : ac_U) => u = u0 ∧ ((0 : Int) ≤ r.toInt ∧ r.toInt ≤ 1)) (ac_B (dC, dI) vwCl (ac_ty cA) ad cA (TT nF) A) A) [.int p0].toArray s 0 0 A) (F0 m 16 ls []) := by
    intro H locs ls hP hD hS hl
    refine a_ic F (0 : Int32) dX10_isLetter_16 (by decide) ?_
    exact L17 (0 : Int32) _ _ _ (by decide) hP hD hS (lv_sub hl [] rfl)
  refine lv_iload_n F.1 F.2.1 dX10_isLetter_0 rfl (lv_at hl 0 rfl) ?_
  refine a_bp F (97 : Int32) dX10_isLetter_1 (by decide) ?_
  refine b_lt F 16 dX10_isLetter_3 (by decide) rfl ic_97 (fun c1 => ?_) (fun c1 => ?_)
  · exact L16 _ _ _  hP hD hS (lv_sub hl [] rfl)
  · refine lv_iload_n F.1 F.2.1 dX10_isLetter_6 rfl (lv_at hl 0 rfl) ?_
    refine a_bp F (122 : Int32) dX10_isLetter_7 (by decide) ?_
    refine b_gt F 16 dX10_isLetter_9 (by decide) rfl ic_122 (fun c2 => ?_) (fun c2 => ?_)
    · exact L16 _ _ _  hP hD hS (lv_sub hl [] rfl)
    · refine a_ic F (1 : Int32) dX10_isLetter_12 (by decide) ?_
      refine lv_goto (tgt := 17) F.1 F.2.1 dX10_isLetter_13 (by decide) ?_
      exact L17 (1 : Int32) _ _ _ (by decide) hP hD hS (lv_sub hl [] rfl)
set_option maxHeartbeats 4000000 in
set_option maxRecDepth 100000 in
theorem c_X10_isCompare (l : Launch) (dC : Nat → ClassId) (dI : Nat → Nat → Nat) (ad : Nat → Nat) (cA : Nat → ClassId) (nF : Nat) (u0 : ac_U) (p0 : Int32) (hR : ac_R rg u0) (hp0 : (-128 : Int) ≤ p0.toInt ∧ p0.toInt ≤ 127) : ac_Mi l yX10_isCompare (.code yX10_isCompare cX10_isCompare 1 (some .boolean) :: TB) 1 (dC, dI) vwCl (ac_ty cA) ad cA (TT nF) [.int p0] u0 (fun (r : Int32) (u : ac_U) => u = u0 ∧ ((0 : Int) ≤ r.toInt ∧ r.toInt ≤ 1)) := by
  refine ac_Mi.of (cc := cX10_isCompare) (maxL := 1) (ret := (some .boolean)) (by decide) rfl (Nat.le_of_ble_eq_true rfl) ?_
  intro p e s m below meth c A ls F hml hr hlocks hA hP hD hS hl
  have F : ac_X p s m [.int p0].toArray c cX10_isCompare RX10 TB (dC, dI) vwCl (ac_ty cA) := ⟨F.1, F.2.1, fun w h => F.2.2.1 w (List.mem_cons_of_mem _ h), F.2.2.2.1, F.2.2.2.2⟩
  have hl : lv_has ls 1 [(0, .int p0)] := hl
  have L23 : ∀ (z0 : Int32) (H : Heap) (locs : List Loc) (ls : Array Slot), (0 : Int) ≤ z0.toInt ∧ z0.toInt ≤ 1 → va_P (dC, dI) vwCl (ac_w ad cA (TT nF) u0) H → va_D A (ac_w ad cA (TT nF) u0) → va_S A s.heap H locs → lv_has ls 1 [] → W p l e (ac_rm 1) s m [.int p0].toArray below meth c H locs 0 0 (MQ below (va_Qi (fun (r : Int32) (u : ac_U) => u = u0 ∧ ((0 : Int) ≤ r.toInt ∧ r.toInt ≤ 1)) (ac_B (dC, dI) vwCl (ac_ty cA) ad cA (TT nF) A) A) [.int p0].toArray s 0 0 A) (F0 m 23 ls [.int z0]) := by
    intro z0 H locs ls f0 hP hD hS hl
    exact a_retz F hr hlocks hP hD hS dX10_isCompare_23 (i_01 (by omega)) ⟨rfl, (by omega : (0 : Int) ≤ z0.toInt ∧ z0.toInt ≤ 1)⟩
  have L18 : ∀ (H : Heap) (locs : List Loc) (ls : Array Slot), va_P (dC, dI) vwCl (ac_w ad cA (TT nF) u0) H → va_D A (ac_w ad cA (TT nF) u0) → va_S A s.heap H locs → lv_has ls 1 [] → W p l e (ac_rm 1) s m [.int p0].toArray below meth c H locs 0 0 (MQ below (va_Qi (fun (r : Int32) (u : ac_U) => u = u0 ∧ ((0 : Int) ≤ r.toInt ∧ r.toInt ≤ 1)) (ac_B (dC, dI) vwCl (ac_ty cA) ad cA (TT nF) A) A) [.int p0].toArray s 0 0 A) (F0 m 18 ls []) := by
    intro H locs ls hP hD hS hl
    refine a_ic F (1 : Int32) dX10_isCompare_18 (by decide) ?_
    refine lv_goto (tgt := 23) F.1 F.2.1 dX10_isCompare_19 (by decide) ?_
    exact L23 (1 : Int32) _ _ _ (by decide) hP hD hS (lv_sub hl [] rfl)
  refine lv_iload_n F.1 F.2.1 dX10_isCompare_0 rfl (lv_at hl 0 rfl) ?_
  refine a_bp F (60 : Int32) dX10_isCompare_1 (by decide) ?_
  refine b_eq F 18 dX10_isCompare_3 (by decide) rfl ic_60 (fun c1 => ?_) (fun c1 => ?_)
  · exact L18 _ _ _  hP hD hS (lv_sub hl [] rfl)
  · refine lv_iload_n F.1 F.2.1 dX10_isCompare_6 rfl (lv_at hl 0 rfl) ?_
    refine a_bp F (61 : Int32) dX10_isCompare_7 (by decide) ?_
    refine b_eq F 18 dX10_isCompare_9 (by decide) rfl ic_61 (fun c2 => ?_) (fun c2 => ?_)
    · exact L18 _ _ _  hP hD hS (lv_sub hl [] rfl)
    · refine lv_iload_n F.1 F.2.1 dX10_isCompare_12 rfl (lv_at hl 0 rfl) ?_
      refine a_bp F (62 : Int32) dX10_isCompare_13 (by decide) ?_
      refine b_ne F 22 dX10_isCompare_15 (by decide) rfl ic_62 (fun c3 => ?_) (fun c3 => ?_)
      · refine a_ic F (0 : Int32) dX10_isCompare_22 (by decide) ?_
        exact L23 (0 : Int32) _ _ _ (by decide) hP hD hS (lv_sub hl [] rfl)
      · exact L18 _ _ _  hP hD hS (lv_sub hl [] rfl)
set_option maxHeartbeats 4000000 in
set_option maxRecDepth 100000 in
theorem c_X10_isSign (l : Launch) (dC : Nat → ClassId) (dI : Nat → Nat → Nat) (ad : Nat → Nat) (cA : Nat → ClassId) (nF : Nat) (u0 : ac_U) (p0 : Int32) (hR : ac_R rg u0) (hp0 : (-128 : Int) ≤ p0.toInt ∧ p0.toInt ≤ 127) : ac_Mi l yX10_isSign (.code yX10_isSign cX10_isSign 1 (some .boolean) :: TB) 2 (dC, dI) vwCl (ac_ty cA) ad cA (TT nF) [.int p0] u0 (fun (r : Int32) (u : ac_U) => u = u0 ∧ ((0 : Int) ≤ r.toInt ∧ r.toInt ≤ 1)) := by
  refine ac_Mi.of (cc := cX10_isSign) (maxL := 1) (ret := (some .boolean)) (by decide) rfl (Nat.le_of_ble_eq_true rfl) ?_
  intro p e s m below meth c A ls F hml hr hlocks hA hP hD hS hl
  have F : ac_X p s m [.int p0].toArray c cX10_isSign RX10 TB (dC, dI) vwCl (ac_ty cA) := ⟨F.1, F.2.1, fun w h => F.2.2.1 w (List.mem_cons_of_mem _ h), F.2.2.2.1, F.2.2.2.2⟩
  have hl : lv_has ls 1 [(0, .int p0)] := hl
  have L30 : ∀ (z0 : Int32) (H : Heap) (locs : List Loc) (ls : Array Slot), (0 : Int) ≤ z0.toInt ∧ z0.toInt ≤ 1 → va_P (dC, dI) vwCl (ac_w ad cA (TT nF) u0) H → va_D A (ac_w ad cA (TT nF) u0) → va_S A s.heap H locs → lv_has ls 1 [] → W p l e (ac_rm 2) s m [.int p0].toArray below meth c H locs 0 0 (MQ below (va_Qi (fun (r : Int32) (u : ac_U) => u = u0 ∧ ((0 : Int) ≤ r.toInt ∧ r.toInt ≤ 1)) (ac_B (dC, dI) vwCl (ac_ty cA) ad cA (TT nF) A) A) [.int p0].toArray s 0 0 A) (F0 m 30 ls [.int z0]) := by
    intro z0 H locs ls f0 hP hD hS hl
    exact a_retz F hr hlocks hP hD hS dX10_isSign_30 (i_01 (by omega)) ⟨rfl, (by omega : (0 : Int) ≤ z0.toInt ∧ z0.toInt ≤ 1)⟩
  have L25 : ∀ (H : Heap) (locs : List Loc) (ls : Array Slot), va_P (dC, dI) vwCl (ac_w ad cA (TT nF) u0) H → va_D A (ac_w ad cA (TT nF) u0) → va_S A s.heap H locs → lv_has ls 1 [] → W p l e (ac_rm 2) s m [.int p0].toArray below meth c H locs 0 0 (MQ below (va_Qi (fun (r : Int32) (u : ac_U) => u = u0 ∧ ((0 : Int) ≤ r.toInt ∧ r.toInt ≤ 1)) (ac_B (dC, dI) vwCl (ac_ty cA) ad cA (TT nF) A) A) [.int p0].toArray s 0 0 A) (F0 m 25 ls []) := by
    intro H locs ls hP hD hS hl
    refine a_ic F (1 : Int32) dX10_isSign_25 (by decide) ?_
    refine lv_goto (tgt := 30) F.1 F.2.1 dX10_isSign_26 (by decide) ?_
    exact L30 (1 : Int32) _ _ _ (by decide) hP hD hS (lv_sub hl [] rfl)
  refine lv_iload_n F.1 F.2.1 dX10_isSign_0 rfl (lv_at hl 0 rfl) ?_
  refine a_bp F (59 : Int32) dX10_isSign_1 (by decide) ?_
  refine b_eq F 25 dX10_isSign_3 (by decide) rfl ic_59 (fun c1 => ?_) (fun c1 => ?_)
  · exact L25 _ _ _  hP hD hS (lv_sub hl [] rfl)
  · refine lv_iload_n F.1 F.2.1 dX10_isSign_6 rfl (lv_at hl 0 rfl) ?_
    refine a_bp F (40 : Int32) dX10_isSign_7 (by decide) ?_
    refine b_eq F 25 dX10_isSign_9 (by decide) rfl ic_40 (fun c2 => ?_) (fun c2 => ?_)
    · exact L25 _ _ _  hP hD hS (lv_sub hl [] rfl)
    · refine lv_iload_n F.1 F.2.1 dX10_isSign_12 rfl (lv_at hl 0 rfl) ?_
      refine a_bp F (41 : Int32) dX10_isSign_13 (by decide) ?_
      refine b_eq F 25 dX10_isSign_15 (by decide) rfl ic_41 (fun c3 => ?_) (fun c3 => ?_)
      · exact L25 _ _ _  hP hD hS (lv_sub hl [] rfl)
      · refine lv_iload_n F.1 F.2.1 dX10_isSign_18 rfl (lv_at hl 0 rfl) ?_
        refine a_Si F hml hl.1 hA hP hD hS (As := [.int p0]) (c_X10_isCompare l dC dI ad cA nF _ p0 hR (by omega)) (cs_RX10_68 (d := 1) F.2.2.1 (by decide)) rfl rfl (Nat.le_of_ble_eq_true rfl) dX10_isSign_19 ⟨Nat.le_refl 0, Nat.le_refl 0⟩ (fun r4 uN4 H locs hq hP hD hS => ?_)
        obtain ⟨hu4, gr4⟩ := hq
        rw [hu4] at hP hD
        refine z_eq F 29 dX10_isSign_22 (by decide) rfl (fun c5 => ?_) (fun c5 => ?_)
        · refine a_ic F (0 : Int32) dX10_isSign_29 (by decide) ?_
          exact L30 (0 : Int32) _ _ _ (by decide) hP hD hS (lv_sub hl [] rfl)
        · exact L25 _ _ _  hP hD hS (lv_sub hl [] rfl)
set_option maxHeartbeats 4000000 in
set_option maxRecDepth 100000 in
theorem c_X10_kindOfWord_1 (l : Launch) (dC : Nat → ClassId) (dI : Nat → Nat → Nat) (ad : Nat → Nat) (cA : Nat → ClassId) (nF : Nat) (u0 : ac_U)  (hR : ac_R rg u0) : ac_Mi l yX10_kindOfWord (.code yX10_kindOfWord cX10_kindOfWord 2 (some .int) :: TB) 1 (dC, dI) vwCl (ac_ty cA) ad cA (TT nF) [.ref (ad 1)] u0 (fun (r : Int32) (u : ac_U) => u = u0 ∧ ((2 : Int) ≤ r.toInt ∧ r.toInt ≤ 126)) := by
  refine ac_Mi.of (cc := cX10_kindOfWord) (maxL := 2) (ret := (some .int)) (by decide) rfl (Nat.le_of_ble_eq_true rfl) ?_
  intro p e s m below meth c A ls F hml hr hlocks hA hP hD hS hl
  have F : ac_X p s m [.ref (ad 1)].toArray c cX10_kindOfWord RX10 TB (dC, dI) vwCl (ac_ty cA) := ⟨F.1, F.2.1, fun w h => F.2.2.1 w (List.mem_cons_of_mem _ h), F.2.2.2.1, F.2.2.2.2⟩
  have hl : lv_has ls 2 [(0, .ref (ad 1))] := hl
  have L2 : ∀ (n2 : Nat) (x1 : Int32) (H : Heap) (locs : List Loc) (ls : Array Slot), 27 - x1.toInt < (n2 : Int) → (0 : Int) ≤ x1.toInt ∧ x1.toInt ≤ 27 → va_P (dC, dI) vwCl (ac_w ad cA (TT nF) u0) H → va_D A (ac_w ad cA (TT nF) u0) → va_S A s.heap H locs → lv_has ls 2 [(0, .ref (ad 1)), (1, .int x1)] → W p l e (ac_rm 1) s m [.ref (ad 1)].toArray below meth c H locs 0 0 (MQ below (va_Qi (fun (r : Int32) (u : ac_U) => u = u0 ∧ ((2 : Int) ≤ r.toInt ∧ r.toInt ≤ 126)) (ac_B (dC, dI) vwCl (ac_ty cA) ad cA (TT nF) A) A) [.ref (ad 1)].toArray s 0 0 A) (F0 m 2 ls []) := by
    intro n2
    induction n2 with
    | zero => intro x1 H locs ls hn2 f0 hP hD hS hl; exfalso; omega
    | succ n2 ih2 =>
      intro x1 H locs ls hn2 f0 hP hD hS hl
      refine lv_iload_n F.1 F.2.1 dX10_kindOfWord_2 rfl (lv_at hl 1 rfl) ?_
      refine a_bp F (27 : Int32) dX10_kindOfWord_3 (by decide) ?_
      refine b_ge F 33 dX10_kindOfWord_5 (by decide) rfl ic_27 (fun c1 => ?_) (fun c1 => ?_)
      · refine a_ic F (2 : Int32) dX10_kindOfWord_33 (by decide) ?_
        exact a_reti F hr hlocks hP hD hS dX10_kindOfWord_34 ⟨rfl, (by decide)⟩
      · refine lv_aload_n F.1 F.2.1 dX10_kindOfWord_8 rfl (lv_at hl 0 rfl) ?_
        refine a_getr F inX10 hP 1 1 tc_1 rfl rfl (by decide) q94 (fun _ h9 => h9) dX10_kindOfWord_9 ?_
        refine lv_iload_n F.1 F.2.1 dX10_kindOfWord_12 rfl (lv_at hl 1 rfl) ?_
        refine a_lald F hP 3 tc_3 rfl (i_in rfl (by omega)) dX10_kindOfWord_13 (fun w2 ew2 => ?_)
        refine lv_aload_n F.1 F.2.1 dX10_kindOfWord_14 rfl (lv_at hl 0 rfl) ?_
        refine a_getl F inX10 hP 1 7 tc_1 rfl rfl (by decide) q104 (fun _ h9 => h9) rfl dX10_kindOfWord_15 ?_
        refine lv_topl (fun w3 _ => ?_)
        refine W.lcmp F.1 F.2.1 dX10_kindOfWord_18 ?_
        refine lv_topi (fun v4 _ => ?_)
        refine z_ne F 27 dX10_kindOfWord_19 (by decide) rfl (fun c5 => ?_) (fun c5 => ?_)
        · refine a_iinc F (k := 1) (fun v6 => [(1, .int v6), (0, .ref (ad 1))]) dX10_kindOfWord_27 hl rfl rfl (by decide) (by omega) (by decide) (fun _ => rfl) (fun v6 ls hv6 hl => ?_)
          refine lv_goto (tgt := 2) F.1 F.2.1 dX10_kindOfWord_30 (by decide) ?_
          exact ih2 v6 _ _ _ (by omega) (by omega) hP hD hS (lv_sub hl [1, 0] rfl)
        · refine a_bp F (100 : Int32) dX10_kindOfWord_22 (by decide) ?_
          refine lv_iload_n F.1 F.2.1 dX10_kindOfWord_24 rfl (lv_at hl 1 rfl) ?_
          refine a_iadd F dX10_kindOfWord_25 ic_100 rfl (by omega) (fun v7 hv7 => ?_)
          exact a_reti F hr hlocks hP hD hS dX10_kindOfWord_26 ⟨rfl, (by omega : (2 : Int) ≤ v7.toInt ∧ v7.toInt ≤ 126)⟩
  refine a_ic F (0 : Int32) dX10_kindOfWord_0 (by decide) ?_
  refine lv_istore_n (lv' := [(1, .int (0 : Int32)), (0, .ref (ad 1))]) F.1 F.2.1 dX10_kindOfWord_1 rfl hl (by decide) rfl (fun ls hl => ?_)
  exact L2 29 (0 : Int32) _ _ _ (by decide) (by decide) hP hD hS (lv_sub hl [1, 0] rfl)
set_option maxHeartbeats 4000000 in
set_option maxRecDepth 100000 in
theorem c_X10_withLetter (l : Launch) (dC : Nat → ClassId) (dI : Nat → Nat → Nat) (ad : Nat → Nat) (cA : Nat → ClassId) (nF : Nat) (u0 : ac_U) (p0 : Int64) (p1 : Int32) (hR : ac_R rg u0) (hp1 : (-128 : Int) ≤ p1.toInt ∧ p1.toInt ≤ 127) : ac_Ml l yX10_withLetter (.code yX10_withLetter cX10_withLetter 3 (some .long) :: TB) 1 (dC, dI) vwCl (ac_ty cA) ad cA (TT nF) [.long p0, .int p1] u0 (fun (_ : Int64) (u : ac_U) => u = u0) := by
  refine ac_Ml.of (cc := cX10_withLetter) (maxL := 3) (ret := (some .long)) (by decide) rfl (Nat.le_of_ble_eq_true rfl) ?_
  intro p e s m below meth c A ls F hml hr hlocks hA hP hD hS hl
  have F : ac_X p s m [.long p0, .int p1].toArray c cX10_withLetter RX10 TB (dC, dI) vwCl (ac_ty cA) := ⟨F.1, F.2.1, fun w h => F.2.2.1 w (List.mem_cons_of_mem _ h), F.2.2.2.1, F.2.2.2.2⟩
  have hl : lv_has ls 3 [(0, .long p0), (2, .int p1)] := hl
  refine lv_lload_n F.1 F.2.1 dX10_withLetter_0 rfl (lv_at hl 0 rfl) ?_
  refine lv_ldc2 (v := (32 : Int64)) F.1 F.2.1 F.2.2.2.1 (F.2.2.1 _ q92) dX10_withLetter_1 ?_
  refine lv_lmul F.1 F.2.1 dX10_withLetter_4 ?_
  refine lv_topl (fun w1 _ => ?_)
  refine lv_iload_n F.1 F.2.1 dX10_withLetter_5 rfl (lv_at hl 1 rfl) ?_
  refine a_bp F (97 : Int32) dX10_withLetter_6 (by decide) ?_
  refine a_isub F dX10_withLetter_8 rfl ic_97 (by omega) (fun v2 hv2 => ?_)
  refine a_ic F (1 : Int32) dX10_withLetter_9 (by decide) ?_
  refine a_iadd F dX10_withLetter_10 rfl ic_1 (by omega) (fun v3 hv3 => ?_)
  refine lv_i2l F.1 F.2.1 dX10_withLetter_11 rfl ?_
  refine lv_topl (fun w4 _ => ?_)
  refine lv_ladd F.1 F.2.1 dX10_withLetter_12 ?_
  refine lv_topl (fun w5 _ => ?_)
  exact a_retl F hr hlocks hP hD hS dX10_withLetter_13 rfl
set_option maxHeartbeats 4000000 in
set_option maxRecDepth 100000 in
theorem c_X2_nameIndex_4 (l : Launch) (dC : Nat → ClassId) (dI : Nat → Nat → Nat) (ad : Nat → Nat) (cA : Nat → ClassId) (nF : Nat) (u0 : ac_U) (p0 : Int64) (hR : ac_R rg u0) : ac_Mi l yX2_nameIndex (.code yX2_nameIndex cX2_nameIndex 4 (some .int) :: TB) 1 (dC, dI) vwCl (ac_ty cA) ad cA (TT nF) [.ref (ad 4), .long p0] u0 (fun (r : Int32) (u : ac_U) => u = u0 ∧ ((-1 : Int) ≤ r.toInt ∧ r.toInt ≤ 25)) := by
  refine ac_Mi.of (cc := cX2_nameIndex) (maxL := 4) (ret := (some .int)) (by decide) rfl (Nat.le_of_ble_eq_true rfl) ?_
  intro p e s m below meth c A ls F hml hr hlocks hA hP hD hS hl
  have F : ac_X p s m [.ref (ad 4), .long p0].toArray c cX2_nameIndex RX2 TB (dC, dI) vwCl (ac_ty cA) := ⟨F.1, F.2.1, fun w h => F.2.2.1 w (List.mem_cons_of_mem _ h), F.2.2.2.1, F.2.2.2.2⟩
  have hl : lv_has ls 4 [(0, .ref (ad 4)), (1, .long p0)] := hl
  have L2 : ∀ (n2 : Nat) (w1 : Int64) (x3 : Int32) (H : Heap) (locs : List Loc) (ls : Array Slot), 26 - x3.toInt < (n2 : Int) → (0 : Int) ≤ x3.toInt ∧ x3.toInt ≤ 26 → va_P (dC, dI) vwCl (ac_w ad cA (TT nF) u0) H → va_D A (ac_w ad cA (TT nF) u0) → va_S A s.heap H locs → lv_has ls 4 [(0, .ref (ad 4)), (1, .long w1), (3, .int x3)] → W p l e (ac_rm 1) s m [.ref (ad 4), .long p0].toArray below meth c H locs 0 0 (MQ below (va_Qi (fun (r : Int32) (u : ac_U) => u = u0 ∧ ((-1 : Int) ≤ r.toInt ∧ r.toInt ≤ 25)) (ac_B (dC, dI) vwCl (ac_ty cA) ad cA (TT nF) A) A) [.ref (ad 4), .long p0].toArray s 0 0 A) (F0 m 2 ls []) := by
    intro n2
    induction n2 with
    | zero => intro w1 x3 H locs ls hn2 f0 hP hD hS hl; exfalso; omega
    | succ n2 ih2 =>
      intro w1 x3 H locs ls hn2 f0 hP hD hS hl
      refine lv_iload_n F.1 F.2.1 dX2_nameIndex_2 rfl (lv_at hl 2 rfl) ?_
      refine lv_aload_n F.1 F.2.1 dX2_nameIndex_3 rfl (lv_at hl 0 rfl) ?_
      have g1 : (0 : Int) ≤ (u0.1 4 8).toInt ∧ (u0.1 4 8).toInt ≤ 26 := hR 4 8
      refine a_geti F inX2 hP 4 8 tc_4 rfl rfl (by decide) q188 (fun _ h9 => h9) (v := (u0.1 4 8)) rfl dX2_nameIndex_4 ?_
      refine b_ge F 29 dX2_nameIndex_7 (by decide) rfl rfl (fun c2 => ?_) (fun c2 => ?_)
      · refine a_ic F (-1 : Int32) dX2_nameIndex_29 (by decide) ?_
        exact a_reti F hr hlocks hP hD hS dX2_nameIndex_30 ⟨rfl, (by decide)⟩
      · refine lv_aload_n F.1 F.2.1 dX2_nameIndex_10 rfl (lv_at hl 0 rfl) ?_
        refine a_getr F inX2 hP 4 14 tc_4 rfl rfl (by decide) q197 (fun _ h9 => h9) dX2_nameIndex_11 ?_
        refine lv_iload_n F.1 F.2.1 dX2_nameIndex_14 rfl (lv_at hl 2 rfl) ?_
        refine a_lald F hP 10 tc_10 rfl (i_in rfl (by omega)) dX2_nameIndex_15 (fun w3 ew3 => ?_)
        refine lv_lload_n F.1 F.2.1 dX2_nameIndex_16 rfl (lv_at hl 1 rfl) ?_
        refine W.lcmp F.1 F.2.1 dX2_nameIndex_17 ?_
        refine lv_topi (fun v4 _ => ?_)
        refine z_ne F 23 dX2_nameIndex_18 (by decide) rfl (fun c5 => ?_) (fun c5 => ?_)
        · refine a_iinc F (k := 2) (fun v6 => [(3, .int v6), (0, .ref (ad 4)), (1, .long w1)]) dX2_nameIndex_23 hl rfl rfl (by decide) (by omega) (by decide) (fun _ => rfl) (fun v6 ls hv6 hl => ?_)
          refine lv_goto (tgt := 2) F.1 F.2.1 dX2_nameIndex_26 (by decide) ?_
          exact ih2 w1 v6 _ _ _ (by omega) (by omega) hP hD hS (lv_sub hl [1, 2, 0] rfl)
        · refine lv_iload_n F.1 F.2.1 dX2_nameIndex_21 rfl (lv_at hl 2 rfl) ?_
          exact a_reti F hr hlocks hP hD hS dX2_nameIndex_22 ⟨rfl, (by omega : (-1 : Int) ≤ x3.toInt ∧ x3.toInt ≤ 25)⟩
  refine a_ic F (0 : Int32) dX2_nameIndex_0 (by decide) ?_
  refine lv_istore_n (lv' := [(3, .int (0 : Int32)), (0, .ref (ad 4)), (1, .long p0)]) F.1 F.2.1 dX2_nameIndex_1 rfl hl (by decide) rfl (fun ls hl => ?_)
  exact L2 28 p0 (0 : Int32) _ _ _ (by decide) (by decide) hP hD hS (lv_sub hl [1, 2, 0] rfl)
set_option maxHeartbeats 4000000 in
set_option maxRecDepth 100000 in
theorem c_X10_isKnown_1_4 (l : Launch) (dC : Nat → ClassId) (dI : Nat → Nat → Nat) (ad : Nat → Nat) (cA : Nat → ClassId) (nF : Nat) (u0 : ac_U) (p1 : Int32) (hR : ac_R rg u0) (hp1 : (0 : Int) ≤ p1.toInt ∧ p1.toInt ≤ 3) : ac_Mi l yX10_isKnown (.code yX10_isKnown cX10_isKnown 4 (some .boolean) :: TB) 2 (dC, dI) vwCl (ac_ty cA) ad cA (TT nF) [.ref (ad 1), .ref (ad 4), .int p1] u0 (fun (r : Int32) (u : ac_U) => ac_R rg u ∧ ac_Fr [(1, some 9), (1, some 10), (1, some 11)] u0 u ∧ ((0 : Int) ≤ r.toInt ∧ r.toInt ≤ 1)) := by
  refine ac_Mi.of (cc := cX10_isKnown) (maxL := 4) (ret := (some .boolean)) (by decide) rfl (Nat.le_of_ble_eq_true rfl) ?_
  intro p e s m below meth c A ls F hml hr hlocks hA hP hD hS hl
  have F : ac_X p s m [.ref (ad 1), .ref (ad 4), .int p1].toArray c cX10_isKnown RX10 TB (dC, dI) vwCl (ac_ty cA) := ⟨F.1, F.2.1, fun w h => F.2.2.1 w (List.mem_cons_of_mem _ h), F.2.2.2.1, F.2.2.2.2⟩
  have hl : lv_has ls 4 [(0, .ref (ad 1)), (1, .ref (ad 4)), (2, .int p1)] := hl
  have hF : ac_Fr [(1, some 9), (1, some 10), (1, some 11)] u0 u0 := ac_Fr.rf
  have L38 : ∀ (u : ac_U) (H : Heap) (locs : List Loc) (ls : Array Slot), ac_R rg u → ac_Fr [(1, some 9), (1, some 10), (1, some 11)] u0 u → (2 : Int) ≤ (u.1 1 6).toInt ∧ (u.1 1 6).toInt ≤ 2 → va_P (dC, dI) vwCl (ac_w ad cA (TT nF) u) H → va_D A (ac_w ad cA (TT nF) u) → va_S A s.heap H locs → lv_has ls 4 [(0, .ref (ad 1))] → W p l e (ac_rm 2) s m [.ref (ad 1), .ref (ad 4), .int p1].toArray below meth c H locs 0 0 (MQ below (va_Qi (fun (r : Int32) (u : ac_U) => ac_R rg u ∧ ac_Fr [(1, some 9), (1, some 10), (1, some 11)] u0 u ∧ ((0 : Int) ≤ r.toInt ∧ r.toInt ≤ 1)) (ac_B (dC, dI) vwCl (ac_ty cA) ad cA (TT nF) A) A) [.ref (ad 1), .ref (ad 4), .int p1].toArray s 0 0 A) (F0 m 38 ls []) := by
    intro u H locs ls hR hF f0 hP hD hS hl
    refine lv_aload_n F.1 F.2.1 dX10_isKnown_38 rfl (lv_at hl 0 rfl) ?_
    refine a_ic F (3 : Int32) dX10_isKnown_39 (by decide) ?_
    refine a_Vi F hml hl.1 hA hP hD hS (As := [.int (3 : Int32)]) (c_X10_fail_1 l dC dI ad cA nF _ (3 : Int32) hR (by decide)) (cs_RX10_90 (d := 1) F.2.2.1 (by decide)) tc_1 rfl rfl rfl rfl (Nat.le_of_ble_eq_true rfl) dX10_isKnown_40 ⟨Nat.le_refl 0, Nat.le_refl 0⟩ (fun r1 u H locs hq hP hD hS => ?_)
    obtain ⟨hR, hF1, gr1⟩ := hq
    have hF := hF.tr hF1 (by decide)
    exact a_retz F hr hlocks hP hD hS dX10_isKnown_43 (i_01 (by omega)) ⟨hR, hF, (by omega : (0 : Int) ≤ r1.toInt ∧ r1.toInt ≤ 1)⟩
  refine lv_aload_n F.1 F.2.1 dX10_isKnown_0 rfl (lv_at hl 0 rfl) ?_
  have g2 : (-128 : Int) ≤ (u0.1 1 6).toInt ∧ (u0.1 1 6).toInt ≤ 127 := hR 1 6
  refine a_geti F inX10 hP 1 6 tc_1 rfl rfl (by decide) q100 (fun _ h9 => h9) (v := (u0.1 1 6)) rfl dX10_isKnown_1 ?_
  refine a_ic F (2 : Int32) dX10_isKnown_4 (by decide) ?_
  refine b_eq F 14 dX10_isKnown_5 (by decide) rfl ic_2 (fun c3 => ?_) (fun c3 => ?_)
  · refine lv_aload_n F.1 F.2.1 dX10_isKnown_14 rfl (lv_at hl 1 rfl) ?_
    refine lv_aload_n F.1 F.2.1 dX10_isKnown_15 rfl (lv_at hl 0 rfl) ?_
    refine a_getl F inX10 hP 1 7 tc_1 rfl rfl (by decide) q104 (fun _ h9 => h9) rfl dX10_isKnown_16 ?_
    refine lv_topl (fun w4 _ => ?_)
    refine a_Vi F hml hl.1 hA hP hD hS (As := [.long w4]) (c_X2_nameIndex_4 l dC dI ad cA nF _ w4 hR) (cs_RX10_93 (d := 1) F.2.2.1 (by decide)) tc_4 rfl rfl rfl rfl (Nat.le_of_ble_eq_true rfl) dX10_isKnown_19 ⟨Nat.le_refl 0, Nat.le_refl 0⟩ (fun r5 uN5 H locs hq hP hD hS => ?_)
    obtain ⟨hu5, gr5⟩ := hq
    rw [hu5] at hP hD
    refine lv_istore_n (lv' := [(3, .int r5), (0, .ref (ad 1)), (1, .ref (ad 4)), (2, .int p1)]) F.1 F.2.1 dX10_isKnown_22 rfl hl (by decide) rfl (fun ls hl => ?_)
    refine lv_iload_n F.1 F.2.1 dX10_isKnown_23 rfl (lv_at hl 0 rfl) ?_
    refine a_ic F (-1 : Int32) dX10_isKnown_24 (by decide) ?_
    refine b_eq F 38 dX10_isKnown_25 (by decide) rfl ic_m1 (fun c6 => ?_) (fun c6 => ?_)
    · exact L38 _ _ _ _ hR hF (by omega : (2 : Int) ≤ (u0.1 1 6).toInt ∧ (u0.1 1 6).toInt ≤ 2) hP hD hS (lv_sub hl [1] rfl)
    · refine lv_aload_n F.1 F.2.1 dX10_isKnown_28 rfl (lv_at hl 2 rfl) ?_
      refine a_getr F inX2 hP 4 15 tc_4 rfl rfl (by decide) q199 (fun _ h9 => h9) dX10_isKnown_29 ?_
      refine lv_iload_n F.1 F.2.1 dX10_isKnown_32 rfl (lv_at hl 0 rfl) ?_
      refine a_iald F hP 11 tc_11 rfl (i_in rfl (by omega)) dX10_isKnown_33 (fun v7 ev7 => ?_)
      have hv7 : (0 : Int) ≤ v7.toInt ∧ v7.toInt ≤ 3 := ev7 ▸ hR 11 _
      refine lv_iload_n F.1 F.2.1 dX10_isKnown_34 rfl (lv_at hl 3 rfl) ?_
      refine b_eq F 44 dX10_isKnown_35 (by decide) rfl rfl (fun c8 => ?_) (fun c8 => ?_)
      · refine lv_aload_n F.1 F.2.1 dX10_isKnown_44 rfl (lv_at hl 1 rfl) ?_
        refine lv_aload_n F.1 F.2.1 dX10_isKnown_45 rfl (lv_at hl 2 rfl) ?_
        refine a_getr F inX2 hP 4 16 tc_4 rfl rfl (by decide) q201 (fun _ h9 => h9) dX10_isKnown_46 ?_
        refine lv_iload_n F.1 F.2.1 dX10_isKnown_49 rfl (lv_at hl 0 rfl) ?_
        refine a_iald F hP 12 tc_12 rfl (i_in rfl (by omega)) dX10_isKnown_50 (fun v9 ev9 => ?_)
        have hv9 : (0 : Int) ≤ v9.toInt ∧ v9.toInt ≤ 7 := ev9 ▸ hR 12 _
        refine a_puti F inX10 tyX10 tyX10_ok nmX10 hP hD hS 1 9 tc_1 rfl rfl (by decide) q110 (fun _ h9 => h9) rfl (ty := .int) (tyX10_ok 9 (by decide)) rfl rfl dX10_isKnown_51 (fun H locs hP hD hS => ?_)
        have hR := hR.si (c := 1) (k := 9) (v := v9) (by omega : (0 : Int) ≤ v9.toInt ∧ v9.toInt ≤ 7)
        have hF := hF.si (c := 1) (k := 9) (v := v9) rfl
        refine a_ic F (1 : Int32) dX10_isKnown_54 (by decide) ?_
        exact a_retz F hr hlocks hP hD hS dX10_isKnown_55 (Or.inr rfl) ⟨hR, hF, (by decide)⟩
      · exact L38 _ _ _ _ hR hF (by omega : (2 : Int) ≤ (u0.1 1 6).toInt ∧ (u0.1 1 6).toInt ≤ 2) hP hD hS (lv_sub hl [1] rfl)
  · refine lv_aload_n F.1 F.2.1 dX10_isKnown_8 rfl (lv_at hl 0 rfl) ?_
    refine a_ic F (1 : Int32) dX10_isKnown_9 (by decide) ?_
    refine a_Vi F hml hl.1 hA hP hD hS (As := [.int (1 : Int32)]) (c_X10_fail_1 l dC dI ad cA nF _ (1 : Int32) hR (by decide)) (cs_RX10_90 (d := 1) F.2.2.1 (by decide)) tc_1 rfl rfl rfl rfl (Nat.le_of_ble_eq_true rfl) dX10_isKnown_10 ⟨Nat.le_refl 0, Nat.le_refl 0⟩ (fun r10 u H locs hq hP hD hS => ?_)
    obtain ⟨hR, hF10, gr10⟩ := hq
    have hF := hF.tr hF10 (by decide)
    exact a_retz F hr hlocks hP hD hS dX10_isKnown_13 (i_01 (by omega)) ⟨hR, hF, (by omega : (0 : Int) ≤ r10.toInt ∧ r10.toInt ≤ 1)⟩
set_option maxHeartbeats 4000000 in
set_option maxRecDepth 100000 in
theorem c_X1_draw_38 (l : Launch) (dC : Nat → ClassId) (dI : Nat → Nat → Nat) (ad : Nat → Nat) (cA : Nat → ClassId) (nF : Nat) (u0 : ac_U) (p0 : Int32) (hR : ac_R rg u0) (hp0 : (0 : Int) ≤ p0.toInt ∧ p0.toInt ≤ 8) : ac_Mi l yX1_draw (.code yX1_draw cX1_draw 2 (some .int) :: TB) 1 (dC, dI) vwCl (ac_ty cA) ad cA (TT nF) [.ref (ad 38), .int p0] u0 (fun (r : Int32) (u : ac_U) => ac_R rg u ∧ ac_Fr [(38, some 2)] u0 u ∧ ((-7 : Int) ≤ r.toInt ∧ r.toInt ≤ 7)) := by
  refine ac_Mi.of (cc := cX1_draw) (maxL := 2) (ret := (some .int)) (by decide) rfl (Nat.le_of_ble_eq_true rfl) ?_
  intro p e s m below meth c A ls F hml hr hlocks hA hP hD hS hl
  have F : ac_X p s m [.ref (ad 38), .int p0].toArray c cX1_draw RX1 TB (dC, dI) vwCl (ac_ty cA) := ⟨F.1, F.2.1, fun w h => F.2.2.1 w (List.mem_cons_of_mem _ h), F.2.2.2.1, F.2.2.2.2⟩
  have hl : lv_has ls 2 [(0, .ref (ad 38)), (1, .int p0)] := hl
  have hF : ac_Fr [(38, some 2)] u0 u0 := ac_Fr.rf
  have L32 : ∀ (z0 : Int32) (u : ac_U) (H : Heap) (locs : List Loc) (ls : Array Slot), ac_R rg u → ac_Fr [(38, some 2)] u0 u → (-7 : Int) ≤ z0.toInt ∧ z0.toInt ≤ 7 → va_P (dC, dI) vwCl (ac_w ad cA (TT nF) u) H → va_D A (ac_w ad cA (TT nF) u) → va_S A s.heap H locs → lv_has ls 2 [] → W p l e (ac_rm 1) s m [.ref (ad 38), .int p0].toArray below meth c H locs 0 0 (MQ below (va_Qi (fun (r : Int32) (u : ac_U) => ac_R rg u ∧ ac_Fr [(38, some 2)] u0 u ∧ ((-7 : Int) ≤ r.toInt ∧ r.toInt ≤ 7)) (ac_B (dC, dI) vwCl (ac_ty cA) ad cA (TT nF) A) A) [.ref (ad 38), .int p0].toArray s 0 0 A) (F0 m 32 ls [.int z0]) := by
    intro z0 u H locs ls hR hF f0 hP hD hS hl
    exact a_reti F hr hlocks hP hD hS dX1_draw_32 ⟨hR, hF, (by omega : (-7 : Int) ≤ z0.toInt ∧ z0.toInt ≤ 7)⟩
  refine lv_aload_n F.1 F.2.1 dX1_draw_0 rfl (lv_at hl 0 rfl) ?_
  refine lv_aload_n F.1 F.2.1 dX1_draw_1 rfl (lv_at hl 0 rfl) ?_
  refine a_geti F inX1 hP 38 2 tc_38 rfl rfl (by decide) q385 (fun _ h9 => h9) (v := (u0.1 38 2)) rfl dX1_draw_2 ?_
  refine lv_ldc (v := (1103515245 : Int32)) F.1 F.2.1 F.2.2.2.1 (F.2.2.1 _ q1186) dX1_draw_5 ?_
  refine a_imulU F dX1_draw_7 (fun v1 => ?_)
  refine a_sp F (12345 : Int32) dX1_draw_8 (by decide) ?_
  refine a_iaddU F dX1_draw_11 (fun v2 => ?_)
  refine a_puti F inX1 tyX1 tyX1_ok nmX1 hP hD hS 38 2 tc_38 rfl rfl (by decide) q385 (fun _ h9 => h9) rfl (ty := .int) (tyX1_ok 2 (by decide)) rfl rfl dX1_draw_12 (fun H locs hP hD hS => ?_)
  have hR := hR.si (c := 38) (k := 2) (v := v2) ⟨i_lo _, i_hi _⟩
  have hF := hF.si (c := 38) (k := 2) (v := v2) rfl
  refine lv_iload_n F.1 F.2.1 dX1_draw_15 rfl (lv_at hl 1 rfl) ?_
  refine z_le F 31 dX1_draw_16 (by decide) rfl (fun c3 => ?_) (fun c3 => ?_)
  · refine a_ic F (0 : Int32) dX1_draw_31 (by decide) ?_
    exact L32 (0 : Int32) _ _ _ _ hR hF (by decide) hP hD hS (lv_sub hl [] rfl)
  · refine lv_aload_n F.1 F.2.1 dX1_draw_19 rfl (lv_at hl 0 rfl) ?_
    refine a_geti F inX1 hP 38 2 tc_38 rfl rfl (by decide) q385 (fun _ h9 => h9) (v := v2) (rfl) dX1_draw_20 ?_
    refine a_bp F (8 : Int32) dX1_draw_23 (by decide) ?_
    refine a_iushrU F dX1_draw_25 (fun v4 => ?_)
    refine lv_iload_n F.1 F.2.1 dX1_draw_26 rfl (lv_at hl 1 rfl) ?_
    refine a_irem F dX1_draw_27 rfl rfl (by omega) (fun v5 hv5 => ?_)
    refine lv_goto (tgt := 32) F.1 F.2.1 dX1_draw_28 (by decide) ?_
    exact L32 v5 _ _ _ _ hR hF (by omega) hP hD hS (lv_sub hl [] rfl)
set_option maxHeartbeats 4000000 in
set_option maxRecDepth 100000 in
theorem c_X2_addFrog_13 (l : Launch) (dC : Nat → ClassId) (dI : Nat → Nat → Nat) (ad : Nat → Nat) (cA : Nat → ClassId) (nF : Nat) (u0 : ac_U) (p0 : Int32) (hR : ac_R rg u0) (hp0 : (0 : Int) ≤ p0.toInt ∧ p0.toInt ≤ 7) : ac_Mv l yX2_addFrog (.code yX2_addFrog cX2_addFrog 2 none :: TB) 1 (dC, dI) vwCl (ac_ty cA) ad cA (TT nF) [.ref (ad 13), .int p0] u0 (fun (u : ac_U) => ac_R rg u ∧ ac_Fr [(13, some 3), (15, none)] u0 u) := by
  refine ac_Mv.of (cc := cX2_addFrog) (maxL := 2) (ret := none) (by decide) rfl (Nat.le_of_ble_eq_true rfl) ?_
  intro p e s m below meth c A ls F hml hr hlocks hA hP hD hS hl
  have F : ac_X p s m [.ref (ad 13), .int p0].toArray c cX2_addFrog RX2 TB (dC, dI) vwCl (ac_ty cA) := ⟨F.1, F.2.1, fun w h => F.2.2.1 w (List.mem_cons_of_mem _ h), F.2.2.2.1, F.2.2.2.2⟩
  have hl : lv_has ls 2 [(0, .ref (ad 13)), (1, .int p0)] := hl
  have hF : ac_Fr [(13, some 3), (15, none)] u0 u0 := ac_Fr.rf
  have L29 : ∀ (u : ac_U) (H : Heap) (locs : List Loc) (ls : Array Slot), ac_R rg u → ac_Fr [(13, some 3), (15, none)] u0 u → (1 : Int) ≤ (u.1 13 3).toInt ∧ (u.1 13 3).toInt ≤ 6 → va_P (dC, dI) vwCl (ac_w ad cA (TT nF) u) H → va_D A (ac_w ad cA (TT nF) u) → va_S A s.heap H locs → lv_has ls 2 [] → W p l e (ac_rm 1) s m [.ref (ad 13), .int p0].toArray below meth c H locs 0 0 (MQ below (va_Qv (fun (u : ac_U) => ac_R rg u ∧ ac_Fr [(13, some 3), (15, none)] u0 u) (ac_B (dC, dI) vwCl (ac_ty cA) ad cA (TT nF) A) A) [.ref (ad 13), .int p0].toArray s 0 0 A) (F0 m 29 ls []) := by
    intro u H locs ls hR hF f0 hP hD hS hl
    exact a_retv F hr hlocks hP hD hS dX2_addFrog_29 ⟨hR, hF⟩
  refine lv_aload_n F.1 F.2.1 dX2_addFrog_0 rfl (lv_at hl 0 rfl) ?_
  have g1 : (0 : Int) ≤ (u0.1 13 3).toInt ∧ (u0.1 13 3).toInt ≤ 6 := hR 13 3
  refine a_geti F inX2 hP 13 3 tc_13 rfl rfl (by decide) q165 (fun _ h9 => h9) (v := (u0.1 13 3)) rfl dX2_addFrog_1 ?_
  refine a_bp F (6 : Int32) dX2_addFrog_4 (by decide) ?_
  refine b_ge F 29 dX2_addFrog_6 (by decide) rfl ic_6 (fun c2 => ?_) (fun c2 => ?_)
  · exact L29 _ _ _ _ hR hF (by omega : (1 : Int) ≤ (u0.1 13 3).toInt ∧ (u0.1 13 3).toInt ≤ 6) hP hD hS (lv_sub hl [] rfl)
  · refine lv_aload_n F.1 F.2.1 dX2_addFrog_9 rfl (lv_at hl 0 rfl) ?_
    refine a_getr F inX2 hP 13 10 tc_13 rfl rfl (by decide) q190 (fun _ h9 => h9) dX2_addFrog_10 ?_
    refine lv_aload_n F.1 F.2.1 dX2_addFrog_13 rfl (lv_at hl 0 rfl) ?_
    refine a_geti F inX2 hP 13 3 tc_13 rfl rfl (by decide) q165 (fun _ h9 => h9) (v := (u0.1 13 3)) rfl dX2_addFrog_14 ?_
    refine lv_iload_n F.1 F.2.1 dX2_addFrog_17 rfl (lv_at hl 1 rfl) ?_
    refine a_iast F hP hD hS 15 tc_15 rfl (i_in rfl (by omega)) dX2_addFrog_18 (fun H locs hP hD hS => ?_)
    have hR := hR.si (c := 15) (k := (u0.1 13 3).toNatClampNeg) (v := p0) (by omega : (0 : Int) ≤ p0.toInt ∧ p0.toInt ≤ 7)
    have hF := hF.si (c := 15) (k := (u0.1 13 3).toNatClampNeg) (v := p0) rfl
    refine lv_aload_n F.1 F.2.1 dX2_addFrog_19 rfl (lv_at hl 0 rfl) ?_
    refine lv_dup F.1 F.2.1 dX2_addFrog_20 rfl ?_
    refine a_geti F inX2 hP 13 3 tc_13 rfl rfl (by decide) q165 (fun _ h9 => h9) (v := (u0.1 13 3)) rfl dX2_addFrog_21 ?_
    refine a_ic F (1 : Int32) dX2_addFrog_24 (by decide) ?_
    refine a_iadd F dX2_addFrog_25 rfl ic_1 (by omega) (fun v3 hv3 => ?_)
    refine a_puti F inX2 tyX2 tyX2_ok nmX2 hP hD hS 13 3 tc_13 rfl rfl (by decide) q165 (fun _ h9 => h9) rfl (ty := .int) (tyX2_ok 3 (by decide)) rfl rfl dX2_addFrog_26 (fun H locs hP hD hS => ?_)
    have hR := hR.si (c := 13) (k := 3) (v := v3) (by omega : (0 : Int) ≤ v3.toInt ∧ v3.toInt ≤ 6)
    have hF := hF.si (c := 13) (k := 3) (v := v3) rfl
    exact L29 _ _ _ _ hR hF (by omega : (1 : Int) ≤ v3.toInt ∧ v3.toInt ≤ 6) hP hD hS (lv_sub hl [] rfl)
set_option maxHeartbeats 4000000 in
set_option maxRecDepth 100000 in
theorem c_X2_brokenWith_4 (l : Launch) (dC : Nat → ClassId) (dI : Nat → Nat → Nat) (ad : Nat → Nat) (cA : Nat → ClassId) (nF : Nat) (u0 : ac_U) (p0 : Int32) (hR : ac_R rg u0) : ac_Mi l yX2_brokenWith (.code yX2_brokenWith cX2_brokenWith 6 (some .int) :: TB) 1 (dC, dI) vwCl (ac_ty cA) ad cA (TT nF) [.ref (ad 4), .int p0] u0 (fun (r : Int32) (u : ac_U) => u = u0) := by
  refine ac_Mi.of (cc := cX2_brokenWith) (maxL := 6) (ret := (some .int)) (by decide) rfl (Nat.le_of_ble_eq_true rfl) ?_
  intro p e s m below meth c A ls F hml hr hlocks hA hP hD hS hl
  have F : ac_X p s m [.ref (ad 4), .int p0].toArray c cX2_brokenWith RX2 TB (dC, dI) vwCl (ac_ty cA) := ⟨F.1, F.2.1, fun w h => F.2.2.1 w (List.mem_cons_of_mem _ h), F.2.2.2.1, F.2.2.2.2⟩
  have hl : lv_has ls 6 [(0, .ref (ad 4)), (1, .int p0)] := hl
  have L4 : ∀ (n4 : Nat) (x1 : Int32) (x2 : Int32) (x3 : Int32) (H : Heap) (locs : List Loc) (ls : Array Slot), 8 - x3.toInt < (n4 : Int) → (0 : Int) ≤ x3.toInt ∧ x3.toInt ≤ 8 → va_P (dC, dI) vwCl (ac_w ad cA (TT nF) u0) H → va_D A (ac_w ad cA (TT nF) u0) → va_S A s.heap H locs → lv_has ls 6 [(0, .ref (ad 4)), (1, .int x1), (2, .int x2), (3, .int x3)] → W p l e (ac_rm 1) s m [.ref (ad 4), .int p0].toArray below meth c H locs 0 0 (MQ below (va_Qi (fun (r : Int32) (u : ac_U) => u = u0) (ac_B (dC, dI) vwCl (ac_ty cA) ad cA (TT nF) A) A) [.ref (ad 4), .int p0].toArray s 0 0 A) (F0 m 4 ls []) := by
    intro n4
    induction n4 with
    | zero => intro x1 x2 x3 H locs ls hn4 f0 hP hD hS hl; exfalso; omega
    | succ n4 ih4 =>
      intro x1 x2 x3 H locs ls hn4 f0 hP hD hS hl
      have L18 : ∀ (n18 : Nat) (x1 : Int32) (x2 : Int32) (x3 : Int32) (x4 : Int32) (x5 : Int32) (H : Heap) (locs : List Loc) (ls : Array Slot), 8 - x5.toInt < (n18 : Int) → (0 : Int) ≤ x3.toInt ∧ x3.toInt ≤ 7 → (0 : Int) ≤ x5.toInt ∧ x5.toInt ≤ 8 → 8 - x3.toInt + 0 < ((n4 : Nat) : Int) + 1 → va_P (dC, dI) vwCl (ac_w ad cA (TT nF) u0) H → va_D A (ac_w ad cA (TT nF) u0) → va_S A s.heap H locs → lv_has ls 6 [(0, .ref (ad 4)), (1, .int x1), (2, .int x2), (3, .int x3), (4, .int x4), (5, .int x5)] → W p l e (ac_rm 1) s m [.ref (ad 4), .int p0].toArray below meth c H locs 0 0 (MQ below (va_Qi (fun (r : Int32) (u : ac_U) => u = u0) (ac_B (dC, dI) vwCl (ac_ty cA) ad cA (TT nF) A) A) [.ref (ad 4), .int p0].toArray s 0 0 A) (F0 m 18 ls []) := by
        intro n18
        induction n18 with
        | zero => intro x1 x2 x3 x4 x5 H locs ls hn18 f0 f1 f2 hP hD hS hl; exfalso; omega
        | succ n18 ih18 =>
          intro x1 x2 x3 x4 x5 H locs ls hn18 f0 f1 f2 hP hD hS hl
          have L48 : ∀ (x1 : Int32) (x2 : Int32) (x3 : Int32) (x4 : Int32) (x5 : Int32) (H : Heap) (locs : List Loc) (ls : Array Slot), (0 : Int) ≤ x3.toInt ∧ x3.toInt ≤ 7 → (0 : Int) ≤ x5.toInt ∧ x5.toInt ≤ 7 → (1 : Int) ≤ (u0.1 4 6).toInt ∧ (u0.1 4 6).toInt ≤ 8 → 8 - x3.toInt + 0 < ((n4 : Nat) : Int) + 1 → 8 - x5.toInt + 0 < ((n18 : Nat) : Int) + 1 → va_P (dC, dI) vwCl (ac_w ad cA (TT nF) u0) H → va_D A (ac_w ad cA (TT nF) u0) → va_S A s.heap H locs → lv_has ls 6 [(0, .ref (ad 4)), (1, .int x1), (2, .int x2), (3, .int x3), (4, .int x4), (5, .int x5)] → W p l e (ac_rm 1) s m [.ref (ad 4), .int p0].toArray below meth c H locs 0 0 (MQ below (va_Qi (fun (r : Int32) (u : ac_U) => u = u0) (ac_B (dC, dI) vwCl (ac_ty cA) ad cA (TT nF) A) A) [.ref (ad 4), .int p0].toArray s 0 0 A) (F0 m 48 ls []) := by
            intro x1 x2 x3 x4 x5 H locs ls f0 f1 f2 f3 f4 hP hD hS hl
            refine a_iinc F (k := 5) (fun v1 => [(5, .int v1), (0, .ref (ad 4)), (1, .int x1), (2, .int x2), (3, .int x3), (4, .int x4)]) dX2_brokenWith_48 hl rfl rfl (by decide) (by omega) (by decide) (fun _ => rfl) (fun v1 ls hv1 hl => ?_)
            refine lv_goto (tgt := 18) F.1 F.2.1 dX2_brokenWith_51 (by decide) ?_
            exact ih18 x1 x2 x3 x4 v1 _ _ _ (by omega) (by omega) (by omega) (by omega) hP hD hS (lv_sub hl [1, 2, 3, 4, 5, 0] rfl)
          refine lv_iload F.1 F.2.1 dX2_brokenWith_18 (lv_at hl 5 rfl) ?_
          refine lv_aload_n F.1 F.2.1 dX2_brokenWith_20 rfl (lv_at hl 0 rfl) ?_
          have g2 : (0 : Int) ≤ (u0.1 4 6).toInt ∧ (u0.1 4 6).toInt ≤ 8 := hR 4 6
          refine a_geti F inX2 hP 4 6 tc_4 rfl rfl (by decide) q178 (fun _ h9 => h9) (v := (u0.1 4 6)) rfl dX2_brokenWith_21 ?_
          refine b_ge F 54 dX2_brokenWith_24 (by decide) rfl rfl (fun c3 => ?_) (fun c3 => ?_)
          · refine a_iinc F (k := 3) (fun v4 => [(3, .int v4), (0, .ref (ad 4)), (1, .int x1), (2, .int x2), (4, .int x4), (5, .int x5)]) dX2_brokenWith_54 hl rfl rfl (by decide) (by omega) (by decide) (fun _ => rfl) (fun v4 ls hv4 hl => ?_)
            refine lv_goto (tgt := 4) F.1 F.2.1 dX2_brokenWith_57 (by decide) ?_
            exact ih4 x1 x2 v4 _ _ _ (by omega) (by omega) hP hD hS (lv_sub hl [1, 2, 3, 0] rfl)
          · refine lv_iload F.1 F.2.1 dX2_brokenWith_27 (lv_at hl 4 rfl) ?_
            refine lv_iload F.1 F.2.1 dX2_brokenWith_29 (lv_at hl 5 rfl) ?_
            refine a_ishrU F dX2_brokenWith_31 (fun v5 => ?_)
            refine a_ic F (1 : Int32) dX2_brokenWith_32 (by decide) ?_
            refine a_iandM F dX2_brokenWith_33 ic_1 (by omega) (fun v6 hv6 => ?_)
            refine a_ic F (1 : Int32) dX2_brokenWith_34 (by decide) ?_
            refine b_ne F 48 dX2_brokenWith_35 (by decide) rfl ic_1 (fun c7 => ?_) (fun c7 => ?_)
            · exact L48 x1 x2 x3 x4 x5 _ _ _ (by omega) (by omega) (by omega : (1 : Int) ≤ (u0.1 4 6).toInt ∧ (u0.1 4 6).toInt ≤ 8) (by omega) (by omega) hP hD hS (lv_sub hl [0, 1, 2, 3, 4, 5] rfl)
            · refine lv_iload_n F.1 F.2.1 dX2_brokenWith_38 rfl (lv_at hl 2 rfl) ?_
              refine lv_aload_n F.1 F.2.1 dX2_brokenWith_39 rfl (lv_at hl 0 rfl) ?_
              refine a_getr F inX2 hP 4 13 tc_4 rfl rfl (by decide) q196 (fun _ h9 => h9) dX2_brokenWith_40 ?_
              refine lv_iload F.1 F.2.1 dX2_brokenWith_43 (lv_at hl 5 rfl) ?_
              refine a_iald F hP 9 tc_9 rfl (i_in rfl (by omega)) dX2_brokenWith_45 (fun v8 ev8 => ?_)
              refine a_iorU F dX2_brokenWith_46 (fun v9 => ?_)
              refine lv_istore_n (lv' := [(2, .int v9), (0, .ref (ad 4)), (1, .int x1), (3, .int x3), (4, .int x4), (5, .int x5)]) F.1 F.2.1 dX2_brokenWith_47 rfl hl (by decide) rfl (fun ls hl => ?_)
              exact L48 x1 v9 x3 x4 x5 _ _ _ (by omega) (by omega) (by omega : (1 : Int) ≤ (u0.1 4 6).toInt ∧ (u0.1 4 6).toInt ≤ 8) (by omega) (by omega) hP hD hS (lv_sub hl [1, 2, 0, 3, 4, 5] rfl)
      refine lv_iload_n F.1 F.2.1 dX2_brokenWith_4 rfl (lv_at hl 3 rfl) ?_
      refine a_bp F (8 : Int32) dX2_brokenWith_5 (by decide) ?_
      refine b_ge F 60 dX2_brokenWith_7 (by decide) rfl ic_8 (fun c10 => ?_) (fun c10 => ?_)
      · refine lv_iload_n F.1 F.2.1 dX2_brokenWith_60 rfl (lv_at hl 2 rfl) ?_
        exact a_reti F hr hlocks hP hD hS dX2_brokenWith_61 rfl
      · refine lv_iload_n F.1 F.2.1 dX2_brokenWith_10 rfl (lv_at hl 1 rfl) ?_
        refine lv_iload_n F.1 F.2.1 dX2_brokenWith_11 rfl (lv_at hl 2 rfl) ?_
        refine a_iorU F dX2_brokenWith_12 (fun v11 => ?_)
        refine lv_istore (lv' := [(4, .int v11), (0, .ref (ad 4)), (1, .int x1), (2, .int x2), (3, .int x3)]) F.1 F.2.1 dX2_brokenWith_13 hl (by decide) rfl (fun ls hl => ?_)
        refine a_ic F (0 : Int32) dX2_brokenWith_15 (by decide) ?_
        refine lv_istore (lv' := [(5, .int (0 : Int32)), (4, .int v11), (0, .ref (ad 4)), (1, .int x1), (2, .int x2), (3, .int x3)]) F.1 F.2.1 dX2_brokenWith_16 hl (by decide) rfl (fun ls hl => ?_)
        exact L18 10 x1 x2 x3 v11 (0 : Int32) _ _ _ (by decide) (by omega) (by decide) (by omega) hP hD hS (lv_sub hl [2, 3, 4, 5, 1, 0] rfl)
  refine a_ic F (0 : Int32) dX2_brokenWith_0 (by decide) ?_
  refine lv_istore_n (lv' := [(2, .int (0 : Int32)), (0, .ref (ad 4)), (1, .int p0)]) F.1 F.2.1 dX2_brokenWith_1 rfl hl (by decide) rfl (fun ls hl => ?_)
  refine a_ic F (0 : Int32) dX2_brokenWith_2 (by decide) ?_
  refine lv_istore_n (lv' := [(3, .int (0 : Int32)), (2, .int (0 : Int32)), (0, .ref (ad 4)), (1, .int p0)]) F.1 F.2.1 dX2_brokenWith_3 rfl hl (by decide) rfl (fun ls hl => ?_)
  exact L4 10 p0 (0 : Int32) (0 : Int32) _ _ _ (by decide) (by decide) hP hD hS (lv_sub hl [2, 3, 1, 0] rfl)
set_option maxHeartbeats 4000000 in
set_option maxRecDepth 100000 in
theorem c_X2_chainOf_4 (l : Launch) (dC : Nat → ClassId) (dI : Nat → Nat → Nat) (ad : Nat → Nat) (cA : Nat → ClassId) (nF : Nat) (u0 : ac_U) (p0 : Int32) (hR : ac_R rg u0) : ac_Mi l yX2_chainOf (.code yX2_chainOf cX2_chainOf 2 (some .int) :: TB) 2 (dC, dI) vwCl (ac_ty cA) ad cA (TT nF) [.ref (ad 4), .int p0] u0 (fun (r : Int32) (u : ac_U) => u = u0) := by
  refine ac_Mi.of (cc := cX2_chainOf) (maxL := 2) (ret := (some .int)) (by decide) rfl (Nat.le_of_ble_eq_true rfl) ?_
  intro p e s m below meth c A ls F hml hr hlocks hA hP hD hS hl
  have F : ac_X p s m [.ref (ad 4), .int p0].toArray c cX2_chainOf RX2 TB (dC, dI) vwCl (ac_ty cA) := ⟨F.1, F.2.1, fun w h => F.2.2.1 w (List.mem_cons_of_mem _ h), F.2.2.2.1, F.2.2.2.2⟩
  have hl : lv_has ls 2 [(0, .ref (ad 4)), (1, .int p0)] := hl
  refine a_ic F (1 : Int32) dX2_chainOf_0 (by decide) ?_
  refine lv_iload_n F.1 F.2.1 dX2_chainOf_1 rfl (lv_at hl 1 rfl) ?_
  refine a_ishlU F dX2_chainOf_2 (fun v1 => ?_)
  refine lv_aload_n F.1 F.2.1 dX2_chainOf_3 rfl (lv_at hl 0 rfl) ?_
  refine a_ic F (1 : Int32) dX2_chainOf_4 (by decide) ?_
  refine lv_iload_n F.1 F.2.1 dX2_chainOf_5 rfl (lv_at hl 1 rfl) ?_
  refine a_ishlU F dX2_chainOf_6 (fun v2 => ?_)
  refine a_Vi F hml hl.1 hA hP hD hS (As := [.int v2]) (c_X2_brokenWith_4 l dC dI ad cA nF _ v2 hR) (cs_RX2_89 (d := 1) F.2.2.1 (by decide)) tc_4 rfl rfl rfl rfl (Nat.le_of_ble_eq_true rfl) dX2_chainOf_7 ⟨Nat.le_refl 0, Nat.le_refl 0⟩ (fun r3 uN3 H locs hq hP hD hS => ?_)
  have hu3 := hq
  rw [hu3] at hP hD
  refine a_iorU F dX2_chainOf_10 (fun v4 => ?_)
  exact a_reti F hr hlocks hP hD hS dX2_chainOf_11 rfl
set_option maxHeartbeats 4000000 in
set_option maxRecDepth 100000 in
theorem c_J7_fill_53178_14 (l : Launch) (dC : Nat → ClassId) (dI : Nat → Nat → Nat) (ad : Nat → Nat) (cA : Nat → ClassId) (nF : Nat) (u0 : ac_U) (p1 : Int32) (hR : ac_R rg u0) (hp1 : (0 : Int) ≤ p1.toInt ∧ p1.toInt ≤ 0) : ac_Mv l yJ7_fill_53178 (.code yJ7_fill_53178 cJ7_fill_53178 4 none :: TB) 1 (dC, dI) vwCl (ac_ty cA) ad cA (TT nF) [.ref (ad 14), .int p1] u0 (fun (u : ac_U) => ac_R rg u ∧ ac_Fr [(14, none)] u0 u) := by
  refine ac_Mv.of (cc := cJ7_fill_53178) (maxL := 4) (ret := none) (by decide) rfl (Nat.le_of_ble_eq_true rfl) ?_
  intro p e s m below meth c A ls F hml hr hlocks hA hP hD hS hl
  have F : ac_X p s m [.ref (ad 14), .int p1].toArray c cJ7_fill_53178 RJ7 TB (dC, dI) vwCl (ac_ty cA) := ⟨F.1, F.2.1, fun w h => F.2.2.1 w (List.mem_cons_of_mem _ h), F.2.2.2.1, F.2.2.2.2⟩
  have hl : lv_has ls 4 [(0, .ref (ad 14)), (1, .int p1)] := hl
  have hF : ac_Fr [(14, none)] u0 u0 := ac_Fr.rf
  have L5 : ∀ (n5 : Nat) (x1 : Int32) (x2 : Int32) (x3 : Int32) (u : ac_U) (H : Heap) (locs : List Loc) (ls : Array Slot), 8 - x2.toInt < (n5 : Int) → ac_R rg u → ac_Fr [(14, none)] u0 u → (0 : Int) ≤ x1.toInt ∧ x1.toInt ≤ 0 → (0 : Int) ≤ x2.toInt ∧ x2.toInt ≤ 8 → (8 : Int) ≤ x3.toInt ∧ x3.toInt ≤ 8 → va_P (dC, dI) vwCl (ac_w ad cA (TT nF) u) H → va_D A (ac_w ad cA (TT nF) u) → va_S A s.heap H locs → lv_has ls 4 [(0, .ref (ad 14)), (1, .int x1), (2, .int x2), (3, .int x3)] → W p l e (ac_rm 1) s m [.ref (ad 14), .int p1].toArray below meth c H locs 0 0 (MQ below (va_Qv (fun (u : ac_U) => ac_R rg u ∧ ac_Fr [(14, none)] u0 u) (ac_B (dC, dI) vwCl (ac_ty cA) ad cA (TT nF) A) A) [.ref (ad 14), .int p1].toArray s 0 0 A) (F0 m 5 ls []) := by
    intro n5
    induction n5 with
    | zero => intro x1 x2 x3 u H locs ls hn5 hR hF f0 f1 f2 hP hD hS hl; exfalso; omega
    | succ n5 ih5 =>
      intro x1 x2 x3 u H locs ls hn5 hR hF f0 f1 f2 hP hD hS hl
      refine lv_iload_n F.1 F.2.1 dJ7_fill_53178_5 rfl (lv_at hl 2 rfl) ?_
      refine lv_iload_n F.1 F.2.1 dJ7_fill_53178_6 rfl (lv_at hl 3 rfl) ?_
      refine b_ge F 20 dJ7_fill_53178_7 (by decide) rfl rfl (fun c1 => ?_) (fun c1 => ?_)
      · exact a_retv F hr hlocks hP hD hS dJ7_fill_53178_20 ⟨hR, hF⟩
      · refine lv_aload_n F.1 F.2.1 dJ7_fill_53178_10 rfl (lv_at hl 0 rfl) ?_
        refine lv_iload_n F.1 F.2.1 dJ7_fill_53178_11 rfl (lv_at hl 2 rfl) ?_
        refine lv_iload_n F.1 F.2.1 dJ7_fill_53178_12 rfl (lv_at hl 1 rfl) ?_
        refine a_iast F hP hD hS 14 tc_14 rfl (i_in rfl (by omega)) dJ7_fill_53178_13 (fun H locs hP hD hS => ?_)
        have hR := hR.si (c := 14) (k := x2.toNatClampNeg) (v := x1) ⟨i_lo _, i_hi _⟩
        have hF := hF.si (c := 14) (k := x2.toNatClampNeg) (v := x1) rfl
        refine a_iinc F (k := 2) (fun v2 => [(2, .int v2), (0, .ref (ad 14)), (1, .int x1), (3, .int x3)]) dJ7_fill_53178_14 hl rfl rfl (by decide) (by omega) (by decide) (fun _ => rfl) (fun v2 ls hv2 hl => ?_)
        refine lv_goto (tgt := 5) F.1 F.2.1 dJ7_fill_53178_17 (by decide) ?_
        exact ih5 x1 v2 x3 _ _ _ _ (by omega) hR hF (by omega) (by omega) (by omega) hP hD hS (lv_sub hl [1, 2, 0, 3] rfl)
  refine a_ic F (0 : Int32) dJ7_fill_53178_0 (by decide) ?_
  refine lv_istore_n (lv' := [(2, .int (0 : Int32)), (0, .ref (ad 14)), (1, .int p1)]) F.1 F.2.1 dJ7_fill_53178_1 rfl hl (by decide) rfl (fun ls hl => ?_)
  refine lv_aload_n F.1 F.2.1 dJ7_fill_53178_2 rfl (lv_at hl 1 rfl) ?_
  refine va_alen (v := (8 : Int32)) F.1 F.2.1 F.2.2.2.2 hP 14 0 (ac_at tc_14) rfl rfl dJ7_fill_53178_3 ?_
  refine lv_istore_n (lv' := [(3, .int (8 : Int32)), (2, .int (0 : Int32)), (0, .ref (ad 14)), (1, .int p1)]) F.1 F.2.1 dJ7_fill_53178_4 rfl hl (by decide) rfl (fun ls hl => ?_)
  exact L5 10 p1 (0 : Int32) (8 : Int32) _ _ _ _ (by decide) hR hF (by omega) (by decide) (by decide) hP hD hS (lv_sub hl [2, 3, 1, 0] rfl)
set_option maxHeartbeats 4000000 in
set_option maxRecDepth 100000 in
theorem c_J7_fill_53178_18 (l : Launch) (dC : Nat → ClassId) (dI : Nat → Nat → Nat) (ad : Nat → Nat) (cA : Nat → ClassId) (nF : Nat) (u0 : ac_U) (p1 : Int32) (hR : ac_R rg u0) (hp1 : (0 : Int) ≤ p1.toInt ∧ p1.toInt ≤ 0) : ac_Mv l yJ7_fill_53178 (.code yJ7_fill_53178 cJ7_fill_53178 4 none :: TB) 1 (dC, dI) vwCl (ac_ty cA) ad cA (TT nF) [.ref (ad 18), .int p1] u0 (fun (u : ac_U) => ac_R rg u ∧ ac_Fr [(18, none)] u0 u) := by
  refine ac_Mv.of (cc := cJ7_fill_53178) (maxL := 4) (ret := none) (by decide) rfl (Nat.le_of_ble_eq_true rfl) ?_
  intro p e s m below meth c A ls F hml hr hlocks hA hP hD hS hl
  have F : ac_X p s m [.ref (ad 18), .int p1].toArray c cJ7_fill_53178 RJ7 TB (dC, dI) vwCl (ac_ty cA) := ⟨F.1, F.2.1, fun w h => F.2.2.1 w (List.mem_cons_of_mem _ h), F.2.2.2.1, F.2.2.2.2⟩
  have hl : lv_has ls 4 [(0, .ref (ad 18)), (1, .int p1)] := hl
  have hF : ac_Fr [(18, none)] u0 u0 := ac_Fr.rf
  have L5 : ∀ (n5 : Nat) (x1 : Int32) (x2 : Int32) (x3 : Int32) (u : ac_U) (H : Heap) (locs : List Loc) (ls : Array Slot), 8 - x2.toInt < (n5 : Int) → ac_R rg u → ac_Fr [(18, none)] u0 u → (0 : Int) ≤ x1.toInt ∧ x1.toInt ≤ 0 → (0 : Int) ≤ x2.toInt ∧ x2.toInt ≤ 8 → (8 : Int) ≤ x3.toInt ∧ x3.toInt ≤ 8 → va_P (dC, dI) vwCl (ac_w ad cA (TT nF) u) H → va_D A (ac_w ad cA (TT nF) u) → va_S A s.heap H locs → lv_has ls 4 [(0, .ref (ad 18)), (1, .int x1), (2, .int x2), (3, .int x3)] → W p l e (ac_rm 1) s m [.ref (ad 18), .int p1].toArray below meth c H locs 0 0 (MQ below (va_Qv (fun (u : ac_U) => ac_R rg u ∧ ac_Fr [(18, none)] u0 u) (ac_B (dC, dI) vwCl (ac_ty cA) ad cA (TT nF) A) A) [.ref (ad 18), .int p1].toArray s 0 0 A) (F0 m 5 ls []) := by
    intro n5
    induction n5 with
    | zero => intro x1 x2 x3 u H locs ls hn5 hR hF f0 f1 f2 hP hD hS hl; exfalso; omega
    | succ n5 ih5 =>
      intro x1 x2 x3 u H locs ls hn5 hR hF f0 f1 f2 hP hD hS hl
      refine lv_iload_n F.1 F.2.1 dJ7_fill_53178_5 rfl (lv_at hl 2 rfl) ?_
      refine lv_iload_n F.1 F.2.1 dJ7_fill_53178_6 rfl (lv_at hl 3 rfl) ?_
      refine b_ge F 20 dJ7_fill_53178_7 (by decide) rfl rfl (fun c1 => ?_) (fun c1 => ?_)
      · exact a_retv F hr hlocks hP hD hS dJ7_fill_53178_20 ⟨hR, hF⟩
      · refine lv_aload_n F.1 F.2.1 dJ7_fill_53178_10 rfl (lv_at hl 0 rfl) ?_
        refine lv_iload_n F.1 F.2.1 dJ7_fill_53178_11 rfl (lv_at hl 2 rfl) ?_
        refine lv_iload_n F.1 F.2.1 dJ7_fill_53178_12 rfl (lv_at hl 1 rfl) ?_
        refine a_iast F hP hD hS 18 tc_18 rfl (i_in rfl (by omega)) dJ7_fill_53178_13 (fun H locs hP hD hS => ?_)
        have hR := hR.si (c := 18) (k := x2.toNatClampNeg) (v := x1) ⟨i_lo _, i_hi _⟩
        have hF := hF.si (c := 18) (k := x2.toNatClampNeg) (v := x1) rfl
        refine a_iinc F (k := 2) (fun v2 => [(2, .int v2), (0, .ref (ad 18)), (1, .int x1), (3, .int x3)]) dJ7_fill_53178_14 hl rfl rfl (by decide) (by omega) (by decide) (fun _ => rfl) (fun v2 ls hv2 hl => ?_)
        refine lv_goto (tgt := 5) F.1 F.2.1 dJ7_fill_53178_17 (by decide) ?_
        exact ih5 x1 v2 x3 _ _ _ _ (by omega) hR hF (by omega) (by omega) (by omega) hP hD hS (lv_sub hl [1, 2, 0, 3] rfl)
  refine a_ic F (0 : Int32) dJ7_fill_53178_0 (by decide) ?_
  refine lv_istore_n (lv' := [(2, .int (0 : Int32)), (0, .ref (ad 18)), (1, .int p1)]) F.1 F.2.1 dJ7_fill_53178_1 rfl hl (by decide) rfl (fun ls hl => ?_)
  refine lv_aload_n F.1 F.2.1 dJ7_fill_53178_2 rfl (lv_at hl 1 rfl) ?_
  refine va_alen (v := (8 : Int32)) F.1 F.2.1 F.2.2.2.2 hP 18 0 (ac_at tc_18) rfl rfl dJ7_fill_53178_3 ?_
  refine lv_istore_n (lv' := [(3, .int (8 : Int32)), (2, .int (0 : Int32)), (0, .ref (ad 18)), (1, .int p1)]) F.1 F.2.1 dJ7_fill_53178_4 rfl hl (by decide) rfl (fun ls hl => ?_)
  exact L5 10 p1 (0 : Int32) (8 : Int32) _ _ _ _ (by decide) hR hF (by omega) (by decide) (by decide) hP hD hS (lv_sub hl [2, 3, 1, 0] rfl)
set_option maxHeartbeats 4000000 in
set_option maxRecDepth 100000 in
theorem c_X2_clear_13 (l : Launch) (dC : Nat → ClassId) (dI : Nat → Nat → Nat) (ad : Nat → Nat) (cA : Nat → ClassId) (nF : Nat) (u0 : ac_U)  (hR : ac_R rg u0) : ac_Mv l yX2_clear (.code yX2_clear cX2_clear 1 none :: TB) 2 (dC, dI) vwCl (ac_ty cA) ad cA (TT nF) [.ref (ad 13)] u0 (fun (u : ac_U) => ac_R rg u ∧ ac_Fr [(13, some 0), (13, some 1), (13, some 2), (13, some 3), (13, some 4), (13, some 5), (13, some 6), (13, some 7), (13, some 8), (14, none), (18, none)] u0 u) := by
  refine ac_Mv.of (cc := cX2_clear) (maxL := 1) (ret := none) (by decide) rfl (Nat.le_of_ble_eq_true rfl) ?_
  intro p e s m below meth c A ls F hml hr hlocks hA hP hD hS hl
  have F : ac_X p s m [.ref (ad 13)].toArray c cX2_clear RX2 TB (dC, dI) vwCl (ac_ty cA) := ⟨F.1, F.2.1, fun w h => F.2.2.1 w (List.mem_cons_of_mem _ h), F.2.2.2.1, F.2.2.2.2⟩
  have hl : lv_has ls 1 [(0, .ref (ad 13))] := hl
  have hF : ac_Fr [(13, some 0), (13, some 1), (13, some 2), (13, some 3), (13, some 4), (13, some 5), (13, some 6), (13, some 7), (13, some 8), (14, none), (18, none)] u0 u0 := ac_Fr.rf
  refine lv_aload_n F.1 F.2.1 dX2_clear_0 rfl (lv_at hl 0 rfl) ?_
  refine a_bp F (24 : Int32) dX2_clear_1 (by decide) ?_
  refine a_puti F inX2 tyX2 tyX2_ok nmX2 hP hD hS 13 0 tc_13 rfl rfl (by decide) q151 (fun _ h9 => h9) rfl (ty := .int) (tyX2_ok 0 (by decide)) rfl rfl dX2_clear_3 (fun H locs hP hD hS => ?_)
  have hR := hR.si (c := 13) (k := 0) (v := (24 : Int32)) (by rw [ic_24]; exact (by omega : (4 : Int) ≤ (24 : Int) ∧ (24 : Int) ≤ 24))
  have hF := hF.si (c := 13) (k := 0) (v := (24 : Int32)) rfl
  refine lv_aload_n F.1 F.2.1 dX2_clear_6 rfl (lv_at hl 0 rfl) ?_
  refine a_ic F (0 : Int32) dX2_clear_7 (by decide) ?_
  refine a_puti F inX2 tyX2 tyX2_ok nmX2 hP hD hS 13 1 tc_13 rfl rfl (by decide) q157 (fun _ h9 => h9) rfl (ty := .int) (tyX2_ok 1 (by decide)) rfl rfl dX2_clear_8 (fun H locs hP hD hS => ?_)
  have hR := hR.si (c := 13) (k := 1) (v := (0 : Int32)) (by rw [ic_0]; exact (by omega : (0 : Int) ≤ (0 : Int) ∧ (0 : Int) ≤ 8))
  have hF := hF.si (c := 13) (k := 1) (v := (0 : Int32)) rfl
  refine lv_aload_n F.1 F.2.1 dX2_clear_11 rfl (lv_at hl 0 rfl) ?_
  refine a_ic F (0 : Int32) dX2_clear_12 (by decide) ?_
  refine a_puti F inX2 tyX2 tyX2_ok nmX2 hP hD hS 13 2 tc_13 rfl rfl (by decide) q162 (fun _ h9 => h9) rfl (ty := .int) (tyX2_ok 2 (by decide)) rfl rfl dX2_clear_13 (fun H locs hP hD hS => ?_)
  have hR := hR.si (c := 13) (k := 2) (v := (0 : Int32)) (by rw [ic_0]; exact (by omega : (0 : Int) ≤ (0 : Int) ∧ (0 : Int) ≤ 12))
  have hF := hF.si (c := 13) (k := 2) (v := (0 : Int32)) rfl
  refine lv_aload_n F.1 F.2.1 dX2_clear_16 rfl (lv_at hl 0 rfl) ?_
  refine a_ic F (0 : Int32) dX2_clear_17 (by decide) ?_
  refine a_puti F inX2 tyX2 tyX2_ok nmX2 hP hD hS 13 3 tc_13 rfl rfl (by decide) q165 (fun _ h9 => h9) rfl (ty := .int) (tyX2_ok 3 (by decide)) rfl rfl dX2_clear_18 (fun H locs hP hD hS => ?_)
  have hR := hR.si (c := 13) (k := 3) (v := (0 : Int32)) (by rw [ic_0]; exact (by omega : (0 : Int) ≤ (0 : Int) ∧ (0 : Int) ≤ 6))
  have hF := hF.si (c := 13) (k := 3) (v := (0 : Int32)) rfl
  refine lv_aload_n F.1 F.2.1 dX2_clear_21 rfl (lv_at hl 0 rfl) ?_
  refine a_ic F (0 : Int32) dX2_clear_22 (by decide) ?_
  refine a_puti F inX2 tyX2 tyX2_ok nmX2 hP hD hS 13 4 tc_13 rfl rfl (by decide) q169 (fun _ h9 => h9) rfl (ty := .int) (tyX2_ok 4 (by decide)) rfl rfl dX2_clear_23 (fun H locs hP hD hS => ?_)
  have hR := hR.si (c := 13) (k := 4) (v := (0 : Int32)) (by rw [ic_0]; exact (by omega : (0 : Int) ≤ (0 : Int) ∧ (0 : Int) ≤ 4))
  have hF := hF.si (c := 13) (k := 4) (v := (0 : Int32)) rfl
  refine lv_aload_n F.1 F.2.1 dX2_clear_26 rfl (lv_at hl 0 rfl) ?_
  refine a_ic F (0 : Int32) dX2_clear_27 (by decide) ?_
  refine a_puti F inX2 tyX2 tyX2_ok nmX2 hP hD hS 13 5 tc_13 rfl rfl (by decide) q173 (fun _ h9 => h9) rfl (ty := .int) (tyX2_ok 5 (by decide)) rfl rfl dX2_clear_28 (fun H locs hP hD hS => ?_)
  have hR := hR.si (c := 13) (k := 5) (v := (0 : Int32)) (by rw [ic_0]; exact (by omega : (0 : Int) ≤ (0 : Int) ∧ (0 : Int) ≤ 6))
  have hF := hF.si (c := 13) (k := 5) (v := (0 : Int32)) rfl
  refine lv_aload_n F.1 F.2.1 dX2_clear_31 rfl (lv_at hl 0 rfl) ?_
  refine a_ic F (0 : Int32) dX2_clear_32 (by decide) ?_
  refine a_puti F inX2 tyX2 tyX2_ok nmX2 hP hD hS 13 6 tc_13 rfl rfl (by decide) q178 (fun _ h9 => h9) rfl (ty := .int) (tyX2_ok 6 (by decide)) rfl rfl dX2_clear_33 (fun H locs hP hD hS => ?_)
  have hR := hR.si (c := 13) (k := 6) (v := (0 : Int32)) (by rw [ic_0]; exact (by omega : (0 : Int) ≤ (0 : Int) ∧ (0 : Int) ≤ 8))
  have hF := hF.si (c := 13) (k := 6) (v := (0 : Int32)) rfl
  refine lv_aload_n F.1 F.2.1 dX2_clear_36 rfl (lv_at hl 0 rfl) ?_
  refine a_ic F (0 : Int32) dX2_clear_37 (by decide) ?_
  refine a_puti F inX2 tyX2 tyX2_ok nmX2 hP hD hS 13 7 tc_13 rfl rfl (by decide) q185 (fun _ h9 => h9) rfl (ty := .int) (tyX2_ok 7 (by decide)) rfl rfl dX2_clear_38 (fun H locs hP hD hS => ?_)
  have hR := hR.si (c := 13) (k := 7) (v := (0 : Int32)) (by rw [ic_0]; exact (by omega : (0 : Int) ≤ (0 : Int) ∧ (0 : Int) ≤ 8))
  have hF := hF.si (c := 13) (k := 7) (v := (0 : Int32)) rfl
  refine lv_aload_n F.1 F.2.1 dX2_clear_41 rfl (lv_at hl 0 rfl) ?_
  refine a_ic F (0 : Int32) dX2_clear_42 (by decide) ?_
  refine a_puti F inX2 tyX2 tyX2_ok nmX2 hP hD hS 13 8 tc_13 rfl rfl (by decide) q188 (fun _ h9 => h9) rfl (ty := .int) (tyX2_ok 8 (by decide)) rfl rfl dX2_clear_43 (fun H locs hP hD hS => ?_)
  have hR := hR.si (c := 13) (k := 8) (v := (0 : Int32)) (by rw [ic_0]; exact (by omega : (0 : Int) ≤ (0 : Int) ∧ (0 : Int) ≤ 26))
  have hF := hF.si (c := 13) (k := 8) (v := (0 : Int32)) rfl
  refine lv_aload_n F.1 F.2.1 dX2_clear_46 rfl (lv_at hl 0 rfl) ?_
  refine a_getr F inX2 hP 13 9 tc_13 rfl rfl (by decide) q189 (fun _ h9 => h9) dX2_clear_47 ?_
  refine a_ic F (0 : Int32) dX2_clear_50 (by decide) ?_
  refine a_Sv F hml hl.1 hA hP hD hS (As := [.ref (ad 14), .int (0 : Int32)]) (c_J7_fill_53178_14 l dC dI ad cA nF _ (0 : Int32) hR (by decide)) (cs_RX2_65 (d := 1) F.2.2.1 (by decide)) rfl rfl (Nat.le_of_ble_eq_true rfl) dX2_clear_51 ⟨Nat.le_refl 0, Nat.le_refl 0⟩ (fun u H locs hq hP hD hS => ?_)
  obtain ⟨hR, hF1⟩ := hq
  have hF := hF.tr hF1 (by decide)
  refine lv_aload_n F.1 F.2.1 dX2_clear_54 rfl (lv_at hl 0 rfl) ?_
  refine a_getr F inX2 hP 13 13 tc_13 rfl rfl (by decide) q196 (fun _ h9 => h9) dX2_clear_55 ?_
  refine a_ic F (0 : Int32) dX2_clear_58 (by decide) ?_
  refine a_Sv F hml hl.1 hA hP hD hS (As := [.ref (ad 18), .int (0 : Int32)]) (c_J7_fill_53178_18 l dC dI ad cA nF _ (0 : Int32) hR (by decide)) (cs_RX2_65 (d := 1) F.2.2.1 (by decide)) rfl rfl (Nat.le_of_ble_eq_true rfl) dX2_clear_59 ⟨Nat.le_refl 0, Nat.le_refl 0⟩ (fun u H locs hq hP hD hS => ?_)
  obtain ⟨hR, hF2⟩ := hq
  have hF := hF.tr hF2 (by decide)
  exact a_retv F hr hlocks hP hD hS dX2_clear_62 ⟨hR, hF⟩
set_option maxHeartbeats 4000000 in
set_option maxRecDepth 100000 in
theorem c_X2_dayOf_4 (l : Launch) (dC : Nat → ClassId) (dI : Nat → Nat → Nat) (ad : Nat → Nat) (cA : Nat → ClassId) (nF : Nat) (u0 : ac_U) (p0 : Int32) (hR : ac_R rg u0) : ac_Mi l yX2_dayOf (.code yX2_dayOf cX2_dayOf 2 (some .int) :: TB) 1 (dC, dI) vwCl (ac_ty cA) ad cA (TT nF) [.ref (ad 4), .int p0] u0 (fun (r : Int32) (u : ac_U) => u = u0 ∧ ((-536870912 : Int) ≤ r.toInt ∧ r.toInt ≤ 536870911)) := by
  refine ac_Mi.of (cc := cX2_dayOf) (maxL := 2) (ret := (some .int)) (by decide) rfl (Nat.le_of_ble_eq_true rfl) ?_
  intro p e s m below meth c A ls F hml hr hlocks hA hP hD hS hl
  have F : ac_X p s m [.ref (ad 4), .int p0].toArray c cX2_dayOf RX2 TB (dC, dI) vwCl (ac_ty cA) := ⟨F.1, F.2.1, fun w h => F.2.2.1 w (List.mem_cons_of_mem _ h), F.2.2.2.1, F.2.2.2.2⟩
  have hl : lv_has ls 2 [(0, .ref (ad 4)), (1, .int p0)] := hl
  have L17 : ∀ (z0 : Int32) (H : Heap) (locs : List Loc) (ls : Array Slot), (-536870912 : Int) ≤ z0.toInt ∧ z0.toInt ≤ 536870911 → va_P (dC, dI) vwCl (ac_w ad cA (TT nF) u0) H → va_D A (ac_w ad cA (TT nF) u0) → va_S A s.heap H locs → lv_has ls 2 [] → W p l e (ac_rm 1) s m [.ref (ad 4), .int p0].toArray below meth c H locs 0 0 (MQ below (va_Qi (fun (r : Int32) (u : ac_U) => u = u0 ∧ ((-536870912 : Int) ≤ r.toInt ∧ r.toInt ≤ 536870911)) (ac_B (dC, dI) vwCl (ac_ty cA) ad cA (TT nF) A) A) [.ref (ad 4), .int p0].toArray s 0 0 A) (F0 m 17 ls [.int z0]) := by
    intro z0 H locs ls f0 hP hD hS hl
    exact a_reti F hr hlocks hP hD hS dX2_dayOf_17 ⟨rfl, (by omega : (-536870912 : Int) ≤ z0.toInt ∧ z0.toInt ≤ 536870911)⟩
  refine lv_aload_n F.1 F.2.1 dX2_dayOf_0 rfl (lv_at hl 0 rfl) ?_
  have g1 : (4 : Int) ≤ (u0.1 4 0).toInt ∧ (u0.1 4 0).toInt ≤ 24 := hR 4 0
  refine a_geti F inX2 hP 4 0 tc_4 rfl rfl (by decide) q151 (fun _ h9 => h9) (v := (u0.1 4 0)) rfl dX2_dayOf_1 ?_
  refine z_le F 16 dX2_dayOf_4 (by decide) rfl (fun c2 => ?_) (fun c2 => ?_)
  · exfalso; omega
  · refine lv_iload_n F.1 F.2.1 dX2_dayOf_7 rfl (lv_at hl 1 rfl) ?_
    refine lv_aload_n F.1 F.2.1 dX2_dayOf_8 rfl (lv_at hl 0 rfl) ?_
    refine a_geti F inX2 hP 4 0 tc_4 rfl rfl (by decide) q151 (fun _ h9 => h9) (v := (u0.1 4 0)) rfl dX2_dayOf_9 ?_
    refine a_idiv F (kk := 4) dX2_dayOf_12 rfl rfl (by omega) (fun v3 ev3 hv3 => ?_)
    refine lv_goto (tgt := 17) F.1 F.2.1 dX2_dayOf_13 (by decide) ?_
    exact L17 v3 _ _ _ (by omega) hP hD hS (lv_sub hl [] rfl)
set_option maxHeartbeats 4000000 in
set_option maxRecDepth 100000 in
theorem c_X2_frogPlaces_4 (l : Launch) (dC : Nat → ClassId) (dI : Nat → Nat → Nat) (ad : Nat → Nat) (cA : Nat → ClassId) (nF : Nat) (u0 : ac_U)  (hR : ac_R rg u0) : ac_Mi l yX2_frogPlaces (.code yX2_frogPlaces cX2_frogPlaces 3 (some .int) :: TB) 1 (dC, dI) vwCl (ac_ty cA) ad cA (TT nF) [.ref (ad 4)] u0 (fun (r : Int32) (u : ac_U) => u = u0) := by
  refine ac_Mi.of (cc := cX2_frogPlaces) (maxL := 3) (ret := (some .int)) (by decide) rfl (Nat.le_of_ble_eq_true rfl) ?_
  intro p e s m below meth c A ls F hml hr hlocks hA hP hD hS hl
  have F : ac_X p s m [.ref (ad 4)].toArray c cX2_frogPlaces RX2 TB (dC, dI) vwCl (ac_ty cA) := ⟨F.1, F.2.1, fun w h => F.2.2.1 w (List.mem_cons_of_mem _ h), F.2.2.2.1, F.2.2.2.2⟩
  have hl : lv_has ls 3 [(0, .ref (ad 4))] := hl
  have L4 : ∀ (n4 : Nat) (x1 : Int32) (x2 : Int32) (H : Heap) (locs : List Loc) (ls : Array Slot), 6 - x2.toInt < (n4 : Int) → (0 : Int) ≤ x2.toInt ∧ x2.toInt ≤ 6 → va_P (dC, dI) vwCl (ac_w ad cA (TT nF) u0) H → va_D A (ac_w ad cA (TT nF) u0) → va_S A s.heap H locs → lv_has ls 3 [(0, .ref (ad 4)), (1, .int x1), (2, .int x2)] → W p l e (ac_rm 1) s m [.ref (ad 4)].toArray below meth c H locs 0 0 (MQ below (va_Qi (fun (r : Int32) (u : ac_U) => u = u0) (ac_B (dC, dI) vwCl (ac_ty cA) ad cA (TT nF) A) A) [.ref (ad 4)].toArray s 0 0 A) (F0 m 4 ls []) := by
    intro n4
    induction n4 with
    | zero => intro x1 x2 H locs ls hn4 f0 hP hD hS hl; exfalso; omega
    | succ n4 ih4 =>
      intro x1 x2 H locs ls hn4 f0 hP hD hS hl
      refine lv_iload_n F.1 F.2.1 dX2_frogPlaces_4 rfl (lv_at hl 2 rfl) ?_
      refine lv_aload_n F.1 F.2.1 dX2_frogPlaces_5 rfl (lv_at hl 0 rfl) ?_
      have g1 : (0 : Int) ≤ (u0.1 4 3).toInt ∧ (u0.1 4 3).toInt ≤ 6 := hR 4 3
      refine a_geti F inX2 hP 4 3 tc_4 rfl rfl (by decide) q165 (fun _ h9 => h9) (v := (u0.1 4 3)) rfl dX2_frogPlaces_6 ?_
      refine b_ge F 29 dX2_frogPlaces_9 (by decide) rfl rfl (fun c2 => ?_) (fun c2 => ?_)
      · refine lv_iload_n F.1 F.2.1 dX2_frogPlaces_29 rfl (lv_at hl 1 rfl) ?_
        exact a_reti F hr hlocks hP hD hS dX2_frogPlaces_30 rfl
      · refine lv_iload_n F.1 F.2.1 dX2_frogPlaces_12 rfl (lv_at hl 1 rfl) ?_
        refine a_ic F (1 : Int32) dX2_frogPlaces_13 (by decide) ?_
        refine lv_aload_n F.1 F.2.1 dX2_frogPlaces_14 rfl (lv_at hl 0 rfl) ?_
        refine a_getr F inX2 hP 4 10 tc_4 rfl rfl (by decide) q190 (fun _ h9 => h9) dX2_frogPlaces_15 ?_
        refine lv_iload_n F.1 F.2.1 dX2_frogPlaces_18 rfl (lv_at hl 2 rfl) ?_
        refine a_iald F hP 6 tc_6 rfl (i_in rfl (by omega)) dX2_frogPlaces_19 (fun v3 ev3 => ?_)
        have hv3 : (0 : Int) ≤ v3.toInt ∧ v3.toInt ≤ 7 := ev3 ▸ hR 6 _
        refine a_ishlU F dX2_frogPlaces_20 (fun v4 => ?_)
        refine a_iorU F dX2_frogPlaces_21 (fun v5 => ?_)
        refine lv_istore_n (lv' := [(1, .int v5), (0, .ref (ad 4)), (2, .int x2)]) F.1 F.2.1 dX2_frogPlaces_22 rfl hl (by decide) rfl (fun ls hl => ?_)
        refine a_iinc F (k := 2) (fun v6 => [(2, .int v6), (1, .int v5), (0, .ref (ad 4))]) dX2_frogPlaces_23 hl rfl rfl (by decide) (by omega) (by decide) (fun _ => rfl) (fun v6 ls hv6 hl => ?_)
        refine lv_goto (tgt := 4) F.1 F.2.1 dX2_frogPlaces_26 (by decide) ?_
        exact ih4 v5 v6 _ _ _ (by omega) (by omega) hP hD hS (lv_sub hl [2, 1, 0] rfl)
  refine a_ic F (0 : Int32) dX2_frogPlaces_0 (by decide) ?_
  refine lv_istore_n (lv' := [(1, .int (0 : Int32)), (0, .ref (ad 4))]) F.1 F.2.1 dX2_frogPlaces_1 rfl hl (by decide) rfl (fun ls hl => ?_)
  refine a_ic F (0 : Int32) dX2_frogPlaces_2 (by decide) ?_
  refine lv_istore_n (lv' := [(2, .int (0 : Int32)), (1, .int (0 : Int32)), (0, .ref (ad 4))]) F.1 F.2.1 dX2_frogPlaces_3 rfl hl (by decide) rfl (fun ls hl => ?_)
  exact L4 8 (0 : Int32) (0 : Int32) _ _ _ (by decide) (by decide) hP hD hS (lv_sub hl [2, 1, 0] rfl)
set_option maxHeartbeats 4000000 in
set_option maxRecDepth 100000 in
theorem c_X2_dryBits_4 (l : Launch) (dC : Nat → ClassId) (dI : Nat → Nat → Nat) (ad : Nat → Nat) (cA : Nat → ClassId) (nF : Nat) (u0 : ac_U)  (hR : ac_R rg u0) : ac_Mi l yX2_dryBits (.code yX2_dryBits cX2_dryBits 1 (some .int) :: TB) 2 (dC, dI) vwCl (ac_ty cA) ad cA (TT nF) [.ref (ad 4)] u0 (fun (r : Int32) (u : ac_U) => u = u0) := by
  refine ac_Mi.of (cc := cX2_dryBits) (maxL := 1) (ret := (some .int)) (by decide) rfl (Nat.le_of_ble_eq_true rfl) ?_
  intro p e s m below meth c A ls F hml hr hlocks hA hP hD hS hl
  have F : ac_X p s m [.ref (ad 4)].toArray c cX2_dryBits RX2 TB (dC, dI) vwCl (ac_ty cA) := ⟨F.1, F.2.1, fun w h => F.2.2.1 w (List.mem_cons_of_mem _ h), F.2.2.2.1, F.2.2.2.2⟩
  have hl : lv_has ls 1 [(0, .ref (ad 4))] := hl
  refine a_ic F (1 : Int32) dX2_dryBits_0 (by decide) ?_
  refine lv_aload_n F.1 F.2.1 dX2_dryBits_1 rfl (lv_at hl 0 rfl) ?_
  have g1 : (0 : Int) ≤ (u0.1 4 1).toInt ∧ (u0.1 4 1).toInt ≤ 8 := hR 4 1
  refine a_geti F inX2 hP 4 1 tc_4 rfl rfl (by decide) q157 (fun _ h9 => h9) (v := (u0.1 4 1)) rfl dX2_dryBits_2 ?_
  refine a_ishlU F dX2_dryBits_5 (fun v2 => ?_)
  refine a_ic F (1 : Int32) dX2_dryBits_6 (by decide) ?_
  refine a_isubU F dX2_dryBits_7 (fun v3 => ?_)
  refine lv_aload_n F.1 F.2.1 dX2_dryBits_8 rfl (lv_at hl 0 rfl) ?_
  refine a_Vi F hml hl.1 hA hP hD hS (As := []) (c_X2_frogPlaces_4 l dC dI ad cA nF _  hR) (cs_RX2_85 (d := 1) F.2.2.1 (by decide)) tc_4 rfl rfl rfl rfl (Nat.le_of_ble_eq_true rfl) dX2_dryBits_9 ⟨Nat.le_refl 0, Nat.le_refl 0⟩ (fun r4 uN4 H locs hq hP hD hS => ?_)
  have hu4 := hq
  rw [hu4] at hP hD
  refine a_ic F (-1 : Int32) dX2_dryBits_12 (by decide) ?_
  refine a_ixorU F dX2_dryBits_13 (fun v5 => ?_)
  refine a_iandU F dX2_dryBits_14 (fun v6 => ?_)
  exact a_reti F hr hlocks hP hD hS dX2_dryBits_15 rfl
set_option maxHeartbeats 4000000 in
set_option maxRecDepth 100000 in
theorem c_X2_hourOf_4 (l : Launch) (dC : Nat → ClassId) (dI : Nat → Nat → Nat) (ad : Nat → Nat) (cA : Nat → ClassId) (nF : Nat) (u0 : ac_U) (p0 : Int32) (hR : ac_R rg u0) : ac_Mi l yX2_hourOf (.code yX2_hourOf cX2_hourOf 2 (some .int) :: TB) 1 (dC, dI) vwCl (ac_ty cA) ad cA (TT nF) [.ref (ad 4), .int p0] u0 (fun (r : Int32) (u : ac_U) => u = u0 ∧ ((-23 : Int) ≤ r.toInt ∧ r.toInt ≤ 23)) := by
  refine ac_Mi.of (cc := cX2_hourOf) (maxL := 2) (ret := (some .int)) (by decide) rfl (Nat.le_of_ble_eq_true rfl) ?_
  intro p e s m below meth c A ls F hml hr hlocks hA hP hD hS hl
  have F : ac_X p s m [.ref (ad 4), .int p0].toArray c cX2_hourOf RX2 TB (dC, dI) vwCl (ac_ty cA) := ⟨F.1, F.2.1, fun w h => F.2.2.1 w (List.mem_cons_of_mem _ h), F.2.2.2.1, F.2.2.2.2⟩
  have hl : lv_has ls 2 [(0, .ref (ad 4)), (1, .int p0)] := hl
  have L17 : ∀ (z0 : Int32) (H : Heap) (locs : List Loc) (ls : Array Slot), (-23 : Int) ≤ z0.toInt ∧ z0.toInt ≤ 23 → va_P (dC, dI) vwCl (ac_w ad cA (TT nF) u0) H → va_D A (ac_w ad cA (TT nF) u0) → va_S A s.heap H locs → lv_has ls 2 [] → W p l e (ac_rm 1) s m [.ref (ad 4), .int p0].toArray below meth c H locs 0 0 (MQ below (va_Qi (fun (r : Int32) (u : ac_U) => u = u0 ∧ ((-23 : Int) ≤ r.toInt ∧ r.toInt ≤ 23)) (ac_B (dC, dI) vwCl (ac_ty cA) ad cA (TT nF) A) A) [.ref (ad 4), .int p0].toArray s 0 0 A) (F0 m 17 ls [.int z0]) := by
    intro z0 H locs ls f0 hP hD hS hl
    exact a_reti F hr hlocks hP hD hS dX2_hourOf_17 ⟨rfl, (by omega : (-23 : Int) ≤ z0.toInt ∧ z0.toInt ≤ 23)⟩
  refine lv_aload_n F.1 F.2.1 dX2_hourOf_0 rfl (lv_at hl 0 rfl) ?_
  have g1 : (4 : Int) ≤ (u0.1 4 0).toInt ∧ (u0.1 4 0).toInt ≤ 24 := hR 4 0
  refine a_geti F inX2 hP 4 0 tc_4 rfl rfl (by decide) q151 (fun _ h9 => h9) (v := (u0.1 4 0)) rfl dX2_hourOf_1 ?_
  refine z_le F 16 dX2_hourOf_4 (by decide) rfl (fun c2 => ?_) (fun c2 => ?_)
  · exfalso; omega
  · refine lv_iload_n F.1 F.2.1 dX2_hourOf_7 rfl (lv_at hl 1 rfl) ?_
    refine lv_aload_n F.1 F.2.1 dX2_hourOf_8 rfl (lv_at hl 0 rfl) ?_
    refine a_geti F inX2 hP 4 0 tc_4 rfl rfl (by decide) q151 (fun _ h9 => h9) (v := (u0.1 4 0)) rfl dX2_hourOf_9 ?_
    refine a_irem F dX2_hourOf_12 rfl rfl (by omega) (fun v3 hv3 => ?_)
    refine lv_goto (tgt := 17) F.1 F.2.1 dX2_hourOf_13 (by decide) ?_
    exact L17 v3 _ _ _ (by omega) hP hD hS (lv_sub hl [] rfl)
set_option maxHeartbeats 4000000 in
set_option maxRecDepth 100000 in
theorem c_X2_isDeed_4 (l : Launch) (dC : Nat → ClassId) (dI : Nat → Nat → Nat) (ad : Nat → Nat) (cA : Nat → ClassId) (nF : Nat) (u0 : ac_U) (p0 : Int32) (hR : ac_R rg u0) : ac_Mi l yX2_isDeed (.code yX2_isDeed cX2_isDeed 2 (some .boolean) :: TB) 1 (dC, dI) vwCl (ac_ty cA) ad cA (TT nF) [.ref (ad 4), .int p0] u0 (fun (r : Int32) (u : ac_U) => u = u0 ∧ ((0 : Int) ≤ r.toInt ∧ r.toInt ≤ 1)) := by
  refine ac_Mi.of (cc := cX2_isDeed) (maxL := 2) (ret := (some .boolean)) (by decide) rfl (Nat.le_of_ble_eq_true rfl) ?_
  intro p e s m below meth c A ls F hml hr hlocks hA hP hD hS hl
  have F : ac_X p s m [.ref (ad 4), .int p0].toArray c cX2_isDeed RX2 TB (dC, dI) vwCl (ac_ty cA) := ⟨F.1, F.2.1, fun w h => F.2.2.1 w (List.mem_cons_of_mem _ h), F.2.2.2.1, F.2.2.2.2⟩
  have hl : lv_has ls 2 [(0, .ref (ad 4)), (1, .int p0)] := hl
  have L17 : ∀ (z0 : Int32) (H : Heap) (locs : List Loc) (ls : Array Slot), (0 : Int) ≤ z0.toInt ∧ z0.toInt ≤ 1 → va_P (dC, dI) vwCl (ac_w ad cA (TT nF) u0) H → va_D A (ac_w ad cA (TT nF) u0) → va_S A s.heap H locs → lv_has ls 2 [] → W p l e (ac_rm 1) s m [.ref (ad 4), .int p0].toArray below meth c H locs 0 0 (MQ below (va_Qi (fun (r : Int32) (u : ac_U) => u = u0 ∧ ((0 : Int) ≤ r.toInt ∧ r.toInt ≤ 1)) (ac_B (dC, dI) vwCl (ac_ty cA) ad cA (TT nF) A) A) [.ref (ad 4), .int p0].toArray s 0 0 A) (F0 m 17 ls [.int z0]) := by
    intro z0 H locs ls f0 hP hD hS hl
    exact a_retz F hr hlocks hP hD hS dX2_isDeed_17 (i_01 (by omega)) ⟨rfl, (by omega : (0 : Int) ≤ z0.toInt ∧ z0.toInt ≤ 1)⟩
  have L16 : ∀ (H : Heap) (locs : List Loc) (ls : Array Slot), va_P (dC, dI) vwCl (ac_w ad cA (TT nF) u0) H → va_D A (ac_w ad cA (TT nF) u0) → va_S A s.heap H locs → lv_has ls 2 [] → W p l e (ac_rm 1) s m [.ref (ad 4), .int p0].toArray below meth c H locs 0 0 (MQ below (va_Qi (fun (r : Int32) (u : ac_U) => u = u0 ∧ ((0 : Int) ≤ r.toInt ∧ r.toInt ≤ 1)) (ac_B (dC, dI) vwCl (ac_ty cA) ad cA (TT nF) A) A) [.ref (ad 4), .int p0].toArray s 0 0 A) (F0 m 16 ls []) := by
    intro H locs ls hP hD hS hl
    refine a_ic F (0 : Int32) dX2_isDeed_16 (by decide) ?_
    exact L17 (0 : Int32) _ _ _ (by decide) hP hD hS (lv_sub hl [] rfl)
  refine lv_iload_n F.1 F.2.1 dX2_isDeed_0 rfl (lv_at hl 1 rfl) ?_
  refine z_lt F 16 dX2_isDeed_1 (by decide) rfl (fun c1 => ?_) (fun c1 => ?_)
  · exact L16 _ _ _  hP hD hS (lv_sub hl [] rfl)
  · refine lv_iload_n F.1 F.2.1 dX2_isDeed_4 rfl (lv_at hl 1 rfl) ?_
    refine lv_aload_n F.1 F.2.1 dX2_isDeed_5 rfl (lv_at hl 0 rfl) ?_
    have g2 : (0 : Int) ≤ (u0.1 4 5).toInt ∧ (u0.1 4 5).toInt ≤ 6 := hR 4 5
    refine a_geti F inX2 hP 4 5 tc_4 rfl rfl (by decide) q173 (fun _ h9 => h9) (v := (u0.1 4 5)) rfl dX2_isDeed_6 ?_
    refine b_ge F 16 dX2_isDeed_9 (by decide) rfl rfl (fun c3 => ?_) (fun c3 => ?_)
    · exact L16 _ _ _  hP hD hS (lv_sub hl [] rfl)
    · refine a_ic F (1 : Int32) dX2_isDeed_12 (by decide) ?_
      refine lv_goto (tgt := 17) F.1 F.2.1 dX2_isDeed_13 (by decide) ?_
      exact L17 (1 : Int32) _ _ _ (by decide) hP hD hS (lv_sub hl [] rfl)
set_option maxHeartbeats 4000000 in
set_option maxRecDepth 100000 in
theorem c_X2_isFrog_4 (l : Launch) (dC : Nat → ClassId) (dI : Nat → Nat → Nat) (ad : Nat → Nat) (cA : Nat → ClassId) (nF : Nat) (u0 : ac_U) (p0 : Int32) (hR : ac_R rg u0) : ac_Mi l yX2_isFrog (.code yX2_isFrog cX2_isFrog 2 (some .boolean) :: TB) 1 (dC, dI) vwCl (ac_ty cA) ad cA (TT nF) [.ref (ad 4), .int p0] u0 (fun (r : Int32) (u : ac_U) => u = u0 ∧ ((0 : Int) ≤ r.toInt ∧ r.toInt ≤ 1)) := by
  refine ac_Mi.of (cc := cX2_isFrog) (maxL := 2) (ret := (some .boolean)) (by decide) rfl (Nat.le_of_ble_eq_true rfl) ?_
  intro p e s m below meth c A ls F hml hr hlocks hA hP hD hS hl
  have F : ac_X p s m [.ref (ad 4), .int p0].toArray c cX2_isFrog RX2 TB (dC, dI) vwCl (ac_ty cA) := ⟨F.1, F.2.1, fun w h => F.2.2.1 w (List.mem_cons_of_mem _ h), F.2.2.2.1, F.2.2.2.2⟩
  have hl : lv_has ls 2 [(0, .ref (ad 4)), (1, .int p0)] := hl
  have L17 : ∀ (z0 : Int32) (H : Heap) (locs : List Loc) (ls : Array Slot), (0 : Int) ≤ z0.toInt ∧ z0.toInt ≤ 1 → va_P (dC, dI) vwCl (ac_w ad cA (TT nF) u0) H → va_D A (ac_w ad cA (TT nF) u0) → va_S A s.heap H locs → lv_has ls 2 [] → W p l e (ac_rm 1) s m [.ref (ad 4), .int p0].toArray below meth c H locs 0 0 (MQ below (va_Qi (fun (r : Int32) (u : ac_U) => u = u0 ∧ ((0 : Int) ≤ r.toInt ∧ r.toInt ≤ 1)) (ac_B (dC, dI) vwCl (ac_ty cA) ad cA (TT nF) A) A) [.ref (ad 4), .int p0].toArray s 0 0 A) (F0 m 17 ls [.int z0]) := by
    intro z0 H locs ls f0 hP hD hS hl
    exact a_retz F hr hlocks hP hD hS dX2_isFrog_17 (i_01 (by omega)) ⟨rfl, (by omega : (0 : Int) ≤ z0.toInt ∧ z0.toInt ≤ 1)⟩
  have L16 : ∀ (H : Heap) (locs : List Loc) (ls : Array Slot), va_P (dC, dI) vwCl (ac_w ad cA (TT nF) u0) H → va_D A (ac_w ad cA (TT nF) u0) → va_S A s.heap H locs → lv_has ls 2 [] → W p l e (ac_rm 1) s m [.ref (ad 4), .int p0].toArray below meth c H locs 0 0 (MQ below (va_Qi (fun (r : Int32) (u : ac_U) => u = u0 ∧ ((0 : Int) ≤ r.toInt ∧ r.toInt ≤ 1)) (ac_B (dC, dI) vwCl (ac_ty cA) ad cA (TT nF) A) A) [.ref (ad 4), .int p0].toArray s 0 0 A) (F0 m 16 ls []) := by
    intro H locs ls hP hD hS hl
    refine a_ic F (0 : Int32) dX2_isFrog_16 (by decide) ?_
    exact L17 (0 : Int32) _ _ _ (by decide) hP hD hS (lv_sub hl [] rfl)
  refine lv_iload_n F.1 F.2.1 dX2_isFrog_0 rfl (lv_at hl 1 rfl) ?_
  refine z_lt F 16 dX2_isFrog_1 (by decide) rfl (fun c1 => ?_) (fun c1 => ?_)
  · exact L16 _ _ _  hP hD hS (lv_sub hl [] rfl)
  · refine lv_iload_n F.1 F.2.1 dX2_isFrog_4 rfl (lv_at hl 1 rfl) ?_
    refine lv_aload_n F.1 F.2.1 dX2_isFrog_5 rfl (lv_at hl 0 rfl) ?_
    have g2 : (0 : Int) ≤ (u0.1 4 3).toInt ∧ (u0.1 4 3).toInt ≤ 6 := hR 4 3
    refine a_geti F inX2 hP 4 3 tc_4 rfl rfl (by decide) q165 (fun _ h9 => h9) (v := (u0.1 4 3)) rfl dX2_isFrog_6 ?_
    refine b_ge F 16 dX2_isFrog_9 (by decide) rfl rfl (fun c3 => ?_) (fun c3 => ?_)
    · exact L16 _ _ _  hP hD hS (lv_sub hl [] rfl)
    · refine a_ic F (1 : Int32) dX2_isFrog_12 (by decide) ?_
      refine lv_goto (tgt := 17) F.1 F.2.1 dX2_isFrog_13 (by decide) ?_
      exact L17 (1 : Int32) _ _ _ (by decide) hP hD hS (lv_sub hl [] rfl)
set_option maxHeartbeats 4000000 in
set_option maxRecDepth 100000 in
theorem c_X2_isNear_13 (l : Launch) (dC : Nat → ClassId) (dI : Nat → Nat → Nat) (ad : Nat → Nat) (cA : Nat → ClassId) (nF : Nat) (u0 : ac_U) (p0 : Int32) (p1 : Int32) (hR : ac_R rg u0) (hp0 : (0 : Int) ≤ p0.toInt ∧ p0.toInt ≤ 7) (hp1 : (0 : Int) ≤ p1.toInt ∧ p1.toInt ≤ 7) : ac_Mi l yX2_isNear (.code yX2_isNear cX2_isNear 3 (some .boolean) :: TB) 1 (dC, dI) vwCl (ac_ty cA) ad cA (TT nF) [.ref (ad 13), .int p0, .int p1] u0 (fun (r : Int32) (u : ac_U) => u = u0 ∧ ((0 : Int) ≤ r.toInt ∧ r.toInt ≤ 1)) := by
  refine ac_Mi.of (cc := cX2_isNear) (maxL := 3) (ret := (some .boolean)) (by decide) rfl (Nat.le_of_ble_eq_true rfl) ?_
  intro p e s m below meth c A ls F hml hr hlocks hA hP hD hS hl
  have F : ac_X p s m [.ref (ad 13), .int p0, .int p1].toArray c cX2_isNear RX2 TB (dC, dI) vwCl (ac_ty cA) := ⟨F.1, F.2.1, fun w h => F.2.2.1 w (List.mem_cons_of_mem _ h), F.2.2.2.1, F.2.2.2.2⟩
  have hl : lv_has ls 3 [(0, .ref (ad 13)), (1, .int p0), (2, .int p1)] := hl
  have L19 : ∀ (z0 : Int32) (H : Heap) (locs : List Loc) (ls : Array Slot), (0 : Int) ≤ z0.toInt ∧ z0.toInt ≤ 1 → va_P (dC, dI) vwCl (ac_w ad cA (TT nF) u0) H → va_D A (ac_w ad cA (TT nF) u0) → va_S A s.heap H locs → lv_has ls 3 [] → W p l e (ac_rm 1) s m [.ref (ad 13), .int p0, .int p1].toArray below meth c H locs 0 0 (MQ below (va_Qi (fun (r : Int32) (u : ac_U) => u = u0 ∧ ((0 : Int) ≤ r.toInt ∧ r.toInt ≤ 1)) (ac_B (dC, dI) vwCl (ac_ty cA) ad cA (TT nF) A) A) [.ref (ad 13), .int p0, .int p1].toArray s 0 0 A) (F0 m 19 ls [.int z0]) := by
    intro z0 H locs ls f0 hP hD hS hl
    exact a_retz F hr hlocks hP hD hS dX2_isNear_19 (i_01 (by omega)) ⟨rfl, (by omega : (0 : Int) ≤ z0.toInt ∧ z0.toInt ≤ 1)⟩
  refine lv_aload_n F.1 F.2.1 dX2_isNear_0 rfl (lv_at hl 0 rfl) ?_
  refine a_getr F inX2 hP 13 9 tc_13 rfl rfl (by decide) q189 (fun _ h9 => h9) dX2_isNear_1 ?_
  refine lv_iload_n F.1 F.2.1 dX2_isNear_4 rfl (lv_at hl 1 rfl) ?_
  refine a_iald F hP 14 tc_14 rfl (i_in rfl (by omega)) dX2_isNear_5 (fun v1 ev1 => ?_)
  refine lv_iload_n F.1 F.2.1 dX2_isNear_6 rfl (lv_at hl 2 rfl) ?_
  refine a_ishrU F dX2_isNear_7 (fun v2 => ?_)
  refine a_ic F (1 : Int32) dX2_isNear_8 (by decide) ?_
  refine a_iandM F dX2_isNear_9 ic_1 (by omega) (fun v3 hv3 => ?_)
  refine a_ic F (1 : Int32) dX2_isNear_10 (by decide) ?_
  refine b_ne F 18 dX2_isNear_11 (by decide) rfl ic_1 (fun c4 => ?_) (fun c4 => ?_)
  · refine a_ic F (0 : Int32) dX2_isNear_18 (by decide) ?_
    exact L19 (0 : Int32) _ _ _ (by decide) hP hD hS (lv_sub hl [] rfl)
  · refine a_ic F (1 : Int32) dX2_isNear_14 (by decide) ?_
    refine lv_goto (tgt := 19) F.1 F.2.1 dX2_isNear_15 (by decide) ?_
    exact L19 (1 : Int32) _ _ _ (by decide) hP hD hS (lv_sub hl [] rfl)
set_option maxHeartbeats 4000000 in
set_option maxRecDepth 100000 in
theorem c_X2_isPerson_4 (l : Launch) (dC : Nat → ClassId) (dI : Nat → Nat → Nat) (ad : Nat → Nat) (cA : Nat → ClassId) (nF : Nat) (u0 : ac_U) (p0 : Int32) (hR : ac_R rg u0) : ac_Mi l yX2_isPerson (.code yX2_isPerson cX2_isPerson 2 (some .boolean) :: TB) 1 (dC, dI) vwCl (ac_ty cA) ad cA (TT nF) [.ref (ad 4), .int p0] u0 (fun (r : Int32) (u : ac_U) => u = u0 ∧ ((0 : Int) ≤ r.toInt ∧ r.toInt ≤ 1)) := by
  refine ac_Mi.of (cc := cX2_isPerson) (maxL := 2) (ret := (some .boolean)) (by decide) rfl (Nat.le_of_ble_eq_true rfl) ?_
  intro p e s m below meth c A ls F hml hr hlocks hA hP hD hS hl
  have F : ac_X p s m [.ref (ad 4), .int p0].toArray c cX2_isPerson RX2 TB (dC, dI) vwCl (ac_ty cA) := ⟨F.1, F.2.1, fun w h => F.2.2.1 w (List.mem_cons_of_mem _ h), F.2.2.2.1, F.2.2.2.2⟩
  have hl : lv_has ls 2 [(0, .ref (ad 4)), (1, .int p0)] := hl
  have L17 : ∀ (z0 : Int32) (H : Heap) (locs : List Loc) (ls : Array Slot), (0 : Int) ≤ z0.toInt ∧ z0.toInt ≤ 1 → va_P (dC, dI) vwCl (ac_w ad cA (TT nF) u0) H → va_D A (ac_w ad cA (TT nF) u0) → va_S A s.heap H locs → lv_has ls 2 [] → W p l e (ac_rm 1) s m [.ref (ad 4), .int p0].toArray below meth c H locs 0 0 (MQ below (va_Qi (fun (r : Int32) (u : ac_U) => u = u0 ∧ ((0 : Int) ≤ r.toInt ∧ r.toInt ≤ 1)) (ac_B (dC, dI) vwCl (ac_ty cA) ad cA (TT nF) A) A) [.ref (ad 4), .int p0].toArray s 0 0 A) (F0 m 17 ls [.int z0]) := by
    intro z0 H locs ls f0 hP hD hS hl
    exact a_retz F hr hlocks hP hD hS dX2_isPerson_17 (i_01 (by omega)) ⟨rfl, (by omega : (0 : Int) ≤ z0.toInt ∧ z0.toInt ≤ 1)⟩
  have L16 : ∀ (H : Heap) (locs : List Loc) (ls : Array Slot), va_P (dC, dI) vwCl (ac_w ad cA (TT nF) u0) H → va_D A (ac_w ad cA (TT nF) u0) → va_S A s.heap H locs → lv_has ls 2 [] → W p l e (ac_rm 1) s m [.ref (ad 4), .int p0].toArray below meth c H locs 0 0 (MQ below (va_Qi (fun (r : Int32) (u : ac_U) => u = u0 ∧ ((0 : Int) ≤ r.toInt ∧ r.toInt ≤ 1)) (ac_B (dC, dI) vwCl (ac_ty cA) ad cA (TT nF) A) A) [.ref (ad 4), .int p0].toArray s 0 0 A) (F0 m 16 ls []) := by
    intro H locs ls hP hD hS hl
    refine a_ic F (0 : Int32) dX2_isPerson_16 (by decide) ?_
    exact L17 (0 : Int32) _ _ _ (by decide) hP hD hS (lv_sub hl [] rfl)
  refine lv_iload_n F.1 F.2.1 dX2_isPerson_0 rfl (lv_at hl 1 rfl) ?_
  refine z_lt F 16 dX2_isPerson_1 (by decide) rfl (fun c1 => ?_) (fun c1 => ?_)
  · exact L16 _ _ _  hP hD hS (lv_sub hl [] rfl)
  · refine lv_iload_n F.1 F.2.1 dX2_isPerson_4 rfl (lv_at hl 1 rfl) ?_
    refine lv_aload_n F.1 F.2.1 dX2_isPerson_5 rfl (lv_at hl 0 rfl) ?_
    have g2 : (0 : Int) ≤ (u0.1 4 4).toInt ∧ (u0.1 4 4).toInt ≤ 4 := hR 4 4
    refine a_geti F inX2 hP 4 4 tc_4 rfl rfl (by decide) q169 (fun _ h9 => h9) (v := (u0.1 4 4)) rfl dX2_isPerson_6 ?_
    refine b_ge F 16 dX2_isPerson_9 (by decide) rfl rfl (fun c3 => ?_) (fun c3 => ?_)
    · exact L16 _ _ _  hP hD hS (lv_sub hl [] rfl)
    · refine a_ic F (1 : Int32) dX2_isPerson_12 (by decide) ?_
      refine lv_goto (tgt := 17) F.1 F.2.1 dX2_isPerson_13 (by decide) ?_
      exact L17 (1 : Int32) _ _ _ (by decide) hP hD hS (lv_sub hl [] rfl)
set_option maxHeartbeats 4000000 in
set_option maxRecDepth 100000 in
theorem c_X2_isPlace_4 (l : Launch) (dC : Nat → ClassId) (dI : Nat → Nat → Nat) (ad : Nat → Nat) (cA : Nat → ClassId) (nF : Nat) (u0 : ac_U) (p0 : Int32) (hR : ac_R rg u0) : ac_Mi l yX2_isPlace (.code yX2_isPlace cX2_isPlace 2 (some .boolean) :: TB) 1 (dC, dI) vwCl (ac_ty cA) ad cA (TT nF) [.ref (ad 4), .int p0] u0 (fun (r : Int32) (u : ac_U) => u = u0 ∧ ((0 : Int) ≤ r.toInt ∧ r.toInt ≤ 1)) := by
  refine ac_Mi.of (cc := cX2_isPlace) (maxL := 2) (ret := (some .boolean)) (by decide) rfl (Nat.le_of_ble_eq_true rfl) ?_
  intro p e s m below meth c A ls F hml hr hlocks hA hP hD hS hl
  have F : ac_X p s m [.ref (ad 4), .int p0].toArray c cX2_isPlace RX2 TB (dC, dI) vwCl (ac_ty cA) := ⟨F.1, F.2.1, fun w h => F.2.2.1 w (List.mem_cons_of_mem _ h), F.2.2.2.1, F.2.2.2.2⟩
  have hl : lv_has ls 2 [(0, .ref (ad 4)), (1, .int p0)] := hl
  have L17 : ∀ (z0 : Int32) (H : Heap) (locs : List Loc) (ls : Array Slot), (0 : Int) ≤ z0.toInt ∧ z0.toInt ≤ 1 → va_P (dC, dI) vwCl (ac_w ad cA (TT nF) u0) H → va_D A (ac_w ad cA (TT nF) u0) → va_S A s.heap H locs → lv_has ls 2 [] → W p l e (ac_rm 1) s m [.ref (ad 4), .int p0].toArray below meth c H locs 0 0 (MQ below (va_Qi (fun (r : Int32) (u : ac_U) => u = u0 ∧ ((0 : Int) ≤ r.toInt ∧ r.toInt ≤ 1)) (ac_B (dC, dI) vwCl (ac_ty cA) ad cA (TT nF) A) A) [.ref (ad 4), .int p0].toArray s 0 0 A) (F0 m 17 ls [.int z0]) := by
    intro z0 H locs ls f0 hP hD hS hl
    exact a_retz F hr hlocks hP hD hS dX2_isPlace_17 (i_01 (by omega)) ⟨rfl, (by omega : (0 : Int) ≤ z0.toInt ∧ z0.toInt ≤ 1)⟩
  have L16 : ∀ (H : Heap) (locs : List Loc) (ls : Array Slot), va_P (dC, dI) vwCl (ac_w ad cA (TT nF) u0) H → va_D A (ac_w ad cA (TT nF) u0) → va_S A s.heap H locs → lv_has ls 2 [] → W p l e (ac_rm 1) s m [.ref (ad 4), .int p0].toArray below meth c H locs 0 0 (MQ below (va_Qi (fun (r : Int32) (u : ac_U) => u = u0 ∧ ((0 : Int) ≤ r.toInt ∧ r.toInt ≤ 1)) (ac_B (dC, dI) vwCl (ac_ty cA) ad cA (TT nF) A) A) [.ref (ad 4), .int p0].toArray s 0 0 A) (F0 m 16 ls []) := by
    intro H locs ls hP hD hS hl
    refine a_ic F (0 : Int32) dX2_isPlace_16 (by decide) ?_
    exact L17 (0 : Int32) _ _ _ (by decide) hP hD hS (lv_sub hl [] rfl)
  refine lv_iload_n F.1 F.2.1 dX2_isPlace_0 rfl (lv_at hl 1 rfl) ?_
  refine z_lt F 16 dX2_isPlace_1 (by decide) rfl (fun c1 => ?_) (fun c1 => ?_)
  · exact L16 _ _ _  hP hD hS (lv_sub hl [] rfl)
  · refine lv_iload_n F.1 F.2.1 dX2_isPlace_4 rfl (lv_at hl 1 rfl) ?_
    refine lv_aload_n F.1 F.2.1 dX2_isPlace_5 rfl (lv_at hl 0 rfl) ?_
    have g2 : (0 : Int) ≤ (u0.1 4 1).toInt ∧ (u0.1 4 1).toInt ≤ 8 := hR 4 1
    refine a_geti F inX2 hP 4 1 tc_4 rfl rfl (by decide) q157 (fun _ h9 => h9) (v := (u0.1 4 1)) rfl dX2_isPlace_6 ?_
    refine b_ge F 16 dX2_isPlace_9 (by decide) rfl rfl (fun c3 => ?_) (fun c3 => ?_)
    · exact L16 _ _ _  hP hD hS (lv_sub hl [] rfl)
    · refine a_ic F (1 : Int32) dX2_isPlace_12 (by decide) ?_
      refine lv_goto (tgt := 17) F.1 F.2.1 dX2_isPlace_13 (by decide) ?_
      exact L17 (1 : Int32) _ _ _ (by decide) hP hD hS (lv_sub hl [] rfl)
set_option maxHeartbeats 4000000 in
set_option maxRecDepth 100000 in
theorem c_X2_isPromise_4 (l : Launch) (dC : Nat → ClassId) (dI : Nat → Nat → Nat) (ad : Nat → Nat) (cA : Nat → ClassId) (nF : Nat) (u0 : ac_U) (p0 : Int32) (hR : ac_R rg u0) : ac_Mi l yX2_isPromise (.code yX2_isPromise cX2_isPromise 2 (some .boolean) :: TB) 1 (dC, dI) vwCl (ac_ty cA) ad cA (TT nF) [.ref (ad 4), .int p0] u0 (fun (r : Int32) (u : ac_U) => u = u0 ∧ ((0 : Int) ≤ r.toInt ∧ r.toInt ≤ 1)) := by
  refine ac_Mi.of (cc := cX2_isPromise) (maxL := 2) (ret := (some .boolean)) (by decide) rfl (Nat.le_of_ble_eq_true rfl) ?_
  intro p e s m below meth c A ls F hml hr hlocks hA hP hD hS hl
  have F : ac_X p s m [.ref (ad 4), .int p0].toArray c cX2_isPromise RX2 TB (dC, dI) vwCl (ac_ty cA) := ⟨F.1, F.2.1, fun w h => F.2.2.1 w (List.mem_cons_of_mem _ h), F.2.2.2.1, F.2.2.2.2⟩
  have hl : lv_has ls 2 [(0, .ref (ad 4)), (1, .int p0)] := hl
  have L17 : ∀ (z0 : Int32) (H : Heap) (locs : List Loc) (ls : Array Slot), (0 : Int) ≤ z0.toInt ∧ z0.toInt ≤ 1 → va_P (dC, dI) vwCl (ac_w ad cA (TT nF) u0) H → va_D A (ac_w ad cA (TT nF) u0) → va_S A s.heap H locs → lv_has ls 2 [] → W p l e (ac_rm 1) s m [.ref (ad 4), .int p0].toArray below meth c H locs 0 0 (MQ below (va_Qi (fun (r : Int32) (u : ac_U) => u = u0 ∧ ((0 : Int) ≤ r.toInt ∧ r.toInt ≤ 1)) (ac_B (dC, dI) vwCl (ac_ty cA) ad cA (TT nF) A) A) [.ref (ad 4), .int p0].toArray s 0 0 A) (F0 m 17 ls [.int z0]) := by
    intro z0 H locs ls f0 hP hD hS hl
    exact a_retz F hr hlocks hP hD hS dX2_isPromise_17 (i_01 (by omega)) ⟨rfl, (by omega : (0 : Int) ≤ z0.toInt ∧ z0.toInt ≤ 1)⟩
  have L16 : ∀ (H : Heap) (locs : List Loc) (ls : Array Slot), va_P (dC, dI) vwCl (ac_w ad cA (TT nF) u0) H → va_D A (ac_w ad cA (TT nF) u0) → va_S A s.heap H locs → lv_has ls 2 [] → W p l e (ac_rm 1) s m [.ref (ad 4), .int p0].toArray below meth c H locs 0 0 (MQ below (va_Qi (fun (r : Int32) (u : ac_U) => u = u0 ∧ ((0 : Int) ≤ r.toInt ∧ r.toInt ≤ 1)) (ac_B (dC, dI) vwCl (ac_ty cA) ad cA (TT nF) A) A) [.ref (ad 4), .int p0].toArray s 0 0 A) (F0 m 16 ls []) := by
    intro H locs ls hP hD hS hl
    refine a_ic F (0 : Int32) dX2_isPromise_16 (by decide) ?_
    exact L17 (0 : Int32) _ _ _ (by decide) hP hD hS (lv_sub hl [] rfl)
  refine lv_iload_n F.1 F.2.1 dX2_isPromise_0 rfl (lv_at hl 1 rfl) ?_
  refine z_lt F 16 dX2_isPromise_1 (by decide) rfl (fun c1 => ?_) (fun c1 => ?_)
  · exact L16 _ _ _  hP hD hS (lv_sub hl [] rfl)
  · refine lv_iload_n F.1 F.2.1 dX2_isPromise_4 rfl (lv_at hl 1 rfl) ?_
    refine lv_aload_n F.1 F.2.1 dX2_isPromise_5 rfl (lv_at hl 0 rfl) ?_
    have g2 : (0 : Int) ≤ (u0.1 4 6).toInt ∧ (u0.1 4 6).toInt ≤ 8 := hR 4 6
    refine a_geti F inX2 hP 4 6 tc_4 rfl rfl (by decide) q178 (fun _ h9 => h9) (v := (u0.1 4 6)) rfl dX2_isPromise_6 ?_
    refine b_ge F 16 dX2_isPromise_9 (by decide) rfl rfl (fun c3 => ?_) (fun c3 => ?_)
    · exact L16 _ _ _  hP hD hS (lv_sub hl [] rfl)
    · refine a_ic F (1 : Int32) dX2_isPromise_12 (by decide) ?_
      refine lv_goto (tgt := 17) F.1 F.2.1 dX2_isPromise_13 (by decide) ?_
      exact L17 (1 : Int32) _ _ _ (by decide) hP hD hS (lv_sub hl [] rfl)
set_option maxHeartbeats 4000000 in
set_option maxRecDepth 100000 in
theorem c_X2_isVow_13 (l : Launch) (dC : Nat → ClassId) (dI : Nat → Nat → Nat) (ad : Nat → Nat) (cA : Nat → ClassId) (nF : Nat) (u0 : ac_U) (p0 : Int32) (p1 : Int32) (hR : ac_R rg u0) (hp0 : (0 : Int) ≤ p0.toInt ∧ p0.toInt ≤ 7) (hp1 : (0 : Int) ≤ p1.toInt ∧ p1.toInt ≤ 7) : ac_Mi l yX2_isVow (.code yX2_isVow cX2_isVow 3 (some .boolean) :: TB) 1 (dC, dI) vwCl (ac_ty cA) ad cA (TT nF) [.ref (ad 13), .int p0, .int p1] u0 (fun (r : Int32) (u : ac_U) => u = u0 ∧ ((0 : Int) ≤ r.toInt ∧ r.toInt ≤ 1)) := by
  refine ac_Mi.of (cc := cX2_isVow) (maxL := 3) (ret := (some .boolean)) (by decide) rfl (Nat.le_of_ble_eq_true rfl) ?_
  intro p e s m below meth c A ls F hml hr hlocks hA hP hD hS hl
  have F : ac_X p s m [.ref (ad 13), .int p0, .int p1].toArray c cX2_isVow RX2 TB (dC, dI) vwCl (ac_ty cA) := ⟨F.1, F.2.1, fun w h => F.2.2.1 w (List.mem_cons_of_mem _ h), F.2.2.2.1, F.2.2.2.2⟩
  have hl : lv_has ls 3 [(0, .ref (ad 13)), (1, .int p0), (2, .int p1)] := hl
  have L19 : ∀ (z0 : Int32) (H : Heap) (locs : List Loc) (ls : Array Slot), (0 : Int) ≤ z0.toInt ∧ z0.toInt ≤ 1 → va_P (dC, dI) vwCl (ac_w ad cA (TT nF) u0) H → va_D A (ac_w ad cA (TT nF) u0) → va_S A s.heap H locs → lv_has ls 3 [] → W p l e (ac_rm 1) s m [.ref (ad 13), .int p0, .int p1].toArray below meth c H locs 0 0 (MQ below (va_Qi (fun (r : Int32) (u : ac_U) => u = u0 ∧ ((0 : Int) ≤ r.toInt ∧ r.toInt ≤ 1)) (ac_B (dC, dI) vwCl (ac_ty cA) ad cA (TT nF) A) A) [.ref (ad 13), .int p0, .int p1].toArray s 0 0 A) (F0 m 19 ls [.int z0]) := by
    intro z0 H locs ls f0 hP hD hS hl
    exact a_retz F hr hlocks hP hD hS dX2_isVow_19 (i_01 (by omega)) ⟨rfl, (by omega : (0 : Int) ≤ z0.toInt ∧ z0.toInt ≤ 1)⟩
  refine lv_aload_n F.1 F.2.1 dX2_isVow_0 rfl (lv_at hl 0 rfl) ?_
  refine a_getr F inX2 hP 13 13 tc_13 rfl rfl (by decide) q196 (fun _ h9 => h9) dX2_isVow_1 ?_
  refine lv_iload_n F.1 F.2.1 dX2_isVow_4 rfl (lv_at hl 2 rfl) ?_
  refine a_iald F hP 18 tc_18 rfl (i_in rfl (by omega)) dX2_isVow_5 (fun v1 ev1 => ?_)
  refine lv_iload_n F.1 F.2.1 dX2_isVow_6 rfl (lv_at hl 1 rfl) ?_
  refine a_ishrU F dX2_isVow_7 (fun v2 => ?_)
  refine a_ic F (1 : Int32) dX2_isVow_8 (by decide) ?_
  refine a_iandM F dX2_isVow_9 ic_1 (by omega) (fun v3 hv3 => ?_)
  refine a_ic F (1 : Int32) dX2_isVow_10 (by decide) ?_
  refine b_ne F 18 dX2_isVow_11 (by decide) rfl ic_1 (fun c4 => ?_) (fun c4 => ?_)
  · refine a_ic F (0 : Int32) dX2_isVow_18 (by decide) ?_
    exact L19 (0 : Int32) _ _ _ (by decide) hP hD hS (lv_sub hl [] rfl)
  · refine a_ic F (1 : Int32) dX2_isVow_14 (by decide) ?_
    refine lv_goto (tgt := 19) F.1 F.2.1 dX2_isVow_15 (by decide) ?_
    exact L19 (1 : Int32) _ _ _ (by decide) hP hD hS (lv_sub hl [] rfl)
set_option maxHeartbeats 4000000 in
set_option maxRecDepth 100000 in
theorem c_X2_nameIndex_13 (l : Launch) (dC : Nat → ClassId) (dI : Nat → Nat → Nat) (ad : Nat → Nat) (cA : Nat → ClassId) (nF : Nat) (u0 : ac_U) (p0 : Int64) (hR : ac_R rg u0) : ac_Mi l yX2_nameIndex (.code yX2_nameIndex cX2_nameIndex 4 (some .int) :: TB) 1 (dC, dI) vwCl (ac_ty cA) ad cA (TT nF) [.ref (ad 13), .long p0] u0 (fun (r : Int32) (u : ac_U) => u = u0 ∧ ((-1 : Int) ≤ r.toInt ∧ r.toInt ≤ 25)) := by
  refine ac_Mi.of (cc := cX2_nameIndex) (maxL := 4) (ret := (some .int)) (by decide) rfl (Nat.le_of_ble_eq_true rfl) ?_
  intro p e s m below meth c A ls F hml hr hlocks hA hP hD hS hl
  have F : ac_X p s m [.ref (ad 13), .long p0].toArray c cX2_nameIndex RX2 TB (dC, dI) vwCl (ac_ty cA) := ⟨F.1, F.2.1, fun w h => F.2.2.1 w (List.mem_cons_of_mem _ h), F.2.2.2.1, F.2.2.2.2⟩
  have hl : lv_has ls 4 [(0, .ref (ad 13)), (1, .long p0)] := hl
  have L2 : ∀ (n2 : Nat) (w1 : Int64) (x3 : Int32) (H : Heap) (locs : List Loc) (ls : Array Slot), 26 - x3.toInt < (n2 : Int) → (0 : Int) ≤ x3.toInt ∧ x3.toInt ≤ 26 → va_P (dC, dI) vwCl (ac_w ad cA (TT nF) u0) H → va_D A (ac_w ad cA (TT nF) u0) → va_S A s.heap H locs → lv_has ls 4 [(0, .ref (ad 13)), (1, .long w1), (3, .int x3)] → W p l e (ac_rm 1) s m [.ref (ad 13), .long p0].toArray below meth c H locs 0 0 (MQ below (va_Qi (fun (r : Int32) (u : ac_U) => u = u0 ∧ ((-1 : Int) ≤ r.toInt ∧ r.toInt ≤ 25)) (ac_B (dC, dI) vwCl (ac_ty cA) ad cA (TT nF) A) A) [.ref (ad 13), .long p0].toArray s 0 0 A) (F0 m 2 ls []) := by
    intro n2
    induction n2 with
    | zero => intro w1 x3 H locs ls hn2 f0 hP hD hS hl; exfalso; omega
    | succ n2 ih2 =>
      intro w1 x3 H locs ls hn2 f0 hP hD hS hl
      refine lv_iload_n F.1 F.2.1 dX2_nameIndex_2 rfl (lv_at hl 2 rfl) ?_
      refine lv_aload_n F.1 F.2.1 dX2_nameIndex_3 rfl (lv_at hl 0 rfl) ?_
      have g1 : (0 : Int) ≤ (u0.1 13 8).toInt ∧ (u0.1 13 8).toInt ≤ 26 := hR 13 8
      refine a_geti F inX2 hP 13 8 tc_13 rfl rfl (by decide) q188 (fun _ h9 => h9) (v := (u0.1 13 8)) rfl dX2_nameIndex_4 ?_
      refine b_ge F 29 dX2_nameIndex_7 (by decide) rfl rfl (fun c2 => ?_) (fun c2 => ?_)
      · refine a_ic F (-1 : Int32) dX2_nameIndex_29 (by decide) ?_
        exact a_reti F hr hlocks hP hD hS dX2_nameIndex_30 ⟨rfl, (by decide)⟩
      · refine lv_aload_n F.1 F.2.1 dX2_nameIndex_10 rfl (lv_at hl 0 rfl) ?_
        refine a_getr F inX2 hP 13 14 tc_13 rfl rfl (by decide) q197 (fun _ h9 => h9) dX2_nameIndex_11 ?_
        refine lv_iload_n F.1 F.2.1 dX2_nameIndex_14 rfl (lv_at hl 2 rfl) ?_
        refine a_lald F hP 19 tc_19 rfl (i_in rfl (by omega)) dX2_nameIndex_15 (fun w3 ew3 => ?_)
        refine lv_lload_n F.1 F.2.1 dX2_nameIndex_16 rfl (lv_at hl 1 rfl) ?_
        refine W.lcmp F.1 F.2.1 dX2_nameIndex_17 ?_
        refine lv_topi (fun v4 _ => ?_)
        refine z_ne F 23 dX2_nameIndex_18 (by decide) rfl (fun c5 => ?_) (fun c5 => ?_)
        · refine a_iinc F (k := 2) (fun v6 => [(3, .int v6), (0, .ref (ad 13)), (1, .long w1)]) dX2_nameIndex_23 hl rfl rfl (by decide) (by omega) (by decide) (fun _ => rfl) (fun v6 ls hv6 hl => ?_)
          refine lv_goto (tgt := 2) F.1 F.2.1 dX2_nameIndex_26 (by decide) ?_
          exact ih2 w1 v6 _ _ _ (by omega) (by omega) hP hD hS (lv_sub hl [1, 2, 0] rfl)
        · refine lv_iload_n F.1 F.2.1 dX2_nameIndex_21 rfl (lv_at hl 2 rfl) ?_
          exact a_reti F hr hlocks hP hD hS dX2_nameIndex_22 ⟨rfl, (by omega : (-1 : Int) ≤ x3.toInt ∧ x3.toInt ≤ 25)⟩
  refine a_ic F (0 : Int32) dX2_nameIndex_0 (by decide) ?_
  refine lv_istore_n (lv' := [(3, .int (0 : Int32)), (0, .ref (ad 13)), (1, .long p0)]) F.1 F.2.1 dX2_nameIndex_1 rfl hl (by decide) rfl (fun ls hl => ?_)
  exact L2 28 p0 (0 : Int32) _ _ _ (by decide) (by decide) hP hD hS (lv_sub hl [1, 2, 0] rfl)
set_option maxHeartbeats 4000000 in
set_option maxRecDepth 100000 in
theorem c_X2_ringBits_4 (l : Launch) (dC : Nat → ClassId) (dI : Nat → Nat → Nat) (ad : Nat → Nat) (cA : Nat → ClassId) (nF : Nat) (u0 : ac_U)  (hR : ac_R rg u0) : ac_Mi l yX2_ringBits (.code yX2_ringBits cX2_ringBits 3 (some .int) :: TB) 2 (dC, dI) vwCl (ac_ty cA) ad cA (TT nF) [.ref (ad 4)] u0 (fun (r : Int32) (u : ac_U) => u = u0) := by
  refine ac_Mi.of (cc := cX2_ringBits) (maxL := 3) (ret := (some .int)) (by decide) rfl (Nat.le_of_ble_eq_true rfl) ?_
  intro p e s m below meth c A ls F hml hr hlocks hA hP hD hS hl
  have F : ac_X p s m [.ref (ad 4)].toArray c cX2_ringBits RX2 TB (dC, dI) vwCl (ac_ty cA) := ⟨F.1, F.2.1, fun w h => F.2.2.1 w (List.mem_cons_of_mem _ h), F.2.2.2.1, F.2.2.2.2⟩
  have hl : lv_has ls 3 [(0, .ref (ad 4))] := hl
  have L4 : ∀ (n4 : Nat) (x1 : Int32) (x2 : Int32) (H : Heap) (locs : List Loc) (ls : Array Slot), 8 - x2.toInt < (n4 : Int) → (0 : Int) ≤ x2.toInt ∧ x2.toInt ≤ 8 → va_P (dC, dI) vwCl (ac_w ad cA (TT nF) u0) H → va_D A (ac_w ad cA (TT nF) u0) → va_S A s.heap H locs → lv_has ls 3 [(0, .ref (ad 4)), (1, .int x1), (2, .int x2)] → W p l e (ac_rm 2) s m [.ref (ad 4)].toArray below meth c H locs 0 0 (MQ below (va_Qi (fun (r : Int32) (u : ac_U) => u = u0) (ac_B (dC, dI) vwCl (ac_ty cA) ad cA (TT nF) A) A) [.ref (ad 4)].toArray s 0 0 A) (F0 m 4 ls []) := by
    intro n4
    induction n4 with
    | zero => intro x1 x2 H locs ls hn4 f0 hP hD hS hl; exfalso; omega
    | succ n4 ih4 =>
      intro x1 x2 H locs ls hn4 f0 hP hD hS hl
      refine lv_iload_n F.1 F.2.1 dX2_ringBits_4 rfl (lv_at hl 2 rfl) ?_
      refine lv_aload_n F.1 F.2.1 dX2_ringBits_5 rfl (lv_at hl 0 rfl) ?_
      have g1 : (0 : Int) ≤ (u0.1 4 6).toInt ∧ (u0.1 4 6).toInt ≤ 8 := hR 4 6
      refine a_geti F inX2 hP 4 6 tc_4 rfl rfl (by decide) q178 (fun _ h9 => h9) (v := (u0.1 4 6)) rfl dX2_ringBits_6 ?_
      refine b_ge F 32 dX2_ringBits_9 (by decide) rfl rfl (fun c2 => ?_) (fun c2 => ?_)
      · refine lv_iload_n F.1 F.2.1 dX2_ringBits_32 rfl (lv_at hl 1 rfl) ?_
        exact a_reti F hr hlocks hP hD hS dX2_ringBits_33 rfl
      · refine lv_iload_n F.1 F.2.1 dX2_ringBits_12 rfl (lv_at hl 1 rfl) ?_
        refine lv_aload_n F.1 F.2.1 dX2_ringBits_13 rfl (lv_at hl 0 rfl) ?_
        refine a_ic F (1 : Int32) dX2_ringBits_14 (by decide) ?_
        refine lv_iload_n F.1 F.2.1 dX2_ringBits_15 rfl (lv_at hl 2 rfl) ?_
        refine a_ishlU F dX2_ringBits_16 (fun v3 => ?_)
        refine a_Vi F hml hl.1 hA hP hD hS (As := [.int v3]) (c_X2_brokenWith_4 l dC dI ad cA nF _ v3 hR) (cs_RX2_89 (d := 1) F.2.2.1 (by decide)) tc_4 rfl rfl rfl rfl (Nat.le_of_ble_eq_true rfl) dX2_ringBits_17 ⟨Nat.le_refl 0, Nat.le_refl 0⟩ (fun r4 uN4 H locs hq hP hD hS => ?_)
        have hu4 := hq
        rw [hu4] at hP hD
        refine a_ic F (1 : Int32) dX2_ringBits_20 (by decide) ?_
        refine lv_iload_n F.1 F.2.1 dX2_ringBits_21 rfl (lv_at hl 2 rfl) ?_
        refine a_ishlU F dX2_ringBits_22 (fun v5 => ?_)
        refine a_iandU F dX2_ringBits_23 (fun v6 => ?_)
        refine a_iorU F dX2_ringBits_24 (fun v7 => ?_)
        refine lv_istore_n (lv' := [(1, .int v7), (0, .ref (ad 4)), (2, .int x2)]) F.1 F.2.1 dX2_ringBits_25 rfl hl (by decide) rfl (fun ls hl => ?_)
        refine a_iinc F (k := 2) (fun v8 => [(2, .int v8), (1, .int v7), (0, .ref (ad 4))]) dX2_ringBits_26 hl rfl rfl (by decide) (by omega) (by decide) (fun _ => rfl) (fun v8 ls hv8 hl => ?_)
        refine lv_goto (tgt := 4) F.1 F.2.1 dX2_ringBits_29 (by decide) ?_
        exact ih4 v7 v8 _ _ _ (by omega) (by omega) hP hD hS (lv_sub hl [2, 1, 0] rfl)
  refine a_ic F (0 : Int32) dX2_ringBits_0 (by decide) ?_
  refine lv_istore_n (lv' := [(1, .int (0 : Int32)), (0, .ref (ad 4))]) F.1 F.2.1 dX2_ringBits_1 rfl hl (by decide) rfl (fun ls hl => ?_)
  refine a_ic F (0 : Int32) dX2_ringBits_2 (by decide) ?_
  refine lv_istore_n (lv' := [(2, .int (0 : Int32)), (1, .int (0 : Int32)), (0, .ref (ad 4))]) F.1 F.2.1 dX2_ringBits_3 rfl hl (by decide) rfl (fun ls hl => ?_)
  exact L4 10 (0 : Int32) (0 : Int32) _ _ _ (by decide) (by decide) hP hD hS (lv_sub hl [2, 1, 0] rfl)
set_option maxHeartbeats 4000000 in
set_option maxRecDepth 100000 in
theorem c_J6_bitCount_0f7a4 (l : Launch) (dC : Nat → ClassId) (dI : Nat → Nat → Nat) (ad : Nat → Nat) (cA : Nat → ClassId) (nF : Nat) (u0 : ac_U) (p0 : Int32) (hR : ac_R rg u0) : ac_Mi l yJ6_bitCount_0f7a4 (.code yJ6_bitCount_0f7a4 cJ6_bitCount_0f7a4 1 (some .int) :: TB) 1 (dC, dI) vwCl (ac_ty cA) ad cA (TT nF) [.int p0] u0 (fun (r : Int32) (u : ac_U) => u = u0 ∧ ((0 : Int) ≤ r.toInt ∧ r.toInt ≤ 63)) := by
  refine ac_Mi.of (cc := cJ6_bitCount_0f7a4) (maxL := 1) (ret := (some .int)) (by decide) rfl (Nat.le_of_ble_eq_true rfl) ?_
  intro p e s m below meth c A ls F hml hr hlocks hA hP hD hS hl
  have F : ac_X p s m [.int p0].toArray c cJ6_bitCount_0f7a4 RJ6 TB (dC, dI) vwCl (ac_ty cA) := ⟨F.1, F.2.1, fun w h => F.2.2.1 w (List.mem_cons_of_mem _ h), F.2.2.2.1, F.2.2.2.2⟩
  have hl : lv_has ls 1 [(0, .int p0)] := hl
  refine lv_iload_n F.1 F.2.1 dJ6_bitCount_0f7a4_0 rfl (lv_at hl 0 rfl) ?_
  refine lv_iload_n F.1 F.2.1 dJ6_bitCount_0f7a4_1 rfl (lv_at hl 0 rfl) ?_
  refine a_ic F (1 : Int32) dJ6_bitCount_0f7a4_2 (by decide) ?_
  refine a_iushrU F dJ6_bitCount_0f7a4_3 (fun v1 => ?_)
  refine lv_ldcw (v := (1431655765 : Int32)) F.1 F.2.1 F.2.2.2.1 (F.2.2.1 _ q1081) dJ6_bitCount_0f7a4_4 ?_
  refine a_iandM F dJ6_bitCount_0f7a4_7 ic_1431655765 (by omega) (fun v2 hv2 => ?_)
  refine a_isubU F dJ6_bitCount_0f7a4_8 (fun v3 => ?_)
  refine lv_istore_n (lv' := [(0, .int v3)]) F.1 F.2.1 dJ6_bitCount_0f7a4_9 rfl hl (by decide) rfl (fun ls hl => ?_)
  refine lv_iload_n F.1 F.2.1 dJ6_bitCount_0f7a4_10 rfl (lv_at hl 0 rfl) ?_
  refine lv_ldcw (v := (858993459 : Int32)) F.1 F.2.1 F.2.2.2.1 (F.2.2.1 _ q1082) dJ6_bitCount_0f7a4_11 ?_
  refine a_iandM F dJ6_bitCount_0f7a4_14 ic_858993459 (by omega) (fun v4 hv4 => ?_)
  refine lv_iload_n F.1 F.2.1 dJ6_bitCount_0f7a4_15 rfl (lv_at hl 0 rfl) ?_
  refine a_ic F (2 : Int32) dJ6_bitCount_0f7a4_16 (by decide) ?_
  refine a_iushrU F dJ6_bitCount_0f7a4_17 (fun v5 => ?_)
  refine lv_ldcw (v := (858993459 : Int32)) F.1 F.2.1 F.2.2.2.1 (F.2.2.1 _ q1082) dJ6_bitCount_0f7a4_18 ?_
  refine a_iandM F dJ6_bitCount_0f7a4_21 ic_858993459 (by omega) (fun v6 hv6 => ?_)
  refine a_iadd F dJ6_bitCount_0f7a4_22 rfl rfl (by omega) (fun v7 hv7 => ?_)
  refine lv_istore_n (lv' := [(0, .int v7)]) F.1 F.2.1 dJ6_bitCount_0f7a4_23 rfl hl (by decide) rfl (fun ls hl => ?_)
  refine lv_iload_n F.1 F.2.1 dJ6_bitCount_0f7a4_24 rfl (lv_at hl 0 rfl) ?_
  refine lv_iload_n F.1 F.2.1 dJ6_bitCount_0f7a4_25 rfl (lv_at hl 0 rfl) ?_
  refine a_ic F (4 : Int32) dJ6_bitCount_0f7a4_26 (by decide) ?_
  refine a_iushrU F dJ6_bitCount_0f7a4_27 (fun v8 => ?_)
  refine a_iaddU F dJ6_bitCount_0f7a4_28 (fun v9 => ?_)
  refine lv_ldcw (v := (252645135 : Int32)) F.1 F.2.1 F.2.2.2.1 (F.2.2.1 _ q1083) dJ6_bitCount_0f7a4_29 ?_
  refine a_iandM F dJ6_bitCount_0f7a4_32 ic_252645135 (by omega) (fun v10 hv10 => ?_)
  refine lv_istore_n (lv' := [(0, .int v10)]) F.1 F.2.1 dJ6_bitCount_0f7a4_33 rfl hl (by decide) rfl (fun ls hl => ?_)
  refine lv_iload_n F.1 F.2.1 dJ6_bitCount_0f7a4_34 rfl (lv_at hl 0 rfl) ?_
  refine lv_iload_n F.1 F.2.1 dJ6_bitCount_0f7a4_35 rfl (lv_at hl 0 rfl) ?_
  refine a_bp F (8 : Int32) dJ6_bitCount_0f7a4_36 (by decide) ?_
  refine a_iushrU F dJ6_bitCount_0f7a4_38 (fun v11 => ?_)
  refine a_iaddU F dJ6_bitCount_0f7a4_39 (fun v12 => ?_)
  refine lv_istore_n (lv' := [(0, .int v12)]) F.1 F.2.1 dJ6_bitCount_0f7a4_40 rfl hl (by decide) rfl (fun ls hl => ?_)
  refine lv_iload_n F.1 F.2.1 dJ6_bitCount_0f7a4_41 rfl (lv_at hl 0 rfl) ?_
  refine lv_iload_n F.1 F.2.1 dJ6_bitCount_0f7a4_42 rfl (lv_at hl 0 rfl) ?_
  refine a_bp F (16 : Int32) dJ6_bitCount_0f7a4_43 (by decide) ?_
  refine a_iushrU F dJ6_bitCount_0f7a4_45 (fun v13 => ?_)
  refine a_iaddU F dJ6_bitCount_0f7a4_46 (fun v14 => ?_)
  refine lv_istore_n (lv' := [(0, .int v14)]) F.1 F.2.1 dJ6_bitCount_0f7a4_47 rfl hl (by decide) rfl (fun ls hl => ?_)
  refine lv_iload_n F.1 F.2.1 dJ6_bitCount_0f7a4_48 rfl (lv_at hl 0 rfl) ?_
  refine a_bp F (63 : Int32) dJ6_bitCount_0f7a4_49 (by decide) ?_
  refine a_iandM F dJ6_bitCount_0f7a4_51 ic_63 (by omega) (fun v15 hv15 => ?_)
  exact a_reti F hr hlocks hP hD hS dJ6_bitCount_0f7a4_52 ⟨rfl, (by omega : (0 : Int) ≤ v15.toInt ∧ v15.toInt ≤ 63)⟩
set_option maxHeartbeats 4000000 in
set_option maxRecDepth 100000 in
theorem c_X2_spread_4 (l : Launch) (dC : Nat → ClassId) (dI : Nat → Nat → Nat) (ad : Nat → Nat) (cA : Nat → ClassId) (nF : Nat) (u0 : ac_U) (p0 : Int32) (hR : ac_R rg u0) : ac_Mi l yX2_spread (.code yX2_spread cX2_spread 4 (some .int) :: TB) 1 (dC, dI) vwCl (ac_ty cA) ad cA (TT nF) [.ref (ad 4), .int p0] u0 (fun (r : Int32) (u : ac_U) => u = u0) := by
  refine ac_Mi.of (cc := cX2_spread) (maxL := 4) (ret := (some .int)) (by decide) rfl (Nat.le_of_ble_eq_true rfl) ?_
  intro p e s m below meth c A ls F hml hr hlocks hA hP hD hS hl
  have F : ac_X p s m [.ref (ad 4), .int p0].toArray c cX2_spread RX2 TB (dC, dI) vwCl (ac_ty cA) := ⟨F.1, F.2.1, fun w h => F.2.2.1 w (List.mem_cons_of_mem _ h), F.2.2.2.1, F.2.2.2.2⟩
  have hl : lv_has ls 4 [(0, .ref (ad 4)), (1, .int p0)] := hl
  have L4 : ∀ (n4 : Nat) (x1 : Int32) (x2 : Int32) (x3 : Int32) (H : Heap) (locs : List Loc) (ls : Array Slot), 8 - x3.toInt < (n4 : Int) → (0 : Int) ≤ x3.toInt ∧ x3.toInt ≤ 8 → va_P (dC, dI) vwCl (ac_w ad cA (TT nF) u0) H → va_D A (ac_w ad cA (TT nF) u0) → va_S A s.heap H locs → lv_has ls 4 [(0, .ref (ad 4)), (1, .int x1), (2, .int x2), (3, .int x3)] → W p l e (ac_rm 1) s m [.ref (ad 4), .int p0].toArray below meth c H locs 0 0 (MQ below (va_Qi (fun (r : Int32) (u : ac_U) => u = u0) (ac_B (dC, dI) vwCl (ac_ty cA) ad cA (TT nF) A) A) [.ref (ad 4), .int p0].toArray s 0 0 A) (F0 m 4 ls []) := by
    intro n4
    induction n4 with
    | zero => intro x1 x2 x3 H locs ls hn4 f0 hP hD hS hl; exfalso; omega
    | succ n4 ih4 =>
      intro x1 x2 x3 H locs ls hn4 f0 hP hD hS hl
      have L30 : ∀ (x1 : Int32) (x2 : Int32) (x3 : Int32) (H : Heap) (locs : List Loc) (ls : Array Slot), (0 : Int) ≤ x3.toInt ∧ x3.toInt ≤ 7 → (1 : Int) ≤ (u0.1 4 1).toInt ∧ (u0.1 4 1).toInt ≤ 8 → 8 - x3.toInt + 0 < ((n4 : Nat) : Int) + 1 → va_P (dC, dI) vwCl (ac_w ad cA (TT nF) u0) H → va_D A (ac_w ad cA (TT nF) u0) → va_S A s.heap H locs → lv_has ls 4 [(0, .ref (ad 4)), (1, .int x1), (2, .int x2), (3, .int x3)] → W p l e (ac_rm 1) s m [.ref (ad 4), .int p0].toArray below meth c H locs 0 0 (MQ below (va_Qi (fun (r : Int32) (u : ac_U) => u = u0) (ac_B (dC, dI) vwCl (ac_ty cA) ad cA (TT nF) A) A) [.ref (ad 4), .int p0].toArray s 0 0 A) (F0 m 30 ls []) := by
        intro x1 x2 x3 H locs ls f0 f1 f2 hP hD hS hl
        refine a_iinc F (k := 3) (fun v1 => [(3, .int v1), (0, .ref (ad 4)), (1, .int x1), (2, .int x2)]) dX2_spread_30 hl rfl rfl (by decide) (by omega) (by decide) (fun _ => rfl) (fun v1 ls hv1 hl => ?_)
        refine lv_goto (tgt := 4) F.1 F.2.1 dX2_spread_33 (by decide) ?_
        exact ih4 x1 x2 v1 _ _ _ (by omega) (by omega) hP hD hS (lv_sub hl [1, 2, 3, 0] rfl)
      refine lv_iload_n F.1 F.2.1 dX2_spread_4 rfl (lv_at hl 3 rfl) ?_
      refine lv_aload_n F.1 F.2.1 dX2_spread_5 rfl (lv_at hl 0 rfl) ?_
      have g2 : (0 : Int) ≤ (u0.1 4 1).toInt ∧ (u0.1 4 1).toInt ≤ 8 := hR 4 1
      refine a_geti F inX2 hP 4 1 tc_4 rfl rfl (by decide) q157 (fun _ h9 => h9) (v := (u0.1 4 1)) rfl dX2_spread_6 ?_
      refine b_ge F 36 dX2_spread_9 (by decide) rfl rfl (fun c3 => ?_) (fun c3 => ?_)
      · refine lv_iload_n F.1 F.2.1 dX2_spread_36 rfl (lv_at hl 2 rfl) ?_
        exact a_reti F hr hlocks hP hD hS dX2_spread_37 rfl
      · refine lv_iload_n F.1 F.2.1 dX2_spread_12 rfl (lv_at hl 1 rfl) ?_
        refine lv_iload_n F.1 F.2.1 dX2_spread_13 rfl (lv_at hl 3 rfl) ?_
        refine a_ishrU F dX2_spread_14 (fun v4 => ?_)
        refine a_ic F (1 : Int32) dX2_spread_15 (by decide) ?_
        refine a_iandM F dX2_spread_16 ic_1 (by omega) (fun v5 hv5 => ?_)
        refine a_ic F (1 : Int32) dX2_spread_17 (by decide) ?_
        refine b_ne F 30 dX2_spread_18 (by decide) rfl ic_1 (fun c6 => ?_) (fun c6 => ?_)
        · exact L30 x1 x2 x3 _ _ _ (by omega) (by omega : (1 : Int) ≤ (u0.1 4 1).toInt ∧ (u0.1 4 1).toInt ≤ 8) (by omega) hP hD hS (lv_sub hl [0, 1, 2, 3] rfl)
        · refine lv_iload_n F.1 F.2.1 dX2_spread_21 rfl (lv_at hl 2 rfl) ?_
          refine lv_aload_n F.1 F.2.1 dX2_spread_22 rfl (lv_at hl 0 rfl) ?_
          refine a_getr F inX2 hP 4 9 tc_4 rfl rfl (by decide) q189 (fun _ h9 => h9) dX2_spread_23 ?_
          refine lv_iload_n F.1 F.2.1 dX2_spread_26 rfl (lv_at hl 3 rfl) ?_
          refine a_iald F hP 5 tc_5 rfl (i_in rfl (by omega)) dX2_spread_27 (fun v7 ev7 => ?_)
          refine a_iorU F dX2_spread_28 (fun v8 => ?_)
          refine lv_istore_n (lv' := [(2, .int v8), (0, .ref (ad 4)), (1, .int x1), (3, .int x3)]) F.1 F.2.1 dX2_spread_29 rfl hl (by decide) rfl (fun ls hl => ?_)
          exact L30 x1 v8 x3 _ _ _ (by omega) (by omega : (1 : Int) ≤ (u0.1 4 1).toInt ∧ (u0.1 4 1).toInt ≤ 8) (by omega) hP hD hS (lv_sub hl [1, 2, 0, 3] rfl)
  refine lv_iload_n F.1 F.2.1 dX2_spread_0 rfl (lv_at hl 1 rfl) ?_
  refine lv_istore_n (lv' := [(2, .int p0), (0, .ref (ad 4)), (1, .int p0)]) F.1 F.2.1 dX2_spread_1 rfl hl (by decide) rfl (fun ls hl => ?_)
  refine a_ic F (0 : Int32) dX2_spread_2 (by decide) ?_
  refine lv_istore_n (lv' := [(3, .int (0 : Int32)), (2, .int p0), (0, .ref (ad 4)), (1, .int p0)]) F.1 F.2.1 dX2_spread_3 rfl hl (by decide) rfl (fun ls hl => ?_)
  exact L4 10 p0 p0 (0 : Int32) _ _ _ (by decide) (by decide) hP hD hS (lv_sub hl [2, 3, 1, 0] rfl)
set_option maxHeartbeats 4000000 in
set_option maxRecDepth 100000 in
theorem c_X2_stepsBetween_4 (l : Launch) (dC : Nat → ClassId) (dI : Nat → Nat → Nat) (ad : Nat → Nat) (cA : Nat → ClassId) (nF : Nat) (u0 : ac_U) (p0 : Int32) (p1 : Int32) (hR : ac_R rg u0) : ac_Mi l yX2_stepsBetween (.code yX2_stepsBetween cX2_stepsBetween 5 (some .int) :: TB) 2 (dC, dI) vwCl (ac_ty cA) ad cA (TT nF) [.ref (ad 4), .int p0, .int p1] u0 (fun (r : Int32) (u : ac_U) => u = u0 ∧ ((-1 : Int) ≤ r.toInt ∧ r.toInt ≤ 7)) := by
  refine ac_Mi.of (cc := cX2_stepsBetween) (maxL := 5) (ret := (some .int)) (by decide) rfl (Nat.le_of_ble_eq_true rfl) ?_
  intro p e s m below meth c A ls F hml hr hlocks hA hP hD hS hl
  have F : ac_X p s m [.ref (ad 4), .int p0, .int p1].toArray c cX2_stepsBetween RX2 TB (dC, dI) vwCl (ac_ty cA) := ⟨F.1, F.2.1, fun w h => F.2.2.1 w (List.mem_cons_of_mem _ h), F.2.2.2.1, F.2.2.2.2⟩
  have hl : lv_has ls 5 [(0, .ref (ad 4)), (1, .int p0), (2, .int p1)] := hl
  have L7 : ∀ (n7 : Nat) (x2 : Int32) (x3 : Int32) (x4 : Int32) (H : Heap) (locs : List Loc) (ls : Array Slot), 8 - x4.toInt < (n7 : Int) → (0 : Int) ≤ x4.toInt ∧ x4.toInt ≤ 8 → va_P (dC, dI) vwCl (ac_w ad cA (TT nF) u0) H → va_D A (ac_w ad cA (TT nF) u0) → va_S A s.heap H locs → lv_has ls 5 [(0, .ref (ad 4)), (2, .int x2), (3, .int x3), (4, .int x4)] → W p l e (ac_rm 2) s m [.ref (ad 4), .int p0, .int p1].toArray below meth c H locs 0 0 (MQ below (va_Qi (fun (r : Int32) (u : ac_U) => u = u0 ∧ ((-1 : Int) ≤ r.toInt ∧ r.toInt ≤ 7)) (ac_B (dC, dI) vwCl (ac_ty cA) ad cA (TT nF) A) A) [.ref (ad 4), .int p0, .int p1].toArray s 0 0 A) (F0 m 7 ls []) := by
    intro n7
    induction n7 with
    | zero => intro x2 x3 x4 H locs ls hn7 f0 hP hD hS hl; exfalso; omega
    | succ n7 ih7 =>
      intro x2 x3 x4 H locs ls hn7 f0 hP hD hS hl
      refine lv_iload F.1 F.2.1 dX2_stepsBetween_7 (lv_at hl 3 rfl) ?_
      refine a_bp F (8 : Int32) dX2_stepsBetween_9 (by decide) ?_
      refine b_ge F 38 dX2_stepsBetween_11 (by decide) rfl ic_8 (fun c1 => ?_) (fun c1 => ?_)
      · refine a_ic F (-1 : Int32) dX2_stepsBetween_38 (by decide) ?_
        exact a_reti F hr hlocks hP hD hS dX2_stepsBetween_39 ⟨rfl, (by decide)⟩
      · refine lv_iload_n F.1 F.2.1 dX2_stepsBetween_14 rfl (lv_at hl 2 rfl) ?_
        refine lv_iload_n F.1 F.2.1 dX2_stepsBetween_15 rfl (lv_at hl 1 rfl) ?_
        refine a_ishrU F dX2_stepsBetween_16 (fun v2 => ?_)
        refine a_ic F (1 : Int32) dX2_stepsBetween_17 (by decide) ?_
        refine a_iandM F dX2_stepsBetween_18 ic_1 (by omega) (fun v3 hv3 => ?_)
        refine a_ic F (1 : Int32) dX2_stepsBetween_19 (by decide) ?_
        refine b_ne F 26 dX2_stepsBetween_20 (by decide) rfl ic_1 (fun c4 => ?_) (fun c4 => ?_)
        · refine lv_aload_n F.1 F.2.1 dX2_stepsBetween_26 rfl (lv_at hl 0 rfl) ?_
          refine lv_iload_n F.1 F.2.1 dX2_stepsBetween_27 rfl (lv_at hl 2 rfl) ?_
          refine a_Vi F hml hl.1 hA hP hD hS (As := [.int x3]) (c_X2_spread_4 l dC dI ad cA nF _ x3 hR) (cs_RX2_81 (d := 1) F.2.2.1 (by decide)) tc_4 rfl rfl rfl rfl (Nat.le_of_ble_eq_true rfl) dX2_stepsBetween_28 ⟨Nat.le_refl 0, Nat.le_refl 0⟩ (fun r5 uN5 H locs hq hP hD hS => ?_)
          have hu5 := hq
          rw [hu5] at hP hD
          refine lv_istore_n (lv' := [(3, .int r5), (0, .ref (ad 4)), (2, .int x2), (4, .int x4)]) F.1 F.2.1 dX2_stepsBetween_31 rfl hl (by decide) rfl (fun ls hl => ?_)
          refine a_iinc F (k := 3) (fun v6 => [(4, .int v6), (3, .int r5), (0, .ref (ad 4)), (2, .int x2)]) dX2_stepsBetween_32 hl rfl rfl (by decide) (by omega) (by decide) (fun _ => rfl) (fun v6 ls hv6 hl => ?_)
          refine lv_goto (tgt := 7) F.1 F.2.1 dX2_stepsBetween_35 (by decide) ?_
          exact ih7 x2 r5 v6 _ _ _ (by omega) (by omega) hP hD hS (lv_sub hl [2, 3, 1, 0] rfl)
        · refine lv_iload F.1 F.2.1 dX2_stepsBetween_23 (lv_at hl 3 rfl) ?_
          exact a_reti F hr hlocks hP hD hS dX2_stepsBetween_25 ⟨rfl, (by omega : (-1 : Int) ≤ x4.toInt ∧ x4.toInt ≤ 7)⟩
  refine a_ic F (1 : Int32) dX2_stepsBetween_0 (by decide) ?_
  refine lv_iload_n F.1 F.2.1 dX2_stepsBetween_1 rfl (lv_at hl 1 rfl) ?_
  refine a_ishlU F dX2_stepsBetween_2 (fun v7 => ?_)
  refine lv_istore_n (lv' := [(3, .int v7), (0, .ref (ad 4)), (1, .int p0), (2, .int p1)]) F.1 F.2.1 dX2_stepsBetween_3 rfl hl (by decide) rfl (fun ls hl => ?_)
  refine a_ic F (0 : Int32) dX2_stepsBetween_4 (by decide) ?_
  refine lv_istore (lv' := [(4, .int (0 : Int32)), (3, .int v7), (0, .ref (ad 4)), (1, .int p0), (2, .int p1)]) F.1 F.2.1 dX2_stepsBetween_5 hl (by decide) rfl (fun ls hl => ?_)
  exact L7 10 p1 v7 (0 : Int32) _ _ _ (by decide) (by decide) hP hD hS (lv_sub hl [2, 4, 1, 0] rfl)
set_option maxHeartbeats 4000000 in
set_option maxRecDepth 100000 in
theorem c_X10_isKnown_1_13 (l : Launch) (dC : Nat → ClassId) (dI : Nat → Nat → Nat) (ad : Nat → Nat) (cA : Nat → ClassId) (nF : Nat) (u0 : ac_U) (p1 : Int32) (hR : ac_R rg u0) (hp1 : (0 : Int) ≤ p1.toInt ∧ p1.toInt ≤ 3) : ac_Mi l yX10_isKnown (.code yX10_isKnown cX10_isKnown 4 (some .boolean) :: TB) 2 (dC, dI) vwCl (ac_ty cA) ad cA (TT nF) [.ref (ad 1), .ref (ad 13), .int p1] u0 (fun (r : Int32) (u : ac_U) => ac_R rg u ∧ ac_Fr [(1, some 9), (1, some 10), (1, some 11)] u0 u ∧ ((0 : Int) ≤ r.toInt ∧ r.toInt ≤ 1)) := by
  refine ac_Mi.of (cc := cX10_isKnown) (maxL := 4) (ret := (some .boolean)) (by decide) rfl (Nat.le_of_ble_eq_true rfl) ?_
  intro p e s m below meth c A ls F hml hr hlocks hA hP hD hS hl
  have F : ac_X p s m [.ref (ad 1), .ref (ad 13), .int p1].toArray c cX10_isKnown RX10 TB (dC, dI) vwCl (ac_ty cA) := ⟨F.1, F.2.1, fun w h => F.2.2.1 w (List.mem_cons_of_mem _ h), F.2.2.2.1, F.2.2.2.2⟩
  have hl : lv_has ls 4 [(0, .ref (ad 1)), (1, .ref (ad 13)), (2, .int p1)] := hl
  have hF : ac_Fr [(1, some 9), (1, some 10), (1, some 11)] u0 u0 := ac_Fr.rf
  have L38 : ∀ (u : ac_U) (H : Heap) (locs : List Loc) (ls : Array Slot), ac_R rg u → ac_Fr [(1, some 9), (1, some 10), (1, some 11)] u0 u → (2 : Int) ≤ (u.1 1 6).toInt ∧ (u.1 1 6).toInt ≤ 2 → va_P (dC, dI) vwCl (ac_w ad cA (TT nF) u) H → va_D A (ac_w ad cA (TT nF) u) → va_S A s.heap H locs → lv_has ls 4 [(0, .ref (ad 1))] → W p l e (ac_rm 2) s m [.ref (ad 1), .ref (ad 13), .int p1].toArray below meth c H locs 0 0 (MQ below (va_Qi (fun (r : Int32) (u : ac_U) => ac_R rg u ∧ ac_Fr [(1, some 9), (1, some 10), (1, some 11)] u0 u ∧ ((0 : Int) ≤ r.toInt ∧ r.toInt ≤ 1)) (ac_B (dC, dI) vwCl (ac_ty cA) ad cA (TT nF) A) A) [.ref (ad 1), .ref (ad 13), .int p1].toArray s 0 0 A) (F0 m 38 ls []) := by
    intro u H locs ls hR hF f0 hP hD hS hl
    refine lv_aload_n F.1 F.2.1 dX10_isKnown_38 rfl (lv_at hl 0 rfl) ?_
    refine a_ic F (3 : Int32) dX10_isKnown_39 (by decide) ?_
    refine a_Vi F hml hl.1 hA hP hD hS (As := [.int (3 : Int32)]) (c_X10_fail_1 l dC dI ad cA nF _ (3 : Int32) hR (by decide)) (cs_RX10_90 (d := 1) F.2.2.1 (by decide)) tc_1 rfl rfl rfl rfl (Nat.le_of_ble_eq_true rfl) dX10_isKnown_40 ⟨Nat.le_refl 0, Nat.le_refl 0⟩ (fun r1 u H locs hq hP hD hS => ?_)
    obtain ⟨hR, hF1, gr1⟩ := hq
    have hF := hF.tr hF1 (by decide)
    exact a_retz F hr hlocks hP hD hS dX10_isKnown_43 (i_01 (by omega)) ⟨hR, hF, (by omega : (0 : Int) ≤ r1.toInt ∧ r1.toInt ≤ 1)⟩
  refine lv_aload_n F.1 F.2.1 dX10_isKnown_0 rfl (lv_at hl 0 rfl) ?_
  have g2 : (-128 : Int) ≤ (u0.1 1 6).toInt ∧ (u0.1 1 6).toInt ≤ 127 := hR 1 6
  refine a_geti F inX10 hP 1 6 tc_1 rfl rfl (by decide) q100 (fun _ h9 => h9) (v := (u0.1 1 6)) rfl dX10_isKnown_1 ?_
  refine a_ic F (2 : Int32) dX10_isKnown_4 (by decide) ?_
  refine b_eq F 14 dX10_isKnown_5 (by decide) rfl ic_2 (fun c3 => ?_) (fun c3 => ?_)
  · refine lv_aload_n F.1 F.2.1 dX10_isKnown_14 rfl (lv_at hl 1 rfl) ?_
    refine lv_aload_n F.1 F.2.1 dX10_isKnown_15 rfl (lv_at hl 0 rfl) ?_
    refine a_getl F inX10 hP 1 7 tc_1 rfl rfl (by decide) q104 (fun _ h9 => h9) rfl dX10_isKnown_16 ?_
    refine lv_topl (fun w4 _ => ?_)
    refine a_Vi F hml hl.1 hA hP hD hS (As := [.long w4]) (c_X2_nameIndex_13 l dC dI ad cA nF _ w4 hR) (cs_RX10_93 (d := 1) F.2.2.1 (by decide)) tc_13 rfl rfl rfl rfl (Nat.le_of_ble_eq_true rfl) dX10_isKnown_19 ⟨Nat.le_refl 0, Nat.le_refl 0⟩ (fun r5 uN5 H locs hq hP hD hS => ?_)
    obtain ⟨hu5, gr5⟩ := hq
    rw [hu5] at hP hD
    refine lv_istore_n (lv' := [(3, .int r5), (0, .ref (ad 1)), (1, .ref (ad 13)), (2, .int p1)]) F.1 F.2.1 dX10_isKnown_22 rfl hl (by decide) rfl (fun ls hl => ?_)
    refine lv_iload_n F.1 F.2.1 dX10_isKnown_23 rfl (lv_at hl 0 rfl) ?_
    refine a_ic F (-1 : Int32) dX10_isKnown_24 (by decide) ?_
    refine b_eq F 38 dX10_isKnown_25 (by decide) rfl ic_m1 (fun c6 => ?_) (fun c6 => ?_)
    · exact L38 _ _ _ _ hR hF (by omega : (2 : Int) ≤ (u0.1 1 6).toInt ∧ (u0.1 1 6).toInt ≤ 2) hP hD hS (lv_sub hl [1] rfl)
    · refine lv_aload_n F.1 F.2.1 dX10_isKnown_28 rfl (lv_at hl 2 rfl) ?_
      refine a_getr F inX2 hP 13 15 tc_13 rfl rfl (by decide) q199 (fun _ h9 => h9) dX10_isKnown_29 ?_
      refine lv_iload_n F.1 F.2.1 dX10_isKnown_32 rfl (lv_at hl 0 rfl) ?_
      refine a_iald F hP 20 tc_20 rfl (i_in rfl (by omega)) dX10_isKnown_33 (fun v7 ev7 => ?_)
      have hv7 : (0 : Int) ≤ v7.toInt ∧ v7.toInt ≤ 3 := ev7 ▸ hR 20 _
      refine lv_iload_n F.1 F.2.1 dX10_isKnown_34 rfl (lv_at hl 3 rfl) ?_
      refine b_eq F 44 dX10_isKnown_35 (by decide) rfl rfl (fun c8 => ?_) (fun c8 => ?_)
      · refine lv_aload_n F.1 F.2.1 dX10_isKnown_44 rfl (lv_at hl 1 rfl) ?_
        refine lv_aload_n F.1 F.2.1 dX10_isKnown_45 rfl (lv_at hl 2 rfl) ?_
        refine a_getr F inX2 hP 13 16 tc_13 rfl rfl (by decide) q201 (fun _ h9 => h9) dX10_isKnown_46 ?_
        refine lv_iload_n F.1 F.2.1 dX10_isKnown_49 rfl (lv_at hl 0 rfl) ?_
        refine a_iald F hP 21 tc_21 rfl (i_in rfl (by omega)) dX10_isKnown_50 (fun v9 ev9 => ?_)
        have hv9 : (0 : Int) ≤ v9.toInt ∧ v9.toInt ≤ 7 := ev9 ▸ hR 21 _
        refine a_puti F inX10 tyX10 tyX10_ok nmX10 hP hD hS 1 9 tc_1 rfl rfl (by decide) q110 (fun _ h9 => h9) rfl (ty := .int) (tyX10_ok 9 (by decide)) rfl rfl dX10_isKnown_51 (fun H locs hP hD hS => ?_)
        have hR := hR.si (c := 1) (k := 9) (v := v9) (by omega : (0 : Int) ≤ v9.toInt ∧ v9.toInt ≤ 7)
        have hF := hF.si (c := 1) (k := 9) (v := v9) rfl
        refine a_ic F (1 : Int32) dX10_isKnown_54 (by decide) ?_
        exact a_retz F hr hlocks hP hD hS dX10_isKnown_55 (Or.inr rfl) ⟨hR, hF, (by decide)⟩
      · exact L38 _ _ _ _ hR hF (by omega : (2 : Int) ≤ (u0.1 1 6).toInt ∧ (u0.1 1 6).toInt ≤ 2) hP hD hS (lv_sub hl [1] rfl)
  · refine lv_aload_n F.1 F.2.1 dX10_isKnown_8 rfl (lv_at hl 0 rfl) ?_
    refine a_ic F (1 : Int32) dX10_isKnown_9 (by decide) ?_
    refine a_Vi F hml hl.1 hA hP hD hS (As := [.int (1 : Int32)]) (c_X10_fail_1 l dC dI ad cA nF _ (1 : Int32) hR (by decide)) (cs_RX10_90 (d := 1) F.2.2.1 (by decide)) tc_1 rfl rfl rfl rfl (Nat.le_of_ble_eq_true rfl) dX10_isKnown_10 ⟨Nat.le_refl 0, Nat.le_refl 0⟩ (fun r10 u H locs hq hP hD hS => ?_)
    obtain ⟨hR, hF10, gr10⟩ := hq
    have hF := hF.tr hF10 (by decide)
    exact a_retz F hr hlocks hP hD hS dX10_isKnown_13 (i_01 (by omega)) ⟨hR, hF, (by omega : (0 : Int) ≤ r10.toInt ∧ r10.toInt ≤ 1)⟩
set_option maxHeartbeats 4000000 in
set_option maxRecDepth 100000 in
theorem c_X6_mark_24 (l : Launch) (dC : Nat → ClassId) (dI : Nat → Nat → Nat) (ad : Nat → Nat) (cA : Nat → ClassId) (nF : Nat) (u0 : ac_U) (p0 : Int32) (p1 : Int32) (hR : ac_R rg u0) (hp0 : (0 : Int) ≤ p0.toInt ∧ p0.toInt ≤ 79) (hp1 : (0 : Int) ≤ p1.toInt ∧ p1.toInt ≤ 3) : ac_Mi l yX6_mark (.code yX6_mark cX6_mark 3 (some .int) :: TB) 1 (dC, dI) vwCl (ac_ty cA) ad cA (TT nF) [.ref (ad 24), .int p0, .int p1] u0 (fun (r : Int32) (u : ac_U) => u = u0) := by
  refine ac_Mi.of (cc := cX6_mark) (maxL := 3) (ret := (some .int)) (by decide) rfl (Nat.le_of_ble_eq_true rfl) ?_
  intro p e s m below meth c A ls F hml hr hlocks hA hP hD hS hl
  have F : ac_X p s m [.ref (ad 24), .int p0, .int p1].toArray c cX6_mark RX6 TB (dC, dI) vwCl (ac_ty cA) := ⟨F.1, F.2.1, fun w h => F.2.2.1 w (List.mem_cons_of_mem _ h), F.2.2.2.1, F.2.2.2.2⟩
  have hl : lv_has ls 3 [(0, .ref (ad 24)), (1, .int p0), (2, .int p1)] := hl
  refine lv_aload_n F.1 F.2.1 dX6_mark_0 rfl (lv_at hl 0 rfl) ?_
  refine a_getr F inX6 hP 24 2 tc_24 rfl rfl (by decide) q278 (fun _ h9 => h9) dX6_mark_1 ?_
  refine lv_iload_n F.1 F.2.1 dX6_mark_4 rfl (lv_at hl 1 rfl) ?_
  refine a_ic F (4 : Int32) dX6_mark_5 (by decide) ?_
  refine a_imul F dX6_mark_6 rfl ic_4 (by omega) (fun v1 hv1 => ?_)
  refine lv_iload_n F.1 F.2.1 dX6_mark_7 rfl (lv_at hl 2 rfl) ?_
  refine a_iadd F dX6_mark_8 rfl rfl (by omega) (fun v2 hv2 => ?_)
  refine a_iald F hP 26 tc_26 rfl (i_in rfl (by omega)) dX6_mark_9 (fun v3 ev3 => ?_)
  exact a_reti F hr hlocks hP hD hS dX6_mark_10 rfl
set_option maxHeartbeats 4000000 in
set_option maxRecDepth 100000 in
theorem c_J7_fill_53178_30 (l : Launch) (dC : Nat → ClassId) (dI : Nat → Nat → Nat) (ad : Nat → Nat) (cA : Nat → ClassId) (nF : Nat) (u0 : ac_U) (p1 : Int32) (hR : ac_R rg u0) (hp1 : (0 : Int) ≤ p1.toInt ∧ p1.toInt ≤ 0) : ac_Mv l yJ7_fill_53178 (.code yJ7_fill_53178 cJ7_fill_53178 4 none :: TB) 1 (dC, dI) vwCl (ac_ty cA) ad cA (TT nF) [.ref (ad 30), .int p1] u0 (fun (u : ac_U) => ac_R rg u ∧ ac_Fr [(30, none)] u0 u) := by
  refine ac_Mv.of (cc := cJ7_fill_53178) (maxL := 4) (ret := none) (by decide) rfl (Nat.le_of_ble_eq_true rfl) ?_
  intro p e s m below meth c A ls F hml hr hlocks hA hP hD hS hl
  have F : ac_X p s m [.ref (ad 30), .int p1].toArray c cJ7_fill_53178 RJ7 TB (dC, dI) vwCl (ac_ty cA) := ⟨F.1, F.2.1, fun w h => F.2.2.1 w (List.mem_cons_of_mem _ h), F.2.2.2.1, F.2.2.2.2⟩
  have hl : lv_has ls 4 [(0, .ref (ad 30)), (1, .int p1)] := hl
  have hF : ac_Fr [(30, none)] u0 u0 := ac_Fr.rf
  have L5 : ∀ (n5 : Nat) (x1 : Int32) (x2 : Int32) (x3 : Int32) (u : ac_U) (H : Heap) (locs : List Loc) (ls : Array Slot), 20 - x2.toInt < (n5 : Int) → ac_R rg u → ac_Fr [(30, none)] u0 u → (0 : Int) ≤ x1.toInt ∧ x1.toInt ≤ 0 → (0 : Int) ≤ x2.toInt ∧ x2.toInt ≤ 20 → (20 : Int) ≤ x3.toInt ∧ x3.toInt ≤ 20 → va_P (dC, dI) vwCl (ac_w ad cA (TT nF) u) H → va_D A (ac_w ad cA (TT nF) u) → va_S A s.heap H locs → lv_has ls 4 [(0, .ref (ad 30)), (1, .int x1), (2, .int x2), (3, .int x3)] → W p l e (ac_rm 1) s m [.ref (ad 30), .int p1].toArray below meth c H locs 0 0 (MQ below (va_Qv (fun (u : ac_U) => ac_R rg u ∧ ac_Fr [(30, none)] u0 u) (ac_B (dC, dI) vwCl (ac_ty cA) ad cA (TT nF) A) A) [.ref (ad 30), .int p1].toArray s 0 0 A) (F0 m 5 ls []) := by
    intro n5
    induction n5 with
    | zero => intro x1 x2 x3 u H locs ls hn5 hR hF f0 f1 f2 hP hD hS hl; exfalso; omega
    | succ n5 ih5 =>
      intro x1 x2 x3 u H locs ls hn5 hR hF f0 f1 f2 hP hD hS hl
      refine lv_iload_n F.1 F.2.1 dJ7_fill_53178_5 rfl (lv_at hl 2 rfl) ?_
      refine lv_iload_n F.1 F.2.1 dJ7_fill_53178_6 rfl (lv_at hl 3 rfl) ?_
      refine b_ge F 20 dJ7_fill_53178_7 (by decide) rfl rfl (fun c1 => ?_) (fun c1 => ?_)
      · exact a_retv F hr hlocks hP hD hS dJ7_fill_53178_20 ⟨hR, hF⟩
      · refine lv_aload_n F.1 F.2.1 dJ7_fill_53178_10 rfl (lv_at hl 0 rfl) ?_
        refine lv_iload_n F.1 F.2.1 dJ7_fill_53178_11 rfl (lv_at hl 2 rfl) ?_
        refine lv_iload_n F.1 F.2.1 dJ7_fill_53178_12 rfl (lv_at hl 1 rfl) ?_
        refine a_iast F hP hD hS 30 tc_30 rfl (i_in rfl (by omega)) dJ7_fill_53178_13 (fun H locs hP hD hS => ?_)
        have hR := hR.si (c := 30) (k := x2.toNatClampNeg) (v := x1) ⟨i_lo _, i_hi _⟩
        have hF := hF.si (c := 30) (k := x2.toNatClampNeg) (v := x1) rfl
        refine a_iinc F (k := 2) (fun v2 => [(2, .int v2), (0, .ref (ad 30)), (1, .int x1), (3, .int x3)]) dJ7_fill_53178_14 hl rfl rfl (by decide) (by omega) (by decide) (fun _ => rfl) (fun v2 ls hv2 hl => ?_)
        refine lv_goto (tgt := 5) F.1 F.2.1 dJ7_fill_53178_17 (by decide) ?_
        exact ih5 x1 v2 x3 _ _ _ _ (by omega) hR hF (by omega) (by omega) (by omega) hP hD hS (lv_sub hl [1, 2, 0, 3] rfl)
  refine a_ic F (0 : Int32) dJ7_fill_53178_0 (by decide) ?_
  refine lv_istore_n (lv' := [(2, .int (0 : Int32)), (0, .ref (ad 30)), (1, .int p1)]) F.1 F.2.1 dJ7_fill_53178_1 rfl hl (by decide) rfl (fun ls hl => ?_)
  refine lv_aload_n F.1 F.2.1 dJ7_fill_53178_2 rfl (lv_at hl 1 rfl) ?_
  refine va_alen (v := (20 : Int32)) F.1 F.2.1 F.2.2.2.2 hP 30 0 (ac_at tc_30) rfl rfl dJ7_fill_53178_3 ?_
  refine lv_istore_n (lv' := [(3, .int (20 : Int32)), (2, .int (0 : Int32)), (0, .ref (ad 30)), (1, .int p1)]) F.1 F.2.1 dJ7_fill_53178_4 rfl hl (by decide) rfl (fun ls hl => ?_)
  exact L5 22 p1 (0 : Int32) (20 : Int32) _ _ _ _ (by decide) hR hF (by omega) (by decide) (by decide) hP hD hS (lv_sub hl [2, 3, 1, 0] rfl)
set_option maxHeartbeats 4000000 in
set_option maxRecDepth 100000 in
theorem c_X5_isOffOn_29 (l : Launch) (dC : Nat → ClassId) (dI : Nat → Nat → Nat) (ad : Nat → Nat) (cA : Nat → ClassId) (nF : Nat) (u0 : ac_U) (p0 : Int32) (hR : ac_R rg u0) (hp0 : (0 : Int) ≤ p0.toInt ∧ p0.toInt ≤ 121) : ac_Mi l yX5_isOffOn (.code yX5_isOffOn cX5_isOffOn 2 (some .boolean) :: TB) 1 (dC, dI) vwCl (ac_ty cA) ad cA (TT nF) [.ref (ad 29), .int p0] u0 (fun (r : Int32) (u : ac_U) => u = u0 ∧ ((0 : Int) ≤ r.toInt ∧ r.toInt ≤ 1)) := by
  refine ac_Mi.of (cc := cX5_isOffOn) (maxL := 2) (ret := (some .boolean)) (by decide) rfl (Nat.le_of_ble_eq_true rfl) ?_
  intro p e s m below meth c A ls F hml hr hlocks hA hP hD hS hl
  have F : ac_X p s m [.ref (ad 29), .int p0].toArray c cX5_isOffOn RX5 TB (dC, dI) vwCl (ac_ty cA) := ⟨F.1, F.2.1, fun w h => F.2.2.1 w (List.mem_cons_of_mem _ h), F.2.2.2.1, F.2.2.2.2⟩
  have hl : lv_has ls 2 [(0, .ref (ad 29)), (1, .int p0)] := hl
  have L23 : ∀ (z0 : Int32) (H : Heap) (locs : List Loc) (ls : Array Slot), (0 : Int) ≤ z0.toInt ∧ z0.toInt ≤ 1 → va_P (dC, dI) vwCl (ac_w ad cA (TT nF) u0) H → va_D A (ac_w ad cA (TT nF) u0) → va_S A s.heap H locs → lv_has ls 2 [] → W p l e (ac_rm 1) s m [.ref (ad 29), .int p0].toArray below meth c H locs 0 0 (MQ below (va_Qi (fun (r : Int32) (u : ac_U) => u = u0 ∧ ((0 : Int) ≤ r.toInt ∧ r.toInt ≤ 1)) (ac_B (dC, dI) vwCl (ac_ty cA) ad cA (TT nF) A) A) [.ref (ad 29), .int p0].toArray s 0 0 A) (F0 m 23 ls [.int z0]) := by
    intro z0 H locs ls f0 hP hD hS hl
    exact a_retz F hr hlocks hP hD hS dX5_isOffOn_23 (i_01 (by omega)) ⟨rfl, (by omega : (0 : Int) ≤ z0.toInt ∧ z0.toInt ≤ 1)⟩
  have L22 : ∀ (H : Heap) (locs : List Loc) (ls : Array Slot), va_P (dC, dI) vwCl (ac_w ad cA (TT nF) u0) H → va_D A (ac_w ad cA (TT nF) u0) → va_S A s.heap H locs → lv_has ls 2 [] → W p l e (ac_rm 1) s m [.ref (ad 29), .int p0].toArray below meth c H locs 0 0 (MQ below (va_Qi (fun (r : Int32) (u : ac_U) => u = u0 ∧ ((0 : Int) ≤ r.toInt ∧ r.toInt ≤ 1)) (ac_B (dC, dI) vwCl (ac_ty cA) ad cA (TT nF) A) A) [.ref (ad 29), .int p0].toArray s 0 0 A) (F0 m 22 ls []) := by
    intro H locs ls hP hD hS hl
    refine a_ic F (0 : Int32) dX5_isOffOn_22 (by decide) ?_
    exact L23 (0 : Int32) _ _ _ (by decide) hP hD hS (lv_sub hl [] rfl)
  refine lv_iload_n F.1 F.2.1 dX5_isOffOn_0 rfl (lv_at hl 1 rfl) ?_
  refine a_bp F (20 : Int32) dX5_isOffOn_1 (by decide) ?_
  refine b_ge F 22 dX5_isOffOn_3 (by decide) rfl ic_20 (fun c1 => ?_) (fun c1 => ?_)
  · exact L22 _ _ _  hP hD hS (lv_sub hl [] rfl)
  · refine lv_aload_n F.1 F.2.1 dX5_isOffOn_6 rfl (lv_at hl 0 rfl) ?_
    refine a_geti F inX5 hP 29 4 tc_29 rfl rfl (by decide) q310 (fun _ h9 => h9) (v := (u0.1 29 4)) rfl dX5_isOffOn_7 ?_
    refine lv_iload_n F.1 F.2.1 dX5_isOffOn_10 rfl (lv_at hl 1 rfl) ?_
    refine a_ishrU F dX5_isOffOn_11 (fun v2 => ?_)
    refine a_ic F (1 : Int32) dX5_isOffOn_12 (by decide) ?_
    refine a_iandM F dX5_isOffOn_13 ic_1 (by omega) (fun v3 hv3 => ?_)
    refine a_ic F (1 : Int32) dX5_isOffOn_14 (by decide) ?_
    refine b_ne F 22 dX5_isOffOn_15 (by decide) rfl ic_1 (fun c4 => ?_) (fun c4 => ?_)
    · exact L22 _ _ _  hP hD hS (lv_sub hl [] rfl)
    · refine a_ic F (1 : Int32) dX5_isOffOn_18 (by decide) ?_
      refine lv_goto (tgt := 23) F.1 F.2.1 dX5_isOffOn_19 (by decide) ?_
      exact L23 (1 : Int32) _ _ _ (by decide) hP hD hS (lv_sub hl [] rfl)
set_option maxHeartbeats 4000000 in
set_option maxRecDepth 100000 in
theorem c_X5_isWindowOver_29 (l : Launch) (dC : Nat → ClassId) (dI : Nat → Nat → Nat) (ad : Nat → Nat) (cA : Nat → ClassId) (nF : Nat) (u0 : ac_U) (p0 : Int32) (hR : ac_R rg u0) (hp0 : (0 : Int) ≤ p0.toInt ∧ p0.toInt ≤ 121) : ac_Mi l yX5_isWindowOver (.code yX5_isWindowOver cX5_isWindowOver 2 (some .boolean) :: TB) 1 (dC, dI) vwCl (ac_ty cA) ad cA (TT nF) [.ref (ad 29), .int p0] u0 (fun (r : Int32) (u : ac_U) => u = u0 ∧ ((0 : Int) ≤ r.toInt ∧ r.toInt ≤ 1)) := by
  refine ac_Mi.of (cc := cX5_isWindowOver) (maxL := 2) (ret := (some .boolean)) (by decide) rfl (Nat.le_of_ble_eq_true rfl) ?_
  intro p e s m below meth c A ls F hml hr hlocks hA hP hD hS hl
  have F : ac_X p s m [.ref (ad 29), .int p0].toArray c cX5_isWindowOver RX5 TB (dC, dI) vwCl (ac_ty cA) := ⟨F.1, F.2.1, fun w h => F.2.2.1 w (List.mem_cons_of_mem _ h), F.2.2.2.1, F.2.2.2.2⟩
  have hl : lv_has ls 2 [(0, .ref (ad 29)), (1, .int p0)] := hl
  have L37 : ∀ (z0 : Int32) (H : Heap) (locs : List Loc) (ls : Array Slot), (0 : Int) ≤ z0.toInt ∧ z0.toInt ≤ 1 → va_P (dC, dI) vwCl (ac_w ad cA (TT nF) u0) H → va_D A (ac_w ad cA (TT nF) u0) → va_S A s.heap H locs → lv_has ls 2 [] → W p l e (ac_rm 1) s m [.ref (ad 29), .int p0].toArray below meth c H locs 0 0 (MQ below (va_Qi (fun (r : Int32) (u : ac_U) => u = u0 ∧ ((0 : Int) ≤ r.toInt ∧ r.toInt ≤ 1)) (ac_B (dC, dI) vwCl (ac_ty cA) ad cA (TT nF) A) A) [.ref (ad 29), .int p0].toArray s 0 0 A) (F0 m 37 ls [.int z0]) := by
    intro z0 H locs ls f0 hP hD hS hl
    exact a_retz F hr hlocks hP hD hS dX5_isWindowOver_37 (i_01 (by omega)) ⟨rfl, (by omega : (0 : Int) ≤ z0.toInt ∧ z0.toInt ≤ 1)⟩
  have L36 : ∀ (H : Heap) (locs : List Loc) (ls : Array Slot), va_P (dC, dI) vwCl (ac_w ad cA (TT nF) u0) H → va_D A (ac_w ad cA (TT nF) u0) → va_S A s.heap H locs → lv_has ls 2 [] → W p l e (ac_rm 1) s m [.ref (ad 29), .int p0].toArray below meth c H locs 0 0 (MQ below (va_Qi (fun (r : Int32) (u : ac_U) => u = u0 ∧ ((0 : Int) ≤ r.toInt ∧ r.toInt ≤ 1)) (ac_B (dC, dI) vwCl (ac_ty cA) ad cA (TT nF) A) A) [.ref (ad 29), .int p0].toArray s 0 0 A) (F0 m 36 ls []) := by
    intro H locs ls hP hD hS hl
    refine a_ic F (0 : Int32) dX5_isWindowOver_36 (by decide) ?_
    exact L37 (0 : Int32) _ _ _ (by decide) hP hD hS (lv_sub hl [] rfl)
  refine lv_iload_n F.1 F.2.1 dX5_isWindowOver_0 rfl (lv_at hl 1 rfl) ?_
  refine a_bp F (20 : Int32) dX5_isWindowOver_1 (by decide) ?_
  refine b_ge F 36 dX5_isWindowOver_3 (by decide) rfl ic_20 (fun c1 => ?_) (fun c1 => ?_)
  · exact L36 _ _ _  hP hD hS (lv_sub hl [] rfl)
  · refine lv_aload_n F.1 F.2.1 dX5_isWindowOver_6 rfl (lv_at hl 0 rfl) ?_
    refine a_getr F inX5 hP 29 1 tc_29 rfl rfl (by decide) q307 (fun _ h9 => h9) dX5_isWindowOver_7 ?_
    refine a_getr F inX6 hP 24 1 tc_24 rfl rfl (by decide) q274 (fun _ h9 => h9) dX5_isWindowOver_10 ?_
    refine a_ic F (0 : Int32) dX5_isWindowOver_13 (by decide) ?_
    refine a_iald F hP 25 tc_25 rfl (i_in ic_0 (by omega)) dX5_isWindowOver_14 (fun v2 ev2 => ?_)
    have hv2 : (0 : Int) ≤ v2.toInt ∧ v2.toInt ≤ 480 := ev2 ▸ hR 25 _
    refine lv_iload_n F.1 F.2.1 dX5_isWindowOver_15 rfl (lv_at hl 1 rfl) ?_
    refine lv_aload_n F.1 F.2.1 dX5_isWindowOver_16 rfl (lv_at hl 0 rfl) ?_
    refine a_getr F inX5 hP 29 0 tc_29 rfl rfl (by decide) q306 (fun _ h9 => h9) dX5_isWindowOver_17 ?_
    have g3 : (4 : Int) ≤ (u0.1 4 0).toInt ∧ (u0.1 4 0).toInt ≤ 24 := hR 4 0
    refine a_geti F inX2 hP 4 0 tc_4 rfl rfl (by decide) q152 (fun _ h9 => h9) (v := (u0.1 4 0)) rfl dX5_isWindowOver_20 ?_
    have kv4 := i_mulb (x := p0.toInt) (y := (u0.1 4 0).toInt) (a0 := 0) (a1 := 19) (b0 := 4) (b1 := 24) (by omega) (by omega) (by omega)
    refine a_imul F dX5_isWindowOver_23 rfl rfl (by omega) (fun v4 hv4 => ?_)
    refine lv_aload_n F.1 F.2.1 dX5_isWindowOver_24 rfl (lv_at hl 0 rfl) ?_
    refine a_geti F inX5 hP 29 5 tc_29 rfl rfl (by decide) q311 (fun _ h9 => h9) (v := (u0.1 29 5)) rfl dX5_isWindowOver_25 ?_
    refine a_iaddU F dX5_isWindowOver_28 (fun v5 => ?_)
    refine b_le F 36 dX5_isWindowOver_29 (by decide) rfl rfl (fun c6 => ?_) (fun c6 => ?_)
    · exact L36 _ _ _  hP hD hS (lv_sub hl [] rfl)
    · refine a_ic F (1 : Int32) dX5_isWindowOver_32 (by decide) ?_
      refine lv_goto (tgt := 37) F.1 F.2.1 dX5_isWindowOver_33 (by decide) ?_
      exact L37 (1 : Int32) _ _ _ (by decide) hP hD hS (lv_sub hl [] rfl)
set_option maxHeartbeats 4000000 in
set_option maxRecDepth 100000 in
theorem c_J7_fill_53178_31 (l : Launch) (dC : Nat → ClassId) (dI : Nat → Nat → Nat) (ad : Nat → Nat) (cA : Nat → ClassId) (nF : Nat) (u0 : ac_U) (p1 : Int32) (hR : ac_R rg u0) (hp1 : (0 : Int) ≤ p1.toInt ∧ p1.toInt ≤ 0) : ac_Mv l yJ7_fill_53178 (.code yJ7_fill_53178 cJ7_fill_53178 4 none :: TB) 1 (dC, dI) vwCl (ac_ty cA) ad cA (TT nF) [.ref (ad 31), .int p1] u0 (fun (u : ac_U) => ac_R rg u ∧ ac_Fr [(31, none)] u0 u) := by
  refine ac_Mv.of (cc := cJ7_fill_53178) (maxL := 4) (ret := none) (by decide) rfl (Nat.le_of_ble_eq_true rfl) ?_
  intro p e s m below meth c A ls F hml hr hlocks hA hP hD hS hl
  have F : ac_X p s m [.ref (ad 31), .int p1].toArray c cJ7_fill_53178 RJ7 TB (dC, dI) vwCl (ac_ty cA) := ⟨F.1, F.2.1, fun w h => F.2.2.1 w (List.mem_cons_of_mem _ h), F.2.2.2.1, F.2.2.2.2⟩
  have hl : lv_has ls 4 [(0, .ref (ad 31)), (1, .int p1)] := hl
  have hF : ac_Fr [(31, none)] u0 u0 := ac_Fr.rf
  have L5 : ∀ (n5 : Nat) (x1 : Int32) (x2 : Int32) (x3 : Int32) (u : ac_U) (H : Heap) (locs : List Loc) (ls : Array Slot), 20 - x2.toInt < (n5 : Int) → ac_R rg u → ac_Fr [(31, none)] u0 u → (0 : Int) ≤ x1.toInt ∧ x1.toInt ≤ 0 → (0 : Int) ≤ x2.toInt ∧ x2.toInt ≤ 20 → (20 : Int) ≤ x3.toInt ∧ x3.toInt ≤ 20 → va_P (dC, dI) vwCl (ac_w ad cA (TT nF) u) H → va_D A (ac_w ad cA (TT nF) u) → va_S A s.heap H locs → lv_has ls 4 [(0, .ref (ad 31)), (1, .int x1), (2, .int x2), (3, .int x3)] → W p l e (ac_rm 1) s m [.ref (ad 31), .int p1].toArray below meth c H locs 0 0 (MQ below (va_Qv (fun (u : ac_U) => ac_R rg u ∧ ac_Fr [(31, none)] u0 u) (ac_B (dC, dI) vwCl (ac_ty cA) ad cA (TT nF) A) A) [.ref (ad 31), .int p1].toArray s 0 0 A) (F0 m 5 ls []) := by
    intro n5
    induction n5 with
    | zero => intro x1 x2 x3 u H locs ls hn5 hR hF f0 f1 f2 hP hD hS hl; exfalso; omega
    | succ n5 ih5 =>
      intro x1 x2 x3 u H locs ls hn5 hR hF f0 f1 f2 hP hD hS hl
      refine lv_iload_n F.1 F.2.1 dJ7_fill_53178_5 rfl (lv_at hl 2 rfl) ?_
      refine lv_iload_n F.1 F.2.1 dJ7_fill_53178_6 rfl (lv_at hl 3 rfl) ?_
      refine b_ge F 20 dJ7_fill_53178_7 (by decide) rfl rfl (fun c1 => ?_) (fun c1 => ?_)
      · exact a_retv F hr hlocks hP hD hS dJ7_fill_53178_20 ⟨hR, hF⟩
      · refine lv_aload_n F.1 F.2.1 dJ7_fill_53178_10 rfl (lv_at hl 0 rfl) ?_
        refine lv_iload_n F.1 F.2.1 dJ7_fill_53178_11 rfl (lv_at hl 2 rfl) ?_
        refine lv_iload_n F.1 F.2.1 dJ7_fill_53178_12 rfl (lv_at hl 1 rfl) ?_
        refine a_iast F hP hD hS 31 tc_31 rfl (i_in rfl (by omega)) dJ7_fill_53178_13 (fun H locs hP hD hS => ?_)
        have hR := hR.si (c := 31) (k := x2.toNatClampNeg) (v := x1) ⟨i_lo _, i_hi _⟩
        have hF := hF.si (c := 31) (k := x2.toNatClampNeg) (v := x1) rfl
        refine a_iinc F (k := 2) (fun v2 => [(2, .int v2), (0, .ref (ad 31)), (1, .int x1), (3, .int x3)]) dJ7_fill_53178_14 hl rfl rfl (by decide) (by omega) (by decide) (fun _ => rfl) (fun v2 ls hv2 hl => ?_)
        refine lv_goto (tgt := 5) F.1 F.2.1 dJ7_fill_53178_17 (by decide) ?_
        exact ih5 x1 v2 x3 _ _ _ _ (by omega) hR hF (by omega) (by omega) (by omega) hP hD hS (lv_sub hl [1, 2, 0, 3] rfl)
  refine a_ic F (0 : Int32) dJ7_fill_53178_0 (by decide) ?_
  refine lv_istore_n (lv' := [(2, .int (0 : Int32)), (0, .ref (ad 31)), (1, .int p1)]) F.1 F.2.1 dJ7_fill_53178_1 rfl hl (by decide) rfl (fun ls hl => ?_)
  refine lv_aload_n F.1 F.2.1 dJ7_fill_53178_2 rfl (lv_at hl 1 rfl) ?_
  refine va_alen (v := (20 : Int32)) F.1 F.2.1 F.2.2.2.2 hP 31 0 (ac_at tc_31) rfl rfl dJ7_fill_53178_3 ?_
  refine lv_istore_n (lv' := [(3, .int (20 : Int32)), (2, .int (0 : Int32)), (0, .ref (ad 31)), (1, .int p1)]) F.1 F.2.1 dJ7_fill_53178_4 rfl hl (by decide) rfl (fun ls hl => ?_)
  exact L5 22 p1 (0 : Int32) (20 : Int32) _ _ _ _ (by decide) hR hF (by omega) (by decide) (by decide) hP hD hS (lv_sub hl [2, 3, 1, 0] rfl)
set_option maxHeartbeats 4000000 in
set_option maxRecDepth 100000 in
theorem c_X5_gatherHours_29 (l : Launch) (dC : Nat → ClassId) (dI : Nat → Nat → Nat) (ad : Nat → Nat) (cA : Nat → ClassId) (nF : Nat) (u0 : ac_U) (p0 : Int32) (p1 : Int32) (p2 : Int32) (hR : ac_R rg u0) : ac_Mv l yX5_gatherHours (.code yX5_gatherHours cX5_gatherHours 7 none :: TB) 2 (dC, dI) vwCl (ac_ty cA) ad cA (TT nF) [.ref (ad 29), .int p0, .int p1, .int p2] u0 (fun (u : ac_U) => ac_R rg u ∧ ac_Fr [(31, none)] u0 u) := by
  refine ac_Mv.of (cc := cX5_gatherHours) (maxL := 7) (ret := none) (by decide) rfl (Nat.le_of_ble_eq_true rfl) ?_
  intro p e s m below meth c A ls F hml hr hlocks hA hP hD hS hl
  have F : ac_X p s m [.ref (ad 29), .int p0, .int p1, .int p2].toArray c cX5_gatherHours RX5 TB (dC, dI) vwCl (ac_ty cA) := ⟨F.1, F.2.1, fun w h => F.2.2.1 w (List.mem_cons_of_mem _ h), F.2.2.2.1, F.2.2.2.2⟩
  have hl : lv_has ls 7 [(0, .ref (ad 29)), (1, .int p0), (2, .int p1), (3, .int p2)] := hl
  have hF : ac_Fr [(31, none)] u0 u0 := ac_Fr.rf
  have L11 : ∀ (n11 : Nat) (x1 : Int32) (x2 : Int32) (x3 : Int32) (x4 : Int32) (u : ac_U) (H : Heap) (locs : List Loc) (ls : Array Slot), 80 - x4.toInt < (n11 : Int) → ac_R rg u → ac_Fr [(31, none)] u0 u → (0 : Int) ≤ x4.toInt ∧ x4.toInt ≤ 80 → va_P (dC, dI) vwCl (ac_w ad cA (TT nF) u) H → va_D A (ac_w ad cA (TT nF) u) → va_S A s.heap H locs → lv_has ls 7 [(0, .ref (ad 29)), (1, .int x1), (2, .int x2), (3, .int x3), (4, .int x4)] → W p l e (ac_rm 2) s m [.ref (ad 29), .int p0, .int p1, .int p2].toArray below meth c H locs 0 0 (MQ below (va_Qv (fun (u : ac_U) => ac_R rg u ∧ ac_Fr [(31, none)] u0 u) (ac_B (dC, dI) vwCl (ac_ty cA) ad cA (TT nF) A) A) [.ref (ad 29), .int p0, .int p1, .int p2].toArray s 0 0 A) (F0 m 11 ls []) := by
    intro n11
    induction n11 with
    | zero => intro x1 x2 x3 x4 u H locs ls hn11 hR hF f0 hP hD hS hl; exfalso; omega
    | succ n11 ih11 =>
      intro x1 x2 x3 x4 u H locs ls hn11 hR hF f0 hP hD hS hl
      have L123 : ∀ (x1 : Int32) (x2 : Int32) (x3 : Int32) (x4 : Int32) (u : ac_U) (H : Heap) (locs : List Loc) (ls : Array Slot), ac_R rg u → ac_Fr [(31, none)] u0 u → (0 : Int) ≤ x4.toInt ∧ x4.toInt ≤ 79 → 80 - x4.toInt + 0 < ((n11 : Nat) : Int) + 1 → va_P (dC, dI) vwCl (ac_w ad cA (TT nF) u) H → va_D A (ac_w ad cA (TT nF) u) → va_S A s.heap H locs → lv_has ls 7 [(0, .ref (ad 29)), (1, .int x1), (2, .int x2), (3, .int x3), (4, .int x4)] → W p l e (ac_rm 2) s m [.ref (ad 29), .int p0, .int p1, .int p2].toArray below meth c H locs 0 0 (MQ below (va_Qv (fun (u : ac_U) => ac_R rg u ∧ ac_Fr [(31, none)] u0 u) (ac_B (dC, dI) vwCl (ac_ty cA) ad cA (TT nF) A) A) [.ref (ad 29), .int p0, .int p1, .int p2].toArray s 0 0 A) (F0 m 123 ls []) := by
        intro x1 x2 x3 x4 u H locs ls hR hF f0 f1 hP hD hS hl
        refine a_iinc F (k := 4) (fun v1 => [(4, .int v1), (0, .ref (ad 29)), (1, .int x1), (2, .int x2), (3, .int x3)]) dX5_gatherHours_123 hl rfl rfl (by decide) (by omega) (by decide) (fun _ => rfl) (fun v1 ls hv1 hl => ?_)
        refine lv_goto (tgt := 11) F.1 F.2.1 dX5_gatherHours_126 (by decide) ?_
        exact ih11 x1 x2 x3 v1 _ _ _ _ (by omega) hR hF (by omega) hP hD hS (lv_sub hl [1, 2, 3, 4, 0] rfl)
      refine lv_iload F.1 F.2.1 dX5_gatherHours_11 (lv_at hl 4 rfl) ?_
      refine lv_aload_n F.1 F.2.1 dX5_gatherHours_13 rfl (lv_at hl 0 rfl) ?_
      refine a_getr F inX5 hP 29 1 tc_29 rfl rfl (by decide) q307 (fun _ h9 => h9) dX5_gatherHours_14 ?_
      refine a_getr F inX6 hP 24 1 tc_24 rfl rfl (by decide) q274 (fun _ h9 => h9) dX5_gatherHours_17 ?_
      refine a_ic F (2 : Int32) dX5_gatherHours_20 (by decide) ?_
      refine a_iald F hP 25 tc_25 rfl (i_in ic_2 (by omega)) dX5_gatherHours_21 (fun v2 ev2 => ?_)
      have hv2 : (0 : Int) ≤ v2.toInt ∧ v2.toInt ≤ 80 := ev2 ▸ hR 25 _
      refine b_ge F 129 dX5_gatherHours_22 (by decide) rfl rfl (fun c3 => ?_) (fun c3 => ?_)
      · exact a_retv F hr hlocks hP hD hS dX5_gatherHours_129 ⟨hR, hF⟩
      · refine lv_aload_n F.1 F.2.1 dX5_gatherHours_25 rfl (lv_at hl 0 rfl) ?_
        refine a_getr F inX5 hP 29 1 tc_29 rfl rfl (by decide) q307 (fun _ h9 => h9) dX5_gatherHours_26 ?_
        refine lv_iload F.1 F.2.1 dX5_gatherHours_29 (lv_at hl 4 rfl) ?_
        refine a_ic F (0 : Int32) dX5_gatherHours_31 (by decide) ?_
        refine a_Vi F hml hl.1 hA hP hD hS (As := [.int x4, .int (0 : Int32)]) (c_X6_mark_24 l dC dI ad cA nF _ x4 (0 : Int32) hR (by omega) (by decide)) (cs_RX5_68 (d := 1) F.2.2.1 (by decide)) tc_24 rfl rfl rfl rfl (Nat.le_of_ble_eq_true rfl) dX5_gatherHours_32 ⟨Nat.le_refl 0, Nat.le_refl 0⟩ (fun r4 uN4 H locs hq hP hD hS => ?_)
        have hu4 := hq
        rw [hu4] at hP hD
        refine lv_istore (lv' := [(5, .int r4), (0, .ref (ad 29)), (1, .int x1), (2, .int x2), (3, .int x3), (4, .int x4)]) F.1 F.2.1 dX5_gatherHours_35 hl (by decide) rfl (fun ls hl => ?_)
        refine lv_aload_n F.1 F.2.1 dX5_gatherHours_37 rfl (lv_at hl 1 rfl) ?_
        refine a_getr F inX5 hP 29 0 tc_29 rfl rfl (by decide) q306 (fun _ h9 => h9) dX5_gatherHours_38 ?_
        refine lv_iload F.1 F.2.1 dX5_gatherHours_41 (lv_at hl 0 rfl) ?_
        refine a_Vi F hml hl.1 hA hP hD hS (As := [.int r4]) (c_X2_dayOf_4 l dC dI ad cA nF _ r4 hR) (cs_RX5_55 (d := 1) F.2.2.1 (by decide)) tc_4 rfl rfl rfl rfl (Nat.le_of_ble_eq_true rfl) dX5_gatherHours_43 ⟨Nat.le_refl 0, Nat.le_refl 0⟩ (fun r5 uN5 H locs hq hP hD hS => ?_)
        obtain ⟨hu5, gr5⟩ := hq
        rw [hu5] at hP hD
        refine lv_istore (lv' := [(6, .int r5), (5, .int r4), (0, .ref (ad 29)), (1, .int x1), (2, .int x2), (3, .int x3), (4, .int x4)]) F.1 F.2.1 dX5_gatherHours_46 hl (by decide) rfl (fun ls hl => ?_)
        refine lv_aload_n F.1 F.2.1 dX5_gatherHours_48 rfl (lv_at hl 2 rfl) ?_
        refine a_getr F inX5 hP 29 1 tc_29 rfl rfl (by decide) q307 (fun _ h9 => h9) dX5_gatherHours_49 ?_
        refine lv_iload F.1 F.2.1 dX5_gatherHours_52 (lv_at hl 6 rfl) ?_
        refine a_ic F (1 : Int32) dX5_gatherHours_54 (by decide) ?_
        refine a_Vi F hml hl.1 hA hP hD hS (As := [.int x4, .int (1 : Int32)]) (c_X6_mark_24 l dC dI ad cA nF _ x4 (1 : Int32) hR (by omega) (by decide)) (cs_RX5_68 (d := 1) F.2.2.1 (by decide)) tc_24 rfl rfl rfl rfl (Nat.le_of_ble_eq_true rfl) dX5_gatherHours_55 ⟨Nat.le_refl 0, Nat.le_refl 0⟩ (fun r6 uN6 H locs hq hP hD hS => ?_)
        have hu6 := hq
        rw [hu6] at hP hD
        refine lv_iload_n F.1 F.2.1 dX5_gatherHours_58 rfl (lv_at hl 3 rfl) ?_
        refine b_ne F 123 dX5_gatherHours_59 (by decide) rfl rfl (fun c7 => ?_) (fun c7 => ?_)
        · exact L123 x1 x2 x3 x4 _ _ _ _ hR hF (by omega) (by omega) hP hD hS (lv_sub hl [2, 3, 4, 5, 6] rfl)
        · refine lv_aload_n F.1 F.2.1 dX5_gatherHours_62 rfl (lv_at hl 2 rfl) ?_
          refine a_getr F inX5 hP 29 1 tc_29 rfl rfl (by decide) q307 (fun _ h9 => h9) dX5_gatherHours_63 ?_
          refine lv_iload F.1 F.2.1 dX5_gatherHours_66 (lv_at hl 6 rfl) ?_
          refine a_ic F (2 : Int32) dX5_gatherHours_68 (by decide) ?_
          refine a_Vi F hml hl.1 hA hP hD hS (As := [.int x4, .int (2 : Int32)]) (c_X6_mark_24 l dC dI ad cA nF _ x4 (2 : Int32) hR (by omega) (by decide)) (cs_RX5_68 (d := 1) F.2.2.1 (by decide)) tc_24 rfl rfl rfl rfl (Nat.le_of_ble_eq_true rfl) dX5_gatherHours_69 ⟨Nat.le_refl 0, Nat.le_refl 0⟩ (fun r8 uN8 H locs hq hP hD hS => ?_)
          have hu8 := hq
          rw [hu8] at hP hD
          refine lv_iload_n F.1 F.2.1 dX5_gatherHours_72 rfl (lv_at hl 4 rfl) ?_
          refine b_ne F 123 dX5_gatherHours_73 (by decide) rfl rfl (fun c9 => ?_) (fun c9 => ?_)
          · exact L123 x1 x2 x3 x4 _ _ _ _ hR hF (by omega) (by omega) hP hD hS (lv_sub hl [2, 3, 4, 5, 6] rfl)
          · refine lv_aload_n F.1 F.2.1 dX5_gatherHours_76 rfl (lv_at hl 2 rfl) ?_
            refine a_getr F inX5 hP 29 1 tc_29 rfl rfl (by decide) q307 (fun _ h9 => h9) dX5_gatherHours_77 ?_
            refine lv_iload F.1 F.2.1 dX5_gatherHours_80 (lv_at hl 6 rfl) ?_
            refine a_ic F (3 : Int32) dX5_gatherHours_82 (by decide) ?_
            refine a_Vi F hml hl.1 hA hP hD hS (As := [.int x4, .int (3 : Int32)]) (c_X6_mark_24 l dC dI ad cA nF _ x4 (3 : Int32) hR (by omega) (by decide)) (cs_RX5_68 (d := 1) F.2.2.1 (by decide)) tc_24 rfl rfl rfl rfl (Nat.le_of_ble_eq_true rfl) dX5_gatherHours_83 ⟨Nat.le_refl 0, Nat.le_refl 0⟩ (fun r10 uN10 H locs hq hP hD hS => ?_)
            have hu10 := hq
            rw [hu10] at hP hD
            refine lv_iload_n F.1 F.2.1 dX5_gatherHours_86 rfl (lv_at hl 5 rfl) ?_
            refine b_ne F 123 dX5_gatherHours_87 (by decide) rfl rfl (fun c11 => ?_) (fun c11 => ?_)
            · exact L123 x1 x2 x3 x4 _ _ _ _ hR hF (by omega) (by omega) hP hD hS (lv_sub hl [2, 3, 4, 5, 6] rfl)
            · refine lv_iload F.1 F.2.1 dX5_gatherHours_90 (lv_at hl 0 rfl) ?_
              refine z_lt F 123 dX5_gatherHours_92 (by decide) rfl (fun c12 => ?_) (fun c12 => ?_)
              · exact L123 x1 x2 x3 x4 _ _ _ _ hR hF (by omega) (by omega) hP hD hS (lv_sub hl [2, 3, 4, 5, 6] rfl)
              · refine lv_iload F.1 F.2.1 dX5_gatherHours_95 (lv_at hl 0 rfl) ?_
                refine a_bp F (20 : Int32) dX5_gatherHours_97 (by decide) ?_
                refine b_ge F 123 dX5_gatherHours_99 (by decide) rfl ic_20 (fun c13 => ?_) (fun c13 => ?_)
                · exact L123 x1 x2 x3 x4 _ _ _ _ hR hF (by omega) (by omega) hP hD hS (lv_sub hl [2, 3, 4, 5, 6] rfl)
                · refine lv_aload_n F.1 F.2.1 dX5_gatherHours_102 rfl (lv_at hl 2 rfl) ?_
                  refine a_getr F inX5 hP 29 3 tc_29 rfl rfl (by decide) q309 (fun _ h9 => h9) dX5_gatherHours_103 ?_
                  refine lv_iload F.1 F.2.1 dX5_gatherHours_106 (lv_at hl 0 rfl) ?_
                  refine lv_dup2_11 F.1 F.2.1 dX5_gatherHours_108 rfl rfl ?_
                  refine a_iald F hP 31 tc_31 rfl (i_in rfl (by omega)) dX5_gatherHours_109 (fun v14 ev14 => ?_)
                  refine a_ic F (1 : Int32) dX5_gatherHours_110 (by decide) ?_
                  refine lv_aload_n F.1 F.2.1 dX5_gatherHours_111 rfl (lv_at hl 2 rfl) ?_
                  refine a_getr F inX5 hP 29 0 tc_29 rfl rfl (by decide) q306 (fun _ h9 => h9) dX5_gatherHours_112 ?_
                  refine lv_iload F.1 F.2.1 dX5_gatherHours_115 (lv_at hl 1 rfl) ?_
                  refine a_Vi F hml hl.1 hA hP hD hS (As := [.int r4]) (c_X2_hourOf_4 l dC dI ad cA nF _ r4 hR) (cs_RX5_59 (d := 1) F.2.2.1 (by decide)) tc_4 rfl rfl rfl rfl (Nat.le_of_ble_eq_true rfl) dX5_gatherHours_117 ⟨Nat.le_refl 0, Nat.le_refl 0⟩ (fun r15 uN15 H locs hq hP hD hS => ?_)
                  obtain ⟨hu15, gr15⟩ := hq
                  rw [hu15] at hP hD
                  refine a_ishlU F dX5_gatherHours_120 (fun v16 => ?_)
                  refine a_iorU F dX5_gatherHours_121 (fun v17 => ?_)
                  refine a_iast F hP hD hS 31 tc_31 rfl (i_in rfl (by omega)) dX5_gatherHours_122 (fun H locs hP hD hS => ?_)
                  have hR := hR.si (c := 31) (k := r5.toNatClampNeg) (v := v17) ⟨i_lo _, i_hi _⟩
                  have hF := hF.si (c := 31) (k := r5.toNatClampNeg) (v := v17) rfl
                  exact L123 x1 x2 x3 x4 _ _ _ _ hR hF (by omega) (by omega) hP hD hS (lv_sub hl [2, 3, 4, 5, 6] rfl)
  refine lv_aload_n F.1 F.2.1 dX5_gatherHours_0 rfl (lv_at hl 0 rfl) ?_
  refine a_getr F inX5 hP 29 3 tc_29 rfl rfl (by decide) q309 (fun _ h9 => h9) dX5_gatherHours_1 ?_
  refine a_ic F (0 : Int32) dX5_gatherHours_4 (by decide) ?_
  refine a_Sv F hml hl.1 hA hP hD hS (As := [.ref (ad 31), .int (0 : Int32)]) (c_J7_fill_53178_31 l dC dI ad cA nF _ (0 : Int32) hR (by decide)) (cs_RX5_62 (d := 1) F.2.2.1 (by decide)) rfl rfl (Nat.le_of_ble_eq_true rfl) dX5_gatherHours_5 ⟨Nat.le_refl 0, Nat.le_refl 0⟩ (fun u H locs hq hP hD hS => ?_)
  obtain ⟨hR, hF18⟩ := hq
  have hF := hF.tr hF18 (by decide)
  refine a_ic F (0 : Int32) dX5_gatherHours_8 (by decide) ?_
  refine lv_istore (lv' := [(4, .int (0 : Int32)), (0, .ref (ad 29)), (1, .int p0), (2, .int p1), (3, .int p2)]) F.1 F.2.1 dX5_gatherHours_9 hl (by decide) rfl (fun ls hl => ?_)
  exact L11 82 p0 p1 p2 (0 : Int32) _ _ _ _ (by decide) hR hF (by decide) hP hD hS (lv_sub hl [1, 2, 3, 4, 0] rfl)
set_option maxHeartbeats 4000000 in
set_option maxRecDepth 100000 in
theorem c_X5_isFitting_29 (l : Launch) (dC : Nat → ClassId) (dI : Nat → Nat → Nat) (ad : Nat → Nat) (cA : Nat → ClassId) (nF : Nat) (u0 : ac_U) (p0 : Int32) (p1 : Int32) (hR : ac_R rg u0) : ac_Mi l yX5_isFitting (.code yX5_isFitting cX5_isFitting 6 (some .boolean) :: TB) 2 (dC, dI) vwCl (ac_ty cA) ad cA (TT nF) [.ref (ad 29), .int p0, .int p1] u0 (fun (r : Int32) (u : ac_U) => u = u0 ∧ ((0 : Int) ≤ r.toInt ∧ r.toInt ≤ 1)) := by
  refine ac_Mi.of (cc := cX5_isFitting) (maxL := 6) (ret := (some .boolean)) (by decide) rfl (Nat.le_of_ble_eq_true rfl) ?_
  intro p e s m below meth c A ls F hml hr hlocks hA hP hD hS hl
  have F : ac_X p s m [.ref (ad 29), .int p0, .int p1].toArray c cX5_isFitting RX5 TB (dC, dI) vwCl (ac_ty cA) := ⟨F.1, F.2.1, fun w h => F.2.2.1 w (List.mem_cons_of_mem _ h), F.2.2.2.1, F.2.2.2.2⟩
  have hl : lv_has ls 6 [(0, .ref (ad 29)), (1, .int p0), (2, .int p1)] := hl
  have L36 : ∀ (n36 : Nat) (x3 : Int32) (x4 : Int32) (x5 : Int32) (H : Heap) (locs : List Loc) (ls : Array Slot), 20 - x5.toInt < (n36 : Int) → (-536870912 : Int) ≤ x4.toInt ∧ x4.toInt ≤ 20 → (0 : Int) ≤ x5.toInt ∧ x5.toInt ≤ 20 → va_P (dC, dI) vwCl (ac_w ad cA (TT nF) u0) H → va_D A (ac_w ad cA (TT nF) u0) → va_S A s.heap H locs → lv_has ls 6 [(0, .ref (ad 29)), (3, .int x3), (4, .int x4), (5, .int x5)] → W p l e (ac_rm 2) s m [.ref (ad 29), .int p0, .int p1].toArray below meth c H locs 0 0 (MQ below (va_Qi (fun (r : Int32) (u : ac_U) => u = u0 ∧ ((0 : Int) ≤ r.toInt ∧ r.toInt ≤ 1)) (ac_B (dC, dI) vwCl (ac_ty cA) ad cA (TT nF) A) A) [.ref (ad 29), .int p0, .int p1].toArray s 0 0 A) (F0 m 36 ls []) := by
    intro n36
    induction n36 with
    | zero => intro x3 x4 x5 H locs ls hn36 f0 f1 hP hD hS hl; exfalso; omega
    | succ n36 ih36 =>
      intro x3 x4 x5 H locs ls hn36 f0 f1 hP hD hS hl
      refine lv_iload F.1 F.2.1 dX5_isFitting_36 (lv_at hl 3 rfl) ?_
      refine lv_iload F.1 F.2.1 dX5_isFitting_38 (lv_at hl 2 rfl) ?_
      refine b_ge F 63 dX5_isFitting_40 (by decide) rfl rfl (fun c1 => ?_) (fun c1 => ?_)
      · refine a_ic F (1 : Int32) dX5_isFitting_63 (by decide) ?_
        exact a_retz F hr hlocks hP hD hS dX5_isFitting_64 (Or.inr rfl) ⟨rfl, (by decide)⟩
      · refine lv_aload_n F.1 F.2.1 dX5_isFitting_43 rfl (lv_at hl 0 rfl) ?_
        refine a_getr F inX5 hP 29 3 tc_29 rfl rfl (by decide) q309 (fun _ h9 => h9) dX5_isFitting_44 ?_
        refine lv_iload F.1 F.2.1 dX5_isFitting_47 (lv_at hl 3 rfl) ?_
        refine a_iald F hP 31 tc_31 rfl (i_in rfl (by omega)) dX5_isFitting_49 (fun v2 ev2 => ?_)
        refine lv_iload_n F.1 F.2.1 dX5_isFitting_50 rfl (lv_at hl 1 rfl) ?_
        refine a_iandU F dX5_isFitting_51 (fun v3 => ?_)
        refine z_ne F 57 dX5_isFitting_52 (by decide) rfl (fun c4 => ?_) (fun c4 => ?_)
        · refine a_iinc F (k := 3) (fun v5 => [(5, .int v5), (0, .ref (ad 29)), (3, .int x3), (4, .int x4)]) dX5_isFitting_57 hl rfl rfl (by decide) (by omega) (by decide) (fun _ => rfl) (fun v5 ls hv5 hl => ?_)
          refine lv_goto (tgt := 36) F.1 F.2.1 dX5_isFitting_60 (by decide) ?_
          exact ih36 x3 x4 v5 _ _ _ (by omega) (by omega) (by omega) hP hD hS (lv_sub hl [1, 2, 3, 0] rfl)
        · refine a_ic F (0 : Int32) dX5_isFitting_55 (by decide) ?_
          exact a_retz F hr hlocks hP hD hS dX5_isFitting_56 (Or.inl rfl) ⟨rfl, (by decide)⟩
  refine a_ic F (1 : Int32) dX5_isFitting_0 (by decide) ?_
  refine lv_iload_n F.1 F.2.1 dX5_isFitting_1 rfl (lv_at hl 2 rfl) ?_
  refine a_ic F (1 : Int32) dX5_isFitting_2 (by decide) ?_
  refine a_iaddU F dX5_isFitting_3 (fun v6 => ?_)
  refine a_ishlU F dX5_isFitting_4 (fun v7 => ?_)
  refine a_ic F (1 : Int32) dX5_isFitting_5 (by decide) ?_
  refine lv_iload_n F.1 F.2.1 dX5_isFitting_6 rfl (lv_at hl 1 rfl) ?_
  refine a_ishlU F dX5_isFitting_7 (fun v8 => ?_)
  refine a_isubU F dX5_isFitting_8 (fun v9 => ?_)
  refine lv_istore_n (lv' := [(3, .int v9), (0, .ref (ad 29)), (1, .int p0), (2, .int p1)]) F.1 F.2.1 dX5_isFitting_9 rfl hl (by decide) rfl (fun ls hl => ?_)
  refine a_bp F (20 : Int32) dX5_isFitting_10 (by decide) ?_
  refine lv_aload_n F.1 F.2.1 dX5_isFitting_12 rfl (lv_at hl 1 rfl) ?_
  refine a_getr F inX5 hP 29 0 tc_29 rfl rfl (by decide) q306 (fun _ h9 => h9) dX5_isFitting_13 ?_
  refine lv_aload_n F.1 F.2.1 dX5_isFitting_16 rfl (lv_at hl 1 rfl) ?_
  refine a_getr F inX5 hP 29 1 tc_29 rfl rfl (by decide) q307 (fun _ h9 => h9) dX5_isFitting_17 ?_
  refine a_getr F inX6 hP 24 1 tc_24 rfl rfl (by decide) q274 (fun _ h9 => h9) dX5_isFitting_20 ?_
  refine a_ic F (0 : Int32) dX5_isFitting_23 (by decide) ?_
  refine a_iald F hP 25 tc_25 rfl (i_in ic_0 (by omega)) dX5_isFitting_24 (fun v10 ev10 => ?_)
  have hv10 : (0 : Int) ≤ v10.toInt ∧ v10.toInt ≤ 480 := ev10 ▸ hR 25 _
  refine a_Vi F hml hl.1 hA hP hD hS (As := [.int v10]) (c_X2_dayOf_4 l dC dI ad cA nF _ v10 hR) (cs_RX5_55 (d := 1) F.2.2.1 (by decide)) tc_4 rfl rfl rfl rfl (Nat.le_of_ble_eq_true rfl) dX5_isFitting_25 ⟨Nat.le_refl 0, Nat.le_refl 0⟩ (fun r11 uN11 H locs hq hP hD hS => ?_)
  obtain ⟨hu11, gr11⟩ := hq
  rw [hu11] at hP hD
  refine va_mmin F.1 F.2.1 (hml.trans hl.1.symm) F.2.2.2.1 (F.2.2.1 _ q824) (F.2.2.1 _ q825) (F.2.2.1 _ q24) (F.2.2.1 _ q826) (by decide) (by decide) (Nat.le_refl 0) (Nat.le_refl 0) dX5_isFitting_28 ?_
  refine lv_topi (fun v12 ev12 => ?_)
  have hv12 := i_min ic_20 rfl ev12
  refine lv_istore (lv' := [(4, .int v12), (3, .int v9), (0, .ref (ad 29)), (1, .int p0), (2, .int p1)]) F.1 F.2.1 dX5_isFitting_31 hl (by decide) rfl (fun ls hl => ?_)
  refine a_ic F (0 : Int32) dX5_isFitting_33 (by decide) ?_
  refine lv_istore (lv' := [(5, .int (0 : Int32)), (4, .int v12), (3, .int v9), (0, .ref (ad 29)), (1, .int p0), (2, .int p1)]) F.1 F.2.1 dX5_isFitting_34 hl (by decide) rfl (fun ls hl => ?_)
  exact L36 22 v9 v12 (0 : Int32) _ _ _ (by decide) (by omega) (by decide) hP hD hS (lv_sub hl [3, 2, 1, 0] rfl)
set_option maxHeartbeats 4000000 in
set_option maxRecDepth 100000 in
theorem c_X5_fittingWindows_29 (l : Launch) (dC : Nat → ClassId) (dI : Nat → Nat → Nat) (ad : Nat → Nat) (cA : Nat → ClassId) (nF : Nat) (u0 : ac_U) (p0 : Int32) (p1 : Int32) (p2 : Int32) (hR : ac_R rg u0) : ac_Mi l yX5_fittingWindows (.code yX5_fittingWindows cX5_fittingWindows 7 (some .int) :: TB) 3 (dC, dI) vwCl (ac_ty cA) ad cA (TT nF) [.ref (ad 29), .int p0, .int p1, .int p2] u0 (fun (r : Int32) (u : ac_U) => ac_R rg u ∧ ac_Fr [(31, none)] u0 u) := by
  refine ac_Mi.of (cc := cX5_fittingWindows) (maxL := 7) (ret := (some .int)) (by decide) rfl (Nat.le_of_ble_eq_true rfl) ?_
  intro p e s m below meth c A ls F hml hr hlocks hA hP hD hS hl
  have F : ac_X p s m [.ref (ad 29), .int p0, .int p1, .int p2].toArray c cX5_fittingWindows RX5 TB (dC, dI) vwCl (ac_ty cA) := ⟨F.1, F.2.1, fun w h => F.2.2.1 w (List.mem_cons_of_mem _ h), F.2.2.2.1, F.2.2.2.2⟩
  have hl : lv_has ls 7 [(0, .ref (ad 29)), (1, .int p0), (2, .int p1), (3, .int p2)] := hl
  have hF : ac_Fr [(31, none)] u0 u0 := ac_Fr.rf
  have L13 : ∀ (n13 : Nat) (x4 : Int32) (x5 : Int32) (u : ac_U) (H : Heap) (locs : List Loc) (ls : Array Slot), 24 - x5.toInt < (n13 : Int) → ac_R rg u → ac_Fr [(31, none)] u0 u → (0 : Int) ≤ x5.toInt ∧ x5.toInt ≤ 24 → va_P (dC, dI) vwCl (ac_w ad cA (TT nF) u) H → va_D A (ac_w ad cA (TT nF) u) → va_S A s.heap H locs → lv_has ls 7 [(0, .ref (ad 29)), (4, .int x4), (5, .int x5)] → W p l e (ac_rm 3) s m [.ref (ad 29), .int p0, .int p1, .int p2].toArray below meth c H locs 0 0 (MQ below (va_Qi (fun (r : Int32) (u : ac_U) => ac_R rg u ∧ ac_Fr [(31, none)] u0 u) (ac_B (dC, dI) vwCl (ac_ty cA) ad cA (TT nF) A) A) [.ref (ad 29), .int p0, .int p1, .int p2].toArray s 0 0 A) (F0 m 13 ls []) := by
    intro n13
    induction n13 with
    | zero => intro x4 x5 u H locs ls hn13 hR hF f0 hP hD hS hl; exfalso; omega
    | succ n13 ih13 =>
      intro x4 x5 u H locs ls hn13 hR hF f0 hP hD hS hl
      have L29 : ∀ (n29 : Nat) (x4 : Int32) (x5 : Int32) (x6 : Int32) (u : ac_U) (H : Heap) (locs : List Loc) (ls : Array Slot), 24 - x6.toInt < (n29 : Int) → ac_R rg u → ac_Fr [(31, none)] u0 u → (0 : Int) ≤ x5.toInt ∧ x5.toInt ≤ 23 → (0 : Int) ≤ x6.toInt ∧ x6.toInt ≤ 24 → 24 - x5.toInt + 0 < ((n13 : Nat) : Int) + 1 → va_P (dC, dI) vwCl (ac_w ad cA (TT nF) u) H → va_D A (ac_w ad cA (TT nF) u) → va_S A s.heap H locs → lv_has ls 7 [(0, .ref (ad 29)), (4, .int x4), (5, .int x5), (6, .int x6)] → W p l e (ac_rm 3) s m [.ref (ad 29), .int p0, .int p1, .int p2].toArray below meth c H locs 0 0 (MQ below (va_Qi (fun (r : Int32) (u : ac_U) => ac_R rg u ∧ ac_Fr [(31, none)] u0 u) (ac_B (dC, dI) vwCl (ac_ty cA) ad cA (TT nF) A) A) [.ref (ad 29), .int p0, .int p1, .int p2].toArray s 0 0 A) (F0 m 29 ls []) := by
        intro n29
        induction n29 with
        | zero => intro x4 x5 x6 u H locs ls hn29 hR hF f0 f1 f2 hP hD hS hl; exfalso; omega
        | succ n29 ih29 =>
          intro x4 x5 x6 u H locs ls hn29 hR hF f0 f1 f2 hP hD hS hl
          have L59 : ∀ (x5 : Int32) (x6 : Int32) (z0 : Int32) (z1 : Int32) (u : ac_U) (H : Heap) (locs : List Loc) (ls : Array Slot), ac_R rg u → ac_Fr [(31, none)] u0 u → (0 : Int) ≤ x5.toInt ∧ x5.toInt ≤ 23 → (0 : Int) ≤ x6.toInt ∧ x6.toInt ≤ 23 → (0 : Int) ≤ z1.toInt ∧ z1.toInt ≤ 1 → 24 - x5.toInt + 0 < ((n13 : Nat) : Int) + 1 → 24 - x6.toInt + 0 < ((n29 : Nat) : Int) + 1 → va_P (dC, dI) vwCl (ac_w ad cA (TT nF) u) H → va_D A (ac_w ad cA (TT nF) u) → va_S A s.heap H locs → lv_has ls 7 [(0, .ref (ad 29)), (5, .int x5), (6, .int x6)] → W p l e (ac_rm 3) s m [.ref (ad 29), .int p0, .int p1, .int p2].toArray below meth c H locs 0 0 (MQ below (va_Qi (fun (r : Int32) (u : ac_U) => ac_R rg u ∧ ac_Fr [(31, none)] u0 u) (ac_B (dC, dI) vwCl (ac_ty cA) ad cA (TT nF) A) A) [.ref (ad 29), .int p0, .int p1, .int p2].toArray s 0 0 A) (F0 m 59 ls [.int z1, .int z0]) := by
            intro x5 x6 z0 z1 u H locs ls hR hF f0 f1 f2 f3 f4 hP hD hS hl
            refine a_iaddU F dX5_fittingWindows_59 (fun v1 => ?_)
            refine lv_istore (lv' := [(4, .int v1), (0, .ref (ad 29)), (5, .int x5), (6, .int x6)]) F.1 F.2.1 dX5_fittingWindows_60 hl (by decide) rfl (fun ls hl => ?_)
            refine a_iinc F (k := 3) (fun v2 => [(6, .int v2), (4, .int v1), (0, .ref (ad 29)), (5, .int x5)]) dX5_fittingWindows_62 hl rfl rfl (by decide) (by omega) (by decide) (fun _ => rfl) (fun v2 ls hv2 hl => ?_)
            refine lv_goto (tgt := 29) F.1 F.2.1 dX5_fittingWindows_65 (by decide) ?_
            exact ih29 v1 x5 v2 _ _ _ _ (by omega) hR hF (by omega) (by omega) (by omega) hP hD hS (lv_sub hl [2, 1, 3, 0] rfl)
          refine lv_iload F.1 F.2.1 dX5_fittingWindows_29 (lv_at hl 3 rfl) ?_
          refine lv_aload_n F.1 F.2.1 dX5_fittingWindows_31 rfl (lv_at hl 0 rfl) ?_
          refine a_getr F inX5 hP 29 0 tc_29 rfl rfl (by decide) q306 (fun _ h9 => h9) dX5_fittingWindows_32 ?_
          have g3 : (4 : Int) ≤ (u.1 4 0).toInt ∧ (u.1 4 0).toInt ≤ 24 := hR 4 0
          refine a_geti F inX2 hP 4 0 tc_4 rfl rfl (by decide) q152 (fun _ h9 => h9) (v := (u.1 4 0)) rfl dX5_fittingWindows_35 ?_
          refine b_ge F 68 dX5_fittingWindows_38 (by decide) rfl rfl (fun c4 => ?_) (fun c4 => ?_)
          · refine a_iinc F (k := 2) (fun v5 => [(5, .int v5), (0, .ref (ad 29)), (4, .int x4), (6, .int x6)]) dX5_fittingWindows_68 hl rfl rfl (by decide) (by omega) (by decide) (fun _ => rfl) (fun v5 ls hv5 hl => ?_)
            refine lv_goto (tgt := 13) F.1 F.2.1 dX5_fittingWindows_71 (by decide) ?_
            exact ih13 x4 v5 _ _ _ _ (by omega) hR hF (by omega) hP hD hS (lv_sub hl [1, 2, 0] rfl)
          · refine lv_iload F.1 F.2.1 dX5_fittingWindows_41 (lv_at hl 1 rfl) ?_
            refine lv_aload_n F.1 F.2.1 dX5_fittingWindows_43 rfl (lv_at hl 0 rfl) ?_
            refine lv_iload F.1 F.2.1 dX5_fittingWindows_44 (lv_at hl 2 rfl) ?_
            refine lv_iload F.1 F.2.1 dX5_fittingWindows_46 (lv_at hl 3 rfl) ?_
            refine a_Vi F hml hl.1 hA hP hD hS (As := [.int x5, .int x6]) (c_X5_isFitting_29 l dC dI ad cA nF _ x5 x6 hR) (cs_RX5_119 (d := 2) F.2.2.1 (by decide)) tc_29 rfl rfl rfl rfl (Nat.le_of_ble_eq_true rfl) dX5_fittingWindows_48 ⟨Nat.le_refl 0, Nat.le_refl 0⟩ (fun r6 uN6 H locs hq hP hD hS => ?_)
            obtain ⟨hu6, gr6⟩ := hq
            rw [hu6] at hP hD
            refine z_eq F 58 dX5_fittingWindows_51 (by decide) rfl (fun c7 => ?_) (fun c7 => ?_)
            · refine a_ic F (0 : Int32) dX5_fittingWindows_58 (by decide) ?_
              exact L59 x5 x6 x4 (0 : Int32) _ _ _ _ hR hF (by omega) (by omega) (by decide) (by omega) (by omega) hP hD hS (lv_sub hl [0, 2, 3] rfl)
            · refine a_ic F (1 : Int32) dX5_fittingWindows_54 (by decide) ?_
              refine lv_goto (tgt := 59) F.1 F.2.1 dX5_fittingWindows_55 (by decide) ?_
              exact L59 x5 x6 x4 (1 : Int32) _ _ _ _ hR hF (by omega) (by omega) (by decide) (by omega) (by omega) hP hD hS (lv_sub hl [0, 2, 3] rfl)
      refine lv_iload F.1 F.2.1 dX5_fittingWindows_13 (lv_at hl 2 rfl) ?_
      refine lv_aload_n F.1 F.2.1 dX5_fittingWindows_15 rfl (lv_at hl 0 rfl) ?_
      refine a_getr F inX5 hP 29 0 tc_29 rfl rfl (by decide) q306 (fun _ h9 => h9) dX5_fittingWindows_16 ?_
      have g8 : (4 : Int) ≤ (u.1 4 0).toInt ∧ (u.1 4 0).toInt ≤ 24 := hR 4 0
      refine a_geti F inX2 hP 4 0 tc_4 rfl rfl (by decide) q152 (fun _ h9 => h9) (v := (u.1 4 0)) rfl dX5_fittingWindows_19 ?_
      refine b_ge F 74 dX5_fittingWindows_22 (by decide) rfl rfl (fun c9 => ?_) (fun c9 => ?_)
      · refine lv_iload F.1 F.2.1 dX5_fittingWindows_74 (lv_at hl 1 rfl) ?_
        exact a_reti F hr hlocks hP hD hS dX5_fittingWindows_76 ⟨hR, hF⟩
      · refine lv_iload F.1 F.2.1 dX5_fittingWindows_25 (lv_at hl 2 rfl) ?_
        refine lv_istore (lv' := [(6, .int x5), (0, .ref (ad 29)), (4, .int x4), (5, .int x5)]) F.1 F.2.1 dX5_fittingWindows_27 hl (by decide) rfl (fun ls hl => ?_)
        exact L29 26 x4 x5 x5 _ _ _ _ (by omega) hR hF (by omega) (by omega) (by omega) hP hD hS (lv_sub hl [1, 2, 3, 0] rfl)
  refine lv_aload_n F.1 F.2.1 dX5_fittingWindows_0 rfl (lv_at hl 0 rfl) ?_
  refine lv_iload_n F.1 F.2.1 dX5_fittingWindows_1 rfl (lv_at hl 1 rfl) ?_
  refine lv_iload_n F.1 F.2.1 dX5_fittingWindows_2 rfl (lv_at hl 2 rfl) ?_
  refine lv_iload_n F.1 F.2.1 dX5_fittingWindows_3 rfl (lv_at hl 3 rfl) ?_
  refine a_Vv F hml hl.1 hA hP hD hS (As := [.int p0, .int p1, .int p2]) (c_X5_gatherHours_29 l dC dI ad cA nF _ p0 p1 p2 hR) (cs_RX5_116 (d := 2) F.2.2.1 (by decide)) tc_29 rfl rfl rfl rfl (Nat.le_of_ble_eq_true rfl) dX5_fittingWindows_4 ⟨Nat.le_refl 0, Nat.le_refl 0⟩ (fun u H locs hq hP hD hS => ?_)
  obtain ⟨hR, hF10⟩ := hq
  have hF := hF.tr hF10 (by decide)
  refine a_ic F (0 : Int32) dX5_fittingWindows_7 (by decide) ?_
  refine lv_istore (lv' := [(4, .int (0 : Int32)), (0, .ref (ad 29)), (1, .int p0), (2, .int p1), (3, .int p2)]) F.1 F.2.1 dX5_fittingWindows_8 hl (by decide) rfl (fun ls hl => ?_)
  refine a_ic F (0 : Int32) dX5_fittingWindows_10 (by decide) ?_
  refine lv_istore (lv' := [(5, .int (0 : Int32)), (4, .int (0 : Int32)), (0, .ref (ad 29)), (1, .int p0), (2, .int p1), (3, .int p2)]) F.1 F.2.1 dX5_fittingWindows_11 hl (by decide) rfl (fun ls hl => ?_)
  exact L13 26 (0 : Int32) (0 : Int32) _ _ _ _ (by decide) hR hF (by decide) hP hD hS (lv_sub hl [2, 1, 0] rfl)
set_option maxHeartbeats 4000000 in
set_option maxRecDepth 100000 in
theorem c_X7_afterDeed (l : Launch) (dC : Nat → ClassId) (dI : Nat → Nat → Nat) (ad : Nat → Nat) (cA : Nat → ClassId) (nF : Nat) (u0 : ac_U) (p0 : Int32) (p1 : Int32) (hR : ac_R rg u0) : ac_Mi l yX7_afterDeed (.code yX7_afterDeed cX7_afterDeed 2 (some .int) :: TB) 1 (dC, dI) vwCl (ac_ty cA) ad cA (TT nF) [.int p0, .int p1] u0 (fun (r : Int32) (u : ac_U) => u = u0) := by
  refine ac_Mi.of (cc := cX7_afterDeed) (maxL := 2) (ret := (some .int)) (by decide) rfl (Nat.le_of_ble_eq_true rfl) ?_
  intro p e s m below meth c A ls F hml hr hlocks hA hP hD hS hl
  have F : ac_X p s m [.int p0, .int p1].toArray c cX7_afterDeed RX7 TB (dC, dI) vwCl (ac_ty cA) := ⟨F.1, F.2.1, fun w h => F.2.2.1 w (List.mem_cons_of_mem _ h), F.2.2.2.1, F.2.2.2.2⟩
  have hl : lv_has ls 2 [(0, .int p0), (1, .int p1)] := hl
  refine lv_iload_n F.1 F.2.1 dX7_afterDeed_0 rfl (lv_at hl 0 rfl) ?_
  refine lv_iload_n F.1 F.2.1 dX7_afterDeed_1 rfl (lv_at hl 0 rfl) ?_
  refine lv_iload_n F.1 F.2.1 dX7_afterDeed_2 rfl (lv_at hl 0 rfl) ?_
  refine a_ic F (1 : Int32) dX7_afterDeed_3 (by decide) ?_
  refine a_ishrU F dX7_afterDeed_4 (fun v1 => ?_)
  refine a_iorU F dX7_afterDeed_5 (fun v2 => ?_)
  refine lv_iload_n F.1 F.2.1 dX7_afterDeed_6 rfl (lv_at hl 1 rfl) ?_
  refine a_iandU F dX7_afterDeed_7 (fun v3 => ?_)
  refine a_isubU F dX7_afterDeed_8 (fun v4 => ?_)
  exact a_reti F hr hlocks hP hD hS dX7_afterDeed_9 rfl
set_option maxHeartbeats 4000000 in
set_option maxRecDepth 100000 in
theorem c_X7_cell (l : Launch) (dC : Nat → ClassId) (dI : Nat → Nat → Nat) (ad : Nat → Nat) (cA : Nat → ClassId) (nF : Nat) (u0 : ac_U) (p0 : Int32) (p1 : Int32) (p2 : Int32) (hR : ac_R rg u0) (hp0 : (0 : Int) ≤ p0.toInt ∧ p0.toInt ≤ 24) (hp1 : (0 : Int) ≤ p1.toInt ∧ p1.toInt ≤ 99) : ac_Mi l yX7_cell (.code yX7_cell cX7_cell 3 (some .int) :: TB) 1 (dC, dI) vwCl (ac_ty cA) ad cA (TT nF) [.int p0, .int p1, .int p2] u0 (fun (r : Int32) (u : ac_U) => u = u0) := by
  refine ac_Mi.of (cc := cX7_cell) (maxL := 3) (ret := (some .int)) (by decide) rfl (Nat.le_of_ble_eq_true rfl) ?_
  intro p e s m below meth c A ls F hml hr hlocks hA hP hD hS hl
  have F : ac_X p s m [.int p0, .int p1, .int p2].toArray c cX7_cell RX7 TB (dC, dI) vwCl (ac_ty cA) := ⟨F.1, F.2.1, fun w h => F.2.2.1 w (List.mem_cons_of_mem _ h), F.2.2.2.1, F.2.2.2.2⟩
  have hl : lv_has ls 3 [(0, .int p0), (1, .int p1), (2, .int p2)] := hl
  refine lv_iload_n F.1 F.2.1 dX7_cell_0 rfl (lv_at hl 0 rfl) ?_
  refine a_sp F (2048 : Int32) dX7_cell_1 (by decide) ?_
  refine a_imul F dX7_cell_4 rfl ic_2048 (by omega) (fun v1 hv1 => ?_)
  refine lv_iload_n F.1 F.2.1 dX7_cell_5 rfl (lv_at hl 1 rfl) ?_
  refine a_sp F (256 : Int32) dX7_cell_6 (by decide) ?_
  refine a_imul F dX7_cell_9 rfl ic_256 (by omega) (fun v2 hv2 => ?_)
  refine a_iadd F dX7_cell_10 rfl rfl (by omega) (fun v3 hv3 => ?_)
  refine lv_iload_n F.1 F.2.1 dX7_cell_11 rfl (lv_at hl 2 rfl) ?_
  refine a_iaddU F dX7_cell_12 (fun v4 => ?_)
  exact a_reti F hr hlocks hP hD hS dX7_cell_13 rfl
set_option maxHeartbeats 4000000 in
set_option maxRecDepth 100000 in
theorem c_X7_mustStay_32 (l : Launch) (dC : Nat → ClassId) (dI : Nat → Nat → Nat) (ad : Nat → Nat) (cA : Nat → ClassId) (nF : Nat) (u0 : ac_U) (p0 : Int32) (hR : ac_R rg u0) (hp0 : (0 : Int) ≤ p0.toInt ∧ p0.toInt ≤ 23) : ac_Mi l yX7_mustStay (.code yX7_mustStay cX7_mustStay 2 (some .boolean) :: TB) 2 (dC, dI) vwCl (ac_ty cA) ad cA (TT nF) [.ref (ad 32), .int p0] u0 (fun (r : Int32) (u : ac_U) => u = u0 ∧ ((0 : Int) ≤ r.toInt ∧ r.toInt ≤ 1)) := by
  refine ac_Mi.of (cc := cX7_mustStay) (maxL := 2) (ret := (some .boolean)) (by decide) rfl (Nat.le_of_ble_eq_true rfl) ?_
  intro p e s m below meth c A ls F hml hr hlocks hA hP hD hS hl
  have F : ac_X p s m [.ref (ad 32), .int p0].toArray c cX7_mustStay RX7 TB (dC, dI) vwCl (ac_ty cA) := ⟨F.1, F.2.1, fun w h => F.2.2.1 w (List.mem_cons_of_mem _ h), F.2.2.2.1, F.2.2.2.2⟩
  have hl : lv_has ls 2 [(0, .ref (ad 32)), (1, .int p0)] := hl
  have L27 : ∀ (z0 : Int32) (H : Heap) (locs : List Loc) (ls : Array Slot), (0 : Int) ≤ z0.toInt ∧ z0.toInt ≤ 1 → va_P (dC, dI) vwCl (ac_w ad cA (TT nF) u0) H → va_D A (ac_w ad cA (TT nF) u0) → va_S A s.heap H locs → lv_has ls 2 [] → W p l e (ac_rm 2) s m [.ref (ad 32), .int p0].toArray below meth c H locs 0 0 (MQ below (va_Qi (fun (r : Int32) (u : ac_U) => u = u0 ∧ ((0 : Int) ≤ r.toInt ∧ r.toInt ≤ 1)) (ac_B (dC, dI) vwCl (ac_ty cA) ad cA (TT nF) A) A) [.ref (ad 32), .int p0].toArray s 0 0 A) (F0 m 27 ls [.int z0]) := by
    intro z0 H locs ls f0 hP hD hS hl
    exact a_retz F hr hlocks hP hD hS dX7_mustStay_27 (i_01 (by omega)) ⟨rfl, (by omega : (0 : Int) ≤ z0.toInt ∧ z0.toInt ≤ 1)⟩
  have L26 : ∀ (H : Heap) (locs : List Loc) (ls : Array Slot), va_P (dC, dI) vwCl (ac_w ad cA (TT nF) u0) H → va_D A (ac_w ad cA (TT nF) u0) → va_S A s.heap H locs → lv_has ls 2 [] → W p l e (ac_rm 2) s m [.ref (ad 32), .int p0].toArray below meth c H locs 0 0 (MQ below (va_Qi (fun (r : Int32) (u : ac_U) => u = u0 ∧ ((0 : Int) ≤ r.toInt ∧ r.toInt ≤ 1)) (ac_B (dC, dI) vwCl (ac_ty cA) ad cA (TT nF) A) A) [.ref (ad 32), .int p0].toArray s 0 0 A) (F0 m 26 ls []) := by
    intro H locs ls hP hD hS hl
    refine a_ic F (0 : Int32) dX7_mustStay_26 (by decide) ?_
    exact L27 (0 : Int32) _ _ _ (by decide) hP hD hS (lv_sub hl [] rfl)
  refine lv_iload_n F.1 F.2.1 dX7_mustStay_0 rfl (lv_at hl 1 rfl) ?_
  refine lv_aload_n F.1 F.2.1 dX7_mustStay_1 rfl (lv_at hl 0 rfl) ?_
  have g1 : (0 : Int) ≤ (u0.1 32 11).toInt ∧ (u0.1 32 11).toInt ≤ 23 := hR 32 11
  refine a_geti F inX7 hP 32 11 tc_32 rfl rfl (by decide) q345 (fun _ h9 => h9) (v := (u0.1 32 11)) rfl dX7_mustStay_2 ?_
  refine b_ne F 26 dX7_mustStay_5 (by decide) rfl rfl (fun c2 => ?_) (fun c2 => ?_)
  · exact L26 _ _ _  hP hD hS (lv_sub hl [] rfl)
  · refine lv_aload_n F.1 F.2.1 dX7_mustStay_8 rfl (lv_at hl 0 rfl) ?_
    refine a_getr F inX7 hP 32 1 tc_32 rfl rfl (by decide) q335 (fun _ h9 => h9) dX7_mustStay_9 ?_
    refine lv_aload_n F.1 F.2.1 dX7_mustStay_12 rfl (lv_at hl 0 rfl) ?_
    have g3 : (0 : Int) ≤ (u0.1 32 10).toInt ∧ (u0.1 32 10).toInt ≤ 3 := hR 32 10
    refine a_geti F inX7 hP 32 10 tc_32 rfl rfl (by decide) q344 (fun _ h9 => h9) (v := (u0.1 32 10)) rfl dX7_mustStay_13 ?_
    refine a_Vi F hml hl.1 hA hP hD hS (As := [.int (u0.1 32 10)]) (c_X6_isBusy_24 l dC dI ad cA nF _ (u0.1 32 10) hR) (cs_RX7_123 (d := 1) F.2.2.1 (by decide)) tc_24 rfl rfl rfl rfl (Nat.le_of_ble_eq_true rfl) dX7_mustStay_16 ⟨Nat.le_refl 0, Nat.le_refl 0⟩ (fun r4 uN4 H locs hq hP hD hS => ?_)
    obtain ⟨hu4, gr4⟩ := hq
    rw [hu4] at hP hD
    refine z_eq F 26 dX7_mustStay_19 (by decide) rfl (fun c5 => ?_) (fun c5 => ?_)
    · exact L26 _ _ _  hP hD hS (lv_sub hl [] rfl)
    · refine a_ic F (1 : Int32) dX7_mustStay_22 (by decide) ?_
      refine lv_goto (tgt := 27) F.1 F.2.1 dX7_mustStay_23 (by decide) ?_
      exact L27 (1 : Int32) _ _ _ (by decide) hP hD hS (lv_sub hl [] rfl)
set_option maxHeartbeats 4000000 in
set_option maxRecDepth 100000 in
theorem c_X7_isWithin (l : Launch) (dC : Nat → ClassId) (dI : Nat → Nat → Nat) (ad : Nat → Nat) (cA : Nat → ClassId) (nF : Nat) (u0 : ac_U) (p0 : Int32) (p1 : Int32) (hR : ac_R rg u0) : ac_Mi l yX7_isWithin (.code yX7_isWithin cX7_isWithin 3 (some .boolean) :: TB) 1 (dC, dI) vwCl (ac_ty cA) ad cA (TT nF) [.int p0, .int p1] u0 (fun (r : Int32) (u : ac_U) => u = u0 ∧ ((0 : Int) ≤ r.toInt ∧ r.toInt ≤ 1)) := by
  refine ac_Mi.of (cc := cX7_isWithin) (maxL := 3) (ret := (some .boolean)) (by decide) rfl (Nat.le_of_ble_eq_true rfl) ?_
  intro p e s m below meth c A ls F hml hr hlocks hA hP hD hS hl
  have F : ac_X p s m [.int p0, .int p1].toArray c cX7_isWithin RX7 TB (dC, dI) vwCl (ac_ty cA) := ⟨F.1, F.2.1, fun w h => F.2.2.1 w (List.mem_cons_of_mem _ h), F.2.2.2.1, F.2.2.2.2⟩
  have hl : lv_has ls 3 [(0, .int p0), (1, .int p1)] := hl
  have L2 : ∀ (n2 : Nat) (x0 : Int32) (x1 : Int32) (x2 : Int32) (H : Heap) (locs : List Loc) (ls : Array Slot), 9 - x2.toInt < (n2 : Int) → (0 : Int) ≤ x2.toInt ∧ x2.toInt ≤ 9 → va_P (dC, dI) vwCl (ac_w ad cA (TT nF) u0) H → va_D A (ac_w ad cA (TT nF) u0) → va_S A s.heap H locs → lv_has ls 3 [(0, .int x0), (1, .int x1), (2, .int x2)] → W p l e (ac_rm 1) s m [.int p0, .int p1].toArray below meth c H locs 0 0 (MQ below (va_Qi (fun (r : Int32) (u : ac_U) => u = u0 ∧ ((0 : Int) ≤ r.toInt ∧ r.toInt ≤ 1)) (ac_B (dC, dI) vwCl (ac_ty cA) ad cA (TT nF) A) A) [.int p0, .int p1].toArray s 0 0 A) (F0 m 2 ls []) := by
    intro n2
    induction n2 with
    | zero => intro x0 x1 x2 H locs ls hn2 f0 hP hD hS hl; exfalso; omega
    | succ n2 ih2 =>
      intro x0 x1 x2 H locs ls hn2 f0 hP hD hS hl
      refine lv_iload_n F.1 F.2.1 dX7_isWithin_2 rfl (lv_at hl 2 rfl) ?_
      refine a_bp F (8 : Int32) dX7_isWithin_3 (by decide) ?_
      refine b_ge F 29 dX7_isWithin_5 (by decide) rfl ic_8 (fun c1 => ?_) (fun c1 => ?_)
      · refine a_ic F (1 : Int32) dX7_isWithin_29 (by decide) ?_
        exact a_retz F hr hlocks hP hD hS dX7_isWithin_30 (Or.inr rfl) ⟨rfl, (by decide)⟩
      · refine lv_iload_n F.1 F.2.1 dX7_isWithin_8 rfl (lv_at hl 0 rfl) ?_
        refine lv_iload_n F.1 F.2.1 dX7_isWithin_9 rfl (lv_at hl 2 rfl) ?_
        refine a_ishrU F dX7_isWithin_10 (fun v2 => ?_)
        refine a_ic F (3 : Int32) dX7_isWithin_11 (by decide) ?_
        refine a_iandM F dX7_isWithin_12 ic_3 (by omega) (fun v3 hv3 => ?_)
        refine lv_iload_n F.1 F.2.1 dX7_isWithin_13 rfl (lv_at hl 1 rfl) ?_
        refine lv_iload_n F.1 F.2.1 dX7_isWithin_14 rfl (lv_at hl 2 rfl) ?_
        refine a_ishrU F dX7_isWithin_15 (fun v4 => ?_)
        refine a_ic F (3 : Int32) dX7_isWithin_16 (by decide) ?_
        refine a_iandM F dX7_isWithin_17 ic_3 (by omega) (fun v5 hv5 => ?_)
        refine b_le F 23 dX7_isWithin_18 (by decide) rfl rfl (fun c6 => ?_) (fun c6 => ?_)
        · refine a_iinc F (k := 2) (fun v7 => [(2, .int v7), (0, .int x0), (1, .int x1)]) dX7_isWithin_23 hl rfl rfl (by decide) (by omega) (by decide) (fun _ => rfl) (fun v7 ls hv7 hl => ?_)
          refine lv_goto (tgt := 2) F.1 F.2.1 dX7_isWithin_26 (by decide) ?_
          exact ih2 x0 x1 v7 _ _ _ (by omega) (by omega) hP hD hS (lv_sub hl [1, 2, 0] rfl)
        · refine a_ic F (0 : Int32) dX7_isWithin_21 (by decide) ?_
          exact a_retz F hr hlocks hP hD hS dX7_isWithin_22 (Or.inl rfl) ⟨rfl, (by decide)⟩
  refine a_ic F (0 : Int32) dX7_isWithin_0 (by decide) ?_
  refine lv_istore_n (lv' := [(2, .int (0 : Int32)), (0, .int p0), (1, .int p1)]) F.1 F.2.1 dX7_isWithin_1 rfl hl (by decide) rfl (fun ls hl => ?_)
  exact L2 11 p0 p1 (0 : Int32) _ _ _ (by decide) (by decide) hP hD hS (lv_sub hl [1, 2, 0] rfl)
set_option maxHeartbeats 4000000 in
set_option maxRecDepth 100000 in
theorem c_X7_promiseBits_32 (l : Launch) (dC : Nat → ClassId) (dI : Nat → Nat → Nat) (ad : Nat → Nat) (cA : Nat → ClassId) (nF : Nat) (u0 : ac_U) (p0 : Int32) (hR : ac_R rg u0) : ac_Mi l yX7_promiseBits (.code yX7_promiseBits cX7_promiseBits 4 (some .int) :: TB) 1 (dC, dI) vwCl (ac_ty cA) ad cA (TT nF) [.ref (ad 32), .int p0] u0 (fun (r : Int32) (u : ac_U) => u = u0) := by
  refine ac_Mi.of (cc := cX7_promiseBits) (maxL := 4) (ret := (some .int)) (by decide) rfl (Nat.le_of_ble_eq_true rfl) ?_
  intro p e s m below meth c A ls F hml hr hlocks hA hP hD hS hl
  have F : ac_X p s m [.ref (ad 32), .int p0].toArray c cX7_promiseBits RX7 TB (dC, dI) vwCl (ac_ty cA) := ⟨F.1, F.2.1, fun w h => F.2.2.1 w (List.mem_cons_of_mem _ h), F.2.2.2.1, F.2.2.2.2⟩
  have hl : lv_has ls 4 [(0, .ref (ad 32)), (1, .int p0)] := hl
  have L4 : ∀ (n4 : Nat) (x1 : Int32) (x2 : Int32) (x3 : Int32) (H : Heap) (locs : List Loc) (ls : Array Slot), 4 - x3.toInt < (n4 : Int) → (0 : Int) ≤ x3.toInt ∧ x3.toInt ≤ 4 → va_P (dC, dI) vwCl (ac_w ad cA (TT nF) u0) H → va_D A (ac_w ad cA (TT nF) u0) → va_S A s.heap H locs → lv_has ls 4 [(0, .ref (ad 32)), (1, .int x1), (2, .int x2), (3, .int x3)] → W p l e (ac_rm 1) s m [.ref (ad 32), .int p0].toArray below meth c H locs 0 0 (MQ below (va_Qi (fun (r : Int32) (u : ac_U) => u = u0) (ac_B (dC, dI) vwCl (ac_ty cA) ad cA (TT nF) A) A) [.ref (ad 32), .int p0].toArray s 0 0 A) (F0 m 4 ls []) := by
    intro n4
    induction n4 with
    | zero => intro x1 x2 x3 H locs ls hn4 f0 hP hD hS hl; exfalso; omega
    | succ n4 ih4 =>
      intro x1 x2 x3 H locs ls hn4 f0 hP hD hS hl
      have L32 : ∀ (x1 : Int32) (x2 : Int32) (x3 : Int32) (H : Heap) (locs : List Loc) (ls : Array Slot), (0 : Int) ≤ x3.toInt ∧ x3.toInt ≤ 3 → (1 : Int) ≤ (u0.1 32 8).toInt ∧ (u0.1 32 8).toInt ≤ 4 → 4 - x3.toInt + 0 < ((n4 : Nat) : Int) + 1 → va_P (dC, dI) vwCl (ac_w ad cA (TT nF) u0) H → va_D A (ac_w ad cA (TT nF) u0) → va_S A s.heap H locs → lv_has ls 4 [(0, .ref (ad 32)), (1, .int x1), (2, .int x2), (3, .int x3)] → W p l e (ac_rm 1) s m [.ref (ad 32), .int p0].toArray below meth c H locs 0 0 (MQ below (va_Qi (fun (r : Int32) (u : ac_U) => u = u0) (ac_B (dC, dI) vwCl (ac_ty cA) ad cA (TT nF) A) A) [.ref (ad 32), .int p0].toArray s 0 0 A) (F0 m 32 ls []) := by
        intro x1 x2 x3 H locs ls f0 f1 f2 hP hD hS hl
        refine a_iinc F (k := 3) (fun v1 => [(3, .int v1), (0, .ref (ad 32)), (1, .int x1), (2, .int x2)]) dX7_promiseBits_32 hl rfl rfl (by decide) (by omega) (by decide) (fun _ => rfl) (fun v1 ls hv1 hl => ?_)
        refine lv_goto (tgt := 4) F.1 F.2.1 dX7_promiseBits_35 (by decide) ?_
        exact ih4 x1 x2 v1 _ _ _ (by omega) (by omega) hP hD hS (lv_sub hl [1, 2, 3, 0] rfl)
      refine lv_iload_n F.1 F.2.1 dX7_promiseBits_4 rfl (lv_at hl 3 rfl) ?_
      refine lv_aload_n F.1 F.2.1 dX7_promiseBits_5 rfl (lv_at hl 0 rfl) ?_
      have g2 : (0 : Int) ≤ (u0.1 32 8).toInt ∧ (u0.1 32 8).toInt ≤ 4 := hR 32 8
      refine a_geti F inX7 hP 32 8 tc_32 rfl rfl (by decide) q342 (fun _ h9 => h9) (v := (u0.1 32 8)) rfl dX7_promiseBits_6 ?_
      refine b_ge F 38 dX7_promiseBits_9 (by decide) rfl rfl (fun c3 => ?_) (fun c3 => ?_)
      · refine lv_iload_n F.1 F.2.1 dX7_promiseBits_38 rfl (lv_at hl 2 rfl) ?_
        exact a_reti F hr hlocks hP hD hS dX7_promiseBits_39 rfl
      · refine lv_iload_n F.1 F.2.1 dX7_promiseBits_12 rfl (lv_at hl 1 rfl) ?_
        refine lv_iload_n F.1 F.2.1 dX7_promiseBits_13 rfl (lv_at hl 3 rfl) ?_
        refine a_ishrU F dX7_promiseBits_14 (fun v4 => ?_)
        refine a_ic F (1 : Int32) dX7_promiseBits_15 (by decide) ?_
        refine a_iandM F dX7_promiseBits_16 ic_1 (by omega) (fun v5 hv5 => ?_)
        refine a_ic F (1 : Int32) dX7_promiseBits_17 (by decide) ?_
        refine b_ne F 32 dX7_promiseBits_18 (by decide) rfl ic_1 (fun c6 => ?_) (fun c6 => ?_)
        · exact L32 x1 x2 x3 _ _ _ (by omega) (by omega : (1 : Int) ≤ (u0.1 32 8).toInt ∧ (u0.1 32 8).toInt ≤ 4) (by omega) hP hD hS (lv_sub hl [0, 1, 2, 3] rfl)
        · refine lv_iload_n F.1 F.2.1 dX7_promiseBits_21 rfl (lv_at hl 2 rfl) ?_
          refine a_ic F (1 : Int32) dX7_promiseBits_22 (by decide) ?_
          refine lv_aload_n F.1 F.2.1 dX7_promiseBits_23 rfl (lv_at hl 0 rfl) ?_
          refine a_getr F inX7 hP 32 3 tc_32 rfl rfl (by decide) q337 (fun _ h9 => h9) dX7_promiseBits_24 ?_
          refine lv_iload_n F.1 F.2.1 dX7_promiseBits_27 rfl (lv_at hl 3 rfl) ?_
          refine a_iald F hP 33 tc_33 rfl (i_in rfl (by omega)) dX7_promiseBits_28 (fun v7 ev7 => ?_)
          have hv7 : (0 : Int) ≤ v7.toInt ∧ v7.toInt ≤ 7 := ev7 ▸ hR 33 _
          refine a_ishlU F dX7_promiseBits_29 (fun v8 => ?_)
          refine a_iorU F dX7_promiseBits_30 (fun v9 => ?_)
          refine lv_istore_n (lv' := [(2, .int v9), (0, .ref (ad 32)), (1, .int x1), (3, .int x3)]) F.1 F.2.1 dX7_promiseBits_31 rfl hl (by decide) rfl (fun ls hl => ?_)
          exact L32 x1 v9 x3 _ _ _ (by omega) (by omega : (1 : Int) ≤ (u0.1 32 8).toInt ∧ (u0.1 32 8).toInt ≤ 4) (by omega) hP hD hS (lv_sub hl [1, 2, 0, 3] rfl)
  refine a_ic F (0 : Int32) dX7_promiseBits_0 (by decide) ?_
  refine lv_istore_n (lv' := [(2, .int (0 : Int32)), (0, .ref (ad 32)), (1, .int p0)]) F.1 F.2.1 dX7_promiseBits_1 rfl hl (by decide) rfl (fun ls hl => ?_)
  refine a_ic F (0 : Int32) dX7_promiseBits_2 (by decide) ?_
  refine lv_istore_n (lv' := [(3, .int (0 : Int32)), (2, .int (0 : Int32)), (0, .ref (ad 32)), (1, .int p0)]) F.1 F.2.1 dX7_promiseBits_3 rfl hl (by decide) rfl (fun ls hl => ?_)
  exact L4 6 p0 (0 : Int32) (0 : Int32) _ _ _ (by decide) (by decide) hP hD hS (lv_sub hl [2, 3, 1, 0] rfl)
set_option maxHeartbeats 4000000 in
set_option maxRecDepth 100000 in
theorem c_X7_stepIn_32 (l : Launch) (dC : Nat → ClassId) (dI : Nat → Nat → Nat) (ad : Nat → Nat) (cA : Nat → ClassId) (nF : Nat) (u0 : ac_U) (p0 : Int32) (hR : ac_R rg u0) : ac_Mi l yX7_stepIn (.code yX7_stepIn cX7_stepIn 2 (some .int) :: TB) 1 (dC, dI) vwCl (ac_ty cA) ad cA (TT nF) [.ref (ad 32), .int p0] u0 (fun (r : Int32) (u : ac_U) => u = u0) := by
  refine ac_Mi.of (cc := cX7_stepIn) (maxL := 2) (ret := (some .int)) (by decide) rfl (Nat.le_of_ble_eq_true rfl) ?_
  intro p e s m below meth c A ls F hml hr hlocks hA hP hD hS hl
  have F : ac_X p s m [.ref (ad 32), .int p0].toArray c cX7_stepIn RX7 TB (dC, dI) vwCl (ac_ty cA) := ⟨F.1, F.2.1, fun w h => F.2.2.1 w (List.mem_cons_of_mem _ h), F.2.2.2.1, F.2.2.2.2⟩
  have hl : lv_has ls 2 [(0, .ref (ad 32)), (1, .int p0)] := hl
  have L26 : ∀ (z0 : Int32) (H : Heap) (locs : List Loc) (ls : Array Slot), va_P (dC, dI) vwCl (ac_w ad cA (TT nF) u0) H → va_D A (ac_w ad cA (TT nF) u0) → va_S A s.heap H locs → lv_has ls 2 [] → W p l e (ac_rm 1) s m [.ref (ad 32), .int p0].toArray below meth c H locs 0 0 (MQ below (va_Qi (fun (r : Int32) (u : ac_U) => u = u0) (ac_B (dC, dI) vwCl (ac_ty cA) ad cA (TT nF) A) A) [.ref (ad 32), .int p0].toArray s 0 0 A) (F0 m 26 ls [.int z0]) := by
    intro z0 H locs ls hP hD hS hl
    exact a_reti F hr hlocks hP hD hS dX7_stepIn_26 rfl
  have L25 : ∀ (H : Heap) (locs : List Loc) (ls : Array Slot), va_P (dC, dI) vwCl (ac_w ad cA (TT nF) u0) H → va_D A (ac_w ad cA (TT nF) u0) → va_S A s.heap H locs → lv_has ls 2 [] → W p l e (ac_rm 1) s m [.ref (ad 32), .int p0].toArray below meth c H locs 0 0 (MQ below (va_Qi (fun (r : Int32) (u : ac_U) => u = u0) (ac_B (dC, dI) vwCl (ac_ty cA) ad cA (TT nF) A) A) [.ref (ad 32), .int p0].toArray s 0 0 A) (F0 m 25 ls []) := by
    intro H locs ls hP hD hS hl
    refine a_ic F (-1 : Int32) dX7_stepIn_25 (by decide) ?_
    exact L26 (-1 : Int32) _ _ _  hP hD hS (lv_sub hl [] rfl)
  refine lv_iload_n F.1 F.2.1 dX7_stepIn_0 rfl (lv_at hl 1 rfl) ?_
  refine lv_aload_n F.1 F.2.1 dX7_stepIn_1 rfl (lv_at hl 0 rfl) ?_
  have g1 : (0 : Int) ≤ (u0.1 32 12).toInt ∧ (u0.1 32 12).toInt ≤ 23 := hR 32 12
  refine a_geti F inX7 hP 32 12 tc_32 rfl rfl (by decide) q346 (fun _ h9 => h9) (v := (u0.1 32 12)) rfl dX7_stepIn_2 ?_
  refine b_lt F 25 dX7_stepIn_5 (by decide) rfl rfl (fun c2 => ?_) (fun c2 => ?_)
  · exact L25 _ _ _  hP hD hS (lv_sub hl [] rfl)
  · refine lv_iload_n F.1 F.2.1 dX7_stepIn_8 rfl (lv_at hl 1 rfl) ?_
    refine lv_aload_n F.1 F.2.1 dX7_stepIn_9 rfl (lv_at hl 0 rfl) ?_
    have g3 : (0 : Int) ≤ (u0.1 32 13).toInt ∧ (u0.1 32 13).toInt ≤ 24 := hR 32 13
    refine a_geti F inX7 hP 32 13 tc_32 rfl rfl (by decide) q347 (fun _ h9 => h9) (v := (u0.1 32 13)) rfl dX7_stepIn_10 ?_
    refine b_ge F 25 dX7_stepIn_13 (by decide) rfl rfl (fun c4 => ?_) (fun c4 => ?_)
    · exact L25 _ _ _  hP hD hS (lv_sub hl [] rfl)
    · refine lv_aload_n F.1 F.2.1 dX7_stepIn_16 rfl (lv_at hl 0 rfl) ?_
      refine a_getr F inX7 hP 32 6 tc_32 rfl rfl (by decide) q340 (fun _ h9 => h9) dX7_stepIn_17 ?_
      refine lv_iload_n F.1 F.2.1 dX7_stepIn_20 rfl (lv_at hl 1 rfl) ?_
      refine a_iald F hP 36 tc_36 rfl (i_in rfl (by omega)) dX7_stepIn_21 (fun v5 ev5 => ?_)
      refine lv_goto (tgt := 26) F.1 F.2.1 dX7_stepIn_22 (by decide) ?_
      exact L26 v5 _ _ _  hP hD hS (lv_sub hl [] rfl)
set_option maxHeartbeats 4000000 in
set_option maxRecDepth 100000 in
theorem c_X8_add_47 (l : Launch) (dC : Nat → ClassId) (dI : Nat → Nat → Nat) (ad : Nat → Nat) (cA : Nat → ClassId) (nF : Nat) (u0 : ac_U) (p0 : Int32) (p1 : Int32) (p2 : Int32) (hR : ac_R rg u0) (hp0 : (41 : Int) ≤ p0.toInt ∧ p0.toInt ≤ 126) (hp1 : (-128 : Int) ≤ p1.toInt ∧ p1.toInt ≤ 127) : ac_Mv l yX8_add (.code yX8_add cX8_add 4 none :: TB) 1 (dC, dI) vwCl (ac_ty cA) ad cA (TT nF) [.ref (ad 47), .int p0, .int p1, .int p2] u0 (fun (u : ac_U) => ac_R rg u ∧ ac_Fr [(47, some 3), (48, none), (49, none), (50, none)] u0 u) := by
  refine ac_Mv.of (cc := cX8_add) (maxL := 4) (ret := none) (by decide) rfl (Nat.le_of_ble_eq_true rfl) ?_
  intro p e s m below meth c A ls F hml hr hlocks hA hP hD hS hl
  have F : ac_X p s m [.ref (ad 47), .int p0, .int p1, .int p2].toArray c cX8_add RX8 TB (dC, dI) vwCl (ac_ty cA) := ⟨F.1, F.2.1, fun w h => F.2.2.1 w (List.mem_cons_of_mem _ h), F.2.2.2.1, F.2.2.2.2⟩
  have hl : lv_has ls 4 [(0, .ref (ad 47)), (1, .int p0), (2, .int p1), (3, .int p2)] := hl
  have hF : ac_Fr [(47, some 3), (48, none), (49, none), (50, none)] u0 u0 := ac_Fr.rf
  have L52 : ∀ (u : ac_U) (H : Heap) (locs : List Loc) (ls : Array Slot), ac_R rg u → ac_Fr [(47, some 3), (48, none), (49, none), (50, none)] u0 u → (1 : Int) ≤ (u.1 47 3).toInt ∧ (u.1 47 3).toInt ≤ 40 → va_P (dC, dI) vwCl (ac_w ad cA (TT nF) u) H → va_D A (ac_w ad cA (TT nF) u) → va_S A s.heap H locs → lv_has ls 4 [] → W p l e (ac_rm 1) s m [.ref (ad 47), .int p0, .int p1, .int p2].toArray below meth c H locs 0 0 (MQ below (va_Qv (fun (u : ac_U) => ac_R rg u ∧ ac_Fr [(47, some 3), (48, none), (49, none), (50, none)] u0 u) (ac_B (dC, dI) vwCl (ac_ty cA) ad cA (TT nF) A) A) [.ref (ad 47), .int p0, .int p1, .int p2].toArray s 0 0 A) (F0 m 52 ls []) := by
    intro u H locs ls hR hF f0 hP hD hS hl
    exact a_retv F hr hlocks hP hD hS dX8_add_52 ⟨hR, hF⟩
  refine lv_aload_n F.1 F.2.1 dX8_add_0 rfl (lv_at hl 0 rfl) ?_
  have g1 : (0 : Int) ≤ (u0.1 47 3).toInt ∧ (u0.1 47 3).toInt ≤ 40 := hR 47 3
  refine a_geti F inX8 hP 47 3 tc_47 rfl rfl (by decide) q443 (fun _ h9 => h9) (v := (u0.1 47 3)) rfl dX8_add_1 ?_
  refine lv_aload_n F.1 F.2.1 dX8_add_4 rfl (lv_at hl 0 rfl) ?_
  refine a_getr F inX8 hP 47 0 tc_47 rfl rfl (by decide) q440 (fun _ h9 => h9) dX8_add_5 ?_
  refine va_alen (v := (40 : Int32)) F.1 F.2.1 F.2.2.2.2 hP 48 0 (ac_at tc_48) rfl rfl dX8_add_8 ?_
  refine b_ge F 52 dX8_add_9 (by decide) rfl ic_40 (fun c2 => ?_) (fun c2 => ?_)
  · exact L52 _ _ _ _ hR hF (by omega : (1 : Int) ≤ (u0.1 47 3).toInt ∧ (u0.1 47 3).toInt ≤ 40) hP hD hS (lv_sub hl [] rfl)
  · refine lv_aload_n F.1 F.2.1 dX8_add_12 rfl (lv_at hl 0 rfl) ?_
    refine a_getr F inX8 hP 47 0 tc_47 rfl rfl (by decide) q440 (fun _ h9 => h9) dX8_add_13 ?_
    refine lv_aload_n F.1 F.2.1 dX8_add_16 rfl (lv_at hl 0 rfl) ?_
    refine a_geti F inX8 hP 47 3 tc_47 rfl rfl (by decide) q443 (fun _ h9 => h9) (v := (u0.1 47 3)) rfl dX8_add_17 ?_
    refine lv_iload_n F.1 F.2.1 dX8_add_20 rfl (lv_at hl 1 rfl) ?_
    refine a_iast F hP hD hS 48 tc_48 rfl (i_in rfl (by omega)) dX8_add_21 (fun H locs hP hD hS => ?_)
    have hR := hR.si (c := 48) (k := (u0.1 47 3).toNatClampNeg) (v := p0) ⟨i_lo _, i_hi _⟩
    have hF := hF.si (c := 48) (k := (u0.1 47 3).toNatClampNeg) (v := p0) rfl
    refine lv_aload_n F.1 F.2.1 dX8_add_22 rfl (lv_at hl 0 rfl) ?_
    refine a_getr F inX8 hP 47 1 tc_47 rfl rfl (by decide) q441 (fun _ h9 => h9) dX8_add_23 ?_
    refine lv_aload_n F.1 F.2.1 dX8_add_26 rfl (lv_at hl 0 rfl) ?_
    refine a_geti F inX8 hP 47 3 tc_47 rfl rfl (by decide) q443 (fun _ h9 => h9) (v := (u0.1 47 3)) rfl dX8_add_27 ?_
    refine lv_iload_n F.1 F.2.1 dX8_add_30 rfl (lv_at hl 2 rfl) ?_
    refine a_iast F hP hD hS 49 tc_49 rfl (i_in rfl (by omega)) dX8_add_31 (fun H locs hP hD hS => ?_)
    have hR := hR.si (c := 49) (k := (u0.1 47 3).toNatClampNeg) (v := p1) ⟨i_lo _, i_hi _⟩
    have hF := hF.si (c := 49) (k := (u0.1 47 3).toNatClampNeg) (v := p1) rfl
    refine lv_aload_n F.1 F.2.1 dX8_add_32 rfl (lv_at hl 0 rfl) ?_
    refine a_getr F inX8 hP 47 2 tc_47 rfl rfl (by decide) q442 (fun _ h9 => h9) dX8_add_33 ?_
    refine lv_aload_n F.1 F.2.1 dX8_add_36 rfl (lv_at hl 0 rfl) ?_
    refine a_geti F inX8 hP 47 3 tc_47 rfl rfl (by decide) q443 (fun _ h9 => h9) (v := (u0.1 47 3)) rfl dX8_add_37 ?_
    refine lv_iload_n F.1 F.2.1 dX8_add_40 rfl (lv_at hl 3 rfl) ?_
    refine a_iast F hP hD hS 50 tc_50 rfl (i_in rfl (by omega)) dX8_add_41 (fun H locs hP hD hS => ?_)
    have hR := hR.si (c := 50) (k := (u0.1 47 3).toNatClampNeg) (v := p2) ⟨i_lo _, i_hi _⟩
    have hF := hF.si (c := 50) (k := (u0.1 47 3).toNatClampNeg) (v := p2) rfl
    refine lv_aload_n F.1 F.2.1 dX8_add_42 rfl (lv_at hl 0 rfl) ?_
    refine lv_dup F.1 F.2.1 dX8_add_43 rfl ?_
    refine a_geti F inX8 hP 47 3 tc_47 rfl rfl (by decide) q443 (fun _ h9 => h9) (v := (u0.1 47 3)) rfl dX8_add_44 ?_
    refine a_ic F (1 : Int32) dX8_add_47 (by decide) ?_
    refine a_iadd F dX8_add_48 rfl ic_1 (by omega) (fun v3 hv3 => ?_)
    refine a_puti F inX8 tyX8 tyX8_ok nmX8 hP hD hS 47 3 tc_47 rfl rfl (by decide) q443 (fun _ h9 => h9) rfl (ty := .int) (tyX8_ok 3 (by decide)) rfl rfl dX8_add_49 (fun H locs hP hD hS => ?_)
    have hR := hR.si (c := 47) (k := 3) (v := v3) (by omega : (0 : Int) ≤ v3.toInt ∧ v3.toInt ≤ 40)
    have hF := hF.si (c := 47) (k := 3) (v := v3) rfl
    exact L52 _ _ _ _ hR hF (by omega : (1 : Int) ≤ v3.toInt ∧ v3.toInt ≤ 40) hP hD hS (lv_sub hl [] rfl)
set_option maxHeartbeats 4000000 in
set_option maxRecDepth 100000 in
theorem c_X8_clear_43 (l : Launch) (dC : Nat → ClassId) (dI : Nat → Nat → Nat) (ad : Nat → Nat) (cA : Nat → ClassId) (nF : Nat) (u0 : ac_U)  (hR : ac_R rg u0) : ac_Mv l yX8_clear (.code yX8_clear cX8_clear 1 none :: TB) 1 (dC, dI) vwCl (ac_ty cA) ad cA (TT nF) [.ref (ad 43)] u0 (fun (u : ac_U) => ac_R rg u ∧ ac_Fr [(43, some 3), (43, some 4)] u0 u) := by
  refine ac_Mv.of (cc := cX8_clear) (maxL := 1) (ret := none) (by decide) rfl (Nat.le_of_ble_eq_true rfl) ?_
  intro p e s m below meth c A ls F hml hr hlocks hA hP hD hS hl
  have F : ac_X p s m [.ref (ad 43)].toArray c cX8_clear RX8 TB (dC, dI) vwCl (ac_ty cA) := ⟨F.1, F.2.1, fun w h => F.2.2.1 w (List.mem_cons_of_mem _ h), F.2.2.2.1, F.2.2.2.2⟩
  have hl : lv_has ls 1 [(0, .ref (ad 43))] := hl
  have hF : ac_Fr [(43, some 3), (43, some 4)] u0 u0 := ac_Fr.rf
  refine lv_aload_n F.1 F.2.1 dX8_clear_0 rfl (lv_at hl 0 rfl) ?_
  refine a_ic F (0 : Int32) dX8_clear_1 (by decide) ?_
  refine a_puti F inX8 tyX8 tyX8_ok nmX8 hP hD hS 43 3 tc_43 rfl rfl (by decide) q443 (fun _ h9 => h9) rfl (ty := .int) (tyX8_ok 3 (by decide)) rfl rfl dX8_clear_2 (fun H locs hP hD hS => ?_)
  have hR := hR.si (c := 43) (k := 3) (v := (0 : Int32)) (by rw [ic_0]; exact (by omega : (0 : Int) ≤ (0 : Int) ∧ (0 : Int) ≤ 40))
  have hF := hF.si (c := 43) (k := 3) (v := (0 : Int32)) rfl
  refine lv_aload_n F.1 F.2.1 dX8_clear_5 rfl (lv_at hl 0 rfl) ?_
  refine a_ic F (0 : Int32) dX8_clear_6 (by decide) ?_
  refine a_puti F inX8 tyX8 tyX8_ok nmX8 hP hD hS 43 4 tc_43 rfl rfl (by decide) q445 (fun _ h9 => h9) rfl (ty := .int) (tyX8_ok 4 (by decide)) rfl rfl dX8_clear_7 (fun H locs hP hD hS => ?_)
  have hR := hR.si (c := 43) (k := 4) (v := (0 : Int32)) (by rw [ic_0]; exact (by omega : (0 : Int) ≤ (0 : Int) ∧ (0 : Int) ≤ 20))
  have hF := hF.si (c := 43) (k := 4) (v := (0 : Int32)) rfl
  exact a_retv F hr hlocks hP hD hS dX8_clear_10 ⟨hR, hF⟩
set_option maxHeartbeats 4000000 in
set_option maxRecDepth 100000 in
theorem c_X8_clear_47 (l : Launch) (dC : Nat → ClassId) (dI : Nat → Nat → Nat) (ad : Nat → Nat) (cA : Nat → ClassId) (nF : Nat) (u0 : ac_U)  (hR : ac_R rg u0) : ac_Mv l yX8_clear (.code yX8_clear cX8_clear 1 none :: TB) 1 (dC, dI) vwCl (ac_ty cA) ad cA (TT nF) [.ref (ad 47)] u0 (fun (u : ac_U) => ac_R rg u ∧ ac_Fr [(47, some 3), (47, some 4)] u0 u) := by
  refine ac_Mv.of (cc := cX8_clear) (maxL := 1) (ret := none) (by decide) rfl (Nat.le_of_ble_eq_true rfl) ?_
  intro p e s m below meth c A ls F hml hr hlocks hA hP hD hS hl
  have F : ac_X p s m [.ref (ad 47)].toArray c cX8_clear RX8 TB (dC, dI) vwCl (ac_ty cA) := ⟨F.1, F.2.1, fun w h => F.2.2.1 w (List.mem_cons_of_mem _ h), F.2.2.2.1, F.2.2.2.2⟩
  have hl : lv_has ls 1 [(0, .ref (ad 47))] := hl
  have hF : ac_Fr [(47, some 3), (47, some 4)] u0 u0 := ac_Fr.rf
  refine lv_aload_n F.1 F.2.1 dX8_clear_0 rfl (lv_at hl 0 rfl) ?_
  refine a_ic F (0 : Int32) dX8_clear_1 (by decide) ?_
  refine a_puti F inX8 tyX8 tyX8_ok nmX8 hP hD hS 47 3 tc_47 rfl rfl (by decide) q443 (fun _ h9 => h9) rfl (ty := .int) (tyX8_ok 3 (by decide)) rfl rfl dX8_clear_2 (fun H locs hP hD hS => ?_)
  have hR := hR.si (c := 47) (k := 3) (v := (0 : Int32)) (by rw [ic_0]; exact (by omega : (0 : Int) ≤ (0 : Int) ∧ (0 : Int) ≤ 40))
  have hF := hF.si (c := 47) (k := 3) (v := (0 : Int32)) rfl
  refine lv_aload_n F.1 F.2.1 dX8_clear_5 rfl (lv_at hl 0 rfl) ?_
  refine a_ic F (0 : Int32) dX8_clear_6 (by decide) ?_
  refine a_puti F inX8 tyX8 tyX8_ok nmX8 hP hD hS 47 4 tc_47 rfl rfl (by decide) q445 (fun _ h9 => h9) rfl (ty := .int) (tyX8_ok 4 (by decide)) rfl rfl dX8_clear_7 (fun H locs hP hD hS => ?_)
  have hR := hR.si (c := 47) (k := 4) (v := (0 : Int32)) (by rw [ic_0]; exact (by omega : (0 : Int) ≤ (0 : Int) ∧ (0 : Int) ≤ 20))
  have hF := hF.si (c := 47) (k := 4) (v := (0 : Int32)) rfl
  exact a_retv F hr hlocks hP hD hS dX8_clear_10 ⟨hR, hF⟩
set_option maxHeartbeats 4000000 in
set_option maxRecDepth 100000 in
theorem c_X8_isSo_43 (l : Launch) (dC : Nat → ClassId) (dI : Nat → Nat → Nat) (ad : Nat → Nat) (cA : Nat → ClassId) (nF : Nat) (u0 : ac_U) (p0 : Int32) (p1 : Int32) (hR : ac_R rg u0) (hp1 : (0 : Int) ≤ p1.toInt ∧ p1.toInt ≤ 39) : ac_Mi l yX8_isSo (.code yX8_isSo cX8_isSo 3 (some .boolean) :: TB) 1 (dC, dI) vwCl (ac_ty cA) ad cA (TT nF) [.ref (ad 43), .int p0, .int p1] u0 (fun (r : Int32) (u : ac_U) => u = u0 ∧ ((0 : Int) ≤ r.toInt ∧ r.toInt ≤ 1)) := by
  refine ac_Mi.of (cc := cX8_isSo) (maxL := 3) (ret := (some .boolean)) (by decide) rfl (Nat.le_of_ble_eq_true rfl) ?_
  intro p e s m below meth c A ls F hml hr hlocks hA hP hD hS hl
  have F : ac_X p s m [.ref (ad 43), .int p0, .int p1].toArray c cX8_isSo RX8 TB (dC, dI) vwCl (ac_ty cA) := ⟨F.1, F.2.1, fun w h => F.2.2.1 w (List.mem_cons_of_mem _ h), F.2.2.2.1, F.2.2.2.2⟩
  have hl : lv_has ls 3 [(0, .ref (ad 43)), (1, .int p0), (2, .int p1)] := hl
  have L71 : ∀ (z0 : Int32) (H : Heap) (locs : List Loc) (ls : Array Slot), (0 : Int) ≤ z0.toInt ∧ z0.toInt ≤ 1 → va_P (dC, dI) vwCl (ac_w ad cA (TT nF) u0) H → va_D A (ac_w ad cA (TT nF) u0) → va_S A s.heap H locs → lv_has ls 3 [] → W p l e (ac_rm 1) s m [.ref (ad 43), .int p0, .int p1].toArray below meth c H locs 0 0 (MQ below (va_Qi (fun (r : Int32) (u : ac_U) => u = u0 ∧ ((0 : Int) ≤ r.toInt ∧ r.toInt ≤ 1)) (ac_B (dC, dI) vwCl (ac_ty cA) ad cA (TT nF) A) A) [.ref (ad 43), .int p0, .int p1].toArray s 0 0 A) (F0 m 71 ls [.int z0]) := by
    intro z0 H locs ls f0 hP hD hS hl
    exact a_retz F hr hlocks hP hD hS dX8_isSo_71 (i_01 (by omega)) ⟨rfl, (by omega : (0 : Int) ≤ z0.toInt ∧ z0.toInt ≤ 1)⟩
  have L26 : ∀ (z0 : Int32) (H : Heap) (locs : List Loc) (ls : Array Slot), (0 : Int) ≤ z0.toInt ∧ z0.toInt ≤ 1 → va_P (dC, dI) vwCl (ac_w ad cA (TT nF) u0) H → va_D A (ac_w ad cA (TT nF) u0) → va_S A s.heap H locs → lv_has ls 3 [] → W p l e (ac_rm 1) s m [.ref (ad 43), .int p0, .int p1].toArray below meth c H locs 0 0 (MQ below (va_Qi (fun (r : Int32) (u : ac_U) => u = u0 ∧ ((0 : Int) ≤ r.toInt ∧ r.toInt ≤ 1)) (ac_B (dC, dI) vwCl (ac_ty cA) ad cA (TT nF) A) A) [.ref (ad 43), .int p0, .int p1].toArray s 0 0 A) (F0 m 26 ls [.int z0]) := by
    intro z0 H locs ls f0 hP hD hS hl
    exact a_retz F hr hlocks hP hD hS dX8_isSo_26 (i_01 (by omega)) ⟨rfl, (by omega : (0 : Int) ≤ z0.toInt ∧ z0.toInt ≤ 1)⟩
  refine lv_aload_n F.1 F.2.1 dX8_isSo_0 rfl (lv_at hl 0 rfl) ?_
  refine a_getr F inX8 hP 43 1 tc_43 rfl rfl (by decide) q441 (fun _ h9 => h9) dX8_isSo_1 ?_
  refine lv_iload_n F.1 F.2.1 dX8_isSo_4 rfl (lv_at hl 2 rfl) ?_
  refine a_iald F hP 45 tc_45 rfl (i_in rfl (by omega)) dX8_isSo_5 (fun v1 ev1 => ?_)
  refine a_bp F (60 : Int32) dX8_isSo_6 (by decide) ?_
  refine b_ne F 27 dX8_isSo_8 (by decide) rfl ic_60 (fun c2 => ?_) (fun c2 => ?_)
  · refine lv_aload_n F.1 F.2.1 dX8_isSo_27 rfl (lv_at hl 0 rfl) ?_
    refine a_getr F inX8 hP 43 1 tc_43 rfl rfl (by decide) q441 (fun _ h9 => h9) dX8_isSo_28 ?_
    refine lv_iload_n F.1 F.2.1 dX8_isSo_31 rfl (lv_at hl 2 rfl) ?_
    refine a_iald F hP 45 tc_45 rfl (i_in rfl (by omega)) dX8_isSo_32 (fun v3 ev3 => ?_)
    refine a_bp F (62 : Int32) dX8_isSo_33 (by decide) ?_
    refine b_ne F 56 dX8_isSo_35 (by decide) rfl ic_62 (fun c4 => ?_) (fun c4 => ?_)
    · refine lv_iload_n F.1 F.2.1 dX8_isSo_56 rfl (lv_at hl 1 rfl) ?_
      refine lv_aload_n F.1 F.2.1 dX8_isSo_57 rfl (lv_at hl 0 rfl) ?_
      refine a_getr F inX8 hP 43 2 tc_43 rfl rfl (by decide) q442 (fun _ h9 => h9) dX8_isSo_58 ?_
      refine lv_iload_n F.1 F.2.1 dX8_isSo_61 rfl (lv_at hl 2 rfl) ?_
      refine a_iald F hP 46 tc_46 rfl (i_in rfl (by omega)) dX8_isSo_62 (fun v5 ev5 => ?_)
      refine b_ne F 70 dX8_isSo_63 (by decide) rfl rfl (fun c6 => ?_) (fun c6 => ?_)
      · refine a_ic F (0 : Int32) dX8_isSo_70 (by decide) ?_
        exact L71 (0 : Int32) _ _ _ (by decide) hP hD hS (lv_sub hl [] rfl)
      · refine a_ic F (1 : Int32) dX8_isSo_66 (by decide) ?_
        refine lv_goto (tgt := 71) F.1 F.2.1 dX8_isSo_67 (by decide) ?_
        exact L71 (1 : Int32) _ _ _ (by decide) hP hD hS (lv_sub hl [] rfl)
    · refine lv_iload_n F.1 F.2.1 dX8_isSo_38 rfl (lv_at hl 1 rfl) ?_
      refine lv_aload_n F.1 F.2.1 dX8_isSo_39 rfl (lv_at hl 0 rfl) ?_
      refine a_getr F inX8 hP 43 2 tc_43 rfl rfl (by decide) q442 (fun _ h9 => h9) dX8_isSo_40 ?_
      refine lv_iload_n F.1 F.2.1 dX8_isSo_43 rfl (lv_at hl 2 rfl) ?_
      refine a_iald F hP 46 tc_46 rfl (i_in rfl (by omega)) dX8_isSo_44 (fun v7 ev7 => ?_)
      refine b_le F 52 dX8_isSo_45 (by decide) rfl rfl (fun c8 => ?_) (fun c8 => ?_)
      · refine a_ic F (0 : Int32) dX8_isSo_52 (by decide) ?_
        refine lv_goto (tgt := 71) F.1 F.2.1 dX8_isSo_53 (by decide) ?_
        exact L71 (0 : Int32) _ _ _ (by decide) hP hD hS (lv_sub hl [] rfl)
      · refine a_ic F (1 : Int32) dX8_isSo_48 (by decide) ?_
        refine lv_goto (tgt := 71) F.1 F.2.1 dX8_isSo_49 (by decide) ?_
        exact L71 (1 : Int32) _ _ _ (by decide) hP hD hS (lv_sub hl [] rfl)
  · refine lv_iload_n F.1 F.2.1 dX8_isSo_11 rfl (lv_at hl 1 rfl) ?_
    refine lv_aload_n F.1 F.2.1 dX8_isSo_12 rfl (lv_at hl 0 rfl) ?_
    refine a_getr F inX8 hP 43 2 tc_43 rfl rfl (by decide) q442 (fun _ h9 => h9) dX8_isSo_13 ?_
    refine lv_iload_n F.1 F.2.1 dX8_isSo_16 rfl (lv_at hl 2 rfl) ?_
    refine a_iald F hP 46 tc_46 rfl (i_in rfl (by omega)) dX8_isSo_17 (fun v9 ev9 => ?_)
    refine b_ge F 25 dX8_isSo_18 (by decide) rfl rfl (fun c10 => ?_) (fun c10 => ?_)
    · refine a_ic F (0 : Int32) dX8_isSo_25 (by decide) ?_
      exact L26 (0 : Int32) _ _ _ (by decide) hP hD hS (lv_sub hl [] rfl)
    · refine a_ic F (1 : Int32) dX8_isSo_21 (by decide) ?_
      refine lv_goto (tgt := 26) F.1 F.2.1 dX8_isSo_22 (by decide) ?_
      exact L26 (1 : Int32) _ _ _ (by decide) hP hD hS (lv_sub hl [] rfl)
set_option maxHeartbeats 4000000 in
set_option maxRecDepth 100000 in
theorem c_X9_isAtEnd_51 (l : Launch) (dC : Nat → ClassId) (dI : Nat → Nat → Nat) (ad : Nat → Nat) (cA : Nat → ClassId) (nF : Nat) (u0 : ac_U)  (hR : ac_R rg u0) : ac_Mi l yX9_isAtEnd (.code yX9_isAtEnd cX9_isAtEnd 1 (some .boolean) :: TB) 2 (dC, dI) vwCl (ac_ty cA) ad cA (TT nF) [.ref (ad 51)] u0 (fun (r : Int32) (u : ac_U) => ac_R rg u ∧ ac_Fr [(1, some 10), (1, some 11)] u0 u ∧ ((0 : Int) ≤ r.toInt ∧ r.toInt ≤ 1)) := by
  refine ac_Mi.of (cc := cX9_isAtEnd) (maxL := 1) (ret := (some .boolean)) (by decide) rfl (Nat.le_of_ble_eq_true rfl) ?_
  intro p e s m below meth c A ls F hml hr hlocks hA hP hD hS hl
  have F : ac_X p s m [.ref (ad 51)].toArray c cX9_isAtEnd RX9 TB (dC, dI) vwCl (ac_ty cA) := ⟨F.1, F.2.1, fun w h => F.2.2.1 w (List.mem_cons_of_mem _ h), F.2.2.2.1, F.2.2.2.2⟩
  have hl : lv_has ls 1 [(0, .ref (ad 51))] := hl
  have hF : ac_Fr [(1, some 10), (1, some 11)] u0 u0 := ac_Fr.rf
  have L26 : ∀ (z0 : Int32) (u : ac_U) (H : Heap) (locs : List Loc) (ls : Array Slot), ac_R rg u → ac_Fr [(1, some 10), (1, some 11)] u0 u → (0 : Int) ≤ z0.toInt ∧ z0.toInt ≤ 1 → va_P (dC, dI) vwCl (ac_w ad cA (TT nF) u) H → va_D A (ac_w ad cA (TT nF) u) → va_S A s.heap H locs → lv_has ls 1 [] → W p l e (ac_rm 2) s m [.ref (ad 51)].toArray below meth c H locs 0 0 (MQ below (va_Qi (fun (r : Int32) (u : ac_U) => ac_R rg u ∧ ac_Fr [(1, some 10), (1, some 11)] u0 u ∧ ((0 : Int) ≤ r.toInt ∧ r.toInt ≤ 1)) (ac_B (dC, dI) vwCl (ac_ty cA) ad cA (TT nF) A) A) [.ref (ad 51)].toArray s 0 0 A) (F0 m 26 ls [.int z0]) := by
    intro z0 u H locs ls hR hF f0 hP hD hS hl
    exact a_retz F hr hlocks hP hD hS dX9_isAtEnd_26 (i_01 (by omega)) ⟨hR, hF, (by omega : (0 : Int) ≤ z0.toInt ∧ z0.toInt ≤ 1)⟩
  have L21 : ∀ (u : ac_U) (H : Heap) (locs : List Loc) (ls : Array Slot), ac_R rg u → ac_Fr [(1, some 10), (1, some 11)] u0 u → (0 : Int) ≤ (u.1 1 6).toInt ∧ (u.1 1 6).toInt ≤ 0 → va_P (dC, dI) vwCl (ac_w ad cA (TT nF) u) H → va_D A (ac_w ad cA (TT nF) u) → va_S A s.heap H locs → lv_has ls 1 [] → W p l e (ac_rm 2) s m [.ref (ad 51)].toArray below meth c H locs 0 0 (MQ below (va_Qi (fun (r : Int32) (u : ac_U) => ac_R rg u ∧ ac_Fr [(1, some 10), (1, some 11)] u0 u ∧ ((0 : Int) ≤ r.toInt ∧ r.toInt ≤ 1)) (ac_B (dC, dI) vwCl (ac_ty cA) ad cA (TT nF) A) A) [.ref (ad 51)].toArray s 0 0 A) (F0 m 21 ls []) := by
    intro u H locs ls hR hF f0 hP hD hS hl
    refine a_ic F (1 : Int32) dX9_isAtEnd_21 (by decide) ?_
    refine lv_goto (tgt := 26) F.1 F.2.1 dX9_isAtEnd_22 (by decide) ?_
    exact L26 (1 : Int32) _ _ _ _ hR hF (by decide) hP hD hS (lv_sub hl [] rfl)
  refine lv_aload_n F.1 F.2.1 dX9_isAtEnd_0 rfl (lv_at hl 0 rfl) ?_
  refine a_getr F inX9 hP 51 0 tc_51 rfl rfl (by decide) q465 (fun _ h9 => h9) dX9_isAtEnd_1 ?_
  have g1 : (-128 : Int) ≤ (u0.1 1 6).toInt ∧ (u0.1 1 6).toInt ≤ 127 := hR 1 6
  refine a_geti F inX10 hP 1 6 tc_1 rfl rfl (by decide) q103 (fun _ h9 => h9) (v := (u0.1 1 6)) rfl dX9_isAtEnd_4 ?_
  refine z_eq F 21 dX9_isAtEnd_7 (by decide) rfl (fun c2 => ?_) (fun c2 => ?_)
  · exact L21 _ _ _ _ hR hF (by omega : (0 : Int) ≤ (u0.1 1 6).toInt ∧ (u0.1 1 6).toInt ≤ 0) hP hD hS (lv_sub hl [] rfl)
  · refine lv_aload_n F.1 F.2.1 dX9_isAtEnd_10 rfl (lv_at hl 0 rfl) ?_
    refine a_getr F inX9 hP 51 0 tc_51 rfl rfl (by decide) q465 (fun _ h9 => h9) dX9_isAtEnd_11 ?_
    refine a_ic F (1 : Int32) dX9_isAtEnd_14 (by decide) ?_
    refine a_Vi F hml hl.1 hA hP hD hS (As := [.int (1 : Int32)]) (c_X10_fail_1 l dC dI ad cA nF _ (1 : Int32) hR (by decide)) (cs_RX9_38 (d := 1) F.2.2.1 (by decide)) tc_1 rfl rfl rfl rfl (Nat.le_of_ble_eq_true rfl) dX9_isAtEnd_15 ⟨Nat.le_refl 0, Nat.le_refl 0⟩ (fun r3 u H locs hq hP hD hS => ?_)
    obtain ⟨hR, hF3, gr3⟩ := hq
    have hF := hF.tr hF3 (by decide)
    refine z_eq F 25 dX9_isAtEnd_18 (by decide) rfl (fun c4 => ?_) (fun c4 => ?_)
    · refine a_ic F (0 : Int32) dX9_isAtEnd_25 (by decide) ?_
      exact L26 (0 : Int32) _ _ _ _ hR hF (by decide) hP hD hS (lv_sub hl [] rfl)
    · exfalso; omega
set_option maxHeartbeats 4000000 in
set_option maxRecDepth 100000 in
theorem c_X10_append_1 (l : Launch) (dC : Nat → ClassId) (dI : Nat → Nat → Nat) (ad : Nat → Nat) (cA : Nat → ClassId) (nF : Nat) (u0 : ac_U) (p0 : Int32) (hR : ac_R rg u0) : ac_Mv l yX10_append (.code yX10_append cX10_append 3 none :: TB) 1 (dC, dI) vwCl (ac_ty cA) ad cA (TT nF) [.ref (ad 1), .int p0] u0 (fun (u : ac_U) => ac_R rg u ∧ ac_Fr [(1, some 2), (2, none)] u0 u) := by
  refine ac_Mv.of (cc := cX10_append) (maxL := 3) (ret := none) (by decide) rfl (Nat.le_of_ble_eq_true rfl) ?_
  intro p e s m below meth c A ls F hml hr hlocks hA hP hD hS hl
  have F : ac_X p s m [.ref (ad 1), .int p0].toArray c cX10_append RX10 TB (dC, dI) vwCl (ac_ty cA) := ⟨F.1, F.2.1, fun w h => F.2.2.1 w (List.mem_cons_of_mem _ h), F.2.2.2.1, F.2.2.2.2⟩
  have hl : lv_has ls 3 [(0, .ref (ad 1)), (1, .int p0)] := hl
  have hF : ac_Fr [(1, some 2), (2, none)] u0 u0 := ac_Fr.rf
  have L46 : ∀ (u : ac_U) (H : Heap) (locs : List Loc) (ls : Array Slot), ac_R rg u → ac_Fr [(1, some 2), (2, none)] u0 u → va_P (dC, dI) vwCl (ac_w ad cA (TT nF) u) H → va_D A (ac_w ad cA (TT nF) u) → va_S A s.heap H locs → lv_has ls 3 [] → W p l e (ac_rm 1) s m [.ref (ad 1), .int p0].toArray below meth c H locs 0 0 (MQ below (va_Qv (fun (u : ac_U) => ac_R rg u ∧ ac_Fr [(1, some 2), (2, none)] u0 u) (ac_B (dC, dI) vwCl (ac_ty cA) ad cA (TT nF) A) A) [.ref (ad 1), .int p0].toArray s 0 0 A) (F0 m 46 ls []) := by
    intro u H locs ls hR hF hP hD hS hl
    exact a_retv F hr hlocks hP hD hS dX10_append_46 ⟨hR, hF⟩
  have L3 : ∀ (n3 : Nat) (x1 : Int32) (x2 : Int32) (u : ac_U) (H : Heap) (locs : List Loc) (ls : Array Slot), x2.toInt + 8 < (n3 : Int) → ac_R rg u → ac_Fr [(1, some 2), (2, none)] u0 u → (-8 : Int) ≤ x2.toInt ∧ x2.toInt ≤ 24 → va_P (dC, dI) vwCl (ac_w ad cA (TT nF) u) H → va_D A (ac_w ad cA (TT nF) u) → va_S A s.heap H locs → lv_has ls 3 [(0, .ref (ad 1)), (1, .int x1), (2, .int x2)] → W p l e (ac_rm 1) s m [.ref (ad 1), .int p0].toArray below meth c H locs 0 0 (MQ below (va_Qv (fun (u : ac_U) => ac_R rg u ∧ ac_Fr [(1, some 2), (2, none)] u0 u) (ac_B (dC, dI) vwCl (ac_ty cA) ad cA (TT nF) A) A) [.ref (ad 1), .int p0].toArray s 0 0 A) (F0 m 3 ls []) := by
    intro n3
    induction n3 with
    | zero => intro x1 x2 u H locs ls hn3 hR hF f0 hP hD hS hl; exfalso; omega
    | succ n3 ih3 =>
      intro x1 x2 u H locs ls hn3 hR hF f0 hP hD hS hl
      refine lv_iload_n F.1 F.2.1 dX10_append_3 rfl (lv_at hl 2 rfl) ?_
      refine z_lt F 46 dX10_append_4 (by decide) rfl (fun c1 => ?_) (fun c1 => ?_)
      · exact L46 _ _ _ _ hR hF hP hD hS (lv_sub hl [] rfl)
      · refine lv_aload_n F.1 F.2.1 dX10_append_7 rfl (lv_at hl 0 rfl) ?_
        have g2 : (0 : Int) ≤ (u.1 1 2).toInt ∧ (u.1 1 2).toInt ≤ 940 := hR 1 2
        refine a_geti F inX10 hP 1 2 tc_1 rfl rfl (by decide) q95 (fun _ h9 => h9) (v := (u.1 1 2)) rfl dX10_append_8 ?_
        refine a_sp F (940 : Int32) dX10_append_11 (by decide) ?_
        refine b_ge F 46 dX10_append_14 (by decide) rfl ic_940 (fun c3 => ?_) (fun c3 => ?_)
        · exact L46 _ _ _ _ hR hF hP hD hS (lv_sub hl [] rfl)
        · refine lv_aload_n F.1 F.2.1 dX10_append_17 rfl (lv_at hl 0 rfl) ?_
          refine a_getr F inX10 hP 1 0 tc_1 rfl rfl (by decide) q93 (fun _ h9 => h9) dX10_append_18 ?_
          refine lv_aload_n F.1 F.2.1 dX10_append_21 rfl (lv_at hl 0 rfl) ?_
          refine a_geti F inX10 hP 1 2 tc_1 rfl rfl (by decide) q95 (fun _ h9 => h9) (v := (u.1 1 2)) rfl dX10_append_22 ?_
          refine lv_iload_n F.1 F.2.1 dX10_append_25 rfl (lv_at hl 1 rfl) ?_
          refine lv_iload_n F.1 F.2.1 dX10_append_26 rfl (lv_at hl 2 rfl) ?_
          refine a_iushrU F dX10_append_27 (fun v4 => ?_)
          refine a_i2b F dX10_append_28 (fun v5 bv5 hv5 => ?_)
          refine a_bast F hP hD hS 2 tc_2 rfl (i_in rfl (by omega)) dX10_append_29 (fun H locs hP hD hS => ?_)
          rw [bv5] at hP hD
          have hR := hR.si (c := 2) (k := (u.1 1 2).toNatClampNeg) (v := v5) (by omega : (-128 : Int) ≤ v5.toInt ∧ v5.toInt ≤ 127)
          have hF := hF.si (c := 2) (k := (u.1 1 2).toNatClampNeg) (v := v5) rfl
          refine lv_aload_n F.1 F.2.1 dX10_append_30 rfl (lv_at hl 0 rfl) ?_
          refine lv_dup F.1 F.2.1 dX10_append_31 rfl ?_
          refine a_geti F inX10 hP 1 2 tc_1 rfl rfl (by decide) q95 (fun _ h9 => h9) (v := (u.1 1 2)) rfl dX10_append_32 ?_
          refine a_ic F (1 : Int32) dX10_append_35 (by decide) ?_
          refine a_iadd F dX10_append_36 rfl ic_1 (by omega) (fun v6 hv6 => ?_)
          refine a_puti F inX10 tyX10 tyX10_ok nmX10 hP hD hS 1 2 tc_1 rfl rfl (by decide) q95 (fun _ h9 => h9) rfl (ty := .int) (tyX10_ok 2 (by decide)) rfl rfl dX10_append_37 (fun H locs hP hD hS => ?_)
          have hR := hR.si (c := 1) (k := 2) (v := v6) (by omega : (0 : Int) ≤ v6.toInt ∧ v6.toInt ≤ 940)
          have hF := hF.si (c := 1) (k := 2) (v := v6) rfl
          refine a_iinc F (k := 2) (fun v7 => [(2, .int v7), (0, .ref (ad 1)), (1, .int x1)]) dX10_append_40 hl rfl rfl (by decide) (by omega) (by decide) (fun _ => rfl) (fun v7 ls hv7 hl => ?_)
          refine lv_goto (tgt := 3) F.1 F.2.1 dX10_append_43 (by decide) ?_
          exact ih3 x1 v7 _ _ _ _ (by omega) hR hF (by omega) hP hD hS (lv_sub hl [1, 2, 0] rfl)
  refine a_bp F (24 : Int32) dX10_append_0 (by decide) ?_
  refine lv_istore_n (lv' := [(2, .int (24 : Int32)), (0, .ref (ad 1)), (1, .int p0)]) F.1 F.2.1 dX10_append_2 rfl hl (by decide) rfl (fun ls hl => ?_)
  exact L3 34 p0 (24 : Int32) _ _ _ _ (by decide) hR hF (by decide) hP hD hS (lv_sub hl [1, 2, 0] rfl)
set_option maxHeartbeats 4000000 in
set_option maxRecDepth 100000 in
theorem c_X11_isReading (l : Launch) (dC : Nat → ClassId) (dI : Nat → Nat → Nat) (ad : Nat → Nat) (cA : Nat → ClassId) (nF : Nat) (u0 : ac_U) (p0 : Int32) (hR : ac_R rg u0) : ac_Mi l yX11_isReading (.code yX11_isReading cX11_isReading 1 (some .boolean) :: TB) 1 (dC, dI) vwCl (ac_ty cA) ad cA (TT nF) [.int p0] u0 (fun (r : Int32) (u : ac_U) => u = u0 ∧ ((0 : Int) ≤ r.toInt ∧ r.toInt ≤ 1)) := by
  refine ac_Mi.of (cc := cX11_isReading) (maxL := 1) (ret := (some .boolean)) (by decide) rfl (Nat.le_of_ble_eq_true rfl) ?_
  intro p e s m below meth c A ls F hml hr hlocks hA hP hD hS hl
  have F : ac_X p s m [.int p0].toArray c cX11_isReading RX11 TB (dC, dI) vwCl (ac_ty cA) := ⟨F.1, F.2.1, fun w h => F.2.2.1 w (List.mem_cons_of_mem _ h), F.2.2.2.1, F.2.2.2.2⟩
  have hl : lv_has ls 1 [(0, .int p0)] := hl
  have L15 : ∀ (z0 : Int32) (H : Heap) (locs : List Loc) (ls : Array Slot), (0 : Int) ≤ z0.toInt ∧ z0.toInt ≤ 1 → va_P (dC, dI) vwCl (ac_w ad cA (TT nF) u0) H → va_D A (ac_w ad cA (TT nF) u0) → va_S A s.heap H locs → lv_has ls 1 [] → W p l e (ac_rm 1) s m [.int p0].toArray below meth c H locs 0 0 (MQ below (va_Qi (fun (r : Int32) (u : ac_U) => u = u0 ∧ ((0 : Int) ≤ r.toInt ∧ r.toInt ≤ 1)) (ac_B (dC, dI) vwCl (ac_ty cA) ad cA (TT nF) A) A) [.int p0].toArray s 0 0 A) (F0 m 15 ls [.int z0]) := by
    intro z0 H locs ls f0 hP hD hS hl
    exact a_retz F hr hlocks hP hD hS dX11_isReading_15 (i_01 (by omega)) ⟨rfl, (by omega : (0 : Int) ≤ z0.toInt ∧ z0.toInt ≤ 1)⟩
  have L14 : ∀ (H : Heap) (locs : List Loc) (ls : Array Slot), va_P (dC, dI) vwCl (ac_w ad cA (TT nF) u0) H → va_D A (ac_w ad cA (TT nF) u0) → va_S A s.heap H locs → lv_has ls 1 [] → W p l e (ac_rm 1) s m [.int p0].toArray below meth c H locs 0 0 (MQ below (va_Qi (fun (r : Int32) (u : ac_U) => u = u0 ∧ ((0 : Int) ≤ r.toInt ∧ r.toInt ≤ 1)) (ac_B (dC, dI) vwCl (ac_ty cA) ad cA (TT nF) A) A) [.int p0].toArray s 0 0 A) (F0 m 14 ls []) := by
    intro H locs ls hP hD hS hl
    refine a_ic F (0 : Int32) dX11_isReading_14 (by decide) ?_
    exact L15 (0 : Int32) _ _ _ (by decide) hP hD hS (lv_sub hl [] rfl)
  refine lv_iload_n F.1 F.2.1 dX11_isReading_0 rfl (lv_at hl 0 rfl) ?_
  refine z_lt F 14 dX11_isReading_1 (by decide) rfl (fun c1 => ?_) (fun c1 => ?_)
  · exact L14 _ _ _  hP hD hS (lv_sub hl [] rfl)
  · refine lv_iload_n F.1 F.2.1 dX11_isReading_4 rfl (lv_at hl 0 rfl) ?_
    refine a_bp F (8 : Int32) dX11_isReading_5 (by decide) ?_
    refine b_ge F 14 dX11_isReading_7 (by decide) rfl ic_8 (fun c2 => ?_) (fun c2 => ?_)
    · exact L14 _ _ _  hP hD hS (lv_sub hl [] rfl)
    · refine a_ic F (1 : Int32) dX11_isReading_10 (by decide) ?_
      refine lv_goto (tgt := 15) F.1 F.2.1 dX11_isReading_11 (by decide) ?_
      exact L15 (1 : Int32) _ _ _ (by decide) hP hD hS (lv_sub hl [] rfl)
set_option maxHeartbeats 4000000 in
set_option maxRecDepth 100000 in
theorem c_X11_booked_0 (l : Launch) (dC : Nat → ClassId) (dI : Nat → Nat → Nat) (ad : Nat → Nat) (cA : Nat → ClassId) (nF : Nat) (u0 : ac_U) (p0 : Int32) (hR : ac_R rg u0) : ac_Mi l yX11_booked (.code yX11_booked cX11_booked 2 (some .int) :: TB) 1 (dC, dI) vwCl (ac_ty cA) ad cA (TT nF) [.ref (ad 0), .int p0] u0 (fun (r : Int32) (u : ac_U) => u = u0) := by
  refine ac_Mi.of (cc := cX11_booked) (maxL := 2) (ret := (some .int)) (by decide) rfl (Nat.le_of_ble_eq_true rfl) ?_
  intro p e s m below meth c A ls F hml hr hlocks hA hP hD hS hl
  have F : ac_X p s m [.ref (ad 0), .int p0].toArray c cX11_booked RX11 TB (dC, dI) vwCl (ac_ty cA) := ⟨F.1, F.2.1, fun w h => F.2.2.1 w (List.mem_cons_of_mem _ h), F.2.2.2.1, F.2.2.2.2⟩
  have hl : lv_has ls 2 [(0, .ref (ad 0)), (1, .int p0)] := hl
  refine lv_aload_n F.1 F.2.1 dX11_booked_0 rfl (lv_at hl 0 rfl) ?_
  have g1 : (0 : Int) ≤ (u0.1 0 14).toInt ∧ (u0.1 0 14).toInt ≤ 1 := hR 0 14
  refine a_geti F inX11 hP 0 14 tc_0 rfl rfl (by decide) q517 (fun _ h9 => h9) (v := (u0.1 0 14)) rfl dX11_booked_1 ?_
  refine z_ne F 9 dX11_booked_4 (by decide) rfl (fun c2 => ?_) (fun c2 => ?_)
  · refine lv_iload_n F.1 F.2.1 dX11_booked_9 rfl (lv_at hl 1 rfl) ?_
    rcases (show (p0.toInt < 0 ∨ 3 < p0.toInt) ∨ p0.toInt = 0 ∨ p0.toInt = 1 ∨ p0.toInt = 2 ∨ p0.toInt = 3 by omega) with c3 | c3 | c3 | c3 | c3
    · refine lv_tableOut (tgt := 69) F.1 F.2.1 dX11_booked_10 c3 (by decide) ?_
      refine a_ic F (-1 : Int32) dX11_booked_69 (by decide) ?_
      exact a_reti F hr hlocks hP hD hS dX11_booked_70 rfl
    · refine lv_tableIn (tgt := 40) F.1 F.2.1 dX11_booked_10 (by omega) (by omega) (by rw [c3]; rfl) (by decide) ?_
      refine lv_aload_n F.1 F.2.1 dX11_booked_40 rfl (lv_at hl 0 rfl) ?_
      refine a_getr F inX11 hP 0 8 tc_0 rfl rfl (by decide) q511 (fun _ h9 => h9) dX11_booked_41 ?_
      refine a_geti F inX0 hP 39 7 tc_39 rfl rfl (by decide) q408 (fun _ h9 => h9) (v := (u0.1 39 7)) rfl dX11_booked_44 ?_
      exact a_reti F hr hlocks hP hD hS dX11_booked_47 rfl
    · refine lv_tableIn (tgt := 48) F.1 F.2.1 dX11_booked_10 (by omega) (by omega) (by rw [c3]; rfl) (by decide) ?_
      refine lv_aload_n F.1 F.2.1 dX11_booked_48 rfl (lv_at hl 0 rfl) ?_
      refine a_getr F inX11 hP 0 8 tc_0 rfl rfl (by decide) q511 (fun _ h9 => h9) dX11_booked_49 ?_
      have g4 : (0 : Int) ≤ (u0.1 39 8).toInt ∧ (u0.1 39 8).toInt ≤ 41 := hR 39 8
      refine a_geti F inX0 hP 39 8 tc_39 rfl rfl (by decide) q410 (fun _ h9 => h9) (v := (u0.1 39 8)) rfl dX11_booked_52 ?_
      exact a_reti F hr hlocks hP hD hS dX11_booked_55 rfl
    · refine lv_tableIn (tgt := 56) F.1 F.2.1 dX11_booked_10 (by omega) (by omega) (by rw [c3]; rfl) (by decide) ?_
      refine lv_aload_n F.1 F.2.1 dX11_booked_56 rfl (lv_at hl 0 rfl) ?_
      refine a_getr F inX11 hP 0 8 tc_0 rfl rfl (by decide) q511 (fun _ h9 => h9) dX11_booked_57 ?_
      refine a_geti F inX0 hP 39 9 tc_39 rfl rfl (by decide) q412 (fun _ h9 => h9) (v := (u0.1 39 9)) rfl dX11_booked_60 ?_
      exact a_reti F hr hlocks hP hD hS dX11_booked_63 rfl
    · refine lv_tableIn (tgt := 64) F.1 F.2.1 dX11_booked_10 (by omega) (by omega) (by rw [c3]; rfl) (by decide) ?_
      refine lv_aload_n F.1 F.2.1 dX11_booked_64 rfl (lv_at hl 0 rfl) ?_
      refine a_geti F inX11 hP 0 13 tc_0 rfl rfl (by decide) q516 (fun _ h9 => h9) (v := (u0.1 0 13)) rfl dX11_booked_65 ?_
      exact a_reti F hr hlocks hP hD hS dX11_booked_68 rfl
  · refine a_ic F (-1 : Int32) dX11_booked_7 (by decide) ?_
    exact a_reti F hr hlocks hP hD hS dX11_booked_8 rfl
set_option maxHeartbeats 4000000 in
set_option maxRecDepth 100000 in
theorem c_X11_chain_0 (l : Launch) (dC : Nat → ClassId) (dI : Nat → Nat → Nat) (ad : Nat → Nat) (cA : Nat → ClassId) (nF : Nat) (u0 : ac_U) (p0 : Int32) (hR : ac_R rg u0) : ac_Mi l yX11_chain (.code yX11_chain cX11_chain 2 (some .int) :: TB) 3 (dC, dI) vwCl (ac_ty cA) ad cA (TT nF) [.ref (ad 0), .int p0] u0 (fun (r : Int32) (u : ac_U) => u = u0) := by
  refine ac_Mi.of (cc := cX11_chain) (maxL := 2) (ret := (some .int)) (by decide) rfl (Nat.le_of_ble_eq_true rfl) ?_
  intro p e s m below meth c A ls F hml hr hlocks hA hP hD hS hl
  have F : ac_X p s m [.ref (ad 0), .int p0].toArray c cX11_chain RX11 TB (dC, dI) vwCl (ac_ty cA) := ⟨F.1, F.2.1, fun w h => F.2.2.1 w (List.mem_cons_of_mem _ h), F.2.2.2.1, F.2.2.2.2⟩
  have hl : lv_has ls 2 [(0, .ref (ad 0)), (1, .int p0)] := hl
  have L23 : ∀ (z0 : Int32) (H : Heap) (locs : List Loc) (ls : Array Slot), va_P (dC, dI) vwCl (ac_w ad cA (TT nF) u0) H → va_D A (ac_w ad cA (TT nF) u0) → va_S A s.heap H locs → lv_has ls 2 [] → W p l e (ac_rm 3) s m [.ref (ad 0), .int p0].toArray below meth c H locs 0 0 (MQ below (va_Qi (fun (r : Int32) (u : ac_U) => u = u0) (ac_B (dC, dI) vwCl (ac_ty cA) ad cA (TT nF) A) A) [.ref (ad 0), .int p0].toArray s 0 0 A) (F0 m 23 ls [.int z0]) := by
    intro z0 H locs ls hP hD hS hl
    exact a_reti F hr hlocks hP hD hS dX11_chain_23 rfl
  refine lv_aload_n F.1 F.2.1 dX11_chain_0 rfl (lv_at hl 0 rfl) ?_
  refine a_getr F inX11 hP 0 1 tc_0 rfl rfl (by decide) q504 (fun _ h9 => h9) dX11_chain_1 ?_
  refine lv_iload_n F.1 F.2.1 dX11_chain_4 rfl (lv_at hl 1 rfl) ?_
  refine a_Vi F hml hl.1 hA hP hD hS (As := [.int p0]) (c_X2_isPromise_4 l dC dI ad cA nF _ p0 hR) (cs_RX11_141 (d := 1) F.2.2.1 (by decide)) tc_4 rfl rfl rfl rfl (Nat.le_of_ble_eq_true rfl) dX11_chain_5 ⟨Nat.le_refl 0, Nat.le_refl 0⟩ (fun r1 uN1 H locs hq hP hD hS => ?_)
  obtain ⟨hu1, gr1⟩ := hq
  rw [hu1] at hP hD
  refine z_eq F 22 dX11_chain_8 (by decide) rfl (fun c2 => ?_) (fun c2 => ?_)
  · refine a_ic F (-1 : Int32) dX11_chain_22 (by decide) ?_
    exact L23 (-1 : Int32) _ _ _  hP hD hS (lv_sub hl [] rfl)
  · refine lv_aload_n F.1 F.2.1 dX11_chain_11 rfl (lv_at hl 0 rfl) ?_
    refine a_getr F inX11 hP 0 1 tc_0 rfl rfl (by decide) q504 (fun _ h9 => h9) dX11_chain_12 ?_
    refine lv_iload_n F.1 F.2.1 dX11_chain_15 rfl (lv_at hl 1 rfl) ?_
    refine a_Vi F hml hl.1 hA hP hD hS (As := [.int p0]) (c_X2_chainOf_4 l dC dI ad cA nF _ p0 hR) (cs_RX11_263 (d := 2) F.2.2.1 (by decide)) tc_4 rfl rfl rfl rfl (Nat.le_of_ble_eq_true rfl) dX11_chain_16 ⟨Nat.le_refl 0, Nat.le_refl 0⟩ (fun r3 uN3 H locs hq hP hD hS => ?_)
    have hu3 := hq
    rw [hu3] at hP hD
    refine lv_goto (tgt := 23) F.1 F.2.1 dX11_chain_19 (by decide) ?_
    exact L23 r3 _ _ _  hP hD hS (lv_sub hl [] rfl)
set_option maxHeartbeats 4000000 in
set_option maxRecDepth 100000 in
theorem c_X11_count_0 (l : Launch) (dC : Nat → ClassId) (dI : Nat → Nat → Nat) (ad : Nat → Nat) (cA : Nat → ClassId) (nF : Nat) (u0 : ac_U) (p0 : Int32) (hR : ac_R rg u0) : ac_Mi l yX11_count (.code yX11_count cX11_count 2 (some .int) :: TB) 1 (dC, dI) vwCl (ac_ty cA) ad cA (TT nF) [.ref (ad 0), .int p0] u0 (fun (r : Int32) (u : ac_U) => u = u0 ∧ ((-1 : Int) ≤ r.toInt ∧ r.toInt ≤ 940)) := by
  refine ac_Mi.of (cc := cX11_count) (maxL := 2) (ret := (some .int)) (by decide) rfl (Nat.le_of_ble_eq_true rfl) ?_
  intro p e s m below meth c A ls F hml hr hlocks hA hP hD hS hl
  have F : ac_X p s m [.ref (ad 0), .int p0].toArray c cX11_count RX11 TB (dC, dI) vwCl (ac_ty cA) := ⟨F.1, F.2.1, fun w h => F.2.2.1 w (List.mem_cons_of_mem _ h), F.2.2.2.1, F.2.2.2.2⟩
  have hl : lv_has ls 2 [(0, .ref (ad 0)), (1, .int p0)] := hl
  refine lv_iload_n F.1 F.2.1 dX11_count_0 rfl (lv_at hl 1 rfl) ?_
  rcases (show (p0.toInt < 0 ∨ 8 < p0.toInt) ∨ p0.toInt = 0 ∨ p0.toInt = 1 ∨ p0.toInt = 2 ∨ p0.toInt = 3 ∨ p0.toInt = 4 ∨ p0.toInt = 5 ∨ p0.toInt = 6 ∨ p0.toInt = 7 ∨ p0.toInt = 8 by omega) with c1 | c1 | c1 | c1 | c1 | c1 | c1 | c1 | c1 | c1
  · refine lv_tableOut (tgt := 124) F.1 F.2.1 dX11_count_1 c1 (by decide) ?_
    refine a_ic F (-1 : Int32) dX11_count_124 (by decide) ?_
    exact a_reti F hr hlocks hP hD hS dX11_count_125 ⟨rfl, (by decide)⟩
  · refine lv_tableIn (tgt := 52) F.1 F.2.1 dX11_count_1 (by omega) (by omega) (by rw [c1]; rfl) (by decide) ?_
    refine lv_aload_n F.1 F.2.1 dX11_count_52 rfl (lv_at hl 0 rfl) ?_
    refine a_getr F inX11 hP 0 1 tc_0 rfl rfl (by decide) q504 (fun _ h9 => h9) dX11_count_53 ?_
    have g2 : (4 : Int) ≤ (u0.1 4 0).toInt ∧ (u0.1 4 0).toInt ≤ 24 := hR 4 0
    refine a_geti F inX2 hP 4 0 tc_4 rfl rfl (by decide) q156 (fun _ h9 => h9) (v := (u0.1 4 0)) rfl dX11_count_56 ?_
    exact a_reti F hr hlocks hP hD hS dX11_count_59 ⟨rfl, (by omega : (-1 : Int) ≤ (u0.1 4 0).toInt ∧ (u0.1 4 0).toInt ≤ 940)⟩
  · refine lv_tableIn (tgt := 60) F.1 F.2.1 dX11_count_1 (by omega) (by omega) (by rw [c1]; rfl) (by decide) ?_
    refine lv_aload_n F.1 F.2.1 dX11_count_60 rfl (lv_at hl 0 rfl) ?_
    refine a_getr F inX11 hP 0 1 tc_0 rfl rfl (by decide) q504 (fun _ h9 => h9) dX11_count_61 ?_
    have g3 : (0 : Int) ≤ (u0.1 4 1).toInt ∧ (u0.1 4 1).toInt ≤ 8 := hR 4 1
    refine a_geti F inX2 hP 4 1 tc_4 rfl rfl (by decide) q161 (fun _ h9 => h9) (v := (u0.1 4 1)) rfl dX11_count_64 ?_
    exact a_reti F hr hlocks hP hD hS dX11_count_67 ⟨rfl, (by omega : (-1 : Int) ≤ (u0.1 4 1).toInt ∧ (u0.1 4 1).toInt ≤ 940)⟩
  · refine lv_tableIn (tgt := 68) F.1 F.2.1 dX11_count_1 (by omega) (by omega) (by rw [c1]; rfl) (by decide) ?_
    refine lv_aload_n F.1 F.2.1 dX11_count_68 rfl (lv_at hl 0 rfl) ?_
    refine a_getr F inX11 hP 0 1 tc_0 rfl rfl (by decide) q504 (fun _ h9 => h9) dX11_count_69 ?_
    have g4 : (0 : Int) ≤ (u0.1 4 2).toInt ∧ (u0.1 4 2).toInt ≤ 12 := hR 4 2
    refine a_geti F inX2 hP 4 2 tc_4 rfl rfl (by decide) q164 (fun _ h9 => h9) (v := (u0.1 4 2)) rfl dX11_count_72 ?_
    exact a_reti F hr hlocks hP hD hS dX11_count_75 ⟨rfl, (by omega : (-1 : Int) ≤ (u0.1 4 2).toInt ∧ (u0.1 4 2).toInt ≤ 940)⟩
  · refine lv_tableIn (tgt := 76) F.1 F.2.1 dX11_count_1 (by omega) (by omega) (by rw [c1]; rfl) (by decide) ?_
    refine lv_aload_n F.1 F.2.1 dX11_count_76 rfl (lv_at hl 0 rfl) ?_
    refine a_getr F inX11 hP 0 1 tc_0 rfl rfl (by decide) q504 (fun _ h9 => h9) dX11_count_77 ?_
    have g5 : (0 : Int) ≤ (u0.1 4 3).toInt ∧ (u0.1 4 3).toInt ≤ 6 := hR 4 3
    refine a_geti F inX2 hP 4 3 tc_4 rfl rfl (by decide) q168 (fun _ h9 => h9) (v := (u0.1 4 3)) rfl dX11_count_80 ?_
    exact a_reti F hr hlocks hP hD hS dX11_count_83 ⟨rfl, (by omega : (-1 : Int) ≤ (u0.1 4 3).toInt ∧ (u0.1 4 3).toInt ≤ 940)⟩
  · refine lv_tableIn (tgt := 84) F.1 F.2.1 dX11_count_1 (by omega) (by omega) (by rw [c1]; rfl) (by decide) ?_
    refine lv_aload_n F.1 F.2.1 dX11_count_84 rfl (lv_at hl 0 rfl) ?_
    refine a_getr F inX11 hP 0 1 tc_0 rfl rfl (by decide) q504 (fun _ h9 => h9) dX11_count_85 ?_
    have g6 : (0 : Int) ≤ (u0.1 4 4).toInt ∧ (u0.1 4 4).toInt ≤ 4 := hR 4 4
    refine a_geti F inX2 hP 4 4 tc_4 rfl rfl (by decide) q172 (fun _ h9 => h9) (v := (u0.1 4 4)) rfl dX11_count_88 ?_
    exact a_reti F hr hlocks hP hD hS dX11_count_91 ⟨rfl, (by omega : (-1 : Int) ≤ (u0.1 4 4).toInt ∧ (u0.1 4 4).toInt ≤ 940)⟩
  · refine lv_tableIn (tgt := 92) F.1 F.2.1 dX11_count_1 (by omega) (by omega) (by rw [c1]; rfl) (by decide) ?_
    refine lv_aload_n F.1 F.2.1 dX11_count_92 rfl (lv_at hl 0 rfl) ?_
    refine a_getr F inX11 hP 0 1 tc_0 rfl rfl (by decide) q504 (fun _ h9 => h9) dX11_count_93 ?_
    have g7 : (0 : Int) ≤ (u0.1 4 5).toInt ∧ (u0.1 4 5).toInt ≤ 6 := hR 4 5
    refine a_geti F inX2 hP 4 5 tc_4 rfl rfl (by decide) q177 (fun _ h9 => h9) (v := (u0.1 4 5)) rfl dX11_count_96 ?_
    exact a_reti F hr hlocks hP hD hS dX11_count_99 ⟨rfl, (by omega : (-1 : Int) ≤ (u0.1 4 5).toInt ∧ (u0.1 4 5).toInt ≤ 940)⟩
  · refine lv_tableIn (tgt := 100) F.1 F.2.1 dX11_count_1 (by omega) (by omega) (by rw [c1]; rfl) (by decide) ?_
    refine lv_aload_n F.1 F.2.1 dX11_count_100 rfl (lv_at hl 0 rfl) ?_
    refine a_getr F inX11 hP 0 1 tc_0 rfl rfl (by decide) q504 (fun _ h9 => h9) dX11_count_101 ?_
    have g8 : (0 : Int) ≤ (u0.1 4 6).toInt ∧ (u0.1 4 6).toInt ≤ 8 := hR 4 6
    refine a_geti F inX2 hP 4 6 tc_4 rfl rfl (by decide) q184 (fun _ h9 => h9) (v := (u0.1 4 6)) rfl dX11_count_104 ?_
    exact a_reti F hr hlocks hP hD hS dX11_count_107 ⟨rfl, (by omega : (-1 : Int) ≤ (u0.1 4 6).toInt ∧ (u0.1 4 6).toInt ≤ 940)⟩
  · refine lv_tableIn (tgt := 108) F.1 F.2.1 dX11_count_1 (by omega) (by omega) (by rw [c1]; rfl) (by decide) ?_
    refine lv_aload_n F.1 F.2.1 dX11_count_108 rfl (lv_at hl 0 rfl) ?_
    refine a_getr F inX11 hP 0 1 tc_0 rfl rfl (by decide) q504 (fun _ h9 => h9) dX11_count_109 ?_
    have g9 : (0 : Int) ≤ (u0.1 4 7).toInt ∧ (u0.1 4 7).toInt ≤ 8 := hR 4 7
    refine a_geti F inX2 hP 4 7 tc_4 rfl rfl (by decide) q187 (fun _ h9 => h9) (v := (u0.1 4 7)) rfl dX11_count_112 ?_
    exact a_reti F hr hlocks hP hD hS dX11_count_115 ⟨rfl, (by omega : (-1 : Int) ≤ (u0.1 4 7).toInt ∧ (u0.1 4 7).toInt ≤ 940)⟩
  · refine lv_tableIn (tgt := 116) F.1 F.2.1 dX11_count_1 (by omega) (by omega) (by rw [c1]; rfl) (by decide) ?_
    refine lv_aload_n F.1 F.2.1 dX11_count_116 rfl (lv_at hl 0 rfl) ?_
    refine a_getr F inX11 hP 0 0 tc_0 rfl rfl (by decide) q503 (fun _ h9 => h9) dX11_count_117 ?_
    have g10 : (0 : Int) ≤ (u0.1 1 2).toInt ∧ (u0.1 1 2).toInt ≤ 940 := hR 1 2
    refine a_geti F inX10 hP 1 2 tc_1 rfl rfl (by decide) q96 (fun _ h9 => h9) (v := (u0.1 1 2)) rfl dX11_count_120 ?_
    exact a_reti F hr hlocks hP hD hS dX11_count_123 ⟨rfl, (by omega : (-1 : Int) ≤ (u0.1 1 2).toInt ∧ (u0.1 1 2).toInt ≤ 940)⟩
set_option maxHeartbeats 4000000 in
set_option maxRecDepth 100000 in
theorem c_X11_done_0 (l : Launch) (dC : Nat → ClassId) (dI : Nat → Nat → Nat) (ad : Nat → Nat) (cA : Nat → ClassId) (nF : Nat) (u0 : ac_U) (p0 : Int32) (p1 : Int32) (hR : ac_R rg u0) : ac_Mi l yX11_done (.code yX11_done cX11_done 3 (some .int) :: TB) 2 (dC, dI) vwCl (ac_ty cA) ad cA (TT nF) [.ref (ad 0), .int p0, .int p1] u0 (fun (r : Int32) (u : ac_U) => u = u0) := by
  refine ac_Mi.of (cc := cX11_done) (maxL := 3) (ret := (some .int)) (by decide) rfl (Nat.le_of_ble_eq_true rfl) ?_
  intro p e s m below meth c A ls F hml hr hlocks hA hP hD hS hl
  have F : ac_X p s m [.ref (ad 0), .int p0, .int p1].toArray c cX11_done RX11 TB (dC, dI) vwCl (ac_ty cA) := ⟨F.1, F.2.1, fun w h => F.2.2.1 w (List.mem_cons_of_mem _ h), F.2.2.2.1, F.2.2.2.2⟩
  have hl : lv_has ls 3 [(0, .ref (ad 0)), (1, .int p0), (2, .int p1)] := hl
  have L26 : ∀ (H : Heap) (locs : List Loc) (ls : Array Slot), va_P (dC, dI) vwCl (ac_w ad cA (TT nF) u0) H → va_D A (ac_w ad cA (TT nF) u0) → va_S A s.heap H locs → lv_has ls 3 [] → W p l e (ac_rm 2) s m [.ref (ad 0), .int p0, .int p1].toArray below meth c H locs 0 0 (MQ below (va_Qi (fun (r : Int32) (u : ac_U) => u = u0) (ac_B (dC, dI) vwCl (ac_ty cA) ad cA (TT nF) A) A) [.ref (ad 0), .int p0, .int p1].toArray s 0 0 A) (F0 m 26 ls []) := by
    intro H locs ls hP hD hS hl
    refine a_ic F (-1 : Int32) dX11_done_26 (by decide) ?_
    exact a_reti F hr hlocks hP hD hS dX11_done_27 rfl
  refine lv_iload_n F.1 F.2.1 dX11_done_0 rfl (lv_at hl 1 rfl) ?_
  refine z_lt F 26 dX11_done_1 (by decide) rfl (fun c1 => ?_) (fun c1 => ?_)
  · exact L26 _ _ _  hP hD hS (lv_sub hl [] rfl)
  · refine lv_iload_n F.1 F.2.1 dX11_done_4 rfl (lv_at hl 1 rfl) ?_
    refine lv_aload_n F.1 F.2.1 dX11_done_5 rfl (lv_at hl 0 rfl) ?_
    refine a_getr F inX11 hP 0 4 tc_0 rfl rfl (by decide) q507 (fun _ h9 => h9) dX11_done_6 ?_
    refine a_getr F inX6 hP 24 1 tc_24 rfl rfl (by decide) q276 (fun _ h9 => h9) dX11_done_9 ?_
    refine a_ic F (2 : Int32) dX11_done_12 (by decide) ?_
    refine a_iald F hP 25 tc_25 rfl (i_in ic_2 (by omega)) dX11_done_13 (fun v2 ev2 => ?_)
    have hv2 : (0 : Int) ≤ v2.toInt ∧ v2.toInt ≤ 80 := ev2 ▸ hR 25 _
    refine b_ge F 26 dX11_done_14 (by decide) rfl rfl (fun c3 => ?_) (fun c3 => ?_)
    · exact L26 _ _ _  hP hD hS (lv_sub hl [] rfl)
    · refine lv_iload_n F.1 F.2.1 dX11_done_17 rfl (lv_at hl 2 rfl) ?_
      refine z_lt F 26 dX11_done_18 (by decide) rfl (fun c4 => ?_) (fun c4 => ?_)
      · exact L26 _ _ _  hP hD hS (lv_sub hl [] rfl)
      · refine lv_iload_n F.1 F.2.1 dX11_done_21 rfl (lv_at hl 2 rfl) ?_
        refine a_ic F (4 : Int32) dX11_done_22 (by decide) ?_
        refine b_lt F 28 dX11_done_23 (by decide) rfl ic_4 (fun c5 => ?_) (fun c5 => ?_)
        · refine lv_aload_n F.1 F.2.1 dX11_done_28 rfl (lv_at hl 0 rfl) ?_
          refine a_getr F inX11 hP 0 4 tc_0 rfl rfl (by decide) q507 (fun _ h9 => h9) dX11_done_29 ?_
          refine lv_iload_n F.1 F.2.1 dX11_done_32 rfl (lv_at hl 1 rfl) ?_
          refine lv_iload_n F.1 F.2.1 dX11_done_33 rfl (lv_at hl 2 rfl) ?_
          refine a_Vi F hml hl.1 hA hP hD hS (As := [.int p0, .int p1]) (c_X6_mark_24 l dC dI ad cA nF _ p0 p1 hR (by omega) (by omega)) (cs_RX11_227 (d := 1) F.2.2.1 (by decide)) tc_24 rfl rfl rfl rfl (Nat.le_of_ble_eq_true rfl) dX11_done_34 ⟨Nat.le_refl 0, Nat.le_refl 0⟩ (fun r6 uN6 H locs hq hP hD hS => ?_)
          have hu6 := hq
          rw [hu6] at hP hD
          exact a_reti F hr hlocks hP hD hS dX11_done_37 rfl
        · exact L26 _ _ _  hP hD hS (lv_sub hl [] rfl)
set_option maxHeartbeats 4000000 in
set_option maxRecDepth 100000 in
theorem c_X11_dry_0 (l : Launch) (dC : Nat → ClassId) (dI : Nat → Nat → Nat) (ad : Nat → Nat) (cA : Nat → ClassId) (nF : Nat) (u0 : ac_U)  (hR : ac_R rg u0) : ac_Mi l yX11_dry (.code yX11_dry cX11_dry 1 (some .int) :: TB) 3 (dC, dI) vwCl (ac_ty cA) ad cA (TT nF) [.ref (ad 0)] u0 (fun (r : Int32) (u : ac_U) => u = u0) := by
  refine ac_Mi.of (cc := cX11_dry) (maxL := 1) (ret := (some .int)) (by decide) rfl (Nat.le_of_ble_eq_true rfl) ?_
  intro p e s m below meth c A ls F hml hr hlocks hA hP hD hS hl
  have F : ac_X p s m [.ref (ad 0)].toArray c cX11_dry RX11 TB (dC, dI) vwCl (ac_ty cA) := ⟨F.1, F.2.1, fun w h => F.2.2.1 w (List.mem_cons_of_mem _ h), F.2.2.2.1, F.2.2.2.2⟩
  have hl : lv_has ls 1 [(0, .ref (ad 0))] := hl
  refine lv_aload_n F.1 F.2.1 dX11_dry_0 rfl (lv_at hl 0 rfl) ?_
  refine a_getr F inX11 hP 0 1 tc_0 rfl rfl (by decide) q504 (fun _ h9 => h9) dX11_dry_1 ?_
  refine a_Vi F hml hl.1 hA hP hD hS (As := []) (c_X2_dryBits_4 l dC dI ad cA nF _  hR) (cs_RX11_278 (d := 2) F.2.2.1 (by decide)) tc_4 rfl rfl rfl rfl (Nat.le_of_ble_eq_true rfl) dX11_dry_4 ⟨Nat.le_refl 0, Nat.le_refl 0⟩ (fun r1 uN1 H locs hq hP hD hS => ?_)
  have hu1 := hq
  rw [hu1] at hP hD
  exact a_reti F hr hlocks hP hD hS dX11_dry_7 rfl
set_option maxHeartbeats 4000000 in
set_option maxRecDepth 100000 in
theorem c_X11_end_0 (l : Launch) (dC : Nat → ClassId) (dI : Nat → Nat → Nat) (ad : Nat → Nat) (cA : Nat → ClassId) (nF : Nat) (u0 : ac_U) (p0 : Int32) (hR : ac_R rg u0) : ac_Mi l yX11_end (.code yX11_end cX11_end 2 (some .boolean) :: TB) 1 (dC, dI) vwCl (ac_ty cA) ad cA (TT nF) [.ref (ad 0), .int p0] u0 (fun (r : Int32) (u : ac_U) => ac_R rg u ∧ ac_Fr [(1, some 2)] u0 u ∧ ((0 : Int) ≤ r.toInt ∧ r.toInt ≤ 1)) := by
  refine ac_Mi.of (cc := cX11_end) (maxL := 2) (ret := (some .boolean)) (by decide) rfl (Nat.le_of_ble_eq_true rfl) ?_
  intro p e s m below meth c A ls F hml hr hlocks hA hP hD hS hl
  have F : ac_X p s m [.ref (ad 0), .int p0].toArray c cX11_end RX11 TB (dC, dI) vwCl (ac_ty cA) := ⟨F.1, F.2.1, fun w h => F.2.2.1 w (List.mem_cons_of_mem _ h), F.2.2.2.1, F.2.2.2.2⟩
  have hl : lv_has ls 2 [(0, .ref (ad 0)), (1, .int p0)] := hl
  have hF : ac_Fr [(1, some 2)] u0 u0 := ac_Fr.rf
  have L15 : ∀ (u : ac_U) (H : Heap) (locs : List Loc) (ls : Array Slot), ac_R rg u → ac_Fr [(1, some 2)] u0 u → va_P (dC, dI) vwCl (ac_w ad cA (TT nF) u) H → va_D A (ac_w ad cA (TT nF) u) → va_S A s.heap H locs → lv_has ls 2 [] → W p l e (ac_rm 1) s m [.ref (ad 0), .int p0].toArray below meth c H locs 0 0 (MQ below (va_Qi (fun (r : Int32) (u : ac_U) => ac_R rg u ∧ ac_Fr [(1, some 2)] u0 u ∧ ((0 : Int) ≤ r.toInt ∧ r.toInt ≤ 1)) (ac_B (dC, dI) vwCl (ac_ty cA) ad cA (TT nF) A) A) [.ref (ad 0), .int p0].toArray s 0 0 A) (F0 m 15 ls []) := by
    intro u H locs ls hR hF hP hD hS hl
    refine a_ic F (0 : Int32) dX11_end_15 (by decide) ?_
    exact a_retz F hr hlocks hP hD hS dX11_end_16 (Or.inl rfl) ⟨hR, hF, (by decide)⟩
  refine lv_iload_n F.1 F.2.1 dX11_end_0 rfl (lv_at hl 1 rfl) ?_
  refine z_lt F 15 dX11_end_1 (by decide) rfl (fun c1 => ?_) (fun c1 => ?_)
  · exact L15 _ _ _ _ hR hF hP hD hS (lv_sub hl [] rfl)
  · refine lv_iload_n F.1 F.2.1 dX11_end_4 rfl (lv_at hl 1 rfl) ?_
    refine lv_aload_n F.1 F.2.1 dX11_end_5 rfl (lv_at hl 0 rfl) ?_
    refine a_getr F inX11 hP 0 0 tc_0 rfl rfl (by decide) q503 (fun _ h9 => h9) dX11_end_6 ?_
    have g2 : (0 : Int) ≤ (u0.1 1 2).toInt ∧ (u0.1 1 2).toInt ≤ 940 := hR 1 2
    refine a_geti F inX10 hP 1 2 tc_1 rfl rfl (by decide) q96 (fun _ h9 => h9) (v := (u0.1 1 2)) rfl dX11_end_9 ?_
    refine b_le F 17 dX11_end_12 (by decide) rfl rfl (fun c3 => ?_) (fun c3 => ?_)
    · refine lv_aload_n F.1 F.2.1 dX11_end_17 rfl (lv_at hl 0 rfl) ?_
      refine a_getr F inX11 hP 0 0 tc_0 rfl rfl (by decide) q503 (fun _ h9 => h9) dX11_end_18 ?_
      refine lv_iload_n F.1 F.2.1 dX11_end_21 rfl (lv_at hl 1 rfl) ?_
      refine a_puti F inX10 tyX10 tyX10_ok nmX10 hP hD hS 1 2 tc_1 rfl rfl (by decide) q96 (fun _ h9 => h9) rfl (ty := .int) (tyX10_ok 2 (by decide)) rfl rfl dX11_end_22 (fun H locs hP hD hS => ?_)
      have hR := hR.si (c := 1) (k := 2) (v := p0) (by omega : (0 : Int) ≤ p0.toInt ∧ p0.toInt ≤ 940)
      have hF := hF.si (c := 1) (k := 2) (v := p0) rfl
      refine a_ic F (1 : Int32) dX11_end_25 (by decide) ?_
      exact a_retz F hr hlocks hP hD hS dX11_end_26 (Or.inr rfl) ⟨hR, hF, (by decide)⟩
    · exact L15 _ _ _ _ hR hF hP hD hS (lv_sub hl [] rfl)
set_option maxHeartbeats 4000000 in
set_option maxRecDepth 100000 in
theorem c_X11_fault_0 (l : Launch) (dC : Nat → ClassId) (dI : Nat → Nat → Nat) (ad : Nat → Nat) (cA : Nat → ClassId) (nF : Nat) (u0 : ac_U)  (hR : ac_R rg u0) : ac_Mi l yX11_fault (.code yX11_fault cX11_fault 1 (some .int) :: TB) 1 (dC, dI) vwCl (ac_ty cA) ad cA (TT nF) [.ref (ad 0)] u0 (fun (r : Int32) (u : ac_U) => u = u0 ∧ ((0 : Int) ≤ r.toInt ∧ r.toInt ≤ 4)) := by
  refine ac_Mi.of (cc := cX11_fault) (maxL := 1) (ret := (some .int)) (by decide) rfl (Nat.le_of_ble_eq_true rfl) ?_
  intro p e s m below meth c A ls F hml hr hlocks hA hP hD hS hl
  have F : ac_X p s m [.ref (ad 0)].toArray c cX11_fault RX11 TB (dC, dI) vwCl (ac_ty cA) := ⟨F.1, F.2.1, fun w h => F.2.2.1 w (List.mem_cons_of_mem _ h), F.2.2.2.1, F.2.2.2.2⟩
  have hl : lv_has ls 1 [(0, .ref (ad 0))] := hl
  refine lv_aload_n F.1 F.2.1 dX11_fault_0 rfl (lv_at hl 0 rfl) ?_
  refine a_getr F inX11 hP 0 0 tc_0 rfl rfl (by decide) q503 (fun _ h9 => h9) dX11_fault_1 ?_
  have g1 : (0 : Int) ≤ (u0.1 1 10).toInt ∧ (u0.1 1 10).toInt ≤ 4 := hR 1 10
  refine a_geti F inX10 hP 1 10 tc_1 rfl rfl (by decide) q115 (fun _ h9 => h9) (v := (u0.1 1 10)) rfl dX11_fault_4 ?_
  exact a_reti F hr hlocks hP hD hS dX11_fault_7 ⟨rfl, (by omega : (0 : Int) ≤ (u0.1 1 10).toInt ∧ (u0.1 1 10).toInt ≤ 4)⟩
set_option maxHeartbeats 4000000 in
set_option maxRecDepth 100000 in
theorem c_X11_feed_0 (l : Launch) (dC : Nat → ClassId) (dI : Nat → Nat → Nat) (ad : Nat → Nat) (cA : Nat → ClassId) (nF : Nat) (u0 : ac_U) (p0 : Int32) (p1 : Int32) (p2 : Int32) (p3 : Int32) (p4 : Int32) (hR : ac_R rg u0) : ac_Mi l yX11_feed (.code yX11_feed cX11_feed 6 (some .int) :: TB) 2 (dC, dI) vwCl (ac_ty cA) ad cA (TT nF) [.ref (ad 0), .int p0, .int p1, .int p2, .int p3, .int p4] u0 (fun (r : Int32) (u : ac_U) => ac_R rg u ∧ ac_Fr [(1, some 2), (2, none)] u0 u ∧ ((-1 : Int) ≤ r.toInt ∧ r.toInt ≤ 940)) := by
  refine ac_Mi.of (cc := cX11_feed) (maxL := 6) (ret := (some .int)) (by decide) rfl (Nat.le_of_ble_eq_true rfl) ?_
  intro p e s m below meth c A ls F hml hr hlocks hA hP hD hS hl
  have F : ac_X p s m [.ref (ad 0), .int p0, .int p1, .int p2, .int p3, .int p4].toArray c cX11_feed RX11 TB (dC, dI) vwCl (ac_ty cA) := ⟨F.1, F.2.1, fun w h => F.2.2.1 w (List.mem_cons_of_mem _ h), F.2.2.2.1, F.2.2.2.2⟩
  have hl : lv_has ls 6 [(0, .ref (ad 0)), (1, .int p0), (2, .int p1), (3, .int p2), (4, .int p3), (5, .int p4)] := hl
  have hF : ac_Fr [(1, some 2), (2, none)] u0 u0 := ac_Fr.rf
  refine lv_aload_n F.1 F.2.1 dX11_feed_0 rfl (lv_at hl 0 rfl) ?_
  refine a_getr F inX11 hP 0 0 tc_0 rfl rfl (by decide) q503 (fun _ h9 => h9) dX11_feed_1 ?_
  have g1 : (0 : Int) ≤ (u0.1 1 2).toInt ∧ (u0.1 1 2).toInt ≤ 940 := hR 1 2
  refine a_geti F inX10 hP 1 2 tc_1 rfl rfl (by decide) q96 (fun _ h9 => h9) (v := (u0.1 1 2)) rfl dX11_feed_4 ?_
  refine a_bp F (20 : Int32) dX11_feed_7 (by decide) ?_
  refine a_iadd F dX11_feed_9 rfl ic_20 (by omega) (fun v2 hv2 => ?_)
  refine a_sp F (940 : Int32) dX11_feed_10 (by decide) ?_
  refine b_le F 18 dX11_feed_13 (by decide) rfl ic_940 (fun c3 => ?_) (fun c3 => ?_)
  · refine lv_aload_n F.1 F.2.1 dX11_feed_18 rfl (lv_at hl 0 rfl) ?_
    refine a_getr F inX11 hP 0 0 tc_0 rfl rfl (by decide) q503 (fun _ h9 => h9) dX11_feed_19 ?_
    refine lv_iload_n F.1 F.2.1 dX11_feed_22 rfl (lv_at hl 1 rfl) ?_
    refine a_Vv F hml hl.1 hA hP hD hS (As := [.int p0]) (c_X10_append_1 l dC dI ad cA nF _ p0 hR) (cs_RX11_115 (d := 1) F.2.2.1 (by decide)) tc_1 rfl rfl rfl rfl (Nat.le_of_ble_eq_true rfl) dX11_feed_23 ⟨Nat.le_refl 0, Nat.le_refl 0⟩ (fun u H locs hq hP hD hS => ?_)
    obtain ⟨hR, hF4⟩ := hq
    have hF := hF.tr hF4 (by decide)
    refine lv_aload_n F.1 F.2.1 dX11_feed_26 rfl (lv_at hl 0 rfl) ?_
    refine a_getr F inX11 hP 0 0 tc_0 rfl rfl (by decide) q503 (fun _ h9 => h9) dX11_feed_27 ?_
    refine lv_iload_n F.1 F.2.1 dX11_feed_30 rfl (lv_at hl 2 rfl) ?_
    refine a_Vv F hml hl.1 hA hP hD hS (As := [.int p1]) (c_X10_append_1 l dC dI ad cA nF _ p1 hR) (cs_RX11_115 (d := 1) F.2.2.1 (by decide)) tc_1 rfl rfl rfl rfl (Nat.le_of_ble_eq_true rfl) dX11_feed_31 ⟨Nat.le_refl 0, Nat.le_refl 0⟩ (fun u H locs hq hP hD hS => ?_)
    obtain ⟨hR, hF5⟩ := hq
    have hF := hF.tr hF5 (by decide)
    refine lv_aload_n F.1 F.2.1 dX11_feed_34 rfl (lv_at hl 0 rfl) ?_
    refine a_getr F inX11 hP 0 0 tc_0 rfl rfl (by decide) q503 (fun _ h9 => h9) dX11_feed_35 ?_
    refine lv_iload_n F.1 F.2.1 dX11_feed_38 rfl (lv_at hl 3 rfl) ?_
    refine a_Vv F hml hl.1 hA hP hD hS (As := [.int p2]) (c_X10_append_1 l dC dI ad cA nF _ p2 hR) (cs_RX11_115 (d := 1) F.2.2.1 (by decide)) tc_1 rfl rfl rfl rfl (Nat.le_of_ble_eq_true rfl) dX11_feed_39 ⟨Nat.le_refl 0, Nat.le_refl 0⟩ (fun u H locs hq hP hD hS => ?_)
    obtain ⟨hR, hF6⟩ := hq
    have hF := hF.tr hF6 (by decide)
    refine lv_aload_n F.1 F.2.1 dX11_feed_42 rfl (lv_at hl 0 rfl) ?_
    refine a_getr F inX11 hP 0 0 tc_0 rfl rfl (by decide) q503 (fun _ h9 => h9) dX11_feed_43 ?_
    refine lv_iload F.1 F.2.1 dX11_feed_46 (lv_at hl 4 rfl) ?_
    refine a_Vv F hml hl.1 hA hP hD hS (As := [.int p3]) (c_X10_append_1 l dC dI ad cA nF _ p3 hR) (cs_RX11_115 (d := 1) F.2.2.1 (by decide)) tc_1 rfl rfl rfl rfl (Nat.le_of_ble_eq_true rfl) dX11_feed_48 ⟨Nat.le_refl 0, Nat.le_refl 0⟩ (fun u H locs hq hP hD hS => ?_)
    obtain ⟨hR, hF7⟩ := hq
    have hF := hF.tr hF7 (by decide)
    refine lv_aload_n F.1 F.2.1 dX11_feed_51 rfl (lv_at hl 0 rfl) ?_
    refine a_getr F inX11 hP 0 0 tc_0 rfl rfl (by decide) q503 (fun _ h9 => h9) dX11_feed_52 ?_
    refine lv_iload F.1 F.2.1 dX11_feed_55 (lv_at hl 5 rfl) ?_
    refine a_Vv F hml hl.1 hA hP hD hS (As := [.int p4]) (c_X10_append_1 l dC dI ad cA nF _ p4 hR) (cs_RX11_115 (d := 1) F.2.2.1 (by decide)) tc_1 rfl rfl rfl rfl (Nat.le_of_ble_eq_true rfl) dX11_feed_57 ⟨Nat.le_refl 0, Nat.le_refl 0⟩ (fun u H locs hq hP hD hS => ?_)
    obtain ⟨hR, hF8⟩ := hq
    have hF := hF.tr hF8 (by decide)
    refine lv_aload_n F.1 F.2.1 dX11_feed_60 rfl (lv_at hl 0 rfl) ?_
    refine a_getr F inX11 hP 0 0 tc_0 rfl rfl (by decide) q503 (fun _ h9 => h9) dX11_feed_61 ?_
    have g9 : (0 : Int) ≤ (u.1 1 2).toInt ∧ (u.1 1 2).toInt ≤ 940 := hR 1 2
    refine a_geti F inX10 hP 1 2 tc_1 rfl rfl (by decide) q96 (fun _ h9 => h9) (v := (u.1 1 2)) rfl dX11_feed_64 ?_
    exact a_reti F hr hlocks hP hD hS dX11_feed_67 ⟨hR, hF, (by omega : (-1 : Int) ≤ (u.1 1 2).toInt ∧ (u.1 1 2).toInt ≤ 940)⟩
  · refine a_ic F (-1 : Int32) dX11_feed_16 (by decide) ?_
    exact a_reti F hr hlocks hP hD hS dX11_feed_17 ⟨hR, hF, (by decide)⟩
set_option maxHeartbeats 4000000 in
set_option maxRecDepth 100000 in
theorem c_X11_rings_0 (l : Launch) (dC : Nat → ClassId) (dI : Nat → Nat → Nat) (ad : Nat → Nat) (cA : Nat → ClassId) (nF : Nat) (u0 : ac_U)  (hR : ac_R rg u0) : ac_Mi l yX11_rings (.code yX11_rings cX11_rings 1 (some .int) :: TB) 3 (dC, dI) vwCl (ac_ty cA) ad cA (TT nF) [.ref (ad 0)] u0 (fun (r : Int32) (u : ac_U) => u = u0) := by
  refine ac_Mi.of (cc := cX11_rings) (maxL := 1) (ret := (some .int)) (by decide) rfl (Nat.le_of_ble_eq_true rfl) ?_
  intro p e s m below meth c A ls F hml hr hlocks hA hP hD hS hl
  have F : ac_X p s m [.ref (ad 0)].toArray c cX11_rings RX11 TB (dC, dI) vwCl (ac_ty cA) := ⟨F.1, F.2.1, fun w h => F.2.2.1 w (List.mem_cons_of_mem _ h), F.2.2.2.1, F.2.2.2.2⟩
  have hl : lv_has ls 1 [(0, .ref (ad 0))] := hl
  refine lv_aload_n F.1 F.2.1 dX11_rings_0 rfl (lv_at hl 0 rfl) ?_
  refine a_getr F inX11 hP 0 1 tc_0 rfl rfl (by decide) q504 (fun _ h9 => h9) dX11_rings_1 ?_
  refine a_Vi F hml hl.1 hA hP hD hS (As := []) (c_X2_ringBits_4 l dC dI ad cA nF _  hR) (cs_RX11_266 (d := 2) F.2.2.1 (by decide)) tc_4 rfl rfl rfl rfl (Nat.le_of_ble_eq_true rfl) dX11_rings_4 ⟨Nat.le_refl 0, Nat.le_refl 0⟩ (fun r1 uN1 H locs hq hP hD hS => ?_)
  have hu1 := hq
  rw [hu1] at hP hD
  exact a_reti F hr hlocks hP hD hS dX11_rings_7 rfl
set_option maxHeartbeats 4000000 in
set_option maxRecDepth 100000 in
theorem c_X11_step_0 (l : Launch) (dC : Nat → ClassId) (dI : Nat → Nat → Nat) (ad : Nat → Nat) (cA : Nat → ClassId) (nF : Nat) (u0 : ac_U) (p0 : Int32) (hR : ac_R rg u0) : ac_Mi l yX11_step (.code yX11_step cX11_step 2 (some .int) :: TB) 2 (dC, dI) vwCl (ac_ty cA) ad cA (TT nF) [.ref (ad 0), .int p0] u0 (fun (r : Int32) (u : ac_U) => u = u0) := by
  refine ac_Mi.of (cc := cX11_step) (maxL := 2) (ret := (some .int)) (by decide) rfl (Nat.le_of_ble_eq_true rfl) ?_
  intro p e s m below meth c A ls F hml hr hlocks hA hP hD hS hl
  have F : ac_X p s m [.ref (ad 0), .int p0].toArray c cX11_step RX11 TB (dC, dI) vwCl (ac_ty cA) := ⟨F.1, F.2.1, fun w h => F.2.2.1 w (List.mem_cons_of_mem _ h), F.2.2.2.1, F.2.2.2.2⟩
  have hl : lv_has ls 2 [(0, .ref (ad 0)), (1, .int p0)] := hl
  refine lv_aload_n F.1 F.2.1 dX11_step_0 rfl (lv_at hl 0 rfl) ?_
  refine a_getr F inX11 hP 0 6 tc_0 rfl rfl (by decide) q509 (fun _ h9 => h9) dX11_step_1 ?_
  refine lv_iload_n F.1 F.2.1 dX11_step_4 rfl (lv_at hl 1 rfl) ?_
  refine a_Vi F hml hl.1 hA hP hD hS (As := [.int p0]) (c_X7_stepIn_32 l dC dI ad cA nF _ p0 hR) (cs_RX11_257 (d := 1) F.2.2.1 (by decide)) tc_32 rfl rfl rfl rfl (Nat.le_of_ble_eq_true rfl) dX11_step_5 ⟨Nat.le_refl 0, Nat.le_refl 0⟩ (fun r1 uN1 H locs hq hP hD hS => ?_)
  have hu1 := hq
  rw [hu1] at hP hD
  exact a_reti F hr hlocks hP hD hS dX11_step_8 rfl
set_option maxHeartbeats 4000000 in
set_option maxRecDepth 100000 in
theorem c_X11_way_0 (l : Launch) (dC : Nat → ClassId) (dI : Nat → Nat → Nat) (ad : Nat → Nat) (cA : Nat → ClassId) (nF : Nat) (u0 : ac_U) (p0 : Int32) (p1 : Int32) (hR : ac_R rg u0) : ac_Mi l yX11_way (.code yX11_way cX11_way 3 (some .int) :: TB) 3 (dC, dI) vwCl (ac_ty cA) ad cA (TT nF) [.ref (ad 0), .int p0, .int p1] u0 (fun (r : Int32) (u : ac_U) => u = u0 ∧ ((-1 : Int) ≤ r.toInt ∧ r.toInt ≤ 7)) := by
  refine ac_Mi.of (cc := cX11_way) (maxL := 3) (ret := (some .int)) (by decide) rfl (Nat.le_of_ble_eq_true rfl) ?_
  intro p e s m below meth c A ls F hml hr hlocks hA hP hD hS hl
  have F : ac_X p s m [.ref (ad 0), .int p0, .int p1].toArray c cX11_way RX11 TB (dC, dI) vwCl (ac_ty cA) := ⟨F.1, F.2.1, fun w h => F.2.2.1 w (List.mem_cons_of_mem _ h), F.2.2.2.1, F.2.2.2.2⟩
  have hl : lv_has ls 3 [(0, .ref (ad 0)), (1, .int p0), (2, .int p1)] := hl
  have L22 : ∀ (H : Heap) (locs : List Loc) (ls : Array Slot), va_P (dC, dI) vwCl (ac_w ad cA (TT nF) u0) H → va_D A (ac_w ad cA (TT nF) u0) → va_S A s.heap H locs → lv_has ls 3 [] → W p l e (ac_rm 3) s m [.ref (ad 0), .int p0, .int p1].toArray below meth c H locs 0 0 (MQ below (va_Qi (fun (r : Int32) (u : ac_U) => u = u0 ∧ ((-1 : Int) ≤ r.toInt ∧ r.toInt ≤ 7)) (ac_B (dC, dI) vwCl (ac_ty cA) ad cA (TT nF) A) A) [.ref (ad 0), .int p0, .int p1].toArray s 0 0 A) (F0 m 22 ls []) := by
    intro H locs ls hP hD hS hl
    refine a_ic F (-1 : Int32) dX11_way_22 (by decide) ?_
    exact a_reti F hr hlocks hP hD hS dX11_way_23 ⟨rfl, (by decide)⟩
  refine lv_aload_n F.1 F.2.1 dX11_way_0 rfl (lv_at hl 0 rfl) ?_
  refine a_getr F inX11 hP 0 1 tc_0 rfl rfl (by decide) q504 (fun _ h9 => h9) dX11_way_1 ?_
  refine lv_iload_n F.1 F.2.1 dX11_way_4 rfl (lv_at hl 1 rfl) ?_
  refine a_Vi F hml hl.1 hA hP hD hS (As := [.int p0]) (c_X2_isPlace_4 l dC dI ad cA nF _ p0 hR) (cs_RX11_165 (d := 1) F.2.2.1 (by decide)) tc_4 rfl rfl rfl rfl (Nat.le_of_ble_eq_true rfl) dX11_way_5 ⟨Nat.le_refl 0, Nat.le_refl 0⟩ (fun r1 uN1 H locs hq hP hD hS => ?_)
  obtain ⟨hu1, gr1⟩ := hq
  rw [hu1] at hP hD
  refine z_eq F 22 dX11_way_8 (by decide) rfl (fun c2 => ?_) (fun c2 => ?_)
  · exact L22 _ _ _  hP hD hS (lv_sub hl [] rfl)
  · refine lv_aload_n F.1 F.2.1 dX11_way_11 rfl (lv_at hl 0 rfl) ?_
    refine a_getr F inX11 hP 0 1 tc_0 rfl rfl (by decide) q504 (fun _ h9 => h9) dX11_way_12 ?_
    refine lv_iload_n F.1 F.2.1 dX11_way_15 rfl (lv_at hl 2 rfl) ?_
    refine a_Vi F hml hl.1 hA hP hD hS (As := [.int p1]) (c_X2_isPlace_4 l dC dI ad cA nF _ p1 hR) (cs_RX11_165 (d := 1) F.2.2.1 (by decide)) tc_4 rfl rfl rfl rfl (Nat.le_of_ble_eq_true rfl) dX11_way_16 ⟨Nat.le_refl 0, Nat.le_refl 0⟩ (fun r3 uN3 H locs hq hP hD hS => ?_)
    obtain ⟨hu3, gr3⟩ := hq
    rw [hu3] at hP hD
    refine z_ne F 24 dX11_way_19 (by decide) rfl (fun c4 => ?_) (fun c4 => ?_)
    · refine lv_aload_n F.1 F.2.1 dX11_way_24 rfl (lv_at hl 0 rfl) ?_
      refine a_getr F inX11 hP 0 1 tc_0 rfl rfl (by decide) q504 (fun _ h9 => h9) dX11_way_25 ?_
      refine lv_iload_n F.1 F.2.1 dX11_way_28 rfl (lv_at hl 1 rfl) ?_
      refine lv_iload_n F.1 F.2.1 dX11_way_29 rfl (lv_at hl 2 rfl) ?_
      refine a_Vi F hml hl.1 hA hP hD hS (As := [.int p0, .int p1]) (c_X2_stepsBetween_4 l dC dI ad cA nF _ p0 p1 hR) (cs_RX11_168 (d := 2) F.2.2.1 (by decide)) tc_4 rfl rfl rfl rfl (Nat.le_of_ble_eq_true rfl) dX11_way_30 ⟨Nat.le_refl 0, Nat.le_refl 0⟩ (fun r5 uN5 H locs hq hP hD hS => ?_)
      obtain ⟨hu5, gr5⟩ := hq
      rw [hu5] at hP hD
      exact a_reti F hr hlocks hP hD hS dX11_way_33 ⟨rfl, (by omega : (-1 : Int) ≤ r5.toInt ∧ r5.toInt ≤ 7)⟩
    · exact L22 _ _ _  hP hD hS (lv_sub hl [] rfl)
set_option maxHeartbeats 4000000 in
set_option maxRecDepth 100000 in
theorem c_X11_windows_0 (l : Launch) (dC : Nat → ClassId) (dI : Nat → Nat → Nat) (ad : Nat → Nat) (cA : Nat → ClassId) (nF : Nat) (u0 : ac_U) (p0 : Int32) (p1 : Int32) (p2 : Int32) (hR : ac_R rg u0) : ac_Mi l yX11_windows (.code yX11_windows cX11_windows 4 (some .int) :: TB) 4 (dC, dI) vwCl (ac_ty cA) ad cA (TT nF) [.ref (ad 0), .int p0, .int p1, .int p2] u0 (fun (r : Int32) (u : ac_U) => ac_R rg u ∧ ac_Fr [(31, none)] u0 u) := by
  refine ac_Mi.of (cc := cX11_windows) (maxL := 4) (ret := (some .int)) (by decide) rfl (Nat.le_of_ble_eq_true rfl) ?_
  intro p e s m below meth c A ls F hml hr hlocks hA hP hD hS hl
  have F : ac_X p s m [.ref (ad 0), .int p0, .int p1, .int p2].toArray c cX11_windows RX11 TB (dC, dI) vwCl (ac_ty cA) := ⟨F.1, F.2.1, fun w h => F.2.2.1 w (List.mem_cons_of_mem _ h), F.2.2.2.1, F.2.2.2.2⟩
  have hl : lv_has ls 4 [(0, .ref (ad 0)), (1, .int p0), (2, .int p1), (3, .int p2)] := hl
  have hF : ac_Fr [(31, none)] u0 u0 := ac_Fr.rf
  have L33 : ∀ (u : ac_U) (H : Heap) (locs : List Loc) (ls : Array Slot), ac_R rg u → ac_Fr [(31, none)] u0 u → va_P (dC, dI) vwCl (ac_w ad cA (TT nF) u) H → va_D A (ac_w ad cA (TT nF) u) → va_S A s.heap H locs → lv_has ls 4 [] → W p l e (ac_rm 4) s m [.ref (ad 0), .int p0, .int p1, .int p2].toArray below meth c H locs 0 0 (MQ below (va_Qi (fun (r : Int32) (u : ac_U) => ac_R rg u ∧ ac_Fr [(31, none)] u0 u) (ac_B (dC, dI) vwCl (ac_ty cA) ad cA (TT nF) A) A) [.ref (ad 0), .int p0, .int p1, .int p2].toArray s 0 0 A) (F0 m 33 ls []) := by
    intro u H locs ls hR hF hP hD hS hl
    refine a_ic F (-1 : Int32) dX11_windows_33 (by decide) ?_
    exact a_reti F hr hlocks hP hD hS dX11_windows_34 ⟨hR, hF⟩
  refine lv_aload_n F.1 F.2.1 dX11_windows_0 rfl (lv_at hl 0 rfl) ?_
  refine a_getr F inX11 hP 0 1 tc_0 rfl rfl (by decide) q504 (fun _ h9 => h9) dX11_windows_1 ?_
  refine lv_iload_n F.1 F.2.1 dX11_windows_4 rfl (lv_at hl 1 rfl) ?_
  refine a_Vi F hml hl.1 hA hP hD hS (As := [.int p0]) (c_X2_isPerson_4 l dC dI ad cA nF _ p0 hR) (cs_RX11_159 (d := 1) F.2.2.1 (by decide)) tc_4 rfl rfl rfl rfl (Nat.le_of_ble_eq_true rfl) dX11_windows_5 ⟨Nat.le_refl 0, Nat.le_refl 0⟩ (fun r1 uN1 H locs hq hP hD hS => ?_)
  obtain ⟨hu1, gr1⟩ := hq
  rw [hu1] at hP hD
  refine z_eq F 33 dX11_windows_8 (by decide) rfl (fun c2 => ?_) (fun c2 => ?_)
  · exact L33 _ _ _ _ hR hF hP hD hS (lv_sub hl [] rfl)
  · refine lv_aload_n F.1 F.2.1 dX11_windows_11 rfl (lv_at hl 0 rfl) ?_
    refine a_getr F inX11 hP 0 1 tc_0 rfl rfl (by decide) q504 (fun _ h9 => h9) dX11_windows_12 ?_
    refine lv_iload_n F.1 F.2.1 dX11_windows_15 rfl (lv_at hl 2 rfl) ?_
    refine a_Vi F hml hl.1 hA hP hD hS (As := [.int p1]) (c_X2_isDeed_4 l dC dI ad cA nF _ p1 hR) (cs_RX11_206 (d := 1) F.2.2.1 (by decide)) tc_4 rfl rfl rfl rfl (Nat.le_of_ble_eq_true rfl) dX11_windows_16 ⟨Nat.le_refl 0, Nat.le_refl 0⟩ (fun r3 uN3 H locs hq hP hD hS => ?_)
    obtain ⟨hu3, gr3⟩ := hq
    rw [hu3] at hP hD
    refine z_eq F 33 dX11_windows_19 (by decide) rfl (fun c4 => ?_) (fun c4 => ?_)
    · exact L33 _ _ _ _ hR hF hP hD hS (lv_sub hl [] rfl)
    · refine lv_aload_n F.1 F.2.1 dX11_windows_22 rfl (lv_at hl 0 rfl) ?_
      refine a_getr F inX11 hP 0 1 tc_0 rfl rfl (by decide) q504 (fun _ h9 => h9) dX11_windows_23 ?_
      refine lv_iload_n F.1 F.2.1 dX11_windows_26 rfl (lv_at hl 3 rfl) ?_
      refine a_Vi F hml hl.1 hA hP hD hS (As := [.int p2]) (c_X2_isPlace_4 l dC dI ad cA nF _ p2 hR) (cs_RX11_165 (d := 1) F.2.2.1 (by decide)) tc_4 rfl rfl rfl rfl (Nat.le_of_ble_eq_true rfl) dX11_windows_27 ⟨Nat.le_refl 0, Nat.le_refl 0⟩ (fun r5 uN5 H locs hq hP hD hS => ?_)
      obtain ⟨hu5, gr5⟩ := hq
      rw [hu5] at hP hD
      refine z_ne F 35 dX11_windows_30 (by decide) rfl (fun c6 => ?_) (fun c6 => ?_)
      · refine lv_aload_n F.1 F.2.1 dX11_windows_35 rfl (lv_at hl 0 rfl) ?_
        refine a_getr F inX11 hP 0 5 tc_0 rfl rfl (by decide) q508 (fun _ h9 => h9) dX11_windows_36 ?_
        refine lv_iload_n F.1 F.2.1 dX11_windows_39 rfl (lv_at hl 1 rfl) ?_
        refine lv_iload_n F.1 F.2.1 dX11_windows_40 rfl (lv_at hl 2 rfl) ?_
        refine lv_iload_n F.1 F.2.1 dX11_windows_41 rfl (lv_at hl 3 rfl) ?_
        refine a_Vi F hml hl.1 hA hP hD hS (As := [.int p0, .int p1, .int p2]) (c_X5_fittingWindows_29 l dC dI ad cA nF _ p0 p1 p2 hR) (cs_RX11_281 (d := 3) F.2.2.1 (by decide)) tc_29 rfl rfl rfl rfl (Nat.le_of_ble_eq_true rfl) dX11_windows_42 ⟨Nat.le_refl 0, Nat.le_refl 0⟩ (fun r7 u H locs hq hP hD hS => ?_)
        obtain ⟨hR, hF7⟩ := hq
        have hF := hF.tr hF7 (by decide)
        exact a_reti F hr hlocks hP hD hS dX11_windows_45 ⟨hR, hF⟩
      · exact L33 _ _ _ _ hR hF hP hD hS (lv_sub hl [] rfl)
set_option maxHeartbeats 4000000 in
set_option maxRecDepth 100000 in
theorem c_X12_isIn (l : Launch) (dC : Nat → ClassId) (dI : Nat → Nat → Nat) (ad : Nat → Nat) (cA : Nat → ClassId) (nF : Nat) (u0 : ac_U) (p0 : Int32) (p1 : Int32) (p2 : Int32) (hR : ac_R rg u0) : ac_Mi l yX12_isIn (.code yX12_isIn cX12_isIn 3 (some .boolean) :: TB) 1 (dC, dI) vwCl (ac_ty cA) ad cA (TT nF) [.int p0, .int p1, .int p2] u0 (fun (r : Int32) (u : ac_U) => u = u0 ∧ ((0 : Int) ≤ r.toInt ∧ r.toInt ≤ 1)) := by
  refine ac_Mi.of (cc := cX12_isIn) (maxL := 3) (ret := (some .boolean)) (by decide) rfl (Nat.le_of_ble_eq_true rfl) ?_
  intro p e s m below meth c A ls F hml hr hlocks hA hP hD hS hl
  have F : ac_X p s m [.int p0, .int p1, .int p2].toArray c cX12_isIn RX12 TB (dC, dI) vwCl (ac_ty cA) := ⟨F.1, F.2.1, fun w h => F.2.2.1 w (List.mem_cons_of_mem _ h), F.2.2.2.1, F.2.2.2.2⟩
  have hl : lv_has ls 3 [(0, .int p0), (1, .int p1), (2, .int p2)] := hl
  have L15 : ∀ (z0 : Int32) (H : Heap) (locs : List Loc) (ls : Array Slot), (0 : Int) ≤ z0.toInt ∧ z0.toInt ≤ 1 → va_P (dC, dI) vwCl (ac_w ad cA (TT nF) u0) H → va_D A (ac_w ad cA (TT nF) u0) → va_S A s.heap H locs → lv_has ls 3 [] → W p l e (ac_rm 1) s m [.int p0, .int p1, .int p2].toArray below meth c H locs 0 0 (MQ below (va_Qi (fun (r : Int32) (u : ac_U) => u = u0 ∧ ((0 : Int) ≤ r.toInt ∧ r.toInt ≤ 1)) (ac_B (dC, dI) vwCl (ac_ty cA) ad cA (TT nF) A) A) [.int p0, .int p1, .int p2].toArray s 0 0 A) (F0 m 15 ls [.int z0]) := by
    intro z0 H locs ls f0 hP hD hS hl
    exact a_retz F hr hlocks hP hD hS dX12_isIn_15 (i_01 (by omega)) ⟨rfl, (by omega : (0 : Int) ≤ z0.toInt ∧ z0.toInt ≤ 1)⟩
  have L14 : ∀ (H : Heap) (locs : List Loc) (ls : Array Slot), va_P (dC, dI) vwCl (ac_w ad cA (TT nF) u0) H → va_D A (ac_w ad cA (TT nF) u0) → va_S A s.heap H locs → lv_has ls 3 [] → W p l e (ac_rm 1) s m [.int p0, .int p1, .int p2].toArray below meth c H locs 0 0 (MQ below (va_Qi (fun (r : Int32) (u : ac_U) => u = u0 ∧ ((0 : Int) ≤ r.toInt ∧ r.toInt ≤ 1)) (ac_B (dC, dI) vwCl (ac_ty cA) ad cA (TT nF) A) A) [.int p0, .int p1, .int p2].toArray s 0 0 A) (F0 m 14 ls []) := by
    intro H locs ls hP hD hS hl
    refine a_ic F (0 : Int32) dX12_isIn_14 (by decide) ?_
    exact L15 (0 : Int32) _ _ _ (by decide) hP hD hS (lv_sub hl [] rfl)
  refine lv_iload_n F.1 F.2.1 dX12_isIn_0 rfl (lv_at hl 0 rfl) ?_
  refine lv_iload_n F.1 F.2.1 dX12_isIn_1 rfl (lv_at hl 1 rfl) ?_
  refine b_lt F 14 dX12_isIn_2 (by decide) rfl rfl (fun c1 => ?_) (fun c1 => ?_)
  · exact L14 _ _ _  hP hD hS (lv_sub hl [] rfl)
  · refine lv_iload_n F.1 F.2.1 dX12_isIn_5 rfl (lv_at hl 0 rfl) ?_
    refine lv_iload_n F.1 F.2.1 dX12_isIn_6 rfl (lv_at hl 2 rfl) ?_
    refine b_gt F 14 dX12_isIn_7 (by decide) rfl rfl (fun c2 => ?_) (fun c2 => ?_)
    · exact L14 _ _ _  hP hD hS (lv_sub hl [] rfl)
    · refine a_ic F (1 : Int32) dX12_isIn_10 (by decide) ?_
      refine lv_goto (tgt := 15) F.1 F.2.1 dX12_isIn_11 (by decide) ?_
      exact L15 (1 : Int32) _ _ _ (by decide) hP hD hS (lv_sub hl [] rfl)
set_option maxHeartbeats 4000000 in
set_option maxRecDepth 100000 in
theorem c_X12_isDeed_85 (l : Launch) (dC : Nat → ClassId) (dI : Nat → Nat → Nat) (ad : Nat → Nat) (cA : Nat → ClassId) (nF : Nat) (u0 : ac_U) (p0 : Int32) (hR : ac_R rg u0) : ac_Mi l yX12_isDeed (.code yX12_isDeed cX12_isDeed 2 (some .boolean) :: TB) 2 (dC, dI) vwCl (ac_ty cA) ad cA (TT nF) [.ref (ad 85), .int p0] u0 (fun (r : Int32) (u : ac_U) => u = u0 ∧ ((0 : Int) ≤ r.toInt ∧ r.toInt ≤ 1)) := by
  refine ac_Mi.of (cc := cX12_isDeed) (maxL := 2) (ret := (some .boolean)) (by decide) rfl (Nat.le_of_ble_eq_true rfl) ?_
  intro p e s m below meth c A ls F hml hr hlocks hA hP hD hS hl
  have F : ac_X p s m [.ref (ad 85), .int p0].toArray c cX12_isDeed RX12 TB (dC, dI) vwCl (ac_ty cA) := ⟨F.1, F.2.1, fun w h => F.2.2.1 w (List.mem_cons_of_mem _ h), F.2.2.2.1, F.2.2.2.2⟩
  have hl : lv_has ls 2 [(0, .ref (ad 85)), (1, .int p0)] := hl
  refine lv_iload_n F.1 F.2.1 dX12_isDeed_0 rfl (lv_at hl 1 rfl) ?_
  refine a_ic F (0 : Int32) dX12_isDeed_1 (by decide) ?_
  refine lv_aload_n F.1 F.2.1 dX12_isDeed_2 rfl (lv_at hl 0 rfl) ?_
  refine a_getr F inX12 hP 85 6 tc_85 rfl rfl (by decide) q1477 (fun _ h9 => h9) dX12_isDeed_3 ?_
  refine a_ic F (5 : Int32) dX12_isDeed_6 (by decide) ?_
  refine a_iald F hP 87 tc_87 rfl (i_in ic_5 (by omega)) dX12_isDeed_7 (fun v1 ev1 => ?_)
  have hv1 : (0 : Int) ≤ v1.toInt ∧ v1.toInt ≤ 6 := ev1 ▸ hR 87 _
  refine a_ic F (1 : Int32) dX12_isDeed_8 (by decide) ?_
  refine a_isub F dX12_isDeed_9 rfl ic_1 (by omega) (fun v2 hv2 => ?_)
  refine a_Si F hml hl.1 hA hP hD hS (As := [.int p0, .int (0 : Int32), .int v2]) (c_X12_isIn l dC dI ad cA nF _ p0 (0 : Int32) v2 hR) (cs_RX12_187 (d := 1) F.2.2.1 (by decide)) rfl rfl (Nat.le_of_ble_eq_true rfl) dX12_isDeed_10 ⟨Nat.le_refl 0, Nat.le_refl 0⟩ (fun r3 uN3 H locs hq hP hD hS => ?_)
  obtain ⟨hu3, gr3⟩ := hq
  rw [hu3] at hP hD
  exact a_retz F hr hlocks hP hD hS dX12_isDeed_13 (i_01 (by omega)) ⟨rfl, (by omega : (0 : Int) ≤ r3.toInt ∧ r3.toInt ≤ 1)⟩
set_option maxHeartbeats 4000000 in
set_option maxRecDepth 100000 in
theorem c_X12_isPerson_85 (l : Launch) (dC : Nat → ClassId) (dI : Nat → Nat → Nat) (ad : Nat → Nat) (cA : Nat → ClassId) (nF : Nat) (u0 : ac_U) (p0 : Int32) (hR : ac_R rg u0) : ac_Mi l yX12_isPerson (.code yX12_isPerson cX12_isPerson 2 (some .boolean) :: TB) 2 (dC, dI) vwCl (ac_ty cA) ad cA (TT nF) [.ref (ad 85), .int p0] u0 (fun (r : Int32) (u : ac_U) => u = u0 ∧ ((0 : Int) ≤ r.toInt ∧ r.toInt ≤ 1)) := by
  refine ac_Mi.of (cc := cX12_isPerson) (maxL := 2) (ret := (some .boolean)) (by decide) rfl (Nat.le_of_ble_eq_true rfl) ?_
  intro p e s m below meth c A ls F hml hr hlocks hA hP hD hS hl
  have F : ac_X p s m [.ref (ad 85), .int p0].toArray c cX12_isPerson RX12 TB (dC, dI) vwCl (ac_ty cA) := ⟨F.1, F.2.1, fun w h => F.2.2.1 w (List.mem_cons_of_mem _ h), F.2.2.2.1, F.2.2.2.2⟩
  have hl : lv_has ls 2 [(0, .ref (ad 85)), (1, .int p0)] := hl
  refine lv_iload_n F.1 F.2.1 dX12_isPerson_0 rfl (lv_at hl 1 rfl) ?_
  refine a_ic F (0 : Int32) dX12_isPerson_1 (by decide) ?_
  refine lv_aload_n F.1 F.2.1 dX12_isPerson_2 rfl (lv_at hl 0 rfl) ?_
  refine a_getr F inX12 hP 85 6 tc_85 rfl rfl (by decide) q1477 (fun _ h9 => h9) dX12_isPerson_3 ?_
  refine a_ic F (4 : Int32) dX12_isPerson_6 (by decide) ?_
  refine a_iald F hP 87 tc_87 rfl (i_in ic_4 (by omega)) dX12_isPerson_7 (fun v1 ev1 => ?_)
  have hv1 : (0 : Int) ≤ v1.toInt ∧ v1.toInt ≤ 4 := ev1 ▸ hR 87 _
  refine a_ic F (1 : Int32) dX12_isPerson_8 (by decide) ?_
  refine a_isub F dX12_isPerson_9 rfl ic_1 (by omega) (fun v2 hv2 => ?_)
  refine a_Si F hml hl.1 hA hP hD hS (As := [.int p0, .int (0 : Int32), .int v2]) (c_X12_isIn l dC dI ad cA nF _ p0 (0 : Int32) v2 hR) (cs_RX12_187 (d := 1) F.2.2.1 (by decide)) rfl rfl (Nat.le_of_ble_eq_true rfl) dX12_isPerson_10 ⟨Nat.le_refl 0, Nat.le_refl 0⟩ (fun r3 uN3 H locs hq hP hD hS => ?_)
  obtain ⟨hu3, gr3⟩ := hq
  rw [hu3] at hP hD
  exact a_retz F hr hlocks hP hD hS dX12_isPerson_13 (i_01 (by omega)) ⟨rfl, (by omega : (0 : Int) ≤ r3.toInt ∧ r3.toInt ≤ 1)⟩
set_option maxHeartbeats 4000000 in
set_option maxRecDepth 100000 in
theorem c_X12_isOver_85 (l : Launch) (dC : Nat → ClassId) (dI : Nat → Nat → Nat) (ad : Nat → Nat) (cA : Nat → ClassId) (nF : Nat) (u0 : ac_U)  (hR : ac_R rg u0) : ac_Mi l yX12_isOver (.code yX12_isOver cX12_isOver 1 (some .boolean) :: TB) 1 (dC, dI) vwCl (ac_ty cA) ad cA (TT nF) [.ref (ad 85)] u0 (fun (r : Int32) (u : ac_U) => u = u0 ∧ ((0 : Int) ≤ r.toInt ∧ r.toInt ≤ 1)) := by
  refine ac_Mi.of (cc := cX12_isOver) (maxL := 1) (ret := (some .boolean)) (by decide) rfl (Nat.le_of_ble_eq_true rfl) ?_
  intro p e s m below meth c A ls F hml hr hlocks hA hP hD hS hl
  have F : ac_X p s m [.ref (ad 85)].toArray c cX12_isOver RX12 TB (dC, dI) vwCl (ac_ty cA) := ⟨F.1, F.2.1, fun w h => F.2.2.1 w (List.mem_cons_of_mem _ h), F.2.2.2.1, F.2.2.2.2⟩
  have hl : lv_has ls 1 [(0, .ref (ad 85))] := hl
  have L24 : ∀ (z0 : Int32) (H : Heap) (locs : List Loc) (ls : Array Slot), (0 : Int) ≤ z0.toInt ∧ z0.toInt ≤ 1 → va_P (dC, dI) vwCl (ac_w ad cA (TT nF) u0) H → va_D A (ac_w ad cA (TT nF) u0) → va_S A s.heap H locs → lv_has ls 1 [] → W p l e (ac_rm 1) s m [.ref (ad 85)].toArray below meth c H locs 0 0 (MQ below (va_Qi (fun (r : Int32) (u : ac_U) => u = u0 ∧ ((0 : Int) ≤ r.toInt ∧ r.toInt ≤ 1)) (ac_B (dC, dI) vwCl (ac_ty cA) ad cA (TT nF) A) A) [.ref (ad 85)].toArray s 0 0 A) (F0 m 24 ls [.int z0]) := by
    intro z0 H locs ls f0 hP hD hS hl
    exact a_retz F hr hlocks hP hD hS dX12_isOver_24 (i_01 (by omega)) ⟨rfl, (by omega : (0 : Int) ≤ z0.toInt ∧ z0.toInt ≤ 1)⟩
  refine lv_aload_n F.1 F.2.1 dX12_isOver_0 rfl (lv_at hl 0 rfl) ?_
  refine a_getr F inX12 hP 85 6 tc_85 rfl rfl (by decide) q1477 (fun _ h9 => h9) dX12_isOver_1 ?_
  refine a_bp F (106 : Int32) dX12_isOver_4 (by decide) ?_
  refine a_iald F hP 87 tc_87 rfl (i_in ic_106 (by omega)) dX12_isOver_6 (fun v1 ev1 => ?_)
  have hv1 : (0 : Int) ≤ v1.toInt ∧ v1.toInt ≤ 480 := ev1 ▸ hR 87 _
  refine a_bp F (20 : Int32) dX12_isOver_7 (by decide) ?_
  refine lv_aload_n F.1 F.2.1 dX12_isOver_9 rfl (lv_at hl 0 rfl) ?_
  refine a_getr F inX12 hP 85 6 tc_85 rfl rfl (by decide) q1477 (fun _ h9 => h9) dX12_isOver_10 ?_
  refine a_ic F (0 : Int32) dX12_isOver_13 (by decide) ?_
  refine a_iald F hP 87 tc_87 rfl (i_in ic_0 (by omega)) dX12_isOver_14 (fun v2 ev2 => ?_)
  have hv2 : (4 : Int) ≤ v2.toInt ∧ v2.toInt ≤ 24 := ev2 ▸ hR 87 _
  refine a_imul F dX12_isOver_15 ic_20 rfl (by omega) (fun v3 hv3 => ?_)
  refine b_ne F 23 dX12_isOver_16 (by decide) rfl rfl (fun c4 => ?_) (fun c4 => ?_)
  · refine a_ic F (0 : Int32) dX12_isOver_23 (by decide) ?_
    exact L24 (0 : Int32) _ _ _ (by decide) hP hD hS (lv_sub hl [] rfl)
  · refine a_ic F (1 : Int32) dX12_isOver_19 (by decide) ?_
    refine lv_goto (tgt := 24) F.1 F.2.1 dX12_isOver_20 (by decide) ?_
    exact L24 (1 : Int32) _ _ _ (by decide) hP hD hS (lv_sub hl [] rfl)
set_option maxHeartbeats 4000000 in
set_option maxRecDepth 100000 in
theorem c_X12_bitOf (l : Launch) (dC : Nat → ClassId) (dI : Nat → Nat → Nat) (ad : Nat → Nat) (cA : Nat → ClassId) (nF : Nat) (u0 : ac_U) (p0 : Int32) (p1 : Int32) (hR : ac_R rg u0) : ac_Mi l yX12_bitOf (.code yX12_bitOf cX12_bitOf 2 (some .boolean) :: TB) 1 (dC, dI) vwCl (ac_ty cA) ad cA (TT nF) [.int p0, .int p1] u0 (fun (r : Int32) (u : ac_U) => u = u0 ∧ ((0 : Int) ≤ r.toInt ∧ r.toInt ≤ 1)) := by
  refine ac_Mi.of (cc := cX12_bitOf) (maxL := 2) (ret := (some .boolean)) (by decide) rfl (Nat.le_of_ble_eq_true rfl) ?_
  intro p e s m below meth c A ls F hml hr hlocks hA hP hD hS hl
  have F : ac_X p s m [.int p0, .int p1].toArray c cX12_bitOf RX12 TB (dC, dI) vwCl (ac_ty cA) := ⟨F.1, F.2.1, fun w h => F.2.2.1 w (List.mem_cons_of_mem _ h), F.2.2.2.1, F.2.2.2.2⟩
  have hl : lv_has ls 2 [(0, .int p0), (1, .int p1)] := hl
  have L14 : ∀ (z0 : Int32) (H : Heap) (locs : List Loc) (ls : Array Slot), (0 : Int) ≤ z0.toInt ∧ z0.toInt ≤ 1 → va_P (dC, dI) vwCl (ac_w ad cA (TT nF) u0) H → va_D A (ac_w ad cA (TT nF) u0) → va_S A s.heap H locs → lv_has ls 2 [] → W p l e (ac_rm 1) s m [.int p0, .int p1].toArray below meth c H locs 0 0 (MQ below (va_Qi (fun (r : Int32) (u : ac_U) => u = u0 ∧ ((0 : Int) ≤ r.toInt ∧ r.toInt ≤ 1)) (ac_B (dC, dI) vwCl (ac_ty cA) ad cA (TT nF) A) A) [.int p0, .int p1].toArray s 0 0 A) (F0 m 14 ls [.int z0]) := by
    intro z0 H locs ls f0 hP hD hS hl
    exact a_retz F hr hlocks hP hD hS dX12_bitOf_14 (i_01 (by omega)) ⟨rfl, (by omega : (0 : Int) ≤ z0.toInt ∧ z0.toInt ≤ 1)⟩
  refine lv_iload_n F.1 F.2.1 dX12_bitOf_0 rfl (lv_at hl 0 rfl) ?_
  refine lv_iload_n F.1 F.2.1 dX12_bitOf_1 rfl (lv_at hl 1 rfl) ?_
  refine a_ishrU F dX12_bitOf_2 (fun v1 => ?_)
  refine a_ic F (1 : Int32) dX12_bitOf_3 (by decide) ?_
  refine a_iandM F dX12_bitOf_4 ic_1 (by omega) (fun v2 hv2 => ?_)
  refine a_ic F (1 : Int32) dX12_bitOf_5 (by decide) ?_
  refine b_ne F 13 dX12_bitOf_6 (by decide) rfl ic_1 (fun c3 => ?_) (fun c3 => ?_)
  · refine a_ic F (0 : Int32) dX12_bitOf_13 (by decide) ?_
    exact L14 (0 : Int32) _ _ _ (by decide) hP hD hS (lv_sub hl [] rfl)
  · refine a_ic F (1 : Int32) dX12_bitOf_9 (by decide) ?_
    refine lv_goto (tgt := 14) F.1 F.2.1 dX12_bitOf_10 (by decide) ?_
    exact L14 (1 : Int32) _ _ _ (by decide) hP hD hS (lv_sub hl [] rfl)
set_option maxHeartbeats 4000000 in
set_option maxRecDepth 100000 in
theorem c_X12_lesser (l : Launch) (dC : Nat → ClassId) (dI : Nat → Nat → Nat) (ad : Nat → Nat) (cA : Nat → ClassId) (nF : Nat) (u0 : ac_U) (p0 : Int32) (p1 : Int32) (hR : ac_R rg u0) (hp0 : p0.toInt ≤ 1000) : ac_Mi l yX12_lesser (.code yX12_lesser cX12_lesser 2 (some .int) :: TB) 1 (dC, dI) vwCl (ac_ty cA) ad cA (TT nF) [.int p0, .int p1] u0 (fun (r : Int32) (u : ac_U) => u = u0 ∧ (r.toInt ≤ 1000)) := by
  refine ac_Mi.of (cc := cX12_lesser) (maxL := 2) (ret := (some .int)) (by decide) rfl (Nat.le_of_ble_eq_true rfl) ?_
  intro p e s m below meth c A ls F hml hr hlocks hA hP hD hS hl
  have F : ac_X p s m [.int p0, .int p1].toArray c cX12_lesser RX12 TB (dC, dI) vwCl (ac_ty cA) := ⟨F.1, F.2.1, fun w h => F.2.2.1 w (List.mem_cons_of_mem _ h), F.2.2.2.1, F.2.2.2.2⟩
  have hl : lv_has ls 2 [(0, .int p0), (1, .int p1)] := hl
  have L10 : ∀ (z0 : Int32) (H : Heap) (locs : List Loc) (ls : Array Slot), z0.toInt ≤ 1000 → va_P (dC, dI) vwCl (ac_w ad cA (TT nF) u0) H → va_D A (ac_w ad cA (TT nF) u0) → va_S A s.heap H locs → lv_has ls 2 [] → W p l e (ac_rm 1) s m [.int p0, .int p1].toArray below meth c H locs 0 0 (MQ below (va_Qi (fun (r : Int32) (u : ac_U) => u = u0 ∧ (r.toInt ≤ 1000)) (ac_B (dC, dI) vwCl (ac_ty cA) ad cA (TT nF) A) A) [.int p0, .int p1].toArray s 0 0 A) (F0 m 10 ls [.int z0]) := by
    intro z0 H locs ls f0 hP hD hS hl
    exact a_reti F hr hlocks hP hD hS dX12_lesser_10 ⟨rfl, (by omega : z0.toInt ≤ 1000)⟩
  refine lv_iload_n F.1 F.2.1 dX12_lesser_0 rfl (lv_at hl 0 rfl) ?_
  refine lv_iload_n F.1 F.2.1 dX12_lesser_1 rfl (lv_at hl 1 rfl) ?_
  refine b_ge F 9 dX12_lesser_2 (by decide) rfl rfl (fun c1 => ?_) (fun c1 => ?_)
  · refine lv_iload_n F.1 F.2.1 dX12_lesser_9 rfl (lv_at hl 1 rfl) ?_
    exact L10 p1 _ _ _ (by omega) hP hD hS (lv_sub hl [] rfl)
  · refine lv_iload_n F.1 F.2.1 dX12_lesser_5 rfl (lv_at hl 0 rfl) ?_
    refine lv_goto (tgt := 10) F.1 F.2.1 dX12_lesser_6 (by decide) ?_
    exact L10 p0 _ _ _ (by omega) hP hD hS (lv_sub hl [] rfl)
set_option maxHeartbeats 4000000 in
set_option maxRecDepth 100000 in
theorem c_X12_leftIn (l : Launch) (dC : Nat → ClassId) (dI : Nat → Nat → Nat) (ad : Nat → Nat) (cA : Nat → ClassId) (nF : Nat) (u0 : ac_U) (p0 : Int32) (p1 : Int32) (hR : ac_R rg u0) (hp1 : (0 : Int) ≤ p1.toInt ∧ p1.toInt ≤ 3) : ac_Mi l yX12_leftIn (.code yX12_leftIn cX12_leftIn 2 (some .int) :: TB) 1 (dC, dI) vwCl (ac_ty cA) ad cA (TT nF) [.int p0, .int p1] u0 (fun (r : Int32) (u : ac_U) => u = u0 ∧ ((0 : Int) ≤ r.toInt ∧ r.toInt ≤ 3)) := by
  refine ac_Mi.of (cc := cX12_leftIn) (maxL := 2) (ret := (some .int)) (by decide) rfl (Nat.le_of_ble_eq_true rfl) ?_
  intro p e s m below meth c A ls F hml hr hlocks hA hP hD hS hl
  have F : ac_X p s m [.int p0, .int p1].toArray c cX12_leftIn RX12 TB (dC, dI) vwCl (ac_ty cA) := ⟨F.1, F.2.1, fun w h => F.2.2.1 w (List.mem_cons_of_mem _ h), F.2.2.2.1, F.2.2.2.2⟩
  have hl : lv_has ls 2 [(0, .int p0), (1, .int p1)] := hl
  refine lv_iload_n F.1 F.2.1 dX12_leftIn_0 rfl (lv_at hl 0 rfl) ?_
  refine a_ic F (2 : Int32) dX12_leftIn_1 (by decide) ?_
  refine lv_iload_n F.1 F.2.1 dX12_leftIn_2 rfl (lv_at hl 1 rfl) ?_
  refine a_imul F dX12_leftIn_3 ic_2 rfl (by omega) (fun v1 hv1 => ?_)
  refine a_ishrU F dX12_leftIn_4 (fun v2 => ?_)
  refine a_ic F (3 : Int32) dX12_leftIn_5 (by decide) ?_
  refine a_iandM F dX12_leftIn_6 ic_3 (by omega) (fun v3 hv3 => ?_)
  exact a_reti F hr hlocks hP hD hS dX12_leftIn_7 ⟨rfl, (by omega : (0 : Int) ≤ v3.toInt ∧ v3.toInt ≤ 3)⟩
set_option maxHeartbeats 4000000 in
set_option maxRecDepth 100000 in
theorem c_X12_dayNow_85 (l : Launch) (dC : Nat → ClassId) (dI : Nat → Nat → Nat) (ad : Nat → Nat) (cA : Nat → ClassId) (nF : Nat) (u0 : ac_U)  (hR : ac_R rg u0) : ac_Mi l yX12_dayNow (.code yX12_dayNow cX12_dayNow 1 (some .int) :: TB) 1 (dC, dI) vwCl (ac_ty cA) ad cA (TT nF) [.ref (ad 85)] u0 (fun (r : Int32) (u : ac_U) => u = u0 ∧ ((0 : Int) ≤ r.toInt ∧ r.toInt ≤ 120)) := by
  refine ac_Mi.of (cc := cX12_dayNow) (maxL := 1) (ret := (some .int)) (by decide) rfl (Nat.le_of_ble_eq_true rfl) ?_
  intro p e s m below meth c A ls F hml hr hlocks hA hP hD hS hl
  have F : ac_X p s m [.ref (ad 85)].toArray c cX12_dayNow RX12 TB (dC, dI) vwCl (ac_ty cA) := ⟨F.1, F.2.1, fun w h => F.2.2.1 w (List.mem_cons_of_mem _ h), F.2.2.2.1, F.2.2.2.2⟩
  have hl : lv_has ls 1 [(0, .ref (ad 85))] := hl
  refine lv_aload_n F.1 F.2.1 dX12_dayNow_0 rfl (lv_at hl 0 rfl) ?_
  refine a_getr F inX12 hP 85 6 tc_85 rfl rfl (by decide) q1477 (fun _ h9 => h9) dX12_dayNow_1 ?_
  refine a_bp F (106 : Int32) dX12_dayNow_4 (by decide) ?_
  refine a_iald F hP 87 tc_87 rfl (i_in ic_106 (by omega)) dX12_dayNow_6 (fun v1 ev1 => ?_)
  have hv1 : (0 : Int) ≤ v1.toInt ∧ v1.toInt ≤ 480 := ev1 ▸ hR 87 _
  refine lv_aload_n F.1 F.2.1 dX12_dayNow_7 rfl (lv_at hl 0 rfl) ?_
  refine a_getr F inX12 hP 85 6 tc_85 rfl rfl (by decide) q1477 (fun _ h9 => h9) dX12_dayNow_8 ?_
  refine a_ic F (0 : Int32) dX12_dayNow_11 (by decide) ?_
  refine a_iald F hP 87 tc_87 rfl (i_in ic_0 (by omega)) dX12_dayNow_12 (fun v2 ev2 => ?_)
  have hv2 : (4 : Int) ≤ v2.toInt ∧ v2.toInt ≤ 24 := ev2 ▸ hR 87 _
  refine a_idiv F (kk := 4) dX12_dayNow_13 rfl rfl (by omega) (fun v3 ev3 hv3 => ?_)
  exact a_reti F hr hlocks hP hD hS dX12_dayNow_14 ⟨rfl, (by omega : (0 : Int) ≤ v3.toInt ∧ v3.toInt ≤ 120)⟩
set_option maxHeartbeats 4000000 in
set_option maxRecDepth 100000 in
theorem c_X12_isPromise_85 (l : Launch) (dC : Nat → ClassId) (dI : Nat → Nat → Nat) (ad : Nat → Nat) (cA : Nat → ClassId) (nF : Nat) (u0 : ac_U) (p0 : Int32) (hR : ac_R rg u0) : ac_Mi l yX12_isPromise (.code yX12_isPromise cX12_isPromise 2 (some .boolean) :: TB) 2 (dC, dI) vwCl (ac_ty cA) ad cA (TT nF) [.ref (ad 85), .int p0] u0 (fun (r : Int32) (u : ac_U) => u = u0 ∧ ((0 : Int) ≤ r.toInt ∧ r.toInt ≤ 1)) := by
  refine ac_Mi.of (cc := cX12_isPromise) (maxL := 2) (ret := (some .boolean)) (by decide) rfl (Nat.le_of_ble_eq_true rfl) ?_
  intro p e s m below meth c A ls F hml hr hlocks hA hP hD hS hl
  have F : ac_X p s m [.ref (ad 85), .int p0].toArray c cX12_isPromise RX12 TB (dC, dI) vwCl (ac_ty cA) := ⟨F.1, F.2.1, fun w h => F.2.2.1 w (List.mem_cons_of_mem _ h), F.2.2.2.1, F.2.2.2.2⟩
  have hl : lv_has ls 2 [(0, .ref (ad 85)), (1, .int p0)] := hl
  refine lv_iload_n F.1 F.2.1 dX12_isPromise_0 rfl (lv_at hl 1 rfl) ?_
  refine a_ic F (0 : Int32) dX12_isPromise_1 (by decide) ?_
  refine lv_aload_n F.1 F.2.1 dX12_isPromise_2 rfl (lv_at hl 0 rfl) ?_
  refine a_getr F inX12 hP 85 6 tc_85 rfl rfl (by decide) q1477 (fun _ h9 => h9) dX12_isPromise_3 ?_
  refine a_bp F (6 : Int32) dX12_isPromise_6 (by decide) ?_
  refine a_iald F hP 87 tc_87 rfl (i_in ic_6 (by omega)) dX12_isPromise_8 (fun v1 ev1 => ?_)
  have hv1 : (0 : Int) ≤ v1.toInt ∧ v1.toInt ≤ 8 := ev1 ▸ hR 87 _
  refine a_ic F (1 : Int32) dX12_isPromise_9 (by decide) ?_
  refine a_isub F dX12_isPromise_10 rfl ic_1 (by omega) (fun v2 hv2 => ?_)
  refine a_Si F hml hl.1 hA hP hD hS (As := [.int p0, .int (0 : Int32), .int v2]) (c_X12_isIn l dC dI ad cA nF _ p0 (0 : Int32) v2 hR) (cs_RX12_187 (d := 1) F.2.2.1 (by decide)) rfl rfl (Nat.le_of_ble_eq_true rfl) dX12_isPromise_11 ⟨Nat.le_refl 0, Nat.le_refl 0⟩ (fun r3 uN3 H locs hq hP hD hS => ?_)
  obtain ⟨hu3, gr3⟩ := hq
  rw [hu3] at hP hD
  exact a_retz F hr hlocks hP hD hS dX12_isPromise_14 (i_01 (by omega)) ⟨rfl, (by omega : (0 : Int) ≤ r3.toInt ∧ r3.toInt ≤ 1)⟩
set_option maxHeartbeats 4000000 in
set_option maxRecDepth 100000 in
theorem c_X12_isReading_85 (l : Launch) (dC : Nat → ClassId) (dI : Nat → Nat → Nat) (ad : Nat → Nat) (cA : Nat → ClassId) (nF : Nat) (u0 : ac_U) (p0 : Int32) (p1 : Int32) (hR : ac_R rg u0) : ac_Mi l yX12_isReading (.code yX12_isReading cX12_isReading 3 (some .boolean) :: TB) 3 (dC, dI) vwCl (ac_ty cA) ad cA (TT nF) [.ref (ad 85), .int p0, .int p1] u0 (fun (r : Int32) (u : ac_U) => u = u0 ∧ ((0 : Int) ≤ r.toInt ∧ r.toInt ≤ 1)) := by
  refine ac_Mi.of (cc := cX12_isReading) (maxL := 3) (ret := (some .boolean)) (by decide) rfl (Nat.le_of_ble_eq_true rfl) ?_
  intro p e s m below meth c A ls F hml hr hlocks hA hP hD hS hl
  have F : ac_X p s m [.ref (ad 85), .int p0, .int p1].toArray c cX12_isReading RX12 TB (dC, dI) vwCl (ac_ty cA) := ⟨F.1, F.2.1, fun w h => F.2.2.1 w (List.mem_cons_of_mem _ h), F.2.2.2.1, F.2.2.2.2⟩
  have hl : lv_has ls 3 [(0, .ref (ad 85)), (1, .int p0), (2, .int p1)] := hl
  have L23 : ∀ (z0 : Int32) (H : Heap) (locs : List Loc) (ls : Array Slot), (0 : Int) ≤ z0.toInt ∧ z0.toInt ≤ 1 → va_P (dC, dI) vwCl (ac_w ad cA (TT nF) u0) H → va_D A (ac_w ad cA (TT nF) u0) → va_S A s.heap H locs → lv_has ls 3 [] → W p l e (ac_rm 3) s m [.ref (ad 85), .int p0, .int p1].toArray below meth c H locs 0 0 (MQ below (va_Qi (fun (r : Int32) (u : ac_U) => u = u0 ∧ ((0 : Int) ≤ r.toInt ∧ r.toInt ≤ 1)) (ac_B (dC, dI) vwCl (ac_ty cA) ad cA (TT nF) A) A) [.ref (ad 85), .int p0, .int p1].toArray s 0 0 A) (F0 m 23 ls [.int z0]) := by
    intro z0 H locs ls f0 hP hD hS hl
    exact a_retz F hr hlocks hP hD hS dX12_isReading_23 (i_01 (by omega)) ⟨rfl, (by omega : (0 : Int) ≤ z0.toInt ∧ z0.toInt ≤ 1)⟩
  have L22 : ∀ (H : Heap) (locs : List Loc) (ls : Array Slot), va_P (dC, dI) vwCl (ac_w ad cA (TT nF) u0) H → va_D A (ac_w ad cA (TT nF) u0) → va_S A s.heap H locs → lv_has ls 3 [] → W p l e (ac_rm 3) s m [.ref (ad 85), .int p0, .int p1].toArray below meth c H locs 0 0 (MQ below (va_Qi (fun (r : Int32) (u : ac_U) => u = u0 ∧ ((0 : Int) ≤ r.toInt ∧ r.toInt ≤ 1)) (ac_B (dC, dI) vwCl (ac_ty cA) ad cA (TT nF) A) A) [.ref (ad 85), .int p0, .int p1].toArray s 0 0 A) (F0 m 22 ls []) := by
    intro H locs ls hP hD hS hl
    refine a_ic F (0 : Int32) dX12_isReading_22 (by decide) ?_
    exact L23 (0 : Int32) _ _ _ (by decide) hP hD hS (lv_sub hl [] rfl)
  refine lv_aload_n F.1 F.2.1 dX12_isReading_0 rfl (lv_at hl 0 rfl) ?_
  refine lv_iload_n F.1 F.2.1 dX12_isReading_1 rfl (lv_at hl 1 rfl) ?_
  refine a_Vi F hml hl.1 hA hP hD hS (As := [.int p0]) (c_X12_isPromise_85 l dC dI ad cA nF _ p0 hR) (cs_RX12_244 (d := 2) F.2.2.1 (by decide)) tc_85 rfl rfl rfl rfl (Nat.le_of_ble_eq_true rfl) dX12_isReading_2 ⟨Nat.le_refl 0, Nat.le_refl 0⟩ (fun r1 uN1 H locs hq hP hD hS => ?_)
  obtain ⟨hu1, gr1⟩ := hq
  rw [hu1] at hP hD
  refine z_eq F 22 dX12_isReading_5 (by decide) rfl (fun c2 => ?_) (fun c2 => ?_)
  · exact L22 _ _ _  hP hD hS (lv_sub hl [] rfl)
  · refine lv_iload_n F.1 F.2.1 dX12_isReading_8 rfl (lv_at hl 2 rfl) ?_
    refine a_ic F (0 : Int32) dX12_isReading_9 (by decide) ?_
    refine a_bp F (7 : Int32) dX12_isReading_10 (by decide) ?_
    refine a_Si F hml hl.1 hA hP hD hS (As := [.int p1, .int (0 : Int32), .int (7 : Int32)]) (c_X12_isIn l dC dI ad cA nF _ p1 (0 : Int32) (7 : Int32) hR) (cs_RX12_187 (d := 1) F.2.2.1 (by decide)) rfl rfl (Nat.le_of_ble_eq_true rfl) dX12_isReading_12 ⟨Nat.le_refl 0, Nat.le_refl 0⟩ (fun r3 uN3 H locs hq hP hD hS => ?_)
    obtain ⟨hu3, gr3⟩ := hq
    rw [hu3] at hP hD
    refine z_eq F 22 dX12_isReading_15 (by decide) rfl (fun c4 => ?_) (fun c4 => ?_)
    · exact L22 _ _ _  hP hD hS (lv_sub hl [] rfl)
    · refine a_ic F (1 : Int32) dX12_isReading_18 (by decide) ?_
      refine lv_goto (tgt := 23) F.1 F.2.1 dX12_isReading_19 (by decide) ?_
      exact L23 (1 : Int32) _ _ _ (by decide) hP hD hS (lv_sub hl [] rfl)
set_option maxHeartbeats 4000000 in
set_option maxRecDepth 100000 in
theorem c_X12_bad_85 (l : Launch) (dC : Nat → ClassId) (dI : Nat → Nat → Nat) (ad : Nat → Nat) (cA : Nat → ClassId) (nF : Nat) (u0 : ac_U) (p0 : Int32) (hR : ac_R rg u0) (hp0 : (1 : Int) ≤ p0.toInt ∧ p0.toInt ≤ 4) : ac_Mi l yX12_bad (.code yX12_bad cX12_bad 2 (some .boolean) :: TB) 1 (dC, dI) vwCl (ac_ty cA) ad cA (TT nF) [.ref (ad 85), .int p0] u0 (fun (r : Int32) (u : ac_U) => ac_R rg u ∧ ac_Fr [(85, some 15), (85, some 16)] u0 u ∧ ((0 : Int) ≤ r.toInt ∧ r.toInt ≤ 0)) := by
  refine ac_Mi.of (cc := cX12_bad) (maxL := 2) (ret := (some .boolean)) (by decide) rfl (Nat.le_of_ble_eq_true rfl) ?_
  intro p e s m below meth c A ls F hml hr hlocks hA hP hD hS hl
  have F : ac_X p s m [.ref (ad 85), .int p0].toArray c cX12_bad RX12 TB (dC, dI) vwCl (ac_ty cA) := ⟨F.1, F.2.1, fun w h => F.2.2.1 w (List.mem_cons_of_mem _ h), F.2.2.2.1, F.2.2.2.2⟩
  have hl : lv_has ls 2 [(0, .ref (ad 85)), (1, .int p0)] := hl
  have hF : ac_Fr [(85, some 15), (85, some 16)] u0 u0 := ac_Fr.rf
  refine lv_aload_n F.1 F.2.1 dX12_bad_0 rfl (lv_at hl 0 rfl) ?_
  refine lv_iload_n F.1 F.2.1 dX12_bad_1 rfl (lv_at hl 1 rfl) ?_
  refine a_puti F inX12 tyX12 tyX12_ok nmX12 hP hD hS 85 15 tc_85 rfl rfl (by decide) q1486 (fun _ h9 => h9) rfl (ty := .int) (tyX12_ok 15 (by decide)) rfl rfl dX12_bad_2 (fun H locs hP hD hS => ?_)
  have hR := hR.si (c := 85) (k := 15) (v := p0) ⟨i_lo _, i_hi _⟩
  have hF := hF.si (c := 85) (k := 15) (v := p0) rfl
  refine lv_aload_n F.1 F.2.1 dX12_bad_5 rfl (lv_at hl 0 rfl) ?_
  refine lv_aload_n F.1 F.2.1 dX12_bad_6 rfl (lv_at hl 0 rfl) ?_
  refine a_geti F inX12 hP 85 12 tc_85 rfl rfl (by decide) q1483 (fun _ h9 => h9) (v := (u0.1 85 12)) rfl dX12_bad_7 ?_
  refine a_puti F inX12 tyX12 tyX12_ok nmX12 hP hD hS 85 16 tc_85 rfl rfl (by decide) q1487 (fun _ h9 => h9) rfl (ty := .int) (tyX12_ok 16 (by decide)) rfl rfl dX12_bad_10 (fun H locs hP hD hS => ?_)
  have hR := hR.si (c := 85) (k := 16) (v := (u0.1 85 12)) ⟨i_lo _, i_hi _⟩
  have hF := hF.si (c := 85) (k := 16) (v := (u0.1 85 12)) rfl
  refine a_ic F (0 : Int32) dX12_bad_13 (by decide) ?_
  exact a_retz F hr hlocks hP hD hS dX12_bad_14 (Or.inl rfl) ⟨hR, hF, (by decide)⟩
set_option maxHeartbeats 4000000 in
set_option maxRecDepth 100000 in
theorem c_X12_isSign_85 (l : Launch) (dC : Nat → ClassId) (dI : Nat → Nat → Nat) (ad : Nat → Nat) (cA : Nat → ClassId) (nF : Nat) (u0 : ac_U) (p0 : Int32) (hR : ac_R rg u0) (hp0 : (40 : Int) ≤ p0.toInt ∧ p0.toInt ≤ 59) : ac_Mi l yX12_isSign (.code yX12_isSign cX12_isSign 2 (some .boolean) :: TB) 1 (dC, dI) vwCl (ac_ty cA) ad cA (TT nF) [.ref (ad 85), .int p0] u0 (fun (r : Int32) (u : ac_U) => u = u0 ∧ ((0 : Int) ≤ r.toInt ∧ r.toInt ≤ 1)) := by
  refine ac_Mi.of (cc := cX12_isSign) (maxL := 2) (ret := (some .boolean)) (by decide) rfl (Nat.le_of_ble_eq_true rfl) ?_
  intro p e s m below meth c A ls F hml hr hlocks hA hP hD hS hl
  have F : ac_X p s m [.ref (ad 85), .int p0].toArray c cX12_isSign RX12 TB (dC, dI) vwCl (ac_ty cA) := ⟨F.1, F.2.1, fun w h => F.2.2.1 w (List.mem_cons_of_mem _ h), F.2.2.2.1, F.2.2.2.2⟩
  have hl : lv_has ls 2 [(0, .ref (ad 85)), (1, .int p0)] := hl
  have L21 : ∀ (z0 : Int32) (H : Heap) (locs : List Loc) (ls : Array Slot), (0 : Int) ≤ z0.toInt ∧ z0.toInt ≤ 1 → va_P (dC, dI) vwCl (ac_w ad cA (TT nF) u0) H → va_D A (ac_w ad cA (TT nF) u0) → va_S A s.heap H locs → lv_has ls 2 [] → W p l e (ac_rm 1) s m [.ref (ad 85), .int p0].toArray below meth c H locs 0 0 (MQ below (va_Qi (fun (r : Int32) (u : ac_U) => u = u0 ∧ ((0 : Int) ≤ r.toInt ∧ r.toInt ≤ 1)) (ac_B (dC, dI) vwCl (ac_ty cA) ad cA (TT nF) A) A) [.ref (ad 85), .int p0].toArray s 0 0 A) (F0 m 21 ls [.int z0]) := by
    intro z0 H locs ls f0 hP hD hS hl
    exact a_retz F hr hlocks hP hD hS dX12_isSign_21 (i_01 (by omega)) ⟨rfl, (by omega : (0 : Int) ≤ z0.toInt ∧ z0.toInt ≤ 1)⟩
  have L20 : ∀ (H : Heap) (locs : List Loc) (ls : Array Slot), va_P (dC, dI) vwCl (ac_w ad cA (TT nF) u0) H → va_D A (ac_w ad cA (TT nF) u0) → va_S A s.heap H locs → lv_has ls 2 [] → W p l e (ac_rm 1) s m [.ref (ad 85), .int p0].toArray below meth c H locs 0 0 (MQ below (va_Qi (fun (r : Int32) (u : ac_U) => u = u0 ∧ ((0 : Int) ≤ r.toInt ∧ r.toInt ≤ 1)) (ac_B (dC, dI) vwCl (ac_ty cA) ad cA (TT nF) A) A) [.ref (ad 85), .int p0].toArray s 0 0 A) (F0 m 20 ls []) := by
    intro H locs ls hP hD hS hl
    refine a_ic F (0 : Int32) dX12_isSign_20 (by decide) ?_
    exact L21 (0 : Int32) _ _ _ (by decide) hP hD hS (lv_sub hl [] rfl)
  refine lv_aload_n F.1 F.2.1 dX12_isSign_0 rfl (lv_at hl 0 rfl) ?_
  have g1 : (0 : Int) ≤ (u0.1 85 11).toInt ∧ (u0.1 85 11).toInt ≤ 4 := hR 85 11
  refine a_geti F inX12 hP 85 11 tc_85 rfl rfl (by decide) q1482 (fun _ h9 => h9) (v := (u0.1 85 11)) rfl dX12_isSign_1 ?_
  refine a_ic F (3 : Int32) dX12_isSign_4 (by decide) ?_
  refine b_ne F 20 dX12_isSign_5 (by decide) rfl ic_3 (fun c2 => ?_) (fun c2 => ?_)
  · exact L20 _ _ _  hP hD hS (lv_sub hl [] rfl)
  · refine lv_aload_n F.1 F.2.1 dX12_isSign_8 rfl (lv_at hl 0 rfl) ?_
    refine a_geti F inX12 hP 85 14 tc_85 rfl rfl (by decide) q1485 (fun _ h9 => h9) (v := (u0.1 85 14)) rfl dX12_isSign_9 ?_
    refine lv_iload_n F.1 F.2.1 dX12_isSign_12 rfl (lv_at hl 1 rfl) ?_
    refine b_ne F 20 dX12_isSign_13 (by decide) rfl rfl (fun c3 => ?_) (fun c3 => ?_)
    · exact L20 _ _ _  hP hD hS (lv_sub hl [] rfl)
    · refine a_ic F (1 : Int32) dX12_isSign_16 (by decide) ?_
      refine lv_goto (tgt := 21) F.1 F.2.1 dX12_isSign_17 (by decide) ?_
      exact L21 (1 : Int32) _ _ _ (by decide) hP hD hS (lv_sub hl [] rfl)
set_option maxHeartbeats 4000000 in
set_option maxRecDepth 100000 in
theorem c_X12_isWord_85 (l : Launch) (dC : Nat → ClassId) (dI : Nat → Nat → Nat) (ad : Nat → Nat) (cA : Nat → ClassId) (nF : Nat) (u0 : ac_U) (p0 : Int64) (hR : ac_R rg u0) : ac_Mi l yX12_isWord (.code yX12_isWord cX12_isWord 3 (some .boolean) :: TB) 1 (dC, dI) vwCl (ac_ty cA) ad cA (TT nF) [.ref (ad 85), .long p0] u0 (fun (r : Int32) (u : ac_U) => u = u0 ∧ ((0 : Int) ≤ r.toInt ∧ r.toInt ≤ 1)) := by
  refine ac_Mi.of (cc := cX12_isWord) (maxL := 3) (ret := (some .boolean)) (by decide) rfl (Nat.le_of_ble_eq_true rfl) ?_
  intro p e s m below meth c A ls F hml hr hlocks hA hP hD hS hl
  have F : ac_X p s m [.ref (ad 85), .long p0].toArray c cX12_isWord RX12 TB (dC, dI) vwCl (ac_ty cA) := ⟨F.1, F.2.1, fun w h => F.2.2.1 w (List.mem_cons_of_mem _ h), F.2.2.2.1, F.2.2.2.2⟩
  have hl : lv_has ls 3 [(0, .ref (ad 85)), (1, .long p0)] := hl
  have L22 : ∀ (z0 : Int32) (H : Heap) (locs : List Loc) (ls : Array Slot), (0 : Int) ≤ z0.toInt ∧ z0.toInt ≤ 1 → va_P (dC, dI) vwCl (ac_w ad cA (TT nF) u0) H → va_D A (ac_w ad cA (TT nF) u0) → va_S A s.heap H locs → lv_has ls 3 [] → W p l e (ac_rm 1) s m [.ref (ad 85), .long p0].toArray below meth c H locs 0 0 (MQ below (va_Qi (fun (r : Int32) (u : ac_U) => u = u0 ∧ ((0 : Int) ≤ r.toInt ∧ r.toInt ≤ 1)) (ac_B (dC, dI) vwCl (ac_ty cA) ad cA (TT nF) A) A) [.ref (ad 85), .long p0].toArray s 0 0 A) (F0 m 22 ls [.int z0]) := by
    intro z0 H locs ls f0 hP hD hS hl
    exact a_retz F hr hlocks hP hD hS dX12_isWord_22 (i_01 (by omega)) ⟨rfl, (by omega : (0 : Int) ≤ z0.toInt ∧ z0.toInt ≤ 1)⟩
  have L21 : ∀ (H : Heap) (locs : List Loc) (ls : Array Slot), va_P (dC, dI) vwCl (ac_w ad cA (TT nF) u0) H → va_D A (ac_w ad cA (TT nF) u0) → va_S A s.heap H locs → lv_has ls 3 [] → W p l e (ac_rm 1) s m [.ref (ad 85), .long p0].toArray below meth c H locs 0 0 (MQ below (va_Qi (fun (r : Int32) (u : ac_U) => u = u0 ∧ ((0 : Int) ≤ r.toInt ∧ r.toInt ≤ 1)) (ac_B (dC, dI) vwCl (ac_ty cA) ad cA (TT nF) A) A) [.ref (ad 85), .long p0].toArray s 0 0 A) (F0 m 21 ls []) := by
    intro H locs ls hP hD hS hl
    refine a_ic F (0 : Int32) dX12_isWord_21 (by decide) ?_
    exact L22 (0 : Int32) _ _ _ (by decide) hP hD hS (lv_sub hl [] rfl)
  refine lv_aload_n F.1 F.2.1 dX12_isWord_0 rfl (lv_at hl 0 rfl) ?_
  have g1 : (0 : Int) ≤ (u0.1 85 11).toInt ∧ (u0.1 85 11).toInt ≤ 4 := hR 85 11
  refine a_geti F inX12 hP 85 11 tc_85 rfl rfl (by decide) q1482 (fun _ h9 => h9) (v := (u0.1 85 11)) rfl dX12_isWord_1 ?_
  refine a_ic F (1 : Int32) dX12_isWord_4 (by decide) ?_
  refine b_ne F 21 dX12_isWord_5 (by decide) rfl ic_1 (fun c2 => ?_) (fun c2 => ?_)
  · exact L21 _ _ _  hP hD hS (lv_sub hl [] rfl)
  · refine lv_aload_n F.1 F.2.1 dX12_isWord_8 rfl (lv_at hl 0 rfl) ?_
    refine a_getl F inX12 hP 85 17 tc_85 rfl rfl (by decide) q1488 (fun _ h9 => h9) rfl dX12_isWord_9 ?_
    refine lv_topl (fun w3 _ => ?_)
    refine lv_lload_n F.1 F.2.1 dX12_isWord_12 rfl (lv_at hl 1 rfl) ?_
    refine W.lcmp F.1 F.2.1 dX12_isWord_13 ?_
    refine lv_topi (fun v4 _ => ?_)
    refine z_ne F 21 dX12_isWord_14 (by decide) rfl (fun c5 => ?_) (fun c5 => ?_)
    · exact L21 _ _ _  hP hD hS (lv_sub hl [] rfl)
    · refine a_ic F (1 : Int32) dX12_isWord_17 (by decide) ?_
      refine lv_goto (tgt := 22) F.1 F.2.1 dX12_isWord_18 (by decide) ?_
      exact L22 (1 : Int32) _ _ _ (by decide) hP hD hS (lv_sub hl [] rfl)
set_option maxHeartbeats 4000000 in
set_option maxRecDepth 100000 in
theorem c_X12_isDigit (l : Launch) (dC : Nat → ClassId) (dI : Nat → Nat → Nat) (ad : Nat → Nat) (cA : Nat → ClassId) (nF : Nat) (u0 : ac_U) (p0 : Int32) (hR : ac_R rg u0) (hp0 : (-1 : Int) ≤ p0.toInt ∧ p0.toInt ≤ 255) : ac_Mi l yX12_isDigit (.code yX12_isDigit cX12_isDigit 1 (some .boolean) :: TB) 1 (dC, dI) vwCl (ac_ty cA) ad cA (TT nF) [.int p0] u0 (fun (r : Int32) (u : ac_U) => u = u0 ∧ ((0 : Int) ≤ r.toInt ∧ r.toInt ≤ 1)) := by
  refine ac_Mi.of (cc := cX12_isDigit) (maxL := 1) (ret := (some .boolean)) (by decide) rfl (Nat.le_of_ble_eq_true rfl) ?_
  intro p e s m below meth c A ls F hml hr hlocks hA hP hD hS hl
  have F : ac_X p s m [.int p0].toArray c cX12_isDigit RX12 TB (dC, dI) vwCl (ac_ty cA) := ⟨F.1, F.2.1, fun w h => F.2.2.1 w (List.mem_cons_of_mem _ h), F.2.2.2.1, F.2.2.2.2⟩
  have hl : lv_has ls 1 [(0, .int p0)] := hl
  have L17 : ∀ (z0 : Int32) (H : Heap) (locs : List Loc) (ls : Array Slot), (0 : Int) ≤ z0.toInt ∧ z0.toInt ≤ 1 → va_P (dC, dI) vwCl (ac_w ad cA (TT nF) u0) H → va_D A (ac_w ad cA (TT nF) u0) → va_S A s.heap H locs → lv_has ls 1 [] → W p l e (ac_rm 1) s m [.int p0].toArray below meth c H locs 0 0 (MQ below (va_Qi (fun (r : Int32) (u : ac_U) => u = u0 ∧ ((0 : Int) ≤ r.toInt ∧ r.toInt ≤ 1)) (ac_B (dC, dI) vwCl (ac_ty cA) ad cA (TT nF) A) A) [.int p0].toArray s 0 0 A) (F0 m 17 ls [.int z0]) := by
    intro z0 H locs ls f0 hP hD hS hl
    exact a_retz F hr hlocks hP hD hS dX12_isDigit_17 (i_01 (by omega)) ⟨rfl, (by omega : (0 : Int) ≤ z0.toInt ∧ z0.toInt ≤ 1)⟩
  have L16 : ∀ (H : Heap) (locs : List Loc) (ls : Array Slot), va_P (dC, dI) vwCl (ac_w ad cA (TT nF) u0) H → va_D A (ac_w ad cA (TT nF) u0) → va_S A s.heap H locs → lv_has ls 1 [] → W p l e (ac_rm 1) s m [.int p0].toArray below meth c H locs 0 0 (MQ below (va_Qi (fun (r : Int32) (u : ac_U) => u = u0 ∧ ((0 : Int) ≤ r.toInt ∧ r.toInt ≤ 1)) (ac_B (dC, dI) vwCl (ac_ty cA) ad cA (TT nF) A) A) [.int p0].toArray s 0 0 A) (F0 m 16 ls []) := by
    intro H locs ls hP hD hS hl
    refine a_ic F (0 : Int32) dX12_isDigit_16 (by decide) ?_
    exact L17 (0 : Int32) _ _ _ (by decide) hP hD hS (lv_sub hl [] rfl)
  refine lv_iload_n F.1 F.2.1 dX12_isDigit_0 rfl (lv_at hl 0 rfl) ?_
  refine a_bp F (48 : Int32) dX12_isDigit_1 (by decide) ?_
  refine b_lt F 16 dX12_isDigit_3 (by decide) rfl ic_48 (fun c1 => ?_) (fun c1 => ?_)
  · exact L16 _ _ _  hP hD hS (lv_sub hl [] rfl)
  · refine lv_iload_n F.1 F.2.1 dX12_isDigit_6 rfl (lv_at hl 0 rfl) ?_
    refine a_bp F (57 : Int32) dX12_isDigit_7 (by decide) ?_
    refine b_gt F 16 dX12_isDigit_9 (by decide) rfl ic_57 (fun c2 => ?_) (fun c2 => ?_)
    · exact L16 _ _ _  hP hD hS (lv_sub hl [] rfl)
    · refine a_ic F (1 : Int32) dX12_isDigit_12 (by decide) ?_
      refine lv_goto (tgt := 17) F.1 F.2.1 dX12_isDigit_13 (by decide) ?_
      exact L17 (1 : Int32) _ _ _ (by decide) hP hD hS (lv_sub hl [] rfl)
set_option maxHeartbeats 4000000 in
set_option maxRecDepth 100000 in
theorem c_X12_isSmall (l : Launch) (dC : Nat → ClassId) (dI : Nat → Nat → Nat) (ad : Nat → Nat) (cA : Nat → ClassId) (nF : Nat) (u0 : ac_U) (p0 : Int32) (hR : ac_R rg u0) (hp0 : (-1 : Int) ≤ p0.toInt ∧ p0.toInt ≤ 255) : ac_Mi l yX12_isSmall (.code yX12_isSmall cX12_isSmall 1 (some .boolean) :: TB) 1 (dC, dI) vwCl (ac_ty cA) ad cA (TT nF) [.int p0] u0 (fun (r : Int32) (u : ac_U) => u = u0 ∧ ((0 : Int) ≤ r.toInt ∧ r.toInt ≤ 1)) := by
  refine ac_Mi.of (cc := cX12_isSmall) (maxL := 1) (ret := (some .boolean)) (by decide) rfl (Nat.le_of_ble_eq_true rfl) ?_
  intro p e s m below meth c A ls F hml hr hlocks hA hP hD hS hl
  have F : ac_X p s m [.int p0].toArray c cX12_isSmall RX12 TB (dC, dI) vwCl (ac_ty cA) := ⟨F.1, F.2.1, fun w h => F.2.2.1 w (List.mem_cons_of_mem _ h), F.2.2.2.1, F.2.2.2.2⟩
  have hl : lv_has ls 1 [(0, .int p0)] := hl
  have L17 : ∀ (z0 : Int32) (H : Heap) (locs : List Loc) (ls : Array Slot), (0 : Int) ≤ z0.toInt ∧ z0.toInt ≤ 1 → va_P (dC, dI) vwCl (ac_w ad cA (TT nF) u0) H → va_D A (ac_w ad cA (TT nF) u0) → va_S A s.heap H locs → lv_has ls 1 [] → W p l e (ac_rm 1) s m [.int p0].toArray below meth c H locs 0 0 (MQ below (va_Qi (fun (r : Int32) (u : ac_U) => u = u0 ∧ ((0 : Int) ≤ r.toInt ∧ r.toInt ≤ 1)) (ac_B (dC, dI) vwCl (ac_ty cA) ad cA (TT nF) A) A) [.int p0].toArray s 0 0 A) (F0 m 17 ls [.int z0]) := by
    intro z0 H locs ls f0 hP hD hS hl
    exact a_retz F hr hlocks hP hD hS dX12_isSmall_17 (i_01 (by omega)) ⟨rfl, (by omega : (0 : Int) ≤ z0.toInt ∧ z0.toInt ≤ 1)⟩
  have L16 : ∀ (H : Heap) (locs : List Loc) (ls : Array Slot), va_P (dC, dI) vwCl (ac_w ad cA (TT nF) u0) H → va_D A (ac_w ad cA (TT nF) u0) → va_S A s.heap H locs → lv_has ls 1 [] → W p l e (ac_rm 1) s m [.int p0].toArray below meth c H locs 0 0 (MQ below (va_Qi (fun (r : Int32) (u : ac_U) => u = u0 ∧ ((0 : Int) ≤ r.toInt ∧ r.toInt ≤ 1)) (ac_B (dC, dI) vwCl (ac_ty cA) ad cA (TT nF) A) A) [.int p0].toArray s 0 0 A) (F0 m 16 ls []) := by
    intro H locs ls hP hD hS hl
    refine a_ic F (0 : Int32) dX12_isSmall_16 (by decide) ?_
    exact L17 (0 : Int32) _ _ _ (by decide) hP hD hS (lv_sub hl [] rfl)
  refine lv_iload_n F.1 F.2.1 dX12_isSmall_0 rfl (lv_at hl 0 rfl) ?_
  refine a_bp F (97 : Int32) dX12_isSmall_1 (by decide) ?_
  refine b_lt F 16 dX12_isSmall_3 (by decide) rfl ic_97 (fun c1 => ?_) (fun c1 => ?_)
  · exact L16 _ _ _  hP hD hS (lv_sub hl [] rfl)
  · refine lv_iload_n F.1 F.2.1 dX12_isSmall_6 rfl (lv_at hl 0 rfl) ?_
    refine a_bp F (122 : Int32) dX12_isSmall_7 (by decide) ?_
    refine b_gt F 16 dX12_isSmall_9 (by decide) rfl ic_122 (fun c2 => ?_) (fun c2 => ?_)
    · exact L16 _ _ _  hP hD hS (lv_sub hl [] rfl)
    · refine a_ic F (1 : Int32) dX12_isSmall_12 (by decide) ?_
      refine lv_goto (tgt := 17) F.1 F.2.1 dX12_isSmall_13 (by decide) ?_
      exact L17 (1 : Int32) _ _ _ (by decide) hP hD hS (lv_sub hl [] rfl)
set_option maxHeartbeats 4000000 in
set_option maxRecDepth 100000 in
theorem c_X12_peek_85 (l : Launch) (dC : Nat → ClassId) (dI : Nat → Nat → Nat) (ad : Nat → Nat) (cA : Nat → ClassId) (nF : Nat) (u0 : ac_U)  (hR : ac_R rg u0) : ac_Mi l yX12_peek (.code yX12_peek cX12_peek 1 (some .int) :: TB) 1 (dC, dI) vwCl (ac_ty cA) ad cA (TT nF) [.ref (ad 85)] u0 (fun (r : Int32) (u : ac_U) => u = u0 ∧ ((-1 : Int) ≤ r.toInt ∧ r.toInt ≤ 255)) := by
  refine ac_Mi.of (cc := cX12_peek) (maxL := 1) (ret := (some .int)) (by decide) rfl (Nat.le_of_ble_eq_true rfl) ?_
  intro p e s m below meth c A ls F hml hr hlocks hA hP hD hS hl
  have F : ac_X p s m [.ref (ad 85)].toArray c cX12_peek RX12 TB (dC, dI) vwCl (ac_ty cA) := ⟨F.1, F.2.1, fun w h => F.2.2.1 w (List.mem_cons_of_mem _ h), F.2.2.2.1, F.2.2.2.2⟩
  have hl : lv_has ls 1 [(0, .ref (ad 85))] := hl
  have L28 : ∀ (z0 : Int32) (H : Heap) (locs : List Loc) (ls : Array Slot), (-1 : Int) ≤ z0.toInt ∧ z0.toInt ≤ 255 → va_P (dC, dI) vwCl (ac_w ad cA (TT nF) u0) H → va_D A (ac_w ad cA (TT nF) u0) → va_S A s.heap H locs → lv_has ls 1 [] → W p l e (ac_rm 1) s m [.ref (ad 85)].toArray below meth c H locs 0 0 (MQ below (va_Qi (fun (r : Int32) (u : ac_U) => u = u0 ∧ ((-1 : Int) ≤ r.toInt ∧ r.toInt ≤ 255)) (ac_B (dC, dI) vwCl (ac_ty cA) ad cA (TT nF) A) A) [.ref (ad 85)].toArray s 0 0 A) (F0 m 28 ls [.int z0]) := by
    intro z0 H locs ls f0 hP hD hS hl
    exact a_reti F hr hlocks hP hD hS dX12_peek_28 ⟨rfl, (by omega : (-1 : Int) ≤ z0.toInt ∧ z0.toInt ≤ 255)⟩
  refine lv_aload_n F.1 F.2.1 dX12_peek_0 rfl (lv_at hl 0 rfl) ?_
  have g1 : (0 : Int) ≤ (u0.1 85 4).toInt ∧ (u0.1 85 4).toInt ≤ 940 := hR 85 4
  refine a_geti F inX12 hP 85 4 tc_85 rfl rfl (by decide) q1475 (fun _ h9 => h9) (v := (u0.1 85 4)) rfl dX12_peek_1 ?_
  refine lv_aload_n F.1 F.2.1 dX12_peek_4 rfl (lv_at hl 0 rfl) ?_
  have g2 : (0 : Int) ≤ (u0.1 85 3).toInt ∧ (u0.1 85 3).toInt ≤ 940 := hR 85 3
  refine a_geti F inX12 hP 85 3 tc_85 rfl rfl (by decide) q1474 (fun _ h9 => h9) (v := (u0.1 85 3)) rfl dX12_peek_5 ?_
  refine b_ge F 27 dX12_peek_8 (by decide) rfl rfl (fun c3 => ?_) (fun c3 => ?_)
  · refine a_ic F (-1 : Int32) dX12_peek_27 (by decide) ?_
    exact L28 (-1 : Int32) _ _ _ (by decide) hP hD hS (lv_sub hl [] rfl)
  · refine lv_aload_n F.1 F.2.1 dX12_peek_11 rfl (lv_at hl 0 rfl) ?_
    refine a_getr F inX12 hP 85 1 tc_85 rfl rfl (by decide) q1472 (fun _ h9 => h9) dX12_peek_12 ?_
    refine lv_aload_n F.1 F.2.1 dX12_peek_15 rfl (lv_at hl 0 rfl) ?_
    refine a_geti F inX12 hP 85 4 tc_85 rfl rfl (by decide) q1475 (fun _ h9 => h9) (v := (u0.1 85 4)) rfl dX12_peek_16 ?_
    refine a_bald F hP 86 tc_86 rfl (i_in rfl (by omega)) dX12_peek_19 (fun v4 ev4 => ?_)
    have hv4 : (-128 : Int) ≤ v4.toInt ∧ v4.toInt ≤ 127 := ev4 ▸ hR 86 _
    refine a_sp F (255 : Int32) dX12_peek_20 (by decide) ?_
    refine a_iandM F dX12_peek_23 ic_255 (by omega) (fun v5 hv5 => ?_)
    refine lv_goto (tgt := 28) F.1 F.2.1 dX12_peek_24 (by decide) ?_
    exact L28 v5 _ _ _ (by omega) hP hD hS (lv_sub hl [] rfl)
set_option maxHeartbeats 4000000 in
set_option maxRecDepth 100000 in
theorem c_X12_isName_85 (l : Launch) (dC : Nat → ClassId) (dI : Nat → Nat → Nat) (ad : Nat → Nat) (cA : Nat → ClassId) (nF : Nat) (u0 : ac_U)  (hR : ac_R rg u0) : ac_Mi l yX12_isName (.code yX12_isName cX12_isName 3 (some .boolean) :: TB) 1 (dC, dI) vwCl (ac_ty cA) ad cA (TT nF) [.ref (ad 85)] u0 (fun (r : Int32) (u : ac_U) => u = u0 ∧ ((0 : Int) ≤ r.toInt ∧ r.toInt ≤ 1)) := by
  refine ac_Mi.of (cc := cX12_isName) (maxL := 3) (ret := (some .boolean)) (by decide) rfl (Nat.le_of_ble_eq_true rfl) ?_
  intro p e s m below meth c A ls F hml hr hlocks hA hP hD hS hl
  have F : ac_X p s m [.ref (ad 85)].toArray c cX12_isName RX12 TB (dC, dI) vwCl (ac_ty cA) := ⟨F.1, F.2.1, fun w h => F.2.2.1 w (List.mem_cons_of_mem _ h), F.2.2.2.1, F.2.2.2.2⟩
  have hl : lv_has ls 3 [(0, .ref (ad 85))] := hl
  have L16 : ∀ (n16 : Nat) (x1 : Int32) (x2 : Int32) (H : Heap) (locs : List Loc) (ls : Array Slot), 27 - x2.toInt < (n16 : Int) → (0 : Int) ≤ x1.toInt ∧ x1.toInt ≤ 1 → (0 : Int) ≤ x2.toInt ∧ x2.toInt ≤ 27 → va_P (dC, dI) vwCl (ac_w ad cA (TT nF) u0) H → va_D A (ac_w ad cA (TT nF) u0) → va_S A s.heap H locs → lv_has ls 3 [(0, .ref (ad 85)), (1, .int x1), (2, .int x2)] → W p l e (ac_rm 1) s m [.ref (ad 85)].toArray below meth c H locs 0 0 (MQ below (va_Qi (fun (r : Int32) (u : ac_U) => u = u0 ∧ ((0 : Int) ≤ r.toInt ∧ r.toInt ≤ 1)) (ac_B (dC, dI) vwCl (ac_ty cA) ad cA (TT nF) A) A) [.ref (ad 85)].toArray s 0 0 A) (F0 m 16 ls []) := by
    intro n16
    induction n16 with
    | zero => intro x1 x2 H locs ls hn16 f0 f1 hP hD hS hl; exfalso; omega
    | succ n16 ih16 =>
      intro x1 x2 H locs ls hn16 f0 f1 hP hD hS hl
      have L45 : ∀ (x2 : Int32) (z0 : Int32) (H : Heap) (locs : List Loc) (ls : Array Slot), (0 : Int) ≤ x2.toInt ∧ x2.toInt ≤ 26 → (0 : Int) ≤ z0.toInt ∧ z0.toInt ≤ 1 → 27 - x2.toInt + 0 < ((n16 : Nat) : Int) + 1 → va_P (dC, dI) vwCl (ac_w ad cA (TT nF) u0) H → va_D A (ac_w ad cA (TT nF) u0) → va_S A s.heap H locs → lv_has ls 3 [(0, .ref (ad 85)), (2, .int x2)] → W p l e (ac_rm 1) s m [.ref (ad 85)].toArray below meth c H locs 0 0 (MQ below (va_Qi (fun (r : Int32) (u : ac_U) => u = u0 ∧ ((0 : Int) ≤ r.toInt ∧ r.toInt ≤ 1)) (ac_B (dC, dI) vwCl (ac_ty cA) ad cA (TT nF) A) A) [.ref (ad 85)].toArray s 0 0 A) (F0 m 45 ls [.int z0]) := by
        intro x2 z0 H locs ls f0 f1 f2 hP hD hS hl
        refine lv_istore_n (lv' := [(1, .int z0), (0, .ref (ad 85)), (2, .int x2)]) F.1 F.2.1 dX12_isName_45 rfl hl (by decide) rfl (fun ls hl => ?_)
        refine a_iinc F (k := 2) (fun v1 => [(2, .int v1), (1, .int z0), (0, .ref (ad 85))]) dX12_isName_46 hl rfl rfl (by decide) (by omega) (by decide) (fun _ => rfl) (fun v1 ls hv1 hl => ?_)
        refine lv_goto (tgt := 16) F.1 F.2.1 dX12_isName_49 (by decide) ?_
        exact ih16 z0 v1 _ _ _ (by omega) (by omega) (by omega) hP hD hS (lv_sub hl [2, 1, 0] rfl)
      have L44 : ∀ (x2 : Int32) (H : Heap) (locs : List Loc) (ls : Array Slot), (0 : Int) ≤ x2.toInt ∧ x2.toInt ≤ 26 → 27 - x2.toInt + 0 < ((n16 : Nat) : Int) + 1 → va_P (dC, dI) vwCl (ac_w ad cA (TT nF) u0) H → va_D A (ac_w ad cA (TT nF) u0) → va_S A s.heap H locs → lv_has ls 3 [(0, .ref (ad 85)), (2, .int x2)] → W p l e (ac_rm 1) s m [.ref (ad 85)].toArray below meth c H locs 0 0 (MQ below (va_Qi (fun (r : Int32) (u : ac_U) => u = u0 ∧ ((0 : Int) ≤ r.toInt ∧ r.toInt ≤ 1)) (ac_B (dC, dI) vwCl (ac_ty cA) ad cA (TT nF) A) A) [.ref (ad 85)].toArray s 0 0 A) (F0 m 44 ls []) := by
        intro x2 H locs ls f0 f1 hP hD hS hl
        refine a_ic F (0 : Int32) dX12_isName_44 (by decide) ?_
        exact L45 x2 (0 : Int32) _ _ _ (by omega) (by decide) (by omega) hP hD hS (lv_sub hl [0, 1] rfl)
      refine lv_iload_n F.1 F.2.1 dX12_isName_16 rfl (lv_at hl 2 rfl) ?_
      refine a_bp F (27 : Int32) dX12_isName_17 (by decide) ?_
      refine b_ge F 52 dX12_isName_19 (by decide) rfl ic_27 (fun c2 => ?_) (fun c2 => ?_)
      · refine lv_iload_n F.1 F.2.1 dX12_isName_52 rfl (lv_at hl 1 rfl) ?_
        exact a_retz F hr hlocks hP hD hS dX12_isName_53 (i_01 (by omega)) ⟨rfl, (by omega : (0 : Int) ≤ x1.toInt ∧ x1.toInt ≤ 1)⟩
      · refine lv_iload_n F.1 F.2.1 dX12_isName_22 rfl (lv_at hl 1 rfl) ?_
        refine z_eq F 44 dX12_isName_23 (by decide) rfl (fun c3 => ?_) (fun c3 => ?_)
        · exact L44 x2 _ _ _ (by omega) (by omega) hP hD hS (lv_sub hl [0, 2] rfl)
        · refine lv_aload_n F.1 F.2.1 dX12_isName_26 rfl (lv_at hl 0 rfl) ?_
          refine a_getl F inX12 hP 85 17 tc_85 rfl rfl (by decide) q1488 (fun _ h9 => h9) rfl dX12_isName_27 ?_
          refine lv_topl (fun w4 _ => ?_)
          refine lv_aload_n F.1 F.2.1 dX12_isName_30 rfl (lv_at hl 0 rfl) ?_
          refine a_getr F inX12 hP 85 10 tc_85 rfl rfl (by decide) q1481 (fun _ h9 => h9) dX12_isName_31 ?_
          refine lv_iload_n F.1 F.2.1 dX12_isName_34 rfl (lv_at hl 2 rfl) ?_
          refine a_lald F hP 91 tc_91 rfl (i_in rfl (by omega)) dX12_isName_35 (fun w5 ew5 => ?_)
          refine W.lcmp F.1 F.2.1 dX12_isName_36 ?_
          refine lv_topi (fun v6 _ => ?_)
          refine z_eq F 44 dX12_isName_37 (by decide) rfl (fun c7 => ?_) (fun c7 => ?_)
          · exact L44 x2 _ _ _ (by omega) (by omega) hP hD hS (lv_sub hl [0, 2] rfl)
          · refine a_ic F (1 : Int32) dX12_isName_40 (by decide) ?_
            refine lv_goto (tgt := 45) F.1 F.2.1 dX12_isName_41 (by decide) ?_
            exact L45 x2 (1 : Int32) _ _ _ (by omega) (by decide) (by omega) hP hD hS (lv_sub hl [0, 2] rfl)
  have L13 : ∀ (z0 : Int32) (H : Heap) (locs : List Loc) (ls : Array Slot), (0 : Int) ≤ z0.toInt ∧ z0.toInt ≤ 1 → va_P (dC, dI) vwCl (ac_w ad cA (TT nF) u0) H → va_D A (ac_w ad cA (TT nF) u0) → va_S A s.heap H locs → lv_has ls 3 [(0, .ref (ad 85))] → W p l e (ac_rm 1) s m [.ref (ad 85)].toArray below meth c H locs 0 0 (MQ below (va_Qi (fun (r : Int32) (u : ac_U) => u = u0 ∧ ((0 : Int) ≤ r.toInt ∧ r.toInt ≤ 1)) (ac_B (dC, dI) vwCl (ac_ty cA) ad cA (TT nF) A) A) [.ref (ad 85)].toArray s 0 0 A) (F0 m 13 ls [.int z0]) := by
    intro z0 H locs ls f0 hP hD hS hl
    refine lv_istore_n (lv' := [(1, .int z0), (0, .ref (ad 85))]) F.1 F.2.1 dX12_isName_13 rfl hl (by decide) rfl (fun ls hl => ?_)
    refine a_ic F (0 : Int32) dX12_isName_14 (by decide) ?_
    refine lv_istore_n (lv' := [(2, .int (0 : Int32)), (1, .int z0), (0, .ref (ad 85))]) F.1 F.2.1 dX12_isName_15 rfl hl (by decide) rfl (fun ls hl => ?_)
    exact L16 29 z0 (0 : Int32) _ _ _ (by decide) (by omega) (by decide) hP hD hS (lv_sub hl [2, 1, 0] rfl)
  refine lv_aload_n F.1 F.2.1 dX12_isName_0 rfl (lv_at hl 0 rfl) ?_
  have g8 : (0 : Int) ≤ (u0.1 85 11).toInt ∧ (u0.1 85 11).toInt ≤ 4 := hR 85 11
  refine a_geti F inX12 hP 85 11 tc_85 rfl rfl (by decide) q1482 (fun _ h9 => h9) (v := (u0.1 85 11)) rfl dX12_isName_1 ?_
  refine a_ic F (1 : Int32) dX12_isName_4 (by decide) ?_
  refine b_ne F 12 dX12_isName_5 (by decide) rfl ic_1 (fun c9 => ?_) (fun c9 => ?_)
  · refine a_ic F (0 : Int32) dX12_isName_12 (by decide) ?_
    exact L13 (0 : Int32) _ _ _ (by decide) hP hD hS (lv_sub hl [0] rfl)
  · refine a_ic F (1 : Int32) dX12_isName_8 (by decide) ?_
    refine lv_goto (tgt := 13) F.1 F.2.1 dX12_isName_9 (by decide) ?_
    exact L13 (1 : Int32) _ _ _ (by decide) hP hD hS (lv_sub hl [0] rfl)
set_option maxHeartbeats 4000000 in
set_option maxRecDepth 100000 in
theorem c_X12_chainOf_85 (l : Launch) (dC : Nat → ClassId) (dI : Nat → Nat → Nat) (ad : Nat → Nat) (cA : Nat → ClassId) (nF : Nat) (u0 : ac_U) (p0 : Int32) (hR : ac_R rg u0) : ac_Mi l yX12_chainOf (.code yX12_chainOf cX12_chainOf 5 (some .int) :: TB) 2 (dC, dI) vwCl (ac_ty cA) ad cA (TT nF) [.ref (ad 85), .int p0] u0 (fun (r : Int32) (u : ac_U) => u = u0) := by
  refine ac_Mi.of (cc := cX12_chainOf) (maxL := 5) (ret := (some .int)) (by decide) rfl (Nat.le_of_ble_eq_true rfl) ?_
  intro p e s m below meth c A ls F hml hr hlocks hA hP hD hS hl
  have F : ac_X p s m [.ref (ad 85), .int p0].toArray c cX12_chainOf RX12 TB (dC, dI) vwCl (ac_ty cA) := ⟨F.1, F.2.1, fun w h => F.2.2.1 w (List.mem_cons_of_mem _ h), F.2.2.2.1, F.2.2.2.2⟩
  have hl : lv_has ls 5 [(0, .ref (ad 85)), (1, .int p0)] := hl
  have L6 : ∀ (n6 : Nat) (x2 : Int32) (x3 : Int32) (H : Heap) (locs : List Loc) (ls : Array Slot), 8 - x3.toInt < (n6 : Int) → (0 : Int) ≤ x3.toInt ∧ x3.toInt ≤ 8 → va_P (dC, dI) vwCl (ac_w ad cA (TT nF) u0) H → va_D A (ac_w ad cA (TT nF) u0) → va_S A s.heap H locs → lv_has ls 5 [(0, .ref (ad 85)), (2, .int x2), (3, .int x3)] → W p l e (ac_rm 2) s m [.ref (ad 85), .int p0].toArray below meth c H locs 0 0 (MQ below (va_Qi (fun (r : Int32) (u : ac_U) => u = u0) (ac_B (dC, dI) vwCl (ac_ty cA) ad cA (TT nF) A) A) [.ref (ad 85), .int p0].toArray s 0 0 A) (F0 m 6 ls []) := by
    intro n6
    induction n6 with
    | zero => intro x2 x3 H locs ls hn6 f0 hP hD hS hl; exfalso; omega
    | succ n6 ih6 =>
      intro x2 x3 H locs ls hn6 f0 hP hD hS hl
      have L15 : ∀ (n15 : Nat) (x2 : Int32) (x3 : Int32) (x4 : Int32) (H : Heap) (locs : List Loc) (ls : Array Slot), 8 - x4.toInt < (n15 : Int) → (0 : Int) ≤ x3.toInt ∧ x3.toInt ≤ 7 → (0 : Int) ≤ x4.toInt ∧ x4.toInt ≤ 8 → 8 - x3.toInt + 0 < ((n6 : Nat) : Int) + 1 → va_P (dC, dI) vwCl (ac_w ad cA (TT nF) u0) H → va_D A (ac_w ad cA (TT nF) u0) → va_S A s.heap H locs → lv_has ls 5 [(0, .ref (ad 85)), (2, .int x2), (3, .int x3), (4, .int x4)] → W p l e (ac_rm 2) s m [.ref (ad 85), .int p0].toArray below meth c H locs 0 0 (MQ below (va_Qi (fun (r : Int32) (u : ac_U) => u = u0) (ac_B (dC, dI) vwCl (ac_ty cA) ad cA (TT nF) A) A) [.ref (ad 85), .int p0].toArray s 0 0 A) (F0 m 15 ls []) := by
        intro n15
        induction n15 with
        | zero => intro x2 x3 x4 H locs ls hn15 f0 f1 f2 hP hD hS hl; exfalso; omega
        | succ n15 ih15 =>
          intro x2 x3 x4 H locs ls hn15 f0 f1 f2 hP hD hS hl
          have L59 : ∀ (x2 : Int32) (x3 : Int32) (x4 : Int32) (H : Heap) (locs : List Loc) (ls : Array Slot), (0 : Int) ≤ x3.toInt ∧ x3.toInt ≤ 7 → (0 : Int) ≤ x4.toInt ∧ x4.toInt ≤ 7 → 8 - x3.toInt + 0 < ((n6 : Nat) : Int) + 1 → 8 - x4.toInt + 0 < ((n15 : Nat) : Int) + 1 → va_P (dC, dI) vwCl (ac_w ad cA (TT nF) u0) H → va_D A (ac_w ad cA (TT nF) u0) → va_S A s.heap H locs → lv_has ls 5 [(0, .ref (ad 85)), (2, .int x2), (3, .int x3), (4, .int x4)] → W p l e (ac_rm 2) s m [.ref (ad 85), .int p0].toArray below meth c H locs 0 0 (MQ below (va_Qi (fun (r : Int32) (u : ac_U) => u = u0) (ac_B (dC, dI) vwCl (ac_ty cA) ad cA (TT nF) A) A) [.ref (ad 85), .int p0].toArray s 0 0 A) (F0 m 59 ls []) := by
            intro x2 x3 x4 H locs ls f0 f1 f2 f3 hP hD hS hl
            refine a_iinc F (k := 3) (fun v1 => [(4, .int v1), (0, .ref (ad 85)), (2, .int x2), (3, .int x3)]) dX12_chainOf_59 hl rfl rfl (by decide) (by omega) (by decide) (fun _ => rfl) (fun v1 ls hv1 hl => ?_)
            refine lv_goto (tgt := 15) F.1 F.2.1 dX12_chainOf_62 (by decide) ?_
            exact ih15 x2 x3 v1 _ _ _ (by omega) (by omega) (by omega) (by omega) hP hD hS (lv_sub hl [1, 2, 3, 0] rfl)
          refine lv_iload F.1 F.2.1 dX12_chainOf_15 (lv_at hl 3 rfl) ?_
          refine lv_aload_n F.1 F.2.1 dX12_chainOf_17 rfl (lv_at hl 0 rfl) ?_
          refine a_getr F inX12 hP 85 6 tc_85 rfl rfl (by decide) q1477 (fun _ h9 => h9) dX12_chainOf_18 ?_
          refine a_bp F (7 : Int32) dX12_chainOf_21 (by decide) ?_
          refine a_iald F hP 87 tc_87 rfl (i_in ic_7 (by omega)) dX12_chainOf_23 (fun v2 ev2 => ?_)
          have hv2 : (0 : Int) ≤ v2.toInt ∧ v2.toInt ≤ 8 := ev2 ▸ hR 87 _
          refine b_ge F 65 dX12_chainOf_24 (by decide) rfl rfl (fun c3 => ?_) (fun c3 => ?_)
          · refine a_iinc F (k := 2) (fun v4 => [(3, .int v4), (0, .ref (ad 85)), (2, .int x2), (4, .int x4)]) dX12_chainOf_65 hl rfl rfl (by decide) (by omega) (by decide) (fun _ => rfl) (fun v4 ls hv4 hl => ?_)
            refine lv_goto (tgt := 6) F.1 F.2.1 dX12_chainOf_68 (by decide) ?_
            exact ih6 x2 v4 _ _ _ (by omega) (by omega) hP hD hS (lv_sub hl [1, 2, 0] rfl)
          · refine lv_iload_n F.1 F.2.1 dX12_chainOf_27 rfl (lv_at hl 1 rfl) ?_
            refine lv_aload_n F.1 F.2.1 dX12_chainOf_28 rfl (lv_at hl 0 rfl) ?_
            refine a_getr F inX12 hP 85 6 tc_85 rfl rfl (by decide) q1477 (fun _ h9 => h9) dX12_chainOf_29 ?_
            refine a_bp F (98 : Int32) dX12_chainOf_32 (by decide) ?_
            refine lv_iload F.1 F.2.1 dX12_chainOf_34 (lv_at hl 3 rfl) ?_
            refine a_iadd F dX12_chainOf_36 ic_98 rfl (by omega) (fun v5 hv5 => ?_)
            refine a_iald F hP 87 tc_87 rfl (i_in rfl (by omega)) dX12_chainOf_37 (fun v6 ev6 => ?_)
            refine a_Si F hml hl.1 hA hP hD hS (As := [.int x2, .int v6]) (c_X12_bitOf l dC dI ad cA nF _ x2 v6 hR) (cs_RX12_223 (d := 1) F.2.2.1 (by decide)) rfl rfl (Nat.le_of_ble_eq_true rfl) dX12_chainOf_38 ⟨Nat.le_refl 0, Nat.le_refl 0⟩ (fun r7 uN7 H locs hq hP hD hS => ?_)
            obtain ⟨hu7, gr7⟩ := hq
            rw [hu7] at hP hD
            refine z_eq F 59 dX12_chainOf_41 (by decide) rfl (fun c8 => ?_) (fun c8 => ?_)
            · exact L59 x2 x3 x4 _ _ _ (by omega) (by omega) (by omega) (by omega) hP hD hS (lv_sub hl [0, 1, 2, 3] rfl)
            · refine lv_iload_n F.1 F.2.1 dX12_chainOf_44 rfl (lv_at hl 1 rfl) ?_
              refine a_ic F (1 : Int32) dX12_chainOf_45 (by decide) ?_
              refine lv_aload_n F.1 F.2.1 dX12_chainOf_46 rfl (lv_at hl 0 rfl) ?_
              refine a_getr F inX12 hP 85 6 tc_85 rfl rfl (by decide) q1477 (fun _ h9 => h9) dX12_chainOf_47 ?_
              refine a_bp F (90 : Int32) dX12_chainOf_50 (by decide) ?_
              refine lv_iload F.1 F.2.1 dX12_chainOf_52 (lv_at hl 3 rfl) ?_
              refine a_iadd F dX12_chainOf_54 ic_90 rfl (by omega) (fun v9 hv9 => ?_)
              refine a_iald F hP 87 tc_87 rfl (i_in rfl (by omega)) dX12_chainOf_55 (fun v10 ev10 => ?_)
              refine a_ishlU F dX12_chainOf_56 (fun v11 => ?_)
              refine a_iorU F dX12_chainOf_57 (fun v12 => ?_)
              refine lv_istore_n (lv' := [(2, .int v12), (0, .ref (ad 85)), (3, .int x3), (4, .int x4)]) F.1 F.2.1 dX12_chainOf_58 rfl hl (by decide) rfl (fun ls hl => ?_)
              exact L59 v12 x3 x4 _ _ _ (by omega) (by omega) (by omega) (by omega) hP hD hS (lv_sub hl [1, 0, 2, 3] rfl)
      refine lv_iload_n F.1 F.2.1 dX12_chainOf_6 rfl (lv_at hl 2 rfl) ?_
      refine a_bp F (8 : Int32) dX12_chainOf_7 (by decide) ?_
      refine b_ge F 71 dX12_chainOf_9 (by decide) rfl ic_8 (fun c13 => ?_) (fun c13 => ?_)
      · refine lv_iload_n F.1 F.2.1 dX12_chainOf_71 rfl (lv_at hl 1 rfl) ?_
        exact a_reti F hr hlocks hP hD hS dX12_chainOf_72 rfl
      · refine a_ic F (0 : Int32) dX12_chainOf_12 (by decide) ?_
        refine lv_istore (lv' := [(4, .int (0 : Int32)), (0, .ref (ad 85)), (2, .int x2), (3, .int x3)]) F.1 F.2.1 dX12_chainOf_13 hl (by decide) rfl (fun ls hl => ?_)
        exact L15 10 x2 x3 (0 : Int32) _ _ _ (by decide) (by omega) (by decide) (by omega) hP hD hS (lv_sub hl [1, 2, 3, 0] rfl)
  refine a_ic F (1 : Int32) dX12_chainOf_0 (by decide) ?_
  refine lv_iload_n F.1 F.2.1 dX12_chainOf_1 rfl (lv_at hl 1 rfl) ?_
  refine a_ishlU F dX12_chainOf_2 (fun v14 => ?_)
  refine lv_istore_n (lv' := [(2, .int v14), (0, .ref (ad 85)), (1, .int p0)]) F.1 F.2.1 dX12_chainOf_3 rfl hl (by decide) rfl (fun ls hl => ?_)
  refine a_ic F (0 : Int32) dX12_chainOf_4 (by decide) ?_
  refine lv_istore_n (lv' := [(3, .int (0 : Int32)), (2, .int v14), (0, .ref (ad 85)), (1, .int p0)]) F.1 F.2.1 dX12_chainOf_5 rfl hl (by decide) rfl (fun ls hl => ?_)
  exact L6 10 v14 (0 : Int32) _ _ _ (by decide) (by decide) hP hD hS (lv_sub hl [2, 1, 0] rfl)
set_option maxHeartbeats 4000000 in
set_option maxRecDepth 100000 in
theorem c_X12_chain_85 (l : Launch) (dC : Nat → ClassId) (dI : Nat → Nat → Nat) (ad : Nat → Nat) (cA : Nat → ClassId) (nF : Nat) (u0 : ac_U) (p0 : Int32) (hR : ac_R rg u0) : ac_Mi l yX12_chain (.code yX12_chain cX12_chain 2 (some .int) :: TB) 3 (dC, dI) vwCl (ac_ty cA) ad cA (TT nF) [.ref (ad 85), .int p0] u0 (fun (r : Int32) (u : ac_U) => ac_R rg u ∧ ac_Fr [(85, some 0)] u0 u) := by
  refine ac_Mi.of (cc := cX12_chain) (maxL := 2) (ret := (some .int)) (by decide) rfl (Nat.le_of_ble_eq_true rfl) ?_
  intro p e s m below meth c A ls F hml hr hlocks hA hP hD hS hl
  have F : ac_X p s m [.ref (ad 85), .int p0].toArray c cX12_chain RX12 TB (dC, dI) vwCl (ac_ty cA) := ⟨F.1, F.2.1, fun w h => F.2.2.1 w (List.mem_cons_of_mem _ h), F.2.2.2.1, F.2.2.2.2⟩
  have hl : lv_has ls 2 [(0, .ref (ad 85)), (1, .int p0)] := hl
  have hF : ac_Fr [(85, some 0)] u0 u0 := ac_Fr.rf
  have L22 : ∀ (z0 : Int32) (u : ac_U) (H : Heap) (locs : List Loc) (ls : Array Slot), ac_R rg u → ac_Fr [(85, some 0)] u0 u → (0 : Int) ≤ (u.1 85 0).toInt ∧ (u.1 85 0).toInt ≤ 0 → va_P (dC, dI) vwCl (ac_w ad cA (TT nF) u) H → va_D A (ac_w ad cA (TT nF) u) → va_S A s.heap H locs → lv_has ls 2 [] → W p l e (ac_rm 3) s m [.ref (ad 85), .int p0].toArray below meth c H locs 0 0 (MQ below (va_Qi (fun (r : Int32) (u : ac_U) => ac_R rg u ∧ ac_Fr [(85, some 0)] u0 u) (ac_B (dC, dI) vwCl (ac_ty cA) ad cA (TT nF) A) A) [.ref (ad 85), .int p0].toArray s 0 0 A) (F0 m 22 ls [.int z0]) := by
    intro z0 u H locs ls hR hF f0 hP hD hS hl
    exact a_reti F hr hlocks hP hD hS dX12_chain_22 ⟨hR, hF⟩
  refine lv_aload_n F.1 F.2.1 dX12_chain_0 rfl (lv_at hl 0 rfl) ?_
  refine a_ic F (0 : Int32) dX12_chain_1 (by decide) ?_
  refine a_puti F inX12 tyX12 tyX12_ok nmX12 hP hD hS 85 0 tc_85 rfl rfl (by decide) q1471 (fun _ h9 => h9) rfl (ty := .int) (tyX12_ok 0 (by decide)) rfl rfl dX12_chain_2 (fun H locs hP hD hS => ?_)
  have hR := hR.si (c := 85) (k := 0) (v := (0 : Int32)) (by rw [ic_0]; exact (by omega : (0 : Int) ≤ (0 : Int) ∧ (0 : Int) ≤ 1))
  have hF := hF.si (c := 85) (k := 0) (v := (0 : Int32)) rfl
  refine lv_aload_n F.1 F.2.1 dX12_chain_5 rfl (lv_at hl 0 rfl) ?_
  refine lv_iload_n F.1 F.2.1 dX12_chain_6 rfl (lv_at hl 1 rfl) ?_
  refine a_Vi F hml hl.1 hA hP hD hS (As := [.int p0]) (c_X12_isPromise_85 l dC dI ad cA nF _ p0 hR) (cs_RX12_244 (d := 2) F.2.2.1 (by decide)) tc_85 rfl rfl rfl rfl (Nat.le_of_ble_eq_true rfl) dX12_chain_7 ⟨Nat.le_refl 0, Nat.le_refl 0⟩ (fun r1 uN1 H locs hq hP hD hS => ?_)
  obtain ⟨hu1, gr1⟩ := hq
  rw [hu1] at hP hD
  refine z_eq F 21 dX12_chain_10 (by decide) rfl (fun c2 => ?_) (fun c2 => ?_)
  · refine a_ic F (-1 : Int32) dX12_chain_21 (by decide) ?_
    exact L22 (-1 : Int32) _ _ _ _ hR hF (by omega : (0 : Int) ≤ (0 : Int) ∧ (0 : Int) ≤ 0) hP hD hS (lv_sub hl [] rfl)
  · refine lv_aload_n F.1 F.2.1 dX12_chain_13 rfl (lv_at hl 0 rfl) ?_
    refine lv_iload_n F.1 F.2.1 dX12_chain_14 rfl (lv_at hl 1 rfl) ?_
    refine a_Vi F hml hl.1 hA hP hD hS (As := [.int p0]) (c_X12_chainOf_85 l dC dI ad cA nF _ p0 hR) (cs_RX12_363 (d := 2) F.2.2.1 (by decide)) tc_85 rfl rfl rfl rfl (Nat.le_of_ble_eq_true rfl) dX12_chain_15 ⟨Nat.le_refl 0, Nat.le_refl 0⟩ (fun r3 uN3 H locs hq hP hD hS => ?_)
    have hu3 := hq
    rw [hu3] at hP hD
    refine lv_goto (tgt := 22) F.1 F.2.1 dX12_chain_18 (by decide) ?_
    exact L22 r3 _ _ _ _ hR hF (by omega : (0 : Int) ≤ (0 : Int) ∧ (0 : Int) ≤ 0) hP hD hS (lv_sub hl [] rfl)
set_option maxHeartbeats 4000000 in
set_option maxRecDepth 100000 in
theorem c_X12_choiceOf_85 (l : Launch) (dC : Nat → ClassId) (dI : Nat → Nat → Nat) (ad : Nat → Nat) (cA : Nat → ClassId) (nF : Nat) (u0 : ac_U) (p0 : Int32) (hR : ac_R rg u0) : ac_Mi l yX12_choiceOf (.code yX12_choiceOf cX12_choiceOf 2 (some .int) :: TB) 1 (dC, dI) vwCl (ac_ty cA) ad cA (TT nF) [.ref (ad 85), .int p0] u0 (fun (r : Int32) (u : ac_U) => u = u0) := by
  refine ac_Mi.of (cc := cX12_choiceOf) (maxL := 2) (ret := (some .int)) (by decide) rfl (Nat.le_of_ble_eq_true rfl) ?_
  intro p e s m below meth c A ls F hml hr hlocks hA hP hD hS hl
  have F : ac_X p s m [.ref (ad 85), .int p0].toArray c cX12_choiceOf RX12 TB (dC, dI) vwCl (ac_ty cA) := ⟨F.1, F.2.1, fun w h => F.2.2.1 w (List.mem_cons_of_mem _ h), F.2.2.2.1, F.2.2.2.2⟩
  have hl : lv_has ls 2 [(0, .ref (ad 85)), (1, .int p0)] := hl
  have L37 : ∀ (z0 : Int32) (H : Heap) (locs : List Loc) (ls : Array Slot), va_P (dC, dI) vwCl (ac_w ad cA (TT nF) u0) H → va_D A (ac_w ad cA (TT nF) u0) → va_S A s.heap H locs → lv_has ls 2 [] → W p l e (ac_rm 1) s m [.ref (ad 85), .int p0].toArray below meth c H locs 0 0 (MQ below (va_Qi (fun (r : Int32) (u : ac_U) => u = u0) (ac_B (dC, dI) vwCl (ac_ty cA) ad cA (TT nF) A) A) [.ref (ad 85), .int p0].toArray s 0 0 A) (F0 m 37 ls [.int z0]) := by
    intro z0 H locs ls hP hD hS hl
    exact a_reti F hr hlocks hP hD hS dX12_choiceOf_37 rfl
  refine lv_iload_n F.1 F.2.1 dX12_choiceOf_0 rfl (lv_at hl 1 rfl) ?_
  refine z_ne F 8 dX12_choiceOf_1 (by decide) rfl (fun c1 => ?_) (fun c1 => ?_)
  · refine lv_iload_n F.1 F.2.1 dX12_choiceOf_8 rfl (lv_at hl 1 rfl) ?_
    refine lv_aload_n F.1 F.2.1 dX12_choiceOf_9 rfl (lv_at hl 0 rfl) ?_
    refine a_getr F inX12 hP 85 6 tc_85 rfl rfl (by decide) q1477 (fun _ h9 => h9) dX12_choiceOf_10 ?_
    refine a_ic F (1 : Int32) dX12_choiceOf_13 (by decide) ?_
    refine a_iald F hP 87 tc_87 rfl (i_in ic_1 (by omega)) dX12_choiceOf_14 (fun v2 ev2 => ?_)
    have hv2 : (0 : Int) ≤ v2.toInt ∧ v2.toInt ≤ 8 := ev2 ▸ hR 87 _
    refine b_gt F 25 dX12_choiceOf_15 (by decide) rfl rfl (fun c3 => ?_) (fun c3 => ?_)
    · refine a_sp F (199 : Int32) dX12_choiceOf_25 (by decide) ?_
      refine lv_iload_n F.1 F.2.1 dX12_choiceOf_28 rfl (lv_at hl 1 rfl) ?_
      refine a_iaddU F dX12_choiceOf_29 (fun v4 => ?_)
      refine lv_aload_n F.1 F.2.1 dX12_choiceOf_30 rfl (lv_at hl 0 rfl) ?_
      refine a_getr F inX12 hP 85 6 tc_85 rfl rfl (by decide) q1477 (fun _ h9 => h9) dX12_choiceOf_31 ?_
      refine a_ic F (1 : Int32) dX12_choiceOf_34 (by decide) ?_
      refine a_iald F hP 87 tc_87 rfl (i_in ic_1 (by omega)) dX12_choiceOf_35 (fun v5 ev5 => ?_)
      have hv5 : (0 : Int) ≤ v5.toInt ∧ v5.toInt ≤ 8 := ev5 ▸ hR 87 _
      refine a_isubU F dX12_choiceOf_36 (fun v6 => ?_)
      exact L37 v6 _ _ _  hP hD hS (lv_sub hl [] rfl)
    · refine a_bp F (99 : Int32) dX12_choiceOf_18 (by decide) ?_
      refine lv_iload_n F.1 F.2.1 dX12_choiceOf_20 rfl (lv_at hl 1 rfl) ?_
      refine a_iadd F dX12_choiceOf_21 ic_99 rfl (by omega) (fun v7 hv7 => ?_)
      refine lv_goto (tgt := 37) F.1 F.2.1 dX12_choiceOf_22 (by decide) ?_
      exact L37 v7 _ _ _  hP hD hS (lv_sub hl [] rfl)
  · refine a_ic F (0 : Int32) dX12_choiceOf_4 (by decide) ?_
    refine lv_goto (tgt := 37) F.1 F.2.1 dX12_choiceOf_5 (by decide) ?_
    exact L37 (0 : Int32) _ _ _  hP hD hS (lv_sub hl [] rfl)
set_option maxHeartbeats 4000000 in
set_option maxRecDepth 100000 in
theorem c_X12_taken_85 (l : Launch) (dC : Nat → ClassId) (dI : Nat → Nat → Nat) (ad : Nat → Nat) (cA : Nat → ClassId) (nF : Nat) (u0 : ac_U) (p0 : Int32) (hR : ac_R rg u0) (hp0 : (200 : Int) ≤ p0.toInt ∧ p0.toInt ≤ 900) : ac_Mv l yX12_taken (.code yX12_taken cX12_taken 2 none :: TB) 1 (dC, dI) vwCl (ac_ty cA) ad cA (TT nF) [.ref (ad 85), .int p0] u0 (fun (u : ac_U) => ac_R rg u ∧ ac_Fr [(85, some 2), (85, some 3), (85, some 4), (85, some 5)] u0 u) := by
  refine ac_Mv.of (cc := cX12_taken) (maxL := 2) (ret := none) (by decide) rfl (Nat.le_of_ble_eq_true rfl) ?_
  intro p e s m below meth c A ls F hml hr hlocks hA hP hD hS hl
  have F : ac_X p s m [.ref (ad 85), .int p0].toArray c cX12_taken RX12 TB (dC, dI) vwCl (ac_ty cA) := ⟨F.1, F.2.1, fun w h => F.2.2.1 w (List.mem_cons_of_mem _ h), F.2.2.2.1, F.2.2.2.2⟩
  have hl : lv_has ls 2 [(0, .ref (ad 85)), (1, .int p0)] := hl
  have hF : ac_Fr [(85, some 2), (85, some 3), (85, some 4), (85, some 5)] u0 u0 := ac_Fr.rf
  refine lv_aload_n F.1 F.2.1 dX12_taken_0 rfl (lv_at hl 0 rfl) ?_
  refine lv_aload_n F.1 F.2.1 dX12_taken_1 rfl (lv_at hl 0 rfl) ?_
  have g1 : (0 : Int) ≤ (u0.1 85 2).toInt ∧ (u0.1 85 2).toInt ≤ 940 := hR 85 2
  refine a_geti F inX12 hP 85 2 tc_85 rfl rfl (by decide) q1473 (fun _ h9 => h9) (v := (u0.1 85 2)) rfl dX12_taken_2 ?_
  refine a_puti F inX12 tyX12 tyX12_ok nmX12 hP hD hS 85 3 tc_85 rfl rfl (by decide) q1474 (fun _ h9 => h9) rfl (ty := .int) (tyX12_ok 3 (by decide)) rfl rfl dX12_taken_5 (fun H locs hP hD hS => ?_)
  have hR := hR.si (c := 85) (k := 3) (v := (u0.1 85 2)) (by omega : (0 : Int) ≤ (u0.1 85 2).toInt ∧ (u0.1 85 2).toInt ≤ 940)
  have hF := hF.si (c := 85) (k := 3) (v := (u0.1 85 2)) rfl
  refine lv_aload_n F.1 F.2.1 dX12_taken_8 rfl (lv_at hl 0 rfl) ?_
  refine a_ic F (0 : Int32) dX12_taken_9 (by decide) ?_
  refine a_puti F inX12 tyX12 tyX12_ok nmX12 hP hD hS 85 2 tc_85 rfl rfl (by decide) q1473 (fun _ h9 => h9) rfl (ty := .int) (tyX12_ok 2 (by decide)) rfl rfl dX12_taken_10 (fun H locs hP hD hS => ?_)
  have hR := hR.si (c := 85) (k := 2) (v := (0 : Int32)) (by rw [ic_0]; exact (by omega : (0 : Int) ≤ (0 : Int) ∧ (0 : Int) ≤ 940))
  have hF := hF.si (c := 85) (k := 2) (v := (0 : Int32)) rfl
  refine lv_aload_n F.1 F.2.1 dX12_taken_13 rfl (lv_at hl 0 rfl) ?_
  refine a_ic F (0 : Int32) dX12_taken_14 (by decide) ?_
  refine a_puti F inX12 tyX12 tyX12_ok nmX12 hP hD hS 85 4 tc_85 rfl rfl (by decide) q1475 (fun _ h9 => h9) rfl (ty := .int) (tyX12_ok 4 (by decide)) rfl rfl dX12_taken_15 (fun H locs hP hD hS => ?_)
  have hR := hR.si (c := 85) (k := 4) (v := (0 : Int32)) (by rw [ic_0]; exact (by omega : (0 : Int) ≤ (0 : Int) ∧ (0 : Int) ≤ 940))
  have hF := hF.si (c := 85) (k := 4) (v := (0 : Int32)) rfl
  refine lv_aload_n F.1 F.2.1 dX12_taken_18 rfl (lv_at hl 0 rfl) ?_
  refine lv_iload_n F.1 F.2.1 dX12_taken_19 rfl (lv_at hl 1 rfl) ?_
  refine a_puti F inX12 tyX12 tyX12_ok nmX12 hP hD hS 85 5 tc_85 rfl rfl (by decide) q1476 (fun _ h9 => h9) rfl (ty := .int) (tyX12_ok 5 (by decide)) rfl rfl dX12_taken_20 (fun H locs hP hD hS => ?_)
  have hR := hR.si (c := 85) (k := 5) (v := p0) (by omega : (0 : Int) ≤ p0.toInt ∧ p0.toInt ≤ 900)
  have hF := hF.si (c := 85) (k := 5) (v := p0) rfl
  exact a_retv F hr hlocks hP hD hS dX12_taken_23 ⟨hR, hF⟩
set_option maxHeartbeats 4000000 in
set_option maxRecDepth 100000 in
theorem c_X12_dry_85 (l : Launch) (dC : Nat → ClassId) (dI : Nat → Nat → Nat) (ad : Nat → Nat) (cA : Nat → ClassId) (nF : Nat) (u0 : ac_U)  (hR : ac_R rg u0) : ac_Mi l yX12_dry (.code yX12_dry cX12_dry 3 (some .int) :: TB) 1 (dC, dI) vwCl (ac_ty cA) ad cA (TT nF) [.ref (ad 85)] u0 (fun (r : Int32) (u : ac_U) => ac_R rg u ∧ ac_Fr [(85, some 0)] u0 u) := by
  refine ac_Mi.of (cc := cX12_dry) (maxL := 3) (ret := (some .int)) (by decide) rfl (Nat.le_of_ble_eq_true rfl) ?_
  intro p e s m below meth c A ls F hml hr hlocks hA hP hD hS hl
  have F : ac_X p s m [.ref (ad 85)].toArray c cX12_dry RX12 TB (dC, dI) vwCl (ac_ty cA) := ⟨F.1, F.2.1, fun w h => F.2.2.1 w (List.mem_cons_of_mem _ h), F.2.2.2.1, F.2.2.2.2⟩
  have hl : lv_has ls 3 [(0, .ref (ad 85))] := hl
  have hF : ac_Fr [(85, some 0)] u0 u0 := ac_Fr.rf
  have L18 : ∀ (n18 : Nat) (x1 : Int32) (x2 : Int32) (u : ac_U) (H : Heap) (locs : List Loc) (ls : Array Slot), 6 - x2.toInt < (n18 : Int) → ac_R rg u → ac_Fr [(85, some 0)] u0 u → (0 : Int) ≤ x2.toInt ∧ x2.toInt ≤ 6 → (0 : Int) ≤ (u.1 85 0).toInt ∧ (u.1 85 0).toInt ≤ 0 → va_P (dC, dI) vwCl (ac_w ad cA (TT nF) u) H → va_D A (ac_w ad cA (TT nF) u) → va_S A s.heap H locs → lv_has ls 3 [(0, .ref (ad 85)), (1, .int x1), (2, .int x2)] → W p l e (ac_rm 1) s m [.ref (ad 85)].toArray below meth c H locs 0 0 (MQ below (va_Qi (fun (r : Int32) (u : ac_U) => ac_R rg u ∧ ac_Fr [(85, some 0)] u0 u) (ac_B (dC, dI) vwCl (ac_ty cA) ad cA (TT nF) A) A) [.ref (ad 85)].toArray s 0 0 A) (F0 m 18 ls []) := by
    intro n18
    induction n18 with
    | zero => intro x1 x2 u H locs ls hn18 hR hF f0 f1 hP hD hS hl; exfalso; omega
    | succ n18 ih18 =>
      intro x1 x2 u H locs ls hn18 hR hF f0 f1 hP hD hS hl
      refine lv_iload_n F.1 F.2.1 dX12_dry_18 rfl (lv_at hl 2 rfl) ?_
      refine lv_aload_n F.1 F.2.1 dX12_dry_19 rfl (lv_at hl 0 rfl) ?_
      refine a_getr F inX12 hP 85 6 tc_85 rfl rfl (by decide) q1477 (fun _ h9 => h9) dX12_dry_20 ?_
      refine a_ic F (3 : Int32) dX12_dry_23 (by decide) ?_
      refine a_iald F hP 87 tc_87 rfl (i_in ic_3 (by omega)) dX12_dry_24 (fun v1 ev1 => ?_)
      have hv1 : (0 : Int) ≤ v1.toInt ∧ v1.toInt ≤ 6 := ev1 ▸ hR 87 _
      refine b_ge F 50 dX12_dry_25 (by decide) rfl rfl (fun c2 => ?_) (fun c2 => ?_)
      · refine lv_iload_n F.1 F.2.1 dX12_dry_50 rfl (lv_at hl 1 rfl) ?_
        exact a_reti F hr hlocks hP hD hS dX12_dry_51 ⟨hR, hF⟩
      · refine lv_iload_n F.1 F.2.1 dX12_dry_28 rfl (lv_at hl 1 rfl) ?_
        refine a_ic F (1 : Int32) dX12_dry_29 (by decide) ?_
        refine lv_aload_n F.1 F.2.1 dX12_dry_30 rfl (lv_at hl 0 rfl) ?_
        refine a_getr F inX12 hP 85 6 tc_85 rfl rfl (by decide) q1477 (fun _ h9 => h9) dX12_dry_31 ?_
        refine a_bp F (16 : Int32) dX12_dry_34 (by decide) ?_
        refine lv_iload_n F.1 F.2.1 dX12_dry_36 rfl (lv_at hl 2 rfl) ?_
        refine a_iadd F dX12_dry_37 ic_16 rfl (by omega) (fun v3 hv3 => ?_)
        refine a_iald F hP 87 tc_87 rfl (i_in rfl (by omega)) dX12_dry_38 (fun v4 ev4 => ?_)
        have hv4 : (0 : Int) ≤ v4.toInt ∧ v4.toInt ≤ 7 := rg_seg_87_16_21 hR ev4 (by omega)
        refine a_ishlU F dX12_dry_39 (fun v5 => ?_)
        refine a_ic F (-1 : Int32) dX12_dry_40 (by decide) ?_
        refine a_ixorU F dX12_dry_41 (fun v6 => ?_)
        refine a_iandU F dX12_dry_42 (fun v7 => ?_)
        refine lv_istore_n (lv' := [(1, .int v7), (0, .ref (ad 85)), (2, .int x2)]) F.1 F.2.1 dX12_dry_43 rfl hl (by decide) rfl (fun ls hl => ?_)
        refine a_iinc F (k := 2) (fun v8 => [(2, .int v8), (1, .int v7), (0, .ref (ad 85))]) dX12_dry_44 hl rfl rfl (by decide) (by omega) (by decide) (fun _ => rfl) (fun v8 ls hv8 hl => ?_)
        refine lv_goto (tgt := 18) F.1 F.2.1 dX12_dry_47 (by decide) ?_
        have g9 : (0 : Int) ≤ (u.1 85 0).toInt ∧ (u.1 85 0).toInt ≤ 1 := hR 85 0
        exact ih18 v7 v8 _ _ _ _ (by omega) hR hF (by omega) (by omega : (0 : Int) ≤ (u.1 85 0).toInt ∧ (u.1 85 0).toInt ≤ 0) hP hD hS (lv_sub hl [2, 1, 0] rfl)
  refine lv_aload_n F.1 F.2.1 dX12_dry_0 rfl (lv_at hl 0 rfl) ?_
  refine a_ic F (0 : Int32) dX12_dry_1 (by decide) ?_
  refine a_puti F inX12 tyX12 tyX12_ok nmX12 hP hD hS 85 0 tc_85 rfl rfl (by decide) q1471 (fun _ h9 => h9) rfl (ty := .int) (tyX12_ok 0 (by decide)) rfl rfl dX12_dry_2 (fun H locs hP hD hS => ?_)
  have hR := hR.si (c := 85) (k := 0) (v := (0 : Int32)) (by rw [ic_0]; exact (by omega : (0 : Int) ≤ (0 : Int) ∧ (0 : Int) ≤ 1))
  have hF := hF.si (c := 85) (k := 0) (v := (0 : Int32)) rfl
  refine a_ic F (1 : Int32) dX12_dry_5 (by decide) ?_
  refine lv_aload_n F.1 F.2.1 dX12_dry_6 rfl (lv_at hl 0 rfl) ?_
  refine a_getr F inX12 hP 85 6 tc_85 rfl rfl (by decide) q1477 (fun _ h9 => h9) dX12_dry_7 ?_
  refine a_ic F (1 : Int32) dX12_dry_10 (by decide) ?_
  refine a_iald F hP 87 tc_87 rfl (i_in ic_1 (by omega)) dX12_dry_11 (fun v10 ev10 => ?_)
  have hv10 : (0 : Int) ≤ v10.toInt ∧ v10.toInt ≤ 8 := ev10 ▸ hR 87 _
  refine a_ishlU F dX12_dry_12 (fun v11 => ?_)
  refine a_ic F (1 : Int32) dX12_dry_13 (by decide) ?_
  refine a_isubU F dX12_dry_14 (fun v12 => ?_)
  refine lv_istore_n (lv' := [(1, .int v12), (0, .ref (ad 85))]) F.1 F.2.1 dX12_dry_15 rfl hl (by decide) rfl (fun ls hl => ?_)
  refine a_ic F (0 : Int32) dX12_dry_16 (by decide) ?_
  refine lv_istore_n (lv' := [(2, .int (0 : Int32)), (1, .int v12), (0, .ref (ad 85))]) F.1 F.2.1 dX12_dry_17 rfl hl (by decide) rfl (fun ls hl => ?_)
  exact L18 8 v12 (0 : Int32) _ _ _ _ (by decide) hR hF (by decide) (by omega : (0 : Int) ≤ (0 : Int) ∧ (0 : Int) ≤ 0) hP hD hS (lv_sub hl [2, 1, 0] rfl)
set_option maxHeartbeats 4000000 in
set_option maxRecDepth 100000 in
theorem c_X12_end_85 (l : Launch) (dC : Nat → ClassId) (dI : Nat → Nat → Nat) (ad : Nat → Nat) (cA : Nat → ClassId) (nF : Nat) (u0 : ac_U) (p0 : Int32) (hR : ac_R rg u0) : ac_Mi l yX12_end (.code yX12_end cX12_end 2 (some .boolean) :: TB) 1 (dC, dI) vwCl (ac_ty cA) ad cA (TT nF) [.ref (ad 85), .int p0] u0 (fun (r : Int32) (u : ac_U) => ac_R rg u ∧ ac_Fr [(85, some 0), (85, some 2)] u0 u ∧ ((0 : Int) ≤ r.toInt ∧ r.toInt ≤ 1)) := by
  refine ac_Mi.of (cc := cX12_end) (maxL := 2) (ret := (some .boolean)) (by decide) rfl (Nat.le_of_ble_eq_true rfl) ?_
  intro p e s m below meth c A ls F hml hr hlocks hA hP hD hS hl
  have F : ac_X p s m [.ref (ad 85), .int p0].toArray c cX12_end RX12 TB (dC, dI) vwCl (ac_ty cA) := ⟨F.1, F.2.1, fun w h => F.2.2.1 w (List.mem_cons_of_mem _ h), F.2.2.2.1, F.2.2.2.2⟩
  have hl : lv_has ls 2 [(0, .ref (ad 85)), (1, .int p0)] := hl
  have hF : ac_Fr [(85, some 0), (85, some 2)] u0 u0 := ac_Fr.rf
  have L17 : ∀ (u : ac_U) (H : Heap) (locs : List Loc) (ls : Array Slot), ac_R rg u → ac_Fr [(85, some 0), (85, some 2)] u0 u → (0 : Int) ≤ (u.1 85 0).toInt ∧ (u.1 85 0).toInt ≤ 0 → va_P (dC, dI) vwCl (ac_w ad cA (TT nF) u) H → va_D A (ac_w ad cA (TT nF) u) → va_S A s.heap H locs → lv_has ls 2 [] → W p l e (ac_rm 1) s m [.ref (ad 85), .int p0].toArray below meth c H locs 0 0 (MQ below (va_Qi (fun (r : Int32) (u : ac_U) => ac_R rg u ∧ ac_Fr [(85, some 0), (85, some 2)] u0 u ∧ ((0 : Int) ≤ r.toInt ∧ r.toInt ≤ 1)) (ac_B (dC, dI) vwCl (ac_ty cA) ad cA (TT nF) A) A) [.ref (ad 85), .int p0].toArray s 0 0 A) (F0 m 17 ls []) := by
    intro u H locs ls hR hF f0 hP hD hS hl
    refine a_ic F (0 : Int32) dX12_end_17 (by decide) ?_
    exact a_retz F hr hlocks hP hD hS dX12_end_18 (Or.inl rfl) ⟨hR, hF, (by decide)⟩
  refine lv_aload_n F.1 F.2.1 dX12_end_0 rfl (lv_at hl 0 rfl) ?_
  refine a_ic F (0 : Int32) dX12_end_1 (by decide) ?_
  refine a_puti F inX12 tyX12 tyX12_ok nmX12 hP hD hS 85 0 tc_85 rfl rfl (by decide) q1471 (fun _ h9 => h9) rfl (ty := .int) (tyX12_ok 0 (by decide)) rfl rfl dX12_end_2 (fun H locs hP hD hS => ?_)
  have hR := hR.si (c := 85) (k := 0) (v := (0 : Int32)) (by rw [ic_0]; exact (by omega : (0 : Int) ≤ (0 : Int) ∧ (0 : Int) ≤ 1))
  have hF := hF.si (c := 85) (k := 0) (v := (0 : Int32)) rfl
  refine lv_iload_n F.1 F.2.1 dX12_end_5 rfl (lv_at hl 1 rfl) ?_
  refine z_lt F 17 dX12_end_6 (by decide) rfl (fun c1 => ?_) (fun c1 => ?_)
  · exact L17 _ _ _ _ hR hF (by omega : (0 : Int) ≤ (0 : Int) ∧ (0 : Int) ≤ 0) hP hD hS (lv_sub hl [] rfl)
  · refine lv_iload_n F.1 F.2.1 dX12_end_9 rfl (lv_at hl 1 rfl) ?_
    refine lv_aload_n F.1 F.2.1 dX12_end_10 rfl (lv_at hl 0 rfl) ?_
    have g2 : (0 : Int) ≤ (u0.1 85 2).toInt ∧ (u0.1 85 2).toInt ≤ 940 := hR 85 2
    refine a_geti F inX12 hP 85 2 tc_85 rfl rfl (by decide) q1473 (fun _ h9 => h9) (v := (u0.1 85 2)) rfl dX12_end_11 ?_
    refine b_le F 19 dX12_end_14 (by decide) rfl rfl (fun c3 => ?_) (fun c3 => ?_)
    · refine lv_aload_n F.1 F.2.1 dX12_end_19 rfl (lv_at hl 0 rfl) ?_
      refine lv_iload_n F.1 F.2.1 dX12_end_20 rfl (lv_at hl 1 rfl) ?_
      refine a_puti F inX12 tyX12 tyX12_ok nmX12 hP hD hS 85 2 tc_85 rfl rfl (by decide) q1473 (fun _ h9 => h9) rfl (ty := .int) (tyX12_ok 2 (by decide)) rfl rfl dX12_end_21 (fun H locs hP hD hS => ?_)
      have hR := hR.si (c := 85) (k := 2) (v := p0) (by omega : (0 : Int) ≤ p0.toInt ∧ p0.toInt ≤ 940)
      have hF := hF.si (c := 85) (k := 2) (v := p0) rfl
      refine a_ic F (1 : Int32) dX12_end_24 (by decide) ?_
      exact a_retz F hr hlocks hP hD hS dX12_end_25 (Or.inr rfl) ⟨hR, hF, (by decide)⟩
    · exact L17 _ _ _ _ hR hF (by omega : (0 : Int) ≤ (0 : Int) ∧ (0 : Int) ≤ 0) hP hD hS (lv_sub hl [] rfl)
set_option maxHeartbeats 4000000 in
set_option maxRecDepth 100000 in
theorem c_X12_fault_85 (l : Launch) (dC : Nat → ClassId) (dI : Nat → Nat → Nat) (ad : Nat → Nat) (cA : Nat → ClassId) (nF : Nat) (u0 : ac_U)  (hR : ac_R rg u0) : ac_Mi l yX12_fault (.code yX12_fault cX12_fault 1 (some .int) :: TB) 1 (dC, dI) vwCl (ac_ty cA) ad cA (TT nF) [.ref (ad 85)] u0 (fun (r : Int32) (u : ac_U) => ac_R rg u ∧ ac_Fr [(85, some 0)] u0 u) := by
  refine ac_Mi.of (cc := cX12_fault) (maxL := 1) (ret := (some .int)) (by decide) rfl (Nat.le_of_ble_eq_true rfl) ?_
  intro p e s m below meth c A ls F hml hr hlocks hA hP hD hS hl
  have F : ac_X p s m [.ref (ad 85)].toArray c cX12_fault RX12 TB (dC, dI) vwCl (ac_ty cA) := ⟨F.1, F.2.1, fun w h => F.2.2.1 w (List.mem_cons_of_mem _ h), F.2.2.2.1, F.2.2.2.2⟩
  have hl : lv_has ls 1 [(0, .ref (ad 85))] := hl
  have hF : ac_Fr [(85, some 0)] u0 u0 := ac_Fr.rf
  refine lv_aload_n F.1 F.2.1 dX12_fault_0 rfl (lv_at hl 0 rfl) ?_
  refine a_ic F (0 : Int32) dX12_fault_1 (by decide) ?_
  refine a_puti F inX12 tyX12 tyX12_ok nmX12 hP hD hS 85 0 tc_85 rfl rfl (by decide) q1471 (fun _ h9 => h9) rfl (ty := .int) (tyX12_ok 0 (by decide)) rfl rfl dX12_fault_2 (fun H locs hP hD hS => ?_)
  have hR := hR.si (c := 85) (k := 0) (v := (0 : Int32)) (by rw [ic_0]; exact (by omega : (0 : Int) ≤ (0 : Int) ∧ (0 : Int) ≤ 1))
  have hF := hF.si (c := 85) (k := 0) (v := (0 : Int32)) rfl
  refine lv_aload_n F.1 F.2.1 dX12_fault_5 rfl (lv_at hl 0 rfl) ?_
  refine a_geti F inX12 hP 85 15 tc_85 rfl rfl (by decide) q1486 (fun _ h9 => h9) (v := (u0.1 85 15)) rfl dX12_fault_6 ?_
  exact a_reti F hr hlocks hP hD hS dX12_fault_9 ⟨hR, hF⟩
set_option maxHeartbeats 4000000 in
set_option maxRecDepth 100000 in
theorem c_X12_fits_85 (l : Launch) (dC : Nat → ClassId) (dI : Nat → Nat → Nat) (ad : Nat → Nat) (cA : Nat → ClassId) (nF : Nat) (u0 : ac_U) (p0 : Int32) (p1 : Int32) (p2 : Int32) (p3 : Int32) (p4 : Int32) (hR : ac_R rg u0) : ac_Mi l yX12_fits (.code yX12_fits cX12_fits 10 (some .boolean) :: TB) 2 (dC, dI) vwCl (ac_ty cA) ad cA (TT nF) [.ref (ad 85), .int p0, .int p1, .int p2, .int p3, .int p4] u0 (fun (r : Int32) (u : ac_U) => u = u0 ∧ ((0 : Int) ≤ r.toInt ∧ r.toInt ≤ 1)) := by
  refine ac_Mi.of (cc := cX12_fits) (maxL := 10) (ret := (some .boolean)) (by decide) rfl (Nat.le_of_ble_eq_true rfl) ?_
  intro p e s m below meth c A ls F hml hr hlocks hA hP hD hS hl
  have F : ac_X p s m [.ref (ad 85), .int p0, .int p1, .int p2, .int p3, .int p4].toArray c cX12_fits RX12 TB (dC, dI) vwCl (ac_ty cA) := ⟨F.1, F.2.1, fun w h => F.2.2.1 w (List.mem_cons_of_mem _ h), F.2.2.2.1, F.2.2.2.2⟩
  have hl : lv_has ls 10 [(0, .ref (ad 85)), (1, .int p0), (2, .int p1), (3, .int p2), (4, .int p3), (5, .int p4)] := hl
  have L3 : ∀ (n3 : Nat) (x1 : Int32) (x2 : Int32) (x3 : Int32) (x4 : Int32) (x5 : Int32) (x6 : Int32) (H : Heap) (locs : List Loc) (ls : Array Slot), 121 - x6.toInt < (n3 : Int) → (0 : Int) ≤ x6.toInt ∧ x6.toInt ≤ 121 → va_P (dC, dI) vwCl (ac_w ad cA (TT nF) u0) H → va_D A (ac_w ad cA (TT nF) u0) → va_S A s.heap H locs → lv_has ls 10 [(0, .ref (ad 85)), (1, .int x1), (2, .int x2), (3, .int x3), (4, .int x4), (5, .int x5), (6, .int x6)] → W p l e (ac_rm 2) s m [.ref (ad 85), .int p0, .int p1, .int p2, .int p3, .int p4].toArray below meth c H locs 0 0 (MQ below (va_Qi (fun (r : Int32) (u : ac_U) => u = u0 ∧ ((0 : Int) ≤ r.toInt ∧ r.toInt ≤ 1)) (ac_B (dC, dI) vwCl (ac_ty cA) ad cA (TT nF) A) A) [.ref (ad 85), .int p0, .int p1, .int p2, .int p3, .int p4].toArray s 0 0 A) (F0 m 3 ls []) := by
    intro n3
    induction n3 with
    | zero => intro x1 x2 x3 x4 x5 x6 H locs ls hn3 f0 hP hD hS hl; exfalso; omega
    | succ n3 ih3 =>
      intro x1 x2 x3 x4 x5 x6 H locs ls hn3 f0 hP hD hS hl
      have L18 : ∀ (n18 : Nat) (x1 : Int32) (x2 : Int32) (x3 : Int32) (x4 : Int32) (x5 : Int32) (x6 : Int32) (x7 : Int32) (x8 : Int32) (H : Heap) (locs : List Loc) (ls : Array Slot), 80 - x8.toInt < (n18 : Int) → (0 : Int) ≤ x6.toInt ∧ x6.toInt ≤ 120 → (0 : Int) ≤ x7.toInt ∧ x7.toInt ≤ 1 → (0 : Int) ≤ x8.toInt ∧ x8.toInt ≤ 80 → 121 - x6.toInt + 0 < ((n3 : Nat) : Int) + 1 → va_P (dC, dI) vwCl (ac_w ad cA (TT nF) u0) H → va_D A (ac_w ad cA (TT nF) u0) → va_S A s.heap H locs → lv_has ls 10 [(0, .ref (ad 85)), (1, .int x1), (2, .int x2), (3, .int x3), (4, .int x4), (5, .int x5), (6, .int x6), (7, .int x7), (8, .int x8)] → W p l e (ac_rm 2) s m [.ref (ad 85), .int p0, .int p1, .int p2, .int p3, .int p4].toArray below meth c H locs 0 0 (MQ below (va_Qi (fun (r : Int32) (u : ac_U) => u = u0 ∧ ((0 : Int) ≤ r.toInt ∧ r.toInt ≤ 1)) (ac_B (dC, dI) vwCl (ac_ty cA) ad cA (TT nF) A) A) [.ref (ad 85), .int p0, .int p1, .int p2, .int p3, .int p4].toArray s 0 0 A) (F0 m 18 ls []) := by
        intro n18
        induction n18 with
        | zero => intro x1 x2 x3 x4 x5 x6 x7 x8 H locs ls hn18 f0 f1 f2 f3 hP hD hS hl; exfalso; omega
        | succ n18 ih18 =>
          intro x1 x2 x3 x4 x5 x6 x7 x8 H locs ls hn18 f0 f1 f2 f3 hP hD hS hl
          have L116 : ∀ (x1 : Int32) (x2 : Int32) (x3 : Int32) (x4 : Int32) (x5 : Int32) (x6 : Int32) (x8 : Int32) (z0 : Int32) (H : Heap) (locs : List Loc) (ls : Array Slot), (0 : Int) ≤ x6.toInt ∧ x6.toInt ≤ 120 → (0 : Int) ≤ x8.toInt ∧ x8.toInt ≤ 79 → (0 : Int) ≤ z0.toInt ∧ z0.toInt ≤ 1 → 121 - x6.toInt + 0 < ((n3 : Nat) : Int) + 1 → 80 - x8.toInt + 0 < ((n18 : Nat) : Int) + 1 → va_P (dC, dI) vwCl (ac_w ad cA (TT nF) u0) H → va_D A (ac_w ad cA (TT nF) u0) → va_S A s.heap H locs → lv_has ls 10 [(0, .ref (ad 85)), (1, .int x1), (2, .int x2), (3, .int x3), (4, .int x4), (5, .int x5), (6, .int x6), (8, .int x8)] → W p l e (ac_rm 2) s m [.ref (ad 85), .int p0, .int p1, .int p2, .int p3, .int p4].toArray below meth c H locs 0 0 (MQ below (va_Qi (fun (r : Int32) (u : ac_U) => u = u0 ∧ ((0 : Int) ≤ r.toInt ∧ r.toInt ≤ 1)) (ac_B (dC, dI) vwCl (ac_ty cA) ad cA (TT nF) A) A) [.ref (ad 85), .int p0, .int p1, .int p2, .int p3, .int p4].toArray s 0 0 A) (F0 m 116 ls [.int z0]) := by
            intro x1 x2 x3 x4 x5 x6 x8 z0 H locs ls f0 f1 f2 f3 f4 hP hD hS hl
            refine lv_istore (lv' := [(7, .int z0), (0, .ref (ad 85)), (1, .int x1), (2, .int x2), (3, .int x3), (4, .int x4), (5, .int x5), (6, .int x6), (8, .int x8)]) F.1 F.2.1 dX12_fits_116 hl (by decide) rfl (fun ls hl => ?_)
            refine a_iinc F (k := 8) (fun v1 => [(8, .int v1), (7, .int z0), (0, .ref (ad 85)), (1, .int x1), (2, .int x2), (3, .int x3), (4, .int x4), (5, .int x5), (6, .int x6)]) dX12_fits_118 hl rfl rfl (by decide) (by omega) (by decide) (fun _ => rfl) (fun v1 ls hv1 hl => ?_)
            refine lv_goto (tgt := 18) F.1 F.2.1 dX12_fits_121 (by decide) ?_
            exact ih18 x1 x2 x3 x4 x5 x6 z0 v1 _ _ _ (by omega) (by omega) (by omega) (by omega) (by omega) hP hD hS (lv_sub hl [2, 3, 4, 5, 6, 7, 8, 1, 0] rfl)
          have L115 : ∀ (x1 : Int32) (x2 : Int32) (x3 : Int32) (x4 : Int32) (x5 : Int32) (x6 : Int32) (x8 : Int32) (H : Heap) (locs : List Loc) (ls : Array Slot), (0 : Int) ≤ x6.toInt ∧ x6.toInt ≤ 120 → (0 : Int) ≤ x8.toInt ∧ x8.toInt ≤ 79 → 121 - x6.toInt + 0 < ((n3 : Nat) : Int) + 1 → 80 - x8.toInt + 0 < ((n18 : Nat) : Int) + 1 → va_P (dC, dI) vwCl (ac_w ad cA (TT nF) u0) H → va_D A (ac_w ad cA (TT nF) u0) → va_S A s.heap H locs → lv_has ls 10 [(0, .ref (ad 85)), (1, .int x1), (2, .int x2), (3, .int x3), (4, .int x4), (5, .int x5), (6, .int x6), (8, .int x8)] → W p l e (ac_rm 2) s m [.ref (ad 85), .int p0, .int p1, .int p2, .int p3, .int p4].toArray below meth c H locs 0 0 (MQ below (va_Qi (fun (r : Int32) (u : ac_U) => u = u0 ∧ ((0 : Int) ≤ r.toInt ∧ r.toInt ≤ 1)) (ac_B (dC, dI) vwCl (ac_ty cA) ad cA (TT nF) A) A) [.ref (ad 85), .int p0, .int p1, .int p2, .int p3, .int p4].toArray s 0 0 A) (F0 m 115 ls []) := by
            intro x1 x2 x3 x4 x5 x6 x8 H locs ls f0 f1 f2 f3 hP hD hS hl
            refine a_ic F (0 : Int32) dX12_fits_115 (by decide) ?_
            exact L116 x1 x2 x3 x4 x5 x6 x8 (0 : Int32) _ _ _ (by omega) (by omega) (by decide) (by omega) (by omega) hP hD hS (lv_sub hl [0, 1, 2, 3, 4, 5, 6, 7] rfl)
          have L111 : ∀ (x1 : Int32) (x2 : Int32) (x3 : Int32) (x4 : Int32) (x5 : Int32) (x6 : Int32) (x8 : Int32) (H : Heap) (locs : List Loc) (ls : Array Slot), (0 : Int) ≤ x6.toInt ∧ x6.toInt ≤ 120 → (0 : Int) ≤ x8.toInt ∧ x8.toInt ≤ 79 → 121 - x6.toInt + 0 < ((n3 : Nat) : Int) + 1 → 80 - x8.toInt + 0 < ((n18 : Nat) : Int) + 1 → va_P (dC, dI) vwCl (ac_w ad cA (TT nF) u0) H → va_D A (ac_w ad cA (TT nF) u0) → va_S A s.heap H locs → lv_has ls 10 [(0, .ref (ad 85)), (1, .int x1), (2, .int x2), (3, .int x3), (4, .int x4), (5, .int x5), (6, .int x6), (8, .int x8)] → W p l e (ac_rm 2) s m [.ref (ad 85), .int p0, .int p1, .int p2, .int p3, .int p4].toArray below meth c H locs 0 0 (MQ below (va_Qi (fun (r : Int32) (u : ac_U) => u = u0 ∧ ((0 : Int) ≤ r.toInt ∧ r.toInt ≤ 1)) (ac_B (dC, dI) vwCl (ac_ty cA) ad cA (TT nF) A) A) [.ref (ad 85), .int p0, .int p1, .int p2, .int p3, .int p4].toArray s 0 0 A) (F0 m 111 ls []) := by
            intro x1 x2 x3 x4 x5 x6 x8 H locs ls f0 f1 f2 f3 hP hD hS hl
            refine a_ic F (1 : Int32) dX12_fits_111 (by decide) ?_
            refine lv_goto (tgt := 116) F.1 F.2.1 dX12_fits_112 (by decide) ?_
            exact L116 x1 x2 x3 x4 x5 x6 x8 (1 : Int32) _ _ _ (by omega) (by omega) (by decide) (by omega) (by omega) hP hD hS (lv_sub hl [0, 1, 2, 3, 4, 5, 6, 7] rfl)
          refine lv_iload F.1 F.2.1 dX12_fits_18 (lv_at hl 8 rfl) ?_
          refine lv_aload_n F.1 F.2.1 dX12_fits_20 rfl (lv_at hl 0 rfl) ?_
          refine a_getr F inX12 hP 85 6 tc_85 rfl rfl (by decide) q1477 (fun _ h9 => h9) dX12_fits_21 ?_
          refine a_bp F (123 : Int32) dX12_fits_24 (by decide) ?_
          refine a_iald F hP 87 tc_87 rfl (i_in ic_123 (by omega)) dX12_fits_26 (fun v2 ev2 => ?_)
          have hv2 : (0 : Int) ≤ v2.toInt ∧ v2.toInt ≤ 80 := ev2 ▸ hR 87 _
          refine b_ge F 124 dX12_fits_27 (by decide) rfl rfl (fun c3 => ?_) (fun c3 => ?_)
          · refine lv_iload F.1 F.2.1 dX12_fits_124 (lv_at hl 7 rfl) ?_
            refine z_ne F 131 dX12_fits_126 (by decide) rfl (fun c4 => ?_) (fun c4 => ?_)
            · refine a_iinc F (k := 6) (fun v5 => [(6, .int v5), (0, .ref (ad 85)), (1, .int x1), (2, .int x2), (3, .int x3), (4, .int x4), (5, .int x5), (7, .int x7), (8, .int x8)]) dX12_fits_131 hl rfl rfl (by decide) (by omega) (by decide) (fun _ => rfl) (fun v5 ls hv5 hl => ?_)
              refine lv_goto (tgt := 3) F.1 F.2.1 dX12_fits_134 (by decide) ?_
              exact ih3 x1 x2 x3 x4 x5 v5 _ _ _ (by omega) (by omega) hP hD hS (lv_sub hl [1, 2, 3, 4, 5, 6, 0] rfl)
            · refine a_ic F (0 : Int32) dX12_fits_129 (by decide) ?_
              exact a_retz F hr hlocks hP hD hS dX12_fits_130 (Or.inl rfl) ⟨rfl, (by decide)⟩
          · refine a_sp F (148 : Int32) dX12_fits_30 (by decide) ?_
            refine a_ic F (4 : Int32) dX12_fits_33 (by decide) ?_
            refine lv_iload F.1 F.2.1 dX12_fits_34 (lv_at hl 8 rfl) ?_
            refine a_imul F dX12_fits_36 ic_4 rfl (by omega) (fun v6 hv6 => ?_)
            refine a_iadd F dX12_fits_37 ic_148 rfl (by omega) (fun v7 hv7 => ?_)
            refine lv_istore (lv' := [(9, .int v7), (0, .ref (ad 85)), (1, .int x1), (2, .int x2), (3, .int x3), (4, .int x4), (5, .int x5), (6, .int x6), (7, .int x7), (8, .int x8)]) F.1 F.2.1 dX12_fits_38 hl (by decide) rfl (fun ls hl => ?_)
            refine lv_iload F.1 F.2.1 dX12_fits_40 (lv_at hl 8 rfl) ?_
            refine z_ne F 111 dX12_fits_42 (by decide) rfl (fun c8 => ?_) (fun c8 => ?_)
            · exact L111 x1 x2 x3 x4 x5 x6 x8 _ _ _ (by omega) (by omega) (by omega) (by omega) hP hD hS (lv_sub hl [1, 2, 3, 4, 5, 6, 7, 9] rfl)
            · refine lv_aload_n F.1 F.2.1 dX12_fits_45 rfl (lv_at hl 1 rfl) ?_
              refine a_getr F inX12 hP 85 6 tc_85 rfl rfl (by decide) q1477 (fun _ h9 => h9) dX12_fits_46 ?_
              refine lv_iload F.1 F.2.1 dX12_fits_49 (lv_at hl 0 rfl) ?_
              refine a_ic F (1 : Int32) dX12_fits_51 (by decide) ?_
              refine a_iadd F dX12_fits_52 rfl ic_1 (by omega) (fun v9 hv9 => ?_)
              refine a_iald F hP 87 tc_87 rfl (i_in rfl (by omega)) dX12_fits_53 (fun v10 ev10 => ?_)
              refine lv_iload_n F.1 F.2.1 dX12_fits_54 rfl (lv_at hl 2 rfl) ?_
              refine b_ne F 115 dX12_fits_55 (by decide) rfl rfl (fun c11 => ?_) (fun c11 => ?_)
              · exact L115 x1 x2 x3 x4 x5 x6 x8 _ _ _ (by omega) (by omega) (by omega) (by omega) hP hD hS (lv_sub hl [1, 2, 3, 4, 5, 6, 7, 9] rfl)
              · refine lv_aload_n F.1 F.2.1 dX12_fits_58 rfl (lv_at hl 1 rfl) ?_
                refine a_getr F inX12 hP 85 6 tc_85 rfl rfl (by decide) q1477 (fun _ h9 => h9) dX12_fits_59 ?_
                refine lv_iload F.1 F.2.1 dX12_fits_62 (lv_at hl 0 rfl) ?_
                refine a_ic F (2 : Int32) dX12_fits_64 (by decide) ?_
                refine a_iadd F dX12_fits_65 rfl ic_2 (by omega) (fun v12 hv12 => ?_)
                refine a_iald F hP 87 tc_87 rfl (i_in rfl (by omega)) dX12_fits_66 (fun v13 ev13 => ?_)
                refine lv_iload_n F.1 F.2.1 dX12_fits_67 rfl (lv_at hl 3 rfl) ?_
                refine b_ne F 115 dX12_fits_68 (by decide) rfl rfl (fun c14 => ?_) (fun c14 => ?_)
                · exact L115 x1 x2 x3 x4 x5 x6 x8 _ _ _ (by omega) (by omega) (by omega) (by omega) hP hD hS (lv_sub hl [1, 2, 3, 4, 5, 6, 7, 9] rfl)
                · refine lv_aload_n F.1 F.2.1 dX12_fits_71 rfl (lv_at hl 1 rfl) ?_
                  refine a_getr F inX12 hP 85 6 tc_85 rfl rfl (by decide) q1477 (fun _ h9 => h9) dX12_fits_72 ?_
                  refine lv_iload F.1 F.2.1 dX12_fits_75 (lv_at hl 0 rfl) ?_
                  refine a_ic F (3 : Int32) dX12_fits_77 (by decide) ?_
                  refine a_iadd F dX12_fits_78 rfl ic_3 (by omega) (fun v15 hv15 => ?_)
                  refine a_iald F hP 87 tc_87 rfl (i_in rfl (by omega)) dX12_fits_79 (fun v16 ev16 => ?_)
                  refine lv_iload_n F.1 F.2.1 dX12_fits_80 rfl (lv_at hl 4 rfl) ?_
                  refine b_ne F 115 dX12_fits_81 (by decide) rfl rfl (fun c17 => ?_) (fun c17 => ?_)
                  · exact L115 x1 x2 x3 x4 x5 x6 x8 _ _ _ (by omega) (by omega) (by omega) (by omega) hP hD hS (lv_sub hl [1, 2, 3, 4, 5, 6, 7, 9] rfl)
                  · refine lv_aload_n F.1 F.2.1 dX12_fits_84 rfl (lv_at hl 1 rfl) ?_
                    refine a_getr F inX12 hP 85 6 tc_85 rfl rfl (by decide) q1477 (fun _ h9 => h9) dX12_fits_85 ?_
                    refine lv_iload F.1 F.2.1 dX12_fits_88 (lv_at hl 0 rfl) ?_
                    refine a_iald F hP 87 tc_87 rfl (i_in rfl (by omega)) dX12_fits_90 (fun v18 ev18 => ?_)
                    refine lv_iload F.1 F.2.1 dX12_fits_91 (lv_at hl 7 rfl) ?_
                    refine lv_aload_n F.1 F.2.1 dX12_fits_93 rfl (lv_at hl 1 rfl) ?_
                    refine a_getr F inX12 hP 85 6 tc_85 rfl rfl (by decide) q1477 (fun _ h9 => h9) dX12_fits_94 ?_
                    refine a_ic F (0 : Int32) dX12_fits_97 (by decide) ?_
                    refine a_iald F hP 87 tc_87 rfl (i_in ic_0 (by omega)) dX12_fits_98 (fun v19 ev19 => ?_)
                    have hv19 : (4 : Int) ≤ v19.toInt ∧ v19.toInt ≤ 24 := ev19 ▸ hR 87 _
                    have kv20 := i_mulb (x := x6.toInt) (y := v19.toInt) (a0 := 0) (a1 := 120) (b0 := 4) (b1 := 24) (by omega) (by omega) (by omega)
                    refine a_imul F dX12_fits_99 rfl rfl (by omega) (fun v20 hv20 => ?_)
                    refine a_isubU F dX12_fits_100 (fun v21 => ?_)
                    refine lv_iload F.1 F.2.1 dX12_fits_101 (lv_at hl 5 rfl) ?_
                    refine lv_iload F.1 F.2.1 dX12_fits_103 (lv_at hl 6 rfl) ?_
                    refine a_Si F hml hl.1 hA hP hD hS (As := [.int v21, .int x4, .int x5]) (c_X12_isIn l dC dI ad cA nF _ v21 x4 x5 hR) (cs_RX12_187 (d := 1) F.2.2.1 (by decide)) rfl rfl (Nat.le_of_ble_eq_true rfl) dX12_fits_105 ⟨Nat.le_refl 0, Nat.le_refl 0⟩ (fun r22 uN22 H locs hq hP hD hS => ?_)
                    obtain ⟨hu22, gr22⟩ := hq
                    rw [hu22] at hP hD
                    refine z_eq F 115 dX12_fits_108 (by decide) rfl (fun c23 => ?_) (fun c23 => ?_)
                    · exact L115 x1 x2 x3 x4 x5 x6 x8 _ _ _ (by omega) (by omega) (by omega) (by omega) hP hD hS (lv_sub hl [1, 2, 3, 4, 5, 6, 7, 9] rfl)
                    · exact L111 x1 x2 x3 x4 x5 x6 x8 _ _ _ (by omega) (by omega) (by omega) (by omega) hP hD hS (lv_sub hl [1, 2, 3, 4, 5, 6, 7, 9] rfl)
      refine lv_iload F.1 F.2.1 dX12_fits_3 (lv_at hl 6 rfl) ?_
      refine lv_aload_n F.1 F.2.1 dX12_fits_5 rfl (lv_at hl 0 rfl) ?_
      refine a_Vi F hml hl.1 hA hP hD hS (As := []) (c_X12_dayNow_85 l dC dI ad cA nF _  hR) (cs_RX12_260 (d := 1) F.2.2.1 (by decide)) tc_85 rfl rfl rfl rfl (Nat.le_of_ble_eq_true rfl) dX12_fits_6 ⟨Nat.le_refl 0, Nat.le_refl 0⟩ (fun r24 uN24 H locs hq hP hD hS => ?_)
      obtain ⟨hu24, gr24⟩ := hq
      rw [hu24] at hP hD
      refine b_ge F 137 dX12_fits_9 (by decide) rfl rfl (fun c25 => ?_) (fun c25 => ?_)
      · refine a_ic F (1 : Int32) dX12_fits_137 (by decide) ?_
        exact a_retz F hr hlocks hP hD hS dX12_fits_138 (Or.inr rfl) ⟨rfl, (by decide)⟩
      · refine a_ic F (0 : Int32) dX12_fits_12 (by decide) ?_
        refine lv_istore (lv' := [(7, .int (0 : Int32)), (0, .ref (ad 85)), (1, .int x1), (2, .int x2), (3, .int x3), (4, .int x4), (5, .int x5), (6, .int x6)]) F.1 F.2.1 dX12_fits_13 hl (by decide) rfl (fun ls hl => ?_)
        refine a_ic F (0 : Int32) dX12_fits_15 (by decide) ?_
        refine lv_istore (lv' := [(8, .int (0 : Int32)), (7, .int (0 : Int32)), (0, .ref (ad 85)), (1, .int x1), (2, .int x2), (3, .int x3), (4, .int x4), (5, .int x5), (6, .int x6)]) F.1 F.2.1 dX12_fits_16 hl (by decide) rfl (fun ls hl => ?_)
        exact L18 82 x1 x2 x3 x4 x5 x6 (0 : Int32) (0 : Int32) _ _ _ (by decide) (by omega) (by decide) (by decide) (by omega) hP hD hS (lv_sub hl [2, 3, 4, 5, 6, 7, 8, 1, 0] rfl)
  refine a_ic F (0 : Int32) dX12_fits_0 (by decide) ?_
  refine lv_istore (lv' := [(6, .int (0 : Int32)), (0, .ref (ad 85)), (1, .int p0), (2, .int p1), (3, .int p2), (4, .int p3), (5, .int p4)]) F.1 F.2.1 dX12_fits_1 hl (by decide) rfl (fun ls hl => ?_)
  exact L3 123 p0 p1 p2 p3 p4 (0 : Int32) _ _ _ (by decide) (by decide) hP hD hS (lv_sub hl [1, 2, 3, 4, 5, 6, 0] rfl)
set_option maxHeartbeats 4000000 in
set_option maxRecDepth 100000 in
theorem c_X12_isPlace_85 (l : Launch) (dC : Nat → ClassId) (dI : Nat → Nat → Nat) (ad : Nat → Nat) (cA : Nat → ClassId) (nF : Nat) (u0 : ac_U) (p0 : Int32) (hR : ac_R rg u0) : ac_Mi l yX12_isPlace (.code yX12_isPlace cX12_isPlace 2 (some .boolean) :: TB) 2 (dC, dI) vwCl (ac_ty cA) ad cA (TT nF) [.ref (ad 85), .int p0] u0 (fun (r : Int32) (u : ac_U) => u = u0 ∧ ((0 : Int) ≤ r.toInt ∧ r.toInt ≤ 1)) := by
  refine ac_Mi.of (cc := cX12_isPlace) (maxL := 2) (ret := (some .boolean)) (by decide) rfl (Nat.le_of_ble_eq_true rfl) ?_
  intro p e s m below meth c A ls F hml hr hlocks hA hP hD hS hl
  have F : ac_X p s m [.ref (ad 85), .int p0].toArray c cX12_isPlace RX12 TB (dC, dI) vwCl (ac_ty cA) := ⟨F.1, F.2.1, fun w h => F.2.2.1 w (List.mem_cons_of_mem _ h), F.2.2.2.1, F.2.2.2.2⟩
  have hl : lv_has ls 2 [(0, .ref (ad 85)), (1, .int p0)] := hl
  refine lv_iload_n F.1 F.2.1 dX12_isPlace_0 rfl (lv_at hl 1 rfl) ?_
  refine a_ic F (0 : Int32) dX12_isPlace_1 (by decide) ?_
  refine lv_aload_n F.1 F.2.1 dX12_isPlace_2 rfl (lv_at hl 0 rfl) ?_
  refine a_getr F inX12 hP 85 6 tc_85 rfl rfl (by decide) q1477 (fun _ h9 => h9) dX12_isPlace_3 ?_
  refine a_ic F (1 : Int32) dX12_isPlace_6 (by decide) ?_
  refine a_iald F hP 87 tc_87 rfl (i_in ic_1 (by omega)) dX12_isPlace_7 (fun v1 ev1 => ?_)
  have hv1 : (0 : Int) ≤ v1.toInt ∧ v1.toInt ≤ 8 := ev1 ▸ hR 87 _
  refine a_ic F (1 : Int32) dX12_isPlace_8 (by decide) ?_
  refine a_isub F dX12_isPlace_9 rfl ic_1 (by omega) (fun v2 hv2 => ?_)
  refine a_Si F hml hl.1 hA hP hD hS (As := [.int p0, .int (0 : Int32), .int v2]) (c_X12_isIn l dC dI ad cA nF _ p0 (0 : Int32) v2 hR) (cs_RX12_187 (d := 1) F.2.2.1 (by decide)) rfl rfl (Nat.le_of_ble_eq_true rfl) dX12_isPlace_10 ⟨Nat.le_refl 0, Nat.le_refl 0⟩ (fun r3 uN3 H locs hq hP hD hS => ?_)
  obtain ⟨hu3, gr3⟩ := hq
  rw [hu3] at hP hD
  exact a_retz F hr hlocks hP hD hS dX12_isPlace_13 (i_01 (by omega)) ⟨rfl, (by omega : (0 : Int) ≤ r3.toInt ∧ r3.toInt ≤ 1)⟩
set_option maxHeartbeats 4000000 in
set_option maxRecDepth 100000 in
theorem c_X12_slot_85 (l : Launch) (dC : Nat → ClassId) (dI : Nat → Nat → Nat) (ad : Nat → Nat) (cA : Nat → ClassId) (nF : Nat) (u0 : ac_U) (p0 : Int32) (p1 : Int32) (p2 : Int32) (hR : ac_R rg u0) (hp0 : (0 : Int) ≤ p0.toInt ∧ p0.toInt ≤ 24) : ac_Mi l yX12_slot (.code yX12_slot cX12_slot 4 (some .int) :: TB) 1 (dC, dI) vwCl (ac_ty cA) ad cA (TT nF) [.ref (ad 85), .int p0, .int p1, .int p2] u0 (fun (r : Int32) (u : ac_U) => u = u0) := by
  refine ac_Mi.of (cc := cX12_slot) (maxL := 4) (ret := (some .int)) (by decide) rfl (Nat.le_of_ble_eq_true rfl) ?_
  intro p e s m below meth c A ls F hml hr hlocks hA hP hD hS hl
  have F : ac_X p s m [.ref (ad 85), .int p0, .int p1, .int p2].toArray c cX12_slot RX12 TB (dC, dI) vwCl (ac_ty cA) := ⟨F.1, F.2.1, fun w h => F.2.2.1 w (List.mem_cons_of_mem _ h), F.2.2.2.1, F.2.2.2.2⟩
  have hl : lv_has ls 4 [(0, .ref (ad 85)), (1, .int p0), (2, .int p1), (3, .int p2)] := hl
  refine lv_iload_n F.1 F.2.1 dX12_slot_0 rfl (lv_at hl 1 rfl) ?_
  refine a_bp F (8 : Int32) dX12_slot_1 (by decide) ?_
  refine a_imul F dX12_slot_3 rfl ic_8 (by omega) (fun v1 hv1 => ?_)
  refine lv_iload_n F.1 F.2.1 dX12_slot_4 rfl (lv_at hl 2 rfl) ?_
  refine a_iaddU F dX12_slot_5 (fun v2 => ?_)
  refine a_sp F (256 : Int32) dX12_slot_6 (by decide) ?_
  refine a_imulU F dX12_slot_9 (fun v3 => ?_)
  refine lv_iload_n F.1 F.2.1 dX12_slot_10 rfl (lv_at hl 3 rfl) ?_
  refine a_iaddU F dX12_slot_11 (fun v4 => ?_)
  exact a_reti F hr hlocks hP hD hS dX12_slot_12 rfl
set_option maxHeartbeats 4000000 in
set_option maxRecDepth 100000 in
theorem c_X12_leafOf_85 (l : Launch) (dC : Nat → ClassId) (dI : Nat → Nat → Nat) (ad : Nat → Nat) (cA : Nat → ClassId) (nF : Nat) (u0 : ac_U)  (hR : ac_R rg u0) : ac_Mi l yX12_leafOf (.code yX12_leafOf cX12_leafOf 1 (some .int) :: TB) 2 (dC, dI) vwCl (ac_ty cA) ad cA (TT nF) [.ref (ad 85)] u0 (fun (r : Int32) (u : ac_U) => u = u0 ∧ ((-1 : Int) ≤ r.toInt ∧ r.toInt ≤ 9)) := by
  refine ac_Mi.of (cc := cX12_leafOf) (maxL := 1) (ret := (some .int)) (by decide) rfl (Nat.le_of_ble_eq_true rfl) ?_
  intro p e s m below meth c A ls F hml hr hlocks hA hP hD hS hl
  have F : ac_X p s m [.ref (ad 85)].toArray c cX12_leafOf RX12 TB (dC, dI) vwCl (ac_ty cA) := ⟨F.1, F.2.1, fun w h => F.2.2.1 w (List.mem_cons_of_mem _ h), F.2.2.2.1, F.2.2.2.2⟩
  have hl : lv_has ls 1 [(0, .ref (ad 85))] := hl
  have L145 : ∀ (z0 : Int32) (H : Heap) (locs : List Loc) (ls : Array Slot), (-1 : Int) ≤ z0.toInt ∧ z0.toInt ≤ 9 → va_P (dC, dI) vwCl (ac_w ad cA (TT nF) u0) H → va_D A (ac_w ad cA (TT nF) u0) → va_S A s.heap H locs → lv_has ls 1 [] → W p l e (ac_rm 2) s m [.ref (ad 85)].toArray below meth c H locs 0 0 (MQ below (va_Qi (fun (r : Int32) (u : ac_U) => u = u0 ∧ ((-1 : Int) ≤ r.toInt ∧ r.toInt ≤ 9)) (ac_B (dC, dI) vwCl (ac_ty cA) ad cA (TT nF) A) A) [.ref (ad 85)].toArray s 0 0 A) (F0 m 145 ls [.int z0]) := by
    intro z0 H locs ls f0 hP hD hS hl
    exact a_reti F hr hlocks hP hD hS dX12_leafOf_145 ⟨rfl, (by omega : (-1 : Int) ≤ z0.toInt ∧ z0.toInt ≤ 9)⟩
  refine lv_aload_n F.1 F.2.1 dX12_leafOf_0 rfl (lv_at hl 0 rfl) ?_
  refine lv_ldc2 (v := (422776761956 : Int64)) F.1 F.2.1 F.2.2.2.1 (F.2.2.1 _ q1461) dX12_leafOf_1 ?_
  refine a_Vi F hml hl.1 hA hP hD hS (As := [.long (422776761956 : Int64)]) (c_X12_isWord_85 l dC dI ad cA nF _ (422776761956 : Int64) hR) (cs_RX12_206 (d := 1) F.2.2.1 (by decide)) tc_85 rfl rfl rfl rfl (Nat.le_of_ble_eq_true rfl) dX12_leafOf_4 ⟨Nat.le_refl 0, Nat.le_refl 0⟩ (fun r1 uN1 H locs hq hP hD hS => ?_)
  obtain ⟨hu1, gr1⟩ := hq
  rw [hu1] at hP hD
  refine z_eq F 14 dX12_leafOf_7 (by decide) rfl (fun c2 => ?_) (fun c2 => ?_)
  · refine lv_aload_n F.1 F.2.1 dX12_leafOf_14 rfl (lv_at hl 0 rfl) ?_
    refine lv_ldc2 (v := (1869636974 : Int64)) F.1 F.2.1 F.2.2.2.1 (F.2.2.1 _ q1462) dX12_leafOf_15 ?_
    refine a_Vi F hml hl.1 hA hP hD hS (As := [.long (1869636974 : Int64)]) (c_X12_isWord_85 l dC dI ad cA nF _ (1869636974 : Int64) hR) (cs_RX12_206 (d := 1) F.2.2.1 (by decide)) tc_85 rfl rfl rfl rfl (Nat.le_of_ble_eq_true rfl) dX12_leafOf_18 ⟨Nat.le_refl 0, Nat.le_refl 0⟩ (fun r3 uN3 H locs hq hP hD hS => ?_)
    obtain ⟨hu3, gr3⟩ := hq
    rw [hu3] at hP hD
    refine z_eq F 28 dX12_leafOf_21 (by decide) rfl (fun c4 => ?_) (fun c4 => ?_)
    · refine lv_aload_n F.1 F.2.1 dX12_leafOf_28 rfl (lv_at hl 0 rfl) ?_
      refine lv_ldc2 (v := (1801810036 : Int64)) F.1 F.2.1 F.2.2.2.1 (F.2.2.1 _ q1463) dX12_leafOf_29 ?_
      refine a_Vi F hml hl.1 hA hP hD hS (As := [.long (1801810036 : Int64)]) (c_X12_isWord_85 l dC dI ad cA nF _ (1801810036 : Int64) hR) (cs_RX12_206 (d := 1) F.2.2.1 (by decide)) tc_85 rfl rfl rfl rfl (Nat.le_of_ble_eq_true rfl) dX12_leafOf_32 ⟨Nat.le_refl 0, Nat.le_refl 0⟩ (fun r5 uN5 H locs hq hP hD hS => ?_)
      obtain ⟨hu5, gr5⟩ := hq
      rw [hu5] at hP hD
      refine z_eq F 42 dX12_leafOf_35 (by decide) rfl (fun c6 => ?_) (fun c6 => ?_)
      · refine lv_aload_n F.1 F.2.1 dX12_leafOf_42 rfl (lv_at hl 0 rfl) ?_
        refine lv_ldc2 (v := (7300710 : Int64)) F.1 F.2.1 F.2.2.2.1 (F.2.2.1 _ q1464) dX12_leafOf_43 ?_
        refine a_Vi F hml hl.1 hA hP hD hS (As := [.long (7300710 : Int64)]) (c_X12_isWord_85 l dC dI ad cA nF _ (7300710 : Int64) hR) (cs_RX12_206 (d := 1) F.2.2.1 (by decide)) tc_85 rfl rfl rfl rfl (Nat.le_of_ble_eq_true rfl) dX12_leafOf_46 ⟨Nat.le_refl 0, Nat.le_refl 0⟩ (fun r7 uN7 H locs hq hP hD hS => ?_)
        obtain ⟨hu7, gr7⟩ := hq
        rw [hu7] at hP hD
        refine z_eq F 56 dX12_leafOf_49 (by decide) rfl (fun c8 => ?_) (fun c8 => ?_)
        · refine lv_aload_n F.1 F.2.1 dX12_leafOf_56 rfl (lv_at hl 0 rfl) ?_
          refine lv_ldc2 (v := (108243635103086 : Int64)) F.1 F.2.1 F.2.2.2.1 (F.2.2.1 _ q1465) dX12_leafOf_57 ?_
          refine a_Vi F hml hl.1 hA hP hD hS (As := [.long (108243635103086 : Int64)]) (c_X12_isWord_85 l dC dI ad cA nF _ (108243635103086 : Int64) hR) (cs_RX12_206 (d := 1) F.2.2.1 (by decide)) tc_85 rfl rfl rfl rfl (Nat.le_of_ble_eq_true rfl) dX12_leafOf_60 ⟨Nat.le_refl 0, Nat.le_refl 0⟩ (fun r9 uN9 H locs hq hP hD hS => ?_)
          obtain ⟨hu9, gr9⟩ := hq
          rw [hu9] at hP hD
          refine z_eq F 70 dX12_leafOf_63 (by decide) rfl (fun c10 => ?_) (fun c10 => ?_)
          · refine lv_aload_n F.1 F.2.1 dX12_leafOf_70 rfl (lv_at hl 0 rfl) ?_
            refine lv_ldc2 (v := (28518 : Int64)) F.1 F.2.1 F.2.2.2.1 (F.2.2.1 _ q1466) dX12_leafOf_71 ?_
            refine a_Vi F hml hl.1 hA hP hD hS (As := [.long (28518 : Int64)]) (c_X12_isWord_85 l dC dI ad cA nF _ (28518 : Int64) hR) (cs_RX12_206 (d := 1) F.2.2.1 (by decide)) tc_85 rfl rfl rfl rfl (Nat.le_of_ble_eq_true rfl) dX12_leafOf_74 ⟨Nat.le_refl 0, Nat.le_refl 0⟩ (fun r11 uN11 H locs hq hP hD hS => ?_)
            obtain ⟨hu11, gr11⟩ := hq
            rw [hu11] at hP hD
            refine z_eq F 84 dX12_leafOf_77 (by decide) rfl (fun c12 => ?_) (fun c12 => ?_)
            · refine lv_aload_n F.1 F.2.1 dX12_leafOf_84 rfl (lv_at hl 0 rfl) ?_
              refine lv_ldc2 (v := (1718775661 : Int64)) F.1 F.2.1 F.2.2.2.1 (F.2.2.1 _ q1467) dX12_leafOf_85 ?_
              refine a_Vi F hml hl.1 hA hP hD hS (As := [.long (1718775661 : Int64)]) (c_X12_isWord_85 l dC dI ad cA nF _ (1718775661 : Int64) hR) (cs_RX12_206 (d := 1) F.2.2.1 (by decide)) tc_85 rfl rfl rfl rfl (Nat.le_of_ble_eq_true rfl) dX12_leafOf_88 ⟨Nat.le_refl 0, Nat.le_refl 0⟩ (fun r13 uN13 H locs hq hP hD hS => ?_)
              obtain ⟨hu13, gr13⟩ := hq
              rw [hu13] at hP hD
              refine z_eq F 99 dX12_leafOf_91 (by decide) rfl (fun c14 => ?_) (fun c14 => ?_)
              · refine lv_aload_n F.1 F.2.1 dX12_leafOf_99 rfl (lv_at hl 0 rfl) ?_
                refine lv_ldc2 (v := (1953066092 : Int64)) F.1 F.2.1 F.2.2.2.1 (F.2.2.1 _ q1468) dX12_leafOf_100 ?_
                refine a_Vi F hml hl.1 hA hP hD hS (As := [.long (1953066092 : Int64)]) (c_X12_isWord_85 l dC dI ad cA nF _ (1953066092 : Int64) hR) (cs_RX12_206 (d := 1) F.2.2.1 (by decide)) tc_85 rfl rfl rfl rfl (Nat.le_of_ble_eq_true rfl) dX12_leafOf_103 ⟨Nat.le_refl 0, Nat.le_refl 0⟩ (fun r15 uN15 H locs hq hP hD hS => ?_)
                obtain ⟨hu15, gr15⟩ := hq
                rw [hu15] at hP hD
                refine z_eq F 114 dX12_leafOf_106 (by decide) rfl (fun c16 => ?_) (fun c16 => ?_)
                · refine lv_aload_n F.1 F.2.1 dX12_leafOf_114 rfl (lv_at hl 0 rfl) ?_
                  refine lv_ldc2 (v := (499984983411 : Int64)) F.1 F.2.1 F.2.2.2.1 (F.2.2.1 _ q1469) dX12_leafOf_115 ?_
                  refine a_Vi F hml hl.1 hA hP hD hS (As := [.long (499984983411 : Int64)]) (c_X12_isWord_85 l dC dI ad cA nF _ (499984983411 : Int64) hR) (cs_RX12_206 (d := 1) F.2.2.1 (by decide)) tc_85 rfl rfl rfl rfl (Nat.le_of_ble_eq_true rfl) dX12_leafOf_118 ⟨Nat.le_refl 0, Nat.le_refl 0⟩ (fun r17 uN17 H locs hq hP hD hS => ?_)
                  obtain ⟨hu17, gr17⟩ := hq
                  rw [hu17] at hP hD
                  refine z_eq F 129 dX12_leafOf_121 (by decide) rfl (fun c18 => ?_) (fun c18 => ?_)
                  · refine lv_aload_n F.1 F.2.1 dX12_leafOf_129 rfl (lv_at hl 0 rfl) ?_
                    refine lv_ldc2 (v := (121450625394034 : Int64)) F.1 F.2.1 F.2.2.2.1 (F.2.2.1 _ q1470) dX12_leafOf_130 ?_
                    refine a_Vi F hml hl.1 hA hP hD hS (As := [.long (121450625394034 : Int64)]) (c_X12_isWord_85 l dC dI ad cA nF _ (121450625394034 : Int64) hR) (cs_RX12_206 (d := 1) F.2.2.1 (by decide)) tc_85 rfl rfl rfl rfl (Nat.le_of_ble_eq_true rfl) dX12_leafOf_133 ⟨Nat.le_refl 0, Nat.le_refl 0⟩ (fun r19 uN19 H locs hq hP hD hS => ?_)
                    obtain ⟨hu19, gr19⟩ := hq
                    rw [hu19] at hP hD
                    refine z_eq F 144 dX12_leafOf_136 (by decide) rfl (fun c20 => ?_) (fun c20 => ?_)
                    · refine a_ic F (-1 : Int32) dX12_leafOf_144 (by decide) ?_
                      exact L145 (-1 : Int32) _ _ _ (by decide) hP hD hS (lv_sub hl [] rfl)
                    · refine a_bp F (9 : Int32) dX12_leafOf_139 (by decide) ?_
                      refine lv_goto (tgt := 145) F.1 F.2.1 dX12_leafOf_141 (by decide) ?_
                      exact L145 (9 : Int32) _ _ _ (by decide) hP hD hS (lv_sub hl [] rfl)
                  · refine a_bp F (8 : Int32) dX12_leafOf_124 (by decide) ?_
                    refine lv_goto (tgt := 145) F.1 F.2.1 dX12_leafOf_126 (by decide) ?_
                    exact L145 (8 : Int32) _ _ _ (by decide) hP hD hS (lv_sub hl [] rfl)
                · refine a_bp F (7 : Int32) dX12_leafOf_109 (by decide) ?_
                  refine lv_goto (tgt := 145) F.1 F.2.1 dX12_leafOf_111 (by decide) ?_
                  exact L145 (7 : Int32) _ _ _ (by decide) hP hD hS (lv_sub hl [] rfl)
              · refine a_bp F (6 : Int32) dX12_leafOf_94 (by decide) ?_
                refine lv_goto (tgt := 145) F.1 F.2.1 dX12_leafOf_96 (by decide) ?_
                exact L145 (6 : Int32) _ _ _ (by decide) hP hD hS (lv_sub hl [] rfl)
            · refine a_ic F (5 : Int32) dX12_leafOf_80 (by decide) ?_
              refine lv_goto (tgt := 145) F.1 F.2.1 dX12_leafOf_81 (by decide) ?_
              exact L145 (5 : Int32) _ _ _ (by decide) hP hD hS (lv_sub hl [] rfl)
          · refine a_ic F (4 : Int32) dX12_leafOf_66 (by decide) ?_
            refine lv_goto (tgt := 145) F.1 F.2.1 dX12_leafOf_67 (by decide) ?_
            exact L145 (4 : Int32) _ _ _ (by decide) hP hD hS (lv_sub hl [] rfl)
        · refine a_ic F (3 : Int32) dX12_leafOf_52 (by decide) ?_
          refine lv_goto (tgt := 145) F.1 F.2.1 dX12_leafOf_53 (by decide) ?_
          exact L145 (3 : Int32) _ _ _ (by decide) hP hD hS (lv_sub hl [] rfl)
      · refine a_ic F (2 : Int32) dX12_leafOf_38 (by decide) ?_
        refine lv_goto (tgt := 145) F.1 F.2.1 dX12_leafOf_39 (by decide) ?_
        exact L145 (2 : Int32) _ _ _ (by decide) hP hD hS (lv_sub hl [] rfl)
    · refine a_ic F (1 : Int32) dX12_leafOf_24 (by decide) ?_
      refine lv_goto (tgt := 145) F.1 F.2.1 dX12_leafOf_25 (by decide) ?_
      exact L145 (1 : Int32) _ _ _ (by decide) hP hD hS (lv_sub hl [] rfl)
  · refine a_ic F (0 : Int32) dX12_leafOf_10 (by decide) ?_
    refine lv_goto (tgt := 145) F.1 F.2.1 dX12_leafOf_11 (by decide) ?_
    exact L145 (0 : Int32) _ _ _ (by decide) hP hD hS (lv_sub hl [] rfl)
set_option maxHeartbeats 4000000 in
set_option maxRecDepth 100000 in
theorem c_X12_throwsIf_85 (l : Launch) (dC : Nat → ClassId) (dI : Nat → Nat → Nat) (ad : Nat → Nat) (cA : Nat → ClassId) (nF : Nat) (u0 : ac_U) (p0 : Int32) (hR : ac_R rg u0) (hp0 : (0 : Int) ≤ p0.toInt ∧ p0.toInt ≤ 1) : ac_Mi l yX12_throwsIf (.code yX12_throwsIf cX12_throwsIf 2 (some .boolean) :: TB) 1 (dC, dI) vwCl (ac_ty cA) ad cA (TT nF) [.ref (ad 85), .int p0] u0 (fun (r : Int32) (u : ac_U) => ac_R rg u ∧ ac_Fr [(85, some 0)] u0 u ∧ ((0 : Int) ≤ r.toInt ∧ r.toInt ≤ 1)) := by
  refine ac_Mi.of (cc := cX12_throwsIf) (maxL := 2) (ret := (some .boolean)) (by decide) rfl (Nat.le_of_ble_eq_true rfl) ?_
  intro p e s m below meth c A ls F hml hr hlocks hA hP hD hS hl
  have F : ac_X p s m [.ref (ad 85), .int p0].toArray c cX12_throwsIf RX12 TB (dC, dI) vwCl (ac_ty cA) := ⟨F.1, F.2.1, fun w h => F.2.2.1 w (List.mem_cons_of_mem _ h), F.2.2.2.1, F.2.2.2.2⟩
  have hl : lv_has ls 2 [(0, .ref (ad 85)), (1, .int p0)] := hl
  have hF : ac_Fr [(85, some 0)] u0 u0 := ac_Fr.rf
  have L10 : ∀ (x1 : Int32) (z1 : Int32) (u : ac_U) (H : Heap) (locs : List Loc) (ls : Array Slot), ac_R rg u → ac_Fr [(85, some 0)] u0 u → (0 : Int) ≤ x1.toInt ∧ x1.toInt ≤ 1 → (0 : Int) ≤ z1.toInt ∧ z1.toInt ≤ 1 → va_P (dC, dI) vwCl (ac_w ad cA (TT nF) u) H → va_D A (ac_w ad cA (TT nF) u) → va_S A s.heap H locs → lv_has ls 2 [(1, .int x1)] → W p l e (ac_rm 1) s m [.ref (ad 85), .int p0].toArray below meth c H locs 0 0 (MQ below (va_Qi (fun (r : Int32) (u : ac_U) => ac_R rg u ∧ ac_Fr [(85, some 0)] u0 u ∧ ((0 : Int) ≤ r.toInt ∧ r.toInt ≤ 1)) (ac_B (dC, dI) vwCl (ac_ty cA) ad cA (TT nF) A) A) [.ref (ad 85), .int p0].toArray s 0 0 A) (F0 m 10 ls [.int z1, .ref (ad 85)]) := by
    intro x1 z1 u H locs ls hR hF f0 f1 hP hD hS hl
    refine a_puti F inX12 tyX12 tyX12_ok nmX12 hP hD hS 85 0 tc_85 rfl rfl (by decide) q1471 (fun _ h9 => h9) rfl (ty := .int) (tyX12_ok 0 (by decide)) rfl rfl dX12_throwsIf_10 (fun H locs hP hD hS => ?_)
    have hR := hR.si (c := 85) (k := 0) (v := z1) (by omega : (0 : Int) ≤ z1.toInt ∧ z1.toInt ≤ 1)
    have hF := hF.si (c := 85) (k := 0) (v := z1) rfl
    refine lv_iload_n F.1 F.2.1 dX12_throwsIf_13 rfl (lv_at hl 0 rfl) ?_
    exact a_retz F hr hlocks hP hD hS dX12_throwsIf_14 (i_01 (by omega)) ⟨hR, hF, (by omega : (0 : Int) ≤ x1.toInt ∧ x1.toInt ≤ 1)⟩
  refine lv_aload_n F.1 F.2.1 dX12_throwsIf_0 rfl (lv_at hl 0 rfl) ?_
  refine lv_iload_n F.1 F.2.1 dX12_throwsIf_1 rfl (lv_at hl 1 rfl) ?_
  refine z_eq F 9 dX12_throwsIf_2 (by decide) rfl (fun c1 => ?_) (fun c1 => ?_)
  · refine a_ic F (0 : Int32) dX12_throwsIf_9 (by decide) ?_
    exact L10 p0 (0 : Int32) _ _ _ _ hR hF (by omega) (by decide) hP hD hS (lv_sub hl [1] rfl)
  · refine a_ic F (1 : Int32) dX12_throwsIf_5 (by decide) ?_
    refine lv_goto (tgt := 10) F.1 F.2.1 dX12_throwsIf_6 (by decide) ?_
    exact L10 p0 (1 : Int32) _ _ _ _ hR hF (by omega) (by decide) hP hD hS (lv_sub hl [1] rfl)
set_option maxHeartbeats 4000000 in
set_option maxRecDepth 100000 in
theorem c_X12_rings_85 (l : Launch) (dC : Nat → ClassId) (dI : Nat → Nat → Nat) (ad : Nat → Nat) (cA : Nat → ClassId) (nF : Nat) (u0 : ac_U)  (hR : ac_R rg u0) : ac_Mi l yX12_rings (.code yX12_rings cX12_rings 3 (some .int) :: TB) 3 (dC, dI) vwCl (ac_ty cA) ad cA (TT nF) [.ref (ad 85)] u0 (fun (r : Int32) (u : ac_U) => ac_R rg u ∧ ac_Fr [(85, some 0)] u0 u) := by
  refine ac_Mi.of (cc := cX12_rings) (maxL := 3) (ret := (some .int)) (by decide) rfl (Nat.le_of_ble_eq_true rfl) ?_
  intro p e s m below meth c A ls F hml hr hlocks hA hP hD hS hl
  have F : ac_X p s m [.ref (ad 85)].toArray c cX12_rings RX12 TB (dC, dI) vwCl (ac_ty cA) := ⟨F.1, F.2.1, fun w h => F.2.2.1 w (List.mem_cons_of_mem _ h), F.2.2.2.1, F.2.2.2.2⟩
  have hl : lv_has ls 3 [(0, .ref (ad 85))] := hl
  have hF : ac_Fr [(85, some 0)] u0 u0 := ac_Fr.rf
  have L9 : ∀ (n9 : Nat) (x1 : Int32) (x2 : Int32) (u : ac_U) (H : Heap) (locs : List Loc) (ls : Array Slot), 8 - x2.toInt < (n9 : Int) → ac_R rg u → ac_Fr [(85, some 0)] u0 u → (0 : Int) ≤ x2.toInt ∧ x2.toInt ≤ 8 → (0 : Int) ≤ (u.1 85 0).toInt ∧ (u.1 85 0).toInt ≤ 0 → va_P (dC, dI) vwCl (ac_w ad cA (TT nF) u) H → va_D A (ac_w ad cA (TT nF) u) → va_S A s.heap H locs → lv_has ls 3 [(0, .ref (ad 85)), (1, .int x1), (2, .int x2)] → W p l e (ac_rm 3) s m [.ref (ad 85)].toArray below meth c H locs 0 0 (MQ below (va_Qi (fun (r : Int32) (u : ac_U) => ac_R rg u ∧ ac_Fr [(85, some 0)] u0 u) (ac_B (dC, dI) vwCl (ac_ty cA) ad cA (TT nF) A) A) [.ref (ad 85)].toArray s 0 0 A) (F0 m 9 ls []) := by
    intro n9
    induction n9 with
    | zero => intro x1 x2 u H locs ls hn9 hR hF f0 f1 hP hD hS hl; exfalso; omega
    | succ n9 ih9 =>
      intro x1 x2 u H locs ls hn9 hR hF f0 f1 hP hD hS hl
      have L74 : ∀ (x1 : Int32) (x2 : Int32) (u : ac_U) (H : Heap) (locs : List Loc) (ls : Array Slot), ac_R rg u → ac_Fr [(85, some 0)] u0 u → (0 : Int) ≤ x2.toInt ∧ x2.toInt ≤ 7 → (0 : Int) ≤ (u.1 85 0).toInt ∧ (u.1 85 0).toInt ≤ 0 → 8 - x2.toInt + 0 < ((n9 : Nat) : Int) + 1 → va_P (dC, dI) vwCl (ac_w ad cA (TT nF) u) H → va_D A (ac_w ad cA (TT nF) u) → va_S A s.heap H locs → lv_has ls 3 [(0, .ref (ad 85)), (1, .int x1), (2, .int x2)] → W p l e (ac_rm 3) s m [.ref (ad 85)].toArray below meth c H locs 0 0 (MQ below (va_Qi (fun (r : Int32) (u : ac_U) => ac_R rg u ∧ ac_Fr [(85, some 0)] u0 u) (ac_B (dC, dI) vwCl (ac_ty cA) ad cA (TT nF) A) A) [.ref (ad 85)].toArray s 0 0 A) (F0 m 74 ls []) := by
        intro x1 x2 u H locs ls hR hF f0 f1 f2 hP hD hS hl
        refine a_iinc F (k := 2) (fun v1 => [(2, .int v1), (0, .ref (ad 85)), (1, .int x1)]) dX12_rings_74 hl rfl rfl (by decide) (by omega) (by decide) (fun _ => rfl) (fun v1 ls hv1 hl => ?_)
        refine lv_goto (tgt := 9) F.1 F.2.1 dX12_rings_77 (by decide) ?_
        have g2 : (0 : Int) ≤ (u.1 85 0).toInt ∧ (u.1 85 0).toInt ≤ 1 := hR 85 0
        exact ih9 x1 v1 _ _ _ _ (by omega) hR hF (by omega) (by omega : (0 : Int) ≤ (u.1 85 0).toInt ∧ (u.1 85 0).toInt ≤ 0) hP hD hS (lv_sub hl [1, 2, 0] rfl)
      refine lv_iload_n F.1 F.2.1 dX12_rings_9 rfl (lv_at hl 2 rfl) ?_
      refine lv_aload_n F.1 F.2.1 dX12_rings_10 rfl (lv_at hl 0 rfl) ?_
      refine a_getr F inX12 hP 85 6 tc_85 rfl rfl (by decide) q1477 (fun _ h9 => h9) dX12_rings_11 ?_
      refine a_bp F (7 : Int32) dX12_rings_14 (by decide) ?_
      refine a_iald F hP 87 tc_87 rfl (i_in ic_7 (by omega)) dX12_rings_16 (fun v3 ev3 => ?_)
      have hv3 : (0 : Int) ≤ v3.toInt ∧ v3.toInt ≤ 8 := ev3 ▸ hR 87 _
      refine b_ge F 80 dX12_rings_17 (by decide) rfl rfl (fun c4 => ?_) (fun c4 => ?_)
      · refine lv_iload_n F.1 F.2.1 dX12_rings_80 rfl (lv_at hl 1 rfl) ?_
        exact a_reti F hr hlocks hP hD hS dX12_rings_81 ⟨hR, hF⟩
      · refine lv_aload_n F.1 F.2.1 dX12_rings_20 rfl (lv_at hl 0 rfl) ?_
        refine lv_aload_n F.1 F.2.1 dX12_rings_21 rfl (lv_at hl 0 rfl) ?_
        refine a_getr F inX12 hP 85 6 tc_85 rfl rfl (by decide) q1477 (fun _ h9 => h9) dX12_rings_22 ?_
        refine a_bp F (90 : Int32) dX12_rings_25 (by decide) ?_
        refine lv_iload_n F.1 F.2.1 dX12_rings_27 rfl (lv_at hl 2 rfl) ?_
        refine a_iadd F dX12_rings_28 ic_90 rfl (by omega) (fun v5 hv5 => ?_)
        refine a_iald F hP 87 tc_87 rfl (i_in rfl (by omega)) dX12_rings_29 (fun v6 ev6 => ?_)
        refine a_Vi F hml hl.1 hA hP hD hS (As := [.int v6]) (c_X12_chainOf_85 l dC dI ad cA nF _ v6 hR) (cs_RX12_363 (d := 2) F.2.2.1 (by decide)) tc_85 rfl rfl rfl rfl (Nat.le_of_ble_eq_true rfl) dX12_rings_30 ⟨Nat.le_refl 0, Nat.le_refl 0⟩ (fun r7 uN7 H locs hq hP hD hS => ?_)
        have hu7 := hq
        rw [hu7] at hP hD
        refine lv_aload_n F.1 F.2.1 dX12_rings_33 rfl (lv_at hl 0 rfl) ?_
        refine a_getr F inX12 hP 85 6 tc_85 rfl rfl (by decide) q1477 (fun _ h9 => h9) dX12_rings_34 ?_
        refine a_bp F (98 : Int32) dX12_rings_37 (by decide) ?_
        refine lv_iload_n F.1 F.2.1 dX12_rings_39 rfl (lv_at hl 2 rfl) ?_
        refine a_iadd F dX12_rings_40 ic_98 rfl (by omega) (fun v8 hv8 => ?_)
        refine a_iald F hP 87 tc_87 rfl (i_in rfl (by omega)) dX12_rings_41 (fun v9 ev9 => ?_)
        refine a_Si F hml hl.1 hA hP hD hS (As := [.int r7, .int v9]) (c_X12_bitOf l dC dI ad cA nF _ r7 v9 hR) (cs_RX12_223 (d := 1) F.2.2.1 (by decide)) rfl rfl (Nat.le_of_ble_eq_true rfl) dX12_rings_42 ⟨Nat.le_refl 0, Nat.le_refl 0⟩ (fun r10 uN10 H locs hq hP hD hS => ?_)
        obtain ⟨hu10, gr10⟩ := hq
        rw [hu10] at hP hD
        refine z_eq F 74 dX12_rings_45 (by decide) rfl (fun c11 => ?_) (fun c11 => ?_)
        · have g12 : (0 : Int) ≤ (u.1 85 0).toInt ∧ (u.1 85 0).toInt ≤ 1 := hR 85 0
          exact L74 x1 x2 _ _ _ _ hR hF (by omega) (by omega : (0 : Int) ≤ (u.1 85 0).toInt ∧ (u.1 85 0).toInt ≤ 0) (by omega) hP hD hS (lv_sub hl [0, 1, 2] rfl)
        · refine lv_iload_n F.1 F.2.1 dX12_rings_48 rfl (lv_at hl 1 rfl) ?_
          refine a_ic F (1 : Int32) dX12_rings_49 (by decide) ?_
          refine lv_aload_n F.1 F.2.1 dX12_rings_50 rfl (lv_at hl 0 rfl) ?_
          refine a_getr F inX12 hP 85 6 tc_85 rfl rfl (by decide) q1477 (fun _ h9 => h9) dX12_rings_51 ?_
          refine a_bp F (90 : Int32) dX12_rings_54 (by decide) ?_
          refine lv_iload_n F.1 F.2.1 dX12_rings_56 rfl (lv_at hl 2 rfl) ?_
          refine a_iadd F dX12_rings_57 ic_90 rfl (by omega) (fun v13 hv13 => ?_)
          refine a_iald F hP 87 tc_87 rfl (i_in rfl (by omega)) dX12_rings_58 (fun v14 ev14 => ?_)
          refine a_ishlU F dX12_rings_59 (fun v15 => ?_)
          refine a_ic F (1 : Int32) dX12_rings_60 (by decide) ?_
          refine lv_aload_n F.1 F.2.1 dX12_rings_61 rfl (lv_at hl 0 rfl) ?_
          refine a_getr F inX12 hP 85 6 tc_85 rfl rfl (by decide) q1477 (fun _ h9 => h9) dX12_rings_62 ?_
          refine a_bp F (98 : Int32) dX12_rings_65 (by decide) ?_
          refine lv_iload_n F.1 F.2.1 dX12_rings_67 rfl (lv_at hl 2 rfl) ?_
          refine a_iadd F dX12_rings_68 ic_98 rfl (by omega) (fun v16 hv16 => ?_)
          refine a_iald F hP 87 tc_87 rfl (i_in rfl (by omega)) dX12_rings_69 (fun v17 ev17 => ?_)
          refine a_ishlU F dX12_rings_70 (fun v18 => ?_)
          refine a_iorU F dX12_rings_71 (fun v19 => ?_)
          refine a_iorU F dX12_rings_72 (fun v20 => ?_)
          refine lv_istore_n (lv' := [(1, .int v20), (0, .ref (ad 85)), (2, .int x2)]) F.1 F.2.1 dX12_rings_73 rfl hl (by decide) rfl (fun ls hl => ?_)
          have g21 : (0 : Int) ≤ (u.1 85 0).toInt ∧ (u.1 85 0).toInt ≤ 1 := hR 85 0
          exact L74 v20 x2 _ _ _ _ hR hF (by omega) (by omega : (0 : Int) ≤ (u.1 85 0).toInt ∧ (u.1 85 0).toInt ≤ 0) (by omega) hP hD hS (lv_sub hl [1, 0, 2] rfl)
  refine lv_aload_n F.1 F.2.1 dX12_rings_0 rfl (lv_at hl 0 rfl) ?_
  refine a_ic F (0 : Int32) dX12_rings_1 (by decide) ?_
  refine a_puti F inX12 tyX12 tyX12_ok nmX12 hP hD hS 85 0 tc_85 rfl rfl (by decide) q1471 (fun _ h9 => h9) rfl (ty := .int) (tyX12_ok 0 (by decide)) rfl rfl dX12_rings_2 (fun H locs hP hD hS => ?_)
  have hR := hR.si (c := 85) (k := 0) (v := (0 : Int32)) (by rw [ic_0]; exact (by omega : (0 : Int) ≤ (0 : Int) ∧ (0 : Int) ≤ 1))
  have hF := hF.si (c := 85) (k := 0) (v := (0 : Int32)) rfl
  refine a_ic F (0 : Int32) dX12_rings_5 (by decide) ?_
  refine lv_istore_n (lv' := [(1, .int (0 : Int32)), (0, .ref (ad 85))]) F.1 F.2.1 dX12_rings_6 rfl hl (by decide) rfl (fun ls hl => ?_)
  refine a_ic F (0 : Int32) dX12_rings_7 (by decide) ?_
  refine lv_istore_n (lv' := [(2, .int (0 : Int32)), (1, .int (0 : Int32)), (0, .ref (ad 85))]) F.1 F.2.1 dX12_rings_8 rfl hl (by decide) rfl (fun ls hl => ?_)
  exact L9 10 (0 : Int32) (0 : Int32) _ _ _ _ (by decide) hR hF (by decide) (by omega : (0 : Int) ≤ (0 : Int) ∧ (0 : Int) ≤ 0) hP hD hS (lv_sub hl [2, 1, 0] rfl)
set_option maxHeartbeats 4000000 in
set_option maxRecDepth 100000 in
theorem c_X12_step_85 (l : Launch) (dC : Nat → ClassId) (dI : Nat → Nat → Nat) (ad : Nat → Nat) (cA : Nat → ClassId) (nF : Nat) (u0 : ac_U) (p0 : Int32) (hR : ac_R rg u0) : ac_Mi l yX12_step (.code yX12_step cX12_step 2 (some .int) :: TB) 1 (dC, dI) vwCl (ac_ty cA) ad cA (TT nF) [.ref (ad 85), .int p0] u0 (fun (r : Int32) (u : ac_U) => ac_R rg u ∧ ac_Fr [(85, some 0)] u0 u) := by
  refine ac_Mi.of (cc := cX12_step) (maxL := 2) (ret := (some .int)) (by decide) rfl (Nat.le_of_ble_eq_true rfl) ?_
  intro p e s m below meth c A ls F hml hr hlocks hA hP hD hS hl
  have F : ac_X p s m [.ref (ad 85), .int p0].toArray c cX12_step RX12 TB (dC, dI) vwCl (ac_ty cA) := ⟨F.1, F.2.1, fun w h => F.2.2.1 w (List.mem_cons_of_mem _ h), F.2.2.2.1, F.2.2.2.2⟩
  have hl : lv_has ls 2 [(0, .ref (ad 85)), (1, .int p0)] := hl
  have hF : ac_Fr [(85, some 0)] u0 u0 := ac_Fr.rf
  have L31 : ∀ (z0 : Int32) (u : ac_U) (H : Heap) (locs : List Loc) (ls : Array Slot), ac_R rg u → ac_Fr [(85, some 0)] u0 u → (0 : Int) ≤ (u.1 85 0).toInt ∧ (u.1 85 0).toInt ≤ 0 → va_P (dC, dI) vwCl (ac_w ad cA (TT nF) u) H → va_D A (ac_w ad cA (TT nF) u) → va_S A s.heap H locs → lv_has ls 2 [] → W p l e (ac_rm 1) s m [.ref (ad 85), .int p0].toArray below meth c H locs 0 0 (MQ below (va_Qi (fun (r : Int32) (u : ac_U) => ac_R rg u ∧ ac_Fr [(85, some 0)] u0 u) (ac_B (dC, dI) vwCl (ac_ty cA) ad cA (TT nF) A) A) [.ref (ad 85), .int p0].toArray s 0 0 A) (F0 m 31 ls [.int z0]) := by
    intro z0 u H locs ls hR hF f0 hP hD hS hl
    exact a_reti F hr hlocks hP hD hS dX12_step_31 ⟨hR, hF⟩
  have L30 : ∀ (u : ac_U) (H : Heap) (locs : List Loc) (ls : Array Slot), ac_R rg u → ac_Fr [(85, some 0)] u0 u → (0 : Int) ≤ (u.1 85 0).toInt ∧ (u.1 85 0).toInt ≤ 0 → va_P (dC, dI) vwCl (ac_w ad cA (TT nF) u) H → va_D A (ac_w ad cA (TT nF) u) → va_S A s.heap H locs → lv_has ls 2 [] → W p l e (ac_rm 1) s m [.ref (ad 85), .int p0].toArray below meth c H locs 0 0 (MQ below (va_Qi (fun (r : Int32) (u : ac_U) => ac_R rg u ∧ ac_Fr [(85, some 0)] u0 u) (ac_B (dC, dI) vwCl (ac_ty cA) ad cA (TT nF) A) A) [.ref (ad 85), .int p0].toArray s 0 0 A) (F0 m 30 ls []) := by
    intro u H locs ls hR hF f0 hP hD hS hl
    refine a_ic F (-1 : Int32) dX12_step_30 (by decide) ?_
    have g1 : (0 : Int) ≤ (u.1 85 0).toInt ∧ (u.1 85 0).toInt ≤ 1 := hR 85 0
    exact L31 (-1 : Int32) _ _ _ _ hR hF (by omega : (0 : Int) ≤ (u.1 85 0).toInt ∧ (u.1 85 0).toInt ≤ 0) hP hD hS (lv_sub hl [] rfl)
  refine lv_aload_n F.1 F.2.1 dX12_step_0 rfl (lv_at hl 0 rfl) ?_
  refine a_ic F (0 : Int32) dX12_step_1 (by decide) ?_
  refine a_puti F inX12 tyX12 tyX12_ok nmX12 hP hD hS 85 0 tc_85 rfl rfl (by decide) q1471 (fun _ h9 => h9) rfl (ty := .int) (tyX12_ok 0 (by decide)) rfl rfl dX12_step_2 (fun H locs hP hD hS => ?_)
  have hR := hR.si (c := 85) (k := 0) (v := (0 : Int32)) (by rw [ic_0]; exact (by omega : (0 : Int) ≤ (0 : Int) ∧ (0 : Int) ≤ 1))
  have hF := hF.si (c := 85) (k := 0) (v := (0 : Int32)) rfl
  refine lv_iload_n F.1 F.2.1 dX12_step_5 rfl (lv_at hl 1 rfl) ?_
  refine lv_aload_n F.1 F.2.1 dX12_step_6 rfl (lv_at hl 0 rfl) ?_
  have g2 : (0 : Int) ≤ (u0.1 85 29).toInt ∧ (u0.1 85 29).toInt ≤ 23 := hR 85 29
  refine a_geti F inX12 hP 85 29 tc_85 rfl rfl (by decide) q1500 (fun _ h9 => h9) (v := (u0.1 85 29)) rfl dX12_step_7 ?_
  refine b_lt F 30 dX12_step_10 (by decide) rfl rfl (fun c3 => ?_) (fun c3 => ?_)
  · exact L30 _ _ _ _ hR hF (by omega : (0 : Int) ≤ (0 : Int) ∧ (0 : Int) ≤ 0) hP hD hS (lv_sub hl [] rfl)
  · refine lv_iload_n F.1 F.2.1 dX12_step_13 rfl (lv_at hl 1 rfl) ?_
    refine lv_aload_n F.1 F.2.1 dX12_step_14 rfl (lv_at hl 0 rfl) ?_
    have g4 : (0 : Int) ≤ (u0.1 85 30).toInt ∧ (u0.1 85 30).toInt ≤ 24 := hR 85 30
    refine a_geti F inX12 hP 85 30 tc_85 rfl rfl (by decide) q1501 (fun _ h9 => h9) (v := (u0.1 85 30)) rfl dX12_step_15 ?_
    refine b_ge F 30 dX12_step_18 (by decide) rfl rfl (fun c5 => ?_) (fun c5 => ?_)
    · exact L30 _ _ _ _ hR hF (by omega : (0 : Int) ≤ (0 : Int) ∧ (0 : Int) ≤ 0) hP hD hS (lv_sub hl [] rfl)
    · refine lv_aload_n F.1 F.2.1 dX12_step_21 rfl (lv_at hl 0 rfl) ?_
      refine a_getr F inX12 hP 85 27 tc_85 rfl rfl (by decide) q1498 (fun _ h9 => h9) dX12_step_22 ?_
      refine lv_iload_n F.1 F.2.1 dX12_step_25 rfl (lv_at hl 1 rfl) ?_
      refine a_iald F hP 97 tc_97 rfl (i_in rfl (by omega)) dX12_step_26 (fun v6 ev6 => ?_)
      refine lv_goto (tgt := 31) F.1 F.2.1 dX12_step_27 (by decide) ?_
      exact L31 v6 _ _ _ _ hR hF (by omega : (0 : Int) ≤ (0 : Int) ∧ (0 : Int) ≤ 0) hP hD hS (lv_sub hl [] rfl)

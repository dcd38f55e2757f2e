set_option maxHeartbeats 4000000 in
set_option maxRecDepth 100000 in
theorem c_X6_hoursLeft_24 (l : Launch) (dC : Nat → ClassId) (dI : Nat → Nat → Nat) (ad : Nat → Nat) (cA : Nat → ClassId) (nF : Nat) (u0 : ac_U)  (hR : ac_R rg u0) : ac_Mi l yX6_hoursLeft (.code yX6_hoursLeft cX6_hoursLeft 1 (some .int) :: TB) 1 (dC, dI) vwCl (ac_ty cA) ad cA (TT nF) [.ref (ad 24)] u0 (fun (r : Int32) (u : ac_U) => u = u0 ∧ ((-400 : Int) ≤ r.toInt ∧ r.toInt ≤ 480)) := by
  refine ac_Mi.of (cc := cX6_hoursLeft) (maxL := 1) (ret := (some .int)) (by decide) rfl (Nat.le_of_ble_eq_true rfl) ?_
  intro p e s m below meth c A ls F hml hr hlocks hA hP hD hS hl
  have F : ac_X p s m [.ref (ad 24)].toArray c cX6_hoursLeft RX6 TB (dC, dI) vwCl (ac_ty cA) := ⟨F.1, F.2.1, fun w h => F.2.2.1 w (List.mem_cons_of_mem _ h), F.2.2.2.1, F.2.2.2.2⟩
  have hl : lv_has ls 1 [(0, .ref (ad 24))] := hl
  refine a_bp F (20 : Int32) dX6_hoursLeft_0 (by decide) ?_
  refine lv_aload_n F.1 F.2.1 dX6_hoursLeft_2 rfl (lv_at hl 0 rfl) ?_
  refine a_getr F inX6 hP 24 0 tc_24 rfl rfl (by decide) q271 (fun _ h9 => h9) dX6_hoursLeft_3 ?_
  have g1 : (4 : Int) ≤ (u0.1 4 0).toInt ∧ (u0.1 4 0).toInt ≤ 24 := hR 4 0
  refine a_geti F inX2 hP 4 0 tc_4 rfl rfl (by decide) q154 (fun _ h9 => h9) (v := (u0.1 4 0)) rfl dX6_hoursLeft_6 ?_
  refine a_imul F dX6_hoursLeft_9 ic_20 rfl (by omega) (fun v2 hv2 => ?_)
  refine lv_aload_n F.1 F.2.1 dX6_hoursLeft_10 rfl (lv_at hl 0 rfl) ?_
  refine a_getr F inX6 hP 24 1 tc_24 rfl rfl (by decide) q272 (fun _ h9 => h9) dX6_hoursLeft_11 ?_
  refine a_ic F (0 : Int32) dX6_hoursLeft_14 (by decide) ?_
  refine a_iald F hP 25 tc_25 rfl (i_in ic_0 (by omega)) dX6_hoursLeft_15 (fun v3 ev3 => ?_)
  have hv3 : (0 : Int) ≤ v3.toInt ∧ v3.toInt ≤ 480 := ev3 ▸ hR 25 _
  refine a_isub F dX6_hoursLeft_16 rfl rfl (by omega) (fun v4 hv4 => ?_)
  exact a_reti F hr hlocks hP hD hS dX6_hoursLeft_17 ⟨rfl, (by omega : (-400 : Int) ≤ v4.toInt ∧ v4.toInt ≤ 480)⟩
set_option maxHeartbeats 4000000 in
set_option maxRecDepth 100000 in
theorem c_X6_isBusy_24 (l : Launch) (dC : Nat → ClassId) (dI : Nat → Nat → Nat) (ad : Nat → Nat) (cA : Nat → ClassId) (nF : Nat) (u0 : ac_U) (p0 : Int32) (hR : ac_R rg u0) : ac_Mi l yX6_isBusy (.code yX6_isBusy cX6_isBusy 2 (some .boolean) :: TB) 1 (dC, dI) vwCl (ac_ty cA) ad cA (TT nF) [.ref (ad 24), .int p0] u0 (fun (r : Int32) (u : ac_U) => u = u0 ∧ ((0 : Int) ≤ r.toInt ∧ r.toInt ≤ 1)) := by
  refine ac_Mi.of (cc := cX6_isBusy) (maxL := 2) (ret := (some .boolean)) (by decide) rfl (Nat.le_of_ble_eq_true rfl) ?_
  intro p e s m below meth c A ls F hml hr hlocks hA hP hD hS hl
  have F : ac_X p s m [.ref (ad 24), .int p0].toArray c cX6_isBusy RX6 TB (dC, dI) vwCl (ac_ty cA) := ⟨F.1, F.2.1, fun w h => F.2.2.1 w (List.mem_cons_of_mem _ h), F.2.2.2.1, F.2.2.2.2⟩
  have hl : lv_has ls 2 [(0, .ref (ad 24)), (1, .int p0)] := hl
  have L19 : ∀ (z0 : Int32) (H : Heap) (locs : List Loc) (ls : Array Slot), (0 : Int) ≤ z0.toInt ∧ z0.toInt ≤ 1 → va_P (dC, dI) vwCl (ac_w ad cA (TT nF) u0) H → va_D A (ac_w ad cA (TT nF) u0) → va_S A s.heap H locs → lv_has ls 2 [] → W p l e (ac_rm 1) s m [.ref (ad 24), .int p0].toArray below meth c H locs 0 0 (MQ below (va_Qi (fun (r : Int32) (u : ac_U) => u = u0 ∧ ((0 : Int) ≤ r.toInt ∧ r.toInt ≤ 1)) (ac_B (dC, dI) vwCl (ac_ty cA) ad cA (TT nF) A) A) [.ref (ad 24), .int p0].toArray s 0 0 A) (F0 m 19 ls [.int z0]) := by
    intro z0 H locs ls f0 hP hD hS hl
    exact a_retz F hr hlocks hP hD hS dX6_isBusy_19 (i_01 (by omega)) ⟨rfl, (by omega : (0 : Int) ≤ z0.toInt ∧ z0.toInt ≤ 1)⟩
  refine lv_aload_n F.1 F.2.1 dX6_isBusy_0 rfl (lv_at hl 0 rfl) ?_
  refine a_getr F inX6 hP 24 1 tc_24 rfl rfl (by decide) q272 (fun _ h9 => h9) dX6_isBusy_1 ?_
  refine a_ic F (1 : Int32) dX6_isBusy_4 (by decide) ?_
  refine a_iald F hP 25 tc_25 rfl (i_in ic_1 (by omega)) dX6_isBusy_5 (fun v1 ev1 => ?_)
  refine lv_iload_n F.1 F.2.1 dX6_isBusy_6 rfl (lv_at hl 1 rfl) ?_
  refine a_ishrU F dX6_isBusy_7 (fun v2 => ?_)
  refine a_ic F (1 : Int32) dX6_isBusy_8 (by decide) ?_
  refine a_iandM F dX6_isBusy_9 ic_1 (by omega) (fun v3 hv3 => ?_)
  refine a_ic F (1 : Int32) dX6_isBusy_10 (by decide) ?_
  refine b_ne F 18 dX6_isBusy_11 (by decide) rfl ic_1 (fun c4 => ?_) (fun c4 => ?_)
  · refine a_ic F (0 : Int32) dX6_isBusy_18 (by decide) ?_
    exact L19 (0 : Int32) _ _ _ (by decide) hP hD hS (lv_sub hl [] rfl)
  · refine a_ic F (1 : Int32) dX6_isBusy_14 (by decide) ?_
    refine lv_goto (tgt := 19) F.1 F.2.1 dX6_isBusy_15 (by decide) ?_
    exact L19 (1 : Int32) _ _ _ (by decide) hP hD hS (lv_sub hl [] rfl)
set_option maxHeartbeats 4000000 in
set_option maxRecDepth 100000 in
theorem c_X6_isOver_24 (l : Launch) (dC : Nat → ClassId) (dI : Nat → Nat → Nat) (ad : Nat → Nat) (cA : Nat → ClassId) (nF : Nat) (u0 : ac_U)  (hR : ac_R rg u0) : ac_Mi l yX6_isOver (.code yX6_isOver cX6_isOver 1 (some .boolean) :: TB) 2 (dC, dI) vwCl (ac_ty cA) ad cA (TT nF) [.ref (ad 24)] u0 (fun (r : Int32) (u : ac_U) => u = u0 ∧ ((0 : Int) ≤ r.toInt ∧ r.toInt ≤ 1)) := by
  refine ac_Mi.of (cc := cX6_isOver) (maxL := 1) (ret := (some .boolean)) (by decide) rfl (Nat.le_of_ble_eq_true rfl) ?_
  intro p e s m below meth c A ls F hml hr hlocks hA hP hD hS hl
  have F : ac_X p s m [.ref (ad 24)].toArray c cX6_isOver RX6 TB (dC, dI) vwCl (ac_ty cA) := ⟨F.1, F.2.1, fun w h => F.2.2.1 w (List.mem_cons_of_mem _ h), F.2.2.2.1, F.2.2.2.2⟩
  have hl : lv_has ls 1 [(0, .ref (ad 24))] := hl
  have L12 : ∀ (z0 : Int32) (H : Heap) (locs : List Loc) (ls : Array Slot), (0 : Int) ≤ z0.toInt ∧ z0.toInt ≤ 1 → va_P (dC, dI) vwCl (ac_w ad cA (TT nF) u0) H → va_D A (ac_w ad cA (TT nF) u0) → va_S A s.heap H locs → lv_has ls 1 [] → W p l e (ac_rm 2) s m [.ref (ad 24)].toArray below meth c H locs 0 0 (MQ below (va_Qi (fun (r : Int32) (u : ac_U) => u = u0 ∧ ((0 : Int) ≤ r.toInt ∧ r.toInt ≤ 1)) (ac_B (dC, dI) vwCl (ac_ty cA) ad cA (TT nF) A) A) [.ref (ad 24)].toArray s 0 0 A) (F0 m 12 ls [.int z0]) := by
    intro z0 H locs ls f0 hP hD hS hl
    exact a_retz F hr hlocks hP hD hS dX6_isOver_12 (i_01 (by omega)) ⟨rfl, (by omega : (0 : Int) ≤ z0.toInt ∧ z0.toInt ≤ 1)⟩
  refine lv_aload_n F.1 F.2.1 dX6_isOver_0 rfl (lv_at hl 0 rfl) ?_
  refine a_Vi F hml hl.1 hA hP hD hS (As := []) (c_X6_hoursLeft_24 l dC dI ad cA nF _  hR) (cs_RX6_64 (d := 1) F.2.2.1 (by decide)) tc_24 rfl rfl rfl rfl (by decide) dX6_isOver_1 ⟨Nat.le_refl 0, Nat.le_refl 0⟩ (fun r1 uN1 H locs hq hP hD hS => ?_)
  obtain ⟨hu1, gr1⟩ := hq
  rw [hu1] at hP hD
  refine z_gt F 11 dX6_isOver_4 (by decide) rfl (fun c2 => ?_) (fun c2 => ?_)
  · refine a_ic F (0 : Int32) dX6_isOver_11 (by decide) ?_
    exact L12 (0 : Int32) _ _ _ (by decide) hP hD hS (lv_sub hl [] rfl)
  · refine a_ic F (1 : Int32) dX6_isOver_7 (by decide) ?_
    refine lv_goto (tgt := 12) F.1 F.2.1 dX6_isOver_8 (by decide) ?_
    exact L12 (1 : Int32) _ _ _ (by decide) hP hD hS (lv_sub hl [] rfl)
set_option maxHeartbeats 4000000 in
set_option maxRecDepth 100000 in
theorem c_X6_whyNotDo_24 (l : Launch) (dC : Nat → ClassId) (dI : Nat → Nat → Nat) (ad : Nat → Nat) (cA : Nat → ClassId) (nF : Nat) (u0 : ac_U) (p0 : Int32) (hR : ac_R rg u0) : ac_Mi l yX6_whyNotDo (.code yX6_whyNotDo cX6_whyNotDo 2 (some .int) :: TB) 3 (dC, dI) vwCl (ac_ty cA) ad cA (TT nF) [.ref (ad 24), .int p0] u0 (fun (r : Int32) (u : ac_U) => u = u0 ∧ ((0 : Int) ≤ r.toInt ∧ r.toInt ≤ 4)) := by
  refine ac_Mi.of (cc := cX6_whyNotDo) (maxL := 2) (ret := (some .int)) (by decide) rfl (Nat.le_of_ble_eq_true rfl) ?_
  intro p e s m below meth c A ls F hml hr hlocks hA hP hD hS hl
  have F : ac_X p s m [.ref (ad 24), .int p0].toArray c cX6_whyNotDo RX6 TB (dC, dI) vwCl (ac_ty cA) := ⟨F.1, F.2.1, fun w h => F.2.2.1 w (List.mem_cons_of_mem _ h), F.2.2.2.1, F.2.2.2.2⟩
  have hl : lv_has ls 2 [(0, .ref (ad 24)), (1, .int p0)] := hl
  have L35 : ∀ (z0 : Int32) (H : Heap) (locs : List Loc) (ls : Array Slot), (0 : Int) ≤ z0.toInt ∧ z0.toInt ≤ 4 → va_P (dC, dI) vwCl (ac_w ad cA (TT nF) u0) H → va_D A (ac_w ad cA (TT nF) u0) → va_S A s.heap H locs → lv_has ls 2 [] → W p l e (ac_rm 3) s m [.ref (ad 24), .int p0].toArray below meth c H locs 0 0 (MQ below (va_Qi (fun (r : Int32) (u : ac_U) => u = u0 ∧ ((0 : Int) ≤ r.toInt ∧ r.toInt ≤ 4)) (ac_B (dC, dI) vwCl (ac_ty cA) ad cA (TT nF) A) A) [.ref (ad 24), .int p0].toArray s 0 0 A) (F0 m 35 ls [.int z0]) := by
    intro z0 H locs ls f0 hP hD hS hl
    exact a_reti F hr hlocks hP hD hS dX6_whyNotDo_35 ⟨rfl, (by omega : (0 : Int) ≤ z0.toInt ∧ z0.toInt ≤ 4)⟩
  refine lv_aload_n F.1 F.2.1 dX6_whyNotDo_0 rfl (lv_at hl 0 rfl) ?_
  refine lv_iload_n F.1 F.2.1 dX6_whyNotDo_1 rfl (lv_at hl 1 rfl) ?_
  refine a_Vi F hml hl.1 hA hP hD hS (As := [.int p0]) (c_X6_isBusy_24 l dC dI ad cA nF _ p0 hR) (cs_RX6_68 (d := 1) F.2.2.1 (by decide)) tc_24 rfl rfl rfl rfl (by decide) dX6_whyNotDo_2 ⟨Nat.le_refl 0, Nat.le_refl 0⟩ (fun r1 uN1 H locs hq hP hD hS => ?_)
  obtain ⟨hu1, gr1⟩ := hq
  rw [hu1] at hP hD
  refine z_eq F 10 dX6_whyNotDo_5 (by decide) rfl (fun c2 => ?_) (fun c2 => ?_)
  · refine lv_aload_n F.1 F.2.1 dX6_whyNotDo_10 rfl (lv_at hl 0 rfl) ?_
    refine a_Vi F hml hl.1 hA hP hD hS (As := []) (c_X6_isOver_24 l dC dI ad cA nF _  hR) (cs_RX6_76 (d := 2) F.2.2.1 (by decide)) tc_24 rfl rfl rfl rfl (by decide) dX6_whyNotDo_11 ⟨Nat.le_refl 0, Nat.le_refl 0⟩ (fun r3 uN3 H locs hq hP hD hS => ?_)
    obtain ⟨hu3, gr3⟩ := hq
    rw [hu3] at hP hD
    refine z_eq F 19 dX6_whyNotDo_14 (by decide) rfl (fun c4 => ?_) (fun c4 => ?_)
    · refine lv_aload_n F.1 F.2.1 dX6_whyNotDo_19 rfl (lv_at hl 0 rfl) ?_
      refine a_getr F inX6 hP 24 1 tc_24 rfl rfl (by decide) q272 (fun _ h9 => h9) dX6_whyNotDo_20 ?_
      refine a_ic F (2 : Int32) dX6_whyNotDo_23 (by decide) ?_
      refine a_iald F hP 25 tc_25 rfl (i_in ic_2 (by omega)) dX6_whyNotDo_24 (fun v5 ev5 => ?_)
      have hv5 : (0 : Int) ≤ v5.toInt ∧ v5.toInt ≤ 80 := ev5 ▸ hR 25 _
      refine a_bp F (80 : Int32) dX6_whyNotDo_25 (by decide) ?_
      refine b_lt F 34 dX6_whyNotDo_27 (by decide) rfl ic_80 (fun c6 => ?_) (fun c6 => ?_)
      · refine a_ic F (0 : Int32) dX6_whyNotDo_34 (by decide) ?_
        exact L35 (0 : Int32) _ _ _ (by decide) hP hD hS (lv_sub hl [] rfl)
      · refine a_ic F (4 : Int32) dX6_whyNotDo_30 (by decide) ?_
        refine lv_goto (tgt := 35) F.1 F.2.1 dX6_whyNotDo_31 (by decide) ?_
        exact L35 (4 : Int32) _ _ _ (by decide) hP hD hS (lv_sub hl [] rfl)
    · refine a_ic F (3 : Int32) dX6_whyNotDo_17 (by decide) ?_
      exact a_reti F hr hlocks hP hD hS dX6_whyNotDo_18 ⟨rfl, (by decide)⟩
  · refine a_ic F (1 : Int32) dX6_whyNotDo_8 (by decide) ?_
    exact a_reti F hr hlocks hP hD hS dX6_whyNotDo_9 ⟨rfl, (by decide)⟩
set_option maxHeartbeats 4000000 in
set_option maxRecDepth 100000 in
theorem c_X0_sortBehind (l : Launch) (dC : Nat → ClassId) (dI : Nat → Nat → Nat) (ad : Nat → Nat) (cA : Nat → ClassId) (nF : Nat) (u0 : ac_U) (p0 : Int32) (hR : ac_R rg u0) (hp0 : (-128 : Int) ≤ p0.toInt ∧ p0.toInt ≤ 127) : ac_Mi l yX0_sortBehind (.code yX0_sortBehind cX0_sortBehind 1 (some .int) :: TB) 1 (dC, dI) vwCl (ac_ty cA) ad cA (TT nF) [.int p0] u0 (fun (r : Int32) (u : ac_U) => u = u0 ∧ ((-1 : Int) ≤ r.toInt ∧ r.toInt ≤ 3)) := by
  refine ac_Mi.of (cc := cX0_sortBehind) (maxL := 1) (ret := (some .int)) (by decide) rfl (Nat.le_of_ble_eq_true rfl) ?_
  intro p e s m below meth c A ls F hml hr hlocks hA hP hD hS hl
  have F : ac_X p s m [.int p0].toArray c cX0_sortBehind RX0 TB (dC, dI) vwCl (ac_ty cA) := ⟨F.1, F.2.1, fun w h => F.2.2.1 w (List.mem_cons_of_mem _ h), F.2.2.2.1, F.2.2.2.2⟩
  have hl : lv_has ls 1 [(0, .int p0)] := hl
  refine lv_iload_n F.1 F.2.1 dX0_sortBehind_0 rfl (lv_at hl 0 rfl) ?_
  rcases (show (p0.toInt < 110 ∨ 112 < p0.toInt) ∨ p0.toInt = 110 ∨ p0.toInt = 111 ∨ p0.toInt = 112 by omega) with c1 | c1 | c1 | c1
  · refine lv_tableOut (tgt := 34) F.1 F.2.1 dX0_sortBehind_1 c1 (by decide) ?_
    refine a_ic F (-1 : Int32) dX0_sortBehind_34 (by decide) ?_
    exact a_reti F hr hlocks hP hD hS dX0_sortBehind_35 ⟨rfl, (by decide)⟩
  · refine lv_tableIn (tgt := 28) F.1 F.2.1 dX0_sortBehind_1 (by omega) (by omega) (by rw [c1]; rfl) (by decide) ?_
    refine a_ic F (0 : Int32) dX0_sortBehind_28 (by decide) ?_
    exact a_reti F hr hlocks hP hD hS dX0_sortBehind_29 ⟨rfl, (by decide)⟩
  · refine lv_tableIn (tgt := 30) F.1 F.2.1 dX0_sortBehind_1 (by omega) (by omega) (by rw [c1]; rfl) (by decide) ?_
    refine a_ic F (2 : Int32) dX0_sortBehind_30 (by decide) ?_
    exact a_reti F hr hlocks hP hD hS dX0_sortBehind_31 ⟨rfl, (by decide)⟩
  · refine lv_tableIn (tgt := 32) F.1 F.2.1 dX0_sortBehind_1 (by omega) (by omega) (by rw [c1]; rfl) (by decide) ?_
    refine a_ic F (3 : Int32) dX0_sortBehind_32 (by decide) ?_
    exact a_reti F hr hlocks hP hD hS dX0_sortBehind_33 ⟨rfl, (by decide)⟩
set_option maxHeartbeats 4000000 in
set_option maxRecDepth 100000 in
theorem c_X10_fail_1 (l : Launch) (dC : Nat → ClassId) (dI : Nat → Nat → Nat) (ad : Nat → Nat) (cA : Nat → ClassId) (nF : Nat) (u0 : ac_U) (p0 : Int32) (hR : ac_R rg u0) (hp0 : (1 : Int) ≤ p0.toInt ∧ p0.toInt ≤ 4) : ac_Mi l yX10_fail (.code yX10_fail cX10_fail 2 (some .boolean) :: TB) 1 (dC, dI) vwCl (ac_ty cA) ad cA (TT nF) [.ref (ad 1), .int p0] u0 (fun (r : Int32) (u : ac_U) => ac_R rg u ∧ ac_Fr [(1, some 10), (1, some 11)] u0 u ∧ ((0 : Int) ≤ r.toInt ∧ r.toInt ≤ 0)) := by
  refine ac_Mi.of (cc := cX10_fail) (maxL := 2) (ret := (some .boolean)) (by decide) rfl (Nat.le_of_ble_eq_true rfl) ?_
  intro p e s m below meth c A ls F hml hr hlocks hA hP hD hS hl
  have F : ac_X p s m [.ref (ad 1), .int p0].toArray c cX10_fail RX10 TB (dC, dI) vwCl (ac_ty cA) := ⟨F.1, F.2.1, fun w h => F.2.2.1 w (List.mem_cons_of_mem _ h), F.2.2.2.1, F.2.2.2.2⟩
  have hl : lv_has ls 2 [(0, .ref (ad 1)), (1, .int p0)] := hl
  have hF : ac_Fr [(1, some 10), (1, some 11)] u0 u0 := ac_Fr.rf
  refine lv_aload_n F.1 F.2.1 dX10_fail_0 rfl (lv_at hl 0 rfl) ?_
  refine lv_iload_n F.1 F.2.1 dX10_fail_1 rfl (lv_at hl 1 rfl) ?_
  refine a_puti F inX10 tyX10 tyX10_ok nmX10 hP hD hS 1 10 tc_1 rfl rfl (by decide) q114 (fun _ h9 => h9) rfl (ty := .int) (tyX10_ok 10 (by decide)) rfl rfl dX10_fail_2 (fun H locs hP hD hS => ?_)
  have hR := hR.si (c := 1) (k := 10) (v := p0) (by omega : (0 : Int) ≤ p0.toInt ∧ p0.toInt ≤ 4)
  have hF := hF.si (c := 1) (k := 10) (v := p0) rfl
  refine lv_aload_n F.1 F.2.1 dX10_fail_5 rfl (lv_at hl 0 rfl) ?_
  refine lv_aload_n F.1 F.2.1 dX10_fail_6 rfl (lv_at hl 0 rfl) ?_
  have g1 : (0 : Int) ≤ (u0.1 1 5).toInt ∧ (u0.1 1 5).toInt ≤ 940 := hR 1 5
  refine a_geti F inX10 hP 1 5 tc_1 rfl rfl (by decide) q99 (fun _ h9 => h9) (v := (u0.1 1 5)) rfl dX10_fail_7 ?_
  refine a_puti F inX10 tyX10 tyX10_ok nmX10 hP hD hS 1 11 tc_1 rfl rfl (by decide) q116 (fun _ h9 => h9) rfl (ty := .int) (tyX10_ok 11 (by decide)) rfl rfl dX10_fail_10 (fun H locs hP hD hS => ?_)
  have hR := hR.si (c := 1) (k := 11) (v := (u0.1 1 5)) (by omega : (0 : Int) ≤ (u0.1 1 5).toInt ∧ (u0.1 1 5).toInt ≤ 940)
  have hF := hF.si (c := 1) (k := 11) (v := (u0.1 1 5)) rfl
  refine a_ic F (0 : Int32) dX10_fail_13 (by decide) ?_
  exact a_retz F hr hlocks hP hD hS dX10_fail_14 (Or.inl rfl) ⟨hR, hF, (by decide)⟩
set_option maxHeartbeats 4000000 in
set_option maxRecDepth 100000 in
theorem c_X10_isDigit (l : Launch) (dC : Nat → ClassId) (dI : Nat → Nat → Nat) (ad : Nat → Nat) (cA : Nat → ClassId) (nF : Nat) (u0 : ac_U) (p0 : Int32) (hR : ac_R rg u0) (hp0 : (-128 : Int) ≤ p0.toInt ∧ p0.toInt ≤ 127) : ac_Mi l yX10_isDigit (.code yX10_isDigit cX10_isDigit 1 (some .boolean) :: TB) 1 (dC, dI) vwCl (ac_ty cA) ad cA (TT nF) [.int p0] u0 (fun (r : Int32) (u : ac_U) => u = u0 ∧ ((0 : Int) ≤ r.toInt ∧ r.toInt ≤ 1)) := by
  refine ac_Mi.of (cc := cX10_isDigit) (maxL := 1) (ret := (some .boolean)) (by decide) rfl (Nat.le_of_ble_eq_true rfl) ?_
  intro p e s m below meth c A ls F hml hr hlocks hA hP hD hS hl
  have F : ac_X p s m [.int p0].toArray c cX10_isDigit RX10 TB (dC, dI) vwCl (ac_ty cA) := ⟨F.1, F.2.1, fun w h => F.2.2.1 w (List.mem_cons_of_mem _ h), F.2.2.2.1, F.2.2.2.2⟩
  have hl : lv_has ls 1 [(0, .int p0)] := hl
  have L17 : ∀ (z0 : Int32) (H : Heap) (locs : List Loc) (ls : Array Slot), (0 : Int) ≤ z0.toInt ∧ z0.toInt ≤ 1 → va_P (dC, dI) vwCl (ac_w ad cA (TT nF) u0) H → va_D A (ac_w ad cA (TT nF) u0) → va_S A s.heap H locs → lv_has ls 1 [] → W p l e (ac_rm 1) s m [.int p0].toArray below meth c H locs 0 0 (MQ below (va_Qi (fun (r : Int32) (u : ac_U) => u = u0 ∧ ((0 : Int) ≤ r.toInt ∧ r.toInt ≤ 1)) (ac_B (dC, dI) vwCl (ac_ty cA) ad cA (TT nF) A) A) [.int p0].toArray s 0 0 A) (F0 m 17 ls [.int z0]) := by
    intro z0 H locs ls f0 hP hD hS hl
    exact a_retz F hr hlocks hP hD hS dX10_isDigit_17 (i_01 (by omega)) ⟨rfl, (by omega : (0 : Int) ≤ z0.toInt ∧ z0.toInt ≤ 1)⟩
  have L16 : ∀ (H : Heap) (locs : List Loc) (ls : Array Slot), va_P (dC, dI) vwCl (ac_w ad cA (TT nF) u0) H → va_D A (ac_w ad cA (TT nF) u0) → va_S A s.heap H locs → lv_has ls 1 [] → W p l e (ac_rm 1) s m [.int p0].toArray below meth c H locs 0 0 (MQ below (va_Qi (fun (r : Int32) (u : ac_U) => u = u0 ∧ ((0 : Int) ≤ r.toInt ∧ r.toInt ≤ 1)) (ac_B (dC, dI) vwCl (ac_ty cA) ad cA (TT nF) A) A) [.int p0].toArray s 0 0 A) (F0 m 16 ls []) := by
    intro H locs ls hP hD hS hl
    refine a_ic F (0 : Int32) dX10_isDigit_16 (by decide) ?_
    exact L17 (0 : Int32) _ _ _ (by decide) hP hD hS (lv_sub hl [] rfl)
  refine lv_iload_n F.1 F.2.1 dX10_isDigit_0 rfl (lv_at hl 0 rfl) ?_
  refine a_bp F (48 : Int32) dX10_isDigit_1 (by decide) ?_
  refine b_lt F 16 dX10_isDigit_3 (by decide) rfl ic_48 (fun c1 => ?_) (fun c1 => ?_)
  · exact L16 _ _ _  hP hD hS (lv_sub hl [] rfl)
  · refine lv_iload_n F.1 F.2.1 dX10_isDigit_6 rfl (lv_at hl 0 rfl) ?_
    refine a_bp F (57 : Int32) dX10_isDigit_7 (by decide) ?_
    refine b_gt F 16 dX10_isDigit_9 (by decide) rfl ic_57 (fun c2 => ?_) (fun c2 => ?_)
    · exact L16 _ _ _  hP hD hS (lv_sub hl [] rfl)
    · refine a_ic F (1 : Int32) dX10_isDigit_12 (by decide) ?_
      refine lv_goto (tgt := 17) F.1 F.2.1 dX10_isDigit_13 (by decide) ?_
      exact L17 (1 : Int32) _ _ _ (by decide) hP hD hS (lv_sub hl [] rfl)
set_option maxHeartbeats 4000000 in
set_option maxRecDepth 100000 in
theorem c_X10_isLetter (l : Launch) (dC : Nat → ClassId) (dI : Nat → Nat → Nat) (ad : Nat → Nat) (cA : Nat → ClassId) (nF : Nat) (u0 : ac_U) (p0 : Int32) (hR : ac_R rg u0) (hp0 : (-128 : Int) ≤ p0.toInt ∧ p0.toInt ≤ 127) : ac_Mi l yX10_isLetter (.code yX10_isLetter cX10_isLetter 1 (some .boolean) :: TB) 1 (dC, dI) vwCl (ac_ty cA) ad cA (TT nF) [.int p0] u0 (fun (r : Int32) (u : ac_U) => u = u0 ∧ ((0 : Int) ≤ r.toInt ∧ r.toInt ≤ 1)) := by
  refine ac_Mi.of (cc := cX10_isLetter) (maxL := 1) (ret := (some .boolean)) (by decide) rfl (Nat.le_of_ble_eq_true rfl) ?_
  intro p e s m below meth c A ls F hml hr hlocks hA hP hD hS hl
  have F : ac_X p s m [.int p0].toArray c cX10_isLetter RX10 TB (dC, dI) vwCl (ac_ty cA) := ⟨F.1, F.2.1, fun w h => F.2.2.1 w (List.mem_cons_of_mem _ h), F.2.2.2.1, F.2.2.2.2⟩
  have hl : lv_has ls 1 [(0, .int p0)] := hl
  have L17 : ∀ (z0 : Int32) (H : Heap) (locs : List Loc) (ls : Array Slot), (0 : Int) ≤ z0.toInt ∧ z0.toInt ≤ 1 → va_P (dC, dI) vwCl (ac_w ad cA (TT nF) u0) H → va_D A (ac_w ad cA (TT nF) u0) → va_S A s.heap H locs → lv_has ls 1 [] → W p l e (ac_rm 1) s m [.int p0].toArray below meth c H locs 0 0 (MQ below (va_Qi (fun (r : Int32) (u : ac_U) => u = u0 ∧ ((0 : Int) ≤ r.toInt ∧ r.toInt ≤ 1)) (ac_B (dC, dI) vwCl (ac_ty cA) ad cA (TT nF) A) A) [.int p0].toArray s 0 0 A) (F0 m 17 ls [.int z0]) := by
    intro z0 H locs ls f0 hP hD hS hl
    exact a_retz F hr hlocks hP hD hS dX10_isLetter_17 (i_01 (by omega)) ⟨rfl, (by omega : (0 : Int) ≤ z0.toInt ∧ z0.toInt ≤ 1)⟩
  have L16 : ∀ (H : Heap) (locs : List Loc) (ls : Array Slot), va_P (dC, dI) vwCl (ac_w ad cA (TT nF) u0) H → va_D A (ac_w ad cA (TT nF) u0) → va_S A s.heap H locs → lv_has ls 1 [] → W p l e (ac_rm 1) s m [.int p0].toArray below meth c H locs 0 0 (MQ below (va_Qi (fun (r : Int32) (u : ac_U) => u = u0 ∧ ((0 : Int) ≤ r.toInt ∧ r.toInt ≤ 1)) (ac_B (dC, dI) vwCl (ac_ty cA) ad cA (TT nF) A) A) [.int p0].toArray s 0 0 A) (F0 m 16 ls []) := by
    intro H locs ls hP hD hS hl
    refine a_ic F (0 : Int32) dX10_isLetter_16 (by decide) ?_
    exact L17 (0 : Int32) _ _ _ (by decide) hP hD hS (lv_sub hl [] rfl)
  refine lv_iload_n F.1 F.2.1 dX10_isLetter_0 rfl (lv_at hl 0 rfl) ?_
  refine a_bp F (97 : Int32) dX10_isLetter_1 (by decide) ?_
  refine b_lt F 16 dX10_isLetter_3 (by decide) rfl ic_97 (fun c1 => ?_) (fun c1 => ?_)
  · exact L16 _ _ _  hP hD hS (lv_sub hl [] rfl)
  · refine lv_iload_n F.1 F.2.1 dX10_isLetter_6 rfl (lv_at hl 0 rfl) ?_
    refine a_bp F (122 : Int32) dX10_isLetter_7 (by decide) ?_
    refine b_gt F 16 dX10_isLetter_9 (by decide) rfl ic_122 (fun c2 => ?_) (fun c2 => ?_)
    · exact L16 _ _ _  hP hD hS (lv_sub hl [] rfl)
    · refine a_ic F (1 : Int32) dX10_isLetter_12 (by decide) ?_
      refine lv_goto (tgt := 17) F.1 F.2.1 dX10_isLetter_13 (by decide) ?_
      exact L17 (1 : Int32) _ _ _ (by decide) hP hD hS (lv_sub hl [] rfl)
set_option maxHeartbeats 4000000 in
set_option maxRecDepth 100000 in
theorem c_X10_isCompare (l : Launch) (dC : Nat → ClassId) (dI : Nat → Nat → Nat) (ad : Nat → Nat) (cA : Nat → ClassId) (nF : Nat) (u0 : ac_U) (p0 : Int32) (hR : ac_R rg u0) (hp0 : (-128 : Int) ≤ p0.toInt ∧ p0.toInt ≤ 127) : ac_Mi l yX10_isCompare (.code yX10_isCompare cX10_isCompare 1 (some .boolean) :: TB) 1 (dC, dI) vwCl (ac_ty cA) ad cA (TT nF) [.int p0] u0 (fun (r : Int32) (u : ac_U) => u = u0 ∧ ((0 : Int) ≤ r.toInt ∧ r.toInt ≤ 1)) := by
  refine ac_Mi.of (cc := cX10_isCompare) (maxL := 1) (ret := (some .boolean)) (by decide) rfl (Nat.le_of_ble_eq_true rfl) ?_
  intro p e s m below meth c A ls F hml hr hlocks hA hP hD hS hl
  have F : ac_X p s m [.int p0].toArray c cX10_isCompare RX10 TB (dC, dI) vwCl (ac_ty cA) := ⟨F.1, F.2.1, fun w h => F.2.2.1 w (List.mem_cons_of_mem _ h), F.2.2.2.1, F.2.2.2.2⟩
  have hl : lv_has ls 1 [(0, .int p0)] := hl
  have L23 : ∀ (z0 : Int32) (H : Heap) (locs : List Loc) (ls : Array Slot), (0 : Int) ≤ z0.toInt ∧ z0.toInt ≤ 1 → va_P (dC, dI) vwCl (ac_w ad cA (TT nF) u0) H → va_D A (ac_w ad cA (TT nF) u0) → va_S A s.heap H locs → lv_has ls 1 [] → W p l e (ac_rm 1) s m [.int p0].toArray below meth c H locs 0 0 (MQ below (va_Qi (fun (r : Int32) (u : ac_U) => u = u0 ∧ ((0 : Int) ≤ r.toInt ∧ r.toInt ≤ 1)) (ac_B (dC, dI) vwCl (ac_ty cA) ad cA (TT nF) A) A) [.int p0].toArray s 0 0 A) (F0 m 23 ls [.int z0]) := by
    intro z0 H locs ls f0 hP hD hS hl
    exact a_retz F hr hlocks hP hD hS dX10_isCompare_23 (i_01 (by omega)) ⟨rfl, (by omega : (0 : Int) ≤ z0.toInt ∧ z0.toInt ≤ 1)⟩
  have L18 : ∀ (H : Heap) (locs : List Loc) (ls : Array Slot), va_P (dC, dI) vwCl (ac_w ad cA (TT nF) u0) H → va_D A (ac_w ad cA (TT nF) u0) → va_S A s.heap H locs → lv_has ls 1 [] → W p l e (ac_rm 1) s m [.int p0].toArray below meth c H locs 0 0 (MQ below (va_Qi (fun (r : Int32) (u : ac_U) => u = u0 ∧ ((0 : Int) ≤ r.toInt ∧ r.toInt ≤ 1)) (ac_B (dC, dI) vwCl (ac_ty cA) ad cA (TT nF) A) A) [.int p0].toArray s 0 0 A) (F0 m 18 ls []) := by
    intro H locs ls hP hD hS hl
    refine a_ic F (1 : Int32) dX10_isCompare_18 (by decide) ?_
    refine lv_goto (tgt := 23) F.1 F.2.1 dX10_isCompare_19 (by decide) ?_
    exact L23 (1 : Int32) _ _ _ (by decide) hP hD hS (lv_sub hl [] rfl)
  refine lv_iload_n F.1 F.2.1 dX10_isCompare_0 rfl (lv_at hl 0 rfl) ?_
  refine a_bp F (60 : Int32) dX10_isCompare_1 (by decide) ?_
  refine b_eq F 18 dX10_isCompare_3 (by decide) rfl ic_60 (fun c1 => ?_) (fun c1 => ?_)
  · exact L18 _ _ _  hP hD hS (lv_sub hl [] rfl)
  · refine lv_iload_n F.1 F.2.1 dX10_isCompare_6 rfl (lv_at hl 0 rfl) ?_
    refine a_bp F (61 : Int32) dX10_isCompare_7 (by decide) ?_
    refine b_eq F 18 dX10_isCompare_9 (by decide) rfl ic_61 (fun c2 => ?_) (fun c2 => ?_)
    · exact L18 _ _ _  hP hD hS (lv_sub hl [] rfl)
    · refine lv_iload_n F.1 F.2.1 dX10_isCompare_12 rfl (lv_at hl 0 rfl) ?_
      refine a_bp F (62 : Int32) dX10_isCompare_13 (by decide) ?_
      refine b_ne F 22 dX10_isCompare_15 (by decide) rfl ic_62 (fun c3 => ?_) (fun c3 => ?_)
      · refine a_ic F (0 : Int32) dX10_isCompare_22 (by decide) ?_
        exact L23 (0 : Int32) _ _ _ (by decide) hP hD hS (lv_sub hl [] rfl)
      · exact L18 _ _ _  hP hD hS (lv_sub hl [] rfl)
set_option maxHeartbeats 4000000 in
set_option maxRecDepth 100000 in
theorem c_X10_isSign (l : Launch) (dC : Nat → ClassId) (dI : Nat → Nat → Nat) (ad : Nat → Nat) (cA : Nat → ClassId) (nF : Nat) (u0 : ac_U) (p0 : Int32) (hR : ac_R rg u0) (hp0 : (-128 : Int) ≤ p0.toInt ∧ p0.toInt ≤ 127) : ac_Mi l yX10_isSign (.code yX10_isSign cX10_isSign 1 (some .boolean) :: TB) 2 (dC, dI) vwCl (ac_ty cA) ad cA (TT nF) [.int p0] u0 (fun (r : Int32) (u : ac_U) => u = u0 ∧ ((0 : Int) ≤ r.toInt ∧ r.toInt ≤ 1)) := by
  refine ac_Mi.of (cc := cX10_isSign) (maxL := 1) (ret := (some .boolean)) (by decide) rfl (Nat.le_of_ble_eq_true rfl) ?_
  intro p e s m below meth c A ls F hml hr hlocks hA hP hD hS hl
  have F : ac_X p s m [.int p0].toArray c cX10_isSign RX10 TB (dC, dI) vwCl (ac_ty cA) := ⟨F.1, F.2.1, fun w h => F.2.2.1 w (List.mem_cons_of_mem _ h), F.2.2.2.1, F.2.2.2.2⟩
  have hl : lv_has ls 1 [(0, .int p0)] := hl
  have L30 : ∀ (z0 : Int32) (H : Heap) (locs : List Loc) (ls : Array Slot), (0 : Int) ≤ z0.toInt ∧ z0.toInt ≤ 1 → va_P (dC, dI) vwCl (ac_w ad cA (TT nF) u0) H → va_D A (ac_w ad cA (TT nF) u0) → va_S A s.heap H locs → lv_has ls 1 [] → W p l e (ac_rm 2) s m [.int p0].toArray below meth c H locs 0 0 (MQ below (va_Qi (fun (r : Int32) (u : ac_U) => u = u0 ∧ ((0 : Int) ≤ r.toInt ∧ r.toInt ≤ 1)) (ac_B (dC, dI) vwCl (ac_ty cA) ad cA (TT nF) A) A) [.int p0].toArray s 0 0 A) (F0 m 30 ls [.int z0]) := by
    intro z0 H locs ls f0 hP hD hS hl
    exact a_retz F hr hlocks hP hD hS dX10_isSign_30 (i_01 (by omega)) ⟨rfl, (by omega : (0 : Int) ≤ z0.toInt ∧ z0.toInt ≤ 1)⟩
  have L25 : ∀ (H : Heap) (locs : List Loc) (ls : Array Slot), va_P (dC, dI) vwCl (ac_w ad cA (TT nF) u0) H → va_D A (ac_w ad cA (TT nF) u0) → va_S A s.heap H locs → lv_has ls 1 [] → W p l e (ac_rm 2) s m [.int p0].toArray below meth c H locs 0 0 (MQ below (va_Qi (fun (r : Int32) (u : ac_U) => u = u0 ∧ ((0 : Int) ≤ r.toInt ∧ r.toInt ≤ 1)) (ac_B (dC, dI) vwCl (ac_ty cA) ad cA (TT nF) A) A) [.int p0].toArray s 0 0 A) (F0 m 25 ls []) := by
    intro H locs ls hP hD hS hl
    refine a_ic F (1 : Int32) dX10_isSign_25 (by decide) ?_
    refine lv_goto (tgt := 30) F.1 F.2.1 dX10_isSign_26 (by decide) ?_
    exact L30 (1 : Int32) _ _ _ (by decide) hP hD hS (lv_sub hl [] rfl)
  refine lv_iload_n F.1 F.2.1 dX10_isSign_0 rfl (lv_at hl 0 rfl) ?_
  refine a_bp F (59 : Int32) dX10_isSign_1 (by decide) ?_
  refine b_eq F 25 dX10_isSign_3 (by decide) rfl ic_59 (fun c1 => ?_) (fun c1 => ?_)
  · exact L25 _ _ _  hP hD hS (lv_sub hl [] rfl)
  · refine lv_iload_n F.1 F.2.1 dX10_isSign_6 rfl (lv_at hl 0 rfl) ?_
    refine a_bp F (40 : Int32) dX10_isSign_7 (by decide) ?_
    refine b_eq F 25 dX10_isSign_9 (by decide) rfl ic_40 (fun c2 => ?_) (fun c2 => ?_)
    · exact L25 _ _ _  hP hD hS (lv_sub hl [] rfl)
    · refine lv_iload_n F.1 F.2.1 dX10_isSign_12 rfl (lv_at hl 0 rfl) ?_
      refine a_bp F (41 : Int32) dX10_isSign_13 (by decide) ?_
      refine b_eq F 25 dX10_isSign_15 (by decide) rfl ic_41 (fun c3 => ?_) (fun c3 => ?_)
      · exact L25 _ _ _  hP hD hS (lv_sub hl [] rfl)
      · refine lv_iload_n F.1 F.2.1 dX10_isSign_18 rfl (lv_at hl 0 rfl) ?_
        refine a_Si F hml hl.1 hA hP hD hS (As := [.int p0]) (c_X10_isCompare l dC dI ad cA nF _ p0 hR (by omega)) (cs_RX10_68 (d := 1) F.2.2.1 (by decide)) rfl rfl (by decide) dX10_isSign_19 ⟨Nat.le_refl 0, Nat.le_refl 0⟩ (fun r4 uN4 H locs hq hP hD hS => ?_)
        obtain ⟨hu4, gr4⟩ := hq
        rw [hu4] at hP hD
        refine z_eq F 29 dX10_isSign_22 (by decide) rfl (fun c5 => ?_) (fun c5 => ?_)
        · refine a_ic F (0 : Int32) dX10_isSign_29 (by decide) ?_
          exact L30 (0 : Int32) _ _ _ (by decide) hP hD hS (lv_sub hl [] rfl)
        · exact L25 _ _ _  hP hD hS (lv_sub hl [] rfl)
set_option maxHeartbeats 4000000 in
set_option maxRecDepth 100000 in
theorem c_X10_kindOfWord_1 (l : Launch) (dC : Nat → ClassId) (dI : Nat → Nat → Nat) (ad : Nat → Nat) (cA : Nat → ClassId) (nF : Nat) (u0 : ac_U)  (hR : ac_R rg u0) : ac_Mi l yX10_kindOfWord (.code yX10_kindOfWord cX10_kindOfWord 2 (some .int) :: TB) 1 (dC, dI) vwCl (ac_ty cA) ad cA (TT nF) [.ref (ad 1)] u0 (fun (r : Int32) (u : ac_U) => u = u0 ∧ ((2 : Int) ≤ r.toInt ∧ r.toInt ≤ 126)) := by
  refine ac_Mi.of (cc := cX10_kindOfWord) (maxL := 2) (ret := (some .int)) (by decide) rfl (Nat.le_of_ble_eq_true rfl) ?_
  intro p e s m below meth c A ls F hml hr hlocks hA hP hD hS hl
  have F : ac_X p s m [.ref (ad 1)].toArray c cX10_kindOfWord RX10 TB (dC, dI) vwCl (ac_ty cA) := ⟨F.1, F.2.1, fun w h => F.2.2.1 w (List.mem_cons_of_mem _ h), F.2.2.2.1, F.2.2.2.2⟩
  have hl : lv_has ls 2 [(0, .ref (ad 1))] := hl
  have L2 : ∀ (n : Nat) (x1 : Int32) (H : Heap) (locs : List Loc) (ls : Array Slot), 27 - x1.toInt < (n : Int) → (0 : Int) ≤ x1.toInt ∧ x1.toInt ≤ 27 → va_P (dC, dI) vwCl (ac_w ad cA (TT nF) u0) H → va_D A (ac_w ad cA (TT nF) u0) → va_S A s.heap H locs → lv_has ls 2 [(0, .ref (ad 1)), (1, .int x1)] → W p l e (ac_rm 1) s m [.ref (ad 1)].toArray below meth c H locs 0 0 (MQ below (va_Qi (fun (r : Int32) (u : ac_U) => u = u0 ∧ ((2 : Int) ≤ r.toInt ∧ r.toInt ≤ 126)) (ac_B (dC, dI) vwCl (ac_ty cA) ad cA (TT nF) A) A) [.ref (ad 1)].toArray s 0 0 A) (F0 m 2 ls []) := by
    intro n
    induction n with
    | zero => intro x1 H locs ls hn f0 hP hD hS hl; exfalso; omega
    | succ n ih2 =>
      intro x1 H locs ls hn f0 hP hD hS hl
      refine lv_iload_n F.1 F.2.1 dX10_kindOfWord_2 rfl (lv_at hl 1 rfl) ?_
      refine a_bp F (27 : Int32) dX10_kindOfWord_3 (by decide) ?_
      refine b_ge F 33 dX10_kindOfWord_5 (by decide) rfl ic_27 (fun c1 => ?_) (fun c1 => ?_)
      · refine a_ic F (2 : Int32) dX10_kindOfWord_33 (by decide) ?_
        exact a_reti F hr hlocks hP hD hS dX10_kindOfWord_34 ⟨rfl, (by decide)⟩
      · refine lv_aload_n F.1 F.2.1 dX10_kindOfWord_8 rfl (lv_at hl 0 rfl) ?_
        refine a_getr F inX10 hP 1 1 tc_1 rfl rfl (by decide) q94 (fun _ h9 => h9) dX10_kindOfWord_9 ?_
        refine lv_iload_n F.1 F.2.1 dX10_kindOfWord_12 rfl (lv_at hl 1 rfl) ?_
        refine a_lald F hP 3 tc_3 rfl (i_in rfl (by omega)) dX10_kindOfWord_13 (fun w2 ew2 => ?_)
        refine lv_aload_n F.1 F.2.1 dX10_kindOfWord_14 rfl (lv_at hl 0 rfl) ?_
        refine a_getl F inX10 hP 1 7 tc_1 rfl rfl (by decide) q104 (fun _ h9 => h9) rfl dX10_kindOfWord_15 ?_
        refine lv_topl (fun w3 _ => ?_)
        refine W.lcmp F.1 F.2.1 dX10_kindOfWord_18 ?_
        refine lv_topi (fun v4 _ => ?_)
        refine z_ne F 27 dX10_kindOfWord_19 (by decide) rfl (fun c5 => ?_) (fun c5 => ?_)
        · refine a_iinc F (k := 1) (fun v6 => [(1, .int v6), (0, .ref (ad 1))]) dX10_kindOfWord_27 hl rfl rfl (by decide) (by omega) (by decide) (fun _ => rfl) (fun v6 ls hv6 hl => ?_)
          refine lv_goto (tgt := 2) F.1 F.2.1 dX10_kindOfWord_30 (by decide) ?_
          exact ih2 v6 _ _ _ (by omega) (by omega) hP hD hS (lv_sub hl [1, 0] rfl)
        · refine a_bp F (100 : Int32) dX10_kindOfWord_22 (by decide) ?_
          refine lv_iload_n F.1 F.2.1 dX10_kindOfWord_24 rfl (lv_at hl 1 rfl) ?_
          refine a_iadd F dX10_kindOfWord_25 ic_100 rfl (by omega) (fun v7 hv7 => ?_)
          exact a_reti F hr hlocks hP hD hS dX10_kindOfWord_26 ⟨rfl, (by omega : (2 : Int) ≤ v7.toInt ∧ v7.toInt ≤ 126)⟩
  refine a_ic F (0 : Int32) dX10_kindOfWord_0 (by decide) ?_
  refine lv_istore_n (lv' := [(1, .int (0 : Int32)), (0, .ref (ad 1))]) F.1 F.2.1 dX10_kindOfWord_1 rfl hl (by decide) rfl (fun ls hl => ?_)
  exact L2 29 (0 : Int32) _ _ _ (by decide) (by decide) hP hD hS (lv_sub hl [1, 0] rfl)
set_option maxHeartbeats 4000000 in
set_option maxRecDepth 100000 in
theorem c_X10_withLetter (l : Launch) (dC : Nat → ClassId) (dI : Nat → Nat → Nat) (ad : Nat → Nat) (cA : Nat → ClassId) (nF : Nat) (u0 : ac_U) (p0 : Int64) (p1 : Int32) (hR : ac_R rg u0) (hp1 : (-128 : Int) ≤ p1.toInt ∧ p1.toInt ≤ 127) : ac_Ml l yX10_withLetter (.code yX10_withLetter cX10_withLetter 3 (some .long) :: TB) 1 (dC, dI) vwCl (ac_ty cA) ad cA (TT nF) [.long p0, .int p1] u0 (fun (_ : Int64) (u : ac_U) => u = u0) := by
  refine ac_Ml.of (cc := cX10_withLetter) (maxL := 3) (ret := (some .long)) (by decide) rfl (Nat.le_of_ble_eq_true rfl) ?_
  intro p e s m below meth c A ls F hml hr hlocks hA hP hD hS hl
  have F : ac_X p s m [.long p0, .int p1].toArray c cX10_withLetter RX10 TB (dC, dI) vwCl (ac_ty cA) := ⟨F.1, F.2.1, fun w h => F.2.2.1 w (List.mem_cons_of_mem _ h), F.2.2.2.1, F.2.2.2.2⟩
  have hl : lv_has ls 3 [(0, .long p0), (2, .int p1)] := hl
  refine lv_lload_n F.1 F.2.1 dX10_withLetter_0 rfl (lv_at hl 0 rfl) ?_
  refine lv_ldc2 (v := (32 : Int64)) F.1 F.2.1 F.2.2.2.1 (F.2.2.1 _ q92) dX10_withLetter_1 ?_
  refine lv_lmul F.1 F.2.1 dX10_withLetter_4 ?_
  refine lv_topl (fun w1 _ => ?_)
  refine lv_iload_n F.1 F.2.1 dX10_withLetter_5 rfl (lv_at hl 1 rfl) ?_
  refine a_bp F (97 : Int32) dX10_withLetter_6 (by decide) ?_
  refine a_isub F dX10_withLetter_8 rfl ic_97 (by omega) (fun v2 hv2 => ?_)
  refine a_ic F (1 : Int32) dX10_withLetter_9 (by decide) ?_
  refine a_iadd F dX10_withLetter_10 rfl ic_1 (by omega) (fun v3 hv3 => ?_)
  refine lv_i2l F.1 F.2.1 dX10_withLetter_11 rfl ?_
  refine lv_topl (fun w4 _ => ?_)
  refine lv_ladd F.1 F.2.1 dX10_withLetter_12 ?_
  refine lv_topl (fun w5 _ => ?_)
  exact a_retl F hr hlocks hP hD hS dX10_withLetter_13 rfl

set_option maxHeartbeats 600000 in
set_option maxRecDepth 100000 in
theorem c_X11_step_0 (l : Launch) (dC : Nat → ClassId) (dI : Nat → Nat → Nat) (ad : Nat → Nat) (cA : Nat → ClassId) (nF : Nat) (u0 : ac_U) (p0 : Int32) (hR : ac_R rg u0) : ac_Mi l yX11_step (.code yX11_step cX11_step 2 (some .int) :: TB) 2 (dC, dI) vwCl (ac_ty cA) ad cA (TT nF) [.ref (ad 0), .int p0] u0 (fun (r : Int32) (u : ac_U) => u = u0) := by
  refine ac_Mi.of (cc := cX11_step) (maxL := 2) (ret := (some .int)) (by decide) rfl (Nat.le_of_ble_eq_true rfl) ?_
  intro p e s m below meth c A ls F hml hr hlocks hA hP hD hS hl
  have F : ac_X p s m [.ref (ad 0), .int p0].toArray c cX11_step RX11 TB (dC, dI) vwCl (ac_ty cA) := ⟨F.1, F.2.1, fun w h => F.2.2.1 w (List.mem_cons_of_mem _ h), F.2.2.2.1, F.2.2.2.2⟩
  have hl : lv_has ls 2 [(0, .ref (ad 0)), (1, .int p0)] := hl
  refine lv_aload_n F.1 F.2.1 dX11_step_0 rfl (lv_at hl 0 rfl) ?_
  refine a_getr F inX11 hP 0 6 tc_0 rfl rfl (by decide) q509 (fun _ h9 => h9) dX11_step_1 ?_
  refine lv_iload_n F.1 F.2.1 dX11_step_4 rfl (lv_at hl 1 rfl) ?_
  refine a_Vi F hml hl.1 hA hP hD hS (As := [.int p0]) (c_X7_stepIn_32 l dC dI ad cA nF _ p0 hR) (cs_RX11_257 (d := 1) F.2.2.1 (by decide)) tc_32 rfl rfl rfl rfl (Nat.le_of_ble_eq_true rfl) dX11_step_5 ⟨Nat.le_refl 0, Nat.le_refl 0⟩ (fun r1 uN1 H locs hq hP hD hS => ?_)
  have hu1 := hq
  rw [hu1] at hP hD
  exact a_reti F hr hlocks hP hD hS dX11_step_8 rfl
set_option maxHeartbeats 600000 in
set_option maxRecDepth 100000 in
theorem c_X11_undo_0 (l : Launch) (dC : Nat → ClassId) (dI : Nat → Nat → Nat) (ad : Nat → Nat) (cA : Nat → ClassId) (nF : Nat) (u0 : ac_U)  (hR : ac_R rg u0) : ac_Mi l yX11_undo (.code yX11_undo cX11_undo 1 (some .int) :: TB) 2 (dC, dI) vwCl (ac_ty cA) ad cA (TT nF) [.ref (ad 0)] u0 (fun (r : Int32) (u : ac_U) => ac_R rg u ∧ ac_Fr [(24, some 5), (24, some 6), (25, none)] u0 u ∧ ((-1 : Int) ≤ r.toInt ∧ r.toInt ≤ 7)) := by
  refine ac_Mi.of (cc := cX11_undo) (maxL := 1) (ret := (some .int)) (by decide) rfl (Nat.le_of_ble_eq_true rfl) ?_
  intro p e s m below meth c A ls F hml hr hlocks hA hP hD hS hl
  have F : ac_X p s m [.ref (ad 0)].toArray c cX11_undo RX11 TB (dC, dI) vwCl (ac_ty cA) := ⟨F.1, F.2.1, fun w h => F.2.2.1 w (List.mem_cons_of_mem _ h), F.2.2.2.1, F.2.2.2.2⟩
  have hl : lv_has ls 1 [(0, .ref (ad 0))] := hl
  have hF : ac_Fr [(24, some 5), (24, some 6), (25, none)] u0 u0 := ac_Fr.rf
  refine lv_aload_n F.1 F.2.1 dX11_undo_0 rfl (lv_at hl 0 rfl) ?_
  refine a_getr F inX11 hP 0 4 tc_0 rfl rfl (by decide) q507 (fun _ h9 => h9) dX11_undo_1 ?_
  refine a_Vi F hml hl.1 hA hP hD hS (As := []) (c_X6_forget_24 l dC dI ad cA nF _  hR) (cs_RX11_230 (d := 1) F.2.2.1 (by decide)) tc_24 rfl rfl rfl rfl (Nat.le_of_ble_eq_true rfl) dX11_undo_4 ⟨Nat.le_refl 0, Nat.le_refl 0⟩ (fun r1 u1 H locs hq hP hD hS => ?_)
  obtain ⟨hR, hF1, gr1⟩ := hq
  have hF := hF.tr hF1 (by decide)
  exact a_reti F hr hlocks hP hD hS dX11_undo_7 ⟨hR, hF, (by omega : (-1 : Int) ≤ r1.toInt ∧ r1.toInt ≤ 7)⟩
set_option maxHeartbeats 600000 in
set_option maxRecDepth 100000 in
theorem c_X11_way_0 (l : Launch) (dC : Nat → ClassId) (dI : Nat → Nat → Nat) (ad : Nat → Nat) (cA : Nat → ClassId) (nF : Nat) (u0 : ac_U) (p0 : Int32) (p1 : Int32) (hR : ac_R rg u0) : ac_Mi l yX11_way (.code yX11_way cX11_way 3 (some .int) :: TB) 3 (dC, dI) vwCl (ac_ty cA) ad cA (TT nF) [.ref (ad 0), .int p0, .int p1] u0 (fun (r : Int32) (u : ac_U) => u = u0 ∧ ((-1 : Int) ≤ r.toInt ∧ r.toInt ≤ 7)) := by
  refine ac_Mi.of (cc := cX11_way) (maxL := 3) (ret := (some .int)) (by decide) rfl (Nat.le_of_ble_eq_true rfl) ?_
  intro p e s m below meth c A ls F hml hr hlocks hA hP hD hS hl
  have F : ac_X p s m [.ref (ad 0), .int p0, .int p1].toArray c cX11_way RX11 TB (dC, dI) vwCl (ac_ty cA) := ⟨F.1, F.2.1, fun w h => F.2.2.1 w (List.mem_cons_of_mem _ h), F.2.2.2.1, F.2.2.2.2⟩
  have hl : lv_has ls 3 [(0, .ref (ad 0)), (1, .int p0), (2, .int p1)] := hl
  have L22 : ∀ (H : Heap) (locs : List Loc) (ls : Array Slot), va_P (dC, dI) vwCl (ac_w ad cA (TT nF) u0) H → va_D A (ac_w ad cA (TT nF) u0) → va_S A s.heap H locs → lv_has ls 3 [] → W p l e (ac_rm 3) s m [.ref (ad 0), .int p0, .int p1].toArray below meth c H locs 0 0 (MQ below (va_Qi (fun (r : Int32) (u : ac_U) => u = u0 ∧ ((-1 : Int) ≤ r.toInt ∧ r.toInt ≤ 7)) (ac_B (dC, dI) vwCl (ac_ty cA) ad cA (TT nF) A) A) [.ref (ad 0), .int p0, .int p1].toArray s 0 0 A) (F0 m 22 ls []) := by
    intro H locs ls hP hD hS hl
    refine a_ic F (-1 : Int32) dX11_way_22 (by decide) ?_
    exact a_reti F hr hlocks hP hD hS dX11_way_23 ⟨rfl, (by decide)⟩
  refine lv_aload_n F.1 F.2.1 dX11_way_0 rfl (lv_at hl 0 rfl) ?_
  refine a_getr F inX11 hP 0 1 tc_0 rfl rfl (by decide) q504 (fun _ h9 => h9) dX11_way_1 ?_
  refine lv_iload_n F.1 F.2.1 dX11_way_4 rfl (lv_at hl 1 rfl) ?_
  refine a_Vi F hml hl.1 hA hP hD hS (As := [.int p0]) (c_X2_isPlace_4 l dC dI ad cA nF _ p0 hR) (cs_RX11_165 (d := 1) F.2.2.1 (by decide)) tc_4 rfl rfl rfl rfl (Nat.le_of_ble_eq_true rfl) dX11_way_5 ⟨Nat.le_refl 0, Nat.le_refl 0⟩ (fun r1 uN1 H locs hq hP hD hS => ?_)
  obtain ⟨hu1, gr1, xr1⟩ := hq
  rw [hu1] at hP hD
  have g2 : (0 : Int) ≤ (u0.1 4 1).toInt ∧ (u0.1 4 1).toInt ≤ 8 := hR 4 1
  have xr1 : r1.toInt ≠ 0 → 0 ≤ p0.toInt ∧ p0.toInt < (u0.1 4 1).toInt ∧ p0.toInt ≤ 7 := xr1
  refine z_eq F 22 dX11_way_8 (by decide) rfl (fun c3 => ?_) (fun c3 => ?_)
  · exact L22 _ _ _  hP hD hS (lv_sub hl [] rfl)
  · refine lv_aload_n F.1 F.2.1 dX11_way_11 rfl (lv_at hl 0 rfl) ?_
    refine a_getr F inX11 hP 0 1 tc_0 rfl rfl (by decide) q504 (fun _ h9 => h9) dX11_way_12 ?_
    refine lv_iload_n F.1 F.2.1 dX11_way_15 rfl (lv_at hl 2 rfl) ?_
    refine a_Vi F hml hl.1 hA hP hD hS (As := [.int p1]) (c_X2_isPlace_4 l dC dI ad cA nF _ p1 hR) (cs_RX11_165 (d := 1) F.2.2.1 (by decide)) tc_4 rfl rfl rfl rfl (Nat.le_of_ble_eq_true rfl) dX11_way_16 ⟨Nat.le_refl 0, Nat.le_refl 0⟩ (fun r4 uN4 H locs hq hP hD hS => ?_)
    obtain ⟨hu4, gr4, xr4⟩ := hq
    rw [hu4] at hP hD
    have xr4 : r4.toInt ≠ 0 → 0 ≤ p1.toInt ∧ p1.toInt < (u0.1 4 1).toInt ∧ p1.toInt ≤ 7 := xr4
    refine z_ne F 24 dX11_way_19 (by decide) rfl (fun c5 => ?_) (fun c5 => ?_)
    · refine lv_aload_n F.1 F.2.1 dX11_way_24 rfl (lv_at hl 0 rfl) ?_
      refine a_getr F inX11 hP 0 1 tc_0 rfl rfl (by decide) q504 (fun _ h9 => h9) dX11_way_25 ?_
      refine lv_iload_n F.1 F.2.1 dX11_way_28 rfl (lv_at hl 1 rfl) ?_
      refine lv_iload_n F.1 F.2.1 dX11_way_29 rfl (lv_at hl 2 rfl) ?_
      refine a_Vi F hml hl.1 hA hP hD hS (As := [.int p0, .int p1]) (c_X2_stepsBetween_4 l dC dI ad cA nF _ p0 p1 hR (by omega) (by omega)) (cs_RX11_168 (d := 2) F.2.2.1 (by decide)) tc_4 rfl rfl rfl rfl (Nat.le_of_ble_eq_true rfl) dX11_way_30 ⟨Nat.le_refl 0, Nat.le_refl 0⟩ (fun r6 uN6 H locs hq hP hD hS => ?_)
      obtain ⟨hu6, gr6⟩ := hq
      rw [hu6] at hP hD
      exact a_reti F hr hlocks hP hD hS dX11_way_33 ⟨rfl, (by omega : (-1 : Int) ≤ r6.toInt ∧ r6.toInt ≤ 7)⟩
    · exact L22 _ _ _  hP hD hS (lv_sub hl [] rfl)
set_option maxHeartbeats 600000 in
set_option maxRecDepth 100000 in
theorem c_X11_windows_0 (l : Launch) (dC : Nat → ClassId) (dI : Nat → Nat → Nat) (ad : Nat → Nat) (cA : Nat → ClassId) (nF : Nat) (u0 : ac_U) (p0 : Int32) (p1 : Int32) (p2 : Int32) (hR : ac_R rg u0) : ac_Mi l yX11_windows (.code yX11_windows cX11_windows 4 (some .int) :: TB) 4 (dC, dI) vwCl (ac_ty cA) ad cA (TT nF) [.ref (ad 0), .int p0, .int p1, .int p2] u0 (fun (r : Int32) (u : ac_U) => ac_R rg u ∧ ac_Fr [(31, none)] u0 u) := by
  refine ac_Mi.of (cc := cX11_windows) (maxL := 4) (ret := (some .int)) (by decide) rfl (Nat.le_of_ble_eq_true rfl) ?_
  intro p e s m below meth c A ls F hml hr hlocks hA hP hD hS hl
  have F : ac_X p s m [.ref (ad 0), .int p0, .int p1, .int p2].toArray c cX11_windows RX11 TB (dC, dI) vwCl (ac_ty cA) := ⟨F.1, F.2.1, fun w h => F.2.2.1 w (List.mem_cons_of_mem _ h), F.2.2.2.1, F.2.2.2.2⟩
  have hl : lv_has ls 4 [(0, .ref (ad 0)), (1, .int p0), (2, .int p1), (3, .int p2)] := hl
  have hF : ac_Fr [(31, none)] u0 u0 := ac_Fr.rf
  have L33 : ∀ (u : ac_U) (H : Heap) (locs : List Loc) (ls : Array Slot), ac_R rg u → ac_Fr [(31, none)] u0 u → va_P (dC, dI) vwCl (ac_w ad cA (TT nF) u) H → va_D A (ac_w ad cA (TT nF) u) → va_S A s.heap H locs → lv_has ls 4 [] → W p l e (ac_rm 4) s m [.ref (ad 0), .int p0, .int p1, .int p2].toArray below meth c H locs 0 0 (MQ below (va_Qi (fun (r : Int32) (u : ac_U) => ac_R rg u ∧ ac_Fr [(31, none)] u0 u) (ac_B (dC, dI) vwCl (ac_ty cA) ad cA (TT nF) A) A) [.ref (ad 0), .int p0, .int p1, .int p2].toArray s 0 0 A) (F0 m 33 ls []) := by
    intro u H locs ls hR hF hP hD hS hl
    refine a_ic F (-1 : Int32) dX11_windows_33 (by decide) ?_
    exact a_reti F hr hlocks hP hD hS dX11_windows_34 ⟨hR, hF⟩
  refine lv_aload_n F.1 F.2.1 dX11_windows_0 rfl (lv_at hl 0 rfl) ?_
  refine a_getr F inX11 hP 0 1 tc_0 rfl rfl (by decide) q504 (fun _ h9 => h9) dX11_windows_1 ?_
  refine lv_iload_n F.1 F.2.1 dX11_windows_4 rfl (lv_at hl 1 rfl) ?_
  refine a_Vi F hml hl.1 hA hP hD hS (As := [.int p0]) (c_X2_isPerson_4 l dC dI ad cA nF _ p0 hR) (cs_RX11_159 (d := 1) F.2.2.1 (by decide)) tc_4 rfl rfl rfl rfl (Nat.le_of_ble_eq_true rfl) dX11_windows_5 ⟨Nat.le_refl 0, Nat.le_refl 0⟩ (fun r1 uN1 H locs hq hP hD hS => ?_)
  obtain ⟨hu1, gr1, xr1⟩ := hq
  rw [hu1] at hP hD
  have g2 : (0 : Int) ≤ (u0.1 4 4).toInt ∧ (u0.1 4 4).toInt ≤ 4 := hR 4 4
  have xr1 : r1.toInt ≠ 0 → 0 ≤ p0.toInt ∧ p0.toInt < (u0.1 4 4).toInt ∧ p0.toInt ≤ 3 := xr1
  refine z_eq F 33 dX11_windows_8 (by decide) rfl (fun c3 => ?_) (fun c3 => ?_)
  · exact L33 _ _ _ _ hR hF hP hD hS (lv_sub hl [] rfl)
  · refine lv_aload_n F.1 F.2.1 dX11_windows_11 rfl (lv_at hl 0 rfl) ?_
    refine a_getr F inX11 hP 0 1 tc_0 rfl rfl (by decide) q504 (fun _ h9 => h9) dX11_windows_12 ?_
    refine lv_iload_n F.1 F.2.1 dX11_windows_15 rfl (lv_at hl 2 rfl) ?_
    refine a_Vi F hml hl.1 hA hP hD hS (As := [.int p1]) (c_X2_isDeed_4 l dC dI ad cA nF _ p1 hR) (cs_RX11_206 (d := 1) F.2.2.1 (by decide)) tc_4 rfl rfl rfl rfl (Nat.le_of_ble_eq_true rfl) dX11_windows_16 ⟨Nat.le_refl 0, Nat.le_refl 0⟩ (fun r4 uN4 H locs hq hP hD hS => ?_)
    obtain ⟨hu4, gr4, xr4⟩ := hq
    rw [hu4] at hP hD
    have g5 : (0 : Int) ≤ (u0.1 4 5).toInt ∧ (u0.1 4 5).toInt ≤ 6 := hR 4 5
    have xr4 : r4.toInt ≠ 0 → 0 ≤ p1.toInt ∧ p1.toInt < (u0.1 4 5).toInt ∧ p1.toInt ≤ 5 := xr4
    refine z_eq F 33 dX11_windows_19 (by decide) rfl (fun c6 => ?_) (fun c6 => ?_)
    · exact L33 _ _ _ _ hR hF hP hD hS (lv_sub hl [] rfl)
    · refine lv_aload_n F.1 F.2.1 dX11_windows_22 rfl (lv_at hl 0 rfl) ?_
      refine a_getr F inX11 hP 0 1 tc_0 rfl rfl (by decide) q504 (fun _ h9 => h9) dX11_windows_23 ?_
      refine lv_iload_n F.1 F.2.1 dX11_windows_26 rfl (lv_at hl 3 rfl) ?_
      refine a_Vi F hml hl.1 hA hP hD hS (As := [.int p2]) (c_X2_isPlace_4 l dC dI ad cA nF _ p2 hR) (cs_RX11_165 (d := 1) F.2.2.1 (by decide)) tc_4 rfl rfl rfl rfl (Nat.le_of_ble_eq_true rfl) dX11_windows_27 ⟨Nat.le_refl 0, Nat.le_refl 0⟩ (fun r7 uN7 H locs hq hP hD hS => ?_)
      obtain ⟨hu7, gr7, xr7⟩ := hq
      rw [hu7] at hP hD
      have g8 : (0 : Int) ≤ (u0.1 4 1).toInt ∧ (u0.1 4 1).toInt ≤ 8 := hR 4 1
      have xr7 : r7.toInt ≠ 0 → 0 ≤ p2.toInt ∧ p2.toInt < (u0.1 4 1).toInt ∧ p2.toInt ≤ 7 := xr7
      refine z_ne F 35 dX11_windows_30 (by decide) rfl (fun c9 => ?_) (fun c9 => ?_)
      · refine lv_aload_n F.1 F.2.1 dX11_windows_35 rfl (lv_at hl 0 rfl) ?_
        refine a_getr F inX11 hP 0 5 tc_0 rfl rfl (by decide) q508 (fun _ h9 => h9) dX11_windows_36 ?_
        refine lv_iload_n F.1 F.2.1 dX11_windows_39 rfl (lv_at hl 1 rfl) ?_
        refine lv_iload_n F.1 F.2.1 dX11_windows_40 rfl (lv_at hl 2 rfl) ?_
        refine lv_iload_n F.1 F.2.1 dX11_windows_41 rfl (lv_at hl 3 rfl) ?_
        refine a_Vi F hml hl.1 hA hP hD hS (As := [.int p0, .int p1, .int p2]) (c_X5_fittingWindows_29 l dC dI ad cA nF _ p0 p1 p2 hR (by omega) (by omega) (by omega)) (cs_RX11_281 (d := 3) F.2.2.1 (by decide)) tc_29 rfl rfl rfl rfl (Nat.le_of_ble_eq_true rfl) dX11_windows_42 ⟨Nat.le_refl 0, Nat.le_refl 0⟩ (fun r10 u10 H locs hq hP hD hS => ?_)
        obtain ⟨hR, hF10⟩ := hq
        have hF := hF.tr hF10 (by decide)
        exact a_reti F hr hlocks hP hD hS dX11_windows_45 ⟨hR, hF⟩
      · exact L33 _ _ _ _ hR hF hP hD hS (lv_sub hl [] rfl)
set_option maxHeartbeats 600000 in
set_option maxRecDepth 100000 in
theorem c_X12_isIn (l : Launch) (dC : Nat → ClassId) (dI : Nat → Nat → Nat) (ad : Nat → Nat) (cA : Nat → ClassId) (nF : Nat) (u0 : ac_U) (p0 : Int32) (p1 : Int32) (p2 : Int32) (hR : ac_R rg u0) (hp2 : p2.toInt ≤ 1000) : ac_Mi l yX12_isIn (.code yX12_isIn cX12_isIn 3 (some .boolean) :: TB) 1 (dC, dI) vwCl (ac_ty cA) ad cA (TT nF) [.int p0, .int p1, .int p2] u0 (fun (r : Int32) (u : ac_U) => u = u0 ∧ ((0 : Int) ≤ r.toInt ∧ r.toInt ≤ 1) ∧ (r.toInt ≠ 0 → p1.toInt ≤ p0.toInt ∧ p0.toInt ≤ p2.toInt)) := by
  refine ac_Mi.of (cc := cX12_isIn) (maxL := 3) (ret := (some .boolean)) (by decide) rfl (Nat.le_of_ble_eq_true rfl) ?_
  intro p e s m below meth c A ls F hml hr hlocks hA hP hD hS hl
  have F : ac_X p s m [.int p0, .int p1, .int p2].toArray c cX12_isIn RX12 TB (dC, dI) vwCl (ac_ty cA) := ⟨F.1, F.2.1, fun w h => F.2.2.1 w (List.mem_cons_of_mem _ h), F.2.2.2.1, F.2.2.2.2⟩
  have hl : lv_has ls 3 [(0, .int p0), (1, .int p1), (2, .int p2)] := hl
  have L14 : ∀ (H : Heap) (locs : List Loc) (ls : Array Slot), va_P (dC, dI) vwCl (ac_w ad cA (TT nF) u0) H → va_D A (ac_w ad cA (TT nF) u0) → va_S A s.heap H locs → lv_has ls 3 [] → W p l e (ac_rm 1) s m [.int p0, .int p1, .int p2].toArray below meth c H locs 0 0 (MQ below (va_Qi (fun (r : Int32) (u : ac_U) => u = u0 ∧ ((0 : Int) ≤ r.toInt ∧ r.toInt ≤ 1) ∧ (r.toInt ≠ 0 → p1.toInt ≤ p0.toInt ∧ p0.toInt ≤ p2.toInt)) (ac_B (dC, dI) vwCl (ac_ty cA) ad cA (TT nF) A) A) [.int p0, .int p1, .int p2].toArray s 0 0 A) (F0 m 14 ls []) := by
    intro H locs ls hP hD hS hl
    refine a_ic F (0 : Int32) dX12_isIn_14 (by decide) ?_
    exact a_retz F hr hlocks hP hD hS dX12_isIn_15 (Or.inl rfl) ⟨rfl, (by decide), (by first | exact (by omega : (0 : Int) ≠ 0 → p1.toInt ≤ p0.toInt ∧ p0.toInt ≤ p2.toInt) | (rw [ic_0]; exact (by omega : (0 : Int) ≠ 0 → p1.toInt ≤ p0.toInt ∧ p0.toInt ≤ p2.toInt)))⟩
  refine lv_iload_n F.1 F.2.1 dX12_isIn_0 rfl (lv_at hl 0 rfl) ?_
  refine lv_iload_n F.1 F.2.1 dX12_isIn_1 rfl (lv_at hl 1 rfl) ?_
  refine b_lt F 14 dX12_isIn_2 (by decide) rfl rfl (fun c1 => ?_) (fun c1 => ?_)
  · exact L14 _ _ _  hP hD hS (lv_sub hl [] rfl)
  · refine lv_iload_n F.1 F.2.1 dX12_isIn_5 rfl (lv_at hl 0 rfl) ?_
    refine lv_iload_n F.1 F.2.1 dX12_isIn_6 rfl (lv_at hl 2 rfl) ?_
    refine b_gt F 14 dX12_isIn_7 (by decide) rfl rfl (fun c2 => ?_) (fun c2 => ?_)
    · exact L14 _ _ _  hP hD hS (lv_sub hl [] rfl)
    · refine a_ic F (1 : Int32) dX12_isIn_10 (by decide) ?_
      refine lv_goto (tgt := 15) F.1 F.2.1 dX12_isIn_11 (by decide) ?_
      exact a_retz F hr hlocks hP hD hS dX12_isIn_15 (Or.inr rfl) ⟨rfl, (by decide), (by first | exact (by omega : (1 : Int) ≠ 0 → p1.toInt ≤ p0.toInt ∧ p0.toInt ≤ p2.toInt) | (rw [ic_1]; exact (by omega : (1 : Int) ≠ 0 → p1.toInt ≤ p0.toInt ∧ p0.toInt ≤ p2.toInt)))⟩
set_option maxHeartbeats 600000 in
set_option maxRecDepth 100000 in
theorem c_X12_isDeed_85 (l : Launch) (dC : Nat → ClassId) (dI : Nat → Nat → Nat) (ad : Nat → Nat) (cA : Nat → ClassId) (nF : Nat) (u0 : ac_U) (p0 : Int32) (hR : ac_R rg u0) : ac_Mi l yX12_isDeed (.code yX12_isDeed cX12_isDeed 2 (some .boolean) :: TB) 2 (dC, dI) vwCl (ac_ty cA) ad cA (TT nF) [.ref (ad 85), .int p0] u0 (fun (r : Int32) (u : ac_U) => u = u0 ∧ ((0 : Int) ≤ r.toInt ∧ r.toInt ≤ 1) ∧ (r.toInt ≠ 0 → 0 ≤ p0.toInt ∧ p0.toInt ≤ 5)) := by
  refine ac_Mi.of (cc := cX12_isDeed) (maxL := 2) (ret := (some .boolean)) (by decide) rfl (Nat.le_of_ble_eq_true rfl) ?_
  intro p e s m below meth c A ls F hml hr hlocks hA hP hD hS hl
  have F : ac_X p s m [.ref (ad 85), .int p0].toArray c cX12_isDeed RX12 TB (dC, dI) vwCl (ac_ty cA) := ⟨F.1, F.2.1, fun w h => F.2.2.1 w (List.mem_cons_of_mem _ h), F.2.2.2.1, F.2.2.2.2⟩
  have hl : lv_has ls 2 [(0, .ref (ad 85)), (1, .int p0)] := hl
  refine lv_iload_n F.1 F.2.1 dX12_isDeed_0 rfl (lv_at hl 1 rfl) ?_
  refine a_ic F (0 : Int32) dX12_isDeed_1 (by decide) ?_
  refine lv_aload_n F.1 F.2.1 dX12_isDeed_2 rfl (lv_at hl 0 rfl) ?_
  refine a_getr F inX12 hP 85 6 tc_85 rfl rfl (by decide) q1477 (fun _ h9 => h9) dX12_isDeed_3 ?_
  refine a_ic F (5 : Int32) dX12_isDeed_6 (by decide) ?_
  have g1 : (0 : Int) ≤ (u0.1 87 5).toInt ∧ (u0.1 87 5).toInt ≤ 6 := hR 87 5
  refine a_ialdK F hP 87 5 tc_87 rfl rfl (i_in ic_5 (by omega)) (v := (u0.1 87 5)) rfl dX12_isDeed_7 ?_
  refine a_ic F (1 : Int32) dX12_isDeed_8 (by decide) ?_
  refine a_isub F dX12_isDeed_9 rfl ic_1 (by omega) (fun v2 hv2 => ?_)
  refine a_Si F hml hl.1 hA hP hD hS (As := [.int p0, .int (0 : Int32), .int v2]) (c_X12_isIn l dC dI ad cA nF _ p0 (0 : Int32) v2 hR (by omega)) (cs_RX12_187 (d := 1) F.2.2.1 (by decide)) rfl rfl (Nat.le_of_ble_eq_true rfl) dX12_isDeed_10 ⟨Nat.le_refl 0, Nat.le_refl 0⟩ (fun r3 uN3 H locs hq hP hD hS => ?_)
  obtain ⟨hu3, gr3, xr3⟩ := hq
  rw [hu3] at hP hD
  have xr3 : r3.toInt ≠ 0 → (0 : Int) ≤ p0.toInt ∧ p0.toInt ≤ v2.toInt := xr3
  exact a_retz F hr hlocks hP hD hS dX12_isDeed_13 (i_01 (by omega)) ⟨rfl, (by omega : (0 : Int) ≤ r3.toInt ∧ r3.toInt ≤ 1), (by omega : r3.toInt ≠ 0 → 0 ≤ p0.toInt ∧ p0.toInt ≤ 5)⟩
set_option maxHeartbeats 600000 in
set_option maxRecDepth 100000 in
theorem c_X12_isPerson_85 (l : Launch) (dC : Nat → ClassId) (dI : Nat → Nat → Nat) (ad : Nat → Nat) (cA : Nat → ClassId) (nF : Nat) (u0 : ac_U) (p0 : Int32) (hR : ac_R rg u0) : ac_Mi l yX12_isPerson (.code yX12_isPerson cX12_isPerson 2 (some .boolean) :: TB) 2 (dC, dI) vwCl (ac_ty cA) ad cA (TT nF) [.ref (ad 85), .int p0] u0 (fun (r : Int32) (u : ac_U) => u = u0 ∧ ((0 : Int) ≤ r.toInt ∧ r.toInt ≤ 1) ∧ (r.toInt ≠ 0 → 0 ≤ p0.toInt ∧ p0.toInt ≤ 3)) := by
  refine ac_Mi.of (cc := cX12_isPerson) (maxL := 2) (ret := (some .boolean)) (by decide) rfl (Nat.le_of_ble_eq_true rfl) ?_
  intro p e s m below meth c A ls F hml hr hlocks hA hP hD hS hl
  have F : ac_X p s m [.ref (ad 85), .int p0].toArray c cX12_isPerson RX12 TB (dC, dI) vwCl (ac_ty cA) := ⟨F.1, F.2.1, fun w h => F.2.2.1 w (List.mem_cons_of_mem _ h), F.2.2.2.1, F.2.2.2.2⟩
  have hl : lv_has ls 2 [(0, .ref (ad 85)), (1, .int p0)] := hl
  refine lv_iload_n F.1 F.2.1 dX12_isPerson_0 rfl (lv_at hl 1 rfl) ?_
  refine a_ic F (0 : Int32) dX12_isPerson_1 (by decide) ?_
  refine lv_aload_n F.1 F.2.1 dX12_isPerson_2 rfl (lv_at hl 0 rfl) ?_
  refine a_getr F inX12 hP 85 6 tc_85 rfl rfl (by decide) q1477 (fun _ h9 => h9) dX12_isPerson_3 ?_
  refine a_ic F (4 : Int32) dX12_isPerson_6 (by decide) ?_
  have g1 : (0 : Int) ≤ (u0.1 87 4).toInt ∧ (u0.1 87 4).toInt ≤ 4 := hR 87 4
  refine a_ialdK F hP 87 4 tc_87 rfl rfl (i_in ic_4 (by omega)) (v := (u0.1 87 4)) rfl dX12_isPerson_7 ?_
  refine a_ic F (1 : Int32) dX12_isPerson_8 (by decide) ?_
  refine a_isub F dX12_isPerson_9 rfl ic_1 (by omega) (fun v2 hv2 => ?_)
  refine a_Si F hml hl.1 hA hP hD hS (As := [.int p0, .int (0 : Int32), .int v2]) (c_X12_isIn l dC dI ad cA nF _ p0 (0 : Int32) v2 hR (by omega)) (cs_RX12_187 (d := 1) F.2.2.1 (by decide)) rfl rfl (Nat.le_of_ble_eq_true rfl) dX12_isPerson_10 ⟨Nat.le_refl 0, Nat.le_refl 0⟩ (fun r3 uN3 H locs hq hP hD hS => ?_)
  obtain ⟨hu3, gr3, xr3⟩ := hq
  rw [hu3] at hP hD
  have xr3 : r3.toInt ≠ 0 → (0 : Int) ≤ p0.toInt ∧ p0.toInt ≤ v2.toInt := xr3
  exact a_retz F hr hlocks hP hD hS dX12_isPerson_13 (i_01 (by omega)) ⟨rfl, (by omega : (0 : Int) ≤ r3.toInt ∧ r3.toInt ≤ 1), (by omega : r3.toInt ≠ 0 → 0 ≤ p0.toInt ∧ p0.toInt ≤ 3)⟩
set_option maxHeartbeats 600000 in
set_option maxRecDepth 100000 in
theorem c_X12_isOver_85 (l : Launch) (dC : Nat → ClassId) (dI : Nat → Nat → Nat) (ad : Nat → Nat) (cA : Nat → ClassId) (nF : Nat) (u0 : ac_U)  (hR : ac_R rg u0) : ac_Mi l yX12_isOver (.code yX12_isOver cX12_isOver 1 (some .boolean) :: TB) 1 (dC, dI) vwCl (ac_ty cA) ad cA (TT nF) [.ref (ad 85)] u0 (fun (r : Int32) (u : ac_U) => u = u0 ∧ ((0 : Int) ≤ r.toInt ∧ r.toInt ≤ 1) ∧ (r.toInt = 0 → (u0.1 87 106).toInt ≠ 20 * (u0.1 87 0).toInt)) := by
  refine ac_Mi.of (cc := cX12_isOver) (maxL := 1) (ret := (some .boolean)) (by decide) rfl (Nat.le_of_ble_eq_true rfl) ?_
  intro p e s m below meth c A ls F hml hr hlocks hA hP hD hS hl
  have F : ac_X p s m [.ref (ad 85)].toArray c cX12_isOver RX12 TB (dC, dI) vwCl (ac_ty cA) := ⟨F.1, F.2.1, fun w h => F.2.2.1 w (List.mem_cons_of_mem _ h), F.2.2.2.1, F.2.2.2.2⟩
  have hl : lv_has ls 1 [(0, .ref (ad 85))] := hl
  refine lv_aload_n F.1 F.2.1 dX12_isOver_0 rfl (lv_at hl 0 rfl) ?_
  refine a_getr F inX12 hP 85 6 tc_85 rfl rfl (by decide) q1477 (fun _ h9 => h9) dX12_isOver_1 ?_
  refine a_bp F (106 : Int32) dX12_isOver_4 (by decide) ?_
  have g1 : (0 : Int) ≤ (u0.1 87 106).toInt ∧ (u0.1 87 106).toInt ≤ 480 := hR 87 106
  refine a_ialdK F hP 87 106 tc_87 rfl rfl (i_in ic_106 (by omega)) (v := (u0.1 87 106)) rfl dX12_isOver_6 ?_
  refine a_bp F (20 : Int32) dX12_isOver_7 (by decide) ?_
  refine lv_aload_n F.1 F.2.1 dX12_isOver_9 rfl (lv_at hl 0 rfl) ?_
  refine a_getr F inX12 hP 85 6 tc_85 rfl rfl (by decide) q1477 (fun _ h9 => h9) dX12_isOver_10 ?_
  refine a_ic F (0 : Int32) dX12_isOver_13 (by decide) ?_
  have g2 : (4 : Int) ≤ (u0.1 87 0).toInt ∧ (u0.1 87 0).toInt ≤ 24 := hR 87 0
  refine a_ialdK F hP 87 0 tc_87 rfl rfl (i_in ic_0 (by omega)) (v := (u0.1 87 0)) rfl dX12_isOver_14 ?_
  refine a_imul F dX12_isOver_15 ic_20 rfl (by omega) (fun v3 hv3 => ?_)
  refine b_ne F 23 dX12_isOver_16 (by decide) rfl rfl (fun c4 => ?_) (fun c4 => ?_)
  · refine a_ic F (0 : Int32) dX12_isOver_23 (by decide) ?_
    exact a_retz F hr hlocks hP hD hS dX12_isOver_24 (Or.inl rfl) ⟨rfl, (by decide), (by first | exact (by omega : (0 : Int) = 0 → (u0.1 87 106).toInt ≠ 20 * (u0.1 87 0).toInt) | (rw [ic_0]; exact (by omega : (0 : Int) = 0 → (u0.1 87 106).toInt ≠ 20 * (u0.1 87 0).toInt)))⟩
  · refine a_ic F (1 : Int32) dX12_isOver_19 (by decide) ?_
    refine lv_goto (tgt := 24) F.1 F.2.1 dX12_isOver_20 (by decide) ?_
    exact a_retz F hr hlocks hP hD hS dX12_isOver_24 (Or.inr rfl) ⟨rfl, (by decide), (by first | exact (by omega : (1 : Int) = 0 → (u0.1 87 106).toInt ≠ 20 * (u0.1 87 0).toInt) | (rw [ic_1]; exact (by omega : (1 : Int) = 0 → (u0.1 87 106).toInt ≠ 20 * (u0.1 87 0).toInt)))⟩
set_option maxHeartbeats 600000 in
set_option maxRecDepth 100000 in
theorem c_X12_whyAct_85 (l : Launch) (dC : Nat → ClassId) (dI : Nat → Nat → Nat) (ad : Nat → Nat) (cA : Nat → ClassId) (nF : Nat) (u0 : ac_U) (p0 : Int32) (hR : ac_R rg u0) (hp0 : (0 : Int) ≤ p0.toInt ∧ p0.toInt ≤ 3) : ac_Mi l yX12_whyAct (.code yX12_whyAct cX12_whyAct 2 (some .int) :: TB) 2 (dC, dI) vwCl (ac_ty cA) ad cA (TT nF) [.ref (ad 85), .int p0] u0 (fun (r : Int32) (u : ac_U) => u = u0 ∧ ((0 : Int) ≤ r.toInt ∧ r.toInt ≤ 4) ∧ (r.toInt = 0 → (u0.1 87 123).toInt ≤ 79)) := by
  refine ac_Mi.of (cc := cX12_whyAct) (maxL := 2) (ret := (some .int)) (by decide) rfl (Nat.le_of_ble_eq_true rfl) ?_
  intro p e s m below meth c A ls F hml hr hlocks hA hP hD hS hl
  have F : ac_X p s m [.ref (ad 85), .int p0].toArray c cX12_whyAct RX12 TB (dC, dI) vwCl (ac_ty cA) := ⟨F.1, F.2.1, fun w h => F.2.2.1 w (List.mem_cons_of_mem _ h), F.2.2.2.1, F.2.2.2.2⟩
  have hl : lv_has ls 2 [(0, .ref (ad 85)), (1, .int p0)] := hl
  refine lv_aload_n F.1 F.2.1 dX12_whyAct_0 rfl (lv_at hl 0 rfl) ?_
  refine a_getr F inX12 hP 85 6 tc_85 rfl rfl (by decide) q1477 (fun _ h9 => h9) dX12_whyAct_1 ?_
  refine a_bp F (111 : Int32) dX12_whyAct_4 (by decide) ?_
  refine lv_iload_n F.1 F.2.1 dX12_whyAct_6 rfl (lv_at hl 1 rfl) ?_
  refine a_iadd F dX12_whyAct_7 ic_111 rfl (by omega) (fun v1 hv1 => ?_)
  refine a_iald F hP 87 tc_87 rfl (i_in rfl (by omega)) dX12_whyAct_8 (fun v2 ev2 => ?_)
  refine a_ic F (1 : Int32) dX12_whyAct_9 (by decide) ?_
  refine b_ne F 17 dX12_whyAct_10 (by decide) rfl ic_1 (fun c3 => ?_) (fun c3 => ?_)
  · refine lv_aload_n F.1 F.2.1 dX12_whyAct_17 rfl (lv_at hl 0 rfl) ?_
    refine a_Vi F hml hl.1 hA hP hD hS (As := []) (c_X12_isOver_85 l dC dI ad cA nF _  hR) (cs_RX12_263 (d := 1) F.2.2.1 (by decide)) tc_85 rfl rfl rfl rfl (Nat.le_of_ble_eq_true rfl) dX12_whyAct_18 ⟨Nat.le_refl 0, Nat.le_refl 0⟩ (fun r4 uN4 H locs hq hP hD hS => ?_)
    obtain ⟨hu4, gr4, xr4⟩ := hq
    rw [hu4] at hP hD
    have g5 : (0 : Int) ≤ (u0.1 87 106).toInt ∧ (u0.1 87 106).toInt ≤ 480 := hR 87 106
    have g6 : (4 : Int) ≤ (u0.1 87 0).toInt ∧ (u0.1 87 0).toInt ≤ 24 := hR 87 0
    have xr4 : r4.toInt = 0 → (u0.1 87 106).toInt ≠ 20 * (u0.1 87 0).toInt := xr4
    refine z_eq F 28 dX12_whyAct_21 (by decide) rfl (fun c7 => ?_) (fun c7 => ?_)
    · refine lv_aload_n F.1 F.2.1 dX12_whyAct_28 rfl (lv_at hl 0 rfl) ?_
      refine a_getr F inX12 hP 85 6 tc_85 rfl rfl (by decide) q1477 (fun _ h9 => h9) dX12_whyAct_29 ?_
      refine a_bp F (123 : Int32) dX12_whyAct_32 (by decide) ?_
      have g8 : (0 : Int) ≤ (u0.1 87 123).toInt ∧ (u0.1 87 123).toInt ≤ 80 := hR 87 123
      refine a_ialdK F hP 87 123 tc_87 rfl rfl (i_in ic_123 (by omega)) (v := (u0.1 87 123)) rfl dX12_whyAct_34 ?_
      refine a_bp F (80 : Int32) dX12_whyAct_35 (by decide) ?_
      refine b_ne F 44 dX12_whyAct_37 (by decide) rfl ic_80 (fun c9 => ?_) (fun c9 => ?_)
      · refine a_ic F (0 : Int32) dX12_whyAct_44 (by decide) ?_
        exact a_reti F hr hlocks hP hD hS dX12_whyAct_45 ⟨rfl, (by decide), (by first | exact (by omega : (0 : Int) = 0 → (u0.1 87 123).toInt ≤ 79) | (rw [ic_0]; exact (by omega : (0 : Int) = 0 → (u0.1 87 123).toInt ≤ 79)))⟩
      · refine a_ic F (4 : Int32) dX12_whyAct_40 (by decide) ?_
        refine lv_goto (tgt := 45) F.1 F.2.1 dX12_whyAct_41 (by decide) ?_
        exact a_reti F hr hlocks hP hD hS dX12_whyAct_45 ⟨rfl, (by decide), (by first | exact (by omega : (4 : Int) = 0 → (u0.1 87 123).toInt ≤ 79) | (rw [ic_4]; exact (by omega : (4 : Int) = 0 → (u0.1 87 123).toInt ≤ 79)))⟩
    · refine a_ic F (3 : Int32) dX12_whyAct_24 (by decide) ?_
      refine lv_goto (tgt := 45) F.1 F.2.1 dX12_whyAct_25 (by decide) ?_
      exact a_reti F hr hlocks hP hD hS dX12_whyAct_45 ⟨rfl, (by decide), (by first | exact (by omega : (3 : Int) = 0 → (u0.1 87 123).toInt ≤ 79) | (rw [ic_3]; exact (by omega : (3 : Int) = 0 → (u0.1 87 123).toInt ≤ 79)))⟩
  · refine a_ic F (1 : Int32) dX12_whyAct_13 (by decide) ?_
    refine lv_goto (tgt := 45) F.1 F.2.1 dX12_whyAct_14 (by decide) ?_
    exact a_reti F hr hlocks hP hD hS dX12_whyAct_45 ⟨rfl, (by decide), (by first | exact (by omega : (1 : Int) = 0 → (u0.1 87 123).toInt ≤ 79) | (rw [ic_1]; exact (by omega : (1 : Int) = 0 → (u0.1 87 123).toInt ≤ 79)))⟩
set_option maxHeartbeats 600000 in
set_option maxRecDepth 100000 in
theorem c_X12_bitOf (l : Launch) (dC : Nat → ClassId) (dI : Nat → Nat → Nat) (ad : Nat → Nat) (cA : Nat → ClassId) (nF : Nat) (u0 : ac_U) (p0 : Int32) (p1 : Int32) (hR : ac_R rg u0) : ac_Mi l yX12_bitOf (.code yX12_bitOf cX12_bitOf 2 (some .boolean) :: TB) 1 (dC, dI) vwCl (ac_ty cA) ad cA (TT nF) [.int p0, .int p1] u0 (fun (r : Int32) (u : ac_U) => u = u0 ∧ ((0 : Int) ≤ r.toInt ∧ r.toInt ≤ 1)) := by
  refine ac_Mi.of (cc := cX12_bitOf) (maxL := 2) (ret := (some .boolean)) (by decide) rfl (Nat.le_of_ble_eq_true rfl) ?_
  intro p e s m below meth c A ls F hml hr hlocks hA hP hD hS hl
  have F : ac_X p s m [.int p0, .int p1].toArray c cX12_bitOf RX12 TB (dC, dI) vwCl (ac_ty cA) := ⟨F.1, F.2.1, fun w h => F.2.2.1 w (List.mem_cons_of_mem _ h), F.2.2.2.1, F.2.2.2.2⟩
  have hl : lv_has ls 2 [(0, .int p0), (1, .int p1)] := hl
  refine lv_iload_n F.1 F.2.1 dX12_bitOf_0 rfl (lv_at hl 0 rfl) ?_
  refine lv_iload_n F.1 F.2.1 dX12_bitOf_1 rfl (lv_at hl 1 rfl) ?_
  refine a_ishrU F dX12_bitOf_2 (fun v1 => ?_)
  refine a_ic F (1 : Int32) dX12_bitOf_3 (by decide) ?_
  refine a_iandM F dX12_bitOf_4 ic_1 (by omega) (fun v2 hv2 => ?_)
  refine a_ic F (1 : Int32) dX12_bitOf_5 (by decide) ?_
  refine b_ne F 13 dX12_bitOf_6 (by decide) rfl ic_1 (fun c3 => ?_) (fun c3 => ?_)
  · refine a_ic F (0 : Int32) dX12_bitOf_13 (by decide) ?_
    exact a_retz F hr hlocks hP hD hS dX12_bitOf_14 (Or.inl rfl) ⟨rfl, (by decide)⟩
  · refine a_ic F (1 : Int32) dX12_bitOf_9 (by decide) ?_
    refine lv_goto (tgt := 14) F.1 F.2.1 dX12_bitOf_10 (by decide) ?_
    exact a_retz F hr hlocks hP hD hS dX12_bitOf_14 (Or.inr rfl) ⟨rfl, (by decide)⟩
set_option maxHeartbeats 600000 in
set_option maxRecDepth 100000 in
theorem c_X12_lesser (l : Launch) (dC : Nat → ClassId) (dI : Nat → Nat → Nat) (ad : Nat → Nat) (cA : Nat → ClassId) (nF : Nat) (u0 : ac_U) (p0 : Int32) (p1 : Int32) (hR : ac_R rg u0) (hp0 : p0.toInt ≤ 1000) : ac_Mi l yX12_lesser (.code yX12_lesser cX12_lesser 2 (some .int) :: TB) 1 (dC, dI) vwCl (ac_ty cA) ad cA (TT nF) [.int p0, .int p1] u0 (fun (r : Int32) (u : ac_U) => u = u0 ∧ (r.toInt ≤ 1000)) := by
  refine ac_Mi.of (cc := cX12_lesser) (maxL := 2) (ret := (some .int)) (by decide) rfl (Nat.le_of_ble_eq_true rfl) ?_
  intro p e s m below meth c A ls F hml hr hlocks hA hP hD hS hl
  have F : ac_X p s m [.int p0, .int p1].toArray c cX12_lesser RX12 TB (dC, dI) vwCl (ac_ty cA) := ⟨F.1, F.2.1, fun w h => F.2.2.1 w (List.mem_cons_of_mem _ h), F.2.2.2.1, F.2.2.2.2⟩
  have hl : lv_has ls 2 [(0, .int p0), (1, .int p1)] := hl
  refine lv_iload_n F.1 F.2.1 dX12_lesser_0 rfl (lv_at hl 0 rfl) ?_
  refine lv_iload_n F.1 F.2.1 dX12_lesser_1 rfl (lv_at hl 1 rfl) ?_
  refine b_ge F 9 dX12_lesser_2 (by decide) rfl rfl (fun c1 => ?_) (fun c1 => ?_)
  · refine lv_iload_n F.1 F.2.1 dX12_lesser_9 rfl (lv_at hl 1 rfl) ?_
    exact a_reti F hr hlocks hP hD hS dX12_lesser_10 ⟨rfl, (by omega : p1.toInt ≤ 1000)⟩
  · refine lv_iload_n F.1 F.2.1 dX12_lesser_5 rfl (lv_at hl 0 rfl) ?_
    refine lv_goto (tgt := 10) F.1 F.2.1 dX12_lesser_6 (by decide) ?_
    exact a_reti F hr hlocks hP hD hS dX12_lesser_10 ⟨rfl, (by omega : p0.toInt ≤ 1000)⟩
set_option maxHeartbeats 600000 in
set_option maxRecDepth 100000 in
theorem c_X12_lastOf_85 (l : Launch) (dC : Nat → ClassId) (dI : Nat → Nat → Nat) (ad : Nat → Nat) (cA : Nat → ClassId) (nF : Nat) (u0 : ac_U) (p0 : Int32) (p1 : Int32) (hR : ac_R rg u0) (hp0 : (0 : Int) ≤ p0.toInt ∧ p0.toInt ≤ 7) (hp1 : (0 : Int) ≤ p1.toInt ∧ p1.toInt ≤ 7) : ac_Mi l yX12_lastOf (.code yX12_lastOf cX12_lastOf 3 (some .int) :: TB) 2 (dC, dI) vwCl (ac_ty cA) ad cA (TT nF) [.ref (ad 85), .int p0, .int p1] u0 (fun (r : Int32) (u : ac_U) => u = u0 ∧ (r.toInt ≤ 1000)) := by
  refine ac_Mi.of (cc := cX12_lastOf) (maxL := 3) (ret := (some .int)) (by decide) rfl (Nat.le_of_ble_eq_true rfl) ?_
  intro p e s m below meth c A ls F hml hr hlocks hA hP hD hS hl
  have F : ac_X p s m [.ref (ad 85), .int p0, .int p1].toArray c cX12_lastOf RX12 TB (dC, dI) vwCl (ac_ty cA) := ⟨F.1, F.2.1, fun w h => F.2.2.1 w (List.mem_cons_of_mem _ h), F.2.2.2.1, F.2.2.2.2⟩
  have hl : lv_has ls 3 [(0, .ref (ad 85)), (1, .int p0), (2, .int p1)] := hl
  have L30 : ∀ (z0 : Int32) (z1 : Int32) (z2 : Int32) (H : Heap) (locs : List Loc) (ls : Array Slot), (3 : Int) ≤ z0.toInt ∧ z0.toInt ≤ 23 → (0 : Int) ≤ z2.toInt ∧ z2.toInt ≤ 1 → va_P (dC, dI) vwCl (ac_w ad cA (TT nF) u0) H → va_D A (ac_w ad cA (TT nF) u0) → va_S A s.heap H locs → lv_has ls 3 [] → W p l e (ac_rm 2) s m [.ref (ad 85), .int p0, .int p1].toArray below meth c H locs 0 0 (MQ below (va_Qi (fun (r : Int32) (u : ac_U) => u = u0 ∧ (r.toInt ≤ 1000)) (ac_B (dC, dI) vwCl (ac_ty cA) ad cA (TT nF) A) A) [.ref (ad 85), .int p0, .int p1].toArray s 0 0 A) (F0 m 30 ls [.int z2, .int z1, .int z0]) := by
    intro z0 z1 z2 H locs ls f0 f1 hP hD hS hl
    refine a_isubU F dX12_lastOf_30 (fun v1 => ?_)
    refine a_Si F hml hl.1 hA hP hD hS (As := [.int z0, .int v1]) (c_X12_lesser l dC dI ad cA nF _ z0 v1 hR (by omega)) (cs_RX12_295 (d := 1) F.2.2.1 (by decide)) rfl rfl (Nat.le_of_ble_eq_true rfl) dX12_lastOf_31 ⟨Nat.le_refl 0, Nat.le_refl 0⟩ (fun r2 uN2 H locs hq hP hD hS => ?_)
    obtain ⟨hu2, gr2⟩ := hq
    rw [hu2] at hP hD
    exact a_reti F hr hlocks hP hD hS dX12_lastOf_34 ⟨rfl, (by omega : r2.toInt ≤ 1000)⟩
  refine lv_aload_n F.1 F.2.1 dX12_lastOf_0 rfl (lv_at hl 0 rfl) ?_
  refine a_getr F inX12 hP 85 6 tc_85 rfl rfl (by decide) q1477 (fun _ h9 => h9) dX12_lastOf_1 ?_
  refine a_ic F (0 : Int32) dX12_lastOf_4 (by decide) ?_
  have g3 : (4 : Int) ≤ (u0.1 87 0).toInt ∧ (u0.1 87 0).toInt ≤ 24 := hR 87 0
  refine a_ialdK F hP 87 0 tc_87 rfl rfl (i_in ic_0 (by omega)) (v := (u0.1 87 0)) rfl dX12_lastOf_5 ?_
  refine a_ic F (1 : Int32) dX12_lastOf_6 (by decide) ?_
  refine a_isub F dX12_lastOf_7 rfl ic_1 (by omega) (fun v4 hv4 => ?_)
  refine lv_aload_n F.1 F.2.1 dX12_lastOf_8 rfl (lv_at hl 0 rfl) ?_
  refine a_getr F inX12 hP 85 6 tc_85 rfl rfl (by decide) q1477 (fun _ h9 => h9) dX12_lastOf_9 ?_
  refine a_bp F (58 : Int32) dX12_lastOf_12 (by decide) ?_
  refine lv_iload_n F.1 F.2.1 dX12_lastOf_14 rfl (lv_at hl 1 rfl) ?_
  refine a_iadd F dX12_lastOf_15 ic_58 rfl (by omega) (fun v5 hv5 => ?_)
  refine a_iald F hP 87 tc_87 rfl (i_in rfl (by omega)) dX12_lastOf_16 (fun v6 ev6 => ?_)
  refine lv_iload_n F.1 F.2.1 dX12_lastOf_17 rfl (lv_at hl 2 rfl) ?_
  refine a_ic F (0 : Int32) dX12_lastOf_18 (by decide) ?_
  refine a_Si F hml hl.1 hA hP hD hS (As := [.int p1, .int (0 : Int32)]) (c_X12_bitOf l dC dI ad cA nF _ p1 (0 : Int32) hR) (cs_RX12_223 (d := 1) F.2.2.1 (by decide)) rfl rfl (Nat.le_of_ble_eq_true rfl) dX12_lastOf_19 ⟨Nat.le_refl 0, Nat.le_refl 0⟩ (fun r7 uN7 H locs hq hP hD hS => ?_)
  obtain ⟨hu7, gr7⟩ := hq
  rw [hu7] at hP hD
  refine z_eq F 29 dX12_lastOf_22 (by decide) rfl (fun c8 => ?_) (fun c8 => ?_)
  · refine a_ic F (0 : Int32) dX12_lastOf_29 (by decide) ?_
    exact L30 v4 v6 (0 : Int32) _ _ _ (by omega) (by decide) hP hD hS (lv_sub hl [] rfl)
  · refine a_ic F (1 : Int32) dX12_lastOf_25 (by decide) ?_
    refine lv_goto (tgt := 30) F.1 F.2.1 dX12_lastOf_26 (by decide) ?_
    exact L30 v4 v6 (1 : Int32) _ _ _ (by omega) (by decide) hP hD hS (lv_sub hl [] rfl)
set_option maxHeartbeats 600000 in
set_option maxRecDepth 100000 in
theorem c_X12_dueOf_85 (l : Launch) (dC : Nat → ClassId) (dI : Nat → Nat → Nat) (ad : Nat → Nat) (cA : Nat → ClassId) (nF : Nat) (u0 : ac_U) (p0 : Int32) (p1 : Int32) (hR : ac_R rg u0) (hp0 : (0 : Int) ≤ p0.toInt ∧ p0.toInt ≤ 7) (hp1 : (0 : Int) ≤ p1.toInt ∧ p1.toInt ≤ 7) : ac_Mi l yX12_dueOf (.code yX12_dueOf cX12_dueOf 4 (some .int) :: TB) 3 (dC, dI) vwCl (ac_ty cA) ad cA (TT nF) [.ref (ad 85), .int p0, .int p1] u0 (fun (r : Int32) (u : ac_U) => u = u0 ∧ ((0 : Int) ≤ r.toInt ∧ r.toInt ≤ 121)) := by
  refine ac_Mi.of (cc := cX12_dueOf) (maxL := 4) (ret := (some .int)) (by decide) rfl (Nat.le_of_ble_eq_true rfl) ?_
  intro p e s m below meth c A ls F hml hr hlocks hA hP hD hS hl
  have F : ac_X p s m [.ref (ad 85), .int p0, .int p1].toArray c cX12_dueOf RX12 TB (dC, dI) vwCl (ac_ty cA) := ⟨F.1, F.2.1, fun w h => F.2.2.1 w (List.mem_cons_of_mem _ h), F.2.2.2.1, F.2.2.2.2⟩
  have hl : lv_has ls 4 [(0, .ref (ad 85)), (1, .int p0), (2, .int p1)] := hl
  have L42 : ∀ (z0 : Int32) (z1 : Int32) (H : Heap) (locs : List Loc) (ls : Array Slot), (0 : Int) ≤ z0.toInt ∧ z0.toInt ≤ 120 → (0 : Int) ≤ z1.toInt ∧ z1.toInt ≤ 1 → va_P (dC, dI) vwCl (ac_w ad cA (TT nF) u0) H → va_D A (ac_w ad cA (TT nF) u0) → va_S A s.heap H locs → lv_has ls 4 [] → W p l e (ac_rm 3) s m [.ref (ad 85), .int p0, .int p1].toArray below meth c H locs 0 0 (MQ below (va_Qi (fun (r : Int32) (u : ac_U) => u = u0 ∧ ((0 : Int) ≤ r.toInt ∧ r.toInt ≤ 121)) (ac_B (dC, dI) vwCl (ac_ty cA) ad cA (TT nF) A) A) [.ref (ad 85), .int p0, .int p1].toArray s 0 0 A) (F0 m 42 ls [.int z1, .int z0]) := by
    intro z0 z1 H locs ls f0 f1 hP hD hS hl
    refine a_iadd F dX12_dueOf_42 rfl rfl (by omega) (fun v1 hv1 => ?_)
    exact a_reti F hr hlocks hP hD hS dX12_dueOf_43 ⟨rfl, (by omega : (0 : Int) ≤ v1.toInt ∧ v1.toInt ≤ 121)⟩
  refine lv_aload_n F.1 F.2.1 dX12_dueOf_0 rfl (lv_at hl 0 rfl) ?_
  refine a_getr F inX12 hP 85 6 tc_85 rfl rfl (by decide) q1477 (fun _ h9 => h9) dX12_dueOf_1 ?_
  refine a_bp F (124 : Int32) dX12_dueOf_4 (by decide) ?_
  refine lv_iload_n F.1 F.2.1 dX12_dueOf_6 rfl (lv_at hl 1 rfl) ?_
  refine a_iadd F dX12_dueOf_7 ic_124 rfl (by omega) (fun v2 hv2 => ?_)
  refine a_iald F hP 87 tc_87 rfl (i_in rfl (by omega)) dX12_dueOf_8 (fun v3 ev3 => ?_)
  have hv3 : (0 : Int) ≤ v3.toInt ∧ v3.toInt ≤ 481 := rg_seg_87_124_131 hR ev3 (by omega)
  refine a_ic F (1 : Int32) dX12_dueOf_9 (by decide) ?_
  refine a_isub F dX12_dueOf_10 rfl ic_1 (by omega) (fun v4 hv4 => ?_)
  refine lv_istore_n (lv' := [(3, .int v4), (0, .ref (ad 85)), (1, .int p0), (2, .int p1)]) F.1 F.2.1 dX12_dueOf_11 rfl hl (by decide) rfl (fun ls hl => ?_)
  refine lv_iload_n F.1 F.2.1 dX12_dueOf_12 rfl (lv_at hl 0 rfl) ?_
  refine lv_aload_n F.1 F.2.1 dX12_dueOf_13 rfl (lv_at hl 1 rfl) ?_
  refine a_getr F inX12 hP 85 6 tc_85 rfl rfl (by decide) q1477 (fun _ h9 => h9) dX12_dueOf_14 ?_
  refine a_ic F (0 : Int32) dX12_dueOf_17 (by decide) ?_
  have g5 : (4 : Int) ≤ (u0.1 87 0).toInt ∧ (u0.1 87 0).toInt ≤ 24 := hR 87 0
  refine a_ialdK F hP 87 0 tc_87 rfl rfl (i_in ic_0 (by omega)) (v := (u0.1 87 0)) rfl dX12_dueOf_18 ?_
  refine a_idiv2 F (kk := 4) dX12_dueOf_19 rfl rfl (by omega) (fun v6 ev6 hv6 => ?_)
  refine lv_iload_n F.1 F.2.1 dX12_dueOf_20 rfl (lv_at hl 0 rfl) ?_
  refine lv_aload_n F.1 F.2.1 dX12_dueOf_21 rfl (lv_at hl 1 rfl) ?_
  refine a_getr F inX12 hP 85 6 tc_85 rfl rfl (by decide) q1477 (fun _ h9 => h9) dX12_dueOf_22 ?_
  refine a_ic F (0 : Int32) dX12_dueOf_25 (by decide) ?_
  refine a_ialdK F hP 87 0 tc_87 rfl rfl (i_in ic_0 (by omega)) (v := (u0.1 87 0)) (rfl) dX12_dueOf_26 ?_
  refine a_irem F dX12_dueOf_27 rfl rfl (by omega) (fun v7 hv7 => ?_)
  refine lv_aload_n F.1 F.2.1 dX12_dueOf_28 rfl (lv_at hl 1 rfl) ?_
  refine lv_iload_n F.1 F.2.1 dX12_dueOf_29 rfl (lv_at hl 2 rfl) ?_
  refine lv_iload_n F.1 F.2.1 dX12_dueOf_30 rfl (lv_at hl 3 rfl) ?_
  refine a_Vi F hml hl.1 hA hP hD hS (As := [.int p0, .int p1]) (c_X12_lastOf_85 l dC dI ad cA nF _ p0 p1 hR (by omega) (by omega)) (cs_RX12_298 (d := 2) F.2.2.1 (by decide)) tc_85 rfl rfl rfl rfl (Nat.le_of_ble_eq_true rfl) dX12_dueOf_31 ⟨Nat.le_refl 0, Nat.le_refl 0⟩ (fun r8 uN8 H locs hq hP hD hS => ?_)
  obtain ⟨hu8, gr8⟩ := hq
  rw [hu8] at hP hD
  refine b_gt F 41 dX12_dueOf_34 (by decide) rfl rfl (fun c9 => ?_) (fun c9 => ?_)
  · refine a_ic F (1 : Int32) dX12_dueOf_41 (by decide) ?_
    exact L42 v6 (1 : Int32) _ _ _ (by omega) (by decide) hP hD hS (lv_sub hl [] rfl)
  · refine a_ic F (0 : Int32) dX12_dueOf_37 (by decide) ?_
    refine lv_goto (tgt := 42) F.1 F.2.1 dX12_dueOf_38 (by decide) ?_
    exact L42 v6 (0 : Int32) _ _ _ (by omega) (by decide) hP hD hS (lv_sub hl [] rfl)
set_option maxHeartbeats 600000 in
set_option maxRecDepth 100000 in
theorem c_X12_timesOn_85 (l : Launch) (dC : Nat → ClassId) (dI : Nat → Nat → Nat) (ad : Nat → Nat) (cA : Nat → ClassId) (nF : Nat) (u0 : ac_U) (p0 : Int32) (p1 : Int32) (p2 : Int32) (hR : ac_R rg u0) (hp0 : (0 : Int) ≤ p0.toInt ∧ p0.toInt ≤ 7) (hp1 : (0 : Int) ≤ p1.toInt ∧ p1.toInt ≤ 7) (hp2 : (0 : Int) ≤ p2.toInt ∧ p2.toInt ≤ 121) : ac_Mi l yX12_timesOn (.code yX12_timesOn cX12_timesOn 8 (some .int) :: TB) 3 (dC, dI) vwCl (ac_ty cA) ad cA (TT nF) [.ref (ad 85), .int p0, .int p1, .int p2] u0 (fun (r : Int32) (u : ac_U) => u = u0) := by
  refine ac_Mi.of (cc := cX12_timesOn) (maxL := 8) (ret := (some .int)) (by decide) rfl (Nat.le_of_ble_eq_true rfl) ?_
  intro p e s m below meth c A ls F hml hr hlocks hA hP hD hS hl
  have F : ac_X p s m [.ref (ad 85), .int p0, .int p1, .int p2].toArray c cX12_timesOn RX12 TB (dC, dI) vwCl (ac_ty cA) := ⟨F.1, F.2.1, fun w h => F.2.2.1 w (List.mem_cons_of_mem _ h), F.2.2.2.1, F.2.2.2.2⟩
  have hl : lv_has ls 8 [(0, .ref (ad 85)), (1, .int p0), (2, .int p1), (3, .int p2)] := hl
  have L6 : ∀ (n6 : Nat) (x4 : Int32) (x5 : Int32) (H : Heap) (locs : List Loc) (ls : Array Slot), 80 - x5.toInt < (n6 : Int) → (0 : Int) ≤ x5.toInt ∧ x5.toInt ≤ 80 → va_P (dC, dI) vwCl (ac_w ad cA (TT nF) u0) H → va_D A (ac_w ad cA (TT nF) u0) → va_S A s.heap H locs → lv_has ls 8 [(0, .ref (ad 85)), (1, .int p0), (2, .int p1), (3, .int p2), (4, .int x4), (5, .int x5)] → W p l e (ac_rm 3) s m [.ref (ad 85), .int p0, .int p1, .int p2].toArray below meth c H locs 0 0 (MQ below (va_Qi (fun (r : Int32) (u : ac_U) => u = u0) (ac_B (dC, dI) vwCl (ac_ty cA) ad cA (TT nF) A) A) [.ref (ad 85), .int p0, .int p1, .int p2].toArray s 0 0 A) (F0 m 6 ls []) := by
    intro n6
    induction n6 with
    | zero => intro x4 x5 H locs ls hn6 f0 hP hD hS hl; exfalso; omega
    | succ n6 ih6 =>
      intro x4 x5 H locs ls hn6 f0 hP hD hS hl
      have L208 : ∀ (x4 : Int32) (x5 : Int32) (H : Heap) (locs : List Loc) (ls : Array Slot), (0 : Int) ≤ x5.toInt ∧ x5.toInt ≤ 79 → (1 : Int) ≤ (u0.1 87 123).toInt ∧ (u0.1 87 123).toInt ≤ 80 → 80 - x5.toInt + 0 < ((n6 : Nat) : Int) + 1 → va_P (dC, dI) vwCl (ac_w ad cA (TT nF) u0) H → va_D A (ac_w ad cA (TT nF) u0) → va_S A s.heap H locs → lv_has ls 8 [(0, .ref (ad 85)), (1, .int p0), (2, .int p1), (3, .int p2), (4, .int x4), (5, .int x5)] → W p l e (ac_rm 3) s m [.ref (ad 85), .int p0, .int p1, .int p2].toArray below meth c H locs 0 0 (MQ below (va_Qi (fun (r : Int32) (u : ac_U) => u = u0) (ac_B (dC, dI) vwCl (ac_ty cA) ad cA (TT nF) A) A) [.ref (ad 85), .int p0, .int p1, .int p2].toArray s 0 0 A) (F0 m 208 ls []) := by
        intro x4 x5 H locs ls f0 f1 f2 hP hD hS hl
        refine a_iinc F (k := 5) (fun v1 => [(5, .int v1), (0, .ref (ad 85)), (1, .int p0), (2, .int p1), (3, .int p2), (4, .int x4)]) dX12_timesOn_208 hl rfl rfl (by decide) (by omega) (by decide) (fun _ => rfl) (fun v1 ls hv1 hl => ?_)
        refine lv_goto (tgt := 6) F.1 F.2.1 dX12_timesOn_211 (by decide) ?_
        exact ih6 x4 v1 _ _ _ (by omega) (by omega) hP hD hS (lv_sub hl [1, 2, 3, 4, 5, 0] rfl)
      have L205 : ∀ (x5 : Int32) (z0 : Int32) (z1 : Int32) (H : Heap) (locs : List Loc) (ls : Array Slot), (0 : Int) ≤ x5.toInt ∧ x5.toInt ≤ 79 → (0 : Int) ≤ z1.toInt ∧ z1.toInt ≤ 1 → (1 : Int) ≤ (u0.1 87 123).toInt ∧ (u0.1 87 123).toInt ≤ 80 → 80 - x5.toInt + 0 < ((n6 : Nat) : Int) + 1 → va_P (dC, dI) vwCl (ac_w ad cA (TT nF) u0) H → va_D A (ac_w ad cA (TT nF) u0) → va_S A s.heap H locs → lv_has ls 8 [(0, .ref (ad 85)), (1, .int p0), (2, .int p1), (3, .int p2), (5, .int x5)] → W p l e (ac_rm 3) s m [.ref (ad 85), .int p0, .int p1, .int p2].toArray below meth c H locs 0 0 (MQ below (va_Qi (fun (r : Int32) (u : ac_U) => u = u0) (ac_B (dC, dI) vwCl (ac_ty cA) ad cA (TT nF) A) A) [.ref (ad 85), .int p0, .int p1, .int p2].toArray s 0 0 A) (F0 m 205 ls [.int z1, .int z0]) := by
        intro x5 z0 z1 H locs ls f0 f1 f2 f3 hP hD hS hl
        refine a_iaddU F dX12_timesOn_205 (fun v2 => ?_)
        refine lv_istore (lv' := [(4, .int v2), (0, .ref (ad 85)), (1, .int p0), (2, .int p1), (3, .int p2), (5, .int x5)]) F.1 F.2.1 dX12_timesOn_206 hl (by decide) rfl (fun ls hl => ?_)
        have g3 : (0 : Int) ≤ (u0.1 87 123).toInt ∧ (u0.1 87 123).toInt ≤ 80 := hR 87 123
        exact L208 v2 x5 _ _ _ (by omega) (by omega : (1 : Int) ≤ (u0.1 87 123).toInt ∧ (u0.1 87 123).toInt ≤ 80) (by omega) hP hD hS (lv_sub hl [1, 2, 3, 4, 0, 5] rfl)
      have L204 : ∀ (x5 : Int32) (z0 : Int32) (H : Heap) (locs : List Loc) (ls : Array Slot), (0 : Int) ≤ x5.toInt ∧ x5.toInt ≤ 79 → (1 : Int) ≤ (u0.1 87 123).toInt ∧ (u0.1 87 123).toInt ≤ 80 → 80 - x5.toInt + 0 < ((n6 : Nat) : Int) + 1 → va_P (dC, dI) vwCl (ac_w ad cA (TT nF) u0) H → va_D A (ac_w ad cA (TT nF) u0) → va_S A s.heap H locs → lv_has ls 8 [(0, .ref (ad 85)), (1, .int p0), (2, .int p1), (3, .int p2), (5, .int x5)] → W p l e (ac_rm 3) s m [.ref (ad 85), .int p0, .int p1, .int p2].toArray below meth c H locs 0 0 (MQ below (va_Qi (fun (r : Int32) (u : ac_U) => u = u0) (ac_B (dC, dI) vwCl (ac_ty cA) ad cA (TT nF) A) A) [.ref (ad 85), .int p0, .int p1, .int p2].toArray s 0 0 A) (F0 m 204 ls [.int z0]) := by
        intro x5 z0 H locs ls f0 f1 f2 hP hD hS hl
        refine a_ic F (0 : Int32) dX12_timesOn_204 (by decide) ?_
        have g4 : (0 : Int) ≤ (u0.1 87 123).toInt ∧ (u0.1 87 123).toInt ≤ 80 := hR 87 123
        exact L205 x5 z0 (0 : Int32) _ _ _ (by omega) (by decide) (by omega : (1 : Int) ≤ (u0.1 87 123).toInt ∧ (u0.1 87 123).toInt ≤ 80) (by omega) hP hD hS (lv_sub hl [0, 1, 2, 3, 4] rfl)
      have L200 : ∀ (x5 : Int32) (z0 : Int32) (H : Heap) (locs : List Loc) (ls : Array Slot), (0 : Int) ≤ x5.toInt ∧ x5.toInt ≤ 79 → (1 : Int) ≤ (u0.1 87 123).toInt ∧ (u0.1 87 123).toInt ≤ 80 → 80 - x5.toInt + 0 < ((n6 : Nat) : Int) + 1 → va_P (dC, dI) vwCl (ac_w ad cA (TT nF) u0) H → va_D A (ac_w ad cA (TT nF) u0) → va_S A s.heap H locs → lv_has ls 8 [(0, .ref (ad 85)), (1, .int p0), (2, .int p1), (3, .int p2), (5, .int x5)] → W p l e (ac_rm 3) s m [.ref (ad 85), .int p0, .int p1, .int p2].toArray below meth c H locs 0 0 (MQ below (va_Qi (fun (r : Int32) (u : ac_U) => u = u0) (ac_B (dC, dI) vwCl (ac_ty cA) ad cA (TT nF) A) A) [.ref (ad 85), .int p0, .int p1, .int p2].toArray s 0 0 A) (F0 m 200 ls [.int z0]) := by
        intro x5 z0 H locs ls f0 f1 f2 hP hD hS hl
        refine a_ic F (1 : Int32) dX12_timesOn_200 (by decide) ?_
        refine lv_goto (tgt := 205) F.1 F.2.1 dX12_timesOn_201 (by decide) ?_
        have g5 : (0 : Int) ≤ (u0.1 87 123).toInt ∧ (u0.1 87 123).toInt ≤ 80 := hR 87 123
        exact L205 x5 z0 (1 : Int32) _ _ _ (by omega) (by decide) (by omega : (1 : Int) ≤ (u0.1 87 123).toInt ∧ (u0.1 87 123).toInt ≤ 80) (by omega) hP hD hS (lv_sub hl [0, 1, 2, 3, 4] rfl)
      refine lv_iload F.1 F.2.1 dX12_timesOn_6 (lv_at hl 5 rfl) ?_
      refine lv_aload_n F.1 F.2.1 dX12_timesOn_8 rfl (lv_at hl 0 rfl) ?_
      refine a_getr F inX12 hP 85 6 tc_85 rfl rfl (by decide) q1477 (fun _ h9 => h9) dX12_timesOn_9 ?_
      refine a_bp F (123 : Int32) dX12_timesOn_12 (by decide) ?_
      have g6 : (0 : Int) ≤ (u0.1 87 123).toInt ∧ (u0.1 87 123).toInt ≤ 80 := hR 87 123
      refine a_ialdK F hP 87 123 tc_87 rfl rfl (i_in ic_123 (by omega)) (v := (u0.1 87 123)) rfl dX12_timesOn_14 ?_
      refine b_ge F 214 dX12_timesOn_15 (by decide) rfl rfl (fun c7 => ?_) (fun c7 => ?_)
      · refine lv_iload F.1 F.2.1 dX12_timesOn_214 (lv_at hl 4 rfl) ?_
        exact a_reti F hr hlocks hP hD hS dX12_timesOn_216 rfl
      · refine a_sp F (148 : Int32) dX12_timesOn_18 (by decide) ?_
        refine a_ic F (4 : Int32) dX12_timesOn_21 (by decide) ?_
        refine lv_iload F.1 F.2.1 dX12_timesOn_22 (lv_at hl 5 rfl) ?_
        refine a_imul F dX12_timesOn_24 ic_4 rfl (by omega) (fun v8 hv8 => ?_)
        refine a_iadd F dX12_timesOn_25 ic_148 rfl (by omega) (fun v9 hv9 => ?_)
        refine lv_istore (lv' := [(6, .int v9), (0, .ref (ad 85)), (1, .int p0), (2, .int p1), (3, .int p2), (4, .int x4), (5, .int x5)]) F.1 F.2.1 dX12_timesOn_26 hl (by decide) rfl (fun ls hl => ?_)
        refine lv_aload_n F.1 F.2.1 dX12_timesOn_28 rfl (lv_at hl 1 rfl) ?_
        refine a_getr F inX12 hP 85 6 tc_85 rfl rfl (by decide) q1477 (fun _ h9 => h9) dX12_timesOn_29 ?_
        refine lv_iload F.1 F.2.1 dX12_timesOn_32 (lv_at hl 0 rfl) ?_
        refine a_iald F hP 87 tc_87 rfl (i_in rfl (by omega)) dX12_timesOn_34 (fun v10 ev10 => ?_)
        refine lv_iload_n F.1 F.2.1 dX12_timesOn_35 rfl (lv_at hl 4 rfl) ?_
        refine lv_aload_n F.1 F.2.1 dX12_timesOn_36 rfl (lv_at hl 1 rfl) ?_
        refine a_getr F inX12 hP 85 6 tc_85 rfl rfl (by decide) q1477 (fun _ h9 => h9) dX12_timesOn_37 ?_
        refine a_ic F (0 : Int32) dX12_timesOn_40 (by decide) ?_
        have g11 : (4 : Int) ≤ (u0.1 87 0).toInt ∧ (u0.1 87 0).toInt ≤ 24 := hR 87 0
        refine a_ialdK F hP 87 0 tc_87 rfl rfl (i_in ic_0 (by omega)) (v := (u0.1 87 0)) rfl dX12_timesOn_41 ?_
        have kv12 := i_mulb (x := p2.toInt) (y := (u0.1 87 0).toInt) (a0 := 0) (a1 := 121) (b0 := 4) (b1 := 24) (by omega) (by omega) (by omega)
        refine a_imul F dX12_timesOn_42 rfl rfl (by omega) (fun v12 hv12 => ?_)
        refine a_isubU F dX12_timesOn_43 (fun v13 => ?_)
        refine lv_istore (lv' := [(7, .int v13), (6, .int v9), (0, .ref (ad 85)), (1, .int p0), (2, .int p1), (3, .int p2), (4, .int x4), (5, .int x5)]) F.1 F.2.1 dX12_timesOn_44 hl (by decide) rfl (fun ls hl => ?_)
        refine lv_aload_n F.1 F.2.1 dX12_timesOn_46 rfl (lv_at hl 2 rfl) ?_
        refine a_getr F inX12 hP 85 6 tc_85 rfl rfl (by decide) q1477 (fun _ h9 => h9) dX12_timesOn_47 ?_
        refine lv_iload F.1 F.2.1 dX12_timesOn_50 (lv_at hl 1 rfl) ?_
        refine a_iald F hP 87 tc_87 rfl (i_in rfl (by omega)) dX12_timesOn_52 (fun v14 ev14 => ?_)
        refine lv_aload_n F.1 F.2.1 dX12_timesOn_53 rfl (lv_at hl 2 rfl) ?_
        refine a_getr F inX12 hP 85 6 tc_85 rfl rfl (by decide) q1477 (fun _ h9 => h9) dX12_timesOn_54 ?_
        refine a_bp F (124 : Int32) dX12_timesOn_57 (by decide) ?_
        refine lv_iload_n F.1 F.2.1 dX12_timesOn_59 rfl (lv_at hl 3 rfl) ?_
        refine a_iadd F dX12_timesOn_60 ic_124 rfl (by omega) (fun v15 hv15 => ?_)
        refine a_iald F hP 87 tc_87 rfl (i_in rfl (by omega)) dX12_timesOn_61 (fun v16 ev16 => ?_)
        have hv16 : (0 : Int) ≤ v16.toInt ∧ v16.toInt ≤ 481 := rg_seg_87_124_131 hR ev16 (by omega)
        refine a_ic F (1 : Int32) dX12_timesOn_62 (by decide) ?_
        refine a_isub F dX12_timesOn_63 rfl ic_1 (by omega) (fun v17 hv17 => ?_)
        refine b_lt F 208 dX12_timesOn_64 (by decide) rfl rfl (fun c18 => ?_) (fun c18 => ?_)
        · exact L208 x4 x5 _ _ _ (by omega) (by omega : (1 : Int) ≤ (u0.1 87 123).toInt ∧ (u0.1 87 123).toInt ≤ 80) (by omega) hP hD hS (lv_sub hl [2, 3, 4, 5, 6, 7] rfl)
        · refine lv_iload F.1 F.2.1 dX12_timesOn_67 (lv_at hl 0 rfl) ?_
          refine lv_aload_n F.1 F.2.1 dX12_timesOn_69 rfl (lv_at hl 2 rfl) ?_
          refine a_getr F inX12 hP 85 6 tc_85 rfl rfl (by decide) q1477 (fun _ h9 => h9) dX12_timesOn_70 ?_
          refine a_bp F (50 : Int32) dX12_timesOn_73 (by decide) ?_
          refine lv_iload_n F.1 F.2.1 dX12_timesOn_75 rfl (lv_at hl 3 rfl) ?_
          refine a_iadd F dX12_timesOn_76 ic_50 rfl (by omega) (fun v19 hv19 => ?_)
          refine a_iald F hP 87 tc_87 rfl (i_in rfl (by omega)) dX12_timesOn_77 (fun v20 ev20 => ?_)
          refine b_lt F 208 dX12_timesOn_78 (by decide) rfl rfl (fun c21 => ?_) (fun c21 => ?_)
          · exact L208 x4 x5 _ _ _ (by omega) (by omega : (1 : Int) ≤ (u0.1 87 123).toInt ∧ (u0.1 87 123).toInt ≤ 80) (by omega) hP hD hS (lv_sub hl [2, 3, 4, 5, 6, 7] rfl)
          · refine lv_iload F.1 F.2.1 dX12_timesOn_81 (lv_at hl 0 rfl) ?_
            refine lv_aload_n F.1 F.2.1 dX12_timesOn_83 rfl (lv_at hl 2 rfl) ?_
            refine lv_iload_n F.1 F.2.1 dX12_timesOn_84 rfl (lv_at hl 3 rfl) ?_
            refine lv_iload_n F.1 F.2.1 dX12_timesOn_85 rfl (lv_at hl 4 rfl) ?_
            refine a_Vi F hml hl.1 hA hP hD hS (As := [.int p0, .int p1]) (c_X12_lastOf_85 l dC dI ad cA nF _ p0 p1 hR (by omega) (by omega)) (cs_RX12_298 (d := 2) F.2.2.1 (by decide)) tc_85 rfl rfl rfl rfl (Nat.le_of_ble_eq_true rfl) dX12_timesOn_86 ⟨Nat.le_refl 0, Nat.le_refl 0⟩ (fun r22 uN22 H locs hq hP hD hS => ?_)
            obtain ⟨hu22, gr22⟩ := hq
            rw [hu22] at hP hD
            refine b_gt F 208 dX12_timesOn_89 (by decide) rfl rfl (fun c23 => ?_) (fun c23 => ?_)
            · exact L208 x4 x5 _ _ _ (by omega) (by omega : (1 : Int) ≤ (u0.1 87 123).toInt ∧ (u0.1 87 123).toInt ≤ 80) (by omega) hP hD hS (lv_sub hl [2, 3, 4, 5, 6, 7] rfl)
            · refine lv_aload_n F.1 F.2.1 dX12_timesOn_92 rfl (lv_at hl 2 rfl) ?_
              refine a_getr F inX12 hP 85 6 tc_85 rfl rfl (by decide) q1477 (fun _ h9 => h9) dX12_timesOn_93 ?_
              refine lv_iload F.1 F.2.1 dX12_timesOn_96 (lv_at hl 1 rfl) ?_
              refine a_ic F (1 : Int32) dX12_timesOn_98 (by decide) ?_
              refine a_iadd F dX12_timesOn_99 rfl ic_1 (by omega) (fun v24 hv24 => ?_)
              refine a_iald F hP 87 tc_87 rfl (i_in rfl (by omega)) dX12_timesOn_100 (fun v25 ev25 => ?_)
              refine lv_aload_n F.1 F.2.1 dX12_timesOn_101 rfl (lv_at hl 2 rfl) ?_
              refine a_getr F inX12 hP 85 6 tc_85 rfl rfl (by decide) q1477 (fun _ h9 => h9) dX12_timesOn_102 ?_
              refine a_bp F (26 : Int32) dX12_timesOn_105 (by decide) ?_
              refine lv_iload_n F.1 F.2.1 dX12_timesOn_107 rfl (lv_at hl 3 rfl) ?_
              refine a_iadd F dX12_timesOn_108 ic_26 rfl (by omega) (fun v26 hv26 => ?_)
              refine a_iald F hP 87 tc_87 rfl (i_in rfl (by omega)) dX12_timesOn_109 (fun v27 ev27 => ?_)
              refine b_ne F 208 dX12_timesOn_110 (by decide) rfl rfl (fun c28 => ?_) (fun c28 => ?_)
              · exact L208 x4 x5 _ _ _ (by omega) (by omega : (1 : Int) ≤ (u0.1 87 123).toInt ∧ (u0.1 87 123).toInt ≤ 80) (by omega) hP hD hS (lv_sub hl [2, 3, 4, 5, 6, 7] rfl)
              · refine lv_aload_n F.1 F.2.1 dX12_timesOn_113 rfl (lv_at hl 2 rfl) ?_
                refine a_getr F inX12 hP 85 6 tc_85 rfl rfl (by decide) q1477 (fun _ h9 => h9) dX12_timesOn_114 ?_
                refine lv_iload F.1 F.2.1 dX12_timesOn_117 (lv_at hl 1 rfl) ?_
                refine a_ic F (2 : Int32) dX12_timesOn_119 (by decide) ?_
                refine a_iadd F dX12_timesOn_120 rfl ic_2 (by omega) (fun v29 hv29 => ?_)
                refine a_iald F hP 87 tc_87 rfl (i_in rfl (by omega)) dX12_timesOn_121 (fun v30 ev30 => ?_)
                refine lv_aload_n F.1 F.2.1 dX12_timesOn_122 rfl (lv_at hl 2 rfl) ?_
                refine a_getr F inX12 hP 85 6 tc_85 rfl rfl (by decide) q1477 (fun _ h9 => h9) dX12_timesOn_123 ?_
                refine a_bp F (34 : Int32) dX12_timesOn_126 (by decide) ?_
                refine lv_iload_n F.1 F.2.1 dX12_timesOn_128 rfl (lv_at hl 3 rfl) ?_
                refine a_iadd F dX12_timesOn_129 ic_34 rfl (by omega) (fun v31 hv31 => ?_)
                refine a_iald F hP 87 tc_87 rfl (i_in rfl (by omega)) dX12_timesOn_130 (fun v32 ev32 => ?_)
                refine b_eq F 137 dX12_timesOn_131 (by decide) rfl rfl (fun c33 => ?_) (fun c33 => ?_)
                · refine lv_iload F.1 F.2.1 dX12_timesOn_137 (lv_at hl 6 rfl) ?_
                  refine lv_aload_n F.1 F.2.1 dX12_timesOn_139 rfl (lv_at hl 2 rfl) ?_
                  refine a_getr F inX12 hP 85 6 tc_85 rfl rfl (by decide) q1477 (fun _ h9 => h9) dX12_timesOn_140 ?_
                  refine lv_iload F.1 F.2.1 dX12_timesOn_143 (lv_at hl 1 rfl) ?_
                  refine a_ic F (3 : Int32) dX12_timesOn_145 (by decide) ?_
                  refine a_iadd F dX12_timesOn_146 rfl ic_3 (by omega) (fun v34 hv34 => ?_)
                  refine a_iald F hP 87 tc_87 rfl (i_in rfl (by omega)) dX12_timesOn_147 (fun v35 ev35 => ?_)
                  refine lv_aload_n F.1 F.2.1 dX12_timesOn_148 rfl (lv_at hl 2 rfl) ?_
                  refine a_getr F inX12 hP 85 6 tc_85 rfl rfl (by decide) q1477 (fun _ h9 => h9) dX12_timesOn_149 ?_
                  refine a_bp F (42 : Int32) dX12_timesOn_152 (by decide) ?_
                  refine lv_iload_n F.1 F.2.1 dX12_timesOn_154 rfl (lv_at hl 3 rfl) ?_
                  refine a_iadd F dX12_timesOn_155 ic_42 rfl (by omega) (fun v36 hv36 => ?_)
                  refine a_iald F hP 87 tc_87 rfl (i_in rfl (by omega)) dX12_timesOn_156 (fun v37 ev37 => ?_)
                  have hv37 : (0 : Int) ≤ v37.toInt ∧ v37.toInt ≤ 7 := rg_seg_87_42_49 hR ev37 (by omega)
                  refine b_eq F 200 dX12_timesOn_157 (by decide) rfl rfl (fun c38 => ?_) (fun c38 => ?_)
                  · exact L200 x5 x4 _ _ _ (by omega) (by omega : (1 : Int) ≤ (u0.1 87 123).toInt ∧ (u0.1 87 123).toInt ≤ 80) (by omega) hP hD hS (lv_sub hl [2, 3, 4, 5, 7] rfl)
                  · refine lv_iload_n F.1 F.2.1 dX12_timesOn_160 rfl (lv_at hl 4 rfl) ?_
                    refine a_ic F (2 : Int32) dX12_timesOn_161 (by decide) ?_
                    refine a_Si F hml hl.1 hA hP hD hS (As := [.int p1, .int (2 : Int32)]) (c_X12_bitOf l dC dI ad cA nF _ p1 (2 : Int32) hR) (cs_RX12_223 (d := 1) F.2.2.1 (by decide)) rfl rfl (Nat.le_of_ble_eq_true rfl) dX12_timesOn_162 ⟨Nat.le_refl 0, Nat.le_refl 0⟩ (fun r39 uN39 H locs hq hP hD hS => ?_)
                    obtain ⟨hu39, gr39⟩ := hq
                    rw [hu39] at hP hD
                    refine z_eq F 204 dX12_timesOn_165 (by decide) rfl (fun c40 => ?_) (fun c40 => ?_)
                    · exact L204 x5 x4 _ _ _ (by omega) (by omega : (1 : Int) ≤ (u0.1 87 123).toInt ∧ (u0.1 87 123).toInt ≤ 80) (by omega) hP hD hS (lv_sub hl [2, 3, 4, 5, 7] rfl)
                    · refine lv_aload_n F.1 F.2.1 dX12_timesOn_168 rfl (lv_at hl 2 rfl) ?_
                      refine a_getr F inX12 hP 85 6 tc_85 rfl rfl (by decide) q1477 (fun _ h9 => h9) dX12_timesOn_169 ?_
                      refine a_bp F (8 : Int32) dX12_timesOn_172 (by decide) ?_
                      refine lv_aload_n F.1 F.2.1 dX12_timesOn_174 rfl (lv_at hl 2 rfl) ?_
                      refine a_getr F inX12 hP 85 6 tc_85 rfl rfl (by decide) q1477 (fun _ h9 => h9) dX12_timesOn_175 ?_
                      refine a_bp F (42 : Int32) dX12_timesOn_178 (by decide) ?_
                      refine lv_iload_n F.1 F.2.1 dX12_timesOn_180 rfl (lv_at hl 3 rfl) ?_
                      refine a_iadd F dX12_timesOn_181 ic_42 rfl (by omega) (fun v41 hv41 => ?_)
                      refine a_iald F hP 87 tc_87 rfl (i_in rfl (by omega)) dX12_timesOn_182 (fun v42 ev42 => ?_)
                      have hv42 : (0 : Int) ≤ v42.toInt ∧ v42.toInt ≤ 7 := rg_seg_87_42_49 hR ev42 (by omega)
                      refine a_iadd F dX12_timesOn_183 ic_8 rfl (by omega) (fun v43 hv43 => ?_)
                      refine a_iald F hP 87 tc_87 rfl (i_in rfl (by omega)) dX12_timesOn_184 (fun v44 ev44 => ?_)
                      refine lv_aload_n F.1 F.2.1 dX12_timesOn_185 rfl (lv_at hl 2 rfl) ?_
                      refine a_getr F inX12 hP 85 6 tc_85 rfl rfl (by decide) q1477 (fun _ h9 => h9) dX12_timesOn_186 ?_
                      refine lv_iload F.1 F.2.1 dX12_timesOn_189 (lv_at hl 1 rfl) ?_
                      refine a_ic F (3 : Int32) dX12_timesOn_191 (by decide) ?_
                      refine a_iadd F dX12_timesOn_192 rfl ic_3 (by omega) (fun v45 hv45 => ?_)
                      refine a_iald F hP 87 tc_87 rfl (i_in rfl (by omega)) dX12_timesOn_193 (fun v46 ev46 => ?_)
                      refine a_Si F hml hl.1 hA hP hD hS (As := [.int v44, .int v46]) (c_X12_bitOf l dC dI ad cA nF _ v44 v46 hR) (cs_RX12_223 (d := 1) F.2.2.1 (by decide)) rfl rfl (Nat.le_of_ble_eq_true rfl) dX12_timesOn_194 ⟨Nat.le_refl 0, Nat.le_refl 0⟩ (fun r47 uN47 H locs hq hP hD hS => ?_)
                      obtain ⟨hu47, gr47⟩ := hq
                      rw [hu47] at hP hD
                      refine z_eq F 204 dX12_timesOn_197 (by decide) rfl (fun c48 => ?_) (fun c48 => ?_)
                      · exact L204 x5 x4 _ _ _ (by omega) (by omega : (1 : Int) ≤ (u0.1 87 123).toInt ∧ (u0.1 87 123).toInt ≤ 80) (by omega) hP hD hS (lv_sub hl [2, 3, 4, 5, 7] rfl)
                      · exact L200 x5 x4 _ _ _ (by omega) (by omega : (1 : Int) ≤ (u0.1 87 123).toInt ∧ (u0.1 87 123).toInt ≤ 80) (by omega) hP hD hS (lv_sub hl [2, 3, 4, 5, 7] rfl)
                · refine lv_goto (tgt := 208) F.1 F.2.1 dX12_timesOn_134 (by decide) ?_
                  exact L208 x4 x5 _ _ _ (by omega) (by omega : (1 : Int) ≤ (u0.1 87 123).toInt ∧ (u0.1 87 123).toInt ≤ 80) (by omega) hP hD hS (lv_sub hl [2, 3, 4, 5, 6, 7] rfl)
  refine a_ic F (0 : Int32) dX12_timesOn_0 (by decide) ?_
  refine lv_istore (lv' := [(4, .int (0 : Int32)), (0, .ref (ad 85)), (1, .int p0), (2, .int p1), (3, .int p2)]) F.1 F.2.1 dX12_timesOn_1 hl (by decide) rfl (fun ls hl => ?_)
  refine a_ic F (0 : Int32) dX12_timesOn_3 (by decide) ?_
  refine lv_istore (lv' := [(5, .int (0 : Int32)), (4, .int (0 : Int32)), (0, .ref (ad 85)), (1, .int p0), (2, .int p1), (3, .int p2)]) F.1 F.2.1 dX12_timesOn_4 hl (by decide) rfl (fun ls hl => ?_)
  exact L6 82 (0 : Int32) (0 : Int32) _ _ _ (by decide) (by decide) hP hD hS (lv_sub hl [2, 3, 4, 5, 1, 0] rfl)
set_option maxHeartbeats 600000 in
set_option maxRecDepth 100000 in
theorem c_X12_isKept_85 (l : Launch) (dC : Nat → ClassId) (dI : Nat → Nat → Nat) (ad : Nat → Nat) (cA : Nat → ClassId) (nF : Nat) (u0 : ac_U) (p0 : Int32) (p1 : Int32) (p2 : Int32) (hR : ac_R rg u0) (hp0 : (0 : Int) ≤ p0.toInt ∧ p0.toInt ≤ 7) (hp1 : (0 : Int) ≤ p1.toInt ∧ p1.toInt ≤ 7) (hp2 : (0 : Int) ≤ p2.toInt ∧ p2.toInt ≤ 121) : ac_Mi l yX12_isKept (.code yX12_isKept cX12_isKept 4 (some .boolean) :: TB) 4 (dC, dI) vwCl (ac_ty cA) ad cA (TT nF) [.ref (ad 85), .int p0, .int p1, .int p2] u0 (fun (r : Int32) (u : ac_U) => u = u0 ∧ ((0 : Int) ≤ r.toInt ∧ r.toInt ≤ 1)) := by
  refine ac_Mi.of (cc := cX12_isKept) (maxL := 4) (ret := (some .boolean)) (by decide) rfl (Nat.le_of_ble_eq_true rfl) ?_
  intro p e s m below meth c A ls F hml hr hlocks hA hP hD hS hl
  have F : ac_X p s m [.ref (ad 85), .int p0, .int p1, .int p2].toArray c cX12_isKept RX12 TB (dC, dI) vwCl (ac_ty cA) := ⟨F.1, F.2.1, fun w h => F.2.2.1 w (List.mem_cons_of_mem _ h), F.2.2.2.1, F.2.2.2.2⟩
  have hl : lv_has ls 4 [(0, .ref (ad 85)), (1, .int p0), (2, .int p1), (3, .int p2)] := hl
  refine lv_aload_n F.1 F.2.1 dX12_isKept_0 rfl (lv_at hl 0 rfl) ?_
  refine lv_iload_n F.1 F.2.1 dX12_isKept_1 rfl (lv_at hl 1 rfl) ?_
  refine lv_iload_n F.1 F.2.1 dX12_isKept_2 rfl (lv_at hl 2 rfl) ?_
  refine lv_iload_n F.1 F.2.1 dX12_isKept_3 rfl (lv_at hl 3 rfl) ?_
  refine a_Vi F hml hl.1 hA hP hD hS (As := [.int p0, .int p1, .int p2]) (c_X12_timesOn_85 l dC dI ad cA nF _ p0 p1 p2 hR (by omega) (by omega) (by omega)) (cs_RX12_301 (d := 3) F.2.2.1 (by decide)) tc_85 rfl rfl rfl rfl (Nat.le_of_ble_eq_true rfl) dX12_isKept_4 ⟨Nat.le_refl 0, Nat.le_refl 0⟩ (fun r1 uN1 H locs hq hP hD hS => ?_)
  have hu1 := hq
  rw [hu1] at hP hD
  refine lv_aload_n F.1 F.2.1 dX12_isKept_7 rfl (lv_at hl 0 rfl) ?_
  refine a_getr F inX12 hP 85 6 tc_85 rfl rfl (by decide) q1477 (fun _ h9 => h9) dX12_isKept_8 ?_
  refine a_bp F (66 : Int32) dX12_isKept_11 (by decide) ?_
  refine lv_iload_n F.1 F.2.1 dX12_isKept_13 rfl (lv_at hl 1 rfl) ?_
  refine a_iadd F dX12_isKept_14 ic_66 rfl (by omega) (fun v2 hv2 => ?_)
  refine a_iald F hP 87 tc_87 rfl (i_in rfl (by omega)) dX12_isKept_15 (fun v3 ev3 => ?_)
  have hv3 : (0 : Int) ≤ v3.toInt ∧ v3.toInt ≤ 3 := rg_seg_87_66_73 hR ev3 (by omega)
  refine b_lt F 23 dX12_isKept_16 (by decide) rfl rfl (fun c4 => ?_) (fun c4 => ?_)
  · refine a_ic F (0 : Int32) dX12_isKept_23 (by decide) ?_
    exact a_retz F hr hlocks hP hD hS dX12_isKept_24 (Or.inl rfl) ⟨rfl, (by decide)⟩
  · refine a_ic F (1 : Int32) dX12_isKept_19 (by decide) ?_
    refine lv_goto (tgt := 24) F.1 F.2.1 dX12_isKept_20 (by decide) ?_
    exact a_retz F hr hlocks hP hD hS dX12_isKept_24 (Or.inr rfl) ⟨rfl, (by decide)⟩
set_option maxHeartbeats 600000 in
set_option maxRecDepth 100000 in
theorem c_X12_isOff_85 (l : Launch) (dC : Nat → ClassId) (dI : Nat → Nat → Nat) (ad : Nat → Nat) (cA : Nat → ClassId) (nF : Nat) (u0 : ac_U) (p0 : Int32) (p1 : Int32) (p2 : Int32) (hR : ac_R rg u0) (hp0 : (0 : Int) ≤ p0.toInt ∧ p0.toInt ≤ 7) (hp1 : (0 : Int) ≤ p1.toInt ∧ p1.toInt ≤ 7) (hp2 : (0 : Int) ≤ p2.toInt ∧ p2.toInt ≤ 121) : ac_Mi l yX12_isOff (.code yX12_isOff cX12_isOff 7 (some .boolean) :: TB) 3 (dC, dI) vwCl (ac_ty cA) ad cA (TT nF) [.ref (ad 85), .int p0, .int p1, .int p2] u0 (fun (r : Int32) (u : ac_U) => u = u0 ∧ ((0 : Int) ≤ r.toInt ∧ r.toInt ≤ 1)) := by
  refine ac_Mi.of (cc := cX12_isOff) (maxL := 7) (ret := (some .boolean)) (by decide) rfl (Nat.le_of_ble_eq_true rfl) ?_
  intro p e s m below meth c A ls F hml hr hlocks hA hP hD hS hl
  have F : ac_X p s m [.ref (ad 85), .int p0, .int p1, .int p2].toArray c cX12_isOff RX12 TB (dC, dI) vwCl (ac_ty cA) := ⟨F.1, F.2.1, fun w h => F.2.2.1 w (List.mem_cons_of_mem _ h), F.2.2.2.1, F.2.2.2.2⟩
  have hl : lv_has ls 7 [(0, .ref (ad 85)), (1, .int p0), (2, .int p1), (3, .int p2)] := hl
  have L131 : ∀ (H : Heap) (locs : List Loc) (ls : Array Slot), (1 : Int) ≤ (u0.1 87 123).toInt ∧ (u0.1 87 123).toInt ≤ 80 → va_P (dC, dI) vwCl (ac_w ad cA (TT nF) u0) H → va_D A (ac_w ad cA (TT nF) u0) → va_S A s.heap H locs → lv_has ls 7 [] → W p l e (ac_rm 3) s m [.ref (ad 85), .int p0, .int p1, .int p2].toArray below meth c H locs 0 0 (MQ below (va_Qi (fun (r : Int32) (u : ac_U) => u = u0 ∧ ((0 : Int) ≤ r.toInt ∧ r.toInt ≤ 1)) (ac_B (dC, dI) vwCl (ac_ty cA) ad cA (TT nF) A) A) [.ref (ad 85), .int p0, .int p1, .int p2].toArray s 0 0 A) (F0 m 131 ls []) := by
    intro H locs ls f0 hP hD hS hl
    refine a_ic F (1 : Int32) dX12_isOff_131 (by decide) ?_
    exact a_retz F hr hlocks hP hD hS dX12_isOff_132 (Or.inr rfl) ⟨rfl, (by decide)⟩
  have L3 : ∀ (n3 : Nat) (x4 : Int32) (H : Heap) (locs : List Loc) (ls : Array Slot), 80 - x4.toInt < (n3 : Int) → (0 : Int) ≤ x4.toInt ∧ x4.toInt ≤ 80 → va_P (dC, dI) vwCl (ac_w ad cA (TT nF) u0) H → va_D A (ac_w ad cA (TT nF) u0) → va_S A s.heap H locs → lv_has ls 7 [(0, .ref (ad 85)), (1, .int p0), (2, .int p1), (3, .int p2), (4, .int x4)] → W p l e (ac_rm 3) s m [.ref (ad 85), .int p0, .int p1, .int p2].toArray below meth c H locs 0 0 (MQ below (va_Qi (fun (r : Int32) (u : ac_U) => u = u0 ∧ ((0 : Int) ≤ r.toInt ∧ r.toInt ≤ 1)) (ac_B (dC, dI) vwCl (ac_ty cA) ad cA (TT nF) A) A) [.ref (ad 85), .int p0, .int p1, .int p2].toArray s 0 0 A) (F0 m 3 ls []) := by
    intro n3
    induction n3 with
    | zero => intro x4 H locs ls hn3 f0 hP hD hS hl; exfalso; omega
    | succ n3 ih3 =>
      intro x4 H locs ls hn3 f0 hP hD hS hl
      have L133 : ∀ (x4 : Int32) (H : Heap) (locs : List Loc) (ls : Array Slot), (0 : Int) ≤ x4.toInt ∧ x4.toInt ≤ 79 → (1 : Int) ≤ (u0.1 87 123).toInt ∧ (u0.1 87 123).toInt ≤ 80 → 80 - x4.toInt + 0 < ((n3 : Nat) : Int) + 1 → va_P (dC, dI) vwCl (ac_w ad cA (TT nF) u0) H → va_D A (ac_w ad cA (TT nF) u0) → va_S A s.heap H locs → lv_has ls 7 [(0, .ref (ad 85)), (1, .int p0), (2, .int p1), (3, .int p2), (4, .int x4)] → W p l e (ac_rm 3) s m [.ref (ad 85), .int p0, .int p1, .int p2].toArray below meth c H locs 0 0 (MQ below (va_Qi (fun (r : Int32) (u : ac_U) => u = u0 ∧ ((0 : Int) ≤ r.toInt ∧ r.toInt ≤ 1)) (ac_B (dC, dI) vwCl (ac_ty cA) ad cA (TT nF) A) A) [.ref (ad 85), .int p0, .int p1, .int p2].toArray s 0 0 A) (F0 m 133 ls []) := by
        intro x4 H locs ls f0 f1 f2 hP hD hS hl
        refine a_iinc F (k := 4) (fun v1 => [(4, .int v1), (0, .ref (ad 85)), (1, .int p0), (2, .int p1), (3, .int p2)]) dX12_isOff_133 hl rfl rfl (by decide) (by omega) (by decide) (fun _ => rfl) (fun v1 ls hv1 hl => ?_)
        refine lv_goto (tgt := 3) F.1 F.2.1 dX12_isOff_136 (by decide) ?_
        exact ih3 v1 _ _ _ (by omega) (by omega) hP hD hS (lv_sub hl [1, 2, 3, 4, 0] rfl)
      refine lv_iload F.1 F.2.1 dX12_isOff_3 (lv_at hl 4 rfl) ?_
      refine lv_aload_n F.1 F.2.1 dX12_isOff_5 rfl (lv_at hl 0 rfl) ?_
      refine a_getr F inX12 hP 85 6 tc_85 rfl rfl (by decide) q1477 (fun _ h9 => h9) dX12_isOff_6 ?_
      refine a_bp F (123 : Int32) dX12_isOff_9 (by decide) ?_
      have g2 : (0 : Int) ≤ (u0.1 87 123).toInt ∧ (u0.1 87 123).toInt ≤ 80 := hR 87 123
      refine a_ialdK F hP 87 123 tc_87 rfl rfl (i_in ic_123 (by omega)) (v := (u0.1 87 123)) rfl dX12_isOff_11 ?_
      refine b_ge F 139 dX12_isOff_12 (by decide) rfl rfl (fun c3 => ?_) (fun c3 => ?_)
      · refine a_ic F (0 : Int32) dX12_isOff_139 (by decide) ?_
        exact a_retz F hr hlocks hP hD hS dX12_isOff_140 (Or.inl rfl) ⟨rfl, (by decide)⟩
      · refine a_sp F (148 : Int32) dX12_isOff_15 (by decide) ?_
        refine a_ic F (4 : Int32) dX12_isOff_18 (by decide) ?_
        refine lv_iload F.1 F.2.1 dX12_isOff_19 (lv_at hl 4 rfl) ?_
        refine a_imul F dX12_isOff_21 ic_4 rfl (by omega) (fun v4 hv4 => ?_)
        refine a_iadd F dX12_isOff_22 ic_148 rfl (by omega) (fun v5 hv5 => ?_)
        refine lv_istore (lv' := [(5, .int v5), (0, .ref (ad 85)), (1, .int p0), (2, .int p1), (3, .int p2), (4, .int x4)]) F.1 F.2.1 dX12_isOff_23 hl (by decide) rfl (fun ls hl => ?_)
        refine lv_aload_n F.1 F.2.1 dX12_isOff_25 rfl (lv_at hl 1 rfl) ?_
        refine a_getr F inX12 hP 85 6 tc_85 rfl rfl (by decide) q1477 (fun _ h9 => h9) dX12_isOff_26 ?_
        refine lv_iload F.1 F.2.1 dX12_isOff_29 (lv_at hl 0 rfl) ?_
        refine a_iald F hP 87 tc_87 rfl (i_in rfl (by omega)) dX12_isOff_31 (fun v6 ev6 => ?_)
        refine lv_iload_n F.1 F.2.1 dX12_isOff_32 rfl (lv_at hl 4 rfl) ?_
        refine lv_aload_n F.1 F.2.1 dX12_isOff_33 rfl (lv_at hl 1 rfl) ?_
        refine a_getr F inX12 hP 85 6 tc_85 rfl rfl (by decide) q1477 (fun _ h9 => h9) dX12_isOff_34 ?_
        refine a_ic F (0 : Int32) dX12_isOff_37 (by decide) ?_
        have g7 : (4 : Int) ≤ (u0.1 87 0).toInt ∧ (u0.1 87 0).toInt ≤ 24 := hR 87 0
        refine a_ialdK F hP 87 0 tc_87 rfl rfl (i_in ic_0 (by omega)) (v := (u0.1 87 0)) rfl dX12_isOff_38 ?_
        have kv8 := i_mulb (x := p2.toInt) (y := (u0.1 87 0).toInt) (a0 := 0) (a1 := 121) (b0 := 4) (b1 := 24) (by omega) (by omega) (by omega)
        refine a_imul F dX12_isOff_39 rfl rfl (by omega) (fun v8 hv8 => ?_)
        refine a_isubU F dX12_isOff_40 (fun v9 => ?_)
        refine lv_istore (lv' := [(6, .int v9), (5, .int v5), (0, .ref (ad 85)), (1, .int p0), (2, .int p1), (3, .int p2), (4, .int x4)]) F.1 F.2.1 dX12_isOff_41 hl (by decide) rfl (fun ls hl => ?_)
        refine lv_aload_n F.1 F.2.1 dX12_isOff_43 rfl (lv_at hl 2 rfl) ?_
        refine a_getr F inX12 hP 85 6 tc_85 rfl rfl (by decide) q1477 (fun _ h9 => h9) dX12_isOff_44 ?_
        refine lv_iload F.1 F.2.1 dX12_isOff_47 (lv_at hl 1 rfl) ?_
        refine a_ic F (2 : Int32) dX12_isOff_49 (by decide) ?_
        refine a_iadd F dX12_isOff_50 rfl ic_2 (by omega) (fun v10 hv10 => ?_)
        refine a_iald F hP 87 tc_87 rfl (i_in rfl (by omega)) dX12_isOff_51 (fun v11 ev11 => ?_)
        refine lv_aload_n F.1 F.2.1 dX12_isOff_52 rfl (lv_at hl 2 rfl) ?_
        refine a_getr F inX12 hP 85 6 tc_85 rfl rfl (by decide) q1477 (fun _ h9 => h9) dX12_isOff_53 ?_
        refine a_bp F (82 : Int32) dX12_isOff_56 (by decide) ?_
        refine lv_iload_n F.1 F.2.1 dX12_isOff_58 rfl (lv_at hl 3 rfl) ?_
        refine a_iadd F dX12_isOff_59 ic_82 rfl (by omega) (fun v12 hv12 => ?_)
        refine a_iald F hP 87 tc_87 rfl (i_in rfl (by omega)) dX12_isOff_60 (fun v13 ev13 => ?_)
        refine a_ic F (1 : Int32) dX12_isOff_61 (by decide) ?_
        refine a_isubU F dX12_isOff_62 (fun v14 => ?_)
        refine b_ne F 133 dX12_isOff_63 (by decide) rfl rfl (fun c15 => ?_) (fun c15 => ?_)
        · exact L133 x4 _ _ _ (by omega) (by omega : (1 : Int) ≤ (u0.1 87 123).toInt ∧ (u0.1 87 123).toInt ≤ 80) (by omega) hP hD hS (lv_sub hl [2, 3, 4, 5, 6] rfl)
        · refine lv_aload_n F.1 F.2.1 dX12_isOff_66 rfl (lv_at hl 2 rfl) ?_
          refine a_getr F inX12 hP 85 6 tc_85 rfl rfl (by decide) q1477 (fun _ h9 => h9) dX12_isOff_67 ?_
          refine lv_iload F.1 F.2.1 dX12_isOff_70 (lv_at hl 1 rfl) ?_
          refine a_iald F hP 87 tc_87 rfl (i_in rfl (by omega)) dX12_isOff_72 (fun v16 ev16 => ?_)
          refine lv_aload_n F.1 F.2.1 dX12_isOff_73 rfl (lv_at hl 2 rfl) ?_
          refine a_getr F inX12 hP 85 6 tc_85 rfl rfl (by decide) q1477 (fun _ h9 => h9) dX12_isOff_74 ?_
          refine a_bp F (124 : Int32) dX12_isOff_77 (by decide) ?_
          refine lv_iload_n F.1 F.2.1 dX12_isOff_79 rfl (lv_at hl 3 rfl) ?_
          refine a_iadd F dX12_isOff_80 ic_124 rfl (by omega) (fun v17 hv17 => ?_)
          refine a_iald F hP 87 tc_87 rfl (i_in rfl (by omega)) dX12_isOff_81 (fun v18 ev18 => ?_)
          have hv18 : (0 : Int) ≤ v18.toInt ∧ v18.toInt ≤ 481 := rg_seg_87_124_131 hR ev18 (by omega)
          refine a_ic F (1 : Int32) dX12_isOff_82 (by decide) ?_
          refine a_isub F dX12_isOff_83 rfl ic_1 (by omega) (fun v19 hv19 => ?_)
          refine b_lt F 133 dX12_isOff_84 (by decide) rfl rfl (fun c20 => ?_) (fun c20 => ?_)
          · exact L133 x4 _ _ _ (by omega) (by omega : (1 : Int) ≤ (u0.1 87 123).toInt ∧ (u0.1 87 123).toInt ≤ 80) (by omega) hP hD hS (lv_sub hl [2, 3, 4, 5, 6] rfl)
          · refine lv_iload F.1 F.2.1 dX12_isOff_87 (lv_at hl 0 rfl) ?_
            refine a_ic F (0 : Int32) dX12_isOff_89 (by decide) ?_
            refine lv_aload_n F.1 F.2.1 dX12_isOff_90 rfl (lv_at hl 2 rfl) ?_
            refine lv_iload_n F.1 F.2.1 dX12_isOff_91 rfl (lv_at hl 3 rfl) ?_
            refine lv_iload_n F.1 F.2.1 dX12_isOff_92 rfl (lv_at hl 4 rfl) ?_
            refine a_Vi F hml hl.1 hA hP hD hS (As := [.int p0, .int p1]) (c_X12_lastOf_85 l dC dI ad cA nF _ p0 p1 hR (by omega) (by omega)) (cs_RX12_298 (d := 2) F.2.2.1 (by decide)) tc_85 rfl rfl rfl rfl (Nat.le_of_ble_eq_true rfl) dX12_isOff_93 ⟨Nat.le_refl 0, Nat.le_refl 0⟩ (fun r21 uN21 H locs hq hP hD hS => ?_)
            obtain ⟨hu21, gr21⟩ := hq
            rw [hu21] at hP hD
            refine a_Si F hml hl.1 hA hP hD hS (As := [.int v9, .int (0 : Int32), .int r21]) (c_X12_isIn l dC dI ad cA nF _ v9 (0 : Int32) r21 hR (by omega)) (cs_RX12_187 (d := 1) F.2.2.1 (by decide)) rfl rfl (Nat.le_of_ble_eq_true rfl) dX12_isOff_96 ⟨Nat.le_refl 0, Nat.le_refl 0⟩ (fun r22 uN22 H locs hq hP hD hS => ?_)
            obtain ⟨hu22, gr22, xr22⟩ := hq
            rw [hu22] at hP hD
            have xr22 : r22.toInt ≠ 0 → (0 : Int) ≤ v9.toInt ∧ v9.toInt ≤ r21.toInt := xr22
            refine z_eq F 133 dX12_isOff_99 (by decide) rfl (fun c23 => ?_) (fun c23 => ?_)
            · exact L133 x4 _ _ _ (by omega) (by omega : (1 : Int) ≤ (u0.1 87 123).toInt ∧ (u0.1 87 123).toInt ≤ 80) (by omega) hP hD hS (lv_sub hl [2, 3, 4, 5, 6] rfl)
            · refine lv_iload_n F.1 F.2.1 dX12_isOff_102 rfl (lv_at hl 4 rfl) ?_
              refine a_ic F (1 : Int32) dX12_isOff_103 (by decide) ?_
              refine a_Si F hml hl.1 hA hP hD hS (As := [.int p1, .int (1 : Int32)]) (c_X12_bitOf l dC dI ad cA nF _ p1 (1 : Int32) hR) (cs_RX12_223 (d := 1) F.2.2.1 (by decide)) rfl rfl (Nat.le_of_ble_eq_true rfl) dX12_isOff_104 ⟨Nat.le_refl 0, Nat.le_refl 0⟩ (fun r24 uN24 H locs hq hP hD hS => ?_)
              obtain ⟨hu24, gr24⟩ := hq
              rw [hu24] at hP hD
              refine z_eq F 131 dX12_isOff_107 (by decide) rfl (fun c25 => ?_) (fun c25 => ?_)
              · exact L131 _ _ _ (by omega : (1 : Int) ≤ (u0.1 87 123).toInt ∧ (u0.1 87 123).toInt ≤ 80) hP hD hS (lv_sub hl [] rfl)
              · refine lv_aload_n F.1 F.2.1 dX12_isOff_110 rfl (lv_at hl 2 rfl) ?_
                refine a_getr F inX12 hP 85 6 tc_85 rfl rfl (by decide) q1477 (fun _ h9 => h9) dX12_isOff_111 ?_
                refine lv_iload F.1 F.2.1 dX12_isOff_114 (lv_at hl 1 rfl) ?_
                refine a_ic F (1 : Int32) dX12_isOff_116 (by decide) ?_
                refine a_iadd F dX12_isOff_117 rfl ic_1 (by omega) (fun v26 hv26 => ?_)
                refine a_iald F hP 87 tc_87 rfl (i_in rfl (by omega)) dX12_isOff_118 (fun v27 ev27 => ?_)
                refine lv_aload_n F.1 F.2.1 dX12_isOff_119 rfl (lv_at hl 2 rfl) ?_
                refine a_getr F inX12 hP 85 6 tc_85 rfl rfl (by decide) q1477 (fun _ h9 => h9) dX12_isOff_120 ?_
                refine a_bp F (26 : Int32) dX12_isOff_123 (by decide) ?_
                refine lv_iload_n F.1 F.2.1 dX12_isOff_125 rfl (lv_at hl 3 rfl) ?_
                refine a_iadd F dX12_isOff_126 ic_26 rfl (by omega) (fun v28 hv28 => ?_)
                refine a_iald F hP 87 tc_87 rfl (i_in rfl (by omega)) dX12_isOff_127 (fun v29 ev29 => ?_)
                refine b_ne F 133 dX12_isOff_128 (by decide) rfl rfl (fun c30 => ?_) (fun c30 => ?_)
                · exact L133 x4 _ _ _ (by omega) (by omega : (1 : Int) ≤ (u0.1 87 123).toInt ∧ (u0.1 87 123).toInt ≤ 80) (by omega) hP hD hS (lv_sub hl [2, 3, 4, 5, 6] rfl)
                · exact L131 _ _ _ (by omega : (1 : Int) ≤ (u0.1 87 123).toInt ∧ (u0.1 87 123).toInt ≤ 80) hP hD hS (lv_sub hl [] rfl)
  refine a_ic F (0 : Int32) dX12_isOff_0 (by decide) ?_
  refine lv_istore (lv' := [(4, .int (0 : Int32)), (0, .ref (ad 85)), (1, .int p0), (2, .int p1), (3, .int p2)]) F.1 F.2.1 dX12_isOff_1 hl (by decide) rfl (fun ls hl => ?_)
  exact L3 82 (0 : Int32) _ _ _ (by decide) (by decide) hP hD hS (lv_sub hl [1, 2, 3, 4, 0] rfl)
set_option maxHeartbeats 600000 in
set_option maxRecDepth 100000 in
theorem c_X12_brokenOf_85 (l : Launch) (dC : Nat → ClassId) (dI : Nat → Nat → Nat) (ad : Nat → Nat) (cA : Nat → ClassId) (nF : Nat) (u0 : ac_U) (p0 : Int32) (p1 : Int32) (hR : ac_R rg u0) (hp0 : (0 : Int) ≤ p0.toInt ∧ p0.toInt ≤ 7) (hp1 : (0 : Int) ≤ p1.toInt ∧ p1.toInt ≤ 7) : ac_Mi l yX12_brokenOf (.code yX12_brokenOf cX12_brokenOf 5 (some .int) :: TB) 5 (dC, dI) vwCl (ac_ty cA) ad cA (TT nF) [.ref (ad 85), .int p0, .int p1] u0 (fun (r : Int32) (u : ac_U) => u = u0 ∧ ((-1 : Int) ≤ r.toInt ∧ r.toInt ≤ 19)) := by
  refine ac_Mi.of (cc := cX12_brokenOf) (maxL := 5) (ret := (some .int)) (by decide) rfl (Nat.le_of_ble_eq_true rfl) ?_
  intro p e s m below meth c A ls F hml hr hlocks hA hP hD hS hl
  have F : ac_X p s m [.ref (ad 85), .int p0, .int p1].toArray c cX12_brokenOf RX12 TB (dC, dI) vwCl (ac_ty cA) := ⟨F.1, F.2.1, fun w h => F.2.2.1 w (List.mem_cons_of_mem _ h), F.2.2.2.1, F.2.2.2.2⟩
  have hl : lv_has ls 5 [(0, .ref (ad 85)), (1, .int p0), (2, .int p1)] := hl
  have L110 : ∀ (H : Heap) (locs : List Loc) (ls : Array Slot), va_P (dC, dI) vwCl (ac_w ad cA (TT nF) u0) H → va_D A (ac_w ad cA (TT nF) u0) → va_S A s.heap H locs → lv_has ls 5 [] → W p l e (ac_rm 5) s m [.ref (ad 85), .int p0, .int p1].toArray below meth c H locs 0 0 (MQ below (va_Qi (fun (r : Int32) (u : ac_U) => u = u0 ∧ ((-1 : Int) ≤ r.toInt ∧ r.toInt ≤ 19)) (ac_B (dC, dI) vwCl (ac_ty cA) ad cA (TT nF) A) A) [.ref (ad 85), .int p0, .int p1].toArray s 0 0 A) (F0 m 110 ls []) := by
    intro H locs ls hP hD hS hl
    refine a_ic F (-1 : Int32) dX12_brokenOf_110 (by decide) ?_
    exact a_reti F hr hlocks hP hD hS dX12_brokenOf_111 ⟨rfl, (by decide)⟩
  have L25 : ∀ (n25 : Nat) (x3 : Int32) (x4 : Int32) (H : Heap) (locs : List Loc) (ls : Array Slot), 121 - x4.toInt < (n25 : Int) → (0 : Int) ≤ x3.toInt ∧ x3.toInt ≤ 121 → (0 : Int) ≤ x4.toInt ∧ x4.toInt ≤ 121 → va_P (dC, dI) vwCl (ac_w ad cA (TT nF) u0) H → va_D A (ac_w ad cA (TT nF) u0) → va_S A s.heap H locs → lv_has ls 5 [(0, .ref (ad 85)), (1, .int p0), (2, .int p1), (3, .int x3), (4, .int x4)] → W p l e (ac_rm 5) s m [.ref (ad 85), .int p0, .int p1].toArray below meth c H locs 0 0 (MQ below (va_Qi (fun (r : Int32) (u : ac_U) => u = u0 ∧ ((-1 : Int) ≤ r.toInt ∧ r.toInt ≤ 19)) (ac_B (dC, dI) vwCl (ac_ty cA) ad cA (TT nF) A) A) [.ref (ad 85), .int p0, .int p1].toArray s 0 0 A) (F0 m 25 ls []) := by
    intro n25
    induction n25 with
    | zero => intro x3 x4 H locs ls hn25 f0 f1 hP hD hS hl; exfalso; omega
    | succ n25 ih25 =>
      intro x3 x4 H locs ls hn25 f0 f1 hP hD hS hl
      have L104 : ∀ (x3 : Int32) (x4 : Int32) (H : Heap) (locs : List Loc) (ls : Array Slot), (0 : Int) ≤ x3.toInt ∧ x3.toInt ≤ 121 → (0 : Int) ≤ x4.toInt ∧ x4.toInt ≤ 19 → 121 - x4.toInt + 0 < ((n25 : Nat) : Int) + 1 → va_P (dC, dI) vwCl (ac_w ad cA (TT nF) u0) H → va_D A (ac_w ad cA (TT nF) u0) → va_S A s.heap H locs → lv_has ls 5 [(0, .ref (ad 85)), (1, .int p0), (2, .int p1), (3, .int x3), (4, .int x4)] → W p l e (ac_rm 5) s m [.ref (ad 85), .int p0, .int p1].toArray below meth c H locs 0 0 (MQ below (va_Qi (fun (r : Int32) (u : ac_U) => u = u0 ∧ ((-1 : Int) ≤ r.toInt ∧ r.toInt ≤ 19)) (ac_B (dC, dI) vwCl (ac_ty cA) ad cA (TT nF) A) A) [.ref (ad 85), .int p0, .int p1].toArray s 0 0 A) (F0 m 104 ls []) := by
        intro x3 x4 H locs ls f0 f1 f2 hP hD hS hl
        refine a_iinc F (k := 4) (fun v1 => [(4, .int v1), (0, .ref (ad 85)), (1, .int p0), (2, .int p1), (3, .int x3)]) dX12_brokenOf_104 hl rfl rfl (by decide) (by omega) (by decide) (fun _ => rfl) (fun v1 ls hv1 hl => ?_)
        refine lv_goto (tgt := 25) F.1 F.2.1 dX12_brokenOf_107 (by decide) ?_
        exact ih25 x3 v1 _ _ _ (by omega) (by omega) (by omega) hP hD hS (lv_sub hl [1, 2, 3, 4, 0] rfl)
      have L51 : ∀ (x3 : Int32) (x4 : Int32) (H : Heap) (locs : List Loc) (ls : Array Slot), (0 : Int) ≤ x3.toInt ∧ x3.toInt ≤ 121 → (0 : Int) ≤ x4.toInt ∧ x4.toInt ≤ 19 → 121 - x4.toInt + 0 < ((n25 : Nat) : Int) + 1 → va_P (dC, dI) vwCl (ac_w ad cA (TT nF) u0) H → va_D A (ac_w ad cA (TT nF) u0) → va_S A s.heap H locs → lv_has ls 5 [(0, .ref (ad 85)), (1, .int p0), (2, .int p1), (3, .int x3), (4, .int x4)] → W p l e (ac_rm 5) s m [.ref (ad 85), .int p0, .int p1].toArray below meth c H locs 0 0 (MQ below (va_Qi (fun (r : Int32) (u : ac_U) => u = u0 ∧ ((-1 : Int) ≤ r.toInt ∧ r.toInt ≤ 19)) (ac_B (dC, dI) vwCl (ac_ty cA) ad cA (TT nF) A) A) [.ref (ad 85), .int p0, .int p1].toArray s 0 0 A) (F0 m 51 ls []) := by
        intro x3 x4 H locs ls f0 f1 f2 hP hD hS hl
        refine lv_aload_n F.1 F.2.1 dX12_brokenOf_51 rfl (lv_at hl 0 rfl) ?_
        refine a_getr F inX12 hP 85 6 tc_85 rfl rfl (by decide) q1477 (fun _ h9 => h9) dX12_brokenOf_52 ?_
        refine a_bp F (106 : Int32) dX12_brokenOf_55 (by decide) ?_
        have g2 : (0 : Int) ≤ (u0.1 87 106).toInt ∧ (u0.1 87 106).toInt ≤ 480 := hR 87 106
        refine a_ialdK F hP 87 106 tc_87 rfl rfl (i_in ic_106 (by omega)) (v := (u0.1 87 106)) rfl dX12_brokenOf_57 ?_
        refine lv_iload F.1 F.2.1 dX12_brokenOf_58 (lv_at hl 4 rfl) ?_
        refine lv_aload_n F.1 F.2.1 dX12_brokenOf_60 rfl (lv_at hl 0 rfl) ?_
        refine a_getr F inX12 hP 85 6 tc_85 rfl rfl (by decide) q1477 (fun _ h9 => h9) dX12_brokenOf_61 ?_
        refine a_ic F (0 : Int32) dX12_brokenOf_64 (by decide) ?_
        have g3 : (4 : Int) ≤ (u0.1 87 0).toInt ∧ (u0.1 87 0).toInt ≤ 24 := hR 87 0
        refine a_ialdK F hP 87 0 tc_87 rfl rfl (i_in ic_0 (by omega)) (v := (u0.1 87 0)) rfl dX12_brokenOf_65 ?_
        have kv4 := i_mulb (x := x4.toInt) (y := (u0.1 87 0).toInt) (a0 := 0) (a1 := 19) (b0 := 4) (b1 := 24) (by omega) (by omega) (by omega)
        refine a_imul F dX12_brokenOf_66 rfl rfl (by omega) (fun v4 hv4 => ?_)
        refine lv_aload_n F.1 F.2.1 dX12_brokenOf_67 rfl (lv_at hl 0 rfl) ?_
        refine lv_iload_n F.1 F.2.1 dX12_brokenOf_68 rfl (lv_at hl 1 rfl) ?_
        refine lv_iload_n F.1 F.2.1 dX12_brokenOf_69 rfl (lv_at hl 2 rfl) ?_
        refine a_Vi F hml hl.1 hA hP hD hS (As := [.int p0, .int p1]) (c_X12_lastOf_85 l dC dI ad cA nF _ p0 p1 hR (by omega) (by omega)) (cs_RX12_298 (d := 2) F.2.2.1 (by decide)) tc_85 rfl rfl rfl rfl (Nat.le_of_ble_eq_true rfl) dX12_brokenOf_70 ⟨Nat.le_refl 0, Nat.le_refl 0⟩ (fun r5 uN5 H locs hq hP hD hS => ?_)
        obtain ⟨hu5, gr5⟩ := hq
        rw [hu5] at hP hD
        refine a_iadd F dX12_brokenOf_73 rfl rfl (by have q0 := i_lo r5; omega) (fun v6 hv6 => ?_)
        refine b_gt F 79 dX12_brokenOf_74 (by decide) rfl rfl (fun c7 => ?_) (fun c7 => ?_)
        · refine lv_aload_n F.1 F.2.1 dX12_brokenOf_79 rfl (lv_at hl 0 rfl) ?_
          refine lv_iload_n F.1 F.2.1 dX12_brokenOf_80 rfl (lv_at hl 1 rfl) ?_
          refine lv_iload_n F.1 F.2.1 dX12_brokenOf_81 rfl (lv_at hl 2 rfl) ?_
          refine lv_iload F.1 F.2.1 dX12_brokenOf_82 (lv_at hl 4 rfl) ?_
          refine a_Vi F hml hl.1 hA hP hD hS (As := [.int p0, .int p1, .int x4]) (c_X12_isKept_85 l dC dI ad cA nF _ p0 p1 x4 hR (by omega) (by omega) (by omega)) (cs_RX12_308 (d := 4) F.2.2.1 (by decide)) tc_85 rfl rfl rfl rfl (Nat.le_of_ble_eq_true rfl) dX12_brokenOf_84 ⟨Nat.le_refl 0, Nat.le_refl 0⟩ (fun r8 uN8 H locs hq hP hD hS => ?_)
          obtain ⟨hu8, gr8⟩ := hq
          rw [hu8] at hP hD
          refine z_ne F 104 dX12_brokenOf_87 (by decide) rfl (fun c9 => ?_) (fun c9 => ?_)
          · exact L104 x3 x4 _ _ _ (by omega) (by omega) (by omega) hP hD hS (lv_sub hl [0, 1, 2, 3, 4] rfl)
          · refine lv_aload_n F.1 F.2.1 dX12_brokenOf_90 rfl (lv_at hl 0 rfl) ?_
            refine lv_iload_n F.1 F.2.1 dX12_brokenOf_91 rfl (lv_at hl 1 rfl) ?_
            refine lv_iload_n F.1 F.2.1 dX12_brokenOf_92 rfl (lv_at hl 2 rfl) ?_
            refine lv_iload F.1 F.2.1 dX12_brokenOf_93 (lv_at hl 4 rfl) ?_
            refine a_Vi F hml hl.1 hA hP hD hS (As := [.int p0, .int p1, .int x4]) (c_X12_isOff_85 l dC dI ad cA nF _ p0 p1 x4 hR (by omega) (by omega) (by omega)) (cs_RX12_311 (d := 3) F.2.2.1 (by decide)) tc_85 rfl rfl rfl rfl (Nat.le_of_ble_eq_true rfl) dX12_brokenOf_95 ⟨Nat.le_refl 0, Nat.le_refl 0⟩ (fun r10 uN10 H locs hq hP hD hS => ?_)
            obtain ⟨hu10, gr10⟩ := hq
            rw [hu10] at hP hD
            refine z_ne F 104 dX12_brokenOf_98 (by decide) rfl (fun c11 => ?_) (fun c11 => ?_)
            · exact L104 x3 x4 _ _ _ (by omega) (by omega) (by omega) hP hD hS (lv_sub hl [0, 1, 2, 3, 4] rfl)
            · refine lv_iload F.1 F.2.1 dX12_brokenOf_101 (lv_at hl 4 rfl) ?_
              exact a_reti F hr hlocks hP hD hS dX12_brokenOf_103 ⟨rfl, (by omega : (-1 : Int) ≤ x4.toInt ∧ x4.toInt ≤ 19)⟩
        · refine a_ic F (-1 : Int32) dX12_brokenOf_77 (by decide) ?_
          exact a_reti F hr hlocks hP hD hS dX12_brokenOf_78 ⟨rfl, (by decide)⟩
      refine lv_iload F.1 F.2.1 dX12_brokenOf_25 (lv_at hl 4 rfl) ?_
      refine a_bp F (20 : Int32) dX12_brokenOf_27 (by decide) ?_
      refine b_ge F 110 dX12_brokenOf_29 (by decide) rfl ic_20 (fun c12 => ?_) (fun c12 => ?_)
      · exact L110 _ _ _  hP hD hS (lv_sub hl [] rfl)
      · refine lv_iload F.1 F.2.1 dX12_brokenOf_32 (lv_at hl 4 rfl) ?_
        refine lv_iload_n F.1 F.2.1 dX12_brokenOf_34 rfl (lv_at hl 3 rfl) ?_
        refine b_eq F 51 dX12_brokenOf_35 (by decide) rfl rfl (fun c13 => ?_) (fun c13 => ?_)
        · exact L51 x3 x4 _ _ _ (by omega) (by omega) (by omega) hP hD hS (lv_sub hl [0, 1, 2, 3, 4] rfl)
        · refine lv_aload_n F.1 F.2.1 dX12_brokenOf_38 rfl (lv_at hl 0 rfl) ?_
          refine a_getr F inX12 hP 85 6 tc_85 rfl rfl (by decide) q1477 (fun _ h9 => h9) dX12_brokenOf_39 ?_
          refine a_bp F (74 : Int32) dX12_brokenOf_42 (by decide) ?_
          refine lv_iload_n F.1 F.2.1 dX12_brokenOf_44 rfl (lv_at hl 1 rfl) ?_
          refine a_iadd F dX12_brokenOf_45 ic_74 rfl (by omega) (fun v14 hv14 => ?_)
          refine a_iald F hP 87 tc_87 rfl (i_in rfl (by omega)) dX12_brokenOf_46 (fun v15 ev15 => ?_)
          refine a_ic F (1 : Int32) dX12_brokenOf_47 (by decide) ?_
          refine b_ne F 110 dX12_brokenOf_48 (by decide) rfl ic_1 (fun c16 => ?_) (fun c16 => ?_)
          · exact L110 _ _ _  hP hD hS (lv_sub hl [] rfl)
          · exact L51 x3 x4 _ _ _ (by omega) (by omega) (by omega) hP hD hS (lv_sub hl [0, 1, 2, 3, 4] rfl)
  refine lv_aload_n F.1 F.2.1 dX12_brokenOf_0 rfl (lv_at hl 0 rfl) ?_
  refine a_getr F inX12 hP 85 6 tc_85 rfl rfl (by decide) q1477 (fun _ h9 => h9) dX12_brokenOf_1 ?_
  refine a_sp F (132 : Int32) dX12_brokenOf_4 (by decide) ?_
  refine lv_iload_n F.1 F.2.1 dX12_brokenOf_7 rfl (lv_at hl 1 rfl) ?_
  refine a_iadd F dX12_brokenOf_8 ic_132 rfl (by omega) (fun v17 hv17 => ?_)
  refine a_iald F hP 87 tc_87 rfl (i_in rfl (by omega)) dX12_brokenOf_9 (fun v18 ev18 => ?_)
  refine z_ne F 15 dX12_brokenOf_10 (by decide) rfl (fun c19 => ?_) (fun c19 => ?_)
  · refine lv_aload_n F.1 F.2.1 dX12_brokenOf_15 rfl (lv_at hl 0 rfl) ?_
    refine lv_iload_n F.1 F.2.1 dX12_brokenOf_16 rfl (lv_at hl 1 rfl) ?_
    refine lv_iload_n F.1 F.2.1 dX12_brokenOf_17 rfl (lv_at hl 2 rfl) ?_
    refine a_Vi F hml hl.1 hA hP hD hS (As := [.int p0, .int p1]) (c_X12_dueOf_85 l dC dI ad cA nF _ p0 p1 hR (by omega) (by omega)) (cs_RX12_305 (d := 3) F.2.2.1 (by decide)) tc_85 rfl rfl rfl rfl (Nat.le_of_ble_eq_true rfl) dX12_brokenOf_18 ⟨Nat.le_refl 0, Nat.le_refl 0⟩ (fun r20 uN20 H locs hq hP hD hS => ?_)
    obtain ⟨hu20, gr20⟩ := hq
    rw [hu20] at hP hD
    refine lv_istore_n (lv' := [(3, .int r20), (0, .ref (ad 85)), (1, .int p0), (2, .int p1)]) F.1 F.2.1 dX12_brokenOf_21 rfl hl (by decide) rfl (fun ls hl => ?_)
    refine lv_iload_n F.1 F.2.1 dX12_brokenOf_22 rfl (lv_at hl 0 rfl) ?_
    refine lv_istore (lv' := [(4, .int r20), (3, .int r20), (0, .ref (ad 85)), (1, .int p0), (2, .int p1)]) F.1 F.2.1 dX12_brokenOf_23 hl (by decide) rfl (fun ls hl => ?_)
    exact L25 123 r20 r20 _ _ _ (by omega) (by omega) (by omega) hP hD hS (lv_sub hl [2, 3, 4, 1, 0] rfl)
  · refine a_ic F (-1 : Int32) dX12_brokenOf_13 (by decide) ?_
    exact a_reti F hr hlocks hP hD hS dX12_brokenOf_14 ⟨rfl, (by decide)⟩
set_option maxHeartbeats 600000 in
set_option maxRecDepth 100000 in
theorem c_X12_statusOf_85 (l : Launch) (dC : Nat → ClassId) (dI : Nat → Nat → Nat) (ad : Nat → Nat) (cA : Nat → ClassId) (nF : Nat) (u0 : ac_U) (p0 : Int32) (p1 : Int32) (hR : ac_R rg u0) (hp0 : (0 : Int) ≤ p0.toInt ∧ p0.toInt ≤ 7) (hp1 : (0 : Int) ≤ p1.toInt ∧ p1.toInt ≤ 7) : ac_Mi l yX12_statusOf (.code yX12_statusOf cX12_statusOf 4 (some .int) :: TB) 6 (dC, dI) vwCl (ac_ty cA) ad cA (TT nF) [.ref (ad 85), .int p0, .int p1] u0 (fun (r : Int32) (u : ac_U) => u = u0 ∧ ((0 : Int) ≤ r.toInt ∧ r.toInt ≤ 4)) := by
  refine ac_Mi.of (cc := cX12_statusOf) (maxL := 4) (ret := (some .int)) (by decide) rfl (Nat.le_of_ble_eq_true rfl) ?_
  intro p e s m below meth c A ls F hml hr hlocks hA hP hD hS hl
  have F : ac_X p s m [.ref (ad 85), .int p0, .int p1].toArray c cX12_statusOf RX12 TB (dC, dI) vwCl (ac_ty cA) := ⟨F.1, F.2.1, fun w h => F.2.2.1 w (List.mem_cons_of_mem _ h), F.2.2.2.1, F.2.2.2.2⟩
  have hl : lv_has ls 4 [(0, .ref (ad 85)), (1, .int p0), (2, .int p1)] := hl
  have L52 : ∀ (H : Heap) (locs : List Loc) (ls : Array Slot), va_P (dC, dI) vwCl (ac_w ad cA (TT nF) u0) H → va_D A (ac_w ad cA (TT nF) u0) → va_S A s.heap H locs → lv_has ls 4 [] → W p l e (ac_rm 6) s m [.ref (ad 85), .int p0, .int p1].toArray below meth c H locs 0 0 (MQ below (va_Qi (fun (r : Int32) (u : ac_U) => u = u0 ∧ ((0 : Int) ≤ r.toInt ∧ r.toInt ≤ 4)) (ac_B (dC, dI) vwCl (ac_ty cA) ad cA (TT nF) A) A) [.ref (ad 85), .int p0, .int p1].toArray s 0 0 A) (F0 m 52 ls []) := by
    intro H locs ls hP hD hS hl
    refine a_ic F (1 : Int32) dX12_statusOf_52 (by decide) ?_
    exact a_reti F hr hlocks hP hD hS dX12_statusOf_53 ⟨rfl, (by decide)⟩
  refine lv_aload_n F.1 F.2.1 dX12_statusOf_0 rfl (lv_at hl 0 rfl) ?_
  refine a_getr F inX12 hP 85 6 tc_85 rfl rfl (by decide) q1477 (fun _ h9 => h9) dX12_statusOf_1 ?_
  refine a_sp F (132 : Int32) dX12_statusOf_4 (by decide) ?_
  refine lv_iload_n F.1 F.2.1 dX12_statusOf_7 rfl (lv_at hl 1 rfl) ?_
  refine a_iadd F dX12_statusOf_8 ic_132 rfl (by omega) (fun v1 hv1 => ?_)
  refine a_iald F hP 87 tc_87 rfl (i_in rfl (by omega)) dX12_statusOf_9 (fun v2 ev2 => ?_)
  refine z_ne F 15 dX12_statusOf_10 (by decide) rfl (fun c3 => ?_) (fun c3 => ?_)
  · refine lv_aload_n F.1 F.2.1 dX12_statusOf_15 rfl (lv_at hl 0 rfl) ?_
    refine lv_iload_n F.1 F.2.1 dX12_statusOf_16 rfl (lv_at hl 1 rfl) ?_
    refine lv_iload_n F.1 F.2.1 dX12_statusOf_17 rfl (lv_at hl 2 rfl) ?_
    refine a_Vi F hml hl.1 hA hP hD hS (As := [.int p0, .int p1]) (c_X12_brokenOf_85 l dC dI ad cA nF _ p0 p1 hR (by omega) (by omega)) (cs_RX12_314 (d := 5) F.2.2.1 (by decide)) tc_85 rfl rfl rfl rfl (Nat.le_of_ble_eq_true rfl) dX12_statusOf_18 ⟨Nat.le_refl 0, Nat.le_refl 0⟩ (fun r4 uN4 H locs hq hP hD hS => ?_)
    obtain ⟨hu4, gr4⟩ := hq
    rw [hu4] at hP hD
    refine z_lt F 26 dX12_statusOf_21 (by decide) rfl (fun c5 => ?_) (fun c5 => ?_)
    · refine lv_aload_n F.1 F.2.1 dX12_statusOf_26 rfl (lv_at hl 0 rfl) ?_
      refine lv_iload_n F.1 F.2.1 dX12_statusOf_27 rfl (lv_at hl 1 rfl) ?_
      refine lv_iload_n F.1 F.2.1 dX12_statusOf_28 rfl (lv_at hl 2 rfl) ?_
      refine a_Vi F hml hl.1 hA hP hD hS (As := [.int p0, .int p1]) (c_X12_dueOf_85 l dC dI ad cA nF _ p0 p1 hR (by omega) (by omega)) (cs_RX12_305 (d := 3) F.2.2.1 (by decide)) tc_85 rfl rfl rfl rfl (Nat.le_of_ble_eq_true rfl) dX12_statusOf_29 ⟨Nat.le_refl 0, Nat.le_refl 0⟩ (fun r6 uN6 H locs hq hP hD hS => ?_)
      obtain ⟨hu6, gr6⟩ := hq
      rw [hu6] at hP hD
      refine lv_istore_n (lv' := [(3, .int r6), (0, .ref (ad 85)), (1, .int p0), (2, .int p1)]) F.1 F.2.1 dX12_statusOf_32 rfl hl (by decide) rfl (fun ls hl => ?_)
      refine lv_aload_n F.1 F.2.1 dX12_statusOf_33 rfl (lv_at hl 1 rfl) ?_
      refine a_getr F inX12 hP 85 6 tc_85 rfl rfl (by decide) q1477 (fun _ h9 => h9) dX12_statusOf_34 ?_
      refine a_bp F (74 : Int32) dX12_statusOf_37 (by decide) ?_
      refine lv_iload_n F.1 F.2.1 dX12_statusOf_39 rfl (lv_at hl 2 rfl) ?_
      refine a_iadd F dX12_statusOf_40 ic_74 rfl (by omega) (fun v7 hv7 => ?_)
      refine a_iald F hP 87 tc_87 rfl (i_in rfl (by omega)) dX12_statusOf_41 (fun v8 ev8 => ?_)
      refine a_ic F (1 : Int32) dX12_statusOf_42 (by decide) ?_
      refine b_eq F 52 dX12_statusOf_43 (by decide) rfl ic_1 (fun c9 => ?_) (fun c9 => ?_)
      · exact L52 _ _ _  hP hD hS (lv_sub hl [] rfl)
      · refine lv_iload_n F.1 F.2.1 dX12_statusOf_46 rfl (lv_at hl 0 rfl) ?_
        refine a_bp F (20 : Int32) dX12_statusOf_47 (by decide) ?_
        refine b_ne F 54 dX12_statusOf_49 (by decide) rfl ic_20 (fun c10 => ?_) (fun c10 => ?_)
        · refine lv_aload_n F.1 F.2.1 dX12_statusOf_54 rfl (lv_at hl 1 rfl) ?_
          refine lv_iload_n F.1 F.2.1 dX12_statusOf_55 rfl (lv_at hl 2 rfl) ?_
          refine lv_iload_n F.1 F.2.1 dX12_statusOf_56 rfl (lv_at hl 3 rfl) ?_
          refine lv_iload_n F.1 F.2.1 dX12_statusOf_57 rfl (lv_at hl 0 rfl) ?_
          refine a_Vi F hml hl.1 hA hP hD hS (As := [.int p0, .int p1, .int r6]) (c_X12_isKept_85 l dC dI ad cA nF _ p0 p1 r6 hR (by omega) (by omega) (by omega)) (cs_RX12_308 (d := 4) F.2.2.1 (by decide)) tc_85 rfl rfl rfl rfl (Nat.le_of_ble_eq_true rfl) dX12_statusOf_58 ⟨Nat.le_refl 0, Nat.le_refl 0⟩ (fun r11 uN11 H locs hq hP hD hS => ?_)
          obtain ⟨hu11, gr11⟩ := hq
          rw [hu11] at hP hD
          refine z_eq F 68 dX12_statusOf_61 (by decide) rfl (fun c12 => ?_) (fun c12 => ?_)
          · refine lv_aload_n F.1 F.2.1 dX12_statusOf_68 rfl (lv_at hl 1 rfl) ?_
            refine lv_iload_n F.1 F.2.1 dX12_statusOf_69 rfl (lv_at hl 2 rfl) ?_
            refine lv_iload_n F.1 F.2.1 dX12_statusOf_70 rfl (lv_at hl 3 rfl) ?_
            refine lv_iload_n F.1 F.2.1 dX12_statusOf_71 rfl (lv_at hl 0 rfl) ?_
            refine a_Vi F hml hl.1 hA hP hD hS (As := [.int p0, .int p1, .int r6]) (c_X12_isOff_85 l dC dI ad cA nF _ p0 p1 r6 hR (by omega) (by omega) (by omega)) (cs_RX12_311 (d := 3) F.2.2.1 (by decide)) tc_85 rfl rfl rfl rfl (Nat.le_of_ble_eq_true rfl) dX12_statusOf_72 ⟨Nat.le_refl 0, Nat.le_refl 0⟩ (fun r13 uN13 H locs hq hP hD hS => ?_)
            obtain ⟨hu13, gr13⟩ := hq
            rw [hu13] at hP hD
            refine z_eq F 82 dX12_statusOf_75 (by decide) rfl (fun c14 => ?_) (fun c14 => ?_)
            · refine a_ic F (1 : Int32) dX12_statusOf_82 (by decide) ?_
              exact a_reti F hr hlocks hP hD hS dX12_statusOf_83 ⟨rfl, (by decide)⟩
            · refine a_ic F (3 : Int32) dX12_statusOf_78 (by decide) ?_
              refine lv_goto (tgt := 83) F.1 F.2.1 dX12_statusOf_79 (by decide) ?_
              exact a_reti F hr hlocks hP hD hS dX12_statusOf_83 ⟨rfl, (by decide)⟩
          · refine a_ic F (2 : Int32) dX12_statusOf_64 (by decide) ?_
            refine lv_goto (tgt := 83) F.1 F.2.1 dX12_statusOf_65 (by decide) ?_
            exact a_reti F hr hlocks hP hD hS dX12_statusOf_83 ⟨rfl, (by decide)⟩
        · exact L52 _ _ _  hP hD hS (lv_sub hl [] rfl)
    · refine a_ic F (4 : Int32) dX12_statusOf_24 (by decide) ?_
      exact a_reti F hr hlocks hP hD hS dX12_statusOf_25 ⟨rfl, (by decide)⟩
  · refine a_ic F (0 : Int32) dX12_statusOf_13 (by decide) ?_
    exact a_reti F hr hlocks hP hD hS dX12_statusOf_14 ⟨rfl, (by decide)⟩
set_option maxHeartbeats 600000 in
set_option maxRecDepth 100000 in
theorem c_X12_agree_85 (l : Launch) (dC : Nat → ClassId) (dI : Nat → Nat → Nat) (ad : Nat → Nat) (cA : Nat → ClassId) (nF : Nat) (u0 : ac_U)  (hR : ac_R rg u0) : ac_Mi l yX12_agree (.code yX12_agree cX12_agree 5 (some .int) :: TB) 7 (dC, dI) vwCl (ac_ty cA) ad cA (TT nF) [.ref (ad 85)] u0 (fun (r : Int32) (u : ac_U) => ac_R rg u ∧ ac_Fr [(85, some 0)] u0 u ∧ ((0 : Int) ≤ r.toInt ∧ r.toInt ≤ 255)) := by
  refine ac_Mi.of (cc := cX12_agree) (maxL := 5) (ret := (some .int)) (by decide) rfl (Nat.le_of_ble_eq_true rfl) ?_
  intro p e s m below meth c A ls F hml hr hlocks hA hP hD hS hl
  have F : ac_X p s m [.ref (ad 85)].toArray c cX12_agree RX12 TB (dC, dI) vwCl (ac_ty cA) := ⟨F.1, F.2.1, fun w h => F.2.2.1 w (List.mem_cons_of_mem _ h), F.2.2.2.1, F.2.2.2.2⟩
  have hl : lv_has ls 5 [(0, .ref (ad 85))] := hl
  have hF : ac_Fr [(85, some 0)] u0 u0 := ac_Fr.rf
  have L9 : ∀ (n9 : Nat) (x1 : Int32) (x2 : Int32) (u : ac_U) (H : Heap) (locs : List Loc) (ls : Array Slot), ac_R rg u → ac_Fr [(85, some 0)] u0 u → 8 - x2.toInt < (n9 : Int) → (0 : Int) ≤ x1.toInt ∧ x1.toInt ≤ 255 → (0 : Int) ≤ x2.toInt ∧ x2.toInt ≤ 8 → (0 : Int) ≤ (u.1 85 0).toInt ∧ (u.1 85 0).toInt ≤ 0 → va_P (dC, dI) vwCl (ac_w ad cA (TT nF) u) H → va_D A (ac_w ad cA (TT nF) u) → va_S A s.heap H locs → lv_has ls 5 [(0, .ref (ad 85)), (1, .int x1), (2, .int x2)] → W p l e (ac_rm 7) s m [.ref (ad 85)].toArray below meth c H locs 0 0 (MQ below (va_Qi (fun (r : Int32) (u : ac_U) => ac_R rg u ∧ ac_Fr [(85, some 0)] u0 u ∧ ((0 : Int) ≤ r.toInt ∧ r.toInt ≤ 255)) (ac_B (dC, dI) vwCl (ac_ty cA) ad cA (TT nF) A) A) [.ref (ad 85)].toArray s 0 0 A) (F0 m 9 ls []) := by
    intro n9
    induction n9 with
    | zero => intro x1 x2 u H locs ls hR hF hn9 f0 f1 f2 hP hD hS hl; exfalso; omega
    | succ n9 ih9 =>
      intro x1 x2 u H locs ls hR hF hn9 f0 f1 f2 hP hD hS hl
      have L77 : ∀ (x2 : Int32) (z0 : Int32) (z1 : Int32) (u : ac_U) (H : Heap) (locs : List Loc) (ls : Array Slot), ac_R rg u → ac_Fr [(85, some 0)] u0 u → (0 : Int) ≤ x2.toInt ∧ x2.toInt ≤ 7 → (0 : Int) ≤ z0.toInt ∧ z0.toInt ≤ 255 → (0 : Int) ≤ z1.toInt ∧ z1.toInt ≤ 128 → (0 : Int) ≤ (u.1 85 0).toInt ∧ (u.1 85 0).toInt ≤ 0 → 8 - x2.toInt + 0 < ((n9 : Nat) : Int) + 1 → va_P (dC, dI) vwCl (ac_w ad cA (TT nF) u) H → va_D A (ac_w ad cA (TT nF) u) → va_S A s.heap H locs → lv_has ls 5 [(0, .ref (ad 85)), (2, .int x2)] → W p l e (ac_rm 7) s m [.ref (ad 85)].toArray below meth c H locs 0 0 (MQ below (va_Qi (fun (r : Int32) (u : ac_U) => ac_R rg u ∧ ac_Fr [(85, some 0)] u0 u ∧ ((0 : Int) ≤ r.toInt ∧ r.toInt ≤ 255)) (ac_B (dC, dI) vwCl (ac_ty cA) ad cA (TT nF) A) A) [.ref (ad 85)].toArray s 0 0 A) (F0 m 77 ls [.int z1, .int z0]) := by
        intro x2 z0 z1 u H locs ls hR hF f0 f1 f2 f3 f4 hP hD hS hl
        refine a_iorB F dX12_agree_77 rfl rfl (n := 8) (m' := 256) rfl (by decide) (by omega) (by omega) (fun v1 hv1 => ?_)
        refine lv_istore_n (lv' := [(1, .int v1), (0, .ref (ad 85)), (2, .int x2)]) F.1 F.2.1 dX12_agree_78 rfl hl (by decide) rfl (fun ls hl => ?_)
        refine a_iinc F (k := 2) (fun v2 => [(2, .int v2), (1, .int v1), (0, .ref (ad 85))]) dX12_agree_79 hl rfl rfl (by decide) (by omega) (by decide) (fun _ => rfl) (fun v2 ls hv2 hl => ?_)
        refine lv_goto (tgt := 9) F.1 F.2.1 dX12_agree_82 (by decide) ?_
        have g3 : (0 : Int) ≤ (u.1 85 0).toInt ∧ (u.1 85 0).toInt ≤ 1 := hR 85 0
        exact ih9 v1 v2 _ _ _ _ hR hF (by omega) (by omega) (by omega) (by omega : (0 : Int) ≤ (u.1 85 0).toInt ∧ (u.1 85 0).toInt ≤ 0) hP hD hS (lv_sub hl [2, 1, 0] rfl)
      have L20 : ∀ (n20 : Nat) (x1 : Int32) (x2 : Int32) (x3 : Int32) (x4 : Int32) (u : ac_U) (H : Heap) (locs : List Loc) (ls : Array Slot), ac_R rg u → ac_Fr [(85, some 0)] u0 u → 8 - x4.toInt < (n20 : Int) → (0 : Int) ≤ x1.toInt ∧ x1.toInt ≤ 255 → (0 : Int) ≤ x2.toInt ∧ x2.toInt ≤ 7 → (0 : Int) ≤ x3.toInt ∧ x3.toInt ≤ 1 → (0 : Int) ≤ x4.toInt ∧ x4.toInt ≤ 8 → (0 : Int) ≤ (u.1 85 0).toInt ∧ (u.1 85 0).toInt ≤ 0 → 8 - x2.toInt + 0 < ((n9 : Nat) : Int) + 1 → va_P (dC, dI) vwCl (ac_w ad cA (TT nF) u) H → va_D A (ac_w ad cA (TT nF) u) → va_S A s.heap H locs → lv_has ls 5 [(0, .ref (ad 85)), (1, .int x1), (2, .int x2), (3, .int x3), (4, .int x4)] → W p l e (ac_rm 7) s m [.ref (ad 85)].toArray below meth c H locs 0 0 (MQ below (va_Qi (fun (r : Int32) (u : ac_U) => ac_R rg u ∧ ac_Fr [(85, some 0)] u0 u ∧ ((0 : Int) ≤ r.toInt ∧ r.toInt ≤ 255)) (ac_B (dC, dI) vwCl (ac_ty cA) ad cA (TT nF) A) A) [.ref (ad 85)].toArray s 0 0 A) (F0 m 20 ls []) := by
        intro n20
        induction n20 with
        | zero => intro x1 x2 x3 x4 u H locs ls hR hF hn20 f0 f1 f2 f3 f4 f5 hP hD hS hl; exfalso; omega
        | succ n20 ih20 =>
          intro x1 x2 x3 x4 u H locs ls hR hF hn20 f0 f1 f2 f3 f4 f5 hP hD hS hl
          have L58 : ∀ (x1 : Int32) (x2 : Int32) (x4 : Int32) (z0 : Int32) (u : ac_U) (H : Heap) (locs : List Loc) (ls : Array Slot), ac_R rg u → ac_Fr [(85, some 0)] u0 u → (0 : Int) ≤ x1.toInt ∧ x1.toInt ≤ 255 → (0 : Int) ≤ x2.toInt ∧ x2.toInt ≤ 7 → (0 : Int) ≤ x4.toInt ∧ x4.toInt ≤ 7 → (0 : Int) ≤ z0.toInt ∧ z0.toInt ≤ 1 → (0 : Int) ≤ (u.1 85 0).toInt ∧ (u.1 85 0).toInt ≤ 0 → (1 : Int) ≤ (u.1 87 6).toInt ∧ (u.1 87 6).toInt ≤ 8 → 8 - x2.toInt + 0 < ((n9 : Nat) : Int) + 1 → 8 - x4.toInt + 0 < ((n20 : Nat) : Int) + 1 → va_P (dC, dI) vwCl (ac_w ad cA (TT nF) u) H → va_D A (ac_w ad cA (TT nF) u) → va_S A s.heap H locs → lv_has ls 5 [(0, .ref (ad 85)), (1, .int x1), (2, .int x2), (4, .int x4)] → W p l e (ac_rm 7) s m [.ref (ad 85)].toArray below meth c H locs 0 0 (MQ below (va_Qi (fun (r : Int32) (u : ac_U) => ac_R rg u ∧ ac_Fr [(85, some 0)] u0 u ∧ ((0 : Int) ≤ r.toInt ∧ r.toInt ≤ 255)) (ac_B (dC, dI) vwCl (ac_ty cA) ad cA (TT nF) A) A) [.ref (ad 85)].toArray s 0 0 A) (F0 m 58 ls [.int z0]) := by
            intro x1 x2 x4 z0 u H locs ls hR hF f0 f1 f2 f3 f4 f5 f6 f7 hP hD hS hl
            refine lv_istore_n (lv' := [(3, .int z0), (0, .ref (ad 85)), (1, .int x1), (2, .int x2), (4, .int x4)]) F.1 F.2.1 dX12_agree_58 rfl hl (by decide) rfl (fun ls hl => ?_)
            refine a_iinc F (k := 4) (fun v4 => [(4, .int v4), (3, .int z0), (0, .ref (ad 85)), (1, .int x1), (2, .int x2)]) dX12_agree_59 hl rfl rfl (by decide) (by omega) (by decide) (fun _ => rfl) (fun v4 ls hv4 hl => ?_)
            refine lv_goto (tgt := 20) F.1 F.2.1 dX12_agree_62 (by decide) ?_
            have g5 : (0 : Int) ≤ (u.1 85 0).toInt ∧ (u.1 85 0).toInt ≤ 1 := hR 85 0
            exact ih20 x1 x2 z0 v4 _ _ _ _ hR hF (by omega) (by omega) (by omega) (by omega) (by omega) (by omega : (0 : Int) ≤ (u.1 85 0).toInt ∧ (u.1 85 0).toInt ≤ 0) (by omega) hP hD hS (lv_sub hl [2, 3, 4, 1, 0] rfl)
          have L57 : ∀ (x1 : Int32) (x2 : Int32) (x4 : Int32) (u : ac_U) (H : Heap) (locs : List Loc) (ls : Array Slot), ac_R rg u → ac_Fr [(85, some 0)] u0 u → (0 : Int) ≤ x1.toInt ∧ x1.toInt ≤ 255 → (0 : Int) ≤ x2.toInt ∧ x2.toInt ≤ 7 → (0 : Int) ≤ x4.toInt ∧ x4.toInt ≤ 7 → (0 : Int) ≤ (u.1 85 0).toInt ∧ (u.1 85 0).toInt ≤ 0 → (1 : Int) ≤ (u.1 87 6).toInt ∧ (u.1 87 6).toInt ≤ 8 → 8 - x2.toInt + 0 < ((n9 : Nat) : Int) + 1 → 8 - x4.toInt + 0 < ((n20 : Nat) : Int) + 1 → va_P (dC, dI) vwCl (ac_w ad cA (TT nF) u) H → va_D A (ac_w ad cA (TT nF) u) → va_S A s.heap H locs → lv_has ls 5 [(0, .ref (ad 85)), (1, .int x1), (2, .int x2), (4, .int x4)] → W p l e (ac_rm 7) s m [.ref (ad 85)].toArray below meth c H locs 0 0 (MQ below (va_Qi (fun (r : Int32) (u : ac_U) => ac_R rg u ∧ ac_Fr [(85, some 0)] u0 u ∧ ((0 : Int) ≤ r.toInt ∧ r.toInt ≤ 255)) (ac_B (dC, dI) vwCl (ac_ty cA) ad cA (TT nF) A) A) [.ref (ad 85)].toArray s 0 0 A) (F0 m 57 ls []) := by
            intro x1 x2 x4 u H locs ls hR hF f0 f1 f2 f3 f4 f5 f6 hP hD hS hl
            refine a_ic F (0 : Int32) dX12_agree_57 (by decide) ?_
            have g6 : (0 : Int) ≤ (u.1 85 0).toInt ∧ (u.1 85 0).toInt ≤ 1 := hR 85 0
            have g7 : (0 : Int) ≤ (u.1 87 6).toInt ∧ (u.1 87 6).toInt ≤ 8 := hR 87 6
            exact L58 x1 x2 x4 (0 : Int32) _ _ _ _ hR hF (by omega) (by omega) (by omega) (by decide) (by omega : (0 : Int) ≤ (u.1 85 0).toInt ∧ (u.1 85 0).toInt ≤ 0) (by omega : (1 : Int) ≤ (u.1 87 6).toInt ∧ (u.1 87 6).toInt ≤ 8) (by omega) (by omega) hP hD hS (lv_sub hl [0, 1, 2, 3] rfl)
          refine lv_iload F.1 F.2.1 dX12_agree_20 (lv_at hl 4 rfl) ?_
          refine lv_aload_n F.1 F.2.1 dX12_agree_22 rfl (lv_at hl 0 rfl) ?_
          refine a_getr F inX12 hP 85 6 tc_85 rfl rfl (by decide) q1477 (fun _ h9 => h9) dX12_agree_23 ?_
          refine a_bp F (6 : Int32) dX12_agree_26 (by decide) ?_
          have g8 : (0 : Int) ≤ (u.1 87 6).toInt ∧ (u.1 87 6).toInt ≤ 8 := hR 87 6
          refine a_ialdK F hP 87 6 tc_87 rfl rfl (i_in ic_6 (by omega)) (v := (u.1 87 6)) rfl dX12_agree_28 ?_
          refine b_ge F 65 dX12_agree_29 (by decide) rfl rfl (fun c9 => ?_) (fun c9 => ?_)
          · refine lv_iload_n F.1 F.2.1 dX12_agree_65 rfl (lv_at hl 1 rfl) ?_
            refine lv_iload_n F.1 F.2.1 dX12_agree_66 rfl (lv_at hl 3 rfl) ?_
            refine z_eq F 76 dX12_agree_67 (by decide) rfl (fun c10 => ?_) (fun c10 => ?_)
            · refine a_ic F (0 : Int32) dX12_agree_76 (by decide) ?_
              have g11 : (0 : Int) ≤ (u.1 85 0).toInt ∧ (u.1 85 0).toInt ≤ 1 := hR 85 0
              exact L77 x2 x1 (0 : Int32) _ _ _ _ hR hF (by omega) (by omega) (by decide) (by omega : (0 : Int) ≤ (u.1 85 0).toInt ∧ (u.1 85 0).toInt ≤ 0) (by omega) hP hD hS (lv_sub hl [0, 2] rfl)
            · refine a_ic F (1 : Int32) dX12_agree_70 (by decide) ?_
              refine lv_iload_n F.1 F.2.1 dX12_agree_71 rfl (lv_at hl 2 rfl) ?_
              refine a_ishl1 F dX12_agree_72 rfl (lo := 0) (hi := 7) (by omega) (by decide) (fun v12 hv12 => ?_)
              have hv12 : (1 : Int) ≤ v12.toInt ∧ v12.toInt ≤ 128 := hv12
              refine lv_goto (tgt := 77) F.1 F.2.1 dX12_agree_73 (by decide) ?_
              have g13 : (0 : Int) ≤ (u.1 85 0).toInt ∧ (u.1 85 0).toInt ≤ 1 := hR 85 0
              exact L77 x2 x1 v12 _ _ _ _ hR hF (by omega) (by omega) (by omega) (by omega : (0 : Int) ≤ (u.1 85 0).toInt ∧ (u.1 85 0).toInt ≤ 0) (by omega) hP hD hS (lv_sub hl [0, 2] rfl)
          · refine lv_iload_n F.1 F.2.1 dX12_agree_32 rfl (lv_at hl 3 rfl) ?_
            refine z_eq F 57 dX12_agree_33 (by decide) rfl (fun c14 => ?_) (fun c14 => ?_)
            · have g15 : (0 : Int) ≤ (u.1 85 0).toInt ∧ (u.1 85 0).toInt ≤ 1 := hR 85 0
              exact L57 x1 x2 x4 _ _ _ _ hR hF (by omega) (by omega) (by omega) (by omega : (0 : Int) ≤ (u.1 85 0).toInt ∧ (u.1 85 0).toInt ≤ 0) (by omega : (1 : Int) ≤ (u.1 87 6).toInt ∧ (u.1 87 6).toInt ≤ 8) (by omega) (by omega) hP hD hS (lv_sub hl [0, 1, 2, 4] rfl)
            · refine lv_aload_n F.1 F.2.1 dX12_agree_36 rfl (lv_at hl 0 rfl) ?_
              refine lv_iload F.1 F.2.1 dX12_agree_37 (lv_at hl 4 rfl) ?_
              refine lv_iload_n F.1 F.2.1 dX12_agree_39 rfl (lv_at hl 2 rfl) ?_
              refine a_Vi F hml hl.1 hA hP hD hS (As := [.int x4, .int x2]) (c_X12_statusOf_85 l dC dI ad cA nF _ x4 x2 hR (by omega) (by omega)) (cs_RX12_257 (d := 6) F.2.2.1 (by decide)) tc_85 rfl rfl rfl rfl (Nat.le_of_ble_eq_true rfl) dX12_agree_40 ⟨Nat.le_refl 0, Nat.le_refl 0⟩ (fun r16 uN16 H locs hq hP hD hS => ?_)
              obtain ⟨hu16, gr16⟩ := hq
              rw [hu16] at hP hD
              refine lv_aload_n F.1 F.2.1 dX12_agree_43 rfl (lv_at hl 0 rfl) ?_
              refine lv_iload F.1 F.2.1 dX12_agree_44 (lv_at hl 4 rfl) ?_
              refine a_ic F (0 : Int32) dX12_agree_46 (by decide) ?_
              refine a_Vi F hml hl.1 hA hP hD hS (As := [.int x4, .int (0 : Int32)]) (c_X12_statusOf_85 l dC dI ad cA nF _ x4 (0 : Int32) hR (by omega) (by decide)) (cs_RX12_257 (d := 6) F.2.2.1 (by decide)) tc_85 rfl rfl rfl rfl (Nat.le_of_ble_eq_true rfl) dX12_agree_47 ⟨Nat.le_refl 0, Nat.le_refl 0⟩ (fun r17 uN17 H locs hq hP hD hS => ?_)
              obtain ⟨hu17, gr17⟩ := hq
              rw [hu17] at hP hD
              refine b_ne F 57 dX12_agree_50 (by decide) rfl rfl (fun c18 => ?_) (fun c18 => ?_)
              · have g19 : (0 : Int) ≤ (u.1 85 0).toInt ∧ (u.1 85 0).toInt ≤ 1 := hR 85 0
                exact L57 x1 x2 x4 _ _ _ _ hR hF (by omega) (by omega) (by omega) (by omega : (0 : Int) ≤ (u.1 85 0).toInt ∧ (u.1 85 0).toInt ≤ 0) (by omega : (1 : Int) ≤ (u.1 87 6).toInt ∧ (u.1 87 6).toInt ≤ 8) (by omega) (by omega) hP hD hS (lv_sub hl [0, 1, 2, 4] rfl)
              · refine a_ic F (1 : Int32) dX12_agree_53 (by decide) ?_
                refine lv_goto (tgt := 58) F.1 F.2.1 dX12_agree_54 (by decide) ?_
                have g20 : (0 : Int) ≤ (u.1 85 0).toInt ∧ (u.1 85 0).toInt ≤ 1 := hR 85 0
                exact L58 x1 x2 x4 (1 : Int32) _ _ _ _ hR hF (by omega) (by omega) (by omega) (by decide) (by omega : (0 : Int) ≤ (u.1 85 0).toInt ∧ (u.1 85 0).toInt ≤ 0) (by omega : (1 : Int) ≤ (u.1 87 6).toInt ∧ (u.1 87 6).toInt ≤ 8) (by omega) (by omega) hP hD hS (lv_sub hl [0, 1, 2, 4] rfl)
      refine lv_iload_n F.1 F.2.1 dX12_agree_9 rfl (lv_at hl 2 rfl) ?_
      refine a_bp F (8 : Int32) dX12_agree_10 (by decide) ?_
      refine b_ge F 85 dX12_agree_12 (by decide) rfl ic_8 (fun c21 => ?_) (fun c21 => ?_)
      · refine lv_iload_n F.1 F.2.1 dX12_agree_85 rfl (lv_at hl 1 rfl) ?_
        exact a_reti F hr hlocks hP hD hS dX12_agree_86 ⟨hR, hF, (by omega : (0 : Int) ≤ x1.toInt ∧ x1.toInt ≤ 255)⟩
      · refine a_ic F (1 : Int32) dX12_agree_15 (by decide) ?_
        refine lv_istore_n (lv' := [(3, .int (1 : Int32)), (0, .ref (ad 85)), (1, .int x1), (2, .int x2)]) F.1 F.2.1 dX12_agree_16 rfl hl (by decide) rfl (fun ls hl => ?_)
        refine a_ic F (0 : Int32) dX12_agree_17 (by decide) ?_
        refine lv_istore (lv' := [(4, .int (0 : Int32)), (3, .int (1 : Int32)), (0, .ref (ad 85)), (1, .int x1), (2, .int x2)]) F.1 F.2.1 dX12_agree_18 hl (by decide) rfl (fun ls hl => ?_)
        have g22 : (0 : Int) ≤ (u.1 85 0).toInt ∧ (u.1 85 0).toInt ≤ 1 := hR 85 0
        exact L20 10 x1 x2 (1 : Int32) (0 : Int32) _ _ _ _ hR hF (by decide) (by omega) (by omega) (by decide) (by decide) (by omega : (0 : Int) ≤ (u.1 85 0).toInt ∧ (u.1 85 0).toInt ≤ 0) (by omega) hP hD hS (lv_sub hl [2, 3, 4, 1, 0] rfl)
  refine lv_aload_n F.1 F.2.1 dX12_agree_0 rfl (lv_at hl 0 rfl) ?_
  refine a_ic F (0 : Int32) dX12_agree_1 (by decide) ?_
  refine a_puti F inX12 tyX12 tyX12_ok nmX12 hP hD hS 85 0 tc_85 rfl rfl (by decide) q1471 (fun _ h9 => h9) rfl (ty := .int) (tyX12_ok 0 (by decide)) rfl rfl dX12_agree_2 (fun H locs hP hD hS => ?_)
  have hR := hR.si (c := 85) (k := 0) (v := (0 : Int32)) (by rw [ic_0]; exact (by omega : (0 : Int) ≤ (0 : Int) ∧ (0 : Int) ≤ 1))
  have hF := hF.si (c := 85) (k := 0) (v := (0 : Int32)) rfl
  refine a_ic F (0 : Int32) dX12_agree_5 (by decide) ?_
  refine lv_istore_n (lv' := [(1, .int (0 : Int32)), (0, .ref (ad 85))]) F.1 F.2.1 dX12_agree_6 rfl hl (by decide) rfl (fun ls hl => ?_)
  refine a_ic F (0 : Int32) dX12_agree_7 (by decide) ?_
  refine lv_istore_n (lv' := [(2, .int (0 : Int32)), (1, .int (0 : Int32)), (0, .ref (ad 85))]) F.1 F.2.1 dX12_agree_8 rfl hl (by decide) rfl (fun ls hl => ?_)
  exact L9 10 (0 : Int32) (0 : Int32) _ _ _ _ hR hF (by decide) (by decide) (by decide) (by omega : (0 : Int) ≤ (0 : Int) ∧ (0 : Int) ≤ 0) hP hD hS (lv_sub hl [2, 1, 0] rfl)
set_option maxHeartbeats 600000 in
set_option maxRecDepth 100000 in
theorem c_X12_dayNow_85 (l : Launch) (dC : Nat → ClassId) (dI : Nat → Nat → Nat) (ad : Nat → Nat) (cA : Nat → ClassId) (nF : Nat) (u0 : ac_U)  (hR : ac_R rg u0) : ac_Mi l yX12_dayNow (.code yX12_dayNow cX12_dayNow 1 (some .int) :: TB) 1 (dC, dI) vwCl (ac_ty cA) ad cA (TT nF) [.ref (ad 85)] u0 (fun (r : Int32) (u : ac_U) => u = u0 ∧ ((0 : Int) ≤ r.toInt ∧ r.toInt ≤ 120)) := by
  refine ac_Mi.of (cc := cX12_dayNow) (maxL := 1) (ret := (some .int)) (by decide) rfl (Nat.le_of_ble_eq_true rfl) ?_
  intro p e s m below meth c A ls F hml hr hlocks hA hP hD hS hl
  have F : ac_X p s m [.ref (ad 85)].toArray c cX12_dayNow RX12 TB (dC, dI) vwCl (ac_ty cA) := ⟨F.1, F.2.1, fun w h => F.2.2.1 w (List.mem_cons_of_mem _ h), F.2.2.2.1, F.2.2.2.2⟩
  have hl : lv_has ls 1 [(0, .ref (ad 85))] := hl
  refine lv_aload_n F.1 F.2.1 dX12_dayNow_0 rfl (lv_at hl 0 rfl) ?_
  refine a_getr F inX12 hP 85 6 tc_85 rfl rfl (by decide) q1477 (fun _ h9 => h9) dX12_dayNow_1 ?_
  refine a_bp F (106 : Int32) dX12_dayNow_4 (by decide) ?_
  have g1 : (0 : Int) ≤ (u0.1 87 106).toInt ∧ (u0.1 87 106).toInt ≤ 480 := hR 87 106
  refine a_ialdK F hP 87 106 tc_87 rfl rfl (i_in ic_106 (by omega)) (v := (u0.1 87 106)) rfl dX12_dayNow_6 ?_
  refine lv_aload_n F.1 F.2.1 dX12_dayNow_7 rfl (lv_at hl 0 rfl) ?_
  refine a_getr F inX12 hP 85 6 tc_85 rfl rfl (by decide) q1477 (fun _ h9 => h9) dX12_dayNow_8 ?_
  refine a_ic F (0 : Int32) dX12_dayNow_11 (by decide) ?_
  have g2 : (4 : Int) ≤ (u0.1 87 0).toInt ∧ (u0.1 87 0).toInt ≤ 24 := hR 87 0
  refine a_ialdK F hP 87 0 tc_87 rfl rfl (i_in ic_0 (by omega)) (v := (u0.1 87 0)) rfl dX12_dayNow_12 ?_
  refine a_idiv2 F (kk := 4) dX12_dayNow_13 rfl rfl (by omega) (fun v3 ev3 hv3 => ?_)
  exact a_reti F hr hlocks hP hD hS dX12_dayNow_14 ⟨rfl, (by omega : (0 : Int) ≤ v3.toInt ∧ v3.toInt ≤ 120)⟩
set_option maxHeartbeats 600000 in
set_option maxRecDepth 100000 in
theorem c_X12_isDue_85 (l : Launch) (dC : Nat → ClassId) (dI : Nat → Nat → Nat) (ad : Nat → Nat) (cA : Nat → ClassId) (nF : Nat) (u0 : ac_U) (p0 : Int32) (p1 : Int32) (hR : ac_R rg u0) (hp0 : (0 : Int) ≤ p0.toInt ∧ p0.toInt ≤ 7) (hp1 : (0 : Int) ≤ p1.toInt ∧ p1.toInt ≤ 7) : ac_Mi l yX12_isDue (.code yX12_isDue cX12_isDue 4 (some .boolean) :: TB) 4 (dC, dI) vwCl (ac_ty cA) ad cA (TT nF) [.ref (ad 85), .int p0, .int p1] u0 (fun (r : Int32) (u : ac_U) => u = u0 ∧ ((0 : Int) ≤ r.toInt ∧ r.toInt ≤ 1)) := by
  refine ac_Mi.of (cc := cX12_isDue) (maxL := 4) (ret := (some .boolean)) (by decide) rfl (Nat.le_of_ble_eq_true rfl) ?_
  intro p e s m below meth c A ls F hml hr hlocks hA hP hD hS hl
  have F : ac_X p s m [.ref (ad 85), .int p0, .int p1].toArray c cX12_isDue RX12 TB (dC, dI) vwCl (ac_ty cA) := ⟨F.1, F.2.1, fun w h => F.2.2.1 w (List.mem_cons_of_mem _ h), F.2.2.2.1, F.2.2.2.2⟩
  have hl : lv_has ls 4 [(0, .ref (ad 85)), (1, .int p0), (2, .int p1)] := hl
  have L61 : ∀ (H : Heap) (locs : List Loc) (ls : Array Slot), va_P (dC, dI) vwCl (ac_w ad cA (TT nF) u0) H → va_D A (ac_w ad cA (TT nF) u0) → va_S A s.heap H locs → lv_has ls 4 [] → W p l e (ac_rm 4) s m [.ref (ad 85), .int p0, .int p1].toArray below meth c H locs 0 0 (MQ below (va_Qi (fun (r : Int32) (u : ac_U) => u = u0 ∧ ((0 : Int) ≤ r.toInt ∧ r.toInt ≤ 1)) (ac_B (dC, dI) vwCl (ac_ty cA) ad cA (TT nF) A) A) [.ref (ad 85), .int p0, .int p1].toArray s 0 0 A) (F0 m 61 ls []) := by
    intro H locs ls hP hD hS hl
    refine a_ic F (0 : Int32) dX12_isDue_61 (by decide) ?_
    exact a_retz F hr hlocks hP hD hS dX12_isDue_62 (Or.inl rfl) ⟨rfl, (by decide)⟩
  have L57 : ∀ (H : Heap) (locs : List Loc) (ls : Array Slot), va_P (dC, dI) vwCl (ac_w ad cA (TT nF) u0) H → va_D A (ac_w ad cA (TT nF) u0) → va_S A s.heap H locs → lv_has ls 4 [] → W p l e (ac_rm 4) s m [.ref (ad 85), .int p0, .int p1].toArray below meth c H locs 0 0 (MQ below (va_Qi (fun (r : Int32) (u : ac_U) => u = u0 ∧ ((0 : Int) ≤ r.toInt ∧ r.toInt ≤ 1)) (ac_B (dC, dI) vwCl (ac_ty cA) ad cA (TT nF) A) A) [.ref (ad 85), .int p0, .int p1].toArray s 0 0 A) (F0 m 57 ls []) := by
    intro H locs ls hP hD hS hl
    refine a_ic F (1 : Int32) dX12_isDue_57 (by decide) ?_
    refine lv_goto (tgt := 62) F.1 F.2.1 dX12_isDue_58 (by decide) ?_
    exact a_retz F hr hlocks hP hD hS dX12_isDue_62 (Or.inr rfl) ⟨rfl, (by decide)⟩
  refine lv_aload_n F.1 F.2.1 dX12_isDue_0 rfl (lv_at hl 0 rfl) ?_
  refine lv_iload_n F.1 F.2.1 dX12_isDue_1 rfl (lv_at hl 1 rfl) ?_
  refine lv_iload_n F.1 F.2.1 dX12_isDue_2 rfl (lv_at hl 2 rfl) ?_
  refine a_Vi F hml hl.1 hA hP hD hS (As := [.int p0, .int p1]) (c_X12_dueOf_85 l dC dI ad cA nF _ p0 p1 hR (by omega) (by omega)) (cs_RX12_305 (d := 3) F.2.2.1 (by decide)) tc_85 rfl rfl rfl rfl (Nat.le_of_ble_eq_true rfl) dX12_isDue_3 ⟨Nat.le_refl 0, Nat.le_refl 0⟩ (fun r1 uN1 H locs hq hP hD hS => ?_)
  obtain ⟨hu1, gr1⟩ := hq
  rw [hu1] at hP hD
  refine lv_istore_n (lv' := [(3, .int r1), (0, .ref (ad 85)), (1, .int p0), (2, .int p1)]) F.1 F.2.1 dX12_isDue_6 rfl hl (by decide) rfl (fun ls hl => ?_)
  refine lv_aload_n F.1 F.2.1 dX12_isDue_7 rfl (lv_at hl 1 rfl) ?_
  refine a_getr F inX12 hP 85 6 tc_85 rfl rfl (by decide) q1477 (fun _ h9 => h9) dX12_isDue_8 ?_
  refine a_sp F (132 : Int32) dX12_isDue_11 (by decide) ?_
  refine lv_iload_n F.1 F.2.1 dX12_isDue_14 rfl (lv_at hl 2 rfl) ?_
  refine a_iadd F dX12_isDue_15 ic_132 rfl (by omega) (fun v2 hv2 => ?_)
  refine a_iald F hP 87 tc_87 rfl (i_in rfl (by omega)) dX12_isDue_16 (fun v3 ev3 => ?_)
  refine a_ic F (1 : Int32) dX12_isDue_17 (by decide) ?_
  refine b_ne F 61 dX12_isDue_18 (by decide) rfl ic_1 (fun c4 => ?_) (fun c4 => ?_)
  · exact L61 _ _ _  hP hD hS (lv_sub hl [] rfl)
  · refine lv_aload_n F.1 F.2.1 dX12_isDue_21 rfl (lv_at hl 1 rfl) ?_
    refine a_Vi F hml hl.1 hA hP hD hS (As := []) (c_X12_isOver_85 l dC dI ad cA nF _  hR) (cs_RX12_263 (d := 1) F.2.2.1 (by decide)) tc_85 rfl rfl rfl rfl (Nat.le_of_ble_eq_true rfl) dX12_isDue_22 ⟨Nat.le_refl 0, Nat.le_refl 0⟩ (fun r5 uN5 H locs hq hP hD hS => ?_)
    obtain ⟨hu5, gr5, xr5⟩ := hq
    rw [hu5] at hP hD
    have g6 : (0 : Int) ≤ (u0.1 87 106).toInt ∧ (u0.1 87 106).toInt ≤ 480 := hR 87 106
    have g7 : (4 : Int) ≤ (u0.1 87 0).toInt ∧ (u0.1 87 0).toInt ≤ 24 := hR 87 0
    have xr5 : r5.toInt = 0 → (u0.1 87 106).toInt ≠ 20 * (u0.1 87 0).toInt := xr5
    refine z_ne F 61 dX12_isDue_25 (by decide) rfl (fun c8 => ?_) (fun c8 => ?_)
    · exact L61 _ _ _  hP hD hS (lv_sub hl [] rfl)
    · refine lv_iload_n F.1 F.2.1 dX12_isDue_28 rfl (lv_at hl 0 rfl) ?_
      refine lv_aload_n F.1 F.2.1 dX12_isDue_29 rfl (lv_at hl 1 rfl) ?_
      refine a_Vi F hml hl.1 hA hP hD hS (As := []) (c_X12_dayNow_85 l dC dI ad cA nF _  hR) (cs_RX12_260 (d := 1) F.2.2.1 (by decide)) tc_85 rfl rfl rfl rfl (Nat.le_of_ble_eq_true rfl) dX12_isDue_30 ⟨Nat.le_refl 0, Nat.le_refl 0⟩ (fun r9 uN9 H locs hq hP hD hS => ?_)
      obtain ⟨hu9, gr9⟩ := hq
      rw [hu9] at hP hD
      refine b_eq F 57 dX12_isDue_33 (by decide) rfl rfl (fun c10 => ?_) (fun c10 => ?_)
      · exact L57 _ _ _  hP hD hS (lv_sub hl [] rfl)
      · refine lv_iload_n F.1 F.2.1 dX12_isDue_36 rfl (lv_at hl 0 rfl) ?_
        refine lv_aload_n F.1 F.2.1 dX12_isDue_37 rfl (lv_at hl 1 rfl) ?_
        refine a_Vi F hml hl.1 hA hP hD hS (As := []) (c_X12_dayNow_85 l dC dI ad cA nF _  hR) (cs_RX12_260 (d := 1) F.2.2.1 (by decide)) tc_85 rfl rfl rfl rfl (Nat.le_of_ble_eq_true rfl) dX12_isDue_38 ⟨Nat.le_refl 0, Nat.le_refl 0⟩ (fun r11 uN11 H locs hq hP hD hS => ?_)
        obtain ⟨hu11, gr11⟩ := hq
        rw [hu11] at hP hD
        refine b_ge F 61 dX12_isDue_41 (by decide) rfl rfl (fun c12 => ?_) (fun c12 => ?_)
        · exact L61 _ _ _  hP hD hS (lv_sub hl [] rfl)
        · refine lv_aload_n F.1 F.2.1 dX12_isDue_44 rfl (lv_at hl 1 rfl) ?_
          refine a_getr F inX12 hP 85 6 tc_85 rfl rfl (by decide) q1477 (fun _ h9 => h9) dX12_isDue_45 ?_
          refine a_bp F (74 : Int32) dX12_isDue_48 (by decide) ?_
          refine lv_iload_n F.1 F.2.1 dX12_isDue_50 rfl (lv_at hl 2 rfl) ?_
          refine a_iadd F dX12_isDue_51 ic_74 rfl (by omega) (fun v13 hv13 => ?_)
          refine a_iald F hP 87 tc_87 rfl (i_in rfl (by omega)) dX12_isDue_52 (fun v14 ev14 => ?_)
          refine a_ic F (1 : Int32) dX12_isDue_53 (by decide) ?_
          refine b_ne F 61 dX12_isDue_54 (by decide) rfl ic_1 (fun c15 => ?_) (fun c15 => ?_)
          · exact L61 _ _ _  hP hD hS (lv_sub hl [] rfl)
          · exact L57 _ _ _  hP hD hS (lv_sub hl [] rfl)
set_option maxHeartbeats 600000 in
set_option maxRecDepth 100000 in
theorem c_X12_isPromise_85 (l : Launch) (dC : Nat → ClassId) (dI : Nat → Nat → Nat) (ad : Nat → Nat) (cA : Nat → ClassId) (nF : Nat) (u0 : ac_U) (p0 : Int32) (hR : ac_R rg u0) : ac_Mi l yX12_isPromise (.code yX12_isPromise cX12_isPromise 2 (some .boolean) :: TB) 2 (dC, dI) vwCl (ac_ty cA) ad cA (TT nF) [.ref (ad 85), .int p0] u0 (fun (r : Int32) (u : ac_U) => u = u0 ∧ ((0 : Int) ≤ r.toInt ∧ r.toInt ≤ 1) ∧ (r.toInt ≠ 0 → 0 ≤ p0.toInt ∧ p0.toInt ≤ 7)) := by
  refine ac_Mi.of (cc := cX12_isPromise) (maxL := 2) (ret := (some .boolean)) (by decide) rfl (Nat.le_of_ble_eq_true rfl) ?_
  intro p e s m below meth c A ls F hml hr hlocks hA hP hD hS hl
  have F : ac_X p s m [.ref (ad 85), .int p0].toArray c cX12_isPromise RX12 TB (dC, dI) vwCl (ac_ty cA) := ⟨F.1, F.2.1, fun w h => F.2.2.1 w (List.mem_cons_of_mem _ h), F.2.2.2.1, F.2.2.2.2⟩
  have hl : lv_has ls 2 [(0, .ref (ad 85)), (1, .int p0)] := hl
  refine lv_iload_n F.1 F.2.1 dX12_isPromise_0 rfl (lv_at hl 1 rfl) ?_
  refine a_ic F (0 : Int32) dX12_isPromise_1 (by decide) ?_
  refine lv_aload_n F.1 F.2.1 dX12_isPromise_2 rfl (lv_at hl 0 rfl) ?_
  refine a_getr F inX12 hP 85 6 tc_85 rfl rfl (by decide) q1477 (fun _ h9 => h9) dX12_isPromise_3 ?_
  refine a_bp F (6 : Int32) dX12_isPromise_6 (by decide) ?_
  have g1 : (0 : Int) ≤ (u0.1 87 6).toInt ∧ (u0.1 87 6).toInt ≤ 8 := hR 87 6
  refine a_ialdK F hP 87 6 tc_87 rfl rfl (i_in ic_6 (by omega)) (v := (u0.1 87 6)) rfl dX12_isPromise_8 ?_
  refine a_ic F (1 : Int32) dX12_isPromise_9 (by decide) ?_
  refine a_isub F dX12_isPromise_10 rfl ic_1 (by omega) (fun v2 hv2 => ?_)
  refine a_Si F hml hl.1 hA hP hD hS (As := [.int p0, .int (0 : Int32), .int v2]) (c_X12_isIn l dC dI ad cA nF _ p0 (0 : Int32) v2 hR (by omega)) (cs_RX12_187 (d := 1) F.2.2.1 (by decide)) rfl rfl (Nat.le_of_ble_eq_true rfl) dX12_isPromise_11 ⟨Nat.le_refl 0, Nat.le_refl 0⟩ (fun r3 uN3 H locs hq hP hD hS => ?_)
  obtain ⟨hu3, gr3, xr3⟩ := hq
  rw [hu3] at hP hD
  have xr3 : r3.toInt ≠ 0 → (0 : Int) ≤ p0.toInt ∧ p0.toInt ≤ v2.toInt := xr3
  exact a_retz F hr hlocks hP hD hS dX12_isPromise_14 (i_01 (by omega)) ⟨rfl, (by omega : (0 : Int) ≤ r3.toInt ∧ r3.toInt ≤ 1), (by omega : r3.toInt ≠ 0 → 0 ≤ p0.toInt ∧ p0.toInt ≤ 7)⟩
set_option maxHeartbeats 600000 in
set_option maxRecDepth 100000 in
theorem c_X12_isReading_85 (l : Launch) (dC : Nat → ClassId) (dI : Nat → Nat → Nat) (ad : Nat → Nat) (cA : Nat → ClassId) (nF : Nat) (u0 : ac_U) (p0 : Int32) (p1 : Int32) (hR : ac_R rg u0) : ac_Mi l yX12_isReading (.code yX12_isReading cX12_isReading 3 (some .boolean) :: TB) 3 (dC, dI) vwCl (ac_ty cA) ad cA (TT nF) [.ref (ad 85), .int p0, .int p1] u0 (fun (r : Int32) (u : ac_U) => u = u0 ∧ ((0 : Int) ≤ r.toInt ∧ r.toInt ≤ 1) ∧ (r.toInt ≠ 0 → 0 ≤ p0.toInt ∧ p0.toInt ≤ 7 ∧ 0 ≤ p1.toInt ∧ p1.toInt ≤ 7)) := by
  refine ac_Mi.of (cc := cX12_isReading) (maxL := 3) (ret := (some .boolean)) (by decide) rfl (Nat.le_of_ble_eq_true rfl) ?_
  intro p e s m below meth c A ls F hml hr hlocks hA hP hD hS hl
  have F : ac_X p s m [.ref (ad 85), .int p0, .int p1].toArray c cX12_isReading RX12 TB (dC, dI) vwCl (ac_ty cA) := ⟨F.1, F.2.1, fun w h => F.2.2.1 w (List.mem_cons_of_mem _ h), F.2.2.2.1, F.2.2.2.2⟩
  have hl : lv_has ls 3 [(0, .ref (ad 85)), (1, .int p0), (2, .int p1)] := hl
  have L22 : ∀ (H : Heap) (locs : List Loc) (ls : Array Slot), va_P (dC, dI) vwCl (ac_w ad cA (TT nF) u0) H → va_D A (ac_w ad cA (TT nF) u0) → va_S A s.heap H locs → lv_has ls 3 [] → W p l e (ac_rm 3) s m [.ref (ad 85), .int p0, .int p1].toArray below meth c H locs 0 0 (MQ below (va_Qi (fun (r : Int32) (u : ac_U) => u = u0 ∧ ((0 : Int) ≤ r.toInt ∧ r.toInt ≤ 1) ∧ (r.toInt ≠ 0 → 0 ≤ p0.toInt ∧ p0.toInt ≤ 7 ∧ 0 ≤ p1.toInt ∧ p1.toInt ≤ 7)) (ac_B (dC, dI) vwCl (ac_ty cA) ad cA (TT nF) A) A) [.ref (ad 85), .int p0, .int p1].toArray s 0 0 A) (F0 m 22 ls []) := by
    intro H locs ls hP hD hS hl
    refine a_ic F (0 : Int32) dX12_isReading_22 (by decide) ?_
    exact a_retz F hr hlocks hP hD hS dX12_isReading_23 (Or.inl rfl) ⟨rfl, (by decide), (by first | exact (by omega : (0 : Int) ≠ 0 → 0 ≤ p0.toInt ∧ p0.toInt ≤ 7 ∧ 0 ≤ p1.toInt ∧ p1.toInt ≤ 7) | (rw [ic_0]; exact (by omega : (0 : Int) ≠ 0 → 0 ≤ p0.toInt ∧ p0.toInt ≤ 7 ∧ 0 ≤ p1.toInt ∧ p1.toInt ≤ 7)))⟩
  refine lv_aload_n F.1 F.2.1 dX12_isReading_0 rfl (lv_at hl 0 rfl) ?_
  refine lv_iload_n F.1 F.2.1 dX12_isReading_1 rfl (lv_at hl 1 rfl) ?_
  refine a_Vi F hml hl.1 hA hP hD hS (As := [.int p0]) (c_X12_isPromise_85 l dC dI ad cA nF _ p0 hR) (cs_RX12_244 (d := 2) F.2.2.1 (by decide)) tc_85 rfl rfl rfl rfl (Nat.le_of_ble_eq_true rfl) dX12_isReading_2 ⟨Nat.le_refl 0, Nat.le_refl 0⟩ (fun r1 uN1 H locs hq hP hD hS => ?_)
  obtain ⟨hu1, gr1, xr1⟩ := hq
  rw [hu1] at hP hD
  have xr1 : r1.toInt ≠ 0 → 0 ≤ p0.toInt ∧ p0.toInt ≤ 7 := xr1
  refine z_eq F 22 dX12_isReading_5 (by decide) rfl (fun c2 => ?_) (fun c2 => ?_)
  · exact L22 _ _ _  hP hD hS (lv_sub hl [] rfl)
  · refine lv_iload_n F.1 F.2.1 dX12_isReading_8 rfl (lv_at hl 2 rfl) ?_
    refine a_ic F (0 : Int32) dX12_isReading_9 (by decide) ?_
    refine a_bp F (7 : Int32) dX12_isReading_10 (by decide) ?_
    refine a_Si F hml hl.1 hA hP hD hS (As := [.int p1, .int (0 : Int32), .int (7 : Int32)]) (c_X12_isIn l dC dI ad cA nF _ p1 (0 : Int32) (7 : Int32) hR (by decide)) (cs_RX12_187 (d := 1) F.2.2.1 (by decide)) rfl rfl (Nat.le_of_ble_eq_true rfl) dX12_isReading_12 ⟨Nat.le_refl 0, Nat.le_refl 0⟩ (fun r3 uN3 H locs hq hP hD hS => ?_)
    obtain ⟨hu3, gr3, xr3⟩ := hq
    rw [hu3] at hP hD
    have xr3 : r3.toInt ≠ 0 → (0 : Int) ≤ p1.toInt ∧ p1.toInt ≤ (7 : Int) := xr3
    refine z_eq F 22 dX12_isReading_15 (by decide) rfl (fun c4 => ?_) (fun c4 => ?_)
    · exact L22 _ _ _  hP hD hS (lv_sub hl [] rfl)
    · refine a_ic F (1 : Int32) dX12_isReading_18 (by decide) ?_
      refine lv_goto (tgt := 23) F.1 F.2.1 dX12_isReading_19 (by decide) ?_
      exact a_retz F hr hlocks hP hD hS dX12_isReading_23 (Or.inr rfl) ⟨rfl, (by decide), (by first | exact (by omega : (1 : Int) ≠ 0 → 0 ≤ p0.toInt ∧ p0.toInt ≤ 7 ∧ 0 ≤ p1.toInt ∧ p1.toInt ≤ 7) | (rw [ic_1]; exact (by omega : (1 : Int) ≠ 0 → 0 ≤ p0.toInt ∧ p0.toInt ≤ 7 ∧ 0 ≤ p1.toInt ∧ p1.toInt ≤ 7)))⟩
set_option maxHeartbeats 600000 in
set_option maxRecDepth 100000 in
theorem c_X12_leftOf_85 (l : Launch) (dC : Nat → ClassId) (dI : Nat → Nat → Nat) (ad : Nat → Nat) (cA : Nat → ClassId) (nF : Nat) (u0 : ac_U) (p0 : Int32) (p1 : Int32) (hR : ac_R rg u0) (hp0 : (0 : Int) ≤ p0.toInt ∧ p0.toInt ≤ 7) (hp1 : (0 : Int) ≤ p1.toInt ∧ p1.toInt ≤ 7) : ac_Mi l yX12_leftOf (.code yX12_leftOf cX12_leftOf 4 (some .int) :: TB) 4 (dC, dI) vwCl (ac_ty cA) ad cA (TT nF) [.ref (ad 85), .int p0, .int p1] u0 (fun (r : Int32) (u : ac_U) => u = u0 ∧ ((0 : Int) ≤ r.toInt)) := by
  refine ac_Mi.of (cc := cX12_leftOf) (maxL := 4) (ret := (some .int)) (by decide) rfl (Nat.le_of_ble_eq_true rfl) ?_
  intro p e s m below meth c A ls F hml hr hlocks hA hP hD hS hl
  have F : ac_X p s m [.ref (ad 85), .int p0, .int p1].toArray c cX12_leftOf RX12 TB (dC, dI) vwCl (ac_ty cA) := ⟨F.1, F.2.1, fun w h => F.2.2.1 w (List.mem_cons_of_mem _ h), F.2.2.2.1, F.2.2.2.2⟩
  have hl : lv_has ls 4 [(0, .ref (ad 85)), (1, .int p0), (2, .int p1)] := hl
  refine lv_aload_n F.1 F.2.1 dX12_leftOf_0 rfl (lv_at hl 0 rfl) ?_
  refine a_getr F inX12 hP 85 6 tc_85 rfl rfl (by decide) q1477 (fun _ h9 => h9) dX12_leftOf_1 ?_
  refine a_bp F (66 : Int32) dX12_leftOf_4 (by decide) ?_
  refine lv_iload_n F.1 F.2.1 dX12_leftOf_6 rfl (lv_at hl 1 rfl) ?_
  refine a_iadd F dX12_leftOf_7 ic_66 rfl (by omega) (fun v1 hv1 => ?_)
  refine a_iald F hP 87 tc_87 rfl (i_in rfl (by omega)) dX12_leftOf_8 (fun v2 ev2 => ?_)
  have hv2 : (0 : Int) ≤ v2.toInt ∧ v2.toInt ≤ 3 := rg_seg_87_66_73 hR ev2 (by omega)
  refine lv_aload_n F.1 F.2.1 dX12_leftOf_9 rfl (lv_at hl 0 rfl) ?_
  refine lv_iload_n F.1 F.2.1 dX12_leftOf_10 rfl (lv_at hl 1 rfl) ?_
  refine lv_iload_n F.1 F.2.1 dX12_leftOf_11 rfl (lv_at hl 2 rfl) ?_
  refine lv_aload_n F.1 F.2.1 dX12_leftOf_12 rfl (lv_at hl 0 rfl) ?_
  refine a_Vi F hml hl.1 hA hP hD hS (As := []) (c_X12_dayNow_85 l dC dI ad cA nF _  hR) (cs_RX12_260 (d := 1) F.2.2.1 (by decide)) tc_85 rfl rfl rfl rfl (Nat.le_of_ble_eq_true rfl) dX12_leftOf_13 ⟨Nat.le_refl 0, Nat.le_refl 0⟩ (fun r3 uN3 H locs hq hP hD hS => ?_)
  obtain ⟨hu3, gr3⟩ := hq
  rw [hu3] at hP hD
  refine a_Vi F hml hl.1 hA hP hD hS (As := [.int p0, .int p1, .int r3]) (c_X12_timesOn_85 l dC dI ad cA nF _ p0 p1 r3 hR (by omega) (by omega) (by omega)) (cs_RX12_301 (d := 3) F.2.2.1 (by decide)) tc_85 rfl rfl rfl rfl (Nat.le_of_ble_eq_true rfl) dX12_leftOf_16 ⟨Nat.le_refl 0, Nat.le_refl 0⟩ (fun r4 uN4 H locs hq hP hD hS => ?_)
  have hu4 := hq
  rw [hu4] at hP hD
  refine a_isubU F dX12_leftOf_19 (fun v5 => ?_)
  refine lv_istore_n (lv' := [(3, .int v5), (0, .ref (ad 85)), (1, .int p0), (2, .int p1)]) F.1 F.2.1 dX12_leftOf_20 rfl hl (by decide) rfl (fun ls hl => ?_)
  refine lv_iload_n F.1 F.2.1 dX12_leftOf_21 rfl (lv_at hl 0 rfl) ?_
  refine z_ge F 29 dX12_leftOf_22 (by decide) rfl (fun c6 => ?_) (fun c6 => ?_)
  · refine lv_iload_n F.1 F.2.1 dX12_leftOf_29 rfl (lv_at hl 0 rfl) ?_
    exact a_reti F hr hlocks hP hD hS dX12_leftOf_30 ⟨rfl, (by omega : (0 : Int) ≤ v5.toInt)⟩
  · refine a_ic F (0 : Int32) dX12_leftOf_25 (by decide) ?_
    refine lv_goto (tgt := 30) F.1 F.2.1 dX12_leftOf_26 (by decide) ?_
    exact a_reti F hr hlocks hP hD hS dX12_leftOf_30 ⟨rfl, (by decide)⟩
set_option maxHeartbeats 600000 in
set_option maxRecDepth 100000 in
theorem c_X12_asks_85 (l : Launch) (dC : Nat → ClassId) (dI : Nat → Nat → Nat) (ad : Nat → Nat) (cA : Nat → ClassId) (nF : Nat) (u0 : ac_U) (p0 : Int32) (p1 : Int32) (hR : ac_R rg u0) : ac_Mi l yX12_asks (.code yX12_asks cX12_asks 3 (some .int) :: TB) 5 (dC, dI) vwCl (ac_ty cA) ad cA (TT nF) [.ref (ad 85), .int p0, .int p1] u0 (fun (r : Int32) (u : ac_U) => ac_R rg u ∧ ac_Fr [(85, some 0)] u0 u ∧ ((-1 : Int) ≤ r.toInt)) := by
  refine ac_Mi.of (cc := cX12_asks) (maxL := 3) (ret := (some .int)) (by decide) rfl (Nat.le_of_ble_eq_true rfl) ?_
  intro p e s m below meth c A ls F hml hr hlocks hA hP hD hS hl
  have F : ac_X p s m [.ref (ad 85), .int p0, .int p1].toArray c cX12_asks RX12 TB (dC, dI) vwCl (ac_ty cA) := ⟨F.1, F.2.1, fun w h => F.2.2.1 w (List.mem_cons_of_mem _ h), F.2.2.2.1, F.2.2.2.2⟩
  have hl : lv_has ls 3 [(0, .ref (ad 85)), (1, .int p0), (2, .int p1)] := hl
  have hF : ac_Fr [(85, some 0)] u0 u0 := ac_Fr.rf
  have L32 : ∀ (u : ac_U) (H : Heap) (locs : List Loc) (ls : Array Slot), ac_R rg u → ac_Fr [(85, some 0)] u0 u → (0 : Int) ≤ (u.1 85 0).toInt ∧ (u.1 85 0).toInt ≤ 0 → va_P (dC, dI) vwCl (ac_w ad cA (TT nF) u) H → va_D A (ac_w ad cA (TT nF) u) → va_S A s.heap H locs → lv_has ls 3 [] → W p l e (ac_rm 5) s m [.ref (ad 85), .int p0, .int p1].toArray below meth c H locs 0 0 (MQ below (va_Qi (fun (r : Int32) (u : ac_U) => ac_R rg u ∧ ac_Fr [(85, some 0)] u0 u ∧ ((-1 : Int) ≤ r.toInt)) (ac_B (dC, dI) vwCl (ac_ty cA) ad cA (TT nF) A) A) [.ref (ad 85), .int p0, .int p1].toArray s 0 0 A) (F0 m 32 ls []) := by
    intro u H locs ls hR hF f0 hP hD hS hl
    refine a_ic F (-1 : Int32) dX12_asks_32 (by decide) ?_
    exact a_reti F hr hlocks hP hD hS dX12_asks_33 ⟨hR, hF, (by decide)⟩
  refine lv_aload_n F.1 F.2.1 dX12_asks_0 rfl (lv_at hl 0 rfl) ?_
  refine a_ic F (0 : Int32) dX12_asks_1 (by decide) ?_
  refine a_puti F inX12 tyX12 tyX12_ok nmX12 hP hD hS 85 0 tc_85 rfl rfl (by decide) q1471 (fun _ h9 => h9) rfl (ty := .int) (tyX12_ok 0 (by decide)) rfl rfl dX12_asks_2 (fun H locs hP hD hS => ?_)
  have hR := hR.si (c := 85) (k := 0) (v := (0 : Int32)) (by rw [ic_0]; exact (by omega : (0 : Int) ≤ (0 : Int) ∧ (0 : Int) ≤ 1))
  have hF := hF.si (c := 85) (k := 0) (v := (0 : Int32)) rfl
  refine lv_aload_n F.1 F.2.1 dX12_asks_5 rfl (lv_at hl 0 rfl) ?_
  refine lv_iload_n F.1 F.2.1 dX12_asks_6 rfl (lv_at hl 1 rfl) ?_
  refine lv_iload_n F.1 F.2.1 dX12_asks_7 rfl (lv_at hl 2 rfl) ?_
  refine a_Vi F hml hl.1 hA hP hD hS (As := [.int p0, .int p1]) (c_X12_isReading_85 l dC dI ad cA nF _ p0 p1 hR) (cs_RX12_317 (d := 3) F.2.2.1 (by decide)) tc_85 rfl rfl rfl rfl (Nat.le_of_ble_eq_true rfl) dX12_asks_8 ⟨Nat.le_refl 0, Nat.le_refl 0⟩ (fun r1 uN1 H locs hq hP hD hS => ?_)
  obtain ⟨hu1, gr1, xr1⟩ := hq
  rw [hu1] at hP hD
  have xr1 : r1.toInt ≠ 0 → 0 ≤ p0.toInt ∧ p0.toInt ≤ 7 ∧ 0 ≤ p1.toInt ∧ p1.toInt ≤ 7 := xr1
  refine z_eq F 32 dX12_asks_11 (by decide) rfl (fun c2 => ?_) (fun c2 => ?_)
  · exact L32 _ _ _ _ hR hF (by omega : (0 : Int) ≤ (0 : Int) ∧ (0 : Int) ≤ 0) hP hD hS (lv_sub hl [] rfl)
  · refine lv_aload_n F.1 F.2.1 dX12_asks_14 rfl (lv_at hl 0 rfl) ?_
    refine lv_iload_n F.1 F.2.1 dX12_asks_15 rfl (lv_at hl 1 rfl) ?_
    refine lv_iload_n F.1 F.2.1 dX12_asks_16 rfl (lv_at hl 2 rfl) ?_
    refine a_Vi F hml hl.1 hA hP hD hS (As := [.int p0, .int p1]) (c_X12_isDue_85 l dC dI ad cA nF _ p0 p1 hR (by omega) (by omega)) (cs_RX12_320 (d := 4) F.2.2.1 (by decide)) tc_85 rfl rfl rfl rfl (Nat.le_of_ble_eq_true rfl) dX12_asks_17 ⟨Nat.le_refl 0, Nat.le_refl 0⟩ (fun r3 uN3 H locs hq hP hD hS => ?_)
    obtain ⟨hu3, gr3⟩ := hq
    rw [hu3] at hP hD
    refine z_eq F 32 dX12_asks_20 (by decide) rfl (fun c4 => ?_) (fun c4 => ?_)
    · exact L32 _ _ _ _ hR hF (by omega : (0 : Int) ≤ (0 : Int) ∧ (0 : Int) ≤ 0) hP hD hS (lv_sub hl [] rfl)
    · refine lv_aload_n F.1 F.2.1 dX12_asks_23 rfl (lv_at hl 0 rfl) ?_
      refine lv_iload_n F.1 F.2.1 dX12_asks_24 rfl (lv_at hl 1 rfl) ?_
      refine lv_iload_n F.1 F.2.1 dX12_asks_25 rfl (lv_at hl 2 rfl) ?_
      refine a_Vi F hml hl.1 hA hP hD hS (As := [.int p0, .int p1]) (c_X12_leftOf_85 l dC dI ad cA nF _ p0 p1 hR (by omega) (by omega)) (cs_RX12_323 (d := 4) F.2.2.1 (by decide)) tc_85 rfl rfl rfl rfl (Nat.le_of_ble_eq_true rfl) dX12_asks_26 ⟨Nat.le_refl 0, Nat.le_refl 0⟩ (fun r5 uN5 H locs hq hP hD hS => ?_)
      obtain ⟨hu5, gr5⟩ := hq
      rw [hu5] at hP hD
      refine lv_goto (tgt := 33) F.1 F.2.1 dX12_asks_29 (by decide) ?_
      exact a_reti F hr hlocks hP hD hS dX12_asks_33 ⟨hR, hF, (by omega : (-1 : Int) ≤ r5.toInt)⟩
set_option maxHeartbeats 600000 in
set_option maxRecDepth 100000 in
theorem c_X12_bad_85 (l : Launch) (dC : Nat → ClassId) (dI : Nat → Nat → Nat) (ad : Nat → Nat) (cA : Nat → ClassId) (nF : Nat) (u0 : ac_U) (p0 : Int32) (hR : ac_R rg u0) (hp0 : (1 : Int) ≤ p0.toInt ∧ p0.toInt ≤ 4) : ac_Mi l yX12_bad (.code yX12_bad cX12_bad 2 (some .boolean) :: TB) 1 (dC, dI) vwCl (ac_ty cA) ad cA (TT nF) [.ref (ad 85), .int p0] u0 (fun (r : Int32) (u : ac_U) => ac_R rg u ∧ ac_Fr [(85, some 15), (85, some 16)] u0 u ∧ ((0 : Int) ≤ r.toInt ∧ r.toInt ≤ 0)) := by
  refine ac_Mi.of (cc := cX12_bad) (maxL := 2) (ret := (some .boolean)) (by decide) rfl (Nat.le_of_ble_eq_true rfl) ?_
  intro p e s m below meth c A ls F hml hr hlocks hA hP hD hS hl
  have F : ac_X p s m [.ref (ad 85), .int p0].toArray c cX12_bad RX12 TB (dC, dI) vwCl (ac_ty cA) := ⟨F.1, F.2.1, fun w h => F.2.2.1 w (List.mem_cons_of_mem _ h), F.2.2.2.1, F.2.2.2.2⟩
  have hl : lv_has ls 2 [(0, .ref (ad 85)), (1, .int p0)] := hl
  have hF : ac_Fr [(85, some 15), (85, some 16)] u0 u0 := ac_Fr.rf
  refine lv_aload_n F.1 F.2.1 dX12_bad_0 rfl (lv_at hl 0 rfl) ?_
  refine lv_iload_n F.1 F.2.1 dX12_bad_1 rfl (lv_at hl 1 rfl) ?_
  refine a_puti F inX12 tyX12 tyX12_ok nmX12 hP hD hS 85 15 tc_85 rfl rfl (by decide) q1486 (fun _ h9 => h9) rfl (ty := .int) (tyX12_ok 15 (by decide)) rfl rfl dX12_bad_2 (fun H locs hP hD hS => ?_)
  have hR := hR.si (c := 85) (k := 15) (v := p0) ⟨i_lo _, i_hi _⟩
  have hF := hF.si (c := 85) (k := 15) (v := p0) rfl
  refine lv_aload_n F.1 F.2.1 dX12_bad_5 rfl (lv_at hl 0 rfl) ?_
  refine lv_aload_n F.1 F.2.1 dX12_bad_6 rfl (lv_at hl 0 rfl) ?_
  refine a_geti F inX12 hP 85 12 tc_85 rfl rfl (by decide) q1483 (fun _ h9 => h9) (v := (u0.1 85 12)) rfl dX12_bad_7 ?_
  refine a_puti F inX12 tyX12 tyX12_ok nmX12 hP hD hS 85 16 tc_85 rfl rfl (by decide) q1487 (fun _ h9 => h9) rfl (ty := .int) (tyX12_ok 16 (by decide)) rfl rfl dX12_bad_10 (fun H locs hP hD hS => ?_)
  have hR := hR.si (c := 85) (k := 16) (v := (u0.1 85 12)) ⟨i_lo _, i_hi _⟩
  have hF := hF.si (c := 85) (k := 16) (v := (u0.1 85 12)) rfl
  refine a_ic F (0 : Int32) dX12_bad_13 (by decide) ?_
  exact a_retz F hr hlocks hP hD hS dX12_bad_14 (Or.inl rfl) ⟨hR, hF, (by decide)⟩
set_option maxHeartbeats 600000 in
set_option maxRecDepth 100000 in
theorem c_X12_isSign_85 (l : Launch) (dC : Nat → ClassId) (dI : Nat → Nat → Nat) (ad : Nat → Nat) (cA : Nat → ClassId) (nF : Nat) (u0 : ac_U) (p0 : Int32) (hR : ac_R rg u0) (hp0 : (40 : Int) ≤ p0.toInt ∧ p0.toInt ≤ 59) : ac_Mi l yX12_isSign (.code yX12_isSign cX12_isSign 2 (some .boolean) :: TB) 1 (dC, dI) vwCl (ac_ty cA) ad cA (TT nF) [.ref (ad 85), .int p0] u0 (fun (r : Int32) (u : ac_U) => u = u0 ∧ ((0 : Int) ≤ r.toInt ∧ r.toInt ≤ 1)) := by
  refine ac_Mi.of (cc := cX12_isSign) (maxL := 2) (ret := (some .boolean)) (by decide) rfl (Nat.le_of_ble_eq_true rfl) ?_
  intro p e s m below meth c A ls F hml hr hlocks hA hP hD hS hl
  have F : ac_X p s m [.ref (ad 85), .int p0].toArray c cX12_isSign RX12 TB (dC, dI) vwCl (ac_ty cA) := ⟨F.1, F.2.1, fun w h => F.2.2.1 w (List.mem_cons_of_mem _ h), F.2.2.2.1, F.2.2.2.2⟩
  have hl : lv_has ls 2 [(0, .ref (ad 85)), (1, .int p0)] := hl
  have L20 : ∀ (H : Heap) (locs : List Loc) (ls : Array Slot), va_P (dC, dI) vwCl (ac_w ad cA (TT nF) u0) H → va_D A (ac_w ad cA (TT nF) u0) → va_S A s.heap H locs → lv_has ls 2 [] → W p l e (ac_rm 1) s m [.ref (ad 85), .int p0].toArray below meth c H locs 0 0 (MQ below (va_Qi (fun (r : Int32) (u : ac_U) => u = u0 ∧ ((0 : Int) ≤ r.toInt ∧ r.toInt ≤ 1)) (ac_B (dC, dI) vwCl (ac_ty cA) ad cA (TT nF) A) A) [.ref (ad 85), .int p0].toArray s 0 0 A) (F0 m 20 ls []) := by
    intro H locs ls hP hD hS hl
    refine a_ic F (0 : Int32) dX12_isSign_20 (by decide) ?_
    exact a_retz F hr hlocks hP hD hS dX12_isSign_21 (Or.inl rfl) ⟨rfl, (by decide)⟩
  refine lv_aload_n F.1 F.2.1 dX12_isSign_0 rfl (lv_at hl 0 rfl) ?_
  have g1 : (0 : Int) ≤ (u0.1 85 11).toInt ∧ (u0.1 85 11).toInt ≤ 4 := hR 85 11
  refine a_geti F inX12 hP 85 11 tc_85 rfl rfl (by decide) q1482 (fun _ h9 => h9) (v := (u0.1 85 11)) rfl dX12_isSign_1 ?_
  refine a_ic F (3 : Int32) dX12_isSign_4 (by decide) ?_
  refine b_ne F 20 dX12_isSign_5 (by decide) rfl ic_3 (fun c2 => ?_) (fun c2 => ?_)
  · exact L20 _ _ _  hP hD hS (lv_sub hl [] rfl)
  · refine lv_aload_n F.1 F.2.1 dX12_isSign_8 rfl (lv_at hl 0 rfl) ?_
    refine a_geti F inX12 hP 85 14 tc_85 rfl rfl (by decide) q1485 (fun _ h9 => h9) (v := (u0.1 85 14)) rfl dX12_isSign_9 ?_
    refine lv_iload_n F.1 F.2.1 dX12_isSign_12 rfl (lv_at hl 1 rfl) ?_
    refine b_ne F 20 dX12_isSign_13 (by decide) rfl rfl (fun c3 => ?_) (fun c3 => ?_)
    · exact L20 _ _ _  hP hD hS (lv_sub hl [] rfl)
    · refine a_ic F (1 : Int32) dX12_isSign_16 (by decide) ?_
      refine lv_goto (tgt := 21) F.1 F.2.1 dX12_isSign_17 (by decide) ?_
      exact a_retz F hr hlocks hP hD hS dX12_isSign_21 (Or.inr rfl) ⟨rfl, (by decide)⟩
set_option maxHeartbeats 600000 in
set_option maxRecDepth 100000 in
theorem c_X12_isWord_85 (l : Launch) (dC : Nat → ClassId) (dI : Nat → Nat → Nat) (ad : Nat → Nat) (cA : Nat → ClassId) (nF : Nat) (u0 : ac_U) (p0 : Int64) (hR : ac_R rg u0) : ac_Mi l yX12_isWord (.code yX12_isWord cX12_isWord 3 (some .boolean) :: TB) 1 (dC, dI) vwCl (ac_ty cA) ad cA (TT nF) [.ref (ad 85), .long p0] u0 (fun (r : Int32) (u : ac_U) => u = u0 ∧ ((0 : Int) ≤ r.toInt ∧ r.toInt ≤ 1)) := by
  refine ac_Mi.of (cc := cX12_isWord) (maxL := 3) (ret := (some .boolean)) (by decide) rfl (Nat.le_of_ble_eq_true rfl) ?_
  intro p e s m below meth c A ls F hml hr hlocks hA hP hD hS hl
  have F : ac_X p s m [.ref (ad 85), .long p0].toArray c cX12_isWord RX12 TB (dC, dI) vwCl (ac_ty cA) := ⟨F.1, F.2.1, fun w h => F.2.2.1 w (List.mem_cons_of_mem _ h), F.2.2.2.1, F.2.2.2.2⟩
  have hl : lv_has ls 3 [(0, .ref (ad 85)), (1, .long p0)] := hl
  have L21 : ∀ (H : Heap) (locs : List Loc) (ls : Array Slot), va_P (dC, dI) vwCl (ac_w ad cA (TT nF) u0) H → va_D A (ac_w ad cA (TT nF) u0) → va_S A s.heap H locs → lv_has ls 3 [] → W p l e (ac_rm 1) s m [.ref (ad 85), .long p0].toArray below meth c H locs 0 0 (MQ below (va_Qi (fun (r : Int32) (u : ac_U) => u = u0 ∧ ((0 : Int) ≤ r.toInt ∧ r.toInt ≤ 1)) (ac_B (dC, dI) vwCl (ac_ty cA) ad cA (TT nF) A) A) [.ref (ad 85), .long p0].toArray s 0 0 A) (F0 m 21 ls []) := by
    intro H locs ls hP hD hS hl
    refine a_ic F (0 : Int32) dX12_isWord_21 (by decide) ?_
    exact a_retz F hr hlocks hP hD hS dX12_isWord_22 (Or.inl rfl) ⟨rfl, (by decide)⟩
  refine lv_aload_n F.1 F.2.1 dX12_isWord_0 rfl (lv_at hl 0 rfl) ?_
  have g1 : (0 : Int) ≤ (u0.1 85 11).toInt ∧ (u0.1 85 11).toInt ≤ 4 := hR 85 11
  refine a_geti F inX12 hP 85 11 tc_85 rfl rfl (by decide) q1482 (fun _ h9 => h9) (v := (u0.1 85 11)) rfl dX12_isWord_1 ?_
  refine a_ic F (1 : Int32) dX12_isWord_4 (by decide) ?_
  refine b_ne F 21 dX12_isWord_5 (by decide) rfl ic_1 (fun c2 => ?_) (fun c2 => ?_)
  · exact L21 _ _ _  hP hD hS (lv_sub hl [] rfl)
  · refine lv_aload_n F.1 F.2.1 dX12_isWord_8 rfl (lv_at hl 0 rfl) ?_
    refine a_getl F inX12 hP 85 17 tc_85 rfl rfl (by decide) q1488 (fun _ h9 => h9) rfl dX12_isWord_9 ?_
    refine lv_topl (fun w3 _ => ?_)
    refine lv_lload_n F.1 F.2.1 dX12_isWord_12 rfl (lv_at hl 1 rfl) ?_
    refine W.lcmp F.1 F.2.1 dX12_isWord_13 ?_
    refine lv_topi (fun v4 _ => ?_)
    refine z_ne F 21 dX12_isWord_14 (by decide) rfl (fun c5 => ?_) (fun c5 => ?_)
    · exact L21 _ _ _  hP hD hS (lv_sub hl [] rfl)
    · refine a_ic F (1 : Int32) dX12_isWord_17 (by decide) ?_
      refine lv_goto (tgt := 22) F.1 F.2.1 dX12_isWord_18 (by decide) ?_
      exact a_retz F hr hlocks hP hD hS dX12_isWord_22 (Or.inr rfl) ⟨rfl, (by decide)⟩
set_option maxHeartbeats 600000 in
set_option maxRecDepth 100000 in
theorem c_X12_isDigit (l : Launch) (dC : Nat → ClassId) (dI : Nat → Nat → Nat) (ad : Nat → Nat) (cA : Nat → ClassId) (nF : Nat) (u0 : ac_U) (p0 : Int32) (hR : ac_R rg u0) (hp0 : (-1 : Int) ≤ p0.toInt ∧ p0.toInt ≤ 255) : ac_Mi l yX12_isDigit (.code yX12_isDigit cX12_isDigit 1 (some .boolean) :: TB) 1 (dC, dI) vwCl (ac_ty cA) ad cA (TT nF) [.int p0] u0 (fun (r : Int32) (u : ac_U) => u = u0 ∧ ((0 : Int) ≤ r.toInt ∧ r.toInt ≤ 1) ∧ (r.toInt ≠ 0 → 48 ≤ p0.toInt ∧ p0.toInt ≤ 57)) := by
  refine ac_Mi.of (cc := cX12_isDigit) (maxL := 1) (ret := (some .boolean)) (by decide) rfl (Nat.le_of_ble_eq_true rfl) ?_
  intro p e s m below meth c A ls F hml hr hlocks hA hP hD hS hl
  have F : ac_X p s m [.int p0].toArray c cX12_isDigit RX12 TB (dC, dI) vwCl (ac_ty cA) := ⟨F.1, F.2.1, fun w h => F.2.2.1 w (List.mem_cons_of_mem _ h), F.2.2.2.1, F.2.2.2.2⟩
  have hl : lv_has ls 1 [(0, .int p0)] := hl
  have L16 : ∀ (H : Heap) (locs : List Loc) (ls : Array Slot), va_P (dC, dI) vwCl (ac_w ad cA (TT nF) u0) H → va_D A (ac_w ad cA (TT nF) u0) → va_S A s.heap H locs → lv_has ls 1 [] → W p l e (ac_rm 1) s m [.int p0].toArray below meth c H locs 0 0 (MQ below (va_Qi (fun (r : Int32) (u : ac_U) => u = u0 ∧ ((0 : Int) ≤ r.toInt ∧ r.toInt ≤ 1) ∧ (r.toInt ≠ 0 → 48 ≤ p0.toInt ∧ p0.toInt ≤ 57)) (ac_B (dC, dI) vwCl (ac_ty cA) ad cA (TT nF) A) A) [.int p0].toArray s 0 0 A) (F0 m 16 ls []) := by
    intro H locs ls hP hD hS hl
    refine a_ic F (0 : Int32) dX12_isDigit_16 (by decide) ?_
    exact a_retz F hr hlocks hP hD hS dX12_isDigit_17 (Or.inl rfl) ⟨rfl, (by decide), (by first | exact (by omega : (0 : Int) ≠ 0 → 48 ≤ p0.toInt ∧ p0.toInt ≤ 57) | (rw [ic_0]; exact (by omega : (0 : Int) ≠ 0 → 48 ≤ p0.toInt ∧ p0.toInt ≤ 57)))⟩
  refine lv_iload_n F.1 F.2.1 dX12_isDigit_0 rfl (lv_at hl 0 rfl) ?_
  refine a_bp F (48 : Int32) dX12_isDigit_1 (by decide) ?_
  refine b_lt F 16 dX12_isDigit_3 (by decide) rfl ic_48 (fun c1 => ?_) (fun c1 => ?_)
  · exact L16 _ _ _  hP hD hS (lv_sub hl [] rfl)
  · refine lv_iload_n F.1 F.2.1 dX12_isDigit_6 rfl (lv_at hl 0 rfl) ?_
    refine a_bp F (57 : Int32) dX12_isDigit_7 (by decide) ?_
    refine b_gt F 16 dX12_isDigit_9 (by decide) rfl ic_57 (fun c2 => ?_) (fun c2 => ?_)
    · exact L16 _ _ _  hP hD hS (lv_sub hl [] rfl)
    · refine a_ic F (1 : Int32) dX12_isDigit_12 (by decide) ?_
      refine lv_goto (tgt := 17) F.1 F.2.1 dX12_isDigit_13 (by decide) ?_
      exact a_retz F hr hlocks hP hD hS dX12_isDigit_17 (Or.inr rfl) ⟨rfl, (by decide), (by first | exact (by omega : (1 : Int) ≠ 0 → 48 ≤ p0.toInt ∧ p0.toInt ≤ 57) | (rw [ic_1]; exact (by omega : (1 : Int) ≠ 0 → 48 ≤ p0.toInt ∧ p0.toInt ≤ 57)))⟩
set_option maxHeartbeats 600000 in
set_option maxRecDepth 100000 in
theorem c_X12_isSmall (l : Launch) (dC : Nat → ClassId) (dI : Nat → Nat → Nat) (ad : Nat → Nat) (cA : Nat → ClassId) (nF : Nat) (u0 : ac_U) (p0 : Int32) (hR : ac_R rg u0) (hp0 : (-1 : Int) ≤ p0.toInt ∧ p0.toInt ≤ 255) : ac_Mi l yX12_isSmall (.code yX12_isSmall cX12_isSmall 1 (some .boolean) :: TB) 1 (dC, dI) vwCl (ac_ty cA) ad cA (TT nF) [.int p0] u0 (fun (r : Int32) (u : ac_U) => u = u0 ∧ ((0 : Int) ≤ r.toInt ∧ r.toInt ≤ 1) ∧ (r.toInt ≠ 0 → 97 ≤ p0.toInt ∧ p0.toInt ≤ 122)) := by
  refine ac_Mi.of (cc := cX12_isSmall) (maxL := 1) (ret := (some .boolean)) (by decide) rfl (Nat.le_of_ble_eq_true rfl) ?_
  intro p e s m below meth c A ls F hml hr hlocks hA hP hD hS hl
  have F : ac_X p s m [.int p0].toArray c cX12_isSmall RX12 TB (dC, dI) vwCl (ac_ty cA) := ⟨F.1, F.2.1, fun w h => F.2.2.1 w (List.mem_cons_of_mem _ h), F.2.2.2.1, F.2.2.2.2⟩
  have hl : lv_has ls 1 [(0, .int p0)] := hl
  have L16 : ∀ (H : Heap) (locs : List Loc) (ls : Array Slot), va_P (dC, dI) vwCl (ac_w ad cA (TT nF) u0) H → va_D A (ac_w ad cA (TT nF) u0) → va_S A s.heap H locs → lv_has ls 1 [] → W p l e (ac_rm 1) s m [.int p0].toArray below meth c H locs 0 0 (MQ below (va_Qi (fun (r : Int32) (u : ac_U) => u = u0 ∧ ((0 : Int) ≤ r.toInt ∧ r.toInt ≤ 1) ∧ (r.toInt ≠ 0 → 97 ≤ p0.toInt ∧ p0.toInt ≤ 122)) (ac_B (dC, dI) vwCl (ac_ty cA) ad cA (TT nF) A) A) [.int p0].toArray s 0 0 A) (F0 m 16 ls []) := by
    intro H locs ls hP hD hS hl
    refine a_ic F (0 : Int32) dX12_isSmall_16 (by decide) ?_
    exact a_retz F hr hlocks hP hD hS dX12_isSmall_17 (Or.inl rfl) ⟨rfl, (by decide), (by first | exact (by omega : (0 : Int) ≠ 0 → 97 ≤ p0.toInt ∧ p0.toInt ≤ 122) | (rw [ic_0]; exact (by omega : (0 : Int) ≠ 0 → 97 ≤ p0.toInt ∧ p0.toInt ≤ 122)))⟩
  refine lv_iload_n F.1 F.2.1 dX12_isSmall_0 rfl (lv_at hl 0 rfl) ?_
  refine a_bp F (97 : Int32) dX12_isSmall_1 (by decide) ?_
  refine b_lt F 16 dX12_isSmall_3 (by decide) rfl ic_97 (fun c1 => ?_) (fun c1 => ?_)
  · exact L16 _ _ _  hP hD hS (lv_sub hl [] rfl)
  · refine lv_iload_n F.1 F.2.1 dX12_isSmall_6 rfl (lv_at hl 0 rfl) ?_
    refine a_bp F (122 : Int32) dX12_isSmall_7 (by decide) ?_
    refine b_gt F 16 dX12_isSmall_9 (by decide) rfl ic_122 (fun c2 => ?_) (fun c2 => ?_)
    · exact L16 _ _ _  hP hD hS (lv_sub hl [] rfl)
    · refine a_ic F (1 : Int32) dX12_isSmall_12 (by decide) ?_
      refine lv_goto (tgt := 17) F.1 F.2.1 dX12_isSmall_13 (by decide) ?_
      exact a_retz F hr hlocks hP hD hS dX12_isSmall_17 (Or.inr rfl) ⟨rfl, (by decide), (by first | exact (by omega : (1 : Int) ≠ 0 → 97 ≤ p0.toInt ∧ p0.toInt ≤ 122) | (rw [ic_1]; exact (by omega : (1 : Int) ≠ 0 → 97 ≤ p0.toInt ∧ p0.toInt ≤ 122)))⟩
set_option maxHeartbeats 600000 in
set_option maxRecDepth 100000 in
theorem c_X12_peek_85 (l : Launch) (dC : Nat → ClassId) (dI : Nat → Nat → Nat) (ad : Nat → Nat) (cA : Nat → ClassId) (nF : Nat) (u0 : ac_U)  (hR : ac_R rg u0) : ac_Mi l yX12_peek (.code yX12_peek cX12_peek 1 (some .int) :: TB) 1 (dC, dI) vwCl (ac_ty cA) ad cA (TT nF) [.ref (ad 85)] u0 (fun (r : Int32) (u : ac_U) => u = u0 ∧ ((-1 : Int) ≤ r.toInt ∧ r.toInt ≤ 255) ∧ (0 ≤ r.toInt → (u0.1 85 4).toInt < (u0.1 85 3).toInt)) := by
  refine ac_Mi.of (cc := cX12_peek) (maxL := 1) (ret := (some .int)) (by decide) rfl (Nat.le_of_ble_eq_true rfl) ?_
  intro p e s m below meth c A ls F hml hr hlocks hA hP hD hS hl
  have F : ac_X p s m [.ref (ad 85)].toArray c cX12_peek RX12 TB (dC, dI) vwCl (ac_ty cA) := ⟨F.1, F.2.1, fun w h => F.2.2.1 w (List.mem_cons_of_mem _ h), F.2.2.2.1, F.2.2.2.2⟩
  have hl : lv_has ls 1 [(0, .ref (ad 85))] := hl
  refine lv_aload_n F.1 F.2.1 dX12_peek_0 rfl (lv_at hl 0 rfl) ?_
  have g1 : (0 : Int) ≤ (u0.1 85 4).toInt ∧ (u0.1 85 4).toInt ≤ 940 := hR 85 4
  refine a_geti F inX12 hP 85 4 tc_85 rfl rfl (by decide) q1475 (fun _ h9 => h9) (v := (u0.1 85 4)) rfl dX12_peek_1 ?_
  refine lv_aload_n F.1 F.2.1 dX12_peek_4 rfl (lv_at hl 0 rfl) ?_
  have g2 : (0 : Int) ≤ (u0.1 85 3).toInt ∧ (u0.1 85 3).toInt ≤ 940 := hR 85 3
  refine a_geti F inX12 hP 85 3 tc_85 rfl rfl (by decide) q1474 (fun _ h9 => h9) (v := (u0.1 85 3)) rfl dX12_peek_5 ?_
  refine b_ge F 27 dX12_peek_8 (by decide) rfl rfl (fun c3 => ?_) (fun c3 => ?_)
  · refine a_ic F (-1 : Int32) dX12_peek_27 (by decide) ?_
    exact a_reti F hr hlocks hP hD hS dX12_peek_28 ⟨rfl, (by decide), (by first | exact (by omega : 0 ≤ (-1 : Int) → (u0.1 85 4).toInt < (u0.1 85 3).toInt) | (rw [ic_m1]; exact (by omega : 0 ≤ (-1 : Int) → (u0.1 85 4).toInt < (u0.1 85 3).toInt)))⟩
  · refine lv_aload_n F.1 F.2.1 dX12_peek_11 rfl (lv_at hl 0 rfl) ?_
    refine a_getr F inX12 hP 85 1 tc_85 rfl rfl (by decide) q1472 (fun _ h9 => h9) dX12_peek_12 ?_
    refine lv_aload_n F.1 F.2.1 dX12_peek_15 rfl (lv_at hl 0 rfl) ?_
    refine a_geti F inX12 hP 85 4 tc_85 rfl rfl (by decide) q1475 (fun _ h9 => h9) (v := (u0.1 85 4)) (rfl) dX12_peek_16 ?_
    refine a_bald F hP 86 tc_86 rfl (i_in rfl (by omega)) dX12_peek_19 (fun v4 ev4 => ?_)
    have hv4 : (-128 : Int) ≤ v4.toInt ∧ v4.toInt ≤ 127 := ev4 ▸ hR 86 _
    refine a_sp F (255 : Int32) dX12_peek_20 (by decide) ?_
    refine a_iandM F dX12_peek_23 ic_255 (by omega) (fun v5 hv5 => ?_)
    refine lv_goto (tgt := 28) F.1 F.2.1 dX12_peek_24 (by decide) ?_
    exact a_reti F hr hlocks hP hD hS dX12_peek_28 ⟨rfl, (by omega : (-1 : Int) ≤ v5.toInt ∧ v5.toInt ≤ 255), (by omega : 0 ≤ v5.toInt → (u0.1 85 4).toInt < (u0.1 85 3).toInt)⟩
set_option maxHeartbeats 600000 in
set_option maxRecDepth 100000 in
theorem c_X12_next_85 (l : Launch) (dC : Nat → ClassId) (dI : Nat → Nat → Nat) (ad : Nat → Nat) (cA : Nat → ClassId) (nF : Nat) (u0 : ac_U)  (hR : ac_R rg u0) : ac_Mv l yX12_next (.code yX12_next cX12_next 4 none :: TB) 2 (dC, dI) vwCl (ac_ty cA) ad cA (TT nF) [.ref (ad 85)] u0 (fun (u : ac_U) => ac_R rg u ∧ ac_Fr [(85, some 4), (85, some 11), (85, some 12), (85, some 13), (85, some 14)] u0 u) := by
  refine ac_Mv.of (cc := cX12_next) (maxL := 4) (ret := none) (by decide) rfl (Nat.le_of_ble_eq_true rfl) ?_
  intro p e s m below meth c A ls F hml hr hlocks hA hP hD hS hl
  have F : ac_X p s m [.ref (ad 85)].toArray c cX12_next RX12 TB (dC, dI) vwCl (ac_ty cA) := ⟨F.1, F.2.1, fun w h => F.2.2.1 w (List.mem_cons_of_mem _ h), F.2.2.2.1, F.2.2.2.2⟩
  have hl : lv_has ls 4 [(0, .ref (ad 85))] := hl
  have hF : ac_Fr [(85, some 4), (85, some 11), (85, some 12), (85, some 13), (85, some 14)] u0 u0 := ac_Fr.rf
  have L333 : ∀ (z1 : Int32) (u : ac_U) (H : Heap) (locs : List Loc) (ls : Array Slot), ac_R rg u → ac_Fr [(85, some 4), (85, some 11), (85, some 12), (85, some 13), (85, some 14)] u0 u → (1 : Int) ≤ z1.toInt ∧ z1.toInt ≤ 4 → (0 : Int) ≤ (u.1 85 12).toInt ∧ (u.1 85 12).toInt ≤ 940 → va_P (dC, dI) vwCl (ac_w ad cA (TT nF) u) H → va_D A (ac_w ad cA (TT nF) u) → va_S A s.heap H locs → lv_has ls 4 [] → W p l e (ac_rm 2) s m [.ref (ad 85)].toArray below meth c H locs 0 0 (MQ below (va_Qv (fun (u : ac_U) => ac_R rg u ∧ ac_Fr [(85, some 4), (85, some 11), (85, some 12), (85, some 13), (85, some 14)] u0 u) (ac_B (dC, dI) vwCl (ac_ty cA) ad cA (TT nF) A) A) [.ref (ad 85)].toArray s 0 0 A) (F0 m 333 ls [.int z1, .ref (ad 85)]) := by
    intro z1 u H locs ls hR hF f0 f1 hP hD hS hl
    refine a_puti F inX12 tyX12 tyX12_ok nmX12 hP hD hS 85 11 tc_85 rfl rfl (by decide) q1482 (fun _ h9 => h9) rfl (ty := .int) (tyX12_ok 11 (by decide)) rfl rfl dX12_next_333 (fun H locs hP hD hS => ?_)
    have hR := hR.si (c := 85) (k := 11) (v := z1) (by omega : (0 : Int) ≤ z1.toInt ∧ z1.toInt ≤ 4)
    have hF := hF.si (c := 85) (k := 11) (v := z1) rfl
    exact a_retv F hr hlocks hP hD hS dX12_next_336 ⟨hR, hF⟩
  have L320 : ∀ (u : ac_U) (H : Heap) (locs : List Loc) (ls : Array Slot), ac_R rg u → ac_Fr [(85, some 4), (85, some 11), (85, some 12), (85, some 13), (85, some 14)] u0 u → (0 : Int) ≤ (u.1 85 12).toInt ∧ (u.1 85 12).toInt ≤ 940 → va_P (dC, dI) vwCl (ac_w ad cA (TT nF) u) H → va_D A (ac_w ad cA (TT nF) u) → va_S A s.heap H locs → lv_has ls 4 [] → W p l e (ac_rm 2) s m [.ref (ad 85)].toArray below meth c H locs 0 0 (MQ below (va_Qv (fun (u : ac_U) => ac_R rg u ∧ ac_Fr [(85, some 4), (85, some 11), (85, some 12), (85, some 13), (85, some 14)] u0 u) (ac_B (dC, dI) vwCl (ac_ty cA) ad cA (TT nF) A) A) [.ref (ad 85)].toArray s 0 0 A) (F0 m 320 ls [.ref (ad 85)]) := by
    intro u H locs ls hR hF f0 hP hD hS hl
    refine a_ic F (4 : Int32) dX12_next_320 (by decide) ?_
    refine lv_goto (tgt := 333) F.1 F.2.1 dX12_next_321 (by decide) ?_
    exact L333 (4 : Int32) _ _ _ _ hR hF (by decide) (by omega : (0 : Int) ≤ (u.1 85 12).toInt ∧ (u.1 85 12).toInt ≤ 940) hP hD hS (lv_sub hl [] rfl)
  have L317 : ∀ (x2 : Int32) (z1 : Int32) (z2 : Int32) (u : ac_U) (H : Heap) (locs : List Loc) (ls : Array Slot), ac_R rg u → ac_Fr [(85, some 4), (85, some 11), (85, some 12), (85, some 13), (85, some 14)] u0 u → (0 : Int) ≤ x2.toInt ∧ x2.toInt ≤ 1 → (3 : Int) ≤ z2.toInt ∧ z2.toInt ≤ 7 → (0 : Int) ≤ (u.1 85 12).toInt ∧ (u.1 85 12).toInt ≤ 940 → va_P (dC, dI) vwCl (ac_w ad cA (TT nF) u) H → va_D A (ac_w ad cA (TT nF) u) → va_S A s.heap H locs → lv_has ls 4 [(2, .int x2)] → W p l e (ac_rm 2) s m [.ref (ad 85)].toArray below meth c H locs 0 0 (MQ below (va_Qv (fun (u : ac_U) => ac_R rg u ∧ ac_Fr [(85, some 4), (85, some 11), (85, some 12), (85, some 13), (85, some 14)] u0 u) (ac_B (dC, dI) vwCl (ac_ty cA) ad cA (TT nF) A) A) [.ref (ad 85)].toArray s 0 0 A) (F0 m 317 ls [.int z2, .int z1, .ref (ad 85)]) := by
    intro x2 z1 z2 u H locs ls hR hF f0 f1 f2 hP hD hS hl
    refine b_le F 324 dX12_next_317 (by decide) rfl rfl (fun c1 => ?_) (fun c1 => ?_)
    · refine lv_iload_n F.1 F.2.1 dX12_next_324 rfl (lv_at hl 0 rfl) ?_
      refine z_eq F 332 dX12_next_325 (by decide) rfl (fun c2 => ?_) (fun c2 => ?_)
      · refine a_ic F (2 : Int32) dX12_next_332 (by decide) ?_
        exact L333 (2 : Int32) _ _ _ _ hR hF (by decide) (by omega : (0 : Int) ≤ (u.1 85 12).toInt ∧ (u.1 85 12).toInt ≤ 940) hP hD hS (lv_sub hl [] rfl)
      · refine a_ic F (1 : Int32) dX12_next_328 (by decide) ?_
        refine lv_goto (tgt := 333) F.1 F.2.1 dX12_next_329 (by decide) ?_
        exact L333 (1 : Int32) _ _ _ _ hR hF (by decide) (by omega : (0 : Int) ≤ (u.1 85 12).toInt ∧ (u.1 85 12).toInt ≤ 940) hP hD hS (lv_sub hl [] rfl)
    · exact L320 _ _ _ _ hR hF (by omega : (0 : Int) ≤ (u.1 85 12).toInt ∧ (u.1 85 12).toInt ≤ 940) hP hD hS (lv_sub hl [] rfl)
  have L181 : ∀ (n181 : Nat) (x2 : Int32) (x3 : Int32) (u : ac_U) (H : Heap) (locs : List Loc) (ls : Array Slot), ac_R rg u → ac_Fr [(85, some 4), (85, some 11), (85, some 12), (85, some 13), (85, some 14)] u0 u → 940 - (u.1 85 4).toInt < (n181 : Int) → (0 : Int) ≤ x2.toInt ∧ x2.toInt ≤ 1 → (0 : Int) ≤ x3.toInt ∧ x3.toInt ≤ 1 → (0 : Int) ≤ (u.1 85 4).toInt ∧ (u.1 85 4).toInt ≤ 940 → (0 : Int) ≤ (u.1 85 12).toInt ∧ (u.1 85 12).toInt ≤ 940 → va_P (dC, dI) vwCl (ac_w ad cA (TT nF) u) H → va_D A (ac_w ad cA (TT nF) u) → va_S A s.heap H locs → lv_has ls 4 [(0, .ref (ad 85)), (2, .int x2), (3, .int x3)] → W p l e (ac_rm 2) s m [.ref (ad 85)].toArray below meth c H locs 0 0 (MQ below (va_Qv (fun (u : ac_U) => ac_R rg u ∧ ac_Fr [(85, some 4), (85, some 11), (85, some 12), (85, some 13), (85, some 14)] u0 u) (ac_B (dC, dI) vwCl (ac_ty cA) ad cA (TT nF) A) A) [.ref (ad 85)].toArray s 0 0 A) (F0 m 181 ls []) := by
    intro n181
    induction n181 with
    | zero => intro x2 x3 u H locs ls hR hF hn181 f0 f1 f2 f3 hP hD hS hl; have gz0 : (0 : Int) ≤ (u.1 85 4).toInt ∧ (u.1 85 4).toInt ≤ 940 := hR 85 4; exfalso; omega
    | succ n181 ih181 =>
      intro x2 x3 u H locs ls hR hF hn181 f0 f1 f2 f3 hP hD hS hl
      have L275 : ∀ (x2 : Int32) (x3 : Int32) (u : ac_U) (H : Heap) (locs : List Loc) (ls : Array Slot), ac_R rg u → ac_Fr [(85, some 4), (85, some 11), (85, some 12), (85, some 13), (85, some 14)] u0 u → (0 : Int) ≤ x2.toInt ∧ x2.toInt ≤ 1 → (0 : Int) ≤ x3.toInt ∧ x3.toInt ≤ 1 → (0 : Int) ≤ (u.1 85 4).toInt ∧ (u.1 85 4).toInt ≤ 939 → (0 : Int) ≤ (u.1 85 12).toInt ∧ (u.1 85 12).toInt ≤ 940 → 940 - (u.1 85 4).toInt < ((n181 : Nat) : Int) + 1 → va_P (dC, dI) vwCl (ac_w ad cA (TT nF) u) H → va_D A (ac_w ad cA (TT nF) u) → va_S A s.heap H locs → lv_has ls 4 [(0, .ref (ad 85)), (2, .int x2), (3, .int x3)] → W p l e (ac_rm 2) s m [.ref (ad 85)].toArray below meth c H locs 0 0 (MQ below (va_Qv (fun (u : ac_U) => ac_R rg u ∧ ac_Fr [(85, some 4), (85, some 11), (85, some 12), (85, some 13), (85, some 14)] u0 u) (ac_B (dC, dI) vwCl (ac_ty cA) ad cA (TT nF) A) A) [.ref (ad 85)].toArray s 0 0 A) (F0 m 275 ls []) := by
        intro x2 x3 u H locs ls hR hF f0 f1 f2 f3 f4 hP hD hS hl
        refine lv_aload_n F.1 F.2.1 dX12_next_275 rfl (lv_at hl 0 rfl) ?_
        refine lv_dup F.1 F.2.1 dX12_next_276 rfl ?_
        refine a_geti F inX12 hP 85 13 tc_85 rfl rfl (by decide) q1484 (fun _ h9 => h9) (v := (u.1 85 13)) rfl dX12_next_277 ?_
        refine a_ic F (1 : Int32) dX12_next_280 (by decide) ?_
        refine a_iaddU F dX12_next_281 (fun v3 => ?_)
        refine a_puti F inX12 tyX12 tyX12_ok nmX12 hP hD hS 85 13 tc_85 rfl rfl (by decide) q1484 (fun _ h9 => h9) rfl (ty := .int) (tyX12_ok 13 (by decide)) rfl rfl dX12_next_282 (fun H locs hP hD hS => ?_)
        have hR := hR.si (c := 85) (k := 13) (v := v3) ⟨i_lo _, i_hi _⟩
        have hF := hF.si (c := 85) (k := 13) (v := v3) rfl
        refine lv_aload_n F.1 F.2.1 dX12_next_285 rfl (lv_at hl 0 rfl) ?_
        refine lv_dup F.1 F.2.1 dX12_next_286 rfl ?_
        have g4 : (0 : Int) ≤ (u.1 85 4).toInt ∧ (u.1 85 4).toInt ≤ 940 := hR 85 4
        refine a_geti F inX12 hP 85 4 tc_85 rfl rfl (by decide) q1475 (fun _ h9 => h9) (v := (u.1 85 4)) rfl dX12_next_287 ?_
        refine a_ic F (1 : Int32) dX12_next_290 (by decide) ?_
        refine a_iadd F dX12_next_291 rfl ic_1 (by omega) (fun v5 hv5 => ?_)
        refine a_puti F inX12 tyX12 tyX12_ok nmX12 hP hD hS 85 4 tc_85 rfl rfl (by decide) q1475 (fun _ h9 => h9) rfl (ty := .int) (tyX12_ok 4 (by decide)) rfl rfl dX12_next_292 (fun H locs hP hD hS => ?_)
        have hR := hR.si (c := 85) (k := 4) (v := v5) (by omega : (0 : Int) ≤ v5.toInt ∧ v5.toInt ≤ 940)
        have hF := hF.si (c := 85) (k := 4) (v := v5) rfl
        refine lv_goto (tgt := 181) F.1 F.2.1 dX12_next_295 (by decide) ?_
        exact ih181 x2 x3 _ _ _ _ hR hF (by omega : 940 - v5.toInt < ((n181 : Nat) : Int)) (by omega) (by omega) (by omega : (0 : Int) ≤ v5.toInt ∧ v5.toInt ≤ 940) (by omega : (0 : Int) ≤ (u.1 85 12).toInt ∧ (u.1 85 12).toInt ≤ 940) hP hD hS (lv_sub hl [0, 1, 2] rfl)
      have L248 : ∀ (x2 : Int32) (x3 : Int32) (u : ac_U) (H : Heap) (locs : List Loc) (ls : Array Slot), ac_R rg u → ac_Fr [(85, some 4), (85, some 11), (85, some 12), (85, some 13), (85, some 14)] u0 u → (0 : Int) ≤ x2.toInt ∧ x2.toInt ≤ 1 → (0 : Int) ≤ x3.toInt ∧ x3.toInt ≤ 1 → (0 : Int) ≤ (u.1 85 4).toInt ∧ (u.1 85 4).toInt ≤ 939 → (0 : Int) ≤ (u.1 85 12).toInt ∧ (u.1 85 12).toInt ≤ 940 → 940 - (u.1 85 4).toInt < ((n181 : Nat) : Int) + 1 → va_P (dC, dI) vwCl (ac_w ad cA (TT nF) u) H → va_D A (ac_w ad cA (TT nF) u) → va_S A s.heap H locs → lv_has ls 4 [(0, .ref (ad 85)), (2, .int x2), (3, .int x3)] → W p l e (ac_rm 2) s m [.ref (ad 85)].toArray below meth c H locs 0 0 (MQ below (va_Qv (fun (u : ac_U) => ac_R rg u ∧ ac_Fr [(85, some 4), (85, some 11), (85, some 12), (85, some 13), (85, some 14)] u0 u) (ac_B (dC, dI) vwCl (ac_ty cA) ad cA (TT nF) A) A) [.ref (ad 85)].toArray s 0 0 A) (F0 m 248 ls []) := by
        intro x2 x3 u H locs ls hR hF f0 f1 f2 f3 f4 hP hD hS hl
        refine lv_aload_n F.1 F.2.1 dX12_next_248 rfl (lv_at hl 0 rfl) ?_
        refine a_geti F inX12 hP 85 13 tc_85 rfl rfl (by decide) q1484 (fun _ h9 => h9) (v := (u.1 85 13)) rfl dX12_next_249 ?_
        refine a_ic F (3 : Int32) dX12_next_252 (by decide) ?_
        refine b_ge F 275 dX12_next_253 (by decide) rfl ic_3 (fun c6 => ?_) (fun c6 => ?_)
        · have g7 : (0 : Int) ≤ (u.1 85 4).toInt ∧ (u.1 85 4).toInt ≤ 940 := hR 85 4
          exact L275 x2 x3 _ _ _ _ hR hF (by omega) (by omega) (by omega : (0 : Int) ≤ (u.1 85 4).toInt ∧ (u.1 85 4).toInt ≤ 939) (by omega : (0 : Int) ≤ (u.1 85 12).toInt ∧ (u.1 85 12).toInt ≤ 940) (by omega : 940 - (u.1 85 4).toInt < ((n181 : Nat) : Int) + 1) hP hD hS (lv_sub hl [0, 1, 2] rfl)
        · refine lv_aload_n F.1 F.2.1 dX12_next_256 rfl (lv_at hl 0 rfl) ?_
          refine a_bp F (10 : Int32) dX12_next_257 (by decide) ?_
          refine lv_aload_n F.1 F.2.1 dX12_next_259 rfl (lv_at hl 0 rfl) ?_
          refine a_geti F inX12 hP 85 14 tc_85 rfl rfl (by decide) q1485 (fun _ h9 => h9) (v := (u.1 85 14)) rfl dX12_next_260 ?_
          refine a_imulU F dX12_next_263 (fun v8 => ?_)
          refine lv_aload_n F.1 F.2.1 dX12_next_264 rfl (lv_at hl 0 rfl) ?_
          refine a_Vi F hml hl.1 hA hP hD hS (As := []) (c_X12_peek_85 l dC dI ad cA nF _  hR) (cs_RX12_145 (d := 1) F.2.2.1 (by decide)) tc_85 rfl rfl rfl rfl (Nat.le_of_ble_eq_true rfl) dX12_next_265 ⟨Nat.le_refl 0, Nat.le_refl 0⟩ (fun r9 uN9 H locs hq hP hD hS => ?_)
          obtain ⟨hu9, gr9, xr9⟩ := hq
          rw [hu9] at hP hD
          have g10 : (0 : Int) ≤ (u.1 85 4).toInt ∧ (u.1 85 4).toInt ≤ 940 := hR 85 4
          have g11 : (0 : Int) ≤ (u.1 85 3).toInt ∧ (u.1 85 3).toInt ≤ 940 := hR 85 3
          have xr9 : 0 ≤ r9.toInt → (u.1 85 4).toInt < (u.1 85 3).toInt := xr9
          refine a_iaddU F dX12_next_268 (fun v12 => ?_)
          refine a_bp F (48 : Int32) dX12_next_269 (by decide) ?_
          refine a_isubU F dX12_next_271 (fun v13 => ?_)
          refine a_puti F inX12 tyX12 tyX12_ok nmX12 hP hD hS 85 14 tc_85 rfl rfl (by decide) q1485 (fun _ h9 => h9) rfl (ty := .int) (tyX12_ok 14 (by decide)) rfl rfl dX12_next_272 (fun H locs hP hD hS => ?_)
          have hR := hR.si (c := 85) (k := 14) (v := v13) ⟨i_lo _, i_hi _⟩
          have hF := hF.si (c := 85) (k := 14) (v := v13) rfl
          exact L275 x2 x3 _ _ _ _ hR hF (by omega) (by omega) (by omega : (0 : Int) ≤ (u.1 85 4).toInt ∧ (u.1 85 4).toInt ≤ 939) (by omega : (0 : Int) ≤ (u.1 85 12).toInt ∧ (u.1 85 12).toInt ≤ 940) (by omega : 940 - (u.1 85 4).toInt < ((n181 : Nat) : Int) + 1) hP hD hS (lv_sub hl [0, 1, 2] rfl)
      have L221 : ∀ (x2 : Int32) (z0 : Int32) (u : ac_U) (H : Heap) (locs : List Loc) (ls : Array Slot), ac_R rg u → ac_Fr [(85, some 4), (85, some 11), (85, some 12), (85, some 13), (85, some 14)] u0 u → (0 : Int) ≤ x2.toInt ∧ x2.toInt ≤ 1 → (0 : Int) ≤ z0.toInt ∧ z0.toInt ≤ 1 → (0 : Int) ≤ (u.1 85 4).toInt ∧ (u.1 85 4).toInt ≤ 939 → (0 : Int) ≤ (u.1 85 12).toInt ∧ (u.1 85 12).toInt ≤ 940 → 940 - (u.1 85 4).toInt < ((n181 : Nat) : Int) + 1 → va_P (dC, dI) vwCl (ac_w ad cA (TT nF) u) H → va_D A (ac_w ad cA (TT nF) u) → va_S A s.heap H locs → lv_has ls 4 [(0, .ref (ad 85)), (2, .int x2)] → W p l e (ac_rm 2) s m [.ref (ad 85)].toArray below meth c H locs 0 0 (MQ below (va_Qv (fun (u : ac_U) => ac_R rg u ∧ ac_Fr [(85, some 4), (85, some 11), (85, some 12), (85, some 13), (85, some 14)] u0 u) (ac_B (dC, dI) vwCl (ac_ty cA) ad cA (TT nF) A) A) [.ref (ad 85)].toArray s 0 0 A) (F0 m 221 ls [.int z0]) := by
        intro x2 z0 u H locs ls hR hF f0 f1 f2 f3 f4 hP hD hS hl
        refine lv_istore_n (lv' := [(3, .int z0), (0, .ref (ad 85)), (2, .int x2)]) F.1 F.2.1 dX12_next_221 rfl hl (by decide) rfl (fun ls hl => ?_)
        refine lv_aload_n F.1 F.2.1 dX12_next_222 rfl (lv_at hl 1 rfl) ?_
        refine a_geti F inX12 hP 85 13 tc_85 rfl rfl (by decide) q1484 (fun _ h9 => h9) (v := (u.1 85 13)) rfl dX12_next_223 ?_
        refine a_bp F (7 : Int32) dX12_next_226 (by decide) ?_
        refine b_ge F 248 dX12_next_228 (by decide) rfl ic_7 (fun c14 => ?_) (fun c14 => ?_)
        · have g15 : (0 : Int) ≤ (u.1 85 4).toInt ∧ (u.1 85 4).toInt ≤ 940 := hR 85 4
          exact L248 x2 z0 _ _ _ _ hR hF (by omega) (by omega) (by omega : (0 : Int) ≤ (u.1 85 4).toInt ∧ (u.1 85 4).toInt ≤ 939) (by omega : (0 : Int) ≤ (u.1 85 12).toInt ∧ (u.1 85 12).toInt ≤ 940) (by omega : 940 - (u.1 85 4).toInt < ((n181 : Nat) : Int) + 1) hP hD hS (lv_sub hl [1, 2, 0] rfl)
        · refine lv_aload_n F.1 F.2.1 dX12_next_231 rfl (lv_at hl 1 rfl) ?_
          refine lv_aload_n F.1 F.2.1 dX12_next_232 rfl (lv_at hl 1 rfl) ?_
          refine a_getl F inX12 hP 85 17 tc_85 rfl rfl (by decide) q1488 (fun _ h9 => h9) rfl dX12_next_233 ?_
          refine lv_topl (fun w16 _ => ?_)
          refine a_bp F (8 : Int32) dX12_next_236 (by decide) ?_
          refine lv_lshl F.1 F.2.1 dX12_next_238 rfl ?_
          refine lv_topl (fun w17 _ => ?_)
          refine lv_aload_n F.1 F.2.1 dX12_next_239 rfl (lv_at hl 1 rfl) ?_
          refine a_Vi F hml hl.1 hA hP hD hS (As := []) (c_X12_peek_85 l dC dI ad cA nF _  hR) (cs_RX12_145 (d := 1) F.2.2.1 (by decide)) tc_85 rfl rfl rfl rfl (Nat.le_of_ble_eq_true rfl) dX12_next_240 ⟨Nat.le_refl 0, Nat.le_refl 0⟩ (fun r18 uN18 H locs hq hP hD hS => ?_)
          obtain ⟨hu18, gr18, xr18⟩ := hq
          rw [hu18] at hP hD
          have g19 : (0 : Int) ≤ (u.1 85 4).toInt ∧ (u.1 85 4).toInt ≤ 940 := hR 85 4
          have g20 : (0 : Int) ≤ (u.1 85 3).toInt ∧ (u.1 85 3).toInt ≤ 940 := hR 85 3
          have xr18 : 0 ≤ r18.toInt → (u.1 85 4).toInt < (u.1 85 3).toInt := xr18
          refine lv_i2l F.1 F.2.1 dX12_next_243 rfl ?_
          refine lv_topl (fun w21 _ => ?_)
          refine lv_lor F.1 F.2.1 dX12_next_244 ?_
          refine lv_topl (fun w22 _ => ?_)
          refine a_putl F inX12 tyX12 tyX12_ok nmX12 hP hD hS 85 17 tc_85 rfl rfl (by decide) q1488 (fun _ h9 => h9) rfl (tyX12_ok 17 (by decide)) dX12_next_245 (fun H locs hP hD hS => ?_)
          have hR := ac_slR hD hR
          have hF := ac_slF hD hF
          exact L248 x2 z0 _ _ _ _ hR hF (by omega) (by omega) (by omega : (0 : Int) ≤ (u.1 85 4).toInt ∧ (u.1 85 4).toInt ≤ 939) (by omega : (0 : Int) ≤ (u.1 85 12).toInt ∧ (u.1 85 12).toInt ≤ 940) (by omega : 940 - (u.1 85 4).toInt < ((n181 : Nat) : Int) + 1) hP hD hS (lv_sub hl [1, 2, 0] rfl)
      have L220 : ∀ (x2 : Int32) (u : ac_U) (H : Heap) (locs : List Loc) (ls : Array Slot), ac_R rg u → ac_Fr [(85, some 4), (85, some 11), (85, some 12), (85, some 13), (85, some 14)] u0 u → (0 : Int) ≤ x2.toInt ∧ x2.toInt ≤ 1 → (0 : Int) ≤ (u.1 85 4).toInt ∧ (u.1 85 4).toInt ≤ 939 → (0 : Int) ≤ (u.1 85 12).toInt ∧ (u.1 85 12).toInt ≤ 940 → 940 - (u.1 85 4).toInt < ((n181 : Nat) : Int) + 1 → va_P (dC, dI) vwCl (ac_w ad cA (TT nF) u) H → va_D A (ac_w ad cA (TT nF) u) → va_S A s.heap H locs → lv_has ls 4 [(0, .ref (ad 85)), (2, .int x2)] → W p l e (ac_rm 2) s m [.ref (ad 85)].toArray below meth c H locs 0 0 (MQ below (va_Qv (fun (u : ac_U) => ac_R rg u ∧ ac_Fr [(85, some 4), (85, some 11), (85, some 12), (85, some 13), (85, some 14)] u0 u) (ac_B (dC, dI) vwCl (ac_ty cA) ad cA (TT nF) A) A) [.ref (ad 85)].toArray s 0 0 A) (F0 m 220 ls []) := by
        intro x2 u H locs ls hR hF f0 f1 f2 f3 hP hD hS hl
        refine a_ic F (0 : Int32) dX12_next_220 (by decide) ?_
        have g23 : (0 : Int) ≤ (u.1 85 4).toInt ∧ (u.1 85 4).toInt ≤ 940 := hR 85 4
        exact L221 x2 (0 : Int32) _ _ _ _ hR hF (by omega) (by decide) (by omega : (0 : Int) ≤ (u.1 85 4).toInt ∧ (u.1 85 4).toInt ≤ 939) (by omega : (0 : Int) ≤ (u.1 85 12).toInt ∧ (u.1 85 12).toInt ≤ 940) (by omega : 940 - (u.1 85 4).toInt < ((n181 : Nat) : Int) + 1) hP hD hS (lv_sub hl [0, 1] rfl)
      have L201 : ∀ (x2 : Int32) (x3 : Int32) (u : ac_U) (H : Heap) (locs : List Loc) (ls : Array Slot), ac_R rg u → ac_Fr [(85, some 4), (85, some 11), (85, some 12), (85, some 13), (85, some 14)] u0 u → (0 : Int) ≤ x2.toInt ∧ x2.toInt ≤ 1 → (0 : Int) ≤ x3.toInt ∧ x3.toInt ≤ 1 → (0 : Int) ≤ (u.1 85 4).toInt ∧ (u.1 85 4).toInt ≤ 939 → (0 : Int) ≤ (u.1 85 12).toInt ∧ (u.1 85 12).toInt ≤ 940 → 940 - (u.1 85 4).toInt < ((n181 : Nat) : Int) + 1 → va_P (dC, dI) vwCl (ac_w ad cA (TT nF) u) H → va_D A (ac_w ad cA (TT nF) u) → va_S A s.heap H locs → lv_has ls 4 [(0, .ref (ad 85)), (2, .int x2), (3, .int x3)] → W p l e (ac_rm 2) s m [.ref (ad 85)].toArray below meth c H locs 0 0 (MQ below (va_Qv (fun (u : ac_U) => ac_R rg u ∧ ac_Fr [(85, some 4), (85, some 11), (85, some 12), (85, some 13), (85, some 14)] u0 u) (ac_B (dC, dI) vwCl (ac_ty cA) ad cA (TT nF) A) A) [.ref (ad 85)].toArray s 0 0 A) (F0 m 201 ls []) := by
        intro x2 x3 u H locs ls hR hF f0 f1 f2 f3 f4 hP hD hS hl
        refine lv_iload_n F.1 F.2.1 dX12_next_201 rfl (lv_at hl 2 rfl) ?_
        refine z_eq F 220 dX12_next_202 (by decide) rfl (fun c24 => ?_) (fun c24 => ?_)
        · have g25 : (0 : Int) ≤ (u.1 85 4).toInt ∧ (u.1 85 4).toInt ≤ 940 := hR 85 4
          exact L220 x2 _ _ _ _ hR hF (by omega) (by omega : (0 : Int) ≤ (u.1 85 4).toInt ∧ (u.1 85 4).toInt ≤ 939) (by omega : (0 : Int) ≤ (u.1 85 12).toInt ∧ (u.1 85 12).toInt ≤ 940) (by omega : 940 - (u.1 85 4).toInt < ((n181 : Nat) : Int) + 1) hP hD hS (lv_sub hl [0, 1] rfl)
        · refine lv_aload_n F.1 F.2.1 dX12_next_205 rfl (lv_at hl 0 rfl) ?_
          refine a_Vi F hml hl.1 hA hP hD hS (As := []) (c_X12_peek_85 l dC dI ad cA nF _  hR) (cs_RX12_145 (d := 1) F.2.2.1 (by decide)) tc_85 rfl rfl rfl rfl (Nat.le_of_ble_eq_true rfl) dX12_next_206 ⟨Nat.le_refl 0, Nat.le_refl 0⟩ (fun r26 uN26 H locs hq hP hD hS => ?_)
          obtain ⟨hu26, gr26, xr26⟩ := hq
          rw [hu26] at hP hD
          have g27 : (0 : Int) ≤ (u.1 85 4).toInt ∧ (u.1 85 4).toInt ≤ 940 := hR 85 4
          have g28 : (0 : Int) ≤ (u.1 85 3).toInt ∧ (u.1 85 3).toInt ≤ 940 := hR 85 3
          have xr26 : 0 ≤ r26.toInt → (u.1 85 4).toInt < (u.1 85 3).toInt := xr26
          refine a_Si F hml hl.1 hA hP hD hS (As := [.int r26]) (c_X12_isSmall l dC dI ad cA nF _ r26 hR (by omega)) (cs_RX12_158 (d := 1) F.2.2.1 (by decide)) rfl rfl (Nat.le_of_ble_eq_true rfl) dX12_next_209 ⟨Nat.le_refl 0, Nat.le_refl 0⟩ (fun r29 uN29 H locs hq hP hD hS => ?_)
          obtain ⟨hu29, gr29, xr29⟩ := hq
          rw [hu29] at hP hD
          have xr29 : r29.toInt ≠ 0 → 97 ≤ r26.toInt ∧ r26.toInt ≤ 122 := xr29
          refine lv_iload_n F.1 F.2.1 dX12_next_212 rfl (lv_at hl 1 rfl) ?_
          refine b_ne F 220 dX12_next_213 (by decide) rfl rfl (fun c30 => ?_) (fun c30 => ?_)
          · exact L220 x2 _ _ _ _ hR hF (by omega) (by omega : (0 : Int) ≤ (u.1 85 4).toInt ∧ (u.1 85 4).toInt ≤ 939) (by omega : (0 : Int) ≤ (u.1 85 12).toInt ∧ (u.1 85 12).toInt ≤ 940) (by omega : 940 - (u.1 85 4).toInt < ((n181 : Nat) : Int) + 1) hP hD hS (lv_sub hl [0, 1] rfl)
          · refine a_ic F (1 : Int32) dX12_next_216 (by decide) ?_
            refine lv_goto (tgt := 221) F.1 F.2.1 dX12_next_217 (by decide) ?_
            exact L221 x2 (1 : Int32) _ _ _ _ hR hF (by omega) (by decide) (by omega : (0 : Int) ≤ (u.1 85 4).toInt ∧ (u.1 85 4).toInt ≤ 939) (by omega : (0 : Int) ≤ (u.1 85 12).toInt ∧ (u.1 85 12).toInt ≤ 940) (by omega : 940 - (u.1 85 4).toInt < ((n181 : Nat) : Int) + 1) hP hD hS (lv_sub hl [0, 1] rfl)
      refine lv_aload_n F.1 F.2.1 dX12_next_181 rfl (lv_at hl 0 rfl) ?_
      refine a_Vi F hml hl.1 hA hP hD hS (As := []) (c_X12_peek_85 l dC dI ad cA nF _  hR) (cs_RX12_145 (d := 1) F.2.2.1 (by decide)) tc_85 rfl rfl rfl rfl (Nat.le_of_ble_eq_true rfl) dX12_next_182 ⟨Nat.le_refl 0, Nat.le_refl 0⟩ (fun r31 uN31 H locs hq hP hD hS => ?_)
      obtain ⟨hu31, gr31, xr31⟩ := hq
      rw [hu31] at hP hD
      have g32 : (0 : Int) ≤ (u.1 85 4).toInt ∧ (u.1 85 4).toInt ≤ 940 := hR 85 4
      have g33 : (0 : Int) ≤ (u.1 85 3).toInt ∧ (u.1 85 3).toInt ≤ 940 := hR 85 3
      have xr31 : 0 ≤ r31.toInt → (u.1 85 4).toInt < (u.1 85 3).toInt := xr31
      refine a_Si F hml hl.1 hA hP hD hS (As := [.int r31]) (c_X12_isSmall l dC dI ad cA nF _ r31 hR (by omega)) (cs_RX12_158 (d := 1) F.2.2.1 (by decide)) rfl rfl (Nat.le_of_ble_eq_true rfl) dX12_next_185 ⟨Nat.le_refl 0, Nat.le_refl 0⟩ (fun r34 uN34 H locs hq hP hD hS => ?_)
      obtain ⟨hu34, gr34, xr34⟩ := hq
      rw [hu34] at hP hD
      have xr34 : r34.toInt ≠ 0 → 97 ≤ r31.toInt ∧ r31.toInt ≤ 122 := xr34
      refine z_ne F 201 dX12_next_188 (by decide) rfl (fun c35 => ?_) (fun c35 => ?_)
      · exact L201 x2 x3 _ _ _ _ hR hF (by omega) (by omega) (by omega : (0 : Int) ≤ (u.1 85 4).toInt ∧ (u.1 85 4).toInt ≤ 939) (by omega : (0 : Int) ≤ (u.1 85 12).toInt ∧ (u.1 85 12).toInt ≤ 940) (by omega : 940 - (u.1 85 4).toInt < ((n181 : Nat) : Int) + 1) hP hD hS (lv_sub hl [0, 1, 2] rfl)
      · refine lv_aload_n F.1 F.2.1 dX12_next_191 rfl (lv_at hl 0 rfl) ?_
        refine a_Vi F hml hl.1 hA hP hD hS (As := []) (c_X12_peek_85 l dC dI ad cA nF _  hR) (cs_RX12_145 (d := 1) F.2.2.1 (by decide)) tc_85 rfl rfl rfl rfl (Nat.le_of_ble_eq_true rfl) dX12_next_192 ⟨Nat.le_refl 0, Nat.le_refl 0⟩ (fun r36 uN36 H locs hq hP hD hS => ?_)
        obtain ⟨hu36, gr36, xr36⟩ := hq
        rw [hu36] at hP hD
        have xr36 : 0 ≤ r36.toInt → (u.1 85 4).toInt < (u.1 85 3).toInt := xr36
        refine a_Si F hml hl.1 hA hP hD hS (As := [.int r36]) (c_X12_isDigit l dC dI ad cA nF _ r36 hR (by omega)) (cs_RX12_162 (d := 1) F.2.2.1 (by decide)) rfl rfl (Nat.le_of_ble_eq_true rfl) dX12_next_195 ⟨Nat.le_refl 0, Nat.le_refl 0⟩ (fun r37 uN37 H locs hq hP hD hS => ?_)
        obtain ⟨hu37, gr37, xr37⟩ := hq
        rw [hu37] at hP hD
        have xr37 : r37.toInt ≠ 0 → 48 ≤ r36.toInt ∧ r36.toInt ≤ 57 := xr37
        refine z_eq F 298 dX12_next_198 (by decide) rfl (fun c38 => ?_) (fun c38 => ?_)
        · refine lv_aload_n F.1 F.2.1 dX12_next_298 rfl (lv_at hl 0 rfl) ?_
          refine lv_iload_n F.1 F.2.1 dX12_next_299 rfl (lv_at hl 2 rfl) ?_
          refine z_eq F 320 dX12_next_300 (by decide) rfl (fun c39 => ?_) (fun c39 => ?_)
          · exact L320 _ _ _ _ hR hF (by omega : (0 : Int) ≤ (u.1 85 12).toInt ∧ (u.1 85 12).toInt ≤ 940) hP hD hS (lv_sub hl [] rfl)
          · refine lv_aload_n F.1 F.2.1 dX12_next_303 rfl (lv_at hl 0 rfl) ?_
            refine a_geti F inX12 hP 85 13 tc_85 rfl rfl (by decide) q1484 (fun _ h9 => h9) (v := (u.1 85 13)) rfl dX12_next_304 ?_
            refine lv_iload_n F.1 F.2.1 dX12_next_307 rfl (lv_at hl 1 rfl) ?_
            refine z_eq F 316 dX12_next_308 (by decide) rfl (fun c40 => ?_) (fun c40 => ?_)
            · refine a_ic F (3 : Int32) dX12_next_316 (by decide) ?_
              exact L317 x2 (u.1 85 13) (3 : Int32) _ _ _ _ hR hF (by omega) (by decide) (by omega : (0 : Int) ≤ (u.1 85 12).toInt ∧ (u.1 85 12).toInt ≤ 940) hP hD hS (lv_sub hl [1] rfl)
            · refine a_bp F (7 : Int32) dX12_next_311 (by decide) ?_
              refine lv_goto (tgt := 317) F.1 F.2.1 dX12_next_313 (by decide) ?_
              exact L317 x2 (u.1 85 13) (7 : Int32) _ _ _ _ hR hF (by omega) (by decide) (by omega : (0 : Int) ≤ (u.1 85 12).toInt ∧ (u.1 85 12).toInt ≤ 940) hP hD hS (lv_sub hl [1] rfl)
        · exact L201 x2 x3 _ _ _ _ hR hF (by omega) (by omega) (by omega : (0 : Int) ≤ (u.1 85 4).toInt ∧ (u.1 85 4).toInt ≤ 939) (by omega : (0 : Int) ≤ (u.1 85 12).toInt ∧ (u.1 85 12).toInt ≤ 940) (by omega : 940 - (u.1 85 4).toInt < ((n181 : Nat) : Int) + 1) hP hD hS (lv_sub hl [0, 1, 2] rfl)
  have L164 : ∀ (x1 : Int32) (u : ac_U) (H : Heap) (locs : List Loc) (ls : Array Slot), ac_R rg u → ac_Fr [(85, some 4), (85, some 11), (85, some 12), (85, some 13), (85, some 14)] u0 u → (48 : Int) ≤ x1.toInt ∧ x1.toInt ≤ 122 → (0 : Int) ≤ (u.1 85 4).toInt ∧ (u.1 85 4).toInt ≤ 939 → (0 : Int) ≤ (u.1 85 12).toInt ∧ (u.1 85 12).toInt ≤ 940 → (0 : Int) ≤ (u.1 85 13).toInt ∧ (u.1 85 13).toInt ≤ 0 → va_P (dC, dI) vwCl (ac_w ad cA (TT nF) u) H → va_D A (ac_w ad cA (TT nF) u) → va_S A s.heap H locs → lv_has ls 4 [(0, .ref (ad 85)), (1, .int x1)] → W p l e (ac_rm 2) s m [.ref (ad 85)].toArray below meth c H locs 0 0 (MQ below (va_Qv (fun (u : ac_U) => ac_R rg u ∧ ac_Fr [(85, some 4), (85, some 11), (85, some 12), (85, some 13), (85, some 14)] u0 u) (ac_B (dC, dI) vwCl (ac_ty cA) ad cA (TT nF) A) A) [.ref (ad 85)].toArray s 0 0 A) (F0 m 164 ls []) := by
    intro x1 u H locs ls hR hF f0 f1 f2 f3 hP hD hS hl
    refine lv_iload_n F.1 F.2.1 dX12_next_164 rfl (lv_at hl 1 rfl) ?_
    refine a_Si F hml hl.1 hA hP hD hS (As := [.int x1]) (c_X12_isSmall l dC dI ad cA nF _ x1 hR (by omega)) (cs_RX12_158 (d := 1) F.2.2.1 (by decide)) rfl rfl (Nat.le_of_ble_eq_true rfl) dX12_next_165 ⟨Nat.le_refl 0, Nat.le_refl 0⟩ (fun r41 uN41 H locs hq hP hD hS => ?_)
    obtain ⟨hu41, gr41, xr41⟩ := hq
    rw [hu41] at hP hD
    have xr41 : r41.toInt ≠ 0 → 97 ≤ x1.toInt ∧ x1.toInt ≤ 122 := xr41
    refine lv_istore_n (lv' := [(2, .int r41), (0, .ref (ad 85)), (1, .int x1)]) F.1 F.2.1 dX12_next_168 rfl hl (by decide) rfl (fun ls hl => ?_)
    refine a_ic F (1 : Int32) dX12_next_169 (by decide) ?_
    refine lv_istore_n (lv' := [(3, .int (1 : Int32)), (2, .int r41), (0, .ref (ad 85)), (1, .int x1)]) F.1 F.2.1 dX12_next_170 rfl hl (by decide) rfl (fun ls hl => ?_)
    refine lv_aload_n F.1 F.2.1 dX12_next_171 rfl (lv_at hl 2 rfl) ?_
    refine lv_lconst (v := (0 : Int64)) F.1 F.2.1 dX12_next_172 (by decide) ?_
    refine a_putl F inX12 tyX12 tyX12_ok nmX12 hP hD hS 85 17 tc_85 rfl rfl (by decide) q1488 (fun _ h9 => h9) rfl (tyX12_ok 17 (by decide)) dX12_next_173 (fun H locs hP hD hS => ?_)
    have hR := ac_slR hD hR
    have hF := ac_slF hD hF
    refine lv_aload_n F.1 F.2.1 dX12_next_176 rfl (lv_at hl 2 rfl) ?_
    refine a_ic F (0 : Int32) dX12_next_177 (by decide) ?_
    refine a_puti F inX12 tyX12 tyX12_ok nmX12 hP hD hS 85 14 tc_85 rfl rfl (by decide) q1485 (fun _ h9 => h9) rfl (ty := .int) (tyX12_ok 14 (by decide)) rfl rfl dX12_next_178 (fun H locs hP hD hS => ?_)
    have hR := hR.si (c := 85) (k := 14) (v := (0 : Int32)) ⟨i_lo _, i_hi _⟩
    have hF := hF.si (c := 85) (k := 14) (v := (0 : Int32)) rfl
    have g42 : (0 : Int) ≤ (u.1 85 4).toInt ∧ (u.1 85 4).toInt ≤ 940 := hR 85 4
    exact L181 942 r41 (1 : Int32) _ _ _ _ hR hF (by omega : 940 - (u.1 85 4).toInt < (942 : Int)) (by omega) (by decide) (by omega : (0 : Int) ≤ (u.1 85 4).toInt ∧ (u.1 85 4).toInt ≤ 940) (by omega : (0 : Int) ≤ (u.1 85 12).toInt ∧ (u.1 85 12).toInt ≤ 940) hP hD hS (lv_sub hl [2, 1, 0] rfl)
  have L145 : ∀ (x1 : Int32) (z1 : Int32) (u : ac_U) (H : Heap) (locs : List Loc) (ls : Array Slot), ac_R rg u → ac_Fr [(85, some 4), (85, some 11), (85, some 12), (85, some 13), (85, some 14)] u0 u → (0 : Int) ≤ x1.toInt ∧ x1.toInt ≤ 255 → (3 : Int) ≤ z1.toInt ∧ z1.toInt ≤ 4 → (0 : Int) ≤ (u.1 85 4).toInt ∧ (u.1 85 4).toInt ≤ 939 → (0 : Int) ≤ (u.1 85 12).toInt ∧ (u.1 85 12).toInt ≤ 940 → (0 : Int) ≤ (u.1 85 13).toInt ∧ (u.1 85 13).toInt ≤ 0 → va_P (dC, dI) vwCl (ac_w ad cA (TT nF) u) H → va_D A (ac_w ad cA (TT nF) u) → va_S A s.heap H locs → lv_has ls 4 [(0, .ref (ad 85)), (1, .int x1)] → W p l e (ac_rm 2) s m [.ref (ad 85)].toArray below meth c H locs 0 0 (MQ below (va_Qv (fun (u : ac_U) => ac_R rg u ∧ ac_Fr [(85, some 4), (85, some 11), (85, some 12), (85, some 13), (85, some 14)] u0 u) (ac_B (dC, dI) vwCl (ac_ty cA) ad cA (TT nF) A) A) [.ref (ad 85)].toArray s 0 0 A) (F0 m 145 ls [.int z1, .ref (ad 85)]) := by
    intro x1 z1 u H locs ls hR hF f0 f1 f2 f3 f4 hP hD hS hl
    refine a_puti F inX12 tyX12 tyX12_ok nmX12 hP hD hS 85 11 tc_85 rfl rfl (by decide) q1482 (fun _ h9 => h9) rfl (ty := .int) (tyX12_ok 11 (by decide)) rfl rfl dX12_next_145 (fun H locs hP hD hS => ?_)
    have hR := hR.si (c := 85) (k := 11) (v := z1) (by omega : (0 : Int) ≤ z1.toInt ∧ z1.toInt ≤ 4)
    have hF := hF.si (c := 85) (k := 11) (v := z1) rfl
    refine lv_aload_n F.1 F.2.1 dX12_next_148 rfl (lv_at hl 0 rfl) ?_
    refine lv_iload_n F.1 F.2.1 dX12_next_149 rfl (lv_at hl 1 rfl) ?_
    refine a_puti F inX12 tyX12 tyX12_ok nmX12 hP hD hS 85 14 tc_85 rfl rfl (by decide) q1485 (fun _ h9 => h9) rfl (ty := .int) (tyX12_ok 14 (by decide)) rfl rfl dX12_next_150 (fun H locs hP hD hS => ?_)
    have hR := hR.si (c := 85) (k := 14) (v := x1) ⟨i_lo _, i_hi _⟩
    have hF := hF.si (c := 85) (k := 14) (v := x1) rfl
    refine lv_aload_n F.1 F.2.1 dX12_next_153 rfl (lv_at hl 0 rfl) ?_
    refine lv_dup F.1 F.2.1 dX12_next_154 rfl ?_
    have g43 : (0 : Int) ≤ (u.1 85 4).toInt ∧ (u.1 85 4).toInt ≤ 940 := hR 85 4
    refine a_geti F inX12 hP 85 4 tc_85 rfl rfl (by decide) q1475 (fun _ h9 => h9) (v := (u.1 85 4)) rfl dX12_next_155 ?_
    refine a_ic F (1 : Int32) dX12_next_158 (by decide) ?_
    refine a_iadd F dX12_next_159 rfl ic_1 (by omega) (fun v44 hv44 => ?_)
    refine a_puti F inX12 tyX12 tyX12_ok nmX12 hP hD hS 85 4 tc_85 rfl rfl (by decide) q1475 (fun _ h9 => h9) rfl (ty := .int) (tyX12_ok 4 (by decide)) rfl rfl dX12_next_160 (fun H locs hP hD hS => ?_)
    have hR := hR.si (c := 85) (k := 4) (v := v44) (by omega : (0 : Int) ≤ v44.toInt ∧ v44.toInt ≤ 940)
    have hF := hF.si (c := 85) (k := 4) (v := v44) rfl
    exact a_retv F hr hlocks hP hD hS dX12_next_163 ⟨hR, hF⟩
  have L144 : ∀ (x1 : Int32) (u : ac_U) (H : Heap) (locs : List Loc) (ls : Array Slot), ac_R rg u → ac_Fr [(85, some 4), (85, some 11), (85, some 12), (85, some 13), (85, some 14)] u0 u → (0 : Int) ≤ x1.toInt ∧ x1.toInt ≤ 255 → (0 : Int) ≤ (u.1 85 4).toInt ∧ (u.1 85 4).toInt ≤ 939 → (0 : Int) ≤ (u.1 85 12).toInt ∧ (u.1 85 12).toInt ≤ 940 → (0 : Int) ≤ (u.1 85 13).toInt ∧ (u.1 85 13).toInt ≤ 0 → va_P (dC, dI) vwCl (ac_w ad cA (TT nF) u) H → va_D A (ac_w ad cA (TT nF) u) → va_S A s.heap H locs → lv_has ls 4 [(0, .ref (ad 85)), (1, .int x1)] → W p l e (ac_rm 2) s m [.ref (ad 85)].toArray below meth c H locs 0 0 (MQ below (va_Qv (fun (u : ac_U) => ac_R rg u ∧ ac_Fr [(85, some 4), (85, some 11), (85, some 12), (85, some 13), (85, some 14)] u0 u) (ac_B (dC, dI) vwCl (ac_ty cA) ad cA (TT nF) A) A) [.ref (ad 85)].toArray s 0 0 A) (F0 m 144 ls [.ref (ad 85)]) := by
    intro x1 u H locs ls hR hF f0 f1 f2 f3 hP hD hS hl
    refine a_ic F (4 : Int32) dX12_next_144 (by decide) ?_
    have g45 : (0 : Int) ≤ (u.1 85 4).toInt ∧ (u.1 85 4).toInt ≤ 940 := hR 85 4
    exact L145 x1 (4 : Int32) _ _ _ _ hR hF (by omega) (by decide) (by omega : (0 : Int) ≤ (u.1 85 4).toInt ∧ (u.1 85 4).toInt ≤ 939) (by omega : (0 : Int) ≤ (u.1 85 12).toInt ∧ (u.1 85 12).toInt ≤ 940) (by omega : (0 : Int) ≤ (u.1 85 13).toInt ∧ (u.1 85 13).toInt ≤ 0) hP hD hS (lv_sub hl [0, 1] rfl)
  have L140 : ∀ (x1 : Int32) (u : ac_U) (H : Heap) (locs : List Loc) (ls : Array Slot), ac_R rg u → ac_Fr [(85, some 4), (85, some 11), (85, some 12), (85, some 13), (85, some 14)] u0 u → (40 : Int) ≤ x1.toInt ∧ x1.toInt ≤ 62 → (0 : Int) ≤ (u.1 85 4).toInt ∧ (u.1 85 4).toInt ≤ 939 → (0 : Int) ≤ (u.1 85 12).toInt ∧ (u.1 85 12).toInt ≤ 940 → (0 : Int) ≤ (u.1 85 13).toInt ∧ (u.1 85 13).toInt ≤ 0 → va_P (dC, dI) vwCl (ac_w ad cA (TT nF) u) H → va_D A (ac_w ad cA (TT nF) u) → va_S A s.heap H locs → lv_has ls 4 [(0, .ref (ad 85)), (1, .int x1)] → W p l e (ac_rm 2) s m [.ref (ad 85)].toArray below meth c H locs 0 0 (MQ below (va_Qv (fun (u : ac_U) => ac_R rg u ∧ ac_Fr [(85, some 4), (85, some 11), (85, some 12), (85, some 13), (85, some 14)] u0 u) (ac_B (dC, dI) vwCl (ac_ty cA) ad cA (TT nF) A) A) [.ref (ad 85)].toArray s 0 0 A) (F0 m 140 ls [.ref (ad 85)]) := by
    intro x1 u H locs ls hR hF f0 f1 f2 f3 hP hD hS hl
    refine a_ic F (3 : Int32) dX12_next_140 (by decide) ?_
    refine lv_goto (tgt := 145) F.1 F.2.1 dX12_next_141 (by decide) ?_
    have g46 : (0 : Int) ≤ (u.1 85 4).toInt ∧ (u.1 85 4).toInt ≤ 940 := hR 85 4
    exact L145 x1 (3 : Int32) _ _ _ _ hR hF (by omega) (by decide) (by omega : (0 : Int) ≤ (u.1 85 4).toInt ∧ (u.1 85 4).toInt ≤ 939) (by omega : (0 : Int) ≤ (u.1 85 12).toInt ∧ (u.1 85 12).toInt ≤ 940) (by omega : (0 : Int) ≤ (u.1 85 13).toInt ∧ (u.1 85 13).toInt ≤ 0) hP hD hS (lv_sub hl [0, 1] rfl)
  have L80 : ∀ (u : ac_U) (H : Heap) (locs : List Loc) (ls : Array Slot), ac_R rg u → ac_Fr [(85, some 4), (85, some 11), (85, some 12), (85, some 13), (85, some 14)] u0 u → (0 : Int) ≤ (u.1 85 3).toInt ∧ (u.1 85 3).toInt ≤ 940 → (0 : Int) ≤ (u.1 85 12).toInt ∧ (u.1 85 12).toInt ≤ 940 → (0 : Int) ≤ (u.1 85 13).toInt ∧ (u.1 85 13).toInt ≤ 0 → va_P (dC, dI) vwCl (ac_w ad cA (TT nF) u) H → va_D A (ac_w ad cA (TT nF) u) → va_S A s.heap H locs → lv_has ls 4 [(0, .ref (ad 85))] → W p l e (ac_rm 2) s m [.ref (ad 85)].toArray below meth c H locs 0 0 (MQ below (va_Qv (fun (u : ac_U) => ac_R rg u ∧ ac_Fr [(85, some 4), (85, some 11), (85, some 12), (85, some 13), (85, some 14)] u0 u) (ac_B (dC, dI) vwCl (ac_ty cA) ad cA (TT nF) A) A) [.ref (ad 85)].toArray s 0 0 A) (F0 m 80 ls []) := by
    intro u H locs ls hR hF f0 f1 f2 hP hD hS hl
    refine lv_aload_n F.1 F.2.1 dX12_next_80 rfl (lv_at hl 0 rfl) ?_
    refine a_Vi F hml hl.1 hA hP hD hS (As := []) (c_X12_peek_85 l dC dI ad cA nF _  hR) (cs_RX12_145 (d := 1) F.2.2.1 (by decide)) tc_85 rfl rfl rfl rfl (Nat.le_of_ble_eq_true rfl) dX12_next_81 ⟨Nat.le_refl 0, Nat.le_refl 0⟩ (fun r47 uN47 H locs hq hP hD hS => ?_)
    obtain ⟨hu47, gr47, xr47⟩ := hq
    rw [hu47] at hP hD
    have g48 : (0 : Int) ≤ (u.1 85 4).toInt ∧ (u.1 85 4).toInt ≤ 940 := hR 85 4
    have g49 : (0 : Int) ≤ (u.1 85 3).toInt ∧ (u.1 85 3).toInt ≤ 940 := hR 85 3
    have xr47 : 0 ≤ r47.toInt → (u.1 85 4).toInt < (u.1 85 3).toInt := xr47
    refine lv_istore_n (lv' := [(1, .int r47), (0, .ref (ad 85))]) F.1 F.2.1 dX12_next_84 rfl hl (by decide) rfl (fun ls hl => ?_)
    refine lv_iload_n F.1 F.2.1 dX12_next_85 rfl (lv_at hl 0 rfl) ?_
    refine z_ge F 95 dX12_next_86 (by decide) rfl (fun c50 => ?_) (fun c50 => ?_)
    · refine lv_iload_n F.1 F.2.1 dX12_next_95 rfl (lv_at hl 0 rfl) ?_
      refine a_Si F hml hl.1 hA hP hD hS (As := [.int r47]) (c_X12_isSmall l dC dI ad cA nF _ r47 hR (by omega)) (cs_RX12_158 (d := 1) F.2.2.1 (by decide)) rfl rfl (Nat.le_of_ble_eq_true rfl) dX12_next_96 ⟨Nat.le_refl 0, Nat.le_refl 0⟩ (fun r51 uN51 H locs hq hP hD hS => ?_)
      obtain ⟨hu51, gr51, xr51⟩ := hq
      rw [hu51] at hP hD
      have xr51 : r51.toInt ≠ 0 → 97 ≤ r47.toInt ∧ r47.toInt ≤ 122 := xr51
      refine z_ne F 164 dX12_next_99 (by decide) rfl (fun c52 => ?_) (fun c52 => ?_)
      · exact L164 r47 _ _ _ _ hR hF (by omega) (by omega : (0 : Int) ≤ (u.1 85 4).toInt ∧ (u.1 85 4).toInt ≤ 939) (by omega : (0 : Int) ≤ (u.1 85 12).toInt ∧ (u.1 85 12).toInt ≤ 940) (by omega : (0 : Int) ≤ (u.1 85 13).toInt ∧ (u.1 85 13).toInt ≤ 0) hP hD hS (lv_sub hl [1, 0] rfl)
      · refine lv_iload_n F.1 F.2.1 dX12_next_102 rfl (lv_at hl 0 rfl) ?_
        refine a_Si F hml hl.1 hA hP hD hS (As := [.int r47]) (c_X12_isDigit l dC dI ad cA nF _ r47 hR (by omega)) (cs_RX12_162 (d := 1) F.2.2.1 (by decide)) rfl rfl (Nat.le_of_ble_eq_true rfl) dX12_next_103 ⟨Nat.le_refl 0, Nat.le_refl 0⟩ (fun r53 uN53 H locs hq hP hD hS => ?_)
        obtain ⟨hu53, gr53, xr53⟩ := hq
        rw [hu53] at hP hD
        have xr53 : r53.toInt ≠ 0 → 48 ≤ r47.toInt ∧ r47.toInt ≤ 57 := xr53
        refine z_ne F 164 dX12_next_106 (by decide) rfl (fun c54 => ?_) (fun c54 => ?_)
        · exact L164 r47 _ _ _ _ hR hF (by omega) (by omega : (0 : Int) ≤ (u.1 85 4).toInt ∧ (u.1 85 4).toInt ≤ 939) (by omega : (0 : Int) ≤ (u.1 85 12).toInt ∧ (u.1 85 12).toInt ≤ 940) (by omega : (0 : Int) ≤ (u.1 85 13).toInt ∧ (u.1 85 13).toInt ≤ 0) hP hD hS (lv_sub hl [1, 0] rfl)
        · refine lv_aload_n F.1 F.2.1 dX12_next_109 rfl (lv_at hl 1 rfl) ?_
          refine lv_iload_n F.1 F.2.1 dX12_next_110 rfl (lv_at hl 0 rfl) ?_
          refine a_bp F (59 : Int32) dX12_next_111 (by decide) ?_
          refine b_eq F 140 dX12_next_113 (by decide) rfl ic_59 (fun c55 => ?_) (fun c55 => ?_)
          · exact L140 r47 _ _ _ _ hR hF (by omega) (by omega : (0 : Int) ≤ (u.1 85 4).toInt ∧ (u.1 85 4).toInt ≤ 939) (by omega : (0 : Int) ≤ (u.1 85 12).toInt ∧ (u.1 85 12).toInt ≤ 940) (by omega : (0 : Int) ≤ (u.1 85 13).toInt ∧ (u.1 85 13).toInt ≤ 0) hP hD hS (lv_sub hl [1, 0] rfl)
          · refine lv_iload_n F.1 F.2.1 dX12_next_116 rfl (lv_at hl 0 rfl) ?_
            refine a_bp F (40 : Int32) dX12_next_117 (by decide) ?_
            refine b_eq F 140 dX12_next_119 (by decide) rfl ic_40 (fun c56 => ?_) (fun c56 => ?_)
            · exact L140 r47 _ _ _ _ hR hF (by omega) (by omega : (0 : Int) ≤ (u.1 85 4).toInt ∧ (u.1 85 4).toInt ≤ 939) (by omega : (0 : Int) ≤ (u.1 85 12).toInt ∧ (u.1 85 12).toInt ≤ 940) (by omega : (0 : Int) ≤ (u.1 85 13).toInt ∧ (u.1 85 13).toInt ≤ 0) hP hD hS (lv_sub hl [1, 0] rfl)
            · refine lv_iload_n F.1 F.2.1 dX12_next_122 rfl (lv_at hl 0 rfl) ?_
              refine a_bp F (41 : Int32) dX12_next_123 (by decide) ?_
              refine b_eq F 140 dX12_next_125 (by decide) rfl ic_41 (fun c57 => ?_) (fun c57 => ?_)
              · exact L140 r47 _ _ _ _ hR hF (by omega) (by omega : (0 : Int) ≤ (u.1 85 4).toInt ∧ (u.1 85 4).toInt ≤ 939) (by omega : (0 : Int) ≤ (u.1 85 12).toInt ∧ (u.1 85 12).toInt ≤ 940) (by omega : (0 : Int) ≤ (u.1 85 13).toInt ∧ (u.1 85 13).toInt ≤ 0) hP hD hS (lv_sub hl [1, 0] rfl)
              · refine lv_iload_n F.1 F.2.1 dX12_next_128 rfl (lv_at hl 0 rfl) ?_
                refine a_bp F (60 : Int32) dX12_next_129 (by decide) ?_
                refine b_lt F 144 dX12_next_131 (by decide) rfl ic_60 (fun c58 => ?_) (fun c58 => ?_)
                · exact L144 r47 _ _ _ _ hR hF (by omega) (by omega : (0 : Int) ≤ (u.1 85 4).toInt ∧ (u.1 85 4).toInt ≤ 939) (by omega : (0 : Int) ≤ (u.1 85 12).toInt ∧ (u.1 85 12).toInt ≤ 940) (by omega : (0 : Int) ≤ (u.1 85 13).toInt ∧ (u.1 85 13).toInt ≤ 0) hP hD hS (lv_sub hl [1, 0] rfl)
                · refine lv_iload_n F.1 F.2.1 dX12_next_134 rfl (lv_at hl 0 rfl) ?_
                  refine a_bp F (62 : Int32) dX12_next_135 (by decide) ?_
                  refine b_gt F 144 dX12_next_137 (by decide) rfl ic_62 (fun c59 => ?_) (fun c59 => ?_)
                  · exact L144 r47 _ _ _ _ hR hF (by omega) (by omega : (0 : Int) ≤ (u.1 85 4).toInt ∧ (u.1 85 4).toInt ≤ 939) (by omega : (0 : Int) ≤ (u.1 85 12).toInt ∧ (u.1 85 12).toInt ≤ 940) (by omega : (0 : Int) ≤ (u.1 85 13).toInt ∧ (u.1 85 13).toInt ≤ 0) hP hD hS (lv_sub hl [1, 0] rfl)
                  · exact L140 r47 _ _ _ _ hR hF (by omega) (by omega : (0 : Int) ≤ (u.1 85 4).toInt ∧ (u.1 85 4).toInt ≤ 939) (by omega : (0 : Int) ≤ (u.1 85 12).toInt ∧ (u.1 85 12).toInt ≤ 940) (by omega : (0 : Int) ≤ (u.1 85 13).toInt ∧ (u.1 85 13).toInt ≤ 0) hP hD hS (lv_sub hl [1, 0] rfl)
    · refine lv_aload_n F.1 F.2.1 dX12_next_89 rfl (lv_at hl 1 rfl) ?_
      refine a_ic F (0 : Int32) dX12_next_90 (by decide) ?_
      refine a_puti F inX12 tyX12 tyX12_ok nmX12 hP hD hS 85 11 tc_85 rfl rfl (by decide) q1482 (fun _ h9 => h9) rfl (ty := .int) (tyX12_ok 11 (by decide)) rfl rfl dX12_next_91 (fun H locs hP hD hS => ?_)
      have hR := hR.si (c := 85) (k := 11) (v := (0 : Int32)) (by rw [ic_0]; exact (by omega : (0 : Int) ≤ (0 : Int) ∧ (0 : Int) ≤ 4))
      have hF := hF.si (c := 85) (k := 11) (v := (0 : Int32)) rfl
      exact a_retv F hr hlocks hP hD hS dX12_next_94 ⟨hR, hF⟩
  have L0 : ∀ (n0 : Nat) (u : ac_U) (H : Heap) (locs : List Loc) (ls : Array Slot), ac_R rg u → ac_Fr [(85, some 4), (85, some 11), (85, some 12), (85, some 13), (85, some 14)] u0 u → 940 - (u.1 85 4).toInt < (n0 : Int) → va_P (dC, dI) vwCl (ac_w ad cA (TT nF) u) H → va_D A (ac_w ad cA (TT nF) u) → va_S A s.heap H locs → lv_has ls 4 [(0, .ref (ad 85))] → W p l e (ac_rm 2) s m [.ref (ad 85)].toArray below meth c H locs 0 0 (MQ below (va_Qv (fun (u : ac_U) => ac_R rg u ∧ ac_Fr [(85, some 4), (85, some 11), (85, some 12), (85, some 13), (85, some 14)] u0 u) (ac_B (dC, dI) vwCl (ac_ty cA) ad cA (TT nF) A) A) [.ref (ad 85)].toArray s 0 0 A) (F0 m 0 ls []) := by
    intro n0
    induction n0 with
    | zero => intro u H locs ls hR hF hn0 hP hD hS hl; have gz0 : (0 : Int) ≤ (u.1 85 4).toInt ∧ (u.1 85 4).toInt ≤ 940 := hR 85 4; exfalso; omega
    | succ n0 ih0 =>
      intro u H locs ls hR hF hn0 hP hD hS hl
      have L18 : ∀ (u : ac_U) (H : Heap) (locs : List Loc) (ls : Array Slot), ac_R rg u → ac_Fr [(85, some 4), (85, some 11), (85, some 12), (85, some 13), (85, some 14)] u0 u → (0 : Int) ≤ (u.1 85 4).toInt ∧ (u.1 85 4).toInt ≤ 939 → 940 - (u.1 85 4).toInt < ((n0 : Nat) : Int) + 1 → va_P (dC, dI) vwCl (ac_w ad cA (TT nF) u) H → va_D A (ac_w ad cA (TT nF) u) → va_S A s.heap H locs → lv_has ls 4 [(0, .ref (ad 85))] → W p l e (ac_rm 2) s m [.ref (ad 85)].toArray below meth c H locs 0 0 (MQ below (va_Qv (fun (u : ac_U) => ac_R rg u ∧ ac_Fr [(85, some 4), (85, some 11), (85, some 12), (85, some 13), (85, some 14)] u0 u) (ac_B (dC, dI) vwCl (ac_ty cA) ad cA (TT nF) A) A) [.ref (ad 85)].toArray s 0 0 A) (F0 m 18 ls []) := by
        intro u H locs ls hR hF f0 f1 hP hD hS hl
        refine lv_aload_n F.1 F.2.1 dX12_next_18 rfl (lv_at hl 0 rfl) ?_
        refine lv_dup F.1 F.2.1 dX12_next_19 rfl ?_
        have g60 : (0 : Int) ≤ (u.1 85 4).toInt ∧ (u.1 85 4).toInt ≤ 940 := hR 85 4
        refine a_geti F inX12 hP 85 4 tc_85 rfl rfl (by decide) q1475 (fun _ h9 => h9) (v := (u.1 85 4)) rfl dX12_next_20 ?_
        refine a_ic F (1 : Int32) dX12_next_23 (by decide) ?_
        refine a_iadd F dX12_next_24 rfl ic_1 (by omega) (fun v61 hv61 => ?_)
        refine a_puti F inX12 tyX12 tyX12_ok nmX12 hP hD hS 85 4 tc_85 rfl rfl (by decide) q1475 (fun _ h9 => h9) rfl (ty := .int) (tyX12_ok 4 (by decide)) rfl rfl dX12_next_25 (fun H locs hP hD hS => ?_)
        have hR := hR.si (c := 85) (k := 4) (v := v61) (by omega : (0 : Int) ≤ v61.toInt ∧ v61.toInt ≤ 940)
        have hF := hF.si (c := 85) (k := 4) (v := v61) rfl
        refine lv_goto (tgt := 0) F.1 F.2.1 dX12_next_28 (by decide) ?_
        exact ih0 _ _ _ _ hR hF (by omega : 940 - v61.toInt < ((n0 : Nat) : Int)) hP hD hS (lv_sub hl [0] rfl)
      refine lv_aload_n F.1 F.2.1 dX12_next_0 rfl (lv_at hl 0 rfl) ?_
      refine a_Vi F hml hl.1 hA hP hD hS (As := []) (c_X12_peek_85 l dC dI ad cA nF _  hR) (cs_RX12_145 (d := 1) F.2.2.1 (by decide)) tc_85 rfl rfl rfl rfl (Nat.le_of_ble_eq_true rfl) dX12_next_1 ⟨Nat.le_refl 0, Nat.le_refl 0⟩ (fun r62 uN62 H locs hq hP hD hS => ?_)
      obtain ⟨hu62, gr62, xr62⟩ := hq
      rw [hu62] at hP hD
      have g63 : (0 : Int) ≤ (u.1 85 4).toInt ∧ (u.1 85 4).toInt ≤ 940 := hR 85 4
      have g64 : (0 : Int) ≤ (u.1 85 3).toInt ∧ (u.1 85 3).toInt ≤ 940 := hR 85 3
      have xr62 : 0 ≤ r62.toInt → (u.1 85 4).toInt < (u.1 85 3).toInt := xr62
      refine a_bp F (32 : Int32) dX12_next_4 (by decide) ?_
      refine b_eq F 18 dX12_next_6 (by decide) rfl ic_32 (fun c65 => ?_) (fun c65 => ?_)
      · exact L18 _ _ _ _ hR hF (by omega : (0 : Int) ≤ (u.1 85 4).toInt ∧ (u.1 85 4).toInt ≤ 939) (by omega : 940 - (u.1 85 4).toInt < ((n0 : Nat) : Int) + 1) hP hD hS (lv_sub hl [0] rfl)
      · refine lv_aload_n F.1 F.2.1 dX12_next_9 rfl (lv_at hl 0 rfl) ?_
        refine a_Vi F hml hl.1 hA hP hD hS (As := []) (c_X12_peek_85 l dC dI ad cA nF _  hR) (cs_RX12_145 (d := 1) F.2.2.1 (by decide)) tc_85 rfl rfl rfl rfl (Nat.le_of_ble_eq_true rfl) dX12_next_10 ⟨Nat.le_refl 0, Nat.le_refl 0⟩ (fun r66 uN66 H locs hq hP hD hS => ?_)
        obtain ⟨hu66, gr66, xr66⟩ := hq
        rw [hu66] at hP hD
        have xr66 : 0 ≤ r66.toInt → (u.1 85 4).toInt < (u.1 85 3).toInt := xr66
        refine a_bp F (10 : Int32) dX12_next_13 (by decide) ?_
        refine b_ne F 31 dX12_next_15 (by decide) rfl ic_10 (fun c67 => ?_) (fun c67 => ?_)
        · refine lv_aload_n F.1 F.2.1 dX12_next_31 rfl (lv_at hl 0 rfl) ?_
          refine lv_aload_n F.1 F.2.1 dX12_next_32 rfl (lv_at hl 0 rfl) ?_
          refine a_geti F inX12 hP 85 4 tc_85 rfl rfl (by decide) q1475 (fun _ h9 => h9) (v := (u.1 85 4)) (rfl) dX12_next_33 ?_
          refine a_puti F inX12 tyX12 tyX12_ok nmX12 hP hD hS 85 12 tc_85 rfl rfl (by decide) q1483 (fun _ h9 => h9) rfl (ty := .int) (tyX12_ok 12 (by decide)) rfl rfl dX12_next_36 (fun H locs hP hD hS => ?_)
          have hR := hR.si (c := 85) (k := 12) (v := (u.1 85 4)) ⟨i_lo _, i_hi _⟩
          have hF := hF.si (c := 85) (k := 12) (v := (u.1 85 4)) rfl
          refine lv_aload_n F.1 F.2.1 dX12_next_39 rfl (lv_at hl 0 rfl) ?_
          refine a_ic F (0 : Int32) dX12_next_40 (by decide) ?_
          refine a_puti F inX12 tyX12 tyX12_ok nmX12 hP hD hS 85 13 tc_85 rfl rfl (by decide) q1484 (fun _ h9 => h9) rfl (ty := .int) (tyX12_ok 13 (by decide)) rfl rfl dX12_next_41 (fun H locs hP hD hS => ?_)
          have hR := hR.si (c := 85) (k := 13) (v := (0 : Int32)) ⟨i_lo _, i_hi _⟩
          have hF := hF.si (c := 85) (k := 13) (v := (0 : Int32)) rfl
          refine lv_aload_n F.1 F.2.1 dX12_next_44 rfl (lv_at hl 0 rfl) ?_
          refine a_geti F inX12 hP 85 3 tc_85 rfl rfl (by decide) q1474 (fun _ h9 => h9) (v := (u.1 85 3)) (rfl) dX12_next_45 ?_
          refine lv_aload_n F.1 F.2.1 dX12_next_48 rfl (lv_at hl 0 rfl) ?_
          have g68 : (0 : Int) ≤ (u.1 85 5).toInt ∧ (u.1 85 5).toInt ≤ 900 := hR 85 5
          refine a_geti F inX12 hP 85 5 tc_85 rfl rfl (by decide) q1476 (fun _ h9 => h9) (v := (u.1 85 5)) rfl dX12_next_49 ?_
          refine b_le F 80 dX12_next_52 (by decide) rfl rfl (fun c69 => ?_) (fun c69 => ?_)
          · exact L80 _ _ _ _ hR hF (by omega : (0 : Int) ≤ (u.1 85 3).toInt ∧ (u.1 85 3).toInt ≤ 940) (by omega : (0 : Int) ≤ (u.1 85 4).toInt ∧ (u.1 85 4).toInt ≤ 940) (by omega : (0 : Int) ≤ (0 : Int) ∧ (0 : Int) ≤ 0) hP hD hS (lv_sub hl [0] rfl)
          · refine lv_aload_n F.1 F.2.1 dX12_next_55 rfl (lv_at hl 0 rfl) ?_
            refine a_geti F inX12 hP 85 4 tc_85 rfl rfl (by decide) q1475 (fun _ h9 => h9) (v := (u.1 85 4)) (rfl) dX12_next_56 ?_
            refine lv_aload_n F.1 F.2.1 dX12_next_59 rfl (lv_at hl 0 rfl) ?_
            refine a_geti F inX12 hP 85 5 tc_85 rfl rfl (by decide) q1476 (fun _ h9 => h9) (v := (u.1 85 5)) (rfl) dX12_next_60 ?_
            refine b_lt F 80 dX12_next_63 (by decide) rfl rfl (fun c70 => ?_) (fun c70 => ?_)
            · exact L80 _ _ _ _ hR hF (by omega : (0 : Int) ≤ (u.1 85 3).toInt ∧ (u.1 85 3).toInt ≤ 940) (by omega : (0 : Int) ≤ (u.1 85 4).toInt ∧ (u.1 85 4).toInt ≤ 940) (by omega : (0 : Int) ≤ (0 : Int) ∧ (0 : Int) ≤ 0) hP hD hS (lv_sub hl [0] rfl)
            · refine lv_aload_n F.1 F.2.1 dX12_next_66 rfl (lv_at hl 0 rfl) ?_
              refine lv_aload_n F.1 F.2.1 dX12_next_67 rfl (lv_at hl 0 rfl) ?_
              refine a_geti F inX12 hP 85 5 tc_85 rfl rfl (by decide) q1476 (fun _ h9 => h9) (v := (u.1 85 5)) (rfl) dX12_next_68 ?_
              refine a_puti F inX12 tyX12 tyX12_ok nmX12 hP hD hS 85 12 tc_85 rfl rfl (by decide) q1483 (fun _ h9 => h9) rfl (ty := .int) (tyX12_ok 12 (by decide)) rfl rfl dX12_next_71 (fun H locs hP hD hS => ?_)
              have hR := hR.si (c := 85) (k := 12) (v := (u.1 85 5)) ⟨i_lo _, i_hi _⟩
              have hF := hF.si (c := 85) (k := 12) (v := (u.1 85 5)) rfl
              refine lv_aload_n F.1 F.2.1 dX12_next_74 rfl (lv_at hl 0 rfl) ?_
              refine a_ic F (4 : Int32) dX12_next_75 (by decide) ?_
              refine a_puti F inX12 tyX12 tyX12_ok nmX12 hP hD hS 85 11 tc_85 rfl rfl (by decide) q1482 (fun _ h9 => h9) rfl (ty := .int) (tyX12_ok 11 (by decide)) rfl rfl dX12_next_76 (fun H locs hP hD hS => ?_)
              have hR := hR.si (c := 85) (k := 11) (v := (4 : Int32)) (by rw [ic_4]; exact (by omega : (0 : Int) ≤ (4 : Int) ∧ (4 : Int) ≤ 4))
              have hF := hF.si (c := 85) (k := 11) (v := (4 : Int32)) rfl
              exact a_retv F hr hlocks hP hD hS dX12_next_79 ⟨hR, hF⟩
        · exact L18 _ _ _ _ hR hF (by omega : (0 : Int) ≤ (u.1 85 4).toInt ∧ (u.1 85 4).toInt ≤ 939) (by omega : 940 - (u.1 85 4).toInt < ((n0 : Nat) : Int) + 1) hP hD hS (lv_sub hl [0] rfl)
  have g71 : (0 : Int) ≤ (u0.1 85 4).toInt ∧ (u0.1 85 4).toInt ≤ 940 := hR 85 4
  exact L0 942 _ _ _ _ hR hF (by omega : 940 - (u0.1 85 4).toInt < (942 : Int)) hP hD hS (lv_sub hl [0] rfl)
set_option maxHeartbeats 600000 in
set_option maxRecDepth 100000 in
theorem c_X12_bits (l : Launch) (dC : Nat → ClassId) (dI : Nat → Nat → Nat) (ad : Nat → Nat) (cA : Nat → ClassId) (nF : Nat) (u0 : ac_U) (p0 : Int32) (hR : ac_R rg u0) (hp0 : (0 : Int) ≤ p0.toInt ∧ p0.toInt ≤ 255) : ac_Mi l yX12_bits (.code yX12_bits cX12_bits 3 (some .int) :: TB) 1 (dC, dI) vwCl (ac_ty cA) ad cA (TT nF) [.int p0] u0 (fun (r : Int32) (u : ac_U) => u = u0) := by
  refine ac_Mi.of (cc := cX12_bits) (maxL := 3) (ret := (some .int)) (by decide) rfl (Nat.le_of_ble_eq_true rfl) ?_
  intro p e s m below meth c A ls F hml hr hlocks hA hP hD hS hl
  have F : ac_X p s m [.int p0].toArray c cX12_bits RX12 TB (dC, dI) vwCl (ac_ty cA) := ⟨F.1, F.2.1, fun w h => F.2.2.1 w (List.mem_cons_of_mem _ h), F.2.2.2.1, F.2.2.2.2⟩
  have hl : lv_has ls 3 [(0, .int p0)] := hl
  have L4 : ∀ (n4 : Nat) (x1 : Int32) (x2 : Int32) (H : Heap) (locs : List Loc) (ls : Array Slot), (x2.toBitVec.toNat : Int) < (n4 : Int) → (0 : Int) ≤ x2.toInt ∧ x2.toInt ≤ 255 → va_P (dC, dI) vwCl (ac_w ad cA (TT nF) u0) H → va_D A (ac_w ad cA (TT nF) u0) → va_S A s.heap H locs → lv_has ls 3 [(1, .int x1), (2, .int x2)] → W p l e (ac_rm 1) s m [.int p0].toArray below meth c H locs 0 0 (MQ below (va_Qi (fun (r : Int32) (u : ac_U) => u = u0) (ac_B (dC, dI) vwCl (ac_ty cA) ad cA (TT nF) A) A) [.int p0].toArray s 0 0 A) (F0 m 4 ls []) := by
    intro n4
    induction n4 with
    | zero => intro x1 x2 H locs ls hn4 f0 hP hD hS hl; exfalso; omega
    | succ n4 ih4 =>
      intro x1 x2 H locs ls hn4 f0 hP hD hS hl
      refine lv_iload_n F.1 F.2.1 dX12_bits_4 rfl (lv_at hl 1 rfl) ?_
      refine z_eq F 20 dX12_bits_5 (by decide) rfl (fun c1 => ?_) (fun c1 => ?_)
      · refine lv_iload_n F.1 F.2.1 dX12_bits_20 rfl (lv_at hl 0 rfl) ?_
        exact a_reti F hr hlocks hP hD hS dX12_bits_21 rfl
      · refine a_iincU F (k := 0) (fun v2 => [(1, .int v2), (2, .int x2)]) dX12_bits_8 hl rfl (by decide) (fun _ => rfl) (fun v2 ls hl => ?_)
        refine lv_iload_n F.1 F.2.1 dX12_bits_11 rfl (lv_at hl 1 rfl) ?_
        refine lv_iload_n F.1 F.2.1 dX12_bits_12 rfl (lv_at hl 1 rfl) ?_
        refine a_ic F (1 : Int32) dX12_bits_13 (by decide) ?_
        refine lv_isub F.1 F.2.1 dX12_bits_14 ?_
        refine lv_iand F.1 F.2.1 dX12_bits_15 ?_
        have hb9 : 0 ≤ (x2 &&& (x2 - (1 : Int32))).toInt ∧ (x2 &&& (x2 - (1 : Int32))).toInt ≤ x2.toInt := by rw [Int32.and_comm]; exact i_and rfl (by omega)
        refine lv_istore_n (lv' := [(2, .int (x2 &&& (x2 - (1 : Int32)))), (1, .int v2)]) F.1 F.2.1 dX12_bits_16 rfl hl (by decide) rfl (fun ls hl => ?_)
        refine lv_goto (tgt := 4) F.1 F.2.1 dX12_bits_17 (by decide) ?_
        exact ih4 v2 (x2 &&& (x2 - (1 : Int32))) _ _ _ (by have q := bits_dec (x := x2) (by omega); omega) (by omega) hP hD hS (lv_sub hl [1, 0] rfl)
  refine a_ic F (0 : Int32) dX12_bits_0 (by decide) ?_
  refine lv_istore_n (lv' := [(1, .int (0 : Int32)), (0, .int p0)]) F.1 F.2.1 dX12_bits_1 rfl hl (by decide) rfl (fun ls hl => ?_)
  refine lv_iload_n F.1 F.2.1 dX12_bits_2 rfl (lv_at hl 1 rfl) ?_
  refine lv_istore_n (lv' := [(2, .int p0), (1, .int (0 : Int32)), (0, .int p0)]) F.1 F.2.1 dX12_bits_3 rfl hl (by decide) rfl (fun ls hl => ?_)
  exact L4 4294967297 (0 : Int32) p0 _ _ _ (by have q := p0.toBitVec.isLt; omega) (by omega) hP hD hS (lv_sub hl [1, 0] rfl)
set_option maxHeartbeats 600000 in
set_option maxRecDepth 100000 in
theorem c_X12_find_85 (l : Launch) (dC : Nat → ClassId) (dI : Nat → Nat → Nat) (ad : Nat → Nat) (cA : Nat → ClassId) (nF : Nat) (u0 : ac_U) (p0 : Int32) (p1 : Int32) (hR : ac_R rg u0) (hp0 : (0 : Int) ≤ p0.toInt ∧ p0.toInt ≤ 44) (hp1 : (0 : Int) ≤ p1.toInt ∧ p1.toInt ≤ 12) (hh0 : p0.toInt + p1.toInt ≤ 52) : ac_Mi l yX12_find (.code yX12_find cX12_find 4 (some .int) :: TB) 1 (dC, dI) vwCl (ac_ty cA) ad cA (TT nF) [.ref (ad 85), .int p0, .int p1] u0 (fun (r : Int32) (u : ac_U) => u = u0 ∧ ((-1 : Int) ≤ r.toInt ∧ r.toInt ≤ 11) ∧ (-1 ≤ r.toInt ∧ r.toInt < p1.toInt ∨ r.toInt = -1)) := by
  refine ac_Mi.of (cc := cX12_find) (maxL := 4) (ret := (some .int)) (by decide) rfl (Nat.le_of_ble_eq_true rfl) ?_
  intro p e s m below meth c A ls F hml hr hlocks hA hP hD hS hl
  have F : ac_X p s m [.ref (ad 85), .int p0, .int p1].toArray c cX12_find RX12 TB (dC, dI) vwCl (ac_ty cA) := ⟨F.1, F.2.1, fun w h => F.2.2.1 w (List.mem_cons_of_mem _ h), F.2.2.2.1, F.2.2.2.2⟩
  have hl : lv_has ls 4 [(0, .ref (ad 85)), (1, .int p0), (2, .int p1)] := hl
  have L2 : ∀ (n2 : Nat) (x3 : Int32) (H : Heap) (locs : List Loc) (ls : Array Slot), 12 - x3.toInt < (n2 : Int) → (0 : Int) ≤ x3.toInt ∧ x3.toInt ≤ 12 → va_P (dC, dI) vwCl (ac_w ad cA (TT nF) u0) H → va_D A (ac_w ad cA (TT nF) u0) → va_S A s.heap H locs → lv_has ls 4 [(0, .ref (ad 85)), (1, .int p0), (2, .int p1), (3, .int x3)] → W p l e (ac_rm 1) s m [.ref (ad 85), .int p0, .int p1].toArray below meth c H locs 0 0 (MQ below (va_Qi (fun (r : Int32) (u : ac_U) => u = u0 ∧ ((-1 : Int) ≤ r.toInt ∧ r.toInt ≤ 11) ∧ (-1 ≤ r.toInt ∧ r.toInt < p1.toInt ∨ r.toInt = -1)) (ac_B (dC, dI) vwCl (ac_ty cA) ad cA (TT nF) A) A) [.ref (ad 85), .int p0, .int p1].toArray s 0 0 A) (F0 m 2 ls []) := by
    intro n2
    induction n2 with
    | zero => intro x3 H locs ls hn2 f0 hP hD hS hl; exfalso; omega
    | succ n2 ih2 =>
      intro x3 H locs ls hn2 f0 hP hD hS hl
      refine lv_iload_n F.1 F.2.1 dX12_find_2 rfl (lv_at hl 3 rfl) ?_
      refine lv_iload_n F.1 F.2.1 dX12_find_3 rfl (lv_at hl 2 rfl) ?_
      refine b_ge F 31 dX12_find_4 (by decide) rfl rfl (fun c1 => ?_) (fun c1 => ?_)
      · refine a_ic F (-1 : Int32) dX12_find_31 (by decide) ?_
        exact a_reti F hr hlocks hP hD hS dX12_find_32 ⟨rfl, (by decide), (by first | exact (by omega : -1 ≤ (-1 : Int) ∧ (-1 : Int) < p1.toInt ∨ (-1 : Int) = -1) | (rw [ic_m1]; exact (by omega : -1 ≤ (-1 : Int) ∧ (-1 : Int) < p1.toInt ∨ (-1 : Int) = -1)))⟩
      · refine lv_aload_n F.1 F.2.1 dX12_find_7 rfl (lv_at hl 0 rfl) ?_
        refine a_getr F inX12 hP 85 9 tc_85 rfl rfl (by decide) q1480 (fun _ h9 => h9) dX12_find_8 ?_
        refine lv_iload_n F.1 F.2.1 dX12_find_11 rfl (lv_at hl 1 rfl) ?_
        refine lv_iload_n F.1 F.2.1 dX12_find_12 rfl (lv_at hl 3 rfl) ?_
        refine a_iadd F dX12_find_13 rfl rfl (by omega) (fun v2 hv2 => ?_)
        refine a_lald F hP 90 tc_90 rfl (i_in rfl (by omega)) dX12_find_14 (fun w3 ew3 => ?_)
        refine lv_aload_n F.1 F.2.1 dX12_find_15 rfl (lv_at hl 0 rfl) ?_
        refine a_getl F inX12 hP 85 17 tc_85 rfl rfl (by decide) q1488 (fun _ h9 => h9) rfl dX12_find_16 ?_
        refine lv_topl (fun w4 _ => ?_)
        refine W.lcmp F.1 F.2.1 dX12_find_19 ?_
        refine lv_topi (fun v5 _ => ?_)
        refine z_ne F 25 dX12_find_20 (by decide) rfl (fun c6 => ?_) (fun c6 => ?_)
        · refine a_iinc F (k := 3) (fun v7 => [(3, .int v7), (0, .ref (ad 85)), (1, .int p0), (2, .int p1)]) dX12_find_25 hl rfl rfl (by decide) (by omega) (by decide) (fun _ => rfl) (fun v7 ls hv7 hl => ?_)
          refine lv_goto (tgt := 2) F.1 F.2.1 dX12_find_28 (by decide) ?_
          exact ih2 v7 _ _ _ (by omega) (by omega) hP hD hS (lv_sub hl [1, 2, 3, 0] rfl)
        · refine lv_iload_n F.1 F.2.1 dX12_find_23 rfl (lv_at hl 3 rfl) ?_
          exact a_reti F hr hlocks hP hD hS dX12_find_24 ⟨rfl, (by omega : (-1 : Int) ≤ x3.toInt ∧ x3.toInt ≤ 11), (by omega : -1 ≤ x3.toInt ∧ x3.toInt < p1.toInt ∨ x3.toInt = -1)⟩
  refine a_ic F (0 : Int32) dX12_find_0 (by decide) ?_
  refine lv_istore_n (lv' := [(3, .int (0 : Int32)), (0, .ref (ad 85)), (1, .int p0), (2, .int p1)]) F.1 F.2.1 dX12_find_1 rfl hl (by decide) rfl (fun ls hl => ?_)
  exact L2 14 (0 : Int32) _ _ _ (by decide) (by decide) hP hD hS (lv_sub hl [1, 2, 3, 0] rfl)
set_option maxHeartbeats 600000 in
set_option maxRecDepth 100000 in
theorem c_X12_isName_85 (l : Launch) (dC : Nat → ClassId) (dI : Nat → Nat → Nat) (ad : Nat → Nat) (cA : Nat → ClassId) (nF : Nat) (u0 : ac_U)  (hR : ac_R rg u0) : ac_Mi l yX12_isName (.code yX12_isName cX12_isName 3 (some .boolean) :: TB) 1 (dC, dI) vwCl (ac_ty cA) ad cA (TT nF) [.ref (ad 85)] u0 (fun (r : Int32) (u : ac_U) => u = u0 ∧ ((0 : Int) ≤ r.toInt ∧ r.toInt ≤ 1)) := by
  refine ac_Mi.of (cc := cX12_isName) (maxL := 3) (ret := (some .boolean)) (by decide) rfl (Nat.le_of_ble_eq_true rfl) ?_
  intro p e s m below meth c A ls F hml hr hlocks hA hP hD hS hl
  have F : ac_X p s m [.ref (ad 85)].toArray c cX12_isName RX12 TB (dC, dI) vwCl (ac_ty cA) := ⟨F.1, F.2.1, fun w h => F.2.2.1 w (List.mem_cons_of_mem _ h), F.2.2.2.1, F.2.2.2.2⟩
  have hl : lv_has ls 3 [(0, .ref (ad 85))] := hl
  have L16 : ∀ (n16 : Nat) (x1 : Int32) (x2 : Int32) (H : Heap) (locs : List Loc) (ls : Array Slot), 27 - x2.toInt < (n16 : Int) → (0 : Int) ≤ x1.toInt ∧ x1.toInt ≤ 1 → (0 : Int) ≤ x2.toInt ∧ x2.toInt ≤ 27 → va_P (dC, dI) vwCl (ac_w ad cA (TT nF) u0) H → va_D A (ac_w ad cA (TT nF) u0) → va_S A s.heap H locs → lv_has ls 3 [(0, .ref (ad 85)), (1, .int x1), (2, .int x2)] → W p l e (ac_rm 1) s m [.ref (ad 85)].toArray below meth c H locs 0 0 (MQ below (va_Qi (fun (r : Int32) (u : ac_U) => u = u0 ∧ ((0 : Int) ≤ r.toInt ∧ r.toInt ≤ 1)) (ac_B (dC, dI) vwCl (ac_ty cA) ad cA (TT nF) A) A) [.ref (ad 85)].toArray s 0 0 A) (F0 m 16 ls []) := by
    intro n16
    induction n16 with
    | zero => intro x1 x2 H locs ls hn16 f0 f1 hP hD hS hl; exfalso; omega
    | succ n16 ih16 =>
      intro x1 x2 H locs ls hn16 f0 f1 hP hD hS hl
      have L45 : ∀ (x2 : Int32) (z0 : Int32) (H : Heap) (locs : List Loc) (ls : Array Slot), (0 : Int) ≤ x2.toInt ∧ x2.toInt ≤ 26 → (0 : Int) ≤ z0.toInt ∧ z0.toInt ≤ 1 → 27 - x2.toInt + 0 < ((n16 : Nat) : Int) + 1 → va_P (dC, dI) vwCl (ac_w ad cA (TT nF) u0) H → va_D A (ac_w ad cA (TT nF) u0) → va_S A s.heap H locs → lv_has ls 3 [(0, .ref (ad 85)), (2, .int x2)] → W p l e (ac_rm 1) s m [.ref (ad 85)].toArray below meth c H locs 0 0 (MQ below (va_Qi (fun (r : Int32) (u : ac_U) => u = u0 ∧ ((0 : Int) ≤ r.toInt ∧ r.toInt ≤ 1)) (ac_B (dC, dI) vwCl (ac_ty cA) ad cA (TT nF) A) A) [.ref (ad 85)].toArray s 0 0 A) (F0 m 45 ls [.int z0]) := by
        intro x2 z0 H locs ls f0 f1 f2 hP hD hS hl
        refine lv_istore_n (lv' := [(1, .int z0), (0, .ref (ad 85)), (2, .int x2)]) F.1 F.2.1 dX12_isName_45 rfl hl (by decide) rfl (fun ls hl => ?_)
        refine a_iinc F (k := 2) (fun v1 => [(2, .int v1), (1, .int z0), (0, .ref (ad 85))]) dX12_isName_46 hl rfl rfl (by decide) (by omega) (by decide) (fun _ => rfl) (fun v1 ls hv1 hl => ?_)
        refine lv_goto (tgt := 16) F.1 F.2.1 dX12_isName_49 (by decide) ?_
        exact ih16 z0 v1 _ _ _ (by omega) (by omega) (by omega) hP hD hS (lv_sub hl [2, 1, 0] rfl)
      have L44 : ∀ (x2 : Int32) (H : Heap) (locs : List Loc) (ls : Array Slot), (0 : Int) ≤ x2.toInt ∧ x2.toInt ≤ 26 → 27 - x2.toInt + 0 < ((n16 : Nat) : Int) + 1 → va_P (dC, dI) vwCl (ac_w ad cA (TT nF) u0) H → va_D A (ac_w ad cA (TT nF) u0) → va_S A s.heap H locs → lv_has ls 3 [(0, .ref (ad 85)), (2, .int x2)] → W p l e (ac_rm 1) s m [.ref (ad 85)].toArray below meth c H locs 0 0 (MQ below (va_Qi (fun (r : Int32) (u : ac_U) => u = u0 ∧ ((0 : Int) ≤ r.toInt ∧ r.toInt ≤ 1)) (ac_B (dC, dI) vwCl (ac_ty cA) ad cA (TT nF) A) A) [.ref (ad 85)].toArray s 0 0 A) (F0 m 44 ls []) := by
        intro x2 H locs ls f0 f1 hP hD hS hl
        refine a_ic F (0 : Int32) dX12_isName_44 (by decide) ?_
        exact L45 x2 (0 : Int32) _ _ _ (by omega) (by decide) (by omega) hP hD hS (lv_sub hl [0, 1] rfl)
      refine lv_iload_n F.1 F.2.1 dX12_isName_16 rfl (lv_at hl 2 rfl) ?_
      refine a_bp F (27 : Int32) dX12_isName_17 (by decide) ?_
      refine b_ge F 52 dX12_isName_19 (by decide) rfl ic_27 (fun c2 => ?_) (fun c2 => ?_)
      · refine lv_iload_n F.1 F.2.1 dX12_isName_52 rfl (lv_at hl 1 rfl) ?_
        exact a_retz F hr hlocks hP hD hS dX12_isName_53 (i_01 (by omega)) ⟨rfl, (by omega : (0 : Int) ≤ x1.toInt ∧ x1.toInt ≤ 1)⟩
      · refine lv_iload_n F.1 F.2.1 dX12_isName_22 rfl (lv_at hl 1 rfl) ?_
        refine z_eq F 44 dX12_isName_23 (by decide) rfl (fun c3 => ?_) (fun c3 => ?_)
        · exact L44 x2 _ _ _ (by omega) (by omega) hP hD hS (lv_sub hl [0, 2] rfl)
        · refine lv_aload_n F.1 F.2.1 dX12_isName_26 rfl (lv_at hl 0 rfl) ?_
          refine a_getl F inX12 hP 85 17 tc_85 rfl rfl (by decide) q1488 (fun _ h9 => h9) rfl dX12_isName_27 ?_
          refine lv_topl (fun w4 _ => ?_)
          refine lv_aload_n F.1 F.2.1 dX12_isName_30 rfl (lv_at hl 0 rfl) ?_
          refine a_getr F inX12 hP 85 10 tc_85 rfl rfl (by decide) q1481 (fun _ h9 => h9) dX12_isName_31 ?_
          refine lv_iload_n F.1 F.2.1 dX12_isName_34 rfl (lv_at hl 2 rfl) ?_
          refine a_laldB F hP 91 tc_91 rfl (i_in rfl (by omega)) dX12_isName_35 (fun w5 ew5 => ?_)
          refine W.lcmp F.1 F.2.1 dX12_isName_36 ?_
          refine lv_topi (fun v6 _ => ?_)
          refine z_eq F 44 dX12_isName_37 (by decide) rfl (fun c7 => ?_) (fun c7 => ?_)
          · exact L44 x2 _ _ _ (by omega) (by omega) hP hD hS (lv_sub hl [0, 2] rfl)
          · refine a_ic F (1 : Int32) dX12_isName_40 (by decide) ?_
            refine lv_goto (tgt := 45) F.1 F.2.1 dX12_isName_41 (by decide) ?_
            exact L45 x2 (1 : Int32) _ _ _ (by omega) (by decide) (by omega) hP hD hS (lv_sub hl [0, 2] rfl)
  have L13 : ∀ (z0 : Int32) (H : Heap) (locs : List Loc) (ls : Array Slot), (0 : Int) ≤ z0.toInt ∧ z0.toInt ≤ 1 → va_P (dC, dI) vwCl (ac_w ad cA (TT nF) u0) H → va_D A (ac_w ad cA (TT nF) u0) → va_S A s.heap H locs → lv_has ls 3 [(0, .ref (ad 85))] → W p l e (ac_rm 1) s m [.ref (ad 85)].toArray below meth c H locs 0 0 (MQ below (va_Qi (fun (r : Int32) (u : ac_U) => u = u0 ∧ ((0 : Int) ≤ r.toInt ∧ r.toInt ≤ 1)) (ac_B (dC, dI) vwCl (ac_ty cA) ad cA (TT nF) A) A) [.ref (ad 85)].toArray s 0 0 A) (F0 m 13 ls [.int z0]) := by
    intro z0 H locs ls f0 hP hD hS hl
    refine lv_istore_n (lv' := [(1, .int z0), (0, .ref (ad 85))]) F.1 F.2.1 dX12_isName_13 rfl hl (by decide) rfl (fun ls hl => ?_)
    refine a_ic F (0 : Int32) dX12_isName_14 (by decide) ?_
    refine lv_istore_n (lv' := [(2, .int (0 : Int32)), (1, .int z0), (0, .ref (ad 85))]) F.1 F.2.1 dX12_isName_15 rfl hl (by decide) rfl (fun ls hl => ?_)
    exact L16 29 z0 (0 : Int32) _ _ _ (by decide) (by omega) (by decide) hP hD hS (lv_sub hl [2, 1, 0] rfl)
  refine lv_aload_n F.1 F.2.1 dX12_isName_0 rfl (lv_at hl 0 rfl) ?_
  have g8 : (0 : Int) ≤ (u0.1 85 11).toInt ∧ (u0.1 85 11).toInt ≤ 4 := hR 85 11
  refine a_geti F inX12 hP 85 11 tc_85 rfl rfl (by decide) q1482 (fun _ h9 => h9) (v := (u0.1 85 11)) rfl dX12_isName_1 ?_
  refine a_ic F (1 : Int32) dX12_isName_4 (by decide) ?_
  refine b_ne F 12 dX12_isName_5 (by decide) rfl ic_1 (fun c9 => ?_) (fun c9 => ?_)
  · refine a_ic F (0 : Int32) dX12_isName_12 (by decide) ?_
    exact L13 (0 : Int32) _ _ _ (by decide) hP hD hS (lv_sub hl [0] rfl)
  · refine a_ic F (1 : Int32) dX12_isName_8 (by decide) ?_
    refine lv_goto (tgt := 13) F.1 F.2.1 dX12_isName_9 (by decide) ?_
    exact L13 (1 : Int32) _ _ _ (by decide) hP hD hS (lv_sub hl [0] rfl)
set_option maxHeartbeats 600000 in
set_option maxRecDepth 100000 in
theorem c_X12_looksAt_85 (l : Launch) (dC : Nat → ClassId) (dI : Nat → Nat → Nat) (ad : Nat → Nat) (cA : Nat → ClassId) (nF : Nat) (u0 : ac_U) (p0 : Int32) (p1 : Int32) (hR : ac_R rg u0) (hp0 : (0 : Int) ≤ p0.toInt ∧ p0.toInt ≤ 44) (hp1 : (0 : Int) ≤ p1.toInt ∧ p1.toInt ≤ 12) (hh0 : p0.toInt + p1.toInt ≤ 52) : ac_Mi l yX12_looksAt (.code yX12_looksAt cX12_looksAt 3 (some .boolean) :: TB) 2 (dC, dI) vwCl (ac_ty cA) ad cA (TT nF) [.ref (ad 85), .int p0, .int p1] u0 (fun (r : Int32) (u : ac_U) => ac_R rg u ∧ ac_Fr [(85, some 15), (85, some 16), (85, some 18)] u0 u ∧ ((0 : Int) ≤ r.toInt ∧ r.toInt ≤ 1) ∧ (r.toInt ≠ 0 → 0 ≤ (u.1 85 18).toInt ∧ (u.1 85 18).toInt < p1.toInt)) := by
  refine ac_Mi.of (cc := cX12_looksAt) (maxL := 3) (ret := (some .boolean)) (by decide) rfl (Nat.le_of_ble_eq_true rfl) ?_
  intro p e s m below meth c A ls F hml hr hlocks hA hP hD hS hl
  have F : ac_X p s m [.ref (ad 85), .int p0, .int p1].toArray c cX12_looksAt RX12 TB (dC, dI) vwCl (ac_ty cA) := ⟨F.1, F.2.1, fun w h => F.2.2.1 w (List.mem_cons_of_mem _ h), F.2.2.2.1, F.2.2.2.2⟩
  have hl : lv_has ls 3 [(0, .ref (ad 85)), (1, .int p0), (2, .int p1)] := hl
  have hF : ac_Fr [(85, some 15), (85, some 16), (85, some 18)] u0 u0 := ac_Fr.rf
  refine lv_aload_n F.1 F.2.1 dX12_looksAt_0 rfl (lv_at hl 0 rfl) ?_
  refine a_Vi F hml hl.1 hA hP hD hS (As := []) (c_X12_isName_85 l dC dI ad cA nF _  hR) (cs_RX12_194 (d := 1) F.2.2.1 (by decide)) tc_85 rfl rfl rfl rfl (Nat.le_of_ble_eq_true rfl) dX12_looksAt_1 ⟨Nat.le_refl 0, Nat.le_refl 0⟩ (fun r1 uN1 H locs hq hP hD hS => ?_)
  obtain ⟨hu1, gr1⟩ := hq
  rw [hu1] at hP hD
  refine z_ne F 13 dX12_looksAt_4 (by decide) rfl (fun c2 => ?_) (fun c2 => ?_)
  · refine lv_aload_n F.1 F.2.1 dX12_looksAt_13 rfl (lv_at hl 0 rfl) ?_
    refine lv_aload_n F.1 F.2.1 dX12_looksAt_14 rfl (lv_at hl 0 rfl) ?_
    refine lv_iload_n F.1 F.2.1 dX12_looksAt_15 rfl (lv_at hl 1 rfl) ?_
    refine lv_iload_n F.1 F.2.1 dX12_looksAt_16 rfl (lv_at hl 2 rfl) ?_
    refine a_Vi F hml hl.1 hA hP hD hS (As := [.int p0, .int p1]) (c_X12_find_85 l dC dI ad cA nF _ p0 p1 hR (by omega) (by omega) (by omega)) (cs_RX12_198 (d := 1) F.2.2.1 (by decide)) tc_85 rfl rfl rfl rfl (Nat.le_of_ble_eq_true rfl) dX12_looksAt_17 ⟨Nat.le_refl 0, Nat.le_refl 0⟩ (fun r3 uN3 H locs hq hP hD hS => ?_)
    obtain ⟨hu3, gr3, xr3⟩ := hq
    rw [hu3] at hP hD
    have xr3 : -1 ≤ r3.toInt ∧ r3.toInt < p1.toInt ∨ r3.toInt = -1 := xr3
    refine a_puti F inX12 tyX12 tyX12_ok nmX12 hP hD hS 85 18 tc_85 rfl rfl (by decide) q1489 (fun _ h9 => h9) rfl (ty := .int) (tyX12_ok 18 (by decide)) rfl rfl dX12_looksAt_20 (fun H locs hP hD hS => ?_)
    have hR := hR.si (c := 85) (k := 18) (v := r3) ⟨i_lo _, i_hi _⟩
    have hF := hF.si (c := 85) (k := 18) (v := r3) rfl
    refine lv_aload_n F.1 F.2.1 dX12_looksAt_23 rfl (lv_at hl 0 rfl) ?_
    refine a_geti F inX12 hP 85 18 tc_85 rfl rfl (by decide) q1489 (fun _ h9 => h9) (v := r3) (rfl) dX12_looksAt_24 ?_
    refine z_ge F 38 dX12_looksAt_27 (by decide) rfl (fun c4 => ?_) (fun c4 => ?_)
    · refine a_ic F (1 : Int32) dX12_looksAt_38 (by decide) ?_
      refine lv_goto (tgt := 43) F.1 F.2.1 dX12_looksAt_39 (by decide) ?_
      exact a_retz F hr hlocks hP hD hS dX12_looksAt_43 (Or.inr rfl) ⟨hR, hF, (by decide), (by first | exact (by omega : (1 : Int) ≠ 0 → 0 ≤ r3.toInt ∧ r3.toInt < p1.toInt) | (rw [ic_1]; exact (by omega : (1 : Int) ≠ 0 → 0 ≤ r3.toInt ∧ r3.toInt < p1.toInt)))⟩
    · refine lv_aload_n F.1 F.2.1 dX12_looksAt_30 rfl (lv_at hl 0 rfl) ?_
      refine a_ic F (3 : Int32) dX12_looksAt_31 (by decide) ?_
      refine a_Vi F hml hl.1 hA hP hD hS (As := [.int (3 : Int32)]) (c_X12_bad_85 l dC dI ad cA nF _ (3 : Int32) hR (by decide)) (cs_RX12_181 (d := 1) F.2.2.1 (by decide)) tc_85 rfl rfl rfl rfl (Nat.le_of_ble_eq_true rfl) dX12_looksAt_32 ⟨Nat.le_refl 0, Nat.le_refl 0⟩ (fun r5 u5 H locs hq hP hD hS => ?_)
      obtain ⟨hR, hF5, gr5⟩ := hq
      have hF := hF.tr hF5 (by decide)
      refine z_eq F 42 dX12_looksAt_35 (by decide) rfl (fun c6 => ?_) (fun c6 => ?_)
      · refine a_ic F (0 : Int32) dX12_looksAt_42 (by decide) ?_
        have k7 : (u5.1 85 18).toInt = r3.toInt := congrArg Int32.toInt (show u5.1 85 18 = r3 from hF5 85 18 rfl)
        exact a_retz F hr hlocks hP hD hS dX12_looksAt_43 (Or.inl rfl) ⟨hR, hF, (by decide), (by first | exact (by omega : (0 : Int) ≠ 0 → 0 ≤ (u5.1 85 18).toInt ∧ (u5.1 85 18).toInt < p1.toInt) | (rw [ic_0]; exact (by omega : (0 : Int) ≠ 0 → 0 ≤ (u5.1 85 18).toInt ∧ (u5.1 85 18).toInt < p1.toInt)))⟩
      · exfalso; omega
  · refine lv_aload_n F.1 F.2.1 dX12_looksAt_7 rfl (lv_at hl 0 rfl) ?_
    refine a_ic F (1 : Int32) dX12_looksAt_8 (by decide) ?_
    refine a_Vi F hml hl.1 hA hP hD hS (As := [.int (1 : Int32)]) (c_X12_bad_85 l dC dI ad cA nF _ (1 : Int32) hR (by decide)) (cs_RX12_181 (d := 1) F.2.2.1 (by decide)) tc_85 rfl rfl rfl rfl (Nat.le_of_ble_eq_true rfl) dX12_looksAt_9 ⟨Nat.le_refl 0, Nat.le_refl 0⟩ (fun r8 u8 H locs hq hP hD hS => ?_)
    obtain ⟨hR, hF8, gr8⟩ := hq
    have hF := hF.tr hF8 (by decide)
    exact a_retz F hr hlocks hP hD hS dX12_looksAt_12 (i_01 (by omega)) ⟨hR, hF, (by omega : (0 : Int) ≤ r8.toInt ∧ r8.toInt ≤ 1), (by omega : r8.toInt ≠ 0 → 0 ≤ (u8.1 85 18).toInt ∧ (u8.1 85 18).toInt < p1.toInt)⟩
set_option maxHeartbeats 600000 in
set_option maxRecDepth 100000 in
theorem c_X12_takes_85 (l : Launch) (dC : Nat → ClassId) (dI : Nat → Nat → Nat) (ad : Nat → Nat) (cA : Nat → ClassId) (nF : Nat) (u0 : ac_U) (p0 : Int32) (p1 : Int32) (hR : ac_R rg u0) (hp1 : (3 : Int) ≤ p1.toInt ∧ p1.toInt ≤ 99) : ac_Mi l yX12_takes (.code yX12_takes cX12_takes 3 (some .boolean) :: TB) 3 (dC, dI) vwCl (ac_ty cA) ad cA (TT nF) [.ref (ad 85), .int p0, .int p1] u0 (fun (r : Int32) (u : ac_U) => ac_R rg u ∧ ac_Fr [(85, some 4), (85, some 11), (85, some 12), (85, some 13), (85, some 14), (85, some 15), (85, some 16), (85, some 18)] u0 u ∧ ((0 : Int) ≤ r.toInt ∧ r.toInt ≤ 1) ∧ (r.toInt ≠ 0 → p0.toInt ≤ (u.1 85 18).toInt ∧ (u.1 85 18).toInt ≤ p1.toInt)) := by
  refine ac_Mi.of (cc := cX12_takes) (maxL := 3) (ret := (some .boolean)) (by decide) rfl (Nat.le_of_ble_eq_true rfl) ?_
  intro p e s m below meth c A ls F hml hr hlocks hA hP hD hS hl
  have F : ac_X p s m [.ref (ad 85), .int p0, .int p1].toArray c cX12_takes RX12 TB (dC, dI) vwCl (ac_ty cA) := ⟨F.1, F.2.1, fun w h => F.2.2.1 w (List.mem_cons_of_mem _ h), F.2.2.2.1, F.2.2.2.2⟩
  have hl : lv_has ls 3 [(0, .ref (ad 85)), (1, .int p0), (2, .int p1)] := hl
  have hF : ac_Fr [(85, some 4), (85, some 11), (85, some 12), (85, some 13), (85, some 14), (85, some 15), (85, some 16), (85, some 18)] u0 u0 := ac_Fr.rf
  refine lv_aload_n F.1 F.2.1 dX12_takes_0 rfl (lv_at hl 0 rfl) ?_
  have g1 : (0 : Int) ≤ (u0.1 85 11).toInt ∧ (u0.1 85 11).toInt ≤ 4 := hR 85 11
  refine a_geti F inX12 hP 85 11 tc_85 rfl rfl (by decide) q1482 (fun _ h9 => h9) (v := (u0.1 85 11)) rfl dX12_takes_1 ?_
  refine a_ic F (2 : Int32) dX12_takes_4 (by decide) ?_
  refine b_eq F 14 dX12_takes_5 (by decide) rfl ic_2 (fun c2 => ?_) (fun c2 => ?_)
  · refine lv_aload_n F.1 F.2.1 dX12_takes_14 rfl (lv_at hl 0 rfl) ?_
    refine a_geti F inX12 hP 85 14 tc_85 rfl rfl (by decide) q1485 (fun _ h9 => h9) (v := (u0.1 85 14)) rfl dX12_takes_15 ?_
    refine lv_iload_n F.1 F.2.1 dX12_takes_18 rfl (lv_at hl 1 rfl) ?_
    refine lv_iload_n F.1 F.2.1 dX12_takes_19 rfl (lv_at hl 2 rfl) ?_
    refine a_Si F hml hl.1 hA hP hD hS (As := [.int (u0.1 85 14), .int p0, .int p1]) (c_X12_isIn l dC dI ad cA nF _ (u0.1 85 14) p0 p1 hR (by omega)) (cs_RX12_187 (d := 1) F.2.2.1 (by decide)) rfl rfl (Nat.le_of_ble_eq_true rfl) dX12_takes_20 ⟨Nat.le_refl 0, Nat.le_refl 0⟩ (fun r3 uN3 H locs hq hP hD hS => ?_)
    obtain ⟨hu3, gr3, xr3⟩ := hq
    rw [hu3] at hP hD
    have xr3 : r3.toInt ≠ 0 → p0.toInt ≤ (u0.1 85 14).toInt ∧ (u0.1 85 14).toInt ≤ p1.toInt := xr3
    refine z_ne F 32 dX12_takes_23 (by decide) rfl (fun c4 => ?_) (fun c4 => ?_)
    · refine lv_aload_n F.1 F.2.1 dX12_takes_32 rfl (lv_at hl 0 rfl) ?_
      refine lv_aload_n F.1 F.2.1 dX12_takes_33 rfl (lv_at hl 0 rfl) ?_
      refine a_geti F inX12 hP 85 14 tc_85 rfl rfl (by decide) q1485 (fun _ h9 => h9) (v := (u0.1 85 14)) (rfl) dX12_takes_34 ?_
      refine a_puti F inX12 tyX12 tyX12_ok nmX12 hP hD hS 85 18 tc_85 rfl rfl (by decide) q1489 (fun _ h9 => h9) rfl (ty := .int) (tyX12_ok 18 (by decide)) rfl rfl dX12_takes_37 (fun H locs hP hD hS => ?_)
      have hR := hR.si (c := 85) (k := 18) (v := (u0.1 85 14)) ⟨i_lo _, i_hi _⟩
      have hF := hF.si (c := 85) (k := 18) (v := (u0.1 85 14)) rfl
      refine lv_aload_n F.1 F.2.1 dX12_takes_40 rfl (lv_at hl 0 rfl) ?_
      refine a_Vv F hml hl.1 hA hP hD hS (As := []) (c_X12_next_85 l dC dI ad cA nF _  hR) (cs_RX12_184 (d := 2) F.2.2.1 (by decide)) tc_85 rfl rfl rfl rfl (Nat.le_of_ble_eq_true rfl) dX12_takes_41 ⟨Nat.le_refl 0, Nat.le_refl 0⟩ (fun u5 H locs hq hP hD hS => ?_)
      obtain ⟨hR, hF5⟩ := hq
      have hF := hF.tr hF5 (by decide)
      refine a_ic F (1 : Int32) dX12_takes_44 (by decide) ?_
      have k6 : (u5.1 85 18).toInt = (u0.1 85 14).toInt := congrArg Int32.toInt (show u5.1 85 18 = (u0.1 85 14) from hF5 85 18 rfl)
      exact a_retz F hr hlocks hP hD hS dX12_takes_45 (Or.inr rfl) ⟨hR, hF, (by decide), (by first | exact (by omega : (1 : Int) ≠ 0 → p0.toInt ≤ (u5.1 85 18).toInt ∧ (u5.1 85 18).toInt ≤ p1.toInt) | (rw [ic_1]; exact (by omega : (1 : Int) ≠ 0 → p0.toInt ≤ (u5.1 85 18).toInt ∧ (u5.1 85 18).toInt ≤ p1.toInt)))⟩
    · refine lv_aload_n F.1 F.2.1 dX12_takes_26 rfl (lv_at hl 0 rfl) ?_
      refine a_ic F (2 : Int32) dX12_takes_27 (by decide) ?_
      refine a_Vi F hml hl.1 hA hP hD hS (As := [.int (2 : Int32)]) (c_X12_bad_85 l dC dI ad cA nF _ (2 : Int32) hR (by decide)) (cs_RX12_181 (d := 1) F.2.2.1 (by decide)) tc_85 rfl rfl rfl rfl (Nat.le_of_ble_eq_true rfl) dX12_takes_28 ⟨Nat.le_refl 0, Nat.le_refl 0⟩ (fun r7 u7 H locs hq hP hD hS => ?_)
      obtain ⟨hR, hF7, gr7⟩ := hq
      have hF := hF.tr hF7 (by decide)
      exact a_retz F hr hlocks hP hD hS dX12_takes_31 (i_01 (by omega)) ⟨hR, hF, (by omega : (0 : Int) ≤ r7.toInt ∧ r7.toInt ≤ 1), (by omega : r7.toInt ≠ 0 → p0.toInt ≤ (u7.1 85 18).toInt ∧ (u7.1 85 18).toInt ≤ p1.toInt)⟩
  · refine lv_aload_n F.1 F.2.1 dX12_takes_8 rfl (lv_at hl 0 rfl) ?_
    refine a_ic F (1 : Int32) dX12_takes_9 (by decide) ?_
    refine a_Vi F hml hl.1 hA hP hD hS (As := [.int (1 : Int32)]) (c_X12_bad_85 l dC dI ad cA nF _ (1 : Int32) hR (by decide)) (cs_RX12_181 (d := 1) F.2.2.1 (by decide)) tc_85 rfl rfl rfl rfl (Nat.le_of_ble_eq_true rfl) dX12_takes_10 ⟨Nat.le_refl 0, Nat.le_refl 0⟩ (fun r8 u8 H locs hq hP hD hS => ?_)
    obtain ⟨hR, hF8, gr8⟩ := hq
    have hF := hF.tr hF8 (by decide)
    exact a_retz F hr hlocks hP hD hS dX12_takes_13 (i_01 (by omega)) ⟨hR, hF, (by omega : (0 : Int) ≤ r8.toInt ∧ r8.toInt ≤ 1), (by omega : r8.toInt ≠ 0 → p0.toInt ≤ (u8.1 85 18).toInt ∧ (u8.1 85 18).toInt ≤ p1.toInt)⟩
set_option maxHeartbeats 600000 in
set_option maxRecDepth 100000 in
theorem c_X12_takesName_85 (l : Launch) (dC : Nat → ClassId) (dI : Nat → Nat → Nat) (ad : Nat → Nat) (cA : Nat → ClassId) (nF : Nat) (u0 : ac_U) (p0 : Int32) (p1 : Int32) (hR : ac_R rg u0) (hp0 : (0 : Int) ≤ p0.toInt ∧ p0.toInt ≤ 44) (hp1 : (0 : Int) ≤ p1.toInt ∧ p1.toInt ≤ 12) (hh0 : p0.toInt + p1.toInt ≤ 52) : ac_Mi l yX12_takesName (.code yX12_takesName cX12_takesName 3 (some .boolean) :: TB) 3 (dC, dI) vwCl (ac_ty cA) ad cA (TT nF) [.ref (ad 85), .int p0, .int p1] u0 (fun (r : Int32) (u : ac_U) => ac_R rg u ∧ ac_Fr [(85, some 4), (85, some 11), (85, some 12), (85, some 13), (85, some 14), (85, some 15), (85, some 16), (85, some 18)] u0 u ∧ ((0 : Int) ≤ r.toInt ∧ r.toInt ≤ 1) ∧ (r.toInt ≠ 0 → 0 ≤ (u.1 85 18).toInt ∧ (u.1 85 18).toInt < p1.toInt)) := by
  refine ac_Mi.of (cc := cX12_takesName) (maxL := 3) (ret := (some .boolean)) (by decide) rfl (Nat.le_of_ble_eq_true rfl) ?_
  intro p e s m below meth c A ls F hml hr hlocks hA hP hD hS hl
  have F : ac_X p s m [.ref (ad 85), .int p0, .int p1].toArray c cX12_takesName RX12 TB (dC, dI) vwCl (ac_ty cA) := ⟨F.1, F.2.1, fun w h => F.2.2.1 w (List.mem_cons_of_mem _ h), F.2.2.2.1, F.2.2.2.2⟩
  have hl : lv_has ls 3 [(0, .ref (ad 85)), (1, .int p0), (2, .int p1)] := hl
  have hF : ac_Fr [(85, some 4), (85, some 11), (85, some 12), (85, some 13), (85, some 14), (85, some 15), (85, some 16), (85, some 18)] u0 u0 := ac_Fr.rf
  refine lv_aload_n F.1 F.2.1 dX12_takesName_0 rfl (lv_at hl 0 rfl) ?_
  refine lv_iload_n F.1 F.2.1 dX12_takesName_1 rfl (lv_at hl 1 rfl) ?_
  refine lv_iload_n F.1 F.2.1 dX12_takesName_2 rfl (lv_at hl 2 rfl) ?_
  refine a_Vi F hml hl.1 hA hP hD hS (As := [.int p0, .int p1]) (c_X12_looksAt_85 l dC dI ad cA nF _ p0 p1 hR (by omega) (by omega) (by omega)) (cs_RX12_202 (d := 2) F.2.2.1 (by decide)) tc_85 rfl rfl rfl rfl (Nat.le_of_ble_eq_true rfl) dX12_takesName_3 ⟨Nat.le_refl 0, Nat.le_refl 0⟩ (fun r1 u1 H locs hq hP hD hS => ?_)
  obtain ⟨hR, hF1, gr1, xr1⟩ := hq
  have hF := hF.tr hF1 (by decide)
  have xr1 : r1.toInt ≠ 0 → 0 ≤ (u1.1 85 18).toInt ∧ (u1.1 85 18).toInt < p1.toInt := xr1
  refine z_ne F 11 dX12_takesName_6 (by decide) rfl (fun c2 => ?_) (fun c2 => ?_)
  · refine lv_aload_n F.1 F.2.1 dX12_takesName_11 rfl (lv_at hl 0 rfl) ?_
    refine a_Vv F hml hl.1 hA hP hD hS (As := []) (c_X12_next_85 l dC dI ad cA nF _  hR) (cs_RX12_184 (d := 2) F.2.2.1 (by decide)) tc_85 rfl rfl rfl rfl (Nat.le_of_ble_eq_true rfl) dX12_takesName_12 ⟨Nat.le_refl 0, Nat.le_refl 0⟩ (fun u3 H locs hq hP hD hS => ?_)
    obtain ⟨hR, hF3⟩ := hq
    have hF := hF.tr hF3 (by decide)
    refine a_ic F (1 : Int32) dX12_takesName_15 (by decide) ?_
    have k4 : (u3.1 85 18).toInt = (u1.1 85 18).toInt := congrArg Int32.toInt (show u3.1 85 18 = (u1.1 85 18) from hF3 85 18 rfl)
    exact a_retz F hr hlocks hP hD hS dX12_takesName_16 (Or.inr rfl) ⟨hR, hF, (by decide), (by first | exact (by omega : (1 : Int) ≠ 0 → 0 ≤ (u3.1 85 18).toInt ∧ (u3.1 85 18).toInt < p1.toInt) | (rw [ic_1]; exact (by omega : (1 : Int) ≠ 0 → 0 ≤ (u3.1 85 18).toInt ∧ (u3.1 85 18).toInt < p1.toInt)))⟩
  · refine a_ic F (0 : Int32) dX12_takesName_9 (by decide) ?_
    exact a_retz F hr hlocks hP hD hS dX12_takesName_10 (Or.inl rfl) ⟨hR, hF, (by decide), (by first | exact (by omega : (0 : Int) ≠ 0 → 0 ≤ (u1.1 85 18).toInt ∧ (u1.1 85 18).toInt < p1.toInt) | (rw [ic_0]; exact (by omega : (0 : Int) ≠ 0 → 0 ≤ (u1.1 85 18).toInt ∧ (u1.1 85 18).toInt < p1.toInt)))⟩
set_option maxHeartbeats 600000 in
set_option maxRecDepth 100000 in
theorem c_X12_booked_85 (l : Launch) (dC : Nat → ClassId) (dI : Nat → Nat → Nat) (ad : Nat → Nat) (cA : Nat → ClassId) (nF : Nat) (u0 : ac_U) (p0 : Int32) (hR : ac_R rg u0) : ac_Mi l yX12_booked (.code yX12_booked cX12_booked 2 (some .int) :: TB) 2 (dC, dI) vwCl (ac_ty cA) ad cA (TT nF) [.ref (ad 85), .int p0] u0 (fun (r : Int32) (u : ac_U) => ac_R rg u ∧ ac_Fr [(85, some 0)] u0 u) := by
  refine ac_Mi.of (cc := cX12_booked) (maxL := 2) (ret := (some .int)) (by decide) rfl (Nat.le_of_ble_eq_true rfl) ?_
  intro p e s m below meth c A ls F hml hr hlocks hA hP hD hS hl
  have F : ac_X p s m [.ref (ad 85), .int p0].toArray c cX12_booked RX12 TB (dC, dI) vwCl (ac_ty cA) := ⟨F.1, F.2.1, fun w h => F.2.2.1 w (List.mem_cons_of_mem _ h), F.2.2.2.1, F.2.2.2.2⟩
  have hl : lv_has ls 2 [(0, .ref (ad 85)), (1, .int p0)] := hl
  have hF : ac_Fr [(85, some 0)] u0 u0 := ac_Fr.rf
  have L30 : ∀ (u : ac_U) (H : Heap) (locs : List Loc) (ls : Array Slot), ac_R rg u → ac_Fr [(85, some 0)] u0 u → (0 : Int) ≤ (u.1 85 0).toInt ∧ (u.1 85 0).toInt ≤ 0 → (0 : Int) ≤ (u.1 85 37).toInt ∧ (u.1 85 37).toInt ≤ 1 → va_P (dC, dI) vwCl (ac_w ad cA (TT nF) u) H → va_D A (ac_w ad cA (TT nF) u) → va_S A s.heap H locs → lv_has ls 2 [] → W p l e (ac_rm 2) s m [.ref (ad 85), .int p0].toArray below meth c H locs 0 0 (MQ below (va_Qi (fun (r : Int32) (u : ac_U) => ac_R rg u ∧ ac_Fr [(85, some 0)] u0 u) (ac_B (dC, dI) vwCl (ac_ty cA) ad cA (TT nF) A) A) [.ref (ad 85), .int p0].toArray s 0 0 A) (F0 m 30 ls []) := by
    intro u H locs ls hR hF f0 f1 hP hD hS hl
    refine a_ic F (-1 : Int32) dX12_booked_30 (by decide) ?_
    exact a_reti F hr hlocks hP hD hS dX12_booked_31 ⟨hR, hF⟩
  refine lv_aload_n F.1 F.2.1 dX12_booked_0 rfl (lv_at hl 0 rfl) ?_
  refine a_ic F (0 : Int32) dX12_booked_1 (by decide) ?_
  refine a_puti F inX12 tyX12 tyX12_ok nmX12 hP hD hS 85 0 tc_85 rfl rfl (by decide) q1471 (fun _ h9 => h9) rfl (ty := .int) (tyX12_ok 0 (by decide)) rfl rfl dX12_booked_2 (fun H locs hP hD hS => ?_)
  have hR := hR.si (c := 85) (k := 0) (v := (0 : Int32)) (by rw [ic_0]; exact (by omega : (0 : Int) ≤ (0 : Int) ∧ (0 : Int) ≤ 1))
  have hF := hF.si (c := 85) (k := 0) (v := (0 : Int32)) rfl
  refine lv_aload_n F.1 F.2.1 dX12_booked_5 rfl (lv_at hl 0 rfl) ?_
  have g1 : (0 : Int) ≤ (u0.1 85 37).toInt ∧ (u0.1 85 37).toInt ≤ 1 := hR 85 37
  refine a_geti F inX12 hP 85 37 tc_85 rfl rfl (by decide) q1508 (fun _ h9 => h9) (v := (u0.1 85 37)) rfl dX12_booked_6 ?_
  refine z_eq F 30 dX12_booked_9 (by decide) rfl (fun c2 => ?_) (fun c2 => ?_)
  · exact L30 _ _ _ _ hR hF (by omega : (0 : Int) ≤ (0 : Int) ∧ (0 : Int) ≤ 0) (by omega : (0 : Int) ≤ (u0.1 85 37).toInt ∧ (u0.1 85 37).toInt ≤ 1) hP hD hS (lv_sub hl [] rfl)
  · refine lv_iload_n F.1 F.2.1 dX12_booked_12 rfl (lv_at hl 1 rfl) ?_
    refine a_ic F (0 : Int32) dX12_booked_13 (by decide) ?_
    refine a_ic F (3 : Int32) dX12_booked_14 (by decide) ?_
    refine a_Si F hml hl.1 hA hP hD hS (As := [.int p0, .int (0 : Int32), .int (3 : Int32)]) (c_X12_isIn l dC dI ad cA nF _ p0 (0 : Int32) (3 : Int32) hR (by decide)) (cs_RX12_187 (d := 1) F.2.2.1 (by decide)) rfl rfl (Nat.le_of_ble_eq_true rfl) dX12_booked_15 ⟨Nat.le_refl 0, Nat.le_refl 0⟩ (fun r3 uN3 H locs hq hP hD hS => ?_)
    obtain ⟨hu3, gr3, xr3⟩ := hq
    rw [hu3] at hP hD
    have xr3 : r3.toInt ≠ 0 → (0 : Int) ≤ p0.toInt ∧ p0.toInt ≤ (3 : Int) := xr3
    refine z_eq F 30 dX12_booked_18 (by decide) rfl (fun c4 => ?_) (fun c4 => ?_)
    · exact L30 _ _ _ _ hR hF (by omega : (0 : Int) ≤ (0 : Int) ∧ (0 : Int) ≤ 0) (by omega : (0 : Int) ≤ (u0.1 85 37).toInt ∧ (u0.1 85 37).toInt ≤ 1) hP hD hS (lv_sub hl [] rfl)
    · refine lv_aload_n F.1 F.2.1 dX12_booked_21 rfl (lv_at hl 0 rfl) ?_
      refine a_getr F inX12 hP 85 36 tc_85 rfl rfl (by decide) q1507 (fun _ h9 => h9) dX12_booked_22 ?_
      refine lv_iload_n F.1 F.2.1 dX12_booked_25 rfl (lv_at hl 1 rfl) ?_
      refine a_iald F hP 99 tc_99 rfl (i_in rfl (by omega)) dX12_booked_26 (fun v5 ev5 => ?_)
      refine lv_goto (tgt := 31) F.1 F.2.1 dX12_booked_27 (by decide) ?_
      exact a_reti F hr hlocks hP hD hS dX12_booked_31 ⟨hR, hF⟩
set_option maxHeartbeats 600000 in
set_option maxRecDepth 100000 in
theorem c_X12_breach_85 (l : Launch) (dC : Nat → ClassId) (dI : Nat → Nat → Nat) (ad : Nat → Nat) (cA : Nat → ClassId) (nF : Nat) (u0 : ac_U) (p0 : Int32) (p1 : Int32) (hR : ac_R rg u0) : ac_Mi l yX12_breach (.code yX12_breach cX12_breach 8 (some .int) :: TB) 6 (dC, dI) vwCl (ac_ty cA) ad cA (TT nF) [.ref (ad 85), .int p0, .int p1] u0 (fun (r : Int32) (u : ac_U) => ac_R rg u ∧ ac_Fr [(85, some 0)] u0 u ∧ ((-1 : Int) ≤ r.toInt ∧ r.toInt ≤ 19)) := by
  refine ac_Mi.of (cc := cX12_breach) (maxL := 8) (ret := (some .int)) (by decide) rfl (Nat.le_of_ble_eq_true rfl) ?_
  intro p e s m below meth c A ls F hml hr hlocks hA hP hD hS hl
  have F : ac_X p s m [.ref (ad 85), .int p0, .int p1].toArray c cX12_breach RX12 TB (dC, dI) vwCl (ac_ty cA) := ⟨F.1, F.2.1, fun w h => F.2.2.1 w (List.mem_cons_of_mem _ h), F.2.2.2.1, F.2.2.2.2⟩
  have hl : lv_has ls 8 [(0, .ref (ad 85)), (1, .int p0), (2, .int p1)] := hl
  have hF : ac_Fr [(85, some 0)] u0 u0 := ac_Fr.rf
  have L35 : ∀ (n35 : Nat) (x3 : Int32) (x4 : Int32) (x5 : Int32) (x6 : Int32) (u : ac_U) (H : Heap) (locs : List Loc) (ls : Array Slot), ac_R rg u → ac_Fr [(85, some 0)] u0 u → 8 - x6.toInt < (n35 : Int) → (0 : Int) ≤ p0.toInt ∧ p0.toInt ≤ 7 → (0 : Int) ≤ p1.toInt ∧ p1.toInt ≤ 1 → (-1 : Int) ≤ x3.toInt ∧ x3.toInt ≤ 19 → (-1 : Int) ≤ x4.toInt ∧ x4.toInt ≤ 19 → (0 : Int) ≤ x6.toInt ∧ x6.toInt ≤ 8 → (0 : Int) ≤ (u.1 85 0).toInt ∧ (u.1 85 0).toInt ≤ 0 → va_P (dC, dI) vwCl (ac_w ad cA (TT nF) u) H → va_D A (ac_w ad cA (TT nF) u) → va_S A s.heap H locs → lv_has ls 8 [(0, .ref (ad 85)), (1, .int p0), (2, .int p1), (3, .int x3), (4, .int x4), (5, .int x5), (6, .int x6)] → W p l e (ac_rm 6) s m [.ref (ad 85), .int p0, .int p1].toArray below meth c H locs 0 0 (MQ below (va_Qi (fun (r : Int32) (u : ac_U) => ac_R rg u ∧ ac_Fr [(85, some 0)] u0 u ∧ ((-1 : Int) ≤ r.toInt ∧ r.toInt ≤ 19)) (ac_B (dC, dI) vwCl (ac_ty cA) ad cA (TT nF) A) A) [.ref (ad 85), .int p0, .int p1].toArray s 0 0 A) (F0 m 35 ls []) := by
    intro n35
    induction n35 with
    | zero => intro x3 x4 x5 x6 u H locs ls hR hF hn35 f0 f1 f2 f3 f4 f5 hP hD hS hl; exfalso; omega
    | succ n35 ih35 =>
      intro x3 x4 x5 x6 u H locs ls hR hF hn35 f0 f1 f2 f3 f4 f5 hP hD hS hl
      have L95 : ∀ (x3 : Int32) (x4 : Int32) (x5 : Int32) (x6 : Int32) (u : ac_U) (H : Heap) (locs : List Loc) (ls : Array Slot), ac_R rg u → ac_Fr [(85, some 0)] u0 u → (0 : Int) ≤ p0.toInt ∧ p0.toInt ≤ 7 → (0 : Int) ≤ p1.toInt ∧ p1.toInt ≤ 1 → (-1 : Int) ≤ x3.toInt ∧ x3.toInt ≤ 19 → (-1 : Int) ≤ x4.toInt ∧ x4.toInt ≤ 19 → (0 : Int) ≤ x6.toInt ∧ x6.toInt ≤ 7 → (0 : Int) ≤ (u.1 85 0).toInt ∧ (u.1 85 0).toInt ≤ 0 → 8 - x6.toInt + 0 < ((n35 : Nat) : Int) + 1 → va_P (dC, dI) vwCl (ac_w ad cA (TT nF) u) H → va_D A (ac_w ad cA (TT nF) u) → va_S A s.heap H locs → lv_has ls 8 [(0, .ref (ad 85)), (1, .int p0), (2, .int p1), (3, .int x3), (4, .int x4), (5, .int x5), (6, .int x6)] → W p l e (ac_rm 6) s m [.ref (ad 85), .int p0, .int p1].toArray below meth c H locs 0 0 (MQ below (va_Qi (fun (r : Int32) (u : ac_U) => ac_R rg u ∧ ac_Fr [(85, some 0)] u0 u ∧ ((-1 : Int) ≤ r.toInt ∧ r.toInt ≤ 19)) (ac_B (dC, dI) vwCl (ac_ty cA) ad cA (TT nF) A) A) [.ref (ad 85), .int p0, .int p1].toArray s 0 0 A) (F0 m 95 ls []) := by
        intro x3 x4 x5 x6 u H locs ls hR hF f0 f1 f2 f3 f4 f5 f6 hP hD hS hl
        refine a_iinc F (k := 6) (fun v1 => [(6, .int v1), (0, .ref (ad 85)), (1, .int p0), (2, .int p1), (3, .int x3), (4, .int x4), (5, .int x5)]) dX12_breach_95 hl rfl rfl (by decide) (by omega) (by decide) (fun _ => rfl) (fun v1 ls hv1 hl => ?_)
        refine lv_goto (tgt := 35) F.1 F.2.1 dX12_breach_98 (by decide) ?_
        have g2 : (0 : Int) ≤ (u.1 85 0).toInt ∧ (u.1 85 0).toInt ≤ 1 := hR 85 0
        exact ih35 x3 x4 x5 v1 _ _ _ _ hR hF (by omega) (by omega) (by omega) (by omega) (by omega) (by omega) (by omega : (0 : Int) ≤ (u.1 85 0).toInt ∧ (u.1 85 0).toInt ≤ 0) hP hD hS (lv_sub hl [1, 2, 3, 4, 5, 6, 0] rfl)
      have L93 : ∀ (x3 : Int32) (x5 : Int32) (x6 : Int32) (z0 : Int32) (u : ac_U) (H : Heap) (locs : List Loc) (ls : Array Slot), ac_R rg u → ac_Fr [(85, some 0)] u0 u → (0 : Int) ≤ p0.toInt ∧ p0.toInt ≤ 7 → (0 : Int) ≤ p1.toInt ∧ p1.toInt ≤ 1 → (0 : Int) ≤ x3.toInt ∧ x3.toInt ≤ 19 → (0 : Int) ≤ x6.toInt ∧ x6.toInt ≤ 7 → (0 : Int) ≤ z0.toInt ∧ z0.toInt ≤ 19 → (0 : Int) ≤ (u.1 85 0).toInt ∧ (u.1 85 0).toInt ≤ 0 → 8 - x6.toInt + 0 < ((n35 : Nat) : Int) + 1 → va_P (dC, dI) vwCl (ac_w ad cA (TT nF) u) H → va_D A (ac_w ad cA (TT nF) u) → va_S A s.heap H locs → lv_has ls 8 [(0, .ref (ad 85)), (1, .int p0), (2, .int p1), (3, .int x3), (5, .int x5), (6, .int x6)] → W p l e (ac_rm 6) s m [.ref (ad 85), .int p0, .int p1].toArray below meth c H locs 0 0 (MQ below (va_Qi (fun (r : Int32) (u : ac_U) => ac_R rg u ∧ ac_Fr [(85, some 0)] u0 u ∧ ((-1 : Int) ≤ r.toInt ∧ r.toInt ≤ 19)) (ac_B (dC, dI) vwCl (ac_ty cA) ad cA (TT nF) A) A) [.ref (ad 85), .int p0, .int p1].toArray s 0 0 A) (F0 m 93 ls [.int z0]) := by
        intro x3 x5 x6 z0 u H locs ls hR hF f0 f1 f2 f3 f4 f5 f6 hP hD hS hl
        refine lv_istore (lv' := [(4, .int z0), (0, .ref (ad 85)), (1, .int p0), (2, .int p1), (3, .int x3), (5, .int x5), (6, .int x6)]) F.1 F.2.1 dX12_breach_93 hl (by decide) rfl (fun ls hl => ?_)
        have g3 : (0 : Int) ≤ (u.1 85 0).toInt ∧ (u.1 85 0).toInt ≤ 1 := hR 85 0
        exact L95 x3 z0 x5 x6 _ _ _ _ hR hF (by omega) (by omega) (by omega) (by omega) (by omega) (by omega : (0 : Int) ≤ (u.1 85 0).toInt ∧ (u.1 85 0).toInt ≤ 0) (by omega) hP hD hS (lv_sub hl [1, 2, 3, 4, 0, 5, 6] rfl)
      have L78 : ∀ (x4 : Int32) (x5 : Int32) (x6 : Int32) (x7 : Int32) (z0 : Int32) (u : ac_U) (H : Heap) (locs : List Loc) (ls : Array Slot), ac_R rg u → ac_Fr [(85, some 0)] u0 u → (0 : Int) ≤ p0.toInt ∧ p0.toInt ≤ 7 → (0 : Int) ≤ p1.toInt ∧ p1.toInt ≤ 1 → (-1 : Int) ≤ x4.toInt ∧ x4.toInt ≤ 19 → (0 : Int) ≤ x6.toInt ∧ x6.toInt ≤ 7 → (0 : Int) ≤ x7.toInt ∧ x7.toInt ≤ 19 → (0 : Int) ≤ z0.toInt ∧ z0.toInt ≤ 19 → (0 : Int) ≤ (u.1 85 0).toInt ∧ (u.1 85 0).toInt ≤ 0 → 8 - x6.toInt + 0 < ((n35 : Nat) : Int) + 1 → va_P (dC, dI) vwCl (ac_w ad cA (TT nF) u) H → va_D A (ac_w ad cA (TT nF) u) → va_S A s.heap H locs → lv_has ls 8 [(0, .ref (ad 85)), (1, .int p0), (2, .int p1), (4, .int x4), (5, .int x5), (6, .int x6), (7, .int x7)] → W p l e (ac_rm 6) s m [.ref (ad 85), .int p0, .int p1].toArray below meth c H locs 0 0 (MQ below (va_Qi (fun (r : Int32) (u : ac_U) => ac_R rg u ∧ ac_Fr [(85, some 0)] u0 u ∧ ((-1 : Int) ≤ r.toInt ∧ r.toInt ≤ 19)) (ac_B (dC, dI) vwCl (ac_ty cA) ad cA (TT nF) A) A) [.ref (ad 85), .int p0, .int p1].toArray s 0 0 A) (F0 m 78 ls [.int z0]) := by
        intro x4 x5 x6 x7 z0 u H locs ls hR hF f0 f1 f2 f3 f4 f5 f6 f7 hP hD hS hl
        refine lv_istore_n (lv' := [(3, .int z0), (0, .ref (ad 85)), (1, .int p0), (2, .int p1), (4, .int x4), (5, .int x5), (6, .int x6), (7, .int x7)]) F.1 F.2.1 dX12_breach_78 rfl hl (by decide) rfl (fun ls hl => ?_)
        refine lv_iload F.1 F.2.1 dX12_breach_79 (lv_at hl 7 rfl) ?_
        refine lv_iload F.1 F.2.1 dX12_breach_81 (lv_at hl 4 rfl) ?_
        refine b_le F 91 dX12_breach_83 (by decide) rfl rfl (fun c4 => ?_) (fun c4 => ?_)
        · refine lv_iload F.1 F.2.1 dX12_breach_91 (lv_at hl 4 rfl) ?_
          have g5 : (0 : Int) ≤ (u.1 85 0).toInt ∧ (u.1 85 0).toInt ≤ 1 := hR 85 0
          exact L93 z0 x5 x6 x4 _ _ _ _ hR hF (by omega) (by omega) (by omega) (by omega) (by omega) (by omega : (0 : Int) ≤ (u.1 85 0).toInt ∧ (u.1 85 0).toInt ≤ 0) (by omega) hP hD hS (lv_sub hl [1, 2, 3, 0, 5, 6] rfl)
        · refine lv_iload F.1 F.2.1 dX12_breach_86 (lv_at hl 7 rfl) ?_
          refine lv_goto (tgt := 93) F.1 F.2.1 dX12_breach_88 (by decide) ?_
          have g6 : (0 : Int) ≤ (u.1 85 0).toInt ∧ (u.1 85 0).toInt ≤ 1 := hR 85 0
          exact L93 z0 x5 x6 x7 _ _ _ _ hR hF (by omega) (by omega) (by omega) (by omega) (by omega) (by omega : (0 : Int) ≤ (u.1 85 0).toInt ∧ (u.1 85 0).toInt ≤ 0) (by omega) hP hD hS (lv_sub hl [1, 2, 3, 0, 5, 6] rfl)
      have L72 : ∀ (x4 : Int32) (x5 : Int32) (x6 : Int32) (x7 : Int32) (u : ac_U) (H : Heap) (locs : List Loc) (ls : Array Slot), ac_R rg u → ac_Fr [(85, some 0)] u0 u → (0 : Int) ≤ p0.toInt ∧ p0.toInt ≤ 7 → (0 : Int) ≤ p1.toInt ∧ p1.toInt ≤ 1 → (-1 : Int) ≤ x4.toInt ∧ x4.toInt ≤ 19 → (0 : Int) ≤ x6.toInt ∧ x6.toInt ≤ 7 → (0 : Int) ≤ x7.toInt ∧ x7.toInt ≤ 19 → (0 : Int) ≤ (u.1 85 0).toInt ∧ (u.1 85 0).toInt ≤ 0 → 8 - x6.toInt + 0 < ((n35 : Nat) : Int) + 1 → va_P (dC, dI) vwCl (ac_w ad cA (TT nF) u) H → va_D A (ac_w ad cA (TT nF) u) → va_S A s.heap H locs → lv_has ls 8 [(0, .ref (ad 85)), (1, .int p0), (2, .int p1), (4, .int x4), (5, .int x5), (6, .int x6), (7, .int x7)] → W p l e (ac_rm 6) s m [.ref (ad 85), .int p0, .int p1].toArray below meth c H locs 0 0 (MQ below (va_Qi (fun (r : Int32) (u : ac_U) => ac_R rg u ∧ ac_Fr [(85, some 0)] u0 u ∧ ((-1 : Int) ≤ r.toInt ∧ r.toInt ≤ 19)) (ac_B (dC, dI) vwCl (ac_ty cA) ad cA (TT nF) A) A) [.ref (ad 85), .int p0, .int p1].toArray s 0 0 A) (F0 m 72 ls []) := by
        intro x4 x5 x6 x7 u H locs ls hR hF f0 f1 f2 f3 f4 f5 f6 hP hD hS hl
        refine lv_iload F.1 F.2.1 dX12_breach_72 (lv_at hl 6 rfl) ?_
        refine lv_goto (tgt := 78) F.1 F.2.1 dX12_breach_74 (by decide) ?_
        have g7 : (0 : Int) ≤ (u.1 85 0).toInt ∧ (u.1 85 0).toInt ≤ 1 := hR 85 0
        exact L78 x4 x5 x6 x7 x7 _ _ _ _ hR hF (by omega) (by omega) (by omega) (by omega) (by omega) (by omega) (by omega : (0 : Int) ≤ (u.1 85 0).toInt ∧ (u.1 85 0).toInt ≤ 0) (by omega) hP hD hS (lv_sub hl [0, 1, 2, 3, 4, 5, 6] rfl)
      refine lv_iload F.1 F.2.1 dX12_breach_35 (lv_at hl 6 rfl) ?_
      refine a_bp F (8 : Int32) dX12_breach_37 (by decide) ?_
      refine b_ge F 101 dX12_breach_39 (by decide) rfl ic_8 (fun c8 => ?_) (fun c8 => ?_)
      · refine lv_iload_n F.1 F.2.1 dX12_breach_101 rfl (lv_at hl 2 rfl) ?_
        refine z_ne F 109 dX12_breach_102 (by decide) rfl (fun c9 => ?_) (fun c9 => ?_)
        · refine lv_iload F.1 F.2.1 dX12_breach_109 (lv_at hl 5 rfl) ?_
          refine a_bp F (8 : Int32) dX12_breach_111 (by decide) ?_
          refine b_ne F 121 dX12_breach_113 (by decide) rfl ic_8 (fun c10 => ?_) (fun c10 => ?_)
          · refine a_ic F (-1 : Int32) dX12_breach_121 (by decide) ?_
            exact a_reti F hr hlocks hP hD hS dX12_breach_122 ⟨hR, hF, (by decide)⟩
          · refine lv_iload F.1 F.2.1 dX12_breach_116 (lv_at hl 4 rfl) ?_
            refine lv_goto (tgt := 122) F.1 F.2.1 dX12_breach_118 (by decide) ?_
            exact a_reti F hr hlocks hP hD hS dX12_breach_122 ⟨hR, hF, (by omega : (-1 : Int) ≤ x4.toInt ∧ x4.toInt ≤ 19)⟩
        · refine lv_iload_n F.1 F.2.1 dX12_breach_105 rfl (lv_at hl 3 rfl) ?_
          refine lv_goto (tgt := 122) F.1 F.2.1 dX12_breach_106 (by decide) ?_
          exact a_reti F hr hlocks hP hD hS dX12_breach_122 ⟨hR, hF, (by omega : (-1 : Int) ≤ x3.toInt ∧ x3.toInt ≤ 19)⟩
      · refine lv_aload_n F.1 F.2.1 dX12_breach_42 rfl (lv_at hl 0 rfl) ?_
        refine lv_iload_n F.1 F.2.1 dX12_breach_43 rfl (lv_at hl 1 rfl) ?_
        refine lv_iload F.1 F.2.1 dX12_breach_44 (lv_at hl 6 rfl) ?_
        refine a_Vi F hml hl.1 hA hP hD hS (As := [.int p0, .int x6]) (c_X12_brokenOf_85 l dC dI ad cA nF _ p0 x6 hR (by omega) (by omega)) (cs_RX12_314 (d := 5) F.2.2.1 (by decide)) tc_85 rfl rfl rfl rfl (Nat.le_of_ble_eq_true rfl) dX12_breach_46 ⟨Nat.le_refl 0, Nat.le_refl 0⟩ (fun r11 uN11 H locs hq hP hD hS => ?_)
        obtain ⟨hu11, gr11⟩ := hq
        rw [hu11] at hP hD
        refine lv_istore (lv' := [(7, .int r11), (0, .ref (ad 85)), (1, .int p0), (2, .int p1), (3, .int x3), (4, .int x4), (5, .int x5), (6, .int x6)]) F.1 F.2.1 dX12_breach_49 hl (by decide) rfl (fun ls hl => ?_)
        refine lv_iload F.1 F.2.1 dX12_breach_51 (lv_at hl 0 rfl) ?_
        refine z_ge F 59 dX12_breach_53 (by decide) rfl (fun c12 => ?_) (fun c12 => ?_)
        · refine a_iincU F (k := 6) (fun v13 => [(5, .int v13), (7, .int r11), (0, .ref (ad 85)), (1, .int p0), (2, .int p1), (3, .int x3), (4, .int x4), (6, .int x6)]) dX12_breach_59 hl rfl (by decide) (fun _ => rfl) (fun v13 ls hl => ?_)
          refine lv_iload_n F.1 F.2.1 dX12_breach_62 rfl (lv_at hl 5 rfl) ?_
          refine z_lt F 72 dX12_breach_63 (by decide) rfl (fun c14 => ?_) (fun c14 => ?_)
          · have g15 : (0 : Int) ≤ (u.1 85 0).toInt ∧ (u.1 85 0).toInt ≤ 1 := hR 85 0
            exact L72 x4 v13 x6 r11 _ _ _ _ hR hF (by omega) (by omega) (by omega) (by omega) (by omega) (by omega : (0 : Int) ≤ (u.1 85 0).toInt ∧ (u.1 85 0).toInt ≤ 0) (by omega) hP hD hS (lv_sub hl [2, 3, 4, 6, 0, 7, 1] rfl)
          · refine lv_iload F.1 F.2.1 dX12_breach_66 (lv_at hl 1 rfl) ?_
            refine lv_iload_n F.1 F.2.1 dX12_breach_68 rfl (lv_at hl 5 rfl) ?_
            refine b_ge F 77 dX12_breach_69 (by decide) rfl rfl (fun c16 => ?_) (fun c16 => ?_)
            · refine lv_iload_n F.1 F.2.1 dX12_breach_77 rfl (lv_at hl 5 rfl) ?_
              have g17 : (0 : Int) ≤ (u.1 85 0).toInt ∧ (u.1 85 0).toInt ≤ 1 := hR 85 0
              exact L78 x4 v13 x6 r11 x3 _ _ _ _ hR hF (by omega) (by omega) (by omega) (by omega) (by omega) (by omega) (by omega : (0 : Int) ≤ (u.1 85 0).toInt ∧ (u.1 85 0).toInt ≤ 0) (by omega) hP hD hS (lv_sub hl [2, 3, 4, 6, 0, 7, 1] rfl)
            · have g18 : (0 : Int) ≤ (u.1 85 0).toInt ∧ (u.1 85 0).toInt ≤ 1 := hR 85 0
              exact L72 x4 v13 x6 r11 _ _ _ _ hR hF (by omega) (by omega) (by omega) (by omega) (by omega) (by omega : (0 : Int) ≤ (u.1 85 0).toInt ∧ (u.1 85 0).toInt ≤ 0) (by omega) hP hD hS (lv_sub hl [2, 3, 4, 6, 0, 7, 1] rfl)
        · refine lv_goto (tgt := 95) F.1 F.2.1 dX12_breach_56 (by decide) ?_
          have g19 : (0 : Int) ≤ (u.1 85 0).toInt ∧ (u.1 85 0).toInt ≤ 1 := hR 85 0
          exact L95 x3 x4 x5 x6 _ _ _ _ hR hF (by omega) (by omega) (by omega) (by omega) (by omega) (by omega : (0 : Int) ≤ (u.1 85 0).toInt ∧ (u.1 85 0).toInt ≤ 0) (by omega) hP hD hS (lv_sub hl [1, 2, 3, 4, 5, 6, 7] rfl)
  have L22 : ∀ (u : ac_U) (H : Heap) (locs : List Loc) (ls : Array Slot), ac_R rg u → ac_Fr [(85, some 0)] u0 u → (0 : Int) ≤ (u.1 85 0).toInt ∧ (u.1 85 0).toInt ≤ 0 → va_P (dC, dI) vwCl (ac_w ad cA (TT nF) u) H → va_D A (ac_w ad cA (TT nF) u) → va_S A s.heap H locs → lv_has ls 8 [] → W p l e (ac_rm 6) s m [.ref (ad 85), .int p0, .int p1].toArray below meth c H locs 0 0 (MQ below (va_Qi (fun (r : Int32) (u : ac_U) => ac_R rg u ∧ ac_Fr [(85, some 0)] u0 u ∧ ((-1 : Int) ≤ r.toInt ∧ r.toInt ≤ 19)) (ac_B (dC, dI) vwCl (ac_ty cA) ad cA (TT nF) A) A) [.ref (ad 85), .int p0, .int p1].toArray s 0 0 A) (F0 m 22 ls []) := by
    intro u H locs ls hR hF f0 hP hD hS hl
    refine a_ic F (-1 : Int32) dX12_breach_22 (by decide) ?_
    exact a_reti F hr hlocks hP hD hS dX12_breach_23 ⟨hR, hF, (by decide)⟩
  refine lv_aload_n F.1 F.2.1 dX12_breach_0 rfl (lv_at hl 0 rfl) ?_
  refine a_ic F (0 : Int32) dX12_breach_1 (by decide) ?_
  refine a_puti F inX12 tyX12 tyX12_ok nmX12 hP hD hS 85 0 tc_85 rfl rfl (by decide) q1471 (fun _ h9 => h9) rfl (ty := .int) (tyX12_ok 0 (by decide)) rfl rfl dX12_breach_2 (fun H locs hP hD hS => ?_)
  have hR := hR.si (c := 85) (k := 0) (v := (0 : Int32)) (by rw [ic_0]; exact (by omega : (0 : Int) ≤ (0 : Int) ∧ (0 : Int) ≤ 1))
  have hF := hF.si (c := 85) (k := 0) (v := (0 : Int32)) rfl
  refine lv_aload_n F.1 F.2.1 dX12_breach_5 rfl (lv_at hl 0 rfl) ?_
  refine lv_iload_n F.1 F.2.1 dX12_breach_6 rfl (lv_at hl 1 rfl) ?_
  refine a_Vi F hml hl.1 hA hP hD hS (As := [.int p0]) (c_X12_isPromise_85 l dC dI ad cA nF _ p0 hR) (cs_RX12_244 (d := 2) F.2.2.1 (by decide)) tc_85 rfl rfl rfl rfl (Nat.le_of_ble_eq_true rfl) dX12_breach_7 ⟨Nat.le_refl 0, Nat.le_refl 0⟩ (fun r20 uN20 H locs hq hP hD hS => ?_)
  obtain ⟨hu20, gr20, xr20⟩ := hq
  rw [hu20] at hP hD
  have xr20 : r20.toInt ≠ 0 → 0 ≤ p0.toInt ∧ p0.toInt ≤ 7 := xr20
  refine z_eq F 22 dX12_breach_10 (by decide) rfl (fun c21 => ?_) (fun c21 => ?_)
  · exact L22 _ _ _ _ hR hF (by omega : (0 : Int) ≤ (0 : Int) ∧ (0 : Int) ≤ 0) hP hD hS (lv_sub hl [] rfl)
  · refine lv_iload_n F.1 F.2.1 dX12_breach_13 rfl (lv_at hl 2 rfl) ?_
    refine a_ic F (0 : Int32) dX12_breach_14 (by decide) ?_
    refine a_ic F (1 : Int32) dX12_breach_15 (by decide) ?_
    refine a_Si F hml hl.1 hA hP hD hS (As := [.int p1, .int (0 : Int32), .int (1 : Int32)]) (c_X12_isIn l dC dI ad cA nF _ p1 (0 : Int32) (1 : Int32) hR (by decide)) (cs_RX12_187 (d := 1) F.2.2.1 (by decide)) rfl rfl (Nat.le_of_ble_eq_true rfl) dX12_breach_16 ⟨Nat.le_refl 0, Nat.le_refl 0⟩ (fun r22 uN22 H locs hq hP hD hS => ?_)
    obtain ⟨hu22, gr22, xr22⟩ := hq
    rw [hu22] at hP hD
    have xr22 : r22.toInt ≠ 0 → (0 : Int) ≤ p1.toInt ∧ p1.toInt ≤ (1 : Int) := xr22
    refine z_ne F 24 dX12_breach_19 (by decide) rfl (fun c23 => ?_) (fun c23 => ?_)
    · refine a_ic F (-1 : Int32) dX12_breach_24 (by decide) ?_
      refine lv_istore_n (lv' := [(3, .int (-1 : Int32)), (0, .ref (ad 85)), (1, .int p0), (2, .int p1)]) F.1 F.2.1 dX12_breach_25 rfl hl (by decide) rfl (fun ls hl => ?_)
      refine a_ic F (-1 : Int32) dX12_breach_26 (by decide) ?_
      refine lv_istore (lv' := [(4, .int (-1 : Int32)), (3, .int (-1 : Int32)), (0, .ref (ad 85)), (1, .int p0), (2, .int p1)]) F.1 F.2.1 dX12_breach_27 hl (by decide) rfl (fun ls hl => ?_)
      refine a_ic F (0 : Int32) dX12_breach_29 (by decide) ?_
      refine lv_istore (lv' := [(5, .int (0 : Int32)), (4, .int (-1 : Int32)), (3, .int (-1 : Int32)), (0, .ref (ad 85)), (1, .int p0), (2, .int p1)]) F.1 F.2.1 dX12_breach_30 hl (by decide) rfl (fun ls hl => ?_)
      refine a_ic F (0 : Int32) dX12_breach_32 (by decide) ?_
      refine lv_istore (lv' := [(6, .int (0 : Int32)), (5, .int (0 : Int32)), (4, .int (-1 : Int32)), (3, .int (-1 : Int32)), (0, .ref (ad 85)), (1, .int p0), (2, .int p1)]) F.1 F.2.1 dX12_breach_33 hl (by decide) rfl (fun ls hl => ?_)
      exact L35 10 (-1 : Int32) (-1 : Int32) (0 : Int32) (0 : Int32) _ _ _ _ hR hF (by decide) (by omega) (by omega) (by decide) (by decide) (by decide) (by omega : (0 : Int) ≤ (0 : Int) ∧ (0 : Int) ≤ 0) hP hD hS (lv_sub hl [4, 5, 6, 3, 2, 1, 0] rfl)
    · exact L22 _ _ _ _ hR hF (by omega : (0 : Int) ≤ (0 : Int) ∧ (0 : Int) ≤ 0) hP hD hS (lv_sub hl [] rfl)
set_option maxHeartbeats 600000 in
set_option maxRecDepth 100000 in
theorem c_X12_broken_85 (l : Launch) (dC : Nat → ClassId) (dI : Nat → Nat → Nat) (ad : Nat → Nat) (cA : Nat → ClassId) (nF : Nat) (u0 : ac_U) (p0 : Int32) (p1 : Int32) (hR : ac_R rg u0) : ac_Mi l yX12_broken (.code yX12_broken cX12_broken 3 (some .int) :: TB) 6 (dC, dI) vwCl (ac_ty cA) ad cA (TT nF) [.ref (ad 85), .int p0, .int p1] u0 (fun (r : Int32) (u : ac_U) => ac_R rg u ∧ ac_Fr [(85, some 0)] u0 u ∧ ((-1 : Int) ≤ r.toInt ∧ r.toInt ≤ 19)) := by
  refine ac_Mi.of (cc := cX12_broken) (maxL := 3) (ret := (some .int)) (by decide) rfl (Nat.le_of_ble_eq_true rfl) ?_
  intro p e s m below meth c A ls F hml hr hlocks hA hP hD hS hl
  have F : ac_X p s m [.ref (ad 85), .int p0, .int p1].toArray c cX12_broken RX12 TB (dC, dI) vwCl (ac_ty cA) := ⟨F.1, F.2.1, fun w h => F.2.2.1 w (List.mem_cons_of_mem _ h), F.2.2.2.1, F.2.2.2.2⟩
  have hl : lv_has ls 3 [(0, .ref (ad 85)), (1, .int p0), (2, .int p1)] := hl
  have hF : ac_Fr [(85, some 0)] u0 u0 := ac_Fr.rf
  refine lv_aload_n F.1 F.2.1 dX12_broken_0 rfl (lv_at hl 0 rfl) ?_
  refine a_ic F (0 : Int32) dX12_broken_1 (by decide) ?_
  refine a_puti F inX12 tyX12 tyX12_ok nmX12 hP hD hS 85 0 tc_85 rfl rfl (by decide) q1471 (fun _ h9 => h9) rfl (ty := .int) (tyX12_ok 0 (by decide)) rfl rfl dX12_broken_2 (fun H locs hP hD hS => ?_)
  have hR := hR.si (c := 85) (k := 0) (v := (0 : Int32)) (by rw [ic_0]; exact (by omega : (0 : Int) ≤ (0 : Int) ∧ (0 : Int) ≤ 1))
  have hF := hF.si (c := 85) (k := 0) (v := (0 : Int32)) rfl
  refine lv_aload_n F.1 F.2.1 dX12_broken_5 rfl (lv_at hl 0 rfl) ?_
  refine lv_iload_n F.1 F.2.1 dX12_broken_6 rfl (lv_at hl 1 rfl) ?_
  refine lv_iload_n F.1 F.2.1 dX12_broken_7 rfl (lv_at hl 2 rfl) ?_
  refine a_Vi F hml hl.1 hA hP hD hS (As := [.int p0, .int p1]) (c_X12_isReading_85 l dC dI ad cA nF _ p0 p1 hR) (cs_RX12_317 (d := 3) F.2.2.1 (by decide)) tc_85 rfl rfl rfl rfl (Nat.le_of_ble_eq_true rfl) dX12_broken_8 ⟨Nat.le_refl 0, Nat.le_refl 0⟩ (fun r1 uN1 H locs hq hP hD hS => ?_)
  obtain ⟨hu1, gr1, xr1⟩ := hq
  rw [hu1] at hP hD
  have xr1 : r1.toInt ≠ 0 → 0 ≤ p0.toInt ∧ p0.toInt ≤ 7 ∧ 0 ≤ p1.toInt ∧ p1.toInt ≤ 7 := xr1
  refine z_eq F 23 dX12_broken_11 (by decide) rfl (fun c2 => ?_) (fun c2 => ?_)
  · refine a_ic F (-1 : Int32) dX12_broken_23 (by decide) ?_
    exact a_reti F hr hlocks hP hD hS dX12_broken_24 ⟨hR, hF, (by decide)⟩
  · refine lv_aload_n F.1 F.2.1 dX12_broken_14 rfl (lv_at hl 0 rfl) ?_
    refine lv_iload_n F.1 F.2.1 dX12_broken_15 rfl (lv_at hl 1 rfl) ?_
    refine lv_iload_n F.1 F.2.1 dX12_broken_16 rfl (lv_at hl 2 rfl) ?_
    refine a_Vi F hml hl.1 hA hP hD hS (As := [.int p0, .int p1]) (c_X12_brokenOf_85 l dC dI ad cA nF _ p0 p1 hR (by omega) (by omega)) (cs_RX12_314 (d := 5) F.2.2.1 (by decide)) tc_85 rfl rfl rfl rfl (Nat.le_of_ble_eq_true rfl) dX12_broken_17 ⟨Nat.le_refl 0, Nat.le_refl 0⟩ (fun r3 uN3 H locs hq hP hD hS => ?_)
    obtain ⟨hu3, gr3⟩ := hq
    rw [hu3] at hP hD
    refine lv_goto (tgt := 24) F.1 F.2.1 dX12_broken_20 (by decide) ?_
    exact a_reti F hr hlocks hP hD hS dX12_broken_24 ⟨hR, hF, (by omega : (-1 : Int) ≤ r3.toInt ∧ r3.toInt ≤ 19)⟩
set_option maxHeartbeats 600000 in
set_option maxRecDepth 100000 in
theorem c_X12_chainOf_85 (l : Launch) (dC : Nat → ClassId) (dI : Nat → Nat → Nat) (ad : Nat → Nat) (cA : Nat → ClassId) (nF : Nat) (u0 : ac_U) (p0 : Int32) (hR : ac_R rg u0) : ac_Mi l yX12_chainOf (.code yX12_chainOf cX12_chainOf 5 (some .int) :: TB) 2 (dC, dI) vwCl (ac_ty cA) ad cA (TT nF) [.ref (ad 85), .int p0] u0 (fun (r : Int32) (u : ac_U) => u = u0) := by
  refine ac_Mi.of (cc := cX12_chainOf) (maxL := 5) (ret := (some .int)) (by decide) rfl (Nat.le_of_ble_eq_true rfl) ?_
  intro p e s m below meth c A ls F hml hr hlocks hA hP hD hS hl
  have F : ac_X p s m [.ref (ad 85), .int p0].toArray c cX12_chainOf RX12 TB (dC, dI) vwCl (ac_ty cA) := ⟨F.1, F.2.1, fun w h => F.2.2.1 w (List.mem_cons_of_mem _ h), F.2.2.2.1, F.2.2.2.2⟩
  have hl : lv_has ls 5 [(0, .ref (ad 85)), (1, .int p0)] := hl
  have L6 : ∀ (n6 : Nat) (x2 : Int32) (x3 : Int32) (H : Heap) (locs : List Loc) (ls : Array Slot), 8 - x3.toInt < (n6 : Int) → (0 : Int) ≤ x3.toInt ∧ x3.toInt ≤ 8 → va_P (dC, dI) vwCl (ac_w ad cA (TT nF) u0) H → va_D A (ac_w ad cA (TT nF) u0) → va_S A s.heap H locs → lv_has ls 5 [(0, .ref (ad 85)), (2, .int x2), (3, .int x3)] → W p l e (ac_rm 2) s m [.ref (ad 85), .int p0].toArray below meth c H locs 0 0 (MQ below (va_Qi (fun (r : Int32) (u : ac_U) => u = u0) (ac_B (dC, dI) vwCl (ac_ty cA) ad cA (TT nF) A) A) [.ref (ad 85), .int p0].toArray s 0 0 A) (F0 m 6 ls []) := by
    intro n6
    induction n6 with
    | zero => intro x2 x3 H locs ls hn6 f0 hP hD hS hl; exfalso; omega
    | succ n6 ih6 =>
      intro x2 x3 H locs ls hn6 f0 hP hD hS hl
      have L15 : ∀ (n15 : Nat) (x2 : Int32) (x3 : Int32) (x4 : Int32) (H : Heap) (locs : List Loc) (ls : Array Slot), 8 - x4.toInt < (n15 : Int) → (0 : Int) ≤ x3.toInt ∧ x3.toInt ≤ 7 → (0 : Int) ≤ x4.toInt ∧ x4.toInt ≤ 8 → 8 - x3.toInt + 0 < ((n6 : Nat) : Int) + 1 → va_P (dC, dI) vwCl (ac_w ad cA (TT nF) u0) H → va_D A (ac_w ad cA (TT nF) u0) → va_S A s.heap H locs → lv_has ls 5 [(0, .ref (ad 85)), (2, .int x2), (3, .int x3), (4, .int x4)] → W p l e (ac_rm 2) s m [.ref (ad 85), .int p0].toArray below meth c H locs 0 0 (MQ below (va_Qi (fun (r : Int32) (u : ac_U) => u = u0) (ac_B (dC, dI) vwCl (ac_ty cA) ad cA (TT nF) A) A) [.ref (ad 85), .int p0].toArray s 0 0 A) (F0 m 15 ls []) := by
        intro n15
        induction n15 with
        | zero => intro x2 x3 x4 H locs ls hn15 f0 f1 f2 hP hD hS hl; exfalso; omega
        | succ n15 ih15 =>
          intro x2 x3 x4 H locs ls hn15 f0 f1 f2 hP hD hS hl
          have L59 : ∀ (x2 : Int32) (x3 : Int32) (x4 : Int32) (H : Heap) (locs : List Loc) (ls : Array Slot), (0 : Int) ≤ x3.toInt ∧ x3.toInt ≤ 7 → (0 : Int) ≤ x4.toInt ∧ x4.toInt ≤ 7 → (1 : Int) ≤ (u0.1 87 7).toInt ∧ (u0.1 87 7).toInt ≤ 8 → 8 - x3.toInt + 0 < ((n6 : Nat) : Int) + 1 → 8 - x4.toInt + 0 < ((n15 : Nat) : Int) + 1 → va_P (dC, dI) vwCl (ac_w ad cA (TT nF) u0) H → va_D A (ac_w ad cA (TT nF) u0) → va_S A s.heap H locs → lv_has ls 5 [(0, .ref (ad 85)), (2, .int x2), (3, .int x3), (4, .int x4)] → W p l e (ac_rm 2) s m [.ref (ad 85), .int p0].toArray below meth c H locs 0 0 (MQ below (va_Qi (fun (r : Int32) (u : ac_U) => u = u0) (ac_B (dC, dI) vwCl (ac_ty cA) ad cA (TT nF) A) A) [.ref (ad 85), .int p0].toArray s 0 0 A) (F0 m 59 ls []) := by
            intro x2 x3 x4 H locs ls f0 f1 f2 f3 f4 hP hD hS hl
            refine a_iinc F (k := 3) (fun v1 => [(4, .int v1), (0, .ref (ad 85)), (2, .int x2), (3, .int x3)]) dX12_chainOf_59 hl rfl rfl (by decide) (by omega) (by decide) (fun _ => rfl) (fun v1 ls hv1 hl => ?_)
            refine lv_goto (tgt := 15) F.1 F.2.1 dX12_chainOf_62 (by decide) ?_
            exact ih15 x2 x3 v1 _ _ _ (by omega) (by omega) (by omega) (by omega) hP hD hS (lv_sub hl [1, 2, 3, 0] rfl)
          refine lv_iload F.1 F.2.1 dX12_chainOf_15 (lv_at hl 3 rfl) ?_
          refine lv_aload_n F.1 F.2.1 dX12_chainOf_17 rfl (lv_at hl 0 rfl) ?_
          refine a_getr F inX12 hP 85 6 tc_85 rfl rfl (by decide) q1477 (fun _ h9 => h9) dX12_chainOf_18 ?_
          refine a_bp F (7 : Int32) dX12_chainOf_21 (by decide) ?_
          have g2 : (0 : Int) ≤ (u0.1 87 7).toInt ∧ (u0.1 87 7).toInt ≤ 8 := hR 87 7
          refine a_ialdK F hP 87 7 tc_87 rfl rfl (i_in ic_7 (by omega)) (v := (u0.1 87 7)) rfl dX12_chainOf_23 ?_
          refine b_ge F 65 dX12_chainOf_24 (by decide) rfl rfl (fun c3 => ?_) (fun c3 => ?_)
          · refine a_iinc F (k := 2) (fun v4 => [(3, .int v4), (0, .ref (ad 85)), (2, .int x2), (4, .int x4)]) dX12_chainOf_65 hl rfl rfl (by decide) (by omega) (by decide) (fun _ => rfl) (fun v4 ls hv4 hl => ?_)
            refine lv_goto (tgt := 6) F.1 F.2.1 dX12_chainOf_68 (by decide) ?_
            exact ih6 x2 v4 _ _ _ (by omega) (by omega) hP hD hS (lv_sub hl [1, 2, 0] rfl)
          · refine lv_iload_n F.1 F.2.1 dX12_chainOf_27 rfl (lv_at hl 1 rfl) ?_
            refine lv_aload_n F.1 F.2.1 dX12_chainOf_28 rfl (lv_at hl 0 rfl) ?_
            refine a_getr F inX12 hP 85 6 tc_85 rfl rfl (by decide) q1477 (fun _ h9 => h9) dX12_chainOf_29 ?_
            refine a_bp F (98 : Int32) dX12_chainOf_32 (by decide) ?_
            refine lv_iload F.1 F.2.1 dX12_chainOf_34 (lv_at hl 3 rfl) ?_
            refine a_iadd F dX12_chainOf_36 ic_98 rfl (by omega) (fun v5 hv5 => ?_)
            refine a_iald F hP 87 tc_87 rfl (i_in rfl (by omega)) dX12_chainOf_37 (fun v6 ev6 => ?_)
            refine a_Si F hml hl.1 hA hP hD hS (As := [.int x2, .int v6]) (c_X12_bitOf l dC dI ad cA nF _ x2 v6 hR) (cs_RX12_223 (d := 1) F.2.2.1 (by decide)) rfl rfl (Nat.le_of_ble_eq_true rfl) dX12_chainOf_38 ⟨Nat.le_refl 0, Nat.le_refl 0⟩ (fun r7 uN7 H locs hq hP hD hS => ?_)
            obtain ⟨hu7, gr7⟩ := hq
            rw [hu7] at hP hD
            refine z_eq F 59 dX12_chainOf_41 (by decide) rfl (fun c8 => ?_) (fun c8 => ?_)
            · exact L59 x2 x3 x4 _ _ _ (by omega) (by omega) (by omega : (1 : Int) ≤ (u0.1 87 7).toInt ∧ (u0.1 87 7).toInt ≤ 8) (by omega) (by omega) hP hD hS (lv_sub hl [0, 1, 2, 3] rfl)
            · refine lv_iload_n F.1 F.2.1 dX12_chainOf_44 rfl (lv_at hl 1 rfl) ?_
              refine a_ic F (1 : Int32) dX12_chainOf_45 (by decide) ?_
              refine lv_aload_n F.1 F.2.1 dX12_chainOf_46 rfl (lv_at hl 0 rfl) ?_
              refine a_getr F inX12 hP 85 6 tc_85 rfl rfl (by decide) q1477 (fun _ h9 => h9) dX12_chainOf_47 ?_
              refine a_bp F (90 : Int32) dX12_chainOf_50 (by decide) ?_
              refine lv_iload F.1 F.2.1 dX12_chainOf_52 (lv_at hl 3 rfl) ?_
              refine a_iadd F dX12_chainOf_54 ic_90 rfl (by omega) (fun v9 hv9 => ?_)
              refine a_iald F hP 87 tc_87 rfl (i_in rfl (by omega)) dX12_chainOf_55 (fun v10 ev10 => ?_)
              refine a_ishlU F dX12_chainOf_56 (fun v11 => ?_)
              refine a_iorU F dX12_chainOf_57 (fun v12 => ?_)
              refine lv_istore_n (lv' := [(2, .int v12), (0, .ref (ad 85)), (3, .int x3), (4, .int x4)]) F.1 F.2.1 dX12_chainOf_58 rfl hl (by decide) rfl (fun ls hl => ?_)
              exact L59 v12 x3 x4 _ _ _ (by omega) (by omega) (by omega : (1 : Int) ≤ (u0.1 87 7).toInt ∧ (u0.1 87 7).toInt ≤ 8) (by omega) (by omega) hP hD hS (lv_sub hl [1, 0, 2, 3] rfl)
      refine lv_iload_n F.1 F.2.1 dX12_chainOf_6 rfl (lv_at hl 2 rfl) ?_
      refine a_bp F (8 : Int32) dX12_chainOf_7 (by decide) ?_
      refine b_ge F 71 dX12_chainOf_9 (by decide) rfl ic_8 (fun c13 => ?_) (fun c13 => ?_)
      · refine lv_iload_n F.1 F.2.1 dX12_chainOf_71 rfl (lv_at hl 1 rfl) ?_
        exact a_reti F hr hlocks hP hD hS dX12_chainOf_72 rfl
      · refine a_ic F (0 : Int32) dX12_chainOf_12 (by decide) ?_
        refine lv_istore (lv' := [(4, .int (0 : Int32)), (0, .ref (ad 85)), (2, .int x2), (3, .int x3)]) F.1 F.2.1 dX12_chainOf_13 hl (by decide) rfl (fun ls hl => ?_)
        exact L15 10 x2 x3 (0 : Int32) _ _ _ (by decide) (by omega) (by decide) (by omega) hP hD hS (lv_sub hl [1, 2, 3, 0] rfl)
  refine a_ic F (1 : Int32) dX12_chainOf_0 (by decide) ?_
  refine lv_iload_n F.1 F.2.1 dX12_chainOf_1 rfl (lv_at hl 1 rfl) ?_
  refine a_ishlU F dX12_chainOf_2 (fun v14 => ?_)
  refine lv_istore_n (lv' := [(2, .int v14), (0, .ref (ad 85)), (1, .int p0)]) F.1 F.2.1 dX12_chainOf_3 rfl hl (by decide) rfl (fun ls hl => ?_)
  refine a_ic F (0 : Int32) dX12_chainOf_4 (by decide) ?_
  refine lv_istore_n (lv' := [(3, .int (0 : Int32)), (2, .int v14), (0, .ref (ad 85)), (1, .int p0)]) F.1 F.2.1 dX12_chainOf_5 rfl hl (by decide) rfl (fun ls hl => ?_)
  exact L6 10 v14 (0 : Int32) _ _ _ (by decide) (by decide) hP hD hS (lv_sub hl [2, 1, 0] rfl)
set_option maxHeartbeats 600000 in
set_option maxRecDepth 100000 in
theorem c_X12_chain_85 (l : Launch) (dC : Nat → ClassId) (dI : Nat → Nat → Nat) (ad : Nat → Nat) (cA : Nat → ClassId) (nF : Nat) (u0 : ac_U) (p0 : Int32) (hR : ac_R rg u0) : ac_Mi l yX12_chain (.code yX12_chain cX12_chain 2 (some .int) :: TB) 3 (dC, dI) vwCl (ac_ty cA) ad cA (TT nF) [.ref (ad 85), .int p0] u0 (fun (r : Int32) (u : ac_U) => ac_R rg u ∧ ac_Fr [(85, some 0)] u0 u) := by
  refine ac_Mi.of (cc := cX12_chain) (maxL := 2) (ret := (some .int)) (by decide) rfl (Nat.le_of_ble_eq_true rfl) ?_
  intro p e s m below meth c A ls F hml hr hlocks hA hP hD hS hl
  have F : ac_X p s m [.ref (ad 85), .int p0].toArray c cX12_chain RX12 TB (dC, dI) vwCl (ac_ty cA) := ⟨F.1, F.2.1, fun w h => F.2.2.1 w (List.mem_cons_of_mem _ h), F.2.2.2.1, F.2.2.2.2⟩
  have hl : lv_has ls 2 [(0, .ref (ad 85)), (1, .int p0)] := hl
  have hF : ac_Fr [(85, some 0)] u0 u0 := ac_Fr.rf
  refine lv_aload_n F.1 F.2.1 dX12_chain_0 rfl (lv_at hl 0 rfl) ?_
  refine a_ic F (0 : Int32) dX12_chain_1 (by decide) ?_
  refine a_puti F inX12 tyX12 tyX12_ok nmX12 hP hD hS 85 0 tc_85 rfl rfl (by decide) q1471 (fun _ h9 => h9) rfl (ty := .int) (tyX12_ok 0 (by decide)) rfl rfl dX12_chain_2 (fun H locs hP hD hS => ?_)
  have hR := hR.si (c := 85) (k := 0) (v := (0 : Int32)) (by rw [ic_0]; exact (by omega : (0 : Int) ≤ (0 : Int) ∧ (0 : Int) ≤ 1))
  have hF := hF.si (c := 85) (k := 0) (v := (0 : Int32)) rfl
  refine lv_aload_n F.1 F.2.1 dX12_chain_5 rfl (lv_at hl 0 rfl) ?_
  refine lv_iload_n F.1 F.2.1 dX12_chain_6 rfl (lv_at hl 1 rfl) ?_
  refine a_Vi F hml hl.1 hA hP hD hS (As := [.int p0]) (c_X12_isPromise_85 l dC dI ad cA nF _ p0 hR) (cs_RX12_244 (d := 2) F.2.2.1 (by decide)) tc_85 rfl rfl rfl rfl (Nat.le_of_ble_eq_true rfl) dX12_chain_7 ⟨Nat.le_refl 0, Nat.le_refl 0⟩ (fun r1 uN1 H locs hq hP hD hS => ?_)
  obtain ⟨hu1, gr1, xr1⟩ := hq
  rw [hu1] at hP hD
  have xr1 : r1.toInt ≠ 0 → 0 ≤ p0.toInt ∧ p0.toInt ≤ 7 := xr1
  refine z_eq F 21 dX12_chain_10 (by decide) rfl (fun c2 => ?_) (fun c2 => ?_)
  · refine a_ic F (-1 : Int32) dX12_chain_21 (by decide) ?_
    exact a_reti F hr hlocks hP hD hS dX12_chain_22 ⟨hR, hF⟩
  · refine lv_aload_n F.1 F.2.1 dX12_chain_13 rfl (lv_at hl 0 rfl) ?_
    refine lv_iload_n F.1 F.2.1 dX12_chain_14 rfl (lv_at hl 1 rfl) ?_
    refine a_Vi F hml hl.1 hA hP hD hS (As := [.int p0]) (c_X12_chainOf_85 l dC dI ad cA nF _ p0 hR) (cs_RX12_363 (d := 2) F.2.2.1 (by decide)) tc_85 rfl rfl rfl rfl (Nat.le_of_ble_eq_true rfl) dX12_chain_15 ⟨Nat.le_refl 0, Nat.le_refl 0⟩ (fun r3 uN3 H locs hq hP hD hS => ?_)
    have hu3 := hq
    rw [hu3] at hP hD
    refine lv_goto (tgt := 22) F.1 F.2.1 dX12_chain_18 (by decide) ?_
    exact a_reti F hr hlocks hP hD hS dX12_chain_22 ⟨hR, hF⟩
set_option maxHeartbeats 600000 in
set_option maxRecDepth 100000 in
theorem c_X12_count_85 (l : Launch) (dC : Nat → ClassId) (dI : Nat → Nat → Nat) (ad : Nat → Nat) (cA : Nat → ClassId) (nF : Nat) (u0 : ac_U) (p0 : Int32) (hR : ac_R rg u0) : ac_Mi l yX12_count (.code yX12_count cX12_count 2 (some .int) :: TB) 2 (dC, dI) vwCl (ac_ty cA) ad cA (TT nF) [.ref (ad 85), .int p0] u0 (fun (r : Int32) (u : ac_U) => ac_R rg u ∧ ac_Fr [(85, some 0)] u0 u ∧ ((-1 : Int) ≤ r.toInt ∧ r.toInt ≤ 940)) := by
  refine ac_Mi.of (cc := cX12_count) (maxL := 2) (ret := (some .int)) (by decide) rfl (Nat.le_of_ble_eq_true rfl) ?_
  intro p e s m below meth c A ls F hml hr hlocks hA hP hD hS hl
  have F : ac_X p s m [.ref (ad 85), .int p0].toArray c cX12_count RX12 TB (dC, dI) vwCl (ac_ty cA) := ⟨F.1, F.2.1, fun w h => F.2.2.1 w (List.mem_cons_of_mem _ h), F.2.2.2.1, F.2.2.2.2⟩
  have hl : lv_has ls 2 [(0, .ref (ad 85)), (1, .int p0)] := hl
  have hF : ac_Fr [(85, some 0)] u0 u0 := ac_Fr.rf
  refine lv_aload_n F.1 F.2.1 dX12_count_0 rfl (lv_at hl 0 rfl) ?_
  refine a_ic F (0 : Int32) dX12_count_1 (by decide) ?_
  refine a_puti F inX12 tyX12 tyX12_ok nmX12 hP hD hS 85 0 tc_85 rfl rfl (by decide) q1471 (fun _ h9 => h9) rfl (ty := .int) (tyX12_ok 0 (by decide)) rfl rfl dX12_count_2 (fun H locs hP hD hS => ?_)
  have hR := hR.si (c := 85) (k := 0) (v := (0 : Int32)) (by rw [ic_0]; exact (by omega : (0 : Int) ≤ (0 : Int) ∧ (0 : Int) ≤ 1))
  have hF := hF.si (c := 85) (k := 0) (v := (0 : Int32)) rfl
  refine lv_iload_n F.1 F.2.1 dX12_count_5 rfl (lv_at hl 1 rfl) ?_
  refine a_bp F (8 : Int32) dX12_count_6 (by decide) ?_
  refine b_ne F 18 dX12_count_8 (by decide) rfl ic_8 (fun c1 => ?_) (fun c1 => ?_)
  · refine lv_iload_n F.1 F.2.1 dX12_count_18 rfl (lv_at hl 1 rfl) ?_
    refine a_ic F (0 : Int32) dX12_count_19 (by decide) ?_
    refine a_bp F (7 : Int32) dX12_count_20 (by decide) ?_
    refine a_Si F hml hl.1 hA hP hD hS (As := [.int p0, .int (0 : Int32), .int (7 : Int32)]) (c_X12_isIn l dC dI ad cA nF _ p0 (0 : Int32) (7 : Int32) hR (by decide)) (cs_RX12_187 (d := 1) F.2.2.1 (by decide)) rfl rfl (Nat.le_of_ble_eq_true rfl) dX12_count_22 ⟨Nat.le_refl 0, Nat.le_refl 0⟩ (fun r2 uN2 H locs hq hP hD hS => ?_)
    obtain ⟨hu2, gr2, xr2⟩ := hq
    rw [hu2] at hP hD
    have xr2 : r2.toInt ≠ 0 → (0 : Int) ≤ p0.toInt ∧ p0.toInt ≤ (7 : Int) := xr2
    refine z_eq F 37 dX12_count_25 (by decide) rfl (fun c3 => ?_) (fun c3 => ?_)
    · refine a_ic F (-1 : Int32) dX12_count_37 (by decide) ?_
      exact a_reti F hr hlocks hP hD hS dX12_count_38 ⟨hR, hF, (by decide)⟩
    · refine lv_aload_n F.1 F.2.1 dX12_count_28 rfl (lv_at hl 0 rfl) ?_
      refine a_getr F inX12 hP 85 6 tc_85 rfl rfl (by decide) q1477 (fun _ h9 => h9) dX12_count_29 ?_
      refine lv_iload_n F.1 F.2.1 dX12_count_32 rfl (lv_at hl 1 rfl) ?_
      refine a_iald F hP 87 tc_87 rfl (i_in rfl (by omega)) dX12_count_33 (fun v4 ev4 => ?_)
      have hv4 : (0 : Int) ≤ v4.toInt ∧ v4.toInt ≤ 24 := rg_seg_87_0_7 hR ev4 (by omega)
      refine lv_goto (tgt := 38) F.1 F.2.1 dX12_count_34 (by decide) ?_
      exact a_reti F hr hlocks hP hD hS dX12_count_38 ⟨hR, hF, (by omega : (-1 : Int) ≤ v4.toInt ∧ v4.toInt ≤ 940)⟩
  · refine lv_aload_n F.1 F.2.1 dX12_count_11 rfl (lv_at hl 0 rfl) ?_
    have g5 : (0 : Int) ≤ (u0.1 85 2).toInt ∧ (u0.1 85 2).toInt ≤ 940 := hR 85 2
    refine a_geti F inX12 hP 85 2 tc_85 rfl rfl (by decide) q1473 (fun _ h9 => h9) (v := (u0.1 85 2)) rfl dX12_count_12 ?_
    refine lv_goto (tgt := 38) F.1 F.2.1 dX12_count_15 (by decide) ?_
    exact a_reti F hr hlocks hP hD hS dX12_count_38 ⟨hR, hF, (by omega : (-1 : Int) ≤ (u0.1 85 2).toInt ∧ (u0.1 85 2).toInt ≤ 940)⟩
set_option maxHeartbeats 600000 in
set_option maxRecDepth 100000 in
theorem c_X12_whyGoOf_85 (l : Launch) (dC : Nat → ClassId) (dI : Nat → Nat → Nat) (ad : Nat → Nat) (cA : Nat → ClassId) (nF : Nat) (u0 : ac_U) (p0 : Int32) (p1 : Int32) (hR : ac_R rg u0) (hp0 : (0 : Int) ≤ p0.toInt ∧ p0.toInt ≤ 3) (hp1 : (0 : Int) ≤ p1.toInt ∧ p1.toInt ≤ 7) : ac_Mi l yX12_whyGoOf (.code yX12_whyGoOf cX12_whyGoOf 3 (some .int) :: TB) 2 (dC, dI) vwCl (ac_ty cA) ad cA (TT nF) [.ref (ad 85), .int p0, .int p1] u0 (fun (r : Int32) (u : ac_U) => u = u0 ∧ ((0 : Int) ≤ r.toInt ∧ r.toInt ≤ 3)) := by
  refine ac_Mi.of (cc := cX12_whyGoOf) (maxL := 3) (ret := (some .int)) (by decide) rfl (Nat.le_of_ble_eq_true rfl) ?_
  intro p e s m below meth c A ls F hml hr hlocks hA hP hD hS hl
  have F : ac_X p s m [.ref (ad 85), .int p0, .int p1].toArray c cX12_whyGoOf RX12 TB (dC, dI) vwCl (ac_ty cA) := ⟨F.1, F.2.1, fun w h => F.2.2.1 w (List.mem_cons_of_mem _ h), F.2.2.2.1, F.2.2.2.2⟩
  have hl : lv_has ls 3 [(0, .ref (ad 85)), (1, .int p0), (2, .int p1)] := hl
  refine lv_aload_n F.1 F.2.1 dX12_whyGoOf_0 rfl (lv_at hl 0 rfl) ?_
  refine a_getr F inX12 hP 85 6 tc_85 rfl rfl (by decide) q1477 (fun _ h9 => h9) dX12_whyGoOf_1 ?_
  refine a_bp F (111 : Int32) dX12_whyGoOf_4 (by decide) ?_
  refine lv_iload_n F.1 F.2.1 dX12_whyGoOf_6 rfl (lv_at hl 1 rfl) ?_
  refine a_iadd F dX12_whyGoOf_7 ic_111 rfl (by omega) (fun v1 hv1 => ?_)
  refine a_iald F hP 87 tc_87 rfl (i_in rfl (by omega)) dX12_whyGoOf_8 (fun v2 ev2 => ?_)
  refine a_ic F (1 : Int32) dX12_whyGoOf_9 (by decide) ?_
  refine b_ne F 17 dX12_whyGoOf_10 (by decide) rfl ic_1 (fun c3 => ?_) (fun c3 => ?_)
  · refine lv_aload_n F.1 F.2.1 dX12_whyGoOf_17 rfl (lv_at hl 0 rfl) ?_
    refine a_getr F inX12 hP 85 6 tc_85 rfl rfl (by decide) q1477 (fun _ h9 => h9) dX12_whyGoOf_18 ?_
    refine a_bp F (8 : Int32) dX12_whyGoOf_21 (by decide) ?_
    refine lv_aload_n F.1 F.2.1 dX12_whyGoOf_23 rfl (lv_at hl 0 rfl) ?_
    refine a_getr F inX12 hP 85 6 tc_85 rfl rfl (by decide) q1477 (fun _ h9 => h9) dX12_whyGoOf_24 ?_
    refine a_bp F (107 : Int32) dX12_whyGoOf_27 (by decide) ?_
    refine lv_iload_n F.1 F.2.1 dX12_whyGoOf_29 rfl (lv_at hl 1 rfl) ?_
    refine a_iadd F dX12_whyGoOf_30 ic_107 rfl (by omega) (fun v4 hv4 => ?_)
    refine a_iald F hP 87 tc_87 rfl (i_in rfl (by omega)) dX12_whyGoOf_31 (fun v5 ev5 => ?_)
    have hv5 : (0 : Int) ≤ v5.toInt ∧ v5.toInt ≤ 7 := rg_seg_87_107_110 hR ev5 (by omega)
    refine a_iadd F dX12_whyGoOf_32 ic_8 rfl (by omega) (fun v6 hv6 => ?_)
    refine a_iald F hP 87 tc_87 rfl (i_in rfl (by omega)) dX12_whyGoOf_33 (fun v7 ev7 => ?_)
    refine lv_iload_n F.1 F.2.1 dX12_whyGoOf_34 rfl (lv_at hl 2 rfl) ?_
    refine a_Si F hml hl.1 hA hP hD hS (As := [.int v7, .int p1]) (c_X12_bitOf l dC dI ad cA nF _ v7 p1 hR) (cs_RX12_223 (d := 1) F.2.2.1 (by decide)) rfl rfl (Nat.le_of_ble_eq_true rfl) dX12_whyGoOf_35 ⟨Nat.le_refl 0, Nat.le_refl 0⟩ (fun r8 uN8 H locs hq hP hD hS => ?_)
    obtain ⟨hu8, gr8⟩ := hq
    rw [hu8] at hP hD
    refine z_ne F 45 dX12_whyGoOf_38 (by decide) rfl (fun c9 => ?_) (fun c9 => ?_)
    · refine lv_aload_n F.1 F.2.1 dX12_whyGoOf_45 rfl (lv_at hl 0 rfl) ?_
      refine a_Vi F hml hl.1 hA hP hD hS (As := []) (c_X12_isOver_85 l dC dI ad cA nF _  hR) (cs_RX12_263 (d := 1) F.2.2.1 (by decide)) tc_85 rfl rfl rfl rfl (Nat.le_of_ble_eq_true rfl) dX12_whyGoOf_46 ⟨Nat.le_refl 0, Nat.le_refl 0⟩ (fun r10 uN10 H locs hq hP hD hS => ?_)
      obtain ⟨hu10, gr10, xr10⟩ := hq
      rw [hu10] at hP hD
      have g11 : (0 : Int) ≤ (u0.1 87 106).toInt ∧ (u0.1 87 106).toInt ≤ 480 := hR 87 106
      have g12 : (4 : Int) ≤ (u0.1 87 0).toInt ∧ (u0.1 87 0).toInt ≤ 24 := hR 87 0
      have xr10 : r10.toInt = 0 → (u0.1 87 106).toInt ≠ 20 * (u0.1 87 0).toInt := xr10
      refine z_eq F 56 dX12_whyGoOf_49 (by decide) rfl (fun c13 => ?_) (fun c13 => ?_)
      · refine a_ic F (0 : Int32) dX12_whyGoOf_56 (by decide) ?_
        exact a_reti F hr hlocks hP hD hS dX12_whyGoOf_57 ⟨rfl, (by decide)⟩
      · refine a_ic F (3 : Int32) dX12_whyGoOf_52 (by decide) ?_
        refine lv_goto (tgt := 57) F.1 F.2.1 dX12_whyGoOf_53 (by decide) ?_
        exact a_reti F hr hlocks hP hD hS dX12_whyGoOf_57 ⟨rfl, (by decide)⟩
    · refine a_ic F (2 : Int32) dX12_whyGoOf_41 (by decide) ?_
      refine lv_goto (tgt := 57) F.1 F.2.1 dX12_whyGoOf_42 (by decide) ?_
      exact a_reti F hr hlocks hP hD hS dX12_whyGoOf_57 ⟨rfl, (by decide)⟩
  · refine a_ic F (1 : Int32) dX12_whyGoOf_13 (by decide) ?_
    refine lv_goto (tgt := 57) F.1 F.2.1 dX12_whyGoOf_14 (by decide) ?_
    exact a_reti F hr hlocks hP hD hS dX12_whyGoOf_57 ⟨rfl, (by decide)⟩
set_option maxHeartbeats 600000 in
set_option maxRecDepth 100000 in
theorem c_X12_whySay_85 (l : Launch) (dC : Nat → ClassId) (dI : Nat → Nat → Nat) (ad : Nat → Nat) (cA : Nat → ClassId) (nF : Nat) (u0 : ac_U) (p0 : Int32) (p1 : Int32) (hR : ac_R rg u0) (hp0 : (0 : Int) ≤ p0.toInt ∧ p0.toInt ≤ 3) (hp1 : (0 : Int) ≤ p1.toInt ∧ p1.toInt ≤ 7) : ac_Mi l yX12_whySay (.code yX12_whySay cX12_whySay 3 (some .int) :: TB) 2 (dC, dI) vwCl (ac_ty cA) ad cA (TT nF) [.ref (ad 85), .int p0, .int p1] u0 (fun (r : Int32) (u : ac_U) => u = u0 ∧ ((0 : Int) ≤ r.toInt ∧ r.toInt ≤ 6)) := by
  refine ac_Mi.of (cc := cX12_whySay) (maxL := 3) (ret := (some .int)) (by decide) rfl (Nat.le_of_ble_eq_true rfl) ?_
  intro p e s m below meth c A ls F hml hr hlocks hA hP hD hS hl
  have F : ac_X p s m [.ref (ad 85), .int p0, .int p1].toArray c cX12_whySay RX12 TB (dC, dI) vwCl (ac_ty cA) := ⟨F.1, F.2.1, fun w h => F.2.2.1 w (List.mem_cons_of_mem _ h), F.2.2.2.1, F.2.2.2.2⟩
  have hl : lv_has ls 3 [(0, .ref (ad 85)), (1, .int p0), (2, .int p1)] := hl
  refine lv_aload_n F.1 F.2.1 dX12_whySay_0 rfl (lv_at hl 0 rfl) ?_
  refine a_Vi F hml hl.1 hA hP hD hS (As := []) (c_X12_isOver_85 l dC dI ad cA nF _  hR) (cs_RX12_263 (d := 1) F.2.2.1 (by decide)) tc_85 rfl rfl rfl rfl (Nat.le_of_ble_eq_true rfl) dX12_whySay_1 ⟨Nat.le_refl 0, Nat.le_refl 0⟩ (fun r1 uN1 H locs hq hP hD hS => ?_)
  obtain ⟨hu1, gr1, xr1⟩ := hq
  rw [hu1] at hP hD
  have g2 : (0 : Int) ≤ (u0.1 87 106).toInt ∧ (u0.1 87 106).toInt ≤ 480 := hR 87 106
  have g3 : (4 : Int) ≤ (u0.1 87 0).toInt ∧ (u0.1 87 0).toInt ≤ 24 := hR 87 0
  have xr1 : r1.toInt = 0 → (u0.1 87 106).toInt ≠ 20 * (u0.1 87 0).toInt := xr1
  refine z_eq F 11 dX12_whySay_4 (by decide) rfl (fun c4 => ?_) (fun c4 => ?_)
  · refine lv_aload_n F.1 F.2.1 dX12_whySay_11 rfl (lv_at hl 0 rfl) ?_
    refine a_getr F inX12 hP 85 6 tc_85 rfl rfl (by decide) q1477 (fun _ h9 => h9) dX12_whySay_12 ?_
    refine a_bp F (26 : Int32) dX12_whySay_15 (by decide) ?_
    refine lv_iload_n F.1 F.2.1 dX12_whySay_17 rfl (lv_at hl 2 rfl) ?_
    refine a_iadd F dX12_whySay_18 ic_26 rfl (by omega) (fun v5 hv5 => ?_)
    refine a_iald F hP 87 tc_87 rfl (i_in rfl (by omega)) dX12_whySay_19 (fun v6 ev6 => ?_)
    refine lv_iload_n F.1 F.2.1 dX12_whySay_20 rfl (lv_at hl 1 rfl) ?_
    refine b_eq F 28 dX12_whySay_21 (by decide) rfl rfl (fun c7 => ?_) (fun c7 => ?_)
    · refine lv_aload_n F.1 F.2.1 dX12_whySay_28 rfl (lv_at hl 0 rfl) ?_
      refine a_getr F inX12 hP 85 6 tc_85 rfl rfl (by decide) q1477 (fun _ h9 => h9) dX12_whySay_29 ?_
      refine a_bp F (124 : Int32) dX12_whySay_32 (by decide) ?_
      refine lv_iload_n F.1 F.2.1 dX12_whySay_34 rfl (lv_at hl 2 rfl) ?_
      refine a_iadd F dX12_whySay_35 ic_124 rfl (by omega) (fun v8 hv8 => ?_)
      refine a_iald F hP 87 tc_87 rfl (i_in rfl (by omega)) dX12_whySay_36 (fun v9 ev9 => ?_)
      have hv9 : (0 : Int) ≤ v9.toInt ∧ v9.toInt ≤ 481 := rg_seg_87_124_131 hR ev9 (by omega)
      refine z_le F 45 dX12_whySay_37 (by decide) rfl (fun c10 => ?_) (fun c10 => ?_)
      · refine a_ic F (0 : Int32) dX12_whySay_45 (by decide) ?_
        exact a_reti F hr hlocks hP hD hS dX12_whySay_46 ⟨rfl, (by decide)⟩
      · refine a_bp F (6 : Int32) dX12_whySay_40 (by decide) ?_
        refine lv_goto (tgt := 46) F.1 F.2.1 dX12_whySay_42 (by decide) ?_
        exact a_reti F hr hlocks hP hD hS dX12_whySay_46 ⟨rfl, (by decide)⟩
    · refine a_ic F (5 : Int32) dX12_whySay_24 (by decide) ?_
      refine lv_goto (tgt := 46) F.1 F.2.1 dX12_whySay_25 (by decide) ?_
      exact a_reti F hr hlocks hP hD hS dX12_whySay_46 ⟨rfl, (by decide)⟩
  · refine a_ic F (3 : Int32) dX12_whySay_7 (by decide) ?_
    refine lv_goto (tgt := 46) F.1 F.2.1 dX12_whySay_8 (by decide) ?_
    exact a_reti F hr hlocks hP hD hS dX12_whySay_46 ⟨rfl, (by decide)⟩
set_option maxHeartbeats 600000 in
set_option maxRecDepth 100000 in
theorem c_X12_now_85 (l : Launch) (dC : Nat → ClassId) (dI : Nat → Nat → Nat) (ad : Nat → Nat) (cA : Nat → ClassId) (nF : Nat) (u0 : ac_U) (p0 : Int32) (hR : ac_R rg u0) : ac_Mi l yX12_now (.code yX12_now cX12_now 6 (some .int) :: TB) 7 (dC, dI) vwCl (ac_ty cA) ad cA (TT nF) [.ref (ad 85), .int p0] u0 (fun (r : Int32) (u : ac_U) => ac_R rg u ∧ ac_Fr [(85, some 0)] u0 u) := by
  refine ac_Mi.of (cc := cX12_now) (maxL := 6) (ret := (some .int)) (by decide) rfl (Nat.le_of_ble_eq_true rfl) ?_
  intro p e s m below meth c A ls F hml hr hlocks hA hP hD hS hl
  have F : ac_X p s m [.ref (ad 85), .int p0].toArray c cX12_now RX12 TB (dC, dI) vwCl (ac_ty cA) := ⟨F.1, F.2.1, fun w h => F.2.2.1 w (List.mem_cons_of_mem _ h), F.2.2.2.1, F.2.2.2.2⟩
  have hl : lv_has ls 6 [(0, .ref (ad 85)), (1, .int p0)] := hl
  have hF : ac_Fr [(85, some 0)] u0 u0 := ac_Fr.rf
  have L15 : ∀ (n15 : Nat) (x2 : Int32) (x3 : Int32) (x4 : Int32) (x5 : Int32) (u : ac_U) (H : Heap) (locs : List Loc) (ls : Array Slot), ac_R rg u → ac_Fr [(85, some 0)] u0 u → 8 - x5.toInt < (n15 : Int) → (0 : Int) ≤ x5.toInt ∧ x5.toInt ≤ 8 → (0 : Int) ≤ (u.1 85 0).toInt ∧ (u.1 85 0).toInt ≤ 0 → va_P (dC, dI) vwCl (ac_w ad cA (TT nF) u) H → va_D A (ac_w ad cA (TT nF) u) → va_S A s.heap H locs → lv_has ls 6 [(0, .ref (ad 85)), (1, .int p0), (2, .int x2), (3, .int x3), (4, .int x4), (5, .int x5)] → W p l e (ac_rm 7) s m [.ref (ad 85), .int p0].toArray below meth c H locs 0 0 (MQ below (va_Qi (fun (r : Int32) (u : ac_U) => ac_R rg u ∧ ac_Fr [(85, some 0)] u0 u) (ac_B (dC, dI) vwCl (ac_ty cA) ad cA (TT nF) A) A) [.ref (ad 85), .int p0].toArray s 0 0 A) (F0 m 15 ls []) := by
    intro n15
    induction n15 with
    | zero => intro x2 x3 x4 x5 u H locs ls hR hF hn15 f0 f1 hP hD hS hl; exfalso; omega
    | succ n15 ih15 =>
      intro x2 x3 x4 x5 u H locs ls hR hF hn15 f0 f1 hP hD hS hl
      have L80 : ∀ (x2 : Int32) (x3 : Int32) (x5 : Int32) (z0 : Int32) (z1 : Int32) (u : ac_U) (H : Heap) (locs : List Loc) (ls : Array Slot), ac_R rg u → ac_Fr [(85, some 0)] u0 u → (0 : Int) ≤ x5.toInt ∧ x5.toInt ≤ 7 → (0 : Int) ≤ z1.toInt ∧ z1.toInt ≤ 1 → (0 : Int) ≤ (u.1 85 0).toInt ∧ (u.1 85 0).toInt ≤ 0 → (1 : Int) ≤ (u.1 87 6).toInt ∧ (u.1 87 6).toInt ≤ 8 → 8 - x5.toInt + 0 < ((n15 : Nat) : Int) + 1 → va_P (dC, dI) vwCl (ac_w ad cA (TT nF) u) H → va_D A (ac_w ad cA (TT nF) u) → va_S A s.heap H locs → lv_has ls 6 [(0, .ref (ad 85)), (1, .int p0), (2, .int x2), (3, .int x3), (5, .int x5)] → W p l e (ac_rm 7) s m [.ref (ad 85), .int p0].toArray below meth c H locs 0 0 (MQ below (va_Qi (fun (r : Int32) (u : ac_U) => ac_R rg u ∧ ac_Fr [(85, some 0)] u0 u) (ac_B (dC, dI) vwCl (ac_ty cA) ad cA (TT nF) A) A) [.ref (ad 85), .int p0].toArray s 0 0 A) (F0 m 80 ls [.int z1, .int z0]) := by
        intro x2 x3 x5 z0 z1 u H locs ls hR hF f0 f1 f2 f3 f4 hP hD hS hl
        refine a_iaddU F dX12_now_80 (fun v1 => ?_)
        refine lv_istore (lv' := [(4, .int v1), (0, .ref (ad 85)), (1, .int p0), (2, .int x2), (3, .int x3), (5, .int x5)]) F.1 F.2.1 dX12_now_81 hl (by decide) rfl (fun ls hl => ?_)
        refine a_iinc F (k := 5) (fun v2 => [(5, .int v2), (4, .int v1), (0, .ref (ad 85)), (1, .int p0), (2, .int x2), (3, .int x3)]) dX12_now_83 hl rfl rfl (by decide) (by omega) (by decide) (fun _ => rfl) (fun v2 ls hv2 hl => ?_)
        refine lv_goto (tgt := 15) F.1 F.2.1 dX12_now_86 (by decide) ?_
        have g3 : (0 : Int) ≤ (u.1 85 0).toInt ∧ (u.1 85 0).toInt ≤ 1 := hR 85 0
        exact ih15 x2 x3 v1 v2 _ _ _ _ hR hF (by omega) (by omega) (by omega : (0 : Int) ≤ (u.1 85 0).toInt ∧ (u.1 85 0).toInt ≤ 0) hP hD hS (lv_sub hl [2, 3, 4, 5, 1, 0] rfl)
      have L46 : ∀ (x3 : Int32) (x4 : Int32) (x5 : Int32) (z0 : Int32) (z1 : Int32) (u : ac_U) (H : Heap) (locs : List Loc) (ls : Array Slot), ac_R rg u → ac_Fr [(85, some 0)] u0 u → (0 : Int) ≤ x5.toInt ∧ x5.toInt ≤ 7 → (0 : Int) ≤ z1.toInt ∧ z1.toInt ≤ 1 → (0 : Int) ≤ (u.1 85 0).toInt ∧ (u.1 85 0).toInt ≤ 0 → (1 : Int) ≤ (u.1 87 6).toInt ∧ (u.1 87 6).toInt ≤ 8 → 8 - x5.toInt + 0 < ((n15 : Nat) : Int) + 1 → va_P (dC, dI) vwCl (ac_w ad cA (TT nF) u) H → va_D A (ac_w ad cA (TT nF) u) → va_S A s.heap H locs → lv_has ls 6 [(0, .ref (ad 85)), (1, .int p0), (3, .int x3), (4, .int x4), (5, .int x5)] → W p l e (ac_rm 7) s m [.ref (ad 85), .int p0].toArray below meth c H locs 0 0 (MQ below (va_Qi (fun (r : Int32) (u : ac_U) => ac_R rg u ∧ ac_Fr [(85, some 0)] u0 u) (ac_B (dC, dI) vwCl (ac_ty cA) ad cA (TT nF) A) A) [.ref (ad 85), .int p0].toArray s 0 0 A) (F0 m 46 ls [.int z1, .int z0]) := by
        intro x3 x4 x5 z0 z1 u H locs ls hR hF f0 f1 f2 f3 f4 hP hD hS hl
        refine a_iaddU F dX12_now_46 (fun v4 => ?_)
        refine lv_istore_n (lv' := [(2, .int v4), (0, .ref (ad 85)), (1, .int p0), (3, .int x3), (4, .int x4), (5, .int x5)]) F.1 F.2.1 dX12_now_47 rfl hl (by decide) rfl (fun ls hl => ?_)
        refine lv_iload_n F.1 F.2.1 dX12_now_48 rfl (lv_at hl 3 rfl) ?_
        refine lv_aload_n F.1 F.2.1 dX12_now_49 rfl (lv_at hl 1 rfl) ?_
        refine a_getr F inX12 hP 85 6 tc_85 rfl rfl (by decide) q1477 (fun _ h9 => h9) dX12_now_50 ?_
        refine a_sp F (132 : Int32) dX12_now_53 (by decide) ?_
        refine lv_iload F.1 F.2.1 dX12_now_56 (lv_at hl 5 rfl) ?_
        refine a_iadd F dX12_now_58 ic_132 rfl (by omega) (fun v5 hv5 => ?_)
        refine a_iald F hP 87 tc_87 rfl (i_in rfl (by omega)) dX12_now_59 (fun v6 ev6 => ?_)
        refine a_iaddU F dX12_now_60 (fun v7 => ?_)
        refine lv_istore_n (lv' := [(3, .int v7), (2, .int v4), (0, .ref (ad 85)), (1, .int p0), (4, .int x4), (5, .int x5)]) F.1 F.2.1 dX12_now_61 rfl hl (by decide) rfl (fun ls hl => ?_)
        refine lv_iload F.1 F.2.1 dX12_now_62 (lv_at hl 4 rfl) ?_
        refine lv_aload_n F.1 F.2.1 dX12_now_64 rfl (lv_at hl 2 rfl) ?_
        refine lv_iload F.1 F.2.1 dX12_now_65 (lv_at hl 5 rfl) ?_
        refine a_ic F (0 : Int32) dX12_now_67 (by decide) ?_
        refine a_Vi F hml hl.1 hA hP hD hS (As := [.int x5, .int (0 : Int32)]) (c_X12_statusOf_85 l dC dI ad cA nF _ x5 (0 : Int32) hR (by omega) (by decide)) (cs_RX12_257 (d := 6) F.2.2.1 (by decide)) tc_85 rfl rfl rfl rfl (Nat.le_of_ble_eq_true rfl) dX12_now_68 ⟨Nat.le_refl 0, Nat.le_refl 0⟩ (fun r8 uN8 H locs hq hP hD hS => ?_)
        obtain ⟨hu8, gr8⟩ := hq
        rw [hu8] at hP hD
        refine a_ic F (4 : Int32) dX12_now_71 (by decide) ?_
        refine b_ne F 79 dX12_now_72 (by decide) rfl ic_4 (fun c9 => ?_) (fun c9 => ?_)
        · refine a_ic F (0 : Int32) dX12_now_79 (by decide) ?_
          have g10 : (0 : Int) ≤ (u.1 85 0).toInt ∧ (u.1 85 0).toInt ≤ 1 := hR 85 0
          have g11 : (0 : Int) ≤ (u.1 87 6).toInt ∧ (u.1 87 6).toInt ≤ 8 := hR 87 6
          exact L80 v4 v7 x5 x4 (0 : Int32) _ _ _ _ hR hF (by omega) (by decide) (by omega : (0 : Int) ≤ (u.1 85 0).toInt ∧ (u.1 85 0).toInt ≤ 0) (by omega : (1 : Int) ≤ (u.1 87 6).toInt ∧ (u.1 87 6).toInt ≤ 8) (by omega) hP hD hS (lv_sub hl [2, 3, 1, 0, 5] rfl)
        · refine a_ic F (1 : Int32) dX12_now_75 (by decide) ?_
          refine lv_goto (tgt := 80) F.1 F.2.1 dX12_now_76 (by decide) ?_
          have g12 : (0 : Int) ≤ (u.1 85 0).toInt ∧ (u.1 85 0).toInt ≤ 1 := hR 85 0
          have g13 : (0 : Int) ≤ (u.1 87 6).toInt ∧ (u.1 87 6).toInt ≤ 8 := hR 87 6
          exact L80 v4 v7 x5 x4 (1 : Int32) _ _ _ _ hR hF (by omega) (by decide) (by omega : (0 : Int) ≤ (u.1 85 0).toInt ∧ (u.1 85 0).toInt ≤ 0) (by omega : (1 : Int) ≤ (u.1 87 6).toInt ∧ (u.1 87 6).toInt ≤ 8) (by omega) hP hD hS (lv_sub hl [2, 3, 1, 0, 5] rfl)
      refine lv_iload F.1 F.2.1 dX12_now_15 (lv_at hl 5 rfl) ?_
      refine lv_aload_n F.1 F.2.1 dX12_now_17 rfl (lv_at hl 0 rfl) ?_
      refine a_getr F inX12 hP 85 6 tc_85 rfl rfl (by decide) q1477 (fun _ h9 => h9) dX12_now_18 ?_
      refine a_bp F (6 : Int32) dX12_now_21 (by decide) ?_
      have g14 : (0 : Int) ≤ (u.1 87 6).toInt ∧ (u.1 87 6).toInt ≤ 8 := hR 87 6
      refine a_ialdK F hP 87 6 tc_87 rfl rfl (i_in ic_6 (by omega)) (v := (u.1 87 6)) rfl dX12_now_23 ?_
      refine b_ge F 89 dX12_now_24 (by decide) rfl rfl (fun c15 => ?_) (fun c15 => ?_)
      · refine lv_iload_n F.1 F.2.1 dX12_now_89 rfl (lv_at hl 1 rfl) ?_
        rcases (show (p0.toInt < 0 ∨ 5 < p0.toInt) ∨ p0.toInt = 0 ∨ p0.toInt = 1 ∨ p0.toInt = 2 ∨ p0.toInt = 3 ∨ p0.toInt = 4 ∨ p0.toInt = 5 by omega) with c16 | c16 | c16 | c16 | c16 | c16 | c16
        · refine lv_tableOut (tgt := 163) F.1 F.2.1 dX12_now_90 c16 (by decide) ?_
          refine a_ic F (-1 : Int32) dX12_now_163 (by decide) ?_
          exact a_reti F hr hlocks hP hD hS dX12_now_164 ⟨hR, hF⟩
        · refine lv_tableIn (tgt := 128) F.1 F.2.1 dX12_now_90 (by omega) (by omega) (by rw [c16]; rfl) (by decide) ?_
          refine lv_aload_n F.1 F.2.1 dX12_now_128 rfl (lv_at hl 0 rfl) ?_
          refine a_Vi F hml hl.1 hA hP hD hS (As := []) (c_X12_dayNow_85 l dC dI ad cA nF _  hR) (cs_RX12_260 (d := 1) F.2.2.1 (by decide)) tc_85 rfl rfl rfl rfl (Nat.le_of_ble_eq_true rfl) dX12_now_129 ⟨Nat.le_refl 0, Nat.le_refl 0⟩ (fun r17 uN17 H locs hq hP hD hS => ?_)
          obtain ⟨hu17, gr17⟩ := hq
          rw [hu17] at hP hD
          exact a_reti F hr hlocks hP hD hS dX12_now_132 ⟨hR, hF⟩
        · refine lv_tableIn (tgt := 133) F.1 F.2.1 dX12_now_90 (by omega) (by omega) (by rw [c16]; rfl) (by decide) ?_
          refine lv_aload_n F.1 F.2.1 dX12_now_133 rfl (lv_at hl 0 rfl) ?_
          refine a_getr F inX12 hP 85 6 tc_85 rfl rfl (by decide) q1477 (fun _ h9 => h9) dX12_now_134 ?_
          refine a_bp F (106 : Int32) dX12_now_137 (by decide) ?_
          have g18 : (0 : Int) ≤ (u.1 87 106).toInt ∧ (u.1 87 106).toInt ≤ 480 := hR 87 106
          refine a_ialdK F hP 87 106 tc_87 rfl rfl (i_in ic_106 (by omega)) (v := (u.1 87 106)) rfl dX12_now_139 ?_
          refine lv_aload_n F.1 F.2.1 dX12_now_140 rfl (lv_at hl 0 rfl) ?_
          refine a_getr F inX12 hP 85 6 tc_85 rfl rfl (by decide) q1477 (fun _ h9 => h9) dX12_now_141 ?_
          refine a_ic F (0 : Int32) dX12_now_144 (by decide) ?_
          have g19 : (4 : Int) ≤ (u.1 87 0).toInt ∧ (u.1 87 0).toInt ≤ 24 := hR 87 0
          refine a_ialdK F hP 87 0 tc_87 rfl rfl (i_in ic_0 (by omega)) (v := (u.1 87 0)) rfl dX12_now_145 ?_
          refine a_irem F dX12_now_146 rfl rfl (by omega) (fun v20 hv20 => ?_)
          exact a_reti F hr hlocks hP hD hS dX12_now_147 ⟨hR, hF⟩
        · refine lv_tableIn (tgt := 148) F.1 F.2.1 dX12_now_90 (by omega) (by omega) (by rw [c16]; rfl) (by decide) ?_
          refine lv_aload_n F.1 F.2.1 dX12_now_148 rfl (lv_at hl 0 rfl) ?_
          refine a_getr F inX12 hP 85 6 tc_85 rfl rfl (by decide) q1477 (fun _ h9 => h9) dX12_now_149 ?_
          refine a_bp F (123 : Int32) dX12_now_152 (by decide) ?_
          have g21 : (0 : Int) ≤ (u.1 87 123).toInt ∧ (u.1 87 123).toInt ≤ 80 := hR 87 123
          refine a_ialdK F hP 87 123 tc_87 rfl rfl (i_in ic_123 (by omega)) (v := (u.1 87 123)) rfl dX12_now_154 ?_
          exact a_reti F hr hlocks hP hD hS dX12_now_155 ⟨hR, hF⟩
        · refine lv_tableIn (tgt := 156) F.1 F.2.1 dX12_now_90 (by omega) (by omega) (by rw [c16]; rfl) (by decide) ?_
          refine lv_iload_n F.1 F.2.1 dX12_now_156 rfl (lv_at hl 2 rfl) ?_
          exact a_reti F hr hlocks hP hD hS dX12_now_157 ⟨hR, hF⟩
        · refine lv_tableIn (tgt := 158) F.1 F.2.1 dX12_now_90 (by omega) (by omega) (by rw [c16]; rfl) (by decide) ?_
          refine lv_iload_n F.1 F.2.1 dX12_now_158 rfl (lv_at hl 3 rfl) ?_
          exact a_reti F hr hlocks hP hD hS dX12_now_159 ⟨hR, hF⟩
        · refine lv_tableIn (tgt := 160) F.1 F.2.1 dX12_now_90 (by omega) (by omega) (by rw [c16]; rfl) (by decide) ?_
          refine lv_iload F.1 F.2.1 dX12_now_160 (lv_at hl 4 rfl) ?_
          exact a_reti F hr hlocks hP hD hS dX12_now_162 ⟨hR, hF⟩
      · refine lv_iload_n F.1 F.2.1 dX12_now_27 rfl (lv_at hl 2 rfl) ?_
        refine lv_aload_n F.1 F.2.1 dX12_now_28 rfl (lv_at hl 0 rfl) ?_
        refine a_getr F inX12 hP 85 6 tc_85 rfl rfl (by decide) q1477 (fun _ h9 => h9) dX12_now_29 ?_
        refine a_bp F (124 : Int32) dX12_now_32 (by decide) ?_
        refine lv_iload F.1 F.2.1 dX12_now_34 (lv_at hl 5 rfl) ?_
        refine a_iadd F dX12_now_36 ic_124 rfl (by omega) (fun v22 hv22 => ?_)
        refine a_iald F hP 87 tc_87 rfl (i_in rfl (by omega)) dX12_now_37 (fun v23 ev23 => ?_)
        have hv23 : (0 : Int) ≤ v23.toInt ∧ v23.toInt ≤ 481 := rg_seg_87_124_131 hR ev23 (by omega)
        refine z_le F 45 dX12_now_38 (by decide) rfl (fun c24 => ?_) (fun c24 => ?_)
        · refine a_ic F (0 : Int32) dX12_now_45 (by decide) ?_
          have g25 : (0 : Int) ≤ (u.1 85 0).toInt ∧ (u.1 85 0).toInt ≤ 1 := hR 85 0
          exact L46 x3 x4 x5 x2 (0 : Int32) _ _ _ _ hR hF (by omega) (by decide) (by omega : (0 : Int) ≤ (u.1 85 0).toInt ∧ (u.1 85 0).toInt ≤ 0) (by omega : (1 : Int) ≤ (u.1 87 6).toInt ∧ (u.1 87 6).toInt ≤ 8) (by omega) hP hD hS (lv_sub hl [0, 1, 3, 4, 5] rfl)
        · refine a_ic F (1 : Int32) dX12_now_41 (by decide) ?_
          refine lv_goto (tgt := 46) F.1 F.2.1 dX12_now_42 (by decide) ?_
          have g26 : (0 : Int) ≤ (u.1 85 0).toInt ∧ (u.1 85 0).toInt ≤ 1 := hR 85 0
          exact L46 x3 x4 x5 x2 (1 : Int32) _ _ _ _ hR hF (by omega) (by decide) (by omega : (0 : Int) ≤ (u.1 85 0).toInt ∧ (u.1 85 0).toInt ≤ 0) (by omega : (1 : Int) ≤ (u.1 87 6).toInt ∧ (u.1 87 6).toInt ≤ 8) (by omega) hP hD hS (lv_sub hl [0, 1, 3, 4, 5] rfl)
  refine lv_aload_n F.1 F.2.1 dX12_now_0 rfl (lv_at hl 0 rfl) ?_
  refine a_ic F (0 : Int32) dX12_now_1 (by decide) ?_
  refine a_puti F inX12 tyX12 tyX12_ok nmX12 hP hD hS 85 0 tc_85 rfl rfl (by decide) q1471 (fun _ h9 => h9) rfl (ty := .int) (tyX12_ok 0 (by decide)) rfl rfl dX12_now_2 (fun H locs hP hD hS => ?_)
  have hR := hR.si (c := 85) (k := 0) (v := (0 : Int32)) (by rw [ic_0]; exact (by omega : (0 : Int) ≤ (0 : Int) ∧ (0 : Int) ≤ 1))
  have hF := hF.si (c := 85) (k := 0) (v := (0 : Int32)) rfl
  refine a_ic F (0 : Int32) dX12_now_5 (by decide) ?_
  refine lv_istore_n (lv' := [(2, .int (0 : Int32)), (0, .ref (ad 85)), (1, .int p0)]) F.1 F.2.1 dX12_now_6 rfl hl (by decide) rfl (fun ls hl => ?_)
  refine a_ic F (0 : Int32) dX12_now_7 (by decide) ?_
  refine lv_istore_n (lv' := [(3, .int (0 : Int32)), (2, .int (0 : Int32)), (0, .ref (ad 85)), (1, .int p0)]) F.1 F.2.1 dX12_now_8 rfl hl (by decide) rfl (fun ls hl => ?_)
  refine a_ic F (0 : Int32) dX12_now_9 (by decide) ?_
  refine lv_istore (lv' := [(4, .int (0 : Int32)), (3, .int (0 : Int32)), (2, .int (0 : Int32)), (0, .ref (ad 85)), (1, .int p0)]) F.1 F.2.1 dX12_now_10 hl (by decide) rfl (fun ls hl => ?_)
  refine a_ic F (0 : Int32) dX12_now_12 (by decide) ?_
  refine lv_istore (lv' := [(5, .int (0 : Int32)), (4, .int (0 : Int32)), (3, .int (0 : Int32)), (2, .int (0 : Int32)), (0, .ref (ad 85)), (1, .int p0)]) F.1 F.2.1 dX12_now_13 hl (by decide) rfl (fun ls hl => ?_)
  exact L15 10 (0 : Int32) (0 : Int32) (0 : Int32) (0 : Int32) _ _ _ _ hR hF (by decide) (by decide) (by omega : (0 : Int) ≤ (0 : Int) ∧ (0 : Int) ≤ 0) hP hD hS (lv_sub hl [4, 5, 3, 2, 1, 0] rfl)
set_option maxHeartbeats 600000 in
set_option maxRecDepth 100000 in
theorem c_X12_sign_85 (l : Launch) (dC : Nat → ClassId) (dI : Nat → Nat → Nat) (ad : Nat → Nat) (cA : Nat → ClassId) (nF : Nat) (u0 : ac_U) (p0 : Int32) (hR : ac_R rg u0) (hp0 : (59 : Int) ≤ p0.toInt ∧ p0.toInt ≤ 59) : ac_Mi l yX12_sign (.code yX12_sign cX12_sign 2 (some .boolean) :: TB) 3 (dC, dI) vwCl (ac_ty cA) ad cA (TT nF) [.ref (ad 85), .int p0] u0 (fun (r : Int32) (u : ac_U) => ac_R rg u ∧ ac_Fr [(85, some 4), (85, some 11), (85, some 12), (85, some 13), (85, some 14), (85, some 15), (85, some 16)] u0 u ∧ ((0 : Int) ≤ r.toInt ∧ r.toInt ≤ 1)) := by
  refine ac_Mi.of (cc := cX12_sign) (maxL := 2) (ret := (some .boolean)) (by decide) rfl (Nat.le_of_ble_eq_true rfl) ?_
  intro p e s m below meth c A ls F hml hr hlocks hA hP hD hS hl
  have F : ac_X p s m [.ref (ad 85), .int p0].toArray c cX12_sign RX12 TB (dC, dI) vwCl (ac_ty cA) := ⟨F.1, F.2.1, fun w h => F.2.2.1 w (List.mem_cons_of_mem _ h), F.2.2.2.1, F.2.2.2.2⟩
  have hl : lv_has ls 2 [(0, .ref (ad 85)), (1, .int p0)] := hl
  have hF : ac_Fr [(85, some 4), (85, some 11), (85, some 12), (85, some 13), (85, some 14), (85, some 15), (85, some 16)] u0 u0 := ac_Fr.rf
  refine lv_aload_n F.1 F.2.1 dX12_sign_0 rfl (lv_at hl 0 rfl) ?_
  refine lv_iload_n F.1 F.2.1 dX12_sign_1 rfl (lv_at hl 1 rfl) ?_
  refine a_Vi F hml hl.1 hA hP hD hS (As := [.int p0]) (c_X12_isSign_85 l dC dI ad cA nF _ p0 hR (by omega)) (cs_RX12_178 (d := 1) F.2.2.1 (by decide)) tc_85 rfl rfl rfl rfl (Nat.le_of_ble_eq_true rfl) dX12_sign_2 ⟨Nat.le_refl 0, Nat.le_refl 0⟩ (fun r1 uN1 H locs hq hP hD hS => ?_)
  obtain ⟨hu1, gr1⟩ := hq
  rw [hu1] at hP hD
  refine z_ne F 14 dX12_sign_5 (by decide) rfl (fun c2 => ?_) (fun c2 => ?_)
  · refine lv_aload_n F.1 F.2.1 dX12_sign_14 rfl (lv_at hl 0 rfl) ?_
    refine a_Vv F hml hl.1 hA hP hD hS (As := []) (c_X12_next_85 l dC dI ad cA nF _  hR) (cs_RX12_184 (d := 2) F.2.2.1 (by decide)) tc_85 rfl rfl rfl rfl (Nat.le_of_ble_eq_true rfl) dX12_sign_15 ⟨Nat.le_refl 0, Nat.le_refl 0⟩ (fun u3 H locs hq hP hD hS => ?_)
    obtain ⟨hR, hF3⟩ := hq
    have hF := hF.tr hF3 (by decide)
    refine a_ic F (1 : Int32) dX12_sign_18 (by decide) ?_
    exact a_retz F hr hlocks hP hD hS dX12_sign_19 (Or.inr rfl) ⟨hR, hF, (by decide)⟩
  · refine lv_aload_n F.1 F.2.1 dX12_sign_8 rfl (lv_at hl 0 rfl) ?_
    refine a_ic F (1 : Int32) dX12_sign_9 (by decide) ?_
    refine a_Vi F hml hl.1 hA hP hD hS (As := [.int (1 : Int32)]) (c_X12_bad_85 l dC dI ad cA nF _ (1 : Int32) hR (by decide)) (cs_RX12_181 (d := 1) F.2.2.1 (by decide)) tc_85 rfl rfl rfl rfl (Nat.le_of_ble_eq_true rfl) dX12_sign_10 ⟨Nat.le_refl 0, Nat.le_refl 0⟩ (fun r4 u4 H locs hq hP hD hS => ?_)
    obtain ⟨hR, hF4, gr4⟩ := hq
    have hF := hF.tr hF4 (by decide)
    exact a_retz F hr hlocks hP hD hS dX12_sign_13 (i_01 (by omega)) ⟨hR, hF, (by omega : (0 : Int) ≤ r4.toInt ∧ r4.toInt ≤ 1)⟩

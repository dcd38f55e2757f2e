set_option maxHeartbeats 600000 in
set_option maxRecDepth 100000 in
theorem c_X12_isIn_f (l : Launch) (dC : Nat → ClassId) (dI : Nat → Nat → Nat) (ad : Nat → Nat) (cA : Nat → ClassId) (nF : Nat) (u0 : ac_U) (p0 : Int32) (p1 : Int32) (p2 : Int32) (hR : ac_R rg u0) (hp2 : p2.toInt ≤ 1000) : ac_Mi l yX12_isIn (.code yX12_isIn cX12_isIn 3 (some .boolean) :: TB) 1 (dC, dI) vwCl (ac_ty cA) ad cA (TT nF) [.int p0, .int p1, .int p2] u0 (fun (r : Int32) (u : ac_U) => u = u0 ∧ ((0 : Int) ≤ r.toInt ∧ r.toInt ≤ 1) ∧ ((r.toInt ≠ 0 → p1.toInt ≤ p0.toInt ∧ p0.toInt ≤ p2.toInt) ∧ (r.toInt = 0 → p0.toInt < p1.toInt ∨ p2.toInt < p0.toInt))) := by
  refine ac_Mi.of (cc := cX12_isIn) (maxL := 3) (ret := (some .boolean)) (by decide) rfl (Nat.le_of_ble_eq_true rfl) ?_
  intro p e s m below meth c A ls F hml hr hlocks hA hP hD hS hl
  have F : ac_X p s m [.int p0, .int p1, .int p2].toArray c cX12_isIn RX12 TB (dC, dI) vwCl (ac_ty cA) := ⟨F.1, F.2.1, fun w h => F.2.2.1 w (List.mem_cons_of_mem _ h), F.2.2.2.1, F.2.2.2.2⟩
  have hl : lv_has ls 3 [(0, .int p0), (1, .int p1), (2, .int p2)] := hl
  refine lv_iload_n F.1 F.2.1 dX12_isIn_0 rfl (lv_at hl 0 rfl) ?_
  refine lv_iload_n F.1 F.2.1 dX12_isIn_1 rfl (lv_at hl 1 rfl) ?_
  refine b_lt F 14 dX12_isIn_2 (by decide) rfl rfl (fun c1 => ?_) (fun c1 => ?_)
  · refine a_ic F (0 : Int32) dX12_isIn_14 (by decide) ?_
    exact a_retz F hr hlocks hP hD hS dX12_isIn_15 (Or.inl rfl) ⟨rfl, (by decide), (by first | exact (by omega : ((0 : Int) ≠ 0 → p1.toInt ≤ p0.toInt ∧ p0.toInt ≤ p2.toInt) ∧ ((0 : Int) = 0 → p0.toInt < p1.toInt ∨ p2.toInt < p0.toInt)) | (rw [ic_0]; exact (by omega : ((0 : Int) ≠ 0 → p1.toInt ≤ p0.toInt ∧ p0.toInt ≤ p2.toInt) ∧ ((0 : Int) = 0 → p0.toInt < p1.toInt ∨ p2.toInt < p0.toInt))))⟩
  · refine lv_iload_n F.1 F.2.1 dX12_isIn_5 rfl (lv_at hl 0 rfl) ?_
    refine lv_iload_n F.1 F.2.1 dX12_isIn_6 rfl (lv_at hl 2 rfl) ?_
    refine b_gt F 14 dX12_isIn_7 (by decide) rfl rfl (fun c2 => ?_) (fun c2 => ?_)
    · refine a_ic F (0 : Int32) dX12_isIn_14 (by decide) ?_
      exact a_retz F hr hlocks hP hD hS dX12_isIn_15 (Or.inl rfl) ⟨rfl, (by decide), (by first | exact (by omega : ((0 : Int) ≠ 0 → p1.toInt ≤ p0.toInt ∧ p0.toInt ≤ p2.toInt) ∧ ((0 : Int) = 0 → p0.toInt < p1.toInt ∨ p2.toInt < p0.toInt)) | (rw [ic_0]; exact (by omega : ((0 : Int) ≠ 0 → p1.toInt ≤ p0.toInt ∧ p0.toInt ≤ p2.toInt) ∧ ((0 : Int) = 0 → p0.toInt < p1.toInt ∨ p2.toInt < p0.toInt))))⟩
    · refine a_ic F (1 : Int32) dX12_isIn_10 (by decide) ?_
      refine lv_goto (tgt := 15) F.1 F.2.1 dX12_isIn_11 (by decide) ?_
      exact a_retz F hr hlocks hP hD hS dX12_isIn_15 (Or.inr rfl) ⟨rfl, (by decide), (by first | exact (by omega : ((1 : Int) ≠ 0 → p1.toInt ≤ p0.toInt ∧ p0.toInt ≤ p2.toInt) ∧ ((1 : Int) = 0 → p0.toInt < p1.toInt ∨ p2.toInt < p0.toInt)) | (rw [ic_1]; exact (by omega : ((1 : Int) ≠ 0 → p1.toInt ≤ p0.toInt ∧ p0.toInt ≤ p2.toInt) ∧ ((1 : Int) = 0 → p0.toInt < p1.toInt ∨ p2.toInt < p0.toInt))))⟩
set_option maxHeartbeats 600000 in
set_option maxRecDepth 100000 in
theorem c_X12_bitOf_f (l : Launch) (dC : Nat → ClassId) (dI : Nat → Nat → Nat) (ad : Nat → Nat) (cA : Nat → ClassId) (nF : Nat) (u0 : ac_U) (p0 : Int32) (p1 : Int32) (hR : ac_R rg u0) (hp1 : (-128 : Int) ≤ p1.toInt ∧ p1.toInt ≤ 99) : ac_Mi l yX12_bitOf (.code yX12_bitOf cX12_bitOf 2 (some .boolean) :: TB) 1 (dC, dI) vwCl (ac_ty cA) ad cA (TT nF) [.int p0, .int p1] u0 (fun (r : Int32) (u : ac_U) => u = u0 ∧ ((0 : Int) ≤ r.toInt ∧ r.toInt ≤ 1) ∧ (r.toInt = btZ p0.toInt p1.toInt)) := by
  refine ac_Mi.of (cc := cX12_bitOf) (maxL := 2) (ret := (some .boolean)) (by decide) rfl (Nat.le_of_ble_eq_true rfl) ?_
  intro p e s m below meth c A ls F hml hr hlocks hA hP hD hS hl
  have F : ac_X p s m [.int p0, .int p1].toArray c cX12_bitOf RX12 TB (dC, dI) vwCl (ac_ty cA) := ⟨F.1, F.2.1, fun w h => F.2.2.1 w (List.mem_cons_of_mem _ h), F.2.2.2.1, F.2.2.2.2⟩
  have hl : lv_has ls 2 [(0, .int p0), (1, .int p1)] := hl
  refine lv_iload_n F.1 F.2.1 dX12_bitOf_0 rfl (lv_at hl 0 rfl) ?_
  refine lv_iload_n F.1 F.2.1 dX12_bitOf_1 rfl (lv_at hl 1 rfl) ?_
  refine lv_ishr F.1 F.2.1 dX12_bitOf_2 ?_
  refine a_ic F (1 : Int32) dX12_bitOf_3 (by decide) ?_
  refine lv_iand F.1 F.2.1 dX12_bitOf_4 ?_
  refine lv_topi (fun v1 ev1 => ?_)
  have hbv1 := bt_i ev1
  have hv1 := hbv1.2
  refine a_ic F (1 : Int32) dX12_bitOf_5 (by decide) ?_
  refine b_ne F 13 dX12_bitOf_6 (by decide) rfl ic_1 (fun c2 => ?_) (fun c2 => ?_)
  · refine a_ic F (0 : Int32) dX12_bitOf_13 (by decide) ?_
    exact a_retz F hr hlocks hP hD hS dX12_bitOf_14 (Or.inl rfl) ⟨rfl, (by decide), (by first | exact (by omega : (0 : Int) = btZ p0.toInt p1.toInt) | (rw [ic_0]; exact (by omega : (0 : Int) = btZ p0.toInt p1.toInt)))⟩
  · refine a_ic F (1 : Int32) dX12_bitOf_9 (by decide) ?_
    refine lv_goto (tgt := 14) F.1 F.2.1 dX12_bitOf_10 (by decide) ?_
    exact a_retz F hr hlocks hP hD hS dX12_bitOf_14 (Or.inr rfl) ⟨rfl, (by decide), (by first | exact (by omega : (1 : Int) = btZ p0.toInt p1.toInt) | (rw [ic_1]; exact (by omega : (1 : Int) = btZ p0.toInt p1.toInt)))⟩
set_option maxHeartbeats 600000 in
set_option maxRecDepth 100000 in
theorem c_X12_lesser_f (l : Launch) (dC : Nat → ClassId) (dI : Nat → Nat → Nat) (ad : Nat → Nat) (cA : Nat → ClassId) (nF : Nat) (u0 : ac_U) (p0 : Int32) (p1 : Int32) (hR : ac_R rg u0) (hp0 : p0.toInt ≤ 1000) : ac_Mi l yX12_lesser (.code yX12_lesser cX12_lesser 2 (some .int) :: TB) 1 (dC, dI) vwCl (ac_ty cA) ad cA (TT nF) [.int p0, .int p1] u0 (fun (r : Int32) (u : ac_U) => u = u0 ∧ (r.toInt ≤ 1000) ∧ (r.toInt = min p0.toInt p1.toInt)) := by
  refine ac_Mi.of (cc := cX12_lesser) (maxL := 2) (ret := (some .int)) (by decide) rfl (Nat.le_of_ble_eq_true rfl) ?_
  intro p e s m below meth c A ls F hml hr hlocks hA hP hD hS hl
  have F : ac_X p s m [.int p0, .int p1].toArray c cX12_lesser RX12 TB (dC, dI) vwCl (ac_ty cA) := ⟨F.1, F.2.1, fun w h => F.2.2.1 w (List.mem_cons_of_mem _ h), F.2.2.2.1, F.2.2.2.2⟩
  have hl : lv_has ls 2 [(0, .int p0), (1, .int p1)] := hl
  refine lv_iload_n F.1 F.2.1 dX12_lesser_0 rfl (lv_at hl 0 rfl) ?_
  refine lv_iload_n F.1 F.2.1 dX12_lesser_1 rfl (lv_at hl 1 rfl) ?_
  refine b_ge F 9 dX12_lesser_2 (by decide) rfl rfl (fun c1 => ?_) (fun c1 => ?_)
  · refine lv_iload_n F.1 F.2.1 dX12_lesser_9 rfl (lv_at hl 1 rfl) ?_
    exact a_reti F hr hlocks hP hD hS dX12_lesser_10 ⟨rfl, (by omega : p1.toInt ≤ 1000), (by omega : p1.toInt = min p0.toInt p1.toInt)⟩
  · refine lv_iload_n F.1 F.2.1 dX12_lesser_5 rfl (lv_at hl 0 rfl) ?_
    refine lv_goto (tgt := 10) F.1 F.2.1 dX12_lesser_6 (by decide) ?_
    exact a_reti F hr hlocks hP hD hS dX12_lesser_10 ⟨rfl, (by omega : p0.toInt ≤ 1000), (by omega : p0.toInt = min p0.toInt p1.toInt)⟩
set_option maxHeartbeats 600000 in
set_option maxRecDepth 100000 in
theorem c_X12_lastOf_85_f (l : Launch) (dC : Nat → ClassId) (dI : Nat → Nat → Nat) (ad : Nat → Nat) (cA : Nat → ClassId) (nF : Nat) (u0 : ac_U) (p0 : Int32) (p1 : Int32) (hR : ac_R rg u0) (hp0 : (0 : Int) ≤ p0.toInt ∧ p0.toInt ≤ 7) (hp1 : (0 : Int) ≤ p1.toInt ∧ p1.toInt ≤ 0) : ac_Mi l yX12_lastOf (.code yX12_lastOf cX12_lastOf 3 (some .int) :: TB) 2 (dC, dI) vwCl (ac_ty cA) ad cA (TT nF) [.ref (ad 85), .int p0, .int p1] u0 (fun (r : Int32) (u : ac_U) => u = u0 ∧ (r.toInt ≤ 1000) ∧ (r.toInt = laS u0 p0.toInt)) := by
  refine ac_Mi.of (cc := cX12_lastOf) (maxL := 3) (ret := (some .int)) (by decide) rfl (Nat.le_of_ble_eq_true rfl) ?_
  intro p e s m below meth c A ls F hml hr hlocks hA hP hD hS hl
  have F : ac_X p s m [.ref (ad 85), .int p0, .int p1].toArray c cX12_lastOf RX12 TB (dC, dI) vwCl (ac_ty cA) := ⟨F.1, F.2.1, fun w h => F.2.2.1 w (List.mem_cons_of_mem _ h), F.2.2.2.1, F.2.2.2.2⟩
  have hl : lv_has ls 3 [(0, .ref (ad 85)), (1, .int p0), (2, .int p1)] := hl
  refine lv_aload_n F.1 F.2.1 dX12_lastOf_0 rfl (lv_at hl 0 rfl) ?_
  refine a_getr F inX12 hP 85 6 tc_85 rfl rfl (by decide) q1477 (fun _ h9 => h9) dX12_lastOf_1 ?_
  refine a_ic F (0 : Int32) dX12_lastOf_4 (by decide) ?_
  have g1 : (4 : Int) ≤ (u0.1 87 0).toInt ∧ (u0.1 87 0).toInt ≤ 24 := hR 87 0
  refine a_ialdK F hP 87 0 tc_87 rfl rfl (i_in ic_0 (by omega)) (v := (u0.1 87 0)) rfl dX12_lastOf_5 ?_
  refine a_ic F (1 : Int32) dX12_lastOf_6 (by decide) ?_
  refine a_isub F dX12_lastOf_7 rfl ic_1 (by omega) (fun v2 hv2 => ?_)
  refine lv_aload_n F.1 F.2.1 dX12_lastOf_8 rfl (lv_at hl 0 rfl) ?_
  refine a_getr F inX12 hP 85 6 tc_85 rfl rfl (by decide) q1477 (fun _ h9 => h9) dX12_lastOf_9 ?_
  refine a_bp F (58 : Int32) dX12_lastOf_12 (by decide) ?_
  refine lv_iload_n F.1 F.2.1 dX12_lastOf_14 rfl (lv_at hl 1 rfl) ?_
  refine a_iadd F dX12_lastOf_15 ic_58 rfl (by omega) (fun v3 hv3 => ?_)
  refine a_iald F hP 87 tc_87 rfl (i_in rfl (by omega)) dX12_lastOf_16 (fun v4 ev4 => ?_)
  have hs16 : v4.toInt = sG u0 (58 + p0.toInt) := sG_of ev4 (by omega)
  refine lv_iload_n F.1 F.2.1 dX12_lastOf_17 rfl (lv_at hl 2 rfl) ?_
  refine a_ic F (0 : Int32) dX12_lastOf_18 (by decide) ?_
  refine a_Si F hml hl.1 hA hP hD hS (As := [.int p1, .int (0 : Int32)]) (c_X12_bitOf_f l dC dI ad cA nF _ p1 (0 : Int32) hR (by decide)) (cs_RX12_223 (d := 1) F.2.2.1 (by decide)) rfl rfl (Nat.le_of_ble_eq_true rfl) dX12_lastOf_19 ⟨Nat.le_refl 0, Nat.le_refl 0⟩ (fun r5 uN5 H locs hq hP hD hS => ?_)
  obtain ⟨hu5, gr5, xr5⟩ := hq
  rw [hu5] at hP hD
  have xr5 : r5.toInt = btZ p1.toInt (0 : Int) := xr5
  refine z_eq F 29 dX12_lastOf_22 (by decide) rfl (fun c6 => ?_) (fun c6 => ?_)
  · refine a_ic F (0 : Int32) dX12_lastOf_29 (by decide) ?_
    refine a_isub F dX12_lastOf_30 rfl ic_0 (by have q0 := i_lo v4; have q1 := i_hi v4; omega) (fun v7 hv7 => ?_)
    refine a_Si F hml hl.1 hA hP hD hS (As := [.int v2, .int v7]) (c_X12_lesser_f l dC dI ad cA nF _ v2 v7 hR (by omega)) (cs_RX12_295 (d := 1) F.2.2.1 (by decide)) rfl rfl (Nat.le_of_ble_eq_true rfl) dX12_lastOf_31 ⟨Nat.le_refl 0, Nat.le_refl 0⟩ (fun r8 uN8 H locs hq hP hD hS => ?_)
    obtain ⟨hu8, gr8, xr8⟩ := hq
    rw [hu8] at hP hD
    have xr8 : r8.toInt = min v2.toInt v7.toInt := xr8
    exact a_reti F hr hlocks hP hD hS dX12_lastOf_34 ⟨rfl, (by omega : r8.toInt ≤ 1000), (by have h8 := bt_0 (p := p1.toInt) (by omega); unfold laS; omega)⟩
  · refine a_ic F (1 : Int32) dX12_lastOf_25 (by decide) ?_
    refine lv_goto (tgt := 30) F.1 F.2.1 dX12_lastOf_26 (by decide) ?_
    refine a_isubU F dX12_lastOf_30 (fun v9 => ?_)
    refine a_Si F hml hl.1 hA hP hD hS (As := [.int v2, .int v9]) (c_X12_lesser_f l dC dI ad cA nF _ v2 v9 hR (by omega)) (cs_RX12_295 (d := 1) F.2.2.1 (by decide)) rfl rfl (Nat.le_of_ble_eq_true rfl) dX12_lastOf_31 ⟨Nat.le_refl 0, Nat.le_refl 0⟩ (fun r10 uN10 H locs hq hP hD hS => ?_)
    obtain ⟨hu10, gr10, xr10⟩ := hq
    rw [hu10] at hP hD
    have xr10 : r10.toInt = min v2.toInt v9.toInt := xr10
    exact a_reti F hr hlocks hP hD hS dX12_lastOf_34 ⟨rfl, (by omega : r10.toInt ≤ 1000), (by have h8 := bt_0 (p := p1.toInt) (by omega); unfold laS; omega)⟩
set_option maxHeartbeats 600000 in
set_option maxRecDepth 100000 in
theorem c_X12_leftIn_f (l : Launch) (dC : Nat → ClassId) (dI : Nat → Nat → Nat) (ad : Nat → Nat) (cA : Nat → ClassId) (nF : Nat) (u0 : ac_U) (p0 : Int32) (p1 : Int32) (hR : ac_R rg u0) (hp0 : (0 : Int) ≤ p0.toInt ∧ p0.toInt ≤ 255) (hp1 : (0 : Int) ≤ p1.toInt ∧ p1.toInt ≤ 3) : ac_Mi l yX12_leftIn (.code yX12_leftIn cX12_leftIn 2 (some .int) :: TB) 1 (dC, dI) vwCl (ac_ty cA) ad cA (TT nF) [.int p0, .int p1] u0 (fun (r : Int32) (u : ac_U) => u = u0 ∧ ((0 : Int) ≤ r.toInt ∧ r.toInt ≤ 3) ∧ (r.toInt = lfS p0.toInt p1.toInt)) := by
  refine ac_Mi.of (cc := cX12_leftIn) (maxL := 2) (ret := (some .int)) (by decide) rfl (Nat.le_of_ble_eq_true rfl) ?_
  intro p e s m below meth c A ls F hml hr hlocks hA hP hD hS hl
  have F : ac_X p s m [.int p0, .int p1].toArray c cX12_leftIn RX12 TB (dC, dI) vwCl (ac_ty cA) := ⟨F.1, F.2.1, fun w h => F.2.2.1 w (List.mem_cons_of_mem _ h), F.2.2.2.1, F.2.2.2.2⟩
  have hl : lv_has ls 2 [(0, .int p0), (1, .int p1)] := hl
  refine lv_iload_n F.1 F.2.1 dX12_leftIn_0 rfl (lv_at hl 0 rfl) ?_
  refine a_ic F (2 : Int32) dX12_leftIn_1 (by decide) ?_
  refine lv_iload_n F.1 F.2.1 dX12_leftIn_2 rfl (lv_at hl 1 rfl) ?_
  refine a_imul F dX12_leftIn_3 ic_2 rfl (by omega) (fun v1 hv1 => ?_)
  refine lv_ishr F.1 F.2.1 dX12_leftIn_4 ?_
  refine a_ic F (3 : Int32) dX12_leftIn_5 (by decide) ?_
  refine lv_iand F.1 F.2.1 dX12_leftIn_6 ?_
  refine lv_topi (fun v2 ev2 => ?_)
  have hlv2 := lf_i (c := p0) (i := p1.toInt) (by omega) (by omega) hv1 ev2
  have hv2 := hlv2.2
  exact a_reti F hr hlocks hP hD hS dX12_leftIn_7 ⟨rfl, (by omega : (0 : Int) ≤ v2.toInt ∧ v2.toInt ≤ 3), (by omega : v2.toInt = lfS p0.toInt p1.toInt)⟩
set_option maxHeartbeats 600000 in
set_option maxRecDepth 100000 in
theorem c_X12_after_85__2 (l : Launch) (dC : Nat → ClassId) (dI : Nat → Nat → Nat) (ad : Nat → Nat) (cA : Nat → ClassId) (nF : Nat) (u0 : ac_U) (p0 : Int32) (p1 : Int32) (p2 : Int32) (p3 : Int32) (hR : ac_R rg u0) (hp0 : (0 : Int) ≤ p0.toInt ∧ p0.toInt ≤ 255) (hp1 : (0 : Int) ≤ p1.toInt ∧ p1.toInt ≤ 23) (hp2 : (0 : Int) ≤ p2.toInt ∧ p2.toInt ≤ 7) (hp3 : (0 : Int) ≤ p3.toInt ∧ p3.toInt ≤ 300) : ac_Mi l yX12_after (.code yX12_after cX12_after 8 (some .int) :: TB) 3 (dC, dI) vwCl (ac_ty cA) ad cA (TT nF) [.ref (ad 85), .int p0, .int p1, .int p2, .int p3] u0 (fun (r : Int32) (u : ac_U) => u = u0 ∧ ((0 : Int) ≤ r.toInt ∧ r.toInt ≤ 255) ∧ (r.toInt = afS u0 p0.toInt p1.toInt p2.toInt p3.toInt ∧ 0 ≤ r.toInt ∧ r.toInt ≤ p0.toInt)) := by
  refine ac_Mi.of (cc := cX12_after) (maxL := 8) (ret := (some .int)) (by decide) rfl (Nat.le_of_ble_eq_true rfl) ?_
  intro p e s m below meth c A ls F hml hr hlocks hA hP hD hS hl
  have F : ac_X p s m [.ref (ad 85), .int p0, .int p1, .int p2, .int p3].toArray c cX12_after RX12 TB (dC, dI) vwCl (ac_ty cA) := ⟨F.1, F.2.1, fun w h => F.2.2.1 w (List.mem_cons_of_mem _ h), F.2.2.2.1, F.2.2.2.2⟩
  have hl : lv_has ls 8 [(0, .ref (ad 85)), (1, .int p0), (2, .int p1), (3, .int p2), (4, .int p3)] := hl
  have L6 : ∀ (n6 : Nat) (x5 : Int32) (x6 : Int32) (H : Heap) (locs : List Loc) (ls : Array Slot), 4 - x6.toInt < (n6 : Int) → (fun _ => x5.toInt = afN u0 p0.toInt p1.toInt p2.toInt p3.toInt x6.toInt.toNat) u0 → (0 : Int) ≤ x5.toInt ∧ x5.toInt ≤ 255 → (0 : Int) ≤ x6.toInt ∧ x6.toInt ≤ 4 → x6.toInt ≤ (u0.1 85 28).toInt → va_P (dC, dI) vwCl (ac_w ad cA (TT nF) u0) H → va_D A (ac_w ad cA (TT nF) u0) → va_S A s.heap H locs → lv_has ls 8 [(0, .ref (ad 85)), (2, .int p1), (3, .int p2), (4, .int p3), (5, .int x5), (6, .int x6)] → W p l e (ac_rm 3) s m [.ref (ad 85), .int p0, .int p1, .int p2, .int p3].toArray below meth c H locs 0 0 (MQ below (va_Qi (fun (r : Int32) (u : ac_U) => u = u0 ∧ ((0 : Int) ≤ r.toInt ∧ r.toInt ≤ 255) ∧ (r.toInt = afS u0 p0.toInt p1.toInt p2.toInt p3.toInt ∧ 0 ≤ r.toInt ∧ r.toInt ≤ p0.toInt)) (ac_B (dC, dI) vwCl (ac_ty cA) ad cA (TT nF) A) A) [.ref (ad 85), .int p0, .int p1, .int p2, .int p3].toArray s 0 0 A) (F0 m 6 ls []) := by
    intro n6
    induction n6 with
    | zero => intro x5 x6 H locs ls hn6 hK_AFx f0 f1 f2 hP hD hS hl; exfalso; omega
    | succ n6 ih6 =>
      intro x5 x6 H locs ls hn6 hK_AFx f0 f1 f2 hP hD hS hl
      refine lv_iload F.1 F.2.1 dX12_after_6 (lv_at hl 5 rfl) ?_
      refine lv_aload_n F.1 F.2.1 dX12_after_8 rfl (lv_at hl 0 rfl) ?_
      have g1 : (0 : Int) ≤ (u0.1 85 28).toInt ∧ (u0.1 85 28).toInt ≤ 4 := hR 85 28
      refine a_geti F inX12 hP 85 28 tc_85 rfl rfl (by decide) q1499 (fun _ h9 => h9) (v := (u0.1 85 28)) rfl dX12_after_9 ?_
      refine b_ge F 104 dX12_after_12 (by decide) rfl rfl (fun c2 => ?_) (fun c2 => ?_)
      · refine lv_iload F.1 F.2.1 dX12_after_104 (lv_at hl 4 rfl) ?_
        exact a_reti F hr hlocks hP hD hS dX12_after_106 ⟨rfl, (by omega : (0 : Int) ≤ x5.toInt ∧ x5.toInt ≤ 255), (by have h7 : x5.toInt = afN u0 p0.toInt p1.toInt p2.toInt p3.toInt x6.toInt.toNat := hK_AFx; have h8 := (af_b (u := u0) (c := p0.toInt) (h := p1.toInt) (p := p2.toInt) (d := p3.toInt) (by omega) x6.toInt.toNat).2; rw [← h7] at h8; refine ⟨?_, by omega, h8⟩; unfold afS; rw [show (u0.1 85 28).toInt.toNat = x6.toInt.toNat by omega]; exact h7)⟩
      · refine lv_aload_n F.1 F.2.1 dX12_after_15 rfl (lv_at hl 0 rfl) ?_
        refine a_getr F inX12 hP 85 26 tc_85 rfl rfl (by decide) q1497 (fun _ h9 => h9) dX12_after_16 ?_
        refine lv_iload F.1 F.2.1 dX12_after_19 (lv_at hl 5 rfl) ?_
        refine a_iald F hP 96 tc_96 rfl (i_in rfl (by omega)) dX12_after_21 (fun v3 ev3 => ?_)
        have hv3 : (0 : Int) ≤ v3.toInt ∧ v3.toInt ≤ 7 := ev3 ▸ hR 96 _
        have hd21 : v3.toInt = dG u0 x6.toInt := dG_of ev3 rfl
        refine lv_istore (lv' := [(7, .int v3), (0, .ref (ad 85)), (2, .int p1), (3, .int p2), (4, .int p3), (5, .int x5), (6, .int x6)]) F.1 F.2.1 dX12_after_22 hl (by decide) rfl (fun ls hl => ?_)
        refine lv_iload F.1 F.2.1 dX12_after_24 (lv_at hl 5 rfl) ?_
        refine lv_iload F.1 F.2.1 dX12_after_26 (lv_at hl 6 rfl) ?_
        refine a_Si F hml hl.1 hA hP hD hS (As := [.int x5, .int x6]) (c_X12_leftIn_f l dC dI ad cA nF _ x5 x6 hR (by omega) (by omega)) (cs_RX12_329 (d := 1) F.2.2.1 (by decide)) rfl rfl (Nat.le_of_ble_eq_true rfl) dX12_after_28 ⟨Nat.le_refl 0, Nat.le_refl 0⟩ (fun r4 uN4 H locs hq hP hD hS => ?_)
        obtain ⟨hu4, gr4, xr4⟩ := hq
        rw [hu4] at hP hD
        have xr4 : r4.toInt = lfS x5.toInt x6.toInt := xr4
        refine z_le F 98 dX12_after_31 (by decide) rfl (fun c5 => ?_) (fun c5 => ?_)
        · refine a_iinc F (k := 6) (fun v6 => [(6, .int v6), (7, .int v3), (0, .ref (ad 85)), (2, .int p1), (3, .int p2), (4, .int p3), (5, .int x5)]) dX12_after_98 hl rfl rfl (by decide) (by omega) (by decide) (fun _ => rfl) (fun v6 ls hv6 hl => ?_)
          refine lv_goto (tgt := 6) F.1 F.2.1 dX12_after_101 (by decide) ?_
          exact ih6 x5 v6 _ _ _ (by omega) (af_no (j := v6.toInt) hK_AFx (by omega) (by omega) (by intro q9; obtain ⟨q1, q2, q3, q4, q5⟩ := q9; omega)) (by omega) (by omega) (by omega : v6.toInt ≤ (u0.1 85 28).toInt) hP hD hS (lv_sub hl [2, 3, 4, 5, 6, 0] rfl)
        · refine lv_aload_n F.1 F.2.1 dX12_after_34 rfl (lv_at hl 1 rfl) ?_
          refine a_getr F inX12 hP 85 6 tc_85 rfl rfl (by decide) q1477 (fun _ h9 => h9) dX12_after_35 ?_
          refine a_bp F (34 : Int32) dX12_after_38 (by decide) ?_
          refine lv_iload F.1 F.2.1 dX12_after_40 (lv_at hl 0 rfl) ?_
          refine a_iadd F dX12_after_42 ic_34 rfl (by omega) (fun v7 hv7 => ?_)
          refine a_iald F hP 87 tc_87 rfl (i_in rfl (by omega)) dX12_after_43 (fun v8 ev8 => ?_)
          have hs43 : v8.toInt = sG u0 (34 + dG u0 x6.toInt) := sG_of ev8 (by omega)
          refine lv_iload F.1 F.2.1 dX12_after_44 (lv_at hl 4 rfl) ?_
          refine b_ne F 98 dX12_after_46 (by decide) rfl rfl (fun c9 => ?_) (fun c9 => ?_)
          · refine a_iinc F (k := 6) (fun v10 => [(6, .int v10), (7, .int v3), (0, .ref (ad 85)), (2, .int p1), (3, .int p2), (4, .int p3), (5, .int x5)]) dX12_after_98 hl rfl rfl (by decide) (by omega) (by decide) (fun _ => rfl) (fun v10 ls hv10 hl => ?_)
            refine lv_goto (tgt := 6) F.1 F.2.1 dX12_after_101 (by decide) ?_
            exact ih6 x5 v10 _ _ _ (by omega) (af_no (j := v10.toInt) hK_AFx (by omega) (by omega) (by intro q9; obtain ⟨q1, q2, q3, q4, q5⟩ := q9; omega)) (by omega) (by omega) (by omega : v10.toInt ≤ (u0.1 85 28).toInt) hP hD hS (lv_sub hl [2, 3, 4, 5, 6, 0] rfl)
          · refine lv_aload_n F.1 F.2.1 dX12_after_49 rfl (lv_at hl 1 rfl) ?_
            refine a_getr F inX12 hP 85 6 tc_85 rfl rfl (by decide) q1477 (fun _ h9 => h9) dX12_after_50 ?_
            refine a_bp F (42 : Int32) dX12_after_53 (by decide) ?_
            refine lv_iload F.1 F.2.1 dX12_after_55 (lv_at hl 0 rfl) ?_
            refine a_iadd F dX12_after_57 ic_42 rfl (by omega) (fun v11 hv11 => ?_)
            refine a_iald F hP 87 tc_87 rfl (i_in rfl (by omega)) dX12_after_58 (fun v12 ev12 => ?_)
            have hv12 : (0 : Int) ≤ v12.toInt ∧ v12.toInt ≤ 7 := rg_seg_87_42_49 hR ev12 (by omega)
            have hs58 : v12.toInt = sG u0 (42 + dG u0 x6.toInt) := sG_of ev12 (by omega)
            refine lv_iload_n F.1 F.2.1 dX12_after_59 rfl (lv_at hl 3 rfl) ?_
            refine b_ne F 98 dX12_after_60 (by decide) rfl rfl (fun c13 => ?_) (fun c13 => ?_)
            · refine a_iinc F (k := 6) (fun v14 => [(6, .int v14), (7, .int v3), (0, .ref (ad 85)), (2, .int p1), (3, .int p2), (4, .int p3), (5, .int x5)]) dX12_after_98 hl rfl rfl (by decide) (by omega) (by decide) (fun _ => rfl) (fun v14 ls hv14 hl => ?_)
              refine lv_goto (tgt := 6) F.1 F.2.1 dX12_after_101 (by decide) ?_
              exact ih6 x5 v14 _ _ _ (by omega) (af_no (j := v14.toInt) hK_AFx (by omega) (by omega) (by intro q9; obtain ⟨q1, q2, q3, q4, q5⟩ := q9; omega)) (by omega) (by omega) (by omega : v14.toInt ≤ (u0.1 85 28).toInt) hP hD hS (lv_sub hl [2, 3, 4, 5, 6, 0] rfl)
            · refine lv_iload_n F.1 F.2.1 dX12_after_63 rfl (lv_at hl 2 rfl) ?_
              refine lv_aload_n F.1 F.2.1 dX12_after_64 rfl (lv_at hl 1 rfl) ?_
              refine a_getr F inX12 hP 85 6 tc_85 rfl rfl (by decide) q1477 (fun _ h9 => h9) dX12_after_65 ?_
              refine a_bp F (50 : Int32) dX12_after_68 (by decide) ?_
              refine lv_iload F.1 F.2.1 dX12_after_70 (lv_at hl 0 rfl) ?_
              refine a_iadd F dX12_after_72 ic_50 rfl (by omega) (fun v15 hv15 => ?_)
              refine a_iald F hP 87 tc_87 rfl (i_in rfl (by omega)) dX12_after_73 (fun v16 ev16 => ?_)
              have hs73 : v16.toInt = sG u0 (50 + dG u0 x6.toInt) := sG_of ev16 (by omega)
              refine lv_aload_n F.1 F.2.1 dX12_after_74 rfl (lv_at hl 1 rfl) ?_
              refine lv_iload F.1 F.2.1 dX12_after_75 (lv_at hl 0 rfl) ?_
              refine a_ic F (0 : Int32) dX12_after_77 (by decide) ?_
              refine a_Vi F hml hl.1 hA hP hD hS (As := [.int v3, .int (0 : Int32)]) (c_X12_lastOf_85_f l dC dI ad cA nF _ v3 (0 : Int32) hR (by omega) (by decide)) (cs_RX12_298 (d := 2) F.2.2.1 (by decide)) tc_85 rfl rfl rfl rfl (Nat.le_of_ble_eq_true rfl) dX12_after_78 ⟨Nat.le_refl 0, Nat.le_refl 0⟩ (fun r17 uN17 H locs hq hP hD hS => ?_)
              obtain ⟨hu17, gr17, xr17⟩ := hq
              rw [hu17] at hP hD
              have xr17 : r17.toInt = laS u0 v3.toInt := xr17
              have hl81 : r17.toInt = laS u0 (dG u0 x6.toInt) := by rw [← hd21]; exact xr17
              refine a_Si F hml hl.1 hA hP hD hS (As := [.int p1, .int v16, .int r17]) (c_X12_isIn_f l dC dI ad cA nF _ p1 v16 r17 hR (by omega)) (cs_RX12_187 (d := 1) F.2.2.1 (by decide)) rfl rfl (Nat.le_of_ble_eq_true rfl) dX12_after_81 ⟨Nat.le_refl 0, Nat.le_refl 0⟩ (fun r19 uN19 H locs hq hP hD hS => ?_)
              obtain ⟨hu19, gr19, xr19⟩ := hq
              rw [hu19] at hP hD
              have xr19 : (r19.toInt ≠ 0 → v16.toInt ≤ p1.toInt ∧ p1.toInt ≤ r17.toInt) ∧ (r19.toInt = 0 → p1.toInt < v16.toInt ∨ r17.toInt < p1.toInt) := xr19
              refine z_eq F 98 dX12_after_84 (by decide) rfl (fun c20 => ?_) (fun c20 => ?_)
              · refine a_iinc F (k := 6) (fun v21 => [(6, .int v21), (7, .int v3), (0, .ref (ad 85)), (2, .int p1), (3, .int p2), (4, .int p3), (5, .int x5)]) dX12_after_98 hl rfl rfl (by decide) (by omega) (by decide) (fun _ => rfl) (fun v21 ls hv21 hl => ?_)
                refine lv_goto (tgt := 6) F.1 F.2.1 dX12_after_101 (by decide) ?_
                exact ih6 x5 v21 _ _ _ (by omega) (af_no (j := v21.toInt) hK_AFx (by omega) (by omega) (by intro q9; obtain ⟨q1, q2, q3, q4, q5⟩ := q9; omega)) (by omega) (by omega) (by omega : v21.toInt ≤ (u0.1 85 28).toInt) hP hD hS (lv_sub hl [2, 3, 4, 5, 6, 0] rfl)
              · refine lv_iload F.1 F.2.1 dX12_after_87 (lv_at hl 5 rfl) ?_
                refine a_ic F (1 : Int32) dX12_after_89 (by decide) ?_
                refine a_ic F (2 : Int32) dX12_after_90 (by decide) ?_
                refine lv_iload F.1 F.2.1 dX12_after_91 (lv_at hl 6 rfl) ?_
                refine a_imul F dX12_after_93 ic_2 rfl (by omega) (fun v22 hv22 => ?_)
                refine lv_ishl F.1 F.2.1 dX12_after_94 ?_
                refine lv_topi (fun v23 ev23 => ?_)
                have hzv23 := sh_i (i := x6.toInt) (by omega) hv22 ev23
                have hv23 : 1 ≤ v23.toInt ∧ v23.toInt ≤ 256 := hzv23.2
                have hle := lf_le (v := x5.toInt) (i := x6.toInt) (by omega) (by omega)
                refine a_isub F dX12_after_95 rfl rfl (by omega) (fun v25 hv25 => ?_)
                refine lv_istore (lv' := [(5, .int v25), (7, .int v3), (0, .ref (ad 85)), (2, .int p1), (3, .int p2), (4, .int p3), (6, .int x6)]) F.1 F.2.1 dX12_after_96 hl (by decide) rfl (fun ls hl => ?_)
                refine a_iinc F (k := 6) (fun v26 => [(6, .int v26), (5, .int v25), (7, .int v3), (0, .ref (ad 85)), (2, .int p1), (3, .int p2), (4, .int p3)]) dX12_after_98 hl rfl rfl (by decide) (by omega) (by decide) (fun _ => rfl) (fun v26 ls hv26 hl => ?_)
                refine lv_goto (tgt := 6) F.1 F.2.1 dX12_after_101 (by decide) ?_
                exact ih6 v25 v26 _ _ _ (by omega) (af_yes (j := v26.toInt) hK_AFx (by omega) (by omega) ⟨by omega, by omega, by omega, by omega, by omega⟩ (by omega)) (by omega) (by omega) (by omega : v26.toInt ≤ (u0.1 85 28).toInt) hP hD hS (lv_sub hl [3, 4, 5, 6, 1, 0] rfl)
  refine lv_iload_n F.1 F.2.1 dX12_after_0 rfl (lv_at hl 1 rfl) ?_
  refine lv_istore (lv' := [(5, .int p0), (0, .ref (ad 85)), (1, .int p0), (2, .int p1), (3, .int p2), (4, .int p3)]) F.1 F.2.1 dX12_after_1 hl (by decide) rfl (fun ls hl => ?_)
  refine a_ic F (0 : Int32) dX12_after_3 (by decide) ?_
  refine lv_istore (lv' := [(6, .int (0 : Int32)), (5, .int p0), (0, .ref (ad 85)), (1, .int p0), (2, .int p1), (3, .int p2), (4, .int p3)]) F.1 F.2.1 dX12_after_4 hl (by decide) rfl (fun ls hl => ?_)
  have g27 : (0 : Int) ≤ (u0.1 85 28).toInt ∧ (u0.1 85 28).toInt ≤ 4 := hR 85 28
  exact L6 6 p0 (0 : Int32) _ _ _ (by decide) rfl (by omega) (by decide) (by first | (rw [ic_0]; exact (by omega : (0 : Int) ≤ (u0.1 85 28).toInt)) | rw [ic_0]) hP hD hS (lv_sub hl [2, 4, 5, 6, 1, 0] rfl)
set_option maxHeartbeats 600000 in
set_option maxRecDepth 100000 in
theorem c_X12_bits_f (l : Launch) (dC : Nat → ClassId) (dI : Nat → Nat → Nat) (ad : Nat → Nat) (cA : Nat → ClassId) (nF : Nat) (u0 : ac_U) (p0 : Int32) (hR : ac_R rg u0) (hp0 : (0 : Int) ≤ p0.toInt ∧ p0.toInt ≤ 255) : ac_Mi l yX12_bits (.code yX12_bits cX12_bits 3 (some .int) :: TB) 1 (dC, dI) vwCl (ac_ty cA) ad cA (TT nF) [.int p0] u0 (fun (r : Int32) (u : ac_U) => u = u0 ∧ ((0 : Int) ≤ r.toInt ∧ r.toInt ≤ 8) ∧ (r.toInt = popS p0.toInt)) := by
  refine ac_Mi.of (cc := cX12_bits) (maxL := 3) (ret := (some .int)) (by decide) rfl (Nat.le_of_ble_eq_true rfl) ?_
  intro p e s m below meth c A ls F hml hr hlocks hA hP hD hS hl
  have F : ac_X p s m [.int p0].toArray c cX12_bits RX12 TB (dC, dI) vwCl (ac_ty cA) := ⟨F.1, F.2.1, fun w h => F.2.2.1 w (List.mem_cons_of_mem _ h), F.2.2.2.1, F.2.2.2.2⟩
  have hl : lv_has ls 3 [(0, .int p0)] := hl
  have L4 : ∀ (n4 : Nat) (x1 : Int32) (x2 : Int32) (H : Heap) (locs : List Loc) (ls : Array Slot), (x2.toBitVec.toNat : Int) < (n4 : Int) → (0 : Int) ≤ x1.toInt ∧ x1.toInt ≤ 8 → (0 : Int) ≤ x2.toInt ∧ x2.toInt ≤ 255 → x1.toInt + popS x2.toInt = popS p0.toInt → va_P (dC, dI) vwCl (ac_w ad cA (TT nF) u0) H → va_D A (ac_w ad cA (TT nF) u0) → va_S A s.heap H locs → lv_has ls 3 [(1, .int x1), (2, .int x2)] → W p l e (ac_rm 1) s m [.int p0].toArray below meth c H locs 0 0 (MQ below (va_Qi (fun (r : Int32) (u : ac_U) => u = u0 ∧ ((0 : Int) ≤ r.toInt ∧ r.toInt ≤ 8) ∧ (r.toInt = popS p0.toInt)) (ac_B (dC, dI) vwCl (ac_ty cA) ad cA (TT nF) A) A) [.int p0].toArray s 0 0 A) (F0 m 4 ls []) := by
    intro n4
    induction n4 with
    | zero => intro x1 x2 H locs ls hn4 f0 f1 f2 hP hD hS hl; exfalso; omega
    | succ n4 ih4 =>
      intro x1 x2 H locs ls hn4 f0 f1 f2 hP hD hS hl
      refine lv_iload_n F.1 F.2.1 dX12_bits_4 rfl (lv_at hl 1 rfl) ?_
      refine z_eq F 20 dX12_bits_5 (by decide) rfl (fun c1 => ?_) (fun c1 => ?_)
      · have hz20 : popS x2.toInt = 0 := by rw [show x2.toInt = 0 by omega]; exact pop_0
        refine lv_iload_n F.1 F.2.1 dX12_bits_20 rfl (lv_at hl 0 rfl) ?_
        exact a_reti F hr hlocks hP hD hS dX12_bits_21 ⟨rfl, (by omega : (0 : Int) ≤ x1.toInt ∧ x1.toInt ≤ 8), (by omega : x1.toInt = popS p0.toInt)⟩
      · have hpa := pop_h (s := p0.toInt)
        have hpb := pop_b (s := (x2 &&& (x2 - (1 : Int32))).toInt)
        refine a_iinc F (k := 0) (fun v4 => [(1, .int v4), (2, .int x2)]) dX12_bits_8 hl rfl rfl (by decide) (by omega) (by decide) (fun _ => rfl) (fun v4 ls hv4 hl => ?_)
        refine lv_iload_n F.1 F.2.1 dX12_bits_11 rfl (lv_at hl 1 rfl) ?_
        refine lv_iload_n F.1 F.2.1 dX12_bits_12 rfl (lv_at hl 1 rfl) ?_
        refine a_ic F (1 : Int32) dX12_bits_13 (by decide) ?_
        refine lv_isub F.1 F.2.1 dX12_bits_14 ?_
        refine lv_iand F.1 F.2.1 dX12_bits_15 ?_
        have hb9 : 0 ≤ (x2 &&& (x2 - (1 : Int32))).toInt ∧ (x2 &&& (x2 - (1 : Int32))).toInt ≤ x2.toInt := by rw [Int32.and_comm]; exact i_and rfl (by omega)
        have hpop := pop_s (x := x2) (by omega)
        refine lv_istore_n (lv' := [(2, .int (x2 &&& (x2 - (1 : Int32)))), (1, .int v4)]) F.1 F.2.1 dX12_bits_16 rfl hl (by decide) rfl (fun ls hl => ?_)
        refine lv_goto (tgt := 4) F.1 F.2.1 dX12_bits_17 (by decide) ?_
        exact ih4 v4 (x2 &&& (x2 - (1 : Int32))) _ _ _ (by have q := bits_dec (x := x2) (by omega); omega) (by omega) (by omega) (by omega : v4.toInt + popS (x2 &&& (x2 - (1 : Int32))).toInt = popS p0.toInt) hP hD hS (lv_sub hl [1, 0] rfl)
  refine a_ic F (0 : Int32) dX12_bits_0 (by decide) ?_
  refine lv_istore_n (lv' := [(1, .int (0 : Int32)), (0, .int p0)]) F.1 F.2.1 dX12_bits_1 rfl hl (by decide) rfl (fun ls hl => ?_)
  refine lv_iload_n F.1 F.2.1 dX12_bits_2 rfl (lv_at hl 1 rfl) ?_
  refine lv_istore_n (lv' := [(2, .int p0), (1, .int (0 : Int32)), (0, .int p0)]) F.1 F.2.1 dX12_bits_3 rfl hl (by decide) rfl (fun ls hl => ?_)
  exact L4 4294967297 (0 : Int32) p0 _ _ _ (by have q := p0.toBitVec.isLt; omega) (by decide) (by omega) (by first | (rw [ic_0]; exact (by omega : (0 : Int) + popS p0.toInt = popS p0.toInt)) | rw [ic_0]) hP hD hS (lv_sub hl [1, 0] rfl)
set_option maxHeartbeats 600000 in
set_option maxRecDepth 100000 in
theorem c_X12_choiceOf_85_f (l : Launch) (dC : Nat → ClassId) (dI : Nat → Nat → Nat) (ad : Nat → Nat) (cA : Nat → ClassId) (nF : Nat) (u0 : ac_U) (p0 : Int32) (hR : ac_R rg u0) (hp0 : (0 : Int) ≤ p0.toInt ∧ p0.toInt ≤ 14) : ac_Mi l yX12_choiceOf (.code yX12_choiceOf cX12_choiceOf 2 (some .int) :: TB) 1 (dC, dI) vwCl (ac_ty cA) ad cA (TT nF) [.ref (ad 85), .int p0] u0 (fun (r : Int32) (u : ac_U) => u = u0 ∧ ((0 : Int) ≤ r.toInt ∧ r.toInt ≤ 213) ∧ (r.toInt = chS u0 p0.toInt)) := by
  refine ac_Mi.of (cc := cX12_choiceOf) (maxL := 2) (ret := (some .int)) (by decide) rfl (Nat.le_of_ble_eq_true rfl) ?_
  intro p e s m below meth c A ls F hml hr hlocks hA hP hD hS hl
  have F : ac_X p s m [.ref (ad 85), .int p0].toArray c cX12_choiceOf RX12 TB (dC, dI) vwCl (ac_ty cA) := ⟨F.1, F.2.1, fun w h => F.2.2.1 w (List.mem_cons_of_mem _ h), F.2.2.2.1, F.2.2.2.2⟩
  have hl : lv_has ls 2 [(0, .ref (ad 85)), (1, .int p0)] := hl
  refine lv_iload_n F.1 F.2.1 dX12_choiceOf_0 rfl (lv_at hl 1 rfl) ?_
  refine z_ne F 8 dX12_choiceOf_1 (by decide) rfl (fun c1 => ?_) (fun c1 => ?_)
  · refine lv_iload_n F.1 F.2.1 dX12_choiceOf_8 rfl (lv_at hl 1 rfl) ?_
    refine lv_aload_n F.1 F.2.1 dX12_choiceOf_9 rfl (lv_at hl 0 rfl) ?_
    refine a_getr F inX12 hP 85 6 tc_85 rfl rfl (by decide) q1477 (fun _ h9 => h9) dX12_choiceOf_10 ?_
    refine a_ic F (1 : Int32) dX12_choiceOf_13 (by decide) ?_
    have g2 : (0 : Int) ≤ (u0.1 87 1).toInt ∧ (u0.1 87 1).toInt ≤ 8 := hR 87 1
    refine a_ialdK F hP 87 1 tc_87 rfl rfl (i_in ic_1 (by omega)) (v := (u0.1 87 1)) rfl dX12_choiceOf_14 ?_
    refine b_gt F 25 dX12_choiceOf_15 (by decide) rfl rfl (fun c3 => ?_) (fun c3 => ?_)
    · refine a_sp F (199 : Int32) dX12_choiceOf_25 (by decide) ?_
      refine lv_iload_n F.1 F.2.1 dX12_choiceOf_28 rfl (lv_at hl 1 rfl) ?_
      refine a_iadd F dX12_choiceOf_29 ic_199 rfl (by omega) (fun v4 hv4 => ?_)
      refine lv_aload_n F.1 F.2.1 dX12_choiceOf_30 rfl (lv_at hl 0 rfl) ?_
      refine a_getr F inX12 hP 85 6 tc_85 rfl rfl (by decide) q1477 (fun _ h9 => h9) dX12_choiceOf_31 ?_
      refine a_ic F (1 : Int32) dX12_choiceOf_34 (by decide) ?_
      refine a_ialdK F hP 87 1 tc_87 rfl rfl (i_in ic_1 (by omega)) (v := (u0.1 87 1)) (rfl) dX12_choiceOf_35 ?_
      refine a_isub F dX12_choiceOf_36 rfl rfl (by omega) (fun v5 hv5 => ?_)
      exact a_reti F hr hlocks hP hD hS dX12_choiceOf_37 ⟨rfl, (by omega : (0 : Int) ≤ v5.toInt ∧ v5.toInt ≤ 213), (show v5.toInt = chS u0 p0.toInt by unfold chS; omega)⟩
    · refine a_bp F (99 : Int32) dX12_choiceOf_18 (by decide) ?_
      refine lv_iload_n F.1 F.2.1 dX12_choiceOf_20 rfl (lv_at hl 1 rfl) ?_
      refine a_iadd F dX12_choiceOf_21 ic_99 rfl (by omega) (fun v6 hv6 => ?_)
      refine lv_goto (tgt := 37) F.1 F.2.1 dX12_choiceOf_22 (by decide) ?_
      exact a_reti F hr hlocks hP hD hS dX12_choiceOf_37 ⟨rfl, (by omega : (0 : Int) ≤ v6.toInt ∧ v6.toInt ≤ 213), (show v6.toInt = chS u0 p0.toInt by unfold chS; omega)⟩
  · refine a_ic F (0 : Int32) dX12_choiceOf_4 (by decide) ?_
    refine lv_goto (tgt := 37) F.1 F.2.1 dX12_choiceOf_5 (by decide) ?_
    exact a_reti F hr hlocks hP hD hS dX12_choiceOf_37 ⟨rfl, (by decide), (show (0 : Int) = chS u0 p0.toInt by unfold chS; omega)⟩
set_option maxHeartbeats 600000 in
set_option maxRecDepth 100000 in
theorem c_X12_dayNow_85_f (l : Launch) (dC : Nat → ClassId) (dI : Nat → Nat → Nat) (ad : Nat → Nat) (cA : Nat → ClassId) (nF : Nat) (u0 : ac_U)  (hR : ac_R rg u0) : ac_Mi l yX12_dayNow (.code yX12_dayNow cX12_dayNow 1 (some .int) :: TB) 1 (dC, dI) vwCl (ac_ty cA) ad cA (TT nF) [.ref (ad 85)] u0 (fun (r : Int32) (u : ac_U) => u = u0 ∧ ((0 : Int) ≤ r.toInt ∧ r.toInt ≤ 120) ∧ (r.toInt = ((u0.1 87 106).toInt).tdiv ((u0.1 87 0).toInt))) := by
  refine ac_Mi.of (cc := cX12_dayNow) (maxL := 1) (ret := (some .int)) (by decide) rfl (Nat.le_of_ble_eq_true rfl) ?_
  intro p e s m below meth c A ls F hml hr hlocks hA hP hD hS hl
  have F : ac_X p s m [.ref (ad 85)].toArray c cX12_dayNow RX12 TB (dC, dI) vwCl (ac_ty cA) := ⟨F.1, F.2.1, fun w h => F.2.2.1 w (List.mem_cons_of_mem _ h), F.2.2.2.1, F.2.2.2.2⟩
  have hl : lv_has ls 1 [(0, .ref (ad 85))] := hl
  refine lv_aload_n F.1 F.2.1 dX12_dayNow_0 rfl (lv_at hl 0 rfl) ?_
  refine a_getr F inX12 hP 85 6 tc_85 rfl rfl (by decide) q1477 (fun _ h9 => h9) dX12_dayNow_1 ?_
  refine a_bp F (106 : Int32) dX12_dayNow_4 (by decide) ?_
  have g1 : (0 : Int) ≤ (u0.1 87 106).toInt ∧ (u0.1 87 106).toInt ≤ 480 := hR 87 106
  refine a_ialdK F hP 87 106 tc_87 rfl rfl (i_in ic_106 (by omega)) (v := (u0.1 87 106)) rfl dX12_dayNow_6 ?_
  refine lv_aload_n F.1 F.2.1 dX12_dayNow_7 rfl (lv_at hl 0 rfl) ?_
  refine a_getr F inX12 hP 85 6 tc_85 rfl rfl (by decide) q1477 (fun _ h9 => h9) dX12_dayNow_8 ?_
  refine a_ic F (0 : Int32) dX12_dayNow_11 (by decide) ?_
  have g2 : (4 : Int) ≤ (u0.1 87 0).toInt ∧ (u0.1 87 0).toInt ≤ 24 := hR 87 0
  refine a_ialdK F hP 87 0 tc_87 rfl rfl (i_in ic_0 (by omega)) (v := (u0.1 87 0)) rfl dX12_dayNow_12 ?_
  refine a_idiv2 F (kk := 4) dX12_dayNow_13 rfl rfl (by omega) (fun v3 ev3 hv3 => ?_)
  exact a_reti F hr hlocks hP hD hS dX12_dayNow_14 ⟨rfl, (by omega : (0 : Int) ≤ v3.toInt ∧ v3.toInt ≤ 120), (by omega : v3.toInt = ((u0.1 87 106).toInt).tdiv ((u0.1 87 0).toInt))⟩
set_option maxHeartbeats 600000 in
set_option maxRecDepth 100000 in
theorem c_X12_dueOf_85_f (l : Launch) (dC : Nat → ClassId) (dI : Nat → Nat → Nat) (ad : Nat → Nat) (cA : Nat → ClassId) (nF : Nat) (u0 : ac_U) (p0 : Int32) (p1 : Int32) (hR : ac_R rg u0) (hp0 : (0 : Int) ≤ p0.toInt ∧ p0.toInt ≤ 7) (hp1 : (0 : Int) ≤ p1.toInt ∧ p1.toInt ≤ 0) : ac_Mi l yX12_dueOf (.code yX12_dueOf cX12_dueOf 4 (some .int) :: TB) 3 (dC, dI) vwCl (ac_ty cA) ad cA (TT nF) [.ref (ad 85), .int p0, .int p1] u0 (fun (r : Int32) (u : ac_U) => u = u0 ∧ ((0 : Int) ≤ r.toInt ∧ r.toInt ≤ 121) ∧ (r.toInt = duS u0 p0.toInt)) := by
  refine ac_Mi.of (cc := cX12_dueOf) (maxL := 4) (ret := (some .int)) (by decide) rfl (Nat.le_of_ble_eq_true rfl) ?_
  intro p e s m below meth c A ls F hml hr hlocks hA hP hD hS hl
  have F : ac_X p s m [.ref (ad 85), .int p0, .int p1].toArray c cX12_dueOf RX12 TB (dC, dI) vwCl (ac_ty cA) := ⟨F.1, F.2.1, fun w h => F.2.2.1 w (List.mem_cons_of_mem _ h), F.2.2.2.1, F.2.2.2.2⟩
  have hl : lv_has ls 4 [(0, .ref (ad 85)), (1, .int p0), (2, .int p1)] := hl
  refine lv_aload_n F.1 F.2.1 dX12_dueOf_0 rfl (lv_at hl 0 rfl) ?_
  refine a_getr F inX12 hP 85 6 tc_85 rfl rfl (by decide) q1477 (fun _ h9 => h9) dX12_dueOf_1 ?_
  refine a_bp F (124 : Int32) dX12_dueOf_4 (by decide) ?_
  refine lv_iload_n F.1 F.2.1 dX12_dueOf_6 rfl (lv_at hl 1 rfl) ?_
  refine a_iadd F dX12_dueOf_7 ic_124 rfl (by omega) (fun v1 hv1 => ?_)
  refine a_iald F hP 87 tc_87 rfl (i_in rfl (by omega)) dX12_dueOf_8 (fun v2 ev2 => ?_)
  have hv2 : (0 : Int) ≤ v2.toInt ∧ v2.toInt ≤ 481 := rg_seg_87_124_131 hR ev2 (by omega)
  have hs8 : v2.toInt = sG u0 (124 + p0.toInt) := sG_of ev2 (by omega)
  refine a_ic F (1 : Int32) dX12_dueOf_9 (by decide) ?_
  refine a_isub F dX12_dueOf_10 rfl ic_1 (by omega) (fun v3 hv3 => ?_)
  refine lv_istore_n (lv' := [(3, .int v3), (0, .ref (ad 85)), (1, .int p0), (2, .int p1)]) F.1 F.2.1 dX12_dueOf_11 rfl hl (by decide) rfl (fun ls hl => ?_)
  refine lv_iload_n F.1 F.2.1 dX12_dueOf_12 rfl (lv_at hl 0 rfl) ?_
  refine lv_aload_n F.1 F.2.1 dX12_dueOf_13 rfl (lv_at hl 1 rfl) ?_
  refine a_getr F inX12 hP 85 6 tc_85 rfl rfl (by decide) q1477 (fun _ h9 => h9) dX12_dueOf_14 ?_
  refine a_ic F (0 : Int32) dX12_dueOf_17 (by decide) ?_
  have g4 : (4 : Int) ≤ (u0.1 87 0).toInt ∧ (u0.1 87 0).toInt ≤ 24 := hR 87 0
  refine a_ialdK F hP 87 0 tc_87 rfl rfl (i_in ic_0 (by omega)) (v := (u0.1 87 0)) rfl dX12_dueOf_18 ?_
  refine a_idiv2 F (kk := 4) dX12_dueOf_19 rfl rfl (by omega) (fun v5 ev5 hv5 => ?_)
  have hq19 : v5.toInt = (sG u0 (124 + p0.toInt) - 1).tdiv (u0.1 87 0).toInt := by rw [ev5, show v3.toInt = sG u0 (124 + p0.toInt) - 1 by omega]
  refine lv_iload_n F.1 F.2.1 dX12_dueOf_20 rfl (lv_at hl 0 rfl) ?_
  refine lv_aload_n F.1 F.2.1 dX12_dueOf_21 rfl (lv_at hl 1 rfl) ?_
  refine a_getr F inX12 hP 85 6 tc_85 rfl rfl (by decide) q1477 (fun _ h9 => h9) dX12_dueOf_22 ?_
  refine a_ic F (0 : Int32) dX12_dueOf_25 (by decide) ?_
  refine a_ialdK F hP 87 0 tc_87 rfl rfl (i_in ic_0 (by omega)) (v := (u0.1 87 0)) (rfl) dX12_dueOf_26 ?_
  refine tm_eq F dX12_dueOf_27 rfl rfl (by omega) (fun v6 ev6 hv6 => ?_)
  have hq27 : v6.toInt = (sG u0 (124 + p0.toInt) - 1).tmod (u0.1 87 0).toInt := by rw [ev6, show v3.toInt = sG u0 (124 + p0.toInt) - 1 by omega]
  refine lv_aload_n F.1 F.2.1 dX12_dueOf_28 rfl (lv_at hl 1 rfl) ?_
  refine lv_iload_n F.1 F.2.1 dX12_dueOf_29 rfl (lv_at hl 2 rfl) ?_
  refine lv_iload_n F.1 F.2.1 dX12_dueOf_30 rfl (lv_at hl 3 rfl) ?_
  refine a_Vi F hml hl.1 hA hP hD hS (As := [.int p0, .int p1]) (c_X12_lastOf_85_f l dC dI ad cA nF _ p0 p1 hR (by omega) (by omega)) (cs_RX12_298 (d := 2) F.2.2.1 (by decide)) tc_85 rfl rfl rfl rfl (Nat.le_of_ble_eq_true rfl) dX12_dueOf_31 ⟨Nat.le_refl 0, Nat.le_refl 0⟩ (fun r7 uN7 H locs hq hP hD hS => ?_)
  obtain ⟨hu7, gr7, xr7⟩ := hq
  rw [hu7] at hP hD
  have xr7 : r7.toInt = laS u0 p0.toInt := xr7
  refine b_gt F 41 dX12_dueOf_34 (by decide) rfl rfl (fun c8 => ?_) (fun c8 => ?_)
  · refine a_ic F (1 : Int32) dX12_dueOf_41 (by decide) ?_
    refine a_iadd F dX12_dueOf_42 rfl ic_1 (by omega) (fun v9 hv9 => ?_)
    exact a_reti F hr hlocks hP hD hS dX12_dueOf_43 ⟨rfl, (by omega : (0 : Int) ≤ v9.toInt ∧ v9.toInt ≤ 121), (by unfold duS; omega)⟩
  · refine a_ic F (0 : Int32) dX12_dueOf_37 (by decide) ?_
    refine lv_goto (tgt := 42) F.1 F.2.1 dX12_dueOf_38 (by decide) ?_
    refine a_iadd F dX12_dueOf_42 rfl ic_0 (by omega) (fun v10 hv10 => ?_)
    exact a_reti F hr hlocks hP hD hS dX12_dueOf_43 ⟨rfl, (by omega : (0 : Int) ≤ v10.toInt ∧ v10.toInt ≤ 121), (by unfold duS; omega)⟩
set_option maxHeartbeats 600000 in
set_option maxRecDepth 100000 in
theorem c_X12_isOver_85_f (l : Launch) (dC : Nat → ClassId) (dI : Nat → Nat → Nat) (ad : Nat → Nat) (cA : Nat → ClassId) (nF : Nat) (u0 : ac_U)  (hR : ac_R rg u0) : ac_Mi l yX12_isOver (.code yX12_isOver cX12_isOver 1 (some .boolean) :: TB) 1 (dC, dI) vwCl (ac_ty cA) ad cA (TT nF) [.ref (ad 85)] u0 (fun (r : Int32) (u : ac_U) => u = u0 ∧ ((0 : Int) ≤ r.toInt ∧ r.toInt ≤ 1) ∧ ((r.toInt ≠ 0 → (u0.1 87 106).toInt = 20 * (u0.1 87 0).toInt) ∧ (r.toInt = 0 → (u0.1 87 106).toInt ≠ 20 * (u0.1 87 0).toInt))) := by
  refine ac_Mi.of (cc := cX12_isOver) (maxL := 1) (ret := (some .boolean)) (by decide) rfl (Nat.le_of_ble_eq_true rfl) ?_
  intro p e s m below meth c A ls F hml hr hlocks hA hP hD hS hl
  have F : ac_X p s m [.ref (ad 85)].toArray c cX12_isOver RX12 TB (dC, dI) vwCl (ac_ty cA) := ⟨F.1, F.2.1, fun w h => F.2.2.1 w (List.mem_cons_of_mem _ h), F.2.2.2.1, F.2.2.2.2⟩
  have hl : lv_has ls 1 [(0, .ref (ad 85))] := hl
  refine lv_aload_n F.1 F.2.1 dX12_isOver_0 rfl (lv_at hl 0 rfl) ?_
  refine a_getr F inX12 hP 85 6 tc_85 rfl rfl (by decide) q1477 (fun _ h9 => h9) dX12_isOver_1 ?_
  refine a_bp F (106 : Int32) dX12_isOver_4 (by decide) ?_
  have g1 : (0 : Int) ≤ (u0.1 87 106).toInt ∧ (u0.1 87 106).toInt ≤ 480 := hR 87 106
  refine a_ialdK F hP 87 106 tc_87 rfl rfl (i_in ic_106 (by omega)) (v := (u0.1 87 106)) rfl dX12_isOver_6 ?_
  refine a_bp F (20 : Int32) dX12_isOver_7 (by decide) ?_
  refine lv_aload_n F.1 F.2.1 dX12_isOver_9 rfl (lv_at hl 0 rfl) ?_
  refine a_getr F inX12 hP 85 6 tc_85 rfl rfl (by decide) q1477 (fun _ h9 => h9) dX12_isOver_10 ?_
  refine a_ic F (0 : Int32) dX12_isOver_13 (by decide) ?_
  have g2 : (4 : Int) ≤ (u0.1 87 0).toInt ∧ (u0.1 87 0).toInt ≤ 24 := hR 87 0
  refine a_ialdK F hP 87 0 tc_87 rfl rfl (i_in ic_0 (by omega)) (v := (u0.1 87 0)) rfl dX12_isOver_14 ?_
  refine a_imul F dX12_isOver_15 ic_20 rfl (by omega) (fun v3 hv3 => ?_)
  refine b_ne F 23 dX12_isOver_16 (by decide) rfl rfl (fun c4 => ?_) (fun c4 => ?_)
  · refine a_ic F (0 : Int32) dX12_isOver_23 (by decide) ?_
    exact a_retz F hr hlocks hP hD hS dX12_isOver_24 (Or.inl rfl) ⟨rfl, (by decide), (by first | exact (by omega : ((0 : Int) ≠ 0 → (u0.1 87 106).toInt = 20 * (u0.1 87 0).toInt) ∧ ((0 : Int) = 0 → (u0.1 87 106).toInt ≠ 20 * (u0.1 87 0).toInt)) | (rw [ic_0]; exact (by omega : ((0 : Int) ≠ 0 → (u0.1 87 106).toInt = 20 * (u0.1 87 0).toInt) ∧ ((0 : Int) = 0 → (u0.1 87 106).toInt ≠ 20 * (u0.1 87 0).toInt))))⟩
  · refine a_ic F (1 : Int32) dX12_isOver_19 (by decide) ?_
    refine lv_goto (tgt := 24) F.1 F.2.1 dX12_isOver_20 (by decide) ?_
    exact a_retz F hr hlocks hP hD hS dX12_isOver_24 (Or.inr rfl) ⟨rfl, (by decide), (by first | exact (by omega : ((1 : Int) ≠ 0 → (u0.1 87 106).toInt = 20 * (u0.1 87 0).toInt) ∧ ((1 : Int) = 0 → (u0.1 87 106).toInt ≠ 20 * (u0.1 87 0).toInt)) | (rw [ic_1]; exact (by omega : ((1 : Int) ≠ 0 → (u0.1 87 106).toInt = 20 * (u0.1 87 0).toInt) ∧ ((1 : Int) = 0 → (u0.1 87 106).toInt ≠ 20 * (u0.1 87 0).toInt))))⟩

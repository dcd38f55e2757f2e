set_option maxHeartbeats 600000 in
set_option maxRecDepth 100000 in
theorem c_X12_end_85__2 (l : Launch) (dC : Nat → ClassId) (dI : Nat → Nat → Nat) (ad : Nat → Nat) (cA : Nat → ClassId) (nF : Nat) (u0 : ac_U) (p0 : Int32) (hR : ac_R rg u0) : ac_Mi l yX12_end (.code yX12_end cX12_end 2 (some .boolean) :: TB) 1 (dC, dI) vwCl (ac_ty cA) ad cA (TT nF) [.ref (ad 85), .int p0] u0 (fun (r : Int32) (u : ac_U) => ac_R rg u ∧ ac_Fr [(85, some 0), (85, some 2)] u0 u ∧ ((0 : Int) ≤ r.toInt ∧ r.toInt ≤ 1) ∧ ((0 ≤ p0.toInt ∧ p0.toInt ≤ (u0.1 85 2).toInt → (u.1 85 2).toInt = p0.toInt ∧ r.toInt = 1) ∧ (p0.toInt < 0 ∨ (u0.1 85 2).toInt < p0.toInt → (u.1 85 2).toInt = (u0.1 85 2).toInt ∧ r.toInt = 0))) := by
  refine ac_Mi.of (cc := cX12_end) (maxL := 2) (ret := (some .boolean)) (by decide) rfl (Nat.le_of_ble_eq_true rfl) ?_
  intro p e s m below meth c A ls F hml hr hlocks hA hP hD hS hl
  have F : ac_X p s m [.ref (ad 85), .int p0].toArray c cX12_end RX12 TB (dC, dI) vwCl (ac_ty cA) := ⟨F.1, F.2.1, fun w h => F.2.2.1 w (List.mem_cons_of_mem _ h), F.2.2.2.1, F.2.2.2.2⟩
  have hl : lv_has ls 2 [(0, .ref (ad 85)), (1, .int p0)] := hl
  have hF : ac_Fr [(85, some 0), (85, some 2)] u0 u0 := ac_Fr.rf
  refine lv_aload_n F.1 F.2.1 dX12_end_0 rfl (lv_at hl 0 rfl) ?_
  refine a_ic F (0 : Int32) dX12_end_1 (by decide) ?_
  refine a_puti F inX12 tyX12 tyX12_ok nmX12 hP hD hS 85 0 tc_85 rfl rfl (by decide) q1471 (fun _ h9 => h9) rfl (ty := .int) (tyX12_ok 0 (by decide)) rfl rfl dX12_end_2 (fun H locs hP hD hS => ?_)
  have hR := hR.si (c := 85) (k := 0) (v := (0 : Int32)) (by rw [ic_0]; exact (by omega : (0 : Int) ≤ (0 : Int) ∧ (0 : Int) ≤ 1))
  have hF := hF.si (c := 85) (k := 0) (v := (0 : Int32)) rfl
  refine lv_iload_n F.1 F.2.1 dX12_end_5 rfl (lv_at hl 1 rfl) ?_
  refine z_lt F 17 dX12_end_6 (by decide) rfl (fun c1 => ?_) (fun c1 => ?_)
  · refine a_ic F (0 : Int32) dX12_end_17 (by decide) ?_
    have g2 : (0 : Int) ≤ (u0.1 85 2).toInt ∧ (u0.1 85 2).toInt ≤ 940 := hR 85 2
    exact a_retz F hr hlocks hP hD hS dX12_end_18 (Or.inl rfl) ⟨hR, hF, (by decide), (by first | exact (by omega : (0 ≤ p0.toInt ∧ p0.toInt ≤ (u0.1 85 2).toInt → (u0.1 85 2).toInt = p0.toInt ∧ (0 : Int) = 1) ∧ (p0.toInt < 0 ∨ (u0.1 85 2).toInt < p0.toInt → (u0.1 85 2).toInt = (u0.1 85 2).toInt ∧ (0 : Int) = 0)) | (rw [ic_0]; exact (by omega : (0 ≤ p0.toInt ∧ p0.toInt ≤ (u0.1 85 2).toInt → (u0.1 85 2).toInt = p0.toInt ∧ (0 : Int) = 1) ∧ (p0.toInt < 0 ∨ (u0.1 85 2).toInt < p0.toInt → (u0.1 85 2).toInt = (u0.1 85 2).toInt ∧ (0 : Int) = 0))))⟩
  · refine lv_iload_n F.1 F.2.1 dX12_end_9 rfl (lv_at hl 1 rfl) ?_
    refine lv_aload_n F.1 F.2.1 dX12_end_10 rfl (lv_at hl 0 rfl) ?_
    have g3 : (0 : Int) ≤ (u0.1 85 2).toInt ∧ (u0.1 85 2).toInt ≤ 940 := hR 85 2
    refine a_geti F inX12 hP 85 2 tc_85 rfl rfl (by decide) q1473 (fun _ h9 => h9) (v := (u0.1 85 2)) rfl dX12_end_11 ?_
    refine b_le F 19 dX12_end_14 (by decide) rfl rfl (fun c4 => ?_) (fun c4 => ?_)
    · refine lv_aload_n F.1 F.2.1 dX12_end_19 rfl (lv_at hl 0 rfl) ?_
      refine lv_iload_n F.1 F.2.1 dX12_end_20 rfl (lv_at hl 1 rfl) ?_
      refine a_puti F inX12 tyX12 tyX12_ok nmX12 hP hD hS 85 2 tc_85 rfl rfl (by decide) q1473 (fun _ h9 => h9) rfl (ty := .int) (tyX12_ok 2 (by decide)) rfl rfl dX12_end_21 (fun H locs hP hD hS => ?_)
      have hR := hR.si (c := 85) (k := 2) (v := p0) (by omega : (0 : Int) ≤ p0.toInt ∧ p0.toInt ≤ 940)
      have hF := hF.si (c := 85) (k := 2) (v := p0) rfl
      refine a_ic F (1 : Int32) dX12_end_24 (by decide) ?_
      exact a_retz F hr hlocks hP hD hS dX12_end_25 (Or.inr rfl) ⟨hR, hF, (by decide), (by first | exact (by omega : (0 ≤ p0.toInt ∧ p0.toInt ≤ (u0.1 85 2).toInt → p0.toInt = p0.toInt ∧ (1 : Int) = 1) ∧ (p0.toInt < 0 ∨ (u0.1 85 2).toInt < p0.toInt → p0.toInt = (u0.1 85 2).toInt ∧ (1 : Int) = 0)) | (rw [ic_1]; exact (by omega : (0 ≤ p0.toInt ∧ p0.toInt ≤ (u0.1 85 2).toInt → p0.toInt = p0.toInt ∧ (1 : Int) = 1) ∧ (p0.toInt < 0 ∨ (u0.1 85 2).toInt < p0.toInt → p0.toInt = (u0.1 85 2).toInt ∧ (1 : Int) = 0))))⟩
    · refine a_ic F (0 : Int32) dX12_end_17 (by decide) ?_
      exact a_retz F hr hlocks hP hD hS dX12_end_18 (Or.inl rfl) ⟨hR, hF, (by decide), (by first | exact (by omega : (0 ≤ p0.toInt ∧ p0.toInt ≤ (u0.1 85 2).toInt → (u0.1 85 2).toInt = p0.toInt ∧ (0 : Int) = 1) ∧ (p0.toInt < 0 ∨ (u0.1 85 2).toInt < p0.toInt → (u0.1 85 2).toInt = (u0.1 85 2).toInt ∧ (0 : Int) = 0)) | (rw [ic_0]; exact (by omega : (0 ≤ p0.toInt ∧ p0.toInt ≤ (u0.1 85 2).toInt → (u0.1 85 2).toInt = p0.toInt ∧ (0 : Int) = 1) ∧ (p0.toInt < 0 ∨ (u0.1 85 2).toInt < p0.toInt → (u0.1 85 2).toInt = (u0.1 85 2).toInt ∧ (0 : Int) = 0))))⟩

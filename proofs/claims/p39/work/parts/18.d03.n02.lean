set_option maxHeartbeats 600000 in
set_option maxRecDepth 100000 in
theorem c_X12_taken_85__2 (l : Launch) (dC : Nat → ClassId) (dI : Nat → Nat → Nat) (ad : Nat → Nat) (cA : Nat → ClassId) (nF : Nat) (u0 : ac_U) (p0 : Int32) (hR : ac_R rg u0) (hp0 : (200 : Int) ≤ p0.toInt ∧ p0.toInt ≤ 900) : ac_Mv l yX12_taken (.code yX12_taken cX12_taken 2 none :: TB) 1 (dC, dI) vwCl (ac_ty cA) ad cA (TN nF) [.ref (ad 85), .int p0] u0 (fun (u : ac_U) => ac_R rg u ∧ ac_Fr [(85, some 2), (85, some 3), (85, some 4), (85, some 5)] u0 u ∧ (ln0 85) u) := by
  refine ac_Mv.of (cc := cX12_taken) (maxL := 2) (ret := none) (by decide) rfl (Nat.le_of_ble_eq_true rfl) ?_
  intro p e s m below meth c A ls F hml hr hlocks hA hP hD hS hl
  have F : ac_X p s m [.ref (ad 85), .int p0].toArray c cX12_taken RX12 TB (dC, dI) vwCl (ac_ty cA) := ⟨F.1, F.2.1, fun w h => F.2.2.1 w (List.mem_cons_of_mem _ h), F.2.2.2.1, F.2.2.2.2⟩
  have hl : lv_has ls 2 [(0, .ref (ad 85)), (1, .int p0)] := hl
  have hF : ac_Fr [(85, some 2), (85, some 3), (85, some 4), (85, some 5)] u0 u0 := ac_Fr.rf
  refine lv_aload_n F.1 F.2.1 dX12_taken_0 rfl (lv_at hl 0 rfl) ?_
  refine lv_aload_n F.1 F.2.1 dX12_taken_1 rfl (lv_at hl 0 rfl) ?_
  have g1 : (0 : Int) ≤ (u0.1 85 2).toInt ∧ (u0.1 85 2).toInt ≤ 940 := hR 85 2
  refine a_geti F inX12 hP 85 2 tn_85 rfl rfl (by decide) q1473 (fun _ h9 => h9) (v := (u0.1 85 2)) rfl dX12_taken_2 ?_
  refine a_puti F inX12 tyX12 tyX12_ok nmX12 hP hD hS 85 3 tn_85 rfl rfl (by decide) q1474 (fun _ h9 => h9) rfl (ty := .int) (tyX12_ok 3 (by decide)) rfl rfl dX12_taken_5 (fun H locs hP hD hS => ?_)
  have hR := hR.si (c := 85) (k := 3) (v := (u0.1 85 2)) (by omega : (0 : Int) ≤ (u0.1 85 2).toInt ∧ (u0.1 85 2).toInt ≤ 940)
  have hF := hF.si (c := 85) (k := 3) (v := (u0.1 85 2)) rfl
  refine lv_aload_n F.1 F.2.1 dX12_taken_8 rfl (lv_at hl 0 rfl) ?_
  refine a_ic F (0 : Int32) dX12_taken_9 (by decide) ?_
  refine a_puti F inX12 tyX12 tyX12_ok nmX12 hP hD hS 85 2 tn_85 rfl rfl (by decide) q1473 (fun _ h9 => h9) rfl (ty := .int) (tyX12_ok 2 (by decide)) rfl rfl dX12_taken_10 (fun H locs hP hD hS => ?_)
  have hR := hR.si (c := 85) (k := 2) (v := (0 : Int32)) (by rw [ic_0]; exact (by omega : (0 : Int) ≤ (0 : Int) ∧ (0 : Int) ≤ 940))
  have hF := hF.si (c := 85) (k := 2) (v := (0 : Int32)) rfl
  have hN_LR := ln0_D hD
  have hK_LR := hN_LR
  refine lv_aload_n F.1 F.2.1 dX12_taken_13 rfl (lv_at hl 0 rfl) ?_
  refine a_ic F (0 : Int32) dX12_taken_14 (by decide) ?_
  refine a_puti F inX12 tyX12 tyX12_ok nmX12 hP hD hS 85 4 tn_85 rfl rfl (by decide) q1475 (fun _ h9 => h9) rfl (ty := .int) (tyX12_ok 4 (by decide)) rfl rfl dX12_taken_15 (fun H locs hP hD hS => ?_)
  have hR := hR.si (c := 85) (k := 4) (v := (0 : Int32)) (by rw [ic_0]; exact (by omega : (0 : Int) ≤ (0 : Int) ∧ (0 : Int) ≤ 940))
  have hF := hF.si (c := 85) (k := 4) (v := (0 : Int32)) rfl
  have hK_LR := sp_si (sp_ln0 85) hK_LR (c := 85) (k := 4) (v := (0 : Int32)) (fun j9 h9 q9 => by rw [q9] at h9; exact absurd h9 (by decide))
  refine lv_aload_n F.1 F.2.1 dX12_taken_18 rfl (lv_at hl 0 rfl) ?_
  refine lv_iload_n F.1 F.2.1 dX12_taken_19 rfl (lv_at hl 1 rfl) ?_
  refine a_puti F inX12 tyX12 tyX12_ok nmX12 hP hD hS 85 5 tn_85 rfl rfl (by decide) q1476 (fun _ h9 => h9) rfl (ty := .int) (tyX12_ok 5 (by decide)) rfl rfl dX12_taken_20 (fun H locs hP hD hS => ?_)
  have hR := hR.si (c := 85) (k := 5) (v := p0) (by omega : (0 : Int) ≤ p0.toInt ∧ p0.toInt ≤ 900)
  have hF := hF.si (c := 85) (k := 5) (v := p0) rfl
  have hK_LR := sp_si (sp_ln0 85) hK_LR (c := 85) (k := 5) (v := p0) (fun j9 h9 q9 => by rw [q9] at h9; exact absurd h9 (by decide))
  exact a_retv F hr hlocks hP hD hS dX12_taken_23 ⟨hR, hF, hK_LR⟩

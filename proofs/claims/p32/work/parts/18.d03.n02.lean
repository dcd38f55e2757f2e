set_option maxHeartbeats 600000 in
set_option maxRecDepth 100000 in
theorem c_X11_sentence_0__2 (l : Launch) (dC : Nat → ClassId) (dI : Nat → Nat → Nat) (ad : Nat → Nat) (cA : Nat → ClassId) (nF : Nat) (u0 : ac_U)  (hR : ac_R rg u0) (hK_N4 : nmI 11 12 u0) : ac_Mi l yX11_sentence (.code yX11_sentence cX11_sentence 2 (some .int) :: TB) 37 (dC, dI) vwCl (ac_ty cA) ad cA (TT nF) [.ref (ad 0)] u0 (fun (r : Int32) (u : ac_U) => ac_R rg u ∧ ac_Fr [(1, some 2), (1, some 3), (1, some 4), (1, some 5), (1, some 6), (1, some 8), (1, some 9), (1, some 10), (1, some 11), (43, some 3), (43, some 4), (44, none), (45, none), (46, none), (47, some 3), (47, some 4), (48, none), (49, none), (50, none)] u0 u ∧ ((-941 : Int) ≤ r.toInt ∧ r.toInt ≤ 20) ∧ (ln0 1) u) := by
  refine ac_Mi.of (cc := cX11_sentence) (maxL := 2) (ret := (some .int)) (by decide) rfl (Nat.le_of_ble_eq_true rfl) ?_
  intro p e s m below meth c A ls F hml hr hlocks hA hP hD hS hl
  have F : ac_X p s m [.ref (ad 0)].toArray c cX11_sentence RX11 TB (dC, dI) vwCl (ac_ty cA) := ⟨F.1, F.2.1, fun w h => F.2.2.1 w (List.mem_cons_of_mem _ h), F.2.2.2.1, F.2.2.2.2⟩
  have hl : lv_has ls 2 [(0, .ref (ad 0))] := hl
  have hF : ac_Fr [(1, some 2), (1, some 3), (1, some 4), (1, some 5), (1, some 6), (1, some 8), (1, some 9), (1, some 10), (1, some 11), (43, some 3), (43, some 4), (44, none), (45, none), (46, none), (47, some 3), (47, some 4), (48, none), (49, none), (50, none)] u0 u0 := ac_Fr.rf
  have L33 : ∀ (z0 : Int32) (u : ac_U) (H : Heap) (locs : List Loc) (ls : Array Slot), ac_R rg u → ac_Fr [(1, some 2), (1, some 3), (1, some 4), (1, some 5), (1, some 6), (1, some 8), (1, some 9), (1, some 10), (1, some 11), (43, some 3), (43, some 4), (44, none), (45, none), (46, none), (47, some 3), (47, some 4), (48, none), (49, none), (50, none)] u0 u → nmI 11 12 u → (0 : Int) ≤ z0.toInt ∧ z0.toInt ≤ 1 → va_P (dC, dI) vwCl (ac_w ad cA (TT nF) u) H → va_D A (ac_w ad cA (TT nF) u) → va_S A s.heap H locs → lv_has ls 2 [(0, .ref (ad 0))] → W p l e (ac_rm 37) s m [.ref (ad 0)].toArray below meth c H locs 0 0 (MQ below (va_Qi (fun (r : Int32) (u : ac_U) => ac_R rg u ∧ ac_Fr [(1, some 2), (1, some 3), (1, some 4), (1, some 5), (1, some 6), (1, some 8), (1, some 9), (1, some 10), (1, some 11), (43, some 3), (43, some 4), (44, none), (45, none), (46, none), (47, some 3), (47, some 4), (48, none), (49, none), (50, none)] u0 u ∧ ((-941 : Int) ≤ r.toInt ∧ r.toInt ≤ 20) ∧ (ln0 1) u) (ac_B (dC, dI) vwCl (ac_ty cA) ad cA (TT nF) A) A) [.ref (ad 0)].toArray s 0 0 A) (F0 m 33 ls [.int z0]) := by
    intro z0 u H locs ls hR hF hK_N4 f0 hP hD hS hl
    refine lv_istore_n (lv' := [(1, .int z0), (0, .ref (ad 0))]) F.1 F.2.1 dX11_sentence_33 rfl hl (by decide) rfl (fun ls hl => ?_)
    refine lv_aload_n F.1 F.2.1 dX11_sentence_34 rfl (lv_at hl 1 rfl) ?_
    refine a_getr F inX11 hP 0 0 tc_0 rfl rfl (by decide) q503 (fun _ h9 => h9) dX11_sentence_35 ?_
    refine a_ic F (0 : Int32) dX11_sentence_38 (by decide) ?_
    refine a_puti F inX10 tyX10 tyX10_ok nmX10 hP hD hS 1 2 tc_1 rfl rfl (by decide) q96 (fun _ h9 => h9) rfl (ty := .int) (tyX10_ok 2 (by decide)) rfl rfl dX11_sentence_39 (fun H locs hP hD hS => ?_)
    have hR := hR.si (c := 1) (k := 2) (v := (0 : Int32)) (by rw [ic_0]; exact (by omega : (0 : Int) ≤ (0 : Int) ∧ (0 : Int) ≤ 940))
    have hF := hF.si (c := 1) (k := 2) (v := (0 : Int32)) rfl
    have hN_LC := ln0_D hD
    have hK_N4 := sp_sgD sp_N4 hD hK_N4 (by decide)
    have hK_LC := hN_LC
    refine lv_iload_n F.1 F.2.1 dX11_sentence_42 rfl (lv_at hl 0 rfl) ?_
    refine z_ne F 56 dX11_sentence_43 (by decide) rfl (fun c1 => ?_) (fun c1 => ?_)
    · refine lv_aload_n F.1 F.2.1 dX11_sentence_56 rfl (lv_at hl 1 rfl) ?_
      refine a_getr F inX11 hP 0 9 tc_0 rfl rfl (by decide) q512 (fun _ h9 => h9) dX11_sentence_57 ?_
      refine lv_aload_n F.1 F.2.1 dX11_sentence_60 rfl (lv_at hl 1 rfl) ?_
      refine a_getr F inX11 hP 0 10 tc_0 rfl rfl (by decide) q513 (fun _ h9 => h9) dX11_sentence_61 ?_
      refine a_Vv F hml hl.1 hA hP hD hS (As := [.ref (ad 47)]) (c_X8_copyFrom_43_47 l dC dI ad cA nF _  hR) (cs_RX11_324 (d := 1) F.2.2.1 (by decide)) tc_43 rfl rfl rfl rfl (Nat.le_of_ble_eq_true rfl) dX11_sentence_64 ⟨Nat.le_refl 0, Nat.le_refl 0⟩ (fun u2 H locs hq hP hD hS => ?_)
      obtain ⟨hR, hF2⟩ := hq
      have hF := hF.tr hF2 (by decide)
      have hK_N4 := sp_fr sp_N4 hF2 (by decide) hK_N4
      have hK_LC := sp_fr (sp_ln0 1) hF2 (by decide) hK_LC
      refine lv_aload_n F.1 F.2.1 dX11_sentence_67 rfl (lv_at hl 1 rfl) ?_
      refine a_getr F inX11 hP 0 9 tc_0 rfl rfl (by decide) q512 (fun _ h9 => h9) dX11_sentence_68 ?_
      have g3 : (0 : Int) ≤ (u2.1 43 4).toInt ∧ (u2.1 43 4).toInt ≤ 20 := hR 43 4
      refine a_geti F inX8 hP 43 4 tc_43 rfl rfl (by decide) q447 (fun _ h9 => h9) (v := (u2.1 43 4)) rfl dX11_sentence_71 ?_
      exact a_reti F hr hlocks hP hD hS dX11_sentence_74 ⟨hR, hF, (by omega : (-941 : Int) ≤ (u2.1 43 4).toInt ∧ (u2.1 43 4).toInt ≤ 20), hK_LC⟩
    · refine a_ic F (-1 : Int32) dX11_sentence_46 (by decide) ?_
      refine lv_aload_n F.1 F.2.1 dX11_sentence_47 rfl (lv_at hl 1 rfl) ?_
      refine a_getr F inX11 hP 0 0 tc_0 rfl rfl (by decide) q503 (fun _ h9 => h9) dX11_sentence_48 ?_
      have g4 : (0 : Int) ≤ (u.1 1 11).toInt ∧ (u.1 1 11).toInt ≤ 940 := hR 1 11
      refine a_geti F inX10 hP 1 11 tc_1 rfl rfl (by decide) q117 (fun _ h9 => h9) (v := (u.1 1 11)) rfl dX11_sentence_51 ?_
      refine a_isub F dX11_sentence_54 ic_m1 rfl (by omega) (fun v5 hv5 => ?_)
      exact a_reti F hr hlocks hP hD hS dX11_sentence_55 ⟨hR, hF, (by omega : (-941 : Int) ≤ v5.toInt ∧ v5.toInt ≤ 20), hK_LC⟩
  have L32 : ∀ (u : ac_U) (H : Heap) (locs : List Loc) (ls : Array Slot), ac_R rg u → ac_Fr [(1, some 2), (1, some 3), (1, some 4), (1, some 5), (1, some 6), (1, some 8), (1, some 9), (1, some 10), (1, some 11), (43, some 3), (43, some 4), (44, none), (45, none), (46, none), (47, some 3), (47, some 4), (48, none), (49, none), (50, none)] u0 u → nmI 11 12 u → va_P (dC, dI) vwCl (ac_w ad cA (TT nF) u) H → va_D A (ac_w ad cA (TT nF) u) → va_S A s.heap H locs → lv_has ls 2 [(0, .ref (ad 0))] → W p l e (ac_rm 37) s m [.ref (ad 0)].toArray below meth c H locs 0 0 (MQ below (va_Qi (fun (r : Int32) (u : ac_U) => ac_R rg u ∧ ac_Fr [(1, some 2), (1, some 3), (1, some 4), (1, some 5), (1, some 6), (1, some 8), (1, some 9), (1, some 10), (1, some 11), (43, some 3), (43, some 4), (44, none), (45, none), (46, none), (47, some 3), (47, some 4), (48, none), (49, none), (50, none)] u0 u ∧ ((-941 : Int) ≤ r.toInt ∧ r.toInt ≤ 20) ∧ (ln0 1) u) (ac_B (dC, dI) vwCl (ac_ty cA) ad cA (TT nF) A) A) [.ref (ad 0)].toArray s 0 0 A) (F0 m 32 ls []) := by
    intro u H locs ls hR hF hK_N4 hP hD hS hl
    refine a_ic F (0 : Int32) dX11_sentence_32 (by decide) ?_
    exact L33 (0 : Int32) _ _ _ _ hR hF hK_N4 (by decide) hP hD hS (lv_sub hl [0] rfl)
  refine lv_aload_n F.1 F.2.1 dX11_sentence_0 rfl (lv_at hl 0 rfl) ?_
  refine a_getr F inX11 hP 0 11 tc_0 rfl rfl (by decide) q514 (fun _ h9 => h9) dX11_sentence_1 ?_
  refine a_Vv F hml hl.1 hA hP hD hS (As := []) (c_X9_begin_51 l dC dI ad cA nF _  hR) (cs_RX11_317 (d := 5) F.2.2.1 (by decide)) tc_51 rfl rfl rfl rfl (Nat.le_of_ble_eq_true rfl) dX11_sentence_4 ⟨Nat.le_refl 0, Nat.le_refl 0⟩ (fun u6 H locs hq hP hD hS => ?_)
  obtain ⟨hR, hF6⟩ := hq
  have hF := hF.tr hF6 (by decide)
  have hK_N4 := sp_fr sp_N4 hF6 (by decide) hK_N4
  refine lv_aload_n F.1 F.2.1 dX11_sentence_7 rfl (lv_at hl 0 rfl) ?_
  refine a_getr F inX11 hP 0 11 tc_0 rfl rfl (by decide) q514 (fun _ h9 => h9) dX11_sentence_8 ?_
  refine a_ic F (1 : Int32) dX11_sentence_11 (by decide) ?_
  refine a_Vi F hml hl.1 hA hP hD hS (As := [.int (1 : Int32)]) (c_X9_readCond_51_d1 l dC dI ad cA nF _ (1 : Int32) hR (by decide) hK_N4) (cs_RX11_318 (d := 36) F.2.2.1 (by decide)) tc_51 rfl rfl rfl rfl (Nat.le_of_ble_eq_true rfl) dX11_sentence_12 ⟨Nat.le_refl 0, Nat.le_refl 0⟩ (fun r7 u7 H locs hq hP hD hS => ?_)
  obtain ⟨hR, hF7, gr7⟩ := hq
  have hF := hF.tr hF7 (by decide)
  have hK_N4 := sp_fr sp_N4 hF7 (by decide) hK_N4
  refine z_eq F 32 dX11_sentence_15 (by decide) rfl (fun c8 => ?_) (fun c8 => ?_)
  · exact L32 _ _ _ _ hR hF hK_N4 hP hD hS (lv_sub hl [0] rfl)
  · refine lv_aload_n F.1 F.2.1 dX11_sentence_18 rfl (lv_at hl 0 rfl) ?_
    refine a_getr F inX11 hP 0 11 tc_0 rfl rfl (by decide) q514 (fun _ h9 => h9) dX11_sentence_19 ?_
    refine a_Vi F hml hl.1 hA hP hD hS (As := []) (c_X9_isAtEnd_51 l dC dI ad cA nF _  hR) (cs_RX11_321 (d := 2) F.2.2.1 (by decide)) tc_51 rfl rfl rfl rfl (Nat.le_of_ble_eq_true rfl) dX11_sentence_22 ⟨Nat.le_refl 0, Nat.le_refl 0⟩ (fun r9 u9 H locs hq hP hD hS => ?_)
    obtain ⟨hR, hF9, gr9⟩ := hq
    have hF := hF.tr hF9 (by decide)
    have hK_N4 := sp_fr sp_N4 hF9 (by decide) hK_N4
    refine z_eq F 32 dX11_sentence_25 (by decide) rfl (fun c10 => ?_) (fun c10 => ?_)
    · exact L32 _ _ _ _ hR hF hK_N4 hP hD hS (lv_sub hl [0] rfl)
    · refine a_ic F (1 : Int32) dX11_sentence_28 (by decide) ?_
      refine lv_goto (tgt := 33) F.1 F.2.1 dX11_sentence_29 (by decide) ?_
      exact L33 (1 : Int32) _ _ _ _ hR hF hK_N4 (by decide) hP hD hS (lv_sub hl [0] rfl)
set_option maxHeartbeats 600000 in
set_option maxRecDepth 100000 in
theorem c_X12_taken_85__2 (l : Launch) (dC : Nat → ClassId) (dI : Nat → Nat → Nat) (ad : Nat → Nat) (cA : Nat → ClassId) (nF : Nat) (u0 : ac_U) (p0 : Int32) (hR : ac_R rg u0) (hp0 : (200 : Int) ≤ p0.toInt ∧ p0.toInt ≤ 900) : ac_Mv l yX12_taken (.code yX12_taken cX12_taken 2 none :: TB) 1 (dC, dI) vwCl (ac_ty cA) ad cA (TT nF) [.ref (ad 85), .int p0] u0 (fun (u : ac_U) => ac_R rg u ∧ ac_Fr [(85, some 2), (85, some 3), (85, some 4), (85, some 5)] u0 u ∧ (ln0 85) u) := by
  refine ac_Mv.of (cc := cX12_taken) (maxL := 2) (ret := none) (by decide) rfl (Nat.le_of_ble_eq_true rfl) ?_
  intro p e s m below meth c A ls F hml hr hlocks hA hP hD hS hl
  have F : ac_X p s m [.ref (ad 85), .int p0].toArray c cX12_taken RX12 TB (dC, dI) vwCl (ac_ty cA) := ⟨F.1, F.2.1, fun w h => F.2.2.1 w (List.mem_cons_of_mem _ h), F.2.2.2.1, F.2.2.2.2⟩
  have hl : lv_has ls 2 [(0, .ref (ad 85)), (1, .int p0)] := hl
  have hF : ac_Fr [(85, some 2), (85, some 3), (85, some 4), (85, some 5)] u0 u0 := ac_Fr.rf
  refine lv_aload_n F.1 F.2.1 dX12_taken_0 rfl (lv_at hl 0 rfl) ?_
  refine lv_aload_n F.1 F.2.1 dX12_taken_1 rfl (lv_at hl 0 rfl) ?_
  have g1 : (0 : Int) ≤ (u0.1 85 2).toInt ∧ (u0.1 85 2).toInt ≤ 940 := hR 85 2
  refine a_geti F inX12 hP 85 2 tc_85 rfl rfl (by decide) q1473 (fun _ h9 => h9) (v := (u0.1 85 2)) rfl dX12_taken_2 ?_
  refine a_puti F inX12 tyX12 tyX12_ok nmX12 hP hD hS 85 3 tc_85 rfl rfl (by decide) q1474 (fun _ h9 => h9) rfl (ty := .int) (tyX12_ok 3 (by decide)) rfl rfl dX12_taken_5 (fun H locs hP hD hS => ?_)
  have hR := hR.si (c := 85) (k := 3) (v := (u0.1 85 2)) (by omega : (0 : Int) ≤ (u0.1 85 2).toInt ∧ (u0.1 85 2).toInt ≤ 940)
  have hF := hF.si (c := 85) (k := 3) (v := (u0.1 85 2)) rfl
  refine lv_aload_n F.1 F.2.1 dX12_taken_8 rfl (lv_at hl 0 rfl) ?_
  refine a_ic F (0 : Int32) dX12_taken_9 (by decide) ?_
  refine a_puti F inX12 tyX12 tyX12_ok nmX12 hP hD hS 85 2 tc_85 rfl rfl (by decide) q1473 (fun _ h9 => h9) rfl (ty := .int) (tyX12_ok 2 (by decide)) rfl rfl dX12_taken_10 (fun H locs hP hD hS => ?_)
  have hR := hR.si (c := 85) (k := 2) (v := (0 : Int32)) (by rw [ic_0]; exact (by omega : (0 : Int) ≤ (0 : Int) ∧ (0 : Int) ≤ 940))
  have hF := hF.si (c := 85) (k := 2) (v := (0 : Int32)) rfl
  have hN_LR := ln0_D hD
  have hK_LR := hN_LR
  refine lv_aload_n F.1 F.2.1 dX12_taken_13 rfl (lv_at hl 0 rfl) ?_
  refine a_ic F (0 : Int32) dX12_taken_14 (by decide) ?_
  refine a_puti F inX12 tyX12 tyX12_ok nmX12 hP hD hS 85 4 tc_85 rfl rfl (by decide) q1475 (fun _ h9 => h9) rfl (ty := .int) (tyX12_ok 4 (by decide)) rfl rfl dX12_taken_15 (fun H locs hP hD hS => ?_)
  have hR := hR.si (c := 85) (k := 4) (v := (0 : Int32)) (by rw [ic_0]; exact (by omega : (0 : Int) ≤ (0 : Int) ∧ (0 : Int) ≤ 940))
  have hF := hF.si (c := 85) (k := 4) (v := (0 : Int32)) rfl
  have hK_LR := sp_si (sp_ln0 85) hK_LR (c := 85) (k := 4) (v := (0 : Int32)) (fun j9 h9 q9 => by rw [q9] at h9; exact absurd h9 (by decide))
  refine lv_aload_n F.1 F.2.1 dX12_taken_18 rfl (lv_at hl 0 rfl) ?_
  refine lv_iload_n F.1 F.2.1 dX12_taken_19 rfl (lv_at hl 1 rfl) ?_
  refine a_puti F inX12 tyX12 tyX12_ok nmX12 hP hD hS 85 5 tc_85 rfl rfl (by decide) q1476 (fun _ h9 => h9) rfl (ty := .int) (tyX12_ok 5 (by decide)) rfl rfl dX12_taken_20 (fun H locs hP hD hS => ?_)
  have hR := hR.si (c := 85) (k := 5) (v := p0) (by omega : (0 : Int) ≤ p0.toInt ∧ p0.toInt ≤ 900)
  have hF := hF.si (c := 85) (k := 5) (v := p0) rfl
  have hK_LR := sp_si (sp_ln0 85) hK_LR (c := 85) (k := 5) (v := p0) (fun j9 h9 q9 => by rw [q9] at h9; exact absurd h9 (by decide))
  exact a_retv F hr hlocks hP hD hS dX12_taken_23 ⟨hR, hF, hK_LR⟩

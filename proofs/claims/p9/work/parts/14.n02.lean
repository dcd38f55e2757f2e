set_option maxHeartbeats 600000 in
set_option maxRecDepth 100000 in
theorem c_X12_image_85__3 (l : Launch) (dC : Nat → ClassId) (dI : Nat → Nat → Nat) (ad : Nat → Nat) (cA : Nat → ClassId) (nF : Nat) (u0 : ac_U) (p0 : Int32) (hR : ac_R rg u0) (hK_KI : kpI u0) (hK_AK : akI u0) (hK_MS : msI u0) (hK_CW : cdI u0) (hK_AP : apI u0) : ac_Mi l yX12_image (.code yX12_image cX12_image 3 (some .boolean) :: TB) 2 (dC, dI) vwCl (ac_ty cA) ad cA (TT nF) [.ref (ad 85), .int p0] u0 (fun (r : Int32) (u : ac_U) => ac_R rg u ∧ ac_Fr [(85, some 0), (102, none), (104, none)] u0 u ∧ ((0 : Int) ≤ r.toInt ∧ r.toInt ≤ 1) ∧ kpI u ∧ akI u) := by
  refine ac_Mi.of (cc := cX12_image) (maxL := 3) (ret := (some .boolean)) (by decide) rfl (Nat.le_of_ble_eq_true rfl) ?_
  intro p e s m below meth c A ls F hml hr hlocks hA hP hD hS hl
  have F : ac_X p s m [.ref (ad 85), .int p0].toArray c cX12_image RX12 TB (dC, dI) vwCl (ac_ty cA) := ⟨F.1, F.2.1, fun w h => F.2.2.1 w (List.mem_cons_of_mem _ h), F.2.2.2.1, F.2.2.2.2⟩
  have hl : lv_has ls 3 [(0, .ref (ad 85)), (1, .int p0)] := hl
  have hF : ac_Fr [(85, some 0), (102, none), (104, none)] u0 u0 := ac_Fr.rf
  have L51 : ∀ (n51 : Nat) (x2 : Int32) (u : ac_U) (H : Heap) (locs : List Loc) (ls : Array Slot), ac_R rg u → ac_Fr [(85, some 0), (102, none), (104, none)] u0 u → 26 - x2.toInt < (n51 : Int) → koI p0.toInt u → kgI p0.toInt u → aoI p0.toInt u → agI p0.toInt u → (0 : Int) ≤ p0.toInt ∧ p0.toInt ≤ 1 → (0 : Int) ≤ x2.toInt ∧ x2.toInt ≤ 26 → (0 : Int) ≤ (u.1 85 0).toInt ∧ (u.1 85 0).toInt ≤ 0 → va_P (dC, dI) vwCl (ac_w ad cA (TT nF) u) H → va_D A (ac_w ad cA (TT nF) u) → va_S A s.heap H locs → lv_has ls 3 [(0, .ref (ad 85)), (1, .int p0), (2, .int x2)] → W p l e (ac_rm 2) s m [.ref (ad 85), .int p0].toArray below meth c H locs 0 0 (MQ below (va_Qi (fun (r : Int32) (u : ac_U) => ac_R rg u ∧ ac_Fr [(85, some 0), (102, none), (104, none)] u0 u ∧ ((0 : Int) ≤ r.toInt ∧ r.toInt ≤ 1) ∧ kpI u ∧ akI u) (ac_B (dC, dI) vwCl (ac_ty cA) ad cA (TT nF) A) A) [.ref (ad 85), .int p0].toArray s 0 0 A) (F0 m 51 ls []) := by
    intro n51
    induction n51 with
    | zero => intro x2 u H locs ls hR hF hn51 hK_KO hK_KG hK_AO hK_AG f0 f1 f2 hP hD hS hl; exfalso; omega
    | succ n51 ih51 =>
      intro x2 u H locs ls hR hF hn51 hK_KO hK_KG hK_AO hK_AG f0 f1 f2 hP hD hS hl
      refine lv_iload_n F.1 F.2.1 dX12_image_51 rfl (lv_at hl 2 rfl) ?_
      refine a_bp F (26 : Int32) dX12_image_52 (by decide) ?_
      refine b_ge F 80 dX12_image_54 (by decide) rfl ic_26 (fun c1 => ?_) (fun c1 => ?_)
      · refine lv_aload_n F.1 F.2.1 dX12_image_80 rfl (lv_at hl 0 rfl) ?_
        refine a_getr F inX12 hP 85 47 tc_85 rfl rfl (by decide) q1518 (fun _ h9 => h9) dX12_image_81 ?_
        refine lv_iload_n F.1 F.2.1 dX12_image_84 rfl (lv_at hl 1 rfl) ?_
        refine a_ic F (1 : Int32) dX12_image_85 (by decide) ?_
        refine a_zast F hP hD hS 104 tc_104 rfl (i_in rfl (by omega)) dX12_image_86 (fun H locs hP hD hS => ?_)
        rw [i_znar (Or.inr rfl)] at hP hD
        have hR := hR.si (c := 104) (k := p0.toNatClampNeg) (v := (1 : Int32)) (by rw [ic_1]; exact (by omega : (0 : Int) ≤ (1 : Int) ∧ (1 : Int) ≤ 1))
        have hF := hF.si (c := 104) (k := p0.toNatClampNeg) (v := (1 : Int32)) rfl
        have hO_KO := hK_KO
        have hO_KG := hK_KG
        have hO_AO := hK_AO
        have hO_AG := hK_AG
        have hN_KI := ki_new (v := (1 : Int32)) hO_KO hO_KG (by omega)
        have hN_AK := ak_new (v := (1 : Int32)) hO_AO hO_AG (by omega)
        have hK_KI := hN_KI
        have hK_AK := hN_AK
        refine a_ic F (1 : Int32) dX12_image_87 (by decide) ?_
        exact a_retz F hr hlocks hP hD hS dX12_image_88 (Or.inr rfl) ⟨hR, hF, (by decide), hK_KI, hK_AK⟩
      · refine lv_aload_n F.1 F.2.1 dX12_image_57 rfl (lv_at hl 0 rfl) ?_
        refine a_getr F inX12 hP 85 46 tc_85 rfl rfl (by decide) q1517 (fun _ h9 => h9) dX12_image_58 ?_
        refine a_bp F (26 : Int32) dX12_image_61 (by decide) ?_
        refine lv_iload_n F.1 F.2.1 dX12_image_63 rfl (lv_at hl 1 rfl) ?_
        refine a_imul F dX12_image_64 ic_26 rfl (by omega) (fun v2 hv2 => ?_)
        refine lv_iload_n F.1 F.2.1 dX12_image_65 rfl (lv_at hl 2 rfl) ?_
        refine a_iadd F dX12_image_66 rfl rfl (by omega) (fun v3 hv3 => ?_)
        refine lv_aload_n F.1 F.2.1 dX12_image_67 rfl (lv_at hl 0 rfl) ?_
        refine a_getr F inX12 hP 85 9 tc_85 rfl rfl (by decide) q1480 (fun _ h9 => h9) dX12_image_68 ?_
        refine lv_iload_n F.1 F.2.1 dX12_image_71 rfl (lv_at hl 2 rfl) ?_
        refine a_lald F hP 90 tc_90 rfl (i_in rfl (by omega)) dX12_image_72 (fun w4 ew4 => ?_)
        refine a_last F hP hD hS 103 tc_103 rfl (i_in rfl (by omega)) dX12_image_73 (fun H locs hP hD hS => ?_)
        have hR := ac_slR hD hR
        have hF := ac_slF hD hF
        have hK_KO := sp_sl (sp_KO _) hD hK_KO
        have hK_KG := sp_sl (sp_KG _) hD hK_KG
        have hK_AO := sp_sl (sp_AO _) hD hK_AO
        have hK_AG := sp_sl (sp_AG _) hD hK_AG
        refine a_iinc F (k := 2) (fun v5 => [(2, .int v5), (0, .ref (ad 85)), (1, .int p0)]) dX12_image_74 hl rfl rfl (by decide) (by omega) (by decide) (fun _ => rfl) (fun v5 ls hv5 hl => ?_)
        refine lv_goto (tgt := 51) F.1 F.2.1 dX12_image_77 (by decide) ?_
        have g6 : (0 : Int) ≤ (u.1 85 0).toInt ∧ (u.1 85 0).toInt ≤ 1 := hR 85 0
        exact ih51 v5 _ _ _ _ hR hF (by omega) hK_KO hK_KG hK_AO hK_AG (by omega) (by omega) (by omega : (0 : Int) ≤ (u.1 85 0).toInt ∧ (u.1 85 0).toInt ≤ 0) hP hD hS (lv_sub hl [1, 2, 0] rfl)
  have L18 : ∀ (n18 : Nat) (x2 : Int32) (u : ac_U) (H : Heap) (locs : List Loc) (ls : Array Slot), ac_R rg u → ac_Fr [(85, some 0), (102, none), (104, none)] u0 u → 657 - x2.toInt < (n18 : Int) → msI u → cdI u → koI p0.toInt u → icI p0.toInt x2.toInt u → apI u → aoI p0.toInt u → (0 : Int) ≤ p0.toInt ∧ p0.toInt ≤ 1 → (0 : Int) ≤ x2.toInt ∧ x2.toInt ≤ 657 → (0 : Int) ≤ (u.1 85 0).toInt ∧ (u.1 85 0).toInt ≤ 0 → va_P (dC, dI) vwCl (ac_w ad cA (TT nF) u) H → va_D A (ac_w ad cA (TT nF) u) → va_S A s.heap H locs → lv_has ls 3 [(0, .ref (ad 85)), (1, .int p0), (2, .int x2)] → W p l e (ac_rm 2) s m [.ref (ad 85), .int p0].toArray below meth c H locs 0 0 (MQ below (va_Qi (fun (r : Int32) (u : ac_U) => ac_R rg u ∧ ac_Fr [(85, some 0), (102, none), (104, none)] u0 u ∧ ((0 : Int) ≤ r.toInt ∧ r.toInt ≤ 1) ∧ kpI u ∧ akI u) (ac_B (dC, dI) vwCl (ac_ty cA) ad cA (TT nF) A) A) [.ref (ad 85), .int p0].toArray s 0 0 A) (F0 m 18 ls []) := by
    intro n18
    induction n18 with
    | zero => intro x2 u H locs ls hR hF hn18 hK_MS hK_CW hK_KO hK_ICx hK_AP hK_AO f0 f1 f2 hP hD hS hl; exfalso; omega
    | succ n18 ih18 =>
      intro x2 u H locs ls hR hF hn18 hK_MS hK_CW hK_KO hK_ICx hK_AP hK_AO f0 f1 f2 hP hD hS hl
      refine lv_iload_n F.1 F.2.1 dX12_image_18 rfl (lv_at hl 2 rfl) ?_
      refine a_sp F (657 : Int32) dX12_image_19 (by decide) ?_
      refine b_ge F 49 dX12_image_22 (by decide) rfl ic_657 (fun c7 => ?_) (fun c7 => ?_)
      · refine a_ic F (0 : Int32) dX12_image_49 (by decide) ?_
        refine lv_istore_n (lv' := [(2, .int (0 : Int32)), (0, .ref (ad 85)), (1, .int p0)]) F.1 F.2.1 dX12_image_50 rfl hl (by decide) rfl (fun ls hl => ?_)
        have g8 : (0 : Int) ≤ (u.1 85 0).toInt ∧ (u.1 85 0).toInt ≤ 1 := hR 85 0
        exact L51 28 (0 : Int32) _ _ _ _ hR hF (by decide) hK_KO (ic_kg hK_ICx hK_MS hK_CW hR (by omega)) hK_AO (ic_ag hK_ICx hK_AP (by omega)) (by omega) (by decide) (by omega : (0 : Int) ≤ (u.1 85 0).toInt ∧ (u.1 85 0).toInt ≤ 0) hP hD hS (lv_sub hl [1, 2, 0] rfl)
      · refine lv_aload_n F.1 F.2.1 dX12_image_25 rfl (lv_at hl 0 rfl) ?_
        refine a_getr F inX12 hP 85 45 tc_85 rfl rfl (by decide) q1516 (fun _ h9 => h9) dX12_image_26 ?_
        refine a_sp F (657 : Int32) dX12_image_29 (by decide) ?_
        refine lv_iload_n F.1 F.2.1 dX12_image_32 rfl (lv_at hl 1 rfl) ?_
        refine a_imul F dX12_image_33 ic_657 rfl (by omega) (fun v9 hv9 => ?_)
        refine lv_iload_n F.1 F.2.1 dX12_image_34 rfl (lv_at hl 2 rfl) ?_
        refine a_iadd F dX12_image_35 rfl rfl (by omega) (fun v10 hv10 => ?_)
        refine lv_aload_n F.1 F.2.1 dX12_image_36 rfl (lv_at hl 0 rfl) ?_
        refine a_getr F inX12 hP 85 6 tc_85 rfl rfl (by decide) q1477 (fun _ h9 => h9) dX12_image_37 ?_
        refine lv_iload_n F.1 F.2.1 dX12_image_40 rfl (lv_at hl 2 rfl) ?_
        refine a_iald F hP 87 tc_87 rfl (i_in rfl (by omega)) dX12_image_41 (fun v11 ev11 => ?_)
        refine a_iast F hP hD hS 102 tc_102 rfl (i_in rfl (by omega)) dX12_image_42 (fun H locs hP hD hS => ?_)
        have hR := hR.si (c := 102) (k := v10.toNatClampNeg) (v := v11) (cp_el hR ev11 (rg_u4 (m := p0.toInt) (by omega) (by omega) (by omega)))
        have hF := hF.si (c := 102) (k := v10.toNatClampNeg) (v := v11) rfl
        have hO_MS := hK_MS
        have hO_CW := hK_CW
        have hO_KO := hK_KO
        have hO_ICx := hK_ICx
        have hO_AP := hK_AP
        have hO_AO := hK_AO
        have hK_MS := sp_sgD sp_MS hD hK_MS (by decide)
        have hK_CW := sp_sgD sp_CW hD hK_CW (by decide)
        have hK_KO := ko_w hO_KO (k := v10) (v := v11) (x := x2.toInt) (by omega) (by omega) (by omega)
        have hK_ICx := ic_w hO_ICx (by omega) (i := x2) (k := v10) (by omega) (by omega) ev11
        have hK_AP := sp_sgD sp_AP hD hK_AP (by decide)
        have hK_AO := ao_w hO_AO (k := v10) (v := v11) (x := x2.toInt) (by omega) (by omega) (by omega)
        refine a_iinc F (k := 2) (fun v12 => [(2, .int v12), (0, .ref (ad 85)), (1, .int p0)]) dX12_image_43 hl rfl rfl (by decide) (by omega) (by decide) (fun _ => rfl) (fun v12 ls hv12 hl => ?_)
        refine lv_goto (tgt := 18) F.1 F.2.1 dX12_image_46 (by decide) ?_
        have g13 : (0 : Int) ≤ (u.1 85 0).toInt ∧ (u.1 85 0).toInt ≤ 1 := hR 85 0
        exact ih18 v12 _ _ _ _ hR hF (by omega) hK_MS hK_CW hK_KO (ic_eq hK_ICx (by omega)) hK_AP hK_AO (by omega) (by omega) (by omega : (0 : Int) ≤ (u.1 85 0).toInt ∧ (u.1 85 0).toInt ≤ 0) hP hD hS (lv_sub hl [1, 2, 0] rfl)
  refine lv_aload_n F.1 F.2.1 dX12_image_0 rfl (lv_at hl 0 rfl) ?_
  refine a_ic F (0 : Int32) dX12_image_1 (by decide) ?_
  refine a_puti F inX12 tyX12 tyX12_ok nmX12 hP hD hS 85 0 tc_85 rfl rfl (by decide) q1471 (fun _ h9 => h9) rfl (ty := .int) (tyX12_ok 0 (by decide)) rfl rfl dX12_image_2 (fun H locs hP hD hS => ?_)
  have hR := hR.si (c := 85) (k := 0) (v := (0 : Int32)) (by rw [ic_0]; exact (by omega : (0 : Int) ≤ (0 : Int) ∧ (0 : Int) ≤ 1))
  have hF := hF.si (c := 85) (k := 0) (v := (0 : Int32)) rfl
  have hK_KI := sp_sgD sp_KI hD hK_KI (by decide)
  have hK_AK := sp_sgD sp_AK hD hK_AK (by decide)
  have hK_MS := sp_sgD sp_MS hD hK_MS (by decide)
  have hK_CW := sp_sgD sp_CW hD hK_CW (by decide)
  have hK_AP := sp_sgD sp_AP hD hK_AP (by decide)
  refine lv_iload_n F.1 F.2.1 dX12_image_5 rfl (lv_at hl 1 rfl) ?_
  refine a_ic F (0 : Int32) dX12_image_6 (by decide) ?_
  refine a_ic F (1 : Int32) dX12_image_7 (by decide) ?_
  refine a_Si F hml hl.1 hA hP hD hS (As := [.int p0, .int (0 : Int32), .int (1 : Int32)]) (c_X12_isIn l dC dI ad cA nF _ p0 (0 : Int32) (1 : Int32) hR (by decide)) (cs_RX12_187 (d := 1) F.2.2.1 (by decide)) rfl rfl (Nat.le_of_ble_eq_true rfl) dX12_image_8 ⟨Nat.le_refl 0, Nat.le_refl 0⟩ (fun r14 uN14 H locs hq hP hD hS => ?_)
  obtain ⟨hu14, gr14, xr14⟩ := hq
  rw [hu14] at hP hD
  have xr14 : r14.toInt ≠ 0 → (0 : Int) ≤ p0.toInt ∧ p0.toInt ≤ (1 : Int) := xr14
  refine z_ne F 16 dX12_image_11 (by decide) rfl (fun c15 => ?_) (fun c15 => ?_)
  · refine a_ic F (0 : Int32) dX12_image_16 (by decide) ?_
    refine lv_istore_n (lv' := [(2, .int (0 : Int32)), (0, .ref (ad 85)), (1, .int p0)]) F.1 F.2.1 dX12_image_17 rfl hl (by decide) rfl (fun ls hl => ?_)
    exact L18 659 (0 : Int32) _ _ _ _ hR hF (by decide) hK_MS hK_CW (kp_ko hK_KI) (im_0 (by decide)) hK_AP (ak_ao hK_AK) (by omega) (by decide) (by omega : (0 : Int) ≤ (0 : Int) ∧ (0 : Int) ≤ 0) hP hD hS (lv_sub hl [1, 2, 0] rfl)
  · refine a_ic F (0 : Int32) dX12_image_14 (by decide) ?_
    exact a_retz F hr hlocks hP hD hS dX12_image_15 (Or.inl rfl) ⟨hR, hF, (by decide), hK_KI, hK_AK⟩
set_option maxHeartbeats 600000 in
set_option maxRecDepth 100000 in
theorem c_X12_isSaid_85 (l : Launch) (dC : Nat → ClassId) (dI : Nat → Nat → Nat) (ad : Nat → Nat) (cA : Nat → ClassId) (nF : Nat) (u0 : ac_U) (p0 : Int32) (hR : ac_R rg u0) (hp0 : (0 : Int) ≤ p0.toInt ∧ p0.toInt ≤ 7) (hK_CW : cdI u0) : ac_Mi l yX12_isSaid (.code yX12_isSaid cX12_isSaid 5 (some .boolean) :: TB) 8 (dC, dI) vwCl (ac_ty cA) ad cA (TT nF) [.ref (ad 85), .int p0] u0 (fun (r : Int32) (u : ac_U) => ac_R rg u ∧ ac_Fr [(101, none)] u0 u ∧ ((0 : Int) ≤ r.toInt ∧ r.toInt ≤ 1)) := by
  refine ac_Mi.of (cc := cX12_isSaid) (maxL := 5) (ret := (some .boolean)) (by decide) rfl (Nat.le_of_ble_eq_true rfl) ?_
  intro p e s m below meth c A ls F hml hr hlocks hA hP hD hS hl
  have F : ac_X p s m [.ref (ad 85), .int p0].toArray c cX12_isSaid RX12 TB (dC, dI) vwCl (ac_ty cA) := ⟨F.1, F.2.1, fun w h => F.2.2.1 w (List.mem_cons_of_mem _ h), F.2.2.2.1, F.2.2.2.2⟩
  have hl : lv_has ls 5 [(0, .ref (ad 85)), (1, .int p0)] := hl
  have hF : ac_Fr [(101, none)] u0 u0 := ac_Fr.rf
  have L4 : ∀ (n4 : Nat) (x2 : Int32) (x3 : Int32) (u : ac_U) (H : Heap) (locs : List Loc) (ls : Array Slot), ac_R rg u → ac_Fr [(101, none)] u0 u → 45 - x3.toInt < (n4 : Int) → cdI u → dpI x3.toInt x2.toInt u → (0 : Int) ≤ x2.toInt ∧ x2.toInt ≤ 45 → (0 : Int) ≤ x3.toInt ∧ x3.toInt ≤ 45 → 0 ≤ x2.toInt ∧ x2.toInt ≤ x3.toInt → va_P (dC, dI) vwCl (ac_w ad cA (TT nF) u) H → va_D A (ac_w ad cA (TT nF) u) → va_S A s.heap H locs → lv_has ls 5 [(0, .ref (ad 85)), (1, .int p0), (2, .int x2), (3, .int x3)] → W p l e (ac_rm 8) s m [.ref (ad 85), .int p0].toArray below meth c H locs 0 0 (MQ below (va_Qi (fun (r : Int32) (u : ac_U) => ac_R rg u ∧ ac_Fr [(101, none)] u0 u ∧ ((0 : Int) ≤ r.toInt ∧ r.toInt ≤ 1)) (ac_B (dC, dI) vwCl (ac_ty cA) ad cA (TT nF) A) A) [.ref (ad 85), .int p0].toArray s 0 0 A) (F0 m 4 ls []) := by
    intro n4
    induction n4 with
    | zero => intro x2 x3 u H locs ls hR hF hn4 hK_CW hK_DPx f0 f1 f2 hP hD hS hl; exfalso; omega
    | succ n4 ih4 =>
      intro x2 x3 u H locs ls hR hF hn4 hK_CW hK_DPx f0 f1 f2 hP hD hS hl
      have L206 : ∀ (x2 : Int32) (x3 : Int32) (u : ac_U) (H : Heap) (locs : List Loc) (ls : Array Slot), ac_R rg u → ac_Fr [(101, none)] u0 u → cdI u → dpI (x3.toInt + 1) x2.toInt u → (0 : Int) ≤ x2.toInt ∧ x2.toInt ≤ 45 → (0 : Int) ≤ x3.toInt ∧ x3.toInt ≤ 44 → (1 : Int) ≤ (u.1 87 476).toInt ∧ (u.1 87 476).toInt ≤ 45 → 0 ≤ x2.toInt ∧ x2.toInt ≤ x3.toInt + 1 → 45 - x3.toInt + 0 < ((n4 : Nat) : Int) + 1 → va_P (dC, dI) vwCl (ac_w ad cA (TT nF) u) H → va_D A (ac_w ad cA (TT nF) u) → va_S A s.heap H locs → lv_has ls 5 [(0, .ref (ad 85)), (1, .int p0), (2, .int x2), (3, .int x3)] → W p l e (ac_rm 8) s m [.ref (ad 85), .int p0].toArray below meth c H locs 0 0 (MQ below (va_Qi (fun (r : Int32) (u : ac_U) => ac_R rg u ∧ ac_Fr [(101, none)] u0 u ∧ ((0 : Int) ≤ r.toInt ∧ r.toInt ≤ 1)) (ac_B (dC, dI) vwCl (ac_ty cA) ad cA (TT nF) A) A) [.ref (ad 85), .int p0].toArray s 0 0 A) (F0 m 206 ls []) := by
        intro x2 x3 u H locs ls hR hF hK_CW hK_DPn f0 f1 f2 f3 f4 hP hD hS hl
        refine a_iinc F (k := 3) (fun v1 => [(3, .int v1), (0, .ref (ad 85)), (1, .int p0), (2, .int x2)]) dX12_isSaid_206 hl rfl rfl (by decide) (by omega) (by decide) (fun _ => rfl) (fun v1 ls hv1 hl => ?_)
        refine lv_goto (tgt := 4) F.1 F.2.1 dX12_isSaid_209 (by decide) ?_
        exact ih4 x2 v1 _ _ _ _ hR hF (by omega) hK_CW (dp_eq hK_DPn (by omega) rfl) (by omega) (by omega) (by omega : 0 ≤ x2.toInt ∧ x2.toInt ≤ v1.toInt) hP hD hS (lv_sub hl [1, 2, 3, 0] rfl)
      refine lv_iload_n F.1 F.2.1 dX12_isSaid_4 rfl (lv_at hl 3 rfl) ?_
      refine lv_aload_n F.1 F.2.1 dX12_isSaid_5 rfl (lv_at hl 0 rfl) ?_
      refine a_getr F inX12 hP 85 6 tc_85 rfl rfl (by decide) q1477 (fun _ h9 => h9) dX12_isSaid_6 ?_
      refine a_sp F (476 : Int32) dX12_isSaid_9 (by decide) ?_
      have g2 : (0 : Int) ≤ (u.1 87 476).toInt ∧ (u.1 87 476).toInt ≤ 45 := hR 87 476
      refine a_ialdK F hP 87 476 tc_87 rfl rfl (i_in ic_476 (by omega)) (v := (u.1 87 476)) rfl dX12_isSaid_12 ?_
      refine b_ge F 212 dX12_isSaid_13 (by decide) rfl rfl (fun c3 => ?_) (fun c3 => ?_)
      · refine lv_aload_n F.1 F.2.1 dX12_isSaid_212 rfl (lv_at hl 0 rfl) ?_
        refine a_getr F inX12 hP 85 44 tc_85 rfl rfl (by decide) q1515 (fun _ h9 => h9) dX12_isSaid_213 ?_
        refine a_ic F (0 : Int32) dX12_isSaid_216 (by decide) ?_
        refine a_zald F hP 101 tc_101 rfl (i_in ic_0 (by omega)) dX12_isSaid_217 (fun v4 ev4 => ?_)
        have hv4 : (0 : Int) ≤ v4.toInt ∧ v4.toInt ≤ 1 := ev4 ▸ hR 101 _
        exact a_retz F hr hlocks hP hD hS dX12_isSaid_218 (i_01 (by omega)) ⟨hR, hF, (by omega : (0 : Int) ≤ v4.toInt ∧ v4.toInt ≤ 1)⟩
      · refine a_sp F (477 : Int32) dX12_isSaid_16 (by decide) ?_
        refine a_ic F (3 : Int32) dX12_isSaid_19 (by decide) ?_
        refine lv_iload_n F.1 F.2.1 dX12_isSaid_20 rfl (lv_at hl 3 rfl) ?_
        refine a_imul F dX12_isSaid_21 ic_3 rfl (by omega) (fun v5 hv5 => ?_)
        refine a_iadd F dX12_isSaid_22 ic_477 rfl (by omega) (fun v6 hv6 => ?_)
        refine lv_istore (lv' := [(4, .int v6), (0, .ref (ad 85)), (1, .int p0), (2, .int x2), (3, .int x3)]) F.1 F.2.1 dX12_isSaid_23 hl (by decide) rfl (fun ls hl => ?_)
        refine lv_aload_n F.1 F.2.1 dX12_isSaid_25 rfl (lv_at hl 1 rfl) ?_
        refine a_getr F inX12 hP 85 6 tc_85 rfl rfl (by decide) q1477 (fun _ h9 => h9) dX12_isSaid_26 ?_
        refine lv_iload F.1 F.2.1 dX12_isSaid_29 (lv_at hl 0 rfl) ?_
        refine a_iald F hP 87 tc_87 rfl (i_in rfl (by omega)) dX12_isSaid_31 (fun v7 ev7 => ?_)
        obtain ⟨hma, hmb, hmc⟩ := dp_get hK_CW hK_DPx (k := v6) (by omega) (by omega) ev7
        refine a_bp F (20 : Int32) dX12_isSaid_32 (by decide) ?_
        refine b_ne F 64 dX12_isSaid_34 (by decide) rfl ic_20 (fun c8 => ?_) (fun c8 => ?_)
        · refine lv_aload_n F.1 F.2.1 dX12_isSaid_64 rfl (lv_at hl 1 rfl) ?_
          refine a_getr F inX12 hP 85 6 tc_85 rfl rfl (by decide) q1477 (fun _ h9 => h9) dX12_isSaid_65 ?_
          refine lv_iload F.1 F.2.1 dX12_isSaid_68 (lv_at hl 0 rfl) ?_
          refine a_iald F hP 87 tc_87 rfl (i_in rfl (by omega)) dX12_isSaid_70 (fun v9 ev9 => ?_)
          have hqv9 := ld_same ev7 ev9 rfl rfl
          refine a_bp F (21 : Int32) dX12_isSaid_71 (by decide) ?_
          refine b_eq F 88 dX12_isSaid_73 (by decide) rfl ic_21 (fun c10 => ?_) (fun c10 => ?_)
          · refine a_iinc F (k := 3) (fun v11 => [(2, .int v11), (4, .int v6), (0, .ref (ad 85)), (1, .int p0), (3, .int x3)]) dX12_isSaid_88 hl rfl rfl (by decide) (by omega) (by decide) (fun _ => rfl) (fun v11 ls hv11 hl => ?_)
            refine lv_aload_n F.1 F.2.1 dX12_isSaid_91 rfl (lv_at hl 2 rfl) ?_
            refine a_getr F inX12 hP 85 44 tc_85 rfl rfl (by decide) q1515 (fun _ h9 => h9) dX12_isSaid_92 ?_
            refine lv_iload_n F.1 F.2.1 dX12_isSaid_95 rfl (lv_at hl 0 rfl) ?_
            refine a_ic F (1 : Int32) dX12_isSaid_96 (by decide) ?_
            refine a_isub F dX12_isSaid_97 rfl ic_1 (by omega) (fun v12 hv12 => ?_)
            refine lv_aload_n F.1 F.2.1 dX12_isSaid_98 rfl (lv_at hl 2 rfl) ?_
            refine a_getr F inX12 hP 85 6 tc_85 rfl rfl (by decide) q1477 (fun _ h9 => h9) dX12_isSaid_99 ?_
            refine lv_iload F.1 F.2.1 dX12_isSaid_102 (lv_at hl 1 rfl) ?_
            refine a_iald F hP 87 tc_87 rfl (i_in rfl (by omega)) dX12_isSaid_104 (fun v13 ev13 => ?_)
            have hqv13 := ld_same ev7 ev13 rfl rfl
            refine a_bp F (21 : Int32) dX12_isSaid_105 (by decide) ?_
            refine b_ne F 138 dX12_isSaid_107 (by decide) rfl ic_21 (fun c14 => ?_) (fun c14 => ?_)
            · refine lv_aload_n F.1 F.2.1 dX12_isSaid_138 rfl (lv_at hl 2 rfl) ?_
              refine a_getr F inX12 hP 85 44 tc_85 rfl rfl (by decide) q1515 (fun _ h9 => h9) dX12_isSaid_139 ?_
              refine lv_iload_n F.1 F.2.1 dX12_isSaid_142 rfl (lv_at hl 0 rfl) ?_
              refine a_ic F (1 : Int32) dX12_isSaid_143 (by decide) ?_
              refine a_isub F dX12_isSaid_144 rfl ic_1 (by omega) (fun v15 hv15 => ?_)
              refine a_zald F hP 101 tc_101 rfl (i_in rfl (by omega)) dX12_isSaid_145 (fun v16 ev16 => ?_)
              have hv16 : (0 : Int) ≤ v16.toInt ∧ v16.toInt ≤ 1 := ev16 ▸ hR 101 _
              refine z_ne F 158 dX12_isSaid_146 (by decide) rfl (fun c17 => ?_) (fun c17 => ?_)
              · refine a_ic F (1 : Int32) dX12_isSaid_158 (by decide) ?_
                refine lv_goto (tgt := 163) F.1 F.2.1 dX12_isSaid_159 (by decide) ?_
                refine a_zast F hP hD hS 101 tc_101 rfl (i_in rfl (by omega)) dX12_isSaid_163 (fun H locs hP hD hS => ?_)
                rw [i_znar (Or.inr rfl)] at hP hD
                have hR := hR.si (c := 101) (k := v12.toNatClampNeg) (v := (1 : Int32)) (by rw [ic_1]; exact (by omega : (0 : Int) ≤ (1 : Int) ∧ (1 : Int) ≤ 1))
                have hF := hF.si (c := 101) (k := v12.toNatClampNeg) (v := (1 : Int32)) rfl
                have hK_CW := sp_sgD sp_CW hD hK_CW (by decide)
                have hK_DPx := sp_sgD (sp_dp _ _ (by omega)) hD hK_DPx (by decide)
                refine lv_goto (tgt := 206) F.1 F.2.1 dX12_isSaid_164 (by decide) ?_
                exact L206 v11 x3 _ _ _ _ hR hF hK_CW (dp_eq hmc rfl (by unfold cdl; omega)) (by omega) (by omega) (by omega : (1 : Int) ≤ (u.1 87 476).toInt ∧ (u.1 87 476).toInt ≤ 45) (by omega : 0 ≤ v11.toInt ∧ v11.toInt ≤ x3.toInt + 1) (by omega) hP hD hS (lv_sub hl [2, 3, 0, 4] rfl)
              · refine lv_aload_n F.1 F.2.1 dX12_isSaid_149 rfl (lv_at hl 2 rfl) ?_
                refine a_getr F inX12 hP 85 44 tc_85 rfl rfl (by decide) q1515 (fun _ h9 => h9) dX12_isSaid_150 ?_
                refine lv_iload_n F.1 F.2.1 dX12_isSaid_153 rfl (lv_at hl 0 rfl) ?_
                refine a_zald F hP 101 tc_101 rfl (i_in rfl (by omega)) dX12_isSaid_154 (fun v18 ev18 => ?_)
                have hv18 : (0 : Int) ≤ v18.toInt ∧ v18.toInt ≤ 1 := ev18 ▸ hR 101 _
                refine z_eq F 162 dX12_isSaid_155 (by decide) rfl (fun c19 => ?_) (fun c19 => ?_)
                · refine a_ic F (0 : Int32) dX12_isSaid_162 (by decide) ?_
                  refine a_zast F hP hD hS 101 tc_101 rfl (i_in rfl (by omega)) dX12_isSaid_163 (fun H locs hP hD hS => ?_)
                  rw [i_znar (Or.inl rfl)] at hP hD
                  have hR := hR.si (c := 101) (k := v12.toNatClampNeg) (v := (0 : Int32)) (by rw [ic_0]; exact (by omega : (0 : Int) ≤ (0 : Int) ∧ (0 : Int) ≤ 1))
                  have hF := hF.si (c := 101) (k := v12.toNatClampNeg) (v := (0 : Int32)) rfl
                  have hK_CW := sp_sgD sp_CW hD hK_CW (by decide)
                  have hK_DPx := sp_sgD (sp_dp _ _ (by omega)) hD hK_DPx (by decide)
                  refine lv_goto (tgt := 206) F.1 F.2.1 dX12_isSaid_164 (by decide) ?_
                  exact L206 v11 x3 _ _ _ _ hR hF hK_CW (dp_eq hmc rfl (by unfold cdl; omega)) (by omega) (by omega) (by omega : (1 : Int) ≤ (u.1 87 476).toInt ∧ (u.1 87 476).toInt ≤ 45) (by omega : 0 ≤ v11.toInt ∧ v11.toInt ≤ x3.toInt + 1) (by omega) hP hD hS (lv_sub hl [2, 3, 0, 4] rfl)
                · refine a_ic F (1 : Int32) dX12_isSaid_158 (by decide) ?_
                  refine lv_goto (tgt := 163) F.1 F.2.1 dX12_isSaid_159 (by decide) ?_
                  refine a_zast F hP hD hS 101 tc_101 rfl (i_in rfl (by omega)) dX12_isSaid_163 (fun H locs hP hD hS => ?_)
                  rw [i_znar (Or.inr rfl)] at hP hD
                  have hR := hR.si (c := 101) (k := v12.toNatClampNeg) (v := (1 : Int32)) (by rw [ic_1]; exact (by omega : (0 : Int) ≤ (1 : Int) ∧ (1 : Int) ≤ 1))
                  have hF := hF.si (c := 101) (k := v12.toNatClampNeg) (v := (1 : Int32)) rfl
                  have hK_CW := sp_sgD sp_CW hD hK_CW (by decide)
                  have hK_DPx := sp_sgD (sp_dp _ _ (by omega)) hD hK_DPx (by decide)
                  refine lv_goto (tgt := 206) F.1 F.2.1 dX12_isSaid_164 (by decide) ?_
                  exact L206 v11 x3 _ _ _ _ hR hF hK_CW (dp_eq hmc rfl (by unfold cdl; omega)) (by omega) (by omega) (by omega : (1 : Int) ≤ (u.1 87 476).toInt ∧ (u.1 87 476).toInt ≤ 45) (by omega : 0 ≤ v11.toInt ∧ v11.toInt ≤ x3.toInt + 1) (by omega) hP hD hS (lv_sub hl [2, 3, 0, 4] rfl)
            · refine lv_aload_n F.1 F.2.1 dX12_isSaid_110 rfl (lv_at hl 2 rfl) ?_
              refine a_getr F inX12 hP 85 44 tc_85 rfl rfl (by decide) q1515 (fun _ h9 => h9) dX12_isSaid_111 ?_
              refine lv_iload_n F.1 F.2.1 dX12_isSaid_114 rfl (lv_at hl 0 rfl) ?_
              refine a_ic F (1 : Int32) dX12_isSaid_115 (by decide) ?_
              refine a_isub F dX12_isSaid_116 rfl ic_1 (by omega) (fun v20 hv20 => ?_)
              refine a_zald F hP 101 tc_101 rfl (i_in rfl (by omega)) dX12_isSaid_117 (fun v21 ev21 => ?_)
              have hv21 : (0 : Int) ≤ v21.toInt ∧ v21.toInt ≤ 1 := ev21 ▸ hR 101 _
              refine z_eq F 134 dX12_isSaid_118 (by decide) rfl (fun c22 => ?_) (fun c22 => ?_)
              · refine a_ic F (0 : Int32) dX12_isSaid_134 (by decide) ?_
                refine lv_goto (tgt := 163) F.1 F.2.1 dX12_isSaid_135 (by decide) ?_
                refine a_zast F hP hD hS 101 tc_101 rfl (i_in rfl (by omega)) dX12_isSaid_163 (fun H locs hP hD hS => ?_)
                rw [i_znar (Or.inl rfl)] at hP hD
                have hR := hR.si (c := 101) (k := v12.toNatClampNeg) (v := (0 : Int32)) (by rw [ic_0]; exact (by omega : (0 : Int) ≤ (0 : Int) ∧ (0 : Int) ≤ 1))
                have hF := hF.si (c := 101) (k := v12.toNatClampNeg) (v := (0 : Int32)) rfl
                have hK_CW := sp_sgD sp_CW hD hK_CW (by decide)
                have hK_DPx := sp_sgD (sp_dp _ _ (by omega)) hD hK_DPx (by decide)
                refine lv_goto (tgt := 206) F.1 F.2.1 dX12_isSaid_164 (by decide) ?_
                exact L206 v11 x3 _ _ _ _ hR hF hK_CW (dp_eq hmc rfl (by unfold cdl; omega)) (by omega) (by omega) (by omega : (1 : Int) ≤ (u.1 87 476).toInt ∧ (u.1 87 476).toInt ≤ 45) (by omega : 0 ≤ v11.toInt ∧ v11.toInt ≤ x3.toInt + 1) (by omega) hP hD hS (lv_sub hl [2, 3, 0, 4] rfl)
              · refine lv_aload_n F.1 F.2.1 dX12_isSaid_121 rfl (lv_at hl 2 rfl) ?_
                refine a_getr F inX12 hP 85 44 tc_85 rfl rfl (by decide) q1515 (fun _ h9 => h9) dX12_isSaid_122 ?_
                refine lv_iload_n F.1 F.2.1 dX12_isSaid_125 rfl (lv_at hl 0 rfl) ?_
                refine a_zald F hP 101 tc_101 rfl (i_in rfl (by omega)) dX12_isSaid_126 (fun v23 ev23 => ?_)
                have hv23 : (0 : Int) ≤ v23.toInt ∧ v23.toInt ≤ 1 := ev23 ▸ hR 101 _
                refine z_eq F 134 dX12_isSaid_127 (by decide) rfl (fun c24 => ?_) (fun c24 => ?_)
                · refine a_ic F (0 : Int32) dX12_isSaid_134 (by decide) ?_
                  refine lv_goto (tgt := 163) F.1 F.2.1 dX12_isSaid_135 (by decide) ?_
                  refine a_zast F hP hD hS 101 tc_101 rfl (i_in rfl (by omega)) dX12_isSaid_163 (fun H locs hP hD hS => ?_)
                  rw [i_znar (Or.inl rfl)] at hP hD
                  have hR := hR.si (c := 101) (k := v12.toNatClampNeg) (v := (0 : Int32)) (by rw [ic_0]; exact (by omega : (0 : Int) ≤ (0 : Int) ∧ (0 : Int) ≤ 1))
                  have hF := hF.si (c := 101) (k := v12.toNatClampNeg) (v := (0 : Int32)) rfl
                  have hK_CW := sp_sgD sp_CW hD hK_CW (by decide)
                  have hK_DPx := sp_sgD (sp_dp _ _ (by omega)) hD hK_DPx (by decide)
                  refine lv_goto (tgt := 206) F.1 F.2.1 dX12_isSaid_164 (by decide) ?_
                  exact L206 v11 x3 _ _ _ _ hR hF hK_CW (dp_eq hmc rfl (by unfold cdl; omega)) (by omega) (by omega) (by omega : (1 : Int) ≤ (u.1 87 476).toInt ∧ (u.1 87 476).toInt ≤ 45) (by omega : 0 ≤ v11.toInt ∧ v11.toInt ≤ x3.toInt + 1) (by omega) hP hD hS (lv_sub hl [2, 3, 0, 4] rfl)
                · refine a_ic F (1 : Int32) dX12_isSaid_130 (by decide) ?_
                  refine lv_goto (tgt := 163) F.1 F.2.1 dX12_isSaid_131 (by decide) ?_
                  refine a_zast F hP hD hS 101 tc_101 rfl (i_in rfl (by omega)) dX12_isSaid_163 (fun H locs hP hD hS => ?_)
                  rw [i_znar (Or.inr rfl)] at hP hD
                  have hR := hR.si (c := 101) (k := v12.toNatClampNeg) (v := (1 : Int32)) (by rw [ic_1]; exact (by omega : (0 : Int) ≤ (1 : Int) ∧ (1 : Int) ≤ 1))
                  have hF := hF.si (c := 101) (k := v12.toNatClampNeg) (v := (1 : Int32)) rfl
                  have hK_CW := sp_sgD sp_CW hD hK_CW (by decide)
                  have hK_DPx := sp_sgD (sp_dp _ _ (by omega)) hD hK_DPx (by decide)
                  refine lv_goto (tgt := 206) F.1 F.2.1 dX12_isSaid_164 (by decide) ?_
                  exact L206 v11 x3 _ _ _ _ hR hF hK_CW (dp_eq hmc rfl (by unfold cdl; omega)) (by omega) (by omega) (by omega : (1 : Int) ≤ (u.1 87 476).toInt ∧ (u.1 87 476).toInt ≤ 45) (by omega : 0 ≤ v11.toInt ∧ v11.toInt ≤ x3.toInt + 1) (by omega) hP hD hS (lv_sub hl [2, 3, 0, 4] rfl)
          · refine lv_aload_n F.1 F.2.1 dX12_isSaid_76 rfl (lv_at hl 1 rfl) ?_
            refine a_getr F inX12 hP 85 6 tc_85 rfl rfl (by decide) q1477 (fun _ h9 => h9) dX12_isSaid_77 ?_
            refine lv_iload F.1 F.2.1 dX12_isSaid_80 (lv_at hl 0 rfl) ?_
            refine a_iald F hP 87 tc_87 rfl (i_in rfl (by omega)) dX12_isSaid_82 (fun v25 ev25 => ?_)
            have hqv25 := ld_same ev7 ev25 rfl rfl
            refine a_bp F (22 : Int32) dX12_isSaid_83 (by decide) ?_
            refine b_ne F 167 dX12_isSaid_85 (by decide) rfl ic_22 (fun c26 => ?_) (fun c26 => ?_)
            · refine lv_aload_n F.1 F.2.1 dX12_isSaid_167 rfl (lv_at hl 1 rfl) ?_
              refine a_getr F inX12 hP 85 44 tc_85 rfl rfl (by decide) q1515 (fun _ h9 => h9) dX12_isSaid_168 ?_
              refine lv_iload_n F.1 F.2.1 dX12_isSaid_171 rfl (lv_at hl 3 rfl) ?_
              refine lv_aload_n F.1 F.2.1 dX12_isSaid_172 rfl (lv_at hl 1 rfl) ?_
              refine lv_iload_n F.1 F.2.1 dX12_isSaid_173 rfl (lv_at hl 2 rfl) ?_
              refine lv_aload_n F.1 F.2.1 dX12_isSaid_174 rfl (lv_at hl 1 rfl) ?_
              refine a_getr F inX12 hP 85 6 tc_85 rfl rfl (by decide) q1477 (fun _ h9 => h9) dX12_isSaid_175 ?_
              refine lv_iload F.1 F.2.1 dX12_isSaid_178 (lv_at hl 0 rfl) ?_
              refine a_iald F hP 87 tc_87 rfl (i_in rfl (by omega)) dX12_isSaid_180 (fun v27 ev27 => ?_)
              refine lv_aload_n F.1 F.2.1 dX12_isSaid_181 rfl (lv_at hl 1 rfl) ?_
              refine a_getr F inX12 hP 85 6 tc_85 rfl rfl (by decide) q1477 (fun _ h9 => h9) dX12_isSaid_182 ?_
              refine lv_iload F.1 F.2.1 dX12_isSaid_185 (lv_at hl 0 rfl) ?_
              refine a_ic F (1 : Int32) dX12_isSaid_187 (by decide) ?_
              refine a_iadd F dX12_isSaid_188 rfl ic_1 (by omega) (fun v28 hv28 => ?_)
              refine a_iald F hP 87 tc_87 rfl (i_in rfl (by omega)) dX12_isSaid_189 (fun v29 ev29 => ?_)
              refine lv_aload_n F.1 F.2.1 dX12_isSaid_190 rfl (lv_at hl 1 rfl) ?_
              refine a_getr F inX12 hP 85 6 tc_85 rfl rfl (by decide) q1477 (fun _ h9 => h9) dX12_isSaid_191 ?_
              refine lv_iload F.1 F.2.1 dX12_isSaid_194 (lv_at hl 0 rfl) ?_
              refine a_ic F (2 : Int32) dX12_isSaid_196 (by decide) ?_
              refine a_iadd F dX12_isSaid_197 rfl ic_2 (by omega) (fun v30 hv30 => ?_)
              refine a_iald F hP 87 tc_87 rfl (i_in rfl (by omega)) dX12_isSaid_198 (fun v31 ev31 => ?_)
              refine a_Vi F hml hl.1 hA hP hD hS (As := [.int p0, .int v27, .int v29, .int v31]) (c_X12_isLeaf_85 l dC dI ad cA nF _ p0 v27 v29 v31 hR (by omega)) (cs_RX12_447 (d := 7) F.2.2.1 (by decide)) tc_85 rfl rfl rfl rfl (Nat.le_of_ble_eq_true rfl) dX12_isSaid_199 ⟨Nat.le_refl 0, Nat.le_refl 0⟩ (fun r32 uN32 H locs hq hP hD hS => ?_)
              obtain ⟨hu32, gr32⟩ := hq
              rw [hu32] at hP hD
              refine a_zast F hP hD hS 101 tc_101 rfl (i_in rfl (by omega)) dX12_isSaid_202 (fun H locs hP hD hS => ?_)
              rw [i_znar (i_01 (by omega))] at hP hD
              have hR := hR.si (c := 101) (k := x2.toNatClampNeg) (v := r32) (by omega : (0 : Int) ≤ r32.toInt ∧ r32.toInt ≤ 1)
              have hF := hF.si (c := 101) (k := x2.toNatClampNeg) (v := r32) rfl
              have hK_CW := sp_sgD sp_CW hD hK_CW (by decide)
              have hK_DPx := sp_sgD (sp_dp _ _ (by omega)) hD hK_DPx (by decide)
              refine a_iinc F (k := 3) (fun v33 => [(2, .int v33), (4, .int v6), (0, .ref (ad 85)), (1, .int p0), (3, .int x3)]) dX12_isSaid_203 hl rfl rfl (by decide) (by omega) (by decide) (fun _ => rfl) (fun v33 ls hv33 hl => ?_)
              exact L206 v33 x3 _ _ _ _ hR hF hK_CW (dp_eq hmc rfl (by unfold cdl; omega)) (by omega) (by omega) (by omega : (1 : Int) ≤ (u.1 87 476).toInt ∧ (u.1 87 476).toInt ≤ 45) (by omega : 0 ≤ v33.toInt ∧ v33.toInt ≤ x3.toInt + 1) (by omega) hP hD hS (lv_sub hl [2, 3, 0, 4] rfl)
            · refine a_iinc F (k := 3) (fun v34 => [(2, .int v34), (4, .int v6), (0, .ref (ad 85)), (1, .int p0), (3, .int x3)]) dX12_isSaid_88 hl rfl rfl (by decide) (by omega) (by decide) (fun _ => rfl) (fun v34 ls hv34 hl => ?_)
              refine lv_aload_n F.1 F.2.1 dX12_isSaid_91 rfl (lv_at hl 2 rfl) ?_
              refine a_getr F inX12 hP 85 44 tc_85 rfl rfl (by decide) q1515 (fun _ h9 => h9) dX12_isSaid_92 ?_
              refine lv_iload_n F.1 F.2.1 dX12_isSaid_95 rfl (lv_at hl 0 rfl) ?_
              refine a_ic F (1 : Int32) dX12_isSaid_96 (by decide) ?_
              refine a_isub F dX12_isSaid_97 rfl ic_1 (by omega) (fun v35 hv35 => ?_)
              refine lv_aload_n F.1 F.2.1 dX12_isSaid_98 rfl (lv_at hl 2 rfl) ?_
              refine a_getr F inX12 hP 85 6 tc_85 rfl rfl (by decide) q1477 (fun _ h9 => h9) dX12_isSaid_99 ?_
              refine lv_iload F.1 F.2.1 dX12_isSaid_102 (lv_at hl 1 rfl) ?_
              refine a_iald F hP 87 tc_87 rfl (i_in rfl (by omega)) dX12_isSaid_104 (fun v36 ev36 => ?_)
              have hqv36 := ld_same ev7 ev36 rfl rfl
              refine a_bp F (21 : Int32) dX12_isSaid_105 (by decide) ?_
              refine b_ne F 138 dX12_isSaid_107 (by decide) rfl ic_21 (fun c37 => ?_) (fun c37 => ?_)
              · refine lv_aload_n F.1 F.2.1 dX12_isSaid_138 rfl (lv_at hl 2 rfl) ?_
                refine a_getr F inX12 hP 85 44 tc_85 rfl rfl (by decide) q1515 (fun _ h9 => h9) dX12_isSaid_139 ?_
                refine lv_iload_n F.1 F.2.1 dX12_isSaid_142 rfl (lv_at hl 0 rfl) ?_
                refine a_ic F (1 : Int32) dX12_isSaid_143 (by decide) ?_
                refine a_isub F dX12_isSaid_144 rfl ic_1 (by omega) (fun v38 hv38 => ?_)
                refine a_zald F hP 101 tc_101 rfl (i_in rfl (by omega)) dX12_isSaid_145 (fun v39 ev39 => ?_)
                have hv39 : (0 : Int) ≤ v39.toInt ∧ v39.toInt ≤ 1 := ev39 ▸ hR 101 _
                refine z_ne F 158 dX12_isSaid_146 (by decide) rfl (fun c40 => ?_) (fun c40 => ?_)
                · refine a_ic F (1 : Int32) dX12_isSaid_158 (by decide) ?_
                  refine lv_goto (tgt := 163) F.1 F.2.1 dX12_isSaid_159 (by decide) ?_
                  refine a_zast F hP hD hS 101 tc_101 rfl (i_in rfl (by omega)) dX12_isSaid_163 (fun H locs hP hD hS => ?_)
                  rw [i_znar (Or.inr rfl)] at hP hD
                  have hR := hR.si (c := 101) (k := v35.toNatClampNeg) (v := (1 : Int32)) (by rw [ic_1]; exact (by omega : (0 : Int) ≤ (1 : Int) ∧ (1 : Int) ≤ 1))
                  have hF := hF.si (c := 101) (k := v35.toNatClampNeg) (v := (1 : Int32)) rfl
                  have hK_CW := sp_sgD sp_CW hD hK_CW (by decide)
                  have hK_DPx := sp_sgD (sp_dp _ _ (by omega)) hD hK_DPx (by decide)
                  refine lv_goto (tgt := 206) F.1 F.2.1 dX12_isSaid_164 (by decide) ?_
                  exact L206 v34 x3 _ _ _ _ hR hF hK_CW (dp_eq hmc rfl (by unfold cdl; omega)) (by omega) (by omega) (by omega : (1 : Int) ≤ (u.1 87 476).toInt ∧ (u.1 87 476).toInt ≤ 45) (by omega : 0 ≤ v34.toInt ∧ v34.toInt ≤ x3.toInt + 1) (by omega) hP hD hS (lv_sub hl [2, 3, 0, 4] rfl)
                · refine lv_aload_n F.1 F.2.1 dX12_isSaid_149 rfl (lv_at hl 2 rfl) ?_
                  refine a_getr F inX12 hP 85 44 tc_85 rfl rfl (by decide) q1515 (fun _ h9 => h9) dX12_isSaid_150 ?_
                  refine lv_iload_n F.1 F.2.1 dX12_isSaid_153 rfl (lv_at hl 0 rfl) ?_
                  refine a_zald F hP 101 tc_101 rfl (i_in rfl (by omega)) dX12_isSaid_154 (fun v41 ev41 => ?_)
                  have hv41 : (0 : Int) ≤ v41.toInt ∧ v41.toInt ≤ 1 := ev41 ▸ hR 101 _
                  refine z_eq F 162 dX12_isSaid_155 (by decide) rfl (fun c42 => ?_) (fun c42 => ?_)
                  · refine a_ic F (0 : Int32) dX12_isSaid_162 (by decide) ?_
                    refine a_zast F hP hD hS 101 tc_101 rfl (i_in rfl (by omega)) dX12_isSaid_163 (fun H locs hP hD hS => ?_)
                    rw [i_znar (Or.inl rfl)] at hP hD
                    have hR := hR.si (c := 101) (k := v35.toNatClampNeg) (v := (0 : Int32)) (by rw [ic_0]; exact (by omega : (0 : Int) ≤ (0 : Int) ∧ (0 : Int) ≤ 1))
                    have hF := hF.si (c := 101) (k := v35.toNatClampNeg) (v := (0 : Int32)) rfl
                    have hK_CW := sp_sgD sp_CW hD hK_CW (by decide)
                    have hK_DPx := sp_sgD (sp_dp _ _ (by omega)) hD hK_DPx (by decide)
                    refine lv_goto (tgt := 206) F.1 F.2.1 dX12_isSaid_164 (by decide) ?_
                    exact L206 v34 x3 _ _ _ _ hR hF hK_CW (dp_eq hmc rfl (by unfold cdl; omega)) (by omega) (by omega) (by omega : (1 : Int) ≤ (u.1 87 476).toInt ∧ (u.1 87 476).toInt ≤ 45) (by omega : 0 ≤ v34.toInt ∧ v34.toInt ≤ x3.toInt + 1) (by omega) hP hD hS (lv_sub hl [2, 3, 0, 4] rfl)
                  · refine a_ic F (1 : Int32) dX12_isSaid_158 (by decide) ?_
                    refine lv_goto (tgt := 163) F.1 F.2.1 dX12_isSaid_159 (by decide) ?_
                    refine a_zast F hP hD hS 101 tc_101 rfl (i_in rfl (by omega)) dX12_isSaid_163 (fun H locs hP hD hS => ?_)
                    rw [i_znar (Or.inr rfl)] at hP hD
                    have hR := hR.si (c := 101) (k := v35.toNatClampNeg) (v := (1 : Int32)) (by rw [ic_1]; exact (by omega : (0 : Int) ≤ (1 : Int) ∧ (1 : Int) ≤ 1))
                    have hF := hF.si (c := 101) (k := v35.toNatClampNeg) (v := (1 : Int32)) rfl
                    have hK_CW := sp_sgD sp_CW hD hK_CW (by decide)
                    have hK_DPx := sp_sgD (sp_dp _ _ (by omega)) hD hK_DPx (by decide)
                    refine lv_goto (tgt := 206) F.1 F.2.1 dX12_isSaid_164 (by decide) ?_
                    exact L206 v34 x3 _ _ _ _ hR hF hK_CW (dp_eq hmc rfl (by unfold cdl; omega)) (by omega) (by omega) (by omega : (1 : Int) ≤ (u.1 87 476).toInt ∧ (u.1 87 476).toInt ≤ 45) (by omega : 0 ≤ v34.toInt ∧ v34.toInt ≤ x3.toInt + 1) (by omega) hP hD hS (lv_sub hl [2, 3, 0, 4] rfl)
              · refine lv_aload_n F.1 F.2.1 dX12_isSaid_110 rfl (lv_at hl 2 rfl) ?_
                refine a_getr F inX12 hP 85 44 tc_85 rfl rfl (by decide) q1515 (fun _ h9 => h9) dX12_isSaid_111 ?_
                refine lv_iload_n F.1 F.2.1 dX12_isSaid_114 rfl (lv_at hl 0 rfl) ?_
                refine a_ic F (1 : Int32) dX12_isSaid_115 (by decide) ?_
                refine a_isub F dX12_isSaid_116 rfl ic_1 (by omega) (fun v43 hv43 => ?_)
                refine a_zald F hP 101 tc_101 rfl (i_in rfl (by omega)) dX12_isSaid_117 (fun v44 ev44 => ?_)
                have hv44 : (0 : Int) ≤ v44.toInt ∧ v44.toInt ≤ 1 := ev44 ▸ hR 101 _
                refine z_eq F 134 dX12_isSaid_118 (by decide) rfl (fun c45 => ?_) (fun c45 => ?_)
                · refine a_ic F (0 : Int32) dX12_isSaid_134 (by decide) ?_
                  refine lv_goto (tgt := 163) F.1 F.2.1 dX12_isSaid_135 (by decide) ?_
                  refine a_zast F hP hD hS 101 tc_101 rfl (i_in rfl (by omega)) dX12_isSaid_163 (fun H locs hP hD hS => ?_)
                  rw [i_znar (Or.inl rfl)] at hP hD
                  have hR := hR.si (c := 101) (k := v35.toNatClampNeg) (v := (0 : Int32)) (by rw [ic_0]; exact (by omega : (0 : Int) ≤ (0 : Int) ∧ (0 : Int) ≤ 1))
                  have hF := hF.si (c := 101) (k := v35.toNatClampNeg) (v := (0 : Int32)) rfl
                  have hK_CW := sp_sgD sp_CW hD hK_CW (by decide)
                  have hK_DPx := sp_sgD (sp_dp _ _ (by omega)) hD hK_DPx (by decide)
                  refine lv_goto (tgt := 206) F.1 F.2.1 dX12_isSaid_164 (by decide) ?_
                  exact L206 v34 x3 _ _ _ _ hR hF hK_CW (dp_eq hmc rfl (by unfold cdl; omega)) (by omega) (by omega) (by omega : (1 : Int) ≤ (u.1 87 476).toInt ∧ (u.1 87 476).toInt ≤ 45) (by omega : 0 ≤ v34.toInt ∧ v34.toInt ≤ x3.toInt + 1) (by omega) hP hD hS (lv_sub hl [2, 3, 0, 4] rfl)
                · refine lv_aload_n F.1 F.2.1 dX12_isSaid_121 rfl (lv_at hl 2 rfl) ?_
                  refine a_getr F inX12 hP 85 44 tc_85 rfl rfl (by decide) q1515 (fun _ h9 => h9) dX12_isSaid_122 ?_
                  refine lv_iload_n F.1 F.2.1 dX12_isSaid_125 rfl (lv_at hl 0 rfl) ?_
                  refine a_zald F hP 101 tc_101 rfl (i_in rfl (by omega)) dX12_isSaid_126 (fun v46 ev46 => ?_)
                  have hv46 : (0 : Int) ≤ v46.toInt ∧ v46.toInt ≤ 1 := ev46 ▸ hR 101 _
                  refine z_eq F 134 dX12_isSaid_127 (by decide) rfl (fun c47 => ?_) (fun c47 => ?_)
                  · refine a_ic F (0 : Int32) dX12_isSaid_134 (by decide) ?_
                    refine lv_goto (tgt := 163) F.1 F.2.1 dX12_isSaid_135 (by decide) ?_
                    refine a_zast F hP hD hS 101 tc_101 rfl (i_in rfl (by omega)) dX12_isSaid_163 (fun H locs hP hD hS => ?_)
                    rw [i_znar (Or.inl rfl)] at hP hD
                    have hR := hR.si (c := 101) (k := v35.toNatClampNeg) (v := (0 : Int32)) (by rw [ic_0]; exact (by omega : (0 : Int) ≤ (0 : Int) ∧ (0 : Int) ≤ 1))
                    have hF := hF.si (c := 101) (k := v35.toNatClampNeg) (v := (0 : Int32)) rfl
                    have hK_CW := sp_sgD sp_CW hD hK_CW (by decide)
                    have hK_DPx := sp_sgD (sp_dp _ _ (by omega)) hD hK_DPx (by decide)
                    refine lv_goto (tgt := 206) F.1 F.2.1 dX12_isSaid_164 (by decide) ?_
                    exact L206 v34 x3 _ _ _ _ hR hF hK_CW (dp_eq hmc rfl (by unfold cdl; omega)) (by omega) (by omega) (by omega : (1 : Int) ≤ (u.1 87 476).toInt ∧ (u.1 87 476).toInt ≤ 45) (by omega : 0 ≤ v34.toInt ∧ v34.toInt ≤ x3.toInt + 1) (by omega) hP hD hS (lv_sub hl [2, 3, 0, 4] rfl)
                  · refine a_ic F (1 : Int32) dX12_isSaid_130 (by decide) ?_
                    refine lv_goto (tgt := 163) F.1 F.2.1 dX12_isSaid_131 (by decide) ?_
                    refine a_zast F hP hD hS 101 tc_101 rfl (i_in rfl (by omega)) dX12_isSaid_163 (fun H locs hP hD hS => ?_)
                    rw [i_znar (Or.inr rfl)] at hP hD
                    have hR := hR.si (c := 101) (k := v35.toNatClampNeg) (v := (1 : Int32)) (by rw [ic_1]; exact (by omega : (0 : Int) ≤ (1 : Int) ∧ (1 : Int) ≤ 1))
                    have hF := hF.si (c := 101) (k := v35.toNatClampNeg) (v := (1 : Int32)) rfl
                    have hK_CW := sp_sgD sp_CW hD hK_CW (by decide)
                    have hK_DPx := sp_sgD (sp_dp _ _ (by omega)) hD hK_DPx (by decide)
                    refine lv_goto (tgt := 206) F.1 F.2.1 dX12_isSaid_164 (by decide) ?_
                    exact L206 v34 x3 _ _ _ _ hR hF hK_CW (dp_eq hmc rfl (by unfold cdl; omega)) (by omega) (by omega) (by omega : (1 : Int) ≤ (u.1 87 476).toInt ∧ (u.1 87 476).toInt ≤ 45) (by omega : 0 ≤ v34.toInt ∧ v34.toInt ≤ x3.toInt + 1) (by omega) hP hD hS (lv_sub hl [2, 3, 0, 4] rfl)
        · refine lv_aload_n F.1 F.2.1 dX12_isSaid_37 rfl (lv_at hl 1 rfl) ?_
          refine a_getr F inX12 hP 85 44 tc_85 rfl rfl (by decide) q1515 (fun _ h9 => h9) dX12_isSaid_38 ?_
          refine lv_iload_n F.1 F.2.1 dX12_isSaid_41 rfl (lv_at hl 3 rfl) ?_
          refine a_ic F (1 : Int32) dX12_isSaid_42 (by decide) ?_
          refine a_isub F dX12_isSaid_43 rfl ic_1 (by omega) (fun v48 hv48 => ?_)
          refine lv_aload_n F.1 F.2.1 dX12_isSaid_44 rfl (lv_at hl 1 rfl) ?_
          refine a_getr F inX12 hP 85 44 tc_85 rfl rfl (by decide) q1515 (fun _ h9 => h9) dX12_isSaid_45 ?_
          refine lv_iload_n F.1 F.2.1 dX12_isSaid_48 rfl (lv_at hl 3 rfl) ?_
          refine a_ic F (1 : Int32) dX12_isSaid_49 (by decide) ?_
          refine a_isub F dX12_isSaid_50 rfl ic_1 (by omega) (fun v49 hv49 => ?_)
          refine a_zald F hP 101 tc_101 rfl (i_in rfl (by omega)) dX12_isSaid_51 (fun v50 ev50 => ?_)
          have hv50 : (0 : Int) ≤ v50.toInt ∧ v50.toInt ≤ 1 := ev50 ▸ hR 101 _
          refine z_ne F 59 dX12_isSaid_52 (by decide) rfl (fun c51 => ?_) (fun c51 => ?_)
          · refine a_ic F (0 : Int32) dX12_isSaid_59 (by decide) ?_
            refine a_zast F hP hD hS 101 tc_101 rfl (i_in rfl (by omega)) dX12_isSaid_60 (fun H locs hP hD hS => ?_)
            rw [i_znar (Or.inl rfl)] at hP hD
            have hR := hR.si (c := 101) (k := v48.toNatClampNeg) (v := (0 : Int32)) (by rw [ic_0]; exact (by omega : (0 : Int) ≤ (0 : Int) ∧ (0 : Int) ≤ 1))
            have hF := hF.si (c := 101) (k := v48.toNatClampNeg) (v := (0 : Int32)) rfl
            have hK_CW := sp_sgD sp_CW hD hK_CW (by decide)
            have hK_DPx := sp_sgD (sp_dp _ _ (by omega)) hD hK_DPx (by decide)
            refine lv_goto (tgt := 206) F.1 F.2.1 dX12_isSaid_61 (by decide) ?_
            exact L206 x2 x3 _ _ _ _ hR hF hK_CW (dp_eq hmc rfl (by unfold cdl; omega)) (by omega) (by omega) (by omega : (1 : Int) ≤ (u.1 87 476).toInt ∧ (u.1 87 476).toInt ≤ 45) (by omega : 0 ≤ x2.toInt ∧ x2.toInt ≤ x3.toInt + 1) (by omega) hP hD hS (lv_sub hl [1, 2, 3, 4] rfl)
          · refine a_ic F (1 : Int32) dX12_isSaid_55 (by decide) ?_
            refine lv_goto (tgt := 60) F.1 F.2.1 dX12_isSaid_56 (by decide) ?_
            refine a_zast F hP hD hS 101 tc_101 rfl (i_in rfl (by omega)) dX12_isSaid_60 (fun H locs hP hD hS => ?_)
            rw [i_znar (Or.inr rfl)] at hP hD
            have hR := hR.si (c := 101) (k := v48.toNatClampNeg) (v := (1 : Int32)) (by rw [ic_1]; exact (by omega : (0 : Int) ≤ (1 : Int) ∧ (1 : Int) ≤ 1))
            have hF := hF.si (c := 101) (k := v48.toNatClampNeg) (v := (1 : Int32)) rfl
            have hK_CW := sp_sgD sp_CW hD hK_CW (by decide)
            have hK_DPx := sp_sgD (sp_dp _ _ (by omega)) hD hK_DPx (by decide)
            refine lv_goto (tgt := 206) F.1 F.2.1 dX12_isSaid_61 (by decide) ?_
            exact L206 x2 x3 _ _ _ _ hR hF hK_CW (dp_eq hmc rfl (by unfold cdl; omega)) (by omega) (by omega) (by omega : (1 : Int) ≤ (u.1 87 476).toInt ∧ (u.1 87 476).toInt ≤ 45) (by omega : 0 ≤ x2.toInt ∧ x2.toInt ≤ x3.toInt + 1) (by omega) hP hD hS (lv_sub hl [1, 2, 3, 4] rfl)
  refine a_ic F (0 : Int32) dX12_isSaid_0 (by decide) ?_
  refine lv_istore_n (lv' := [(2, .int (0 : Int32)), (0, .ref (ad 85)), (1, .int p0)]) F.1 F.2.1 dX12_isSaid_1 rfl hl (by decide) rfl (fun ls hl => ?_)
  refine a_ic F (0 : Int32) dX12_isSaid_2 (by decide) ?_
  refine lv_istore_n (lv' := [(3, .int (0 : Int32)), (2, .int (0 : Int32)), (0, .ref (ad 85)), (1, .int p0)]) F.1 F.2.1 dX12_isSaid_3 rfl hl (by decide) rfl (fun ls hl => ?_)
  exact L4 47 (0 : Int32) (0 : Int32) _ _ _ _ hR hF (by decide) hK_CW (dp_0 (by decide) (by decide)) (by decide) (by decide) (by first | (rw [ic_0]; exact (by omega : 0 ≤ (0 : Int) ∧ (0 : Int) ≤ (0 : Int))) | rw [ic_0]) hP hD hS (lv_sub hl [2, 3, 1, 0] rfl)
set_option maxHeartbeats 600000 in
set_option maxRecDepth 100000 in
theorem c_X12_odds_85__2 (l : Launch) (dC : Nat → ClassId) (dI : Nat → Nat → Nat) (ad : Nat → Nat) (cA : Nat → ClassId) (nF : Nat) (u0 : ac_U) (p0 : Int32) (p1 : Int32) (p2 : Int32) (hR : ac_R rg u0) (hK_MS : msI u0) (hK_UI : unI u0) (hK_CW : cdI u0) (hK_AP : apI u0) (hK_AU : auI u0) : ac_Mi l yX12_odds (.code yX12_odds cX12_odds 6 (some .int) :: TB) 7 (dC, dI) vwCl (ac_ty cA) ad cA (TT nF) [.ref (ad 85), .int p0, .int p1, .int p2] u0 (fun (r : Int32) (u : ac_U) => ac_R rg u ∧ ac_Fr [(85, some 0), (85, some 34), (87, none), (94, none)] u0 u ∧ msI u ∧ unI u ∧ cdI u ∧ apI u ∧ auI u) := by
  refine ac_Mi.of (cc := cX12_odds) (maxL := 6) (ret := (some .int)) (by decide) rfl (Nat.le_of_ble_eq_true rfl) ?_
  intro p e s m below meth c A ls F hml hr hlocks hA hP hD hS hl
  have F : ac_X p s m [.ref (ad 85), .int p0, .int p1, .int p2].toArray c cX12_odds RX12 TB (dC, dI) vwCl (ac_ty cA) := ⟨F.1, F.2.1, fun w h => F.2.2.1 w (List.mem_cons_of_mem _ h), F.2.2.2.1, F.2.2.2.2⟩
  have hl : lv_has ls 6 [(0, .ref (ad 85)), (1, .int p0), (2, .int p1), (3, .int p2)] := hl
  have hF : ac_Fr [(85, some 0), (85, some 34), (87, none), (94, none)] u0 u0 := ac_Fr.rf
  have L44 : ∀ (n44 : Nat) (x4 : Int32) (x5 : Int32) (u : ac_U) (H : Heap) (locs : List Loc) (ls : Array Slot), ac_R rg u → ac_Fr [(85, some 0), (85, some 34), (87, none), (94, none)] u0 u → 30 - x5.toInt < (n44 : Int) → msI u → unI u → cdI u → bfI u → apI u → auI u → abI u → (0 : Int) ≤ p0.toInt ∧ p0.toInt ≤ 7 → (1 : Int) ≤ p1.toInt ∧ p1.toInt ≤ 30 → (0 : Int) ≤ x5.toInt ∧ x5.toInt ≤ 30 → (0 : Int) ≤ (u.1 85 0).toInt ∧ (u.1 85 0).toInt ≤ 0 → va_P (dC, dI) vwCl (ac_w ad cA (TT nF) u) H → va_D A (ac_w ad cA (TT nF) u) → va_S A s.heap H locs → lv_has ls 6 [(0, .ref (ad 85)), (1, .int p0), (2, .int p1), (3, .int p2), (4, .int x4), (5, .int x5)] → W p l e (ac_rm 7) s m [.ref (ad 85), .int p0, .int p1, .int p2].toArray below meth c H locs 0 0 (MQ below (va_Qi (fun (r : Int32) (u : ac_U) => ac_R rg u ∧ ac_Fr [(85, some 0), (85, some 34), (87, none), (94, none)] u0 u ∧ msI u ∧ unI u ∧ cdI u ∧ apI u ∧ auI u) (ac_B (dC, dI) vwCl (ac_ty cA) ad cA (TT nF) A) A) [.ref (ad 85), .int p0, .int p1, .int p2].toArray s 0 0 A) (F0 m 44 ls []) := by
    intro n44
    induction n44 with
    | zero => intro x4 x5 u H locs ls hR hF hn44 hK_MS hK_UI hK_CW hK_BI hK_AP hK_AU hK_AB f0 f1 f2 f3 hP hD hS hl; exfalso; omega
    | succ n44 ih44 =>
      intro x4 x5 u H locs ls hR hF hn44 hK_MS hK_UI hK_CW hK_BI hK_AP hK_AU hK_AB f0 f1 f2 f3 hP hD hS hl
      have L84 : ∀ (x5 : Int32) (z0 : Int32) (z1 : Int32) (u : ac_U) (H : Heap) (locs : List Loc) (ls : Array Slot), ac_R rg u → ac_Fr [(85, some 0), (85, some 34), (87, none), (94, none)] u0 u → msI u → unI u → cdI u → bfI u → apI u → auI u → abI u → (0 : Int) ≤ p0.toInt ∧ p0.toInt ≤ 7 → (1 : Int) ≤ p1.toInt ∧ p1.toInt ≤ 30 → (0 : Int) ≤ x5.toInt ∧ x5.toInt ≤ 29 → (0 : Int) ≤ z1.toInt ∧ z1.toInt ≤ 1 → (0 : Int) ≤ (u.1 85 0).toInt ∧ (u.1 85 0).toInt ≤ 0 → 30 - x5.toInt + 0 < ((n44 : Nat) : Int) + 1 → va_P (dC, dI) vwCl (ac_w ad cA (TT nF) u) H → va_D A (ac_w ad cA (TT nF) u) → va_S A s.heap H locs → lv_has ls 6 [(0, .ref (ad 85)), (1, .int p0), (2, .int p1), (3, .int p2), (5, .int x5)] → W p l e (ac_rm 7) s m [.ref (ad 85), .int p0, .int p1, .int p2].toArray below meth c H locs 0 0 (MQ below (va_Qi (fun (r : Int32) (u : ac_U) => ac_R rg u ∧ ac_Fr [(85, some 0), (85, some 34), (87, none), (94, none)] u0 u ∧ msI u ∧ unI u ∧ cdI u ∧ apI u ∧ auI u) (ac_B (dC, dI) vwCl (ac_ty cA) ad cA (TT nF) A) A) [.ref (ad 85), .int p0, .int p1, .int p2].toArray s 0 0 A) (F0 m 84 ls [.int z1, .int z0]) := by
        intro x5 z0 z1 u H locs ls hR hF hK_MS hK_UI hK_CW hK_BI hK_AP hK_AU hK_AB f0 f1 f2 f3 f4 f5 hP hD hS hl
        refine a_iaddU F dX12_odds_84 (fun v1 => ?_)
        refine lv_istore (lv' := [(4, .int v1), (0, .ref (ad 85)), (1, .int p0), (2, .int p1), (3, .int p2), (5, .int x5)]) F.1 F.2.1 dX12_odds_85 hl (by decide) rfl (fun ls hl => ?_)
        refine lv_aload_n F.1 F.2.1 dX12_odds_87 rfl (lv_at hl 1 rfl) ?_
        refine a_Vv F hml hl.1 hA hP hD hS (As := []) (c_X12_back_85__3 l dC dI ad cA nF _  hR hK_MS hK_BI hK_AP hK_AB) (cs_RX12_395 (d := 1) F.2.2.1 (by decide)) tc_85 rfl rfl rfl rfl (Nat.le_of_ble_eq_true rfl) dX12_odds_88 ⟨Nat.le_refl 0, Nat.le_refl 0⟩ (fun u2 H locs hq hP hD hS => ?_)
        obtain ⟨hR, hF2, hK_MS, hK_BI, hK_AP, hK_AB, hJ2_CW, hJ2_UI, hJ2_AU⟩ := hq
        have hF := hF.tr hF2 (by decide)
        have hK_UI := hJ2_UI hK_UI
        have hK_CW := hJ2_CW hK_CW
        have hK_AU := hJ2_AU hK_AU
        refine a_iinc F (k := 5) (fun v3 => [(5, .int v3), (4, .int v1), (0, .ref (ad 85)), (1, .int p0), (2, .int p1), (3, .int p2)]) dX12_odds_91 hl rfl rfl (by decide) (by omega) (by decide) (fun _ => rfl) (fun v3 ls hv3 hl => ?_)
        refine lv_goto (tgt := 44) F.1 F.2.1 dX12_odds_94 (by decide) ?_
        exact ih44 v1 v3 _ _ _ _ hR hF (by omega) hK_MS hK_UI hK_CW hK_BI hK_AP hK_AU hK_AB (by omega) (by omega) (by omega) (i_trB (hF2 85 0 rfl) (by omega : (0 : Int) ≤ (u.1 85 0).toInt ∧ (u.1 85 0).toInt ≤ 0)) hP hD hS (lv_sub hl [2, 3, 4, 5, 1, 0] rfl)
      refine lv_iload F.1 F.2.1 dX12_odds_44 (lv_at hl 5 rfl) ?_
      refine lv_iload_n F.1 F.2.1 dX12_odds_46 rfl (lv_at hl 2 rfl) ?_
      refine b_ge F 97 dX12_odds_47 (by decide) rfl rfl (fun c4 => ?_) (fun c4 => ?_)
      · refine lv_iload F.1 F.2.1 dX12_odds_97 (lv_at hl 4 rfl) ?_
        exact a_reti F hr hlocks hP hD hS dX12_odds_99 ⟨hR, hF, hK_MS, hK_UI, hK_CW, hK_AP, hK_AU⟩
      · refine lv_aload_n F.1 F.2.1 dX12_odds_50 rfl (lv_at hl 0 rfl) ?_
        refine a_ic F (2 : Int32) dX12_odds_51 (by decide) ?_
        refine lv_aload_n F.1 F.2.1 dX12_odds_52 rfl (lv_at hl 0 rfl) ?_
        refine a_getr F inX12 hP 85 6 tc_85 rfl rfl (by decide) q1477 (fun _ h9 => h9) dX12_odds_53 ?_
        refine a_ic F (0 : Int32) dX12_odds_56 (by decide) ?_
        have g5 : (4 : Int) ≤ (u.1 87 0).toInt ∧ (u.1 87 0).toInt ≤ 24 := hR 87 0
        refine a_ialdK F hP 87 0 tc_87 rfl rfl (i_in ic_0 (by omega)) (v := (u.1 87 0)) rfl dX12_odds_57 ?_
        refine a_imul F dX12_odds_58 ic_2 rfl (by omega) (fun v6 hv6 => ?_)
        refine lv_iload_n F.1 F.2.1 dX12_odds_59 rfl (lv_at hl 3 rfl) ?_
        refine lv_iload F.1 F.2.1 dX12_odds_60 (lv_at hl 5 rfl) ?_
        refine a_iaddU F dX12_odds_62 (fun v7 => ?_)
        refine a_Vi F hml hl.1 hA hP hD hS (As := [.int v6, .int v7]) (c_X12_draws_85__2 l dC dI ad cA nF _ v6 v7 hR (by omega) hK_MS hK_AP) (cs_RX12_389 (d := 3) F.2.2.1 (by decide)) tc_85 rfl rfl rfl rfl (Nat.le_of_ble_eq_true rfl) dX12_odds_63 ⟨Nat.le_refl 0, Nat.le_refl 0⟩ (fun r8 u8 H locs hq hP hD hS => ?_)
        obtain ⟨hR, hF8, gr8, hK_MS, hK_AP, hJ8_CW, hJ8_UI, hJ8_BI, hJ8_AU, hJ8_AB⟩ := hq
        have hF := hF.tr hF8 (by decide)
        have hK_UI := hJ8_UI hK_UI
        have hK_CW := hJ8_CW hK_CW
        have hK_BI := hJ8_BI hK_BI
        have hK_AU := hJ8_AU hK_AU
        have hK_AB := hJ8_AB hK_AB
        refine lv_pop F.1 F.2.1 dX12_odds_66 rfl ?_
        refine lv_iload F.1 F.2.1 dX12_odds_67 (lv_at hl 4 rfl) ?_
        refine lv_aload_n F.1 F.2.1 dX12_odds_69 rfl (lv_at hl 0 rfl) ?_
        refine lv_iload_n F.1 F.2.1 dX12_odds_70 rfl (lv_at hl 1 rfl) ?_
        refine a_ic F (0 : Int32) dX12_odds_71 (by decide) ?_
        refine a_Vi F hml hl.1 hA hP hD hS (As := [.int p0, .int (0 : Int32)]) (c_X12_statusOf_85 l dC dI ad cA nF _ p0 (0 : Int32) hR (by omega) (by decide)) (cs_RX12_257 (d := 6) F.2.2.1 (by decide)) tc_85 rfl rfl rfl rfl (Nat.le_of_ble_eq_true rfl) dX12_odds_72 ⟨Nat.le_refl 0, Nat.le_refl 0⟩ (fun r9 uN9 H locs hq hP hD hS => ?_)
        obtain ⟨hu9, gr9⟩ := hq
        rw [hu9] at hP hD
        refine a_ic F (4 : Int32) dX12_odds_75 (by decide) ?_
        refine b_ne F 83 dX12_odds_76 (by decide) rfl ic_4 (fun c10 => ?_) (fun c10 => ?_)
        · refine a_ic F (0 : Int32) dX12_odds_83 (by decide) ?_
          exact L84 x5 x4 (0 : Int32) _ _ _ _ hR hF hK_MS hK_UI hK_CW hK_BI hK_AP hK_AU hK_AB (by omega) (by omega) (by omega) (by decide) (i_trB (hF8 85 0 rfl) (by omega : (0 : Int) ≤ (u.1 85 0).toInt ∧ (u.1 85 0).toInt ≤ 0)) (by omega) hP hD hS (lv_sub hl [0, 1, 2, 3, 5] rfl)
        · refine a_ic F (1 : Int32) dX12_odds_79 (by decide) ?_
          refine lv_goto (tgt := 84) F.1 F.2.1 dX12_odds_80 (by decide) ?_
          exact L84 x5 x4 (1 : Int32) _ _ _ _ hR hF hK_MS hK_UI hK_CW hK_BI hK_AP hK_AU hK_AB (by omega) (by omega) (by omega) (by decide) (i_trB (hF8 85 0 rfl) (by omega : (0 : Int) ≤ (u.1 85 0).toInt ∧ (u.1 85 0).toInt ≤ 0)) (by omega) hP hD hS (lv_sub hl [0, 1, 2, 3, 5] rfl)
  have L32 : ∀ (u : ac_U) (H : Heap) (locs : List Loc) (ls : Array Slot), ac_R rg u → ac_Fr [(85, some 0), (85, some 34), (87, none), (94, none)] u0 u → msI u → unI u → cdI u → apI u → auI u → (0 : Int) ≤ (u.1 85 0).toInt ∧ (u.1 85 0).toInt ≤ 0 → va_P (dC, dI) vwCl (ac_w ad cA (TT nF) u) H → va_D A (ac_w ad cA (TT nF) u) → va_S A s.heap H locs → lv_has ls 6 [] → W p l e (ac_rm 7) s m [.ref (ad 85), .int p0, .int p1, .int p2].toArray below meth c H locs 0 0 (MQ below (va_Qi (fun (r : Int32) (u : ac_U) => ac_R rg u ∧ ac_Fr [(85, some 0), (85, some 34), (87, none), (94, none)] u0 u ∧ msI u ∧ unI u ∧ cdI u ∧ apI u ∧ auI u) (ac_B (dC, dI) vwCl (ac_ty cA) ad cA (TT nF) A) A) [.ref (ad 85), .int p0, .int p1, .int p2].toArray s 0 0 A) (F0 m 32 ls []) := by
    intro u H locs ls hR hF hK_MS hK_UI hK_CW hK_AP hK_AU f0 hP hD hS hl
    refine a_ic F (-1 : Int32) dX12_odds_32 (by decide) ?_
    exact a_reti F hr hlocks hP hD hS dX12_odds_33 ⟨hR, hF, hK_MS, hK_UI, hK_CW, hK_AP, hK_AU⟩
  refine lv_aload_n F.1 F.2.1 dX12_odds_0 rfl (lv_at hl 0 rfl) ?_
  refine a_ic F (0 : Int32) dX12_odds_1 (by decide) ?_
  refine a_puti F inX12 tyX12 tyX12_ok nmX12 hP hD hS 85 0 tc_85 rfl rfl (by decide) q1471 (fun _ h9 => h9) rfl (ty := .int) (tyX12_ok 0 (by decide)) rfl rfl dX12_odds_2 (fun H locs hP hD hS => ?_)
  have hR := hR.si (c := 85) (k := 0) (v := (0 : Int32)) (by rw [ic_0]; exact (by omega : (0 : Int) ≤ (0 : Int) ∧ (0 : Int) ≤ 1))
  have hF := hF.si (c := 85) (k := 0) (v := (0 : Int32)) rfl
  have hK_MS := sp_sgD sp_MS hD hK_MS (by decide)
  have hK_UI := sp_si sp_UI hK_UI (c := 85) (k := 0) (v := (0 : Int32)) (fun j9 h9 q9 => by rw [q9] at h9; exact absurd h9 (by decide))
  have hK_CW := sp_sgD sp_CW hD hK_CW (by decide)
  have hK_AP := sp_sgD sp_AP hD hK_AP (by decide)
  have hK_AU := sp_si sp_AU hK_AU (c := 85) (k := 0) (v := (0 : Int32)) (fun j9 h9 q9 => by rw [q9] at h9; exact absurd h9 (by decide))
  refine lv_aload_n F.1 F.2.1 dX12_odds_5 rfl (lv_at hl 0 rfl) ?_
  refine lv_iload_n F.1 F.2.1 dX12_odds_6 rfl (lv_at hl 1 rfl) ?_
  refine a_Vi F hml hl.1 hA hP hD hS (As := [.int p0]) (c_X12_isPromise_85 l dC dI ad cA nF _ p0 hR) (cs_RX12_244 (d := 2) F.2.2.1 (by decide)) tc_85 rfl rfl rfl rfl (Nat.le_of_ble_eq_true rfl) dX12_odds_7 ⟨Nat.le_refl 0, Nat.le_refl 0⟩ (fun r11 uN11 H locs hq hP hD hS => ?_)
  obtain ⟨hu11, gr11, xr11⟩ := hq
  rw [hu11] at hP hD
  have xr11 : r11.toInt ≠ 0 → 0 ≤ p0.toInt ∧ p0.toInt ≤ 7 := xr11
  refine z_eq F 32 dX12_odds_10 (by decide) rfl (fun c12 => ?_) (fun c12 => ?_)
  · exact L32 _ _ _ _ hR hF hK_MS hK_UI hK_CW hK_AP hK_AU (by omega : (0 : Int) ≤ (0 : Int) ∧ (0 : Int) ≤ 0) hP hD hS (lv_sub hl [] rfl)
  · refine lv_iload_n F.1 F.2.1 dX12_odds_13 rfl (lv_at hl 2 rfl) ?_
    refine a_ic F (1 : Int32) dX12_odds_14 (by decide) ?_
    refine a_bp F (30 : Int32) dX12_odds_15 (by decide) ?_
    refine a_Si F hml hl.1 hA hP hD hS (As := [.int p1, .int (1 : Int32), .int (30 : Int32)]) (c_X12_isIn l dC dI ad cA nF _ p1 (1 : Int32) (30 : Int32) hR (by decide)) (cs_RX12_187 (d := 1) F.2.2.1 (by decide)) rfl rfl (Nat.le_of_ble_eq_true rfl) dX12_odds_17 ⟨Nat.le_refl 0, Nat.le_refl 0⟩ (fun r13 uN13 H locs hq hP hD hS => ?_)
    obtain ⟨hu13, gr13, xr13⟩ := hq
    rw [hu13] at hP hD
    have xr13 : r13.toInt ≠ 0 → (1 : Int) ≤ p1.toInt ∧ p1.toInt ≤ (30 : Int) := xr13
    refine z_eq F 32 dX12_odds_20 (by decide) rfl (fun c14 => ?_) (fun c14 => ?_)
    · exact L32 _ _ _ _ hR hF hK_MS hK_UI hK_CW hK_AP hK_AU (by omega : (0 : Int) ≤ (0 : Int) ∧ (0 : Int) ≤ 0) hP hD hS (lv_sub hl [] rfl)
    · refine lv_aload_n F.1 F.2.1 dX12_odds_23 rfl (lv_at hl 0 rfl) ?_
      refine a_getr F inX12 hP 85 6 tc_85 rfl rfl (by decide) q1477 (fun _ h9 => h9) dX12_odds_24 ?_
      refine a_ic F (4 : Int32) dX12_odds_27 (by decide) ?_
      have g15 : (0 : Int) ≤ (u0.1 87 4).toInt ∧ (u0.1 87 4).toInt ≤ 4 := hR 87 4
      refine a_ialdK F hP 87 4 tc_87 rfl rfl (i_in ic_4 (by omega)) (v := (u0.1 87 4)) rfl dX12_odds_28 ?_
      refine z_ne F 34 dX12_odds_29 (by decide) rfl (fun c16 => ?_) (fun c16 => ?_)
      · refine lv_aload_n F.1 F.2.1 dX12_odds_34 rfl (lv_at hl 0 rfl) ?_
        refine a_Vv F hml hl.1 hA hP hD hS (As := []) (c_X12_tries_85__3 l dC dI ad cA nF _  hR hK_MS hK_AP) (cs_RX12_392 (d := 1) F.2.2.1 (by decide)) tc_85 rfl rfl rfl rfl (Nat.le_of_ble_eq_true rfl) dX12_odds_35 ⟨Nat.le_refl 0, Nat.le_refl 0⟩ (fun u17 H locs hq hP hD hS => ?_)
        obtain ⟨hR, hF17, hK_BI, hK_AB⟩ := hq
        have hF := hF.tr hF17 (by decide)
        have hK_MS := sp_fr sp_MS hF17 (by decide) hK_MS
        have hK_UI := sp_fr sp_UI hF17 (by decide) hK_UI
        have hK_CW := sp_fr sp_CW hF17 (by decide) hK_CW
        have hK_AP := sp_fr sp_AP hF17 (by decide) hK_AP
        have hK_AU := sp_fr sp_AU hF17 (by decide) hK_AU
        refine a_ic F (0 : Int32) dX12_odds_38 (by decide) ?_
        refine lv_istore (lv' := [(4, .int (0 : Int32)), (0, .ref (ad 85)), (1, .int p0), (2, .int p1), (3, .int p2)]) F.1 F.2.1 dX12_odds_39 hl (by decide) rfl (fun ls hl => ?_)
        refine a_ic F (0 : Int32) dX12_odds_41 (by decide) ?_
        refine lv_istore (lv' := [(5, .int (0 : Int32)), (4, .int (0 : Int32)), (0, .ref (ad 85)), (1, .int p0), (2, .int p1), (3, .int p2)]) F.1 F.2.1 dX12_odds_42 hl (by decide) rfl (fun ls hl => ?_)
        exact L44 32 (0 : Int32) (0 : Int32) _ _ _ _ hR hF (by decide) hK_MS hK_UI hK_CW hK_BI hK_AP hK_AU hK_AB (by omega) (by omega) (by decide) (i_trB (hF17 85 0 rfl) (by omega : (0 : Int) ≤ (0 : Int) ∧ (0 : Int) ≤ 0)) hP hD hS (lv_sub hl [2, 3, 4, 5, 1, 0] rfl)
      · exact L32 _ _ _ _ hR hF hK_MS hK_UI hK_CW hK_AP hK_AU (by omega : (0 : Int) ≤ (0 : Int) ∧ (0 : Int) ≤ 0) hP hD hS (lv_sub hl [] rfl)
set_option maxHeartbeats 600000 in
set_option maxRecDepth 100000 in
theorem c_X12_operand_85 (l : Launch) (dC : Nat → ClassId) (dI : Nat → Nat → Nat) (ad : Nat → Nat) (cA : Nat → ClassId) (nF : Nat) (u0 : ac_U)  (hR : ac_R rg u0) (hf_85_43 : (0 : Int) ≤ (u0.1 85 43).toInt ∧ (u0.1 85 43).toInt ≤ 0) (hr0 : (u0.1 85 39).toInt + (u0.1 85 41).toInt ≤ 2 * (u0.1 85 40).toInt) (hK_SW0 : (swI 0) u0) : ac_Mi l yX12_operand (.code yX12_operand cX12_operand 5 (some .boolean) :: TB) 3 (dC, dI) vwCl (ac_ty cA) ad cA (TT nF) [.ref (ad 85)] u0 (fun (r : Int32) (u : ac_U) => ac_R rg u ∧ ac_Fr [(85, some 4), (85, some 11), (85, some 12), (85, some 13), (85, some 14), (85, some 15), (85, some 16), (85, some 18), (85, some 39), (85, some 40), (85, some 41), (85, some 42), (85, some 43), (89, none), (100, none)] u0 u ∧ ((0 : Int) ≤ r.toInt ∧ r.toInt ≤ 1) ∧ (r.toInt ≠ 0 → (u.1 85 40).toInt = (u0.1 85 40).toInt + 1 ∧ (u.1 85 39).toInt + (u.1 85 41).toInt ≤ 2 * (u.1 85 40).toInt - (u.1 85 43).toInt ∧ (u.1 85 41).toInt + 2 * (u.1 85 43).toInt ≤ (u0.1 85 41).toInt + 2) ∧ (r.toInt ≠ 0 → swW u)) := by
  refine ac_Mi.of (cc := cX12_operand) (maxL := 5) (ret := (some .boolean)) (by decide) rfl (Nat.le_of_ble_eq_true rfl) ?_
  intro p e s m below meth c A ls F hml hr hlocks hA hP hD hS hl
  have F : ac_X p s m [.ref (ad 85)].toArray c cX12_operand RX12 TB (dC, dI) vwCl (ac_ty cA) := ⟨F.1, F.2.1, fun w h => F.2.2.1 w (List.mem_cons_of_mem _ h), F.2.2.2.1, F.2.2.2.2⟩
  have hl : lv_has ls 5 [(0, .ref (ad 85))] := hl
  have hF : ac_Fr [(85, some 4), (85, some 11), (85, some 12), (85, some 13), (85, some 14), (85, some 15), (85, some 16), (85, some 18), (85, some 39), (85, some 40), (85, some 41), (85, some 42), (85, some 43), (89, none), (100, none)] u0 u0 := ac_Fr.rf
  have L209 : ∀ (u : ac_U) (H : Heap) (locs : List Loc) (ls : Array Slot), ac_R rg u → ac_Fr [(85, some 4), (85, some 11), (85, some 12), (85, some 13), (85, some 14), (85, some 15), (85, some 16), (85, some 18), (85, some 39), (85, some 40), (85, some 41), (85, some 42), (85, some 43), (89, none), (100, none)] u0 u → (1 : Int) ≤ (u.1 85 40).toInt ∧ (u.1 85 40).toInt ≤ 20 → (u.1 85 42).toInt ≤ 8 → (1 : Int) ≤ (u.1 85 43).toInt ∧ (u.1 85 43).toInt ≤ 1 → va_P (dC, dI) vwCl (ac_w ad cA (TT nF) u) H → va_D A (ac_w ad cA (TT nF) u) → va_S A s.heap H locs → lv_has ls 5 [(0, .ref (ad 85))] → W p l e (ac_rm 3) s m [.ref (ad 85)].toArray below meth c H locs 0 0 (MQ below (va_Qi (fun (r : Int32) (u : ac_U) => ac_R rg u ∧ ac_Fr [(85, some 4), (85, some 11), (85, some 12), (85, some 13), (85, some 14), (85, some 15), (85, some 16), (85, some 18), (85, some 39), (85, some 40), (85, some 41), (85, some 42), (85, some 43), (89, none), (100, none)] u0 u ∧ ((0 : Int) ≤ r.toInt ∧ r.toInt ≤ 1) ∧ (r.toInt ≠ 0 → (u.1 85 40).toInt = (u0.1 85 40).toInt + 1 ∧ (u.1 85 39).toInt + (u.1 85 41).toInt ≤ 2 * (u.1 85 40).toInt - (u.1 85 43).toInt ∧ (u.1 85 41).toInt + 2 * (u.1 85 43).toInt ≤ (u0.1 85 41).toInt + 2) ∧ (r.toInt ≠ 0 → swW u)) (ac_B (dC, dI) vwCl (ac_ty cA) ad cA (TT nF) A) A) [.ref (ad 85)].toArray s 0 0 A) (F0 m 209 ls []) := by
    intro u H locs ls hR hF f0 f1 f2 hP hD hS hl
    refine lv_aload_n F.1 F.2.1 dX12_operand_209 rfl (lv_at hl 0 rfl) ?_
    refine a_ic F (1 : Int32) dX12_operand_210 (by decide) ?_
    have g2 : (0 : Int) ≤ (u.1 85 39).toInt ∧ (u.1 85 39).toInt ≤ 45 := hR 85 39
    have g3 : (0 : Int) ≤ (u.1 85 41).toInt ∧ (u.1 85 41).toInt ≤ 45 := hR 85 41
    have g4 : (0 : Int) ≤ (u.1 85 40).toInt ∧ (u.1 85 40).toInt ≤ 20 := hR 85 40
    have g5 : (0 : Int) ≤ (u.1 85 43).toInt ∧ (u.1 85 43).toInt ≤ 1 := hR 85 43
    refine a_Vi F hml hl.1 hA hP hD hS (As := [.int (1 : Int32)]) (c_X12_bad_85 l dC dI ad cA nF _ (1 : Int32) hR (by decide)) (cs_RX12_181 (d := 1) F.2.2.1 (by decide)) tc_85 rfl rfl rfl rfl (Nat.le_of_ble_eq_true rfl) dX12_operand_211 ⟨Nat.le_refl 0, Nat.le_refl 0⟩ (fun r1 u1 H locs hq hP hD hS => ?_)
    obtain ⟨hR, hF1, gr1⟩ := hq
    have hF := hF.tr hF1 (by decide)
    have k6 : (u1.1 85 40).toInt = (u.1 85 40).toInt := congrArg Int32.toInt (show u1.1 85 40 = (u.1 85 40) from hF1 85 40 rfl)
    have k7 : (u1.1 85 39).toInt = (u.1 85 39).toInt := congrArg Int32.toInt (show u1.1 85 39 = (u.1 85 39) from hF1 85 39 rfl)
    have k8 : (u1.1 85 41).toInt = (u.1 85 41).toInt := congrArg Int32.toInt (show u1.1 85 41 = (u.1 85 41) from hF1 85 41 rfl)
    have k9 : (u1.1 85 43).toInt = (u.1 85 43).toInt := congrArg Int32.toInt (show u1.1 85 43 = (u.1 85 43) from hF1 85 43 rfl)
    exact a_retz F hr hlocks hP hD hS dX12_operand_214 (i_01 (by omega)) ⟨hR, hF, (by omega : (0 : Int) ≤ r1.toInt ∧ r1.toInt ≤ 1), (by omega : r1.toInt ≠ 0 → (u1.1 85 40).toInt = (u0.1 85 40).toInt + 1 ∧ (u1.1 85 39).toInt + (u1.1 85 41).toInt ≤ 2 * (u1.1 85 40).toInt - (u1.1 85 43).toInt ∧ (u1.1 85 41).toInt + 2 * (u1.1 85 43).toInt ≤ (u0.1 85 41).toInt + 2), (fun h9 => absurd (by omega : r1.toInt = 0) h9)⟩
  have L84 : ∀ (x1 : Int32) (u : ac_U) (H : Heap) (locs : List Loc) (ls : Array Slot), ac_R rg u → ac_Fr [(85, some 4), (85, some 11), (85, some 12), (85, some 13), (85, some 14), (85, some 15), (85, some 16), (85, some 18), (85, some 39), (85, some 40), (85, some 41), (85, some 42), (85, some 43), (89, none), (100, none)] u0 u → (swI 0) u → (0 : Int) ≤ x1.toInt ∧ x1.toInt ≤ 1 → (1 : Int) ≤ (u.1 85 40).toInt ∧ (u.1 85 40).toInt ≤ 20 → (u.1 85 42).toInt ≤ 8 → (0 : Int) ≤ (u.1 85 43).toInt ∧ (u.1 85 43).toInt ≤ 0 → (u.1 85 40).toInt = (u0.1 85 40).toInt + 1 → (u.1 85 39).toInt = (u0.1 85 39).toInt → (u.1 85 41).toInt = (u0.1 85 41).toInt → (u.1 85 43).toInt = 0 → va_P (dC, dI) vwCl (ac_w ad cA (TT nF) u) H → va_D A (ac_w ad cA (TT nF) u) → va_S A s.heap H locs → lv_has ls 5 [(0, .ref (ad 85)), (1, .int x1)] → W p l e (ac_rm 3) s m [.ref (ad 85)].toArray below meth c H locs 0 0 (MQ below (va_Qi (fun (r : Int32) (u : ac_U) => ac_R rg u ∧ ac_Fr [(85, some 4), (85, some 11), (85, some 12), (85, some 13), (85, some 14), (85, some 15), (85, some 16), (85, some 18), (85, some 39), (85, some 40), (85, some 41), (85, some 42), (85, some 43), (89, none), (100, none)] u0 u ∧ ((0 : Int) ≤ r.toInt ∧ r.toInt ≤ 1) ∧ (r.toInt ≠ 0 → (u.1 85 40).toInt = (u0.1 85 40).toInt + 1 ∧ (u.1 85 39).toInt + (u.1 85 41).toInt ≤ 2 * (u.1 85 40).toInt - (u.1 85 43).toInt ∧ (u.1 85 41).toInt + 2 * (u.1 85 43).toInt ≤ (u0.1 85 41).toInt + 2) ∧ (r.toInt ≠ 0 → swW u)) (ac_B (dC, dI) vwCl (ac_ty cA) ad cA (TT nF) A) A) [.ref (ad 85)].toArray s 0 0 A) (F0 m 84 ls []) := by
    intro x1 u H locs ls hR hF hK_SW0 f0 f1 f2 f3 f4 f5 f6 f7 hP hD hS hl
    have hz10 : 0 ≤ (u.1 85 39).toInt ∧ (u.1 85 39).toInt ≤ 45 := hR 85 39
    have hy10 : 0 ≤ (u.1 85 41).toInt ∧ (u.1 85 41).toInt ≤ 45 := hR 85 41
    have hx10 : 0 ≤ (u.1 85 40).toInt ∧ (u.1 85 40).toInt ≤ 20 := hR 85 40
    refine lv_aload_n F.1 F.2.1 dX12_operand_84 rfl (lv_at hl 0 rfl) ?_
    refine a_getr F inX12 hP 85 38 tc_85 rfl rfl (by decide) q1509 (fun _ h9 => h9) dX12_operand_85 ?_
    refine lv_aload_n F.1 F.2.1 dX12_operand_88 rfl (lv_at hl 0 rfl) ?_
    have g11 : (0 : Int) ≤ (u.1 85 41).toInt ∧ (u.1 85 41).toInt ≤ 45 := hR 85 41
    refine a_geti F inX12 hP 85 41 tc_85 rfl rfl (by decide) q1512 (fun _ h9 => h9) (v := (u.1 85 41)) rfl dX12_operand_89 ?_
    refine lv_iload_n F.1 F.2.1 dX12_operand_92 rfl (lv_at hl 1 rfl) ?_
    refine z_eq F 101 dX12_operand_93 (by decide) rfl (fun c12 => ?_) (fun c12 => ?_)
    · refine a_bp F (23 : Int32) dX12_operand_101 (by decide) ?_
      refine a_iast F hP hD hS 100 tc_100 rfl (i_in rfl (by omega)) dX12_operand_103 (fun H locs hP hD hS => ?_)
      have hR := hR.si (c := 100) (k := (u.1 85 41).toNatClampNeg) (v := (23 : Int32)) ⟨i_lo _, i_hi _⟩
      have hF := hF.si (c := 100) (k := (u.1 85 41).toNatClampNeg) (v := (23 : Int32)) rfl
      have hO_SW0 := hK_SW0
      refine lv_aload_n F.1 F.2.1 dX12_operand_104 rfl (lv_at hl 0 rfl) ?_
      refine lv_dup F.1 F.2.1 dX12_operand_105 rfl ?_
      refine a_geti F inX12 hP 85 41 tc_85 rfl rfl (by decide) q1512 (fun _ h9 => h9) (v := (u.1 85 41)) (rfl) dX12_operand_106 ?_
      refine a_ic F (1 : Int32) dX12_operand_109 (by decide) ?_
      refine a_iadd F dX12_operand_110 rfl ic_1 (by omega) (fun v13 hv13 => ?_)
      refine a_puti F inX12 tyX12 tyX12_ok nmX12 hP hD hS 85 41 tc_85 rfl rfl (by decide) q1512 (fun _ h9 => h9) rfl (ty := .int) (tyX12_ok 41 (by decide)) rfl rfl dX12_operand_111 (fun H locs hP hD hS => ?_)
      have hR := hR.si (c := 85) (k := 41) (v := v13) (by omega : (0 : Int) ≤ v13.toInt ∧ v13.toInt ≤ 45)
      have hF := hF.si (c := 85) (k := 41) (v := v13) rfl
      have hO_SW0 := hK_SW0
      have hK_SW0 := sw_ps0 hK_SW0 (t := (u.1 85 41)) (rfl) (i := (u.1 85 41)) (x := (23 : Int32)) (v := v13) (by omega) (by omega) (by omega) (by decide) rfl rfl
      refine lv_aload_n F.1 F.2.1 dX12_operand_114 rfl (lv_at hl 0 rfl) ?_
      refine lv_dup F.1 F.2.1 dX12_operand_115 rfl ?_
      refine a_geti F inX12 hP 85 42 tc_85 rfl rfl (by decide) q1513 (fun _ h9 => h9) (v := (u.1 85 42)) rfl dX12_operand_116 ?_
      refine a_ic F (1 : Int32) dX12_operand_119 (by decide) ?_
      refine a_iadd F dX12_operand_120 rfl ic_1 (by have q0 := i_lo (u.1 85 42); omega) (fun v14 hv14 => ?_)
      refine a_puti F inX12 tyX12 tyX12_ok nmX12 hP hD hS 85 42 tc_85 rfl rfl (by decide) q1513 (fun _ h9 => h9) rfl (ty := .int) (tyX12_ok 42 (by decide)) rfl rfl dX12_operand_121 (fun H locs hP hD hS => ?_)
      have hR := hR.si (c := 85) (k := 42) (v := v14) ⟨i_lo _, i_hi _⟩
      have hF := hF.si (c := 85) (k := 42) (v := v14) rfl
      have hK_SW0 := sp_si (sp_sw _) hK_SW0 (c := 85) (k := 42) (v := v14) (fun j9 h9 q9 => by rw [q9] at h9; exact absurd h9 (by decide))
      refine a_ic F (1 : Int32) dX12_operand_124 (by decide) ?_
      have g15 : (0 : Int) ≤ (u.1 85 40).toInt ∧ (u.1 85 40).toInt ≤ 20 := hR 85 40
      have g16 : (0 : Int) ≤ (u.1 85 39).toInt ∧ (u.1 85 39).toInt ≤ 45 := hR 85 39
      have g17 : (0 : Int) ≤ (u.1 85 43).toInt ∧ (u.1 85 43).toInt ≤ 1 := hR 85 43
      exact a_retz F hr hlocks hP hD hS dX12_operand_125 (Or.inr rfl) ⟨hR, hF, (by decide), (by first | exact (by omega : (1 : Int) ≠ 0 → (u.1 85 40).toInt = (u0.1 85 40).toInt + 1 ∧ (u.1 85 39).toInt + v13.toInt ≤ 2 * (u.1 85 40).toInt - (u.1 85 43).toInt ∧ v13.toInt + 2 * (u.1 85 43).toInt ≤ (u0.1 85 41).toInt + 2) | (rw [ic_1]; exact (by omega : (1 : Int) ≠ 0 → (u.1 85 40).toInt = (u0.1 85 40).toInt + 1 ∧ (u.1 85 39).toInt + v13.toInt ≤ 2 * (u.1 85 40).toInt - (u.1 85 43).toInt ∧ v13.toInt + 2 * (u.1 85 43).toInt ≤ (u0.1 85 41).toInt + 2))), (fun _ => sw_toD hD hK_SW0 (t := (u.1 85 43)) rfl (by first | decide | omega))⟩
    · refine a_bp F (20 : Int32) dX12_operand_96 (by decide) ?_
      refine lv_goto (tgt := 103) F.1 F.2.1 dX12_operand_98 (by decide) ?_
      refine a_iast F hP hD hS 100 tc_100 rfl (i_in rfl (by omega)) dX12_operand_103 (fun H locs hP hD hS => ?_)
      have hR := hR.si (c := 100) (k := (u.1 85 41).toNatClampNeg) (v := (20 : Int32)) ⟨i_lo _, i_hi _⟩
      have hF := hF.si (c := 100) (k := (u.1 85 41).toNatClampNeg) (v := (20 : Int32)) rfl
      have hO_SW0 := hK_SW0
      refine lv_aload_n F.1 F.2.1 dX12_operand_104 rfl (lv_at hl 0 rfl) ?_
      refine lv_dup F.1 F.2.1 dX12_operand_105 rfl ?_
      refine a_geti F inX12 hP 85 41 tc_85 rfl rfl (by decide) q1512 (fun _ h9 => h9) (v := (u.1 85 41)) (rfl) dX12_operand_106 ?_
      refine a_ic F (1 : Int32) dX12_operand_109 (by decide) ?_
      refine a_iadd F dX12_operand_110 rfl ic_1 (by omega) (fun v18 hv18 => ?_)
      refine a_puti F inX12 tyX12 tyX12_ok nmX12 hP hD hS 85 41 tc_85 rfl rfl (by decide) q1512 (fun _ h9 => h9) rfl (ty := .int) (tyX12_ok 41 (by decide)) rfl rfl dX12_operand_111 (fun H locs hP hD hS => ?_)
      have hR := hR.si (c := 85) (k := 41) (v := v18) (by omega : (0 : Int) ≤ v18.toInt ∧ v18.toInt ≤ 45)
      have hF := hF.si (c := 85) (k := 41) (v := v18) rfl
      have hO_SW0 := hK_SW0
      have hK_SW0 := sw_ps0 hK_SW0 (t := (u.1 85 41)) (rfl) (i := (u.1 85 41)) (x := (20 : Int32)) (v := v18) (by omega) (by omega) (by omega) (by decide) rfl rfl
      refine lv_aload_n F.1 F.2.1 dX12_operand_114 rfl (lv_at hl 0 rfl) ?_
      refine lv_dup F.1 F.2.1 dX12_operand_115 rfl ?_
      refine a_geti F inX12 hP 85 42 tc_85 rfl rfl (by decide) q1513 (fun _ h9 => h9) (v := (u.1 85 42)) rfl dX12_operand_116 ?_
      refine a_ic F (1 : Int32) dX12_operand_119 (by decide) ?_
      refine a_iadd F dX12_operand_120 rfl ic_1 (by have q0 := i_lo (u.1 85 42); omega) (fun v19 hv19 => ?_)
      refine a_puti F inX12 tyX12 tyX12_ok nmX12 hP hD hS 85 42 tc_85 rfl rfl (by decide) q1513 (fun _ h9 => h9) rfl (ty := .int) (tyX12_ok 42 (by decide)) rfl rfl dX12_operand_121 (fun H locs hP hD hS => ?_)
      have hR := hR.si (c := 85) (k := 42) (v := v19) ⟨i_lo _, i_hi _⟩
      have hF := hF.si (c := 85) (k := 42) (v := v19) rfl
      have hK_SW0 := sp_si (sp_sw _) hK_SW0 (c := 85) (k := 42) (v := v19) (fun j9 h9 q9 => by rw [q9] at h9; exact absurd h9 (by decide))
      refine a_ic F (1 : Int32) dX12_operand_124 (by decide) ?_
      have g20 : (0 : Int) ≤ (u.1 85 40).toInt ∧ (u.1 85 40).toInt ≤ 20 := hR 85 40
      have g21 : (0 : Int) ≤ (u.1 85 39).toInt ∧ (u.1 85 39).toInt ≤ 45 := hR 85 39
      have g22 : (0 : Int) ≤ (u.1 85 43).toInt ∧ (u.1 85 43).toInt ≤ 1 := hR 85 43
      exact a_retz F hr hlocks hP hD hS dX12_operand_125 (Or.inr rfl) ⟨hR, hF, (by decide), (by first | exact (by omega : (1 : Int) ≠ 0 → (u.1 85 40).toInt = (u0.1 85 40).toInt + 1 ∧ (u.1 85 39).toInt + v18.toInt ≤ 2 * (u.1 85 40).toInt - (u.1 85 43).toInt ∧ v18.toInt + 2 * (u.1 85 43).toInt ≤ (u0.1 85 41).toInt + 2) | (rw [ic_1]; exact (by omega : (1 : Int) ≠ 0 → (u.1 85 40).toInt = (u0.1 85 40).toInt + 1 ∧ (u.1 85 39).toInt + v18.toInt ≤ 2 * (u.1 85 40).toInt - (u.1 85 43).toInt ∧ v18.toInt + 2 * (u.1 85 43).toInt ≤ (u0.1 85 41).toInt + 2))), (fun _ => sw_toD hD hK_SW0 (t := (u.1 85 43)) rfl (by first | decide | omega))⟩
  have L56 : ∀ (u : ac_U) (H : Heap) (locs : List Loc) (ls : Array Slot), ac_R rg u → ac_Fr [(85, some 4), (85, some 11), (85, some 12), (85, some 13), (85, some 14), (85, some 15), (85, some 16), (85, some 18), (85, some 39), (85, some 40), (85, some 41), (85, some 42), (85, some 43), (89, none), (100, none)] u0 u → (0 : Int) ≤ (u.1 85 40).toInt ∧ (u.1 85 40).toInt ≤ 20 → (0 : Int) ≤ (u.1 85 43).toInt ∧ (u.1 85 43).toInt ≤ 0 → va_P (dC, dI) vwCl (ac_w ad cA (TT nF) u) H → va_D A (ac_w ad cA (TT nF) u) → va_S A s.heap H locs → lv_has ls 5 [(0, .ref (ad 85))] → W p l e (ac_rm 3) s m [.ref (ad 85)].toArray below meth c H locs 0 0 (MQ below (va_Qi (fun (r : Int32) (u : ac_U) => ac_R rg u ∧ ac_Fr [(85, some 4), (85, some 11), (85, some 12), (85, some 13), (85, some 14), (85, some 15), (85, some 16), (85, some 18), (85, some 39), (85, some 40), (85, some 41), (85, some 42), (85, some 43), (89, none), (100, none)] u0 u ∧ ((0 : Int) ≤ r.toInt ∧ r.toInt ≤ 1) ∧ (r.toInt ≠ 0 → (u.1 85 40).toInt = (u0.1 85 40).toInt + 1 ∧ (u.1 85 39).toInt + (u.1 85 41).toInt ≤ 2 * (u.1 85 40).toInt - (u.1 85 43).toInt ∧ (u.1 85 41).toInt + 2 * (u.1 85 43).toInt ≤ (u0.1 85 41).toInt + 2) ∧ (r.toInt ≠ 0 → swW u)) (ac_B (dC, dI) vwCl (ac_ty cA) ad cA (TT nF) A) A) [.ref (ad 85)].toArray s 0 0 A) (F0 m 56 ls []) := by
    intro u H locs ls hR hF f0 f1 hP hD hS hl
    refine lv_aload_n F.1 F.2.1 dX12_operand_56 rfl (lv_at hl 0 rfl) ?_
    refine a_ic F (4 : Int32) dX12_operand_57 (by decide) ?_
    have g24 : (0 : Int) ≤ (u.1 85 39).toInt ∧ (u.1 85 39).toInt ≤ 45 := hR 85 39
    have g25 : (0 : Int) ≤ (u.1 85 41).toInt ∧ (u.1 85 41).toInt ≤ 45 := hR 85 41
    have g26 : (0 : Int) ≤ (u.1 85 40).toInt ∧ (u.1 85 40).toInt ≤ 20 := hR 85 40
    have g27 : (0 : Int) ≤ (u.1 85 43).toInt ∧ (u.1 85 43).toInt ≤ 1 := hR 85 43
    refine a_Vi F hml hl.1 hA hP hD hS (As := [.int (4 : Int32)]) (c_X12_bad_85 l dC dI ad cA nF _ (4 : Int32) hR (by decide)) (cs_RX12_181 (d := 1) F.2.2.1 (by decide)) tc_85 rfl rfl rfl rfl (Nat.le_of_ble_eq_true rfl) dX12_operand_58 ⟨Nat.le_refl 0, Nat.le_refl 0⟩ (fun r23 u23 H locs hq hP hD hS => ?_)
    obtain ⟨hR, hF23, gr23⟩ := hq
    have hF := hF.tr hF23 (by decide)
    have k28 : (u23.1 85 40).toInt = (u.1 85 40).toInt := congrArg Int32.toInt (show u23.1 85 40 = (u.1 85 40) from hF23 85 40 rfl)
    have k29 : (u23.1 85 39).toInt = (u.1 85 39).toInt := congrArg Int32.toInt (show u23.1 85 39 = (u.1 85 39) from hF23 85 39 rfl)
    have k30 : (u23.1 85 41).toInt = (u.1 85 41).toInt := congrArg Int32.toInt (show u23.1 85 41 = (u.1 85 41) from hF23 85 41 rfl)
    have k31 : (u23.1 85 43).toInt = (u.1 85 43).toInt := congrArg Int32.toInt (show u23.1 85 43 = (u.1 85 43) from hF23 85 43 rfl)
    exact a_retz F hr hlocks hP hD hS dX12_operand_61 (i_01 (by omega)) ⟨hR, hF, (by omega : (0 : Int) ≤ r23.toInt ∧ r23.toInt ≤ 1), (by omega : r23.toInt ≠ 0 → (u23.1 85 40).toInt = (u0.1 85 40).toInt + 1 ∧ (u23.1 85 39).toInt + (u23.1 85 41).toInt ≤ 2 * (u23.1 85 40).toInt - (u23.1 85 43).toInt ∧ (u23.1 85 41).toInt + 2 * (u23.1 85 43).toInt ≤ (u0.1 85 41).toInt + 2), (fun h9 => absurd (by omega : r23.toInt = 0) h9)⟩
  have L38 : ∀ (x1 : Int32) (x2 : Int32) (x3 : Int32) (u : ac_U) (H : Heap) (locs : List Loc) (ls : Array Slot), ac_R rg u → ac_Fr [(85, some 4), (85, some 11), (85, some 12), (85, some 13), (85, some 14), (85, some 15), (85, some 16), (85, some 18), (85, some 39), (85, some 40), (85, some 41), (85, some 42), (85, some 43), (89, none), (100, none)] u0 u → (swI 0) u → (0 : Int) ≤ x1.toInt ∧ x1.toInt ≤ 1 → (0 : Int) ≤ x2.toInt ∧ x2.toInt ≤ 1 → (-1 : Int) ≤ x3.toInt ∧ x3.toInt ≤ 9 → (0 : Int) ≤ (u.1 85 43).toInt ∧ (u.1 85 43).toInt ≤ 0 → (u.1 85 40).toInt = (u0.1 85 40).toInt → (u.1 85 39).toInt = (u0.1 85 39).toInt → (u.1 85 41).toInt = (u0.1 85 41).toInt → (u.1 85 43).toInt = 0 → va_P (dC, dI) vwCl (ac_w ad cA (TT nF) u) H → va_D A (ac_w ad cA (TT nF) u) → va_S A s.heap H locs → lv_has ls 5 [(0, .ref (ad 85)), (1, .int x1), (2, .int x2), (3, .int x3)] → W p l e (ac_rm 3) s m [.ref (ad 85)].toArray below meth c H locs 0 0 (MQ below (va_Qi (fun (r : Int32) (u : ac_U) => ac_R rg u ∧ ac_Fr [(85, some 4), (85, some 11), (85, some 12), (85, some 13), (85, some 14), (85, some 15), (85, some 16), (85, some 18), (85, some 39), (85, some 40), (85, some 41), (85, some 42), (85, some 43), (89, none), (100, none)] u0 u ∧ ((0 : Int) ≤ r.toInt ∧ r.toInt ≤ 1) ∧ (r.toInt ≠ 0 → (u.1 85 40).toInt = (u0.1 85 40).toInt + 1 ∧ (u.1 85 39).toInt + (u.1 85 41).toInt ≤ 2 * (u.1 85 40).toInt - (u.1 85 43).toInt ∧ (u.1 85 41).toInt + 2 * (u.1 85 43).toInt ≤ (u0.1 85 41).toInt + 2) ∧ (r.toInt ≠ 0 → swW u)) (ac_B (dC, dI) vwCl (ac_ty cA) ad cA (TT nF) A) A) [.ref (ad 85)].toArray s 0 0 A) (F0 m 38 ls []) := by
    intro x1 x2 x3 u H locs ls hR hF hK_SW0 f0 f1 f2 f3 f4 f5 f6 f7 hP hD hS hl
    refine lv_aload_n F.1 F.2.1 dX12_operand_38 rfl (lv_at hl 0 rfl) ?_
    have g32 : (0 : Int) ≤ (u.1 85 40).toInt ∧ (u.1 85 40).toInt ≤ 20 := hR 85 40
    refine a_geti F inX12 hP 85 40 tc_85 rfl rfl (by decide) q1511 (fun _ h9 => h9) (v := (u.1 85 40)) rfl dX12_operand_39 ?_
    refine a_bp F (20 : Int32) dX12_operand_42 (by decide) ?_
    refine b_eq F 56 dX12_operand_44 (by decide) rfl ic_20 (fun c33 => ?_) (fun c33 => ?_)
    · have g34 : (0 : Int) ≤ (u.1 85 43).toInt ∧ (u.1 85 43).toInt ≤ 1 := hR 85 43
      exact L56 _ _ _ _ hR hF (by omega : (0 : Int) ≤ (u.1 85 40).toInt ∧ (u.1 85 40).toInt ≤ 20) (by omega : (0 : Int) ≤ (u.1 85 43).toInt ∧ (u.1 85 43).toInt ≤ 0) hP hD hS (lv_sub hl [0] rfl)
    · refine lv_aload_n F.1 F.2.1 dX12_operand_47 rfl (lv_at hl 0 rfl) ?_
      refine a_geti F inX12 hP 85 42 tc_85 rfl rfl (by decide) q1513 (fun _ h9 => h9) (v := (u.1 85 42)) rfl dX12_operand_48 ?_
      refine a_bp F (8 : Int32) dX12_operand_51 (by decide) ?_
      refine b_le F 62 dX12_operand_53 (by decide) rfl ic_8 (fun c35 => ?_) (fun c35 => ?_)
      · refine lv_aload_n F.1 F.2.1 dX12_operand_62 rfl (lv_at hl 0 rfl) ?_
        refine lv_dup F.1 F.2.1 dX12_operand_63 rfl ?_
        refine a_geti F inX12 hP 85 40 tc_85 rfl rfl (by decide) q1511 (fun _ h9 => h9) (v := (u.1 85 40)) (rfl) dX12_operand_64 ?_
        refine a_ic F (1 : Int32) dX12_operand_67 (by decide) ?_
        refine a_iadd F dX12_operand_68 rfl ic_1 (by omega) (fun v36 hv36 => ?_)
        refine a_puti F inX12 tyX12 tyX12_ok nmX12 hP hD hS 85 40 tc_85 rfl rfl (by decide) q1511 (fun _ h9 => h9) rfl (ty := .int) (tyX12_ok 40 (by decide)) rfl rfl dX12_operand_69 (fun H locs hP hD hS => ?_)
        have hR := hR.si (c := 85) (k := 40) (v := v36) (by omega : (0 : Int) ≤ v36.toInt ∧ v36.toInt ≤ 20)
        have hF := hF.si (c := 85) (k := 40) (v := v36) rfl
        have hK_SW0 := sp_si (sp_sw _) hK_SW0 (c := 85) (k := 40) (v := v36) (fun j9 h9 q9 => by rw [q9] at h9; exact absurd h9 (by decide))
        refine lv_aload_n F.1 F.2.1 dX12_operand_72 rfl (lv_at hl 0 rfl) ?_
        have g38 : (0 : Int) ≤ (u.1 85 39).toInt ∧ (u.1 85 39).toInt ≤ 45 := hR 85 39
        have g39 : (0 : Int) ≤ (u.1 85 41).toInt ∧ (u.1 85 41).toInt ≤ 45 := hR 85 41
        have g40 : (0 : Int) ≤ (u.1 85 43).toInt ∧ (u.1 85 43).toInt ≤ 1 := hR 85 43
        refine a_Vv F hml hl.1 hA hP hD hS (As := []) (c_X12_next_85 l dC dI ad cA nF _  hR) (cs_RX12_184 (d := 2) F.2.2.1 (by decide)) tc_85 rfl rfl rfl rfl (Nat.le_of_ble_eq_true rfl) dX12_operand_73 ⟨Nat.le_refl 0, Nat.le_refl 0⟩ (fun u37 H locs hq hP hD hS => ?_)
        obtain ⟨hR, hF37⟩ := hq
        have hF := hF.tr hF37 (by decide)
        have hK_SW0 := sp_fr (sp_sw _) hF37 (by decide) hK_SW0
        refine lv_iload_n F.1 F.2.1 dX12_operand_76 rfl (lv_at hl 1 rfl) ?_
        refine z_ne F 84 dX12_operand_77 (by decide) rfl (fun c41 => ?_) (fun c41 => ?_)
        · exact L84 x1 _ _ _ _ hR hF hK_SW0 (by omega) (i_trB (hF37 85 40 rfl) (by omega : (1 : Int) ≤ v36.toInt ∧ v36.toInt ≤ 20)) (i_trH (hF37 85 42 rfl) (by omega : (u.1 85 42).toInt ≤ 8)) (i_trB (hF37 85 43 rfl) (by omega : (0 : Int) ≤ (u.1 85 43).toInt ∧ (u.1 85 43).toInt ≤ 0)) (by rw [hF37 85 40 rfl]; try exact (by omega : v36.toInt = (u0.1 85 40).toInt + 1)) (by rw [hF37 85 39 rfl]; try exact (by omega : (u.1 85 39).toInt = (u0.1 85 39).toInt)) (by rw [hF37 85 41 rfl]; try exact (by omega : (u.1 85 41).toInt = (u0.1 85 41).toInt)) (by rw [hF37 85 43 rfl]; try exact (by omega : (u.1 85 43).toInt = 0)) hP hD hS (lv_sub hl [0, 1] rfl)
        · refine lv_iload_n F.1 F.2.1 dX12_operand_80 rfl (lv_at hl 2 rfl) ?_
          refine z_eq F 126 dX12_operand_81 (by decide) rfl (fun c42 => ?_) (fun c42 => ?_)
          · have k44 : (u37.1 85 39).toInt = (u.1 85 39).toInt := congrArg Int32.toInt (show u37.1 85 39 = (u.1 85 39) from hF37 85 39 rfl)
            have k45 : (u37.1 85 41).toInt = (u.1 85 41).toInt := congrArg Int32.toInt (show u37.1 85 41 = (u.1 85 41) from hF37 85 41 rfl)
            have k46 : (u37.1 85 40).toInt = v36.toInt := congrArg Int32.toInt (show u37.1 85 40 = v36 from hF37 85 40 rfl)
            have hz43 : 0 ≤ (u37.1 85 39).toInt ∧ (u37.1 85 39).toInt ≤ 45 := hR 85 39
            have hy43 : 0 ≤ (u37.1 85 41).toInt ∧ (u37.1 85 41).toInt ≤ 45 := hR 85 41
            have hx43 : 0 ≤ (u37.1 85 40).toInt ∧ (u37.1 85 40).toInt ≤ 20 := hR 85 40
            refine lv_aload_n F.1 F.2.1 dX12_operand_126 rfl (lv_at hl 0 rfl) ?_
            refine a_ic F (1 : Int32) dX12_operand_127 (by decide) ?_
            refine a_puti F inX12 tyX12 tyX12_ok nmX12 hP hD hS 85 43 tc_85 rfl rfl (by decide) q1514 (fun _ h9 => h9) rfl (ty := .boolean) (tyX12_ok 43 (by decide)) (i_zn (Or.inr rfl)) (i_zf (Or.inr rfl)) dX12_operand_128 (fun H locs hP hD hS => ?_)
            have hR := hR.si (c := 85) (k := 43) (v := (1 : Int32)) (by rw [ic_1]; exact (by omega : (0 : Int) ≤ (1 : Int) ∧ (1 : Int) ≤ 1))
            have hF := hF.si (c := 85) (k := 43) (v := (1 : Int32)) rfl
            have hK_SW0 := sp_si (sp_sw _) hK_SW0 (c := 85) (k := 43) (v := (1 : Int32)) (fun j9 h9 q9 => by rw [q9] at h9; exact absurd h9 (by decide))
            refine lv_iload_n F.1 F.2.1 dX12_operand_131 rfl (lv_at hl 3 rfl) ?_
            refine a_ic F (5 : Int32) dX12_operand_132 (by decide) ?_
            refine b_ge F 145 dX12_operand_133 (by decide) rfl ic_5 (fun c47 => ?_) (fun c47 => ?_)
            · refine lv_iload_n F.1 F.2.1 dX12_operand_145 rfl (lv_at hl 3 rfl) ?_
              refine a_ic F (5 : Int32) dX12_operand_146 (by decide) ?_
              refine b_ne F 183 dX12_operand_147 (by decide) rfl ic_5 (fun c48 => ?_) (fun c48 => ?_)
              · refine lv_aload_n F.1 F.2.1 dX12_operand_183 rfl (lv_at hl 0 rfl) ?_
                have g49 : (0 : Int) ≤ (u37.1 85 11).toInt ∧ (u37.1 85 11).toInt ≤ 4 := hR 85 11
                refine a_geti F inX12 hP 85 11 tc_85 rfl rfl (by decide) q1482 (fun _ h9 => h9) (v := (u37.1 85 11)) rfl dX12_operand_184 ?_
                refine a_ic F (3 : Int32) dX12_operand_187 (by decide) ?_
                refine b_ne F 209 dX12_operand_188 (by decide) rfl ic_3 (fun c50 => ?_) (fun c50 => ?_)
                · exact L209 _ _ _ _ hR hF (i_trB (hF37 85 40 rfl) (by omega : (1 : Int) ≤ v36.toInt ∧ v36.toInt ≤ 20)) (i_trH (hF37 85 42 rfl) (by omega : (u.1 85 42).toInt ≤ 8)) (by omega : (1 : Int) ≤ (1 : Int) ∧ (1 : Int) ≤ 1) hP hD hS (lv_sub hl [0] rfl)
                · refine lv_aload_n F.1 F.2.1 dX12_operand_191 rfl (lv_at hl 0 rfl) ?_
                  refine a_geti F inX12 hP 85 14 tc_85 rfl rfl (by decide) q1485 (fun _ h9 => h9) (v := (u37.1 85 14)) rfl dX12_operand_192 ?_
                  refine a_bp F (60 : Int32) dX12_operand_195 (by decide) ?_
                  refine b_lt F 209 dX12_operand_197 (by decide) rfl ic_60 (fun c51 => ?_) (fun c51 => ?_)
                  · exact L209 _ _ _ _ hR hF (i_trB (hF37 85 40 rfl) (by omega : (1 : Int) ≤ v36.toInt ∧ v36.toInt ≤ 20)) (i_trH (hF37 85 42 rfl) (by omega : (u.1 85 42).toInt ≤ 8)) (by omega : (1 : Int) ≤ (1 : Int) ∧ (1 : Int) ≤ 1) hP hD hS (lv_sub hl [0] rfl)
                  · refine lv_aload_n F.1 F.2.1 dX12_operand_200 rfl (lv_at hl 0 rfl) ?_
                    refine a_geti F inX12 hP 85 14 tc_85 rfl rfl (by decide) q1485 (fun _ h9 => h9) (v := (u37.1 85 14)) (rfl) dX12_operand_201 ?_
                    refine a_bp F (62 : Int32) dX12_operand_204 (by decide) ?_
                    refine b_le F 215 dX12_operand_206 (by decide) rfl ic_62 (fun c52 => ?_) (fun c52 => ?_)
                    · refine lv_aload_n F.1 F.2.1 dX12_operand_215 rfl (lv_at hl 0 rfl) ?_
                      refine a_geti F inX12 hP 85 14 tc_85 rfl rfl (by decide) q1485 (fun _ h9 => h9) (v := (u37.1 85 14)) (rfl) dX12_operand_216 ?_
                      refine lv_istore (lv' := [(4, .int (u37.1 85 14)), (0, .ref (ad 85)), (1, .int x1), (2, .int x2), (3, .int x3)]) F.1 F.2.1 dX12_operand_219 hl (by decide) rfl (fun ls hl => ?_)
                      refine lv_aload_n F.1 F.2.1 dX12_operand_221 rfl (lv_at hl 1 rfl) ?_
                      refine a_Vv F hml hl.1 hA hP hD hS (As := []) (c_X12_next_85 l dC dI ad cA nF _  hR) (cs_RX12_184 (d := 2) F.2.2.1 (by decide)) tc_85 rfl rfl rfl rfl (Nat.le_of_ble_eq_true rfl) dX12_operand_222 ⟨Nat.le_refl 0, Nat.le_refl 0⟩ (fun u53 H locs hq hP hD hS => ?_)
                      obtain ⟨hR, hF53⟩ := hq
                      have hF := hF.tr hF53 (by decide)
                      have hK_SW0 := sp_fr (sp_sw _) hF53 (by decide) hK_SW0
                      refine lv_aload_n F.1 F.2.1 dX12_operand_225 rfl (lv_at hl 1 rfl) ?_
                      have g54 : (0 : Int) ≤ (u53.1 85 11).toInt ∧ (u53.1 85 11).toInt ≤ 4 := hR 85 11
                      refine a_geti F inX12 hP 85 11 tc_85 rfl rfl (by decide) q1482 (fun _ h9 => h9) (v := (u53.1 85 11)) rfl dX12_operand_226 ?_
                      refine a_ic F (2 : Int32) dX12_operand_229 (by decide) ?_
                      refine b_eq F 239 dX12_operand_230 (by decide) rfl ic_2 (fun c55 => ?_) (fun c55 => ?_)
                      · refine lv_aload_n F.1 F.2.1 dX12_operand_239 rfl (lv_at hl 1 rfl) ?_
                        refine lv_iload_n F.1 F.2.1 dX12_operand_240 rfl (lv_at hl 4 rfl) ?_
                        refine lv_iload F.1 F.2.1 dX12_operand_241 (lv_at hl 0 rfl) ?_
                        refine lv_aload_n F.1 F.2.1 dX12_operand_243 rfl (lv_at hl 1 rfl) ?_
                        refine a_geti F inX12 hP 85 14 tc_85 rfl rfl (by decide) q1485 (fun _ h9 => h9) (v := (u53.1 85 14)) rfl dX12_operand_244 ?_
                        have hP_SW0 := hK_SW0
                        have k57 : (u53.1 85 39).toInt = (u.1 85 39).toInt := congrArg Int32.toInt (show u53.1 85 39 = (u.1 85 39) from (hF53 85 39 rfl).trans (hF37 85 39 rfl))
                        refine a_Vv F hml hl.1 hA hP hD hS (As := [.int x3, .int (u37.1 85 14), .int (u53.1 85 14)]) (c_X12_code_85 l dC dI ad cA nF _ x3 (u37.1 85 14) (u53.1 85 14) hR (i_trB ((hF53 85 39 rfl).trans (hF37 85 39 rfl)) (by omega : (0 : Int) ≤ (u.1 85 39).toInt ∧ (u.1 85 39).toInt ≤ 44))) (cs_RX12_419 (d := 1) F.2.2.1 (by decide)) tc_85 rfl rfl rfl rfl (Nat.le_of_ble_eq_true rfl) dX12_operand_247 ⟨Nat.le_refl 0, Nat.le_refl 0⟩ (fun u56 H locs hq hP hD hS => ?_)
                        obtain ⟨hR, hF56, xr56, hE_r56⟩ := hq
                        have hF := hF.tr hF56 (by decide)
                        have hK_SW1 := cd_leaf hE_r56 hK_SW0 (by omega)
                        have g58 : (0 : Int) ≤ (u56.1 85 39).toInt ∧ (u56.1 85 39).toInt ≤ 45 := hR 85 39
                        have xr56 : (u56.1 85 39).toInt = (u53.1 85 39).toInt + 1 := xr56
                        refine lv_aload_n F.1 F.2.1 dX12_operand_250 rfl (lv_at hl 1 rfl) ?_
                        refine a_Vv F hml hl.1 hA hP hD hS (As := []) (c_X12_next_85 l dC dI ad cA nF _  hR) (cs_RX12_184 (d := 2) F.2.2.1 (by decide)) tc_85 rfl rfl rfl rfl (Nat.le_of_ble_eq_true rfl) dX12_operand_251 ⟨Nat.le_refl 0, Nat.le_refl 0⟩ (fun u59 H locs hq hP hD hS => ?_)
                        obtain ⟨hR, hF59⟩ := hq
                        have hF := hF.tr hF59 (by decide)
                        have hK_SW1 := sp_fr (sp_sw _) hF59 (by decide) hK_SW1
                        refine a_ic F (1 : Int32) dX12_operand_254 (by decide) ?_
                        have k60 : (u59.1 85 40).toInt = v36.toInt := congrArg Int32.toInt (show u59.1 85 40 = v36 from (hF59 85 40 rfl).trans ((hF56 85 40 rfl).trans ((hF53 85 40 rfl).trans (hF37 85 40 rfl))))
                        have k61 : (u59.1 85 39).toInt = (u56.1 85 39).toInt := congrArg Int32.toInt (show u59.1 85 39 = (u56.1 85 39) from hF59 85 39 rfl)
                        have k62 : (u59.1 85 41).toInt = (u.1 85 41).toInt := congrArg Int32.toInt (show u59.1 85 41 = (u.1 85 41) from (hF59 85 41 rfl).trans ((hF56 85 41 rfl).trans ((hF53 85 41 rfl).trans (hF37 85 41 rfl))))
                        have k63 : (u59.1 85 43).toInt = (1 : Int32).toInt := congrArg Int32.toInt (show u59.1 85 43 = (1 : Int32) from (hF59 85 43 rfl).trans ((hF56 85 43 rfl).trans (hF53 85 43 rfl)))
                        rw [ic_1] at k63
                        exact a_retz F hr hlocks hP hD hS dX12_operand_255 (Or.inr rfl) ⟨hR, hF, (by decide), (by first | exact (by omega : (1 : Int) ≠ 0 → (u59.1 85 40).toInt = (u0.1 85 40).toInt + 1 ∧ (u59.1 85 39).toInt + (u59.1 85 41).toInt ≤ 2 * (u59.1 85 40).toInt - (u59.1 85 43).toInt ∧ (u59.1 85 41).toInt + 2 * (u59.1 85 43).toInt ≤ (u0.1 85 41).toInt + 2) | (rw [ic_1]; exact (by omega : (1 : Int) ≠ 0 → (u59.1 85 40).toInt = (u0.1 85 40).toInt + 1 ∧ (u59.1 85 39).toInt + (u59.1 85 41).toInt ≤ 2 * (u59.1 85 40).toInt - (u59.1 85 43).toInt ∧ (u59.1 85 41).toInt + 2 * (u59.1 85 43).toInt ≤ (u0.1 85 41).toInt + 2))), (fun _ => sw_toD hD hK_SW1 (t := (1 : Int32)) ((hF59 85 43 rfl).trans ((hF56 85 43 rfl).trans (hF53 85 43 rfl))) (by first | decide | omega))⟩
                      · refine lv_aload_n F.1 F.2.1 dX12_operand_233 rfl (lv_at hl 1 rfl) ?_
                        refine a_ic F (1 : Int32) dX12_operand_234 (by decide) ?_
                        refine a_Vi F hml hl.1 hA hP hD hS (As := [.int (1 : Int32)]) (c_X12_bad_85 l dC dI ad cA nF _ (1 : Int32) hR (by decide)) (cs_RX12_181 (d := 1) F.2.2.1 (by decide)) tc_85 rfl rfl rfl rfl (Nat.le_of_ble_eq_true rfl) dX12_operand_235 ⟨Nat.le_refl 0, Nat.le_refl 0⟩ (fun r64 u64 H locs hq hP hD hS => ?_)
                        obtain ⟨hR, hF64, gr64⟩ := hq
                        have hF := hF.tr hF64 (by decide)
                        have hK_SW0 := sp_fr (sp_sw _) hF64 (by decide) hK_SW0
                        have k65 : (u64.1 85 40).toInt = v36.toInt := congrArg Int32.toInt (show u64.1 85 40 = v36 from (hF64 85 40 rfl).trans ((hF53 85 40 rfl).trans (hF37 85 40 rfl)))
                        have k66 : (u64.1 85 39).toInt = (u.1 85 39).toInt := congrArg Int32.toInt (show u64.1 85 39 = (u.1 85 39) from (hF64 85 39 rfl).trans ((hF53 85 39 rfl).trans (hF37 85 39 rfl)))
                        have k67 : (u64.1 85 41).toInt = (u.1 85 41).toInt := congrArg Int32.toInt (show u64.1 85 41 = (u.1 85 41) from (hF64 85 41 rfl).trans ((hF53 85 41 rfl).trans (hF37 85 41 rfl)))
                        have k68 : (u64.1 85 43).toInt = (1 : Int32).toInt := congrArg Int32.toInt (show u64.1 85 43 = (1 : Int32) from (hF64 85 43 rfl).trans (hF53 85 43 rfl))
                        rw [ic_1] at k68
                        exact a_retz F hr hlocks hP hD hS dX12_operand_238 (i_01 (by omega)) ⟨hR, hF, (by omega : (0 : Int) ≤ r64.toInt ∧ r64.toInt ≤ 1), (by omega : r64.toInt ≠ 0 → (u64.1 85 40).toInt = (u0.1 85 40).toInt + 1 ∧ (u64.1 85 39).toInt + (u64.1 85 41).toInt ≤ 2 * (u64.1 85 40).toInt - (u64.1 85 43).toInt ∧ (u64.1 85 41).toInt + 2 * (u64.1 85 43).toInt ≤ (u0.1 85 41).toInt + 2), (fun h9 => absurd (by omega : r64.toInt = 0) h9)⟩
                    · exact L209 _ _ _ _ hR hF (i_trB (hF37 85 40 rfl) (by omega : (1 : Int) ≤ v36.toInt ∧ v36.toInt ≤ 20)) (i_trH (hF37 85 42 rfl) (by omega : (u.1 85 42).toInt ≤ 8)) (by omega : (1 : Int) ≤ (1 : Int) ∧ (1 : Int) ≤ 1) hP hD hS (lv_sub hl [0] rfl)
              · refine lv_aload_n F.1 F.2.1 dX12_operand_150 rfl (lv_at hl 0 rfl) ?_
                refine a_bp F (8 : Int32) dX12_operand_151 (by decide) ?_
                refine lv_aload_n F.1 F.2.1 dX12_operand_153 rfl (lv_at hl 0 rfl) ?_
                refine a_getr F inX12 hP 85 6 tc_85 rfl rfl (by decide) q1477 (fun _ h9 => h9) dX12_operand_154 ?_
                refine a_ic F (4 : Int32) dX12_operand_157 (by decide) ?_
                have g69 : (0 : Int) ≤ (u37.1 87 4).toInt ∧ (u37.1 87 4).toInt ≤ 4 := hR 87 4
                refine a_ialdK F hP 87 4 tc_87 rfl rfl (i_in ic_4 (by omega)) (v := (u37.1 87 4)) rfl dX12_operand_158 ?_
                refine a_Vi F hml hl.1 hA hP hD hS (As := [.int (8 : Int32), .int (u37.1 87 4)]) (c_X12_looksAt_85 l dC dI ad cA nF _ (8 : Int32) (u37.1 87 4) hR (by decide) (by omega) (by simp only [ic_8]; omega)) (cs_RX12_202 (d := 2) F.2.2.1 (by decide)) tc_85 rfl rfl rfl rfl (Nat.le_of_ble_eq_true rfl) dX12_operand_159 ⟨Nat.le_refl 0, Nat.le_refl 0⟩ (fun r70 u70 H locs hq hP hD hS => ?_)
                obtain ⟨hR, hF70, gr70, xr70⟩ := hq
                have hF := hF.tr hF70 (by decide)
                have hK_SW0 := sp_fr (sp_sw _) hF70 (by decide) hK_SW0
                have xr70 : r70.toInt ≠ 0 → 0 ≤ (u70.1 85 18).toInt ∧ (u70.1 85 18).toInt < (u37.1 87 4).toInt := xr70
                refine z_ne F 167 dX12_operand_162 (by decide) rfl (fun c71 => ?_) (fun c71 => ?_)
                · refine lv_aload_n F.1 F.2.1 dX12_operand_167 rfl (lv_at hl 0 rfl) ?_
                  refine lv_iload_n F.1 F.2.1 dX12_operand_168 rfl (lv_at hl 3 rfl) ?_
                  refine a_ic F (0 : Int32) dX12_operand_169 (by decide) ?_
                  refine lv_aload_n F.1 F.2.1 dX12_operand_170 rfl (lv_at hl 0 rfl) ?_
                  refine a_geti F inX12 hP 85 18 tc_85 rfl rfl (by decide) q1489 (fun _ h9 => h9) (v := (u70.1 85 18)) (rfl) dX12_operand_171 ?_
                  have hP_SW0 := hK_SW0
                  have k73 : (u70.1 85 39).toInt = (u.1 85 39).toInt := congrArg Int32.toInt (show u70.1 85 39 = (u.1 85 39) from (hF70 85 39 rfl).trans (hF37 85 39 rfl))
                  refine a_Vv F hml hl.1 hA hP hD hS (As := [.int x3, .int (0 : Int32), .int (u70.1 85 18)]) (c_X12_code_85 l dC dI ad cA nF _ x3 (0 : Int32) (u70.1 85 18) hR (i_trB ((hF70 85 39 rfl).trans (hF37 85 39 rfl)) (by omega : (0 : Int) ≤ (u.1 85 39).toInt ∧ (u.1 85 39).toInt ≤ 44))) (cs_RX12_419 (d := 1) F.2.2.1 (by decide)) tc_85 rfl rfl rfl rfl (Nat.le_of_ble_eq_true rfl) dX12_operand_174 ⟨Nat.le_refl 0, Nat.le_refl 0⟩ (fun u72 H locs hq hP hD hS => ?_)
                  obtain ⟨hR, hF72, xr72, hE_r72⟩ := hq
                  have hF := hF.tr hF72 (by decide)
                  have hK_SW1 := cd_leaf hE_r72 hK_SW0 (by omega)
                  have g74 : (0 : Int) ≤ (u72.1 85 39).toInt ∧ (u72.1 85 39).toInt ≤ 45 := hR 85 39
                  have xr72 : (u72.1 85 39).toInt = (u70.1 85 39).toInt + 1 := xr72
                  refine lv_aload_n F.1 F.2.1 dX12_operand_177 rfl (lv_at hl 0 rfl) ?_
                  refine a_Vv F hml hl.1 hA hP hD hS (As := []) (c_X12_next_85 l dC dI ad cA nF _  hR) (cs_RX12_184 (d := 2) F.2.2.1 (by decide)) tc_85 rfl rfl rfl rfl (Nat.le_of_ble_eq_true rfl) dX12_operand_178 ⟨Nat.le_refl 0, Nat.le_refl 0⟩ (fun u75 H locs hq hP hD hS => ?_)
                  obtain ⟨hR, hF75⟩ := hq
                  have hF := hF.tr hF75 (by decide)
                  have hK_SW1 := sp_fr (sp_sw _) hF75 (by decide) hK_SW1
                  refine a_ic F (1 : Int32) dX12_operand_181 (by decide) ?_
                  have k76 : (u75.1 85 40).toInt = v36.toInt := congrArg Int32.toInt (show u75.1 85 40 = v36 from (hF75 85 40 rfl).trans ((hF72 85 40 rfl).trans ((hF70 85 40 rfl).trans (hF37 85 40 rfl))))
                  have k77 : (u75.1 85 39).toInt = (u72.1 85 39).toInt := congrArg Int32.toInt (show u75.1 85 39 = (u72.1 85 39) from hF75 85 39 rfl)
                  have k78 : (u75.1 85 41).toInt = (u.1 85 41).toInt := congrArg Int32.toInt (show u75.1 85 41 = (u.1 85 41) from (hF75 85 41 rfl).trans ((hF72 85 41 rfl).trans ((hF70 85 41 rfl).trans (hF37 85 41 rfl))))
                  have k79 : (u75.1 85 43).toInt = (1 : Int32).toInt := congrArg Int32.toInt (show u75.1 85 43 = (1 : Int32) from (hF75 85 43 rfl).trans ((hF72 85 43 rfl).trans (hF70 85 43 rfl)))
                  rw [ic_1] at k79
                  exact a_retz F hr hlocks hP hD hS dX12_operand_182 (Or.inr rfl) ⟨hR, hF, (by decide), (by first | exact (by omega : (1 : Int) ≠ 0 → (u75.1 85 40).toInt = (u0.1 85 40).toInt + 1 ∧ (u75.1 85 39).toInt + (u75.1 85 41).toInt ≤ 2 * (u75.1 85 40).toInt - (u75.1 85 43).toInt ∧ (u75.1 85 41).toInt + 2 * (u75.1 85 43).toInt ≤ (u0.1 85 41).toInt + 2) | (rw [ic_1]; exact (by omega : (1 : Int) ≠ 0 → (u75.1 85 40).toInt = (u0.1 85 40).toInt + 1 ∧ (u75.1 85 39).toInt + (u75.1 85 41).toInt ≤ 2 * (u75.1 85 40).toInt - (u75.1 85 43).toInt ∧ (u75.1 85 41).toInt + 2 * (u75.1 85 43).toInt ≤ (u0.1 85 41).toInt + 2))), (fun _ => sw_toD hD hK_SW1 (t := (1 : Int32)) ((hF75 85 43 rfl).trans ((hF72 85 43 rfl).trans (hF70 85 43 rfl))) (by first | decide | omega))⟩
                · refine a_ic F (0 : Int32) dX12_operand_165 (by decide) ?_
                  have k80 : (u70.1 85 40).toInt = v36.toInt := congrArg Int32.toInt (show u70.1 85 40 = v36 from (hF70 85 40 rfl).trans (hF37 85 40 rfl))
                  have k81 : (u70.1 85 39).toInt = (u.1 85 39).toInt := congrArg Int32.toInt (show u70.1 85 39 = (u.1 85 39) from (hF70 85 39 rfl).trans (hF37 85 39 rfl))
                  have k82 : (u70.1 85 41).toInt = (u.1 85 41).toInt := congrArg Int32.toInt (show u70.1 85 41 = (u.1 85 41) from (hF70 85 41 rfl).trans (hF37 85 41 rfl))
                  have k83 : (u70.1 85 43).toInt = (1 : Int32).toInt := congrArg Int32.toInt (show u70.1 85 43 = (1 : Int32) from hF70 85 43 rfl)
                  rw [ic_1] at k83
                  exact a_retz F hr hlocks hP hD hS dX12_operand_166 (Or.inl rfl) ⟨hR, hF, (by decide), (by first | exact (by omega : (0 : Int) ≠ 0 → (u70.1 85 40).toInt = (u0.1 85 40).toInt + 1 ∧ (u70.1 85 39).toInt + (u70.1 85 41).toInt ≤ 2 * (u70.1 85 40).toInt - (u70.1 85 43).toInt ∧ (u70.1 85 41).toInt + 2 * (u70.1 85 43).toInt ≤ (u0.1 85 41).toInt + 2) | (rw [ic_0]; exact (by omega : (0 : Int) ≠ 0 → (u70.1 85 40).toInt = (u0.1 85 40).toInt + 1 ∧ (u70.1 85 39).toInt + (u70.1 85 41).toInt ≤ 2 * (u70.1 85 40).toInt - (u70.1 85 43).toInt ∧ (u70.1 85 41).toInt + 2 * (u70.1 85 43).toInt ≤ (u0.1 85 41).toInt + 2))), (fun h9 => absurd (by decide) h9)⟩
            · refine lv_aload_n F.1 F.2.1 dX12_operand_136 rfl (lv_at hl 0 rfl) ?_
              refine lv_iload_n F.1 F.2.1 dX12_operand_137 rfl (lv_at hl 3 rfl) ?_
              refine a_ic F (0 : Int32) dX12_operand_138 (by decide) ?_
              refine a_ic F (0 : Int32) dX12_operand_139 (by decide) ?_
              have hP_SW0 := hK_SW0
              refine a_Vv F hml hl.1 hA hP hD hS (As := [.int x3, .int (0 : Int32), .int (0 : Int32)]) (c_X12_code_85 l dC dI ad cA nF _ x3 (0 : Int32) (0 : Int32) hR (i_trB (hF37 85 39 rfl) (by omega : (0 : Int) ≤ (u.1 85 39).toInt ∧ (u.1 85 39).toInt ≤ 44))) (cs_RX12_419 (d := 1) F.2.2.1 (by decide)) tc_85 rfl rfl rfl rfl (Nat.le_of_ble_eq_true rfl) dX12_operand_140 ⟨Nat.le_refl 0, Nat.le_refl 0⟩ (fun u84 H locs hq hP hD hS => ?_)
              obtain ⟨hR, hF84, xr84, hE_r84⟩ := hq
              have hF := hF.tr hF84 (by decide)
              have hK_SW1 := cd_leaf hE_r84 hK_SW0 (by omega)
              have g85 : (0 : Int) ≤ (u84.1 85 39).toInt ∧ (u84.1 85 39).toInt ≤ 45 := hR 85 39
              have xr84 : (u84.1 85 39).toInt = (u37.1 85 39).toInt + 1 := xr84
              refine a_ic F (1 : Int32) dX12_operand_143 (by decide) ?_
              have k86 : (u84.1 85 40).toInt = v36.toInt := congrArg Int32.toInt (show u84.1 85 40 = v36 from (hF84 85 40 rfl).trans (hF37 85 40 rfl))
              have k87 : (u84.1 85 41).toInt = (u.1 85 41).toInt := congrArg Int32.toInt (show u84.1 85 41 = (u.1 85 41) from (hF84 85 41 rfl).trans (hF37 85 41 rfl))
              have k88 : (u84.1 85 43).toInt = (1 : Int32).toInt := congrArg Int32.toInt (show u84.1 85 43 = (1 : Int32) from hF84 85 43 rfl)
              rw [ic_1] at k88
              exact a_retz F hr hlocks hP hD hS dX12_operand_144 (Or.inr rfl) ⟨hR, hF, (by decide), (by first | exact (by omega : (1 : Int) ≠ 0 → (u84.1 85 40).toInt = (u0.1 85 40).toInt + 1 ∧ (u84.1 85 39).toInt + (u84.1 85 41).toInt ≤ 2 * (u84.1 85 40).toInt - (u84.1 85 43).toInt ∧ (u84.1 85 41).toInt + 2 * (u84.1 85 43).toInt ≤ (u0.1 85 41).toInt + 2) | (rw [ic_1]; exact (by omega : (1 : Int) ≠ 0 → (u84.1 85 40).toInt = (u0.1 85 40).toInt + 1 ∧ (u84.1 85 39).toInt + (u84.1 85 41).toInt ≤ 2 * (u84.1 85 40).toInt - (u84.1 85 43).toInt ∧ (u84.1 85 41).toInt + 2 * (u84.1 85 43).toInt ≤ (u0.1 85 41).toInt + 2))), (fun _ => sw_toD hD hK_SW1 (t := (1 : Int32)) (hF84 85 43 rfl) (by first | decide | omega))⟩
          · exact L84 x1 _ _ _ _ hR hF hK_SW0 (by omega) (i_trB (hF37 85 40 rfl) (by omega : (1 : Int) ≤ v36.toInt ∧ v36.toInt ≤ 20)) (i_trH (hF37 85 42 rfl) (by omega : (u.1 85 42).toInt ≤ 8)) (i_trB (hF37 85 43 rfl) (by omega : (0 : Int) ≤ (u.1 85 43).toInt ∧ (u.1 85 43).toInt ≤ 0)) (by rw [hF37 85 40 rfl]; try exact (by omega : v36.toInt = (u0.1 85 40).toInt + 1)) (by rw [hF37 85 39 rfl]; try exact (by omega : (u.1 85 39).toInt = (u0.1 85 39).toInt)) (by rw [hF37 85 41 rfl]; try exact (by omega : (u.1 85 41).toInt = (u0.1 85 41).toInt)) (by rw [hF37 85 43 rfl]; try exact (by omega : (u.1 85 43).toInt = 0)) hP hD hS (lv_sub hl [0, 1] rfl)
      · have g89 : (0 : Int) ≤ (u.1 85 43).toInt ∧ (u.1 85 43).toInt ≤ 1 := hR 85 43
        exact L56 _ _ _ _ hR hF (by omega : (0 : Int) ≤ (u.1 85 40).toInt ∧ (u.1 85 40).toInt ≤ 20) (by omega : (0 : Int) ≤ (u.1 85 43).toInt ∧ (u.1 85 43).toInt ≤ 0) hP hD hS (lv_sub hl [0] rfl)
  refine lv_aload_n F.1 F.2.1 dX12_operand_0 rfl (lv_at hl 0 rfl) ?_
  refine lv_ldc2 (v := (7237492 : Int64)) F.1 F.2.1 F.2.2.2.1 (F.2.2.1 _ q1460) dX12_operand_1 ?_
  refine a_Vi F hml hl.1 hA hP hD hS (As := [.long (7237492 : Int64)]) (c_X12_isWord_85 l dC dI ad cA nF _ (7237492 : Int64) hR) (cs_RX12_206 (d := 1) F.2.2.1 (by decide)) tc_85 rfl rfl rfl rfl (Nat.le_of_ble_eq_true rfl) dX12_operand_4 ⟨Nat.le_refl 0, Nat.le_refl 0⟩ (fun r90 uN90 H locs hq hP hD hS => ?_)
  obtain ⟨hu90, gr90⟩ := hq
  rw [hu90] at hP hD
  refine lv_istore_n (lv' := [(1, .int r90), (0, .ref (ad 85))]) F.1 F.2.1 dX12_operand_7 rfl hl (by decide) rfl (fun ls hl => ?_)
  refine lv_aload_n F.1 F.2.1 dX12_operand_8 rfl (lv_at hl 1 rfl) ?_
  refine a_bp F (40 : Int32) dX12_operand_9 (by decide) ?_
  refine a_Vi F hml hl.1 hA hP hD hS (As := [.int (40 : Int32)]) (c_X12_isSign_85 l dC dI ad cA nF _ (40 : Int32) hR (by decide)) (cs_RX12_178 (d := 1) F.2.2.1 (by decide)) tc_85 rfl rfl rfl rfl (Nat.le_of_ble_eq_true rfl) dX12_operand_11 ⟨Nat.le_refl 0, Nat.le_refl 0⟩ (fun r91 uN91 H locs hq hP hD hS => ?_)
  obtain ⟨hu91, gr91⟩ := hq
  rw [hu91] at hP hD
  refine lv_istore_n (lv' := [(2, .int r91), (1, .int r90), (0, .ref (ad 85))]) F.1 F.2.1 dX12_operand_14 rfl hl (by decide) rfl (fun ls hl => ?_)
  refine lv_aload_n F.1 F.2.1 dX12_operand_15 rfl (lv_at hl 2 rfl) ?_
  refine a_Vi F hml hl.1 hA hP hD hS (As := []) (c_X12_leafOf_85 l dC dI ad cA nF _  hR) (cs_RX12_426 (d := 2) F.2.2.1 (by decide)) tc_85 rfl rfl rfl rfl (Nat.le_of_ble_eq_true rfl) dX12_operand_16 ⟨Nat.le_refl 0, Nat.le_refl 0⟩ (fun r92 uN92 H locs hq hP hD hS => ?_)
  obtain ⟨hu92, gr92⟩ := hq
  rw [hu92] at hP hD
  refine lv_istore_n (lv' := [(3, .int r92), (2, .int r91), (1, .int r90), (0, .ref (ad 85))]) F.1 F.2.1 dX12_operand_19 rfl hl (by decide) rfl (fun ls hl => ?_)
  refine lv_iload_n F.1 F.2.1 dX12_operand_20 rfl (lv_at hl 2 rfl) ?_
  refine z_ne F 38 dX12_operand_21 (by decide) rfl (fun c93 => ?_) (fun c93 => ?_)
  · have g94 : (0 : Int) ≤ (u0.1 85 43).toInt ∧ (u0.1 85 43).toInt ≤ 1 := hR 85 43
    have g95 : (0 : Int) ≤ (u0.1 85 40).toInt ∧ (u0.1 85 40).toInt ≤ 20 := hR 85 40
    have g96 : (0 : Int) ≤ (u0.1 85 39).toInt ∧ (u0.1 85 39).toInt ≤ 45 := hR 85 39
    have g97 : (0 : Int) ≤ (u0.1 85 41).toInt ∧ (u0.1 85 41).toInt ≤ 45 := hR 85 41
    exact L38 r90 r91 r92 _ _ _ _ hR hF hK_SW0 (by omega) (by omega) (by omega) (by omega : (0 : Int) ≤ (u0.1 85 43).toInt ∧ (u0.1 85 43).toInt ≤ 0) (by omega : (u0.1 85 40).toInt = (u0.1 85 40).toInt) (by omega : (u0.1 85 39).toInt = (u0.1 85 39).toInt) (by omega : (u0.1 85 41).toInt = (u0.1 85 41).toInt) (by omega : (u0.1 85 43).toInt = 0) hP hD hS (lv_sub hl [3, 2, 1, 0] rfl)
  · refine lv_iload_n F.1 F.2.1 dX12_operand_24 rfl (lv_at hl 1 rfl) ?_
    refine z_ne F 38 dX12_operand_25 (by decide) rfl (fun c98 => ?_) (fun c98 => ?_)
    · have g99 : (0 : Int) ≤ (u0.1 85 43).toInt ∧ (u0.1 85 43).toInt ≤ 1 := hR 85 43
      have g100 : (0 : Int) ≤ (u0.1 85 40).toInt ∧ (u0.1 85 40).toInt ≤ 20 := hR 85 40
      have g101 : (0 : Int) ≤ (u0.1 85 39).toInt ∧ (u0.1 85 39).toInt ≤ 45 := hR 85 39
      have g102 : (0 : Int) ≤ (u0.1 85 41).toInt ∧ (u0.1 85 41).toInt ≤ 45 := hR 85 41
      exact L38 r90 r91 r92 _ _ _ _ hR hF hK_SW0 (by omega) (by omega) (by omega) (by omega : (0 : Int) ≤ (u0.1 85 43).toInt ∧ (u0.1 85 43).toInt ≤ 0) (by omega : (u0.1 85 40).toInt = (u0.1 85 40).toInt) (by omega : (u0.1 85 39).toInt = (u0.1 85 39).toInt) (by omega : (u0.1 85 41).toInt = (u0.1 85 41).toInt) (by omega : (u0.1 85 43).toInt = 0) hP hD hS (lv_sub hl [3, 2, 1, 0] rfl)
    · refine lv_iload_n F.1 F.2.1 dX12_operand_28 rfl (lv_at hl 0 rfl) ?_
      refine z_ge F 38 dX12_operand_29 (by decide) rfl (fun c103 => ?_) (fun c103 => ?_)
      · have g104 : (0 : Int) ≤ (u0.1 85 43).toInt ∧ (u0.1 85 43).toInt ≤ 1 := hR 85 43
        have g105 : (0 : Int) ≤ (u0.1 85 40).toInt ∧ (u0.1 85 40).toInt ≤ 20 := hR 85 40
        have g106 : (0 : Int) ≤ (u0.1 85 39).toInt ∧ (u0.1 85 39).toInt ≤ 45 := hR 85 39
        have g107 : (0 : Int) ≤ (u0.1 85 41).toInt ∧ (u0.1 85 41).toInt ≤ 45 := hR 85 41
        exact L38 r90 r91 r92 _ _ _ _ hR hF hK_SW0 (by omega) (by omega) (by omega) (by omega : (0 : Int) ≤ (u0.1 85 43).toInt ∧ (u0.1 85 43).toInt ≤ 0) (by omega : (u0.1 85 40).toInt = (u0.1 85 40).toInt) (by omega : (u0.1 85 39).toInt = (u0.1 85 39).toInt) (by omega : (u0.1 85 41).toInt = (u0.1 85 41).toInt) (by omega : (u0.1 85 43).toInt = 0) hP hD hS (lv_sub hl [3, 2, 1, 0] rfl)
      · refine lv_aload_n F.1 F.2.1 dX12_operand_32 rfl (lv_at hl 3 rfl) ?_
        refine a_ic F (1 : Int32) dX12_operand_33 (by decide) ?_
        have g109 : (0 : Int) ≤ (u0.1 85 39).toInt ∧ (u0.1 85 39).toInt ≤ 45 := hR 85 39
        have g110 : (0 : Int) ≤ (u0.1 85 41).toInt ∧ (u0.1 85 41).toInt ≤ 45 := hR 85 41
        have g111 : (0 : Int) ≤ (u0.1 85 40).toInt ∧ (u0.1 85 40).toInt ≤ 20 := hR 85 40
        have g112 : (0 : Int) ≤ (u0.1 85 43).toInt ∧ (u0.1 85 43).toInt ≤ 1 := hR 85 43
        refine a_Vi F hml hl.1 hA hP hD hS (As := [.int (1 : Int32)]) (c_X12_bad_85 l dC dI ad cA nF _ (1 : Int32) hR (by decide)) (cs_RX12_181 (d := 1) F.2.2.1 (by decide)) tc_85 rfl rfl rfl rfl (Nat.le_of_ble_eq_true rfl) dX12_operand_34 ⟨Nat.le_refl 0, Nat.le_refl 0⟩ (fun r108 u108 H locs hq hP hD hS => ?_)
        obtain ⟨hR, hF108, gr108⟩ := hq
        have hF := hF.tr hF108 (by decide)
        have hK_SW0 := sp_fr (sp_sw _) hF108 (by decide) hK_SW0
        have k113 : (u108.1 85 40).toInt = (u0.1 85 40).toInt := congrArg Int32.toInt (show u108.1 85 40 = (u0.1 85 40) from hF108 85 40 rfl)
        have k114 : (u108.1 85 39).toInt = (u0.1 85 39).toInt := congrArg Int32.toInt (show u108.1 85 39 = (u0.1 85 39) from hF108 85 39 rfl)
        have k115 : (u108.1 85 41).toInt = (u0.1 85 41).toInt := congrArg Int32.toInt (show u108.1 85 41 = (u0.1 85 41) from hF108 85 41 rfl)
        have k116 : (u108.1 85 43).toInt = (u0.1 85 43).toInt := congrArg Int32.toInt (show u108.1 85 43 = (u0.1 85 43) from hF108 85 43 rfl)
        exact a_retz F hr hlocks hP hD hS dX12_operand_37 (i_01 (by omega)) ⟨hR, hF, (by omega : (0 : Int) ≤ r108.toInt ∧ r108.toInt ≤ 1), (by omega : r108.toInt ≠ 0 → (u108.1 85 40).toInt = (u0.1 85 40).toInt + 1 ∧ (u108.1 85 39).toInt + (u108.1 85 41).toInt ≤ 2 * (u108.1 85 40).toInt - (u108.1 85 43).toInt ∧ (u108.1 85 41).toInt + 2 * (u108.1 85 43).toInt ≤ (u0.1 85 41).toInt + 2), (fun h9 => absurd (by omega : r108.toInt = 0) h9)⟩
set_option maxHeartbeats 600000 in
set_option maxRecDepth 100000 in
theorem c_X12_restore_85__2 (l : Launch) (dC : Nat → ClassId) (dI : Nat → Nat → Nat) (ad : Nat → Nat) (cA : Nat → ClassId) (nF : Nat) (u0 : ac_U) (p0 : Int32) (hR : ac_R rg u0) (hK_MS : msI u0) (hK_UI : unI u0) (hK_CW : cdI u0) (hK_AP : apI u0) (hK_AU : auI u0) (hK_KI : kpI u0) (hK_AK : akI u0) : ac_Mi l yX12_restore (.code yX12_restore cX12_restore 3 (some .boolean) :: TB) 2 (dC, dI) vwCl (ac_ty cA) ad cA (TT nF) [.ref (ad 85), .int p0] u0 (fun (r : Int32) (u : ac_U) => ac_R rg u ∧ ac_Fr [(85, some 0), (85, some 24), (87, none)] u0 u ∧ ((0 : Int) ≤ r.toInt ∧ r.toInt ≤ 1) ∧ msI u ∧ unI u ∧ cdI u ∧ apI u ∧ auI u) := by
  refine ac_Mi.of (cc := cX12_restore) (maxL := 3) (ret := (some .boolean)) (by decide) rfl (Nat.le_of_ble_eq_true rfl) ?_
  intro p e s m below meth c A ls F hml hr hlocks hA hP hD hS hl
  have F : ac_X p s m [.ref (ad 85), .int p0].toArray c cX12_restore RX12 TB (dC, dI) vwCl (ac_ty cA) := ⟨F.1, F.2.1, fun w h => F.2.2.1 w (List.mem_cons_of_mem _ h), F.2.2.2.1, F.2.2.2.2⟩
  have hl : lv_has ls 3 [(0, .ref (ad 85)), (1, .int p0)] := hl
  have hF : ac_Fr [(85, some 0), (85, some 24), (87, none)] u0 u0 := ac_Fr.rf
  have L60 : ∀ (n60 : Nat) (x2 : Int32) (u : ac_U) (H : Heap) (locs : List Loc) (ls : Array Slot), ac_R rg u → ac_Fr [(85, some 0), (85, some 24), (87, none)] u0 u → 26 - x2.toInt < (n60 : Int) → msI u → cdI u → apI u → (0 : Int) ≤ p0.toInt ∧ p0.toInt ≤ 1 → (0 : Int) ≤ x2.toInt ∧ x2.toInt ≤ 26 → (0 : Int) ≤ (u.1 85 0).toInt ∧ (u.1 85 0).toInt ≤ 0 → va_P (dC, dI) vwCl (ac_w ad cA (TT nF) u) H → va_D A (ac_w ad cA (TT nF) u) → va_S A s.heap H locs → lv_has ls 3 [(0, .ref (ad 85)), (1, .int p0), (2, .int x2)] → W p l e (ac_rm 2) s m [.ref (ad 85), .int p0].toArray below meth c H locs 0 0 (MQ below (va_Qi (fun (r : Int32) (u : ac_U) => ac_R rg u ∧ ac_Fr [(85, some 0), (85, some 24), (87, none)] u0 u ∧ ((0 : Int) ≤ r.toInt ∧ r.toInt ≤ 1) ∧ msI u ∧ unI u ∧ cdI u ∧ apI u ∧ auI u) (ac_B (dC, dI) vwCl (ac_ty cA) ad cA (TT nF) A) A) [.ref (ad 85), .int p0].toArray s 0 0 A) (F0 m 60 ls []) := by
    intro n60
    induction n60 with
    | zero => intro x2 u H locs ls hR hF hn60 hK_MS hK_CW hK_AP f0 f1 f2 hP hD hS hl; exfalso; omega
    | succ n60 ih60 =>
      intro x2 u H locs ls hR hF hn60 hK_MS hK_CW hK_AP f0 f1 f2 hP hD hS hl
      refine lv_iload_n F.1 F.2.1 dX12_restore_60 rfl (lv_at hl 2 rfl) ?_
      refine a_bp F (26 : Int32) dX12_restore_61 (by decide) ?_
      refine b_ge F 89 dX12_restore_63 (by decide) rfl ic_26 (fun c1 => ?_) (fun c1 => ?_)
      · refine lv_aload_n F.1 F.2.1 dX12_restore_89 rfl (lv_at hl 0 rfl) ?_
        refine a_ic F (0 : Int32) dX12_restore_90 (by decide) ?_
        refine a_puti F inX12 tyX12 tyX12_ok nmX12 hP hD hS 85 24 tc_85 rfl rfl (by decide) q1495 (fun _ h9 => h9) rfl (ty := .int) (tyX12_ok 24 (by decide)) rfl rfl dX12_restore_91 (fun H locs hP hD hS => ?_)
        have hR := hR.si (c := 85) (k := 24) (v := (0 : Int32)) (by rw [ic_0]; exact (by omega : (0 : Int) ≤ (0 : Int) ∧ (0 : Int) ≤ 8))
        have hF := hF.si (c := 85) (k := 24) (v := (0 : Int32)) rfl
        have hN_UI := un_0D hD (by decide)
        have hN_AU := au_0D hD (by decide)
        have hK_MS := sp_sgD sp_MS hD hK_MS (by decide)
        have hK_CW := sp_sgD sp_CW hD hK_CW (by decide)
        have hK_AP := sp_sgD sp_AP hD hK_AP (by decide)
        have hK_UI := hN_UI
        have hK_AU := hN_AU
        refine a_ic F (1 : Int32) dX12_restore_94 (by decide) ?_
        exact a_retz F hr hlocks hP hD hS dX12_restore_95 (Or.inr rfl) ⟨hR, hF, (by decide), hK_MS, hK_UI, hK_CW, hK_AP, hK_AU⟩
      · refine lv_aload_n F.1 F.2.1 dX12_restore_66 rfl (lv_at hl 0 rfl) ?_
        refine a_getr F inX12 hP 85 9 tc_85 rfl rfl (by decide) q1480 (fun _ h9 => h9) dX12_restore_67 ?_
        refine lv_iload_n F.1 F.2.1 dX12_restore_70 rfl (lv_at hl 2 rfl) ?_
        refine lv_aload_n F.1 F.2.1 dX12_restore_71 rfl (lv_at hl 0 rfl) ?_
        refine a_getr F inX12 hP 85 46 tc_85 rfl rfl (by decide) q1517 (fun _ h9 => h9) dX12_restore_72 ?_
        refine a_bp F (26 : Int32) dX12_restore_75 (by decide) ?_
        refine lv_iload_n F.1 F.2.1 dX12_restore_77 rfl (lv_at hl 1 rfl) ?_
        refine a_imul F dX12_restore_78 ic_26 rfl (by omega) (fun v2 hv2 => ?_)
        refine lv_iload_n F.1 F.2.1 dX12_restore_79 rfl (lv_at hl 2 rfl) ?_
        refine a_iadd F dX12_restore_80 rfl rfl (by omega) (fun v3 hv3 => ?_)
        refine a_lald F hP 103 tc_103 rfl (i_in rfl (by omega)) dX12_restore_81 (fun w4 ew4 => ?_)
        refine a_last F hP hD hS 90 tc_90 rfl (i_in rfl (by omega)) dX12_restore_82 (fun H locs hP hD hS => ?_)
        have hR := ac_slR hD hR
        have hF := ac_slF hD hF
        have hK_MS := sp_sl sp_MS hD hK_MS
        have hK_CW := sp_sl sp_CW hD hK_CW
        have hK_AP := sp_sl sp_AP hD hK_AP
        refine a_iinc F (k := 2) (fun v5 => [(2, .int v5), (0, .ref (ad 85)), (1, .int p0)]) dX12_restore_83 hl rfl rfl (by decide) (by omega) (by decide) (fun _ => rfl) (fun v5 ls hv5 hl => ?_)
        refine lv_goto (tgt := 60) F.1 F.2.1 dX12_restore_86 (by decide) ?_
        have g6 : (0 : Int) ≤ (u.1 85 0).toInt ∧ (u.1 85 0).toInt ≤ 1 := hR 85 0
        exact ih60 v5 _ _ _ _ hR hF (by omega) hK_MS hK_CW hK_AP (by omega) (by omega) (by omega : (0 : Int) ≤ (u.1 85 0).toInt ∧ (u.1 85 0).toInt ≤ 0) hP hD hS (lv_sub hl [1, 2, 0] rfl)
  have L27 : ∀ (n27 : Nat) (x2 : Int32) (u : ac_U) (H : Heap) (locs : List Loc) (ls : Array Slot), ac_R rg u → ac_Fr [(85, some 0), (85, some 24), (87, none)] u0 u → 657 - x2.toInt < (n27 : Int) → kgI p0.toInt u → rcI p0.toInt x2.toInt u → agI p0.toInt u → (0 : Int) ≤ p0.toInt ∧ p0.toInt ≤ 1 → (0 : Int) ≤ x2.toInt ∧ x2.toInt ≤ 657 → (0 : Int) ≤ (u.1 85 0).toInt ∧ (u.1 85 0).toInt ≤ 0 → va_P (dC, dI) vwCl (ac_w ad cA (TT nF) u) H → va_D A (ac_w ad cA (TT nF) u) → va_S A s.heap H locs → lv_has ls 3 [(0, .ref (ad 85)), (1, .int p0), (2, .int x2)] → W p l e (ac_rm 2) s m [.ref (ad 85), .int p0].toArray below meth c H locs 0 0 (MQ below (va_Qi (fun (r : Int32) (u : ac_U) => ac_R rg u ∧ ac_Fr [(85, some 0), (85, some 24), (87, none)] u0 u ∧ ((0 : Int) ≤ r.toInt ∧ r.toInt ≤ 1) ∧ msI u ∧ unI u ∧ cdI u ∧ apI u ∧ auI u) (ac_B (dC, dI) vwCl (ac_ty cA) ad cA (TT nF) A) A) [.ref (ad 85), .int p0].toArray s 0 0 A) (F0 m 27 ls []) := by
    intro n27
    induction n27 with
    | zero => intro x2 u H locs ls hR hF hn27 hK_KG hK_RCx hK_AG f0 f1 f2 hP hD hS hl; exfalso; omega
    | succ n27 ih27 =>
      intro x2 u H locs ls hR hF hn27 hK_KG hK_RCx hK_AG f0 f1 f2 hP hD hS hl
      refine lv_iload_n F.1 F.2.1 dX12_restore_27 rfl (lv_at hl 2 rfl) ?_
      refine a_sp F (657 : Int32) dX12_restore_28 (by decide) ?_
      refine b_ge F 58 dX12_restore_31 (by decide) rfl ic_657 (fun c7 => ?_) (fun c7 => ?_)
      · refine a_ic F (0 : Int32) dX12_restore_58 (by decide) ?_
        refine lv_istore_n (lv' := [(2, .int (0 : Int32)), (0, .ref (ad 85)), (1, .int p0)]) F.1 F.2.1 dX12_restore_59 rfl hl (by decide) rfl (fun ls hl => ?_)
        have g8 : (0 : Int) ≤ (u.1 85 0).toInt ∧ (u.1 85 0).toInt ≤ 1 := hR 85 0
        exact L60 28 (0 : Int32) _ _ _ _ hR hF (by decide) (rc_ms hK_KG hK_RCx (by omega) (by omega)) (rc_cw hK_KG hK_RCx (by omega) (by omega)) (rc_ap hK_AG hK_RCx (by omega) (by omega)) (by omega) (by decide) (by omega : (0 : Int) ≤ (u.1 85 0).toInt ∧ (u.1 85 0).toInt ≤ 0) hP hD hS (lv_sub hl [1, 2, 0] rfl)
      · refine lv_aload_n F.1 F.2.1 dX12_restore_34 rfl (lv_at hl 0 rfl) ?_
        refine a_getr F inX12 hP 85 6 tc_85 rfl rfl (by decide) q1477 (fun _ h9 => h9) dX12_restore_35 ?_
        refine lv_iload_n F.1 F.2.1 dX12_restore_38 rfl (lv_at hl 2 rfl) ?_
        refine lv_aload_n F.1 F.2.1 dX12_restore_39 rfl (lv_at hl 0 rfl) ?_
        refine a_getr F inX12 hP 85 45 tc_85 rfl rfl (by decide) q1516 (fun _ h9 => h9) dX12_restore_40 ?_
        refine a_sp F (657 : Int32) dX12_restore_43 (by decide) ?_
        refine lv_iload_n F.1 F.2.1 dX12_restore_46 rfl (lv_at hl 1 rfl) ?_
        refine a_imul F dX12_restore_47 ic_657 rfl (by omega) (fun v9 hv9 => ?_)
        refine lv_iload_n F.1 F.2.1 dX12_restore_48 rfl (lv_at hl 2 rfl) ?_
        refine a_iadd F dX12_restore_49 rfl rfl (by omega) (fun v10 hv10 => ?_)
        refine a_iald F hP 102 tc_102 rfl (i_in rfl (by omega)) dX12_restore_50 (fun v11 ev11 => ?_)
        refine a_iast F hP hD hS 87 tc_87 rfl (i_in rfl (by omega)) dX12_restore_51 (fun H locs hP hD hS => ?_)
        have hR := hR.si (c := 87) (k := x2.toNatClampNeg) (v := v11) (rc_rg hR hK_KG (by omega) (k := v10) (by omega) (by omega) ev11)
        have hF := hF.si (c := 87) (k := x2.toNatClampNeg) (v := v11) rfl
        have hO_KG := hK_KG
        have hO_RCx := hK_RCx
        have hO_AG := hK_AG
        have hK_KG := sp_sgD (sp_KG _) hD hK_KG (by decide)
        have hK_RCx := rc_w hO_RCx (by omega) (i := x2) (k := v10) (by omega) (by omega) ev11
        have hK_AG := sp_sgD (sp_AG _) hD hK_AG (by decide)
        refine a_iinc F (k := 2) (fun v12 => [(2, .int v12), (0, .ref (ad 85)), (1, .int p0)]) dX12_restore_52 hl rfl rfl (by decide) (by omega) (by decide) (fun _ => rfl) (fun v12 ls hv12 hl => ?_)
        refine lv_goto (tgt := 27) F.1 F.2.1 dX12_restore_55 (by decide) ?_
        have g13 : (0 : Int) ≤ (u.1 85 0).toInt ∧ (u.1 85 0).toInt ≤ 1 := hR 85 0
        exact ih27 v12 _ _ _ _ hR hF (by omega) hK_KG (rc_eq hK_RCx (by omega)) hK_AG (by omega) (by omega) (by omega : (0 : Int) ≤ (u.1 85 0).toInt ∧ (u.1 85 0).toInt ≤ 0) hP hD hS (lv_sub hl [1, 2, 0] rfl)
  have L23 : ∀ (u : ac_U) (H : Heap) (locs : List Loc) (ls : Array Slot), ac_R rg u → ac_Fr [(85, some 0), (85, some 24), (87, none)] u0 u → msI u → unI u → cdI u → apI u → auI u → (0 : Int) ≤ (u.1 85 0).toInt ∧ (u.1 85 0).toInt ≤ 0 → va_P (dC, dI) vwCl (ac_w ad cA (TT nF) u) H → va_D A (ac_w ad cA (TT nF) u) → va_S A s.heap H locs → lv_has ls 3 [] → W p l e (ac_rm 2) s m [.ref (ad 85), .int p0].toArray below meth c H locs 0 0 (MQ below (va_Qi (fun (r : Int32) (u : ac_U) => ac_R rg u ∧ ac_Fr [(85, some 0), (85, some 24), (87, none)] u0 u ∧ ((0 : Int) ≤ r.toInt ∧ r.toInt ≤ 1) ∧ msI u ∧ unI u ∧ cdI u ∧ apI u ∧ auI u) (ac_B (dC, dI) vwCl (ac_ty cA) ad cA (TT nF) A) A) [.ref (ad 85), .int p0].toArray s 0 0 A) (F0 m 23 ls []) := by
    intro u H locs ls hR hF hK_MS hK_UI hK_CW hK_AP hK_AU f0 hP hD hS hl
    refine a_ic F (0 : Int32) dX12_restore_23 (by decide) ?_
    exact a_retz F hr hlocks hP hD hS dX12_restore_24 (Or.inl rfl) ⟨hR, hF, (by decide), hK_MS, hK_UI, hK_CW, hK_AP, hK_AU⟩
  refine lv_aload_n F.1 F.2.1 dX12_restore_0 rfl (lv_at hl 0 rfl) ?_
  refine a_ic F (0 : Int32) dX12_restore_1 (by decide) ?_
  refine a_puti F inX12 tyX12 tyX12_ok nmX12 hP hD hS 85 0 tc_85 rfl rfl (by decide) q1471 (fun _ h9 => h9) rfl (ty := .int) (tyX12_ok 0 (by decide)) rfl rfl dX12_restore_2 (fun H locs hP hD hS => ?_)
  have hR := hR.si (c := 85) (k := 0) (v := (0 : Int32)) (by rw [ic_0]; exact (by omega : (0 : Int) ≤ (0 : Int) ∧ (0 : Int) ≤ 1))
  have hF := hF.si (c := 85) (k := 0) (v := (0 : Int32)) rfl
  have hK_MS := sp_sgD sp_MS hD hK_MS (by decide)
  have hK_UI := sp_si sp_UI hK_UI (c := 85) (k := 0) (v := (0 : Int32)) (fun j9 h9 q9 => by rw [q9] at h9; exact absurd h9 (by decide))
  have hK_CW := sp_sgD sp_CW hD hK_CW (by decide)
  have hK_AP := sp_sgD sp_AP hD hK_AP (by decide)
  have hK_AU := sp_si sp_AU hK_AU (c := 85) (k := 0) (v := (0 : Int32)) (fun j9 h9 q9 => by rw [q9] at h9; exact absurd h9 (by decide))
  have hK_KI := sp_sgD sp_KI hD hK_KI (by decide)
  have hK_AK := sp_sgD sp_AK hD hK_AK (by decide)
  refine lv_iload_n F.1 F.2.1 dX12_restore_5 rfl (lv_at hl 1 rfl) ?_
  refine a_ic F (0 : Int32) dX12_restore_6 (by decide) ?_
  refine a_ic F (1 : Int32) dX12_restore_7 (by decide) ?_
  refine a_Si F hml hl.1 hA hP hD hS (As := [.int p0, .int (0 : Int32), .int (1 : Int32)]) (c_X12_isIn l dC dI ad cA nF _ p0 (0 : Int32) (1 : Int32) hR (by decide)) (cs_RX12_187 (d := 1) F.2.2.1 (by decide)) rfl rfl (Nat.le_of_ble_eq_true rfl) dX12_restore_8 ⟨Nat.le_refl 0, Nat.le_refl 0⟩ (fun r14 uN14 H locs hq hP hD hS => ?_)
  obtain ⟨hu14, gr14, xr14⟩ := hq
  rw [hu14] at hP hD
  have xr14 : r14.toInt ≠ 0 → (0 : Int) ≤ p0.toInt ∧ p0.toInt ≤ (1 : Int) := xr14
  refine z_eq F 23 dX12_restore_11 (by decide) rfl (fun c15 => ?_) (fun c15 => ?_)
  · exact L23 _ _ _ _ hR hF hK_MS hK_UI hK_CW hK_AP hK_AU (by omega : (0 : Int) ≤ (0 : Int) ∧ (0 : Int) ≤ 0) hP hD hS (lv_sub hl [] rfl)
  · refine lv_aload_n F.1 F.2.1 dX12_restore_14 rfl (lv_at hl 0 rfl) ?_
    refine a_getr F inX12 hP 85 47 tc_85 rfl rfl (by decide) q1518 (fun _ h9 => h9) dX12_restore_15 ?_
    refine lv_iload_n F.1 F.2.1 dX12_restore_18 rfl (lv_at hl 1 rfl) ?_
    refine a_zald F hP 104 tc_104 rfl (i_in rfl (by omega)) dX12_restore_19 (fun v16 ev16 => ?_)
    have hv16 : (0 : Int) ≤ v16.toInt ∧ v16.toInt ≤ 1 := ev16 ▸ hR 104 _
    refine z_ne F 25 dX12_restore_20 (by decide) rfl (fun c17 => ?_) (fun c17 => ?_)
    · refine a_ic F (0 : Int32) dX12_restore_25 (by decide) ?_
      refine lv_istore_n (lv' := [(2, .int (0 : Int32)), (0, .ref (ad 85)), (1, .int p0)]) F.1 F.2.1 dX12_restore_26 rfl hl (by decide) rfl (fun ls hl => ?_)
      exact L27 659 (0 : Int32) _ _ _ _ hR hF (by decide) (kp_get hK_KI (i := p0) (by omega) ev16 (by omega)) (rc_0 (by decide)) (ak_get hK_AK (i := p0) (by omega) ev16 (by omega)) (by omega) (by decide) (by omega : (0 : Int) ≤ (0 : Int) ∧ (0 : Int) ≤ 0) hP hD hS (lv_sub hl [1, 2, 0] rfl)
    · exact L23 _ _ _ _ hR hF hK_MS hK_UI hK_CW hK_AP hK_AU (by omega : (0 : Int) ≤ (0 : Int) ∧ (0 : Int) ≤ 0) hP hD hS (lv_sub hl [] rfl)
set_option maxHeartbeats 600000 in
set_option maxRecDepth 100000 in
theorem c_X12_said_85 (l : Launch) (dC : Nat → ClassId) (dI : Nat → Nat → Nat) (ad : Nat → Nat) (cA : Nat → ClassId) (nF : Nat) (u0 : ac_U) (p0 : Int32) (hR : ac_R rg u0) (hK_CW : cdI u0) : ac_Mi l yX12_said (.code yX12_said cX12_said 4 (some .int) :: TB) 9 (dC, dI) vwCl (ac_ty cA) ad cA (TT nF) [.ref (ad 85), .int p0] u0 (fun (r : Int32) (u : ac_U) => ac_R rg u ∧ ac_Fr [(85, some 0), (101, none)] u0 u) := by
  refine ac_Mi.of (cc := cX12_said) (maxL := 4) (ret := (some .int)) (by decide) rfl (Nat.le_of_ble_eq_true rfl) ?_
  intro p e s m below meth c A ls F hml hr hlocks hA hP hD hS hl
  have F : ac_X p s m [.ref (ad 85), .int p0].toArray c cX12_said RX12 TB (dC, dI) vwCl (ac_ty cA) := ⟨F.1, F.2.1, fun w h => F.2.2.1 w (List.mem_cons_of_mem _ h), F.2.2.2.1, F.2.2.2.2⟩
  have hl : lv_has ls 4 [(0, .ref (ad 85)), (1, .int p0)] := hl
  have hF : ac_Fr [(85, some 0), (101, none)] u0 u0 := ac_Fr.rf
  have L27 : ∀ (n27 : Nat) (x2 : Int32) (x3 : Int32) (u : ac_U) (H : Heap) (locs : List Loc) (ls : Array Slot), ac_R rg u → ac_Fr [(85, some 0), (101, none)] u0 u → 8 - x3.toInt < (n27 : Int) → cdI u → (-1 : Int) ≤ p0.toInt → (0 : Int) ≤ x3.toInt ∧ x3.toInt ≤ 8 → (0 : Int) ≤ (u.1 85 0).toInt ∧ (u.1 85 0).toInt ≤ 0 → (1 : Int) ≤ (u.1 87 476).toInt ∧ (u.1 87 476).toInt ≤ 45 → va_P (dC, dI) vwCl (ac_w ad cA (TT nF) u) H → va_D A (ac_w ad cA (TT nF) u) → va_S A s.heap H locs → lv_has ls 4 [(0, .ref (ad 85)), (1, .int p0), (2, .int x2), (3, .int x3)] → W p l e (ac_rm 9) s m [.ref (ad 85), .int p0].toArray below meth c H locs 0 0 (MQ below (va_Qi (fun (r : Int32) (u : ac_U) => ac_R rg u ∧ ac_Fr [(85, some 0), (101, none)] u0 u) (ac_B (dC, dI) vwCl (ac_ty cA) ad cA (TT nF) A) A) [.ref (ad 85), .int p0].toArray s 0 0 A) (F0 m 27 ls []) := by
    intro n27
    induction n27 with
    | zero => intro x2 x3 u H locs ls hR hF hn27 hK_CW f0 f1 f2 f3 hP hD hS hl; exfalso; omega
    | succ n27 ih27 =>
      intro x2 x3 u H locs ls hR hF hn27 hK_CW f0 f1 f2 f3 hP hD hS hl
      have L59 : ∀ (x2 : Int32) (x3 : Int32) (u : ac_U) (H : Heap) (locs : List Loc) (ls : Array Slot), ac_R rg u → ac_Fr [(85, some 0), (101, none)] u0 u → cdI u → (-1 : Int) ≤ p0.toInt → (0 : Int) ≤ x3.toInt ∧ x3.toInt ≤ 7 → (0 : Int) ≤ (u.1 85 0).toInt ∧ (u.1 85 0).toInt ≤ 0 → (1 : Int) ≤ (u.1 87 6).toInt ∧ (u.1 87 6).toInt ≤ 8 → (1 : Int) ≤ (u.1 87 476).toInt ∧ (u.1 87 476).toInt ≤ 45 → 8 - x3.toInt + 0 < ((n27 : Nat) : Int) + 1 → va_P (dC, dI) vwCl (ac_w ad cA (TT nF) u) H → va_D A (ac_w ad cA (TT nF) u) → va_S A s.heap H locs → lv_has ls 4 [(0, .ref (ad 85)), (1, .int p0), (2, .int x2), (3, .int x3)] → W p l e (ac_rm 9) s m [.ref (ad 85), .int p0].toArray below meth c H locs 0 0 (MQ below (va_Qi (fun (r : Int32) (u : ac_U) => ac_R rg u ∧ ac_Fr [(85, some 0), (101, none)] u0 u) (ac_B (dC, dI) vwCl (ac_ty cA) ad cA (TT nF) A) A) [.ref (ad 85), .int p0].toArray s 0 0 A) (F0 m 59 ls []) := by
        intro x2 x3 u H locs ls hR hF hK_CW f0 f1 f2 f3 f4 f5 hP hD hS hl
        refine a_iinc F (k := 3) (fun v1 => [(3, .int v1), (0, .ref (ad 85)), (1, .int p0), (2, .int x2)]) dX12_said_59 hl rfl rfl (by decide) (by omega) (by decide) (fun _ => rfl) (fun v1 ls hv1 hl => ?_)
        refine lv_goto (tgt := 27) F.1 F.2.1 dX12_said_62 (by decide) ?_
        have g2 : (0 : Int) ≤ (u.1 85 0).toInt ∧ (u.1 85 0).toInt ≤ 1 := hR 85 0
        have g3 : (0 : Int) ≤ (u.1 87 476).toInt ∧ (u.1 87 476).toInt ≤ 45 := hR 87 476
        exact ih27 x2 v1 _ _ _ _ hR hF (by omega) hK_CW (by omega) (by omega) (by omega : (0 : Int) ≤ (u.1 85 0).toInt ∧ (u.1 85 0).toInt ≤ 0) (by omega : (1 : Int) ≤ (u.1 87 476).toInt ∧ (u.1 87 476).toInt ≤ 45) hP hD hS (lv_sub hl [1, 2, 3, 0] rfl)
      refine lv_iload_n F.1 F.2.1 dX12_said_27 rfl (lv_at hl 3 rfl) ?_
      refine lv_aload_n F.1 F.2.1 dX12_said_28 rfl (lv_at hl 0 rfl) ?_
      refine a_getr F inX12 hP 85 6 tc_85 rfl rfl (by decide) q1477 (fun _ h9 => h9) dX12_said_29 ?_
      refine a_bp F (6 : Int32) dX12_said_32 (by decide) ?_
      have g4 : (0 : Int) ≤ (u.1 87 6).toInt ∧ (u.1 87 6).toInt ≤ 8 := hR 87 6
      refine a_ialdK F hP 87 6 tc_87 rfl rfl (i_in ic_6 (by omega)) (v := (u.1 87 6)) rfl dX12_said_34 ?_
      refine b_ge F 65 dX12_said_35 (by decide) rfl rfl (fun c5 => ?_) (fun c5 => ?_)
      · refine lv_iload_n F.1 F.2.1 dX12_said_65 rfl (lv_at hl 1 rfl) ?_
        refine a_ic F (-1 : Int32) dX12_said_66 (by decide) ?_
        refine b_ne F 74 dX12_said_67 (by decide) rfl ic_m1 (fun c6 => ?_) (fun c6 => ?_)
        · refine a_ic F (-1 : Int32) dX12_said_74 (by decide) ?_
          exact a_reti F hr hlocks hP hD hS dX12_said_75 ⟨hR, hF⟩
        · refine lv_iload_n F.1 F.2.1 dX12_said_70 rfl (lv_at hl 2 rfl) ?_
          refine lv_goto (tgt := 75) F.1 F.2.1 dX12_said_71 (by decide) ?_
          exact a_reti F hr hlocks hP hD hS dX12_said_75 ⟨hR, hF⟩
      · refine lv_aload_n F.1 F.2.1 dX12_said_38 rfl (lv_at hl 0 rfl) ?_
        refine lv_iload_n F.1 F.2.1 dX12_said_39 rfl (lv_at hl 3 rfl) ?_
        refine a_Vi F hml hl.1 hA hP hD hS (As := [.int x3]) (c_X12_isSaid_85 l dC dI ad cA nF _ x3 hR (by omega) hK_CW) (cs_RX12_451 (d := 8) F.2.2.1 (by decide)) tc_85 rfl rfl rfl rfl (Nat.le_of_ble_eq_true rfl) dX12_said_40 ⟨Nat.le_refl 0, Nat.le_refl 0⟩ (fun r7 u7 H locs hq hP hD hS => ?_)
        obtain ⟨hR, hF7, gr7⟩ := hq
        have hF := hF.tr hF7 (by decide)
        have hK_CW := sp_fr sp_CW hF7 (by decide) hK_CW
        refine z_ne F 49 dX12_said_43 (by decide) rfl (fun c8 => ?_) (fun c8 => ?_)
        · refine lv_iload_n F.1 F.2.1 dX12_said_49 rfl (lv_at hl 2 rfl) ?_
          refine lv_iload_n F.1 F.2.1 dX12_said_50 rfl (lv_at hl 1 rfl) ?_
          refine b_ne F 56 dX12_said_51 (by decide) rfl rfl (fun c9 => ?_) (fun c9 => ?_)
          · refine a_iincU F (k := 2) (fun v10 => [(2, .int v10), (0, .ref (ad 85)), (1, .int p0), (3, .int x3)]) dX12_said_56 hl rfl (by decide) (fun _ => rfl) (fun v10 ls hl => ?_)
            exact L59 v10 x3 _ _ _ _ hR hF hK_CW (by omega) (by omega) (i_trB (hF7 85 0 rfl) (by omega : (0 : Int) ≤ (u.1 85 0).toInt ∧ (u.1 85 0).toInt ≤ 0)) (i_trB (hF7 87 6 rfl) (by omega : (1 : Int) ≤ (u.1 87 6).toInt ∧ (u.1 87 6).toInt ≤ 8)) (i_trB (hF7 87 476 rfl) (by omega : (1 : Int) ≤ (u.1 87 476).toInt ∧ (u.1 87 476).toInt ≤ 45)) (by omega) hP hD hS (lv_sub hl [1, 2, 0, 3] rfl)
          · refine lv_iload_n F.1 F.2.1 dX12_said_54 rfl (lv_at hl 3 rfl) ?_
            exact a_reti F hr hlocks hP hD hS dX12_said_55 ⟨hR, hF⟩
        · refine lv_goto (tgt := 59) F.1 F.2.1 dX12_said_46 (by decide) ?_
          exact L59 x2 x3 _ _ _ _ hR hF hK_CW (by omega) (by omega) (i_trB (hF7 85 0 rfl) (by omega : (0 : Int) ≤ (u.1 85 0).toInt ∧ (u.1 85 0).toInt ≤ 0)) (i_trB (hF7 87 6 rfl) (by omega : (1 : Int) ≤ (u.1 87 6).toInt ∧ (u.1 87 6).toInt ≤ 8)) (i_trB (hF7 87 476 rfl) (by omega : (1 : Int) ≤ (u.1 87 476).toInt ∧ (u.1 87 476).toInt ≤ 45)) (by omega) hP hD hS (lv_sub hl [0, 1, 2, 3] rfl)
  have L21 : ∀ (u : ac_U) (H : Heap) (locs : List Loc) (ls : Array Slot), ac_R rg u → ac_Fr [(85, some 0), (101, none)] u0 u → cdI u → (0 : Int) ≤ (u.1 85 0).toInt ∧ (u.1 85 0).toInt ≤ 0 → (0 : Int) ≤ (u.1 87 476).toInt ∧ (u.1 87 476).toInt ≤ 45 → va_P (dC, dI) vwCl (ac_w ad cA (TT nF) u) H → va_D A (ac_w ad cA (TT nF) u) → va_S A s.heap H locs → lv_has ls 4 [] → W p l e (ac_rm 9) s m [.ref (ad 85), .int p0].toArray below meth c H locs 0 0 (MQ below (va_Qi (fun (r : Int32) (u : ac_U) => ac_R rg u ∧ ac_Fr [(85, some 0), (101, none)] u0 u) (ac_B (dC, dI) vwCl (ac_ty cA) ad cA (TT nF) A) A) [.ref (ad 85), .int p0].toArray s 0 0 A) (F0 m 21 ls []) := by
    intro u H locs ls hR hF hK_CW f0 f1 hP hD hS hl
    refine a_ic F (-1 : Int32) dX12_said_21 (by decide) ?_
    exact a_reti F hr hlocks hP hD hS dX12_said_22 ⟨hR, hF⟩
  refine lv_aload_n F.1 F.2.1 dX12_said_0 rfl (lv_at hl 0 rfl) ?_
  refine a_ic F (0 : Int32) dX12_said_1 (by decide) ?_
  refine a_puti F inX12 tyX12 tyX12_ok nmX12 hP hD hS 85 0 tc_85 rfl rfl (by decide) q1471 (fun _ h9 => h9) rfl (ty := .int) (tyX12_ok 0 (by decide)) rfl rfl dX12_said_2 (fun H locs hP hD hS => ?_)
  have hR := hR.si (c := 85) (k := 0) (v := (0 : Int32)) (by rw [ic_0]; exact (by omega : (0 : Int) ≤ (0 : Int) ∧ (0 : Int) ≤ 1))
  have hF := hF.si (c := 85) (k := 0) (v := (0 : Int32)) rfl
  have hK_CW := sp_sgD sp_CW hD hK_CW (by decide)
  refine lv_aload_n F.1 F.2.1 dX12_said_5 rfl (lv_at hl 0 rfl) ?_
  refine a_getr F inX12 hP 85 6 tc_85 rfl rfl (by decide) q1477 (fun _ h9 => h9) dX12_said_6 ?_
  refine a_sp F (476 : Int32) dX12_said_9 (by decide) ?_
  have g11 : (0 : Int) ≤ (u0.1 87 476).toInt ∧ (u0.1 87 476).toInt ≤ 45 := hR 87 476
  refine a_ialdK F hP 87 476 tc_87 rfl rfl (i_in ic_476 (by omega)) (v := (u0.1 87 476)) rfl dX12_said_12 ?_
  refine z_eq F 21 dX12_said_13 (by decide) rfl (fun c12 => ?_) (fun c12 => ?_)
  · exact L21 _ _ _ _ hR hF hK_CW (by omega : (0 : Int) ≤ (0 : Int) ∧ (0 : Int) ≤ 0) (by omega : (0 : Int) ≤ (u0.1 87 476).toInt ∧ (u0.1 87 476).toInt ≤ 45) hP hD hS (lv_sub hl [] rfl)
  · refine lv_iload_n F.1 F.2.1 dX12_said_16 rfl (lv_at hl 1 rfl) ?_
    refine a_ic F (-1 : Int32) dX12_said_17 (by decide) ?_
    refine b_ge F 23 dX12_said_18 (by decide) rfl ic_m1 (fun c13 => ?_) (fun c13 => ?_)
    · refine a_ic F (0 : Int32) dX12_said_23 (by decide) ?_
      refine lv_istore_n (lv' := [(2, .int (0 : Int32)), (0, .ref (ad 85)), (1, .int p0)]) F.1 F.2.1 dX12_said_24 rfl hl (by decide) rfl (fun ls hl => ?_)
      refine a_ic F (0 : Int32) dX12_said_25 (by decide) ?_
      refine lv_istore_n (lv' := [(3, .int (0 : Int32)), (2, .int (0 : Int32)), (0, .ref (ad 85)), (1, .int p0)]) F.1 F.2.1 dX12_said_26 rfl hl (by decide) rfl (fun ls hl => ?_)
      exact L27 10 (0 : Int32) (0 : Int32) _ _ _ _ hR hF (by decide) hK_CW (by omega) (by decide) (by omega : (0 : Int) ≤ (0 : Int) ∧ (0 : Int) ≤ 0) (by omega : (1 : Int) ≤ (u0.1 87 476).toInt ∧ (u0.1 87 476).toInt ≤ 45) hP hD hS (lv_sub hl [2, 3, 1, 0] rfl)
    · exact L21 _ _ _ _ hR hF hK_CW (by omega : (0 : Int) ≤ (0 : Int) ∧ (0 : Int) ≤ 0) (by omega : (0 : Int) ≤ (u0.1 87 476).toInt ∧ (u0.1 87 476).toInt ≤ 45) hP hD hS (lv_sub hl [] rfl)
set_option maxHeartbeats 600000 in
set_option maxRecDepth 100000 in
theorem c_X12_say_85__3 (l : Launch) (dC : Nat → ClassId) (dI : Nat → Nat → Nat) (ad : Nat → Nat) (cA : Nat → ClassId) (nF : Nat) (u0 : ac_U) (p0 : Int32) (p1 : Int32) (hR : ac_R rg u0) (hK_MS : msI u0) (hK_UI : unI u0) (hK_CW : cdI u0) (hK_AP : apI u0) (hK_AU : auI u0) : ac_Mi l yX12_say (.code yX12_say cX12_say 4 (some .int) :: TB) 3 (dC, dI) vwCl (ac_ty cA) ad cA (TT nF) [.ref (ad 85), .int p0, .int p1] u0 (fun (r : Int32) (u : ac_U) => ac_R rg u ∧ ac_Fr [(85, some 0), (85, some 24), (87, none), (93, none)] u0 u ∧ ((-1 : Int) ≤ r.toInt ∧ r.toInt ≤ 6) ∧ msI u ∧ unI u ∧ cdI u ∧ apI u ∧ auI u) := by
  refine ac_Mi.of (cc := cX12_say) (maxL := 4) (ret := (some .int)) (by decide) rfl (Nat.le_of_ble_eq_true rfl) ?_
  intro p e s m below meth c A ls F hml hr hlocks hA hP hD hS hl
  have F : ac_X p s m [.ref (ad 85), .int p0, .int p1].toArray c cX12_say RX12 TB (dC, dI) vwCl (ac_ty cA) := ⟨F.1, F.2.1, fun w h => F.2.2.1 w (List.mem_cons_of_mem _ h), F.2.2.2.1, F.2.2.2.2⟩
  have hl : lv_has ls 4 [(0, .ref (ad 85)), (1, .int p0), (2, .int p1)] := hl
  have hF : ac_Fr [(85, some 0), (85, some 24), (87, none), (93, none)] u0 u0 := ac_Fr.rf
  have L21 : ∀ (u : ac_U) (H : Heap) (locs : List Loc) (ls : Array Slot), ac_R rg u → ac_Fr [(85, some 0), (85, some 24), (87, none), (93, none)] u0 u → msI u → unI u → cdI u → apI u → auI u → (0 : Int) ≤ (u.1 85 0).toInt ∧ (u.1 85 0).toInt ≤ 0 → va_P (dC, dI) vwCl (ac_w ad cA (TT nF) u) H → va_D A (ac_w ad cA (TT nF) u) → va_S A s.heap H locs → lv_has ls 4 [] → W p l e (ac_rm 3) s m [.ref (ad 85), .int p0, .int p1].toArray below meth c H locs 0 0 (MQ below (va_Qi (fun (r : Int32) (u : ac_U) => ac_R rg u ∧ ac_Fr [(85, some 0), (85, some 24), (87, none), (93, none)] u0 u ∧ ((-1 : Int) ≤ r.toInt ∧ r.toInt ≤ 6) ∧ msI u ∧ unI u ∧ cdI u ∧ apI u ∧ auI u) (ac_B (dC, dI) vwCl (ac_ty cA) ad cA (TT nF) A) A) [.ref (ad 85), .int p0, .int p1].toArray s 0 0 A) (F0 m 21 ls []) := by
    intro u H locs ls hR hF hK_MS hK_UI hK_CW hK_AP hK_AU f0 hP hD hS hl
    refine a_ic F (-1 : Int32) dX12_say_21 (by decide) ?_
    exact a_reti F hr hlocks hP hD hS dX12_say_22 ⟨hR, hF, (by decide), hK_MS, hK_UI, hK_CW, hK_AP, hK_AU⟩
  refine lv_aload_n F.1 F.2.1 dX12_say_0 rfl (lv_at hl 0 rfl) ?_
  refine a_ic F (0 : Int32) dX12_say_1 (by decide) ?_
  refine a_puti F inX12 tyX12 tyX12_ok nmX12 hP hD hS 85 0 tc_85 rfl rfl (by decide) q1471 (fun _ h9 => h9) rfl (ty := .int) (tyX12_ok 0 (by decide)) rfl rfl dX12_say_2 (fun H locs hP hD hS => ?_)
  have hR := hR.si (c := 85) (k := 0) (v := (0 : Int32)) (by rw [ic_0]; exact (by omega : (0 : Int) ≤ (0 : Int) ∧ (0 : Int) ≤ 1))
  have hF := hF.si (c := 85) (k := 0) (v := (0 : Int32)) rfl
  have hK_MS := sp_sgD sp_MS hD hK_MS (by decide)
  have hK_UI := sp_si sp_UI hK_UI (c := 85) (k := 0) (v := (0 : Int32)) (fun j9 h9 q9 => by rw [q9] at h9; exact absurd h9 (by decide))
  have hK_CW := sp_sgD sp_CW hD hK_CW (by decide)
  have hK_AP := sp_sgD sp_AP hD hK_AP (by decide)
  have hK_AU := sp_si sp_AU hK_AU (c := 85) (k := 0) (v := (0 : Int32)) (fun j9 h9 q9 => by rw [q9] at h9; exact absurd h9 (by decide))
  refine lv_aload_n F.1 F.2.1 dX12_say_5 rfl (lv_at hl 0 rfl) ?_
  refine lv_iload_n F.1 F.2.1 dX12_say_6 rfl (lv_at hl 1 rfl) ?_
  refine a_Vi F hml hl.1 hA hP hD hS (As := [.int p0]) (c_X12_isPerson_85 l dC dI ad cA nF _ p0 hR) (cs_RX12_251 (d := 2) F.2.2.1 (by decide)) tc_85 rfl rfl rfl rfl (Nat.le_of_ble_eq_true rfl) dX12_say_7 ⟨Nat.le_refl 0, Nat.le_refl 0⟩ (fun r1 uN1 H locs hq hP hD hS => ?_)
  obtain ⟨hu1, gr1, xr1⟩ := hq
  rw [hu1] at hP hD
  have xr1 : r1.toInt ≠ 0 → 0 ≤ p0.toInt ∧ p0.toInt ≤ 3 := xr1
  refine z_eq F 21 dX12_say_10 (by decide) rfl (fun c2 => ?_) (fun c2 => ?_)
  · exact L21 _ _ _ _ hR hF hK_MS hK_UI hK_CW hK_AP hK_AU (by omega : (0 : Int) ≤ (0 : Int) ∧ (0 : Int) ≤ 0) hP hD hS (lv_sub hl [] rfl)
  · refine lv_aload_n F.1 F.2.1 dX12_say_13 rfl (lv_at hl 0 rfl) ?_
    refine lv_iload_n F.1 F.2.1 dX12_say_14 rfl (lv_at hl 2 rfl) ?_
    refine a_Vi F hml hl.1 hA hP hD hS (As := [.int p1]) (c_X12_isPromise_85 l dC dI ad cA nF _ p1 hR) (cs_RX12_244 (d := 2) F.2.2.1 (by decide)) tc_85 rfl rfl rfl rfl (Nat.le_of_ble_eq_true rfl) dX12_say_15 ⟨Nat.le_refl 0, Nat.le_refl 0⟩ (fun r3 uN3 H locs hq hP hD hS => ?_)
    obtain ⟨hu3, gr3, xr3⟩ := hq
    rw [hu3] at hP hD
    have xr3 : r3.toInt ≠ 0 → 0 ≤ p1.toInt ∧ p1.toInt ≤ 7 := xr3
    refine z_ne F 23 dX12_say_18 (by decide) rfl (fun c4 => ?_) (fun c4 => ?_)
    · refine lv_aload_n F.1 F.2.1 dX12_say_23 rfl (lv_at hl 0 rfl) ?_
      refine lv_iload_n F.1 F.2.1 dX12_say_24 rfl (lv_at hl 1 rfl) ?_
      refine lv_iload_n F.1 F.2.1 dX12_say_25 rfl (lv_at hl 2 rfl) ?_
      refine a_Vi F hml hl.1 hA hP hD hS (As := [.int p0, .int p1]) (c_X12_whySay_85 l dC dI ad cA nF _ p0 p1 hR (by omega) (by omega)) (cs_RX12_286 (d := 2) F.2.2.1 (by decide)) tc_85 rfl rfl rfl rfl (Nat.le_of_ble_eq_true rfl) dX12_say_26 ⟨Nat.le_refl 0, Nat.le_refl 0⟩ (fun r5 uN5 H locs hq hP hD hS => ?_)
      obtain ⟨hu5, gr5⟩ := hq
      rw [hu5] at hP hD
      refine lv_istore_n (lv' := [(3, .int r5), (0, .ref (ad 85)), (1, .int p0), (2, .int p1)]) F.1 F.2.1 dX12_say_29 rfl hl (by decide) rfl (fun ls hl => ?_)
      refine lv_iload_n F.1 F.2.1 dX12_say_30 rfl (lv_at hl 0 rfl) ?_
      refine z_le F 36 dX12_say_31 (by decide) rfl (fun c6 => ?_) (fun c6 => ?_)
      · refine lv_aload_n F.1 F.2.1 dX12_say_36 rfl (lv_at hl 1 rfl) ?_
        refine a_Vv F hml hl.1 hA hP hD hS (As := []) (c_X12_keep_85__3 l dC dI ad cA nF _  hR hK_MS hK_UI hK_AP hK_AU) (cs_RX12_269 (d := 1) F.2.2.1 (by decide)) tc_85 rfl rfl rfl rfl (Nat.le_of_ble_eq_true rfl) dX12_say_37 ⟨Nat.le_refl 0, Nat.le_refl 0⟩ (fun u7 H locs hq hP hD hS => ?_)
        obtain ⟨hR, hF7, xr7, hK_MS, hK_UI, hK_AP, hK_AU⟩ := hq
        have hF := hF.tr hF7 (by decide)
        have hK_CW := sp_fr sp_CW hF7 (by decide) hK_CW
        have g8 : (0 : Int) ≤ (u7.1 85 24).toInt ∧ (u7.1 85 24).toInt ≤ 8 := hR 85 24
        have xr7 : 1 ≤ (u7.1 85 24).toInt := xr7
        refine lv_aload_n F.1 F.2.1 dX12_say_40 rfl (lv_at hl 1 rfl) ?_
        refine lv_iload_n F.1 F.2.1 dX12_say_41 rfl (lv_at hl 2 rfl) ?_
        refine lv_iload_n F.1 F.2.1 dX12_say_42 rfl (lv_at hl 3 rfl) ?_
        refine a_Vv F hml hl.1 hA hP hD hS (As := [.int p0, .int p1]) (c_X12_says_85__3 l dC dI ad cA nF _ p0 p1 hR (by omega) (by omega)) (cs_RX12_289 (d := 1) F.2.2.1 (by decide)) tc_85 rfl rfl rfl rfl (Nat.le_of_ble_eq_true rfl) dX12_say_43 ⟨Nat.le_refl 0, Nat.le_refl 0⟩ (fun u9 H locs hq hP hD hS => ?_)
        obtain ⟨hR, hF9, xr9, hJ9_MS, hJ9_CW, hJ9_UI, hJ9_BI, hJ9_AP, hJ9_AU, hJ9_AB, hJ9_BG⟩ := hq
        have hF := hF.tr hF9 (by decide)
        have hK_MS := hJ9_MS hK_MS
        have hK_UI := hJ9_UI hK_UI
        have hK_CW := hJ9_CW hK_CW
        have hK_AP := hJ9_AP hK_AP
        have hK_AU := hJ9_AU hK_AU
        have g10 : (0 : Int) ≤ (u9.1 87 106).toInt ∧ (u9.1 87 106).toInt ≤ 480 := hR 87 106
        have g11 : (4 : Int) ≤ (u9.1 87 0).toInt ∧ (u9.1 87 0).toInt ≤ 24 := hR 87 0
        have xr9 : (u9.1 87 106).toInt = (u7.1 87 106).toInt ∧ (u9.1 87 0).toInt = (u7.1 87 0).toInt := xr9
        refine a_ic F (0 : Int32) dX12_say_46 (by decide) ?_
        exact a_reti F hr hlocks hP hD hS dX12_say_47 ⟨hR, hF, (by decide), hK_MS, hK_UI, hK_CW, hK_AP, hK_AU⟩
      · refine lv_iload_n F.1 F.2.1 dX12_say_34 rfl (lv_at hl 0 rfl) ?_
        exact a_reti F hr hlocks hP hD hS dX12_say_35 ⟨hR, hF, (by omega : (-1 : Int) ≤ r5.toInt ∧ r5.toInt ≤ 6), hK_MS, hK_UI, hK_CW, hK_AP, hK_AU⟩
    · exact L21 _ _ _ _ hR hF hK_MS hK_UI hK_CW hK_AP hK_AU (by omega : (0 : Int) ≤ (0 : Int) ∧ (0 : Int) ≤ 0) hP hD hS (lv_sub hl [] rfl)
set_option maxHeartbeats 600000 in
set_option maxRecDepth 100000 in
theorem c_X12_sentence_85 (l : Launch) (dC : Nat → ClassId) (dI : Nat → Nat → Nat) (ad : Nat → Nat) (cA : Nat → ClassId) (nF : Nat) (u0 : ac_U)  (hR : ac_R rg u0) (hK_MS : msI u0) (hK_UI : unI u0) (hK_CW : cdI u0) (hK_AP : apI u0) (hK_AU : auI u0) : ac_Mi l yX12_sentence (.code yX12_sentence cX12_sentence 3 (some .int) :: TB) 4 (dC, dI) vwCl (ac_ty cA) ad cA (TT nF) [.ref (ad 85)] u0 (fun (r : Int32) (u : ac_U) => ac_R rg u ∧ ac_Fr [(85, some 0), (85, some 2), (85, some 3), (85, some 4), (85, some 5), (85, some 11), (85, some 12), (85, some 13), (85, some 14), (85, some 15), (85, some 16), (85, some 18), (85, some 39), (85, some 40), (85, some 41), (85, some 42), (85, some 43), (87, none), (89, none), (100, none)] u0 u ∧ msI u ∧ unI u ∧ cdI u ∧ apI u ∧ auI u) := by
  refine ac_Mi.of (cc := cX12_sentence) (maxL := 3) (ret := (some .int)) (by decide) rfl (Nat.le_of_ble_eq_true rfl) ?_
  intro p e s m below meth c A ls F hml hr hlocks hA hP hD hS hl
  have F : ac_X p s m [.ref (ad 85)].toArray c cX12_sentence RX12 TB (dC, dI) vwCl (ac_ty cA) := ⟨F.1, F.2.1, fun w h => F.2.2.1 w (List.mem_cons_of_mem _ h), F.2.2.2.1, F.2.2.2.2⟩
  have hl : lv_has ls 3 [(0, .ref (ad 85))] := hl
  have hF : ac_Fr [(85, some 0), (85, some 2), (85, some 3), (85, some 4), (85, some 5), (85, some 11), (85, some 12), (85, some 13), (85, some 14), (85, some 15), (85, some 16), (85, some 18), (85, some 39), (85, some 40), (85, some 41), (85, some 42), (85, some 43), (87, none), (89, none), (100, none)] u0 u0 := ac_Fr.rf
  have L146 : ∀ (n146 : Nat) (x2 : Int32) (u : ac_U) (H : Heap) (locs : List Loc) (ls : Array Slot), ac_R rg u → ac_Fr [(85, some 0), (85, some 2), (85, some 3), (85, some 4), (85, some 5), (85, some 11), (85, some 12), (85, some 13), (85, some 14), (85, some 15), (85, some 16), (85, some 18), (85, some 39), (85, some 40), (85, some 41), (85, some 42), (85, some 43), (87, none), (89, none), (100, none)] u0 u → 135 - x2.toInt < (n146 : Int) → msI u → unI u → swW u → scI x2.toInt u → apI u → auI u → (0 : Int) ≤ x2.toInt ∧ x2.toInt ≤ 135 → (0 : Int) ≤ (u.1 85 0).toInt ∧ (u.1 85 0).toInt ≤ 0 → va_P (dC, dI) vwCl (ac_w ad cA (TT nF) u) H → va_D A (ac_w ad cA (TT nF) u) → va_S A s.heap H locs → lv_has ls 3 [(0, .ref (ad 85)), (2, .int x2)] → W p l e (ac_rm 4) s m [.ref (ad 85)].toArray below meth c H locs 0 0 (MQ below (va_Qi (fun (r : Int32) (u : ac_U) => ac_R rg u ∧ ac_Fr [(85, some 0), (85, some 2), (85, some 3), (85, some 4), (85, some 5), (85, some 11), (85, some 12), (85, some 13), (85, some 14), (85, some 15), (85, some 16), (85, some 18), (85, some 39), (85, some 40), (85, some 41), (85, some 42), (85, some 43), (87, none), (89, none), (100, none)] u0 u ∧ msI u ∧ unI u ∧ cdI u ∧ apI u ∧ auI u) (ac_B (dC, dI) vwCl (ac_ty cA) ad cA (TT nF) A) A) [.ref (ad 85)].toArray s 0 0 A) (F0 m 146 ls []) := by
    intro n146
    induction n146 with
    | zero => intro x2 u H locs ls hR hF hn146 hK_MS hK_UI hK_SWW hK_SCx hK_AP hK_AU f0 f1 hP hD hS hl; exfalso; omega
    | succ n146 ih146 =>
      intro x2 u H locs ls hR hF hn146 hK_MS hK_UI hK_SWW hK_SCx hK_AP hK_AU f0 f1 hP hD hS hl
      refine lv_iload_n F.1 F.2.1 dX12_sentence_146 rfl (lv_at hl 1 rfl) ?_
      refine a_ic F (3 : Int32) dX12_sentence_147 (by decide) ?_
      refine lv_aload_n F.1 F.2.1 dX12_sentence_148 rfl (lv_at hl 0 rfl) ?_
      have g1 : (0 : Int) ≤ (u.1 85 39).toInt ∧ (u.1 85 39).toInt ≤ 45 := hR 85 39
      refine a_geti F inX12 hP 85 39 tc_85 rfl rfl (by decide) q1510 (fun _ h9 => h9) (v := (u.1 85 39)) rfl dX12_sentence_149 ?_
      refine a_imul F dX12_sentence_152 ic_3 rfl (by omega) (fun v2 hv2 => ?_)
      refine b_ge F 178 dX12_sentence_153 (by decide) rfl rfl (fun c3 => ?_) (fun c3 => ?_)
      · refine lv_aload_n F.1 F.2.1 dX12_sentence_178 rfl (lv_at hl 0 rfl) ?_
        have g4 : (0 : Int) ≤ (u.1 85 40).toInt ∧ (u.1 85 40).toInt ≤ 20 := hR 85 40
        refine a_geti F inX12 hP 85 40 tc_85 rfl rfl (by decide) q1511 (fun _ h9 => h9) (v := (u.1 85 40)) rfl dX12_sentence_179 ?_
        exact a_reti F hr hlocks hP hD hS dX12_sentence_182 ⟨hR, hF, hK_MS, hK_UI, (sc_cw hK_SWW hK_SCx (by omega) (by omega)), hK_AP, hK_AU⟩
      · refine lv_aload_n F.1 F.2.1 dX12_sentence_156 rfl (lv_at hl 0 rfl) ?_
        refine a_getr F inX12 hP 85 6 tc_85 rfl rfl (by decide) q1477 (fun _ h9 => h9) dX12_sentence_157 ?_
        refine a_sp F (477 : Int32) dX12_sentence_160 (by decide) ?_
        refine lv_iload_n F.1 F.2.1 dX12_sentence_163 rfl (lv_at hl 1 rfl) ?_
        refine a_iadd F dX12_sentence_164 ic_477 rfl (by omega) (fun v5 hv5 => ?_)
        refine lv_aload_n F.1 F.2.1 dX12_sentence_165 rfl (lv_at hl 0 rfl) ?_
        refine a_getr F inX12 hP 85 8 tc_85 rfl rfl (by decide) q1479 (fun _ h9 => h9) dX12_sentence_166 ?_
        refine lv_iload_n F.1 F.2.1 dX12_sentence_169 rfl (lv_at hl 1 rfl) ?_
        refine a_iald F hP 89 tc_89 rfl (i_in rfl (by omega)) dX12_sentence_170 (fun v6 ev6 => ?_)
        refine a_iast F hP hD hS 87 tc_87 rfl (i_in rfl (by omega)) dX12_sentence_171 (fun H locs hP hD hS => ?_)
        have hR := hR.si (c := 87) (k := v5.toNatClampNeg) (v := v6) (rs_87_477_611 (by omega) ⟨i_lo _, i_hi _⟩)
        have hF := hF.si (c := 87) (k := v5.toNatClampNeg) (v := v6) rfl
        have hO_MS := hK_MS
        have hO_UI := hK_UI
        have hO_SWW := hK_SWW
        have hO_SCx := hK_SCx
        have hO_AP := hK_AP
        have hO_AU := hK_AU
        have hK_MS := sp_si sp_MS hK_MS (c := 87) (k := v5.toNatClampNeg) (v := v6) (fun j9 h9 => by have q8 := sp_mem h9; simp at q8; have q9 := i_cl (x := v5) (by omega); omega)
        have hK_UI := sp_si sp_UI hK_UI (c := 87) (k := v5.toNatClampNeg) (v := v6) (fun j9 h9 => by have q8 := sp_mem h9; simp at q8; have q9 := i_cl (x := v5) (by omega); omega)
        have hK_SWW := sp_sgD sp_SWW hD hK_SWW (by decide)
        have hK_SCx := sc_w hO_SCx (i := x2) (k := v5) (by omega) (by omega) ev6
        have hK_AP := sp_si sp_AP hK_AP (c := 87) (k := v5.toNatClampNeg) (v := v6) (fun j9 h9 => by have q8 := sp_mem h9; simp at q8; have q9 := i_cl (x := v5) (by omega); omega)
        have hK_AU := sp_si sp_AU hK_AU (c := 87) (k := v5.toNatClampNeg) (v := v6) (fun j9 h9 => by have q8 := sp_mem h9; simp at q8; have q9 := i_cl (x := v5) (by omega); omega)
        refine a_iinc F (k := 1) (fun v7 => [(2, .int v7), (0, .ref (ad 85))]) dX12_sentence_172 hl rfl rfl (by decide) (by omega) (by decide) (fun _ => rfl) (fun v7 ls hv7 hl => ?_)
        refine lv_goto (tgt := 146) F.1 F.2.1 dX12_sentence_175 (by decide) ?_
        have g8 : (0 : Int) ≤ (u.1 85 0).toInt ∧ (u.1 85 0).toInt ≤ 1 := hR 85 0
        exact ih146 v7 _ _ _ _ hR hF (by omega) hK_MS hK_UI hK_SWW (sc_le hK_SCx (by omega)) hK_AP hK_AU (by omega) (by omega : (0 : Int) ≤ (u.1 85 0).toInt ∧ (u.1 85 0).toInt ≤ 0) hP hD hS (lv_sub hl [1, 0] rfl)
  have L125 : ∀ (u : ac_U) (H : Heap) (locs : List Loc) (ls : Array Slot), ac_R rg u → ac_Fr [(85, some 0), (85, some 2), (85, some 3), (85, some 4), (85, some 5), (85, some 11), (85, some 12), (85, some 13), (85, some 14), (85, some 15), (85, some 16), (85, some 18), (85, some 39), (85, some 40), (85, some 41), (85, some 42), (85, some 43), (87, none), (89, none), (100, none)] u0 u → msI u → unI u → cdI u → apI u → auI u → (0 : Int) ≤ (u.1 85 0).toInt ∧ (u.1 85 0).toInt ≤ 0 → va_P (dC, dI) vwCl (ac_w ad cA (TT nF) u) H → va_D A (ac_w ad cA (TT nF) u) → va_S A s.heap H locs → lv_has ls 3 [(0, .ref (ad 85))] → W p l e (ac_rm 4) s m [.ref (ad 85)].toArray below meth c H locs 0 0 (MQ below (va_Qi (fun (r : Int32) (u : ac_U) => ac_R rg u ∧ ac_Fr [(85, some 0), (85, some 2), (85, some 3), (85, some 4), (85, some 5), (85, some 11), (85, some 12), (85, some 13), (85, some 14), (85, some 15), (85, some 16), (85, some 18), (85, some 39), (85, some 40), (85, some 41), (85, some 42), (85, some 43), (87, none), (89, none), (100, none)] u0 u ∧ msI u ∧ unI u ∧ cdI u ∧ apI u ∧ auI u) (ac_B (dC, dI) vwCl (ac_ty cA) ad cA (TT nF) A) A) [.ref (ad 85)].toArray s 0 0 A) (F0 m 125 ls []) := by
    intro u H locs ls hR hF hK_MS hK_UI hK_CW hK_AP hK_AU f0 hP hD hS hl
    refine a_ic F (-1 : Int32) dX12_sentence_125 (by decide) ?_
    refine lv_aload_n F.1 F.2.1 dX12_sentence_126 rfl (lv_at hl 0 rfl) ?_
    refine a_geti F inX12 hP 85 16 tc_85 rfl rfl (by decide) q1487 (fun _ h9 => h9) (v := (u.1 85 16)) rfl dX12_sentence_127 ?_
    refine a_isub F dX12_sentence_130 ic_m1 rfl (by have q0 := i_lo (u.1 85 16); have q1 := i_hi (u.1 85 16); omega) (fun v9 hv9 => ?_)
    exact a_reti F hr hlocks hP hD hS dX12_sentence_131 ⟨hR, hF, hK_MS, hK_UI, hK_CW, hK_AP, hK_AU⟩
  have L48 : ∀ (n48 : Nat) (x1 : Int32) (u : ac_U) (H : Heap) (locs : List Loc) (ls : Array Slot), ac_R rg u → ac_Fr [(85, some 0), (85, some 2), (85, some 3), (85, some 4), (85, some 5), (85, some 11), (85, some 12), (85, some 13), (85, some 14), (85, some 15), (85, some 16), (85, some 18), (85, some 39), (85, some 40), (85, some 41), (85, some 42), (85, some 43), (87, none), (89, none), (100, none)] u0 u → 4 * (21 - (u.1 85 40).toInt) + (u.1 85 41).toInt + 2 * (u.1 85 43).toInt + x1.toInt < (n48 : Int) → msI u → unI u → cdI u → apI u → auI u → swW u → (0 : Int) ≤ x1.toInt ∧ x1.toInt ≤ 1 → (0 : Int) ≤ (u.1 85 0).toInt ∧ (u.1 85 0).toInt ≤ 0 → (u.1 85 39).toInt + (u.1 85 41).toInt ≤ 2 * (u.1 85 40).toInt - (u.1 85 43).toInt → va_P (dC, dI) vwCl (ac_w ad cA (TT nF) u) H → va_D A (ac_w ad cA (TT nF) u) → va_S A s.heap H locs → lv_has ls 3 [(0, .ref (ad 85)), (1, .int x1)] → W p l e (ac_rm 4) s m [.ref (ad 85)].toArray below meth c H locs 0 0 (MQ below (va_Qi (fun (r : Int32) (u : ac_U) => ac_R rg u ∧ ac_Fr [(85, some 0), (85, some 2), (85, some 3), (85, some 4), (85, some 5), (85, some 11), (85, some 12), (85, some 13), (85, some 14), (85, some 15), (85, some 16), (85, some 18), (85, some 39), (85, some 40), (85, some 41), (85, some 42), (85, some 43), (87, none), (89, none), (100, none)] u0 u ∧ msI u ∧ unI u ∧ cdI u ∧ apI u ∧ auI u) (ac_B (dC, dI) vwCl (ac_ty cA) ad cA (TT nF) A) A) [.ref (ad 85)].toArray s 0 0 A) (F0 m 48 ls []) := by
    intro n48
    induction n48 with
    | zero => intro x1 u H locs ls hR hF hn48 hK_MS hK_UI hK_CW hK_AP hK_AU hK_SWW f0 f1 f2 hP hD hS hl; have gz0 : (0 : Int) ≤ (u.1 85 40).toInt ∧ (u.1 85 40).toInt ≤ 20 := hR 85 40; have gz1 : (0 : Int) ≤ (u.1 85 41).toInt ∧ (u.1 85 41).toInt ≤ 45 := hR 85 41; have gz2 : (0 : Int) ≤ (u.1 85 43).toInt ∧ (u.1 85 43).toInt ≤ 1 := hR 85 43; exfalso; omega
    | succ n48 ih48 =>
      intro x1 u H locs ls hR hF hn48 hK_MS hK_UI hK_CW hK_AP hK_AU hK_SWW f0 f1 f2 hP hD hS hl
      have L101 : ∀ (x1 : Int32) (u : ac_U) (H : Heap) (locs : List Loc) (ls : Array Slot), ac_R rg u → ac_Fr [(85, some 0), (85, some 2), (85, some 3), (85, some 4), (85, some 5), (85, some 11), (85, some 12), (85, some 13), (85, some 14), (85, some 15), (85, some 16), (85, some 18), (85, some 39), (85, some 40), (85, some 41), (85, some 42), (85, some 43), (87, none), (89, none), (100, none)] u0 u → msI u → unI u → cdI u → apI u → auI u → swW u → (1 : Int) ≤ x1.toInt ∧ x1.toInt ≤ 1 → (0 : Int) ≤ (u.1 85 0).toInt ∧ (u.1 85 0).toInt ≤ 0 → (0 : Int) ≤ (u.1 85 43).toInt ∧ (u.1 85 43).toInt ≤ 1 → (u.1 85 39).toInt + (u.1 85 41).toInt ≤ 2 * (u.1 85 40).toInt - (u.1 85 43).toInt → 4 * (21 - (u.1 85 40).toInt) + (u.1 85 41).toInt + 2 * (u.1 85 43).toInt + x1.toInt < ((n48 : Nat) : Int) + 1 → va_P (dC, dI) vwCl (ac_w ad cA (TT nF) u) H → va_D A (ac_w ad cA (TT nF) u) → va_S A s.heap H locs → lv_has ls 3 [(0, .ref (ad 85)), (1, .int x1)] → W p l e (ac_rm 4) s m [.ref (ad 85)].toArray below meth c H locs 0 0 (MQ below (va_Qi (fun (r : Int32) (u : ac_U) => ac_R rg u ∧ ac_Fr [(85, some 0), (85, some 2), (85, some 3), (85, some 4), (85, some 5), (85, some 11), (85, some 12), (85, some 13), (85, some 14), (85, some 15), (85, some 16), (85, some 18), (85, some 39), (85, some 40), (85, some 41), (85, some 42), (85, some 43), (87, none), (89, none), (100, none)] u0 u ∧ msI u ∧ unI u ∧ cdI u ∧ apI u ∧ auI u) (ac_B (dC, dI) vwCl (ac_ty cA) ad cA (TT nF) A) A) [.ref (ad 85)].toArray s 0 0 A) (F0 m 101 ls []) := by
        intro x1 u H locs ls hR hF hK_MS hK_UI hK_CW hK_AP hK_AU hK_SWW f0 f1 f2 f3 f4 hP hD hS hl
        refine lv_aload_n F.1 F.2.1 dX12_sentence_101 rfl (lv_at hl 0 rfl) ?_
        have g10 : (0 : Int) ≤ (u.1 85 43).toInt ∧ (u.1 85 43).toInt ≤ 1 := hR 85 43
        refine a_geti F inX12 hP 85 43 tc_85 rfl rfl (by decide) q1514 (fun _ h9 => h9) (v := (u.1 85 43)) rfl dX12_sentence_102 ?_
        refine z_eq F 118 dX12_sentence_105 (by decide) rfl (fun c11 => ?_) (fun c11 => ?_)
        · refine lv_aload_n F.1 F.2.1 dX12_sentence_118 rfl (lv_at hl 0 rfl) ?_
          have g12 : (0 : Int) ≤ (u.1 85 39).toInt ∧ (u.1 85 39).toInt ≤ 45 := hR 85 39
          have g13 : (0 : Int) ≤ (u.1 85 41).toInt ∧ (u.1 85 41).toInt ≤ 45 := hR 85 41
          have g14 : (0 : Int) ≤ (u.1 85 40).toInt ∧ (u.1 85 40).toInt ≤ 20 := hR 85 40
          refine a_Vi F hml hl.1 hA hP hD hS (As := []) (c_X12_operand_85 l dC dI ad cA nF _  hR (by omega : (0 : Int) ≤ (u.1 85 43).toInt ∧ (u.1 85 43).toInt ≤ 0) (by omega : (u.1 85 39).toInt + (u.1 85 41).toInt ≤ 2 * (u.1 85 40).toInt) (sw_of hK_SWW (by omega))) (cs_RX12_444 (d := 3) F.2.2.1 (by decide)) tc_85 rfl rfl rfl rfl (Nat.le_of_ble_eq_true rfl) dX12_sentence_119 ⟨Nat.le_refl 0, Nat.le_refl 0⟩ (fun r15 u15 H locs hq hP hD hS => ?_)
          obtain ⟨hR, hF15, gr15, xr15, hK_r15_SWW⟩ := hq
          have hF := hF.tr hF15 (by decide)
          have hK_MS := sp_fr sp_MS hF15 (by decide) hK_MS
          have hK_UI := sp_fr sp_UI hF15 (by decide) hK_UI
          have hK_CW := sp_fr sp_CW hF15 (by decide) hK_CW
          have hK_AP := sp_fr sp_AP hF15 (by decide) hK_AP
          have hK_AU := sp_fr sp_AU hF15 (by decide) hK_AU
          have g16 : (0 : Int) ≤ (u15.1 85 40).toInt ∧ (u15.1 85 40).toInt ≤ 20 := hR 85 40
          have g17 : (0 : Int) ≤ (u15.1 85 39).toInt ∧ (u15.1 85 39).toInt ≤ 45 := hR 85 39
          have g18 : (0 : Int) ≤ (u15.1 85 41).toInt ∧ (u15.1 85 41).toInt ≤ 45 := hR 85 41
          have g19 : (0 : Int) ≤ (u15.1 85 43).toInt ∧ (u15.1 85 43).toInt ≤ 1 := hR 85 43
          have xr15 : r15.toInt ≠ 0 → (u15.1 85 40).toInt = (u.1 85 40).toInt + 1 ∧ (u15.1 85 39).toInt + (u15.1 85 41).toInt ≤ 2 * (u15.1 85 40).toInt - (u15.1 85 43).toInt ∧ (u15.1 85 41).toInt + 2 * (u15.1 85 43).toInt ≤ (u.1 85 41).toInt + 2 := xr15
          refine z_ne F 48 dX12_sentence_122 (by decide) rfl (fun c20 => ?_) (fun c20 => ?_)
          · have hK_SWW := hK_r15_SWW (by omega)
            exact ih48 x1 _ _ _ _ hR hF (by omega : 4 * (21 - (u15.1 85 40).toInt) + (u15.1 85 41).toInt + 2 * (u15.1 85 43).toInt + x1.toInt < ((n48 : Nat) : Int)) hK_MS hK_UI hK_CW hK_AP hK_AU hK_SWW (by omega) (i_trB (hF15 85 0 rfl) (by omega : (0 : Int) ≤ (u.1 85 0).toInt ∧ (u.1 85 0).toInt ≤ 0)) (by omega : (u15.1 85 39).toInt + (u15.1 85 41).toInt ≤ 2 * (u15.1 85 40).toInt - (u15.1 85 43).toInt) hP hD hS (lv_sub hl [0, 1] rfl)
          · exact L125 _ _ _ _ hR hF hK_MS hK_UI hK_CW hK_AP hK_AU (i_trB (hF15 85 0 rfl) (by omega : (0 : Int) ≤ (u.1 85 0).toInt ∧ (u.1 85 0).toInt ≤ 0)) hP hD hS (lv_sub hl [0] rfl)
        · refine lv_aload_n F.1 F.2.1 dX12_sentence_108 rfl (lv_at hl 0 rfl) ?_
          have g21 : (0 : Int) ≤ (u.1 85 39).toInt ∧ (u.1 85 39).toInt ≤ 45 := hR 85 39
          have g22 : (0 : Int) ≤ (u.1 85 41).toInt ∧ (u.1 85 41).toInt ≤ 45 := hR 85 41
          have g23 : (0 : Int) ≤ (u.1 85 40).toInt ∧ (u.1 85 40).toInt ≤ 20 := hR 85 40
          refine a_Vi F hml hl.1 hA hP hD hS (As := []) (c_X12_behind_85 l dC dI ad cA nF _  hR (by omega : (1 : Int) ≤ (u.1 85 43).toInt ∧ (u.1 85 43).toInt ≤ 1) (by omega : (u.1 85 39).toInt + (u.1 85 41).toInt + 1 ≤ 2 * (u.1 85 40).toInt) (sw_of hK_SWW (by omega))) (cs_RX12_441 (d := 3) F.2.2.1 (by decide)) tc_85 rfl rfl rfl rfl (Nat.le_of_ble_eq_true rfl) dX12_sentence_109 ⟨Nat.le_refl 0, Nat.le_refl 0⟩ (fun r24 u24 H locs hq hP hD hS => ?_)
          obtain ⟨hR, hF24, gr24, xr24, hK_r24_SWW⟩ := hq
          have hF := hF.tr hF24 (by decide)
          have hK_MS := sp_fr sp_MS hF24 (by decide) hK_MS
          have hK_UI := sp_fr sp_UI hF24 (by decide) hK_UI
          have hK_CW := sp_fr sp_CW hF24 (by decide) hK_CW
          have hK_AP := sp_fr sp_AP hF24 (by decide) hK_AP
          have hK_AU := sp_fr sp_AU hF24 (by decide) hK_AU
          have k25 : (u24.1 85 40).toInt = (u.1 85 40).toInt := congrArg Int32.toInt (show u24.1 85 40 = (u.1 85 40) from hF24 85 40 rfl)
          have g26 : (0 : Int) ≤ (u24.1 85 39).toInt ∧ (u24.1 85 39).toInt ≤ 45 := hR 85 39
          have g27 : (0 : Int) ≤ (u24.1 85 41).toInt ∧ (u24.1 85 41).toInt ≤ 45 := hR 85 41
          have g28 : (0 : Int) ≤ (u24.1 85 43).toInt ∧ (u24.1 85 43).toInt ≤ 1 := hR 85 43
          have xr24 : r24.toInt ≠ 0 → (u24.1 85 40).toInt = (u.1 85 40).toInt ∧ (u24.1 85 39).toInt + (u24.1 85 41).toInt ≤ 2 * (u24.1 85 40).toInt - (u24.1 85 43).toInt ∧ (u24.1 85 41).toInt + 2 * (u24.1 85 43).toInt + 1 ≤ (u.1 85 41).toInt + 2 := xr24
          refine z_ne F 48 dX12_sentence_112 (by decide) rfl (fun c29 => ?_) (fun c29 => ?_)
          · have hK_SWW := hK_r24_SWW (by omega)
            exact ih48 x1 _ _ _ _ hR hF (by show 4 * (21 - (u24.1 85 40).toInt) + (u24.1 85 41).toInt + 2 * (u24.1 85 43).toInt + x1.toInt < ((n48 : Nat) : Int); rw [hF24 85 40 rfl]; exact (by omega : 4 * (21 - (u.1 85 40).toInt) + (u24.1 85 41).toInt + 2 * (u24.1 85 43).toInt + x1.toInt < ((n48 : Nat) : Int))) hK_MS hK_UI hK_CW hK_AP hK_AU hK_SWW (by omega) (i_trB (hF24 85 0 rfl) (by omega : (0 : Int) ≤ (u.1 85 0).toInt ∧ (u.1 85 0).toInt ≤ 0)) (by rw [hF24 85 40 rfl]; try exact (by omega : (u24.1 85 39).toInt + (u24.1 85 41).toInt ≤ 2 * (u.1 85 40).toInt - (u24.1 85 43).toInt)) hP hD hS (lv_sub hl [0, 1] rfl)
          · refine lv_goto (tgt := 125) F.1 F.2.1 dX12_sentence_115 (by decide) ?_
            exact L125 _ _ _ _ hR hF hK_MS hK_UI hK_CW hK_AP hK_AU (i_trB (hF24 85 0 rfl) (by omega : (0 : Int) ≤ (u.1 85 0).toInt ∧ (u.1 85 0).toInt ≤ 0)) hP hD hS (lv_sub hl [0] rfl)
      refine lv_iload_n F.1 F.2.1 dX12_sentence_48 rfl (lv_at hl 1 rfl) ?_
      refine z_eq F 132 dX12_sentence_49 (by decide) rfl (fun c30 => ?_) (fun c30 => ?_)
      · refine lv_aload_n F.1 F.2.1 dX12_sentence_132 rfl (lv_at hl 0 rfl) ?_
        refine a_getr F inX12 hP 85 6 tc_85 rfl rfl (by decide) q1477 (fun _ h9 => h9) dX12_sentence_133 ?_
        refine a_sp F (476 : Int32) dX12_sentence_136 (by decide) ?_
        refine lv_aload_n F.1 F.2.1 dX12_sentence_139 rfl (lv_at hl 0 rfl) ?_
        have g31 : (0 : Int) ≤ (u.1 85 39).toInt ∧ (u.1 85 39).toInt ≤ 45 := hR 85 39
        refine a_geti F inX12 hP 85 39 tc_85 rfl rfl (by decide) q1510 (fun _ h9 => h9) (v := (u.1 85 39)) rfl dX12_sentence_140 ?_
        refine a_iastK F hP hD hS 87 476 tc_87 rfl rfl (i_in ic_476 (by omega)) dX12_sentence_143 (fun H locs hP hD hS => ?_)
        have hR := hR.si (c := 87) (k := 476) (v := (u.1 85 39)) (by omega : (0 : Int) ≤ (u.1 85 39).toInt ∧ (u.1 85 39).toInt ≤ 45)
        have hF := hF.si (c := 87) (k := 476) (v := (u.1 85 39)) rfl
        have hO_MS := hK_MS
        have hO_UI := hK_UI
        have hO_CW := hK_CW
        have hO_AP := hK_AP
        have hO_AU := hK_AU
        have hO_SWW := hK_SWW
        have hN_SCz := sc_0D (n := 0) hD (rfl) (by decide)
        have hK_MS := sp_si sp_MS hK_MS (c := 87) (k := 476) (v := (u.1 85 39)) (fun j9 h9 q9 => by rw [q9] at h9; exact absurd h9 (by decide))
        have hK_UI := sp_si sp_UI hK_UI (c := 87) (k := 476) (v := (u.1 85 39)) (fun j9 h9 q9 => by rw [q9] at h9; exact absurd h9 (by decide))
        have hK_AP := sp_si sp_AP hK_AP (c := 87) (k := 476) (v := (u.1 85 39)) (fun j9 h9 q9 => by rw [q9] at h9; exact absurd h9 (by decide))
        have hK_AU := sp_si sp_AU hK_AU (c := 87) (k := 476) (v := (u.1 85 39)) (fun j9 h9 q9 => by rw [q9] at h9; exact absurd h9 (by decide))
        have hK_SWW := sp_sgD sp_SWW hD hK_SWW (by decide)
        have hK_SCz := hN_SCz
        refine a_ic F (0 : Int32) dX12_sentence_144 (by decide) ?_
        refine lv_istore_n (lv' := [(2, .int (0 : Int32)), (0, .ref (ad 85)), (1, .int x1)]) F.1 F.2.1 dX12_sentence_145 rfl hl (by decide) rfl (fun ls hl => ?_)
        have g32 : (0 : Int) ≤ (u.1 85 0).toInt ∧ (u.1 85 0).toInt ≤ 1 := hR 85 0
        exact L146 137 (0 : Int32) _ _ _ _ hR hF (by decide) hK_MS hK_UI hK_SWW (sc_le hK_SCz (by decide)) hK_AP hK_AU (by decide) (by omega : (0 : Int) ≤ (u.1 85 0).toInt ∧ (u.1 85 0).toInt ≤ 0) hP hD hS (lv_sub hl [1, 0] rfl)
      · refine lv_aload_n F.1 F.2.1 dX12_sentence_52 rfl (lv_at hl 0 rfl) ?_
        have g33 : (0 : Int) ≤ (u.1 85 43).toInt ∧ (u.1 85 43).toInt ≤ 1 := hR 85 43
        refine a_geti F inX12 hP 85 43 tc_85 rfl rfl (by decide) q1514 (fun _ h9 => h9) (v := (u.1 85 43)) rfl dX12_sentence_53 ?_
        refine z_eq F 101 dX12_sentence_56 (by decide) rfl (fun c34 => ?_) (fun c34 => ?_)
        · have g35 : (0 : Int) ≤ (u.1 85 0).toInt ∧ (u.1 85 0).toInt ≤ 1 := hR 85 0
          have g36 : (0 : Int) ≤ (u.1 85 39).toInt ∧ (u.1 85 39).toInt ≤ 45 := hR 85 39
          have g37 : (0 : Int) ≤ (u.1 85 41).toInt ∧ (u.1 85 41).toInt ≤ 45 := hR 85 41
          have g38 : (0 : Int) ≤ (u.1 85 40).toInt ∧ (u.1 85 40).toInt ≤ 20 := hR 85 40
          exact L101 x1 _ _ _ _ hR hF hK_MS hK_UI hK_CW hK_AP hK_AU hK_SWW (by omega) (by omega : (0 : Int) ≤ (u.1 85 0).toInt ∧ (u.1 85 0).toInt ≤ 0) (by omega : (0 : Int) ≤ (u.1 85 43).toInt ∧ (u.1 85 43).toInt ≤ 1) (by omega : (u.1 85 39).toInt + (u.1 85 41).toInt ≤ 2 * (u.1 85 40).toInt - (u.1 85 43).toInt) (by omega : 4 * (21 - (u.1 85 40).toInt) + (u.1 85 41).toInt + 2 * (u.1 85 43).toInt + x1.toInt < ((n48 : Nat) : Int) + 1) hP hD hS (lv_sub hl [0, 1] rfl)
        · refine lv_aload_n F.1 F.2.1 dX12_sentence_59 rfl (lv_at hl 0 rfl) ?_
          have g39 : (0 : Int) ≤ (u.1 85 11).toInt ∧ (u.1 85 11).toInt ≤ 4 := hR 85 11
          refine a_geti F inX12 hP 85 11 tc_85 rfl rfl (by decide) q1482 (fun _ h9 => h9) (v := (u.1 85 11)) rfl dX12_sentence_60 ?_
          refine z_ne F 101 dX12_sentence_63 (by decide) rfl (fun c40 => ?_) (fun c40 => ?_)
          · have g41 : (0 : Int) ≤ (u.1 85 0).toInt ∧ (u.1 85 0).toInt ≤ 1 := hR 85 0
            have g42 : (0 : Int) ≤ (u.1 85 39).toInt ∧ (u.1 85 39).toInt ≤ 45 := hR 85 39
            have g43 : (0 : Int) ≤ (u.1 85 41).toInt ∧ (u.1 85 41).toInt ≤ 45 := hR 85 41
            have g44 : (0 : Int) ≤ (u.1 85 40).toInt ∧ (u.1 85 40).toInt ≤ 20 := hR 85 40
            exact L101 x1 _ _ _ _ hR hF hK_MS hK_UI hK_CW hK_AP hK_AU hK_SWW (by omega) (by omega : (0 : Int) ≤ (u.1 85 0).toInt ∧ (u.1 85 0).toInt ≤ 0) (by omega : (0 : Int) ≤ (u.1 85 43).toInt ∧ (u.1 85 43).toInt ≤ 1) (by omega : (u.1 85 39).toInt + (u.1 85 41).toInt ≤ 2 * (u.1 85 40).toInt - (u.1 85 43).toInt) (by omega : 4 * (21 - (u.1 85 40).toInt) + (u.1 85 41).toInt + 2 * (u.1 85 43).toInt + x1.toInt < ((n48 : Nat) : Int) + 1) hP hD hS (lv_sub hl [0, 1] rfl)
          · refine lv_aload_n F.1 F.2.1 dX12_sentence_66 rfl (lv_at hl 0 rfl) ?_
            have g45 : (0 : Int) ≤ (u.1 85 39).toInt ∧ (u.1 85 39).toInt ≤ 45 := hR 85 39
            have g46 : (0 : Int) ≤ (u.1 85 41).toInt ∧ (u.1 85 41).toInt ≤ 45 := hR 85 41
            have g48 : (0 : Int) ≤ (u.1 85 40).toInt ∧ (u.1 85 40).toInt ≤ 20 := hR 85 40
            refine a_Vv F hml hl.1 hA hP hD hS (As := []) (c_X12_nots_85 l dC dI ad cA nF _  hR (by omega : (u.1 85 39).toInt + (u.1 85 41).toInt ≤ 44) (sw_of hK_SWW (by omega))) (cs_RX12_435 (d := 2) F.2.2.1 (by decide)) tc_85 rfl rfl rfl rfl (Nat.le_of_ble_eq_true rfl) dX12_sentence_67 ⟨Nat.le_refl 0, Nat.le_refl 0⟩ (fun u47 H locs hq hP hD hS => ?_)
            obtain ⟨hR, hF47, xr47, hK_SW1⟩ := hq
            have hF := hF.tr hF47 (by decide)
            have hK_MS := sp_fr sp_MS hF47 (by decide) hK_MS
            have hK_UI := sp_fr sp_UI hF47 (by decide) hK_UI
            have hK_CW := sp_fr sp_CW hF47 (by decide) hK_CW
            have hK_AP := sp_fr sp_AP hF47 (by decide) hK_AP
            have hK_AU := sp_fr sp_AU hF47 (by decide) hK_AU
            have g49 : (0 : Int) ≤ (u47.1 85 39).toInt ∧ (u47.1 85 39).toInt ≤ 45 := hR 85 39
            have g50 : (0 : Int) ≤ (u47.1 85 41).toInt ∧ (u47.1 85 41).toInt ≤ 45 := hR 85 41
            have xr47 : (u47.1 85 39).toInt + (u47.1 85 41).toInt = (u.1 85 39).toInt + (u.1 85 41).toInt ∧ (u47.1 85 41).toInt ≤ (u.1 85 41).toInt := xr47
            refine lv_aload_n F.1 F.2.1 dX12_sentence_70 rfl (lv_at hl 0 rfl) ?_
            refine a_bp F (22 : Int32) dX12_sentence_71 (by decide) ?_
            refine a_Vv F hml hl.1 hA hP hD hS (As := [.int (22 : Int32)]) (c_X12_joins_85 l dC dI ad cA nF _ (22 : Int32) hR (by decide) (by omega : (u47.1 85 39).toInt + (u47.1 85 41).toInt ≤ 44) hK_SW1) (cs_RX12_438 (d := 2) F.2.2.1 (by decide)) tc_85 rfl rfl rfl rfl (Nat.le_of_ble_eq_true rfl) dX12_sentence_73 ⟨Nat.le_refl 0, Nat.le_refl 0⟩ (fun u51 H locs hq hP hD hS => ?_)
            obtain ⟨hR, hF51, xr51, hK_SW1, hK_TB⟩ := hq
            have hF := hF.tr hF51 (by decide)
            have hK_MS := sp_fr sp_MS hF51 (by decide) hK_MS
            have hK_UI := sp_fr sp_UI hF51 (by decide) hK_UI
            have hK_CW := sp_fr sp_CW hF51 (by decide) hK_CW
            have hK_AP := sp_fr sp_AP hF51 (by decide) hK_AP
            have hK_AU := sp_fr sp_AU hF51 (by decide) hK_AU
            have g52 : (0 : Int) ≤ (u51.1 85 39).toInt ∧ (u51.1 85 39).toInt ≤ 45 := hR 85 39
            have g53 : (0 : Int) ≤ (u51.1 85 41).toInt ∧ (u51.1 85 41).toInt ≤ 45 := hR 85 41
            have xr51 : (u51.1 85 39).toInt + (u51.1 85 41).toInt = (u47.1 85 39).toInt + (u47.1 85 41).toInt ∧ (u51.1 85 41).toInt ≤ (u47.1 85 41).toInt := xr51
            refine lv_aload_n F.1 F.2.1 dX12_sentence_76 rfl (lv_at hl 0 rfl) ?_
            refine a_geti F inX12 hP 85 41 tc_85 rfl rfl (by decide) q1512 (fun _ h9 => h9) (v := (u51.1 85 41)) (rfl) dX12_sentence_77 ?_
            refine z_le F 96 dX12_sentence_80 (by decide) rfl (fun c54 => ?_) (fun c54 => ?_)
            · refine a_ic F (0 : Int32) dX12_sentence_96 (by decide) ?_
              refine lv_istore_n (lv' := [(1, .int (0 : Int32)), (0, .ref (ad 85))]) F.1 F.2.1 dX12_sentence_97 rfl hl (by decide) rfl (fun ls hl => ?_)
              refine lv_goto (tgt := 48) F.1 F.2.1 dX12_sentence_98 (by decide) ?_
              exact ih48 (0 : Int32) _ _ _ _ hR hF (by show 4 * (21 - (u51.1 85 40).toInt) + (u51.1 85 41).toInt + 2 * (u51.1 85 43).toInt + (0 : Int) < ((n48 : Nat) : Int); rw [(hF51 85 40 rfl).trans (hF47 85 40 rfl), (hF51 85 43 rfl).trans (hF47 85 43 rfl)]; exact (by omega : 4 * (21 - (u.1 85 40).toInt) + (u51.1 85 41).toInt + 2 * (u.1 85 43).toInt + (0 : Int) < ((n48 : Nat) : Int))) hK_MS hK_UI hK_CW hK_AP hK_AU (sw_toD hD hK_SW1 (t := (u.1 85 43)) ((hF51 85 43 rfl).trans (hF47 85 43 rfl)) (by first | decide | omega)) (by decide) (i_trB ((hF51 85 0 rfl).trans (hF47 85 0 rfl)) (by omega : (0 : Int) ≤ (u.1 85 0).toInt ∧ (u.1 85 0).toInt ≤ 0)) (by rw [(hF51 85 40 rfl).trans (hF47 85 40 rfl), (hF51 85 43 rfl).trans (hF47 85 43 rfl)]; try exact (by omega : (u51.1 85 39).toInt + (u51.1 85 41).toInt ≤ 2 * (u.1 85 40).toInt - (u.1 85 43).toInt)) hP hD hS (lv_sub hl [1, 0] rfl)
            · refine lv_aload_n F.1 F.2.1 dX12_sentence_83 rfl (lv_at hl 0 rfl) ?_
              refine a_ic F (1 : Int32) dX12_sentence_84 (by decide) ?_
              refine a_Vi F hml hl.1 hA hP hD hS (As := [.int (1 : Int32)]) (c_X12_bad_85 l dC dI ad cA nF _ (1 : Int32) hR (by decide)) (cs_RX12_181 (d := 1) F.2.2.1 (by decide)) tc_85 rfl rfl rfl rfl (Nat.le_of_ble_eq_true rfl) dX12_sentence_85 ⟨Nat.le_refl 0, Nat.le_refl 0⟩ (fun r55 u55 H locs hq hP hD hS => ?_)
              obtain ⟨hR, hF55, gr55⟩ := hq
              have hF := hF.tr hF55 (by decide)
              have hK_MS := sp_fr sp_MS hF55 (by decide) hK_MS
              have hK_UI := sp_fr sp_UI hF55 (by decide) hK_UI
              have hK_CW := sp_fr sp_CW hF55 (by decide) hK_CW
              have hK_AP := sp_fr sp_AP hF55 (by decide) hK_AP
              have hK_AU := sp_fr sp_AU hF55 (by decide) hK_AU
              have hK_SW1 := sp_fr (sp_sw _) hF55 (by decide) hK_SW1
              have hK_TB := sp_fr sp_TB hF55 (by decide) hK_TB
              refine lv_pop F.1 F.2.1 dX12_sentence_88 rfl ?_
              refine a_ic F (-1 : Int32) dX12_sentence_89 (by decide) ?_
              refine lv_aload_n F.1 F.2.1 dX12_sentence_90 rfl (lv_at hl 0 rfl) ?_
              refine a_geti F inX12 hP 85 16 tc_85 rfl rfl (by decide) q1487 (fun _ h9 => h9) (v := (u55.1 85 16)) rfl dX12_sentence_91 ?_
              refine a_isub F dX12_sentence_94 ic_m1 rfl (by have q0 := i_lo (u55.1 85 16); have q1 := i_hi (u55.1 85 16); omega) (fun v56 hv56 => ?_)
              exact a_reti F hr hlocks hP hD hS dX12_sentence_95 ⟨hR, hF, hK_MS, hK_UI, hK_CW, hK_AP, hK_AU⟩
  refine lv_aload_n F.1 F.2.1 dX12_sentence_0 rfl (lv_at hl 0 rfl) ?_
  refine a_ic F (0 : Int32) dX12_sentence_1 (by decide) ?_
  refine a_puti F inX12 tyX12 tyX12_ok nmX12 hP hD hS 85 0 tc_85 rfl rfl (by decide) q1471 (fun _ h9 => h9) rfl (ty := .int) (tyX12_ok 0 (by decide)) rfl rfl dX12_sentence_2 (fun H locs hP hD hS => ?_)
  have hR := hR.si (c := 85) (k := 0) (v := (0 : Int32)) (by rw [ic_0]; exact (by omega : (0 : Int) ≤ (0 : Int) ∧ (0 : Int) ≤ 1))
  have hF := hF.si (c := 85) (k := 0) (v := (0 : Int32)) rfl
  have hK_MS := sp_sgD sp_MS hD hK_MS (by decide)
  have hK_UI := sp_si sp_UI hK_UI (c := 85) (k := 0) (v := (0 : Int32)) (fun j9 h9 q9 => by rw [q9] at h9; exact absurd h9 (by decide))
  have hK_CW := sp_sgD sp_CW hD hK_CW (by decide)
  have hK_AP := sp_sgD sp_AP hD hK_AP (by decide)
  have hK_AU := sp_si sp_AU hK_AU (c := 85) (k := 0) (v := (0 : Int32)) (fun j9 h9 q9 => by rw [q9] at h9; exact absurd h9 (by decide))
  refine lv_aload_n F.1 F.2.1 dX12_sentence_5 rfl (lv_at hl 0 rfl) ?_
  refine a_sp F (200 : Int32) dX12_sentence_6 (by decide) ?_
  have g58 : (0 : Int) ≤ (u0.1 85 39).toInt ∧ (u0.1 85 39).toInt ≤ 45 := hR 85 39
  have g59 : (0 : Int) ≤ (u0.1 85 41).toInt ∧ (u0.1 85 41).toInt ≤ 45 := hR 85 41
  have g60 : (0 : Int) ≤ (u0.1 85 40).toInt ∧ (u0.1 85 40).toInt ≤ 20 := hR 85 40
  have g61 : (0 : Int) ≤ (u0.1 85 43).toInt ∧ (u0.1 85 43).toInt ≤ 1 := hR 85 43
  refine a_Vv F hml hl.1 hA hP hD hS (As := [.int (200 : Int32)]) (c_X12_taken_85 l dC dI ad cA nF _ (200 : Int32) hR (by decide)) (cs_RX12_229 (d := 1) F.2.2.1 (by decide)) tc_85 rfl rfl rfl rfl (Nat.le_of_ble_eq_true rfl) dX12_sentence_9 ⟨Nat.le_refl 0, Nat.le_refl 0⟩ (fun u57 H locs hq hP hD hS => ?_)
  obtain ⟨hR, hF57⟩ := hq
  have hF := hF.tr hF57 (by decide)
  have hK_MS := sp_fr sp_MS hF57 (by decide) hK_MS
  have hK_UI := sp_fr sp_UI hF57 (by decide) hK_UI
  have hK_CW := sp_fr sp_CW hF57 (by decide) hK_CW
  have hK_AP := sp_fr sp_AP hF57 (by decide) hK_AP
  have hK_AU := sp_fr sp_AU hF57 (by decide) hK_AU
  refine lv_aload_n F.1 F.2.1 dX12_sentence_12 rfl (lv_at hl 0 rfl) ?_
  refine a_ic F (0 : Int32) dX12_sentence_13 (by decide) ?_
  refine a_puti F inX12 tyX12 tyX12_ok nmX12 hP hD hS 85 15 tc_85 rfl rfl (by decide) q1486 (fun _ h9 => h9) rfl (ty := .int) (tyX12_ok 15 (by decide)) rfl rfl dX12_sentence_14 (fun H locs hP hD hS => ?_)
  have hR := hR.si (c := 85) (k := 15) (v := (0 : Int32)) ⟨i_lo _, i_hi _⟩
  have hF := hF.si (c := 85) (k := 15) (v := (0 : Int32)) rfl
  have hK_MS := sp_sgD sp_MS hD hK_MS (by decide)
  have hK_UI := sp_si sp_UI hK_UI (c := 85) (k := 15) (v := (0 : Int32)) (fun j9 h9 q9 => by rw [q9] at h9; exact absurd h9 (by decide))
  have hK_CW := sp_sgD sp_CW hD hK_CW (by decide)
  have hK_AP := sp_sgD sp_AP hD hK_AP (by decide)
  have hK_AU := sp_si sp_AU hK_AU (c := 85) (k := 15) (v := (0 : Int32)) (fun j9 h9 q9 => by rw [q9] at h9; exact absurd h9 (by decide))
  refine lv_aload_n F.1 F.2.1 dX12_sentence_17 rfl (lv_at hl 0 rfl) ?_
  refine a_ic F (0 : Int32) dX12_sentence_18 (by decide) ?_
  refine a_puti F inX12 tyX12 tyX12_ok nmX12 hP hD hS 85 39 tc_85 rfl rfl (by decide) q1510 (fun _ h9 => h9) rfl (ty := .int) (tyX12_ok 39 (by decide)) rfl rfl dX12_sentence_19 (fun H locs hP hD hS => ?_)
  have hR := hR.si (c := 85) (k := 39) (v := (0 : Int32)) (by rw [ic_0]; exact (by omega : (0 : Int) ≤ (0 : Int) ∧ (0 : Int) ≤ 45))
  have hF := hF.si (c := 85) (k := 39) (v := (0 : Int32)) rfl
  have hK_MS := sp_sgD sp_MS hD hK_MS (by decide)
  have hK_UI := sp_si sp_UI hK_UI (c := 85) (k := 39) (v := (0 : Int32)) (fun j9 h9 q9 => by rw [q9] at h9; exact absurd h9 (by decide))
  have hK_CW := sp_sgD sp_CW hD hK_CW (by decide)
  have hK_AP := sp_sgD sp_AP hD hK_AP (by decide)
  have hK_AU := sp_si sp_AU hK_AU (c := 85) (k := 39) (v := (0 : Int32)) (fun j9 h9 q9 => by rw [q9] at h9; exact absurd h9 (by decide))
  refine lv_aload_n F.1 F.2.1 dX12_sentence_22 rfl (lv_at hl 0 rfl) ?_
  refine a_ic F (0 : Int32) dX12_sentence_23 (by decide) ?_
  refine a_puti F inX12 tyX12 tyX12_ok nmX12 hP hD hS 85 40 tc_85 rfl rfl (by decide) q1511 (fun _ h9 => h9) rfl (ty := .int) (tyX12_ok 40 (by decide)) rfl rfl dX12_sentence_24 (fun H locs hP hD hS => ?_)
  have hR := hR.si (c := 85) (k := 40) (v := (0 : Int32)) (by rw [ic_0]; exact (by omega : (0 : Int) ≤ (0 : Int) ∧ (0 : Int) ≤ 20))
  have hF := hF.si (c := 85) (k := 40) (v := (0 : Int32)) rfl
  have hK_MS := sp_sgD sp_MS hD hK_MS (by decide)
  have hK_UI := sp_si sp_UI hK_UI (c := 85) (k := 40) (v := (0 : Int32)) (fun j9 h9 q9 => by rw [q9] at h9; exact absurd h9 (by decide))
  have hK_CW := sp_sgD sp_CW hD hK_CW (by decide)
  have hK_AP := sp_sgD sp_AP hD hK_AP (by decide)
  have hK_AU := sp_si sp_AU hK_AU (c := 85) (k := 40) (v := (0 : Int32)) (fun j9 h9 q9 => by rw [q9] at h9; exact absurd h9 (by decide))
  refine lv_aload_n F.1 F.2.1 dX12_sentence_27 rfl (lv_at hl 0 rfl) ?_
  refine a_ic F (0 : Int32) dX12_sentence_28 (by decide) ?_
  refine a_puti F inX12 tyX12 tyX12_ok nmX12 hP hD hS 85 41 tc_85 rfl rfl (by decide) q1512 (fun _ h9 => h9) rfl (ty := .int) (tyX12_ok 41 (by decide)) rfl rfl dX12_sentence_29 (fun H locs hP hD hS => ?_)
  have hR := hR.si (c := 85) (k := 41) (v := (0 : Int32)) (by rw [ic_0]; exact (by omega : (0 : Int) ≤ (0 : Int) ∧ (0 : Int) ≤ 45))
  have hF := hF.si (c := 85) (k := 41) (v := (0 : Int32)) rfl
  have hK_MS := sp_sgD sp_MS hD hK_MS (by decide)
  have hK_UI := sp_si sp_UI hK_UI (c := 85) (k := 41) (v := (0 : Int32)) (fun j9 h9 q9 => by rw [q9] at h9; exact absurd h9 (by decide))
  have hK_CW := sp_sgD sp_CW hD hK_CW (by decide)
  have hK_AP := sp_sgD sp_AP hD hK_AP (by decide)
  have hK_AU := sp_si sp_AU hK_AU (c := 85) (k := 41) (v := (0 : Int32)) (fun j9 h9 q9 => by rw [q9] at h9; exact absurd h9 (by decide))
  refine lv_aload_n F.1 F.2.1 dX12_sentence_32 rfl (lv_at hl 0 rfl) ?_
  refine a_ic F (1 : Int32) dX12_sentence_33 (by decide) ?_
  refine a_puti F inX12 tyX12 tyX12_ok nmX12 hP hD hS 85 42 tc_85 rfl rfl (by decide) q1513 (fun _ h9 => h9) rfl (ty := .int) (tyX12_ok 42 (by decide)) rfl rfl dX12_sentence_34 (fun H locs hP hD hS => ?_)
  have hR := hR.si (c := 85) (k := 42) (v := (1 : Int32)) ⟨i_lo _, i_hi _⟩
  have hF := hF.si (c := 85) (k := 42) (v := (1 : Int32)) rfl
  have hK_MS := sp_sgD sp_MS hD hK_MS (by decide)
  have hK_UI := sp_si sp_UI hK_UI (c := 85) (k := 42) (v := (1 : Int32)) (fun j9 h9 q9 => by rw [q9] at h9; exact absurd h9 (by decide))
  have hK_CW := sp_sgD sp_CW hD hK_CW (by decide)
  have hK_AP := sp_sgD sp_AP hD hK_AP (by decide)
  have hK_AU := sp_si sp_AU hK_AU (c := 85) (k := 42) (v := (1 : Int32)) (fun j9 h9 q9 => by rw [q9] at h9; exact absurd h9 (by decide))
  refine lv_aload_n F.1 F.2.1 dX12_sentence_37 rfl (lv_at hl 0 rfl) ?_
  refine a_ic F (0 : Int32) dX12_sentence_38 (by decide) ?_
  refine a_puti F inX12 tyX12 tyX12_ok nmX12 hP hD hS 85 43 tc_85 rfl rfl (by decide) q1514 (fun _ h9 => h9) rfl (ty := .boolean) (tyX12_ok 43 (by decide)) (i_zn (Or.inl rfl)) (i_zf (Or.inl rfl)) dX12_sentence_39 (fun H locs hP hD hS => ?_)
  have hR := hR.si (c := 85) (k := 43) (v := (0 : Int32)) (by rw [ic_0]; exact (by omega : (0 : Int) ≤ (0 : Int) ∧ (0 : Int) ≤ 1))
  have hF := hF.si (c := 85) (k := 43) (v := (0 : Int32)) rfl
  have hN_SWW := sw_0D hD (a := (0 : Int32)) (b := (0 : Int32)) (c := (0 : Int32)) rfl rfl rfl (by decide) (by decide) (by decide)
  have hK_MS := sp_sgD sp_MS hD hK_MS (by decide)
  have hK_UI := sp_si sp_UI hK_UI (c := 85) (k := 43) (v := (0 : Int32)) (fun j9 h9 q9 => by rw [q9] at h9; exact absurd h9 (by decide))
  have hK_CW := sp_sgD sp_CW hD hK_CW (by decide)
  have hK_AP := sp_sgD sp_AP hD hK_AP (by decide)
  have hK_AU := sp_si sp_AU hK_AU (c := 85) (k := 43) (v := (0 : Int32)) (fun j9 h9 q9 => by rw [q9] at h9; exact absurd h9 (by decide))
  have hK_SWW := hN_SWW
  refine lv_aload_n F.1 F.2.1 dX12_sentence_42 rfl (lv_at hl 0 rfl) ?_
  refine a_Vv F hml hl.1 hA hP hD hS (As := []) (c_X12_next_85 l dC dI ad cA nF _  hR) (cs_RX12_184 (d := 2) F.2.2.1 (by decide)) tc_85 rfl rfl rfl rfl (Nat.le_of_ble_eq_true rfl) dX12_sentence_43 ⟨Nat.le_refl 0, Nat.le_refl 0⟩ (fun u62 H locs hq hP hD hS => ?_)
  obtain ⟨hR, hF62⟩ := hq
  have hF := hF.tr hF62 (by decide)
  have hK_MS := sp_fr sp_MS hF62 (by decide) hK_MS
  have hK_UI := sp_fr sp_UI hF62 (by decide) hK_UI
  have hK_CW := sp_fr sp_CW hF62 (by decide) hK_CW
  have hK_AP := sp_fr sp_AP hF62 (by decide) hK_AP
  have hK_AU := sp_fr sp_AU hF62 (by decide) hK_AU
  have hK_SWW := sp_fr sp_SWW hF62 (by decide) hK_SWW
  refine a_ic F (1 : Int32) dX12_sentence_46 (by decide) ?_
  refine lv_istore_n (lv' := [(1, .int (1 : Int32)), (0, .ref (ad 85))]) F.1 F.2.1 dX12_sentence_47 rfl hl (by decide) rfl (fun ls hl => ?_)
  exact L48 140 (1 : Int32) _ _ _ _ hR hF (by show 4 * (21 - (u62.1 85 40).toInt) + (u62.1 85 41).toInt + 2 * (u62.1 85 43).toInt + (1 : Int) < (140 : Int); rw [hF62 85 40 rfl, hF62 85 41 rfl, hF62 85 43 rfl]; exact (by omega : 4 * (21 - (0 : Int)) + (0 : Int) + 2 * (0 : Int) + (1 : Int) < (140 : Int))) hK_MS hK_UI hK_CW hK_AP hK_AU hK_SWW (by decide) (i_trB ((hF62 85 0 rfl).trans (hF57 85 0 rfl)) (by omega : (0 : Int) ≤ (0 : Int) ∧ (0 : Int) ≤ 0)) (by rw [hF62 85 39 rfl, hF62 85 41 rfl, hF62 85 40 rfl, hF62 85 43 rfl]; try exact (by omega : (0 : Int) + (0 : Int) ≤ 2 * (0 : Int) - (0 : Int))) hP hD hS (lv_sub hl [1, 0] rfl)
set_option maxHeartbeats 600000 in
set_option maxRecDepth 100000 in
theorem c_X12_undo_85__3 (l : Launch) (dC : Nat → ClassId) (dI : Nat → Nat → Nat) (ad : Nat → Nat) (cA : Nat → ClassId) (nF : Nat) (u0 : ac_U)  (hR : ac_R rg u0) (hK_MS : msI u0) (hK_UI : unI u0) (hK_CW : cdI u0) (hK_AP : apI u0) (hK_AU : auI u0) : ac_Mi l yX12_undo (.code yX12_undo cX12_undo 2 (some .int) :: TB) 1 (dC, dI) vwCl (ac_ty cA) ad cA (TT nF) [.ref (ad 85)] u0 (fun (r : Int32) (u : ac_U) => ac_R rg u ∧ ac_Fr [(85, some 0), (85, some 24), (87, none)] u0 u ∧ ((-1 : Int) ≤ r.toInt ∧ r.toInt ≤ 7) ∧ msI u ∧ unI u ∧ cdI u ∧ apI u ∧ auI u) := by
  refine ac_Mi.of (cc := cX12_undo) (maxL := 2) (ret := (some .int)) (by decide) rfl (Nat.le_of_ble_eq_true rfl) ?_
  intro p e s m below meth c A ls F hml hr hlocks hA hP hD hS hl
  have F : ac_X p s m [.ref (ad 85)].toArray c cX12_undo RX12 TB (dC, dI) vwCl (ac_ty cA) := ⟨F.1, F.2.1, fun w h => F.2.2.1 w (List.mem_cons_of_mem _ h), F.2.2.2.1, F.2.2.2.2⟩
  have hl : lv_has ls 2 [(0, .ref (ad 85))] := hl
  have hF : ac_Fr [(85, some 0), (85, some 24), (87, none)] u0 u0 := ac_Fr.rf
  have L26 : ∀ (n26 : Nat) (x1 : Int32) (u : ac_U) (H : Heap) (locs : List Loc) (ls : Array Slot), ac_R rg u → ac_Fr [(85, some 0), (85, some 24), (87, none)] u0 u → 370 - x1.toInt < (n26 : Int) → msI u → ueI u → cdI u → apI u → aeI u → (0 : Int) ≤ x1.toInt ∧ x1.toInt ≤ 370 → (0 : Int) ≤ (u.1 85 0).toInt ∧ (u.1 85 0).toInt ≤ 0 → (0 : Int) ≤ (u.1 85 24).toInt ∧ (u.1 85 24).toInt ≤ 7 → va_P (dC, dI) vwCl (ac_w ad cA (TT nF) u) H → va_D A (ac_w ad cA (TT nF) u) → va_S A s.heap H locs → lv_has ls 2 [(0, .ref (ad 85)), (1, .int x1)] → W p l e (ac_rm 1) s m [.ref (ad 85)].toArray below meth c H locs 0 0 (MQ below (va_Qi (fun (r : Int32) (u : ac_U) => ac_R rg u ∧ ac_Fr [(85, some 0), (85, some 24), (87, none)] u0 u ∧ ((-1 : Int) ≤ r.toInt ∧ r.toInt ≤ 7) ∧ msI u ∧ unI u ∧ cdI u ∧ apI u ∧ auI u) (ac_B (dC, dI) vwCl (ac_ty cA) ad cA (TT nF) A) A) [.ref (ad 85)].toArray s 0 0 A) (F0 m 26 ls []) := by
    intro n26
    induction n26 with
    | zero => intro x1 u H locs ls hR hF hn26 hK_MS hK_UIe hK_CW hK_AP hK_AE f0 f1 f2 hP hD hS hl; exfalso; omega
    | succ n26 ih26 =>
      intro x1 u H locs ls hR hF hn26 hK_MS hK_UIe hK_CW hK_AP hK_AE f0 f1 f2 hP hD hS hl
      refine lv_iload_n F.1 F.2.1 dX12_undo_26 rfl (lv_at hl 1 rfl) ?_
      refine a_sp F (370 : Int32) dX12_undo_27 (by decide) ?_
      refine b_ge F 63 dX12_undo_30 (by decide) rfl ic_370 (fun c1 => ?_) (fun c1 => ?_)
      · refine lv_aload_n F.1 F.2.1 dX12_undo_63 rfl (lv_at hl 0 rfl) ?_
        have g2 : (0 : Int) ≤ (u.1 85 24).toInt ∧ (u.1 85 24).toInt ≤ 8 := hR 85 24
        refine a_geti F inX12 hP 85 24 tc_85 rfl rfl (by decide) q1495 (fun _ h9 => h9) (v := (u.1 85 24)) rfl dX12_undo_64 ?_
        exact a_reti F hr hlocks hP hD hS dX12_undo_67 ⟨hR, hF, (by omega : (-1 : Int) ≤ (u.1 85 24).toInt ∧ (u.1 85 24).toInt ≤ 7), hK_MS, (ue_lt hK_UIe), hK_CW, hK_AP, (ae_lt hK_AE)⟩
      · refine lv_aload_n F.1 F.2.1 dX12_undo_33 rfl (lv_at hl 0 rfl) ?_
        refine a_getr F inX12 hP 85 6 tc_85 rfl rfl (by decide) q1477 (fun _ h9 => h9) dX12_undo_34 ?_
        refine a_bp F (106 : Int32) dX12_undo_37 (by decide) ?_
        refine lv_iload_n F.1 F.2.1 dX12_undo_39 rfl (lv_at hl 1 rfl) ?_
        refine a_iadd F dX12_undo_40 ic_106 rfl (by omega) (fun v3 hv3 => ?_)
        refine lv_aload_n F.1 F.2.1 dX12_undo_41 rfl (lv_at hl 0 rfl) ?_
        refine a_getr F inX12 hP 85 22 tc_85 rfl rfl (by decide) q1493 (fun _ h9 => h9) dX12_undo_42 ?_
        refine a_sp F (370 : Int32) dX12_undo_45 (by decide) ?_
        refine lv_aload_n F.1 F.2.1 dX12_undo_48 rfl (lv_at hl 0 rfl) ?_
        have g4 : (0 : Int) ≤ (u.1 85 24).toInt ∧ (u.1 85 24).toInt ≤ 8 := hR 85 24
        refine a_geti F inX12 hP 85 24 tc_85 rfl rfl (by decide) q1495 (fun _ h9 => h9) (v := (u.1 85 24)) rfl dX12_undo_49 ?_
        refine a_imul F dX12_undo_52 ic_370 rfl (by omega) (fun v5 hv5 => ?_)
        refine lv_iload_n F.1 F.2.1 dX12_undo_53 rfl (lv_at hl 1 rfl) ?_
        refine a_iadd F dX12_undo_54 rfl rfl (by omega) (fun v6 hv6 => ?_)
        refine a_iald F hP 93 tc_93 rfl (i_in rfl (by omega)) dX12_undo_55 (fun v7 ev7 => ?_)
        refine a_iast F hP hD hS 87 tc_87 rfl (i_in rfl (by omega)) dX12_undo_56 (fun H locs hP hD hS => ?_)
        have hR := hR.si (c := 87) (k := v3.toNatClampNeg) (v := v7) (cp_el hR ev7 (rg_u2 (m := (u.1 85 24).toInt) (x := x1.toInt) (by omega) (by omega) (by omega) (by omega)).2)
        have hF := hF.si (c := 87) (k := v3.toNatClampNeg) (v := v7) rfl
        have hO_MS := hK_MS
        have hO_UIe := hK_UIe
        have hO_CW := hK_CW
        have hO_AP := hK_AP
        have hO_AE := hK_AE
        have hK_MS := ms_w hO_MS (i := v3) (v := v7) (by omega) (fun q9 => ue_get hO_UIe (i := v6) (by omega) (by omega) ev7)
        have hK_UIe := sp_si sp_UIe hK_UIe (c := 87) (k := v3.toNatClampNeg) (v := v7) (fun j9 h9 => by have q8 := sp_mem h9; simp at q8; have q9 := i_cl (x := v3) (by omega); omega)
        have hK_CW := sp_si sp_CW hK_CW (c := 87) (k := v3.toNatClampNeg) (v := v7) (fun j9 h9 => by have q8 := sp_mem h9; simp at q8; have q9 := i_cl (x := v3) (by omega); omega)
        have hK_AP := ap_w hO_AP (i := v3) (v := v7) (by omega) (fun q9 => ae_get hO_AE (x := x1.toInt) (i := v6) (by omega) (by omega) (by omega) ev7)
        have hK_AE := sp_si sp_AE hK_AE (c := 87) (k := v3.toNatClampNeg) (v := v7) (fun j9 h9 => by have q8 := sp_mem h9; simp at q8; have q9 := i_cl (x := v3) (by omega); omega)
        refine a_iinc F (k := 1) (fun v8 => [(1, .int v8), (0, .ref (ad 85))]) dX12_undo_57 hl rfl rfl (by decide) (by omega) (by decide) (fun _ => rfl) (fun v8 ls hv8 hl => ?_)
        refine lv_goto (tgt := 26) F.1 F.2.1 dX12_undo_60 (by decide) ?_
        have g9 : (0 : Int) ≤ (u.1 85 0).toInt ∧ (u.1 85 0).toInt ≤ 1 := hR 85 0
        exact ih26 v8 _ _ _ _ hR hF (by omega) hK_MS hK_UIe hK_CW hK_AP hK_AE (by omega) (by omega : (0 : Int) ≤ (u.1 85 0).toInt ∧ (u.1 85 0).toInt ≤ 0) (by omega : (0 : Int) ≤ (u.1 85 24).toInt ∧ (u.1 85 24).toInt ≤ 7) hP hD hS (lv_sub hl [1, 0] rfl)
  refine lv_aload_n F.1 F.2.1 dX12_undo_0 rfl (lv_at hl 0 rfl) ?_
  refine a_ic F (0 : Int32) dX12_undo_1 (by decide) ?_
  refine a_puti F inX12 tyX12 tyX12_ok nmX12 hP hD hS 85 0 tc_85 rfl rfl (by decide) q1471 (fun _ h9 => h9) rfl (ty := .int) (tyX12_ok 0 (by decide)) rfl rfl dX12_undo_2 (fun H locs hP hD hS => ?_)
  have hR := hR.si (c := 85) (k := 0) (v := (0 : Int32)) (by rw [ic_0]; exact (by omega : (0 : Int) ≤ (0 : Int) ∧ (0 : Int) ≤ 1))
  have hF := hF.si (c := 85) (k := 0) (v := (0 : Int32)) rfl
  have hK_MS := sp_sgD sp_MS hD hK_MS (by decide)
  have hK_UI := sp_si sp_UI hK_UI (c := 85) (k := 0) (v := (0 : Int32)) (fun j9 h9 q9 => by rw [q9] at h9; exact absurd h9 (by decide))
  have hK_CW := sp_sgD sp_CW hD hK_CW (by decide)
  have hK_AP := sp_sgD sp_AP hD hK_AP (by decide)
  have hK_AU := sp_si sp_AU hK_AU (c := 85) (k := 0) (v := (0 : Int32)) (fun j9 h9 q9 => by rw [q9] at h9; exact absurd h9 (by decide))
  refine lv_aload_n F.1 F.2.1 dX12_undo_5 rfl (lv_at hl 0 rfl) ?_
  have g10 : (0 : Int) ≤ (u0.1 85 24).toInt ∧ (u0.1 85 24).toInt ≤ 8 := hR 85 24
  refine a_geti F inX12 hP 85 24 tc_85 rfl rfl (by decide) q1495 (fun _ h9 => h9) (v := (u0.1 85 24)) rfl dX12_undo_6 ?_
  refine z_ne F 14 dX12_undo_9 (by decide) rfl (fun c11 => ?_) (fun c11 => ?_)
  · refine lv_aload_n F.1 F.2.1 dX12_undo_14 rfl (lv_at hl 0 rfl) ?_
    refine lv_dup F.1 F.2.1 dX12_undo_15 rfl ?_
    refine a_geti F inX12 hP 85 24 tc_85 rfl rfl (by decide) q1495 (fun _ h9 => h9) (v := (u0.1 85 24)) (rfl) dX12_undo_16 ?_
    refine a_ic F (1 : Int32) dX12_undo_19 (by decide) ?_
    refine a_isub F dX12_undo_20 rfl ic_1 (by omega) (fun v12 hv12 => ?_)
    refine a_puti F inX12 tyX12 tyX12_ok nmX12 hP hD hS 85 24 tc_85 rfl rfl (by decide) q1495 (fun _ h9 => h9) rfl (ty := .int) (tyX12_ok 24 (by decide)) rfl rfl dX12_undo_21 (fun H locs hP hD hS => ?_)
    have hR := hR.si (c := 85) (k := 24) (v := v12) (by omega : (0 : Int) ≤ v12.toInt ∧ v12.toInt ≤ 8)
    have hF := hF.si (c := 85) (k := 24) (v := v12) rfl
    have hO_MS := hK_MS
    have hO_UI := hK_UI
    have hO_CW := hK_CW
    have hO_AP := hK_AP
    have hO_AU := hK_AU
    have hN_UIe := ue_dec2 hO_UI (t := (u0.1 85 24)) (v := v12) (rfl) (by omega)
    have hN_AE := ae_dec2 hO_AU (t := (u0.1 85 24)) (v := v12) (rfl) (by omega)
    have hK_MS := sp_sgD sp_MS hD hK_MS (by decide)
    have hK_CW := sp_sgD sp_CW hD hK_CW (by decide)
    have hK_AP := sp_sgD sp_AP hD hK_AP (by decide)
    have hK_UIe := hN_UIe
    have hK_AE := hN_AE
    refine a_ic F (0 : Int32) dX12_undo_24 (by decide) ?_
    refine lv_istore_n (lv' := [(1, .int (0 : Int32)), (0, .ref (ad 85))]) F.1 F.2.1 dX12_undo_25 rfl hl (by decide) rfl (fun ls hl => ?_)
    exact L26 372 (0 : Int32) _ _ _ _ hR hF (by decide) hK_MS hK_UIe hK_CW hK_AP hK_AE (by decide) (by omega : (0 : Int) ≤ (0 : Int) ∧ (0 : Int) ≤ 0) (by omega : (0 : Int) ≤ v12.toInt ∧ v12.toInt ≤ 7) hP hD hS (lv_sub hl [1, 0] rfl)
  · refine a_ic F (-1 : Int32) dX12_undo_12 (by decide) ?_
    exact a_reti F hr hlocks hP hD hS dX12_undo_13 ⟨hR, hF, (by decide), hK_MS, hK_UI, hK_CW, hK_AP, hK_AU⟩

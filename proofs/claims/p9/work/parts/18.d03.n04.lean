set_option maxHeartbeats 600000 in
set_option maxRecDepth 100000 in
theorem c_X12_restore_85__3 (l : Launch) (dC : Nat → ClassId) (dI : Nat → Nat → Nat) (ad : Nat → Nat) (cA : Nat → ClassId) (nF : Nat) (u0 : ac_U) (p0 : Int32) (hR : ac_R rg u0) (hK_MS : msI u0) (hK_UI : unI u0) (hK_CW : cdI u0) (hK_AP : apI u0) (hK_AU : auI u0) (hK_KI : kpI u0) (hK_AK : akI u0) : ac_Mi l yX12_restore (.code yX12_restore cX12_restore 3 (some .boolean) :: TB) 2 (dC, dI) vwCl (ac_ty cA) ad cA (TT nF) [.ref (ad 85), .int p0] u0 (fun (r : Int32) (u : ac_U) => ac_R rg u ∧ ac_Fr [(85, some 0), (85, some 24), (87, none)] u0 u ∧ ((0 : Int) ≤ r.toInt ∧ r.toInt ≤ 1) ∧ ((r.toInt ≠ 0 → (p0.toInt = 0 ∧ (u0.1 104 0).toInt ≠ 0) ∨ (p0.toInt = 1 ∧ (u0.1 104 1).toInt ≠ 0)) ∧ (r.toInt = 0 → (p0.toInt = 0 → (u0.1 104 0).toInt = 0) ∧ (p0.toInt = 1 → (u0.1 104 1).toInt = 0))) ∧ msI u ∧ unI u ∧ cdI u ∧ apI u ∧ auI u) := by
  refine ac_Mi.of (cc := cX12_restore) (maxL := 3) (ret := (some .boolean)) (by decide) rfl (Nat.le_of_ble_eq_true rfl) ?_
  intro p e s m below meth c A ls F hml hr hlocks hA hP hD hS hl
  have F : ac_X p s m [.ref (ad 85), .int p0].toArray c cX12_restore RX12 TB (dC, dI) vwCl (ac_ty cA) := ⟨F.1, F.2.1, fun w h => F.2.2.1 w (List.mem_cons_of_mem _ h), F.2.2.2.1, F.2.2.2.2⟩
  have hl : lv_has ls 3 [(0, .ref (ad 85)), (1, .int p0)] := hl
  have hF : ac_Fr [(85, some 0), (85, some 24), (87, none)] u0 u0 := ac_Fr.rf
  have L60 : ∀ (n60 : Nat) (x2 : Int32) (u : ac_U) (H : Heap) (locs : List Loc) (ls : Array Slot), ac_R rg u → ac_Fr [(85, some 0), (85, some 24), (87, none)] u0 u → 26 - x2.toInt < (n60 : Int) → msI u → cdI u → apI u → (0 : Int) ≤ p0.toInt ∧ p0.toInt ≤ 1 → (0 : Int) ≤ x2.toInt ∧ x2.toInt ≤ 26 → (0 : Int) ≤ (u.1 85 0).toInt ∧ (u.1 85 0).toInt ≤ 0 → ((p0.toInt = 0 → (u0.1 104 0).toInt ≠ 0) ∧ (p0.toInt = 1 → (u0.1 104 1).toInt ≠ 0)) → va_P (dC, dI) vwCl (ac_w ad cA (TT nF) u) H → va_D A (ac_w ad cA (TT nF) u) → va_S A s.heap H locs → lv_has ls 3 [(0, .ref (ad 85)), (1, .int p0), (2, .int x2)] → W p l e (ac_rm 2) s m [.ref (ad 85), .int p0].toArray below meth c H locs 0 0 (MQ below (va_Qi (fun (r : Int32) (u : ac_U) => ac_R rg u ∧ ac_Fr [(85, some 0), (85, some 24), (87, none)] u0 u ∧ ((0 : Int) ≤ r.toInt ∧ r.toInt ≤ 1) ∧ ((r.toInt ≠ 0 → (p0.toInt = 0 ∧ (u0.1 104 0).toInt ≠ 0) ∨ (p0.toInt = 1 ∧ (u0.1 104 1).toInt ≠ 0)) ∧ (r.toInt = 0 → (p0.toInt = 0 → (u0.1 104 0).toInt = 0) ∧ (p0.toInt = 1 → (u0.1 104 1).toInt = 0))) ∧ msI u ∧ unI u ∧ cdI u ∧ apI u ∧ auI u) (ac_B (dC, dI) vwCl (ac_ty cA) ad cA (TT nF) A) A) [.ref (ad 85), .int p0].toArray s 0 0 A) (F0 m 60 ls []) := by
    intro n60
    induction n60 with
    | zero => intro x2 u H locs ls hR hF hn60 hK_MS hK_CW hK_AP f0 f1 f2 f3 hP hD hS hl; exfalso; omega
    | succ n60 ih60 =>
      intro x2 u H locs ls hR hF hn60 hK_MS hK_CW hK_AP f0 f1 f2 f3 hP hD hS hl
      refine lv_iload_n F.1 F.2.1 dX12_restore_60 rfl (lv_at hl 2 rfl) ?_
      refine a_bp F (26 : Int32) dX12_restore_61 (by decide) ?_
      refine b_ge F 89 dX12_restore_63 (by decide) rfl ic_26 (fun c1 => ?_) (fun c1 => ?_)
      · refine lv_aload_n F.1 F.2.1 dX12_restore_89 rfl (lv_at hl 0 rfl) ?_
        refine a_ic F (0 : Int32) dX12_restore_90 (by decide) ?_
        refine a_puti F inX12 tyX12 tyX12_ok nmX12 hP hD hS 85 24 tc_85 rfl rfl (by decide) q1495 (fun _ h9 => h9) rfl (ty := .int) (tyX12_ok 24 (by decide)) rfl rfl dX12_restore_91 (fun H locs hP hD hS => ?_)
        have hR := hR.si (c := 85) (k := 24) (v := (0 : Int32)) (by rw [ic_0]; exact (by omega : (0 : Int) ≤ (0 : Int) ∧ (0 : Int) ≤ 8))
        have hF := hF.si (c := 85) (k := 24) (v := (0 : Int32)) rfl
        have hN_UI := un_0D hD (by decide)
        have hN_AU := au_0D hD (by decide)
        have hK_MS := sp_sgD sp_MS hD hK_MS (by decide)
        have hK_CW := sp_sgD sp_CW hD hK_CW (by decide)
        have hK_AP := sp_sgD sp_AP hD hK_AP (by decide)
        have hK_UI := hN_UI
        have hK_AU := hN_AU
        refine a_ic F (1 : Int32) dX12_restore_94 (by decide) ?_
        exact a_retz F hr hlocks hP hD hS dX12_restore_95 (Or.inr rfl) ⟨hR, hF, (by decide), (by first | exact (by omega : ((1 : Int) ≠ 0 → (p0.toInt = 0 ∧ (u0.1 104 0).toInt ≠ 0) ∨ (p0.toInt = 1 ∧ (u0.1 104 1).toInt ≠ 0)) ∧ ((1 : Int) = 0 → (p0.toInt = 0 → (u0.1 104 0).toInt = 0) ∧ (p0.toInt = 1 → (u0.1 104 1).toInt = 0))) | (rw [ic_1]; exact (by omega : ((1 : Int) ≠ 0 → (p0.toInt = 0 ∧ (u0.1 104 0).toInt ≠ 0) ∨ (p0.toInt = 1 ∧ (u0.1 104 1).toInt ≠ 0)) ∧ ((1 : Int) = 0 → (p0.toInt = 0 → (u0.1 104 0).toInt = 0) ∧ (p0.toInt = 1 → (u0.1 104 1).toInt = 0))))), hK_MS, hK_UI, hK_CW, hK_AP, hK_AU⟩
      · refine lv_aload_n F.1 F.2.1 dX12_restore_66 rfl (lv_at hl 0 rfl) ?_
        refine a_getr F inX12 hP 85 9 tc_85 rfl rfl (by decide) q1480 (fun _ h9 => h9) dX12_restore_67 ?_
        refine lv_iload_n F.1 F.2.1 dX12_restore_70 rfl (lv_at hl 2 rfl) ?_
        refine lv_aload_n F.1 F.2.1 dX12_restore_71 rfl (lv_at hl 0 rfl) ?_
        refine a_getr F inX12 hP 85 46 tc_85 rfl rfl (by decide) q1517 (fun _ h9 => h9) dX12_restore_72 ?_
        refine a_bp F (26 : Int32) dX12_restore_75 (by decide) ?_
        refine lv_iload_n F.1 F.2.1 dX12_restore_77 rfl (lv_at hl 1 rfl) ?_
        refine a_imul F dX12_restore_78 ic_26 rfl (by omega) (fun v2 hv2 => ?_)
        refine lv_iload_n F.1 F.2.1 dX12_restore_79 rfl (lv_at hl 2 rfl) ?_
        refine a_iadd F dX12_restore_80 rfl rfl (by omega) (fun v3 hv3 => ?_)
        refine a_lald F hP 103 tc_103 rfl (i_in rfl (by omega)) dX12_restore_81 (fun w4 ew4 => ?_)
        refine a_last F hP hD hS 90 tc_90 rfl (i_in rfl (by omega)) dX12_restore_82 (fun H locs hP hD hS => ?_)
        have hR := ac_slR hD hR
        have hF := ac_slF hD hF
        have hK_MS := sp_sl sp_MS hD hK_MS
        have hK_CW := sp_sl sp_CW hD hK_CW
        have hK_AP := sp_sl sp_AP hD hK_AP
        refine a_iinc F (k := 2) (fun v5 => [(2, .int v5), (0, .ref (ad 85)), (1, .int p0)]) dX12_restore_83 hl rfl rfl (by decide) (by omega) (by decide) (fun _ => rfl) (fun v5 ls hv5 hl => ?_)
        refine lv_goto (tgt := 60) F.1 F.2.1 dX12_restore_86 (by decide) ?_
        have g6 : (0 : Int) ≤ (u.1 85 0).toInt ∧ (u.1 85 0).toInt ≤ 1 := hR 85 0
        exact ih60 v5 _ _ _ _ hR hF (by omega) hK_MS hK_CW hK_AP (by omega) (by omega) (by omega : (0 : Int) ≤ (u.1 85 0).toInt ∧ (u.1 85 0).toInt ≤ 0) (by omega : (p0.toInt = 0 → (u0.1 104 0).toInt ≠ 0) ∧ (p0.toInt = 1 → (u0.1 104 1).toInt ≠ 0)) hP hD hS (lv_sub hl [1, 2, 0] rfl)
  have L27 : ∀ (n27 : Nat) (x2 : Int32) (u : ac_U) (H : Heap) (locs : List Loc) (ls : Array Slot), ac_R rg u → ac_Fr [(85, some 0), (85, some 24), (87, none)] u0 u → 657 - x2.toInt < (n27 : Int) → kgI p0.toInt u → rcI p0.toInt x2.toInt u → agI p0.toInt u → (0 : Int) ≤ p0.toInt ∧ p0.toInt ≤ 1 → (0 : Int) ≤ x2.toInt ∧ x2.toInt ≤ 657 → (0 : Int) ≤ (u.1 85 0).toInt ∧ (u.1 85 0).toInt ≤ 0 → ((p0.toInt = 0 → (u0.1 104 0).toInt ≠ 0) ∧ (p0.toInt = 1 → (u0.1 104 1).toInt ≠ 0)) → va_P (dC, dI) vwCl (ac_w ad cA (TT nF) u) H → va_D A (ac_w ad cA (TT nF) u) → va_S A s.heap H locs → lv_has ls 3 [(0, .ref (ad 85)), (1, .int p0), (2, .int x2)] → W p l e (ac_rm 2) s m [.ref (ad 85), .int p0].toArray below meth c H locs 0 0 (MQ below (va_Qi (fun (r : Int32) (u : ac_U) => ac_R rg u ∧ ac_Fr [(85, some 0), (85, some 24), (87, none)] u0 u ∧ ((0 : Int) ≤ r.toInt ∧ r.toInt ≤ 1) ∧ ((r.toInt ≠ 0 → (p0.toInt = 0 ∧ (u0.1 104 0).toInt ≠ 0) ∨ (p0.toInt = 1 ∧ (u0.1 104 1).toInt ≠ 0)) ∧ (r.toInt = 0 → (p0.toInt = 0 → (u0.1 104 0).toInt = 0) ∧ (p0.toInt = 1 → (u0.1 104 1).toInt = 0))) ∧ msI u ∧ unI u ∧ cdI u ∧ apI u ∧ auI u) (ac_B (dC, dI) vwCl (ac_ty cA) ad cA (TT nF) A) A) [.ref (ad 85), .int p0].toArray s 0 0 A) (F0 m 27 ls []) := by
    intro n27
    induction n27 with
    | zero => intro x2 u H locs ls hR hF hn27 hK_KG hK_RCx hK_AG f0 f1 f2 f3 hP hD hS hl; exfalso; omega
    | succ n27 ih27 =>
      intro x2 u H locs ls hR hF hn27 hK_KG hK_RCx hK_AG f0 f1 f2 f3 hP hD hS hl
      refine lv_iload_n F.1 F.2.1 dX12_restore_27 rfl (lv_at hl 2 rfl) ?_
      refine a_sp F (657 : Int32) dX12_restore_28 (by decide) ?_
      refine b_ge F 58 dX12_restore_31 (by decide) rfl ic_657 (fun c7 => ?_) (fun c7 => ?_)
      · refine a_ic F (0 : Int32) dX12_restore_58 (by decide) ?_
        refine lv_istore_n (lv' := [(2, .int (0 : Int32)), (0, .ref (ad 85)), (1, .int p0)]) F.1 F.2.1 dX12_restore_59 rfl hl (by decide) rfl (fun ls hl => ?_)
        have g8 : (0 : Int) ≤ (u.1 85 0).toInt ∧ (u.1 85 0).toInt ≤ 1 := hR 85 0
        exact L60 28 (0 : Int32) _ _ _ _ hR hF (by decide) (rc_ms hK_KG hK_RCx (by omega) (by omega)) (rc_cw hK_KG hK_RCx (by omega) (by omega)) (rc_ap hK_AG hK_RCx (by omega) (by omega)) (by omega) (by decide) (by omega : (0 : Int) ≤ (u.1 85 0).toInt ∧ (u.1 85 0).toInt ≤ 0) (by omega : (p0.toInt = 0 → (u0.1 104 0).toInt ≠ 0) ∧ (p0.toInt = 1 → (u0.1 104 1).toInt ≠ 0)) hP hD hS (lv_sub hl [1, 2, 0] rfl)
      · refine lv_aload_n F.1 F.2.1 dX12_restore_34 rfl (lv_at hl 0 rfl) ?_
        refine a_getr F inX12 hP 85 6 tc_85 rfl rfl (by decide) q1477 (fun _ h9 => h9) dX12_restore_35 ?_
        refine lv_iload_n F.1 F.2.1 dX12_restore_38 rfl (lv_at hl 2 rfl) ?_
        refine lv_aload_n F.1 F.2.1 dX12_restore_39 rfl (lv_at hl 0 rfl) ?_
        refine a_getr F inX12 hP 85 45 tc_85 rfl rfl (by decide) q1516 (fun _ h9 => h9) dX12_restore_40 ?_
        refine a_sp F (657 : Int32) dX12_restore_43 (by decide) ?_
        refine lv_iload_n F.1 F.2.1 dX12_restore_46 rfl (lv_at hl 1 rfl) ?_
        refine a_imul F dX12_restore_47 ic_657 rfl (by omega) (fun v9 hv9 => ?_)
        refine lv_iload_n F.1 F.2.1 dX12_restore_48 rfl (lv_at hl 2 rfl) ?_
        refine a_iadd F dX12_restore_49 rfl rfl (by omega) (fun v10 hv10 => ?_)
        refine a_iald F hP 102 tc_102 rfl (i_in rfl (by omega)) dX12_restore_50 (fun v11 ev11 => ?_)
        refine a_iast F hP hD hS 87 tc_87 rfl (i_in rfl (by omega)) dX12_restore_51 (fun H locs hP hD hS => ?_)
        have hR := hR.si (c := 87) (k := x2.toNatClampNeg) (v := v11) (rc_rg hR hK_KG (by omega) (k := v10) (by omega) (by omega) ev11)
        have hF := hF.si (c := 87) (k := x2.toNatClampNeg) (v := v11) rfl
        have hO_KG := hK_KG
        have hO_RCx := hK_RCx
        have hO_AG := hK_AG
        have hK_KG := sp_sgD (sp_KG _) hD hK_KG (by decide)
        have hK_RCx := rc_w hO_RCx (by omega) (i := x2) (k := v10) (by omega) (by omega) ev11
        have hK_AG := sp_sgD (sp_AG _) hD hK_AG (by decide)
        refine a_iinc F (k := 2) (fun v12 => [(2, .int v12), (0, .ref (ad 85)), (1, .int p0)]) dX12_restore_52 hl rfl rfl (by decide) (by omega) (by decide) (fun _ => rfl) (fun v12 ls hv12 hl => ?_)
        refine lv_goto (tgt := 27) F.1 F.2.1 dX12_restore_55 (by decide) ?_
        have g13 : (0 : Int) ≤ (u.1 85 0).toInt ∧ (u.1 85 0).toInt ≤ 1 := hR 85 0
        exact ih27 v12 _ _ _ _ hR hF (by omega) hK_KG (rc_eq hK_RCx (by omega)) hK_AG (by omega) (by omega) (by omega : (0 : Int) ≤ (u.1 85 0).toInt ∧ (u.1 85 0).toInt ≤ 0) (by omega : (p0.toInt = 0 → (u0.1 104 0).toInt ≠ 0) ∧ (p0.toInt = 1 → (u0.1 104 1).toInt ≠ 0)) hP hD hS (lv_sub hl [1, 2, 0] rfl)
  refine lv_aload_n F.1 F.2.1 dX12_restore_0 rfl (lv_at hl 0 rfl) ?_
  refine a_ic F (0 : Int32) dX12_restore_1 (by decide) ?_
  refine a_puti F inX12 tyX12 tyX12_ok nmX12 hP hD hS 85 0 tc_85 rfl rfl (by decide) q1471 (fun _ h9 => h9) rfl (ty := .int) (tyX12_ok 0 (by decide)) rfl rfl dX12_restore_2 (fun H locs hP hD hS => ?_)
  have hR := hR.si (c := 85) (k := 0) (v := (0 : Int32)) (by rw [ic_0]; exact (by omega : (0 : Int) ≤ (0 : Int) ∧ (0 : Int) ≤ 1))
  have hF := hF.si (c := 85) (k := 0) (v := (0 : Int32)) rfl
  have hK_MS := sp_sgD sp_MS hD hK_MS (by decide)
  have hK_UI := sp_si sp_UI hK_UI (c := 85) (k := 0) (v := (0 : Int32)) (fun j9 h9 q9 => by rw [q9] at h9; exact absurd h9 (by decide))
  have hK_CW := sp_sgD sp_CW hD hK_CW (by decide)
  have hK_AP := sp_sgD sp_AP hD hK_AP (by decide)
  have hK_AU := sp_si sp_AU hK_AU (c := 85) (k := 0) (v := (0 : Int32)) (fun j9 h9 q9 => by rw [q9] at h9; exact absurd h9 (by decide))
  have hK_KI := sp_sgD sp_KI hD hK_KI (by decide)
  have hK_AK := sp_sgD sp_AK hD hK_AK (by decide)
  refine lv_iload_n F.1 F.2.1 dX12_restore_5 rfl (lv_at hl 1 rfl) ?_
  refine a_ic F (0 : Int32) dX12_restore_6 (by decide) ?_
  refine a_ic F (1 : Int32) dX12_restore_7 (by decide) ?_
  refine a_Si F hml hl.1 hA hP hD hS (As := [.int p0, .int (0 : Int32), .int (1 : Int32)]) (c_X12_isIn_f l dC dI ad cA nF _ p0 (0 : Int32) (1 : Int32) hR (by decide)) (cs_RX12_187 (d := 1) F.2.2.1 (by decide)) rfl rfl (Nat.le_of_ble_eq_true rfl) dX12_restore_8 ⟨Nat.le_refl 0, Nat.le_refl 0⟩ (fun r14 uN14 H locs hq hP hD hS => ?_)
  obtain ⟨hu14, gr14, xr14⟩ := hq
  rw [hu14] at hP hD
  have xr14 : (r14.toInt ≠ 0 → (0 : Int) ≤ p0.toInt ∧ p0.toInt ≤ (1 : Int)) ∧ (r14.toInt = 0 → p0.toInt < (0 : Int) ∨ (1 : Int) < p0.toInt) := xr14
  refine z_eq F 23 dX12_restore_11 (by decide) rfl (fun c15 => ?_) (fun c15 => ?_)
  · refine a_ic F (0 : Int32) dX12_restore_23 (by decide) ?_
    exact a_retz F hr hlocks hP hD hS dX12_restore_24 (Or.inl rfl) ⟨hR, hF, (by decide), (by first | exact (by omega : ((0 : Int) ≠ 0 → (p0.toInt = 0 ∧ (u0.1 104 0).toInt ≠ 0) ∨ (p0.toInt = 1 ∧ (u0.1 104 1).toInt ≠ 0)) ∧ ((0 : Int) = 0 → (p0.toInt = 0 → (u0.1 104 0).toInt = 0) ∧ (p0.toInt = 1 → (u0.1 104 1).toInt = 0))) | (rw [ic_0]; exact (by omega : ((0 : Int) ≠ 0 → (p0.toInt = 0 ∧ (u0.1 104 0).toInt ≠ 0) ∨ (p0.toInt = 1 ∧ (u0.1 104 1).toInt ≠ 0)) ∧ ((0 : Int) = 0 → (p0.toInt = 0 → (u0.1 104 0).toInt = 0) ∧ (p0.toInt = 1 → (u0.1 104 1).toInt = 0))))), hK_MS, hK_UI, hK_CW, hK_AP, hK_AU⟩
  · refine lv_aload_n F.1 F.2.1 dX12_restore_14 rfl (lv_at hl 0 rfl) ?_
    refine a_getr F inX12 hP 85 47 tc_85 rfl rfl (by decide) q1518 (fun _ h9 => h9) dX12_restore_15 ?_
    refine lv_iload_n F.1 F.2.1 dX12_restore_18 rfl (lv_at hl 1 rfl) ?_
    refine a_zald F hP 104 tc_104 rfl (i_in rfl (by omega)) dX12_restore_19 (fun v16 ev16 => ?_)
    have hv16 : (0 : Int) ≤ v16.toInt ∧ v16.toInt ≤ 1 := ev16 ▸ hR 104 _
    have hav16 := ar_01 hF rfl rfl (i := p0) ev16
    refine z_ne F 25 dX12_restore_20 (by decide) rfl (fun c17 => ?_) (fun c17 => ?_)
    · refine a_ic F (0 : Int32) dX12_restore_25 (by decide) ?_
      refine lv_istore_n (lv' := [(2, .int (0 : Int32)), (0, .ref (ad 85)), (1, .int p0)]) F.1 F.2.1 dX12_restore_26 rfl hl (by decide) rfl (fun ls hl => ?_)
      exact L27 659 (0 : Int32) _ _ _ _ hR hF (by decide) (kp_get hK_KI (i := p0) (by omega) ev16 (by omega)) (rc_0 (by decide)) (ak_get hK_AK (i := p0) (by omega) ev16 (by omega)) (by omega) (by decide) (by omega : (0 : Int) ≤ (0 : Int) ∧ (0 : Int) ≤ 0) (by omega : (p0.toInt = 0 → (u0.1 104 0).toInt ≠ 0) ∧ (p0.toInt = 1 → (u0.1 104 1).toInt ≠ 0)) hP hD hS (lv_sub hl [1, 2, 0] rfl)
    · refine a_ic F (0 : Int32) dX12_restore_23 (by decide) ?_
      exact a_retz F hr hlocks hP hD hS dX12_restore_24 (Or.inl rfl) ⟨hR, hF, (by decide), (by first | exact (by omega : ((0 : Int) ≠ 0 → (p0.toInt = 0 ∧ (u0.1 104 0).toInt ≠ 0) ∨ (p0.toInt = 1 ∧ (u0.1 104 1).toInt ≠ 0)) ∧ ((0 : Int) = 0 → (p0.toInt = 0 → (u0.1 104 0).toInt = 0) ∧ (p0.toInt = 1 → (u0.1 104 1).toInt = 0))) | (rw [ic_0]; exact (by omega : ((0 : Int) ≠ 0 → (p0.toInt = 0 ∧ (u0.1 104 0).toInt ≠ 0) ∨ (p0.toInt = 1 ∧ (u0.1 104 1).toInt ≠ 0)) ∧ ((0 : Int) = 0 → (p0.toInt = 0 → (u0.1 104 0).toInt = 0) ∧ (p0.toInt = 1 → (u0.1 104 1).toInt = 0))))), hK_MS, hK_UI, hK_CW, hK_AP, hK_AU⟩
set_option maxHeartbeats 600000 in
set_option maxRecDepth 100000 in
theorem c_X12_sentence_85__2 (l : Launch) (dC : Nat → ClassId) (dI : Nat → Nat → Nat) (ad : Nat → Nat) (cA : Nat → ClassId) (nF : Nat) (u0 : ac_U)  (hR : ac_R rg u0) (hK_MS : msI u0) (hK_UI : unI u0) (hK_CW : cdI u0) (hK_AP : apI u0) (hK_AU : auI u0) : ac_Mi l yX12_sentence (.code yX12_sentence cX12_sentence 3 (some .int) :: TB) 4 (dC, dI) vwCl (ac_ty cA) ad cA (TT nF) [.ref (ad 85)] u0 (fun (r : Int32) (u : ac_U) => ac_R rg u ∧ ac_Fr [(85, some 0), (85, some 2), (85, some 3), (85, some 4), (85, some 5), (85, some 11), (85, some 12), (85, some 13), (85, some 14), (85, some 15), (85, some 16), (85, some 18), (85, some 39), (85, some 40), (85, some 41), (85, some 42), (85, some 43), (87, none), (89, none), (100, none)] u0 u ∧ msI u ∧ unI u ∧ cdI u ∧ apI u ∧ auI u ∧ (ln0 85) u) := by
  refine ac_Mi.of (cc := cX12_sentence) (maxL := 3) (ret := (some .int)) (by decide) rfl (Nat.le_of_ble_eq_true rfl) ?_
  intro p e s m below meth c A ls F hml hr hlocks hA hP hD hS hl
  have F : ac_X p s m [.ref (ad 85)].toArray c cX12_sentence RX12 TB (dC, dI) vwCl (ac_ty cA) := ⟨F.1, F.2.1, fun w h => F.2.2.1 w (List.mem_cons_of_mem _ h), F.2.2.2.1, F.2.2.2.2⟩
  have hl : lv_has ls 3 [(0, .ref (ad 85))] := hl
  have hF : ac_Fr [(85, some 0), (85, some 2), (85, some 3), (85, some 4), (85, some 5), (85, some 11), (85, some 12), (85, some 13), (85, some 14), (85, some 15), (85, some 16), (85, some 18), (85, some 39), (85, some 40), (85, some 41), (85, some 42), (85, some 43), (87, none), (89, none), (100, none)] u0 u0 := ac_Fr.rf
  have L146 : ∀ (n146 : Nat) (x2 : Int32) (u : ac_U) (H : Heap) (locs : List Loc) (ls : Array Slot), ac_R rg u → ac_Fr [(85, some 0), (85, some 2), (85, some 3), (85, some 4), (85, some 5), (85, some 11), (85, some 12), (85, some 13), (85, some 14), (85, some 15), (85, some 16), (85, some 18), (85, some 39), (85, some 40), (85, some 41), (85, some 42), (85, some 43), (87, none), (89, none), (100, none)] u0 u → 135 - x2.toInt < (n146 : Int) → msI u → unI u → swW u → scI x2.toInt u → apI u → auI u → (ln0 85) u → (0 : Int) ≤ x2.toInt ∧ x2.toInt ≤ 135 → (0 : Int) ≤ (u.1 85 0).toInt ∧ (u.1 85 0).toInt ≤ 0 → va_P (dC, dI) vwCl (ac_w ad cA (TT nF) u) H → va_D A (ac_w ad cA (TT nF) u) → va_S A s.heap H locs → lv_has ls 3 [(0, .ref (ad 85)), (2, .int x2)] → W p l e (ac_rm 4) s m [.ref (ad 85)].toArray below meth c H locs 0 0 (MQ below (va_Qi (fun (r : Int32) (u : ac_U) => ac_R rg u ∧ ac_Fr [(85, some 0), (85, some 2), (85, some 3), (85, some 4), (85, some 5), (85, some 11), (85, some 12), (85, some 13), (85, some 14), (85, some 15), (85, some 16), (85, some 18), (85, some 39), (85, some 40), (85, some 41), (85, some 42), (85, some 43), (87, none), (89, none), (100, none)] u0 u ∧ msI u ∧ unI u ∧ cdI u ∧ apI u ∧ auI u ∧ (ln0 85) u) (ac_B (dC, dI) vwCl (ac_ty cA) ad cA (TT nF) A) A) [.ref (ad 85)].toArray s 0 0 A) (F0 m 146 ls []) := by
    intro n146
    induction n146 with
    | zero => intro x2 u H locs ls hR hF hn146 hK_MS hK_UI hK_SWW hK_SCx hK_AP hK_AU hK_LR f0 f1 hP hD hS hl; exfalso; omega
    | succ n146 ih146 =>
      intro x2 u H locs ls hR hF hn146 hK_MS hK_UI hK_SWW hK_SCx hK_AP hK_AU hK_LR f0 f1 hP hD hS hl
      refine lv_iload_n F.1 F.2.1 dX12_sentence_146 rfl (lv_at hl 1 rfl) ?_
      refine a_ic F (3 : Int32) dX12_sentence_147 (by decide) ?_
      refine lv_aload_n F.1 F.2.1 dX12_sentence_148 rfl (lv_at hl 0 rfl) ?_
      have g1 : (0 : Int) ≤ (u.1 85 39).toInt ∧ (u.1 85 39).toInt ≤ 45 := hR 85 39
      refine a_geti F inX12 hP 85 39 tc_85 rfl rfl (by decide) q1510 (fun _ h9 => h9) (v := (u.1 85 39)) rfl dX12_sentence_149 ?_
      refine a_imul F dX12_sentence_152 ic_3 rfl (by omega) (fun v2 hv2 => ?_)
      refine b_ge F 178 dX12_sentence_153 (by decide) rfl rfl (fun c3 => ?_) (fun c3 => ?_)
      · refine lv_aload_n F.1 F.2.1 dX12_sentence_178 rfl (lv_at hl 0 rfl) ?_
        have g4 : (0 : Int) ≤ (u.1 85 40).toInt ∧ (u.1 85 40).toInt ≤ 20 := hR 85 40
        refine a_geti F inX12 hP 85 40 tc_85 rfl rfl (by decide) q1511 (fun _ h9 => h9) (v := (u.1 85 40)) rfl dX12_sentence_179 ?_
        exact a_reti F hr hlocks hP hD hS dX12_sentence_182 ⟨hR, hF, hK_MS, hK_UI, (sc_cw hK_SWW hK_SCx (by omega) (by omega)), hK_AP, hK_AU, hK_LR⟩
      · refine lv_aload_n F.1 F.2.1 dX12_sentence_156 rfl (lv_at hl 0 rfl) ?_
        refine a_getr F inX12 hP 85 6 tc_85 rfl rfl (by decide) q1477 (fun _ h9 => h9) dX12_sentence_157 ?_
        refine a_sp F (477 : Int32) dX12_sentence_160 (by decide) ?_
        refine lv_iload_n F.1 F.2.1 dX12_sentence_163 rfl (lv_at hl 1 rfl) ?_
        refine a_iadd F dX12_sentence_164 ic_477 rfl (by omega) (fun v5 hv5 => ?_)
        refine lv_aload_n F.1 F.2.1 dX12_sentence_165 rfl (lv_at hl 0 rfl) ?_
        refine a_getr F inX12 hP 85 8 tc_85 rfl rfl (by decide) q1479 (fun _ h9 => h9) dX12_sentence_166 ?_
        refine lv_iload_n F.1 F.2.1 dX12_sentence_169 rfl (lv_at hl 1 rfl) ?_
        refine a_iald F hP 89 tc_89 rfl (i_in rfl (by omega)) dX12_sentence_170 (fun v6 ev6 => ?_)
        refine a_iast F hP hD hS 87 tc_87 rfl (i_in rfl (by omega)) dX12_sentence_171 (fun H locs hP hD hS => ?_)
        have hR := hR.si (c := 87) (k := v5.toNatClampNeg) (v := v6) (rs_87_477_611 (by omega) ⟨i_lo _, i_hi _⟩)
        have hF := hF.si (c := 87) (k := v5.toNatClampNeg) (v := v6) rfl
        have hO_MS := hK_MS
        have hO_UI := hK_UI
        have hO_SWW := hK_SWW
        have hO_SCx := hK_SCx
        have hO_AP := hK_AP
        have hO_AU := hK_AU
        have hO_LR := hK_LR
        have hK_MS := sp_si sp_MS hK_MS (c := 87) (k := v5.toNatClampNeg) (v := v6) (fun j9 h9 => by have q8 := sp_mem h9; simp at q8; have q9 := i_cl (x := v5) (by omega); omega)
        have hK_UI := sp_si sp_UI hK_UI (c := 87) (k := v5.toNatClampNeg) (v := v6) (fun j9 h9 => by have q8 := sp_mem h9; simp at q8; have q9 := i_cl (x := v5) (by omega); omega)
        have hK_SWW := sp_sgD sp_SWW hD hK_SWW (by decide)
        have hK_SCx := sc_w hO_SCx (i := x2) (k := v5) (by omega) (by omega) ev6
        have hK_AP := sp_si sp_AP hK_AP (c := 87) (k := v5.toNatClampNeg) (v := v6) (fun j9 h9 => by have q8 := sp_mem h9; simp at q8; have q9 := i_cl (x := v5) (by omega); omega)
        have hK_AU := sp_si sp_AU hK_AU (c := 87) (k := v5.toNatClampNeg) (v := v6) (fun j9 h9 => by have q8 := sp_mem h9; simp at q8; have q9 := i_cl (x := v5) (by omega); omega)
        have hK_LR := sp_sgD (sp_ln0 85) hD hK_LR (by decide)
        refine a_iinc F (k := 1) (fun v7 => [(2, .int v7), (0, .ref (ad 85))]) dX12_sentence_172 hl rfl rfl (by decide) (by omega) (by decide) (fun _ => rfl) (fun v7 ls hv7 hl => ?_)
        refine lv_goto (tgt := 146) F.1 F.2.1 dX12_sentence_175 (by decide) ?_
        have g8 : (0 : Int) ≤ (u.1 85 0).toInt ∧ (u.1 85 0).toInt ≤ 1 := hR 85 0
        exact ih146 v7 _ _ _ _ hR hF (by omega) hK_MS hK_UI hK_SWW (sc_le hK_SCx (by omega)) hK_AP hK_AU hK_LR (by omega) (by omega : (0 : Int) ≤ (u.1 85 0).toInt ∧ (u.1 85 0).toInt ≤ 0) hP hD hS (lv_sub hl [1, 0] rfl)
  have L125 : ∀ (u : ac_U) (H : Heap) (locs : List Loc) (ls : Array Slot), ac_R rg u → ac_Fr [(85, some 0), (85, some 2), (85, some 3), (85, some 4), (85, some 5), (85, some 11), (85, some 12), (85, some 13), (85, some 14), (85, some 15), (85, some 16), (85, some 18), (85, some 39), (85, some 40), (85, some 41), (85, some 42), (85, some 43), (87, none), (89, none), (100, none)] u0 u → msI u → unI u → cdI u → apI u → auI u → (ln0 85) u → (0 : Int) ≤ (u.1 85 0).toInt ∧ (u.1 85 0).toInt ≤ 0 → va_P (dC, dI) vwCl (ac_w ad cA (TT nF) u) H → va_D A (ac_w ad cA (TT nF) u) → va_S A s.heap H locs → lv_has ls 3 [(0, .ref (ad 85))] → W p l e (ac_rm 4) s m [.ref (ad 85)].toArray below meth c H locs 0 0 (MQ below (va_Qi (fun (r : Int32) (u : ac_U) => ac_R rg u ∧ ac_Fr [(85, some 0), (85, some 2), (85, some 3), (85, some 4), (85, some 5), (85, some 11), (85, some 12), (85, some 13), (85, some 14), (85, some 15), (85, some 16), (85, some 18), (85, some 39), (85, some 40), (85, some 41), (85, some 42), (85, some 43), (87, none), (89, none), (100, none)] u0 u ∧ msI u ∧ unI u ∧ cdI u ∧ apI u ∧ auI u ∧ (ln0 85) u) (ac_B (dC, dI) vwCl (ac_ty cA) ad cA (TT nF) A) A) [.ref (ad 85)].toArray s 0 0 A) (F0 m 125 ls []) := by
    intro u H locs ls hR hF hK_MS hK_UI hK_CW hK_AP hK_AU hK_LR f0 hP hD hS hl
    refine a_ic F (-1 : Int32) dX12_sentence_125 (by decide) ?_
    refine lv_aload_n F.1 F.2.1 dX12_sentence_126 rfl (lv_at hl 0 rfl) ?_
    refine a_geti F inX12 hP 85 16 tc_85 rfl rfl (by decide) q1487 (fun _ h9 => h9) (v := (u.1 85 16)) rfl dX12_sentence_127 ?_
    refine a_isub F dX12_sentence_130 ic_m1 rfl (by have q0 := i_lo (u.1 85 16); have q1 := i_hi (u.1 85 16); omega) (fun v9 hv9 => ?_)
    exact a_reti F hr hlocks hP hD hS dX12_sentence_131 ⟨hR, hF, hK_MS, hK_UI, hK_CW, hK_AP, hK_AU, hK_LR⟩
  have L48 : ∀ (n48 : Nat) (x1 : Int32) (u : ac_U) (H : Heap) (locs : List Loc) (ls : Array Slot), ac_R rg u → ac_Fr [(85, some 0), (85, some 2), (85, some 3), (85, some 4), (85, some 5), (85, some 11), (85, some 12), (85, some 13), (85, some 14), (85, some 15), (85, some 16), (85, some 18), (85, some 39), (85, some 40), (85, some 41), (85, some 42), (85, some 43), (87, none), (89, none), (100, none)] u0 u → 4 * (21 - (u.1 85 40).toInt) + (u.1 85 41).toInt + 2 * (u.1 85 43).toInt + x1.toInt < (n48 : Int) → msI u → unI u → cdI u → apI u → auI u → swW u → (ln0 85) u → (0 : Int) ≤ x1.toInt ∧ x1.toInt ≤ 1 → (0 : Int) ≤ (u.1 85 0).toInt ∧ (u.1 85 0).toInt ≤ 0 → (u.1 85 39).toInt + (u.1 85 41).toInt ≤ 2 * (u.1 85 40).toInt - (u.1 85 43).toInt → va_P (dC, dI) vwCl (ac_w ad cA (TT nF) u) H → va_D A (ac_w ad cA (TT nF) u) → va_S A s.heap H locs → lv_has ls 3 [(0, .ref (ad 85)), (1, .int x1)] → W p l e (ac_rm 4) s m [.ref (ad 85)].toArray below meth c H locs 0 0 (MQ below (va_Qi (fun (r : Int32) (u : ac_U) => ac_R rg u ∧ ac_Fr [(85, some 0), (85, some 2), (85, some 3), (85, some 4), (85, some 5), (85, some 11), (85, some 12), (85, some 13), (85, some 14), (85, some 15), (85, some 16), (85, some 18), (85, some 39), (85, some 40), (85, some 41), (85, some 42), (85, some 43), (87, none), (89, none), (100, none)] u0 u ∧ msI u ∧ unI u ∧ cdI u ∧ apI u ∧ auI u ∧ (ln0 85) u) (ac_B (dC, dI) vwCl (ac_ty cA) ad cA (TT nF) A) A) [.ref (ad 85)].toArray s 0 0 A) (F0 m 48 ls []) := by
    intro n48
    induction n48 with
    | zero => intro x1 u H locs ls hR hF hn48 hK_MS hK_UI hK_CW hK_AP hK_AU hK_SWW hK_LR f0 f1 f2 hP hD hS hl; have gz0 : (0 : Int) ≤ (u.1 85 40).toInt ∧ (u.1 85 40).toInt ≤ 20 := hR 85 40; have gz1 : (0 : Int) ≤ (u.1 85 41).toInt ∧ (u.1 85 41).toInt ≤ 45 := hR 85 41; have gz2 : (0 : Int) ≤ (u.1 85 43).toInt ∧ (u.1 85 43).toInt ≤ 1 := hR 85 43; exfalso; omega
    | succ n48 ih48 =>
      intro x1 u H locs ls hR hF hn48 hK_MS hK_UI hK_CW hK_AP hK_AU hK_SWW hK_LR f0 f1 f2 hP hD hS hl
      have L101 : ∀ (x1 : Int32) (u : ac_U) (H : Heap) (locs : List Loc) (ls : Array Slot), ac_R rg u → ac_Fr [(85, some 0), (85, some 2), (85, some 3), (85, some 4), (85, some 5), (85, some 11), (85, some 12), (85, some 13), (85, some 14), (85, some 15), (85, some 16), (85, some 18), (85, some 39), (85, some 40), (85, some 41), (85, some 42), (85, some 43), (87, none), (89, none), (100, none)] u0 u → msI u → unI u → cdI u → apI u → auI u → swW u → (ln0 85) u → (1 : Int) ≤ x1.toInt ∧ x1.toInt ≤ 1 → (0 : Int) ≤ (u.1 85 0).toInt ∧ (u.1 85 0).toInt ≤ 0 → (0 : Int) ≤ (u.1 85 43).toInt ∧ (u.1 85 43).toInt ≤ 1 → (u.1 85 39).toInt + (u.1 85 41).toInt ≤ 2 * (u.1 85 40).toInt - (u.1 85 43).toInt → 4 * (21 - (u.1 85 40).toInt) + (u.1 85 41).toInt + 2 * (u.1 85 43).toInt + x1.toInt < ((n48 : Nat) : Int) + 1 → va_P (dC, dI) vwCl (ac_w ad cA (TT nF) u) H → va_D A (ac_w ad cA (TT nF) u) → va_S A s.heap H locs → lv_has ls 3 [(0, .ref (ad 85)), (1, .int x1)] → W p l e (ac_rm 4) s m [.ref (ad 85)].toArray below meth c H locs 0 0 (MQ below (va_Qi (fun (r : Int32) (u : ac_U) => ac_R rg u ∧ ac_Fr [(85, some 0), (85, some 2), (85, some 3), (85, some 4), (85, some 5), (85, some 11), (85, some 12), (85, some 13), (85, some 14), (85, some 15), (85, some 16), (85, some 18), (85, some 39), (85, some 40), (85, some 41), (85, some 42), (85, some 43), (87, none), (89, none), (100, none)] u0 u ∧ msI u ∧ unI u ∧ cdI u ∧ apI u ∧ auI u ∧ (ln0 85) u) (ac_B (dC, dI) vwCl (ac_ty cA) ad cA (TT nF) A) A) [.ref (ad 85)].toArray s 0 0 A) (F0 m 101 ls []) := by
        intro x1 u H locs ls hR hF hK_MS hK_UI hK_CW hK_AP hK_AU hK_SWW hK_LR f0 f1 f2 f3 f4 hP hD hS hl
        refine lv_aload_n F.1 F.2.1 dX12_sentence_101 rfl (lv_at hl 0 rfl) ?_
        have g10 : (0 : Int) ≤ (u.1 85 43).toInt ∧ (u.1 85 43).toInt ≤ 1 := hR 85 43
        refine a_geti F inX12 hP 85 43 tc_85 rfl rfl (by decide) q1514 (fun _ h9 => h9) (v := (u.1 85 43)) rfl dX12_sentence_102 ?_
        refine z_eq F 118 dX12_sentence_105 (by decide) rfl (fun c11 => ?_) (fun c11 => ?_)
        · refine lv_aload_n F.1 F.2.1 dX12_sentence_118 rfl (lv_at hl 0 rfl) ?_
          have g12 : (0 : Int) ≤ (u.1 85 39).toInt ∧ (u.1 85 39).toInt ≤ 45 := hR 85 39
          have g13 : (0 : Int) ≤ (u.1 85 41).toInt ∧ (u.1 85 41).toInt ≤ 45 := hR 85 41
          have g14 : (0 : Int) ≤ (u.1 85 40).toInt ∧ (u.1 85 40).toInt ≤ 20 := hR 85 40
          refine a_Vi F hml hl.1 hA hP hD hS (As := []) (c_X12_operand_85 l dC dI ad cA nF _  hR (by omega : (0 : Int) ≤ (u.1 85 43).toInt ∧ (u.1 85 43).toInt ≤ 0) (by omega : (u.1 85 39).toInt + (u.1 85 41).toInt ≤ 2 * (u.1 85 40).toInt) (sw_of hK_SWW (by omega))) (cs_RX12_444 (d := 3) F.2.2.1 (by decide)) tc_85 rfl rfl rfl rfl (Nat.le_of_ble_eq_true rfl) dX12_sentence_119 ⟨Nat.le_refl 0, Nat.le_refl 0⟩ (fun r15 u15 H locs hq hP hD hS => ?_)
          obtain ⟨hR, hF15, gr15, xr15, hK_r15_SWW⟩ := hq
          have hF := hF.tr hF15 (by decide)
          have hK_MS := sp_fr sp_MS hF15 (by decide) hK_MS
          have hK_UI := sp_fr sp_UI hF15 (by decide) hK_UI
          have hK_CW := sp_fr sp_CW hF15 (by decide) hK_CW
          have hK_AP := sp_fr sp_AP hF15 (by decide) hK_AP
          have hK_AU := sp_fr sp_AU hF15 (by decide) hK_AU
          have hK_LR := sp_fr (sp_ln0 85) hF15 (by decide) hK_LR
          have g16 : (0 : Int) ≤ (u15.1 85 40).toInt ∧ (u15.1 85 40).toInt ≤ 20 := hR 85 40
          have g17 : (0 : Int) ≤ (u15.1 85 39).toInt ∧ (u15.1 85 39).toInt ≤ 45 := hR 85 39
          have g18 : (0 : Int) ≤ (u15.1 85 41).toInt ∧ (u15.1 85 41).toInt ≤ 45 := hR 85 41
          have g19 : (0 : Int) ≤ (u15.1 85 43).toInt ∧ (u15.1 85 43).toInt ≤ 1 := hR 85 43
          have xr15 : r15.toInt ≠ 0 → (u15.1 85 40).toInt = (u.1 85 40).toInt + 1 ∧ (u15.1 85 39).toInt + (u15.1 85 41).toInt ≤ 2 * (u15.1 85 40).toInt - (u15.1 85 43).toInt ∧ (u15.1 85 41).toInt + 2 * (u15.1 85 43).toInt ≤ (u.1 85 41).toInt + 2 := xr15
          refine z_ne F 48 dX12_sentence_122 (by decide) rfl (fun c20 => ?_) (fun c20 => ?_)
          · have hK_SWW := hK_r15_SWW (by omega)
            exact ih48 x1 _ _ _ _ hR hF (by omega : 4 * (21 - (u15.1 85 40).toInt) + (u15.1 85 41).toInt + 2 * (u15.1 85 43).toInt + x1.toInt < ((n48 : Nat) : Int)) hK_MS hK_UI hK_CW hK_AP hK_AU hK_SWW hK_LR (by omega) (i_trB (hF15 85 0 rfl) (by omega : (0 : Int) ≤ (u.1 85 0).toInt ∧ (u.1 85 0).toInt ≤ 0)) (by omega : (u15.1 85 39).toInt + (u15.1 85 41).toInt ≤ 2 * (u15.1 85 40).toInt - (u15.1 85 43).toInt) hP hD hS (lv_sub hl [0, 1] rfl)
          · exact L125 _ _ _ _ hR hF hK_MS hK_UI hK_CW hK_AP hK_AU hK_LR (i_trB (hF15 85 0 rfl) (by omega : (0 : Int) ≤ (u.1 85 0).toInt ∧ (u.1 85 0).toInt ≤ 0)) hP hD hS (lv_sub hl [0] rfl)
        · refine lv_aload_n F.1 F.2.1 dX12_sentence_108 rfl (lv_at hl 0 rfl) ?_
          have g21 : (0 : Int) ≤ (u.1 85 39).toInt ∧ (u.1 85 39).toInt ≤ 45 := hR 85 39
          have g22 : (0 : Int) ≤ (u.1 85 41).toInt ∧ (u.1 85 41).toInt ≤ 45 := hR 85 41
          have g23 : (0 : Int) ≤ (u.1 85 40).toInt ∧ (u.1 85 40).toInt ≤ 20 := hR 85 40
          refine a_Vi F hml hl.1 hA hP hD hS (As := []) (c_X12_behind_85 l dC dI ad cA nF _  hR (by omega : (1 : Int) ≤ (u.1 85 43).toInt ∧ (u.1 85 43).toInt ≤ 1) (by omega : (u.1 85 39).toInt + (u.1 85 41).toInt + 1 ≤ 2 * (u.1 85 40).toInt) (sw_of hK_SWW (by omega))) (cs_RX12_441 (d := 3) F.2.2.1 (by decide)) tc_85 rfl rfl rfl rfl (Nat.le_of_ble_eq_true rfl) dX12_sentence_109 ⟨Nat.le_refl 0, Nat.le_refl 0⟩ (fun r24 u24 H locs hq hP hD hS => ?_)
          obtain ⟨hR, hF24, gr24, xr24, hK_r24_SWW⟩ := hq
          have hF := hF.tr hF24 (by decide)
          have hK_MS := sp_fr sp_MS hF24 (by decide) hK_MS
          have hK_UI := sp_fr sp_UI hF24 (by decide) hK_UI
          have hK_CW := sp_fr sp_CW hF24 (by decide) hK_CW
          have hK_AP := sp_fr sp_AP hF24 (by decide) hK_AP
          have hK_AU := sp_fr sp_AU hF24 (by decide) hK_AU
          have hK_LR := sp_fr (sp_ln0 85) hF24 (by decide) hK_LR
          have k25 : (u24.1 85 40).toInt = (u.1 85 40).toInt := congrArg Int32.toInt (show u24.1 85 40 = (u.1 85 40) from hF24 85 40 rfl)
          have g26 : (0 : Int) ≤ (u24.1 85 39).toInt ∧ (u24.1 85 39).toInt ≤ 45 := hR 85 39
          have g27 : (0 : Int) ≤ (u24.1 85 41).toInt ∧ (u24.1 85 41).toInt ≤ 45 := hR 85 41
          have g28 : (0 : Int) ≤ (u24.1 85 43).toInt ∧ (u24.1 85 43).toInt ≤ 1 := hR 85 43
          have xr24 : r24.toInt ≠ 0 → (u24.1 85 40).toInt = (u.1 85 40).toInt ∧ (u24.1 85 39).toInt + (u24.1 85 41).toInt ≤ 2 * (u24.1 85 40).toInt - (u24.1 85 43).toInt ∧ (u24.1 85 41).toInt + 2 * (u24.1 85 43).toInt + 1 ≤ (u.1 85 41).toInt + 2 := xr24
          refine z_ne F 48 dX12_sentence_112 (by decide) rfl (fun c29 => ?_) (fun c29 => ?_)
          · have hK_SWW := hK_r24_SWW (by omega)
            exact ih48 x1 _ _ _ _ hR hF (by show 4 * (21 - (u24.1 85 40).toInt) + (u24.1 85 41).toInt + 2 * (u24.1 85 43).toInt + x1.toInt < ((n48 : Nat) : Int); rw [hF24 85 40 rfl]; exact (by omega : 4 * (21 - (u.1 85 40).toInt) + (u24.1 85 41).toInt + 2 * (u24.1 85 43).toInt + x1.toInt < ((n48 : Nat) : Int))) hK_MS hK_UI hK_CW hK_AP hK_AU hK_SWW hK_LR (by omega) (i_trB (hF24 85 0 rfl) (by omega : (0 : Int) ≤ (u.1 85 0).toInt ∧ (u.1 85 0).toInt ≤ 0)) (by rw [hF24 85 40 rfl]; try exact (by omega : (u24.1 85 39).toInt + (u24.1 85 41).toInt ≤ 2 * (u.1 85 40).toInt - (u24.1 85 43).toInt)) hP hD hS (lv_sub hl [0, 1] rfl)
          · refine lv_goto (tgt := 125) F.1 F.2.1 dX12_sentence_115 (by decide) ?_
            exact L125 _ _ _ _ hR hF hK_MS hK_UI hK_CW hK_AP hK_AU hK_LR (i_trB (hF24 85 0 rfl) (by omega : (0 : Int) ≤ (u.1 85 0).toInt ∧ (u.1 85 0).toInt ≤ 0)) hP hD hS (lv_sub hl [0] rfl)
      refine lv_iload_n F.1 F.2.1 dX12_sentence_48 rfl (lv_at hl 1 rfl) ?_
      refine z_eq F 132 dX12_sentence_49 (by decide) rfl (fun c30 => ?_) (fun c30 => ?_)
      · refine lv_aload_n F.1 F.2.1 dX12_sentence_132 rfl (lv_at hl 0 rfl) ?_
        refine a_getr F inX12 hP 85 6 tc_85 rfl rfl (by decide) q1477 (fun _ h9 => h9) dX12_sentence_133 ?_
        refine a_sp F (476 : Int32) dX12_sentence_136 (by decide) ?_
        refine lv_aload_n F.1 F.2.1 dX12_sentence_139 rfl (lv_at hl 0 rfl) ?_
        have g31 : (0 : Int) ≤ (u.1 85 39).toInt ∧ (u.1 85 39).toInt ≤ 45 := hR 85 39
        refine a_geti F inX12 hP 85 39 tc_85 rfl rfl (by decide) q1510 (fun _ h9 => h9) (v := (u.1 85 39)) rfl dX12_sentence_140 ?_
        refine a_iastK F hP hD hS 87 476 tc_87 rfl rfl (i_in ic_476 (by omega)) dX12_sentence_143 (fun H locs hP hD hS => ?_)
        have hR := hR.si (c := 87) (k := 476) (v := (u.1 85 39)) (by omega : (0 : Int) ≤ (u.1 85 39).toInt ∧ (u.1 85 39).toInt ≤ 45)
        have hF := hF.si (c := 87) (k := 476) (v := (u.1 85 39)) rfl
        have hO_MS := hK_MS
        have hO_UI := hK_UI
        have hO_CW := hK_CW
        have hO_AP := hK_AP
        have hO_AU := hK_AU
        have hO_SWW := hK_SWW
        have hO_LR := hK_LR
        have hN_SCz := sc_0D (n := 0) hD (rfl) (by decide)
        have hK_MS := sp_si sp_MS hK_MS (c := 87) (k := 476) (v := (u.1 85 39)) (fun j9 h9 q9 => by rw [q9] at h9; exact absurd h9 (by decide))
        have hK_UI := sp_si sp_UI hK_UI (c := 87) (k := 476) (v := (u.1 85 39)) (fun j9 h9 q9 => by rw [q9] at h9; exact absurd h9 (by decide))
        have hK_AP := sp_si sp_AP hK_AP (c := 87) (k := 476) (v := (u.1 85 39)) (fun j9 h9 q9 => by rw [q9] at h9; exact absurd h9 (by decide))
        have hK_AU := sp_si sp_AU hK_AU (c := 87) (k := 476) (v := (u.1 85 39)) (fun j9 h9 q9 => by rw [q9] at h9; exact absurd h9 (by decide))
        have hK_SWW := sp_sgD sp_SWW hD hK_SWW (by decide)
        have hK_LR := sp_sgD (sp_ln0 85) hD hK_LR (by decide)
        have hK_SCz := hN_SCz
        refine a_ic F (0 : Int32) dX12_sentence_144 (by decide) ?_
        refine lv_istore_n (lv' := [(2, .int (0 : Int32)), (0, .ref (ad 85)), (1, .int x1)]) F.1 F.2.1 dX12_sentence_145 rfl hl (by decide) rfl (fun ls hl => ?_)
        have g32 : (0 : Int) ≤ (u.1 85 0).toInt ∧ (u.1 85 0).toInt ≤ 1 := hR 85 0
        exact L146 137 (0 : Int32) _ _ _ _ hR hF (by decide) hK_MS hK_UI hK_SWW (sc_le hK_SCz (by decide)) hK_AP hK_AU hK_LR (by decide) (by omega : (0 : Int) ≤ (u.1 85 0).toInt ∧ (u.1 85 0).toInt ≤ 0) hP hD hS (lv_sub hl [1, 0] rfl)
      · refine lv_aload_n F.1 F.2.1 dX12_sentence_52 rfl (lv_at hl 0 rfl) ?_
        have g33 : (0 : Int) ≤ (u.1 85 43).toInt ∧ (u.1 85 43).toInt ≤ 1 := hR 85 43
        refine a_geti F inX12 hP 85 43 tc_85 rfl rfl (by decide) q1514 (fun _ h9 => h9) (v := (u.1 85 43)) rfl dX12_sentence_53 ?_
        refine z_eq F 101 dX12_sentence_56 (by decide) rfl (fun c34 => ?_) (fun c34 => ?_)
        · have g35 : (0 : Int) ≤ (u.1 85 0).toInt ∧ (u.1 85 0).toInt ≤ 1 := hR 85 0
          have g36 : (0 : Int) ≤ (u.1 85 39).toInt ∧ (u.1 85 39).toInt ≤ 45 := hR 85 39
          have g37 : (0 : Int) ≤ (u.1 85 41).toInt ∧ (u.1 85 41).toInt ≤ 45 := hR 85 41
          have g38 : (0 : Int) ≤ (u.1 85 40).toInt ∧ (u.1 85 40).toInt ≤ 20 := hR 85 40
          exact L101 x1 _ _ _ _ hR hF hK_MS hK_UI hK_CW hK_AP hK_AU hK_SWW hK_LR (by omega) (by omega : (0 : Int) ≤ (u.1 85 0).toInt ∧ (u.1 85 0).toInt ≤ 0) (by omega : (0 : Int) ≤ (u.1 85 43).toInt ∧ (u.1 85 43).toInt ≤ 1) (by omega : (u.1 85 39).toInt + (u.1 85 41).toInt ≤ 2 * (u.1 85 40).toInt - (u.1 85 43).toInt) (by omega : 4 * (21 - (u.1 85 40).toInt) + (u.1 85 41).toInt + 2 * (u.1 85 43).toInt + x1.toInt < ((n48 : Nat) : Int) + 1) hP hD hS (lv_sub hl [0, 1] rfl)
        · refine lv_aload_n F.1 F.2.1 dX12_sentence_59 rfl (lv_at hl 0 rfl) ?_
          have g39 : (0 : Int) ≤ (u.1 85 11).toInt ∧ (u.1 85 11).toInt ≤ 4 := hR 85 11
          refine a_geti F inX12 hP 85 11 tc_85 rfl rfl (by decide) q1482 (fun _ h9 => h9) (v := (u.1 85 11)) rfl dX12_sentence_60 ?_
          refine z_ne F 101 dX12_sentence_63 (by decide) rfl (fun c40 => ?_) (fun c40 => ?_)
          · have g41 : (0 : Int) ≤ (u.1 85 0).toInt ∧ (u.1 85 0).toInt ≤ 1 := hR 85 0
            have g42 : (0 : Int) ≤ (u.1 85 39).toInt ∧ (u.1 85 39).toInt ≤ 45 := hR 85 39
            have g43 : (0 : Int) ≤ (u.1 85 41).toInt ∧ (u.1 85 41).toInt ≤ 45 := hR 85 41
            have g44 : (0 : Int) ≤ (u.1 85 40).toInt ∧ (u.1 85 40).toInt ≤ 20 := hR 85 40
            exact L101 x1 _ _ _ _ hR hF hK_MS hK_UI hK_CW hK_AP hK_AU hK_SWW hK_LR (by omega) (by omega : (0 : Int) ≤ (u.1 85 0).toInt ∧ (u.1 85 0).toInt ≤ 0) (by omega : (0 : Int) ≤ (u.1 85 43).toInt ∧ (u.1 85 43).toInt ≤ 1) (by omega : (u.1 85 39).toInt + (u.1 85 41).toInt ≤ 2 * (u.1 85 40).toInt - (u.1 85 43).toInt) (by omega : 4 * (21 - (u.1 85 40).toInt) + (u.1 85 41).toInt + 2 * (u.1 85 43).toInt + x1.toInt < ((n48 : Nat) : Int) + 1) hP hD hS (lv_sub hl [0, 1] rfl)
          · refine lv_aload_n F.1 F.2.1 dX12_sentence_66 rfl (lv_at hl 0 rfl) ?_
            have g45 : (0 : Int) ≤ (u.1 85 39).toInt ∧ (u.1 85 39).toInt ≤ 45 := hR 85 39
            have g46 : (0 : Int) ≤ (u.1 85 41).toInt ∧ (u.1 85 41).toInt ≤ 45 := hR 85 41
            have g48 : (0 : Int) ≤ (u.1 85 40).toInt ∧ (u.1 85 40).toInt ≤ 20 := hR 85 40
            refine a_Vv F hml hl.1 hA hP hD hS (As := []) (c_X12_nots_85 l dC dI ad cA nF _  hR (by omega : (u.1 85 39).toInt + (u.1 85 41).toInt ≤ 44) (sw_of hK_SWW (by omega))) (cs_RX12_435 (d := 2) F.2.2.1 (by decide)) tc_85 rfl rfl rfl rfl (Nat.le_of_ble_eq_true rfl) dX12_sentence_67 ⟨Nat.le_refl 0, Nat.le_refl 0⟩ (fun u47 H locs hq hP hD hS => ?_)
            obtain ⟨hR, hF47, xr47, hK_SW1⟩ := hq
            have hF := hF.tr hF47 (by decide)
            have hK_MS := sp_fr sp_MS hF47 (by decide) hK_MS
            have hK_UI := sp_fr sp_UI hF47 (by decide) hK_UI
            have hK_CW := sp_fr sp_CW hF47 (by decide) hK_CW
            have hK_AP := sp_fr sp_AP hF47 (by decide) hK_AP
            have hK_AU := sp_fr sp_AU hF47 (by decide) hK_AU
            have hK_LR := sp_fr (sp_ln0 85) hF47 (by decide) hK_LR
            have g49 : (0 : Int) ≤ (u47.1 85 39).toInt ∧ (u47.1 85 39).toInt ≤ 45 := hR 85 39
            have g50 : (0 : Int) ≤ (u47.1 85 41).toInt ∧ (u47.1 85 41).toInt ≤ 45 := hR 85 41
            have xr47 : (u47.1 85 39).toInt + (u47.1 85 41).toInt = (u.1 85 39).toInt + (u.1 85 41).toInt ∧ (u47.1 85 41).toInt ≤ (u.1 85 41).toInt := xr47
            refine lv_aload_n F.1 F.2.1 dX12_sentence_70 rfl (lv_at hl 0 rfl) ?_
            refine a_bp F (22 : Int32) dX12_sentence_71 (by decide) ?_
            refine a_Vv F hml hl.1 hA hP hD hS (As := [.int (22 : Int32)]) (c_X12_joins_85 l dC dI ad cA nF _ (22 : Int32) hR (by decide) (by omega : (u47.1 85 39).toInt + (u47.1 85 41).toInt ≤ 44) hK_SW1) (cs_RX12_438 (d := 2) F.2.2.1 (by decide)) tc_85 rfl rfl rfl rfl (Nat.le_of_ble_eq_true rfl) dX12_sentence_73 ⟨Nat.le_refl 0, Nat.le_refl 0⟩ (fun u51 H locs hq hP hD hS => ?_)
            obtain ⟨hR, hF51, xr51, hK_SW1, hK_TB⟩ := hq
            have hF := hF.tr hF51 (by decide)
            have hK_MS := sp_fr sp_MS hF51 (by decide) hK_MS
            have hK_UI := sp_fr sp_UI hF51 (by decide) hK_UI
            have hK_CW := sp_fr sp_CW hF51 (by decide) hK_CW
            have hK_AP := sp_fr sp_AP hF51 (by decide) hK_AP
            have hK_AU := sp_fr sp_AU hF51 (by decide) hK_AU
            have hK_LR := sp_fr (sp_ln0 85) hF51 (by decide) hK_LR
            have g52 : (0 : Int) ≤ (u51.1 85 39).toInt ∧ (u51.1 85 39).toInt ≤ 45 := hR 85 39
            have g53 : (0 : Int) ≤ (u51.1 85 41).toInt ∧ (u51.1 85 41).toInt ≤ 45 := hR 85 41
            have xr51 : (u51.1 85 39).toInt + (u51.1 85 41).toInt = (u47.1 85 39).toInt + (u47.1 85 41).toInt ∧ (u51.1 85 41).toInt ≤ (u47.1 85 41).toInt := xr51
            refine lv_aload_n F.1 F.2.1 dX12_sentence_76 rfl (lv_at hl 0 rfl) ?_
            refine a_geti F inX12 hP 85 41 tc_85 rfl rfl (by decide) q1512 (fun _ h9 => h9) (v := (u51.1 85 41)) (rfl) dX12_sentence_77 ?_
            refine z_le F 96 dX12_sentence_80 (by decide) rfl (fun c54 => ?_) (fun c54 => ?_)
            · refine a_ic F (0 : Int32) dX12_sentence_96 (by decide) ?_
              refine lv_istore_n (lv' := [(1, .int (0 : Int32)), (0, .ref (ad 85))]) F.1 F.2.1 dX12_sentence_97 rfl hl (by decide) rfl (fun ls hl => ?_)
              refine lv_goto (tgt := 48) F.1 F.2.1 dX12_sentence_98 (by decide) ?_
              exact ih48 (0 : Int32) _ _ _ _ hR hF (by show 4 * (21 - (u51.1 85 40).toInt) + (u51.1 85 41).toInt + 2 * (u51.1 85 43).toInt + (0 : Int) < ((n48 : Nat) : Int); rw [(hF51 85 40 rfl).trans (hF47 85 40 rfl), (hF51 85 43 rfl).trans (hF47 85 43 rfl)]; exact (by omega : 4 * (21 - (u.1 85 40).toInt) + (u51.1 85 41).toInt + 2 * (u.1 85 43).toInt + (0 : Int) < ((n48 : Nat) : Int))) hK_MS hK_UI hK_CW hK_AP hK_AU (sw_toD hD hK_SW1 (t := (u.1 85 43)) ((hF51 85 43 rfl).trans (hF47 85 43 rfl)) (by first | decide | omega)) hK_LR (by decide) (i_trB ((hF51 85 0 rfl).trans (hF47 85 0 rfl)) (by omega : (0 : Int) ≤ (u.1 85 0).toInt ∧ (u.1 85 0).toInt ≤ 0)) (by rw [(hF51 85 40 rfl).trans (hF47 85 40 rfl), (hF51 85 43 rfl).trans (hF47 85 43 rfl)]; try exact (by omega : (u51.1 85 39).toInt + (u51.1 85 41).toInt ≤ 2 * (u.1 85 40).toInt - (u.1 85 43).toInt)) hP hD hS (lv_sub hl [1, 0] rfl)
            · refine lv_aload_n F.1 F.2.1 dX12_sentence_83 rfl (lv_at hl 0 rfl) ?_
              refine a_ic F (1 : Int32) dX12_sentence_84 (by decide) ?_
              refine a_Vi F hml hl.1 hA hP hD hS (As := [.int (1 : Int32)]) (c_X12_bad_85 l dC dI ad cA nF _ (1 : Int32) hR (by decide)) (cs_RX12_181 (d := 1) F.2.2.1 (by decide)) tc_85 rfl rfl rfl rfl (Nat.le_of_ble_eq_true rfl) dX12_sentence_85 ⟨Nat.le_refl 0, Nat.le_refl 0⟩ (fun r55 u55 H locs hq hP hD hS => ?_)
              obtain ⟨hR, hF55, gr55⟩ := hq
              have hF := hF.tr hF55 (by decide)
              have hK_MS := sp_fr sp_MS hF55 (by decide) hK_MS
              have hK_UI := sp_fr sp_UI hF55 (by decide) hK_UI
              have hK_CW := sp_fr sp_CW hF55 (by decide) hK_CW
              have hK_AP := sp_fr sp_AP hF55 (by decide) hK_AP
              have hK_AU := sp_fr sp_AU hF55 (by decide) hK_AU
              have hK_LR := sp_fr (sp_ln0 85) hF55 (by decide) hK_LR
              have hK_SW1 := sp_fr (sp_sw _) hF55 (by decide) hK_SW1
              have hK_TB := sp_fr sp_TB hF55 (by decide) hK_TB
              refine lv_pop F.1 F.2.1 dX12_sentence_88 rfl ?_
              refine a_ic F (-1 : Int32) dX12_sentence_89 (by decide) ?_
              refine lv_aload_n F.1 F.2.1 dX12_sentence_90 rfl (lv_at hl 0 rfl) ?_
              refine a_geti F inX12 hP 85 16 tc_85 rfl rfl (by decide) q1487 (fun _ h9 => h9) (v := (u55.1 85 16)) rfl dX12_sentence_91 ?_
              refine a_isub F dX12_sentence_94 ic_m1 rfl (by have q0 := i_lo (u55.1 85 16); have q1 := i_hi (u55.1 85 16); omega) (fun v56 hv56 => ?_)
              exact a_reti F hr hlocks hP hD hS dX12_sentence_95 ⟨hR, hF, hK_MS, hK_UI, hK_CW, hK_AP, hK_AU, hK_LR⟩
  refine lv_aload_n F.1 F.2.1 dX12_sentence_0 rfl (lv_at hl 0 rfl) ?_
  refine a_ic F (0 : Int32) dX12_sentence_1 (by decide) ?_
  refine a_puti F inX12 tyX12 tyX12_ok nmX12 hP hD hS 85 0 tc_85 rfl rfl (by decide) q1471 (fun _ h9 => h9) rfl (ty := .int) (tyX12_ok 0 (by decide)) rfl rfl dX12_sentence_2 (fun H locs hP hD hS => ?_)
  have hR := hR.si (c := 85) (k := 0) (v := (0 : Int32)) (by rw [ic_0]; exact (by omega : (0 : Int) ≤ (0 : Int) ∧ (0 : Int) ≤ 1))
  have hF := hF.si (c := 85) (k := 0) (v := (0 : Int32)) rfl
  have hK_MS := sp_sgD sp_MS hD hK_MS (by decide)
  have hK_UI := sp_si sp_UI hK_UI (c := 85) (k := 0) (v := (0 : Int32)) (fun j9 h9 q9 => by rw [q9] at h9; exact absurd h9 (by decide))
  have hK_CW := sp_sgD sp_CW hD hK_CW (by decide)
  have hK_AP := sp_sgD sp_AP hD hK_AP (by decide)
  have hK_AU := sp_si sp_AU hK_AU (c := 85) (k := 0) (v := (0 : Int32)) (fun j9 h9 q9 => by rw [q9] at h9; exact absurd h9 (by decide))
  refine lv_aload_n F.1 F.2.1 dX12_sentence_5 rfl (lv_at hl 0 rfl) ?_
  refine a_sp F (200 : Int32) dX12_sentence_6 (by decide) ?_
  have g58 : (0 : Int) ≤ (u0.1 85 39).toInt ∧ (u0.1 85 39).toInt ≤ 45 := hR 85 39
  have g59 : (0 : Int) ≤ (u0.1 85 41).toInt ∧ (u0.1 85 41).toInt ≤ 45 := hR 85 41
  have g60 : (0 : Int) ≤ (u0.1 85 40).toInt ∧ (u0.1 85 40).toInt ≤ 20 := hR 85 40
  have g61 : (0 : Int) ≤ (u0.1 85 43).toInt ∧ (u0.1 85 43).toInt ≤ 1 := hR 85 43
  refine a_Vv F hml hl.1 hA hP hD hS (As := [.int (200 : Int32)]) (c_X12_taken_85__2 l dC dI ad cA nF _ (200 : Int32) hR (by decide)) (cs_RX12_229 (d := 1) F.2.2.1 (by decide)) tc_85 rfl rfl rfl rfl (Nat.le_of_ble_eq_true rfl) dX12_sentence_9 ⟨Nat.le_refl 0, Nat.le_refl 0⟩ (fun u57 H locs hq hP hD hS => ?_)
  obtain ⟨hR, hF57, hK_LR⟩ := hq
  have hF := hF.tr hF57 (by decide)
  have hK_MS := sp_fr sp_MS hF57 (by decide) hK_MS
  have hK_UI := sp_fr sp_UI hF57 (by decide) hK_UI
  have hK_CW := sp_fr sp_CW hF57 (by decide) hK_CW
  have hK_AP := sp_fr sp_AP hF57 (by decide) hK_AP
  have hK_AU := sp_fr sp_AU hF57 (by decide) hK_AU
  refine lv_aload_n F.1 F.2.1 dX12_sentence_12 rfl (lv_at hl 0 rfl) ?_
  refine a_ic F (0 : Int32) dX12_sentence_13 (by decide) ?_
  refine a_puti F inX12 tyX12 tyX12_ok nmX12 hP hD hS 85 15 tc_85 rfl rfl (by decide) q1486 (fun _ h9 => h9) rfl (ty := .int) (tyX12_ok 15 (by decide)) rfl rfl dX12_sentence_14 (fun H locs hP hD hS => ?_)
  have hR := hR.si (c := 85) (k := 15) (v := (0 : Int32)) ⟨i_lo _, i_hi _⟩
  have hF := hF.si (c := 85) (k := 15) (v := (0 : Int32)) rfl
  have hK_MS := sp_sgD sp_MS hD hK_MS (by decide)
  have hK_UI := sp_si sp_UI hK_UI (c := 85) (k := 15) (v := (0 : Int32)) (fun j9 h9 q9 => by rw [q9] at h9; exact absurd h9 (by decide))
  have hK_CW := sp_sgD sp_CW hD hK_CW (by decide)
  have hK_AP := sp_sgD sp_AP hD hK_AP (by decide)
  have hK_AU := sp_si sp_AU hK_AU (c := 85) (k := 15) (v := (0 : Int32)) (fun j9 h9 q9 => by rw [q9] at h9; exact absurd h9 (by decide))
  have hK_LR := sp_si (sp_ln0 85) hK_LR (c := 85) (k := 15) (v := (0 : Int32)) (fun j9 h9 q9 => by rw [q9] at h9; exact absurd h9 (by decide))
  refine lv_aload_n F.1 F.2.1 dX12_sentence_17 rfl (lv_at hl 0 rfl) ?_
  refine a_ic F (0 : Int32) dX12_sentence_18 (by decide) ?_
  refine a_puti F inX12 tyX12 tyX12_ok nmX12 hP hD hS 85 39 tc_85 rfl rfl (by decide) q1510 (fun _ h9 => h9) rfl (ty := .int) (tyX12_ok 39 (by decide)) rfl rfl dX12_sentence_19 (fun H locs hP hD hS => ?_)
  have hR := hR.si (c := 85) (k := 39) (v := (0 : Int32)) (by rw [ic_0]; exact (by omega : (0 : Int) ≤ (0 : Int) ∧ (0 : Int) ≤ 45))
  have hF := hF.si (c := 85) (k := 39) (v := (0 : Int32)) rfl
  have hK_MS := sp_sgD sp_MS hD hK_MS (by decide)
  have hK_UI := sp_si sp_UI hK_UI (c := 85) (k := 39) (v := (0 : Int32)) (fun j9 h9 q9 => by rw [q9] at h9; exact absurd h9 (by decide))
  have hK_CW := sp_sgD sp_CW hD hK_CW (by decide)
  have hK_AP := sp_sgD sp_AP hD hK_AP (by decide)
  have hK_AU := sp_si sp_AU hK_AU (c := 85) (k := 39) (v := (0 : Int32)) (fun j9 h9 q9 => by rw [q9] at h9; exact absurd h9 (by decide))
  have hK_LR := sp_si (sp_ln0 85) hK_LR (c := 85) (k := 39) (v := (0 : Int32)) (fun j9 h9 q9 => by rw [q9] at h9; exact absurd h9 (by decide))
  refine lv_aload_n F.1 F.2.1 dX12_sentence_22 rfl (lv_at hl 0 rfl) ?_
  refine a_ic F (0 : Int32) dX12_sentence_23 (by decide) ?_
  refine a_puti F inX12 tyX12 tyX12_ok nmX12 hP hD hS 85 40 tc_85 rfl rfl (by decide) q1511 (fun _ h9 => h9) rfl (ty := .int) (tyX12_ok 40 (by decide)) rfl rfl dX12_sentence_24 (fun H locs hP hD hS => ?_)
  have hR := hR.si (c := 85) (k := 40) (v := (0 : Int32)) (by rw [ic_0]; exact (by omega : (0 : Int) ≤ (0 : Int) ∧ (0 : Int) ≤ 20))
  have hF := hF.si (c := 85) (k := 40) (v := (0 : Int32)) rfl
  have hK_MS := sp_sgD sp_MS hD hK_MS (by decide)
  have hK_UI := sp_si sp_UI hK_UI (c := 85) (k := 40) (v := (0 : Int32)) (fun j9 h9 q9 => by rw [q9] at h9; exact absurd h9 (by decide))
  have hK_CW := sp_sgD sp_CW hD hK_CW (by decide)
  have hK_AP := sp_sgD sp_AP hD hK_AP (by decide)
  have hK_AU := sp_si sp_AU hK_AU (c := 85) (k := 40) (v := (0 : Int32)) (fun j9 h9 q9 => by rw [q9] at h9; exact absurd h9 (by decide))
  have hK_LR := sp_si (sp_ln0 85) hK_LR (c := 85) (k := 40) (v := (0 : Int32)) (fun j9 h9 q9 => by rw [q9] at h9; exact absurd h9 (by decide))
  refine lv_aload_n F.1 F.2.1 dX12_sentence_27 rfl (lv_at hl 0 rfl) ?_
  refine a_ic F (0 : Int32) dX12_sentence_28 (by decide) ?_
  refine a_puti F inX12 tyX12 tyX12_ok nmX12 hP hD hS 85 41 tc_85 rfl rfl (by decide) q1512 (fun _ h9 => h9) rfl (ty := .int) (tyX12_ok 41 (by decide)) rfl rfl dX12_sentence_29 (fun H locs hP hD hS => ?_)
  have hR := hR.si (c := 85) (k := 41) (v := (0 : Int32)) (by rw [ic_0]; exact (by omega : (0 : Int) ≤ (0 : Int) ∧ (0 : Int) ≤ 45))
  have hF := hF.si (c := 85) (k := 41) (v := (0 : Int32)) rfl
  have hK_MS := sp_sgD sp_MS hD hK_MS (by decide)
  have hK_UI := sp_si sp_UI hK_UI (c := 85) (k := 41) (v := (0 : Int32)) (fun j9 h9 q9 => by rw [q9] at h9; exact absurd h9 (by decide))
  have hK_CW := sp_sgD sp_CW hD hK_CW (by decide)
  have hK_AP := sp_sgD sp_AP hD hK_AP (by decide)
  have hK_AU := sp_si sp_AU hK_AU (c := 85) (k := 41) (v := (0 : Int32)) (fun j9 h9 q9 => by rw [q9] at h9; exact absurd h9 (by decide))
  have hK_LR := sp_si (sp_ln0 85) hK_LR (c := 85) (k := 41) (v := (0 : Int32)) (fun j9 h9 q9 => by rw [q9] at h9; exact absurd h9 (by decide))
  refine lv_aload_n F.1 F.2.1 dX12_sentence_32 rfl (lv_at hl 0 rfl) ?_
  refine a_ic F (1 : Int32) dX12_sentence_33 (by decide) ?_
  refine a_puti F inX12 tyX12 tyX12_ok nmX12 hP hD hS 85 42 tc_85 rfl rfl (by decide) q1513 (fun _ h9 => h9) rfl (ty := .int) (tyX12_ok 42 (by decide)) rfl rfl dX12_sentence_34 (fun H locs hP hD hS => ?_)
  have hR := hR.si (c := 85) (k := 42) (v := (1 : Int32)) ⟨i_lo _, i_hi _⟩
  have hF := hF.si (c := 85) (k := 42) (v := (1 : Int32)) rfl
  have hK_MS := sp_sgD sp_MS hD hK_MS (by decide)
  have hK_UI := sp_si sp_UI hK_UI (c := 85) (k := 42) (v := (1 : Int32)) (fun j9 h9 q9 => by rw [q9] at h9; exact absurd h9 (by decide))
  have hK_CW := sp_sgD sp_CW hD hK_CW (by decide)
  have hK_AP := sp_sgD sp_AP hD hK_AP (by decide)
  have hK_AU := sp_si sp_AU hK_AU (c := 85) (k := 42) (v := (1 : Int32)) (fun j9 h9 q9 => by rw [q9] at h9; exact absurd h9 (by decide))
  have hK_LR := sp_si (sp_ln0 85) hK_LR (c := 85) (k := 42) (v := (1 : Int32)) (fun j9 h9 q9 => by rw [q9] at h9; exact absurd h9 (by decide))
  refine lv_aload_n F.1 F.2.1 dX12_sentence_37 rfl (lv_at hl 0 rfl) ?_
  refine a_ic F (0 : Int32) dX12_sentence_38 (by decide) ?_
  refine a_puti F inX12 tyX12 tyX12_ok nmX12 hP hD hS 85 43 tc_85 rfl rfl (by decide) q1514 (fun _ h9 => h9) rfl (ty := .boolean) (tyX12_ok 43 (by decide)) (i_zn (Or.inl rfl)) (i_zf (Or.inl rfl)) dX12_sentence_39 (fun H locs hP hD hS => ?_)
  have hR := hR.si (c := 85) (k := 43) (v := (0 : Int32)) (by rw [ic_0]; exact (by omega : (0 : Int) ≤ (0 : Int) ∧ (0 : Int) ≤ 1))
  have hF := hF.si (c := 85) (k := 43) (v := (0 : Int32)) rfl
  have hN_SWW := sw_0D hD (a := (0 : Int32)) (b := (0 : Int32)) (c := (0 : Int32)) rfl rfl rfl (by decide) (by decide) (by decide)
  have hK_MS := sp_sgD sp_MS hD hK_MS (by decide)
  have hK_UI := sp_si sp_UI hK_UI (c := 85) (k := 43) (v := (0 : Int32)) (fun j9 h9 q9 => by rw [q9] at h9; exact absurd h9 (by decide))
  have hK_CW := sp_sgD sp_CW hD hK_CW (by decide)
  have hK_AP := sp_sgD sp_AP hD hK_AP (by decide)
  have hK_AU := sp_si sp_AU hK_AU (c := 85) (k := 43) (v := (0 : Int32)) (fun j9 h9 q9 => by rw [q9] at h9; exact absurd h9 (by decide))
  have hK_LR := sp_si (sp_ln0 85) hK_LR (c := 85) (k := 43) (v := (0 : Int32)) (fun j9 h9 q9 => by rw [q9] at h9; exact absurd h9 (by decide))
  have hK_SWW := hN_SWW
  refine lv_aload_n F.1 F.2.1 dX12_sentence_42 rfl (lv_at hl 0 rfl) ?_
  refine a_Vv F hml hl.1 hA hP hD hS (As := []) (c_X12_next_85 l dC dI ad cA nF _  hR) (cs_RX12_184 (d := 2) F.2.2.1 (by decide)) tc_85 rfl rfl rfl rfl (Nat.le_of_ble_eq_true rfl) dX12_sentence_43 ⟨Nat.le_refl 0, Nat.le_refl 0⟩ (fun u62 H locs hq hP hD hS => ?_)
  obtain ⟨hR, hF62⟩ := hq
  have hF := hF.tr hF62 (by decide)
  have hK_MS := sp_fr sp_MS hF62 (by decide) hK_MS
  have hK_UI := sp_fr sp_UI hF62 (by decide) hK_UI
  have hK_CW := sp_fr sp_CW hF62 (by decide) hK_CW
  have hK_AP := sp_fr sp_AP hF62 (by decide) hK_AP
  have hK_AU := sp_fr sp_AU hF62 (by decide) hK_AU
  have hK_LR := sp_fr (sp_ln0 85) hF62 (by decide) hK_LR
  have hK_SWW := sp_fr sp_SWW hF62 (by decide) hK_SWW
  refine a_ic F (1 : Int32) dX12_sentence_46 (by decide) ?_
  refine lv_istore_n (lv' := [(1, .int (1 : Int32)), (0, .ref (ad 85))]) F.1 F.2.1 dX12_sentence_47 rfl hl (by decide) rfl (fun ls hl => ?_)
  exact L48 140 (1 : Int32) _ _ _ _ hR hF (by show 4 * (21 - (u62.1 85 40).toInt) + (u62.1 85 41).toInt + 2 * (u62.1 85 43).toInt + (1 : Int) < (140 : Int); rw [hF62 85 40 rfl, hF62 85 41 rfl, hF62 85 43 rfl]; exact (by omega : 4 * (21 - (0 : Int)) + (0 : Int) + 2 * (0 : Int) + (1 : Int) < (140 : Int))) hK_MS hK_UI hK_CW hK_AP hK_AU hK_SWW hK_LR (by decide) (i_trB ((hF62 85 0 rfl).trans (hF57 85 0 rfl)) (by omega : (0 : Int) ≤ (0 : Int) ∧ (0 : Int) ≤ 0)) (by rw [hF62 85 39 rfl, hF62 85 41 rfl, hF62 85 40 rfl, hF62 85 43 rfl]; try exact (by omega : (0 : Int) + (0 : Int) ≤ 2 * (0 : Int) - (0 : Int))) hP hD hS (lv_sub hl [1, 0] rfl)

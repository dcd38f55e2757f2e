set_option maxHeartbeats 600000 in
set_option maxRecDepth 100000 in
theorem c_X12_keep_85__3 (l : Launch) (dC : Nat → ClassId) (dI : Nat → Nat → Nat) (ad : Nat → Nat) (cA : Nat → ClassId) (nF : Nat) (u0 : ac_U)  (hR : ac_R rg u0) (hK_MS : msI u0) (hK_UI : unI u0) (hK_AP : apI u0) (hK_AU : auI u0) : ac_Mv l yX12_keep (.code yX12_keep cX12_keep 2 none :: TB) 1 (dC, dI) vwCl (ac_ty cA) ad cA (TN nF) [.ref (ad 85)] u0 (fun (u : ac_U) => ac_R rg u ∧ ac_Fr [(85, some 24), (93, none)] u0 u ∧ (1 ≤ (u.1 85 24).toInt) ∧ msI u ∧ unI u ∧ apI u ∧ auI u) := by
  refine ac_Mv.of (cc := cX12_keep) (maxL := 2) (ret := none) (by decide) rfl (Nat.le_of_ble_eq_true rfl) ?_
  intro p e s m below meth c A ls F hml hr hlocks hA hP hD hS hl
  have F : ac_X p s m [.ref (ad 85)].toArray c cX12_keep RX12 TB (dC, dI) vwCl (ac_ty cA) := ⟨F.1, F.2.1, fun w h => F.2.2.1 w (List.mem_cons_of_mem _ h), F.2.2.2.1, F.2.2.2.2⟩
  have hl : lv_has ls 2 [(0, .ref (ad 85))] := hl
  have hF : ac_Fr [(85, some 24), (93, none)] u0 u0 := ac_Fr.rf
  have L48 : ∀ (n48 : Nat) (x1 : Int32) (u : ac_U) (H : Heap) (locs : List Loc) (ls : Array Slot), ac_R rg u → ac_Fr [(85, some 24), (93, none)] u0 u → 370 - x1.toInt < (n48 : Int) → msI u → unI u → ukI x1.toInt u → apI u → auI u → akwI x1.toInt u → (0 : Int) ≤ x1.toInt ∧ x1.toInt ≤ 370 → (0 : Int) ≤ (u.1 85 24).toInt ∧ (u.1 85 24).toInt ≤ 7 → va_P (dC, dI) vwCl (ac_w ad cA (TN nF) u) H → va_D A (ac_w ad cA (TN nF) u) → va_S A s.heap H locs → lv_has ls 2 [(0, .ref (ad 85)), (1, .int x1)] → W p l e (ac_rm 1) s m [.ref (ad 85)].toArray below meth c H locs 0 0 (MQ below (va_Qv (fun (u : ac_U) => ac_R rg u ∧ ac_Fr [(85, some 24), (93, none)] u0 u ∧ (1 ≤ (u.1 85 24).toInt) ∧ msI u ∧ unI u ∧ apI u ∧ auI u) (ac_B (dC, dI) vwCl (ac_ty cA) ad cA (TN nF) A) A) [.ref (ad 85)].toArray s 0 0 A) (F0 m 48 ls []) := by
    intro n48
    induction n48 with
    | zero => intro x1 u H locs ls hR hF hn48 hK_MS hK_UI hK_UKx hK_AP hK_AU hK_AKWx f0 f1 hP hD hS hl; exfalso; omega
    | succ n48 ih48 =>
      intro x1 u H locs ls hR hF hn48 hK_MS hK_UI hK_UKx hK_AP hK_AU hK_AKWx f0 f1 hP hD hS hl
      refine lv_iload_n F.1 F.2.1 dX12_keep_48 rfl (lv_at hl 1 rfl) ?_
      refine a_sp F (370 : Int32) dX12_keep_49 (by decide) ?_
      refine b_ge F 85 dX12_keep_52 (by decide) rfl ic_370 (fun c1 => ?_) (fun c1 => ?_)
      · refine lv_aload_n F.1 F.2.1 dX12_keep_85 rfl (lv_at hl 0 rfl) ?_
        refine lv_dup F.1 F.2.1 dX12_keep_86 rfl ?_
        have g2 : (0 : Int) ≤ (u.1 85 24).toInt ∧ (u.1 85 24).toInt ≤ 8 := hR 85 24
        refine a_geti F inX12 hP 85 24 tn_85 rfl rfl (by decide) q1495 (fun _ h9 => h9) (v := (u.1 85 24)) rfl dX12_keep_87 ?_
        refine a_ic F (1 : Int32) dX12_keep_90 (by decide) ?_
        refine a_iadd F dX12_keep_91 rfl ic_1 (by omega) (fun v3 hv3 => ?_)
        refine a_puti F inX12 tyX12 tyX12_ok nmX12 hP hD hS 85 24 tn_85 rfl rfl (by decide) q1495 (fun _ h9 => h9) rfl (ty := .int) (tyX12_ok 24 (by decide)) rfl rfl dX12_keep_92 (fun H locs hP hD hS => ?_)
        have hR := hR.si (c := 85) (k := 24) (v := v3) (by omega : (0 : Int) ≤ v3.toInt ∧ v3.toInt ≤ 8)
        have hF := hF.si (c := 85) (k := 24) (v := v3) rfl
        have hO_MS := hK_MS
        have hO_UI := hK_UI
        have hO_UKx := hK_UKx
        have hO_AP := hK_AP
        have hO_AU := hK_AU
        have hO_AKWx := hK_AKWx
        have hK_MS := sp_sgD sp_MS hD hK_MS (by decide)
        have hK_UI := un_inc hO_UI hO_UKx (by omega) (v := v3) (by omega)
        have hK_AP := sp_sgD sp_AP hD hK_AP (by decide)
        have hK_AU := au_inc hO_AU hO_AKWx (by omega) (v := v3) (by omega)
        exact a_retv F hr hlocks hP hD hS dX12_keep_95 ⟨hR, hF, (by omega : 1 ≤ v3.toInt), hK_MS, hK_UI, hK_AP, hK_AU⟩
      · refine lv_aload_n F.1 F.2.1 dX12_keep_55 rfl (lv_at hl 0 rfl) ?_
        refine a_getr F inX12 hP 85 22 tn_85 rfl rfl (by decide) q1493 (fun _ h9 => h9) dX12_keep_56 ?_
        refine a_sp F (370 : Int32) dX12_keep_59 (by decide) ?_
        refine lv_aload_n F.1 F.2.1 dX12_keep_62 rfl (lv_at hl 0 rfl) ?_
        have g4 : (0 : Int) ≤ (u.1 85 24).toInt ∧ (u.1 85 24).toInt ≤ 8 := hR 85 24
        refine a_geti F inX12 hP 85 24 tn_85 rfl rfl (by decide) q1495 (fun _ h9 => h9) (v := (u.1 85 24)) rfl dX12_keep_63 ?_
        refine a_imul F dX12_keep_66 ic_370 rfl (by omega) (fun v5 hv5 => ?_)
        refine lv_iload_n F.1 F.2.1 dX12_keep_67 rfl (lv_at hl 1 rfl) ?_
        refine a_iadd F dX12_keep_68 rfl rfl (by omega) (fun v6 hv6 => ?_)
        refine lv_aload_n F.1 F.2.1 dX12_keep_69 rfl (lv_at hl 0 rfl) ?_
        refine a_getr F inX12 hP 85 6 tn_85 rfl rfl (by decide) q1477 (fun _ h9 => h9) dX12_keep_70 ?_
        refine a_bp F (106 : Int32) dX12_keep_73 (by decide) ?_
        refine lv_iload_n F.1 F.2.1 dX12_keep_75 rfl (lv_at hl 1 rfl) ?_
        refine a_iadd F dX12_keep_76 ic_106 rfl (by omega) (fun v7 hv7 => ?_)
        refine a_iald F hP 87 tn_87 rfl (i_in rfl (by omega)) dX12_keep_77 (fun v8 ev8 => ?_)
        refine a_iast F hP hD hS 93 tn_93 rfl (i_in rfl (by omega)) dX12_keep_78 (fun H locs hP hD hS => ?_)
        have hR := hR.si (c := 93) (k := v6.toNatClampNeg) (v := v8) (cp_el hR ev8 (rg_u2 (m := (u.1 85 24).toInt) (x := x1.toInt) (by omega) (by omega) (by omega) (by omega)).1)
        have hF := hF.si (c := 93) (k := v6.toNatClampNeg) (v := v8) rfl
        have hO_MS := hK_MS
        have hO_UI := hK_UI
        have hO_UKx := hK_UKx
        have hO_AP := hK_AP
        have hO_AU := hK_AU
        have hO_AKWx := hK_AKWx
        have hK_MS := sp_sgD sp_MS hD hK_MS (by decide)
        have hK_UI := un_w2 hO_UI (i := v6) (v := v8) (by omega) (by omega)
        have hK_UKx := uk_keep hO_UKx hO_MS (i := v6) (k := v7) (by omega) (by omega) (by omega) (by omega) ev8
        have hK_AP := sp_sgD sp_AP hD hK_AP (by decide)
        have hK_AU := au_w2 hO_AU (i := v6) (v := v8) (by omega) (by omega)
        have hK_AKWx := akw_keep hO_AKWx hO_AP (i := v6) (k := v7) (by omega) (by omega) (by omega) (by omega) ev8
        refine a_iinc F (k := 1) (fun v9 => [(1, .int v9), (0, .ref (ad 85))]) dX12_keep_79 hl rfl rfl (by decide) (by omega) (by decide) (fun _ => rfl) (fun v9 ls hv9 hl => ?_)
        refine lv_goto (tgt := 48) F.1 F.2.1 dX12_keep_82 (by decide) ?_
        exact ih48 v9 _ _ _ _ hR hF (by omega) hK_MS hK_UI (uk_eq hK_UKx (by omega)) hK_AP hK_AU (akw_eq hK_AKWx (by omega)) (by omega) (by omega : (0 : Int) ≤ (u.1 85 24).toInt ∧ (u.1 85 24).toInt ≤ 7) hP hD hS (lv_sub hl [1, 0] rfl)
  have L46 : ∀ (u : ac_U) (H : Heap) (locs : List Loc) (ls : Array Slot), ac_R rg u → ac_Fr [(85, some 24), (93, none)] u0 u → msI u → unI u → apI u → auI u → (0 : Int) ≤ (u.1 85 24).toInt ∧ (u.1 85 24).toInt ≤ 7 → va_P (dC, dI) vwCl (ac_w ad cA (TN nF) u) H → va_D A (ac_w ad cA (TN nF) u) → va_S A s.heap H locs → lv_has ls 2 [(0, .ref (ad 85))] → W p l e (ac_rm 1) s m [.ref (ad 85)].toArray below meth c H locs 0 0 (MQ below (va_Qv (fun (u : ac_U) => ac_R rg u ∧ ac_Fr [(85, some 24), (93, none)] u0 u ∧ (1 ≤ (u.1 85 24).toInt) ∧ msI u ∧ unI u ∧ apI u ∧ auI u) (ac_B (dC, dI) vwCl (ac_ty cA) ad cA (TN nF) A) A) [.ref (ad 85)].toArray s 0 0 A) (F0 m 46 ls []) := by
    intro u H locs ls hR hF hK_MS hK_UI hK_AP hK_AU f0 hP hD hS hl
    refine a_ic F (0 : Int32) dX12_keep_46 (by decide) ?_
    refine lv_istore_n (lv' := [(1, .int (0 : Int32)), (0, .ref (ad 85))]) F.1 F.2.1 dX12_keep_47 rfl hl (by decide) rfl (fun ls hl => ?_)
    have g10 : (0 : Int) ≤ (u.1 85 24).toInt ∧ (u.1 85 24).toInt ≤ 8 := hR 85 24
    exact L48 372 (0 : Int32) _ _ _ _ hR hF (by decide) hK_MS hK_UI (uk_0 (by decide)) hK_AP hK_AU (akw_0 (by decide)) (by decide) (by omega : (0 : Int) ≤ (u.1 85 24).toInt ∧ (u.1 85 24).toInt ≤ 7) hP hD hS (lv_sub hl [1, 0] rfl)
  have L11 : ∀ (n11 : Nat) (x1 : Int32) (u : ac_U) (H : Heap) (locs : List Loc) (ls : Array Slot), ac_R rg u → ac_Fr [(85, some 24), (93, none)] u0 u → 2590 - x1.toInt < (n11 : Int) → msI u → unI u → apI u → auI u → (0 : Int) ≤ x1.toInt ∧ x1.toInt ≤ 2590 → (8 : Int) ≤ (u.1 85 24).toInt ∧ (u.1 85 24).toInt ≤ 8 → va_P (dC, dI) vwCl (ac_w ad cA (TN nF) u) H → va_D A (ac_w ad cA (TN nF) u) → va_S A s.heap H locs → lv_has ls 2 [(0, .ref (ad 85)), (1, .int x1)] → W p l e (ac_rm 1) s m [.ref (ad 85)].toArray below meth c H locs 0 0 (MQ below (va_Qv (fun (u : ac_U) => ac_R rg u ∧ ac_Fr [(85, some 24), (93, none)] u0 u ∧ (1 ≤ (u.1 85 24).toInt) ∧ msI u ∧ unI u ∧ apI u ∧ auI u) (ac_B (dC, dI) vwCl (ac_ty cA) ad cA (TN nF) A) A) [.ref (ad 85)].toArray s 0 0 A) (F0 m 11 ls []) := by
    intro n11
    induction n11 with
    | zero => intro x1 u H locs ls hR hF hn11 hK_MS hK_UI hK_AP hK_AU f0 f1 hP hD hS hl; exfalso; omega
    | succ n11 ih11 =>
      intro x1 u H locs ls hR hF hn11 hK_MS hK_UI hK_AP hK_AU f0 f1 hP hD hS hl
      refine lv_iload_n F.1 F.2.1 dX12_keep_11 rfl (lv_at hl 1 rfl) ?_
      refine a_sp F (2590 : Int32) dX12_keep_12 (by decide) ?_
      refine b_ge F 40 dX12_keep_15 (by decide) rfl ic_2590 (fun c11 => ?_) (fun c11 => ?_)
      · refine lv_aload_n F.1 F.2.1 dX12_keep_40 rfl (lv_at hl 0 rfl) ?_
        refine a_bp F (7 : Int32) dX12_keep_41 (by decide) ?_
        refine a_puti F inX12 tyX12 tyX12_ok nmX12 hP hD hS 85 24 tn_85 rfl rfl (by decide) q1495 (fun _ h9 => h9) rfl (ty := .int) (tyX12_ok 24 (by decide)) rfl rfl dX12_keep_43 (fun H locs hP hD hS => ?_)
        have hR := hR.si (c := 85) (k := 24) (v := (7 : Int32)) (by rw [ic_7]; exact (by omega : (0 : Int) ≤ (7 : Int) ∧ (7 : Int) ≤ 8))
        have hF := hF.si (c := 85) (k := 24) (v := (7 : Int32)) rfl
        have hO_MS := hK_MS
        have hO_UI := hK_UI
        have hO_AP := hK_AP
        have hO_AU := hK_AU
        have hK_MS := sp_sgD sp_MS hD hK_MS (by decide)
        have hK_UI := un_dec hO_UI (v := (7 : Int32)) (by rw [ic_7]; omega)
        have hK_AP := sp_sgD sp_AP hD hK_AP (by decide)
        have hK_AU := au_dec hO_AU (v := (7 : Int32)) (by rw [ic_7]; omega)
        exact L46 _ _ _ _ hR hF hK_MS hK_UI hK_AP hK_AU (by omega : (0 : Int) ≤ (7 : Int) ∧ (7 : Int) ≤ 7) hP hD hS (lv_sub hl [0] rfl)
      · refine lv_aload_n F.1 F.2.1 dX12_keep_18 rfl (lv_at hl 0 rfl) ?_
        refine a_getr F inX12 hP 85 22 tn_85 rfl rfl (by decide) q1493 (fun _ h9 => h9) dX12_keep_19 ?_
        refine lv_iload_n F.1 F.2.1 dX12_keep_22 rfl (lv_at hl 1 rfl) ?_
        refine lv_aload_n F.1 F.2.1 dX12_keep_23 rfl (lv_at hl 0 rfl) ?_
        refine a_getr F inX12 hP 85 22 tn_85 rfl rfl (by decide) q1493 (fun _ h9 => h9) dX12_keep_24 ?_
        refine lv_iload_n F.1 F.2.1 dX12_keep_27 rfl (lv_at hl 1 rfl) ?_
        refine a_sp F (370 : Int32) dX12_keep_28 (by decide) ?_
        refine a_iadd F dX12_keep_31 rfl ic_370 (by omega) (fun v12 hv12 => ?_)
        refine a_iald F hP 93 tn_93 rfl (i_in rfl (by omega)) dX12_keep_32 (fun v13 ev13 => ?_)
        refine a_iast F hP hD hS 93 tn_93 rfl (i_in rfl (by omega)) dX12_keep_33 (fun H locs hP hD hS => ?_)
        have hR := hR.si (c := 93) (k := x1.toNatClampNeg) (v := v13) (cp_el hR ev13 (rg_u1 (by omega) (by omega)))
        have hF := hF.si (c := 93) (k := x1.toNatClampNeg) (v := v13) rfl
        have hO_MS := hK_MS
        have hO_UI := hK_UI
        have hO_AP := hK_AP
        have hO_AU := hK_AU
        have hK_MS := sp_sgD sp_MS hD hK_MS (by decide)
        have hK_UI := un_sh hO_UI (i := x1) (i' := v12) (by omega) (by omega) (by omega) ev13
        have hK_AP := sp_sgD sp_AP hD hK_AP (by decide)
        have hK_AU := au_sh hO_AU (i := x1) (i' := v12) (by omega) (by omega) (by omega) ev13
        refine a_iinc F (k := 1) (fun v14 => [(1, .int v14), (0, .ref (ad 85))]) dX12_keep_34 hl rfl rfl (by decide) (by omega) (by decide) (fun _ => rfl) (fun v14 ls hv14 hl => ?_)
        refine lv_goto (tgt := 11) F.1 F.2.1 dX12_keep_37 (by decide) ?_
        have g15 : (0 : Int) ≤ (u.1 85 24).toInt ∧ (u.1 85 24).toInt ≤ 8 := hR 85 24
        exact ih11 v14 _ _ _ _ hR hF (by omega) hK_MS hK_UI hK_AP hK_AU (by omega) (by omega : (8 : Int) ≤ (u.1 85 24).toInt ∧ (u.1 85 24).toInt ≤ 8) hP hD hS (lv_sub hl [1, 0] rfl)
  refine lv_aload_n F.1 F.2.1 dX12_keep_0 rfl (lv_at hl 0 rfl) ?_
  have g16 : (0 : Int) ≤ (u0.1 85 24).toInt ∧ (u0.1 85 24).toInt ≤ 8 := hR 85 24
  refine a_geti F inX12 hP 85 24 tn_85 rfl rfl (by decide) q1495 (fun _ h9 => h9) (v := (u0.1 85 24)) rfl dX12_keep_1 ?_
  refine a_bp F (8 : Int32) dX12_keep_4 (by decide) ?_
  refine b_ne F 46 dX12_keep_6 (by decide) rfl ic_8 (fun c17 => ?_) (fun c17 => ?_)
  · exact L46 _ _ _ _ hR hF hK_MS hK_UI hK_AP hK_AU (by omega : (0 : Int) ≤ (u0.1 85 24).toInt ∧ (u0.1 85 24).toInt ≤ 7) hP hD hS (lv_sub hl [0] rfl)
  · refine a_ic F (0 : Int32) dX12_keep_9 (by decide) ?_
    refine lv_istore_n (lv' := [(1, .int (0 : Int32)), (0, .ref (ad 85))]) F.1 F.2.1 dX12_keep_10 rfl hl (by decide) rfl (fun ls hl => ?_)
    exact L11 2592 (0 : Int32) _ _ _ _ hR hF (by decide) hK_MS hK_UI hK_AP hK_AU (by decide) (by omega : (8 : Int) ≤ (u0.1 85 24).toInt ∧ (u0.1 85 24).toInt ≤ 8) hP hD hS (lv_sub hl [1, 0] rfl)

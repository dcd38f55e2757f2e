set_option maxHeartbeats 600000 in
set_option maxRecDepth 100000 in
theorem c_X12_keep_85__3 (l : Launch) (dC : Nat → ClassId) (dI : Nat → Nat → Nat) (ad : Nat → Nat) (cA : Nat → ClassId) (nF : Nat) (u0 : ac_U)  (hR : ac_R rg u0) (hK_MS : msI u0) (hK_UI : unI u0) (hK_AP : apI u0) (hK_AU : auI u0) : ac_Mv l yX12_keep (.code yX12_keep cX12_keep 2 none :: TB) 1 (dC, dI) vwCl (ac_ty cA) ad cA (TT nF) [.ref (ad 85)] u0 (fun (u : ac_U) => ac_R rg u ∧ ac_Fr [(85, some 24), (93, none)] u0 u ∧ (1 ≤ (u.1 85 24).toInt) ∧ msI u ∧ unI u ∧ apI u ∧ auI u) := by
  refine ac_Mv.of (cc := cX12_keep) (maxL := 2) (ret := none) (by decide) rfl (Nat.le_of_ble_eq_true rfl) ?_
  intro p e s m below meth c A ls F hml hr hlocks hA hP hD hS hl
  have F : ac_X p s m [.ref (ad 85)].toArray c cX12_keep RX12 TB (dC, dI) vwCl (ac_ty cA) := ⟨F.1, F.2.1, fun w h => F.2.2.1 w (List.mem_cons_of_mem _ h), F.2.2.2.1, F.2.2.2.2⟩
  have hl : lv_has ls 2 [(0, .ref (ad 85))] := hl
  have hF : ac_Fr [(85, some 24), (93, none)] u0 u0 := ac_Fr.rf
  have L48 : ∀ (n48 : Nat) (x1 : Int32) (u : ac_U) (H : Heap) (locs : List Loc) (ls : Array Slot), ac_R rg u → ac_Fr [(85, some 24), (93, none)] u0 u → 370 - x1.toInt < (n48 : Int) → msI u → unI u → ukI x1.toInt u → apI u → auI u → akwI x1.toInt u → (0 : Int) ≤ x1.toInt ∧ x1.toInt ≤ 370 → (0 : Int) ≤ (u.1 85 24).toInt ∧ (u.1 85 24).toInt ≤ 7 → va_P (dC, dI) vwCl (ac_w ad cA (TT nF) u) H → va_D A (ac_w ad cA (TT nF) u) → va_S A s.heap H locs → lv_has ls 2 [(0, .ref (ad 85)), (1, .int x1)] → W p l e (ac_rm 1) s m [.ref (ad 85)].toArray below meth c H locs 0 0 (MQ below (va_Qv (fun (u : ac_U) => ac_R rg u ∧ ac_Fr [(85, some 24), (93, none)] u0 u ∧ (1 ≤ (u.1 85 24).toInt) ∧ msI u ∧ unI u ∧ apI u ∧ auI u) (ac_B (dC, dI) vwCl (ac_ty cA) ad cA (TT nF) A) A) [.ref (ad 85)].toArray s 0 0 A) (F0 m 48 ls []) := by
    intro n48
    induction n48 with
    | zero => intro x1 u H locs ls hR hF hn48 hK_MS hK_UI hK_UKx hK_AP hK_AU hK_AKWx f0 f1 hP hD hS hl; exfalso; omega
    | succ n48 ih48 =>
      intro x1 u H locs ls hR hF hn48 hK_MS hK_UI hK_UKx hK_AP hK_AU hK_AKWx f0 f1 hP hD hS hl
      refine lv_iload_n F.1 F.2.1 dX12_keep_48 rfl (lv_at hl 1 rfl) ?_
      refine a_sp F (370 : Int32) dX12_keep_49 (by decide) ?_
      refine b_ge F 85 dX12_keep_52 (by decide) rfl ic_370 (fun c1 => ?_) (fun c1 => ?_)
      · refine lv_aload_n F.1 F.2.1 dX12_keep_85 rfl (lv_at hl 0 rfl) ?_
        refine lv_dup F.1 F.2.1 dX12_keep_86 rfl ?_
        have g2 : (0 : Int) ≤ (u.1 85 24).toInt ∧ (u.1 85 24).toInt ≤ 8 := hR 85 24
        refine a_geti F inX12 hP 85 24 tc_85 rfl rfl (by decide) q1495 (fun _ h9 => h9) (v := (u.1 85 24)) rfl dX12_keep_87 ?_
        refine a_ic F (1 : Int32) dX12_keep_90 (by decide) ?_
        refine a_iadd F dX12_keep_91 rfl ic_1 (by omega) (fun v3 hv3 => ?_)
        refine a_puti F inX12 tyX12 tyX12_ok nmX12 hP hD hS 85 24 tc_85 rfl rfl (by decide) q1495 (fun _ h9 => h9) rfl (ty := .int) (tyX12_ok 24 (by decide)) rfl rfl dX12_keep_92 (fun H locs hP hD hS => ?_)
        have hR := hR.si (c := 85) (k := 24) (v := v3) (by omega : (0 : Int) ≤ v3.toInt ∧ v3.toInt ≤ 8)
        have hF := hF.si (c := 85) (k := 24) (v := v3) rfl
        have hO_MS := hK_MS
        have hO_UI := hK_UI
        have hO_UKx := hK_UKx
        have hO_AP := hK_AP
        have hO_AU := hK_AU
        have hO_AKWx := hK_AKWx
        have hK_MS := sp_sgD sp_MS hD hK_MS (by decide)
        have hK_UI := un_inc hO_UI hO_UKx (by omega) (v := v3) (by omega)
        have hK_AP := sp_sgD sp_AP hD hK_AP (by decide)
        have hK_AU := au_inc hO_AU hO_AKWx (by omega) (v := v3) (by omega)
        exact a_retv F hr hlocks hP hD hS dX12_keep_95 ⟨hR, hF, (by omega : 1 ≤ v3.toInt), hK_MS, hK_UI, hK_AP, hK_AU⟩
      · refine lv_aload_n F.1 F.2.1 dX12_keep_55 rfl (lv_at hl 0 rfl) ?_
        refine a_getr F inX12 hP 85 22 tc_85 rfl rfl (by decide) q1493 (fun _ h9 => h9) dX12_keep_56 ?_
        refine a_sp F (370 : Int32) dX12_keep_59 (by decide) ?_
        refine lv_aload_n F.1 F.2.1 dX12_keep_62 rfl (lv_at hl 0 rfl) ?_
        have g4 : (0 : Int) ≤ (u.1 85 24).toInt ∧ (u.1 85 24).toInt ≤ 8 := hR 85 24
        refine a_geti F inX12 hP 85 24 tc_85 rfl rfl (by decide) q1495 (fun _ h9 => h9) (v := (u.1 85 24)) rfl dX12_keep_63 ?_
        refine a_imul F dX12_keep_66 ic_370 rfl (by omega) (fun v5 hv5 => ?_)
        refine lv_iload_n F.1 F.2.1 dX12_keep_67 rfl (lv_at hl 1 rfl) ?_
        refine a_iadd F dX12_keep_68 rfl rfl (by omega) (fun v6 hv6 => ?_)
        refine lv_aload_n F.1 F.2.1 dX12_keep_69 rfl (lv_at hl 0 rfl) ?_
        refine a_getr F inX12 hP 85 6 tc_85 rfl rfl (by decide) q1477 (fun _ h9 => h9) dX12_keep_70 ?_
        refine a_bp F (106 : Int32) dX12_keep_73 (by decide) ?_
        refine lv_iload_n F.1 F.2.1 dX12_keep_75 rfl (lv_at hl 1 rfl) ?_
        refine a_iadd F dX12_keep_76 ic_106 rfl (by omega) (fun v7 hv7 => ?_)
        refine a_iald F hP 87 tc_87 rfl (i_in rfl (by omega)) dX12_keep_77 (fun v8 ev8 => ?_)
        refine a_iast F hP hD hS 93 tc_93 rfl (i_in rfl (by omega)) dX12_keep_78 (fun H locs hP hD hS => ?_)
        have hR := hR.si (c := 93) (k := v6.toNatClampNeg) (v := v8) (cp_el hR ev8 (rg_u2 (m := (u.1 85 24).toInt) (x := x1.toInt) (by omega) (by omega) (by omega) (by omega)).1)
        have hF := hF.si (c := 93) (k := v6.toNatClampNeg) (v := v8) rfl
        have hO_MS := hK_MS
        have hO_UI := hK_UI
        have hO_UKx := hK_UKx
        have hO_AP := hK_AP
        have hO_AU := hK_AU
        have hO_AKWx := hK_AKWx
        have hK_MS := sp_sgD sp_MS hD hK_MS (by decide)
        have hK_UI := un_w2 hO_UI (i := v6) (v := v8) (by omega) (by omega)
        have hK_UKx := uk_keep hO_UKx hO_MS (i := v6) (k := v7) (by omega) (by omega) (by omega) (by omega) ev8
        have hK_AP := sp_sgD sp_AP hD hK_AP (by decide)
        have hK_AU := au_w2 hO_AU (i := v6) (v := v8) (by omega) (by omega)
        have hK_AKWx := akw_keep hO_AKWx hO_AP (i := v6) (k := v7) (by omega) (by omega) (by omega) (by omega) ev8
        refine a_iinc F (k := 1) (fun v9 => [(1, .int v9), (0, .ref (ad 85))]) dX12_keep_79 hl rfl rfl (by decide) (by omega) (by decide) (fun _ => rfl) (fun v9 ls hv9 hl => ?_)
        refine lv_goto (tgt := 48) F.1 F.2.1 dX12_keep_82 (by decide) ?_
        exact ih48 v9 _ _ _ _ hR hF (by omega) hK_MS hK_UI (uk_eq hK_UKx (by omega)) hK_AP hK_AU (akw_eq hK_AKWx (by omega)) (by omega) (by omega : (0 : Int) ≤ (u.1 85 24).toInt ∧ (u.1 85 24).toInt ≤ 7) hP hD hS (lv_sub hl [1, 0] rfl)
  have L46 : ∀ (u : ac_U) (H : Heap) (locs : List Loc) (ls : Array Slot), ac_R rg u → ac_Fr [(85, some 24), (93, none)] u0 u → msI u → unI u → apI u → auI u → (0 : Int) ≤ (u.1 85 24).toInt ∧ (u.1 85 24).toInt ≤ 7 → va_P (dC, dI) vwCl (ac_w ad cA (TT nF) u) H → va_D A (ac_w ad cA (TT nF) u) → va_S A s.heap H locs → lv_has ls 2 [(0, .ref (ad 85))] → W p l e (ac_rm 1) s m [.ref (ad 85)].toArray below meth c H locs 0 0 (MQ below (va_Qv (fun (u : ac_U) => ac_R rg u ∧ ac_Fr [(85, some 24), (93, none)] u0 u ∧ (1 ≤ (u.1 85 24).toInt) ∧ msI u ∧ unI u ∧ apI u ∧ auI u) (ac_B (dC, dI) vwCl (ac_ty cA) ad cA (TT nF) A) A) [.ref (ad 85)].toArray s 0 0 A) (F0 m 46 ls []) := by
    intro u H locs ls hR hF hK_MS hK_UI hK_AP hK_AU f0 hP hD hS hl
    refine a_ic F (0 : Int32) dX12_keep_46 (by decide) ?_
    refine lv_istore_n (lv' := [(1, .int (0 : Int32)), (0, .ref (ad 85))]) F.1 F.2.1 dX12_keep_47 rfl hl (by decide) rfl (fun ls hl => ?_)
    have g10 : (0 : Int) ≤ (u.1 85 24).toInt ∧ (u.1 85 24).toInt ≤ 8 := hR 85 24
    exact L48 372 (0 : Int32) _ _ _ _ hR hF (by decide) hK_MS hK_UI (uk_0 (by decide)) hK_AP hK_AU (akw_0 (by decide)) (by decide) (by omega : (0 : Int) ≤ (u.1 85 24).toInt ∧ (u.1 85 24).toInt ≤ 7) hP hD hS (lv_sub hl [1, 0] rfl)
  have L11 : ∀ (n11 : Nat) (x1 : Int32) (u : ac_U) (H : Heap) (locs : List Loc) (ls : Array Slot), ac_R rg u → ac_Fr [(85, some 24), (93, none)] u0 u → 2590 - x1.toInt < (n11 : Int) → msI u → unI u → apI u → auI u → (0 : Int) ≤ x1.toInt ∧ x1.toInt ≤ 2590 → (8 : Int) ≤ (u.1 85 24).toInt ∧ (u.1 85 24).toInt ≤ 8 → va_P (dC, dI) vwCl (ac_w ad cA (TT nF) u) H → va_D A (ac_w ad cA (TT nF) u) → va_S A s.heap H locs → lv_has ls 2 [(0, .ref (ad 85)), (1, .int x1)] → W p l e (ac_rm 1) s m [.ref (ad 85)].toArray below meth c H locs 0 0 (MQ below (va_Qv (fun (u : ac_U) => ac_R rg u ∧ ac_Fr [(85, some 24), (93, none)] u0 u ∧ (1 ≤ (u.1 85 24).toInt) ∧ msI u ∧ unI u ∧ apI u ∧ auI u) (ac_B (dC, dI) vwCl (ac_ty cA) ad cA (TT nF) A) A) [.ref (ad 85)].toArray s 0 0 A) (F0 m 11 ls []) := by
    intro n11
    induction n11 with
    | zero => intro x1 u H locs ls hR hF hn11 hK_MS hK_UI hK_AP hK_AU f0 f1 hP hD hS hl; exfalso; omega
    | succ n11 ih11 =>
      intro x1 u H locs ls hR hF hn11 hK_MS hK_UI hK_AP hK_AU f0 f1 hP hD hS hl
      refine lv_iload_n F.1 F.2.1 dX12_keep_11 rfl (lv_at hl 1 rfl) ?_
      refine a_sp F (2590 : Int32) dX12_keep_12 (by decide) ?_
      refine b_ge F 40 dX12_keep_15 (by decide) rfl ic_2590 (fun c11 => ?_) (fun c11 => ?_)
      · refine lv_aload_n F.1 F.2.1 dX12_keep_40 rfl (lv_at hl 0 rfl) ?_
        refine a_bp F (7 : Int32) dX12_keep_41 (by decide) ?_
        refine a_puti F inX12 tyX12 tyX12_ok nmX12 hP hD hS 85 24 tc_85 rfl rfl (by decide) q1495 (fun _ h9 => h9) rfl (ty := .int) (tyX12_ok 24 (by decide)) rfl rfl dX12_keep_43 (fun H locs hP hD hS => ?_)
        have hR := hR.si (c := 85) (k := 24) (v := (7 : Int32)) (by rw [ic_7]; exact (by omega : (0 : Int) ≤ (7 : Int) ∧ (7 : Int) ≤ 8))
        have hF := hF.si (c := 85) (k := 24) (v := (7 : Int32)) rfl
        have hO_MS := hK_MS
        have hO_UI := hK_UI
        have hO_AP := hK_AP
        have hO_AU := hK_AU
        have hK_MS := sp_sgD sp_MS hD hK_MS (by decide)
        have hK_UI := un_dec hO_UI (v := (7 : Int32)) (by rw [ic_7]; omega)
        have hK_AP := sp_sgD sp_AP hD hK_AP (by decide)
        have hK_AU := au_dec hO_AU (v := (7 : Int32)) (by rw [ic_7]; omega)
        exact L46 _ _ _ _ hR hF hK_MS hK_UI hK_AP hK_AU (by omega : (0 : Int) ≤ (7 : Int) ∧ (7 : Int) ≤ 7) hP hD hS (lv_sub hl [0] rfl)
      · refine lv_aload_n F.1 F.2.1 dX12_keep_18 rfl (lv_at hl 0 rfl) ?_
        refine a_getr F inX12 hP 85 22 tc_85 rfl rfl (by decide) q1493 (fun _ h9 => h9) dX12_keep_19 ?_
        refine lv_iload_n F.1 F.2.1 dX12_keep_22 rfl (lv_at hl 1 rfl) ?_
        refine lv_aload_n F.1 F.2.1 dX12_keep_23 rfl (lv_at hl 0 rfl) ?_
        refine a_getr F inX12 hP 85 22 tc_85 rfl rfl (by decide) q1493 (fun _ h9 => h9) dX12_keep_24 ?_
        refine lv_iload_n F.1 F.2.1 dX12_keep_27 rfl (lv_at hl 1 rfl) ?_
        refine a_sp F (370 : Int32) dX12_keep_28 (by decide) ?_
        refine a_iadd F dX12_keep_31 rfl ic_370 (by omega) (fun v12 hv12 => ?_)
        refine a_iald F hP 93 tc_93 rfl (i_in rfl (by omega)) dX12_keep_32 (fun v13 ev13 => ?_)
        refine a_iast F hP hD hS 93 tc_93 rfl (i_in rfl (by omega)) dX12_keep_33 (fun H locs hP hD hS => ?_)
        have hR := hR.si (c := 93) (k := x1.toNatClampNeg) (v := v13) (cp_el hR ev13 (rg_u1 (by omega) (by omega)))
        have hF := hF.si (c := 93) (k := x1.toNatClampNeg) (v := v13) rfl
        have hO_MS := hK_MS
        have hO_UI := hK_UI
        have hO_AP := hK_AP
        have hO_AU := hK_AU
        have hK_MS := sp_sgD sp_MS hD hK_MS (by decide)
        have hK_UI := un_sh hO_UI (i := x1) (i' := v12) (by omega) (by omega) (by omega) ev13
        have hK_AP := sp_sgD sp_AP hD hK_AP (by decide)
        have hK_AU := au_sh hO_AU (i := x1) (i' := v12) (by omega) (by omega) (by omega) ev13
        refine a_iinc F (k := 1) (fun v14 => [(1, .int v14), (0, .ref (ad 85))]) dX12_keep_34 hl rfl rfl (by decide) (by omega) (by decide) (fun _ => rfl) (fun v14 ls hv14 hl => ?_)
        refine lv_goto (tgt := 11) F.1 F.2.1 dX12_keep_37 (by decide) ?_
        have g15 : (0 : Int) ≤ (u.1 85 24).toInt ∧ (u.1 85 24).toInt ≤ 8 := hR 85 24
        exact ih11 v14 _ _ _ _ hR hF (by omega) hK_MS hK_UI hK_AP hK_AU (by omega) (by omega : (8 : Int) ≤ (u.1 85 24).toInt ∧ (u.1 85 24).toInt ≤ 8) hP hD hS (lv_sub hl [1, 0] rfl)
  refine lv_aload_n F.1 F.2.1 dX12_keep_0 rfl (lv_at hl 0 rfl) ?_
  have g16 : (0 : Int) ≤ (u0.1 85 24).toInt ∧ (u0.1 85 24).toInt ≤ 8 := hR 85 24
  refine a_geti F inX12 hP 85 24 tc_85 rfl rfl (by decide) q1495 (fun _ h9 => h9) (v := (u0.1 85 24)) rfl dX12_keep_1 ?_
  refine a_bp F (8 : Int32) dX12_keep_4 (by decide) ?_
  refine b_ne F 46 dX12_keep_6 (by decide) rfl ic_8 (fun c17 => ?_) (fun c17 => ?_)
  · exact L46 _ _ _ _ hR hF hK_MS hK_UI hK_AP hK_AU (by omega : (0 : Int) ≤ (u0.1 85 24).toInt ∧ (u0.1 85 24).toInt ≤ 7) hP hD hS (lv_sub hl [0] rfl)
  · refine a_ic F (0 : Int32) dX12_keep_9 (by decide) ?_
    refine lv_istore_n (lv' := [(1, .int (0 : Int32)), (0, .ref (ad 85))]) F.1 F.2.1 dX12_keep_10 rfl hl (by decide) rfl (fun ls hl => ?_)
    exact L11 2592 (0 : Int32) _ _ _ _ hR hF (by decide) hK_MS hK_UI hK_AP hK_AU (by decide) (by omega : (8 : Int) ≤ (u0.1 85 24).toInt ∧ (u0.1 85 24).toInt ≤ 8) hP hD hS (lv_sub hl [1, 0] rfl)
set_option maxHeartbeats 600000 in
set_option maxRecDepth 100000 in
theorem c_X12_code_85 (l : Launch) (dC : Nat → ClassId) (dI : Nat → Nat → Nat) (ad : Nat → Nat) (cA : Nat → ClassId) (nF : Nat) (u0 : ac_U) (p0 : Int32) (p1 : Int32) (p2 : Int32) (hR : ac_R rg u0) (hf_85_39 : (0 : Int) ≤ (u0.1 85 39).toInt ∧ (u0.1 85 39).toInt ≤ 44) : ac_Mv l yX12_code (.code yX12_code cX12_code 4 none :: TB) 1 (dC, dI) vwCl (ac_ty cA) ad cA (TT nF) [.ref (ad 85), .int p0, .int p1, .int p2] u0 (fun (u : ac_U) => ac_R rg u ∧ ac_Fr [(85, some 39), (89, none)] u0 u ∧ ((u.1 85 39).toInt = (u0.1 85 39).toInt + 1) ∧ (cdE p0.toInt u0 u)) := by
  refine ac_Mv.of (cc := cX12_code) (maxL := 4) (ret := none) (by decide) rfl (Nat.le_of_ble_eq_true rfl) ?_
  intro p e s m below meth c A ls F hml hr hlocks hA hP hD hS hl
  have F : ac_X p s m [.ref (ad 85), .int p0, .int p1, .int p2].toArray c cX12_code RX12 TB (dC, dI) vwCl (ac_ty cA) := ⟨F.1, F.2.1, fun w h => F.2.2.1 w (List.mem_cons_of_mem _ h), F.2.2.2.1, F.2.2.2.2⟩
  have hl : lv_has ls 4 [(0, .ref (ad 85)), (1, .int p0), (2, .int p1), (3, .int p2)] := hl
  have hF : ac_Fr [(85, some 39), (89, none)] u0 u0 := ac_Fr.rf
  refine lv_aload_n F.1 F.2.1 dX12_code_0 rfl (lv_at hl 0 rfl) ?_
  refine a_getr F inX12 hP 85 8 tc_85 rfl rfl (by decide) q1479 (fun _ h9 => h9) dX12_code_1 ?_
  refine a_ic F (3 : Int32) dX12_code_4 (by decide) ?_
  refine lv_aload_n F.1 F.2.1 dX12_code_5 rfl (lv_at hl 0 rfl) ?_
  have g1 : (0 : Int) ≤ (u0.1 85 39).toInt ∧ (u0.1 85 39).toInt ≤ 45 := hR 85 39
  refine a_geti F inX12 hP 85 39 tc_85 rfl rfl (by decide) q1510 (fun _ h9 => h9) (v := (u0.1 85 39)) rfl dX12_code_6 ?_
  refine a_imul F dX12_code_9 ic_3 rfl (by omega) (fun v2 hv2 => ?_)
  refine lv_iload_n F.1 F.2.1 dX12_code_10 rfl (lv_at hl 1 rfl) ?_
  refine a_iast F hP hD hS 89 tc_89 rfl (i_in rfl (by omega)) dX12_code_11 (fun H locs hP hD hS => ?_)
  have hR := hR.si (c := 89) (k := v2.toNatClampNeg) (v := p0) ⟨i_lo _, i_hi _⟩
  have hF := hF.si (c := 89) (k := v2.toNatClampNeg) (v := p0) rfl
  refine lv_aload_n F.1 F.2.1 dX12_code_12 rfl (lv_at hl 0 rfl) ?_
  refine a_getr F inX12 hP 85 8 tc_85 rfl rfl (by decide) q1479 (fun _ h9 => h9) dX12_code_13 ?_
  refine a_ic F (3 : Int32) dX12_code_16 (by decide) ?_
  refine lv_aload_n F.1 F.2.1 dX12_code_17 rfl (lv_at hl 0 rfl) ?_
  refine a_geti F inX12 hP 85 39 tc_85 rfl rfl (by decide) q1510 (fun _ h9 => h9) (v := (u0.1 85 39)) (rfl) dX12_code_18 ?_
  refine a_imul F dX12_code_21 ic_3 rfl (by omega) (fun v3 hv3 => ?_)
  refine a_ic F (1 : Int32) dX12_code_22 (by decide) ?_
  refine a_iadd F dX12_code_23 rfl ic_1 (by omega) (fun v4 hv4 => ?_)
  refine lv_iload_n F.1 F.2.1 dX12_code_24 rfl (lv_at hl 2 rfl) ?_
  refine a_iast F hP hD hS 89 tc_89 rfl (i_in rfl (by omega)) dX12_code_25 (fun H locs hP hD hS => ?_)
  have hR := hR.si (c := 89) (k := v4.toNatClampNeg) (v := p1) ⟨i_lo _, i_hi _⟩
  have hF := hF.si (c := 89) (k := v4.toNatClampNeg) (v := p1) rfl
  refine lv_aload_n F.1 F.2.1 dX12_code_26 rfl (lv_at hl 0 rfl) ?_
  refine a_getr F inX12 hP 85 8 tc_85 rfl rfl (by decide) q1479 (fun _ h9 => h9) dX12_code_27 ?_
  refine a_ic F (3 : Int32) dX12_code_30 (by decide) ?_
  refine lv_aload_n F.1 F.2.1 dX12_code_31 rfl (lv_at hl 0 rfl) ?_
  refine a_geti F inX12 hP 85 39 tc_85 rfl rfl (by decide) q1510 (fun _ h9 => h9) (v := (u0.1 85 39)) (rfl) dX12_code_32 ?_
  refine a_imul F dX12_code_35 ic_3 rfl (by omega) (fun v5 hv5 => ?_)
  refine a_ic F (2 : Int32) dX12_code_36 (by decide) ?_
  refine a_iadd F dX12_code_37 rfl ic_2 (by omega) (fun v6 hv6 => ?_)
  refine lv_iload_n F.1 F.2.1 dX12_code_38 rfl (lv_at hl 3 rfl) ?_
  refine a_iast F hP hD hS 89 tc_89 rfl (i_in rfl (by omega)) dX12_code_39 (fun H locs hP hD hS => ?_)
  have hR := hR.si (c := 89) (k := v6.toNatClampNeg) (v := p2) ⟨i_lo _, i_hi _⟩
  have hF := hF.si (c := 89) (k := v6.toNatClampNeg) (v := p2) rfl
  refine lv_aload_n F.1 F.2.1 dX12_code_40 rfl (lv_at hl 0 rfl) ?_
  refine lv_dup F.1 F.2.1 dX12_code_41 rfl ?_
  refine a_geti F inX12 hP 85 39 tc_85 rfl rfl (by decide) q1510 (fun _ h9 => h9) (v := (u0.1 85 39)) (rfl) dX12_code_42 ?_
  refine a_ic F (1 : Int32) dX12_code_45 (by decide) ?_
  refine a_iadd F dX12_code_46 rfl ic_1 (by omega) (fun v7 hv7 => ?_)
  refine a_puti F inX12 tyX12 tyX12_ok nmX12 hP hD hS 85 39 tc_85 rfl rfl (by decide) q1510 (fun _ h9 => h9) rfl (ty := .int) (tyX12_ok 39 (by decide)) rfl rfl dX12_code_47 (fun H locs hP hD hS => ?_)
  have hR := hR.si (c := 85) (k := 39) (v := v7) (by omega : (0 : Int) ≤ v7.toInt ∧ v7.toInt ≤ 45)
  have hF := hF.si (c := 85) (k := 39) (v := v7) rfl
  exact a_retv F hr hlocks hP hD hS dX12_code_50 ⟨hR, hF, (by omega : v7.toInt = (u0.1 85 39).toInt + 1), (cd_codeD hD rfl rfl rfl rfl (by omega) (by omega) (by omega) (by omega) (by omega))⟩
set_option maxHeartbeats 600000 in
set_option maxRecDepth 100000 in
theorem c_X12_joins_85 (l : Launch) (dC : Nat → ClassId) (dI : Nat → Nat → Nat) (ad : Nat → Nat) (cA : Nat → ClassId) (nF : Nat) (u0 : ac_U) (p0 : Int32) (hR : ac_R rg u0) (hp0 : (21 : Int) ≤ p0.toInt ∧ p0.toInt ≤ 22) (hr0 : (u0.1 85 39).toInt + (u0.1 85 41).toInt ≤ 44) (hK_SW1 : (swI 1) u0) : ac_Mv l yX12_joins (.code yX12_joins cX12_joins 2 none :: TB) 2 (dC, dI) vwCl (ac_ty cA) ad cA (TT nF) [.ref (ad 85), .int p0] u0 (fun (u : ac_U) => ac_R rg u ∧ ac_Fr [(85, some 39), (85, some 41), (89, none)] u0 u ∧ ((u.1 85 39).toInt + (u.1 85 41).toInt = (u0.1 85 39).toInt + (u0.1 85 41).toInt ∧ (u.1 85 41).toInt ≤ (u0.1 85 41).toInt) ∧ (swI 1) u ∧ (fun u => p0.toInt = 22 → (u.1 85 41).toInt ≤ 45 → tpB u) u) := by
  refine ac_Mv.of (cc := cX12_joins) (maxL := 2) (ret := none) (by decide) rfl (Nat.le_of_ble_eq_true rfl) ?_
  intro p e s m below meth c A ls F hml hr hlocks hA hP hD hS hl
  have F : ac_X p s m [.ref (ad 85), .int p0].toArray c cX12_joins RX12 TB (dC, dI) vwCl (ac_ty cA) := ⟨F.1, F.2.1, fun w h => F.2.2.1 w (List.mem_cons_of_mem _ h), F.2.2.2.1, F.2.2.2.2⟩
  have hl : lv_has ls 2 [(0, .ref (ad 85)), (1, .int p0)] := hl
  have hF : ac_Fr [(85, some 39), (85, some 41), (89, none)] u0 u0 := ac_Fr.rf
  have L0 : ∀ (n0 : Nat) (u : ac_U) (H : Heap) (locs : List Loc) (ls : Array Slot), ac_R rg u → ac_Fr [(85, some 39), (85, some 41), (89, none)] u0 u → (u.1 85 41).toInt < (n0 : Int) → (swI 1) u → (u.1 85 39).toInt + (u.1 85 41).toInt = (u0.1 85 39).toInt + (u0.1 85 41).toInt → (u.1 85 41).toInt ≤ (u0.1 85 41).toInt → va_P (dC, dI) vwCl (ac_w ad cA (TT nF) u) H → va_D A (ac_w ad cA (TT nF) u) → va_S A s.heap H locs → lv_has ls 2 [(0, .ref (ad 85)), (1, .int p0)] → W p l e (ac_rm 2) s m [.ref (ad 85), .int p0].toArray below meth c H locs 0 0 (MQ below (va_Qv (fun (u : ac_U) => ac_R rg u ∧ ac_Fr [(85, some 39), (85, some 41), (89, none)] u0 u ∧ ((u.1 85 39).toInt + (u.1 85 41).toInt = (u0.1 85 39).toInt + (u0.1 85 41).toInt ∧ (u.1 85 41).toInt ≤ (u0.1 85 41).toInt) ∧ (swI 1) u ∧ (fun u => p0.toInt = 22 → (u.1 85 41).toInt ≤ 45 → tpB u) u) (ac_B (dC, dI) vwCl (ac_ty cA) ad cA (TT nF) A) A) [.ref (ad 85), .int p0].toArray s 0 0 A) (F0 m 0 ls []) := by
    intro n0
    induction n0 with
    | zero => intro u H locs ls hR hF hn0 hK_SW1 f0 f1 hP hD hS hl; have gz0 : (0 : Int) ≤ (u.1 85 41).toInt ∧ (u.1 85 41).toInt ≤ 45 := hR 85 41; exfalso; omega
    | succ n0 ih0 =>
      intro u H locs ls hR hF hn0 hK_SW1 f0 f1 hP hD hS hl
      refine lv_aload_n F.1 F.2.1 dX12_joins_0 rfl (lv_at hl 0 rfl) ?_
      have g1 : (0 : Int) ≤ (u.1 85 41).toInt ∧ (u.1 85 41).toInt ≤ 45 := hR 85 41
      refine a_geti F inX12 hP 85 41 tc_85 rfl rfl (by decide) q1512 (fun _ h9 => h9) (v := (u.1 85 41)) rfl dX12_joins_1 ?_
      refine z_le F 73 dX12_joins_4 (by decide) rfl (fun c2 => ?_) (fun c2 => ?_)
      · have g3 : (0 : Int) ≤ (u.1 85 39).toInt ∧ (u.1 85 39).toInt ≤ 45 := hR 85 39
        exact a_retv F hr hlocks hP hD hS dX12_joins_73 ⟨hR, hF, (by omega : (u.1 85 39).toInt + (u.1 85 41).toInt = (u0.1 85 39).toInt + (u0.1 85 41).toInt ∧ (u.1 85 41).toInt ≤ (u0.1 85 41).toInt), hK_SW1, (by intro h9 _; exact tp_0 (by omega))⟩
      · refine lv_aload_n F.1 F.2.1 dX12_joins_7 rfl (lv_at hl 0 rfl) ?_
        refine a_getr F inX12 hP 85 38 tc_85 rfl rfl (by decide) q1509 (fun _ h9 => h9) dX12_joins_8 ?_
        refine lv_aload_n F.1 F.2.1 dX12_joins_11 rfl (lv_at hl 0 rfl) ?_
        refine a_geti F inX12 hP 85 41 tc_85 rfl rfl (by decide) q1512 (fun _ h9 => h9) (v := (u.1 85 41)) (rfl) dX12_joins_12 ?_
        refine a_ic F (1 : Int32) dX12_joins_15 (by decide) ?_
        refine a_isub F dX12_joins_16 rfl ic_1 (by omega) (fun v4 hv4 => ?_)
        refine a_iald F hP 100 tc_100 rfl (i_in rfl (by omega)) dX12_joins_17 (fun v5 ev5 => ?_)
        refine a_bp F (21 : Int32) dX12_joins_18 (by decide) ?_
        refine b_eq F 45 dX12_joins_20 (by decide) rfl ic_21 (fun c6 => ?_) (fun c6 => ?_)
        · refine lv_aload_n F.1 F.2.1 dX12_joins_45 rfl (lv_at hl 0 rfl) ?_
          refine lv_dup F.1 F.2.1 dX12_joins_46 rfl ?_
          refine a_geti F inX12 hP 85 41 tc_85 rfl rfl (by decide) q1512 (fun _ h9 => h9) (v := (u.1 85 41)) (rfl) dX12_joins_47 ?_
          refine a_ic F (1 : Int32) dX12_joins_50 (by decide) ?_
          refine a_isub F dX12_joins_51 rfl ic_1 (by omega) (fun v7 hv7 => ?_)
          refine a_puti F inX12 tyX12 tyX12_ok nmX12 hP hD hS 85 41 tc_85 rfl rfl (by decide) q1512 (fun _ h9 => h9) rfl (ty := .int) (tyX12_ok 41 (by decide)) rfl rfl dX12_joins_52 (fun H locs hP hD hS => ?_)
          have hR := hR.si (c := 85) (k := 41) (v := v7) (by omega : (0 : Int) ≤ v7.toInt ∧ v7.toInt ≤ 45)
          have hF := hF.si (c := 85) (k := 41) (v := v7) rfl
          have hO_SW1 := hK_SW1
          have hN_SW2 := sw_pop2 hO_SW1 (t := (u.1 85 41)) (rfl) (i := v4) (v := v7) (by omega) (by omega) ev5 (by omega) (by omega)
          have hK_SW2 := hN_SW2
          refine lv_aload_n F.1 F.2.1 dX12_joins_55 rfl (lv_at hl 0 rfl) ?_
          refine lv_aload_n F.1 F.2.1 dX12_joins_56 rfl (lv_at hl 0 rfl) ?_
          refine a_getr F inX12 hP 85 38 tc_85 rfl rfl (by decide) q1509 (fun _ h9 => h9) dX12_joins_57 ?_
          refine lv_aload_n F.1 F.2.1 dX12_joins_60 rfl (lv_at hl 0 rfl) ?_
          refine a_geti F inX12 hP 85 41 tc_85 rfl rfl (by decide) q1512 (fun _ h9 => h9) (v := v7) (rfl) dX12_joins_61 ?_
          refine a_iald F hP 100 tc_100 rfl (i_in rfl (by omega)) dX12_joins_64 (fun v8 ev8 => ?_)
          have hm9 := ld_same ev5 ev8 rfl (by omega)
          refine a_ic F (0 : Int32) dX12_joins_65 (by decide) ?_
          refine a_ic F (0 : Int32) dX12_joins_66 (by decide) ?_
          have g9 : (0 : Int) ≤ (u.1 85 39).toInt ∧ (u.1 85 39).toInt ≤ 45 := hR 85 39
          have hP_SW2 := hK_SW2
          refine a_Vv F hml hl.1 hA hP hD hS (As := [.int v8, .int (0 : Int32), .int (0 : Int32)]) (c_X12_code_85 l dC dI ad cA nF _ v8 (0 : Int32) (0 : Int32) hR (by omega : (0 : Int) ≤ (u.1 85 39).toInt ∧ (u.1 85 39).toInt ≤ 44)) (cs_RX12_419 (d := 1) F.2.2.1 (by decide)) tc_85 rfl rfl rfl rfl (Nat.le_of_ble_eq_true rfl) dX12_joins_67 ⟨Nat.le_refl 0, Nat.le_refl 0⟩ (fun u10 H locs hq hP hD hS => ?_)
          obtain ⟨hR, hF10, xr10, hE_r10⟩ := hq
          have hF := hF.tr hF10 (by decide)
          have hK_SW1 := cd_bin hE_r10 hK_SW2 (by omega)
          have g11 : (0 : Int) ≤ (u10.1 85 39).toInt ∧ (u10.1 85 39).toInt ≤ 45 := hR 85 39
          have xr10 : (u10.1 85 39).toInt = (u.1 85 39).toInt + 1 := xr10
          refine lv_goto (tgt := 0) F.1 F.2.1 dX12_joins_70 (by decide) ?_
          exact ih0 _ _ _ _ hR hF (by show (u10.1 85 41).toInt < ((n0 : Nat) : Int); rw [hF10 85 41 rfl]; exact (by omega : v7.toInt < ((n0 : Nat) : Int))) hK_SW1 (by rw [hF10 85 41 rfl]; try exact (by omega : (u10.1 85 39).toInt + v7.toInt = (u0.1 85 39).toInt + (u0.1 85 41).toInt)) (by rw [hF10 85 41 rfl]; try exact (by omega : v7.toInt ≤ (u0.1 85 41).toInt)) hP hD hS (lv_sub hl [0, 1] rfl)
        · refine lv_aload_n F.1 F.2.1 dX12_joins_23 rfl (lv_at hl 0 rfl) ?_
          refine a_getr F inX12 hP 85 38 tc_85 rfl rfl (by decide) q1509 (fun _ h9 => h9) dX12_joins_24 ?_
          refine lv_aload_n F.1 F.2.1 dX12_joins_27 rfl (lv_at hl 0 rfl) ?_
          refine a_geti F inX12 hP 85 41 tc_85 rfl rfl (by decide) q1512 (fun _ h9 => h9) (v := (u.1 85 41)) (rfl) dX12_joins_28 ?_
          refine a_ic F (1 : Int32) dX12_joins_31 (by decide) ?_
          refine a_isub F dX12_joins_32 rfl ic_1 (by omega) (fun v12 hv12 => ?_)
          refine a_iald F hP 100 tc_100 rfl (i_in rfl (by omega)) dX12_joins_33 (fun v13 ev13 => ?_)
          refine a_bp F (22 : Int32) dX12_joins_34 (by decide) ?_
          refine b_ne F 73 dX12_joins_36 (by decide) rfl ic_22 (fun c14 => ?_) (fun c14 => ?_)
          · have g15 : (0 : Int) ≤ (u.1 85 39).toInt ∧ (u.1 85 39).toInt ≤ 45 := hR 85 39
            exact a_retv F hr hlocks hP hD hS dX12_joins_73 ⟨hR, hF, (by omega : (u.1 85 39).toInt + (u.1 85 41).toInt = (u0.1 85 39).toInt + (u0.1 85 41).toInt ∧ (u.1 85 41).toInt ≤ (u0.1 85 41).toInt), hK_SW1, (by intro h9 _; first | exact absurd h9 (by omega) | exact tp_x (i := v4) (j := v12) (by omega) (by omega) ev5 ev13 (by omega) (by omega))⟩
          · refine lv_iload_n F.1 F.2.1 dX12_joins_39 rfl (lv_at hl 1 rfl) ?_
            refine a_bp F (22 : Int32) dX12_joins_40 (by decide) ?_
            refine b_ne F 73 dX12_joins_42 (by decide) rfl ic_22 (fun c16 => ?_) (fun c16 => ?_)
            · have g17 : (0 : Int) ≤ (u.1 85 39).toInt ∧ (u.1 85 39).toInt ≤ 45 := hR 85 39
              exact a_retv F hr hlocks hP hD hS dX12_joins_73 ⟨hR, hF, (by omega : (u.1 85 39).toInt + (u.1 85 41).toInt = (u0.1 85 39).toInt + (u0.1 85 41).toInt ∧ (u.1 85 41).toInt ≤ (u0.1 85 41).toInt), hK_SW1, (by intro h9 _; first | exact absurd h9 (by omega) | exact tp_x (i := v4) (j := v12) (by omega) (by omega) ev5 ev13 (by omega) (by omega))⟩
            · refine lv_aload_n F.1 F.2.1 dX12_joins_45 rfl (lv_at hl 0 rfl) ?_
              refine lv_dup F.1 F.2.1 dX12_joins_46 rfl ?_
              refine a_geti F inX12 hP 85 41 tc_85 rfl rfl (by decide) q1512 (fun _ h9 => h9) (v := (u.1 85 41)) (rfl) dX12_joins_47 ?_
              refine a_ic F (1 : Int32) dX12_joins_50 (by decide) ?_
              refine a_isub F dX12_joins_51 rfl ic_1 (by omega) (fun v18 hv18 => ?_)
              refine a_puti F inX12 tyX12 tyX12_ok nmX12 hP hD hS 85 41 tc_85 rfl rfl (by decide) q1512 (fun _ h9 => h9) rfl (ty := .int) (tyX12_ok 41 (by decide)) rfl rfl dX12_joins_52 (fun H locs hP hD hS => ?_)
              have hR := hR.si (c := 85) (k := 41) (v := v18) (by omega : (0 : Int) ≤ v18.toInt ∧ v18.toInt ≤ 45)
              have hF := hF.si (c := 85) (k := 41) (v := v18) rfl
              have hO_SW1 := hK_SW1
              have hN_SW2 := sw_pop2 hO_SW1 (t := (u.1 85 41)) (rfl) (i := v12) (v := v18) (by omega) (by omega) ev13 (by omega) (by omega)
              have hK_SW2 := hN_SW2
              refine lv_aload_n F.1 F.2.1 dX12_joins_55 rfl (lv_at hl 0 rfl) ?_
              refine lv_aload_n F.1 F.2.1 dX12_joins_56 rfl (lv_at hl 0 rfl) ?_
              refine a_getr F inX12 hP 85 38 tc_85 rfl rfl (by decide) q1509 (fun _ h9 => h9) dX12_joins_57 ?_
              refine lv_aload_n F.1 F.2.1 dX12_joins_60 rfl (lv_at hl 0 rfl) ?_
              refine a_geti F inX12 hP 85 41 tc_85 rfl rfl (by decide) q1512 (fun _ h9 => h9) (v := v18) (rfl) dX12_joins_61 ?_
              refine a_iald F hP 100 tc_100 rfl (i_in rfl (by omega)) dX12_joins_64 (fun v19 ev19 => ?_)
              have hm9 := ld_same ev13 ev19 rfl (by omega)
              refine a_ic F (0 : Int32) dX12_joins_65 (by decide) ?_
              refine a_ic F (0 : Int32) dX12_joins_66 (by decide) ?_
              have g20 : (0 : Int) ≤ (u.1 85 39).toInt ∧ (u.1 85 39).toInt ≤ 45 := hR 85 39
              have hP_SW2 := hK_SW2
              refine a_Vv F hml hl.1 hA hP hD hS (As := [.int v19, .int (0 : Int32), .int (0 : Int32)]) (c_X12_code_85 l dC dI ad cA nF _ v19 (0 : Int32) (0 : Int32) hR (by omega : (0 : Int) ≤ (u.1 85 39).toInt ∧ (u.1 85 39).toInt ≤ 44)) (cs_RX12_419 (d := 1) F.2.2.1 (by decide)) tc_85 rfl rfl rfl rfl (Nat.le_of_ble_eq_true rfl) dX12_joins_67 ⟨Nat.le_refl 0, Nat.le_refl 0⟩ (fun u21 H locs hq hP hD hS => ?_)
              obtain ⟨hR, hF21, xr21, hE_r21⟩ := hq
              have hF := hF.tr hF21 (by decide)
              have hK_SW1 := cd_bin hE_r21 hK_SW2 (by omega)
              have g22 : (0 : Int) ≤ (u21.1 85 39).toInt ∧ (u21.1 85 39).toInt ≤ 45 := hR 85 39
              have xr21 : (u21.1 85 39).toInt = (u.1 85 39).toInt + 1 := xr21
              refine lv_goto (tgt := 0) F.1 F.2.1 dX12_joins_70 (by decide) ?_
              exact ih0 _ _ _ _ hR hF (by show (u21.1 85 41).toInt < ((n0 : Nat) : Int); rw [hF21 85 41 rfl]; exact (by omega : v18.toInt < ((n0 : Nat) : Int))) hK_SW1 (by rw [hF21 85 41 rfl]; try exact (by omega : (u21.1 85 39).toInt + v18.toInt = (u0.1 85 39).toInt + (u0.1 85 41).toInt)) (by rw [hF21 85 41 rfl]; try exact (by omega : v18.toInt ≤ (u0.1 85 41).toInt)) hP hD hS (lv_sub hl [0, 1] rfl)
  have g23 : (0 : Int) ≤ (u0.1 85 39).toInt ∧ (u0.1 85 39).toInt ≤ 45 := hR 85 39
  have g24 : (0 : Int) ≤ (u0.1 85 41).toInt ∧ (u0.1 85 41).toInt ≤ 45 := hR 85 41
  exact L0 47 _ _ _ _ hR hF (by omega : (u0.1 85 41).toInt < (47 : Int)) hK_SW1 (by omega : (u0.1 85 39).toInt + (u0.1 85 41).toInt = (u0.1 85 39).toInt + (u0.1 85 41).toInt) (by omega : (u0.1 85 41).toInt ≤ (u0.1 85 41).toInt) hP hD hS (lv_sub hl [0, 1] rfl)
set_option maxHeartbeats 600000 in
set_option maxRecDepth 100000 in
theorem c_X12_nots_85 (l : Launch) (dC : Nat → ClassId) (dI : Nat → Nat → Nat) (ad : Nat → Nat) (cA : Nat → ClassId) (nF : Nat) (u0 : ac_U)  (hR : ac_R rg u0) (hr0 : (u0.1 85 39).toInt + (u0.1 85 41).toInt ≤ 44) (hK_SW1 : (swI 1) u0) : ac_Mv l yX12_nots (.code yX12_nots cX12_nots 1 none :: TB) 2 (dC, dI) vwCl (ac_ty cA) ad cA (TT nF) [.ref (ad 85)] u0 (fun (u : ac_U) => ac_R rg u ∧ ac_Fr [(85, some 39), (85, some 41), (85, some 42), (89, none)] u0 u ∧ ((u.1 85 39).toInt + (u.1 85 41).toInt = (u0.1 85 39).toInt + (u0.1 85 41).toInt ∧ (u.1 85 41).toInt ≤ (u0.1 85 41).toInt) ∧ (swI 1) u) := by
  refine ac_Mv.of (cc := cX12_nots) (maxL := 1) (ret := none) (by decide) rfl (Nat.le_of_ble_eq_true rfl) ?_
  intro p e s m below meth c A ls F hml hr hlocks hA hP hD hS hl
  have F : ac_X p s m [.ref (ad 85)].toArray c cX12_nots RX12 TB (dC, dI) vwCl (ac_ty cA) := ⟨F.1, F.2.1, fun w h => F.2.2.1 w (List.mem_cons_of_mem _ h), F.2.2.2.1, F.2.2.2.2⟩
  have hl : lv_has ls 1 [(0, .ref (ad 85))] := hl
  have hF : ac_Fr [(85, some 39), (85, some 41), (85, some 42), (89, none)] u0 u0 := ac_Fr.rf
  have L0 : ∀ (n0 : Nat) (u : ac_U) (H : Heap) (locs : List Loc) (ls : Array Slot), ac_R rg u → ac_Fr [(85, some 39), (85, some 41), (85, some 42), (89, none)] u0 u → (u.1 85 41).toInt < (n0 : Int) → (swI 1) u → (u.1 85 39).toInt + (u.1 85 41).toInt = (u0.1 85 39).toInt + (u0.1 85 41).toInt → (u.1 85 41).toInt ≤ (u0.1 85 41).toInt → va_P (dC, dI) vwCl (ac_w ad cA (TT nF) u) H → va_D A (ac_w ad cA (TT nF) u) → va_S A s.heap H locs → lv_has ls 1 [(0, .ref (ad 85))] → W p l e (ac_rm 2) s m [.ref (ad 85)].toArray below meth c H locs 0 0 (MQ below (va_Qv (fun (u : ac_U) => ac_R rg u ∧ ac_Fr [(85, some 39), (85, some 41), (85, some 42), (89, none)] u0 u ∧ ((u.1 85 39).toInt + (u.1 85 41).toInt = (u0.1 85 39).toInt + (u0.1 85 41).toInt ∧ (u.1 85 41).toInt ≤ (u0.1 85 41).toInt) ∧ (swI 1) u) (ac_B (dC, dI) vwCl (ac_ty cA) ad cA (TT nF) A) A) [.ref (ad 85)].toArray s 0 0 A) (F0 m 0 ls []) := by
    intro n0
    induction n0 with
    | zero => intro u H locs ls hR hF hn0 hK_SW1 f0 f1 hP hD hS hl; have gz0 : (0 : Int) ≤ (u.1 85 41).toInt ∧ (u.1 85 41).toInt ≤ 45 := hR 85 41; exfalso; omega
    | succ n0 ih0 =>
      intro u H locs ls hR hF hn0 hK_SW1 f0 f1 hP hD hS hl
      refine lv_aload_n F.1 F.2.1 dX12_nots_0 rfl (lv_at hl 0 rfl) ?_
      have g1 : (0 : Int) ≤ (u.1 85 41).toInt ∧ (u.1 85 41).toInt ≤ 45 := hR 85 41
      refine a_geti F inX12 hP 85 41 tc_85 rfl rfl (by decide) q1512 (fun _ h9 => h9) (v := (u.1 85 41)) rfl dX12_nots_1 ?_
      refine z_le F 54 dX12_nots_4 (by decide) rfl (fun c2 => ?_) (fun c2 => ?_)
      · have g3 : (0 : Int) ≤ (u.1 85 39).toInt ∧ (u.1 85 39).toInt ≤ 45 := hR 85 39
        exact a_retv F hr hlocks hP hD hS dX12_nots_54 ⟨hR, hF, (by omega : (u.1 85 39).toInt + (u.1 85 41).toInt = (u0.1 85 39).toInt + (u0.1 85 41).toInt ∧ (u.1 85 41).toInt ≤ (u0.1 85 41).toInt), hK_SW1⟩
      · refine lv_aload_n F.1 F.2.1 dX12_nots_7 rfl (lv_at hl 0 rfl) ?_
        refine a_getr F inX12 hP 85 38 tc_85 rfl rfl (by decide) q1509 (fun _ h9 => h9) dX12_nots_8 ?_
        refine lv_aload_n F.1 F.2.1 dX12_nots_11 rfl (lv_at hl 0 rfl) ?_
        refine a_geti F inX12 hP 85 41 tc_85 rfl rfl (by decide) q1512 (fun _ h9 => h9) (v := (u.1 85 41)) (rfl) dX12_nots_12 ?_
        refine a_ic F (1 : Int32) dX12_nots_15 (by decide) ?_
        refine a_isub F dX12_nots_16 rfl ic_1 (by omega) (fun v4 hv4 => ?_)
        refine a_iald F hP 100 tc_100 rfl (i_in rfl (by omega)) dX12_nots_17 (fun v5 ev5 => ?_)
        refine a_bp F (20 : Int32) dX12_nots_18 (by decide) ?_
        refine b_ne F 54 dX12_nots_20 (by decide) rfl ic_20 (fun c6 => ?_) (fun c6 => ?_)
        · have g7 : (0 : Int) ≤ (u.1 85 39).toInt ∧ (u.1 85 39).toInt ≤ 45 := hR 85 39
          exact a_retv F hr hlocks hP hD hS dX12_nots_54 ⟨hR, hF, (by omega : (u.1 85 39).toInt + (u.1 85 41).toInt = (u0.1 85 39).toInt + (u0.1 85 41).toInt ∧ (u.1 85 41).toInt ≤ (u0.1 85 41).toInt), hK_SW1⟩
        · refine lv_aload_n F.1 F.2.1 dX12_nots_23 rfl (lv_at hl 0 rfl) ?_
          refine lv_dup F.1 F.2.1 dX12_nots_24 rfl ?_
          refine a_geti F inX12 hP 85 41 tc_85 rfl rfl (by decide) q1512 (fun _ h9 => h9) (v := (u.1 85 41)) (rfl) dX12_nots_25 ?_
          refine a_ic F (1 : Int32) dX12_nots_28 (by decide) ?_
          refine a_isub F dX12_nots_29 rfl ic_1 (by omega) (fun v8 hv8 => ?_)
          refine a_puti F inX12 tyX12 tyX12_ok nmX12 hP hD hS 85 41 tc_85 rfl rfl (by decide) q1512 (fun _ h9 => h9) rfl (ty := .int) (tyX12_ok 41 (by decide)) rfl rfl dX12_nots_30 (fun H locs hP hD hS => ?_)
          have hR := hR.si (c := 85) (k := 41) (v := v8) (by omega : (0 : Int) ≤ v8.toInt ∧ v8.toInt ≤ 45)
          have hF := hF.si (c := 85) (k := 41) (v := v8) rfl
          have hO_SW1 := hK_SW1
          have hK_SW1 := sw_pop0 hO_SW1 (t := (u.1 85 41)) (rfl) (i := v4) (v := v8) (by omega) (by omega) ev5 (by omega) (by omega)
          refine lv_aload_n F.1 F.2.1 dX12_nots_33 rfl (lv_at hl 0 rfl) ?_
          refine lv_dup F.1 F.2.1 dX12_nots_34 rfl ?_
          refine a_geti F inX12 hP 85 42 tc_85 rfl rfl (by decide) q1513 (fun _ h9 => h9) (v := (u.1 85 42)) rfl dX12_nots_35 ?_
          refine a_ic F (1 : Int32) dX12_nots_38 (by decide) ?_
          refine a_isubU F dX12_nots_39 (fun v9 => ?_)
          refine a_puti F inX12 tyX12 tyX12_ok nmX12 hP hD hS 85 42 tc_85 rfl rfl (by decide) q1513 (fun _ h9 => h9) rfl (ty := .int) (tyX12_ok 42 (by decide)) rfl rfl dX12_nots_40 (fun H locs hP hD hS => ?_)
          have hR := hR.si (c := 85) (k := 42) (v := v9) ⟨i_lo _, i_hi _⟩
          have hF := hF.si (c := 85) (k := 42) (v := v9) rfl
          have hK_SW1 := sp_si (sp_sw _) hK_SW1 (c := 85) (k := 42) (v := v9) (fun j9 h9 q9 => by rw [q9] at h9; exact absurd h9 (by decide))
          refine lv_aload_n F.1 F.2.1 dX12_nots_43 rfl (lv_at hl 0 rfl) ?_
          refine a_bp F (20 : Int32) dX12_nots_44 (by decide) ?_
          refine a_ic F (0 : Int32) dX12_nots_46 (by decide) ?_
          refine a_ic F (0 : Int32) dX12_nots_47 (by decide) ?_
          have g10 : (0 : Int) ≤ (u.1 85 39).toInt ∧ (u.1 85 39).toInt ≤ 45 := hR 85 39
          have hP_SW1 := hK_SW1
          refine a_Vv F hml hl.1 hA hP hD hS (As := [.int (20 : Int32), .int (0 : Int32), .int (0 : Int32)]) (c_X12_code_85 l dC dI ad cA nF _ (20 : Int32) (0 : Int32) (0 : Int32) hR (by omega : (0 : Int) ≤ (u.1 85 39).toInt ∧ (u.1 85 39).toInt ≤ 44)) (cs_RX12_419 (d := 1) F.2.2.1 (by decide)) tc_85 rfl rfl rfl rfl (Nat.le_of_ble_eq_true rfl) dX12_nots_48 ⟨Nat.le_refl 0, Nat.le_refl 0⟩ (fun u11 H locs hq hP hD hS => ?_)
          obtain ⟨hR, hF11, xr11, hE_r11⟩ := hq
          have hF := hF.tr hF11 (by decide)
          have hK_SW1 := cd_not hE_r11 hP_SW1 (by decide)
          have g12 : (0 : Int) ≤ (u11.1 85 39).toInt ∧ (u11.1 85 39).toInt ≤ 45 := hR 85 39
          have xr11 : (u11.1 85 39).toInt = (u.1 85 39).toInt + 1 := xr11
          refine lv_goto (tgt := 0) F.1 F.2.1 dX12_nots_51 (by decide) ?_
          exact ih0 _ _ _ _ hR hF (by show (u11.1 85 41).toInt < ((n0 : Nat) : Int); rw [hF11 85 41 rfl]; exact (by omega : v8.toInt < ((n0 : Nat) : Int))) hK_SW1 (by rw [hF11 85 41 rfl]; try exact (by omega : (u11.1 85 39).toInt + v8.toInt = (u0.1 85 39).toInt + (u0.1 85 41).toInt)) (by rw [hF11 85 41 rfl]; try exact (by omega : v8.toInt ≤ (u0.1 85 41).toInt)) hP hD hS (lv_sub hl [0] rfl)
  have g13 : (0 : Int) ≤ (u0.1 85 39).toInt ∧ (u0.1 85 39).toInt ≤ 45 := hR 85 39
  have g14 : (0 : Int) ≤ (u0.1 85 41).toInt ∧ (u0.1 85 41).toInt ≤ 45 := hR 85 41
  exact L0 47 _ _ _ _ hR hF (by omega : (u0.1 85 41).toInt < (47 : Int)) hK_SW1 (by omega : (u0.1 85 39).toInt + (u0.1 85 41).toInt = (u0.1 85 39).toInt + (u0.1 85 41).toInt) (by omega : (u0.1 85 41).toInt ≤ (u0.1 85 41).toInt) hP hD hS (lv_sub hl [0] rfl)
set_option maxHeartbeats 600000 in
set_option maxRecDepth 100000 in
theorem c_X12_behind_85 (l : Launch) (dC : Nat → ClassId) (dI : Nat → Nat → Nat) (ad : Nat → Nat) (cA : Nat → ClassId) (nF : Nat) (u0 : ac_U)  (hR : ac_R rg u0) (hf_85_43 : (1 : Int) ≤ (u0.1 85 43).toInt ∧ (u0.1 85 43).toInt ≤ 1) (hr0 : (u0.1 85 39).toInt + (u0.1 85 41).toInt + 1 ≤ 2 * (u0.1 85 40).toInt) (hK_SW1 : (swI 1) u0) : ac_Mi l yX12_behind (.code yX12_behind cX12_behind 1 (some .boolean) :: TB) 3 (dC, dI) vwCl (ac_ty cA) ad cA (TT nF) [.ref (ad 85)] u0 (fun (r : Int32) (u : ac_U) => ac_R rg u ∧ ac_Fr [(85, some 4), (85, some 11), (85, some 12), (85, some 13), (85, some 14), (85, some 15), (85, some 16), (85, some 39), (85, some 41), (85, some 42), (85, some 43), (89, none), (100, none)] u0 u ∧ ((0 : Int) ≤ r.toInt ∧ r.toInt ≤ 1) ∧ (r.toInt ≠ 0 → (u.1 85 40).toInt = (u0.1 85 40).toInt ∧ (u.1 85 39).toInt + (u.1 85 41).toInt ≤ 2 * (u.1 85 40).toInt - (u.1 85 43).toInt ∧ (u.1 85 41).toInt + 2 * (u.1 85 43).toInt + 1 ≤ (u0.1 85 41).toInt + 2) ∧ (r.toInt ≠ 0 → swW u)) := by
  refine ac_Mi.of (cc := cX12_behind) (maxL := 1) (ret := (some .boolean)) (by decide) rfl (Nat.le_of_ble_eq_true rfl) ?_
  intro p e s m below meth c A ls F hml hr hlocks hA hP hD hS hl
  have F : ac_X p s m [.ref (ad 85)].toArray c cX12_behind RX12 TB (dC, dI) vwCl (ac_ty cA) := ⟨F.1, F.2.1, fun w h => F.2.2.1 w (List.mem_cons_of_mem _ h), F.2.2.2.1, F.2.2.2.2⟩
  have hl : lv_has ls 1 [(0, .ref (ad 85))] := hl
  have hF : ac_Fr [(85, some 4), (85, some 11), (85, some 12), (85, some 13), (85, some 14), (85, some 15), (85, some 16), (85, some 39), (85, some 41), (85, some 42), (85, some 43), (89, none), (100, none)] u0 u0 := ac_Fr.rf
  have L114 : ∀ (u : ac_U) (H : Heap) (locs : List Loc) (ls : Array Slot), ac_R rg u → ac_Fr [(85, some 4), (85, some 11), (85, some 12), (85, some 13), (85, some 14), (85, some 15), (85, some 16), (85, some 39), (85, some 41), (85, some 42), (85, some 43), (89, none), (100, none)] u0 u → (1 : Int) ≤ (u.1 85 43).toInt ∧ (u.1 85 43).toInt ≤ 1 → va_P (dC, dI) vwCl (ac_w ad cA (TT nF) u) H → va_D A (ac_w ad cA (TT nF) u) → va_S A s.heap H locs → lv_has ls 1 [(0, .ref (ad 85))] → W p l e (ac_rm 3) s m [.ref (ad 85)].toArray below meth c H locs 0 0 (MQ below (va_Qi (fun (r : Int32) (u : ac_U) => ac_R rg u ∧ ac_Fr [(85, some 4), (85, some 11), (85, some 12), (85, some 13), (85, some 14), (85, some 15), (85, some 16), (85, some 39), (85, some 41), (85, some 42), (85, some 43), (89, none), (100, none)] u0 u ∧ ((0 : Int) ≤ r.toInt ∧ r.toInt ≤ 1) ∧ (r.toInt ≠ 0 → (u.1 85 40).toInt = (u0.1 85 40).toInt ∧ (u.1 85 39).toInt + (u.1 85 41).toInt ≤ 2 * (u.1 85 40).toInt - (u.1 85 43).toInt ∧ (u.1 85 41).toInt + 2 * (u.1 85 43).toInt + 1 ≤ (u0.1 85 41).toInt + 2) ∧ (r.toInt ≠ 0 → swW u)) (ac_B (dC, dI) vwCl (ac_ty cA) ad cA (TT nF) A) A) [.ref (ad 85)].toArray s 0 0 A) (F0 m 114 ls []) := by
    intro u H locs ls hR hF f0 hP hD hS hl
    refine lv_aload_n F.1 F.2.1 dX12_behind_114 rfl (lv_at hl 0 rfl) ?_
    refine a_ic F (1 : Int32) dX12_behind_115 (by decide) ?_
    have g2 : (0 : Int) ≤ (u.1 85 39).toInt ∧ (u.1 85 39).toInt ≤ 45 := hR 85 39
    have g3 : (0 : Int) ≤ (u.1 85 41).toInt ∧ (u.1 85 41).toInt ≤ 45 := hR 85 41
    have g4 : (0 : Int) ≤ (u.1 85 40).toInt ∧ (u.1 85 40).toInt ≤ 20 := hR 85 40
    have g5 : (0 : Int) ≤ (u.1 85 43).toInt ∧ (u.1 85 43).toInt ≤ 1 := hR 85 43
    refine a_Vi F hml hl.1 hA hP hD hS (As := [.int (1 : Int32)]) (c_X12_bad_85 l dC dI ad cA nF _ (1 : Int32) hR (by decide)) (cs_RX12_181 (d := 1) F.2.2.1 (by decide)) tc_85 rfl rfl rfl rfl (Nat.le_of_ble_eq_true rfl) dX12_behind_116 ⟨Nat.le_refl 0, Nat.le_refl 0⟩ (fun r1 u1 H locs hq hP hD hS => ?_)
    obtain ⟨hR, hF1, gr1⟩ := hq
    have hF := hF.tr hF1 (by decide)
    have k6 : (u1.1 85 40).toInt = (u.1 85 40).toInt := congrArg Int32.toInt (show u1.1 85 40 = (u.1 85 40) from hF1 85 40 rfl)
    have k7 : (u1.1 85 39).toInt = (u.1 85 39).toInt := congrArg Int32.toInt (show u1.1 85 39 = (u.1 85 39) from hF1 85 39 rfl)
    have k8 : (u1.1 85 41).toInt = (u.1 85 41).toInt := congrArg Int32.toInt (show u1.1 85 41 = (u.1 85 41) from hF1 85 41 rfl)
    have k9 : (u1.1 85 43).toInt = (u.1 85 43).toInt := congrArg Int32.toInt (show u1.1 85 43 = (u.1 85 43) from hF1 85 43 rfl)
    exact a_retz F hr hlocks hP hD hS dX12_behind_119 (i_01 (by omega)) ⟨hR, hF, (by omega : (0 : Int) ≤ r1.toInt ∧ r1.toInt ≤ 1), (by omega : r1.toInt ≠ 0 → (u1.1 85 40).toInt = (u0.1 85 40).toInt ∧ (u1.1 85 39).toInt + (u1.1 85 41).toInt ≤ 2 * (u1.1 85 40).toInt - (u1.1 85 43).toInt ∧ (u1.1 85 41).toInt + 2 * (u1.1 85 43).toInt + 1 ≤ (u0.1 85 41).toInt + 2), (fun h9 => absurd (by omega : r1.toInt = 0) h9)⟩
  have L24 : ∀ (u : ac_U) (H : Heap) (locs : List Loc) (ls : Array Slot), ac_R rg u → ac_Fr [(85, some 4), (85, some 11), (85, some 12), (85, some 13), (85, some 14), (85, some 15), (85, some 16), (85, some 39), (85, some 41), (85, some 42), (85, some 43), (89, none), (100, none)] u0 u → (swI 1) u → (1 : Int) ≤ (u.1 85 43).toInt ∧ (u.1 85 43).toInt ≤ 1 → (u.1 85 39).toInt + (u.1 85 41).toInt = (u0.1 85 39).toInt + (u0.1 85 41).toInt → (u.1 85 41).toInt ≤ (u0.1 85 41).toInt → (u.1 85 40).toInt = (u0.1 85 40).toInt → va_P (dC, dI) vwCl (ac_w ad cA (TT nF) u) H → va_D A (ac_w ad cA (TT nF) u) → va_S A s.heap H locs → lv_has ls 1 [(0, .ref (ad 85))] → W p l e (ac_rm 3) s m [.ref (ad 85)].toArray below meth c H locs 0 0 (MQ below (va_Qi (fun (r : Int32) (u : ac_U) => ac_R rg u ∧ ac_Fr [(85, some 4), (85, some 11), (85, some 12), (85, some 13), (85, some 14), (85, some 15), (85, some 16), (85, some 39), (85, some 41), (85, some 42), (85, some 43), (89, none), (100, none)] u0 u ∧ ((0 : Int) ≤ r.toInt ∧ r.toInt ≤ 1) ∧ (r.toInt ≠ 0 → (u.1 85 40).toInt = (u0.1 85 40).toInt ∧ (u.1 85 39).toInt + (u.1 85 41).toInt ≤ 2 * (u.1 85 40).toInt - (u.1 85 43).toInt ∧ (u.1 85 41).toInt + 2 * (u.1 85 43).toInt + 1 ≤ (u0.1 85 41).toInt + 2) ∧ (r.toInt ≠ 0 → swW u)) (ac_B (dC, dI) vwCl (ac_ty cA) ad cA (TT nF) A) A) [.ref (ad 85)].toArray s 0 0 A) (F0 m 24 ls []) := by
    intro u H locs ls hR hF hK_SW1 f0 f1 f2 f3 hP hD hS hl
    refine lv_aload_n F.1 F.2.1 dX12_behind_24 rfl (lv_at hl 0 rfl) ?_
    refine lv_aload_n F.1 F.2.1 dX12_behind_25 rfl (lv_at hl 0 rfl) ?_
    refine lv_ldc2 (v := (6385252 : Int64)) F.1 F.2.1 F.2.2.2.1 (F.2.2.1 _ q1459) dX12_behind_26 ?_
    refine a_Vi F hml hl.1 hA hP hD hS (As := [.long (6385252 : Int64)]) (c_X12_isWord_85 l dC dI ad cA nF _ (6385252 : Int64) hR) (cs_RX12_206 (d := 1) F.2.2.1 (by decide)) tc_85 rfl rfl rfl rfl (Nat.le_of_ble_eq_true rfl) dX12_behind_29 ⟨Nat.le_refl 0, Nat.le_refl 0⟩ (fun r10 uN10 H locs hq hP hD hS => ?_)
    obtain ⟨hu10, gr10⟩ := hq
    rw [hu10] at hP hD
    refine z_eq F 40 dX12_behind_32 (by decide) rfl (fun c11 => ?_) (fun c11 => ?_)
    · refine a_bp F (22 : Int32) dX12_behind_40 (by decide) ?_
      have g12 : (0 : Int) ≤ (u.1 85 39).toInt ∧ (u.1 85 39).toInt ≤ 45 := hR 85 39
      have g13 : (0 : Int) ≤ (u.1 85 41).toInt ∧ (u.1 85 41).toInt ≤ 45 := hR 85 41
      have g15 : (0 : Int) ≤ (u.1 85 40).toInt ∧ (u.1 85 40).toInt ≤ 20 := hR 85 40
      have g16 : (0 : Int) ≤ (u.1 85 43).toInt ∧ (u.1 85 43).toInt ≤ 1 := hR 85 43
      refine a_Vv F hml hl.1 hA hP hD hS (As := [.int (22 : Int32)]) (c_X12_joins_85 l dC dI ad cA nF _ (22 : Int32) hR (by decide) (by omega : (u.1 85 39).toInt + (u.1 85 41).toInt ≤ 44) hK_SW1) (cs_RX12_438 (d := 2) F.2.2.1 (by decide)) tc_85 rfl rfl rfl rfl (Nat.le_of_ble_eq_true rfl) dX12_behind_42 ⟨Nat.le_refl 0, Nat.le_refl 0⟩ (fun u14 H locs hq hP hD hS => ?_)
      obtain ⟨hR, hF14, xr14, hK_SW1, hK_TB⟩ := hq
      have hF := hF.tr hF14 (by decide)
      have g17 : (0 : Int) ≤ (u14.1 85 39).toInt ∧ (u14.1 85 39).toInt ≤ 45 := hR 85 39
      have g18 : (0 : Int) ≤ (u14.1 85 41).toInt ∧ (u14.1 85 41).toInt ≤ 45 := hR 85 41
      have xr14 : (u14.1 85 39).toInt + (u14.1 85 41).toInt = (u.1 85 39).toInt + (u.1 85 41).toInt ∧ (u14.1 85 41).toInt ≤ (u.1 85 41).toInt := xr14
      refine lv_aload_n F.1 F.2.1 dX12_behind_45 rfl (lv_at hl 0 rfl) ?_
      refine a_getr F inX12 hP 85 38 tc_85 rfl rfl (by decide) q1509 (fun _ h9 => h9) dX12_behind_46 ?_
      refine lv_aload_n F.1 F.2.1 dX12_behind_49 rfl (lv_at hl 0 rfl) ?_
      refine a_geti F inX12 hP 85 41 tc_85 rfl rfl (by decide) q1512 (fun _ h9 => h9) (v := (u14.1 85 41)) (rfl) dX12_behind_50 ?_
      refine lv_aload_n F.1 F.2.1 dX12_behind_53 rfl (lv_at hl 0 rfl) ?_
      refine lv_ldc2 (v := (6385252 : Int64)) F.1 F.2.1 F.2.2.2.1 (F.2.2.1 _ q1459) dX12_behind_54 ?_
      refine a_Vi F hml hl.1 hA hP hD hS (As := [.long (6385252 : Int64)]) (c_X12_isWord_85 l dC dI ad cA nF _ (6385252 : Int64) hR) (cs_RX12_206 (d := 1) F.2.2.1 (by decide)) tc_85 rfl rfl rfl rfl (Nat.le_of_ble_eq_true rfl) dX12_behind_57 ⟨Nat.le_refl 0, Nat.le_refl 0⟩ (fun r19 uN19 H locs hq hP hD hS => ?_)
      obtain ⟨hu19, gr19⟩ := hq
      rw [hu19] at hP hD
      refine z_eq F 68 dX12_behind_60 (by decide) rfl (fun c20 => ?_) (fun c20 => ?_)
      · refine a_bp F (22 : Int32) dX12_behind_68 (by decide) ?_
        refine a_iast F hP hD hS 100 tc_100 rfl (i_in rfl (by omega)) dX12_behind_70 (fun H locs hP hD hS => ?_)
        have hR := hR.si (c := 100) (k := (u14.1 85 41).toNatClampNeg) (v := (22 : Int32)) ⟨i_lo _, i_hi _⟩
        have hF := hF.si (c := 100) (k := (u14.1 85 41).toNatClampNeg) (v := (22 : Int32)) rfl
        have hO_SW1 := hK_SW1
        have hO_TB := hK_TB
        refine lv_aload_n F.1 F.2.1 dX12_behind_71 rfl (lv_at hl 0 rfl) ?_
        refine lv_dup F.1 F.2.1 dX12_behind_72 rfl ?_
        refine a_geti F inX12 hP 85 41 tc_85 rfl rfl (by decide) q1512 (fun _ h9 => h9) (v := (u14.1 85 41)) (rfl) dX12_behind_73 ?_
        refine a_ic F (1 : Int32) dX12_behind_76 (by decide) ?_
        refine a_iadd F dX12_behind_77 rfl ic_1 (by omega) (fun v21 hv21 => ?_)
        refine a_puti F inX12 tyX12 tyX12_ok nmX12 hP hD hS 85 41 tc_85 rfl rfl (by decide) q1512 (fun _ h9 => h9) rfl (ty := .int) (tyX12_ok 41 (by decide)) rfl rfl dX12_behind_78 (fun H locs hP hD hS => ?_)
        have hR := hR.si (c := 85) (k := 41) (v := v21) (by omega : (0 : Int) ≤ v21.toInt ∧ v21.toInt ≤ 45)
        have hF := hF.si (c := 85) (k := 41) (v := v21) rfl
        have hO_SW1 := hK_SW1
        have hN_SW0 := sw_ps1 hK_SW1 (t := (u14.1 85 41)) (rfl) (i := (u14.1 85 41)) (x := (22 : Int32)) (v := v21) (by omega) (by omega) (by omega) (by decide) rfl rfl
        have hK_SW0 := hN_SW0
        refine lv_aload_n F.1 F.2.1 dX12_behind_81 rfl (lv_at hl 0 rfl) ?_
        refine a_ic F (0 : Int32) dX12_behind_82 (by decide) ?_
        refine a_puti F inX12 tyX12 tyX12_ok nmX12 hP hD hS 85 43 tc_85 rfl rfl (by decide) q1514 (fun _ h9 => h9) rfl (ty := .boolean) (tyX12_ok 43 (by decide)) (i_zn (Or.inl rfl)) (i_zf (Or.inl rfl)) dX12_behind_83 (fun H locs hP hD hS => ?_)
        have hR := hR.si (c := 85) (k := 43) (v := (0 : Int32)) (by rw [ic_0]; exact (by omega : (0 : Int) ≤ (0 : Int) ∧ (0 : Int) ≤ 1))
        have hF := hF.si (c := 85) (k := 43) (v := (0 : Int32)) rfl
        have hO_SW1 := hK_SW1
        have hO_SW0 := hK_SW0
        have hN_SWW := sw_putw hO_SW0 (v := (0 : Int32)) (by decide)
        have hK_SWW := hN_SWW
        refine lv_aload_n F.1 F.2.1 dX12_behind_86 rfl (lv_at hl 0 rfl) ?_
        refine a_Vv F hml hl.1 hA hP hD hS (As := []) (c_X12_next_85 l dC dI ad cA nF _  hR) (cs_RX12_184 (d := 2) F.2.2.1 (by decide)) tc_85 rfl rfl rfl rfl (Nat.le_of_ble_eq_true rfl) dX12_behind_87 ⟨Nat.le_refl 0, Nat.le_refl 0⟩ (fun u22 H locs hq hP hD hS => ?_)
        obtain ⟨hR, hF22⟩ := hq
        have hF := hF.tr hF22 (by decide)
        have hK_SWW := sp_fr sp_SWW hF22 (by decide) hK_SWW
        refine a_ic F (1 : Int32) dX12_behind_90 (by decide) ?_
        have k23 : (u22.1 85 40).toInt = (u.1 85 40).toInt := congrArg Int32.toInt (show u22.1 85 40 = (u.1 85 40) from (hF22 85 40 rfl).trans (hF14 85 40 rfl))
        have k24 : (u22.1 85 39).toInt = (u14.1 85 39).toInt := congrArg Int32.toInt (show u22.1 85 39 = (u14.1 85 39) from hF22 85 39 rfl)
        have k25 : (u22.1 85 41).toInt = v21.toInt := congrArg Int32.toInt (show u22.1 85 41 = v21 from hF22 85 41 rfl)
        have k26 : (u22.1 85 43).toInt = (0 : Int32).toInt := congrArg Int32.toInt (show u22.1 85 43 = (0 : Int32) from hF22 85 43 rfl)
        rw [ic_0] at k26
        exact a_retz F hr hlocks hP hD hS dX12_behind_91 (Or.inr rfl) ⟨hR, hF, (by decide), (by first | exact (by omega : (1 : Int) ≠ 0 → (u22.1 85 40).toInt = (u0.1 85 40).toInt ∧ (u22.1 85 39).toInt + (u22.1 85 41).toInt ≤ 2 * (u22.1 85 40).toInt - (u22.1 85 43).toInt ∧ (u22.1 85 41).toInt + 2 * (u22.1 85 43).toInt + 1 ≤ (u0.1 85 41).toInt + 2) | (rw [ic_1]; exact (by omega : (1 : Int) ≠ 0 → (u22.1 85 40).toInt = (u0.1 85 40).toInt ∧ (u22.1 85 39).toInt + (u22.1 85 41).toInt ≤ 2 * (u22.1 85 40).toInt - (u22.1 85 43).toInt ∧ (u22.1 85 41).toInt + 2 * (u22.1 85 43).toInt + 1 ≤ (u0.1 85 41).toInt + 2))), (fun _ => hK_SWW)⟩
      · refine a_bp F (21 : Int32) dX12_behind_63 (by decide) ?_
        refine lv_goto (tgt := 70) F.1 F.2.1 dX12_behind_65 (by decide) ?_
        refine a_iast F hP hD hS 100 tc_100 rfl (i_in rfl (by omega)) dX12_behind_70 (fun H locs hP hD hS => ?_)
        have hR := hR.si (c := 100) (k := (u14.1 85 41).toNatClampNeg) (v := (21 : Int32)) ⟨i_lo _, i_hi _⟩
        have hF := hF.si (c := 100) (k := (u14.1 85 41).toNatClampNeg) (v := (21 : Int32)) rfl
        have hO_SW1 := hK_SW1
        have hO_TB := hK_TB
        refine lv_aload_n F.1 F.2.1 dX12_behind_71 rfl (lv_at hl 0 rfl) ?_
        refine lv_dup F.1 F.2.1 dX12_behind_72 rfl ?_
        refine a_geti F inX12 hP 85 41 tc_85 rfl rfl (by decide) q1512 (fun _ h9 => h9) (v := (u14.1 85 41)) (rfl) dX12_behind_73 ?_
        refine a_ic F (1 : Int32) dX12_behind_76 (by decide) ?_
        refine a_iadd F dX12_behind_77 rfl ic_1 (by omega) (fun v27 hv27 => ?_)
        refine a_puti F inX12 tyX12 tyX12_ok nmX12 hP hD hS 85 41 tc_85 rfl rfl (by decide) q1512 (fun _ h9 => h9) rfl (ty := .int) (tyX12_ok 41 (by decide)) rfl rfl dX12_behind_78 (fun H locs hP hD hS => ?_)
        have hR := hR.si (c := 85) (k := 41) (v := v27) (by omega : (0 : Int) ≤ v27.toInt ∧ v27.toInt ≤ 45)
        have hF := hF.si (c := 85) (k := 41) (v := v27) rfl
        have hO_SW1 := hK_SW1
        have hN_SW0 := sw_ps1 hK_SW1 (t := (u14.1 85 41)) (rfl) (i := (u14.1 85 41)) (x := (21 : Int32)) (v := v27) (by omega) (by omega) (by omega) (by decide) rfl rfl
        have hK_SW0 := hN_SW0
        refine lv_aload_n F.1 F.2.1 dX12_behind_81 rfl (lv_at hl 0 rfl) ?_
        refine a_ic F (0 : Int32) dX12_behind_82 (by decide) ?_
        refine a_puti F inX12 tyX12 tyX12_ok nmX12 hP hD hS 85 43 tc_85 rfl rfl (by decide) q1514 (fun _ h9 => h9) rfl (ty := .boolean) (tyX12_ok 43 (by decide)) (i_zn (Or.inl rfl)) (i_zf (Or.inl rfl)) dX12_behind_83 (fun H locs hP hD hS => ?_)
        have hR := hR.si (c := 85) (k := 43) (v := (0 : Int32)) (by rw [ic_0]; exact (by omega : (0 : Int) ≤ (0 : Int) ∧ (0 : Int) ≤ 1))
        have hF := hF.si (c := 85) (k := 43) (v := (0 : Int32)) rfl
        have hO_SW1 := hK_SW1
        have hO_SW0 := hK_SW0
        have hN_SWW := sw_putw hO_SW0 (v := (0 : Int32)) (by decide)
        have hK_SWW := hN_SWW
        refine lv_aload_n F.1 F.2.1 dX12_behind_86 rfl (lv_at hl 0 rfl) ?_
        refine a_Vv F hml hl.1 hA hP hD hS (As := []) (c_X12_next_85 l dC dI ad cA nF _  hR) (cs_RX12_184 (d := 2) F.2.2.1 (by decide)) tc_85 rfl rfl rfl rfl (Nat.le_of_ble_eq_true rfl) dX12_behind_87 ⟨Nat.le_refl 0, Nat.le_refl 0⟩ (fun u28 H locs hq hP hD hS => ?_)
        obtain ⟨hR, hF28⟩ := hq
        have hF := hF.tr hF28 (by decide)
        have hK_SWW := sp_fr sp_SWW hF28 (by decide) hK_SWW
        refine a_ic F (1 : Int32) dX12_behind_90 (by decide) ?_
        have k29 : (u28.1 85 40).toInt = (u.1 85 40).toInt := congrArg Int32.toInt (show u28.1 85 40 = (u.1 85 40) from (hF28 85 40 rfl).trans (hF14 85 40 rfl))
        have k30 : (u28.1 85 39).toInt = (u14.1 85 39).toInt := congrArg Int32.toInt (show u28.1 85 39 = (u14.1 85 39) from hF28 85 39 rfl)
        have k31 : (u28.1 85 41).toInt = v27.toInt := congrArg Int32.toInt (show u28.1 85 41 = v27 from hF28 85 41 rfl)
        have k32 : (u28.1 85 43).toInt = (0 : Int32).toInt := congrArg Int32.toInt (show u28.1 85 43 = (0 : Int32) from hF28 85 43 rfl)
        rw [ic_0] at k32
        exact a_retz F hr hlocks hP hD hS dX12_behind_91 (Or.inr rfl) ⟨hR, hF, (by decide), (by first | exact (by omega : (1 : Int) ≠ 0 → (u28.1 85 40).toInt = (u0.1 85 40).toInt ∧ (u28.1 85 39).toInt + (u28.1 85 41).toInt ≤ 2 * (u28.1 85 40).toInt - (u28.1 85 43).toInt ∧ (u28.1 85 41).toInt + 2 * (u28.1 85 43).toInt + 1 ≤ (u0.1 85 41).toInt + 2) | (rw [ic_1]; exact (by omega : (1 : Int) ≠ 0 → (u28.1 85 40).toInt = (u0.1 85 40).toInt ∧ (u28.1 85 39).toInt + (u28.1 85 41).toInt ≤ 2 * (u28.1 85 40).toInt - (u28.1 85 43).toInt ∧ (u28.1 85 41).toInt + 2 * (u28.1 85 43).toInt + 1 ≤ (u0.1 85 41).toInt + 2))), (fun _ => hK_SWW)⟩
    · refine a_bp F (21 : Int32) dX12_behind_35 (by decide) ?_
      refine lv_goto (tgt := 42) F.1 F.2.1 dX12_behind_37 (by decide) ?_
      have g33 : (0 : Int) ≤ (u.1 85 39).toInt ∧ (u.1 85 39).toInt ≤ 45 := hR 85 39
      have g34 : (0 : Int) ≤ (u.1 85 41).toInt ∧ (u.1 85 41).toInt ≤ 45 := hR 85 41
      have g36 : (0 : Int) ≤ (u.1 85 40).toInt ∧ (u.1 85 40).toInt ≤ 20 := hR 85 40
      have g37 : (0 : Int) ≤ (u.1 85 43).toInt ∧ (u.1 85 43).toInt ≤ 1 := hR 85 43
      refine a_Vv F hml hl.1 hA hP hD hS (As := [.int (21 : Int32)]) (c_X12_joins_85 l dC dI ad cA nF _ (21 : Int32) hR (by decide) (by omega : (u.1 85 39).toInt + (u.1 85 41).toInt ≤ 44) hK_SW1) (cs_RX12_438 (d := 2) F.2.2.1 (by decide)) tc_85 rfl rfl rfl rfl (Nat.le_of_ble_eq_true rfl) dX12_behind_42 ⟨Nat.le_refl 0, Nat.le_refl 0⟩ (fun u35 H locs hq hP hD hS => ?_)
      obtain ⟨hR, hF35, xr35, hK_SW1, hK_TB⟩ := hq
      have hF := hF.tr hF35 (by decide)
      have g38 : (0 : Int) ≤ (u35.1 85 39).toInt ∧ (u35.1 85 39).toInt ≤ 45 := hR 85 39
      have g39 : (0 : Int) ≤ (u35.1 85 41).toInt ∧ (u35.1 85 41).toInt ≤ 45 := hR 85 41
      have xr35 : (u35.1 85 39).toInt + (u35.1 85 41).toInt = (u.1 85 39).toInt + (u.1 85 41).toInt ∧ (u35.1 85 41).toInt ≤ (u.1 85 41).toInt := xr35
      refine lv_aload_n F.1 F.2.1 dX12_behind_45 rfl (lv_at hl 0 rfl) ?_
      refine a_getr F inX12 hP 85 38 tc_85 rfl rfl (by decide) q1509 (fun _ h9 => h9) dX12_behind_46 ?_
      refine lv_aload_n F.1 F.2.1 dX12_behind_49 rfl (lv_at hl 0 rfl) ?_
      refine a_geti F inX12 hP 85 41 tc_85 rfl rfl (by decide) q1512 (fun _ h9 => h9) (v := (u35.1 85 41)) (rfl) dX12_behind_50 ?_
      refine lv_aload_n F.1 F.2.1 dX12_behind_53 rfl (lv_at hl 0 rfl) ?_
      refine lv_ldc2 (v := (6385252 : Int64)) F.1 F.2.1 F.2.2.2.1 (F.2.2.1 _ q1459) dX12_behind_54 ?_
      refine a_Vi F hml hl.1 hA hP hD hS (As := [.long (6385252 : Int64)]) (c_X12_isWord_85 l dC dI ad cA nF _ (6385252 : Int64) hR) (cs_RX12_206 (d := 1) F.2.2.1 (by decide)) tc_85 rfl rfl rfl rfl (Nat.le_of_ble_eq_true rfl) dX12_behind_57 ⟨Nat.le_refl 0, Nat.le_refl 0⟩ (fun r40 uN40 H locs hq hP hD hS => ?_)
      obtain ⟨hu40, gr40⟩ := hq
      rw [hu40] at hP hD
      refine z_eq F 68 dX12_behind_60 (by decide) rfl (fun c41 => ?_) (fun c41 => ?_)
      · refine a_bp F (22 : Int32) dX12_behind_68 (by decide) ?_
        refine a_iast F hP hD hS 100 tc_100 rfl (i_in rfl (by omega)) dX12_behind_70 (fun H locs hP hD hS => ?_)
        have hR := hR.si (c := 100) (k := (u35.1 85 41).toNatClampNeg) (v := (22 : Int32)) ⟨i_lo _, i_hi _⟩
        have hF := hF.si (c := 100) (k := (u35.1 85 41).toNatClampNeg) (v := (22 : Int32)) rfl
        have hO_SW1 := hK_SW1
        have hO_TB := hK_TB
        refine lv_aload_n F.1 F.2.1 dX12_behind_71 rfl (lv_at hl 0 rfl) ?_
        refine lv_dup F.1 F.2.1 dX12_behind_72 rfl ?_
        refine a_geti F inX12 hP 85 41 tc_85 rfl rfl (by decide) q1512 (fun _ h9 => h9) (v := (u35.1 85 41)) (rfl) dX12_behind_73 ?_
        refine a_ic F (1 : Int32) dX12_behind_76 (by decide) ?_
        refine a_iadd F dX12_behind_77 rfl ic_1 (by omega) (fun v42 hv42 => ?_)
        refine a_puti F inX12 tyX12 tyX12_ok nmX12 hP hD hS 85 41 tc_85 rfl rfl (by decide) q1512 (fun _ h9 => h9) rfl (ty := .int) (tyX12_ok 41 (by decide)) rfl rfl dX12_behind_78 (fun H locs hP hD hS => ?_)
        have hR := hR.si (c := 85) (k := 41) (v := v42) (by omega : (0 : Int) ≤ v42.toInt ∧ v42.toInt ≤ 45)
        have hF := hF.si (c := 85) (k := 41) (v := v42) rfl
        have hO_SW1 := hK_SW1
        have hN_SW0 := sw_ps1 hK_SW1 (t := (u35.1 85 41)) (rfl) (i := (u35.1 85 41)) (x := (22 : Int32)) (v := v42) (by omega) (by omega) (by omega) (by decide) rfl rfl
        have hK_SW0 := hN_SW0
        refine lv_aload_n F.1 F.2.1 dX12_behind_81 rfl (lv_at hl 0 rfl) ?_
        refine a_ic F (0 : Int32) dX12_behind_82 (by decide) ?_
        refine a_puti F inX12 tyX12 tyX12_ok nmX12 hP hD hS 85 43 tc_85 rfl rfl (by decide) q1514 (fun _ h9 => h9) rfl (ty := .boolean) (tyX12_ok 43 (by decide)) (i_zn (Or.inl rfl)) (i_zf (Or.inl rfl)) dX12_behind_83 (fun H locs hP hD hS => ?_)
        have hR := hR.si (c := 85) (k := 43) (v := (0 : Int32)) (by rw [ic_0]; exact (by omega : (0 : Int) ≤ (0 : Int) ∧ (0 : Int) ≤ 1))
        have hF := hF.si (c := 85) (k := 43) (v := (0 : Int32)) rfl
        have hO_SW1 := hK_SW1
        have hO_SW0 := hK_SW0
        have hN_SWW := sw_putw hO_SW0 (v := (0 : Int32)) (by decide)
        have hK_SWW := hN_SWW
        refine lv_aload_n F.1 F.2.1 dX12_behind_86 rfl (lv_at hl 0 rfl) ?_
        refine a_Vv F hml hl.1 hA hP hD hS (As := []) (c_X12_next_85 l dC dI ad cA nF _  hR) (cs_RX12_184 (d := 2) F.2.2.1 (by decide)) tc_85 rfl rfl rfl rfl (Nat.le_of_ble_eq_true rfl) dX12_behind_87 ⟨Nat.le_refl 0, Nat.le_refl 0⟩ (fun u43 H locs hq hP hD hS => ?_)
        obtain ⟨hR, hF43⟩ := hq
        have hF := hF.tr hF43 (by decide)
        have hK_SWW := sp_fr sp_SWW hF43 (by decide) hK_SWW
        refine a_ic F (1 : Int32) dX12_behind_90 (by decide) ?_
        have k44 : (u43.1 85 40).toInt = (u.1 85 40).toInt := congrArg Int32.toInt (show u43.1 85 40 = (u.1 85 40) from (hF43 85 40 rfl).trans (hF35 85 40 rfl))
        have k45 : (u43.1 85 39).toInt = (u35.1 85 39).toInt := congrArg Int32.toInt (show u43.1 85 39 = (u35.1 85 39) from hF43 85 39 rfl)
        have k46 : (u43.1 85 41).toInt = v42.toInt := congrArg Int32.toInt (show u43.1 85 41 = v42 from hF43 85 41 rfl)
        have k47 : (u43.1 85 43).toInt = (0 : Int32).toInt := congrArg Int32.toInt (show u43.1 85 43 = (0 : Int32) from hF43 85 43 rfl)
        rw [ic_0] at k47
        exact a_retz F hr hlocks hP hD hS dX12_behind_91 (Or.inr rfl) ⟨hR, hF, (by decide), (by first | exact (by omega : (1 : Int) ≠ 0 → (u43.1 85 40).toInt = (u0.1 85 40).toInt ∧ (u43.1 85 39).toInt + (u43.1 85 41).toInt ≤ 2 * (u43.1 85 40).toInt - (u43.1 85 43).toInt ∧ (u43.1 85 41).toInt + 2 * (u43.1 85 43).toInt + 1 ≤ (u0.1 85 41).toInt + 2) | (rw [ic_1]; exact (by omega : (1 : Int) ≠ 0 → (u43.1 85 40).toInt = (u0.1 85 40).toInt ∧ (u43.1 85 39).toInt + (u43.1 85 41).toInt ≤ 2 * (u43.1 85 40).toInt - (u43.1 85 43).toInt ∧ (u43.1 85 41).toInt + 2 * (u43.1 85 43).toInt + 1 ≤ (u0.1 85 41).toInt + 2))), (fun _ => hK_SWW)⟩
      · refine a_bp F (21 : Int32) dX12_behind_63 (by decide) ?_
        refine lv_goto (tgt := 70) F.1 F.2.1 dX12_behind_65 (by decide) ?_
        refine a_iast F hP hD hS 100 tc_100 rfl (i_in rfl (by omega)) dX12_behind_70 (fun H locs hP hD hS => ?_)
        have hR := hR.si (c := 100) (k := (u35.1 85 41).toNatClampNeg) (v := (21 : Int32)) ⟨i_lo _, i_hi _⟩
        have hF := hF.si (c := 100) (k := (u35.1 85 41).toNatClampNeg) (v := (21 : Int32)) rfl
        have hO_SW1 := hK_SW1
        have hO_TB := hK_TB
        refine lv_aload_n F.1 F.2.1 dX12_behind_71 rfl (lv_at hl 0 rfl) ?_
        refine lv_dup F.1 F.2.1 dX12_behind_72 rfl ?_
        refine a_geti F inX12 hP 85 41 tc_85 rfl rfl (by decide) q1512 (fun _ h9 => h9) (v := (u35.1 85 41)) (rfl) dX12_behind_73 ?_
        refine a_ic F (1 : Int32) dX12_behind_76 (by decide) ?_
        refine a_iadd F dX12_behind_77 rfl ic_1 (by omega) (fun v48 hv48 => ?_)
        refine a_puti F inX12 tyX12 tyX12_ok nmX12 hP hD hS 85 41 tc_85 rfl rfl (by decide) q1512 (fun _ h9 => h9) rfl (ty := .int) (tyX12_ok 41 (by decide)) rfl rfl dX12_behind_78 (fun H locs hP hD hS => ?_)
        have hR := hR.si (c := 85) (k := 41) (v := v48) (by omega : (0 : Int) ≤ v48.toInt ∧ v48.toInt ≤ 45)
        have hF := hF.si (c := 85) (k := 41) (v := v48) rfl
        have hO_SW1 := hK_SW1
        have hN_SW0 := sw_ps1 hK_SW1 (t := (u35.1 85 41)) (rfl) (i := (u35.1 85 41)) (x := (21 : Int32)) (v := v48) (by omega) (by omega) (by omega) (by decide) rfl rfl
        have hK_SW0 := hN_SW0
        refine lv_aload_n F.1 F.2.1 dX12_behind_81 rfl (lv_at hl 0 rfl) ?_
        refine a_ic F (0 : Int32) dX12_behind_82 (by decide) ?_
        refine a_puti F inX12 tyX12 tyX12_ok nmX12 hP hD hS 85 43 tc_85 rfl rfl (by decide) q1514 (fun _ h9 => h9) rfl (ty := .boolean) (tyX12_ok 43 (by decide)) (i_zn (Or.inl rfl)) (i_zf (Or.inl rfl)) dX12_behind_83 (fun H locs hP hD hS => ?_)
        have hR := hR.si (c := 85) (k := 43) (v := (0 : Int32)) (by rw [ic_0]; exact (by omega : (0 : Int) ≤ (0 : Int) ∧ (0 : Int) ≤ 1))
        have hF := hF.si (c := 85) (k := 43) (v := (0 : Int32)) rfl
        have hO_SW1 := hK_SW1
        have hO_SW0 := hK_SW0
        have hN_SWW := sw_putw hO_SW0 (v := (0 : Int32)) (by decide)
        have hK_SWW := hN_SWW
        refine lv_aload_n F.1 F.2.1 dX12_behind_86 rfl (lv_at hl 0 rfl) ?_
        refine a_Vv F hml hl.1 hA hP hD hS (As := []) (c_X12_next_85 l dC dI ad cA nF _  hR) (cs_RX12_184 (d := 2) F.2.2.1 (by decide)) tc_85 rfl rfl rfl rfl (Nat.le_of_ble_eq_true rfl) dX12_behind_87 ⟨Nat.le_refl 0, Nat.le_refl 0⟩ (fun u49 H locs hq hP hD hS => ?_)
        obtain ⟨hR, hF49⟩ := hq
        have hF := hF.tr hF49 (by decide)
        have hK_SWW := sp_fr sp_SWW hF49 (by decide) hK_SWW
        refine a_ic F (1 : Int32) dX12_behind_90 (by decide) ?_
        have k50 : (u49.1 85 40).toInt = (u.1 85 40).toInt := congrArg Int32.toInt (show u49.1 85 40 = (u.1 85 40) from (hF49 85 40 rfl).trans (hF35 85 40 rfl))
        have k51 : (u49.1 85 39).toInt = (u35.1 85 39).toInt := congrArg Int32.toInt (show u49.1 85 39 = (u35.1 85 39) from hF49 85 39 rfl)
        have k52 : (u49.1 85 41).toInt = v48.toInt := congrArg Int32.toInt (show u49.1 85 41 = v48 from hF49 85 41 rfl)
        have k53 : (u49.1 85 43).toInt = (0 : Int32).toInt := congrArg Int32.toInt (show u49.1 85 43 = (0 : Int32) from hF49 85 43 rfl)
        rw [ic_0] at k53
        exact a_retz F hr hlocks hP hD hS dX12_behind_91 (Or.inr rfl) ⟨hR, hF, (by decide), (by first | exact (by omega : (1 : Int) ≠ 0 → (u49.1 85 40).toInt = (u0.1 85 40).toInt ∧ (u49.1 85 39).toInt + (u49.1 85 41).toInt ≤ 2 * (u49.1 85 40).toInt - (u49.1 85 43).toInt ∧ (u49.1 85 41).toInt + 2 * (u49.1 85 43).toInt + 1 ≤ (u0.1 85 41).toInt + 2) | (rw [ic_1]; exact (by omega : (1 : Int) ≠ 0 → (u49.1 85 40).toInt = (u0.1 85 40).toInt ∧ (u49.1 85 39).toInt + (u49.1 85 41).toInt ≤ 2 * (u49.1 85 40).toInt - (u49.1 85 43).toInt ∧ (u49.1 85 41).toInt + 2 * (u49.1 85 43).toInt + 1 ≤ (u0.1 85 41).toInt + 2))), (fun _ => hK_SWW)⟩
  refine lv_aload_n F.1 F.2.1 dX12_behind_0 rfl (lv_at hl 0 rfl) ?_
  have g54 : (0 : Int) ≤ (u0.1 85 39).toInt ∧ (u0.1 85 39).toInt ≤ 45 := hR 85 39
  have g55 : (0 : Int) ≤ (u0.1 85 41).toInt ∧ (u0.1 85 41).toInt ≤ 45 := hR 85 41
  have g57 : (0 : Int) ≤ (u0.1 85 40).toInt ∧ (u0.1 85 40).toInt ≤ 20 := hR 85 40
  have g58 : (0 : Int) ≤ (u0.1 85 43).toInt ∧ (u0.1 85 43).toInt ≤ 1 := hR 85 43
  refine a_Vv F hml hl.1 hA hP hD hS (As := []) (c_X12_nots_85 l dC dI ad cA nF _  hR (by omega : (u0.1 85 39).toInt + (u0.1 85 41).toInt ≤ 44) hK_SW1) (cs_RX12_435 (d := 2) F.2.2.1 (by decide)) tc_85 rfl rfl rfl rfl (Nat.le_of_ble_eq_true rfl) dX12_behind_1 ⟨Nat.le_refl 0, Nat.le_refl 0⟩ (fun u56 H locs hq hP hD hS => ?_)
  obtain ⟨hR, hF56, xr56, hK_SW1⟩ := hq
  have hF := hF.tr hF56 (by decide)
  have g59 : (0 : Int) ≤ (u56.1 85 39).toInt ∧ (u56.1 85 39).toInt ≤ 45 := hR 85 39
  have g60 : (0 : Int) ≤ (u56.1 85 41).toInt ∧ (u56.1 85 41).toInt ≤ 45 := hR 85 41
  have xr56 : (u56.1 85 39).toInt + (u56.1 85 41).toInt = (u0.1 85 39).toInt + (u0.1 85 41).toInt ∧ (u56.1 85 41).toInt ≤ (u0.1 85 41).toInt := xr56
  refine lv_aload_n F.1 F.2.1 dX12_behind_4 rfl (lv_at hl 0 rfl) ?_
  refine lv_ldc2 (v := (6385252 : Int64)) F.1 F.2.1 F.2.2.2.1 (F.2.2.1 _ q1459) dX12_behind_5 ?_
  refine a_Vi F hml hl.1 hA hP hD hS (As := [.long (6385252 : Int64)]) (c_X12_isWord_85 l dC dI ad cA nF _ (6385252 : Int64) hR) (cs_RX12_206 (d := 1) F.2.2.1 (by decide)) tc_85 rfl rfl rfl rfl (Nat.le_of_ble_eq_true rfl) dX12_behind_8 ⟨Nat.le_refl 0, Nat.le_refl 0⟩ (fun r61 uN61 H locs hq hP hD hS => ?_)
  obtain ⟨hu61, gr61⟩ := hq
  rw [hu61] at hP hD
  refine z_ne F 24 dX12_behind_11 (by decide) rfl (fun c62 => ?_) (fun c62 => ?_)
  · exact L24 _ _ _ _ hR hF hK_SW1 (i_trB (hF56 85 43 rfl) (by omega : (1 : Int) ≤ (u0.1 85 43).toInt ∧ (u0.1 85 43).toInt ≤ 1)) (by omega : (u56.1 85 39).toInt + (u56.1 85 41).toInt = (u0.1 85 39).toInt + (u0.1 85 41).toInt) (by omega : (u56.1 85 41).toInt ≤ (u0.1 85 41).toInt) (by rw [hF56 85 40 rfl]; try exact (by omega : (u0.1 85 40).toInt = (u0.1 85 40).toInt)) hP hD hS (lv_sub hl [0] rfl)
  · refine lv_aload_n F.1 F.2.1 dX12_behind_14 rfl (lv_at hl 0 rfl) ?_
    refine lv_ldc2 (v := (28530 : Int64)) F.1 F.2.1 F.2.2.2.1 (F.2.2.1 _ q1458) dX12_behind_15 ?_
    refine a_Vi F hml hl.1 hA hP hD hS (As := [.long (28530 : Int64)]) (c_X12_isWord_85 l dC dI ad cA nF _ (28530 : Int64) hR) (cs_RX12_206 (d := 1) F.2.2.1 (by decide)) tc_85 rfl rfl rfl rfl (Nat.le_of_ble_eq_true rfl) dX12_behind_18 ⟨Nat.le_refl 0, Nat.le_refl 0⟩ (fun r63 uN63 H locs hq hP hD hS => ?_)
    obtain ⟨hu63, gr63⟩ := hq
    rw [hu63] at hP hD
    refine z_eq F 92 dX12_behind_21 (by decide) rfl (fun c64 => ?_) (fun c64 => ?_)
    · refine lv_aload_n F.1 F.2.1 dX12_behind_92 rfl (lv_at hl 0 rfl) ?_
      refine a_bp F (22 : Int32) dX12_behind_93 (by decide) ?_
      refine a_Vv F hml hl.1 hA hP hD hS (As := [.int (22 : Int32)]) (c_X12_joins_85 l dC dI ad cA nF _ (22 : Int32) hR (by decide) (by omega : (u56.1 85 39).toInt + (u56.1 85 41).toInt ≤ 44) hK_SW1) (cs_RX12_438 (d := 2) F.2.2.1 (by decide)) tc_85 rfl rfl rfl rfl (Nat.le_of_ble_eq_true rfl) dX12_behind_95 ⟨Nat.le_refl 0, Nat.le_refl 0⟩ (fun u65 H locs hq hP hD hS => ?_)
      obtain ⟨hR, hF65, xr65, hK_SW1, hK_TB⟩ := hq
      have hF := hF.tr hF65 (by decide)
      have g66 : (0 : Int) ≤ (u65.1 85 39).toInt ∧ (u65.1 85 39).toInt ≤ 45 := hR 85 39
      have g67 : (0 : Int) ≤ (u65.1 85 41).toInt ∧ (u65.1 85 41).toInt ≤ 45 := hR 85 41
      have xr65 : (u65.1 85 39).toInt + (u65.1 85 41).toInt = (u56.1 85 39).toInt + (u56.1 85 41).toInt ∧ (u65.1 85 41).toInt ≤ (u56.1 85 41).toInt := xr65
      refine lv_aload_n F.1 F.2.1 dX12_behind_98 rfl (lv_at hl 0 rfl) ?_
      refine a_bp F (41 : Int32) dX12_behind_99 (by decide) ?_
      refine a_Vi F hml hl.1 hA hP hD hS (As := [.int (41 : Int32)]) (c_X12_isSign_85 l dC dI ad cA nF _ (41 : Int32) hR (by decide)) (cs_RX12_178 (d := 1) F.2.2.1 (by decide)) tc_85 rfl rfl rfl rfl (Nat.le_of_ble_eq_true rfl) dX12_behind_101 ⟨Nat.le_refl 0, Nat.le_refl 0⟩ (fun r68 uN68 H locs hq hP hD hS => ?_)
      obtain ⟨hu68, gr68⟩ := hq
      rw [hu68] at hP hD
      refine z_eq F 114 dX12_behind_104 (by decide) rfl (fun c69 => ?_) (fun c69 => ?_)
      · exact L114 _ _ _ _ hR hF (i_trB ((hF65 85 43 rfl).trans (hF56 85 43 rfl)) (by omega : (1 : Int) ≤ (u0.1 85 43).toInt ∧ (u0.1 85 43).toInt ≤ 1)) hP hD hS (lv_sub hl [0] rfl)
      · refine lv_aload_n F.1 F.2.1 dX12_behind_107 rfl (lv_at hl 0 rfl) ?_
        refine a_geti F inX12 hP 85 41 tc_85 rfl rfl (by decide) q1512 (fun _ h9 => h9) (v := (u65.1 85 41)) (rfl) dX12_behind_108 ?_
        refine z_ne F 120 dX12_behind_111 (by decide) rfl (fun c70 => ?_) (fun c70 => ?_)
        · refine lv_aload_n F.1 F.2.1 dX12_behind_120 rfl (lv_at hl 0 rfl) ?_
          refine lv_dup F.1 F.2.1 dX12_behind_121 rfl ?_
          refine a_geti F inX12 hP 85 41 tc_85 rfl rfl (by decide) q1512 (fun _ h9 => h9) (v := (u65.1 85 41)) (rfl) dX12_behind_122 ?_
          refine a_ic F (1 : Int32) dX12_behind_125 (by decide) ?_
          refine a_isub F dX12_behind_126 rfl ic_1 (by omega) (fun v71 hv71 => ?_)
          refine a_puti F inX12 tyX12 tyX12_ok nmX12 hP hD hS 85 41 tc_85 rfl rfl (by decide) q1512 (fun _ h9 => h9) rfl (ty := .int) (tyX12_ok 41 (by decide)) rfl rfl dX12_behind_127 (fun H locs hP hD hS => ?_)
          have hR := hR.si (c := 85) (k := 41) (v := v71) (by omega : (0 : Int) ≤ v71.toInt ∧ v71.toInt ≤ 45)
          have hF := hF.si (c := 85) (k := 41) (v := v71) rfl
          have hO_SW1 := hK_SW1
          have hO_TB := hK_TB
          have hK_SW1 := sw_popn hO_SW1 (hO_TB (by decide) (i_trH (rfl) (by omega))) (t := (u65.1 85 41)) (rfl) (v := v71) (by omega) (by omega)
          refine lv_aload_n F.1 F.2.1 dX12_behind_130 rfl (lv_at hl 0 rfl) ?_
          refine lv_dup F.1 F.2.1 dX12_behind_131 rfl ?_
          refine a_geti F inX12 hP 85 42 tc_85 rfl rfl (by decide) q1513 (fun _ h9 => h9) (v := (u65.1 85 42)) rfl dX12_behind_132 ?_
          refine a_ic F (1 : Int32) dX12_behind_135 (by decide) ?_
          refine a_isubU F dX12_behind_136 (fun v72 => ?_)
          refine a_puti F inX12 tyX12 tyX12_ok nmX12 hP hD hS 85 42 tc_85 rfl rfl (by decide) q1513 (fun _ h9 => h9) rfl (ty := .int) (tyX12_ok 42 (by decide)) rfl rfl dX12_behind_137 (fun H locs hP hD hS => ?_)
          have hR := hR.si (c := 85) (k := 42) (v := v72) ⟨i_lo _, i_hi _⟩
          have hF := hF.si (c := 85) (k := 42) (v := v72) rfl
          have hK_SW1 := sp_si (sp_sw _) hK_SW1 (c := 85) (k := 42) (v := v72) (fun j9 h9 q9 => by rw [q9] at h9; exact absurd h9 (by decide))
          refine lv_aload_n F.1 F.2.1 dX12_behind_140 rfl (lv_at hl 0 rfl) ?_
          refine a_Vv F hml hl.1 hA hP hD hS (As := []) (c_X12_next_85 l dC dI ad cA nF _  hR) (cs_RX12_184 (d := 2) F.2.2.1 (by decide)) tc_85 rfl rfl rfl rfl (Nat.le_of_ble_eq_true rfl) dX12_behind_141 ⟨Nat.le_refl 0, Nat.le_refl 0⟩ (fun u73 H locs hq hP hD hS => ?_)
          obtain ⟨hR, hF73⟩ := hq
          have hF := hF.tr hF73 (by decide)
          have hK_SW1 := sp_fr (sp_sw _) hF73 (by decide) hK_SW1
          refine a_ic F (1 : Int32) dX12_behind_144 (by decide) ?_
          have k74 : (u73.1 85 40).toInt = (u0.1 85 40).toInt := congrArg Int32.toInt (show u73.1 85 40 = (u0.1 85 40) from (hF73 85 40 rfl).trans ((hF65 85 40 rfl).trans (hF56 85 40 rfl)))
          have k75 : (u73.1 85 39).toInt = (u65.1 85 39).toInt := congrArg Int32.toInt (show u73.1 85 39 = (u65.1 85 39) from hF73 85 39 rfl)
          have k76 : (u73.1 85 41).toInt = v71.toInt := congrArg Int32.toInt (show u73.1 85 41 = v71 from hF73 85 41 rfl)
          have k77 : (u73.1 85 43).toInt = (u0.1 85 43).toInt := congrArg Int32.toInt (show u73.1 85 43 = (u0.1 85 43) from (hF73 85 43 rfl).trans ((hF65 85 43 rfl).trans (hF56 85 43 rfl)))
          exact a_retz F hr hlocks hP hD hS dX12_behind_145 (Or.inr rfl) ⟨hR, hF, (by decide), (by first | exact (by omega : (1 : Int) ≠ 0 → (u73.1 85 40).toInt = (u0.1 85 40).toInt ∧ (u73.1 85 39).toInt + (u73.1 85 41).toInt ≤ 2 * (u73.1 85 40).toInt - (u73.1 85 43).toInt ∧ (u73.1 85 41).toInt + 2 * (u73.1 85 43).toInt + 1 ≤ (u0.1 85 41).toInt + 2) | (rw [ic_1]; exact (by omega : (1 : Int) ≠ 0 → (u73.1 85 40).toInt = (u0.1 85 40).toInt ∧ (u73.1 85 39).toInt + (u73.1 85 41).toInt ≤ 2 * (u73.1 85 40).toInt - (u73.1 85 43).toInt ∧ (u73.1 85 41).toInt + 2 * (u73.1 85 43).toInt + 1 ≤ (u0.1 85 41).toInt + 2))), (fun _ => sw_toD hD hK_SW1 (t := (u0.1 85 43)) ((hF73 85 43 rfl).trans ((hF65 85 43 rfl).trans (hF56 85 43 rfl))) (by first | decide | omega))⟩
        · exact L114 _ _ _ _ hR hF (i_trB ((hF65 85 43 rfl).trans (hF56 85 43 rfl)) (by omega : (1 : Int) ≤ (u0.1 85 43).toInt ∧ (u0.1 85 43).toInt ≤ 1)) hP hD hS (lv_sub hl [0] rfl)
    · exact L24 _ _ _ _ hR hF hK_SW1 (i_trB (hF56 85 43 rfl) (by omega : (1 : Int) ≤ (u0.1 85 43).toInt ∧ (u0.1 85 43).toInt ≤ 1)) (by omega : (u56.1 85 39).toInt + (u56.1 85 41).toInt = (u0.1 85 39).toInt + (u0.1 85 41).toInt) (by omega : (u56.1 85 41).toInt ≤ (u0.1 85 41).toInt) (by rw [hF56 85 40 rfl]; try exact (by omega : (u0.1 85 40).toInt = (u0.1 85 40).toInt)) hP hD hS (lv_sub hl [0] rfl)
set_option maxHeartbeats 600000 in
set_option maxRecDepth 100000 in
theorem c_X12_bookLine_85__3 (l : Launch) (dC : Nat → ClassId) (dI : Nat → Nat → Nat) (ad : Nat → Nat) (cA : Nat → ClassId) (nF : Nat) (u0 : ac_U)  (hR : ac_R rg u0) (hK_BLI : blI u0) (hK_BG : bgI u0) : ac_Mi l yX12_bookLine (.code yX12_bookLine cX12_bookLine 3 (some .boolean) :: TB) 4 (dC, dI) vwCl (ac_ty cA) ad cA (TT nF) [.ref (ad 85)] u0 (fun (r : Int32) (u : ac_U) => ac_R rg u ∧ ac_Fr [(85, some 4), (85, some 11), (85, some 12), (85, some 13), (85, some 14), (85, some 15), (85, some 16), (85, some 18), (89, none)] u0 u ∧ ((0 : Int) ≤ r.toInt ∧ r.toInt ≤ 1) ∧ (r.toInt ≠ 0 → (u.1 85 35).toInt ≤ 39) ∧ (r.toInt ≠ 0 → blJ u) ∧ (r.toInt ≠ 0 → bgJ u)) := by
  refine ac_Mi.of (cc := cX12_bookLine) (maxL := 3) (ret := (some .boolean)) (by decide) rfl (Nat.le_of_ble_eq_true rfl) ?_
  intro p e s m below meth c A ls F hml hr hlocks hA hP hD hS hl
  have F : ac_X p s m [.ref (ad 85)].toArray c cX12_bookLine RX12 TB (dC, dI) vwCl (ac_ty cA) := ⟨F.1, F.2.1, fun w h => F.2.2.1 w (List.mem_cons_of_mem _ h), F.2.2.2.1, F.2.2.2.2⟩
  have hl : lv_has ls 3 [(0, .ref (ad 85))] := hl
  have hF : ac_Fr [(85, some 4), (85, some 11), (85, some 12), (85, some 13), (85, some 14), (85, some 15), (85, some 16), (85, some 18), (89, none)] u0 u0 := ac_Fr.rf
  have L160 : ∀ (x1 : Int32) (z0 : Int32) (u : ac_U) (H : Heap) (locs : List Loc) (ls : Array Slot), ac_R rg u → ac_Fr [(85, some 4), (85, some 11), (85, some 12), (85, some 13), (85, some 14), (85, some 15), (85, some 16), (85, some 18), (89, none)] u0 u → blI u → blP u → bgI u → (0 : Int) ≤ x1.toInt ∧ x1.toInt ≤ 120 → (-1 : Int) ≤ z0.toInt ∧ z0.toInt ≤ 2 → (0 : Int) ≤ (u.1 85 18).toInt ∧ (u.1 85 18).toInt ≤ 3 → (0 : Int) ≤ (u.1 85 35).toInt ∧ (u.1 85 35).toInt ≤ 39 → x1.toInt = 3 * (u.1 85 35).toInt → va_P (dC, dI) vwCl (ac_w ad cA (TT nF) u) H → va_D A (ac_w ad cA (TT nF) u) → va_S A s.heap H locs → lv_has ls 3 [(0, .ref (ad 85)), (1, .int x1)] → W p l e (ac_rm 4) s m [.ref (ad 85)].toArray below meth c H locs 0 0 (MQ below (va_Qi (fun (r : Int32) (u : ac_U) => ac_R rg u ∧ ac_Fr [(85, some 4), (85, some 11), (85, some 12), (85, some 13), (85, some 14), (85, some 15), (85, some 16), (85, some 18), (89, none)] u0 u ∧ ((0 : Int) ≤ r.toInt ∧ r.toInt ≤ 1) ∧ (r.toInt ≠ 0 → (u.1 85 35).toInt ≤ 39) ∧ (r.toInt ≠ 0 → blJ u) ∧ (r.toInt ≠ 0 → bgJ u)) (ac_B (dC, dI) vwCl (ac_ty cA) ad cA (TT nF) A) A) [.ref (ad 85)].toArray s 0 0 A) (F0 m 160 ls [.int z0]) := by
    intro x1 z0 u H locs ls hR hF hK_BLI hK_BLP hK_BG f0 f1 f2 f3 f4 hP hD hS hl
    refine lv_istore_n (lv' := [(2, .int z0), (0, .ref (ad 85)), (1, .int x1)]) F.1 F.2.1 dX12_bookLine_160 rfl hl (by decide) rfl (fun ls hl => ?_)
    refine lv_iload_n F.1 F.2.1 dX12_bookLine_161 rfl (lv_at hl 0 rfl) ?_
    refine z_ge F 171 dX12_bookLine_162 (by decide) rfl (fun c1 => ?_) (fun c1 => ?_)
    · refine lv_aload_n F.1 F.2.1 dX12_bookLine_171 rfl (lv_at hl 1 rfl) ?_
      refine a_getr F inX12 hP 85 8 tc_85 rfl rfl (by decide) q1479 (fun _ h9 => h9) dX12_bookLine_172 ?_
      refine lv_iload_n F.1 F.2.1 dX12_bookLine_175 rfl (lv_at hl 2 rfl) ?_
      refine lv_iload_n F.1 F.2.1 dX12_bookLine_176 rfl (lv_at hl 0 rfl) ?_
      refine a_iast F hP hD hS 89 tc_89 rfl (i_in rfl (by omega)) dX12_bookLine_177 (fun H locs hP hD hS => ?_)
      have hR := hR.si (c := 89) (k := x1.toNatClampNeg) (v := z0) ⟨i_lo _, i_hi _⟩
      have hF := hF.si (c := 89) (k := x1.toNatClampNeg) (v := z0) rfl
      have hO_BLI := hK_BLI
      have hO_BLP := hK_BLP
      have hO_BG := hK_BG
      have hN_BLQ := bx_q hD (t := (u.1 85 35)) rfl (by omega) (by omega) (by omega)
      have hN_BV := bg_v hD (t := (u.1 85 35)) rfl (by omega) (by omega)
      have hK_BLI := bx_w hO_BLI (t := (u.1 85 35)) rfl (i := x1) (v := z0) (by omega) (by omega)
      have hK_BLP := bx_pw hO_BLP (t := (u.1 85 35)) rfl (i := x1) (v := z0) (by omega) (by omega)
      have hK_BG := bg_w hO_BG (t := (u.1 85 35)) rfl (i := x1) (v := z0) (by omega) (by omega)
      have hK_BLQ := hN_BLQ
      have hK_BV := hN_BV
      refine lv_aload_n F.1 F.2.1 dX12_bookLine_178 rfl (lv_at hl 1 rfl) ?_
      refine a_Vv F hml hl.1 hA hP hD hS (As := []) (c_X12_next_85 l dC dI ad cA nF _  hR) (cs_RX12_184 (d := 2) F.2.2.1 (by decide)) tc_85 rfl rfl rfl rfl (Nat.le_of_ble_eq_true rfl) dX12_bookLine_179 ⟨Nat.le_refl 0, Nat.le_refl 0⟩ (fun u2 H locs hq hP hD hS => ?_)
      obtain ⟨hR, hF2⟩ := hq
      have hF := hF.tr hF2 (by decide)
      have hK_BLI := sp_fr sp_BLI hF2 (by decide) hK_BLI
      have hK_BLP := sp_fr sp_BLP hF2 (by decide) hK_BLP
      have hK_BG := sp_fr sp_BG hF2 (by decide) hK_BG
      have hK_BLQ := sp_fr sp_BLQ hF2 (by decide) hK_BLQ
      have hK_BV := sp_fr (sp_bv _) hF2 (by decide) hK_BV
      refine lv_aload_n F.1 F.2.1 dX12_bookLine_182 rfl (lv_at hl 1 rfl) ?_
      refine lv_iload_n F.1 F.2.1 dX12_bookLine_183 rfl (lv_at hl 0 rfl) ?_
      refine z_ne F 191 dX12_bookLine_184 (by decide) rfl (fun c3 => ?_) (fun c3 => ?_)
      · refine lv_iload_n F.1 F.2.1 dX12_bookLine_191 rfl (lv_at hl 0 rfl) ?_
        refine a_ic F (1 : Int32) dX12_bookLine_192 (by decide) ?_
        refine b_ne F 201 dX12_bookLine_193 (by decide) rfl ic_1 (fun c4 => ?_) (fun c4 => ?_)
        · refine a_bp F (18 : Int32) dX12_bookLine_201 (by decide) ?_
          refine lv_aload_n F.1 F.2.1 dX12_bookLine_203 rfl (lv_at hl 1 rfl) ?_
          refine a_getr F inX12 hP 85 6 tc_85 rfl rfl (by decide) q1477 (fun _ h9 => h9) dX12_bookLine_204 ?_
          refine lv_iload_n F.1 F.2.1 dX12_bookLine_207 rfl (lv_at hl 0 rfl) ?_
          refine z_ne F 215 dX12_bookLine_208 (by decide) rfl (fun c5 => ?_) (fun c5 => ?_)
          · refine lv_iload_n F.1 F.2.1 dX12_bookLine_215 rfl (lv_at hl 0 rfl) ?_
            refine a_ic F (1 : Int32) dX12_bookLine_216 (by decide) ?_
            refine b_ne F 224 dX12_bookLine_217 (by decide) rfl ic_1 (fun c6 => ?_) (fun c6 => ?_)
            · refine a_bp F (6 : Int32) dX12_bookLine_224 (by decide) ?_
              have g7 : (0 : Int) ≤ (u2.1 87 6).toInt ∧ (u2.1 87 6).toInt ≤ 8 := hR 87 6
              refine a_ialdK F hP 87 6 tc_87 rfl rfl (i_in ic_6 (by omega)) (v := (u2.1 87 6)) rfl dX12_bookLine_226 ?_
              refine a_Vi F hml hl.1 hA hP hD hS (As := [.int (18 : Int32), .int (u2.1 87 6)]) (c_X12_takesName_85 l dC dI ad cA nF _ (18 : Int32) (u2.1 87 6) hR (by decide) (by omega) (by simp only [ic_18]; omega)) (cs_RX12_220 (d := 3) F.2.2.1 (by decide)) tc_85 rfl rfl rfl rfl (Nat.le_of_ble_eq_true rfl) dX12_bookLine_227 ⟨Nat.le_refl 0, Nat.le_refl 0⟩ (fun r8 u8 H locs hq hP hD hS => ?_)
              obtain ⟨hR, hF8, gr8, xr8⟩ := hq
              have hF := hF.tr hF8 (by decide)
              have hK_BLI := sp_fr sp_BLI hF8 (by decide) hK_BLI
              have hK_BLP := sp_fr sp_BLP hF8 (by decide) hK_BLP
              have hK_BG := sp_fr sp_BG hF8 (by decide) hK_BG
              have hK_BLQ := sp_fr sp_BLQ hF8 (by decide) hK_BLQ
              have hK_BV := sp_fr (sp_bv _) hF8 (by decide) hK_BV
              have xr8 : r8.toInt ≠ 0 → 0 ≤ (u8.1 85 18).toInt ∧ (u8.1 85 18).toInt < (u2.1 87 6).toInt := xr8
              refine z_ne F 235 dX12_bookLine_230 (by decide) rfl (fun c9 => ?_) (fun c9 => ?_)
              · refine lv_aload_n F.1 F.2.1 dX12_bookLine_235 rfl (lv_at hl 1 rfl) ?_
                refine a_getr F inX12 hP 85 8 tc_85 rfl rfl (by decide) q1479 (fun _ h9 => h9) dX12_bookLine_236 ?_
                refine lv_iload_n F.1 F.2.1 dX12_bookLine_239 rfl (lv_at hl 2 rfl) ?_
                refine a_ic F (2 : Int32) dX12_bookLine_240 (by decide) ?_
                refine a_iadd F dX12_bookLine_241 rfl ic_2 (by omega) (fun v10 hv10 => ?_)
                refine lv_aload_n F.1 F.2.1 dX12_bookLine_242 rfl (lv_at hl 1 rfl) ?_
                refine a_geti F inX12 hP 85 18 tc_85 rfl rfl (by decide) q1489 (fun _ h9 => h9) (v := (u8.1 85 18)) (rfl) dX12_bookLine_243 ?_
                refine a_iast F hP hD hS 89 tc_89 rfl (i_in rfl (by omega)) dX12_bookLine_246 (fun H locs hP hD hS => ?_)
                have hR := hR.si (c := 89) (k := v10.toNatClampNeg) (v := (u8.1 85 18)) ⟨i_lo _, i_hi _⟩
                have hF := hF.si (c := 89) (k := v10.toNatClampNeg) (v := (u8.1 85 18)) rfl
                have hO_BLI := hK_BLI
                have hO_BLP := hK_BLP
                have hO_BG := hK_BG
                have hO_BLQ := hK_BLQ
                have hO_BV := hK_BV
                have hN_BLJ := bx_j2 hO_BLI hO_BLP hO_BLQ (t := (u.1 85 35)) ((hF8 85 35 rfl).trans (hF2 85 35 rfl)) (i := v10) (v := (u8.1 85 18)) (by omega) (by omega) (by omega)
                have hN_BH := bg_j2 hO_BG hO_BV (t := (u.1 85 35)) ((hF8 85 35 rfl).trans (hF2 85 35 rfl)) (i := v10) (v := (u8.1 85 18)) (by omega) (by omega) (n := (u8.1 87 1)) (rfl) (by omega)
                have hK_BLI := bx_w hO_BLI (t := (u.1 85 35)) ((hF8 85 35 rfl).trans (hF2 85 35 rfl)) (i := v10) (v := (u8.1 85 18)) (by omega) (by omega)
                have hK_BG := bg_w hO_BG (t := (u.1 85 35)) ((hF8 85 35 rfl).trans (hF2 85 35 rfl)) (i := v10) (v := (u8.1 85 18)) (by omega) (by omega)
                have hK_BLJ := hN_BLJ
                have hK_BH := hN_BH
                refine a_ic F (1 : Int32) dX12_bookLine_247 (by decide) ?_
                have k11 : (u8.1 85 35).toInt = (u.1 85 35).toInt := congrArg Int32.toInt (show u8.1 85 35 = (u.1 85 35) from (hF8 85 35 rfl).trans (hF2 85 35 rfl))
                exact a_retz F hr hlocks hP hD hS dX12_bookLine_248 (Or.inr rfl) ⟨hR, hF, (by decide), (by first | exact (by omega : (1 : Int) ≠ 0 → (u8.1 85 35).toInt ≤ 39) | (rw [ic_1]; exact (by omega : (1 : Int) ≠ 0 → (u8.1 85 35).toInt ≤ 39))), (fun _ => hK_BLJ), (fun _ => hK_BH)⟩
              · refine a_ic F (0 : Int32) dX12_bookLine_233 (by decide) ?_
                have k12 : (u8.1 85 35).toInt = (u.1 85 35).toInt := congrArg Int32.toInt (show u8.1 85 35 = (u.1 85 35) from (hF8 85 35 rfl).trans (hF2 85 35 rfl))
                exact a_retz F hr hlocks hP hD hS dX12_bookLine_234 (Or.inl rfl) ⟨hR, hF, (by decide), (by first | exact (by omega : (0 : Int) ≠ 0 → (u8.1 85 35).toInt ≤ 39) | (rw [ic_0]; exact (by omega : (0 : Int) ≠ 0 → (u8.1 85 35).toInt ≤ 39))), (fun h9 => absurd (by decide) h9), (fun h9 => absurd (by decide) h9)⟩
            · exfalso; omega
          · exfalso; omega
        · refine a_bp F (12 : Int32) dX12_bookLine_196 (by decide) ?_
          refine lv_goto (tgt := 203) F.1 F.2.1 dX12_bookLine_198 (by decide) ?_
          refine lv_aload_n F.1 F.2.1 dX12_bookLine_203 rfl (lv_at hl 1 rfl) ?_
          refine a_getr F inX12 hP 85 6 tc_85 rfl rfl (by decide) q1477 (fun _ h9 => h9) dX12_bookLine_204 ?_
          refine lv_iload_n F.1 F.2.1 dX12_bookLine_207 rfl (lv_at hl 0 rfl) ?_
          refine z_ne F 215 dX12_bookLine_208 (by decide) rfl (fun c13 => ?_) (fun c13 => ?_)
          · refine lv_iload_n F.1 F.2.1 dX12_bookLine_215 rfl (lv_at hl 0 rfl) ?_
            refine a_ic F (1 : Int32) dX12_bookLine_216 (by decide) ?_
            refine b_ne F 224 dX12_bookLine_217 (by decide) rfl ic_1 (fun c14 => ?_) (fun c14 => ?_)
            · exfalso; omega
            · refine a_ic F (5 : Int32) dX12_bookLine_220 (by decide) ?_
              refine lv_goto (tgt := 226) F.1 F.2.1 dX12_bookLine_221 (by decide) ?_
              have g15 : (0 : Int) ≤ (u2.1 87 5).toInt ∧ (u2.1 87 5).toInt ≤ 6 := hR 87 5
              refine a_ialdK F hP 87 5 tc_87 rfl rfl (i_in ic_5 (by omega)) (v := (u2.1 87 5)) rfl dX12_bookLine_226 ?_
              refine a_Vi F hml hl.1 hA hP hD hS (As := [.int (12 : Int32), .int (u2.1 87 5)]) (c_X12_takesName_85 l dC dI ad cA nF _ (12 : Int32) (u2.1 87 5) hR (by decide) (by omega) (by simp only [ic_12]; omega)) (cs_RX12_220 (d := 3) F.2.2.1 (by decide)) tc_85 rfl rfl rfl rfl (Nat.le_of_ble_eq_true rfl) dX12_bookLine_227 ⟨Nat.le_refl 0, Nat.le_refl 0⟩ (fun r16 u16 H locs hq hP hD hS => ?_)
              obtain ⟨hR, hF16, gr16, xr16⟩ := hq
              have hF := hF.tr hF16 (by decide)
              have hK_BLI := sp_fr sp_BLI hF16 (by decide) hK_BLI
              have hK_BLP := sp_fr sp_BLP hF16 (by decide) hK_BLP
              have hK_BG := sp_fr sp_BG hF16 (by decide) hK_BG
              have hK_BLQ := sp_fr sp_BLQ hF16 (by decide) hK_BLQ
              have hK_BV := sp_fr (sp_bv _) hF16 (by decide) hK_BV
              have xr16 : r16.toInt ≠ 0 → 0 ≤ (u16.1 85 18).toInt ∧ (u16.1 85 18).toInt < (u2.1 87 5).toInt := xr16
              refine z_ne F 235 dX12_bookLine_230 (by decide) rfl (fun c17 => ?_) (fun c17 => ?_)
              · refine lv_aload_n F.1 F.2.1 dX12_bookLine_235 rfl (lv_at hl 1 rfl) ?_
                refine a_getr F inX12 hP 85 8 tc_85 rfl rfl (by decide) q1479 (fun _ h9 => h9) dX12_bookLine_236 ?_
                refine lv_iload_n F.1 F.2.1 dX12_bookLine_239 rfl (lv_at hl 2 rfl) ?_
                refine a_ic F (2 : Int32) dX12_bookLine_240 (by decide) ?_
                refine a_iadd F dX12_bookLine_241 rfl ic_2 (by omega) (fun v18 hv18 => ?_)
                refine lv_aload_n F.1 F.2.1 dX12_bookLine_242 rfl (lv_at hl 1 rfl) ?_
                refine a_geti F inX12 hP 85 18 tc_85 rfl rfl (by decide) q1489 (fun _ h9 => h9) (v := (u16.1 85 18)) (rfl) dX12_bookLine_243 ?_
                refine a_iast F hP hD hS 89 tc_89 rfl (i_in rfl (by omega)) dX12_bookLine_246 (fun H locs hP hD hS => ?_)
                have hR := hR.si (c := 89) (k := v18.toNatClampNeg) (v := (u16.1 85 18)) ⟨i_lo _, i_hi _⟩
                have hF := hF.si (c := 89) (k := v18.toNatClampNeg) (v := (u16.1 85 18)) rfl
                have hO_BLI := hK_BLI
                have hO_BLP := hK_BLP
                have hO_BG := hK_BG
                have hO_BLQ := hK_BLQ
                have hO_BV := hK_BV
                have hN_BLJ := bx_j2 hO_BLI hO_BLP hO_BLQ (t := (u.1 85 35)) ((hF16 85 35 rfl).trans (hF2 85 35 rfl)) (i := v18) (v := (u16.1 85 18)) (by omega) (by omega) (by omega)
                have hN_BH := bg_j2 hO_BG hO_BV (t := (u.1 85 35)) ((hF16 85 35 rfl).trans (hF2 85 35 rfl)) (i := v18) (v := (u16.1 85 18)) (by omega) (by omega) (n := (u16.1 87 1)) (rfl) (by omega)
                have hK_BLI := bx_w hO_BLI (t := (u.1 85 35)) ((hF16 85 35 rfl).trans (hF2 85 35 rfl)) (i := v18) (v := (u16.1 85 18)) (by omega) (by omega)
                have hK_BG := bg_w hO_BG (t := (u.1 85 35)) ((hF16 85 35 rfl).trans (hF2 85 35 rfl)) (i := v18) (v := (u16.1 85 18)) (by omega) (by omega)
                have hK_BLJ := hN_BLJ
                have hK_BH := hN_BH
                refine a_ic F (1 : Int32) dX12_bookLine_247 (by decide) ?_
                have k19 : (u16.1 85 35).toInt = (u.1 85 35).toInt := congrArg Int32.toInt (show u16.1 85 35 = (u.1 85 35) from (hF16 85 35 rfl).trans (hF2 85 35 rfl))
                exact a_retz F hr hlocks hP hD hS dX12_bookLine_248 (Or.inr rfl) ⟨hR, hF, (by decide), (by first | exact (by omega : (1 : Int) ≠ 0 → (u16.1 85 35).toInt ≤ 39) | (rw [ic_1]; exact (by omega : (1 : Int) ≠ 0 → (u16.1 85 35).toInt ≤ 39))), (fun _ => hK_BLJ), (fun _ => hK_BH)⟩
              · refine a_ic F (0 : Int32) dX12_bookLine_233 (by decide) ?_
                have k20 : (u16.1 85 35).toInt = (u.1 85 35).toInt := congrArg Int32.toInt (show u16.1 85 35 = (u.1 85 35) from (hF16 85 35 rfl).trans (hF2 85 35 rfl))
                exact a_retz F hr hlocks hP hD hS dX12_bookLine_234 (Or.inl rfl) ⟨hR, hF, (by decide), (by first | exact (by omega : (0 : Int) ≠ 0 → (u16.1 85 35).toInt ≤ 39) | (rw [ic_0]; exact (by omega : (0 : Int) ≠ 0 → (u16.1 85 35).toInt ≤ 39))), (fun h9 => absurd (by decide) h9), (fun h9 => absurd (by decide) h9)⟩
          · exfalso; omega
      · refine a_ic F (0 : Int32) dX12_bookLine_187 (by decide) ?_
        refine lv_goto (tgt := 203) F.1 F.2.1 dX12_bookLine_188 (by decide) ?_
        refine lv_aload_n F.1 F.2.1 dX12_bookLine_203 rfl (lv_at hl 1 rfl) ?_
        refine a_getr F inX12 hP 85 6 tc_85 rfl rfl (by decide) q1477 (fun _ h9 => h9) dX12_bookLine_204 ?_
        refine lv_iload_n F.1 F.2.1 dX12_bookLine_207 rfl (lv_at hl 0 rfl) ?_
        refine z_ne F 215 dX12_bookLine_208 (by decide) rfl (fun c21 => ?_) (fun c21 => ?_)
        · exfalso; omega
        · refine a_ic F (1 : Int32) dX12_bookLine_211 (by decide) ?_
          refine lv_goto (tgt := 226) F.1 F.2.1 dX12_bookLine_212 (by decide) ?_
          have g22 : (0 : Int) ≤ (u2.1 87 1).toInt ∧ (u2.1 87 1).toInt ≤ 8 := hR 87 1
          refine a_ialdK F hP 87 1 tc_87 rfl rfl (i_in ic_1 (by omega)) (v := (u2.1 87 1)) rfl dX12_bookLine_226 ?_
          refine a_Vi F hml hl.1 hA hP hD hS (As := [.int (0 : Int32), .int (u2.1 87 1)]) (c_X12_takesName_85 l dC dI ad cA nF _ (0 : Int32) (u2.1 87 1) hR (by decide) (by omega) (by simp only [ic_0]; omega)) (cs_RX12_220 (d := 3) F.2.2.1 (by decide)) tc_85 rfl rfl rfl rfl (Nat.le_of_ble_eq_true rfl) dX12_bookLine_227 ⟨Nat.le_refl 0, Nat.le_refl 0⟩ (fun r23 u23 H locs hq hP hD hS => ?_)
          obtain ⟨hR, hF23, gr23, xr23⟩ := hq
          have hF := hF.tr hF23 (by decide)
          have hK_BLI := sp_fr sp_BLI hF23 (by decide) hK_BLI
          have hK_BLP := sp_fr sp_BLP hF23 (by decide) hK_BLP
          have hK_BG := sp_fr sp_BG hF23 (by decide) hK_BG
          have hK_BLQ := sp_fr sp_BLQ hF23 (by decide) hK_BLQ
          have hK_BV := sp_fr (sp_bv _) hF23 (by decide) hK_BV
          have xr23 : r23.toInt ≠ 0 → 0 ≤ (u23.1 85 18).toInt ∧ (u23.1 85 18).toInt < (u2.1 87 1).toInt := xr23
          refine z_ne F 235 dX12_bookLine_230 (by decide) rfl (fun c24 => ?_) (fun c24 => ?_)
          · refine lv_aload_n F.1 F.2.1 dX12_bookLine_235 rfl (lv_at hl 1 rfl) ?_
            refine a_getr F inX12 hP 85 8 tc_85 rfl rfl (by decide) q1479 (fun _ h9 => h9) dX12_bookLine_236 ?_
            refine lv_iload_n F.1 F.2.1 dX12_bookLine_239 rfl (lv_at hl 2 rfl) ?_
            refine a_ic F (2 : Int32) dX12_bookLine_240 (by decide) ?_
            refine a_iadd F dX12_bookLine_241 rfl ic_2 (by omega) (fun v25 hv25 => ?_)
            refine lv_aload_n F.1 F.2.1 dX12_bookLine_242 rfl (lv_at hl 1 rfl) ?_
            refine a_geti F inX12 hP 85 18 tc_85 rfl rfl (by decide) q1489 (fun _ h9 => h9) (v := (u23.1 85 18)) (rfl) dX12_bookLine_243 ?_
            refine a_iast F hP hD hS 89 tc_89 rfl (i_in rfl (by omega)) dX12_bookLine_246 (fun H locs hP hD hS => ?_)
            have hR := hR.si (c := 89) (k := v25.toNatClampNeg) (v := (u23.1 85 18)) ⟨i_lo _, i_hi _⟩
            have hF := hF.si (c := 89) (k := v25.toNatClampNeg) (v := (u23.1 85 18)) rfl
            have hO_BLI := hK_BLI
            have hO_BLP := hK_BLP
            have hO_BG := hK_BG
            have hO_BLQ := hK_BLQ
            have hO_BV := hK_BV
            have hN_BLJ := bx_j2 hO_BLI hO_BLP hO_BLQ (t := (u.1 85 35)) ((hF23 85 35 rfl).trans (hF2 85 35 rfl)) (i := v25) (v := (u23.1 85 18)) (by omega) (by omega) (by omega)
            have hN_BH := bg_j2 hO_BG hO_BV (t := (u.1 85 35)) ((hF23 85 35 rfl).trans (hF2 85 35 rfl)) (i := v25) (v := (u23.1 85 18)) (by omega) (by omega) (n := (u2.1 87 1)) (hF23 87 1 rfl) (by omega)
            have hK_BLI := bx_w hO_BLI (t := (u.1 85 35)) ((hF23 85 35 rfl).trans (hF2 85 35 rfl)) (i := v25) (v := (u23.1 85 18)) (by omega) (by omega)
            have hK_BG := bg_w hO_BG (t := (u.1 85 35)) ((hF23 85 35 rfl).trans (hF2 85 35 rfl)) (i := v25) (v := (u23.1 85 18)) (by omega) (by omega)
            have hK_BLJ := hN_BLJ
            have hK_BH := hN_BH
            refine a_ic F (1 : Int32) dX12_bookLine_247 (by decide) ?_
            have k26 : (u23.1 85 35).toInt = (u.1 85 35).toInt := congrArg Int32.toInt (show u23.1 85 35 = (u.1 85 35) from (hF23 85 35 rfl).trans (hF2 85 35 rfl))
            exact a_retz F hr hlocks hP hD hS dX12_bookLine_248 (Or.inr rfl) ⟨hR, hF, (by decide), (by first | exact (by omega : (1 : Int) ≠ 0 → (u23.1 85 35).toInt ≤ 39) | (rw [ic_1]; exact (by omega : (1 : Int) ≠ 0 → (u23.1 85 35).toInt ≤ 39))), (fun _ => hK_BLJ), (fun _ => hK_BH)⟩
          · refine a_ic F (0 : Int32) dX12_bookLine_233 (by decide) ?_
            have k27 : (u23.1 85 35).toInt = (u.1 85 35).toInt := congrArg Int32.toInt (show u23.1 85 35 = (u.1 85 35) from (hF23 85 35 rfl).trans (hF2 85 35 rfl))
            exact a_retz F hr hlocks hP hD hS dX12_bookLine_234 (Or.inl rfl) ⟨hR, hF, (by decide), (by first | exact (by omega : (0 : Int) ≠ 0 → (u23.1 85 35).toInt ≤ 39) | (rw [ic_0]; exact (by omega : (0 : Int) ≠ 0 → (u23.1 85 35).toInt ≤ 39))), (fun h9 => absurd (by decide) h9), (fun h9 => absurd (by decide) h9)⟩
    · refine lv_aload_n F.1 F.2.1 dX12_bookLine_165 rfl (lv_at hl 1 rfl) ?_
      refine a_ic F (1 : Int32) dX12_bookLine_166 (by decide) ?_
      refine a_Vi F hml hl.1 hA hP hD hS (As := [.int (1 : Int32)]) (c_X12_bad_85 l dC dI ad cA nF _ (1 : Int32) hR (by decide)) (cs_RX12_181 (d := 1) F.2.2.1 (by decide)) tc_85 rfl rfl rfl rfl (Nat.le_of_ble_eq_true rfl) dX12_bookLine_167 ⟨Nat.le_refl 0, Nat.le_refl 0⟩ (fun r28 u28 H locs hq hP hD hS => ?_)
      obtain ⟨hR, hF28, gr28⟩ := hq
      have hF := hF.tr hF28 (by decide)
      have hK_BLI := sp_fr sp_BLI hF28 (by decide) hK_BLI
      have hK_BLP := sp_fr sp_BLP hF28 (by decide) hK_BLP
      have hK_BG := sp_fr sp_BG hF28 (by decide) hK_BG
      have k29 : (u28.1 85 35).toInt = (u.1 85 35).toInt := congrArg Int32.toInt (show u28.1 85 35 = (u.1 85 35) from hF28 85 35 rfl)
      exact a_retz F hr hlocks hP hD hS dX12_bookLine_170 (i_01 (by omega)) ⟨hR, hF, (by omega : (0 : Int) ≤ r28.toInt ∧ r28.toInt ≤ 1), (by omega : r28.toInt ≠ 0 → (u28.1 85 35).toInt ≤ 39), (fun h9 => absurd (by omega : r28.toInt = 0) h9), (fun h9 => absurd (by omega : r28.toInt = 0) h9)⟩
  refine a_ic F (3 : Int32) dX12_bookLine_0 (by decide) ?_
  refine lv_aload_n F.1 F.2.1 dX12_bookLine_1 rfl (lv_at hl 0 rfl) ?_
  have g30 : (0 : Int) ≤ (u0.1 85 35).toInt ∧ (u0.1 85 35).toInt ≤ 40 := hR 85 35
  refine a_geti F inX12 hP 85 35 tc_85 rfl rfl (by decide) q1506 (fun _ h9 => h9) (v := (u0.1 85 35)) rfl dX12_bookLine_2 ?_
  refine a_imul F dX12_bookLine_5 ic_3 rfl (by omega) (fun v31 hv31 => ?_)
  refine lv_istore_n (lv' := [(1, .int v31), (0, .ref (ad 85))]) F.1 F.2.1 dX12_bookLine_6 rfl hl (by decide) rfl (fun ls hl => ?_)
  refine lv_aload_n F.1 F.2.1 dX12_bookLine_7 rfl (lv_at hl 1 rfl) ?_
  refine lv_ldc2 (v := (1752135026 : Int64)) F.1 F.2.1 F.2.2.2.1 (F.2.2.1 _ q1457) dX12_bookLine_8 ?_
  refine a_Vi F hml hl.1 hA hP hD hS (As := [.long (1752135026 : Int64)]) (c_X12_isWord_85 l dC dI ad cA nF _ (1752135026 : Int64) hR) (cs_RX12_206 (d := 1) F.2.2.1 (by decide)) tc_85 rfl rfl rfl rfl (Nat.le_of_ble_eq_true rfl) dX12_bookLine_11 ⟨Nat.le_refl 0, Nat.le_refl 0⟩ (fun r32 uN32 H locs hq hP hD hS => ?_)
  obtain ⟨hu32, gr32⟩ := hq
  rw [hu32] at hP hD
  refine z_eq F 69 dX12_bookLine_14 (by decide) rfl (fun c33 => ?_) (fun c33 => ?_)
  · refine lv_aload_n F.1 F.2.1 dX12_bookLine_69 rfl (lv_at hl 1 rfl) ?_
    refine a_bp F (8 : Int32) dX12_bookLine_70 (by decide) ?_
    refine lv_aload_n F.1 F.2.1 dX12_bookLine_72 rfl (lv_at hl 1 rfl) ?_
    refine a_getr F inX12 hP 85 6 tc_85 rfl rfl (by decide) q1477 (fun _ h9 => h9) dX12_bookLine_73 ?_
    refine a_ic F (4 : Int32) dX12_bookLine_76 (by decide) ?_
    have g34 : (0 : Int) ≤ (u0.1 87 4).toInt ∧ (u0.1 87 4).toInt ≤ 4 := hR 87 4
    refine a_ialdK F hP 87 4 tc_87 rfl rfl (i_in ic_4 (by omega)) (v := (u0.1 87 4)) rfl dX12_bookLine_77 ?_
    refine a_Vi F hml hl.1 hA hP hD hS (As := [.int (8 : Int32), .int (u0.1 87 4)]) (c_X12_looksAt_85 l dC dI ad cA nF _ (8 : Int32) (u0.1 87 4) hR (by decide) (by omega) (by simp only [ic_8]; omega)) (cs_RX12_202 (d := 2) F.2.2.1 (by decide)) tc_85 rfl rfl rfl rfl (Nat.le_of_ble_eq_true rfl) dX12_bookLine_78 ⟨Nat.le_refl 0, Nat.le_refl 0⟩ (fun r35 u35 H locs hq hP hD hS => ?_)
    obtain ⟨hR, hF35, gr35, xr35⟩ := hq
    have hF := hF.tr hF35 (by decide)
    have hK_BLI := sp_fr sp_BLI hF35 (by decide) hK_BLI
    have hK_BG := sp_fr sp_BG hF35 (by decide) hK_BG
    have xr35 : r35.toInt ≠ 0 → 0 ≤ (u35.1 85 18).toInt ∧ (u35.1 85 18).toInt < (u0.1 87 4).toInt := xr35
    refine z_ne F 86 dX12_bookLine_81 (by decide) rfl (fun c36 => ?_) (fun c36 => ?_)
    · refine lv_aload_n F.1 F.2.1 dX12_bookLine_86 rfl (lv_at hl 1 rfl) ?_
      refine a_geti F inX12 hP 85 35 tc_85 rfl rfl (by decide) q1506 (fun _ h9 => h9) (v := (u0.1 85 35)) (hF35 85 35 rfl) dX12_bookLine_87 ?_
      refine a_bp F (40 : Int32) dX12_bookLine_90 (by decide) ?_
      refine b_ne F 101 dX12_bookLine_92 (by decide) rfl ic_40 (fun c37 => ?_) (fun c37 => ?_)
      · refine lv_aload_n F.1 F.2.1 dX12_bookLine_101 rfl (lv_at hl 1 rfl) ?_
        refine a_getr F inX12 hP 85 8 tc_85 rfl rfl (by decide) q1479 (fun _ h9 => h9) dX12_bookLine_102 ?_
        refine lv_iload_n F.1 F.2.1 dX12_bookLine_105 rfl (lv_at hl 0 rfl) ?_
        refine a_ic F (1 : Int32) dX12_bookLine_106 (by decide) ?_
        refine a_iadd F dX12_bookLine_107 rfl ic_1 (by omega) (fun v38 hv38 => ?_)
        refine lv_aload_n F.1 F.2.1 dX12_bookLine_108 rfl (lv_at hl 1 rfl) ?_
        refine a_geti F inX12 hP 85 18 tc_85 rfl rfl (by decide) q1489 (fun _ h9 => h9) (v := (u35.1 85 18)) (rfl) dX12_bookLine_109 ?_
        refine a_iast F hP hD hS 89 tc_89 rfl (i_in rfl (by omega)) dX12_bookLine_112 (fun H locs hP hD hS => ?_)
        have hR := hR.si (c := 89) (k := v38.toNatClampNeg) (v := (u35.1 85 18)) ⟨i_lo _, i_hi _⟩
        have hF := hF.si (c := 89) (k := v38.toNatClampNeg) (v := (u35.1 85 18)) rfl
        have hO_BLI := hK_BLI
        have hO_BG := hK_BG
        have hN_BLP := bx_p hD (t := (u0.1 85 35)) (hF35 85 35 rfl) (by omega) (by omega) (by omega)
        have hK_BLI := bx_w hO_BLI (t := (u0.1 85 35)) (hF35 85 35 rfl) (i := v38) (v := (u35.1 85 18)) (by omega) (by omega)
        have hK_BG := bg_w hO_BG (t := (u0.1 85 35)) (hF35 85 35 rfl) (i := v38) (v := (u35.1 85 18)) (by omega) (by omega)
        have hK_BLP := hN_BLP
        refine lv_aload_n F.1 F.2.1 dX12_bookLine_113 rfl (lv_at hl 1 rfl) ?_
        refine a_Vv F hml hl.1 hA hP hD hS (As := []) (c_X12_next_85 l dC dI ad cA nF _  hR) (cs_RX12_184 (d := 2) F.2.2.1 (by decide)) tc_85 rfl rfl rfl rfl (Nat.le_of_ble_eq_true rfl) dX12_bookLine_114 ⟨Nat.le_refl 0, Nat.le_refl 0⟩ (fun u39 H locs hq hP hD hS => ?_)
        obtain ⟨hR, hF39⟩ := hq
        have hF := hF.tr hF39 (by decide)
        have hK_BLI := sp_fr sp_BLI hF39 (by decide) hK_BLI
        have hK_BG := sp_fr sp_BG hF39 (by decide) hK_BG
        have hK_BLP := sp_fr sp_BLP hF39 (by decide) hK_BLP
        refine lv_aload_n F.1 F.2.1 dX12_bookLine_117 rfl (lv_at hl 1 rfl) ?_
        refine lv_ldc2 (v := (1735353715 : Int64)) F.1 F.2.1 F.2.2.2.1 (F.2.2.1 _ q1454) dX12_bookLine_118 ?_
        refine a_Vi F hml hl.1 hA hP hD hS (As := [.long (1735353715 : Int64)]) (c_X12_isWord_85 l dC dI ad cA nF _ (1735353715 : Int64) hR) (cs_RX12_206 (d := 1) F.2.2.1 (by decide)) tc_85 rfl rfl rfl rfl (Nat.le_of_ble_eq_true rfl) dX12_bookLine_121 ⟨Nat.le_refl 0, Nat.le_refl 0⟩ (fun r40 uN40 H locs hq hP hD hS => ?_)
        obtain ⟨hu40, gr40⟩ := hq
        rw [hu40] at hP hD
        refine z_eq F 131 dX12_bookLine_124 (by decide) rfl (fun c41 => ?_) (fun c41 => ?_)
        · refine lv_aload_n F.1 F.2.1 dX12_bookLine_131 rfl (lv_at hl 1 rfl) ?_
          refine lv_ldc2 (v := (1685022067 : Int64)) F.1 F.2.1 F.2.2.2.1 (F.2.2.1 _ q1455) dX12_bookLine_132 ?_
          refine a_Vi F hml hl.1 hA hP hD hS (As := [.long (1685022067 : Int64)]) (c_X12_isWord_85 l dC dI ad cA nF _ (1685022067 : Int64) hR) (cs_RX12_206 (d := 1) F.2.2.1 (by decide)) tc_85 rfl rfl rfl rfl (Nat.le_of_ble_eq_true rfl) dX12_bookLine_135 ⟨Nat.le_refl 0, Nat.le_refl 0⟩ (fun r42 uN42 H locs hq hP hD hS => ?_)
          obtain ⟨hu42, gr42⟩ := hq
          rw [hu42] at hP hD
          refine z_eq F 145 dX12_bookLine_138 (by decide) rfl (fun c43 => ?_) (fun c43 => ?_)
          · refine lv_aload_n F.1 F.2.1 dX12_bookLine_145 rfl (lv_at hl 1 rfl) ?_
            refine lv_ldc2 (v := (1935767923 : Int64)) F.1 F.2.1 F.2.2.2.1 (F.2.2.1 _ q1456) dX12_bookLine_146 ?_
            refine a_Vi F hml hl.1 hA hP hD hS (As := [.long (1935767923 : Int64)]) (c_X12_isWord_85 l dC dI ad cA nF _ (1935767923 : Int64) hR) (cs_RX12_206 (d := 1) F.2.2.1 (by decide)) tc_85 rfl rfl rfl rfl (Nat.le_of_ble_eq_true rfl) dX12_bookLine_149 ⟨Nat.le_refl 0, Nat.le_refl 0⟩ (fun r44 uN44 H locs hq hP hD hS => ?_)
            obtain ⟨hu44, gr44⟩ := hq
            rw [hu44] at hP hD
            refine z_eq F 159 dX12_bookLine_152 (by decide) rfl (fun c45 => ?_) (fun c45 => ?_)
            · refine a_ic F (-1 : Int32) dX12_bookLine_159 (by decide) ?_
              exact L160 v31 (-1 : Int32) _ _ _ _ hR hF hK_BLI hK_BLP hK_BG (by omega) (by decide) (i_trB (hF39 85 18 rfl) (by omega : (0 : Int) ≤ (u35.1 85 18).toInt ∧ (u35.1 85 18).toInt ≤ 3)) (i_trB ((hF39 85 35 rfl).trans (hF35 85 35 rfl)) (by omega : (0 : Int) ≤ (u0.1 85 35).toInt ∧ (u0.1 85 35).toInt ≤ 39)) (by rw [(hF39 85 35 rfl).trans (hF35 85 35 rfl)]; exact (by omega : v31.toInt = 3 * (u0.1 85 35).toInt)) hP hD hS (lv_sub hl [1, 0] rfl)
            · refine a_ic F (2 : Int32) dX12_bookLine_155 (by decide) ?_
              refine lv_goto (tgt := 160) F.1 F.2.1 dX12_bookLine_156 (by decide) ?_
              exact L160 v31 (2 : Int32) _ _ _ _ hR hF hK_BLI hK_BLP hK_BG (by omega) (by decide) (i_trB (hF39 85 18 rfl) (by omega : (0 : Int) ≤ (u35.1 85 18).toInt ∧ (u35.1 85 18).toInt ≤ 3)) (i_trB ((hF39 85 35 rfl).trans (hF35 85 35 rfl)) (by omega : (0 : Int) ≤ (u0.1 85 35).toInt ∧ (u0.1 85 35).toInt ≤ 39)) (by rw [(hF39 85 35 rfl).trans (hF35 85 35 rfl)]; exact (by omega : v31.toInt = 3 * (u0.1 85 35).toInt)) hP hD hS (lv_sub hl [1, 0] rfl)
          · refine a_ic F (1 : Int32) dX12_bookLine_141 (by decide) ?_
            refine lv_goto (tgt := 160) F.1 F.2.1 dX12_bookLine_142 (by decide) ?_
            exact L160 v31 (1 : Int32) _ _ _ _ hR hF hK_BLI hK_BLP hK_BG (by omega) (by decide) (i_trB (hF39 85 18 rfl) (by omega : (0 : Int) ≤ (u35.1 85 18).toInt ∧ (u35.1 85 18).toInt ≤ 3)) (i_trB ((hF39 85 35 rfl).trans (hF35 85 35 rfl)) (by omega : (0 : Int) ≤ (u0.1 85 35).toInt ∧ (u0.1 85 35).toInt ≤ 39)) (by rw [(hF39 85 35 rfl).trans (hF35 85 35 rfl)]; exact (by omega : v31.toInt = 3 * (u0.1 85 35).toInt)) hP hD hS (lv_sub hl [1, 0] rfl)
        · refine a_ic F (0 : Int32) dX12_bookLine_127 (by decide) ?_
          refine lv_goto (tgt := 160) F.1 F.2.1 dX12_bookLine_128 (by decide) ?_
          exact L160 v31 (0 : Int32) _ _ _ _ hR hF hK_BLI hK_BLP hK_BG (by omega) (by decide) (i_trB (hF39 85 18 rfl) (by omega : (0 : Int) ≤ (u35.1 85 18).toInt ∧ (u35.1 85 18).toInt ≤ 3)) (i_trB ((hF39 85 35 rfl).trans (hF35 85 35 rfl)) (by omega : (0 : Int) ≤ (u0.1 85 35).toInt ∧ (u0.1 85 35).toInt ≤ 39)) (by rw [(hF39 85 35 rfl).trans (hF35 85 35 rfl)]; exact (by omega : v31.toInt = 3 * (u0.1 85 35).toInt)) hP hD hS (lv_sub hl [1, 0] rfl)
      · refine lv_aload_n F.1 F.2.1 dX12_bookLine_95 rfl (lv_at hl 1 rfl) ?_
        refine a_ic F (4 : Int32) dX12_bookLine_96 (by decide) ?_
        refine a_Vi F hml hl.1 hA hP hD hS (As := [.int (4 : Int32)]) (c_X12_bad_85 l dC dI ad cA nF _ (4 : Int32) hR (by decide)) (cs_RX12_181 (d := 1) F.2.2.1 (by decide)) tc_85 rfl rfl rfl rfl (Nat.le_of_ble_eq_true rfl) dX12_bookLine_97 ⟨Nat.le_refl 0, Nat.le_refl 0⟩ (fun r46 u46 H locs hq hP hD hS => ?_)
        obtain ⟨hR, hF46, gr46⟩ := hq
        have hF := hF.tr hF46 (by decide)
        have hK_BLI := sp_fr sp_BLI hF46 (by decide) hK_BLI
        have hK_BG := sp_fr sp_BG hF46 (by decide) hK_BG
        have k47 : (u46.1 85 35).toInt = (u0.1 85 35).toInt := congrArg Int32.toInt (show u46.1 85 35 = (u0.1 85 35) from (hF46 85 35 rfl).trans (hF35 85 35 rfl))
        exact a_retz F hr hlocks hP hD hS dX12_bookLine_100 (i_01 (by omega)) ⟨hR, hF, (by omega : (0 : Int) ≤ r46.toInt ∧ r46.toInt ≤ 1), (by omega : r46.toInt ≠ 0 → (u46.1 85 35).toInt ≤ 39), (fun h9 => absurd (by omega : r46.toInt = 0) h9), (fun h9 => absurd (by omega : r46.toInt = 0) h9)⟩
    · refine a_ic F (0 : Int32) dX12_bookLine_84 (by decide) ?_
      have k48 : (u35.1 85 35).toInt = (u0.1 85 35).toInt := congrArg Int32.toInt (show u35.1 85 35 = (u0.1 85 35) from hF35 85 35 rfl)
      exact a_retz F hr hlocks hP hD hS dX12_bookLine_85 (Or.inl rfl) ⟨hR, hF, (by decide), (by first | exact (by omega : (0 : Int) ≠ 0 → (u35.1 85 35).toInt ≤ 39) | (rw [ic_0]; exact (by omega : (0 : Int) ≠ 0 → (u35.1 85 35).toInt ≤ 39))), (fun h9 => absurd (by decide) h9), (fun h9 => absurd (by decide) h9)⟩
  · refine lv_aload_n F.1 F.2.1 dX12_bookLine_17 rfl (lv_at hl 1 rfl) ?_
    refine a_geti F inX12 hP 85 35 tc_85 rfl rfl (by decide) q1506 (fun _ h9 => h9) (v := (u0.1 85 35)) (rfl) dX12_bookLine_18 ?_
    refine a_bp F (40 : Int32) dX12_bookLine_21 (by decide) ?_
    refine b_ne F 32 dX12_bookLine_23 (by decide) rfl ic_40 (fun c49 => ?_) (fun c49 => ?_)
    · refine lv_aload_n F.1 F.2.1 dX12_bookLine_32 rfl (lv_at hl 1 rfl) ?_
      refine a_Vv F hml hl.1 hA hP hD hS (As := []) (c_X12_next_85 l dC dI ad cA nF _  hR) (cs_RX12_184 (d := 2) F.2.2.1 (by decide)) tc_85 rfl rfl rfl rfl (Nat.le_of_ble_eq_true rfl) dX12_bookLine_33 ⟨Nat.le_refl 0, Nat.le_refl 0⟩ (fun u50 H locs hq hP hD hS => ?_)
      obtain ⟨hR, hF50⟩ := hq
      have hF := hF.tr hF50 (by decide)
      have hK_BLI := sp_fr sp_BLI hF50 (by decide) hK_BLI
      have hK_BG := sp_fr sp_BG hF50 (by decide) hK_BG
      refine lv_aload_n F.1 F.2.1 dX12_bookLine_36 rfl (lv_at hl 1 rfl) ?_
      refine a_ic F (1 : Int32) dX12_bookLine_37 (by decide) ?_
      refine a_bp F (99 : Int32) dX12_bookLine_38 (by decide) ?_
      refine a_Vi F hml hl.1 hA hP hD hS (As := [.int (1 : Int32), .int (99 : Int32)]) (c_X12_takes_85 l dC dI ad cA nF _ (1 : Int32) (99 : Int32) hR (by decide)) (cs_RX12_214 (d := 3) F.2.2.1 (by decide)) tc_85 rfl rfl rfl rfl (Nat.le_of_ble_eq_true rfl) dX12_bookLine_40 ⟨Nat.le_refl 0, Nat.le_refl 0⟩ (fun r51 u51 H locs hq hP hD hS => ?_)
      obtain ⟨hR, hF51, gr51, xr51⟩ := hq
      have hF := hF.tr hF51 (by decide)
      have hK_BLI := sp_fr sp_BLI hF51 (by decide) hK_BLI
      have hK_BG := sp_fr sp_BG hF51 (by decide) hK_BG
      have xr51 : r51.toInt ≠ 0 → (1 : Int) ≤ (u51.1 85 18).toInt ∧ (u51.1 85 18).toInt ≤ (99 : Int) := xr51
      refine z_ne F 48 dX12_bookLine_43 (by decide) rfl (fun c52 => ?_) (fun c52 => ?_)
      · refine lv_aload_n F.1 F.2.1 dX12_bookLine_48 rfl (lv_at hl 1 rfl) ?_
        refine a_getr F inX12 hP 85 8 tc_85 rfl rfl (by decide) q1479 (fun _ h9 => h9) dX12_bookLine_49 ?_
        refine lv_iload_n F.1 F.2.1 dX12_bookLine_52 rfl (lv_at hl 0 rfl) ?_
        refine a_ic F (3 : Int32) dX12_bookLine_53 (by decide) ?_
        refine a_iast F hP hD hS 89 tc_89 rfl (i_in rfl (by omega)) dX12_bookLine_54 (fun H locs hP hD hS => ?_)
        have hR := hR.si (c := 89) (k := v31.toNatClampNeg) (v := (3 : Int32)) ⟨i_lo _, i_hi _⟩
        have hF := hF.si (c := 89) (k := v31.toNatClampNeg) (v := (3 : Int32)) rfl
        have hO_BLI := hK_BLI
        have hO_BG := hK_BG
        have hN_BLA := bx_a hD (t := (u0.1 85 35)) ((hF51 85 35 rfl).trans (hF50 85 35 rfl)) (by omega) (by omega) (by decide)
        have hK_BLI := bx_w hO_BLI (t := (u0.1 85 35)) ((hF51 85 35 rfl).trans (hF50 85 35 rfl)) (i := v31) (v := (3 : Int32)) (by omega) (by omega)
        have hK_BG := bg_w hO_BG (t := (u0.1 85 35)) ((hF51 85 35 rfl).trans (hF50 85 35 rfl)) (i := v31) (v := (3 : Int32)) (by omega) (by omega)
        have hK_BLA := hN_BLA
        refine lv_aload_n F.1 F.2.1 dX12_bookLine_55 rfl (lv_at hl 1 rfl) ?_
        refine a_getr F inX12 hP 85 8 tc_85 rfl rfl (by decide) q1479 (fun _ h9 => h9) dX12_bookLine_56 ?_
        refine lv_iload_n F.1 F.2.1 dX12_bookLine_59 rfl (lv_at hl 0 rfl) ?_
        refine a_ic F (1 : Int32) dX12_bookLine_60 (by decide) ?_
        refine a_iadd F dX12_bookLine_61 rfl ic_1 (by omega) (fun v53 hv53 => ?_)
        refine lv_aload_n F.1 F.2.1 dX12_bookLine_62 rfl (lv_at hl 1 rfl) ?_
        refine a_geti F inX12 hP 85 18 tc_85 rfl rfl (by decide) q1489 (fun _ h9 => h9) (v := (u51.1 85 18)) (rfl) dX12_bookLine_63 ?_
        refine a_iast F hP hD hS 89 tc_89 rfl (i_in rfl (by omega)) dX12_bookLine_66 (fun H locs hP hD hS => ?_)
        have hR := hR.si (c := 89) (k := v53.toNatClampNeg) (v := (u51.1 85 18)) ⟨i_lo _, i_hi _⟩
        have hF := hF.si (c := 89) (k := v53.toNatClampNeg) (v := (u51.1 85 18)) rfl
        have hO_BLI := hK_BLI
        have hO_BG := hK_BG
        have hO_BLA := hK_BLA
        have hN_BLJ := bx_j1 hO_BLI hO_BLA (t := (u0.1 85 35)) ((hF51 85 35 rfl).trans (hF50 85 35 rfl)) (i := v53) (v := (u51.1 85 18)) (by omega) (by omega) (by omega)
        have hN_BH := bg_j1 hO_BG hO_BLA (t := (u0.1 85 35)) ((hF51 85 35 rfl).trans (hF50 85 35 rfl)) (i := v53) (v := (u51.1 85 18)) (by omega) (by omega)
        have hK_BLI := bx_w hO_BLI (t := (u0.1 85 35)) ((hF51 85 35 rfl).trans (hF50 85 35 rfl)) (i := v53) (v := (u51.1 85 18)) (by omega) (by omega)
        have hK_BG := bg_w hO_BG (t := (u0.1 85 35)) ((hF51 85 35 rfl).trans (hF50 85 35 rfl)) (i := v53) (v := (u51.1 85 18)) (by omega) (by omega)
        have hK_BLJ := hN_BLJ
        have hK_BH := hN_BH
        refine a_ic F (1 : Int32) dX12_bookLine_67 (by decide) ?_
        have k54 : (u51.1 85 35).toInt = (u0.1 85 35).toInt := congrArg Int32.toInt (show u51.1 85 35 = (u0.1 85 35) from (hF51 85 35 rfl).trans (hF50 85 35 rfl))
        exact a_retz F hr hlocks hP hD hS dX12_bookLine_68 (Or.inr rfl) ⟨hR, hF, (by decide), (by first | exact (by omega : (1 : Int) ≠ 0 → (u51.1 85 35).toInt ≤ 39) | (rw [ic_1]; exact (by omega : (1 : Int) ≠ 0 → (u51.1 85 35).toInt ≤ 39))), (fun _ => hK_BLJ), (fun _ => hK_BH)⟩
      · refine a_ic F (0 : Int32) dX12_bookLine_46 (by decide) ?_
        have k55 : (u51.1 85 35).toInt = (u0.1 85 35).toInt := congrArg Int32.toInt (show u51.1 85 35 = (u0.1 85 35) from (hF51 85 35 rfl).trans (hF50 85 35 rfl))
        exact a_retz F hr hlocks hP hD hS dX12_bookLine_47 (Or.inl rfl) ⟨hR, hF, (by decide), (by first | exact (by omega : (0 : Int) ≠ 0 → (u51.1 85 35).toInt ≤ 39) | (rw [ic_0]; exact (by omega : (0 : Int) ≠ 0 → (u51.1 85 35).toInt ≤ 39))), (fun h9 => absurd (by decide) h9), (fun h9 => absurd (by decide) h9)⟩
    · refine lv_aload_n F.1 F.2.1 dX12_bookLine_26 rfl (lv_at hl 1 rfl) ?_
      refine a_ic F (4 : Int32) dX12_bookLine_27 (by decide) ?_
      refine a_Vi F hml hl.1 hA hP hD hS (As := [.int (4 : Int32)]) (c_X12_bad_85 l dC dI ad cA nF _ (4 : Int32) hR (by decide)) (cs_RX12_181 (d := 1) F.2.2.1 (by decide)) tc_85 rfl rfl rfl rfl (Nat.le_of_ble_eq_true rfl) dX12_bookLine_28 ⟨Nat.le_refl 0, Nat.le_refl 0⟩ (fun r56 u56 H locs hq hP hD hS => ?_)
      obtain ⟨hR, hF56, gr56⟩ := hq
      have hF := hF.tr hF56 (by decide)
      have hK_BLI := sp_fr sp_BLI hF56 (by decide) hK_BLI
      have hK_BG := sp_fr sp_BG hF56 (by decide) hK_BG
      have k57 : (u56.1 85 35).toInt = (u0.1 85 35).toInt := congrArg Int32.toInt (show u56.1 85 35 = (u0.1 85 35) from hF56 85 35 rfl)
      exact a_retz F hr hlocks hP hD hS dX12_bookLine_31 (i_01 (by omega)) ⟨hR, hF, (by omega : (0 : Int) ≤ r56.toInt ∧ r56.toInt ≤ 1), (by omega : r56.toInt ≠ 0 → (u56.1 85 35).toInt ≤ 39), (fun h9 => absurd (by omega : r56.toInt = 0) h9), (fun h9 => absurd (by omega : r56.toInt = 0) h9)⟩

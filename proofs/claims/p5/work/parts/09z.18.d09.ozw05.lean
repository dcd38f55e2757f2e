def K_X12_keep_85_48_b (B48 : ac_U → Int32 → ac_U) (u0 : ac_U) (u : ac_U) (x1 : Int32) : ac_U := (if (370 : Int) ≤ x1.toInt then (vl ((u.1 85 24) + (1 : Int32)) (fun (v3 : Int32) => (pI u 85 24 v3))) else (vl ((370 : Int32) * (u.1 85 24)) (fun (v5 : Int32) => (vl (v5 + x1) (fun (v6 : Int32) => (vl ((106 : Int32) + x1) (fun (v7 : Int32) => (vl (u.1 87 v7.toNatClampNeg) (fun (v8 : Int32) => (vl (x1 + Int32.ofInt (1)) (fun (v9 : Int32) => (B48 (pI u 93 v6.toNatClampNeg v8) v9))))))))))))
def K_X12_keep_85_48 (u0 : ac_U) : Nat → ac_U → Int32 → ac_U
  | 0 => fun u x1 => u
  | n + 1 => fun u x1 => K_X12_keep_85_48_b (K_X12_keep_85_48 u0 n) u0 u x1
def K_X12_keep_85_46 (u0 : ac_U) (u : ac_U) : ac_U := (K_X12_keep_85_48 u0 372 u (0 : Int32))
def K_X12_keep_85_11_b (B11 : ac_U → Int32 → ac_U) (u0 : ac_U) (u : ac_U) (x1 : Int32) : ac_U := (if (2590 : Int) ≤ x1.toInt then (K_X12_keep_85_46 u0 (pI u 85 24 (7 : Int32))) else (vl (x1 + (370 : Int32)) (fun (v12 : Int32) => (vl (u.1 93 v12.toNatClampNeg) (fun (v13 : Int32) => (vl (x1 + Int32.ofInt (1)) (fun (v14 : Int32) => (B11 (pI u 93 x1.toNatClampNeg v13) v14))))))))
def K_X12_keep_85_11 (u0 : ac_U) : Nat → ac_U → Int32 → ac_U
  | 0 => fun u x1 => u
  | n + 1 => fun u x1 => K_X12_keep_85_11_b (K_X12_keep_85_11 u0 n) u0 u x1
def f_X12_keep_85 (u0 : ac_U) : ac_U := (if (u0.1 85 24).toInt ≠ (8 : Int) then (K_X12_keep_85_46 u0 u0) else (K_X12_keep_85_11 u0 2592 u0 (0 : Int32)))
set_option maxHeartbeats 600000 in
set_option maxRecDepth 100000 in
theorem x_X12_keep_85 (l : Launch) (dC : Nat → ClassId) (dI : Nat → Nat → Nat) (ad : Nat → Nat) (cA : Nat → ClassId) (nF : Nat) (u0 : ac_U)  (hR : ac_R rg u0) (hK_MS : msI u0) (hK_UI : unI u0) (hK_AP : apI u0) (hK_AU : auI u0) : ac_Mv l yX12_keep (.code yX12_keep cX12_keep 2 none :: TB) 1 (dC, dI) vwCl (ac_ty cA) ad cA (TT nF) [.ref (ad 85)] u0 (fun (u : ac_U) => ac_R rg u ∧ ac_Fr [(85, some 24), (93, none)] u0 u ∧ (1 ≤ (u.1 85 24).toInt) ∧ msI u ∧ unI u ∧ apI u ∧ auI u ∧ f_X12_keep_85 u0 = u) := by
  refine ac_Mv.of (cc := cX12_keep) (maxL := 2) (ret := none) (by decide) rfl (Nat.le_of_ble_eq_true rfl) ?_
  intro p e s m below meth c A ls F hml hr hlocks hA hP hD hS hl
  have F : ac_X p s m [.ref (ad 85)].toArray c cX12_keep RX12 TB (dC, dI) vwCl (ac_ty cA) := ⟨F.1, F.2.1, fun w h => F.2.2.1 w (List.mem_cons_of_mem _ h), F.2.2.2.1, F.2.2.2.2⟩
  have hl : lv_has ls 2 [(0, .ref (ad 85))] := hl
  obtain ⟨RR, hRR⟩ : ∃ q, q = f_X12_keep_85 u0 := ⟨_, rfl⟩
  have hF : ac_Fr [(85, some 24), (93, none)] u0 u0 := ac_Fr.rf
  have L48 : ∀ (n48 : Nat) (x1 : Int32) (u : ac_U) (H : Heap) (locs : List Loc) (ls : Array Slot), ac_R rg u → ac_Fr [(85, some 24), (93, none)] u0 u → 370 - x1.toInt < (n48 : Int) → msI u → unI u → ukI x1.toInt u → apI u → auI u → akwI x1.toInt u → (0 : Int) ≤ x1.toInt ∧ x1.toInt ≤ 370 → (0 : Int) ≤ (u.1 85 24).toInt ∧ (u.1 85 24).toInt ≤ 7 → RR = (K_X12_keep_85_48 u0 n48 u x1) → va_P (dC, dI) vwCl (ac_w ad cA (TT nF) u) H → va_D A (ac_w ad cA (TT nF) u) → va_S A s.heap H locs → lv_has ls 2 [(0, .ref (ad 85)), (1, .int x1)] → W p l e (ac_rm 1) s m [.ref (ad 85)].toArray below meth c H locs 0 0 (MQ below (va_Qv (fun (u : ac_U) => ac_R rg u ∧ ac_Fr [(85, some 24), (93, none)] u0 u ∧ (1 ≤ (u.1 85 24).toInt) ∧ msI u ∧ unI u ∧ apI u ∧ auI u ∧ f_X12_keep_85 u0 = u) (ac_B (dC, dI) vwCl (ac_ty cA) ad cA (TT nF) A) A) [.ref (ad 85)].toArray s 0 0 A) (F0 m 48 ls []) := by
    intro n48
    induction n48 with
    | zero => intro x1 u H locs ls hR hF hn48 hK_MS hK_UI hK_UKx hK_AP hK_AU hK_AKWx f0 f1 hC hP hD hS hl; exfalso; omega
    | succ n48 ih48 =>
      intro x1 u H locs ls hR hF hn48 hK_MS hK_UI hK_UKx hK_AP hK_AU hK_AKWx f0 f1 hC hP hD hS hl
      have hC : RR = K_X12_keep_85_48_b (K_X12_keep_85_48 u0 n48) u0 u x1 := hC
      unfold K_X12_keep_85_48_b at hC
      refine lv_iload_n F.1 F.2.1 dX12_keep_48 rfl (lv_at hl 1 rfl) ?_
      refine a_sp F (370 : Int32) dX12_keep_49 (by decide) ?_
      refine b_ge F 85 dX12_keep_52 (by decide) rfl ic_370 (fun c1 => ?_) (fun c1 => ?_)
      · have hC := hC.trans (if_pos c1)
        refine lv_aload_n F.1 F.2.1 dX12_keep_85 rfl (lv_at hl 0 rfl) ?_
        refine lv_dup F.1 F.2.1 dX12_keep_86 rfl ?_
        have g2 : (0 : Int) ≤ (u.1 85 24).toInt ∧ (u.1 85 24).toInt ≤ 8 := hR 85 24
        refine a_geti F inX12 hP 85 24 tc_85 rfl rfl (by decide) q1495 (fun _ h9 => h9) (v := (u.1 85 24)) rfl dX12_keep_87 ?_
        refine a_ic F (1 : Int32) dX12_keep_90 (by decide) ?_
        refine a_iaddX F dX12_keep_91 rfl ic_1 (by omega) (fun v3 hv3 yv3 => ?_)
        have hC := vl_eq hC yv3
        refine a_puti F inX12 tyX12 tyX12_ok nmX12 hP hD hS 85 24 tc_85 rfl rfl (by decide) q1495 (fun _ h9 => h9) rfl (ty := .int) (tyX12_ok 24 (by decide)) rfl rfl dX12_keep_92 (fun H locs hP hD hS => ?_)
        have hR := hR.si (c := 85) (k := 24) (v := v3) (by omega : (0 : Int) ≤ v3.toInt ∧ v3.toInt ≤ 8)
        have hF := hF.si (c := 85) (k := 24) (v := v3) rfl
        have hO_MS := hK_MS
        have hO_UI := hK_UI
        have hO_UKx := hK_UKx
        have hO_AP := hK_AP
        have hO_AU := hK_AU
        have hO_AKWx := hK_AKWx
        have hK_MS := sp_sgD sp_MS hD hK_MS (by decide)
        have hK_UI := un_inc hO_UI hO_UKx (by omega) (v := v3) (by omega)
        have hK_AP := sp_sgD sp_AP hD hK_AP (by decide)
        have hK_AU := au_inc hO_AU hO_AKWx (by omega) (v := v3) (by omega)
        exact a_retv F hr hlocks hP hD hS dX12_keep_95 ⟨hR, hF, (by omega : 1 ≤ v3.toInt), hK_MS, hK_UI, hK_AP, hK_AU, hRR.symm.trans hC⟩
      · have hC := hC.trans (if_neg (by omega))
        refine lv_aload_n F.1 F.2.1 dX12_keep_55 rfl (lv_at hl 0 rfl) ?_
        refine a_getr F inX12 hP 85 22 tc_85 rfl rfl (by decide) q1493 (fun _ h9 => h9) dX12_keep_56 ?_
        refine a_sp F (370 : Int32) dX12_keep_59 (by decide) ?_
        refine lv_aload_n F.1 F.2.1 dX12_keep_62 rfl (lv_at hl 0 rfl) ?_
        have g4 : (0 : Int) ≤ (u.1 85 24).toInt ∧ (u.1 85 24).toInt ≤ 8 := hR 85 24
        refine a_geti F inX12 hP 85 24 tc_85 rfl rfl (by decide) q1495 (fun _ h9 => h9) (v := (u.1 85 24)) rfl dX12_keep_63 ?_
        refine a_imulX F dX12_keep_66 ic_370 rfl (by omega) (fun v5 hv5 yv5 => ?_)
        have hC := vl_eq hC yv5
        refine lv_iload_n F.1 F.2.1 dX12_keep_67 rfl (lv_at hl 1 rfl) ?_
        refine a_iaddX F dX12_keep_68 rfl rfl (by omega) (fun v6 hv6 yv6 => ?_)
        have hC := vl_eq hC yv6
        refine lv_aload_n F.1 F.2.1 dX12_keep_69 rfl (lv_at hl 0 rfl) ?_
        refine a_getr F inX12 hP 85 6 tc_85 rfl rfl (by decide) q1477 (fun _ h9 => h9) dX12_keep_70 ?_
        refine a_bp F (106 : Int32) dX12_keep_73 (by decide) ?_
        refine lv_iload_n F.1 F.2.1 dX12_keep_75 rfl (lv_at hl 1 rfl) ?_
        refine a_iaddX F dX12_keep_76 ic_106 rfl (by omega) (fun v7 hv7 yv7 => ?_)
        have hC := vl_eq hC yv7
        refine a_iald F hP 87 tc_87 rfl (i_in rfl (by omega)) dX12_keep_77 (fun v8 ev8 => ?_)
        have hC := vl_eq hC ev8.symm
        refine a_iast F hP hD hS 93 tc_93 rfl (i_in rfl (by omega)) dX12_keep_78 (fun H locs hP hD hS => ?_)
        have hR := hR.si (c := 93) (k := v6.toNatClampNeg) (v := v8) (cp_el hR ev8 (rg_u2 (m := (u.1 85 24).toInt) (x := x1.toInt) (by omega) (by omega) (by omega) (by omega)).1)
        have hF := hF.si (c := 93) (k := v6.toNatClampNeg) (v := v8) rfl
        have hO_MS := hK_MS
        have hO_UI := hK_UI
        have hO_UKx := hK_UKx
        have hO_AP := hK_AP
        have hO_AU := hK_AU
        have hO_AKWx := hK_AKWx
        have hK_MS := sp_sgD sp_MS hD hK_MS (by decide)
        have hK_UI := un_w2 hO_UI (i := v6) (v := v8) (by omega) (by omega)
        have hK_UKx := uk_keep hO_UKx hO_MS (i := v6) (k := v7) (by omega) (by omega) (by omega) (by omega) ev8
        have hK_AP := sp_sgD sp_AP hD hK_AP (by decide)
        have hK_AU := au_w2 hO_AU (i := v6) (v := v8) (by omega) (by omega)
        have hK_AKWx := akw_keep hO_AKWx hO_AP (i := v6) (k := v7) (by omega) (by omega) (by omega) (by omega) ev8
        refine a_iincX F (k := 1) (fun v9 => [(1, .int v9), (0, .ref (ad 85))]) dX12_keep_79 hl rfl rfl (by decide) (by omega) (by decide) (fun _ => rfl) (fun v9 ls hv9 yv9 hl => ?_)
        have hC := vl_eq hC yv9
        refine lv_goto (tgt := 48) F.1 F.2.1 dX12_keep_82 (by decide) ?_
        exact ih48 v9 _ _ _ _ hR hF (by omega) hK_MS hK_UI (uk_eq hK_UKx (by omega)) hK_AP hK_AU (akw_eq hK_AKWx (by omega)) (by omega) (by omega : (0 : Int) ≤ (u.1 85 24).toInt ∧ (u.1 85 24).toInt ≤ 7) hC hP hD hS (lv_sub hl [1, 0] rfl)
  have L46 : ∀ (u : ac_U) (H : Heap) (locs : List Loc) (ls : Array Slot), ac_R rg u → ac_Fr [(85, some 24), (93, none)] u0 u → msI u → unI u → apI u → auI u → (0 : Int) ≤ (u.1 85 24).toInt ∧ (u.1 85 24).toInt ≤ 7 → RR = (K_X12_keep_85_46 u0 u) → va_P (dC, dI) vwCl (ac_w ad cA (TT nF) u) H → va_D A (ac_w ad cA (TT nF) u) → va_S A s.heap H locs → lv_has ls 2 [(0, .ref (ad 85))] → W p l e (ac_rm 1) s m [.ref (ad 85)].toArray below meth c H locs 0 0 (MQ below (va_Qv (fun (u : ac_U) => ac_R rg u ∧ ac_Fr [(85, some 24), (93, none)] u0 u ∧ (1 ≤ (u.1 85 24).toInt) ∧ msI u ∧ unI u ∧ apI u ∧ auI u ∧ f_X12_keep_85 u0 = u) (ac_B (dC, dI) vwCl (ac_ty cA) ad cA (TT nF) A) A) [.ref (ad 85)].toArray s 0 0 A) (F0 m 46 ls []) := by
    intro u H locs ls hR hF hK_MS hK_UI hK_AP hK_AU f0 hC hP hD hS hl
    unfold K_X12_keep_85_46 at hC
    refine a_ic F (0 : Int32) dX12_keep_46 (by decide) ?_
    refine lv_istore_n (lv' := [(1, .int (0 : Int32)), (0, .ref (ad 85))]) F.1 F.2.1 dX12_keep_47 rfl hl (by decide) rfl (fun ls hl => ?_)
    have g10 : (0 : Int) ≤ (u.1 85 24).toInt ∧ (u.1 85 24).toInt ≤ 8 := hR 85 24
    exact L48 372 (0 : Int32) _ _ _ _ hR hF (by decide) hK_MS hK_UI (uk_0 (by decide)) hK_AP hK_AU (akw_0 (by decide)) (by decide) (by omega : (0 : Int) ≤ (u.1 85 24).toInt ∧ (u.1 85 24).toInt ≤ 7) hC hP hD hS (lv_sub hl [1, 0] rfl)
  have L11 : ∀ (n11 : Nat) (x1 : Int32) (u : ac_U) (H : Heap) (locs : List Loc) (ls : Array Slot), ac_R rg u → ac_Fr [(85, some 24), (93, none)] u0 u → 2590 - x1.toInt < (n11 : Int) → msI u → unI u → apI u → auI u → (0 : Int) ≤ x1.toInt ∧ x1.toInt ≤ 2590 → (8 : Int) ≤ (u.1 85 24).toInt ∧ (u.1 85 24).toInt ≤ 8 → RR = (K_X12_keep_85_11 u0 n11 u x1) → va_P (dC, dI) vwCl (ac_w ad cA (TT nF) u) H → va_D A (ac_w ad cA (TT nF) u) → va_S A s.heap H locs → lv_has ls 2 [(0, .ref (ad 85)), (1, .int x1)] → W p l e (ac_rm 1) s m [.ref (ad 85)].toArray below meth c H locs 0 0 (MQ below (va_Qv (fun (u : ac_U) => ac_R rg u ∧ ac_Fr [(85, some 24), (93, none)] u0 u ∧ (1 ≤ (u.1 85 24).toInt) ∧ msI u ∧ unI u ∧ apI u ∧ auI u ∧ f_X12_keep_85 u0 = u) (ac_B (dC, dI) vwCl (ac_ty cA) ad cA (TT nF) A) A) [.ref (ad 85)].toArray s 0 0 A) (F0 m 11 ls []) := by
    intro n11
    induction n11 with
    | zero => intro x1 u H locs ls hR hF hn11 hK_MS hK_UI hK_AP hK_AU f0 f1 hC hP hD hS hl; exfalso; omega
    | succ n11 ih11 =>
      intro x1 u H locs ls hR hF hn11 hK_MS hK_UI hK_AP hK_AU f0 f1 hC hP hD hS hl
      have hC : RR = K_X12_keep_85_11_b (K_X12_keep_85_11 u0 n11) u0 u x1 := hC
      unfold K_X12_keep_85_11_b at hC
      refine lv_iload_n F.1 F.2.1 dX12_keep_11 rfl (lv_at hl 1 rfl) ?_
      refine a_sp F (2590 : Int32) dX12_keep_12 (by decide) ?_
      refine b_ge F 40 dX12_keep_15 (by decide) rfl ic_2590 (fun c11 => ?_) (fun c11 => ?_)
      · have hC := hC.trans (if_pos c11)
        refine lv_aload_n F.1 F.2.1 dX12_keep_40 rfl (lv_at hl 0 rfl) ?_
        refine a_bp F (7 : Int32) dX12_keep_41 (by decide) ?_
        refine a_puti F inX12 tyX12 tyX12_ok nmX12 hP hD hS 85 24 tc_85 rfl rfl (by decide) q1495 (fun _ h9 => h9) rfl (ty := .int) (tyX12_ok 24 (by decide)) rfl rfl dX12_keep_43 (fun H locs hP hD hS => ?_)
        have hR := hR.si (c := 85) (k := 24) (v := (7 : Int32)) (by rw [ic_7]; exact (by omega : (0 : Int) ≤ (7 : Int) ∧ (7 : Int) ≤ 8))
        have hF := hF.si (c := 85) (k := 24) (v := (7 : Int32)) rfl
        have hO_MS := hK_MS
        have hO_UI := hK_UI
        have hO_AP := hK_AP
        have hO_AU := hK_AU
        have hK_MS := sp_sgD sp_MS hD hK_MS (by decide)
        have hK_UI := un_dec hO_UI (v := (7 : Int32)) (by rw [ic_7]; omega)
        have hK_AP := sp_sgD sp_AP hD hK_AP (by decide)
        have hK_AU := au_dec hO_AU (v := (7 : Int32)) (by rw [ic_7]; omega)
        exact L46 _ _ _ _ hR hF hK_MS hK_UI hK_AP hK_AU (by omega : (0 : Int) ≤ (7 : Int) ∧ (7 : Int) ≤ 7) hC hP hD hS (lv_sub hl [0] rfl)
      · have hC := hC.trans (if_neg (by omega))
        refine lv_aload_n F.1 F.2.1 dX12_keep_18 rfl (lv_at hl 0 rfl) ?_
        refine a_getr F inX12 hP 85 22 tc_85 rfl rfl (by decide) q1493 (fun _ h9 => h9) dX12_keep_19 ?_
        refine lv_iload_n F.1 F.2.1 dX12_keep_22 rfl (lv_at hl 1 rfl) ?_
        refine lv_aload_n F.1 F.2.1 dX12_keep_23 rfl (lv_at hl 0 rfl) ?_
        refine a_getr F inX12 hP 85 22 tc_85 rfl rfl (by decide) q1493 (fun _ h9 => h9) dX12_keep_24 ?_
        refine lv_iload_n F.1 F.2.1 dX12_keep_27 rfl (lv_at hl 1 rfl) ?_
        refine a_sp F (370 : Int32) dX12_keep_28 (by decide) ?_
        refine a_iaddX F dX12_keep_31 rfl ic_370 (by omega) (fun v12 hv12 yv12 => ?_)
        have hC := vl_eq hC yv12
        refine a_iald F hP 93 tc_93 rfl (i_in rfl (by omega)) dX12_keep_32 (fun v13 ev13 => ?_)
        have hC := vl_eq hC ev13.symm
        refine a_iast F hP hD hS 93 tc_93 rfl (i_in rfl (by omega)) dX12_keep_33 (fun H locs hP hD hS => ?_)
        have hR := hR.si (c := 93) (k := x1.toNatClampNeg) (v := v13) (cp_el hR ev13 (rg_u1 (by omega) (by omega)))
        have hF := hF.si (c := 93) (k := x1.toNatClampNeg) (v := v13) rfl
        have hO_MS := hK_MS
        have hO_UI := hK_UI
        have hO_AP := hK_AP
        have hO_AU := hK_AU
        have hK_MS := sp_sgD sp_MS hD hK_MS (by decide)
        have hK_UI := un_sh hO_UI (i := x1) (i' := v12) (by omega) (by omega) (by omega) ev13
        have hK_AP := sp_sgD sp_AP hD hK_AP (by decide)
        have hK_AU := au_sh hO_AU (i := x1) (i' := v12) (by omega) (by omega) (by omega) ev13
        refine a_iincX F (k := 1) (fun v14 => [(1, .int v14), (0, .ref (ad 85))]) dX12_keep_34 hl rfl rfl (by decide) (by omega) (by decide) (fun _ => rfl) (fun v14 ls hv14 yv14 hl => ?_)
        have hC := vl_eq hC yv14
        refine lv_goto (tgt := 11) F.1 F.2.1 dX12_keep_37 (by decide) ?_
        have g15 : (0 : Int) ≤ (u.1 85 24).toInt ∧ (u.1 85 24).toInt ≤ 8 := hR 85 24
        exact ih11 v14 _ _ _ _ hR hF (by omega) hK_MS hK_UI hK_AP hK_AU (by omega) (by omega : (8 : Int) ≤ (u.1 85 24).toInt ∧ (u.1 85 24).toInt ≤ 8) hC hP hD hS (lv_sub hl [1, 0] rfl)
  have hC : RR = f_X12_keep_85 u0 := hRR
  unfold f_X12_keep_85 at hC
  refine lv_aload_n F.1 F.2.1 dX12_keep_0 rfl (lv_at hl 0 rfl) ?_
  have g16 : (0 : Int) ≤ (u0.1 85 24).toInt ∧ (u0.1 85 24).toInt ≤ 8 := hR 85 24
  refine a_geti F inX12 hP 85 24 tc_85 rfl rfl (by decide) q1495 (fun _ h9 => h9) (v := (u0.1 85 24)) rfl dX12_keep_1 ?_
  refine a_bp F (8 : Int32) dX12_keep_4 (by decide) ?_
  refine b_ne F 46 dX12_keep_6 (by decide) rfl ic_8 (fun c17 => ?_) (fun c17 => ?_)
  · have hC := hC.trans (if_pos c17)
    exact L46 _ _ _ _ hR hF hK_MS hK_UI hK_AP hK_AU (by omega : (0 : Int) ≤ (u0.1 85 24).toInt ∧ (u0.1 85 24).toInt ≤ 7) hC hP hD hS (lv_sub hl [0] rfl)
  · have hC := hC.trans (if_neg (by omega))
    refine a_ic F (0 : Int32) dX12_keep_9 (by decide) ?_
    refine lv_istore_n (lv' := [(1, .int (0 : Int32)), (0, .ref (ad 85))]) F.1 F.2.1 dX12_keep_10 rfl hl (by decide) rfl (fun ls hl => ?_)
    exact L11 2592 (0 : Int32) _ _ _ _ hR hF (by decide) hK_MS hK_UI hK_AP hK_AU (by decide) (by omega : (8 : Int) ≤ (u0.1 85 24).toInt ∧ (u0.1 85 24).toInt ≤ 8) hC hP hD hS (lv_sub hl [1, 0] rfl)

def f_X12_isOver_85 (u0 : ac_U) : Int32 := (vl ((20 : Int32) * (u0.1 87 0)) (fun (v3 : Int32) => (if (u0.1 87 106).toInt ≠ v3.toInt then (0 : Int32) else (1 : Int32))))
set_option maxHeartbeats 600000 in
set_option maxRecDepth 100000 in
theorem x_X12_isOver_85 (l : Launch) (dC : Nat → ClassId) (dI : Nat → Nat → Nat) (ad : Nat → Nat) (cA : Nat → ClassId) (nF : Nat) (u0 : ac_U)  (hR : ac_R rg u0) : ac_Mi l yX12_isOver (.code yX12_isOver cX12_isOver 1 (some .boolean) :: TB) 1 (dC, dI) vwCl (ac_ty cA) ad cA (TT nF) [.ref (ad 85)] u0 (fun (r : Int32) (u : ac_U) => u = u0 ∧ ((0 : Int) ≤ r.toInt ∧ r.toInt ≤ 1) ∧ (r.toInt = 0 → (u0.1 87 106).toInt ≠ 20 * (u0.1 87 0).toInt) ∧ f_X12_isOver_85 u0 = r) := by
  refine ac_Mi.of (cc := cX12_isOver) (maxL := 1) (ret := (some .boolean)) (by decide) rfl (Nat.le_of_ble_eq_true rfl) ?_
  intro p e s m below meth c A ls F hml hr hlocks hA hP hD hS hl
  have F : ac_X p s m [.ref (ad 85)].toArray c cX12_isOver RX12 TB (dC, dI) vwCl (ac_ty cA) := ⟨F.1, F.2.1, fun w h => F.2.2.1 w (List.mem_cons_of_mem _ h), F.2.2.2.1, F.2.2.2.2⟩
  have hl : lv_has ls 1 [(0, .ref (ad 85))] := hl
  obtain ⟨RR, hRR⟩ : ∃ q, q = f_X12_isOver_85 u0 := ⟨_, rfl⟩
  have hC : RR = f_X12_isOver_85 u0 := hRR
  unfold f_X12_isOver_85 at hC
  refine lv_aload_n F.1 F.2.1 dX12_isOver_0 rfl (lv_at hl 0 rfl) ?_
  refine a_getr F inX12 hP 85 6 tc_85 rfl rfl (by decide) q1477 (fun _ h9 => h9) dX12_isOver_1 ?_
  refine a_bp F (106 : Int32) dX12_isOver_4 (by decide) ?_
  have g1 : (0 : Int) ≤ (u0.1 87 106).toInt ∧ (u0.1 87 106).toInt ≤ 480 := hR 87 106
  refine a_ialdK F hP 87 106 tc_87 rfl rfl (i_in ic_106 (by omega)) (v := (u0.1 87 106)) rfl dX12_isOver_6 ?_
  refine a_bp F (20 : Int32) dX12_isOver_7 (by decide) ?_
  refine lv_aload_n F.1 F.2.1 dX12_isOver_9 rfl (lv_at hl 0 rfl) ?_
  refine a_getr F inX12 hP 85 6 tc_85 rfl rfl (by decide) q1477 (fun _ h9 => h9) dX12_isOver_10 ?_
  refine a_ic F (0 : Int32) dX12_isOver_13 (by decide) ?_
  have g2 : (4 : Int) ≤ (u0.1 87 0).toInt ∧ (u0.1 87 0).toInt ≤ 24 := hR 87 0
  refine a_ialdK F hP 87 0 tc_87 rfl rfl (i_in ic_0 (by omega)) (v := (u0.1 87 0)) rfl dX12_isOver_14 ?_
  refine a_imulX F dX12_isOver_15 ic_20 rfl (by omega) (fun v3 hv3 yv3 => ?_)
  have hC := vl_eq hC yv3
  refine b_ne F 23 dX12_isOver_16 (by decide) rfl rfl (fun c4 => ?_) (fun c4 => ?_)
  · have hC := hC.trans (if_pos c4)
    refine a_ic F (0 : Int32) dX12_isOver_23 (by decide) ?_
    exact a_retz F hr hlocks hP hD hS dX12_isOver_24 (Or.inl rfl) ⟨rfl, (by decide), (by first | exact (by omega : (0 : Int) = 0 → (u0.1 87 106).toInt ≠ 20 * (u0.1 87 0).toInt) | (rw [ic_0]; exact (by omega : (0 : Int) = 0 → (u0.1 87 106).toInt ≠ 20 * (u0.1 87 0).toInt))), hRR.symm.trans hC⟩
  · have hC := hC.trans (if_neg (by omega))
    refine a_ic F (1 : Int32) dX12_isOver_19 (by decide) ?_
    refine lv_goto (tgt := 24) F.1 F.2.1 dX12_isOver_20 (by decide) ?_
    exact a_retz F hr hlocks hP hD hS dX12_isOver_24 (Or.inr rfl) ⟨rfl, (by decide), (by first | exact (by omega : (1 : Int) = 0 → (u0.1 87 106).toInt ≠ 20 * (u0.1 87 0).toInt) | (rw [ic_1]; exact (by omega : (1 : Int) = 0 → (u0.1 87 106).toInt ≠ 20 * (u0.1 87 0).toInt))), hRR.symm.trans hC⟩

def f_X12_whyAct_85 (u0 : ac_U) (p0 : Int32) : Int32 := (vl ((111 : Int32) + p0) (fun (v1 : Int32) => (vl (u0.1 87 v1.toNatClampNeg) (fun (v2 : Int32) => (if v2.toInt ≠ (1 : Int) then (vl (f_X12_isOver_85 u0) (fun (r4 : Int32) => (if r4.toInt = 0 then (if (u0.1 87 123).toInt ≠ (80 : Int) then (0 : Int32) else (4 : Int32)) else (3 : Int32)))) else (1 : Int32))))))
set_option maxHeartbeats 600000 in
set_option maxRecDepth 100000 in
theorem x_X12_whyAct_85 (l : Launch) (dC : Nat → ClassId) (dI : Nat → Nat → Nat) (ad : Nat → Nat) (cA : Nat → ClassId) (nF : Nat) (u0 : ac_U) (p0 : Int32) (hR : ac_R rg u0) (hp0 : (0 : Int) ≤ p0.toInt ∧ p0.toInt ≤ 3) : ac_Mi l yX12_whyAct (.code yX12_whyAct cX12_whyAct 2 (some .int) :: TB) 2 (dC, dI) vwCl (ac_ty cA) ad cA (TT nF) [.ref (ad 85), .int p0] u0 (fun (r : Int32) (u : ac_U) => u = u0 ∧ ((0 : Int) ≤ r.toInt ∧ r.toInt ≤ 4) ∧ (r.toInt = 0 → (u0.1 87 123).toInt ≤ 79) ∧ f_X12_whyAct_85 u0 p0 = r) := by
  refine ac_Mi.of (cc := cX12_whyAct) (maxL := 2) (ret := (some .int)) (by decide) rfl (Nat.le_of_ble_eq_true rfl) ?_
  intro p e s m below meth c A ls F hml hr hlocks hA hP hD hS hl
  have F : ac_X p s m [.ref (ad 85), .int p0].toArray c cX12_whyAct RX12 TB (dC, dI) vwCl (ac_ty cA) := ⟨F.1, F.2.1, fun w h => F.2.2.1 w (List.mem_cons_of_mem _ h), F.2.2.2.1, F.2.2.2.2⟩
  have hl : lv_has ls 2 [(0, .ref (ad 85)), (1, .int p0)] := hl
  obtain ⟨RR, hRR⟩ : ∃ q, q = f_X12_whyAct_85 u0 p0 := ⟨_, rfl⟩
  have hC : RR = f_X12_whyAct_85 u0 p0 := hRR
  unfold f_X12_whyAct_85 at hC
  refine lv_aload_n F.1 F.2.1 dX12_whyAct_0 rfl (lv_at hl 0 rfl) ?_
  refine a_getr F inX12 hP 85 6 tc_85 rfl rfl (by decide) q1477 (fun _ h9 => h9) dX12_whyAct_1 ?_
  refine a_bp F (111 : Int32) dX12_whyAct_4 (by decide) ?_
  refine lv_iload_n F.1 F.2.1 dX12_whyAct_6 rfl (lv_at hl 1 rfl) ?_
  refine a_iaddX F dX12_whyAct_7 ic_111 rfl (by omega) (fun v1 hv1 yv1 => ?_)
  have hC := vl_eq hC yv1
  refine a_iald F hP 87 tc_87 rfl (i_in rfl (by omega)) dX12_whyAct_8 (fun v2 ev2 => ?_)
  have hC := vl_eq hC ev2.symm
  refine a_ic F (1 : Int32) dX12_whyAct_9 (by decide) ?_
  refine b_ne F 17 dX12_whyAct_10 (by decide) rfl ic_1 (fun c3 => ?_) (fun c3 => ?_)
  · have hC := hC.trans (if_pos c3)
    refine lv_aload_n F.1 F.2.1 dX12_whyAct_17 rfl (lv_at hl 0 rfl) ?_
    refine a_Vi F hml hl.1 hA hP hD hS (As := []) (x_X12_isOver_85 l dC dI ad cA nF _  hR) (cs_RX12_263 (d := 1) F.2.2.1 (by decide)) tc_85 rfl rfl rfl rfl (Nat.le_of_ble_eq_true rfl) dX12_whyAct_18 ⟨Nat.le_refl 0, Nat.le_refl 0⟩ (fun r4 uN4 H locs hq hP hD hS => ?_)
    obtain ⟨hu4, gr4, xr4, hz4⟩ := hq
    rw [hu4] at hP hD
    have g5 : (0 : Int) ≤ (u0.1 87 106).toInt ∧ (u0.1 87 106).toInt ≤ 480 := hR 87 106
    have g6 : (4 : Int) ≤ (u0.1 87 0).toInt ∧ (u0.1 87 0).toInt ≤ 24 := hR 87 0
    have xr4 : r4.toInt = 0 → (u0.1 87 106).toInt ≠ 20 * (u0.1 87 0).toInt := xr4
    have hC := vl_eq hC hz4.symm
    refine z_eq F 28 dX12_whyAct_21 (by decide) rfl (fun c7 => ?_) (fun c7 => ?_)
    · have hC := hC.trans (if_pos c7)
      refine lv_aload_n F.1 F.2.1 dX12_whyAct_28 rfl (lv_at hl 0 rfl) ?_
      refine a_getr F inX12 hP 85 6 tc_85 rfl rfl (by decide) q1477 (fun _ h9 => h9) dX12_whyAct_29 ?_
      refine a_bp F (123 : Int32) dX12_whyAct_32 (by decide) ?_
      have g8 : (0 : Int) ≤ (u0.1 87 123).toInt ∧ (u0.1 87 123).toInt ≤ 80 := hR 87 123
      refine a_ialdK F hP 87 123 tc_87 rfl rfl (i_in ic_123 (by omega)) (v := (u0.1 87 123)) rfl dX12_whyAct_34 ?_
      refine a_bp F (80 : Int32) dX12_whyAct_35 (by decide) ?_
      refine b_ne F 44 dX12_whyAct_37 (by decide) rfl ic_80 (fun c9 => ?_) (fun c9 => ?_)
      · have hC := hC.trans (if_pos c9)
        refine a_ic F (0 : Int32) dX12_whyAct_44 (by decide) ?_
        exact a_reti F hr hlocks hP hD hS dX12_whyAct_45 ⟨rfl, (by decide), (by first | exact (by omega : (0 : Int) = 0 → (u0.1 87 123).toInt ≤ 79) | (rw [ic_0]; exact (by omega : (0 : Int) = 0 → (u0.1 87 123).toInt ≤ 79))), hRR.symm.trans hC⟩
      · have hC := hC.trans (if_neg (by omega))
        refine a_ic F (4 : Int32) dX12_whyAct_40 (by decide) ?_
        refine lv_goto (tgt := 45) F.1 F.2.1 dX12_whyAct_41 (by decide) ?_
        exact a_reti F hr hlocks hP hD hS dX12_whyAct_45 ⟨rfl, (by decide), (by first | exact (by omega : (4 : Int) = 0 → (u0.1 87 123).toInt ≤ 79) | (rw [ic_4]; exact (by omega : (4 : Int) = 0 → (u0.1 87 123).toInt ≤ 79))), hRR.symm.trans hC⟩
    · have hC := hC.trans (if_neg (by omega))
      refine a_ic F (3 : Int32) dX12_whyAct_24 (by decide) ?_
      refine lv_goto (tgt := 45) F.1 F.2.1 dX12_whyAct_25 (by decide) ?_
      exact a_reti F hr hlocks hP hD hS dX12_whyAct_45 ⟨rfl, (by decide), (by first | exact (by omega : (3 : Int) = 0 → (u0.1 87 123).toInt ≤ 79) | (rw [ic_3]; exact (by omega : (3 : Int) = 0 → (u0.1 87 123).toInt ≤ 79))), hRR.symm.trans hC⟩
  · have hC := hC.trans (if_neg (by omega))
    refine a_ic F (1 : Int32) dX12_whyAct_13 (by decide) ?_
    refine lv_goto (tgt := 45) F.1 F.2.1 dX12_whyAct_14 (by decide) ?_
    exact a_reti F hr hlocks hP hD hS dX12_whyAct_45 ⟨rfl, (by decide), (by first | exact (by omega : (1 : Int) = 0 → (u0.1 87 123).toInt ≤ 79) | (rw [ic_1]; exact (by omega : (1 : Int) = 0 → (u0.1 87 123).toInt ≤ 79))), hRR.symm.trans hC⟩

def f_X12_lesser (u0 : ac_U) (p0 : Int32) (p1 : Int32) : Int32 := (if p1.toInt ≤ p0.toInt then p1 else p0)
set_option maxHeartbeats 600000 in
set_option maxRecDepth 100000 in
theorem x_X12_lesser (l : Launch) (dC : Nat → ClassId) (dI : Nat → Nat → Nat) (ad : Nat → Nat) (cA : Nat → ClassId) (nF : Nat) (u0 : ac_U) (p0 : Int32) (p1 : Int32) (hR : ac_R rg u0) (hp0 : p0.toInt ≤ 1000) : ac_Mi l yX12_lesser (.code yX12_lesser cX12_lesser 2 (some .int) :: TB) 1 (dC, dI) vwCl (ac_ty cA) ad cA (TT nF) [.int p0, .int p1] u0 (fun (r : Int32) (u : ac_U) => u = u0 ∧ (r.toInt ≤ 1000) ∧ f_X12_lesser u0 p0 p1 = r) := by
  refine ac_Mi.of (cc := cX12_lesser) (maxL := 2) (ret := (some .int)) (by decide) rfl (Nat.le_of_ble_eq_true rfl) ?_
  intro p e s m below meth c A ls F hml hr hlocks hA hP hD hS hl
  have F : ac_X p s m [.int p0, .int p1].toArray c cX12_lesser RX12 TB (dC, dI) vwCl (ac_ty cA) := ⟨F.1, F.2.1, fun w h => F.2.2.1 w (List.mem_cons_of_mem _ h), F.2.2.2.1, F.2.2.2.2⟩
  have hl : lv_has ls 2 [(0, .int p0), (1, .int p1)] := hl
  obtain ⟨RR, hRR⟩ : ∃ q, q = f_X12_lesser u0 p0 p1 := ⟨_, rfl⟩
  have hC : RR = f_X12_lesser u0 p0 p1 := hRR
  unfold f_X12_lesser at hC
  refine lv_iload_n F.1 F.2.1 dX12_lesser_0 rfl (lv_at hl 0 rfl) ?_
  refine lv_iload_n F.1 F.2.1 dX12_lesser_1 rfl (lv_at hl 1 rfl) ?_
  refine b_ge F 9 dX12_lesser_2 (by decide) rfl rfl (fun c1 => ?_) (fun c1 => ?_)
  · have hC := hC.trans (if_pos c1)
    refine lv_iload_n F.1 F.2.1 dX12_lesser_9 rfl (lv_at hl 1 rfl) ?_
    exact a_reti F hr hlocks hP hD hS dX12_lesser_10 ⟨rfl, (by omega : p1.toInt ≤ 1000), hRR.symm.trans hC⟩
  · have hC := hC.trans (if_neg (by omega))
    refine lv_iload_n F.1 F.2.1 dX12_lesser_5 rfl (lv_at hl 0 rfl) ?_
    refine lv_goto (tgt := 10) F.1 F.2.1 dX12_lesser_6 (by decide) ?_
    exact a_reti F hr hlocks hP hD hS dX12_lesser_10 ⟨rfl, (by omega : p0.toInt ≤ 1000), hRR.symm.trans hC⟩
def K_X12_lastOf_85_30 (u0 : ac_U) (p0 : Int32) (p1 : Int32) (z0 : Int32) (z1 : Int32) (z2 : Int32) : Int32 := (vl (z1 - z2) (fun (v1 : Int32) => (vl (f_X12_lesser u0 z0 v1) (fun (r2 : Int32) => r2))))
def f_X12_lastOf_85 (u0 : ac_U) (p0 : Int32) (p1 : Int32) : Int32 := (vl ((u0.1 87 0) - (1 : Int32)) (fun (v4 : Int32) => (vl ((58 : Int32) + p0) (fun (v5 : Int32) => (vl (u0.1 87 v5.toNatClampNeg) (fun (v6 : Int32) => (vl (f_X12_bitOf u0 p1 (0 : Int32)) (fun (r7 : Int32) => (if r7.toInt = 0 then (K_X12_lastOf_85_30 u0 p0 p1 v4 v6 (0 : Int32)) else (K_X12_lastOf_85_30 u0 p0 p1 v4 v6 (1 : Int32)))))))))))
set_option maxHeartbeats 600000 in
set_option maxRecDepth 100000 in
theorem x_X12_lastOf_85 (l : Launch) (dC : Nat → ClassId) (dI : Nat → Nat → Nat) (ad : Nat → Nat) (cA : Nat → ClassId) (nF : Nat) (u0 : ac_U) (p0 : Int32) (p1 : Int32) (hR : ac_R rg u0) (hp0 : (0 : Int) ≤ p0.toInt ∧ p0.toInt ≤ 7) (hp1 : (0 : Int) ≤ p1.toInt ∧ p1.toInt ≤ 7) : ac_Mi l yX12_lastOf (.code yX12_lastOf cX12_lastOf 3 (some .int) :: TB) 2 (dC, dI) vwCl (ac_ty cA) ad cA (TT nF) [.ref (ad 85), .int p0, .int p1] u0 (fun (r : Int32) (u : ac_U) => u = u0 ∧ (r.toInt ≤ 1000) ∧ f_X12_lastOf_85 u0 p0 p1 = r) := by
  refine ac_Mi.of (cc := cX12_lastOf) (maxL := 3) (ret := (some .int)) (by decide) rfl (Nat.le_of_ble_eq_true rfl) ?_
  intro p e s m below meth c A ls F hml hr hlocks hA hP hD hS hl
  have F : ac_X p s m [.ref (ad 85), .int p0, .int p1].toArray c cX12_lastOf RX12 TB (dC, dI) vwCl (ac_ty cA) := ⟨F.1, F.2.1, fun w h => F.2.2.1 w (List.mem_cons_of_mem _ h), F.2.2.2.1, F.2.2.2.2⟩
  have hl : lv_has ls 3 [(0, .ref (ad 85)), (1, .int p0), (2, .int p1)] := hl
  obtain ⟨RR, hRR⟩ : ∃ q, q = f_X12_lastOf_85 u0 p0 p1 := ⟨_, rfl⟩
  have L30 : ∀ (z0 : Int32) (z1 : Int32) (z2 : Int32) (H : Heap) (locs : List Loc) (ls : Array Slot), (3 : Int) ≤ z0.toInt ∧ z0.toInt ≤ 23 → (0 : Int) ≤ z2.toInt ∧ z2.toInt ≤ 1 → RR = (K_X12_lastOf_85_30 u0 p0 p1 z0 z1 z2) → va_P (dC, dI) vwCl (ac_w ad cA (TT nF) u0) H → va_D A (ac_w ad cA (TT nF) u0) → va_S A s.heap H locs → lv_has ls 3 [] → W p l e (ac_rm 2) s m [.ref (ad 85), .int p0, .int p1].toArray below meth c H locs 0 0 (MQ below (va_Qi (fun (r : Int32) (u : ac_U) => u = u0 ∧ (r.toInt ≤ 1000) ∧ f_X12_lastOf_85 u0 p0 p1 = r) (ac_B (dC, dI) vwCl (ac_ty cA) ad cA (TT nF) A) A) [.ref (ad 85), .int p0, .int p1].toArray s 0 0 A) (F0 m 30 ls [.int z2, .int z1, .int z0]) := by
    intro z0 z1 z2 H locs ls f0 f1 hC hP hD hS hl
    unfold K_X12_lastOf_85_30 at hC
    refine a_isubUX F dX12_lastOf_30 (fun v1 yv1 => ?_)
    have hC := vl_eq hC yv1
    refine a_Si F hml hl.1 hA hP hD hS (As := [.int z0, .int v1]) (x_X12_lesser l dC dI ad cA nF _ z0 v1 hR (by omega)) (cs_RX12_295 (d := 1) F.2.2.1 (by decide)) rfl rfl (Nat.le_of_ble_eq_true rfl) dX12_lastOf_31 ⟨Nat.le_refl 0, Nat.le_refl 0⟩ (fun r2 uN2 H locs hq hP hD hS => ?_)
    obtain ⟨hu2, gr2, hz2⟩ := hq
    rw [hu2] at hP hD
    have hC := vl_eq hC hz2.symm
    exact a_reti F hr hlocks hP hD hS dX12_lastOf_34 ⟨rfl, (by omega : r2.toInt ≤ 1000), hRR.symm.trans hC⟩
  have hC : RR = f_X12_lastOf_85 u0 p0 p1 := hRR
  unfold f_X12_lastOf_85 at hC
  refine lv_aload_n F.1 F.2.1 dX12_lastOf_0 rfl (lv_at hl 0 rfl) ?_
  refine a_getr F inX12 hP 85 6 tc_85 rfl rfl (by decide) q1477 (fun _ h9 => h9) dX12_lastOf_1 ?_
  refine a_ic F (0 : Int32) dX12_lastOf_4 (by decide) ?_
  have g3 : (4 : Int) ≤ (u0.1 87 0).toInt ∧ (u0.1 87 0).toInt ≤ 24 := hR 87 0
  refine a_ialdK F hP 87 0 tc_87 rfl rfl (i_in ic_0 (by omega)) (v := (u0.1 87 0)) rfl dX12_lastOf_5 ?_
  refine a_ic F (1 : Int32) dX12_lastOf_6 (by decide) ?_
  refine a_isubX F dX12_lastOf_7 rfl ic_1 (by omega) (fun v4 hv4 yv4 => ?_)
  have hC := vl_eq hC yv4
  refine lv_aload_n F.1 F.2.1 dX12_lastOf_8 rfl (lv_at hl 0 rfl) ?_
  refine a_getr F inX12 hP 85 6 tc_85 rfl rfl (by decide) q1477 (fun _ h9 => h9) dX12_lastOf_9 ?_
  refine a_bp F (58 : Int32) dX12_lastOf_12 (by decide) ?_
  refine lv_iload_n F.1 F.2.1 dX12_lastOf_14 rfl (lv_at hl 1 rfl) ?_
  refine a_iaddX F dX12_lastOf_15 ic_58 rfl (by omega) (fun v5 hv5 yv5 => ?_)
  have hC := vl_eq hC yv5
  refine a_iald F hP 87 tc_87 rfl (i_in rfl (by omega)) dX12_lastOf_16 (fun v6 ev6 => ?_)
  have hC := vl_eq hC ev6.symm
  refine lv_iload_n F.1 F.2.1 dX12_lastOf_17 rfl (lv_at hl 2 rfl) ?_
  refine a_ic F (0 : Int32) dX12_lastOf_18 (by decide) ?_
  refine a_Si F hml hl.1 hA hP hD hS (As := [.int p1, .int (0 : Int32)]) (x_X12_bitOf l dC dI ad cA nF _ p1 (0 : Int32) hR) (cs_RX12_223 (d := 1) F.2.2.1 (by decide)) rfl rfl (Nat.le_of_ble_eq_true rfl) dX12_lastOf_19 ⟨Nat.le_refl 0, Nat.le_refl 0⟩ (fun r7 uN7 H locs hq hP hD hS => ?_)
  obtain ⟨hu7, gr7, hz7⟩ := hq
  rw [hu7] at hP hD
  have hC := vl_eq hC hz7.symm
  refine z_eq F 29 dX12_lastOf_22 (by decide) rfl (fun c8 => ?_) (fun c8 => ?_)
  · have hC := hC.trans (if_pos c8)
    refine a_ic F (0 : Int32) dX12_lastOf_29 (by decide) ?_
    exact L30 v4 v6 (0 : Int32) _ _ _ (by omega) (by decide) hC hP hD hS (lv_sub hl [] rfl)
  · have hC := hC.trans (if_neg (by omega))
    refine a_ic F (1 : Int32) dX12_lastOf_25 (by decide) ?_
    refine lv_goto (tgt := 30) F.1 F.2.1 dX12_lastOf_26 (by decide) ?_
    exact L30 v4 v6 (1 : Int32) _ _ _ (by omega) (by decide) hC hP hD hS (lv_sub hl [] rfl)
def K_X12_dueOf_85_42 (u0 : ac_U) (p0 : Int32) (p1 : Int32) (z0 : Int32) (z1 : Int32) : Int32 := (vl (z0 + z1) (fun (v1 : Int32) => v1))
def f_X12_dueOf_85 (u0 : ac_U) (p0 : Int32) (p1 : Int32) : Int32 := (vl ((124 : Int32) + p0) (fun (v2 : Int32) => (vl (u0.1 87 v2.toNatClampNeg) (fun (v3 : Int32) => (vl (v3 - (1 : Int32)) (fun (v4 : Int32) => (vl (v4 / (u0.1 87 0)) (fun (v6 : Int32) => (vl (v4 - v4 / (u0.1 87 0) * (u0.1 87 0)) (fun (v7 : Int32) => (vl (f_X12_lastOf_85 u0 p0 p1) (fun (r8 : Int32) => (if r8.toInt < v7.toInt then (K_X12_dueOf_85_42 u0 p0 p1 v6 (1 : Int32)) else (K_X12_dueOf_85_42 u0 p0 p1 v6 (0 : Int32)))))))))))))))
set_option maxHeartbeats 600000 in
set_option maxRecDepth 100000 in
theorem x_X12_dueOf_85 (l : Launch) (dC : Nat → ClassId) (dI : Nat → Nat → Nat) (ad : Nat → Nat) (cA : Nat → ClassId) (nF : Nat) (u0 : ac_U) (p0 : Int32) (p1 : Int32) (hR : ac_R rg u0) (hp0 : (0 : Int) ≤ p0.toInt ∧ p0.toInt ≤ 7) (hp1 : (0 : Int) ≤ p1.toInt ∧ p1.toInt ≤ 7) : ac_Mi l yX12_dueOf (.code yX12_dueOf cX12_dueOf 4 (some .int) :: TB) 3 (dC, dI) vwCl (ac_ty cA) ad cA (TT nF) [.ref (ad 85), .int p0, .int p1] u0 (fun (r : Int32) (u : ac_U) => u = u0 ∧ ((0 : Int) ≤ r.toInt ∧ r.toInt ≤ 121) ∧ f_X12_dueOf_85 u0 p0 p1 = r) := by
  refine ac_Mi.of (cc := cX12_dueOf) (maxL := 4) (ret := (some .int)) (by decide) rfl (Nat.le_of_ble_eq_true rfl) ?_
  intro p e s m below meth c A ls F hml hr hlocks hA hP hD hS hl
  have F : ac_X p s m [.ref (ad 85), .int p0, .int p1].toArray c cX12_dueOf RX12 TB (dC, dI) vwCl (ac_ty cA) := ⟨F.1, F.2.1, fun w h => F.2.2.1 w (List.mem_cons_of_mem _ h), F.2.2.2.1, F.2.2.2.2⟩
  have hl : lv_has ls 4 [(0, .ref (ad 85)), (1, .int p0), (2, .int p1)] := hl
  obtain ⟨RR, hRR⟩ : ∃ q, q = f_X12_dueOf_85 u0 p0 p1 := ⟨_, rfl⟩
  have L42 : ∀ (z0 : Int32) (z1 : Int32) (H : Heap) (locs : List Loc) (ls : Array Slot), (0 : Int) ≤ z0.toInt ∧ z0.toInt ≤ 120 → (0 : Int) ≤ z1.toInt ∧ z1.toInt ≤ 1 → RR = (K_X12_dueOf_85_42 u0 p0 p1 z0 z1) → va_P (dC, dI) vwCl (ac_w ad cA (TT nF) u0) H → va_D A (ac_w ad cA (TT nF) u0) → va_S A s.heap H locs → lv_has ls 4 [] → W p l e (ac_rm 3) s m [.ref (ad 85), .int p0, .int p1].toArray below meth c H locs 0 0 (MQ below (va_Qi (fun (r : Int32) (u : ac_U) => u = u0 ∧ ((0 : Int) ≤ r.toInt ∧ r.toInt ≤ 121) ∧ f_X12_dueOf_85 u0 p0 p1 = r) (ac_B (dC, dI) vwCl (ac_ty cA) ad cA (TT nF) A) A) [.ref (ad 85), .int p0, .int p1].toArray s 0 0 A) (F0 m 42 ls [.int z1, .int z0]) := by
    intro z0 z1 H locs ls f0 f1 hC hP hD hS hl
    unfold K_X12_dueOf_85_42 at hC
    refine a_iaddX F dX12_dueOf_42 rfl rfl (by omega) (fun v1 hv1 yv1 => ?_)
    have hC := vl_eq hC yv1
    exact a_reti F hr hlocks hP hD hS dX12_dueOf_43 ⟨rfl, (by omega : (0 : Int) ≤ v1.toInt ∧ v1.toInt ≤ 121), hRR.symm.trans hC⟩
  have hC : RR = f_X12_dueOf_85 u0 p0 p1 := hRR
  unfold f_X12_dueOf_85 at hC
  refine lv_aload_n F.1 F.2.1 dX12_dueOf_0 rfl (lv_at hl 0 rfl) ?_
  refine a_getr F inX12 hP 85 6 tc_85 rfl rfl (by decide) q1477 (fun _ h9 => h9) dX12_dueOf_1 ?_
  refine a_bp F (124 : Int32) dX12_dueOf_4 (by decide) ?_
  refine lv_iload_n F.1 F.2.1 dX12_dueOf_6 rfl (lv_at hl 1 rfl) ?_
  refine a_iaddX F dX12_dueOf_7 ic_124 rfl (by omega) (fun v2 hv2 yv2 => ?_)
  have hC := vl_eq hC yv2
  refine a_iald F hP 87 tc_87 rfl (i_in rfl (by omega)) dX12_dueOf_8 (fun v3 ev3 => ?_)
  have hC := vl_eq hC ev3.symm
  have hv3 : (0 : Int) ≤ v3.toInt ∧ v3.toInt ≤ 481 := rg_seg_87_124_131 hR ev3 (by omega)
  refine a_ic F (1 : Int32) dX12_dueOf_9 (by decide) ?_
  refine a_isubX F dX12_dueOf_10 rfl ic_1 (by omega) (fun v4 hv4 yv4 => ?_)
  have hC := vl_eq hC yv4
  refine lv_istore_n (lv' := [(3, .int v4), (0, .ref (ad 85)), (1, .int p0), (2, .int p1)]) F.1 F.2.1 dX12_dueOf_11 rfl hl (by decide) rfl (fun ls hl => ?_)
  refine lv_iload_n F.1 F.2.1 dX12_dueOf_12 rfl (lv_at hl 0 rfl) ?_
  refine lv_aload_n F.1 F.2.1 dX12_dueOf_13 rfl (lv_at hl 1 rfl) ?_
  refine a_getr F inX12 hP 85 6 tc_85 rfl rfl (by decide) q1477 (fun _ h9 => h9) dX12_dueOf_14 ?_
  refine a_ic F (0 : Int32) dX12_dueOf_17 (by decide) ?_
  have g5 : (4 : Int) ≤ (u0.1 87 0).toInt ∧ (u0.1 87 0).toInt ≤ 24 := hR 87 0
  refine a_ialdK F hP 87 0 tc_87 rfl rfl (i_in ic_0 (by omega)) (v := (u0.1 87 0)) rfl dX12_dueOf_18 ?_
  refine a_idivX F (kk := 4) dX12_dueOf_19 rfl rfl (by omega) (fun v6 ev6 hv6 yv6 => ?_)
  have hC := vl_eq hC yv6
  refine lv_iload_n F.1 F.2.1 dX12_dueOf_20 rfl (lv_at hl 0 rfl) ?_
  refine lv_aload_n F.1 F.2.1 dX12_dueOf_21 rfl (lv_at hl 1 rfl) ?_
  refine a_getr F inX12 hP 85 6 tc_85 rfl rfl (by decide) q1477 (fun _ h9 => h9) dX12_dueOf_22 ?_
  refine a_ic F (0 : Int32) dX12_dueOf_25 (by decide) ?_
  refine a_ialdK F hP 87 0 tc_87 rfl rfl (i_in ic_0 (by omega)) (v := (u0.1 87 0)) (rfl) dX12_dueOf_26 ?_
  refine a_iremX F dX12_dueOf_27 rfl rfl (by omega) (fun v7 hv7 yv7 => ?_)
  have hC := vl_eq hC yv7
  refine lv_aload_n F.1 F.2.1 dX12_dueOf_28 rfl (lv_at hl 1 rfl) ?_
  refine lv_iload_n F.1 F.2.1 dX12_dueOf_29 rfl (lv_at hl 2 rfl) ?_
  refine lv_iload_n F.1 F.2.1 dX12_dueOf_30 rfl (lv_at hl 3 rfl) ?_
  refine a_Vi F hml hl.1 hA hP hD hS (As := [.int p0, .int p1]) (x_X12_lastOf_85 l dC dI ad cA nF _ p0 p1 hR (by omega) (by omega)) (cs_RX12_298 (d := 2) F.2.2.1 (by decide)) tc_85 rfl rfl rfl rfl (Nat.le_of_ble_eq_true rfl) dX12_dueOf_31 ⟨Nat.le_refl 0, Nat.le_refl 0⟩ (fun r8 uN8 H locs hq hP hD hS => ?_)
  obtain ⟨hu8, gr8, hz8⟩ := hq
  rw [hu8] at hP hD
  have hC := vl_eq hC hz8.symm
  refine b_gt F 41 dX12_dueOf_34 (by decide) rfl rfl (fun c9 => ?_) (fun c9 => ?_)
  · have hC := hC.trans (if_pos c9)
    refine a_ic F (1 : Int32) dX12_dueOf_41 (by decide) ?_
    exact L42 v6 (1 : Int32) _ _ _ (by omega) (by decide) hC hP hD hS (lv_sub hl [] rfl)
  · have hC := hC.trans (if_neg (by omega))
    refine a_ic F (0 : Int32) dX12_dueOf_37 (by decide) ?_
    refine lv_goto (tgt := 42) F.1 F.2.1 dX12_dueOf_38 (by decide) ?_
    exact L42 v6 (0 : Int32) _ _ _ (by omega) (by decide) hC hP hD hS (lv_sub hl [] rfl)
def K_X12_timesOn_85_208 (B6 : Int32 → Int32 → Int32) (u0 : ac_U) (p0 : Int32) (p1 : Int32) (p2 : Int32) (x4 : Int32) (x5 : Int32) : Int32 := (vl (x5 + Int32.ofInt (1)) (fun (v1 : Int32) => (B6 x4 v1)))
def K_X12_timesOn_85_205 (B6 : Int32 → Int32 → Int32) (u0 : ac_U) (p0 : Int32) (p1 : Int32) (p2 : Int32) (x5 : Int32) (z0 : Int32) (z1 : Int32) : Int32 := (vl (z0 + z1) (fun (v2 : Int32) => (K_X12_timesOn_85_208 B6 u0 p0 p1 p2 v2 x5)))
def K_X12_timesOn_85_204 (B6 : Int32 → Int32 → Int32) (u0 : ac_U) (p0 : Int32) (p1 : Int32) (p2 : Int32) (x5 : Int32) (z0 : Int32) : Int32 := (K_X12_timesOn_85_205 B6 u0 p0 p1 p2 x5 z0 (0 : Int32))
def K_X12_timesOn_85_200 (B6 : Int32 → Int32 → Int32) (u0 : ac_U) (p0 : Int32) (p1 : Int32) (p2 : Int32) (x5 : Int32) (z0 : Int32) : Int32 := (K_X12_timesOn_85_205 B6 u0 p0 p1 p2 x5 z0 (1 : Int32))
def K_X12_timesOn_85_6_b (B6 : Int32 → Int32 → Int32) (u0 : ac_U) (p0 : Int32) (p1 : Int32) (p2 : Int32) (x4 : Int32) (x5 : Int32) : Int32 := (if (u0.1 87 123).toInt ≤ x5.toInt then x4 else (vl ((4 : Int32) * x5) (fun (v8 : Int32) => (vl ((148 : Int32) + v8) (fun (v9 : Int32) => (vl (u0.1 87 v9.toNatClampNeg) (fun (v10 : Int32) => (vl (p2 * (u0.1 87 0)) (fun (v12 : Int32) => (vl (v10 - v12) (fun (v13 : Int32) => (vl (u0.1 87 v9.toNatClampNeg) (fun (v14 : Int32) => (vl ((124 : Int32) + p0) (fun (v15 : Int32) => (vl (u0.1 87 v15.toNatClampNeg) (fun (v16 : Int32) => (vl (v16 - (1 : Int32)) (fun (v17 : Int32) => (if v14.toInt < v17.toInt then (K_X12_timesOn_85_208 B6 u0 p0 p1 p2 x4 x5) else (vl ((50 : Int32) + p0) (fun (v19 : Int32) => (vl (u0.1 87 v19.toNatClampNeg) (fun (v20 : Int32) => (if v13.toInt < v20.toInt then (K_X12_timesOn_85_208 B6 u0 p0 p1 p2 x4 x5) else (vl (f_X12_lastOf_85 u0 p0 p1) (fun (r22 : Int32) => (if r22.toInt < v13.toInt then (K_X12_timesOn_85_208 B6 u0 p0 p1 p2 x4 x5) else (vl (v9 + (1 : Int32)) (fun (v24 : Int32) => (vl (u0.1 87 v24.toNatClampNeg) (fun (v25 : Int32) => (vl ((26 : Int32) + p0) (fun (v26 : Int32) => (vl (u0.1 87 v26.toNatClampNeg) (fun (v27 : Int32) => (if v25.toInt ≠ v27.toInt then (K_X12_timesOn_85_208 B6 u0 p0 p1 p2 x4 x5) else (vl (v9 + (2 : Int32)) (fun (v29 : Int32) => (vl (u0.1 87 v29.toNatClampNeg) (fun (v30 : Int32) => (vl ((34 : Int32) + p0) (fun (v31 : Int32) => (vl (u0.1 87 v31.toNatClampNeg) (fun (v32 : Int32) => (if v30.toInt = v32.toInt then (vl (v9 + (3 : Int32)) (fun (v34 : Int32) => (vl (u0.1 87 v34.toNatClampNeg) (fun (v35 : Int32) => (vl ((42 : Int32) + p0) (fun (v36 : Int32) => (vl (u0.1 87 v36.toNatClampNeg) (fun (v37 : Int32) => (if v35.toInt = v37.toInt then (K_X12_timesOn_85_200 B6 u0 p0 p1 p2 x5 x4) else (vl (f_X12_bitOf u0 p1 (2 : Int32)) (fun (r39 : Int32) => (if r39.toInt = 0 then (K_X12_timesOn_85_204 B6 u0 p0 p1 p2 x5 x4) else (vl ((42 : Int32) + p0) (fun (v41 : Int32) => (vl (u0.1 87 v41.toNatClampNeg) (fun (v42 : Int32) => (vl ((8 : Int32) + v42) (fun (v43 : Int32) => (vl (u0.1 87 v43.toNatClampNeg) (fun (v44 : Int32) => (vl (v9 + (3 : Int32)) (fun (v45 : Int32) => (vl (u0.1 87 v45.toNatClampNeg) (fun (v46 : Int32) => (vl (f_X12_bitOf u0 v44 v46) (fun (r47 : Int32) => (if r47.toInt = 0 then (K_X12_timesOn_85_204 B6 u0 p0 p1 p2 x5 x4) else (K_X12_timesOn_85_200 B6 u0 p0 p1 p2 x5 x4)))))))))))))))))))))))))))) else (K_X12_timesOn_85_208 B6 u0 p0 p1 p2 x4 x5)))))))))))))))))))))))))))))))))))))))))))))))
def K_X12_timesOn_85_6 (u0 : ac_U) (p0 : Int32) (p1 : Int32) (p2 : Int32) : Nat → Int32 → Int32 → Int32
  | 0 => fun x4 x5 => 0
  | n + 1 => fun x4 x5 => K_X12_timesOn_85_6_b (K_X12_timesOn_85_6 u0 p0 p1 p2 n) u0 p0 p1 p2 x4 x5
def f_X12_timesOn_85 (u0 : ac_U) (p0 : Int32) (p1 : Int32) (p2 : Int32) : Int32 := (K_X12_timesOn_85_6 u0 p0 p1 p2 82 (0 : Int32) (0 : Int32))
set_option maxHeartbeats 600000 in
set_option maxRecDepth 100000 in
theorem x_X12_timesOn_85 (l : Launch) (dC : Nat → ClassId) (dI : Nat → Nat → Nat) (ad : Nat → Nat) (cA : Nat → ClassId) (nF : Nat) (u0 : ac_U) (p0 : Int32) (p1 : Int32) (p2 : Int32) (hR : ac_R rg u0) (hp0 : (0 : Int) ≤ p0.toInt ∧ p0.toInt ≤ 7) (hp1 : (0 : Int) ≤ p1.toInt ∧ p1.toInt ≤ 7) (hp2 : (0 : Int) ≤ p2.toInt ∧ p2.toInt ≤ 121) : ac_Mi l yX12_timesOn (.code yX12_timesOn cX12_timesOn 8 (some .int) :: TB) 3 (dC, dI) vwCl (ac_ty cA) ad cA (TT nF) [.ref (ad 85), .int p0, .int p1, .int p2] u0 (fun (r : Int32) (u : ac_U) => u = u0 ∧ f_X12_timesOn_85 u0 p0 p1 p2 = r) := by
  refine ac_Mi.of (cc := cX12_timesOn) (maxL := 8) (ret := (some .int)) (by decide) rfl (Nat.le_of_ble_eq_true rfl) ?_
  intro p e s m below meth c A ls F hml hr hlocks hA hP hD hS hl
  have F : ac_X p s m [.ref (ad 85), .int p0, .int p1, .int p2].toArray c cX12_timesOn RX12 TB (dC, dI) vwCl (ac_ty cA) := ⟨F.1, F.2.1, fun w h => F.2.2.1 w (List.mem_cons_of_mem _ h), F.2.2.2.1, F.2.2.2.2⟩
  have hl : lv_has ls 8 [(0, .ref (ad 85)), (1, .int p0), (2, .int p1), (3, .int p2)] := hl
  obtain ⟨RR, hRR⟩ : ∃ q, q = f_X12_timesOn_85 u0 p0 p1 p2 := ⟨_, rfl⟩
  have L6 : ∀ (n6 : Nat) (x4 : Int32) (x5 : Int32) (H : Heap) (locs : List Loc) (ls : Array Slot), 80 - x5.toInt < (n6 : Int) → (0 : Int) ≤ x5.toInt ∧ x5.toInt ≤ 80 → RR = (K_X12_timesOn_85_6 u0 p0 p1 p2 n6 x4 x5) → va_P (dC, dI) vwCl (ac_w ad cA (TT nF) u0) H → va_D A (ac_w ad cA (TT nF) u0) → va_S A s.heap H locs → lv_has ls 8 [(0, .ref (ad 85)), (1, .int p0), (2, .int p1), (3, .int p2), (4, .int x4), (5, .int x5)] → W p l e (ac_rm 3) s m [.ref (ad 85), .int p0, .int p1, .int p2].toArray below meth c H locs 0 0 (MQ below (va_Qi (fun (r : Int32) (u : ac_U) => u = u0 ∧ f_X12_timesOn_85 u0 p0 p1 p2 = r) (ac_B (dC, dI) vwCl (ac_ty cA) ad cA (TT nF) A) A) [.ref (ad 85), .int p0, .int p1, .int p2].toArray s 0 0 A) (F0 m 6 ls []) := by
    intro n6
    induction n6 with
    | zero => intro x4 x5 H locs ls hn6 f0 hC hP hD hS hl; exfalso; omega
    | succ n6 ih6 =>
      intro x4 x5 H locs ls hn6 f0 hC hP hD hS hl
      have hC : RR = K_X12_timesOn_85_6_b (K_X12_timesOn_85_6 u0 p0 p1 p2 n6) u0 p0 p1 p2 x4 x5 := hC
      have L208 : ∀ (x4 : Int32) (x5 : Int32) (H : Heap) (locs : List Loc) (ls : Array Slot), (0 : Int) ≤ x5.toInt ∧ x5.toInt ≤ 79 → (1 : Int) ≤ (u0.1 87 123).toInt ∧ (u0.1 87 123).toInt ≤ 80 → 80 - x5.toInt + 0 < ((n6 : Nat) : Int) + 1 → RR = (K_X12_timesOn_85_208 (K_X12_timesOn_85_6 u0 p0 p1 p2 n6) u0 p0 p1 p2 x4 x5) → va_P (dC, dI) vwCl (ac_w ad cA (TT nF) u0) H → va_D A (ac_w ad cA (TT nF) u0) → va_S A s.heap H locs → lv_has ls 8 [(0, .ref (ad 85)), (1, .int p0), (2, .int p1), (3, .int p2), (4, .int x4), (5, .int x5)] → W p l e (ac_rm 3) s m [.ref (ad 85), .int p0, .int p1, .int p2].toArray below meth c H locs 0 0 (MQ below (va_Qi (fun (r : Int32) (u : ac_U) => u = u0 ∧ f_X12_timesOn_85 u0 p0 p1 p2 = r) (ac_B (dC, dI) vwCl (ac_ty cA) ad cA (TT nF) A) A) [.ref (ad 85), .int p0, .int p1, .int p2].toArray s 0 0 A) (F0 m 208 ls []) := by
        intro x4 x5 H locs ls f0 f1 f2 hC hP hD hS hl
        unfold K_X12_timesOn_85_208 at hC
        refine a_iincX F (k := 5) (fun v1 => [(5, .int v1), (0, .ref (ad 85)), (1, .int p0), (2, .int p1), (3, .int p2), (4, .int x4)]) dX12_timesOn_208 hl rfl rfl (by decide) (by omega) (by decide) (fun _ => rfl) (fun v1 ls hv1 yv1 hl => ?_)
        have hC := vl_eq hC yv1
        refine lv_goto (tgt := 6) F.1 F.2.1 dX12_timesOn_211 (by decide) ?_
        exact ih6 x4 v1 _ _ _ (by omega) (by omega) hC hP hD hS (lv_sub hl [1, 2, 3, 4, 5, 0] rfl)
      have L205 : ∀ (x5 : Int32) (z0 : Int32) (z1 : Int32) (H : Heap) (locs : List Loc) (ls : Array Slot), (0 : Int) ≤ x5.toInt ∧ x5.toInt ≤ 79 → (0 : Int) ≤ z1.toInt ∧ z1.toInt ≤ 1 → (1 : Int) ≤ (u0.1 87 123).toInt ∧ (u0.1 87 123).toInt ≤ 80 → 80 - x5.toInt + 0 < ((n6 : Nat) : Int) + 1 → RR = (K_X12_timesOn_85_205 (K_X12_timesOn_85_6 u0 p0 p1 p2 n6) u0 p0 p1 p2 x5 z0 z1) → va_P (dC, dI) vwCl (ac_w ad cA (TT nF) u0) H → va_D A (ac_w ad cA (TT nF) u0) → va_S A s.heap H locs → lv_has ls 8 [(0, .ref (ad 85)), (1, .int p0), (2, .int p1), (3, .int p2), (5, .int x5)] → W p l e (ac_rm 3) s m [.ref (ad 85), .int p0, .int p1, .int p2].toArray below meth c H locs 0 0 (MQ below (va_Qi (fun (r : Int32) (u : ac_U) => u = u0 ∧ f_X12_timesOn_85 u0 p0 p1 p2 = r) (ac_B (dC, dI) vwCl (ac_ty cA) ad cA (TT nF) A) A) [.ref (ad 85), .int p0, .int p1, .int p2].toArray s 0 0 A) (F0 m 205 ls [.int z1, .int z0]) := by
        intro x5 z0 z1 H locs ls f0 f1 f2 f3 hC hP hD hS hl
        unfold K_X12_timesOn_85_205 at hC
        refine a_iaddUX F dX12_timesOn_205 (fun v2 yv2 => ?_)
        have hC := vl_eq hC yv2
        refine lv_istore (lv' := [(4, .int v2), (0, .ref (ad 85)), (1, .int p0), (2, .int p1), (3, .int p2), (5, .int x5)]) F.1 F.2.1 dX12_timesOn_206 hl (by decide) rfl (fun ls hl => ?_)
        have g3 : (0 : Int) ≤ (u0.1 87 123).toInt ∧ (u0.1 87 123).toInt ≤ 80 := hR 87 123
        exact L208 v2 x5 _ _ _ (by omega) (by omega : (1 : Int) ≤ (u0.1 87 123).toInt ∧ (u0.1 87 123).toInt ≤ 80) (by omega) hC hP hD hS (lv_sub hl [1, 2, 3, 4, 0, 5] rfl)
      have L204 : ∀ (x5 : Int32) (z0 : Int32) (H : Heap) (locs : List Loc) (ls : Array Slot), (0 : Int) ≤ x5.toInt ∧ x5.toInt ≤ 79 → (1 : Int) ≤ (u0.1 87 123).toInt ∧ (u0.1 87 123).toInt ≤ 80 → 80 - x5.toInt + 0 < ((n6 : Nat) : Int) + 1 → RR = (K_X12_timesOn_85_204 (K_X12_timesOn_85_6 u0 p0 p1 p2 n6) u0 p0 p1 p2 x5 z0) → va_P (dC, dI) vwCl (ac_w ad cA (TT nF) u0) H → va_D A (ac_w ad cA (TT nF) u0) → va_S A s.heap H locs → lv_has ls 8 [(0, .ref (ad 85)), (1, .int p0), (2, .int p1), (3, .int p2), (5, .int x5)] → W p l e (ac_rm 3) s m [.ref (ad 85), .int p0, .int p1, .int p2].toArray below meth c H locs 0 0 (MQ below (va_Qi (fun (r : Int32) (u : ac_U) => u = u0 ∧ f_X12_timesOn_85 u0 p0 p1 p2 = r) (ac_B (dC, dI) vwCl (ac_ty cA) ad cA (TT nF) A) A) [.ref (ad 85), .int p0, .int p1, .int p2].toArray s 0 0 A) (F0 m 204 ls [.int z0]) := by
        intro x5 z0 H locs ls f0 f1 f2 hC hP hD hS hl
        unfold K_X12_timesOn_85_204 at hC
        refine a_ic F (0 : Int32) dX12_timesOn_204 (by decide) ?_
        have g4 : (0 : Int) ≤ (u0.1 87 123).toInt ∧ (u0.1 87 123).toInt ≤ 80 := hR 87 123
        exact L205 x5 z0 (0 : Int32) _ _ _ (by omega) (by decide) (by omega : (1 : Int) ≤ (u0.1 87 123).toInt ∧ (u0.1 87 123).toInt ≤ 80) (by omega) hC hP hD hS (lv_sub hl [0, 1, 2, 3, 4] rfl)
      have L200 : ∀ (x5 : Int32) (z0 : Int32) (H : Heap) (locs : List Loc) (ls : Array Slot), (0 : Int) ≤ x5.toInt ∧ x5.toInt ≤ 79 → (1 : Int) ≤ (u0.1 87 123).toInt ∧ (u0.1 87 123).toInt ≤ 80 → 80 - x5.toInt + 0 < ((n6 : Nat) : Int) + 1 → RR = (K_X12_timesOn_85_200 (K_X12_timesOn_85_6 u0 p0 p1 p2 n6) u0 p0 p1 p2 x5 z0) → va_P (dC, dI) vwCl (ac_w ad cA (TT nF) u0) H → va_D A (ac_w ad cA (TT nF) u0) → va_S A s.heap H locs → lv_has ls 8 [(0, .ref (ad 85)), (1, .int p0), (2, .int p1), (3, .int p2), (5, .int x5)] → W p l e (ac_rm 3) s m [.ref (ad 85), .int p0, .int p1, .int p2].toArray below meth c H locs 0 0 (MQ below (va_Qi (fun (r : Int32) (u : ac_U) => u = u0 ∧ f_X12_timesOn_85 u0 p0 p1 p2 = r) (ac_B (dC, dI) vwCl (ac_ty cA) ad cA (TT nF) A) A) [.ref (ad 85), .int p0, .int p1, .int p2].toArray s 0 0 A) (F0 m 200 ls [.int z0]) := by
        intro x5 z0 H locs ls f0 f1 f2 hC hP hD hS hl
        unfold K_X12_timesOn_85_200 at hC
        refine a_ic F (1 : Int32) dX12_timesOn_200 (by decide) ?_
        refine lv_goto (tgt := 205) F.1 F.2.1 dX12_timesOn_201 (by decide) ?_
        have g5 : (0 : Int) ≤ (u0.1 87 123).toInt ∧ (u0.1 87 123).toInt ≤ 80 := hR 87 123
        exact L205 x5 z0 (1 : Int32) _ _ _ (by omega) (by decide) (by omega : (1 : Int) ≤ (u0.1 87 123).toInt ∧ (u0.1 87 123).toInt ≤ 80) (by omega) hC hP hD hS (lv_sub hl [0, 1, 2, 3, 4] rfl)
      unfold K_X12_timesOn_85_6_b at hC
      refine lv_iload F.1 F.2.1 dX12_timesOn_6 (lv_at hl 5 rfl) ?_
      refine lv_aload_n F.1 F.2.1 dX12_timesOn_8 rfl (lv_at hl 0 rfl) ?_
      refine a_getr F inX12 hP 85 6 tc_85 rfl rfl (by decide) q1477 (fun _ h9 => h9) dX12_timesOn_9 ?_
      refine a_bp F (123 : Int32) dX12_timesOn_12 (by decide) ?_
      have g6 : (0 : Int) ≤ (u0.1 87 123).toInt ∧ (u0.1 87 123).toInt ≤ 80 := hR 87 123
      refine a_ialdK F hP 87 123 tc_87 rfl rfl (i_in ic_123 (by omega)) (v := (u0.1 87 123)) rfl dX12_timesOn_14 ?_
      refine b_ge F 214 dX12_timesOn_15 (by decide) rfl rfl (fun c7 => ?_) (fun c7 => ?_)
      · have hC := hC.trans (if_pos c7)
        refine lv_iload F.1 F.2.1 dX12_timesOn_214 (lv_at hl 4 rfl) ?_
        exact a_reti F hr hlocks hP hD hS dX12_timesOn_216 ⟨rfl, hRR.symm.trans hC⟩
      · have hC := hC.trans (if_neg (by omega))
        refine a_sp F (148 : Int32) dX12_timesOn_18 (by decide) ?_
        refine a_ic F (4 : Int32) dX12_timesOn_21 (by decide) ?_
        refine lv_iload F.1 F.2.1 dX12_timesOn_22 (lv_at hl 5 rfl) ?_
        refine a_imulX F dX12_timesOn_24 ic_4 rfl (by omega) (fun v8 hv8 yv8 => ?_)
        have hC := vl_eq hC yv8
        refine a_iaddX F dX12_timesOn_25 ic_148 rfl (by omega) (fun v9 hv9 yv9 => ?_)
        have hC := vl_eq hC yv9
        refine lv_istore (lv' := [(6, .int v9), (0, .ref (ad 85)), (1, .int p0), (2, .int p1), (3, .int p2), (4, .int x4), (5, .int x5)]) F.1 F.2.1 dX12_timesOn_26 hl (by decide) rfl (fun ls hl => ?_)
        refine lv_aload_n F.1 F.2.1 dX12_timesOn_28 rfl (lv_at hl 1 rfl) ?_
        refine a_getr F inX12 hP 85 6 tc_85 rfl rfl (by decide) q1477 (fun _ h9 => h9) dX12_timesOn_29 ?_
        refine lv_iload F.1 F.2.1 dX12_timesOn_32 (lv_at hl 0 rfl) ?_
        refine a_iald F hP 87 tc_87 rfl (i_in rfl (by omega)) dX12_timesOn_34 (fun v10 ev10 => ?_)
        have hC := vl_eq hC ev10.symm
        refine lv_iload_n F.1 F.2.1 dX12_timesOn_35 rfl (lv_at hl 4 rfl) ?_
        refine lv_aload_n F.1 F.2.1 dX12_timesOn_36 rfl (lv_at hl 1 rfl) ?_
        refine a_getr F inX12 hP 85 6 tc_85 rfl rfl (by decide) q1477 (fun _ h9 => h9) dX12_timesOn_37 ?_
        refine a_ic F (0 : Int32) dX12_timesOn_40 (by decide) ?_
        have g11 : (4 : Int) ≤ (u0.1 87 0).toInt ∧ (u0.1 87 0).toInt ≤ 24 := hR 87 0
        refine a_ialdK F hP 87 0 tc_87 rfl rfl (i_in ic_0 (by omega)) (v := (u0.1 87 0)) rfl dX12_timesOn_41 ?_
        have kv12 := i_mulb (x := p2.toInt) (y := (u0.1 87 0).toInt) (a0 := 0) (a1 := 121) (b0 := 4) (b1 := 24) (by omega) (by omega) (by omega)
        refine a_imulX F dX12_timesOn_42 rfl rfl (by omega) (fun v12 hv12 yv12 => ?_)
        have hC := vl_eq hC yv12
        refine a_isubUX F dX12_timesOn_43 (fun v13 yv13 => ?_)
        have hC := vl_eq hC yv13
        refine lv_istore (lv' := [(7, .int v13), (6, .int v9), (0, .ref (ad 85)), (1, .int p0), (2, .int p1), (3, .int p2), (4, .int x4), (5, .int x5)]) F.1 F.2.1 dX12_timesOn_44 hl (by decide) rfl (fun ls hl => ?_)
        refine lv_aload_n F.1 F.2.1 dX12_timesOn_46 rfl (lv_at hl 2 rfl) ?_
        refine a_getr F inX12 hP 85 6 tc_85 rfl rfl (by decide) q1477 (fun _ h9 => h9) dX12_timesOn_47 ?_
        refine lv_iload F.1 F.2.1 dX12_timesOn_50 (lv_at hl 1 rfl) ?_
        refine a_iald F hP 87 tc_87 rfl (i_in rfl (by omega)) dX12_timesOn_52 (fun v14 ev14 => ?_)
        have hC := vl_eq hC ev14.symm
        refine lv_aload_n F.1 F.2.1 dX12_timesOn_53 rfl (lv_at hl 2 rfl) ?_
        refine a_getr F inX12 hP 85 6 tc_85 rfl rfl (by decide) q1477 (fun _ h9 => h9) dX12_timesOn_54 ?_
        refine a_bp F (124 : Int32) dX12_timesOn_57 (by decide) ?_
        refine lv_iload_n F.1 F.2.1 dX12_timesOn_59 rfl (lv_at hl 3 rfl) ?_
        refine a_iaddX F dX12_timesOn_60 ic_124 rfl (by omega) (fun v15 hv15 yv15 => ?_)
        have hC := vl_eq hC yv15
        refine a_iald F hP 87 tc_87 rfl (i_in rfl (by omega)) dX12_timesOn_61 (fun v16 ev16 => ?_)
        have hC := vl_eq hC ev16.symm
        have hv16 : (0 : Int) ≤ v16.toInt ∧ v16.toInt ≤ 481 := rg_seg_87_124_131 hR ev16 (by omega)
        refine a_ic F (1 : Int32) dX12_timesOn_62 (by decide) ?_
        refine a_isubX F dX12_timesOn_63 rfl ic_1 (by omega) (fun v17 hv17 yv17 => ?_)
        have hC := vl_eq hC yv17
        refine b_lt F 208 dX12_timesOn_64 (by decide) rfl rfl (fun c18 => ?_) (fun c18 => ?_)
        · have hC := hC.trans (if_pos c18)
          exact L208 x4 x5 _ _ _ (by omega) (by omega : (1 : Int) ≤ (u0.1 87 123).toInt ∧ (u0.1 87 123).toInt ≤ 80) (by omega) hC hP hD hS (lv_sub hl [2, 3, 4, 5, 6, 7] rfl)
        · have hC := hC.trans (if_neg (by omega))
          refine lv_iload F.1 F.2.1 dX12_timesOn_67 (lv_at hl 0 rfl) ?_
          refine lv_aload_n F.1 F.2.1 dX12_timesOn_69 rfl (lv_at hl 2 rfl) ?_
          refine a_getr F inX12 hP 85 6 tc_85 rfl rfl (by decide) q1477 (fun _ h9 => h9) dX12_timesOn_70 ?_
          refine a_bp F (50 : Int32) dX12_timesOn_73 (by decide) ?_
          refine lv_iload_n F.1 F.2.1 dX12_timesOn_75 rfl (lv_at hl 3 rfl) ?_
          refine a_iaddX F dX12_timesOn_76 ic_50 rfl (by omega) (fun v19 hv19 yv19 => ?_)
          have hC := vl_eq hC yv19
          refine a_iald F hP 87 tc_87 rfl (i_in rfl (by omega)) dX12_timesOn_77 (fun v20 ev20 => ?_)
          have hC := vl_eq hC ev20.symm
          refine b_lt F 208 dX12_timesOn_78 (by decide) rfl rfl (fun c21 => ?_) (fun c21 => ?_)
          · have hC := hC.trans (if_pos c21)
            exact L208 x4 x5 _ _ _ (by omega) (by omega : (1 : Int) ≤ (u0.1 87 123).toInt ∧ (u0.1 87 123).toInt ≤ 80) (by omega) hC hP hD hS (lv_sub hl [2, 3, 4, 5, 6, 7] rfl)
          · have hC := hC.trans (if_neg (by omega))
            refine lv_iload F.1 F.2.1 dX12_timesOn_81 (lv_at hl 0 rfl) ?_
            refine lv_aload_n F.1 F.2.1 dX12_timesOn_83 rfl (lv_at hl 2 rfl) ?_
            refine lv_iload_n F.1 F.2.1 dX12_timesOn_84 rfl (lv_at hl 3 rfl) ?_
            refine lv_iload_n F.1 F.2.1 dX12_timesOn_85 rfl (lv_at hl 4 rfl) ?_
            refine a_Vi F hml hl.1 hA hP hD hS (As := [.int p0, .int p1]) (x_X12_lastOf_85 l dC dI ad cA nF _ p0 p1 hR (by omega) (by omega)) (cs_RX12_298 (d := 2) F.2.2.1 (by decide)) tc_85 rfl rfl rfl rfl (Nat.le_of_ble_eq_true rfl) dX12_timesOn_86 ⟨Nat.le_refl 0, Nat.le_refl 0⟩ (fun r22 uN22 H locs hq hP hD hS => ?_)
            obtain ⟨hu22, gr22, hz22⟩ := hq
            rw [hu22] at hP hD
            have hC := vl_eq hC hz22.symm
            refine b_gt F 208 dX12_timesOn_89 (by decide) rfl rfl (fun c23 => ?_) (fun c23 => ?_)
            · have hC := hC.trans (if_pos c23)
              exact L208 x4 x5 _ _ _ (by omega) (by omega : (1 : Int) ≤ (u0.1 87 123).toInt ∧ (u0.1 87 123).toInt ≤ 80) (by omega) hC hP hD hS (lv_sub hl [2, 3, 4, 5, 6, 7] rfl)
            · have hC := hC.trans (if_neg (by omega))
              refine lv_aload_n F.1 F.2.1 dX12_timesOn_92 rfl (lv_at hl 2 rfl) ?_
              refine a_getr F inX12 hP 85 6 tc_85 rfl rfl (by decide) q1477 (fun _ h9 => h9) dX12_timesOn_93 ?_
              refine lv_iload F.1 F.2.1 dX12_timesOn_96 (lv_at hl 1 rfl) ?_
              refine a_ic F (1 : Int32) dX12_timesOn_98 (by decide) ?_
              refine a_iaddX F dX12_timesOn_99 rfl ic_1 (by omega) (fun v24 hv24 yv24 => ?_)
              have hC := vl_eq hC yv24
              refine a_iald F hP 87 tc_87 rfl (i_in rfl (by omega)) dX12_timesOn_100 (fun v25 ev25 => ?_)
              have hC := vl_eq hC ev25.symm
              refine lv_aload_n F.1 F.2.1 dX12_timesOn_101 rfl (lv_at hl 2 rfl) ?_
              refine a_getr F inX12 hP 85 6 tc_85 rfl rfl (by decide) q1477 (fun _ h9 => h9) dX12_timesOn_102 ?_
              refine a_bp F (26 : Int32) dX12_timesOn_105 (by decide) ?_
              refine lv_iload_n F.1 F.2.1 dX12_timesOn_107 rfl (lv_at hl 3 rfl) ?_
              refine a_iaddX F dX12_timesOn_108 ic_26 rfl (by omega) (fun v26 hv26 yv26 => ?_)
              have hC := vl_eq hC yv26
              refine a_iald F hP 87 tc_87 rfl (i_in rfl (by omega)) dX12_timesOn_109 (fun v27 ev27 => ?_)
              have hC := vl_eq hC ev27.symm
              refine b_ne F 208 dX12_timesOn_110 (by decide) rfl rfl (fun c28 => ?_) (fun c28 => ?_)
              · have hC := hC.trans (if_pos c28)
                exact L208 x4 x5 _ _ _ (by omega) (by omega : (1 : Int) ≤ (u0.1 87 123).toInt ∧ (u0.1 87 123).toInt ≤ 80) (by omega) hC hP hD hS (lv_sub hl [2, 3, 4, 5, 6, 7] rfl)
              · have hC := hC.trans (if_neg (by omega))
                refine lv_aload_n F.1 F.2.1 dX12_timesOn_113 rfl (lv_at hl 2 rfl) ?_
                refine a_getr F inX12 hP 85 6 tc_85 rfl rfl (by decide) q1477 (fun _ h9 => h9) dX12_timesOn_114 ?_
                refine lv_iload F.1 F.2.1 dX12_timesOn_117 (lv_at hl 1 rfl) ?_
                refine a_ic F (2 : Int32) dX12_timesOn_119 (by decide) ?_
                refine a_iaddX F dX12_timesOn_120 rfl ic_2 (by omega) (fun v29 hv29 yv29 => ?_)
                have hC := vl_eq hC yv29
                refine a_iald F hP 87 tc_87 rfl (i_in rfl (by omega)) dX12_timesOn_121 (fun v30 ev30 => ?_)
                have hC := vl_eq hC ev30.symm
                refine lv_aload_n F.1 F.2.1 dX12_timesOn_122 rfl (lv_at hl 2 rfl) ?_
                refine a_getr F inX12 hP 85 6 tc_85 rfl rfl (by decide) q1477 (fun _ h9 => h9) dX12_timesOn_123 ?_
                refine a_bp F (34 : Int32) dX12_timesOn_126 (by decide) ?_
                refine lv_iload_n F.1 F.2.1 dX12_timesOn_128 rfl (lv_at hl 3 rfl) ?_
                refine a_iaddX F dX12_timesOn_129 ic_34 rfl (by omega) (fun v31 hv31 yv31 => ?_)
                have hC := vl_eq hC yv31
                refine a_iald F hP 87 tc_87 rfl (i_in rfl (by omega)) dX12_timesOn_130 (fun v32 ev32 => ?_)
                have hC := vl_eq hC ev32.symm
                refine b_eq F 137 dX12_timesOn_131 (by decide) rfl rfl (fun c33 => ?_) (fun c33 => ?_)
                · have hC := hC.trans (if_pos c33)
                  refine lv_iload F.1 F.2.1 dX12_timesOn_137 (lv_at hl 6 rfl) ?_
                  refine lv_aload_n F.1 F.2.1 dX12_timesOn_139 rfl (lv_at hl 2 rfl) ?_
                  refine a_getr F inX12 hP 85 6 tc_85 rfl rfl (by decide) q1477 (fun _ h9 => h9) dX12_timesOn_140 ?_
                  refine lv_iload F.1 F.2.1 dX12_timesOn_143 (lv_at hl 1 rfl) ?_
                  refine a_ic F (3 : Int32) dX12_timesOn_145 (by decide) ?_
                  refine a_iaddX F dX12_timesOn_146 rfl ic_3 (by omega) (fun v34 hv34 yv34 => ?_)
                  have hC := vl_eq hC yv34
                  refine a_iald F hP 87 tc_87 rfl (i_in rfl (by omega)) dX12_timesOn_147 (fun v35 ev35 => ?_)
                  have hC := vl_eq hC ev35.symm
                  refine lv_aload_n F.1 F.2.1 dX12_timesOn_148 rfl (lv_at hl 2 rfl) ?_
                  refine a_getr F inX12 hP 85 6 tc_85 rfl rfl (by decide) q1477 (fun _ h9 => h9) dX12_timesOn_149 ?_
                  refine a_bp F (42 : Int32) dX12_timesOn_152 (by decide) ?_
                  refine lv_iload_n F.1 F.2.1 dX12_timesOn_154 rfl (lv_at hl 3 rfl) ?_
                  refine a_iaddX F dX12_timesOn_155 ic_42 rfl (by omega) (fun v36 hv36 yv36 => ?_)
                  have hC := vl_eq hC yv36
                  refine a_iald F hP 87 tc_87 rfl (i_in rfl (by omega)) dX12_timesOn_156 (fun v37 ev37 => ?_)
                  have hC := vl_eq hC ev37.symm
                  have hv37 : (0 : Int) ≤ v37.toInt ∧ v37.toInt ≤ 7 := rg_seg_87_42_49 hR ev37 (by omega)
                  refine b_eq F 200 dX12_timesOn_157 (by decide) rfl rfl (fun c38 => ?_) (fun c38 => ?_)
                  · have hC := hC.trans (if_pos c38)
                    exact L200 x5 x4 _ _ _ (by omega) (by omega : (1 : Int) ≤ (u0.1 87 123).toInt ∧ (u0.1 87 123).toInt ≤ 80) (by omega) hC hP hD hS (lv_sub hl [2, 3, 4, 5, 7] rfl)
                  · have hC := hC.trans (if_neg (by omega))
                    refine lv_iload_n F.1 F.2.1 dX12_timesOn_160 rfl (lv_at hl 4 rfl) ?_
                    refine a_ic F (2 : Int32) dX12_timesOn_161 (by decide) ?_
                    refine a_Si F hml hl.1 hA hP hD hS (As := [.int p1, .int (2 : Int32)]) (x_X12_bitOf l dC dI ad cA nF _ p1 (2 : Int32) hR) (cs_RX12_223 (d := 1) F.2.2.1 (by decide)) rfl rfl (Nat.le_of_ble_eq_true rfl) dX12_timesOn_162 ⟨Nat.le_refl 0, Nat.le_refl 0⟩ (fun r39 uN39 H locs hq hP hD hS => ?_)
                    obtain ⟨hu39, gr39, hz39⟩ := hq
                    rw [hu39] at hP hD
                    have hC := vl_eq hC hz39.symm
                    refine z_eq F 204 dX12_timesOn_165 (by decide) rfl (fun c40 => ?_) (fun c40 => ?_)
                    · have hC := hC.trans (if_pos c40)
                      exact L204 x5 x4 _ _ _ (by omega) (by omega : (1 : Int) ≤ (u0.1 87 123).toInt ∧ (u0.1 87 123).toInt ≤ 80) (by omega) hC hP hD hS (lv_sub hl [2, 3, 4, 5, 7] rfl)
                    · have hC := hC.trans (if_neg (by omega))
                      refine lv_aload_n F.1 F.2.1 dX12_timesOn_168 rfl (lv_at hl 2 rfl) ?_
                      refine a_getr F inX12 hP 85 6 tc_85 rfl rfl (by decide) q1477 (fun _ h9 => h9) dX12_timesOn_169 ?_
                      refine a_bp F (8 : Int32) dX12_timesOn_172 (by decide) ?_
                      refine lv_aload_n F.1 F.2.1 dX12_timesOn_174 rfl (lv_at hl 2 rfl) ?_
                      refine a_getr F inX12 hP 85 6 tc_85 rfl rfl (by decide) q1477 (fun _ h9 => h9) dX12_timesOn_175 ?_
                      refine a_bp F (42 : Int32) dX12_timesOn_178 (by decide) ?_
                      refine lv_iload_n F.1 F.2.1 dX12_timesOn_180 rfl (lv_at hl 3 rfl) ?_
                      refine a_iaddX F dX12_timesOn_181 ic_42 rfl (by omega) (fun v41 hv41 yv41 => ?_)
                      have hC := vl_eq hC yv41
                      refine a_iald F hP 87 tc_87 rfl (i_in rfl (by omega)) dX12_timesOn_182 (fun v42 ev42 => ?_)
                      have hC := vl_eq hC ev42.symm
                      have hv42 : (0 : Int) ≤ v42.toInt ∧ v42.toInt ≤ 7 := rg_seg_87_42_49 hR ev42 (by omega)
                      refine a_iaddX F dX12_timesOn_183 ic_8 rfl (by omega) (fun v43 hv43 yv43 => ?_)
                      have hC := vl_eq hC yv43
                      refine a_iald F hP 87 tc_87 rfl (i_in rfl (by omega)) dX12_timesOn_184 (fun v44 ev44 => ?_)
                      have hC := vl_eq hC ev44.symm
                      refine lv_aload_n F.1 F.2.1 dX12_timesOn_185 rfl (lv_at hl 2 rfl) ?_
                      refine a_getr F inX12 hP 85 6 tc_85 rfl rfl (by decide) q1477 (fun _ h9 => h9) dX12_timesOn_186 ?_
                      refine lv_iload F.1 F.2.1 dX12_timesOn_189 (lv_at hl 1 rfl) ?_
                      refine a_ic F (3 : Int32) dX12_timesOn_191 (by decide) ?_
                      refine a_iaddX F dX12_timesOn_192 rfl ic_3 (by omega) (fun v45 hv45 yv45 => ?_)
                      have hC := vl_eq hC yv45
                      refine a_iald F hP 87 tc_87 rfl (i_in rfl (by omega)) dX12_timesOn_193 (fun v46 ev46 => ?_)
                      have hC := vl_eq hC ev46.symm
                      refine a_Si F hml hl.1 hA hP hD hS (As := [.int v44, .int v46]) (x_X12_bitOf l dC dI ad cA nF _ v44 v46 hR) (cs_RX12_223 (d := 1) F.2.2.1 (by decide)) rfl rfl (Nat.le_of_ble_eq_true rfl) dX12_timesOn_194 ⟨Nat.le_refl 0, Nat.le_refl 0⟩ (fun r47 uN47 H locs hq hP hD hS => ?_)
                      obtain ⟨hu47, gr47, hz47⟩ := hq
                      rw [hu47] at hP hD
                      have hC := vl_eq hC hz47.symm
                      refine z_eq F 204 dX12_timesOn_197 (by decide) rfl (fun c48 => ?_) (fun c48 => ?_)
                      · have hC := hC.trans (if_pos c48)
                        exact L204 x5 x4 _ _ _ (by omega) (by omega : (1 : Int) ≤ (u0.1 87 123).toInt ∧ (u0.1 87 123).toInt ≤ 80) (by omega) hC hP hD hS (lv_sub hl [2, 3, 4, 5, 7] rfl)
                      · have hC := hC.trans (if_neg (by omega))
                        exact L200 x5 x4 _ _ _ (by omega) (by omega : (1 : Int) ≤ (u0.1 87 123).toInt ∧ (u0.1 87 123).toInt ≤ 80) (by omega) hC hP hD hS (lv_sub hl [2, 3, 4, 5, 7] rfl)
                · have hC := hC.trans (if_neg (by omega))
                  refine lv_goto (tgt := 208) F.1 F.2.1 dX12_timesOn_134 (by decide) ?_
                  exact L208 x4 x5 _ _ _ (by omega) (by omega : (1 : Int) ≤ (u0.1 87 123).toInt ∧ (u0.1 87 123).toInt ≤ 80) (by omega) hC hP hD hS (lv_sub hl [2, 3, 4, 5, 6, 7] rfl)
  have hC : RR = f_X12_timesOn_85 u0 p0 p1 p2 := hRR
  unfold f_X12_timesOn_85 at hC
  refine a_ic F (0 : Int32) dX12_timesOn_0 (by decide) ?_
  refine lv_istore (lv' := [(4, .int (0 : Int32)), (0, .ref (ad 85)), (1, .int p0), (2, .int p1), (3, .int p2)]) F.1 F.2.1 dX12_timesOn_1 hl (by decide) rfl (fun ls hl => ?_)
  refine a_ic F (0 : Int32) dX12_timesOn_3 (by decide) ?_
  refine lv_istore (lv' := [(5, .int (0 : Int32)), (4, .int (0 : Int32)), (0, .ref (ad 85)), (1, .int p0), (2, .int p1), (3, .int p2)]) F.1 F.2.1 dX12_timesOn_4 hl (by decide) rfl (fun ls hl => ?_)
  exact L6 82 (0 : Int32) (0 : Int32) _ _ _ (by decide) (by decide) hC hP hD hS (lv_sub hl [2, 3, 4, 5, 1, 0] rfl)

def f_X12_isKept_85 (u0 : ac_U) (p0 : Int32) (p1 : Int32) (p2 : Int32) : Int32 := (vl (f_X12_timesOn_85 u0 p0 p1 p2) (fun (r1 : Int32) => (vl ((66 : Int32) + p0) (fun (v2 : Int32) => (vl (u0.1 87 v2.toNatClampNeg) (fun (v3 : Int32) => (if r1.toInt < v3.toInt then (0 : Int32) else (1 : Int32))))))))
set_option maxHeartbeats 600000 in
set_option maxRecDepth 100000 in
theorem x_X12_isKept_85 (l : Launch) (dC : Nat → ClassId) (dI : Nat → Nat → Nat) (ad : Nat → Nat) (cA : Nat → ClassId) (nF : Nat) (u0 : ac_U) (p0 : Int32) (p1 : Int32) (p2 : Int32) (hR : ac_R rg u0) (hp0 : (0 : Int) ≤ p0.toInt ∧ p0.toInt ≤ 7) (hp1 : (0 : Int) ≤ p1.toInt ∧ p1.toInt ≤ 7) (hp2 : (0 : Int) ≤ p2.toInt ∧ p2.toInt ≤ 121) : ac_Mi l yX12_isKept (.code yX12_isKept cX12_isKept 4 (some .boolean) :: TB) 4 (dC, dI) vwCl (ac_ty cA) ad cA (TT nF) [.ref (ad 85), .int p0, .int p1, .int p2] u0 (fun (r : Int32) (u : ac_U) => u = u0 ∧ ((0 : Int) ≤ r.toInt ∧ r.toInt ≤ 1) ∧ f_X12_isKept_85 u0 p0 p1 p2 = r) := by
  refine ac_Mi.of (cc := cX12_isKept) (maxL := 4) (ret := (some .boolean)) (by decide) rfl (Nat.le_of_ble_eq_true rfl) ?_
  intro p e s m below meth c A ls F hml hr hlocks hA hP hD hS hl
  have F : ac_X p s m [.ref (ad 85), .int p0, .int p1, .int p2].toArray c cX12_isKept RX12 TB (dC, dI) vwCl (ac_ty cA) := ⟨F.1, F.2.1, fun w h => F.2.2.1 w (List.mem_cons_of_mem _ h), F.2.2.2.1, F.2.2.2.2⟩
  have hl : lv_has ls 4 [(0, .ref (ad 85)), (1, .int p0), (2, .int p1), (3, .int p2)] := hl
  obtain ⟨RR, hRR⟩ : ∃ q, q = f_X12_isKept_85 u0 p0 p1 p2 := ⟨_, rfl⟩
  have hC : RR = f_X12_isKept_85 u0 p0 p1 p2 := hRR
  unfold f_X12_isKept_85 at hC
  refine lv_aload_n F.1 F.2.1 dX12_isKept_0 rfl (lv_at hl 0 rfl) ?_
  refine lv_iload_n F.1 F.2.1 dX12_isKept_1 rfl (lv_at hl 1 rfl) ?_
  refine lv_iload_n F.1 F.2.1 dX12_isKept_2 rfl (lv_at hl 2 rfl) ?_
  refine lv_iload_n F.1 F.2.1 dX12_isKept_3 rfl (lv_at hl 3 rfl) ?_
  refine a_Vi F hml hl.1 hA hP hD hS (As := [.int p0, .int p1, .int p2]) (x_X12_timesOn_85 l dC dI ad cA nF _ p0 p1 p2 hR (by omega) (by omega) (by omega)) (cs_RX12_301 (d := 3) F.2.2.1 (by decide)) tc_85 rfl rfl rfl rfl (Nat.le_of_ble_eq_true rfl) dX12_isKept_4 ⟨Nat.le_refl 0, Nat.le_refl 0⟩ (fun r1 uN1 H locs hq hP hD hS => ?_)
  obtain ⟨hu1, hz1⟩ := hq
  rw [hu1] at hP hD
  have hC := vl_eq hC hz1.symm
  refine lv_aload_n F.1 F.2.1 dX12_isKept_7 rfl (lv_at hl 0 rfl) ?_
  refine a_getr F inX12 hP 85 6 tc_85 rfl rfl (by decide) q1477 (fun _ h9 => h9) dX12_isKept_8 ?_
  refine a_bp F (66 : Int32) dX12_isKept_11 (by decide) ?_
  refine lv_iload_n F.1 F.2.1 dX12_isKept_13 rfl (lv_at hl 1 rfl) ?_
  refine a_iaddX F dX12_isKept_14 ic_66 rfl (by omega) (fun v2 hv2 yv2 => ?_)
  have hC := vl_eq hC yv2
  refine a_iald F hP 87 tc_87 rfl (i_in rfl (by omega)) dX12_isKept_15 (fun v3 ev3 => ?_)
  have hC := vl_eq hC ev3.symm
  have hv3 : (0 : Int) ≤ v3.toInt ∧ v3.toInt ≤ 3 := rg_seg_87_66_73 hR ev3 (by omega)
  refine b_lt F 23 dX12_isKept_16 (by decide) rfl rfl (fun c4 => ?_) (fun c4 => ?_)
  · have hC := hC.trans (if_pos c4)
    refine a_ic F (0 : Int32) dX12_isKept_23 (by decide) ?_
    exact a_retz F hr hlocks hP hD hS dX12_isKept_24 (Or.inl rfl) ⟨rfl, (by decide), hRR.symm.trans hC⟩
  · have hC := hC.trans (if_neg (by omega))
    refine a_ic F (1 : Int32) dX12_isKept_19 (by decide) ?_
    refine lv_goto (tgt := 24) F.1 F.2.1 dX12_isKept_20 (by decide) ?_
    exact a_retz F hr hlocks hP hD hS dX12_isKept_24 (Or.inr rfl) ⟨rfl, (by decide), hRR.symm.trans hC⟩

def K_X12_dry_85_18_b (B18 : ac_U → Int32 → Int32 → ac_U × Int32) (u0 : ac_U) (u : ac_U) (x1 : Int32) (x2 : Int32) : ac_U × Int32 := (if (u.1 87 3).toInt ≤ x2.toInt then (u, x1) else (vl ((16 : Int32) + x2) (fun (v3 : Int32) => (vl (u.1 87 v3.toNatClampNeg) (fun (v4 : Int32) => (vl ((1 : Int32) <<< (v4 &&& 31)) (fun (v5 : Int32) => (vl (v5 ^^^ (-1 : Int32)) (fun (v6 : Int32) => (vl (x1 &&& v6) (fun (v7 : Int32) => (vl (x2 + Int32.ofInt (1)) (fun (v8 : Int32) => (B18 u v7 v8))))))))))))))
def K_X12_dry_85_18 (u0 : ac_U) : Nat → ac_U → Int32 → Int32 → ac_U × Int32
  | 0 => fun u x1 x2 => (u, 0)
  | n + 1 => fun u x1 x2 => K_X12_dry_85_18_b (K_X12_dry_85_18 u0 n) u0 u x1 x2
def f_X12_dry_85 (u0 : ac_U) : ac_U × Int32 := (vl ((1 : Int32) <<< ((u0.1 87 1) &&& 31)) (fun (v11 : Int32) => (vl (v11 - (1 : Int32)) (fun (v12 : Int32) => (K_X12_dry_85_18 u0 8 (pI u0 85 0 (0 : Int32)) v12 (0 : Int32))))))
set_option maxHeartbeats 600000 in
set_option maxRecDepth 100000 in
theorem x_X12_dry_85 (l : Launch) (dC : Nat → ClassId) (dI : Nat → Nat → Nat) (ad : Nat → Nat) (cA : Nat → ClassId) (nF : Nat) (u0 : ac_U)  (hR : ac_R rg u0) : ac_Mi l yX12_dry (.code yX12_dry cX12_dry 3 (some .int) :: TB) 1 (dC, dI) vwCl (ac_ty cA) ad cA (TT nF) [.ref (ad 85)] u0 (fun (r : Int32) (u : ac_U) => ac_R rg u ∧ ac_Fr [(85, some 0)] u0 u ∧ ((0 : Int) ≤ r.toInt ∧ r.toInt ≤ 255) ∧ f_X12_dry_85 u0 = (u, r)) := by
  refine ac_Mi.of (cc := cX12_dry) (maxL := 3) (ret := (some .int)) (by decide) rfl (Nat.le_of_ble_eq_true rfl) ?_
  intro p e s m below meth c A ls F hml hr hlocks hA hP hD hS hl
  have F : ac_X p s m [.ref (ad 85)].toArray c cX12_dry RX12 TB (dC, dI) vwCl (ac_ty cA) := ⟨F.1, F.2.1, fun w h => F.2.2.1 w (List.mem_cons_of_mem _ h), F.2.2.2.1, F.2.2.2.2⟩
  have hl : lv_has ls 3 [(0, .ref (ad 85))] := hl
  obtain ⟨RR, hRR⟩ : ∃ q, q = f_X12_dry_85 u0 := ⟨_, rfl⟩
  have hF : ac_Fr [(85, some 0)] u0 u0 := ac_Fr.rf
  have L18 : ∀ (n18 : Nat) (x1 : Int32) (x2 : Int32) (u : ac_U) (H : Heap) (locs : List Loc) (ls : Array Slot), ac_R rg u → ac_Fr [(85, some 0)] u0 u → 6 - x2.toInt < (n18 : Int) → (0 : Int) ≤ x1.toInt ∧ x1.toInt ≤ 255 → (0 : Int) ≤ x2.toInt ∧ x2.toInt ≤ 6 → (0 : Int) ≤ (u.1 85 0).toInt ∧ (u.1 85 0).toInt ≤ 0 → RR = (K_X12_dry_85_18 u0 n18 u x1 x2) → va_P (dC, dI) vwCl (ac_w ad cA (TT nF) u) H → va_D A (ac_w ad cA (TT nF) u) → va_S A s.heap H locs → lv_has ls 3 [(0, .ref (ad 85)), (1, .int x1), (2, .int x2)] → W p l e (ac_rm 1) s m [.ref (ad 85)].toArray below meth c H locs 0 0 (MQ below (va_Qi (fun (r : Int32) (u : ac_U) => ac_R rg u ∧ ac_Fr [(85, some 0)] u0 u ∧ ((0 : Int) ≤ r.toInt ∧ r.toInt ≤ 255) ∧ f_X12_dry_85 u0 = (u, r)) (ac_B (dC, dI) vwCl (ac_ty cA) ad cA (TT nF) A) A) [.ref (ad 85)].toArray s 0 0 A) (F0 m 18 ls []) := by
    intro n18
    induction n18 with
    | zero => intro x1 x2 u H locs ls hR hF hn18 f0 f1 f2 hC hP hD hS hl; exfalso; omega
    | succ n18 ih18 =>
      intro x1 x2 u H locs ls hR hF hn18 f0 f1 f2 hC hP hD hS hl
      have hC : RR = K_X12_dry_85_18_b (K_X12_dry_85_18 u0 n18) u0 u x1 x2 := hC
      unfold K_X12_dry_85_18_b at hC
      refine lv_iload_n F.1 F.2.1 dX12_dry_18 rfl (lv_at hl 2 rfl) ?_
      refine lv_aload_n F.1 F.2.1 dX12_dry_19 rfl (lv_at hl 0 rfl) ?_
      refine a_getr F inX12 hP 85 6 tc_85 rfl rfl (by decide) q1477 (fun _ h9 => h9) dX12_dry_20 ?_
      refine a_ic F (3 : Int32) dX12_dry_23 (by decide) ?_
      have g1 : (0 : Int) ≤ (u.1 87 3).toInt ∧ (u.1 87 3).toInt ≤ 6 := hR 87 3
      refine a_ialdK F hP 87 3 tc_87 rfl rfl (i_in ic_3 (by omega)) (v := (u.1 87 3)) rfl dX12_dry_24 ?_
      refine b_ge F 50 dX12_dry_25 (by decide) rfl rfl (fun c2 => ?_) (fun c2 => ?_)
      · have hC := hC.trans (if_pos c2)
        refine lv_iload_n F.1 F.2.1 dX12_dry_50 rfl (lv_at hl 1 rfl) ?_
        exact a_reti F hr hlocks hP hD hS dX12_dry_51 ⟨hR, hF, (by omega : (0 : Int) ≤ x1.toInt ∧ x1.toInt ≤ 255), hRR.symm.trans hC⟩
      · have hC := hC.trans (if_neg (by omega))
        refine lv_iload_n F.1 F.2.1 dX12_dry_28 rfl (lv_at hl 1 rfl) ?_
        refine a_ic F (1 : Int32) dX12_dry_29 (by decide) ?_
        refine lv_aload_n F.1 F.2.1 dX12_dry_30 rfl (lv_at hl 0 rfl) ?_
        refine a_getr F inX12 hP 85 6 tc_85 rfl rfl (by decide) q1477 (fun _ h9 => h9) dX12_dry_31 ?_
        refine a_bp F (16 : Int32) dX12_dry_34 (by decide) ?_
        refine lv_iload_n F.1 F.2.1 dX12_dry_36 rfl (lv_at hl 2 rfl) ?_
        refine a_iaddX F dX12_dry_37 ic_16 rfl (by omega) (fun v3 hv3 yv3 => ?_)
        have hC := vl_eq hC yv3
        refine a_iald F hP 87 tc_87 rfl (i_in rfl (by omega)) dX12_dry_38 (fun v4 ev4 => ?_)
        have hC := vl_eq hC ev4.symm
        have hv4 : (0 : Int) ≤ v4.toInt ∧ v4.toInt ≤ 7 := rg_seg_87_16_21 hR ev4 (by omega)
        refine a_ishl1X F dX12_dry_39 rfl (lo := 0) (hi := 7) (by omega) (by decide) (fun v5 hv5 yv5 => ?_)
        have hv5 : (1 : Int) ≤ v5.toInt ∧ v5.toInt ≤ 128 := hv5
        have hC := vl_eq hC yv5
        refine a_ic F (-1 : Int32) dX12_dry_40 (by decide) ?_
        refine a_ixorUX F dX12_dry_41 (fun v6 yv6 => ?_)
        have hC := vl_eq hC yv6
        refine a_iandLX F dX12_dry_42 rfl (by omega) (fun v7 hv7 yv7 => ?_)
        have hC := vl_eq hC yv7
        refine lv_istore_n (lv' := [(1, .int v7), (0, .ref (ad 85)), (2, .int x2)]) F.1 F.2.1 dX12_dry_43 rfl hl (by decide) rfl (fun ls hl => ?_)
        refine a_iincX F (k := 2) (fun v8 => [(2, .int v8), (1, .int v7), (0, .ref (ad 85))]) dX12_dry_44 hl rfl rfl (by decide) (by omega) (by decide) (fun _ => rfl) (fun v8 ls hv8 yv8 hl => ?_)
        have hC := vl_eq hC yv8
        refine lv_goto (tgt := 18) F.1 F.2.1 dX12_dry_47 (by decide) ?_
        have g9 : (0 : Int) ≤ (u.1 85 0).toInt ∧ (u.1 85 0).toInt ≤ 1 := hR 85 0
        exact ih18 v7 v8 _ _ _ _ hR hF (by omega) (by omega) (by omega) (by omega : (0 : Int) ≤ (u.1 85 0).toInt ∧ (u.1 85 0).toInt ≤ 0) hC hP hD hS (lv_sub hl [2, 1, 0] rfl)
  have hC : RR = f_X12_dry_85 u0 := hRR
  unfold f_X12_dry_85 at hC
  refine lv_aload_n F.1 F.2.1 dX12_dry_0 rfl (lv_at hl 0 rfl) ?_
  refine a_ic F (0 : Int32) dX12_dry_1 (by decide) ?_
  refine a_puti F inX12 tyX12 tyX12_ok nmX12 hP hD hS 85 0 tc_85 rfl rfl (by decide) q1471 (fun _ h9 => h9) rfl (ty := .int) (tyX12_ok 0 (by decide)) rfl rfl dX12_dry_2 (fun H locs hP hD hS => ?_)
  have hR := hR.si (c := 85) (k := 0) (v := (0 : Int32)) (by rw [ic_0]; exact (by omega : (0 : Int) ≤ (0 : Int) ∧ (0 : Int) ≤ 1))
  have hF := hF.si (c := 85) (k := 0) (v := (0 : Int32)) rfl
  refine a_ic F (1 : Int32) dX12_dry_5 (by decide) ?_
  refine lv_aload_n F.1 F.2.1 dX12_dry_6 rfl (lv_at hl 0 rfl) ?_
  refine a_getr F inX12 hP 85 6 tc_85 rfl rfl (by decide) q1477 (fun _ h9 => h9) dX12_dry_7 ?_
  refine a_ic F (1 : Int32) dX12_dry_10 (by decide) ?_
  have g10 : (0 : Int) ≤ (u0.1 87 1).toInt ∧ (u0.1 87 1).toInt ≤ 8 := hR 87 1
  refine a_ialdK F hP 87 1 tc_87 rfl rfl (i_in ic_1 (by omega)) (v := (u0.1 87 1)) rfl dX12_dry_11 ?_
  refine a_ishl1X F dX12_dry_12 rfl (lo := 0) (hi := 8) (by omega) (by decide) (fun v11 hv11 yv11 => ?_)
  have hv11 : (1 : Int) ≤ v11.toInt ∧ v11.toInt ≤ 256 := hv11
  have hC := vl_eq hC yv11
  refine a_ic F (1 : Int32) dX12_dry_13 (by decide) ?_
  refine a_isubX F dX12_dry_14 rfl ic_1 (by omega) (fun v12 hv12 yv12 => ?_)
  have hC := vl_eq hC yv12
  refine lv_istore_n (lv' := [(1, .int v12), (0, .ref (ad 85))]) F.1 F.2.1 dX12_dry_15 rfl hl (by decide) rfl (fun ls hl => ?_)
  refine a_ic F (0 : Int32) dX12_dry_16 (by decide) ?_
  refine lv_istore_n (lv' := [(2, .int (0 : Int32)), (1, .int v12), (0, .ref (ad 85))]) F.1 F.2.1 dX12_dry_17 rfl hl (by decide) rfl (fun ls hl => ?_)
  exact L18 8 v12 (0 : Int32) _ _ _ _ hR hF (by decide) (by omega) (by decide) (by omega : (0 : Int) ≤ (0 : Int) ∧ (0 : Int) ≤ 0) hC hP hD hS (lv_sub hl [2, 1, 0] rfl)

def K_X12_four_85_3_b (B3 : ac_U → Int32 → ac_U) (u0 : ac_U) (p0 : Int32) (u : ac_U) (x2 : Int32) : ac_U := (if x2.toInt < 0 then u else (vl (p0 >>> (x2 &&& 31)) (fun (v4 : Int32) => (vl ((v4).toInt8.toInt32) (fun (v5 : Int32) => (vl ((u.1 85 2) + (1 : Int32)) (fun (v6 : Int32) => (vl (x2 + Int32.ofInt (-8)) (fun (v7 : Int32) => (B3 (pI (pI u 86 (u.1 85 2).toNatClampNeg v5) 85 2 v6) v7))))))))))
def K_X12_four_85_3 (u0 : ac_U) (p0 : Int32) : Nat → ac_U → Int32 → ac_U
  | 0 => fun u x2 => u
  | n + 1 => fun u x2 => K_X12_four_85_3_b (K_X12_four_85_3 u0 p0 n) u0 p0 u x2
def f_X12_four_85 (u0 : ac_U) (p0 : Int32) : ac_U := (K_X12_four_85_3 u0 p0 34 u0 (24 : Int32))
set_option maxHeartbeats 600000 in
set_option maxRecDepth 100000 in
theorem x_X12_four_85 (l : Launch) (dC : Nat → ClassId) (dI : Nat → Nat → Nat) (ad : Nat → Nat) (cA : Nat → ClassId) (nF : Nat) (u0 : ac_U) (p0 : Int32) (hR : ac_R rg u0) (hf_85_2 : (0 : Int) ≤ (u0.1 85 2).toInt ∧ (u0.1 85 2).toInt ≤ 936) : ac_Mv l yX12_four (.code yX12_four cX12_four 3 none :: TB) 1 (dC, dI) vwCl (ac_ty cA) ad cA (TT nF) [.ref (ad 85), .int p0] u0 (fun (u : ac_U) => ac_R rg u ∧ ac_Fr [(85, some 2), (86, none)] u0 u ∧ ((u.1 85 2).toInt = (u0.1 85 2).toInt + 4) ∧ f_X12_four_85 u0 p0 = u) := by
  refine ac_Mv.of (cc := cX12_four) (maxL := 3) (ret := none) (by decide) rfl (Nat.le_of_ble_eq_true rfl) ?_
  intro p e s m below meth c A ls F hml hr hlocks hA hP hD hS hl
  have F : ac_X p s m [.ref (ad 85), .int p0].toArray c cX12_four RX12 TB (dC, dI) vwCl (ac_ty cA) := ⟨F.1, F.2.1, fun w h => F.2.2.1 w (List.mem_cons_of_mem _ h), F.2.2.2.1, F.2.2.2.2⟩
  have hl : lv_has ls 3 [(0, .ref (ad 85)), (1, .int p0)] := hl
  obtain ⟨RR, hRR⟩ : ∃ q, q = f_X12_four_85 u0 p0 := ⟨_, rfl⟩
  have hF : ac_Fr [(85, some 2), (86, none)] u0 u0 := ac_Fr.rf
  have L3 : ∀ (n3 : Nat) (x2 : Int32) (u : ac_U) (H : Heap) (locs : List Loc) (ls : Array Slot), ac_R rg u → ac_Fr [(85, some 2), (86, none)] u0 u → x2.toInt + 8 < (n3 : Int) → (-8 : Int) ≤ x2.toInt ∧ x2.toInt ≤ 24 → (0 : Int) ≤ (u.1 85 2).toInt ∧ (u.1 85 2).toInt ≤ 940 → 8 * (u.1 85 2).toInt + x2.toInt = 8 * (u0.1 85 2).toInt + 24 → RR = (K_X12_four_85_3 u0 p0 n3 u x2) → va_P (dC, dI) vwCl (ac_w ad cA (TT nF) u) H → va_D A (ac_w ad cA (TT nF) u) → va_S A s.heap H locs → lv_has ls 3 [(0, .ref (ad 85)), (1, .int p0), (2, .int x2)] → W p l e (ac_rm 1) s m [.ref (ad 85), .int p0].toArray below meth c H locs 0 0 (MQ below (va_Qv (fun (u : ac_U) => ac_R rg u ∧ ac_Fr [(85, some 2), (86, none)] u0 u ∧ ((u.1 85 2).toInt = (u0.1 85 2).toInt + 4) ∧ f_X12_four_85 u0 p0 = u) (ac_B (dC, dI) vwCl (ac_ty cA) ad cA (TT nF) A) A) [.ref (ad 85), .int p0].toArray s 0 0 A) (F0 m 3 ls []) := by
    intro n3
    induction n3 with
    | zero => intro x2 u H locs ls hR hF hn3 f0 f1 f2 hC hP hD hS hl; exfalso; omega
    | succ n3 ih3 =>
      intro x2 u H locs ls hR hF hn3 f0 f1 f2 hC hP hD hS hl
      have hC : RR = K_X12_four_85_3_b (K_X12_four_85_3 u0 p0 n3) u0 p0 u x2 := hC
      unfold K_X12_four_85_3_b at hC
      refine lv_iload_n F.1 F.2.1 dX12_four_3 rfl (lv_at hl 2 rfl) ?_
      refine z_lt F 36 dX12_four_4 (by decide) rfl (fun c1 => ?_) (fun c1 => ?_)
      · have hC := hC.trans (if_pos c1)
        have g2 : (0 : Int) ≤ (u.1 85 2).toInt ∧ (u.1 85 2).toInt ≤ 940 := hR 85 2
        exact a_retv F hr hlocks hP hD hS dX12_four_36 ⟨hR, hF, (by omega : (u.1 85 2).toInt = (u0.1 85 2).toInt + 4), hRR.symm.trans hC⟩
      · have hC := hC.trans (if_neg (by omega))
        refine lv_aload_n F.1 F.2.1 dX12_four_7 rfl (lv_at hl 0 rfl) ?_
        refine a_getr F inX12 hP 85 1 tc_85 rfl rfl (by decide) q1472 (fun _ h9 => h9) dX12_four_8 ?_
        refine lv_aload_n F.1 F.2.1 dX12_four_11 rfl (lv_at hl 0 rfl) ?_
        have g3 : (0 : Int) ≤ (u.1 85 2).toInt ∧ (u.1 85 2).toInt ≤ 940 := hR 85 2
        refine a_geti F inX12 hP 85 2 tc_85 rfl rfl (by decide) q1473 (fun _ h9 => h9) (v := (u.1 85 2)) rfl dX12_four_12 ?_
        refine lv_iload_n F.1 F.2.1 dX12_four_15 rfl (lv_at hl 1 rfl) ?_
        refine lv_iload_n F.1 F.2.1 dX12_four_16 rfl (lv_at hl 2 rfl) ?_
        refine a_ishrUX F dX12_four_17 (fun v4 yv4 => ?_)
        have hC := vl_eq hC yv4
        refine a_i2bX F dX12_four_18 (fun v5 bv5 hv5 yv5 => ?_)
        have hC := vl_eq hC yv5
        refine a_bast F hP hD hS 86 tc_86 rfl (i_in rfl (by omega)) dX12_four_19 (fun H locs hP hD hS => ?_)
        rw [bv5] at hP hD
        have hR := hR.si (c := 86) (k := (u.1 85 2).toNatClampNeg) (v := v5) (by omega : (-128 : Int) ≤ v5.toInt ∧ v5.toInt ≤ 127)
        have hF := hF.si (c := 86) (k := (u.1 85 2).toNatClampNeg) (v := v5) rfl
        refine lv_aload_n F.1 F.2.1 dX12_four_20 rfl (lv_at hl 0 rfl) ?_
        refine lv_dup F.1 F.2.1 dX12_four_21 rfl ?_
        refine a_geti F inX12 hP 85 2 tc_85 rfl rfl (by decide) q1473 (fun _ h9 => h9) (v := (u.1 85 2)) (rfl) dX12_four_22 ?_
        refine a_ic F (1 : Int32) dX12_four_25 (by decide) ?_
        refine a_iaddX F dX12_four_26 rfl ic_1 (by omega) (fun v6 hv6 yv6 => ?_)
        have hC := vl_eq hC yv6
        refine a_puti F inX12 tyX12 tyX12_ok nmX12 hP hD hS 85 2 tc_85 rfl rfl (by decide) q1473 (fun _ h9 => h9) rfl (ty := .int) (tyX12_ok 2 (by decide)) rfl rfl dX12_four_27 (fun H locs hP hD hS => ?_)
        have hR := hR.si (c := 85) (k := 2) (v := v6) (by omega : (0 : Int) ≤ v6.toInt ∧ v6.toInt ≤ 940)
        have hF := hF.si (c := 85) (k := 2) (v := v6) rfl
        refine a_iincX F (k := 2) (fun v7 => [(2, .int v7), (0, .ref (ad 85)), (1, .int p0)]) dX12_four_30 hl rfl rfl (by decide) (by omega) (by decide) (fun _ => rfl) (fun v7 ls hv7 yv7 hl => ?_)
        have hC := vl_eq hC yv7
        refine lv_goto (tgt := 3) F.1 F.2.1 dX12_four_33 (by decide) ?_
        exact ih3 v7 _ _ _ _ hR hF (by omega) (by omega) (by omega : (0 : Int) ≤ v6.toInt ∧ v6.toInt ≤ 940) (by omega : 8 * v6.toInt + v7.toInt = 8 * (u0.1 85 2).toInt + 24) hC hP hD hS (lv_sub hl [1, 2, 0] rfl)
  have hC : RR = f_X12_four_85 u0 p0 := hRR
  unfold f_X12_four_85 at hC
  refine a_bp F (24 : Int32) dX12_four_0 (by decide) ?_
  refine lv_istore_n (lv' := [(2, .int (24 : Int32)), (0, .ref (ad 85)), (1, .int p0)]) F.1 F.2.1 dX12_four_2 rfl hl (by decide) rfl (fun ls hl => ?_)
  have g8 : (0 : Int) ≤ (u0.1 85 2).toInt ∧ (u0.1 85 2).toInt ≤ 940 := hR 85 2
  exact L3 34 (24 : Int32) _ _ _ _ hR hF (by decide) (by decide) (by omega : (0 : Int) ≤ (u0.1 85 2).toInt ∧ (u0.1 85 2).toInt ≤ 940) (by first | (rw [ic_24]; exact (by omega : 8 * (u0.1 85 2).toInt + (24 : Int) = 8 * (u0.1 85 2).toInt + 24)) | rw [ic_24]) hC hP hD hS (lv_sub hl [1, 2, 0] rfl)

def f_X12_feed_85 (u0 : ac_U) (p0 : Int32) (p1 : Int32) (p2 : Int32) (p3 : Int32) (p4 : Int32) : ac_U × Int32 := (vl ((u0.1 85 2) + (20 : Int32)) (fun (v2 : Int32) => (if v2.toInt ≤ (940 : Int) then (vl (f_X12_four_85 (pI u0 85 0 (0 : Int32)) p0) (fun (u4 : ac_U) => (vl (f_X12_four_85 u4 p1) (fun (u6 : ac_U) => (vl (f_X12_four_85 u6 p2) (fun (u8 : ac_U) => (vl (f_X12_four_85 u8 p3) (fun (u10 : ac_U) => (vl (f_X12_four_85 u10 p4) (fun (u12 : ac_U) => (u12, (u12.1 85 2)))))))))))) else ((pI u0 85 0 (0 : Int32)), (-1 : Int32)))))
set_option maxHeartbeats 600000 in
set_option maxRecDepth 100000 in
theorem x_X12_feed_85 (l : Launch) (dC : Nat → ClassId) (dI : Nat → Nat → Nat) (ad : Nat → Nat) (cA : Nat → ClassId) (nF : Nat) (u0 : ac_U) (p0 : Int32) (p1 : Int32) (p2 : Int32) (p3 : Int32) (p4 : Int32) (hR : ac_R rg u0) : ac_Mi l yX12_feed (.code yX12_feed cX12_feed 6 (some .int) :: TB) 2 (dC, dI) vwCl (ac_ty cA) ad cA (TT nF) [.ref (ad 85), .int p0, .int p1, .int p2, .int p3, .int p4] u0 (fun (r : Int32) (u : ac_U) => ac_R rg u ∧ ac_Fr [(85, some 0), (85, some 2), (86, none)] u0 u ∧ ((-1 : Int) ≤ r.toInt ∧ r.toInt ≤ 940) ∧ (((u0.1 85 2).toInt ≤ 920 → (u.1 85 2).toInt = (u0.1 85 2).toInt + 20 ∧ r.toInt = (u0.1 85 2).toInt + 20) ∧ (920 < (u0.1 85 2).toInt → (u.1 85 2).toInt = (u0.1 85 2).toInt ∧ r.toInt = -1)) ∧ f_X12_feed_85 u0 p0 p1 p2 p3 p4 = (u, r)) := by
  refine ac_Mi.of (cc := cX12_feed) (maxL := 6) (ret := (some .int)) (by decide) rfl (Nat.le_of_ble_eq_true rfl) ?_
  intro p e s m below meth c A ls F hml hr hlocks hA hP hD hS hl
  have F : ac_X p s m [.ref (ad 85), .int p0, .int p1, .int p2, .int p3, .int p4].toArray c cX12_feed RX12 TB (dC, dI) vwCl (ac_ty cA) := ⟨F.1, F.2.1, fun w h => F.2.2.1 w (List.mem_cons_of_mem _ h), F.2.2.2.1, F.2.2.2.2⟩
  have hl : lv_has ls 6 [(0, .ref (ad 85)), (1, .int p0), (2, .int p1), (3, .int p2), (4, .int p3), (5, .int p4)] := hl
  obtain ⟨RR, hRR⟩ : ∃ q, q = f_X12_feed_85 u0 p0 p1 p2 p3 p4 := ⟨_, rfl⟩
  have hF : ac_Fr [(85, some 0), (85, some 2), (86, none)] u0 u0 := ac_Fr.rf
  have hC : RR = f_X12_feed_85 u0 p0 p1 p2 p3 p4 := hRR
  unfold f_X12_feed_85 at hC
  refine lv_aload_n F.1 F.2.1 dX12_feed_0 rfl (lv_at hl 0 rfl) ?_
  refine a_ic F (0 : Int32) dX12_feed_1 (by decide) ?_
  refine a_puti F inX12 tyX12 tyX12_ok nmX12 hP hD hS 85 0 tc_85 rfl rfl (by decide) q1471 (fun _ h9 => h9) rfl (ty := .int) (tyX12_ok 0 (by decide)) rfl rfl dX12_feed_2 (fun H locs hP hD hS => ?_)
  have hR := hR.si (c := 85) (k := 0) (v := (0 : Int32)) (by rw [ic_0]; exact (by omega : (0 : Int) ≤ (0 : Int) ∧ (0 : Int) ≤ 1))
  have hF := hF.si (c := 85) (k := 0) (v := (0 : Int32)) rfl
  refine lv_aload_n F.1 F.2.1 dX12_feed_5 rfl (lv_at hl 0 rfl) ?_
  have g1 : (0 : Int) ≤ (u0.1 85 2).toInt ∧ (u0.1 85 2).toInt ≤ 940 := hR 85 2
  refine a_geti F inX12 hP 85 2 tc_85 rfl rfl (by decide) q1473 (fun _ h9 => h9) (v := (u0.1 85 2)) rfl dX12_feed_6 ?_
  refine a_bp F (20 : Int32) dX12_feed_9 (by decide) ?_
  refine a_iaddX F dX12_feed_11 rfl ic_20 (by omega) (fun v2 hv2 yv2 => ?_)
  have hC := vl_eq hC yv2
  refine a_sp F (940 : Int32) dX12_feed_12 (by decide) ?_
  refine b_le F 20 dX12_feed_15 (by decide) rfl ic_940 (fun c3 => ?_) (fun c3 => ?_)
  · have hC := hC.trans (if_pos c3)
    refine lv_aload_n F.1 F.2.1 dX12_feed_20 rfl (lv_at hl 0 rfl) ?_
    refine lv_iload_n F.1 F.2.1 dX12_feed_21 rfl (lv_at hl 1 rfl) ?_
    refine a_Vv F hml hl.1 hA hP hD hS (As := [.int p0]) (x_X12_four_85 l dC dI ad cA nF _ p0 hR (by omega : (0 : Int) ≤ (u0.1 85 2).toInt ∧ (u0.1 85 2).toInt ≤ 936)) (cs_RX12_10 (d := 1) F.2.2.1 (by decide)) tc_85 rfl rfl rfl rfl (Nat.le_of_ble_eq_true rfl) dX12_feed_22 ⟨Nat.le_refl 0, Nat.le_refl 0⟩ (fun u4 H locs hq hP hD hS => ?_)
    obtain ⟨hR, hF4, xr4, hz4⟩ := hq
    have hF := hF.tr hF4 (by decide)
    have g5 : (0 : Int) ≤ (u4.1 85 2).toInt ∧ (u4.1 85 2).toInt ≤ 940 := hR 85 2
    have xr4 : (u4.1 85 2).toInt = (u0.1 85 2).toInt + 4 := xr4
    have hC := vl_eq hC hz4.symm
    refine lv_aload_n F.1 F.2.1 dX12_feed_25 rfl (lv_at hl 0 rfl) ?_
    refine lv_iload_n F.1 F.2.1 dX12_feed_26 rfl (lv_at hl 2 rfl) ?_
    refine a_Vv F hml hl.1 hA hP hD hS (As := [.int p1]) (x_X12_four_85 l dC dI ad cA nF _ p1 hR (by omega : (0 : Int) ≤ (u4.1 85 2).toInt ∧ (u4.1 85 2).toInt ≤ 936)) (cs_RX12_10 (d := 1) F.2.2.1 (by decide)) tc_85 rfl rfl rfl rfl (Nat.le_of_ble_eq_true rfl) dX12_feed_27 ⟨Nat.le_refl 0, Nat.le_refl 0⟩ (fun u6 H locs hq hP hD hS => ?_)
    obtain ⟨hR, hF6, xr6, hz6⟩ := hq
    have hF := hF.tr hF6 (by decide)
    have g7 : (0 : Int) ≤ (u6.1 85 2).toInt ∧ (u6.1 85 2).toInt ≤ 940 := hR 85 2
    have xr6 : (u6.1 85 2).toInt = (u4.1 85 2).toInt + 4 := xr6
    have hC := vl_eq hC hz6.symm
    refine lv_aload_n F.1 F.2.1 dX12_feed_30 rfl (lv_at hl 0 rfl) ?_
    refine lv_iload_n F.1 F.2.1 dX12_feed_31 rfl (lv_at hl 3 rfl) ?_
    refine a_Vv F hml hl.1 hA hP hD hS (As := [.int p2]) (x_X12_four_85 l dC dI ad cA nF _ p2 hR (by omega : (0 : Int) ≤ (u6.1 85 2).toInt ∧ (u6.1 85 2).toInt ≤ 936)) (cs_RX12_10 (d := 1) F.2.2.1 (by decide)) tc_85 rfl rfl rfl rfl (Nat.le_of_ble_eq_true rfl) dX12_feed_32 ⟨Nat.le_refl 0, Nat.le_refl 0⟩ (fun u8 H locs hq hP hD hS => ?_)
    obtain ⟨hR, hF8, xr8, hz8⟩ := hq
    have hF := hF.tr hF8 (by decide)
    have g9 : (0 : Int) ≤ (u8.1 85 2).toInt ∧ (u8.1 85 2).toInt ≤ 940 := hR 85 2
    have xr8 : (u8.1 85 2).toInt = (u6.1 85 2).toInt + 4 := xr8
    have hC := vl_eq hC hz8.symm
    refine lv_aload_n F.1 F.2.1 dX12_feed_35 rfl (lv_at hl 0 rfl) ?_
    refine lv_iload F.1 F.2.1 dX12_feed_36 (lv_at hl 4 rfl) ?_
    refine a_Vv F hml hl.1 hA hP hD hS (As := [.int p3]) (x_X12_four_85 l dC dI ad cA nF _ p3 hR (by omega : (0 : Int) ≤ (u8.1 85 2).toInt ∧ (u8.1 85 2).toInt ≤ 936)) (cs_RX12_10 (d := 1) F.2.2.1 (by decide)) tc_85 rfl rfl rfl rfl (Nat.le_of_ble_eq_true rfl) dX12_feed_38 ⟨Nat.le_refl 0, Nat.le_refl 0⟩ (fun u10 H locs hq hP hD hS => ?_)
    obtain ⟨hR, hF10, xr10, hz10⟩ := hq
    have hF := hF.tr hF10 (by decide)
    have g11 : (0 : Int) ≤ (u10.1 85 2).toInt ∧ (u10.1 85 2).toInt ≤ 940 := hR 85 2
    have xr10 : (u10.1 85 2).toInt = (u8.1 85 2).toInt + 4 := xr10
    have hC := vl_eq hC hz10.symm
    refine lv_aload_n F.1 F.2.1 dX12_feed_41 rfl (lv_at hl 0 rfl) ?_
    refine lv_iload F.1 F.2.1 dX12_feed_42 (lv_at hl 5 rfl) ?_
    refine a_Vv F hml hl.1 hA hP hD hS (As := [.int p4]) (x_X12_four_85 l dC dI ad cA nF _ p4 hR (by omega : (0 : Int) ≤ (u10.1 85 2).toInt ∧ (u10.1 85 2).toInt ≤ 936)) (cs_RX12_10 (d := 1) F.2.2.1 (by decide)) tc_85 rfl rfl rfl rfl (Nat.le_of_ble_eq_true rfl) dX12_feed_44 ⟨Nat.le_refl 0, Nat.le_refl 0⟩ (fun u12 H locs hq hP hD hS => ?_)
    obtain ⟨hR, hF12, xr12, hz12⟩ := hq
    have hF := hF.tr hF12 (by decide)
    have g13 : (0 : Int) ≤ (u12.1 85 2).toInt ∧ (u12.1 85 2).toInt ≤ 940 := hR 85 2
    have xr12 : (u12.1 85 2).toInt = (u10.1 85 2).toInt + 4 := xr12
    have hC := vl_eq hC hz12.symm
    refine lv_aload_n F.1 F.2.1 dX12_feed_47 rfl (lv_at hl 0 rfl) ?_
    refine a_geti F inX12 hP 85 2 tc_85 rfl rfl (by decide) q1473 (fun _ h9 => h9) (v := (u12.1 85 2)) (rfl) dX12_feed_48 ?_
    exact a_reti F hr hlocks hP hD hS dX12_feed_51 ⟨hR, hF, (by omega : (-1 : Int) ≤ (u12.1 85 2).toInt ∧ (u12.1 85 2).toInt ≤ 940), (by omega : ((u0.1 85 2).toInt ≤ 920 → (u12.1 85 2).toInt = (u0.1 85 2).toInt + 20 ∧ (u12.1 85 2).toInt = (u0.1 85 2).toInt + 20) ∧ (920 < (u0.1 85 2).toInt → (u12.1 85 2).toInt = (u0.1 85 2).toInt ∧ (u12.1 85 2).toInt = -1)), hRR.symm.trans hC⟩
  · have hC := hC.trans (if_neg (by omega))
    refine a_ic F (-1 : Int32) dX12_feed_18 (by decide) ?_
    exact a_reti F hr hlocks hP hD hS dX12_feed_19 ⟨hR, hF, (by decide), (by first | exact (by omega : ((u0.1 85 2).toInt ≤ 920 → (u0.1 85 2).toInt = (u0.1 85 2).toInt + 20 ∧ (-1 : Int) = (u0.1 85 2).toInt + 20) ∧ (920 < (u0.1 85 2).toInt → (u0.1 85 2).toInt = (u0.1 85 2).toInt ∧ (-1 : Int) = -1)) | (rw [ic_m1]; exact (by omega : ((u0.1 85 2).toInt ≤ 920 → (u0.1 85 2).toInt = (u0.1 85 2).toInt + 20 ∧ (-1 : Int) = (u0.1 85 2).toInt + 20) ∧ (920 < (u0.1 85 2).toInt → (u0.1 85 2).toInt = (u0.1 85 2).toInt ∧ (-1 : Int) = -1)))), hRR.symm.trans hC⟩
def K_X12_fresh_85_74 (u0 : ac_U) (p0 : Int32) (u : ac_U) : ac_U × Int32 := (bd (f_X12_bad_85 u (3 : Int32)) (fun (u1 : ac_U) (r1 : Int32) => (u1, r1)))
def f_X12_fresh_85 (u0 : ac_U) (p0 : Int32) : ac_U × Int32 := (vl (f_X12_isName_85 u0) (fun (r2 : Int32) => (if r2.toInt ≠ 0 then (vl (f_X12_find_85 u0 (26 : Int32) (u0.1 88 1)) (fun (r5 : Int32) => (if 0 ≤ r5.toInt then (K_X12_fresh_85_74 u0 p0 u0) else (vl (f_X12_find_85 u0 (34 : Int32) (u0.1 88 4)) (fun (r8 : Int32) => (if 0 ≤ r8.toInt then (K_X12_fresh_85_74 u0 p0 u0) else (vl (f_X12_find_85 u0 (38 : Int32) (u0.1 88 5)) (fun (r11 : Int32) => (if 0 ≤ r11.toInt then (K_X12_fresh_85_74 u0 p0 u0) else (vl (f_X12_find_85 u0 (44 : Int32) (u0.1 88 6)) (fun (r14 : Int32) => (if r14.toInt < 0 then (vl (f_X12_next_85 (pL u0 90 p0.toNatClampNeg (u0.2 85 17))) (fun (u16 : ac_U) => (u16, (1 : Int32)))) else (K_X12_fresh_85_74 u0 p0 u0))))))))))))) else (bd (f_X12_bad_85 u0 (1 : Int32)) (fun (u17 : ac_U) (r17 : Int32) => (u17, r17))))))
set_option maxHeartbeats 600000 in
set_option maxRecDepth 100000 in
theorem x_X12_fresh_85 (l : Launch) (dC : Nat → ClassId) (dI : Nat → Nat → Nat) (ad : Nat → Nat) (cA : Nat → ClassId) (nF : Nat) (u0 : ac_U) (p0 : Int32) (hR : ac_R rg u0) (hp0 : (26 : Int) ≤ p0.toInt ∧ p0.toInt ≤ 51) : ac_Mi l yX12_fresh (.code yX12_fresh cX12_fresh 2 (some .boolean) :: TB) 3 (dC, dI) vwCl (ac_ty cA) ad cA (TT nF) [.ref (ad 85), .int p0] u0 (fun (r : Int32) (u : ac_U) => ac_R rg u ∧ ac_Fr [(85, some 4), (85, some 11), (85, some 12), (85, some 13), (85, some 14), (85, some 15), (85, some 16)] u0 u ∧ ((0 : Int) ≤ r.toInt ∧ r.toInt ≤ 1) ∧ f_X12_fresh_85 u0 p0 = (u, r)) := by
  refine ac_Mi.of (cc := cX12_fresh) (maxL := 2) (ret := (some .boolean)) (by decide) rfl (Nat.le_of_ble_eq_true rfl) ?_
  intro p e s m below meth c A ls F hml hr hlocks hA hP hD hS hl
  have F : ac_X p s m [.ref (ad 85), .int p0].toArray c cX12_fresh RX12 TB (dC, dI) vwCl (ac_ty cA) := ⟨F.1, F.2.1, fun w h => F.2.2.1 w (List.mem_cons_of_mem _ h), F.2.2.2.1, F.2.2.2.2⟩
  have hl : lv_has ls 2 [(0, .ref (ad 85)), (1, .int p0)] := hl
  obtain ⟨RR, hRR⟩ : ∃ q, q = f_X12_fresh_85 u0 p0 := ⟨_, rfl⟩
  have hF : ac_Fr [(85, some 4), (85, some 11), (85, some 12), (85, some 13), (85, some 14), (85, some 15), (85, some 16)] u0 u0 := ac_Fr.rf
  have L74 : ∀ (u : ac_U) (H : Heap) (locs : List Loc) (ls : Array Slot), ac_R rg u → ac_Fr [(85, some 4), (85, some 11), (85, some 12), (85, some 13), (85, some 14), (85, some 15), (85, some 16)] u0 u → RR = (K_X12_fresh_85_74 u0 p0 u) → va_P (dC, dI) vwCl (ac_w ad cA (TT nF) u) H → va_D A (ac_w ad cA (TT nF) u) → va_S A s.heap H locs → lv_has ls 2 [(0, .ref (ad 85))] → W p l e (ac_rm 3) s m [.ref (ad 85), .int p0].toArray below meth c H locs 0 0 (MQ below (va_Qi (fun (r : Int32) (u : ac_U) => ac_R rg u ∧ ac_Fr [(85, some 4), (85, some 11), (85, some 12), (85, some 13), (85, some 14), (85, some 15), (85, some 16)] u0 u ∧ ((0 : Int) ≤ r.toInt ∧ r.toInt ≤ 1) ∧ f_X12_fresh_85 u0 p0 = (u, r)) (ac_B (dC, dI) vwCl (ac_ty cA) ad cA (TT nF) A) A) [.ref (ad 85), .int p0].toArray s 0 0 A) (F0 m 74 ls []) := by
    intro u H locs ls hR hF hC hP hD hS hl
    unfold K_X12_fresh_85_74 at hC
    refine lv_aload_n F.1 F.2.1 dX12_fresh_74 rfl (lv_at hl 0 rfl) ?_
    refine a_ic F (3 : Int32) dX12_fresh_75 (by decide) ?_
    refine a_Vi F hml hl.1 hA hP hD hS (As := [.int (3 : Int32)]) (x_X12_bad_85 l dC dI ad cA nF _ (3 : Int32) hR (by decide)) (cs_RX12_181 (d := 1) F.2.2.1 (by decide)) tc_85 rfl rfl rfl rfl (Nat.le_of_ble_eq_true rfl) dX12_fresh_76 ⟨Nat.le_refl 0, Nat.le_refl 0⟩ (fun r1 u1 H locs hq hP hD hS => ?_)
    obtain ⟨hR, hF1, gr1, hz1⟩ := hq
    have hF := hF.tr hF1 (by decide)
    have hC := bd_eq hC hz1
    exact a_retz F hr hlocks hP hD hS dX12_fresh_79 (i_01 (by omega)) ⟨hR, hF, (by omega : (0 : Int) ≤ r1.toInt ∧ r1.toInt ≤ 1), hRR.symm.trans hC⟩
  have hC : RR = f_X12_fresh_85 u0 p0 := hRR
  unfold f_X12_fresh_85 at hC
  refine lv_aload_n F.1 F.2.1 dX12_fresh_0 rfl (lv_at hl 0 rfl) ?_
  refine a_Vi F hml hl.1 hA hP hD hS (As := []) (x_X12_isName_85 l dC dI ad cA nF _  hR) (cs_RX12_194 (d := 1) F.2.2.1 (by decide)) tc_85 rfl rfl rfl rfl (Nat.le_of_ble_eq_true rfl) dX12_fresh_1 ⟨Nat.le_refl 0, Nat.le_refl 0⟩ (fun r2 uN2 H locs hq hP hD hS => ?_)
  obtain ⟨hu2, gr2, hz2⟩ := hq
  rw [hu2] at hP hD
  have hC := vl_eq hC hz2.symm
  refine z_ne F 13 dX12_fresh_4 (by decide) rfl (fun c3 => ?_) (fun c3 => ?_)
  · have hC := hC.trans (if_pos c3)
    refine lv_aload_n F.1 F.2.1 dX12_fresh_13 rfl (lv_at hl 0 rfl) ?_
    refine a_bp F (26 : Int32) dX12_fresh_14 (by decide) ?_
    refine lv_aload_n F.1 F.2.1 dX12_fresh_16 rfl (lv_at hl 0 rfl) ?_
    refine a_getr F inX12 hP 85 7 tc_85 rfl rfl (by decide) q1478 (fun _ h9 => h9) dX12_fresh_17 ?_
    refine a_ic F (1 : Int32) dX12_fresh_20 (by decide) ?_
    have g4 : (0 : Int) ≤ (u0.1 88 1).toInt ∧ (u0.1 88 1).toInt ≤ 8 := hR 88 1
    refine a_ialdK F hP 88 1 tc_88 rfl rfl (i_in ic_1 (by omega)) (v := (u0.1 88 1)) rfl dX12_fresh_21 ?_
    refine a_Vi F hml hl.1 hA hP hD hS (As := [.int (26 : Int32), .int (u0.1 88 1)]) (x_X12_find_85 l dC dI ad cA nF _ (26 : Int32) (u0.1 88 1) hR (by decide) (by omega) (by simp only [ic_26]; omega)) (cs_RX12_198 (d := 1) F.2.2.1 (by decide)) tc_85 rfl rfl rfl rfl (Nat.le_of_ble_eq_true rfl) dX12_fresh_22 ⟨Nat.le_refl 0, Nat.le_refl 0⟩ (fun r5 uN5 H locs hq hP hD hS => ?_)
    obtain ⟨hu5, gr5, xr5, hz5⟩ := hq
    rw [hu5] at hP hD
    have xr5 : -1 ≤ r5.toInt ∧ r5.toInt < (u0.1 88 1).toInt ∨ r5.toInt = -1 := xr5
    have hC := vl_eq hC hz5.symm
    refine z_ge F 74 dX12_fresh_25 (by decide) rfl (fun c6 => ?_) (fun c6 => ?_)
    · have hC := hC.trans (if_pos c6)
      exact L74 _ _ _ _ hR hF hC hP hD hS (lv_sub hl [0] rfl)
    · have hC := hC.trans (if_neg (by omega))
      refine lv_aload_n F.1 F.2.1 dX12_fresh_28 rfl (lv_at hl 0 rfl) ?_
      refine a_bp F (34 : Int32) dX12_fresh_29 (by decide) ?_
      refine lv_aload_n F.1 F.2.1 dX12_fresh_31 rfl (lv_at hl 0 rfl) ?_
      refine a_getr F inX12 hP 85 7 tc_85 rfl rfl (by decide) q1478 (fun _ h9 => h9) dX12_fresh_32 ?_
      refine a_ic F (4 : Int32) dX12_fresh_35 (by decide) ?_
      have g7 : (0 : Int) ≤ (u0.1 88 4).toInt ∧ (u0.1 88 4).toInt ≤ 4 := hR 88 4
      refine a_ialdK F hP 88 4 tc_88 rfl rfl (i_in ic_4 (by omega)) (v := (u0.1 88 4)) rfl dX12_fresh_36 ?_
      refine a_Vi F hml hl.1 hA hP hD hS (As := [.int (34 : Int32), .int (u0.1 88 4)]) (x_X12_find_85 l dC dI ad cA nF _ (34 : Int32) (u0.1 88 4) hR (by decide) (by omega) (by simp only [ic_34]; omega)) (cs_RX12_198 (d := 1) F.2.2.1 (by decide)) tc_85 rfl rfl rfl rfl (Nat.le_of_ble_eq_true rfl) dX12_fresh_37 ⟨Nat.le_refl 0, Nat.le_refl 0⟩ (fun r8 uN8 H locs hq hP hD hS => ?_)
      obtain ⟨hu8, gr8, xr8, hz8⟩ := hq
      rw [hu8] at hP hD
      have xr8 : -1 ≤ r8.toInt ∧ r8.toInt < (u0.1 88 4).toInt ∨ r8.toInt = -1 := xr8
      have hC := vl_eq hC hz8.symm
      refine z_ge F 74 dX12_fresh_40 (by decide) rfl (fun c9 => ?_) (fun c9 => ?_)
      · have hC := hC.trans (if_pos c9)
        exact L74 _ _ _ _ hR hF hC hP hD hS (lv_sub hl [0] rfl)
      · have hC := hC.trans (if_neg (by omega))
        refine lv_aload_n F.1 F.2.1 dX12_fresh_43 rfl (lv_at hl 0 rfl) ?_
        refine a_bp F (38 : Int32) dX12_fresh_44 (by decide) ?_
        refine lv_aload_n F.1 F.2.1 dX12_fresh_46 rfl (lv_at hl 0 rfl) ?_
        refine a_getr F inX12 hP 85 7 tc_85 rfl rfl (by decide) q1478 (fun _ h9 => h9) dX12_fresh_47 ?_
        refine a_ic F (5 : Int32) dX12_fresh_50 (by decide) ?_
        have g10 : (0 : Int) ≤ (u0.1 88 5).toInt ∧ (u0.1 88 5).toInt ≤ 6 := hR 88 5
        refine a_ialdK F hP 88 5 tc_88 rfl rfl (i_in ic_5 (by omega)) (v := (u0.1 88 5)) rfl dX12_fresh_51 ?_
        refine a_Vi F hml hl.1 hA hP hD hS (As := [.int (38 : Int32), .int (u0.1 88 5)]) (x_X12_find_85 l dC dI ad cA nF _ (38 : Int32) (u0.1 88 5) hR (by decide) (by omega) (by simp only [ic_38]; omega)) (cs_RX12_198 (d := 1) F.2.2.1 (by decide)) tc_85 rfl rfl rfl rfl (Nat.le_of_ble_eq_true rfl) dX12_fresh_52 ⟨Nat.le_refl 0, Nat.le_refl 0⟩ (fun r11 uN11 H locs hq hP hD hS => ?_)
        obtain ⟨hu11, gr11, xr11, hz11⟩ := hq
        rw [hu11] at hP hD
        have xr11 : -1 ≤ r11.toInt ∧ r11.toInt < (u0.1 88 5).toInt ∨ r11.toInt = -1 := xr11
        have hC := vl_eq hC hz11.symm
        refine z_ge F 74 dX12_fresh_55 (by decide) rfl (fun c12 => ?_) (fun c12 => ?_)
        · have hC := hC.trans (if_pos c12)
          exact L74 _ _ _ _ hR hF hC hP hD hS (lv_sub hl [0] rfl)
        · have hC := hC.trans (if_neg (by omega))
          refine lv_aload_n F.1 F.2.1 dX12_fresh_58 rfl (lv_at hl 0 rfl) ?_
          refine a_bp F (44 : Int32) dX12_fresh_59 (by decide) ?_
          refine lv_aload_n F.1 F.2.1 dX12_fresh_61 rfl (lv_at hl 0 rfl) ?_
          refine a_getr F inX12 hP 85 7 tc_85 rfl rfl (by decide) q1478 (fun _ h9 => h9) dX12_fresh_62 ?_
          refine a_bp F (6 : Int32) dX12_fresh_65 (by decide) ?_
          have g13 : (0 : Int) ≤ (u0.1 88 6).toInt ∧ (u0.1 88 6).toInt ≤ 8 := hR 88 6
          refine a_ialdK F hP 88 6 tc_88 rfl rfl (i_in ic_6 (by omega)) (v := (u0.1 88 6)) rfl dX12_fresh_67 ?_
          refine a_Vi F hml hl.1 hA hP hD hS (As := [.int (44 : Int32), .int (u0.1 88 6)]) (x_X12_find_85 l dC dI ad cA nF _ (44 : Int32) (u0.1 88 6) hR (by decide) (by omega) (by simp only [ic_44]; omega)) (cs_RX12_198 (d := 1) F.2.2.1 (by decide)) tc_85 rfl rfl rfl rfl (Nat.le_of_ble_eq_true rfl) dX12_fresh_68 ⟨Nat.le_refl 0, Nat.le_refl 0⟩ (fun r14 uN14 H locs hq hP hD hS => ?_)
          obtain ⟨hu14, gr14, xr14, hz14⟩ := hq
          rw [hu14] at hP hD
          have xr14 : -1 ≤ r14.toInt ∧ r14.toInt < (u0.1 88 6).toInt ∨ r14.toInt = -1 := xr14
          have hC := vl_eq hC hz14.symm
          refine z_lt F 80 dX12_fresh_71 (by decide) rfl (fun c15 => ?_) (fun c15 => ?_)
          · have hC := hC.trans (if_pos c15)
            refine lv_aload_n F.1 F.2.1 dX12_fresh_80 rfl (lv_at hl 0 rfl) ?_
            refine a_getr F inX12 hP 85 9 tc_85 rfl rfl (by decide) q1480 (fun _ h9 => h9) dX12_fresh_81 ?_
            refine lv_iload_n F.1 F.2.1 dX12_fresh_84 rfl (lv_at hl 1 rfl) ?_
            refine lv_aload_n F.1 F.2.1 dX12_fresh_85 rfl (lv_at hl 0 rfl) ?_
            refine a_getl F inX12 hP 85 17 tc_85 rfl rfl (by decide) q1488 (fun _ h9 => h9) (v := (u0.2 85 17)) rfl dX12_fresh_86 ?_
            refine a_last F hP hD hS 90 tc_90 rfl (i_in rfl (by omega)) dX12_fresh_89 (fun H locs hP hD hS => ?_)
            have hR := ac_slR hD hR
            have hF := ac_slF hD hF
            refine lv_aload_n F.1 F.2.1 dX12_fresh_90 rfl (lv_at hl 0 rfl) ?_
            refine a_Vv F hml hl.1 hA hP hD hS (As := []) (x_X12_next_85 l dC dI ad cA nF _  hR) (cs_RX12_184 (d := 2) F.2.2.1 (by decide)) tc_85 rfl rfl rfl rfl (Nat.le_of_ble_eq_true rfl) dX12_fresh_91 ⟨Nat.le_refl 0, Nat.le_refl 0⟩ (fun u16 H locs hq hP hD hS => ?_)
            obtain ⟨hR, hF16, hz16⟩ := hq
            have hF := hF.tr hF16 (by decide)
            have hC := vl_eq hC hz16.symm
            refine a_ic F (1 : Int32) dX12_fresh_94 (by decide) ?_
            exact a_retz F hr hlocks hP hD hS dX12_fresh_95 (Or.inr rfl) ⟨hR, hF, (by decide), hRR.symm.trans hC⟩
          · have hC := hC.trans (if_neg (by omega))
            exact L74 _ _ _ _ hR hF hC hP hD hS (lv_sub hl [0] rfl)
  · have hC := hC.trans (if_neg (by omega))
    refine lv_aload_n F.1 F.2.1 dX12_fresh_7 rfl (lv_at hl 0 rfl) ?_
    refine a_ic F (1 : Int32) dX12_fresh_8 (by decide) ?_
    refine a_Vi F hml hl.1 hA hP hD hS (As := [.int (1 : Int32)]) (x_X12_bad_85 l dC dI ad cA nF _ (1 : Int32) hR (by decide)) (cs_RX12_181 (d := 1) F.2.2.1 (by decide)) tc_85 rfl rfl rfl rfl (Nat.le_of_ble_eq_true rfl) dX12_fresh_9 ⟨Nat.le_refl 0, Nat.le_refl 0⟩ (fun r17 u17 H locs hq hP hD hS => ?_)
    obtain ⟨hR, hF17, gr17, hz17⟩ := hq
    have hF := hF.tr hF17 (by decide)
    have hC := bd_eq hC hz17
    exact a_retz F hr hlocks hP hD hS dX12_fresh_12 (i_01 (by omega)) ⟨hR, hF, (by omega : (0 : Int) ≤ r17.toInt ∧ r17.toInt ≤ 1), hRR.symm.trans hC⟩

def K_X12_readPromise_85_301 (u0 : ac_U) (u : ac_U) : ac_U × Int32 := (vl ((u.1 88 6) + (1 : Int32)) (fun (v2 : Int32) => ((pI u 88 6 v2), (1 : Int32))))
def K_X12_readPromise_85_245 (u0 : ac_U) (u : ac_U) (x1 : Int32) : ac_U × Int32 := (vl ((82 : Int32) + x1) (fun (v3 : Int32) => (vl (f_X12_isWord_85 (pI u 88 v3.toNatClampNeg (0 : Int32)) (129117125440371 : Int64)) (fun (r5 : Int32) => (if r5.toInt = 0 then (K_X12_readPromise_85_301 u0 (pI u 88 v3.toNatClampNeg (0 : Int32))) else (vl (f_X12_next_85 (pI u 88 v3.toNatClampNeg (0 : Int32))) (fun (u7 : ac_U) => (bd (f_X12_takesName_85 u7 (38 : Int32) (u7.1 88 5)) (fun (u9 : ac_U) (r9 : Int32) => (if r9.toInt ≠ 0 then (vl ((82 : Int32) + x1) (fun (v11 : Int32) => (vl ((u9.1 85 18) + (1 : Int32)) (fun (v12 : Int32) => (K_X12_readPromise_85_301 u0 (pI u9 88 v11.toNatClampNeg v12)))))) else (u9, (0 : Int32))))))))))))
def K_X12_readPromise_85_230 (u0 : ac_U) (u : ac_U) (x1 : Int32) (z1 : Int32) (z2 : Int32) : ac_U × Int32 := (vl (f_X12_isWord_85 (pI u 88 z1.toNatClampNeg z2) (1700881256 : Int64)) (fun (r14 : Int32) => (if r14.toInt = 0 then (K_X12_readPromise_85_245 u0 (pI u 88 z1.toNatClampNeg z2) x1) else (vl (f_X12_next_85 (pI u 88 z1.toNatClampNeg z2)) (fun (u16 : ac_U) => (K_X12_readPromise_85_245 u0 u16 x1))))))
def K_X12_readPromise_85_50 (u0 : ac_U) (u : ac_U) : ac_U × Int32 := (u, (0 : Int32))
def f_X12_readPromise_85 (u0 : ac_U) : ac_U × Int32 := (if (u0.1 88 6).toInt ≠ (8 : Int) then (vl (f_X12_next_85 u0) (fun (u19 : ac_U) => (vl ((44 : Int32) + (u0.1 88 6)) (fun (v20 : Int32) => (bd (f_X12_fresh_85 u19 v20) (fun (u21 : ac_U) (r21 : Int32) => (if r21.toInt = 0 then (K_X12_readPromise_85_50 u0 u21) else (bd (f_X12_takesName_85 u21 (34 : Int32) (u21.1 88 4)) (fun (u24 : ac_U) (r24 : Int32) => (if r24.toInt ≠ 0 then (vl ((26 : Int32) + (u0.1 88 6)) (fun (v26 : Int32) => (vl ((pI u24 88 v26.toNatClampNeg (u24.1 85 18)).1 88 (5 : Int32).toNatClampNeg) (fun (v27 : Int32) => (bd (f_X12_takesName_85 (pI u24 88 v26.toNatClampNeg (u24.1 85 18)) (38 : Int32) v27) (fun (u28 : ac_U) (r28 : Int32) => (if r28.toInt ≠ 0 then (vl ((34 : Int32) + (u0.1 88 6)) (fun (v30 : Int32) => (vl ((pI u28 88 v30.toNatClampNeg (u28.1 85 18)).1 88 (1 : Int32).toNatClampNeg) (fun (v31 : Int32) => (bd (f_X12_takesName_85 (pI u28 88 v30.toNatClampNeg (u28.1 85 18)) (26 : Int32) v31) (fun (u32 : ac_U) (r32 : Int32) => (if r32.toInt ≠ 0 then (vl ((42 : Int32) + (u0.1 88 6)) (fun (v34 : Int32) => (bd (f_X12_takes_85 (pI u32 88 v34.toNatClampNeg (u32.1 85 18)) (0 : Int32) (23 : Int32)) (fun (u35 : ac_U) (r35 : Int32) => (if r35.toInt ≠ 0 then (vl ((50 : Int32) + (u0.1 88 6)) (fun (v37 : Int32) => (vl ((50 : Int32) + (u0.1 88 6)) (fun (v38 : Int32) => (vl ((pI u35 88 v37.toNatClampNeg (u35.1 85 18)).1 88 v38.toNatClampNeg) (fun (v39 : Int32) => (bd (f_X12_takes_85 (pI u35 88 v37.toNatClampNeg (u35.1 85 18)) v39 (23 : Int32)) (fun (u40 : ac_U) (r40 : Int32) => (if r40.toInt ≠ 0 then (vl ((58 : Int32) + (u0.1 88 6)) (fun (v42 : Int32) => (bd (f_X12_takes_85 (pI u40 88 v42.toNatClampNeg (u40.1 85 18)) (1 : Int32) (3 : Int32)) (fun (u43 : ac_U) (r43 : Int32) => (if r43.toInt ≠ 0 then (vl ((66 : Int32) + (u0.1 88 6)) (fun (v45 : Int32) => (vl ((74 : Int32) + (u0.1 88 6)) (fun (v46 : Int32) => (vl (f_X12_isWord_85 (pI u43 88 v45.toNatClampNeg (u43.1 85 18)) (1700881256 : Int64)) (fun (r47 : Int32) => (if r47.toInt = 0 then (K_X12_readPromise_85_230 u0 (pI u43 88 v45.toNatClampNeg (u43.1 85 18)) (u0.1 88 6) v46 (0 : Int32)) else (K_X12_readPromise_85_230 u0 (pI u43 88 v45.toNatClampNeg (u43.1 85 18)) (u0.1 88 6) v46 (1 : Int32))))))))) else (u43, (0 : Int32))))))) else (u40, (0 : Int32))))))))))) else (u35, (0 : Int32))))))) else (u32, (0 : Int32))))))))) else (u28, (0 : Int32))))))))) else (K_X12_readPromise_85_50 u0 u24))))))))))) else (bd (f_X12_bad_85 u0 (4 : Int32)) (fun (u49 : ac_U) (r49 : Int32) => (u49, r49))))
set_option maxHeartbeats 600000 in
set_option maxRecDepth 100000 in
theorem x_X12_readPromise_85 (l : Launch) (dC : Nat → ClassId) (dI : Nat → Nat → Nat) (ad : Nat → Nat) (cA : Nat → ClassId) (nF : Nat) (u0 : ac_U)  (hR : ac_R rg u0) (hK_HI : hsI u0) (hK_AH : ahI u0) : ac_Mi l yX12_readPromise (.code yX12_readPromise cX12_readPromise 2 (some .boolean) :: TB) 4 (dC, dI) vwCl (ac_ty cA) ad cA (TT nF) [.ref (ad 85)] u0 (fun (r : Int32) (u : ac_U) => ac_R rg u ∧ ac_Fr [(85, some 4), (85, some 11), (85, some 12), (85, some 13), (85, some 14), (85, some 15), (85, some 16), (85, some 18), (88, none)] u0 u ∧ ((0 : Int) ≤ r.toInt ∧ r.toInt ≤ 1) ∧ hsI u ∧ ahI u ∧ (r.toInt ≠ 0 → (s7P u0) u) ∧ f_X12_readPromise_85 u0 = (u, r)) := by
  refine ac_Mi.of (cc := cX12_readPromise) (maxL := 2) (ret := (some .boolean)) (by decide) rfl (Nat.le_of_ble_eq_true rfl) ?_
  intro p e s m below meth c A ls F hml hr hlocks hA hP hD hS hl
  have F : ac_X p s m [.ref (ad 85)].toArray c cX12_readPromise RX12 TB (dC, dI) vwCl (ac_ty cA) := ⟨F.1, F.2.1, fun w h => F.2.2.1 w (List.mem_cons_of_mem _ h), F.2.2.2.1, F.2.2.2.2⟩
  have hl : lv_has ls 2 [(0, .ref (ad 85))] := hl
  obtain ⟨RR, hRR⟩ : ∃ q, q = f_X12_readPromise_85 u0 := ⟨_, rfl⟩
  have hF : ac_Fr [(85, some 4), (85, some 11), (85, some 12), (85, some 13), (85, some 14), (85, some 15), (85, some 16), (85, some 18), (88, none)] u0 u0 := ac_Fr.rf
  have hK_S7 : (s7I u0) u0 := s7_rf
  have L301 : ∀ (u : ac_U) (H : Heap) (locs : List Loc) (ls : Array Slot), ac_R rg u → ac_Fr [(85, some 4), (85, some 11), (85, some 12), (85, some 13), (85, some 14), (85, some 15), (85, some 16), (85, some 18), (88, none)] u0 u → hsI u → (s7I u0) u → ahI u → (0 : Int) ≤ (u.1 85 18).toInt ∧ (u.1 85 18).toInt ≤ 5 → (0 : Int) ≤ (u.1 88 6).toInt ∧ (u.1 88 6).toInt ≤ 7 → RR = (K_X12_readPromise_85_301 u0 u) → va_P (dC, dI) vwCl (ac_w ad cA (TT nF) u) H → va_D A (ac_w ad cA (TT nF) u) → va_S A s.heap H locs → lv_has ls 2 [(0, .ref (ad 85))] → W p l e (ac_rm 4) s m [.ref (ad 85)].toArray below meth c H locs 0 0 (MQ below (va_Qi (fun (r : Int32) (u : ac_U) => ac_R rg u ∧ ac_Fr [(85, some 4), (85, some 11), (85, some 12), (85, some 13), (85, some 14), (85, some 15), (85, some 16), (85, some 18), (88, none)] u0 u ∧ ((0 : Int) ≤ r.toInt ∧ r.toInt ≤ 1) ∧ hsI u ∧ ahI u ∧ (r.toInt ≠ 0 → (s7P u0) u) ∧ f_X12_readPromise_85 u0 = (u, r)) (ac_B (dC, dI) vwCl (ac_ty cA) ad cA (TT nF) A) A) [.ref (ad 85)].toArray s 0 0 A) (F0 m 301 ls []) := by
    intro u H locs ls hR hF hK_HI hK_S7 hK_AH f0 f1 hC hP hD hS hl
    unfold K_X12_readPromise_85_301 at hC
    refine lv_aload_n F.1 F.2.1 dX12_readPromise_301 rfl (lv_at hl 0 rfl) ?_
    refine a_getr F inX12 hP 85 7 tc_85 rfl rfl (by decide) q1478 (fun _ h9 => h9) dX12_readPromise_302 ?_
    refine a_bp F (6 : Int32) dX12_readPromise_305 (by decide) ?_
    refine lv_dup2_11 F.1 F.2.1 dX12_readPromise_307 rfl rfl ?_
    have g1 : (0 : Int) ≤ (u.1 88 6).toInt ∧ (u.1 88 6).toInt ≤ 8 := hR 88 6
    refine a_ialdK F hP 88 6 tc_88 rfl rfl (i_in ic_6 (by omega)) (v := (u.1 88 6)) rfl dX12_readPromise_308 ?_
    refine a_ic F (1 : Int32) dX12_readPromise_309 (by decide) ?_
    refine a_iaddX F dX12_readPromise_310 rfl ic_1 (by omega) (fun v2 hv2 yv2 => ?_)
    have hC := vl_eq hC yv2
    refine a_iastK F hP hD hS 88 6 tc_88 rfl rfl (i_in ic_6 (by omega)) dX12_readPromise_311 (fun H locs hP hD hS => ?_)
    have hR := hR.si (c := 88) (k := 6) (v := v2) (by omega : (0 : Int) ≤ v2.toInt ∧ v2.toInt ≤ 8)
    have hF := hF.si (c := 88) (k := 6) (v := v2) rfl
    have hO_HI := hK_HI
    have hO_S7 := hK_S7
    have hO_AH := hK_AH
    have hN_S7p := s7_inc (k := 6) hO_S7 (by omega) (x := (u.1 88 6)) (v := v2) (rfl) (by omega)
    have hK_HI := sp_si sp_HI hK_HI (c := 88) (k := 6) (v := v2) (fun j9 h9 q9 => by rw [q9] at h9; exact absurd h9 (by decide))
    have hK_AH := sp_si sp_AH hK_AH (c := 88) (k := 6) (v := v2) (fun j9 h9 q9 => by rw [q9] at h9; exact absurd h9 (by decide))
    have hK_S7p := hN_S7p
    refine a_ic F (1 : Int32) dX12_readPromise_312 (by decide) ?_
    exact a_retz F hr hlocks hP hD hS dX12_readPromise_313 (Or.inr rfl) ⟨hR, hF, (by decide), hK_HI, hK_AH, (fun _ => hK_S7p), hRR.symm.trans hC⟩
  have L245 : ∀ (x1 : Int32) (u : ac_U) (H : Heap) (locs : List Loc) (ls : Array Slot), ac_R rg u → ac_Fr [(85, some 4), (85, some 11), (85, some 12), (85, some 13), (85, some 14), (85, some 15), (85, some 16), (85, some 18), (88, none)] u0 u → hsI u → (s7I u0) u → ahI u → (0 : Int) ≤ x1.toInt ∧ x1.toInt ≤ 7 → (1 : Int) ≤ (u.1 85 18).toInt ∧ (u.1 85 18).toInt ≤ 3 → (0 : Int) ≤ (u.1 88 6).toInt ∧ (u.1 88 6).toInt ≤ 7 → RR = (K_X12_readPromise_85_245 u0 u x1) → va_P (dC, dI) vwCl (ac_w ad cA (TT nF) u) H → va_D A (ac_w ad cA (TT nF) u) → va_S A s.heap H locs → lv_has ls 2 [(0, .ref (ad 85)), (1, .int x1)] → W p l e (ac_rm 4) s m [.ref (ad 85)].toArray below meth c H locs 0 0 (MQ below (va_Qi (fun (r : Int32) (u : ac_U) => ac_R rg u ∧ ac_Fr [(85, some 4), (85, some 11), (85, some 12), (85, some 13), (85, some 14), (85, some 15), (85, some 16), (85, some 18), (88, none)] u0 u ∧ ((0 : Int) ≤ r.toInt ∧ r.toInt ≤ 1) ∧ hsI u ∧ ahI u ∧ (r.toInt ≠ 0 → (s7P u0) u) ∧ f_X12_readPromise_85 u0 = (u, r)) (ac_B (dC, dI) vwCl (ac_ty cA) ad cA (TT nF) A) A) [.ref (ad 85)].toArray s 0 0 A) (F0 m 245 ls []) := by
    intro x1 u H locs ls hR hF hK_HI hK_S7 hK_AH f0 f1 f2 hC hP hD hS hl
    unfold K_X12_readPromise_85_245 at hC
    refine lv_aload_n F.1 F.2.1 dX12_readPromise_245 rfl (lv_at hl 0 rfl) ?_
    refine a_getr F inX12 hP 85 7 tc_85 rfl rfl (by decide) q1478 (fun _ h9 => h9) dX12_readPromise_246 ?_
    refine a_bp F (82 : Int32) dX12_readPromise_249 (by decide) ?_
    refine lv_iload_n F.1 F.2.1 dX12_readPromise_251 rfl (lv_at hl 1 rfl) ?_
    refine a_iaddX F dX12_readPromise_252 ic_82 rfl (by omega) (fun v3 hv3 yv3 => ?_)
    have hC := vl_eq hC yv3
    refine a_ic F (0 : Int32) dX12_readPromise_253 (by decide) ?_
    have g4 : (0 : Int) ≤ (u.1 88 6).toInt ∧ (u.1 88 6).toInt ≤ 8 := hR 88 6
    refine a_iast F hP hD hS 88 tc_88 rfl (i_in rfl (by omega)) dX12_readPromise_254 (fun H locs hP hD hS => ?_)
    have hR := hR.si (c := 88) (k := v3.toNatClampNeg) (v := (0 : Int32)) (rs_88_82_89 (by omega) ⟨i_lo _, i_hi _⟩)
    have hF := hF.si (c := 88) (k := v3.toNatClampNeg) (v := (0 : Int32)) rfl
    have hK_HI := sp_si sp_HI hK_HI (c := 88) (k := v3.toNatClampNeg) (v := (0 : Int32)) (fun j9 h9 => by have q8 := sp_mem h9; simp at q8; have q9 := i_cl (x := v3) (by omega); omega)
    have hK_S7 := sp_si (sp_s7 _) hK_S7 (c := 88) (k := v3.toNatClampNeg) (v := (0 : Int32)) (fun j9 h9 => by have q8 := sp_mem h9; simp at q8; have q9 := i_cl (x := v3) (by omega); omega)
    have hK_AH := sp_si sp_AH hK_AH (c := 88) (k := v3.toNatClampNeg) (v := (0 : Int32)) (fun j9 h9 => by have q8 := sp_mem h9; simp at q8; have q9 := i_cl (x := v3) (by omega); omega)
    refine lv_aload_n F.1 F.2.1 dX12_readPromise_255 rfl (lv_at hl 0 rfl) ?_
    refine lv_ldc2 (v := (129117125440371 : Int64)) F.1 F.2.1 F.2.2.2.1 (F.2.2.1 _ q1453) dX12_readPromise_256 ?_
    refine a_Vi F hml hl.1 hA hP hD hS (As := [.long (129117125440371 : Int64)]) (x_X12_isWord_85 l dC dI ad cA nF _ (129117125440371 : Int64) hR) (cs_RX12_206 (d := 1) F.2.2.1 (by decide)) tc_85 rfl rfl rfl rfl (Nat.le_of_ble_eq_true rfl) dX12_readPromise_259 ⟨Nat.le_refl 0, Nat.le_refl 0⟩ (fun r5 uN5 H locs hq hP hD hS => ?_)
    obtain ⟨hu5, gr5, hz5⟩ := hq
    rw [hu5] at hP hD
    have hC := vl_eq hC hz5.symm
    refine z_eq F 301 dX12_readPromise_262 (by decide) rfl (fun c6 => ?_) (fun c6 => ?_)
    · have hC := hC.trans (if_pos c6)
      exact L301 _ _ _ _ hR hF hK_HI hK_S7 hK_AH (by omega : (0 : Int) ≤ (u.1 85 18).toInt ∧ (u.1 85 18).toInt ≤ 5) (i_trB (ac_ne (c := 88) (k := 6) (i := v3) (by have q9 := i_cl (x := v3) (by omega); omega)) (by omega : (0 : Int) ≤ (u.1 88 6).toInt ∧ (u.1 88 6).toInt ≤ 7)) hC hP hD hS (lv_sub hl [0] rfl)
    · have hC := hC.trans (if_neg (by omega))
      refine lv_aload_n F.1 F.2.1 dX12_readPromise_265 rfl (lv_at hl 0 rfl) ?_
      refine a_Vv F hml hl.1 hA hP hD hS (As := []) (x_X12_next_85 l dC dI ad cA nF _  hR) (cs_RX12_184 (d := 2) F.2.2.1 (by decide)) tc_85 rfl rfl rfl rfl (Nat.le_of_ble_eq_true rfl) dX12_readPromise_266 ⟨Nat.le_refl 0, Nat.le_refl 0⟩ (fun u7 H locs hq hP hD hS => ?_)
      obtain ⟨hR, hF7, hz7⟩ := hq
      have hF := hF.tr hF7 (by decide)
      have hK_HI := sp_fr sp_HI hF7 (by decide) hK_HI
      have hK_S7 := sp_fr (sp_s7 _) hF7 (by decide) hK_S7
      have hK_AH := sp_fr sp_AH hF7 (by decide) hK_AH
      have hC := vl_eq hC hz7.symm
      refine lv_aload_n F.1 F.2.1 dX12_readPromise_269 rfl (lv_at hl 0 rfl) ?_
      refine a_bp F (38 : Int32) dX12_readPromise_270 (by decide) ?_
      refine lv_aload_n F.1 F.2.1 dX12_readPromise_272 rfl (lv_at hl 0 rfl) ?_
      refine a_getr F inX12 hP 85 7 tc_85 rfl rfl (by decide) q1478 (fun _ h9 => h9) dX12_readPromise_273 ?_
      refine a_ic F (5 : Int32) dX12_readPromise_276 (by decide) ?_
      have g8 : (0 : Int) ≤ (u7.1 88 5).toInt ∧ (u7.1 88 5).toInt ≤ 6 := hR 88 5
      refine a_ialdK F hP 88 5 tc_88 rfl rfl (i_in ic_5 (by omega)) (v := (u7.1 88 5)) rfl dX12_readPromise_277 ?_
      refine a_Vi F hml hl.1 hA hP hD hS (As := [.int (38 : Int32), .int (u7.1 88 5)]) (x_X12_takesName_85 l dC dI ad cA nF _ (38 : Int32) (u7.1 88 5) hR (by decide) (by omega) (by simp only [ic_38]; omega)) (cs_RX12_220 (d := 3) F.2.2.1 (by decide)) tc_85 rfl rfl rfl rfl (Nat.le_of_ble_eq_true rfl) dX12_readPromise_278 ⟨Nat.le_refl 0, Nat.le_refl 0⟩ (fun r9 u9 H locs hq hP hD hS => ?_)
      obtain ⟨hR, hF9, gr9, xr9, hz9⟩ := hq
      have hF := hF.tr hF9 (by decide)
      have hK_HI := sp_fr sp_HI hF9 (by decide) hK_HI
      have hK_S7 := sp_fr (sp_s7 _) hF9 (by decide) hK_S7
      have hK_AH := sp_fr sp_AH hF9 (by decide) hK_AH
      have xr9 : r9.toInt ≠ 0 → 0 ≤ (u9.1 85 18).toInt ∧ (u9.1 85 18).toInt < (u7.1 88 5).toInt := xr9
      have hC := bd_eq hC hz9
      refine z_ne F 286 dX12_readPromise_281 (by decide) rfl (fun c10 => ?_) (fun c10 => ?_)
      · have hC := hC.trans (if_pos c10)
        refine lv_aload_n F.1 F.2.1 dX12_readPromise_286 rfl (lv_at hl 0 rfl) ?_
        refine a_getr F inX12 hP 85 7 tc_85 rfl rfl (by decide) q1478 (fun _ h9 => h9) dX12_readPromise_287 ?_
        refine a_bp F (82 : Int32) dX12_readPromise_290 (by decide) ?_
        refine lv_iload_n F.1 F.2.1 dX12_readPromise_292 rfl (lv_at hl 1 rfl) ?_
        refine a_iaddX F dX12_readPromise_293 ic_82 rfl (by omega) (fun v11 hv11 yv11 => ?_)
        have hC := vl_eq hC yv11
        refine lv_aload_n F.1 F.2.1 dX12_readPromise_294 rfl (lv_at hl 0 rfl) ?_
        refine a_geti F inX12 hP 85 18 tc_85 rfl rfl (by decide) q1489 (fun _ h9 => h9) (v := (u9.1 85 18)) (rfl) dX12_readPromise_295 ?_
        refine a_ic F (1 : Int32) dX12_readPromise_298 (by decide) ?_
        refine a_iaddX F dX12_readPromise_299 rfl ic_1 (by omega) (fun v12 hv12 yv12 => ?_)
        have hC := vl_eq hC yv12
        refine a_iast F hP hD hS 88 tc_88 rfl (i_in rfl (by omega)) dX12_readPromise_300 (fun H locs hP hD hS => ?_)
        have hR := hR.si (c := 88) (k := v11.toNatClampNeg) (v := v12) (rs_88_82_89 (by omega) ⟨i_lo _, i_hi _⟩)
        have hF := hF.si (c := 88) (k := v11.toNatClampNeg) (v := v12) rfl
        have hK_HI := sp_si sp_HI hK_HI (c := 88) (k := v11.toNatClampNeg) (v := v12) (fun j9 h9 => by have q8 := sp_mem h9; simp at q8; have q9 := i_cl (x := v11) (by omega); omega)
        have hK_S7 := sp_si (sp_s7 _) hK_S7 (c := 88) (k := v11.toNatClampNeg) (v := v12) (fun j9 h9 => by have q8 := sp_mem h9; simp at q8; have q9 := i_cl (x := v11) (by omega); omega)
        have hK_AH := sp_si sp_AH hK_AH (c := 88) (k := v11.toNatClampNeg) (v := v12) (fun j9 h9 => by have q8 := sp_mem h9; simp at q8; have q9 := i_cl (x := v11) (by omega); omega)
        exact L301 _ _ _ _ hR hF hK_HI hK_S7 hK_AH (by omega : (0 : Int) ≤ (u9.1 85 18).toInt ∧ (u9.1 85 18).toInt ≤ 5) (i_trB ((ac_ne (c := 88) (k := 6) (i := v11) (by have q9 := i_cl (x := v11) (by omega); omega)).trans ((hF9 88 6 rfl).trans ((hF7 88 6 rfl).trans (ac_ne (c := 88) (k := 6) (i := v3) (by have q9 := i_cl (x := v3) (by omega); omega))))) (by omega : (0 : Int) ≤ (u.1 88 6).toInt ∧ (u.1 88 6).toInt ≤ 7)) hC hP hD hS (lv_sub hl [0] rfl)
      · have hC := hC.trans (if_neg (by omega))
        refine a_ic F (0 : Int32) dX12_readPromise_284 (by decide) ?_
        exact a_retz F hr hlocks hP hD hS dX12_readPromise_285 (Or.inl rfl) ⟨hR, hF, (by decide), hK_HI, hK_AH, (fun h9 => absurd (by decide) h9), hRR.symm.trans hC⟩
  have L230 : ∀ (x1 : Int32) (z1 : Int32) (z2 : Int32) (u : ac_U) (H : Heap) (locs : List Loc) (ls : Array Slot), ac_R rg u → ac_Fr [(85, some 4), (85, some 11), (85, some 12), (85, some 13), (85, some 14), (85, some 15), (85, some 16), (85, some 18), (88, none)] u0 u → hsI u → (s7I u0) u → ahI u → (0 : Int) ≤ x1.toInt ∧ x1.toInt ≤ 7 → (74 : Int) ≤ z1.toInt ∧ z1.toInt ≤ 81 → (0 : Int) ≤ z2.toInt ∧ z2.toInt ≤ 1 → (1 : Int) ≤ (u.1 85 18).toInt ∧ (u.1 85 18).toInt ≤ 3 → (0 : Int) ≤ (u.1 88 6).toInt ∧ (u.1 88 6).toInt ≤ 7 → RR = (K_X12_readPromise_85_230 u0 u x1 z1 z2) → va_P (dC, dI) vwCl (ac_w ad cA (TT nF) u) H → va_D A (ac_w ad cA (TT nF) u) → va_S A s.heap H locs → lv_has ls 2 [(0, .ref (ad 85)), (1, .int x1)] → W p l e (ac_rm 4) s m [.ref (ad 85)].toArray below meth c H locs 0 0 (MQ below (va_Qi (fun (r : Int32) (u : ac_U) => ac_R rg u ∧ ac_Fr [(85, some 4), (85, some 11), (85, some 12), (85, some 13), (85, some 14), (85, some 15), (85, some 16), (85, some 18), (88, none)] u0 u ∧ ((0 : Int) ≤ r.toInt ∧ r.toInt ≤ 1) ∧ hsI u ∧ ahI u ∧ (r.toInt ≠ 0 → (s7P u0) u) ∧ f_X12_readPromise_85 u0 = (u, r)) (ac_B (dC, dI) vwCl (ac_ty cA) ad cA (TT nF) A) A) [.ref (ad 85)].toArray s 0 0 A) (F0 m 230 ls [.int z2, .int z1, .ref (ad 88)]) := by
    intro x1 z1 z2 u H locs ls hR hF hK_HI hK_S7 hK_AH f0 f1 f2 f3 f4 hC hP hD hS hl
    unfold K_X12_readPromise_85_230 at hC
    have g13 : (0 : Int) ≤ (u.1 88 6).toInt ∧ (u.1 88 6).toInt ≤ 8 := hR 88 6
    refine a_iast F hP hD hS 88 tc_88 rfl (i_in rfl (by omega)) dX12_readPromise_230 (fun H locs hP hD hS => ?_)
    have hR := hR.si (c := 88) (k := z1.toNatClampNeg) (v := z2) (rs_88_74_81 (by omega) ⟨i_lo _, i_hi _⟩)
    have hF := hF.si (c := 88) (k := z1.toNatClampNeg) (v := z2) rfl
    have hK_HI := sp_si sp_HI hK_HI (c := 88) (k := z1.toNatClampNeg) (v := z2) (fun j9 h9 => by have q8 := sp_mem h9; simp at q8; have q9 := i_cl (x := z1) (by omega); omega)
    have hK_S7 := sp_si (sp_s7 _) hK_S7 (c := 88) (k := z1.toNatClampNeg) (v := z2) (fun j9 h9 => by have q8 := sp_mem h9; simp at q8; have q9 := i_cl (x := z1) (by omega); omega)
    have hK_AH := sp_si sp_AH hK_AH (c := 88) (k := z1.toNatClampNeg) (v := z2) (fun j9 h9 => by have q8 := sp_mem h9; simp at q8; have q9 := i_cl (x := z1) (by omega); omega)
    refine lv_aload_n F.1 F.2.1 dX12_readPromise_231 rfl (lv_at hl 0 rfl) ?_
    refine lv_ldc2 (v := (1700881256 : Int64)) F.1 F.2.1 F.2.2.2.1 (F.2.2.1 _ q1452) dX12_readPromise_232 ?_
    refine a_Vi F hml hl.1 hA hP hD hS (As := [.long (1700881256 : Int64)]) (x_X12_isWord_85 l dC dI ad cA nF _ (1700881256 : Int64) hR) (cs_RX12_206 (d := 1) F.2.2.1 (by decide)) tc_85 rfl rfl rfl rfl (Nat.le_of_ble_eq_true rfl) dX12_readPromise_235 ⟨Nat.le_refl 0, Nat.le_refl 0⟩ (fun r14 uN14 H locs hq hP hD hS => ?_)
    obtain ⟨hu14, gr14, hz14⟩ := hq
    rw [hu14] at hP hD
    have hC := vl_eq hC hz14.symm
    refine z_eq F 245 dX12_readPromise_238 (by decide) rfl (fun c15 => ?_) (fun c15 => ?_)
    · have hC := hC.trans (if_pos c15)
      exact L245 x1 _ _ _ _ hR hF hK_HI hK_S7 hK_AH (by omega) (by omega : (1 : Int) ≤ (u.1 85 18).toInt ∧ (u.1 85 18).toInt ≤ 3) (i_trB (ac_ne (c := 88) (k := 6) (i := z1) (by have q9 := i_cl (x := z1) (by omega); omega)) (by omega : (0 : Int) ≤ (u.1 88 6).toInt ∧ (u.1 88 6).toInt ≤ 7)) hC hP hD hS (lv_sub hl [0, 1] rfl)
    · have hC := hC.trans (if_neg (by omega))
      refine lv_aload_n F.1 F.2.1 dX12_readPromise_241 rfl (lv_at hl 0 rfl) ?_
      refine a_Vv F hml hl.1 hA hP hD hS (As := []) (x_X12_next_85 l dC dI ad cA nF _  hR) (cs_RX12_184 (d := 2) F.2.2.1 (by decide)) tc_85 rfl rfl rfl rfl (Nat.le_of_ble_eq_true rfl) dX12_readPromise_242 ⟨Nat.le_refl 0, Nat.le_refl 0⟩ (fun u16 H locs hq hP hD hS => ?_)
      obtain ⟨hR, hF16, hz16⟩ := hq
      have hF := hF.tr hF16 (by decide)
      have hK_HI := sp_fr sp_HI hF16 (by decide) hK_HI
      have hK_S7 := sp_fr (sp_s7 _) hF16 (by decide) hK_S7
      have hK_AH := sp_fr sp_AH hF16 (by decide) hK_AH
      have hC := vl_eq hC hz16.symm
      exact L245 x1 _ _ _ _ hR hF hK_HI hK_S7 hK_AH (by omega) (i_trB (hF16 85 18 rfl) (by omega : (1 : Int) ≤ (u.1 85 18).toInt ∧ (u.1 85 18).toInt ≤ 3)) (i_trB ((hF16 88 6 rfl).trans (ac_ne (c := 88) (k := 6) (i := z1) (by have q9 := i_cl (x := z1) (by omega); omega))) (by omega : (0 : Int) ≤ (u.1 88 6).toInt ∧ (u.1 88 6).toInt ≤ 7)) hC hP hD hS (lv_sub hl [0, 1] rfl)
  have L50 : ∀ (u : ac_U) (H : Heap) (locs : List Loc) (ls : Array Slot), ac_R rg u → ac_Fr [(85, some 4), (85, some 11), (85, some 12), (85, some 13), (85, some 14), (85, some 15), (85, some 16), (85, some 18), (88, none)] u0 u → hsI u → ahI u → (0 : Int) ≤ (u.1 88 6).toInt ∧ (u.1 88 6).toInt ≤ 7 → RR = (K_X12_readPromise_85_50 u0 u) → va_P (dC, dI) vwCl (ac_w ad cA (TT nF) u) H → va_D A (ac_w ad cA (TT nF) u) → va_S A s.heap H locs → lv_has ls 2 [] → W p l e (ac_rm 4) s m [.ref (ad 85)].toArray below meth c H locs 0 0 (MQ below (va_Qi (fun (r : Int32) (u : ac_U) => ac_R rg u ∧ ac_Fr [(85, some 4), (85, some 11), (85, some 12), (85, some 13), (85, some 14), (85, some 15), (85, some 16), (85, some 18), (88, none)] u0 u ∧ ((0 : Int) ≤ r.toInt ∧ r.toInt ≤ 1) ∧ hsI u ∧ ahI u ∧ (r.toInt ≠ 0 → (s7P u0) u) ∧ f_X12_readPromise_85 u0 = (u, r)) (ac_B (dC, dI) vwCl (ac_ty cA) ad cA (TT nF) A) A) [.ref (ad 85)].toArray s 0 0 A) (F0 m 50 ls []) := by
    intro u H locs ls hR hF hK_HI hK_AH f0 hC hP hD hS hl
    unfold K_X12_readPromise_85_50 at hC
    refine a_ic F (0 : Int32) dX12_readPromise_50 (by decide) ?_
    exact a_retz F hr hlocks hP hD hS dX12_readPromise_51 (Or.inl rfl) ⟨hR, hF, (by decide), hK_HI, hK_AH, (fun h9 => absurd (by decide) h9), hRR.symm.trans hC⟩
  have hC : RR = f_X12_readPromise_85 u0 := hRR
  unfold f_X12_readPromise_85 at hC
  refine lv_aload_n F.1 F.2.1 dX12_readPromise_0 rfl (lv_at hl 0 rfl) ?_
  refine a_getr F inX12 hP 85 7 tc_85 rfl rfl (by decide) q1478 (fun _ h9 => h9) dX12_readPromise_1 ?_
  refine a_bp F (6 : Int32) dX12_readPromise_4 (by decide) ?_
  have g17 : (0 : Int) ≤ (u0.1 88 6).toInt ∧ (u0.1 88 6).toInt ≤ 8 := hR 88 6
  refine a_ialdK F hP 88 6 tc_88 rfl rfl (i_in ic_6 (by omega)) (v := (u0.1 88 6)) rfl dX12_readPromise_6 ?_
  refine lv_istore_n (lv' := [(1, .int (u0.1 88 6)), (0, .ref (ad 85))]) F.1 F.2.1 dX12_readPromise_7 rfl hl (by decide) rfl (fun ls hl => ?_)
  refine lv_iload_n F.1 F.2.1 dX12_readPromise_8 rfl (lv_at hl 0 rfl) ?_
  refine a_bp F (8 : Int32) dX12_readPromise_9 (by decide) ?_
  refine b_ne F 20 dX12_readPromise_11 (by decide) rfl ic_8 (fun c18 => ?_) (fun c18 => ?_)
  · have hC := hC.trans (if_pos c18)
    refine lv_aload_n F.1 F.2.1 dX12_readPromise_20 rfl (lv_at hl 1 rfl) ?_
    refine a_Vv F hml hl.1 hA hP hD hS (As := []) (x_X12_next_85 l dC dI ad cA nF _  hR) (cs_RX12_184 (d := 2) F.2.2.1 (by decide)) tc_85 rfl rfl rfl rfl (Nat.le_of_ble_eq_true rfl) dX12_readPromise_21 ⟨Nat.le_refl 0, Nat.le_refl 0⟩ (fun u19 H locs hq hP hD hS => ?_)
    obtain ⟨hR, hF19, hz19⟩ := hq
    have hF := hF.tr hF19 (by decide)
    have hK_HI := sp_fr sp_HI hF19 (by decide) hK_HI
    have hK_AH := sp_fr sp_AH hF19 (by decide) hK_AH
    have hK_S7 := sp_fr (sp_s7 _) hF19 (by decide) hK_S7
    have hC := vl_eq hC hz19.symm
    refine lv_aload_n F.1 F.2.1 dX12_readPromise_24 rfl (lv_at hl 1 rfl) ?_
    refine a_bp F (44 : Int32) dX12_readPromise_25 (by decide) ?_
    refine lv_iload_n F.1 F.2.1 dX12_readPromise_27 rfl (lv_at hl 0 rfl) ?_
    refine a_iaddX F dX12_readPromise_28 ic_44 rfl (by omega) (fun v20 hv20 yv20 => ?_)
    have hC := vl_eq hC yv20
    refine a_Vi F hml hl.1 hA hP hD hS (As := [.int v20]) (x_X12_fresh_85 l dC dI ad cA nF _ v20 hR (by omega)) (cs_RX12_217 (d := 3) F.2.2.1 (by decide)) tc_85 rfl rfl rfl rfl (Nat.le_of_ble_eq_true rfl) dX12_readPromise_29 ⟨Nat.le_refl 0, Nat.le_refl 0⟩ (fun r21 u21 H locs hq hP hD hS => ?_)
    obtain ⟨hR, hF21, gr21, hz21⟩ := hq
    have hF := hF.tr hF21 (by decide)
    have hK_HI := sp_fr sp_HI hF21 (by decide) hK_HI
    have hK_AH := sp_fr sp_AH hF21 (by decide) hK_AH
    have hK_S7 := sp_fr (sp_s7 _) hF21 (by decide) hK_S7
    have hC := bd_eq hC hz21
    refine z_eq F 50 dX12_readPromise_32 (by decide) rfl (fun c22 => ?_) (fun c22 => ?_)
    · have hC := hC.trans (if_pos c22)
      exact L50 _ _ _ _ hR hF hK_HI hK_AH (i_trB ((hF21 88 6 rfl).trans (hF19 88 6 rfl)) (by omega : (0 : Int) ≤ (u0.1 88 6).toInt ∧ (u0.1 88 6).toInt ≤ 7)) hC hP hD hS (lv_sub hl [] rfl)
    · have hC := hC.trans (if_neg (by omega))
      refine lv_aload_n F.1 F.2.1 dX12_readPromise_35 rfl (lv_at hl 1 rfl) ?_
      refine a_bp F (34 : Int32) dX12_readPromise_36 (by decide) ?_
      refine lv_aload_n F.1 F.2.1 dX12_readPromise_38 rfl (lv_at hl 1 rfl) ?_
      refine a_getr F inX12 hP 85 7 tc_85 rfl rfl (by decide) q1478 (fun _ h9 => h9) dX12_readPromise_39 ?_
      refine a_ic F (4 : Int32) dX12_readPromise_42 (by decide) ?_
      have g23 : (0 : Int) ≤ (u21.1 88 4).toInt ∧ (u21.1 88 4).toInt ≤ 4 := hR 88 4
      refine a_ialdK F hP 88 4 tc_88 rfl rfl (i_in ic_4 (by omega)) (v := (u21.1 88 4)) rfl dX12_readPromise_43 ?_
      refine a_Vi F hml hl.1 hA hP hD hS (As := [.int (34 : Int32), .int (u21.1 88 4)]) (x_X12_takesName_85 l dC dI ad cA nF _ (34 : Int32) (u21.1 88 4) hR (by decide) (by omega) (by simp only [ic_34]; omega)) (cs_RX12_220 (d := 3) F.2.2.1 (by decide)) tc_85 rfl rfl rfl rfl (Nat.le_of_ble_eq_true rfl) dX12_readPromise_44 ⟨Nat.le_refl 0, Nat.le_refl 0⟩ (fun r24 u24 H locs hq hP hD hS => ?_)
      obtain ⟨hR, hF24, gr24, xr24, hz24⟩ := hq
      have hF := hF.tr hF24 (by decide)
      have hK_HI := sp_fr sp_HI hF24 (by decide) hK_HI
      have hK_AH := sp_fr sp_AH hF24 (by decide) hK_AH
      have hK_S7 := sp_fr (sp_s7 _) hF24 (by decide) hK_S7
      have xr24 : r24.toInt ≠ 0 → 0 ≤ (u24.1 85 18).toInt ∧ (u24.1 85 18).toInt < (u21.1 88 4).toInt := xr24
      have hC := bd_eq hC hz24
      refine z_ne F 52 dX12_readPromise_47 (by decide) rfl (fun c25 => ?_) (fun c25 => ?_)
      · have hC := hC.trans (if_pos c25)
        refine lv_aload_n F.1 F.2.1 dX12_readPromise_52 rfl (lv_at hl 1 rfl) ?_
        refine a_getr F inX12 hP 85 7 tc_85 rfl rfl (by decide) q1478 (fun _ h9 => h9) dX12_readPromise_53 ?_
        refine a_bp F (26 : Int32) dX12_readPromise_56 (by decide) ?_
        refine lv_iload_n F.1 F.2.1 dX12_readPromise_58 rfl (lv_at hl 0 rfl) ?_
        refine a_iaddX F dX12_readPromise_59 ic_26 rfl (by omega) (fun v26 hv26 yv26 => ?_)
        have hC := vl_eq hC yv26
        refine lv_aload_n F.1 F.2.1 dX12_readPromise_60 rfl (lv_at hl 1 rfl) ?_
        refine a_geti F inX12 hP 85 18 tc_85 rfl rfl (by decide) q1489 (fun _ h9 => h9) (v := (u24.1 85 18)) (rfl) dX12_readPromise_61 ?_
        refine a_iast F hP hD hS 88 tc_88 rfl (i_in rfl (by omega)) dX12_readPromise_64 (fun H locs hP hD hS => ?_)
        have hR := hR.si (c := 88) (k := v26.toNatClampNeg) (v := (u24.1 85 18)) (rs_88_26_33 (by omega) ⟨i_lo _, i_hi _⟩)
        have hF := hF.si (c := 88) (k := v26.toNatClampNeg) (v := (u24.1 85 18)) rfl
        have hK_HI := sp_si sp_HI hK_HI (c := 88) (k := v26.toNatClampNeg) (v := (u24.1 85 18)) (fun j9 h9 => by have q8 := sp_mem h9; simp at q8; have q9 := i_cl (x := v26) (by omega); omega)
        have hK_AH := sp_si sp_AH hK_AH (c := 88) (k := v26.toNatClampNeg) (v := (u24.1 85 18)) (fun j9 h9 => by have q8 := sp_mem h9; simp at q8; have q9 := i_cl (x := v26) (by omega); omega)
        have hK_S7 := sp_si (sp_s7 _) hK_S7 (c := 88) (k := v26.toNatClampNeg) (v := (u24.1 85 18)) (fun j9 h9 => by have q8 := sp_mem h9; simp at q8; have q9 := i_cl (x := v26) (by omega); omega)
        refine lv_aload_n F.1 F.2.1 dX12_readPromise_65 rfl (lv_at hl 1 rfl) ?_
        refine a_bp F (38 : Int32) dX12_readPromise_66 (by decide) ?_
        refine lv_aload_n F.1 F.2.1 dX12_readPromise_68 rfl (lv_at hl 1 rfl) ?_
        refine a_getr F inX12 hP 85 7 tc_85 rfl rfl (by decide) q1478 (fun _ h9 => h9) dX12_readPromise_69 ?_
        refine a_ic F (5 : Int32) dX12_readPromise_72 (by decide) ?_
        refine a_iald F hP 88 tc_88 rfl (i_in ic_5 (by omega)) dX12_readPromise_73 (fun v27 ev27 => ?_)
        have hC := vl_eq hC ev27.symm
        have hv27 : (0 : Int) ≤ v27.toInt ∧ v27.toInt ≤ 6 := ev27 ▸ hR 88 _
        refine a_Vi F hml hl.1 hA hP hD hS (As := [.int (38 : Int32), .int v27]) (x_X12_takesName_85 l dC dI ad cA nF _ (38 : Int32) v27 hR (by decide) (by omega) (by simp only [ic_38]; omega)) (cs_RX12_220 (d := 3) F.2.2.1 (by decide)) tc_85 rfl rfl rfl rfl (Nat.le_of_ble_eq_true rfl) dX12_readPromise_74 ⟨Nat.le_refl 0, Nat.le_refl 0⟩ (fun r28 u28 H locs hq hP hD hS => ?_)
        obtain ⟨hR, hF28, gr28, xr28, hz28⟩ := hq
        have hF := hF.tr hF28 (by decide)
        have hK_HI := sp_fr sp_HI hF28 (by decide) hK_HI
        have hK_AH := sp_fr sp_AH hF28 (by decide) hK_AH
        have hK_S7 := sp_fr (sp_s7 _) hF28 (by decide) hK_S7
        have xr28 : r28.toInt ≠ 0 → 0 ≤ (u28.1 85 18).toInt ∧ (u28.1 85 18).toInt < v27.toInt := xr28
        have hC := bd_eq hC hz28
        refine z_ne F 82 dX12_readPromise_77 (by decide) rfl (fun c29 => ?_) (fun c29 => ?_)
        · have hC := hC.trans (if_pos c29)
          refine lv_aload_n F.1 F.2.1 dX12_readPromise_82 rfl (lv_at hl 1 rfl) ?_
          refine a_getr F inX12 hP 85 7 tc_85 rfl rfl (by decide) q1478 (fun _ h9 => h9) dX12_readPromise_83 ?_
          refine a_bp F (34 : Int32) dX12_readPromise_86 (by decide) ?_
          refine lv_iload_n F.1 F.2.1 dX12_readPromise_88 rfl (lv_at hl 0 rfl) ?_
          refine a_iaddX F dX12_readPromise_89 ic_34 rfl (by omega) (fun v30 hv30 yv30 => ?_)
          have hC := vl_eq hC yv30
          refine lv_aload_n F.1 F.2.1 dX12_readPromise_90 rfl (lv_at hl 1 rfl) ?_
          refine a_geti F inX12 hP 85 18 tc_85 rfl rfl (by decide) q1489 (fun _ h9 => h9) (v := (u28.1 85 18)) (rfl) dX12_readPromise_91 ?_
          refine a_iast F hP hD hS 88 tc_88 rfl (i_in rfl (by omega)) dX12_readPromise_94 (fun H locs hP hD hS => ?_)
          have hR := hR.si (c := 88) (k := v30.toNatClampNeg) (v := (u28.1 85 18)) (rs_88_34_41 (by omega) ⟨i_lo _, i_hi _⟩)
          have hF := hF.si (c := 88) (k := v30.toNatClampNeg) (v := (u28.1 85 18)) rfl
          have hK_HI := sp_si sp_HI hK_HI (c := 88) (k := v30.toNatClampNeg) (v := (u28.1 85 18)) (fun j9 h9 => by have q8 := sp_mem h9; simp at q8; have q9 := i_cl (x := v30) (by omega); omega)
          have hK_AH := sp_si sp_AH hK_AH (c := 88) (k := v30.toNatClampNeg) (v := (u28.1 85 18)) (fun j9 h9 => by have q8 := sp_mem h9; simp at q8; have q9 := i_cl (x := v30) (by omega); omega)
          have hK_S7 := sp_si (sp_s7 _) hK_S7 (c := 88) (k := v30.toNatClampNeg) (v := (u28.1 85 18)) (fun j9 h9 => by have q8 := sp_mem h9; simp at q8; have q9 := i_cl (x := v30) (by omega); omega)
          refine lv_aload_n F.1 F.2.1 dX12_readPromise_95 rfl (lv_at hl 1 rfl) ?_
          refine a_bp F (26 : Int32) dX12_readPromise_96 (by decide) ?_
          refine lv_aload_n F.1 F.2.1 dX12_readPromise_98 rfl (lv_at hl 1 rfl) ?_
          refine a_getr F inX12 hP 85 7 tc_85 rfl rfl (by decide) q1478 (fun _ h9 => h9) dX12_readPromise_99 ?_
          refine a_ic F (1 : Int32) dX12_readPromise_102 (by decide) ?_
          refine a_iald F hP 88 tc_88 rfl (i_in ic_1 (by omega)) dX12_readPromise_103 (fun v31 ev31 => ?_)
          have hC := vl_eq hC ev31.symm
          have hv31 : (0 : Int) ≤ v31.toInt ∧ v31.toInt ≤ 8 := ev31 ▸ hR 88 _
          refine a_Vi F hml hl.1 hA hP hD hS (As := [.int (26 : Int32), .int v31]) (x_X12_takesName_85 l dC dI ad cA nF _ (26 : Int32) v31 hR (by decide) (by omega) (by simp only [ic_26]; omega)) (cs_RX12_220 (d := 3) F.2.2.1 (by decide)) tc_85 rfl rfl rfl rfl (Nat.le_of_ble_eq_true rfl) dX12_readPromise_104 ⟨Nat.le_refl 0, Nat.le_refl 0⟩ (fun r32 u32 H locs hq hP hD hS => ?_)
          obtain ⟨hR, hF32, gr32, xr32, hz32⟩ := hq
          have hF := hF.tr hF32 (by decide)
          have hK_HI := sp_fr sp_HI hF32 (by decide) hK_HI
          have hK_AH := sp_fr sp_AH hF32 (by decide) hK_AH
          have hK_S7 := sp_fr (sp_s7 _) hF32 (by decide) hK_S7
          have xr32 : r32.toInt ≠ 0 → 0 ≤ (u32.1 85 18).toInt ∧ (u32.1 85 18).toInt < v31.toInt := xr32
          have hC := bd_eq hC hz32
          refine z_ne F 112 dX12_readPromise_107 (by decide) rfl (fun c33 => ?_) (fun c33 => ?_)
          · have hC := hC.trans (if_pos c33)
            refine lv_aload_n F.1 F.2.1 dX12_readPromise_112 rfl (lv_at hl 1 rfl) ?_
            refine a_getr F inX12 hP 85 7 tc_85 rfl rfl (by decide) q1478 (fun _ h9 => h9) dX12_readPromise_113 ?_
            refine a_bp F (42 : Int32) dX12_readPromise_116 (by decide) ?_
            refine lv_iload_n F.1 F.2.1 dX12_readPromise_118 rfl (lv_at hl 0 rfl) ?_
            refine a_iaddX F dX12_readPromise_119 ic_42 rfl (by omega) (fun v34 hv34 yv34 => ?_)
            have hC := vl_eq hC yv34
            refine lv_aload_n F.1 F.2.1 dX12_readPromise_120 rfl (lv_at hl 1 rfl) ?_
            refine a_geti F inX12 hP 85 18 tc_85 rfl rfl (by decide) q1489 (fun _ h9 => h9) (v := (u32.1 85 18)) (rfl) dX12_readPromise_121 ?_
            refine a_iast F hP hD hS 88 tc_88 rfl (i_in rfl (by omega)) dX12_readPromise_124 (fun H locs hP hD hS => ?_)
            have hR := hR.si (c := 88) (k := v34.toNatClampNeg) (v := (u32.1 85 18)) (rs_88_42_49 (by omega) (by omega : (0 : Int) ≤ (u32.1 85 18).toInt ∧ (u32.1 85 18).toInt ≤ 7))
            have hF := hF.si (c := 88) (k := v34.toNatClampNeg) (v := (u32.1 85 18)) rfl
            have hK_HI := sp_si sp_HI hK_HI (c := 88) (k := v34.toNatClampNeg) (v := (u32.1 85 18)) (fun j9 h9 => by have q8 := sp_mem h9; simp at q8; have q9 := i_cl (x := v34) (by omega); omega)
            have hK_AH := sp_si sp_AH hK_AH (c := 88) (k := v34.toNatClampNeg) (v := (u32.1 85 18)) (fun j9 h9 => by have q8 := sp_mem h9; simp at q8; have q9 := i_cl (x := v34) (by omega); omega)
            have hK_S7 := sp_si (sp_s7 _) hK_S7 (c := 88) (k := v34.toNatClampNeg) (v := (u32.1 85 18)) (fun j9 h9 => by have q8 := sp_mem h9; simp at q8; have q9 := i_cl (x := v34) (by omega); omega)
            refine lv_aload_n F.1 F.2.1 dX12_readPromise_125 rfl (lv_at hl 1 rfl) ?_
            refine a_ic F (0 : Int32) dX12_readPromise_126 (by decide) ?_
            refine a_bp F (23 : Int32) dX12_readPromise_127 (by decide) ?_
            refine a_Vi F hml hl.1 hA hP hD hS (As := [.int (0 : Int32), .int (23 : Int32)]) (x_X12_takes_85 l dC dI ad cA nF _ (0 : Int32) (23 : Int32) hR (by decide)) (cs_RX12_214 (d := 3) F.2.2.1 (by decide)) tc_85 rfl rfl rfl rfl (Nat.le_of_ble_eq_true rfl) dX12_readPromise_129 ⟨Nat.le_refl 0, Nat.le_refl 0⟩ (fun r35 u35 H locs hq hP hD hS => ?_)
            obtain ⟨hR, hF35, gr35, xr35, hz35⟩ := hq
            have hF := hF.tr hF35 (by decide)
            have hK_HI := sp_fr sp_HI hF35 (by decide) hK_HI
            have hK_AH := sp_fr sp_AH hF35 (by decide) hK_AH
            have hK_S7 := sp_fr (sp_s7 _) hF35 (by decide) hK_S7
            have xr35 : r35.toInt ≠ 0 → (0 : Int) ≤ (u35.1 85 18).toInt ∧ (u35.1 85 18).toInt ≤ (23 : Int) := xr35
            have hC := bd_eq hC hz35
            refine z_ne F 137 dX12_readPromise_132 (by decide) rfl (fun c36 => ?_) (fun c36 => ?_)
            · have hC := hC.trans (if_pos c36)
              refine lv_aload_n F.1 F.2.1 dX12_readPromise_137 rfl (lv_at hl 1 rfl) ?_
              refine a_getr F inX12 hP 85 7 tc_85 rfl rfl (by decide) q1478 (fun _ h9 => h9) dX12_readPromise_138 ?_
              refine a_bp F (50 : Int32) dX12_readPromise_141 (by decide) ?_
              refine lv_iload_n F.1 F.2.1 dX12_readPromise_143 rfl (lv_at hl 0 rfl) ?_
              refine a_iaddX F dX12_readPromise_144 ic_50 rfl (by omega) (fun v37 hv37 yv37 => ?_)
              have hC := vl_eq hC yv37
              refine lv_aload_n F.1 F.2.1 dX12_readPromise_145 rfl (lv_at hl 1 rfl) ?_
              refine a_geti F inX12 hP 85 18 tc_85 rfl rfl (by decide) q1489 (fun _ h9 => h9) (v := (u35.1 85 18)) (rfl) dX12_readPromise_146 ?_
              refine a_iast F hP hD hS 88 tc_88 rfl (i_in rfl (by omega)) dX12_readPromise_149 (fun H locs hP hD hS => ?_)
              have hR := hR.si (c := 88) (k := v37.toNatClampNeg) (v := (u35.1 85 18)) (rs_88_50_57 (by omega) ⟨i_lo _, i_hi _⟩)
              have hF := hF.si (c := 88) (k := v37.toNatClampNeg) (v := (u35.1 85 18)) rfl
              have hK_HI := sp_si sp_HI hK_HI (c := 88) (k := v37.toNatClampNeg) (v := (u35.1 85 18)) (fun j9 h9 => by have q8 := sp_mem h9; simp at q8; have q9 := i_cl (x := v37) (by omega); omega)
              have hK_AH := sp_si sp_AH hK_AH (c := 88) (k := v37.toNatClampNeg) (v := (u35.1 85 18)) (fun j9 h9 => by have q8 := sp_mem h9; simp at q8; have q9 := i_cl (x := v37) (by omega); omega)
              have hK_S7 := sp_si (sp_s7 _) hK_S7 (c := 88) (k := v37.toNatClampNeg) (v := (u35.1 85 18)) (fun j9 h9 => by have q8 := sp_mem h9; simp at q8; have q9 := i_cl (x := v37) (by omega); omega)
              refine lv_aload_n F.1 F.2.1 dX12_readPromise_150 rfl (lv_at hl 1 rfl) ?_
              refine lv_aload_n F.1 F.2.1 dX12_readPromise_151 rfl (lv_at hl 1 rfl) ?_
              refine a_getr F inX12 hP 85 7 tc_85 rfl rfl (by decide) q1478 (fun _ h9 => h9) dX12_readPromise_152 ?_
              refine a_bp F (50 : Int32) dX12_readPromise_155 (by decide) ?_
              refine lv_iload_n F.1 F.2.1 dX12_readPromise_157 rfl (lv_at hl 0 rfl) ?_
              refine a_iaddX F dX12_readPromise_158 ic_50 rfl (by omega) (fun v38 hv38 yv38 => ?_)
              have hC := vl_eq hC yv38
              refine a_iald F hP 88 tc_88 rfl (i_in rfl (by omega)) dX12_readPromise_159 (fun v39 ev39 => ?_)
              have hC := vl_eq hC ev39.symm
              refine a_bp F (23 : Int32) dX12_readPromise_160 (by decide) ?_
              refine a_Vi F hml hl.1 hA hP hD hS (As := [.int v39, .int (23 : Int32)]) (x_X12_takes_85 l dC dI ad cA nF _ v39 (23 : Int32) hR (by decide)) (cs_RX12_214 (d := 3) F.2.2.1 (by decide)) tc_85 rfl rfl rfl rfl (Nat.le_of_ble_eq_true rfl) dX12_readPromise_162 ⟨Nat.le_refl 0, Nat.le_refl 0⟩ (fun r40 u40 H locs hq hP hD hS => ?_)
              obtain ⟨hR, hF40, gr40, xr40, hz40⟩ := hq
              have hF := hF.tr hF40 (by decide)
              have hK_HI := sp_fr sp_HI hF40 (by decide) hK_HI
              have hK_AH := sp_fr sp_AH hF40 (by decide) hK_AH
              have hK_S7 := sp_fr (sp_s7 _) hF40 (by decide) hK_S7
              have xr40 : r40.toInt ≠ 0 → v39.toInt ≤ (u40.1 85 18).toInt ∧ (u40.1 85 18).toInt ≤ (23 : Int) := xr40
              have hC := bd_eq hC hz40
              refine z_ne F 170 dX12_readPromise_165 (by decide) rfl (fun c41 => ?_) (fun c41 => ?_)
              · have hC := hC.trans (if_pos c41)
                refine lv_aload_n F.1 F.2.1 dX12_readPromise_170 rfl (lv_at hl 1 rfl) ?_
                refine a_getr F inX12 hP 85 7 tc_85 rfl rfl (by decide) q1478 (fun _ h9 => h9) dX12_readPromise_171 ?_
                refine a_bp F (58 : Int32) dX12_readPromise_174 (by decide) ?_
                refine lv_iload_n F.1 F.2.1 dX12_readPromise_176 rfl (lv_at hl 0 rfl) ?_
                refine a_iaddX F dX12_readPromise_177 ic_58 rfl (by omega) (fun v42 hv42 yv42 => ?_)
                have hC := vl_eq hC yv42
                refine lv_aload_n F.1 F.2.1 dX12_readPromise_178 rfl (lv_at hl 1 rfl) ?_
                refine a_geti F inX12 hP 85 18 tc_85 rfl rfl (by decide) q1489 (fun _ h9 => h9) (v := (u40.1 85 18)) (rfl) dX12_readPromise_179 ?_
                refine a_iast F hP hD hS 88 tc_88 rfl (i_in rfl (by omega)) dX12_readPromise_182 (fun H locs hP hD hS => ?_)
                have hR := hR.si (c := 88) (k := v42.toNatClampNeg) (v := (u40.1 85 18)) (rs_88_58_65 (by omega) ⟨i_lo _, i_hi _⟩)
                have hF := hF.si (c := 88) (k := v42.toNatClampNeg) (v := (u40.1 85 18)) rfl
                have hK_HI := sp_si sp_HI hK_HI (c := 88) (k := v42.toNatClampNeg) (v := (u40.1 85 18)) (fun j9 h9 => by have q8 := sp_mem h9; simp at q8; have q9 := i_cl (x := v42) (by omega); omega)
                have hK_AH := sp_si sp_AH hK_AH (c := 88) (k := v42.toNatClampNeg) (v := (u40.1 85 18)) (fun j9 h9 => by have q8 := sp_mem h9; simp at q8; have q9 := i_cl (x := v42) (by omega); omega)
                have hK_S7 := sp_si (sp_s7 _) hK_S7 (c := 88) (k := v42.toNatClampNeg) (v := (u40.1 85 18)) (fun j9 h9 => by have q8 := sp_mem h9; simp at q8; have q9 := i_cl (x := v42) (by omega); omega)
                refine lv_aload_n F.1 F.2.1 dX12_readPromise_183 rfl (lv_at hl 1 rfl) ?_
                refine a_ic F (1 : Int32) dX12_readPromise_184 (by decide) ?_
                refine a_ic F (3 : Int32) dX12_readPromise_185 (by decide) ?_
                refine a_Vi F hml hl.1 hA hP hD hS (As := [.int (1 : Int32), .int (3 : Int32)]) (x_X12_takes_85 l dC dI ad cA nF _ (1 : Int32) (3 : Int32) hR (by decide)) (cs_RX12_214 (d := 3) F.2.2.1 (by decide)) tc_85 rfl rfl rfl rfl (Nat.le_of_ble_eq_true rfl) dX12_readPromise_186 ⟨Nat.le_refl 0, Nat.le_refl 0⟩ (fun r43 u43 H locs hq hP hD hS => ?_)
                obtain ⟨hR, hF43, gr43, xr43, hz43⟩ := hq
                have hF := hF.tr hF43 (by decide)
                have hK_HI := sp_fr sp_HI hF43 (by decide) hK_HI
                have hK_AH := sp_fr sp_AH hF43 (by decide) hK_AH
                have hK_S7 := sp_fr (sp_s7 _) hF43 (by decide) hK_S7
                have xr43 : r43.toInt ≠ 0 → (1 : Int) ≤ (u43.1 85 18).toInt ∧ (u43.1 85 18).toInt ≤ (3 : Int) := xr43
                have hC := bd_eq hC hz43
                refine z_ne F 194 dX12_readPromise_189 (by decide) rfl (fun c44 => ?_) (fun c44 => ?_)
                · have hC := hC.trans (if_pos c44)
                  refine lv_aload_n F.1 F.2.1 dX12_readPromise_194 rfl (lv_at hl 1 rfl) ?_
                  refine a_getr F inX12 hP 85 7 tc_85 rfl rfl (by decide) q1478 (fun _ h9 => h9) dX12_readPromise_195 ?_
                  refine a_bp F (66 : Int32) dX12_readPromise_198 (by decide) ?_
                  refine lv_iload_n F.1 F.2.1 dX12_readPromise_200 rfl (lv_at hl 0 rfl) ?_
                  refine a_iaddX F dX12_readPromise_201 ic_66 rfl (by omega) (fun v45 hv45 yv45 => ?_)
                  have hC := vl_eq hC yv45
                  refine lv_aload_n F.1 F.2.1 dX12_readPromise_202 rfl (lv_at hl 1 rfl) ?_
                  refine a_geti F inX12 hP 85 18 tc_85 rfl rfl (by decide) q1489 (fun _ h9 => h9) (v := (u43.1 85 18)) (rfl) dX12_readPromise_203 ?_
                  refine a_iast F hP hD hS 88 tc_88 rfl (i_in rfl (by omega)) dX12_readPromise_206 (fun H locs hP hD hS => ?_)
                  have hR := hR.si (c := 88) (k := v45.toNatClampNeg) (v := (u43.1 85 18)) (rs_88_66_73 (by omega) (by omega : (0 : Int) ≤ (u43.1 85 18).toInt ∧ (u43.1 85 18).toInt ≤ 3))
                  have hF := hF.si (c := 88) (k := v45.toNatClampNeg) (v := (u43.1 85 18)) rfl
                  have hK_HI := sp_si sp_HI hK_HI (c := 88) (k := v45.toNatClampNeg) (v := (u43.1 85 18)) (fun j9 h9 => by have q8 := sp_mem h9; simp at q8; have q9 := i_cl (x := v45) (by omega); omega)
                  have hK_AH := sp_si sp_AH hK_AH (c := 88) (k := v45.toNatClampNeg) (v := (u43.1 85 18)) (fun j9 h9 => by have q8 := sp_mem h9; simp at q8; have q9 := i_cl (x := v45) (by omega); omega)
                  have hK_S7 := sp_si (sp_s7 _) hK_S7 (c := 88) (k := v45.toNatClampNeg) (v := (u43.1 85 18)) (fun j9 h9 => by have q8 := sp_mem h9; simp at q8; have q9 := i_cl (x := v45) (by omega); omega)
                  refine lv_aload_n F.1 F.2.1 dX12_readPromise_207 rfl (lv_at hl 1 rfl) ?_
                  refine a_getr F inX12 hP 85 7 tc_85 rfl rfl (by decide) q1478 (fun _ h9 => h9) dX12_readPromise_208 ?_
                  refine a_bp F (74 : Int32) dX12_readPromise_211 (by decide) ?_
                  refine lv_iload_n F.1 F.2.1 dX12_readPromise_213 rfl (lv_at hl 0 rfl) ?_
                  refine a_iaddX F dX12_readPromise_214 ic_74 rfl (by omega) (fun v46 hv46 yv46 => ?_)
                  have hC := vl_eq hC yv46
                  refine lv_aload_n F.1 F.2.1 dX12_readPromise_215 rfl (lv_at hl 1 rfl) ?_
                  refine lv_ldc2 (v := (1700881256 : Int64)) F.1 F.2.1 F.2.2.2.1 (F.2.2.1 _ q1452) dX12_readPromise_216 ?_
                  refine a_Vi F hml hl.1 hA hP hD hS (As := [.long (1700881256 : Int64)]) (x_X12_isWord_85 l dC dI ad cA nF _ (1700881256 : Int64) hR) (cs_RX12_206 (d := 1) F.2.2.1 (by decide)) tc_85 rfl rfl rfl rfl (Nat.le_of_ble_eq_true rfl) dX12_readPromise_219 ⟨Nat.le_refl 0, Nat.le_refl 0⟩ (fun r47 uN47 H locs hq hP hD hS => ?_)
                  obtain ⟨hu47, gr47, hz47⟩ := hq
                  rw [hu47] at hP hD
                  have hC := vl_eq hC hz47.symm
                  refine z_eq F 229 dX12_readPromise_222 (by decide) rfl (fun c48 => ?_) (fun c48 => ?_)
                  · have hC := hC.trans (if_pos c48)
                    refine a_ic F (0 : Int32) dX12_readPromise_229 (by decide) ?_
                    exact L230 (u0.1 88 6) v46 (0 : Int32) _ _ _ _ hR hF hK_HI hK_S7 hK_AH (by omega) (by omega) (by decide) (by omega : (1 : Int) ≤ (u43.1 85 18).toInt ∧ (u43.1 85 18).toInt ≤ 3) (i_trB ((ac_ne (c := 88) (k := 6) (i := v45) (by have q9 := i_cl (x := v45) (by omega); omega)).trans ((hF43 88 6 rfl).trans ((ac_ne (c := 88) (k := 6) (i := v42) (by have q9 := i_cl (x := v42) (by omega); omega)).trans ((hF40 88 6 rfl).trans ((ac_ne (c := 88) (k := 6) (i := v37) (by have q9 := i_cl (x := v37) (by omega); omega)).trans ((hF35 88 6 rfl).trans ((ac_ne (c := 88) (k := 6) (i := v34) (by have q9 := i_cl (x := v34) (by omega); omega)).trans ((hF32 88 6 rfl).trans ((ac_ne (c := 88) (k := 6) (i := v30) (by have q9 := i_cl (x := v30) (by omega); omega)).trans ((hF28 88 6 rfl).trans ((ac_ne (c := 88) (k := 6) (i := v26) (by have q9 := i_cl (x := v26) (by omega); omega)).trans ((hF24 88 6 rfl).trans ((hF21 88 6 rfl).trans (hF19 88 6 rfl)))))))))))))) (by omega : (0 : Int) ≤ (u0.1 88 6).toInt ∧ (u0.1 88 6).toInt ≤ 7)) hC hP hD hS (lv_sub hl [1, 0] rfl)
                  · have hC := hC.trans (if_neg (by omega))
                    refine a_ic F (1 : Int32) dX12_readPromise_225 (by decide) ?_
                    refine lv_goto (tgt := 230) F.1 F.2.1 dX12_readPromise_226 (by decide) ?_
                    exact L230 (u0.1 88 6) v46 (1 : Int32) _ _ _ _ hR hF hK_HI hK_S7 hK_AH (by omega) (by omega) (by decide) (by omega : (1 : Int) ≤ (u43.1 85 18).toInt ∧ (u43.1 85 18).toInt ≤ 3) (i_trB ((ac_ne (c := 88) (k := 6) (i := v45) (by have q9 := i_cl (x := v45) (by omega); omega)).trans ((hF43 88 6 rfl).trans ((ac_ne (c := 88) (k := 6) (i := v42) (by have q9 := i_cl (x := v42) (by omega); omega)).trans ((hF40 88 6 rfl).trans ((ac_ne (c := 88) (k := 6) (i := v37) (by have q9 := i_cl (x := v37) (by omega); omega)).trans ((hF35 88 6 rfl).trans ((ac_ne (c := 88) (k := 6) (i := v34) (by have q9 := i_cl (x := v34) (by omega); omega)).trans ((hF32 88 6 rfl).trans ((ac_ne (c := 88) (k := 6) (i := v30) (by have q9 := i_cl (x := v30) (by omega); omega)).trans ((hF28 88 6 rfl).trans ((ac_ne (c := 88) (k := 6) (i := v26) (by have q9 := i_cl (x := v26) (by omega); omega)).trans ((hF24 88 6 rfl).trans ((hF21 88 6 rfl).trans (hF19 88 6 rfl)))))))))))))) (by omega : (0 : Int) ≤ (u0.1 88 6).toInt ∧ (u0.1 88 6).toInt ≤ 7)) hC hP hD hS (lv_sub hl [1, 0] rfl)
                · have hC := hC.trans (if_neg (by omega))
                  refine a_ic F (0 : Int32) dX12_readPromise_192 (by decide) ?_
                  exact a_retz F hr hlocks hP hD hS dX12_readPromise_193 (Or.inl rfl) ⟨hR, hF, (by decide), hK_HI, hK_AH, (fun h9 => absurd (by decide) h9), hRR.symm.trans hC⟩
              · have hC := hC.trans (if_neg (by omega))
                refine a_ic F (0 : Int32) dX12_readPromise_168 (by decide) ?_
                exact a_retz F hr hlocks hP hD hS dX12_readPromise_169 (Or.inl rfl) ⟨hR, hF, (by decide), hK_HI, hK_AH, (fun h9 => absurd (by decide) h9), hRR.symm.trans hC⟩
            · have hC := hC.trans (if_neg (by omega))
              refine a_ic F (0 : Int32) dX12_readPromise_135 (by decide) ?_
              exact a_retz F hr hlocks hP hD hS dX12_readPromise_136 (Or.inl rfl) ⟨hR, hF, (by decide), hK_HI, hK_AH, (fun h9 => absurd (by decide) h9), hRR.symm.trans hC⟩
          · have hC := hC.trans (if_neg (by omega))
            refine a_ic F (0 : Int32) dX12_readPromise_110 (by decide) ?_
            exact a_retz F hr hlocks hP hD hS dX12_readPromise_111 (Or.inl rfl) ⟨hR, hF, (by decide), hK_HI, hK_AH, (fun h9 => absurd (by decide) h9), hRR.symm.trans hC⟩
        · have hC := hC.trans (if_neg (by omega))
          refine a_ic F (0 : Int32) dX12_readPromise_80 (by decide) ?_
          exact a_retz F hr hlocks hP hD hS dX12_readPromise_81 (Or.inl rfl) ⟨hR, hF, (by decide), hK_HI, hK_AH, (fun h9 => absurd (by decide) h9), hRR.symm.trans hC⟩
      · have hC := hC.trans (if_neg (by omega))
        exact L50 _ _ _ _ hR hF hK_HI hK_AH (i_trB ((hF24 88 6 rfl).trans ((hF21 88 6 rfl).trans (hF19 88 6 rfl))) (by omega : (0 : Int) ≤ (u0.1 88 6).toInt ∧ (u0.1 88 6).toInt ≤ 7)) hC hP hD hS (lv_sub hl [] rfl)
  · have hC := hC.trans (if_neg (by omega))
    refine lv_aload_n F.1 F.2.1 dX12_readPromise_14 rfl (lv_at hl 1 rfl) ?_
    refine a_ic F (4 : Int32) dX12_readPromise_15 (by decide) ?_
    refine a_Vi F hml hl.1 hA hP hD hS (As := [.int (4 : Int32)]) (x_X12_bad_85 l dC dI ad cA nF _ (4 : Int32) hR (by decide)) (cs_RX12_181 (d := 1) F.2.2.1 (by decide)) tc_85 rfl rfl rfl rfl (Nat.le_of_ble_eq_true rfl) dX12_readPromise_16 ⟨Nat.le_refl 0, Nat.le_refl 0⟩ (fun r49 u49 H locs hq hP hD hS => ?_)
    obtain ⟨hR, hF49, gr49, hz49⟩ := hq
    have hF := hF.tr hF49 (by decide)
    have hK_HI := sp_fr sp_HI hF49 (by decide) hK_HI
    have hK_AH := sp_fr sp_AH hF49 (by decide) hK_AH
    have hK_S7 := sp_fr (sp_s7 _) hF49 (by decide) hK_S7
    have hC := bd_eq hC hz49
    exact a_retz F hr hlocks hP hD hS dX12_readPromise_19 (i_01 (by omega)) ⟨hR, hF, (by omega : (0 : Int) ≤ r49.toInt ∧ r49.toInt ≤ 1), hK_HI, hK_AH, (fun h9 => absurd (by omega : r49.toInt = 0) h9), hRR.symm.trans hC⟩
def K_X12_line_85_663 (B614 : ac_U → Int32 → Int32 → Int32 → ac_U × Int32) (u0 : ac_U) (u : ac_U) (x1 : Int32) (x3 : Int32) (z0 : Int32) : ac_U × Int32 := (vl (x3 + Int32.ofInt (1)) (fun (v1 : Int32) => (B614 u x1 z0 v1)))
def K_X12_line_85_662 (B614 : ac_U → Int32 → Int32 → Int32 → ac_U × Int32) (u0 : ac_U) (u : ac_U) (x1 : Int32) (x3 : Int32) : ac_U × Int32 := (K_X12_line_85_663 B614 u0 u x1 x3 (0 : Int32))
def K_X12_line_85_658 (B614 : ac_U → Int32 → Int32 → Int32 → ac_U × Int32) (u0 : ac_U) (u : ac_U) (x1 : Int32) (x3 : Int32) : ac_U × Int32 := (K_X12_line_85_663 B614 u0 u x1 x3 (1 : Int32))
def K_X12_line_85_614_b (B614 : ac_U → Int32 → Int32 → Int32 → ac_U × Int32) (u0 : ac_U) (u : ac_U) (x1 : Int32) (x2 : Int32) (x3 : Int32) : ac_U × Int32 := (if (u.1 88 7).toInt ≤ x3.toInt then (if x2.toInt ≠ 0 then (vl ((90 : Int32) + (u.1 88 7)) (fun (v8 : Int32) => (vl ((98 : Int32) + (u.1 88 7)) (fun (v10 : Int32) => (vl ((u.1 88 7) + (1 : Int32)) (fun (v11 : Int32) => (vl (f_X12_next_85 (pI (pI (pI u 88 v8.toNatClampNeg x1) 88 v10.toNatClampNeg (u.1 85 18)) 88 7 v11)) (fun (u12 : ac_U) => (u12, (1 : Int32)))))))))) else (bd (f_X12_bad_85 u (3 : Int32)) (fun (u13 : ac_U) (r13 : Int32) => (u13, r13)))) else (if x2.toInt = 0 then (K_X12_line_85_662 B614 u0 u x1 x3) else (vl ((90 : Int32) + x3) (fun (v16 : Int32) => (vl (u.1 88 v16.toNatClampNeg) (fun (v17 : Int32) => (if v17.toInt ≠ x1.toInt then (K_X12_line_85_658 B614 u0 u x1 x3) else (vl ((98 : Int32) + x3) (fun (v19 : Int32) => (vl (u.1 88 v19.toNatClampNeg) (fun (v20 : Int32) => (if v20.toInt = (u.1 85 18).toInt then (K_X12_line_85_662 B614 u0 u x1 x3) else (K_X12_line_85_658 B614 u0 u x1 x3)))))))))))))
def K_X12_line_85_614 (u0 : ac_U) : Nat → ac_U → Int32 → Int32 → Int32 → ac_U × Int32
  | 0 => fun u x1 x2 x3 => (u, 0)
  | n + 1 => fun u x1 x2 x3 => K_X12_line_85_614_b (K_X12_line_85_614 u0 n) u0 u x1 x2 x3
def K_X12_line_85_611 (u0 : ac_U) (u : ac_U) (x1 : Int32) (z0 : Int32) : ac_U × Int32 := (K_X12_line_85_614 u0 9 u x1 z0 (0 : Int32))
def K_X12_line_85_411 (u0 : ac_U) (u : ac_U) : ac_U × Int32 := (u, (0 : Int32))
def K_X12_line_85_214 (u0 : ac_U) (u : ac_U) : ac_U × Int32 := (bd (f_X12_bad_85 u (3 : Int32)) (fun (u23 : ac_U) (r23 : Int32) => (u23, r23)))
def f_X12_line_85 (u0 : ac_U) : ac_U × Int32 := (vl (f_X12_isWord_85 u0 (448546566771 : Int64)) (fun (r25 : Int32) => (if r25.toInt = 0 then (vl (f_X12_isWord_85 u0 (482854658917 : Int64)) (fun (r27 : Int32) => (if r27.toInt = 0 then (vl (f_X12_isWord_85 u0 (7823737 : Int64)) (fun (r29 : Int32) => (if r29.toInt = 0 then (vl (f_X12_isWord_85 u0 (1718775655 : Int64)) (fun (r31 : Int32) => (if r31.toInt = 0 then (vl (f_X12_isWord_85 u0 (123581014175598 : Int64)) (fun (r33 : Int32) => (if r33.toInt = 0 then (vl (f_X12_isWord_85 u0 (1684366692 : Int64)) (fun (r35 : Int32) => (if r35.toInt = 0 then (vl (f_X12_isWord_85 u0 (31651020294157157 : Int64)) (fun (r37 : Int32) => (if r37.toInt = 0 then (vl (f_X12_isWord_85 u0 (7761783 : Int64)) (fun (r39 : Int32) => (if r39.toInt ≠ 0 then (if (u0.1 88 7).toInt ≠ (8 : Int) then (vl (f_X12_next_85 u0) (fun (u43 : ac_U) => (bd (f_X12_takesName_85 u43 (44 : Int32) (u43.1 88 6)) (fun (u46 : ac_U) (r46 : Int32) => (if r46.toInt ≠ 0 then (bd (f_X12_looksAt_85 u46 (44 : Int32) (u43.1 88 6)) (fun (u48 : ac_U) (r48 : Int32) => (if r48.toInt ≠ 0 then (if (u46.1 85 18).toInt = (u48.1 85 18).toInt then (K_X12_line_85_611 u0 u48 (u46.1 85 18) (0 : Int32)) else (K_X12_line_85_611 u0 u48 (u46.1 85 18) (1 : Int32))) else (u48, (0 : Int32))))) else (u46, (0 : Int32))))))) else (bd (f_X12_bad_85 u0 (4 : Int32)) (fun (u51 : ac_U) (r51 : Int32) => (u51, r51)))) else (bd (f_X12_bad_85 u0 (1 : Int32)) (fun (u53 : ac_U) (r53 : Int32) => (u53, r53)))))) else (bd (f_X12_readPromise_85 u0) (fun (u55 : ac_U) (r55 : Int32) => (u55, r55)))))) else (if (u0.1 88 5).toInt ≠ (6 : Int) then (vl (f_X12_next_85 u0) (fun (u59 : ac_U) => (vl ((38 : Int32) + (u0.1 88 5)) (fun (v61 : Int32) => (bd (f_X12_fresh_85 u59 v61) (fun (u62 : ac_U) (r62 : Int32) => (if r62.toInt ≠ 0 then (vl ((u0.1 88 5) + (1 : Int32)) (fun (v64 : Int32) => ((pI u62 88 5 v64), (1 : Int32)))) else (u62, (0 : Int32))))))))) else (bd (f_X12_bad_85 u0 (4 : Int32)) (fun (u65 : ac_U) (r65 : Int32) => (u65, r65))))))) else (if (u0.1 88 4).toInt ≠ (4 : Int) then (vl (f_X12_next_85 u0) (fun (u69 : ac_U) => (vl ((34 : Int32) + (u0.1 88 4)) (fun (v71 : Int32) => (bd (f_X12_fresh_85 u69 v71) (fun (u72 : ac_U) (r72 : Int32) => (if r72.toInt = 0 then (K_X12_line_85_411 u0 u72) else (bd (f_X12_takesName_85 u72 (26 : Int32) (u0.1 88 1)) (fun (u74 : ac_U) (r74 : Int32) => (if r74.toInt ≠ 0 then (vl ((22 : Int32) + (u0.1 88 4)) (fun (v76 : Int32) => (vl ((u0.1 88 4) + (1 : Int32)) (fun (v77 : Int32) => ((pI (pI u74 88 v76.toNatClampNeg (u74.1 85 18)) 88 4 v77), (1 : Int32)))))) else (K_X12_line_85_411 u0 u74))))))))))) else (bd (f_X12_bad_85 u0 (4 : Int32)) (fun (u78 : ac_U) (r78 : Int32) => (u78, r78))))))) else (if (u0.1 88 3).toInt ≠ (6 : Int) then (vl (f_X12_next_85 u0) (fun (u82 : ac_U) => (bd (f_X12_takesName_85 u82 (26 : Int32) (u0.1 88 1)) (fun (u84 : ac_U) (r84 : Int32) => (if r84.toInt ≠ 0 then (vl ((16 : Int32) + (u0.1 88 3)) (fun (v86 : Int32) => (vl ((u0.1 88 3) + (1 : Int32)) (fun (v87 : Int32) => ((pI (pI u84 88 v86.toNatClampNeg (u84.1 85 18)) 88 3 v87), (1 : Int32)))))) else (u84, (0 : Int32))))))) else (bd (f_X12_bad_85 u0 (4 : Int32)) (fun (u88 : ac_U) (r88 : Int32) => (u88, r88))))))) else (if (u0.1 88 2).toInt ≠ (12 : Int) then (vl (f_X12_next_85 u0) (fun (u92 : ac_U) => (bd (f_X12_takesName_85 u92 (26 : Int32) (u0.1 88 1)) (fun (u94 : ac_U) (r94 : Int32) => (if r94.toInt ≠ 0 then (bd (f_X12_looksAt_85 u94 (26 : Int32) (u0.1 88 1)) (fun (u96 : ac_U) (r96 : Int32) => (if r96.toInt ≠ 0 then (if (u94.1 85 18).toInt = (u96.1 85 18).toInt then (K_X12_line_85_214 u0 u96) else (vl ((8 : Int32) + (u94.1 85 18)) (fun (v99 : Int32) => (vl (u96.1 88 v99.toNatClampNeg) (fun (v100 : Int32) => (vl (f_X12_bitOf u96 v100 (u96.1 85 18)) (fun (r101 : Int32) => (if r101.toInt = 0 then (vl ((8 : Int32) + (u94.1 85 18)) (fun (v103 : Int32) => (vl (u96.1 88 v103.toNatClampNeg) (fun (v104 : Int32) => (vl ((1 : Int32) <<< ((u96.1 85 18) &&& 31)) (fun (v105 : Int32) => (vl (v104 ||| v105) (fun (v106 : Int32) => (vl ((8 : Int32) + (u96.1 85 18)) (fun (v107 : Int32) => (vl ((pI u96 88 v103.toNatClampNeg v106).1 88 v107.toNatClampNeg) (fun (v108 : Int32) => (vl ((1 : Int32) <<< ((u94.1 85 18) &&& 31)) (fun (v109 : Int32) => (vl (v108 ||| v109) (fun (v110 : Int32) => (vl ((u0.1 88 2) + (1 : Int32)) (fun (v111 : Int32) => (vl (f_X12_next_85 (pI (pI (pI u96 88 v103.toNatClampNeg v106) 88 v107.toNatClampNeg v110) 88 2 v111)) (fun (u112 : ac_U) => (u112, (1 : Int32)))))))))))))))))))))) else (K_X12_line_85_214 u0 u96))))))))) else (u96, (0 : Int32))))) else (u94, (0 : Int32))))))) else (bd (f_X12_bad_85 u0 (4 : Int32)) (fun (u113 : ac_U) (r113 : Int32) => (u113, r113))))))) else (if (u0.1 88 1).toInt ≠ (8 : Int) then (vl (f_X12_next_85 u0) (fun (u117 : ac_U) => (vl ((26 : Int32) + (u0.1 88 1)) (fun (v118 : Int32) => (bd (f_X12_fresh_85 u117 v118) (fun (u119 : ac_U) (r119 : Int32) => (if r119.toInt ≠ 0 then (vl ((u0.1 88 1) + (1 : Int32)) (fun (v121 : Int32) => ((pI u119 88 1 v121), (1 : Int32)))) else (u119, (0 : Int32))))))))) else (bd (f_X12_bad_85 u0 (4 : Int32)) (fun (u122 : ac_U) (r122 : Int32) => (u122, r122))))))) else (if (u0.1 85 20).toInt = 0 then (vl (f_X12_next_85 (pI u0 85 20 (1 : Int32))) (fun (u125 : ac_U) => (bd (f_X12_takes_85 u125 (4 : Int32) (24 : Int32)) (fun (u127 : ac_U) (r127 : Int32) => (if r127.toInt ≠ 0 then ((pI u127 88 0 (u127.1 85 18)), (1 : Int32)) else (u127, (0 : Int32))))))) else (bd (f_X12_bad_85 u0 (3 : Int32)) (fun (u129 : ac_U) (r129 : Int32) => (u129, r129)))))))
set_option maxHeartbeats 600000 in
set_option maxRecDepth 100000 in
theorem x_X12_line_85 (l : Launch) (dC : Nat → ClassId) (dI : Nat → Nat → Nat) (ad : Nat → Nat) (cA : Nat → ClassId) (nF : Nat) (u0 : ac_U)  (hR : ac_R rg u0) (hK_HI : hsI u0) (hK_AH : ahI u0) : ac_Mi l yX12_line (.code yX12_line cX12_line 4 (some .boolean) :: TB) 5 (dC, dI) vwCl (ac_ty cA) ad cA (TT nF) [.ref (ad 85)] u0 (fun (r : Int32) (u : ac_U) => ac_R rg u ∧ ac_Fr [(85, some 4), (85, some 11), (85, some 12), (85, some 13), (85, some 14), (85, some 15), (85, some 16), (85, some 18), (85, some 20), (88, none)] u0 u ∧ ((0 : Int) ≤ r.toInt ∧ r.toInt ≤ 1) ∧ hsI u ∧ ahI u ∧ (r.toInt ≠ 0 → (s7P u0) u) ∧ f_X12_line_85 u0 = (u, r)) := by
  refine ac_Mi.of (cc := cX12_line) (maxL := 4) (ret := (some .boolean)) (by decide) rfl (Nat.le_of_ble_eq_true rfl) ?_
  intro p e s m below meth c A ls F hml hr hlocks hA hP hD hS hl
  have F : ac_X p s m [.ref (ad 85)].toArray c cX12_line RX12 TB (dC, dI) vwCl (ac_ty cA) := ⟨F.1, F.2.1, fun w h => F.2.2.1 w (List.mem_cons_of_mem _ h), F.2.2.2.1, F.2.2.2.2⟩
  have hl : lv_has ls 4 [(0, .ref (ad 85))] := hl
  obtain ⟨RR, hRR⟩ : ∃ q, q = f_X12_line_85 u0 := ⟨_, rfl⟩
  have hF : ac_Fr [(85, some 4), (85, some 11), (85, some 12), (85, some 13), (85, some 14), (85, some 15), (85, some 16), (85, some 18), (85, some 20), (88, none)] u0 u0 := ac_Fr.rf
  have hK_S7 : (s7I u0) u0 := s7_rf
  have L614 : ∀ (n614 : Nat) (x1 : Int32) (x2 : Int32) (x3 : Int32) (u : ac_U) (H : Heap) (locs : List Loc) (ls : Array Slot), ac_R rg u → ac_Fr [(85, some 4), (85, some 11), (85, some 12), (85, some 13), (85, some 14), (85, some 15), (85, some 16), (85, some 18), (85, some 20), (88, none)] u0 u → 7 - x3.toInt < (n614 : Int) → hsI u → (s7I u0) u → ahI u → (0 : Int) ≤ x1.toInt ∧ x1.toInt ≤ 7 → (0 : Int) ≤ x2.toInt ∧ x2.toInt ≤ 1 → (0 : Int) ≤ x3.toInt ∧ x3.toInt ≤ 7 → (0 : Int) ≤ (u.1 85 18).toInt ∧ (u.1 85 18).toInt ≤ 7 → (0 : Int) ≤ (u.1 88 7).toInt ∧ (u.1 88 7).toInt ≤ 7 → RR = (K_X12_line_85_614 u0 n614 u x1 x2 x3) → va_P (dC, dI) vwCl (ac_w ad cA (TT nF) u) H → va_D A (ac_w ad cA (TT nF) u) → va_S A s.heap H locs → lv_has ls 4 [(0, .ref (ad 85)), (1, .int x1), (2, .int x2), (3, .int x3)] → W p l e (ac_rm 5) s m [.ref (ad 85)].toArray below meth c H locs 0 0 (MQ below (va_Qi (fun (r : Int32) (u : ac_U) => ac_R rg u ∧ ac_Fr [(85, some 4), (85, some 11), (85, some 12), (85, some 13), (85, some 14), (85, some 15), (85, some 16), (85, some 18), (85, some 20), (88, none)] u0 u ∧ ((0 : Int) ≤ r.toInt ∧ r.toInt ≤ 1) ∧ hsI u ∧ ahI u ∧ (r.toInt ≠ 0 → (s7P u0) u) ∧ f_X12_line_85 u0 = (u, r)) (ac_B (dC, dI) vwCl (ac_ty cA) ad cA (TT nF) A) A) [.ref (ad 85)].toArray s 0 0 A) (F0 m 614 ls []) := by
    intro n614
    induction n614 with
    | zero => intro x1 x2 x3 u H locs ls hR hF hn614 hK_HI hK_S7 hK_AH f0 f1 f2 f3 f4 hC hP hD hS hl; exfalso; omega
    | succ n614 ih614 =>
      intro x1 x2 x3 u H locs ls hR hF hn614 hK_HI hK_S7 hK_AH f0 f1 f2 f3 f4 hC hP hD hS hl
      have hC : RR = K_X12_line_85_614_b (K_X12_line_85_614 u0 n614) u0 u x1 x2 x3 := hC
      have L663 : ∀ (x1 : Int32) (x3 : Int32) (z0 : Int32) (u : ac_U) (H : Heap) (locs : List Loc) (ls : Array Slot), ac_R rg u → ac_Fr [(85, some 4), (85, some 11), (85, some 12), (85, some 13), (85, some 14), (85, some 15), (85, some 16), (85, some 18), (85, some 20), (88, none)] u0 u → hsI u → (s7I u0) u → ahI u → (0 : Int) ≤ x1.toInt ∧ x1.toInt ≤ 7 → (0 : Int) ≤ x3.toInt ∧ x3.toInt ≤ 6 → (0 : Int) ≤ z0.toInt ∧ z0.toInt ≤ 1 → (0 : Int) ≤ (u.1 85 18).toInt ∧ (u.1 85 18).toInt ≤ 7 → (1 : Int) ≤ (u.1 88 7).toInt ∧ (u.1 88 7).toInt ≤ 7 → 7 - x3.toInt + 0 < ((n614 : Nat) : Int) + 1 → RR = (K_X12_line_85_663 (K_X12_line_85_614 u0 n614) u0 u x1 x3 z0) → va_P (dC, dI) vwCl (ac_w ad cA (TT nF) u) H → va_D A (ac_w ad cA (TT nF) u) → va_S A s.heap H locs → lv_has ls 4 [(0, .ref (ad 85)), (1, .int x1), (3, .int x3)] → W p l e (ac_rm 5) s m [.ref (ad 85)].toArray below meth c H locs 0 0 (MQ below (va_Qi (fun (r : Int32) (u : ac_U) => ac_R rg u ∧ ac_Fr [(85, some 4), (85, some 11), (85, some 12), (85, some 13), (85, some 14), (85, some 15), (85, some 16), (85, some 18), (85, some 20), (88, none)] u0 u ∧ ((0 : Int) ≤ r.toInt ∧ r.toInt ≤ 1) ∧ hsI u ∧ ahI u ∧ (r.toInt ≠ 0 → (s7P u0) u) ∧ f_X12_line_85 u0 = (u, r)) (ac_B (dC, dI) vwCl (ac_ty cA) ad cA (TT nF) A) A) [.ref (ad 85)].toArray s 0 0 A) (F0 m 663 ls [.int z0]) := by
        intro x1 x3 z0 u H locs ls hR hF hK_HI hK_S7 hK_AH f0 f1 f2 f3 f4 f5 hC hP hD hS hl
        unfold K_X12_line_85_663 at hC
        refine lv_istore_n (lv' := [(2, .int z0), (0, .ref (ad 85)), (1, .int x1), (3, .int x3)]) F.1 F.2.1 dX12_line_663 rfl hl (by decide) rfl (fun ls hl => ?_)
        refine a_iincX F (k := 3) (fun v1 => [(3, .int v1), (2, .int z0), (0, .ref (ad 85)), (1, .int x1)]) dX12_line_664 hl rfl rfl (by decide) (by omega) (by decide) (fun _ => rfl) (fun v1 ls hv1 yv1 hl => ?_)
        have hC := vl_eq hC yv1
        refine lv_goto (tgt := 614) F.1 F.2.1 dX12_line_667 (by decide) ?_
        have g2 : (0 : Int) ≤ (u.1 88 7).toInt ∧ (u.1 88 7).toInt ≤ 8 := hR 88 7
        exact ih614 x1 z0 v1 _ _ _ _ hR hF (by omega) hK_HI hK_S7 hK_AH (by omega) (by omega) (by omega) (by omega : (0 : Int) ≤ (u.1 85 18).toInt ∧ (u.1 85 18).toInt ≤ 7) (by omega : (0 : Int) ≤ (u.1 88 7).toInt ∧ (u.1 88 7).toInt ≤ 7) hC hP hD hS (lv_sub hl [2, 3, 1, 0] rfl)
      have L662 : ∀ (x1 : Int32) (x3 : Int32) (u : ac_U) (H : Heap) (locs : List Loc) (ls : Array Slot), ac_R rg u → ac_Fr [(85, some 4), (85, some 11), (85, some 12), (85, some 13), (85, some 14), (85, some 15), (85, some 16), (85, some 18), (85, some 20), (88, none)] u0 u → hsI u → (s7I u0) u → ahI u → (0 : Int) ≤ x1.toInt ∧ x1.toInt ≤ 7 → (0 : Int) ≤ x3.toInt ∧ x3.toInt ≤ 6 → (0 : Int) ≤ (u.1 85 18).toInt ∧ (u.1 85 18).toInt ≤ 7 → (1 : Int) ≤ (u.1 88 7).toInt ∧ (u.1 88 7).toInt ≤ 7 → 7 - x3.toInt + 0 < ((n614 : Nat) : Int) + 1 → RR = (K_X12_line_85_662 (K_X12_line_85_614 u0 n614) u0 u x1 x3) → va_P (dC, dI) vwCl (ac_w ad cA (TT nF) u) H → va_D A (ac_w ad cA (TT nF) u) → va_S A s.heap H locs → lv_has ls 4 [(0, .ref (ad 85)), (1, .int x1), (3, .int x3)] → W p l e (ac_rm 5) s m [.ref (ad 85)].toArray below meth c H locs 0 0 (MQ below (va_Qi (fun (r : Int32) (u : ac_U) => ac_R rg u ∧ ac_Fr [(85, some 4), (85, some 11), (85, some 12), (85, some 13), (85, some 14), (85, some 15), (85, some 16), (85, some 18), (85, some 20), (88, none)] u0 u ∧ ((0 : Int) ≤ r.toInt ∧ r.toInt ≤ 1) ∧ hsI u ∧ ahI u ∧ (r.toInt ≠ 0 → (s7P u0) u) ∧ f_X12_line_85 u0 = (u, r)) (ac_B (dC, dI) vwCl (ac_ty cA) ad cA (TT nF) A) A) [.ref (ad 85)].toArray s 0 0 A) (F0 m 662 ls []) := by
        intro x1 x3 u H locs ls hR hF hK_HI hK_S7 hK_AH f0 f1 f2 f3 f4 hC hP hD hS hl
        unfold K_X12_line_85_662 at hC
        refine a_ic F (0 : Int32) dX12_line_662 (by decide) ?_
        have g3 : (0 : Int) ≤ (u.1 88 7).toInt ∧ (u.1 88 7).toInt ≤ 8 := hR 88 7
        exact L663 x1 x3 (0 : Int32) _ _ _ _ hR hF hK_HI hK_S7 hK_AH (by omega) (by omega) (by decide) (by omega : (0 : Int) ≤ (u.1 85 18).toInt ∧ (u.1 85 18).toInt ≤ 7) (by omega : (1 : Int) ≤ (u.1 88 7).toInt ∧ (u.1 88 7).toInt ≤ 7) (by omega) hC hP hD hS (lv_sub hl [0, 1, 2] rfl)
      have L658 : ∀ (x1 : Int32) (x3 : Int32) (u : ac_U) (H : Heap) (locs : List Loc) (ls : Array Slot), ac_R rg u → ac_Fr [(85, some 4), (85, some 11), (85, some 12), (85, some 13), (85, some 14), (85, some 15), (85, some 16), (85, some 18), (85, some 20), (88, none)] u0 u → hsI u → (s7I u0) u → ahI u → (0 : Int) ≤ x1.toInt ∧ x1.toInt ≤ 7 → (0 : Int) ≤ x3.toInt ∧ x3.toInt ≤ 6 → (0 : Int) ≤ (u.1 85 18).toInt ∧ (u.1 85 18).toInt ≤ 7 → (1 : Int) ≤ (u.1 88 7).toInt ∧ (u.1 88 7).toInt ≤ 7 → 7 - x3.toInt + 0 < ((n614 : Nat) : Int) + 1 → RR = (K_X12_line_85_658 (K_X12_line_85_614 u0 n614) u0 u x1 x3) → va_P (dC, dI) vwCl (ac_w ad cA (TT nF) u) H → va_D A (ac_w ad cA (TT nF) u) → va_S A s.heap H locs → lv_has ls 4 [(0, .ref (ad 85)), (1, .int x1), (3, .int x3)] → W p l e (ac_rm 5) s m [.ref (ad 85)].toArray below meth c H locs 0 0 (MQ below (va_Qi (fun (r : Int32) (u : ac_U) => ac_R rg u ∧ ac_Fr [(85, some 4), (85, some 11), (85, some 12), (85, some 13), (85, some 14), (85, some 15), (85, some 16), (85, some 18), (85, some 20), (88, none)] u0 u ∧ ((0 : Int) ≤ r.toInt ∧ r.toInt ≤ 1) ∧ hsI u ∧ ahI u ∧ (r.toInt ≠ 0 → (s7P u0) u) ∧ f_X12_line_85 u0 = (u, r)) (ac_B (dC, dI) vwCl (ac_ty cA) ad cA (TT nF) A) A) [.ref (ad 85)].toArray s 0 0 A) (F0 m 658 ls []) := by
        intro x1 x3 u H locs ls hR hF hK_HI hK_S7 hK_AH f0 f1 f2 f3 f4 hC hP hD hS hl
        unfold K_X12_line_85_658 at hC
        refine a_ic F (1 : Int32) dX12_line_658 (by decide) ?_
        refine lv_goto (tgt := 663) F.1 F.2.1 dX12_line_659 (by decide) ?_
        have g4 : (0 : Int) ≤ (u.1 88 7).toInt ∧ (u.1 88 7).toInt ≤ 8 := hR 88 7
        exact L663 x1 x3 (1 : Int32) _ _ _ _ hR hF hK_HI hK_S7 hK_AH (by omega) (by omega) (by decide) (by omega : (0 : Int) ≤ (u.1 85 18).toInt ∧ (u.1 85 18).toInt ≤ 7) (by omega : (1 : Int) ≤ (u.1 88 7).toInt ∧ (u.1 88 7).toInt ≤ 7) (by omega) hC hP hD hS (lv_sub hl [0, 1, 2] rfl)
      unfold K_X12_line_85_614_b at hC
      refine lv_iload_n F.1 F.2.1 dX12_line_614 rfl (lv_at hl 3 rfl) ?_
      refine lv_aload_n F.1 F.2.1 dX12_line_615 rfl (lv_at hl 0 rfl) ?_
      refine a_getr F inX12 hP 85 7 tc_85 rfl rfl (by decide) q1478 (fun _ h9 => h9) dX12_line_616 ?_
      refine a_bp F (7 : Int32) dX12_line_619 (by decide) ?_
      have g5 : (0 : Int) ≤ (u.1 88 7).toInt ∧ (u.1 88 7).toInt ≤ 8 := hR 88 7
      refine a_ialdK F hP 88 7 tc_88 rfl rfl (i_in ic_7 (by omega)) (v := (u.1 88 7)) rfl dX12_line_621 ?_
      refine b_ge F 670 dX12_line_622 (by decide) rfl rfl (fun c6 => ?_) (fun c6 => ?_)
      · have hC := hC.trans (if_pos c6)
        refine lv_iload_n F.1 F.2.1 dX12_line_670 rfl (lv_at hl 2 rfl) ?_
        refine z_ne F 680 dX12_line_671 (by decide) rfl (fun c7 => ?_) (fun c7 => ?_)
        · have hC := hC.trans (if_pos c7)
          refine lv_aload_n F.1 F.2.1 dX12_line_680 rfl (lv_at hl 0 rfl) ?_
          refine a_getr F inX12 hP 85 7 tc_85 rfl rfl (by decide) q1478 (fun _ h9 => h9) dX12_line_681 ?_
          refine a_bp F (90 : Int32) dX12_line_684 (by decide) ?_
          refine lv_aload_n F.1 F.2.1 dX12_line_686 rfl (lv_at hl 0 rfl) ?_
          refine a_getr F inX12 hP 85 7 tc_85 rfl rfl (by decide) q1478 (fun _ h9 => h9) dX12_line_687 ?_
          refine a_bp F (7 : Int32) dX12_line_690 (by decide) ?_
          refine a_ialdK F hP 88 7 tc_88 rfl rfl (i_in ic_7 (by omega)) (v := (u.1 88 7)) (rfl) dX12_line_692 ?_
          refine a_iaddX F dX12_line_693 ic_90 rfl (by omega) (fun v8 hv8 yv8 => ?_)
          have hC := vl_eq hC yv8
          refine lv_iload_n F.1 F.2.1 dX12_line_694 rfl (lv_at hl 1 rfl) ?_
          have g9 : (0 : Int) ≤ (u.1 88 1).toInt ∧ (u.1 88 1).toInt ≤ 8 := hR 88 1
          refine a_iast F hP hD hS 88 tc_88 rfl (i_in rfl (by omega)) dX12_line_695 (fun H locs hP hD hS => ?_)
          have hR := hR.si (c := 88) (k := v8.toNatClampNeg) (v := x1) (rs_88_90_97 (by omega) ⟨i_lo _, i_hi _⟩)
          have hF := hF.si (c := 88) (k := v8.toNatClampNeg) (v := x1) rfl
          have hK_HI := sp_si sp_HI hK_HI (c := 88) (k := v8.toNatClampNeg) (v := x1) (fun j9 h9 => by have q8 := sp_mem h9; simp at q8; have q9 := i_cl (x := v8) (by omega); omega)
          have hK_S7 := sp_si (sp_s7 _) hK_S7 (c := 88) (k := v8.toNatClampNeg) (v := x1) (fun j9 h9 => by have q8 := sp_mem h9; simp at q8; have q9 := i_cl (x := v8) (by omega); omega)
          have hK_AH := sp_si sp_AH hK_AH (c := 88) (k := v8.toNatClampNeg) (v := x1) (fun j9 h9 => by have q8 := sp_mem h9; simp at q8; have q9 := i_cl (x := v8) (by omega); omega)
          refine lv_aload_n F.1 F.2.1 dX12_line_696 rfl (lv_at hl 0 rfl) ?_
          refine a_getr F inX12 hP 85 7 tc_85 rfl rfl (by decide) q1478 (fun _ h9 => h9) dX12_line_697 ?_
          refine a_bp F (98 : Int32) dX12_line_700 (by decide) ?_
          refine lv_aload_n F.1 F.2.1 dX12_line_702 rfl (lv_at hl 0 rfl) ?_
          refine a_getr F inX12 hP 85 7 tc_85 rfl rfl (by decide) q1478 (fun _ h9 => h9) dX12_line_703 ?_
          refine a_bp F (7 : Int32) dX12_line_706 (by decide) ?_
          refine a_ialdK F hP 88 7 tc_88 rfl rfl (i_in ic_7 (by omega)) (v := (u.1 88 7)) (ac_ne (c := 88) (k := 7) (i := v8) (by have q9 := i_cl (x := v8) (by omega); omega)) dX12_line_708 ?_
          refine a_iaddX F dX12_line_709 ic_98 rfl (by omega) (fun v10 hv10 yv10 => ?_)
          have hC := vl_eq hC yv10
          refine lv_aload_n F.1 F.2.1 dX12_line_710 rfl (lv_at hl 0 rfl) ?_
          refine a_geti F inX12 hP 85 18 tc_85 rfl rfl (by decide) q1489 (fun _ h9 => h9) (v := (u.1 85 18)) rfl dX12_line_711 ?_
          refine a_iast F hP hD hS 88 tc_88 rfl (i_in rfl (by omega)) dX12_line_714 (fun H locs hP hD hS => ?_)
          have hR := hR.si (c := 88) (k := v10.toNatClampNeg) (v := (u.1 85 18)) (rs_88_98_105 (by omega) ⟨i_lo _, i_hi _⟩)
          have hF := hF.si (c := 88) (k := v10.toNatClampNeg) (v := (u.1 85 18)) rfl
          have hK_HI := sp_si sp_HI hK_HI (c := 88) (k := v10.toNatClampNeg) (v := (u.1 85 18)) (fun j9 h9 => by have q8 := sp_mem h9; simp at q8; have q9 := i_cl (x := v10) (by omega); omega)
          have hK_S7 := sp_si (sp_s7 _) hK_S7 (c := 88) (k := v10.toNatClampNeg) (v := (u.1 85 18)) (fun j9 h9 => by have q8 := sp_mem h9; simp at q8; have q9 := i_cl (x := v10) (by omega); omega)
          have hK_AH := sp_si sp_AH hK_AH (c := 88) (k := v10.toNatClampNeg) (v := (u.1 85 18)) (fun j9 h9 => by have q8 := sp_mem h9; simp at q8; have q9 := i_cl (x := v10) (by omega); omega)
          refine lv_aload_n F.1 F.2.1 dX12_line_715 rfl (lv_at hl 0 rfl) ?_
          refine a_getr F inX12 hP 85 7 tc_85 rfl rfl (by decide) q1478 (fun _ h9 => h9) dX12_line_716 ?_
          refine a_bp F (7 : Int32) dX12_line_719 (by decide) ?_
          refine lv_dup2_11 F.1 F.2.1 dX12_line_721 rfl rfl ?_
          refine a_ialdK F hP 88 7 tc_88 rfl rfl (i_in ic_7 (by omega)) (v := (u.1 88 7)) ((ac_ne (c := 88) (k := 7) (i := v10) (by have q9 := i_cl (x := v10) (by omega); omega)).trans (ac_ne (c := 88) (k := 7) (i := v8) (by have q9 := i_cl (x := v8) (by omega); omega))) dX12_line_722 ?_
          refine a_ic F (1 : Int32) dX12_line_723 (by decide) ?_
          refine a_iaddX F dX12_line_724 rfl ic_1 (by omega) (fun v11 hv11 yv11 => ?_)
          have hC := vl_eq hC yv11
          refine a_iastK F hP hD hS 88 7 tc_88 rfl rfl (i_in ic_7 (by omega)) dX12_line_725 (fun H locs hP hD hS => ?_)
          have hR := hR.si (c := 88) (k := 7) (v := v11) (by omega : (0 : Int) ≤ v11.toInt ∧ v11.toInt ≤ 8)
          have hF := hF.si (c := 88) (k := 7) (v := v11) rfl
          have hO_HI := hK_HI
          have hO_S7 := hK_S7
          have hO_AH := hK_AH
          have hN_S7p := s7_inc (k := 7) hO_S7 (by omega) (x := (u.1 88 7)) (v := v11) ((ac_ne (c := 88) (k := 7) (i := v10) (by have q9 := i_cl (x := v10) (by omega); omega)).trans (ac_ne (c := 88) (k := 7) (i := v8) (by have q9 := i_cl (x := v8) (by omega); omega))) (by omega)
          have hK_HI := sp_si sp_HI hK_HI (c := 88) (k := 7) (v := v11) (fun j9 h9 q9 => by rw [q9] at h9; exact absurd h9 (by decide))
          have hK_AH := sp_si sp_AH hK_AH (c := 88) (k := 7) (v := v11) (fun j9 h9 q9 => by rw [q9] at h9; exact absurd h9 (by decide))
          have hK_S7p := hN_S7p
          refine lv_aload_n F.1 F.2.1 dX12_line_726 rfl (lv_at hl 0 rfl) ?_
          refine a_Vv F hml hl.1 hA hP hD hS (As := []) (x_X12_next_85 l dC dI ad cA nF _  hR) (cs_RX12_184 (d := 2) F.2.2.1 (by decide)) tc_85 rfl rfl rfl rfl (Nat.le_of_ble_eq_true rfl) dX12_line_727 ⟨Nat.le_refl 0, Nat.le_refl 0⟩ (fun u12 H locs hq hP hD hS => ?_)
          obtain ⟨hR, hF12, hz12⟩ := hq
          have hF := hF.tr hF12 (by decide)
          have hK_HI := sp_fr sp_HI hF12 (by decide) hK_HI
          have hK_AH := sp_fr sp_AH hF12 (by decide) hK_AH
          have hK_S7p := sp_fr (sp_s7p _) hF12 (by decide) hK_S7p
          have hC := vl_eq hC hz12.symm
          refine a_ic F (1 : Int32) dX12_line_730 (by decide) ?_
          exact a_retz F hr hlocks hP hD hS dX12_line_731 (Or.inr rfl) ⟨hR, hF, (by decide), hK_HI, hK_AH, (fun _ => hK_S7p), hRR.symm.trans hC⟩
        · have hC := hC.trans (if_neg (by omega))
          refine lv_aload_n F.1 F.2.1 dX12_line_674 rfl (lv_at hl 0 rfl) ?_
          refine a_ic F (3 : Int32) dX12_line_675 (by decide) ?_
          have g14 : (0 : Int) ≤ (u.1 88 1).toInt ∧ (u.1 88 1).toInt ≤ 8 := hR 88 1
          refine a_Vi F hml hl.1 hA hP hD hS (As := [.int (3 : Int32)]) (x_X12_bad_85 l dC dI ad cA nF _ (3 : Int32) hR (by decide)) (cs_RX12_181 (d := 1) F.2.2.1 (by decide)) tc_85 rfl rfl rfl rfl (Nat.le_of_ble_eq_true rfl) dX12_line_676 ⟨Nat.le_refl 0, Nat.le_refl 0⟩ (fun r13 u13 H locs hq hP hD hS => ?_)
          obtain ⟨hR, hF13, gr13, hz13⟩ := hq
          have hF := hF.tr hF13 (by decide)
          have hK_HI := sp_fr sp_HI hF13 (by decide) hK_HI
          have hK_S7 := sp_fr (sp_s7 _) hF13 (by decide) hK_S7
          have hK_AH := sp_fr sp_AH hF13 (by decide) hK_AH
          have hC := bd_eq hC hz13
          exact a_retz F hr hlocks hP hD hS dX12_line_679 (i_01 (by omega)) ⟨hR, hF, (by omega : (0 : Int) ≤ r13.toInt ∧ r13.toInt ≤ 1), hK_HI, hK_AH, (fun h9 => absurd (by omega : r13.toInt = 0) h9), hRR.symm.trans hC⟩
      · have hC := hC.trans (if_neg (by omega))
        refine lv_iload_n F.1 F.2.1 dX12_line_625 rfl (lv_at hl 2 rfl) ?_
        refine z_eq F 662 dX12_line_626 (by decide) rfl (fun c15 => ?_) (fun c15 => ?_)
        · have hC := hC.trans (if_pos c15)
          exact L662 x1 x3 _ _ _ _ hR hF hK_HI hK_S7 hK_AH (by omega) (by omega) (by omega : (0 : Int) ≤ (u.1 85 18).toInt ∧ (u.1 85 18).toInt ≤ 7) (by omega : (1 : Int) ≤ (u.1 88 7).toInt ∧ (u.1 88 7).toInt ≤ 7) (by omega) hC hP hD hS (lv_sub hl [0, 1, 3] rfl)
        · have hC := hC.trans (if_neg (by omega))
          refine lv_aload_n F.1 F.2.1 dX12_line_629 rfl (lv_at hl 0 rfl) ?_
          refine a_getr F inX12 hP 85 7 tc_85 rfl rfl (by decide) q1478 (fun _ h9 => h9) dX12_line_630 ?_
          refine a_bp F (90 : Int32) dX12_line_633 (by decide) ?_
          refine lv_iload_n F.1 F.2.1 dX12_line_635 rfl (lv_at hl 3 rfl) ?_
          refine a_iaddX F dX12_line_636 ic_90 rfl (by omega) (fun v16 hv16 yv16 => ?_)
          have hC := vl_eq hC yv16
          refine a_iald F hP 88 tc_88 rfl (i_in rfl (by omega)) dX12_line_637 (fun v17 ev17 => ?_)
          have hC := vl_eq hC ev17.symm
          refine lv_iload_n F.1 F.2.1 dX12_line_638 rfl (lv_at hl 1 rfl) ?_
          refine b_ne F 658 dX12_line_639 (by decide) rfl rfl (fun c18 => ?_) (fun c18 => ?_)
          · have hC := hC.trans (if_pos c18)
            exact L658 x1 x3 _ _ _ _ hR hF hK_HI hK_S7 hK_AH (by omega) (by omega) (by omega : (0 : Int) ≤ (u.1 85 18).toInt ∧ (u.1 85 18).toInt ≤ 7) (by omega : (1 : Int) ≤ (u.1 88 7).toInt ∧ (u.1 88 7).toInt ≤ 7) (by omega) hC hP hD hS (lv_sub hl [0, 1, 3] rfl)
          · have hC := hC.trans (if_neg (by omega))
            refine lv_aload_n F.1 F.2.1 dX12_line_642 rfl (lv_at hl 0 rfl) ?_
            refine a_getr F inX12 hP 85 7 tc_85 rfl rfl (by decide) q1478 (fun _ h9 => h9) dX12_line_643 ?_
            refine a_bp F (98 : Int32) dX12_line_646 (by decide) ?_
            refine lv_iload_n F.1 F.2.1 dX12_line_648 rfl (lv_at hl 3 rfl) ?_
            refine a_iaddX F dX12_line_649 ic_98 rfl (by omega) (fun v19 hv19 yv19 => ?_)
            have hC := vl_eq hC yv19
            refine a_iald F hP 88 tc_88 rfl (i_in rfl (by omega)) dX12_line_650 (fun v20 ev20 => ?_)
            have hC := vl_eq hC ev20.symm
            refine lv_aload_n F.1 F.2.1 dX12_line_651 rfl (lv_at hl 0 rfl) ?_
            refine a_geti F inX12 hP 85 18 tc_85 rfl rfl (by decide) q1489 (fun _ h9 => h9) (v := (u.1 85 18)) rfl dX12_line_652 ?_
            refine b_eq F 662 dX12_line_655 (by decide) rfl rfl (fun c21 => ?_) (fun c21 => ?_)
            · have hC := hC.trans (if_pos c21)
              exact L662 x1 x3 _ _ _ _ hR hF hK_HI hK_S7 hK_AH (by omega) (by omega) (by omega : (0 : Int) ≤ (u.1 85 18).toInt ∧ (u.1 85 18).toInt ≤ 7) (by omega : (1 : Int) ≤ (u.1 88 7).toInt ∧ (u.1 88 7).toInt ≤ 7) (by omega) hC hP hD hS (lv_sub hl [0, 1, 3] rfl)
            · have hC := hC.trans (if_neg (by omega))
              exact L658 x1 x3 _ _ _ _ hR hF hK_HI hK_S7 hK_AH (by omega) (by omega) (by omega : (0 : Int) ≤ (u.1 85 18).toInt ∧ (u.1 85 18).toInt ≤ 7) (by omega : (1 : Int) ≤ (u.1 88 7).toInt ∧ (u.1 88 7).toInt ≤ 7) (by omega) hC hP hD hS (lv_sub hl [0, 1, 3] rfl)
  have L611 : ∀ (x1 : Int32) (z0 : Int32) (u : ac_U) (H : Heap) (locs : List Loc) (ls : Array Slot), ac_R rg u → ac_Fr [(85, some 4), (85, some 11), (85, some 12), (85, some 13), (85, some 14), (85, some 15), (85, some 16), (85, some 18), (85, some 20), (88, none)] u0 u → hsI u → (s7I u0) u → ahI u → (0 : Int) ≤ x1.toInt ∧ x1.toInt ≤ 7 → (0 : Int) ≤ z0.toInt ∧ z0.toInt ≤ 1 → (0 : Int) ≤ (u.1 85 18).toInt ∧ (u.1 85 18).toInt ≤ 7 → (0 : Int) ≤ (u.1 88 7).toInt ∧ (u.1 88 7).toInt ≤ 7 → RR = (K_X12_line_85_611 u0 u x1 z0) → va_P (dC, dI) vwCl (ac_w ad cA (TT nF) u) H → va_D A (ac_w ad cA (TT nF) u) → va_S A s.heap H locs → lv_has ls 4 [(0, .ref (ad 85)), (1, .int x1)] → W p l e (ac_rm 5) s m [.ref (ad 85)].toArray below meth c H locs 0 0 (MQ below (va_Qi (fun (r : Int32) (u : ac_U) => ac_R rg u ∧ ac_Fr [(85, some 4), (85, some 11), (85, some 12), (85, some 13), (85, some 14), (85, some 15), (85, some 16), (85, some 18), (85, some 20), (88, none)] u0 u ∧ ((0 : Int) ≤ r.toInt ∧ r.toInt ≤ 1) ∧ hsI u ∧ ahI u ∧ (r.toInt ≠ 0 → (s7P u0) u) ∧ f_X12_line_85 u0 = (u, r)) (ac_B (dC, dI) vwCl (ac_ty cA) ad cA (TT nF) A) A) [.ref (ad 85)].toArray s 0 0 A) (F0 m 611 ls [.int z0]) := by
    intro x1 z0 u H locs ls hR hF hK_HI hK_S7 hK_AH f0 f1 f2 f3 hC hP hD hS hl
    unfold K_X12_line_85_611 at hC
    refine lv_istore_n (lv' := [(2, .int z0), (0, .ref (ad 85)), (1, .int x1)]) F.1 F.2.1 dX12_line_611 rfl hl (by decide) rfl (fun ls hl => ?_)
    refine a_ic F (0 : Int32) dX12_line_612 (by decide) ?_
    refine lv_istore_n (lv' := [(3, .int (0 : Int32)), (2, .int z0), (0, .ref (ad 85)), (1, .int x1)]) F.1 F.2.1 dX12_line_613 rfl hl (by decide) rfl (fun ls hl => ?_)
    have g22 : (0 : Int) ≤ (u.1 88 7).toInt ∧ (u.1 88 7).toInt ≤ 8 := hR 88 7
    exact L614 9 x1 z0 (0 : Int32) _ _ _ _ hR hF (by decide) hK_HI hK_S7 hK_AH (by omega) (by omega) (by decide) (by omega : (0 : Int) ≤ (u.1 85 18).toInt ∧ (u.1 85 18).toInt ≤ 7) (by omega : (0 : Int) ≤ (u.1 88 7).toInt ∧ (u.1 88 7).toInt ≤ 7) hC hP hD hS (lv_sub hl [2, 3, 1, 0] rfl)
  have L411 : ∀ (u : ac_U) (H : Heap) (locs : List Loc) (ls : Array Slot), ac_R rg u → ac_Fr [(85, some 4), (85, some 11), (85, some 12), (85, some 13), (85, some 14), (85, some 15), (85, some 16), (85, some 18), (85, some 20), (88, none)] u0 u → hsI u → ahI u → (0 : Int) ≤ (u.1 88 4).toInt ∧ (u.1 88 4).toInt ≤ 3 → RR = (K_X12_line_85_411 u0 u) → va_P (dC, dI) vwCl (ac_w ad cA (TT nF) u) H → va_D A (ac_w ad cA (TT nF) u) → va_S A s.heap H locs → lv_has ls 4 [] → W p l e (ac_rm 5) s m [.ref (ad 85)].toArray below meth c H locs 0 0 (MQ below (va_Qi (fun (r : Int32) (u : ac_U) => ac_R rg u ∧ ac_Fr [(85, some 4), (85, some 11), (85, some 12), (85, some 13), (85, some 14), (85, some 15), (85, some 16), (85, some 18), (85, some 20), (88, none)] u0 u ∧ ((0 : Int) ≤ r.toInt ∧ r.toInt ≤ 1) ∧ hsI u ∧ ahI u ∧ (r.toInt ≠ 0 → (s7P u0) u) ∧ f_X12_line_85 u0 = (u, r)) (ac_B (dC, dI) vwCl (ac_ty cA) ad cA (TT nF) A) A) [.ref (ad 85)].toArray s 0 0 A) (F0 m 411 ls []) := by
    intro u H locs ls hR hF hK_HI hK_AH f0 hC hP hD hS hl
    unfold K_X12_line_85_411 at hC
    refine a_ic F (0 : Int32) dX12_line_411 (by decide) ?_
    exact a_retz F hr hlocks hP hD hS dX12_line_412 (Or.inl rfl) ⟨hR, hF, (by decide), hK_HI, hK_AH, (fun h9 => absurd (by decide) h9), hRR.symm.trans hC⟩
  have L214 : ∀ (u : ac_U) (H : Heap) (locs : List Loc) (ls : Array Slot), ac_R rg u → ac_Fr [(85, some 4), (85, some 11), (85, some 12), (85, some 13), (85, some 14), (85, some 15), (85, some 16), (85, some 18), (85, some 20), (88, none)] u0 u → hsI u → ahI u → (0 : Int) ≤ (u.1 85 18).toInt ∧ (u.1 85 18).toInt ≤ 7 → (0 : Int) ≤ (u.1 88 2).toInt ∧ (u.1 88 2).toInt ≤ 11 → RR = (K_X12_line_85_214 u0 u) → va_P (dC, dI) vwCl (ac_w ad cA (TT nF) u) H → va_D A (ac_w ad cA (TT nF) u) → va_S A s.heap H locs → lv_has ls 4 [(0, .ref (ad 85))] → W p l e (ac_rm 5) s m [.ref (ad 85)].toArray below meth c H locs 0 0 (MQ below (va_Qi (fun (r : Int32) (u : ac_U) => ac_R rg u ∧ ac_Fr [(85, some 4), (85, some 11), (85, some 12), (85, some 13), (85, some 14), (85, some 15), (85, some 16), (85, some 18), (85, some 20), (88, none)] u0 u ∧ ((0 : Int) ≤ r.toInt ∧ r.toInt ≤ 1) ∧ hsI u ∧ ahI u ∧ (r.toInt ≠ 0 → (s7P u0) u) ∧ f_X12_line_85 u0 = (u, r)) (ac_B (dC, dI) vwCl (ac_ty cA) ad cA (TT nF) A) A) [.ref (ad 85)].toArray s 0 0 A) (F0 m 214 ls []) := by
    intro u H locs ls hR hF hK_HI hK_AH f0 f1 hC hP hD hS hl
    unfold K_X12_line_85_214 at hC
    refine lv_aload_n F.1 F.2.1 dX12_line_214 rfl (lv_at hl 0 rfl) ?_
    refine a_ic F (3 : Int32) dX12_line_215 (by decide) ?_
    have g24 : (0 : Int) ≤ (u.1 88 1).toInt ∧ (u.1 88 1).toInt ≤ 8 := hR 88 1
    refine a_Vi F hml hl.1 hA hP hD hS (As := [.int (3 : Int32)]) (x_X12_bad_85 l dC dI ad cA nF _ (3 : Int32) hR (by decide)) (cs_RX12_181 (d := 1) F.2.2.1 (by decide)) tc_85 rfl rfl rfl rfl (Nat.le_of_ble_eq_true rfl) dX12_line_216 ⟨Nat.le_refl 0, Nat.le_refl 0⟩ (fun r23 u23 H locs hq hP hD hS => ?_)
    obtain ⟨hR, hF23, gr23, hz23⟩ := hq
    have hF := hF.tr hF23 (by decide)
    have hK_HI := sp_fr sp_HI hF23 (by decide) hK_HI
    have hK_AH := sp_fr sp_AH hF23 (by decide) hK_AH
    have hC := bd_eq hC hz23
    exact a_retz F hr hlocks hP hD hS dX12_line_219 (i_01 (by omega)) ⟨hR, hF, (by omega : (0 : Int) ≤ r23.toInt ∧ r23.toInt ≤ 1), hK_HI, hK_AH, (fun h9 => absurd (by omega : r23.toInt = 0) h9), hRR.symm.trans hC⟩
  have hC : RR = f_X12_line_85 u0 := hRR
  unfold f_X12_line_85 at hC
  refine lv_aload_n F.1 F.2.1 dX12_line_0 rfl (lv_at hl 0 rfl) ?_
  refine lv_ldc2 (v := (448546566771 : Int64)) F.1 F.2.1 F.2.2.2.1 (F.2.2.1 _ q1444) dX12_line_1 ?_
  refine a_Vi F hml hl.1 hA hP hD hS (As := [.long (448546566771 : Int64)]) (x_X12_isWord_85 l dC dI ad cA nF _ (448546566771 : Int64) hR) (cs_RX12_206 (d := 1) F.2.2.1 (by decide)) tc_85 rfl rfl rfl rfl (Nat.le_of_ble_eq_true rfl) dX12_line_4 ⟨Nat.le_refl 0, Nat.le_refl 0⟩ (fun r25 uN25 H locs hq hP hD hS => ?_)
  obtain ⟨hu25, gr25, hz25⟩ := hq
  rw [hu25] at hP hD
  have hC := vl_eq hC hz25.symm
  refine z_eq F 56 dX12_line_7 (by decide) rfl (fun c26 => ?_) (fun c26 => ?_)
  · have hC := hC.trans (if_pos c26)
    refine lv_aload_n F.1 F.2.1 dX12_line_56 rfl (lv_at hl 0 rfl) ?_
    refine lv_ldc2 (v := (482854658917 : Int64)) F.1 F.2.1 F.2.2.2.1 (F.2.2.1 _ q1445) dX12_line_57 ?_
    refine a_Vi F hml hl.1 hA hP hD hS (As := [.long (482854658917 : Int64)]) (x_X12_isWord_85 l dC dI ad cA nF _ (482854658917 : Int64) hR) (cs_RX12_206 (d := 1) F.2.2.1 (by decide)) tc_85 rfl rfl rfl rfl (Nat.le_of_ble_eq_true rfl) dX12_line_60 ⟨Nat.le_refl 0, Nat.le_refl 0⟩ (fun r27 uN27 H locs hq hP hD hS => ?_)
    obtain ⟨hu27, gr27, hz27⟩ := hq
    rw [hu27] at hP hD
    have hC := vl_eq hC hz27.symm
    refine z_eq F 117 dX12_line_63 (by decide) rfl (fun c28 => ?_) (fun c28 => ?_)
    · have hC := hC.trans (if_pos c28)
      refine lv_aload_n F.1 F.2.1 dX12_line_117 rfl (lv_at hl 0 rfl) ?_
      refine lv_ldc2 (v := (7823737 : Int64)) F.1 F.2.1 F.2.2.2.1 (F.2.2.1 _ q1446) dX12_line_118 ?_
      refine a_Vi F hml hl.1 hA hP hD hS (As := [.long (7823737 : Int64)]) (x_X12_isWord_85 l dC dI ad cA nF _ (7823737 : Int64) hR) (cs_RX12_206 (d := 1) F.2.2.1 (by decide)) tc_85 rfl rfl rfl rfl (Nat.le_of_ble_eq_true rfl) dX12_line_121 ⟨Nat.le_refl 0, Nat.le_refl 0⟩ (fun r29 uN29 H locs hq hP hD hS => ?_)
      obtain ⟨hu29, gr29, hz29⟩ := hq
      rw [hu29] at hP hD
      have hC := vl_eq hC hz29.symm
      refine z_eq F 272 dX12_line_124 (by decide) rfl (fun c30 => ?_) (fun c30 => ?_)
      · have hC := hC.trans (if_pos c30)
        refine lv_aload_n F.1 F.2.1 dX12_line_272 rfl (lv_at hl 0 rfl) ?_
        refine lv_ldc2 (v := (1718775655 : Int64)) F.1 F.2.1 F.2.2.2.1 (F.2.2.1 _ q1447) dX12_line_273 ?_
        refine a_Vi F hml hl.1 hA hP hD hS (As := [.long (1718775655 : Int64)]) (x_X12_isWord_85 l dC dI ad cA nF _ (1718775655 : Int64) hR) (cs_RX12_206 (d := 1) F.2.2.1 (by decide)) tc_85 rfl rfl rfl rfl (Nat.le_of_ble_eq_true rfl) dX12_line_276 ⟨Nat.le_refl 0, Nat.le_refl 0⟩ (fun r31 uN31 H locs hq hP hD hS => ?_)
        obtain ⟨hu31, gr31, hz31⟩ := hq
        rw [hu31] at hP hD
        have hC := vl_eq hC hz31.symm
        refine z_eq F 350 dX12_line_279 (by decide) rfl (fun c32 => ?_) (fun c32 => ?_)
        · have hC := hC.trans (if_pos c32)
          refine lv_aload_n F.1 F.2.1 dX12_line_350 rfl (lv_at hl 0 rfl) ?_
          refine lv_ldc2 (v := (123581014175598 : Int64)) F.1 F.2.1 F.2.2.2.1 (F.2.2.1 _ q1448) dX12_line_351 ?_
          refine a_Vi F hml hl.1 hA hP hD hS (As := [.long (123581014175598 : Int64)]) (x_X12_isWord_85 l dC dI ad cA nF _ (123581014175598 : Int64) hR) (cs_RX12_206 (d := 1) F.2.2.1 (by decide)) tc_85 rfl rfl rfl rfl (Nat.le_of_ble_eq_true rfl) dX12_line_354 ⟨Nat.le_refl 0, Nat.le_refl 0⟩ (fun r33 uN33 H locs hq hP hD hS => ?_)
          obtain ⟨hu33, gr33, hz33⟩ := hq
          rw [hu33] at hP hD
          have hC := vl_eq hC hz33.symm
          refine z_eq F 443 dX12_line_357 (by decide) rfl (fun c34 => ?_) (fun c34 => ?_)
          · have hC := hC.trans (if_pos c34)
            refine lv_aload_n F.1 F.2.1 dX12_line_443 rfl (lv_at hl 0 rfl) ?_
            refine lv_ldc2 (v := (1684366692 : Int64)) F.1 F.2.1 F.2.2.2.1 (F.2.2.1 _ q1449) dX12_line_444 ?_
            refine a_Vi F hml hl.1 hA hP hD hS (As := [.long (1684366692 : Int64)]) (x_X12_isWord_85 l dC dI ad cA nF _ (1684366692 : Int64) hR) (cs_RX12_206 (d := 1) F.2.2.1 (by decide)) tc_85 rfl rfl rfl rfl (Nat.le_of_ble_eq_true rfl) dX12_line_447 ⟨Nat.le_refl 0, Nat.le_refl 0⟩ (fun r35 uN35 H locs hq hP hD hS => ?_)
            obtain ⟨hu35, gr35, hz35⟩ := hq
            rw [hu35] at hP hD
            have hC := vl_eq hC hz35.symm
            refine z_eq F 504 dX12_line_450 (by decide) rfl (fun c36 => ?_) (fun c36 => ?_)
            · have hC := hC.trans (if_pos c36)
              refine lv_aload_n F.1 F.2.1 dX12_line_504 rfl (lv_at hl 0 rfl) ?_
              refine lv_ldc2 (v := (31651020294157157 : Int64)) F.1 F.2.1 F.2.2.2.1 (F.2.2.1 _ q1450) dX12_line_505 ?_
              refine a_Vi F hml hl.1 hA hP hD hS (As := [.long (31651020294157157 : Int64)]) (x_X12_isWord_85 l dC dI ad cA nF _ (31651020294157157 : Int64) hR) (cs_RX12_206 (d := 1) F.2.2.1 (by decide)) tc_85 rfl rfl rfl rfl (Nat.le_of_ble_eq_true rfl) dX12_line_508 ⟨Nat.le_refl 0, Nat.le_refl 0⟩ (fun r37 uN37 H locs hq hP hD hS => ?_)
              obtain ⟨hu37, gr37, hz37⟩ := hq
              rw [hu37] at hP hD
              have hC := vl_eq hC hz37.symm
              refine z_eq F 519 dX12_line_511 (by decide) rfl (fun c38 => ?_) (fun c38 => ?_)
              · have hC := hC.trans (if_pos c38)
                refine lv_aload_n F.1 F.2.1 dX12_line_519 rfl (lv_at hl 0 rfl) ?_
                refine lv_ldc2 (v := (7761783 : Int64)) F.1 F.2.1 F.2.2.2.1 (F.2.2.1 _ q1451) dX12_line_520 ?_
                refine a_Vi F hml hl.1 hA hP hD hS (As := [.long (7761783 : Int64)]) (x_X12_isWord_85 l dC dI ad cA nF _ (7761783 : Int64) hR) (cs_RX12_206 (d := 1) F.2.2.1 (by decide)) tc_85 rfl rfl rfl rfl (Nat.le_of_ble_eq_true rfl) dX12_line_523 ⟨Nat.le_refl 0, Nat.le_refl 0⟩ (fun r39 uN39 H locs hq hP hD hS => ?_)
                obtain ⟨hu39, gr39, hz39⟩ := hq
                rw [hu39] at hP hD
                have hC := vl_eq hC hz39.symm
                refine z_ne F 535 dX12_line_526 (by decide) rfl (fun c40 => ?_) (fun c40 => ?_)
                · have hC := hC.trans (if_pos c40)
                  refine lv_aload_n F.1 F.2.1 dX12_line_535 rfl (lv_at hl 0 rfl) ?_
                  refine a_getr F inX12 hP 85 7 tc_85 rfl rfl (by decide) q1478 (fun _ h9 => h9) dX12_line_536 ?_
                  refine a_bp F (7 : Int32) dX12_line_539 (by decide) ?_
                  have g41 : (0 : Int) ≤ (u0.1 88 7).toInt ∧ (u0.1 88 7).toInt ≤ 8 := hR 88 7
                  refine a_ialdK F hP 88 7 tc_88 rfl rfl (i_in ic_7 (by omega)) (v := (u0.1 88 7)) rfl dX12_line_541 ?_
                  refine a_bp F (8 : Int32) dX12_line_542 (by decide) ?_
                  refine b_ne F 553 dX12_line_544 (by decide) rfl ic_8 (fun c42 => ?_) (fun c42 => ?_)
                  · have hC := hC.trans (if_pos c42)
                    refine lv_aload_n F.1 F.2.1 dX12_line_553 rfl (lv_at hl 0 rfl) ?_
                    have g44 : (0 : Int) ≤ (u0.1 88 1).toInt ∧ (u0.1 88 1).toInt ≤ 8 := hR 88 1
                    refine a_Vv F hml hl.1 hA hP hD hS (As := []) (x_X12_next_85 l dC dI ad cA nF _  hR) (cs_RX12_184 (d := 2) F.2.2.1 (by decide)) tc_85 rfl rfl rfl rfl (Nat.le_of_ble_eq_true rfl) dX12_line_554 ⟨Nat.le_refl 0, Nat.le_refl 0⟩ (fun u43 H locs hq hP hD hS => ?_)
                    obtain ⟨hR, hF43, hz43⟩ := hq
                    have hF := hF.tr hF43 (by decide)
                    have hK_HI := sp_fr sp_HI hF43 (by decide) hK_HI
                    have hK_AH := sp_fr sp_AH hF43 (by decide) hK_AH
                    have hK_S7 := sp_fr (sp_s7 _) hF43 (by decide) hK_S7
                    have hC := vl_eq hC hz43.symm
                    refine lv_aload_n F.1 F.2.1 dX12_line_557 rfl (lv_at hl 0 rfl) ?_
                    refine a_bp F (44 : Int32) dX12_line_558 (by decide) ?_
                    refine lv_aload_n F.1 F.2.1 dX12_line_560 rfl (lv_at hl 0 rfl) ?_
                    refine a_getr F inX12 hP 85 7 tc_85 rfl rfl (by decide) q1478 (fun _ h9 => h9) dX12_line_561 ?_
                    refine a_bp F (6 : Int32) dX12_line_564 (by decide) ?_
                    have g45 : (0 : Int) ≤ (u43.1 88 6).toInt ∧ (u43.1 88 6).toInt ≤ 8 := hR 88 6
                    refine a_ialdK F hP 88 6 tc_88 rfl rfl (i_in ic_6 (by omega)) (v := (u43.1 88 6)) rfl dX12_line_566 ?_
                    refine a_Vi F hml hl.1 hA hP hD hS (As := [.int (44 : Int32), .int (u43.1 88 6)]) (x_X12_takesName_85 l dC dI ad cA nF _ (44 : Int32) (u43.1 88 6) hR (by decide) (by omega) (by simp only [ic_44]; omega)) (cs_RX12_220 (d := 3) F.2.2.1 (by decide)) tc_85 rfl rfl rfl rfl (Nat.le_of_ble_eq_true rfl) dX12_line_567 ⟨Nat.le_refl 0, Nat.le_refl 0⟩ (fun r46 u46 H locs hq hP hD hS => ?_)
                    obtain ⟨hR, hF46, gr46, xr46, hz46⟩ := hq
                    have hF := hF.tr hF46 (by decide)
                    have hK_HI := sp_fr sp_HI hF46 (by decide) hK_HI
                    have hK_AH := sp_fr sp_AH hF46 (by decide) hK_AH
                    have hK_S7 := sp_fr (sp_s7 _) hF46 (by decide) hK_S7
                    have xr46 : r46.toInt ≠ 0 → 0 ≤ (u46.1 85 18).toInt ∧ (u46.1 85 18).toInt < (u43.1 88 6).toInt := xr46
                    have hC := bd_eq hC hz46
                    refine z_ne F 575 dX12_line_570 (by decide) rfl (fun c47 => ?_) (fun c47 => ?_)
                    · have hC := hC.trans (if_pos c47)
                      refine lv_aload_n F.1 F.2.1 dX12_line_575 rfl (lv_at hl 0 rfl) ?_
                      refine a_geti F inX12 hP 85 18 tc_85 rfl rfl (by decide) q1489 (fun _ h9 => h9) (v := (u46.1 85 18)) (rfl) dX12_line_576 ?_
                      refine lv_istore_n (lv' := [(1, .int (u46.1 85 18)), (0, .ref (ad 85))]) F.1 F.2.1 dX12_line_579 rfl hl (by decide) rfl (fun ls hl => ?_)
                      refine lv_aload_n F.1 F.2.1 dX12_line_580 rfl (lv_at hl 1 rfl) ?_
                      refine a_bp F (44 : Int32) dX12_line_581 (by decide) ?_
                      refine lv_aload_n F.1 F.2.1 dX12_line_583 rfl (lv_at hl 1 rfl) ?_
                      refine a_getr F inX12 hP 85 7 tc_85 rfl rfl (by decide) q1478 (fun _ h9 => h9) dX12_line_584 ?_
                      refine a_bp F (6 : Int32) dX12_line_587 (by decide) ?_
                      refine a_ialdK F hP 88 6 tc_88 rfl rfl (i_in ic_6 (by omega)) (v := (u43.1 88 6)) (hF46 88 6 rfl) dX12_line_589 ?_
                      refine a_Vi F hml hl.1 hA hP hD hS (As := [.int (44 : Int32), .int (u43.1 88 6)]) (x_X12_looksAt_85 l dC dI ad cA nF _ (44 : Int32) (u43.1 88 6) hR (by decide) (by omega) (by simp only [ic_44]; omega)) (cs_RX12_202 (d := 2) F.2.2.1 (by decide)) tc_85 rfl rfl rfl rfl (Nat.le_of_ble_eq_true rfl) dX12_line_590 ⟨Nat.le_refl 0, Nat.le_refl 0⟩ (fun r48 u48 H locs hq hP hD hS => ?_)
                      obtain ⟨hR, hF48, gr48, xr48, hz48⟩ := hq
                      have hF := hF.tr hF48 (by decide)
                      have hK_HI := sp_fr sp_HI hF48 (by decide) hK_HI
                      have hK_AH := sp_fr sp_AH hF48 (by decide) hK_AH
                      have hK_S7 := sp_fr (sp_s7 _) hF48 (by decide) hK_S7
                      have xr48 : r48.toInt ≠ 0 → 0 ≤ (u48.1 85 18).toInt ∧ (u48.1 85 18).toInt < (u43.1 88 6).toInt := xr48
                      have hC := bd_eq hC hz48
                      refine z_ne F 598 dX12_line_593 (by decide) rfl (fun c49 => ?_) (fun c49 => ?_)
                      · have hC := hC.trans (if_pos c49)
                        refine lv_iload_n F.1 F.2.1 dX12_line_598 rfl (lv_at hl 0 rfl) ?_
                        refine lv_aload_n F.1 F.2.1 dX12_line_599 rfl (lv_at hl 1 rfl) ?_
                        refine a_geti F inX12 hP 85 18 tc_85 rfl rfl (by decide) q1489 (fun _ h9 => h9) (v := (u48.1 85 18)) (rfl) dX12_line_600 ?_
                        refine b_eq F 610 dX12_line_603 (by decide) rfl rfl (fun c50 => ?_) (fun c50 => ?_)
                        · have hC := hC.trans (if_pos c50)
                          refine a_ic F (0 : Int32) dX12_line_610 (by decide) ?_
                          exact L611 (u46.1 85 18) (0 : Int32) _ _ _ _ hR hF hK_HI hK_S7 hK_AH (by omega) (by decide) (by omega : (0 : Int) ≤ (u48.1 85 18).toInt ∧ (u48.1 85 18).toInt ≤ 7) (i_trB ((hF48 88 7 rfl).trans ((hF46 88 7 rfl).trans (hF43 88 7 rfl))) (by omega : (0 : Int) ≤ (u0.1 88 7).toInt ∧ (u0.1 88 7).toInt ≤ 7)) hC hP hD hS (lv_sub hl [1, 0] rfl)
                        · have hC := hC.trans (if_neg (by omega))
                          refine a_ic F (1 : Int32) dX12_line_606 (by decide) ?_
                          refine lv_goto (tgt := 611) F.1 F.2.1 dX12_line_607 (by decide) ?_
                          exact L611 (u46.1 85 18) (1 : Int32) _ _ _ _ hR hF hK_HI hK_S7 hK_AH (by omega) (by decide) (by omega : (0 : Int) ≤ (u48.1 85 18).toInt ∧ (u48.1 85 18).toInt ≤ 7) (i_trB ((hF48 88 7 rfl).trans ((hF46 88 7 rfl).trans (hF43 88 7 rfl))) (by omega : (0 : Int) ≤ (u0.1 88 7).toInt ∧ (u0.1 88 7).toInt ≤ 7)) hC hP hD hS (lv_sub hl [1, 0] rfl)
                      · have hC := hC.trans (if_neg (by omega))
                        refine a_ic F (0 : Int32) dX12_line_596 (by decide) ?_
                        exact a_retz F hr hlocks hP hD hS dX12_line_597 (Or.inl rfl) ⟨hR, hF, (by decide), hK_HI, hK_AH, (fun h9 => absurd (by decide) h9), hRR.symm.trans hC⟩
                    · have hC := hC.trans (if_neg (by omega))
                      refine a_ic F (0 : Int32) dX12_line_573 (by decide) ?_
                      exact a_retz F hr hlocks hP hD hS dX12_line_574 (Or.inl rfl) ⟨hR, hF, (by decide), hK_HI, hK_AH, (fun h9 => absurd (by decide) h9), hRR.symm.trans hC⟩
                  · have hC := hC.trans (if_neg (by omega))
                    refine lv_aload_n F.1 F.2.1 dX12_line_547 rfl (lv_at hl 0 rfl) ?_
                    refine a_ic F (4 : Int32) dX12_line_548 (by decide) ?_
                    have g52 : (0 : Int) ≤ (u0.1 88 1).toInt ∧ (u0.1 88 1).toInt ≤ 8 := hR 88 1
                    refine a_Vi F hml hl.1 hA hP hD hS (As := [.int (4 : Int32)]) (x_X12_bad_85 l dC dI ad cA nF _ (4 : Int32) hR (by decide)) (cs_RX12_181 (d := 1) F.2.2.1 (by decide)) tc_85 rfl rfl rfl rfl (Nat.le_of_ble_eq_true rfl) dX12_line_549 ⟨Nat.le_refl 0, Nat.le_refl 0⟩ (fun r51 u51 H locs hq hP hD hS => ?_)
                    obtain ⟨hR, hF51, gr51, hz51⟩ := hq
                    have hF := hF.tr hF51 (by decide)
                    have hK_HI := sp_fr sp_HI hF51 (by decide) hK_HI
                    have hK_AH := sp_fr sp_AH hF51 (by decide) hK_AH
                    have hK_S7 := sp_fr (sp_s7 _) hF51 (by decide) hK_S7
                    have hC := bd_eq hC hz51
                    exact a_retz F hr hlocks hP hD hS dX12_line_552 (i_01 (by omega)) ⟨hR, hF, (by omega : (0 : Int) ≤ r51.toInt ∧ r51.toInt ≤ 1), hK_HI, hK_AH, (fun h9 => absurd (by omega : r51.toInt = 0) h9), hRR.symm.trans hC⟩
                · have hC := hC.trans (if_neg (by omega))
                  refine lv_aload_n F.1 F.2.1 dX12_line_529 rfl (lv_at hl 0 rfl) ?_
                  refine a_ic F (1 : Int32) dX12_line_530 (by decide) ?_
                  have g54 : (0 : Int) ≤ (u0.1 88 1).toInt ∧ (u0.1 88 1).toInt ≤ 8 := hR 88 1
                  refine a_Vi F hml hl.1 hA hP hD hS (As := [.int (1 : Int32)]) (x_X12_bad_85 l dC dI ad cA nF _ (1 : Int32) hR (by decide)) (cs_RX12_181 (d := 1) F.2.2.1 (by decide)) tc_85 rfl rfl rfl rfl (Nat.le_of_ble_eq_true rfl) dX12_line_531 ⟨Nat.le_refl 0, Nat.le_refl 0⟩ (fun r53 u53 H locs hq hP hD hS => ?_)
                  obtain ⟨hR, hF53, gr53, hz53⟩ := hq
                  have hF := hF.tr hF53 (by decide)
                  have hK_HI := sp_fr sp_HI hF53 (by decide) hK_HI
                  have hK_AH := sp_fr sp_AH hF53 (by decide) hK_AH
                  have hK_S7 := sp_fr (sp_s7 _) hF53 (by decide) hK_S7
                  have hC := bd_eq hC hz53
                  exact a_retz F hr hlocks hP hD hS dX12_line_534 (i_01 (by omega)) ⟨hR, hF, (by omega : (0 : Int) ≤ r53.toInt ∧ r53.toInt ≤ 1), hK_HI, hK_AH, (fun h9 => absurd (by omega : r53.toInt = 0) h9), hRR.symm.trans hC⟩
              · have hC := hC.trans (if_neg (by omega))
                refine lv_aload_n F.1 F.2.1 dX12_line_514 rfl (lv_at hl 0 rfl) ?_
                have g56 : (0 : Int) ≤ (u0.1 88 1).toInt ∧ (u0.1 88 1).toInt ≤ 8 := hR 88 1
                refine a_Vi F hml hl.1 hA hP hD hS (As := []) (x_X12_readPromise_85 l dC dI ad cA nF _  hR hK_HI hK_AH) (cs_RX12_226 (d := 4) F.2.2.1 (by decide)) tc_85 rfl rfl rfl rfl (Nat.le_of_ble_eq_true rfl) dX12_line_515 ⟨Nat.le_refl 0, Nat.le_refl 0⟩ (fun r55 u55 H locs hq hP hD hS => ?_)
                obtain ⟨hR, hF55, gr55, hK_HI, hK_AH, hK_r55_S7p, hz55⟩ := hq
                have hF := hF.tr hF55 (by decide)
                have hC := bd_eq hC hz55
                exact a_retz F hr hlocks hP hD hS dX12_line_518 (i_01 (by omega)) ⟨hR, hF, (by omega : (0 : Int) ≤ r55.toInt ∧ r55.toInt ≤ 1), hK_HI, hK_AH, hK_r55_S7p, hRR.symm.trans hC⟩
            · have hC := hC.trans (if_neg (by omega))
              refine lv_aload_n F.1 F.2.1 dX12_line_453 rfl (lv_at hl 0 rfl) ?_
              refine a_getr F inX12 hP 85 7 tc_85 rfl rfl (by decide) q1478 (fun _ h9 => h9) dX12_line_454 ?_
              refine a_ic F (5 : Int32) dX12_line_457 (by decide) ?_
              have g57 : (0 : Int) ≤ (u0.1 88 5).toInt ∧ (u0.1 88 5).toInt ≤ 6 := hR 88 5
              refine a_ialdK F hP 88 5 tc_88 rfl rfl (i_in ic_5 (by omega)) (v := (u0.1 88 5)) rfl dX12_line_458 ?_
              refine a_bp F (6 : Int32) dX12_line_459 (by decide) ?_
              refine b_ne F 470 dX12_line_461 (by decide) rfl ic_6 (fun c58 => ?_) (fun c58 => ?_)
              · have hC := hC.trans (if_pos c58)
                refine lv_aload_n F.1 F.2.1 dX12_line_470 rfl (lv_at hl 0 rfl) ?_
                have g60 : (0 : Int) ≤ (u0.1 88 1).toInt ∧ (u0.1 88 1).toInt ≤ 8 := hR 88 1
                refine a_Vv F hml hl.1 hA hP hD hS (As := []) (x_X12_next_85 l dC dI ad cA nF _  hR) (cs_RX12_184 (d := 2) F.2.2.1 (by decide)) tc_85 rfl rfl rfl rfl (Nat.le_of_ble_eq_true rfl) dX12_line_471 ⟨Nat.le_refl 0, Nat.le_refl 0⟩ (fun u59 H locs hq hP hD hS => ?_)
                obtain ⟨hR, hF59, hz59⟩ := hq
                have hF := hF.tr hF59 (by decide)
                have hK_HI := sp_fr sp_HI hF59 (by decide) hK_HI
                have hK_AH := sp_fr sp_AH hF59 (by decide) hK_AH
                have hK_S7 := sp_fr (sp_s7 _) hF59 (by decide) hK_S7
                have hC := vl_eq hC hz59.symm
                refine lv_aload_n F.1 F.2.1 dX12_line_474 rfl (lv_at hl 0 rfl) ?_
                refine a_bp F (38 : Int32) dX12_line_475 (by decide) ?_
                refine lv_aload_n F.1 F.2.1 dX12_line_477 rfl (lv_at hl 0 rfl) ?_
                refine a_getr F inX12 hP 85 7 tc_85 rfl rfl (by decide) q1478 (fun _ h9 => h9) dX12_line_478 ?_
                refine a_ic F (5 : Int32) dX12_line_481 (by decide) ?_
                refine a_ialdK F hP 88 5 tc_88 rfl rfl (i_in ic_5 (by omega)) (v := (u0.1 88 5)) (hF59 88 5 rfl) dX12_line_482 ?_
                refine a_iaddX F dX12_line_483 ic_38 rfl (by omega) (fun v61 hv61 yv61 => ?_)
                have hC := vl_eq hC yv61
                refine a_Vi F hml hl.1 hA hP hD hS (As := [.int v61]) (x_X12_fresh_85 l dC dI ad cA nF _ v61 hR (by omega)) (cs_RX12_217 (d := 3) F.2.2.1 (by decide)) tc_85 rfl rfl rfl rfl (Nat.le_of_ble_eq_true rfl) dX12_line_484 ⟨Nat.le_refl 0, Nat.le_refl 0⟩ (fun r62 u62 H locs hq hP hD hS => ?_)
                obtain ⟨hR, hF62, gr62, hz62⟩ := hq
                have hF := hF.tr hF62 (by decide)
                have hK_HI := sp_fr sp_HI hF62 (by decide) hK_HI
                have hK_AH := sp_fr sp_AH hF62 (by decide) hK_AH
                have hK_S7 := sp_fr (sp_s7 _) hF62 (by decide) hK_S7
                have hC := bd_eq hC hz62
                refine z_ne F 492 dX12_line_487 (by decide) rfl (fun c63 => ?_) (fun c63 => ?_)
                · have hC := hC.trans (if_pos c63)
                  refine lv_aload_n F.1 F.2.1 dX12_line_492 rfl (lv_at hl 0 rfl) ?_
                  refine a_getr F inX12 hP 85 7 tc_85 rfl rfl (by decide) q1478 (fun _ h9 => h9) dX12_line_493 ?_
                  refine a_ic F (5 : Int32) dX12_line_496 (by decide) ?_
                  refine lv_dup2_11 F.1 F.2.1 dX12_line_497 rfl rfl ?_
                  refine a_ialdK F hP 88 5 tc_88 rfl rfl (i_in ic_5 (by omega)) (v := (u0.1 88 5)) ((hF62 88 5 rfl).trans (hF59 88 5 rfl)) dX12_line_498 ?_
                  refine a_ic F (1 : Int32) dX12_line_499 (by decide) ?_
                  refine a_iaddX F dX12_line_500 rfl ic_1 (by omega) (fun v64 hv64 yv64 => ?_)
                  have hC := vl_eq hC yv64
                  refine a_iastK F hP hD hS 88 5 tc_88 rfl rfl (i_in ic_5 (by omega)) dX12_line_501 (fun H locs hP hD hS => ?_)
                  have hR := hR.si (c := 88) (k := 5) (v := v64) (by omega : (0 : Int) ≤ v64.toInt ∧ v64.toInt ≤ 6)
                  have hF := hF.si (c := 88) (k := 5) (v := v64) rfl
                  have hO_HI := hK_HI
                  have hO_AH := hK_AH
                  have hO_S7 := hK_S7
                  have hN_S7p := s7_inc (k := 5) hO_S7 (by omega) (x := (u0.1 88 5)) (v := v64) ((hF62 88 5 rfl).trans (hF59 88 5 rfl)) (by omega)
                  have hK_HI := sp_si sp_HI hK_HI (c := 88) (k := 5) (v := v64) (fun j9 h9 q9 => by rw [q9] at h9; exact absurd h9 (by decide))
                  have hK_AH := sp_si sp_AH hK_AH (c := 88) (k := 5) (v := v64) (fun j9 h9 q9 => by rw [q9] at h9; exact absurd h9 (by decide))
                  have hK_S7p := hN_S7p
                  refine a_ic F (1 : Int32) dX12_line_502 (by decide) ?_
                  exact a_retz F hr hlocks hP hD hS dX12_line_503 (Or.inr rfl) ⟨hR, hF, (by decide), hK_HI, hK_AH, (fun _ => hK_S7p), hRR.symm.trans hC⟩
                · have hC := hC.trans (if_neg (by omega))
                  refine a_ic F (0 : Int32) dX12_line_490 (by decide) ?_
                  exact a_retz F hr hlocks hP hD hS dX12_line_491 (Or.inl rfl) ⟨hR, hF, (by decide), hK_HI, hK_AH, (fun h9 => absurd (by decide) h9), hRR.symm.trans hC⟩
              · have hC := hC.trans (if_neg (by omega))
                refine lv_aload_n F.1 F.2.1 dX12_line_464 rfl (lv_at hl 0 rfl) ?_
                refine a_ic F (4 : Int32) dX12_line_465 (by decide) ?_
                have g66 : (0 : Int) ≤ (u0.1 88 1).toInt ∧ (u0.1 88 1).toInt ≤ 8 := hR 88 1
                refine a_Vi F hml hl.1 hA hP hD hS (As := [.int (4 : Int32)]) (x_X12_bad_85 l dC dI ad cA nF _ (4 : Int32) hR (by decide)) (cs_RX12_181 (d := 1) F.2.2.1 (by decide)) tc_85 rfl rfl rfl rfl (Nat.le_of_ble_eq_true rfl) dX12_line_466 ⟨Nat.le_refl 0, Nat.le_refl 0⟩ (fun r65 u65 H locs hq hP hD hS => ?_)
                obtain ⟨hR, hF65, gr65, hz65⟩ := hq
                have hF := hF.tr hF65 (by decide)
                have hK_HI := sp_fr sp_HI hF65 (by decide) hK_HI
                have hK_AH := sp_fr sp_AH hF65 (by decide) hK_AH
                have hK_S7 := sp_fr (sp_s7 _) hF65 (by decide) hK_S7
                have hC := bd_eq hC hz65
                exact a_retz F hr hlocks hP hD hS dX12_line_469 (i_01 (by omega)) ⟨hR, hF, (by omega : (0 : Int) ≤ r65.toInt ∧ r65.toInt ≤ 1), hK_HI, hK_AH, (fun h9 => absurd (by omega : r65.toInt = 0) h9), hRR.symm.trans hC⟩
          · have hC := hC.trans (if_neg (by omega))
            refine lv_aload_n F.1 F.2.1 dX12_line_360 rfl (lv_at hl 0 rfl) ?_
            refine a_getr F inX12 hP 85 7 tc_85 rfl rfl (by decide) q1478 (fun _ h9 => h9) dX12_line_361 ?_
            refine a_ic F (4 : Int32) dX12_line_364 (by decide) ?_
            have g67 : (0 : Int) ≤ (u0.1 88 4).toInt ∧ (u0.1 88 4).toInt ≤ 4 := hR 88 4
            refine a_ialdK F hP 88 4 tc_88 rfl rfl (i_in ic_4 (by omega)) (v := (u0.1 88 4)) rfl dX12_line_365 ?_
            refine a_ic F (4 : Int32) dX12_line_366 (by decide) ?_
            refine b_ne F 376 dX12_line_367 (by decide) rfl ic_4 (fun c68 => ?_) (fun c68 => ?_)
            · have hC := hC.trans (if_pos c68)
              refine lv_aload_n F.1 F.2.1 dX12_line_376 rfl (lv_at hl 0 rfl) ?_
              have g70 : (0 : Int) ≤ (u0.1 88 1).toInt ∧ (u0.1 88 1).toInt ≤ 8 := hR 88 1
              refine a_Vv F hml hl.1 hA hP hD hS (As := []) (x_X12_next_85 l dC dI ad cA nF _  hR) (cs_RX12_184 (d := 2) F.2.2.1 (by decide)) tc_85 rfl rfl rfl rfl (Nat.le_of_ble_eq_true rfl) dX12_line_377 ⟨Nat.le_refl 0, Nat.le_refl 0⟩ (fun u69 H locs hq hP hD hS => ?_)
              obtain ⟨hR, hF69, hz69⟩ := hq
              have hF := hF.tr hF69 (by decide)
              have hK_HI := sp_fr sp_HI hF69 (by decide) hK_HI
              have hK_AH := sp_fr sp_AH hF69 (by decide) hK_AH
              have hK_S7 := sp_fr (sp_s7 _) hF69 (by decide) hK_S7
              have hC := vl_eq hC hz69.symm
              refine lv_aload_n F.1 F.2.1 dX12_line_380 rfl (lv_at hl 0 rfl) ?_
              refine a_bp F (34 : Int32) dX12_line_381 (by decide) ?_
              refine lv_aload_n F.1 F.2.1 dX12_line_383 rfl (lv_at hl 0 rfl) ?_
              refine a_getr F inX12 hP 85 7 tc_85 rfl rfl (by decide) q1478 (fun _ h9 => h9) dX12_line_384 ?_
              refine a_ic F (4 : Int32) dX12_line_387 (by decide) ?_
              refine a_ialdK F hP 88 4 tc_88 rfl rfl (i_in ic_4 (by omega)) (v := (u0.1 88 4)) (hF69 88 4 rfl) dX12_line_388 ?_
              refine a_iaddX F dX12_line_389 ic_34 rfl (by omega) (fun v71 hv71 yv71 => ?_)
              have hC := vl_eq hC yv71
              refine a_Vi F hml hl.1 hA hP hD hS (As := [.int v71]) (x_X12_fresh_85 l dC dI ad cA nF _ v71 hR (by omega)) (cs_RX12_217 (d := 3) F.2.2.1 (by decide)) tc_85 rfl rfl rfl rfl (Nat.le_of_ble_eq_true rfl) dX12_line_390 ⟨Nat.le_refl 0, Nat.le_refl 0⟩ (fun r72 u72 H locs hq hP hD hS => ?_)
              obtain ⟨hR, hF72, gr72, hz72⟩ := hq
              have hF := hF.tr hF72 (by decide)
              have hK_HI := sp_fr sp_HI hF72 (by decide) hK_HI
              have hK_AH := sp_fr sp_AH hF72 (by decide) hK_AH
              have hK_S7 := sp_fr (sp_s7 _) hF72 (by decide) hK_S7
              have hC := bd_eq hC hz72
              refine z_eq F 411 dX12_line_393 (by decide) rfl (fun c73 => ?_) (fun c73 => ?_)
              · have hC := hC.trans (if_pos c73)
                exact L411 _ _ _ _ hR hF hK_HI hK_AH (i_trB ((hF72 88 4 rfl).trans (hF69 88 4 rfl)) (by omega : (0 : Int) ≤ (u0.1 88 4).toInt ∧ (u0.1 88 4).toInt ≤ 3)) hC hP hD hS (lv_sub hl [] rfl)
              · have hC := hC.trans (if_neg (by omega))
                refine lv_aload_n F.1 F.2.1 dX12_line_396 rfl (lv_at hl 0 rfl) ?_
                refine a_bp F (26 : Int32) dX12_line_397 (by decide) ?_
                refine lv_aload_n F.1 F.2.1 dX12_line_399 rfl (lv_at hl 0 rfl) ?_
                refine a_getr F inX12 hP 85 7 tc_85 rfl rfl (by decide) q1478 (fun _ h9 => h9) dX12_line_400 ?_
                refine a_ic F (1 : Int32) dX12_line_403 (by decide) ?_
                refine a_ialdK F hP 88 1 tc_88 rfl rfl (i_in ic_1 (by omega)) (v := (u0.1 88 1)) ((hF72 88 1 rfl).trans (hF69 88 1 rfl)) dX12_line_404 ?_
                refine a_Vi F hml hl.1 hA hP hD hS (As := [.int (26 : Int32), .int (u0.1 88 1)]) (x_X12_takesName_85 l dC dI ad cA nF _ (26 : Int32) (u0.1 88 1) hR (by decide) (by omega) (by simp only [ic_26]; omega)) (cs_RX12_220 (d := 3) F.2.2.1 (by decide)) tc_85 rfl rfl rfl rfl (Nat.le_of_ble_eq_true rfl) dX12_line_405 ⟨Nat.le_refl 0, Nat.le_refl 0⟩ (fun r74 u74 H locs hq hP hD hS => ?_)
                obtain ⟨hR, hF74, gr74, xr74, hz74⟩ := hq
                have hF := hF.tr hF74 (by decide)
                have hK_HI := sp_fr sp_HI hF74 (by decide) hK_HI
                have hK_AH := sp_fr sp_AH hF74 (by decide) hK_AH
                have hK_S7 := sp_fr (sp_s7 _) hF74 (by decide) hK_S7
                have xr74 : r74.toInt ≠ 0 → 0 ≤ (u74.1 85 18).toInt ∧ (u74.1 85 18).toInt < (u0.1 88 1).toInt := xr74
                have hC := bd_eq hC hz74
                refine z_ne F 413 dX12_line_408 (by decide) rfl (fun c75 => ?_) (fun c75 => ?_)
                · have hC := hC.trans (if_pos c75)
                  refine lv_aload_n F.1 F.2.1 dX12_line_413 rfl (lv_at hl 0 rfl) ?_
                  refine a_getr F inX12 hP 85 7 tc_85 rfl rfl (by decide) q1478 (fun _ h9 => h9) dX12_line_414 ?_
                  refine a_bp F (22 : Int32) dX12_line_417 (by decide) ?_
                  refine lv_aload_n F.1 F.2.1 dX12_line_419 rfl (lv_at hl 0 rfl) ?_
                  refine a_getr F inX12 hP 85 7 tc_85 rfl rfl (by decide) q1478 (fun _ h9 => h9) dX12_line_420 ?_
                  refine a_ic F (4 : Int32) dX12_line_423 (by decide) ?_
                  refine a_ialdK F hP 88 4 tc_88 rfl rfl (i_in ic_4 (by omega)) (v := (u0.1 88 4)) ((hF74 88 4 rfl).trans ((hF72 88 4 rfl).trans (hF69 88 4 rfl))) dX12_line_424 ?_
                  refine a_iaddX F dX12_line_425 ic_22 rfl (by omega) (fun v76 hv76 yv76 => ?_)
                  have hC := vl_eq hC yv76
                  refine lv_aload_n F.1 F.2.1 dX12_line_426 rfl (lv_at hl 0 rfl) ?_
                  refine a_geti F inX12 hP 85 18 tc_85 rfl rfl (by decide) q1489 (fun _ h9 => h9) (v := (u74.1 85 18)) (rfl) dX12_line_427 ?_
                  refine a_iast F hP hD hS 88 tc_88 rfl (i_in rfl (by omega)) dX12_line_430 (fun H locs hP hD hS => ?_)
                  have hR := hR.si (c := 88) (k := v76.toNatClampNeg) (v := (u74.1 85 18)) (rs_88_22_25 (by omega) (by omega : (0 : Int) ≤ (u74.1 85 18).toInt ∧ (u74.1 85 18).toInt ≤ 7))
                  have hF := hF.si (c := 88) (k := v76.toNatClampNeg) (v := (u74.1 85 18)) rfl
                  have hO_HI := hK_HI
                  have hO_AH := hK_AH
                  have hO_S7 := hK_S7
                  have hK_HI := sp_si sp_HI hK_HI (c := 88) (k := v76.toNatClampNeg) (v := (u74.1 85 18)) (fun j9 h9 => by have q8 := sp_mem h9; simp at q8; have q9 := i_cl (x := v76) (by omega); omega)
                  have hK_AH := ah_s hO_AH (i := v76) (v := (u74.1 85 18)) (by omega) (t := (u0.1 88 1)) ((hF74 88 1 rfl).trans ((hF72 88 1 rfl).trans (hF69 88 1 rfl))) (by omega)
                  have hK_S7 := sp_si (sp_s7 _) hK_S7 (c := 88) (k := v76.toNatClampNeg) (v := (u74.1 85 18)) (fun j9 h9 => by have q8 := sp_mem h9; simp at q8; have q9 := i_cl (x := v76) (by omega); omega)
                  refine lv_aload_n F.1 F.2.1 dX12_line_431 rfl (lv_at hl 0 rfl) ?_
                  refine a_getr F inX12 hP 85 7 tc_85 rfl rfl (by decide) q1478 (fun _ h9 => h9) dX12_line_432 ?_
                  refine a_ic F (4 : Int32) dX12_line_435 (by decide) ?_
                  refine lv_dup2_11 F.1 F.2.1 dX12_line_436 rfl rfl ?_
                  refine a_ialdK F hP 88 4 tc_88 rfl rfl (i_in ic_4 (by omega)) (v := (u0.1 88 4)) ((ac_ne (c := 88) (k := 4) (i := v76) (by have q9 := i_cl (x := v76) (by omega); omega)).trans ((hF74 88 4 rfl).trans ((hF72 88 4 rfl).trans (hF69 88 4 rfl)))) dX12_line_437 ?_
                  refine a_ic F (1 : Int32) dX12_line_438 (by decide) ?_
                  refine a_iaddX F dX12_line_439 rfl ic_1 (by omega) (fun v77 hv77 yv77 => ?_)
                  have hC := vl_eq hC yv77
                  refine a_iastK F hP hD hS 88 4 tc_88 rfl rfl (i_in ic_4 (by omega)) dX12_line_440 (fun H locs hP hD hS => ?_)
                  have hR := hR.si (c := 88) (k := 4) (v := v77) (by omega : (0 : Int) ≤ v77.toInt ∧ v77.toInt ≤ 4)
                  have hF := hF.si (c := 88) (k := 4) (v := v77) rfl
                  have hO_HI := hK_HI
                  have hO_AH := hK_AH
                  have hO_S7 := hK_S7
                  have hN_S7p := s7_inc (k := 4) hO_S7 (by omega) (x := (u0.1 88 4)) (v := v77) ((ac_ne (c := 88) (k := 4) (i := v76) (by have q9 := i_cl (x := v76) (by omega); omega)).trans ((hF74 88 4 rfl).trans ((hF72 88 4 rfl).trans (hF69 88 4 rfl)))) (by omega)
                  have hK_HI := hs_q hO_HI (v := v77) (i_trP ((ac_ne (c := 88) (k := 1) (i := v76) (by have q9 := i_cl (x := v76) (by omega); omega)).trans ((hF74 88 1 rfl).trans ((hF72 88 1 rfl).trans (hF69 88 1 rfl)))) (by omega : 0 < (u0.1 88 1).toInt))
                  have hK_AH := sp_si sp_AH hK_AH (c := 88) (k := 4) (v := v77) (fun j9 h9 q9 => by rw [q9] at h9; exact absurd h9 (by decide))
                  have hK_S7p := hN_S7p
                  refine a_ic F (1 : Int32) dX12_line_441 (by decide) ?_
                  exact a_retz F hr hlocks hP hD hS dX12_line_442 (Or.inr rfl) ⟨hR, hF, (by decide), hK_HI, hK_AH, (fun _ => hK_S7p), hRR.symm.trans hC⟩
                · have hC := hC.trans (if_neg (by omega))
                  exact L411 _ _ _ _ hR hF hK_HI hK_AH (i_trB ((hF74 88 4 rfl).trans ((hF72 88 4 rfl).trans (hF69 88 4 rfl))) (by omega : (0 : Int) ≤ (u0.1 88 4).toInt ∧ (u0.1 88 4).toInt ≤ 3)) hC hP hD hS (lv_sub hl [] rfl)
            · have hC := hC.trans (if_neg (by omega))
              refine lv_aload_n F.1 F.2.1 dX12_line_370 rfl (lv_at hl 0 rfl) ?_
              refine a_ic F (4 : Int32) dX12_line_371 (by decide) ?_
              have g79 : (0 : Int) ≤ (u0.1 88 1).toInt ∧ (u0.1 88 1).toInt ≤ 8 := hR 88 1
              refine a_Vi F hml hl.1 hA hP hD hS (As := [.int (4 : Int32)]) (x_X12_bad_85 l dC dI ad cA nF _ (4 : Int32) hR (by decide)) (cs_RX12_181 (d := 1) F.2.2.1 (by decide)) tc_85 rfl rfl rfl rfl (Nat.le_of_ble_eq_true rfl) dX12_line_372 ⟨Nat.le_refl 0, Nat.le_refl 0⟩ (fun r78 u78 H locs hq hP hD hS => ?_)
              obtain ⟨hR, hF78, gr78, hz78⟩ := hq
              have hF := hF.tr hF78 (by decide)
              have hK_HI := sp_fr sp_HI hF78 (by decide) hK_HI
              have hK_AH := sp_fr sp_AH hF78 (by decide) hK_AH
              have hK_S7 := sp_fr (sp_s7 _) hF78 (by decide) hK_S7
              have hC := bd_eq hC hz78
              exact a_retz F hr hlocks hP hD hS dX12_line_375 (i_01 (by omega)) ⟨hR, hF, (by omega : (0 : Int) ≤ r78.toInt ∧ r78.toInt ≤ 1), hK_HI, hK_AH, (fun h9 => absurd (by omega : r78.toInt = 0) h9), hRR.symm.trans hC⟩
        · have hC := hC.trans (if_neg (by omega))
          refine lv_aload_n F.1 F.2.1 dX12_line_282 rfl (lv_at hl 0 rfl) ?_
          refine a_getr F inX12 hP 85 7 tc_85 rfl rfl (by decide) q1478 (fun _ h9 => h9) dX12_line_283 ?_
          refine a_ic F (3 : Int32) dX12_line_286 (by decide) ?_
          have g80 : (0 : Int) ≤ (u0.1 88 3).toInt ∧ (u0.1 88 3).toInt ≤ 6 := hR 88 3
          refine a_ialdK F hP 88 3 tc_88 rfl rfl (i_in ic_3 (by omega)) (v := (u0.1 88 3)) rfl dX12_line_287 ?_
          refine a_bp F (6 : Int32) dX12_line_288 (by decide) ?_
          refine b_ne F 299 dX12_line_290 (by decide) rfl ic_6 (fun c81 => ?_) (fun c81 => ?_)
          · have hC := hC.trans (if_pos c81)
            refine lv_aload_n F.1 F.2.1 dX12_line_299 rfl (lv_at hl 0 rfl) ?_
            have g83 : (0 : Int) ≤ (u0.1 88 1).toInt ∧ (u0.1 88 1).toInt ≤ 8 := hR 88 1
            refine a_Vv F hml hl.1 hA hP hD hS (As := []) (x_X12_next_85 l dC dI ad cA nF _  hR) (cs_RX12_184 (d := 2) F.2.2.1 (by decide)) tc_85 rfl rfl rfl rfl (Nat.le_of_ble_eq_true rfl) dX12_line_300 ⟨Nat.le_refl 0, Nat.le_refl 0⟩ (fun u82 H locs hq hP hD hS => ?_)
            obtain ⟨hR, hF82, hz82⟩ := hq
            have hF := hF.tr hF82 (by decide)
            have hK_HI := sp_fr sp_HI hF82 (by decide) hK_HI
            have hK_AH := sp_fr sp_AH hF82 (by decide) hK_AH
            have hK_S7 := sp_fr (sp_s7 _) hF82 (by decide) hK_S7
            have hC := vl_eq hC hz82.symm
            refine lv_aload_n F.1 F.2.1 dX12_line_303 rfl (lv_at hl 0 rfl) ?_
            refine a_bp F (26 : Int32) dX12_line_304 (by decide) ?_
            refine lv_aload_n F.1 F.2.1 dX12_line_306 rfl (lv_at hl 0 rfl) ?_
            refine a_getr F inX12 hP 85 7 tc_85 rfl rfl (by decide) q1478 (fun _ h9 => h9) dX12_line_307 ?_
            refine a_ic F (1 : Int32) dX12_line_310 (by decide) ?_
            refine a_ialdK F hP 88 1 tc_88 rfl rfl (i_in ic_1 (by omega)) (v := (u0.1 88 1)) (hF82 88 1 rfl) dX12_line_311 ?_
            refine a_Vi F hml hl.1 hA hP hD hS (As := [.int (26 : Int32), .int (u0.1 88 1)]) (x_X12_takesName_85 l dC dI ad cA nF _ (26 : Int32) (u0.1 88 1) hR (by decide) (by omega) (by simp only [ic_26]; omega)) (cs_RX12_220 (d := 3) F.2.2.1 (by decide)) tc_85 rfl rfl rfl rfl (Nat.le_of_ble_eq_true rfl) dX12_line_312 ⟨Nat.le_refl 0, Nat.le_refl 0⟩ (fun r84 u84 H locs hq hP hD hS => ?_)
            obtain ⟨hR, hF84, gr84, xr84, hz84⟩ := hq
            have hF := hF.tr hF84 (by decide)
            have hK_HI := sp_fr sp_HI hF84 (by decide) hK_HI
            have hK_AH := sp_fr sp_AH hF84 (by decide) hK_AH
            have hK_S7 := sp_fr (sp_s7 _) hF84 (by decide) hK_S7
            have xr84 : r84.toInt ≠ 0 → 0 ≤ (u84.1 85 18).toInt ∧ (u84.1 85 18).toInt < (u0.1 88 1).toInt := xr84
            have hC := bd_eq hC hz84
            refine z_ne F 320 dX12_line_315 (by decide) rfl (fun c85 => ?_) (fun c85 => ?_)
            · have hC := hC.trans (if_pos c85)
              refine lv_aload_n F.1 F.2.1 dX12_line_320 rfl (lv_at hl 0 rfl) ?_
              refine a_getr F inX12 hP 85 7 tc_85 rfl rfl (by decide) q1478 (fun _ h9 => h9) dX12_line_321 ?_
              refine a_bp F (16 : Int32) dX12_line_324 (by decide) ?_
              refine lv_aload_n F.1 F.2.1 dX12_line_326 rfl (lv_at hl 0 rfl) ?_
              refine a_getr F inX12 hP 85 7 tc_85 rfl rfl (by decide) q1478 (fun _ h9 => h9) dX12_line_327 ?_
              refine a_ic F (3 : Int32) dX12_line_330 (by decide) ?_
              refine a_ialdK F hP 88 3 tc_88 rfl rfl (i_in ic_3 (by omega)) (v := (u0.1 88 3)) ((hF84 88 3 rfl).trans (hF82 88 3 rfl)) dX12_line_331 ?_
              refine a_iaddX F dX12_line_332 ic_16 rfl (by omega) (fun v86 hv86 yv86 => ?_)
              have hC := vl_eq hC yv86
              refine lv_aload_n F.1 F.2.1 dX12_line_333 rfl (lv_at hl 0 rfl) ?_
              refine a_geti F inX12 hP 85 18 tc_85 rfl rfl (by decide) q1489 (fun _ h9 => h9) (v := (u84.1 85 18)) (rfl) dX12_line_334 ?_
              refine a_iast F hP hD hS 88 tc_88 rfl (i_in rfl (by omega)) dX12_line_337 (fun H locs hP hD hS => ?_)
              have hR := hR.si (c := 88) (k := v86.toNatClampNeg) (v := (u84.1 85 18)) (rs_88_16_21 (by omega) (by omega : (0 : Int) ≤ (u84.1 85 18).toInt ∧ (u84.1 85 18).toInt ≤ 7))
              have hF := hF.si (c := 88) (k := v86.toNatClampNeg) (v := (u84.1 85 18)) rfl
              have hK_HI := sp_si sp_HI hK_HI (c := 88) (k := v86.toNatClampNeg) (v := (u84.1 85 18)) (fun j9 h9 => by have q8 := sp_mem h9; simp at q8; have q9 := i_cl (x := v86) (by omega); omega)
              have hK_AH := sp_si sp_AH hK_AH (c := 88) (k := v86.toNatClampNeg) (v := (u84.1 85 18)) (fun j9 h9 => by have q8 := sp_mem h9; simp at q8; have q9 := i_cl (x := v86) (by omega); omega)
              have hK_S7 := sp_si (sp_s7 _) hK_S7 (c := 88) (k := v86.toNatClampNeg) (v := (u84.1 85 18)) (fun j9 h9 => by have q8 := sp_mem h9; simp at q8; have q9 := i_cl (x := v86) (by omega); omega)
              refine lv_aload_n F.1 F.2.1 dX12_line_338 rfl (lv_at hl 0 rfl) ?_
              refine a_getr F inX12 hP 85 7 tc_85 rfl rfl (by decide) q1478 (fun _ h9 => h9) dX12_line_339 ?_
              refine a_ic F (3 : Int32) dX12_line_342 (by decide) ?_
              refine lv_dup2_11 F.1 F.2.1 dX12_line_343 rfl rfl ?_
              refine a_ialdK F hP 88 3 tc_88 rfl rfl (i_in ic_3 (by omega)) (v := (u0.1 88 3)) ((ac_ne (c := 88) (k := 3) (i := v86) (by have q9 := i_cl (x := v86) (by omega); omega)).trans ((hF84 88 3 rfl).trans (hF82 88 3 rfl))) dX12_line_344 ?_
              refine a_ic F (1 : Int32) dX12_line_345 (by decide) ?_
              refine a_iaddX F dX12_line_346 rfl ic_1 (by omega) (fun v87 hv87 yv87 => ?_)
              have hC := vl_eq hC yv87
              refine a_iastK F hP hD hS 88 3 tc_88 rfl rfl (i_in ic_3 (by omega)) dX12_line_347 (fun H locs hP hD hS => ?_)
              have hR := hR.si (c := 88) (k := 3) (v := v87) (by omega : (0 : Int) ≤ v87.toInt ∧ v87.toInt ≤ 6)
              have hF := hF.si (c := 88) (k := 3) (v := v87) rfl
              have hO_HI := hK_HI
              have hO_AH := hK_AH
              have hO_S7 := hK_S7
              have hN_S7p := s7_inc (k := 3) hO_S7 (by omega) (x := (u0.1 88 3)) (v := v87) ((ac_ne (c := 88) (k := 3) (i := v86) (by have q9 := i_cl (x := v86) (by omega); omega)).trans ((hF84 88 3 rfl).trans (hF82 88 3 rfl))) (by omega)
              have hK_HI := sp_si sp_HI hK_HI (c := 88) (k := 3) (v := v87) (fun j9 h9 q9 => by rw [q9] at h9; exact absurd h9 (by decide))
              have hK_AH := sp_si sp_AH hK_AH (c := 88) (k := 3) (v := v87) (fun j9 h9 q9 => by rw [q9] at h9; exact absurd h9 (by decide))
              have hK_S7p := hN_S7p
              refine a_ic F (1 : Int32) dX12_line_348 (by decide) ?_
              exact a_retz F hr hlocks hP hD hS dX12_line_349 (Or.inr rfl) ⟨hR, hF, (by decide), hK_HI, hK_AH, (fun _ => hK_S7p), hRR.symm.trans hC⟩
            · have hC := hC.trans (if_neg (by omega))
              refine a_ic F (0 : Int32) dX12_line_318 (by decide) ?_
              exact a_retz F hr hlocks hP hD hS dX12_line_319 (Or.inl rfl) ⟨hR, hF, (by decide), hK_HI, hK_AH, (fun h9 => absurd (by decide) h9), hRR.symm.trans hC⟩
          · have hC := hC.trans (if_neg (by omega))
            refine lv_aload_n F.1 F.2.1 dX12_line_293 rfl (lv_at hl 0 rfl) ?_
            refine a_ic F (4 : Int32) dX12_line_294 (by decide) ?_
            have g89 : (0 : Int) ≤ (u0.1 88 1).toInt ∧ (u0.1 88 1).toInt ≤ 8 := hR 88 1
            refine a_Vi F hml hl.1 hA hP hD hS (As := [.int (4 : Int32)]) (x_X12_bad_85 l dC dI ad cA nF _ (4 : Int32) hR (by decide)) (cs_RX12_181 (d := 1) F.2.2.1 (by decide)) tc_85 rfl rfl rfl rfl (Nat.le_of_ble_eq_true rfl) dX12_line_295 ⟨Nat.le_refl 0, Nat.le_refl 0⟩ (fun r88 u88 H locs hq hP hD hS => ?_)
            obtain ⟨hR, hF88, gr88, hz88⟩ := hq
            have hF := hF.tr hF88 (by decide)
            have hK_HI := sp_fr sp_HI hF88 (by decide) hK_HI
            have hK_AH := sp_fr sp_AH hF88 (by decide) hK_AH
            have hK_S7 := sp_fr (sp_s7 _) hF88 (by decide) hK_S7
            have hC := bd_eq hC hz88
            exact a_retz F hr hlocks hP hD hS dX12_line_298 (i_01 (by omega)) ⟨hR, hF, (by omega : (0 : Int) ≤ r88.toInt ∧ r88.toInt ≤ 1), hK_HI, hK_AH, (fun h9 => absurd (by omega : r88.toInt = 0) h9), hRR.symm.trans hC⟩
      · have hC := hC.trans (if_neg (by omega))
        refine lv_aload_n F.1 F.2.1 dX12_line_127 rfl (lv_at hl 0 rfl) ?_
        refine a_getr F inX12 hP 85 7 tc_85 rfl rfl (by decide) q1478 (fun _ h9 => h9) dX12_line_128 ?_
        refine a_ic F (2 : Int32) dX12_line_131 (by decide) ?_
        have g90 : (0 : Int) ≤ (u0.1 88 2).toInt ∧ (u0.1 88 2).toInt ≤ 12 := hR 88 2
        refine a_ialdK F hP 88 2 tc_88 rfl rfl (i_in ic_2 (by omega)) (v := (u0.1 88 2)) rfl dX12_line_132 ?_
        refine a_bp F (12 : Int32) dX12_line_133 (by decide) ?_
        refine b_ne F 144 dX12_line_135 (by decide) rfl ic_12 (fun c91 => ?_) (fun c91 => ?_)
        · have hC := hC.trans (if_pos c91)
          refine lv_aload_n F.1 F.2.1 dX12_line_144 rfl (lv_at hl 0 rfl) ?_
          have g93 : (0 : Int) ≤ (u0.1 88 1).toInt ∧ (u0.1 88 1).toInt ≤ 8 := hR 88 1
          refine a_Vv F hml hl.1 hA hP hD hS (As := []) (x_X12_next_85 l dC dI ad cA nF _  hR) (cs_RX12_184 (d := 2) F.2.2.1 (by decide)) tc_85 rfl rfl rfl rfl (Nat.le_of_ble_eq_true rfl) dX12_line_145 ⟨Nat.le_refl 0, Nat.le_refl 0⟩ (fun u92 H locs hq hP hD hS => ?_)
          obtain ⟨hR, hF92, hz92⟩ := hq
          have hF := hF.tr hF92 (by decide)
          have hK_HI := sp_fr sp_HI hF92 (by decide) hK_HI
          have hK_AH := sp_fr sp_AH hF92 (by decide) hK_AH
          have hK_S7 := sp_fr (sp_s7 _) hF92 (by decide) hK_S7
          have hC := vl_eq hC hz92.symm
          refine lv_aload_n F.1 F.2.1 dX12_line_148 rfl (lv_at hl 0 rfl) ?_
          refine a_bp F (26 : Int32) dX12_line_149 (by decide) ?_
          refine lv_aload_n F.1 F.2.1 dX12_line_151 rfl (lv_at hl 0 rfl) ?_
          refine a_getr F inX12 hP 85 7 tc_85 rfl rfl (by decide) q1478 (fun _ h9 => h9) dX12_line_152 ?_
          refine a_ic F (1 : Int32) dX12_line_155 (by decide) ?_
          refine a_ialdK F hP 88 1 tc_88 rfl rfl (i_in ic_1 (by omega)) (v := (u0.1 88 1)) (hF92 88 1 rfl) dX12_line_156 ?_
          refine a_Vi F hml hl.1 hA hP hD hS (As := [.int (26 : Int32), .int (u0.1 88 1)]) (x_X12_takesName_85 l dC dI ad cA nF _ (26 : Int32) (u0.1 88 1) hR (by decide) (by omega) (by simp only [ic_26]; omega)) (cs_RX12_220 (d := 3) F.2.2.1 (by decide)) tc_85 rfl rfl rfl rfl (Nat.le_of_ble_eq_true rfl) dX12_line_157 ⟨Nat.le_refl 0, Nat.le_refl 0⟩ (fun r94 u94 H locs hq hP hD hS => ?_)
          obtain ⟨hR, hF94, gr94, xr94, hz94⟩ := hq
          have hF := hF.tr hF94 (by decide)
          have hK_HI := sp_fr sp_HI hF94 (by decide) hK_HI
          have hK_AH := sp_fr sp_AH hF94 (by decide) hK_AH
          have hK_S7 := sp_fr (sp_s7 _) hF94 (by decide) hK_S7
          have xr94 : r94.toInt ≠ 0 → 0 ≤ (u94.1 85 18).toInt ∧ (u94.1 85 18).toInt < (u0.1 88 1).toInt := xr94
          have hC := bd_eq hC hz94
          refine z_ne F 165 dX12_line_160 (by decide) rfl (fun c95 => ?_) (fun c95 => ?_)
          · have hC := hC.trans (if_pos c95)
            refine lv_aload_n F.1 F.2.1 dX12_line_165 rfl (lv_at hl 0 rfl) ?_
            refine a_geti F inX12 hP 85 18 tc_85 rfl rfl (by decide) q1489 (fun _ h9 => h9) (v := (u94.1 85 18)) (rfl) dX12_line_166 ?_
            refine lv_istore_n (lv' := [(1, .int (u94.1 85 18)), (0, .ref (ad 85))]) F.1 F.2.1 dX12_line_169 rfl hl (by decide) rfl (fun ls hl => ?_)
            refine lv_aload_n F.1 F.2.1 dX12_line_170 rfl (lv_at hl 1 rfl) ?_
            refine a_bp F (26 : Int32) dX12_line_171 (by decide) ?_
            refine lv_aload_n F.1 F.2.1 dX12_line_173 rfl (lv_at hl 1 rfl) ?_
            refine a_getr F inX12 hP 85 7 tc_85 rfl rfl (by decide) q1478 (fun _ h9 => h9) dX12_line_174 ?_
            refine a_ic F (1 : Int32) dX12_line_177 (by decide) ?_
            refine a_ialdK F hP 88 1 tc_88 rfl rfl (i_in ic_1 (by omega)) (v := (u0.1 88 1)) ((hF94 88 1 rfl).trans (hF92 88 1 rfl)) dX12_line_178 ?_
            refine a_Vi F hml hl.1 hA hP hD hS (As := [.int (26 : Int32), .int (u0.1 88 1)]) (x_X12_looksAt_85 l dC dI ad cA nF _ (26 : Int32) (u0.1 88 1) hR (by decide) (by omega) (by simp only [ic_26]; omega)) (cs_RX12_202 (d := 2) F.2.2.1 (by decide)) tc_85 rfl rfl rfl rfl (Nat.le_of_ble_eq_true rfl) dX12_line_179 ⟨Nat.le_refl 0, Nat.le_refl 0⟩ (fun r96 u96 H locs hq hP hD hS => ?_)
            obtain ⟨hR, hF96, gr96, xr96, hz96⟩ := hq
            have hF := hF.tr hF96 (by decide)
            have hK_HI := sp_fr sp_HI hF96 (by decide) hK_HI
            have hK_AH := sp_fr sp_AH hF96 (by decide) hK_AH
            have hK_S7 := sp_fr (sp_s7 _) hF96 (by decide) hK_S7
            have xr96 : r96.toInt ≠ 0 → 0 ≤ (u96.1 85 18).toInt ∧ (u96.1 85 18).toInt < (u0.1 88 1).toInt := xr96
            have hC := bd_eq hC hz96
            refine z_ne F 187 dX12_line_182 (by decide) rfl (fun c97 => ?_) (fun c97 => ?_)
            · have hC := hC.trans (if_pos c97)
              refine lv_iload_n F.1 F.2.1 dX12_line_187 rfl (lv_at hl 0 rfl) ?_
              refine lv_aload_n F.1 F.2.1 dX12_line_188 rfl (lv_at hl 1 rfl) ?_
              refine a_geti F inX12 hP 85 18 tc_85 rfl rfl (by decide) q1489 (fun _ h9 => h9) (v := (u96.1 85 18)) (rfl) dX12_line_189 ?_
              refine b_eq F 214 dX12_line_192 (by decide) rfl rfl (fun c98 => ?_) (fun c98 => ?_)
              · have hC := hC.trans (if_pos c98)
                exact L214 _ _ _ _ hR hF hK_HI hK_AH (by omega : (0 : Int) ≤ (u96.1 85 18).toInt ∧ (u96.1 85 18).toInt ≤ 7) (i_trB ((hF96 88 2 rfl).trans ((hF94 88 2 rfl).trans (hF92 88 2 rfl))) (by omega : (0 : Int) ≤ (u0.1 88 2).toInt ∧ (u0.1 88 2).toInt ≤ 11)) hC hP hD hS (lv_sub hl [1] rfl)
              · have hC := hC.trans (if_neg (by omega))
                refine lv_aload_n F.1 F.2.1 dX12_line_195 rfl (lv_at hl 1 rfl) ?_
                refine a_getr F inX12 hP 85 7 tc_85 rfl rfl (by decide) q1478 (fun _ h9 => h9) dX12_line_196 ?_
                refine a_bp F (8 : Int32) dX12_line_199 (by decide) ?_
                refine lv_iload_n F.1 F.2.1 dX12_line_201 rfl (lv_at hl 0 rfl) ?_
                refine a_iaddX F dX12_line_202 ic_8 rfl (by omega) (fun v99 hv99 yv99 => ?_)
                have hC := vl_eq hC yv99
                refine a_iald F hP 88 tc_88 rfl (i_in rfl (by omega)) dX12_line_203 (fun v100 ev100 => ?_)
                have hC := vl_eq hC ev100.symm
                refine lv_aload_n F.1 F.2.1 dX12_line_204 rfl (lv_at hl 1 rfl) ?_
                refine a_geti F inX12 hP 85 18 tc_85 rfl rfl (by decide) q1489 (fun _ h9 => h9) (v := (u96.1 85 18)) (rfl) dX12_line_205 ?_
                refine a_Si F hml hl.1 hA hP hD hS (As := [.int v100, .int (u96.1 85 18)]) (x_X12_bitOf l dC dI ad cA nF _ v100 (u96.1 85 18) hR) (cs_RX12_223 (d := 1) F.2.2.1 (by decide)) rfl rfl (Nat.le_of_ble_eq_true rfl) dX12_line_208 ⟨Nat.le_refl 0, Nat.le_refl 0⟩ (fun r101 uN101 H locs hq hP hD hS => ?_)
                obtain ⟨hu101, gr101, hz101⟩ := hq
                rw [hu101] at hP hD
                have hC := vl_eq hC hz101.symm
                refine z_eq F 220 dX12_line_211 (by decide) rfl (fun c102 => ?_) (fun c102 => ?_)
                · have hC := hC.trans (if_pos c102)
                  refine lv_aload_n F.1 F.2.1 dX12_line_220 rfl (lv_at hl 1 rfl) ?_
                  refine a_getr F inX12 hP 85 7 tc_85 rfl rfl (by decide) q1478 (fun _ h9 => h9) dX12_line_221 ?_
                  refine a_bp F (8 : Int32) dX12_line_224 (by decide) ?_
                  refine lv_iload_n F.1 F.2.1 dX12_line_226 rfl (lv_at hl 0 rfl) ?_
                  refine a_iaddX F dX12_line_227 ic_8 rfl (by omega) (fun v103 hv103 yv103 => ?_)
                  have hC := vl_eq hC yv103
                  refine lv_dup2_11 F.1 F.2.1 dX12_line_228 rfl rfl ?_
                  refine a_iald F hP 88 tc_88 rfl (i_in rfl (by omega)) dX12_line_229 (fun v104 ev104 => ?_)
                  have hC := vl_eq hC ev104.symm
                  refine a_ic F (1 : Int32) dX12_line_230 (by decide) ?_
                  refine lv_aload_n F.1 F.2.1 dX12_line_231 rfl (lv_at hl 1 rfl) ?_
                  refine a_geti F inX12 hP 85 18 tc_85 rfl rfl (by decide) q1489 (fun _ h9 => h9) (v := (u96.1 85 18)) (rfl) dX12_line_232 ?_
                  refine a_ishl1X F dX12_line_235 rfl (lo := 0) (hi := 7) (by omega) (by decide) (fun v105 hv105 yv105 => ?_)
                  have hv105 : (1 : Int) ≤ v105.toInt ∧ v105.toInt ≤ 128 := hv105
                  have hC := vl_eq hC yv105
                  refine a_iorUX F dX12_line_236 (fun v106 yv106 => ?_)
                  have hC := vl_eq hC yv106
                  refine a_iast F hP hD hS 88 tc_88 rfl (i_in rfl (by omega)) dX12_line_237 (fun H locs hP hD hS => ?_)
                  have hR := hR.si (c := 88) (k := v103.toNatClampNeg) (v := v106) (rs_88_8_15 (by omega) ⟨i_lo _, i_hi _⟩)
                  have hF := hF.si (c := 88) (k := v103.toNatClampNeg) (v := v106) rfl
                  have hK_HI := sp_si sp_HI hK_HI (c := 88) (k := v103.toNatClampNeg) (v := v106) (fun j9 h9 => by have q8 := sp_mem h9; simp at q8; have q9 := i_cl (x := v103) (by omega); omega)
                  have hK_AH := sp_si sp_AH hK_AH (c := 88) (k := v103.toNatClampNeg) (v := v106) (fun j9 h9 => by have q8 := sp_mem h9; simp at q8; have q9 := i_cl (x := v103) (by omega); omega)
                  have hK_S7 := sp_si (sp_s7 _) hK_S7 (c := 88) (k := v103.toNatClampNeg) (v := v106) (fun j9 h9 => by have q8 := sp_mem h9; simp at q8; have q9 := i_cl (x := v103) (by omega); omega)
                  refine lv_aload_n F.1 F.2.1 dX12_line_238 rfl (lv_at hl 1 rfl) ?_
                  refine a_getr F inX12 hP 85 7 tc_85 rfl rfl (by decide) q1478 (fun _ h9 => h9) dX12_line_239 ?_
                  refine a_bp F (8 : Int32) dX12_line_242 (by decide) ?_
                  refine lv_aload_n F.1 F.2.1 dX12_line_244 rfl (lv_at hl 1 rfl) ?_
                  refine a_geti F inX12 hP 85 18 tc_85 rfl rfl (by decide) q1489 (fun _ h9 => h9) (v := (u96.1 85 18)) (rfl) dX12_line_245 ?_
                  refine a_iaddX F dX12_line_248 ic_8 rfl (by omega) (fun v107 hv107 yv107 => ?_)
                  have hC := vl_eq hC yv107
                  refine lv_dup2_11 F.1 F.2.1 dX12_line_249 rfl rfl ?_
                  refine a_iald F hP 88 tc_88 rfl (i_in rfl (by omega)) dX12_line_250 (fun v108 ev108 => ?_)
                  have hC := vl_eq hC ev108.symm
                  refine a_ic F (1 : Int32) dX12_line_251 (by decide) ?_
                  refine lv_iload_n F.1 F.2.1 dX12_line_252 rfl (lv_at hl 0 rfl) ?_
                  refine a_ishl1X F dX12_line_253 rfl (lo := 0) (hi := 7) (by omega) (by decide) (fun v109 hv109 yv109 => ?_)
                  have hv109 : (1 : Int) ≤ v109.toInt ∧ v109.toInt ≤ 128 := hv109
                  have hC := vl_eq hC yv109
                  refine a_iorUX F dX12_line_254 (fun v110 yv110 => ?_)
                  have hC := vl_eq hC yv110
                  refine a_iast F hP hD hS 88 tc_88 rfl (i_in rfl (by omega)) dX12_line_255 (fun H locs hP hD hS => ?_)
                  have hR := hR.si (c := 88) (k := v107.toNatClampNeg) (v := v110) (rs_88_8_15 (by omega) ⟨i_lo _, i_hi _⟩)
                  have hF := hF.si (c := 88) (k := v107.toNatClampNeg) (v := v110) rfl
                  have hK_HI := sp_si sp_HI hK_HI (c := 88) (k := v107.toNatClampNeg) (v := v110) (fun j9 h9 => by have q8 := sp_mem h9; simp at q8; have q9 := i_cl (x := v107) (by omega); omega)
                  have hK_AH := sp_si sp_AH hK_AH (c := 88) (k := v107.toNatClampNeg) (v := v110) (fun j9 h9 => by have q8 := sp_mem h9; simp at q8; have q9 := i_cl (x := v107) (by omega); omega)
                  have hK_S7 := sp_si (sp_s7 _) hK_S7 (c := 88) (k := v107.toNatClampNeg) (v := v110) (fun j9 h9 => by have q8 := sp_mem h9; simp at q8; have q9 := i_cl (x := v107) (by omega); omega)
                  refine lv_aload_n F.1 F.2.1 dX12_line_256 rfl (lv_at hl 1 rfl) ?_
                  refine a_getr F inX12 hP 85 7 tc_85 rfl rfl (by decide) q1478 (fun _ h9 => h9) dX12_line_257 ?_
                  refine a_ic F (2 : Int32) dX12_line_260 (by decide) ?_
                  refine lv_dup2_11 F.1 F.2.1 dX12_line_261 rfl rfl ?_
                  refine a_ialdK F hP 88 2 tc_88 rfl rfl (i_in ic_2 (by omega)) (v := (u0.1 88 2)) ((ac_ne (c := 88) (k := 2) (i := v107) (by have q9 := i_cl (x := v107) (by omega); omega)).trans ((ac_ne (c := 88) (k := 2) (i := v103) (by have q9 := i_cl (x := v103) (by omega); omega)).trans ((hF96 88 2 rfl).trans ((hF94 88 2 rfl).trans (hF92 88 2 rfl))))) dX12_line_262 ?_
                  refine a_ic F (1 : Int32) dX12_line_263 (by decide) ?_
                  refine a_iaddX F dX12_line_264 rfl ic_1 (by omega) (fun v111 hv111 yv111 => ?_)
                  have hC := vl_eq hC yv111
                  refine a_iastK F hP hD hS 88 2 tc_88 rfl rfl (i_in ic_2 (by omega)) dX12_line_265 (fun H locs hP hD hS => ?_)
                  have hR := hR.si (c := 88) (k := 2) (v := v111) (by omega : (0 : Int) ≤ v111.toInt ∧ v111.toInt ≤ 12)
                  have hF := hF.si (c := 88) (k := 2) (v := v111) rfl
                  have hO_HI := hK_HI
                  have hO_AH := hK_AH
                  have hO_S7 := hK_S7
                  have hN_S7p := s7_inc (k := 2) hO_S7 (by omega) (x := (u0.1 88 2)) (v := v111) ((ac_ne (c := 88) (k := 2) (i := v107) (by have q9 := i_cl (x := v107) (by omega); omega)).trans ((ac_ne (c := 88) (k := 2) (i := v103) (by have q9 := i_cl (x := v103) (by omega); omega)).trans ((hF96 88 2 rfl).trans ((hF94 88 2 rfl).trans (hF92 88 2 rfl))))) (by omega)
                  have hK_HI := sp_si sp_HI hK_HI (c := 88) (k := 2) (v := v111) (fun j9 h9 q9 => by rw [q9] at h9; exact absurd h9 (by decide))
                  have hK_AH := sp_si sp_AH hK_AH (c := 88) (k := 2) (v := v111) (fun j9 h9 q9 => by rw [q9] at h9; exact absurd h9 (by decide))
                  have hK_S7p := hN_S7p
                  refine lv_aload_n F.1 F.2.1 dX12_line_266 rfl (lv_at hl 1 rfl) ?_
                  refine a_Vv F hml hl.1 hA hP hD hS (As := []) (x_X12_next_85 l dC dI ad cA nF _  hR) (cs_RX12_184 (d := 2) F.2.2.1 (by decide)) tc_85 rfl rfl rfl rfl (Nat.le_of_ble_eq_true rfl) dX12_line_267 ⟨Nat.le_refl 0, Nat.le_refl 0⟩ (fun u112 H locs hq hP hD hS => ?_)
                  obtain ⟨hR, hF112, hz112⟩ := hq
                  have hF := hF.tr hF112 (by decide)
                  have hK_HI := sp_fr sp_HI hF112 (by decide) hK_HI
                  have hK_AH := sp_fr sp_AH hF112 (by decide) hK_AH
                  have hK_S7p := sp_fr (sp_s7p _) hF112 (by decide) hK_S7p
                  have hC := vl_eq hC hz112.symm
                  refine a_ic F (1 : Int32) dX12_line_270 (by decide) ?_
                  exact a_retz F hr hlocks hP hD hS dX12_line_271 (Or.inr rfl) ⟨hR, hF, (by decide), hK_HI, hK_AH, (fun _ => hK_S7p), hRR.symm.trans hC⟩
                · have hC := hC.trans (if_neg (by omega))
                  exact L214 _ _ _ _ hR hF hK_HI hK_AH (by omega : (0 : Int) ≤ (u96.1 85 18).toInt ∧ (u96.1 85 18).toInt ≤ 7) (i_trB ((hF96 88 2 rfl).trans ((hF94 88 2 rfl).trans (hF92 88 2 rfl))) (by omega : (0 : Int) ≤ (u0.1 88 2).toInt ∧ (u0.1 88 2).toInt ≤ 11)) hC hP hD hS (lv_sub hl [1] rfl)
            · have hC := hC.trans (if_neg (by omega))
              refine a_ic F (0 : Int32) dX12_line_185 (by decide) ?_
              exact a_retz F hr hlocks hP hD hS dX12_line_186 (Or.inl rfl) ⟨hR, hF, (by decide), hK_HI, hK_AH, (fun h9 => absurd (by decide) h9), hRR.symm.trans hC⟩
          · have hC := hC.trans (if_neg (by omega))
            refine a_ic F (0 : Int32) dX12_line_163 (by decide) ?_
            exact a_retz F hr hlocks hP hD hS dX12_line_164 (Or.inl rfl) ⟨hR, hF, (by decide), hK_HI, hK_AH, (fun h9 => absurd (by decide) h9), hRR.symm.trans hC⟩
        · have hC := hC.trans (if_neg (by omega))
          refine lv_aload_n F.1 F.2.1 dX12_line_138 rfl (lv_at hl 0 rfl) ?_
          refine a_ic F (4 : Int32) dX12_line_139 (by decide) ?_
          have g114 : (0 : Int) ≤ (u0.1 88 1).toInt ∧ (u0.1 88 1).toInt ≤ 8 := hR 88 1
          refine a_Vi F hml hl.1 hA hP hD hS (As := [.int (4 : Int32)]) (x_X12_bad_85 l dC dI ad cA nF _ (4 : Int32) hR (by decide)) (cs_RX12_181 (d := 1) F.2.2.1 (by decide)) tc_85 rfl rfl rfl rfl (Nat.le_of_ble_eq_true rfl) dX12_line_140 ⟨Nat.le_refl 0, Nat.le_refl 0⟩ (fun r113 u113 H locs hq hP hD hS => ?_)
          obtain ⟨hR, hF113, gr113, hz113⟩ := hq
          have hF := hF.tr hF113 (by decide)
          have hK_HI := sp_fr sp_HI hF113 (by decide) hK_HI
          have hK_AH := sp_fr sp_AH hF113 (by decide) hK_AH
          have hK_S7 := sp_fr (sp_s7 _) hF113 (by decide) hK_S7
          have hC := bd_eq hC hz113
          exact a_retz F hr hlocks hP hD hS dX12_line_143 (i_01 (by omega)) ⟨hR, hF, (by omega : (0 : Int) ≤ r113.toInt ∧ r113.toInt ≤ 1), hK_HI, hK_AH, (fun h9 => absurd (by omega : r113.toInt = 0) h9), hRR.symm.trans hC⟩
    · have hC := hC.trans (if_neg (by omega))
      refine lv_aload_n F.1 F.2.1 dX12_line_66 rfl (lv_at hl 0 rfl) ?_
      refine a_getr F inX12 hP 85 7 tc_85 rfl rfl (by decide) q1478 (fun _ h9 => h9) dX12_line_67 ?_
      refine a_ic F (1 : Int32) dX12_line_70 (by decide) ?_
      have g115 : (0 : Int) ≤ (u0.1 88 1).toInt ∧ (u0.1 88 1).toInt ≤ 8 := hR 88 1
      refine a_ialdK F hP 88 1 tc_88 rfl rfl (i_in ic_1 (by omega)) (v := (u0.1 88 1)) rfl dX12_line_71 ?_
      refine a_bp F (8 : Int32) dX12_line_72 (by decide) ?_
      refine b_ne F 83 dX12_line_74 (by decide) rfl ic_8 (fun c116 => ?_) (fun c116 => ?_)
      · have hC := hC.trans (if_pos c116)
        refine lv_aload_n F.1 F.2.1 dX12_line_83 rfl (lv_at hl 0 rfl) ?_
        refine a_Vv F hml hl.1 hA hP hD hS (As := []) (x_X12_next_85 l dC dI ad cA nF _  hR) (cs_RX12_184 (d := 2) F.2.2.1 (by decide)) tc_85 rfl rfl rfl rfl (Nat.le_of_ble_eq_true rfl) dX12_line_84 ⟨Nat.le_refl 0, Nat.le_refl 0⟩ (fun u117 H locs hq hP hD hS => ?_)
        obtain ⟨hR, hF117, hz117⟩ := hq
        have hF := hF.tr hF117 (by decide)
        have hK_HI := sp_fr sp_HI hF117 (by decide) hK_HI
        have hK_AH := sp_fr sp_AH hF117 (by decide) hK_AH
        have hK_S7 := sp_fr (sp_s7 _) hF117 (by decide) hK_S7
        have hC := vl_eq hC hz117.symm
        refine lv_aload_n F.1 F.2.1 dX12_line_87 rfl (lv_at hl 0 rfl) ?_
        refine a_bp F (26 : Int32) dX12_line_88 (by decide) ?_
        refine lv_aload_n F.1 F.2.1 dX12_line_90 rfl (lv_at hl 0 rfl) ?_
        refine a_getr F inX12 hP 85 7 tc_85 rfl rfl (by decide) q1478 (fun _ h9 => h9) dX12_line_91 ?_
        refine a_ic F (1 : Int32) dX12_line_94 (by decide) ?_
        refine a_ialdK F hP 88 1 tc_88 rfl rfl (i_in ic_1 (by omega)) (v := (u0.1 88 1)) (hF117 88 1 rfl) dX12_line_95 ?_
        refine a_iaddX F dX12_line_96 ic_26 rfl (by omega) (fun v118 hv118 yv118 => ?_)
        have hC := vl_eq hC yv118
        refine a_Vi F hml hl.1 hA hP hD hS (As := [.int v118]) (x_X12_fresh_85 l dC dI ad cA nF _ v118 hR (by omega)) (cs_RX12_217 (d := 3) F.2.2.1 (by decide)) tc_85 rfl rfl rfl rfl (Nat.le_of_ble_eq_true rfl) dX12_line_97 ⟨Nat.le_refl 0, Nat.le_refl 0⟩ (fun r119 u119 H locs hq hP hD hS => ?_)
        obtain ⟨hR, hF119, gr119, hz119⟩ := hq
        have hF := hF.tr hF119 (by decide)
        have hK_HI := sp_fr sp_HI hF119 (by decide) hK_HI
        have hK_AH := sp_fr sp_AH hF119 (by decide) hK_AH
        have hK_S7 := sp_fr (sp_s7 _) hF119 (by decide) hK_S7
        have hC := bd_eq hC hz119
        refine z_ne F 105 dX12_line_100 (by decide) rfl (fun c120 => ?_) (fun c120 => ?_)
        · have hC := hC.trans (if_pos c120)
          refine lv_aload_n F.1 F.2.1 dX12_line_105 rfl (lv_at hl 0 rfl) ?_
          refine a_getr F inX12 hP 85 7 tc_85 rfl rfl (by decide) q1478 (fun _ h9 => h9) dX12_line_106 ?_
          refine a_ic F (1 : Int32) dX12_line_109 (by decide) ?_
          refine lv_dup2_11 F.1 F.2.1 dX12_line_110 rfl rfl ?_
          refine a_ialdK F hP 88 1 tc_88 rfl rfl (i_in ic_1 (by omega)) (v := (u0.1 88 1)) ((hF119 88 1 rfl).trans (hF117 88 1 rfl)) dX12_line_111 ?_
          refine a_ic F (1 : Int32) dX12_line_112 (by decide) ?_
          refine a_iaddX F dX12_line_113 rfl ic_1 (by omega) (fun v121 hv121 yv121 => ?_)
          have hC := vl_eq hC yv121
          refine a_iastK F hP hD hS 88 1 tc_88 rfl rfl (i_in ic_1 (by omega)) dX12_line_114 (fun H locs hP hD hS => ?_)
          have hR := hR.si (c := 88) (k := 1) (v := v121) (by omega : (0 : Int) ≤ v121.toInt ∧ v121.toInt ≤ 8)
          have hF := hF.si (c := 88) (k := 1) (v := v121) rfl
          have hO_HI := hK_HI
          have hO_AH := hK_AH
          have hO_S7 := hK_S7
          have hN_S7p := s7_inc (k := 1) hO_S7 (by omega) (x := (u0.1 88 1)) (v := v121) ((hF119 88 1 rfl).trans (hF117 88 1 rfl)) (by omega)
          have hK_HI := hs_p hO_HI (v := v121) (by omega)
          have hK_AH := ah_p hO_AH (v := v121) (x := (u0.1 88 1)) ((hF119 88 1 rfl).trans (hF117 88 1 rfl)) (by omega)
          have hK_S7p := hN_S7p
          refine a_ic F (1 : Int32) dX12_line_115 (by decide) ?_
          exact a_retz F hr hlocks hP hD hS dX12_line_116 (Or.inr rfl) ⟨hR, hF, (by decide), hK_HI, hK_AH, (fun _ => hK_S7p), hRR.symm.trans hC⟩
        · have hC := hC.trans (if_neg (by omega))
          refine a_ic F (0 : Int32) dX12_line_103 (by decide) ?_
          exact a_retz F hr hlocks hP hD hS dX12_line_104 (Or.inl rfl) ⟨hR, hF, (by decide), hK_HI, hK_AH, (fun h9 => absurd (by decide) h9), hRR.symm.trans hC⟩
      · have hC := hC.trans (if_neg (by omega))
        refine lv_aload_n F.1 F.2.1 dX12_line_77 rfl (lv_at hl 0 rfl) ?_
        refine a_ic F (4 : Int32) dX12_line_78 (by decide) ?_
        refine a_Vi F hml hl.1 hA hP hD hS (As := [.int (4 : Int32)]) (x_X12_bad_85 l dC dI ad cA nF _ (4 : Int32) hR (by decide)) (cs_RX12_181 (d := 1) F.2.2.1 (by decide)) tc_85 rfl rfl rfl rfl (Nat.le_of_ble_eq_true rfl) dX12_line_79 ⟨Nat.le_refl 0, Nat.le_refl 0⟩ (fun r122 u122 H locs hq hP hD hS => ?_)
        obtain ⟨hR, hF122, gr122, hz122⟩ := hq
        have hF := hF.tr hF122 (by decide)
        have hK_HI := sp_fr sp_HI hF122 (by decide) hK_HI
        have hK_AH := sp_fr sp_AH hF122 (by decide) hK_AH
        have hK_S7 := sp_fr (sp_s7 _) hF122 (by decide) hK_S7
        have hC := bd_eq hC hz122
        exact a_retz F hr hlocks hP hD hS dX12_line_82 (i_01 (by omega)) ⟨hR, hF, (by omega : (0 : Int) ≤ r122.toInt ∧ r122.toInt ≤ 1), hK_HI, hK_AH, (fun h9 => absurd (by omega : r122.toInt = 0) h9), hRR.symm.trans hC⟩
  · have hC := hC.trans (if_neg (by omega))
    refine lv_aload_n F.1 F.2.1 dX12_line_10 rfl (lv_at hl 0 rfl) ?_
    have g123 : (0 : Int) ≤ (u0.1 85 20).toInt ∧ (u0.1 85 20).toInt ≤ 1 := hR 85 20
    refine a_geti F inX12 hP 85 20 tc_85 rfl rfl (by decide) q1491 (fun _ h9 => h9) (v := (u0.1 85 20)) rfl dX12_line_11 ?_
    refine z_eq F 23 dX12_line_14 (by decide) rfl (fun c124 => ?_) (fun c124 => ?_)
    · have hC := hC.trans (if_pos c124)
      refine lv_aload_n F.1 F.2.1 dX12_line_23 rfl (lv_at hl 0 rfl) ?_
      refine a_ic F (1 : Int32) dX12_line_24 (by decide) ?_
      refine a_puti F inX12 tyX12 tyX12_ok nmX12 hP hD hS 85 20 tc_85 rfl rfl (by decide) q1491 (fun _ h9 => h9) rfl (ty := .boolean) (tyX12_ok 20 (by decide)) (i_zn (Or.inr rfl)) (i_zf (Or.inr rfl)) dX12_line_25 (fun H locs hP hD hS => ?_)
      have hR := hR.si (c := 85) (k := 20) (v := (1 : Int32)) (by rw [ic_1]; exact (by omega : (0 : Int) ≤ (1 : Int) ∧ (1 : Int) ≤ 1))
      have hF := hF.si (c := 85) (k := 20) (v := (1 : Int32)) rfl
      have hO_HI := hK_HI
      have hO_AH := hK_AH
      have hO_S7 := hK_S7
      have hN_S7p := s7_h hO_S7 (x := (u0.1 85 20)) (v := (1 : Int32)) (rfl) (by omega) (by decide)
      have hK_HI := sp_sgD sp_HI hD hK_HI (by decide)
      have hK_AH := sp_sgD sp_AH hD hK_AH (by decide)
      have hK_S7p := hN_S7p
      refine lv_aload_n F.1 F.2.1 dX12_line_28 rfl (lv_at hl 0 rfl) ?_
      have g126 : (0 : Int) ≤ (u0.1 88 1).toInt ∧ (u0.1 88 1).toInt ≤ 8 := hR 88 1
      refine a_Vv F hml hl.1 hA hP hD hS (As := []) (x_X12_next_85 l dC dI ad cA nF _  hR) (cs_RX12_184 (d := 2) F.2.2.1 (by decide)) tc_85 rfl rfl rfl rfl (Nat.le_of_ble_eq_true rfl) dX12_line_29 ⟨Nat.le_refl 0, Nat.le_refl 0⟩ (fun u125 H locs hq hP hD hS => ?_)
      obtain ⟨hR, hF125, hz125⟩ := hq
      have hF := hF.tr hF125 (by decide)
      have hK_HI := sp_fr sp_HI hF125 (by decide) hK_HI
      have hK_AH := sp_fr sp_AH hF125 (by decide) hK_AH
      have hK_S7p := sp_fr (sp_s7p _) hF125 (by decide) hK_S7p
      have hC := vl_eq hC hz125.symm
      refine lv_aload_n F.1 F.2.1 dX12_line_32 rfl (lv_at hl 0 rfl) ?_
      refine a_ic F (4 : Int32) dX12_line_33 (by decide) ?_
      refine a_bp F (24 : Int32) dX12_line_34 (by decide) ?_
      refine a_Vi F hml hl.1 hA hP hD hS (As := [.int (4 : Int32), .int (24 : Int32)]) (x_X12_takes_85 l dC dI ad cA nF _ (4 : Int32) (24 : Int32) hR (by decide)) (cs_RX12_214 (d := 3) F.2.2.1 (by decide)) tc_85 rfl rfl rfl rfl (Nat.le_of_ble_eq_true rfl) dX12_line_36 ⟨Nat.le_refl 0, Nat.le_refl 0⟩ (fun r127 u127 H locs hq hP hD hS => ?_)
      obtain ⟨hR, hF127, gr127, xr127, hz127⟩ := hq
      have hF := hF.tr hF127 (by decide)
      have hK_HI := sp_fr sp_HI hF127 (by decide) hK_HI
      have hK_AH := sp_fr sp_AH hF127 (by decide) hK_AH
      have hK_S7p := sp_fr (sp_s7p _) hF127 (by decide) hK_S7p
      have xr127 : r127.toInt ≠ 0 → (4 : Int) ≤ (u127.1 85 18).toInt ∧ (u127.1 85 18).toInt ≤ (24 : Int) := xr127
      have hC := bd_eq hC hz127
      refine z_ne F 44 dX12_line_39 (by decide) rfl (fun c128 => ?_) (fun c128 => ?_)
      · have hC := hC.trans (if_pos c128)
        refine lv_aload_n F.1 F.2.1 dX12_line_44 rfl (lv_at hl 0 rfl) ?_
        refine a_getr F inX12 hP 85 7 tc_85 rfl rfl (by decide) q1478 (fun _ h9 => h9) dX12_line_45 ?_
        refine a_ic F (0 : Int32) dX12_line_48 (by decide) ?_
        refine lv_aload_n F.1 F.2.1 dX12_line_49 rfl (lv_at hl 0 rfl) ?_
        refine a_geti F inX12 hP 85 18 tc_85 rfl rfl (by decide) q1489 (fun _ h9 => h9) (v := (u127.1 85 18)) (rfl) dX12_line_50 ?_
        refine a_iastK F hP hD hS 88 0 tc_88 rfl rfl (i_in ic_0 (by omega)) dX12_line_53 (fun H locs hP hD hS => ?_)
        have hR := hR.si (c := 88) (k := 0) (v := (u127.1 85 18)) (by omega : (0 : Int) ≤ (u127.1 85 18).toInt ∧ (u127.1 85 18).toInt ≤ 24)
        have hF := hF.si (c := 88) (k := 0) (v := (u127.1 85 18)) rfl
        have hO_HI := hK_HI
        have hO_AH := hK_AH
        have hO_S7p := hK_S7p
        have hK_HI := hs_h hO_HI (v := (u127.1 85 18)) (by omega)
        have hK_AH := sp_si sp_AH hK_AH (c := 88) (k := 0) (v := (u127.1 85 18)) (fun j9 h9 q9 => by rw [q9] at h9; exact absurd h9 (by decide))
        have hK_S7p := sp_si (sp_s7p _) hK_S7p (c := 88) (k := 0) (v := (u127.1 85 18)) (fun j9 h9 q9 => by rw [q9] at h9; exact absurd h9 (by decide))
        refine a_ic F (1 : Int32) dX12_line_54 (by decide) ?_
        exact a_retz F hr hlocks hP hD hS dX12_line_55 (Or.inr rfl) ⟨hR, hF, (by decide), hK_HI, hK_AH, (fun _ => hK_S7p), hRR.symm.trans hC⟩
      · have hC := hC.trans (if_neg (by omega))
        refine a_ic F (0 : Int32) dX12_line_42 (by decide) ?_
        exact a_retz F hr hlocks hP hD hS dX12_line_43 (Or.inl rfl) ⟨hR, hF, (by decide), hK_HI, hK_AH, (fun h9 => absurd (by decide) h9), hRR.symm.trans hC⟩
    · have hC := hC.trans (if_neg (by omega))
      refine lv_aload_n F.1 F.2.1 dX12_line_17 rfl (lv_at hl 0 rfl) ?_
      refine a_ic F (3 : Int32) dX12_line_18 (by decide) ?_
      have g130 : (0 : Int) ≤ (u0.1 88 1).toInt ∧ (u0.1 88 1).toInt ≤ 8 := hR 88 1
      refine a_Vi F hml hl.1 hA hP hD hS (As := [.int (3 : Int32)]) (x_X12_bad_85 l dC dI ad cA nF _ (3 : Int32) hR (by decide)) (cs_RX12_181 (d := 1) F.2.2.1 (by decide)) tc_85 rfl rfl rfl rfl (Nat.le_of_ble_eq_true rfl) dX12_line_19 ⟨Nat.le_refl 0, Nat.le_refl 0⟩ (fun r129 u129 H locs hq hP hD hS => ?_)
      obtain ⟨hR, hF129, gr129, hz129⟩ := hq
      have hF := hF.tr hF129 (by decide)
      have hK_HI := sp_fr sp_HI hF129 (by decide) hK_HI
      have hK_AH := sp_fr sp_AH hF129 (by decide) hK_AH
      have hK_S7 := sp_fr (sp_s7 _) hF129 (by decide) hK_S7
      have hC := bd_eq hC hz129
      exact a_retz F hr hlocks hP hD hS dX12_line_22 (i_01 (by omega)) ⟨hR, hF, (by omega : (0 : Int) ≤ r129.toInt ∧ r129.toInt ≤ 1), hK_HI, hK_AH, (fun h9 => absurd (by omega : r129.toInt = 0) h9), hRR.symm.trans hC⟩

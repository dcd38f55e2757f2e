def K_X12_isOff_85_131 (u0 : ac_U) (p0 : Int32) (p1 : Int32) (p2 : Int32) : Int32 := (1 : Int32)
def K_X12_isOff_85_133 (B3 : Int32 → Int32) (u0 : ac_U) (p0 : Int32) (p1 : Int32) (p2 : Int32) (x4 : Int32) : Int32 := (vl (x4 + Int32.ofInt (1)) (fun (v1 : Int32) => (B3 v1)))
def K_X12_isOff_85_3_b (B3 : Int32 → Int32) (u0 : ac_U) (p0 : Int32) (p1 : Int32) (p2 : Int32) (x4 : Int32) : Int32 := (if (u0.1 87 123).toInt ≤ x4.toInt then (0 : Int32) else (vl ((4 : Int32) * x4) (fun (v4 : Int32) => (vl ((148 : Int32) + v4) (fun (v5 : Int32) => (vl (u0.1 87 v5.toNatClampNeg) (fun (v6 : Int32) => (vl (p2 * (u0.1 87 0)) (fun (v8 : Int32) => (vl (v6 - v8) (fun (v9 : Int32) => (vl (v5 + (2 : Int32)) (fun (v10 : Int32) => (vl (u0.1 87 v10.toNatClampNeg) (fun (v11 : Int32) => (vl ((82 : Int32) + p0) (fun (v12 : Int32) => (vl (u0.1 87 v12.toNatClampNeg) (fun (v13 : Int32) => (vl (v13 - (1 : Int32)) (fun (v14 : Int32) => (if v11.toInt ≠ v14.toInt then (K_X12_isOff_85_133 B3 u0 p0 p1 p2 x4) else (vl (u0.1 87 v5.toNatClampNeg) (fun (v16 : Int32) => (vl ((124 : Int32) + p0) (fun (v17 : Int32) => (vl (u0.1 87 v17.toNatClampNeg) (fun (v18 : Int32) => (vl (v18 - (1 : Int32)) (fun (v19 : Int32) => (if v16.toInt < v19.toInt then (K_X12_isOff_85_133 B3 u0 p0 p1 p2 x4) else (vl (f_X12_lastOf_85 u0 p0 p1) (fun (r21 : Int32) => (vl (f_X12_isIn u0 v9 (0 : Int32) r21) (fun (r22 : Int32) => (if r22.toInt = 0 then (K_X12_isOff_85_133 B3 u0 p0 p1 p2 x4) else (vl (f_X12_bitOf u0 p1 (1 : Int32)) (fun (r24 : Int32) => (if r24.toInt = 0 then (K_X12_isOff_85_131 u0 p0 p1 p2) else (vl (v5 + (1 : Int32)) (fun (v26 : Int32) => (vl (u0.1 87 v26.toNatClampNeg) (fun (v27 : Int32) => (vl ((26 : Int32) + p0) (fun (v28 : Int32) => (vl (u0.1 87 v28.toNatClampNeg) (fun (v29 : Int32) => (if v27.toInt ≠ v29.toInt then (K_X12_isOff_85_133 B3 u0 p0 p1 p2 x4) else (K_X12_isOff_85_131 u0 p0 p1 p2)))))))))))))))))))))))))))))))))))))))))))))))))
def K_X12_isOff_85_3 (u0 : ac_U) (p0 : Int32) (p1 : Int32) (p2 : Int32) : Nat → Int32 → Int32
  | 0 => fun x4 => 0
  | n + 1 => fun x4 => K_X12_isOff_85_3_b (K_X12_isOff_85_3 u0 p0 p1 p2 n) u0 p0 p1 p2 x4
def f_X12_isOff_85 (u0 : ac_U) (p0 : Int32) (p1 : Int32) (p2 : Int32) : Int32 := (K_X12_isOff_85_3 u0 p0 p1 p2 82 (0 : Int32))
set_option maxHeartbeats 600000 in
set_option maxRecDepth 100000 in
theorem x_X12_isOff_85 (l : Launch) (dC : Nat → ClassId) (dI : Nat → Nat → Nat) (ad : Nat → Nat) (cA : Nat → ClassId) (nF : Nat) (u0 : ac_U) (p0 : Int32) (p1 : Int32) (p2 : Int32) (hR : ac_R rg u0) (hp0 : (0 : Int) ≤ p0.toInt ∧ p0.toInt ≤ 7) (hp1 : (0 : Int) ≤ p1.toInt ∧ p1.toInt ≤ 7) (hp2 : (0 : Int) ≤ p2.toInt ∧ p2.toInt ≤ 121) : ac_Mi l yX12_isOff (.code yX12_isOff cX12_isOff 7 (some .boolean) :: TB) 3 (dC, dI) vwCl (ac_ty cA) ad cA (TT nF) [.ref (ad 85), .int p0, .int p1, .int p2] u0 (fun (r : Int32) (u : ac_U) => u = u0 ∧ ((0 : Int) ≤ r.toInt ∧ r.toInt ≤ 1) ∧ f_X12_isOff_85 u0 p0 p1 p2 = r) := by
  refine ac_Mi.of (cc := cX12_isOff) (maxL := 7) (ret := (some .boolean)) (by decide) rfl (Nat.le_of_ble_eq_true rfl) ?_
  intro p e s m below meth c A ls F hml hr hlocks hA hP hD hS hl
  have F : ac_X p s m [.ref (ad 85), .int p0, .int p1, .int p2].toArray c cX12_isOff RX12 TB (dC, dI) vwCl (ac_ty cA) := ⟨F.1, F.2.1, fun w h => F.2.2.1 w (List.mem_cons_of_mem _ h), F.2.2.2.1, F.2.2.2.2⟩
  have hl : lv_has ls 7 [(0, .ref (ad 85)), (1, .int p0), (2, .int p1), (3, .int p2)] := hl
  obtain ⟨RR, hRR⟩ : ∃ q, q = f_X12_isOff_85 u0 p0 p1 p2 := ⟨_, rfl⟩
  have L131 : ∀ (H : Heap) (locs : List Loc) (ls : Array Slot), (1 : Int) ≤ (u0.1 87 123).toInt ∧ (u0.1 87 123).toInt ≤ 80 → RR = (K_X12_isOff_85_131 u0 p0 p1 p2) → va_P (dC, dI) vwCl (ac_w ad cA (TT nF) u0) H → va_D A (ac_w ad cA (TT nF) u0) → va_S A s.heap H locs → lv_has ls 7 [] → W p l e (ac_rm 3) s m [.ref (ad 85), .int p0, .int p1, .int p2].toArray below meth c H locs 0 0 (MQ below (va_Qi (fun (r : Int32) (u : ac_U) => u = u0 ∧ ((0 : Int) ≤ r.toInt ∧ r.toInt ≤ 1) ∧ f_X12_isOff_85 u0 p0 p1 p2 = r) (ac_B (dC, dI) vwCl (ac_ty cA) ad cA (TT nF) A) A) [.ref (ad 85), .int p0, .int p1, .int p2].toArray s 0 0 A) (F0 m 131 ls []) := by
    intro H locs ls f0 hC hP hD hS hl
    unfold K_X12_isOff_85_131 at hC
    refine a_ic F (1 : Int32) dX12_isOff_131 (by decide) ?_
    exact a_retz F hr hlocks hP hD hS dX12_isOff_132 (Or.inr rfl) ⟨rfl, (by decide), hRR.symm.trans hC⟩
  have L3 : ∀ (n3 : Nat) (x4 : Int32) (H : Heap) (locs : List Loc) (ls : Array Slot), 80 - x4.toInt < (n3 : Int) → (0 : Int) ≤ x4.toInt ∧ x4.toInt ≤ 80 → RR = (K_X12_isOff_85_3 u0 p0 p1 p2 n3 x4) → va_P (dC, dI) vwCl (ac_w ad cA (TT nF) u0) H → va_D A (ac_w ad cA (TT nF) u0) → va_S A s.heap H locs → lv_has ls 7 [(0, .ref (ad 85)), (1, .int p0), (2, .int p1), (3, .int p2), (4, .int x4)] → W p l e (ac_rm 3) s m [.ref (ad 85), .int p0, .int p1, .int p2].toArray below meth c H locs 0 0 (MQ below (va_Qi (fun (r : Int32) (u : ac_U) => u = u0 ∧ ((0 : Int) ≤ r.toInt ∧ r.toInt ≤ 1) ∧ f_X12_isOff_85 u0 p0 p1 p2 = r) (ac_B (dC, dI) vwCl (ac_ty cA) ad cA (TT nF) A) A) [.ref (ad 85), .int p0, .int p1, .int p2].toArray s 0 0 A) (F0 m 3 ls []) := by
    intro n3
    induction n3 with
    | zero => intro x4 H locs ls hn3 f0 hC hP hD hS hl; exfalso; omega
    | succ n3 ih3 =>
      intro x4 H locs ls hn3 f0 hC hP hD hS hl
      have hC : RR = K_X12_isOff_85_3_b (K_X12_isOff_85_3 u0 p0 p1 p2 n3) u0 p0 p1 p2 x4 := hC
      have L133 : ∀ (x4 : Int32) (H : Heap) (locs : List Loc) (ls : Array Slot), (0 : Int) ≤ x4.toInt ∧ x4.toInt ≤ 79 → (1 : Int) ≤ (u0.1 87 123).toInt ∧ (u0.1 87 123).toInt ≤ 80 → 80 - x4.toInt + 0 < ((n3 : Nat) : Int) + 1 → RR = (K_X12_isOff_85_133 (K_X12_isOff_85_3 u0 p0 p1 p2 n3) u0 p0 p1 p2 x4) → va_P (dC, dI) vwCl (ac_w ad cA (TT nF) u0) H → va_D A (ac_w ad cA (TT nF) u0) → va_S A s.heap H locs → lv_has ls 7 [(0, .ref (ad 85)), (1, .int p0), (2, .int p1), (3, .int p2), (4, .int x4)] → W p l e (ac_rm 3) s m [.ref (ad 85), .int p0, .int p1, .int p2].toArray below meth c H locs 0 0 (MQ below (va_Qi (fun (r : Int32) (u : ac_U) => u = u0 ∧ ((0 : Int) ≤ r.toInt ∧ r.toInt ≤ 1) ∧ f_X12_isOff_85 u0 p0 p1 p2 = r) (ac_B (dC, dI) vwCl (ac_ty cA) ad cA (TT nF) A) A) [.ref (ad 85), .int p0, .int p1, .int p2].toArray s 0 0 A) (F0 m 133 ls []) := by
        intro x4 H locs ls f0 f1 f2 hC hP hD hS hl
        unfold K_X12_isOff_85_133 at hC
        refine a_iincX F (k := 4) (fun v1 => [(4, .int v1), (0, .ref (ad 85)), (1, .int p0), (2, .int p1), (3, .int p2)]) dX12_isOff_133 hl rfl rfl (by decide) (by omega) (by decide) (fun _ => rfl) (fun v1 ls hv1 yv1 hl => ?_)
        have hC := vl_eq hC yv1
        refine lv_goto (tgt := 3) F.1 F.2.1 dX12_isOff_136 (by decide) ?_
        exact ih3 v1 _ _ _ (by omega) (by omega) hC hP hD hS (lv_sub hl [1, 2, 3, 4, 0] rfl)
      unfold K_X12_isOff_85_3_b at hC
      refine lv_iload F.1 F.2.1 dX12_isOff_3 (lv_at hl 4 rfl) ?_
      refine lv_aload_n F.1 F.2.1 dX12_isOff_5 rfl (lv_at hl 0 rfl) ?_
      refine a_getr F inX12 hP 85 6 tc_85 rfl rfl (by decide) q1477 (fun _ h9 => h9) dX12_isOff_6 ?_
      refine a_bp F (123 : Int32) dX12_isOff_9 (by decide) ?_
      have g2 : (0 : Int) ≤ (u0.1 87 123).toInt ∧ (u0.1 87 123).toInt ≤ 80 := hR 87 123
      refine a_ialdK F hP 87 123 tc_87 rfl rfl (i_in ic_123 (by omega)) (v := (u0.1 87 123)) rfl dX12_isOff_11 ?_
      refine b_ge F 139 dX12_isOff_12 (by decide) rfl rfl (fun c3 => ?_) (fun c3 => ?_)
      · have hC := hC.trans (if_pos c3)
        refine a_ic F (0 : Int32) dX12_isOff_139 (by decide) ?_
        exact a_retz F hr hlocks hP hD hS dX12_isOff_140 (Or.inl rfl) ⟨rfl, (by decide), hRR.symm.trans hC⟩
      · have hC := hC.trans (if_neg (by omega))
        refine a_sp F (148 : Int32) dX12_isOff_15 (by decide) ?_
        refine a_ic F (4 : Int32) dX12_isOff_18 (by decide) ?_
        refine lv_iload F.1 F.2.1 dX12_isOff_19 (lv_at hl 4 rfl) ?_
        refine a_imulX F dX12_isOff_21 ic_4 rfl (by omega) (fun v4 hv4 yv4 => ?_)
        have hC := vl_eq hC yv4
        refine a_iaddX F dX12_isOff_22 ic_148 rfl (by omega) (fun v5 hv5 yv5 => ?_)
        have hC := vl_eq hC yv5
        refine lv_istore (lv' := [(5, .int v5), (0, .ref (ad 85)), (1, .int p0), (2, .int p1), (3, .int p2), (4, .int x4)]) F.1 F.2.1 dX12_isOff_23 hl (by decide) rfl (fun ls hl => ?_)
        refine lv_aload_n F.1 F.2.1 dX12_isOff_25 rfl (lv_at hl 1 rfl) ?_
        refine a_getr F inX12 hP 85 6 tc_85 rfl rfl (by decide) q1477 (fun _ h9 => h9) dX12_isOff_26 ?_
        refine lv_iload F.1 F.2.1 dX12_isOff_29 (lv_at hl 0 rfl) ?_
        refine a_iald F hP 87 tc_87 rfl (i_in rfl (by omega)) dX12_isOff_31 (fun v6 ev6 => ?_)
        have hC := vl_eq hC ev6.symm
        refine lv_iload_n F.1 F.2.1 dX12_isOff_32 rfl (lv_at hl 4 rfl) ?_
        refine lv_aload_n F.1 F.2.1 dX12_isOff_33 rfl (lv_at hl 1 rfl) ?_
        refine a_getr F inX12 hP 85 6 tc_85 rfl rfl (by decide) q1477 (fun _ h9 => h9) dX12_isOff_34 ?_
        refine a_ic F (0 : Int32) dX12_isOff_37 (by decide) ?_
        have g7 : (4 : Int) ≤ (u0.1 87 0).toInt ∧ (u0.1 87 0).toInt ≤ 24 := hR 87 0
        refine a_ialdK F hP 87 0 tc_87 rfl rfl (i_in ic_0 (by omega)) (v := (u0.1 87 0)) rfl dX12_isOff_38 ?_
        have kv8 := i_mulb (x := p2.toInt) (y := (u0.1 87 0).toInt) (a0 := 0) (a1 := 121) (b0 := 4) (b1 := 24) (by omega) (by omega) (by omega)
        refine a_imulX F dX12_isOff_39 rfl rfl (by omega) (fun v8 hv8 yv8 => ?_)
        have hC := vl_eq hC yv8
        refine a_isubUX F dX12_isOff_40 (fun v9 yv9 => ?_)
        have hC := vl_eq hC yv9
        refine lv_istore (lv' := [(6, .int v9), (5, .int v5), (0, .ref (ad 85)), (1, .int p0), (2, .int p1), (3, .int p2), (4, .int x4)]) F.1 F.2.1 dX12_isOff_41 hl (by decide) rfl (fun ls hl => ?_)
        refine lv_aload_n F.1 F.2.1 dX12_isOff_43 rfl (lv_at hl 2 rfl) ?_
        refine a_getr F inX12 hP 85 6 tc_85 rfl rfl (by decide) q1477 (fun _ h9 => h9) dX12_isOff_44 ?_
        refine lv_iload F.1 F.2.1 dX12_isOff_47 (lv_at hl 1 rfl) ?_
        refine a_ic F (2 : Int32) dX12_isOff_49 (by decide) ?_
        refine a_iaddX F dX12_isOff_50 rfl ic_2 (by omega) (fun v10 hv10 yv10 => ?_)
        have hC := vl_eq hC yv10
        refine a_iald F hP 87 tc_87 rfl (i_in rfl (by omega)) dX12_isOff_51 (fun v11 ev11 => ?_)
        have hC := vl_eq hC ev11.symm
        refine lv_aload_n F.1 F.2.1 dX12_isOff_52 rfl (lv_at hl 2 rfl) ?_
        refine a_getr F inX12 hP 85 6 tc_85 rfl rfl (by decide) q1477 (fun _ h9 => h9) dX12_isOff_53 ?_
        refine a_bp F (82 : Int32) dX12_isOff_56 (by decide) ?_
        refine lv_iload_n F.1 F.2.1 dX12_isOff_58 rfl (lv_at hl 3 rfl) ?_
        refine a_iaddX F dX12_isOff_59 ic_82 rfl (by omega) (fun v12 hv12 yv12 => ?_)
        have hC := vl_eq hC yv12
        refine a_iald F hP 87 tc_87 rfl (i_in rfl (by omega)) dX12_isOff_60 (fun v13 ev13 => ?_)
        have hC := vl_eq hC ev13.symm
        refine a_ic F (1 : Int32) dX12_isOff_61 (by decide) ?_
        refine a_isubUX F dX12_isOff_62 (fun v14 yv14 => ?_)
        have hC := vl_eq hC yv14
        refine b_ne F 133 dX12_isOff_63 (by decide) rfl rfl (fun c15 => ?_) (fun c15 => ?_)
        · have hC := hC.trans (if_pos c15)
          exact L133 x4 _ _ _ (by omega) (by omega : (1 : Int) ≤ (u0.1 87 123).toInt ∧ (u0.1 87 123).toInt ≤ 80) (by omega) hC hP hD hS (lv_sub hl [2, 3, 4, 5, 6] rfl)
        · have hC := hC.trans (if_neg (by omega))
          refine lv_aload_n F.1 F.2.1 dX12_isOff_66 rfl (lv_at hl 2 rfl) ?_
          refine a_getr F inX12 hP 85 6 tc_85 rfl rfl (by decide) q1477 (fun _ h9 => h9) dX12_isOff_67 ?_
          refine lv_iload F.1 F.2.1 dX12_isOff_70 (lv_at hl 1 rfl) ?_
          refine a_iald F hP 87 tc_87 rfl (i_in rfl (by omega)) dX12_isOff_72 (fun v16 ev16 => ?_)
          have hC := vl_eq hC ev16.symm
          refine lv_aload_n F.1 F.2.1 dX12_isOff_73 rfl (lv_at hl 2 rfl) ?_
          refine a_getr F inX12 hP 85 6 tc_85 rfl rfl (by decide) q1477 (fun _ h9 => h9) dX12_isOff_74 ?_
          refine a_bp F (124 : Int32) dX12_isOff_77 (by decide) ?_
          refine lv_iload_n F.1 F.2.1 dX12_isOff_79 rfl (lv_at hl 3 rfl) ?_
          refine a_iaddX F dX12_isOff_80 ic_124 rfl (by omega) (fun v17 hv17 yv17 => ?_)
          have hC := vl_eq hC yv17
          refine a_iald F hP 87 tc_87 rfl (i_in rfl (by omega)) dX12_isOff_81 (fun v18 ev18 => ?_)
          have hC := vl_eq hC ev18.symm
          have hv18 : (0 : Int) ≤ v18.toInt ∧ v18.toInt ≤ 481 := rg_seg_87_124_131 hR ev18 (by omega)
          refine a_ic F (1 : Int32) dX12_isOff_82 (by decide) ?_
          refine a_isubX F dX12_isOff_83 rfl ic_1 (by omega) (fun v19 hv19 yv19 => ?_)
          have hC := vl_eq hC yv19
          refine b_lt F 133 dX12_isOff_84 (by decide) rfl rfl (fun c20 => ?_) (fun c20 => ?_)
          · have hC := hC.trans (if_pos c20)
            exact L133 x4 _ _ _ (by omega) (by omega : (1 : Int) ≤ (u0.1 87 123).toInt ∧ (u0.1 87 123).toInt ≤ 80) (by omega) hC hP hD hS (lv_sub hl [2, 3, 4, 5, 6] rfl)
          · have hC := hC.trans (if_neg (by omega))
            refine lv_iload F.1 F.2.1 dX12_isOff_87 (lv_at hl 0 rfl) ?_
            refine a_ic F (0 : Int32) dX12_isOff_89 (by decide) ?_
            refine lv_aload_n F.1 F.2.1 dX12_isOff_90 rfl (lv_at hl 2 rfl) ?_
            refine lv_iload_n F.1 F.2.1 dX12_isOff_91 rfl (lv_at hl 3 rfl) ?_
            refine lv_iload_n F.1 F.2.1 dX12_isOff_92 rfl (lv_at hl 4 rfl) ?_
            refine a_Vi F hml hl.1 hA hP hD hS (As := [.int p0, .int p1]) (x_X12_lastOf_85 l dC dI ad cA nF _ p0 p1 hR (by omega) (by omega)) (cs_RX12_298 (d := 2) F.2.2.1 (by decide)) tc_85 rfl rfl rfl rfl (Nat.le_of_ble_eq_true rfl) dX12_isOff_93 ⟨Nat.le_refl 0, Nat.le_refl 0⟩ (fun r21 uN21 H locs hq hP hD hS => ?_)
            obtain ⟨hu21, gr21, hz21⟩ := hq
            rw [hu21] at hP hD
            have hC := vl_eq hC hz21.symm
            refine a_Si F hml hl.1 hA hP hD hS (As := [.int v9, .int (0 : Int32), .int r21]) (x_X12_isIn l dC dI ad cA nF _ v9 (0 : Int32) r21 hR (by omega)) (cs_RX12_187 (d := 1) F.2.2.1 (by decide)) rfl rfl (Nat.le_of_ble_eq_true rfl) dX12_isOff_96 ⟨Nat.le_refl 0, Nat.le_refl 0⟩ (fun r22 uN22 H locs hq hP hD hS => ?_)
            obtain ⟨hu22, gr22, xr22, hz22⟩ := hq
            rw [hu22] at hP hD
            have xr22 : r22.toInt ≠ 0 → (0 : Int) ≤ v9.toInt ∧ v9.toInt ≤ r21.toInt := xr22
            have hC := vl_eq hC hz22.symm
            refine z_eq F 133 dX12_isOff_99 (by decide) rfl (fun c23 => ?_) (fun c23 => ?_)
            · have hC := hC.trans (if_pos c23)
              exact L133 x4 _ _ _ (by omega) (by omega : (1 : Int) ≤ (u0.1 87 123).toInt ∧ (u0.1 87 123).toInt ≤ 80) (by omega) hC hP hD hS (lv_sub hl [2, 3, 4, 5, 6] rfl)
            · have hC := hC.trans (if_neg (by omega))
              refine lv_iload_n F.1 F.2.1 dX12_isOff_102 rfl (lv_at hl 4 rfl) ?_
              refine a_ic F (1 : Int32) dX12_isOff_103 (by decide) ?_
              refine a_Si F hml hl.1 hA hP hD hS (As := [.int p1, .int (1 : Int32)]) (x_X12_bitOf l dC dI ad cA nF _ p1 (1 : Int32) hR) (cs_RX12_223 (d := 1) F.2.2.1 (by decide)) rfl rfl (Nat.le_of_ble_eq_true rfl) dX12_isOff_104 ⟨Nat.le_refl 0, Nat.le_refl 0⟩ (fun r24 uN24 H locs hq hP hD hS => ?_)
              obtain ⟨hu24, gr24, hz24⟩ := hq
              rw [hu24] at hP hD
              have hC := vl_eq hC hz24.symm
              refine z_eq F 131 dX12_isOff_107 (by decide) rfl (fun c25 => ?_) (fun c25 => ?_)
              · have hC := hC.trans (if_pos c25)
                exact L131 _ _ _ (by omega : (1 : Int) ≤ (u0.1 87 123).toInt ∧ (u0.1 87 123).toInt ≤ 80) hC hP hD hS (lv_sub hl [] rfl)
              · have hC := hC.trans (if_neg (by omega))
                refine lv_aload_n F.1 F.2.1 dX12_isOff_110 rfl (lv_at hl 2 rfl) ?_
                refine a_getr F inX12 hP 85 6 tc_85 rfl rfl (by decide) q1477 (fun _ h9 => h9) dX12_isOff_111 ?_
                refine lv_iload F.1 F.2.1 dX12_isOff_114 (lv_at hl 1 rfl) ?_
                refine a_ic F (1 : Int32) dX12_isOff_116 (by decide) ?_
                refine a_iaddX F dX12_isOff_117 rfl ic_1 (by omega) (fun v26 hv26 yv26 => ?_)
                have hC := vl_eq hC yv26
                refine a_iald F hP 87 tc_87 rfl (i_in rfl (by omega)) dX12_isOff_118 (fun v27 ev27 => ?_)
                have hC := vl_eq hC ev27.symm
                refine lv_aload_n F.1 F.2.1 dX12_isOff_119 rfl (lv_at hl 2 rfl) ?_
                refine a_getr F inX12 hP 85 6 tc_85 rfl rfl (by decide) q1477 (fun _ h9 => h9) dX12_isOff_120 ?_
                refine a_bp F (26 : Int32) dX12_isOff_123 (by decide) ?_
                refine lv_iload_n F.1 F.2.1 dX12_isOff_125 rfl (lv_at hl 3 rfl) ?_
                refine a_iaddX F dX12_isOff_126 ic_26 rfl (by omega) (fun v28 hv28 yv28 => ?_)
                have hC := vl_eq hC yv28
                refine a_iald F hP 87 tc_87 rfl (i_in rfl (by omega)) dX12_isOff_127 (fun v29 ev29 => ?_)
                have hC := vl_eq hC ev29.symm
                refine b_ne F 133 dX12_isOff_128 (by decide) rfl rfl (fun c30 => ?_) (fun c30 => ?_)
                · have hC := hC.trans (if_pos c30)
                  exact L133 x4 _ _ _ (by omega) (by omega : (1 : Int) ≤ (u0.1 87 123).toInt ∧ (u0.1 87 123).toInt ≤ 80) (by omega) hC hP hD hS (lv_sub hl [2, 3, 4, 5, 6] rfl)
                · have hC := hC.trans (if_neg (by omega))
                  exact L131 _ _ _ (by omega : (1 : Int) ≤ (u0.1 87 123).toInt ∧ (u0.1 87 123).toInt ≤ 80) hC hP hD hS (lv_sub hl [] rfl)
  have hC : RR = f_X12_isOff_85 u0 p0 p1 p2 := hRR
  unfold f_X12_isOff_85 at hC
  refine a_ic F (0 : Int32) dX12_isOff_0 (by decide) ?_
  refine lv_istore (lv' := [(4, .int (0 : Int32)), (0, .ref (ad 85)), (1, .int p0), (2, .int p1), (3, .int p2)]) F.1 F.2.1 dX12_isOff_1 hl (by decide) rfl (fun ls hl => ?_)
  exact L3 82 (0 : Int32) _ _ _ (by decide) (by decide) hC hP hD hS (lv_sub hl [1, 2, 3, 4, 0] rfl)
def K_X12_brokenOf_85_110 (u0 : ac_U) (p0 : Int32) (p1 : Int32) : Int32 := (-1 : Int32)
def K_X12_brokenOf_85_104 (B25 : Int32 → Int32 → Int32) (u0 : ac_U) (p0 : Int32) (p1 : Int32) (x3 : Int32) (x4 : Int32) : Int32 := (vl (x4 + Int32.ofInt (1)) (fun (v1 : Int32) => (B25 x3 v1)))
def K_X12_brokenOf_85_51 (B25 : Int32 → Int32 → Int32) (u0 : ac_U) (p0 : Int32) (p1 : Int32) (x3 : Int32) (x4 : Int32) : Int32 := (vl (x4 * (u0.1 87 0)) (fun (v4 : Int32) => (vl (f_X12_lastOf_85 u0 p0 p1) (fun (r5 : Int32) => (vl (v4 + r5) (fun (v6 : Int32) => (if v6.toInt < (u0.1 87 106).toInt then (vl (f_X12_isKept_85 u0 p0 p1 x4) (fun (r8 : Int32) => (if r8.toInt ≠ 0 then (K_X12_brokenOf_85_104 B25 u0 p0 p1 x3 x4) else (vl (f_X12_isOff_85 u0 p0 p1 x4) (fun (r10 : Int32) => (if r10.toInt ≠ 0 then (K_X12_brokenOf_85_104 B25 u0 p0 p1 x3 x4) else x4)))))) else (-1 : Int32))))))))
def K_X12_brokenOf_85_25_b (B25 : Int32 → Int32 → Int32) (u0 : ac_U) (p0 : Int32) (p1 : Int32) (x3 : Int32) (x4 : Int32) : Int32 := (if (20 : Int) ≤ x4.toInt then (K_X12_brokenOf_85_110 u0 p0 p1) else (if x4.toInt = x3.toInt then (K_X12_brokenOf_85_51 B25 u0 p0 p1 x3 x4) else (vl ((74 : Int32) + p0) (fun (v14 : Int32) => (vl (u0.1 87 v14.toNatClampNeg) (fun (v15 : Int32) => (if v15.toInt ≠ (1 : Int) then (K_X12_brokenOf_85_110 u0 p0 p1) else (K_X12_brokenOf_85_51 B25 u0 p0 p1 x3 x4))))))))
def K_X12_brokenOf_85_25 (u0 : ac_U) (p0 : Int32) (p1 : Int32) : Nat → Int32 → Int32 → Int32
  | 0 => fun x3 x4 => 0
  | n + 1 => fun x3 x4 => K_X12_brokenOf_85_25_b (K_X12_brokenOf_85_25 u0 p0 p1 n) u0 p0 p1 x3 x4
def f_X12_brokenOf_85 (u0 : ac_U) (p0 : Int32) (p1 : Int32) : Int32 := (vl ((132 : Int32) + p0) (fun (v17 : Int32) => (vl (u0.1 87 v17.toNatClampNeg) (fun (v18 : Int32) => (if v18.toInt ≠ 0 then (vl (f_X12_dueOf_85 u0 p0 p1) (fun (r20 : Int32) => (K_X12_brokenOf_85_25 u0 p0 p1 123 r20 r20))) else (-1 : Int32))))))
set_option maxHeartbeats 600000 in
set_option maxRecDepth 100000 in
theorem x_X12_brokenOf_85 (l : Launch) (dC : Nat → ClassId) (dI : Nat → Nat → Nat) (ad : Nat → Nat) (cA : Nat → ClassId) (nF : Nat) (u0 : ac_U) (p0 : Int32) (p1 : Int32) (hR : ac_R rg u0) (hp0 : (0 : Int) ≤ p0.toInt ∧ p0.toInt ≤ 7) (hp1 : (0 : Int) ≤ p1.toInt ∧ p1.toInt ≤ 7) : ac_Mi l yX12_brokenOf (.code yX12_brokenOf cX12_brokenOf 5 (some .int) :: TB) 5 (dC, dI) vwCl (ac_ty cA) ad cA (TT nF) [.ref (ad 85), .int p0, .int p1] u0 (fun (r : Int32) (u : ac_U) => u = u0 ∧ ((-1 : Int) ≤ r.toInt ∧ r.toInt ≤ 19) ∧ f_X12_brokenOf_85 u0 p0 p1 = r) := by
  refine ac_Mi.of (cc := cX12_brokenOf) (maxL := 5) (ret := (some .int)) (by decide) rfl (Nat.le_of_ble_eq_true rfl) ?_
  intro p e s m below meth c A ls F hml hr hlocks hA hP hD hS hl
  have F : ac_X p s m [.ref (ad 85), .int p0, .int p1].toArray c cX12_brokenOf RX12 TB (dC, dI) vwCl (ac_ty cA) := ⟨F.1, F.2.1, fun w h => F.2.2.1 w (List.mem_cons_of_mem _ h), F.2.2.2.1, F.2.2.2.2⟩
  have hl : lv_has ls 5 [(0, .ref (ad 85)), (1, .int p0), (2, .int p1)] := hl
  obtain ⟨RR, hRR⟩ : ∃ q, q = f_X12_brokenOf_85 u0 p0 p1 := ⟨_, rfl⟩
  have L110 : ∀ (H : Heap) (locs : List Loc) (ls : Array Slot), RR = (K_X12_brokenOf_85_110 u0 p0 p1) → va_P (dC, dI) vwCl (ac_w ad cA (TT nF) u0) H → va_D A (ac_w ad cA (TT nF) u0) → va_S A s.heap H locs → lv_has ls 5 [] → W p l e (ac_rm 5) s m [.ref (ad 85), .int p0, .int p1].toArray below meth c H locs 0 0 (MQ below (va_Qi (fun (r : Int32) (u : ac_U) => u = u0 ∧ ((-1 : Int) ≤ r.toInt ∧ r.toInt ≤ 19) ∧ f_X12_brokenOf_85 u0 p0 p1 = r) (ac_B (dC, dI) vwCl (ac_ty cA) ad cA (TT nF) A) A) [.ref (ad 85), .int p0, .int p1].toArray s 0 0 A) (F0 m 110 ls []) := by
    intro H locs ls hC hP hD hS hl
    unfold K_X12_brokenOf_85_110 at hC
    refine a_ic F (-1 : Int32) dX12_brokenOf_110 (by decide) ?_
    exact a_reti F hr hlocks hP hD hS dX12_brokenOf_111 ⟨rfl, (by decide), hRR.symm.trans hC⟩
  have L25 : ∀ (n25 : Nat) (x3 : Int32) (x4 : Int32) (H : Heap) (locs : List Loc) (ls : Array Slot), 121 - x4.toInt < (n25 : Int) → (0 : Int) ≤ x3.toInt ∧ x3.toInt ≤ 121 → (0 : Int) ≤ x4.toInt ∧ x4.toInt ≤ 121 → RR = (K_X12_brokenOf_85_25 u0 p0 p1 n25 x3 x4) → va_P (dC, dI) vwCl (ac_w ad cA (TT nF) u0) H → va_D A (ac_w ad cA (TT nF) u0) → va_S A s.heap H locs → lv_has ls 5 [(0, .ref (ad 85)), (1, .int p0), (2, .int p1), (3, .int x3), (4, .int x4)] → W p l e (ac_rm 5) s m [.ref (ad 85), .int p0, .int p1].toArray below meth c H locs 0 0 (MQ below (va_Qi (fun (r : Int32) (u : ac_U) => u = u0 ∧ ((-1 : Int) ≤ r.toInt ∧ r.toInt ≤ 19) ∧ f_X12_brokenOf_85 u0 p0 p1 = r) (ac_B (dC, dI) vwCl (ac_ty cA) ad cA (TT nF) A) A) [.ref (ad 85), .int p0, .int p1].toArray s 0 0 A) (F0 m 25 ls []) := by
    intro n25
    induction n25 with
    | zero => intro x3 x4 H locs ls hn25 f0 f1 hC hP hD hS hl; exfalso; omega
    | succ n25 ih25 =>
      intro x3 x4 H locs ls hn25 f0 f1 hC hP hD hS hl
      have hC : RR = K_X12_brokenOf_85_25_b (K_X12_brokenOf_85_25 u0 p0 p1 n25) u0 p0 p1 x3 x4 := hC
      have L104 : ∀ (x3 : Int32) (x4 : Int32) (H : Heap) (locs : List Loc) (ls : Array Slot), (0 : Int) ≤ x3.toInt ∧ x3.toInt ≤ 121 → (0 : Int) ≤ x4.toInt ∧ x4.toInt ≤ 19 → 121 - x4.toInt + 0 < ((n25 : Nat) : Int) + 1 → RR = (K_X12_brokenOf_85_104 (K_X12_brokenOf_85_25 u0 p0 p1 n25) u0 p0 p1 x3 x4) → va_P (dC, dI) vwCl (ac_w ad cA (TT nF) u0) H → va_D A (ac_w ad cA (TT nF) u0) → va_S A s.heap H locs → lv_has ls 5 [(0, .ref (ad 85)), (1, .int p0), (2, .int p1), (3, .int x3), (4, .int x4)] → W p l e (ac_rm 5) s m [.ref (ad 85), .int p0, .int p1].toArray below meth c H locs 0 0 (MQ below (va_Qi (fun (r : Int32) (u : ac_U) => u = u0 ∧ ((-1 : Int) ≤ r.toInt ∧ r.toInt ≤ 19) ∧ f_X12_brokenOf_85 u0 p0 p1 = r) (ac_B (dC, dI) vwCl (ac_ty cA) ad cA (TT nF) A) A) [.ref (ad 85), .int p0, .int p1].toArray s 0 0 A) (F0 m 104 ls []) := by
        intro x3 x4 H locs ls f0 f1 f2 hC hP hD hS hl
        unfold K_X12_brokenOf_85_104 at hC
        refine a_iincX F (k := 4) (fun v1 => [(4, .int v1), (0, .ref (ad 85)), (1, .int p0), (2, .int p1), (3, .int x3)]) dX12_brokenOf_104 hl rfl rfl (by decide) (by omega) (by decide) (fun _ => rfl) (fun v1 ls hv1 yv1 hl => ?_)
        have hC := vl_eq hC yv1
        refine lv_goto (tgt := 25) F.1 F.2.1 dX12_brokenOf_107 (by decide) ?_
        exact ih25 x3 v1 _ _ _ (by omega) (by omega) (by omega) hC hP hD hS (lv_sub hl [1, 2, 3, 4, 0] rfl)
      have L51 : ∀ (x3 : Int32) (x4 : Int32) (H : Heap) (locs : List Loc) (ls : Array Slot), (0 : Int) ≤ x3.toInt ∧ x3.toInt ≤ 121 → (0 : Int) ≤ x4.toInt ∧ x4.toInt ≤ 19 → 121 - x4.toInt + 0 < ((n25 : Nat) : Int) + 1 → RR = (K_X12_brokenOf_85_51 (K_X12_brokenOf_85_25 u0 p0 p1 n25) u0 p0 p1 x3 x4) → va_P (dC, dI) vwCl (ac_w ad cA (TT nF) u0) H → va_D A (ac_w ad cA (TT nF) u0) → va_S A s.heap H locs → lv_has ls 5 [(0, .ref (ad 85)), (1, .int p0), (2, .int p1), (3, .int x3), (4, .int x4)] → W p l e (ac_rm 5) s m [.ref (ad 85), .int p0, .int p1].toArray below meth c H locs 0 0 (MQ below (va_Qi (fun (r : Int32) (u : ac_U) => u = u0 ∧ ((-1 : Int) ≤ r.toInt ∧ r.toInt ≤ 19) ∧ f_X12_brokenOf_85 u0 p0 p1 = r) (ac_B (dC, dI) vwCl (ac_ty cA) ad cA (TT nF) A) A) [.ref (ad 85), .int p0, .int p1].toArray s 0 0 A) (F0 m 51 ls []) := by
        intro x3 x4 H locs ls f0 f1 f2 hC hP hD hS hl
        unfold K_X12_brokenOf_85_51 at hC
        refine lv_aload_n F.1 F.2.1 dX12_brokenOf_51 rfl (lv_at hl 0 rfl) ?_
        refine a_getr F inX12 hP 85 6 tc_85 rfl rfl (by decide) q1477 (fun _ h9 => h9) dX12_brokenOf_52 ?_
        refine a_bp F (106 : Int32) dX12_brokenOf_55 (by decide) ?_
        have g2 : (0 : Int) ≤ (u0.1 87 106).toInt ∧ (u0.1 87 106).toInt ≤ 480 := hR 87 106
        refine a_ialdK F hP 87 106 tc_87 rfl rfl (i_in ic_106 (by omega)) (v := (u0.1 87 106)) rfl dX12_brokenOf_57 ?_
        refine lv_iload F.1 F.2.1 dX12_brokenOf_58 (lv_at hl 4 rfl) ?_
        refine lv_aload_n F.1 F.2.1 dX12_brokenOf_60 rfl (lv_at hl 0 rfl) ?_
        refine a_getr F inX12 hP 85 6 tc_85 rfl rfl (by decide) q1477 (fun _ h9 => h9) dX12_brokenOf_61 ?_
        refine a_ic F (0 : Int32) dX12_brokenOf_64 (by decide) ?_
        have g3 : (4 : Int) ≤ (u0.1 87 0).toInt ∧ (u0.1 87 0).toInt ≤ 24 := hR 87 0
        refine a_ialdK F hP 87 0 tc_87 rfl rfl (i_in ic_0 (by omega)) (v := (u0.1 87 0)) rfl dX12_brokenOf_65 ?_
        have kv4 := i_mulb (x := x4.toInt) (y := (u0.1 87 0).toInt) (a0 := 0) (a1 := 19) (b0 := 4) (b1 := 24) (by omega) (by omega) (by omega)
        refine a_imulX F dX12_brokenOf_66 rfl rfl (by omega) (fun v4 hv4 yv4 => ?_)
        have hC := vl_eq hC yv4
        refine lv_aload_n F.1 F.2.1 dX12_brokenOf_67 rfl (lv_at hl 0 rfl) ?_
        refine lv_iload_n F.1 F.2.1 dX12_brokenOf_68 rfl (lv_at hl 1 rfl) ?_
        refine lv_iload_n F.1 F.2.1 dX12_brokenOf_69 rfl (lv_at hl 2 rfl) ?_
        refine a_Vi F hml hl.1 hA hP hD hS (As := [.int p0, .int p1]) (x_X12_lastOf_85 l dC dI ad cA nF _ p0 p1 hR (by omega) (by omega)) (cs_RX12_298 (d := 2) F.2.2.1 (by decide)) tc_85 rfl rfl rfl rfl (Nat.le_of_ble_eq_true rfl) dX12_brokenOf_70 ⟨Nat.le_refl 0, Nat.le_refl 0⟩ (fun r5 uN5 H locs hq hP hD hS => ?_)
        obtain ⟨hu5, gr5, hz5⟩ := hq
        rw [hu5] at hP hD
        have hC := vl_eq hC hz5.symm
        refine a_iaddX F dX12_brokenOf_73 rfl rfl (by have q0 := i_lo r5; omega) (fun v6 hv6 yv6 => ?_)
        have hC := vl_eq hC yv6
        refine b_gt F 79 dX12_brokenOf_74 (by decide) rfl rfl (fun c7 => ?_) (fun c7 => ?_)
        · have hC := hC.trans (if_pos c7)
          refine lv_aload_n F.1 F.2.1 dX12_brokenOf_79 rfl (lv_at hl 0 rfl) ?_
          refine lv_iload_n F.1 F.2.1 dX12_brokenOf_80 rfl (lv_at hl 1 rfl) ?_
          refine lv_iload_n F.1 F.2.1 dX12_brokenOf_81 rfl (lv_at hl 2 rfl) ?_
          refine lv_iload F.1 F.2.1 dX12_brokenOf_82 (lv_at hl 4 rfl) ?_
          refine a_Vi F hml hl.1 hA hP hD hS (As := [.int p0, .int p1, .int x4]) (x_X12_isKept_85 l dC dI ad cA nF _ p0 p1 x4 hR (by omega) (by omega) (by omega)) (cs_RX12_308 (d := 4) F.2.2.1 (by decide)) tc_85 rfl rfl rfl rfl (Nat.le_of_ble_eq_true rfl) dX12_brokenOf_84 ⟨Nat.le_refl 0, Nat.le_refl 0⟩ (fun r8 uN8 H locs hq hP hD hS => ?_)
          obtain ⟨hu8, gr8, hz8⟩ := hq
          rw [hu8] at hP hD
          have hC := vl_eq hC hz8.symm
          refine z_ne F 104 dX12_brokenOf_87 (by decide) rfl (fun c9 => ?_) (fun c9 => ?_)
          · have hC := hC.trans (if_pos c9)
            exact L104 x3 x4 _ _ _ (by omega) (by omega) (by omega) hC hP hD hS (lv_sub hl [0, 1, 2, 3, 4] rfl)
          · have hC := hC.trans (if_neg (by omega))
            refine lv_aload_n F.1 F.2.1 dX12_brokenOf_90 rfl (lv_at hl 0 rfl) ?_
            refine lv_iload_n F.1 F.2.1 dX12_brokenOf_91 rfl (lv_at hl 1 rfl) ?_
            refine lv_iload_n F.1 F.2.1 dX12_brokenOf_92 rfl (lv_at hl 2 rfl) ?_
            refine lv_iload F.1 F.2.1 dX12_brokenOf_93 (lv_at hl 4 rfl) ?_
            refine a_Vi F hml hl.1 hA hP hD hS (As := [.int p0, .int p1, .int x4]) (x_X12_isOff_85 l dC dI ad cA nF _ p0 p1 x4 hR (by omega) (by omega) (by omega)) (cs_RX12_311 (d := 3) F.2.2.1 (by decide)) tc_85 rfl rfl rfl rfl (Nat.le_of_ble_eq_true rfl) dX12_brokenOf_95 ⟨Nat.le_refl 0, Nat.le_refl 0⟩ (fun r10 uN10 H locs hq hP hD hS => ?_)
            obtain ⟨hu10, gr10, hz10⟩ := hq
            rw [hu10] at hP hD
            have hC := vl_eq hC hz10.symm
            refine z_ne F 104 dX12_brokenOf_98 (by decide) rfl (fun c11 => ?_) (fun c11 => ?_)
            · have hC := hC.trans (if_pos c11)
              exact L104 x3 x4 _ _ _ (by omega) (by omega) (by omega) hC hP hD hS (lv_sub hl [0, 1, 2, 3, 4] rfl)
            · have hC := hC.trans (if_neg (by omega))
              refine lv_iload F.1 F.2.1 dX12_brokenOf_101 (lv_at hl 4 rfl) ?_
              exact a_reti F hr hlocks hP hD hS dX12_brokenOf_103 ⟨rfl, (by omega : (-1 : Int) ≤ x4.toInt ∧ x4.toInt ≤ 19), hRR.symm.trans hC⟩
        · have hC := hC.trans (if_neg (by omega))
          refine a_ic F (-1 : Int32) dX12_brokenOf_77 (by decide) ?_
          exact a_reti F hr hlocks hP hD hS dX12_brokenOf_78 ⟨rfl, (by decide), hRR.symm.trans hC⟩
      unfold K_X12_brokenOf_85_25_b at hC
      refine lv_iload F.1 F.2.1 dX12_brokenOf_25 (lv_at hl 4 rfl) ?_
      refine a_bp F (20 : Int32) dX12_brokenOf_27 (by decide) ?_
      refine b_ge F 110 dX12_brokenOf_29 (by decide) rfl ic_20 (fun c12 => ?_) (fun c12 => ?_)
      · have hC := hC.trans (if_pos c12)
        exact L110 _ _ _  hC hP hD hS (lv_sub hl [] rfl)
      · have hC := hC.trans (if_neg (by omega))
        refine lv_iload F.1 F.2.1 dX12_brokenOf_32 (lv_at hl 4 rfl) ?_
        refine lv_iload_n F.1 F.2.1 dX12_brokenOf_34 rfl (lv_at hl 3 rfl) ?_
        refine b_eq F 51 dX12_brokenOf_35 (by decide) rfl rfl (fun c13 => ?_) (fun c13 => ?_)
        · have hC := hC.trans (if_pos c13)
          exact L51 x3 x4 _ _ _ (by omega) (by omega) (by omega) hC hP hD hS (lv_sub hl [0, 1, 2, 3, 4] rfl)
        · have hC := hC.trans (if_neg (by omega))
          refine lv_aload_n F.1 F.2.1 dX12_brokenOf_38 rfl (lv_at hl 0 rfl) ?_
          refine a_getr F inX12 hP 85 6 tc_85 rfl rfl (by decide) q1477 (fun _ h9 => h9) dX12_brokenOf_39 ?_
          refine a_bp F (74 : Int32) dX12_brokenOf_42 (by decide) ?_
          refine lv_iload_n F.1 F.2.1 dX12_brokenOf_44 rfl (lv_at hl 1 rfl) ?_
          refine a_iaddX F dX12_brokenOf_45 ic_74 rfl (by omega) (fun v14 hv14 yv14 => ?_)
          have hC := vl_eq hC yv14
          refine a_iald F hP 87 tc_87 rfl (i_in rfl (by omega)) dX12_brokenOf_46 (fun v15 ev15 => ?_)
          have hC := vl_eq hC ev15.symm
          refine a_ic F (1 : Int32) dX12_brokenOf_47 (by decide) ?_
          refine b_ne F 110 dX12_brokenOf_48 (by decide) rfl ic_1 (fun c16 => ?_) (fun c16 => ?_)
          · have hC := hC.trans (if_pos c16)
            exact L110 _ _ _  hC hP hD hS (lv_sub hl [] rfl)
          · have hC := hC.trans (if_neg (by omega))
            exact L51 x3 x4 _ _ _ (by omega) (by omega) (by omega) hC hP hD hS (lv_sub hl [0, 1, 2, 3, 4] rfl)
  have hC : RR = f_X12_brokenOf_85 u0 p0 p1 := hRR
  unfold f_X12_brokenOf_85 at hC
  refine lv_aload_n F.1 F.2.1 dX12_brokenOf_0 rfl (lv_at hl 0 rfl) ?_
  refine a_getr F inX12 hP 85 6 tc_85 rfl rfl (by decide) q1477 (fun _ h9 => h9) dX12_brokenOf_1 ?_
  refine a_sp F (132 : Int32) dX12_brokenOf_4 (by decide) ?_
  refine lv_iload_n F.1 F.2.1 dX12_brokenOf_7 rfl (lv_at hl 1 rfl) ?_
  refine a_iaddX F dX12_brokenOf_8 ic_132 rfl (by omega) (fun v17 hv17 yv17 => ?_)
  have hC := vl_eq hC yv17
  refine a_iald F hP 87 tc_87 rfl (i_in rfl (by omega)) dX12_brokenOf_9 (fun v18 ev18 => ?_)
  have hC := vl_eq hC ev18.symm
  refine z_ne F 15 dX12_brokenOf_10 (by decide) rfl (fun c19 => ?_) (fun c19 => ?_)
  · have hC := hC.trans (if_pos c19)
    refine lv_aload_n F.1 F.2.1 dX12_brokenOf_15 rfl (lv_at hl 0 rfl) ?_
    refine lv_iload_n F.1 F.2.1 dX12_brokenOf_16 rfl (lv_at hl 1 rfl) ?_
    refine lv_iload_n F.1 F.2.1 dX12_brokenOf_17 rfl (lv_at hl 2 rfl) ?_
    refine a_Vi F hml hl.1 hA hP hD hS (As := [.int p0, .int p1]) (x_X12_dueOf_85 l dC dI ad cA nF _ p0 p1 hR (by omega) (by omega)) (cs_RX12_305 (d := 3) F.2.2.1 (by decide)) tc_85 rfl rfl rfl rfl (Nat.le_of_ble_eq_true rfl) dX12_brokenOf_18 ⟨Nat.le_refl 0, Nat.le_refl 0⟩ (fun r20 uN20 H locs hq hP hD hS => ?_)
    obtain ⟨hu20, gr20, hz20⟩ := hq
    rw [hu20] at hP hD
    have hC := vl_eq hC hz20.symm
    refine lv_istore_n (lv' := [(3, .int r20), (0, .ref (ad 85)), (1, .int p0), (2, .int p1)]) F.1 F.2.1 dX12_brokenOf_21 rfl hl (by decide) rfl (fun ls hl => ?_)
    refine lv_iload_n F.1 F.2.1 dX12_brokenOf_22 rfl (lv_at hl 0 rfl) ?_
    refine lv_istore (lv' := [(4, .int r20), (3, .int r20), (0, .ref (ad 85)), (1, .int p0), (2, .int p1)]) F.1 F.2.1 dX12_brokenOf_23 hl (by decide) rfl (fun ls hl => ?_)
    exact L25 123 r20 r20 _ _ _ (by omega) (by omega) (by omega) hC hP hD hS (lv_sub hl [2, 3, 4, 1, 0] rfl)
  · have hC := hC.trans (if_neg (by omega))
    refine a_ic F (-1 : Int32) dX12_brokenOf_13 (by decide) ?_
    exact a_reti F hr hlocks hP hD hS dX12_brokenOf_14 ⟨rfl, (by decide), hRR.symm.trans hC⟩
def K_X12_statusOf_85_52 (u0 : ac_U) (p0 : Int32) (p1 : Int32) : Int32 := (1 : Int32)
def f_X12_statusOf_85 (u0 : ac_U) (p0 : Int32) (p1 : Int32) : Int32 := (vl ((132 : Int32) + p0) (fun (v1 : Int32) => (vl (u0.1 87 v1.toNatClampNeg) (fun (v2 : Int32) => (if v2.toInt ≠ 0 then (vl (f_X12_brokenOf_85 u0 p0 p1) (fun (r4 : Int32) => (if r4.toInt < 0 then (vl (f_X12_dueOf_85 u0 p0 p1) (fun (r6 : Int32) => (vl ((74 : Int32) + p0) (fun (v7 : Int32) => (vl (u0.1 87 v7.toNatClampNeg) (fun (v8 : Int32) => (if v8.toInt = (1 : Int) then (K_X12_statusOf_85_52 u0 p0 p1) else (if r6.toInt ≠ (20 : Int) then (vl (f_X12_isKept_85 u0 p0 p1 r6) (fun (r11 : Int32) => (if r11.toInt = 0 then (vl (f_X12_isOff_85 u0 p0 p1 r6) (fun (r13 : Int32) => (if r13.toInt = 0 then (1 : Int32) else (3 : Int32)))) else (2 : Int32)))) else (K_X12_statusOf_85_52 u0 p0 p1))))))))) else (4 : Int32)))) else (0 : Int32))))))
set_option maxHeartbeats 600000 in
set_option maxRecDepth 100000 in
theorem x_X12_statusOf_85 (l : Launch) (dC : Nat → ClassId) (dI : Nat → Nat → Nat) (ad : Nat → Nat) (cA : Nat → ClassId) (nF : Nat) (u0 : ac_U) (p0 : Int32) (p1 : Int32) (hR : ac_R rg u0) (hp0 : (0 : Int) ≤ p0.toInt ∧ p0.toInt ≤ 7) (hp1 : (0 : Int) ≤ p1.toInt ∧ p1.toInt ≤ 7) : ac_Mi l yX12_statusOf (.code yX12_statusOf cX12_statusOf 4 (some .int) :: TB) 6 (dC, dI) vwCl (ac_ty cA) ad cA (TT nF) [.ref (ad 85), .int p0, .int p1] u0 (fun (r : Int32) (u : ac_U) => u = u0 ∧ ((0 : Int) ≤ r.toInt ∧ r.toInt ≤ 4) ∧ f_X12_statusOf_85 u0 p0 p1 = r) := by
  refine ac_Mi.of (cc := cX12_statusOf) (maxL := 4) (ret := (some .int)) (by decide) rfl (Nat.le_of_ble_eq_true rfl) ?_
  intro p e s m below meth c A ls F hml hr hlocks hA hP hD hS hl
  have F : ac_X p s m [.ref (ad 85), .int p0, .int p1].toArray c cX12_statusOf RX12 TB (dC, dI) vwCl (ac_ty cA) := ⟨F.1, F.2.1, fun w h => F.2.2.1 w (List.mem_cons_of_mem _ h), F.2.2.2.1, F.2.2.2.2⟩
  have hl : lv_has ls 4 [(0, .ref (ad 85)), (1, .int p0), (2, .int p1)] := hl
  obtain ⟨RR, hRR⟩ : ∃ q, q = f_X12_statusOf_85 u0 p0 p1 := ⟨_, rfl⟩
  have L52 : ∀ (H : Heap) (locs : List Loc) (ls : Array Slot), RR = (K_X12_statusOf_85_52 u0 p0 p1) → va_P (dC, dI) vwCl (ac_w ad cA (TT nF) u0) H → va_D A (ac_w ad cA (TT nF) u0) → va_S A s.heap H locs → lv_has ls 4 [] → W p l e (ac_rm 6) s m [.ref (ad 85), .int p0, .int p1].toArray below meth c H locs 0 0 (MQ below (va_Qi (fun (r : Int32) (u : ac_U) => u = u0 ∧ ((0 : Int) ≤ r.toInt ∧ r.toInt ≤ 4) ∧ f_X12_statusOf_85 u0 p0 p1 = r) (ac_B (dC, dI) vwCl (ac_ty cA) ad cA (TT nF) A) A) [.ref (ad 85), .int p0, .int p1].toArray s 0 0 A) (F0 m 52 ls []) := by
    intro H locs ls hC hP hD hS hl
    unfold K_X12_statusOf_85_52 at hC
    refine a_ic F (1 : Int32) dX12_statusOf_52 (by decide) ?_
    exact a_reti F hr hlocks hP hD hS dX12_statusOf_53 ⟨rfl, (by decide), hRR.symm.trans hC⟩
  have hC : RR = f_X12_statusOf_85 u0 p0 p1 := hRR
  unfold f_X12_statusOf_85 at hC
  refine lv_aload_n F.1 F.2.1 dX12_statusOf_0 rfl (lv_at hl 0 rfl) ?_
  refine a_getr F inX12 hP 85 6 tc_85 rfl rfl (by decide) q1477 (fun _ h9 => h9) dX12_statusOf_1 ?_
  refine a_sp F (132 : Int32) dX12_statusOf_4 (by decide) ?_
  refine lv_iload_n F.1 F.2.1 dX12_statusOf_7 rfl (lv_at hl 1 rfl) ?_
  refine a_iaddX F dX12_statusOf_8 ic_132 rfl (by omega) (fun v1 hv1 yv1 => ?_)
  have hC := vl_eq hC yv1
  refine a_iald F hP 87 tc_87 rfl (i_in rfl (by omega)) dX12_statusOf_9 (fun v2 ev2 => ?_)
  have hC := vl_eq hC ev2.symm
  refine z_ne F 15 dX12_statusOf_10 (by decide) rfl (fun c3 => ?_) (fun c3 => ?_)
  · have hC := hC.trans (if_pos c3)
    refine lv_aload_n F.1 F.2.1 dX12_statusOf_15 rfl (lv_at hl 0 rfl) ?_
    refine lv_iload_n F.1 F.2.1 dX12_statusOf_16 rfl (lv_at hl 1 rfl) ?_
    refine lv_iload_n F.1 F.2.1 dX12_statusOf_17 rfl (lv_at hl 2 rfl) ?_
    refine a_Vi F hml hl.1 hA hP hD hS (As := [.int p0, .int p1]) (x_X12_brokenOf_85 l dC dI ad cA nF _ p0 p1 hR (by omega) (by omega)) (cs_RX12_314 (d := 5) F.2.2.1 (by decide)) tc_85 rfl rfl rfl rfl (Nat.le_of_ble_eq_true rfl) dX12_statusOf_18 ⟨Nat.le_refl 0, Nat.le_refl 0⟩ (fun r4 uN4 H locs hq hP hD hS => ?_)
    obtain ⟨hu4, gr4, hz4⟩ := hq
    rw [hu4] at hP hD
    have hC := vl_eq hC hz4.symm
    refine z_lt F 26 dX12_statusOf_21 (by decide) rfl (fun c5 => ?_) (fun c5 => ?_)
    · have hC := hC.trans (if_pos c5)
      refine lv_aload_n F.1 F.2.1 dX12_statusOf_26 rfl (lv_at hl 0 rfl) ?_
      refine lv_iload_n F.1 F.2.1 dX12_statusOf_27 rfl (lv_at hl 1 rfl) ?_
      refine lv_iload_n F.1 F.2.1 dX12_statusOf_28 rfl (lv_at hl 2 rfl) ?_
      refine a_Vi F hml hl.1 hA hP hD hS (As := [.int p0, .int p1]) (x_X12_dueOf_85 l dC dI ad cA nF _ p0 p1 hR (by omega) (by omega)) (cs_RX12_305 (d := 3) F.2.2.1 (by decide)) tc_85 rfl rfl rfl rfl (Nat.le_of_ble_eq_true rfl) dX12_statusOf_29 ⟨Nat.le_refl 0, Nat.le_refl 0⟩ (fun r6 uN6 H locs hq hP hD hS => ?_)
      obtain ⟨hu6, gr6, hz6⟩ := hq
      rw [hu6] at hP hD
      have hC := vl_eq hC hz6.symm
      refine lv_istore_n (lv' := [(3, .int r6), (0, .ref (ad 85)), (1, .int p0), (2, .int p1)]) F.1 F.2.1 dX12_statusOf_32 rfl hl (by decide) rfl (fun ls hl => ?_)
      refine lv_aload_n F.1 F.2.1 dX12_statusOf_33 rfl (lv_at hl 1 rfl) ?_
      refine a_getr F inX12 hP 85 6 tc_85 rfl rfl (by decide) q1477 (fun _ h9 => h9) dX12_statusOf_34 ?_
      refine a_bp F (74 : Int32) dX12_statusOf_37 (by decide) ?_
      refine lv_iload_n F.1 F.2.1 dX12_statusOf_39 rfl (lv_at hl 2 rfl) ?_
      refine a_iaddX F dX12_statusOf_40 ic_74 rfl (by omega) (fun v7 hv7 yv7 => ?_)
      have hC := vl_eq hC yv7
      refine a_iald F hP 87 tc_87 rfl (i_in rfl (by omega)) dX12_statusOf_41 (fun v8 ev8 => ?_)
      have hC := vl_eq hC ev8.symm
      refine a_ic F (1 : Int32) dX12_statusOf_42 (by decide) ?_
      refine b_eq F 52 dX12_statusOf_43 (by decide) rfl ic_1 (fun c9 => ?_) (fun c9 => ?_)
      · have hC := hC.trans (if_pos c9)
        exact L52 _ _ _  hC hP hD hS (lv_sub hl [] rfl)
      · have hC := hC.trans (if_neg (by omega))
        refine lv_iload_n F.1 F.2.1 dX12_statusOf_46 rfl (lv_at hl 0 rfl) ?_
        refine a_bp F (20 : Int32) dX12_statusOf_47 (by decide) ?_
        refine b_ne F 54 dX12_statusOf_49 (by decide) rfl ic_20 (fun c10 => ?_) (fun c10 => ?_)
        · have hC := hC.trans (if_pos c10)
          refine lv_aload_n F.1 F.2.1 dX12_statusOf_54 rfl (lv_at hl 1 rfl) ?_
          refine lv_iload_n F.1 F.2.1 dX12_statusOf_55 rfl (lv_at hl 2 rfl) ?_
          refine lv_iload_n F.1 F.2.1 dX12_statusOf_56 rfl (lv_at hl 3 rfl) ?_
          refine lv_iload_n F.1 F.2.1 dX12_statusOf_57 rfl (lv_at hl 0 rfl) ?_
          refine a_Vi F hml hl.1 hA hP hD hS (As := [.int p0, .int p1, .int r6]) (x_X12_isKept_85 l dC dI ad cA nF _ p0 p1 r6 hR (by omega) (by omega) (by omega)) (cs_RX12_308 (d := 4) F.2.2.1 (by decide)) tc_85 rfl rfl rfl rfl (Nat.le_of_ble_eq_true rfl) dX12_statusOf_58 ⟨Nat.le_refl 0, Nat.le_refl 0⟩ (fun r11 uN11 H locs hq hP hD hS => ?_)
          obtain ⟨hu11, gr11, hz11⟩ := hq
          rw [hu11] at hP hD
          have hC := vl_eq hC hz11.symm
          refine z_eq F 68 dX12_statusOf_61 (by decide) rfl (fun c12 => ?_) (fun c12 => ?_)
          · have hC := hC.trans (if_pos c12)
            refine lv_aload_n F.1 F.2.1 dX12_statusOf_68 rfl (lv_at hl 1 rfl) ?_
            refine lv_iload_n F.1 F.2.1 dX12_statusOf_69 rfl (lv_at hl 2 rfl) ?_
            refine lv_iload_n F.1 F.2.1 dX12_statusOf_70 rfl (lv_at hl 3 rfl) ?_
            refine lv_iload_n F.1 F.2.1 dX12_statusOf_71 rfl (lv_at hl 0 rfl) ?_
            refine a_Vi F hml hl.1 hA hP hD hS (As := [.int p0, .int p1, .int r6]) (x_X12_isOff_85 l dC dI ad cA nF _ p0 p1 r6 hR (by omega) (by omega) (by omega)) (cs_RX12_311 (d := 3) F.2.2.1 (by decide)) tc_85 rfl rfl rfl rfl (Nat.le_of_ble_eq_true rfl) dX12_statusOf_72 ⟨Nat.le_refl 0, Nat.le_refl 0⟩ (fun r13 uN13 H locs hq hP hD hS => ?_)
            obtain ⟨hu13, gr13, hz13⟩ := hq
            rw [hu13] at hP hD
            have hC := vl_eq hC hz13.symm
            refine z_eq F 82 dX12_statusOf_75 (by decide) rfl (fun c14 => ?_) (fun c14 => ?_)
            · have hC := hC.trans (if_pos c14)
              refine a_ic F (1 : Int32) dX12_statusOf_82 (by decide) ?_
              exact a_reti F hr hlocks hP hD hS dX12_statusOf_83 ⟨rfl, (by decide), hRR.symm.trans hC⟩
            · have hC := hC.trans (if_neg (by omega))
              refine a_ic F (3 : Int32) dX12_statusOf_78 (by decide) ?_
              refine lv_goto (tgt := 83) F.1 F.2.1 dX12_statusOf_79 (by decide) ?_
              exact a_reti F hr hlocks hP hD hS dX12_statusOf_83 ⟨rfl, (by decide), hRR.symm.trans hC⟩
          · have hC := hC.trans (if_neg (by omega))
            refine a_ic F (2 : Int32) dX12_statusOf_64 (by decide) ?_
            refine lv_goto (tgt := 83) F.1 F.2.1 dX12_statusOf_65 (by decide) ?_
            exact a_reti F hr hlocks hP hD hS dX12_statusOf_83 ⟨rfl, (by decide), hRR.symm.trans hC⟩
        · have hC := hC.trans (if_neg (by omega))
          exact L52 _ _ _  hC hP hD hS (lv_sub hl [] rfl)
    · have hC := hC.trans (if_neg (by omega))
      refine a_ic F (4 : Int32) dX12_statusOf_24 (by decide) ?_
      exact a_reti F hr hlocks hP hD hS dX12_statusOf_25 ⟨rfl, (by decide), hRR.symm.trans hC⟩
  · have hC := hC.trans (if_neg (by omega))
    refine a_ic F (0 : Int32) dX12_statusOf_13 (by decide) ?_
    exact a_reti F hr hlocks hP hD hS dX12_statusOf_14 ⟨rfl, (by decide), hRR.symm.trans hC⟩

def f_X12_dayNow_85 (u0 : ac_U) : Int32 := (vl ((u0.1 87 106) / (u0.1 87 0)) (fun (v3 : Int32) => v3))
set_option maxHeartbeats 600000 in
set_option maxRecDepth 100000 in
theorem x_X12_dayNow_85 (l : Launch) (dC : Nat → ClassId) (dI : Nat → Nat → Nat) (ad : Nat → Nat) (cA : Nat → ClassId) (nF : Nat) (u0 : ac_U)  (hR : ac_R rg u0) : ac_Mi l yX12_dayNow (.code yX12_dayNow cX12_dayNow 1 (some .int) :: TB) 1 (dC, dI) vwCl (ac_ty cA) ad cA (TT nF) [.ref (ad 85)] u0 (fun (r : Int32) (u : ac_U) => u = u0 ∧ ((0 : Int) ≤ r.toInt ∧ r.toInt ≤ 120) ∧ f_X12_dayNow_85 u0 = r) := by
  refine ac_Mi.of (cc := cX12_dayNow) (maxL := 1) (ret := (some .int)) (by decide) rfl (Nat.le_of_ble_eq_true rfl) ?_
  intro p e s m below meth c A ls F hml hr hlocks hA hP hD hS hl
  have F : ac_X p s m [.ref (ad 85)].toArray c cX12_dayNow RX12 TB (dC, dI) vwCl (ac_ty cA) := ⟨F.1, F.2.1, fun w h => F.2.2.1 w (List.mem_cons_of_mem _ h), F.2.2.2.1, F.2.2.2.2⟩
  have hl : lv_has ls 1 [(0, .ref (ad 85))] := hl
  obtain ⟨RR, hRR⟩ : ∃ q, q = f_X12_dayNow_85 u0 := ⟨_, rfl⟩
  have hC : RR = f_X12_dayNow_85 u0 := hRR
  unfold f_X12_dayNow_85 at hC
  refine lv_aload_n F.1 F.2.1 dX12_dayNow_0 rfl (lv_at hl 0 rfl) ?_
  refine a_getr F inX12 hP 85 6 tc_85 rfl rfl (by decide) q1477 (fun _ h9 => h9) dX12_dayNow_1 ?_
  refine a_bp F (106 : Int32) dX12_dayNow_4 (by decide) ?_
  have g1 : (0 : Int) ≤ (u0.1 87 106).toInt ∧ (u0.1 87 106).toInt ≤ 480 := hR 87 106
  refine a_ialdK F hP 87 106 tc_87 rfl rfl (i_in ic_106 (by omega)) (v := (u0.1 87 106)) rfl dX12_dayNow_6 ?_
  refine lv_aload_n F.1 F.2.1 dX12_dayNow_7 rfl (lv_at hl 0 rfl) ?_
  refine a_getr F inX12 hP 85 6 tc_85 rfl rfl (by decide) q1477 (fun _ h9 => h9) dX12_dayNow_8 ?_
  refine a_ic F (0 : Int32) dX12_dayNow_11 (by decide) ?_
  have g2 : (4 : Int) ≤ (u0.1 87 0).toInt ∧ (u0.1 87 0).toInt ≤ 24 := hR 87 0
  refine a_ialdK F hP 87 0 tc_87 rfl rfl (i_in ic_0 (by omega)) (v := (u0.1 87 0)) rfl dX12_dayNow_12 ?_
  refine a_idivX F (kk := 4) dX12_dayNow_13 rfl rfl (by omega) (fun v3 ev3 hv3 yv3 => ?_)
  have hC := vl_eq hC yv3
  exact a_reti F hr hlocks hP hD hS dX12_dayNow_14 ⟨rfl, (by omega : (0 : Int) ≤ v3.toInt ∧ v3.toInt ≤ 120), hRR.symm.trans hC⟩
def K_X12_back_85_2_b (B2 : ac_U → Int32 → ac_U) (u0 : ac_U) (u : ac_U) (x1 : Int32) : ac_U := (if (370 : Int) ≤ x1.toInt then u else (vl ((106 : Int32) + x1) (fun (v2 : Int32) => (vl (u.1 94 x1.toNatClampNeg) (fun (v3 : Int32) => (vl (x1 + Int32.ofInt (1)) (fun (v4 : Int32) => (B2 (pI u 87 v2.toNatClampNeg v3) v4))))))))
def K_X12_back_85_2 (u0 : ac_U) : Nat → ac_U → Int32 → ac_U
  | 0 => fun u x1 => u
  | n + 1 => fun u x1 => K_X12_back_85_2_b (K_X12_back_85_2 u0 n) u0 u x1
def f_X12_back_85 (u0 : ac_U) : ac_U := (K_X12_back_85_2 u0 372 u0 (0 : Int32))
set_option maxHeartbeats 600000 in
set_option maxRecDepth 100000 in
theorem x_X12_back_85 (l : Launch) (dC : Nat → ClassId) (dI : Nat → Nat → Nat) (ad : Nat → Nat) (cA : Nat → ClassId) (nF : Nat) (u0 : ac_U)  (hR : ac_R rg u0) (hK_MS : msI u0) (hK_BI : bfI u0) (hK_AP : apI u0) (hK_AB : abI u0) : ac_Mv l yX12_back (.code yX12_back cX12_back 2 none :: TB) 1 (dC, dI) vwCl (ac_ty cA) ad cA (TT nF) [.ref (ad 85)] u0 (fun (u : ac_U) => ac_R rg u ∧ ac_Fr [(87, none)] u0 u ∧ msI u ∧ bfI u ∧ apI u ∧ abI u ∧ (cdI u0 → cdI u) ∧ (unI u0 → unI u) ∧ (auI u0 → auI u) ∧ (hxI u0 → hxI u) ∧ f_X12_back_85 u0 = u) := by
  refine ac_Mv.of (cc := cX12_back) (maxL := 2) (ret := none) (by decide) rfl (Nat.le_of_ble_eq_true rfl) ?_
  intro p e s m below meth c A ls F hml hr hlocks hA hP hD hS hl
  have F : ac_X p s m [.ref (ad 85)].toArray c cX12_back RX12 TB (dC, dI) vwCl (ac_ty cA) := ⟨F.1, F.2.1, fun w h => F.2.2.1 w (List.mem_cons_of_mem _ h), F.2.2.2.1, F.2.2.2.2⟩
  have hl : lv_has ls 2 [(0, .ref (ad 85))] := hl
  obtain ⟨RR, hRR⟩ : ∃ q, q = f_X12_back_85 u0 := ⟨_, rfl⟩
  have hF : ac_Fr [(87, none)] u0 u0 := ac_Fr.rf
  have hK_i_CW : (fun u => cdI u0 → cdI u) u0 := fun h => h
  have hK_i_UI : (fun u => unI u0 → unI u) u0 := fun h => h
  have hK_i_AU : (fun u => auI u0 → auI u) u0 := fun h => h
  have hK_i_HX : (fun u => hxI u0 → hxI u) u0 := fun h => h
  have L2 : ∀ (n2 : Nat) (x1 : Int32) (u : ac_U) (H : Heap) (locs : List Loc) (ls : Array Slot), ac_R rg u → ac_Fr [(87, none)] u0 u → 370 - x1.toInt < (n2 : Int) → msI u → bfI u → apI u → abI u → (fun u => cdI u0 → cdI u) u → (fun u => unI u0 → unI u) u → (fun u => auI u0 → auI u) u → (fun u => hxI u0 → hxI u) u → (0 : Int) ≤ x1.toInt ∧ x1.toInt ≤ 370 → RR = (K_X12_back_85_2 u0 n2 u x1) → va_P (dC, dI) vwCl (ac_w ad cA (TT nF) u) H → va_D A (ac_w ad cA (TT nF) u) → va_S A s.heap H locs → lv_has ls 2 [(0, .ref (ad 85)), (1, .int x1)] → W p l e (ac_rm 1) s m [.ref (ad 85)].toArray below meth c H locs 0 0 (MQ below (va_Qv (fun (u : ac_U) => ac_R rg u ∧ ac_Fr [(87, none)] u0 u ∧ msI u ∧ bfI u ∧ apI u ∧ abI u ∧ (cdI u0 → cdI u) ∧ (unI u0 → unI u) ∧ (auI u0 → auI u) ∧ (hxI u0 → hxI u) ∧ f_X12_back_85 u0 = u) (ac_B (dC, dI) vwCl (ac_ty cA) ad cA (TT nF) A) A) [.ref (ad 85)].toArray s 0 0 A) (F0 m 2 ls []) := by
    intro n2
    induction n2 with
    | zero => intro x1 u H locs ls hR hF hn2 hK_MS hK_BI hK_AP hK_AB hK_i_CW hK_i_UI hK_i_AU hK_i_HX f0 hC hP hD hS hl; exfalso; omega
    | succ n2 ih2 =>
      intro x1 u H locs ls hR hF hn2 hK_MS hK_BI hK_AP hK_AB hK_i_CW hK_i_UI hK_i_AU hK_i_HX f0 hC hP hD hS hl
      have hC : RR = K_X12_back_85_2_b (K_X12_back_85_2 u0 n2) u0 u x1 := hC
      unfold K_X12_back_85_2_b at hC
      refine lv_iload_n F.1 F.2.1 dX12_back_2 rfl (lv_at hl 1 rfl) ?_
      refine a_sp F (370 : Int32) dX12_back_3 (by decide) ?_
      refine b_ge F 30 dX12_back_6 (by decide) rfl ic_370 (fun c1 => ?_) (fun c1 => ?_)
      · have hC := hC.trans (if_pos c1)
        exact a_retv F hr hlocks hP hD hS dX12_back_30 ⟨hR, hF, hK_MS, hK_BI, hK_AP, hK_AB, hK_i_CW, hK_i_UI, hK_i_AU, hK_i_HX, hRR.symm.trans hC⟩
      · have hC := hC.trans (if_neg (by omega))
        refine lv_aload_n F.1 F.2.1 dX12_back_9 rfl (lv_at hl 0 rfl) ?_
        refine a_getr F inX12 hP 85 6 tc_85 rfl rfl (by decide) q1477 (fun _ h9 => h9) dX12_back_10 ?_
        refine a_bp F (106 : Int32) dX12_back_13 (by decide) ?_
        refine lv_iload_n F.1 F.2.1 dX12_back_15 rfl (lv_at hl 1 rfl) ?_
        refine a_iaddX F dX12_back_16 ic_106 rfl (by omega) (fun v2 hv2 yv2 => ?_)
        have hC := vl_eq hC yv2
        refine lv_aload_n F.1 F.2.1 dX12_back_17 rfl (lv_at hl 0 rfl) ?_
        refine a_getr F inX12 hP 85 23 tc_85 rfl rfl (by decide) q1494 (fun _ h9 => h9) dX12_back_18 ?_
        refine lv_iload_n F.1 F.2.1 dX12_back_21 rfl (lv_at hl 1 rfl) ?_
        refine a_iald F hP 94 tc_94 rfl (i_in rfl (by omega)) dX12_back_22 (fun v3 ev3 => ?_)
        have hC := vl_eq hC ev3.symm
        refine a_iast F hP hD hS 87 tc_87 rfl (i_in rfl (by omega)) dX12_back_23 (fun H locs hP hD hS => ?_)
        have hR := hR.si (c := 87) (k := v2.toNatClampNeg) (v := v3) (cp_el hR ev3 (rg_u3 (by omega) (by omega)).2)
        have hF := hF.si (c := 87) (k := v2.toNatClampNeg) (v := v3) rfl
        have hO_MS := hK_MS
        have hO_BI := hK_BI
        have hO_AP := hK_AP
        have hO_AB := hK_AB
        have hO_i_CW := hK_i_CW
        have hO_i_UI := hK_i_UI
        have hO_i_AU := hK_i_AU
        have hO_i_HX := hK_i_HX
        have hK_MS := ms_w hO_MS (i := v2) (v := v3) (by omega) (fun q9 => bf_get hO_BI ev3 (by omega))
        have hK_BI := sp_si sp_BI hK_BI (c := 87) (k := v2.toNatClampNeg) (v := v3) (fun j9 h9 => by have q8 := sp_mem h9; simp at q8; have q9 := i_cl (x := v2) (by omega); omega)
        have hK_AP := ap_w hO_AP (i := v2) (v := v3) (by omega) (fun q9 => ab_get hO_AB ev3 (by omega))
        have hK_AB := sp_si sp_AB hK_AB (c := 87) (k := v2.toNatClampNeg) (v := v3) (fun j9 h9 => by have q8 := sp_mem h9; simp at q8; have q9 := i_cl (x := v2) (by omega); omega)
        have hK_i_CW := sp_si (sp_imp sp_CW) hK_i_CW (c := 87) (k := v2.toNatClampNeg) (v := v3) (fun j9 h9 => by have q8 := sp_mem h9; simp at q8; have q9 := i_cl (x := v2) (by omega); omega)
        have hK_i_UI := sp_si (sp_imp sp_UI) hK_i_UI (c := 87) (k := v2.toNatClampNeg) (v := v3) (fun j9 h9 => by have q8 := sp_mem h9; simp at q8; have q9 := i_cl (x := v2) (by omega); omega)
        have hK_i_AU := sp_si (sp_imp sp_AU) hK_i_AU (c := 87) (k := v2.toNatClampNeg) (v := v3) (fun j9 h9 => by have q8 := sp_mem h9; simp at q8; have q9 := i_cl (x := v2) (by omega); omega)
        have hK_i_HX := sp_si (sp_imp sp_HX) hK_i_HX (c := 87) (k := v2.toNatClampNeg) (v := v3) (fun j9 h9 => by have q8 := sp_mem h9; simp at q8; have q9 := i_cl (x := v2) (by omega); omega)
        refine a_iincX F (k := 1) (fun v4 => [(1, .int v4), (0, .ref (ad 85))]) dX12_back_24 hl rfl rfl (by decide) (by omega) (by decide) (fun _ => rfl) (fun v4 ls hv4 yv4 hl => ?_)
        have hC := vl_eq hC yv4
        refine lv_goto (tgt := 2) F.1 F.2.1 dX12_back_27 (by decide) ?_
        exact ih2 v4 _ _ _ _ hR hF (by omega) hK_MS hK_BI hK_AP hK_AB hK_i_CW hK_i_UI hK_i_AU hK_i_HX (by omega) hC hP hD hS (lv_sub hl [1, 0] rfl)
  have hC : RR = f_X12_back_85 u0 := hRR
  unfold f_X12_back_85 at hC
  refine a_ic F (0 : Int32) dX12_back_0 (by decide) ?_
  refine lv_istore_n (lv' := [(1, .int (0 : Int32)), (0, .ref (ad 85))]) F.1 F.2.1 dX12_back_1 rfl hl (by decide) rfl (fun ls hl => ?_)
  exact L2 372 (0 : Int32) _ _ _ _ hR hF (by decide) hK_MS hK_BI hK_AP hK_AB hK_i_CW hK_i_UI hK_i_AU hK_i_HX (by decide) hC hP hD hS (lv_sub hl [1, 0] rfl)
def K_X12_bookLine_85_160 (u0 : ac_U) (u : ac_U) (x1 : Int32) (z0 : Int32) : ac_U × Int32 := (if 0 ≤ z0.toInt then (vl (f_X12_next_85 (pI u 89 x1.toNatClampNeg z0)) (fun (u2 : ac_U) => (if z0.toInt ≠ 0 then (if z0.toInt ≠ (1 : Int) then (if z0.toInt ≠ 0 then (if z0.toInt ≠ (1 : Int) then (bd (f_X12_takesName_85 u2 (18 : Int32) (u2.1 87 6)) (fun (u8 : ac_U) (r8 : Int32) => (if r8.toInt ≠ 0 then (vl (x1 + (2 : Int32)) (fun (v10 : Int32) => ((pI u8 89 v10.toNatClampNeg (u8.1 85 18)), (1 : Int32)))) else (u8, (0 : Int32))))) else (u2, 0)) else (u2, 0)) else (if z0.toInt ≠ 0 then (if z0.toInt ≠ (1 : Int) then (u2, 0) else (bd (f_X12_takesName_85 u2 (12 : Int32) (u2.1 87 5)) (fun (u16 : ac_U) (r16 : Int32) => (if r16.toInt ≠ 0 then (vl (x1 + (2 : Int32)) (fun (v18 : Int32) => ((pI u16 89 v18.toNatClampNeg (u16.1 85 18)), (1 : Int32)))) else (u16, (0 : Int32)))))) else (u2, 0))) else (if z0.toInt ≠ 0 then (u2, 0) else (bd (f_X12_takesName_85 u2 (0 : Int32) (u2.1 87 1)) (fun (u23 : ac_U) (r23 : Int32) => (if r23.toInt ≠ 0 then (vl (x1 + (2 : Int32)) (fun (v25 : Int32) => ((pI u23 89 v25.toNatClampNeg (u23.1 85 18)), (1 : Int32)))) else (u23, (0 : Int32))))))))) else (bd (f_X12_bad_85 u (1 : Int32)) (fun (u28 : ac_U) (r28 : Int32) => (u28, r28))))
def f_X12_bookLine_85 (u0 : ac_U) : ac_U × Int32 := (vl ((3 : Int32) * (u0.1 85 35)) (fun (v31 : Int32) => (vl (f_X12_isWord_85 u0 (1752135026 : Int64)) (fun (r32 : Int32) => (if r32.toInt = 0 then (bd (f_X12_looksAt_85 u0 (8 : Int32) (u0.1 87 4)) (fun (u35 : ac_U) (r35 : Int32) => (if r35.toInt ≠ 0 then (if (u0.1 85 35).toInt ≠ (40 : Int) then (vl (v31 + (1 : Int32)) (fun (v38 : Int32) => (vl (f_X12_next_85 (pI u35 89 v38.toNatClampNeg (u35.1 85 18))) (fun (u39 : ac_U) => (vl (f_X12_isWord_85 u39 (1735353715 : Int64)) (fun (r40 : Int32) => (if r40.toInt = 0 then (vl (f_X12_isWord_85 u39 (1685022067 : Int64)) (fun (r42 : Int32) => (if r42.toInt = 0 then (vl (f_X12_isWord_85 u39 (1935767923 : Int64)) (fun (r44 : Int32) => (if r44.toInt = 0 then (K_X12_bookLine_85_160 u0 u39 v31 (-1 : Int32)) else (K_X12_bookLine_85_160 u0 u39 v31 (2 : Int32))))) else (K_X12_bookLine_85_160 u0 u39 v31 (1 : Int32))))) else (K_X12_bookLine_85_160 u0 u39 v31 (0 : Int32))))))))) else (bd (f_X12_bad_85 u35 (4 : Int32)) (fun (u46 : ac_U) (r46 : Int32) => (u46, r46)))) else (u35, (0 : Int32))))) else (if (u0.1 85 35).toInt ≠ (40 : Int) then (vl (f_X12_next_85 u0) (fun (u50 : ac_U) => (bd (f_X12_takes_85 u50 (1 : Int32) (99 : Int32)) (fun (u51 : ac_U) (r51 : Int32) => (if r51.toInt ≠ 0 then (vl (v31 + (1 : Int32)) (fun (v53 : Int32) => ((pI (pI u51 89 v31.toNatClampNeg (3 : Int32)) 89 v53.toNatClampNeg (u51.1 85 18)), (1 : Int32)))) else (u51, (0 : Int32))))))) else (bd (f_X12_bad_85 u0 (4 : Int32)) (fun (u56 : ac_U) (r56 : Int32) => (u56, r56)))))))))
set_option maxHeartbeats 600000 in
set_option maxRecDepth 100000 in
theorem x_X12_bookLine_85 (l : Launch) (dC : Nat → ClassId) (dI : Nat → Nat → Nat) (ad : Nat → Nat) (cA : Nat → ClassId) (nF : Nat) (u0 : ac_U)  (hR : ac_R rg u0) (hK_BLI : blI u0) (hK_BG : bgI u0) : ac_Mi l yX12_bookLine (.code yX12_bookLine cX12_bookLine 3 (some .boolean) :: TB) 4 (dC, dI) vwCl (ac_ty cA) ad cA (TT nF) [.ref (ad 85)] u0 (fun (r : Int32) (u : ac_U) => ac_R rg u ∧ ac_Fr [(85, some 4), (85, some 11), (85, some 12), (85, some 13), (85, some 14), (85, some 15), (85, some 16), (85, some 18), (89, none)] u0 u ∧ ((0 : Int) ≤ r.toInt ∧ r.toInt ≤ 1) ∧ (r.toInt ≠ 0 → (u.1 85 35).toInt ≤ 39) ∧ (r.toInt ≠ 0 → blJ u) ∧ (r.toInt ≠ 0 → bgJ u) ∧ f_X12_bookLine_85 u0 = (u, r)) := by
  refine ac_Mi.of (cc := cX12_bookLine) (maxL := 3) (ret := (some .boolean)) (by decide) rfl (Nat.le_of_ble_eq_true rfl) ?_
  intro p e s m below meth c A ls F hml hr hlocks hA hP hD hS hl
  have F : ac_X p s m [.ref (ad 85)].toArray c cX12_bookLine RX12 TB (dC, dI) vwCl (ac_ty cA) := ⟨F.1, F.2.1, fun w h => F.2.2.1 w (List.mem_cons_of_mem _ h), F.2.2.2.1, F.2.2.2.2⟩
  have hl : lv_has ls 3 [(0, .ref (ad 85))] := hl
  obtain ⟨RR, hRR⟩ : ∃ q, q = f_X12_bookLine_85 u0 := ⟨_, rfl⟩
  have hF : ac_Fr [(85, some 4), (85, some 11), (85, some 12), (85, some 13), (85, some 14), (85, some 15), (85, some 16), (85, some 18), (89, none)] u0 u0 := ac_Fr.rf
  have L160 : ∀ (x1 : Int32) (z0 : Int32) (u : ac_U) (H : Heap) (locs : List Loc) (ls : Array Slot), ac_R rg u → ac_Fr [(85, some 4), (85, some 11), (85, some 12), (85, some 13), (85, some 14), (85, some 15), (85, some 16), (85, some 18), (89, none)] u0 u → blI u → blP u → bgI u → (0 : Int) ≤ x1.toInt ∧ x1.toInt ≤ 120 → (-1 : Int) ≤ z0.toInt ∧ z0.toInt ≤ 2 → (0 : Int) ≤ (u.1 85 18).toInt ∧ (u.1 85 18).toInt ≤ 3 → (0 : Int) ≤ (u.1 85 35).toInt ∧ (u.1 85 35).toInt ≤ 39 → x1.toInt = 3 * (u.1 85 35).toInt → RR = (K_X12_bookLine_85_160 u0 u x1 z0) → va_P (dC, dI) vwCl (ac_w ad cA (TT nF) u) H → va_D A (ac_w ad cA (TT nF) u) → va_S A s.heap H locs → lv_has ls 3 [(0, .ref (ad 85)), (1, .int x1)] → W p l e (ac_rm 4) s m [.ref (ad 85)].toArray below meth c H locs 0 0 (MQ below (va_Qi (fun (r : Int32) (u : ac_U) => ac_R rg u ∧ ac_Fr [(85, some 4), (85, some 11), (85, some 12), (85, some 13), (85, some 14), (85, some 15), (85, some 16), (85, some 18), (89, none)] u0 u ∧ ((0 : Int) ≤ r.toInt ∧ r.toInt ≤ 1) ∧ (r.toInt ≠ 0 → (u.1 85 35).toInt ≤ 39) ∧ (r.toInt ≠ 0 → blJ u) ∧ (r.toInt ≠ 0 → bgJ u) ∧ f_X12_bookLine_85 u0 = (u, r)) (ac_B (dC, dI) vwCl (ac_ty cA) ad cA (TT nF) A) A) [.ref (ad 85)].toArray s 0 0 A) (F0 m 160 ls [.int z0]) := by
    intro x1 z0 u H locs ls hR hF hK_BLI hK_BLP hK_BG f0 f1 f2 f3 f4 hC hP hD hS hl
    unfold K_X12_bookLine_85_160 at hC
    refine lv_istore_n (lv' := [(2, .int z0), (0, .ref (ad 85)), (1, .int x1)]) F.1 F.2.1 dX12_bookLine_160 rfl hl (by decide) rfl (fun ls hl => ?_)
    refine lv_iload_n F.1 F.2.1 dX12_bookLine_161 rfl (lv_at hl 0 rfl) ?_
    refine z_ge F 171 dX12_bookLine_162 (by decide) rfl (fun c1 => ?_) (fun c1 => ?_)
    · have hC := hC.trans (if_pos c1)
      refine lv_aload_n F.1 F.2.1 dX12_bookLine_171 rfl (lv_at hl 1 rfl) ?_
      refine a_getr F inX12 hP 85 8 tc_85 rfl rfl (by decide) q1479 (fun _ h9 => h9) dX12_bookLine_172 ?_
      refine lv_iload_n F.1 F.2.1 dX12_bookLine_175 rfl (lv_at hl 2 rfl) ?_
      refine lv_iload_n F.1 F.2.1 dX12_bookLine_176 rfl (lv_at hl 0 rfl) ?_
      refine a_iast F hP hD hS 89 tc_89 rfl (i_in rfl (by omega)) dX12_bookLine_177 (fun H locs hP hD hS => ?_)
      have hR := hR.si (c := 89) (k := x1.toNatClampNeg) (v := z0) ⟨i_lo _, i_hi _⟩
      have hF := hF.si (c := 89) (k := x1.toNatClampNeg) (v := z0) rfl
      have hO_BLI := hK_BLI
      have hO_BLP := hK_BLP
      have hO_BG := hK_BG
      have hN_BLQ := bx_q hD (t := (u.1 85 35)) rfl (by omega) (by omega) (by omega)
      have hN_BV := bg_v hD (t := (u.1 85 35)) rfl (by omega) (by omega)
      have hK_BLI := bx_w hO_BLI (t := (u.1 85 35)) rfl (i := x1) (v := z0) (by omega) (by omega)
      have hK_BLP := bx_pw hO_BLP (t := (u.1 85 35)) rfl (i := x1) (v := z0) (by omega) (by omega)
      have hK_BG := bg_w hO_BG (t := (u.1 85 35)) rfl (i := x1) (v := z0) (by omega) (by omega)
      have hK_BLQ := hN_BLQ
      have hK_BV := hN_BV
      refine lv_aload_n F.1 F.2.1 dX12_bookLine_178 rfl (lv_at hl 1 rfl) ?_
      refine a_Vv F hml hl.1 hA hP hD hS (As := []) (x_X12_next_85 l dC dI ad cA nF _  hR) (cs_RX12_184 (d := 2) F.2.2.1 (by decide)) tc_85 rfl rfl rfl rfl (Nat.le_of_ble_eq_true rfl) dX12_bookLine_179 ⟨Nat.le_refl 0, Nat.le_refl 0⟩ (fun u2 H locs hq hP hD hS => ?_)
      obtain ⟨hR, hF2, hz2⟩ := hq
      have hF := hF.tr hF2 (by decide)
      have hK_BLI := sp_fr sp_BLI hF2 (by decide) hK_BLI
      have hK_BLP := sp_fr sp_BLP hF2 (by decide) hK_BLP
      have hK_BG := sp_fr sp_BG hF2 (by decide) hK_BG
      have hK_BLQ := sp_fr sp_BLQ hF2 (by decide) hK_BLQ
      have hK_BV := sp_fr (sp_bv _) hF2 (by decide) hK_BV
      have hC := vl_eq hC hz2.symm
      refine lv_aload_n F.1 F.2.1 dX12_bookLine_182 rfl (lv_at hl 1 rfl) ?_
      refine lv_iload_n F.1 F.2.1 dX12_bookLine_183 rfl (lv_at hl 0 rfl) ?_
      refine z_ne F 191 dX12_bookLine_184 (by decide) rfl (fun c3 => ?_) (fun c3 => ?_)
      · have hC := hC.trans (if_pos c3)
        refine lv_iload_n F.1 F.2.1 dX12_bookLine_191 rfl (lv_at hl 0 rfl) ?_
        refine a_ic F (1 : Int32) dX12_bookLine_192 (by decide) ?_
        refine b_ne F 201 dX12_bookLine_193 (by decide) rfl ic_1 (fun c4 => ?_) (fun c4 => ?_)
        · have hC := hC.trans (if_pos c4)
          refine a_bp F (18 : Int32) dX12_bookLine_201 (by decide) ?_
          refine lv_aload_n F.1 F.2.1 dX12_bookLine_203 rfl (lv_at hl 1 rfl) ?_
          refine a_getr F inX12 hP 85 6 tc_85 rfl rfl (by decide) q1477 (fun _ h9 => h9) dX12_bookLine_204 ?_
          refine lv_iload_n F.1 F.2.1 dX12_bookLine_207 rfl (lv_at hl 0 rfl) ?_
          refine z_ne F 215 dX12_bookLine_208 (by decide) rfl (fun c5 => ?_) (fun c5 => ?_)
          · have hC := hC.trans (if_pos c5)
            refine lv_iload_n F.1 F.2.1 dX12_bookLine_215 rfl (lv_at hl 0 rfl) ?_
            refine a_ic F (1 : Int32) dX12_bookLine_216 (by decide) ?_
            refine b_ne F 224 dX12_bookLine_217 (by decide) rfl ic_1 (fun c6 => ?_) (fun c6 => ?_)
            · have hC := hC.trans (if_pos c6)
              refine a_bp F (6 : Int32) dX12_bookLine_224 (by decide) ?_
              have g7 : (0 : Int) ≤ (u2.1 87 6).toInt ∧ (u2.1 87 6).toInt ≤ 8 := hR 87 6
              refine a_ialdK F hP 87 6 tc_87 rfl rfl (i_in ic_6 (by omega)) (v := (u2.1 87 6)) rfl dX12_bookLine_226 ?_
              refine a_Vi F hml hl.1 hA hP hD hS (As := [.int (18 : Int32), .int (u2.1 87 6)]) (x_X12_takesName_85 l dC dI ad cA nF _ (18 : Int32) (u2.1 87 6) hR (by decide) (by omega) (by simp only [ic_18]; omega)) (cs_RX12_220 (d := 3) F.2.2.1 (by decide)) tc_85 rfl rfl rfl rfl (Nat.le_of_ble_eq_true rfl) dX12_bookLine_227 ⟨Nat.le_refl 0, Nat.le_refl 0⟩ (fun r8 u8 H locs hq hP hD hS => ?_)
              obtain ⟨hR, hF8, gr8, xr8, hz8⟩ := hq
              have hF := hF.tr hF8 (by decide)
              have hK_BLI := sp_fr sp_BLI hF8 (by decide) hK_BLI
              have hK_BLP := sp_fr sp_BLP hF8 (by decide) hK_BLP
              have hK_BG := sp_fr sp_BG hF8 (by decide) hK_BG
              have hK_BLQ := sp_fr sp_BLQ hF8 (by decide) hK_BLQ
              have hK_BV := sp_fr (sp_bv _) hF8 (by decide) hK_BV
              have xr8 : r8.toInt ≠ 0 → 0 ≤ (u8.1 85 18).toInt ∧ (u8.1 85 18).toInt < (u2.1 87 6).toInt := xr8
              have hC := bd_eq hC hz8
              refine z_ne F 235 dX12_bookLine_230 (by decide) rfl (fun c9 => ?_) (fun c9 => ?_)
              · have hC := hC.trans (if_pos c9)
                refine lv_aload_n F.1 F.2.1 dX12_bookLine_235 rfl (lv_at hl 1 rfl) ?_
                refine a_getr F inX12 hP 85 8 tc_85 rfl rfl (by decide) q1479 (fun _ h9 => h9) dX12_bookLine_236 ?_
                refine lv_iload_n F.1 F.2.1 dX12_bookLine_239 rfl (lv_at hl 2 rfl) ?_
                refine a_ic F (2 : Int32) dX12_bookLine_240 (by decide) ?_
                refine a_iaddX F dX12_bookLine_241 rfl ic_2 (by omega) (fun v10 hv10 yv10 => ?_)
                have hC := vl_eq hC yv10
                refine lv_aload_n F.1 F.2.1 dX12_bookLine_242 rfl (lv_at hl 1 rfl) ?_
                refine a_geti F inX12 hP 85 18 tc_85 rfl rfl (by decide) q1489 (fun _ h9 => h9) (v := (u8.1 85 18)) (rfl) dX12_bookLine_243 ?_
                refine a_iast F hP hD hS 89 tc_89 rfl (i_in rfl (by omega)) dX12_bookLine_246 (fun H locs hP hD hS => ?_)
                have hR := hR.si (c := 89) (k := v10.toNatClampNeg) (v := (u8.1 85 18)) ⟨i_lo _, i_hi _⟩
                have hF := hF.si (c := 89) (k := v10.toNatClampNeg) (v := (u8.1 85 18)) rfl
                have hO_BLI := hK_BLI
                have hO_BLP := hK_BLP
                have hO_BG := hK_BG
                have hO_BLQ := hK_BLQ
                have hO_BV := hK_BV
                have hN_BLJ := bx_j2 hO_BLI hO_BLP hO_BLQ (t := (u.1 85 35)) ((hF8 85 35 rfl).trans (hF2 85 35 rfl)) (i := v10) (v := (u8.1 85 18)) (by omega) (by omega) (by omega)
                have hN_BH := bg_j2 hO_BG hO_BV (t := (u.1 85 35)) ((hF8 85 35 rfl).trans (hF2 85 35 rfl)) (i := v10) (v := (u8.1 85 18)) (by omega) (by omega) (n := (u8.1 87 1)) (rfl) (by omega)
                have hK_BLI := bx_w hO_BLI (t := (u.1 85 35)) ((hF8 85 35 rfl).trans (hF2 85 35 rfl)) (i := v10) (v := (u8.1 85 18)) (by omega) (by omega)
                have hK_BG := bg_w hO_BG (t := (u.1 85 35)) ((hF8 85 35 rfl).trans (hF2 85 35 rfl)) (i := v10) (v := (u8.1 85 18)) (by omega) (by omega)
                have hK_BLJ := hN_BLJ
                have hK_BH := hN_BH
                refine a_ic F (1 : Int32) dX12_bookLine_247 (by decide) ?_
                have k11 : (u8.1 85 35).toInt = (u.1 85 35).toInt := congrArg Int32.toInt (show u8.1 85 35 = (u.1 85 35) from (hF8 85 35 rfl).trans (hF2 85 35 rfl))
                exact a_retz F hr hlocks hP hD hS dX12_bookLine_248 (Or.inr rfl) ⟨hR, hF, (by decide), (by first | exact (by omega : (1 : Int) ≠ 0 → (u8.1 85 35).toInt ≤ 39) | (rw [ic_1]; exact (by omega : (1 : Int) ≠ 0 → (u8.1 85 35).toInt ≤ 39))), (fun _ => hK_BLJ), (fun _ => hK_BH), hRR.symm.trans hC⟩
              · have hC := hC.trans (if_neg (by omega))
                refine a_ic F (0 : Int32) dX12_bookLine_233 (by decide) ?_
                have k12 : (u8.1 85 35).toInt = (u.1 85 35).toInt := congrArg Int32.toInt (show u8.1 85 35 = (u.1 85 35) from (hF8 85 35 rfl).trans (hF2 85 35 rfl))
                exact a_retz F hr hlocks hP hD hS dX12_bookLine_234 (Or.inl rfl) ⟨hR, hF, (by decide), (by first | exact (by omega : (0 : Int) ≠ 0 → (u8.1 85 35).toInt ≤ 39) | (rw [ic_0]; exact (by omega : (0 : Int) ≠ 0 → (u8.1 85 35).toInt ≤ 39))), (fun h9 => absurd (by decide) h9), (fun h9 => absurd (by decide) h9), hRR.symm.trans hC⟩
            · exfalso; omega
          · exfalso; omega
        · have hC := hC.trans (if_neg (by omega))
          refine a_bp F (12 : Int32) dX12_bookLine_196 (by decide) ?_
          refine lv_goto (tgt := 203) F.1 F.2.1 dX12_bookLine_198 (by decide) ?_
          refine lv_aload_n F.1 F.2.1 dX12_bookLine_203 rfl (lv_at hl 1 rfl) ?_
          refine a_getr F inX12 hP 85 6 tc_85 rfl rfl (by decide) q1477 (fun _ h9 => h9) dX12_bookLine_204 ?_
          refine lv_iload_n F.1 F.2.1 dX12_bookLine_207 rfl (lv_at hl 0 rfl) ?_
          refine z_ne F 215 dX12_bookLine_208 (by decide) rfl (fun c13 => ?_) (fun c13 => ?_)
          · have hC := hC.trans (if_pos c13)
            refine lv_iload_n F.1 F.2.1 dX12_bookLine_215 rfl (lv_at hl 0 rfl) ?_
            refine a_ic F (1 : Int32) dX12_bookLine_216 (by decide) ?_
            refine b_ne F 224 dX12_bookLine_217 (by decide) rfl ic_1 (fun c14 => ?_) (fun c14 => ?_)
            · exfalso; omega
            · have hC := hC.trans (if_neg (by omega))
              refine a_ic F (5 : Int32) dX12_bookLine_220 (by decide) ?_
              refine lv_goto (tgt := 226) F.1 F.2.1 dX12_bookLine_221 (by decide) ?_
              have g15 : (0 : Int) ≤ (u2.1 87 5).toInt ∧ (u2.1 87 5).toInt ≤ 6 := hR 87 5
              refine a_ialdK F hP 87 5 tc_87 rfl rfl (i_in ic_5 (by omega)) (v := (u2.1 87 5)) rfl dX12_bookLine_226 ?_
              refine a_Vi F hml hl.1 hA hP hD hS (As := [.int (12 : Int32), .int (u2.1 87 5)]) (x_X12_takesName_85 l dC dI ad cA nF _ (12 : Int32) (u2.1 87 5) hR (by decide) (by omega) (by simp only [ic_12]; omega)) (cs_RX12_220 (d := 3) F.2.2.1 (by decide)) tc_85 rfl rfl rfl rfl (Nat.le_of_ble_eq_true rfl) dX12_bookLine_227 ⟨Nat.le_refl 0, Nat.le_refl 0⟩ (fun r16 u16 H locs hq hP hD hS => ?_)
              obtain ⟨hR, hF16, gr16, xr16, hz16⟩ := hq
              have hF := hF.tr hF16 (by decide)
              have hK_BLI := sp_fr sp_BLI hF16 (by decide) hK_BLI
              have hK_BLP := sp_fr sp_BLP hF16 (by decide) hK_BLP
              have hK_BG := sp_fr sp_BG hF16 (by decide) hK_BG
              have hK_BLQ := sp_fr sp_BLQ hF16 (by decide) hK_BLQ
              have hK_BV := sp_fr (sp_bv _) hF16 (by decide) hK_BV
              have xr16 : r16.toInt ≠ 0 → 0 ≤ (u16.1 85 18).toInt ∧ (u16.1 85 18).toInt < (u2.1 87 5).toInt := xr16
              have hC := bd_eq hC hz16
              refine z_ne F 235 dX12_bookLine_230 (by decide) rfl (fun c17 => ?_) (fun c17 => ?_)
              · have hC := hC.trans (if_pos c17)
                refine lv_aload_n F.1 F.2.1 dX12_bookLine_235 rfl (lv_at hl 1 rfl) ?_
                refine a_getr F inX12 hP 85 8 tc_85 rfl rfl (by decide) q1479 (fun _ h9 => h9) dX12_bookLine_236 ?_
                refine lv_iload_n F.1 F.2.1 dX12_bookLine_239 rfl (lv_at hl 2 rfl) ?_
                refine a_ic F (2 : Int32) dX12_bookLine_240 (by decide) ?_
                refine a_iaddX F dX12_bookLine_241 rfl ic_2 (by omega) (fun v18 hv18 yv18 => ?_)
                have hC := vl_eq hC yv18
                refine lv_aload_n F.1 F.2.1 dX12_bookLine_242 rfl (lv_at hl 1 rfl) ?_
                refine a_geti F inX12 hP 85 18 tc_85 rfl rfl (by decide) q1489 (fun _ h9 => h9) (v := (u16.1 85 18)) (rfl) dX12_bookLine_243 ?_
                refine a_iast F hP hD hS 89 tc_89 rfl (i_in rfl (by omega)) dX12_bookLine_246 (fun H locs hP hD hS => ?_)
                have hR := hR.si (c := 89) (k := v18.toNatClampNeg) (v := (u16.1 85 18)) ⟨i_lo _, i_hi _⟩
                have hF := hF.si (c := 89) (k := v18.toNatClampNeg) (v := (u16.1 85 18)) rfl
                have hO_BLI := hK_BLI
                have hO_BLP := hK_BLP
                have hO_BG := hK_BG
                have hO_BLQ := hK_BLQ
                have hO_BV := hK_BV
                have hN_BLJ := bx_j2 hO_BLI hO_BLP hO_BLQ (t := (u.1 85 35)) ((hF16 85 35 rfl).trans (hF2 85 35 rfl)) (i := v18) (v := (u16.1 85 18)) (by omega) (by omega) (by omega)
                have hN_BH := bg_j2 hO_BG hO_BV (t := (u.1 85 35)) ((hF16 85 35 rfl).trans (hF2 85 35 rfl)) (i := v18) (v := (u16.1 85 18)) (by omega) (by omega) (n := (u16.1 87 1)) (rfl) (by omega)
                have hK_BLI := bx_w hO_BLI (t := (u.1 85 35)) ((hF16 85 35 rfl).trans (hF2 85 35 rfl)) (i := v18) (v := (u16.1 85 18)) (by omega) (by omega)
                have hK_BG := bg_w hO_BG (t := (u.1 85 35)) ((hF16 85 35 rfl).trans (hF2 85 35 rfl)) (i := v18) (v := (u16.1 85 18)) (by omega) (by omega)
                have hK_BLJ := hN_BLJ
                have hK_BH := hN_BH
                refine a_ic F (1 : Int32) dX12_bookLine_247 (by decide) ?_
                have k19 : (u16.1 85 35).toInt = (u.1 85 35).toInt := congrArg Int32.toInt (show u16.1 85 35 = (u.1 85 35) from (hF16 85 35 rfl).trans (hF2 85 35 rfl))
                exact a_retz F hr hlocks hP hD hS dX12_bookLine_248 (Or.inr rfl) ⟨hR, hF, (by decide), (by first | exact (by omega : (1 : Int) ≠ 0 → (u16.1 85 35).toInt ≤ 39) | (rw [ic_1]; exact (by omega : (1 : Int) ≠ 0 → (u16.1 85 35).toInt ≤ 39))), (fun _ => hK_BLJ), (fun _ => hK_BH), hRR.symm.trans hC⟩
              · have hC := hC.trans (if_neg (by omega))
                refine a_ic F (0 : Int32) dX12_bookLine_233 (by decide) ?_
                have k20 : (u16.1 85 35).toInt = (u.1 85 35).toInt := congrArg Int32.toInt (show u16.1 85 35 = (u.1 85 35) from (hF16 85 35 rfl).trans (hF2 85 35 rfl))
                exact a_retz F hr hlocks hP hD hS dX12_bookLine_234 (Or.inl rfl) ⟨hR, hF, (by decide), (by first | exact (by omega : (0 : Int) ≠ 0 → (u16.1 85 35).toInt ≤ 39) | (rw [ic_0]; exact (by omega : (0 : Int) ≠ 0 → (u16.1 85 35).toInt ≤ 39))), (fun h9 => absurd (by decide) h9), (fun h9 => absurd (by decide) h9), hRR.symm.trans hC⟩
          · exfalso; omega
      · have hC := hC.trans (if_neg (by omega))
        refine a_ic F (0 : Int32) dX12_bookLine_187 (by decide) ?_
        refine lv_goto (tgt := 203) F.1 F.2.1 dX12_bookLine_188 (by decide) ?_
        refine lv_aload_n F.1 F.2.1 dX12_bookLine_203 rfl (lv_at hl 1 rfl) ?_
        refine a_getr F inX12 hP 85 6 tc_85 rfl rfl (by decide) q1477 (fun _ h9 => h9) dX12_bookLine_204 ?_
        refine lv_iload_n F.1 F.2.1 dX12_bookLine_207 rfl (lv_at hl 0 rfl) ?_
        refine z_ne F 215 dX12_bookLine_208 (by decide) rfl (fun c21 => ?_) (fun c21 => ?_)
        · exfalso; omega
        · have hC := hC.trans (if_neg (by omega))
          refine a_ic F (1 : Int32) dX12_bookLine_211 (by decide) ?_
          refine lv_goto (tgt := 226) F.1 F.2.1 dX12_bookLine_212 (by decide) ?_
          have g22 : (0 : Int) ≤ (u2.1 87 1).toInt ∧ (u2.1 87 1).toInt ≤ 8 := hR 87 1
          refine a_ialdK F hP 87 1 tc_87 rfl rfl (i_in ic_1 (by omega)) (v := (u2.1 87 1)) rfl dX12_bookLine_226 ?_
          refine a_Vi F hml hl.1 hA hP hD hS (As := [.int (0 : Int32), .int (u2.1 87 1)]) (x_X12_takesName_85 l dC dI ad cA nF _ (0 : Int32) (u2.1 87 1) hR (by decide) (by omega) (by simp only [ic_0]; omega)) (cs_RX12_220 (d := 3) F.2.2.1 (by decide)) tc_85 rfl rfl rfl rfl (Nat.le_of_ble_eq_true rfl) dX12_bookLine_227 ⟨Nat.le_refl 0, Nat.le_refl 0⟩ (fun r23 u23 H locs hq hP hD hS => ?_)
          obtain ⟨hR, hF23, gr23, xr23, hz23⟩ := hq
          have hF := hF.tr hF23 (by decide)
          have hK_BLI := sp_fr sp_BLI hF23 (by decide) hK_BLI
          have hK_BLP := sp_fr sp_BLP hF23 (by decide) hK_BLP
          have hK_BG := sp_fr sp_BG hF23 (by decide) hK_BG
          have hK_BLQ := sp_fr sp_BLQ hF23 (by decide) hK_BLQ
          have hK_BV := sp_fr (sp_bv _) hF23 (by decide) hK_BV
          have xr23 : r23.toInt ≠ 0 → 0 ≤ (u23.1 85 18).toInt ∧ (u23.1 85 18).toInt < (u2.1 87 1).toInt := xr23
          have hC := bd_eq hC hz23
          refine z_ne F 235 dX12_bookLine_230 (by decide) rfl (fun c24 => ?_) (fun c24 => ?_)
          · have hC := hC.trans (if_pos c24)
            refine lv_aload_n F.1 F.2.1 dX12_bookLine_235 rfl (lv_at hl 1 rfl) ?_
            refine a_getr F inX12 hP 85 8 tc_85 rfl rfl (by decide) q1479 (fun _ h9 => h9) dX12_bookLine_236 ?_
            refine lv_iload_n F.1 F.2.1 dX12_bookLine_239 rfl (lv_at hl 2 rfl) ?_
            refine a_ic F (2 : Int32) dX12_bookLine_240 (by decide) ?_
            refine a_iaddX F dX12_bookLine_241 rfl ic_2 (by omega) (fun v25 hv25 yv25 => ?_)
            have hC := vl_eq hC yv25
            refine lv_aload_n F.1 F.2.1 dX12_bookLine_242 rfl (lv_at hl 1 rfl) ?_
            refine a_geti F inX12 hP 85 18 tc_85 rfl rfl (by decide) q1489 (fun _ h9 => h9) (v := (u23.1 85 18)) (rfl) dX12_bookLine_243 ?_
            refine a_iast F hP hD hS 89 tc_89 rfl (i_in rfl (by omega)) dX12_bookLine_246 (fun H locs hP hD hS => ?_)
            have hR := hR.si (c := 89) (k := v25.toNatClampNeg) (v := (u23.1 85 18)) ⟨i_lo _, i_hi _⟩
            have hF := hF.si (c := 89) (k := v25.toNatClampNeg) (v := (u23.1 85 18)) rfl
            have hO_BLI := hK_BLI
            have hO_BLP := hK_BLP
            have hO_BG := hK_BG
            have hO_BLQ := hK_BLQ
            have hO_BV := hK_BV
            have hN_BLJ := bx_j2 hO_BLI hO_BLP hO_BLQ (t := (u.1 85 35)) ((hF23 85 35 rfl).trans (hF2 85 35 rfl)) (i := v25) (v := (u23.1 85 18)) (by omega) (by omega) (by omega)
            have hN_BH := bg_j2 hO_BG hO_BV (t := (u.1 85 35)) ((hF23 85 35 rfl).trans (hF2 85 35 rfl)) (i := v25) (v := (u23.1 85 18)) (by omega) (by omega) (n := (u2.1 87 1)) (hF23 87 1 rfl) (by omega)
            have hK_BLI := bx_w hO_BLI (t := (u.1 85 35)) ((hF23 85 35 rfl).trans (hF2 85 35 rfl)) (i := v25) (v := (u23.1 85 18)) (by omega) (by omega)
            have hK_BG := bg_w hO_BG (t := (u.1 85 35)) ((hF23 85 35 rfl).trans (hF2 85 35 rfl)) (i := v25) (v := (u23.1 85 18)) (by omega) (by omega)
            have hK_BLJ := hN_BLJ
            have hK_BH := hN_BH
            refine a_ic F (1 : Int32) dX12_bookLine_247 (by decide) ?_
            have k26 : (u23.1 85 35).toInt = (u.1 85 35).toInt := congrArg Int32.toInt (show u23.1 85 35 = (u.1 85 35) from (hF23 85 35 rfl).trans (hF2 85 35 rfl))
            exact a_retz F hr hlocks hP hD hS dX12_bookLine_248 (Or.inr rfl) ⟨hR, hF, (by decide), (by first | exact (by omega : (1 : Int) ≠ 0 → (u23.1 85 35).toInt ≤ 39) | (rw [ic_1]; exact (by omega : (1 : Int) ≠ 0 → (u23.1 85 35).toInt ≤ 39))), (fun _ => hK_BLJ), (fun _ => hK_BH), hRR.symm.trans hC⟩
          · have hC := hC.trans (if_neg (by omega))
            refine a_ic F (0 : Int32) dX12_bookLine_233 (by decide) ?_
            have k27 : (u23.1 85 35).toInt = (u.1 85 35).toInt := congrArg Int32.toInt (show u23.1 85 35 = (u.1 85 35) from (hF23 85 35 rfl).trans (hF2 85 35 rfl))
            exact a_retz F hr hlocks hP hD hS dX12_bookLine_234 (Or.inl rfl) ⟨hR, hF, (by decide), (by first | exact (by omega : (0 : Int) ≠ 0 → (u23.1 85 35).toInt ≤ 39) | (rw [ic_0]; exact (by omega : (0 : Int) ≠ 0 → (u23.1 85 35).toInt ≤ 39))), (fun h9 => absurd (by decide) h9), (fun h9 => absurd (by decide) h9), hRR.symm.trans hC⟩
    · have hC := hC.trans (if_neg (by omega))
      refine lv_aload_n F.1 F.2.1 dX12_bookLine_165 rfl (lv_at hl 1 rfl) ?_
      refine a_ic F (1 : Int32) dX12_bookLine_166 (by decide) ?_
      refine a_Vi F hml hl.1 hA hP hD hS (As := [.int (1 : Int32)]) (x_X12_bad_85 l dC dI ad cA nF _ (1 : Int32) hR (by decide)) (cs_RX12_181 (d := 1) F.2.2.1 (by decide)) tc_85 rfl rfl rfl rfl (Nat.le_of_ble_eq_true rfl) dX12_bookLine_167 ⟨Nat.le_refl 0, Nat.le_refl 0⟩ (fun r28 u28 H locs hq hP hD hS => ?_)
      obtain ⟨hR, hF28, gr28, hz28⟩ := hq
      have hF := hF.tr hF28 (by decide)
      have hK_BLI := sp_fr sp_BLI hF28 (by decide) hK_BLI
      have hK_BLP := sp_fr sp_BLP hF28 (by decide) hK_BLP
      have hK_BG := sp_fr sp_BG hF28 (by decide) hK_BG
      have hC := bd_eq hC hz28
      have k29 : (u28.1 85 35).toInt = (u.1 85 35).toInt := congrArg Int32.toInt (show u28.1 85 35 = (u.1 85 35) from hF28 85 35 rfl)
      exact a_retz F hr hlocks hP hD hS dX12_bookLine_170 (i_01 (by omega)) ⟨hR, hF, (by omega : (0 : Int) ≤ r28.toInt ∧ r28.toInt ≤ 1), (by omega : r28.toInt ≠ 0 → (u28.1 85 35).toInt ≤ 39), (fun h9 => absurd (by omega : r28.toInt = 0) h9), (fun h9 => absurd (by omega : r28.toInt = 0) h9), hRR.symm.trans hC⟩
  have hC : RR = f_X12_bookLine_85 u0 := hRR
  unfold f_X12_bookLine_85 at hC
  refine a_ic F (3 : Int32) dX12_bookLine_0 (by decide) ?_
  refine lv_aload_n F.1 F.2.1 dX12_bookLine_1 rfl (lv_at hl 0 rfl) ?_
  have g30 : (0 : Int) ≤ (u0.1 85 35).toInt ∧ (u0.1 85 35).toInt ≤ 40 := hR 85 35
  refine a_geti F inX12 hP 85 35 tc_85 rfl rfl (by decide) q1506 (fun _ h9 => h9) (v := (u0.1 85 35)) rfl dX12_bookLine_2 ?_
  refine a_imulX F dX12_bookLine_5 ic_3 rfl (by omega) (fun v31 hv31 yv31 => ?_)
  have hC := vl_eq hC yv31
  refine lv_istore_n (lv' := [(1, .int v31), (0, .ref (ad 85))]) F.1 F.2.1 dX12_bookLine_6 rfl hl (by decide) rfl (fun ls hl => ?_)
  refine lv_aload_n F.1 F.2.1 dX12_bookLine_7 rfl (lv_at hl 1 rfl) ?_
  refine lv_ldc2 (v := (1752135026 : Int64)) F.1 F.2.1 F.2.2.2.1 (F.2.2.1 _ q1457) dX12_bookLine_8 ?_
  refine a_Vi F hml hl.1 hA hP hD hS (As := [.long (1752135026 : Int64)]) (x_X12_isWord_85 l dC dI ad cA nF _ (1752135026 : Int64) hR) (cs_RX12_206 (d := 1) F.2.2.1 (by decide)) tc_85 rfl rfl rfl rfl (Nat.le_of_ble_eq_true rfl) dX12_bookLine_11 ⟨Nat.le_refl 0, Nat.le_refl 0⟩ (fun r32 uN32 H locs hq hP hD hS => ?_)
  obtain ⟨hu32, gr32, hz32⟩ := hq
  rw [hu32] at hP hD
  have hC := vl_eq hC hz32.symm
  refine z_eq F 69 dX12_bookLine_14 (by decide) rfl (fun c33 => ?_) (fun c33 => ?_)
  · have hC := hC.trans (if_pos c33)
    refine lv_aload_n F.1 F.2.1 dX12_bookLine_69 rfl (lv_at hl 1 rfl) ?_
    refine a_bp F (8 : Int32) dX12_bookLine_70 (by decide) ?_
    refine lv_aload_n F.1 F.2.1 dX12_bookLine_72 rfl (lv_at hl 1 rfl) ?_
    refine a_getr F inX12 hP 85 6 tc_85 rfl rfl (by decide) q1477 (fun _ h9 => h9) dX12_bookLine_73 ?_
    refine a_ic F (4 : Int32) dX12_bookLine_76 (by decide) ?_
    have g34 : (0 : Int) ≤ (u0.1 87 4).toInt ∧ (u0.1 87 4).toInt ≤ 4 := hR 87 4
    refine a_ialdK F hP 87 4 tc_87 rfl rfl (i_in ic_4 (by omega)) (v := (u0.1 87 4)) rfl dX12_bookLine_77 ?_
    refine a_Vi F hml hl.1 hA hP hD hS (As := [.int (8 : Int32), .int (u0.1 87 4)]) (x_X12_looksAt_85 l dC dI ad cA nF _ (8 : Int32) (u0.1 87 4) hR (by decide) (by omega) (by simp only [ic_8]; omega)) (cs_RX12_202 (d := 2) F.2.2.1 (by decide)) tc_85 rfl rfl rfl rfl (Nat.le_of_ble_eq_true rfl) dX12_bookLine_78 ⟨Nat.le_refl 0, Nat.le_refl 0⟩ (fun r35 u35 H locs hq hP hD hS => ?_)
    obtain ⟨hR, hF35, gr35, xr35, hz35⟩ := hq
    have hF := hF.tr hF35 (by decide)
    have hK_BLI := sp_fr sp_BLI hF35 (by decide) hK_BLI
    have hK_BG := sp_fr sp_BG hF35 (by decide) hK_BG
    have xr35 : r35.toInt ≠ 0 → 0 ≤ (u35.1 85 18).toInt ∧ (u35.1 85 18).toInt < (u0.1 87 4).toInt := xr35
    have hC := bd_eq hC hz35
    refine z_ne F 86 dX12_bookLine_81 (by decide) rfl (fun c36 => ?_) (fun c36 => ?_)
    · have hC := hC.trans (if_pos c36)
      refine lv_aload_n F.1 F.2.1 dX12_bookLine_86 rfl (lv_at hl 1 rfl) ?_
      refine a_geti F inX12 hP 85 35 tc_85 rfl rfl (by decide) q1506 (fun _ h9 => h9) (v := (u0.1 85 35)) (hF35 85 35 rfl) dX12_bookLine_87 ?_
      refine a_bp F (40 : Int32) dX12_bookLine_90 (by decide) ?_
      refine b_ne F 101 dX12_bookLine_92 (by decide) rfl ic_40 (fun c37 => ?_) (fun c37 => ?_)
      · have hC := hC.trans (if_pos c37)
        refine lv_aload_n F.1 F.2.1 dX12_bookLine_101 rfl (lv_at hl 1 rfl) ?_
        refine a_getr F inX12 hP 85 8 tc_85 rfl rfl (by decide) q1479 (fun _ h9 => h9) dX12_bookLine_102 ?_
        refine lv_iload_n F.1 F.2.1 dX12_bookLine_105 rfl (lv_at hl 0 rfl) ?_
        refine a_ic F (1 : Int32) dX12_bookLine_106 (by decide) ?_
        refine a_iaddX F dX12_bookLine_107 rfl ic_1 (by omega) (fun v38 hv38 yv38 => ?_)
        have hC := vl_eq hC yv38
        refine lv_aload_n F.1 F.2.1 dX12_bookLine_108 rfl (lv_at hl 1 rfl) ?_
        refine a_geti F inX12 hP 85 18 tc_85 rfl rfl (by decide) q1489 (fun _ h9 => h9) (v := (u35.1 85 18)) (rfl) dX12_bookLine_109 ?_
        refine a_iast F hP hD hS 89 tc_89 rfl (i_in rfl (by omega)) dX12_bookLine_112 (fun H locs hP hD hS => ?_)
        have hR := hR.si (c := 89) (k := v38.toNatClampNeg) (v := (u35.1 85 18)) ⟨i_lo _, i_hi _⟩
        have hF := hF.si (c := 89) (k := v38.toNatClampNeg) (v := (u35.1 85 18)) rfl
        have hO_BLI := hK_BLI
        have hO_BG := hK_BG
        have hN_BLP := bx_p hD (t := (u0.1 85 35)) (hF35 85 35 rfl) (by omega) (by omega) (by omega)
        have hK_BLI := bx_w hO_BLI (t := (u0.1 85 35)) (hF35 85 35 rfl) (i := v38) (v := (u35.1 85 18)) (by omega) (by omega)
        have hK_BG := bg_w hO_BG (t := (u0.1 85 35)) (hF35 85 35 rfl) (i := v38) (v := (u35.1 85 18)) (by omega) (by omega)
        have hK_BLP := hN_BLP
        refine lv_aload_n F.1 F.2.1 dX12_bookLine_113 rfl (lv_at hl 1 rfl) ?_
        refine a_Vv F hml hl.1 hA hP hD hS (As := []) (x_X12_next_85 l dC dI ad cA nF _  hR) (cs_RX12_184 (d := 2) F.2.2.1 (by decide)) tc_85 rfl rfl rfl rfl (Nat.le_of_ble_eq_true rfl) dX12_bookLine_114 ⟨Nat.le_refl 0, Nat.le_refl 0⟩ (fun u39 H locs hq hP hD hS => ?_)
        obtain ⟨hR, hF39, hz39⟩ := hq
        have hF := hF.tr hF39 (by decide)
        have hK_BLI := sp_fr sp_BLI hF39 (by decide) hK_BLI
        have hK_BG := sp_fr sp_BG hF39 (by decide) hK_BG
        have hK_BLP := sp_fr sp_BLP hF39 (by decide) hK_BLP
        have hC := vl_eq hC hz39.symm
        refine lv_aload_n F.1 F.2.1 dX12_bookLine_117 rfl (lv_at hl 1 rfl) ?_
        refine lv_ldc2 (v := (1735353715 : Int64)) F.1 F.2.1 F.2.2.2.1 (F.2.2.1 _ q1454) dX12_bookLine_118 ?_
        refine a_Vi F hml hl.1 hA hP hD hS (As := [.long (1735353715 : Int64)]) (x_X12_isWord_85 l dC dI ad cA nF _ (1735353715 : Int64) hR) (cs_RX12_206 (d := 1) F.2.2.1 (by decide)) tc_85 rfl rfl rfl rfl (Nat.le_of_ble_eq_true rfl) dX12_bookLine_121 ⟨Nat.le_refl 0, Nat.le_refl 0⟩ (fun r40 uN40 H locs hq hP hD hS => ?_)
        obtain ⟨hu40, gr40, hz40⟩ := hq
        rw [hu40] at hP hD
        have hC := vl_eq hC hz40.symm
        refine z_eq F 131 dX12_bookLine_124 (by decide) rfl (fun c41 => ?_) (fun c41 => ?_)
        · have hC := hC.trans (if_pos c41)
          refine lv_aload_n F.1 F.2.1 dX12_bookLine_131 rfl (lv_at hl 1 rfl) ?_
          refine lv_ldc2 (v := (1685022067 : Int64)) F.1 F.2.1 F.2.2.2.1 (F.2.2.1 _ q1455) dX12_bookLine_132 ?_
          refine a_Vi F hml hl.1 hA hP hD hS (As := [.long (1685022067 : Int64)]) (x_X12_isWord_85 l dC dI ad cA nF _ (1685022067 : Int64) hR) (cs_RX12_206 (d := 1) F.2.2.1 (by decide)) tc_85 rfl rfl rfl rfl (Nat.le_of_ble_eq_true rfl) dX12_bookLine_135 ⟨Nat.le_refl 0, Nat.le_refl 0⟩ (fun r42 uN42 H locs hq hP hD hS => ?_)
          obtain ⟨hu42, gr42, hz42⟩ := hq
          rw [hu42] at hP hD
          have hC := vl_eq hC hz42.symm
          refine z_eq F 145 dX12_bookLine_138 (by decide) rfl (fun c43 => ?_) (fun c43 => ?_)
          · have hC := hC.trans (if_pos c43)
            refine lv_aload_n F.1 F.2.1 dX12_bookLine_145 rfl (lv_at hl 1 rfl) ?_
            refine lv_ldc2 (v := (1935767923 : Int64)) F.1 F.2.1 F.2.2.2.1 (F.2.2.1 _ q1456) dX12_bookLine_146 ?_
            refine a_Vi F hml hl.1 hA hP hD hS (As := [.long (1935767923 : Int64)]) (x_X12_isWord_85 l dC dI ad cA nF _ (1935767923 : Int64) hR) (cs_RX12_206 (d := 1) F.2.2.1 (by decide)) tc_85 rfl rfl rfl rfl (Nat.le_of_ble_eq_true rfl) dX12_bookLine_149 ⟨Nat.le_refl 0, Nat.le_refl 0⟩ (fun r44 uN44 H locs hq hP hD hS => ?_)
            obtain ⟨hu44, gr44, hz44⟩ := hq
            rw [hu44] at hP hD
            have hC := vl_eq hC hz44.symm
            refine z_eq F 159 dX12_bookLine_152 (by decide) rfl (fun c45 => ?_) (fun c45 => ?_)
            · have hC := hC.trans (if_pos c45)
              refine a_ic F (-1 : Int32) dX12_bookLine_159 (by decide) ?_
              exact L160 v31 (-1 : Int32) _ _ _ _ hR hF hK_BLI hK_BLP hK_BG (by omega) (by decide) (i_trB (hF39 85 18 rfl) (by omega : (0 : Int) ≤ (u35.1 85 18).toInt ∧ (u35.1 85 18).toInt ≤ 3)) (i_trB ((hF39 85 35 rfl).trans (hF35 85 35 rfl)) (by omega : (0 : Int) ≤ (u0.1 85 35).toInt ∧ (u0.1 85 35).toInt ≤ 39)) (by rw [(hF39 85 35 rfl).trans (hF35 85 35 rfl)]; exact (by omega : v31.toInt = 3 * (u0.1 85 35).toInt)) hC hP hD hS (lv_sub hl [1, 0] rfl)
            · have hC := hC.trans (if_neg (by omega))
              refine a_ic F (2 : Int32) dX12_bookLine_155 (by decide) ?_
              refine lv_goto (tgt := 160) F.1 F.2.1 dX12_bookLine_156 (by decide) ?_
              exact L160 v31 (2 : Int32) _ _ _ _ hR hF hK_BLI hK_BLP hK_BG (by omega) (by decide) (i_trB (hF39 85 18 rfl) (by omega : (0 : Int) ≤ (u35.1 85 18).toInt ∧ (u35.1 85 18).toInt ≤ 3)) (i_trB ((hF39 85 35 rfl).trans (hF35 85 35 rfl)) (by omega : (0 : Int) ≤ (u0.1 85 35).toInt ∧ (u0.1 85 35).toInt ≤ 39)) (by rw [(hF39 85 35 rfl).trans (hF35 85 35 rfl)]; exact (by omega : v31.toInt = 3 * (u0.1 85 35).toInt)) hC hP hD hS (lv_sub hl [1, 0] rfl)
          · have hC := hC.trans (if_neg (by omega))
            refine a_ic F (1 : Int32) dX12_bookLine_141 (by decide) ?_
            refine lv_goto (tgt := 160) F.1 F.2.1 dX12_bookLine_142 (by decide) ?_
            exact L160 v31 (1 : Int32) _ _ _ _ hR hF hK_BLI hK_BLP hK_BG (by omega) (by decide) (i_trB (hF39 85 18 rfl) (by omega : (0 : Int) ≤ (u35.1 85 18).toInt ∧ (u35.1 85 18).toInt ≤ 3)) (i_trB ((hF39 85 35 rfl).trans (hF35 85 35 rfl)) (by omega : (0 : Int) ≤ (u0.1 85 35).toInt ∧ (u0.1 85 35).toInt ≤ 39)) (by rw [(hF39 85 35 rfl).trans (hF35 85 35 rfl)]; exact (by omega : v31.toInt = 3 * (u0.1 85 35).toInt)) hC hP hD hS (lv_sub hl [1, 0] rfl)
        · have hC := hC.trans (if_neg (by omega))
          refine a_ic F (0 : Int32) dX12_bookLine_127 (by decide) ?_
          refine lv_goto (tgt := 160) F.1 F.2.1 dX12_bookLine_128 (by decide) ?_
          exact L160 v31 (0 : Int32) _ _ _ _ hR hF hK_BLI hK_BLP hK_BG (by omega) (by decide) (i_trB (hF39 85 18 rfl) (by omega : (0 : Int) ≤ (u35.1 85 18).toInt ∧ (u35.1 85 18).toInt ≤ 3)) (i_trB ((hF39 85 35 rfl).trans (hF35 85 35 rfl)) (by omega : (0 : Int) ≤ (u0.1 85 35).toInt ∧ (u0.1 85 35).toInt ≤ 39)) (by rw [(hF39 85 35 rfl).trans (hF35 85 35 rfl)]; exact (by omega : v31.toInt = 3 * (u0.1 85 35).toInt)) hC hP hD hS (lv_sub hl [1, 0] rfl)
      · have hC := hC.trans (if_neg (by omega))
        refine lv_aload_n F.1 F.2.1 dX12_bookLine_95 rfl (lv_at hl 1 rfl) ?_
        refine a_ic F (4 : Int32) dX12_bookLine_96 (by decide) ?_
        refine a_Vi F hml hl.1 hA hP hD hS (As := [.int (4 : Int32)]) (x_X12_bad_85 l dC dI ad cA nF _ (4 : Int32) hR (by decide)) (cs_RX12_181 (d := 1) F.2.2.1 (by decide)) tc_85 rfl rfl rfl rfl (Nat.le_of_ble_eq_true rfl) dX12_bookLine_97 ⟨Nat.le_refl 0, Nat.le_refl 0⟩ (fun r46 u46 H locs hq hP hD hS => ?_)
        obtain ⟨hR, hF46, gr46, hz46⟩ := hq
        have hF := hF.tr hF46 (by decide)
        have hK_BLI := sp_fr sp_BLI hF46 (by decide) hK_BLI
        have hK_BG := sp_fr sp_BG hF46 (by decide) hK_BG
        have hC := bd_eq hC hz46
        have k47 : (u46.1 85 35).toInt = (u0.1 85 35).toInt := congrArg Int32.toInt (show u46.1 85 35 = (u0.1 85 35) from (hF46 85 35 rfl).trans (hF35 85 35 rfl))
        exact a_retz F hr hlocks hP hD hS dX12_bookLine_100 (i_01 (by omega)) ⟨hR, hF, (by omega : (0 : Int) ≤ r46.toInt ∧ r46.toInt ≤ 1), (by omega : r46.toInt ≠ 0 → (u46.1 85 35).toInt ≤ 39), (fun h9 => absurd (by omega : r46.toInt = 0) h9), (fun h9 => absurd (by omega : r46.toInt = 0) h9), hRR.symm.trans hC⟩
    · have hC := hC.trans (if_neg (by omega))
      refine a_ic F (0 : Int32) dX12_bookLine_84 (by decide) ?_
      have k48 : (u35.1 85 35).toInt = (u0.1 85 35).toInt := congrArg Int32.toInt (show u35.1 85 35 = (u0.1 85 35) from hF35 85 35 rfl)
      exact a_retz F hr hlocks hP hD hS dX12_bookLine_85 (Or.inl rfl) ⟨hR, hF, (by decide), (by first | exact (by omega : (0 : Int) ≠ 0 → (u35.1 85 35).toInt ≤ 39) | (rw [ic_0]; exact (by omega : (0 : Int) ≠ 0 → (u35.1 85 35).toInt ≤ 39))), (fun h9 => absurd (by decide) h9), (fun h9 => absurd (by decide) h9), hRR.symm.trans hC⟩
  · have hC := hC.trans (if_neg (by omega))
    refine lv_aload_n F.1 F.2.1 dX12_bookLine_17 rfl (lv_at hl 1 rfl) ?_
    refine a_geti F inX12 hP 85 35 tc_85 rfl rfl (by decide) q1506 (fun _ h9 => h9) (v := (u0.1 85 35)) (rfl) dX12_bookLine_18 ?_
    refine a_bp F (40 : Int32) dX12_bookLine_21 (by decide) ?_
    refine b_ne F 32 dX12_bookLine_23 (by decide) rfl ic_40 (fun c49 => ?_) (fun c49 => ?_)
    · have hC := hC.trans (if_pos c49)
      refine lv_aload_n F.1 F.2.1 dX12_bookLine_32 rfl (lv_at hl 1 rfl) ?_
      refine a_Vv F hml hl.1 hA hP hD hS (As := []) (x_X12_next_85 l dC dI ad cA nF _  hR) (cs_RX12_184 (d := 2) F.2.2.1 (by decide)) tc_85 rfl rfl rfl rfl (Nat.le_of_ble_eq_true rfl) dX12_bookLine_33 ⟨Nat.le_refl 0, Nat.le_refl 0⟩ (fun u50 H locs hq hP hD hS => ?_)
      obtain ⟨hR, hF50, hz50⟩ := hq
      have hF := hF.tr hF50 (by decide)
      have hK_BLI := sp_fr sp_BLI hF50 (by decide) hK_BLI
      have hK_BG := sp_fr sp_BG hF50 (by decide) hK_BG
      have hC := vl_eq hC hz50.symm
      refine lv_aload_n F.1 F.2.1 dX12_bookLine_36 rfl (lv_at hl 1 rfl) ?_
      refine a_ic F (1 : Int32) dX12_bookLine_37 (by decide) ?_
      refine a_bp F (99 : Int32) dX12_bookLine_38 (by decide) ?_
      refine a_Vi F hml hl.1 hA hP hD hS (As := [.int (1 : Int32), .int (99 : Int32)]) (x_X12_takes_85 l dC dI ad cA nF _ (1 : Int32) (99 : Int32) hR (by decide)) (cs_RX12_214 (d := 3) F.2.2.1 (by decide)) tc_85 rfl rfl rfl rfl (Nat.le_of_ble_eq_true rfl) dX12_bookLine_40 ⟨Nat.le_refl 0, Nat.le_refl 0⟩ (fun r51 u51 H locs hq hP hD hS => ?_)
      obtain ⟨hR, hF51, gr51, xr51, hz51⟩ := hq
      have hF := hF.tr hF51 (by decide)
      have hK_BLI := sp_fr sp_BLI hF51 (by decide) hK_BLI
      have hK_BG := sp_fr sp_BG hF51 (by decide) hK_BG
      have xr51 : r51.toInt ≠ 0 → (1 : Int) ≤ (u51.1 85 18).toInt ∧ (u51.1 85 18).toInt ≤ (99 : Int) := xr51
      have hC := bd_eq hC hz51
      refine z_ne F 48 dX12_bookLine_43 (by decide) rfl (fun c52 => ?_) (fun c52 => ?_)
      · have hC := hC.trans (if_pos c52)
        refine lv_aload_n F.1 F.2.1 dX12_bookLine_48 rfl (lv_at hl 1 rfl) ?_
        refine a_getr F inX12 hP 85 8 tc_85 rfl rfl (by decide) q1479 (fun _ h9 => h9) dX12_bookLine_49 ?_
        refine lv_iload_n F.1 F.2.1 dX12_bookLine_52 rfl (lv_at hl 0 rfl) ?_
        refine a_ic F (3 : Int32) dX12_bookLine_53 (by decide) ?_
        refine a_iast F hP hD hS 89 tc_89 rfl (i_in rfl (by omega)) dX12_bookLine_54 (fun H locs hP hD hS => ?_)
        have hR := hR.si (c := 89) (k := v31.toNatClampNeg) (v := (3 : Int32)) ⟨i_lo _, i_hi _⟩
        have hF := hF.si (c := 89) (k := v31.toNatClampNeg) (v := (3 : Int32)) rfl
        have hO_BLI := hK_BLI
        have hO_BG := hK_BG
        have hN_BLA := bx_a hD (t := (u0.1 85 35)) ((hF51 85 35 rfl).trans (hF50 85 35 rfl)) (by omega) (by omega) (by decide)
        have hK_BLI := bx_w hO_BLI (t := (u0.1 85 35)) ((hF51 85 35 rfl).trans (hF50 85 35 rfl)) (i := v31) (v := (3 : Int32)) (by omega) (by omega)
        have hK_BG := bg_w hO_BG (t := (u0.1 85 35)) ((hF51 85 35 rfl).trans (hF50 85 35 rfl)) (i := v31) (v := (3 : Int32)) (by omega) (by omega)
        have hK_BLA := hN_BLA
        refine lv_aload_n F.1 F.2.1 dX12_bookLine_55 rfl (lv_at hl 1 rfl) ?_
        refine a_getr F inX12 hP 85 8 tc_85 rfl rfl (by decide) q1479 (fun _ h9 => h9) dX12_bookLine_56 ?_
        refine lv_iload_n F.1 F.2.1 dX12_bookLine_59 rfl (lv_at hl 0 rfl) ?_
        refine a_ic F (1 : Int32) dX12_bookLine_60 (by decide) ?_
        refine a_iaddX F dX12_bookLine_61 rfl ic_1 (by omega) (fun v53 hv53 yv53 => ?_)
        have hC := vl_eq hC yv53
        refine lv_aload_n F.1 F.2.1 dX12_bookLine_62 rfl (lv_at hl 1 rfl) ?_
        refine a_geti F inX12 hP 85 18 tc_85 rfl rfl (by decide) q1489 (fun _ h9 => h9) (v := (u51.1 85 18)) (rfl) dX12_bookLine_63 ?_
        refine a_iast F hP hD hS 89 tc_89 rfl (i_in rfl (by omega)) dX12_bookLine_66 (fun H locs hP hD hS => ?_)
        have hR := hR.si (c := 89) (k := v53.toNatClampNeg) (v := (u51.1 85 18)) ⟨i_lo _, i_hi _⟩
        have hF := hF.si (c := 89) (k := v53.toNatClampNeg) (v := (u51.1 85 18)) rfl
        have hO_BLI := hK_BLI
        have hO_BG := hK_BG
        have hO_BLA := hK_BLA
        have hN_BLJ := bx_j1 hO_BLI hO_BLA (t := (u0.1 85 35)) ((hF51 85 35 rfl).trans (hF50 85 35 rfl)) (i := v53) (v := (u51.1 85 18)) (by omega) (by omega) (by omega)
        have hN_BH := bg_j1 hO_BG hO_BLA (t := (u0.1 85 35)) ((hF51 85 35 rfl).trans (hF50 85 35 rfl)) (i := v53) (v := (u51.1 85 18)) (by omega) (by omega)
        have hK_BLI := bx_w hO_BLI (t := (u0.1 85 35)) ((hF51 85 35 rfl).trans (hF50 85 35 rfl)) (i := v53) (v := (u51.1 85 18)) (by omega) (by omega)
        have hK_BG := bg_w hO_BG (t := (u0.1 85 35)) ((hF51 85 35 rfl).trans (hF50 85 35 rfl)) (i := v53) (v := (u51.1 85 18)) (by omega) (by omega)
        have hK_BLJ := hN_BLJ
        have hK_BH := hN_BH
        refine a_ic F (1 : Int32) dX12_bookLine_67 (by decide) ?_
        have k54 : (u51.1 85 35).toInt = (u0.1 85 35).toInt := congrArg Int32.toInt (show u51.1 85 35 = (u0.1 85 35) from (hF51 85 35 rfl).trans (hF50 85 35 rfl))
        exact a_retz F hr hlocks hP hD hS dX12_bookLine_68 (Or.inr rfl) ⟨hR, hF, (by decide), (by first | exact (by omega : (1 : Int) ≠ 0 → (u51.1 85 35).toInt ≤ 39) | (rw [ic_1]; exact (by omega : (1 : Int) ≠ 0 → (u51.1 85 35).toInt ≤ 39))), (fun _ => hK_BLJ), (fun _ => hK_BH), hRR.symm.trans hC⟩
      · have hC := hC.trans (if_neg (by omega))
        refine a_ic F (0 : Int32) dX12_bookLine_46 (by decide) ?_
        have k55 : (u51.1 85 35).toInt = (u0.1 85 35).toInt := congrArg Int32.toInt (show u51.1 85 35 = (u0.1 85 35) from (hF51 85 35 rfl).trans (hF50 85 35 rfl))
        exact a_retz F hr hlocks hP hD hS dX12_bookLine_47 (Or.inl rfl) ⟨hR, hF, (by decide), (by first | exact (by omega : (0 : Int) ≠ 0 → (u51.1 85 35).toInt ≤ 39) | (rw [ic_0]; exact (by omega : (0 : Int) ≠ 0 → (u51.1 85 35).toInt ≤ 39))), (fun h9 => absurd (by decide) h9), (fun h9 => absurd (by decide) h9), hRR.symm.trans hC⟩
    · have hC := hC.trans (if_neg (by omega))
      refine lv_aload_n F.1 F.2.1 dX12_bookLine_26 rfl (lv_at hl 1 rfl) ?_
      refine a_ic F (4 : Int32) dX12_bookLine_27 (by decide) ?_
      refine a_Vi F hml hl.1 hA hP hD hS (As := [.int (4 : Int32)]) (x_X12_bad_85 l dC dI ad cA nF _ (4 : Int32) hR (by decide)) (cs_RX12_181 (d := 1) F.2.2.1 (by decide)) tc_85 rfl rfl rfl rfl (Nat.le_of_ble_eq_true rfl) dX12_bookLine_28 ⟨Nat.le_refl 0, Nat.le_refl 0⟩ (fun r56 u56 H locs hq hP hD hS => ?_)
      obtain ⟨hR, hF56, gr56, hz56⟩ := hq
      have hF := hF.tr hF56 (by decide)
      have hK_BLI := sp_fr sp_BLI hF56 (by decide) hK_BLI
      have hK_BG := sp_fr sp_BG hF56 (by decide) hK_BG
      have hC := bd_eq hC hz56
      have k57 : (u56.1 85 35).toInt = (u0.1 85 35).toInt := congrArg Int32.toInt (show u56.1 85 35 = (u0.1 85 35) from hF56 85 35 rfl)
      exact a_retz F hr hlocks hP hD hS dX12_bookLine_31 (i_01 (by omega)) ⟨hR, hF, (by omega : (0 : Int) ≤ r56.toInt ∧ r56.toInt ≤ 1), (by omega : r56.toInt ≠ 0 → (u56.1 85 35).toInt ≤ 39), (fun h9 => absurd (by omega : r56.toInt = 0) h9), (fun h9 => absurd (by omega : r56.toInt = 0) h9), hRR.symm.trans hC⟩

def f_X12_goes_85 (u0 : ac_U) (p0 : Int32) (p1 : Int32) : ac_U := (vl ((107 : Int32) + p0) (fun (v2 : Int32) => (vl ((111 : Int32) + p0) (fun (v5 : Int32) => (vl ((119 : Int32) + p0) (fun (v6 : Int32) => (vl ((pI (pI u0 87 v2.toNatClampNeg p1) 87 v5.toNatClampNeg (1 : Int32)).1 87 v6.toNatClampNeg) (fun (v7 : Int32) => (vl (v7 + (1 : Int32)) (fun (v8 : Int32) => (pI (pI (pI u0 87 v2.toNatClampNeg p1) 87 v5.toNatClampNeg (1 : Int32)) 87 v6.toNatClampNeg v8)))))))))))
set_option maxHeartbeats 600000 in
set_option maxRecDepth 100000 in
theorem x_X12_goes_85 (l : Launch) (dC : Nat → ClassId) (dI : Nat → Nat → Nat) (ad : Nat → Nat) (cA : Nat → ClassId) (nF : Nat) (u0 : ac_U) (p0 : Int32) (p1 : Int32) (hR : ac_R rg u0) (hp0 : (0 : Int) ≤ p0.toInt ∧ p0.toInt ≤ 3) (hp1 : (0 : Int) ≤ p1.toInt ∧ p1.toInt ≤ 7) (hg0 : p1.toInt < (u0.1 87 1).toInt) (hK_AP : apI u0) : ac_Mv l yX12_goes (.code yX12_goes cX12_goes 3 none :: TB) 1 (dC, dI) vwCl (ac_ty cA) ad cA (TT nF) [.ref (ad 85), .int p0, .int p1] u0 (fun (u : ac_U) => ac_R rg u ∧ ac_Fr [(87, none)] u0 u ∧ ((u.1 87 106).toInt = (u0.1 87 106).toInt ∧ (u.1 87 0).toInt = (u0.1 87 0).toInt) ∧ apI u ∧ (msI u0 → msI u) ∧ (cdI u0 → cdI u) ∧ (unI u0 → unI u) ∧ (bfI u0 → bfI u) ∧ (auI u0 → auI u) ∧ (abI u0 → abI u) ∧ (bgI u0 → bgI u) ∧ (hxI u0 → hxI u) ∧ f_X12_goes_85 u0 p0 p1 = u) := by
  refine ac_Mv.of (cc := cX12_goes) (maxL := 3) (ret := none) (by decide) rfl (Nat.le_of_ble_eq_true rfl) ?_
  intro p e s m below meth c A ls F hml hr hlocks hA hP hD hS hl
  have F : ac_X p s m [.ref (ad 85), .int p0, .int p1].toArray c cX12_goes RX12 TB (dC, dI) vwCl (ac_ty cA) := ⟨F.1, F.2.1, fun w h => F.2.2.1 w (List.mem_cons_of_mem _ h), F.2.2.2.1, F.2.2.2.2⟩
  have hl : lv_has ls 3 [(0, .ref (ad 85)), (1, .int p0), (2, .int p1)] := hl
  obtain ⟨RR, hRR⟩ : ∃ q, q = f_X12_goes_85 u0 p0 p1 := ⟨_, rfl⟩
  have hF : ac_Fr [(87, none)] u0 u0 := ac_Fr.rf
  have hK_i_MS : (fun u => msI u0 → msI u) u0 := fun h => h
  have hK_i_CW : (fun u => cdI u0 → cdI u) u0 := fun h => h
  have hK_i_UI : (fun u => unI u0 → unI u) u0 := fun h => h
  have hK_i_BI : (fun u => bfI u0 → bfI u) u0 := fun h => h
  have hK_i_AU : (fun u => auI u0 → auI u) u0 := fun h => h
  have hK_i_AB : (fun u => abI u0 → abI u) u0 := fun h => h
  have hK_i_BG : (fun u => bgI u0 → bgI u) u0 := fun h => h
  have hK_i_HX : (fun u => hxI u0 → hxI u) u0 := fun h => h
  have hC : RR = f_X12_goes_85 u0 p0 p1 := hRR
  unfold f_X12_goes_85 at hC
  have hg9 : 0 ≤ (u0.1 87 1).toInt ∧ (u0.1 87 1).toInt ≤ 8 := hR 87 1
  refine lv_aload_n F.1 F.2.1 dX12_goes_0 rfl (lv_at hl 0 rfl) ?_
  refine a_getr F inX12 hP 85 6 tc_85 rfl rfl (by decide) q1477 (fun _ h9 => h9) dX12_goes_1 ?_
  refine a_bp F (107 : Int32) dX12_goes_4 (by decide) ?_
  refine lv_iload_n F.1 F.2.1 dX12_goes_6 rfl (lv_at hl 1 rfl) ?_
  refine a_iaddX F dX12_goes_7 ic_107 rfl (by omega) (fun v2 hv2 yv2 => ?_)
  have hC := vl_eq hC yv2
  refine lv_iload_n F.1 F.2.1 dX12_goes_8 rfl (lv_at hl 2 rfl) ?_
  have g3 : (4 : Int) ≤ (u0.1 87 0).toInt ∧ (u0.1 87 0).toInt ≤ 24 := hR 87 0
  have g4 : (0 : Int) ≤ (u0.1 87 106).toInt ∧ (u0.1 87 106).toInt ≤ 480 := hR 87 106
  refine a_iast F hP hD hS 87 tc_87 rfl (i_in rfl (by omega)) dX12_goes_9 (fun H locs hP hD hS => ?_)
  have hR := hR.si (c := 87) (k := v2.toNatClampNeg) (v := p1) (rs_87_107_110 (by omega) (by omega : (0 : Int) ≤ p1.toInt ∧ p1.toInt ≤ 7))
  have hF := hF.si (c := 87) (k := v2.toNatClampNeg) (v := p1) rfl
  have hO_AP := hK_AP
  have hO_i_MS := hK_i_MS
  have hO_i_CW := hK_i_CW
  have hO_i_UI := hK_i_UI
  have hO_i_BI := hK_i_BI
  have hO_i_AU := hK_i_AU
  have hO_i_AB := hK_i_AB
  have hO_i_BG := hK_i_BG
  have hO_i_HX := hK_i_HX
  have hK_AP := ap_w hO_AP (i := v2) (v := p1) (by omega) (fun _ => at_lt (rfl) (by omega))
  have hK_i_MS := sp_si (sp_imp sp_MS) hK_i_MS (c := 87) (k := v2.toNatClampNeg) (v := p1) (fun j9 h9 => by have q8 := sp_mem h9; simp at q8; have q9 := i_cl (x := v2) (by omega); omega)
  have hK_i_CW := sp_si (sp_imp sp_CW) hK_i_CW (c := 87) (k := v2.toNatClampNeg) (v := p1) (fun j9 h9 => by have q8 := sp_mem h9; simp at q8; have q9 := i_cl (x := v2) (by omega); omega)
  have hK_i_UI := sp_si (sp_imp sp_UI) hK_i_UI (c := 87) (k := v2.toNatClampNeg) (v := p1) (fun j9 h9 => by have q8 := sp_mem h9; simp at q8; have q9 := i_cl (x := v2) (by omega); omega)
  have hK_i_BI := sp_si (sp_imp sp_BI) hK_i_BI (c := 87) (k := v2.toNatClampNeg) (v := p1) (fun j9 h9 => by have q8 := sp_mem h9; simp at q8; have q9 := i_cl (x := v2) (by omega); omega)
  have hK_i_AU := sp_si (sp_imp sp_AU) hK_i_AU (c := 87) (k := v2.toNatClampNeg) (v := p1) (fun j9 h9 => by have q8 := sp_mem h9; simp at q8; have q9 := i_cl (x := v2) (by omega); omega)
  have hK_i_AB := sp_si (sp_imp sp_AB) hK_i_AB (c := 87) (k := v2.toNatClampNeg) (v := p1) (fun j9 h9 => by have q8 := sp_mem h9; simp at q8; have q9 := i_cl (x := v2) (by omega); omega)
  have hK_i_BG := sp_si (sp_imp sp_BG) hK_i_BG (c := 87) (k := v2.toNatClampNeg) (v := p1) (fun j9 h9 => by have q8 := sp_mem h9; simp at q8; have q9 := i_cl (x := v2) (by omega); omega)
  have hK_i_HX := sp_si (sp_imp sp_HX) hK_i_HX (c := 87) (k := v2.toNatClampNeg) (v := p1) (fun j9 h9 => by have q8 := sp_mem h9; simp at q8; have q9 := i_cl (x := v2) (by omega); omega)
  refine lv_aload_n F.1 F.2.1 dX12_goes_10 rfl (lv_at hl 0 rfl) ?_
  refine a_getr F inX12 hP 85 6 tc_85 rfl rfl (by decide) q1477 (fun _ h9 => h9) dX12_goes_11 ?_
  refine a_bp F (111 : Int32) dX12_goes_14 (by decide) ?_
  refine lv_iload_n F.1 F.2.1 dX12_goes_16 rfl (lv_at hl 1 rfl) ?_
  refine a_iaddX F dX12_goes_17 ic_111 rfl (by omega) (fun v5 hv5 yv5 => ?_)
  have hC := vl_eq hC yv5
  refine a_ic F (1 : Int32) dX12_goes_18 (by decide) ?_
  refine a_iast F hP hD hS 87 tc_87 rfl (i_in rfl (by omega)) dX12_goes_19 (fun H locs hP hD hS => ?_)
  have hR := hR.si (c := 87) (k := v5.toNatClampNeg) (v := (1 : Int32)) (rs_87_111_114 (by omega) ⟨i_lo _, i_hi _⟩)
  have hF := hF.si (c := 87) (k := v5.toNatClampNeg) (v := (1 : Int32)) rfl
  have hK_AP := sp_si sp_AP hK_AP (c := 87) (k := v5.toNatClampNeg) (v := (1 : Int32)) (fun j9 h9 => by have q8 := sp_mem h9; simp at q8; have q9 := i_cl (x := v5) (by omega); omega)
  have hK_i_MS := sp_si (sp_imp sp_MS) hK_i_MS (c := 87) (k := v5.toNatClampNeg) (v := (1 : Int32)) (fun j9 h9 => by have q8 := sp_mem h9; simp at q8; have q9 := i_cl (x := v5) (by omega); omega)
  have hK_i_CW := sp_si (sp_imp sp_CW) hK_i_CW (c := 87) (k := v5.toNatClampNeg) (v := (1 : Int32)) (fun j9 h9 => by have q8 := sp_mem h9; simp at q8; have q9 := i_cl (x := v5) (by omega); omega)
  have hK_i_UI := sp_si (sp_imp sp_UI) hK_i_UI (c := 87) (k := v5.toNatClampNeg) (v := (1 : Int32)) (fun j9 h9 => by have q8 := sp_mem h9; simp at q8; have q9 := i_cl (x := v5) (by omega); omega)
  have hK_i_BI := sp_si (sp_imp sp_BI) hK_i_BI (c := 87) (k := v5.toNatClampNeg) (v := (1 : Int32)) (fun j9 h9 => by have q8 := sp_mem h9; simp at q8; have q9 := i_cl (x := v5) (by omega); omega)
  have hK_i_AU := sp_si (sp_imp sp_AU) hK_i_AU (c := 87) (k := v5.toNatClampNeg) (v := (1 : Int32)) (fun j9 h9 => by have q8 := sp_mem h9; simp at q8; have q9 := i_cl (x := v5) (by omega); omega)
  have hK_i_AB := sp_si (sp_imp sp_AB) hK_i_AB (c := 87) (k := v5.toNatClampNeg) (v := (1 : Int32)) (fun j9 h9 => by have q8 := sp_mem h9; simp at q8; have q9 := i_cl (x := v5) (by omega); omega)
  have hK_i_BG := sp_si (sp_imp sp_BG) hK_i_BG (c := 87) (k := v5.toNatClampNeg) (v := (1 : Int32)) (fun j9 h9 => by have q8 := sp_mem h9; simp at q8; have q9 := i_cl (x := v5) (by omega); omega)
  have hK_i_HX := sp_si (sp_imp sp_HX) hK_i_HX (c := 87) (k := v5.toNatClampNeg) (v := (1 : Int32)) (fun j9 h9 => by have q8 := sp_mem h9; simp at q8; have q9 := i_cl (x := v5) (by omega); omega)
  refine lv_aload_n F.1 F.2.1 dX12_goes_20 rfl (lv_at hl 0 rfl) ?_
  refine a_getr F inX12 hP 85 6 tc_85 rfl rfl (by decide) q1477 (fun _ h9 => h9) dX12_goes_21 ?_
  refine a_bp F (119 : Int32) dX12_goes_24 (by decide) ?_
  refine lv_iload_n F.1 F.2.1 dX12_goes_26 rfl (lv_at hl 1 rfl) ?_
  refine a_iaddX F dX12_goes_27 ic_119 rfl (by omega) (fun v6 hv6 yv6 => ?_)
  have hC := vl_eq hC yv6
  refine lv_dup2_11 F.1 F.2.1 dX12_goes_28 rfl rfl ?_
  refine a_iald F hP 87 tc_87 rfl (i_in rfl (by omega)) dX12_goes_29 (fun v7 ev7 => ?_)
  have hC := vl_eq hC ev7.symm
  refine a_ic F (1 : Int32) dX12_goes_30 (by decide) ?_
  refine a_iaddUX F dX12_goes_31 (fun v8 yv8 => ?_)
  have hC := vl_eq hC yv8
  refine a_iast F hP hD hS 87 tc_87 rfl (i_in rfl (by omega)) dX12_goes_32 (fun H locs hP hD hS => ?_)
  have hR := hR.si (c := 87) (k := v6.toNatClampNeg) (v := v8) (rs_87_119_122 (by omega) ⟨i_lo _, i_hi _⟩)
  have hF := hF.si (c := 87) (k := v6.toNatClampNeg) (v := v8) rfl
  have hK_AP := sp_si sp_AP hK_AP (c := 87) (k := v6.toNatClampNeg) (v := v8) (fun j9 h9 => by have q8 := sp_mem h9; simp at q8; have q9 := i_cl (x := v6) (by omega); omega)
  have hK_i_MS := sp_si (sp_imp sp_MS) hK_i_MS (c := 87) (k := v6.toNatClampNeg) (v := v8) (fun j9 h9 => by have q8 := sp_mem h9; simp at q8; have q9 := i_cl (x := v6) (by omega); omega)
  have hK_i_CW := sp_si (sp_imp sp_CW) hK_i_CW (c := 87) (k := v6.toNatClampNeg) (v := v8) (fun j9 h9 => by have q8 := sp_mem h9; simp at q8; have q9 := i_cl (x := v6) (by omega); omega)
  have hK_i_UI := sp_si (sp_imp sp_UI) hK_i_UI (c := 87) (k := v6.toNatClampNeg) (v := v8) (fun j9 h9 => by have q8 := sp_mem h9; simp at q8; have q9 := i_cl (x := v6) (by omega); omega)
  have hK_i_BI := sp_si (sp_imp sp_BI) hK_i_BI (c := 87) (k := v6.toNatClampNeg) (v := v8) (fun j9 h9 => by have q8 := sp_mem h9; simp at q8; have q9 := i_cl (x := v6) (by omega); omega)
  have hK_i_AU := sp_si (sp_imp sp_AU) hK_i_AU (c := 87) (k := v6.toNatClampNeg) (v := v8) (fun j9 h9 => by have q8 := sp_mem h9; simp at q8; have q9 := i_cl (x := v6) (by omega); omega)
  have hK_i_AB := sp_si (sp_imp sp_AB) hK_i_AB (c := 87) (k := v6.toNatClampNeg) (v := v8) (fun j9 h9 => by have q8 := sp_mem h9; simp at q8; have q9 := i_cl (x := v6) (by omega); omega)
  have hK_i_BG := sp_si (sp_imp sp_BG) hK_i_BG (c := 87) (k := v6.toNatClampNeg) (v := v8) (fun j9 h9 => by have q8 := sp_mem h9; simp at q8; have q9 := i_cl (x := v6) (by omega); omega)
  have hK_i_HX := sp_si (sp_imp sp_HX) hK_i_HX (c := 87) (k := v6.toNatClampNeg) (v := v8) (fun j9 h9 => by have q8 := sp_mem h9; simp at q8; have q9 := i_cl (x := v6) (by omega); omega)
  exact a_retv F hr hlocks hP hD hS dX12_goes_33 ⟨hR, hF, ⟨congrArg Int32.toInt ((ac_ne (c := 87) (k := 106) (i := v6) (by have q9 := i_cl (x := v6) (by omega); omega)).trans ((ac_ne (c := 87) (k := 106) (i := v5) (by have q9 := i_cl (x := v5) (by omega); omega)).trans (ac_ne (c := 87) (k := 106) (i := v2) (by have q9 := i_cl (x := v2) (by omega); omega)))), congrArg Int32.toInt ((ac_ne (c := 87) (k := 0) (i := v6) (by have q9 := i_cl (x := v6) (by omega); omega)).trans ((ac_ne (c := 87) (k := 0) (i := v5) (by have q9 := i_cl (x := v5) (by omega); omega)).trans (ac_ne (c := 87) (k := 0) (i := v2) (by have q9 := i_cl (x := v2) (by omega); omega))))⟩, hK_AP, hK_i_MS, hK_i_CW, hK_i_UI, hK_i_BI, hK_i_AU, hK_i_AB, hK_i_BG, hK_i_HX, hRR.symm.trans hC⟩
def K_X12_hour_85_13_b (B13 : ac_U → Int32 → ac_U) (u0 : ac_U) (u : ac_U) (x1 : Int32) : ac_U := (if (4 : Int) ≤ x1.toInt then u else (vl ((111 : Int32) + x1) (fun (v4 : Int32) => (vl (x1 + Int32.ofInt (1)) (fun (v7 : Int32) => (B13 (pI u 87 v4.toNatClampNeg (0 : Int32)) v7))))))
def K_X12_hour_85_13 (u0 : ac_U) : Nat → ac_U → Int32 → ac_U
  | 0 => fun u x1 => u
  | n + 1 => fun u x1 => K_X12_hour_85_13_b (K_X12_hour_85_13 u0 n) u0 u x1
def f_X12_hour_85 (u0 : ac_U) : ac_U := (vl ((u0.1 87 106) + (1 : Int32)) (fun (v9 : Int32) => (K_X12_hour_85_13 u0 6 (pI u0 87 106 v9) (0 : Int32))))
set_option maxHeartbeats 600000 in
set_option maxRecDepth 100000 in
theorem x_X12_hour_85 (l : Launch) (dC : Nat → ClassId) (dI : Nat → Nat → Nat) (ad : Nat → Nat) (cA : Nat → ClassId) (nF : Nat) (u0 : ac_U)  (hR : ac_R rg u0) (hf_87_106 : (0 : Int) ≤ (u0.1 87 106).toInt ∧ (u0.1 87 106).toInt ≤ 479) (hr0 : (u0.1 87 106).toInt < 20 * (u0.1 87 0).toInt) (hK_MS : msI u0) : ac_Mv l yX12_hour (.code yX12_hour cX12_hour 2 none :: TB) 1 (dC, dI) vwCl (ac_ty cA) ad cA (TT nF) [.ref (ad 85)] u0 (fun (u : ac_U) => ac_R rg u ∧ ac_Fr [(87, none)] u0 u ∧ ((u.1 87 106).toInt = (u0.1 87 106).toInt + 1 ∧ (u.1 87 0).toInt = (u0.1 87 0).toInt) ∧ msI u ∧ (cdI u0 → cdI u) ∧ (unI u0 → unI u) ∧ (bfI u0 → bfI u) ∧ (apI u0 → apI u) ∧ (auI u0 → auI u) ∧ (abI u0 → abI u) ∧ (bgI u0 → bgI u) ∧ (hxI u0 → hxI u) ∧ f_X12_hour_85 u0 = u) := by
  refine ac_Mv.of (cc := cX12_hour) (maxL := 2) (ret := none) (by decide) rfl (Nat.le_of_ble_eq_true rfl) ?_
  intro p e s m below meth c A ls F hml hr hlocks hA hP hD hS hl
  have F : ac_X p s m [.ref (ad 85)].toArray c cX12_hour RX12 TB (dC, dI) vwCl (ac_ty cA) := ⟨F.1, F.2.1, fun w h => F.2.2.1 w (List.mem_cons_of_mem _ h), F.2.2.2.1, F.2.2.2.2⟩
  have hl : lv_has ls 2 [(0, .ref (ad 85))] := hl
  obtain ⟨RR, hRR⟩ : ∃ q, q = f_X12_hour_85 u0 := ⟨_, rfl⟩
  have hF : ac_Fr [(87, none)] u0 u0 := ac_Fr.rf
  have hK_i_CW : (fun u => cdI u0 → cdI u) u0 := fun h => h
  have hK_i_UI : (fun u => unI u0 → unI u) u0 := fun h => h
  have hK_i_BI : (fun u => bfI u0 → bfI u) u0 := fun h => h
  have hK_i_AP : (fun u => apI u0 → apI u) u0 := fun h => h
  have hK_i_AU : (fun u => auI u0 → auI u) u0 := fun h => h
  have hK_i_AB : (fun u => abI u0 → abI u) u0 := fun h => h
  have hK_i_BG : (fun u => bgI u0 → bgI u) u0 := fun h => h
  have hK_i_HX : (fun u => hxI u0 → hxI u) u0 := fun h => h
  have L13 : ∀ (n13 : Nat) (x1 : Int32) (u : ac_U) (H : Heap) (locs : List Loc) (ls : Array Slot), ac_R rg u → ac_Fr [(87, none)] u0 u → 4 - x1.toInt < (n13 : Int) → msI u → (fun u => cdI u0 → cdI u) u → (fun u => unI u0 → unI u) u → (fun u => bfI u0 → bfI u) u → (fun u => apI u0 → apI u) u → (fun u => auI u0 → auI u) u → (fun u => abI u0 → abI u) u → (fun u => bgI u0 → bgI u) u → (fun u => hxI u0 → hxI u) u → (0 : Int) ≤ x1.toInt ∧ x1.toInt ≤ 4 → (1 : Int) ≤ (u.1 87 106).toInt ∧ (u.1 87 106).toInt ≤ 480 → (u.1 87 106).toInt = (u0.1 87 106).toInt + 1 → (u.1 87 0).toInt = (u0.1 87 0).toInt → RR = (K_X12_hour_85_13 u0 n13 u x1) → va_P (dC, dI) vwCl (ac_w ad cA (TT nF) u) H → va_D A (ac_w ad cA (TT nF) u) → va_S A s.heap H locs → lv_has ls 2 [(0, .ref (ad 85)), (1, .int x1)] → W p l e (ac_rm 1) s m [.ref (ad 85)].toArray below meth c H locs 0 0 (MQ below (va_Qv (fun (u : ac_U) => ac_R rg u ∧ ac_Fr [(87, none)] u0 u ∧ ((u.1 87 106).toInt = (u0.1 87 106).toInt + 1 ∧ (u.1 87 0).toInt = (u0.1 87 0).toInt) ∧ msI u ∧ (cdI u0 → cdI u) ∧ (unI u0 → unI u) ∧ (bfI u0 → bfI u) ∧ (apI u0 → apI u) ∧ (auI u0 → auI u) ∧ (abI u0 → abI u) ∧ (bgI u0 → bgI u) ∧ (hxI u0 → hxI u) ∧ f_X12_hour_85 u0 = u) (ac_B (dC, dI) vwCl (ac_ty cA) ad cA (TT nF) A) A) [.ref (ad 85)].toArray s 0 0 A) (F0 m 13 ls []) := by
    intro n13
    induction n13 with
    | zero => intro x1 u H locs ls hR hF hn13 hK_MS hK_i_CW hK_i_UI hK_i_BI hK_i_AP hK_i_AU hK_i_AB hK_i_BG hK_i_HX f0 f1 f2 f3 hC hP hD hS hl; exfalso; omega
    | succ n13 ih13 =>
      intro x1 u H locs ls hR hF hn13 hK_MS hK_i_CW hK_i_UI hK_i_BI hK_i_AP hK_i_AU hK_i_AB hK_i_BG hK_i_HX f0 f1 f2 f3 hC hP hD hS hl
      have hC : RR = K_X12_hour_85_13_b (K_X12_hour_85_13 u0 n13) u0 u x1 := hC
      unfold K_X12_hour_85_13_b at hC
      refine lv_iload_n F.1 F.2.1 dX12_hour_13 rfl (lv_at hl 1 rfl) ?_
      refine a_ic F (4 : Int32) dX12_hour_14 (by decide) ?_
      refine b_ge F 34 dX12_hour_15 (by decide) rfl ic_4 (fun c1 => ?_) (fun c1 => ?_)
      · have hC := hC.trans (if_pos c1)
        have g2 : (0 : Int) ≤ (u.1 87 106).toInt ∧ (u.1 87 106).toInt ≤ 480 := hR 87 106
        have g3 : (4 : Int) ≤ (u.1 87 0).toInt ∧ (u.1 87 0).toInt ≤ 24 := hR 87 0
        exact a_retv F hr hlocks hP hD hS dX12_hour_34 ⟨hR, hF, (by omega : (u.1 87 106).toInt = (u0.1 87 106).toInt + 1 ∧ (u.1 87 0).toInt = (u0.1 87 0).toInt), hK_MS, hK_i_CW, hK_i_UI, hK_i_BI, hK_i_AP, hK_i_AU, hK_i_AB, hK_i_BG, hK_i_HX, hRR.symm.trans hC⟩
      · have hC := hC.trans (if_neg (by omega))
        refine lv_aload_n F.1 F.2.1 dX12_hour_18 rfl (lv_at hl 0 rfl) ?_
        refine a_getr F inX12 hP 85 6 tc_85 rfl rfl (by decide) q1477 (fun _ h9 => h9) dX12_hour_19 ?_
        refine a_bp F (111 : Int32) dX12_hour_22 (by decide) ?_
        refine lv_iload_n F.1 F.2.1 dX12_hour_24 rfl (lv_at hl 1 rfl) ?_
        refine a_iaddX F dX12_hour_25 ic_111 rfl (by omega) (fun v4 hv4 yv4 => ?_)
        have hC := vl_eq hC yv4
        refine a_ic F (0 : Int32) dX12_hour_26 (by decide) ?_
        have g5 : (0 : Int) ≤ (u.1 87 106).toInt ∧ (u.1 87 106).toInt ≤ 480 := hR 87 106
        have g6 : (4 : Int) ≤ (u.1 87 0).toInt ∧ (u.1 87 0).toInt ≤ 24 := hR 87 0
        refine a_iast F hP hD hS 87 tc_87 rfl (i_in rfl (by omega)) dX12_hour_27 (fun H locs hP hD hS => ?_)
        have hR := hR.si (c := 87) (k := v4.toNatClampNeg) (v := (0 : Int32)) (rs_87_111_114 (by omega) ⟨i_lo _, i_hi _⟩)
        have hF := hF.si (c := 87) (k := v4.toNatClampNeg) (v := (0 : Int32)) rfl
        have hK_MS := sp_si sp_MS hK_MS (c := 87) (k := v4.toNatClampNeg) (v := (0 : Int32)) (fun j9 h9 => by have q8 := sp_mem h9; simp at q8; have q9 := i_cl (x := v4) (by omega); omega)
        have hK_i_CW := sp_si (sp_imp sp_CW) hK_i_CW (c := 87) (k := v4.toNatClampNeg) (v := (0 : Int32)) (fun j9 h9 => by have q8 := sp_mem h9; simp at q8; have q9 := i_cl (x := v4) (by omega); omega)
        have hK_i_UI := sp_si (sp_imp sp_UI) hK_i_UI (c := 87) (k := v4.toNatClampNeg) (v := (0 : Int32)) (fun j9 h9 => by have q8 := sp_mem h9; simp at q8; have q9 := i_cl (x := v4) (by omega); omega)
        have hK_i_BI := sp_si (sp_imp sp_BI) hK_i_BI (c := 87) (k := v4.toNatClampNeg) (v := (0 : Int32)) (fun j9 h9 => by have q8 := sp_mem h9; simp at q8; have q9 := i_cl (x := v4) (by omega); omega)
        have hK_i_AP := sp_si (sp_imp sp_AP) hK_i_AP (c := 87) (k := v4.toNatClampNeg) (v := (0 : Int32)) (fun j9 h9 => by have q8 := sp_mem h9; simp at q8; have q9 := i_cl (x := v4) (by omega); omega)
        have hK_i_AU := sp_si (sp_imp sp_AU) hK_i_AU (c := 87) (k := v4.toNatClampNeg) (v := (0 : Int32)) (fun j9 h9 => by have q8 := sp_mem h9; simp at q8; have q9 := i_cl (x := v4) (by omega); omega)
        have hK_i_AB := sp_si (sp_imp sp_AB) hK_i_AB (c := 87) (k := v4.toNatClampNeg) (v := (0 : Int32)) (fun j9 h9 => by have q8 := sp_mem h9; simp at q8; have q9 := i_cl (x := v4) (by omega); omega)
        have hK_i_BG := sp_si (sp_imp sp_BG) hK_i_BG (c := 87) (k := v4.toNatClampNeg) (v := (0 : Int32)) (fun j9 h9 => by have q8 := sp_mem h9; simp at q8; have q9 := i_cl (x := v4) (by omega); omega)
        have hK_i_HX := sp_si (sp_imp sp_HX) hK_i_HX (c := 87) (k := v4.toNatClampNeg) (v := (0 : Int32)) (fun j9 h9 => by have q8 := sp_mem h9; simp at q8; have q9 := i_cl (x := v4) (by omega); omega)
        refine a_iincX F (k := 1) (fun v7 => [(1, .int v7), (0, .ref (ad 85))]) dX12_hour_28 hl rfl rfl (by decide) (by omega) (by decide) (fun _ => rfl) (fun v7 ls hv7 yv7 hl => ?_)
        have hC := vl_eq hC yv7
        refine lv_goto (tgt := 13) F.1 F.2.1 dX12_hour_31 (by decide) ?_
        exact ih13 v7 _ _ _ _ hR hF (by omega) hK_MS hK_i_CW hK_i_UI hK_i_BI hK_i_AP hK_i_AU hK_i_AB hK_i_BG hK_i_HX (by omega) (i_trB (ac_ne (c := 87) (k := 106) (i := v4) (by have q9 := i_cl (x := v4) (by omega); omega)) (by omega : (1 : Int) ≤ (u.1 87 106).toInt ∧ (u.1 87 106).toInt ≤ 480)) (by rw [ac_ne (c := 87) (k := 106) (i := v4) (by have q9 := i_cl (x := v4) (by omega); omega)]; exact (by omega : (u.1 87 106).toInt = (u0.1 87 106).toInt + 1)) (by rw [ac_ne (c := 87) (k := 0) (i := v4) (by have q9 := i_cl (x := v4) (by omega); omega)]; exact (by omega : (u.1 87 0).toInt = (u0.1 87 0).toInt)) hC hP hD hS (lv_sub hl [1, 0] rfl)
  have hC : RR = f_X12_hour_85 u0 := hRR
  unfold f_X12_hour_85 at hC
  refine lv_aload_n F.1 F.2.1 dX12_hour_0 rfl (lv_at hl 0 rfl) ?_
  refine a_getr F inX12 hP 85 6 tc_85 rfl rfl (by decide) q1477 (fun _ h9 => h9) dX12_hour_1 ?_
  refine a_bp F (106 : Int32) dX12_hour_4 (by decide) ?_
  refine lv_dup2_11 F.1 F.2.1 dX12_hour_6 rfl rfl ?_
  have g8 : (0 : Int) ≤ (u0.1 87 106).toInt ∧ (u0.1 87 106).toInt ≤ 480 := hR 87 106
  refine a_ialdK F hP 87 106 tc_87 rfl rfl (i_in ic_106 (by omega)) (v := (u0.1 87 106)) rfl dX12_hour_7 ?_
  refine a_ic F (1 : Int32) dX12_hour_8 (by decide) ?_
  refine a_iaddX F dX12_hour_9 rfl ic_1 (by omega) (fun v9 hv9 yv9 => ?_)
  have hC := vl_eq hC yv9
  refine a_iastK F hP hD hS 87 106 tc_87 rfl rfl (i_in ic_106 (by omega)) dX12_hour_10 (fun H locs hP hD hS => ?_)
  have hR := hR.si (c := 87) (k := 106) (v := v9) (by omega : (0 : Int) ≤ v9.toInt ∧ v9.toInt ≤ 480)
  have hF := hF.si (c := 87) (k := 106) (v := v9) rfl
  have hO_MS := hK_MS
  have hO_i_CW := hK_i_CW
  have hO_i_UI := hK_i_UI
  have hO_i_BI := hK_i_BI
  have hO_i_AP := hK_i_AP
  have hO_i_AU := hK_i_AU
  have hO_i_AB := hK_i_AB
  have hO_i_BG := hK_i_BG
  have hO_i_HX := hK_i_HX
  have hK_MS := ms_t hO_MS (v := v9) (by omega)
  have hK_i_CW := sp_si (sp_imp sp_CW) hK_i_CW (c := 87) (k := 106) (v := v9) (fun j9 h9 q9 => by rw [q9] at h9; exact absurd h9 (by decide))
  have hK_i_UI := sp_si (sp_imp sp_UI) hK_i_UI (c := 87) (k := 106) (v := v9) (fun j9 h9 q9 => by rw [q9] at h9; exact absurd h9 (by decide))
  have hK_i_BI := sp_si (sp_imp sp_BI) hK_i_BI (c := 87) (k := 106) (v := v9) (fun j9 h9 q9 => by rw [q9] at h9; exact absurd h9 (by decide))
  have hK_i_AP := sp_si (sp_imp sp_AP) hK_i_AP (c := 87) (k := 106) (v := v9) (fun j9 h9 q9 => by rw [q9] at h9; exact absurd h9 (by decide))
  have hK_i_AU := sp_si (sp_imp sp_AU) hK_i_AU (c := 87) (k := 106) (v := v9) (fun j9 h9 q9 => by rw [q9] at h9; exact absurd h9 (by decide))
  have hK_i_AB := sp_si (sp_imp sp_AB) hK_i_AB (c := 87) (k := 106) (v := v9) (fun j9 h9 q9 => by rw [q9] at h9; exact absurd h9 (by decide))
  have hK_i_BG := sp_si (sp_imp sp_BG) hK_i_BG (c := 87) (k := 106) (v := v9) (fun j9 h9 q9 => by rw [q9] at h9; exact absurd h9 (by decide))
  have hK_i_HX := sp_si (sp_imp sp_HX) hK_i_HX (c := 87) (k := 106) (v := v9) (fun j9 h9 q9 => by rw [q9] at h9; exact absurd h9 (by decide))
  refine a_ic F (0 : Int32) dX12_hour_11 (by decide) ?_
  refine lv_istore_n (lv' := [(1, .int (0 : Int32)), (0, .ref (ad 85))]) F.1 F.2.1 dX12_hour_12 rfl hl (by decide) rfl (fun ls hl => ?_)
  have g10 : (4 : Int) ≤ (u0.1 87 0).toInt ∧ (u0.1 87 0).toInt ≤ 24 := hR 87 0
  exact L13 6 (0 : Int32) _ _ _ _ hR hF (by decide) hK_MS hK_i_CW hK_i_UI hK_i_BI hK_i_AP hK_i_AU hK_i_AB hK_i_BG hK_i_HX (by decide) (by omega : (1 : Int) ≤ v9.toInt ∧ v9.toInt ≤ 480) (by omega : v9.toInt = (u0.1 87 106).toInt + 1) (by omega : (u0.1 87 0).toInt = (u0.1 87 0).toInt) hC hP hD hS (lv_sub hl [1, 0] rfl)

set_option maxHeartbeats 600000 in
set_option maxRecDepth 100000 in
theorem c_X12_isDue_85_f (l : Launch) (dC : Nat → ClassId) (dI : Nat → Nat → Nat) (ad : Nat → Nat) (cA : Nat → ClassId) (nF : Nat) (u0 : ac_U) (p0 : Int32) (p1 : Int32) (hR : ac_R rg u0) (hp0 : (0 : Int) ≤ p0.toInt ∧ p0.toInt ≤ 7) (hp1 : (0 : Int) ≤ p1.toInt ∧ p1.toInt ≤ 0) : ac_Mi l yX12_isDue (.code yX12_isDue cX12_isDue 4 (some .boolean) :: TB) 4 (dC, dI) vwCl (ac_ty cA) ad cA (TT nF) [.ref (ad 85), .int p0, .int p1] u0 (fun (r : Int32) (u : ac_U) => u = u0 ∧ ((0 : Int) ≤ r.toInt ∧ r.toInt ≤ 1) ∧ (r.toInt = idS u0 p0.toInt)) := by
  refine ac_Mi.of (cc := cX12_isDue) (maxL := 4) (ret := (some .boolean)) (by decide) rfl (Nat.le_of_ble_eq_true rfl) ?_
  intro p e s m below meth c A ls F hml hr hlocks hA hP hD hS hl
  have F : ac_X p s m [.ref (ad 85), .int p0, .int p1].toArray c cX12_isDue RX12 TB (dC, dI) vwCl (ac_ty cA) := ⟨F.1, F.2.1, fun w h => F.2.2.1 w (List.mem_cons_of_mem _ h), F.2.2.2.1, F.2.2.2.2⟩
  have hl : lv_has ls 4 [(0, .ref (ad 85)), (1, .int p0), (2, .int p1)] := hl
  refine lv_aload_n F.1 F.2.1 dX12_isDue_0 rfl (lv_at hl 0 rfl) ?_
  refine lv_iload_n F.1 F.2.1 dX12_isDue_1 rfl (lv_at hl 1 rfl) ?_
  refine lv_iload_n F.1 F.2.1 dX12_isDue_2 rfl (lv_at hl 2 rfl) ?_
  refine a_Vi F hml hl.1 hA hP hD hS (As := [.int p0, .int p1]) (c_X12_dueOf_85_f l dC dI ad cA nF _ p0 p1 hR (by omega) (by omega)) (cs_RX12_305 (d := 3) F.2.2.1 (by decide)) tc_85 rfl rfl rfl rfl (Nat.le_of_ble_eq_true rfl) dX12_isDue_3 ⟨Nat.le_refl 0, Nat.le_refl 0⟩ (fun r1 uN1 H locs hq hP hD hS => ?_)
  obtain ⟨hu1, gr1, xr1⟩ := hq
  rw [hu1] at hP hD
  have xr1 : r1.toInt = duS u0 p0.toInt := xr1
  refine lv_istore_n (lv' := [(3, .int r1), (0, .ref (ad 85)), (1, .int p0), (2, .int p1)]) F.1 F.2.1 dX12_isDue_6 rfl hl (by decide) rfl (fun ls hl => ?_)
  refine lv_aload_n F.1 F.2.1 dX12_isDue_7 rfl (lv_at hl 1 rfl) ?_
  refine a_getr F inX12 hP 85 6 tc_85 rfl rfl (by decide) q1477 (fun _ h9 => h9) dX12_isDue_8 ?_
  refine a_sp F (132 : Int32) dX12_isDue_11 (by decide) ?_
  refine lv_iload_n F.1 F.2.1 dX12_isDue_14 rfl (lv_at hl 2 rfl) ?_
  refine a_iadd F dX12_isDue_15 ic_132 rfl (by omega) (fun v2 hv2 => ?_)
  refine a_iald F hP 87 tc_87 rfl (i_in rfl (by omega)) dX12_isDue_16 (fun v3 ev3 => ?_)
  have hs16 : v3.toInt = sG u0 (132 + p0.toInt) := sG_of ev3 (by omega)
  refine a_ic F (1 : Int32) dX12_isDue_17 (by decide) ?_
  refine b_ne F 61 dX12_isDue_18 (by decide) rfl ic_1 (fun c4 => ?_) (fun c4 => ?_)
  · refine a_ic F (0 : Int32) dX12_isDue_61 (by decide) ?_
    exact a_retz F hr hlocks hP hD hS dX12_isDue_62 (Or.inl rfl) ⟨rfl, (by decide), (show (0 : Int) = idS u0 p0.toInt by unfold idS; rw [if_neg (by omega)])⟩
  · refine lv_aload_n F.1 F.2.1 dX12_isDue_21 rfl (lv_at hl 1 rfl) ?_
    refine a_Vi F hml hl.1 hA hP hD hS (As := []) (c_X12_isOver_85_f l dC dI ad cA nF _  hR) (cs_RX12_263 (d := 1) F.2.2.1 (by decide)) tc_85 rfl rfl rfl rfl (Nat.le_of_ble_eq_true rfl) dX12_isDue_22 ⟨Nat.le_refl 0, Nat.le_refl 0⟩ (fun r5 uN5 H locs hq hP hD hS => ?_)
    obtain ⟨hu5, gr5, xr5⟩ := hq
    rw [hu5] at hP hD
    have g6 : (0 : Int) ≤ (u0.1 87 106).toInt ∧ (u0.1 87 106).toInt ≤ 480 := hR 87 106
    have g7 : (4 : Int) ≤ (u0.1 87 0).toInt ∧ (u0.1 87 0).toInt ≤ 24 := hR 87 0
    have xr5 : (r5.toInt ≠ 0 → (u0.1 87 106).toInt = 20 * (u0.1 87 0).toInt) ∧ (r5.toInt = 0 → (u0.1 87 106).toInt ≠ 20 * (u0.1 87 0).toInt) := xr5
    refine z_ne F 61 dX12_isDue_25 (by decide) rfl (fun c8 => ?_) (fun c8 => ?_)
    · refine a_ic F (0 : Int32) dX12_isDue_61 (by decide) ?_
      exact a_retz F hr hlocks hP hD hS dX12_isDue_62 (Or.inl rfl) ⟨rfl, (by decide), (show (0 : Int) = idS u0 p0.toInt by unfold idS; rw [if_neg (by omega)])⟩
    · refine lv_iload_n F.1 F.2.1 dX12_isDue_28 rfl (lv_at hl 0 rfl) ?_
      refine lv_aload_n F.1 F.2.1 dX12_isDue_29 rfl (lv_at hl 1 rfl) ?_
      refine a_Vi F hml hl.1 hA hP hD hS (As := []) (c_X12_dayNow_85_f l dC dI ad cA nF _  hR) (cs_RX12_260 (d := 1) F.2.2.1 (by decide)) tc_85 rfl rfl rfl rfl (Nat.le_of_ble_eq_true rfl) dX12_isDue_30 ⟨Nat.le_refl 0, Nat.le_refl 0⟩ (fun r9 uN9 H locs hq hP hD hS => ?_)
      obtain ⟨hu9, gr9, xr9⟩ := hq
      rw [hu9] at hP hD
      have xr9 : r9.toInt = ((u0.1 87 106).toInt).tdiv ((u0.1 87 0).toInt) := xr9
      refine b_eq F 57 dX12_isDue_33 (by decide) rfl rfl (fun c10 => ?_) (fun c10 => ?_)
      · refine a_ic F (1 : Int32) dX12_isDue_57 (by decide) ?_
        refine lv_goto (tgt := 62) F.1 F.2.1 dX12_isDue_58 (by decide) ?_
        exact a_retz F hr hlocks hP hD hS dX12_isDue_62 (Or.inr rfl) ⟨rfl, (by decide), (show (1 : Int) = idS u0 p0.toInt by unfold idS; rw [if_pos (by omega)])⟩
      · refine lv_iload_n F.1 F.2.1 dX12_isDue_36 rfl (lv_at hl 0 rfl) ?_
        refine lv_aload_n F.1 F.2.1 dX12_isDue_37 rfl (lv_at hl 1 rfl) ?_
        refine a_Vi F hml hl.1 hA hP hD hS (As := []) (c_X12_dayNow_85_f l dC dI ad cA nF _  hR) (cs_RX12_260 (d := 1) F.2.2.1 (by decide)) tc_85 rfl rfl rfl rfl (Nat.le_of_ble_eq_true rfl) dX12_isDue_38 ⟨Nat.le_refl 0, Nat.le_refl 0⟩ (fun r11 uN11 H locs hq hP hD hS => ?_)
        obtain ⟨hu11, gr11, xr11⟩ := hq
        rw [hu11] at hP hD
        have xr11 : r11.toInt = ((u0.1 87 106).toInt).tdiv ((u0.1 87 0).toInt) := xr11
        refine b_ge F 61 dX12_isDue_41 (by decide) rfl rfl (fun c12 => ?_) (fun c12 => ?_)
        · refine a_ic F (0 : Int32) dX12_isDue_61 (by decide) ?_
          exact a_retz F hr hlocks hP hD hS dX12_isDue_62 (Or.inl rfl) ⟨rfl, (by decide), (show (0 : Int) = idS u0 p0.toInt by unfold idS; rw [if_neg (by omega)])⟩
        · refine lv_aload_n F.1 F.2.1 dX12_isDue_44 rfl (lv_at hl 1 rfl) ?_
          refine a_getr F inX12 hP 85 6 tc_85 rfl rfl (by decide) q1477 (fun _ h9 => h9) dX12_isDue_45 ?_
          refine a_bp F (74 : Int32) dX12_isDue_48 (by decide) ?_
          refine lv_iload_n F.1 F.2.1 dX12_isDue_50 rfl (lv_at hl 2 rfl) ?_
          refine a_iadd F dX12_isDue_51 ic_74 rfl (by omega) (fun v13 hv13 => ?_)
          refine a_iald F hP 87 tc_87 rfl (i_in rfl (by omega)) dX12_isDue_52 (fun v14 ev14 => ?_)
          have hs52 : v14.toInt = sG u0 (74 + p0.toInt) := sG_of ev14 (by omega)
          refine a_ic F (1 : Int32) dX12_isDue_53 (by decide) ?_
          refine b_ne F 61 dX12_isDue_54 (by decide) rfl ic_1 (fun c15 => ?_) (fun c15 => ?_)
          · refine a_ic F (0 : Int32) dX12_isDue_61 (by decide) ?_
            exact a_retz F hr hlocks hP hD hS dX12_isDue_62 (Or.inl rfl) ⟨rfl, (by decide), (show (0 : Int) = idS u0 p0.toInt by unfold idS; rw [if_neg (by omega)])⟩
          · refine a_ic F (1 : Int32) dX12_isDue_57 (by decide) ?_
            refine lv_goto (tgt := 62) F.1 F.2.1 dX12_isDue_58 (by decide) ?_
            exact a_retz F hr hlocks hP hD hS dX12_isDue_62 (Or.inr rfl) ⟨rfl, (by decide), (show (1 : Int) = idS u0 p0.toInt by unfold idS; rw [if_pos (by omega)])⟩
set_option maxHeartbeats 600000 in
set_option maxRecDepth 100000 in
theorem c_X12_dueSet_85_f (l : Launch) (dC : Nat → ClassId) (dI : Nat → Nat → Nat) (ad : Nat → Nat) (cA : Nat → ClassId) (nF : Nat) (u0 : ac_U) (p0 : Int32) (hR : ac_R rg u0) (hp0 : (0 : Int) ≤ p0.toInt ∧ p0.toInt ≤ 3) : ac_Mi l yX12_dueSet (.code yX12_dueSet cX12_dueSet 4 (some .int) :: TB) 5 (dC, dI) vwCl (ac_ty cA) ad cA (TT nF) [.ref (ad 85), .int p0] u0 (fun (r : Int32) (u : ac_U) => u = u0 ∧ ((0 : Int) ≤ r.toInt ∧ r.toInt ≤ 255) ∧ (r.toInt = dqS u0 p0.toInt)) := by
  refine ac_Mi.of (cc := cX12_dueSet) (maxL := 4) (ret := (some .int)) (by decide) rfl (Nat.le_of_ble_eq_true rfl) ?_
  intro p e s m below meth c A ls F hml hr hlocks hA hP hD hS hl
  have F : ac_X p s m [.ref (ad 85), .int p0].toArray c cX12_dueSet RX12 TB (dC, dI) vwCl (ac_ty cA) := ⟨F.1, F.2.1, fun w h => F.2.2.1 w (List.mem_cons_of_mem _ h), F.2.2.2.1, F.2.2.2.2⟩
  have hl : lv_has ls 4 [(0, .ref (ad 85)), (1, .int p0)] := hl
  have L4 : ∀ (n4 : Nat) (x2 : Int32) (x3 : Int32) (H : Heap) (locs : List Loc) (ls : Array Slot), 8 - x3.toInt < (n4 : Int) → (fun _ => x2 = dqN u0 p0.toInt x3.toInt.toNat) u0 → (0 : Int) ≤ x2.toInt ∧ x2.toInt ≤ 255 → (0 : Int) ≤ x3.toInt ∧ x3.toInt ≤ 8 → x3.toInt ≤ (u0.1 87 6).toInt → va_P (dC, dI) vwCl (ac_w ad cA (TT nF) u0) H → va_D A (ac_w ad cA (TT nF) u0) → va_S A s.heap H locs → lv_has ls 4 [(0, .ref (ad 85)), (1, .int p0), (2, .int x2), (3, .int x3)] → W p l e (ac_rm 5) s m [.ref (ad 85), .int p0].toArray below meth c H locs 0 0 (MQ below (va_Qi (fun (r : Int32) (u : ac_U) => u = u0 ∧ ((0 : Int) ≤ r.toInt ∧ r.toInt ≤ 255) ∧ (r.toInt = dqS u0 p0.toInt)) (ac_B (dC, dI) vwCl (ac_ty cA) ad cA (TT nF) A) A) [.ref (ad 85), .int p0].toArray s 0 0 A) (F0 m 4 ls []) := by
    intro n4
    induction n4 with
    | zero => intro x2 x3 H locs ls hn4 hK_DQx f0 f1 f2 hP hD hS hl; exfalso; omega
    | succ n4 ih4 =>
      intro x2 x3 H locs ls hn4 hK_DQx f0 f1 f2 hP hD hS hl
      refine lv_iload_n F.1 F.2.1 dX12_dueSet_4 rfl (lv_at hl 3 rfl) ?_
      refine lv_aload_n F.1 F.2.1 dX12_dueSet_5 rfl (lv_at hl 0 rfl) ?_
      refine a_getr F inX12 hP 85 6 tc_85 rfl rfl (by decide) q1477 (fun _ h9 => h9) dX12_dueSet_6 ?_
      refine a_bp F (6 : Int32) dX12_dueSet_9 (by decide) ?_
      have g1 : (0 : Int) ≤ (u0.1 87 6).toInt ∧ (u0.1 87 6).toInt ≤ 8 := hR 87 6
      refine a_ialdK F hP 87 6 tc_87 rfl rfl (i_in ic_6 (by omega)) (v := (u0.1 87 6)) rfl dX12_dueSet_11 ?_
      refine b_ge F 53 dX12_dueSet_12 (by decide) rfl rfl (fun c2 => ?_) (fun c2 => ?_)
      · refine lv_iload_n F.1 F.2.1 dX12_dueSet_53 rfl (lv_at hl 2 rfl) ?_
        exact a_reti F hr hlocks hP hD hS dX12_dueSet_54 ⟨rfl, (by omega : (0 : Int) ≤ x2.toInt ∧ x2.toInt ≤ 255), (by have h7 : x2 = dqN u0 p0.toInt x3.toInt.toNat := hK_DQx; unfold dqS; rw [show (u0.1 87 6).toInt.toNat = x3.toInt.toNat by omega, ← h7])⟩
      · refine lv_iload_n F.1 F.2.1 dX12_dueSet_15 rfl (lv_at hl 2 rfl) ?_
        refine lv_aload_n F.1 F.2.1 dX12_dueSet_16 rfl (lv_at hl 0 rfl) ?_
        refine a_getr F inX12 hP 85 6 tc_85 rfl rfl (by decide) q1477 (fun _ h9 => h9) dX12_dueSet_17 ?_
        refine a_bp F (26 : Int32) dX12_dueSet_20 (by decide) ?_
        refine lv_iload_n F.1 F.2.1 dX12_dueSet_22 rfl (lv_at hl 3 rfl) ?_
        refine a_iadd F dX12_dueSet_23 ic_26 rfl (by omega) (fun v3 hv3 => ?_)
        refine a_iald F hP 87 tc_87 rfl (i_in rfl (by omega)) dX12_dueSet_24 (fun v4 ev4 => ?_)
        have hs24 : v4.toInt = sG u0 (26 + x3.toInt) := sG_of ev4 (by omega)
        refine lv_iload_n F.1 F.2.1 dX12_dueSet_25 rfl (lv_at hl 1 rfl) ?_
        refine b_ne F 44 dX12_dueSet_26 (by decide) rfl rfl (fun c5 => ?_) (fun c5 => ?_)
        · refine a_ic F (0 : Int32) dX12_dueSet_44 (by decide) ?_
          refine lv_ior F.1 F.2.1 dX12_dueSet_45 ?_
          refine lv_topi (fun v6 ev6 => ?_)
          have hv6 := or_z (x := x2) (by omega) ev6
          have hE9 := ev6
          refine lv_istore_n (lv' := [(2, .int v6), (0, .ref (ad 85)), (1, .int p0), (3, .int x3)]) F.1 F.2.1 dX12_dueSet_46 rfl hl (by decide) rfl (fun ls hl => ?_)
          refine a_iinc F (k := 3) (fun v7 => [(3, .int v7), (2, .int v6), (0, .ref (ad 85)), (1, .int p0)]) dX12_dueSet_47 hl rfl rfl (by decide) (by omega) (by decide) (fun _ => rfl) (fun v7 ls hv7 hl => ?_)
          refine lv_goto (tgt := 4) F.1 F.2.1 dX12_dueSet_50 (by decide) ?_
          exact ih4 v6 v7 _ _ _ (by omega) (by first | exact dq_yes (j := v7.toInt) hK_DQx (by omega) (by omega) (by omega) rfl hE9 | exact dq_no (j := v7.toInt) hK_DQx (by omega) (by omega) (by omega) hE9) (by omega) (by omega) (by omega : v7.toInt ≤ (u0.1 87 6).toInt) hP hD hS (lv_sub hl [2, 3, 1, 0] rfl)
        · refine lv_aload_n F.1 F.2.1 dX12_dueSet_29 rfl (lv_at hl 0 rfl) ?_
          refine lv_iload_n F.1 F.2.1 dX12_dueSet_30 rfl (lv_at hl 3 rfl) ?_
          refine a_ic F (0 : Int32) dX12_dueSet_31 (by decide) ?_
          refine a_Vi F hml hl.1 hA hP hD hS (As := [.int x3, .int (0 : Int32)]) (c_X12_isDue_85_f l dC dI ad cA nF _ x3 (0 : Int32) hR (by omega) (by decide)) (cs_RX12_320 (d := 4) F.2.2.1 (by decide)) tc_85 rfl rfl rfl rfl (Nat.le_of_ble_eq_true rfl) dX12_dueSet_32 ⟨Nat.le_refl 0, Nat.le_refl 0⟩ (fun r8 uN8 H locs hq hP hD hS => ?_)
          obtain ⟨hu8, gr8, xr8⟩ := hq
          rw [hu8] at hP hD
          have xr8 : r8.toInt = idS u0 x3.toInt := xr8
          have hid : r8.toInt = idS u0 x3.toInt := xr8
          refine z_eq F 44 dX12_dueSet_35 (by decide) rfl (fun c10 => ?_) (fun c10 => ?_)
          · refine a_ic F (0 : Int32) dX12_dueSet_44 (by decide) ?_
            refine lv_ior F.1 F.2.1 dX12_dueSet_45 ?_
            refine lv_topi (fun v11 ev11 => ?_)
            have hv11 := or_z (x := x2) (by omega) ev11
            have hE9 := ev11
            refine lv_istore_n (lv' := [(2, .int v11), (0, .ref (ad 85)), (1, .int p0), (3, .int x3)]) F.1 F.2.1 dX12_dueSet_46 rfl hl (by decide) rfl (fun ls hl => ?_)
            refine a_iinc F (k := 3) (fun v12 => [(3, .int v12), (2, .int v11), (0, .ref (ad 85)), (1, .int p0)]) dX12_dueSet_47 hl rfl rfl (by decide) (by omega) (by decide) (fun _ => rfl) (fun v12 ls hv12 hl => ?_)
            refine lv_goto (tgt := 4) F.1 F.2.1 dX12_dueSet_50 (by decide) ?_
            exact ih4 v11 v12 _ _ _ (by omega) (by first | exact dq_yes (j := v12.toInt) hK_DQx (by omega) (by omega) (by omega) rfl hE9 | exact dq_no (j := v12.toInt) hK_DQx (by omega) (by omega) (by omega) hE9) (by omega) (by omega) (by omega : v12.toInt ≤ (u0.1 87 6).toInt) hP hD hS (lv_sub hl [2, 3, 1, 0] rfl)
          · refine a_ic F (1 : Int32) dX12_dueSet_38 (by decide) ?_
            refine lv_iload_n F.1 F.2.1 dX12_dueSet_39 rfl (lv_at hl 3 rfl) ?_
            refine lv_ishl F.1 F.2.1 dX12_dueSet_40 ?_
            refine lv_goto (tgt := 45) F.1 F.2.1 dX12_dueSet_41 (by decide) ?_
            refine lv_ior F.1 F.2.1 dX12_dueSet_45 ?_
            refine lv_topi (fun v13 ev13 => ?_)
            have hv13 := or_k (x := x2) (y := x3) (by omega) (by omega) ev13
            have hE9 := ev13
            refine lv_istore_n (lv' := [(2, .int v13), (0, .ref (ad 85)), (1, .int p0), (3, .int x3)]) F.1 F.2.1 dX12_dueSet_46 rfl hl (by decide) rfl (fun ls hl => ?_)
            refine a_iinc F (k := 3) (fun v14 => [(3, .int v14), (2, .int v13), (0, .ref (ad 85)), (1, .int p0)]) dX12_dueSet_47 hl rfl rfl (by decide) (by omega) (by decide) (fun _ => rfl) (fun v14 ls hv14 hl => ?_)
            refine lv_goto (tgt := 4) F.1 F.2.1 dX12_dueSet_50 (by decide) ?_
            exact ih4 v13 v14 _ _ _ (by omega) (by first | exact dq_yes (j := v14.toInt) hK_DQx (by omega) (by omega) (by omega) rfl hE9 | exact dq_no (j := v14.toInt) hK_DQx (by omega) (by omega) (by omega) hE9) (by omega) (by omega) (by omega : v14.toInt ≤ (u0.1 87 6).toInt) hP hD hS (lv_sub hl [2, 3, 1, 0] rfl)
  refine a_ic F (0 : Int32) dX12_dueSet_0 (by decide) ?_
  refine lv_istore_n (lv' := [(2, .int (0 : Int32)), (0, .ref (ad 85)), (1, .int p0)]) F.1 F.2.1 dX12_dueSet_1 rfl hl (by decide) rfl (fun ls hl => ?_)
  refine a_ic F (0 : Int32) dX12_dueSet_2 (by decide) ?_
  refine lv_istore_n (lv' := [(3, .int (0 : Int32)), (2, .int (0 : Int32)), (0, .ref (ad 85)), (1, .int p0)]) F.1 F.2.1 dX12_dueSet_3 rfl hl (by decide) rfl (fun ls hl => ?_)
  have g15 : (0 : Int) ≤ (u0.1 87 6).toInt ∧ (u0.1 87 6).toInt ≤ 8 := hR 87 6
  exact L4 10 (0 : Int32) (0 : Int32) _ _ _ (by decide) rfl (by decide) (by decide) (by first | (rw [ic_0]; exact (by omega : (0 : Int) ≤ (u0.1 87 6).toInt)) | rw [ic_0]) hP hD hS (lv_sub hl [2, 3, 1, 0] rfl)
set_option maxHeartbeats 600000 in
set_option maxRecDepth 100000 in
theorem c_X12_slot_85_f (l : Launch) (dC : Nat → ClassId) (dI : Nat → Nat → Nat) (ad : Nat → Nat) (cA : Nat → ClassId) (nF : Nat) (u0 : ac_U) (p0 : Int32) (p1 : Int32) (p2 : Int32) (hR : ac_R rg u0) (hp0 : (0 : Int) ≤ p0.toInt ∧ p0.toInt ≤ 24) (hp1 : (0 : Int) ≤ p1.toInt ∧ p1.toInt ≤ 7) (hp2 : (0 : Int) ≤ p2.toInt ∧ p2.toInt ≤ 255) : ac_Mi l yX12_slot (.code yX12_slot cX12_slot 4 (some .int) :: TB) 1 (dC, dI) vwCl (ac_ty cA) ad cA (TT nF) [.ref (ad 85), .int p0, .int p1, .int p2] u0 (fun (r : Int32) (u : ac_U) => u = u0 ∧ ((0 : Int) ≤ r.toInt ∧ r.toInt ≤ 51199) ∧ (r.toInt = 2048 * p0.toInt + 256 * p1.toInt + p2.toInt)) := by
  refine ac_Mi.of (cc := cX12_slot) (maxL := 4) (ret := (some .int)) (by decide) rfl (Nat.le_of_ble_eq_true rfl) ?_
  intro p e s m below meth c A ls F hml hr hlocks hA hP hD hS hl
  have F : ac_X p s m [.ref (ad 85), .int p0, .int p1, .int p2].toArray c cX12_slot RX12 TB (dC, dI) vwCl (ac_ty cA) := ⟨F.1, F.2.1, fun w h => F.2.2.1 w (List.mem_cons_of_mem _ h), F.2.2.2.1, F.2.2.2.2⟩
  have hl : lv_has ls 4 [(0, .ref (ad 85)), (1, .int p0), (2, .int p1), (3, .int p2)] := hl
  refine lv_iload_n F.1 F.2.1 dX12_slot_0 rfl (lv_at hl 1 rfl) ?_
  refine a_bp F (8 : Int32) dX12_slot_1 (by decide) ?_
  refine a_imul F dX12_slot_3 rfl ic_8 (by omega) (fun v1 hv1 => ?_)
  refine lv_iload_n F.1 F.2.1 dX12_slot_4 rfl (lv_at hl 2 rfl) ?_
  refine a_iadd F dX12_slot_5 rfl rfl (by omega) (fun v2 hv2 => ?_)
  refine a_sp F (256 : Int32) dX12_slot_6 (by decide) ?_
  refine a_imul F dX12_slot_9 rfl ic_256 (by omega) (fun v3 hv3 => ?_)
  refine lv_iload_n F.1 F.2.1 dX12_slot_10 rfl (lv_at hl 3 rfl) ?_
  refine a_iadd F dX12_slot_11 rfl rfl (by omega) (fun v4 hv4 => ?_)
  exact a_reti F hr hlocks hP hD hS dX12_slot_12 ⟨rfl, (by omega : (0 : Int) ≤ v4.toInt ∧ v4.toInt ≤ 51199), (by omega : v4.toInt = 2048 * p0.toInt + 256 * p1.toInt + p2.toInt)⟩
set_option maxHeartbeats 600000 in
set_option maxRecDepth 100000 in
theorem c_X12_goingsBy_85 (l : Launch) (dC : Nat → ClassId) (dI : Nat → Nat → Nat) (ad : Nat → Nat) (cA : Nat → ClassId) (nF : Nat) (u0 : ac_U) (p0 : Int32) (p1 : Int32) (p2 : Int32) (p3 : Int32) (hR : ac_R rg u0) (hp0 : (0 : Int) ≤ p0.toInt ∧ p0.toInt ≤ 23) (hp1 : (0 : Int) ≤ p1.toInt ∧ p1.toInt ≤ 7) (hp2 : (0 : Int) ≤ p2.toInt ∧ p2.toInt ≤ 255) (hp3 : (0 : Int) ≤ p3.toInt ∧ p3.toInt ≤ 300) (hh0 : p3.toInt = 0 ∨ (100 ≤ p3.toInt ∧ p3.toInt ≤ 107) ∨ 200 ≤ p3.toInt) : ac_Mi l yX12_goingsBy (.code yX12_goingsBy cX12_goingsBy 5 (some .int) :: TB) 4 (dC, dI) vwCl (ac_ty cA) ad cA (TT nF) [.ref (ad 85), .int p0, .int p1, .int p2, .int p3] u0 (fun (r : Int32) (u : ac_U) => u = u0 ∧ (r.toInt = gbZ u0 p0.toInt p1.toInt p2.toInt p3.toInt)) := by
  refine ac_Mi.of (cc := cX12_goingsBy) (maxL := 5) (ret := (some .int)) (by decide) rfl (Nat.le_of_ble_eq_true rfl) ?_
  intro p e s m below meth c A ls F hml hr hlocks hA hP hD hS hl
  have F : ac_X p s m [.ref (ad 85), .int p0, .int p1, .int p2, .int p3].toArray c cX12_goingsBy RX12 TB (dC, dI) vwCl (ac_ty cA) := ⟨F.1, F.2.1, fun w h => F.2.2.1 w (List.mem_cons_of_mem _ h), F.2.2.2.1, F.2.2.2.2⟩
  have hl : lv_has ls 5 [(0, .ref (ad 85)), (1, .int p0), (2, .int p1), (3, .int p2), (4, .int p3)] := hl
  refine lv_iload F.1 F.2.1 dX12_goingsBy_0 (lv_at hl 4 rfl) ?_
  refine z_ne F 20 dX12_goingsBy_2 (by decide) rfl (fun c1 => ?_) (fun c1 => ?_)
  · refine lv_iload F.1 F.2.1 dX12_goingsBy_20 (lv_at hl 4 rfl) ?_
    refine a_sp F (200 : Int32) dX12_goingsBy_22 (by decide) ?_
    refine b_ge F 75 dX12_goingsBy_25 (by decide) rfl ic_200 (fun c2 => ?_) (fun c2 => ?_)
    · refine lv_aload_n F.1 F.2.1 dX12_goingsBy_75 rfl (lv_at hl 0 rfl) ?_
      refine a_getr F inX12 hP 85 25 tc_85 rfl rfl (by decide) q1496 (fun _ h9 => h9) dX12_goingsBy_76 ?_
      refine lv_aload_n F.1 F.2.1 dX12_goingsBy_79 rfl (lv_at hl 0 rfl) ?_
      refine lv_iload_n F.1 F.2.1 dX12_goingsBy_80 rfl (lv_at hl 1 rfl) ?_
      refine a_ic F (1 : Int32) dX12_goingsBy_81 (by decide) ?_
      refine a_iadd F dX12_goingsBy_82 rfl ic_1 (by omega) (fun v3 hv3 => ?_)
      refine lv_iload_n F.1 F.2.1 dX12_goingsBy_83 rfl (lv_at hl 2 rfl) ?_
      refine lv_aload_n F.1 F.2.1 dX12_goingsBy_84 rfl (lv_at hl 0 rfl) ?_
      refine lv_iload_n F.1 F.2.1 dX12_goingsBy_85 rfl (lv_at hl 3 rfl) ?_
      refine lv_iload_n F.1 F.2.1 dX12_goingsBy_86 rfl (lv_at hl 1 rfl) ?_
      refine lv_iload_n F.1 F.2.1 dX12_goingsBy_87 rfl (lv_at hl 2 rfl) ?_
      refine lv_iload F.1 F.2.1 dX12_goingsBy_88 (lv_at hl 4 rfl) ?_
      refine a_sp F (200 : Int32) dX12_goingsBy_90 (by decide) ?_
      refine a_isub F dX12_goingsBy_93 rfl ic_200 (by omega) (fun v4 hv4 => ?_)
      have hv94 : v4.toInt = p3.toInt - 200 := by omega
      refine a_Vi F hml hl.1 hA hP hD hS (As := [.int p2, .int p0, .int p1, .int v4]) (c_X12_after_85__2 l dC dI ad cA nF _ p2 p0 p1 v4 hR (by omega) (by omega) (by omega) (by omega)) (cs_RX12_335 (d := 3) F.2.2.1 (by decide)) tc_85 rfl rfl rfl rfl (Nat.le_of_ble_eq_true rfl) dX12_goingsBy_94 ⟨Nat.le_refl 0, Nat.le_refl 0⟩ (fun r6 uN6 H locs hq hP hD hS => ?_)
      obtain ⟨hu6, gr6, xr6⟩ := hq
      rw [hu6] at hP hD
      have xr6 : r6.toInt = afS u0 p2.toInt p0.toInt p1.toInt v4.toInt ∧ 0 ≤ r6.toInt ∧ r6.toInt ≤ p2.toInt := xr6
      have haf : r6.toInt = afS u0 p2.toInt p0.toInt p1.toInt (p3.toInt - 200) := by rw [← hv94]; exact xr6.1
      refine a_Vi F hml hl.1 hA hP hD hS (As := [.int v3, .int p1, .int r6]) (c_X12_slot_85_f l dC dI ad cA nF _ v3 p1 r6 hR (by omega) (by omega) (by omega)) (cs_RX12_332 (d := 1) F.2.2.1 (by decide)) tc_85 rfl rfl rfl rfl (Nat.le_of_ble_eq_true rfl) dX12_goingsBy_97 ⟨Nat.le_refl 0, Nat.le_refl 0⟩ (fun r8 uN8 H locs hq hP hD hS => ?_)
      obtain ⟨hu8, gr8, xr8⟩ := hq
      rw [hu8] at hP hD
      have xr8 : r8.toInt = 2048 * v3.toInt + 256 * p1.toInt + r6.toInt := xr8
      refine a_iald F hP 95 tc_95 rfl (i_in rfl (by omega)) dX12_goingsBy_100 (fun v9 ev9 => ?_)
      exact a_reti F hr hlocks hP hD hS dX12_goingsBy_101 ⟨rfl, (by unfold gbZ; rw [if_neg (by omega), if_neg (by omega)]; exact congrArg Int32.toInt (gG_of ev9 (by omega)))⟩
    · refine lv_aload_n F.1 F.2.1 dX12_goingsBy_28 rfl (lv_at hl 0 rfl) ?_
      refine a_getr F inX12 hP 85 6 tc_85 rfl rfl (by decide) q1477 (fun _ h9 => h9) dX12_goingsBy_29 ?_
      refine a_bp F (8 : Int32) dX12_goingsBy_32 (by decide) ?_
      refine lv_iload_n F.1 F.2.1 dX12_goingsBy_34 rfl (lv_at hl 2 rfl) ?_
      refine a_iadd F dX12_goingsBy_35 ic_8 rfl (by omega) (fun v10 hv10 => ?_)
      refine a_iald F hP 87 tc_87 rfl (i_in rfl (by omega)) dX12_goingsBy_36 (fun v11 ev11 => ?_)
      have hs36 : v11.toInt = sG u0 (8 + p1.toInt) := sG_of ev11 (by omega)
      refine lv_iload F.1 F.2.1 dX12_goingsBy_37 (lv_at hl 4 rfl) ?_
      refine a_bp F (100 : Int32) dX12_goingsBy_39 (by decide) ?_
      refine a_isub F dX12_goingsBy_41 rfl ic_100 (by omega) (fun v12 hv12 => ?_)
      have hv42 : v12.toInt = p3.toInt - 100 := by omega
      refine a_Si F hml hl.1 hA hP hD hS (As := [.int v11, .int v12]) (c_X12_bitOf_f l dC dI ad cA nF _ v11 v12 hR (by omega)) (cs_RX12_223 (d := 1) F.2.2.1 (by decide)) rfl rfl (Nat.le_of_ble_eq_true rfl) dX12_goingsBy_42 ⟨Nat.le_refl 0, Nat.le_refl 0⟩ (fun r14 uN14 H locs hq hP hD hS => ?_)
      obtain ⟨hu14, gr14, xr14⟩ := hq
      rw [hu14] at hP hD
      have xr14 : r14.toInt = btZ v11.toInt v12.toInt := xr14
      have hbt : r14.toInt = btZ (sG u0 (8 + p1.toInt)) (p3.toInt - 100) := by rw [← hs36, ← hv42]; exact xr14
      refine z_eq F 71 dX12_goingsBy_45 (by decide) rfl (fun c16 => ?_) (fun c16 => ?_)
      · refine a_sp F (1000 : Int32) dX12_goingsBy_71 (by decide) ?_
        exact a_reti F hr hlocks hP hD hS dX12_goingsBy_74 ⟨rfl, (show (1000 : Int) = _ by unfold gbZ; rw [if_neg (by omega), if_pos (by omega), if_neg (by omega)])⟩
      · refine a_ic F (1 : Int32) dX12_goingsBy_48 (by decide) ?_
        refine lv_aload_n F.1 F.2.1 dX12_goingsBy_49 rfl (lv_at hl 0 rfl) ?_
        refine a_getr F inX12 hP 85 25 tc_85 rfl rfl (by decide) q1496 (fun _ h9 => h9) dX12_goingsBy_50 ?_
        refine lv_aload_n F.1 F.2.1 dX12_goingsBy_53 rfl (lv_at hl 0 rfl) ?_
        refine lv_iload_n F.1 F.2.1 dX12_goingsBy_54 rfl (lv_at hl 1 rfl) ?_
        refine a_ic F (1 : Int32) dX12_goingsBy_55 (by decide) ?_
        refine a_iadd F dX12_goingsBy_56 rfl ic_1 (by omega) (fun v17 hv17 => ?_)
        refine lv_iload F.1 F.2.1 dX12_goingsBy_57 (lv_at hl 4 rfl) ?_
        refine a_bp F (100 : Int32) dX12_goingsBy_59 (by decide) ?_
        refine a_isub F dX12_goingsBy_61 rfl ic_100 (by omega) (fun v18 hv18 => ?_)
        refine lv_iload_n F.1 F.2.1 dX12_goingsBy_62 rfl (lv_at hl 3 rfl) ?_
        refine a_Vi F hml hl.1 hA hP hD hS (As := [.int v17, .int v18, .int p2]) (c_X12_slot_85_f l dC dI ad cA nF _ v17 v18 p2 hR (by omega) (by omega) (by omega)) (cs_RX12_332 (d := 1) F.2.2.1 (by decide)) tc_85 rfl rfl rfl rfl (Nat.le_of_ble_eq_true rfl) dX12_goingsBy_63 ⟨Nat.le_refl 0, Nat.le_refl 0⟩ (fun r19 uN19 H locs hq hP hD hS => ?_)
        obtain ⟨hu19, gr19, xr19⟩ := hq
        rw [hu19] at hP hD
        have xr19 : r19.toInt = 2048 * v17.toInt + 256 * v18.toInt + p2.toInt := xr19
        refine a_iald F hP 95 tc_95 rfl (i_in rfl (by omega)) dX12_goingsBy_66 (fun v20 ev20 => ?_)
        refine lv_iadd F.1 F.2.1 dX12_goingsBy_67 ?_
        refine lv_topi (fun v21 ev21 => ?_)
        have hE9 := ev21
        refine lv_goto (tgt := 74) F.1 F.2.1 dX12_goingsBy_68 (by decide) ?_
        exact a_reti F hr hlocks hP hD hS dX12_goingsBy_74 ⟨rfl, (by unfold gbZ; rw [if_neg (by omega), if_pos (by omega), if_pos (by omega), hE9, gG_of ev20 (z := 2048 * (p0.toInt + 1) + 256 * (p3.toInt - 100) + p2.toInt) (by omega)])⟩
  · refine lv_aload_n F.1 F.2.1 dX12_goingsBy_5 rfl (lv_at hl 0 rfl) ?_
    refine a_getr F inX12 hP 85 25 tc_85 rfl rfl (by decide) q1496 (fun _ h9 => h9) dX12_goingsBy_6 ?_
    refine lv_aload_n F.1 F.2.1 dX12_goingsBy_9 rfl (lv_at hl 0 rfl) ?_
    refine lv_iload_n F.1 F.2.1 dX12_goingsBy_10 rfl (lv_at hl 1 rfl) ?_
    refine a_ic F (1 : Int32) dX12_goingsBy_11 (by decide) ?_
    refine a_iadd F dX12_goingsBy_12 rfl ic_1 (by omega) (fun v22 hv22 => ?_)
    refine lv_iload_n F.1 F.2.1 dX12_goingsBy_13 rfl (lv_at hl 2 rfl) ?_
    refine lv_iload_n F.1 F.2.1 dX12_goingsBy_14 rfl (lv_at hl 3 rfl) ?_
    refine a_Vi F hml hl.1 hA hP hD hS (As := [.int v22, .int p1, .int p2]) (c_X12_slot_85_f l dC dI ad cA nF _ v22 p1 p2 hR (by omega) (by omega) (by omega)) (cs_RX12_332 (d := 1) F.2.2.1 (by decide)) tc_85 rfl rfl rfl rfl (Nat.le_of_ble_eq_true rfl) dX12_goingsBy_15 ⟨Nat.le_refl 0, Nat.le_refl 0⟩ (fun r23 uN23 H locs hq hP hD hS => ?_)
    obtain ⟨hu23, gr23, xr23⟩ := hq
    rw [hu23] at hP hD
    have xr23 : r23.toInt = 2048 * v22.toInt + 256 * p1.toInt + p2.toInt := xr23
    refine a_iald F hP 95 tc_95 rfl (i_in rfl (by omega)) dX12_goingsBy_18 (fun v24 ev24 => ?_)
    exact a_reti F hr hlocks hP hD hS dX12_goingsBy_19 ⟨rfl, (by unfold gbZ; rw [if_pos (by omega)]; exact congrArg Int32.toInt (gG_of ev24 (by omega)))⟩
set_option maxHeartbeats 600000 in
set_option maxRecDepth 100000 in
theorem c_X12_isPerson_85_f (l : Launch) (dC : Nat → ClassId) (dI : Nat → Nat → Nat) (ad : Nat → Nat) (cA : Nat → ClassId) (nF : Nat) (u0 : ac_U) (p0 : Int32) (hR : ac_R rg u0) : ac_Mi l yX12_isPerson (.code yX12_isPerson cX12_isPerson 2 (some .boolean) :: TB) 2 (dC, dI) vwCl (ac_ty cA) ad cA (TT nF) [.ref (ad 85), .int p0] u0 (fun (r : Int32) (u : ac_U) => u = u0 ∧ ((0 : Int) ≤ r.toInt ∧ r.toInt ≤ 1) ∧ (r.toInt ≠ 0 → 0 ≤ p0.toInt ∧ p0.toInt < (u0.1 87 4).toInt ∧ p0.toInt ≤ 3)) := by
  refine ac_Mi.of (cc := cX12_isPerson) (maxL := 2) (ret := (some .boolean)) (by decide) rfl (Nat.le_of_ble_eq_true rfl) ?_
  intro p e s m below meth c A ls F hml hr hlocks hA hP hD hS hl
  have F : ac_X p s m [.ref (ad 85), .int p0].toArray c cX12_isPerson RX12 TB (dC, dI) vwCl (ac_ty cA) := ⟨F.1, F.2.1, fun w h => F.2.2.1 w (List.mem_cons_of_mem _ h), F.2.2.2.1, F.2.2.2.2⟩
  have hl : lv_has ls 2 [(0, .ref (ad 85)), (1, .int p0)] := hl
  refine lv_iload_n F.1 F.2.1 dX12_isPerson_0 rfl (lv_at hl 1 rfl) ?_
  refine a_ic F (0 : Int32) dX12_isPerson_1 (by decide) ?_
  refine lv_aload_n F.1 F.2.1 dX12_isPerson_2 rfl (lv_at hl 0 rfl) ?_
  refine a_getr F inX12 hP 85 6 tc_85 rfl rfl (by decide) q1477 (fun _ h9 => h9) dX12_isPerson_3 ?_
  refine a_ic F (4 : Int32) dX12_isPerson_6 (by decide) ?_
  have g1 : (0 : Int) ≤ (u0.1 87 4).toInt ∧ (u0.1 87 4).toInt ≤ 4 := hR 87 4
  refine a_ialdK F hP 87 4 tc_87 rfl rfl (i_in ic_4 (by omega)) (v := (u0.1 87 4)) rfl dX12_isPerson_7 ?_
  refine a_ic F (1 : Int32) dX12_isPerson_8 (by decide) ?_
  refine a_isub F dX12_isPerson_9 rfl ic_1 (by omega) (fun v2 hv2 => ?_)
  refine a_Si F hml hl.1 hA hP hD hS (As := [.int p0, .int (0 : Int32), .int v2]) (c_X12_isIn l dC dI ad cA nF _ p0 (0 : Int32) v2 hR (by omega)) (cs_RX12_187 (d := 1) F.2.2.1 (by decide)) rfl rfl (Nat.le_of_ble_eq_true rfl) dX12_isPerson_10 ⟨Nat.le_refl 0, Nat.le_refl 0⟩ (fun r3 uN3 H locs hq hP hD hS => ?_)
  obtain ⟨hu3, gr3, xr3⟩ := hq
  rw [hu3] at hP hD
  have xr3 : r3.toInt ≠ 0 → (0 : Int) ≤ p0.toInt ∧ p0.toInt ≤ v2.toInt := xr3
  exact a_retz F hr hlocks hP hD hS dX12_isPerson_13 (i_01 (by omega)) ⟨rfl, (by omega : (0 : Int) ≤ r3.toInt ∧ r3.toInt ≤ 1), (by omega : r3.toInt ≠ 0 → 0 ≤ p0.toInt ∧ p0.toInt < (u0.1 87 4).toInt ∧ p0.toInt ≤ 3)⟩
set_option maxHeartbeats 600000 in
set_option maxRecDepth 100000 in
theorem c_X12_isPlanned_85__2 (l : Launch) (dC : Nat → ClassId) (dI : Nat → Nat → Nat) (ad : Nat → Nat) (cA : Nat → ClassId) (nF : Nat) (u0 : ac_U) (p0 : Int32) (hR : ac_R rg u0) : ac_Mi l yX12_isPlanned (.code yX12_isPlanned cX12_isPlanned 2 (some .boolean) :: TB) 6 (dC, dI) vwCl (ac_ty cA) ad cA (TT nF) [.ref (ad 85), .int p0] u0 (fun (r : Int32) (u : ac_U) => u = u0 ∧ ((0 : Int) ≤ r.toInt ∧ r.toInt ≤ 1) ∧ (r.toInt ≠ 0 → 0 ≤ p0.toInt ∧ p0.toInt < (u0.1 87 4).toInt ∧ p0.toInt ≤ 3 ∧ popS (dqS u0 p0.toInt) ≤ 4)) := by
  refine ac_Mi.of (cc := cX12_isPlanned) (maxL := 2) (ret := (some .boolean)) (by decide) rfl (Nat.le_of_ble_eq_true rfl) ?_
  intro p e s m below meth c A ls F hml hr hlocks hA hP hD hS hl
  have F : ac_X p s m [.ref (ad 85), .int p0].toArray c cX12_isPlanned RX12 TB (dC, dI) vwCl (ac_ty cA) := ⟨F.1, F.2.1, fun w h => F.2.2.1 w (List.mem_cons_of_mem _ h), F.2.2.2.1, F.2.2.2.2⟩
  have hl : lv_has ls 2 [(0, .ref (ad 85)), (1, .int p0)] := hl
  refine lv_aload_n F.1 F.2.1 dX12_isPlanned_0 rfl (lv_at hl 0 rfl) ?_
  refine lv_iload_n F.1 F.2.1 dX12_isPlanned_1 rfl (lv_at hl 1 rfl) ?_
  refine a_Vi F hml hl.1 hA hP hD hS (As := [.int p0]) (c_X12_isPerson_85_f l dC dI ad cA nF _ p0 hR) (cs_RX12_251 (d := 2) F.2.2.1 (by decide)) tc_85 rfl rfl rfl rfl (Nat.le_of_ble_eq_true rfl) dX12_isPlanned_2 ⟨Nat.le_refl 0, Nat.le_refl 0⟩ (fun r1 uN1 H locs hq hP hD hS => ?_)
  obtain ⟨hu1, gr1, xr1⟩ := hq
  rw [hu1] at hP hD
  have g2 : (0 : Int) ≤ (u0.1 87 4).toInt ∧ (u0.1 87 4).toInt ≤ 4 := hR 87 4
  have xr1 : r1.toInt ≠ 0 → 0 ≤ p0.toInt ∧ p0.toInt < (u0.1 87 4).toInt ∧ p0.toInt ≤ 3 := xr1
  refine z_eq F 31 dX12_isPlanned_5 (by decide) rfl (fun c3 => ?_) (fun c3 => ?_)
  · refine a_ic F (0 : Int32) dX12_isPlanned_31 (by decide) ?_
    exact a_retz F hr hlocks hP hD hS dX12_isPlanned_32 (Or.inl rfl) ⟨rfl, (by decide), (fun h9 => absurd (by decide) h9)⟩
  · refine lv_aload_n F.1 F.2.1 dX12_isPlanned_8 rfl (lv_at hl 0 rfl) ?_
    refine a_Vi F hml hl.1 hA hP hD hS (As := []) (c_X12_isOver_85 l dC dI ad cA nF _  hR) (cs_RX12_263 (d := 1) F.2.2.1 (by decide)) tc_85 rfl rfl rfl rfl (Nat.le_of_ble_eq_true rfl) dX12_isPlanned_9 ⟨Nat.le_refl 0, Nat.le_refl 0⟩ (fun r4 uN4 H locs hq hP hD hS => ?_)
    obtain ⟨hu4, gr4, xr4⟩ := hq
    rw [hu4] at hP hD
    have g5 : (0 : Int) ≤ (u0.1 87 106).toInt ∧ (u0.1 87 106).toInt ≤ 480 := hR 87 106
    have g6 : (4 : Int) ≤ (u0.1 87 0).toInt ∧ (u0.1 87 0).toInt ≤ 24 := hR 87 0
    have xr4 : r4.toInt = 0 → (u0.1 87 106).toInt ≠ 20 * (u0.1 87 0).toInt := xr4
    refine z_ne F 31 dX12_isPlanned_12 (by decide) rfl (fun c7 => ?_) (fun c7 => ?_)
    · refine a_ic F (0 : Int32) dX12_isPlanned_31 (by decide) ?_
      exact a_retz F hr hlocks hP hD hS dX12_isPlanned_32 (Or.inl rfl) ⟨rfl, (by decide), (fun h9 => absurd (by decide) h9)⟩
    · refine lv_aload_n F.1 F.2.1 dX12_isPlanned_15 rfl (lv_at hl 0 rfl) ?_
      refine lv_iload_n F.1 F.2.1 dX12_isPlanned_16 rfl (lv_at hl 1 rfl) ?_
      refine a_Vi F hml hl.1 hA hP hD hS (As := [.int p0]) (c_X12_dueSet_85_f l dC dI ad cA nF _ p0 hR (by omega)) (cs_RX12_345 (d := 5) F.2.2.1 (by decide)) tc_85 rfl rfl rfl rfl (Nat.le_of_ble_eq_true rfl) dX12_isPlanned_17 ⟨Nat.le_refl 0, Nat.le_refl 0⟩ (fun r8 uN8 H locs hq hP hD hS => ?_)
      obtain ⟨hu8, gr8, xr8⟩ := hq
      rw [hu8] at hP hD
      have xr8 : r8.toInt = dqS u0 p0.toInt := xr8
      have hdq : r8.toInt = dqS u0 p0.toInt := xr8
      refine a_Si F hml hl.1 hA hP hD hS (As := [.int r8]) (c_X12_bits_f l dC dI ad cA nF _ r8 hR (by omega)) (cs_RX12_348 (d := 1) F.2.2.1 (by decide)) rfl rfl (Nat.le_of_ble_eq_true rfl) dX12_isPlanned_20 ⟨Nat.le_refl 0, Nat.le_refl 0⟩ (fun r10 uN10 H locs hq hP hD hS => ?_)
      obtain ⟨hu10, gr10, xr10⟩ := hq
      rw [hu10] at hP hD
      have xr10 : r10.toInt = popS r8.toInt := xr10
      refine a_ic F (5 : Int32) dX12_isPlanned_23 (by decide) ?_
      refine b_ge F 31 dX12_isPlanned_24 (by decide) rfl ic_5 (fun c11 => ?_) (fun c11 => ?_)
      · refine a_ic F (0 : Int32) dX12_isPlanned_31 (by decide) ?_
        exact a_retz F hr hlocks hP hD hS dX12_isPlanned_32 (Or.inl rfl) ⟨rfl, (by decide), (fun h9 => absurd (by decide) h9)⟩
      · refine a_ic F (1 : Int32) dX12_isPlanned_27 (by decide) ?_
        refine lv_goto (tgt := 32) F.1 F.2.1 dX12_isPlanned_28 (by decide) ?_
        exact a_retz F hr hlocks hP hD hS dX12_isPlanned_32 (Or.inr rfl) ⟨rfl, (by decide), (fun _ => by rw [← hdq]; omega)⟩
set_option maxHeartbeats 600000 in
set_option maxRecDepth 100000 in
theorem c_X12_timesOn_85_f (l : Launch) (dC : Nat → ClassId) (dI : Nat → Nat → Nat) (ad : Nat → Nat) (cA : Nat → ClassId) (nF : Nat) (u0 : ac_U) (p0 : Int32) (p1 : Int32) (p2 : Int32) (hR : ac_R rg u0) (hp0 : (0 : Int) ≤ p0.toInt ∧ p0.toInt ≤ 7) (hp1 : (0 : Int) ≤ p1.toInt ∧ p1.toInt ≤ 0) (hp2 : (0 : Int) ≤ p2.toInt ∧ p2.toInt ≤ 120) : ac_Mi l yX12_timesOn (.code yX12_timesOn cX12_timesOn 8 (some .int) :: TB) 3 (dC, dI) vwCl (ac_ty cA) ad cA (TT nF) [.ref (ad 85), .int p0, .int p1, .int p2] u0 (fun (r : Int32) (u : ac_U) => u = u0 ∧ ((0 : Int) ≤ r.toInt ∧ r.toInt ≤ 80)) := by
  refine ac_Mi.of (cc := cX12_timesOn) (maxL := 8) (ret := (some .int)) (by decide) rfl (Nat.le_of_ble_eq_true rfl) ?_
  intro p e s m below meth c A ls F hml hr hlocks hA hP hD hS hl
  have F : ac_X p s m [.ref (ad 85), .int p0, .int p1, .int p2].toArray c cX12_timesOn RX12 TB (dC, dI) vwCl (ac_ty cA) := ⟨F.1, F.2.1, fun w h => F.2.2.1 w (List.mem_cons_of_mem _ h), F.2.2.2.1, F.2.2.2.2⟩
  have hl : lv_has ls 8 [(0, .ref (ad 85)), (1, .int p0), (2, .int p1), (3, .int p2)] := hl
  have L6 : ∀ (n6 : Nat) (x4 : Int32) (x5 : Int32) (H : Heap) (locs : List Loc) (ls : Array Slot), 80 - x5.toInt < (n6 : Int) → (0 : Int) ≤ x4.toInt ∧ x4.toInt ≤ 80 → (0 : Int) ≤ x5.toInt ∧ x5.toInt ≤ 80 → x4.toInt ≤ x5.toInt → va_P (dC, dI) vwCl (ac_w ad cA (TT nF) u0) H → va_D A (ac_w ad cA (TT nF) u0) → va_S A s.heap H locs → lv_has ls 8 [(0, .ref (ad 85)), (1, .int p0), (2, .int p1), (3, .int p2), (4, .int x4), (5, .int x5)] → W p l e (ac_rm 3) s m [.ref (ad 85), .int p0, .int p1, .int p2].toArray below meth c H locs 0 0 (MQ below (va_Qi (fun (r : Int32) (u : ac_U) => u = u0 ∧ ((0 : Int) ≤ r.toInt ∧ r.toInt ≤ 80)) (ac_B (dC, dI) vwCl (ac_ty cA) ad cA (TT nF) A) A) [.ref (ad 85), .int p0, .int p1, .int p2].toArray s 0 0 A) (F0 m 6 ls []) := by
    intro n6
    induction n6 with
    | zero => intro x4 x5 H locs ls hn6 f0 f1 f2 hP hD hS hl; exfalso; omega
    | succ n6 ih6 =>
      intro x4 x5 H locs ls hn6 f0 f1 f2 hP hD hS hl
      have L208 : ∀ (x4 : Int32) (x5 : Int32) (H : Heap) (locs : List Loc) (ls : Array Slot), (0 : Int) ≤ x4.toInt ∧ x4.toInt ≤ 81 → (0 : Int) ≤ x5.toInt ∧ x5.toInt ≤ 79 → (1 : Int) ≤ (u0.1 87 123).toInt ∧ (u0.1 87 123).toInt ≤ 80 → x4.toInt ≤ x5.toInt + 1 → 80 - x5.toInt + 0 < ((n6 : Nat) : Int) + 1 → va_P (dC, dI) vwCl (ac_w ad cA (TT nF) u0) H → va_D A (ac_w ad cA (TT nF) u0) → va_S A s.heap H locs → lv_has ls 8 [(0, .ref (ad 85)), (1, .int p0), (2, .int p1), (3, .int p2), (4, .int x4), (5, .int x5)] → W p l e (ac_rm 3) s m [.ref (ad 85), .int p0, .int p1, .int p2].toArray below meth c H locs 0 0 (MQ below (va_Qi (fun (r : Int32) (u : ac_U) => u = u0 ∧ ((0 : Int) ≤ r.toInt ∧ r.toInt ≤ 80)) (ac_B (dC, dI) vwCl (ac_ty cA) ad cA (TT nF) A) A) [.ref (ad 85), .int p0, .int p1, .int p2].toArray s 0 0 A) (F0 m 208 ls []) := by
        intro x4 x5 H locs ls f0 f1 f2 f3 f4 hP hD hS hl
        refine a_iinc F (k := 5) (fun v1 => [(5, .int v1), (0, .ref (ad 85)), (1, .int p0), (2, .int p1), (3, .int p2), (4, .int x4)]) dX12_timesOn_208 hl rfl rfl (by decide) (by omega) (by decide) (fun _ => rfl) (fun v1 ls hv1 hl => ?_)
        refine lv_goto (tgt := 6) F.1 F.2.1 dX12_timesOn_211 (by decide) ?_
        exact ih6 x4 v1 _ _ _ (by omega) (by omega) (by omega) (by omega : x4.toInt ≤ v1.toInt) hP hD hS (lv_sub hl [1, 2, 3, 4, 5, 0] rfl)
      refine lv_iload F.1 F.2.1 dX12_timesOn_6 (lv_at hl 5 rfl) ?_
      refine lv_aload_n F.1 F.2.1 dX12_timesOn_8 rfl (lv_at hl 0 rfl) ?_
      refine a_getr F inX12 hP 85 6 tc_85 rfl rfl (by decide) q1477 (fun _ h9 => h9) dX12_timesOn_9 ?_
      refine a_bp F (123 : Int32) dX12_timesOn_12 (by decide) ?_
      have g2 : (0 : Int) ≤ (u0.1 87 123).toInt ∧ (u0.1 87 123).toInt ≤ 80 := hR 87 123
      refine a_ialdK F hP 87 123 tc_87 rfl rfl (i_in ic_123 (by omega)) (v := (u0.1 87 123)) rfl dX12_timesOn_14 ?_
      refine b_ge F 214 dX12_timesOn_15 (by decide) rfl rfl (fun c3 => ?_) (fun c3 => ?_)
      · refine lv_iload F.1 F.2.1 dX12_timesOn_214 (lv_at hl 4 rfl) ?_
        exact a_reti F hr hlocks hP hD hS dX12_timesOn_216 ⟨rfl, (by omega : (0 : Int) ≤ x4.toInt ∧ x4.toInt ≤ 80)⟩
      · refine a_sp F (148 : Int32) dX12_timesOn_18 (by decide) ?_
        refine a_ic F (4 : Int32) dX12_timesOn_21 (by decide) ?_
        refine lv_iload F.1 F.2.1 dX12_timesOn_22 (lv_at hl 5 rfl) ?_
        refine a_imul F dX12_timesOn_24 ic_4 rfl (by omega) (fun v4 hv4 => ?_)
        refine a_iadd F dX12_timesOn_25 ic_148 rfl (by omega) (fun v5 hv5 => ?_)
        refine lv_istore (lv' := [(6, .int v5), (0, .ref (ad 85)), (1, .int p0), (2, .int p1), (3, .int p2), (4, .int x4), (5, .int x5)]) F.1 F.2.1 dX12_timesOn_26 hl (by decide) rfl (fun ls hl => ?_)
        refine lv_aload_n F.1 F.2.1 dX12_timesOn_28 rfl (lv_at hl 1 rfl) ?_
        refine a_getr F inX12 hP 85 6 tc_85 rfl rfl (by decide) q1477 (fun _ h9 => h9) dX12_timesOn_29 ?_
        refine lv_iload F.1 F.2.1 dX12_timesOn_32 (lv_at hl 0 rfl) ?_
        refine a_iald F hP 87 tc_87 rfl (i_in rfl (by omega)) dX12_timesOn_34 (fun v6 ev6 => ?_)
        refine lv_iload_n F.1 F.2.1 dX12_timesOn_35 rfl (lv_at hl 4 rfl) ?_
        refine lv_aload_n F.1 F.2.1 dX12_timesOn_36 rfl (lv_at hl 1 rfl) ?_
        refine a_getr F inX12 hP 85 6 tc_85 rfl rfl (by decide) q1477 (fun _ h9 => h9) dX12_timesOn_37 ?_
        refine a_ic F (0 : Int32) dX12_timesOn_40 (by decide) ?_
        have g7 : (4 : Int) ≤ (u0.1 87 0).toInt ∧ (u0.1 87 0).toInt ≤ 24 := hR 87 0
        refine a_ialdK F hP 87 0 tc_87 rfl rfl (i_in ic_0 (by omega)) (v := (u0.1 87 0)) rfl dX12_timesOn_41 ?_
        have kv8 := i_mulb (x := p2.toInt) (y := (u0.1 87 0).toInt) (a0 := 0) (a1 := 120) (b0 := 4) (b1 := 24) (by omega) (by omega) (by omega)
        refine a_imul F dX12_timesOn_42 rfl rfl (by omega) (fun v8 hv8 => ?_)
        refine a_isubU F dX12_timesOn_43 (fun v9 => ?_)
        refine lv_istore (lv' := [(7, .int v9), (6, .int v5), (0, .ref (ad 85)), (1, .int p0), (2, .int p1), (3, .int p2), (4, .int x4), (5, .int x5)]) F.1 F.2.1 dX12_timesOn_44 hl (by decide) rfl (fun ls hl => ?_)
        refine lv_aload_n F.1 F.2.1 dX12_timesOn_46 rfl (lv_at hl 2 rfl) ?_
        refine a_getr F inX12 hP 85 6 tc_85 rfl rfl (by decide) q1477 (fun _ h9 => h9) dX12_timesOn_47 ?_
        refine lv_iload F.1 F.2.1 dX12_timesOn_50 (lv_at hl 1 rfl) ?_
        refine a_iald F hP 87 tc_87 rfl (i_in rfl (by omega)) dX12_timesOn_52 (fun v10 ev10 => ?_)
        refine lv_aload_n F.1 F.2.1 dX12_timesOn_53 rfl (lv_at hl 2 rfl) ?_
        refine a_getr F inX12 hP 85 6 tc_85 rfl rfl (by decide) q1477 (fun _ h9 => h9) dX12_timesOn_54 ?_
        refine a_bp F (124 : Int32) dX12_timesOn_57 (by decide) ?_
        refine lv_iload_n F.1 F.2.1 dX12_timesOn_59 rfl (lv_at hl 3 rfl) ?_
        refine a_iadd F dX12_timesOn_60 ic_124 rfl (by omega) (fun v11 hv11 => ?_)
        refine a_iald F hP 87 tc_87 rfl (i_in rfl (by omega)) dX12_timesOn_61 (fun v12 ev12 => ?_)
        have hv12 : (0 : Int) ≤ v12.toInt ∧ v12.toInt ≤ 481 := rg_seg_87_124_131 hR ev12 (by omega)
        refine a_ic F (1 : Int32) dX12_timesOn_62 (by decide) ?_
        refine a_isub F dX12_timesOn_63 rfl ic_1 (by omega) (fun v13 hv13 => ?_)
        refine b_lt F 208 dX12_timesOn_64 (by decide) rfl rfl (fun c14 => ?_) (fun c14 => ?_)
        · exact L208 x4 x5 _ _ _ (by omega) (by omega) (by omega : (1 : Int) ≤ (u0.1 87 123).toInt ∧ (u0.1 87 123).toInt ≤ 80) (by omega : x4.toInt ≤ x5.toInt + 1) (by omega) hP hD hS (lv_sub hl [2, 3, 4, 5, 6, 7] rfl)
        · refine lv_iload F.1 F.2.1 dX12_timesOn_67 (lv_at hl 0 rfl) ?_
          refine lv_aload_n F.1 F.2.1 dX12_timesOn_69 rfl (lv_at hl 2 rfl) ?_
          refine a_getr F inX12 hP 85 6 tc_85 rfl rfl (by decide) q1477 (fun _ h9 => h9) dX12_timesOn_70 ?_
          refine a_bp F (50 : Int32) dX12_timesOn_73 (by decide) ?_
          refine lv_iload_n F.1 F.2.1 dX12_timesOn_75 rfl (lv_at hl 3 rfl) ?_
          refine a_iadd F dX12_timesOn_76 ic_50 rfl (by omega) (fun v15 hv15 => ?_)
          refine a_iald F hP 87 tc_87 rfl (i_in rfl (by omega)) dX12_timesOn_77 (fun v16 ev16 => ?_)
          refine b_lt F 208 dX12_timesOn_78 (by decide) rfl rfl (fun c17 => ?_) (fun c17 => ?_)
          · exact L208 x4 x5 _ _ _ (by omega) (by omega) (by omega : (1 : Int) ≤ (u0.1 87 123).toInt ∧ (u0.1 87 123).toInt ≤ 80) (by omega : x4.toInt ≤ x5.toInt + 1) (by omega) hP hD hS (lv_sub hl [2, 3, 4, 5, 6, 7] rfl)
          · refine lv_iload F.1 F.2.1 dX12_timesOn_81 (lv_at hl 0 rfl) ?_
            refine lv_aload_n F.1 F.2.1 dX12_timesOn_83 rfl (lv_at hl 2 rfl) ?_
            refine lv_iload_n F.1 F.2.1 dX12_timesOn_84 rfl (lv_at hl 3 rfl) ?_
            refine lv_iload_n F.1 F.2.1 dX12_timesOn_85 rfl (lv_at hl 4 rfl) ?_
            refine a_Vi F hml hl.1 hA hP hD hS (As := [.int p0, .int p1]) (c_X12_lastOf_85 l dC dI ad cA nF _ p0 p1 hR (by omega) (by omega)) (cs_RX12_298 (d := 2) F.2.2.1 (by decide)) tc_85 rfl rfl rfl rfl (Nat.le_of_ble_eq_true rfl) dX12_timesOn_86 ⟨Nat.le_refl 0, Nat.le_refl 0⟩ (fun r18 uN18 H locs hq hP hD hS => ?_)
            obtain ⟨hu18, gr18⟩ := hq
            rw [hu18] at hP hD
            refine b_gt F 208 dX12_timesOn_89 (by decide) rfl rfl (fun c19 => ?_) (fun c19 => ?_)
            · exact L208 x4 x5 _ _ _ (by omega) (by omega) (by omega : (1 : Int) ≤ (u0.1 87 123).toInt ∧ (u0.1 87 123).toInt ≤ 80) (by omega : x4.toInt ≤ x5.toInt + 1) (by omega) hP hD hS (lv_sub hl [2, 3, 4, 5, 6, 7] rfl)
            · refine lv_aload_n F.1 F.2.1 dX12_timesOn_92 rfl (lv_at hl 2 rfl) ?_
              refine a_getr F inX12 hP 85 6 tc_85 rfl rfl (by decide) q1477 (fun _ h9 => h9) dX12_timesOn_93 ?_
              refine lv_iload F.1 F.2.1 dX12_timesOn_96 (lv_at hl 1 rfl) ?_
              refine a_ic F (1 : Int32) dX12_timesOn_98 (by decide) ?_
              refine a_iadd F dX12_timesOn_99 rfl ic_1 (by omega) (fun v20 hv20 => ?_)
              refine a_iald F hP 87 tc_87 rfl (i_in rfl (by omega)) dX12_timesOn_100 (fun v21 ev21 => ?_)
              refine lv_aload_n F.1 F.2.1 dX12_timesOn_101 rfl (lv_at hl 2 rfl) ?_
              refine a_getr F inX12 hP 85 6 tc_85 rfl rfl (by decide) q1477 (fun _ h9 => h9) dX12_timesOn_102 ?_
              refine a_bp F (26 : Int32) dX12_timesOn_105 (by decide) ?_
              refine lv_iload_n F.1 F.2.1 dX12_timesOn_107 rfl (lv_at hl 3 rfl) ?_
              refine a_iadd F dX12_timesOn_108 ic_26 rfl (by omega) (fun v22 hv22 => ?_)
              refine a_iald F hP 87 tc_87 rfl (i_in rfl (by omega)) dX12_timesOn_109 (fun v23 ev23 => ?_)
              refine b_ne F 208 dX12_timesOn_110 (by decide) rfl rfl (fun c24 => ?_) (fun c24 => ?_)
              · exact L208 x4 x5 _ _ _ (by omega) (by omega) (by omega : (1 : Int) ≤ (u0.1 87 123).toInt ∧ (u0.1 87 123).toInt ≤ 80) (by omega : x4.toInt ≤ x5.toInt + 1) (by omega) hP hD hS (lv_sub hl [2, 3, 4, 5, 6, 7] rfl)
              · refine lv_aload_n F.1 F.2.1 dX12_timesOn_113 rfl (lv_at hl 2 rfl) ?_
                refine a_getr F inX12 hP 85 6 tc_85 rfl rfl (by decide) q1477 (fun _ h9 => h9) dX12_timesOn_114 ?_
                refine lv_iload F.1 F.2.1 dX12_timesOn_117 (lv_at hl 1 rfl) ?_
                refine a_ic F (2 : Int32) dX12_timesOn_119 (by decide) ?_
                refine a_iadd F dX12_timesOn_120 rfl ic_2 (by omega) (fun v25 hv25 => ?_)
                refine a_iald F hP 87 tc_87 rfl (i_in rfl (by omega)) dX12_timesOn_121 (fun v26 ev26 => ?_)
                refine lv_aload_n F.1 F.2.1 dX12_timesOn_122 rfl (lv_at hl 2 rfl) ?_
                refine a_getr F inX12 hP 85 6 tc_85 rfl rfl (by decide) q1477 (fun _ h9 => h9) dX12_timesOn_123 ?_
                refine a_bp F (34 : Int32) dX12_timesOn_126 (by decide) ?_
                refine lv_iload_n F.1 F.2.1 dX12_timesOn_128 rfl (lv_at hl 3 rfl) ?_
                refine a_iadd F dX12_timesOn_129 ic_34 rfl (by omega) (fun v27 hv27 => ?_)
                refine a_iald F hP 87 tc_87 rfl (i_in rfl (by omega)) dX12_timesOn_130 (fun v28 ev28 => ?_)
                refine b_eq F 137 dX12_timesOn_131 (by decide) rfl rfl (fun c29 => ?_) (fun c29 => ?_)
                · refine lv_iload F.1 F.2.1 dX12_timesOn_137 (lv_at hl 6 rfl) ?_
                  refine lv_aload_n F.1 F.2.1 dX12_timesOn_139 rfl (lv_at hl 2 rfl) ?_
                  refine a_getr F inX12 hP 85 6 tc_85 rfl rfl (by decide) q1477 (fun _ h9 => h9) dX12_timesOn_140 ?_
                  refine lv_iload F.1 F.2.1 dX12_timesOn_143 (lv_at hl 1 rfl) ?_
                  refine a_ic F (3 : Int32) dX12_timesOn_145 (by decide) ?_
                  refine a_iadd F dX12_timesOn_146 rfl ic_3 (by omega) (fun v30 hv30 => ?_)
                  refine a_iald F hP 87 tc_87 rfl (i_in rfl (by omega)) dX12_timesOn_147 (fun v31 ev31 => ?_)
                  refine lv_aload_n F.1 F.2.1 dX12_timesOn_148 rfl (lv_at hl 2 rfl) ?_
                  refine a_getr F inX12 hP 85 6 tc_85 rfl rfl (by decide) q1477 (fun _ h9 => h9) dX12_timesOn_149 ?_
                  refine a_bp F (42 : Int32) dX12_timesOn_152 (by decide) ?_
                  refine lv_iload_n F.1 F.2.1 dX12_timesOn_154 rfl (lv_at hl 3 rfl) ?_
                  refine a_iadd F dX12_timesOn_155 ic_42 rfl (by omega) (fun v32 hv32 => ?_)
                  refine a_iald F hP 87 tc_87 rfl (i_in rfl (by omega)) dX12_timesOn_156 (fun v33 ev33 => ?_)
                  have hv33 : (0 : Int) ≤ v33.toInt ∧ v33.toInt ≤ 7 := rg_seg_87_42_49 hR ev33 (by omega)
                  refine b_eq F 200 dX12_timesOn_157 (by decide) rfl rfl (fun c34 => ?_) (fun c34 => ?_)
                  · refine a_ic F (1 : Int32) dX12_timesOn_200 (by decide) ?_
                    refine lv_goto (tgt := 205) F.1 F.2.1 dX12_timesOn_201 (by decide) ?_
                    refine a_iadd F dX12_timesOn_205 rfl ic_1 (by omega) (fun v35 hv35 => ?_)
                    refine lv_istore (lv' := [(4, .int v35), (7, .int v9), (6, .int v5), (0, .ref (ad 85)), (1, .int p0), (2, .int p1), (3, .int p2), (5, .int x5)]) F.1 F.2.1 dX12_timesOn_206 hl (by decide) rfl (fun ls hl => ?_)
                    exact L208 v35 x5 _ _ _ (by omega) (by omega) (by omega : (1 : Int) ≤ (u0.1 87 123).toInt ∧ (u0.1 87 123).toInt ≤ 80) (by omega : v35.toInt ≤ x5.toInt + 1) (by omega) hP hD hS (lv_sub hl [3, 4, 5, 6, 0, 7] rfl)
                  · refine lv_iload_n F.1 F.2.1 dX12_timesOn_160 rfl (lv_at hl 4 rfl) ?_
                    refine a_ic F (2 : Int32) dX12_timesOn_161 (by decide) ?_
                    refine a_Si F hml hl.1 hA hP hD hS (As := [.int p1, .int (2 : Int32)]) (c_X12_bitOf l dC dI ad cA nF _ p1 (2 : Int32) hR) (cs_RX12_223 (d := 1) F.2.2.1 (by decide)) rfl rfl (Nat.le_of_ble_eq_true rfl) dX12_timesOn_162 ⟨Nat.le_refl 0, Nat.le_refl 0⟩ (fun r36 uN36 H locs hq hP hD hS => ?_)
                    obtain ⟨hu36, gr36⟩ := hq
                    rw [hu36] at hP hD
                    refine z_eq F 204 dX12_timesOn_165 (by decide) rfl (fun c37 => ?_) (fun c37 => ?_)
                    · refine a_ic F (0 : Int32) dX12_timesOn_204 (by decide) ?_
                      refine a_iadd F dX12_timesOn_205 rfl ic_0 (by omega) (fun v38 hv38 => ?_)
                      refine lv_istore (lv' := [(4, .int v38), (7, .int v9), (6, .int v5), (0, .ref (ad 85)), (1, .int p0), (2, .int p1), (3, .int p2), (5, .int x5)]) F.1 F.2.1 dX12_timesOn_206 hl (by decide) rfl (fun ls hl => ?_)
                      exact L208 v38 x5 _ _ _ (by omega) (by omega) (by omega : (1 : Int) ≤ (u0.1 87 123).toInt ∧ (u0.1 87 123).toInt ≤ 80) (by omega : v38.toInt ≤ x5.toInt + 1) (by omega) hP hD hS (lv_sub hl [3, 4, 5, 6, 0, 7] rfl)
                    · refine lv_aload_n F.1 F.2.1 dX12_timesOn_168 rfl (lv_at hl 2 rfl) ?_
                      refine a_getr F inX12 hP 85 6 tc_85 rfl rfl (by decide) q1477 (fun _ h9 => h9) dX12_timesOn_169 ?_
                      refine a_bp F (8 : Int32) dX12_timesOn_172 (by decide) ?_
                      refine lv_aload_n F.1 F.2.1 dX12_timesOn_174 rfl (lv_at hl 2 rfl) ?_
                      refine a_getr F inX12 hP 85 6 tc_85 rfl rfl (by decide) q1477 (fun _ h9 => h9) dX12_timesOn_175 ?_
                      refine a_bp F (42 : Int32) dX12_timesOn_178 (by decide) ?_
                      refine lv_iload_n F.1 F.2.1 dX12_timesOn_180 rfl (lv_at hl 3 rfl) ?_
                      refine a_iadd F dX12_timesOn_181 ic_42 rfl (by omega) (fun v39 hv39 => ?_)
                      refine a_iald F hP 87 tc_87 rfl (i_in rfl (by omega)) dX12_timesOn_182 (fun v40 ev40 => ?_)
                      have hv40 : (0 : Int) ≤ v40.toInt ∧ v40.toInt ≤ 7 := rg_seg_87_42_49 hR ev40 (by omega)
                      refine a_iadd F dX12_timesOn_183 ic_8 rfl (by omega) (fun v41 hv41 => ?_)
                      refine a_iald F hP 87 tc_87 rfl (i_in rfl (by omega)) dX12_timesOn_184 (fun v42 ev42 => ?_)
                      refine lv_aload_n F.1 F.2.1 dX12_timesOn_185 rfl (lv_at hl 2 rfl) ?_
                      refine a_getr F inX12 hP 85 6 tc_85 rfl rfl (by decide) q1477 (fun _ h9 => h9) dX12_timesOn_186 ?_
                      refine lv_iload F.1 F.2.1 dX12_timesOn_189 (lv_at hl 1 rfl) ?_
                      refine a_ic F (3 : Int32) dX12_timesOn_191 (by decide) ?_
                      refine a_iadd F dX12_timesOn_192 rfl ic_3 (by omega) (fun v43 hv43 => ?_)
                      refine a_iald F hP 87 tc_87 rfl (i_in rfl (by omega)) dX12_timesOn_193 (fun v44 ev44 => ?_)
                      refine a_Si F hml hl.1 hA hP hD hS (As := [.int v42, .int v44]) (c_X12_bitOf l dC dI ad cA nF _ v42 v44 hR) (cs_RX12_223 (d := 1) F.2.2.1 (by decide)) rfl rfl (Nat.le_of_ble_eq_true rfl) dX12_timesOn_194 ⟨Nat.le_refl 0, Nat.le_refl 0⟩ (fun r45 uN45 H locs hq hP hD hS => ?_)
                      obtain ⟨hu45, gr45⟩ := hq
                      rw [hu45] at hP hD
                      refine z_eq F 204 dX12_timesOn_197 (by decide) rfl (fun c46 => ?_) (fun c46 => ?_)
                      · refine a_ic F (0 : Int32) dX12_timesOn_204 (by decide) ?_
                        refine a_iadd F dX12_timesOn_205 rfl ic_0 (by omega) (fun v47 hv47 => ?_)
                        refine lv_istore (lv' := [(4, .int v47), (7, .int v9), (6, .int v5), (0, .ref (ad 85)), (1, .int p0), (2, .int p1), (3, .int p2), (5, .int x5)]) F.1 F.2.1 dX12_timesOn_206 hl (by decide) rfl (fun ls hl => ?_)
                        exact L208 v47 x5 _ _ _ (by omega) (by omega) (by omega : (1 : Int) ≤ (u0.1 87 123).toInt ∧ (u0.1 87 123).toInt ≤ 80) (by omega : v47.toInt ≤ x5.toInt + 1) (by omega) hP hD hS (lv_sub hl [3, 4, 5, 6, 0, 7] rfl)
                      · refine a_ic F (1 : Int32) dX12_timesOn_200 (by decide) ?_
                        refine lv_goto (tgt := 205) F.1 F.2.1 dX12_timesOn_201 (by decide) ?_
                        refine a_iadd F dX12_timesOn_205 rfl ic_1 (by omega) (fun v48 hv48 => ?_)
                        refine lv_istore (lv' := [(4, .int v48), (7, .int v9), (6, .int v5), (0, .ref (ad 85)), (1, .int p0), (2, .int p1), (3, .int p2), (5, .int x5)]) F.1 F.2.1 dX12_timesOn_206 hl (by decide) rfl (fun ls hl => ?_)
                        exact L208 v48 x5 _ _ _ (by omega) (by omega) (by omega : (1 : Int) ≤ (u0.1 87 123).toInt ∧ (u0.1 87 123).toInt ≤ 80) (by omega : v48.toInt ≤ x5.toInt + 1) (by omega) hP hD hS (lv_sub hl [3, 4, 5, 6, 0, 7] rfl)
                · refine lv_goto (tgt := 208) F.1 F.2.1 dX12_timesOn_134 (by decide) ?_
                  exact L208 x4 x5 _ _ _ (by omega) (by omega) (by omega : (1 : Int) ≤ (u0.1 87 123).toInt ∧ (u0.1 87 123).toInt ≤ 80) (by omega : x4.toInt ≤ x5.toInt + 1) (by omega) hP hD hS (lv_sub hl [2, 3, 4, 5, 6, 7] rfl)
  refine a_ic F (0 : Int32) dX12_timesOn_0 (by decide) ?_
  refine lv_istore (lv' := [(4, .int (0 : Int32)), (0, .ref (ad 85)), (1, .int p0), (2, .int p1), (3, .int p2)]) F.1 F.2.1 dX12_timesOn_1 hl (by decide) rfl (fun ls hl => ?_)
  refine a_ic F (0 : Int32) dX12_timesOn_3 (by decide) ?_
  refine lv_istore (lv' := [(5, .int (0 : Int32)), (4, .int (0 : Int32)), (0, .ref (ad 85)), (1, .int p0), (2, .int p1), (3, .int p2)]) F.1 F.2.1 dX12_timesOn_4 hl (by decide) rfl (fun ls hl => ?_)
  exact L6 82 (0 : Int32) (0 : Int32) _ _ _ (by decide) (by decide) (by decide) (by first | (rw [ic_0]; exact (by omega : (0 : Int) ≤ (0 : Int))) | rw [ic_0]) hP hD hS (lv_sub hl [2, 3, 4, 5, 1, 0] rfl)
set_option maxHeartbeats 600000 in
set_option maxRecDepth 100000 in
theorem c_X12_leftOf_85_f (l : Launch) (dC : Nat → ClassId) (dI : Nat → Nat → Nat) (ad : Nat → Nat) (cA : Nat → ClassId) (nF : Nat) (u0 : ac_U) (p0 : Int32) (p1 : Int32) (hR : ac_R rg u0) (hp0 : (0 : Int) ≤ p0.toInt ∧ p0.toInt ≤ 7) (hp1 : (0 : Int) ≤ p1.toInt ∧ p1.toInt ≤ 0) : ac_Mi l yX12_leftOf (.code yX12_leftOf cX12_leftOf 4 (some .int) :: TB) 4 (dC, dI) vwCl (ac_ty cA) ad cA (TT nF) [.ref (ad 85), .int p0, .int p1] u0 (fun (r : Int32) (u : ac_U) => u = u0 ∧ ((0 : Int) ≤ r.toInt ∧ r.toInt ≤ 3)) := by
  refine ac_Mi.of (cc := cX12_leftOf) (maxL := 4) (ret := (some .int)) (by decide) rfl (Nat.le_of_ble_eq_true rfl) ?_
  intro p e s m below meth c A ls F hml hr hlocks hA hP hD hS hl
  have F : ac_X p s m [.ref (ad 85), .int p0, .int p1].toArray c cX12_leftOf RX12 TB (dC, dI) vwCl (ac_ty cA) := ⟨F.1, F.2.1, fun w h => F.2.2.1 w (List.mem_cons_of_mem _ h), F.2.2.2.1, F.2.2.2.2⟩
  have hl : lv_has ls 4 [(0, .ref (ad 85)), (1, .int p0), (2, .int p1)] := hl
  refine lv_aload_n F.1 F.2.1 dX12_leftOf_0 rfl (lv_at hl 0 rfl) ?_
  refine a_getr F inX12 hP 85 6 tc_85 rfl rfl (by decide) q1477 (fun _ h9 => h9) dX12_leftOf_1 ?_
  refine a_bp F (66 : Int32) dX12_leftOf_4 (by decide) ?_
  refine lv_iload_n F.1 F.2.1 dX12_leftOf_6 rfl (lv_at hl 1 rfl) ?_
  refine a_iadd F dX12_leftOf_7 ic_66 rfl (by omega) (fun v1 hv1 => ?_)
  refine a_iald F hP 87 tc_87 rfl (i_in rfl (by omega)) dX12_leftOf_8 (fun v2 ev2 => ?_)
  have hv2 : (0 : Int) ≤ v2.toInt ∧ v2.toInt ≤ 3 := rg_seg_87_66_73 hR ev2 (by omega)
  refine lv_aload_n F.1 F.2.1 dX12_leftOf_9 rfl (lv_at hl 0 rfl) ?_
  refine lv_iload_n F.1 F.2.1 dX12_leftOf_10 rfl (lv_at hl 1 rfl) ?_
  refine lv_iload_n F.1 F.2.1 dX12_leftOf_11 rfl (lv_at hl 2 rfl) ?_
  refine lv_aload_n F.1 F.2.1 dX12_leftOf_12 rfl (lv_at hl 0 rfl) ?_
  refine a_Vi F hml hl.1 hA hP hD hS (As := []) (c_X12_dayNow_85 l dC dI ad cA nF _  hR) (cs_RX12_260 (d := 1) F.2.2.1 (by decide)) tc_85 rfl rfl rfl rfl (Nat.le_of_ble_eq_true rfl) dX12_leftOf_13 ⟨Nat.le_refl 0, Nat.le_refl 0⟩ (fun r3 uN3 H locs hq hP hD hS => ?_)
  obtain ⟨hu3, gr3⟩ := hq
  rw [hu3] at hP hD
  refine a_Vi F hml hl.1 hA hP hD hS (As := [.int p0, .int p1, .int r3]) (c_X12_timesOn_85_f l dC dI ad cA nF _ p0 p1 r3 hR (by omega) (by omega) (by omega)) (cs_RX12_301 (d := 3) F.2.2.1 (by decide)) tc_85 rfl rfl rfl rfl (Nat.le_of_ble_eq_true rfl) dX12_leftOf_16 ⟨Nat.le_refl 0, Nat.le_refl 0⟩ (fun r4 uN4 H locs hq hP hD hS => ?_)
  obtain ⟨hu4, gr4⟩ := hq
  rw [hu4] at hP hD
  refine a_isub F dX12_leftOf_19 rfl rfl (by omega) (fun v5 hv5 => ?_)
  refine lv_istore_n (lv' := [(3, .int v5), (0, .ref (ad 85)), (1, .int p0), (2, .int p1)]) F.1 F.2.1 dX12_leftOf_20 rfl hl (by decide) rfl (fun ls hl => ?_)
  refine lv_iload_n F.1 F.2.1 dX12_leftOf_21 rfl (lv_at hl 0 rfl) ?_
  refine z_ge F 29 dX12_leftOf_22 (by decide) rfl (fun c6 => ?_) (fun c6 => ?_)
  · refine lv_iload_n F.1 F.2.1 dX12_leftOf_29 rfl (lv_at hl 0 rfl) ?_
    exact a_reti F hr hlocks hP hD hS dX12_leftOf_30 ⟨rfl, (by omega : (0 : Int) ≤ v5.toInt ∧ v5.toInt ≤ 3)⟩
  · refine a_ic F (0 : Int32) dX12_leftOf_25 (by decide) ?_
    refine lv_goto (tgt := 30) F.1 F.2.1 dX12_leftOf_26 (by decide) ?_
    exact a_reti F hr hlocks hP hD hS dX12_leftOf_30 ⟨rfl, (by decide)⟩
set_option maxHeartbeats 600000 in
set_option maxRecDepth 100000 in
theorem c_X12_plansFor_85 (l : Launch) (dC : Nat → ClassId) (dI : Nat → Nat → Nat) (ad : Nat → Nat) (cA : Nat → ClassId) (nF : Nat) (u0 : ac_U) (p0 : Int32) (p1 : Int32) (hR : ac_R rg u0) (hp0 : (0 : Int) ≤ p0.toInt ∧ p0.toInt ≤ 3) (hp1 : (0 : Int) ≤ p1.toInt ∧ p1.toInt ≤ 255) (hE0 : popS p1.toInt ≤ 4) : ac_Mi l yX12_plansFor (.code yX12_plansFor cX12_plansFor 12 (some .int) :: TB) 5 (dC, dI) vwCl (ac_ty cA) ad cA (TT nF) [.ref (ad 85), .int p0, .int p1] u0 (fun (r : Int32) (u : ac_U) => ac_R rg u ∧ ac_Fr [(85, some 28), (95, none), (96, none)] u0 u ∧ feR u) := by
  refine ac_Mi.of (cc := cX12_plansFor) (maxL := 12) (ret := (some .int)) (by decide) rfl (Nat.le_of_ble_eq_true rfl) ?_
  intro p e s m below meth c A ls F hml hr hlocks hA hP hD hS hl
  have F : ac_X p s m [.ref (ad 85), .int p0, .int p1].toArray c cX12_plansFor RX12 TB (dC, dI) vwCl (ac_ty cA) := ⟨F.1, F.2.1, fun w h => F.2.2.1 w (List.mem_cons_of_mem _ h), F.2.2.2.1, F.2.2.2.2⟩
  have hl : lv_has ls 12 [(0, .ref (ad 85)), (1, .int p0), (2, .int p1)] := hl
  have hF : ac_Fr [(85, some 28), (95, none), (96, none)] u0 u0 := ac_Fr.rf
  have L119 : ∀ (n119 : Nat) (x3 : Int32) (x4 : Int32) (x5 : Int32) (x6 : Int32) (u : ac_U) (H : Heap) (locs : List Loc) (ls : Array Slot), ac_R rg u → ac_Fr [(85, some 28), (95, none), (96, none)] u0 u → x6.toInt + 1 < (n119 : Int) → (flR x6.toInt 0 0) u → (0 : Int) ≤ x3.toInt ∧ x3.toInt ≤ 255 → (0 : Int) ≤ x4.toInt ∧ x4.toInt ≤ 23 → (1 : Int) ≤ x5.toInt ∧ x5.toInt ≤ 15 → (-1 : Int) ≤ x6.toInt ∧ x6.toInt ≤ 24 → x4.toInt = ((u.1 87 106).toInt).tmod ((u.1 87 0).toInt) → x5.toInt = 1 + (u.1 87 1).toInt + (u.1 87 5).toInt → x6.toInt ≤ (u.1 87 0).toInt → va_P (dC, dI) vwCl (ac_w ad cA (TT nF) u) H → va_D A (ac_w ad cA (TT nF) u) → va_S A s.heap H locs → lv_has ls 12 [(0, .ref (ad 85)), (1, .int p0), (3, .int x3), (4, .int x4), (5, .int x5), (6, .int x6)] → W p l e (ac_rm 5) s m [.ref (ad 85), .int p0, .int p1].toArray below meth c H locs 0 0 (MQ below (va_Qi (fun (r : Int32) (u : ac_U) => ac_R rg u ∧ ac_Fr [(85, some 28), (95, none), (96, none)] u0 u ∧ feR u) (ac_B (dC, dI) vwCl (ac_ty cA) ad cA (TT nF) A) A) [.ref (ad 85), .int p0, .int p1].toArray s 0 0 A) (F0 m 119 ls []) := by
    intro n119
    induction n119 with
    | zero => intro x3 x4 x5 x6 u H locs ls hR hF hn119 hK_FL0 f0 f1 f2 f3 f4 f5 f6 hP hD hS hl; exfalso; omega
    | succ n119 ih119 =>
      intro x3 x4 x5 x6 u H locs ls hR hF hn119 hK_FL0 f0 f1 f2 f3 f4 f5 f6 hP hD hS hl
      have L129 : ∀ (n129 : Nat) (x3 : Int32) (x4 : Int32) (x5 : Int32) (x6 : Int32) (x7 : Int32) (u : ac_U) (H : Heap) (locs : List Loc) (ls : Array Slot), ac_R rg u → ac_Fr [(85, some 28), (95, none), (96, none)] u0 u → 8 - x7.toInt < (n129 : Int) → (flR x6.toInt x7.toInt 0) u → (0 : Int) ≤ x3.toInt ∧ x3.toInt ≤ 255 → (0 : Int) ≤ x4.toInt ∧ x4.toInt ≤ 23 → (1 : Int) ≤ x5.toInt ∧ x5.toInt ≤ 15 → (0 : Int) ≤ x6.toInt ∧ x6.toInt ≤ 24 → (0 : Int) ≤ x7.toInt ∧ x7.toInt ≤ 8 → x4.toInt = ((u.1 87 106).toInt).tmod ((u.1 87 0).toInt) → x5.toInt = 1 + (u.1 87 1).toInt + (u.1 87 5).toInt → x6.toInt ≤ (u.1 87 0).toInt → x4.toInt ≤ x6.toInt → x6.toInt - (-1) - (0) < ((n119 : Nat) : Int) + 1 → va_P (dC, dI) vwCl (ac_w ad cA (TT nF) u) H → va_D A (ac_w ad cA (TT nF) u) → va_S A s.heap H locs → lv_has ls 12 [(0, .ref (ad 85)), (1, .int p0), (3, .int x3), (4, .int x4), (5, .int x5), (6, .int x6), (7, .int x7)] → W p l e (ac_rm 5) s m [.ref (ad 85), .int p0, .int p1].toArray below meth c H locs 0 0 (MQ below (va_Qi (fun (r : Int32) (u : ac_U) => ac_R rg u ∧ ac_Fr [(85, some 28), (95, none), (96, none)] u0 u ∧ feR u) (ac_B (dC, dI) vwCl (ac_ty cA) ad cA (TT nF) A) A) [.ref (ad 85), .int p0, .int p1].toArray s 0 0 A) (F0 m 129 ls []) := by
        intro n129
        induction n129 with
        | zero => intro x3 x4 x5 x6 x7 u H locs ls hR hF hn129 hK_FL1 f0 f1 f2 f3 f4 f5 f6 f7 f8 f9 hP hD hS hl; exfalso; omega
        | succ n129 ih129 =>
          intro x3 x4 x5 x6 x7 u H locs ls hR hF hn129 hK_FL1 f0 f1 f2 f3 f4 f5 f6 f7 f8 f9 hP hD hS hl
          have L143 : ∀ (n143 : Nat) (x3 : Int32) (x4 : Int32) (x5 : Int32) (x6 : Int32) (x7 : Int32) (x8 : Int32) (u : ac_U) (H : Heap) (locs : List Loc) (ls : Array Slot), ac_R rg u → ac_Fr [(85, some 28), (95, none), (96, none)] u0 u → 256 - x8.toInt < (n143 : Int) → (flR x6.toInt x7.toInt x8.toInt) u → (0 : Int) ≤ x3.toInt ∧ x3.toInt ≤ 255 → (0 : Int) ≤ x4.toInt ∧ x4.toInt ≤ 23 → (1 : Int) ≤ x5.toInt ∧ x5.toInt ≤ 15 → (0 : Int) ≤ x6.toInt ∧ x6.toInt ≤ 24 → (0 : Int) ≤ x7.toInt ∧ x7.toInt ≤ 7 → (0 : Int) ≤ x8.toInt ∧ x8.toInt ≤ 256 → (1 : Int) ≤ (u.1 87 1).toInt ∧ (u.1 87 1).toInt ≤ 8 → x4.toInt = ((u.1 87 106).toInt).tmod ((u.1 87 0).toInt) → x5.toInt = 1 + (u.1 87 1).toInt + (u.1 87 5).toInt → x6.toInt ≤ (u.1 87 0).toInt → x4.toInt ≤ x6.toInt → x7.toInt < (u.1 87 1).toInt → x6.toInt - (-1) - (0) < ((n119 : Nat) : Int) + 1 → 8 - x7.toInt + 0 < ((n129 : Nat) : Int) + 1 → va_P (dC, dI) vwCl (ac_w ad cA (TT nF) u) H → va_D A (ac_w ad cA (TT nF) u) → va_S A s.heap H locs → lv_has ls 12 [(0, .ref (ad 85)), (1, .int p0), (3, .int x3), (4, .int x4), (5, .int x5), (6, .int x6), (7, .int x7), (8, .int x8)] → W p l e (ac_rm 5) s m [.ref (ad 85), .int p0, .int p1].toArray below meth c H locs 0 0 (MQ below (va_Qi (fun (r : Int32) (u : ac_U) => ac_R rg u ∧ ac_Fr [(85, some 28), (95, none), (96, none)] u0 u ∧ feR u) (ac_B (dC, dI) vwCl (ac_ty cA) ad cA (TT nF) A) A) [.ref (ad 85), .int p0, .int p1].toArray s 0 0 A) (F0 m 143 ls []) := by
            intro n143
            induction n143 with
            | zero => intro x3 x4 x5 x6 x7 x8 u H locs ls hR hF hn143 hK_FL2 f0 f1 f2 f3 f4 f5 f6 f7 f8 f9 f10 f11 f12 f13 hP hD hS hl; exfalso; omega
            | succ n143 ih143 =>
              intro x3 x4 x5 x6 x7 x8 u H locs ls hR hF hn143 hK_FL2 f0 f1 f2 f3 f4 f5 f6 f7 f8 f9 f10 f11 f12 f13 hP hD hS hl
              have L273 : ∀ (x3 : Int32) (x4 : Int32) (x5 : Int32) (x6 : Int32) (x7 : Int32) (x8 : Int32) (x9 : Int32) (u : ac_U) (H : Heap) (locs : List Loc) (ls : Array Slot), ac_R rg u → ac_Fr [(85, some 28), (95, none), (96, none)] u0 u → (flR x6.toInt x7.toInt x8.toInt) u → (bxI x6.toInt x7.toInt x8.toInt x9.toInt) u → (0 : Int) ≤ x3.toInt ∧ x3.toInt ≤ 255 → (0 : Int) ≤ x4.toInt ∧ x4.toInt ≤ 23 → (1 : Int) ≤ x5.toInt ∧ x5.toInt ≤ 15 → (0 : Int) ≤ x6.toInt ∧ x6.toInt ≤ 24 → (0 : Int) ≤ x7.toInt ∧ x7.toInt ≤ 7 → (0 : Int) ≤ x8.toInt ∧ x8.toInt ≤ 255 → x9.toInt ≤ 1000 → (1 : Int) ≤ (u.1 87 1).toInt ∧ (u.1 87 1).toInt ≤ 8 → x4.toInt = ((u.1 87 106).toInt).tmod ((u.1 87 0).toInt) → x5.toInt = 1 + (u.1 87 1).toInt + (u.1 87 5).toInt → x6.toInt ≤ (u.1 87 0).toInt → x4.toInt ≤ x6.toInt → x7.toInt < (u.1 87 1).toInt → x8.toInt < p4 (u.1 85 28).toInt → x6.toInt - (-1) - (0) < ((n119 : Nat) : Int) + 1 → 8 - x7.toInt + 0 < ((n129 : Nat) : Int) + 1 → 256 - x8.toInt + 0 < ((n143 : Nat) : Int) + 1 → va_P (dC, dI) vwCl (ac_w ad cA (TT nF) u) H → va_D A (ac_w ad cA (TT nF) u) → va_S A s.heap H locs → lv_has ls 12 [(0, .ref (ad 85)), (1, .int p0), (3, .int x3), (4, .int x4), (5, .int x5), (6, .int x6), (7, .int x7), (8, .int x8), (9, .int x9)] → W p l e (ac_rm 5) s m [.ref (ad 85), .int p0, .int p1].toArray below meth c H locs 0 0 (MQ below (va_Qi (fun (r : Int32) (u : ac_U) => ac_R rg u ∧ ac_Fr [(85, some 28), (95, none), (96, none)] u0 u ∧ feR u) (ac_B (dC, dI) vwCl (ac_ty cA) ad cA (TT nF) A) A) [.ref (ad 85), .int p0, .int p1].toArray s 0 0 A) (F0 m 273 ls []) := by
                intro x3 x4 x5 x6 x7 x8 x9 u H locs ls hR hF hK_FL2 hK_BX f0 f1 f2 f3 f4 f5 f6 f7 f8 f9 f10 f11 f12 f13 f14 f15 f16 hP hD hS hl
                refine lv_aload_n F.1 F.2.1 dX12_plansFor_273 rfl (lv_at hl 0 rfl) ?_
                refine a_getr F inX12 hP 85 25 tc_85 rfl rfl (by decide) q1496 (fun _ h9 => h9) dX12_plansFor_274 ?_
                refine lv_aload_n F.1 F.2.1 dX12_plansFor_277 rfl (lv_at hl 0 rfl) ?_
                refine lv_iload F.1 F.2.1 dX12_plansFor_278 (lv_at hl 5 rfl) ?_
                refine lv_iload F.1 F.2.1 dX12_plansFor_280 (lv_at hl 6 rfl) ?_
                refine lv_iload F.1 F.2.1 dX12_plansFor_282 (lv_at hl 7 rfl) ?_
                refine a_Vi F hml hl.1 hA hP hD hS (As := [.int x6, .int x7, .int x8]) (c_X12_slot_85_f l dC dI ad cA nF _ x6 x7 x8 hR (by omega) (by omega) (by omega)) (cs_RX12_332 (d := 1) F.2.2.1 (by decide)) tc_85 rfl rfl rfl rfl (Nat.le_of_ble_eq_true rfl) dX12_plansFor_284 ⟨Nat.le_refl 0, Nat.le_refl 0⟩ (fun r1 uN1 H locs hq hP hD hS => ?_)
                obtain ⟨hu1, gr1, xr1⟩ := hq
                rw [hu1] at hP hD
                have xr1 : r1.toInt = 2048 * x6.toInt + 256 * x7.toInt + x8.toInt := xr1
                refine lv_iload F.1 F.2.1 dX12_plansFor_287 (lv_at hl 8 rfl) ?_
                refine a_sp F (1000 : Int32) dX12_plansFor_289 (by decide) ?_
                refine a_Si F hml hl.1 hA hP hD hS (As := [.int x9, .int (1000 : Int32)]) (c_X12_lesser_f l dC dI ad cA nF _ x9 (1000 : Int32) hR (by omega)) (cs_RX12_295 (d := 1) F.2.2.1 (by decide)) rfl rfl (Nat.le_of_ble_eq_true rfl) dX12_plansFor_292 ⟨Nat.le_refl 0, Nat.le_refl 0⟩ (fun r2 uN2 H locs hq hP hD hS => ?_)
                obtain ⟨hu2, gr2, xr2⟩ := hq
                rw [hu2] at hP hD
                have xr2 : r2.toInt = min x9.toInt (1000 : Int) := xr2
                have hg3a : 0 ≤ (u.1 87 0).toInt ∧ (u.1 87 0).toInt ≤ 24 := ⟨Int.le_trans (by decide) (hR 87 0).1, (hR 87 0).2⟩
                have hg3b : 0 ≤ (u.1 87 1).toInt ∧ (u.1 87 1).toInt ≤ 8 := hR 87 1
                have hg3c : 0 ≤ (u.1 87 5).toInt ∧ (u.1 87 5).toInt ≤ 6 := hR 87 5
                refine a_iast F hP hD hS 95 tc_95 rfl (i_in rfl (by omega)) dX12_plansFor_295 (fun H locs hP hD hS => ?_)
                have hR := hR.si (c := 95) (k := r1.toNatClampNeg) (v := r2) ⟨i_lo _, i_hi _⟩
                have hF := hF.si (c := 95) (k := r1.toNatClampNeg) (v := r2) rfl
                have hO_FL2 := hK_FL2
                have hO_BX := hK_BX
                have hK_FL2 := fr_w2 hO_FL2 hO_BX (by omega) (i := r1) (v := r2) (by omega) (by omega)
                refine a_iinc F (k := 7) (fun v4 => [(8, .int v4), (0, .ref (ad 85)), (1, .int p0), (3, .int x3), (4, .int x4), (5, .int x5), (6, .int x6), (7, .int x7), (9, .int x9)]) dX12_plansFor_296 hl rfl rfl (by decide) (by omega) (by decide) (fun _ => rfl) (fun v4 ls hv4 hl => ?_)
                refine lv_goto (tgt := 143) F.1 F.2.1 dX12_plansFor_299 (by decide) ?_
                have g5 : (0 : Int) ≤ (u.1 87 1).toInt ∧ (u.1 87 1).toInt ≤ 8 := hR 87 1
                have g6 : (0 : Int) ≤ (u.1 87 106).toInt ∧ (u.1 87 106).toInt ≤ 480 := hR 87 106
                have g7 : (4 : Int) ≤ (u.1 87 0).toInt ∧ (u.1 87 0).toInt ≤ 24 := hR 87 0
                have g8 : (0 : Int) ≤ (u.1 87 5).toInt ∧ (u.1 87 5).toInt ≤ 6 := hR 87 5
                exact ih143 x3 x4 x5 x6 x7 v4 _ _ _ _ hR hF (by omega) (fr_e hK_FL2 rfl rfl (by omega)) (by omega) (by omega) (by omega) (by omega) (by omega) (by omega) (by omega : (1 : Int) ≤ (u.1 87 1).toInt ∧ (u.1 87 1).toInt ≤ 8) (by omega : x4.toInt = ((u.1 87 106).toInt).tmod ((u.1 87 0).toInt)) (by omega : x5.toInt = 1 + (u.1 87 1).toInt + (u.1 87 5).toInt) (by omega : x6.toInt ≤ (u.1 87 0).toInt) (by omega : x4.toInt ≤ x6.toInt) (by omega : x7.toInt < (u.1 87 1).toInt) (by omega) (by omega) hP hD hS (lv_sub hl [1, 2, 3, 4, 5, 6, 7, 0] rfl)
              have L217 : ∀ (n217 : Nat) (x3 : Int32) (x4 : Int32) (x5 : Int32) (x6 : Int32) (x7 : Int32) (x8 : Int32) (x9 : Int32) (x10 : Int32) (x11 : Int32) (u : ac_U) (H : Heap) (locs : List Loc) (ls : Array Slot), ac_R rg u → ac_Fr [(85, some 28), (95, none), (96, none)] u0 u → 15 - x11.toInt < (n217 : Int) → (flR x6.toInt x7.toInt x8.toInt) u → (bsI x6.toInt x7.toInt x8.toInt x9.toInt x11.toInt) u → (0 : Int) ≤ x3.toInt ∧ x3.toInt ≤ 255 → (0 : Int) ≤ x4.toInt ∧ x4.toInt ≤ 23 → (1 : Int) ≤ x5.toInt ∧ x5.toInt ≤ 15 → (0 : Int) ≤ x6.toInt ∧ x6.toInt ≤ 24 → (0 : Int) ≤ x7.toInt ∧ x7.toInt ≤ 7 → (0 : Int) ≤ x8.toInt ∧ x8.toInt ≤ 255 → x9.toInt ≤ 1000 → (0 : Int) ≤ x10.toInt ∧ x10.toInt ≤ 1 → (0 : Int) ≤ x11.toInt ∧ x11.toInt ≤ 15 → (1 : Int) ≤ (u.1 87 1).toInt ∧ (u.1 87 1).toInt ≤ 8 → x4.toInt = ((u.1 87 106).toInt).tmod ((u.1 87 0).toInt) → x5.toInt = 1 + (u.1 87 1).toInt + (u.1 87 5).toInt → x6.toInt ≤ (u.1 87 0).toInt → x4.toInt ≤ x6.toInt → x7.toInt < (u.1 87 1).toInt → x8.toInt < p4 (u.1 85 28).toInt → x6.toInt - (-1) - (0) < ((n119 : Nat) : Int) + 1 → 8 - x7.toInt + 0 < ((n129 : Nat) : Int) + 1 → 256 - x8.toInt + 0 < ((n143 : Nat) : Int) + 1 → va_P (dC, dI) vwCl (ac_w ad cA (TT nF) u) H → va_D A (ac_w ad cA (TT nF) u) → va_S A s.heap H locs → lv_has ls 12 [(0, .ref (ad 85)), (1, .int p0), (3, .int x3), (4, .int x4), (5, .int x5), (6, .int x6), (7, .int x7), (8, .int x8), (9, .int x9), (10, .int x10), (11, .int x11)] → W p l e (ac_rm 5) s m [.ref (ad 85), .int p0, .int p1].toArray below meth c H locs 0 0 (MQ below (va_Qi (fun (r : Int32) (u : ac_U) => ac_R rg u ∧ ac_Fr [(85, some 28), (95, none), (96, none)] u0 u ∧ feR u) (ac_B (dC, dI) vwCl (ac_ty cA) ad cA (TT nF) A) A) [.ref (ad 85), .int p0, .int p1].toArray s 0 0 A) (F0 m 217 ls []) := by
                intro n217
                induction n217 with
                | zero => intro x3 x4 x5 x6 x7 x8 x9 x10 x11 u H locs ls hR hF hn217 hK_FL2 hK_BS f0 f1 f2 f3 f4 f5 f6 f7 f8 f9 f10 f11 f12 f13 f14 f15 f16 f17 f18 hP hD hS hl; exfalso; omega
                | succ n217 ih217 =>
                  intro x3 x4 x5 x6 x7 x8 x9 x10 x11 u H locs ls hR hF hn217 hK_FL2 hK_BS f0 f1 f2 f3 f4 f5 f6 f7 f8 f9 f10 f11 f12 f13 f14 f15 f16 f17 f18 hP hD hS hl
                  refine lv_iload F.1 F.2.1 dX12_plansFor_217 (lv_at hl 5 rfl) ?_
                  refine lv_aload_n F.1 F.2.1 dX12_plansFor_219 rfl (lv_at hl 0 rfl) ?_
                  refine a_getr F inX12 hP 85 6 tc_85 rfl rfl (by decide) q1477 (fun _ h9 => h9) dX12_plansFor_220 ?_
                  refine a_ic F (0 : Int32) dX12_plansFor_223 (by decide) ?_
                  have g9 : (4 : Int) ≤ (u.1 87 0).toInt ∧ (u.1 87 0).toInt ≤ 24 := hR 87 0
                  refine a_ialdK F hP 87 0 tc_87 rfl rfl (i_in ic_0 (by omega)) (v := (u.1 87 0)) rfl dX12_plansFor_224 ?_
                  refine b_ge F 273 dX12_plansFor_225 (by decide) rfl rfl (fun c10 => ?_) (fun c10 => ?_)
                  · have g11 : (0 : Int) ≤ (u.1 87 1).toInt ∧ (u.1 87 1).toInt ≤ 8 := hR 87 1
                    have g12 : (0 : Int) ≤ (u.1 87 106).toInt ∧ (u.1 87 106).toInt ≤ 480 := hR 87 106
                    have g13 : (0 : Int) ≤ (u.1 87 5).toInt ∧ (u.1 87 5).toInt ≤ 6 := hR 87 5
                    have g14 : (0 : Int) ≤ (u.1 85 28).toInt ∧ (u.1 85 28).toInt ≤ 4 := hR 85 28
                    exact L273 x3 x4 x5 x6 x7 x8 x9 _ _ _ _ hR hF hK_FL2 ⟨x11.toInt, hK_BS, fun h9 => by omega⟩ (by omega) (by omega) (by omega) (by omega) (by omega) (by omega) (by omega) (by omega : (1 : Int) ≤ (u.1 87 1).toInt ∧ (u.1 87 1).toInt ≤ 8) (by omega : x4.toInt = ((u.1 87 106).toInt).tmod ((u.1 87 0).toInt)) (by omega : x5.toInt = 1 + (u.1 87 1).toInt + (u.1 87 5).toInt) (by omega : x6.toInt ≤ (u.1 87 0).toInt) (by omega : x4.toInt ≤ x6.toInt) (by omega : x7.toInt < (u.1 87 1).toInt) (by omega : x8.toInt < p4 (u.1 85 28).toInt) (by omega) (by omega) (by omega) hP hD hS (lv_sub hl [0, 1, 2, 3, 4, 5, 6, 7, 8] rfl)
                  · refine lv_iload F.1 F.2.1 dX12_plansFor_228 (lv_at hl 10 rfl) ?_
                    refine lv_iload F.1 F.2.1 dX12_plansFor_230 (lv_at hl 9 rfl) ?_
                    refine z_eq F 239 dX12_plansFor_232 (by decide) rfl (fun c15 => ?_) (fun c15 => ?_)
                    · refine lv_iload F.1 F.2.1 dX12_plansFor_239 (lv_at hl 4 rfl) ?_
                      refine b_ge F 273 dX12_plansFor_241 (by decide) rfl rfl (fun c16 => ?_) (fun c16 => ?_)
                      · have g17 : (0 : Int) ≤ (u.1 87 1).toInt ∧ (u.1 87 1).toInt ≤ 8 := hR 87 1
                        have g18 : (0 : Int) ≤ (u.1 87 106).toInt ∧ (u.1 87 106).toInt ≤ 480 := hR 87 106
                        have g19 : (0 : Int) ≤ (u.1 87 5).toInt ∧ (u.1 87 5).toInt ≤ 6 := hR 87 5
                        have g20 : (0 : Int) ≤ (u.1 85 28).toInt ∧ (u.1 85 28).toInt ≤ 4 := hR 85 28
                        exact L273 x3 x4 x5 x6 x7 x8 x9 _ _ _ _ hR hF hK_FL2 ⟨x11.toInt, hK_BS, fun h9 => by omega⟩ (by omega) (by omega) (by omega) (by omega) (by omega) (by omega) (by omega) (by omega : (1 : Int) ≤ (u.1 87 1).toInt ∧ (u.1 87 1).toInt ≤ 8) (by omega : x4.toInt = ((u.1 87 106).toInt).tmod ((u.1 87 0).toInt)) (by omega : x5.toInt = 1 + (u.1 87 1).toInt + (u.1 87 5).toInt) (by omega : x6.toInt ≤ (u.1 87 0).toInt) (by omega : x4.toInt ≤ x6.toInt) (by omega : x7.toInt < (u.1 87 1).toInt) (by omega : x8.toInt < p4 (u.1 85 28).toInt) (by omega) (by omega) (by omega) hP hD hS (lv_sub hl [0, 1, 2, 3, 4, 5, 6, 7, 8] rfl)
                      · refine lv_iload F.1 F.2.1 dX12_plansFor_244 (lv_at hl 8 rfl) ?_
                        refine lv_aload_n F.1 F.2.1 dX12_plansFor_246 rfl (lv_at hl 0 rfl) ?_
                        refine lv_iload F.1 F.2.1 dX12_plansFor_247 (lv_at hl 5 rfl) ?_
                        refine lv_iload F.1 F.2.1 dX12_plansFor_249 (lv_at hl 6 rfl) ?_
                        refine lv_iload F.1 F.2.1 dX12_plansFor_251 (lv_at hl 7 rfl) ?_
                        refine lv_aload_n F.1 F.2.1 dX12_plansFor_253 rfl (lv_at hl 0 rfl) ?_
                        refine lv_iload F.1 F.2.1 dX12_plansFor_254 (lv_at hl 10 rfl) ?_
                        refine a_Vi F hml hl.1 hA hP hD hS (As := [.int x11]) (c_X12_choiceOf_85_f l dC dI ad cA nF _ x11 hR (by omega)) (cs_RX12_339 (d := 1) F.2.2.1 (by decide)) tc_85 rfl rfl rfl rfl (Nat.le_of_ble_eq_true rfl) dX12_plansFor_256 ⟨Nat.le_refl 0, Nat.le_refl 0⟩ (fun r21 uN21 H locs hq hP hD hS => ?_)
                        obtain ⟨hu21, gr21, xr21⟩ := hq
                        rw [hu21] at hP hD
                        have xr21 : r21.toInt = chS u x11.toInt := xr21
                        have hch : r21.toInt = chS u x11.toInt := xr21
                        have hcc := ch_r (u := u) (i := x11.toInt) (by omega) (hR 87 1)
                        refine a_Vi F hml hl.1 hA hP hD hS (As := [.int x6, .int x7, .int x8, .int r21]) (c_X12_goingsBy_85 l dC dI ad cA nF _ x6 x7 x8 r21 hR (by omega) (by omega) (by omega) (by omega) (by omega)) (cs_RX12_342 (d := 4) F.2.2.1 (by decide)) tc_85 rfl rfl rfl rfl (Nat.le_of_ble_eq_true rfl) dX12_plansFor_259 ⟨Nat.le_refl 0, Nat.le_refl 0⟩ (fun r23 uN23 H locs hq hP hD hS => ?_)
                        obtain ⟨hu23, xr23⟩ := hq
                        rw [hu23] at hP hD
                        have xr23 : r23.toInt = gbZ u x6.toInt x7.toInt x8.toInt r21.toInt := xr23
                        have hgb : r23.toInt = gbZ u x6.toInt x7.toInt x8.toInt (chS u x11.toInt) := by rw [← hch]; exact xr23
                        refine a_Si F hml hl.1 hA hP hD hS (As := [.int x9, .int r23]) (c_X12_lesser_f l dC dI ad cA nF _ x9 r23 hR (by omega)) (cs_RX12_295 (d := 1) F.2.2.1 (by decide)) rfl rfl (Nat.le_of_ble_eq_true rfl) dX12_plansFor_262 ⟨Nat.le_refl 0, Nat.le_refl 0⟩ (fun r25 uN25 H locs hq hP hD hS => ?_)
                        obtain ⟨hu25, gr25, xr25⟩ := hq
                        rw [hu25] at hP hD
                        have xr25 : r25.toInt = min x9.toInt r23.toInt := xr25
                        have hle9 := xr25
                        refine lv_istore (lv' := [(9, .int r25), (0, .ref (ad 85)), (1, .int p0), (3, .int x3), (4, .int x4), (5, .int x5), (6, .int x6), (7, .int x7), (8, .int x8), (10, .int x10), (11, .int x11)]) F.1 F.2.1 dX12_plansFor_265 hl (by decide) rfl (fun ls hl => ?_)
                        refine a_iinc F (k := 10) (fun v27 => [(11, .int v27), (9, .int r25), (0, .ref (ad 85)), (1, .int p0), (3, .int x3), (4, .int x4), (5, .int x5), (6, .int x6), (7, .int x7), (8, .int x8), (10, .int x10)]) dX12_plansFor_267 hl rfl rfl (by decide) (by omega) (by decide) (fun _ => rfl) (fun v27 ls hv27 hl => ?_)
                        refine lv_goto (tgt := 217) F.1 F.2.1 dX12_plansFor_270 (by decide) ?_
                        have g28 : (0 : Int) ≤ (u.1 87 1).toInt ∧ (u.1 87 1).toInt ≤ 8 := hR 87 1
                        have g29 : (0 : Int) ≤ (u.1 87 106).toInt ∧ (u.1 87 106).toInt ≤ 480 := hR 87 106
                        have g30 : (0 : Int) ≤ (u.1 87 5).toInt ∧ (u.1 87 5).toInt ≤ 6 := hR 87 5
                        have g31 : (0 : Int) ≤ (u.1 85 28).toInt ∧ (u.1 85 28).toInt ≤ 4 := hR 85 28
                        exact ih217 x3 x4 x5 x6 x7 x8 r25 x10 v27 _ _ _ _ hR hF (by omega) hK_FL2 (bs_s hK_BS (by omega) (by omega) hgb hle9 (by omega)) (by omega) (by omega) (by omega) (by omega) (by omega) (by omega) (by omega) (by omega) (by omega) (by omega : (1 : Int) ≤ (u.1 87 1).toInt ∧ (u.1 87 1).toInt ≤ 8) (by omega : x4.toInt = ((u.1 87 106).toInt).tmod ((u.1 87 0).toInt)) (by omega : x5.toInt = 1 + (u.1 87 1).toInt + (u.1 87 5).toInt) (by omega : x6.toInt ≤ (u.1 87 0).toInt) (by omega : x4.toInt ≤ x6.toInt) (by omega : x7.toInt < (u.1 87 1).toInt) (by omega : x8.toInt < p4 (u.1 85 28).toInt) (by omega) (by omega) (by omega) hP hD hS (lv_sub hl [2, 3, 4, 5, 6, 7, 8, 9, 1, 10, 0] rfl)
                    · refine a_ic F (1 : Int32) dX12_plansFor_235 (by decide) ?_
                      refine lv_goto (tgt := 241) F.1 F.2.1 dX12_plansFor_236 (by decide) ?_
                      refine b_ge F 273 dX12_plansFor_241 (by decide) rfl ic_1 (fun c32 => ?_) (fun c32 => ?_)
                      · have g33 : (0 : Int) ≤ (u.1 87 1).toInt ∧ (u.1 87 1).toInt ≤ 8 := hR 87 1
                        have g34 : (0 : Int) ≤ (u.1 87 106).toInt ∧ (u.1 87 106).toInt ≤ 480 := hR 87 106
                        have g35 : (0 : Int) ≤ (u.1 87 5).toInt ∧ (u.1 87 5).toInt ≤ 6 := hR 87 5
                        have g36 : (0 : Int) ≤ (u.1 85 28).toInt ∧ (u.1 85 28).toInt ≤ 4 := hR 85 28
                        exact L273 x3 x4 x5 x6 x7 x8 x9 _ _ _ _ hR hF hK_FL2 ⟨x11.toInt, hK_BS, fun h9 => by omega⟩ (by omega) (by omega) (by omega) (by omega) (by omega) (by omega) (by omega) (by omega : (1 : Int) ≤ (u.1 87 1).toInt ∧ (u.1 87 1).toInt ≤ 8) (by omega : x4.toInt = ((u.1 87 106).toInt).tmod ((u.1 87 0).toInt)) (by omega : x5.toInt = 1 + (u.1 87 1).toInt + (u.1 87 5).toInt) (by omega : x6.toInt ≤ (u.1 87 0).toInt) (by omega : x4.toInt ≤ x6.toInt) (by omega : x7.toInt < (u.1 87 1).toInt) (by omega : x8.toInt < p4 (u.1 85 28).toInt) (by omega) (by omega) (by omega) hP hD hS (lv_sub hl [0, 1, 2, 3, 4, 5, 6, 7, 8] rfl)
                      · refine lv_iload F.1 F.2.1 dX12_plansFor_244 (lv_at hl 8 rfl) ?_
                        refine lv_aload_n F.1 F.2.1 dX12_plansFor_246 rfl (lv_at hl 0 rfl) ?_
                        refine lv_iload F.1 F.2.1 dX12_plansFor_247 (lv_at hl 5 rfl) ?_
                        refine lv_iload F.1 F.2.1 dX12_plansFor_249 (lv_at hl 6 rfl) ?_
                        refine lv_iload F.1 F.2.1 dX12_plansFor_251 (lv_at hl 7 rfl) ?_
                        refine lv_aload_n F.1 F.2.1 dX12_plansFor_253 rfl (lv_at hl 0 rfl) ?_
                        refine lv_iload F.1 F.2.1 dX12_plansFor_254 (lv_at hl 10 rfl) ?_
                        refine a_Vi F hml hl.1 hA hP hD hS (As := [.int x11]) (c_X12_choiceOf_85_f l dC dI ad cA nF _ x11 hR (by omega)) (cs_RX12_339 (d := 1) F.2.2.1 (by decide)) tc_85 rfl rfl rfl rfl (Nat.le_of_ble_eq_true rfl) dX12_plansFor_256 ⟨Nat.le_refl 0, Nat.le_refl 0⟩ (fun r37 uN37 H locs hq hP hD hS => ?_)
                        obtain ⟨hu37, gr37, xr37⟩ := hq
                        rw [hu37] at hP hD
                        have xr37 : r37.toInt = chS u x11.toInt := xr37
                        have hch : r37.toInt = chS u x11.toInt := xr37
                        have hcc := ch_r (u := u) (i := x11.toInt) (by omega) (hR 87 1)
                        refine a_Vi F hml hl.1 hA hP hD hS (As := [.int x6, .int x7, .int x8, .int r37]) (c_X12_goingsBy_85 l dC dI ad cA nF _ x6 x7 x8 r37 hR (by omega) (by omega) (by omega) (by omega) (by omega)) (cs_RX12_342 (d := 4) F.2.2.1 (by decide)) tc_85 rfl rfl rfl rfl (Nat.le_of_ble_eq_true rfl) dX12_plansFor_259 ⟨Nat.le_refl 0, Nat.le_refl 0⟩ (fun r39 uN39 H locs hq hP hD hS => ?_)
                        obtain ⟨hu39, xr39⟩ := hq
                        rw [hu39] at hP hD
                        have xr39 : r39.toInt = gbZ u x6.toInt x7.toInt x8.toInt r37.toInt := xr39
                        have hgb : r39.toInt = gbZ u x6.toInt x7.toInt x8.toInt (chS u x11.toInt) := by rw [← hch]; exact xr39
                        refine a_Si F hml hl.1 hA hP hD hS (As := [.int x9, .int r39]) (c_X12_lesser_f l dC dI ad cA nF _ x9 r39 hR (by omega)) (cs_RX12_295 (d := 1) F.2.2.1 (by decide)) rfl rfl (Nat.le_of_ble_eq_true rfl) dX12_plansFor_262 ⟨Nat.le_refl 0, Nat.le_refl 0⟩ (fun r41 uN41 H locs hq hP hD hS => ?_)
                        obtain ⟨hu41, gr41, xr41⟩ := hq
                        rw [hu41] at hP hD
                        have xr41 : r41.toInt = min x9.toInt r39.toInt := xr41
                        have hle9 := xr41
                        refine lv_istore (lv' := [(9, .int r41), (0, .ref (ad 85)), (1, .int p0), (3, .int x3), (4, .int x4), (5, .int x5), (6, .int x6), (7, .int x7), (8, .int x8), (10, .int x10), (11, .int x11)]) F.1 F.2.1 dX12_plansFor_265 hl (by decide) rfl (fun ls hl => ?_)
                        refine a_iinc F (k := 10) (fun v43 => [(11, .int v43), (9, .int r41), (0, .ref (ad 85)), (1, .int p0), (3, .int x3), (4, .int x4), (5, .int x5), (6, .int x6), (7, .int x7), (8, .int x8), (10, .int x10)]) dX12_plansFor_267 hl rfl rfl (by decide) (by omega) (by decide) (fun _ => rfl) (fun v43 ls hv43 hl => ?_)
                        refine lv_goto (tgt := 217) F.1 F.2.1 dX12_plansFor_270 (by decide) ?_
                        have g44 : (0 : Int) ≤ (u.1 87 1).toInt ∧ (u.1 87 1).toInt ≤ 8 := hR 87 1
                        have g45 : (0 : Int) ≤ (u.1 87 106).toInt ∧ (u.1 87 106).toInt ≤ 480 := hR 87 106
                        have g46 : (0 : Int) ≤ (u.1 87 5).toInt ∧ (u.1 87 5).toInt ≤ 6 := hR 87 5
                        have g47 : (0 : Int) ≤ (u.1 85 28).toInt ∧ (u.1 85 28).toInt ≤ 4 := hR 85 28
                        exact ih217 x3 x4 x5 x6 x7 x8 r41 x10 v43 _ _ _ _ hR hF (by omega) hK_FL2 (bs_s hK_BS (by omega) (by omega) hgb hle9 (by omega)) (by omega) (by omega) (by omega) (by omega) (by omega) (by omega) (by omega) (by omega) (by omega) (by omega : (1 : Int) ≤ (u.1 87 1).toInt ∧ (u.1 87 1).toInt ≤ 8) (by omega : x4.toInt = ((u.1 87 106).toInt).tmod ((u.1 87 0).toInt)) (by omega : x5.toInt = 1 + (u.1 87 1).toInt + (u.1 87 5).toInt) (by omega : x6.toInt ≤ (u.1 87 0).toInt) (by omega : x4.toInt ≤ x6.toInt) (by omega : x7.toInt < (u.1 87 1).toInt) (by omega : x8.toInt < p4 (u.1 85 28).toInt) (by omega) (by omega) (by omega) hP hD hS (lv_sub hl [2, 3, 4, 5, 6, 7, 8, 9, 1, 10, 0] rfl)
              refine lv_iload F.1 F.2.1 dX12_plansFor_143 (lv_at hl 7 rfl) ?_
              refine a_ic F (1 : Int32) dX12_plansFor_145 (by decide) ?_
              refine a_ic F (2 : Int32) dX12_plansFor_146 (by decide) ?_
              refine lv_aload_n F.1 F.2.1 dX12_plansFor_147 rfl (lv_at hl 0 rfl) ?_
              have g48 : (0 : Int) ≤ (u.1 85 28).toInt ∧ (u.1 85 28).toInt ≤ 4 := hR 85 28
              refine a_geti F inX12 hP 85 28 tc_85 rfl rfl (by decide) q1499 (fun _ h9 => h9) (v := (u.1 85 28)) rfl dX12_plansFor_148 ?_
              refine a_imul F dX12_plansFor_151 ic_2 rfl (by omega) (fun v49 hv49 => ?_)
              refine lv_ishl F.1 F.2.1 dX12_plansFor_152 ?_
              refine lv_topi (fun v50 ev50 => ?_)
              have hzv50 := sh_i (i := (u.1 85 28).toInt) (by omega) hv49 ev50
              have hv50 : 1 ≤ v50.toInt ∧ v50.toInt ≤ 256 := hzv50.2
              refine b_ge F 302 dX12_plansFor_153 (by decide) rfl rfl (fun c51 => ?_) (fun c51 => ?_)
              · refine a_iinc F (k := 6) (fun v52 => [(7, .int v52), (0, .ref (ad 85)), (1, .int p0), (3, .int x3), (4, .int x4), (5, .int x5), (6, .int x6), (8, .int x8)]) dX12_plansFor_302 hl rfl rfl (by decide) (by omega) (by decide) (fun _ => rfl) (fun v52 ls hv52 hl => ?_)
                refine lv_goto (tgt := 129) F.1 F.2.1 dX12_plansFor_305 (by decide) ?_
                have g53 : (0 : Int) ≤ (u.1 87 106).toInt ∧ (u.1 87 106).toInt ≤ 480 := hR 87 106
                have g54 : (4 : Int) ≤ (u.1 87 0).toInt ∧ (u.1 87 0).toInt ≤ 24 := hR 87 0
                have g55 : (0 : Int) ≤ (u.1 87 1).toInt ∧ (u.1 87 1).toInt ≤ 8 := hR 87 1
                have g56 : (0 : Int) ≤ (u.1 87 5).toInt ∧ (u.1 87 5).toInt ≤ 6 := hR 87 5
                exact ih129 x3 x4 x5 x6 v52 _ _ _ _ hR hF (by omega) (fr_l hK_FL2 (by omega) (by omega)) (by omega) (by omega) (by omega) (by omega) (by omega) (by omega : x4.toInt = ((u.1 87 106).toInt).tmod ((u.1 87 0).toInt)) (by omega : x5.toInt = 1 + (u.1 87 1).toInt + (u.1 87 5).toInt) (by omega : x6.toInt ≤ (u.1 87 0).toInt) (by omega : x4.toInt ≤ x6.toInt) (by omega) hP hD hS (lv_sub hl [1, 2, 3, 4, 5, 6, 0] rfl)
              · refine lv_iload F.1 F.2.1 dX12_plansFor_156 (lv_at hl 5 rfl) ?_
                refine lv_aload_n F.1 F.2.1 dX12_plansFor_158 rfl (lv_at hl 0 rfl) ?_
                refine a_getr F inX12 hP 85 6 tc_85 rfl rfl (by decide) q1477 (fun _ h9 => h9) dX12_plansFor_159 ?_
                refine a_ic F (0 : Int32) dX12_plansFor_162 (by decide) ?_
                have g57 : (4 : Int) ≤ (u.1 87 0).toInt ∧ (u.1 87 0).toInt ≤ 24 := hR 87 0
                refine a_ialdK F hP 87 0 tc_87 rfl rfl (i_in ic_0 (by omega)) (v := (u.1 87 0)) rfl dX12_plansFor_163 ?_
                refine b_ge F 173 dX12_plansFor_164 (by decide) rfl rfl (fun c58 => ?_) (fun c58 => ?_)
                · refine lv_iload F.1 F.2.1 dX12_plansFor_173 (lv_at hl 7 rfl) ?_
                  refine z_ne F 182 dX12_plansFor_175 (by decide) rfl (fun c59 => ?_) (fun c59 => ?_)
                  · refine a_sp F (1000 : Int32) dX12_plansFor_182 (by decide) ?_
                    refine lv_istore (lv' := [(9, .int (1000 : Int32)), (0, .ref (ad 85)), (1, .int p0), (3, .int x3), (4, .int x4), (5, .int x5), (6, .int x6), (7, .int x7), (8, .int x8)]) F.1 F.2.1 dX12_plansFor_185 hl (by decide) rfl (fun ls hl => ?_)
                    refine lv_iload F.1 F.2.1 dX12_plansFor_187 (lv_at hl 6 rfl) ?_
                    refine lv_iload F.1 F.2.1 dX12_plansFor_189 (lv_at hl 4 rfl) ?_
                    refine b_ne F 211 dX12_plansFor_191 (by decide) rfl rfl (fun c60 => ?_) (fun c60 => ?_)
                    · refine a_ic F (0 : Int32) dX12_plansFor_211 (by decide) ?_
                      refine lv_istore (lv' := [(10, .int (0 : Int32)), (9, .int (1000 : Int32)), (0, .ref (ad 85)), (1, .int p0), (3, .int x3), (4, .int x4), (5, .int x5), (6, .int x6), (7, .int x7), (8, .int x8)]) F.1 F.2.1 dX12_plansFor_212 hl (by decide) rfl (fun ls hl => ?_)
                      refine a_ic F (0 : Int32) dX12_plansFor_214 (by decide) ?_
                      refine lv_istore (lv' := [(11, .int (0 : Int32)), (10, .int (0 : Int32)), (9, .int (1000 : Int32)), (0, .ref (ad 85)), (1, .int p0), (3, .int x3), (4, .int x4), (5, .int x5), (6, .int x6), (7, .int x7), (8, .int x8)]) F.1 F.2.1 dX12_plansFor_215 hl (by decide) rfl (fun ls hl => ?_)
                      have g61 : (0 : Int) ≤ (u.1 87 1).toInt ∧ (u.1 87 1).toInt ≤ 8 := hR 87 1
                      have g62 : (0 : Int) ≤ (u.1 87 106).toInt ∧ (u.1 87 106).toInt ≤ 480 := hR 87 106
                      have g63 : (0 : Int) ≤ (u.1 87 5).toInt ∧ (u.1 87 5).toInt ≤ 6 := hR 87 5
                      exact L217 17 x3 x4 x5 x6 x7 x8 (1000 : Int32) (0 : Int32) (0 : Int32) _ _ _ _ hR hF (by decide) hK_FL2 (bs_0 (by decide) rfl (fun _ => by decide)) (by omega) (by omega) (by omega) (by omega) (by omega) (by omega) (by decide) (by decide) (by decide) (by omega : (1 : Int) ≤ (u.1 87 1).toInt ∧ (u.1 87 1).toInt ≤ 8) (by omega : x4.toInt = ((u.1 87 106).toInt).tmod ((u.1 87 0).toInt)) (by omega : x5.toInt = 1 + (u.1 87 1).toInt + (u.1 87 5).toInt) (by omega : x6.toInt ≤ (u.1 87 0).toInt) (by omega : x4.toInt ≤ x6.toInt) (by omega : x7.toInt < (u.1 87 1).toInt) (by omega : x8.toInt < p4 (u.1 85 28).toInt) (by omega) (by omega) (by omega) hP hD hS (lv_sub hl [3, 4, 5, 6, 7, 8, 9, 10, 2, 1, 0] rfl)
                    · refine lv_aload_n F.1 F.2.1 dX12_plansFor_194 rfl (lv_at hl 1 rfl) ?_
                      refine a_getr F inX12 hP 85 6 tc_85 rfl rfl (by decide) q1477 (fun _ h9 => h9) dX12_plansFor_195 ?_
                      refine a_bp F (111 : Int32) dX12_plansFor_198 (by decide) ?_
                      refine lv_iload_n F.1 F.2.1 dX12_plansFor_200 rfl (lv_at hl 2 rfl) ?_
                      refine a_iadd F dX12_plansFor_201 ic_111 rfl (by omega) (fun v64 hv64 => ?_)
                      refine a_iald F hP 87 tc_87 rfl (i_in rfl (by omega)) dX12_plansFor_202 (fun v65 ev65 => ?_)
                      refine a_ic F (1 : Int32) dX12_plansFor_203 (by decide) ?_
                      refine b_ne F 211 dX12_plansFor_204 (by decide) rfl ic_1 (fun c66 => ?_) (fun c66 => ?_)
                      · refine a_ic F (0 : Int32) dX12_plansFor_211 (by decide) ?_
                        refine lv_istore (lv' := [(10, .int (0 : Int32)), (9, .int (1000 : Int32)), (0, .ref (ad 85)), (1, .int p0), (3, .int x3), (4, .int x4), (5, .int x5), (6, .int x6), (7, .int x7), (8, .int x8)]) F.1 F.2.1 dX12_plansFor_212 hl (by decide) rfl (fun ls hl => ?_)
                        refine a_ic F (0 : Int32) dX12_plansFor_214 (by decide) ?_
                        refine lv_istore (lv' := [(11, .int (0 : Int32)), (10, .int (0 : Int32)), (9, .int (1000 : Int32)), (0, .ref (ad 85)), (1, .int p0), (3, .int x3), (4, .int x4), (5, .int x5), (6, .int x6), (7, .int x7), (8, .int x8)]) F.1 F.2.1 dX12_plansFor_215 hl (by decide) rfl (fun ls hl => ?_)
                        have g67 : (0 : Int) ≤ (u.1 87 1).toInt ∧ (u.1 87 1).toInt ≤ 8 := hR 87 1
                        have g68 : (0 : Int) ≤ (u.1 87 106).toInt ∧ (u.1 87 106).toInt ≤ 480 := hR 87 106
                        have g69 : (0 : Int) ≤ (u.1 87 5).toInt ∧ (u.1 87 5).toInt ≤ 6 := hR 87 5
                        exact L217 17 x3 x4 x5 x6 x7 x8 (1000 : Int32) (0 : Int32) (0 : Int32) _ _ _ _ hR hF (by decide) hK_FL2 (bs_0 (by decide) rfl (fun _ => by decide)) (by omega) (by omega) (by omega) (by omega) (by omega) (by omega) (by decide) (by decide) (by decide) (by omega : (1 : Int) ≤ (u.1 87 1).toInt ∧ (u.1 87 1).toInt ≤ 8) (by omega : x4.toInt = ((u.1 87 106).toInt).tmod ((u.1 87 0).toInt)) (by omega : x5.toInt = 1 + (u.1 87 1).toInt + (u.1 87 5).toInt) (by omega : x6.toInt ≤ (u.1 87 0).toInt) (by omega : x4.toInt ≤ x6.toInt) (by omega : x7.toInt < (u.1 87 1).toInt) (by omega : x8.toInt < p4 (u.1 85 28).toInt) (by omega) (by omega) (by omega) hP hD hS (lv_sub hl [3, 4, 5, 6, 7, 8, 9, 10, 2, 1, 0] rfl)
                      · refine a_ic F (1 : Int32) dX12_plansFor_207 (by decide) ?_
                        refine lv_goto (tgt := 212) F.1 F.2.1 dX12_plansFor_208 (by decide) ?_
                        refine lv_istore (lv' := [(10, .int (1 : Int32)), (9, .int (1000 : Int32)), (0, .ref (ad 85)), (1, .int p0), (3, .int x3), (4, .int x4), (5, .int x5), (6, .int x6), (7, .int x7), (8, .int x8)]) F.1 F.2.1 dX12_plansFor_212 hl (by decide) rfl (fun ls hl => ?_)
                        refine a_ic F (0 : Int32) dX12_plansFor_214 (by decide) ?_
                        refine lv_istore (lv' := [(11, .int (0 : Int32)), (10, .int (1 : Int32)), (9, .int (1000 : Int32)), (0, .ref (ad 85)), (1, .int p0), (3, .int x3), (4, .int x4), (5, .int x5), (6, .int x6), (7, .int x7), (8, .int x8)]) F.1 F.2.1 dX12_plansFor_215 hl (by decide) rfl (fun ls hl => ?_)
                        have g70 : (0 : Int) ≤ (u.1 87 1).toInt ∧ (u.1 87 1).toInt ≤ 8 := hR 87 1
                        have g71 : (0 : Int) ≤ (u.1 87 106).toInt ∧ (u.1 87 106).toInt ≤ 480 := hR 87 106
                        have g72 : (0 : Int) ≤ (u.1 87 5).toInt ∧ (u.1 87 5).toInt ≤ 6 := hR 87 5
                        exact L217 17 x3 x4 x5 x6 x7 x8 (1000 : Int32) (1 : Int32) (0 : Int32) _ _ _ _ hR hF (by decide) hK_FL2 (bs_0 (by decide) rfl (fun _ => by decide)) (by omega) (by omega) (by omega) (by omega) (by omega) (by omega) (by decide) (by decide) (by decide) (by omega : (1 : Int) ≤ (u.1 87 1).toInt ∧ (u.1 87 1).toInt ≤ 8) (by omega : x4.toInt = ((u.1 87 106).toInt).tmod ((u.1 87 0).toInt)) (by omega : x5.toInt = 1 + (u.1 87 1).toInt + (u.1 87 5).toInt) (by omega : x6.toInt ≤ (u.1 87 0).toInt) (by omega : x4.toInt ≤ x6.toInt) (by omega : x7.toInt < (u.1 87 1).toInt) (by omega : x8.toInt < p4 (u.1 85 28).toInt) (by omega) (by omega) (by omega) hP hD hS (lv_sub hl [3, 4, 5, 6, 7, 8, 9, 10, 2, 1, 0] rfl)
                  · refine a_ic F (0 : Int32) dX12_plansFor_178 (by decide) ?_
                    refine lv_goto (tgt := 185) F.1 F.2.1 dX12_plansFor_179 (by decide) ?_
                    refine lv_istore (lv' := [(9, .int (0 : Int32)), (0, .ref (ad 85)), (1, .int p0), (3, .int x3), (4, .int x4), (5, .int x5), (6, .int x6), (7, .int x7), (8, .int x8)]) F.1 F.2.1 dX12_plansFor_185 hl (by decide) rfl (fun ls hl => ?_)
                    refine lv_iload F.1 F.2.1 dX12_plansFor_187 (lv_at hl 6 rfl) ?_
                    refine lv_iload F.1 F.2.1 dX12_plansFor_189 (lv_at hl 4 rfl) ?_
                    refine b_ne F 211 dX12_plansFor_191 (by decide) rfl rfl (fun c73 => ?_) (fun c73 => ?_)
                    · refine a_ic F (0 : Int32) dX12_plansFor_211 (by decide) ?_
                      refine lv_istore (lv' := [(10, .int (0 : Int32)), (9, .int (0 : Int32)), (0, .ref (ad 85)), (1, .int p0), (3, .int x3), (4, .int x4), (5, .int x5), (6, .int x6), (7, .int x7), (8, .int x8)]) F.1 F.2.1 dX12_plansFor_212 hl (by decide) rfl (fun ls hl => ?_)
                      refine a_ic F (0 : Int32) dX12_plansFor_214 (by decide) ?_
                      refine lv_istore (lv' := [(11, .int (0 : Int32)), (10, .int (0 : Int32)), (9, .int (0 : Int32)), (0, .ref (ad 85)), (1, .int p0), (3, .int x3), (4, .int x4), (5, .int x5), (6, .int x6), (7, .int x7), (8, .int x8)]) F.1 F.2.1 dX12_plansFor_215 hl (by decide) rfl (fun ls hl => ?_)
                      have g74 : (0 : Int) ≤ (u.1 87 1).toInt ∧ (u.1 87 1).toInt ≤ 8 := hR 87 1
                      have g75 : (0 : Int) ≤ (u.1 87 106).toInt ∧ (u.1 87 106).toInt ≤ 480 := hR 87 106
                      have g76 : (0 : Int) ≤ (u.1 87 5).toInt ∧ (u.1 87 5).toInt ≤ 6 := hR 87 5
                      exact L217 17 x3 x4 x5 x6 x7 x8 (0 : Int32) (0 : Int32) (0 : Int32) _ _ _ _ hR hF (by decide) hK_FL2 (bs_0 (by decide) rfl (fun h9 => absurd h9 (by omega))) (by omega) (by omega) (by omega) (by omega) (by omega) (by omega) (by decide) (by decide) (by decide) (by omega : (1 : Int) ≤ (u.1 87 1).toInt ∧ (u.1 87 1).toInt ≤ 8) (by omega : x4.toInt = ((u.1 87 106).toInt).tmod ((u.1 87 0).toInt)) (by omega : x5.toInt = 1 + (u.1 87 1).toInt + (u.1 87 5).toInt) (by omega : x6.toInt ≤ (u.1 87 0).toInt) (by omega : x4.toInt ≤ x6.toInt) (by omega : x7.toInt < (u.1 87 1).toInt) (by omega : x8.toInt < p4 (u.1 85 28).toInt) (by omega) (by omega) (by omega) hP hD hS (lv_sub hl [3, 4, 5, 6, 7, 8, 9, 10, 2, 1, 0] rfl)
                    · refine lv_aload_n F.1 F.2.1 dX12_plansFor_194 rfl (lv_at hl 1 rfl) ?_
                      refine a_getr F inX12 hP 85 6 tc_85 rfl rfl (by decide) q1477 (fun _ h9 => h9) dX12_plansFor_195 ?_
                      refine a_bp F (111 : Int32) dX12_plansFor_198 (by decide) ?_
                      refine lv_iload_n F.1 F.2.1 dX12_plansFor_200 rfl (lv_at hl 2 rfl) ?_
                      refine a_iadd F dX12_plansFor_201 ic_111 rfl (by omega) (fun v77 hv77 => ?_)
                      refine a_iald F hP 87 tc_87 rfl (i_in rfl (by omega)) dX12_plansFor_202 (fun v78 ev78 => ?_)
                      refine a_ic F (1 : Int32) dX12_plansFor_203 (by decide) ?_
                      refine b_ne F 211 dX12_plansFor_204 (by decide) rfl ic_1 (fun c79 => ?_) (fun c79 => ?_)
                      · refine a_ic F (0 : Int32) dX12_plansFor_211 (by decide) ?_
                        refine lv_istore (lv' := [(10, .int (0 : Int32)), (9, .int (0 : Int32)), (0, .ref (ad 85)), (1, .int p0), (3, .int x3), (4, .int x4), (5, .int x5), (6, .int x6), (7, .int x7), (8, .int x8)]) F.1 F.2.1 dX12_plansFor_212 hl (by decide) rfl (fun ls hl => ?_)
                        refine a_ic F (0 : Int32) dX12_plansFor_214 (by decide) ?_
                        refine lv_istore (lv' := [(11, .int (0 : Int32)), (10, .int (0 : Int32)), (9, .int (0 : Int32)), (0, .ref (ad 85)), (1, .int p0), (3, .int x3), (4, .int x4), (5, .int x5), (6, .int x6), (7, .int x7), (8, .int x8)]) F.1 F.2.1 dX12_plansFor_215 hl (by decide) rfl (fun ls hl => ?_)
                        have g80 : (0 : Int) ≤ (u.1 87 1).toInt ∧ (u.1 87 1).toInt ≤ 8 := hR 87 1
                        have g81 : (0 : Int) ≤ (u.1 87 106).toInt ∧ (u.1 87 106).toInt ≤ 480 := hR 87 106
                        have g82 : (0 : Int) ≤ (u.1 87 5).toInt ∧ (u.1 87 5).toInt ≤ 6 := hR 87 5
                        exact L217 17 x3 x4 x5 x6 x7 x8 (0 : Int32) (0 : Int32) (0 : Int32) _ _ _ _ hR hF (by decide) hK_FL2 (bs_0 (by decide) rfl (fun h9 => absurd h9 (by omega))) (by omega) (by omega) (by omega) (by omega) (by omega) (by omega) (by decide) (by decide) (by decide) (by omega : (1 : Int) ≤ (u.1 87 1).toInt ∧ (u.1 87 1).toInt ≤ 8) (by omega : x4.toInt = ((u.1 87 106).toInt).tmod ((u.1 87 0).toInt)) (by omega : x5.toInt = 1 + (u.1 87 1).toInt + (u.1 87 5).toInt) (by omega : x6.toInt ≤ (u.1 87 0).toInt) (by omega : x4.toInt ≤ x6.toInt) (by omega : x7.toInt < (u.1 87 1).toInt) (by omega : x8.toInt < p4 (u.1 85 28).toInt) (by omega) (by omega) (by omega) hP hD hS (lv_sub hl [3, 4, 5, 6, 7, 8, 9, 10, 2, 1, 0] rfl)
                      · refine a_ic F (1 : Int32) dX12_plansFor_207 (by decide) ?_
                        refine lv_goto (tgt := 212) F.1 F.2.1 dX12_plansFor_208 (by decide) ?_
                        refine lv_istore (lv' := [(10, .int (1 : Int32)), (9, .int (0 : Int32)), (0, .ref (ad 85)), (1, .int p0), (3, .int x3), (4, .int x4), (5, .int x5), (6, .int x6), (7, .int x7), (8, .int x8)]) F.1 F.2.1 dX12_plansFor_212 hl (by decide) rfl (fun ls hl => ?_)
                        refine a_ic F (0 : Int32) dX12_plansFor_214 (by decide) ?_
                        refine lv_istore (lv' := [(11, .int (0 : Int32)), (10, .int (1 : Int32)), (9, .int (0 : Int32)), (0, .ref (ad 85)), (1, .int p0), (3, .int x3), (4, .int x4), (5, .int x5), (6, .int x6), (7, .int x7), (8, .int x8)]) F.1 F.2.1 dX12_plansFor_215 hl (by decide) rfl (fun ls hl => ?_)
                        have g83 : (0 : Int) ≤ (u.1 87 1).toInt ∧ (u.1 87 1).toInt ≤ 8 := hR 87 1
                        have g84 : (0 : Int) ≤ (u.1 87 106).toInt ∧ (u.1 87 106).toInt ≤ 480 := hR 87 106
                        have g85 : (0 : Int) ≤ (u.1 87 5).toInt ∧ (u.1 87 5).toInt ≤ 6 := hR 87 5
                        exact L217 17 x3 x4 x5 x6 x7 x8 (0 : Int32) (1 : Int32) (0 : Int32) _ _ _ _ hR hF (by decide) hK_FL2 (bs_0 (by decide) rfl (fun h9 => absurd h9 (by omega))) (by omega) (by omega) (by omega) (by omega) (by omega) (by omega) (by decide) (by decide) (by decide) (by omega : (1 : Int) ≤ (u.1 87 1).toInt ∧ (u.1 87 1).toInt ≤ 8) (by omega : x4.toInt = ((u.1 87 106).toInt).tmod ((u.1 87 0).toInt)) (by omega : x5.toInt = 1 + (u.1 87 1).toInt + (u.1 87 5).toInt) (by omega : x6.toInt ≤ (u.1 87 0).toInt) (by omega : x4.toInt ≤ x6.toInt) (by omega : x7.toInt < (u.1 87 1).toInt) (by omega : x8.toInt < p4 (u.1 85 28).toInt) (by omega) (by omega) (by omega) hP hD hS (lv_sub hl [3, 4, 5, 6, 7, 8, 9, 10, 2, 1, 0] rfl)
                · refine a_sp F (1000 : Int32) dX12_plansFor_167 (by decide) ?_
                  refine lv_goto (tgt := 185) F.1 F.2.1 dX12_plansFor_170 (by decide) ?_
                  refine lv_istore (lv' := [(9, .int (1000 : Int32)), (0, .ref (ad 85)), (1, .int p0), (3, .int x3), (4, .int x4), (5, .int x5), (6, .int x6), (7, .int x7), (8, .int x8)]) F.1 F.2.1 dX12_plansFor_185 hl (by decide) rfl (fun ls hl => ?_)
                  refine lv_iload F.1 F.2.1 dX12_plansFor_187 (lv_at hl 6 rfl) ?_
                  refine lv_iload F.1 F.2.1 dX12_plansFor_189 (lv_at hl 4 rfl) ?_
                  refine b_ne F 211 dX12_plansFor_191 (by decide) rfl rfl (fun c86 => ?_) (fun c86 => ?_)
                  · refine a_ic F (0 : Int32) dX12_plansFor_211 (by decide) ?_
                    refine lv_istore (lv' := [(10, .int (0 : Int32)), (9, .int (1000 : Int32)), (0, .ref (ad 85)), (1, .int p0), (3, .int x3), (4, .int x4), (5, .int x5), (6, .int x6), (7, .int x7), (8, .int x8)]) F.1 F.2.1 dX12_plansFor_212 hl (by decide) rfl (fun ls hl => ?_)
                    refine a_ic F (0 : Int32) dX12_plansFor_214 (by decide) ?_
                    refine lv_istore (lv' := [(11, .int (0 : Int32)), (10, .int (0 : Int32)), (9, .int (1000 : Int32)), (0, .ref (ad 85)), (1, .int p0), (3, .int x3), (4, .int x4), (5, .int x5), (6, .int x6), (7, .int x7), (8, .int x8)]) F.1 F.2.1 dX12_plansFor_215 hl (by decide) rfl (fun ls hl => ?_)
                    have g87 : (0 : Int) ≤ (u.1 87 1).toInt ∧ (u.1 87 1).toInt ≤ 8 := hR 87 1
                    have g88 : (0 : Int) ≤ (u.1 87 106).toInt ∧ (u.1 87 106).toInt ≤ 480 := hR 87 106
                    have g89 : (0 : Int) ≤ (u.1 87 5).toInt ∧ (u.1 87 5).toInt ≤ 6 := hR 87 5
                    exact L217 17 x3 x4 x5 x6 x7 x8 (1000 : Int32) (0 : Int32) (0 : Int32) _ _ _ _ hR hF (by decide) hK_FL2 (bs_0 (by decide) rfl (fun _ => by decide)) (by omega) (by omega) (by omega) (by omega) (by omega) (by omega) (by decide) (by decide) (by decide) (by omega : (1 : Int) ≤ (u.1 87 1).toInt ∧ (u.1 87 1).toInt ≤ 8) (by omega : x4.toInt = ((u.1 87 106).toInt).tmod ((u.1 87 0).toInt)) (by omega : x5.toInt = 1 + (u.1 87 1).toInt + (u.1 87 5).toInt) (by omega : x6.toInt ≤ (u.1 87 0).toInt) (by omega : x4.toInt ≤ x6.toInt) (by omega : x7.toInt < (u.1 87 1).toInt) (by omega : x8.toInt < p4 (u.1 85 28).toInt) (by omega) (by omega) (by omega) hP hD hS (lv_sub hl [3, 4, 5, 6, 7, 8, 9, 10, 2, 1, 0] rfl)
                  · refine lv_aload_n F.1 F.2.1 dX12_plansFor_194 rfl (lv_at hl 1 rfl) ?_
                    refine a_getr F inX12 hP 85 6 tc_85 rfl rfl (by decide) q1477 (fun _ h9 => h9) dX12_plansFor_195 ?_
                    refine a_bp F (111 : Int32) dX12_plansFor_198 (by decide) ?_
                    refine lv_iload_n F.1 F.2.1 dX12_plansFor_200 rfl (lv_at hl 2 rfl) ?_
                    refine a_iadd F dX12_plansFor_201 ic_111 rfl (by omega) (fun v90 hv90 => ?_)
                    refine a_iald F hP 87 tc_87 rfl (i_in rfl (by omega)) dX12_plansFor_202 (fun v91 ev91 => ?_)
                    refine a_ic F (1 : Int32) dX12_plansFor_203 (by decide) ?_
                    refine b_ne F 211 dX12_plansFor_204 (by decide) rfl ic_1 (fun c92 => ?_) (fun c92 => ?_)
                    · refine a_ic F (0 : Int32) dX12_plansFor_211 (by decide) ?_
                      refine lv_istore (lv' := [(10, .int (0 : Int32)), (9, .int (1000 : Int32)), (0, .ref (ad 85)), (1, .int p0), (3, .int x3), (4, .int x4), (5, .int x5), (6, .int x6), (7, .int x7), (8, .int x8)]) F.1 F.2.1 dX12_plansFor_212 hl (by decide) rfl (fun ls hl => ?_)
                      refine a_ic F (0 : Int32) dX12_plansFor_214 (by decide) ?_
                      refine lv_istore (lv' := [(11, .int (0 : Int32)), (10, .int (0 : Int32)), (9, .int (1000 : Int32)), (0, .ref (ad 85)), (1, .int p0), (3, .int x3), (4, .int x4), (5, .int x5), (6, .int x6), (7, .int x7), (8, .int x8)]) F.1 F.2.1 dX12_plansFor_215 hl (by decide) rfl (fun ls hl => ?_)
                      have g93 : (0 : Int) ≤ (u.1 87 1).toInt ∧ (u.1 87 1).toInt ≤ 8 := hR 87 1
                      have g94 : (0 : Int) ≤ (u.1 87 106).toInt ∧ (u.1 87 106).toInt ≤ 480 := hR 87 106
                      have g95 : (0 : Int) ≤ (u.1 87 5).toInt ∧ (u.1 87 5).toInt ≤ 6 := hR 87 5
                      exact L217 17 x3 x4 x5 x6 x7 x8 (1000 : Int32) (0 : Int32) (0 : Int32) _ _ _ _ hR hF (by decide) hK_FL2 (bs_0 (by decide) rfl (fun _ => by decide)) (by omega) (by omega) (by omega) (by omega) (by omega) (by omega) (by decide) (by decide) (by decide) (by omega : (1 : Int) ≤ (u.1 87 1).toInt ∧ (u.1 87 1).toInt ≤ 8) (by omega : x4.toInt = ((u.1 87 106).toInt).tmod ((u.1 87 0).toInt)) (by omega : x5.toInt = 1 + (u.1 87 1).toInt + (u.1 87 5).toInt) (by omega : x6.toInt ≤ (u.1 87 0).toInt) (by omega : x4.toInt ≤ x6.toInt) (by omega : x7.toInt < (u.1 87 1).toInt) (by omega : x8.toInt < p4 (u.1 85 28).toInt) (by omega) (by omega) (by omega) hP hD hS (lv_sub hl [3, 4, 5, 6, 7, 8, 9, 10, 2, 1, 0] rfl)
                    · refine a_ic F (1 : Int32) dX12_plansFor_207 (by decide) ?_
                      refine lv_goto (tgt := 212) F.1 F.2.1 dX12_plansFor_208 (by decide) ?_
                      refine lv_istore (lv' := [(10, .int (1 : Int32)), (9, .int (1000 : Int32)), (0, .ref (ad 85)), (1, .int p0), (3, .int x3), (4, .int x4), (5, .int x5), (6, .int x6), (7, .int x7), (8, .int x8)]) F.1 F.2.1 dX12_plansFor_212 hl (by decide) rfl (fun ls hl => ?_)
                      refine a_ic F (0 : Int32) dX12_plansFor_214 (by decide) ?_
                      refine lv_istore (lv' := [(11, .int (0 : Int32)), (10, .int (1 : Int32)), (9, .int (1000 : Int32)), (0, .ref (ad 85)), (1, .int p0), (3, .int x3), (4, .int x4), (5, .int x5), (6, .int x6), (7, .int x7), (8, .int x8)]) F.1 F.2.1 dX12_plansFor_215 hl (by decide) rfl (fun ls hl => ?_)
                      have g96 : (0 : Int) ≤ (u.1 87 1).toInt ∧ (u.1 87 1).toInt ≤ 8 := hR 87 1
                      have g97 : (0 : Int) ≤ (u.1 87 106).toInt ∧ (u.1 87 106).toInt ≤ 480 := hR 87 106
                      have g98 : (0 : Int) ≤ (u.1 87 5).toInt ∧ (u.1 87 5).toInt ≤ 6 := hR 87 5
                      exact L217 17 x3 x4 x5 x6 x7 x8 (1000 : Int32) (1 : Int32) (0 : Int32) _ _ _ _ hR hF (by decide) hK_FL2 (bs_0 (by decide) rfl (fun _ => by decide)) (by omega) (by omega) (by omega) (by omega) (by omega) (by omega) (by decide) (by decide) (by decide) (by omega : (1 : Int) ≤ (u.1 87 1).toInt ∧ (u.1 87 1).toInt ≤ 8) (by omega : x4.toInt = ((u.1 87 106).toInt).tmod ((u.1 87 0).toInt)) (by omega : x5.toInt = 1 + (u.1 87 1).toInt + (u.1 87 5).toInt) (by omega : x6.toInt ≤ (u.1 87 0).toInt) (by omega : x4.toInt ≤ x6.toInt) (by omega : x7.toInt < (u.1 87 1).toInt) (by omega : x8.toInt < p4 (u.1 85 28).toInt) (by omega) (by omega) (by omega) hP hD hS (lv_sub hl [3, 4, 5, 6, 7, 8, 9, 10, 2, 1, 0] rfl)
          refine lv_iload F.1 F.2.1 dX12_plansFor_129 (lv_at hl 6 rfl) ?_
          refine lv_aload_n F.1 F.2.1 dX12_plansFor_131 rfl (lv_at hl 0 rfl) ?_
          refine a_getr F inX12 hP 85 6 tc_85 rfl rfl (by decide) q1477 (fun _ h9 => h9) dX12_plansFor_132 ?_
          refine a_ic F (1 : Int32) dX12_plansFor_135 (by decide) ?_
          have g99 : (0 : Int) ≤ (u.1 87 1).toInt ∧ (u.1 87 1).toInt ≤ 8 := hR 87 1
          refine a_ialdK F hP 87 1 tc_87 rfl rfl (i_in ic_1 (by omega)) (v := (u.1 87 1)) rfl dX12_plansFor_136 ?_
          refine b_ge F 308 dX12_plansFor_137 (by decide) rfl rfl (fun c100 => ?_) (fun c100 => ?_)
          · refine a_iinc F (k := 5) (fun v101 => [(6, .int v101), (0, .ref (ad 85)), (1, .int p0), (3, .int x3), (4, .int x4), (5, .int x5), (7, .int x7)]) dX12_plansFor_308 hl rfl rfl (by decide) (by omega) (by decide) (fun _ => rfl) (fun v101 ls hv101 hl => ?_)
            refine lv_goto (tgt := 119) F.1 F.2.1 dX12_plansFor_311 (by decide) ?_
            have g102 : (0 : Int) ≤ (u.1 87 106).toInt ∧ (u.1 87 106).toInt ≤ 480 := hR 87 106
            have g103 : (4 : Int) ≤ (u.1 87 0).toInt ∧ (u.1 87 0).toInt ≤ 24 := hR 87 0
            have g104 : (0 : Int) ≤ (u.1 87 5).toInt ∧ (u.1 87 5).toInt ≤ 6 := hR 87 5
            exact ih119 x3 x4 x5 v101 _ _ _ _ hR hF (by omega) (fr_p hK_FL1 (by omega) (by omega)) (by omega) (by omega) (by omega) (by omega) (by omega : x4.toInt = ((u.1 87 106).toInt).tmod ((u.1 87 0).toInt)) (by omega : x5.toInt = 1 + (u.1 87 1).toInt + (u.1 87 5).toInt) (by omega : v101.toInt ≤ (u.1 87 0).toInt) hP hD hS (lv_sub hl [1, 2, 3, 4, 5, 0] rfl)
          · refine a_ic F (0 : Int32) dX12_plansFor_140 (by decide) ?_
            refine lv_istore (lv' := [(8, .int (0 : Int32)), (0, .ref (ad 85)), (1, .int p0), (3, .int x3), (4, .int x4), (5, .int x5), (6, .int x6), (7, .int x7)]) F.1 F.2.1 dX12_plansFor_141 hl (by decide) rfl (fun ls hl => ?_)
            have g105 : (0 : Int) ≤ (u.1 87 106).toInt ∧ (u.1 87 106).toInt ≤ 480 := hR 87 106
            have g106 : (4 : Int) ≤ (u.1 87 0).toInt ∧ (u.1 87 0).toInt ≤ 24 := hR 87 0
            have g107 : (0 : Int) ≤ (u.1 87 5).toInt ∧ (u.1 87 5).toInt ≤ 6 := hR 87 5
            exact L143 258 x3 x4 x5 x6 x7 (0 : Int32) _ _ _ _ hR hF (by decide) (fr_e hK_FL1 rfl rfl rfl) (by omega) (by omega) (by omega) (by omega) (by omega) (by decide) (by omega : (1 : Int) ≤ (u.1 87 1).toInt ∧ (u.1 87 1).toInt ≤ 8) (by omega : x4.toInt = ((u.1 87 106).toInt).tmod ((u.1 87 0).toInt)) (by omega : x5.toInt = 1 + (u.1 87 1).toInt + (u.1 87 5).toInt) (by omega : x6.toInt ≤ (u.1 87 0).toInt) (by omega : x4.toInt ≤ x6.toInt) (by omega : x7.toInt < (u.1 87 1).toInt) (by omega) (by omega) hP hD hS (lv_sub hl [1, 2, 3, 4, 5, 6, 7, 0] rfl)
      refine lv_iload F.1 F.2.1 dX12_plansFor_119 (lv_at hl 5 rfl) ?_
      refine lv_iload F.1 F.2.1 dX12_plansFor_121 (lv_at hl 3 rfl) ?_
      refine b_lt F 314 dX12_plansFor_123 (by decide) rfl rfl (fun c108 => ?_) (fun c108 => ?_)
      · refine lv_aload_n F.1 F.2.1 dX12_plansFor_314 rfl (lv_at hl 0 rfl) ?_
        refine a_getr F inX12 hP 85 25 tc_85 rfl rfl (by decide) q1496 (fun _ h9 => h9) dX12_plansFor_315 ?_
        refine lv_aload_n F.1 F.2.1 dX12_plansFor_318 rfl (lv_at hl 0 rfl) ?_
        refine lv_iload F.1 F.2.1 dX12_plansFor_319 (lv_at hl 3 rfl) ?_
        refine lv_aload_n F.1 F.2.1 dX12_plansFor_321 rfl (lv_at hl 0 rfl) ?_
        refine a_getr F inX12 hP 85 6 tc_85 rfl rfl (by decide) q1477 (fun _ h9 => h9) dX12_plansFor_322 ?_
        refine a_bp F (107 : Int32) dX12_plansFor_325 (by decide) ?_
        refine lv_iload_n F.1 F.2.1 dX12_plansFor_327 rfl (lv_at hl 1 rfl) ?_
        refine a_iadd F dX12_plansFor_328 ic_107 rfl (by omega) (fun v109 hv109 => ?_)
        refine a_iald F hP 87 tc_87 rfl (i_in rfl (by omega)) dX12_plansFor_329 (fun v110 ev110 => ?_)
        have hv110 : (0 : Int) ≤ v110.toInt ∧ v110.toInt ≤ 7 := rg_seg_87_107_110 hR ev110 (by omega)
        refine lv_iload_n F.1 F.2.1 dX12_plansFor_330 rfl (lv_at hl 2 rfl) ?_
        refine a_Vi F hml hl.1 hA hP hD hS (As := [.int x4, .int v110, .int x3]) (c_X12_slot_85_f l dC dI ad cA nF _ x4 v110 x3 hR (by omega) (by omega) (by omega)) (cs_RX12_332 (d := 1) F.2.2.1 (by decide)) tc_85 rfl rfl rfl rfl (Nat.le_of_ble_eq_true rfl) dX12_plansFor_331 ⟨Nat.le_refl 0, Nat.le_refl 0⟩ (fun r111 uN111 H locs hq hP hD hS => ?_)
        obtain ⟨hu111, gr111, xr111⟩ := hq
        rw [hu111] at hP hD
        have xr111 : r111.toInt = 2048 * x4.toInt + 256 * v110.toInt + x3.toInt := xr111
        refine a_iald F hP 95 tc_95 rfl (i_in rfl (by omega)) dX12_plansFor_334 (fun v112 ev112 => ?_)
        exact a_reti F hr hlocks hP hD hS dX12_plansFor_335 ⟨hR, hF, (fr_d hK_FL0 (x := x4.toInt) (by unfold frS; omega) (by omega))⟩
      · refine a_ic F (0 : Int32) dX12_plansFor_126 (by decide) ?_
        refine lv_istore (lv' := [(7, .int (0 : Int32)), (0, .ref (ad 85)), (1, .int p0), (3, .int x3), (4, .int x4), (5, .int x5), (6, .int x6)]) F.1 F.2.1 dX12_plansFor_127 hl (by decide) rfl (fun ls hl => ?_)
        have g113 : (0 : Int) ≤ (u.1 87 106).toInt ∧ (u.1 87 106).toInt ≤ 480 := hR 87 106
        have g114 : (4 : Int) ≤ (u.1 87 0).toInt ∧ (u.1 87 0).toInt ≤ 24 := hR 87 0
        have g115 : (0 : Int) ≤ (u.1 87 1).toInt ∧ (u.1 87 1).toInt ≤ 8 := hR 87 1
        have g116 : (0 : Int) ≤ (u.1 87 5).toInt ∧ (u.1 87 5).toInt ≤ 6 := hR 87 5
        exact L129 10 x3 x4 x5 x6 (0 : Int32) _ _ _ _ hR hF (by decide) (fr_e hK_FL0 rfl rfl rfl) (by omega) (by omega) (by omega) (by omega) (by decide) (by omega : x4.toInt = ((u.1 87 106).toInt).tmod ((u.1 87 0).toInt)) (by omega : x5.toInt = 1 + (u.1 87 1).toInt + (u.1 87 5).toInt) (by omega : x6.toInt ≤ (u.1 87 0).toInt) (by omega : x4.toInt ≤ x6.toInt) (by omega) hP hD hS (lv_sub hl [1, 2, 3, 4, 5, 6, 0] rfl)
  have L10 : ∀ (n10 : Nat) (x3 : Int32) (x4 : Int32) (u : ac_U) (H : Heap) (locs : List Loc) (ls : Array Slot), ac_R rg u → ac_Fr [(85, some 28), (95, none), (96, none)] u0 u → 8 - x4.toInt < (n10 : Int) → (0 : Int) ≤ x3.toInt ∧ x3.toInt ≤ 255 → (0 : Int) ≤ x4.toInt ∧ x4.toInt ≤ 8 → (u.1 85 28).toInt = pcZ p1.toInt x4.toInt → x3.toInt < p4 (u.1 85 28).toInt → va_P (dC, dI) vwCl (ac_w ad cA (TT nF) u) H → va_D A (ac_w ad cA (TT nF) u) → va_S A s.heap H locs → lv_has ls 12 [(0, .ref (ad 85)), (1, .int p0), (2, .int p1), (3, .int x3), (4, .int x4)] → W p l e (ac_rm 5) s m [.ref (ad 85), .int p0, .int p1].toArray below meth c H locs 0 0 (MQ below (va_Qi (fun (r : Int32) (u : ac_U) => ac_R rg u ∧ ac_Fr [(85, some 28), (95, none), (96, none)] u0 u ∧ feR u) (ac_B (dC, dI) vwCl (ac_ty cA) ad cA (TT nF) A) A) [.ref (ad 85), .int p0, .int p1].toArray s 0 0 A) (F0 m 10 ls []) := by
    intro n10
    induction n10 with
    | zero => intro x3 x4 u H locs ls hR hF hn10 f0 f1 f2 f3 hP hD hS hl; exfalso; omega
    | succ n10 ih10 =>
      intro x3 x4 u H locs ls hR hF hn10 f0 f1 f2 f3 hP hD hS hl
      refine lv_iload F.1 F.2.1 dX12_plansFor_10 (lv_at hl 4 rfl) ?_
      refine lv_aload_n F.1 F.2.1 dX12_plansFor_12 rfl (lv_at hl 0 rfl) ?_
      refine a_getr F inX12 hP 85 6 tc_85 rfl rfl (by decide) q1477 (fun _ h9 => h9) dX12_plansFor_13 ?_
      refine a_bp F (6 : Int32) dX12_plansFor_16 (by decide) ?_
      have g118 : (0 : Int) ≤ (u.1 87 6).toInt ∧ (u.1 87 6).toInt ≤ 8 := hR 87 6
      refine a_ialdK F hP 87 6 tc_87 rfl rfl (i_in ic_6 (by omega)) (v := (u.1 87 6)) rfl dX12_plansFor_18 ?_
      refine b_ge F 78 dX12_plansFor_19 (by decide) rfl rfl (fun c119 => ?_) (fun c119 => ?_)
      · refine lv_aload_n F.1 F.2.1 dX12_plansFor_78 rfl (lv_at hl 0 rfl) ?_
        refine a_getr F inX12 hP 85 6 tc_85 rfl rfl (by decide) q1477 (fun _ h9 => h9) dX12_plansFor_79 ?_
        refine a_bp F (106 : Int32) dX12_plansFor_82 (by decide) ?_
        have g120 : (0 : Int) ≤ (u.1 87 106).toInt ∧ (u.1 87 106).toInt ≤ 480 := hR 87 106
        refine a_ialdK F hP 87 106 tc_87 rfl rfl (i_in ic_106 (by omega)) (v := (u.1 87 106)) rfl dX12_plansFor_84 ?_
        refine lv_aload_n F.1 F.2.1 dX12_plansFor_85 rfl (lv_at hl 0 rfl) ?_
        refine a_getr F inX12 hP 85 6 tc_85 rfl rfl (by decide) q1477 (fun _ h9 => h9) dX12_plansFor_86 ?_
        refine a_ic F (0 : Int32) dX12_plansFor_89 (by decide) ?_
        have g121 : (4 : Int) ≤ (u.1 87 0).toInt ∧ (u.1 87 0).toInt ≤ 24 := hR 87 0
        refine a_ialdK F hP 87 0 tc_87 rfl rfl (i_in ic_0 (by omega)) (v := (u.1 87 0)) rfl dX12_plansFor_90 ?_
        refine tm_eq F dX12_plansFor_91 rfl rfl (by omega) (fun v122 ev122 hv122 => ?_)
        refine lv_istore (lv' := [(4, .int v122), (0, .ref (ad 85)), (1, .int p0), (2, .int p1), (3, .int x3)]) F.1 F.2.1 dX12_plansFor_92 hl (by decide) rfl (fun ls hl => ?_)
        refine a_ic F (1 : Int32) dX12_plansFor_94 (by decide) ?_
        refine lv_aload_n F.1 F.2.1 dX12_plansFor_95 rfl (lv_at hl 1 rfl) ?_
        refine a_getr F inX12 hP 85 6 tc_85 rfl rfl (by decide) q1477 (fun _ h9 => h9) dX12_plansFor_96 ?_
        refine a_ic F (1 : Int32) dX12_plansFor_99 (by decide) ?_
        have g123 : (0 : Int) ≤ (u.1 87 1).toInt ∧ (u.1 87 1).toInt ≤ 8 := hR 87 1
        refine a_ialdK F hP 87 1 tc_87 rfl rfl (i_in ic_1 (by omega)) (v := (u.1 87 1)) rfl dX12_plansFor_100 ?_
        refine a_iadd F dX12_plansFor_101 ic_1 rfl (by omega) (fun v124 hv124 => ?_)
        refine lv_aload_n F.1 F.2.1 dX12_plansFor_102 rfl (lv_at hl 1 rfl) ?_
        refine a_getr F inX12 hP 85 6 tc_85 rfl rfl (by decide) q1477 (fun _ h9 => h9) dX12_plansFor_103 ?_
        refine a_ic F (5 : Int32) dX12_plansFor_106 (by decide) ?_
        have g125 : (0 : Int) ≤ (u.1 87 5).toInt ∧ (u.1 87 5).toInt ≤ 6 := hR 87 5
        refine a_ialdK F hP 87 5 tc_87 rfl rfl (i_in ic_5 (by omega)) (v := (u.1 87 5)) rfl dX12_plansFor_107 ?_
        refine a_iadd F dX12_plansFor_108 rfl rfl (by omega) (fun v126 hv126 => ?_)
        refine lv_istore (lv' := [(5, .int v126), (4, .int v122), (0, .ref (ad 85)), (1, .int p0), (2, .int p1), (3, .int x3)]) F.1 F.2.1 dX12_plansFor_109 hl (by decide) rfl (fun ls hl => ?_)
        refine lv_aload_n F.1 F.2.1 dX12_plansFor_111 rfl (lv_at hl 2 rfl) ?_
        refine a_getr F inX12 hP 85 6 tc_85 rfl rfl (by decide) q1477 (fun _ h9 => h9) dX12_plansFor_112 ?_
        refine a_ic F (0 : Int32) dX12_plansFor_115 (by decide) ?_
        refine a_ialdK F hP 87 0 tc_87 rfl rfl (i_in ic_0 (by omega)) (v := (u.1 87 0)) (rfl) dX12_plansFor_116 ?_
        refine lv_istore (lv' := [(6, .int (u.1 87 0)), (5, .int v126), (4, .int v122), (0, .ref (ad 85)), (1, .int p0), (2, .int p1), (3, .int x3)]) F.1 F.2.1 dX12_plansFor_117 hl (by decide) rfl (fun ls hl => ?_)
        exact L119 27 x3 v122 v126 (u.1 87 0) _ _ _ _ hR hF (by omega) (fr_0 hD hR (by omega)) (by omega) (by omega) (by omega) (by omega) (by omega : v122.toInt = ((u.1 87 106).toInt).tmod ((u.1 87 0).toInt)) (by omega : v126.toInt = 1 + (u.1 87 1).toInt + (u.1 87 5).toInt) (by omega : (u.1 87 0).toInt ≤ (u.1 87 0).toInt) hP hD hS (lv_sub hl [3, 4, 6, 2, 1, 0] rfl)
      · refine lv_iload_n F.1 F.2.1 dX12_plansFor_22 rfl (lv_at hl 2 rfl) ?_
        refine lv_iload F.1 F.2.1 dX12_plansFor_23 (lv_at hl 4 rfl) ?_
        refine a_Si F hml hl.1 hA hP hD hS (As := [.int p1, .int x4]) (c_X12_bitOf_f l dC dI ad cA nF _ p1 x4 hR (by omega)) (cs_RX12_223 (d := 1) F.2.2.1 (by decide)) rfl rfl (Nat.le_of_ble_eq_true rfl) dX12_plansFor_25 ⟨Nat.le_refl 0, Nat.le_refl 0⟩ (fun r127 uN127 H locs hq hP hD hS => ?_)
        obtain ⟨hu127, gr127, xr127⟩ := hq
        rw [hu127] at hP hD
        have xr127 : r127.toInt = btZ p1.toInt x4.toInt := xr127
        have hbt : r127.toInt = btZ p1.toInt x4.toInt := xr127
        refine z_ne F 34 dX12_plansFor_28 (by decide) rfl (fun c129 => ?_) (fun c129 => ?_)
        · have hp34 := pc_lt (s := p1.toInt) (k := x4.toInt) (by omega) hE0 (by omega)
          refine lv_aload_n F.1 F.2.1 dX12_plansFor_34 rfl (lv_at hl 0 rfl) ?_
          refine a_getr F inX12 hP 85 26 tc_85 rfl rfl (by decide) q1497 (fun _ h9 => h9) dX12_plansFor_35 ?_
          refine lv_aload_n F.1 F.2.1 dX12_plansFor_38 rfl (lv_at hl 0 rfl) ?_
          have g131 : (0 : Int) ≤ (u.1 85 28).toInt ∧ (u.1 85 28).toInt ≤ 4 := hR 85 28
          refine a_geti F inX12 hP 85 28 tc_85 rfl rfl (by decide) q1499 (fun _ h9 => h9) (v := (u.1 85 28)) rfl dX12_plansFor_39 ?_
          refine lv_iload F.1 F.2.1 dX12_plansFor_42 (lv_at hl 4 rfl) ?_
          refine a_iast F hP hD hS 96 tc_96 rfl (i_in rfl (by omega)) dX12_plansFor_44 (fun H locs hP hD hS => ?_)
          have hR := hR.si (c := 96) (k := (u.1 85 28).toNatClampNeg) (v := x4) (by omega : (0 : Int) ≤ x4.toInt ∧ x4.toInt ≤ 7)
          have hF := hF.si (c := 96) (k := (u.1 85 28).toNatClampNeg) (v := x4) rfl
          refine lv_iload_n F.1 F.2.1 dX12_plansFor_45 rfl (lv_at hl 3 rfl) ?_
          refine lv_aload_n F.1 F.2.1 dX12_plansFor_46 rfl (lv_at hl 0 rfl) ?_
          refine lv_iload F.1 F.2.1 dX12_plansFor_47 (lv_at hl 4 rfl) ?_
          refine a_ic F (0 : Int32) dX12_plansFor_49 (by decide) ?_
          refine a_Vi F hml hl.1 hA hP hD hS (As := [.int x4, .int (0 : Int32)]) (c_X12_leftOf_85_f l dC dI ad cA nF _ x4 (0 : Int32) hR (by omega) (by decide)) (cs_RX12_323 (d := 4) F.2.2.1 (by decide)) tc_85 rfl rfl rfl rfl (Nat.le_of_ble_eq_true rfl) dX12_plansFor_50 ⟨Nat.le_refl 0, Nat.le_refl 0⟩ (fun r132 uN132 H locs hq hP hD hS => ?_)
          obtain ⟨hu132, gr132⟩ := hq
          rw [hu132] at hP hD
          refine a_ic F (2 : Int32) dX12_plansFor_53 (by decide) ?_
          refine lv_aload_n F.1 F.2.1 dX12_plansFor_54 rfl (lv_at hl 0 rfl) ?_
          refine a_geti F inX12 hP 85 28 tc_85 rfl rfl (by decide) q1499 (fun _ h9 => h9) (v := (u.1 85 28)) (rfl) dX12_plansFor_55 ?_
          refine a_imul F dX12_plansFor_58 ic_2 rfl (by omega) (fun v133 hv133 => ?_)
          refine lv_ishl F.1 F.2.1 dX12_plansFor_59 ?_
          refine lv_ior F.1 F.2.1 dX12_plansFor_60 ?_
          refine lv_topi (fun v134 ev134 => ?_)
          have hzv134 := or_i (c := x3) (l := r132) (n := (u.1 85 28).toInt) (by omega) (by omega) (by omega) hv133 ev134
          have hv134 : 0 ≤ v134.toInt ∧ v134.toInt ≤ 255 := by omega
          refine lv_istore_n (lv' := [(3, .int v134), (0, .ref (ad 85)), (1, .int p0), (2, .int p1), (4, .int x4)]) F.1 F.2.1 dX12_plansFor_61 rfl hl (by decide) rfl (fun ls hl => ?_)
          refine lv_aload_n F.1 F.2.1 dX12_plansFor_62 rfl (lv_at hl 1 rfl) ?_
          refine lv_dup F.1 F.2.1 dX12_plansFor_63 rfl ?_
          refine a_geti F inX12 hP 85 28 tc_85 rfl rfl (by decide) q1499 (fun _ h9 => h9) (v := (u.1 85 28)) (rfl) dX12_plansFor_64 ?_
          refine a_ic F (1 : Int32) dX12_plansFor_67 (by decide) ?_
          refine a_iadd F dX12_plansFor_68 rfl ic_1 (by omega) (fun v135 hv135 => ?_)
          refine a_puti F inX12 tyX12 tyX12_ok nmX12 hP hD hS 85 28 tc_85 rfl rfl (by decide) q1499 (fun _ h9 => h9) rfl (ty := .int) (tyX12_ok 28 (by decide)) rfl rfl dX12_plansFor_69 (fun H locs hP hD hS => ?_)
          have hR := hR.si (c := 85) (k := 28) (v := v135) (by omega : (0 : Int) ≤ v135.toInt ∧ v135.toInt ≤ 4)
          have hF := hF.si (c := 85) (k := 28) (v := v135) rfl
          refine a_iinc F (k := 4) (fun v136 => [(4, .int v136), (3, .int v134), (0, .ref (ad 85)), (1, .int p0), (2, .int p1)]) dX12_plansFor_72 hl rfl rfl (by decide) (by omega) (by decide) (fun _ => rfl) (fun v136 ls hv136 hl => ?_)
          have hq75 : pcZ p1.toInt v136.toInt = _ := (congrArg (pcZ p1.toInt) hv136).trans hp34.2
          have hr75 : p4 v135.toInt = p4 ((u.1 85 28).toInt + 1) := congrArg p4 hv135
          refine lv_goto (tgt := 10) F.1 F.2.1 dX12_plansFor_75 (by decide) ?_
          exact ih10 v134 v136 _ _ _ _ hR hF (by omega) (by omega) (by omega) (by omega : v135.toInt = pcZ p1.toInt v136.toInt) (by omega : v134.toInt < p4 v135.toInt) hP hD hS (lv_sub hl [2, 3, 4, 1, 0] rfl)
        · have hp34 := pc_no (s := p1.toInt) (k := x4.toInt) (by omega) hE0 (by omega)
          refine lv_goto (tgt := 72) F.1 F.2.1 dX12_plansFor_31 (by decide) ?_
          refine a_iinc F (k := 4) (fun v139 => [(4, .int v139), (0, .ref (ad 85)), (1, .int p0), (2, .int p1), (3, .int x3)]) dX12_plansFor_72 hl rfl rfl (by decide) (by omega) (by decide) (fun _ => rfl) (fun v139 ls hv139 hl => ?_)
          have hq75 : pcZ p1.toInt v139.toInt = _ := (congrArg (pcZ p1.toInt) hv139).trans hp34.2
          refine lv_goto (tgt := 10) F.1 F.2.1 dX12_plansFor_75 (by decide) ?_
          have g141 : (0 : Int) ≤ (u.1 85 28).toInt ∧ (u.1 85 28).toInt ≤ 4 := hR 85 28
          exact ih10 x3 v139 _ _ _ _ hR hF (by omega) (by omega) (by omega) (by omega : (u.1 85 28).toInt = pcZ p1.toInt v139.toInt) (by omega : x3.toInt < p4 (u.1 85 28).toInt) hP hD hS (lv_sub hl [1, 2, 3, 4, 0] rfl)
  refine lv_aload_n F.1 F.2.1 dX12_plansFor_0 rfl (lv_at hl 0 rfl) ?_
  refine a_ic F (0 : Int32) dX12_plansFor_1 (by decide) ?_
  refine a_puti F inX12 tyX12 tyX12_ok nmX12 hP hD hS 85 28 tc_85 rfl rfl (by decide) q1499 (fun _ h9 => h9) rfl (ty := .int) (tyX12_ok 28 (by decide)) rfl rfl dX12_plansFor_2 (fun H locs hP hD hS => ?_)
  have hR := hR.si (c := 85) (k := 28) (v := (0 : Int32)) (by rw [ic_0]; exact (by omega : (0 : Int) ≤ (0 : Int) ∧ (0 : Int) ≤ 4))
  have hF := hF.si (c := 85) (k := 28) (v := (0 : Int32)) rfl
  refine a_ic F (0 : Int32) dX12_plansFor_5 (by decide) ?_
  refine lv_istore_n (lv' := [(3, .int (0 : Int32)), (0, .ref (ad 85)), (1, .int p0), (2, .int p1)]) F.1 F.2.1 dX12_plansFor_6 rfl hl (by decide) rfl (fun ls hl => ?_)
  refine a_ic F (0 : Int32) dX12_plansFor_7 (by decide) ?_
  have hp0 := pc_0 (s := p1.toInt) (k := 0) rfl
  have hp1 : p4 0 = 1 := rfl
  refine lv_istore (lv' := [(4, .int (0 : Int32)), (3, .int (0 : Int32)), (0, .ref (ad 85)), (1, .int p0), (2, .int p1)]) F.1 F.2.1 dX12_plansFor_8 hl (by decide) rfl (fun ls hl => ?_)
  exact L10 10 (0 : Int32) (0 : Int32) _ _ _ _ hR hF (by decide) (by decide) (by decide) (by first | (rw [ic_0]; exact (by omega : (0 : Int) = pcZ p1.toInt (0 : Int))) | rw [ic_0]) (by first | (rw [ic_0]; exact (by omega : (0 : Int) < p4 (0 : Int))) | rw [ic_0]) hP hD hS (lv_sub hl [2, 3, 4, 1, 0] rfl)
set_option maxHeartbeats 600000 in
set_option maxRecDepth 100000 in
theorem c_X12_plan_85 (l : Launch) (dC : Nat → ClassId) (dI : Nat → Nat → Nat) (ad : Nat → Nat) (cA : Nat → ClassId) (nF : Nat) (u0 : ac_U) (p0 : Int32) (hR : ac_R rg u0) (hK_MS : msI u0) (hK_AP : apI u0) : ac_Mi l yX12_plan (.code yX12_plan cX12_plan 9 (some .int) :: TB) 7 (dC, dI) vwCl (ac_ty cA) ad cA (TT nF) [.ref (ad 85), .int p0] u0 (fun (r : Int32) (u : ac_U) => ac_R rg u ∧ ac_Fr [(85, some 0), (85, some 28), (85, some 29), (85, some 30), (95, none), (96, none), (97, none)] u0 u ∧ (r.toInt ≤ 999)) := by
  refine ac_Mi.of (cc := cX12_plan) (maxL := 9) (ret := (some .int)) (by decide) rfl (Nat.le_of_ble_eq_true rfl) ?_
  intro p e s m below meth c A ls F hml hr hlocks hA hP hD hS hl
  have F : ac_X p s m [.ref (ad 85), .int p0].toArray c cX12_plan RX12 TB (dC, dI) vwCl (ac_ty cA) := ⟨F.1, F.2.1, fun w h => F.2.2.1 w (List.mem_cons_of_mem _ h), F.2.2.2.1, F.2.2.2.2⟩
  have hl : lv_has ls 9 [(0, .ref (ad 85)), (1, .int p0)] := hl
  have hF : ac_Fr [(85, some 0), (85, some 28), (85, some 29), (85, some 30), (95, none), (96, none), (97, none)] u0 u0 := ac_Fr.rf
  have L122 : ∀ (n122 : Nat) (x2 : Int32) (x3 : Int32) (x4 : Int32) (x5 : Int32) (u : ac_U) (H : Heap) (locs : List Loc) (ls : Array Slot), ac_R rg u → ac_Fr [(85, some 0), (85, some 28), (85, some 29), (85, some 30), (95, none), (96, none), (97, none)] u0 u → 24 - x5.toInt < (n122 : Int) → feR u → (0 : Int) ≤ p0.toInt ∧ p0.toInt ≤ 3 → x2.toInt ≤ 999 → (0 : Int) ≤ x3.toInt ∧ x3.toInt ≤ 7 → (0 : Int) ≤ x4.toInt ∧ x4.toInt ≤ 255 → (0 : Int) ≤ x5.toInt ∧ x5.toInt ≤ 24 → (0 : Int) ≤ (u.1 85 0).toInt ∧ (u.1 85 0).toInt ≤ 0 → (4 : Int) ≤ (u.1 85 30).toInt ∧ (u.1 85 30).toInt ≤ 24 → x3.toInt < (u.1 87 1).toInt → x4.toInt < p4 (u.1 85 28).toInt → ((u.1 87 106).toInt).tmod ((u.1 87 0).toInt) ≤ x5.toInt → (u.1 85 30).toInt = (u.1 87 0).toInt → va_P (dC, dI) vwCl (ac_w ad cA (TT nF) u) H → va_D A (ac_w ad cA (TT nF) u) → va_S A s.heap H locs → lv_has ls 9 [(0, .ref (ad 85)), (1, .int p0), (2, .int x2), (3, .int x3), (4, .int x4), (5, .int x5)] → W p l e (ac_rm 7) s m [.ref (ad 85), .int p0].toArray below meth c H locs 0 0 (MQ below (va_Qi (fun (r : Int32) (u : ac_U) => ac_R rg u ∧ ac_Fr [(85, some 0), (85, some 28), (85, some 29), (85, some 30), (95, none), (96, none), (97, none)] u0 u ∧ (r.toInt ≤ 999)) (ac_B (dC, dI) vwCl (ac_ty cA) ad cA (TT nF) A) A) [.ref (ad 85), .int p0].toArray s 0 0 A) (F0 m 122 ls []) := by
    intro n122
    induction n122 with
    | zero => intro x2 x3 x4 x5 u H locs ls hR hF hn122 hK_FE f0 f1 f2 f3 f4 f5 f6 f7 f8 f9 f10 hP hD hS hl; exfalso; omega
    | succ n122 ih122 =>
      intro x2 x3 x4 x5 u H locs ls hR hF hn122 hK_FE f0 f1 f2 f3 f4 f5 f6 f7 f8 f9 f10 hP hD hS hl
      have L262 : ∀ (x2 : Int32) (x3 : Int32) (x4 : Int32) (x5 : Int32) (u : ac_U) (H : Heap) (locs : List Loc) (ls : Array Slot), ac_R rg u → ac_Fr [(85, some 0), (85, some 28), (85, some 29), (85, some 30), (95, none), (96, none), (97, none)] u0 u → feR u → (0 : Int) ≤ p0.toInt ∧ p0.toInt ≤ 3 → x2.toInt ≤ 999 → (0 : Int) ≤ x3.toInt ∧ x3.toInt ≤ 7 → (0 : Int) ≤ x4.toInt ∧ x4.toInt ≤ 255 → (0 : Int) ≤ x5.toInt ∧ x5.toInt ≤ 23 → (0 : Int) ≤ (u.1 85 0).toInt ∧ (u.1 85 0).toInt ≤ 0 → (4 : Int) ≤ (u.1 85 30).toInt ∧ (u.1 85 30).toInt ≤ 24 → x3.toInt < (u.1 87 1).toInt → x4.toInt < p4 (u.1 85 28).toInt → ((u.1 87 106).toInt).tmod ((u.1 87 0).toInt) ≤ x5.toInt → (u.1 85 30).toInt = (u.1 87 0).toInt → x5.toInt < (u.1 87 0).toInt → 24 - x5.toInt + 0 < ((n122 : Nat) : Int) + 1 → va_P (dC, dI) vwCl (ac_w ad cA (TT nF) u) H → va_D A (ac_w ad cA (TT nF) u) → va_S A s.heap H locs → lv_has ls 9 [(0, .ref (ad 85)), (1, .int p0), (2, .int x2), (3, .int x3), (4, .int x4), (5, .int x5)] → W p l e (ac_rm 7) s m [.ref (ad 85), .int p0].toArray below meth c H locs 0 0 (MQ below (va_Qi (fun (r : Int32) (u : ac_U) => ac_R rg u ∧ ac_Fr [(85, some 0), (85, some 28), (85, some 29), (85, some 30), (95, none), (96, none), (97, none)] u0 u ∧ (r.toInt ≤ 999)) (ac_B (dC, dI) vwCl (ac_ty cA) ad cA (TT nF) A) A) [.ref (ad 85), .int p0].toArray s 0 0 A) (F0 m 262 ls []) := by
        intro x2 x3 x4 x5 u H locs ls hR hF hK_FE f0 f1 f2 f3 f4 f5 f6 f7 f8 f9 f10 f11 f12 hP hD hS hl
        refine a_iinc F (k := 5) (fun v1 => [(5, .int v1), (0, .ref (ad 85)), (1, .int p0), (2, .int x2), (3, .int x3), (4, .int x4)]) dX12_plan_262 hl rfl rfl (by decide) (by omega) (by decide) (fun _ => rfl) (fun v1 ls hv1 hl => ?_)
        refine lv_goto (tgt := 122) F.1 F.2.1 dX12_plan_265 (by decide) ?_
        have g2 : (0 : Int) ≤ (u.1 85 0).toInt ∧ (u.1 85 0).toInt ≤ 1 := hR 85 0
        have g3 : (0 : Int) ≤ (u.1 85 30).toInt ∧ (u.1 85 30).toInt ≤ 24 := hR 85 30
        have g4 : (0 : Int) ≤ (u.1 87 1).toInt ∧ (u.1 87 1).toInt ≤ 8 := hR 87 1
        have g5 : (0 : Int) ≤ (u.1 85 28).toInt ∧ (u.1 85 28).toInt ≤ 4 := hR 85 28
        have g6 : (0 : Int) ≤ (u.1 87 106).toInt ∧ (u.1 87 106).toInt ≤ 480 := hR 87 106
        have g7 : (4 : Int) ≤ (u.1 87 0).toInt ∧ (u.1 87 0).toInt ≤ 24 := hR 87 0
        exact ih122 x2 x3 x4 v1 _ _ _ _ hR hF (by omega) hK_FE (by omega) (by omega) (by omega) (by omega) (by omega) (by omega : (0 : Int) ≤ (u.1 85 0).toInt ∧ (u.1 85 0).toInt ≤ 0) (by omega : (4 : Int) ≤ (u.1 85 30).toInt ∧ (u.1 85 30).toInt ≤ 24) (by omega : x3.toInt < (u.1 87 1).toInt) (by omega : x4.toInt < p4 (u.1 85 28).toInt) (by omega : ((u.1 87 106).toInt).tmod ((u.1 87 0).toInt) ≤ v1.toInt) (by omega : (u.1 85 30).toInt = (u.1 87 0).toInt) hP hD hS (lv_sub hl [1, 2, 3, 4, 5, 0] rfl)
      have L206 : ∀ (x2 : Int32) (x3 : Int32) (x4 : Int32) (x5 : Int32) (x7 : Int32) (u : ac_U) (H : Heap) (locs : List Loc) (ls : Array Slot), ac_R rg u → ac_Fr [(85, some 0), (85, some 28), (85, some 29), (85, some 30), (95, none), (96, none), (97, none)] u0 u → feR u → (0 : Int) ≤ p0.toInt ∧ p0.toInt ≤ 3 → x2.toInt ≤ 999 → (0 : Int) ≤ x3.toInt ∧ x3.toInt ≤ 7 → (0 : Int) ≤ x4.toInt ∧ x4.toInt ≤ 255 → (0 : Int) ≤ x5.toInt ∧ x5.toInt ≤ 23 → (0 : Int) ≤ x7.toInt ∧ x7.toInt ≤ 14 → (0 : Int) ≤ (u.1 85 0).toInt ∧ (u.1 85 0).toInt ≤ 0 → (4 : Int) ≤ (u.1 85 30).toInt ∧ (u.1 85 30).toInt ≤ 24 → x3.toInt < (u.1 87 1).toInt → x4.toInt < p4 (u.1 85 28).toInt → ((u.1 87 106).toInt).tmod ((u.1 87 0).toInt) ≤ x5.toInt → (u.1 85 30).toInt = (u.1 87 0).toInt → x5.toInt < (u.1 87 0).toInt → x7.toInt ≤ (u.1 87 1).toInt + (u.1 87 5).toInt → 24 - x5.toInt + 0 < ((n122 : Nat) : Int) + 1 → va_P (dC, dI) vwCl (ac_w ad cA (TT nF) u) H → va_D A (ac_w ad cA (TT nF) u) → va_S A s.heap H locs → lv_has ls 9 [(0, .ref (ad 85)), (1, .int p0), (2, .int x2), (3, .int x3), (4, .int x4), (5, .int x5), (7, .int x7)] → W p l e (ac_rm 7) s m [.ref (ad 85), .int p0].toArray below meth c H locs 0 0 (MQ below (va_Qi (fun (r : Int32) (u : ac_U) => ac_R rg u ∧ ac_Fr [(85, some 0), (85, some 28), (85, some 29), (85, some 30), (95, none), (96, none), (97, none)] u0 u ∧ (r.toInt ≤ 999)) (ac_B (dC, dI) vwCl (ac_ty cA) ad cA (TT nF) A) A) [.ref (ad 85), .int p0].toArray s 0 0 A) (F0 m 206 ls []) := by
        intro x2 x3 x4 x5 x7 u H locs ls hR hF hK_FE f0 f1 f2 f3 f4 f5 f6 f7 f8 f9 f10 f11 f12 f13 f14 hP hD hS hl
        refine lv_aload_n F.1 F.2.1 dX12_plan_206 rfl (lv_at hl 0 rfl) ?_
        refine lv_iload F.1 F.2.1 dX12_plan_207 (lv_at hl 6 rfl) ?_
        refine a_Vi F hml hl.1 hA hP hD hS (As := [.int x7]) (c_X12_choiceOf_85_f l dC dI ad cA nF _ x7 hR (by omega)) (cs_RX12_339 (d := 1) F.2.2.1 (by decide)) tc_85 rfl rfl rfl rfl (Nat.le_of_ble_eq_true rfl) dX12_plan_209 ⟨Nat.le_refl 0, Nat.le_refl 0⟩ (fun r8 uN8 H locs hq hP hD hS => ?_)
        obtain ⟨hu8, gr8, xr8⟩ := hq
        rw [hu8] at hP hD
        have xr8 : r8.toInt = chS u x7.toInt := xr8
        have hch : r8.toInt = chS u x7.toInt := xr8
        have hcc := ch_r (u := u) (i := x7.toInt) (by omega) (hR 87 1)
        refine lv_istore (lv' := [(8, .int r8), (0, .ref (ad 85)), (1, .int p0), (2, .int x2), (3, .int x3), (4, .int x4), (5, .int x5), (7, .int x7)]) F.1 F.2.1 dX12_plan_212 hl (by decide) rfl (fun ls hl => ?_)
        refine lv_aload_n F.1 F.2.1 dX12_plan_214 rfl (lv_at hl 1 rfl) ?_
        refine a_getr F inX12 hP 85 27 tc_85 rfl rfl (by decide) q1498 (fun _ h9 => h9) dX12_plan_215 ?_
        refine lv_iload F.1 F.2.1 dX12_plan_218 (lv_at hl 6 rfl) ?_
        refine lv_iload F.1 F.2.1 dX12_plan_220 (lv_at hl 0 rfl) ?_
        refine a_iast F hP hD hS 97 tc_97 rfl (i_in rfl (by omega)) dX12_plan_222 (fun H locs hP hD hS => ?_)
        have hR := hR.si (c := 97) (k := x5.toNatClampNeg) (v := r8) ⟨i_lo _, i_hi _⟩
        have hF := hF.si (c := 97) (k := x5.toNatClampNeg) (v := r8) rfl
        have hK_FE := sp_sgD sp_FE hD hK_FE (by decide)
        refine lv_iload F.1 F.2.1 dX12_plan_223 (lv_at hl 0 rfl) ?_
        refine a_sp F (200 : Int32) dX12_plan_225 (by decide) ?_
        refine b_lt F 251 dX12_plan_228 (by decide) rfl ic_200 (fun c10 => ?_) (fun c10 => ?_)
        · refine lv_iload F.1 F.2.1 dX12_plan_251 (lv_at hl 0 rfl) ?_
          refine z_le F 262 dX12_plan_253 (by decide) rfl (fun c11 => ?_) (fun c11 => ?_)
          · have g12 : (0 : Int) ≤ (u.1 85 0).toInt ∧ (u.1 85 0).toInt ≤ 1 := hR 85 0
            have g13 : (0 : Int) ≤ (u.1 85 30).toInt ∧ (u.1 85 30).toInt ≤ 24 := hR 85 30
            have g14 : (0 : Int) ≤ (u.1 87 1).toInt ∧ (u.1 87 1).toInt ≤ 8 := hR 87 1
            have g15 : (0 : Int) ≤ (u.1 85 28).toInt ∧ (u.1 85 28).toInt ≤ 4 := hR 85 28
            have g16 : (0 : Int) ≤ (u.1 87 106).toInt ∧ (u.1 87 106).toInt ≤ 480 := hR 87 106
            have g17 : (4 : Int) ≤ (u.1 87 0).toInt ∧ (u.1 87 0).toInt ≤ 24 := hR 87 0
            exact L262 x2 x3 x4 x5 _ _ _ _ hR hF hK_FE (by omega) (by omega) (by omega) (by omega) (by omega) (by omega : (0 : Int) ≤ (u.1 85 0).toInt ∧ (u.1 85 0).toInt ≤ 0) (by omega : (4 : Int) ≤ (u.1 85 30).toInt ∧ (u.1 85 30).toInt ≤ 24) (by omega : x3.toInt < (u.1 87 1).toInt) (by omega : x4.toInt < p4 (u.1 85 28).toInt) (by omega : ((u.1 87 106).toInt).tmod ((u.1 87 0).toInt) ≤ x5.toInt) (by omega : (u.1 85 30).toInt = (u.1 87 0).toInt) (by omega : x5.toInt < (u.1 87 0).toInt) (by omega) hP hD hS (lv_sub hl [1, 2, 3, 4, 5, 6] rfl)
          · refine lv_iload F.1 F.2.1 dX12_plan_256 (lv_at hl 0 rfl) ?_
            refine a_bp F (100 : Int32) dX12_plan_258 (by decide) ?_
            refine a_isub F dX12_plan_260 rfl ic_100 (by omega) (fun v18 hv18 => ?_)
            refine lv_istore_n (lv' := [(3, .int v18), (8, .int r8), (0, .ref (ad 85)), (1, .int p0), (2, .int x2), (4, .int x4), (5, .int x5), (7, .int x7)]) F.1 F.2.1 dX12_plan_261 rfl hl (by decide) rfl (fun ls hl => ?_)
            have g19 : (0 : Int) ≤ (u.1 85 0).toInt ∧ (u.1 85 0).toInt ≤ 1 := hR 85 0
            have g20 : (0 : Int) ≤ (u.1 85 30).toInt ∧ (u.1 85 30).toInt ≤ 24 := hR 85 30
            have g21 : (0 : Int) ≤ (u.1 87 1).toInt ∧ (u.1 87 1).toInt ≤ 8 := hR 87 1
            have g22 : (0 : Int) ≤ (u.1 85 28).toInt ∧ (u.1 85 28).toInt ≤ 4 := hR 85 28
            have g23 : (0 : Int) ≤ (u.1 87 106).toInt ∧ (u.1 87 106).toInt ≤ 480 := hR 87 106
            have g24 : (4 : Int) ≤ (u.1 87 0).toInt ∧ (u.1 87 0).toInt ≤ 24 := hR 87 0
            exact L262 x2 v18 x4 x5 _ _ _ _ hR hF hK_FE (by omega) (by omega) (by omega) (by omega) (by omega) (by omega : (0 : Int) ≤ (u.1 85 0).toInt ∧ (u.1 85 0).toInt ≤ 0) (by omega : (4 : Int) ≤ (u.1 85 30).toInt ∧ (u.1 85 30).toInt ≤ 24) (by omega : v18.toInt < (u.1 87 1).toInt) (by omega : x4.toInt < p4 (u.1 85 28).toInt) (by omega : ((u.1 87 106).toInt).tmod ((u.1 87 0).toInt) ≤ x5.toInt) (by omega : (u.1 85 30).toInt = (u.1 87 0).toInt) (by omega : x5.toInt < (u.1 87 0).toInt) (by omega) hP hD hS (lv_sub hl [2, 3, 4, 0, 5, 6] rfl)
        · refine lv_aload_n F.1 F.2.1 dX12_plan_231 rfl (lv_at hl 1 rfl) ?_
          refine lv_iload F.1 F.2.1 dX12_plan_232 (lv_at hl 5 rfl) ?_
          refine lv_iload F.1 F.2.1 dX12_plan_234 (lv_at hl 6 rfl) ?_
          refine lv_iload_n F.1 F.2.1 dX12_plan_236 rfl (lv_at hl 4 rfl) ?_
          refine lv_iload F.1 F.2.1 dX12_plan_237 (lv_at hl 0 rfl) ?_
          refine a_sp F (200 : Int32) dX12_plan_239 (by decide) ?_
          refine a_isub F dX12_plan_242 rfl ic_200 (by omega) (fun v25 hv25 => ?_)
          have g26 : (0 : Int) ≤ (u.1 85 28).toInt ∧ (u.1 85 28).toInt ≤ 4 := hR 85 28
          have g27 : (4 : Int) ≤ (u.1 87 0).toInt ∧ (u.1 87 0).toInt ≤ 24 := hR 87 0
          have g28 : (0 : Int) ≤ (u.1 87 1).toInt ∧ (u.1 87 1).toInt ≤ 8 := hR 87 1
          have g29 : (0 : Int) ≤ (u.1 87 106).toInt ∧ (u.1 87 106).toInt ≤ 480 := hR 87 106
          have g30 : (0 : Int) ≤ (u.1 87 4).toInt ∧ (u.1 87 4).toInt ≤ 4 := hR 87 4
          have g31 : (0 : Int) ≤ (u.1 87 5).toInt ∧ (u.1 87 5).toInt ≤ 6 := hR 87 5
          have g32 : (0 : Int) ≤ (u.1 85 29).toInt ∧ (u.1 85 29).toInt ≤ 23 := hR 85 29
          have g33 : (0 : Int) ≤ (u.1 85 30).toInt ∧ (u.1 85 30).toInt ≤ 24 := hR 85 30
          have g34 : (0 : Int) ≤ (u.1 85 0).toInt ∧ (u.1 85 0).toInt ≤ 1 := hR 85 0
          obtain ⟨w35, hw35⟩ := ac_nm hD
          rw [← hw35] at hP hD
          have hR : ac_R rg w35 := by rw [hw35]; exact hR
          have hF : ac_Fr [(85, some 0), (85, some 28), (85, some 29), (85, some 30), (95, none), (96, none), (97, none)] u0 w35 := by rw [hw35]; exact hF
          have hK_FE : feR w35 := by rw [hw35]; exact hK_FE
          have kw35_85_28 : w35.1 85 28 = (u.1 85 28) := (congrArg (fun u9 : ac_U => u9.1 85 28) hw35).trans (rfl)
          have kw35_87_0 : w35.1 87 0 = (u.1 87 0) := (congrArg (fun u9 : ac_U => u9.1 87 0) hw35).trans (rfl)
          have kw35_87_1 : w35.1 87 1 = (u.1 87 1) := (congrArg (fun u9 : ac_U => u9.1 87 1) hw35).trans (rfl)
          have kw35_87_106 : w35.1 87 106 = (u.1 87 106) := (congrArg (fun u9 : ac_U => u9.1 87 106) hw35).trans (rfl)
          have kw35_87_4 : w35.1 87 4 = (u.1 87 4) := (congrArg (fun u9 : ac_U => u9.1 87 4) hw35).trans (rfl)
          have kw35_87_5 : w35.1 87 5 = (u.1 87 5) := (congrArg (fun u9 : ac_U => u9.1 87 5) hw35).trans (rfl)
          have kw35_85_29 : w35.1 85 29 = (u.1 85 29) := (congrArg (fun u9 : ac_U => u9.1 85 29) hw35).trans (rfl)
          have kw35_85_30 : w35.1 85 30 = (u.1 85 30) := (congrArg (fun u9 : ac_U => u9.1 85 30) hw35).trans (rfl)
          have kw35_85_0 : w35.1 85 0 = (u.1 85 0) := (congrArg (fun u9 : ac_U => u9.1 85 0) hw35).trans (rfl)
          refine a_Vi F hml hl.1 hA hP hD hS (As := [.int x4, .int x5, .int x3, .int v25]) (c_X12_after_85__2 l dC dI ad cA nF _ x4 x5 x3 v25 hR (by omega) (by omega) (by omega) (by omega)) (cs_RX12_335 (d := 3) F.2.2.1 (by decide)) tc_85 rfl rfl rfl rfl (Nat.le_of_ble_eq_true rfl) dX12_plan_243 ⟨Nat.le_refl 0, Nat.le_refl 0⟩ (fun r36 uN36 H locs hq hP hD hS => ?_)
          obtain ⟨hu36, gr36, xr36⟩ := hq
          rw [hu36] at hP hD
          have xr36 : r36.toInt = afS w35 x4.toInt x5.toInt x3.toInt v25.toInt ∧ 0 ≤ r36.toInt ∧ r36.toInt ≤ x4.toInt := xr36
          refine lv_istore (lv' := [(4, .int r36), (8, .int r8), (0, .ref (ad 85)), (1, .int p0), (2, .int x2), (3, .int x3), (5, .int x5), (7, .int x7)]) F.1 F.2.1 dX12_plan_246 hl (by decide) rfl (fun ls hl => ?_)
          refine lv_goto (tgt := 262) F.1 F.2.1 dX12_plan_248 (by decide) ?_
          exact L262 x2 x3 r36 x5 _ _ _ _ hR hF hK_FE (by omega) (by omega) (by omega) (by omega) (by omega) (i_trB (kw35_85_0) (by omega : (0 : Int) ≤ (u.1 85 0).toInt ∧ (u.1 85 0).toInt ≤ 0)) (i_trB (kw35_85_30) (by omega : (4 : Int) ≤ (u.1 85 30).toInt ∧ (u.1 85 30).toInt ≤ 24)) (by rw [kw35_87_1]; try exact (by omega : x3.toInt < (u.1 87 1).toInt)) (by rw [kw35_85_28]; try exact (by omega : r36.toInt < p4 (u.1 85 28).toInt)) (by rw [kw35_87_106, kw35_87_0]; try exact (by omega : ((u.1 87 106).toInt).tmod ((u.1 87 0).toInt) ≤ x5.toInt)) (by rw [kw35_85_30, kw35_87_0]; try exact (by omega : (u.1 85 30).toInt = (u.1 87 0).toInt)) (by rw [kw35_87_0]; try exact (by omega : x5.toInt < (u.1 87 0).toInt)) (by omega) hP hD hS (lv_sub hl [2, 3, 4, 5, 0, 6] rfl)
      have L163 : ∀ (n163 : Nat) (x2 : Int32) (x3 : Int32) (x4 : Int32) (x5 : Int32) (x6 : Int32) (x7 : Int32) (u : ac_U) (H : Heap) (locs : List Loc) (ls : Array Slot), ac_R rg u → ac_Fr [(85, some 0), (85, some 28), (85, some 29), (85, some 30), (95, none), (96, none), (97, none)] u0 u → 14 - x7.toInt < (n163 : Int) → feR u → (wtI x5.toInt x3.toInt x4.toInt x7.toInt) u → (0 : Int) ≤ p0.toInt ∧ p0.toInt ≤ 3 → x2.toInt ≤ 999 → (0 : Int) ≤ x3.toInt ∧ x3.toInt ≤ 7 → (0 : Int) ≤ x4.toInt ∧ x4.toInt ≤ 255 → (0 : Int) ≤ x5.toInt ∧ x5.toInt ≤ 23 → (0 : Int) ≤ x6.toInt ∧ x6.toInt ≤ 1 → (0 : Int) ≤ x7.toInt ∧ x7.toInt ≤ 14 → (0 : Int) ≤ (u.1 85 0).toInt ∧ (u.1 85 0).toInt ≤ 0 → (4 : Int) ≤ (u.1 85 30).toInt ∧ (u.1 85 30).toInt ≤ 24 → x3.toInt < (u.1 87 1).toInt → x4.toInt < p4 (u.1 85 28).toInt → ((u.1 87 106).toInt).tmod ((u.1 87 0).toInt) ≤ x5.toInt → (u.1 85 30).toInt = (u.1 87 0).toInt → x5.toInt < (u.1 87 0).toInt → 24 - x5.toInt + 0 < ((n122 : Nat) : Int) + 1 → va_P (dC, dI) vwCl (ac_w ad cA (TT nF) u) H → va_D A (ac_w ad cA (TT nF) u) → va_S A s.heap H locs → lv_has ls 9 [(0, .ref (ad 85)), (1, .int p0), (2, .int x2), (3, .int x3), (4, .int x4), (5, .int x5), (6, .int x6), (7, .int x7)] → W p l e (ac_rm 7) s m [.ref (ad 85), .int p0].toArray below meth c H locs 0 0 (MQ below (va_Qi (fun (r : Int32) (u : ac_U) => ac_R rg u ∧ ac_Fr [(85, some 0), (85, some 28), (85, some 29), (85, some 30), (95, none), (96, none), (97, none)] u0 u ∧ (r.toInt ≤ 999)) (ac_B (dC, dI) vwCl (ac_ty cA) ad cA (TT nF) A) A) [.ref (ad 85), .int p0].toArray s 0 0 A) (F0 m 163 ls []) := by
        intro n163
        induction n163 with
        | zero => intro x2 x3 x4 x5 x6 x7 u H locs ls hR hF hn163 hK_FE hK_WT f0 f1 f2 f3 f4 f5 f6 f7 f8 f9 f10 f11 f12 f13 f14 hP hD hS hl; exfalso; omega
        | succ n163 ih163 =>
          intro x2 x3 x4 x5 x6 x7 u H locs ls hR hF hn163 hK_FE hK_WT f0 f1 f2 f3 f4 f5 f6 f7 f8 f9 f10 f11 f12 f13 f14 hP hD hS hl
          refine lv_iload F.1 F.2.1 dX12_plan_163 (lv_at hl 6 rfl) ?_
          have hwb0 := wt_b hK_WT
          have hg165a : 0 ≤ (u.1 87 1).toInt ∧ (u.1 87 1).toInt ≤ 8 := hR 87 1
          have hg165c : 0 ≤ (u.1 87 5).toInt ∧ (u.1 87 5).toInt ≤ 6 := hR 87 5
          refine z_ne F 206 dX12_plan_165 (by decide) rfl (fun c38 => ?_) (fun c38 => ?_)
          · have g39 : (0 : Int) ≤ (u.1 85 0).toInt ∧ (u.1 85 0).toInt ≤ 1 := hR 85 0
            have g40 : (0 : Int) ≤ (u.1 85 30).toInt ∧ (u.1 85 30).toInt ≤ 24 := hR 85 30
            have g41 : (0 : Int) ≤ (u.1 87 1).toInt ∧ (u.1 87 1).toInt ≤ 8 := hR 87 1
            have g42 : (0 : Int) ≤ (u.1 85 28).toInt ∧ (u.1 85 28).toInt ≤ 4 := hR 85 28
            have g43 : (0 : Int) ≤ (u.1 87 106).toInt ∧ (u.1 87 106).toInt ≤ 480 := hR 87 106
            have g44 : (4 : Int) ≤ (u.1 87 0).toInt ∧ (u.1 87 0).toInt ≤ 24 := hR 87 0
            have g45 : (0 : Int) ≤ (u.1 87 5).toInt ∧ (u.1 87 5).toInt ≤ 6 := hR 87 5
            exact L206 x2 x3 x4 x5 x7 _ _ _ _ hR hF hK_FE (by omega) (by omega) (by omega) (by omega) (by omega) (by omega) (by omega : (0 : Int) ≤ (u.1 85 0).toInt ∧ (u.1 85 0).toInt ≤ 0) (by omega : (4 : Int) ≤ (u.1 85 30).toInt ∧ (u.1 85 30).toInt ≤ 24) (by omega : x3.toInt < (u.1 87 1).toInt) (by omega : x4.toInt < p4 (u.1 85 28).toInt) (by omega : ((u.1 87 106).toInt).tmod ((u.1 87 0).toInt) ≤ x5.toInt) (by omega : (u.1 85 30).toInt = (u.1 87 0).toInt) (by omega : x5.toInt < (u.1 87 0).toInt) (by omega : x7.toInt ≤ (u.1 87 1).toInt + (u.1 87 5).toInt) (by omega) hP hD hS (lv_sub hl [0, 1, 2, 3, 4, 5, 7] rfl)
          · refine lv_aload_n F.1 F.2.1 dX12_plan_168 rfl (lv_at hl 0 rfl) ?_
            refine lv_iload F.1 F.2.1 dX12_plan_169 (lv_at hl 5 rfl) ?_
            refine lv_iload_n F.1 F.2.1 dX12_plan_171 rfl (lv_at hl 3 rfl) ?_
            refine lv_iload F.1 F.2.1 dX12_plan_172 (lv_at hl 4 rfl) ?_
            refine lv_aload_n F.1 F.2.1 dX12_plan_174 rfl (lv_at hl 0 rfl) ?_
            refine lv_iload F.1 F.2.1 dX12_plan_175 (lv_at hl 7 rfl) ?_
            refine a_Vi F hml hl.1 hA hP hD hS (As := [.int x7]) (c_X12_choiceOf_85_f l dC dI ad cA nF _ x7 hR (by omega)) (cs_RX12_339 (d := 1) F.2.2.1 (by decide)) tc_85 rfl rfl rfl rfl (Nat.le_of_ble_eq_true rfl) dX12_plan_177 ⟨Nat.le_refl 0, Nat.le_refl 0⟩ (fun r46 uN46 H locs hq hP hD hS => ?_)
            obtain ⟨hu46, gr46, xr46⟩ := hq
            rw [hu46] at hP hD
            have xr46 : r46.toInt = chS u x7.toInt := xr46
            have hch : r46.toInt = chS u x7.toInt := xr46
            have hcc := ch_r (u := u) (i := x7.toInt) (by omega) (hR 87 1)
            refine a_Vi F hml hl.1 hA hP hD hS (As := [.int x5, .int x3, .int x4, .int r46]) (c_X12_goingsBy_85 l dC dI ad cA nF _ x5 x3 x4 r46 hR (by omega) (by omega) (by omega) (by omega) (by omega)) (cs_RX12_342 (d := 4) F.2.2.1 (by decide)) tc_85 rfl rfl rfl rfl (Nat.le_of_ble_eq_true rfl) dX12_plan_180 ⟨Nat.le_refl 0, Nat.le_refl 0⟩ (fun r48 uN48 H locs hq hP hD hS => ?_)
            obtain ⟨hu48, xr48⟩ := hq
            rw [hu48] at hP hD
            have xr48 : r48.toInt = gbZ u x5.toInt x3.toInt x4.toInt r46.toInt := xr48
            have hgb : r48.toInt = gbZ u x5.toInt x3.toInt x4.toInt (chS u x7.toInt) := by rw [← hch]; exact xr48
            refine lv_aload_n F.1 F.2.1 dX12_plan_183 rfl (lv_at hl 0 rfl) ?_
            refine a_getr F inX12 hP 85 25 tc_85 rfl rfl (by decide) q1496 (fun _ h9 => h9) dX12_plan_184 ?_
            refine lv_aload_n F.1 F.2.1 dX12_plan_187 rfl (lv_at hl 0 rfl) ?_
            refine lv_iload F.1 F.2.1 dX12_plan_188 (lv_at hl 5 rfl) ?_
            refine lv_iload_n F.1 F.2.1 dX12_plan_190 rfl (lv_at hl 3 rfl) ?_
            refine lv_iload F.1 F.2.1 dX12_plan_191 (lv_at hl 4 rfl) ?_
            refine a_Vi F hml hl.1 hA hP hD hS (As := [.int x5, .int x3, .int x4]) (c_X12_slot_85_f l dC dI ad cA nF _ x5 x3 x4 hR (by omega) (by omega) (by omega)) (cs_RX12_332 (d := 1) F.2.2.1 (by decide)) tc_85 rfl rfl rfl rfl (Nat.le_of_ble_eq_true rfl) dX12_plan_193 ⟨Nat.le_refl 0, Nat.le_refl 0⟩ (fun r50 uN50 H locs hq hP hD hS => ?_)
            obtain ⟨hu50, gr50, xr50⟩ := hq
            rw [hu50] at hP hD
            have xr50 : r50.toInt = 2048 * x5.toInt + 256 * x3.toInt + x4.toInt := xr50
            refine a_iald F hP 95 tc_95 rfl (i_in rfl (by omega)) dX12_plan_196 (fun v51 ev51 => ?_)
            have hgv : v51.toInt = (gG u (2048 * x5.toInt + 256 * x3.toInt + x4.toInt)).toInt := congrArg Int32.toInt (gG_of ev51 (by omega))
            refine b_eq F 206 dX12_plan_197 (by decide) rfl rfl (fun c52 => ?_) (fun c52 => ?_)
            · have g53 : (0 : Int) ≤ (u.1 85 0).toInt ∧ (u.1 85 0).toInt ≤ 1 := hR 85 0
              have g54 : (0 : Int) ≤ (u.1 85 30).toInt ∧ (u.1 85 30).toInt ≤ 24 := hR 85 30
              have g55 : (0 : Int) ≤ (u.1 87 1).toInt ∧ (u.1 87 1).toInt ≤ 8 := hR 87 1
              have g56 : (0 : Int) ≤ (u.1 85 28).toInt ∧ (u.1 85 28).toInt ≤ 4 := hR 85 28
              have g57 : (0 : Int) ≤ (u.1 87 106).toInt ∧ (u.1 87 106).toInt ≤ 480 := hR 87 106
              have g58 : (4 : Int) ≤ (u.1 87 0).toInt ∧ (u.1 87 0).toInt ≤ 24 := hR 87 0
              have g59 : (0 : Int) ≤ (u.1 87 5).toInt ∧ (u.1 87 5).toInt ≤ 6 := hR 87 5
              exact L206 x2 x3 x4 x5 x7 _ _ _ _ hR hF hK_FE (by omega) (by omega) (by omega) (by omega) (by omega) (by omega) (by omega : (0 : Int) ≤ (u.1 85 0).toInt ∧ (u.1 85 0).toInt ≤ 0) (by omega : (4 : Int) ≤ (u.1 85 30).toInt ∧ (u.1 85 30).toInt ≤ 24) (by omega : x3.toInt < (u.1 87 1).toInt) (by omega : x4.toInt < p4 (u.1 85 28).toInt) (by omega : ((u.1 87 106).toInt).tmod ((u.1 87 0).toInt) ≤ x5.toInt) (by omega : (u.1 85 30).toInt = (u.1 87 0).toInt) (by omega : x5.toInt < (u.1 87 0).toInt) (by omega : x7.toInt ≤ (u.1 87 1).toInt + (u.1 87 5).toInt) (by omega) hP hD hS (lv_sub hl [0, 1, 2, 3, 4, 5, 7] rfl)
            · refine a_iinc F (k := 7) (fun v60 => [(7, .int v60), (0, .ref (ad 85)), (1, .int p0), (2, .int x2), (3, .int x3), (4, .int x4), (5, .int x5), (6, .int x6)]) dX12_plan_200 hl rfl rfl (by decide) (by omega) (by decide) (fun _ => rfl) (fun v60 ls hv60 hl => ?_)
              have hwt := wt_s (n' := v60.toInt) hK_WT hgb hgv (by omega) (by omega)
              have hwb := wt_b hwt
              refine lv_goto (tgt := 163) F.1 F.2.1 dX12_plan_203 (by decide) ?_
              have g62 : (0 : Int) ≤ (u.1 85 0).toInt ∧ (u.1 85 0).toInt ≤ 1 := hR 85 0
              have g63 : (0 : Int) ≤ (u.1 85 30).toInt ∧ (u.1 85 30).toInt ≤ 24 := hR 85 30
              have g64 : (0 : Int) ≤ (u.1 87 1).toInt ∧ (u.1 87 1).toInt ≤ 8 := hR 87 1
              have g65 : (0 : Int) ≤ (u.1 85 28).toInt ∧ (u.1 85 28).toInt ≤ 4 := hR 85 28
              have g66 : (0 : Int) ≤ (u.1 87 106).toInt ∧ (u.1 87 106).toInt ≤ 480 := hR 87 106
              have g67 : (4 : Int) ≤ (u.1 87 0).toInt ∧ (u.1 87 0).toInt ≤ 24 := hR 87 0
              exact ih163 x2 x3 x4 x5 x6 v60 _ _ _ _ hR hF (by omega) hK_FE hwt (by omega) (by omega) (by omega) (by omega) (by omega) (by omega) (by omega) (by omega : (0 : Int) ≤ (u.1 85 0).toInt ∧ (u.1 85 0).toInt ≤ 0) (by omega : (4 : Int) ≤ (u.1 85 30).toInt ∧ (u.1 85 30).toInt ≤ 24) (by omega : x3.toInt < (u.1 87 1).toInt) (by omega : x4.toInt < p4 (u.1 85 28).toInt) (by omega : ((u.1 87 106).toInt).tmod ((u.1 87 0).toInt) ≤ x5.toInt) (by omega : (u.1 85 30).toInt = (u.1 87 0).toInt) (by omega : x5.toInt < (u.1 87 0).toInt) (by omega) hP hD hS (lv_sub hl [1, 2, 3, 4, 5, 6, 7, 0] rfl)
      refine lv_iload F.1 F.2.1 dX12_plan_122 (lv_at hl 5 rfl) ?_
      refine lv_aload_n F.1 F.2.1 dX12_plan_124 rfl (lv_at hl 0 rfl) ?_
      have g68 : (0 : Int) ≤ (u.1 85 30).toInt ∧ (u.1 85 30).toInt ≤ 24 := hR 85 30
      refine a_geti F inX12 hP 85 30 tc_85 rfl rfl (by decide) q1501 (fun _ h9 => h9) (v := (u.1 85 30)) rfl dX12_plan_125 ?_
      refine b_ge F 268 dX12_plan_128 (by decide) rfl rfl (fun c69 => ?_) (fun c69 => ?_)
      · refine lv_iload_n F.1 F.2.1 dX12_plan_268 rfl (lv_at hl 2 rfl) ?_
        exact a_reti F hr hlocks hP hD hS dX12_plan_269 ⟨hR, hF, (by omega : x2.toInt ≤ 999)⟩
      · refine lv_iload F.1 F.2.1 dX12_plan_131 (lv_at hl 5 rfl) ?_
        refine lv_aload_n F.1 F.2.1 dX12_plan_133 rfl (lv_at hl 0 rfl) ?_
        have g70 : (0 : Int) ≤ (u.1 85 29).toInt ∧ (u.1 85 29).toInt ≤ 23 := hR 85 29
        refine a_geti F inX12 hP 85 29 tc_85 rfl rfl (by decide) q1500 (fun _ h9 => h9) (v := (u.1 85 29)) rfl dX12_plan_134 ?_
        refine b_ne F 157 dX12_plan_137 (by decide) rfl rfl (fun c71 => ?_) (fun c71 => ?_)
        · refine a_ic F (0 : Int32) dX12_plan_157 (by decide) ?_
          refine lv_istore (lv' := [(6, .int (0 : Int32)), (0, .ref (ad 85)), (1, .int p0), (2, .int x2), (3, .int x3), (4, .int x4), (5, .int x5)]) F.1 F.2.1 dX12_plan_158 hl (by decide) rfl (fun ls hl => ?_)
          refine a_ic F (0 : Int32) dX12_plan_160 (by decide) ?_
          refine lv_istore (lv' := [(7, .int (0 : Int32)), (6, .int (0 : Int32)), (0, .ref (ad 85)), (1, .int p0), (2, .int x2), (3, .int x3), (4, .int x4), (5, .int x5)]) F.1 F.2.1 dX12_plan_161 hl (by decide) rfl (fun ls hl => ?_)
          have g72 : (0 : Int) ≤ (u.1 85 0).toInt ∧ (u.1 85 0).toInt ≤ 1 := hR 85 0
          have g73 : (0 : Int) ≤ (u.1 87 1).toInt ∧ (u.1 87 1).toInt ≤ 8 := hR 87 1
          have g74 : (0 : Int) ≤ (u.1 85 28).toInt ∧ (u.1 85 28).toInt ≤ 4 := hR 85 28
          have g75 : (0 : Int) ≤ (u.1 87 106).toInt ∧ (u.1 87 106).toInt ≤ 480 := hR 87 106
          have g76 : (4 : Int) ≤ (u.1 87 0).toInt ∧ (u.1 87 0).toInt ≤ 24 := hR 87 0
          exact L163 16 x2 x3 x4 x5 (0 : Int32) (0 : Int32) _ _ _ _ hR hF (by decide) hK_FE (wt_0 hK_FE rfl ⟨by omega, by unfold frS; omega, by omega, by omega, by omega, by omega, by omega⟩) (by omega) (by omega) (by omega) (by omega) (by omega) (by decide) (by decide) (by omega : (0 : Int) ≤ (u.1 85 0).toInt ∧ (u.1 85 0).toInt ≤ 0) (by omega : (4 : Int) ≤ (u.1 85 30).toInt ∧ (u.1 85 30).toInt ≤ 24) (by omega : x3.toInt < (u.1 87 1).toInt) (by omega : x4.toInt < p4 (u.1 85 28).toInt) (by omega : ((u.1 87 106).toInt).tmod ((u.1 87 0).toInt) ≤ x5.toInt) (by omega : (u.1 85 30).toInt = (u.1 87 0).toInt) (by omega : x5.toInt < (u.1 87 0).toInt) (by omega) hP hD hS (lv_sub hl [2, 3, 4, 5, 6, 7, 1, 0] rfl)
        · refine lv_aload_n F.1 F.2.1 dX12_plan_140 rfl (lv_at hl 0 rfl) ?_
          refine a_getr F inX12 hP 85 6 tc_85 rfl rfl (by decide) q1477 (fun _ h9 => h9) dX12_plan_141 ?_
          refine a_bp F (111 : Int32) dX12_plan_144 (by decide) ?_
          refine lv_iload_n F.1 F.2.1 dX12_plan_146 rfl (lv_at hl 1 rfl) ?_
          refine a_iadd F dX12_plan_147 ic_111 rfl (by omega) (fun v77 hv77 => ?_)
          refine a_iald F hP 87 tc_87 rfl (i_in rfl (by omega)) dX12_plan_148 (fun v78 ev78 => ?_)
          refine a_ic F (1 : Int32) dX12_plan_149 (by decide) ?_
          refine b_ne F 157 dX12_plan_150 (by decide) rfl ic_1 (fun c79 => ?_) (fun c79 => ?_)
          · refine a_ic F (0 : Int32) dX12_plan_157 (by decide) ?_
            refine lv_istore (lv' := [(6, .int (0 : Int32)), (0, .ref (ad 85)), (1, .int p0), (2, .int x2), (3, .int x3), (4, .int x4), (5, .int x5)]) F.1 F.2.1 dX12_plan_158 hl (by decide) rfl (fun ls hl => ?_)
            refine a_ic F (0 : Int32) dX12_plan_160 (by decide) ?_
            refine lv_istore (lv' := [(7, .int (0 : Int32)), (6, .int (0 : Int32)), (0, .ref (ad 85)), (1, .int p0), (2, .int x2), (3, .int x3), (4, .int x4), (5, .int x5)]) F.1 F.2.1 dX12_plan_161 hl (by decide) rfl (fun ls hl => ?_)
            have g80 : (0 : Int) ≤ (u.1 85 0).toInt ∧ (u.1 85 0).toInt ≤ 1 := hR 85 0
            have g81 : (0 : Int) ≤ (u.1 87 1).toInt ∧ (u.1 87 1).toInt ≤ 8 := hR 87 1
            have g82 : (0 : Int) ≤ (u.1 85 28).toInt ∧ (u.1 85 28).toInt ≤ 4 := hR 85 28
            have g83 : (0 : Int) ≤ (u.1 87 106).toInt ∧ (u.1 87 106).toInt ≤ 480 := hR 87 106
            have g84 : (4 : Int) ≤ (u.1 87 0).toInt ∧ (u.1 87 0).toInt ≤ 24 := hR 87 0
            exact L163 16 x2 x3 x4 x5 (0 : Int32) (0 : Int32) _ _ _ _ hR hF (by decide) hK_FE (wt_0 hK_FE rfl ⟨by omega, by unfold frS; omega, by omega, by omega, by omega, by omega, by omega⟩) (by omega) (by omega) (by omega) (by omega) (by omega) (by decide) (by decide) (by omega : (0 : Int) ≤ (u.1 85 0).toInt ∧ (u.1 85 0).toInt ≤ 0) (by omega : (4 : Int) ≤ (u.1 85 30).toInt ∧ (u.1 85 30).toInt ≤ 24) (by omega : x3.toInt < (u.1 87 1).toInt) (by omega : x4.toInt < p4 (u.1 85 28).toInt) (by omega : ((u.1 87 106).toInt).tmod ((u.1 87 0).toInt) ≤ x5.toInt) (by omega : (u.1 85 30).toInt = (u.1 87 0).toInt) (by omega : x5.toInt < (u.1 87 0).toInt) (by omega) hP hD hS (lv_sub hl [2, 3, 4, 5, 6, 7, 1, 0] rfl)
          · refine a_ic F (1 : Int32) dX12_plan_153 (by decide) ?_
            refine lv_goto (tgt := 158) F.1 F.2.1 dX12_plan_154 (by decide) ?_
            refine lv_istore (lv' := [(6, .int (1 : Int32)), (0, .ref (ad 85)), (1, .int p0), (2, .int x2), (3, .int x3), (4, .int x4), (5, .int x5)]) F.1 F.2.1 dX12_plan_158 hl (by decide) rfl (fun ls hl => ?_)
            refine a_ic F (0 : Int32) dX12_plan_160 (by decide) ?_
            refine lv_istore (lv' := [(7, .int (0 : Int32)), (6, .int (1 : Int32)), (0, .ref (ad 85)), (1, .int p0), (2, .int x2), (3, .int x3), (4, .int x4), (5, .int x5)]) F.1 F.2.1 dX12_plan_161 hl (by decide) rfl (fun ls hl => ?_)
            have g85 : (0 : Int) ≤ (u.1 85 0).toInt ∧ (u.1 85 0).toInt ≤ 1 := hR 85 0
            have g86 : (0 : Int) ≤ (u.1 87 1).toInt ∧ (u.1 87 1).toInt ≤ 8 := hR 87 1
            have g87 : (0 : Int) ≤ (u.1 85 28).toInt ∧ (u.1 85 28).toInt ≤ 4 := hR 85 28
            have g88 : (0 : Int) ≤ (u.1 87 106).toInt ∧ (u.1 87 106).toInt ≤ 480 := hR 87 106
            have g89 : (4 : Int) ≤ (u.1 87 0).toInt ∧ (u.1 87 0).toInt ≤ 24 := hR 87 0
            exact L163 16 x2 x3 x4 x5 (1 : Int32) (0 : Int32) _ _ _ _ hR hF (by decide) hK_FE (wt_0 hK_FE rfl ⟨by omega, by unfold frS; omega, by omega, by omega, by omega, by omega, by omega⟩) (by omega) (by omega) (by omega) (by omega) (by omega) (by decide) (by decide) (by omega : (0 : Int) ≤ (u.1 85 0).toInt ∧ (u.1 85 0).toInt ≤ 0) (by omega : (4 : Int) ≤ (u.1 85 30).toInt ∧ (u.1 85 30).toInt ≤ 24) (by omega : x3.toInt < (u.1 87 1).toInt) (by omega : x4.toInt < p4 (u.1 85 28).toInt) (by omega : ((u.1 87 106).toInt).tmod ((u.1 87 0).toInt) ≤ x5.toInt) (by omega : (u.1 85 30).toInt = (u.1 87 0).toInt) (by omega : x5.toInt < (u.1 87 0).toInt) (by omega) hP hD hS (lv_sub hl [2, 3, 4, 5, 6, 7, 1, 0] rfl)
  have L51 : ∀ (n51 : Nat) (x2 : Int32) (x3 : Int32) (x4 : Int32) (x5 : Int32) (u : ac_U) (H : Heap) (locs : List Loc) (ls : Array Slot), ac_R rg u → ac_Fr [(85, some 0), (85, some 28), (85, some 29), (85, some 30), (95, none), (96, none), (97, none)] u0 u → 4 - x5.toInt < (n51 : Int) → feR u → (0 : Int) ≤ p0.toInt ∧ p0.toInt ≤ 3 → x2.toInt ≤ 999 → (0 : Int) ≤ x3.toInt ∧ x3.toInt ≤ 7 → (0 : Int) ≤ x4.toInt ∧ x4.toInt ≤ 255 → (0 : Int) ≤ x5.toInt ∧ x5.toInt ≤ 4 → (0 : Int) ≤ (u.1 85 0).toInt ∧ (u.1 85 0).toInt ≤ 0 → x3.toInt < (u.1 87 1).toInt → x4.toInt < p4 x5.toInt → x5.toInt ≤ (u.1 85 28).toInt → va_P (dC, dI) vwCl (ac_w ad cA (TT nF) u) H → va_D A (ac_w ad cA (TT nF) u) → va_S A s.heap H locs → lv_has ls 9 [(0, .ref (ad 85)), (1, .int p0), (2, .int x2), (3, .int x3), (4, .int x4), (5, .int x5)] → W p l e (ac_rm 7) s m [.ref (ad 85), .int p0].toArray below meth c H locs 0 0 (MQ below (va_Qi (fun (r : Int32) (u : ac_U) => ac_R rg u ∧ ac_Fr [(85, some 0), (85, some 28), (85, some 29), (85, some 30), (95, none), (96, none), (97, none)] u0 u ∧ (r.toInt ≤ 999)) (ac_B (dC, dI) vwCl (ac_ty cA) ad cA (TT nF) A) A) [.ref (ad 85), .int p0].toArray s 0 0 A) (F0 m 51 ls []) := by
    intro n51
    induction n51 with
    | zero => intro x2 x3 x4 x5 u H locs ls hR hF hn51 hK_FE f0 f1 f2 f3 f4 f5 f6 f7 f8 hP hD hS hl; exfalso; omega
    | succ n51 ih51 =>
      intro x2 x3 x4 x5 u H locs ls hR hF hn51 hK_FE f0 f1 f2 f3 f4 f5 f6 f7 f8 hP hD hS hl
      refine lv_iload F.1 F.2.1 dX12_plan_51 (lv_at hl 5 rfl) ?_
      refine lv_aload_n F.1 F.2.1 dX12_plan_53 rfl (lv_at hl 0 rfl) ?_
      have g90 : (0 : Int) ≤ (u.1 85 28).toInt ∧ (u.1 85 28).toInt ≤ 4 := hR 85 28
      refine a_geti F inX12 hP 85 28 tc_85 rfl rfl (by decide) q1499 (fun _ h9 => h9) (v := (u.1 85 28)) rfl dX12_plan_54 ?_
      refine b_ge F 88 dX12_plan_57 (by decide) rfl rfl (fun c91 => ?_) (fun c91 => ?_)
      · have hp88 : p4 x5.toInt = p4 ((u.1 85 28).toInt) := congrArg p4 (by omega)
        refine lv_aload_n F.1 F.2.1 dX12_plan_88 rfl (lv_at hl 0 rfl) ?_
        refine lv_aload_n F.1 F.2.1 dX12_plan_89 rfl (lv_at hl 0 rfl) ?_
        refine a_getr F inX12 hP 85 6 tc_85 rfl rfl (by decide) q1477 (fun _ h9 => h9) dX12_plan_90 ?_
        refine a_bp F (106 : Int32) dX12_plan_93 (by decide) ?_
        have g93 : (0 : Int) ≤ (u.1 87 106).toInt ∧ (u.1 87 106).toInt ≤ 480 := hR 87 106
        refine a_ialdK F hP 87 106 tc_87 rfl rfl (i_in ic_106 (by omega)) (v := (u.1 87 106)) rfl dX12_plan_95 ?_
        refine lv_aload_n F.1 F.2.1 dX12_plan_96 rfl (lv_at hl 0 rfl) ?_
        refine a_getr F inX12 hP 85 6 tc_85 rfl rfl (by decide) q1477 (fun _ h9 => h9) dX12_plan_97 ?_
        refine a_ic F (0 : Int32) dX12_plan_100 (by decide) ?_
        have g94 : (4 : Int) ≤ (u.1 87 0).toInt ∧ (u.1 87 0).toInt ≤ 24 := hR 87 0
        refine a_ialdK F hP 87 0 tc_87 rfl rfl (i_in ic_0 (by omega)) (v := (u.1 87 0)) rfl dX12_plan_101 ?_
        refine tm_eq F dX12_plan_102 rfl rfl (by omega) (fun v95 ev95 hv95 => ?_)
        refine a_puti F inX12 tyX12 tyX12_ok nmX12 hP hD hS 85 29 tc_85 rfl rfl (by decide) q1500 (fun _ h9 => h9) rfl (ty := .int) (tyX12_ok 29 (by decide)) rfl rfl dX12_plan_103 (fun H locs hP hD hS => ?_)
        have hR := hR.si (c := 85) (k := 29) (v := v95) (by omega : (0 : Int) ≤ v95.toInt ∧ v95.toInt ≤ 23)
        have hF := hF.si (c := 85) (k := 29) (v := v95) rfl
        have hK_FE := sp_si sp_FE hK_FE (c := 85) (k := 29) (v := v95) (fun j9 h9 q9 => by rw [q9] at h9; exact absurd h9 (by decide))
        refine lv_aload_n F.1 F.2.1 dX12_plan_106 rfl (lv_at hl 0 rfl) ?_
        refine lv_aload_n F.1 F.2.1 dX12_plan_107 rfl (lv_at hl 0 rfl) ?_
        refine a_getr F inX12 hP 85 6 tc_85 rfl rfl (by decide) q1477 (fun _ h9 => h9) dX12_plan_108 ?_
        refine a_ic F (0 : Int32) dX12_plan_111 (by decide) ?_
        refine a_ialdK F hP 87 0 tc_87 rfl rfl (i_in ic_0 (by omega)) (v := (u.1 87 0)) (rfl) dX12_plan_112 ?_
        refine a_puti F inX12 tyX12 tyX12_ok nmX12 hP hD hS 85 30 tc_85 rfl rfl (by decide) q1501 (fun _ h9 => h9) rfl (ty := .int) (tyX12_ok 30 (by decide)) rfl rfl dX12_plan_113 (fun H locs hP hD hS => ?_)
        have hR := hR.si (c := 85) (k := 30) (v := (u.1 87 0)) (by omega : (0 : Int) ≤ (u.1 87 0).toInt ∧ (u.1 87 0).toInt ≤ 24)
        have hF := hF.si (c := 85) (k := 30) (v := (u.1 87 0)) rfl
        have hK_FE := sp_si sp_FE hK_FE (c := 85) (k := 30) (v := (u.1 87 0)) (fun j9 h9 q9 => by rw [q9] at h9; exact absurd h9 (by decide))
        refine lv_aload_n F.1 F.2.1 dX12_plan_116 rfl (lv_at hl 0 rfl) ?_
        refine a_geti F inX12 hP 85 29 tc_85 rfl rfl (by decide) q1500 (fun _ h9 => h9) (v := v95) (rfl) dX12_plan_117 ?_
        refine lv_istore (lv' := [(5, .int v95), (0, .ref (ad 85)), (1, .int p0), (2, .int x2), (3, .int x3), (4, .int x4)]) F.1 F.2.1 dX12_plan_120 hl (by decide) rfl (fun ls hl => ?_)
        have g96 : (0 : Int) ≤ (u.1 85 0).toInt ∧ (u.1 85 0).toInt ≤ 1 := hR 85 0
        have g97 : (0 : Int) ≤ (u.1 87 1).toInt ∧ (u.1 87 1).toInt ≤ 8 := hR 87 1
        exact L122 26 x2 x3 x4 v95 _ _ _ _ hR hF (by omega) hK_FE (by omega) (by omega) (by omega) (by omega) (by omega) (by omega : (0 : Int) ≤ (u.1 85 0).toInt ∧ (u.1 85 0).toInt ≤ 0) (by omega : (4 : Int) ≤ (u.1 87 0).toInt ∧ (u.1 87 0).toInt ≤ 24) (by omega : x3.toInt < (u.1 87 1).toInt) (by omega : x4.toInt < p4 (u.1 85 28).toInt) (by omega : ((u.1 87 106).toInt).tmod ((u.1 87 0).toInt) ≤ v95.toInt) (by omega : (u.1 87 0).toInt = (u.1 87 0).toInt) hP hD hS (lv_sub hl [1, 2, 3, 4, 5, 0] rfl)
      · refine lv_iload F.1 F.2.1 dX12_plan_60 (lv_at hl 4 rfl) ?_
        refine lv_aload_n F.1 F.2.1 dX12_plan_62 rfl (lv_at hl 0 rfl) ?_
        refine lv_aload_n F.1 F.2.1 dX12_plan_63 rfl (lv_at hl 0 rfl) ?_
        refine a_getr F inX12 hP 85 26 tc_85 rfl rfl (by decide) q1497 (fun _ h9 => h9) dX12_plan_64 ?_
        refine lv_iload F.1 F.2.1 dX12_plan_67 (lv_at hl 5 rfl) ?_
        refine a_iald F hP 96 tc_96 rfl (i_in rfl (by omega)) dX12_plan_69 (fun v98 ev98 => ?_)
        have hv98 : (0 : Int) ≤ v98.toInt ∧ v98.toInt ≤ 7 := ev98 ▸ hR 96 _
        refine a_ic F (0 : Int32) dX12_plan_70 (by decide) ?_
        refine a_Vi F hml hl.1 hA hP hD hS (As := [.int v98, .int (0 : Int32)]) (c_X12_leftOf_85_f l dC dI ad cA nF _ v98 (0 : Int32) hR (by omega) (by decide)) (cs_RX12_323 (d := 4) F.2.2.1 (by decide)) tc_85 rfl rfl rfl rfl (Nat.le_of_ble_eq_true rfl) dX12_plan_71 ⟨Nat.le_refl 0, Nat.le_refl 0⟩ (fun r99 uN99 H locs hq hP hD hS => ?_)
        obtain ⟨hu99, gr99⟩ := hq
        rw [hu99] at hP hD
        refine a_ic F (2 : Int32) dX12_plan_74 (by decide) ?_
        refine lv_iload F.1 F.2.1 dX12_plan_75 (lv_at hl 5 rfl) ?_
        refine a_imul F dX12_plan_77 ic_2 rfl (by omega) (fun v100 hv100 => ?_)
        refine lv_ishl F.1 F.2.1 dX12_plan_78 ?_
        refine lv_ior F.1 F.2.1 dX12_plan_79 ?_
        refine lv_topi (fun v101 ev101 => ?_)
        have hzv101 := or_i (c := x4) (l := r99) (n := x5.toInt) (by omega) (by omega) (by omega) hv100 ev101
        have hv101 : 0 ≤ v101.toInt ∧ v101.toInt ≤ 255 := by omega
        refine lv_istore (lv' := [(4, .int v101), (0, .ref (ad 85)), (1, .int p0), (2, .int x2), (3, .int x3), (5, .int x5)]) F.1 F.2.1 dX12_plan_80 hl (by decide) rfl (fun ls hl => ?_)
        refine a_iinc F (k := 5) (fun v102 => [(5, .int v102), (4, .int v101), (0, .ref (ad 85)), (1, .int p0), (2, .int x2), (3, .int x3)]) dX12_plan_82 hl rfl rfl (by decide) (by omega) (by decide) (fun _ => rfl) (fun v102 ls hv102 hl => ?_)
        have hr85 : p4 v102.toInt = p4 (x5.toInt + 1) := congrArg p4 hv102
        refine lv_goto (tgt := 51) F.1 F.2.1 dX12_plan_85 (by decide) ?_
        have g104 : (0 : Int) ≤ (u.1 85 0).toInt ∧ (u.1 85 0).toInt ≤ 1 := hR 85 0
        have g105 : (0 : Int) ≤ (u.1 87 1).toInt ∧ (u.1 87 1).toInt ≤ 8 := hR 87 1
        exact ih51 x2 x3 v101 v102 _ _ _ _ hR hF (by omega) hK_FE (by omega) (by omega) (by omega) (by omega) (by omega) (by omega : (0 : Int) ≤ (u.1 85 0).toInt ∧ (u.1 85 0).toInt ≤ 0) (by omega : x3.toInt < (u.1 87 1).toInt) (by omega : v101.toInt < p4 v102.toInt) (by omega : v102.toInt ≤ (u.1 85 28).toInt) hP hD hS (lv_sub hl [2, 3, 4, 5, 1, 0] rfl)
  refine lv_aload_n F.1 F.2.1 dX12_plan_0 rfl (lv_at hl 0 rfl) ?_
  refine a_ic F (0 : Int32) dX12_plan_1 (by decide) ?_
  refine a_puti F inX12 tyX12 tyX12_ok nmX12 hP hD hS 85 0 tc_85 rfl rfl (by decide) q1471 (fun _ h9 => h9) rfl (ty := .int) (tyX12_ok 0 (by decide)) rfl rfl dX12_plan_2 (fun H locs hP hD hS => ?_)
  have hR := hR.si (c := 85) (k := 0) (v := (0 : Int32)) (by rw [ic_0]; exact (by omega : (0 : Int) ≤ (0 : Int) ∧ (0 : Int) ≤ 1))
  have hF := hF.si (c := 85) (k := 0) (v := (0 : Int32)) rfl
  have hK_MS := sp_sgD sp_MS hD hK_MS (by decide)
  have hK_AP := sp_sgD sp_AP hD hK_AP (by decide)
  refine lv_aload_n F.1 F.2.1 dX12_plan_5 rfl (lv_at hl 0 rfl) ?_
  refine lv_iload_n F.1 F.2.1 dX12_plan_6 rfl (lv_at hl 1 rfl) ?_
  have g106 : (0 : Int) ≤ (u0.1 85 28).toInt ∧ (u0.1 85 28).toInt ≤ 4 := hR 85 28
  have g107 : (4 : Int) ≤ (u0.1 87 0).toInt ∧ (u0.1 87 0).toInt ≤ 24 := hR 87 0
  have g108 : (0 : Int) ≤ (u0.1 87 1).toInt ∧ (u0.1 87 1).toInt ≤ 8 := hR 87 1
  have g109 : (0 : Int) ≤ (u0.1 87 106).toInt ∧ (u0.1 87 106).toInt ≤ 480 := hR 87 106
  have g110 : (0 : Int) ≤ (u0.1 87 4).toInt ∧ (u0.1 87 4).toInt ≤ 4 := hR 87 4
  have g111 : (0 : Int) ≤ (u0.1 87 5).toInt ∧ (u0.1 87 5).toInt ≤ 6 := hR 87 5
  have g112 : (0 : Int) ≤ (u0.1 85 29).toInt ∧ (u0.1 85 29).toInt ≤ 23 := hR 85 29
  have g113 : (0 : Int) ≤ (u0.1 85 30).toInt ∧ (u0.1 85 30).toInt ≤ 24 := hR 85 30
  obtain ⟨w114, hw114⟩ := ac_nm hD
  rw [← hw114] at hP hD
  have hR : ac_R rg w114 := by rw [hw114]; exact hR
  have hF : ac_Fr [(85, some 0), (85, some 28), (85, some 29), (85, some 30), (95, none), (96, none), (97, none)] u0 w114 := by rw [hw114]; exact hF
  have hK_MS : msI w114 := by rw [hw114]; exact hK_MS
  have hK_AP : apI w114 := by rw [hw114]; exact hK_AP
  have kw114_85_0 : w114.1 85 0 = (0 : Int32) := (congrArg (fun u9 : ac_U => u9.1 85 0) hw114).trans (rfl)
  have kw114_85_28 : w114.1 85 28 = (u0.1 85 28) := (congrArg (fun u9 : ac_U => u9.1 85 28) hw114).trans (rfl)
  have kw114_87_0 : w114.1 87 0 = (u0.1 87 0) := (congrArg (fun u9 : ac_U => u9.1 87 0) hw114).trans (rfl)
  have kw114_87_1 : w114.1 87 1 = (u0.1 87 1) := (congrArg (fun u9 : ac_U => u9.1 87 1) hw114).trans (rfl)
  have kw114_87_106 : w114.1 87 106 = (u0.1 87 106) := (congrArg (fun u9 : ac_U => u9.1 87 106) hw114).trans (rfl)
  have kw114_87_4 : w114.1 87 4 = (u0.1 87 4) := (congrArg (fun u9 : ac_U => u9.1 87 4) hw114).trans (rfl)
  have kw114_87_5 : w114.1 87 5 = (u0.1 87 5) := (congrArg (fun u9 : ac_U => u9.1 87 5) hw114).trans (rfl)
  have kw114_85_29 : w114.1 85 29 = (u0.1 85 29) := (congrArg (fun u9 : ac_U => u9.1 85 29) hw114).trans (rfl)
  have kw114_85_30 : w114.1 85 30 = (u0.1 85 30) := (congrArg (fun u9 : ac_U => u9.1 85 30) hw114).trans (rfl)
  refine a_Vi F hml hl.1 hA hP hD hS (As := [.int p0]) (c_X12_isPlanned_85__2 l dC dI ad cA nF _ p0 hR) (cs_RX12_351 (d := 6) F.2.2.1 (by decide)) tc_85 rfl rfl rfl rfl (Nat.le_of_ble_eq_true rfl) dX12_plan_7 ⟨Nat.le_refl 0, Nat.le_refl 0⟩ (fun r115 uN115 H locs hq hP hD hS => ?_)
  obtain ⟨hu115, gr115, xr115⟩ := hq
  rw [hu115] at hP hD
  have k116 : (w114.1 87 4).toInt = (u0.1 87 4).toInt := congrArg Int32.toInt (show w114.1 87 4 = (u0.1 87 4) from kw114_87_4)
  have xr115 : r115.toInt ≠ 0 → 0 ≤ p0.toInt ∧ p0.toInt < (w114.1 87 4).toInt ∧ p0.toInt ≤ 3 ∧ popS (dqS w114 p0.toInt) ≤ 4 := xr115
  refine z_ne F 15 dX12_plan_10 (by decide) rfl (fun c117 => ?_) (fun c117 => ?_)
  · refine lv_aload_n F.1 F.2.1 dX12_plan_15 rfl (lv_at hl 0 rfl) ?_
    refine lv_iload_n F.1 F.2.1 dX12_plan_16 rfl (lv_at hl 1 rfl) ?_
    refine lv_aload_n F.1 F.2.1 dX12_plan_17 rfl (lv_at hl 0 rfl) ?_
    refine lv_iload_n F.1 F.2.1 dX12_plan_18 rfl (lv_at hl 1 rfl) ?_
    refine a_Vi F hml hl.1 hA hP hD hS (As := [.int p0]) (c_X12_dueSet_85_f l dC dI ad cA nF _ p0 hR (by omega)) (cs_RX12_345 (d := 5) F.2.2.1 (by decide)) tc_85 rfl rfl rfl rfl (Nat.le_of_ble_eq_true rfl) dX12_plan_19 ⟨Nat.le_refl 0, Nat.le_refl 0⟩ (fun r118 uN118 H locs hq hP hD hS => ?_)
    obtain ⟨hu118, gr118, xr118⟩ := hq
    rw [hu118] at hP hD
    have xr118 : r118.toInt = dqS w114 p0.toInt := xr118
    refine a_Vi F hml hl.1 hA hP hD hS (As := [.int p0, .int r118]) (c_X12_plansFor_85 l dC dI ad cA nF _ p0 r118 hR (by omega) (by omega) (by rw [xr118]; omega)) (cs_RX12_354 (d := 5) F.2.2.1 (by decide)) tc_85 rfl rfl rfl rfl (Nat.le_of_ble_eq_true rfl) dX12_plan_22 ⟨Nat.le_refl 0, Nat.le_refl 0⟩ (fun r119 u119 H locs hq hP hD hS => ?_)
    obtain ⟨hR, hF119, hK_FE⟩ := hq
    have hF := hF.tr hF119 (by decide)
    have hK_MS := sp_fr sp_MS hF119 (by decide) hK_MS
    have hK_AP := sp_fr sp_AP hF119 (by decide) hK_AP
    refine lv_istore_n (lv' := [(2, .int r119), (0, .ref (ad 85)), (1, .int p0)]) F.1 F.2.1 dX12_plan_25 rfl hl (by decide) rfl (fun ls hl => ?_)
    refine lv_iload_n F.1 F.2.1 dX12_plan_26 rfl (lv_at hl 0 rfl) ?_
    refine a_sp F (1000 : Int32) dX12_plan_27 (by decide) ?_
    refine b_lt F 35 dX12_plan_30 (by decide) rfl ic_1000 (fun c120 => ?_) (fun c120 => ?_)
    · refine lv_aload_n F.1 F.2.1 dX12_plan_35 rfl (lv_at hl 1 rfl) ?_
      refine a_getr F inX12 hP 85 6 tc_85 rfl rfl (by decide) q1477 (fun _ h9 => h9) dX12_plan_36 ?_
      refine a_bp F (107 : Int32) dX12_plan_39 (by decide) ?_
      refine lv_iload_n F.1 F.2.1 dX12_plan_41 rfl (lv_at hl 2 rfl) ?_
      refine a_iadd F dX12_plan_42 ic_107 rfl (by omega) (fun v121 hv121 => ?_)
      have k123 : (u119.1 87 4).toInt = (u0.1 87 4).toInt := congrArg Int32.toInt (show u119.1 87 4 = (u0.1 87 4) from (hF119 87 4 rfl).trans (kw114_87_4))
      have k124 : (u119.1 87 1).toInt = (u0.1 87 1).toInt := congrArg Int32.toInt (show u119.1 87 1 = (u0.1 87 1) from (hF119 87 1 rfl).trans (kw114_87_1))
      have hms43 : 0 < (u119.1 87 4).toInt → 0 < (u119.1 87 1).toInt := hK_MS.2
      refine a_iald F hP 87 tc_87 rfl (i_in rfl (by omega)) dX12_plan_43 (fun v125 ev125 => ?_)
      have hv125 : (0 : Int) ≤ v125.toInt ∧ v125.toInt ≤ 7 := rg_seg_87_107_110 hR ev125 (by omega)
      have hat := ap_get hK_AP (p := p0.toInt) (by omega) (by omega) ev125
      refine lv_istore_n (lv' := [(3, .int v125), (2, .int r119), (0, .ref (ad 85)), (1, .int p0)]) F.1 F.2.1 dX12_plan_44 rfl hl (by decide) rfl (fun ls hl => ?_)
      refine a_ic F (0 : Int32) dX12_plan_45 (by decide) ?_
      refine lv_istore (lv' := [(4, .int (0 : Int32)), (3, .int v125), (2, .int r119), (0, .ref (ad 85)), (1, .int p0)]) F.1 F.2.1 dX12_plan_46 hl (by decide) rfl (fun ls hl => ?_)
      refine a_ic F (0 : Int32) dX12_plan_48 (by decide) ?_
      have hp1 : p4 0 = 1 := rfl
      refine lv_istore (lv' := [(5, .int (0 : Int32)), (4, .int (0 : Int32)), (3, .int v125), (2, .int r119), (0, .ref (ad 85)), (1, .int p0)]) F.1 F.2.1 dX12_plan_49 hl (by decide) rfl (fun ls hl => ?_)
      have g127 : (0 : Int) ≤ (u119.1 85 28).toInt ∧ (u119.1 85 28).toInt ≤ 4 := hR 85 28
      exact L51 6 r119 v125 (0 : Int32) (0 : Int32) _ _ _ _ hR hF (by decide) hK_FE (by omega) (by omega) (by omega) (by decide) (by decide) (i_trB ((hF119 85 0 rfl).trans (kw114_85_0)) (by omega : (0 : Int) ≤ (0 : Int) ∧ (0 : Int) ≤ 0)) (by rw [(hF119 87 1 rfl).trans (kw114_87_1)]; try exact (by omega : v125.toInt < (u0.1 87 1).toInt)) (by first | (rw [ic_0]; exact (by omega : (0 : Int) < p4 (0 : Int))) | rw [ic_0]) (by first | (rw [ic_0]; exact (by omega : (0 : Int) ≤ (u119.1 85 28).toInt)) | rw [ic_0]) hP hD hS (lv_sub hl [4, 5, 3, 2, 1, 0] rfl)
    · refine a_ic F (-1 : Int32) dX12_plan_33 (by decide) ?_
      exact a_reti F hr hlocks hP hD hS dX12_plan_34 ⟨hR, hF, (by decide)⟩
  · refine a_ic F (-1 : Int32) dX12_plan_13 (by decide) ?_
    exact a_reti F hr hlocks hP hD hS dX12_plan_14 ⟨hR, hF, (by decide)⟩
set_option maxHeartbeats 600000 in
set_option maxRecDepth 100000 in
theorem c_X12_quarrel_85 (l : Launch) (dC : Nat → ClassId) (dI : Nat → Nat → Nat) (ad : Nat → Nat) (cA : Nat → ClassId) (nF : Nat) (u0 : ac_U) (p0 : Int32) (hR : ac_R rg u0) : ac_Mi l yX12_quarrel (.code yX12_quarrel cX12_quarrel 5 (some .int) :: TB) 7 (dC, dI) vwCl (ac_ty cA) ad cA (TT nF) [.ref (ad 85), .int p0] u0 (fun (r : Int32) (u : ac_U) => ac_R rg u ∧ ac_Fr [(85, some 0), (85, some 28), (95, none), (96, none)] u0 u ∧ ((-1 : Int) ≤ r.toInt ∧ r.toInt ≤ 255)) := by
  refine ac_Mi.of (cc := cX12_quarrel) (maxL := 5) (ret := (some .int)) (by decide) rfl (Nat.le_of_ble_eq_true rfl) ?_
  intro p e s m below meth c A ls F hml hr hlocks hA hP hD hS hl
  have F : ac_X p s m [.ref (ad 85), .int p0].toArray c cX12_quarrel RX12 TB (dC, dI) vwCl (ac_ty cA) := ⟨F.1, F.2.1, fun w h => F.2.2.1 w (List.mem_cons_of_mem _ h), F.2.2.2.1, F.2.2.2.2⟩
  have hl : lv_has ls 5 [(0, .ref (ad 85)), (1, .int p0)] := hl
  have hF : ac_Fr [(85, some 0), (85, some 28), (95, none), (96, none)] u0 u0 := ac_Fr.rf
  have L26 : ∀ (n26 : Nat) (x2 : Int32) (x3 : Int32) (x4 : Int32) (u : ac_U) (H : Heap) (locs : List Loc) (ls : Array Slot), ac_R rg u → ac_Fr [(85, some 0), (85, some 28), (95, none), (96, none)] u0 u → 256 - x4.toInt < (n26 : Int) → (0 : Int) ≤ p0.toInt ∧ p0.toInt ≤ 3 → (0 : Int) ≤ x2.toInt ∧ x2.toInt ≤ 255 → (0 : Int) ≤ x3.toInt ∧ x3.toInt ≤ 255 → (1 : Int) ≤ x4.toInt ∧ x4.toInt ≤ 256 → (0 : Int) ≤ (u.1 85 0).toInt ∧ (u.1 85 0).toInt ≤ 0 → popS x2.toInt ≤ 4 → va_P (dC, dI) vwCl (ac_w ad cA (TT nF) u) H → va_D A (ac_w ad cA (TT nF) u) → va_S A s.heap H locs → lv_has ls 5 [(0, .ref (ad 85)), (1, .int p0), (2, .int x2), (3, .int x3), (4, .int x4)] → W p l e (ac_rm 7) s m [.ref (ad 85), .int p0].toArray below meth c H locs 0 0 (MQ below (va_Qi (fun (r : Int32) (u : ac_U) => ac_R rg u ∧ ac_Fr [(85, some 0), (85, some 28), (95, none), (96, none)] u0 u ∧ ((-1 : Int) ≤ r.toInt ∧ r.toInt ≤ 255)) (ac_B (dC, dI) vwCl (ac_ty cA) ad cA (TT nF) A) A) [.ref (ad 85), .int p0].toArray s 0 0 A) (F0 m 26 ls []) := by
    intro n26
    induction n26 with
    | zero => intro x2 x3 x4 u H locs ls hR hF hn26 f0 f1 f2 f3 f4 f5 hP hD hS hl; exfalso; omega
    | succ n26 ih26 =>
      intro x2 x3 x4 u H locs ls hR hF hn26 f0 f1 f2 f3 f4 f5 hP hD hS hl
      have L76 : ∀ (x2 : Int32) (x3 : Int32) (x4 : Int32) (u : ac_U) (H : Heap) (locs : List Loc) (ls : Array Slot), ac_R rg u → ac_Fr [(85, some 0), (85, some 28), (95, none), (96, none)] u0 u → (0 : Int) ≤ p0.toInt ∧ p0.toInt ≤ 3 → (1 : Int) ≤ x2.toInt ∧ x2.toInt ≤ 255 → (0 : Int) ≤ x3.toInt ∧ x3.toInt ≤ 255 → (1 : Int) ≤ x4.toInt ∧ x4.toInt ≤ 255 → (0 : Int) ≤ (u.1 85 0).toInt ∧ (u.1 85 0).toInt ≤ 0 → popS x2.toInt ≤ 4 → 256 - x4.toInt + 0 < ((n26 : Nat) : Int) + 1 → va_P (dC, dI) vwCl (ac_w ad cA (TT nF) u) H → va_D A (ac_w ad cA (TT nF) u) → va_S A s.heap H locs → lv_has ls 5 [(0, .ref (ad 85)), (1, .int p0), (2, .int x2), (3, .int x3), (4, .int x4)] → W p l e (ac_rm 7) s m [.ref (ad 85), .int p0].toArray below meth c H locs 0 0 (MQ below (va_Qi (fun (r : Int32) (u : ac_U) => ac_R rg u ∧ ac_Fr [(85, some 0), (85, some 28), (95, none), (96, none)] u0 u ∧ ((-1 : Int) ≤ r.toInt ∧ r.toInt ≤ 255)) (ac_B (dC, dI) vwCl (ac_ty cA) ad cA (TT nF) A) A) [.ref (ad 85), .int p0].toArray s 0 0 A) (F0 m 76 ls []) := by
        intro x2 x3 x4 u H locs ls hR hF f0 f1 f2 f3 f4 f5 f6 hP hD hS hl
        refine a_iinc F (k := 4) (fun v1 => [(4, .int v1), (0, .ref (ad 85)), (1, .int p0), (2, .int x2), (3, .int x3)]) dX12_quarrel_76 hl rfl rfl (by decide) (by omega) (by decide) (fun _ => rfl) (fun v1 ls hv1 hl => ?_)
        refine lv_goto (tgt := 26) F.1 F.2.1 dX12_quarrel_79 (by decide) ?_
        have g2 : (0 : Int) ≤ (u.1 85 0).toInt ∧ (u.1 85 0).toInt ≤ 1 := hR 85 0
        exact ih26 x2 x3 v1 _ _ _ _ hR hF (by omega) (by omega) (by omega) (by omega) (by omega) (by omega : (0 : Int) ≤ (u.1 85 0).toInt ∧ (u.1 85 0).toInt ≤ 0) (by omega : popS x2.toInt ≤ 4) hP hD hS (lv_sub hl [1, 2, 3, 4, 0] rfl)
      have L60 : ∀ (x2 : Int32) (x3 : Int32) (x4 : Int32) (u : ac_U) (H : Heap) (locs : List Loc) (ls : Array Slot), ac_R rg u → ac_Fr [(85, some 0), (85, some 28), (95, none), (96, none)] u0 u → (0 : Int) ≤ p0.toInt ∧ p0.toInt ≤ 3 → (1 : Int) ≤ x2.toInt ∧ x2.toInt ≤ 255 → (0 : Int) ≤ x3.toInt ∧ x3.toInt ≤ 255 → (1 : Int) ≤ x4.toInt ∧ x4.toInt ≤ 255 → (0 : Int) ≤ (u.1 85 0).toInt ∧ (u.1 85 0).toInt ≤ 0 → popS x2.toInt ≤ 4 → popS x4.toInt ≤ 4 → 256 - x4.toInt + 0 < ((n26 : Nat) : Int) + 1 → va_P (dC, dI) vwCl (ac_w ad cA (TT nF) u) H → va_D A (ac_w ad cA (TT nF) u) → va_S A s.heap H locs → lv_has ls 5 [(0, .ref (ad 85)), (1, .int p0), (2, .int x2), (3, .int x3), (4, .int x4)] → W p l e (ac_rm 7) s m [.ref (ad 85), .int p0].toArray below meth c H locs 0 0 (MQ below (va_Qi (fun (r : Int32) (u : ac_U) => ac_R rg u ∧ ac_Fr [(85, some 0), (85, some 28), (95, none), (96, none)] u0 u ∧ ((-1 : Int) ≤ r.toInt ∧ r.toInt ≤ 255)) (ac_B (dC, dI) vwCl (ac_ty cA) ad cA (TT nF) A) A) [.ref (ad 85), .int p0].toArray s 0 0 A) (F0 m 60 ls []) := by
        intro x2 x3 x4 u H locs ls hR hF f0 f1 f2 f3 f4 f5 f6 f7 hP hD hS hl
        refine lv_aload_n F.1 F.2.1 dX12_quarrel_60 rfl (lv_at hl 0 rfl) ?_
        refine lv_iload_n F.1 F.2.1 dX12_quarrel_61 rfl (lv_at hl 1 rfl) ?_
        refine lv_iload F.1 F.2.1 dX12_quarrel_62 (lv_at hl 4 rfl) ?_
        have g4 : (0 : Int) ≤ (u.1 87 4).toInt ∧ (u.1 87 4).toInt ≤ 4 := hR 87 4
        refine a_Vi F hml hl.1 hA hP hD hS (As := [.int p0, .int x4]) (c_X12_plansFor_85 l dC dI ad cA nF _ p0 x4 hR (by omega) (by omega) (by omega)) (cs_RX12_354 (d := 5) F.2.2.1 (by decide)) tc_85 rfl rfl rfl rfl (Nat.le_of_ble_eq_true rfl) dX12_quarrel_64 ⟨Nat.le_refl 0, Nat.le_refl 0⟩ (fun r3 u3 H locs hq hP hD hS => ?_)
        obtain ⟨hR, hF3, hK_FE⟩ := hq
        have hF := hF.tr hF3 (by decide)
        refine a_sp F (1000 : Int32) dX12_quarrel_67 (by decide) ?_
        refine b_lt F 76 dX12_quarrel_70 (by decide) rfl ic_1000 (fun c5 => ?_) (fun c5 => ?_)
        · exact L76 x2 x3 x4 _ _ _ _ hR hF (by omega) (by omega) (by omega) (by omega) (i_trB (hF3 85 0 rfl) (by omega : (0 : Int) ≤ (u.1 85 0).toInt ∧ (u.1 85 0).toInt ≤ 0)) (by omega : popS x2.toInt ≤ 4) (by omega) hP hD hS (lv_sub hl [0, 1, 2, 3, 4] rfl)
        · refine lv_iload F.1 F.2.1 dX12_quarrel_73 (lv_at hl 4 rfl) ?_
          refine lv_istore_n (lv' := [(3, .int x4), (0, .ref (ad 85)), (1, .int p0), (2, .int x2), (4, .int x4)]) F.1 F.2.1 dX12_quarrel_75 rfl hl (by decide) rfl (fun ls hl => ?_)
          exact L76 x2 x4 x4 _ _ _ _ hR hF (by omega) (by omega) (by omega) (by omega) (i_trB (hF3 85 0 rfl) (by omega : (0 : Int) ≤ (u.1 85 0).toInt ∧ (u.1 85 0).toInt ≤ 0)) (by omega : popS x2.toInt ≤ 4) (by omega) hP hD hS (lv_sub hl [1, 2, 3, 0, 4] rfl)
      refine lv_iload F.1 F.2.1 dX12_quarrel_26 (lv_at hl 4 rfl) ?_
      refine lv_iload_n F.1 F.2.1 dX12_quarrel_28 rfl (lv_at hl 2 rfl) ?_
      refine b_gt F 82 dX12_quarrel_29 (by decide) rfl rfl (fun c6 => ?_) (fun c6 => ?_)
      · refine lv_iload_n F.1 F.2.1 dX12_quarrel_82 rfl (lv_at hl 3 rfl) ?_
        exact a_reti F hr hlocks hP hD hS dX12_quarrel_83 ⟨hR, hF, (by omega : (-1 : Int) ≤ x3.toInt ∧ x3.toInt ≤ 255)⟩
      · refine lv_iload F.1 F.2.1 dX12_quarrel_32 (lv_at hl 4 rfl) ?_
        refine lv_iload_n F.1 F.2.1 dX12_quarrel_34 rfl (lv_at hl 2 rfl) ?_
        refine a_ic F (-1 : Int32) dX12_quarrel_35 (by decide) ?_
        refine lv_ixor F.1 F.2.1 dX12_quarrel_36 ?_
        refine lv_iand F.1 F.2.1 dX12_quarrel_37 ?_
        refine lv_topi (fun v7 ev7 => ?_)
        have hq37 := qs_s (x := x4) (a := x2) (by omega) (by omega) ev7
        refine z_ne F 76 dX12_quarrel_38 (by decide) rfl (fun c8 => ?_) (fun c8 => ?_)
        · have g9 : (0 : Int) ≤ (u.1 85 0).toInt ∧ (u.1 85 0).toInt ≤ 1 := hR 85 0
          exact L76 x2 x3 x4 _ _ _ _ hR hF (by omega) (by omega) (by omega) (by omega) (by omega : (0 : Int) ≤ (u.1 85 0).toInt ∧ (u.1 85 0).toInt ≤ 0) (by omega : popS x2.toInt ≤ 4) (by omega) hP hD hS (lv_sub hl [0, 1, 2, 3, 4] rfl)
        · refine lv_iload_n F.1 F.2.1 dX12_quarrel_41 rfl (lv_at hl 3 rfl) ?_
          refine z_le F 60 dX12_quarrel_42 (by decide) rfl (fun c10 => ?_) (fun c10 => ?_)
          · have g11 : (0 : Int) ≤ (u.1 85 0).toInt ∧ (u.1 85 0).toInt ≤ 1 := hR 85 0
            exact L60 x2 x3 x4 _ _ _ _ hR hF (by omega) (by omega) (by omega) (by omega) (by omega : (0 : Int) ≤ (u.1 85 0).toInt ∧ (u.1 85 0).toInt ≤ 0) (by omega : popS x2.toInt ≤ 4) (by omega : popS x4.toInt ≤ 4) (by omega) hP hD hS (lv_sub hl [0, 1, 2, 3, 4] rfl)
          · refine lv_iload F.1 F.2.1 dX12_quarrel_45 (lv_at hl 4 rfl) ?_
            refine a_Si F hml hl.1 hA hP hD hS (As := [.int x4]) (c_X12_bits l dC dI ad cA nF _ x4 hR (by omega)) (cs_RX12_348 (d := 1) F.2.2.1 (by decide)) rfl rfl (Nat.le_of_ble_eq_true rfl) dX12_quarrel_47 ⟨Nat.le_refl 0, Nat.le_refl 0⟩ (fun r12 uN12 H locs hq hP hD hS => ?_)
            have hu12 := hq
            rw [hu12] at hP hD
            refine lv_iload_n F.1 F.2.1 dX12_quarrel_50 rfl (lv_at hl 3 rfl) ?_
            refine a_Si F hml hl.1 hA hP hD hS (As := [.int x3]) (c_X12_bits l dC dI ad cA nF _ x3 hR (by omega)) (cs_RX12_348 (d := 1) F.2.2.1 (by decide)) rfl rfl (Nat.le_of_ble_eq_true rfl) dX12_quarrel_51 ⟨Nat.le_refl 0, Nat.le_refl 0⟩ (fun r13 uN13 H locs hq hP hD hS => ?_)
            have hu13 := hq
            rw [hu13] at hP hD
            refine b_lt F 60 dX12_quarrel_54 (by decide) rfl rfl (fun c14 => ?_) (fun c14 => ?_)
            · have g15 : (0 : Int) ≤ (u.1 85 0).toInt ∧ (u.1 85 0).toInt ≤ 1 := hR 85 0
              exact L60 x2 x3 x4 _ _ _ _ hR hF (by omega) (by omega) (by omega) (by omega) (by omega : (0 : Int) ≤ (u.1 85 0).toInt ∧ (u.1 85 0).toInt ≤ 0) (by omega : popS x2.toInt ≤ 4) (by omega : popS x4.toInt ≤ 4) (by omega) hP hD hS (lv_sub hl [0, 1, 2, 3, 4] rfl)
            · refine lv_goto (tgt := 76) F.1 F.2.1 dX12_quarrel_57 (by decide) ?_
              have g16 : (0 : Int) ≤ (u.1 85 0).toInt ∧ (u.1 85 0).toInt ≤ 1 := hR 85 0
              exact L76 x2 x3 x4 _ _ _ _ hR hF (by omega) (by omega) (by omega) (by omega) (by omega : (0 : Int) ≤ (u.1 85 0).toInt ∧ (u.1 85 0).toInt ≤ 0) (by omega : popS x2.toInt ≤ 4) (by omega) hP hD hS (lv_sub hl [0, 1, 2, 3, 4] rfl)
  refine lv_aload_n F.1 F.2.1 dX12_quarrel_0 rfl (lv_at hl 0 rfl) ?_
  refine a_ic F (0 : Int32) dX12_quarrel_1 (by decide) ?_
  refine a_puti F inX12 tyX12 tyX12_ok nmX12 hP hD hS 85 0 tc_85 rfl rfl (by decide) q1471 (fun _ h9 => h9) rfl (ty := .int) (tyX12_ok 0 (by decide)) rfl rfl dX12_quarrel_2 (fun H locs hP hD hS => ?_)
  have hR := hR.si (c := 85) (k := 0) (v := (0 : Int32)) (by rw [ic_0]; exact (by omega : (0 : Int) ≤ (0 : Int) ∧ (0 : Int) ≤ 1))
  have hF := hF.si (c := 85) (k := 0) (v := (0 : Int32)) rfl
  refine lv_aload_n F.1 F.2.1 dX12_quarrel_5 rfl (lv_at hl 0 rfl) ?_
  refine lv_iload_n F.1 F.2.1 dX12_quarrel_6 rfl (lv_at hl 1 rfl) ?_
  have g17 : (0 : Int) ≤ (u0.1 87 4).toInt ∧ (u0.1 87 4).toInt ≤ 4 := hR 87 4
  obtain ⟨w18, hw18⟩ := ac_nm hD
  rw [← hw18] at hP hD
  have hR : ac_R rg w18 := by rw [hw18]; exact hR
  have hF : ac_Fr [(85, some 0), (85, some 28), (95, none), (96, none)] u0 w18 := by rw [hw18]; exact hF
  have kw18_85_0 : w18.1 85 0 = (0 : Int32) := (congrArg (fun u9 : ac_U => u9.1 85 0) hw18).trans (rfl)
  have kw18_87_4 : w18.1 87 4 = (u0.1 87 4) := (congrArg (fun u9 : ac_U => u9.1 87 4) hw18).trans (rfl)
  refine a_Vi F hml hl.1 hA hP hD hS (As := [.int p0]) (c_X12_isPlanned_85__2 l dC dI ad cA nF _ p0 hR) (cs_RX12_351 (d := 6) F.2.2.1 (by decide)) tc_85 rfl rfl rfl rfl (Nat.le_of_ble_eq_true rfl) dX12_quarrel_7 ⟨Nat.le_refl 0, Nat.le_refl 0⟩ (fun r19 uN19 H locs hq hP hD hS => ?_)
  obtain ⟨hu19, gr19, xr19⟩ := hq
  rw [hu19] at hP hD
  have k20 : (w18.1 87 4).toInt = (u0.1 87 4).toInt := congrArg Int32.toInt (show w18.1 87 4 = (u0.1 87 4) from kw18_87_4)
  have xr19 : r19.toInt ≠ 0 → 0 ≤ p0.toInt ∧ p0.toInt < (w18.1 87 4).toInt ∧ p0.toInt ≤ 3 ∧ popS (dqS w18 p0.toInt) ≤ 4 := xr19
  refine z_ne F 15 dX12_quarrel_10 (by decide) rfl (fun c21 => ?_) (fun c21 => ?_)
  · refine lv_aload_n F.1 F.2.1 dX12_quarrel_15 rfl (lv_at hl 0 rfl) ?_
    refine lv_iload_n F.1 F.2.1 dX12_quarrel_16 rfl (lv_at hl 1 rfl) ?_
    refine a_Vi F hml hl.1 hA hP hD hS (As := [.int p0]) (c_X12_dueSet_85_f l dC dI ad cA nF _ p0 hR (by omega)) (cs_RX12_345 (d := 5) F.2.2.1 (by decide)) tc_85 rfl rfl rfl rfl (Nat.le_of_ble_eq_true rfl) dX12_quarrel_17 ⟨Nat.le_refl 0, Nat.le_refl 0⟩ (fun r22 uN22 H locs hq hP hD hS => ?_)
    obtain ⟨hu22, gr22, xr22⟩ := hq
    rw [hu22] at hP hD
    have xr22 : r22.toInt = dqS w18 p0.toInt := xr22
    have hdq : popS r22.toInt ≤ 4 := by rw [xr22]; omega
    refine lv_istore_n (lv' := [(2, .int r22), (0, .ref (ad 85)), (1, .int p0)]) F.1 F.2.1 dX12_quarrel_20 rfl hl (by decide) rfl (fun ls hl => ?_)
    refine a_ic F (0 : Int32) dX12_quarrel_21 (by decide) ?_
    refine lv_istore_n (lv' := [(3, .int (0 : Int32)), (2, .int r22), (0, .ref (ad 85)), (1, .int p0)]) F.1 F.2.1 dX12_quarrel_22 rfl hl (by decide) rfl (fun ls hl => ?_)
    refine a_ic F (1 : Int32) dX12_quarrel_23 (by decide) ?_
    refine lv_istore (lv' := [(4, .int (1 : Int32)), (3, .int (0 : Int32)), (2, .int r22), (0, .ref (ad 85)), (1, .int p0)]) F.1 F.2.1 dX12_quarrel_24 hl (by decide) rfl (fun ls hl => ?_)
    exact L26 257 r22 (0 : Int32) (1 : Int32) _ _ _ _ hR hF (by decide) (by omega) (by omega) (by decide) (by decide) (i_trB (kw18_85_0) (by omega : (0 : Int) ≤ (0 : Int) ∧ (0 : Int) ≤ 0)) (by omega : popS r22.toInt ≤ 4) hP hD hS (lv_sub hl [3, 4, 2, 1, 0] rfl)
  · refine a_ic F (-1 : Int32) dX12_quarrel_13 (by decide) ?_
    exact a_reti F hr hlocks hP hD hS dX12_quarrel_14 ⟨hR, hF, (by decide)⟩

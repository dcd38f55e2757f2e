set_option maxHeartbeats 600000 in
set_option maxRecDepth 100000 in
theorem c_X9_readCond_51_d5 (l : Launch) (dC : Nat → ClassId) (dI : Nat → Nat → Nat) (ad : Nat → Nat) (cA : Nat → ClassId) (nF : Nat) (u0 : ac_U) (p0 : Int32) (hR : ac_R rg u0) (hp0 : (5 : Int) ≤ p0.toInt ∧ p0.toInt ≤ 5) (hK_N4 : nmI 11 12 u0) : ac_Mi l yX9_readCond (.code yX9_readCond cX9_readCond 3 (some .boolean) :: TB) 20 (dC, dI) vwCl (ac_ty cA) ad cA (TT nF) [.ref (ad 51), .int p0] u0 (fun (r : Int32) (u : ac_U) => ac_R rg u ∧ ac_Fr [(1, some 4), (1, some 5), (1, some 6), (1, some 8), (1, some 9), (1, some 10), (1, some 11), (47, some 3), (47, some 4), (48, none), (49, none), (50, none)] u0 u ∧ ((0 : Int) ≤ r.toInt ∧ r.toInt ≤ 1)) := by
  refine ac_Mi.of (cc := cX9_readCond) (maxL := 3) (ret := (some .boolean)) (by decide) rfl (Nat.le_of_ble_eq_true rfl) ?_
  intro p e s m below meth c A ls F hml hr hlocks hA hP hD hS hl
  have F : ac_X p s m [.ref (ad 51), .int p0].toArray c cX9_readCond RX9 TB (dC, dI) vwCl (ac_ty cA) := ⟨F.1, F.2.1, fun w h => F.2.2.1 w (List.mem_cons_of_mem _ h), F.2.2.2.1, F.2.2.2.2⟩
  have hl : lv_has ls 3 [(0, .ref (ad 51)), (1, .int p0)] := hl
  have hF : ac_Fr [(1, some 4), (1, some 5), (1, some 6), (1, some 8), (1, some 9), (1, some 10), (1, some 11), (47, some 3), (47, some 4), (48, none), (49, none), (50, none)] u0 u0 := ac_Fr.rf
  have L64 : ∀ (u : ac_U) (H : Heap) (locs : List Loc) (ls : Array Slot), ac_R rg u → ac_Fr [(1, some 4), (1, some 5), (1, some 6), (1, some 8), (1, some 9), (1, some 10), (1, some 11), (47, some 3), (47, some 4), (48, none), (49, none), (50, none)] u0 u → nmI 11 12 u → va_P (dC, dI) vwCl (ac_w ad cA (TT nF) u) H → va_D A (ac_w ad cA (TT nF) u) → va_S A s.heap H locs → lv_has ls 3 [] → W p l e (ac_rm 20) s m [.ref (ad 51), .int p0].toArray below meth c H locs 0 0 (MQ below (va_Qi (fun (r : Int32) (u : ac_U) => ac_R rg u ∧ ac_Fr [(1, some 4), (1, some 5), (1, some 6), (1, some 8), (1, some 9), (1, some 10), (1, some 11), (47, some 3), (47, some 4), (48, none), (49, none), (50, none)] u0 u ∧ ((0 : Int) ≤ r.toInt ∧ r.toInt ≤ 1)) (ac_B (dC, dI) vwCl (ac_ty cA) ad cA (TT nF) A) A) [.ref (ad 51), .int p0].toArray s 0 0 A) (F0 m 64 ls []) := by
    intro u H locs ls hR hF hK_N4 hP hD hS hl
    refine a_ic F (1 : Int32) dX9_readCond_64 (by decide) ?_
    exact a_retz F hr hlocks hP hD hS dX9_readCond_65 (Or.inr rfl) ⟨hR, hF, (by decide)⟩
  have L12 : ∀ (n12 : Nat) (x2 : Int32) (u : ac_U) (H : Heap) (locs : List Loc) (ls : Array Slot), ac_R rg u → ac_Fr [(1, some 4), (1, some 5), (1, some 6), (1, some 8), (1, some 9), (1, some 10), (1, some 11), (47, some 3), (47, some 4), (48, none), (49, none), (50, none)] u0 u → 20 - x2.toInt < (n12 : Int) → nmI 11 12 u → (0 : Int) ≤ x2.toInt ∧ x2.toInt ≤ 20 → va_P (dC, dI) vwCl (ac_w ad cA (TT nF) u) H → va_D A (ac_w ad cA (TT nF) u) → va_S A s.heap H locs → lv_has ls 3 [(0, .ref (ad 51)), (1, .int p0), (2, .int x2)] → W p l e (ac_rm 20) s m [.ref (ad 51), .int p0].toArray below meth c H locs 0 0 (MQ below (va_Qi (fun (r : Int32) (u : ac_U) => ac_R rg u ∧ ac_Fr [(1, some 4), (1, some 5), (1, some 6), (1, some 8), (1, some 9), (1, some 10), (1, some 11), (47, some 3), (47, some 4), (48, none), (49, none), (50, none)] u0 u ∧ ((0 : Int) ≤ r.toInt ∧ r.toInt ≤ 1)) (ac_B (dC, dI) vwCl (ac_ty cA) ad cA (TT nF) A) A) [.ref (ad 51), .int p0].toArray s 0 0 A) (F0 m 12 ls []) := by
    intro n12
    induction n12 with
    | zero => intro x2 u H locs ls hR hF hn12 hK_N4 f0 hP hD hS hl; exfalso; omega
    | succ n12 ih12 =>
      intro x2 u H locs ls hR hF hn12 hK_N4 f0 hP hD hS hl
      refine lv_iload_n F.1 F.2.1 dX9_readCond_12 rfl (lv_at hl 2 rfl) ?_
      refine a_bp F (20 : Int32) dX9_readCond_13 (by decide) ?_
      refine b_ge F 64 dX9_readCond_15 (by decide) rfl ic_20 (fun c1 => ?_) (fun c1 => ?_)
      · exact L64 _ _ _ _ hR hF hK_N4 hP hD hS (lv_sub hl [] rfl)
      · refine lv_aload_n F.1 F.2.1 dX9_readCond_18 rfl (lv_at hl 0 rfl) ?_
        refine a_getr F inX9 hP 51 0 tc_51 rfl rfl (by decide) q465 (fun _ h9 => h9) dX9_readCond_19 ?_
        have g2 : (-128 : Int) ≤ (u.1 1 6).toInt ∧ (u.1 1 6).toInt ≤ 127 := hR 1 6
        refine a_geti F inX10 hP 1 6 tc_1 rfl rfl (by decide) q103 (fun _ h9 => h9) (v := (u.1 1 6)) rfl dX9_readCond_22 ?_
        refine a_bp F (114 : Int32) dX9_readCond_25 (by decide) ?_
        refine b_ne F 64 dX9_readCond_27 (by decide) rfl ic_114 (fun c3 => ?_) (fun c3 => ?_)
        · exact L64 _ _ _ _ hR hF hK_N4 hP hD hS (lv_sub hl [] rfl)
        · refine lv_aload_n F.1 F.2.1 dX9_readCond_30 rfl (lv_at hl 0 rfl) ?_
          refine a_getr F inX9 hP 51 0 tc_51 rfl rfl (by decide) q465 (fun _ h9 => h9) dX9_readCond_31 ?_
          refine a_Vv F hml hl.1 hA hP hD hS (As := []) (c_X10_readNext_1 l dC dI ad cA nF _  hR) (cs_RX9_45 (d := 3) F.2.2.1 (by decide)) tc_1 rfl rfl rfl rfl (Nat.le_of_ble_eq_true rfl) dX9_readCond_34 ⟨Nat.le_refl 0, Nat.le_refl 0⟩ (fun u4 H locs hq hP hD hS => ?_)
          obtain ⟨hR, hF4⟩ := hq
          have hF := hF.tr hF4 (by decide)
          have hK_N4 := sp_fr sp_N4 hF4 (by decide) hK_N4
          refine lv_aload_n F.1 F.2.1 dX9_readCond_37 rfl (lv_at hl 0 rfl) ?_
          refine lv_iload_n F.1 F.2.1 dX9_readCond_38 rfl (lv_at hl 1 rfl) ?_
          refine a_Vi F hml hl.1 hA hP hD hS (As := [.int p0]) (c_X9_readBoth_51_d5 l dC dI ad cA nF _ p0 hR (by omega) hK_N4) (cs_RX9_42 (d := 19) F.2.2.1 (by decide)) tc_51 rfl rfl rfl rfl (Nat.le_of_ble_eq_true rfl) dX9_readCond_39 ⟨Nat.le_refl 0, Nat.le_refl 0⟩ (fun r5 u5 H locs hq hP hD hS => ?_)
          obtain ⟨hR, hF5, gr5⟩ := hq
          have hF := hF.tr hF5 (by decide)
          have hK_N4 := sp_fr sp_N4 hF5 (by decide) hK_N4
          refine z_ne F 47 dX9_readCond_42 (by decide) rfl (fun c6 => ?_) (fun c6 => ?_)
          · refine lv_aload_n F.1 F.2.1 dX9_readCond_47 rfl (lv_at hl 0 rfl) ?_
            refine a_getr F inX9 hP 51 2 tc_51 rfl rfl (by decide) q467 (fun _ h9 => h9) dX9_readCond_48 ?_
            refine a_bp F (114 : Int32) dX9_readCond_51 (by decide) ?_
            refine a_ic F (0 : Int32) dX9_readCond_53 (by decide) ?_
            refine a_ic F (0 : Int32) dX9_readCond_54 (by decide) ?_
            refine a_Vv F hml hl.1 hA hP hD hS (As := [.int (114 : Int32), .int (0 : Int32), .int (0 : Int32)]) (c_X8_add_47 l dC dI ad cA nF _ (114 : Int32) (0 : Int32) (0 : Int32) hR (by decide) (by decide)) (cs_RX9_48 (d := 1) F.2.2.1 (by decide)) tc_47 rfl rfl rfl rfl (Nat.le_of_ble_eq_true rfl) dX9_readCond_55 ⟨Nat.le_refl 0, Nat.le_refl 0⟩ (fun u7 H locs hq hP hD hS => ?_)
            obtain ⟨hR, hF7⟩ := hq
            have hF := hF.tr hF7 (by decide)
            have hK_N4 := sp_fr sp_N4 hF7 (by decide) hK_N4
            refine a_iinc F (k := 2) (fun v8 => [(2, .int v8), (0, .ref (ad 51)), (1, .int p0)]) dX9_readCond_58 hl rfl rfl (by decide) (by omega) (by decide) (fun _ => rfl) (fun v8 ls hv8 hl => ?_)
            refine lv_goto (tgt := 12) F.1 F.2.1 dX9_readCond_61 (by decide) ?_
            exact ih12 v8 _ _ _ _ hR hF (by omega) hK_N4 (by omega) hP hD hS (lv_sub hl [1, 2, 0] rfl)
          · refine a_ic F (0 : Int32) dX9_readCond_45 (by decide) ?_
            exact a_retz F hr hlocks hP hD hS dX9_readCond_46 (Or.inl rfl) ⟨hR, hF, (by decide)⟩
  refine lv_aload_n F.1 F.2.1 dX9_readCond_0 rfl (lv_at hl 0 rfl) ?_
  refine lv_iload_n F.1 F.2.1 dX9_readCond_1 rfl (lv_at hl 1 rfl) ?_
  refine a_Vi F hml hl.1 hA hP hD hS (As := [.int p0]) (c_X9_readBoth_51_d5 l dC dI ad cA nF _ p0 hR (by omega) hK_N4) (cs_RX9_42 (d := 19) F.2.2.1 (by decide)) tc_51 rfl rfl rfl rfl (Nat.le_of_ble_eq_true rfl) dX9_readCond_2 ⟨Nat.le_refl 0, Nat.le_refl 0⟩ (fun r9 u9 H locs hq hP hD hS => ?_)
  obtain ⟨hR, hF9, gr9⟩ := hq
  have hF := hF.tr hF9 (by decide)
  have hK_N4 := sp_fr sp_N4 hF9 (by decide) hK_N4
  refine z_ne F 10 dX9_readCond_5 (by decide) rfl (fun c10 => ?_) (fun c10 => ?_)
  · refine a_ic F (0 : Int32) dX9_readCond_10 (by decide) ?_
    refine lv_istore_n (lv' := [(2, .int (0 : Int32)), (0, .ref (ad 51)), (1, .int p0)]) F.1 F.2.1 dX9_readCond_11 rfl hl (by decide) rfl (fun ls hl => ?_)
    exact L12 22 (0 : Int32) _ _ _ _ hR hF (by decide) hK_N4 (by decide) hP hD hS (lv_sub hl [1, 2, 0] rfl)
  · refine a_ic F (0 : Int32) dX9_readCond_8 (by decide) ?_
    exact a_retz F hr hlocks hP hD hS dX9_readCond_9 (Or.inl rfl) ⟨hR, hF, (by decide)⟩
set_option maxHeartbeats 600000 in
set_option maxRecDepth 100000 in
theorem c_X9_readBracket_51_d4 (l : Launch) (dC : Nat → ClassId) (dI : Nat → Nat → Nat) (ad : Nat → Nat) (cA : Nat → ClassId) (nF : Nat) (u0 : ac_U) (p0 : Int32) (hR : ac_R rg u0) (hp0 : (4 : Int) ≤ p0.toInt ∧ p0.toInt ≤ 4) (hK_N4 : nmI 11 12 u0) : ac_Mi l yX9_readBracket (.code yX9_readBracket cX9_readBracket 2 (some .boolean) :: TB) 21 (dC, dI) vwCl (ac_ty cA) ad cA (TT nF) [.ref (ad 51), .int p0] u0 (fun (r : Int32) (u : ac_U) => ac_R rg u ∧ ac_Fr [(1, some 4), (1, some 5), (1, some 6), (1, some 8), (1, some 9), (1, some 10), (1, some 11), (47, some 3), (47, some 4), (48, none), (49, none), (50, none)] u0 u ∧ ((0 : Int) ≤ r.toInt ∧ r.toInt ≤ 1)) := by
  refine ac_Mi.of (cc := cX9_readBracket) (maxL := 2) (ret := (some .boolean)) (by decide) rfl (Nat.le_of_ble_eq_true rfl) ?_
  intro p e s m below meth c A ls F hml hr hlocks hA hP hD hS hl
  have F : ac_X p s m [.ref (ad 51), .int p0].toArray c cX9_readBracket RX9 TB (dC, dI) vwCl (ac_ty cA) := ⟨F.1, F.2.1, fun w h => F.2.2.1 w (List.mem_cons_of_mem _ h), F.2.2.2.1, F.2.2.2.2⟩
  have hl : lv_has ls 2 [(0, .ref (ad 51)), (1, .int p0)] := hl
  have hF : ac_Fr [(1, some 4), (1, some 5), (1, some 6), (1, some 8), (1, some 9), (1, some 10), (1, some 11), (47, some 3), (47, some 4), (48, none), (49, none), (50, none)] u0 u0 := ac_Fr.rf
  refine lv_aload_n F.1 F.2.1 dX9_readBracket_0 rfl (lv_at hl 0 rfl) ?_
  refine a_getr F inX9 hP 51 0 tc_51 rfl rfl (by decide) q465 (fun _ h9 => h9) dX9_readBracket_1 ?_
  refine a_Vv F hml hl.1 hA hP hD hS (As := []) (c_X10_readNext_1 l dC dI ad cA nF _  hR) (cs_RX9_45 (d := 3) F.2.2.1 (by decide)) tc_1 rfl rfl rfl rfl (Nat.le_of_ble_eq_true rfl) dX9_readBracket_4 ⟨Nat.le_refl 0, Nat.le_refl 0⟩ (fun u1 H locs hq hP hD hS => ?_)
  obtain ⟨hR, hF1⟩ := hq
  have hF := hF.tr hF1 (by decide)
  have hK_N4 := sp_fr sp_N4 hF1 (by decide) hK_N4
  refine lv_aload_n F.1 F.2.1 dX9_readBracket_7 rfl (lv_at hl 0 rfl) ?_
  refine lv_iload_n F.1 F.2.1 dX9_readBracket_8 rfl (lv_at hl 1 rfl) ?_
  refine a_ic F (1 : Int32) dX9_readBracket_9 (by decide) ?_
  refine a_iadd F dX9_readBracket_10 rfl ic_1 (by omega) (fun v2 hv2 => ?_)
  refine a_Vi F hml hl.1 hA hP hD hS (As := [.int v2]) (c_X9_readCond_51_d5 l dC dI ad cA nF _ v2 hR (by omega) hK_N4) (cs_RX9_74 (d := 20) F.2.2.1 (by decide)) tc_51 rfl rfl rfl rfl (Nat.le_of_ble_eq_true rfl) dX9_readBracket_11 ⟨Nat.le_refl 0, Nat.le_refl 0⟩ (fun r3 u3 H locs hq hP hD hS => ?_)
  obtain ⟨hR, hF3, gr3⟩ := hq
  have hF := hF.tr hF3 (by decide)
  have hK_N4 := sp_fr sp_N4 hF3 (by decide) hK_N4
  refine z_ne F 19 dX9_readBracket_14 (by decide) rfl (fun c4 => ?_) (fun c4 => ?_)
  · refine lv_aload_n F.1 F.2.1 dX9_readBracket_19 rfl (lv_at hl 0 rfl) ?_
    refine a_getr F inX9 hP 51 0 tc_51 rfl rfl (by decide) q465 (fun _ h9 => h9) dX9_readBracket_20 ?_
    have g5 : (-128 : Int) ≤ (u3.1 1 6).toInt ∧ (u3.1 1 6).toInt ≤ 127 := hR 1 6
    refine a_geti F inX10 hP 1 6 tc_1 rfl rfl (by decide) q103 (fun _ h9 => h9) (v := (u3.1 1 6)) rfl dX9_readBracket_23 ?_
    refine a_bp F (41 : Int32) dX9_readBracket_26 (by decide) ?_
    refine b_eq F 40 dX9_readBracket_28 (by decide) rfl ic_41 (fun c6 => ?_) (fun c6 => ?_)
    · refine lv_aload_n F.1 F.2.1 dX9_readBracket_40 rfl (lv_at hl 0 rfl) ?_
      refine a_getr F inX9 hP 51 0 tc_51 rfl rfl (by decide) q465 (fun _ h9 => h9) dX9_readBracket_41 ?_
      refine a_Vv F hml hl.1 hA hP hD hS (As := []) (c_X10_readNext_1 l dC dI ad cA nF _  hR) (cs_RX9_45 (d := 3) F.2.2.1 (by decide)) tc_1 rfl rfl rfl rfl (Nat.le_of_ble_eq_true rfl) dX9_readBracket_44 ⟨Nat.le_refl 0, Nat.le_refl 0⟩ (fun u7 H locs hq hP hD hS => ?_)
      obtain ⟨hR, hF7⟩ := hq
      have hF := hF.tr hF7 (by decide)
      have hK_N4 := sp_fr sp_N4 hF7 (by decide) hK_N4
      refine a_ic F (1 : Int32) dX9_readBracket_47 (by decide) ?_
      exact a_retz F hr hlocks hP hD hS dX9_readBracket_48 (Or.inr rfl) ⟨hR, hF, (by decide)⟩
    · refine lv_aload_n F.1 F.2.1 dX9_readBracket_31 rfl (lv_at hl 0 rfl) ?_
      refine a_getr F inX9 hP 51 0 tc_51 rfl rfl (by decide) q465 (fun _ h9 => h9) dX9_readBracket_32 ?_
      refine a_ic F (1 : Int32) dX9_readBracket_35 (by decide) ?_
      refine a_Vi F hml hl.1 hA hP hD hS (As := [.int (1 : Int32)]) (c_X10_fail_1 l dC dI ad cA nF _ (1 : Int32) hR (by decide)) (cs_RX9_38 (d := 1) F.2.2.1 (by decide)) tc_1 rfl rfl rfl rfl (Nat.le_of_ble_eq_true rfl) dX9_readBracket_36 ⟨Nat.le_refl 0, Nat.le_refl 0⟩ (fun r8 u8 H locs hq hP hD hS => ?_)
      obtain ⟨hR, hF8, gr8⟩ := hq
      have hF := hF.tr hF8 (by decide)
      have hK_N4 := sp_fr sp_N4 hF8 (by decide) hK_N4
      exact a_retz F hr hlocks hP hD hS dX9_readBracket_39 (i_01 (by omega)) ⟨hR, hF, (by omega : (0 : Int) ≤ r8.toInt ∧ r8.toInt ≤ 1)⟩
  · refine a_ic F (0 : Int32) dX9_readBracket_17 (by decide) ?_
    exact a_retz F hr hlocks hP hD hS dX9_readBracket_18 (Or.inl rfl) ⟨hR, hF, (by decide)⟩
set_option maxHeartbeats 600000 in
set_option maxRecDepth 100000 in
theorem c_X9_readNot_51_d4 (l : Launch) (dC : Nat → ClassId) (dI : Nat → Nat → Nat) (ad : Nat → Nat) (cA : Nat → ClassId) (nF : Nat) (u0 : ac_U) (p0 : Int32) (hR : ac_R rg u0) (hp0 : (4 : Int) ≤ p0.toInt ∧ p0.toInt ≤ 4) (hK_N4 : nmI 11 12 u0) : ac_Mi l yX9_readNot (.code yX9_readNot cX9_readNot 2 (some .boolean) :: TB) 19 (dC, dI) vwCl (ac_ty cA) ad cA (TT nF) [.ref (ad 51), .int p0] u0 (fun (r : Int32) (u : ac_U) => ac_R rg u ∧ ac_Fr [(1, some 4), (1, some 5), (1, some 6), (1, some 8), (1, some 9), (1, some 10), (1, some 11), (47, some 3), (47, some 4), (48, none), (49, none), (50, none)] u0 u ∧ ((0 : Int) ≤ r.toInt ∧ r.toInt ≤ 1)) := by
  refine ac_Mi.of (cc := cX9_readNot) (maxL := 2) (ret := (some .boolean)) (by decide) rfl (Nat.le_of_ble_eq_true rfl) ?_
  intro p e s m below meth c A ls F hml hr hlocks hA hP hD hS hl
  have F : ac_X p s m [.ref (ad 51), .int p0].toArray c cX9_readNot RX9 TB (dC, dI) vwCl (ac_ty cA) := ⟨F.1, F.2.1, fun w h => F.2.2.1 w (List.mem_cons_of_mem _ h), F.2.2.2.1, F.2.2.2.2⟩
  have hl : lv_has ls 2 [(0, .ref (ad 51)), (1, .int p0)] := hl
  have hF : ac_Fr [(1, some 4), (1, some 5), (1, some 6), (1, some 8), (1, some 9), (1, some 10), (1, some 11), (47, some 3), (47, some 4), (48, none), (49, none), (50, none)] u0 u0 := ac_Fr.rf
  refine lv_aload_n F.1 F.2.1 dX9_readNot_0 rfl (lv_at hl 0 rfl) ?_
  refine a_getr F inX9 hP 51 0 tc_51 rfl rfl (by decide) q465 (fun _ h9 => h9) dX9_readNot_1 ?_
  refine a_Vv F hml hl.1 hA hP hD hS (As := []) (c_X10_readNext_1 l dC dI ad cA nF _  hR) (cs_RX9_45 (d := 3) F.2.2.1 (by decide)) tc_1 rfl rfl rfl rfl (Nat.le_of_ble_eq_true rfl) dX9_readNot_4 ⟨Nat.le_refl 0, Nat.le_refl 0⟩ (fun u1 H locs hq hP hD hS => ?_)
  obtain ⟨hR, hF1⟩ := hq
  have hF := hF.tr hF1 (by decide)
  have hK_N4 := sp_fr sp_N4 hF1 (by decide) hK_N4
  refine lv_aload_n F.1 F.2.1 dX9_readNot_7 rfl (lv_at hl 0 rfl) ?_
  refine lv_iload_n F.1 F.2.1 dX9_readNot_8 rfl (lv_at hl 1 rfl) ?_
  refine a_ic F (1 : Int32) dX9_readNot_9 (by decide) ?_
  refine a_iadd F dX9_readNot_10 rfl ic_1 (by omega) (fun v2 hv2 => ?_)
  refine a_Vi F hml hl.1 hA hP hD hS (As := [.int v2]) (c_X9_readOne_51_d5 l dC dI ad cA nF _ v2 hR (by omega) hK_N4) (cs_RX9_52 (d := 18) F.2.2.1 (by decide)) tc_51 rfl rfl rfl rfl (Nat.le_of_ble_eq_true rfl) dX9_readNot_11 ⟨Nat.le_refl 0, Nat.le_refl 0⟩ (fun r3 u3 H locs hq hP hD hS => ?_)
  obtain ⟨hR, hF3, gr3⟩ := hq
  have hF := hF.tr hF3 (by decide)
  have hK_N4 := sp_fr sp_N4 hF3 (by decide) hK_N4
  refine z_ne F 19 dX9_readNot_14 (by decide) rfl (fun c4 => ?_) (fun c4 => ?_)
  · refine lv_aload_n F.1 F.2.1 dX9_readNot_19 rfl (lv_at hl 0 rfl) ?_
    refine a_getr F inX9 hP 51 2 tc_51 rfl rfl (by decide) q467 (fun _ h9 => h9) dX9_readNot_20 ?_
    refine a_bp F (116 : Int32) dX9_readNot_23 (by decide) ?_
    refine a_ic F (0 : Int32) dX9_readNot_25 (by decide) ?_
    refine a_ic F (0 : Int32) dX9_readNot_26 (by decide) ?_
    refine a_Vv F hml hl.1 hA hP hD hS (As := [.int (116 : Int32), .int (0 : Int32), .int (0 : Int32)]) (c_X8_add_47 l dC dI ad cA nF _ (116 : Int32) (0 : Int32) (0 : Int32) hR (by decide) (by decide)) (cs_RX9_48 (d := 1) F.2.2.1 (by decide)) tc_47 rfl rfl rfl rfl (Nat.le_of_ble_eq_true rfl) dX9_readNot_27 ⟨Nat.le_refl 0, Nat.le_refl 0⟩ (fun u5 H locs hq hP hD hS => ?_)
    obtain ⟨hR, hF5⟩ := hq
    have hF := hF.tr hF5 (by decide)
    have hK_N4 := sp_fr sp_N4 hF5 (by decide) hK_N4
    refine a_ic F (1 : Int32) dX9_readNot_30 (by decide) ?_
    exact a_retz F hr hlocks hP hD hS dX9_readNot_31 (Or.inr rfl) ⟨hR, hF, (by decide)⟩
  · refine a_ic F (0 : Int32) dX9_readNot_17 (by decide) ?_
    exact a_retz F hr hlocks hP hD hS dX9_readNot_18 (Or.inl rfl) ⟨hR, hF, (by decide)⟩
set_option maxHeartbeats 600000 in
set_option maxRecDepth 100000 in
theorem c_X9_readOne_51_d4 (l : Launch) (dC : Nat → ClassId) (dI : Nat → Nat → Nat) (ad : Nat → Nat) (cA : Nat → ClassId) (nF : Nat) (u0 : ac_U) (p0 : Int32) (hR : ac_R rg u0) (hp0 : (4 : Int) ≤ p0.toInt ∧ p0.toInt ≤ 4) (hK_N4 : nmI 11 12 u0) : ac_Mi l yX9_readOne (.code yX9_readOne cX9_readOne 3 (some .boolean) :: TB) 22 (dC, dI) vwCl (ac_ty cA) ad cA (TT nF) [.ref (ad 51), .int p0] u0 (fun (r : Int32) (u : ac_U) => ac_R rg u ∧ ac_Fr [(1, some 4), (1, some 5), (1, some 6), (1, some 8), (1, some 9), (1, some 10), (1, some 11), (47, some 3), (47, some 4), (48, none), (49, none), (50, none)] u0 u ∧ ((0 : Int) ≤ r.toInt ∧ r.toInt ≤ 1)) := by
  refine ac_Mi.of (cc := cX9_readOne) (maxL := 3) (ret := (some .boolean)) (by decide) rfl (Nat.le_of_ble_eq_true rfl) ?_
  intro p e s m below meth c A ls F hml hr hlocks hA hP hD hS hl
  have F : ac_X p s m [.ref (ad 51), .int p0].toArray c cX9_readOne RX9 TB (dC, dI) vwCl (ac_ty cA) := ⟨F.1, F.2.1, fun w h => F.2.2.1 w (List.mem_cons_of_mem _ h), F.2.2.2.1, F.2.2.2.2⟩
  have hl : lv_has ls 3 [(0, .ref (ad 51)), (1, .int p0)] := hl
  have hF : ac_Fr [(1, some 4), (1, some 5), (1, some 6), (1, some 8), (1, some 9), (1, some 10), (1, some 11), (47, some 3), (47, some 4), (48, none), (49, none), (50, none)] u0 u0 := ac_Fr.rf
  have L53 : ∀ (u : ac_U) (H : Heap) (locs : List Loc) (ls : Array Slot), ac_R rg u → ac_Fr [(1, some 4), (1, some 5), (1, some 6), (1, some 8), (1, some 9), (1, some 10), (1, some 11), (47, some 3), (47, some 4), (48, none), (49, none), (50, none)] u0 u → nmI 11 12 u → (40 : Int) ≤ (u.1 1 6).toInt ∧ (u.1 1 6).toInt ≤ 126 → (20 : Int) ≤ (u.1 47 4).toInt ∧ (u.1 47 4).toInt ≤ 20 → va_P (dC, dI) vwCl (ac_w ad cA (TT nF) u) H → va_D A (ac_w ad cA (TT nF) u) → va_S A s.heap H locs → lv_has ls 3 [(0, .ref (ad 51))] → W p l e (ac_rm 22) s m [.ref (ad 51), .int p0].toArray below meth c H locs 0 0 (MQ below (va_Qi (fun (r : Int32) (u : ac_U) => ac_R rg u ∧ ac_Fr [(1, some 4), (1, some 5), (1, some 6), (1, some 8), (1, some 9), (1, some 10), (1, some 11), (47, some 3), (47, some 4), (48, none), (49, none), (50, none)] u0 u ∧ ((0 : Int) ≤ r.toInt ∧ r.toInt ≤ 1)) (ac_B (dC, dI) vwCl (ac_ty cA) ad cA (TT nF) A) A) [.ref (ad 51), .int p0].toArray s 0 0 A) (F0 m 53 ls []) := by
    intro u H locs ls hR hF hK_N4 f0 f1 hP hD hS hl
    refine lv_aload_n F.1 F.2.1 dX9_readOne_53 rfl (lv_at hl 0 rfl) ?_
    refine a_getr F inX9 hP 51 0 tc_51 rfl rfl (by decide) q465 (fun _ h9 => h9) dX9_readOne_54 ?_
    refine a_ic F (4 : Int32) dX9_readOne_57 (by decide) ?_
    refine a_Vi F hml hl.1 hA hP hD hS (As := [.int (4 : Int32)]) (c_X10_fail_1 l dC dI ad cA nF _ (4 : Int32) hR (by decide)) (cs_RX9_38 (d := 1) F.2.2.1 (by decide)) tc_1 rfl rfl rfl rfl (Nat.le_of_ble_eq_true rfl) dX9_readOne_58 ⟨Nat.le_refl 0, Nat.le_refl 0⟩ (fun r1 u1 H locs hq hP hD hS => ?_)
    obtain ⟨hR, hF1, gr1⟩ := hq
    have hF := hF.tr hF1 (by decide)
    have hK_N4 := sp_fr sp_N4 hF1 (by decide) hK_N4
    exact a_retz F hr hlocks hP hD hS dX9_readOne_61 (i_01 (by omega)) ⟨hR, hF, (by omega : (0 : Int) ≤ r1.toInt ∧ r1.toInt ≤ 1)⟩
  have L35 : ∀ (x2 : Int32) (u : ac_U) (H : Heap) (locs : List Loc) (ls : Array Slot), ac_R rg u → ac_Fr [(1, some 4), (1, some 5), (1, some 6), (1, some 8), (1, some 9), (1, some 10), (1, some 11), (47, some 3), (47, some 4), (48, none), (49, none), (50, none)] u0 u → nmI 11 12 u → (40 : Int) ≤ x2.toInt ∧ x2.toInt ≤ 126 → (40 : Int) ≤ (u.1 1 6).toInt ∧ (u.1 1 6).toInt ≤ 126 → va_P (dC, dI) vwCl (ac_w ad cA (TT nF) u) H → va_D A (ac_w ad cA (TT nF) u) → va_S A s.heap H locs → lv_has ls 3 [(0, .ref (ad 51)), (1, .int p0), (2, .int x2)] → W p l e (ac_rm 22) s m [.ref (ad 51), .int p0].toArray below meth c H locs 0 0 (MQ below (va_Qi (fun (r : Int32) (u : ac_U) => ac_R rg u ∧ ac_Fr [(1, some 4), (1, some 5), (1, some 6), (1, some 8), (1, some 9), (1, some 10), (1, some 11), (47, some 3), (47, some 4), (48, none), (49, none), (50, none)] u0 u ∧ ((0 : Int) ≤ r.toInt ∧ r.toInt ≤ 1)) (ac_B (dC, dI) vwCl (ac_ty cA) ad cA (TT nF) A) A) [.ref (ad 51), .int p0].toArray s 0 0 A) (F0 m 35 ls []) := by
    intro x2 u H locs ls hR hF hK_N4 f0 f1 hP hD hS hl
    refine lv_aload_n F.1 F.2.1 dX9_readOne_35 rfl (lv_at hl 0 rfl) ?_
    refine a_getr F inX9 hP 51 2 tc_51 rfl rfl (by decide) q467 (fun _ h9 => h9) dX9_readOne_36 ?_
    have g2 : (0 : Int) ≤ (u.1 47 4).toInt ∧ (u.1 47 4).toInt ≤ 20 := hR 47 4
    refine a_geti F inX8 hP 47 4 tc_47 rfl rfl (by decide) q446 (fun _ h9 => h9) (v := (u.1 47 4)) rfl dX9_readOne_39 ?_
    refine a_bp F (20 : Int32) dX9_readOne_42 (by decide) ?_
    refine b_ge F 53 dX9_readOne_44 (by decide) rfl ic_20 (fun c3 => ?_) (fun c3 => ?_)
    · have g4 : (-128 : Int) ≤ (u.1 1 6).toInt ∧ (u.1 1 6).toInt ≤ 127 := hR 1 6
      exact L53 _ _ _ _ hR hF hK_N4 (by omega : (40 : Int) ≤ (u.1 1 6).toInt ∧ (u.1 1 6).toInt ≤ 126) (by omega : (20 : Int) ≤ (u.1 47 4).toInt ∧ (u.1 47 4).toInt ≤ 20) hP hD hS (lv_sub hl [0] rfl)
    · refine lv_iload_n F.1 F.2.1 dX9_readOne_47 rfl (lv_at hl 1 rfl) ?_
      refine a_bp F (8 : Int32) dX9_readOne_48 (by decide) ?_
      refine b_le F 62 dX9_readOne_50 (by decide) rfl ic_8 (fun c5 => ?_) (fun c5 => ?_)
      · refine lv_aload_n F.1 F.2.1 dX9_readOne_62 rfl (lv_at hl 0 rfl) ?_
        refine a_getr F inX9 hP 51 2 tc_51 rfl rfl (by decide) q467 (fun _ h9 => h9) dX9_readOne_63 ?_
        refine lv_dup F.1 F.2.1 dX9_readOne_66 rfl ?_
        refine a_geti F inX8 hP 47 4 tc_47 rfl rfl (by decide) q446 (fun _ h9 => h9) (v := (u.1 47 4)) (rfl) dX9_readOne_67 ?_
        refine a_ic F (1 : Int32) dX9_readOne_70 (by decide) ?_
        refine a_iadd F dX9_readOne_71 rfl ic_1 (by omega) (fun v6 hv6 => ?_)
        refine a_puti F inX8 tyX8 tyX8_ok nmX8 hP hD hS 47 4 tc_47 rfl rfl (by decide) q446 (fun _ h9 => h9) rfl (ty := .int) (tyX8_ok 4 (by decide)) rfl rfl dX9_readOne_72 (fun H locs hP hD hS => ?_)
        have hR := hR.si (c := 47) (k := 4) (v := v6) (by omega : (0 : Int) ≤ v6.toInt ∧ v6.toInt ≤ 20)
        have hF := hF.si (c := 47) (k := 4) (v := v6) rfl
        have hK_N4 := sp_sgD sp_N4 hD hK_N4 (by decide)
        refine lv_iload_n F.1 F.2.1 dX9_readOne_75 rfl (lv_at hl 2 rfl) ?_
        refine a_bp F (40 : Int32) dX9_readOne_76 (by decide) ?_
        refine b_ne F 87 dX9_readOne_78 (by decide) rfl ic_40 (fun c7 => ?_) (fun c7 => ?_)
        · refine lv_iload_n F.1 F.2.1 dX9_readOne_87 rfl (lv_at hl 2 rfl) ?_
          refine a_bp F (116 : Int32) dX9_readOne_88 (by decide) ?_
          refine b_ne F 99 dX9_readOne_90 (by decide) rfl ic_116 (fun c8 => ?_) (fun c8 => ?_)
          · refine lv_iload_n F.1 F.2.1 dX9_readOne_99 rfl (lv_at hl 2 rfl) ?_
            refine a_bp F (122 : Int32) dX9_readOne_100 (by decide) ?_
            refine b_ne F 110 dX9_readOne_102 (by decide) rfl ic_122 (fun c9 => ?_) (fun c9 => ?_)
            · refine lv_iload_n F.1 F.2.1 dX9_readOne_110 rfl (lv_at hl 2 rfl) ?_
              refine a_bp F (122 : Int32) dX9_readOne_111 (by decide) ?_
              refine b_le F 124 dX9_readOne_113 (by decide) rfl ic_122 (fun c10 => ?_) (fun c10 => ?_)
              · refine lv_aload_n F.1 F.2.1 dX9_readOne_124 rfl (lv_at hl 0 rfl) ?_
                refine lv_iload_n F.1 F.2.1 dX9_readOne_125 rfl (lv_at hl 2 rfl) ?_
                refine a_Vi F hml hl.1 hA hP hD hS (As := [.int x2]) (c_X9_readStatus_51 l dC dI ad cA nF _ x2 hR (by omega)) (cs_RX9_71 (d := 4) F.2.2.1 (by decide)) tc_51 rfl rfl rfl rfl (Nat.le_of_ble_eq_true rfl) dX9_readOne_126 ⟨Nat.le_refl 0, Nat.le_refl 0⟩ (fun r11 u11 H locs hq hP hD hS => ?_)
                obtain ⟨hR, hF11, gr11⟩ := hq
                have hF := hF.tr hF11 (by decide)
                have hK_N4 := sp_fr sp_N4 hF11 (by decide) hK_N4
                exact a_retz F hr hlocks hP hD hS dX9_readOne_129 (i_01 (by omega)) ⟨hR, hF, (by omega : (0 : Int) ≤ r11.toInt ∧ r11.toInt ≤ 1)⟩
              · refine lv_aload_n F.1 F.2.1 dX9_readOne_116 rfl (lv_at hl 0 rfl) ?_
                refine lv_iload_n F.1 F.2.1 dX9_readOne_117 rfl (lv_at hl 2 rfl) ?_
                refine a_Vi F hml hl.1 hA hP hD hS (As := [.int x2]) (c_X9_readCompare_51 l dC dI ad cA nF _ x2 hR (by omega)) (cs_RX9_68 (d := 4) F.2.2.1 (by decide)) tc_51 rfl rfl rfl rfl (Nat.le_of_ble_eq_true rfl) dX9_readOne_118 ⟨Nat.le_refl 0, Nat.le_refl 0⟩ (fun r12 u12 H locs hq hP hD hS => ?_)
                obtain ⟨hR, hF12, gr12⟩ := hq
                have hF := hF.tr hF12 (by decide)
                have hK_N4 := sp_fr sp_N4 hF12 (by decide) hK_N4
                refine lv_goto (tgt := 129) F.1 F.2.1 dX9_readOne_121 (by decide) ?_
                exact a_retz F hr hlocks hP hD hS dX9_readOne_129 (i_01 (by omega)) ⟨hR, hF, (by omega : (0 : Int) ≤ r12.toInt ∧ r12.toInt ≤ 1)⟩
            · refine lv_aload_n F.1 F.2.1 dX9_readOne_105 rfl (lv_at hl 0 rfl) ?_
              refine a_Vi F hml hl.1 hA hP hD hS (As := []) (c_X9_readOf_51 l dC dI ad cA nF _  hR hK_N4) (cs_RX9_64 (d := 4) F.2.2.1 (by decide)) tc_51 rfl rfl rfl rfl (Nat.le_of_ble_eq_true rfl) dX9_readOne_106 ⟨Nat.le_refl 0, Nat.le_refl 0⟩ (fun r13 u13 H locs hq hP hD hS => ?_)
              obtain ⟨hR, hF13, gr13⟩ := hq
              have hF := hF.tr hF13 (by decide)
              have hK_N4 := sp_fr sp_N4 hF13 (by decide) hK_N4
              exact a_retz F hr hlocks hP hD hS dX9_readOne_109 (i_01 (by omega)) ⟨hR, hF, (by omega : (0 : Int) ≤ r13.toInt ∧ r13.toInt ≤ 1)⟩
          · refine lv_aload_n F.1 F.2.1 dX9_readOne_93 rfl (lv_at hl 0 rfl) ?_
            refine lv_iload_n F.1 F.2.1 dX9_readOne_94 rfl (lv_at hl 1 rfl) ?_
            refine a_Vi F hml hl.1 hA hP hD hS (As := [.int p0]) (c_X9_readNot_51_d4 l dC dI ad cA nF _ p0 hR (by omega) hK_N4) (cs_RX9_61 (d := 19) F.2.2.1 (by decide)) tc_51 rfl rfl rfl rfl (Nat.le_of_ble_eq_true rfl) dX9_readOne_95 ⟨Nat.le_refl 0, Nat.le_refl 0⟩ (fun r14 u14 H locs hq hP hD hS => ?_)
            obtain ⟨hR, hF14, gr14⟩ := hq
            have hF := hF.tr hF14 (by decide)
            have hK_N4 := sp_fr sp_N4 hF14 (by decide) hK_N4
            exact a_retz F hr hlocks hP hD hS dX9_readOne_98 (i_01 (by omega)) ⟨hR, hF, (by omega : (0 : Int) ≤ r14.toInt ∧ r14.toInt ≤ 1)⟩
        · refine lv_aload_n F.1 F.2.1 dX9_readOne_81 rfl (lv_at hl 0 rfl) ?_
          refine lv_iload_n F.1 F.2.1 dX9_readOne_82 rfl (lv_at hl 1 rfl) ?_
          refine a_Vi F hml hl.1 hA hP hD hS (As := [.int p0]) (c_X9_readBracket_51_d4 l dC dI ad cA nF _ p0 hR (by omega) hK_N4) (cs_RX9_58 (d := 21) F.2.2.1 (by decide)) tc_51 rfl rfl rfl rfl (Nat.le_of_ble_eq_true rfl) dX9_readOne_83 ⟨Nat.le_refl 0, Nat.le_refl 0⟩ (fun r15 u15 H locs hq hP hD hS => ?_)
          obtain ⟨hR, hF15, gr15⟩ := hq
          have hF := hF.tr hF15 (by decide)
          have hK_N4 := sp_fr sp_N4 hF15 (by decide) hK_N4
          exact a_retz F hr hlocks hP hD hS dX9_readOne_86 (i_01 (by omega)) ⟨hR, hF, (by omega : (0 : Int) ≤ r15.toInt ∧ r15.toInt ≤ 1)⟩
      · exfalso; omega
  have L26 : ∀ (u : ac_U) (H : Heap) (locs : List Loc) (ls : Array Slot), ac_R rg u → ac_Fr [(1, some 4), (1, some 5), (1, some 6), (1, some 8), (1, some 9), (1, some 10), (1, some 11), (47, some 3), (47, some 4), (48, none), (49, none), (50, none)] u0 u → nmI 11 12 u → (-128 : Int) ≤ (u.1 1 6).toInt ∧ (u.1 1 6).toInt ≤ 127 → va_P (dC, dI) vwCl (ac_w ad cA (TT nF) u) H → va_D A (ac_w ad cA (TT nF) u) → va_S A s.heap H locs → lv_has ls 3 [(0, .ref (ad 51))] → W p l e (ac_rm 22) s m [.ref (ad 51), .int p0].toArray below meth c H locs 0 0 (MQ below (va_Qi (fun (r : Int32) (u : ac_U) => ac_R rg u ∧ ac_Fr [(1, some 4), (1, some 5), (1, some 6), (1, some 8), (1, some 9), (1, some 10), (1, some 11), (47, some 3), (47, some 4), (48, none), (49, none), (50, none)] u0 u ∧ ((0 : Int) ≤ r.toInt ∧ r.toInt ≤ 1)) (ac_B (dC, dI) vwCl (ac_ty cA) ad cA (TT nF) A) A) [.ref (ad 51), .int p0].toArray s 0 0 A) (F0 m 26 ls []) := by
    intro u H locs ls hR hF hK_N4 f0 hP hD hS hl
    refine lv_aload_n F.1 F.2.1 dX9_readOne_26 rfl (lv_at hl 0 rfl) ?_
    refine a_getr F inX9 hP 51 0 tc_51 rfl rfl (by decide) q465 (fun _ h9 => h9) dX9_readOne_27 ?_
    refine a_ic F (1 : Int32) dX9_readOne_30 (by decide) ?_
    refine a_Vi F hml hl.1 hA hP hD hS (As := [.int (1 : Int32)]) (c_X10_fail_1 l dC dI ad cA nF _ (1 : Int32) hR (by decide)) (cs_RX9_38 (d := 1) F.2.2.1 (by decide)) tc_1 rfl rfl rfl rfl (Nat.le_of_ble_eq_true rfl) dX9_readOne_31 ⟨Nat.le_refl 0, Nat.le_refl 0⟩ (fun r16 u16 H locs hq hP hD hS => ?_)
    obtain ⟨hR, hF16, gr16⟩ := hq
    have hF := hF.tr hF16 (by decide)
    have hK_N4 := sp_fr sp_N4 hF16 (by decide) hK_N4
    exact a_retz F hr hlocks hP hD hS dX9_readOne_34 (i_01 (by omega)) ⟨hR, hF, (by omega : (0 : Int) ≤ r16.toInt ∧ r16.toInt ≤ 1)⟩
  refine lv_aload_n F.1 F.2.1 dX9_readOne_0 rfl (lv_at hl 0 rfl) ?_
  refine a_getr F inX9 hP 51 0 tc_51 rfl rfl (by decide) q465 (fun _ h9 => h9) dX9_readOne_1 ?_
  have g17 : (-128 : Int) ≤ (u0.1 1 6).toInt ∧ (u0.1 1 6).toInt ≤ 127 := hR 1 6
  refine a_geti F inX10 hP 1 6 tc_1 rfl rfl (by decide) q103 (fun _ h9 => h9) (v := (u0.1 1 6)) rfl dX9_readOne_4 ?_
  refine lv_istore_n (lv' := [(2, .int (u0.1 1 6)), (0, .ref (ad 51)), (1, .int p0)]) F.1 F.2.1 dX9_readOne_7 rfl hl (by decide) rfl (fun ls hl => ?_)
  refine lv_iload_n F.1 F.2.1 dX9_readOne_8 rfl (lv_at hl 0 rfl) ?_
  refine a_bp F (40 : Int32) dX9_readOne_9 (by decide) ?_
  refine b_eq F 35 dX9_readOne_11 (by decide) rfl ic_40 (fun c18 => ?_) (fun c18 => ?_)
  · exact L35 (u0.1 1 6) _ _ _ _ hR hF hK_N4 (by omega) (by omega : (40 : Int) ≤ (u0.1 1 6).toInt ∧ (u0.1 1 6).toInt ≤ 126) hP hD hS (lv_sub hl [1, 2, 0] rfl)
  · refine lv_iload_n F.1 F.2.1 dX9_readOne_14 rfl (lv_at hl 0 rfl) ?_
    refine a_bp F (116 : Int32) dX9_readOne_15 (by decide) ?_
    refine b_lt F 26 dX9_readOne_17 (by decide) rfl ic_116 (fun c19 => ?_) (fun c19 => ?_)
    · exact L26 _ _ _ _ hR hF hK_N4 (by omega : (-128 : Int) ≤ (u0.1 1 6).toInt ∧ (u0.1 1 6).toInt ≤ 127) hP hD hS (lv_sub hl [1] rfl)
    · refine lv_iload_n F.1 F.2.1 dX9_readOne_20 rfl (lv_at hl 0 rfl) ?_
      refine a_bp F (126 : Int32) dX9_readOne_21 (by decide) ?_
      refine b_le F 35 dX9_readOne_23 (by decide) rfl ic_126 (fun c20 => ?_) (fun c20 => ?_)
      · exact L35 (u0.1 1 6) _ _ _ _ hR hF hK_N4 (by omega) (by omega : (40 : Int) ≤ (u0.1 1 6).toInt ∧ (u0.1 1 6).toInt ≤ 126) hP hD hS (lv_sub hl [1, 2, 0] rfl)
      · exact L26 _ _ _ _ hR hF hK_N4 (by omega : (-128 : Int) ≤ (u0.1 1 6).toInt ∧ (u0.1 1 6).toInt ≤ 127) hP hD hS (lv_sub hl [1] rfl)
set_option maxHeartbeats 600000 in
set_option maxRecDepth 100000 in
theorem c_X9_readBoth_51_d4 (l : Launch) (dC : Nat → ClassId) (dI : Nat → Nat → Nat) (ad : Nat → Nat) (cA : Nat → ClassId) (nF : Nat) (u0 : ac_U) (p0 : Int32) (hR : ac_R rg u0) (hp0 : (4 : Int) ≤ p0.toInt ∧ p0.toInt ≤ 4) (hK_N4 : nmI 11 12 u0) : ac_Mi l yX9_readBoth (.code yX9_readBoth cX9_readBoth 3 (some .boolean) :: TB) 23 (dC, dI) vwCl (ac_ty cA) ad cA (TT nF) [.ref (ad 51), .int p0] u0 (fun (r : Int32) (u : ac_U) => ac_R rg u ∧ ac_Fr [(1, some 4), (1, some 5), (1, some 6), (1, some 8), (1, some 9), (1, some 10), (1, some 11), (47, some 3), (47, some 4), (48, none), (49, none), (50, none)] u0 u ∧ ((0 : Int) ≤ r.toInt ∧ r.toInt ≤ 1)) := by
  refine ac_Mi.of (cc := cX9_readBoth) (maxL := 3) (ret := (some .boolean)) (by decide) rfl (Nat.le_of_ble_eq_true rfl) ?_
  intro p e s m below meth c A ls F hml hr hlocks hA hP hD hS hl
  have F : ac_X p s m [.ref (ad 51), .int p0].toArray c cX9_readBoth RX9 TB (dC, dI) vwCl (ac_ty cA) := ⟨F.1, F.2.1, fun w h => F.2.2.1 w (List.mem_cons_of_mem _ h), F.2.2.2.1, F.2.2.2.2⟩
  have hl : lv_has ls 3 [(0, .ref (ad 51)), (1, .int p0)] := hl
  have hF : ac_Fr [(1, some 4), (1, some 5), (1, some 6), (1, some 8), (1, some 9), (1, some 10), (1, some 11), (47, some 3), (47, some 4), (48, none), (49, none), (50, none)] u0 u0 := ac_Fr.rf
  have L64 : ∀ (u : ac_U) (H : Heap) (locs : List Loc) (ls : Array Slot), ac_R rg u → ac_Fr [(1, some 4), (1, some 5), (1, some 6), (1, some 8), (1, some 9), (1, some 10), (1, some 11), (47, some 3), (47, some 4), (48, none), (49, none), (50, none)] u0 u → nmI 11 12 u → va_P (dC, dI) vwCl (ac_w ad cA (TT nF) u) H → va_D A (ac_w ad cA (TT nF) u) → va_S A s.heap H locs → lv_has ls 3 [] → W p l e (ac_rm 23) s m [.ref (ad 51), .int p0].toArray below meth c H locs 0 0 (MQ below (va_Qi (fun (r : Int32) (u : ac_U) => ac_R rg u ∧ ac_Fr [(1, some 4), (1, some 5), (1, some 6), (1, some 8), (1, some 9), (1, some 10), (1, some 11), (47, some 3), (47, some 4), (48, none), (49, none), (50, none)] u0 u ∧ ((0 : Int) ≤ r.toInt ∧ r.toInt ≤ 1)) (ac_B (dC, dI) vwCl (ac_ty cA) ad cA (TT nF) A) A) [.ref (ad 51), .int p0].toArray s 0 0 A) (F0 m 64 ls []) := by
    intro u H locs ls hR hF hK_N4 hP hD hS hl
    refine a_ic F (1 : Int32) dX9_readBoth_64 (by decide) ?_
    exact a_retz F hr hlocks hP hD hS dX9_readBoth_65 (Or.inr rfl) ⟨hR, hF, (by decide)⟩
  have L12 : ∀ (n12 : Nat) (x2 : Int32) (u : ac_U) (H : Heap) (locs : List Loc) (ls : Array Slot), ac_R rg u → ac_Fr [(1, some 4), (1, some 5), (1, some 6), (1, some 8), (1, some 9), (1, some 10), (1, some 11), (47, some 3), (47, some 4), (48, none), (49, none), (50, none)] u0 u → 20 - x2.toInt < (n12 : Int) → nmI 11 12 u → (0 : Int) ≤ x2.toInt ∧ x2.toInt ≤ 20 → va_P (dC, dI) vwCl (ac_w ad cA (TT nF) u) H → va_D A (ac_w ad cA (TT nF) u) → va_S A s.heap H locs → lv_has ls 3 [(0, .ref (ad 51)), (1, .int p0), (2, .int x2)] → W p l e (ac_rm 23) s m [.ref (ad 51), .int p0].toArray below meth c H locs 0 0 (MQ below (va_Qi (fun (r : Int32) (u : ac_U) => ac_R rg u ∧ ac_Fr [(1, some 4), (1, some 5), (1, some 6), (1, some 8), (1, some 9), (1, some 10), (1, some 11), (47, some 3), (47, some 4), (48, none), (49, none), (50, none)] u0 u ∧ ((0 : Int) ≤ r.toInt ∧ r.toInt ≤ 1)) (ac_B (dC, dI) vwCl (ac_ty cA) ad cA (TT nF) A) A) [.ref (ad 51), .int p0].toArray s 0 0 A) (F0 m 12 ls []) := by
    intro n12
    induction n12 with
    | zero => intro x2 u H locs ls hR hF hn12 hK_N4 f0 hP hD hS hl; exfalso; omega
    | succ n12 ih12 =>
      intro x2 u H locs ls hR hF hn12 hK_N4 f0 hP hD hS hl
      refine lv_iload_n F.1 F.2.1 dX9_readBoth_12 rfl (lv_at hl 2 rfl) ?_
      refine a_bp F (20 : Int32) dX9_readBoth_13 (by decide) ?_
      refine b_ge F 64 dX9_readBoth_15 (by decide) rfl ic_20 (fun c1 => ?_) (fun c1 => ?_)
      · exact L64 _ _ _ _ hR hF hK_N4 hP hD hS (lv_sub hl [] rfl)
      · refine lv_aload_n F.1 F.2.1 dX9_readBoth_18 rfl (lv_at hl 0 rfl) ?_
        refine a_getr F inX9 hP 51 0 tc_51 rfl rfl (by decide) q465 (fun _ h9 => h9) dX9_readBoth_19 ?_
        have g2 : (-128 : Int) ≤ (u.1 1 6).toInt ∧ (u.1 1 6).toInt ≤ 127 := hR 1 6
        refine a_geti F inX10 hP 1 6 tc_1 rfl rfl (by decide) q103 (fun _ h9 => h9) (v := (u.1 1 6)) rfl dX9_readBoth_22 ?_
        refine a_bp F (115 : Int32) dX9_readBoth_25 (by decide) ?_
        refine b_ne F 64 dX9_readBoth_27 (by decide) rfl ic_115 (fun c3 => ?_) (fun c3 => ?_)
        · exact L64 _ _ _ _ hR hF hK_N4 hP hD hS (lv_sub hl [] rfl)
        · refine lv_aload_n F.1 F.2.1 dX9_readBoth_30 rfl (lv_at hl 0 rfl) ?_
          refine a_getr F inX9 hP 51 0 tc_51 rfl rfl (by decide) q465 (fun _ h9 => h9) dX9_readBoth_31 ?_
          refine a_Vv F hml hl.1 hA hP hD hS (As := []) (c_X10_readNext_1 l dC dI ad cA nF _  hR) (cs_RX9_45 (d := 3) F.2.2.1 (by decide)) tc_1 rfl rfl rfl rfl (Nat.le_of_ble_eq_true rfl) dX9_readBoth_34 ⟨Nat.le_refl 0, Nat.le_refl 0⟩ (fun u4 H locs hq hP hD hS => ?_)
          obtain ⟨hR, hF4⟩ := hq
          have hF := hF.tr hF4 (by decide)
          have hK_N4 := sp_fr sp_N4 hF4 (by decide) hK_N4
          refine lv_aload_n F.1 F.2.1 dX9_readBoth_37 rfl (lv_at hl 0 rfl) ?_
          refine lv_iload_n F.1 F.2.1 dX9_readBoth_38 rfl (lv_at hl 1 rfl) ?_
          refine a_Vi F hml hl.1 hA hP hD hS (As := [.int p0]) (c_X9_readOne_51_d4 l dC dI ad cA nF _ p0 hR (by omega) hK_N4) (cs_RX9_52 (d := 22) F.2.2.1 (by decide)) tc_51 rfl rfl rfl rfl (Nat.le_of_ble_eq_true rfl) dX9_readBoth_39 ⟨Nat.le_refl 0, Nat.le_refl 0⟩ (fun r5 u5 H locs hq hP hD hS => ?_)
          obtain ⟨hR, hF5, gr5⟩ := hq
          have hF := hF.tr hF5 (by decide)
          have hK_N4 := sp_fr sp_N4 hF5 (by decide) hK_N4
          refine z_ne F 47 dX9_readBoth_42 (by decide) rfl (fun c6 => ?_) (fun c6 => ?_)
          · refine lv_aload_n F.1 F.2.1 dX9_readBoth_47 rfl (lv_at hl 0 rfl) ?_
            refine a_getr F inX9 hP 51 2 tc_51 rfl rfl (by decide) q467 (fun _ h9 => h9) dX9_readBoth_48 ?_
            refine a_bp F (115 : Int32) dX9_readBoth_51 (by decide) ?_
            refine a_ic F (0 : Int32) dX9_readBoth_53 (by decide) ?_
            refine a_ic F (0 : Int32) dX9_readBoth_54 (by decide) ?_
            refine a_Vv F hml hl.1 hA hP hD hS (As := [.int (115 : Int32), .int (0 : Int32), .int (0 : Int32)]) (c_X8_add_47 l dC dI ad cA nF _ (115 : Int32) (0 : Int32) (0 : Int32) hR (by decide) (by decide)) (cs_RX9_48 (d := 1) F.2.2.1 (by decide)) tc_47 rfl rfl rfl rfl (Nat.le_of_ble_eq_true rfl) dX9_readBoth_55 ⟨Nat.le_refl 0, Nat.le_refl 0⟩ (fun u7 H locs hq hP hD hS => ?_)
            obtain ⟨hR, hF7⟩ := hq
            have hF := hF.tr hF7 (by decide)
            have hK_N4 := sp_fr sp_N4 hF7 (by decide) hK_N4
            refine a_iinc F (k := 2) (fun v8 => [(2, .int v8), (0, .ref (ad 51)), (1, .int p0)]) dX9_readBoth_58 hl rfl rfl (by decide) (by omega) (by decide) (fun _ => rfl) (fun v8 ls hv8 hl => ?_)
            refine lv_goto (tgt := 12) F.1 F.2.1 dX9_readBoth_61 (by decide) ?_
            exact ih12 v8 _ _ _ _ hR hF (by omega) hK_N4 (by omega) hP hD hS (lv_sub hl [1, 2, 0] rfl)
          · refine a_ic F (0 : Int32) dX9_readBoth_45 (by decide) ?_
            exact a_retz F hr hlocks hP hD hS dX9_readBoth_46 (Or.inl rfl) ⟨hR, hF, (by decide)⟩
  refine lv_aload_n F.1 F.2.1 dX9_readBoth_0 rfl (lv_at hl 0 rfl) ?_
  refine lv_iload_n F.1 F.2.1 dX9_readBoth_1 rfl (lv_at hl 1 rfl) ?_
  refine a_Vi F hml hl.1 hA hP hD hS (As := [.int p0]) (c_X9_readOne_51_d4 l dC dI ad cA nF _ p0 hR (by omega) hK_N4) (cs_RX9_52 (d := 22) F.2.2.1 (by decide)) tc_51 rfl rfl rfl rfl (Nat.le_of_ble_eq_true rfl) dX9_readBoth_2 ⟨Nat.le_refl 0, Nat.le_refl 0⟩ (fun r9 u9 H locs hq hP hD hS => ?_)
  obtain ⟨hR, hF9, gr9⟩ := hq
  have hF := hF.tr hF9 (by decide)
  have hK_N4 := sp_fr sp_N4 hF9 (by decide) hK_N4
  refine z_ne F 10 dX9_readBoth_5 (by decide) rfl (fun c10 => ?_) (fun c10 => ?_)
  · refine a_ic F (0 : Int32) dX9_readBoth_10 (by decide) ?_
    refine lv_istore_n (lv' := [(2, .int (0 : Int32)), (0, .ref (ad 51)), (1, .int p0)]) F.1 F.2.1 dX9_readBoth_11 rfl hl (by decide) rfl (fun ls hl => ?_)
    exact L12 22 (0 : Int32) _ _ _ _ hR hF (by decide) hK_N4 (by decide) hP hD hS (lv_sub hl [1, 2, 0] rfl)
  · refine a_ic F (0 : Int32) dX9_readBoth_8 (by decide) ?_
    exact a_retz F hr hlocks hP hD hS dX9_readBoth_9 (Or.inl rfl) ⟨hR, hF, (by decide)⟩
set_option maxHeartbeats 600000 in
set_option maxRecDepth 100000 in
theorem c_X9_readCond_51_d4 (l : Launch) (dC : Nat → ClassId) (dI : Nat → Nat → Nat) (ad : Nat → Nat) (cA : Nat → ClassId) (nF : Nat) (u0 : ac_U) (p0 : Int32) (hR : ac_R rg u0) (hp0 : (4 : Int) ≤ p0.toInt ∧ p0.toInt ≤ 4) (hK_N4 : nmI 11 12 u0) : ac_Mi l yX9_readCond (.code yX9_readCond cX9_readCond 3 (some .boolean) :: TB) 24 (dC, dI) vwCl (ac_ty cA) ad cA (TT nF) [.ref (ad 51), .int p0] u0 (fun (r : Int32) (u : ac_U) => ac_R rg u ∧ ac_Fr [(1, some 4), (1, some 5), (1, some 6), (1, some 8), (1, some 9), (1, some 10), (1, some 11), (47, some 3), (47, some 4), (48, none), (49, none), (50, none)] u0 u ∧ ((0 : Int) ≤ r.toInt ∧ r.toInt ≤ 1)) := by
  refine ac_Mi.of (cc := cX9_readCond) (maxL := 3) (ret := (some .boolean)) (by decide) rfl (Nat.le_of_ble_eq_true rfl) ?_
  intro p e s m below meth c A ls F hml hr hlocks hA hP hD hS hl
  have F : ac_X p s m [.ref (ad 51), .int p0].toArray c cX9_readCond RX9 TB (dC, dI) vwCl (ac_ty cA) := ⟨F.1, F.2.1, fun w h => F.2.2.1 w (List.mem_cons_of_mem _ h), F.2.2.2.1, F.2.2.2.2⟩
  have hl : lv_has ls 3 [(0, .ref (ad 51)), (1, .int p0)] := hl
  have hF : ac_Fr [(1, some 4), (1, some 5), (1, some 6), (1, some 8), (1, some 9), (1, some 10), (1, some 11), (47, some 3), (47, some 4), (48, none), (49, none), (50, none)] u0 u0 := ac_Fr.rf
  have L64 : ∀ (u : ac_U) (H : Heap) (locs : List Loc) (ls : Array Slot), ac_R rg u → ac_Fr [(1, some 4), (1, some 5), (1, some 6), (1, some 8), (1, some 9), (1, some 10), (1, some 11), (47, some 3), (47, some 4), (48, none), (49, none), (50, none)] u0 u → nmI 11 12 u → va_P (dC, dI) vwCl (ac_w ad cA (TT nF) u) H → va_D A (ac_w ad cA (TT nF) u) → va_S A s.heap H locs → lv_has ls 3 [] → W p l e (ac_rm 24) s m [.ref (ad 51), .int p0].toArray below meth c H locs 0 0 (MQ below (va_Qi (fun (r : Int32) (u : ac_U) => ac_R rg u ∧ ac_Fr [(1, some 4), (1, some 5), (1, some 6), (1, some 8), (1, some 9), (1, some 10), (1, some 11), (47, some 3), (47, some 4), (48, none), (49, none), (50, none)] u0 u ∧ ((0 : Int) ≤ r.toInt ∧ r.toInt ≤ 1)) (ac_B (dC, dI) vwCl (ac_ty cA) ad cA (TT nF) A) A) [.ref (ad 51), .int p0].toArray s 0 0 A) (F0 m 64 ls []) := by
    intro u H locs ls hR hF hK_N4 hP hD hS hl
    refine a_ic F (1 : Int32) dX9_readCond_64 (by decide) ?_
    exact a_retz F hr hlocks hP hD hS dX9_readCond_65 (Or.inr rfl) ⟨hR, hF, (by decide)⟩
  have L12 : ∀ (n12 : Nat) (x2 : Int32) (u : ac_U) (H : Heap) (locs : List Loc) (ls : Array Slot), ac_R rg u → ac_Fr [(1, some 4), (1, some 5), (1, some 6), (1, some 8), (1, some 9), (1, some 10), (1, some 11), (47, some 3), (47, some 4), (48, none), (49, none), (50, none)] u0 u → 20 - x2.toInt < (n12 : Int) → nmI 11 12 u → (0 : Int) ≤ x2.toInt ∧ x2.toInt ≤ 20 → va_P (dC, dI) vwCl (ac_w ad cA (TT nF) u) H → va_D A (ac_w ad cA (TT nF) u) → va_S A s.heap H locs → lv_has ls 3 [(0, .ref (ad 51)), (1, .int p0), (2, .int x2)] → W p l e (ac_rm 24) s m [.ref (ad 51), .int p0].toArray below meth c H locs 0 0 (MQ below (va_Qi (fun (r : Int32) (u : ac_U) => ac_R rg u ∧ ac_Fr [(1, some 4), (1, some 5), (1, some 6), (1, some 8), (1, some 9), (1, some 10), (1, some 11), (47, some 3), (47, some 4), (48, none), (49, none), (50, none)] u0 u ∧ ((0 : Int) ≤ r.toInt ∧ r.toInt ≤ 1)) (ac_B (dC, dI) vwCl (ac_ty cA) ad cA (TT nF) A) A) [.ref (ad 51), .int p0].toArray s 0 0 A) (F0 m 12 ls []) := by
    intro n12
    induction n12 with
    | zero => intro x2 u H locs ls hR hF hn12 hK_N4 f0 hP hD hS hl; exfalso; omega
    | succ n12 ih12 =>
      intro x2 u H locs ls hR hF hn12 hK_N4 f0 hP hD hS hl
      refine lv_iload_n F.1 F.2.1 dX9_readCond_12 rfl (lv_at hl 2 rfl) ?_
      refine a_bp F (20 : Int32) dX9_readCond_13 (by decide) ?_
      refine b_ge F 64 dX9_readCond_15 (by decide) rfl ic_20 (fun c1 => ?_) (fun c1 => ?_)
      · exact L64 _ _ _ _ hR hF hK_N4 hP hD hS (lv_sub hl [] rfl)
      · refine lv_aload_n F.1 F.2.1 dX9_readCond_18 rfl (lv_at hl 0 rfl) ?_
        refine a_getr F inX9 hP 51 0 tc_51 rfl rfl (by decide) q465 (fun _ h9 => h9) dX9_readCond_19 ?_
        have g2 : (-128 : Int) ≤ (u.1 1 6).toInt ∧ (u.1 1 6).toInt ≤ 127 := hR 1 6
        refine a_geti F inX10 hP 1 6 tc_1 rfl rfl (by decide) q103 (fun _ h9 => h9) (v := (u.1 1 6)) rfl dX9_readCond_22 ?_
        refine a_bp F (114 : Int32) dX9_readCond_25 (by decide) ?_
        refine b_ne F 64 dX9_readCond_27 (by decide) rfl ic_114 (fun c3 => ?_) (fun c3 => ?_)
        · exact L64 _ _ _ _ hR hF hK_N4 hP hD hS (lv_sub hl [] rfl)
        · refine lv_aload_n F.1 F.2.1 dX9_readCond_30 rfl (lv_at hl 0 rfl) ?_
          refine a_getr F inX9 hP 51 0 tc_51 rfl rfl (by decide) q465 (fun _ h9 => h9) dX9_readCond_31 ?_
          refine a_Vv F hml hl.1 hA hP hD hS (As := []) (c_X10_readNext_1 l dC dI ad cA nF _  hR) (cs_RX9_45 (d := 3) F.2.2.1 (by decide)) tc_1 rfl rfl rfl rfl (Nat.le_of_ble_eq_true rfl) dX9_readCond_34 ⟨Nat.le_refl 0, Nat.le_refl 0⟩ (fun u4 H locs hq hP hD hS => ?_)
          obtain ⟨hR, hF4⟩ := hq
          have hF := hF.tr hF4 (by decide)
          have hK_N4 := sp_fr sp_N4 hF4 (by decide) hK_N4
          refine lv_aload_n F.1 F.2.1 dX9_readCond_37 rfl (lv_at hl 0 rfl) ?_
          refine lv_iload_n F.1 F.2.1 dX9_readCond_38 rfl (lv_at hl 1 rfl) ?_
          refine a_Vi F hml hl.1 hA hP hD hS (As := [.int p0]) (c_X9_readBoth_51_d4 l dC dI ad cA nF _ p0 hR (by omega) hK_N4) (cs_RX9_42 (d := 23) F.2.2.1 (by decide)) tc_51 rfl rfl rfl rfl (Nat.le_of_ble_eq_true rfl) dX9_readCond_39 ⟨Nat.le_refl 0, Nat.le_refl 0⟩ (fun r5 u5 H locs hq hP hD hS => ?_)
          obtain ⟨hR, hF5, gr5⟩ := hq
          have hF := hF.tr hF5 (by decide)
          have hK_N4 := sp_fr sp_N4 hF5 (by decide) hK_N4
          refine z_ne F 47 dX9_readCond_42 (by decide) rfl (fun c6 => ?_) (fun c6 => ?_)
          · refine lv_aload_n F.1 F.2.1 dX9_readCond_47 rfl (lv_at hl 0 rfl) ?_
            refine a_getr F inX9 hP 51 2 tc_51 rfl rfl (by decide) q467 (fun _ h9 => h9) dX9_readCond_48 ?_
            refine a_bp F (114 : Int32) dX9_readCond_51 (by decide) ?_
            refine a_ic F (0 : Int32) dX9_readCond_53 (by decide) ?_
            refine a_ic F (0 : Int32) dX9_readCond_54 (by decide) ?_
            refine a_Vv F hml hl.1 hA hP hD hS (As := [.int (114 : Int32), .int (0 : Int32), .int (0 : Int32)]) (c_X8_add_47 l dC dI ad cA nF _ (114 : Int32) (0 : Int32) (0 : Int32) hR (by decide) (by decide)) (cs_RX9_48 (d := 1) F.2.2.1 (by decide)) tc_47 rfl rfl rfl rfl (Nat.le_of_ble_eq_true rfl) dX9_readCond_55 ⟨Nat.le_refl 0, Nat.le_refl 0⟩ (fun u7 H locs hq hP hD hS => ?_)
            obtain ⟨hR, hF7⟩ := hq
            have hF := hF.tr hF7 (by decide)
            have hK_N4 := sp_fr sp_N4 hF7 (by decide) hK_N4
            refine a_iinc F (k := 2) (fun v8 => [(2, .int v8), (0, .ref (ad 51)), (1, .int p0)]) dX9_readCond_58 hl rfl rfl (by decide) (by omega) (by decide) (fun _ => rfl) (fun v8 ls hv8 hl => ?_)
            refine lv_goto (tgt := 12) F.1 F.2.1 dX9_readCond_61 (by decide) ?_
            exact ih12 v8 _ _ _ _ hR hF (by omega) hK_N4 (by omega) hP hD hS (lv_sub hl [1, 2, 0] rfl)
          · refine a_ic F (0 : Int32) dX9_readCond_45 (by decide) ?_
            exact a_retz F hr hlocks hP hD hS dX9_readCond_46 (Or.inl rfl) ⟨hR, hF, (by decide)⟩
  refine lv_aload_n F.1 F.2.1 dX9_readCond_0 rfl (lv_at hl 0 rfl) ?_
  refine lv_iload_n F.1 F.2.1 dX9_readCond_1 rfl (lv_at hl 1 rfl) ?_
  refine a_Vi F hml hl.1 hA hP hD hS (As := [.int p0]) (c_X9_readBoth_51_d4 l dC dI ad cA nF _ p0 hR (by omega) hK_N4) (cs_RX9_42 (d := 23) F.2.2.1 (by decide)) tc_51 rfl rfl rfl rfl (Nat.le_of_ble_eq_true rfl) dX9_readCond_2 ⟨Nat.le_refl 0, Nat.le_refl 0⟩ (fun r9 u9 H locs hq hP hD hS => ?_)
  obtain ⟨hR, hF9, gr9⟩ := hq
  have hF := hF.tr hF9 (by decide)
  have hK_N4 := sp_fr sp_N4 hF9 (by decide) hK_N4
  refine z_ne F 10 dX9_readCond_5 (by decide) rfl (fun c10 => ?_) (fun c10 => ?_)
  · refine a_ic F (0 : Int32) dX9_readCond_10 (by decide) ?_
    refine lv_istore_n (lv' := [(2, .int (0 : Int32)), (0, .ref (ad 51)), (1, .int p0)]) F.1 F.2.1 dX9_readCond_11 rfl hl (by decide) rfl (fun ls hl => ?_)
    exact L12 22 (0 : Int32) _ _ _ _ hR hF (by decide) hK_N4 (by decide) hP hD hS (lv_sub hl [1, 2, 0] rfl)
  · refine a_ic F (0 : Int32) dX9_readCond_8 (by decide) ?_
    exact a_retz F hr hlocks hP hD hS dX9_readCond_9 (Or.inl rfl) ⟨hR, hF, (by decide)⟩
set_option maxHeartbeats 600000 in
set_option maxRecDepth 100000 in
theorem c_X9_readBracket_51_d3 (l : Launch) (dC : Nat → ClassId) (dI : Nat → Nat → Nat) (ad : Nat → Nat) (cA : Nat → ClassId) (nF : Nat) (u0 : ac_U) (p0 : Int32) (hR : ac_R rg u0) (hp0 : (3 : Int) ≤ p0.toInt ∧ p0.toInt ≤ 3) (hK_N4 : nmI 11 12 u0) : ac_Mi l yX9_readBracket (.code yX9_readBracket cX9_readBracket 2 (some .boolean) :: TB) 25 (dC, dI) vwCl (ac_ty cA) ad cA (TT nF) [.ref (ad 51), .int p0] u0 (fun (r : Int32) (u : ac_U) => ac_R rg u ∧ ac_Fr [(1, some 4), (1, some 5), (1, some 6), (1, some 8), (1, some 9), (1, some 10), (1, some 11), (47, some 3), (47, some 4), (48, none), (49, none), (50, none)] u0 u ∧ ((0 : Int) ≤ r.toInt ∧ r.toInt ≤ 1)) := by
  refine ac_Mi.of (cc := cX9_readBracket) (maxL := 2) (ret := (some .boolean)) (by decide) rfl (Nat.le_of_ble_eq_true rfl) ?_
  intro p e s m below meth c A ls F hml hr hlocks hA hP hD hS hl
  have F : ac_X p s m [.ref (ad 51), .int p0].toArray c cX9_readBracket RX9 TB (dC, dI) vwCl (ac_ty cA) := ⟨F.1, F.2.1, fun w h => F.2.2.1 w (List.mem_cons_of_mem _ h), F.2.2.2.1, F.2.2.2.2⟩
  have hl : lv_has ls 2 [(0, .ref (ad 51)), (1, .int p0)] := hl
  have hF : ac_Fr [(1, some 4), (1, some 5), (1, some 6), (1, some 8), (1, some 9), (1, some 10), (1, some 11), (47, some 3), (47, some 4), (48, none), (49, none), (50, none)] u0 u0 := ac_Fr.rf
  refine lv_aload_n F.1 F.2.1 dX9_readBracket_0 rfl (lv_at hl 0 rfl) ?_
  refine a_getr F inX9 hP 51 0 tc_51 rfl rfl (by decide) q465 (fun _ h9 => h9) dX9_readBracket_1 ?_
  refine a_Vv F hml hl.1 hA hP hD hS (As := []) (c_X10_readNext_1 l dC dI ad cA nF _  hR) (cs_RX9_45 (d := 3) F.2.2.1 (by decide)) tc_1 rfl rfl rfl rfl (Nat.le_of_ble_eq_true rfl) dX9_readBracket_4 ⟨Nat.le_refl 0, Nat.le_refl 0⟩ (fun u1 H locs hq hP hD hS => ?_)
  obtain ⟨hR, hF1⟩ := hq
  have hF := hF.tr hF1 (by decide)
  have hK_N4 := sp_fr sp_N4 hF1 (by decide) hK_N4
  refine lv_aload_n F.1 F.2.1 dX9_readBracket_7 rfl (lv_at hl 0 rfl) ?_
  refine lv_iload_n F.1 F.2.1 dX9_readBracket_8 rfl (lv_at hl 1 rfl) ?_
  refine a_ic F (1 : Int32) dX9_readBracket_9 (by decide) ?_
  refine a_iadd F dX9_readBracket_10 rfl ic_1 (by omega) (fun v2 hv2 => ?_)
  refine a_Vi F hml hl.1 hA hP hD hS (As := [.int v2]) (c_X9_readCond_51_d4 l dC dI ad cA nF _ v2 hR (by omega) hK_N4) (cs_RX9_74 (d := 24) F.2.2.1 (by decide)) tc_51 rfl rfl rfl rfl (Nat.le_of_ble_eq_true rfl) dX9_readBracket_11 ⟨Nat.le_refl 0, Nat.le_refl 0⟩ (fun r3 u3 H locs hq hP hD hS => ?_)
  obtain ⟨hR, hF3, gr3⟩ := hq
  have hF := hF.tr hF3 (by decide)
  have hK_N4 := sp_fr sp_N4 hF3 (by decide) hK_N4
  refine z_ne F 19 dX9_readBracket_14 (by decide) rfl (fun c4 => ?_) (fun c4 => ?_)
  · refine lv_aload_n F.1 F.2.1 dX9_readBracket_19 rfl (lv_at hl 0 rfl) ?_
    refine a_getr F inX9 hP 51 0 tc_51 rfl rfl (by decide) q465 (fun _ h9 => h9) dX9_readBracket_20 ?_
    have g5 : (-128 : Int) ≤ (u3.1 1 6).toInt ∧ (u3.1 1 6).toInt ≤ 127 := hR 1 6
    refine a_geti F inX10 hP 1 6 tc_1 rfl rfl (by decide) q103 (fun _ h9 => h9) (v := (u3.1 1 6)) rfl dX9_readBracket_23 ?_
    refine a_bp F (41 : Int32) dX9_readBracket_26 (by decide) ?_
    refine b_eq F 40 dX9_readBracket_28 (by decide) rfl ic_41 (fun c6 => ?_) (fun c6 => ?_)
    · refine lv_aload_n F.1 F.2.1 dX9_readBracket_40 rfl (lv_at hl 0 rfl) ?_
      refine a_getr F inX9 hP 51 0 tc_51 rfl rfl (by decide) q465 (fun _ h9 => h9) dX9_readBracket_41 ?_
      refine a_Vv F hml hl.1 hA hP hD hS (As := []) (c_X10_readNext_1 l dC dI ad cA nF _  hR) (cs_RX9_45 (d := 3) F.2.2.1 (by decide)) tc_1 rfl rfl rfl rfl (Nat.le_of_ble_eq_true rfl) dX9_readBracket_44 ⟨Nat.le_refl 0, Nat.le_refl 0⟩ (fun u7 H locs hq hP hD hS => ?_)
      obtain ⟨hR, hF7⟩ := hq
      have hF := hF.tr hF7 (by decide)
      have hK_N4 := sp_fr sp_N4 hF7 (by decide) hK_N4
      refine a_ic F (1 : Int32) dX9_readBracket_47 (by decide) ?_
      exact a_retz F hr hlocks hP hD hS dX9_readBracket_48 (Or.inr rfl) ⟨hR, hF, (by decide)⟩
    · refine lv_aload_n F.1 F.2.1 dX9_readBracket_31 rfl (lv_at hl 0 rfl) ?_
      refine a_getr F inX9 hP 51 0 tc_51 rfl rfl (by decide) q465 (fun _ h9 => h9) dX9_readBracket_32 ?_
      refine a_ic F (1 : Int32) dX9_readBracket_35 (by decide) ?_
      refine a_Vi F hml hl.1 hA hP hD hS (As := [.int (1 : Int32)]) (c_X10_fail_1 l dC dI ad cA nF _ (1 : Int32) hR (by decide)) (cs_RX9_38 (d := 1) F.2.2.1 (by decide)) tc_1 rfl rfl rfl rfl (Nat.le_of_ble_eq_true rfl) dX9_readBracket_36 ⟨Nat.le_refl 0, Nat.le_refl 0⟩ (fun r8 u8 H locs hq hP hD hS => ?_)
      obtain ⟨hR, hF8, gr8⟩ := hq
      have hF := hF.tr hF8 (by decide)
      have hK_N4 := sp_fr sp_N4 hF8 (by decide) hK_N4
      exact a_retz F hr hlocks hP hD hS dX9_readBracket_39 (i_01 (by omega)) ⟨hR, hF, (by omega : (0 : Int) ≤ r8.toInt ∧ r8.toInt ≤ 1)⟩
  · refine a_ic F (0 : Int32) dX9_readBracket_17 (by decide) ?_
    exact a_retz F hr hlocks hP hD hS dX9_readBracket_18 (Or.inl rfl) ⟨hR, hF, (by decide)⟩
set_option maxHeartbeats 600000 in
set_option maxRecDepth 100000 in
theorem c_X9_readNot_51_d3 (l : Launch) (dC : Nat → ClassId) (dI : Nat → Nat → Nat) (ad : Nat → Nat) (cA : Nat → ClassId) (nF : Nat) (u0 : ac_U) (p0 : Int32) (hR : ac_R rg u0) (hp0 : (3 : Int) ≤ p0.toInt ∧ p0.toInt ≤ 3) (hK_N4 : nmI 11 12 u0) : ac_Mi l yX9_readNot (.code yX9_readNot cX9_readNot 2 (some .boolean) :: TB) 23 (dC, dI) vwCl (ac_ty cA) ad cA (TT nF) [.ref (ad 51), .int p0] u0 (fun (r : Int32) (u : ac_U) => ac_R rg u ∧ ac_Fr [(1, some 4), (1, some 5), (1, some 6), (1, some 8), (1, some 9), (1, some 10), (1, some 11), (47, some 3), (47, some 4), (48, none), (49, none), (50, none)] u0 u ∧ ((0 : Int) ≤ r.toInt ∧ r.toInt ≤ 1)) := by
  refine ac_Mi.of (cc := cX9_readNot) (maxL := 2) (ret := (some .boolean)) (by decide) rfl (Nat.le_of_ble_eq_true rfl) ?_
  intro p e s m below meth c A ls F hml hr hlocks hA hP hD hS hl
  have F : ac_X p s m [.ref (ad 51), .int p0].toArray c cX9_readNot RX9 TB (dC, dI) vwCl (ac_ty cA) := ⟨F.1, F.2.1, fun w h => F.2.2.1 w (List.mem_cons_of_mem _ h), F.2.2.2.1, F.2.2.2.2⟩
  have hl : lv_has ls 2 [(0, .ref (ad 51)), (1, .int p0)] := hl
  have hF : ac_Fr [(1, some 4), (1, some 5), (1, some 6), (1, some 8), (1, some 9), (1, some 10), (1, some 11), (47, some 3), (47, some 4), (48, none), (49, none), (50, none)] u0 u0 := ac_Fr.rf
  refine lv_aload_n F.1 F.2.1 dX9_readNot_0 rfl (lv_at hl 0 rfl) ?_
  refine a_getr F inX9 hP 51 0 tc_51 rfl rfl (by decide) q465 (fun _ h9 => h9) dX9_readNot_1 ?_
  refine a_Vv F hml hl.1 hA hP hD hS (As := []) (c_X10_readNext_1 l dC dI ad cA nF _  hR) (cs_RX9_45 (d := 3) F.2.2.1 (by decide)) tc_1 rfl rfl rfl rfl (Nat.le_of_ble_eq_true rfl) dX9_readNot_4 ⟨Nat.le_refl 0, Nat.le_refl 0⟩ (fun u1 H locs hq hP hD hS => ?_)
  obtain ⟨hR, hF1⟩ := hq
  have hF := hF.tr hF1 (by decide)
  have hK_N4 := sp_fr sp_N4 hF1 (by decide) hK_N4
  refine lv_aload_n F.1 F.2.1 dX9_readNot_7 rfl (lv_at hl 0 rfl) ?_
  refine lv_iload_n F.1 F.2.1 dX9_readNot_8 rfl (lv_at hl 1 rfl) ?_
  refine a_ic F (1 : Int32) dX9_readNot_9 (by decide) ?_
  refine a_iadd F dX9_readNot_10 rfl ic_1 (by omega) (fun v2 hv2 => ?_)
  refine a_Vi F hml hl.1 hA hP hD hS (As := [.int v2]) (c_X9_readOne_51_d4 l dC dI ad cA nF _ v2 hR (by omega) hK_N4) (cs_RX9_52 (d := 22) F.2.2.1 (by decide)) tc_51 rfl rfl rfl rfl (Nat.le_of_ble_eq_true rfl) dX9_readNot_11 ⟨Nat.le_refl 0, Nat.le_refl 0⟩ (fun r3 u3 H locs hq hP hD hS => ?_)
  obtain ⟨hR, hF3, gr3⟩ := hq
  have hF := hF.tr hF3 (by decide)
  have hK_N4 := sp_fr sp_N4 hF3 (by decide) hK_N4
  refine z_ne F 19 dX9_readNot_14 (by decide) rfl (fun c4 => ?_) (fun c4 => ?_)
  · refine lv_aload_n F.1 F.2.1 dX9_readNot_19 rfl (lv_at hl 0 rfl) ?_
    refine a_getr F inX9 hP 51 2 tc_51 rfl rfl (by decide) q467 (fun _ h9 => h9) dX9_readNot_20 ?_
    refine a_bp F (116 : Int32) dX9_readNot_23 (by decide) ?_
    refine a_ic F (0 : Int32) dX9_readNot_25 (by decide) ?_
    refine a_ic F (0 : Int32) dX9_readNot_26 (by decide) ?_
    refine a_Vv F hml hl.1 hA hP hD hS (As := [.int (116 : Int32), .int (0 : Int32), .int (0 : Int32)]) (c_X8_add_47 l dC dI ad cA nF _ (116 : Int32) (0 : Int32) (0 : Int32) hR (by decide) (by decide)) (cs_RX9_48 (d := 1) F.2.2.1 (by decide)) tc_47 rfl rfl rfl rfl (Nat.le_of_ble_eq_true rfl) dX9_readNot_27 ⟨Nat.le_refl 0, Nat.le_refl 0⟩ (fun u5 H locs hq hP hD hS => ?_)
    obtain ⟨hR, hF5⟩ := hq
    have hF := hF.tr hF5 (by decide)
    have hK_N4 := sp_fr sp_N4 hF5 (by decide) hK_N4
    refine a_ic F (1 : Int32) dX9_readNot_30 (by decide) ?_
    exact a_retz F hr hlocks hP hD hS dX9_readNot_31 (Or.inr rfl) ⟨hR, hF, (by decide)⟩
  · refine a_ic F (0 : Int32) dX9_readNot_17 (by decide) ?_
    exact a_retz F hr hlocks hP hD hS dX9_readNot_18 (Or.inl rfl) ⟨hR, hF, (by decide)⟩
set_option maxHeartbeats 600000 in
set_option maxRecDepth 100000 in
theorem c_X9_readOne_51_d3 (l : Launch) (dC : Nat → ClassId) (dI : Nat → Nat → Nat) (ad : Nat → Nat) (cA : Nat → ClassId) (nF : Nat) (u0 : ac_U) (p0 : Int32) (hR : ac_R rg u0) (hp0 : (3 : Int) ≤ p0.toInt ∧ p0.toInt ≤ 3) (hK_N4 : nmI 11 12 u0) : ac_Mi l yX9_readOne (.code yX9_readOne cX9_readOne 3 (some .boolean) :: TB) 26 (dC, dI) vwCl (ac_ty cA) ad cA (TT nF) [.ref (ad 51), .int p0] u0 (fun (r : Int32) (u : ac_U) => ac_R rg u ∧ ac_Fr [(1, some 4), (1, some 5), (1, some 6), (1, some 8), (1, some 9), (1, some 10), (1, some 11), (47, some 3), (47, some 4), (48, none), (49, none), (50, none)] u0 u ∧ ((0 : Int) ≤ r.toInt ∧ r.toInt ≤ 1)) := by
  refine ac_Mi.of (cc := cX9_readOne) (maxL := 3) (ret := (some .boolean)) (by decide) rfl (Nat.le_of_ble_eq_true rfl) ?_
  intro p e s m below meth c A ls F hml hr hlocks hA hP hD hS hl
  have F : ac_X p s m [.ref (ad 51), .int p0].toArray c cX9_readOne RX9 TB (dC, dI) vwCl (ac_ty cA) := ⟨F.1, F.2.1, fun w h => F.2.2.1 w (List.mem_cons_of_mem _ h), F.2.2.2.1, F.2.2.2.2⟩
  have hl : lv_has ls 3 [(0, .ref (ad 51)), (1, .int p0)] := hl
  have hF : ac_Fr [(1, some 4), (1, some 5), (1, some 6), (1, some 8), (1, some 9), (1, some 10), (1, some 11), (47, some 3), (47, some 4), (48, none), (49, none), (50, none)] u0 u0 := ac_Fr.rf
  have L53 : ∀ (u : ac_U) (H : Heap) (locs : List Loc) (ls : Array Slot), ac_R rg u → ac_Fr [(1, some 4), (1, some 5), (1, some 6), (1, some 8), (1, some 9), (1, some 10), (1, some 11), (47, some 3), (47, some 4), (48, none), (49, none), (50, none)] u0 u → nmI 11 12 u → (40 : Int) ≤ (u.1 1 6).toInt ∧ (u.1 1 6).toInt ≤ 126 → (20 : Int) ≤ (u.1 47 4).toInt ∧ (u.1 47 4).toInt ≤ 20 → va_P (dC, dI) vwCl (ac_w ad cA (TT nF) u) H → va_D A (ac_w ad cA (TT nF) u) → va_S A s.heap H locs → lv_has ls 3 [(0, .ref (ad 51))] → W p l e (ac_rm 26) s m [.ref (ad 51), .int p0].toArray below meth c H locs 0 0 (MQ below (va_Qi (fun (r : Int32) (u : ac_U) => ac_R rg u ∧ ac_Fr [(1, some 4), (1, some 5), (1, some 6), (1, some 8), (1, some 9), (1, some 10), (1, some 11), (47, some 3), (47, some 4), (48, none), (49, none), (50, none)] u0 u ∧ ((0 : Int) ≤ r.toInt ∧ r.toInt ≤ 1)) (ac_B (dC, dI) vwCl (ac_ty cA) ad cA (TT nF) A) A) [.ref (ad 51), .int p0].toArray s 0 0 A) (F0 m 53 ls []) := by
    intro u H locs ls hR hF hK_N4 f0 f1 hP hD hS hl
    refine lv_aload_n F.1 F.2.1 dX9_readOne_53 rfl (lv_at hl 0 rfl) ?_
    refine a_getr F inX9 hP 51 0 tc_51 rfl rfl (by decide) q465 (fun _ h9 => h9) dX9_readOne_54 ?_
    refine a_ic F (4 : Int32) dX9_readOne_57 (by decide) ?_
    refine a_Vi F hml hl.1 hA hP hD hS (As := [.int (4 : Int32)]) (c_X10_fail_1 l dC dI ad cA nF _ (4 : Int32) hR (by decide)) (cs_RX9_38 (d := 1) F.2.2.1 (by decide)) tc_1 rfl rfl rfl rfl (Nat.le_of_ble_eq_true rfl) dX9_readOne_58 ⟨Nat.le_refl 0, Nat.le_refl 0⟩ (fun r1 u1 H locs hq hP hD hS => ?_)
    obtain ⟨hR, hF1, gr1⟩ := hq
    have hF := hF.tr hF1 (by decide)
    have hK_N4 := sp_fr sp_N4 hF1 (by decide) hK_N4
    exact a_retz F hr hlocks hP hD hS dX9_readOne_61 (i_01 (by omega)) ⟨hR, hF, (by omega : (0 : Int) ≤ r1.toInt ∧ r1.toInt ≤ 1)⟩
  have L35 : ∀ (x2 : Int32) (u : ac_U) (H : Heap) (locs : List Loc) (ls : Array Slot), ac_R rg u → ac_Fr [(1, some 4), (1, some 5), (1, some 6), (1, some 8), (1, some 9), (1, some 10), (1, some 11), (47, some 3), (47, some 4), (48, none), (49, none), (50, none)] u0 u → nmI 11 12 u → (40 : Int) ≤ x2.toInt ∧ x2.toInt ≤ 126 → (40 : Int) ≤ (u.1 1 6).toInt ∧ (u.1 1 6).toInt ≤ 126 → va_P (dC, dI) vwCl (ac_w ad cA (TT nF) u) H → va_D A (ac_w ad cA (TT nF) u) → va_S A s.heap H locs → lv_has ls 3 [(0, .ref (ad 51)), (1, .int p0), (2, .int x2)] → W p l e (ac_rm 26) s m [.ref (ad 51), .int p0].toArray below meth c H locs 0 0 (MQ below (va_Qi (fun (r : Int32) (u : ac_U) => ac_R rg u ∧ ac_Fr [(1, some 4), (1, some 5), (1, some 6), (1, some 8), (1, some 9), (1, some 10), (1, some 11), (47, some 3), (47, some 4), (48, none), (49, none), (50, none)] u0 u ∧ ((0 : Int) ≤ r.toInt ∧ r.toInt ≤ 1)) (ac_B (dC, dI) vwCl (ac_ty cA) ad cA (TT nF) A) A) [.ref (ad 51), .int p0].toArray s 0 0 A) (F0 m 35 ls []) := by
    intro x2 u H locs ls hR hF hK_N4 f0 f1 hP hD hS hl
    refine lv_aload_n F.1 F.2.1 dX9_readOne_35 rfl (lv_at hl 0 rfl) ?_
    refine a_getr F inX9 hP 51 2 tc_51 rfl rfl (by decide) q467 (fun _ h9 => h9) dX9_readOne_36 ?_
    have g2 : (0 : Int) ≤ (u.1 47 4).toInt ∧ (u.1 47 4).toInt ≤ 20 := hR 47 4
    refine a_geti F inX8 hP 47 4 tc_47 rfl rfl (by decide) q446 (fun _ h9 => h9) (v := (u.1 47 4)) rfl dX9_readOne_39 ?_
    refine a_bp F (20 : Int32) dX9_readOne_42 (by decide) ?_
    refine b_ge F 53 dX9_readOne_44 (by decide) rfl ic_20 (fun c3 => ?_) (fun c3 => ?_)
    · have g4 : (-128 : Int) ≤ (u.1 1 6).toInt ∧ (u.1 1 6).toInt ≤ 127 := hR 1 6
      exact L53 _ _ _ _ hR hF hK_N4 (by omega : (40 : Int) ≤ (u.1 1 6).toInt ∧ (u.1 1 6).toInt ≤ 126) (by omega : (20 : Int) ≤ (u.1 47 4).toInt ∧ (u.1 47 4).toInt ≤ 20) hP hD hS (lv_sub hl [0] rfl)
    · refine lv_iload_n F.1 F.2.1 dX9_readOne_47 rfl (lv_at hl 1 rfl) ?_
      refine a_bp F (8 : Int32) dX9_readOne_48 (by decide) ?_
      refine b_le F 62 dX9_readOne_50 (by decide) rfl ic_8 (fun c5 => ?_) (fun c5 => ?_)
      · refine lv_aload_n F.1 F.2.1 dX9_readOne_62 rfl (lv_at hl 0 rfl) ?_
        refine a_getr F inX9 hP 51 2 tc_51 rfl rfl (by decide) q467 (fun _ h9 => h9) dX9_readOne_63 ?_
        refine lv_dup F.1 F.2.1 dX9_readOne_66 rfl ?_
        refine a_geti F inX8 hP 47 4 tc_47 rfl rfl (by decide) q446 (fun _ h9 => h9) (v := (u.1 47 4)) (rfl) dX9_readOne_67 ?_
        refine a_ic F (1 : Int32) dX9_readOne_70 (by decide) ?_
        refine a_iadd F dX9_readOne_71 rfl ic_1 (by omega) (fun v6 hv6 => ?_)
        refine a_puti F inX8 tyX8 tyX8_ok nmX8 hP hD hS 47 4 tc_47 rfl rfl (by decide) q446 (fun _ h9 => h9) rfl (ty := .int) (tyX8_ok 4 (by decide)) rfl rfl dX9_readOne_72 (fun H locs hP hD hS => ?_)
        have hR := hR.si (c := 47) (k := 4) (v := v6) (by omega : (0 : Int) ≤ v6.toInt ∧ v6.toInt ≤ 20)
        have hF := hF.si (c := 47) (k := 4) (v := v6) rfl
        have hK_N4 := sp_sgD sp_N4 hD hK_N4 (by decide)
        refine lv_iload_n F.1 F.2.1 dX9_readOne_75 rfl (lv_at hl 2 rfl) ?_
        refine a_bp F (40 : Int32) dX9_readOne_76 (by decide) ?_
        refine b_ne F 87 dX9_readOne_78 (by decide) rfl ic_40 (fun c7 => ?_) (fun c7 => ?_)
        · refine lv_iload_n F.1 F.2.1 dX9_readOne_87 rfl (lv_at hl 2 rfl) ?_
          refine a_bp F (116 : Int32) dX9_readOne_88 (by decide) ?_
          refine b_ne F 99 dX9_readOne_90 (by decide) rfl ic_116 (fun c8 => ?_) (fun c8 => ?_)
          · refine lv_iload_n F.1 F.2.1 dX9_readOne_99 rfl (lv_at hl 2 rfl) ?_
            refine a_bp F (122 : Int32) dX9_readOne_100 (by decide) ?_
            refine b_ne F 110 dX9_readOne_102 (by decide) rfl ic_122 (fun c9 => ?_) (fun c9 => ?_)
            · refine lv_iload_n F.1 F.2.1 dX9_readOne_110 rfl (lv_at hl 2 rfl) ?_
              refine a_bp F (122 : Int32) dX9_readOne_111 (by decide) ?_
              refine b_le F 124 dX9_readOne_113 (by decide) rfl ic_122 (fun c10 => ?_) (fun c10 => ?_)
              · refine lv_aload_n F.1 F.2.1 dX9_readOne_124 rfl (lv_at hl 0 rfl) ?_
                refine lv_iload_n F.1 F.2.1 dX9_readOne_125 rfl (lv_at hl 2 rfl) ?_
                refine a_Vi F hml hl.1 hA hP hD hS (As := [.int x2]) (c_X9_readStatus_51 l dC dI ad cA nF _ x2 hR (by omega)) (cs_RX9_71 (d := 4) F.2.2.1 (by decide)) tc_51 rfl rfl rfl rfl (Nat.le_of_ble_eq_true rfl) dX9_readOne_126 ⟨Nat.le_refl 0, Nat.le_refl 0⟩ (fun r11 u11 H locs hq hP hD hS => ?_)
                obtain ⟨hR, hF11, gr11⟩ := hq
                have hF := hF.tr hF11 (by decide)
                have hK_N4 := sp_fr sp_N4 hF11 (by decide) hK_N4
                exact a_retz F hr hlocks hP hD hS dX9_readOne_129 (i_01 (by omega)) ⟨hR, hF, (by omega : (0 : Int) ≤ r11.toInt ∧ r11.toInt ≤ 1)⟩
              · refine lv_aload_n F.1 F.2.1 dX9_readOne_116 rfl (lv_at hl 0 rfl) ?_
                refine lv_iload_n F.1 F.2.1 dX9_readOne_117 rfl (lv_at hl 2 rfl) ?_
                refine a_Vi F hml hl.1 hA hP hD hS (As := [.int x2]) (c_X9_readCompare_51 l dC dI ad cA nF _ x2 hR (by omega)) (cs_RX9_68 (d := 4) F.2.2.1 (by decide)) tc_51 rfl rfl rfl rfl (Nat.le_of_ble_eq_true rfl) dX9_readOne_118 ⟨Nat.le_refl 0, Nat.le_refl 0⟩ (fun r12 u12 H locs hq hP hD hS => ?_)
                obtain ⟨hR, hF12, gr12⟩ := hq
                have hF := hF.tr hF12 (by decide)
                have hK_N4 := sp_fr sp_N4 hF12 (by decide) hK_N4
                refine lv_goto (tgt := 129) F.1 F.2.1 dX9_readOne_121 (by decide) ?_
                exact a_retz F hr hlocks hP hD hS dX9_readOne_129 (i_01 (by omega)) ⟨hR, hF, (by omega : (0 : Int) ≤ r12.toInt ∧ r12.toInt ≤ 1)⟩
            · refine lv_aload_n F.1 F.2.1 dX9_readOne_105 rfl (lv_at hl 0 rfl) ?_
              refine a_Vi F hml hl.1 hA hP hD hS (As := []) (c_X9_readOf_51 l dC dI ad cA nF _  hR hK_N4) (cs_RX9_64 (d := 4) F.2.2.1 (by decide)) tc_51 rfl rfl rfl rfl (Nat.le_of_ble_eq_true rfl) dX9_readOne_106 ⟨Nat.le_refl 0, Nat.le_refl 0⟩ (fun r13 u13 H locs hq hP hD hS => ?_)
              obtain ⟨hR, hF13, gr13⟩ := hq
              have hF := hF.tr hF13 (by decide)
              have hK_N4 := sp_fr sp_N4 hF13 (by decide) hK_N4
              exact a_retz F hr hlocks hP hD hS dX9_readOne_109 (i_01 (by omega)) ⟨hR, hF, (by omega : (0 : Int) ≤ r13.toInt ∧ r13.toInt ≤ 1)⟩
          · refine lv_aload_n F.1 F.2.1 dX9_readOne_93 rfl (lv_at hl 0 rfl) ?_
            refine lv_iload_n F.1 F.2.1 dX9_readOne_94 rfl (lv_at hl 1 rfl) ?_
            refine a_Vi F hml hl.1 hA hP hD hS (As := [.int p0]) (c_X9_readNot_51_d3 l dC dI ad cA nF _ p0 hR (by omega) hK_N4) (cs_RX9_61 (d := 23) F.2.2.1 (by decide)) tc_51 rfl rfl rfl rfl (Nat.le_of_ble_eq_true rfl) dX9_readOne_95 ⟨Nat.le_refl 0, Nat.le_refl 0⟩ (fun r14 u14 H locs hq hP hD hS => ?_)
            obtain ⟨hR, hF14, gr14⟩ := hq
            have hF := hF.tr hF14 (by decide)
            have hK_N4 := sp_fr sp_N4 hF14 (by decide) hK_N4
            exact a_retz F hr hlocks hP hD hS dX9_readOne_98 (i_01 (by omega)) ⟨hR, hF, (by omega : (0 : Int) ≤ r14.toInt ∧ r14.toInt ≤ 1)⟩
        · refine lv_aload_n F.1 F.2.1 dX9_readOne_81 rfl (lv_at hl 0 rfl) ?_
          refine lv_iload_n F.1 F.2.1 dX9_readOne_82 rfl (lv_at hl 1 rfl) ?_
          refine a_Vi F hml hl.1 hA hP hD hS (As := [.int p0]) (c_X9_readBracket_51_d3 l dC dI ad cA nF _ p0 hR (by omega) hK_N4) (cs_RX9_58 (d := 25) F.2.2.1 (by decide)) tc_51 rfl rfl rfl rfl (Nat.le_of_ble_eq_true rfl) dX9_readOne_83 ⟨Nat.le_refl 0, Nat.le_refl 0⟩ (fun r15 u15 H locs hq hP hD hS => ?_)
          obtain ⟨hR, hF15, gr15⟩ := hq
          have hF := hF.tr hF15 (by decide)
          have hK_N4 := sp_fr sp_N4 hF15 (by decide) hK_N4
          exact a_retz F hr hlocks hP hD hS dX9_readOne_86 (i_01 (by omega)) ⟨hR, hF, (by omega : (0 : Int) ≤ r15.toInt ∧ r15.toInt ≤ 1)⟩
      · exfalso; omega
  have L26 : ∀ (u : ac_U) (H : Heap) (locs : List Loc) (ls : Array Slot), ac_R rg u → ac_Fr [(1, some 4), (1, some 5), (1, some 6), (1, some 8), (1, some 9), (1, some 10), (1, some 11), (47, some 3), (47, some 4), (48, none), (49, none), (50, none)] u0 u → nmI 11 12 u → (-128 : Int) ≤ (u.1 1 6).toInt ∧ (u.1 1 6).toInt ≤ 127 → va_P (dC, dI) vwCl (ac_w ad cA (TT nF) u) H → va_D A (ac_w ad cA (TT nF) u) → va_S A s.heap H locs → lv_has ls 3 [(0, .ref (ad 51))] → W p l e (ac_rm 26) s m [.ref (ad 51), .int p0].toArray below meth c H locs 0 0 (MQ below (va_Qi (fun (r : Int32) (u : ac_U) => ac_R rg u ∧ ac_Fr [(1, some 4), (1, some 5), (1, some 6), (1, some 8), (1, some 9), (1, some 10), (1, some 11), (47, some 3), (47, some 4), (48, none), (49, none), (50, none)] u0 u ∧ ((0 : Int) ≤ r.toInt ∧ r.toInt ≤ 1)) (ac_B (dC, dI) vwCl (ac_ty cA) ad cA (TT nF) A) A) [.ref (ad 51), .int p0].toArray s 0 0 A) (F0 m 26 ls []) := by
    intro u H locs ls hR hF hK_N4 f0 hP hD hS hl
    refine lv_aload_n F.1 F.2.1 dX9_readOne_26 rfl (lv_at hl 0 rfl) ?_
    refine a_getr F inX9 hP 51 0 tc_51 rfl rfl (by decide) q465 (fun _ h9 => h9) dX9_readOne_27 ?_
    refine a_ic F (1 : Int32) dX9_readOne_30 (by decide) ?_
    refine a_Vi F hml hl.1 hA hP hD hS (As := [.int (1 : Int32)]) (c_X10_fail_1 l dC dI ad cA nF _ (1 : Int32) hR (by decide)) (cs_RX9_38 (d := 1) F.2.2.1 (by decide)) tc_1 rfl rfl rfl rfl (Nat.le_of_ble_eq_true rfl) dX9_readOne_31 ⟨Nat.le_refl 0, Nat.le_refl 0⟩ (fun r16 u16 H locs hq hP hD hS => ?_)
    obtain ⟨hR, hF16, gr16⟩ := hq
    have hF := hF.tr hF16 (by decide)
    have hK_N4 := sp_fr sp_N4 hF16 (by decide) hK_N4
    exact a_retz F hr hlocks hP hD hS dX9_readOne_34 (i_01 (by omega)) ⟨hR, hF, (by omega : (0 : Int) ≤ r16.toInt ∧ r16.toInt ≤ 1)⟩
  refine lv_aload_n F.1 F.2.1 dX9_readOne_0 rfl (lv_at hl 0 rfl) ?_
  refine a_getr F inX9 hP 51 0 tc_51 rfl rfl (by decide) q465 (fun _ h9 => h9) dX9_readOne_1 ?_
  have g17 : (-128 : Int) ≤ (u0.1 1 6).toInt ∧ (u0.1 1 6).toInt ≤ 127 := hR 1 6
  refine a_geti F inX10 hP 1 6 tc_1 rfl rfl (by decide) q103 (fun _ h9 => h9) (v := (u0.1 1 6)) rfl dX9_readOne_4 ?_
  refine lv_istore_n (lv' := [(2, .int (u0.1 1 6)), (0, .ref (ad 51)), (1, .int p0)]) F.1 F.2.1 dX9_readOne_7 rfl hl (by decide) rfl (fun ls hl => ?_)
  refine lv_iload_n F.1 F.2.1 dX9_readOne_8 rfl (lv_at hl 0 rfl) ?_
  refine a_bp F (40 : Int32) dX9_readOne_9 (by decide) ?_
  refine b_eq F 35 dX9_readOne_11 (by decide) rfl ic_40 (fun c18 => ?_) (fun c18 => ?_)
  · exact L35 (u0.1 1 6) _ _ _ _ hR hF hK_N4 (by omega) (by omega : (40 : Int) ≤ (u0.1 1 6).toInt ∧ (u0.1 1 6).toInt ≤ 126) hP hD hS (lv_sub hl [1, 2, 0] rfl)
  · refine lv_iload_n F.1 F.2.1 dX9_readOne_14 rfl (lv_at hl 0 rfl) ?_
    refine a_bp F (116 : Int32) dX9_readOne_15 (by decide) ?_
    refine b_lt F 26 dX9_readOne_17 (by decide) rfl ic_116 (fun c19 => ?_) (fun c19 => ?_)
    · exact L26 _ _ _ _ hR hF hK_N4 (by omega : (-128 : Int) ≤ (u0.1 1 6).toInt ∧ (u0.1 1 6).toInt ≤ 127) hP hD hS (lv_sub hl [1] rfl)
    · refine lv_iload_n F.1 F.2.1 dX9_readOne_20 rfl (lv_at hl 0 rfl) ?_
      refine a_bp F (126 : Int32) dX9_readOne_21 (by decide) ?_
      refine b_le F 35 dX9_readOne_23 (by decide) rfl ic_126 (fun c20 => ?_) (fun c20 => ?_)
      · exact L35 (u0.1 1 6) _ _ _ _ hR hF hK_N4 (by omega) (by omega : (40 : Int) ≤ (u0.1 1 6).toInt ∧ (u0.1 1 6).toInt ≤ 126) hP hD hS (lv_sub hl [1, 2, 0] rfl)
      · exact L26 _ _ _ _ hR hF hK_N4 (by omega : (-128 : Int) ≤ (u0.1 1 6).toInt ∧ (u0.1 1 6).toInt ≤ 127) hP hD hS (lv_sub hl [1] rfl)
set_option maxHeartbeats 600000 in
set_option maxRecDepth 100000 in
theorem c_X9_readBoth_51_d3 (l : Launch) (dC : Nat → ClassId) (dI : Nat → Nat → Nat) (ad : Nat → Nat) (cA : Nat → ClassId) (nF : Nat) (u0 : ac_U) (p0 : Int32) (hR : ac_R rg u0) (hp0 : (3 : Int) ≤ p0.toInt ∧ p0.toInt ≤ 3) (hK_N4 : nmI 11 12 u0) : ac_Mi l yX9_readBoth (.code yX9_readBoth cX9_readBoth 3 (some .boolean) :: TB) 27 (dC, dI) vwCl (ac_ty cA) ad cA (TT nF) [.ref (ad 51), .int p0] u0 (fun (r : Int32) (u : ac_U) => ac_R rg u ∧ ac_Fr [(1, some 4), (1, some 5), (1, some 6), (1, some 8), (1, some 9), (1, some 10), (1, some 11), (47, some 3), (47, some 4), (48, none), (49, none), (50, none)] u0 u ∧ ((0 : Int) ≤ r.toInt ∧ r.toInt ≤ 1)) := by
  refine ac_Mi.of (cc := cX9_readBoth) (maxL := 3) (ret := (some .boolean)) (by decide) rfl (Nat.le_of_ble_eq_true rfl) ?_
  intro p e s m below meth c A ls F hml hr hlocks hA hP hD hS hl
  have F : ac_X p s m [.ref (ad 51), .int p0].toArray c cX9_readBoth RX9 TB (dC, dI) vwCl (ac_ty cA) := ⟨F.1, F.2.1, fun w h => F.2.2.1 w (List.mem_cons_of_mem _ h), F.2.2.2.1, F.2.2.2.2⟩
  have hl : lv_has ls 3 [(0, .ref (ad 51)), (1, .int p0)] := hl
  have hF : ac_Fr [(1, some 4), (1, some 5), (1, some 6), (1, some 8), (1, some 9), (1, some 10), (1, some 11), (47, some 3), (47, some 4), (48, none), (49, none), (50, none)] u0 u0 := ac_Fr.rf
  have L64 : ∀ (u : ac_U) (H : Heap) (locs : List Loc) (ls : Array Slot), ac_R rg u → ac_Fr [(1, some 4), (1, some 5), (1, some 6), (1, some 8), (1, some 9), (1, some 10), (1, some 11), (47, some 3), (47, some 4), (48, none), (49, none), (50, none)] u0 u → nmI 11 12 u → va_P (dC, dI) vwCl (ac_w ad cA (TT nF) u) H → va_D A (ac_w ad cA (TT nF) u) → va_S A s.heap H locs → lv_has ls 3 [] → W p l e (ac_rm 27) s m [.ref (ad 51), .int p0].toArray below meth c H locs 0 0 (MQ below (va_Qi (fun (r : Int32) (u : ac_U) => ac_R rg u ∧ ac_Fr [(1, some 4), (1, some 5), (1, some 6), (1, some 8), (1, some 9), (1, some 10), (1, some 11), (47, some 3), (47, some 4), (48, none), (49, none), (50, none)] u0 u ∧ ((0 : Int) ≤ r.toInt ∧ r.toInt ≤ 1)) (ac_B (dC, dI) vwCl (ac_ty cA) ad cA (TT nF) A) A) [.ref (ad 51), .int p0].toArray s 0 0 A) (F0 m 64 ls []) := by
    intro u H locs ls hR hF hK_N4 hP hD hS hl
    refine a_ic F (1 : Int32) dX9_readBoth_64 (by decide) ?_
    exact a_retz F hr hlocks hP hD hS dX9_readBoth_65 (Or.inr rfl) ⟨hR, hF, (by decide)⟩
  have L12 : ∀ (n12 : Nat) (x2 : Int32) (u : ac_U) (H : Heap) (locs : List Loc) (ls : Array Slot), ac_R rg u → ac_Fr [(1, some 4), (1, some 5), (1, some 6), (1, some 8), (1, some 9), (1, some 10), (1, some 11), (47, some 3), (47, some 4), (48, none), (49, none), (50, none)] u0 u → 20 - x2.toInt < (n12 : Int) → nmI 11 12 u → (0 : Int) ≤ x2.toInt ∧ x2.toInt ≤ 20 → va_P (dC, dI) vwCl (ac_w ad cA (TT nF) u) H → va_D A (ac_w ad cA (TT nF) u) → va_S A s.heap H locs → lv_has ls 3 [(0, .ref (ad 51)), (1, .int p0), (2, .int x2)] → W p l e (ac_rm 27) s m [.ref (ad 51), .int p0].toArray below meth c H locs 0 0 (MQ below (va_Qi (fun (r : Int32) (u : ac_U) => ac_R rg u ∧ ac_Fr [(1, some 4), (1, some 5), (1, some 6), (1, some 8), (1, some 9), (1, some 10), (1, some 11), (47, some 3), (47, some 4), (48, none), (49, none), (50, none)] u0 u ∧ ((0 : Int) ≤ r.toInt ∧ r.toInt ≤ 1)) (ac_B (dC, dI) vwCl (ac_ty cA) ad cA (TT nF) A) A) [.ref (ad 51), .int p0].toArray s 0 0 A) (F0 m 12 ls []) := by
    intro n12
    induction n12 with
    | zero => intro x2 u H locs ls hR hF hn12 hK_N4 f0 hP hD hS hl; exfalso; omega
    | succ n12 ih12 =>
      intro x2 u H locs ls hR hF hn12 hK_N4 f0 hP hD hS hl
      refine lv_iload_n F.1 F.2.1 dX9_readBoth_12 rfl (lv_at hl 2 rfl) ?_
      refine a_bp F (20 : Int32) dX9_readBoth_13 (by decide) ?_
      refine b_ge F 64 dX9_readBoth_15 (by decide) rfl ic_20 (fun c1 => ?_) (fun c1 => ?_)
      · exact L64 _ _ _ _ hR hF hK_N4 hP hD hS (lv_sub hl [] rfl)
      · refine lv_aload_n F.1 F.2.1 dX9_readBoth_18 rfl (lv_at hl 0 rfl) ?_
        refine a_getr F inX9 hP 51 0 tc_51 rfl rfl (by decide) q465 (fun _ h9 => h9) dX9_readBoth_19 ?_
        have g2 : (-128 : Int) ≤ (u.1 1 6).toInt ∧ (u.1 1 6).toInt ≤ 127 := hR 1 6
        refine a_geti F inX10 hP 1 6 tc_1 rfl rfl (by decide) q103 (fun _ h9 => h9) (v := (u.1 1 6)) rfl dX9_readBoth_22 ?_
        refine a_bp F (115 : Int32) dX9_readBoth_25 (by decide) ?_
        refine b_ne F 64 dX9_readBoth_27 (by decide) rfl ic_115 (fun c3 => ?_) (fun c3 => ?_)
        · exact L64 _ _ _ _ hR hF hK_N4 hP hD hS (lv_sub hl [] rfl)
        · refine lv_aload_n F.1 F.2.1 dX9_readBoth_30 rfl (lv_at hl 0 rfl) ?_
          refine a_getr F inX9 hP 51 0 tc_51 rfl rfl (by decide) q465 (fun _ h9 => h9) dX9_readBoth_31 ?_
          refine a_Vv F hml hl.1 hA hP hD hS (As := []) (c_X10_readNext_1 l dC dI ad cA nF _  hR) (cs_RX9_45 (d := 3) F.2.2.1 (by decide)) tc_1 rfl rfl rfl rfl (Nat.le_of_ble_eq_true rfl) dX9_readBoth_34 ⟨Nat.le_refl 0, Nat.le_refl 0⟩ (fun u4 H locs hq hP hD hS => ?_)
          obtain ⟨hR, hF4⟩ := hq
          have hF := hF.tr hF4 (by decide)
          have hK_N4 := sp_fr sp_N4 hF4 (by decide) hK_N4
          refine lv_aload_n F.1 F.2.1 dX9_readBoth_37 rfl (lv_at hl 0 rfl) ?_
          refine lv_iload_n F.1 F.2.1 dX9_readBoth_38 rfl (lv_at hl 1 rfl) ?_
          refine a_Vi F hml hl.1 hA hP hD hS (As := [.int p0]) (c_X9_readOne_51_d3 l dC dI ad cA nF _ p0 hR (by omega) hK_N4) (cs_RX9_52 (d := 26) F.2.2.1 (by decide)) tc_51 rfl rfl rfl rfl (Nat.le_of_ble_eq_true rfl) dX9_readBoth_39 ⟨Nat.le_refl 0, Nat.le_refl 0⟩ (fun r5 u5 H locs hq hP hD hS => ?_)
          obtain ⟨hR, hF5, gr5⟩ := hq
          have hF := hF.tr hF5 (by decide)
          have hK_N4 := sp_fr sp_N4 hF5 (by decide) hK_N4
          refine z_ne F 47 dX9_readBoth_42 (by decide) rfl (fun c6 => ?_) (fun c6 => ?_)
          · refine lv_aload_n F.1 F.2.1 dX9_readBoth_47 rfl (lv_at hl 0 rfl) ?_
            refine a_getr F inX9 hP 51 2 tc_51 rfl rfl (by decide) q467 (fun _ h9 => h9) dX9_readBoth_48 ?_
            refine a_bp F (115 : Int32) dX9_readBoth_51 (by decide) ?_
            refine a_ic F (0 : Int32) dX9_readBoth_53 (by decide) ?_
            refine a_ic F (0 : Int32) dX9_readBoth_54 (by decide) ?_
            refine a_Vv F hml hl.1 hA hP hD hS (As := [.int (115 : Int32), .int (0 : Int32), .int (0 : Int32)]) (c_X8_add_47 l dC dI ad cA nF _ (115 : Int32) (0 : Int32) (0 : Int32) hR (by decide) (by decide)) (cs_RX9_48 (d := 1) F.2.2.1 (by decide)) tc_47 rfl rfl rfl rfl (Nat.le_of_ble_eq_true rfl) dX9_readBoth_55 ⟨Nat.le_refl 0, Nat.le_refl 0⟩ (fun u7 H locs hq hP hD hS => ?_)
            obtain ⟨hR, hF7⟩ := hq
            have hF := hF.tr hF7 (by decide)
            have hK_N4 := sp_fr sp_N4 hF7 (by decide) hK_N4
            refine a_iinc F (k := 2) (fun v8 => [(2, .int v8), (0, .ref (ad 51)), (1, .int p0)]) dX9_readBoth_58 hl rfl rfl (by decide) (by omega) (by decide) (fun _ => rfl) (fun v8 ls hv8 hl => ?_)
            refine lv_goto (tgt := 12) F.1 F.2.1 dX9_readBoth_61 (by decide) ?_
            exact ih12 v8 _ _ _ _ hR hF (by omega) hK_N4 (by omega) hP hD hS (lv_sub hl [1, 2, 0] rfl)
          · refine a_ic F (0 : Int32) dX9_readBoth_45 (by decide) ?_
            exact a_retz F hr hlocks hP hD hS dX9_readBoth_46 (Or.inl rfl) ⟨hR, hF, (by decide)⟩
  refine lv_aload_n F.1 F.2.1 dX9_readBoth_0 rfl (lv_at hl 0 rfl) ?_
  refine lv_iload_n F.1 F.2.1 dX9_readBoth_1 rfl (lv_at hl 1 rfl) ?_
  refine a_Vi F hml hl.1 hA hP hD hS (As := [.int p0]) (c_X9_readOne_51_d3 l dC dI ad cA nF _ p0 hR (by omega) hK_N4) (cs_RX9_52 (d := 26) F.2.2.1 (by decide)) tc_51 rfl rfl rfl rfl (Nat.le_of_ble_eq_true rfl) dX9_readBoth_2 ⟨Nat.le_refl 0, Nat.le_refl 0⟩ (fun r9 u9 H locs hq hP hD hS => ?_)
  obtain ⟨hR, hF9, gr9⟩ := hq
  have hF := hF.tr hF9 (by decide)
  have hK_N4 := sp_fr sp_N4 hF9 (by decide) hK_N4
  refine z_ne F 10 dX9_readBoth_5 (by decide) rfl (fun c10 => ?_) (fun c10 => ?_)
  · refine a_ic F (0 : Int32) dX9_readBoth_10 (by decide) ?_
    refine lv_istore_n (lv' := [(2, .int (0 : Int32)), (0, .ref (ad 51)), (1, .int p0)]) F.1 F.2.1 dX9_readBoth_11 rfl hl (by decide) rfl (fun ls hl => ?_)
    exact L12 22 (0 : Int32) _ _ _ _ hR hF (by decide) hK_N4 (by decide) hP hD hS (lv_sub hl [1, 2, 0] rfl)
  · refine a_ic F (0 : Int32) dX9_readBoth_8 (by decide) ?_
    exact a_retz F hr hlocks hP hD hS dX9_readBoth_9 (Or.inl rfl) ⟨hR, hF, (by decide)⟩
set_option maxHeartbeats 600000 in
set_option maxRecDepth 100000 in
theorem c_X9_readCond_51_d3 (l : Launch) (dC : Nat → ClassId) (dI : Nat → Nat → Nat) (ad : Nat → Nat) (cA : Nat → ClassId) (nF : Nat) (u0 : ac_U) (p0 : Int32) (hR : ac_R rg u0) (hp0 : (3 : Int) ≤ p0.toInt ∧ p0.toInt ≤ 3) (hK_N4 : nmI 11 12 u0) : ac_Mi l yX9_readCond (.code yX9_readCond cX9_readCond 3 (some .boolean) :: TB) 28 (dC, dI) vwCl (ac_ty cA) ad cA (TT nF) [.ref (ad 51), .int p0] u0 (fun (r : Int32) (u : ac_U) => ac_R rg u ∧ ac_Fr [(1, some 4), (1, some 5), (1, some 6), (1, some 8), (1, some 9), (1, some 10), (1, some 11), (47, some 3), (47, some 4), (48, none), (49, none), (50, none)] u0 u ∧ ((0 : Int) ≤ r.toInt ∧ r.toInt ≤ 1)) := by
  refine ac_Mi.of (cc := cX9_readCond) (maxL := 3) (ret := (some .boolean)) (by decide) rfl (Nat.le_of_ble_eq_true rfl) ?_
  intro p e s m below meth c A ls F hml hr hlocks hA hP hD hS hl
  have F : ac_X p s m [.ref (ad 51), .int p0].toArray c cX9_readCond RX9 TB (dC, dI) vwCl (ac_ty cA) := ⟨F.1, F.2.1, fun w h => F.2.2.1 w (List.mem_cons_of_mem _ h), F.2.2.2.1, F.2.2.2.2⟩
  have hl : lv_has ls 3 [(0, .ref (ad 51)), (1, .int p0)] := hl
  have hF : ac_Fr [(1, some 4), (1, some 5), (1, some 6), (1, some 8), (1, some 9), (1, some 10), (1, some 11), (47, some 3), (47, some 4), (48, none), (49, none), (50, none)] u0 u0 := ac_Fr.rf
  have L64 : ∀ (u : ac_U) (H : Heap) (locs : List Loc) (ls : Array Slot), ac_R rg u → ac_Fr [(1, some 4), (1, some 5), (1, some 6), (1, some 8), (1, some 9), (1, some 10), (1, some 11), (47, some 3), (47, some 4), (48, none), (49, none), (50, none)] u0 u → nmI 11 12 u → va_P (dC, dI) vwCl (ac_w ad cA (TT nF) u) H → va_D A (ac_w ad cA (TT nF) u) → va_S A s.heap H locs → lv_has ls 3 [] → W p l e (ac_rm 28) s m [.ref (ad 51), .int p0].toArray below meth c H locs 0 0 (MQ below (va_Qi (fun (r : Int32) (u : ac_U) => ac_R rg u ∧ ac_Fr [(1, some 4), (1, some 5), (1, some 6), (1, some 8), (1, some 9), (1, some 10), (1, some 11), (47, some 3), (47, some 4), (48, none), (49, none), (50, none)] u0 u ∧ ((0 : Int) ≤ r.toInt ∧ r.toInt ≤ 1)) (ac_B (dC, dI) vwCl (ac_ty cA) ad cA (TT nF) A) A) [.ref (ad 51), .int p0].toArray s 0 0 A) (F0 m 64 ls []) := by
    intro u H locs ls hR hF hK_N4 hP hD hS hl
    refine a_ic F (1 : Int32) dX9_readCond_64 (by decide) ?_
    exact a_retz F hr hlocks hP hD hS dX9_readCond_65 (Or.inr rfl) ⟨hR, hF, (by decide)⟩
  have L12 : ∀ (n12 : Nat) (x2 : Int32) (u : ac_U) (H : Heap) (locs : List Loc) (ls : Array Slot), ac_R rg u → ac_Fr [(1, some 4), (1, some 5), (1, some 6), (1, some 8), (1, some 9), (1, some 10), (1, some 11), (47, some 3), (47, some 4), (48, none), (49, none), (50, none)] u0 u → 20 - x2.toInt < (n12 : Int) → nmI 11 12 u → (0 : Int) ≤ x2.toInt ∧ x2.toInt ≤ 20 → va_P (dC, dI) vwCl (ac_w ad cA (TT nF) u) H → va_D A (ac_w ad cA (TT nF) u) → va_S A s.heap H locs → lv_has ls 3 [(0, .ref (ad 51)), (1, .int p0), (2, .int x2)] → W p l e (ac_rm 28) s m [.ref (ad 51), .int p0].toArray below meth c H locs 0 0 (MQ below (va_Qi (fun (r : Int32) (u : ac_U) => ac_R rg u ∧ ac_Fr [(1, some 4), (1, some 5), (1, some 6), (1, some 8), (1, some 9), (1, some 10), (1, some 11), (47, some 3), (47, some 4), (48, none), (49, none), (50, none)] u0 u ∧ ((0 : Int) ≤ r.toInt ∧ r.toInt ≤ 1)) (ac_B (dC, dI) vwCl (ac_ty cA) ad cA (TT nF) A) A) [.ref (ad 51), .int p0].toArray s 0 0 A) (F0 m 12 ls []) := by
    intro n12
    induction n12 with
    | zero => intro x2 u H locs ls hR hF hn12 hK_N4 f0 hP hD hS hl; exfalso; omega
    | succ n12 ih12 =>
      intro x2 u H locs ls hR hF hn12 hK_N4 f0 hP hD hS hl
      refine lv_iload_n F.1 F.2.1 dX9_readCond_12 rfl (lv_at hl 2 rfl) ?_
      refine a_bp F (20 : Int32) dX9_readCond_13 (by decide) ?_
      refine b_ge F 64 dX9_readCond_15 (by decide) rfl ic_20 (fun c1 => ?_) (fun c1 => ?_)
      · exact L64 _ _ _ _ hR hF hK_N4 hP hD hS (lv_sub hl [] rfl)
      · refine lv_aload_n F.1 F.2.1 dX9_readCond_18 rfl (lv_at hl 0 rfl) ?_
        refine a_getr F inX9 hP 51 0 tc_51 rfl rfl (by decide) q465 (fun _ h9 => h9) dX9_readCond_19 ?_
        have g2 : (-128 : Int) ≤ (u.1 1 6).toInt ∧ (u.1 1 6).toInt ≤ 127 := hR 1 6
        refine a_geti F inX10 hP 1 6 tc_1 rfl rfl (by decide) q103 (fun _ h9 => h9) (v := (u.1 1 6)) rfl dX9_readCond_22 ?_
        refine a_bp F (114 : Int32) dX9_readCond_25 (by decide) ?_
        refine b_ne F 64 dX9_readCond_27 (by decide) rfl ic_114 (fun c3 => ?_) (fun c3 => ?_)
        · exact L64 _ _ _ _ hR hF hK_N4 hP hD hS (lv_sub hl [] rfl)
        · refine lv_aload_n F.1 F.2.1 dX9_readCond_30 rfl (lv_at hl 0 rfl) ?_
          refine a_getr F inX9 hP 51 0 tc_51 rfl rfl (by decide) q465 (fun _ h9 => h9) dX9_readCond_31 ?_
          refine a_Vv F hml hl.1 hA hP hD hS (As := []) (c_X10_readNext_1 l dC dI ad cA nF _  hR) (cs_RX9_45 (d := 3) F.2.2.1 (by decide)) tc_1 rfl rfl rfl rfl (Nat.le_of_ble_eq_true rfl) dX9_readCond_34 ⟨Nat.le_refl 0, Nat.le_refl 0⟩ (fun u4 H locs hq hP hD hS => ?_)
          obtain ⟨hR, hF4⟩ := hq
          have hF := hF.tr hF4 (by decide)
          have hK_N4 := sp_fr sp_N4 hF4 (by decide) hK_N4
          refine lv_aload_n F.1 F.2.1 dX9_readCond_37 rfl (lv_at hl 0 rfl) ?_
          refine lv_iload_n F.1 F.2.1 dX9_readCond_38 rfl (lv_at hl 1 rfl) ?_
          refine a_Vi F hml hl.1 hA hP hD hS (As := [.int p0]) (c_X9_readBoth_51_d3 l dC dI ad cA nF _ p0 hR (by omega) hK_N4) (cs_RX9_42 (d := 27) F.2.2.1 (by decide)) tc_51 rfl rfl rfl rfl (Nat.le_of_ble_eq_true rfl) dX9_readCond_39 ⟨Nat.le_refl 0, Nat.le_refl 0⟩ (fun r5 u5 H locs hq hP hD hS => ?_)
          obtain ⟨hR, hF5, gr5⟩ := hq
          have hF := hF.tr hF5 (by decide)
          have hK_N4 := sp_fr sp_N4 hF5 (by decide) hK_N4
          refine z_ne F 47 dX9_readCond_42 (by decide) rfl (fun c6 => ?_) (fun c6 => ?_)
          · refine lv_aload_n F.1 F.2.1 dX9_readCond_47 rfl (lv_at hl 0 rfl) ?_
            refine a_getr F inX9 hP 51 2 tc_51 rfl rfl (by decide) q467 (fun _ h9 => h9) dX9_readCond_48 ?_
            refine a_bp F (114 : Int32) dX9_readCond_51 (by decide) ?_
            refine a_ic F (0 : Int32) dX9_readCond_53 (by decide) ?_
            refine a_ic F (0 : Int32) dX9_readCond_54 (by decide) ?_
            refine a_Vv F hml hl.1 hA hP hD hS (As := [.int (114 : Int32), .int (0 : Int32), .int (0 : Int32)]) (c_X8_add_47 l dC dI ad cA nF _ (114 : Int32) (0 : Int32) (0 : Int32) hR (by decide) (by decide)) (cs_RX9_48 (d := 1) F.2.2.1 (by decide)) tc_47 rfl rfl rfl rfl (Nat.le_of_ble_eq_true rfl) dX9_readCond_55 ⟨Nat.le_refl 0, Nat.le_refl 0⟩ (fun u7 H locs hq hP hD hS => ?_)
            obtain ⟨hR, hF7⟩ := hq
            have hF := hF.tr hF7 (by decide)
            have hK_N4 := sp_fr sp_N4 hF7 (by decide) hK_N4
            refine a_iinc F (k := 2) (fun v8 => [(2, .int v8), (0, .ref (ad 51)), (1, .int p0)]) dX9_readCond_58 hl rfl rfl (by decide) (by omega) (by decide) (fun _ => rfl) (fun v8 ls hv8 hl => ?_)
            refine lv_goto (tgt := 12) F.1 F.2.1 dX9_readCond_61 (by decide) ?_
            exact ih12 v8 _ _ _ _ hR hF (by omega) hK_N4 (by omega) hP hD hS (lv_sub hl [1, 2, 0] rfl)
          · refine a_ic F (0 : Int32) dX9_readCond_45 (by decide) ?_
            exact a_retz F hr hlocks hP hD hS dX9_readCond_46 (Or.inl rfl) ⟨hR, hF, (by decide)⟩
  refine lv_aload_n F.1 F.2.1 dX9_readCond_0 rfl (lv_at hl 0 rfl) ?_
  refine lv_iload_n F.1 F.2.1 dX9_readCond_1 rfl (lv_at hl 1 rfl) ?_
  refine a_Vi F hml hl.1 hA hP hD hS (As := [.int p0]) (c_X9_readBoth_51_d3 l dC dI ad cA nF _ p0 hR (by omega) hK_N4) (cs_RX9_42 (d := 27) F.2.2.1 (by decide)) tc_51 rfl rfl rfl rfl (Nat.le_of_ble_eq_true rfl) dX9_readCond_2 ⟨Nat.le_refl 0, Nat.le_refl 0⟩ (fun r9 u9 H locs hq hP hD hS => ?_)
  obtain ⟨hR, hF9, gr9⟩ := hq
  have hF := hF.tr hF9 (by decide)
  have hK_N4 := sp_fr sp_N4 hF9 (by decide) hK_N4
  refine z_ne F 10 dX9_readCond_5 (by decide) rfl (fun c10 => ?_) (fun c10 => ?_)
  · refine a_ic F (0 : Int32) dX9_readCond_10 (by decide) ?_
    refine lv_istore_n (lv' := [(2, .int (0 : Int32)), (0, .ref (ad 51)), (1, .int p0)]) F.1 F.2.1 dX9_readCond_11 rfl hl (by decide) rfl (fun ls hl => ?_)
    exact L12 22 (0 : Int32) _ _ _ _ hR hF (by decide) hK_N4 (by decide) hP hD hS (lv_sub hl [1, 2, 0] rfl)
  · refine a_ic F (0 : Int32) dX9_readCond_8 (by decide) ?_
    exact a_retz F hr hlocks hP hD hS dX9_readCond_9 (Or.inl rfl) ⟨hR, hF, (by decide)⟩
set_option maxHeartbeats 600000 in
set_option maxRecDepth 100000 in
theorem c_X9_readBracket_51_d2 (l : Launch) (dC : Nat → ClassId) (dI : Nat → Nat → Nat) (ad : Nat → Nat) (cA : Nat → ClassId) (nF : Nat) (u0 : ac_U) (p0 : Int32) (hR : ac_R rg u0) (hp0 : (2 : Int) ≤ p0.toInt ∧ p0.toInt ≤ 2) (hK_N4 : nmI 11 12 u0) : ac_Mi l yX9_readBracket (.code yX9_readBracket cX9_readBracket 2 (some .boolean) :: TB) 29 (dC, dI) vwCl (ac_ty cA) ad cA (TT nF) [.ref (ad 51), .int p0] u0 (fun (r : Int32) (u : ac_U) => ac_R rg u ∧ ac_Fr [(1, some 4), (1, some 5), (1, some 6), (1, some 8), (1, some 9), (1, some 10), (1, some 11), (47, some 3), (47, some 4), (48, none), (49, none), (50, none)] u0 u ∧ ((0 : Int) ≤ r.toInt ∧ r.toInt ≤ 1)) := by
  refine ac_Mi.of (cc := cX9_readBracket) (maxL := 2) (ret := (some .boolean)) (by decide) rfl (Nat.le_of_ble_eq_true rfl) ?_
  intro p e s m below meth c A ls F hml hr hlocks hA hP hD hS hl
  have F : ac_X p s m [.ref (ad 51), .int p0].toArray c cX9_readBracket RX9 TB (dC, dI) vwCl (ac_ty cA) := ⟨F.1, F.2.1, fun w h => F.2.2.1 w (List.mem_cons_of_mem _ h), F.2.2.2.1, F.2.2.2.2⟩
  have hl : lv_has ls 2 [(0, .ref (ad 51)), (1, .int p0)] := hl
  have hF : ac_Fr [(1, some 4), (1, some 5), (1, some 6), (1, some 8), (1, some 9), (1, some 10), (1, some 11), (47, some 3), (47, some 4), (48, none), (49, none), (50, none)] u0 u0 := ac_Fr.rf
  refine lv_aload_n F.1 F.2.1 dX9_readBracket_0 rfl (lv_at hl 0 rfl) ?_
  refine a_getr F inX9 hP 51 0 tc_51 rfl rfl (by decide) q465 (fun _ h9 => h9) dX9_readBracket_1 ?_
  refine a_Vv F hml hl.1 hA hP hD hS (As := []) (c_X10_readNext_1 l dC dI ad cA nF _  hR) (cs_RX9_45 (d := 3) F.2.2.1 (by decide)) tc_1 rfl rfl rfl rfl (Nat.le_of_ble_eq_true rfl) dX9_readBracket_4 ⟨Nat.le_refl 0, Nat.le_refl 0⟩ (fun u1 H locs hq hP hD hS => ?_)
  obtain ⟨hR, hF1⟩ := hq
  have hF := hF.tr hF1 (by decide)
  have hK_N4 := sp_fr sp_N4 hF1 (by decide) hK_N4
  refine lv_aload_n F.1 F.2.1 dX9_readBracket_7 rfl (lv_at hl 0 rfl) ?_
  refine lv_iload_n F.1 F.2.1 dX9_readBracket_8 rfl (lv_at hl 1 rfl) ?_
  refine a_ic F (1 : Int32) dX9_readBracket_9 (by decide) ?_
  refine a_iadd F dX9_readBracket_10 rfl ic_1 (by omega) (fun v2 hv2 => ?_)
  refine a_Vi F hml hl.1 hA hP hD hS (As := [.int v2]) (c_X9_readCond_51_d3 l dC dI ad cA nF _ v2 hR (by omega) hK_N4) (cs_RX9_74 (d := 28) F.2.2.1 (by decide)) tc_51 rfl rfl rfl rfl (Nat.le_of_ble_eq_true rfl) dX9_readBracket_11 ⟨Nat.le_refl 0, Nat.le_refl 0⟩ (fun r3 u3 H locs hq hP hD hS => ?_)
  obtain ⟨hR, hF3, gr3⟩ := hq
  have hF := hF.tr hF3 (by decide)
  have hK_N4 := sp_fr sp_N4 hF3 (by decide) hK_N4
  refine z_ne F 19 dX9_readBracket_14 (by decide) rfl (fun c4 => ?_) (fun c4 => ?_)
  · refine lv_aload_n F.1 F.2.1 dX9_readBracket_19 rfl (lv_at hl 0 rfl) ?_
    refine a_getr F inX9 hP 51 0 tc_51 rfl rfl (by decide) q465 (fun _ h9 => h9) dX9_readBracket_20 ?_
    have g5 : (-128 : Int) ≤ (u3.1 1 6).toInt ∧ (u3.1 1 6).toInt ≤ 127 := hR 1 6
    refine a_geti F inX10 hP 1 6 tc_1 rfl rfl (by decide) q103 (fun _ h9 => h9) (v := (u3.1 1 6)) rfl dX9_readBracket_23 ?_
    refine a_bp F (41 : Int32) dX9_readBracket_26 (by decide) ?_
    refine b_eq F 40 dX9_readBracket_28 (by decide) rfl ic_41 (fun c6 => ?_) (fun c6 => ?_)
    · refine lv_aload_n F.1 F.2.1 dX9_readBracket_40 rfl (lv_at hl 0 rfl) ?_
      refine a_getr F inX9 hP 51 0 tc_51 rfl rfl (by decide) q465 (fun _ h9 => h9) dX9_readBracket_41 ?_
      refine a_Vv F hml hl.1 hA hP hD hS (As := []) (c_X10_readNext_1 l dC dI ad cA nF _  hR) (cs_RX9_45 (d := 3) F.2.2.1 (by decide)) tc_1 rfl rfl rfl rfl (Nat.le_of_ble_eq_true rfl) dX9_readBracket_44 ⟨Nat.le_refl 0, Nat.le_refl 0⟩ (fun u7 H locs hq hP hD hS => ?_)
      obtain ⟨hR, hF7⟩ := hq
      have hF := hF.tr hF7 (by decide)
      have hK_N4 := sp_fr sp_N4 hF7 (by decide) hK_N4
      refine a_ic F (1 : Int32) dX9_readBracket_47 (by decide) ?_
      exact a_retz F hr hlocks hP hD hS dX9_readBracket_48 (Or.inr rfl) ⟨hR, hF, (by decide)⟩
    · refine lv_aload_n F.1 F.2.1 dX9_readBracket_31 rfl (lv_at hl 0 rfl) ?_
      refine a_getr F inX9 hP 51 0 tc_51 rfl rfl (by decide) q465 (fun _ h9 => h9) dX9_readBracket_32 ?_
      refine a_ic F (1 : Int32) dX9_readBracket_35 (by decide) ?_
      refine a_Vi F hml hl.1 hA hP hD hS (As := [.int (1 : Int32)]) (c_X10_fail_1 l dC dI ad cA nF _ (1 : Int32) hR (by decide)) (cs_RX9_38 (d := 1) F.2.2.1 (by decide)) tc_1 rfl rfl rfl rfl (Nat.le_of_ble_eq_true rfl) dX9_readBracket_36 ⟨Nat.le_refl 0, Nat.le_refl 0⟩ (fun r8 u8 H locs hq hP hD hS => ?_)
      obtain ⟨hR, hF8, gr8⟩ := hq
      have hF := hF.tr hF8 (by decide)
      have hK_N4 := sp_fr sp_N4 hF8 (by decide) hK_N4
      exact a_retz F hr hlocks hP hD hS dX9_readBracket_39 (i_01 (by omega)) ⟨hR, hF, (by omega : (0 : Int) ≤ r8.toInt ∧ r8.toInt ≤ 1)⟩
  · refine a_ic F (0 : Int32) dX9_readBracket_17 (by decide) ?_
    exact a_retz F hr hlocks hP hD hS dX9_readBracket_18 (Or.inl rfl) ⟨hR, hF, (by decide)⟩
set_option maxHeartbeats 600000 in
set_option maxRecDepth 100000 in
theorem c_X9_readNot_51_d2 (l : Launch) (dC : Nat → ClassId) (dI : Nat → Nat → Nat) (ad : Nat → Nat) (cA : Nat → ClassId) (nF : Nat) (u0 : ac_U) (p0 : Int32) (hR : ac_R rg u0) (hp0 : (2 : Int) ≤ p0.toInt ∧ p0.toInt ≤ 2) (hK_N4 : nmI 11 12 u0) : ac_Mi l yX9_readNot (.code yX9_readNot cX9_readNot 2 (some .boolean) :: TB) 27 (dC, dI) vwCl (ac_ty cA) ad cA (TT nF) [.ref (ad 51), .int p0] u0 (fun (r : Int32) (u : ac_U) => ac_R rg u ∧ ac_Fr [(1, some 4), (1, some 5), (1, some 6), (1, some 8), (1, some 9), (1, some 10), (1, some 11), (47, some 3), (47, some 4), (48, none), (49, none), (50, none)] u0 u ∧ ((0 : Int) ≤ r.toInt ∧ r.toInt ≤ 1)) := by
  refine ac_Mi.of (cc := cX9_readNot) (maxL := 2) (ret := (some .boolean)) (by decide) rfl (Nat.le_of_ble_eq_true rfl) ?_
  intro p e s m below meth c A ls F hml hr hlocks hA hP hD hS hl
  have F : ac_X p s m [.ref (ad 51), .int p0].toArray c cX9_readNot RX9 TB (dC, dI) vwCl (ac_ty cA) := ⟨F.1, F.2.1, fun w h => F.2.2.1 w (List.mem_cons_of_mem _ h), F.2.2.2.1, F.2.2.2.2⟩
  have hl : lv_has ls 2 [(0, .ref (ad 51)), (1, .int p0)] := hl
  have hF : ac_Fr [(1, some 4), (1, some 5), (1, some 6), (1, some 8), (1, some 9), (1, some 10), (1, some 11), (47, some 3), (47, some 4), (48, none), (49, none), (50, none)] u0 u0 := ac_Fr.rf
  refine lv_aload_n F.1 F.2.1 dX9_readNot_0 rfl (lv_at hl 0 rfl) ?_
  refine a_getr F inX9 hP 51 0 tc_51 rfl rfl (by decide) q465 (fun _ h9 => h9) dX9_readNot_1 ?_
  refine a_Vv F hml hl.1 hA hP hD hS (As := []) (c_X10_readNext_1 l dC dI ad cA nF _  hR) (cs_RX9_45 (d := 3) F.2.2.1 (by decide)) tc_1 rfl rfl rfl rfl (Nat.le_of_ble_eq_true rfl) dX9_readNot_4 ⟨Nat.le_refl 0, Nat.le_refl 0⟩ (fun u1 H locs hq hP hD hS => ?_)
  obtain ⟨hR, hF1⟩ := hq
  have hF := hF.tr hF1 (by decide)
  have hK_N4 := sp_fr sp_N4 hF1 (by decide) hK_N4
  refine lv_aload_n F.1 F.2.1 dX9_readNot_7 rfl (lv_at hl 0 rfl) ?_
  refine lv_iload_n F.1 F.2.1 dX9_readNot_8 rfl (lv_at hl 1 rfl) ?_
  refine a_ic F (1 : Int32) dX9_readNot_9 (by decide) ?_
  refine a_iadd F dX9_readNot_10 rfl ic_1 (by omega) (fun v2 hv2 => ?_)
  refine a_Vi F hml hl.1 hA hP hD hS (As := [.int v2]) (c_X9_readOne_51_d3 l dC dI ad cA nF _ v2 hR (by omega) hK_N4) (cs_RX9_52 (d := 26) F.2.2.1 (by decide)) tc_51 rfl rfl rfl rfl (Nat.le_of_ble_eq_true rfl) dX9_readNot_11 ⟨Nat.le_refl 0, Nat.le_refl 0⟩ (fun r3 u3 H locs hq hP hD hS => ?_)
  obtain ⟨hR, hF3, gr3⟩ := hq
  have hF := hF.tr hF3 (by decide)
  have hK_N4 := sp_fr sp_N4 hF3 (by decide) hK_N4
  refine z_ne F 19 dX9_readNot_14 (by decide) rfl (fun c4 => ?_) (fun c4 => ?_)
  · refine lv_aload_n F.1 F.2.1 dX9_readNot_19 rfl (lv_at hl 0 rfl) ?_
    refine a_getr F inX9 hP 51 2 tc_51 rfl rfl (by decide) q467 (fun _ h9 => h9) dX9_readNot_20 ?_
    refine a_bp F (116 : Int32) dX9_readNot_23 (by decide) ?_
    refine a_ic F (0 : Int32) dX9_readNot_25 (by decide) ?_
    refine a_ic F (0 : Int32) dX9_readNot_26 (by decide) ?_
    refine a_Vv F hml hl.1 hA hP hD hS (As := [.int (116 : Int32), .int (0 : Int32), .int (0 : Int32)]) (c_X8_add_47 l dC dI ad cA nF _ (116 : Int32) (0 : Int32) (0 : Int32) hR (by decide) (by decide)) (cs_RX9_48 (d := 1) F.2.2.1 (by decide)) tc_47 rfl rfl rfl rfl (Nat.le_of_ble_eq_true rfl) dX9_readNot_27 ⟨Nat.le_refl 0, Nat.le_refl 0⟩ (fun u5 H locs hq hP hD hS => ?_)
    obtain ⟨hR, hF5⟩ := hq
    have hF := hF.tr hF5 (by decide)
    have hK_N4 := sp_fr sp_N4 hF5 (by decide) hK_N4
    refine a_ic F (1 : Int32) dX9_readNot_30 (by decide) ?_
    exact a_retz F hr hlocks hP hD hS dX9_readNot_31 (Or.inr rfl) ⟨hR, hF, (by decide)⟩
  · refine a_ic F (0 : Int32) dX9_readNot_17 (by decide) ?_
    exact a_retz F hr hlocks hP hD hS dX9_readNot_18 (Or.inl rfl) ⟨hR, hF, (by decide)⟩
set_option maxHeartbeats 600000 in
set_option maxRecDepth 100000 in
theorem c_X9_readOne_51_d2 (l : Launch) (dC : Nat → ClassId) (dI : Nat → Nat → Nat) (ad : Nat → Nat) (cA : Nat → ClassId) (nF : Nat) (u0 : ac_U) (p0 : Int32) (hR : ac_R rg u0) (hp0 : (2 : Int) ≤ p0.toInt ∧ p0.toInt ≤ 2) (hK_N4 : nmI 11 12 u0) : ac_Mi l yX9_readOne (.code yX9_readOne cX9_readOne 3 (some .boolean) :: TB) 30 (dC, dI) vwCl (ac_ty cA) ad cA (TT nF) [.ref (ad 51), .int p0] u0 (fun (r : Int32) (u : ac_U) => ac_R rg u ∧ ac_Fr [(1, some 4), (1, some 5), (1, some 6), (1, some 8), (1, some 9), (1, some 10), (1, some 11), (47, some 3), (47, some 4), (48, none), (49, none), (50, none)] u0 u ∧ ((0 : Int) ≤ r.toInt ∧ r.toInt ≤ 1)) := by
  refine ac_Mi.of (cc := cX9_readOne) (maxL := 3) (ret := (some .boolean)) (by decide) rfl (Nat.le_of_ble_eq_true rfl) ?_
  intro p e s m below meth c A ls F hml hr hlocks hA hP hD hS hl
  have F : ac_X p s m [.ref (ad 51), .int p0].toArray c cX9_readOne RX9 TB (dC, dI) vwCl (ac_ty cA) := ⟨F.1, F.2.1, fun w h => F.2.2.1 w (List.mem_cons_of_mem _ h), F.2.2.2.1, F.2.2.2.2⟩
  have hl : lv_has ls 3 [(0, .ref (ad 51)), (1, .int p0)] := hl
  have hF : ac_Fr [(1, some 4), (1, some 5), (1, some 6), (1, some 8), (1, some 9), (1, some 10), (1, some 11), (47, some 3), (47, some 4), (48, none), (49, none), (50, none)] u0 u0 := ac_Fr.rf
  have L53 : ∀ (u : ac_U) (H : Heap) (locs : List Loc) (ls : Array Slot), ac_R rg u → ac_Fr [(1, some 4), (1, some 5), (1, some 6), (1, some 8), (1, some 9), (1, some 10), (1, some 11), (47, some 3), (47, some 4), (48, none), (49, none), (50, none)] u0 u → nmI 11 12 u → (40 : Int) ≤ (u.1 1 6).toInt ∧ (u.1 1 6).toInt ≤ 126 → (20 : Int) ≤ (u.1 47 4).toInt ∧ (u.1 47 4).toInt ≤ 20 → va_P (dC, dI) vwCl (ac_w ad cA (TT nF) u) H → va_D A (ac_w ad cA (TT nF) u) → va_S A s.heap H locs → lv_has ls 3 [(0, .ref (ad 51))] → W p l e (ac_rm 30) s m [.ref (ad 51), .int p0].toArray below meth c H locs 0 0 (MQ below (va_Qi (fun (r : Int32) (u : ac_U) => ac_R rg u ∧ ac_Fr [(1, some 4), (1, some 5), (1, some 6), (1, some 8), (1, some 9), (1, some 10), (1, some 11), (47, some 3), (47, some 4), (48, none), (49, none), (50, none)] u0 u ∧ ((0 : Int) ≤ r.toInt ∧ r.toInt ≤ 1)) (ac_B (dC, dI) vwCl (ac_ty cA) ad cA (TT nF) A) A) [.ref (ad 51), .int p0].toArray s 0 0 A) (F0 m 53 ls []) := by
    intro u H locs ls hR hF hK_N4 f0 f1 hP hD hS hl
    refine lv_aload_n F.1 F.2.1 dX9_readOne_53 rfl (lv_at hl 0 rfl) ?_
    refine a_getr F inX9 hP 51 0 tc_51 rfl rfl (by decide) q465 (fun _ h9 => h9) dX9_readOne_54 ?_
    refine a_ic F (4 : Int32) dX9_readOne_57 (by decide) ?_
    refine a_Vi F hml hl.1 hA hP hD hS (As := [.int (4 : Int32)]) (c_X10_fail_1 l dC dI ad cA nF _ (4 : Int32) hR (by decide)) (cs_RX9_38 (d := 1) F.2.2.1 (by decide)) tc_1 rfl rfl rfl rfl (Nat.le_of_ble_eq_true rfl) dX9_readOne_58 ⟨Nat.le_refl 0, Nat.le_refl 0⟩ (fun r1 u1 H locs hq hP hD hS => ?_)
    obtain ⟨hR, hF1, gr1⟩ := hq
    have hF := hF.tr hF1 (by decide)
    have hK_N4 := sp_fr sp_N4 hF1 (by decide) hK_N4
    exact a_retz F hr hlocks hP hD hS dX9_readOne_61 (i_01 (by omega)) ⟨hR, hF, (by omega : (0 : Int) ≤ r1.toInt ∧ r1.toInt ≤ 1)⟩
  have L35 : ∀ (x2 : Int32) (u : ac_U) (H : Heap) (locs : List Loc) (ls : Array Slot), ac_R rg u → ac_Fr [(1, some 4), (1, some 5), (1, some 6), (1, some 8), (1, some 9), (1, some 10), (1, some 11), (47, some 3), (47, some 4), (48, none), (49, none), (50, none)] u0 u → nmI 11 12 u → (40 : Int) ≤ x2.toInt ∧ x2.toInt ≤ 126 → (40 : Int) ≤ (u.1 1 6).toInt ∧ (u.1 1 6).toInt ≤ 126 → va_P (dC, dI) vwCl (ac_w ad cA (TT nF) u) H → va_D A (ac_w ad cA (TT nF) u) → va_S A s.heap H locs → lv_has ls 3 [(0, .ref (ad 51)), (1, .int p0), (2, .int x2)] → W p l e (ac_rm 30) s m [.ref (ad 51), .int p0].toArray below meth c H locs 0 0 (MQ below (va_Qi (fun (r : Int32) (u : ac_U) => ac_R rg u ∧ ac_Fr [(1, some 4), (1, some 5), (1, some 6), (1, some 8), (1, some 9), (1, some 10), (1, some 11), (47, some 3), (47, some 4), (48, none), (49, none), (50, none)] u0 u ∧ ((0 : Int) ≤ r.toInt ∧ r.toInt ≤ 1)) (ac_B (dC, dI) vwCl (ac_ty cA) ad cA (TT nF) A) A) [.ref (ad 51), .int p0].toArray s 0 0 A) (F0 m 35 ls []) := by
    intro x2 u H locs ls hR hF hK_N4 f0 f1 hP hD hS hl
    refine lv_aload_n F.1 F.2.1 dX9_readOne_35 rfl (lv_at hl 0 rfl) ?_
    refine a_getr F inX9 hP 51 2 tc_51 rfl rfl (by decide) q467 (fun _ h9 => h9) dX9_readOne_36 ?_
    have g2 : (0 : Int) ≤ (u.1 47 4).toInt ∧ (u.1 47 4).toInt ≤ 20 := hR 47 4
    refine a_geti F inX8 hP 47 4 tc_47 rfl rfl (by decide) q446 (fun _ h9 => h9) (v := (u.1 47 4)) rfl dX9_readOne_39 ?_
    refine a_bp F (20 : Int32) dX9_readOne_42 (by decide) ?_
    refine b_ge F 53 dX9_readOne_44 (by decide) rfl ic_20 (fun c3 => ?_) (fun c3 => ?_)
    · have g4 : (-128 : Int) ≤ (u.1 1 6).toInt ∧ (u.1 1 6).toInt ≤ 127 := hR 1 6
      exact L53 _ _ _ _ hR hF hK_N4 (by omega : (40 : Int) ≤ (u.1 1 6).toInt ∧ (u.1 1 6).toInt ≤ 126) (by omega : (20 : Int) ≤ (u.1 47 4).toInt ∧ (u.1 47 4).toInt ≤ 20) hP hD hS (lv_sub hl [0] rfl)
    · refine lv_iload_n F.1 F.2.1 dX9_readOne_47 rfl (lv_at hl 1 rfl) ?_
      refine a_bp F (8 : Int32) dX9_readOne_48 (by decide) ?_
      refine b_le F 62 dX9_readOne_50 (by decide) rfl ic_8 (fun c5 => ?_) (fun c5 => ?_)
      · refine lv_aload_n F.1 F.2.1 dX9_readOne_62 rfl (lv_at hl 0 rfl) ?_
        refine a_getr F inX9 hP 51 2 tc_51 rfl rfl (by decide) q467 (fun _ h9 => h9) dX9_readOne_63 ?_
        refine lv_dup F.1 F.2.1 dX9_readOne_66 rfl ?_
        refine a_geti F inX8 hP 47 4 tc_47 rfl rfl (by decide) q446 (fun _ h9 => h9) (v := (u.1 47 4)) (rfl) dX9_readOne_67 ?_
        refine a_ic F (1 : Int32) dX9_readOne_70 (by decide) ?_
        refine a_iadd F dX9_readOne_71 rfl ic_1 (by omega) (fun v6 hv6 => ?_)
        refine a_puti F inX8 tyX8 tyX8_ok nmX8 hP hD hS 47 4 tc_47 rfl rfl (by decide) q446 (fun _ h9 => h9) rfl (ty := .int) (tyX8_ok 4 (by decide)) rfl rfl dX9_readOne_72 (fun H locs hP hD hS => ?_)
        have hR := hR.si (c := 47) (k := 4) (v := v6) (by omega : (0 : Int) ≤ v6.toInt ∧ v6.toInt ≤ 20)
        have hF := hF.si (c := 47) (k := 4) (v := v6) rfl
        have hK_N4 := sp_sgD sp_N4 hD hK_N4 (by decide)
        refine lv_iload_n F.1 F.2.1 dX9_readOne_75 rfl (lv_at hl 2 rfl) ?_
        refine a_bp F (40 : Int32) dX9_readOne_76 (by decide) ?_
        refine b_ne F 87 dX9_readOne_78 (by decide) rfl ic_40 (fun c7 => ?_) (fun c7 => ?_)
        · refine lv_iload_n F.1 F.2.1 dX9_readOne_87 rfl (lv_at hl 2 rfl) ?_
          refine a_bp F (116 : Int32) dX9_readOne_88 (by decide) ?_
          refine b_ne F 99 dX9_readOne_90 (by decide) rfl ic_116 (fun c8 => ?_) (fun c8 => ?_)
          · refine lv_iload_n F.1 F.2.1 dX9_readOne_99 rfl (lv_at hl 2 rfl) ?_
            refine a_bp F (122 : Int32) dX9_readOne_100 (by decide) ?_
            refine b_ne F 110 dX9_readOne_102 (by decide) rfl ic_122 (fun c9 => ?_) (fun c9 => ?_)
            · refine lv_iload_n F.1 F.2.1 dX9_readOne_110 rfl (lv_at hl 2 rfl) ?_
              refine a_bp F (122 : Int32) dX9_readOne_111 (by decide) ?_
              refine b_le F 124 dX9_readOne_113 (by decide) rfl ic_122 (fun c10 => ?_) (fun c10 => ?_)
              · refine lv_aload_n F.1 F.2.1 dX9_readOne_124 rfl (lv_at hl 0 rfl) ?_
                refine lv_iload_n F.1 F.2.1 dX9_readOne_125 rfl (lv_at hl 2 rfl) ?_
                refine a_Vi F hml hl.1 hA hP hD hS (As := [.int x2]) (c_X9_readStatus_51 l dC dI ad cA nF _ x2 hR (by omega)) (cs_RX9_71 (d := 4) F.2.2.1 (by decide)) tc_51 rfl rfl rfl rfl (Nat.le_of_ble_eq_true rfl) dX9_readOne_126 ⟨Nat.le_refl 0, Nat.le_refl 0⟩ (fun r11 u11 H locs hq hP hD hS => ?_)
                obtain ⟨hR, hF11, gr11⟩ := hq
                have hF := hF.tr hF11 (by decide)
                have hK_N4 := sp_fr sp_N4 hF11 (by decide) hK_N4
                exact a_retz F hr hlocks hP hD hS dX9_readOne_129 (i_01 (by omega)) ⟨hR, hF, (by omega : (0 : Int) ≤ r11.toInt ∧ r11.toInt ≤ 1)⟩
              · refine lv_aload_n F.1 F.2.1 dX9_readOne_116 rfl (lv_at hl 0 rfl) ?_
                refine lv_iload_n F.1 F.2.1 dX9_readOne_117 rfl (lv_at hl 2 rfl) ?_
                refine a_Vi F hml hl.1 hA hP hD hS (As := [.int x2]) (c_X9_readCompare_51 l dC dI ad cA nF _ x2 hR (by omega)) (cs_RX9_68 (d := 4) F.2.2.1 (by decide)) tc_51 rfl rfl rfl rfl (Nat.le_of_ble_eq_true rfl) dX9_readOne_118 ⟨Nat.le_refl 0, Nat.le_refl 0⟩ (fun r12 u12 H locs hq hP hD hS => ?_)
                obtain ⟨hR, hF12, gr12⟩ := hq
                have hF := hF.tr hF12 (by decide)
                have hK_N4 := sp_fr sp_N4 hF12 (by decide) hK_N4
                refine lv_goto (tgt := 129) F.1 F.2.1 dX9_readOne_121 (by decide) ?_
                exact a_retz F hr hlocks hP hD hS dX9_readOne_129 (i_01 (by omega)) ⟨hR, hF, (by omega : (0 : Int) ≤ r12.toInt ∧ r12.toInt ≤ 1)⟩
            · refine lv_aload_n F.1 F.2.1 dX9_readOne_105 rfl (lv_at hl 0 rfl) ?_
              refine a_Vi F hml hl.1 hA hP hD hS (As := []) (c_X9_readOf_51 l dC dI ad cA nF _  hR hK_N4) (cs_RX9_64 (d := 4) F.2.2.1 (by decide)) tc_51 rfl rfl rfl rfl (Nat.le_of_ble_eq_true rfl) dX9_readOne_106 ⟨Nat.le_refl 0, Nat.le_refl 0⟩ (fun r13 u13 H locs hq hP hD hS => ?_)
              obtain ⟨hR, hF13, gr13⟩ := hq
              have hF := hF.tr hF13 (by decide)
              have hK_N4 := sp_fr sp_N4 hF13 (by decide) hK_N4
              exact a_retz F hr hlocks hP hD hS dX9_readOne_109 (i_01 (by omega)) ⟨hR, hF, (by omega : (0 : Int) ≤ r13.toInt ∧ r13.toInt ≤ 1)⟩
          · refine lv_aload_n F.1 F.2.1 dX9_readOne_93 rfl (lv_at hl 0 rfl) ?_
            refine lv_iload_n F.1 F.2.1 dX9_readOne_94 rfl (lv_at hl 1 rfl) ?_
            refine a_Vi F hml hl.1 hA hP hD hS (As := [.int p0]) (c_X9_readNot_51_d2 l dC dI ad cA nF _ p0 hR (by omega) hK_N4) (cs_RX9_61 (d := 27) F.2.2.1 (by decide)) tc_51 rfl rfl rfl rfl (Nat.le_of_ble_eq_true rfl) dX9_readOne_95 ⟨Nat.le_refl 0, Nat.le_refl 0⟩ (fun r14 u14 H locs hq hP hD hS => ?_)
            obtain ⟨hR, hF14, gr14⟩ := hq
            have hF := hF.tr hF14 (by decide)
            have hK_N4 := sp_fr sp_N4 hF14 (by decide) hK_N4
            exact a_retz F hr hlocks hP hD hS dX9_readOne_98 (i_01 (by omega)) ⟨hR, hF, (by omega : (0 : Int) ≤ r14.toInt ∧ r14.toInt ≤ 1)⟩
        · refine lv_aload_n F.1 F.2.1 dX9_readOne_81 rfl (lv_at hl 0 rfl) ?_
          refine lv_iload_n F.1 F.2.1 dX9_readOne_82 rfl (lv_at hl 1 rfl) ?_
          refine a_Vi F hml hl.1 hA hP hD hS (As := [.int p0]) (c_X9_readBracket_51_d2 l dC dI ad cA nF _ p0 hR (by omega) hK_N4) (cs_RX9_58 (d := 29) F.2.2.1 (by decide)) tc_51 rfl rfl rfl rfl (Nat.le_of_ble_eq_true rfl) dX9_readOne_83 ⟨Nat.le_refl 0, Nat.le_refl 0⟩ (fun r15 u15 H locs hq hP hD hS => ?_)
          obtain ⟨hR, hF15, gr15⟩ := hq
          have hF := hF.tr hF15 (by decide)
          have hK_N4 := sp_fr sp_N4 hF15 (by decide) hK_N4
          exact a_retz F hr hlocks hP hD hS dX9_readOne_86 (i_01 (by omega)) ⟨hR, hF, (by omega : (0 : Int) ≤ r15.toInt ∧ r15.toInt ≤ 1)⟩
      · exfalso; omega
  have L26 : ∀ (u : ac_U) (H : Heap) (locs : List Loc) (ls : Array Slot), ac_R rg u → ac_Fr [(1, some 4), (1, some 5), (1, some 6), (1, some 8), (1, some 9), (1, some 10), (1, some 11), (47, some 3), (47, some 4), (48, none), (49, none), (50, none)] u0 u → nmI 11 12 u → (-128 : Int) ≤ (u.1 1 6).toInt ∧ (u.1 1 6).toInt ≤ 127 → va_P (dC, dI) vwCl (ac_w ad cA (TT nF) u) H → va_D A (ac_w ad cA (TT nF) u) → va_S A s.heap H locs → lv_has ls 3 [(0, .ref (ad 51))] → W p l e (ac_rm 30) s m [.ref (ad 51), .int p0].toArray below meth c H locs 0 0 (MQ below (va_Qi (fun (r : Int32) (u : ac_U) => ac_R rg u ∧ ac_Fr [(1, some 4), (1, some 5), (1, some 6), (1, some 8), (1, some 9), (1, some 10), (1, some 11), (47, some 3), (47, some 4), (48, none), (49, none), (50, none)] u0 u ∧ ((0 : Int) ≤ r.toInt ∧ r.toInt ≤ 1)) (ac_B (dC, dI) vwCl (ac_ty cA) ad cA (TT nF) A) A) [.ref (ad 51), .int p0].toArray s 0 0 A) (F0 m 26 ls []) := by
    intro u H locs ls hR hF hK_N4 f0 hP hD hS hl
    refine lv_aload_n F.1 F.2.1 dX9_readOne_26 rfl (lv_at hl 0 rfl) ?_
    refine a_getr F inX9 hP 51 0 tc_51 rfl rfl (by decide) q465 (fun _ h9 => h9) dX9_readOne_27 ?_
    refine a_ic F (1 : Int32) dX9_readOne_30 (by decide) ?_
    refine a_Vi F hml hl.1 hA hP hD hS (As := [.int (1 : Int32)]) (c_X10_fail_1 l dC dI ad cA nF _ (1 : Int32) hR (by decide)) (cs_RX9_38 (d := 1) F.2.2.1 (by decide)) tc_1 rfl rfl rfl rfl (Nat.le_of_ble_eq_true rfl) dX9_readOne_31 ⟨Nat.le_refl 0, Nat.le_refl 0⟩ (fun r16 u16 H locs hq hP hD hS => ?_)
    obtain ⟨hR, hF16, gr16⟩ := hq
    have hF := hF.tr hF16 (by decide)
    have hK_N4 := sp_fr sp_N4 hF16 (by decide) hK_N4
    exact a_retz F hr hlocks hP hD hS dX9_readOne_34 (i_01 (by omega)) ⟨hR, hF, (by omega : (0 : Int) ≤ r16.toInt ∧ r16.toInt ≤ 1)⟩
  refine lv_aload_n F.1 F.2.1 dX9_readOne_0 rfl (lv_at hl 0 rfl) ?_
  refine a_getr F inX9 hP 51 0 tc_51 rfl rfl (by decide) q465 (fun _ h9 => h9) dX9_readOne_1 ?_
  have g17 : (-128 : Int) ≤ (u0.1 1 6).toInt ∧ (u0.1 1 6).toInt ≤ 127 := hR 1 6
  refine a_geti F inX10 hP 1 6 tc_1 rfl rfl (by decide) q103 (fun _ h9 => h9) (v := (u0.1 1 6)) rfl dX9_readOne_4 ?_
  refine lv_istore_n (lv' := [(2, .int (u0.1 1 6)), (0, .ref (ad 51)), (1, .int p0)]) F.1 F.2.1 dX9_readOne_7 rfl hl (by decide) rfl (fun ls hl => ?_)
  refine lv_iload_n F.1 F.2.1 dX9_readOne_8 rfl (lv_at hl 0 rfl) ?_
  refine a_bp F (40 : Int32) dX9_readOne_9 (by decide) ?_
  refine b_eq F 35 dX9_readOne_11 (by decide) rfl ic_40 (fun c18 => ?_) (fun c18 => ?_)
  · exact L35 (u0.1 1 6) _ _ _ _ hR hF hK_N4 (by omega) (by omega : (40 : Int) ≤ (u0.1 1 6).toInt ∧ (u0.1 1 6).toInt ≤ 126) hP hD hS (lv_sub hl [1, 2, 0] rfl)
  · refine lv_iload_n F.1 F.2.1 dX9_readOne_14 rfl (lv_at hl 0 rfl) ?_
    refine a_bp F (116 : Int32) dX9_readOne_15 (by decide) ?_
    refine b_lt F 26 dX9_readOne_17 (by decide) rfl ic_116 (fun c19 => ?_) (fun c19 => ?_)
    · exact L26 _ _ _ _ hR hF hK_N4 (by omega : (-128 : Int) ≤ (u0.1 1 6).toInt ∧ (u0.1 1 6).toInt ≤ 127) hP hD hS (lv_sub hl [1] rfl)
    · refine lv_iload_n F.1 F.2.1 dX9_readOne_20 rfl (lv_at hl 0 rfl) ?_
      refine a_bp F (126 : Int32) dX9_readOne_21 (by decide) ?_
      refine b_le F 35 dX9_readOne_23 (by decide) rfl ic_126 (fun c20 => ?_) (fun c20 => ?_)
      · exact L35 (u0.1 1 6) _ _ _ _ hR hF hK_N4 (by omega) (by omega : (40 : Int) ≤ (u0.1 1 6).toInt ∧ (u0.1 1 6).toInt ≤ 126) hP hD hS (lv_sub hl [1, 2, 0] rfl)
      · exact L26 _ _ _ _ hR hF hK_N4 (by omega : (-128 : Int) ≤ (u0.1 1 6).toInt ∧ (u0.1 1 6).toInt ≤ 127) hP hD hS (lv_sub hl [1] rfl)
set_option maxHeartbeats 600000 in
set_option maxRecDepth 100000 in
theorem c_X9_readBoth_51_d2 (l : Launch) (dC : Nat → ClassId) (dI : Nat → Nat → Nat) (ad : Nat → Nat) (cA : Nat → ClassId) (nF : Nat) (u0 : ac_U) (p0 : Int32) (hR : ac_R rg u0) (hp0 : (2 : Int) ≤ p0.toInt ∧ p0.toInt ≤ 2) (hK_N4 : nmI 11 12 u0) : ac_Mi l yX9_readBoth (.code yX9_readBoth cX9_readBoth 3 (some .boolean) :: TB) 31 (dC, dI) vwCl (ac_ty cA) ad cA (TT nF) [.ref (ad 51), .int p0] u0 (fun (r : Int32) (u : ac_U) => ac_R rg u ∧ ac_Fr [(1, some 4), (1, some 5), (1, some 6), (1, some 8), (1, some 9), (1, some 10), (1, some 11), (47, some 3), (47, some 4), (48, none), (49, none), (50, none)] u0 u ∧ ((0 : Int) ≤ r.toInt ∧ r.toInt ≤ 1)) := by
  refine ac_Mi.of (cc := cX9_readBoth) (maxL := 3) (ret := (some .boolean)) (by decide) rfl (Nat.le_of_ble_eq_true rfl) ?_
  intro p e s m below meth c A ls F hml hr hlocks hA hP hD hS hl
  have F : ac_X p s m [.ref (ad 51), .int p0].toArray c cX9_readBoth RX9 TB (dC, dI) vwCl (ac_ty cA) := ⟨F.1, F.2.1, fun w h => F.2.2.1 w (List.mem_cons_of_mem _ h), F.2.2.2.1, F.2.2.2.2⟩
  have hl : lv_has ls 3 [(0, .ref (ad 51)), (1, .int p0)] := hl
  have hF : ac_Fr [(1, some 4), (1, some 5), (1, some 6), (1, some 8), (1, some 9), (1, some 10), (1, some 11), (47, some 3), (47, some 4), (48, none), (49, none), (50, none)] u0 u0 := ac_Fr.rf
  have L64 : ∀ (u : ac_U) (H : Heap) (locs : List Loc) (ls : Array Slot), ac_R rg u → ac_Fr [(1, some 4), (1, some 5), (1, some 6), (1, some 8), (1, some 9), (1, some 10), (1, some 11), (47, some 3), (47, some 4), (48, none), (49, none), (50, none)] u0 u → nmI 11 12 u → va_P (dC, dI) vwCl (ac_w ad cA (TT nF) u) H → va_D A (ac_w ad cA (TT nF) u) → va_S A s.heap H locs → lv_has ls 3 [] → W p l e (ac_rm 31) s m [.ref (ad 51), .int p0].toArray below meth c H locs 0 0 (MQ below (va_Qi (fun (r : Int32) (u : ac_U) => ac_R rg u ∧ ac_Fr [(1, some 4), (1, some 5), (1, some 6), (1, some 8), (1, some 9), (1, some 10), (1, some 11), (47, some 3), (47, some 4), (48, none), (49, none), (50, none)] u0 u ∧ ((0 : Int) ≤ r.toInt ∧ r.toInt ≤ 1)) (ac_B (dC, dI) vwCl (ac_ty cA) ad cA (TT nF) A) A) [.ref (ad 51), .int p0].toArray s 0 0 A) (F0 m 64 ls []) := by
    intro u H locs ls hR hF hK_N4 hP hD hS hl
    refine a_ic F (1 : Int32) dX9_readBoth_64 (by decide) ?_
    exact a_retz F hr hlocks hP hD hS dX9_readBoth_65 (Or.inr rfl) ⟨hR, hF, (by decide)⟩
  have L12 : ∀ (n12 : Nat) (x2 : Int32) (u : ac_U) (H : Heap) (locs : List Loc) (ls : Array Slot), ac_R rg u → ac_Fr [(1, some 4), (1, some 5), (1, some 6), (1, some 8), (1, some 9), (1, some 10), (1, some 11), (47, some 3), (47, some 4), (48, none), (49, none), (50, none)] u0 u → 20 - x2.toInt < (n12 : Int) → nmI 11 12 u → (0 : Int) ≤ x2.toInt ∧ x2.toInt ≤ 20 → va_P (dC, dI) vwCl (ac_w ad cA (TT nF) u) H → va_D A (ac_w ad cA (TT nF) u) → va_S A s.heap H locs → lv_has ls 3 [(0, .ref (ad 51)), (1, .int p0), (2, .int x2)] → W p l e (ac_rm 31) s m [.ref (ad 51), .int p0].toArray below meth c H locs 0 0 (MQ below (va_Qi (fun (r : Int32) (u : ac_U) => ac_R rg u ∧ ac_Fr [(1, some 4), (1, some 5), (1, some 6), (1, some 8), (1, some 9), (1, some 10), (1, some 11), (47, some 3), (47, some 4), (48, none), (49, none), (50, none)] u0 u ∧ ((0 : Int) ≤ r.toInt ∧ r.toInt ≤ 1)) (ac_B (dC, dI) vwCl (ac_ty cA) ad cA (TT nF) A) A) [.ref (ad 51), .int p0].toArray s 0 0 A) (F0 m 12 ls []) := by
    intro n12
    induction n12 with
    | zero => intro x2 u H locs ls hR hF hn12 hK_N4 f0 hP hD hS hl; exfalso; omega
    | succ n12 ih12 =>
      intro x2 u H locs ls hR hF hn12 hK_N4 f0 hP hD hS hl
      refine lv_iload_n F.1 F.2.1 dX9_readBoth_12 rfl (lv_at hl 2 rfl) ?_
      refine a_bp F (20 : Int32) dX9_readBoth_13 (by decide) ?_
      refine b_ge F 64 dX9_readBoth_15 (by decide) rfl ic_20 (fun c1 => ?_) (fun c1 => ?_)
      · exact L64 _ _ _ _ hR hF hK_N4 hP hD hS (lv_sub hl [] rfl)
      · refine lv_aload_n F.1 F.2.1 dX9_readBoth_18 rfl (lv_at hl 0 rfl) ?_
        refine a_getr F inX9 hP 51 0 tc_51 rfl rfl (by decide) q465 (fun _ h9 => h9) dX9_readBoth_19 ?_
        have g2 : (-128 : Int) ≤ (u.1 1 6).toInt ∧ (u.1 1 6).toInt ≤ 127 := hR 1 6
        refine a_geti F inX10 hP 1 6 tc_1 rfl rfl (by decide) q103 (fun _ h9 => h9) (v := (u.1 1 6)) rfl dX9_readBoth_22 ?_
        refine a_bp F (115 : Int32) dX9_readBoth_25 (by decide) ?_
        refine b_ne F 64 dX9_readBoth_27 (by decide) rfl ic_115 (fun c3 => ?_) (fun c3 => ?_)
        · exact L64 _ _ _ _ hR hF hK_N4 hP hD hS (lv_sub hl [] rfl)
        · refine lv_aload_n F.1 F.2.1 dX9_readBoth_30 rfl (lv_at hl 0 rfl) ?_
          refine a_getr F inX9 hP 51 0 tc_51 rfl rfl (by decide) q465 (fun _ h9 => h9) dX9_readBoth_31 ?_
          refine a_Vv F hml hl.1 hA hP hD hS (As := []) (c_X10_readNext_1 l dC dI ad cA nF _  hR) (cs_RX9_45 (d := 3) F.2.2.1 (by decide)) tc_1 rfl rfl rfl rfl (Nat.le_of_ble_eq_true rfl) dX9_readBoth_34 ⟨Nat.le_refl 0, Nat.le_refl 0⟩ (fun u4 H locs hq hP hD hS => ?_)
          obtain ⟨hR, hF4⟩ := hq
          have hF := hF.tr hF4 (by decide)
          have hK_N4 := sp_fr sp_N4 hF4 (by decide) hK_N4
          refine lv_aload_n F.1 F.2.1 dX9_readBoth_37 rfl (lv_at hl 0 rfl) ?_
          refine lv_iload_n F.1 F.2.1 dX9_readBoth_38 rfl (lv_at hl 1 rfl) ?_
          refine a_Vi F hml hl.1 hA hP hD hS (As := [.int p0]) (c_X9_readOne_51_d2 l dC dI ad cA nF _ p0 hR (by omega) hK_N4) (cs_RX9_52 (d := 30) F.2.2.1 (by decide)) tc_51 rfl rfl rfl rfl (Nat.le_of_ble_eq_true rfl) dX9_readBoth_39 ⟨Nat.le_refl 0, Nat.le_refl 0⟩ (fun r5 u5 H locs hq hP hD hS => ?_)
          obtain ⟨hR, hF5, gr5⟩ := hq
          have hF := hF.tr hF5 (by decide)
          have hK_N4 := sp_fr sp_N4 hF5 (by decide) hK_N4
          refine z_ne F 47 dX9_readBoth_42 (by decide) rfl (fun c6 => ?_) (fun c6 => ?_)
          · refine lv_aload_n F.1 F.2.1 dX9_readBoth_47 rfl (lv_at hl 0 rfl) ?_
            refine a_getr F inX9 hP 51 2 tc_51 rfl rfl (by decide) q467 (fun _ h9 => h9) dX9_readBoth_48 ?_
            refine a_bp F (115 : Int32) dX9_readBoth_51 (by decide) ?_
            refine a_ic F (0 : Int32) dX9_readBoth_53 (by decide) ?_
            refine a_ic F (0 : Int32) dX9_readBoth_54 (by decide) ?_
            refine a_Vv F hml hl.1 hA hP hD hS (As := [.int (115 : Int32), .int (0 : Int32), .int (0 : Int32)]) (c_X8_add_47 l dC dI ad cA nF _ (115 : Int32) (0 : Int32) (0 : Int32) hR (by decide) (by decide)) (cs_RX9_48 (d := 1) F.2.2.1 (by decide)) tc_47 rfl rfl rfl rfl (Nat.le_of_ble_eq_true rfl) dX9_readBoth_55 ⟨Nat.le_refl 0, Nat.le_refl 0⟩ (fun u7 H locs hq hP hD hS => ?_)
            obtain ⟨hR, hF7⟩ := hq
            have hF := hF.tr hF7 (by decide)
            have hK_N4 := sp_fr sp_N4 hF7 (by decide) hK_N4
            refine a_iinc F (k := 2) (fun v8 => [(2, .int v8), (0, .ref (ad 51)), (1, .int p0)]) dX9_readBoth_58 hl rfl rfl (by decide) (by omega) (by decide) (fun _ => rfl) (fun v8 ls hv8 hl => ?_)
            refine lv_goto (tgt := 12) F.1 F.2.1 dX9_readBoth_61 (by decide) ?_
            exact ih12 v8 _ _ _ _ hR hF (by omega) hK_N4 (by omega) hP hD hS (lv_sub hl [1, 2, 0] rfl)
          · refine a_ic F (0 : Int32) dX9_readBoth_45 (by decide) ?_
            exact a_retz F hr hlocks hP hD hS dX9_readBoth_46 (Or.inl rfl) ⟨hR, hF, (by decide)⟩
  refine lv_aload_n F.1 F.2.1 dX9_readBoth_0 rfl (lv_at hl 0 rfl) ?_
  refine lv_iload_n F.1 F.2.1 dX9_readBoth_1 rfl (lv_at hl 1 rfl) ?_
  refine a_Vi F hml hl.1 hA hP hD hS (As := [.int p0]) (c_X9_readOne_51_d2 l dC dI ad cA nF _ p0 hR (by omega) hK_N4) (cs_RX9_52 (d := 30) F.2.2.1 (by decide)) tc_51 rfl rfl rfl rfl (Nat.le_of_ble_eq_true rfl) dX9_readBoth_2 ⟨Nat.le_refl 0, Nat.le_refl 0⟩ (fun r9 u9 H locs hq hP hD hS => ?_)
  obtain ⟨hR, hF9, gr9⟩ := hq
  have hF := hF.tr hF9 (by decide)
  have hK_N4 := sp_fr sp_N4 hF9 (by decide) hK_N4
  refine z_ne F 10 dX9_readBoth_5 (by decide) rfl (fun c10 => ?_) (fun c10 => ?_)
  · refine a_ic F (0 : Int32) dX9_readBoth_10 (by decide) ?_
    refine lv_istore_n (lv' := [(2, .int (0 : Int32)), (0, .ref (ad 51)), (1, .int p0)]) F.1 F.2.1 dX9_readBoth_11 rfl hl (by decide) rfl (fun ls hl => ?_)
    exact L12 22 (0 : Int32) _ _ _ _ hR hF (by decide) hK_N4 (by decide) hP hD hS (lv_sub hl [1, 2, 0] rfl)
  · refine a_ic F (0 : Int32) dX9_readBoth_8 (by decide) ?_
    exact a_retz F hr hlocks hP hD hS dX9_readBoth_9 (Or.inl rfl) ⟨hR, hF, (by decide)⟩
set_option maxHeartbeats 600000 in
set_option maxRecDepth 100000 in
theorem c_X9_readCond_51_d2 (l : Launch) (dC : Nat → ClassId) (dI : Nat → Nat → Nat) (ad : Nat → Nat) (cA : Nat → ClassId) (nF : Nat) (u0 : ac_U) (p0 : Int32) (hR : ac_R rg u0) (hp0 : (2 : Int) ≤ p0.toInt ∧ p0.toInt ≤ 2) (hK_N4 : nmI 11 12 u0) : ac_Mi l yX9_readCond (.code yX9_readCond cX9_readCond 3 (some .boolean) :: TB) 32 (dC, dI) vwCl (ac_ty cA) ad cA (TT nF) [.ref (ad 51), .int p0] u0 (fun (r : Int32) (u : ac_U) => ac_R rg u ∧ ac_Fr [(1, some 4), (1, some 5), (1, some 6), (1, some 8), (1, some 9), (1, some 10), (1, some 11), (47, some 3), (47, some 4), (48, none), (49, none), (50, none)] u0 u ∧ ((0 : Int) ≤ r.toInt ∧ r.toInt ≤ 1)) := by
  refine ac_Mi.of (cc := cX9_readCond) (maxL := 3) (ret := (some .boolean)) (by decide) rfl (Nat.le_of_ble_eq_true rfl) ?_
  intro p e s m below meth c A ls F hml hr hlocks hA hP hD hS hl
  have F : ac_X p s m [.ref (ad 51), .int p0].toArray c cX9_readCond RX9 TB (dC, dI) vwCl (ac_ty cA) := ⟨F.1, F.2.1, fun w h => F.2.2.1 w (List.mem_cons_of_mem _ h), F.2.2.2.1, F.2.2.2.2⟩
  have hl : lv_has ls 3 [(0, .ref (ad 51)), (1, .int p0)] := hl
  have hF : ac_Fr [(1, some 4), (1, some 5), (1, some 6), (1, some 8), (1, some 9), (1, some 10), (1, some 11), (47, some 3), (47, some 4), (48, none), (49, none), (50, none)] u0 u0 := ac_Fr.rf
  have L64 : ∀ (u : ac_U) (H : Heap) (locs : List Loc) (ls : Array Slot), ac_R rg u → ac_Fr [(1, some 4), (1, some 5), (1, some 6), (1, some 8), (1, some 9), (1, some 10), (1, some 11), (47, some 3), (47, some 4), (48, none), (49, none), (50, none)] u0 u → nmI 11 12 u → va_P (dC, dI) vwCl (ac_w ad cA (TT nF) u) H → va_D A (ac_w ad cA (TT nF) u) → va_S A s.heap H locs → lv_has ls 3 [] → W p l e (ac_rm 32) s m [.ref (ad 51), .int p0].toArray below meth c H locs 0 0 (MQ below (va_Qi (fun (r : Int32) (u : ac_U) => ac_R rg u ∧ ac_Fr [(1, some 4), (1, some 5), (1, some 6), (1, some 8), (1, some 9), (1, some 10), (1, some 11), (47, some 3), (47, some 4), (48, none), (49, none), (50, none)] u0 u ∧ ((0 : Int) ≤ r.toInt ∧ r.toInt ≤ 1)) (ac_B (dC, dI) vwCl (ac_ty cA) ad cA (TT nF) A) A) [.ref (ad 51), .int p0].toArray s 0 0 A) (F0 m 64 ls []) := by
    intro u H locs ls hR hF hK_N4 hP hD hS hl
    refine a_ic F (1 : Int32) dX9_readCond_64 (by decide) ?_
    exact a_retz F hr hlocks hP hD hS dX9_readCond_65 (Or.inr rfl) ⟨hR, hF, (by decide)⟩
  have L12 : ∀ (n12 : Nat) (x2 : Int32) (u : ac_U) (H : Heap) (locs : List Loc) (ls : Array Slot), ac_R rg u → ac_Fr [(1, some 4), (1, some 5), (1, some 6), (1, some 8), (1, some 9), (1, some 10), (1, some 11), (47, some 3), (47, some 4), (48, none), (49, none), (50, none)] u0 u → 20 - x2.toInt < (n12 : Int) → nmI 11 12 u → (0 : Int) ≤ x2.toInt ∧ x2.toInt ≤ 20 → va_P (dC, dI) vwCl (ac_w ad cA (TT nF) u) H → va_D A (ac_w ad cA (TT nF) u) → va_S A s.heap H locs → lv_has ls 3 [(0, .ref (ad 51)), (1, .int p0), (2, .int x2)] → W p l e (ac_rm 32) s m [.ref (ad 51), .int p0].toArray below meth c H locs 0 0 (MQ below (va_Qi (fun (r : Int32) (u : ac_U) => ac_R rg u ∧ ac_Fr [(1, some 4), (1, some 5), (1, some 6), (1, some 8), (1, some 9), (1, some 10), (1, some 11), (47, some 3), (47, some 4), (48, none), (49, none), (50, none)] u0 u ∧ ((0 : Int) ≤ r.toInt ∧ r.toInt ≤ 1)) (ac_B (dC, dI) vwCl (ac_ty cA) ad cA (TT nF) A) A) [.ref (ad 51), .int p0].toArray s 0 0 A) (F0 m 12 ls []) := by
    intro n12
    induction n12 with
    | zero => intro x2 u H locs ls hR hF hn12 hK_N4 f0 hP hD hS hl; exfalso; omega
    | succ n12 ih12 =>
      intro x2 u H locs ls hR hF hn12 hK_N4 f0 hP hD hS hl
      refine lv_iload_n F.1 F.2.1 dX9_readCond_12 rfl (lv_at hl 2 rfl) ?_
      refine a_bp F (20 : Int32) dX9_readCond_13 (by decide) ?_
      refine b_ge F 64 dX9_readCond_15 (by decide) rfl ic_20 (fun c1 => ?_) (fun c1 => ?_)
      · exact L64 _ _ _ _ hR hF hK_N4 hP hD hS (lv_sub hl [] rfl)
      · refine lv_aload_n F.1 F.2.1 dX9_readCond_18 rfl (lv_at hl 0 rfl) ?_
        refine a_getr F inX9 hP 51 0 tc_51 rfl rfl (by decide) q465 (fun _ h9 => h9) dX9_readCond_19 ?_
        have g2 : (-128 : Int) ≤ (u.1 1 6).toInt ∧ (u.1 1 6).toInt ≤ 127 := hR 1 6
        refine a_geti F inX10 hP 1 6 tc_1 rfl rfl (by decide) q103 (fun _ h9 => h9) (v := (u.1 1 6)) rfl dX9_readCond_22 ?_
        refine a_bp F (114 : Int32) dX9_readCond_25 (by decide) ?_
        refine b_ne F 64 dX9_readCond_27 (by decide) rfl ic_114 (fun c3 => ?_) (fun c3 => ?_)
        · exact L64 _ _ _ _ hR hF hK_N4 hP hD hS (lv_sub hl [] rfl)
        · refine lv_aload_n F.1 F.2.1 dX9_readCond_30 rfl (lv_at hl 0 rfl) ?_
          refine a_getr F inX9 hP 51 0 tc_51 rfl rfl (by decide) q465 (fun _ h9 => h9) dX9_readCond_31 ?_
          refine a_Vv F hml hl.1 hA hP hD hS (As := []) (c_X10_readNext_1 l dC dI ad cA nF _  hR) (cs_RX9_45 (d := 3) F.2.2.1 (by decide)) tc_1 rfl rfl rfl rfl (Nat.le_of_ble_eq_true rfl) dX9_readCond_34 ⟨Nat.le_refl 0, Nat.le_refl 0⟩ (fun u4 H locs hq hP hD hS => ?_)
          obtain ⟨hR, hF4⟩ := hq
          have hF := hF.tr hF4 (by decide)
          have hK_N4 := sp_fr sp_N4 hF4 (by decide) hK_N4
          refine lv_aload_n F.1 F.2.1 dX9_readCond_37 rfl (lv_at hl 0 rfl) ?_
          refine lv_iload_n F.1 F.2.1 dX9_readCond_38 rfl (lv_at hl 1 rfl) ?_
          refine a_Vi F hml hl.1 hA hP hD hS (As := [.int p0]) (c_X9_readBoth_51_d2 l dC dI ad cA nF _ p0 hR (by omega) hK_N4) (cs_RX9_42 (d := 31) F.2.2.1 (by decide)) tc_51 rfl rfl rfl rfl (Nat.le_of_ble_eq_true rfl) dX9_readCond_39 ⟨Nat.le_refl 0, Nat.le_refl 0⟩ (fun r5 u5 H locs hq hP hD hS => ?_)
          obtain ⟨hR, hF5, gr5⟩ := hq
          have hF := hF.tr hF5 (by decide)
          have hK_N4 := sp_fr sp_N4 hF5 (by decide) hK_N4
          refine z_ne F 47 dX9_readCond_42 (by decide) rfl (fun c6 => ?_) (fun c6 => ?_)
          · refine lv_aload_n F.1 F.2.1 dX9_readCond_47 rfl (lv_at hl 0 rfl) ?_
            refine a_getr F inX9 hP 51 2 tc_51 rfl rfl (by decide) q467 (fun _ h9 => h9) dX9_readCond_48 ?_
            refine a_bp F (114 : Int32) dX9_readCond_51 (by decide) ?_
            refine a_ic F (0 : Int32) dX9_readCond_53 (by decide) ?_
            refine a_ic F (0 : Int32) dX9_readCond_54 (by decide) ?_
            refine a_Vv F hml hl.1 hA hP hD hS (As := [.int (114 : Int32), .int (0 : Int32), .int (0 : Int32)]) (c_X8_add_47 l dC dI ad cA nF _ (114 : Int32) (0 : Int32) (0 : Int32) hR (by decide) (by decide)) (cs_RX9_48 (d := 1) F.2.2.1 (by decide)) tc_47 rfl rfl rfl rfl (Nat.le_of_ble_eq_true rfl) dX9_readCond_55 ⟨Nat.le_refl 0, Nat.le_refl 0⟩ (fun u7 H locs hq hP hD hS => ?_)
            obtain ⟨hR, hF7⟩ := hq
            have hF := hF.tr hF7 (by decide)
            have hK_N4 := sp_fr sp_N4 hF7 (by decide) hK_N4
            refine a_iinc F (k := 2) (fun v8 => [(2, .int v8), (0, .ref (ad 51)), (1, .int p0)]) dX9_readCond_58 hl rfl rfl (by decide) (by omega) (by decide) (fun _ => rfl) (fun v8 ls hv8 hl => ?_)
            refine lv_goto (tgt := 12) F.1 F.2.1 dX9_readCond_61 (by decide) ?_
            exact ih12 v8 _ _ _ _ hR hF (by omega) hK_N4 (by omega) hP hD hS (lv_sub hl [1, 2, 0] rfl)
          · refine a_ic F (0 : Int32) dX9_readCond_45 (by decide) ?_
            exact a_retz F hr hlocks hP hD hS dX9_readCond_46 (Or.inl rfl) ⟨hR, hF, (by decide)⟩
  refine lv_aload_n F.1 F.2.1 dX9_readCond_0 rfl (lv_at hl 0 rfl) ?_
  refine lv_iload_n F.1 F.2.1 dX9_readCond_1 rfl (lv_at hl 1 rfl) ?_
  refine a_Vi F hml hl.1 hA hP hD hS (As := [.int p0]) (c_X9_readBoth_51_d2 l dC dI ad cA nF _ p0 hR (by omega) hK_N4) (cs_RX9_42 (d := 31) F.2.2.1 (by decide)) tc_51 rfl rfl rfl rfl (Nat.le_of_ble_eq_true rfl) dX9_readCond_2 ⟨Nat.le_refl 0, Nat.le_refl 0⟩ (fun r9 u9 H locs hq hP hD hS => ?_)
  obtain ⟨hR, hF9, gr9⟩ := hq
  have hF := hF.tr hF9 (by decide)
  have hK_N4 := sp_fr sp_N4 hF9 (by decide) hK_N4
  refine z_ne F 10 dX9_readCond_5 (by decide) rfl (fun c10 => ?_) (fun c10 => ?_)
  · refine a_ic F (0 : Int32) dX9_readCond_10 (by decide) ?_
    refine lv_istore_n (lv' := [(2, .int (0 : Int32)), (0, .ref (ad 51)), (1, .int p0)]) F.1 F.2.1 dX9_readCond_11 rfl hl (by decide) rfl (fun ls hl => ?_)
    exact L12 22 (0 : Int32) _ _ _ _ hR hF (by decide) hK_N4 (by decide) hP hD hS (lv_sub hl [1, 2, 0] rfl)
  · refine a_ic F (0 : Int32) dX9_readCond_8 (by decide) ?_
    exact a_retz F hr hlocks hP hD hS dX9_readCond_9 (Or.inl rfl) ⟨hR, hF, (by decide)⟩
set_option maxHeartbeats 600000 in
set_option maxRecDepth 100000 in
theorem c_X9_readBracket_51_d1 (l : Launch) (dC : Nat → ClassId) (dI : Nat → Nat → Nat) (ad : Nat → Nat) (cA : Nat → ClassId) (nF : Nat) (u0 : ac_U) (p0 : Int32) (hR : ac_R rg u0) (hp0 : (1 : Int) ≤ p0.toInt ∧ p0.toInt ≤ 1) (hK_N4 : nmI 11 12 u0) : ac_Mi l yX9_readBracket (.code yX9_readBracket cX9_readBracket 2 (some .boolean) :: TB) 33 (dC, dI) vwCl (ac_ty cA) ad cA (TT nF) [.ref (ad 51), .int p0] u0 (fun (r : Int32) (u : ac_U) => ac_R rg u ∧ ac_Fr [(1, some 4), (1, some 5), (1, some 6), (1, some 8), (1, some 9), (1, some 10), (1, some 11), (47, some 3), (47, some 4), (48, none), (49, none), (50, none)] u0 u ∧ ((0 : Int) ≤ r.toInt ∧ r.toInt ≤ 1)) := by
  refine ac_Mi.of (cc := cX9_readBracket) (maxL := 2) (ret := (some .boolean)) (by decide) rfl (Nat.le_of_ble_eq_true rfl) ?_
  intro p e s m below meth c A ls F hml hr hlocks hA hP hD hS hl
  have F : ac_X p s m [.ref (ad 51), .int p0].toArray c cX9_readBracket RX9 TB (dC, dI) vwCl (ac_ty cA) := ⟨F.1, F.2.1, fun w h => F.2.2.1 w (List.mem_cons_of_mem _ h), F.2.2.2.1, F.2.2.2.2⟩
  have hl : lv_has ls 2 [(0, .ref (ad 51)), (1, .int p0)] := hl
  have hF : ac_Fr [(1, some 4), (1, some 5), (1, some 6), (1, some 8), (1, some 9), (1, some 10), (1, some 11), (47, some 3), (47, some 4), (48, none), (49, none), (50, none)] u0 u0 := ac_Fr.rf
  refine lv_aload_n F.1 F.2.1 dX9_readBracket_0 rfl (lv_at hl 0 rfl) ?_
  refine a_getr F inX9 hP 51 0 tc_51 rfl rfl (by decide) q465 (fun _ h9 => h9) dX9_readBracket_1 ?_
  refine a_Vv F hml hl.1 hA hP hD hS (As := []) (c_X10_readNext_1 l dC dI ad cA nF _  hR) (cs_RX9_45 (d := 3) F.2.2.1 (by decide)) tc_1 rfl rfl rfl rfl (Nat.le_of_ble_eq_true rfl) dX9_readBracket_4 ⟨Nat.le_refl 0, Nat.le_refl 0⟩ (fun u1 H locs hq hP hD hS => ?_)
  obtain ⟨hR, hF1⟩ := hq
  have hF := hF.tr hF1 (by decide)
  have hK_N4 := sp_fr sp_N4 hF1 (by decide) hK_N4
  refine lv_aload_n F.1 F.2.1 dX9_readBracket_7 rfl (lv_at hl 0 rfl) ?_
  refine lv_iload_n F.1 F.2.1 dX9_readBracket_8 rfl (lv_at hl 1 rfl) ?_
  refine a_ic F (1 : Int32) dX9_readBracket_9 (by decide) ?_
  refine a_iadd F dX9_readBracket_10 rfl ic_1 (by omega) (fun v2 hv2 => ?_)
  refine a_Vi F hml hl.1 hA hP hD hS (As := [.int v2]) (c_X9_readCond_51_d2 l dC dI ad cA nF _ v2 hR (by omega) hK_N4) (cs_RX9_74 (d := 32) F.2.2.1 (by decide)) tc_51 rfl rfl rfl rfl (Nat.le_of_ble_eq_true rfl) dX9_readBracket_11 ⟨Nat.le_refl 0, Nat.le_refl 0⟩ (fun r3 u3 H locs hq hP hD hS => ?_)
  obtain ⟨hR, hF3, gr3⟩ := hq
  have hF := hF.tr hF3 (by decide)
  have hK_N4 := sp_fr sp_N4 hF3 (by decide) hK_N4
  refine z_ne F 19 dX9_readBracket_14 (by decide) rfl (fun c4 => ?_) (fun c4 => ?_)
  · refine lv_aload_n F.1 F.2.1 dX9_readBracket_19 rfl (lv_at hl 0 rfl) ?_
    refine a_getr F inX9 hP 51 0 tc_51 rfl rfl (by decide) q465 (fun _ h9 => h9) dX9_readBracket_20 ?_
    have g5 : (-128 : Int) ≤ (u3.1 1 6).toInt ∧ (u3.1 1 6).toInt ≤ 127 := hR 1 6
    refine a_geti F inX10 hP 1 6 tc_1 rfl rfl (by decide) q103 (fun _ h9 => h9) (v := (u3.1 1 6)) rfl dX9_readBracket_23 ?_
    refine a_bp F (41 : Int32) dX9_readBracket_26 (by decide) ?_
    refine b_eq F 40 dX9_readBracket_28 (by decide) rfl ic_41 (fun c6 => ?_) (fun c6 => ?_)
    · refine lv_aload_n F.1 F.2.1 dX9_readBracket_40 rfl (lv_at hl 0 rfl) ?_
      refine a_getr F inX9 hP 51 0 tc_51 rfl rfl (by decide) q465 (fun _ h9 => h9) dX9_readBracket_41 ?_
      refine a_Vv F hml hl.1 hA hP hD hS (As := []) (c_X10_readNext_1 l dC dI ad cA nF _  hR) (cs_RX9_45 (d := 3) F.2.2.1 (by decide)) tc_1 rfl rfl rfl rfl (Nat.le_of_ble_eq_true rfl) dX9_readBracket_44 ⟨Nat.le_refl 0, Nat.le_refl 0⟩ (fun u7 H locs hq hP hD hS => ?_)
      obtain ⟨hR, hF7⟩ := hq
      have hF := hF.tr hF7 (by decide)
      have hK_N4 := sp_fr sp_N4 hF7 (by decide) hK_N4
      refine a_ic F (1 : Int32) dX9_readBracket_47 (by decide) ?_
      exact a_retz F hr hlocks hP hD hS dX9_readBracket_48 (Or.inr rfl) ⟨hR, hF, (by decide)⟩
    · refine lv_aload_n F.1 F.2.1 dX9_readBracket_31 rfl (lv_at hl 0 rfl) ?_
      refine a_getr F inX9 hP 51 0 tc_51 rfl rfl (by decide) q465 (fun _ h9 => h9) dX9_readBracket_32 ?_
      refine a_ic F (1 : Int32) dX9_readBracket_35 (by decide) ?_
      refine a_Vi F hml hl.1 hA hP hD hS (As := [.int (1 : Int32)]) (c_X10_fail_1 l dC dI ad cA nF _ (1 : Int32) hR (by decide)) (cs_RX9_38 (d := 1) F.2.2.1 (by decide)) tc_1 rfl rfl rfl rfl (Nat.le_of_ble_eq_true rfl) dX9_readBracket_36 ⟨Nat.le_refl 0, Nat.le_refl 0⟩ (fun r8 u8 H locs hq hP hD hS => ?_)
      obtain ⟨hR, hF8, gr8⟩ := hq
      have hF := hF.tr hF8 (by decide)
      have hK_N4 := sp_fr sp_N4 hF8 (by decide) hK_N4
      exact a_retz F hr hlocks hP hD hS dX9_readBracket_39 (i_01 (by omega)) ⟨hR, hF, (by omega : (0 : Int) ≤ r8.toInt ∧ r8.toInt ≤ 1)⟩
  · refine a_ic F (0 : Int32) dX9_readBracket_17 (by decide) ?_
    exact a_retz F hr hlocks hP hD hS dX9_readBracket_18 (Or.inl rfl) ⟨hR, hF, (by decide)⟩
set_option maxHeartbeats 600000 in
set_option maxRecDepth 100000 in
theorem c_X9_readNot_51_d1 (l : Launch) (dC : Nat → ClassId) (dI : Nat → Nat → Nat) (ad : Nat → Nat) (cA : Nat → ClassId) (nF : Nat) (u0 : ac_U) (p0 : Int32) (hR : ac_R rg u0) (hp0 : (1 : Int) ≤ p0.toInt ∧ p0.toInt ≤ 1) (hK_N4 : nmI 11 12 u0) : ac_Mi l yX9_readNot (.code yX9_readNot cX9_readNot 2 (some .boolean) :: TB) 31 (dC, dI) vwCl (ac_ty cA) ad cA (TT nF) [.ref (ad 51), .int p0] u0 (fun (r : Int32) (u : ac_U) => ac_R rg u ∧ ac_Fr [(1, some 4), (1, some 5), (1, some 6), (1, some 8), (1, some 9), (1, some 10), (1, some 11), (47, some 3), (47, some 4), (48, none), (49, none), (50, none)] u0 u ∧ ((0 : Int) ≤ r.toInt ∧ r.toInt ≤ 1)) := by
  refine ac_Mi.of (cc := cX9_readNot) (maxL := 2) (ret := (some .boolean)) (by decide) rfl (Nat.le_of_ble_eq_true rfl) ?_
  intro p e s m below meth c A ls F hml hr hlocks hA hP hD hS hl
  have F : ac_X p s m [.ref (ad 51), .int p0].toArray c cX9_readNot RX9 TB (dC, dI) vwCl (ac_ty cA) := ⟨F.1, F.2.1, fun w h => F.2.2.1 w (List.mem_cons_of_mem _ h), F.2.2.2.1, F.2.2.2.2⟩
  have hl : lv_has ls 2 [(0, .ref (ad 51)), (1, .int p0)] := hl
  have hF : ac_Fr [(1, some 4), (1, some 5), (1, some 6), (1, some 8), (1, some 9), (1, some 10), (1, some 11), (47, some 3), (47, some 4), (48, none), (49, none), (50, none)] u0 u0 := ac_Fr.rf
  refine lv_aload_n F.1 F.2.1 dX9_readNot_0 rfl (lv_at hl 0 rfl) ?_
  refine a_getr F inX9 hP 51 0 tc_51 rfl rfl (by decide) q465 (fun _ h9 => h9) dX9_readNot_1 ?_
  refine a_Vv F hml hl.1 hA hP hD hS (As := []) (c_X10_readNext_1 l dC dI ad cA nF _  hR) (cs_RX9_45 (d := 3) F.2.2.1 (by decide)) tc_1 rfl rfl rfl rfl (Nat.le_of_ble_eq_true rfl) dX9_readNot_4 ⟨Nat.le_refl 0, Nat.le_refl 0⟩ (fun u1 H locs hq hP hD hS => ?_)
  obtain ⟨hR, hF1⟩ := hq
  have hF := hF.tr hF1 (by decide)
  have hK_N4 := sp_fr sp_N4 hF1 (by decide) hK_N4
  refine lv_aload_n F.1 F.2.1 dX9_readNot_7 rfl (lv_at hl 0 rfl) ?_
  refine lv_iload_n F.1 F.2.1 dX9_readNot_8 rfl (lv_at hl 1 rfl) ?_
  refine a_ic F (1 : Int32) dX9_readNot_9 (by decide) ?_
  refine a_iadd F dX9_readNot_10 rfl ic_1 (by omega) (fun v2 hv2 => ?_)
  refine a_Vi F hml hl.1 hA hP hD hS (As := [.int v2]) (c_X9_readOne_51_d2 l dC dI ad cA nF _ v2 hR (by omega) hK_N4) (cs_RX9_52 (d := 30) F.2.2.1 (by decide)) tc_51 rfl rfl rfl rfl (Nat.le_of_ble_eq_true rfl) dX9_readNot_11 ⟨Nat.le_refl 0, Nat.le_refl 0⟩ (fun r3 u3 H locs hq hP hD hS => ?_)
  obtain ⟨hR, hF3, gr3⟩ := hq
  have hF := hF.tr hF3 (by decide)
  have hK_N4 := sp_fr sp_N4 hF3 (by decide) hK_N4
  refine z_ne F 19 dX9_readNot_14 (by decide) rfl (fun c4 => ?_) (fun c4 => ?_)
  · refine lv_aload_n F.1 F.2.1 dX9_readNot_19 rfl (lv_at hl 0 rfl) ?_
    refine a_getr F inX9 hP 51 2 tc_51 rfl rfl (by decide) q467 (fun _ h9 => h9) dX9_readNot_20 ?_
    refine a_bp F (116 : Int32) dX9_readNot_23 (by decide) ?_
    refine a_ic F (0 : Int32) dX9_readNot_25 (by decide) ?_
    refine a_ic F (0 : Int32) dX9_readNot_26 (by decide) ?_
    refine a_Vv F hml hl.1 hA hP hD hS (As := [.int (116 : Int32), .int (0 : Int32), .int (0 : Int32)]) (c_X8_add_47 l dC dI ad cA nF _ (116 : Int32) (0 : Int32) (0 : Int32) hR (by decide) (by decide)) (cs_RX9_48 (d := 1) F.2.2.1 (by decide)) tc_47 rfl rfl rfl rfl (Nat.le_of_ble_eq_true rfl) dX9_readNot_27 ⟨Nat.le_refl 0, Nat.le_refl 0⟩ (fun u5 H locs hq hP hD hS => ?_)
    obtain ⟨hR, hF5⟩ := hq
    have hF := hF.tr hF5 (by decide)
    have hK_N4 := sp_fr sp_N4 hF5 (by decide) hK_N4
    refine a_ic F (1 : Int32) dX9_readNot_30 (by decide) ?_
    exact a_retz F hr hlocks hP hD hS dX9_readNot_31 (Or.inr rfl) ⟨hR, hF, (by decide)⟩
  · refine a_ic F (0 : Int32) dX9_readNot_17 (by decide) ?_
    exact a_retz F hr hlocks hP hD hS dX9_readNot_18 (Or.inl rfl) ⟨hR, hF, (by decide)⟩
set_option maxHeartbeats 600000 in
set_option maxRecDepth 100000 in
theorem c_X9_readOne_51_d1 (l : Launch) (dC : Nat → ClassId) (dI : Nat → Nat → Nat) (ad : Nat → Nat) (cA : Nat → ClassId) (nF : Nat) (u0 : ac_U) (p0 : Int32) (hR : ac_R rg u0) (hp0 : (1 : Int) ≤ p0.toInt ∧ p0.toInt ≤ 1) (hK_N4 : nmI 11 12 u0) : ac_Mi l yX9_readOne (.code yX9_readOne cX9_readOne 3 (some .boolean) :: TB) 34 (dC, dI) vwCl (ac_ty cA) ad cA (TT nF) [.ref (ad 51), .int p0] u0 (fun (r : Int32) (u : ac_U) => ac_R rg u ∧ ac_Fr [(1, some 4), (1, some 5), (1, some 6), (1, some 8), (1, some 9), (1, some 10), (1, some 11), (47, some 3), (47, some 4), (48, none), (49, none), (50, none)] u0 u ∧ ((0 : Int) ≤ r.toInt ∧ r.toInt ≤ 1)) := by
  refine ac_Mi.of (cc := cX9_readOne) (maxL := 3) (ret := (some .boolean)) (by decide) rfl (Nat.le_of_ble_eq_true rfl) ?_
  intro p e s m below meth c A ls F hml hr hlocks hA hP hD hS hl
  have F : ac_X p s m [.ref (ad 51), .int p0].toArray c cX9_readOne RX9 TB (dC, dI) vwCl (ac_ty cA) := ⟨F.1, F.2.1, fun w h => F.2.2.1 w (List.mem_cons_of_mem _ h), F.2.2.2.1, F.2.2.2.2⟩
  have hl : lv_has ls 3 [(0, .ref (ad 51)), (1, .int p0)] := hl
  have hF : ac_Fr [(1, some 4), (1, some 5), (1, some 6), (1, some 8), (1, some 9), (1, some 10), (1, some 11), (47, some 3), (47, some 4), (48, none), (49, none), (50, none)] u0 u0 := ac_Fr.rf
  have L53 : ∀ (u : ac_U) (H : Heap) (locs : List Loc) (ls : Array Slot), ac_R rg u → ac_Fr [(1, some 4), (1, some 5), (1, some 6), (1, some 8), (1, some 9), (1, some 10), (1, some 11), (47, some 3), (47, some 4), (48, none), (49, none), (50, none)] u0 u → nmI 11 12 u → (40 : Int) ≤ (u.1 1 6).toInt ∧ (u.1 1 6).toInt ≤ 126 → (20 : Int) ≤ (u.1 47 4).toInt ∧ (u.1 47 4).toInt ≤ 20 → va_P (dC, dI) vwCl (ac_w ad cA (TT nF) u) H → va_D A (ac_w ad cA (TT nF) u) → va_S A s.heap H locs → lv_has ls 3 [(0, .ref (ad 51))] → W p l e (ac_rm 34) s m [.ref (ad 51), .int p0].toArray below meth c H locs 0 0 (MQ below (va_Qi (fun (r : Int32) (u : ac_U) => ac_R rg u ∧ ac_Fr [(1, some 4), (1, some 5), (1, some 6), (1, some 8), (1, some 9), (1, some 10), (1, some 11), (47, some 3), (47, some 4), (48, none), (49, none), (50, none)] u0 u ∧ ((0 : Int) ≤ r.toInt ∧ r.toInt ≤ 1)) (ac_B (dC, dI) vwCl (ac_ty cA) ad cA (TT nF) A) A) [.ref (ad 51), .int p0].toArray s 0 0 A) (F0 m 53 ls []) := by
    intro u H locs ls hR hF hK_N4 f0 f1 hP hD hS hl
    refine lv_aload_n F.1 F.2.1 dX9_readOne_53 rfl (lv_at hl 0 rfl) ?_
    refine a_getr F inX9 hP 51 0 tc_51 rfl rfl (by decide) q465 (fun _ h9 => h9) dX9_readOne_54 ?_
    refine a_ic F (4 : Int32) dX9_readOne_57 (by decide) ?_
    refine a_Vi F hml hl.1 hA hP hD hS (As := [.int (4 : Int32)]) (c_X10_fail_1 l dC dI ad cA nF _ (4 : Int32) hR (by decide)) (cs_RX9_38 (d := 1) F.2.2.1 (by decide)) tc_1 rfl rfl rfl rfl (Nat.le_of_ble_eq_true rfl) dX9_readOne_58 ⟨Nat.le_refl 0, Nat.le_refl 0⟩ (fun r1 u1 H locs hq hP hD hS => ?_)
    obtain ⟨hR, hF1, gr1⟩ := hq
    have hF := hF.tr hF1 (by decide)
    have hK_N4 := sp_fr sp_N4 hF1 (by decide) hK_N4
    exact a_retz F hr hlocks hP hD hS dX9_readOne_61 (i_01 (by omega)) ⟨hR, hF, (by omega : (0 : Int) ≤ r1.toInt ∧ r1.toInt ≤ 1)⟩
  have L35 : ∀ (x2 : Int32) (u : ac_U) (H : Heap) (locs : List Loc) (ls : Array Slot), ac_R rg u → ac_Fr [(1, some 4), (1, some 5), (1, some 6), (1, some 8), (1, some 9), (1, some 10), (1, some 11), (47, some 3), (47, some 4), (48, none), (49, none), (50, none)] u0 u → nmI 11 12 u → (40 : Int) ≤ x2.toInt ∧ x2.toInt ≤ 126 → (40 : Int) ≤ (u.1 1 6).toInt ∧ (u.1 1 6).toInt ≤ 126 → va_P (dC, dI) vwCl (ac_w ad cA (TT nF) u) H → va_D A (ac_w ad cA (TT nF) u) → va_S A s.heap H locs → lv_has ls 3 [(0, .ref (ad 51)), (1, .int p0), (2, .int x2)] → W p l e (ac_rm 34) s m [.ref (ad 51), .int p0].toArray below meth c H locs 0 0 (MQ below (va_Qi (fun (r : Int32) (u : ac_U) => ac_R rg u ∧ ac_Fr [(1, some 4), (1, some 5), (1, some 6), (1, some 8), (1, some 9), (1, some 10), (1, some 11), (47, some 3), (47, some 4), (48, none), (49, none), (50, none)] u0 u ∧ ((0 : Int) ≤ r.toInt ∧ r.toInt ≤ 1)) (ac_B (dC, dI) vwCl (ac_ty cA) ad cA (TT nF) A) A) [.ref (ad 51), .int p0].toArray s 0 0 A) (F0 m 35 ls []) := by
    intro x2 u H locs ls hR hF hK_N4 f0 f1 hP hD hS hl
    refine lv_aload_n F.1 F.2.1 dX9_readOne_35 rfl (lv_at hl 0 rfl) ?_
    refine a_getr F inX9 hP 51 2 tc_51 rfl rfl (by decide) q467 (fun _ h9 => h9) dX9_readOne_36 ?_
    have g2 : (0 : Int) ≤ (u.1 47 4).toInt ∧ (u.1 47 4).toInt ≤ 20 := hR 47 4
    refine a_geti F inX8 hP 47 4 tc_47 rfl rfl (by decide) q446 (fun _ h9 => h9) (v := (u.1 47 4)) rfl dX9_readOne_39 ?_
    refine a_bp F (20 : Int32) dX9_readOne_42 (by decide) ?_
    refine b_ge F 53 dX9_readOne_44 (by decide) rfl ic_20 (fun c3 => ?_) (fun c3 => ?_)
    · have g4 : (-128 : Int) ≤ (u.1 1 6).toInt ∧ (u.1 1 6).toInt ≤ 127 := hR 1 6
      exact L53 _ _ _ _ hR hF hK_N4 (by omega : (40 : Int) ≤ (u.1 1 6).toInt ∧ (u.1 1 6).toInt ≤ 126) (by omega : (20 : Int) ≤ (u.1 47 4).toInt ∧ (u.1 47 4).toInt ≤ 20) hP hD hS (lv_sub hl [0] rfl)
    · refine lv_iload_n F.1 F.2.1 dX9_readOne_47 rfl (lv_at hl 1 rfl) ?_
      refine a_bp F (8 : Int32) dX9_readOne_48 (by decide) ?_
      refine b_le F 62 dX9_readOne_50 (by decide) rfl ic_8 (fun c5 => ?_) (fun c5 => ?_)
      · refine lv_aload_n F.1 F.2.1 dX9_readOne_62 rfl (lv_at hl 0 rfl) ?_
        refine a_getr F inX9 hP 51 2 tc_51 rfl rfl (by decide) q467 (fun _ h9 => h9) dX9_readOne_63 ?_
        refine lv_dup F.1 F.2.1 dX9_readOne_66 rfl ?_
        refine a_geti F inX8 hP 47 4 tc_47 rfl rfl (by decide) q446 (fun _ h9 => h9) (v := (u.1 47 4)) (rfl) dX9_readOne_67 ?_
        refine a_ic F (1 : Int32) dX9_readOne_70 (by decide) ?_
        refine a_iadd F dX9_readOne_71 rfl ic_1 (by omega) (fun v6 hv6 => ?_)
        refine a_puti F inX8 tyX8 tyX8_ok nmX8 hP hD hS 47 4 tc_47 rfl rfl (by decide) q446 (fun _ h9 => h9) rfl (ty := .int) (tyX8_ok 4 (by decide)) rfl rfl dX9_readOne_72 (fun H locs hP hD hS => ?_)
        have hR := hR.si (c := 47) (k := 4) (v := v6) (by omega : (0 : Int) ≤ v6.toInt ∧ v6.toInt ≤ 20)
        have hF := hF.si (c := 47) (k := 4) (v := v6) rfl
        have hK_N4 := sp_sgD sp_N4 hD hK_N4 (by decide)
        refine lv_iload_n F.1 F.2.1 dX9_readOne_75 rfl (lv_at hl 2 rfl) ?_
        refine a_bp F (40 : Int32) dX9_readOne_76 (by decide) ?_
        refine b_ne F 87 dX9_readOne_78 (by decide) rfl ic_40 (fun c7 => ?_) (fun c7 => ?_)
        · refine lv_iload_n F.1 F.2.1 dX9_readOne_87 rfl (lv_at hl 2 rfl) ?_
          refine a_bp F (116 : Int32) dX9_readOne_88 (by decide) ?_
          refine b_ne F 99 dX9_readOne_90 (by decide) rfl ic_116 (fun c8 => ?_) (fun c8 => ?_)
          · refine lv_iload_n F.1 F.2.1 dX9_readOne_99 rfl (lv_at hl 2 rfl) ?_
            refine a_bp F (122 : Int32) dX9_readOne_100 (by decide) ?_
            refine b_ne F 110 dX9_readOne_102 (by decide) rfl ic_122 (fun c9 => ?_) (fun c9 => ?_)
            · refine lv_iload_n F.1 F.2.1 dX9_readOne_110 rfl (lv_at hl 2 rfl) ?_
              refine a_bp F (122 : Int32) dX9_readOne_111 (by decide) ?_
              refine b_le F 124 dX9_readOne_113 (by decide) rfl ic_122 (fun c10 => ?_) (fun c10 => ?_)
              · refine lv_aload_n F.1 F.2.1 dX9_readOne_124 rfl (lv_at hl 0 rfl) ?_
                refine lv_iload_n F.1 F.2.1 dX9_readOne_125 rfl (lv_at hl 2 rfl) ?_
                refine a_Vi F hml hl.1 hA hP hD hS (As := [.int x2]) (c_X9_readStatus_51 l dC dI ad cA nF _ x2 hR (by omega)) (cs_RX9_71 (d := 4) F.2.2.1 (by decide)) tc_51 rfl rfl rfl rfl (Nat.le_of_ble_eq_true rfl) dX9_readOne_126 ⟨Nat.le_refl 0, Nat.le_refl 0⟩ (fun r11 u11 H locs hq hP hD hS => ?_)
                obtain ⟨hR, hF11, gr11⟩ := hq
                have hF := hF.tr hF11 (by decide)
                have hK_N4 := sp_fr sp_N4 hF11 (by decide) hK_N4
                exact a_retz F hr hlocks hP hD hS dX9_readOne_129 (i_01 (by omega)) ⟨hR, hF, (by omega : (0 : Int) ≤ r11.toInt ∧ r11.toInt ≤ 1)⟩
              · refine lv_aload_n F.1 F.2.1 dX9_readOne_116 rfl (lv_at hl 0 rfl) ?_
                refine lv_iload_n F.1 F.2.1 dX9_readOne_117 rfl (lv_at hl 2 rfl) ?_
                refine a_Vi F hml hl.1 hA hP hD hS (As := [.int x2]) (c_X9_readCompare_51 l dC dI ad cA nF _ x2 hR (by omega)) (cs_RX9_68 (d := 4) F.2.2.1 (by decide)) tc_51 rfl rfl rfl rfl (Nat.le_of_ble_eq_true rfl) dX9_readOne_118 ⟨Nat.le_refl 0, Nat.le_refl 0⟩ (fun r12 u12 H locs hq hP hD hS => ?_)
                obtain ⟨hR, hF12, gr12⟩ := hq
                have hF := hF.tr hF12 (by decide)
                have hK_N4 := sp_fr sp_N4 hF12 (by decide) hK_N4
                refine lv_goto (tgt := 129) F.1 F.2.1 dX9_readOne_121 (by decide) ?_
                exact a_retz F hr hlocks hP hD hS dX9_readOne_129 (i_01 (by omega)) ⟨hR, hF, (by omega : (0 : Int) ≤ r12.toInt ∧ r12.toInt ≤ 1)⟩
            · refine lv_aload_n F.1 F.2.1 dX9_readOne_105 rfl (lv_at hl 0 rfl) ?_
              refine a_Vi F hml hl.1 hA hP hD hS (As := []) (c_X9_readOf_51 l dC dI ad cA nF _  hR hK_N4) (cs_RX9_64 (d := 4) F.2.2.1 (by decide)) tc_51 rfl rfl rfl rfl (Nat.le_of_ble_eq_true rfl) dX9_readOne_106 ⟨Nat.le_refl 0, Nat.le_refl 0⟩ (fun r13 u13 H locs hq hP hD hS => ?_)
              obtain ⟨hR, hF13, gr13⟩ := hq
              have hF := hF.tr hF13 (by decide)
              have hK_N4 := sp_fr sp_N4 hF13 (by decide) hK_N4
              exact a_retz F hr hlocks hP hD hS dX9_readOne_109 (i_01 (by omega)) ⟨hR, hF, (by omega : (0 : Int) ≤ r13.toInt ∧ r13.toInt ≤ 1)⟩
          · refine lv_aload_n F.1 F.2.1 dX9_readOne_93 rfl (lv_at hl 0 rfl) ?_
            refine lv_iload_n F.1 F.2.1 dX9_readOne_94 rfl (lv_at hl 1 rfl) ?_
            refine a_Vi F hml hl.1 hA hP hD hS (As := [.int p0]) (c_X9_readNot_51_d1 l dC dI ad cA nF _ p0 hR (by omega) hK_N4) (cs_RX9_61 (d := 31) F.2.2.1 (by decide)) tc_51 rfl rfl rfl rfl (Nat.le_of_ble_eq_true rfl) dX9_readOne_95 ⟨Nat.le_refl 0, Nat.le_refl 0⟩ (fun r14 u14 H locs hq hP hD hS => ?_)
            obtain ⟨hR, hF14, gr14⟩ := hq
            have hF := hF.tr hF14 (by decide)
            have hK_N4 := sp_fr sp_N4 hF14 (by decide) hK_N4
            exact a_retz F hr hlocks hP hD hS dX9_readOne_98 (i_01 (by omega)) ⟨hR, hF, (by omega : (0 : Int) ≤ r14.toInt ∧ r14.toInt ≤ 1)⟩
        · refine lv_aload_n F.1 F.2.1 dX9_readOne_81 rfl (lv_at hl 0 rfl) ?_
          refine lv_iload_n F.1 F.2.1 dX9_readOne_82 rfl (lv_at hl 1 rfl) ?_
          refine a_Vi F hml hl.1 hA hP hD hS (As := [.int p0]) (c_X9_readBracket_51_d1 l dC dI ad cA nF _ p0 hR (by omega) hK_N4) (cs_RX9_58 (d := 33) F.2.2.1 (by decide)) tc_51 rfl rfl rfl rfl (Nat.le_of_ble_eq_true rfl) dX9_readOne_83 ⟨Nat.le_refl 0, Nat.le_refl 0⟩ (fun r15 u15 H locs hq hP hD hS => ?_)
          obtain ⟨hR, hF15, gr15⟩ := hq
          have hF := hF.tr hF15 (by decide)
          have hK_N4 := sp_fr sp_N4 hF15 (by decide) hK_N4
          exact a_retz F hr hlocks hP hD hS dX9_readOne_86 (i_01 (by omega)) ⟨hR, hF, (by omega : (0 : Int) ≤ r15.toInt ∧ r15.toInt ≤ 1)⟩
      · exfalso; omega
  have L26 : ∀ (u : ac_U) (H : Heap) (locs : List Loc) (ls : Array Slot), ac_R rg u → ac_Fr [(1, some 4), (1, some 5), (1, some 6), (1, some 8), (1, some 9), (1, some 10), (1, some 11), (47, some 3), (47, some 4), (48, none), (49, none), (50, none)] u0 u → nmI 11 12 u → (-128 : Int) ≤ (u.1 1 6).toInt ∧ (u.1 1 6).toInt ≤ 127 → va_P (dC, dI) vwCl (ac_w ad cA (TT nF) u) H → va_D A (ac_w ad cA (TT nF) u) → va_S A s.heap H locs → lv_has ls 3 [(0, .ref (ad 51))] → W p l e (ac_rm 34) s m [.ref (ad 51), .int p0].toArray below meth c H locs 0 0 (MQ below (va_Qi (fun (r : Int32) (u : ac_U) => ac_R rg u ∧ ac_Fr [(1, some 4), (1, some 5), (1, some 6), (1, some 8), (1, some 9), (1, some 10), (1, some 11), (47, some 3), (47, some 4), (48, none), (49, none), (50, none)] u0 u ∧ ((0 : Int) ≤ r.toInt ∧ r.toInt ≤ 1)) (ac_B (dC, dI) vwCl (ac_ty cA) ad cA (TT nF) A) A) [.ref (ad 51), .int p0].toArray s 0 0 A) (F0 m 26 ls []) := by
    intro u H locs ls hR hF hK_N4 f0 hP hD hS hl
    refine lv_aload_n F.1 F.2.1 dX9_readOne_26 rfl (lv_at hl 0 rfl) ?_
    refine a_getr F inX9 hP 51 0 tc_51 rfl rfl (by decide) q465 (fun _ h9 => h9) dX9_readOne_27 ?_
    refine a_ic F (1 : Int32) dX9_readOne_30 (by decide) ?_
    refine a_Vi F hml hl.1 hA hP hD hS (As := [.int (1 : Int32)]) (c_X10_fail_1 l dC dI ad cA nF _ (1 : Int32) hR (by decide)) (cs_RX9_38 (d := 1) F.2.2.1 (by decide)) tc_1 rfl rfl rfl rfl (Nat.le_of_ble_eq_true rfl) dX9_readOne_31 ⟨Nat.le_refl 0, Nat.le_refl 0⟩ (fun r16 u16 H locs hq hP hD hS => ?_)
    obtain ⟨hR, hF16, gr16⟩ := hq
    have hF := hF.tr hF16 (by decide)
    have hK_N4 := sp_fr sp_N4 hF16 (by decide) hK_N4
    exact a_retz F hr hlocks hP hD hS dX9_readOne_34 (i_01 (by omega)) ⟨hR, hF, (by omega : (0 : Int) ≤ r16.toInt ∧ r16.toInt ≤ 1)⟩
  refine lv_aload_n F.1 F.2.1 dX9_readOne_0 rfl (lv_at hl 0 rfl) ?_
  refine a_getr F inX9 hP 51 0 tc_51 rfl rfl (by decide) q465 (fun _ h9 => h9) dX9_readOne_1 ?_
  have g17 : (-128 : Int) ≤ (u0.1 1 6).toInt ∧ (u0.1 1 6).toInt ≤ 127 := hR 1 6
  refine a_geti F inX10 hP 1 6 tc_1 rfl rfl (by decide) q103 (fun _ h9 => h9) (v := (u0.1 1 6)) rfl dX9_readOne_4 ?_
  refine lv_istore_n (lv' := [(2, .int (u0.1 1 6)), (0, .ref (ad 51)), (1, .int p0)]) F.1 F.2.1 dX9_readOne_7 rfl hl (by decide) rfl (fun ls hl => ?_)
  refine lv_iload_n F.1 F.2.1 dX9_readOne_8 rfl (lv_at hl 0 rfl) ?_
  refine a_bp F (40 : Int32) dX9_readOne_9 (by decide) ?_
  refine b_eq F 35 dX9_readOne_11 (by decide) rfl ic_40 (fun c18 => ?_) (fun c18 => ?_)
  · exact L35 (u0.1 1 6) _ _ _ _ hR hF hK_N4 (by omega) (by omega : (40 : Int) ≤ (u0.1 1 6).toInt ∧ (u0.1 1 6).toInt ≤ 126) hP hD hS (lv_sub hl [1, 2, 0] rfl)
  · refine lv_iload_n F.1 F.2.1 dX9_readOne_14 rfl (lv_at hl 0 rfl) ?_
    refine a_bp F (116 : Int32) dX9_readOne_15 (by decide) ?_
    refine b_lt F 26 dX9_readOne_17 (by decide) rfl ic_116 (fun c19 => ?_) (fun c19 => ?_)
    · exact L26 _ _ _ _ hR hF hK_N4 (by omega : (-128 : Int) ≤ (u0.1 1 6).toInt ∧ (u0.1 1 6).toInt ≤ 127) hP hD hS (lv_sub hl [1] rfl)
    · refine lv_iload_n F.1 F.2.1 dX9_readOne_20 rfl (lv_at hl 0 rfl) ?_
      refine a_bp F (126 : Int32) dX9_readOne_21 (by decide) ?_
      refine b_le F 35 dX9_readOne_23 (by decide) rfl ic_126 (fun c20 => ?_) (fun c20 => ?_)
      · exact L35 (u0.1 1 6) _ _ _ _ hR hF hK_N4 (by omega) (by omega : (40 : Int) ≤ (u0.1 1 6).toInt ∧ (u0.1 1 6).toInt ≤ 126) hP hD hS (lv_sub hl [1, 2, 0] rfl)
      · exact L26 _ _ _ _ hR hF hK_N4 (by omega : (-128 : Int) ≤ (u0.1 1 6).toInt ∧ (u0.1 1 6).toInt ≤ 127) hP hD hS (lv_sub hl [1] rfl)
set_option maxHeartbeats 600000 in
set_option maxRecDepth 100000 in
theorem c_X9_readBoth_51_d1 (l : Launch) (dC : Nat → ClassId) (dI : Nat → Nat → Nat) (ad : Nat → Nat) (cA : Nat → ClassId) (nF : Nat) (u0 : ac_U) (p0 : Int32) (hR : ac_R rg u0) (hp0 : (1 : Int) ≤ p0.toInt ∧ p0.toInt ≤ 1) (hK_N4 : nmI 11 12 u0) : ac_Mi l yX9_readBoth (.code yX9_readBoth cX9_readBoth 3 (some .boolean) :: TB) 35 (dC, dI) vwCl (ac_ty cA) ad cA (TT nF) [.ref (ad 51), .int p0] u0 (fun (r : Int32) (u : ac_U) => ac_R rg u ∧ ac_Fr [(1, some 4), (1, some 5), (1, some 6), (1, some 8), (1, some 9), (1, some 10), (1, some 11), (47, some 3), (47, some 4), (48, none), (49, none), (50, none)] u0 u ∧ ((0 : Int) ≤ r.toInt ∧ r.toInt ≤ 1)) := by
  refine ac_Mi.of (cc := cX9_readBoth) (maxL := 3) (ret := (some .boolean)) (by decide) rfl (Nat.le_of_ble_eq_true rfl) ?_
  intro p e s m below meth c A ls F hml hr hlocks hA hP hD hS hl
  have F : ac_X p s m [.ref (ad 51), .int p0].toArray c cX9_readBoth RX9 TB (dC, dI) vwCl (ac_ty cA) := ⟨F.1, F.2.1, fun w h => F.2.2.1 w (List.mem_cons_of_mem _ h), F.2.2.2.1, F.2.2.2.2⟩
  have hl : lv_has ls 3 [(0, .ref (ad 51)), (1, .int p0)] := hl
  have hF : ac_Fr [(1, some 4), (1, some 5), (1, some 6), (1, some 8), (1, some 9), (1, some 10), (1, some 11), (47, some 3), (47, some 4), (48, none), (49, none), (50, none)] u0 u0 := ac_Fr.rf
  have L64 : ∀ (u : ac_U) (H : Heap) (locs : List Loc) (ls : Array Slot), ac_R rg u → ac_Fr [(1, some 4), (1, some 5), (1, some 6), (1, some 8), (1, some 9), (1, some 10), (1, some 11), (47, some 3), (47, some 4), (48, none), (49, none), (50, none)] u0 u → nmI 11 12 u → va_P (dC, dI) vwCl (ac_w ad cA (TT nF) u) H → va_D A (ac_w ad cA (TT nF) u) → va_S A s.heap H locs → lv_has ls 3 [] → W p l e (ac_rm 35) s m [.ref (ad 51), .int p0].toArray below meth c H locs 0 0 (MQ below (va_Qi (fun (r : Int32) (u : ac_U) => ac_R rg u ∧ ac_Fr [(1, some 4), (1, some 5), (1, some 6), (1, some 8), (1, some 9), (1, some 10), (1, some 11), (47, some 3), (47, some 4), (48, none), (49, none), (50, none)] u0 u ∧ ((0 : Int) ≤ r.toInt ∧ r.toInt ≤ 1)) (ac_B (dC, dI) vwCl (ac_ty cA) ad cA (TT nF) A) A) [.ref (ad 51), .int p0].toArray s 0 0 A) (F0 m 64 ls []) := by
    intro u H locs ls hR hF hK_N4 hP hD hS hl
    refine a_ic F (1 : Int32) dX9_readBoth_64 (by decide) ?_
    exact a_retz F hr hlocks hP hD hS dX9_readBoth_65 (Or.inr rfl) ⟨hR, hF, (by decide)⟩
  have L12 : ∀ (n12 : Nat) (x2 : Int32) (u : ac_U) (H : Heap) (locs : List Loc) (ls : Array Slot), ac_R rg u → ac_Fr [(1, some 4), (1, some 5), (1, some 6), (1, some 8), (1, some 9), (1, some 10), (1, some 11), (47, some 3), (47, some 4), (48, none), (49, none), (50, none)] u0 u → 20 - x2.toInt < (n12 : Int) → nmI 11 12 u → (0 : Int) ≤ x2.toInt ∧ x2.toInt ≤ 20 → va_P (dC, dI) vwCl (ac_w ad cA (TT nF) u) H → va_D A (ac_w ad cA (TT nF) u) → va_S A s.heap H locs → lv_has ls 3 [(0, .ref (ad 51)), (1, .int p0), (2, .int x2)] → W p l e (ac_rm 35) s m [.ref (ad 51), .int p0].toArray below meth c H locs 0 0 (MQ below (va_Qi (fun (r : Int32) (u : ac_U) => ac_R rg u ∧ ac_Fr [(1, some 4), (1, some 5), (1, some 6), (1, some 8), (1, some 9), (1, some 10), (1, some 11), (47, some 3), (47, some 4), (48, none), (49, none), (50, none)] u0 u ∧ ((0 : Int) ≤ r.toInt ∧ r.toInt ≤ 1)) (ac_B (dC, dI) vwCl (ac_ty cA) ad cA (TT nF) A) A) [.ref (ad 51), .int p0].toArray s 0 0 A) (F0 m 12 ls []) := by
    intro n12
    induction n12 with
    | zero => intro x2 u H locs ls hR hF hn12 hK_N4 f0 hP hD hS hl; exfalso; omega
    | succ n12 ih12 =>
      intro x2 u H locs ls hR hF hn12 hK_N4 f0 hP hD hS hl
      refine lv_iload_n F.1 F.2.1 dX9_readBoth_12 rfl (lv_at hl 2 rfl) ?_
      refine a_bp F (20 : Int32) dX9_readBoth_13 (by decide) ?_
      refine b_ge F 64 dX9_readBoth_15 (by decide) rfl ic_20 (fun c1 => ?_) (fun c1 => ?_)
      · exact L64 _ _ _ _ hR hF hK_N4 hP hD hS (lv_sub hl [] rfl)
      · refine lv_aload_n F.1 F.2.1 dX9_readBoth_18 rfl (lv_at hl 0 rfl) ?_
        refine a_getr F inX9 hP 51 0 tc_51 rfl rfl (by decide) q465 (fun _ h9 => h9) dX9_readBoth_19 ?_
        have g2 : (-128 : Int) ≤ (u.1 1 6).toInt ∧ (u.1 1 6).toInt ≤ 127 := hR 1 6
        refine a_geti F inX10 hP 1 6 tc_1 rfl rfl (by decide) q103 (fun _ h9 => h9) (v := (u.1 1 6)) rfl dX9_readBoth_22 ?_
        refine a_bp F (115 : Int32) dX9_readBoth_25 (by decide) ?_
        refine b_ne F 64 dX9_readBoth_27 (by decide) rfl ic_115 (fun c3 => ?_) (fun c3 => ?_)
        · exact L64 _ _ _ _ hR hF hK_N4 hP hD hS (lv_sub hl [] rfl)
        · refine lv_aload_n F.1 F.2.1 dX9_readBoth_30 rfl (lv_at hl 0 rfl) ?_
          refine a_getr F inX9 hP 51 0 tc_51 rfl rfl (by decide) q465 (fun _ h9 => h9) dX9_readBoth_31 ?_
          refine a_Vv F hml hl.1 hA hP hD hS (As := []) (c_X10_readNext_1 l dC dI ad cA nF _  hR) (cs_RX9_45 (d := 3) F.2.2.1 (by decide)) tc_1 rfl rfl rfl rfl (Nat.le_of_ble_eq_true rfl) dX9_readBoth_34 ⟨Nat.le_refl 0, Nat.le_refl 0⟩ (fun u4 H locs hq hP hD hS => ?_)
          obtain ⟨hR, hF4⟩ := hq
          have hF := hF.tr hF4 (by decide)
          have hK_N4 := sp_fr sp_N4 hF4 (by decide) hK_N4
          refine lv_aload_n F.1 F.2.1 dX9_readBoth_37 rfl (lv_at hl 0 rfl) ?_
          refine lv_iload_n F.1 F.2.1 dX9_readBoth_38 rfl (lv_at hl 1 rfl) ?_
          refine a_Vi F hml hl.1 hA hP hD hS (As := [.int p0]) (c_X9_readOne_51_d1 l dC dI ad cA nF _ p0 hR (by omega) hK_N4) (cs_RX9_52 (d := 34) F.2.2.1 (by decide)) tc_51 rfl rfl rfl rfl (Nat.le_of_ble_eq_true rfl) dX9_readBoth_39 ⟨Nat.le_refl 0, Nat.le_refl 0⟩ (fun r5 u5 H locs hq hP hD hS => ?_)
          obtain ⟨hR, hF5, gr5⟩ := hq
          have hF := hF.tr hF5 (by decide)
          have hK_N4 := sp_fr sp_N4 hF5 (by decide) hK_N4
          refine z_ne F 47 dX9_readBoth_42 (by decide) rfl (fun c6 => ?_) (fun c6 => ?_)
          · refine lv_aload_n F.1 F.2.1 dX9_readBoth_47 rfl (lv_at hl 0 rfl) ?_
            refine a_getr F inX9 hP 51 2 tc_51 rfl rfl (by decide) q467 (fun _ h9 => h9) dX9_readBoth_48 ?_
            refine a_bp F (115 : Int32) dX9_readBoth_51 (by decide) ?_
            refine a_ic F (0 : Int32) dX9_readBoth_53 (by decide) ?_
            refine a_ic F (0 : Int32) dX9_readBoth_54 (by decide) ?_
            refine a_Vv F hml hl.1 hA hP hD hS (As := [.int (115 : Int32), .int (0 : Int32), .int (0 : Int32)]) (c_X8_add_47 l dC dI ad cA nF _ (115 : Int32) (0 : Int32) (0 : Int32) hR (by decide) (by decide)) (cs_RX9_48 (d := 1) F.2.2.1 (by decide)) tc_47 rfl rfl rfl rfl (Nat.le_of_ble_eq_true rfl) dX9_readBoth_55 ⟨Nat.le_refl 0, Nat.le_refl 0⟩ (fun u7 H locs hq hP hD hS => ?_)
            obtain ⟨hR, hF7⟩ := hq
            have hF := hF.tr hF7 (by decide)
            have hK_N4 := sp_fr sp_N4 hF7 (by decide) hK_N4
            refine a_iinc F (k := 2) (fun v8 => [(2, .int v8), (0, .ref (ad 51)), (1, .int p0)]) dX9_readBoth_58 hl rfl rfl (by decide) (by omega) (by decide) (fun _ => rfl) (fun v8 ls hv8 hl => ?_)
            refine lv_goto (tgt := 12) F.1 F.2.1 dX9_readBoth_61 (by decide) ?_
            exact ih12 v8 _ _ _ _ hR hF (by omega) hK_N4 (by omega) hP hD hS (lv_sub hl [1, 2, 0] rfl)
          · refine a_ic F (0 : Int32) dX9_readBoth_45 (by decide) ?_
            exact a_retz F hr hlocks hP hD hS dX9_readBoth_46 (Or.inl rfl) ⟨hR, hF, (by decide)⟩
  refine lv_aload_n F.1 F.2.1 dX9_readBoth_0 rfl (lv_at hl 0 rfl) ?_
  refine lv_iload_n F.1 F.2.1 dX9_readBoth_1 rfl (lv_at hl 1 rfl) ?_
  refine a_Vi F hml hl.1 hA hP hD hS (As := [.int p0]) (c_X9_readOne_51_d1 l dC dI ad cA nF _ p0 hR (by omega) hK_N4) (cs_RX9_52 (d := 34) F.2.2.1 (by decide)) tc_51 rfl rfl rfl rfl (Nat.le_of_ble_eq_true rfl) dX9_readBoth_2 ⟨Nat.le_refl 0, Nat.le_refl 0⟩ (fun r9 u9 H locs hq hP hD hS => ?_)
  obtain ⟨hR, hF9, gr9⟩ := hq
  have hF := hF.tr hF9 (by decide)
  have hK_N4 := sp_fr sp_N4 hF9 (by decide) hK_N4
  refine z_ne F 10 dX9_readBoth_5 (by decide) rfl (fun c10 => ?_) (fun c10 => ?_)
  · refine a_ic F (0 : Int32) dX9_readBoth_10 (by decide) ?_
    refine lv_istore_n (lv' := [(2, .int (0 : Int32)), (0, .ref (ad 51)), (1, .int p0)]) F.1 F.2.1 dX9_readBoth_11 rfl hl (by decide) rfl (fun ls hl => ?_)
    exact L12 22 (0 : Int32) _ _ _ _ hR hF (by decide) hK_N4 (by decide) hP hD hS (lv_sub hl [1, 2, 0] rfl)
  · refine a_ic F (0 : Int32) dX9_readBoth_8 (by decide) ?_
    exact a_retz F hr hlocks hP hD hS dX9_readBoth_9 (Or.inl rfl) ⟨hR, hF, (by decide)⟩
set_option maxHeartbeats 600000 in
set_option maxRecDepth 100000 in
theorem c_X9_readCond_51_d1 (l : Launch) (dC : Nat → ClassId) (dI : Nat → Nat → Nat) (ad : Nat → Nat) (cA : Nat → ClassId) (nF : Nat) (u0 : ac_U) (p0 : Int32) (hR : ac_R rg u0) (hp0 : (1 : Int) ≤ p0.toInt ∧ p0.toInt ≤ 1) (hK_N4 : nmI 11 12 u0) : ac_Mi l yX9_readCond (.code yX9_readCond cX9_readCond 3 (some .boolean) :: TB) 36 (dC, dI) vwCl (ac_ty cA) ad cA (TT nF) [.ref (ad 51), .int p0] u0 (fun (r : Int32) (u : ac_U) => ac_R rg u ∧ ac_Fr [(1, some 4), (1, some 5), (1, some 6), (1, some 8), (1, some 9), (1, some 10), (1, some 11), (47, some 3), (47, some 4), (48, none), (49, none), (50, none)] u0 u ∧ ((0 : Int) ≤ r.toInt ∧ r.toInt ≤ 1)) := by
  refine ac_Mi.of (cc := cX9_readCond) (maxL := 3) (ret := (some .boolean)) (by decide) rfl (Nat.le_of_ble_eq_true rfl) ?_
  intro p e s m below meth c A ls F hml hr hlocks hA hP hD hS hl
  have F : ac_X p s m [.ref (ad 51), .int p0].toArray c cX9_readCond RX9 TB (dC, dI) vwCl (ac_ty cA) := ⟨F.1, F.2.1, fun w h => F.2.2.1 w (List.mem_cons_of_mem _ h), F.2.2.2.1, F.2.2.2.2⟩
  have hl : lv_has ls 3 [(0, .ref (ad 51)), (1, .int p0)] := hl
  have hF : ac_Fr [(1, some 4), (1, some 5), (1, some 6), (1, some 8), (1, some 9), (1, some 10), (1, some 11), (47, some 3), (47, some 4), (48, none), (49, none), (50, none)] u0 u0 := ac_Fr.rf
  have L64 : ∀ (u : ac_U) (H : Heap) (locs : List Loc) (ls : Array Slot), ac_R rg u → ac_Fr [(1, some 4), (1, some 5), (1, some 6), (1, some 8), (1, some 9), (1, some 10), (1, some 11), (47, some 3), (47, some 4), (48, none), (49, none), (50, none)] u0 u → nmI 11 12 u → va_P (dC, dI) vwCl (ac_w ad cA (TT nF) u) H → va_D A (ac_w ad cA (TT nF) u) → va_S A s.heap H locs → lv_has ls 3 [] → W p l e (ac_rm 36) s m [.ref (ad 51), .int p0].toArray below meth c H locs 0 0 (MQ below (va_Qi (fun (r : Int32) (u : ac_U) => ac_R rg u ∧ ac_Fr [(1, some 4), (1, some 5), (1, some 6), (1, some 8), (1, some 9), (1, some 10), (1, some 11), (47, some 3), (47, some 4), (48, none), (49, none), (50, none)] u0 u ∧ ((0 : Int) ≤ r.toInt ∧ r.toInt ≤ 1)) (ac_B (dC, dI) vwCl (ac_ty cA) ad cA (TT nF) A) A) [.ref (ad 51), .int p0].toArray s 0 0 A) (F0 m 64 ls []) := by
    intro u H locs ls hR hF hK_N4 hP hD hS hl
    refine a_ic F (1 : Int32) dX9_readCond_64 (by decide) ?_
    exact a_retz F hr hlocks hP hD hS dX9_readCond_65 (Or.inr rfl) ⟨hR, hF, (by decide)⟩
  have L12 : ∀ (n12 : Nat) (x2 : Int32) (u : ac_U) (H : Heap) (locs : List Loc) (ls : Array Slot), ac_R rg u → ac_Fr [(1, some 4), (1, some 5), (1, some 6), (1, some 8), (1, some 9), (1, some 10), (1, some 11), (47, some 3), (47, some 4), (48, none), (49, none), (50, none)] u0 u → 20 - x2.toInt < (n12 : Int) → nmI 11 12 u → (0 : Int) ≤ x2.toInt ∧ x2.toInt ≤ 20 → va_P (dC, dI) vwCl (ac_w ad cA (TT nF) u) H → va_D A (ac_w ad cA (TT nF) u) → va_S A s.heap H locs → lv_has ls 3 [(0, .ref (ad 51)), (1, .int p0), (2, .int x2)] → W p l e (ac_rm 36) s m [.ref (ad 51), .int p0].toArray below meth c H locs 0 0 (MQ below (va_Qi (fun (r : Int32) (u : ac_U) => ac_R rg u ∧ ac_Fr [(1, some 4), (1, some 5), (1, some 6), (1, some 8), (1, some 9), (1, some 10), (1, some 11), (47, some 3), (47, some 4), (48, none), (49, none), (50, none)] u0 u ∧ ((0 : Int) ≤ r.toInt ∧ r.toInt ≤ 1)) (ac_B (dC, dI) vwCl (ac_ty cA) ad cA (TT nF) A) A) [.ref (ad 51), .int p0].toArray s 0 0 A) (F0 m 12 ls []) := by
    intro n12
    induction n12 with
    | zero => intro x2 u H locs ls hR hF hn12 hK_N4 f0 hP hD hS hl; exfalso; omega
    | succ n12 ih12 =>
      intro x2 u H locs ls hR hF hn12 hK_N4 f0 hP hD hS hl
      refine lv_iload_n F.1 F.2.1 dX9_readCond_12 rfl (lv_at hl 2 rfl) ?_
      refine a_bp F (20 : Int32) dX9_readCond_13 (by decide) ?_
      refine b_ge F 64 dX9_readCond_15 (by decide) rfl ic_20 (fun c1 => ?_) (fun c1 => ?_)
      · exact L64 _ _ _ _ hR hF hK_N4 hP hD hS (lv_sub hl [] rfl)
      · refine lv_aload_n F.1 F.2.1 dX9_readCond_18 rfl (lv_at hl 0 rfl) ?_
        refine a_getr F inX9 hP 51 0 tc_51 rfl rfl (by decide) q465 (fun _ h9 => h9) dX9_readCond_19 ?_
        have g2 : (-128 : Int) ≤ (u.1 1 6).toInt ∧ (u.1 1 6).toInt ≤ 127 := hR 1 6
        refine a_geti F inX10 hP 1 6 tc_1 rfl rfl (by decide) q103 (fun _ h9 => h9) (v := (u.1 1 6)) rfl dX9_readCond_22 ?_
        refine a_bp F (114 : Int32) dX9_readCond_25 (by decide) ?_
        refine b_ne F 64 dX9_readCond_27 (by decide) rfl ic_114 (fun c3 => ?_) (fun c3 => ?_)
        · exact L64 _ _ _ _ hR hF hK_N4 hP hD hS (lv_sub hl [] rfl)
        · refine lv_aload_n F.1 F.2.1 dX9_readCond_30 rfl (lv_at hl 0 rfl) ?_
          refine a_getr F inX9 hP 51 0 tc_51 rfl rfl (by decide) q465 (fun _ h9 => h9) dX9_readCond_31 ?_
          refine a_Vv F hml hl.1 hA hP hD hS (As := []) (c_X10_readNext_1 l dC dI ad cA nF _  hR) (cs_RX9_45 (d := 3) F.2.2.1 (by decide)) tc_1 rfl rfl rfl rfl (Nat.le_of_ble_eq_true rfl) dX9_readCond_34 ⟨Nat.le_refl 0, Nat.le_refl 0⟩ (fun u4 H locs hq hP hD hS => ?_)
          obtain ⟨hR, hF4⟩ := hq
          have hF := hF.tr hF4 (by decide)
          have hK_N4 := sp_fr sp_N4 hF4 (by decide) hK_N4
          refine lv_aload_n F.1 F.2.1 dX9_readCond_37 rfl (lv_at hl 0 rfl) ?_
          refine lv_iload_n F.1 F.2.1 dX9_readCond_38 rfl (lv_at hl 1 rfl) ?_
          refine a_Vi F hml hl.1 hA hP hD hS (As := [.int p0]) (c_X9_readBoth_51_d1 l dC dI ad cA nF _ p0 hR (by omega) hK_N4) (cs_RX9_42 (d := 35) F.2.2.1 (by decide)) tc_51 rfl rfl rfl rfl (Nat.le_of_ble_eq_true rfl) dX9_readCond_39 ⟨Nat.le_refl 0, Nat.le_refl 0⟩ (fun r5 u5 H locs hq hP hD hS => ?_)
          obtain ⟨hR, hF5, gr5⟩ := hq
          have hF := hF.tr hF5 (by decide)
          have hK_N4 := sp_fr sp_N4 hF5 (by decide) hK_N4
          refine z_ne F 47 dX9_readCond_42 (by decide) rfl (fun c6 => ?_) (fun c6 => ?_)
          · refine lv_aload_n F.1 F.2.1 dX9_readCond_47 rfl (lv_at hl 0 rfl) ?_
            refine a_getr F inX9 hP 51 2 tc_51 rfl rfl (by decide) q467 (fun _ h9 => h9) dX9_readCond_48 ?_
            refine a_bp F (114 : Int32) dX9_readCond_51 (by decide) ?_
            refine a_ic F (0 : Int32) dX9_readCond_53 (by decide) ?_
            refine a_ic F (0 : Int32) dX9_readCond_54 (by decide) ?_
            refine a_Vv F hml hl.1 hA hP hD hS (As := [.int (114 : Int32), .int (0 : Int32), .int (0 : Int32)]) (c_X8_add_47 l dC dI ad cA nF _ (114 : Int32) (0 : Int32) (0 : Int32) hR (by decide) (by decide)) (cs_RX9_48 (d := 1) F.2.2.1 (by decide)) tc_47 rfl rfl rfl rfl (Nat.le_of_ble_eq_true rfl) dX9_readCond_55 ⟨Nat.le_refl 0, Nat.le_refl 0⟩ (fun u7 H locs hq hP hD hS => ?_)
            obtain ⟨hR, hF7⟩ := hq
            have hF := hF.tr hF7 (by decide)
            have hK_N4 := sp_fr sp_N4 hF7 (by decide) hK_N4
            refine a_iinc F (k := 2) (fun v8 => [(2, .int v8), (0, .ref (ad 51)), (1, .int p0)]) dX9_readCond_58 hl rfl rfl (by decide) (by omega) (by decide) (fun _ => rfl) (fun v8 ls hv8 hl => ?_)
            refine lv_goto (tgt := 12) F.1 F.2.1 dX9_readCond_61 (by decide) ?_
            exact ih12 v8 _ _ _ _ hR hF (by omega) hK_N4 (by omega) hP hD hS (lv_sub hl [1, 2, 0] rfl)
          · refine a_ic F (0 : Int32) dX9_readCond_45 (by decide) ?_
            exact a_retz F hr hlocks hP hD hS dX9_readCond_46 (Or.inl rfl) ⟨hR, hF, (by decide)⟩
  refine lv_aload_n F.1 F.2.1 dX9_readCond_0 rfl (lv_at hl 0 rfl) ?_
  refine lv_iload_n F.1 F.2.1 dX9_readCond_1 rfl (lv_at hl 1 rfl) ?_
  refine a_Vi F hml hl.1 hA hP hD hS (As := [.int p0]) (c_X9_readBoth_51_d1 l dC dI ad cA nF _ p0 hR (by omega) hK_N4) (cs_RX9_42 (d := 35) F.2.2.1 (by decide)) tc_51 rfl rfl rfl rfl (Nat.le_of_ble_eq_true rfl) dX9_readCond_2 ⟨Nat.le_refl 0, Nat.le_refl 0⟩ (fun r9 u9 H locs hq hP hD hS => ?_)
  obtain ⟨hR, hF9, gr9⟩ := hq
  have hF := hF.tr hF9 (by decide)
  have hK_N4 := sp_fr sp_N4 hF9 (by decide) hK_N4
  refine z_ne F 10 dX9_readCond_5 (by decide) rfl (fun c10 => ?_) (fun c10 => ?_)
  · refine a_ic F (0 : Int32) dX9_readCond_10 (by decide) ?_
    refine lv_istore_n (lv' := [(2, .int (0 : Int32)), (0, .ref (ad 51)), (1, .int p0)]) F.1 F.2.1 dX9_readCond_11 rfl hl (by decide) rfl (fun ls hl => ?_)
    exact L12 22 (0 : Int32) _ _ _ _ hR hF (by decide) hK_N4 (by decide) hP hD hS (lv_sub hl [1, 2, 0] rfl)
  · refine a_ic F (0 : Int32) dX9_readCond_8 (by decide) ?_
    exact a_retz F hr hlocks hP hD hS dX9_readCond_9 (Or.inl rfl) ⟨hR, hF, (by decide)⟩
set_option maxHeartbeats 600000 in
set_option maxRecDepth 100000 in
theorem c_X11_act_0 (l : Launch) (dC : Nat → ClassId) (dI : Nat → Nat → Nat) (ad : Nat → Nat) (cA : Nat → ClassId) (nF : Nat) (u0 : ac_U) (p0 : Int32) (p1 : Int32) (hR : ac_R rg u0) : ac_Mi l yX11_act (.code yX11_act cX11_act 4 (some .int) :: TB) 5 (dC, dI) vwCl (ac_ty cA) ad cA (TT nF) [.ref (ad 0), .int p0, .int p1] u0 (fun (r : Int32) (u : ac_U) => ac_R rg u ∧ ac_Fr [(24, some 5), (24, some 6), (25, none), (26, none), (28, none)] u0 u ∧ ((-1 : Int) ≤ r.toInt ∧ r.toInt ≤ 4)) := by
  refine ac_Mi.of (cc := cX11_act) (maxL := 4) (ret := (some .int)) (by decide) rfl (Nat.le_of_ble_eq_true rfl) ?_
  intro p e s m below meth c A ls F hml hr hlocks hA hP hD hS hl
  have F : ac_X p s m [.ref (ad 0), .int p0, .int p1].toArray c cX11_act RX11 TB (dC, dI) vwCl (ac_ty cA) := ⟨F.1, F.2.1, fun w h => F.2.2.1 w (List.mem_cons_of_mem _ h), F.2.2.2.1, F.2.2.2.2⟩
  have hl : lv_has ls 4 [(0, .ref (ad 0)), (1, .int p0), (2, .int p1)] := hl
  have hF : ac_Fr [(24, some 5), (24, some 6), (25, none), (26, none), (28, none)] u0 u0 := ac_Fr.rf
  have L54 : ∀ (x3 : Int32) (u : ac_U) (H : Heap) (locs : List Loc) (ls : Array Slot), ac_R rg u → ac_Fr [(24, some 5), (24, some 6), (25, none), (26, none), (28, none)] u0 u → (0 : Int) ≤ x3.toInt ∧ x3.toInt ≤ 4 → va_P (dC, dI) vwCl (ac_w ad cA (TT nF) u) H → va_D A (ac_w ad cA (TT nF) u) → va_S A s.heap H locs → lv_has ls 4 [(3, .int x3)] → W p l e (ac_rm 5) s m [.ref (ad 0), .int p0, .int p1].toArray below meth c H locs 0 0 (MQ below (va_Qi (fun (r : Int32) (u : ac_U) => ac_R rg u ∧ ac_Fr [(24, some 5), (24, some 6), (25, none), (26, none), (28, none)] u0 u ∧ ((-1 : Int) ≤ r.toInt ∧ r.toInt ≤ 4)) (ac_B (dC, dI) vwCl (ac_ty cA) ad cA (TT nF) A) A) [.ref (ad 0), .int p0, .int p1].toArray s 0 0 A) (F0 m 54 ls []) := by
    intro x3 u H locs ls hR hF f0 hP hD hS hl
    refine lv_iload_n F.1 F.2.1 dX11_act_54 rfl (lv_at hl 0 rfl) ?_
    exact a_reti F hr hlocks hP hD hS dX11_act_55 ⟨hR, hF, (by omega : (-1 : Int) ≤ x3.toInt ∧ x3.toInt ≤ 4)⟩
  have L22 : ∀ (u : ac_U) (H : Heap) (locs : List Loc) (ls : Array Slot), ac_R rg u → ac_Fr [(24, some 5), (24, some 6), (25, none), (26, none), (28, none)] u0 u → va_P (dC, dI) vwCl (ac_w ad cA (TT nF) u) H → va_D A (ac_w ad cA (TT nF) u) → va_S A s.heap H locs → lv_has ls 4 [] → W p l e (ac_rm 5) s m [.ref (ad 0), .int p0, .int p1].toArray below meth c H locs 0 0 (MQ below (va_Qi (fun (r : Int32) (u : ac_U) => ac_R rg u ∧ ac_Fr [(24, some 5), (24, some 6), (25, none), (26, none), (28, none)] u0 u ∧ ((-1 : Int) ≤ r.toInt ∧ r.toInt ≤ 4)) (ac_B (dC, dI) vwCl (ac_ty cA) ad cA (TT nF) A) A) [.ref (ad 0), .int p0, .int p1].toArray s 0 0 A) (F0 m 22 ls []) := by
    intro u H locs ls hR hF hP hD hS hl
    refine a_ic F (-1 : Int32) dX11_act_22 (by decide) ?_
    exact a_reti F hr hlocks hP hD hS dX11_act_23 ⟨hR, hF, (by decide)⟩
  refine lv_aload_n F.1 F.2.1 dX11_act_0 rfl (lv_at hl 0 rfl) ?_
  refine a_getr F inX11 hP 0 1 tc_0 rfl rfl (by decide) q504 (fun _ h9 => h9) dX11_act_1 ?_
  refine lv_iload_n F.1 F.2.1 dX11_act_4 rfl (lv_at hl 1 rfl) ?_
  refine a_Vi F hml hl.1 hA hP hD hS (As := [.int p0]) (c_X2_isPerson_4 l dC dI ad cA nF _ p0 hR) (cs_RX11_159 (d := 1) F.2.2.1 (by decide)) tc_4 rfl rfl rfl rfl (Nat.le_of_ble_eq_true rfl) dX11_act_5 ⟨Nat.le_refl 0, Nat.le_refl 0⟩ (fun r1 uN1 H locs hq hP hD hS => ?_)
  obtain ⟨hu1, gr1, xr1⟩ := hq
  rw [hu1] at hP hD
  have g2 : (0 : Int) ≤ (u0.1 4 4).toInt ∧ (u0.1 4 4).toInt ≤ 4 := hR 4 4
  have xr1 : r1.toInt ≠ 0 → 0 ≤ p0.toInt ∧ p0.toInt < (u0.1 4 4).toInt ∧ p0.toInt ≤ 3 := xr1
  refine z_eq F 22 dX11_act_8 (by decide) rfl (fun c3 => ?_) (fun c3 => ?_)
  · exact L22 _ _ _ _ hR hF hP hD hS (lv_sub hl [] rfl)
  · refine lv_aload_n F.1 F.2.1 dX11_act_11 rfl (lv_at hl 0 rfl) ?_
    refine a_getr F inX11 hP 0 1 tc_0 rfl rfl (by decide) q504 (fun _ h9 => h9) dX11_act_12 ?_
    refine lv_iload_n F.1 F.2.1 dX11_act_15 rfl (lv_at hl 2 rfl) ?_
    refine a_Vi F hml hl.1 hA hP hD hS (As := [.int p1]) (c_X2_isDeed_4 l dC dI ad cA nF _ p1 hR) (cs_RX11_206 (d := 1) F.2.2.1 (by decide)) tc_4 rfl rfl rfl rfl (Nat.le_of_ble_eq_true rfl) dX11_act_16 ⟨Nat.le_refl 0, Nat.le_refl 0⟩ (fun r4 uN4 H locs hq hP hD hS => ?_)
    obtain ⟨hu4, gr4, xr4⟩ := hq
    rw [hu4] at hP hD
    have g5 : (0 : Int) ≤ (u0.1 4 5).toInt ∧ (u0.1 4 5).toInt ≤ 6 := hR 4 5
    have xr4 : r4.toInt ≠ 0 → 0 ≤ p1.toInt ∧ p1.toInt < (u0.1 4 5).toInt ∧ p1.toInt ≤ 5 := xr4
    refine z_ne F 24 dX11_act_19 (by decide) rfl (fun c6 => ?_) (fun c6 => ?_)
    · refine lv_aload_n F.1 F.2.1 dX11_act_24 rfl (lv_at hl 0 rfl) ?_
      refine a_getr F inX11 hP 0 4 tc_0 rfl rfl (by decide) q507 (fun _ h9 => h9) dX11_act_25 ?_
      refine lv_iload_n F.1 F.2.1 dX11_act_28 rfl (lv_at hl 1 rfl) ?_
      refine a_Vi F hml hl.1 hA hP hD hS (As := [.int p0]) (c_X6_whyNotDo_24 l dC dI ad cA nF _ p0 hR (by omega)) (cs_RX11_209 (d := 3) F.2.2.1 (by decide)) tc_24 rfl rfl rfl rfl (Nat.le_of_ble_eq_true rfl) dX11_act_29 ⟨Nat.le_refl 0, Nat.le_refl 0⟩ (fun r7 uN7 H locs hq hP hD hS => ?_)
      obtain ⟨hu7, gr7, xr7⟩ := hq
      rw [hu7] at hP hD
      have g8 : (0 : Int) ≤ (u0.1 25 2).toInt ∧ (u0.1 25 2).toInt ≤ 80 := hR 25 2
      have xr7 : r7.toInt = 0 → (u0.1 25 2).toInt ≤ 79 := xr7
      refine lv_istore_n (lv' := [(3, .int r7), (0, .ref (ad 0)), (1, .int p0), (2, .int p1)]) F.1 F.2.1 dX11_act_32 rfl hl (by decide) rfl (fun ls hl => ?_)
      refine lv_iload_n F.1 F.2.1 dX11_act_33 rfl (lv_at hl 0 rfl) ?_
      refine z_ne F 54 dX11_act_34 (by decide) rfl (fun c9 => ?_) (fun c9 => ?_)
      · exact L54 r7 _ _ _ _ hR hF (by omega) hP hD hS (lv_sub hl [0] rfl)
      · refine lv_aload_n F.1 F.2.1 dX11_act_37 rfl (lv_at hl 1 rfl) ?_
        refine a_getr F inX11 hP 0 4 tc_0 rfl rfl (by decide) q507 (fun _ h9 => h9) dX11_act_38 ?_
        refine a_Vv F hml hl.1 hA hP hD hS (As := []) (c_X6_remember_24 l dC dI ad cA nF _  hR) (cs_RX11_200 (d := 1) F.2.2.1 (by decide)) tc_24 rfl rfl rfl rfl (Nat.le_of_ble_eq_true rfl) dX11_act_41 ⟨Nat.le_refl 0, Nat.le_refl 0⟩ (fun u10 H locs hq hP hD hS => ?_)
        obtain ⟨hR, hF10⟩ := hq
        have hF := hF.tr hF10 (by decide)
        refine lv_aload_n F.1 F.2.1 dX11_act_44 rfl (lv_at hl 1 rfl) ?_
        refine a_getr F inX11 hP 0 4 tc_0 rfl rfl (by decide) q507 (fun _ h9 => h9) dX11_act_45 ?_
        refine lv_iload_n F.1 F.2.1 dX11_act_48 rfl (lv_at hl 2 rfl) ?_
        refine lv_iload_n F.1 F.2.1 dX11_act_49 rfl (lv_at hl 3 rfl) ?_
        refine a_Vi F hml hl.1 hA hP hD hS (As := [.int p0, .int p1]) (c_X6_tryDo_24 l dC dI ad cA nF _ p0 p1 hR (by omega)) (cs_RX11_212 (d := 4) F.2.2.1 (by decide)) tc_24 rfl rfl rfl rfl (Nat.le_of_ble_eq_true rfl) dX11_act_50 ⟨Nat.le_refl 0, Nat.le_refl 0⟩ (fun r11 u11 H locs hq hP hD hS => ?_)
        obtain ⟨hR, hF11, gr11⟩ := hq
        have hF := hF.tr hF11 (by decide)
        refine lv_pop F.1 F.2.1 dX11_act_53 rfl ?_
        exact L54 r7 _ _ _ _ hR hF (by omega) hP hD hS (lv_sub hl [0] rfl)
    · exact L22 _ _ _ _ hR hF hP hD hS (lv_sub hl [] rfl)
set_option maxHeartbeats 600000 in
set_option maxRecDepth 100000 in
theorem c_X11_agree_0 (l : Launch) (dC : Nat → ClassId) (dI : Nat → Nat → Nat) (ad : Nat → Nat) (cA : Nat → ClassId) (nF : Nat) (u0 : ac_U)  (hR : ac_R rg u0) : ac_Mi l yX11_agree (.code yX11_agree cX11_agree 3 (some .int) :: TB) 8 (dC, dI) vwCl (ac_ty cA) ad cA (TT nF) [.ref (ad 0)] u0 (fun (r : Int32) (u : ac_U) => ac_R rg u ∧ ac_Fr [(29, some 4), (29, some 5), (29, some 6), (30, none)] u0 u ∧ ((0 : Int) ≤ r.toInt ∧ r.toInt ≤ 255)) := by
  refine ac_Mi.of (cc := cX11_agree) (maxL := 3) (ret := (some .int)) (by decide) rfl (Nat.le_of_ble_eq_true rfl) ?_
  intro p e s m below meth c A ls F hml hr hlocks hA hP hD hS hl
  have F : ac_X p s m [.ref (ad 0)].toArray c cX11_agree RX11 TB (dC, dI) vwCl (ac_ty cA) := ⟨F.1, F.2.1, fun w h => F.2.2.1 w (List.mem_cons_of_mem _ h), F.2.2.2.1, F.2.2.2.2⟩
  have hl : lv_has ls 3 [(0, .ref (ad 0))] := hl
  have hF : ac_Fr [(29, some 4), (29, some 5), (29, some 6), (30, none)] u0 u0 := ac_Fr.rf
  have L4 : ∀ (n4 : Nat) (x1 : Int32) (x2 : Int32) (u : ac_U) (H : Heap) (locs : List Loc) (ls : Array Slot), ac_R rg u → ac_Fr [(29, some 4), (29, some 5), (29, some 6), (30, none)] u0 u → 8 - x2.toInt < (n4 : Int) → (0 : Int) ≤ x1.toInt ∧ x1.toInt ≤ 255 → (0 : Int) ≤ x2.toInt ∧ x2.toInt ≤ 8 → va_P (dC, dI) vwCl (ac_w ad cA (TT nF) u) H → va_D A (ac_w ad cA (TT nF) u) → va_S A s.heap H locs → lv_has ls 3 [(0, .ref (ad 0)), (1, .int x1), (2, .int x2)] → W p l e (ac_rm 8) s m [.ref (ad 0)].toArray below meth c H locs 0 0 (MQ below (va_Qi (fun (r : Int32) (u : ac_U) => ac_R rg u ∧ ac_Fr [(29, some 4), (29, some 5), (29, some 6), (30, none)] u0 u ∧ ((0 : Int) ≤ r.toInt ∧ r.toInt ≤ 255)) (ac_B (dC, dI) vwCl (ac_ty cA) ad cA (TT nF) A) A) [.ref (ad 0)].toArray s 0 0 A) (F0 m 4 ls []) := by
    intro n4
    induction n4 with
    | zero => intro x1 x2 u H locs ls hR hF hn4 f0 f1 hP hD hS hl; exfalso; omega
    | succ n4 ih4 =>
      intro x1 x2 u H locs ls hR hF hn4 f0 f1 hP hD hS hl
      have L27 : ∀ (x1 : Int32) (x2 : Int32) (u : ac_U) (H : Heap) (locs : List Loc) (ls : Array Slot), ac_R rg u → ac_Fr [(29, some 4), (29, some 5), (29, some 6), (30, none)] u0 u → (0 : Int) ≤ x1.toInt ∧ x1.toInt ≤ 255 → (0 : Int) ≤ x2.toInt ∧ x2.toInt ≤ 7 → 8 - x2.toInt + 0 < ((n4 : Nat) : Int) + 1 → va_P (dC, dI) vwCl (ac_w ad cA (TT nF) u) H → va_D A (ac_w ad cA (TT nF) u) → va_S A s.heap H locs → lv_has ls 3 [(0, .ref (ad 0)), (1, .int x1), (2, .int x2)] → W p l e (ac_rm 8) s m [.ref (ad 0)].toArray below meth c H locs 0 0 (MQ below (va_Qi (fun (r : Int32) (u : ac_U) => ac_R rg u ∧ ac_Fr [(29, some 4), (29, some 5), (29, some 6), (30, none)] u0 u ∧ ((0 : Int) ≤ r.toInt ∧ r.toInt ≤ 255)) (ac_B (dC, dI) vwCl (ac_ty cA) ad cA (TT nF) A) A) [.ref (ad 0)].toArray s 0 0 A) (F0 m 27 ls []) := by
        intro x1 x2 u H locs ls hR hF f0 f1 f2 hP hD hS hl
        refine a_iinc F (k := 2) (fun v1 => [(2, .int v1), (0, .ref (ad 0)), (1, .int x1)]) dX11_agree_27 hl rfl rfl (by decide) (by omega) (by decide) (fun _ => rfl) (fun v1 ls hv1 hl => ?_)
        refine lv_goto (tgt := 4) F.1 F.2.1 dX11_agree_30 (by decide) ?_
        exact ih4 x1 v1 _ _ _ _ hR hF (by omega) (by omega) (by omega) hP hD hS (lv_sub hl [1, 2, 0] rfl)
      refine lv_iload_n F.1 F.2.1 dX11_agree_4 rfl (lv_at hl 2 rfl) ?_
      refine a_bp F (8 : Int32) dX11_agree_5 (by decide) ?_
      refine b_ge F 33 dX11_agree_7 (by decide) rfl ic_8 (fun c2 => ?_) (fun c2 => ?_)
      · refine lv_iload_n F.1 F.2.1 dX11_agree_33 rfl (lv_at hl 1 rfl) ?_
        exact a_reti F hr hlocks hP hD hS dX11_agree_34 ⟨hR, hF, (by omega : (0 : Int) ≤ x1.toInt ∧ x1.toInt ≤ 255)⟩
      · refine lv_aload_n F.1 F.2.1 dX11_agree_10 rfl (lv_at hl 0 rfl) ?_
        refine a_getr F inX11 hP 0 5 tc_0 rfl rfl (by decide) q508 (fun _ h9 => h9) dX11_agree_11 ?_
        refine lv_iload_n F.1 F.2.1 dX11_agree_14 rfl (lv_at hl 2 rfl) ?_
        refine a_Vi F hml hl.1 hA hP hD hS (As := [.int x2]) (c_X5_isLikePlain_29 l dC dI ad cA nF _ x2 hR (by omega)) (cs_RX11_251 (d := 7) F.2.2.1 (by decide)) tc_29 rfl rfl rfl rfl (Nat.le_of_ble_eq_true rfl) dX11_agree_15 ⟨Nat.le_refl 0, Nat.le_refl 0⟩ (fun r3 u3 H locs hq hP hD hS => ?_)
        obtain ⟨hR, hF3, gr3⟩ := hq
        have hF := hF.tr hF3 (by decide)
        refine z_eq F 27 dX11_agree_18 (by decide) rfl (fun c4 => ?_) (fun c4 => ?_)
        · exact L27 x1 x2 _ _ _ _ hR hF (by omega) (by omega) (by omega) hP hD hS (lv_sub hl [0, 1, 2] rfl)
        · refine lv_iload_n F.1 F.2.1 dX11_agree_21 rfl (lv_at hl 1 rfl) ?_
          refine a_ic F (1 : Int32) dX11_agree_22 (by decide) ?_
          refine lv_iload_n F.1 F.2.1 dX11_agree_23 rfl (lv_at hl 2 rfl) ?_
          refine a_ishl1 F dX11_agree_24 rfl (lo := 0) (hi := 7) (by omega) (by decide) (fun v5 hv5 => ?_)
          have hv5 : (1 : Int) ≤ v5.toInt ∧ v5.toInt ≤ 128 := hv5
          refine a_iorB F dX11_agree_25 rfl rfl (n := 8) (m' := 256) rfl (by decide) (by omega) (by omega) (fun v6 hv6 => ?_)
          refine lv_istore_n (lv' := [(1, .int v6), (0, .ref (ad 0)), (2, .int x2)]) F.1 F.2.1 dX11_agree_26 rfl hl (by decide) rfl (fun ls hl => ?_)
          exact L27 v6 x2 _ _ _ _ hR hF (by omega) (by omega) (by omega) hP hD hS (lv_sub hl [1, 0, 2] rfl)
  refine a_ic F (0 : Int32) dX11_agree_0 (by decide) ?_
  refine lv_istore_n (lv' := [(1, .int (0 : Int32)), (0, .ref (ad 0))]) F.1 F.2.1 dX11_agree_1 rfl hl (by decide) rfl (fun ls hl => ?_)
  refine a_ic F (0 : Int32) dX11_agree_2 (by decide) ?_
  refine lv_istore_n (lv' := [(2, .int (0 : Int32)), (1, .int (0 : Int32)), (0, .ref (ad 0))]) F.1 F.2.1 dX11_agree_3 rfl hl (by decide) rfl (fun ls hl => ?_)
  exact L4 10 (0 : Int32) (0 : Int32) _ _ _ _ hR hF (by decide) (by decide) (by decide) hP hD hS (lv_sub hl [2, 1, 0] rfl)
set_option maxHeartbeats 600000 in
set_option maxRecDepth 100000 in
theorem c_X11_isReading (l : Launch) (dC : Nat → ClassId) (dI : Nat → Nat → Nat) (ad : Nat → Nat) (cA : Nat → ClassId) (nF : Nat) (u0 : ac_U) (p0 : Int32) (hR : ac_R rg u0) : ac_Mi l yX11_isReading (.code yX11_isReading cX11_isReading 1 (some .boolean) :: TB) 1 (dC, dI) vwCl (ac_ty cA) ad cA (TT nF) [.int p0] u0 (fun (r : Int32) (u : ac_U) => u = u0 ∧ ((0 : Int) ≤ r.toInt ∧ r.toInt ≤ 1) ∧ (r.toInt ≠ 0 → 0 ≤ p0.toInt ∧ p0.toInt ≤ 7)) := by
  refine ac_Mi.of (cc := cX11_isReading) (maxL := 1) (ret := (some .boolean)) (by decide) rfl (Nat.le_of_ble_eq_true rfl) ?_
  intro p e s m below meth c A ls F hml hr hlocks hA hP hD hS hl
  have F : ac_X p s m [.int p0].toArray c cX11_isReading RX11 TB (dC, dI) vwCl (ac_ty cA) := ⟨F.1, F.2.1, fun w h => F.2.2.1 w (List.mem_cons_of_mem _ h), F.2.2.2.1, F.2.2.2.2⟩
  have hl : lv_has ls 1 [(0, .int p0)] := hl
  have L14 : ∀ (H : Heap) (locs : List Loc) (ls : Array Slot), va_P (dC, dI) vwCl (ac_w ad cA (TT nF) u0) H → va_D A (ac_w ad cA (TT nF) u0) → va_S A s.heap H locs → lv_has ls 1 [] → W p l e (ac_rm 1) s m [.int p0].toArray below meth c H locs 0 0 (MQ below (va_Qi (fun (r : Int32) (u : ac_U) => u = u0 ∧ ((0 : Int) ≤ r.toInt ∧ r.toInt ≤ 1) ∧ (r.toInt ≠ 0 → 0 ≤ p0.toInt ∧ p0.toInt ≤ 7)) (ac_B (dC, dI) vwCl (ac_ty cA) ad cA (TT nF) A) A) [.int p0].toArray s 0 0 A) (F0 m 14 ls []) := by
    intro H locs ls hP hD hS hl
    refine a_ic F (0 : Int32) dX11_isReading_14 (by decide) ?_
    exact a_retz F hr hlocks hP hD hS dX11_isReading_15 (Or.inl rfl) ⟨rfl, (by decide), (by first | exact (by omega : (0 : Int) ≠ 0 → 0 ≤ p0.toInt ∧ p0.toInt ≤ 7) | (rw [ic_0]; exact (by omega : (0 : Int) ≠ 0 → 0 ≤ p0.toInt ∧ p0.toInt ≤ 7)))⟩
  refine lv_iload_n F.1 F.2.1 dX11_isReading_0 rfl (lv_at hl 0 rfl) ?_
  refine z_lt F 14 dX11_isReading_1 (by decide) rfl (fun c1 => ?_) (fun c1 => ?_)
  · exact L14 _ _ _  hP hD hS (lv_sub hl [] rfl)
  · refine lv_iload_n F.1 F.2.1 dX11_isReading_4 rfl (lv_at hl 0 rfl) ?_
    refine a_bp F (8 : Int32) dX11_isReading_5 (by decide) ?_
    refine b_ge F 14 dX11_isReading_7 (by decide) rfl ic_8 (fun c2 => ?_) (fun c2 => ?_)
    · exact L14 _ _ _  hP hD hS (lv_sub hl [] rfl)
    · refine a_ic F (1 : Int32) dX11_isReading_10 (by decide) ?_
      refine lv_goto (tgt := 15) F.1 F.2.1 dX11_isReading_11 (by decide) ?_
      exact a_retz F hr hlocks hP hD hS dX11_isReading_15 (Or.inr rfl) ⟨rfl, (by decide), (by first | exact (by omega : (1 : Int) ≠ 0 → 0 ≤ p0.toInt ∧ p0.toInt ≤ 7) | (rw [ic_1]; exact (by omega : (1 : Int) ≠ 0 → 0 ≤ p0.toInt ∧ p0.toInt ≤ 7)))⟩
set_option maxHeartbeats 600000 in
set_option maxRecDepth 100000 in
theorem c_X11_asks_0 (l : Launch) (dC : Nat → ClassId) (dI : Nat → Nat → Nat) (ad : Nat → Nat) (cA : Nat → ClassId) (nF : Nat) (u0 : ac_U) (p0 : Int32) (p1 : Int32) (hR : ac_R rg u0) : ac_Mi l yX11_asks (.code yX11_asks cX11_asks 3 (some .int) :: TB) 6 (dC, dI) vwCl (ac_ty cA) ad cA (TT nF) [.ref (ad 0), .int p0, .int p1] u0 (fun (r : Int32) (u : ac_U) => ac_R rg u ∧ ac_Fr [(29, some 4), (29, some 5), (29, some 6), (30, none)] u0 u ∧ ((-1 : Int) ≤ r.toInt ∧ r.toInt ≤ 3)) := by
  refine ac_Mi.of (cc := cX11_asks) (maxL := 3) (ret := (some .int)) (by decide) rfl (Nat.le_of_ble_eq_true rfl) ?_
  intro p e s m below meth c A ls F hml hr hlocks hA hP hD hS hl
  have F : ac_X p s m [.ref (ad 0), .int p0, .int p1].toArray c cX11_asks RX11 TB (dC, dI) vwCl (ac_ty cA) := ⟨F.1, F.2.1, fun w h => F.2.2.1 w (List.mem_cons_of_mem _ h), F.2.2.2.1, F.2.2.2.2⟩
  have hl : lv_has ls 3 [(0, .ref (ad 0)), (1, .int p0), (2, .int p1)] := hl
  have hF : ac_Fr [(29, some 4), (29, some 5), (29, some 6), (30, none)] u0 u0 := ac_Fr.rf
  have L18 : ∀ (u : ac_U) (H : Heap) (locs : List Loc) (ls : Array Slot), ac_R rg u → ac_Fr [(29, some 4), (29, some 5), (29, some 6), (30, none)] u0 u → va_P (dC, dI) vwCl (ac_w ad cA (TT nF) u) H → va_D A (ac_w ad cA (TT nF) u) → va_S A s.heap H locs → lv_has ls 3 [] → W p l e (ac_rm 6) s m [.ref (ad 0), .int p0, .int p1].toArray below meth c H locs 0 0 (MQ below (va_Qi (fun (r : Int32) (u : ac_U) => ac_R rg u ∧ ac_Fr [(29, some 4), (29, some 5), (29, some 6), (30, none)] u0 u ∧ ((-1 : Int) ≤ r.toInt ∧ r.toInt ≤ 3)) (ac_B (dC, dI) vwCl (ac_ty cA) ad cA (TT nF) A) A) [.ref (ad 0), .int p0, .int p1].toArray s 0 0 A) (F0 m 18 ls []) := by
    intro u H locs ls hR hF hP hD hS hl
    refine a_ic F (-1 : Int32) dX11_asks_18 (by decide) ?_
    exact a_reti F hr hlocks hP hD hS dX11_asks_19 ⟨hR, hF, (by decide)⟩
  refine lv_aload_n F.1 F.2.1 dX11_asks_0 rfl (lv_at hl 0 rfl) ?_
  refine a_getr F inX11 hP 0 1 tc_0 rfl rfl (by decide) q504 (fun _ h9 => h9) dX11_asks_1 ?_
  refine lv_iload_n F.1 F.2.1 dX11_asks_4 rfl (lv_at hl 1 rfl) ?_
  refine a_Vi F hml hl.1 hA hP hD hS (As := [.int p0]) (c_X2_isPromise_4 l dC dI ad cA nF _ p0 hR) (cs_RX11_141 (d := 1) F.2.2.1 (by decide)) tc_4 rfl rfl rfl rfl (Nat.le_of_ble_eq_true rfl) dX11_asks_5 ⟨Nat.le_refl 0, Nat.le_refl 0⟩ (fun r1 uN1 H locs hq hP hD hS => ?_)
  obtain ⟨hu1, gr1, xr1⟩ := hq
  rw [hu1] at hP hD
  have g2 : (0 : Int) ≤ (u0.1 4 6).toInt ∧ (u0.1 4 6).toInt ≤ 8 := hR 4 6
  have xr1 : r1.toInt ≠ 0 → 0 ≤ p0.toInt ∧ p0.toInt < (u0.1 4 6).toInt ∧ p0.toInt ≤ 7 := xr1
  refine z_eq F 18 dX11_asks_8 (by decide) rfl (fun c3 => ?_) (fun c3 => ?_)
  · exact L18 _ _ _ _ hR hF hP hD hS (lv_sub hl [] rfl)
  · refine lv_iload_n F.1 F.2.1 dX11_asks_11 rfl (lv_at hl 2 rfl) ?_
    refine a_Si F hml hl.1 hA hP hD hS (As := [.int p1]) (c_X11_isReading l dC dI ad cA nF _ p1 hR) (cs_RX11_233 (d := 1) F.2.2.1 (by decide)) rfl rfl (Nat.le_of_ble_eq_true rfl) dX11_asks_12 ⟨Nat.le_refl 0, Nat.le_refl 0⟩ (fun r4 uN4 H locs hq hP hD hS => ?_)
    obtain ⟨hu4, gr4, xr4⟩ := hq
    rw [hu4] at hP hD
    have xr4 : r4.toInt ≠ 0 → 0 ≤ p1.toInt ∧ p1.toInt ≤ 7 := xr4
    refine z_ne F 20 dX11_asks_15 (by decide) rfl (fun c5 => ?_) (fun c5 => ?_)
    · refine lv_aload_n F.1 F.2.1 dX11_asks_20 rfl (lv_at hl 0 rfl) ?_
      refine a_getr F inX11 hP 0 5 tc_0 rfl rfl (by decide) q508 (fun _ h9 => h9) dX11_asks_21 ?_
      refine lv_iload_n F.1 F.2.1 dX11_asks_24 rfl (lv_at hl 1 rfl) ?_
      refine lv_iload_n F.1 F.2.1 dX11_asks_25 rfl (lv_at hl 2 rfl) ?_
      refine a_Vi F hml hl.1 hA hP hD hS (As := [.int p0, .int p1]) (c_X5_asksToday_29 l dC dI ad cA nF _ p0 p1 hR (by omega) (by omega)) (cs_RX11_248 (d := 5) F.2.2.1 (by decide)) tc_29 rfl rfl rfl rfl (Nat.le_of_ble_eq_true rfl) dX11_asks_26 ⟨Nat.le_refl 0, Nat.le_refl 0⟩ (fun r6 u6 H locs hq hP hD hS => ?_)
      obtain ⟨hR, hF6, gr6⟩ := hq
      have hF := hF.tr hF6 (by decide)
      exact a_reti F hr hlocks hP hD hS dX11_asks_29 ⟨hR, hF, (by omega : (-1 : Int) ≤ r6.toInt ∧ r6.toInt ≤ 3)⟩
    · exact L18 _ _ _ _ hR hF hP hD hS (lv_sub hl [] rfl)
set_option maxHeartbeats 600000 in
set_option maxRecDepth 100000 in
theorem c_X11_booked_0 (l : Launch) (dC : Nat → ClassId) (dI : Nat → Nat → Nat) (ad : Nat → Nat) (cA : Nat → ClassId) (nF : Nat) (u0 : ac_U) (p0 : Int32) (hR : ac_R rg u0) : ac_Mi l yX11_booked (.code yX11_booked cX11_booked 2 (some .int) :: TB) 1 (dC, dI) vwCl (ac_ty cA) ad cA (TT nF) [.ref (ad 0), .int p0] u0 (fun (r : Int32) (u : ac_U) => u = u0) := by
  refine ac_Mi.of (cc := cX11_booked) (maxL := 2) (ret := (some .int)) (by decide) rfl (Nat.le_of_ble_eq_true rfl) ?_
  intro p e s m below meth c A ls F hml hr hlocks hA hP hD hS hl
  have F : ac_X p s m [.ref (ad 0), .int p0].toArray c cX11_booked RX11 TB (dC, dI) vwCl (ac_ty cA) := ⟨F.1, F.2.1, fun w h => F.2.2.1 w (List.mem_cons_of_mem _ h), F.2.2.2.1, F.2.2.2.2⟩
  have hl : lv_has ls 2 [(0, .ref (ad 0)), (1, .int p0)] := hl
  refine lv_aload_n F.1 F.2.1 dX11_booked_0 rfl (lv_at hl 0 rfl) ?_
  have g1 : (0 : Int) ≤ (u0.1 0 14).toInt ∧ (u0.1 0 14).toInt ≤ 1 := hR 0 14
  refine a_geti F inX11 hP 0 14 tc_0 rfl rfl (by decide) q517 (fun _ h9 => h9) (v := (u0.1 0 14)) rfl dX11_booked_1 ?_
  refine z_ne F 9 dX11_booked_4 (by decide) rfl (fun c2 => ?_) (fun c2 => ?_)
  · refine lv_iload_n F.1 F.2.1 dX11_booked_9 rfl (lv_at hl 1 rfl) ?_
    rcases (show (p0.toInt < 0 ∨ 3 < p0.toInt) ∨ p0.toInt = 0 ∨ p0.toInt = 1 ∨ p0.toInt = 2 ∨ p0.toInt = 3 by omega) with c3 | c3 | c3 | c3 | c3
    · refine lv_tableOut (tgt := 69) F.1 F.2.1 dX11_booked_10 c3 (by decide) ?_
      refine a_ic F (-1 : Int32) dX11_booked_69 (by decide) ?_
      exact a_reti F hr hlocks hP hD hS dX11_booked_70 rfl
    · refine lv_tableIn (tgt := 40) F.1 F.2.1 dX11_booked_10 (by omega) (by omega) (by rw [c3]; rfl) (by decide) ?_
      refine lv_aload_n F.1 F.2.1 dX11_booked_40 rfl (lv_at hl 0 rfl) ?_
      refine a_getr F inX11 hP 0 8 tc_0 rfl rfl (by decide) q511 (fun _ h9 => h9) dX11_booked_41 ?_
      refine a_geti F inX0 hP 39 7 tc_39 rfl rfl (by decide) q408 (fun _ h9 => h9) (v := (u0.1 39 7)) rfl dX11_booked_44 ?_
      exact a_reti F hr hlocks hP hD hS dX11_booked_47 rfl
    · refine lv_tableIn (tgt := 48) F.1 F.2.1 dX11_booked_10 (by omega) (by omega) (by rw [c3]; rfl) (by decide) ?_
      refine lv_aload_n F.1 F.2.1 dX11_booked_48 rfl (lv_at hl 0 rfl) ?_
      refine a_getr F inX11 hP 0 8 tc_0 rfl rfl (by decide) q511 (fun _ h9 => h9) dX11_booked_49 ?_
      refine a_geti F inX0 hP 39 8 tc_39 rfl rfl (by decide) q410 (fun _ h9 => h9) (v := (u0.1 39 8)) rfl dX11_booked_52 ?_
      exact a_reti F hr hlocks hP hD hS dX11_booked_55 rfl
    · refine lv_tableIn (tgt := 56) F.1 F.2.1 dX11_booked_10 (by omega) (by omega) (by rw [c3]; rfl) (by decide) ?_
      refine lv_aload_n F.1 F.2.1 dX11_booked_56 rfl (lv_at hl 0 rfl) ?_
      refine a_getr F inX11 hP 0 8 tc_0 rfl rfl (by decide) q511 (fun _ h9 => h9) dX11_booked_57 ?_
      refine a_geti F inX0 hP 39 9 tc_39 rfl rfl (by decide) q412 (fun _ h9 => h9) (v := (u0.1 39 9)) rfl dX11_booked_60 ?_
      exact a_reti F hr hlocks hP hD hS dX11_booked_63 rfl
    · refine lv_tableIn (tgt := 64) F.1 F.2.1 dX11_booked_10 (by omega) (by omega) (by rw [c3]; rfl) (by decide) ?_
      refine lv_aload_n F.1 F.2.1 dX11_booked_64 rfl (lv_at hl 0 rfl) ?_
      refine a_geti F inX11 hP 0 13 tc_0 rfl rfl (by decide) q516 (fun _ h9 => h9) (v := (u0.1 0 13)) rfl dX11_booked_65 ?_
      exact a_reti F hr hlocks hP hD hS dX11_booked_68 rfl
  · refine a_ic F (-1 : Int32) dX11_booked_7 (by decide) ?_
    exact a_reti F hr hlocks hP hD hS dX11_booked_8 rfl
set_option maxHeartbeats 600000 in
set_option maxRecDepth 100000 in
theorem c_X11_breach_0 (l : Launch) (dC : Nat → ClassId) (dI : Nat → Nat → Nat) (ad : Nat → Nat) (cA : Nat → ClassId) (nF : Nat) (u0 : ac_U) (p0 : Int32) (p1 : Int32) (hR : ac_R rg u0) : ac_Mi l yX11_breach (.code yX11_breach cX11_breach 3 (some .int) :: TB) 7 (dC, dI) vwCl (ac_ty cA) ad cA (TT nF) [.ref (ad 0), .int p0, .int p1] u0 (fun (r : Int32) (u : ac_U) => ac_R rg u ∧ ac_Fr [(29, some 4), (29, some 5), (29, some 6), (30, none)] u0 u ∧ ((-1 : Int) ≤ r.toInt ∧ r.toInt ≤ 121)) := by
  refine ac_Mi.of (cc := cX11_breach) (maxL := 3) (ret := (some .int)) (by decide) rfl (Nat.le_of_ble_eq_true rfl) ?_
  intro p e s m below meth c A ls F hml hr hlocks hA hP hD hS hl
  have F : ac_X p s m [.ref (ad 0), .int p0, .int p1].toArray c cX11_breach RX11 TB (dC, dI) vwCl (ac_ty cA) := ⟨F.1, F.2.1, fun w h => F.2.2.1 w (List.mem_cons_of_mem _ h), F.2.2.2.1, F.2.2.2.2⟩
  have hl : lv_has ls 3 [(0, .ref (ad 0)), (1, .int p0), (2, .int p1)] := hl
  have hF : ac_Fr [(29, some 4), (29, some 5), (29, some 6), (30, none)] u0 u0 := ac_Fr.rf
  refine lv_aload_n F.1 F.2.1 dX11_breach_0 rfl (lv_at hl 0 rfl) ?_
  refine a_getr F inX11 hP 0 1 tc_0 rfl rfl (by decide) q504 (fun _ h9 => h9) dX11_breach_1 ?_
  refine lv_iload_n F.1 F.2.1 dX11_breach_4 rfl (lv_at hl 1 rfl) ?_
  refine a_Vi F hml hl.1 hA hP hD hS (As := [.int p0]) (c_X2_isPromise_4 l dC dI ad cA nF _ p0 hR) (cs_RX11_141 (d := 1) F.2.2.1 (by decide)) tc_4 rfl rfl rfl rfl (Nat.le_of_ble_eq_true rfl) dX11_breach_5 ⟨Nat.le_refl 0, Nat.le_refl 0⟩ (fun r1 uN1 H locs hq hP hD hS => ?_)
  obtain ⟨hu1, gr1, xr1⟩ := hq
  rw [hu1] at hP hD
  have g2 : (0 : Int) ≤ (u0.1 4 6).toInt ∧ (u0.1 4 6).toInt ≤ 8 := hR 4 6
  have xr1 : r1.toInt ≠ 0 → 0 ≤ p0.toInt ∧ p0.toInt < (u0.1 4 6).toInt ∧ p0.toInt ≤ 7 := xr1
  refine z_ne F 13 dX11_breach_8 (by decide) rfl (fun c3 => ?_) (fun c3 => ?_)
  · refine lv_iload_n F.1 F.2.1 dX11_breach_13 rfl (lv_at hl 2 rfl) ?_
    refine z_ne F 26 dX11_breach_14 (by decide) rfl (fun c4 => ?_) (fun c4 => ?_)
    · refine lv_iload_n F.1 F.2.1 dX11_breach_26 rfl (lv_at hl 2 rfl) ?_
      refine a_ic F (1 : Int32) dX11_breach_27 (by decide) ?_
      refine b_ne F 42 dX11_breach_28 (by decide) rfl ic_1 (fun c5 => ?_) (fun c5 => ?_)
      · refine a_ic F (-1 : Int32) dX11_breach_42 (by decide) ?_
        exact a_reti F hr hlocks hP hD hS dX11_breach_43 ⟨hR, hF, (by decide)⟩
      · refine lv_aload_n F.1 F.2.1 dX11_breach_31 rfl (lv_at hl 0 rfl) ?_
        refine a_getr F inX11 hP 0 5 tc_0 rfl rfl (by decide) q508 (fun _ h9 => h9) dX11_breach_32 ?_
        refine lv_iload_n F.1 F.2.1 dX11_breach_35 rfl (lv_at hl 1 rfl) ?_
        refine a_Vi F hml hl.1 hA hP hD hS (As := [.int p0]) (c_X5_brokenByAll_29 l dC dI ad cA nF _ p0 hR (by omega)) (cs_RX11_245 (d := 6) F.2.2.1 (by decide)) tc_29 rfl rfl rfl rfl (Nat.le_of_ble_eq_true rfl) dX11_breach_36 ⟨Nat.le_refl 0, Nat.le_refl 0⟩ (fun r6 u6 H locs hq hP hD hS => ?_)
        obtain ⟨hR, hF6, gr6⟩ := hq
        have hF := hF.tr hF6 (by decide)
        refine lv_goto (tgt := 43) F.1 F.2.1 dX11_breach_39 (by decide) ?_
        exact a_reti F hr hlocks hP hD hS dX11_breach_43 ⟨hR, hF, (by omega : (-1 : Int) ≤ r6.toInt ∧ r6.toInt ≤ 121)⟩
    · refine lv_aload_n F.1 F.2.1 dX11_breach_17 rfl (lv_at hl 0 rfl) ?_
      refine a_getr F inX11 hP 0 5 tc_0 rfl rfl (by decide) q508 (fun _ h9 => h9) dX11_breach_18 ?_
      refine lv_iload_n F.1 F.2.1 dX11_breach_21 rfl (lv_at hl 1 rfl) ?_
      refine a_Vi F hml hl.1 hA hP hD hS (As := [.int p0]) (c_X5_brokenBySome_29 l dC dI ad cA nF _ p0 hR (by omega)) (cs_RX11_242 (d := 6) F.2.2.1 (by decide)) tc_29 rfl rfl rfl rfl (Nat.le_of_ble_eq_true rfl) dX11_breach_22 ⟨Nat.le_refl 0, Nat.le_refl 0⟩ (fun r7 u7 H locs hq hP hD hS => ?_)
      obtain ⟨hR, hF7, gr7⟩ := hq
      have hF := hF.tr hF7 (by decide)
      exact a_reti F hr hlocks hP hD hS dX11_breach_25 ⟨hR, hF, (by omega : (-1 : Int) ≤ r7.toInt ∧ r7.toInt ≤ 121)⟩
  · refine a_ic F (-1 : Int32) dX11_breach_11 (by decide) ?_
    exact a_reti F hr hlocks hP hD hS dX11_breach_12 ⟨hR, hF, (by decide)⟩
set_option maxHeartbeats 600000 in
set_option maxRecDepth 100000 in
theorem c_X11_broken_0 (l : Launch) (dC : Nat → ClassId) (dI : Nat → Nat → Nat) (ad : Nat → Nat) (cA : Nat → ClassId) (nF : Nat) (u0 : ac_U) (p0 : Int32) (p1 : Int32) (hR : ac_R rg u0) : ac_Mi l yX11_broken (.code yX11_broken cX11_broken 3 (some .int) :: TB) 6 (dC, dI) vwCl (ac_ty cA) ad cA (TT nF) [.ref (ad 0), .int p0, .int p1] u0 (fun (r : Int32) (u : ac_U) => ac_R rg u ∧ ac_Fr [(29, some 4), (29, some 5), (29, some 6), (30, none)] u0 u ∧ ((-1 : Int) ≤ r.toInt ∧ r.toInt ≤ 121)) := by
  refine ac_Mi.of (cc := cX11_broken) (maxL := 3) (ret := (some .int)) (by decide) rfl (Nat.le_of_ble_eq_true rfl) ?_
  intro p e s m below meth c A ls F hml hr hlocks hA hP hD hS hl
  have F : ac_X p s m [.ref (ad 0), .int p0, .int p1].toArray c cX11_broken RX11 TB (dC, dI) vwCl (ac_ty cA) := ⟨F.1, F.2.1, fun w h => F.2.2.1 w (List.mem_cons_of_mem _ h), F.2.2.2.1, F.2.2.2.2⟩
  have hl : lv_has ls 3 [(0, .ref (ad 0)), (1, .int p0), (2, .int p1)] := hl
  have hF : ac_Fr [(29, some 4), (29, some 5), (29, some 6), (30, none)] u0 u0 := ac_Fr.rf
  have L18 : ∀ (u : ac_U) (H : Heap) (locs : List Loc) (ls : Array Slot), ac_R rg u → ac_Fr [(29, some 4), (29, some 5), (29, some 6), (30, none)] u0 u → va_P (dC, dI) vwCl (ac_w ad cA (TT nF) u) H → va_D A (ac_w ad cA (TT nF) u) → va_S A s.heap H locs → lv_has ls 3 [] → W p l e (ac_rm 6) s m [.ref (ad 0), .int p0, .int p1].toArray below meth c H locs 0 0 (MQ below (va_Qi (fun (r : Int32) (u : ac_U) => ac_R rg u ∧ ac_Fr [(29, some 4), (29, some 5), (29, some 6), (30, none)] u0 u ∧ ((-1 : Int) ≤ r.toInt ∧ r.toInt ≤ 121)) (ac_B (dC, dI) vwCl (ac_ty cA) ad cA (TT nF) A) A) [.ref (ad 0), .int p0, .int p1].toArray s 0 0 A) (F0 m 18 ls []) := by
    intro u H locs ls hR hF hP hD hS hl
    refine a_ic F (-1 : Int32) dX11_broken_18 (by decide) ?_
    exact a_reti F hr hlocks hP hD hS dX11_broken_19 ⟨hR, hF, (by decide)⟩
  refine lv_aload_n F.1 F.2.1 dX11_broken_0 rfl (lv_at hl 0 rfl) ?_
  refine a_getr F inX11 hP 0 1 tc_0 rfl rfl (by decide) q504 (fun _ h9 => h9) dX11_broken_1 ?_
  refine lv_iload_n F.1 F.2.1 dX11_broken_4 rfl (lv_at hl 1 rfl) ?_
  refine a_Vi F hml hl.1 hA hP hD hS (As := [.int p0]) (c_X2_isPromise_4 l dC dI ad cA nF _ p0 hR) (cs_RX11_141 (d := 1) F.2.2.1 (by decide)) tc_4 rfl rfl rfl rfl (Nat.le_of_ble_eq_true rfl) dX11_broken_5 ⟨Nat.le_refl 0, Nat.le_refl 0⟩ (fun r1 uN1 H locs hq hP hD hS => ?_)
  obtain ⟨hu1, gr1, xr1⟩ := hq
  rw [hu1] at hP hD
  have g2 : (0 : Int) ≤ (u0.1 4 6).toInt ∧ (u0.1 4 6).toInt ≤ 8 := hR 4 6
  have xr1 : r1.toInt ≠ 0 → 0 ≤ p0.toInt ∧ p0.toInt < (u0.1 4 6).toInt ∧ p0.toInt ≤ 7 := xr1
  refine z_eq F 18 dX11_broken_8 (by decide) rfl (fun c3 => ?_) (fun c3 => ?_)
  · exact L18 _ _ _ _ hR hF hP hD hS (lv_sub hl [] rfl)
  · refine lv_iload_n F.1 F.2.1 dX11_broken_11 rfl (lv_at hl 2 rfl) ?_
    refine a_Si F hml hl.1 hA hP hD hS (As := [.int p1]) (c_X11_isReading l dC dI ad cA nF _ p1 hR) (cs_RX11_233 (d := 1) F.2.2.1 (by decide)) rfl rfl (Nat.le_of_ble_eq_true rfl) dX11_broken_12 ⟨Nat.le_refl 0, Nat.le_refl 0⟩ (fun r4 uN4 H locs hq hP hD hS => ?_)
    obtain ⟨hu4, gr4, xr4⟩ := hq
    rw [hu4] at hP hD
    have xr4 : r4.toInt ≠ 0 → 0 ≤ p1.toInt ∧ p1.toInt ≤ 7 := xr4
    refine z_ne F 20 dX11_broken_15 (by decide) rfl (fun c5 => ?_) (fun c5 => ?_)
    · refine lv_aload_n F.1 F.2.1 dX11_broken_20 rfl (lv_at hl 0 rfl) ?_
      refine a_getr F inX11 hP 0 5 tc_0 rfl rfl (by decide) q508 (fun _ h9 => h9) dX11_broken_21 ?_
      refine lv_iload_n F.1 F.2.1 dX11_broken_24 rfl (lv_at hl 1 rfl) ?_
      refine lv_iload_n F.1 F.2.1 dX11_broken_25 rfl (lv_at hl 2 rfl) ?_
      refine a_Vi F hml hl.1 hA hP hD hS (As := [.int p0, .int p1]) (c_X5_brokenDay_29 l dC dI ad cA nF _ p0 p1 hR (by omega) (by omega)) (cs_RX11_239 (d := 5) F.2.2.1 (by decide)) tc_29 rfl rfl rfl rfl (Nat.le_of_ble_eq_true rfl) dX11_broken_26 ⟨Nat.le_refl 0, Nat.le_refl 0⟩ (fun r6 u6 H locs hq hP hD hS => ?_)
      obtain ⟨hR, hF6, gr6⟩ := hq
      have hF := hF.tr hF6 (by decide)
      exact a_reti F hr hlocks hP hD hS dX11_broken_29 ⟨hR, hF, (by omega : (-1 : Int) ≤ r6.toInt ∧ r6.toInt ≤ 121)⟩
    · exact L18 _ _ _ _ hR hF hP hD hS (lv_sub hl [] rfl)
set_option maxHeartbeats 600000 in
set_option maxRecDepth 100000 in
theorem c_X11_chain_0 (l : Launch) (dC : Nat → ClassId) (dI : Nat → Nat → Nat) (ad : Nat → Nat) (cA : Nat → ClassId) (nF : Nat) (u0 : ac_U) (p0 : Int32) (hR : ac_R rg u0) : ac_Mi l yX11_chain (.code yX11_chain cX11_chain 2 (some .int) :: TB) 3 (dC, dI) vwCl (ac_ty cA) ad cA (TT nF) [.ref (ad 0), .int p0] u0 (fun (r : Int32) (u : ac_U) => u = u0) := by
  refine ac_Mi.of (cc := cX11_chain) (maxL := 2) (ret := (some .int)) (by decide) rfl (Nat.le_of_ble_eq_true rfl) ?_
  intro p e s m below meth c A ls F hml hr hlocks hA hP hD hS hl
  have F : ac_X p s m [.ref (ad 0), .int p0].toArray c cX11_chain RX11 TB (dC, dI) vwCl (ac_ty cA) := ⟨F.1, F.2.1, fun w h => F.2.2.1 w (List.mem_cons_of_mem _ h), F.2.2.2.1, F.2.2.2.2⟩
  have hl : lv_has ls 2 [(0, .ref (ad 0)), (1, .int p0)] := hl
  refine lv_aload_n F.1 F.2.1 dX11_chain_0 rfl (lv_at hl 0 rfl) ?_
  refine a_getr F inX11 hP 0 1 tc_0 rfl rfl (by decide) q504 (fun _ h9 => h9) dX11_chain_1 ?_
  refine lv_iload_n F.1 F.2.1 dX11_chain_4 rfl (lv_at hl 1 rfl) ?_
  refine a_Vi F hml hl.1 hA hP hD hS (As := [.int p0]) (c_X2_isPromise_4 l dC dI ad cA nF _ p0 hR) (cs_RX11_141 (d := 1) F.2.2.1 (by decide)) tc_4 rfl rfl rfl rfl (Nat.le_of_ble_eq_true rfl) dX11_chain_5 ⟨Nat.le_refl 0, Nat.le_refl 0⟩ (fun r1 uN1 H locs hq hP hD hS => ?_)
  obtain ⟨hu1, gr1, xr1⟩ := hq
  rw [hu1] at hP hD
  have g2 : (0 : Int) ≤ (u0.1 4 6).toInt ∧ (u0.1 4 6).toInt ≤ 8 := hR 4 6
  have xr1 : r1.toInt ≠ 0 → 0 ≤ p0.toInt ∧ p0.toInt < (u0.1 4 6).toInt ∧ p0.toInt ≤ 7 := xr1
  refine z_eq F 22 dX11_chain_8 (by decide) rfl (fun c3 => ?_) (fun c3 => ?_)
  · refine a_ic F (-1 : Int32) dX11_chain_22 (by decide) ?_
    exact a_reti F hr hlocks hP hD hS dX11_chain_23 rfl
  · refine lv_aload_n F.1 F.2.1 dX11_chain_11 rfl (lv_at hl 0 rfl) ?_
    refine a_getr F inX11 hP 0 1 tc_0 rfl rfl (by decide) q504 (fun _ h9 => h9) dX11_chain_12 ?_
    refine lv_iload_n F.1 F.2.1 dX11_chain_15 rfl (lv_at hl 1 rfl) ?_
    refine a_Vi F hml hl.1 hA hP hD hS (As := [.int p0]) (c_X2_chainOf_4 l dC dI ad cA nF _ p0 hR (by omega)) (cs_RX11_263 (d := 2) F.2.2.1 (by decide)) tc_4 rfl rfl rfl rfl (Nat.le_of_ble_eq_true rfl) dX11_chain_16 ⟨Nat.le_refl 0, Nat.le_refl 0⟩ (fun r4 uN4 H locs hq hP hD hS => ?_)
    have hu4 := hq
    rw [hu4] at hP hD
    refine lv_goto (tgt := 23) F.1 F.2.1 dX11_chain_19 (by decide) ?_
    exact a_reti F hr hlocks hP hD hS dX11_chain_23 rfl
set_option maxHeartbeats 600000 in
set_option maxRecDepth 100000 in
theorem c_X11_count_0 (l : Launch) (dC : Nat → ClassId) (dI : Nat → Nat → Nat) (ad : Nat → Nat) (cA : Nat → ClassId) (nF : Nat) (u0 : ac_U) (p0 : Int32) (hR : ac_R rg u0) : ac_Mi l yX11_count (.code yX11_count cX11_count 2 (some .int) :: TB) 1 (dC, dI) vwCl (ac_ty cA) ad cA (TT nF) [.ref (ad 0), .int p0] u0 (fun (r : Int32) (u : ac_U) => u = u0 ∧ ((-1 : Int) ≤ r.toInt ∧ r.toInt ≤ 940)) := by
  refine ac_Mi.of (cc := cX11_count) (maxL := 2) (ret := (some .int)) (by decide) rfl (Nat.le_of_ble_eq_true rfl) ?_
  intro p e s m below meth c A ls F hml hr hlocks hA hP hD hS hl
  have F : ac_X p s m [.ref (ad 0), .int p0].toArray c cX11_count RX11 TB (dC, dI) vwCl (ac_ty cA) := ⟨F.1, F.2.1, fun w h => F.2.2.1 w (List.mem_cons_of_mem _ h), F.2.2.2.1, F.2.2.2.2⟩
  have hl : lv_has ls 2 [(0, .ref (ad 0)), (1, .int p0)] := hl
  refine lv_iload_n F.1 F.2.1 dX11_count_0 rfl (lv_at hl 1 rfl) ?_
  rcases (show (p0.toInt < 0 ∨ 8 < p0.toInt) ∨ p0.toInt = 0 ∨ p0.toInt = 1 ∨ p0.toInt = 2 ∨ p0.toInt = 3 ∨ p0.toInt = 4 ∨ p0.toInt = 5 ∨ p0.toInt = 6 ∨ p0.toInt = 7 ∨ p0.toInt = 8 by omega) with c1 | c1 | c1 | c1 | c1 | c1 | c1 | c1 | c1 | c1
  · refine lv_tableOut (tgt := 124) F.1 F.2.1 dX11_count_1 c1 (by decide) ?_
    refine a_ic F (-1 : Int32) dX11_count_124 (by decide) ?_
    exact a_reti F hr hlocks hP hD hS dX11_count_125 ⟨rfl, (by decide)⟩
  · refine lv_tableIn (tgt := 52) F.1 F.2.1 dX11_count_1 (by omega) (by omega) (by rw [c1]; rfl) (by decide) ?_
    refine lv_aload_n F.1 F.2.1 dX11_count_52 rfl (lv_at hl 0 rfl) ?_
    refine a_getr F inX11 hP 0 1 tc_0 rfl rfl (by decide) q504 (fun _ h9 => h9) dX11_count_53 ?_
    have g2 : (4 : Int) ≤ (u0.1 4 0).toInt ∧ (u0.1 4 0).toInt ≤ 24 := hR 4 0
    refine a_geti F inX2 hP 4 0 tc_4 rfl rfl (by decide) q156 (fun _ h9 => h9) (v := (u0.1 4 0)) rfl dX11_count_56 ?_
    exact a_reti F hr hlocks hP hD hS dX11_count_59 ⟨rfl, (by omega : (-1 : Int) ≤ (u0.1 4 0).toInt ∧ (u0.1 4 0).toInt ≤ 940)⟩
  · refine lv_tableIn (tgt := 60) F.1 F.2.1 dX11_count_1 (by omega) (by omega) (by rw [c1]; rfl) (by decide) ?_
    refine lv_aload_n F.1 F.2.1 dX11_count_60 rfl (lv_at hl 0 rfl) ?_
    refine a_getr F inX11 hP 0 1 tc_0 rfl rfl (by decide) q504 (fun _ h9 => h9) dX11_count_61 ?_
    have g3 : (0 : Int) ≤ (u0.1 4 1).toInt ∧ (u0.1 4 1).toInt ≤ 8 := hR 4 1
    refine a_geti F inX2 hP 4 1 tc_4 rfl rfl (by decide) q161 (fun _ h9 => h9) (v := (u0.1 4 1)) rfl dX11_count_64 ?_
    exact a_reti F hr hlocks hP hD hS dX11_count_67 ⟨rfl, (by omega : (-1 : Int) ≤ (u0.1 4 1).toInt ∧ (u0.1 4 1).toInt ≤ 940)⟩
  · refine lv_tableIn (tgt := 68) F.1 F.2.1 dX11_count_1 (by omega) (by omega) (by rw [c1]; rfl) (by decide) ?_
    refine lv_aload_n F.1 F.2.1 dX11_count_68 rfl (lv_at hl 0 rfl) ?_
    refine a_getr F inX11 hP 0 1 tc_0 rfl rfl (by decide) q504 (fun _ h9 => h9) dX11_count_69 ?_
    have g4 : (0 : Int) ≤ (u0.1 4 2).toInt ∧ (u0.1 4 2).toInt ≤ 12 := hR 4 2
    refine a_geti F inX2 hP 4 2 tc_4 rfl rfl (by decide) q164 (fun _ h9 => h9) (v := (u0.1 4 2)) rfl dX11_count_72 ?_
    exact a_reti F hr hlocks hP hD hS dX11_count_75 ⟨rfl, (by omega : (-1 : Int) ≤ (u0.1 4 2).toInt ∧ (u0.1 4 2).toInt ≤ 940)⟩
  · refine lv_tableIn (tgt := 76) F.1 F.2.1 dX11_count_1 (by omega) (by omega) (by rw [c1]; rfl) (by decide) ?_
    refine lv_aload_n F.1 F.2.1 dX11_count_76 rfl (lv_at hl 0 rfl) ?_
    refine a_getr F inX11 hP 0 1 tc_0 rfl rfl (by decide) q504 (fun _ h9 => h9) dX11_count_77 ?_
    have g5 : (0 : Int) ≤ (u0.1 4 3).toInt ∧ (u0.1 4 3).toInt ≤ 6 := hR 4 3
    refine a_geti F inX2 hP 4 3 tc_4 rfl rfl (by decide) q168 (fun _ h9 => h9) (v := (u0.1 4 3)) rfl dX11_count_80 ?_
    exact a_reti F hr hlocks hP hD hS dX11_count_83 ⟨rfl, (by omega : (-1 : Int) ≤ (u0.1 4 3).toInt ∧ (u0.1 4 3).toInt ≤ 940)⟩
  · refine lv_tableIn (tgt := 84) F.1 F.2.1 dX11_count_1 (by omega) (by omega) (by rw [c1]; rfl) (by decide) ?_
    refine lv_aload_n F.1 F.2.1 dX11_count_84 rfl (lv_at hl 0 rfl) ?_
    refine a_getr F inX11 hP 0 1 tc_0 rfl rfl (by decide) q504 (fun _ h9 => h9) dX11_count_85 ?_
    have g6 : (0 : Int) ≤ (u0.1 4 4).toInt ∧ (u0.1 4 4).toInt ≤ 4 := hR 4 4
    refine a_geti F inX2 hP 4 4 tc_4 rfl rfl (by decide) q172 (fun _ h9 => h9) (v := (u0.1 4 4)) rfl dX11_count_88 ?_
    exact a_reti F hr hlocks hP hD hS dX11_count_91 ⟨rfl, (by omega : (-1 : Int) ≤ (u0.1 4 4).toInt ∧ (u0.1 4 4).toInt ≤ 940)⟩
  · refine lv_tableIn (tgt := 92) F.1 F.2.1 dX11_count_1 (by omega) (by omega) (by rw [c1]; rfl) (by decide) ?_
    refine lv_aload_n F.1 F.2.1 dX11_count_92 rfl (lv_at hl 0 rfl) ?_
    refine a_getr F inX11 hP 0 1 tc_0 rfl rfl (by decide) q504 (fun _ h9 => h9) dX11_count_93 ?_
    have g7 : (0 : Int) ≤ (u0.1 4 5).toInt ∧ (u0.1 4 5).toInt ≤ 6 := hR 4 5
    refine a_geti F inX2 hP 4 5 tc_4 rfl rfl (by decide) q177 (fun _ h9 => h9) (v := (u0.1 4 5)) rfl dX11_count_96 ?_
    exact a_reti F hr hlocks hP hD hS dX11_count_99 ⟨rfl, (by omega : (-1 : Int) ≤ (u0.1 4 5).toInt ∧ (u0.1 4 5).toInt ≤ 940)⟩
  · refine lv_tableIn (tgt := 100) F.1 F.2.1 dX11_count_1 (by omega) (by omega) (by rw [c1]; rfl) (by decide) ?_
    refine lv_aload_n F.1 F.2.1 dX11_count_100 rfl (lv_at hl 0 rfl) ?_
    refine a_getr F inX11 hP 0 1 tc_0 rfl rfl (by decide) q504 (fun _ h9 => h9) dX11_count_101 ?_
    have g8 : (0 : Int) ≤ (u0.1 4 6).toInt ∧ (u0.1 4 6).toInt ≤ 8 := hR 4 6
    refine a_geti F inX2 hP 4 6 tc_4 rfl rfl (by decide) q184 (fun _ h9 => h9) (v := (u0.1 4 6)) rfl dX11_count_104 ?_
    exact a_reti F hr hlocks hP hD hS dX11_count_107 ⟨rfl, (by omega : (-1 : Int) ≤ (u0.1 4 6).toInt ∧ (u0.1 4 6).toInt ≤ 940)⟩
  · refine lv_tableIn (tgt := 108) F.1 F.2.1 dX11_count_1 (by omega) (by omega) (by rw [c1]; rfl) (by decide) ?_
    refine lv_aload_n F.1 F.2.1 dX11_count_108 rfl (lv_at hl 0 rfl) ?_
    refine a_getr F inX11 hP 0 1 tc_0 rfl rfl (by decide) q504 (fun _ h9 => h9) dX11_count_109 ?_
    have g9 : (0 : Int) ≤ (u0.1 4 7).toInt ∧ (u0.1 4 7).toInt ≤ 8 := hR 4 7
    refine a_geti F inX2 hP 4 7 tc_4 rfl rfl (by decide) q187 (fun _ h9 => h9) (v := (u0.1 4 7)) rfl dX11_count_112 ?_
    exact a_reti F hr hlocks hP hD hS dX11_count_115 ⟨rfl, (by omega : (-1 : Int) ≤ (u0.1 4 7).toInt ∧ (u0.1 4 7).toInt ≤ 940)⟩
  · refine lv_tableIn (tgt := 116) F.1 F.2.1 dX11_count_1 (by omega) (by omega) (by rw [c1]; rfl) (by decide) ?_
    refine lv_aload_n F.1 F.2.1 dX11_count_116 rfl (lv_at hl 0 rfl) ?_
    refine a_getr F inX11 hP 0 0 tc_0 rfl rfl (by decide) q503 (fun _ h9 => h9) dX11_count_117 ?_
    have g10 : (0 : Int) ≤ (u0.1 1 2).toInt ∧ (u0.1 1 2).toInt ≤ 940 := hR 1 2
    refine a_geti F inX10 hP 1 2 tc_1 rfl rfl (by decide) q96 (fun _ h9 => h9) (v := (u0.1 1 2)) rfl dX11_count_120 ?_
    exact a_reti F hr hlocks hP hD hS dX11_count_123 ⟨rfl, (by omega : (-1 : Int) ≤ (u0.1 1 2).toInt ∧ (u0.1 1 2).toInt ≤ 940)⟩
set_option maxHeartbeats 600000 in
set_option maxRecDepth 100000 in
theorem c_X11_done_0 (l : Launch) (dC : Nat → ClassId) (dI : Nat → Nat → Nat) (ad : Nat → Nat) (cA : Nat → ClassId) (nF : Nat) (u0 : ac_U) (p0 : Int32) (p1 : Int32) (hR : ac_R rg u0) : ac_Mi l yX11_done (.code yX11_done cX11_done 3 (some .int) :: TB) 2 (dC, dI) vwCl (ac_ty cA) ad cA (TT nF) [.ref (ad 0), .int p0, .int p1] u0 (fun (r : Int32) (u : ac_U) => u = u0) := by
  refine ac_Mi.of (cc := cX11_done) (maxL := 3) (ret := (some .int)) (by decide) rfl (Nat.le_of_ble_eq_true rfl) ?_
  intro p e s m below meth c A ls F hml hr hlocks hA hP hD hS hl
  have F : ac_X p s m [.ref (ad 0), .int p0, .int p1].toArray c cX11_done RX11 TB (dC, dI) vwCl (ac_ty cA) := ⟨F.1, F.2.1, fun w h => F.2.2.1 w (List.mem_cons_of_mem _ h), F.2.2.2.1, F.2.2.2.2⟩
  have hl : lv_has ls 3 [(0, .ref (ad 0)), (1, .int p0), (2, .int p1)] := hl
  have L26 : ∀ (H : Heap) (locs : List Loc) (ls : Array Slot), va_P (dC, dI) vwCl (ac_w ad cA (TT nF) u0) H → va_D A (ac_w ad cA (TT nF) u0) → va_S A s.heap H locs → lv_has ls 3 [] → W p l e (ac_rm 2) s m [.ref (ad 0), .int p0, .int p1].toArray below meth c H locs 0 0 (MQ below (va_Qi (fun (r : Int32) (u : ac_U) => u = u0) (ac_B (dC, dI) vwCl (ac_ty cA) ad cA (TT nF) A) A) [.ref (ad 0), .int p0, .int p1].toArray s 0 0 A) (F0 m 26 ls []) := by
    intro H locs ls hP hD hS hl
    refine a_ic F (-1 : Int32) dX11_done_26 (by decide) ?_
    exact a_reti F hr hlocks hP hD hS dX11_done_27 rfl
  refine lv_iload_n F.1 F.2.1 dX11_done_0 rfl (lv_at hl 1 rfl) ?_
  refine z_lt F 26 dX11_done_1 (by decide) rfl (fun c1 => ?_) (fun c1 => ?_)
  · exact L26 _ _ _  hP hD hS (lv_sub hl [] rfl)
  · refine lv_iload_n F.1 F.2.1 dX11_done_4 rfl (lv_at hl 1 rfl) ?_
    refine lv_aload_n F.1 F.2.1 dX11_done_5 rfl (lv_at hl 0 rfl) ?_
    refine a_getr F inX11 hP 0 4 tc_0 rfl rfl (by decide) q507 (fun _ h9 => h9) dX11_done_6 ?_
    refine a_getr F inX6 hP 24 1 tc_24 rfl rfl (by decide) q276 (fun _ h9 => h9) dX11_done_9 ?_
    refine a_ic F (2 : Int32) dX11_done_12 (by decide) ?_
    have g2 : (0 : Int) ≤ (u0.1 25 2).toInt ∧ (u0.1 25 2).toInt ≤ 80 := hR 25 2
    refine a_ialdK F hP 25 2 tc_25 rfl rfl (i_in ic_2 (by omega)) (v := (u0.1 25 2)) rfl dX11_done_13 ?_
    refine b_ge F 26 dX11_done_14 (by decide) rfl rfl (fun c3 => ?_) (fun c3 => ?_)
    · exact L26 _ _ _  hP hD hS (lv_sub hl [] rfl)
    · refine lv_iload_n F.1 F.2.1 dX11_done_17 rfl (lv_at hl 2 rfl) ?_
      refine z_lt F 26 dX11_done_18 (by decide) rfl (fun c4 => ?_) (fun c4 => ?_)
      · exact L26 _ _ _  hP hD hS (lv_sub hl [] rfl)
      · refine lv_iload_n F.1 F.2.1 dX11_done_21 rfl (lv_at hl 2 rfl) ?_
        refine a_ic F (4 : Int32) dX11_done_22 (by decide) ?_
        refine b_lt F 28 dX11_done_23 (by decide) rfl ic_4 (fun c5 => ?_) (fun c5 => ?_)
        · refine lv_aload_n F.1 F.2.1 dX11_done_28 rfl (lv_at hl 0 rfl) ?_
          refine a_getr F inX11 hP 0 4 tc_0 rfl rfl (by decide) q507 (fun _ h9 => h9) dX11_done_29 ?_
          refine lv_iload_n F.1 F.2.1 dX11_done_32 rfl (lv_at hl 1 rfl) ?_
          refine lv_iload_n F.1 F.2.1 dX11_done_33 rfl (lv_at hl 2 rfl) ?_
          refine a_Vi F hml hl.1 hA hP hD hS (As := [.int p0, .int p1]) (c_X6_mark_24 l dC dI ad cA nF _ p0 p1 hR (by omega) (by omega)) (cs_RX11_227 (d := 1) F.2.2.1 (by decide)) tc_24 rfl rfl rfl rfl (Nat.le_of_ble_eq_true rfl) dX11_done_34 ⟨Nat.le_refl 0, Nat.le_refl 0⟩ (fun r6 uN6 H locs hq hP hD hS => ?_)
          obtain ⟨hu6, xr6⟩ := hq
          rw [hu6] at hP hD
          have xr6 : p1.toInt = 0 → 0 ≤ r6.toInt ∧ r6.toInt ≤ 480 := xr6
          exact a_reti F hr hlocks hP hD hS dX11_done_37 rfl
        · exact L26 _ _ _  hP hD hS (lv_sub hl [] rfl)
set_option maxHeartbeats 600000 in
set_option maxRecDepth 100000 in
theorem c_X11_drawn_0 (l : Launch) (dC : Nat → ClassId) (dI : Nat → Nat → Nat) (ad : Nat → Nat) (cA : Nat → ClassId) (nF : Nat) (u0 : ac_U) (p0 : Int32) (p1 : Int32) (hR : ac_R rg u0) : ac_Mi l yX11_drawn (.code yX11_drawn cX11_drawn 3 (some .int) :: TB) 7 (dC, dI) vwCl (ac_ty cA) ad cA (TT nF) [.ref (ad 0), .int p0, .int p1] u0 (fun (r : Int32) (u : ac_U) => ac_R rg u ∧ ac_Fr [(24, some 5), (24, some 6), (25, none), (26, none), (28, none), (38, some 2)] u0 u ∧ ((-400 : Int) ≤ r.toInt ∧ r.toInt ≤ 99)) := by
  refine ac_Mi.of (cc := cX11_drawn) (maxL := 3) (ret := (some .int)) (by decide) rfl (Nat.le_of_ble_eq_true rfl) ?_
  intro p e s m below meth c A ls F hml hr hlocks hA hP hD hS hl
  have F : ac_X p s m [.ref (ad 0), .int p0, .int p1].toArray c cX11_drawn RX11 TB (dC, dI) vwCl (ac_ty cA) := ⟨F.1, F.2.1, fun w h => F.2.2.1 w (List.mem_cons_of_mem _ h), F.2.2.2.1, F.2.2.2.2⟩
  have hl : lv_has ls 3 [(0, .ref (ad 0)), (1, .int p0), (2, .int p1)] := hl
  have hF : ac_Fr [(24, some 5), (24, some 6), (25, none), (26, none), (28, none), (38, some 2)] u0 u0 := ac_Fr.rf
  have L21 : ∀ (u : ac_U) (H : Heap) (locs : List Loc) (ls : Array Slot), ac_R rg u → ac_Fr [(24, some 5), (24, some 6), (25, none), (26, none), (28, none), (38, some 2)] u0 u → va_P (dC, dI) vwCl (ac_w ad cA (TT nF) u) H → va_D A (ac_w ad cA (TT nF) u) → va_S A s.heap H locs → lv_has ls 3 [] → W p l e (ac_rm 7) s m [.ref (ad 0), .int p0, .int p1].toArray below meth c H locs 0 0 (MQ below (va_Qi (fun (r : Int32) (u : ac_U) => ac_R rg u ∧ ac_Fr [(24, some 5), (24, some 6), (25, none), (26, none), (28, none), (38, some 2)] u0 u ∧ ((-400 : Int) ≤ r.toInt ∧ r.toInt ≤ 99)) (ac_B (dC, dI) vwCl (ac_ty cA) ad cA (TT nF) A) A) [.ref (ad 0), .int p0, .int p1].toArray s 0 0 A) (F0 m 21 ls []) := by
    intro u H locs ls hR hF hP hD hS hl
    refine a_ic F (-1 : Int32) dX11_drawn_21 (by decide) ?_
    exact a_reti F hr hlocks hP hD hS dX11_drawn_22 ⟨hR, hF, (by decide)⟩
  refine lv_iload_n F.1 F.2.1 dX11_drawn_0 rfl (lv_at hl 1 rfl) ?_
  refine a_ic F (1 : Int32) dX11_drawn_1 (by decide) ?_
  refine b_lt F 21 dX11_drawn_2 (by decide) rfl ic_1 (fun c1 => ?_) (fun c1 => ?_)
  · exact L21 _ _ _ _ hR hF hP hD hS (lv_sub hl [] rfl)
  · refine lv_iload_n F.1 F.2.1 dX11_drawn_5 rfl (lv_at hl 1 rfl) ?_
    refine a_bp F (99 : Int32) dX11_drawn_6 (by decide) ?_
    refine b_gt F 21 dX11_drawn_8 (by decide) rfl ic_99 (fun c2 => ?_) (fun c2 => ?_)
    · exact L21 _ _ _ _ hR hF hP hD hS (lv_sub hl [] rfl)
    · refine lv_aload_n F.1 F.2.1 dX11_drawn_11 rfl (lv_at hl 0 rfl) ?_
      refine a_getr F inX11 hP 0 1 tc_0 rfl rfl (by decide) q504 (fun _ h9 => h9) dX11_drawn_12 ?_
      have g3 : (0 : Int) ≤ (u0.1 4 4).toInt ∧ (u0.1 4 4).toInt ≤ 4 := hR 4 4
      refine a_geti F inX2 hP 4 4 tc_4 rfl rfl (by decide) q172 (fun _ h9 => h9) (v := (u0.1 4 4)) rfl dX11_drawn_15 ?_
      refine z_ne F 23 dX11_drawn_18 (by decide) rfl (fun c4 => ?_) (fun c4 => ?_)
      · refine lv_aload_n F.1 F.2.1 dX11_drawn_23 rfl (lv_at hl 0 rfl) ?_
        refine a_getr F inX11 hP 0 4 tc_0 rfl rfl (by decide) q507 (fun _ h9 => h9) dX11_drawn_24 ?_
        refine a_Vi F hml hl.1 hA hP hD hS (As := []) (c_X6_isOver_24 l dC dI ad cA nF _  hR) (cs_RX11_221 (d := 2) F.2.2.1 (by decide)) tc_24 rfl rfl rfl rfl (Nat.le_of_ble_eq_true rfl) dX11_drawn_27 ⟨Nat.le_refl 0, Nat.le_refl 0⟩ (fun r5 uN5 H locs hq hP hD hS => ?_)
        obtain ⟨hu5, gr5, xr5⟩ := hq
        rw [hu5] at hP hD
        have g6 : (0 : Int) ≤ (u0.1 25 0).toInt ∧ (u0.1 25 0).toInt ≤ 480 := hR 25 0
        have g7 : (4 : Int) ≤ (u0.1 4 0).toInt ∧ (u0.1 4 0).toInt ≤ 24 := hR 4 0
        have xr5 : r5.toInt = 0 → (u0.1 25 0).toInt < 20 * (u0.1 4 0).toInt := xr5
        refine z_eq F 35 dX11_drawn_30 (by decide) rfl (fun c8 => ?_) (fun c8 => ?_)
        · refine lv_aload_n F.1 F.2.1 dX11_drawn_35 rfl (lv_at hl 0 rfl) ?_
          refine a_getr F inX11 hP 0 4 tc_0 rfl rfl (by decide) q507 (fun _ h9 => h9) dX11_drawn_36 ?_
          refine a_Vv F hml hl.1 hA hP hD hS (As := []) (c_X6_remember_24 l dC dI ad cA nF _  hR) (cs_RX11_200 (d := 1) F.2.2.1 (by decide)) tc_24 rfl rfl rfl rfl (Nat.le_of_ble_eq_true rfl) dX11_drawn_39 ⟨Nat.le_refl 0, Nat.le_refl 0⟩ (fun u9 H locs hq hP hD hS => ?_)
          obtain ⟨hR, hF9⟩ := hq
          have hF := hF.tr hF9 (by decide)
          refine lv_aload_n F.1 F.2.1 dX11_drawn_42 rfl (lv_at hl 0 rfl) ?_
          refine a_getr F inX11 hP 0 7 tc_0 rfl rfl (by decide) q510 (fun _ h9 => h9) dX11_drawn_43 ?_
          refine lv_iload_n F.1 F.2.1 dX11_drawn_46 rfl (lv_at hl 1 rfl) ?_
          refine lv_iload_n F.1 F.2.1 dX11_drawn_47 rfl (lv_at hl 2 rfl) ?_
          refine a_Vi F hml hl.1 hA hP hD hS (As := [.int p0, .int p1]) (c_X1_passDrawn_38 l dC dI ad cA nF _ p0 p1 hR (by omega)) (cs_RX11_291 (d := 6) F.2.2.1 (by decide)) tc_38 rfl rfl rfl rfl (Nat.le_of_ble_eq_true rfl) dX11_drawn_48 ⟨Nat.le_refl 0, Nat.le_refl 0⟩ (fun r10 u10 H locs hq hP hD hS => ?_)
          obtain ⟨hR, hF10, gr10⟩ := hq
          have hF := hF.tr hF10 (by decide)
          exact a_reti F hr hlocks hP hD hS dX11_drawn_51 ⟨hR, hF, (by omega : (-400 : Int) ≤ r10.toInt ∧ r10.toInt ≤ 99)⟩
        · refine a_ic F (0 : Int32) dX11_drawn_33 (by decide) ?_
          exact a_reti F hr hlocks hP hD hS dX11_drawn_34 ⟨hR, hF, (by decide)⟩
      · exact L21 _ _ _ _ hR hF hP hD hS (lv_sub hl [] rfl)
set_option maxHeartbeats 600000 in
set_option maxRecDepth 100000 in
theorem c_X11_fault_0 (l : Launch) (dC : Nat → ClassId) (dI : Nat → Nat → Nat) (ad : Nat → Nat) (cA : Nat → ClassId) (nF : Nat) (u0 : ac_U)  (hR : ac_R rg u0) : ac_Mi l yX11_fault (.code yX11_fault cX11_fault 1 (some .int) :: TB) 1 (dC, dI) vwCl (ac_ty cA) ad cA (TT nF) [.ref (ad 0)] u0 (fun (r : Int32) (u : ac_U) => u = u0 ∧ ((0 : Int) ≤ r.toInt ∧ r.toInt ≤ 4)) := by
  refine ac_Mi.of (cc := cX11_fault) (maxL := 1) (ret := (some .int)) (by decide) rfl (Nat.le_of_ble_eq_true rfl) ?_
  intro p e s m below meth c A ls F hml hr hlocks hA hP hD hS hl
  have F : ac_X p s m [.ref (ad 0)].toArray c cX11_fault RX11 TB (dC, dI) vwCl (ac_ty cA) := ⟨F.1, F.2.1, fun w h => F.2.2.1 w (List.mem_cons_of_mem _ h), F.2.2.2.1, F.2.2.2.2⟩
  have hl : lv_has ls 1 [(0, .ref (ad 0))] := hl
  refine lv_aload_n F.1 F.2.1 dX11_fault_0 rfl (lv_at hl 0 rfl) ?_
  refine a_getr F inX11 hP 0 0 tc_0 rfl rfl (by decide) q503 (fun _ h9 => h9) dX11_fault_1 ?_
  have g1 : (0 : Int) ≤ (u0.1 1 10).toInt ∧ (u0.1 1 10).toInt ≤ 4 := hR 1 10
  refine a_geti F inX10 hP 1 10 tc_1 rfl rfl (by decide) q115 (fun _ h9 => h9) (v := (u0.1 1 10)) rfl dX11_fault_4 ?_
  exact a_reti F hr hlocks hP hD hS dX11_fault_7 ⟨rfl, (by omega : (0 : Int) ≤ (u0.1 1 10).toInt ∧ (u0.1 1 10).toInt ≤ 4)⟩
set_option maxHeartbeats 600000 in
set_option maxRecDepth 100000 in
theorem c_X11_frog_0 (l : Launch) (dC : Nat → ClassId) (dI : Nat → Nat → Nat) (ad : Nat → Nat) (cA : Nat → ClassId) (nF : Nat) (u0 : ac_U) (p0 : Int32) (hR : ac_R rg u0) : ac_Mi l yX11_frog (.code yX11_frog cX11_frog 2 (some .int) :: TB) 2 (dC, dI) vwCl (ac_ty cA) ad cA (TT nF) [.ref (ad 0), .int p0] u0 (fun (r : Int32) (u : ac_U) => u = u0 ∧ ((-1 : Int) ≤ r.toInt ∧ r.toInt ≤ 7)) := by
  refine ac_Mi.of (cc := cX11_frog) (maxL := 2) (ret := (some .int)) (by decide) rfl (Nat.le_of_ble_eq_true rfl) ?_
  intro p e s m below meth c A ls F hml hr hlocks hA hP hD hS hl
  have F : ac_X p s m [.ref (ad 0), .int p0].toArray c cX11_frog RX11 TB (dC, dI) vwCl (ac_ty cA) := ⟨F.1, F.2.1, fun w h => F.2.2.1 w (List.mem_cons_of_mem _ h), F.2.2.2.1, F.2.2.2.2⟩
  have hl : lv_has ls 2 [(0, .ref (ad 0)), (1, .int p0)] := hl
  refine lv_aload_n F.1 F.2.1 dX11_frog_0 rfl (lv_at hl 0 rfl) ?_
  refine a_getr F inX11 hP 0 1 tc_0 rfl rfl (by decide) q504 (fun _ h9 => h9) dX11_frog_1 ?_
  refine lv_iload_n F.1 F.2.1 dX11_frog_4 rfl (lv_at hl 1 rfl) ?_
  refine a_Vi F hml hl.1 hA hP hD hS (As := [.int p0]) (c_X2_isFrog_4 l dC dI ad cA nF _ p0 hR) (cs_RX11_171 (d := 1) F.2.2.1 (by decide)) tc_4 rfl rfl rfl rfl (Nat.le_of_ble_eq_true rfl) dX11_frog_5 ⟨Nat.le_refl 0, Nat.le_refl 0⟩ (fun r1 uN1 H locs hq hP hD hS => ?_)
  obtain ⟨hu1, gr1, xr1⟩ := hq
  rw [hu1] at hP hD
  have g2 : (0 : Int) ≤ (u0.1 4 3).toInt ∧ (u0.1 4 3).toInt ≤ 6 := hR 4 3
  have xr1 : r1.toInt ≠ 0 → 0 ≤ p0.toInt ∧ p0.toInt < (u0.1 4 3).toInt ∧ p0.toInt ≤ 5 := xr1
  refine z_eq F 23 dX11_frog_8 (by decide) rfl (fun c3 => ?_) (fun c3 => ?_)
  · refine a_ic F (-1 : Int32) dX11_frog_23 (by decide) ?_
    exact a_reti F hr hlocks hP hD hS dX11_frog_24 ⟨rfl, (by decide)⟩
  · refine lv_aload_n F.1 F.2.1 dX11_frog_11 rfl (lv_at hl 0 rfl) ?_
    refine a_getr F inX11 hP 0 1 tc_0 rfl rfl (by decide) q504 (fun _ h9 => h9) dX11_frog_12 ?_
    refine a_getr F inX2 hP 4 10 tc_4 rfl rfl (by decide) q191 (fun _ h9 => h9) dX11_frog_15 ?_
    refine lv_iload_n F.1 F.2.1 dX11_frog_18 rfl (lv_at hl 1 rfl) ?_
    refine a_iald F hP 6 tc_6 rfl (i_in rfl (by omega)) dX11_frog_19 (fun v4 ev4 => ?_)
    have hv4 : (0 : Int) ≤ v4.toInt ∧ v4.toInt ≤ 7 := ev4 ▸ hR 6 _
    refine lv_goto (tgt := 24) F.1 F.2.1 dX11_frog_20 (by decide) ?_
    exact a_reti F hr hlocks hP hD hS dX11_frog_24 ⟨rfl, (by omega : (-1 : Int) ≤ v4.toInt ∧ v4.toInt ≤ 7)⟩
set_option maxHeartbeats 600000 in
set_option maxRecDepth 100000 in
theorem c_X11_whyGo_0 (l : Launch) (dC : Nat → ClassId) (dI : Nat → Nat → Nat) (ad : Nat → Nat) (cA : Nat → ClassId) (nF : Nat) (u0 : ac_U) (p0 : Int32) (p1 : Int32) (hR : ac_R rg u0) : ac_Mi l yX11_whyGo (.code yX11_whyGo cX11_whyGo 3 (some .int) :: TB) 4 (dC, dI) vwCl (ac_ty cA) ad cA (TT nF) [.ref (ad 0), .int p0, .int p1] u0 (fun (r : Int32) (u : ac_U) => u = u0 ∧ ((-1 : Int) ≤ r.toInt ∧ r.toInt ≤ 3) ∧ (r.toInt = 0 → 0 ≤ p0.toInt ∧ p0.toInt ≤ 3 ∧ 0 ≤ p1.toInt ∧ p1.toInt ≤ 7)) := by
  refine ac_Mi.of (cc := cX11_whyGo) (maxL := 3) (ret := (some .int)) (by decide) rfl (Nat.le_of_ble_eq_true rfl) ?_
  intro p e s m below meth c A ls F hml hr hlocks hA hP hD hS hl
  have F : ac_X p s m [.ref (ad 0), .int p0, .int p1].toArray c cX11_whyGo RX11 TB (dC, dI) vwCl (ac_ty cA) := ⟨F.1, F.2.1, fun w h => F.2.2.1 w (List.mem_cons_of_mem _ h), F.2.2.2.1, F.2.2.2.2⟩
  have hl : lv_has ls 3 [(0, .ref (ad 0)), (1, .int p0), (2, .int p1)] := hl
  have L22 : ∀ (H : Heap) (locs : List Loc) (ls : Array Slot), va_P (dC, dI) vwCl (ac_w ad cA (TT nF) u0) H → va_D A (ac_w ad cA (TT nF) u0) → va_S A s.heap H locs → lv_has ls 3 [] → W p l e (ac_rm 4) s m [.ref (ad 0), .int p0, .int p1].toArray below meth c H locs 0 0 (MQ below (va_Qi (fun (r : Int32) (u : ac_U) => u = u0 ∧ ((-1 : Int) ≤ r.toInt ∧ r.toInt ≤ 3) ∧ (r.toInt = 0 → 0 ≤ p0.toInt ∧ p0.toInt ≤ 3 ∧ 0 ≤ p1.toInt ∧ p1.toInt ≤ 7)) (ac_B (dC, dI) vwCl (ac_ty cA) ad cA (TT nF) A) A) [.ref (ad 0), .int p0, .int p1].toArray s 0 0 A) (F0 m 22 ls []) := by
    intro H locs ls hP hD hS hl
    refine a_ic F (-1 : Int32) dX11_whyGo_22 (by decide) ?_
    exact a_reti F hr hlocks hP hD hS dX11_whyGo_23 ⟨rfl, (by decide), (by first | exact (by omega : (-1 : Int) = 0 → 0 ≤ p0.toInt ∧ p0.toInt ≤ 3 ∧ 0 ≤ p1.toInt ∧ p1.toInt ≤ 7) | (rw [ic_m1]; exact (by omega : (-1 : Int) = 0 → 0 ≤ p0.toInt ∧ p0.toInt ≤ 3 ∧ 0 ≤ p1.toInt ∧ p1.toInt ≤ 7)))⟩
  refine lv_aload_n F.1 F.2.1 dX11_whyGo_0 rfl (lv_at hl 0 rfl) ?_
  refine a_getr F inX11 hP 0 1 tc_0 rfl rfl (by decide) q504 (fun _ h9 => h9) dX11_whyGo_1 ?_
  refine lv_iload_n F.1 F.2.1 dX11_whyGo_4 rfl (lv_at hl 1 rfl) ?_
  refine a_Vi F hml hl.1 hA hP hD hS (As := [.int p0]) (c_X2_isPerson_4 l dC dI ad cA nF _ p0 hR) (cs_RX11_159 (d := 1) F.2.2.1 (by decide)) tc_4 rfl rfl rfl rfl (Nat.le_of_ble_eq_true rfl) dX11_whyGo_5 ⟨Nat.le_refl 0, Nat.le_refl 0⟩ (fun r1 uN1 H locs hq hP hD hS => ?_)
  obtain ⟨hu1, gr1, xr1⟩ := hq
  rw [hu1] at hP hD
  have g2 : (0 : Int) ≤ (u0.1 4 4).toInt ∧ (u0.1 4 4).toInt ≤ 4 := hR 4 4
  have xr1 : r1.toInt ≠ 0 → 0 ≤ p0.toInt ∧ p0.toInt < (u0.1 4 4).toInt ∧ p0.toInt ≤ 3 := xr1
  refine z_eq F 22 dX11_whyGo_8 (by decide) rfl (fun c3 => ?_) (fun c3 => ?_)
  · exact L22 _ _ _  hP hD hS (lv_sub hl [] rfl)
  · refine lv_aload_n F.1 F.2.1 dX11_whyGo_11 rfl (lv_at hl 0 rfl) ?_
    refine a_getr F inX11 hP 0 1 tc_0 rfl rfl (by decide) q504 (fun _ h9 => h9) dX11_whyGo_12 ?_
    refine lv_iload_n F.1 F.2.1 dX11_whyGo_15 rfl (lv_at hl 2 rfl) ?_
    refine a_Vi F hml hl.1 hA hP hD hS (As := [.int p1]) (c_X2_isPlace_4 l dC dI ad cA nF _ p1 hR) (cs_RX11_165 (d := 1) F.2.2.1 (by decide)) tc_4 rfl rfl rfl rfl (Nat.le_of_ble_eq_true rfl) dX11_whyGo_16 ⟨Nat.le_refl 0, Nat.le_refl 0⟩ (fun r4 uN4 H locs hq hP hD hS => ?_)
    obtain ⟨hu4, gr4, xr4⟩ := hq
    rw [hu4] at hP hD
    have g5 : (0 : Int) ≤ (u0.1 4 1).toInt ∧ (u0.1 4 1).toInt ≤ 8 := hR 4 1
    have xr4 : r4.toInt ≠ 0 → 0 ≤ p1.toInt ∧ p1.toInt < (u0.1 4 1).toInt ∧ p1.toInt ≤ 7 := xr4
    refine z_ne F 24 dX11_whyGo_19 (by decide) rfl (fun c6 => ?_) (fun c6 => ?_)
    · refine lv_aload_n F.1 F.2.1 dX11_whyGo_24 rfl (lv_at hl 0 rfl) ?_
      refine a_getr F inX11 hP 0 4 tc_0 rfl rfl (by decide) q507 (fun _ h9 => h9) dX11_whyGo_25 ?_
      refine lv_iload_n F.1 F.2.1 dX11_whyGo_28 rfl (lv_at hl 1 rfl) ?_
      refine lv_iload_n F.1 F.2.1 dX11_whyGo_29 rfl (lv_at hl 2 rfl) ?_
      refine a_Vi F hml hl.1 hA hP hD hS (As := [.int p0, .int p1]) (c_X6_whyNotGo_24 l dC dI ad cA nF _ p0 p1 hR (by omega) (by omega)) (cs_RX11_194 (d := 3) F.2.2.1 (by decide)) tc_24 rfl rfl rfl rfl (Nat.le_of_ble_eq_true rfl) dX11_whyGo_30 ⟨Nat.le_refl 0, Nat.le_refl 0⟩ (fun r7 uN7 H locs hq hP hD hS => ?_)
      obtain ⟨hu7, gr7⟩ := hq
      rw [hu7] at hP hD
      exact a_reti F hr hlocks hP hD hS dX11_whyGo_33 ⟨rfl, (by omega : (-1 : Int) ≤ r7.toInt ∧ r7.toInt ≤ 3), (by omega : r7.toInt = 0 → 0 ≤ p0.toInt ∧ p0.toInt ≤ 3 ∧ 0 ≤ p1.toInt ∧ p1.toInt ≤ 7)⟩
    · exact L22 _ _ _  hP hD hS (lv_sub hl [] rfl)
set_option maxHeartbeats 600000 in
set_option maxRecDepth 100000 in
theorem c_X11_go_0 (l : Launch) (dC : Nat → ClassId) (dI : Nat → Nat → Nat) (ad : Nat → Nat) (cA : Nat → ClassId) (nF : Nat) (u0 : ac_U) (p0 : Int32) (p1 : Int32) (hR : ac_R rg u0) : ac_Mi l yX11_go (.code yX11_go cX11_go 4 (some .int) :: TB) 5 (dC, dI) vwCl (ac_ty cA) ad cA (TT nF) [.ref (ad 0), .int p0, .int p1] u0 (fun (r : Int32) (u : ac_U) => ac_R rg u ∧ ac_Fr [(24, some 5), (24, some 6), (25, none), (28, none)] u0 u ∧ ((-1 : Int) ≤ r.toInt ∧ r.toInt ≤ 3)) := by
  refine ac_Mi.of (cc := cX11_go) (maxL := 4) (ret := (some .int)) (by decide) rfl (Nat.le_of_ble_eq_true rfl) ?_
  intro p e s m below meth c A ls F hml hr hlocks hA hP hD hS hl
  have F : ac_X p s m [.ref (ad 0), .int p0, .int p1].toArray c cX11_go RX11 TB (dC, dI) vwCl (ac_ty cA) := ⟨F.1, F.2.1, fun w h => F.2.2.1 w (List.mem_cons_of_mem _ h), F.2.2.2.1, F.2.2.2.2⟩
  have hl : lv_has ls 4 [(0, .ref (ad 0)), (1, .int p0), (2, .int p1)] := hl
  have hF : ac_Fr [(24, some 5), (24, some 6), (25, none), (28, none)] u0 u0 := ac_Fr.rf
  have L28 : ∀ (x3 : Int32) (u : ac_U) (H : Heap) (locs : List Loc) (ls : Array Slot), ac_R rg u → ac_Fr [(24, some 5), (24, some 6), (25, none), (28, none)] u0 u → (-1 : Int) ≤ x3.toInt ∧ x3.toInt ≤ 3 → va_P (dC, dI) vwCl (ac_w ad cA (TT nF) u) H → va_D A (ac_w ad cA (TT nF) u) → va_S A s.heap H locs → lv_has ls 4 [(3, .int x3)] → W p l e (ac_rm 5) s m [.ref (ad 0), .int p0, .int p1].toArray below meth c H locs 0 0 (MQ below (va_Qi (fun (r : Int32) (u : ac_U) => ac_R rg u ∧ ac_Fr [(24, some 5), (24, some 6), (25, none), (28, none)] u0 u ∧ ((-1 : Int) ≤ r.toInt ∧ r.toInt ≤ 3)) (ac_B (dC, dI) vwCl (ac_ty cA) ad cA (TT nF) A) A) [.ref (ad 0), .int p0, .int p1].toArray s 0 0 A) (F0 m 28 ls []) := by
    intro x3 u H locs ls hR hF f0 hP hD hS hl
    refine lv_iload_n F.1 F.2.1 dX11_go_28 rfl (lv_at hl 0 rfl) ?_
    exact a_reti F hr hlocks hP hD hS dX11_go_29 ⟨hR, hF, (by omega : (-1 : Int) ≤ x3.toInt ∧ x3.toInt ≤ 3)⟩
  refine lv_aload_n F.1 F.2.1 dX11_go_0 rfl (lv_at hl 0 rfl) ?_
  refine lv_iload_n F.1 F.2.1 dX11_go_1 rfl (lv_at hl 1 rfl) ?_
  refine lv_iload_n F.1 F.2.1 dX11_go_2 rfl (lv_at hl 2 rfl) ?_
  refine a_Vi F hml hl.1 hA hP hD hS (As := [.int p0, .int p1]) (c_X11_whyGo_0 l dC dI ad cA nF _ p0 p1 hR) (cs_RX11_197 (d := 4) F.2.2.1 (by decide)) tc_0 rfl rfl rfl rfl (Nat.le_of_ble_eq_true rfl) dX11_go_3 ⟨Nat.le_refl 0, Nat.le_refl 0⟩ (fun r1 uN1 H locs hq hP hD hS => ?_)
  obtain ⟨hu1, gr1, xr1⟩ := hq
  rw [hu1] at hP hD
  have xr1 : r1.toInt = 0 → 0 ≤ p0.toInt ∧ p0.toInt ≤ 3 ∧ 0 ≤ p1.toInt ∧ p1.toInt ≤ 7 := xr1
  refine lv_istore_n (lv' := [(3, .int r1), (0, .ref (ad 0)), (1, .int p0), (2, .int p1)]) F.1 F.2.1 dX11_go_6 rfl hl (by decide) rfl (fun ls hl => ?_)
  refine lv_iload_n F.1 F.2.1 dX11_go_7 rfl (lv_at hl 0 rfl) ?_
  refine z_ne F 28 dX11_go_8 (by decide) rfl (fun c2 => ?_) (fun c2 => ?_)
  · exact L28 r1 _ _ _ _ hR hF (by omega) hP hD hS (lv_sub hl [0] rfl)
  · refine lv_aload_n F.1 F.2.1 dX11_go_11 rfl (lv_at hl 1 rfl) ?_
    refine a_getr F inX11 hP 0 4 tc_0 rfl rfl (by decide) q507 (fun _ h9 => h9) dX11_go_12 ?_
    refine a_Vv F hml hl.1 hA hP hD hS (As := []) (c_X6_remember_24 l dC dI ad cA nF _  hR) (cs_RX11_200 (d := 1) F.2.2.1 (by decide)) tc_24 rfl rfl rfl rfl (Nat.le_of_ble_eq_true rfl) dX11_go_15 ⟨Nat.le_refl 0, Nat.le_refl 0⟩ (fun u3 H locs hq hP hD hS => ?_)
    obtain ⟨hR, hF3⟩ := hq
    have hF := hF.tr hF3 (by decide)
    refine lv_aload_n F.1 F.2.1 dX11_go_18 rfl (lv_at hl 1 rfl) ?_
    refine a_getr F inX11 hP 0 4 tc_0 rfl rfl (by decide) q507 (fun _ h9 => h9) dX11_go_19 ?_
    refine lv_iload_n F.1 F.2.1 dX11_go_22 rfl (lv_at hl 2 rfl) ?_
    refine lv_iload_n F.1 F.2.1 dX11_go_23 rfl (lv_at hl 3 rfl) ?_
    refine a_Vi F hml hl.1 hA hP hD hS (As := [.int p0, .int p1]) (c_X6_tryGo_24 l dC dI ad cA nF _ p0 p1 hR (by omega) (by omega)) (cs_RX11_203 (d := 4) F.2.2.1 (by decide)) tc_24 rfl rfl rfl rfl (Nat.le_of_ble_eq_true rfl) dX11_go_24 ⟨Nat.le_refl 0, Nat.le_refl 0⟩ (fun r4 u4 H locs hq hP hD hS => ?_)
    obtain ⟨hR, hF4, gr4⟩ := hq
    have hF := hF.tr hF4 (by decide)
    refine lv_pop F.1 F.2.1 dX11_go_27 rfl ?_
    exact L28 r1 _ _ _ _ hR hF (by omega) hP hD hS (lv_sub hl [0] rfl)
set_option maxHeartbeats 600000 in
set_option maxRecDepth 100000 in
theorem c_X11_heard_0 (l : Launch) (dC : Nat → ClassId) (dI : Nat → Nat → Nat) (ad : Nat → Nat) (cA : Nat → ClassId) (nF : Nat) (u0 : ac_U) (p0 : Int32) (hR : ac_R rg u0) : ac_Mi l yX11_heard (.code yX11_heard cX11_heard 2 (some .int) :: TB) 5 (dC, dI) vwCl (ac_ty cA) ad cA (TT nF) [.ref (ad 0), .int p0] u0 (fun (r : Int32) (u : ac_U) => u = u0 ∧ ((-1 : Int) ≤ r.toInt ∧ r.toInt ≤ 127)) := by
  refine ac_Mi.of (cc := cX11_heard) (maxL := 2) (ret := (some .int)) (by decide) rfl (Nat.le_of_ble_eq_true rfl) ?_
  intro p e s m below meth c A ls F hml hr hlocks hA hP hD hS hl
  have F : ac_X p s m [.ref (ad 0), .int p0].toArray c cX11_heard RX11 TB (dC, dI) vwCl (ac_ty cA) := ⟨F.1, F.2.1, fun w h => F.2.2.1 w (List.mem_cons_of_mem _ h), F.2.2.2.1, F.2.2.2.2⟩
  have hl : lv_has ls 2 [(0, .ref (ad 0)), (1, .int p0)] := hl
  refine lv_aload_n F.1 F.2.1 dX11_heard_0 rfl (lv_at hl 0 rfl) ?_
  refine a_getr F inX11 hP 0 1 tc_0 rfl rfl (by decide) q504 (fun _ h9 => h9) dX11_heard_1 ?_
  refine lv_iload_n F.1 F.2.1 dX11_heard_4 rfl (lv_at hl 1 rfl) ?_
  refine a_Vi F hml hl.1 hA hP hD hS (As := [.int p0]) (c_X2_isPromise_4 l dC dI ad cA nF _ p0 hR) (cs_RX11_141 (d := 1) F.2.2.1 (by decide)) tc_4 rfl rfl rfl rfl (Nat.le_of_ble_eq_true rfl) dX11_heard_5 ⟨Nat.le_refl 0, Nat.le_refl 0⟩ (fun r1 uN1 H locs hq hP hD hS => ?_)
  obtain ⟨hu1, gr1, xr1⟩ := hq
  rw [hu1] at hP hD
  have g2 : (0 : Int) ≤ (u0.1 4 6).toInt ∧ (u0.1 4 6).toInt ≤ 8 := hR 4 6
  have xr1 : r1.toInt ≠ 0 → 0 ≤ p0.toInt ∧ p0.toInt < (u0.1 4 6).toInt ∧ p0.toInt ≤ 7 := xr1
  refine z_eq F 22 dX11_heard_8 (by decide) rfl (fun c3 => ?_) (fun c3 => ?_)
  · refine a_ic F (-1 : Int32) dX11_heard_22 (by decide) ?_
    exact a_reti F hr hlocks hP hD hS dX11_heard_23 ⟨rfl, (by decide)⟩
  · refine lv_aload_n F.1 F.2.1 dX11_heard_11 rfl (lv_at hl 0 rfl) ?_
    refine a_getr F inX11 hP 0 4 tc_0 rfl rfl (by decide) q507 (fun _ h9 => h9) dX11_heard_12 ?_
    refine lv_iload_n F.1 F.2.1 dX11_heard_15 rfl (lv_at hl 1 rfl) ?_
    refine a_Vi F hml hl.1 hA hP hD hS (As := [.int p0]) (c_X6_heardBits_24 l dC dI ad cA nF _ p0 hR (by omega)) (cs_RX11_275 (d := 4) F.2.2.1 (by decide)) tc_24 rfl rfl rfl rfl (Nat.le_of_ble_eq_true rfl) dX11_heard_16 ⟨Nat.le_refl 0, Nat.le_refl 0⟩ (fun r4 uN4 H locs hq hP hD hS => ?_)
    obtain ⟨hu4, gr4⟩ := hq
    rw [hu4] at hP hD
    refine lv_goto (tgt := 23) F.1 F.2.1 dX11_heard_19 (by decide) ?_
    exact a_reti F hr hlocks hP hD hS dX11_heard_23 ⟨rfl, (by omega : (-1 : Int) ≤ r4.toInt ∧ r4.toInt ≤ 127)⟩
set_option maxHeartbeats 600000 in
set_option maxRecDepth 100000 in
theorem c_X11_hours_0 (l : Launch) (dC : Nat → ClassId) (dI : Nat → Nat → Nat) (ad : Nat → Nat) (cA : Nat → ClassId) (nF : Nat) (u0 : ac_U) (p0 : Int32) (hR : ac_R rg u0) : ac_Mi l yX11_hours (.code yX11_hours cX11_hours 2 (some .int) :: TB) 3 (dC, dI) vwCl (ac_ty cA) ad cA (TT nF) [.ref (ad 0), .int p0] u0 (fun (r : Int32) (u : ac_U) => ac_R rg u ∧ ac_Fr [(24, some 5), (24, some 6), (25, none), (28, none)] u0 u ∧ ((-400 : Int) ≤ r.toInt ∧ r.toInt ≤ 99)) := by
  refine ac_Mi.of (cc := cX11_hours) (maxL := 2) (ret := (some .int)) (by decide) rfl (Nat.le_of_ble_eq_true rfl) ?_
  intro p e s m below meth c A ls F hml hr hlocks hA hP hD hS hl
  have F : ac_X p s m [.ref (ad 0), .int p0].toArray c cX11_hours RX11 TB (dC, dI) vwCl (ac_ty cA) := ⟨F.1, F.2.1, fun w h => F.2.2.1 w (List.mem_cons_of_mem _ h), F.2.2.2.1, F.2.2.2.2⟩
  have hl : lv_has ls 2 [(0, .ref (ad 0)), (1, .int p0)] := hl
  have hF : ac_Fr [(24, some 5), (24, some 6), (25, none), (28, none)] u0 u0 := ac_Fr.rf
  have L11 : ∀ (u : ac_U) (H : Heap) (locs : List Loc) (ls : Array Slot), ac_R rg u → ac_Fr [(24, some 5), (24, some 6), (25, none), (28, none)] u0 u → va_P (dC, dI) vwCl (ac_w ad cA (TT nF) u) H → va_D A (ac_w ad cA (TT nF) u) → va_S A s.heap H locs → lv_has ls 2 [] → W p l e (ac_rm 3) s m [.ref (ad 0), .int p0].toArray below meth c H locs 0 0 (MQ below (va_Qi (fun (r : Int32) (u : ac_U) => ac_R rg u ∧ ac_Fr [(24, some 5), (24, some 6), (25, none), (28, none)] u0 u ∧ ((-400 : Int) ≤ r.toInt ∧ r.toInt ≤ 99)) (ac_B (dC, dI) vwCl (ac_ty cA) ad cA (TT nF) A) A) [.ref (ad 0), .int p0].toArray s 0 0 A) (F0 m 11 ls []) := by
    intro u H locs ls hR hF hP hD hS hl
    refine a_ic F (-1 : Int32) dX11_hours_11 (by decide) ?_
    exact a_reti F hr hlocks hP hD hS dX11_hours_12 ⟨hR, hF, (by decide)⟩
  refine lv_iload_n F.1 F.2.1 dX11_hours_0 rfl (lv_at hl 1 rfl) ?_
  refine a_ic F (1 : Int32) dX11_hours_1 (by decide) ?_
  refine b_lt F 11 dX11_hours_2 (by decide) rfl ic_1 (fun c1 => ?_) (fun c1 => ?_)
  · exact L11 _ _ _ _ hR hF hP hD hS (lv_sub hl [] rfl)
  · refine lv_iload_n F.1 F.2.1 dX11_hours_5 rfl (lv_at hl 1 rfl) ?_
    refine a_bp F (99 : Int32) dX11_hours_6 (by decide) ?_
    refine b_le F 13 dX11_hours_8 (by decide) rfl ic_99 (fun c2 => ?_) (fun c2 => ?_)
    · refine lv_aload_n F.1 F.2.1 dX11_hours_13 rfl (lv_at hl 0 rfl) ?_
      refine a_getr F inX11 hP 0 4 tc_0 rfl rfl (by decide) q507 (fun _ h9 => h9) dX11_hours_14 ?_
      refine a_Vi F hml hl.1 hA hP hD hS (As := []) (c_X6_isOver_24 l dC dI ad cA nF _  hR) (cs_RX11_221 (d := 2) F.2.2.1 (by decide)) tc_24 rfl rfl rfl rfl (Nat.le_of_ble_eq_true rfl) dX11_hours_17 ⟨Nat.le_refl 0, Nat.le_refl 0⟩ (fun r3 uN3 H locs hq hP hD hS => ?_)
      obtain ⟨hu3, gr3, xr3⟩ := hq
      rw [hu3] at hP hD
      have g4 : (0 : Int) ≤ (u0.1 25 0).toInt ∧ (u0.1 25 0).toInt ≤ 480 := hR 25 0
      have g5 : (4 : Int) ≤ (u0.1 4 0).toInt ∧ (u0.1 4 0).toInt ≤ 24 := hR 4 0
      have xr3 : r3.toInt = 0 → (u0.1 25 0).toInt < 20 * (u0.1 4 0).toInt := xr3
      refine z_eq F 25 dX11_hours_20 (by decide) rfl (fun c6 => ?_) (fun c6 => ?_)
      · refine lv_aload_n F.1 F.2.1 dX11_hours_25 rfl (lv_at hl 0 rfl) ?_
        refine a_getr F inX11 hP 0 4 tc_0 rfl rfl (by decide) q507 (fun _ h9 => h9) dX11_hours_26 ?_
        refine a_Vv F hml hl.1 hA hP hD hS (As := []) (c_X6_remember_24 l dC dI ad cA nF _  hR) (cs_RX11_200 (d := 1) F.2.2.1 (by decide)) tc_24 rfl rfl rfl rfl (Nat.le_of_ble_eq_true rfl) dX11_hours_29 ⟨Nat.le_refl 0, Nat.le_refl 0⟩ (fun u7 H locs hq hP hD hS => ?_)
        obtain ⟨hR, hF7⟩ := hq
        have hF := hF.tr hF7 (by decide)
        refine lv_aload_n F.1 F.2.1 dX11_hours_32 rfl (lv_at hl 0 rfl) ?_
        refine a_getr F inX11 hP 0 4 tc_0 rfl rfl (by decide) q507 (fun _ h9 => h9) dX11_hours_33 ?_
        refine lv_iload_n F.1 F.2.1 dX11_hours_36 rfl (lv_at hl 1 rfl) ?_
        refine a_Vi F hml hl.1 hA hP hD hS (As := [.int p0]) (c_X6_passHours_24 l dC dI ad cA nF _ p0 hR (by omega)) (cs_RX11_224 (d := 2) F.2.2.1 (by decide)) tc_24 rfl rfl rfl rfl (Nat.le_of_ble_eq_true rfl) dX11_hours_37 ⟨Nat.le_refl 0, Nat.le_refl 0⟩ (fun r8 u8 H locs hq hP hD hS => ?_)
        obtain ⟨hR, hF8, gr8⟩ := hq
        have hF := hF.tr hF8 (by decide)
        exact a_reti F hr hlocks hP hD hS dX11_hours_40 ⟨hR, hF, (by omega : (-400 : Int) ≤ r8.toInt ∧ r8.toInt ≤ 99)⟩
      · refine a_ic F (0 : Int32) dX11_hours_23 (by decide) ?_
        exact a_reti F hr hlocks hP hD hS dX11_hours_24 ⟨hR, hF, (by decide)⟩
    · exact L11 _ _ _ _ hR hF hP hD hS (lv_sub hl [] rfl)
set_option maxHeartbeats 600000 in
set_option maxRecDepth 100000 in
theorem c_X11_knows_0 (l : Launch) (dC : Nat → ClassId) (dI : Nat → Nat → Nat) (ad : Nat → Nat) (cA : Nat → ClassId) (nF : Nat) (u0 : ac_U) (p0 : Int32) (p1 : Int32) (hR : ac_R rg u0) : ac_Mi l yX11_knows (.code yX11_knows cX11_knows 3 (some .int) :: TB) 4 (dC, dI) vwCl (ac_ty cA) ad cA (TT nF) [.ref (ad 0), .int p0, .int p1] u0 (fun (r : Int32) (u : ac_U) => u = u0 ∧ ((-1 : Int) ≤ r.toInt ∧ r.toInt ≤ 487)) := by
  refine ac_Mi.of (cc := cX11_knows) (maxL := 3) (ret := (some .int)) (by decide) rfl (Nat.le_of_ble_eq_true rfl) ?_
  intro p e s m below meth c A ls F hml hr hlocks hA hP hD hS hl
  have F : ac_X p s m [.ref (ad 0), .int p0, .int p1].toArray c cX11_knows RX11 TB (dC, dI) vwCl (ac_ty cA) := ⟨F.1, F.2.1, fun w h => F.2.2.1 w (List.mem_cons_of_mem _ h), F.2.2.2.1, F.2.2.2.2⟩
  have hl : lv_has ls 3 [(0, .ref (ad 0)), (1, .int p0), (2, .int p1)] := hl
  have L22 : ∀ (H : Heap) (locs : List Loc) (ls : Array Slot), va_P (dC, dI) vwCl (ac_w ad cA (TT nF) u0) H → va_D A (ac_w ad cA (TT nF) u0) → va_S A s.heap H locs → lv_has ls 3 [] → W p l e (ac_rm 4) s m [.ref (ad 0), .int p0, .int p1].toArray below meth c H locs 0 0 (MQ below (va_Qi (fun (r : Int32) (u : ac_U) => u = u0 ∧ ((-1 : Int) ≤ r.toInt ∧ r.toInt ≤ 487)) (ac_B (dC, dI) vwCl (ac_ty cA) ad cA (TT nF) A) A) [.ref (ad 0), .int p0, .int p1].toArray s 0 0 A) (F0 m 22 ls []) := by
    intro H locs ls hP hD hS hl
    refine a_ic F (-1 : Int32) dX11_knows_22 (by decide) ?_
    exact a_reti F hr hlocks hP hD hS dX11_knows_23 ⟨rfl, (by decide)⟩
  refine lv_aload_n F.1 F.2.1 dX11_knows_0 rfl (lv_at hl 0 rfl) ?_
  refine a_getr F inX11 hP 0 1 tc_0 rfl rfl (by decide) q504 (fun _ h9 => h9) dX11_knows_1 ?_
  refine lv_iload_n F.1 F.2.1 dX11_knows_4 rfl (lv_at hl 1 rfl) ?_
  refine a_Vi F hml hl.1 hA hP hD hS (As := [.int p0]) (c_X2_isFrog_4 l dC dI ad cA nF _ p0 hR) (cs_RX11_171 (d := 1) F.2.2.1 (by decide)) tc_4 rfl rfl rfl rfl (Nat.le_of_ble_eq_true rfl) dX11_knows_5 ⟨Nat.le_refl 0, Nat.le_refl 0⟩ (fun r1 uN1 H locs hq hP hD hS => ?_)
  obtain ⟨hu1, gr1, xr1⟩ := hq
  rw [hu1] at hP hD
  have g2 : (0 : Int) ≤ (u0.1 4 3).toInt ∧ (u0.1 4 3).toInt ≤ 6 := hR 4 3
  have xr1 : r1.toInt ≠ 0 → 0 ≤ p0.toInt ∧ p0.toInt < (u0.1 4 3).toInt ∧ p0.toInt ≤ 5 := xr1
  refine z_eq F 22 dX11_knows_8 (by decide) rfl (fun c3 => ?_) (fun c3 => ?_)
  · exact L22 _ _ _  hP hD hS (lv_sub hl [] rfl)
  · refine lv_aload_n F.1 F.2.1 dX11_knows_11 rfl (lv_at hl 0 rfl) ?_
    refine a_getr F inX11 hP 0 1 tc_0 rfl rfl (by decide) q504 (fun _ h9 => h9) dX11_knows_12 ?_
    refine lv_iload_n F.1 F.2.1 dX11_knows_15 rfl (lv_at hl 2 rfl) ?_
    refine a_Vi F hml hl.1 hA hP hD hS (As := [.int p1]) (c_X2_isPromise_4 l dC dI ad cA nF _ p1 hR) (cs_RX11_141 (d := 1) F.2.2.1 (by decide)) tc_4 rfl rfl rfl rfl (Nat.le_of_ble_eq_true rfl) dX11_knows_16 ⟨Nat.le_refl 0, Nat.le_refl 0⟩ (fun r4 uN4 H locs hq hP hD hS => ?_)
    obtain ⟨hu4, gr4, xr4⟩ := hq
    rw [hu4] at hP hD
    have g5 : (0 : Int) ≤ (u0.1 4 6).toInt ∧ (u0.1 4 6).toInt ≤ 8 := hR 4 6
    have xr4 : r4.toInt ≠ 0 → 0 ≤ p1.toInt ∧ p1.toInt < (u0.1 4 6).toInt ∧ p1.toInt ≤ 7 := xr4
    refine z_ne F 24 dX11_knows_19 (by decide) rfl (fun c6 => ?_) (fun c6 => ?_)
    · refine lv_aload_n F.1 F.2.1 dX11_knows_24 rfl (lv_at hl 0 rfl) ?_
      refine a_getr F inX11 hP 0 4 tc_0 rfl rfl (by decide) q507 (fun _ h9 => h9) dX11_knows_25 ?_
      refine lv_iload_n F.1 F.2.1 dX11_knows_28 rfl (lv_at hl 1 rfl) ?_
      refine lv_iload_n F.1 F.2.1 dX11_knows_29 rfl (lv_at hl 2 rfl) ?_
      refine a_Vi F hml hl.1 hA hP hD hS (As := [.int p0, .int p1]) (c_X6_knownWhen_24 l dC dI ad cA nF _ p0 p1 hR (by omega) (by omega)) (cs_RX11_272 (d := 3) F.2.2.1 (by decide)) tc_24 rfl rfl rfl rfl (Nat.le_of_ble_eq_true rfl) dX11_knows_30 ⟨Nat.le_refl 0, Nat.le_refl 0⟩ (fun r7 uN7 H locs hq hP hD hS => ?_)
      obtain ⟨hu7, gr7⟩ := hq
      rw [hu7] at hP hD
      exact a_reti F hr hlocks hP hD hS dX11_knows_33 ⟨rfl, (by omega : (-1 : Int) ≤ r7.toInt ∧ r7.toInt ≤ 487)⟩
    · exact L22 _ _ _  hP hD hS (lv_sub hl [] rfl)
set_option maxHeartbeats 600000 in
set_option maxRecDepth 100000 in
theorem c_X11_now_0 (l : Launch) (dC : Nat → ClassId) (dI : Nat → Nat → Nat) (ad : Nat → Nat) (cA : Nat → ClassId) (nF : Nat) (u0 : ac_U) (p0 : Int32) (hR : ac_R rg u0) : ac_Mi l yX11_now (.code yX11_now cX11_now 2 (some .int) :: TB) 7 (dC, dI) vwCl (ac_ty cA) ad cA (TT nF) [.ref (ad 0), .int p0] u0 (fun (r : Int32) (u : ac_U) => ac_R rg u ∧ ac_Fr [(29, some 4), (29, some 5), (29, some 6), (30, none)] u0 u) := by
  refine ac_Mi.of (cc := cX11_now) (maxL := 2) (ret := (some .int)) (by decide) rfl (Nat.le_of_ble_eq_true rfl) ?_
  intro p e s m below meth c A ls F hml hr hlocks hA hP hD hS hl
  have F : ac_X p s m [.ref (ad 0), .int p0].toArray c cX11_now RX11 TB (dC, dI) vwCl (ac_ty cA) := ⟨F.1, F.2.1, fun w h => F.2.2.1 w (List.mem_cons_of_mem _ h), F.2.2.2.1, F.2.2.2.2⟩
  have hl : lv_has ls 2 [(0, .ref (ad 0)), (1, .int p0)] := hl
  have hF : ac_Fr [(29, some 4), (29, some 5), (29, some 6), (30, none)] u0 u0 := ac_Fr.rf
  refine lv_iload_n F.1 F.2.1 dX11_now_0 rfl (lv_at hl 1 rfl) ?_
  rcases (show (p0.toInt < 0 ∨ 5 < p0.toInt) ∨ p0.toInt = 0 ∨ p0.toInt = 1 ∨ p0.toInt = 2 ∨ p0.toInt = 3 ∨ p0.toInt = 4 ∨ p0.toInt = 5 by omega) with c1 | c1 | c1 | c1 | c1 | c1 | c1
  · refine lv_tableOut (tgt := 108) F.1 F.2.1 dX11_now_1 c1 (by decide) ?_
    refine a_ic F (-1 : Int32) dX11_now_108 (by decide) ?_
    exact a_reti F hr hlocks hP hD hS dX11_now_109 ⟨hR, hF⟩
  · refine lv_tableIn (tgt := 40) F.1 F.2.1 dX11_now_1 (by omega) (by omega) (by rw [c1]; rfl) (by decide) ?_
    refine lv_aload_n F.1 F.2.1 dX11_now_40 rfl (lv_at hl 0 rfl) ?_
    refine a_getr F inX11 hP 0 1 tc_0 rfl rfl (by decide) q504 (fun _ h9 => h9) dX11_now_41 ?_
    refine lv_aload_n F.1 F.2.1 dX11_now_44 rfl (lv_at hl 0 rfl) ?_
    refine a_getr F inX11 hP 0 4 tc_0 rfl rfl (by decide) q507 (fun _ h9 => h9) dX11_now_45 ?_
    refine a_getr F inX6 hP 24 1 tc_24 rfl rfl (by decide) q276 (fun _ h9 => h9) dX11_now_48 ?_
    refine a_ic F (0 : Int32) dX11_now_51 (by decide) ?_
    have g2 : (0 : Int) ≤ (u0.1 25 0).toInt ∧ (u0.1 25 0).toInt ≤ 480 := hR 25 0
    refine a_ialdK F hP 25 0 tc_25 rfl rfl (i_in ic_0 (by omega)) (v := (u0.1 25 0)) rfl dX11_now_52 ?_
    refine a_Vi F hml hl.1 hA hP hD hS (As := [.int (u0.1 25 0)]) (c_X2_dayOf_4 l dC dI ad cA nF _ (u0.1 25 0) hR (by omega)) (cs_RX11_177 (d := 1) F.2.2.1 (by decide)) tc_4 rfl rfl rfl rfl (Nat.le_of_ble_eq_true rfl) dX11_now_53 ⟨Nat.le_refl 0, Nat.le_refl 0⟩ (fun r3 uN3 H locs hq hP hD hS => ?_)
    obtain ⟨hu3, gr3, xr3⟩ := hq
    rw [hu3] at hP hD
    have g4 : (4 : Int) ≤ (u0.1 4 0).toInt ∧ (u0.1 4 0).toInt ≤ 24 := hR 4 0
    have xr3 : 0 ≤ (u0.1 25 0).toInt → (u0.1 25 0).toInt < 20 * (u0.1 4 0).toInt → r3.toInt < 20 := xr3
    exact a_reti F hr hlocks hP hD hS dX11_now_56 ⟨hR, hF⟩
  · refine lv_tableIn (tgt := 57) F.1 F.2.1 dX11_now_1 (by omega) (by omega) (by rw [c1]; rfl) (by decide) ?_
    refine lv_aload_n F.1 F.2.1 dX11_now_57 rfl (lv_at hl 0 rfl) ?_
    refine a_getr F inX11 hP 0 1 tc_0 rfl rfl (by decide) q504 (fun _ h9 => h9) dX11_now_58 ?_
    refine lv_aload_n F.1 F.2.1 dX11_now_61 rfl (lv_at hl 0 rfl) ?_
    refine a_getr F inX11 hP 0 4 tc_0 rfl rfl (by decide) q507 (fun _ h9 => h9) dX11_now_62 ?_
    refine a_getr F inX6 hP 24 1 tc_24 rfl rfl (by decide) q276 (fun _ h9 => h9) dX11_now_65 ?_
    refine a_ic F (0 : Int32) dX11_now_68 (by decide) ?_
    have g5 : (0 : Int) ≤ (u0.1 25 0).toInt ∧ (u0.1 25 0).toInt ≤ 480 := hR 25 0
    refine a_ialdK F hP 25 0 tc_25 rfl rfl (i_in ic_0 (by omega)) (v := (u0.1 25 0)) rfl dX11_now_69 ?_
    refine a_Vi F hml hl.1 hA hP hD hS (As := [.int (u0.1 25 0)]) (c_X2_hourOf_4 l dC dI ad cA nF _ (u0.1 25 0) hR (by omega)) (cs_RX11_181 (d := 1) F.2.2.1 (by decide)) tc_4 rfl rfl rfl rfl (Nat.le_of_ble_eq_true rfl) dX11_now_70 ⟨Nat.le_refl 0, Nat.le_refl 0⟩ (fun r6 uN6 H locs hq hP hD hS => ?_)
    obtain ⟨hu6, gr6, xr6⟩ := hq
    rw [hu6] at hP hD
    have xr6 : 0 ≤ (u0.1 25 0).toInt → 0 ≤ r6.toInt := xr6
    exact a_reti F hr hlocks hP hD hS dX11_now_73 ⟨hR, hF⟩
  · refine lv_tableIn (tgt := 74) F.1 F.2.1 dX11_now_1 (by omega) (by omega) (by rw [c1]; rfl) (by decide) ?_
    refine lv_aload_n F.1 F.2.1 dX11_now_74 rfl (lv_at hl 0 rfl) ?_
    refine a_getr F inX11 hP 0 4 tc_0 rfl rfl (by decide) q507 (fun _ h9 => h9) dX11_now_75 ?_
    refine a_getr F inX6 hP 24 1 tc_24 rfl rfl (by decide) q276 (fun _ h9 => h9) dX11_now_78 ?_
    refine a_ic F (2 : Int32) dX11_now_81 (by decide) ?_
    have g7 : (0 : Int) ≤ (u0.1 25 2).toInt ∧ (u0.1 25 2).toInt ≤ 80 := hR 25 2
    refine a_ialdK F hP 25 2 tc_25 rfl rfl (i_in ic_2 (by omega)) (v := (u0.1 25 2)) rfl dX11_now_82 ?_
    exact a_reti F hr hlocks hP hD hS dX11_now_83 ⟨hR, hF⟩
  · refine lv_tableIn (tgt := 84) F.1 F.2.1 dX11_now_1 (by omega) (by omega) (by rw [c1]; rfl) (by decide) ?_
    refine lv_aload_n F.1 F.2.1 dX11_now_84 rfl (lv_at hl 0 rfl) ?_
    refine a_getr F inX11 hP 0 4 tc_0 rfl rfl (by decide) q507 (fun _ h9 => h9) dX11_now_85 ?_
    refine a_Vi F hml hl.1 hA hP hD hS (As := []) (c_X6_saidCount_24 l dC dI ad cA nF _  hR) (cs_RX11_184 (d := 2) F.2.2.1 (by decide)) tc_24 rfl rfl rfl rfl (Nat.le_of_ble_eq_true rfl) dX11_now_88 ⟨Nat.le_refl 0, Nat.le_refl 0⟩ (fun r8 uN8 H locs hq hP hD hS => ?_)
    have hu8 := hq
    rw [hu8] at hP hD
    exact a_reti F hr hlocks hP hD hS dX11_now_91 ⟨hR, hF⟩
  · refine lv_tableIn (tgt := 92) F.1 F.2.1 dX11_now_1 (by omega) (by omega) (by rw [c1]; rfl) (by decide) ?_
    refine lv_aload_n F.1 F.2.1 dX11_now_92 rfl (lv_at hl 0 rfl) ?_
    refine a_getr F inX11 hP 0 4 tc_0 rfl rfl (by decide) q507 (fun _ h9 => h9) dX11_now_93 ?_
    refine a_Vi F hml hl.1 hA hP hD hS (As := []) (c_X6_boundCount_24 l dC dI ad cA nF _  hR) (cs_RX11_188 (d := 3) F.2.2.1 (by decide)) tc_24 rfl rfl rfl rfl (Nat.le_of_ble_eq_true rfl) dX11_now_96 ⟨Nat.le_refl 0, Nat.le_refl 0⟩ (fun r9 uN9 H locs hq hP hD hS => ?_)
    have hu9 := hq
    rw [hu9] at hP hD
    exact a_reti F hr hlocks hP hD hS dX11_now_99 ⟨hR, hF⟩
  · refine lv_tableIn (tgt := 100) F.1 F.2.1 dX11_now_1 (by omega) (by omega) (by rw [c1]; rfl) (by decide) ?_
    refine lv_aload_n F.1 F.2.1 dX11_now_100 rfl (lv_at hl 0 rfl) ?_
    refine a_getr F inX11 hP 0 5 tc_0 rfl rfl (by decide) q508 (fun _ h9 => h9) dX11_now_101 ?_
    refine a_Vi F hml hl.1 hA hP hD hS (As := []) (c_X5_brokenCount_29 l dC dI ad cA nF _  hR) (cs_RX11_191 (d := 6) F.2.2.1 (by decide)) tc_29 rfl rfl rfl rfl (Nat.le_of_ble_eq_true rfl) dX11_now_104 ⟨Nat.le_refl 0, Nat.le_refl 0⟩ (fun r10 u10 H locs hq hP hD hS => ?_)
    obtain ⟨hR, hF10⟩ := hq
    have hF := hF.tr hF10 (by decide)
    exact a_reti F hr hlocks hP hD hS dX11_now_107 ⟨hR, hF⟩
set_option maxHeartbeats 600000 in
set_option maxRecDepth 100000 in
theorem c_X11_odds_0 (l : Launch) (dC : Nat → ClassId) (dI : Nat → Nat → Nat) (ad : Nat → Nat) (cA : Nat → ClassId) (nF : Nat) (u0 : ac_U) (p0 : Int32) (p1 : Int32) (p2 : Int32) (hR : ac_R rg u0) : ac_Mi l yX11_odds (.code yX11_odds cX11_odds 6 (some .int) :: TB) 7 (dC, dI) vwCl (ac_ty cA) ad cA (TT nF) [.ref (ad 0), .int p0, .int p1, .int p2] u0 (fun (r : Int32) (u : ac_U) => ac_R rg u ∧ ac_Fr [(25, none), (26, none), (27, none), (29, some 4), (29, some 5), (29, some 6), (30, none), (38, some 2)] u0 u) := by
  refine ac_Mi.of (cc := cX11_odds) (maxL := 6) (ret := (some .int)) (by decide) rfl (Nat.le_of_ble_eq_true rfl) ?_
  intro p e s m below meth c A ls F hml hr hlocks hA hP hD hS hl
  have F : ac_X p s m [.ref (ad 0), .int p0, .int p1, .int p2].toArray c cX11_odds RX11 TB (dC, dI) vwCl (ac_ty cA) := ⟨F.1, F.2.1, fun w h => F.2.2.1 w (List.mem_cons_of_mem _ h), F.2.2.2.1, F.2.2.2.2⟩
  have hl : lv_has ls 6 [(0, .ref (ad 0)), (1, .int p0), (2, .int p1), (3, .int p2)] := hl
  have hF : ac_Fr [(25, none), (26, none), (27, none), (29, some 4), (29, some 5), (29, some 6), (30, none), (38, some 2)] u0 u0 := ac_Fr.rf
  have L47 : ∀ (n47 : Nat) (x4 : Int32) (x5 : Int32) (u : ac_U) (H : Heap) (locs : List Loc) (ls : Array Slot), ac_R rg u → ac_Fr [(25, none), (26, none), (27, none), (29, some 4), (29, some 5), (29, some 6), (30, none), (38, some 2)] u0 u → 30 - x5.toInt < (n47 : Int) → (0 : Int) ≤ p0.toInt ∧ p0.toInt ≤ 7 → (1 : Int) ≤ p1.toInt ∧ p1.toInt ≤ 30 → (0 : Int) ≤ x5.toInt ∧ x5.toInt ≤ 30 → (1 : Int) ≤ (u.1 4 4).toInt ∧ (u.1 4 4).toInt ≤ 4 → va_P (dC, dI) vwCl (ac_w ad cA (TT nF) u) H → va_D A (ac_w ad cA (TT nF) u) → va_S A s.heap H locs → lv_has ls 6 [(0, .ref (ad 0)), (1, .int p0), (2, .int p1), (3, .int p2), (4, .int x4), (5, .int x5)] → W p l e (ac_rm 7) s m [.ref (ad 0), .int p0, .int p1, .int p2].toArray below meth c H locs 0 0 (MQ below (va_Qi (fun (r : Int32) (u : ac_U) => ac_R rg u ∧ ac_Fr [(25, none), (26, none), (27, none), (29, some 4), (29, some 5), (29, some 6), (30, none), (38, some 2)] u0 u) (ac_B (dC, dI) vwCl (ac_ty cA) ad cA (TT nF) A) A) [.ref (ad 0), .int p0, .int p1, .int p2].toArray s 0 0 A) (F0 m 47 ls []) := by
    intro n47
    induction n47 with
    | zero => intro x4 x5 u H locs ls hR hF hn47 f0 f1 f2 f3 hP hD hS hl; exfalso; omega
    | succ n47 ih47 =>
      intro x4 x5 u H locs ls hR hF hn47 f0 f1 f2 f3 hP hD hS hl
      have L90 : ∀ (x4 : Int32) (x5 : Int32) (u : ac_U) (H : Heap) (locs : List Loc) (ls : Array Slot), ac_R rg u → ac_Fr [(25, none), (26, none), (27, none), (29, some 4), (29, some 5), (29, some 6), (30, none), (38, some 2)] u0 u → (0 : Int) ≤ p0.toInt ∧ p0.toInt ≤ 7 → (1 : Int) ≤ p1.toInt ∧ p1.toInt ≤ 30 → (0 : Int) ≤ x5.toInt ∧ x5.toInt ≤ 29 → (1 : Int) ≤ (u.1 4 4).toInt ∧ (u.1 4 4).toInt ≤ 4 → 30 - x5.toInt + 0 < ((n47 : Nat) : Int) + 1 → va_P (dC, dI) vwCl (ac_w ad cA (TT nF) u) H → va_D A (ac_w ad cA (TT nF) u) → va_S A s.heap H locs → lv_has ls 6 [(0, .ref (ad 0)), (1, .int p0), (2, .int p1), (3, .int p2), (4, .int x4), (5, .int x5)] → W p l e (ac_rm 7) s m [.ref (ad 0), .int p0, .int p1, .int p2].toArray below meth c H locs 0 0 (MQ below (va_Qi (fun (r : Int32) (u : ac_U) => ac_R rg u ∧ ac_Fr [(25, none), (26, none), (27, none), (29, some 4), (29, some 5), (29, some 6), (30, none), (38, some 2)] u0 u) (ac_B (dC, dI) vwCl (ac_ty cA) ad cA (TT nF) A) A) [.ref (ad 0), .int p0, .int p1, .int p2].toArray s 0 0 A) (F0 m 90 ls []) := by
        intro x4 x5 u H locs ls hR hF f0 f1 f2 f3 f4 hP hD hS hl
        refine lv_aload_n F.1 F.2.1 dX11_odds_90 rfl (lv_at hl 0 rfl) ?_
        refine a_getr F inX11 hP 0 4 tc_0 rfl rfl (by decide) q507 (fun _ h9 => h9) dX11_odds_91 ?_
        refine a_Vv F hml hl.1 hA hP hD hS (As := []) (c_X6_takeBack_24 l dC dI ad cA nF _  hR) (cs_RX11_300 (d := 1) F.2.2.1 (by decide)) tc_24 rfl rfl rfl rfl (Nat.le_of_ble_eq_true rfl) dX11_odds_94 ⟨Nat.le_refl 0, Nat.le_refl 0⟩ (fun u1 H locs hq hP hD hS => ?_)
        obtain ⟨hR, hF1⟩ := hq
        have hF := hF.tr hF1 (by decide)
        refine a_iinc F (k := 5) (fun v2 => [(5, .int v2), (0, .ref (ad 0)), (1, .int p0), (2, .int p1), (3, .int p2), (4, .int x4)]) dX11_odds_97 hl rfl rfl (by decide) (by omega) (by decide) (fun _ => rfl) (fun v2 ls hv2 hl => ?_)
        refine lv_goto (tgt := 47) F.1 F.2.1 dX11_odds_100 (by decide) ?_
        exact ih47 x4 v2 _ _ _ _ hR hF (by omega) (by omega) (by omega) (by omega) (i_trB (hF1 4 4 rfl) (by omega : (1 : Int) ≤ (u.1 4 4).toInt ∧ (u.1 4 4).toInt ≤ 4)) hP hD hS (lv_sub hl [1, 2, 3, 4, 5, 0] rfl)
      refine lv_iload F.1 F.2.1 dX11_odds_47 (lv_at hl 5 rfl) ?_
      refine lv_iload_n F.1 F.2.1 dX11_odds_49 rfl (lv_at hl 2 rfl) ?_
      refine b_ge F 103 dX11_odds_50 (by decide) rfl rfl (fun c3 => ?_) (fun c3 => ?_)
      · refine lv_iload F.1 F.2.1 dX11_odds_103 (lv_at hl 4 rfl) ?_
        exact a_reti F hr hlocks hP hD hS dX11_odds_105 ⟨hR, hF⟩
      · refine lv_aload_n F.1 F.2.1 dX11_odds_53 rfl (lv_at hl 0 rfl) ?_
        refine a_getr F inX11 hP 0 7 tc_0 rfl rfl (by decide) q510 (fun _ h9 => h9) dX11_odds_54 ?_
        refine a_ic F (2 : Int32) dX11_odds_57 (by decide) ?_
        refine lv_aload_n F.1 F.2.1 dX11_odds_58 rfl (lv_at hl 0 rfl) ?_
        refine a_getr F inX11 hP 0 1 tc_0 rfl rfl (by decide) q504 (fun _ h9 => h9) dX11_odds_59 ?_
        have g4 : (4 : Int) ≤ (u.1 4 0).toInt ∧ (u.1 4 0).toInt ≤ 24 := hR 4 0
        refine a_geti F inX2 hP 4 0 tc_4 rfl rfl (by decide) q156 (fun _ h9 => h9) (v := (u.1 4 0)) rfl dX11_odds_62 ?_
        refine a_imul F dX11_odds_65 ic_2 rfl (by omega) (fun v5 hv5 => ?_)
        refine lv_iload_n F.1 F.2.1 dX11_odds_66 rfl (lv_at hl 3 rfl) ?_
        refine lv_iload F.1 F.2.1 dX11_odds_67 (lv_at hl 5 rfl) ?_
        refine a_iaddU F dX11_odds_69 (fun v6 => ?_)
        refine a_Vi F hml hl.1 hA hP hD hS (As := [.int v5, .int v6]) (c_X1_passDrawn_38 l dC dI ad cA nF _ v5 v6 hR (by omega)) (cs_RX11_291 (d := 6) F.2.2.1 (by decide)) tc_38 rfl rfl rfl rfl (Nat.le_of_ble_eq_true rfl) dX11_odds_70 ⟨Nat.le_refl 0, Nat.le_refl 0⟩ (fun r7 u7 H locs hq hP hD hS => ?_)
        obtain ⟨hR, hF7, gr7⟩ := hq
        have hF := hF.tr hF7 (by decide)
        refine lv_pop F.1 F.2.1 dX11_odds_73 rfl ?_
        refine lv_aload_n F.1 F.2.1 dX11_odds_74 rfl (lv_at hl 0 rfl) ?_
        refine a_getr F inX11 hP 0 5 tc_0 rfl rfl (by decide) q508 (fun _ h9 => h9) dX11_odds_75 ?_
        refine lv_iload_n F.1 F.2.1 dX11_odds_78 rfl (lv_at hl 1 rfl) ?_
        refine a_ic F (0 : Int32) dX11_odds_79 (by decide) ?_
        refine a_Vi F hml hl.1 hA hP hD hS (As := [.int p0, .int (0 : Int32)]) (c_X5_statusOf_29 l dC dI ad cA nF _ p0 (0 : Int32) hR (by omega) (by decide)) (cs_RX11_236 (d := 6) F.2.2.1 (by decide)) tc_29 rfl rfl rfl rfl (Nat.le_of_ble_eq_true rfl) dX11_odds_80 ⟨Nat.le_refl 0, Nat.le_refl 0⟩ (fun r8 u8 H locs hq hP hD hS => ?_)
        obtain ⟨hR, hF8, gr8⟩ := hq
        have hF := hF.tr hF8 (by decide)
        refine a_ic F (4 : Int32) dX11_odds_83 (by decide) ?_
        refine b_ne F 90 dX11_odds_84 (by decide) rfl ic_4 (fun c9 => ?_) (fun c9 => ?_)
        · exact L90 x4 x5 _ _ _ _ hR hF (by omega) (by omega) (by omega) (i_trB ((hF8 4 4 rfl).trans (hF7 4 4 rfl)) (by omega : (1 : Int) ≤ (u.1 4 4).toInt ∧ (u.1 4 4).toInt ≤ 4)) (by omega) hP hD hS (lv_sub hl [0, 1, 2, 3, 4, 5] rfl)
        · refine a_iincU F (k := 4) (fun v10 => [(4, .int v10), (0, .ref (ad 0)), (1, .int p0), (2, .int p1), (3, .int p2), (5, .int x5)]) dX11_odds_87 hl rfl (by decide) (fun _ => rfl) (fun v10 ls hl => ?_)
          exact L90 v10 x5 _ _ _ _ hR hF (by omega) (by omega) (by omega) (i_trB ((hF8 4 4 rfl).trans (hF7 4 4 rfl)) (by omega : (1 : Int) ≤ (u.1 4 4).toInt ∧ (u.1 4 4).toInt ≤ 4)) (by omega) hP hD hS (lv_sub hl [1, 2, 3, 4, 0, 5] rfl)
  have L32 : ∀ (u : ac_U) (H : Heap) (locs : List Loc) (ls : Array Slot), ac_R rg u → ac_Fr [(25, none), (26, none), (27, none), (29, some 4), (29, some 5), (29, some 6), (30, none), (38, some 2)] u0 u → va_P (dC, dI) vwCl (ac_w ad cA (TT nF) u) H → va_D A (ac_w ad cA (TT nF) u) → va_S A s.heap H locs → lv_has ls 6 [] → W p l e (ac_rm 7) s m [.ref (ad 0), .int p0, .int p1, .int p2].toArray below meth c H locs 0 0 (MQ below (va_Qi (fun (r : Int32) (u : ac_U) => ac_R rg u ∧ ac_Fr [(25, none), (26, none), (27, none), (29, some 4), (29, some 5), (29, some 6), (30, none), (38, some 2)] u0 u) (ac_B (dC, dI) vwCl (ac_ty cA) ad cA (TT nF) A) A) [.ref (ad 0), .int p0, .int p1, .int p2].toArray s 0 0 A) (F0 m 32 ls []) := by
    intro u H locs ls hR hF hP hD hS hl
    refine a_ic F (-1 : Int32) dX11_odds_32 (by decide) ?_
    exact a_reti F hr hlocks hP hD hS dX11_odds_33 ⟨hR, hF⟩
  refine lv_aload_n F.1 F.2.1 dX11_odds_0 rfl (lv_at hl 0 rfl) ?_
  refine a_getr F inX11 hP 0 1 tc_0 rfl rfl (by decide) q504 (fun _ h9 => h9) dX11_odds_1 ?_
  refine lv_iload_n F.1 F.2.1 dX11_odds_4 rfl (lv_at hl 1 rfl) ?_
  refine a_Vi F hml hl.1 hA hP hD hS (As := [.int p0]) (c_X2_isPromise_4 l dC dI ad cA nF _ p0 hR) (cs_RX11_141 (d := 1) F.2.2.1 (by decide)) tc_4 rfl rfl rfl rfl (Nat.le_of_ble_eq_true rfl) dX11_odds_5 ⟨Nat.le_refl 0, Nat.le_refl 0⟩ (fun r11 uN11 H locs hq hP hD hS => ?_)
  obtain ⟨hu11, gr11, xr11⟩ := hq
  rw [hu11] at hP hD
  have g12 : (0 : Int) ≤ (u0.1 4 6).toInt ∧ (u0.1 4 6).toInt ≤ 8 := hR 4 6
  have xr11 : r11.toInt ≠ 0 → 0 ≤ p0.toInt ∧ p0.toInt < (u0.1 4 6).toInt ∧ p0.toInt ≤ 7 := xr11
  refine z_eq F 32 dX11_odds_8 (by decide) rfl (fun c13 => ?_) (fun c13 => ?_)
  · exact L32 _ _ _ _ hR hF hP hD hS (lv_sub hl [] rfl)
  · refine lv_iload_n F.1 F.2.1 dX11_odds_11 rfl (lv_at hl 2 rfl) ?_
    refine a_ic F (1 : Int32) dX11_odds_12 (by decide) ?_
    refine b_lt F 32 dX11_odds_13 (by decide) rfl ic_1 (fun c14 => ?_) (fun c14 => ?_)
    · exact L32 _ _ _ _ hR hF hP hD hS (lv_sub hl [] rfl)
    · refine lv_iload_n F.1 F.2.1 dX11_odds_16 rfl (lv_at hl 2 rfl) ?_
      refine a_bp F (30 : Int32) dX11_odds_17 (by decide) ?_
      refine b_gt F 32 dX11_odds_19 (by decide) rfl ic_30 (fun c15 => ?_) (fun c15 => ?_)
      · exact L32 _ _ _ _ hR hF hP hD hS (lv_sub hl [] rfl)
      · refine lv_aload_n F.1 F.2.1 dX11_odds_22 rfl (lv_at hl 0 rfl) ?_
        refine a_getr F inX11 hP 0 1 tc_0 rfl rfl (by decide) q504 (fun _ h9 => h9) dX11_odds_23 ?_
        have g16 : (0 : Int) ≤ (u0.1 4 4).toInt ∧ (u0.1 4 4).toInt ≤ 4 := hR 4 4
        refine a_geti F inX2 hP 4 4 tc_4 rfl rfl (by decide) q172 (fun _ h9 => h9) (v := (u0.1 4 4)) rfl dX11_odds_26 ?_
        refine z_ne F 34 dX11_odds_29 (by decide) rfl (fun c17 => ?_) (fun c17 => ?_)
        · refine a_ic F (0 : Int32) dX11_odds_34 (by decide) ?_
          refine lv_istore (lv' := [(4, .int (0 : Int32)), (0, .ref (ad 0)), (1, .int p0), (2, .int p1), (3, .int p2)]) F.1 F.2.1 dX11_odds_35 hl (by decide) rfl (fun ls hl => ?_)
          refine lv_aload_n F.1 F.2.1 dX11_odds_37 rfl (lv_at hl 1 rfl) ?_
          refine a_getr F inX11 hP 0 4 tc_0 rfl rfl (by decide) q507 (fun _ h9 => h9) dX11_odds_38 ?_
          refine a_Vv F hml hl.1 hA hP hD hS (As := []) (c_X6_setAside_24 l dC dI ad cA nF _  hR) (cs_RX11_294 (d := 1) F.2.2.1 (by decide)) tc_24 rfl rfl rfl rfl (Nat.le_of_ble_eq_true rfl) dX11_odds_41 ⟨Nat.le_refl 0, Nat.le_refl 0⟩ (fun u18 H locs hq hP hD hS => ?_)
          obtain ⟨hR, hF18⟩ := hq
          have hF := hF.tr hF18 (by decide)
          refine a_ic F (0 : Int32) dX11_odds_44 (by decide) ?_
          refine lv_istore (lv' := [(5, .int (0 : Int32)), (4, .int (0 : Int32)), (0, .ref (ad 0)), (1, .int p0), (2, .int p1), (3, .int p2)]) F.1 F.2.1 dX11_odds_45 hl (by decide) rfl (fun ls hl => ?_)
          exact L47 32 (0 : Int32) (0 : Int32) _ _ _ _ hR hF (by decide) (by omega) (by omega) (by decide) (i_trB (hF18 4 4 rfl) (by omega : (1 : Int) ≤ (u0.1 4 4).toInt ∧ (u0.1 4 4).toInt ≤ 4)) hP hD hS (lv_sub hl [2, 3, 4, 5, 1, 0] rfl)
        · exact L32 _ _ _ _ hR hF hP hD hS (lv_sub hl [] rfl)
set_option maxHeartbeats 600000 in
set_option maxRecDepth 100000 in
theorem c_X11_person_0 (l : Launch) (dC : Nat → ClassId) (dI : Nat → Nat → Nat) (ad : Nat → Nat) (cA : Nat → ClassId) (nF : Nat) (u0 : ac_U) (p0 : Int32) (p1 : Int32) (hR : ac_R rg u0) : ac_Mi l yX11_person (.code yX11_person cX11_person 3 (some .int) :: TB) 2 (dC, dI) vwCl (ac_ty cA) ad cA (TT nF) [.ref (ad 0), .int p0, .int p1] u0 (fun (r : Int32) (u : ac_U) => u = u0) := by
  refine ac_Mi.of (cc := cX11_person) (maxL := 3) (ret := (some .int)) (by decide) rfl (Nat.le_of_ble_eq_true rfl) ?_
  intro p e s m below meth c A ls F hml hr hlocks hA hP hD hS hl
  have F : ac_X p s m [.ref (ad 0), .int p0, .int p1].toArray c cX11_person RX11 TB (dC, dI) vwCl (ac_ty cA) := ⟨F.1, F.2.1, fun w h => F.2.2.1 w (List.mem_cons_of_mem _ h), F.2.2.2.1, F.2.2.2.2⟩
  have hl : lv_has ls 3 [(0, .ref (ad 0)), (1, .int p0), (2, .int p1)] := hl
  refine lv_aload_n F.1 F.2.1 dX11_person_0 rfl (lv_at hl 0 rfl) ?_
  refine a_getr F inX11 hP 0 1 tc_0 rfl rfl (by decide) q504 (fun _ h9 => h9) dX11_person_1 ?_
  refine lv_iload_n F.1 F.2.1 dX11_person_4 rfl (lv_at hl 1 rfl) ?_
  refine a_Vi F hml hl.1 hA hP hD hS (As := [.int p0]) (c_X2_isPerson_4 l dC dI ad cA nF _ p0 hR) (cs_RX11_159 (d := 1) F.2.2.1 (by decide)) tc_4 rfl rfl rfl rfl (Nat.le_of_ble_eq_true rfl) dX11_person_5 ⟨Nat.le_refl 0, Nat.le_refl 0⟩ (fun r1 uN1 H locs hq hP hD hS => ?_)
  obtain ⟨hu1, gr1, xr1⟩ := hq
  rw [hu1] at hP hD
  have g2 : (0 : Int) ≤ (u0.1 4 4).toInt ∧ (u0.1 4 4).toInt ≤ 4 := hR 4 4
  have xr1 : r1.toInt ≠ 0 → 0 ≤ p0.toInt ∧ p0.toInt < (u0.1 4 4).toInt ∧ p0.toInt ≤ 3 := xr1
  refine z_ne F 13 dX11_person_8 (by decide) rfl (fun c3 => ?_) (fun c3 => ?_)
  · refine lv_iload_n F.1 F.2.1 dX11_person_13 rfl (lv_at hl 2 rfl) ?_
    rcases (show (p1.toInt < 0 ∨ 3 < p1.toInt) ∨ p1.toInt = 0 ∨ p1.toInt = 1 ∨ p1.toInt = 2 ∨ p1.toInt = 3 by omega) with c4 | c4 | c4 | c4 | c4
    · refine lv_tableOut (tgt := 99) F.1 F.2.1 dX11_person_14 c4 (by decide) ?_
      refine a_ic F (-1 : Int32) dX11_person_99 (by decide) ?_
      exact a_reti F hr hlocks hP hD hS dX11_person_100 rfl
    · refine lv_tableIn (tgt := 44) F.1 F.2.1 dX11_person_14 (by omega) (by omega) (by rw [c4]; rfl) (by decide) ?_
      refine lv_aload_n F.1 F.2.1 dX11_person_44 rfl (lv_at hl 0 rfl) ?_
      refine a_getr F inX11 hP 0 4 tc_0 rfl rfl (by decide) q507 (fun _ h9 => h9) dX11_person_45 ?_
      refine a_getr F inX6 hP 24 1 tc_24 rfl rfl (by decide) q276 (fun _ h9 => h9) dX11_person_48 ?_
      refine a_ic F (3 : Int32) dX11_person_51 (by decide) ?_
      refine lv_iload_n F.1 F.2.1 dX11_person_52 rfl (lv_at hl 1 rfl) ?_
      refine a_iadd F dX11_person_53 ic_3 rfl (by omega) (fun v5 hv5 => ?_)
      refine a_iald F hP 25 tc_25 rfl (i_in rfl (by omega)) dX11_person_54 (fun v6 ev6 => ?_)
      have hv6 : (0 : Int) ≤ v6.toInt ∧ v6.toInt ≤ 7 := rg_seg_25_3_6 hR ev6 (by omega)
      exact a_reti F hr hlocks hP hD hS dX11_person_55 rfl
    · refine lv_tableIn (tgt := 56) F.1 F.2.1 dX11_person_14 (by omega) (by omega) (by rw [c4]; rfl) (by decide) ?_
      refine lv_aload_n F.1 F.2.1 dX11_person_56 rfl (lv_at hl 0 rfl) ?_
      refine a_getr F inX11 hP 0 4 tc_0 rfl rfl (by decide) q507 (fun _ h9 => h9) dX11_person_57 ?_
      refine lv_iload_n F.1 F.2.1 dX11_person_60 rfl (lv_at hl 1 rfl) ?_
      refine a_Vi F hml hl.1 hA hP hD hS (As := [.int p0]) (c_X6_isBusy_24 l dC dI ad cA nF _ p0 hR (by omega)) (cs_RX11_162 (d := 1) F.2.2.1 (by decide)) tc_24 rfl rfl rfl rfl (Nat.le_of_ble_eq_true rfl) dX11_person_61 ⟨Nat.le_refl 0, Nat.le_refl 0⟩ (fun r7 uN7 H locs hq hP hD hS => ?_)
      obtain ⟨hu7, gr7⟩ := hq
      rw [hu7] at hP hD
      refine z_eq F 71 dX11_person_64 (by decide) rfl (fun c8 => ?_) (fun c8 => ?_)
      · refine a_ic F (0 : Int32) dX11_person_71 (by decide) ?_
        exact a_reti F hr hlocks hP hD hS dX11_person_72 rfl
      · refine a_ic F (1 : Int32) dX11_person_67 (by decide) ?_
        refine lv_goto (tgt := 72) F.1 F.2.1 dX11_person_68 (by decide) ?_
        exact a_reti F hr hlocks hP hD hS dX11_person_72 rfl
    · refine lv_tableIn (tgt := 73) F.1 F.2.1 dX11_person_14 (by omega) (by omega) (by rw [c4]; rfl) (by decide) ?_
      refine lv_aload_n F.1 F.2.1 dX11_person_73 rfl (lv_at hl 0 rfl) ?_
      refine a_getr F inX11 hP 0 4 tc_0 rfl rfl (by decide) q507 (fun _ h9 => h9) dX11_person_74 ?_
      refine a_getr F inX6 hP 24 1 tc_24 rfl rfl (by decide) q276 (fun _ h9 => h9) dX11_person_77 ?_
      refine a_bp F (7 : Int32) dX11_person_80 (by decide) ?_
      refine lv_iload_n F.1 F.2.1 dX11_person_82 rfl (lv_at hl 1 rfl) ?_
      refine a_iadd F dX11_person_83 ic_7 rfl (by omega) (fun v9 hv9 => ?_)
      refine a_iald F hP 25 tc_25 rfl (i_in rfl (by omega)) dX11_person_84 (fun v10 ev10 => ?_)
      exact a_reti F hr hlocks hP hD hS dX11_person_85 rfl
    · refine lv_tableIn (tgt := 86) F.1 F.2.1 dX11_person_14 (by omega) (by omega) (by rw [c4]; rfl) (by decide) ?_
      refine lv_aload_n F.1 F.2.1 dX11_person_86 rfl (lv_at hl 0 rfl) ?_
      refine a_getr F inX11 hP 0 4 tc_0 rfl rfl (by decide) q507 (fun _ h9 => h9) dX11_person_87 ?_
      refine a_getr F inX6 hP 24 1 tc_24 rfl rfl (by decide) q276 (fun _ h9 => h9) dX11_person_90 ?_
      refine a_bp F (11 : Int32) dX11_person_93 (by decide) ?_
      refine lv_iload_n F.1 F.2.1 dX11_person_95 rfl (lv_at hl 1 rfl) ?_
      refine a_iadd F dX11_person_96 ic_11 rfl (by omega) (fun v11 hv11 => ?_)
      refine a_iald F hP 25 tc_25 rfl (i_in rfl (by omega)) dX11_person_97 (fun v12 ev12 => ?_)
      exact a_reti F hr hlocks hP hD hS dX11_person_98 rfl
  · refine a_ic F (-1 : Int32) dX11_person_11 (by decide) ?_
    exact a_reti F hr hlocks hP hD hS dX11_person_12 rfl
set_option maxHeartbeats 600000 in
set_option maxRecDepth 100000 in
theorem c_X11_plan_0 (l : Launch) (dC : Nat → ClassId) (dI : Nat → Nat → Nat) (ad : Nat → Nat) (cA : Nat → ClassId) (nF : Nat) (u0 : ac_U) (p0 : Int32) (hR : ac_R rg u0) (hnF : nF = 51200) : ac_Mi l yX11_plan (.code yX11_plan cX11_plan 2 (some .int) :: TB) 8 (dC, dI) vwCl (ac_ty cA) ad cA (TT nF) [.ref (ad 0), .int p0] u0 (fun (r : Int32) (u : ac_U) => ac_R rg u ∧ ac_Fr [(29, some 4), (29, some 5), (29, some 6), (30, none), (32, some 8), (32, some 9), (32, some 10), (32, some 11), (32, some 12), (32, some 13), (33, none), (34, none), (35, none), (36, none), (37, none)] u0 u ∧ ((-128 : Int) ≤ r.toInt ∧ r.toInt ≤ 98)) := by
  refine ac_Mi.of (cc := cX11_plan) (maxL := 2) (ret := (some .int)) (by decide) rfl (Nat.le_of_ble_eq_true rfl) ?_
  intro p e s m below meth c A ls F hml hr hlocks hA hP hD hS hl
  have F : ac_X p s m [.ref (ad 0), .int p0].toArray c cX11_plan RX11 TB (dC, dI) vwCl (ac_ty cA) := ⟨F.1, F.2.1, fun w h => F.2.2.1 w (List.mem_cons_of_mem _ h), F.2.2.2.1, F.2.2.2.2⟩
  have hl : lv_has ls 2 [(0, .ref (ad 0)), (1, .int p0)] := hl
  have hF : ac_Fr [(29, some 4), (29, some 5), (29, some 6), (30, none), (32, some 8), (32, some 9), (32, some 10), (32, some 11), (32, some 12), (32, some 13), (33, none), (34, none), (35, none), (36, none), (37, none)] u0 u0 := ac_Fr.rf
  have L21 : ∀ (u : ac_U) (H : Heap) (locs : List Loc) (ls : Array Slot), ac_R rg u → ac_Fr [(29, some 4), (29, some 5), (29, some 6), (30, none), (32, some 8), (32, some 9), (32, some 10), (32, some 11), (32, some 12), (32, some 13), (33, none), (34, none), (35, none), (36, none), (37, none)] u0 u → va_P (dC, dI) vwCl (ac_w ad cA (TT nF) u) H → va_D A (ac_w ad cA (TT nF) u) → va_S A s.heap H locs → lv_has ls 2 [] → W p l e (ac_rm 8) s m [.ref (ad 0), .int p0].toArray below meth c H locs 0 0 (MQ below (va_Qi (fun (r : Int32) (u : ac_U) => ac_R rg u ∧ ac_Fr [(29, some 4), (29, some 5), (29, some 6), (30, none), (32, some 8), (32, some 9), (32, some 10), (32, some 11), (32, some 12), (32, some 13), (33, none), (34, none), (35, none), (36, none), (37, none)] u0 u ∧ ((-128 : Int) ≤ r.toInt ∧ r.toInt ≤ 98)) (ac_B (dC, dI) vwCl (ac_ty cA) ad cA (TT nF) A) A) [.ref (ad 0), .int p0].toArray s 0 0 A) (F0 m 21 ls []) := by
    intro u H locs ls hR hF hP hD hS hl
    refine a_ic F (-1 : Int32) dX11_plan_21 (by decide) ?_
    exact a_reti F hr hlocks hP hD hS dX11_plan_22 ⟨hR, hF, (by decide)⟩
  refine lv_aload_n F.1 F.2.1 dX11_plan_0 rfl (lv_at hl 0 rfl) ?_
  refine a_getr F inX11 hP 0 1 tc_0 rfl rfl (by decide) q504 (fun _ h9 => h9) dX11_plan_1 ?_
  refine lv_iload_n F.1 F.2.1 dX11_plan_4 rfl (lv_at hl 1 rfl) ?_
  refine a_Vi F hml hl.1 hA hP hD hS (As := [.int p0]) (c_X2_isPerson_4 l dC dI ad cA nF _ p0 hR) (cs_RX11_159 (d := 1) F.2.2.1 (by decide)) tc_4 rfl rfl rfl rfl (Nat.le_of_ble_eq_true rfl) dX11_plan_5 ⟨Nat.le_refl 0, Nat.le_refl 0⟩ (fun r1 uN1 H locs hq hP hD hS => ?_)
  obtain ⟨hu1, gr1, xr1⟩ := hq
  rw [hu1] at hP hD
  have g2 : (0 : Int) ≤ (u0.1 4 4).toInt ∧ (u0.1 4 4).toInt ≤ 4 := hR 4 4
  have xr1 : r1.toInt ≠ 0 → 0 ≤ p0.toInt ∧ p0.toInt < (u0.1 4 4).toInt ∧ p0.toInt ≤ 3 := xr1
  refine z_eq F 21 dX11_plan_8 (by decide) rfl (fun c3 => ?_) (fun c3 => ?_)
  · exact L21 _ _ _ _ hR hF hP hD hS (lv_sub hl [] rfl)
  · refine lv_aload_n F.1 F.2.1 dX11_plan_11 rfl (lv_at hl 0 rfl) ?_
    refine a_getr F inX11 hP 0 4 tc_0 rfl rfl (by decide) q507 (fun _ h9 => h9) dX11_plan_12 ?_
    refine a_Vi F hml hl.1 hA hP hD hS (As := []) (c_X6_isOver_24 l dC dI ad cA nF _  hR) (cs_RX11_221 (d := 2) F.2.2.1 (by decide)) tc_24 rfl rfl rfl rfl (Nat.le_of_ble_eq_true rfl) dX11_plan_15 ⟨Nat.le_refl 0, Nat.le_refl 0⟩ (fun r4 uN4 H locs hq hP hD hS => ?_)
    obtain ⟨hu4, gr4, xr4⟩ := hq
    rw [hu4] at hP hD
    have g5 : (0 : Int) ≤ (u0.1 25 0).toInt ∧ (u0.1 25 0).toInt ≤ 480 := hR 25 0
    have g6 : (4 : Int) ≤ (u0.1 4 0).toInt ∧ (u0.1 4 0).toInt ≤ 24 := hR 4 0
    have xr4 : r4.toInt = 0 → (u0.1 25 0).toInt < 20 * (u0.1 4 0).toInt := xr4
    refine z_eq F 23 dX11_plan_18 (by decide) rfl (fun c7 => ?_) (fun c7 => ?_)
    · refine lv_aload_n F.1 F.2.1 dX11_plan_23 rfl (lv_at hl 0 rfl) ?_
      refine a_getr F inX11 hP 0 6 tc_0 rfl rfl (by decide) q509 (fun _ h9 => h9) dX11_plan_24 ?_
      refine lv_iload_n F.1 F.2.1 dX11_plan_27 rfl (lv_at hl 1 rfl) ?_
      refine a_Vi F hml hl.1 hA hP hD hS (As := [.int p0]) (c_X7_planFor_32 l dC dI ad cA nF _ p0 hR (by omega) hnF) (cs_RX11_254 (d := 7) F.2.2.1 (by decide)) tc_32 rfl rfl rfl rfl (Nat.le_of_ble_eq_true rfl) dX11_plan_28 ⟨Nat.le_refl 0, Nat.le_refl 0⟩ (fun r8 u8 H locs hq hP hD hS => ?_)
      obtain ⟨hR, hF8, gr8⟩ := hq
      have hF := hF.tr hF8 (by decide)
      exact a_reti F hr hlocks hP hD hS dX11_plan_31 ⟨hR, hF, (by omega : (-128 : Int) ≤ r8.toInt ∧ r8.toInt ≤ 98)⟩
    · exact L21 _ _ _ _ hR hF hP hD hS (lv_sub hl [] rfl)
set_option maxHeartbeats 600000 in
set_option maxRecDepth 100000 in
theorem c_X11_quarrel_0 (l : Launch) (dC : Nat → ClassId) (dI : Nat → Nat → Nat) (ad : Nat → Nat) (cA : Nat → ClassId) (nF : Nat) (u0 : ac_U) (p0 : Int32) (hR : ac_R rg u0) (hnF : nF = 51200) : ac_Mi l yX11_quarrel (.code yX11_quarrel cX11_quarrel 2 (some .int) :: TB) 8 (dC, dI) vwCl (ac_ty cA) ad cA (TT nF) [.ref (ad 0), .int p0] u0 (fun (r : Int32) (u : ac_U) => ac_R rg u ∧ ac_Fr [(29, some 4), (29, some 5), (29, some 6), (30, none), (32, some 8), (32, some 9), (32, some 10), (32, some 11), (33, none), (34, none), (35, none), (37, none)] u0 u ∧ ((-1 : Int) ≤ r.toInt ∧ r.toInt ≤ 255)) := by
  refine ac_Mi.of (cc := cX11_quarrel) (maxL := 2) (ret := (some .int)) (by decide) rfl (Nat.le_of_ble_eq_true rfl) ?_
  intro p e s m below meth c A ls F hml hr hlocks hA hP hD hS hl
  have F : ac_X p s m [.ref (ad 0), .int p0].toArray c cX11_quarrel RX11 TB (dC, dI) vwCl (ac_ty cA) := ⟨F.1, F.2.1, fun w h => F.2.2.1 w (List.mem_cons_of_mem _ h), F.2.2.2.1, F.2.2.2.2⟩
  have hl : lv_has ls 2 [(0, .ref (ad 0)), (1, .int p0)] := hl
  have hF : ac_Fr [(29, some 4), (29, some 5), (29, some 6), (30, none), (32, some 8), (32, some 9), (32, some 10), (32, some 11), (33, none), (34, none), (35, none), (37, none)] u0 u0 := ac_Fr.rf
  have L21 : ∀ (u : ac_U) (H : Heap) (locs : List Loc) (ls : Array Slot), ac_R rg u → ac_Fr [(29, some 4), (29, some 5), (29, some 6), (30, none), (32, some 8), (32, some 9), (32, some 10), (32, some 11), (33, none), (34, none), (35, none), (37, none)] u0 u → va_P (dC, dI) vwCl (ac_w ad cA (TT nF) u) H → va_D A (ac_w ad cA (TT nF) u) → va_S A s.heap H locs → lv_has ls 2 [] → W p l e (ac_rm 8) s m [.ref (ad 0), .int p0].toArray below meth c H locs 0 0 (MQ below (va_Qi (fun (r : Int32) (u : ac_U) => ac_R rg u ∧ ac_Fr [(29, some 4), (29, some 5), (29, some 6), (30, none), (32, some 8), (32, some 9), (32, some 10), (32, some 11), (33, none), (34, none), (35, none), (37, none)] u0 u ∧ ((-1 : Int) ≤ r.toInt ∧ r.toInt ≤ 255)) (ac_B (dC, dI) vwCl (ac_ty cA) ad cA (TT nF) A) A) [.ref (ad 0), .int p0].toArray s 0 0 A) (F0 m 21 ls []) := by
    intro u H locs ls hR hF hP hD hS hl
    refine a_ic F (-1 : Int32) dX11_quarrel_21 (by decide) ?_
    exact a_reti F hr hlocks hP hD hS dX11_quarrel_22 ⟨hR, hF, (by decide)⟩
  refine lv_aload_n F.1 F.2.1 dX11_quarrel_0 rfl (lv_at hl 0 rfl) ?_
  refine a_getr F inX11 hP 0 1 tc_0 rfl rfl (by decide) q504 (fun _ h9 => h9) dX11_quarrel_1 ?_
  refine lv_iload_n F.1 F.2.1 dX11_quarrel_4 rfl (lv_at hl 1 rfl) ?_
  refine a_Vi F hml hl.1 hA hP hD hS (As := [.int p0]) (c_X2_isPerson_4 l dC dI ad cA nF _ p0 hR) (cs_RX11_159 (d := 1) F.2.2.1 (by decide)) tc_4 rfl rfl rfl rfl (Nat.le_of_ble_eq_true rfl) dX11_quarrel_5 ⟨Nat.le_refl 0, Nat.le_refl 0⟩ (fun r1 uN1 H locs hq hP hD hS => ?_)
  obtain ⟨hu1, gr1, xr1⟩ := hq
  rw [hu1] at hP hD
  have g2 : (0 : Int) ≤ (u0.1 4 4).toInt ∧ (u0.1 4 4).toInt ≤ 4 := hR 4 4
  have xr1 : r1.toInt ≠ 0 → 0 ≤ p0.toInt ∧ p0.toInt < (u0.1 4 4).toInt ∧ p0.toInt ≤ 3 := xr1
  refine z_eq F 21 dX11_quarrel_8 (by decide) rfl (fun c3 => ?_) (fun c3 => ?_)
  · exact L21 _ _ _ _ hR hF hP hD hS (lv_sub hl [] rfl)
  · refine lv_aload_n F.1 F.2.1 dX11_quarrel_11 rfl (lv_at hl 0 rfl) ?_
    refine a_getr F inX11 hP 0 4 tc_0 rfl rfl (by decide) q507 (fun _ h9 => h9) dX11_quarrel_12 ?_
    refine a_Vi F hml hl.1 hA hP hD hS (As := []) (c_X6_isOver_24 l dC dI ad cA nF _  hR) (cs_RX11_221 (d := 2) F.2.2.1 (by decide)) tc_24 rfl rfl rfl rfl (Nat.le_of_ble_eq_true rfl) dX11_quarrel_15 ⟨Nat.le_refl 0, Nat.le_refl 0⟩ (fun r4 uN4 H locs hq hP hD hS => ?_)
    obtain ⟨hu4, gr4, xr4⟩ := hq
    rw [hu4] at hP hD
    have g5 : (0 : Int) ≤ (u0.1 25 0).toInt ∧ (u0.1 25 0).toInt ≤ 480 := hR 25 0
    have g6 : (4 : Int) ≤ (u0.1 4 0).toInt ∧ (u0.1 4 0).toInt ≤ 24 := hR 4 0
    have xr4 : r4.toInt = 0 → (u0.1 25 0).toInt < 20 * (u0.1 4 0).toInt := xr4
    refine z_eq F 23 dX11_quarrel_18 (by decide) rfl (fun c7 => ?_) (fun c7 => ?_)
    · refine lv_aload_n F.1 F.2.1 dX11_quarrel_23 rfl (lv_at hl 0 rfl) ?_
      refine a_getr F inX11 hP 0 6 tc_0 rfl rfl (by decide) q509 (fun _ h9 => h9) dX11_quarrel_24 ?_
      refine lv_iload_n F.1 F.2.1 dX11_quarrel_27 rfl (lv_at hl 1 rfl) ?_
      refine a_Vi F hml hl.1 hA hP hD hS (As := [.int p0]) (c_X7_quarrelOf_32 l dC dI ad cA nF _ p0 hR (by omega) hnF) (cs_RX11_260 (d := 7) F.2.2.1 (by decide)) tc_32 rfl rfl rfl rfl (Nat.le_of_ble_eq_true rfl) dX11_quarrel_28 ⟨Nat.le_refl 0, Nat.le_refl 0⟩ (fun r8 u8 H locs hq hP hD hS => ?_)
      obtain ⟨hR, hF8, gr8⟩ := hq
      have hF := hF.tr hF8 (by decide)
      exact a_reti F hr hlocks hP hD hS dX11_quarrel_31 ⟨hR, hF, (by omega : (-1 : Int) ≤ r8.toInt ∧ r8.toInt ≤ 255)⟩
    · exact L21 _ _ _ _ hR hF hP hD hS (lv_sub hl [] rfl)
set_option maxHeartbeats 600000 in
set_option maxRecDepth 100000 in
theorem c_X11_readings_0 (l : Launch) (dC : Nat → ClassId) (dI : Nat → Nat → Nat) (ad : Nat → Nat) (cA : Nat → ClassId) (nF : Nat) (u0 : ac_U) (p0 : Int32) (p1 : Int32) (hR : ac_R rg u0) : ac_Mi l yX11_readings (.code yX11_readings cX11_readings 5 (some .int) :: TB) 7 (dC, dI) vwCl (ac_ty cA) ad cA (TT nF) [.ref (ad 0), .int p0, .int p1] u0 (fun (r : Int32) (u : ac_U) => ac_R rg u ∧ ac_Fr [(29, some 4), (29, some 5), (29, some 6), (30, none)] u0 u ∧ ((-1 : Int) ≤ r.toInt ∧ r.toInt ≤ 255)) := by
  refine ac_Mi.of (cc := cX11_readings) (maxL := 5) (ret := (some .int)) (by decide) rfl (Nat.le_of_ble_eq_true rfl) ?_
  intro p e s m below meth c A ls F hml hr hlocks hA hP hD hS hl
  have F : ac_X p s m [.ref (ad 0), .int p0, .int p1].toArray c cX11_readings RX11 TB (dC, dI) vwCl (ac_ty cA) := ⟨F.1, F.2.1, fun w h => F.2.2.1 w (List.mem_cons_of_mem _ h), F.2.2.2.1, F.2.2.2.2⟩
  have hl : lv_has ls 5 [(0, .ref (ad 0)), (1, .int p0), (2, .int p1)] := hl
  have hF : ac_Fr [(29, some 4), (29, some 5), (29, some 6), (30, none)] u0 u0 := ac_Fr.rf
  have L27 : ∀ (n27 : Nat) (x3 : Int32) (x4 : Int32) (u : ac_U) (H : Heap) (locs : List Loc) (ls : Array Slot), ac_R rg u → ac_Fr [(29, some 4), (29, some 5), (29, some 6), (30, none)] u0 u → 8 - x4.toInt < (n27 : Int) → (0 : Int) ≤ p0.toInt ∧ p0.toInt ≤ 7 → (0 : Int) ≤ p1.toInt ∧ p1.toInt ≤ 4 → (0 : Int) ≤ x3.toInt ∧ x3.toInt ≤ 255 → (0 : Int) ≤ x4.toInt ∧ x4.toInt ≤ 8 → va_P (dC, dI) vwCl (ac_w ad cA (TT nF) u) H → va_D A (ac_w ad cA (TT nF) u) → va_S A s.heap H locs → lv_has ls 5 [(0, .ref (ad 0)), (1, .int p0), (2, .int p1), (3, .int x3), (4, .int x4)] → W p l e (ac_rm 7) s m [.ref (ad 0), .int p0, .int p1].toArray below meth c H locs 0 0 (MQ below (va_Qi (fun (r : Int32) (u : ac_U) => ac_R rg u ∧ ac_Fr [(29, some 4), (29, some 5), (29, some 6), (30, none)] u0 u ∧ ((-1 : Int) ≤ r.toInt ∧ r.toInt ≤ 255)) (ac_B (dC, dI) vwCl (ac_ty cA) ad cA (TT nF) A) A) [.ref (ad 0), .int p0, .int p1].toArray s 0 0 A) (F0 m 27 ls []) := by
    intro n27
    induction n27 with
    | zero => intro x3 x4 u H locs ls hR hF hn27 f0 f1 f2 f3 hP hD hS hl; exfalso; omega
    | succ n27 ih27 =>
      intro x3 x4 u H locs ls hR hF hn27 f0 f1 f2 f3 hP hD hS hl
      have L55 : ∀ (x3 : Int32) (x4 : Int32) (u : ac_U) (H : Heap) (locs : List Loc) (ls : Array Slot), ac_R rg u → ac_Fr [(29, some 4), (29, some 5), (29, some 6), (30, none)] u0 u → (0 : Int) ≤ p0.toInt ∧ p0.toInt ≤ 7 → (0 : Int) ≤ p1.toInt ∧ p1.toInt ≤ 4 → (0 : Int) ≤ x3.toInt ∧ x3.toInt ≤ 255 → (0 : Int) ≤ x4.toInt ∧ x4.toInt ≤ 7 → 8 - x4.toInt + 0 < ((n27 : Nat) : Int) + 1 → va_P (dC, dI) vwCl (ac_w ad cA (TT nF) u) H → va_D A (ac_w ad cA (TT nF) u) → va_S A s.heap H locs → lv_has ls 5 [(0, .ref (ad 0)), (1, .int p0), (2, .int p1), (3, .int x3), (4, .int x4)] → W p l e (ac_rm 7) s m [.ref (ad 0), .int p0, .int p1].toArray below meth c H locs 0 0 (MQ below (va_Qi (fun (r : Int32) (u : ac_U) => ac_R rg u ∧ ac_Fr [(29, some 4), (29, some 5), (29, some 6), (30, none)] u0 u ∧ ((-1 : Int) ≤ r.toInt ∧ r.toInt ≤ 255)) (ac_B (dC, dI) vwCl (ac_ty cA) ad cA (TT nF) A) A) [.ref (ad 0), .int p0, .int p1].toArray s 0 0 A) (F0 m 55 ls []) := by
        intro x3 x4 u H locs ls hR hF f0 f1 f2 f3 f4 hP hD hS hl
        refine a_iinc F (k := 4) (fun v1 => [(4, .int v1), (0, .ref (ad 0)), (1, .int p0), (2, .int p1), (3, .int x3)]) dX11_readings_55 hl rfl rfl (by decide) (by omega) (by decide) (fun _ => rfl) (fun v1 ls hv1 hl => ?_)
        refine lv_goto (tgt := 27) F.1 F.2.1 dX11_readings_58 (by decide) ?_
        exact ih27 x3 v1 _ _ _ _ hR hF (by omega) (by omega) (by omega) (by omega) (by omega) hP hD hS (lv_sub hl [1, 2, 3, 4, 0] rfl)
      refine lv_iload F.1 F.2.1 dX11_readings_27 (lv_at hl 4 rfl) ?_
      refine a_bp F (8 : Int32) dX11_readings_29 (by decide) ?_
      refine b_ge F 61 dX11_readings_31 (by decide) rfl ic_8 (fun c2 => ?_) (fun c2 => ?_)
      · refine lv_iload_n F.1 F.2.1 dX11_readings_61 rfl (lv_at hl 3 rfl) ?_
        exact a_reti F hr hlocks hP hD hS dX11_readings_62 ⟨hR, hF, (by omega : (-1 : Int) ≤ x3.toInt ∧ x3.toInt ≤ 255)⟩
      · refine lv_aload_n F.1 F.2.1 dX11_readings_34 rfl (lv_at hl 0 rfl) ?_
        refine a_getr F inX11 hP 0 5 tc_0 rfl rfl (by decide) q508 (fun _ h9 => h9) dX11_readings_35 ?_
        refine lv_iload_n F.1 F.2.1 dX11_readings_38 rfl (lv_at hl 1 rfl) ?_
        refine lv_iload F.1 F.2.1 dX11_readings_39 (lv_at hl 4 rfl) ?_
        refine a_Vi F hml hl.1 hA hP hD hS (As := [.int p0, .int x4]) (c_X5_statusOf_29 l dC dI ad cA nF _ p0 x4 hR (by omega) (by omega)) (cs_RX11_236 (d := 6) F.2.2.1 (by decide)) tc_29 rfl rfl rfl rfl (Nat.le_of_ble_eq_true rfl) dX11_readings_41 ⟨Nat.le_refl 0, Nat.le_refl 0⟩ (fun r3 u3 H locs hq hP hD hS => ?_)
        obtain ⟨hR, hF3, gr3⟩ := hq
        have hF := hF.tr hF3 (by decide)
        refine lv_iload_n F.1 F.2.1 dX11_readings_44 rfl (lv_at hl 2 rfl) ?_
        refine b_ne F 55 dX11_readings_45 (by decide) rfl rfl (fun c4 => ?_) (fun c4 => ?_)
        · exact L55 x3 x4 _ _ _ _ hR hF (by omega) (by omega) (by omega) (by omega) (by omega) hP hD hS (lv_sub hl [0, 1, 2, 3, 4] rfl)
        · refine lv_iload_n F.1 F.2.1 dX11_readings_48 rfl (lv_at hl 3 rfl) ?_
          refine a_ic F (1 : Int32) dX11_readings_49 (by decide) ?_
          refine lv_iload F.1 F.2.1 dX11_readings_50 (lv_at hl 4 rfl) ?_
          refine a_ishl1 F dX11_readings_52 rfl (lo := 0) (hi := 7) (by omega) (by decide) (fun v5 hv5 => ?_)
          have hv5 : (1 : Int) ≤ v5.toInt ∧ v5.toInt ≤ 128 := hv5
          refine a_iorB F dX11_readings_53 rfl rfl (n := 8) (m' := 256) rfl (by decide) (by omega) (by omega) (fun v6 hv6 => ?_)
          refine lv_istore_n (lv' := [(3, .int v6), (0, .ref (ad 0)), (1, .int p0), (2, .int p1), (4, .int x4)]) F.1 F.2.1 dX11_readings_54 rfl hl (by decide) rfl (fun ls hl => ?_)
          exact L55 v6 x4 _ _ _ _ hR hF (by omega) (by omega) (by omega) (by omega) (by omega) hP hD hS (lv_sub hl [1, 2, 3, 0, 4] rfl)
  have L20 : ∀ (u : ac_U) (H : Heap) (locs : List Loc) (ls : Array Slot), ac_R rg u → ac_Fr [(29, some 4), (29, some 5), (29, some 6), (30, none)] u0 u → va_P (dC, dI) vwCl (ac_w ad cA (TT nF) u) H → va_D A (ac_w ad cA (TT nF) u) → va_S A s.heap H locs → lv_has ls 5 [] → W p l e (ac_rm 7) s m [.ref (ad 0), .int p0, .int p1].toArray below meth c H locs 0 0 (MQ below (va_Qi (fun (r : Int32) (u : ac_U) => ac_R rg u ∧ ac_Fr [(29, some 4), (29, some 5), (29, some 6), (30, none)] u0 u ∧ ((-1 : Int) ≤ r.toInt ∧ r.toInt ≤ 255)) (ac_B (dC, dI) vwCl (ac_ty cA) ad cA (TT nF) A) A) [.ref (ad 0), .int p0, .int p1].toArray s 0 0 A) (F0 m 20 ls []) := by
    intro u H locs ls hR hF hP hD hS hl
    refine a_ic F (-1 : Int32) dX11_readings_20 (by decide) ?_
    exact a_reti F hr hlocks hP hD hS dX11_readings_21 ⟨hR, hF, (by decide)⟩
  refine lv_aload_n F.1 F.2.1 dX11_readings_0 rfl (lv_at hl 0 rfl) ?_
  refine a_getr F inX11 hP 0 1 tc_0 rfl rfl (by decide) q504 (fun _ h9 => h9) dX11_readings_1 ?_
  refine lv_iload_n F.1 F.2.1 dX11_readings_4 rfl (lv_at hl 1 rfl) ?_
  refine a_Vi F hml hl.1 hA hP hD hS (As := [.int p0]) (c_X2_isPromise_4 l dC dI ad cA nF _ p0 hR) (cs_RX11_141 (d := 1) F.2.2.1 (by decide)) tc_4 rfl rfl rfl rfl (Nat.le_of_ble_eq_true rfl) dX11_readings_5 ⟨Nat.le_refl 0, Nat.le_refl 0⟩ (fun r7 uN7 H locs hq hP hD hS => ?_)
  obtain ⟨hu7, gr7, xr7⟩ := hq
  rw [hu7] at hP hD
  have g8 : (0 : Int) ≤ (u0.1 4 6).toInt ∧ (u0.1 4 6).toInt ≤ 8 := hR 4 6
  have xr7 : r7.toInt ≠ 0 → 0 ≤ p0.toInt ∧ p0.toInt < (u0.1 4 6).toInt ∧ p0.toInt ≤ 7 := xr7
  refine z_eq F 20 dX11_readings_8 (by decide) rfl (fun c9 => ?_) (fun c9 => ?_)
  · exact L20 _ _ _ _ hR hF hP hD hS (lv_sub hl [] rfl)
  · refine lv_iload_n F.1 F.2.1 dX11_readings_11 rfl (lv_at hl 2 rfl) ?_
    refine z_lt F 20 dX11_readings_12 (by decide) rfl (fun c10 => ?_) (fun c10 => ?_)
    · exact L20 _ _ _ _ hR hF hP hD hS (lv_sub hl [] rfl)
    · refine lv_iload_n F.1 F.2.1 dX11_readings_15 rfl (lv_at hl 2 rfl) ?_
      refine a_ic F (4 : Int32) dX11_readings_16 (by decide) ?_
      refine b_le F 22 dX11_readings_17 (by decide) rfl ic_4 (fun c11 => ?_) (fun c11 => ?_)
      · refine a_ic F (0 : Int32) dX11_readings_22 (by decide) ?_
        refine lv_istore_n (lv' := [(3, .int (0 : Int32)), (0, .ref (ad 0)), (1, .int p0), (2, .int p1)]) F.1 F.2.1 dX11_readings_23 rfl hl (by decide) rfl (fun ls hl => ?_)
        refine a_ic F (0 : Int32) dX11_readings_24 (by decide) ?_
        refine lv_istore (lv' := [(4, .int (0 : Int32)), (3, .int (0 : Int32)), (0, .ref (ad 0)), (1, .int p0), (2, .int p1)]) F.1 F.2.1 dX11_readings_25 hl (by decide) rfl (fun ls hl => ?_)
        exact L27 10 (0 : Int32) (0 : Int32) _ _ _ _ hR hF (by decide) (by omega) (by omega) (by decide) (by decide) hP hD hS (lv_sub hl [2, 3, 4, 1, 0] rfl)
      · exact L20 _ _ _ _ hR hF hP hD hS (lv_sub hl [] rfl)
set_option maxHeartbeats 600000 in
set_option maxRecDepth 100000 in
theorem c_X11_rings_0 (l : Launch) (dC : Nat → ClassId) (dI : Nat → Nat → Nat) (ad : Nat → Nat) (cA : Nat → ClassId) (nF : Nat) (u0 : ac_U)  (hR : ac_R rg u0) : ac_Mi l yX11_rings (.code yX11_rings cX11_rings 1 (some .int) :: TB) 3 (dC, dI) vwCl (ac_ty cA) ad cA (TT nF) [.ref (ad 0)] u0 (fun (r : Int32) (u : ac_U) => u = u0 ∧ ((0 : Int) ≤ r.toInt ∧ r.toInt ≤ 255)) := by
  refine ac_Mi.of (cc := cX11_rings) (maxL := 1) (ret := (some .int)) (by decide) rfl (Nat.le_of_ble_eq_true rfl) ?_
  intro p e s m below meth c A ls F hml hr hlocks hA hP hD hS hl
  have F : ac_X p s m [.ref (ad 0)].toArray c cX11_rings RX11 TB (dC, dI) vwCl (ac_ty cA) := ⟨F.1, F.2.1, fun w h => F.2.2.1 w (List.mem_cons_of_mem _ h), F.2.2.2.1, F.2.2.2.2⟩
  have hl : lv_has ls 1 [(0, .ref (ad 0))] := hl
  refine lv_aload_n F.1 F.2.1 dX11_rings_0 rfl (lv_at hl 0 rfl) ?_
  refine a_getr F inX11 hP 0 1 tc_0 rfl rfl (by decide) q504 (fun _ h9 => h9) dX11_rings_1 ?_
  refine a_Vi F hml hl.1 hA hP hD hS (As := []) (c_X2_ringBits_4 l dC dI ad cA nF _  hR) (cs_RX11_266 (d := 2) F.2.2.1 (by decide)) tc_4 rfl rfl rfl rfl (Nat.le_of_ble_eq_true rfl) dX11_rings_4 ⟨Nat.le_refl 0, Nat.le_refl 0⟩ (fun r1 uN1 H locs hq hP hD hS => ?_)
  obtain ⟨hu1, gr1⟩ := hq
  rw [hu1] at hP hD
  exact a_reti F hr hlocks hP hD hS dX11_rings_7 ⟨rfl, (by omega : (0 : Int) ≤ r1.toInt ∧ r1.toInt ≤ 255)⟩
set_option maxHeartbeats 600000 in
set_option maxRecDepth 100000 in
theorem c_X11_roots_0 (l : Launch) (dC : Nat → ClassId) (dI : Nat → Nat → Nat) (ad : Nat → Nat) (cA : Nat → ClassId) (nF : Nat) (u0 : ac_U)  (hR : ac_R rg u0) : ac_Mi l yX11_roots (.code yX11_roots cX11_roots 1 (some .int) :: TB) 3 (dC, dI) vwCl (ac_ty cA) ad cA (TT nF) [.ref (ad 0)] u0 (fun (r : Int32) (u : ac_U) => u = u0 ∧ ((0 : Int) ≤ r.toInt ∧ r.toInt ≤ 255)) := by
  refine ac_Mi.of (cc := cX11_roots) (maxL := 1) (ret := (some .int)) (by decide) rfl (Nat.le_of_ble_eq_true rfl) ?_
  intro p e s m below meth c A ls F hml hr hlocks hA hP hD hS hl
  have F : ac_X p s m [.ref (ad 0)].toArray c cX11_roots RX11 TB (dC, dI) vwCl (ac_ty cA) := ⟨F.1, F.2.1, fun w h => F.2.2.1 w (List.mem_cons_of_mem _ h), F.2.2.2.1, F.2.2.2.2⟩
  have hl : lv_has ls 1 [(0, .ref (ad 0))] := hl
  refine lv_aload_n F.1 F.2.1 dX11_roots_0 rfl (lv_at hl 0 rfl) ?_
  refine a_getr F inX11 hP 0 1 tc_0 rfl rfl (by decide) q504 (fun _ h9 => h9) dX11_roots_1 ?_
  refine a_Vi F hml hl.1 hA hP hD hS (As := []) (c_X2_rootBits_4 l dC dI ad cA nF _  hR) (cs_RX11_269 (d := 2) F.2.2.1 (by decide)) tc_4 rfl rfl rfl rfl (Nat.le_of_ble_eq_true rfl) dX11_roots_4 ⟨Nat.le_refl 0, Nat.le_refl 0⟩ (fun r1 uN1 H locs hq hP hD hS => ?_)
  obtain ⟨hu1, gr1⟩ := hq
  rw [hu1] at hP hD
  exact a_reti F hr hlocks hP hD hS dX11_roots_7 ⟨rfl, (by omega : (0 : Int) ≤ r1.toInt ∧ r1.toInt ≤ 255)⟩
set_option maxHeartbeats 600000 in
set_option maxRecDepth 100000 in
theorem c_X11_said_0 (l : Launch) (dC : Nat → ClassId) (dI : Nat → Nat → Nat) (ad : Nat → Nat) (cA : Nat → ClassId) (nF : Nat) (u0 : ac_U) (p0 : Int32) (hR : ac_R rg u0) : ac_Mi l yX11_said (.code yX11_said cX11_said 4 (some .int) :: TB) 7 (dC, dI) vwCl (ac_ty cA) ad cA (TT nF) [.ref (ad 0), .int p0] u0 (fun (r : Int32) (u : ac_U) => ac_R rg u ∧ ac_Fr [(29, some 4), (29, some 5), (29, some 6), (30, none)] u0 u) := by
  refine ac_Mi.of (cc := cX11_said) (maxL := 4) (ret := (some .int)) (by decide) rfl (Nat.le_of_ble_eq_true rfl) ?_
  intro p e s m below meth c A ls F hml hr hlocks hA hP hD hS hl
  have F : ac_X p s m [.ref (ad 0), .int p0].toArray c cX11_said RX11 TB (dC, dI) vwCl (ac_ty cA) := ⟨F.1, F.2.1, fun w h => F.2.2.1 w (List.mem_cons_of_mem _ h), F.2.2.2.1, F.2.2.2.2⟩
  have hl : lv_has ls 4 [(0, .ref (ad 0)), (1, .int p0)] := hl
  have hF : ac_Fr [(29, some 4), (29, some 5), (29, some 6), (30, none)] u0 u0 := ac_Fr.rf
  have L21 : ∀ (n21 : Nat) (x2 : Int32) (x3 : Int32) (u : ac_U) (H : Heap) (locs : List Loc) (ls : Array Slot), ac_R rg u → ac_Fr [(29, some 4), (29, some 5), (29, some 6), (30, none)] u0 u → 8 - x3.toInt < (n21 : Int) → (-1 : Int) ≤ p0.toInt → (0 : Int) ≤ x3.toInt ∧ x3.toInt ≤ 8 → (1 : Int) ≤ (u.1 43 3).toInt ∧ (u.1 43 3).toInt ≤ 40 → va_P (dC, dI) vwCl (ac_w ad cA (TT nF) u) H → va_D A (ac_w ad cA (TT nF) u) → va_S A s.heap H locs → lv_has ls 4 [(0, .ref (ad 0)), (1, .int p0), (2, .int x2), (3, .int x3)] → W p l e (ac_rm 7) s m [.ref (ad 0), .int p0].toArray below meth c H locs 0 0 (MQ below (va_Qi (fun (r : Int32) (u : ac_U) => ac_R rg u ∧ ac_Fr [(29, some 4), (29, some 5), (29, some 6), (30, none)] u0 u) (ac_B (dC, dI) vwCl (ac_ty cA) ad cA (TT nF) A) A) [.ref (ad 0), .int p0].toArray s 0 0 A) (F0 m 21 ls []) := by
    intro n21
    induction n21 with
    | zero => intro x2 x3 u H locs ls hR hF hn21 f0 f1 f2 hP hD hS hl; exfalso; omega
    | succ n21 ih21 =>
      intro x2 x3 u H locs ls hR hF hn21 f0 f1 f2 hP hD hS hl
      have L66 : ∀ (x2 : Int32) (x3 : Int32) (u : ac_U) (H : Heap) (locs : List Loc) (ls : Array Slot), ac_R rg u → ac_Fr [(29, some 4), (29, some 5), (29, some 6), (30, none)] u0 u → (-1 : Int) ≤ p0.toInt → (0 : Int) ≤ x3.toInt ∧ x3.toInt ≤ 7 → (1 : Int) ≤ (u.1 4 6).toInt ∧ (u.1 4 6).toInt ≤ 8 → (1 : Int) ≤ (u.1 43 3).toInt ∧ (u.1 43 3).toInt ≤ 40 → 8 - x3.toInt + 0 < ((n21 : Nat) : Int) + 1 → va_P (dC, dI) vwCl (ac_w ad cA (TT nF) u) H → va_D A (ac_w ad cA (TT nF) u) → va_S A s.heap H locs → lv_has ls 4 [(0, .ref (ad 0)), (1, .int p0), (2, .int x2), (3, .int x3)] → W p l e (ac_rm 7) s m [.ref (ad 0), .int p0].toArray below meth c H locs 0 0 (MQ below (va_Qi (fun (r : Int32) (u : ac_U) => ac_R rg u ∧ ac_Fr [(29, some 4), (29, some 5), (29, some 6), (30, none)] u0 u) (ac_B (dC, dI) vwCl (ac_ty cA) ad cA (TT nF) A) A) [.ref (ad 0), .int p0].toArray s 0 0 A) (F0 m 66 ls []) := by
        intro x2 x3 u H locs ls hR hF f0 f1 f2 f3 f4 hP hD hS hl
        refine a_iinc F (k := 3) (fun v1 => [(3, .int v1), (0, .ref (ad 0)), (1, .int p0), (2, .int x2)]) dX11_said_66 hl rfl rfl (by decide) (by omega) (by decide) (fun _ => rfl) (fun v1 ls hv1 hl => ?_)
        refine lv_goto (tgt := 21) F.1 F.2.1 dX11_said_69 (by decide) ?_
        have g2 : (0 : Int) ≤ (u.1 43 3).toInt ∧ (u.1 43 3).toInt ≤ 40 := hR 43 3
        exact ih21 x2 v1 _ _ _ _ hR hF (by omega) (by omega) (by omega) (by omega : (1 : Int) ≤ (u.1 43 3).toInt ∧ (u.1 43 3).toInt ≤ 40) hP hD hS (lv_sub hl [1, 2, 3, 0] rfl)
      refine lv_iload_n F.1 F.2.1 dX11_said_21 rfl (lv_at hl 3 rfl) ?_
      refine lv_aload_n F.1 F.2.1 dX11_said_22 rfl (lv_at hl 0 rfl) ?_
      refine a_getr F inX11 hP 0 1 tc_0 rfl rfl (by decide) q504 (fun _ h9 => h9) dX11_said_23 ?_
      have g3 : (0 : Int) ≤ (u.1 4 6).toInt ∧ (u.1 4 6).toInt ≤ 8 := hR 4 6
      refine a_geti F inX2 hP 4 6 tc_4 rfl rfl (by decide) q184 (fun _ h9 => h9) (v := (u.1 4 6)) rfl dX11_said_26 ?_
      refine b_ge F 72 dX11_said_29 (by decide) rfl rfl (fun c4 => ?_) (fun c4 => ?_)
      · refine lv_iload_n F.1 F.2.1 dX11_said_72 rfl (lv_at hl 1 rfl) ?_
        refine a_ic F (-1 : Int32) dX11_said_73 (by decide) ?_
        refine b_ne F 81 dX11_said_74 (by decide) rfl ic_m1 (fun c5 => ?_) (fun c5 => ?_)
        · refine a_ic F (-1 : Int32) dX11_said_81 (by decide) ?_
          exact a_reti F hr hlocks hP hD hS dX11_said_82 ⟨hR, hF⟩
        · refine lv_iload_n F.1 F.2.1 dX11_said_77 rfl (lv_at hl 2 rfl) ?_
          refine lv_goto (tgt := 82) F.1 F.2.1 dX11_said_78 (by decide) ?_
          exact a_reti F hr hlocks hP hD hS dX11_said_82 ⟨hR, hF⟩
      · refine lv_aload_n F.1 F.2.1 dX11_said_32 rfl (lv_at hl 0 rfl) ?_
        refine a_getr F inX11 hP 0 9 tc_0 rfl rfl (by decide) q512 (fun _ h9 => h9) dX11_said_33 ?_
        refine lv_aload_n F.1 F.2.1 dX11_said_36 rfl (lv_at hl 0 rfl) ?_
        refine a_getr F inX11 hP 0 1 tc_0 rfl rfl (by decide) q504 (fun _ h9 => h9) dX11_said_37 ?_
        refine lv_iload_n F.1 F.2.1 dX11_said_40 rfl (lv_at hl 3 rfl) ?_
        refine lv_aload_n F.1 F.2.1 dX11_said_41 rfl (lv_at hl 0 rfl) ?_
        refine a_getr F inX11 hP 0 5 tc_0 rfl rfl (by decide) q508 (fun _ h9 => h9) dX11_said_42 ?_
        refine lv_iload_n F.1 F.2.1 dX11_said_45 rfl (lv_at hl 3 rfl) ?_
        refine a_ic F (0 : Int32) dX11_said_46 (by decide) ?_
        refine a_Vi F hml hl.1 hA hP hD hS (As := [.int x3, .int (0 : Int32)]) (c_X5_statusOf_29 l dC dI ad cA nF _ x3 (0 : Int32) hR (by omega) (by decide)) (cs_RX11_236 (d := 6) F.2.2.1 (by decide)) tc_29 rfl rfl rfl rfl (Nat.le_of_ble_eq_true rfl) dX11_said_47 ⟨Nat.le_refl 0, Nat.le_refl 0⟩ (fun r6 u6 H locs hq hP hD hS => ?_)
        obtain ⟨hR, hF6, gr6⟩ := hq
        have hF := hF.tr hF6 (by decide)
        refine a_Vi F hml hl.1 hA hP hD hS (As := [.ref (ad 4), .int x3, .int r6]) (c_X8_isTrueOf_43_4 l dC dI ad cA nF _ x3 r6 hR (by omega) (by omega)) (cs_RX11_334 (d := 3) F.2.2.1 (by decide)) tc_43 rfl rfl rfl rfl (Nat.le_of_ble_eq_true rfl) dX11_said_50 ⟨Nat.le_refl 0, Nat.le_refl 0⟩ (fun r7 uN7 H locs hq hP hD hS => ?_)
        obtain ⟨hu7, gr7⟩ := hq
        rw [hu7] at hP hD
        refine z_eq F 66 dX11_said_53 (by decide) rfl (fun c8 => ?_) (fun c8 => ?_)
        · exact L66 x2 x3 _ _ _ _ hR hF (by omega) (by omega) (i_trB (hF6 4 6 rfl) (by omega : (1 : Int) ≤ (u.1 4 6).toInt ∧ (u.1 4 6).toInt ≤ 8)) (i_trB (hF6 43 3 rfl) (by omega : (1 : Int) ≤ (u.1 43 3).toInt ∧ (u.1 43 3).toInt ≤ 40)) (by omega) hP hD hS (lv_sub hl [0, 1, 2, 3] rfl)
        · refine lv_iload_n F.1 F.2.1 dX11_said_56 rfl (lv_at hl 2 rfl) ?_
          refine lv_iload_n F.1 F.2.1 dX11_said_57 rfl (lv_at hl 1 rfl) ?_
          refine b_ne F 63 dX11_said_58 (by decide) rfl rfl (fun c9 => ?_) (fun c9 => ?_)
          · refine a_iincU F (k := 2) (fun v10 => [(2, .int v10), (0, .ref (ad 0)), (1, .int p0), (3, .int x3)]) dX11_said_63 hl rfl (by decide) (fun _ => rfl) (fun v10 ls hl => ?_)
            exact L66 v10 x3 _ _ _ _ hR hF (by omega) (by omega) (i_trB (hF6 4 6 rfl) (by omega : (1 : Int) ≤ (u.1 4 6).toInt ∧ (u.1 4 6).toInt ≤ 8)) (i_trB (hF6 43 3 rfl) (by omega : (1 : Int) ≤ (u.1 43 3).toInt ∧ (u.1 43 3).toInt ≤ 40)) (by omega) hP hD hS (lv_sub hl [1, 2, 0, 3] rfl)
          · refine lv_iload_n F.1 F.2.1 dX11_said_61 rfl (lv_at hl 3 rfl) ?_
            exact a_reti F hr hlocks hP hD hS dX11_said_62 ⟨hR, hF⟩
  have L15 : ∀ (u : ac_U) (H : Heap) (locs : List Loc) (ls : Array Slot), ac_R rg u → ac_Fr [(29, some 4), (29, some 5), (29, some 6), (30, none)] u0 u → (0 : Int) ≤ (u.1 43 3).toInt ∧ (u.1 43 3).toInt ≤ 40 → va_P (dC, dI) vwCl (ac_w ad cA (TT nF) u) H → va_D A (ac_w ad cA (TT nF) u) → va_S A s.heap H locs → lv_has ls 4 [] → W p l e (ac_rm 7) s m [.ref (ad 0), .int p0].toArray below meth c H locs 0 0 (MQ below (va_Qi (fun (r : Int32) (u : ac_U) => ac_R rg u ∧ ac_Fr [(29, some 4), (29, some 5), (29, some 6), (30, none)] u0 u) (ac_B (dC, dI) vwCl (ac_ty cA) ad cA (TT nF) A) A) [.ref (ad 0), .int p0].toArray s 0 0 A) (F0 m 15 ls []) := by
    intro u H locs ls hR hF f0 hP hD hS hl
    refine a_ic F (-1 : Int32) dX11_said_15 (by decide) ?_
    exact a_reti F hr hlocks hP hD hS dX11_said_16 ⟨hR, hF⟩
  refine lv_aload_n F.1 F.2.1 dX11_said_0 rfl (lv_at hl 0 rfl) ?_
  refine a_getr F inX11 hP 0 9 tc_0 rfl rfl (by decide) q512 (fun _ h9 => h9) dX11_said_1 ?_
  have g11 : (0 : Int) ≤ (u0.1 43 3).toInt ∧ (u0.1 43 3).toInt ≤ 40 := hR 43 3
  refine a_geti F inX8 hP 43 3 tc_43 rfl rfl (by decide) q444 (fun _ h9 => h9) (v := (u0.1 43 3)) rfl dX11_said_4 ?_
  refine z_eq F 15 dX11_said_7 (by decide) rfl (fun c12 => ?_) (fun c12 => ?_)
  · exact L15 _ _ _ _ hR hF (by omega : (0 : Int) ≤ (u0.1 43 3).toInt ∧ (u0.1 43 3).toInt ≤ 40) hP hD hS (lv_sub hl [] rfl)
  · refine lv_iload_n F.1 F.2.1 dX11_said_10 rfl (lv_at hl 1 rfl) ?_
    refine a_ic F (-1 : Int32) dX11_said_11 (by decide) ?_
    refine b_ge F 17 dX11_said_12 (by decide) rfl ic_m1 (fun c13 => ?_) (fun c13 => ?_)
    · refine a_ic F (0 : Int32) dX11_said_17 (by decide) ?_
      refine lv_istore_n (lv' := [(2, .int (0 : Int32)), (0, .ref (ad 0)), (1, .int p0)]) F.1 F.2.1 dX11_said_18 rfl hl (by decide) rfl (fun ls hl => ?_)
      refine a_ic F (0 : Int32) dX11_said_19 (by decide) ?_
      refine lv_istore_n (lv' := [(3, .int (0 : Int32)), (2, .int (0 : Int32)), (0, .ref (ad 0)), (1, .int p0)]) F.1 F.2.1 dX11_said_20 rfl hl (by decide) rfl (fun ls hl => ?_)
      exact L21 10 (0 : Int32) (0 : Int32) _ _ _ _ hR hF (by decide) (by omega) (by decide) (by omega : (1 : Int) ≤ (u0.1 43 3).toInt ∧ (u0.1 43 3).toInt ≤ 40) hP hD hS (lv_sub hl [2, 3, 1, 0] rfl)
    · exact L15 _ _ _ _ hR hF (by omega : (0 : Int) ≤ (u0.1 43 3).toInt ∧ (u0.1 43 3).toInt ≤ 40) hP hD hS (lv_sub hl [] rfl)
set_option maxHeartbeats 600000 in
set_option maxRecDepth 100000 in
theorem c_X11_say_0 (l : Launch) (dC : Nat → ClassId) (dI : Nat → Nat → Nat) (ad : Nat → Nat) (cA : Nat → ClassId) (nF : Nat) (u0 : ac_U) (p0 : Int32) (p1 : Int32) (hR : ac_R rg u0) : ac_Mi l yX11_say (.code yX11_say cX11_say 4 (some .int) :: TB) 5 (dC, dI) vwCl (ac_ty cA) ad cA (TT nF) [.ref (ad 0), .int p0, .int p1] u0 (fun (r : Int32) (u : ac_U) => ac_R rg u ∧ ac_Fr [(24, some 5), (24, some 6), (25, none), (28, none)] u0 u ∧ ((-1 : Int) ≤ r.toInt ∧ r.toInt ≤ 6)) := by
  refine ac_Mi.of (cc := cX11_say) (maxL := 4) (ret := (some .int)) (by decide) rfl (Nat.le_of_ble_eq_true rfl) ?_
  intro p e s m below meth c A ls F hml hr hlocks hA hP hD hS hl
  have F : ac_X p s m [.ref (ad 0), .int p0, .int p1].toArray c cX11_say RX11 TB (dC, dI) vwCl (ac_ty cA) := ⟨F.1, F.2.1, fun w h => F.2.2.1 w (List.mem_cons_of_mem _ h), F.2.2.2.1, F.2.2.2.2⟩
  have hl : lv_has ls 4 [(0, .ref (ad 0)), (1, .int p0), (2, .int p1)] := hl
  have hF : ac_Fr [(24, some 5), (24, some 6), (25, none), (28, none)] u0 u0 := ac_Fr.rf
  have L55 : ∀ (x3 : Int32) (u : ac_U) (H : Heap) (locs : List Loc) (ls : Array Slot), ac_R rg u → ac_Fr [(24, some 5), (24, some 6), (25, none), (28, none)] u0 u → (0 : Int) ≤ x3.toInt ∧ x3.toInt ≤ 6 → va_P (dC, dI) vwCl (ac_w ad cA (TT nF) u) H → va_D A (ac_w ad cA (TT nF) u) → va_S A s.heap H locs → lv_has ls 4 [(3, .int x3)] → W p l e (ac_rm 5) s m [.ref (ad 0), .int p0, .int p1].toArray below meth c H locs 0 0 (MQ below (va_Qi (fun (r : Int32) (u : ac_U) => ac_R rg u ∧ ac_Fr [(24, some 5), (24, some 6), (25, none), (28, none)] u0 u ∧ ((-1 : Int) ≤ r.toInt ∧ r.toInt ≤ 6)) (ac_B (dC, dI) vwCl (ac_ty cA) ad cA (TT nF) A) A) [.ref (ad 0), .int p0, .int p1].toArray s 0 0 A) (F0 m 55 ls []) := by
    intro x3 u H locs ls hR hF f0 hP hD hS hl
    refine lv_iload_n F.1 F.2.1 dX11_say_55 rfl (lv_at hl 0 rfl) ?_
    exact a_reti F hr hlocks hP hD hS dX11_say_56 ⟨hR, hF, (by omega : (-1 : Int) ≤ x3.toInt ∧ x3.toInt ≤ 6)⟩
  have L22 : ∀ (u : ac_U) (H : Heap) (locs : List Loc) (ls : Array Slot), ac_R rg u → ac_Fr [(24, some 5), (24, some 6), (25, none), (28, none)] u0 u → va_P (dC, dI) vwCl (ac_w ad cA (TT nF) u) H → va_D A (ac_w ad cA (TT nF) u) → va_S A s.heap H locs → lv_has ls 4 [] → W p l e (ac_rm 5) s m [.ref (ad 0), .int p0, .int p1].toArray below meth c H locs 0 0 (MQ below (va_Qi (fun (r : Int32) (u : ac_U) => ac_R rg u ∧ ac_Fr [(24, some 5), (24, some 6), (25, none), (28, none)] u0 u ∧ ((-1 : Int) ≤ r.toInt ∧ r.toInt ≤ 6)) (ac_B (dC, dI) vwCl (ac_ty cA) ad cA (TT nF) A) A) [.ref (ad 0), .int p0, .int p1].toArray s 0 0 A) (F0 m 22 ls []) := by
    intro u H locs ls hR hF hP hD hS hl
    refine a_ic F (-1 : Int32) dX11_say_22 (by decide) ?_
    exact a_reti F hr hlocks hP hD hS dX11_say_23 ⟨hR, hF, (by decide)⟩
  refine lv_aload_n F.1 F.2.1 dX11_say_0 rfl (lv_at hl 0 rfl) ?_
  refine a_getr F inX11 hP 0 1 tc_0 rfl rfl (by decide) q504 (fun _ h9 => h9) dX11_say_1 ?_
  refine lv_iload_n F.1 F.2.1 dX11_say_4 rfl (lv_at hl 1 rfl) ?_
  refine a_Vi F hml hl.1 hA hP hD hS (As := [.int p0]) (c_X2_isPerson_4 l dC dI ad cA nF _ p0 hR) (cs_RX11_159 (d := 1) F.2.2.1 (by decide)) tc_4 rfl rfl rfl rfl (Nat.le_of_ble_eq_true rfl) dX11_say_5 ⟨Nat.le_refl 0, Nat.le_refl 0⟩ (fun r1 uN1 H locs hq hP hD hS => ?_)
  obtain ⟨hu1, gr1, xr1⟩ := hq
  rw [hu1] at hP hD
  have g2 : (0 : Int) ≤ (u0.1 4 4).toInt ∧ (u0.1 4 4).toInt ≤ 4 := hR 4 4
  have xr1 : r1.toInt ≠ 0 → 0 ≤ p0.toInt ∧ p0.toInt < (u0.1 4 4).toInt ∧ p0.toInt ≤ 3 := xr1
  refine z_eq F 22 dX11_say_8 (by decide) rfl (fun c3 => ?_) (fun c3 => ?_)
  · exact L22 _ _ _ _ hR hF hP hD hS (lv_sub hl [] rfl)
  · refine lv_aload_n F.1 F.2.1 dX11_say_11 rfl (lv_at hl 0 rfl) ?_
    refine a_getr F inX11 hP 0 1 tc_0 rfl rfl (by decide) q504 (fun _ h9 => h9) dX11_say_12 ?_
    refine lv_iload_n F.1 F.2.1 dX11_say_15 rfl (lv_at hl 2 rfl) ?_
    refine a_Vi F hml hl.1 hA hP hD hS (As := [.int p1]) (c_X2_isPromise_4 l dC dI ad cA nF _ p1 hR) (cs_RX11_141 (d := 1) F.2.2.1 (by decide)) tc_4 rfl rfl rfl rfl (Nat.le_of_ble_eq_true rfl) dX11_say_16 ⟨Nat.le_refl 0, Nat.le_refl 0⟩ (fun r4 uN4 H locs hq hP hD hS => ?_)
    obtain ⟨hu4, gr4, xr4⟩ := hq
    rw [hu4] at hP hD
    have g5 : (0 : Int) ≤ (u0.1 4 6).toInt ∧ (u0.1 4 6).toInt ≤ 8 := hR 4 6
    have xr4 : r4.toInt ≠ 0 → 0 ≤ p1.toInt ∧ p1.toInt < (u0.1 4 6).toInt ∧ p1.toInt ≤ 7 := xr4
    refine z_ne F 24 dX11_say_19 (by decide) rfl (fun c6 => ?_) (fun c6 => ?_)
    · refine lv_aload_n F.1 F.2.1 dX11_say_24 rfl (lv_at hl 0 rfl) ?_
      refine a_getr F inX11 hP 0 4 tc_0 rfl rfl (by decide) q507 (fun _ h9 => h9) dX11_say_25 ?_
      refine lv_iload_n F.1 F.2.1 dX11_say_28 rfl (lv_at hl 1 rfl) ?_
      refine lv_iload_n F.1 F.2.1 dX11_say_29 rfl (lv_at hl 2 rfl) ?_
      refine a_Vi F hml hl.1 hA hP hD hS (As := [.int p0, .int p1]) (c_X6_whyNotSay_24 l dC dI ad cA nF _ p0 p1 hR (by omega) (by omega)) (cs_RX11_215 (d := 3) F.2.2.1 (by decide)) tc_24 rfl rfl rfl rfl (Nat.le_of_ble_eq_true rfl) dX11_say_30 ⟨Nat.le_refl 0, Nat.le_refl 0⟩ (fun r7 uN7 H locs hq hP hD hS => ?_)
      obtain ⟨hu7, gr7⟩ := hq
      rw [hu7] at hP hD
      refine lv_istore_n (lv' := [(3, .int r7), (0, .ref (ad 0)), (1, .int p0), (2, .int p1)]) F.1 F.2.1 dX11_say_33 rfl hl (by decide) rfl (fun ls hl => ?_)
      refine lv_iload_n F.1 F.2.1 dX11_say_34 rfl (lv_at hl 0 rfl) ?_
      refine z_ne F 55 dX11_say_35 (by decide) rfl (fun c8 => ?_) (fun c8 => ?_)
      · exact L55 r7 _ _ _ _ hR hF (by omega) hP hD hS (lv_sub hl [0] rfl)
      · refine lv_aload_n F.1 F.2.1 dX11_say_38 rfl (lv_at hl 1 rfl) ?_
        refine a_getr F inX11 hP 0 4 tc_0 rfl rfl (by decide) q507 (fun _ h9 => h9) dX11_say_39 ?_
        refine a_Vv F hml hl.1 hA hP hD hS (As := []) (c_X6_remember_24 l dC dI ad cA nF _  hR) (cs_RX11_200 (d := 1) F.2.2.1 (by decide)) tc_24 rfl rfl rfl rfl (Nat.le_of_ble_eq_true rfl) dX11_say_42 ⟨Nat.le_refl 0, Nat.le_refl 0⟩ (fun u9 H locs hq hP hD hS => ?_)
        obtain ⟨hR, hF9⟩ := hq
        have hF := hF.tr hF9 (by decide)
        refine lv_aload_n F.1 F.2.1 dX11_say_45 rfl (lv_at hl 1 rfl) ?_
        refine a_getr F inX11 hP 0 4 tc_0 rfl rfl (by decide) q507 (fun _ h9 => h9) dX11_say_46 ?_
        refine lv_iload_n F.1 F.2.1 dX11_say_49 rfl (lv_at hl 2 rfl) ?_
        refine lv_iload_n F.1 F.2.1 dX11_say_50 rfl (lv_at hl 3 rfl) ?_
        refine a_Vi F hml hl.1 hA hP hD hS (As := [.int p0, .int p1]) (c_X6_trySay_24 l dC dI ad cA nF _ p0 p1 hR (by omega) (by omega)) (cs_RX11_218 (d := 4) F.2.2.1 (by decide)) tc_24 rfl rfl rfl rfl (Nat.le_of_ble_eq_true rfl) dX11_say_51 ⟨Nat.le_refl 0, Nat.le_refl 0⟩ (fun r10 u10 H locs hq hP hD hS => ?_)
        obtain ⟨hR, hF10, gr10⟩ := hq
        have hF := hF.tr hF10 (by decide)
        refine lv_pop F.1 F.2.1 dX11_say_54 rfl ?_
        exact L55 r7 _ _ _ _ hR hF (by omega) hP hD hS (lv_sub hl [0] rfl)
    · exact L22 _ _ _ _ hR hF hP hD hS (lv_sub hl [] rfl)
set_option maxHeartbeats 600000 in
set_option maxRecDepth 100000 in
theorem c_X11_shortest_0 (l : Launch) (dC : Nat → ClassId) (dI : Nat → Nat → Nat) (ad : Nat → Nat) (cA : Nat → ClassId) (nF : Nat) (u0 : ac_U) (p0 : Int32) (p1 : Int32) (p2 : Int32) (hR : ac_R rg u0) : ac_Mi l yX11_shortest (.code yX11_shortest cX11_shortest 4 (some .int) :: TB) 4 (dC, dI) vwCl (ac_ty cA) ad cA (TT nF) [.ref (ad 0), .int p0, .int p1, .int p2] u0 (fun (r : Int32) (u : ac_U) => ac_R rg u ∧ ac_Fr [(31, none)] u0 u ∧ ((-1 : Int) ≤ r.toInt ∧ r.toInt ≤ 2447)) := by
  refine ac_Mi.of (cc := cX11_shortest) (maxL := 4) (ret := (some .int)) (by decide) rfl (Nat.le_of_ble_eq_true rfl) ?_
  intro p e s m below meth c A ls F hml hr hlocks hA hP hD hS hl
  have F : ac_X p s m [.ref (ad 0), .int p0, .int p1, .int p2].toArray c cX11_shortest RX11 TB (dC, dI) vwCl (ac_ty cA) := ⟨F.1, F.2.1, fun w h => F.2.2.1 w (List.mem_cons_of_mem _ h), F.2.2.2.1, F.2.2.2.2⟩
  have hl : lv_has ls 4 [(0, .ref (ad 0)), (1, .int p0), (2, .int p1), (3, .int p2)] := hl
  have hF : ac_Fr [(31, none)] u0 u0 := ac_Fr.rf
  have L33 : ∀ (u : ac_U) (H : Heap) (locs : List Loc) (ls : Array Slot), ac_R rg u → ac_Fr [(31, none)] u0 u → va_P (dC, dI) vwCl (ac_w ad cA (TT nF) u) H → va_D A (ac_w ad cA (TT nF) u) → va_S A s.heap H locs → lv_has ls 4 [] → W p l e (ac_rm 4) s m [.ref (ad 0), .int p0, .int p1, .int p2].toArray below meth c H locs 0 0 (MQ below (va_Qi (fun (r : Int32) (u : ac_U) => ac_R rg u ∧ ac_Fr [(31, none)] u0 u ∧ ((-1 : Int) ≤ r.toInt ∧ r.toInt ≤ 2447)) (ac_B (dC, dI) vwCl (ac_ty cA) ad cA (TT nF) A) A) [.ref (ad 0), .int p0, .int p1, .int p2].toArray s 0 0 A) (F0 m 33 ls []) := by
    intro u H locs ls hR hF hP hD hS hl
    refine a_ic F (-1 : Int32) dX11_shortest_33 (by decide) ?_
    exact a_reti F hr hlocks hP hD hS dX11_shortest_34 ⟨hR, hF, (by decide)⟩
  refine lv_aload_n F.1 F.2.1 dX11_shortest_0 rfl (lv_at hl 0 rfl) ?_
  refine a_getr F inX11 hP 0 1 tc_0 rfl rfl (by decide) q504 (fun _ h9 => h9) dX11_shortest_1 ?_
  refine lv_iload_n F.1 F.2.1 dX11_shortest_4 rfl (lv_at hl 1 rfl) ?_
  refine a_Vi F hml hl.1 hA hP hD hS (As := [.int p0]) (c_X2_isPerson_4 l dC dI ad cA nF _ p0 hR) (cs_RX11_159 (d := 1) F.2.2.1 (by decide)) tc_4 rfl rfl rfl rfl (Nat.le_of_ble_eq_true rfl) dX11_shortest_5 ⟨Nat.le_refl 0, Nat.le_refl 0⟩ (fun r1 uN1 H locs hq hP hD hS => ?_)
  obtain ⟨hu1, gr1, xr1⟩ := hq
  rw [hu1] at hP hD
  have g2 : (0 : Int) ≤ (u0.1 4 4).toInt ∧ (u0.1 4 4).toInt ≤ 4 := hR 4 4
  have xr1 : r1.toInt ≠ 0 → 0 ≤ p0.toInt ∧ p0.toInt < (u0.1 4 4).toInt ∧ p0.toInt ≤ 3 := xr1
  refine z_eq F 33 dX11_shortest_8 (by decide) rfl (fun c3 => ?_) (fun c3 => ?_)
  · exact L33 _ _ _ _ hR hF hP hD hS (lv_sub hl [] rfl)
  · refine lv_aload_n F.1 F.2.1 dX11_shortest_11 rfl (lv_at hl 0 rfl) ?_
    refine a_getr F inX11 hP 0 1 tc_0 rfl rfl (by decide) q504 (fun _ h9 => h9) dX11_shortest_12 ?_
    refine lv_iload_n F.1 F.2.1 dX11_shortest_15 rfl (lv_at hl 2 rfl) ?_
    refine a_Vi F hml hl.1 hA hP hD hS (As := [.int p1]) (c_X2_isDeed_4 l dC dI ad cA nF _ p1 hR) (cs_RX11_206 (d := 1) F.2.2.1 (by decide)) tc_4 rfl rfl rfl rfl (Nat.le_of_ble_eq_true rfl) dX11_shortest_16 ⟨Nat.le_refl 0, Nat.le_refl 0⟩ (fun r4 uN4 H locs hq hP hD hS => ?_)
    obtain ⟨hu4, gr4, xr4⟩ := hq
    rw [hu4] at hP hD
    have g5 : (0 : Int) ≤ (u0.1 4 5).toInt ∧ (u0.1 4 5).toInt ≤ 6 := hR 4 5
    have xr4 : r4.toInt ≠ 0 → 0 ≤ p1.toInt ∧ p1.toInt < (u0.1 4 5).toInt ∧ p1.toInt ≤ 5 := xr4
    refine z_eq F 33 dX11_shortest_19 (by decide) rfl (fun c6 => ?_) (fun c6 => ?_)
    · exact L33 _ _ _ _ hR hF hP hD hS (lv_sub hl [] rfl)
    · refine lv_aload_n F.1 F.2.1 dX11_shortest_22 rfl (lv_at hl 0 rfl) ?_
      refine a_getr F inX11 hP 0 1 tc_0 rfl rfl (by decide) q504 (fun _ h9 => h9) dX11_shortest_23 ?_
      refine lv_iload_n F.1 F.2.1 dX11_shortest_26 rfl (lv_at hl 3 rfl) ?_
      refine a_Vi F hml hl.1 hA hP hD hS (As := [.int p2]) (c_X2_isPlace_4 l dC dI ad cA nF _ p2 hR) (cs_RX11_165 (d := 1) F.2.2.1 (by decide)) tc_4 rfl rfl rfl rfl (Nat.le_of_ble_eq_true rfl) dX11_shortest_27 ⟨Nat.le_refl 0, Nat.le_refl 0⟩ (fun r7 uN7 H locs hq hP hD hS => ?_)
      obtain ⟨hu7, gr7, xr7⟩ := hq
      rw [hu7] at hP hD
      have g8 : (0 : Int) ≤ (u0.1 4 1).toInt ∧ (u0.1 4 1).toInt ≤ 8 := hR 4 1
      have xr7 : r7.toInt ≠ 0 → 0 ≤ p2.toInt ∧ p2.toInt < (u0.1 4 1).toInt ∧ p2.toInt ≤ 7 := xr7
      refine z_ne F 35 dX11_shortest_30 (by decide) rfl (fun c9 => ?_) (fun c9 => ?_)
      · refine lv_aload_n F.1 F.2.1 dX11_shortest_35 rfl (lv_at hl 0 rfl) ?_
        refine a_getr F inX11 hP 0 5 tc_0 rfl rfl (by decide) q508 (fun _ h9 => h9) dX11_shortest_36 ?_
        refine lv_iload_n F.1 F.2.1 dX11_shortest_39 rfl (lv_at hl 1 rfl) ?_
        refine lv_iload_n F.1 F.2.1 dX11_shortest_40 rfl (lv_at hl 2 rfl) ?_
        refine lv_iload_n F.1 F.2.1 dX11_shortest_41 rfl (lv_at hl 3 rfl) ?_
        refine a_Vi F hml hl.1 hA hP hD hS (As := [.int p0, .int p1, .int p2]) (c_X5_shortestWindow_29 l dC dI ad cA nF _ p0 p1 p2 hR (by omega) (by omega) (by omega)) (cs_RX11_285 (d := 3) F.2.2.1 (by decide)) tc_29 rfl rfl rfl rfl (Nat.le_of_ble_eq_true rfl) dX11_shortest_42 ⟨Nat.le_refl 0, Nat.le_refl 0⟩ (fun r10 u10 H locs hq hP hD hS => ?_)
        obtain ⟨hR, hF10, gr10⟩ := hq
        have hF := hF.tr hF10 (by decide)
        exact a_reti F hr hlocks hP hD hS dX11_shortest_45 ⟨hR, hF, (by omega : (-1 : Int) ≤ r10.toInt ∧ r10.toInt ≤ 2447)⟩
      · exact L33 _ _ _ _ hR hF hP hD hS (lv_sub hl [] rfl)
set_option maxHeartbeats 600000 in
set_option maxRecDepth 100000 in
theorem c_X11_status_0 (l : Launch) (dC : Nat → ClassId) (dI : Nat → Nat → Nat) (ad : Nat → Nat) (cA : Nat → ClassId) (nF : Nat) (u0 : ac_U) (p0 : Int32) (p1 : Int32) (hR : ac_R rg u0) : ac_Mi l yX11_status (.code yX11_status cX11_status 3 (some .int) :: TB) 7 (dC, dI) vwCl (ac_ty cA) ad cA (TT nF) [.ref (ad 0), .int p0, .int p1] u0 (fun (r : Int32) (u : ac_U) => ac_R rg u ∧ ac_Fr [(29, some 4), (29, some 5), (29, some 6), (30, none)] u0 u ∧ ((-1 : Int) ≤ r.toInt ∧ r.toInt ≤ 4)) := by
  refine ac_Mi.of (cc := cX11_status) (maxL := 3) (ret := (some .int)) (by decide) rfl (Nat.le_of_ble_eq_true rfl) ?_
  intro p e s m below meth c A ls F hml hr hlocks hA hP hD hS hl
  have F : ac_X p s m [.ref (ad 0), .int p0, .int p1].toArray c cX11_status RX11 TB (dC, dI) vwCl (ac_ty cA) := ⟨F.1, F.2.1, fun w h => F.2.2.1 w (List.mem_cons_of_mem _ h), F.2.2.2.1, F.2.2.2.2⟩
  have hl : lv_has ls 3 [(0, .ref (ad 0)), (1, .int p0), (2, .int p1)] := hl
  have hF : ac_Fr [(29, some 4), (29, some 5), (29, some 6), (30, none)] u0 u0 := ac_Fr.rf
  have L18 : ∀ (u : ac_U) (H : Heap) (locs : List Loc) (ls : Array Slot), ac_R rg u → ac_Fr [(29, some 4), (29, some 5), (29, some 6), (30, none)] u0 u → va_P (dC, dI) vwCl (ac_w ad cA (TT nF) u) H → va_D A (ac_w ad cA (TT nF) u) → va_S A s.heap H locs → lv_has ls 3 [] → W p l e (ac_rm 7) s m [.ref (ad 0), .int p0, .int p1].toArray below meth c H locs 0 0 (MQ below (va_Qi (fun (r : Int32) (u : ac_U) => ac_R rg u ∧ ac_Fr [(29, some 4), (29, some 5), (29, some 6), (30, none)] u0 u ∧ ((-1 : Int) ≤ r.toInt ∧ r.toInt ≤ 4)) (ac_B (dC, dI) vwCl (ac_ty cA) ad cA (TT nF) A) A) [.ref (ad 0), .int p0, .int p1].toArray s 0 0 A) (F0 m 18 ls []) := by
    intro u H locs ls hR hF hP hD hS hl
    refine a_ic F (-1 : Int32) dX11_status_18 (by decide) ?_
    exact a_reti F hr hlocks hP hD hS dX11_status_19 ⟨hR, hF, (by decide)⟩
  refine lv_aload_n F.1 F.2.1 dX11_status_0 rfl (lv_at hl 0 rfl) ?_
  refine a_getr F inX11 hP 0 1 tc_0 rfl rfl (by decide) q504 (fun _ h9 => h9) dX11_status_1 ?_
  refine lv_iload_n F.1 F.2.1 dX11_status_4 rfl (lv_at hl 1 rfl) ?_
  refine a_Vi F hml hl.1 hA hP hD hS (As := [.int p0]) (c_X2_isPromise_4 l dC dI ad cA nF _ p0 hR) (cs_RX11_141 (d := 1) F.2.2.1 (by decide)) tc_4 rfl rfl rfl rfl (Nat.le_of_ble_eq_true rfl) dX11_status_5 ⟨Nat.le_refl 0, Nat.le_refl 0⟩ (fun r1 uN1 H locs hq hP hD hS => ?_)
  obtain ⟨hu1, gr1, xr1⟩ := hq
  rw [hu1] at hP hD
  have g2 : (0 : Int) ≤ (u0.1 4 6).toInt ∧ (u0.1 4 6).toInt ≤ 8 := hR 4 6
  have xr1 : r1.toInt ≠ 0 → 0 ≤ p0.toInt ∧ p0.toInt < (u0.1 4 6).toInt ∧ p0.toInt ≤ 7 := xr1
  refine z_eq F 18 dX11_status_8 (by decide) rfl (fun c3 => ?_) (fun c3 => ?_)
  · exact L18 _ _ _ _ hR hF hP hD hS (lv_sub hl [] rfl)
  · refine lv_iload_n F.1 F.2.1 dX11_status_11 rfl (lv_at hl 2 rfl) ?_
    refine a_Si F hml hl.1 hA hP hD hS (As := [.int p1]) (c_X11_isReading l dC dI ad cA nF _ p1 hR) (cs_RX11_233 (d := 1) F.2.2.1 (by decide)) rfl rfl (Nat.le_of_ble_eq_true rfl) dX11_status_12 ⟨Nat.le_refl 0, Nat.le_refl 0⟩ (fun r4 uN4 H locs hq hP hD hS => ?_)
    obtain ⟨hu4, gr4, xr4⟩ := hq
    rw [hu4] at hP hD
    have xr4 : r4.toInt ≠ 0 → 0 ≤ p1.toInt ∧ p1.toInt ≤ 7 := xr4
    refine z_ne F 20 dX11_status_15 (by decide) rfl (fun c5 => ?_) (fun c5 => ?_)
    · refine lv_aload_n F.1 F.2.1 dX11_status_20 rfl (lv_at hl 0 rfl) ?_
      refine a_getr F inX11 hP 0 5 tc_0 rfl rfl (by decide) q508 (fun _ h9 => h9) dX11_status_21 ?_
      refine lv_iload_n F.1 F.2.1 dX11_status_24 rfl (lv_at hl 1 rfl) ?_
      refine lv_iload_n F.1 F.2.1 dX11_status_25 rfl (lv_at hl 2 rfl) ?_
      refine a_Vi F hml hl.1 hA hP hD hS (As := [.int p0, .int p1]) (c_X5_statusOf_29 l dC dI ad cA nF _ p0 p1 hR (by omega) (by omega)) (cs_RX11_236 (d := 6) F.2.2.1 (by decide)) tc_29 rfl rfl rfl rfl (Nat.le_of_ble_eq_true rfl) dX11_status_26 ⟨Nat.le_refl 0, Nat.le_refl 0⟩ (fun r6 u6 H locs hq hP hD hS => ?_)
      obtain ⟨hR, hF6, gr6⟩ := hq
      have hF := hF.tr hF6 (by decide)
      exact a_reti F hr hlocks hP hD hS dX11_status_29 ⟨hR, hF, (by omega : (-1 : Int) ≤ r6.toInt ∧ r6.toInt ≤ 4)⟩
    · exact L18 _ _ _ _ hR hF hP hD hS (lv_sub hl [] rfl)

set_option maxHeartbeats 600000 in
set_option maxRecDepth 100000 in
theorem c_X12_readings_85 (l : Launch) (dC : Nat → ClassId) (dI : Nat → Nat → Nat) (ad : Nat → Nat) (cA : Nat → ClassId) (nF : Nat) (u0 : ac_U) (p0 : Int32) (p1 : Int32) (hR : ac_R rg u0) : ac_Mi l yX12_readings (.code yX12_readings cX12_readings 5 (some .int) :: TB) 7 (dC, dI) vwCl (ac_ty cA) ad cA (TT nF) [.ref (ad 85), .int p0, .int p1] u0 (fun (r : Int32) (u : ac_U) => ac_R rg u ∧ ac_Fr [(85, some 0)] u0 u) := by
  refine ac_Mi.of (cc := cX12_readings) (maxL := 5) (ret := (some .int)) (by decide) rfl (Nat.le_of_ble_eq_true rfl) ?_
  intro p e s m below meth c A ls F hml hr hlocks hA hP hD hS hl
  have F : ac_X p s m [.ref (ad 85), .int p0, .int p1].toArray c cX12_readings RX12 TB (dC, dI) vwCl (ac_ty cA) := ⟨F.1, F.2.1, fun w h => F.2.2.1 w (List.mem_cons_of_mem _ h), F.2.2.2.1, F.2.2.2.2⟩
  have hl : lv_has ls 5 [(0, .ref (ad 85)), (1, .int p0), (2, .int p1)] := hl
  have hF : ac_Fr [(85, some 0)] u0 u0 := ac_Fr.rf
  have L29 : ∀ (n29 : Nat) (x1 : Int32) (x2 : Int32) (x3 : Int32) (x4 : Int32) (u : ac_U) (H : Heap) (locs : List Loc) (ls : Array Slot), ac_R rg u → ac_Fr [(85, some 0)] u0 u → 8 - x4.toInt < (n29 : Int) → (0 : Int) ≤ x1.toInt ∧ x1.toInt ≤ 7 → (0 : Int) ≤ x2.toInt ∧ x2.toInt ≤ 4 → (0 : Int) ≤ x4.toInt ∧ x4.toInt ≤ 8 → (0 : Int) ≤ (u.1 85 0).toInt ∧ (u.1 85 0).toInt ≤ 0 → va_P (dC, dI) vwCl (ac_w ad cA (TT nF) u) H → va_D A (ac_w ad cA (TT nF) u) → va_S A s.heap H locs → lv_has ls 5 [(0, .ref (ad 85)), (1, .int x1), (2, .int x2), (3, .int x3), (4, .int x4)] → W p l e (ac_rm 7) s m [.ref (ad 85), .int p0, .int p1].toArray below meth c H locs 0 0 (MQ below (va_Qi (fun (r : Int32) (u : ac_U) => ac_R rg u ∧ ac_Fr [(85, some 0)] u0 u) (ac_B (dC, dI) vwCl (ac_ty cA) ad cA (TT nF) A) A) [.ref (ad 85), .int p0, .int p1].toArray s 0 0 A) (F0 m 29 ls []) := by
    intro n29
    induction n29 with
    | zero => intro x1 x2 x3 x4 u H locs ls hR hF hn29 f0 f1 f2 f3 hP hD hS hl; exfalso; omega
    | succ n29 ih29 =>
      intro x1 x2 x3 x4 u H locs ls hR hF hn29 f0 f1 f2 f3 hP hD hS hl
      have L56 : ∀ (x1 : Int32) (x2 : Int32) (x4 : Int32) (z0 : Int32) (z1 : Int32) (u : ac_U) (H : Heap) (locs : List Loc) (ls : Array Slot), ac_R rg u → ac_Fr [(85, some 0)] u0 u → (0 : Int) ≤ x1.toInt ∧ x1.toInt ≤ 7 → (0 : Int) ≤ x2.toInt ∧ x2.toInt ≤ 4 → (0 : Int) ≤ x4.toInt ∧ x4.toInt ≤ 7 → (0 : Int) ≤ z1.toInt ∧ z1.toInt ≤ 128 → (0 : Int) ≤ (u.1 85 0).toInt ∧ (u.1 85 0).toInt ≤ 0 → 8 - x4.toInt + 0 < ((n29 : Nat) : Int) + 1 → va_P (dC, dI) vwCl (ac_w ad cA (TT nF) u) H → va_D A (ac_w ad cA (TT nF) u) → va_S A s.heap H locs → lv_has ls 5 [(0, .ref (ad 85)), (1, .int x1), (2, .int x2), (4, .int x4)] → W p l e (ac_rm 7) s m [.ref (ad 85), .int p0, .int p1].toArray below meth c H locs 0 0 (MQ below (va_Qi (fun (r : Int32) (u : ac_U) => ac_R rg u ∧ ac_Fr [(85, some 0)] u0 u) (ac_B (dC, dI) vwCl (ac_ty cA) ad cA (TT nF) A) A) [.ref (ad 85), .int p0, .int p1].toArray s 0 0 A) (F0 m 56 ls [.int z1, .int z0]) := by
        intro x1 x2 x4 z0 z1 u H locs ls hR hF f0 f1 f2 f3 f4 f5 hP hD hS hl
        refine a_iorU F dX12_readings_56 (fun v1 => ?_)
        refine lv_istore_n (lv' := [(3, .int v1), (0, .ref (ad 85)), (1, .int x1), (2, .int x2), (4, .int x4)]) F.1 F.2.1 dX12_readings_57 rfl hl (by decide) rfl (fun ls hl => ?_)
        refine a_iinc F (k := 4) (fun v2 => [(4, .int v2), (3, .int v1), (0, .ref (ad 85)), (1, .int x1), (2, .int x2)]) dX12_readings_58 hl rfl rfl (by decide) (by omega) (by decide) (fun _ => rfl) (fun v2 ls hv2 hl => ?_)
        refine lv_goto (tgt := 29) F.1 F.2.1 dX12_readings_61 (by decide) ?_
        have g3 : (0 : Int) ≤ (u.1 85 0).toInt ∧ (u.1 85 0).toInt ≤ 1 := hR 85 0
        exact ih29 x1 x2 v1 v2 _ _ _ _ hR hF (by omega) (by omega) (by omega) (by omega) (by omega : (0 : Int) ≤ (u.1 85 0).toInt ∧ (u.1 85 0).toInt ≤ 0) hP hD hS (lv_sub hl [2, 3, 4, 1, 0] rfl)
      refine lv_iload F.1 F.2.1 dX12_readings_29 (lv_at hl 4 rfl) ?_
      refine a_bp F (8 : Int32) dX12_readings_31 (by decide) ?_
      refine b_ge F 64 dX12_readings_33 (by decide) rfl ic_8 (fun c4 => ?_) (fun c4 => ?_)
      · refine lv_iload_n F.1 F.2.1 dX12_readings_64 rfl (lv_at hl 3 rfl) ?_
        exact a_reti F hr hlocks hP hD hS dX12_readings_65 ⟨hR, hF⟩
      · refine lv_iload_n F.1 F.2.1 dX12_readings_36 rfl (lv_at hl 3 rfl) ?_
        refine lv_aload_n F.1 F.2.1 dX12_readings_37 rfl (lv_at hl 0 rfl) ?_
        refine lv_iload_n F.1 F.2.1 dX12_readings_38 rfl (lv_at hl 1 rfl) ?_
        refine lv_iload F.1 F.2.1 dX12_readings_39 (lv_at hl 4 rfl) ?_
        refine a_Vi F hml hl.1 hA hP hD hS (As := [.int x1, .int x4]) (c_X12_statusOf_85 l dC dI ad cA nF _ x1 x4 hR (by omega) (by omega)) (cs_RX12_257 (d := 6) F.2.2.1 (by decide)) tc_85 rfl rfl rfl rfl (Nat.le_of_ble_eq_true rfl) dX12_readings_41 ⟨Nat.le_refl 0, Nat.le_refl 0⟩ (fun r5 uN5 H locs hq hP hD hS => ?_)
        obtain ⟨hu5, gr5⟩ := hq
        rw [hu5] at hP hD
        refine lv_iload_n F.1 F.2.1 dX12_readings_44 rfl (lv_at hl 2 rfl) ?_
        refine b_ne F 55 dX12_readings_45 (by decide) rfl rfl (fun c6 => ?_) (fun c6 => ?_)
        · refine a_ic F (0 : Int32) dX12_readings_55 (by decide) ?_
          have g7 : (0 : Int) ≤ (u.1 85 0).toInt ∧ (u.1 85 0).toInt ≤ 1 := hR 85 0
          exact L56 x1 x2 x4 x3 (0 : Int32) _ _ _ _ hR hF (by omega) (by omega) (by omega) (by decide) (by omega : (0 : Int) ≤ (u.1 85 0).toInt ∧ (u.1 85 0).toInt ≤ 0) (by omega) hP hD hS (lv_sub hl [0, 1, 2, 4] rfl)
        · refine a_ic F (1 : Int32) dX12_readings_48 (by decide) ?_
          refine lv_iload F.1 F.2.1 dX12_readings_49 (lv_at hl 4 rfl) ?_
          refine a_ishl1 F dX12_readings_51 rfl (lo := 0) (hi := 7) (by omega) (by decide) (fun v8 hv8 => ?_)
          have hv8 : (1 : Int) ≤ v8.toInt ∧ v8.toInt ≤ 128 := hv8
          refine lv_goto (tgt := 56) F.1 F.2.1 dX12_readings_52 (by decide) ?_
          have g9 : (0 : Int) ≤ (u.1 85 0).toInt ∧ (u.1 85 0).toInt ≤ 1 := hR 85 0
          exact L56 x1 x2 x4 x3 v8 _ _ _ _ hR hF (by omega) (by omega) (by omega) (by omega) (by omega : (0 : Int) ≤ (u.1 85 0).toInt ∧ (u.1 85 0).toInt ≤ 0) (by omega) hP hD hS (lv_sub hl [0, 1, 2, 4] rfl)
  have L22 : ∀ (u : ac_U) (H : Heap) (locs : List Loc) (ls : Array Slot), ac_R rg u → ac_Fr [(85, some 0)] u0 u → (0 : Int) ≤ (u.1 85 0).toInt ∧ (u.1 85 0).toInt ≤ 0 → va_P (dC, dI) vwCl (ac_w ad cA (TT nF) u) H → va_D A (ac_w ad cA (TT nF) u) → va_S A s.heap H locs → lv_has ls 5 [] → W p l e (ac_rm 7) s m [.ref (ad 85), .int p0, .int p1].toArray below meth c H locs 0 0 (MQ below (va_Qi (fun (r : Int32) (u : ac_U) => ac_R rg u ∧ ac_Fr [(85, some 0)] u0 u) (ac_B (dC, dI) vwCl (ac_ty cA) ad cA (TT nF) A) A) [.ref (ad 85), .int p0, .int p1].toArray s 0 0 A) (F0 m 22 ls []) := by
    intro u H locs ls hR hF f0 hP hD hS hl
    refine a_ic F (-1 : Int32) dX12_readings_22 (by decide) ?_
    exact a_reti F hr hlocks hP hD hS dX12_readings_23 ⟨hR, hF⟩
  refine lv_aload_n F.1 F.2.1 dX12_readings_0 rfl (lv_at hl 0 rfl) ?_
  refine a_ic F (0 : Int32) dX12_readings_1 (by decide) ?_
  refine a_puti F inX12 tyX12 tyX12_ok nmX12 hP hD hS 85 0 tc_85 rfl rfl (by decide) q1471 (fun _ h9 => h9) rfl (ty := .int) (tyX12_ok 0 (by decide)) rfl rfl dX12_readings_2 (fun H locs hP hD hS => ?_)
  have hR := hR.si (c := 85) (k := 0) (v := (0 : Int32)) (by rw [ic_0]; exact (by omega : (0 : Int) ≤ (0 : Int) ∧ (0 : Int) ≤ 1))
  have hF := hF.si (c := 85) (k := 0) (v := (0 : Int32)) rfl
  refine lv_aload_n F.1 F.2.1 dX12_readings_5 rfl (lv_at hl 0 rfl) ?_
  refine lv_iload_n F.1 F.2.1 dX12_readings_6 rfl (lv_at hl 1 rfl) ?_
  refine a_Vi F hml hl.1 hA hP hD hS (As := [.int p0]) (c_X12_isPromise_85 l dC dI ad cA nF _ p0 hR) (cs_RX12_244 (d := 2) F.2.2.1 (by decide)) tc_85 rfl rfl rfl rfl (Nat.le_of_ble_eq_true rfl) dX12_readings_7 ⟨Nat.le_refl 0, Nat.le_refl 0⟩ (fun r10 uN10 H locs hq hP hD hS => ?_)
  obtain ⟨hu10, gr10, xr10⟩ := hq
  rw [hu10] at hP hD
  have xr10 : r10.toInt ≠ 0 → 0 ≤ p0.toInt ∧ p0.toInt ≤ 7 := xr10
  refine z_eq F 22 dX12_readings_10 (by decide) rfl (fun c11 => ?_) (fun c11 => ?_)
  · exact L22 _ _ _ _ hR hF (by omega : (0 : Int) ≤ (0 : Int) ∧ (0 : Int) ≤ 0) hP hD hS (lv_sub hl [] rfl)
  · refine lv_iload_n F.1 F.2.1 dX12_readings_13 rfl (lv_at hl 2 rfl) ?_
    refine a_ic F (0 : Int32) dX12_readings_14 (by decide) ?_
    refine a_ic F (4 : Int32) dX12_readings_15 (by decide) ?_
    refine a_Si F hml hl.1 hA hP hD hS (As := [.int p1, .int (0 : Int32), .int (4 : Int32)]) (c_X12_isIn l dC dI ad cA nF _ p1 (0 : Int32) (4 : Int32) hR) (cs_RX12_187 (d := 1) F.2.2.1 (by decide)) rfl rfl (Nat.le_of_ble_eq_true rfl) dX12_readings_16 ⟨Nat.le_refl 0, Nat.le_refl 0⟩ (fun r12 uN12 H locs hq hP hD hS => ?_)
    obtain ⟨hu12, gr12, xr12⟩ := hq
    rw [hu12] at hP hD
    have xr12 : r12.toInt ≠ 0 → (0 : Int) ≤ p1.toInt ∧ p1.toInt ≤ (4 : Int) := xr12
    refine z_ne F 24 dX12_readings_19 (by decide) rfl (fun c13 => ?_) (fun c13 => ?_)
    · refine a_ic F (0 : Int32) dX12_readings_24 (by decide) ?_
      refine lv_istore_n (lv' := [(3, .int (0 : Int32)), (0, .ref (ad 85)), (1, .int p0), (2, .int p1)]) F.1 F.2.1 dX12_readings_25 rfl hl (by decide) rfl (fun ls hl => ?_)
      refine a_ic F (0 : Int32) dX12_readings_26 (by decide) ?_
      refine lv_istore (lv' := [(4, .int (0 : Int32)), (3, .int (0 : Int32)), (0, .ref (ad 85)), (1, .int p0), (2, .int p1)]) F.1 F.2.1 dX12_readings_27 hl (by decide) rfl (fun ls hl => ?_)
      exact L29 10 p0 p1 (0 : Int32) (0 : Int32) _ _ _ _ hR hF (by decide) (by omega) (by omega) (by decide) (by omega : (0 : Int) ≤ (0 : Int) ∧ (0 : Int) ≤ 0) hP hD hS (lv_sub hl [2, 3, 4, 1, 0] rfl)
    · exact L22 _ _ _ _ hR hF (by omega : (0 : Int) ≤ (0 : Int) ∧ (0 : Int) ≤ 0) hP hD hS (lv_sub hl [] rfl)
set_option maxHeartbeats 600000 in
set_option maxRecDepth 100000 in
theorem c_X12_rings_85 (l : Launch) (dC : Nat → ClassId) (dI : Nat → Nat → Nat) (ad : Nat → Nat) (cA : Nat → ClassId) (nF : Nat) (u0 : ac_U)  (hR : ac_R rg u0) : ac_Mi l yX12_rings (.code yX12_rings cX12_rings 3 (some .int) :: TB) 3 (dC, dI) vwCl (ac_ty cA) ad cA (TT nF) [.ref (ad 85)] u0 (fun (r : Int32) (u : ac_U) => ac_R rg u ∧ ac_Fr [(85, some 0)] u0 u) := by
  refine ac_Mi.of (cc := cX12_rings) (maxL := 3) (ret := (some .int)) (by decide) rfl (Nat.le_of_ble_eq_true rfl) ?_
  intro p e s m below meth c A ls F hml hr hlocks hA hP hD hS hl
  have F : ac_X p s m [.ref (ad 85)].toArray c cX12_rings RX12 TB (dC, dI) vwCl (ac_ty cA) := ⟨F.1, F.2.1, fun w h => F.2.2.1 w (List.mem_cons_of_mem _ h), F.2.2.2.1, F.2.2.2.2⟩
  have hl : lv_has ls 3 [(0, .ref (ad 85))] := hl
  have hF : ac_Fr [(85, some 0)] u0 u0 := ac_Fr.rf
  have L9 : ∀ (n9 : Nat) (x1 : Int32) (x2 : Int32) (u : ac_U) (H : Heap) (locs : List Loc) (ls : Array Slot), ac_R rg u → ac_Fr [(85, some 0)] u0 u → 8 - x2.toInt < (n9 : Int) → (0 : Int) ≤ x2.toInt ∧ x2.toInt ≤ 8 → (0 : Int) ≤ (u.1 85 0).toInt ∧ (u.1 85 0).toInt ≤ 0 → va_P (dC, dI) vwCl (ac_w ad cA (TT nF) u) H → va_D A (ac_w ad cA (TT nF) u) → va_S A s.heap H locs → lv_has ls 3 [(0, .ref (ad 85)), (1, .int x1), (2, .int x2)] → W p l e (ac_rm 3) s m [.ref (ad 85)].toArray below meth c H locs 0 0 (MQ below (va_Qi (fun (r : Int32) (u : ac_U) => ac_R rg u ∧ ac_Fr [(85, some 0)] u0 u) (ac_B (dC, dI) vwCl (ac_ty cA) ad cA (TT nF) A) A) [.ref (ad 85)].toArray s 0 0 A) (F0 m 9 ls []) := by
    intro n9
    induction n9 with
    | zero => intro x1 x2 u H locs ls hR hF hn9 f0 f1 hP hD hS hl; exfalso; omega
    | succ n9 ih9 =>
      intro x1 x2 u H locs ls hR hF hn9 f0 f1 hP hD hS hl
      have L74 : ∀ (x1 : Int32) (x2 : Int32) (u : ac_U) (H : Heap) (locs : List Loc) (ls : Array Slot), ac_R rg u → ac_Fr [(85, some 0)] u0 u → (0 : Int) ≤ x2.toInt ∧ x2.toInt ≤ 7 → (0 : Int) ≤ (u.1 85 0).toInt ∧ (u.1 85 0).toInt ≤ 0 → (1 : Int) ≤ (u.1 87 7).toInt ∧ (u.1 87 7).toInt ≤ 8 → 8 - x2.toInt + 0 < ((n9 : Nat) : Int) + 1 → va_P (dC, dI) vwCl (ac_w ad cA (TT nF) u) H → va_D A (ac_w ad cA (TT nF) u) → va_S A s.heap H locs → lv_has ls 3 [(0, .ref (ad 85)), (1, .int x1), (2, .int x2)] → W p l e (ac_rm 3) s m [.ref (ad 85)].toArray below meth c H locs 0 0 (MQ below (va_Qi (fun (r : Int32) (u : ac_U) => ac_R rg u ∧ ac_Fr [(85, some 0)] u0 u) (ac_B (dC, dI) vwCl (ac_ty cA) ad cA (TT nF) A) A) [.ref (ad 85)].toArray s 0 0 A) (F0 m 74 ls []) := by
        intro x1 x2 u H locs ls hR hF f0 f1 f2 f3 hP hD hS hl
        refine a_iinc F (k := 2) (fun v1 => [(2, .int v1), (0, .ref (ad 85)), (1, .int x1)]) dX12_rings_74 hl rfl rfl (by decide) (by omega) (by decide) (fun _ => rfl) (fun v1 ls hv1 hl => ?_)
        refine lv_goto (tgt := 9) F.1 F.2.1 dX12_rings_77 (by decide) ?_
        have g2 : (0 : Int) ≤ (u.1 85 0).toInt ∧ (u.1 85 0).toInt ≤ 1 := hR 85 0
        exact ih9 x1 v1 _ _ _ _ hR hF (by omega) (by omega) (by omega : (0 : Int) ≤ (u.1 85 0).toInt ∧ (u.1 85 0).toInt ≤ 0) hP hD hS (lv_sub hl [1, 2, 0] rfl)
      refine lv_iload_n F.1 F.2.1 dX12_rings_9 rfl (lv_at hl 2 rfl) ?_
      refine lv_aload_n F.1 F.2.1 dX12_rings_10 rfl (lv_at hl 0 rfl) ?_
      refine a_getr F inX12 hP 85 6 tc_85 rfl rfl (by decide) q1477 (fun _ h9 => h9) dX12_rings_11 ?_
      refine a_bp F (7 : Int32) dX12_rings_14 (by decide) ?_
      have g3 : (0 : Int) ≤ (u.1 87 7).toInt ∧ (u.1 87 7).toInt ≤ 8 := hR 87 7
      refine a_ialdK F hP 87 7 tc_87 rfl rfl (i_in ic_7 (by omega)) (v := (u.1 87 7)) rfl dX12_rings_16 ?_
      refine b_ge F 80 dX12_rings_17 (by decide) rfl rfl (fun c4 => ?_) (fun c4 => ?_)
      · refine lv_iload_n F.1 F.2.1 dX12_rings_80 rfl (lv_at hl 1 rfl) ?_
        exact a_reti F hr hlocks hP hD hS dX12_rings_81 ⟨hR, hF⟩
      · refine lv_aload_n F.1 F.2.1 dX12_rings_20 rfl (lv_at hl 0 rfl) ?_
        refine lv_aload_n F.1 F.2.1 dX12_rings_21 rfl (lv_at hl 0 rfl) ?_
        refine a_getr F inX12 hP 85 6 tc_85 rfl rfl (by decide) q1477 (fun _ h9 => h9) dX12_rings_22 ?_
        refine a_bp F (90 : Int32) dX12_rings_25 (by decide) ?_
        refine lv_iload_n F.1 F.2.1 dX12_rings_27 rfl (lv_at hl 2 rfl) ?_
        refine a_iadd F dX12_rings_28 ic_90 rfl (by omega) (fun v5 hv5 => ?_)
        refine a_iald F hP 87 tc_87 rfl (i_in rfl (by omega)) dX12_rings_29 (fun v6 ev6 => ?_)
        refine a_Vi F hml hl.1 hA hP hD hS (As := [.int v6]) (c_X12_chainOf_85 l dC dI ad cA nF _ v6 hR) (cs_RX12_363 (d := 2) F.2.2.1 (by decide)) tc_85 rfl rfl rfl rfl (Nat.le_of_ble_eq_true rfl) dX12_rings_30 ⟨Nat.le_refl 0, Nat.le_refl 0⟩ (fun r7 uN7 H locs hq hP hD hS => ?_)
        have hu7 := hq
        rw [hu7] at hP hD
        refine lv_aload_n F.1 F.2.1 dX12_rings_33 rfl (lv_at hl 0 rfl) ?_
        refine a_getr F inX12 hP 85 6 tc_85 rfl rfl (by decide) q1477 (fun _ h9 => h9) dX12_rings_34 ?_
        refine a_bp F (98 : Int32) dX12_rings_37 (by decide) ?_
        refine lv_iload_n F.1 F.2.1 dX12_rings_39 rfl (lv_at hl 2 rfl) ?_
        refine a_iadd F dX12_rings_40 ic_98 rfl (by omega) (fun v8 hv8 => ?_)
        refine a_iald F hP 87 tc_87 rfl (i_in rfl (by omega)) dX12_rings_41 (fun v9 ev9 => ?_)
        refine a_Si F hml hl.1 hA hP hD hS (As := [.int r7, .int v9]) (c_X12_bitOf l dC dI ad cA nF _ r7 v9 hR) (cs_RX12_223 (d := 1) F.2.2.1 (by decide)) rfl rfl (Nat.le_of_ble_eq_true rfl) dX12_rings_42 ⟨Nat.le_refl 0, Nat.le_refl 0⟩ (fun r10 uN10 H locs hq hP hD hS => ?_)
        obtain ⟨hu10, gr10⟩ := hq
        rw [hu10] at hP hD
        refine z_eq F 74 dX12_rings_45 (by decide) rfl (fun c11 => ?_) (fun c11 => ?_)
        · have g12 : (0 : Int) ≤ (u.1 85 0).toInt ∧ (u.1 85 0).toInt ≤ 1 := hR 85 0
          exact L74 x1 x2 _ _ _ _ hR hF (by omega) (by omega : (0 : Int) ≤ (u.1 85 0).toInt ∧ (u.1 85 0).toInt ≤ 0) (by omega : (1 : Int) ≤ (u.1 87 7).toInt ∧ (u.1 87 7).toInt ≤ 8) (by omega) hP hD hS (lv_sub hl [0, 1, 2] rfl)
        · refine lv_iload_n F.1 F.2.1 dX12_rings_48 rfl (lv_at hl 1 rfl) ?_
          refine a_ic F (1 : Int32) dX12_rings_49 (by decide) ?_
          refine lv_aload_n F.1 F.2.1 dX12_rings_50 rfl (lv_at hl 0 rfl) ?_
          refine a_getr F inX12 hP 85 6 tc_85 rfl rfl (by decide) q1477 (fun _ h9 => h9) dX12_rings_51 ?_
          refine a_bp F (90 : Int32) dX12_rings_54 (by decide) ?_
          refine lv_iload_n F.1 F.2.1 dX12_rings_56 rfl (lv_at hl 2 rfl) ?_
          refine a_iadd F dX12_rings_57 ic_90 rfl (by omega) (fun v13 hv13 => ?_)
          refine a_iald F hP 87 tc_87 rfl (i_in rfl (by omega)) dX12_rings_58 (fun v14 ev14 => ?_)
          refine a_ishlU F dX12_rings_59 (fun v15 => ?_)
          refine a_ic F (1 : Int32) dX12_rings_60 (by decide) ?_
          refine lv_aload_n F.1 F.2.1 dX12_rings_61 rfl (lv_at hl 0 rfl) ?_
          refine a_getr F inX12 hP 85 6 tc_85 rfl rfl (by decide) q1477 (fun _ h9 => h9) dX12_rings_62 ?_
          refine a_bp F (98 : Int32) dX12_rings_65 (by decide) ?_
          refine lv_iload_n F.1 F.2.1 dX12_rings_67 rfl (lv_at hl 2 rfl) ?_
          refine a_iadd F dX12_rings_68 ic_98 rfl (by omega) (fun v16 hv16 => ?_)
          refine a_iald F hP 87 tc_87 rfl (i_in rfl (by omega)) dX12_rings_69 (fun v17 ev17 => ?_)
          refine a_ishlU F dX12_rings_70 (fun v18 => ?_)
          refine a_iorU F dX12_rings_71 (fun v19 => ?_)
          refine a_iorU F dX12_rings_72 (fun v20 => ?_)
          refine lv_istore_n (lv' := [(1, .int v20), (0, .ref (ad 85)), (2, .int x2)]) F.1 F.2.1 dX12_rings_73 rfl hl (by decide) rfl (fun ls hl => ?_)
          have g21 : (0 : Int) ≤ (u.1 85 0).toInt ∧ (u.1 85 0).toInt ≤ 1 := hR 85 0
          exact L74 v20 x2 _ _ _ _ hR hF (by omega) (by omega : (0 : Int) ≤ (u.1 85 0).toInt ∧ (u.1 85 0).toInt ≤ 0) (by omega : (1 : Int) ≤ (u.1 87 7).toInt ∧ (u.1 87 7).toInt ≤ 8) (by omega) hP hD hS (lv_sub hl [1, 0, 2] rfl)
  refine lv_aload_n F.1 F.2.1 dX12_rings_0 rfl (lv_at hl 0 rfl) ?_
  refine a_ic F (0 : Int32) dX12_rings_1 (by decide) ?_
  refine a_puti F inX12 tyX12 tyX12_ok nmX12 hP hD hS 85 0 tc_85 rfl rfl (by decide) q1471 (fun _ h9 => h9) rfl (ty := .int) (tyX12_ok 0 (by decide)) rfl rfl dX12_rings_2 (fun H locs hP hD hS => ?_)
  have hR := hR.si (c := 85) (k := 0) (v := (0 : Int32)) (by rw [ic_0]; exact (by omega : (0 : Int) ≤ (0 : Int) ∧ (0 : Int) ≤ 1))
  have hF := hF.si (c := 85) (k := 0) (v := (0 : Int32)) rfl
  refine a_ic F (0 : Int32) dX12_rings_5 (by decide) ?_
  refine lv_istore_n (lv' := [(1, .int (0 : Int32)), (0, .ref (ad 85))]) F.1 F.2.1 dX12_rings_6 rfl hl (by decide) rfl (fun ls hl => ?_)
  refine a_ic F (0 : Int32) dX12_rings_7 (by decide) ?_
  refine lv_istore_n (lv' := [(2, .int (0 : Int32)), (1, .int (0 : Int32)), (0, .ref (ad 85))]) F.1 F.2.1 dX12_rings_8 rfl hl (by decide) rfl (fun ls hl => ?_)
  exact L9 10 (0 : Int32) (0 : Int32) _ _ _ _ hR hF (by decide) (by decide) (by omega : (0 : Int) ≤ (0 : Int) ∧ (0 : Int) ≤ 0) hP hD hS (lv_sub hl [2, 1, 0] rfl)
set_option maxHeartbeats 600000 in
set_option maxRecDepth 100000 in
theorem c_X12_status_85 (l : Launch) (dC : Nat → ClassId) (dI : Nat → Nat → Nat) (ad : Nat → Nat) (cA : Nat → ClassId) (nF : Nat) (u0 : ac_U) (p0 : Int32) (p1 : Int32) (hR : ac_R rg u0) : ac_Mi l yX12_status (.code yX12_status cX12_status 3 (some .int) :: TB) 7 (dC, dI) vwCl (ac_ty cA) ad cA (TT nF) [.ref (ad 85), .int p0, .int p1] u0 (fun (r : Int32) (u : ac_U) => ac_R rg u ∧ ac_Fr [(85, some 0)] u0 u ∧ ((-1 : Int) ≤ r.toInt ∧ r.toInt ≤ 4)) := by
  refine ac_Mi.of (cc := cX12_status) (maxL := 3) (ret := (some .int)) (by decide) rfl (Nat.le_of_ble_eq_true rfl) ?_
  intro p e s m below meth c A ls F hml hr hlocks hA hP hD hS hl
  have F : ac_X p s m [.ref (ad 85), .int p0, .int p1].toArray c cX12_status RX12 TB (dC, dI) vwCl (ac_ty cA) := ⟨F.1, F.2.1, fun w h => F.2.2.1 w (List.mem_cons_of_mem _ h), F.2.2.2.1, F.2.2.2.2⟩
  have hl : lv_has ls 3 [(0, .ref (ad 85)), (1, .int p0), (2, .int p1)] := hl
  have hF : ac_Fr [(85, some 0)] u0 u0 := ac_Fr.rf
  refine lv_aload_n F.1 F.2.1 dX12_status_0 rfl (lv_at hl 0 rfl) ?_
  refine a_ic F (0 : Int32) dX12_status_1 (by decide) ?_
  refine a_puti F inX12 tyX12 tyX12_ok nmX12 hP hD hS 85 0 tc_85 rfl rfl (by decide) q1471 (fun _ h9 => h9) rfl (ty := .int) (tyX12_ok 0 (by decide)) rfl rfl dX12_status_2 (fun H locs hP hD hS => ?_)
  have hR := hR.si (c := 85) (k := 0) (v := (0 : Int32)) (by rw [ic_0]; exact (by omega : (0 : Int) ≤ (0 : Int) ∧ (0 : Int) ≤ 1))
  have hF := hF.si (c := 85) (k := 0) (v := (0 : Int32)) rfl
  refine lv_aload_n F.1 F.2.1 dX12_status_5 rfl (lv_at hl 0 rfl) ?_
  refine lv_iload_n F.1 F.2.1 dX12_status_6 rfl (lv_at hl 1 rfl) ?_
  refine lv_iload_n F.1 F.2.1 dX12_status_7 rfl (lv_at hl 2 rfl) ?_
  refine a_Vi F hml hl.1 hA hP hD hS (As := [.int p0, .int p1]) (c_X12_isReading_85 l dC dI ad cA nF _ p0 p1 hR) (cs_RX12_317 (d := 3) F.2.2.1 (by decide)) tc_85 rfl rfl rfl rfl (Nat.le_of_ble_eq_true rfl) dX12_status_8 ⟨Nat.le_refl 0, Nat.le_refl 0⟩ (fun r1 uN1 H locs hq hP hD hS => ?_)
  obtain ⟨hu1, gr1, xr1⟩ := hq
  rw [hu1] at hP hD
  have xr1 : r1.toInt ≠ 0 → 0 ≤ p0.toInt ∧ p0.toInt ≤ 7 ∧ 0 ≤ p1.toInt ∧ p1.toInt ≤ 7 := xr1
  refine z_eq F 23 dX12_status_11 (by decide) rfl (fun c2 => ?_) (fun c2 => ?_)
  · refine a_ic F (-1 : Int32) dX12_status_23 (by decide) ?_
    exact a_reti F hr hlocks hP hD hS dX12_status_24 ⟨hR, hF, (by decide)⟩
  · refine lv_aload_n F.1 F.2.1 dX12_status_14 rfl (lv_at hl 0 rfl) ?_
    refine lv_iload_n F.1 F.2.1 dX12_status_15 rfl (lv_at hl 1 rfl) ?_
    refine lv_iload_n F.1 F.2.1 dX12_status_16 rfl (lv_at hl 2 rfl) ?_
    refine a_Vi F hml hl.1 hA hP hD hS (As := [.int p0, .int p1]) (c_X12_statusOf_85 l dC dI ad cA nF _ p0 p1 hR (by omega) (by omega)) (cs_RX12_257 (d := 6) F.2.2.1 (by decide)) tc_85 rfl rfl rfl rfl (Nat.le_of_ble_eq_true rfl) dX12_status_17 ⟨Nat.le_refl 0, Nat.le_refl 0⟩ (fun r3 uN3 H locs hq hP hD hS => ?_)
    obtain ⟨hu3, gr3⟩ := hq
    rw [hu3] at hP hD
    refine lv_goto (tgt := 24) F.1 F.2.1 dX12_status_20 (by decide) ?_
    exact a_reti F hr hlocks hP hD hS dX12_status_24 ⟨hR, hF, (by omega : (-1 : Int) ≤ r3.toInt ∧ r3.toInt ≤ 4)⟩
set_option maxHeartbeats 600000 in
set_option maxRecDepth 100000 in
theorem c_X12_step_85 (l : Launch) (dC : Nat → ClassId) (dI : Nat → Nat → Nat) (ad : Nat → Nat) (cA : Nat → ClassId) (nF : Nat) (u0 : ac_U) (p0 : Int32) (hR : ac_R rg u0) : ac_Mi l yX12_step (.code yX12_step cX12_step 2 (some .int) :: TB) 1 (dC, dI) vwCl (ac_ty cA) ad cA (TT nF) [.ref (ad 85), .int p0] u0 (fun (r : Int32) (u : ac_U) => ac_R rg u ∧ ac_Fr [(85, some 0)] u0 u) := by
  refine ac_Mi.of (cc := cX12_step) (maxL := 2) (ret := (some .int)) (by decide) rfl (Nat.le_of_ble_eq_true rfl) ?_
  intro p e s m below meth c A ls F hml hr hlocks hA hP hD hS hl
  have F : ac_X p s m [.ref (ad 85), .int p0].toArray c cX12_step RX12 TB (dC, dI) vwCl (ac_ty cA) := ⟨F.1, F.2.1, fun w h => F.2.2.1 w (List.mem_cons_of_mem _ h), F.2.2.2.1, F.2.2.2.2⟩
  have hl : lv_has ls 2 [(0, .ref (ad 85)), (1, .int p0)] := hl
  have hF : ac_Fr [(85, some 0)] u0 u0 := ac_Fr.rf
  have L30 : ∀ (u : ac_U) (H : Heap) (locs : List Loc) (ls : Array Slot), ac_R rg u → ac_Fr [(85, some 0)] u0 u → (0 : Int) ≤ (u.1 85 0).toInt ∧ (u.1 85 0).toInt ≤ 0 → va_P (dC, dI) vwCl (ac_w ad cA (TT nF) u) H → va_D A (ac_w ad cA (TT nF) u) → va_S A s.heap H locs → lv_has ls 2 [] → W p l e (ac_rm 1) s m [.ref (ad 85), .int p0].toArray below meth c H locs 0 0 (MQ below (va_Qi (fun (r : Int32) (u : ac_U) => ac_R rg u ∧ ac_Fr [(85, some 0)] u0 u) (ac_B (dC, dI) vwCl (ac_ty cA) ad cA (TT nF) A) A) [.ref (ad 85), .int p0].toArray s 0 0 A) (F0 m 30 ls []) := by
    intro u H locs ls hR hF f0 hP hD hS hl
    refine a_ic F (-1 : Int32) dX12_step_30 (by decide) ?_
    exact a_reti F hr hlocks hP hD hS dX12_step_31 ⟨hR, hF⟩
  refine lv_aload_n F.1 F.2.1 dX12_step_0 rfl (lv_at hl 0 rfl) ?_
  refine a_ic F (0 : Int32) dX12_step_1 (by decide) ?_
  refine a_puti F inX12 tyX12 tyX12_ok nmX12 hP hD hS 85 0 tc_85 rfl rfl (by decide) q1471 (fun _ h9 => h9) rfl (ty := .int) (tyX12_ok 0 (by decide)) rfl rfl dX12_step_2 (fun H locs hP hD hS => ?_)
  have hR := hR.si (c := 85) (k := 0) (v := (0 : Int32)) (by rw [ic_0]; exact (by omega : (0 : Int) ≤ (0 : Int) ∧ (0 : Int) ≤ 1))
  have hF := hF.si (c := 85) (k := 0) (v := (0 : Int32)) rfl
  refine lv_iload_n F.1 F.2.1 dX12_step_5 rfl (lv_at hl 1 rfl) ?_
  refine lv_aload_n F.1 F.2.1 dX12_step_6 rfl (lv_at hl 0 rfl) ?_
  have g1 : (0 : Int) ≤ (u0.1 85 29).toInt ∧ (u0.1 85 29).toInt ≤ 23 := hR 85 29
  refine a_geti F inX12 hP 85 29 tc_85 rfl rfl (by decide) q1500 (fun _ h9 => h9) (v := (u0.1 85 29)) rfl dX12_step_7 ?_
  refine b_lt F 30 dX12_step_10 (by decide) rfl rfl (fun c2 => ?_) (fun c2 => ?_)
  · exact L30 _ _ _ _ hR hF (by omega : (0 : Int) ≤ (0 : Int) ∧ (0 : Int) ≤ 0) hP hD hS (lv_sub hl [] rfl)
  · refine lv_iload_n F.1 F.2.1 dX12_step_13 rfl (lv_at hl 1 rfl) ?_
    refine lv_aload_n F.1 F.2.1 dX12_step_14 rfl (lv_at hl 0 rfl) ?_
    have g3 : (0 : Int) ≤ (u0.1 85 30).toInt ∧ (u0.1 85 30).toInt ≤ 24 := hR 85 30
    refine a_geti F inX12 hP 85 30 tc_85 rfl rfl (by decide) q1501 (fun _ h9 => h9) (v := (u0.1 85 30)) rfl dX12_step_15 ?_
    refine b_ge F 30 dX12_step_18 (by decide) rfl rfl (fun c4 => ?_) (fun c4 => ?_)
    · exact L30 _ _ _ _ hR hF (by omega : (0 : Int) ≤ (0 : Int) ∧ (0 : Int) ≤ 0) hP hD hS (lv_sub hl [] rfl)
    · refine lv_aload_n F.1 F.2.1 dX12_step_21 rfl (lv_at hl 0 rfl) ?_
      refine a_getr F inX12 hP 85 27 tc_85 rfl rfl (by decide) q1498 (fun _ h9 => h9) dX12_step_22 ?_
      refine lv_iload_n F.1 F.2.1 dX12_step_25 rfl (lv_at hl 1 rfl) ?_
      refine a_iald F hP 97 tc_97 rfl (i_in rfl (by omega)) dX12_step_26 (fun v5 ev5 => ?_)
      refine lv_goto (tgt := 31) F.1 F.2.1 dX12_step_27 (by decide) ?_
      exact a_reti F hr hlocks hP hD hS dX12_step_31 ⟨hR, hF⟩
set_option maxHeartbeats 600000 in
set_option maxRecDepth 100000 in
theorem c_X12_way_85 (l : Launch) (dC : Nat → ClassId) (dI : Nat → Nat → Nat) (ad : Nat → Nat) (cA : Nat → ClassId) (nF : Nat) (u0 : ac_U) (p0 : Int32) (p1 : Int32) (hR : ac_R rg u0) : ac_Mi l yX12_way (.code yX12_way cX12_way 6 (some .int) :: TB) 3 (dC, dI) vwCl (ac_ty cA) ad cA (TT nF) [.ref (ad 85), .int p0, .int p1] u0 (fun (r : Int32) (u : ac_U) => ac_R rg u ∧ ac_Fr [(85, some 0), (92, none)] u0 u) := by
  refine ac_Mi.of (cc := cX12_way) (maxL := 6) (ret := (some .int)) (by decide) rfl (Nat.le_of_ble_eq_true rfl) ?_
  intro p e s m below meth c A ls F hml hr hlocks hA hP hD hS hl
  have F : ac_X p s m [.ref (ad 85), .int p0, .int p1].toArray c cX12_way RX12 TB (dC, dI) vwCl (ac_ty cA) := ⟨F.1, F.2.1, fun w h => F.2.2.1 w (List.mem_cons_of_mem _ h), F.2.2.2.1, F.2.2.2.2⟩
  have hl : lv_has ls 6 [(0, .ref (ad 85)), (1, .int p0), (2, .int p1)] := hl
  have hF : ac_Fr [(85, some 0), (92, none)] u0 u0 := ac_Fr.rf
  have L57 : ∀ (n57 : Nat) (x2 : Int32) (x3 : Int32) (u : ac_U) (H : Heap) (locs : List Loc) (ls : Array Slot), ac_R rg u → ac_Fr [(85, some 0), (92, none)] u0 u → 8 - x3.toInt < (n57 : Int) → (0 : Int) ≤ x2.toInt ∧ x2.toInt ≤ 7 → (0 : Int) ≤ x3.toInt ∧ x3.toInt ≤ 8 → (0 : Int) ≤ (u.1 85 0).toInt ∧ (u.1 85 0).toInt ≤ 0 → va_P (dC, dI) vwCl (ac_w ad cA (TT nF) u) H → va_D A (ac_w ad cA (TT nF) u) → va_S A s.heap H locs → lv_has ls 6 [(0, .ref (ad 85)), (2, .int x2), (3, .int x3)] → W p l e (ac_rm 3) s m [.ref (ad 85), .int p0, .int p1].toArray below meth c H locs 0 0 (MQ below (va_Qi (fun (r : Int32) (u : ac_U) => ac_R rg u ∧ ac_Fr [(85, some 0), (92, none)] u0 u) (ac_B (dC, dI) vwCl (ac_ty cA) ad cA (TT nF) A) A) [.ref (ad 85), .int p0, .int p1].toArray s 0 0 A) (F0 m 57 ls []) := by
    intro n57
    induction n57 with
    | zero => intro x2 x3 u H locs ls hR hF hn57 f0 f1 f2 hP hD hS hl; exfalso; omega
    | succ n57 ih57 =>
      intro x2 x3 u H locs ls hR hF hn57 f0 f1 f2 hP hD hS hl
      have L66 : ∀ (n66 : Nat) (x2 : Int32) (x3 : Int32) (x4 : Int32) (u : ac_U) (H : Heap) (locs : List Loc) (ls : Array Slot), ac_R rg u → ac_Fr [(85, some 0), (92, none)] u0 u → 8 - x4.toInt < (n66 : Int) → (0 : Int) ≤ x2.toInt ∧ x2.toInt ≤ 7 → (0 : Int) ≤ x3.toInt ∧ x3.toInt ≤ 7 → (0 : Int) ≤ x4.toInt ∧ x4.toInt ≤ 8 → (0 : Int) ≤ (u.1 85 0).toInt ∧ (u.1 85 0).toInt ≤ 0 → 8 - x3.toInt + 0 < ((n57 : Nat) : Int) + 1 → va_P (dC, dI) vwCl (ac_w ad cA (TT nF) u) H → va_D A (ac_w ad cA (TT nF) u) → va_S A s.heap H locs → lv_has ls 6 [(0, .ref (ad 85)), (2, .int x2), (3, .int x3), (4, .int x4)] → W p l e (ac_rm 3) s m [.ref (ad 85), .int p0, .int p1].toArray below meth c H locs 0 0 (MQ below (va_Qi (fun (r : Int32) (u : ac_U) => ac_R rg u ∧ ac_Fr [(85, some 0), (92, none)] u0 u) (ac_B (dC, dI) vwCl (ac_ty cA) ad cA (TT nF) A) A) [.ref (ad 85), .int p0, .int p1].toArray s 0 0 A) (F0 m 66 ls []) := by
        intro n66
        induction n66 with
        | zero => intro x2 x3 x4 u H locs ls hR hF hn66 f0 f1 f2 f3 f4 hP hD hS hl; exfalso; omega
        | succ n66 ih66 =>
          intro x2 x3 x4 u H locs ls hR hF hn66 f0 f1 f2 f3 f4 hP hD hS hl
          have L76 : ∀ (n76 : Nat) (x2 : Int32) (x3 : Int32) (x4 : Int32) (x5 : Int32) (u : ac_U) (H : Heap) (locs : List Loc) (ls : Array Slot), ac_R rg u → ac_Fr [(85, some 0), (92, none)] u0 u → 8 - x5.toInt < (n76 : Int) → (0 : Int) ≤ x2.toInt ∧ x2.toInt ≤ 7 → (0 : Int) ≤ x3.toInt ∧ x3.toInt ≤ 7 → (0 : Int) ≤ x4.toInt ∧ x4.toInt ≤ 7 → (0 : Int) ≤ x5.toInt ∧ x5.toInt ≤ 8 → (0 : Int) ≤ (u.1 85 0).toInt ∧ (u.1 85 0).toInt ≤ 0 → 8 - x3.toInt + 0 < ((n57 : Nat) : Int) + 1 → 8 - x4.toInt + 0 < ((n66 : Nat) : Int) + 1 → va_P (dC, dI) vwCl (ac_w ad cA (TT nF) u) H → va_D A (ac_w ad cA (TT nF) u) → va_S A s.heap H locs → lv_has ls 6 [(0, .ref (ad 85)), (2, .int x2), (3, .int x3), (4, .int x4), (5, .int x5)] → W p l e (ac_rm 3) s m [.ref (ad 85), .int p0, .int p1].toArray below meth c H locs 0 0 (MQ below (va_Qi (fun (r : Int32) (u : ac_U) => ac_R rg u ∧ ac_Fr [(85, some 0), (92, none)] u0 u) (ac_B (dC, dI) vwCl (ac_ty cA) ad cA (TT nF) A) A) [.ref (ad 85), .int p0, .int p1].toArray s 0 0 A) (F0 m 76 ls []) := by
            intro n76
            induction n76 with
            | zero => intro x2 x3 x4 x5 u H locs ls hR hF hn76 f0 f1 f2 f3 f4 f5 f6 hP hD hS hl; exfalso; omega
            | succ n76 ih76 =>
              intro x2 x3 x4 x5 u H locs ls hR hF hn76 f0 f1 f2 f3 f4 f5 f6 hP hD hS hl
              have L136 : ∀ (x2 : Int32) (x3 : Int32) (x4 : Int32) (x5 : Int32) (u : ac_U) (H : Heap) (locs : List Loc) (ls : Array Slot), ac_R rg u → ac_Fr [(85, some 0), (92, none)] u0 u → (0 : Int) ≤ x2.toInt ∧ x2.toInt ≤ 7 → (0 : Int) ≤ x3.toInt ∧ x3.toInt ≤ 7 → (0 : Int) ≤ x4.toInt ∧ x4.toInt ≤ 7 → (0 : Int) ≤ x5.toInt ∧ x5.toInt ≤ 7 → (0 : Int) ≤ (u.1 85 0).toInt ∧ (u.1 85 0).toInt ≤ 0 → 8 - x3.toInt + 0 < ((n57 : Nat) : Int) + 1 → 8 - x4.toInt + 0 < ((n66 : Nat) : Int) + 1 → 8 - x5.toInt + 0 < ((n76 : Nat) : Int) + 1 → va_P (dC, dI) vwCl (ac_w ad cA (TT nF) u) H → va_D A (ac_w ad cA (TT nF) u) → va_S A s.heap H locs → lv_has ls 6 [(0, .ref (ad 85)), (2, .int x2), (3, .int x3), (4, .int x4), (5, .int x5)] → W p l e (ac_rm 3) s m [.ref (ad 85), .int p0, .int p1].toArray below meth c H locs 0 0 (MQ below (va_Qi (fun (r : Int32) (u : ac_U) => ac_R rg u ∧ ac_Fr [(85, some 0), (92, none)] u0 u) (ac_B (dC, dI) vwCl (ac_ty cA) ad cA (TT nF) A) A) [.ref (ad 85), .int p0, .int p1].toArray s 0 0 A) (F0 m 136 ls []) := by
                intro x2 x3 x4 x5 u H locs ls hR hF f0 f1 f2 f3 f4 f5 f6 f7 hP hD hS hl
                refine a_iinc F (k := 4) (fun v1 => [(5, .int v1), (0, .ref (ad 85)), (2, .int x2), (3, .int x3), (4, .int x4)]) dX12_way_136 hl rfl rfl (by decide) (by omega) (by decide) (fun _ => rfl) (fun v1 ls hv1 hl => ?_)
                refine lv_goto (tgt := 76) F.1 F.2.1 dX12_way_139 (by decide) ?_
                have g2 : (0 : Int) ≤ (u.1 85 0).toInt ∧ (u.1 85 0).toInt ≤ 1 := hR 85 0
                exact ih76 x2 x3 x4 v1 _ _ _ _ hR hF (by omega) (by omega) (by omega) (by omega) (by omega) (by omega : (0 : Int) ≤ (u.1 85 0).toInt ∧ (u.1 85 0).toInt ≤ 0) (by omega) (by omega) hP hD hS (lv_sub hl [1, 2, 3, 4, 0] rfl)
              refine lv_iload F.1 F.2.1 dX12_way_76 (lv_at hl 4 rfl) ?_
              refine a_bp F (8 : Int32) dX12_way_78 (by decide) ?_
              refine b_ge F 142 dX12_way_80 (by decide) rfl ic_8 (fun c3 => ?_) (fun c3 => ?_)
              · refine a_iinc F (k := 3) (fun v4 => [(4, .int v4), (0, .ref (ad 85)), (2, .int x2), (3, .int x3), (5, .int x5)]) dX12_way_142 hl rfl rfl (by decide) (by omega) (by decide) (fun _ => rfl) (fun v4 ls hv4 hl => ?_)
                refine lv_goto (tgt := 66) F.1 F.2.1 dX12_way_145 (by decide) ?_
                have g5 : (0 : Int) ≤ (u.1 85 0).toInt ∧ (u.1 85 0).toInt ≤ 1 := hR 85 0
                exact ih66 x2 x3 v4 _ _ _ _ hR hF (by omega) (by omega) (by omega) (by omega) (by omega : (0 : Int) ≤ (u.1 85 0).toInt ∧ (u.1 85 0).toInt ≤ 0) (by omega) hP hD hS (lv_sub hl [1, 2, 3, 0] rfl)
              · refine lv_aload_n F.1 F.2.1 dX12_way_83 rfl (lv_at hl 0 rfl) ?_
                refine a_getr F inX12 hP 85 6 tc_85 rfl rfl (by decide) q1477 (fun _ h9 => h9) dX12_way_84 ?_
                refine a_bp F (8 : Int32) dX12_way_87 (by decide) ?_
                refine lv_iload F.1 F.2.1 dX12_way_89 (lv_at hl 3 rfl) ?_
                refine a_iadd F dX12_way_91 ic_8 rfl (by omega) (fun v6 hv6 => ?_)
                refine a_iald F hP 87 tc_87 rfl (i_in rfl (by omega)) dX12_way_92 (fun v7 ev7 => ?_)
                refine lv_iload F.1 F.2.1 dX12_way_93 (lv_at hl 4 rfl) ?_
                refine a_Si F hml hl.1 hA hP hD hS (As := [.int v7, .int x5]) (c_X12_bitOf l dC dI ad cA nF _ v7 x5 hR) (cs_RX12_223 (d := 1) F.2.2.1 (by decide)) rfl rfl (Nat.le_of_ble_eq_true rfl) dX12_way_95 ⟨Nat.le_refl 0, Nat.le_refl 0⟩ (fun r8 uN8 H locs hq hP hD hS => ?_)
                obtain ⟨hu8, gr8⟩ := hq
                rw [hu8] at hP hD
                refine z_eq F 136 dX12_way_98 (by decide) rfl (fun c9 => ?_) (fun c9 => ?_)
                · have g10 : (0 : Int) ≤ (u.1 85 0).toInt ∧ (u.1 85 0).toInt ≤ 1 := hR 85 0
                  exact L136 x2 x3 x4 x5 _ _ _ _ hR hF (by omega) (by omega) (by omega) (by omega) (by omega : (0 : Int) ≤ (u.1 85 0).toInt ∧ (u.1 85 0).toInt ≤ 0) (by omega) (by omega) (by omega) hP hD hS (lv_sub hl [0, 1, 2, 3, 4] rfl)
                · refine lv_aload_n F.1 F.2.1 dX12_way_101 rfl (lv_at hl 0 rfl) ?_
                  refine a_getr F inX12 hP 85 21 tc_85 rfl rfl (by decide) q1492 (fun _ h9 => h9) dX12_way_102 ?_
                  refine lv_iload F.1 F.2.1 dX12_way_105 (lv_at hl 3 rfl) ?_
                  refine a_iald F hP 92 tc_92 rfl (i_in rfl (by omega)) dX12_way_107 (fun v11 ev11 => ?_)
                  refine a_ic F (1 : Int32) dX12_way_108 (by decide) ?_
                  refine a_iaddU F dX12_way_109 (fun v12 => ?_)
                  refine lv_aload_n F.1 F.2.1 dX12_way_110 rfl (lv_at hl 0 rfl) ?_
                  refine a_getr F inX12 hP 85 21 tc_85 rfl rfl (by decide) q1492 (fun _ h9 => h9) dX12_way_111 ?_
                  refine lv_iload F.1 F.2.1 dX12_way_114 (lv_at hl 4 rfl) ?_
                  refine a_iald F hP 92 tc_92 rfl (i_in rfl (by omega)) dX12_way_116 (fun v13 ev13 => ?_)
                  refine b_ge F 136 dX12_way_117 (by decide) rfl rfl (fun c14 => ?_) (fun c14 => ?_)
                  · have g15 : (0 : Int) ≤ (u.1 85 0).toInt ∧ (u.1 85 0).toInt ≤ 1 := hR 85 0
                    exact L136 x2 x3 x4 x5 _ _ _ _ hR hF (by omega) (by omega) (by omega) (by omega) (by omega : (0 : Int) ≤ (u.1 85 0).toInt ∧ (u.1 85 0).toInt ≤ 0) (by omega) (by omega) (by omega) hP hD hS (lv_sub hl [0, 1, 2, 3, 4] rfl)
                  · refine lv_aload_n F.1 F.2.1 dX12_way_120 rfl (lv_at hl 0 rfl) ?_
                    refine a_getr F inX12 hP 85 21 tc_85 rfl rfl (by decide) q1492 (fun _ h9 => h9) dX12_way_121 ?_
                    refine lv_iload F.1 F.2.1 dX12_way_124 (lv_at hl 4 rfl) ?_
                    refine lv_aload_n F.1 F.2.1 dX12_way_126 rfl (lv_at hl 0 rfl) ?_
                    refine a_getr F inX12 hP 85 21 tc_85 rfl rfl (by decide) q1492 (fun _ h9 => h9) dX12_way_127 ?_
                    refine lv_iload F.1 F.2.1 dX12_way_130 (lv_at hl 3 rfl) ?_
                    refine a_iald F hP 92 tc_92 rfl (i_in rfl (by omega)) dX12_way_132 (fun v16 ev16 => ?_)
                    refine a_ic F (1 : Int32) dX12_way_133 (by decide) ?_
                    refine a_iaddU F dX12_way_134 (fun v17 => ?_)
                    refine a_iast F hP hD hS 92 tc_92 rfl (i_in rfl (by omega)) dX12_way_135 (fun H locs hP hD hS => ?_)
                    have hR := hR.si (c := 92) (k := x5.toNatClampNeg) (v := v17) ⟨i_lo _, i_hi _⟩
                    have hF := hF.si (c := 92) (k := x5.toNatClampNeg) (v := v17) rfl
                    have g18 : (0 : Int) ≤ (u.1 85 0).toInt ∧ (u.1 85 0).toInt ≤ 1 := hR 85 0
                    exact L136 x2 x3 x4 x5 _ _ _ _ hR hF (by omega) (by omega) (by omega) (by omega) (by omega : (0 : Int) ≤ (u.1 85 0).toInt ∧ (u.1 85 0).toInt ≤ 0) (by omega) (by omega) (by omega) hP hD hS (lv_sub hl [0, 1, 2, 3, 4] rfl)
          refine lv_iload F.1 F.2.1 dX12_way_66 (lv_at hl 3 rfl) ?_
          refine a_bp F (8 : Int32) dX12_way_68 (by decide) ?_
          refine b_ge F 148 dX12_way_70 (by decide) rfl ic_8 (fun c19 => ?_) (fun c19 => ?_)
          · refine a_iinc F (k := 2) (fun v20 => [(3, .int v20), (0, .ref (ad 85)), (2, .int x2), (4, .int x4)]) dX12_way_148 hl rfl rfl (by decide) (by omega) (by decide) (fun _ => rfl) (fun v20 ls hv20 hl => ?_)
            refine lv_goto (tgt := 57) F.1 F.2.1 dX12_way_151 (by decide) ?_
            have g21 : (0 : Int) ≤ (u.1 85 0).toInt ∧ (u.1 85 0).toInt ≤ 1 := hR 85 0
            exact ih57 x2 v20 _ _ _ _ hR hF (by omega) (by omega) (by omega) (by omega : (0 : Int) ≤ (u.1 85 0).toInt ∧ (u.1 85 0).toInt ≤ 0) hP hD hS (lv_sub hl [1, 2, 0] rfl)
          · refine a_ic F (0 : Int32) dX12_way_73 (by decide) ?_
            refine lv_istore (lv' := [(5, .int (0 : Int32)), (0, .ref (ad 85)), (2, .int x2), (3, .int x3), (4, .int x4)]) F.1 F.2.1 dX12_way_74 hl (by decide) rfl (fun ls hl => ?_)
            have g22 : (0 : Int) ≤ (u.1 85 0).toInt ∧ (u.1 85 0).toInt ≤ 1 := hR 85 0
            exact L76 10 x2 x3 x4 (0 : Int32) _ _ _ _ hR hF (by decide) (by omega) (by omega) (by omega) (by decide) (by omega : (0 : Int) ≤ (u.1 85 0).toInt ∧ (u.1 85 0).toInt ≤ 0) (by omega) (by omega) hP hD hS (lv_sub hl [1, 2, 3, 4, 0] rfl)
      refine lv_iload_n F.1 F.2.1 dX12_way_57 rfl (lv_at hl 2 rfl) ?_
      refine a_bp F (8 : Int32) dX12_way_58 (by decide) ?_
      refine b_ge F 154 dX12_way_60 (by decide) rfl ic_8 (fun c23 => ?_) (fun c23 => ?_)
      · refine lv_aload_n F.1 F.2.1 dX12_way_154 rfl (lv_at hl 0 rfl) ?_
        refine a_getr F inX12 hP 85 21 tc_85 rfl rfl (by decide) q1492 (fun _ h9 => h9) dX12_way_155 ?_
        refine lv_iload_n F.1 F.2.1 dX12_way_158 rfl (lv_at hl 1 rfl) ?_
        refine a_iald F hP 92 tc_92 rfl (i_in rfl (by omega)) dX12_way_159 (fun v24 ev24 => ?_)
        refine a_sp F (1000 : Int32) dX12_way_160 (by decide) ?_
        refine b_ge F 175 dX12_way_163 (by decide) rfl ic_1000 (fun c25 => ?_) (fun c25 => ?_)
        · refine a_ic F (-1 : Int32) dX12_way_175 (by decide) ?_
          exact a_reti F hr hlocks hP hD hS dX12_way_176 ⟨hR, hF⟩
        · refine lv_aload_n F.1 F.2.1 dX12_way_166 rfl (lv_at hl 0 rfl) ?_
          refine a_getr F inX12 hP 85 21 tc_85 rfl rfl (by decide) q1492 (fun _ h9 => h9) dX12_way_167 ?_
          refine lv_iload_n F.1 F.2.1 dX12_way_170 rfl (lv_at hl 1 rfl) ?_
          refine a_iald F hP 92 tc_92 rfl (i_in rfl (by omega)) dX12_way_171 (fun v26 ev26 => ?_)
          refine lv_goto (tgt := 176) F.1 F.2.1 dX12_way_172 (by decide) ?_
          exact a_reti F hr hlocks hP hD hS dX12_way_176 ⟨hR, hF⟩
      · refine a_ic F (0 : Int32) dX12_way_63 (by decide) ?_
        refine lv_istore (lv' := [(4, .int (0 : Int32)), (0, .ref (ad 85)), (2, .int x2), (3, .int x3)]) F.1 F.2.1 dX12_way_64 hl (by decide) rfl (fun ls hl => ?_)
        have g27 : (0 : Int) ≤ (u.1 85 0).toInt ∧ (u.1 85 0).toInt ≤ 1 := hR 85 0
        exact L66 10 x2 x3 (0 : Int32) _ _ _ _ hR hF (by decide) (by omega) (by omega) (by decide) (by omega : (0 : Int) ≤ (u.1 85 0).toInt ∧ (u.1 85 0).toInt ≤ 0) (by omega) hP hD hS (lv_sub hl [1, 2, 3, 0] rfl)
  have L25 : ∀ (n25 : Nat) (x1 : Int32) (x2 : Int32) (x3 : Int32) (u : ac_U) (H : Heap) (locs : List Loc) (ls : Array Slot), ac_R rg u → ac_Fr [(85, some 0), (92, none)] u0 u → 8 - x3.toInt < (n25 : Int) → (0 : Int) ≤ x1.toInt ∧ x1.toInt ≤ 7 → (0 : Int) ≤ x2.toInt ∧ x2.toInt ≤ 7 → (0 : Int) ≤ x3.toInt ∧ x3.toInt ≤ 8 → (0 : Int) ≤ (u.1 85 0).toInt ∧ (u.1 85 0).toInt ≤ 0 → va_P (dC, dI) vwCl (ac_w ad cA (TT nF) u) H → va_D A (ac_w ad cA (TT nF) u) → va_S A s.heap H locs → lv_has ls 6 [(0, .ref (ad 85)), (1, .int x1), (2, .int x2), (3, .int x3)] → W p l e (ac_rm 3) s m [.ref (ad 85), .int p0, .int p1].toArray below meth c H locs 0 0 (MQ below (va_Qi (fun (r : Int32) (u : ac_U) => ac_R rg u ∧ ac_Fr [(85, some 0), (92, none)] u0 u) (ac_B (dC, dI) vwCl (ac_ty cA) ad cA (TT nF) A) A) [.ref (ad 85), .int p0, .int p1].toArray s 0 0 A) (F0 m 25 ls []) := by
    intro n25
    induction n25 with
    | zero => intro x1 x2 x3 u H locs ls hR hF hn25 f0 f1 f2 f3 hP hD hS hl; exfalso; omega
    | succ n25 ih25 =>
      intro x1 x2 x3 u H locs ls hR hF hn25 f0 f1 f2 f3 hP hD hS hl
      have L48 : ∀ (x1 : Int32) (x2 : Int32) (x3 : Int32) (z1 : Int32) (z2 : Int32) (u : ac_U) (H : Heap) (locs : List Loc) (ls : Array Slot), ac_R rg u → ac_Fr [(85, some 0), (92, none)] u0 u → (0 : Int) ≤ x1.toInt ∧ x1.toInt ≤ 7 → (0 : Int) ≤ x2.toInt ∧ x2.toInt ≤ 7 → (0 : Int) ≤ x3.toInt ∧ x3.toInt ≤ 7 → (0 : Int) ≤ z1.toInt ∧ z1.toInt ≤ 7 → (0 : Int) ≤ z2.toInt ∧ z2.toInt ≤ 1000 → (0 : Int) ≤ (u.1 85 0).toInt ∧ (u.1 85 0).toInt ≤ 0 → 8 - x3.toInt + 0 < ((n25 : Nat) : Int) + 1 → va_P (dC, dI) vwCl (ac_w ad cA (TT nF) u) H → va_D A (ac_w ad cA (TT nF) u) → va_S A s.heap H locs → lv_has ls 6 [(0, .ref (ad 85)), (1, .int x1), (2, .int x2), (3, .int x3)] → W p l e (ac_rm 3) s m [.ref (ad 85), .int p0, .int p1].toArray below meth c H locs 0 0 (MQ below (va_Qi (fun (r : Int32) (u : ac_U) => ac_R rg u ∧ ac_Fr [(85, some 0), (92, none)] u0 u) (ac_B (dC, dI) vwCl (ac_ty cA) ad cA (TT nF) A) A) [.ref (ad 85), .int p0, .int p1].toArray s 0 0 A) (F0 m 48 ls [.int z2, .int z1, .ref (ad 92)]) := by
        intro x1 x2 x3 z1 z2 u H locs ls hR hF f0 f1 f2 f3 f4 f5 f6 hP hD hS hl
        refine a_iast F hP hD hS 92 tc_92 rfl (i_in rfl (by omega)) dX12_way_48 (fun H locs hP hD hS => ?_)
        have hR := hR.si (c := 92) (k := z1.toNatClampNeg) (v := z2) ⟨i_lo _, i_hi _⟩
        have hF := hF.si (c := 92) (k := z1.toNatClampNeg) (v := z2) rfl
        refine a_iinc F (k := 3) (fun v28 => [(3, .int v28), (0, .ref (ad 85)), (1, .int x1), (2, .int x2)]) dX12_way_49 hl rfl rfl (by decide) (by omega) (by decide) (fun _ => rfl) (fun v28 ls hv28 hl => ?_)
        refine lv_goto (tgt := 25) F.1 F.2.1 dX12_way_52 (by decide) ?_
        have g29 : (0 : Int) ≤ (u.1 85 0).toInt ∧ (u.1 85 0).toInt ≤ 1 := hR 85 0
        exact ih25 x1 x2 v28 _ _ _ _ hR hF (by omega) (by omega) (by omega) (by omega) (by omega : (0 : Int) ≤ (u.1 85 0).toInt ∧ (u.1 85 0).toInt ≤ 0) hP hD hS (lv_sub hl [1, 2, 3, 0] rfl)
      refine lv_iload_n F.1 F.2.1 dX12_way_25 rfl (lv_at hl 3 rfl) ?_
      refine a_bp F (8 : Int32) dX12_way_26 (by decide) ?_
      refine b_ge F 55 dX12_way_28 (by decide) rfl ic_8 (fun c30 => ?_) (fun c30 => ?_)
      · refine a_ic F (0 : Int32) dX12_way_55 (by decide) ?_
        refine lv_istore_n (lv' := [(3, .int (0 : Int32)), (0, .ref (ad 85)), (1, .int x1), (2, .int x2)]) F.1 F.2.1 dX12_way_56 rfl hl (by decide) rfl (fun ls hl => ?_)
        have g31 : (0 : Int) ≤ (u.1 85 0).toInt ∧ (u.1 85 0).toInt ≤ 1 := hR 85 0
        exact L57 10 x2 (0 : Int32) _ _ _ _ hR hF (by decide) (by omega) (by decide) (by omega : (0 : Int) ≤ (u.1 85 0).toInt ∧ (u.1 85 0).toInt ≤ 0) hP hD hS (lv_sub hl [1, 3, 0] rfl)
      · refine lv_aload_n F.1 F.2.1 dX12_way_31 rfl (lv_at hl 0 rfl) ?_
        refine a_getr F inX12 hP 85 21 tc_85 rfl rfl (by decide) q1492 (fun _ h9 => h9) dX12_way_32 ?_
        refine lv_iload_n F.1 F.2.1 dX12_way_35 rfl (lv_at hl 3 rfl) ?_
        refine lv_iload_n F.1 F.2.1 dX12_way_36 rfl (lv_at hl 3 rfl) ?_
        refine lv_iload_n F.1 F.2.1 dX12_way_37 rfl (lv_at hl 1 rfl) ?_
        refine b_ne F 45 dX12_way_38 (by decide) rfl rfl (fun c32 => ?_) (fun c32 => ?_)
        · refine a_sp F (1000 : Int32) dX12_way_45 (by decide) ?_
          have g33 : (0 : Int) ≤ (u.1 85 0).toInt ∧ (u.1 85 0).toInt ≤ 1 := hR 85 0
          exact L48 x1 x2 x3 x3 (1000 : Int32) _ _ _ _ hR hF (by omega) (by omega) (by omega) (by omega) (by decide) (by omega : (0 : Int) ≤ (u.1 85 0).toInt ∧ (u.1 85 0).toInt ≤ 0) (by omega) hP hD hS (lv_sub hl [0, 1, 2, 3] rfl)
        · refine a_ic F (0 : Int32) dX12_way_41 (by decide) ?_
          refine lv_goto (tgt := 48) F.1 F.2.1 dX12_way_42 (by decide) ?_
          have g34 : (0 : Int) ≤ (u.1 85 0).toInt ∧ (u.1 85 0).toInt ≤ 1 := hR 85 0
          exact L48 x1 x2 x3 x3 (0 : Int32) _ _ _ _ hR hF (by omega) (by omega) (by omega) (by omega) (by decide) (by omega : (0 : Int) ≤ (u.1 85 0).toInt ∧ (u.1 85 0).toInt ≤ 0) (by omega) hP hD hS (lv_sub hl [0, 1, 2, 3] rfl)
  have L21 : ∀ (u : ac_U) (H : Heap) (locs : List Loc) (ls : Array Slot), ac_R rg u → ac_Fr [(85, some 0), (92, none)] u0 u → (0 : Int) ≤ (u.1 85 0).toInt ∧ (u.1 85 0).toInt ≤ 0 → va_P (dC, dI) vwCl (ac_w ad cA (TT nF) u) H → va_D A (ac_w ad cA (TT nF) u) → va_S A s.heap H locs → lv_has ls 6 [] → W p l e (ac_rm 3) s m [.ref (ad 85), .int p0, .int p1].toArray below meth c H locs 0 0 (MQ below (va_Qi (fun (r : Int32) (u : ac_U) => ac_R rg u ∧ ac_Fr [(85, some 0), (92, none)] u0 u) (ac_B (dC, dI) vwCl (ac_ty cA) ad cA (TT nF) A) A) [.ref (ad 85), .int p0, .int p1].toArray s 0 0 A) (F0 m 21 ls []) := by
    intro u H locs ls hR hF f0 hP hD hS hl
    refine a_ic F (-1 : Int32) dX12_way_21 (by decide) ?_
    exact a_reti F hr hlocks hP hD hS dX12_way_22 ⟨hR, hF⟩
  refine lv_aload_n F.1 F.2.1 dX12_way_0 rfl (lv_at hl 0 rfl) ?_
  refine a_ic F (0 : Int32) dX12_way_1 (by decide) ?_
  refine a_puti F inX12 tyX12 tyX12_ok nmX12 hP hD hS 85 0 tc_85 rfl rfl (by decide) q1471 (fun _ h9 => h9) rfl (ty := .int) (tyX12_ok 0 (by decide)) rfl rfl dX12_way_2 (fun H locs hP hD hS => ?_)
  have hR := hR.si (c := 85) (k := 0) (v := (0 : Int32)) (by rw [ic_0]; exact (by omega : (0 : Int) ≤ (0 : Int) ∧ (0 : Int) ≤ 1))
  have hF := hF.si (c := 85) (k := 0) (v := (0 : Int32)) rfl
  refine lv_aload_n F.1 F.2.1 dX12_way_5 rfl (lv_at hl 0 rfl) ?_
  refine lv_iload_n F.1 F.2.1 dX12_way_6 rfl (lv_at hl 1 rfl) ?_
  refine a_Vi F hml hl.1 hA hP hD hS (As := [.int p0]) (c_X12_isPlace_85 l dC dI ad cA nF _ p0 hR) (cs_RX12_254 (d := 2) F.2.2.1 (by decide)) tc_85 rfl rfl rfl rfl (Nat.le_of_ble_eq_true rfl) dX12_way_7 ⟨Nat.le_refl 0, Nat.le_refl 0⟩ (fun r35 uN35 H locs hq hP hD hS => ?_)
  obtain ⟨hu35, gr35, xr35⟩ := hq
  rw [hu35] at hP hD
  have xr35 : r35.toInt ≠ 0 → 0 ≤ p0.toInt ∧ p0.toInt ≤ 7 := xr35
  refine z_eq F 21 dX12_way_10 (by decide) rfl (fun c36 => ?_) (fun c36 => ?_)
  · exact L21 _ _ _ _ hR hF (by omega : (0 : Int) ≤ (0 : Int) ∧ (0 : Int) ≤ 0) hP hD hS (lv_sub hl [] rfl)
  · refine lv_aload_n F.1 F.2.1 dX12_way_13 rfl (lv_at hl 0 rfl) ?_
    refine lv_iload_n F.1 F.2.1 dX12_way_14 rfl (lv_at hl 2 rfl) ?_
    refine a_Vi F hml hl.1 hA hP hD hS (As := [.int p1]) (c_X12_isPlace_85 l dC dI ad cA nF _ p1 hR) (cs_RX12_254 (d := 2) F.2.2.1 (by decide)) tc_85 rfl rfl rfl rfl (Nat.le_of_ble_eq_true rfl) dX12_way_15 ⟨Nat.le_refl 0, Nat.le_refl 0⟩ (fun r37 uN37 H locs hq hP hD hS => ?_)
    obtain ⟨hu37, gr37, xr37⟩ := hq
    rw [hu37] at hP hD
    have xr37 : r37.toInt ≠ 0 → 0 ≤ p1.toInt ∧ p1.toInt ≤ 7 := xr37
    refine z_ne F 23 dX12_way_18 (by decide) rfl (fun c38 => ?_) (fun c38 => ?_)
    · refine a_ic F (0 : Int32) dX12_way_23 (by decide) ?_
      refine lv_istore_n (lv' := [(3, .int (0 : Int32)), (0, .ref (ad 85)), (1, .int p0), (2, .int p1)]) F.1 F.2.1 dX12_way_24 rfl hl (by decide) rfl (fun ls hl => ?_)
      exact L25 10 p0 p1 (0 : Int32) _ _ _ _ hR hF (by decide) (by omega) (by omega) (by decide) (by omega : (0 : Int) ≤ (0 : Int) ∧ (0 : Int) ≤ 0) hP hD hS (lv_sub hl [1, 2, 3, 0] rfl)
    · exact L21 _ _ _ _ hR hF (by omega : (0 : Int) ≤ (0 : Int) ∧ (0 : Int) ≤ 0) hP hD hS (lv_sub hl [] rfl)
set_option maxHeartbeats 600000 in
set_option maxRecDepth 100000 in
theorem c_X12_whyGo_85 (l : Launch) (dC : Nat → ClassId) (dI : Nat → Nat → Nat) (ad : Nat → Nat) (cA : Nat → ClassId) (nF : Nat) (u0 : ac_U) (p0 : Int32) (p1 : Int32) (hR : ac_R rg u0) : ac_Mi l yX12_whyGo (.code yX12_whyGo cX12_whyGo 3 (some .int) :: TB) 3 (dC, dI) vwCl (ac_ty cA) ad cA (TT nF) [.ref (ad 85), .int p0, .int p1] u0 (fun (r : Int32) (u : ac_U) => ac_R rg u ∧ ac_Fr [(85, some 0)] u0 u ∧ ((-1 : Int) ≤ r.toInt ∧ r.toInt ≤ 3)) := by
  refine ac_Mi.of (cc := cX12_whyGo) (maxL := 3) (ret := (some .int)) (by decide) rfl (Nat.le_of_ble_eq_true rfl) ?_
  intro p e s m below meth c A ls F hml hr hlocks hA hP hD hS hl
  have F : ac_X p s m [.ref (ad 85), .int p0, .int p1].toArray c cX12_whyGo RX12 TB (dC, dI) vwCl (ac_ty cA) := ⟨F.1, F.2.1, fun w h => F.2.2.1 w (List.mem_cons_of_mem _ h), F.2.2.2.1, F.2.2.2.2⟩
  have hl : lv_has ls 3 [(0, .ref (ad 85)), (1, .int p0), (2, .int p1)] := hl
  have hF : ac_Fr [(85, some 0)] u0 u0 := ac_Fr.rf
  have L30 : ∀ (u : ac_U) (H : Heap) (locs : List Loc) (ls : Array Slot), ac_R rg u → ac_Fr [(85, some 0)] u0 u → (0 : Int) ≤ (u.1 85 0).toInt ∧ (u.1 85 0).toInt ≤ 0 → va_P (dC, dI) vwCl (ac_w ad cA (TT nF) u) H → va_D A (ac_w ad cA (TT nF) u) → va_S A s.heap H locs → lv_has ls 3 [] → W p l e (ac_rm 3) s m [.ref (ad 85), .int p0, .int p1].toArray below meth c H locs 0 0 (MQ below (va_Qi (fun (r : Int32) (u : ac_U) => ac_R rg u ∧ ac_Fr [(85, some 0)] u0 u ∧ ((-1 : Int) ≤ r.toInt ∧ r.toInt ≤ 3)) (ac_B (dC, dI) vwCl (ac_ty cA) ad cA (TT nF) A) A) [.ref (ad 85), .int p0, .int p1].toArray s 0 0 A) (F0 m 30 ls []) := by
    intro u H locs ls hR hF f0 hP hD hS hl
    refine a_ic F (-1 : Int32) dX12_whyGo_30 (by decide) ?_
    exact a_reti F hr hlocks hP hD hS dX12_whyGo_31 ⟨hR, hF, (by decide)⟩
  refine lv_aload_n F.1 F.2.1 dX12_whyGo_0 rfl (lv_at hl 0 rfl) ?_
  refine a_ic F (0 : Int32) dX12_whyGo_1 (by decide) ?_
  refine a_puti F inX12 tyX12 tyX12_ok nmX12 hP hD hS 85 0 tc_85 rfl rfl (by decide) q1471 (fun _ h9 => h9) rfl (ty := .int) (tyX12_ok 0 (by decide)) rfl rfl dX12_whyGo_2 (fun H locs hP hD hS => ?_)
  have hR := hR.si (c := 85) (k := 0) (v := (0 : Int32)) (by rw [ic_0]; exact (by omega : (0 : Int) ≤ (0 : Int) ∧ (0 : Int) ≤ 1))
  have hF := hF.si (c := 85) (k := 0) (v := (0 : Int32)) rfl
  refine lv_aload_n F.1 F.2.1 dX12_whyGo_5 rfl (lv_at hl 0 rfl) ?_
  refine lv_iload_n F.1 F.2.1 dX12_whyGo_6 rfl (lv_at hl 1 rfl) ?_
  refine a_Vi F hml hl.1 hA hP hD hS (As := [.int p0]) (c_X12_isPerson_85 l dC dI ad cA nF _ p0 hR) (cs_RX12_251 (d := 2) F.2.2.1 (by decide)) tc_85 rfl rfl rfl rfl (Nat.le_of_ble_eq_true rfl) dX12_whyGo_7 ⟨Nat.le_refl 0, Nat.le_refl 0⟩ (fun r1 uN1 H locs hq hP hD hS => ?_)
  obtain ⟨hu1, gr1, xr1⟩ := hq
  rw [hu1] at hP hD
  have xr1 : r1.toInt ≠ 0 → 0 ≤ p0.toInt ∧ p0.toInt ≤ 3 := xr1
  refine z_eq F 30 dX12_whyGo_10 (by decide) rfl (fun c2 => ?_) (fun c2 => ?_)
  · exact L30 _ _ _ _ hR hF (by omega : (0 : Int) ≤ (0 : Int) ∧ (0 : Int) ≤ 0) hP hD hS (lv_sub hl [] rfl)
  · refine lv_aload_n F.1 F.2.1 dX12_whyGo_13 rfl (lv_at hl 0 rfl) ?_
    refine lv_iload_n F.1 F.2.1 dX12_whyGo_14 rfl (lv_at hl 2 rfl) ?_
    refine a_Vi F hml hl.1 hA hP hD hS (As := [.int p1]) (c_X12_isPlace_85 l dC dI ad cA nF _ p1 hR) (cs_RX12_254 (d := 2) F.2.2.1 (by decide)) tc_85 rfl rfl rfl rfl (Nat.le_of_ble_eq_true rfl) dX12_whyGo_15 ⟨Nat.le_refl 0, Nat.le_refl 0⟩ (fun r3 uN3 H locs hq hP hD hS => ?_)
    obtain ⟨hu3, gr3, xr3⟩ := hq
    rw [hu3] at hP hD
    have xr3 : r3.toInt ≠ 0 → 0 ≤ p1.toInt ∧ p1.toInt ≤ 7 := xr3
    refine z_eq F 30 dX12_whyGo_18 (by decide) rfl (fun c4 => ?_) (fun c4 => ?_)
    · exact L30 _ _ _ _ hR hF (by omega : (0 : Int) ≤ (0 : Int) ∧ (0 : Int) ≤ 0) hP hD hS (lv_sub hl [] rfl)
    · refine lv_aload_n F.1 F.2.1 dX12_whyGo_21 rfl (lv_at hl 0 rfl) ?_
      refine lv_iload_n F.1 F.2.1 dX12_whyGo_22 rfl (lv_at hl 1 rfl) ?_
      refine lv_iload_n F.1 F.2.1 dX12_whyGo_23 rfl (lv_at hl 2 rfl) ?_
      refine a_Vi F hml hl.1 hA hP hD hS (As := [.int p0, .int p1]) (c_X12_whyGoOf_85 l dC dI ad cA nF _ p0 p1 hR (by omega) (by omega)) (cs_RX12_266 (d := 2) F.2.2.1 (by decide)) tc_85 rfl rfl rfl rfl (Nat.le_of_ble_eq_true rfl) dX12_whyGo_24 ⟨Nat.le_refl 0, Nat.le_refl 0⟩ (fun r5 uN5 H locs hq hP hD hS => ?_)
      obtain ⟨hu5, gr5⟩ := hq
      rw [hu5] at hP hD
      refine lv_goto (tgt := 31) F.1 F.2.1 dX12_whyGo_27 (by decide) ?_
      exact a_reti F hr hlocks hP hD hS dX12_whyGo_31 ⟨hR, hF, (by omega : (-1 : Int) ≤ r5.toInt ∧ r5.toInt ≤ 3)⟩

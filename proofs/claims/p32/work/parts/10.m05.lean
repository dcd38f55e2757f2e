set_option maxHeartbeats 600000 in
set_option maxRecDepth 100000 in
theorem c_X12_done_85 (l : Launch) (dC : Nat → ClassId) (dI : Nat → Nat → Nat) (ad : Nat → Nat) (cA : Nat → ClassId) (nF : Nat) (u0 : ac_U) (p0 : Int32) (p1 : Int32) (hR : ac_R rg u0) : ac_Mi l yX12_done (.code yX12_done cX12_done 3 (some .int) :: TB) 2 (dC, dI) vwCl (ac_ty cA) ad cA (TT nF) [.ref (ad 85), .int p0, .int p1] u0 (fun (r : Int32) (u : ac_U) => ac_R rg u ∧ ac_Fr [(85, some 0)] u0 u) := by
  refine ac_Mi.of (cc := cX12_done) (maxL := 3) (ret := (some .int)) (by decide) rfl (Nat.le_of_ble_eq_true rfl) ?_
  intro p e s m below meth c A ls F hml hr hlocks hA hP hD hS hl
  have F : ac_X p s m [.ref (ad 85), .int p0, .int p1].toArray c cX12_done RX12 TB (dC, dI) vwCl (ac_ty cA) := ⟨F.1, F.2.1, fun w h => F.2.2.1 w (List.mem_cons_of_mem _ h), F.2.2.2.1, F.2.2.2.2⟩
  have hl : lv_has ls 3 [(0, .ref (ad 85)), (1, .int p0), (2, .int p1)] := hl
  have hF : ac_Fr [(85, some 0)] u0 u0 := ac_Fr.rf
  have L48 : ∀ (u : ac_U) (H : Heap) (locs : List Loc) (ls : Array Slot), ac_R rg u → ac_Fr [(85, some 0)] u0 u → (0 : Int) ≤ (u.1 85 0).toInt ∧ (u.1 85 0).toInt ≤ 0 → va_P (dC, dI) vwCl (ac_w ad cA (TT nF) u) H → va_D A (ac_w ad cA (TT nF) u) → va_S A s.heap H locs → lv_has ls 3 [] → W p l e (ac_rm 2) s m [.ref (ad 85), .int p0, .int p1].toArray below meth c H locs 0 0 (MQ below (va_Qi (fun (r : Int32) (u : ac_U) => ac_R rg u ∧ ac_Fr [(85, some 0)] u0 u) (ac_B (dC, dI) vwCl (ac_ty cA) ad cA (TT nF) A) A) [.ref (ad 85), .int p0, .int p1].toArray s 0 0 A) (F0 m 48 ls []) := by
    intro u H locs ls hR hF f0 hP hD hS hl
    refine a_ic F (-1 : Int32) dX12_done_48 (by decide) ?_
    exact a_reti F hr hlocks hP hD hS dX12_done_49 ⟨hR, hF⟩
  refine lv_aload_n F.1 F.2.1 dX12_done_0 rfl (lv_at hl 0 rfl) ?_
  refine a_ic F (0 : Int32) dX12_done_1 (by decide) ?_
  refine a_puti F inX12 tyX12 tyX12_ok nmX12 hP hD hS 85 0 tc_85 rfl rfl (by decide) q1471 (fun _ h9 => h9) rfl (ty := .int) (tyX12_ok 0 (by decide)) rfl rfl dX12_done_2 (fun H locs hP hD hS => ?_)
  have hR := hR.si (c := 85) (k := 0) (v := (0 : Int32)) (by rw [ic_0]; exact (by omega : (0 : Int) ≤ (0 : Int) ∧ (0 : Int) ≤ 1))
  have hF := hF.si (c := 85) (k := 0) (v := (0 : Int32)) rfl
  refine lv_iload_n F.1 F.2.1 dX12_done_5 rfl (lv_at hl 1 rfl) ?_
  refine a_ic F (0 : Int32) dX12_done_6 (by decide) ?_
  refine lv_aload_n F.1 F.2.1 dX12_done_7 rfl (lv_at hl 0 rfl) ?_
  refine a_getr F inX12 hP 85 6 tc_85 rfl rfl (by decide) q1477 (fun _ h9 => h9) dX12_done_8 ?_
  refine a_bp F (123 : Int32) dX12_done_11 (by decide) ?_
  have g1 : (0 : Int) ≤ (u0.1 87 123).toInt ∧ (u0.1 87 123).toInt ≤ 80 := hR 87 123
  refine a_ialdK F hP 87 123 tc_87 rfl rfl (i_in ic_123 (by omega)) (v := (u0.1 87 123)) rfl dX12_done_13 ?_
  refine a_ic F (1 : Int32) dX12_done_14 (by decide) ?_
  refine a_isub F dX12_done_15 rfl ic_1 (by omega) (fun v2 hv2 => ?_)
  refine a_Si F hml hl.1 hA hP hD hS (As := [.int p0, .int (0 : Int32), .int v2]) (c_X12_isIn l dC dI ad cA nF _ p0 (0 : Int32) v2 hR (by omega)) (cs_RX12_187 (d := 1) F.2.2.1 (by decide)) rfl rfl (Nat.le_of_ble_eq_true rfl) dX12_done_16 ⟨Nat.le_refl 0, Nat.le_refl 0⟩ (fun r3 uN3 H locs hq hP hD hS => ?_)
  obtain ⟨hu3, gr3, xr3⟩ := hq
  rw [hu3] at hP hD
  have xr3 : r3.toInt ≠ 0 → (0 : Int) ≤ p0.toInt ∧ p0.toInt ≤ v2.toInt := xr3
  refine z_eq F 48 dX12_done_19 (by decide) rfl (fun c4 => ?_) (fun c4 => ?_)
  · exact L48 _ _ _ _ hR hF (by omega : (0 : Int) ≤ (0 : Int) ∧ (0 : Int) ≤ 0) hP hD hS (lv_sub hl [] rfl)
  · refine lv_iload_n F.1 F.2.1 dX12_done_22 rfl (lv_at hl 2 rfl) ?_
    refine a_ic F (0 : Int32) dX12_done_23 (by decide) ?_
    refine a_ic F (3 : Int32) dX12_done_24 (by decide) ?_
    refine a_Si F hml hl.1 hA hP hD hS (As := [.int p1, .int (0 : Int32), .int (3 : Int32)]) (c_X12_isIn l dC dI ad cA nF _ p1 (0 : Int32) (3 : Int32) hR (by decide)) (cs_RX12_187 (d := 1) F.2.2.1 (by decide)) rfl rfl (Nat.le_of_ble_eq_true rfl) dX12_done_25 ⟨Nat.le_refl 0, Nat.le_refl 0⟩ (fun r5 uN5 H locs hq hP hD hS => ?_)
    obtain ⟨hu5, gr5, xr5⟩ := hq
    rw [hu5] at hP hD
    have xr5 : r5.toInt ≠ 0 → (0 : Int) ≤ p1.toInt ∧ p1.toInt ≤ (3 : Int) := xr5
    refine z_eq F 48 dX12_done_28 (by decide) rfl (fun c6 => ?_) (fun c6 => ?_)
    · exact L48 _ _ _ _ hR hF (by omega : (0 : Int) ≤ (0 : Int) ∧ (0 : Int) ≤ 0) hP hD hS (lv_sub hl [] rfl)
    · refine lv_aload_n F.1 F.2.1 dX12_done_31 rfl (lv_at hl 0 rfl) ?_
      refine a_getr F inX12 hP 85 6 tc_85 rfl rfl (by decide) q1477 (fun _ h9 => h9) dX12_done_32 ?_
      refine a_sp F (148 : Int32) dX12_done_35 (by decide) ?_
      refine a_ic F (4 : Int32) dX12_done_38 (by decide) ?_
      refine lv_iload_n F.1 F.2.1 dX12_done_39 rfl (lv_at hl 1 rfl) ?_
      refine a_imul F dX12_done_40 ic_4 rfl (by omega) (fun v7 hv7 => ?_)
      refine a_iadd F dX12_done_41 ic_148 rfl (by omega) (fun v8 hv8 => ?_)
      refine lv_iload_n F.1 F.2.1 dX12_done_42 rfl (lv_at hl 2 rfl) ?_
      refine a_iadd F dX12_done_43 rfl rfl (by omega) (fun v9 hv9 => ?_)
      refine a_iald F hP 87 tc_87 rfl (i_in rfl (by omega)) dX12_done_44 (fun v10 ev10 => ?_)
      refine lv_goto (tgt := 49) F.1 F.2.1 dX12_done_45 (by decide) ?_
      exact a_reti F hr hlocks hP hD hS dX12_done_49 ⟨hR, hF⟩
set_option maxHeartbeats 600000 in
set_option maxRecDepth 100000 in
theorem c_X12_fault_85 (l : Launch) (dC : Nat → ClassId) (dI : Nat → Nat → Nat) (ad : Nat → Nat) (cA : Nat → ClassId) (nF : Nat) (u0 : ac_U)  (hR : ac_R rg u0) : ac_Mi l yX12_fault (.code yX12_fault cX12_fault 1 (some .int) :: TB) 1 (dC, dI) vwCl (ac_ty cA) ad cA (TT nF) [.ref (ad 85)] u0 (fun (r : Int32) (u : ac_U) => ac_R rg u ∧ ac_Fr [(85, some 0)] u0 u) := by
  refine ac_Mi.of (cc := cX12_fault) (maxL := 1) (ret := (some .int)) (by decide) rfl (Nat.le_of_ble_eq_true rfl) ?_
  intro p e s m below meth c A ls F hml hr hlocks hA hP hD hS hl
  have F : ac_X p s m [.ref (ad 85)].toArray c cX12_fault RX12 TB (dC, dI) vwCl (ac_ty cA) := ⟨F.1, F.2.1, fun w h => F.2.2.1 w (List.mem_cons_of_mem _ h), F.2.2.2.1, F.2.2.2.2⟩
  have hl : lv_has ls 1 [(0, .ref (ad 85))] := hl
  have hF : ac_Fr [(85, some 0)] u0 u0 := ac_Fr.rf
  refine lv_aload_n F.1 F.2.1 dX12_fault_0 rfl (lv_at hl 0 rfl) ?_
  refine a_ic F (0 : Int32) dX12_fault_1 (by decide) ?_
  refine a_puti F inX12 tyX12 tyX12_ok nmX12 hP hD hS 85 0 tc_85 rfl rfl (by decide) q1471 (fun _ h9 => h9) rfl (ty := .int) (tyX12_ok 0 (by decide)) rfl rfl dX12_fault_2 (fun H locs hP hD hS => ?_)
  have hR := hR.si (c := 85) (k := 0) (v := (0 : Int32)) (by rw [ic_0]; exact (by omega : (0 : Int) ≤ (0 : Int) ∧ (0 : Int) ≤ 1))
  have hF := hF.si (c := 85) (k := 0) (v := (0 : Int32)) rfl
  refine lv_aload_n F.1 F.2.1 dX12_fault_5 rfl (lv_at hl 0 rfl) ?_
  refine a_geti F inX12 hP 85 15 tc_85 rfl rfl (by decide) q1486 (fun _ h9 => h9) (v := (u0.1 85 15)) rfl dX12_fault_6 ?_
  exact a_reti F hr hlocks hP hD hS dX12_fault_9 ⟨hR, hF⟩
set_option maxHeartbeats 600000 in
set_option maxRecDepth 100000 in
theorem c_X12_fits_85 (l : Launch) (dC : Nat → ClassId) (dI : Nat → Nat → Nat) (ad : Nat → Nat) (cA : Nat → ClassId) (nF : Nat) (u0 : ac_U) (p0 : Int32) (p1 : Int32) (p2 : Int32) (p3 : Int32) (p4 : Int32) (hR : ac_R rg u0) (hp0 : (0 : Int) ≤ p0.toInt ∧ p0.toInt ≤ 3) (hp1 : (0 : Int) ≤ p1.toInt ∧ p1.toInt ≤ 5) (hp2 : (0 : Int) ≤ p2.toInt ∧ p2.toInt ≤ 7) (hp3 : (0 : Int) ≤ p3.toInt ∧ p3.toInt ≤ 24) (hp4 : (0 : Int) ≤ p4.toInt ∧ p4.toInt ≤ 79) : ac_Mi l yX12_fits (.code yX12_fits cX12_fits 10 (some .boolean) :: TB) 2 (dC, dI) vwCl (ac_ty cA) ad cA (TT nF) [.ref (ad 85), .int p0, .int p1, .int p2, .int p3, .int p4] u0 (fun (r : Int32) (u : ac_U) => u = u0 ∧ ((0 : Int) ≤ r.toInt ∧ r.toInt ≤ 1)) := by
  refine ac_Mi.of (cc := cX12_fits) (maxL := 10) (ret := (some .boolean)) (by decide) rfl (Nat.le_of_ble_eq_true rfl) ?_
  intro p e s m below meth c A ls F hml hr hlocks hA hP hD hS hl
  have F : ac_X p s m [.ref (ad 85), .int p0, .int p1, .int p2, .int p3, .int p4].toArray c cX12_fits RX12 TB (dC, dI) vwCl (ac_ty cA) := ⟨F.1, F.2.1, fun w h => F.2.2.1 w (List.mem_cons_of_mem _ h), F.2.2.2.1, F.2.2.2.2⟩
  have hl : lv_has ls 10 [(0, .ref (ad 85)), (1, .int p0), (2, .int p1), (3, .int p2), (4, .int p3), (5, .int p4)] := hl
  have L3 : ∀ (n3 : Nat) (x6 : Int32) (H : Heap) (locs : List Loc) (ls : Array Slot), 121 - x6.toInt < (n3 : Int) → (0 : Int) ≤ x6.toInt ∧ x6.toInt ≤ 121 → va_P (dC, dI) vwCl (ac_w ad cA (TT nF) u0) H → va_D A (ac_w ad cA (TT nF) u0) → va_S A s.heap H locs → lv_has ls 10 [(0, .ref (ad 85)), (1, .int p0), (2, .int p1), (3, .int p2), (4, .int p3), (5, .int p4), (6, .int x6)] → W p l e (ac_rm 2) s m [.ref (ad 85), .int p0, .int p1, .int p2, .int p3, .int p4].toArray below meth c H locs 0 0 (MQ below (va_Qi (fun (r : Int32) (u : ac_U) => u = u0 ∧ ((0 : Int) ≤ r.toInt ∧ r.toInt ≤ 1)) (ac_B (dC, dI) vwCl (ac_ty cA) ad cA (TT nF) A) A) [.ref (ad 85), .int p0, .int p1, .int p2, .int p3, .int p4].toArray s 0 0 A) (F0 m 3 ls []) := by
    intro n3
    induction n3 with
    | zero => intro x6 H locs ls hn3 f0 hP hD hS hl; exfalso; omega
    | succ n3 ih3 =>
      intro x6 H locs ls hn3 f0 hP hD hS hl
      have L18 : ∀ (n18 : Nat) (x6 : Int32) (x7 : Int32) (x8 : Int32) (H : Heap) (locs : List Loc) (ls : Array Slot), 80 - x8.toInt < (n18 : Int) → (0 : Int) ≤ x6.toInt ∧ x6.toInt ≤ 120 → (0 : Int) ≤ x7.toInt ∧ x7.toInt ≤ 1 → (0 : Int) ≤ x8.toInt ∧ x8.toInt ≤ 80 → 121 - x6.toInt + 0 < ((n3 : Nat) : Int) + 1 → va_P (dC, dI) vwCl (ac_w ad cA (TT nF) u0) H → va_D A (ac_w ad cA (TT nF) u0) → va_S A s.heap H locs → lv_has ls 10 [(0, .ref (ad 85)), (1, .int p0), (2, .int p1), (3, .int p2), (4, .int p3), (5, .int p4), (6, .int x6), (7, .int x7), (8, .int x8)] → W p l e (ac_rm 2) s m [.ref (ad 85), .int p0, .int p1, .int p2, .int p3, .int p4].toArray below meth c H locs 0 0 (MQ below (va_Qi (fun (r : Int32) (u : ac_U) => u = u0 ∧ ((0 : Int) ≤ r.toInt ∧ r.toInt ≤ 1)) (ac_B (dC, dI) vwCl (ac_ty cA) ad cA (TT nF) A) A) [.ref (ad 85), .int p0, .int p1, .int p2, .int p3, .int p4].toArray s 0 0 A) (F0 m 18 ls []) := by
        intro n18
        induction n18 with
        | zero => intro x6 x7 x8 H locs ls hn18 f0 f1 f2 f3 hP hD hS hl; exfalso; omega
        | succ n18 ih18 =>
          intro x6 x7 x8 H locs ls hn18 f0 f1 f2 f3 hP hD hS hl
          have L116 : ∀ (x6 : Int32) (x8 : Int32) (z0 : Int32) (H : Heap) (locs : List Loc) (ls : Array Slot), (0 : Int) ≤ x6.toInt ∧ x6.toInt ≤ 120 → (0 : Int) ≤ x8.toInt ∧ x8.toInt ≤ 79 → (0 : Int) ≤ z0.toInt ∧ z0.toInt ≤ 1 → (1 : Int) ≤ (u0.1 87 123).toInt ∧ (u0.1 87 123).toInt ≤ 80 → 121 - x6.toInt + 0 < ((n3 : Nat) : Int) + 1 → 80 - x8.toInt + 0 < ((n18 : Nat) : Int) + 1 → va_P (dC, dI) vwCl (ac_w ad cA (TT nF) u0) H → va_D A (ac_w ad cA (TT nF) u0) → va_S A s.heap H locs → lv_has ls 10 [(0, .ref (ad 85)), (1, .int p0), (2, .int p1), (3, .int p2), (4, .int p3), (5, .int p4), (6, .int x6), (8, .int x8)] → W p l e (ac_rm 2) s m [.ref (ad 85), .int p0, .int p1, .int p2, .int p3, .int p4].toArray below meth c H locs 0 0 (MQ below (va_Qi (fun (r : Int32) (u : ac_U) => u = u0 ∧ ((0 : Int) ≤ r.toInt ∧ r.toInt ≤ 1)) (ac_B (dC, dI) vwCl (ac_ty cA) ad cA (TT nF) A) A) [.ref (ad 85), .int p0, .int p1, .int p2, .int p3, .int p4].toArray s 0 0 A) (F0 m 116 ls [.int z0]) := by
            intro x6 x8 z0 H locs ls f0 f1 f2 f3 f4 f5 hP hD hS hl
            refine lv_istore (lv' := [(7, .int z0), (0, .ref (ad 85)), (1, .int p0), (2, .int p1), (3, .int p2), (4, .int p3), (5, .int p4), (6, .int x6), (8, .int x8)]) F.1 F.2.1 dX12_fits_116 hl (by decide) rfl (fun ls hl => ?_)
            refine a_iinc F (k := 8) (fun v1 => [(8, .int v1), (7, .int z0), (0, .ref (ad 85)), (1, .int p0), (2, .int p1), (3, .int p2), (4, .int p3), (5, .int p4), (6, .int x6)]) dX12_fits_118 hl rfl rfl (by decide) (by omega) (by decide) (fun _ => rfl) (fun v1 ls hv1 hl => ?_)
            refine lv_goto (tgt := 18) F.1 F.2.1 dX12_fits_121 (by decide) ?_
            exact ih18 x6 z0 v1 _ _ _ (by omega) (by omega) (by omega) (by omega) (by omega) hP hD hS (lv_sub hl [2, 3, 4, 5, 6, 7, 8, 1, 0] rfl)
          have L115 : ∀ (x6 : Int32) (x8 : Int32) (H : Heap) (locs : List Loc) (ls : Array Slot), (0 : Int) ≤ x6.toInt ∧ x6.toInt ≤ 120 → (0 : Int) ≤ x8.toInt ∧ x8.toInt ≤ 79 → (1 : Int) ≤ (u0.1 87 123).toInt ∧ (u0.1 87 123).toInt ≤ 80 → 121 - x6.toInt + 0 < ((n3 : Nat) : Int) + 1 → 80 - x8.toInt + 0 < ((n18 : Nat) : Int) + 1 → va_P (dC, dI) vwCl (ac_w ad cA (TT nF) u0) H → va_D A (ac_w ad cA (TT nF) u0) → va_S A s.heap H locs → lv_has ls 10 [(0, .ref (ad 85)), (1, .int p0), (2, .int p1), (3, .int p2), (4, .int p3), (5, .int p4), (6, .int x6), (8, .int x8)] → W p l e (ac_rm 2) s m [.ref (ad 85), .int p0, .int p1, .int p2, .int p3, .int p4].toArray below meth c H locs 0 0 (MQ below (va_Qi (fun (r : Int32) (u : ac_U) => u = u0 ∧ ((0 : Int) ≤ r.toInt ∧ r.toInt ≤ 1)) (ac_B (dC, dI) vwCl (ac_ty cA) ad cA (TT nF) A) A) [.ref (ad 85), .int p0, .int p1, .int p2, .int p3, .int p4].toArray s 0 0 A) (F0 m 115 ls []) := by
            intro x6 x8 H locs ls f0 f1 f2 f3 f4 hP hD hS hl
            refine a_ic F (0 : Int32) dX12_fits_115 (by decide) ?_
            have g2 : (0 : Int) ≤ (u0.1 87 123).toInt ∧ (u0.1 87 123).toInt ≤ 80 := hR 87 123
            exact L116 x6 x8 (0 : Int32) _ _ _ (by omega) (by omega) (by decide) (by omega : (1 : Int) ≤ (u0.1 87 123).toInt ∧ (u0.1 87 123).toInt ≤ 80) (by omega) (by omega) hP hD hS (lv_sub hl [0, 1, 2, 3, 4, 5, 6, 7] rfl)
          have L111 : ∀ (x6 : Int32) (x8 : Int32) (H : Heap) (locs : List Loc) (ls : Array Slot), (0 : Int) ≤ x6.toInt ∧ x6.toInt ≤ 120 → (0 : Int) ≤ x8.toInt ∧ x8.toInt ≤ 79 → (1 : Int) ≤ (u0.1 87 123).toInt ∧ (u0.1 87 123).toInt ≤ 80 → 121 - x6.toInt + 0 < ((n3 : Nat) : Int) + 1 → 80 - x8.toInt + 0 < ((n18 : Nat) : Int) + 1 → va_P (dC, dI) vwCl (ac_w ad cA (TT nF) u0) H → va_D A (ac_w ad cA (TT nF) u0) → va_S A s.heap H locs → lv_has ls 10 [(0, .ref (ad 85)), (1, .int p0), (2, .int p1), (3, .int p2), (4, .int p3), (5, .int p4), (6, .int x6), (8, .int x8)] → W p l e (ac_rm 2) s m [.ref (ad 85), .int p0, .int p1, .int p2, .int p3, .int p4].toArray below meth c H locs 0 0 (MQ below (va_Qi (fun (r : Int32) (u : ac_U) => u = u0 ∧ ((0 : Int) ≤ r.toInt ∧ r.toInt ≤ 1)) (ac_B (dC, dI) vwCl (ac_ty cA) ad cA (TT nF) A) A) [.ref (ad 85), .int p0, .int p1, .int p2, .int p3, .int p4].toArray s 0 0 A) (F0 m 111 ls []) := by
            intro x6 x8 H locs ls f0 f1 f2 f3 f4 hP hD hS hl
            refine a_ic F (1 : Int32) dX12_fits_111 (by decide) ?_
            refine lv_goto (tgt := 116) F.1 F.2.1 dX12_fits_112 (by decide) ?_
            have g3 : (0 : Int) ≤ (u0.1 87 123).toInt ∧ (u0.1 87 123).toInt ≤ 80 := hR 87 123
            exact L116 x6 x8 (1 : Int32) _ _ _ (by omega) (by omega) (by decide) (by omega : (1 : Int) ≤ (u0.1 87 123).toInt ∧ (u0.1 87 123).toInt ≤ 80) (by omega) (by omega) hP hD hS (lv_sub hl [0, 1, 2, 3, 4, 5, 6, 7] rfl)
          refine lv_iload F.1 F.2.1 dX12_fits_18 (lv_at hl 8 rfl) ?_
          refine lv_aload_n F.1 F.2.1 dX12_fits_20 rfl (lv_at hl 0 rfl) ?_
          refine a_getr F inX12 hP 85 6 tc_85 rfl rfl (by decide) q1477 (fun _ h9 => h9) dX12_fits_21 ?_
          refine a_bp F (123 : Int32) dX12_fits_24 (by decide) ?_
          have g4 : (0 : Int) ≤ (u0.1 87 123).toInt ∧ (u0.1 87 123).toInt ≤ 80 := hR 87 123
          refine a_ialdK F hP 87 123 tc_87 rfl rfl (i_in ic_123 (by omega)) (v := (u0.1 87 123)) rfl dX12_fits_26 ?_
          refine b_ge F 124 dX12_fits_27 (by decide) rfl rfl (fun c5 => ?_) (fun c5 => ?_)
          · refine lv_iload F.1 F.2.1 dX12_fits_124 (lv_at hl 7 rfl) ?_
            refine z_ne F 131 dX12_fits_126 (by decide) rfl (fun c6 => ?_) (fun c6 => ?_)
            · refine a_iinc F (k := 6) (fun v7 => [(6, .int v7), (0, .ref (ad 85)), (1, .int p0), (2, .int p1), (3, .int p2), (4, .int p3), (5, .int p4), (7, .int x7), (8, .int x8)]) dX12_fits_131 hl rfl rfl (by decide) (by omega) (by decide) (fun _ => rfl) (fun v7 ls hv7 hl => ?_)
              refine lv_goto (tgt := 3) F.1 F.2.1 dX12_fits_134 (by decide) ?_
              exact ih3 v7 _ _ _ (by omega) (by omega) hP hD hS (lv_sub hl [1, 2, 3, 4, 5, 6, 0] rfl)
            · refine a_ic F (0 : Int32) dX12_fits_129 (by decide) ?_
              exact a_retz F hr hlocks hP hD hS dX12_fits_130 (Or.inl rfl) ⟨rfl, (by decide)⟩
          · refine a_sp F (148 : Int32) dX12_fits_30 (by decide) ?_
            refine a_ic F (4 : Int32) dX12_fits_33 (by decide) ?_
            refine lv_iload F.1 F.2.1 dX12_fits_34 (lv_at hl 8 rfl) ?_
            refine a_imul F dX12_fits_36 ic_4 rfl (by omega) (fun v8 hv8 => ?_)
            refine a_iadd F dX12_fits_37 ic_148 rfl (by omega) (fun v9 hv9 => ?_)
            refine lv_istore (lv' := [(9, .int v9), (0, .ref (ad 85)), (1, .int p0), (2, .int p1), (3, .int p2), (4, .int p3), (5, .int p4), (6, .int x6), (7, .int x7), (8, .int x8)]) F.1 F.2.1 dX12_fits_38 hl (by decide) rfl (fun ls hl => ?_)
            refine lv_iload F.1 F.2.1 dX12_fits_40 (lv_at hl 8 rfl) ?_
            refine z_ne F 111 dX12_fits_42 (by decide) rfl (fun c10 => ?_) (fun c10 => ?_)
            · exact L111 x6 x8 _ _ _ (by omega) (by omega) (by omega : (1 : Int) ≤ (u0.1 87 123).toInt ∧ (u0.1 87 123).toInt ≤ 80) (by omega) (by omega) hP hD hS (lv_sub hl [1, 2, 3, 4, 5, 6, 7, 9] rfl)
            · refine lv_aload_n F.1 F.2.1 dX12_fits_45 rfl (lv_at hl 1 rfl) ?_
              refine a_getr F inX12 hP 85 6 tc_85 rfl rfl (by decide) q1477 (fun _ h9 => h9) dX12_fits_46 ?_
              refine lv_iload F.1 F.2.1 dX12_fits_49 (lv_at hl 0 rfl) ?_
              refine a_ic F (1 : Int32) dX12_fits_51 (by decide) ?_
              refine a_iadd F dX12_fits_52 rfl ic_1 (by omega) (fun v11 hv11 => ?_)
              refine a_iald F hP 87 tc_87 rfl (i_in rfl (by omega)) dX12_fits_53 (fun v12 ev12 => ?_)
              refine lv_iload_n F.1 F.2.1 dX12_fits_54 rfl (lv_at hl 2 rfl) ?_
              refine b_ne F 115 dX12_fits_55 (by decide) rfl rfl (fun c13 => ?_) (fun c13 => ?_)
              · exact L115 x6 x8 _ _ _ (by omega) (by omega) (by omega : (1 : Int) ≤ (u0.1 87 123).toInt ∧ (u0.1 87 123).toInt ≤ 80) (by omega) (by omega) hP hD hS (lv_sub hl [1, 2, 3, 4, 5, 6, 7, 9] rfl)
              · refine lv_aload_n F.1 F.2.1 dX12_fits_58 rfl (lv_at hl 1 rfl) ?_
                refine a_getr F inX12 hP 85 6 tc_85 rfl rfl (by decide) q1477 (fun _ h9 => h9) dX12_fits_59 ?_
                refine lv_iload F.1 F.2.1 dX12_fits_62 (lv_at hl 0 rfl) ?_
                refine a_ic F (2 : Int32) dX12_fits_64 (by decide) ?_
                refine a_iadd F dX12_fits_65 rfl ic_2 (by omega) (fun v14 hv14 => ?_)
                refine a_iald F hP 87 tc_87 rfl (i_in rfl (by omega)) dX12_fits_66 (fun v15 ev15 => ?_)
                refine lv_iload_n F.1 F.2.1 dX12_fits_67 rfl (lv_at hl 3 rfl) ?_
                refine b_ne F 115 dX12_fits_68 (by decide) rfl rfl (fun c16 => ?_) (fun c16 => ?_)
                · exact L115 x6 x8 _ _ _ (by omega) (by omega) (by omega : (1 : Int) ≤ (u0.1 87 123).toInt ∧ (u0.1 87 123).toInt ≤ 80) (by omega) (by omega) hP hD hS (lv_sub hl [1, 2, 3, 4, 5, 6, 7, 9] rfl)
                · refine lv_aload_n F.1 F.2.1 dX12_fits_71 rfl (lv_at hl 1 rfl) ?_
                  refine a_getr F inX12 hP 85 6 tc_85 rfl rfl (by decide) q1477 (fun _ h9 => h9) dX12_fits_72 ?_
                  refine lv_iload F.1 F.2.1 dX12_fits_75 (lv_at hl 0 rfl) ?_
                  refine a_ic F (3 : Int32) dX12_fits_77 (by decide) ?_
                  refine a_iadd F dX12_fits_78 rfl ic_3 (by omega) (fun v17 hv17 => ?_)
                  refine a_iald F hP 87 tc_87 rfl (i_in rfl (by omega)) dX12_fits_79 (fun v18 ev18 => ?_)
                  refine lv_iload_n F.1 F.2.1 dX12_fits_80 rfl (lv_at hl 4 rfl) ?_
                  refine b_ne F 115 dX12_fits_81 (by decide) rfl rfl (fun c19 => ?_) (fun c19 => ?_)
                  · exact L115 x6 x8 _ _ _ (by omega) (by omega) (by omega : (1 : Int) ≤ (u0.1 87 123).toInt ∧ (u0.1 87 123).toInt ≤ 80) (by omega) (by omega) hP hD hS (lv_sub hl [1, 2, 3, 4, 5, 6, 7, 9] rfl)
                  · refine lv_aload_n F.1 F.2.1 dX12_fits_84 rfl (lv_at hl 1 rfl) ?_
                    refine a_getr F inX12 hP 85 6 tc_85 rfl rfl (by decide) q1477 (fun _ h9 => h9) dX12_fits_85 ?_
                    refine lv_iload F.1 F.2.1 dX12_fits_88 (lv_at hl 0 rfl) ?_
                    refine a_iald F hP 87 tc_87 rfl (i_in rfl (by omega)) dX12_fits_90 (fun v20 ev20 => ?_)
                    refine lv_iload F.1 F.2.1 dX12_fits_91 (lv_at hl 7 rfl) ?_
                    refine lv_aload_n F.1 F.2.1 dX12_fits_93 rfl (lv_at hl 1 rfl) ?_
                    refine a_getr F inX12 hP 85 6 tc_85 rfl rfl (by decide) q1477 (fun _ h9 => h9) dX12_fits_94 ?_
                    refine a_ic F (0 : Int32) dX12_fits_97 (by decide) ?_
                    have g21 : (4 : Int) ≤ (u0.1 87 0).toInt ∧ (u0.1 87 0).toInt ≤ 24 := hR 87 0
                    refine a_ialdK F hP 87 0 tc_87 rfl rfl (i_in ic_0 (by omega)) (v := (u0.1 87 0)) rfl dX12_fits_98 ?_
                    have kv22 := i_mulb (x := x6.toInt) (y := (u0.1 87 0).toInt) (a0 := 0) (a1 := 120) (b0 := 4) (b1 := 24) (by omega) (by omega) (by omega)
                    refine a_imul F dX12_fits_99 rfl rfl (by omega) (fun v22 hv22 => ?_)
                    refine a_isubU F dX12_fits_100 (fun v23 => ?_)
                    refine lv_iload F.1 F.2.1 dX12_fits_101 (lv_at hl 5 rfl) ?_
                    refine lv_iload F.1 F.2.1 dX12_fits_103 (lv_at hl 6 rfl) ?_
                    refine a_Si F hml hl.1 hA hP hD hS (As := [.int v23, .int p3, .int p4]) (c_X12_isIn l dC dI ad cA nF _ v23 p3 p4 hR (by omega)) (cs_RX12_187 (d := 1) F.2.2.1 (by decide)) rfl rfl (Nat.le_of_ble_eq_true rfl) dX12_fits_105 ⟨Nat.le_refl 0, Nat.le_refl 0⟩ (fun r24 uN24 H locs hq hP hD hS => ?_)
                    obtain ⟨hu24, gr24, xr24⟩ := hq
                    rw [hu24] at hP hD
                    have xr24 : r24.toInt ≠ 0 → p3.toInt ≤ v23.toInt ∧ v23.toInt ≤ p4.toInt := xr24
                    refine z_eq F 115 dX12_fits_108 (by decide) rfl (fun c25 => ?_) (fun c25 => ?_)
                    · exact L115 x6 x8 _ _ _ (by omega) (by omega) (by omega : (1 : Int) ≤ (u0.1 87 123).toInt ∧ (u0.1 87 123).toInt ≤ 80) (by omega) (by omega) hP hD hS (lv_sub hl [1, 2, 3, 4, 5, 6, 7, 9] rfl)
                    · exact L111 x6 x8 _ _ _ (by omega) (by omega) (by omega : (1 : Int) ≤ (u0.1 87 123).toInt ∧ (u0.1 87 123).toInt ≤ 80) (by omega) (by omega) hP hD hS (lv_sub hl [1, 2, 3, 4, 5, 6, 7, 9] rfl)
      refine lv_iload F.1 F.2.1 dX12_fits_3 (lv_at hl 6 rfl) ?_
      refine lv_aload_n F.1 F.2.1 dX12_fits_5 rfl (lv_at hl 0 rfl) ?_
      refine a_Vi F hml hl.1 hA hP hD hS (As := []) (c_X12_dayNow_85 l dC dI ad cA nF _  hR) (cs_RX12_260 (d := 1) F.2.2.1 (by decide)) tc_85 rfl rfl rfl rfl (Nat.le_of_ble_eq_true rfl) dX12_fits_6 ⟨Nat.le_refl 0, Nat.le_refl 0⟩ (fun r26 uN26 H locs hq hP hD hS => ?_)
      obtain ⟨hu26, gr26⟩ := hq
      rw [hu26] at hP hD
      refine b_ge F 137 dX12_fits_9 (by decide) rfl rfl (fun c27 => ?_) (fun c27 => ?_)
      · refine a_ic F (1 : Int32) dX12_fits_137 (by decide) ?_
        exact a_retz F hr hlocks hP hD hS dX12_fits_138 (Or.inr rfl) ⟨rfl, (by decide)⟩
      · refine a_ic F (0 : Int32) dX12_fits_12 (by decide) ?_
        refine lv_istore (lv' := [(7, .int (0 : Int32)), (0, .ref (ad 85)), (1, .int p0), (2, .int p1), (3, .int p2), (4, .int p3), (5, .int p4), (6, .int x6)]) F.1 F.2.1 dX12_fits_13 hl (by decide) rfl (fun ls hl => ?_)
        refine a_ic F (0 : Int32) dX12_fits_15 (by decide) ?_
        refine lv_istore (lv' := [(8, .int (0 : Int32)), (7, .int (0 : Int32)), (0, .ref (ad 85)), (1, .int p0), (2, .int p1), (3, .int p2), (4, .int p3), (5, .int p4), (6, .int x6)]) F.1 F.2.1 dX12_fits_16 hl (by decide) rfl (fun ls hl => ?_)
        exact L18 82 x6 (0 : Int32) (0 : Int32) _ _ _ (by decide) (by omega) (by decide) (by decide) (by omega) hP hD hS (lv_sub hl [2, 3, 4, 5, 6, 7, 8, 1, 0] rfl)
  refine a_ic F (0 : Int32) dX12_fits_0 (by decide) ?_
  refine lv_istore (lv' := [(6, .int (0 : Int32)), (0, .ref (ad 85)), (1, .int p0), (2, .int p1), (3, .int p2), (4, .int p3), (5, .int p4)]) F.1 F.2.1 dX12_fits_1 hl (by decide) rfl (fun ls hl => ?_)
  exact L3 123 (0 : Int32) _ _ _ (by decide) (by decide) hP hD hS (lv_sub hl [1, 2, 3, 4, 5, 6, 0] rfl)
set_option maxHeartbeats 600000 in
set_option maxRecDepth 100000 in
theorem c_X12_frog_85 (l : Launch) (dC : Nat → ClassId) (dI : Nat → Nat → Nat) (ad : Nat → Nat) (cA : Nat → ClassId) (nF : Nat) (u0 : ac_U) (p0 : Int32) (hR : ac_R rg u0) : ac_Mi l yX12_frog (.code yX12_frog cX12_frog 2 (some .int) :: TB) 2 (dC, dI) vwCl (ac_ty cA) ad cA (TT nF) [.ref (ad 85), .int p0] u0 (fun (r : Int32) (u : ac_U) => ac_R rg u ∧ ac_Fr [(85, some 0)] u0 u ∧ ((-1 : Int) ≤ r.toInt ∧ r.toInt ≤ 7)) := by
  refine ac_Mi.of (cc := cX12_frog) (maxL := 2) (ret := (some .int)) (by decide) rfl (Nat.le_of_ble_eq_true rfl) ?_
  intro p e s m below meth c A ls F hml hr hlocks hA hP hD hS hl
  have F : ac_X p s m [.ref (ad 85), .int p0].toArray c cX12_frog RX12 TB (dC, dI) vwCl (ac_ty cA) := ⟨F.1, F.2.1, fun w h => F.2.2.1 w (List.mem_cons_of_mem _ h), F.2.2.2.1, F.2.2.2.2⟩
  have hl : lv_has ls 2 [(0, .ref (ad 85)), (1, .int p0)] := hl
  have hF : ac_Fr [(85, some 0)] u0 u0 := ac_Fr.rf
  refine lv_aload_n F.1 F.2.1 dX12_frog_0 rfl (lv_at hl 0 rfl) ?_
  refine a_ic F (0 : Int32) dX12_frog_1 (by decide) ?_
  refine a_puti F inX12 tyX12 tyX12_ok nmX12 hP hD hS 85 0 tc_85 rfl rfl (by decide) q1471 (fun _ h9 => h9) rfl (ty := .int) (tyX12_ok 0 (by decide)) rfl rfl dX12_frog_2 (fun H locs hP hD hS => ?_)
  have hR := hR.si (c := 85) (k := 0) (v := (0 : Int32)) (by rw [ic_0]; exact (by omega : (0 : Int) ≤ (0 : Int) ∧ (0 : Int) ≤ 1))
  have hF := hF.si (c := 85) (k := 0) (v := (0 : Int32)) rfl
  refine lv_iload_n F.1 F.2.1 dX12_frog_5 rfl (lv_at hl 1 rfl) ?_
  refine a_ic F (0 : Int32) dX12_frog_6 (by decide) ?_
  refine lv_aload_n F.1 F.2.1 dX12_frog_7 rfl (lv_at hl 0 rfl) ?_
  refine a_getr F inX12 hP 85 6 tc_85 rfl rfl (by decide) q1477 (fun _ h9 => h9) dX12_frog_8 ?_
  refine a_ic F (3 : Int32) dX12_frog_11 (by decide) ?_
  have g1 : (0 : Int) ≤ (u0.1 87 3).toInt ∧ (u0.1 87 3).toInt ≤ 6 := hR 87 3
  refine a_ialdK F hP 87 3 tc_87 rfl rfl (i_in ic_3 (by omega)) (v := (u0.1 87 3)) rfl dX12_frog_12 ?_
  refine a_ic F (1 : Int32) dX12_frog_13 (by decide) ?_
  refine a_isub F dX12_frog_14 rfl ic_1 (by omega) (fun v2 hv2 => ?_)
  refine a_Si F hml hl.1 hA hP hD hS (As := [.int p0, .int (0 : Int32), .int v2]) (c_X12_isIn l dC dI ad cA nF _ p0 (0 : Int32) v2 hR (by omega)) (cs_RX12_187 (d := 1) F.2.2.1 (by decide)) rfl rfl (Nat.le_of_ble_eq_true rfl) dX12_frog_15 ⟨Nat.le_refl 0, Nat.le_refl 0⟩ (fun r3 uN3 H locs hq hP hD hS => ?_)
  obtain ⟨hu3, gr3, xr3⟩ := hq
  rw [hu3] at hP hD
  have xr3 : r3.toInt ≠ 0 → (0 : Int) ≤ p0.toInt ∧ p0.toInt ≤ v2.toInt := xr3
  refine z_eq F 33 dX12_frog_18 (by decide) rfl (fun c4 => ?_) (fun c4 => ?_)
  · refine a_ic F (-1 : Int32) dX12_frog_33 (by decide) ?_
    exact a_reti F hr hlocks hP hD hS dX12_frog_34 ⟨hR, hF, (by decide)⟩
  · refine lv_aload_n F.1 F.2.1 dX12_frog_21 rfl (lv_at hl 0 rfl) ?_
    refine a_getr F inX12 hP 85 6 tc_85 rfl rfl (by decide) q1477 (fun _ h9 => h9) dX12_frog_22 ?_
    refine a_bp F (16 : Int32) dX12_frog_25 (by decide) ?_
    refine lv_iload_n F.1 F.2.1 dX12_frog_27 rfl (lv_at hl 1 rfl) ?_
    refine a_iadd F dX12_frog_28 ic_16 rfl (by omega) (fun v5 hv5 => ?_)
    refine a_iald F hP 87 tc_87 rfl (i_in rfl (by omega)) dX12_frog_29 (fun v6 ev6 => ?_)
    have hv6 : (0 : Int) ≤ v6.toInt ∧ v6.toInt ≤ 7 := rg_seg_87_16_21 hR ev6 (by omega)
    refine lv_goto (tgt := 34) F.1 F.2.1 dX12_frog_30 (by decide) ?_
    exact a_reti F hr hlocks hP hD hS dX12_frog_34 ⟨hR, hF, (by omega : (-1 : Int) ≤ v6.toInt ∧ v6.toInt ≤ 7)⟩
set_option maxHeartbeats 600000 in
set_option maxRecDepth 100000 in
theorem c_X12_isPlace_85 (l : Launch) (dC : Nat → ClassId) (dI : Nat → Nat → Nat) (ad : Nat → Nat) (cA : Nat → ClassId) (nF : Nat) (u0 : ac_U) (p0 : Int32) (hR : ac_R rg u0) : ac_Mi l yX12_isPlace (.code yX12_isPlace cX12_isPlace 2 (some .boolean) :: TB) 2 (dC, dI) vwCl (ac_ty cA) ad cA (TT nF) [.ref (ad 85), .int p0] u0 (fun (r : Int32) (u : ac_U) => u = u0 ∧ ((0 : Int) ≤ r.toInt ∧ r.toInt ≤ 1) ∧ (r.toInt ≠ 0 → 0 ≤ p0.toInt ∧ p0.toInt ≤ 7)) := by
  refine ac_Mi.of (cc := cX12_isPlace) (maxL := 2) (ret := (some .boolean)) (by decide) rfl (Nat.le_of_ble_eq_true rfl) ?_
  intro p e s m below meth c A ls F hml hr hlocks hA hP hD hS hl
  have F : ac_X p s m [.ref (ad 85), .int p0].toArray c cX12_isPlace RX12 TB (dC, dI) vwCl (ac_ty cA) := ⟨F.1, F.2.1, fun w h => F.2.2.1 w (List.mem_cons_of_mem _ h), F.2.2.2.1, F.2.2.2.2⟩
  have hl : lv_has ls 2 [(0, .ref (ad 85)), (1, .int p0)] := hl
  refine lv_iload_n F.1 F.2.1 dX12_isPlace_0 rfl (lv_at hl 1 rfl) ?_
  refine a_ic F (0 : Int32) dX12_isPlace_1 (by decide) ?_
  refine lv_aload_n F.1 F.2.1 dX12_isPlace_2 rfl (lv_at hl 0 rfl) ?_
  refine a_getr F inX12 hP 85 6 tc_85 rfl rfl (by decide) q1477 (fun _ h9 => h9) dX12_isPlace_3 ?_
  refine a_ic F (1 : Int32) dX12_isPlace_6 (by decide) ?_
  have g1 : (0 : Int) ≤ (u0.1 87 1).toInt ∧ (u0.1 87 1).toInt ≤ 8 := hR 87 1
  refine a_ialdK F hP 87 1 tc_87 rfl rfl (i_in ic_1 (by omega)) (v := (u0.1 87 1)) rfl dX12_isPlace_7 ?_
  refine a_ic F (1 : Int32) dX12_isPlace_8 (by decide) ?_
  refine a_isub F dX12_isPlace_9 rfl ic_1 (by omega) (fun v2 hv2 => ?_)
  refine a_Si F hml hl.1 hA hP hD hS (As := [.int p0, .int (0 : Int32), .int v2]) (c_X12_isIn l dC dI ad cA nF _ p0 (0 : Int32) v2 hR (by omega)) (cs_RX12_187 (d := 1) F.2.2.1 (by decide)) rfl rfl (Nat.le_of_ble_eq_true rfl) dX12_isPlace_10 ⟨Nat.le_refl 0, Nat.le_refl 0⟩ (fun r3 uN3 H locs hq hP hD hS => ?_)
  obtain ⟨hu3, gr3, xr3⟩ := hq
  rw [hu3] at hP hD
  have xr3 : r3.toInt ≠ 0 → (0 : Int) ≤ p0.toInt ∧ p0.toInt ≤ v2.toInt := xr3
  exact a_retz F hr hlocks hP hD hS dX12_isPlace_13 (i_01 (by omega)) ⟨rfl, (by omega : (0 : Int) ≤ r3.toInt ∧ r3.toInt ≤ 1), (by omega : r3.toInt ≠ 0 → 0 ≤ p0.toInt ∧ p0.toInt ≤ 7)⟩
set_option maxHeartbeats 600000 in
set_option maxRecDepth 100000 in
theorem c_X12_spreads_85 (l : Launch) (dC : Nat → ClassId) (dI : Nat → Nat → Nat) (ad : Nat → Nat) (cA : Nat → ClassId) (nF : Nat) (u0 : ac_U) (p0 : Int32) (hR : ac_R rg u0) (hp0 : (0 : Int) ≤ p0.toInt ∧ p0.toInt ≤ 7) : ac_Mv l yX12_spreads (.code yX12_spreads cX12_spreads 7 none :: TB) 2 (dC, dI) vwCl (ac_ty cA) ad cA (TT nF) [.ref (ad 85), .int p0] u0 (fun (u : ac_U) => ac_R rg u ∧ ac_Fr [(98, none)] u0 u) := by
  refine ac_Mv.of (cc := cX12_spreads) (maxL := 7) (ret := none) (by decide) rfl (Nat.le_of_ble_eq_true rfl) ?_
  intro p e s m below meth c A ls F hml hr hlocks hA hP hD hS hl
  have F : ac_X p s m [.ref (ad 85), .int p0].toArray c cX12_spreads RX12 TB (dC, dI) vwCl (ac_ty cA) := ⟨F.1, F.2.1, fun w h => F.2.2.1 w (List.mem_cons_of_mem _ h), F.2.2.2.1, F.2.2.2.2⟩
  have hl : lv_has ls 7 [(0, .ref (ad 85)), (1, .int p0)] := hl
  have hF : ac_Fr [(98, none)] u0 u0 := ac_Fr.rf
  have L71 : ∀ (n71 : Nat) (x3 : Int32) (u : ac_U) (H : Heap) (locs : List Loc) (ls : Array Slot), ac_R rg u → ac_Fr [(98, none)] u0 u → 6 - x3.toInt < (n71 : Int) → (0 : Int) ≤ x3.toInt ∧ x3.toInt ≤ 6 → va_P (dC, dI) vwCl (ac_w ad cA (TT nF) u) H → va_D A (ac_w ad cA (TT nF) u) → va_S A s.heap H locs → lv_has ls 7 [(0, .ref (ad 85)), (3, .int x3)] → W p l e (ac_rm 2) s m [.ref (ad 85), .int p0].toArray below meth c H locs 0 0 (MQ below (va_Qv (fun (u : ac_U) => ac_R rg u ∧ ac_Fr [(98, none)] u0 u) (ac_B (dC, dI) vwCl (ac_ty cA) ad cA (TT nF) A) A) [.ref (ad 85), .int p0].toArray s 0 0 A) (F0 m 71 ls []) := by
    intro n71
    induction n71 with
    | zero => intro x3 u H locs ls hR hF hn71 f0 hP hD hS hl; exfalso; omega
    | succ n71 ih71 =>
      intro x3 u H locs ls hR hF hn71 f0 hP hD hS hl
      have L80 : ∀ (n80 : Nat) (x3 : Int32) (x4 : Int32) (u : ac_U) (H : Heap) (locs : List Loc) (ls : Array Slot), ac_R rg u → ac_Fr [(98, none)] u0 u → 6 - x4.toInt < (n80 : Int) → (0 : Int) ≤ x3.toInt ∧ x3.toInt ≤ 5 → (0 : Int) ≤ x4.toInt ∧ x4.toInt ≤ 6 → 6 - x3.toInt + 0 < ((n71 : Nat) : Int) + 1 → va_P (dC, dI) vwCl (ac_w ad cA (TT nF) u) H → va_D A (ac_w ad cA (TT nF) u) → va_S A s.heap H locs → lv_has ls 7 [(0, .ref (ad 85)), (3, .int x3), (4, .int x4)] → W p l e (ac_rm 2) s m [.ref (ad 85), .int p0].toArray below meth c H locs 0 0 (MQ below (va_Qv (fun (u : ac_U) => ac_R rg u ∧ ac_Fr [(98, none)] u0 u) (ac_B (dC, dI) vwCl (ac_ty cA) ad cA (TT nF) A) A) [.ref (ad 85), .int p0].toArray s 0 0 A) (F0 m 80 ls []) := by
        intro n80
        induction n80 with
        | zero => intro x3 x4 u H locs ls hR hF hn80 f0 f1 f2 hP hD hS hl; exfalso; omega
        | succ n80 ih80 =>
          intro x3 x4 u H locs ls hR hF hn80 f0 f1 f2 hP hD hS hl
          have L94 : ∀ (n94 : Nat) (x3 : Int32) (x4 : Int32) (x5 : Int32) (u : ac_U) (H : Heap) (locs : List Loc) (ls : Array Slot), ac_R rg u → ac_Fr [(98, none)] u0 u → 6 - x5.toInt < (n94 : Int) → (0 : Int) ≤ x3.toInt ∧ x3.toInt ≤ 5 → (0 : Int) ≤ x4.toInt ∧ x4.toInt ≤ 5 → (0 : Int) ≤ x5.toInt ∧ x5.toInt ≤ 6 → (1 : Int) ≤ (u.1 87 3).toInt ∧ (u.1 87 3).toInt ≤ 6 → 6 - x3.toInt + 0 < ((n71 : Nat) : Int) + 1 → 6 - x4.toInt + 0 < ((n80 : Nat) : Int) + 1 → va_P (dC, dI) vwCl (ac_w ad cA (TT nF) u) H → va_D A (ac_w ad cA (TT nF) u) → va_S A s.heap H locs → lv_has ls 7 [(0, .ref (ad 85)), (3, .int x3), (4, .int x4), (5, .int x5)] → W p l e (ac_rm 2) s m [.ref (ad 85), .int p0].toArray below meth c H locs 0 0 (MQ below (va_Qv (fun (u : ac_U) => ac_R rg u ∧ ac_Fr [(98, none)] u0 u) (ac_B (dC, dI) vwCl (ac_ty cA) ad cA (TT nF) A) A) [.ref (ad 85), .int p0].toArray s 0 0 A) (F0 m 94 ls []) := by
            intro n94
            induction n94 with
            | zero => intro x3 x4 x5 u H locs ls hR hF hn94 f0 f1 f2 f3 f4 f5 hP hD hS hl; exfalso; omega
            | succ n94 ih94 =>
              intro x3 x4 x5 u H locs ls hR hF hn94 f0 f1 f2 f3 f4 f5 hP hD hS hl
              have L222 : ∀ (x3 : Int32) (x4 : Int32) (x5 : Int32) (u : ac_U) (H : Heap) (locs : List Loc) (ls : Array Slot), ac_R rg u → ac_Fr [(98, none)] u0 u → (0 : Int) ≤ x3.toInt ∧ x3.toInt ≤ 5 → (0 : Int) ≤ x4.toInt ∧ x4.toInt ≤ 5 → (0 : Int) ≤ x5.toInt ∧ x5.toInt ≤ 5 → (1 : Int) ≤ (u.1 87 3).toInt ∧ (u.1 87 3).toInt ≤ 6 → 6 - x3.toInt + 0 < ((n71 : Nat) : Int) + 1 → 6 - x4.toInt + 0 < ((n80 : Nat) : Int) + 1 → 6 - x5.toInt + 0 < ((n94 : Nat) : Int) + 1 → va_P (dC, dI) vwCl (ac_w ad cA (TT nF) u) H → va_D A (ac_w ad cA (TT nF) u) → va_S A s.heap H locs → lv_has ls 7 [(0, .ref (ad 85)), (3, .int x3), (4, .int x4), (5, .int x5)] → W p l e (ac_rm 2) s m [.ref (ad 85), .int p0].toArray below meth c H locs 0 0 (MQ below (va_Qv (fun (u : ac_U) => ac_R rg u ∧ ac_Fr [(98, none)] u0 u) (ac_B (dC, dI) vwCl (ac_ty cA) ad cA (TT nF) A) A) [.ref (ad 85), .int p0].toArray s 0 0 A) (F0 m 222 ls []) := by
                intro x3 x4 x5 u H locs ls hR hF f0 f1 f2 f3 f4 f5 f6 hP hD hS hl
                refine a_iinc F (k := 3) (fun v1 => [(5, .int v1), (0, .ref (ad 85)), (3, .int x3), (4, .int x4)]) dX12_spreads_222 hl rfl rfl (by decide) (by omega) (by decide) (fun _ => rfl) (fun v1 ls hv1 hl => ?_)
                refine lv_goto (tgt := 94) F.1 F.2.1 dX12_spreads_225 (by decide) ?_
                have g2 : (0 : Int) ≤ (u.1 87 3).toInt ∧ (u.1 87 3).toInt ≤ 6 := hR 87 3
                exact ih94 x3 x4 v1 _ _ _ _ hR hF (by omega) (by omega) (by omega) (by omega) (by omega : (1 : Int) ≤ (u.1 87 3).toInt ∧ (u.1 87 3).toInt ≤ 6) (by omega) (by omega) hP hD hS (lv_sub hl [1, 2, 3, 0] rfl)
              have L167 : ∀ (x3 : Int32) (x4 : Int32) (x5 : Int32) (z0 : Int32) (u : ac_U) (H : Heap) (locs : List Loc) (ls : Array Slot), ac_R rg u → ac_Fr [(98, none)] u0 u → (0 : Int) ≤ x3.toInt ∧ x3.toInt ≤ 5 → (0 : Int) ≤ x4.toInt ∧ x4.toInt ≤ 5 → (0 : Int) ≤ x5.toInt ∧ x5.toInt ≤ 5 → (0 : Int) ≤ z0.toInt ∧ z0.toInt ≤ 1 → (1 : Int) ≤ (u.1 87 3).toInt ∧ (u.1 87 3).toInt ≤ 6 → 6 - x3.toInt + 0 < ((n71 : Nat) : Int) + 1 → 6 - x4.toInt + 0 < ((n80 : Nat) : Int) + 1 → 6 - x5.toInt + 0 < ((n94 : Nat) : Int) + 1 → va_P (dC, dI) vwCl (ac_w ad cA (TT nF) u) H → va_D A (ac_w ad cA (TT nF) u) → va_S A s.heap H locs → lv_has ls 7 [(0, .ref (ad 85)), (3, .int x3), (4, .int x4), (5, .int x5)] → W p l e (ac_rm 2) s m [.ref (ad 85), .int p0].toArray below meth c H locs 0 0 (MQ below (va_Qv (fun (u : ac_U) => ac_R rg u ∧ ac_Fr [(98, none)] u0 u) (ac_B (dC, dI) vwCl (ac_ty cA) ad cA (TT nF) A) A) [.ref (ad 85), .int p0].toArray s 0 0 A) (F0 m 167 ls [.int z0]) := by
                intro x3 x4 x5 z0 u H locs ls hR hF f0 f1 f2 f3 f4 f5 f6 f7 hP hD hS hl
                refine lv_istore (lv' := [(6, .int z0), (0, .ref (ad 85)), (3, .int x3), (4, .int x4), (5, .int x5)]) F.1 F.2.1 dX12_spreads_167 hl (by decide) rfl (fun ls hl => ?_)
                refine lv_iload F.1 F.2.1 dX12_spreads_169 (lv_at hl 0 rfl) ?_
                refine z_eq F 222 dX12_spreads_171 (by decide) rfl (fun c3 => ?_) (fun c3 => ?_)
                · have g4 : (0 : Int) ≤ (u.1 87 3).toInt ∧ (u.1 87 3).toInt ≤ 6 := hR 87 3
                  exact L222 x3 x4 x5 _ _ _ _ hR hF (by omega) (by omega) (by omega) (by omega : (1 : Int) ≤ (u.1 87 3).toInt ∧ (u.1 87 3).toInt ≤ 6) (by omega) (by omega) (by omega) hP hD hS (lv_sub hl [1, 2, 3, 4] rfl)
                · refine lv_aload_n F.1 F.2.1 dX12_spreads_174 rfl (lv_at hl 1 rfl) ?_
                  refine a_getr F inX12 hP 85 31 tc_85 rfl rfl (by decide) q1502 (fun _ h9 => h9) dX12_spreads_175 ?_
                  refine lv_iload F.1 F.2.1 dX12_spreads_178 (lv_at hl 4 rfl) ?_
                  refine a_iald F hP 98 tc_98 rfl (i_in rfl (by omega)) dX12_spreads_180 (fun v5 ev5 => ?_)
                  refine a_sp F (1000 : Int32) dX12_spreads_181 (by decide) ?_
                  refine b_ge F 222 dX12_spreads_184 (by decide) rfl ic_1000 (fun c6 => ?_) (fun c6 => ?_)
                  · have g7 : (0 : Int) ≤ (u.1 87 3).toInt ∧ (u.1 87 3).toInt ≤ 6 := hR 87 3
                    exact L222 x3 x4 x5 _ _ _ _ hR hF (by omega) (by omega) (by omega) (by omega : (1 : Int) ≤ (u.1 87 3).toInt ∧ (u.1 87 3).toInt ≤ 6) (by omega) (by omega) (by omega) hP hD hS (lv_sub hl [1, 2, 3, 4] rfl)
                  · refine lv_aload_n F.1 F.2.1 dX12_spreads_187 rfl (lv_at hl 1 rfl) ?_
                    refine a_getr F inX12 hP 85 31 tc_85 rfl rfl (by decide) q1502 (fun _ h9 => h9) dX12_spreads_188 ?_
                    refine lv_iload F.1 F.2.1 dX12_spreads_191 (lv_at hl 4 rfl) ?_
                    refine a_iald F hP 98 tc_98 rfl (i_in rfl (by omega)) dX12_spreads_193 (fun v8 ev8 => ?_)
                    refine a_ic F (1 : Int32) dX12_spreads_194 (by decide) ?_
                    refine a_iaddU F dX12_spreads_195 (fun v9 => ?_)
                    refine lv_aload_n F.1 F.2.1 dX12_spreads_196 rfl (lv_at hl 1 rfl) ?_
                    refine a_getr F inX12 hP 85 31 tc_85 rfl rfl (by decide) q1502 (fun _ h9 => h9) dX12_spreads_197 ?_
                    refine lv_iload F.1 F.2.1 dX12_spreads_200 (lv_at hl 3 rfl) ?_
                    refine a_iald F hP 98 tc_98 rfl (i_in rfl (by omega)) dX12_spreads_202 (fun v10 ev10 => ?_)
                    refine b_ge F 222 dX12_spreads_203 (by decide) rfl rfl (fun c11 => ?_) (fun c11 => ?_)
                    · have g12 : (0 : Int) ≤ (u.1 87 3).toInt ∧ (u.1 87 3).toInt ≤ 6 := hR 87 3
                      exact L222 x3 x4 x5 _ _ _ _ hR hF (by omega) (by omega) (by omega) (by omega : (1 : Int) ≤ (u.1 87 3).toInt ∧ (u.1 87 3).toInt ≤ 6) (by omega) (by omega) (by omega) hP hD hS (lv_sub hl [1, 2, 3, 4] rfl)
                    · refine lv_aload_n F.1 F.2.1 dX12_spreads_206 rfl (lv_at hl 1 rfl) ?_
                      refine a_getr F inX12 hP 85 31 tc_85 rfl rfl (by decide) q1502 (fun _ h9 => h9) dX12_spreads_207 ?_
                      refine lv_iload F.1 F.2.1 dX12_spreads_210 (lv_at hl 3 rfl) ?_
                      refine lv_aload_n F.1 F.2.1 dX12_spreads_212 rfl (lv_at hl 1 rfl) ?_
                      refine a_getr F inX12 hP 85 31 tc_85 rfl rfl (by decide) q1502 (fun _ h9 => h9) dX12_spreads_213 ?_
                      refine lv_iload F.1 F.2.1 dX12_spreads_216 (lv_at hl 4 rfl) ?_
                      refine a_iald F hP 98 tc_98 rfl (i_in rfl (by omega)) dX12_spreads_218 (fun v13 ev13 => ?_)
                      refine a_ic F (1 : Int32) dX12_spreads_219 (by decide) ?_
                      refine a_iaddU F dX12_spreads_220 (fun v14 => ?_)
                      refine a_iast F hP hD hS 98 tc_98 rfl (i_in rfl (by omega)) dX12_spreads_221 (fun H locs hP hD hS => ?_)
                      have hR := hR.si (c := 98) (k := x4.toNatClampNeg) (v := v14) ⟨i_lo _, i_hi _⟩
                      have hF := hF.si (c := 98) (k := x4.toNatClampNeg) (v := v14) rfl
                      have g15 : (0 : Int) ≤ (u.1 87 3).toInt ∧ (u.1 87 3).toInt ≤ 6 := hR 87 3
                      exact L222 x3 x4 x5 _ _ _ _ hR hF (by omega) (by omega) (by omega) (by omega : (1 : Int) ≤ (u.1 87 3).toInt ∧ (u.1 87 3).toInt ≤ 6) (by omega) (by omega) (by omega) hP hD hS (lv_sub hl [1, 2, 3, 4] rfl)
              have L162 : ∀ (x3 : Int32) (x4 : Int32) (x5 : Int32) (u : ac_U) (H : Heap) (locs : List Loc) (ls : Array Slot), ac_R rg u → ac_Fr [(98, none)] u0 u → (0 : Int) ≤ x3.toInt ∧ x3.toInt ≤ 5 → (0 : Int) ≤ x4.toInt ∧ x4.toInt ≤ 5 → (0 : Int) ≤ x5.toInt ∧ x5.toInt ≤ 5 → (1 : Int) ≤ (u.1 87 3).toInt ∧ (u.1 87 3).toInt ≤ 6 → 6 - x3.toInt + 0 < ((n71 : Nat) : Int) + 1 → 6 - x4.toInt + 0 < ((n80 : Nat) : Int) + 1 → 6 - x5.toInt + 0 < ((n94 : Nat) : Int) + 1 → va_P (dC, dI) vwCl (ac_w ad cA (TT nF) u) H → va_D A (ac_w ad cA (TT nF) u) → va_S A s.heap H locs → lv_has ls 7 [(0, .ref (ad 85)), (3, .int x3), (4, .int x4), (5, .int x5)] → W p l e (ac_rm 2) s m [.ref (ad 85), .int p0].toArray below meth c H locs 0 0 (MQ below (va_Qv (fun (u : ac_U) => ac_R rg u ∧ ac_Fr [(98, none)] u0 u) (ac_B (dC, dI) vwCl (ac_ty cA) ad cA (TT nF) A) A) [.ref (ad 85), .int p0].toArray s 0 0 A) (F0 m 162 ls []) := by
                intro x3 x4 x5 u H locs ls hR hF f0 f1 f2 f3 f4 f5 f6 hP hD hS hl
                refine a_ic F (1 : Int32) dX12_spreads_162 (by decide) ?_
                refine lv_goto (tgt := 167) F.1 F.2.1 dX12_spreads_163 (by decide) ?_
                have g16 : (0 : Int) ≤ (u.1 87 3).toInt ∧ (u.1 87 3).toInt ≤ 6 := hR 87 3
                exact L167 x3 x4 x5 (1 : Int32) _ _ _ _ hR hF (by omega) (by omega) (by omega) (by decide) (by omega : (1 : Int) ≤ (u.1 87 3).toInt ∧ (u.1 87 3).toInt ≤ 6) (by omega) (by omega) (by omega) hP hD hS (lv_sub hl [0, 1, 2, 3] rfl)
              refine lv_iload F.1 F.2.1 dX12_spreads_94 (lv_at hl 3 rfl) ?_
              refine lv_aload_n F.1 F.2.1 dX12_spreads_96 rfl (lv_at hl 0 rfl) ?_
              refine a_getr F inX12 hP 85 6 tc_85 rfl rfl (by decide) q1477 (fun _ h9 => h9) dX12_spreads_97 ?_
              refine a_ic F (3 : Int32) dX12_spreads_100 (by decide) ?_
              have g17 : (0 : Int) ≤ (u.1 87 3).toInt ∧ (u.1 87 3).toInt ≤ 6 := hR 87 3
              refine a_ialdK F hP 87 3 tc_87 rfl rfl (i_in ic_3 (by omega)) (v := (u.1 87 3)) rfl dX12_spreads_101 ?_
              refine b_ge F 228 dX12_spreads_102 (by decide) rfl rfl (fun c18 => ?_) (fun c18 => ?_)
              · refine a_iinc F (k := 2) (fun v19 => [(4, .int v19), (0, .ref (ad 85)), (3, .int x3), (5, .int x5)]) dX12_spreads_228 hl rfl rfl (by decide) (by omega) (by decide) (fun _ => rfl) (fun v19 ls hv19 hl => ?_)
                refine lv_goto (tgt := 80) F.1 F.2.1 dX12_spreads_231 (by decide) ?_
                exact ih80 x3 v19 _ _ _ _ hR hF (by omega) (by omega) (by omega) (by omega) hP hD hS (lv_sub hl [1, 2, 0] rfl)
              · refine lv_aload_n F.1 F.2.1 dX12_spreads_105 rfl (lv_at hl 0 rfl) ?_
                refine a_getr F inX12 hP 85 6 tc_85 rfl rfl (by decide) q1477 (fun _ h9 => h9) dX12_spreads_106 ?_
                refine a_bp F (16 : Int32) dX12_spreads_109 (by decide) ?_
                refine lv_iload F.1 F.2.1 dX12_spreads_111 (lv_at hl 2 rfl) ?_
                refine a_iadd F dX12_spreads_113 ic_16 rfl (by omega) (fun v20 hv20 => ?_)
                refine a_iald F hP 87 tc_87 rfl (i_in rfl (by omega)) dX12_spreads_114 (fun v21 ev21 => ?_)
                have hv21 : (0 : Int) ≤ v21.toInt ∧ v21.toInt ≤ 7 := rg_seg_87_16_21 hR ev21 (by omega)
                refine lv_aload_n F.1 F.2.1 dX12_spreads_115 rfl (lv_at hl 0 rfl) ?_
                refine a_getr F inX12 hP 85 6 tc_85 rfl rfl (by decide) q1477 (fun _ h9 => h9) dX12_spreads_116 ?_
                refine a_bp F (16 : Int32) dX12_spreads_119 (by decide) ?_
                refine lv_iload F.1 F.2.1 dX12_spreads_121 (lv_at hl 3 rfl) ?_
                refine a_iadd F dX12_spreads_123 ic_16 rfl (by omega) (fun v22 hv22 => ?_)
                refine a_iald F hP 87 tc_87 rfl (i_in rfl (by omega)) dX12_spreads_124 (fun v23 ev23 => ?_)
                have hv23 : (0 : Int) ≤ v23.toInt ∧ v23.toInt ≤ 7 := rg_seg_87_16_21 hR ev23 (by omega)
                refine b_eq F 162 dX12_spreads_125 (by decide) rfl rfl (fun c24 => ?_) (fun c24 => ?_)
                · exact L162 x3 x4 x5 _ _ _ _ hR hF (by omega) (by omega) (by omega) (by omega : (1 : Int) ≤ (u.1 87 3).toInt ∧ (u.1 87 3).toInt ≤ 6) (by omega) (by omega) (by omega) hP hD hS (lv_sub hl [0, 1, 2, 3] rfl)
                · refine lv_aload_n F.1 F.2.1 dX12_spreads_128 rfl (lv_at hl 0 rfl) ?_
                  refine a_getr F inX12 hP 85 6 tc_85 rfl rfl (by decide) q1477 (fun _ h9 => h9) dX12_spreads_129 ?_
                  refine a_bp F (8 : Int32) dX12_spreads_132 (by decide) ?_
                  refine lv_aload_n F.1 F.2.1 dX12_spreads_134 rfl (lv_at hl 0 rfl) ?_
                  refine a_getr F inX12 hP 85 6 tc_85 rfl rfl (by decide) q1477 (fun _ h9 => h9) dX12_spreads_135 ?_
                  refine a_bp F (16 : Int32) dX12_spreads_138 (by decide) ?_
                  refine lv_iload F.1 F.2.1 dX12_spreads_140 (lv_at hl 2 rfl) ?_
                  refine a_iadd F dX12_spreads_142 ic_16 rfl (by omega) (fun v25 hv25 => ?_)
                  refine a_iald F hP 87 tc_87 rfl (i_in rfl (by omega)) dX12_spreads_143 (fun v26 ev26 => ?_)
                  have hv26 : (0 : Int) ≤ v26.toInt ∧ v26.toInt ≤ 7 := rg_seg_87_16_21 hR ev26 (by omega)
                  refine a_iadd F dX12_spreads_144 ic_8 rfl (by omega) (fun v27 hv27 => ?_)
                  refine a_iald F hP 87 tc_87 rfl (i_in rfl (by omega)) dX12_spreads_145 (fun v28 ev28 => ?_)
                  refine lv_aload_n F.1 F.2.1 dX12_spreads_146 rfl (lv_at hl 0 rfl) ?_
                  refine a_getr F inX12 hP 85 6 tc_85 rfl rfl (by decide) q1477 (fun _ h9 => h9) dX12_spreads_147 ?_
                  refine a_bp F (16 : Int32) dX12_spreads_150 (by decide) ?_
                  refine lv_iload F.1 F.2.1 dX12_spreads_152 (lv_at hl 3 rfl) ?_
                  refine a_iadd F dX12_spreads_154 ic_16 rfl (by omega) (fun v29 hv29 => ?_)
                  refine a_iald F hP 87 tc_87 rfl (i_in rfl (by omega)) dX12_spreads_155 (fun v30 ev30 => ?_)
                  have hv30 : (0 : Int) ≤ v30.toInt ∧ v30.toInt ≤ 7 := rg_seg_87_16_21 hR ev30 (by omega)
                  refine a_Si F hml hl.1 hA hP hD hS (As := [.int v28, .int v30]) (c_X12_bitOf l dC dI ad cA nF _ v28 v30 hR) (cs_RX12_223 (d := 1) F.2.2.1 (by decide)) rfl rfl (Nat.le_of_ble_eq_true rfl) dX12_spreads_156 ⟨Nat.le_refl 0, Nat.le_refl 0⟩ (fun r31 uN31 H locs hq hP hD hS => ?_)
                  obtain ⟨hu31, gr31⟩ := hq
                  rw [hu31] at hP hD
                  refine z_eq F 166 dX12_spreads_159 (by decide) rfl (fun c32 => ?_) (fun c32 => ?_)
                  · refine a_ic F (0 : Int32) dX12_spreads_166 (by decide) ?_
                    exact L167 x3 x4 x5 (0 : Int32) _ _ _ _ hR hF (by omega) (by omega) (by omega) (by decide) (by omega : (1 : Int) ≤ (u.1 87 3).toInt ∧ (u.1 87 3).toInt ≤ 6) (by omega) (by omega) (by omega) hP hD hS (lv_sub hl [0, 1, 2, 3] rfl)
                  · exact L162 x3 x4 x5 _ _ _ _ hR hF (by omega) (by omega) (by omega) (by omega : (1 : Int) ≤ (u.1 87 3).toInt ∧ (u.1 87 3).toInt ≤ 6) (by omega) (by omega) (by omega) hP hD hS (lv_sub hl [0, 1, 2, 3] rfl)
          refine lv_iload F.1 F.2.1 dX12_spreads_80 (lv_at hl 2 rfl) ?_
          refine lv_aload_n F.1 F.2.1 dX12_spreads_82 rfl (lv_at hl 0 rfl) ?_
          refine a_getr F inX12 hP 85 6 tc_85 rfl rfl (by decide) q1477 (fun _ h9 => h9) dX12_spreads_83 ?_
          refine a_ic F (3 : Int32) dX12_spreads_86 (by decide) ?_
          have g33 : (0 : Int) ≤ (u.1 87 3).toInt ∧ (u.1 87 3).toInt ≤ 6 := hR 87 3
          refine a_ialdK F hP 87 3 tc_87 rfl rfl (i_in ic_3 (by omega)) (v := (u.1 87 3)) rfl dX12_spreads_87 ?_
          refine b_ge F 234 dX12_spreads_88 (by decide) rfl rfl (fun c34 => ?_) (fun c34 => ?_)
          · refine a_iinc F (k := 1) (fun v35 => [(3, .int v35), (0, .ref (ad 85)), (4, .int x4)]) dX12_spreads_234 hl rfl rfl (by decide) (by omega) (by decide) (fun _ => rfl) (fun v35 ls hv35 hl => ?_)
            refine lv_goto (tgt := 71) F.1 F.2.1 dX12_spreads_237 (by decide) ?_
            exact ih71 v35 _ _ _ _ hR hF (by omega) (by omega) hP hD hS (lv_sub hl [1, 0] rfl)
          · refine a_ic F (0 : Int32) dX12_spreads_91 (by decide) ?_
            refine lv_istore (lv' := [(5, .int (0 : Int32)), (0, .ref (ad 85)), (3, .int x3), (4, .int x4)]) F.1 F.2.1 dX12_spreads_92 hl (by decide) rfl (fun ls hl => ?_)
            exact L94 8 x3 x4 (0 : Int32) _ _ _ _ hR hF (by decide) (by omega) (by omega) (by decide) (by omega : (1 : Int) ≤ (u.1 87 3).toInt ∧ (u.1 87 3).toInt ≤ 6) (by omega) (by omega) hP hD hS (lv_sub hl [1, 2, 3, 0] rfl)
      refine lv_iload_n F.1 F.2.1 dX12_spreads_71 rfl (lv_at hl 1 rfl) ?_
      refine a_bp F (6 : Int32) dX12_spreads_72 (by decide) ?_
      refine b_ge F 240 dX12_spreads_74 (by decide) rfl ic_6 (fun c36 => ?_) (fun c36 => ?_)
      · exact a_retv F hr hlocks hP hD hS dX12_spreads_240 ⟨hR, hF⟩
      · refine a_ic F (0 : Int32) dX12_spreads_77 (by decide) ?_
        refine lv_istore (lv' := [(4, .int (0 : Int32)), (0, .ref (ad 85)), (3, .int x3)]) F.1 F.2.1 dX12_spreads_78 hl (by decide) rfl (fun ls hl => ?_)
        exact L80 8 x3 (0 : Int32) _ _ _ _ hR hF (by decide) (by omega) (by decide) (by omega) hP hD hS (lv_sub hl [1, 2, 0] rfl)
  have L14 : ∀ (n14 : Nat) (x2 : Int32) (x3 : Int32) (u : ac_U) (H : Heap) (locs : List Loc) (ls : Array Slot), ac_R rg u → ac_Fr [(98, none)] u0 u → 6 - x3.toInt < (n14 : Int) → (-1 : Int) ≤ x2.toInt ∧ x2.toInt ≤ 480 → (0 : Int) ≤ x3.toInt ∧ x3.toInt ≤ 6 → va_P (dC, dI) vwCl (ac_w ad cA (TT nF) u) H → va_D A (ac_w ad cA (TT nF) u) → va_S A s.heap H locs → lv_has ls 7 [(0, .ref (ad 85)), (1, .int p0), (2, .int x2), (3, .int x3)] → W p l e (ac_rm 2) s m [.ref (ad 85), .int p0].toArray below meth c H locs 0 0 (MQ below (va_Qv (fun (u : ac_U) => ac_R rg u ∧ ac_Fr [(98, none)] u0 u) (ac_B (dC, dI) vwCl (ac_ty cA) ad cA (TT nF) A) A) [.ref (ad 85), .int p0].toArray s 0 0 A) (F0 m 14 ls []) := by
    intro n14
    induction n14 with
    | zero => intro x2 x3 u H locs ls hR hF hn14 f0 f1 hP hD hS hl; exfalso; omega
    | succ n14 ih14 =>
      intro x2 x3 u H locs ls hR hF hn14 f0 f1 hP hD hS hl
      have L62 : ∀ (x2 : Int32) (x3 : Int32) (z1 : Int32) (z2 : Int32) (u : ac_U) (H : Heap) (locs : List Loc) (ls : Array Slot), ac_R rg u → ac_Fr [(98, none)] u0 u → (-1 : Int) ≤ x2.toInt ∧ x2.toInt ≤ 480 → (0 : Int) ≤ x3.toInt ∧ x3.toInt ≤ 5 → (0 : Int) ≤ z1.toInt ∧ z1.toInt ≤ 5 → (0 : Int) ≤ z2.toInt ∧ z2.toInt ≤ 1000 → (1 : Int) ≤ (u.1 87 3).toInt ∧ (u.1 87 3).toInt ≤ 6 → 6 - x3.toInt + 0 < ((n14 : Nat) : Int) + 1 → va_P (dC, dI) vwCl (ac_w ad cA (TT nF) u) H → va_D A (ac_w ad cA (TT nF) u) → va_S A s.heap H locs → lv_has ls 7 [(0, .ref (ad 85)), (1, .int p0), (2, .int x2), (3, .int x3)] → W p l e (ac_rm 2) s m [.ref (ad 85), .int p0].toArray below meth c H locs 0 0 (MQ below (va_Qv (fun (u : ac_U) => ac_R rg u ∧ ac_Fr [(98, none)] u0 u) (ac_B (dC, dI) vwCl (ac_ty cA) ad cA (TT nF) A) A) [.ref (ad 85), .int p0].toArray s 0 0 A) (F0 m 62 ls [.int z2, .int z1, .ref (ad 98)]) := by
        intro x2 x3 z1 z2 u H locs ls hR hF f0 f1 f2 f3 f4 f5 hP hD hS hl
        refine a_iast F hP hD hS 98 tc_98 rfl (i_in rfl (by omega)) dX12_spreads_62 (fun H locs hP hD hS => ?_)
        have hR := hR.si (c := 98) (k := z1.toNatClampNeg) (v := z2) ⟨i_lo _, i_hi _⟩
        have hF := hF.si (c := 98) (k := z1.toNatClampNeg) (v := z2) rfl
        refine a_iinc F (k := 3) (fun v37 => [(3, .int v37), (0, .ref (ad 85)), (1, .int p0), (2, .int x2)]) dX12_spreads_63 hl rfl rfl (by decide) (by omega) (by decide) (fun _ => rfl) (fun v37 ls hv37 hl => ?_)
        refine lv_goto (tgt := 14) F.1 F.2.1 dX12_spreads_66 (by decide) ?_
        exact ih14 x2 v37 _ _ _ _ hR hF (by omega) (by omega) (by omega) hP hD hS (lv_sub hl [1, 2, 3, 0] rfl)
      have L59 : ∀ (x2 : Int32) (x3 : Int32) (z1 : Int32) (u : ac_U) (H : Heap) (locs : List Loc) (ls : Array Slot), ac_R rg u → ac_Fr [(98, none)] u0 u → (-1 : Int) ≤ x2.toInt ∧ x2.toInt ≤ 480 → (0 : Int) ≤ x3.toInt ∧ x3.toInt ≤ 5 → (0 : Int) ≤ z1.toInt ∧ z1.toInt ≤ 5 → (1 : Int) ≤ (u.1 87 3).toInt ∧ (u.1 87 3).toInt ≤ 6 → 6 - x3.toInt + 0 < ((n14 : Nat) : Int) + 1 → va_P (dC, dI) vwCl (ac_w ad cA (TT nF) u) H → va_D A (ac_w ad cA (TT nF) u) → va_S A s.heap H locs → lv_has ls 7 [(0, .ref (ad 85)), (1, .int p0), (2, .int x2), (3, .int x3)] → W p l e (ac_rm 2) s m [.ref (ad 85), .int p0].toArray below meth c H locs 0 0 (MQ below (va_Qv (fun (u : ac_U) => ac_R rg u ∧ ac_Fr [(98, none)] u0 u) (ac_B (dC, dI) vwCl (ac_ty cA) ad cA (TT nF) A) A) [.ref (ad 85), .int p0].toArray s 0 0 A) (F0 m 59 ls [.int z1, .ref (ad 98)]) := by
        intro x2 x3 z1 u H locs ls hR hF f0 f1 f2 f3 f4 hP hD hS hl
        refine a_sp F (1000 : Int32) dX12_spreads_59 (by decide) ?_
        have g38 : (0 : Int) ≤ (u.1 87 3).toInt ∧ (u.1 87 3).toInt ≤ 6 := hR 87 3
        exact L62 x2 x3 z1 (1000 : Int32) _ _ _ _ hR hF (by omega) (by omega) (by omega) (by decide) (by omega : (1 : Int) ≤ (u.1 87 3).toInt ∧ (u.1 87 3).toInt ≤ 6) (by omega) hP hD hS (lv_sub hl [0, 1, 2, 3] rfl)
      refine lv_iload_n F.1 F.2.1 dX12_spreads_14 rfl (lv_at hl 3 rfl) ?_
      refine lv_aload_n F.1 F.2.1 dX12_spreads_15 rfl (lv_at hl 0 rfl) ?_
      refine a_getr F inX12 hP 85 6 tc_85 rfl rfl (by decide) q1477 (fun _ h9 => h9) dX12_spreads_16 ?_
      refine a_ic F (3 : Int32) dX12_spreads_19 (by decide) ?_
      have g39 : (0 : Int) ≤ (u.1 87 3).toInt ∧ (u.1 87 3).toInt ≤ 6 := hR 87 3
      refine a_ialdK F hP 87 3 tc_87 rfl rfl (i_in ic_3 (by omega)) (v := (u.1 87 3)) rfl dX12_spreads_20 ?_
      refine b_ge F 69 dX12_spreads_21 (by decide) rfl rfl (fun c40 => ?_) (fun c40 => ?_)
      · refine a_ic F (0 : Int32) dX12_spreads_69 (by decide) ?_
        refine lv_istore_n (lv' := [(3, .int (0 : Int32)), (0, .ref (ad 85)), (1, .int p0), (2, .int x2)]) F.1 F.2.1 dX12_spreads_70 rfl hl (by decide) rfl (fun ls hl => ?_)
        exact L71 8 (0 : Int32) _ _ _ _ hR hF (by decide) (by decide) hP hD hS (lv_sub hl [1, 0] rfl)
      · refine lv_aload_n F.1 F.2.1 dX12_spreads_24 rfl (lv_at hl 0 rfl) ?_
        refine a_getr F inX12 hP 85 31 tc_85 rfl rfl (by decide) q1502 (fun _ h9 => h9) dX12_spreads_25 ?_
        refine lv_iload_n F.1 F.2.1 dX12_spreads_28 rfl (lv_at hl 3 rfl) ?_
        refine lv_iload_n F.1 F.2.1 dX12_spreads_29 rfl (lv_at hl 2 rfl) ?_
        refine z_lt F 59 dX12_spreads_30 (by decide) rfl (fun c41 => ?_) (fun c41 => ?_)
        · exact L59 x2 x3 x3 _ _ _ _ hR hF (by omega) (by omega) (by omega) (by omega : (1 : Int) ≤ (u.1 87 3).toInt ∧ (u.1 87 3).toInt ≤ 6) (by omega) hP hD hS (lv_sub hl [0, 1, 2, 3] rfl)
        · refine lv_aload_n F.1 F.2.1 dX12_spreads_33 rfl (lv_at hl 0 rfl) ?_
          refine a_getr F inX12 hP 85 6 tc_85 rfl rfl (by decide) q1477 (fun _ h9 => h9) dX12_spreads_34 ?_
          refine a_bp F (16 : Int32) dX12_spreads_37 (by decide) ?_
          refine lv_iload_n F.1 F.2.1 dX12_spreads_39 rfl (lv_at hl 3 rfl) ?_
          refine a_iadd F dX12_spreads_40 ic_16 rfl (by omega) (fun v42 hv42 => ?_)
          refine a_iald F hP 87 tc_87 rfl (i_in rfl (by omega)) dX12_spreads_41 (fun v43 ev43 => ?_)
          have hv43 : (0 : Int) ≤ v43.toInt ∧ v43.toInt ≤ 7 := rg_seg_87_16_21 hR ev43 (by omega)
          refine lv_aload_n F.1 F.2.1 dX12_spreads_42 rfl (lv_at hl 0 rfl) ?_
          refine a_getr F inX12 hP 85 6 tc_85 rfl rfl (by decide) q1477 (fun _ h9 => h9) dX12_spreads_43 ?_
          refine a_sp F (140 : Int32) dX12_spreads_46 (by decide) ?_
          refine lv_iload_n F.1 F.2.1 dX12_spreads_49 rfl (lv_at hl 1 rfl) ?_
          refine a_iadd F dX12_spreads_50 ic_140 rfl (by omega) (fun v44 hv44 => ?_)
          refine a_iald F hP 87 tc_87 rfl (i_in rfl (by omega)) dX12_spreads_51 (fun v45 ev45 => ?_)
          refine b_ne F 59 dX12_spreads_52 (by decide) rfl rfl (fun c46 => ?_) (fun c46 => ?_)
          · exact L59 x2 x3 x3 _ _ _ _ hR hF (by omega) (by omega) (by omega) (by omega : (1 : Int) ≤ (u.1 87 3).toInt ∧ (u.1 87 3).toInt ≤ 6) (by omega) hP hD hS (lv_sub hl [0, 1, 2, 3] rfl)
          · refine lv_iload_n F.1 F.2.1 dX12_spreads_55 rfl (lv_at hl 2 rfl) ?_
            refine lv_goto (tgt := 62) F.1 F.2.1 dX12_spreads_56 (by decide) ?_
            exact L62 x2 x3 x3 x2 _ _ _ _ hR hF (by omega) (by omega) (by omega) (by omega) (by omega : (1 : Int) ≤ (u.1 87 3).toInt ∧ (u.1 87 3).toInt ≤ 6) (by omega) hP hD hS (lv_sub hl [0, 1, 2, 3] rfl)
  refine lv_aload_n F.1 F.2.1 dX12_spreads_0 rfl (lv_at hl 0 rfl) ?_
  refine a_getr F inX12 hP 85 6 tc_85 rfl rfl (by decide) q1477 (fun _ h9 => h9) dX12_spreads_1 ?_
  refine a_bp F (124 : Int32) dX12_spreads_4 (by decide) ?_
  refine lv_iload_n F.1 F.2.1 dX12_spreads_6 rfl (lv_at hl 1 rfl) ?_
  refine a_iadd F dX12_spreads_7 ic_124 rfl (by omega) (fun v47 hv47 => ?_)
  refine a_iald F hP 87 tc_87 rfl (i_in rfl (by omega)) dX12_spreads_8 (fun v48 ev48 => ?_)
  have hv48 : (0 : Int) ≤ v48.toInt ∧ v48.toInt ≤ 481 := rg_seg_87_124_131 hR ev48 (by omega)
  refine a_ic F (1 : Int32) dX12_spreads_9 (by decide) ?_
  refine a_isub F dX12_spreads_10 rfl ic_1 (by omega) (fun v49 hv49 => ?_)
  refine lv_istore_n (lv' := [(2, .int v49), (0, .ref (ad 85)), (1, .int p0)]) F.1 F.2.1 dX12_spreads_11 rfl hl (by decide) rfl (fun ls hl => ?_)
  refine a_ic F (0 : Int32) dX12_spreads_12 (by decide) ?_
  refine lv_istore_n (lv' := [(3, .int (0 : Int32)), (2, .int v49), (0, .ref (ad 85)), (1, .int p0)]) F.1 F.2.1 dX12_spreads_13 rfl hl (by decide) rfl (fun ls hl => ?_)
  exact L14 8 v49 (0 : Int32) _ _ _ _ hR hF (by decide) (by omega) (by decide) hP hD hS (lv_sub hl [2, 3, 1, 0] rfl)
set_option maxHeartbeats 600000 in
set_option maxRecDepth 100000 in
theorem c_X12_heard_85 (l : Launch) (dC : Nat → ClassId) (dI : Nat → Nat → Nat) (ad : Nat → Nat) (cA : Nat → ClassId) (nF : Nat) (u0 : ac_U) (p0 : Int32) (hR : ac_R rg u0) : ac_Mi l yX12_heard (.code yX12_heard cX12_heard 4 (some .int) :: TB) 3 (dC, dI) vwCl (ac_ty cA) ad cA (TT nF) [.ref (ad 85), .int p0] u0 (fun (r : Int32) (u : ac_U) => ac_R rg u ∧ ac_Fr [(85, some 0), (98, none)] u0 u ∧ ((-1 : Int) ≤ r.toInt ∧ r.toInt ≤ 127)) := by
  refine ac_Mi.of (cc := cX12_heard) (maxL := 4) (ret := (some .int)) (by decide) rfl (Nat.le_of_ble_eq_true rfl) ?_
  intro p e s m below meth c A ls F hml hr hlocks hA hP hD hS hl
  have F : ac_X p s m [.ref (ad 85), .int p0].toArray c cX12_heard RX12 TB (dC, dI) vwCl (ac_ty cA) := ⟨F.1, F.2.1, fun w h => F.2.2.1 w (List.mem_cons_of_mem _ h), F.2.2.2.1, F.2.2.2.2⟩
  have hl : lv_has ls 4 [(0, .ref (ad 85)), (1, .int p0)] := hl
  have hF : ac_Fr [(85, some 0), (98, none)] u0 u0 := ac_Fr.rf
  have L24 : ∀ (n24 : Nat) (x2 : Int32) (x3 : Int32) (u : ac_U) (H : Heap) (locs : List Loc) (ls : Array Slot), ac_R rg u → ac_Fr [(85, some 0), (98, none)] u0 u → 6 - x3.toInt < (n24 : Int) → (0 : Int) ≤ x2.toInt ∧ x2.toInt ≤ 127 → (0 : Int) ≤ x3.toInt ∧ x3.toInt ≤ 6 → (0 : Int) ≤ (u.1 85 0).toInt ∧ (u.1 85 0).toInt ≤ 0 → va_P (dC, dI) vwCl (ac_w ad cA (TT nF) u) H → va_D A (ac_w ad cA (TT nF) u) → va_S A s.heap H locs → lv_has ls 4 [(0, .ref (ad 85)), (2, .int x2), (3, .int x3)] → W p l e (ac_rm 3) s m [.ref (ad 85), .int p0].toArray below meth c H locs 0 0 (MQ below (va_Qi (fun (r : Int32) (u : ac_U) => ac_R rg u ∧ ac_Fr [(85, some 0), (98, none)] u0 u ∧ ((-1 : Int) ≤ r.toInt ∧ r.toInt ≤ 127)) (ac_B (dC, dI) vwCl (ac_ty cA) ad cA (TT nF) A) A) [.ref (ad 85), .int p0].toArray s 0 0 A) (F0 m 24 ls []) := by
    intro n24
    induction n24 with
    | zero => intro x2 x3 u H locs ls hR hF hn24 f0 f1 f2 hP hD hS hl; exfalso; omega
    | succ n24 ih24 =>
      intro x2 x3 u H locs ls hR hF hn24 f0 f1 f2 hP hD hS hl
      have L58 : ∀ (x3 : Int32) (z0 : Int32) (z1 : Int32) (u : ac_U) (H : Heap) (locs : List Loc) (ls : Array Slot), ac_R rg u → ac_Fr [(85, some 0), (98, none)] u0 u → (0 : Int) ≤ x3.toInt ∧ x3.toInt ≤ 5 → (0 : Int) ≤ z0.toInt ∧ z0.toInt ≤ 127 → (0 : Int) ≤ z1.toInt ∧ z1.toInt ≤ 32 → (0 : Int) ≤ (u.1 85 0).toInt ∧ (u.1 85 0).toInt ≤ 0 → (1 : Int) ≤ (u.1 87 3).toInt ∧ (u.1 87 3).toInt ≤ 6 → 6 - x3.toInt + 0 < ((n24 : Nat) : Int) + 1 → va_P (dC, dI) vwCl (ac_w ad cA (TT nF) u) H → va_D A (ac_w ad cA (TT nF) u) → va_S A s.heap H locs → lv_has ls 4 [(0, .ref (ad 85)), (3, .int x3)] → W p l e (ac_rm 3) s m [.ref (ad 85), .int p0].toArray below meth c H locs 0 0 (MQ below (va_Qi (fun (r : Int32) (u : ac_U) => ac_R rg u ∧ ac_Fr [(85, some 0), (98, none)] u0 u ∧ ((-1 : Int) ≤ r.toInt ∧ r.toInt ≤ 127)) (ac_B (dC, dI) vwCl (ac_ty cA) ad cA (TT nF) A) A) [.ref (ad 85), .int p0].toArray s 0 0 A) (F0 m 58 ls [.int z1, .int z0]) := by
        intro x3 z0 z1 u H locs ls hR hF f0 f1 f2 f3 f4 f5 hP hD hS hl
        refine a_iorB F dX12_heard_58 rfl rfl (n := 7) (m' := 128) rfl (by decide) (by omega) (by omega) (fun v1 hv1 => ?_)
        refine lv_istore_n (lv' := [(2, .int v1), (0, .ref (ad 85)), (3, .int x3)]) F.1 F.2.1 dX12_heard_59 rfl hl (by decide) rfl (fun ls hl => ?_)
        refine a_iinc F (k := 2) (fun v2 => [(3, .int v2), (2, .int v1), (0, .ref (ad 85))]) dX12_heard_60 hl rfl rfl (by decide) (by omega) (by decide) (fun _ => rfl) (fun v2 ls hv2 hl => ?_)
        refine lv_goto (tgt := 24) F.1 F.2.1 dX12_heard_63 (by decide) ?_
        have g3 : (0 : Int) ≤ (u.1 85 0).toInt ∧ (u.1 85 0).toInt ≤ 1 := hR 85 0
        exact ih24 v1 v2 _ _ _ _ hR hF (by omega) (by omega) (by omega) (by omega : (0 : Int) ≤ (u.1 85 0).toInt ∧ (u.1 85 0).toInt ≤ 0) hP hD hS (lv_sub hl [2, 1, 0] rfl)
      refine lv_iload_n F.1 F.2.1 dX12_heard_24 rfl (lv_at hl 2 rfl) ?_
      refine lv_aload_n F.1 F.2.1 dX12_heard_25 rfl (lv_at hl 0 rfl) ?_
      refine a_getr F inX12 hP 85 6 tc_85 rfl rfl (by decide) q1477 (fun _ h9 => h9) dX12_heard_26 ?_
      refine a_ic F (3 : Int32) dX12_heard_29 (by decide) ?_
      have g4 : (0 : Int) ≤ (u.1 87 3).toInt ∧ (u.1 87 3).toInt ≤ 6 := hR 87 3
      refine a_ialdK F hP 87 3 tc_87 rfl rfl (i_in ic_3 (by omega)) (v := (u.1 87 3)) rfl dX12_heard_30 ?_
      refine b_ge F 66 dX12_heard_31 (by decide) rfl rfl (fun c5 => ?_) (fun c5 => ?_)
      · refine lv_iload_n F.1 F.2.1 dX12_heard_66 rfl (lv_at hl 1 rfl) ?_
        exact a_reti F hr hlocks hP hD hS dX12_heard_67 ⟨hR, hF, (by omega : (-1 : Int) ≤ x2.toInt ∧ x2.toInt ≤ 127)⟩
      · refine lv_iload_n F.1 F.2.1 dX12_heard_34 rfl (lv_at hl 1 rfl) ?_
        refine lv_aload_n F.1 F.2.1 dX12_heard_35 rfl (lv_at hl 0 rfl) ?_
        refine a_getr F inX12 hP 85 31 tc_85 rfl rfl (by decide) q1502 (fun _ h9 => h9) dX12_heard_36 ?_
        refine lv_iload_n F.1 F.2.1 dX12_heard_39 rfl (lv_at hl 2 rfl) ?_
        refine a_iald F hP 98 tc_98 rfl (i_in rfl (by omega)) dX12_heard_40 (fun v6 ev6 => ?_)
        refine lv_aload_n F.1 F.2.1 dX12_heard_41 rfl (lv_at hl 0 rfl) ?_
        refine a_getr F inX12 hP 85 6 tc_85 rfl rfl (by decide) q1477 (fun _ h9 => h9) dX12_heard_42 ?_
        refine a_bp F (106 : Int32) dX12_heard_45 (by decide) ?_
        have g7 : (0 : Int) ≤ (u.1 87 106).toInt ∧ (u.1 87 106).toInt ≤ 480 := hR 87 106
        refine a_ialdK F hP 87 106 tc_87 rfl rfl (i_in ic_106 (by omega)) (v := (u.1 87 106)) rfl dX12_heard_47 ?_
        refine b_gt F 57 dX12_heard_48 (by decide) rfl rfl (fun c8 => ?_) (fun c8 => ?_)
        · refine a_ic F (0 : Int32) dX12_heard_57 (by decide) ?_
          have g9 : (0 : Int) ≤ (u.1 85 0).toInt ∧ (u.1 85 0).toInt ≤ 1 := hR 85 0
          exact L58 x3 x2 (0 : Int32) _ _ _ _ hR hF (by omega) (by omega) (by decide) (by omega : (0 : Int) ≤ (u.1 85 0).toInt ∧ (u.1 85 0).toInt ≤ 0) (by omega : (1 : Int) ≤ (u.1 87 3).toInt ∧ (u.1 87 3).toInt ≤ 6) (by omega) hP hD hS (lv_sub hl [0, 2] rfl)
        · refine a_ic F (1 : Int32) dX12_heard_51 (by decide) ?_
          refine lv_iload_n F.1 F.2.1 dX12_heard_52 rfl (lv_at hl 2 rfl) ?_
          refine a_ishl1 F dX12_heard_53 rfl (lo := 0) (hi := 5) (by omega) (by decide) (fun v10 hv10 => ?_)
          have hv10 : (1 : Int) ≤ v10.toInt ∧ v10.toInt ≤ 32 := hv10
          refine lv_goto (tgt := 58) F.1 F.2.1 dX12_heard_54 (by decide) ?_
          have g11 : (0 : Int) ≤ (u.1 85 0).toInt ∧ (u.1 85 0).toInt ≤ 1 := hR 85 0
          exact L58 x3 x2 v10 _ _ _ _ hR hF (by omega) (by omega) (by omega) (by omega : (0 : Int) ≤ (u.1 85 0).toInt ∧ (u.1 85 0).toInt ≤ 0) (by omega : (1 : Int) ≤ (u.1 87 3).toInt ∧ (u.1 87 3).toInt ≤ 6) (by omega) hP hD hS (lv_sub hl [0, 2] rfl)
  refine lv_aload_n F.1 F.2.1 dX12_heard_0 rfl (lv_at hl 0 rfl) ?_
  refine a_ic F (0 : Int32) dX12_heard_1 (by decide) ?_
  refine a_puti F inX12 tyX12 tyX12_ok nmX12 hP hD hS 85 0 tc_85 rfl rfl (by decide) q1471 (fun _ h9 => h9) rfl (ty := .int) (tyX12_ok 0 (by decide)) rfl rfl dX12_heard_2 (fun H locs hP hD hS => ?_)
  have hR := hR.si (c := 85) (k := 0) (v := (0 : Int32)) (by rw [ic_0]; exact (by omega : (0 : Int) ≤ (0 : Int) ∧ (0 : Int) ≤ 1))
  have hF := hF.si (c := 85) (k := 0) (v := (0 : Int32)) rfl
  refine lv_aload_n F.1 F.2.1 dX12_heard_5 rfl (lv_at hl 0 rfl) ?_
  refine lv_iload_n F.1 F.2.1 dX12_heard_6 rfl (lv_at hl 1 rfl) ?_
  refine a_Vi F hml hl.1 hA hP hD hS (As := [.int p0]) (c_X12_isPromise_85 l dC dI ad cA nF _ p0 hR) (cs_RX12_244 (d := 2) F.2.2.1 (by decide)) tc_85 rfl rfl rfl rfl (Nat.le_of_ble_eq_true rfl) dX12_heard_7 ⟨Nat.le_refl 0, Nat.le_refl 0⟩ (fun r12 uN12 H locs hq hP hD hS => ?_)
  obtain ⟨hu12, gr12, xr12⟩ := hq
  rw [hu12] at hP hD
  have xr12 : r12.toInt ≠ 0 → 0 ≤ p0.toInt ∧ p0.toInt ≤ 7 := xr12
  refine z_ne F 15 dX12_heard_10 (by decide) rfl (fun c13 => ?_) (fun c13 => ?_)
  · refine lv_aload_n F.1 F.2.1 dX12_heard_15 rfl (lv_at hl 0 rfl) ?_
    refine lv_iload_n F.1 F.2.1 dX12_heard_16 rfl (lv_at hl 1 rfl) ?_
    refine a_Vv F hml hl.1 hA hP hD hS (As := [.int p0]) (c_X12_spreads_85 l dC dI ad cA nF _ p0 hR (by omega)) (cs_RX12_366 (d := 2) F.2.2.1 (by decide)) tc_85 rfl rfl rfl rfl (Nat.le_of_ble_eq_true rfl) dX12_heard_17 ⟨Nat.le_refl 0, Nat.le_refl 0⟩ (fun u14 H locs hq hP hD hS => ?_)
    obtain ⟨hR, hF14⟩ := hq
    have hF := hF.tr hF14 (by decide)
    refine a_ic F (0 : Int32) dX12_heard_20 (by decide) ?_
    refine lv_istore_n (lv' := [(2, .int (0 : Int32)), (0, .ref (ad 85)), (1, .int p0)]) F.1 F.2.1 dX12_heard_21 rfl hl (by decide) rfl (fun ls hl => ?_)
    refine a_ic F (0 : Int32) dX12_heard_22 (by decide) ?_
    refine lv_istore_n (lv' := [(3, .int (0 : Int32)), (2, .int (0 : Int32)), (0, .ref (ad 85)), (1, .int p0)]) F.1 F.2.1 dX12_heard_23 rfl hl (by decide) rfl (fun ls hl => ?_)
    exact L24 8 (0 : Int32) (0 : Int32) _ _ _ _ hR hF (by decide) (by decide) (by decide) (i_trB (hF14 85 0 rfl) (by omega : (0 : Int) ≤ (0 : Int) ∧ (0 : Int) ≤ 0)) hP hD hS (lv_sub hl [2, 1, 0] rfl)
  · refine a_ic F (-1 : Int32) dX12_heard_13 (by decide) ?_
    exact a_reti F hr hlocks hP hD hS dX12_heard_14 ⟨hR, hF, (by decide)⟩
set_option maxHeartbeats 600000 in
set_option maxRecDepth 100000 in
theorem c_X12_isLeaf_85 (l : Launch) (dC : Nat → ClassId) (dI : Nat → Nat → Nat) (ad : Nat → Nat) (cA : Nat → ClassId) (nF : Nat) (u0 : ac_U) (p0 : Int32) (p1 : Int32) (p2 : Int32) (p3 : Int32) (hR : ac_R rg u0) (hp0 : (0 : Int) ≤ p0.toInt ∧ p0.toInt ≤ 7) : ac_Mi l yX12_isLeaf (.code yX12_isLeaf cX12_isLeaf 7 (some .boolean) :: TB) 7 (dC, dI) vwCl (ac_ty cA) ad cA (TT nF) [.ref (ad 85), .int p0, .int p1, .int p2, .int p3] u0 (fun (r : Int32) (u : ac_U) => u = u0 ∧ ((0 : Int) ≤ r.toInt ∧ r.toInt ≤ 1)) := by
  refine ac_Mi.of (cc := cX12_isLeaf) (maxL := 7) (ret := (some .boolean)) (by decide) rfl (Nat.le_of_ble_eq_true rfl) ?_
  intro p e s m below meth c A ls F hml hr hlocks hA hP hD hS hl
  have F : ac_X p s m [.ref (ad 85), .int p0, .int p1, .int p2, .int p3].toArray c cX12_isLeaf RX12 TB (dC, dI) vwCl (ac_ty cA) := ⟨F.1, F.2.1, fun w h => F.2.2.1 w (List.mem_cons_of_mem _ h), F.2.2.2.1, F.2.2.2.2⟩
  have hl : lv_has ls 7 [(0, .ref (ad 85)), (1, .int p0), (2, .int p1), (3, .int p2), (4, .int p3)] := hl
  have L122 : ∀ (z0 : Int32) (H : Heap) (locs : List Loc) (ls : Array Slot), va_P (dC, dI) vwCl (ac_w ad cA (TT nF) u0) H → va_D A (ac_w ad cA (TT nF) u0) → va_S A s.heap H locs → lv_has ls 7 [(3, .int p2), (4, .int p3)] → W p l e (ac_rm 7) s m [.ref (ad 85), .int p0, .int p1, .int p2, .int p3].toArray below meth c H locs 0 0 (MQ below (va_Qi (fun (r : Int32) (u : ac_U) => u = u0 ∧ ((0 : Int) ≤ r.toInt ∧ r.toInt ≤ 1)) (ac_B (dC, dI) vwCl (ac_ty cA) ad cA (TT nF) A) A) [.ref (ad 85), .int p0, .int p1, .int p2, .int p3].toArray s 0 0 A) (F0 m 122 ls [.int z0]) := by
    intro z0 H locs ls hP hD hS hl
    refine lv_istore (lv' := [(6, .int z0), (3, .int p2), (4, .int p3)]) F.1 F.2.1 dX12_isLeaf_122 hl (by decide) rfl (fun ls hl => ?_)
    refine lv_iload_n F.1 F.2.1 dX12_isLeaf_124 rfl (lv_at hl 1 rfl) ?_
    refine a_bp F (60 : Int32) dX12_isLeaf_125 (by decide) ?_
    refine b_ne F 145 dX12_isLeaf_127 (by decide) rfl ic_60 (fun c1 => ?_) (fun c1 => ?_)
    · refine lv_iload_n F.1 F.2.1 dX12_isLeaf_145 rfl (lv_at hl 1 rfl) ?_
      refine a_bp F (61 : Int32) dX12_isLeaf_146 (by decide) ?_
      refine b_ne F 166 dX12_isLeaf_148 (by decide) rfl ic_61 (fun c2 => ?_) (fun c2 => ?_)
      · refine lv_iload F.1 F.2.1 dX12_isLeaf_166 (lv_at hl 0 rfl) ?_
        refine lv_iload F.1 F.2.1 dX12_isLeaf_168 (lv_at hl 2 rfl) ?_
        refine b_le F 177 dX12_isLeaf_170 (by decide) rfl rfl (fun c3 => ?_) (fun c3 => ?_)
        · refine a_ic F (0 : Int32) dX12_isLeaf_177 (by decide) ?_
          exact a_retz F hr hlocks hP hD hS dX12_isLeaf_178 (Or.inl rfl) ⟨rfl, (by decide)⟩
        · refine a_ic F (1 : Int32) dX12_isLeaf_173 (by decide) ?_
          refine lv_goto (tgt := 178) F.1 F.2.1 dX12_isLeaf_174 (by decide) ?_
          exact a_retz F hr hlocks hP hD hS dX12_isLeaf_178 (Or.inr rfl) ⟨rfl, (by decide)⟩
      · refine lv_iload F.1 F.2.1 dX12_isLeaf_151 (lv_at hl 0 rfl) ?_
        refine lv_iload F.1 F.2.1 dX12_isLeaf_153 (lv_at hl 2 rfl) ?_
        refine b_ne F 162 dX12_isLeaf_155 (by decide) rfl rfl (fun c4 => ?_) (fun c4 => ?_)
        · refine a_ic F (0 : Int32) dX12_isLeaf_162 (by decide) ?_
          refine lv_goto (tgt := 178) F.1 F.2.1 dX12_isLeaf_163 (by decide) ?_
          exact a_retz F hr hlocks hP hD hS dX12_isLeaf_178 (Or.inl rfl) ⟨rfl, (by decide)⟩
        · refine a_ic F (1 : Int32) dX12_isLeaf_158 (by decide) ?_
          refine lv_goto (tgt := 178) F.1 F.2.1 dX12_isLeaf_159 (by decide) ?_
          exact a_retz F hr hlocks hP hD hS dX12_isLeaf_178 (Or.inr rfl) ⟨rfl, (by decide)⟩
    · refine lv_iload F.1 F.2.1 dX12_isLeaf_130 (lv_at hl 0 rfl) ?_
      refine lv_iload F.1 F.2.1 dX12_isLeaf_132 (lv_at hl 2 rfl) ?_
      refine b_ge F 141 dX12_isLeaf_134 (by decide) rfl rfl (fun c5 => ?_) (fun c5 => ?_)
      · refine a_ic F (0 : Int32) dX12_isLeaf_141 (by decide) ?_
        refine lv_goto (tgt := 178) F.1 F.2.1 dX12_isLeaf_142 (by decide) ?_
        exact a_retz F hr hlocks hP hD hS dX12_isLeaf_178 (Or.inl rfl) ⟨rfl, (by decide)⟩
      · refine a_ic F (1 : Int32) dX12_isLeaf_137 (by decide) ?_
        refine lv_goto (tgt := 178) F.1 F.2.1 dX12_isLeaf_138 (by decide) ?_
        exact a_retz F hr hlocks hP hD hS dX12_isLeaf_178 (Or.inr rfl) ⟨rfl, (by decide)⟩
  refine lv_aload_n F.1 F.2.1 dX12_isLeaf_0 rfl (lv_at hl 0 rfl) ?_
  refine lv_iload_n F.1 F.2.1 dX12_isLeaf_1 rfl (lv_at hl 1 rfl) ?_
  refine a_ic F (0 : Int32) dX12_isLeaf_2 (by decide) ?_
  refine a_Vi F hml hl.1 hA hP hD hS (As := [.int p0, .int (0 : Int32)]) (c_X12_statusOf_85 l dC dI ad cA nF _ p0 (0 : Int32) hR (by omega) (by decide)) (cs_RX12_257 (d := 6) F.2.2.1 (by decide)) tc_85 rfl rfl rfl rfl (Nat.le_of_ble_eq_true rfl) dX12_isLeaf_3 ⟨Nat.le_refl 0, Nat.le_refl 0⟩ (fun r6 uN6 H locs hq hP hD hS => ?_)
  obtain ⟨hu6, gr6⟩ := hq
  rw [hu6] at hP hD
  refine lv_istore (lv' := [(5, .int r6), (0, .ref (ad 85)), (1, .int p0), (2, .int p1), (3, .int p2), (4, .int p3)]) F.1 F.2.1 dX12_isLeaf_6 hl (by decide) rfl (fun ls hl => ?_)
  refine lv_iload_n F.1 F.2.1 dX12_isLeaf_8 rfl (lv_at hl 3 rfl) ?_
  refine a_ic F (5 : Int32) dX12_isLeaf_9 (by decide) ?_
  refine b_ge F 42 dX12_isLeaf_10 (by decide) rfl ic_5 (fun c7 => ?_) (fun c7 => ?_)
  · refine lv_iload_n F.1 F.2.1 dX12_isLeaf_42 rfl (lv_at hl 3 rfl) ?_
    refine a_ic F (5 : Int32) dX12_isLeaf_43 (by decide) ?_
    refine b_ne F 67 dX12_isLeaf_44 (by decide) rfl ic_5 (fun c8 => ?_) (fun c8 => ?_)
    · refine lv_iload_n F.1 F.2.1 dX12_isLeaf_67 rfl (lv_at hl 3 rfl) ?_
      refine a_bp F (6 : Int32) dX12_isLeaf_68 (by decide) ?_
      refine b_ne F 85 dX12_isLeaf_70 (by decide) rfl ic_6 (fun c9 => ?_) (fun c9 => ?_)
      · refine lv_iload_n F.1 F.2.1 dX12_isLeaf_85 rfl (lv_at hl 3 rfl) ?_
        refine a_bp F (7 : Int32) dX12_isLeaf_86 (by decide) ?_
        refine b_ne F 103 dX12_isLeaf_88 (by decide) rfl ic_7 (fun c10 => ?_) (fun c10 => ?_)
        · refine lv_iload_n F.1 F.2.1 dX12_isLeaf_103 rfl (lv_at hl 3 rfl) ?_
          refine a_bp F (8 : Int32) dX12_isLeaf_104 (by decide) ?_
          refine b_ne F 121 dX12_isLeaf_106 (by decide) rfl ic_8 (fun c11 => ?_) (fun c11 => ?_)
          · refine lv_iload_n F.1 F.2.1 dX12_isLeaf_121 rfl (lv_at hl 2 rfl) ?_
            exact L122 p0 _ _ _  hP hD hS (lv_sub hl [4, 5] rfl)
          · refine lv_aload_n F.1 F.2.1 dX12_isLeaf_109 rfl (lv_at hl 1 rfl) ?_
            refine a_getr F inX12 hP 85 6 tc_85 rfl rfl (by decide) q1477 (fun _ h9 => h9) dX12_isLeaf_110 ?_
            refine a_bp F (66 : Int32) dX12_isLeaf_113 (by decide) ?_
            refine lv_iload_n F.1 F.2.1 dX12_isLeaf_115 rfl (lv_at hl 2 rfl) ?_
            refine a_iadd F dX12_isLeaf_116 ic_66 rfl (by omega) (fun v12 hv12 => ?_)
            refine a_iald F hP 87 tc_87 rfl (i_in rfl (by omega)) dX12_isLeaf_117 (fun v13 ev13 => ?_)
            have hv13 : (0 : Int) ≤ v13.toInt ∧ v13.toInt ≤ 3 := rg_seg_87_66_73 hR ev13 (by omega)
            refine lv_goto (tgt := 122) F.1 F.2.1 dX12_isLeaf_118 (by decide) ?_
            exact L122 v13 _ _ _  hP hD hS (lv_sub hl [4, 5] rfl)
        · refine lv_aload_n F.1 F.2.1 dX12_isLeaf_91 rfl (lv_at hl 1 rfl) ?_
          refine a_getr F inX12 hP 85 6 tc_85 rfl rfl (by decide) q1477 (fun _ h9 => h9) dX12_isLeaf_92 ?_
          refine a_bp F (58 : Int32) dX12_isLeaf_95 (by decide) ?_
          refine lv_iload_n F.1 F.2.1 dX12_isLeaf_97 rfl (lv_at hl 2 rfl) ?_
          refine a_iadd F dX12_isLeaf_98 ic_58 rfl (by omega) (fun v14 hv14 => ?_)
          refine a_iald F hP 87 tc_87 rfl (i_in rfl (by omega)) dX12_isLeaf_99 (fun v15 ev15 => ?_)
          refine lv_goto (tgt := 122) F.1 F.2.1 dX12_isLeaf_100 (by decide) ?_
          exact L122 v15 _ _ _  hP hD hS (lv_sub hl [4, 5] rfl)
      · refine lv_aload_n F.1 F.2.1 dX12_isLeaf_73 rfl (lv_at hl 1 rfl) ?_
        refine a_getr F inX12 hP 85 6 tc_85 rfl rfl (by decide) q1477 (fun _ h9 => h9) dX12_isLeaf_74 ?_
        refine a_bp F (50 : Int32) dX12_isLeaf_77 (by decide) ?_
        refine lv_iload_n F.1 F.2.1 dX12_isLeaf_79 rfl (lv_at hl 2 rfl) ?_
        refine a_iadd F dX12_isLeaf_80 ic_50 rfl (by omega) (fun v16 hv16 => ?_)
        refine a_iald F hP 87 tc_87 rfl (i_in rfl (by omega)) dX12_isLeaf_81 (fun v17 ev17 => ?_)
        refine lv_goto (tgt := 122) F.1 F.2.1 dX12_isLeaf_82 (by decide) ?_
        exact L122 v17 _ _ _  hP hD hS (lv_sub hl [4, 5] rfl)
    · refine lv_aload_n F.1 F.2.1 dX12_isLeaf_47 rfl (lv_at hl 1 rfl) ?_
      refine a_getr F inX12 hP 85 6 tc_85 rfl rfl (by decide) q1477 (fun _ h9 => h9) dX12_isLeaf_48 ?_
      refine a_bp F (26 : Int32) dX12_isLeaf_51 (by decide) ?_
      refine lv_iload_n F.1 F.2.1 dX12_isLeaf_53 rfl (lv_at hl 2 rfl) ?_
      refine a_iadd F dX12_isLeaf_54 ic_26 rfl (by omega) (fun v18 hv18 => ?_)
      refine a_iald F hP 87 tc_87 rfl (i_in rfl (by omega)) dX12_isLeaf_55 (fun v19 ev19 => ?_)
      refine lv_iload F.1 F.2.1 dX12_isLeaf_56 (lv_at hl 5 rfl) ?_
      refine b_ne F 65 dX12_isLeaf_58 (by decide) rfl rfl (fun c20 => ?_) (fun c20 => ?_)
      · refine a_ic F (0 : Int32) dX12_isLeaf_65 (by decide) ?_
        exact a_retz F hr hlocks hP hD hS dX12_isLeaf_66 (Or.inl rfl) ⟨rfl, (by decide)⟩
      · refine a_ic F (1 : Int32) dX12_isLeaf_61 (by decide) ?_
        refine lv_goto (tgt := 66) F.1 F.2.1 dX12_isLeaf_62 (by decide) ?_
        exact a_retz F hr hlocks hP hD hS dX12_isLeaf_66 (Or.inr rfl) ⟨rfl, (by decide)⟩
  · refine lv_iload_n F.1 F.2.1 dX12_isLeaf_13 rfl (lv_at hl 3 rfl) ?_
    refine z_ne F 30 dX12_isLeaf_14 (by decide) rfl (fun c21 => ?_) (fun c21 => ?_)
    · refine lv_iload F.1 F.2.1 dX12_isLeaf_30 (lv_at hl 0 rfl) ?_
      refine lv_iload_n F.1 F.2.1 dX12_isLeaf_32 rfl (lv_at hl 3 rfl) ?_
      refine b_ne F 40 dX12_isLeaf_33 (by decide) rfl rfl (fun c22 => ?_) (fun c22 => ?_)
      · refine a_ic F (0 : Int32) dX12_isLeaf_40 (by decide) ?_
        exact a_retz F hr hlocks hP hD hS dX12_isLeaf_41 (Or.inl rfl) ⟨rfl, (by decide)⟩
      · refine a_ic F (1 : Int32) dX12_isLeaf_36 (by decide) ?_
        refine lv_goto (tgt := 41) F.1 F.2.1 dX12_isLeaf_37 (by decide) ?_
        exact a_retz F hr hlocks hP hD hS dX12_isLeaf_41 (Or.inr rfl) ⟨rfl, (by decide)⟩
    · refine lv_iload F.1 F.2.1 dX12_isLeaf_17 (lv_at hl 0 rfl) ?_
      refine z_le F 26 dX12_isLeaf_19 (by decide) rfl (fun c23 => ?_) (fun c23 => ?_)
      · refine a_ic F (0 : Int32) dX12_isLeaf_26 (by decide) ?_
        refine lv_goto (tgt := 41) F.1 F.2.1 dX12_isLeaf_27 (by decide) ?_
        exact a_retz F hr hlocks hP hD hS dX12_isLeaf_41 (Or.inl rfl) ⟨rfl, (by decide)⟩
      · refine a_ic F (1 : Int32) dX12_isLeaf_22 (by decide) ?_
        refine lv_goto (tgt := 41) F.1 F.2.1 dX12_isLeaf_23 (by decide) ?_
        exact a_retz F hr hlocks hP hD hS dX12_isLeaf_41 (Or.inr rfl) ⟨rfl, (by decide)⟩
set_option maxHeartbeats 600000 in
set_option maxRecDepth 100000 in
theorem c_X12_knows_85 (l : Launch) (dC : Nat → ClassId) (dI : Nat → Nat → Nat) (ad : Nat → Nat) (cA : Nat → ClassId) (nF : Nat) (u0 : ac_U) (p0 : Int32) (p1 : Int32) (hR : ac_R rg u0) : ac_Mi l yX12_knows (.code yX12_knows cX12_knows 3 (some .int) :: TB) 3 (dC, dI) vwCl (ac_ty cA) ad cA (TT nF) [.ref (ad 85), .int p0, .int p1] u0 (fun (r : Int32) (u : ac_U) => ac_R rg u ∧ ac_Fr [(85, some 0), (98, none)] u0 u) := by
  refine ac_Mi.of (cc := cX12_knows) (maxL := 3) (ret := (some .int)) (by decide) rfl (Nat.le_of_ble_eq_true rfl) ?_
  intro p e s m below meth c A ls F hml hr hlocks hA hP hD hS hl
  have F : ac_X p s m [.ref (ad 85), .int p0, .int p1].toArray c cX12_knows RX12 TB (dC, dI) vwCl (ac_ty cA) := ⟨F.1, F.2.1, fun w h => F.2.2.1 w (List.mem_cons_of_mem _ h), F.2.2.2.1, F.2.2.2.2⟩
  have hl : lv_has ls 3 [(0, .ref (ad 85)), (1, .int p0), (2, .int p1)] := hl
  have hF : ac_Fr [(85, some 0), (98, none)] u0 u0 := ac_Fr.rf
  have L29 : ∀ (u : ac_U) (H : Heap) (locs : List Loc) (ls : Array Slot), ac_R rg u → ac_Fr [(85, some 0), (98, none)] u0 u → (0 : Int) ≤ (u.1 85 0).toInt ∧ (u.1 85 0).toInt ≤ 0 → va_P (dC, dI) vwCl (ac_w ad cA (TT nF) u) H → va_D A (ac_w ad cA (TT nF) u) → va_S A s.heap H locs → lv_has ls 3 [] → W p l e (ac_rm 3) s m [.ref (ad 85), .int p0, .int p1].toArray below meth c H locs 0 0 (MQ below (va_Qi (fun (r : Int32) (u : ac_U) => ac_R rg u ∧ ac_Fr [(85, some 0), (98, none)] u0 u) (ac_B (dC, dI) vwCl (ac_ty cA) ad cA (TT nF) A) A) [.ref (ad 85), .int p0, .int p1].toArray s 0 0 A) (F0 m 29 ls []) := by
    intro u H locs ls hR hF f0 hP hD hS hl
    refine a_ic F (-1 : Int32) dX12_knows_29 (by decide) ?_
    exact a_reti F hr hlocks hP hD hS dX12_knows_30 ⟨hR, hF⟩
  refine lv_aload_n F.1 F.2.1 dX12_knows_0 rfl (lv_at hl 0 rfl) ?_
  refine a_ic F (0 : Int32) dX12_knows_1 (by decide) ?_
  refine a_puti F inX12 tyX12 tyX12_ok nmX12 hP hD hS 85 0 tc_85 rfl rfl (by decide) q1471 (fun _ h9 => h9) rfl (ty := .int) (tyX12_ok 0 (by decide)) rfl rfl dX12_knows_2 (fun H locs hP hD hS => ?_)
  have hR := hR.si (c := 85) (k := 0) (v := (0 : Int32)) (by rw [ic_0]; exact (by omega : (0 : Int) ≤ (0 : Int) ∧ (0 : Int) ≤ 1))
  have hF := hF.si (c := 85) (k := 0) (v := (0 : Int32)) rfl
  refine lv_iload_n F.1 F.2.1 dX12_knows_5 rfl (lv_at hl 1 rfl) ?_
  refine a_ic F (0 : Int32) dX12_knows_6 (by decide) ?_
  refine lv_aload_n F.1 F.2.1 dX12_knows_7 rfl (lv_at hl 0 rfl) ?_
  refine a_getr F inX12 hP 85 6 tc_85 rfl rfl (by decide) q1477 (fun _ h9 => h9) dX12_knows_8 ?_
  refine a_ic F (3 : Int32) dX12_knows_11 (by decide) ?_
  have g1 : (0 : Int) ≤ (u0.1 87 3).toInt ∧ (u0.1 87 3).toInt ≤ 6 := hR 87 3
  refine a_ialdK F hP 87 3 tc_87 rfl rfl (i_in ic_3 (by omega)) (v := (u0.1 87 3)) rfl dX12_knows_12 ?_
  refine a_ic F (1 : Int32) dX12_knows_13 (by decide) ?_
  refine a_isub F dX12_knows_14 rfl ic_1 (by omega) (fun v2 hv2 => ?_)
  refine a_Si F hml hl.1 hA hP hD hS (As := [.int p0, .int (0 : Int32), .int v2]) (c_X12_isIn l dC dI ad cA nF _ p0 (0 : Int32) v2 hR (by omega)) (cs_RX12_187 (d := 1) F.2.2.1 (by decide)) rfl rfl (Nat.le_of_ble_eq_true rfl) dX12_knows_15 ⟨Nat.le_refl 0, Nat.le_refl 0⟩ (fun r3 uN3 H locs hq hP hD hS => ?_)
  obtain ⟨hu3, gr3, xr3⟩ := hq
  rw [hu3] at hP hD
  have xr3 : r3.toInt ≠ 0 → (0 : Int) ≤ p0.toInt ∧ p0.toInt ≤ v2.toInt := xr3
  refine z_eq F 29 dX12_knows_18 (by decide) rfl (fun c4 => ?_) (fun c4 => ?_)
  · exact L29 _ _ _ _ hR hF (by omega : (0 : Int) ≤ (0 : Int) ∧ (0 : Int) ≤ 0) hP hD hS (lv_sub hl [] rfl)
  · refine lv_aload_n F.1 F.2.1 dX12_knows_21 rfl (lv_at hl 0 rfl) ?_
    refine lv_iload_n F.1 F.2.1 dX12_knows_22 rfl (lv_at hl 2 rfl) ?_
    refine a_Vi F hml hl.1 hA hP hD hS (As := [.int p1]) (c_X12_isPromise_85 l dC dI ad cA nF _ p1 hR) (cs_RX12_244 (d := 2) F.2.2.1 (by decide)) tc_85 rfl rfl rfl rfl (Nat.le_of_ble_eq_true rfl) dX12_knows_23 ⟨Nat.le_refl 0, Nat.le_refl 0⟩ (fun r5 uN5 H locs hq hP hD hS => ?_)
    obtain ⟨hu5, gr5, xr5⟩ := hq
    rw [hu5] at hP hD
    have xr5 : r5.toInt ≠ 0 → 0 ≤ p1.toInt ∧ p1.toInt ≤ 7 := xr5
    refine z_ne F 31 dX12_knows_26 (by decide) rfl (fun c6 => ?_) (fun c6 => ?_)
    · refine lv_aload_n F.1 F.2.1 dX12_knows_31 rfl (lv_at hl 0 rfl) ?_
      refine lv_iload_n F.1 F.2.1 dX12_knows_32 rfl (lv_at hl 2 rfl) ?_
      refine a_Vv F hml hl.1 hA hP hD hS (As := [.int p1]) (c_X12_spreads_85 l dC dI ad cA nF _ p1 hR (by omega)) (cs_RX12_366 (d := 2) F.2.2.1 (by decide)) tc_85 rfl rfl rfl rfl (Nat.le_of_ble_eq_true rfl) dX12_knows_33 ⟨Nat.le_refl 0, Nat.le_refl 0⟩ (fun u7 H locs hq hP hD hS => ?_)
      obtain ⟨hR, hF7⟩ := hq
      have hF := hF.tr hF7 (by decide)
      refine lv_aload_n F.1 F.2.1 dX12_knows_36 rfl (lv_at hl 0 rfl) ?_
      refine a_getr F inX12 hP 85 31 tc_85 rfl rfl (by decide) q1502 (fun _ h9 => h9) dX12_knows_37 ?_
      refine lv_iload_n F.1 F.2.1 dX12_knows_40 rfl (lv_at hl 1 rfl) ?_
      refine a_iald F hP 98 tc_98 rfl (i_in rfl (by omega)) dX12_knows_41 (fun v8 ev8 => ?_)
      refine a_sp F (1000 : Int32) dX12_knows_42 (by decide) ?_
      refine b_ge F 57 dX12_knows_45 (by decide) rfl ic_1000 (fun c9 => ?_) (fun c9 => ?_)
      · refine a_ic F (-1 : Int32) dX12_knows_57 (by decide) ?_
        exact a_reti F hr hlocks hP hD hS dX12_knows_58 ⟨hR, hF⟩
      · refine lv_aload_n F.1 F.2.1 dX12_knows_48 rfl (lv_at hl 0 rfl) ?_
        refine a_getr F inX12 hP 85 31 tc_85 rfl rfl (by decide) q1502 (fun _ h9 => h9) dX12_knows_49 ?_
        refine lv_iload_n F.1 F.2.1 dX12_knows_52 rfl (lv_at hl 1 rfl) ?_
        refine a_iald F hP 98 tc_98 rfl (i_in rfl (by omega)) dX12_knows_53 (fun v10 ev10 => ?_)
        refine lv_goto (tgt := 58) F.1 F.2.1 dX12_knows_54 (by decide) ?_
        exact a_reti F hr hlocks hP hD hS dX12_knows_58 ⟨hR, hF⟩
    · exact L29 _ _ _ _ hR hF (by omega : (0 : Int) ≤ (0 : Int) ∧ (0 : Int) ≤ 0) hP hD hS (lv_sub hl [] rfl)
set_option maxHeartbeats 600000 in
set_option maxRecDepth 100000 in
theorem c_X12_leafOf_85 (l : Launch) (dC : Nat → ClassId) (dI : Nat → Nat → Nat) (ad : Nat → Nat) (cA : Nat → ClassId) (nF : Nat) (u0 : ac_U)  (hR : ac_R rg u0) : ac_Mi l yX12_leafOf (.code yX12_leafOf cX12_leafOf 1 (some .int) :: TB) 2 (dC, dI) vwCl (ac_ty cA) ad cA (TT nF) [.ref (ad 85)] u0 (fun (r : Int32) (u : ac_U) => u = u0 ∧ ((-1 : Int) ≤ r.toInt ∧ r.toInt ≤ 9)) := by
  refine ac_Mi.of (cc := cX12_leafOf) (maxL := 1) (ret := (some .int)) (by decide) rfl (Nat.le_of_ble_eq_true rfl) ?_
  intro p e s m below meth c A ls F hml hr hlocks hA hP hD hS hl
  have F : ac_X p s m [.ref (ad 85)].toArray c cX12_leafOf RX12 TB (dC, dI) vwCl (ac_ty cA) := ⟨F.1, F.2.1, fun w h => F.2.2.1 w (List.mem_cons_of_mem _ h), F.2.2.2.1, F.2.2.2.2⟩
  have hl : lv_has ls 1 [(0, .ref (ad 85))] := hl
  refine lv_aload_n F.1 F.2.1 dX12_leafOf_0 rfl (lv_at hl 0 rfl) ?_
  refine lv_ldc2 (v := (422776761956 : Int64)) F.1 F.2.1 F.2.2.2.1 (F.2.2.1 _ q1461) dX12_leafOf_1 ?_
  refine a_Vi F hml hl.1 hA hP hD hS (As := [.long (422776761956 : Int64)]) (c_X12_isWord_85 l dC dI ad cA nF _ (422776761956 : Int64) hR) (cs_RX12_206 (d := 1) F.2.2.1 (by decide)) tc_85 rfl rfl rfl rfl (Nat.le_of_ble_eq_true rfl) dX12_leafOf_4 ⟨Nat.le_refl 0, Nat.le_refl 0⟩ (fun r1 uN1 H locs hq hP hD hS => ?_)
  obtain ⟨hu1, gr1⟩ := hq
  rw [hu1] at hP hD
  refine z_eq F 14 dX12_leafOf_7 (by decide) rfl (fun c2 => ?_) (fun c2 => ?_)
  · refine lv_aload_n F.1 F.2.1 dX12_leafOf_14 rfl (lv_at hl 0 rfl) ?_
    refine lv_ldc2 (v := (1869636974 : Int64)) F.1 F.2.1 F.2.2.2.1 (F.2.2.1 _ q1462) dX12_leafOf_15 ?_
    refine a_Vi F hml hl.1 hA hP hD hS (As := [.long (1869636974 : Int64)]) (c_X12_isWord_85 l dC dI ad cA nF _ (1869636974 : Int64) hR) (cs_RX12_206 (d := 1) F.2.2.1 (by decide)) tc_85 rfl rfl rfl rfl (Nat.le_of_ble_eq_true rfl) dX12_leafOf_18 ⟨Nat.le_refl 0, Nat.le_refl 0⟩ (fun r3 uN3 H locs hq hP hD hS => ?_)
    obtain ⟨hu3, gr3⟩ := hq
    rw [hu3] at hP hD
    refine z_eq F 28 dX12_leafOf_21 (by decide) rfl (fun c4 => ?_) (fun c4 => ?_)
    · refine lv_aload_n F.1 F.2.1 dX12_leafOf_28 rfl (lv_at hl 0 rfl) ?_
      refine lv_ldc2 (v := (1801810036 : Int64)) F.1 F.2.1 F.2.2.2.1 (F.2.2.1 _ q1463) dX12_leafOf_29 ?_
      refine a_Vi F hml hl.1 hA hP hD hS (As := [.long (1801810036 : Int64)]) (c_X12_isWord_85 l dC dI ad cA nF _ (1801810036 : Int64) hR) (cs_RX12_206 (d := 1) F.2.2.1 (by decide)) tc_85 rfl rfl rfl rfl (Nat.le_of_ble_eq_true rfl) dX12_leafOf_32 ⟨Nat.le_refl 0, Nat.le_refl 0⟩ (fun r5 uN5 H locs hq hP hD hS => ?_)
      obtain ⟨hu5, gr5⟩ := hq
      rw [hu5] at hP hD
      refine z_eq F 42 dX12_leafOf_35 (by decide) rfl (fun c6 => ?_) (fun c6 => ?_)
      · refine lv_aload_n F.1 F.2.1 dX12_leafOf_42 rfl (lv_at hl 0 rfl) ?_
        refine lv_ldc2 (v := (7300710 : Int64)) F.1 F.2.1 F.2.2.2.1 (F.2.2.1 _ q1464) dX12_leafOf_43 ?_
        refine a_Vi F hml hl.1 hA hP hD hS (As := [.long (7300710 : Int64)]) (c_X12_isWord_85 l dC dI ad cA nF _ (7300710 : Int64) hR) (cs_RX12_206 (d := 1) F.2.2.1 (by decide)) tc_85 rfl rfl rfl rfl (Nat.le_of_ble_eq_true rfl) dX12_leafOf_46 ⟨Nat.le_refl 0, Nat.le_refl 0⟩ (fun r7 uN7 H locs hq hP hD hS => ?_)
        obtain ⟨hu7, gr7⟩ := hq
        rw [hu7] at hP hD
        refine z_eq F 56 dX12_leafOf_49 (by decide) rfl (fun c8 => ?_) (fun c8 => ?_)
        · refine lv_aload_n F.1 F.2.1 dX12_leafOf_56 rfl (lv_at hl 0 rfl) ?_
          refine lv_ldc2 (v := (108243635103086 : Int64)) F.1 F.2.1 F.2.2.2.1 (F.2.2.1 _ q1465) dX12_leafOf_57 ?_
          refine a_Vi F hml hl.1 hA hP hD hS (As := [.long (108243635103086 : Int64)]) (c_X12_isWord_85 l dC dI ad cA nF _ (108243635103086 : Int64) hR) (cs_RX12_206 (d := 1) F.2.2.1 (by decide)) tc_85 rfl rfl rfl rfl (Nat.le_of_ble_eq_true rfl) dX12_leafOf_60 ⟨Nat.le_refl 0, Nat.le_refl 0⟩ (fun r9 uN9 H locs hq hP hD hS => ?_)
          obtain ⟨hu9, gr9⟩ := hq
          rw [hu9] at hP hD
          refine z_eq F 70 dX12_leafOf_63 (by decide) rfl (fun c10 => ?_) (fun c10 => ?_)
          · refine lv_aload_n F.1 F.2.1 dX12_leafOf_70 rfl (lv_at hl 0 rfl) ?_
            refine lv_ldc2 (v := (28518 : Int64)) F.1 F.2.1 F.2.2.2.1 (F.2.2.1 _ q1466) dX12_leafOf_71 ?_
            refine a_Vi F hml hl.1 hA hP hD hS (As := [.long (28518 : Int64)]) (c_X12_isWord_85 l dC dI ad cA nF _ (28518 : Int64) hR) (cs_RX12_206 (d := 1) F.2.2.1 (by decide)) tc_85 rfl rfl rfl rfl (Nat.le_of_ble_eq_true rfl) dX12_leafOf_74 ⟨Nat.le_refl 0, Nat.le_refl 0⟩ (fun r11 uN11 H locs hq hP hD hS => ?_)
            obtain ⟨hu11, gr11⟩ := hq
            rw [hu11] at hP hD
            refine z_eq F 84 dX12_leafOf_77 (by decide) rfl (fun c12 => ?_) (fun c12 => ?_)
            · refine lv_aload_n F.1 F.2.1 dX12_leafOf_84 rfl (lv_at hl 0 rfl) ?_
              refine lv_ldc2 (v := (1718775661 : Int64)) F.1 F.2.1 F.2.2.2.1 (F.2.2.1 _ q1467) dX12_leafOf_85 ?_
              refine a_Vi F hml hl.1 hA hP hD hS (As := [.long (1718775661 : Int64)]) (c_X12_isWord_85 l dC dI ad cA nF _ (1718775661 : Int64) hR) (cs_RX12_206 (d := 1) F.2.2.1 (by decide)) tc_85 rfl rfl rfl rfl (Nat.le_of_ble_eq_true rfl) dX12_leafOf_88 ⟨Nat.le_refl 0, Nat.le_refl 0⟩ (fun r13 uN13 H locs hq hP hD hS => ?_)
              obtain ⟨hu13, gr13⟩ := hq
              rw [hu13] at hP hD
              refine z_eq F 99 dX12_leafOf_91 (by decide) rfl (fun c14 => ?_) (fun c14 => ?_)
              · refine lv_aload_n F.1 F.2.1 dX12_leafOf_99 rfl (lv_at hl 0 rfl) ?_
                refine lv_ldc2 (v := (1953066092 : Int64)) F.1 F.2.1 F.2.2.2.1 (F.2.2.1 _ q1468) dX12_leafOf_100 ?_
                refine a_Vi F hml hl.1 hA hP hD hS (As := [.long (1953066092 : Int64)]) (c_X12_isWord_85 l dC dI ad cA nF _ (1953066092 : Int64) hR) (cs_RX12_206 (d := 1) F.2.2.1 (by decide)) tc_85 rfl rfl rfl rfl (Nat.le_of_ble_eq_true rfl) dX12_leafOf_103 ⟨Nat.le_refl 0, Nat.le_refl 0⟩ (fun r15 uN15 H locs hq hP hD hS => ?_)
                obtain ⟨hu15, gr15⟩ := hq
                rw [hu15] at hP hD
                refine z_eq F 114 dX12_leafOf_106 (by decide) rfl (fun c16 => ?_) (fun c16 => ?_)
                · refine lv_aload_n F.1 F.2.1 dX12_leafOf_114 rfl (lv_at hl 0 rfl) ?_
                  refine lv_ldc2 (v := (499984983411 : Int64)) F.1 F.2.1 F.2.2.2.1 (F.2.2.1 _ q1469) dX12_leafOf_115 ?_
                  refine a_Vi F hml hl.1 hA hP hD hS (As := [.long (499984983411 : Int64)]) (c_X12_isWord_85 l dC dI ad cA nF _ (499984983411 : Int64) hR) (cs_RX12_206 (d := 1) F.2.2.1 (by decide)) tc_85 rfl rfl rfl rfl (Nat.le_of_ble_eq_true rfl) dX12_leafOf_118 ⟨Nat.le_refl 0, Nat.le_refl 0⟩ (fun r17 uN17 H locs hq hP hD hS => ?_)
                  obtain ⟨hu17, gr17⟩ := hq
                  rw [hu17] at hP hD
                  refine z_eq F 129 dX12_leafOf_121 (by decide) rfl (fun c18 => ?_) (fun c18 => ?_)
                  · refine lv_aload_n F.1 F.2.1 dX12_leafOf_129 rfl (lv_at hl 0 rfl) ?_
                    refine lv_ldc2 (v := (121450625394034 : Int64)) F.1 F.2.1 F.2.2.2.1 (F.2.2.1 _ q1470) dX12_leafOf_130 ?_
                    refine a_Vi F hml hl.1 hA hP hD hS (As := [.long (121450625394034 : Int64)]) (c_X12_isWord_85 l dC dI ad cA nF _ (121450625394034 : Int64) hR) (cs_RX12_206 (d := 1) F.2.2.1 (by decide)) tc_85 rfl rfl rfl rfl (Nat.le_of_ble_eq_true rfl) dX12_leafOf_133 ⟨Nat.le_refl 0, Nat.le_refl 0⟩ (fun r19 uN19 H locs hq hP hD hS => ?_)
                    obtain ⟨hu19, gr19⟩ := hq
                    rw [hu19] at hP hD
                    refine z_eq F 144 dX12_leafOf_136 (by decide) rfl (fun c20 => ?_) (fun c20 => ?_)
                    · refine a_ic F (-1 : Int32) dX12_leafOf_144 (by decide) ?_
                      exact a_reti F hr hlocks hP hD hS dX12_leafOf_145 ⟨rfl, (by decide)⟩
                    · refine a_bp F (9 : Int32) dX12_leafOf_139 (by decide) ?_
                      refine lv_goto (tgt := 145) F.1 F.2.1 dX12_leafOf_141 (by decide) ?_
                      exact a_reti F hr hlocks hP hD hS dX12_leafOf_145 ⟨rfl, (by decide)⟩
                  · refine a_bp F (8 : Int32) dX12_leafOf_124 (by decide) ?_
                    refine lv_goto (tgt := 145) F.1 F.2.1 dX12_leafOf_126 (by decide) ?_
                    exact a_reti F hr hlocks hP hD hS dX12_leafOf_145 ⟨rfl, (by decide)⟩
                · refine a_bp F (7 : Int32) dX12_leafOf_109 (by decide) ?_
                  refine lv_goto (tgt := 145) F.1 F.2.1 dX12_leafOf_111 (by decide) ?_
                  exact a_reti F hr hlocks hP hD hS dX12_leafOf_145 ⟨rfl, (by decide)⟩
              · refine a_bp F (6 : Int32) dX12_leafOf_94 (by decide) ?_
                refine lv_goto (tgt := 145) F.1 F.2.1 dX12_leafOf_96 (by decide) ?_
                exact a_reti F hr hlocks hP hD hS dX12_leafOf_145 ⟨rfl, (by decide)⟩
            · refine a_ic F (5 : Int32) dX12_leafOf_80 (by decide) ?_
              refine lv_goto (tgt := 145) F.1 F.2.1 dX12_leafOf_81 (by decide) ?_
              exact a_reti F hr hlocks hP hD hS dX12_leafOf_145 ⟨rfl, (by decide)⟩
          · refine a_ic F (4 : Int32) dX12_leafOf_66 (by decide) ?_
            refine lv_goto (tgt := 145) F.1 F.2.1 dX12_leafOf_67 (by decide) ?_
            exact a_reti F hr hlocks hP hD hS dX12_leafOf_145 ⟨rfl, (by decide)⟩
        · refine a_ic F (3 : Int32) dX12_leafOf_52 (by decide) ?_
          refine lv_goto (tgt := 145) F.1 F.2.1 dX12_leafOf_53 (by decide) ?_
          exact a_reti F hr hlocks hP hD hS dX12_leafOf_145 ⟨rfl, (by decide)⟩
      · refine a_ic F (2 : Int32) dX12_leafOf_38 (by decide) ?_
        refine lv_goto (tgt := 145) F.1 F.2.1 dX12_leafOf_39 (by decide) ?_
        exact a_reti F hr hlocks hP hD hS dX12_leafOf_145 ⟨rfl, (by decide)⟩
    · refine a_ic F (1 : Int32) dX12_leafOf_24 (by decide) ?_
      refine lv_goto (tgt := 145) F.1 F.2.1 dX12_leafOf_25 (by decide) ?_
      exact a_reti F hr hlocks hP hD hS dX12_leafOf_145 ⟨rfl, (by decide)⟩
  · refine a_ic F (0 : Int32) dX12_leafOf_10 (by decide) ?_
    refine lv_goto (tgt := 145) F.1 F.2.1 dX12_leafOf_11 (by decide) ?_
    exact a_reti F hr hlocks hP hD hS dX12_leafOf_145 ⟨rfl, (by decide)⟩
set_option maxHeartbeats 600000 in
set_option maxRecDepth 100000 in
theorem c_X12_looksForWindows_85 (l : Launch) (dC : Nat → ClassId) (dI : Nat → Nat → Nat) (ad : Nat → Nat) (cA : Nat → ClassId) (nF : Nat) (u0 : ac_U) (p0 : Int32) (p1 : Int32) (p2 : Int32) (hR : ac_R rg u0) : ac_Mi l yX12_looksForWindows (.code yX12_looksForWindows cX12_looksForWindows 6 (some .boolean) :: TB) 3 (dC, dI) vwCl (ac_ty cA) ad cA (TT nF) [.ref (ad 85), .int p0, .int p1, .int p2] u0 (fun (r : Int32) (u : ac_U) => ac_R rg u ∧ ac_Fr [(85, some 32), (85, some 33)] u0 u ∧ ((0 : Int) ≤ r.toInt ∧ r.toInt ≤ 1)) := by
  refine ac_Mi.of (cc := cX12_looksForWindows) (maxL := 6) (ret := (some .boolean)) (by decide) rfl (Nat.le_of_ble_eq_true rfl) ?_
  intro p e s m below meth c A ls F hml hr hlocks hA hP hD hS hl
  have F : ac_X p s m [.ref (ad 85), .int p0, .int p1, .int p2].toArray c cX12_looksForWindows RX12 TB (dC, dI) vwCl (ac_ty cA) := ⟨F.1, F.2.1, fun w h => F.2.2.1 w (List.mem_cons_of_mem _ h), F.2.2.2.1, F.2.2.2.2⟩
  have hl : lv_has ls 6 [(0, .ref (ad 85)), (1, .int p0), (2, .int p1), (3, .int p2)] := hl
  have hF : ac_Fr [(85, some 32), (85, some 33)] u0 u0 := ac_Fr.rf
  have L39 : ∀ (n39 : Nat) (x4 : Int32) (u : ac_U) (H : Heap) (locs : List Loc) (ls : Array Slot), ac_R rg u → ac_Fr [(85, some 32), (85, some 33)] u0 u → 24 - x4.toInt < (n39 : Int) → (0 : Int) ≤ p0.toInt ∧ p0.toInt ≤ 3 → (0 : Int) ≤ p1.toInt ∧ p1.toInt ≤ 5 → (0 : Int) ≤ p2.toInt ∧ p2.toInt ≤ 7 → (0 : Int) ≤ x4.toInt ∧ x4.toInt ≤ 24 → (-1 : Int) ≤ (u.1 85 33).toInt ∧ (u.1 85 33).toInt ≤ 2560 → va_P (dC, dI) vwCl (ac_w ad cA (TT nF) u) H → va_D A (ac_w ad cA (TT nF) u) → va_S A s.heap H locs → lv_has ls 6 [(0, .ref (ad 85)), (1, .int p0), (2, .int p1), (3, .int p2), (4, .int x4)] → W p l e (ac_rm 3) s m [.ref (ad 85), .int p0, .int p1, .int p2].toArray below meth c H locs 0 0 (MQ below (va_Qi (fun (r : Int32) (u : ac_U) => ac_R rg u ∧ ac_Fr [(85, some 32), (85, some 33)] u0 u ∧ ((0 : Int) ≤ r.toInt ∧ r.toInt ≤ 1)) (ac_B (dC, dI) vwCl (ac_ty cA) ad cA (TT nF) A) A) [.ref (ad 85), .int p0, .int p1, .int p2].toArray s 0 0 A) (F0 m 39 ls []) := by
    intro n39
    induction n39 with
    | zero => intro x4 u H locs ls hR hF hn39 f0 f1 f2 f3 f4 hP hD hS hl; exfalso; omega
    | succ n39 ih39 =>
      intro x4 u H locs ls hR hF hn39 f0 f1 f2 f3 f4 hP hD hS hl
      have L53 : ∀ (n53 : Nat) (x4 : Int32) (x5 : Int32) (u : ac_U) (H : Heap) (locs : List Loc) (ls : Array Slot), ac_R rg u → ac_Fr [(85, some 32), (85, some 33)] u0 u → 24 - x5.toInt < (n53 : Int) → (0 : Int) ≤ p0.toInt ∧ p0.toInt ≤ 3 → (0 : Int) ≤ p1.toInt ∧ p1.toInt ≤ 5 → (0 : Int) ≤ p2.toInt ∧ p2.toInt ≤ 7 → (0 : Int) ≤ x4.toInt ∧ x4.toInt ≤ 23 → (0 : Int) ≤ x5.toInt ∧ x5.toInt ≤ 24 → (-1 : Int) ≤ (u.1 85 33).toInt ∧ (u.1 85 33).toInt ≤ 2560 → 24 - x4.toInt + 0 < ((n39 : Nat) : Int) + 1 → va_P (dC, dI) vwCl (ac_w ad cA (TT nF) u) H → va_D A (ac_w ad cA (TT nF) u) → va_S A s.heap H locs → lv_has ls 6 [(0, .ref (ad 85)), (1, .int p0), (2, .int p1), (3, .int p2), (4, .int x4), (5, .int x5)] → W p l e (ac_rm 3) s m [.ref (ad 85), .int p0, .int p1, .int p2].toArray below meth c H locs 0 0 (MQ below (va_Qi (fun (r : Int32) (u : ac_U) => ac_R rg u ∧ ac_Fr [(85, some 32), (85, some 33)] u0 u ∧ ((0 : Int) ≤ r.toInt ∧ r.toInt ≤ 1)) (ac_B (dC, dI) vwCl (ac_ty cA) ad cA (TT nF) A) A) [.ref (ad 85), .int p0, .int p1, .int p2].toArray s 0 0 A) (F0 m 53 ls []) := by
        intro n53
        induction n53 with
        | zero => intro x4 x5 u H locs ls hR hF hn53 f0 f1 f2 f3 f4 f5 f6 hP hD hS hl; exfalso; omega
        | succ n53 ih53 =>
          intro x4 x5 u H locs ls hR hF hn53 f0 f1 f2 f3 f4 f5 f6 hP hD hS hl
          have L119 : ∀ (x4 : Int32) (x5 : Int32) (u : ac_U) (H : Heap) (locs : List Loc) (ls : Array Slot), ac_R rg u → ac_Fr [(85, some 32), (85, some 33)] u0 u → (0 : Int) ≤ p0.toInt ∧ p0.toInt ≤ 3 → (0 : Int) ≤ p1.toInt ∧ p1.toInt ≤ 5 → (0 : Int) ≤ p2.toInt ∧ p2.toInt ≤ 7 → (0 : Int) ≤ x4.toInt ∧ x4.toInt ≤ 23 → (0 : Int) ≤ x5.toInt ∧ x5.toInt ≤ 23 → (-1 : Int) ≤ (u.1 85 33).toInt ∧ (u.1 85 33).toInt ≤ 2560 → 24 - x4.toInt + 0 < ((n39 : Nat) : Int) + 1 → 24 - x5.toInt + 0 < ((n53 : Nat) : Int) + 1 → va_P (dC, dI) vwCl (ac_w ad cA (TT nF) u) H → va_D A (ac_w ad cA (TT nF) u) → va_S A s.heap H locs → lv_has ls 6 [(0, .ref (ad 85)), (1, .int p0), (2, .int p1), (3, .int p2), (4, .int x4), (5, .int x5)] → W p l e (ac_rm 3) s m [.ref (ad 85), .int p0, .int p1, .int p2].toArray below meth c H locs 0 0 (MQ below (va_Qi (fun (r : Int32) (u : ac_U) => ac_R rg u ∧ ac_Fr [(85, some 32), (85, some 33)] u0 u ∧ ((0 : Int) ≤ r.toInt ∧ r.toInt ≤ 1)) (ac_B (dC, dI) vwCl (ac_ty cA) ad cA (TT nF) A) A) [.ref (ad 85), .int p0, .int p1, .int p2].toArray s 0 0 A) (F0 m 119 ls []) := by
            intro x4 x5 u H locs ls hR hF f0 f1 f2 f3 f4 f5 f6 f7 hP hD hS hl
            refine a_iinc F (k := 5) (fun v1 => [(5, .int v1), (0, .ref (ad 85)), (1, .int p0), (2, .int p1), (3, .int p2), (4, .int x4)]) dX12_looksForWindows_119 hl rfl rfl (by decide) (by omega) (by decide) (fun _ => rfl) (fun v1 ls hv1 hl => ?_)
            refine lv_goto (tgt := 53) F.1 F.2.1 dX12_looksForWindows_122 (by decide) ?_
            exact ih53 x4 v1 _ _ _ _ hR hF (by omega) (by omega) (by omega) (by omega) (by omega) (by omega) (by omega : (-1 : Int) ≤ (u.1 85 33).toInt ∧ (u.1 85 33).toInt ≤ 2560) (by omega) hP hD hS (lv_sub hl [1, 2, 3, 4, 5, 0] rfl)
          refine lv_iload F.1 F.2.1 dX12_looksForWindows_53 (lv_at hl 5 rfl) ?_
          refine lv_iload F.1 F.2.1 dX12_looksForWindows_55 (lv_at hl 4 rfl) ?_
          refine a_iadd F dX12_looksForWindows_57 rfl rfl (by omega) (fun v2 hv2 => ?_)
          refine lv_aload_n F.1 F.2.1 dX12_looksForWindows_58 rfl (lv_at hl 0 rfl) ?_
          refine a_getr F inX12 hP 85 6 tc_85 rfl rfl (by decide) q1477 (fun _ h9 => h9) dX12_looksForWindows_59 ?_
          refine a_ic F (0 : Int32) dX12_looksForWindows_62 (by decide) ?_
          have g3 : (4 : Int) ≤ (u.1 87 0).toInt ∧ (u.1 87 0).toInt ≤ 24 := hR 87 0
          refine a_ialdK F hP 87 0 tc_87 rfl rfl (i_in ic_0 (by omega)) (v := (u.1 87 0)) rfl dX12_looksForWindows_63 ?_
          refine b_ge F 125 dX12_looksForWindows_64 (by decide) rfl rfl (fun c4 => ?_) (fun c4 => ?_)
          · refine a_iinc F (k := 4) (fun v5 => [(4, .int v5), (0, .ref (ad 85)), (1, .int p0), (2, .int p1), (3, .int p2), (5, .int x5)]) dX12_looksForWindows_125 hl rfl rfl (by decide) (by omega) (by decide) (fun _ => rfl) (fun v5 ls hv5 hl => ?_)
            refine lv_goto (tgt := 39) F.1 F.2.1 dX12_looksForWindows_128 (by decide) ?_
            exact ih39 v5 _ _ _ _ hR hF (by omega) (by omega) (by omega) (by omega) (by omega) (by omega : (-1 : Int) ≤ (u.1 85 33).toInt ∧ (u.1 85 33).toInt ≤ 2560) hP hD hS (lv_sub hl [1, 2, 3, 4, 0] rfl)
          · refine lv_aload_n F.1 F.2.1 dX12_looksForWindows_67 rfl (lv_at hl 0 rfl) ?_
            refine lv_iload_n F.1 F.2.1 dX12_looksForWindows_68 rfl (lv_at hl 1 rfl) ?_
            refine lv_iload_n F.1 F.2.1 dX12_looksForWindows_69 rfl (lv_at hl 2 rfl) ?_
            refine lv_iload_n F.1 F.2.1 dX12_looksForWindows_70 rfl (lv_at hl 3 rfl) ?_
            refine lv_iload F.1 F.2.1 dX12_looksForWindows_71 (lv_at hl 5 rfl) ?_
            refine lv_iload F.1 F.2.1 dX12_looksForWindows_73 (lv_at hl 5 rfl) ?_
            refine lv_iload F.1 F.2.1 dX12_looksForWindows_75 (lv_at hl 4 rfl) ?_
            refine a_iadd F dX12_looksForWindows_77 rfl rfl (by omega) (fun v6 hv6 => ?_)
            refine a_Vi F hml hl.1 hA hP hD hS (As := [.int p0, .int p1, .int p2, .int x5, .int v6]) (c_X12_fits_85 l dC dI ad cA nF _ p0 p1 p2 x5 v6 hR (by omega) (by omega) (by omega) (by omega) (by omega)) (cs_RX12_375 (d := 2) F.2.2.1 (by decide)) tc_85 rfl rfl rfl rfl (Nat.le_of_ble_eq_true rfl) dX12_looksForWindows_78 ⟨Nat.le_refl 0, Nat.le_refl 0⟩ (fun r7 uN7 H locs hq hP hD hS => ?_)
            obtain ⟨hu7, gr7⟩ := hq
            rw [hu7] at hP hD
            refine z_ne F 87 dX12_looksForWindows_81 (by decide) rfl (fun c8 => ?_) (fun c8 => ?_)
            · refine lv_aload_n F.1 F.2.1 dX12_looksForWindows_87 rfl (lv_at hl 0 rfl) ?_
              refine lv_dup F.1 F.2.1 dX12_looksForWindows_88 rfl ?_
              refine a_geti F inX12 hP 85 32 tc_85 rfl rfl (by decide) q1503 (fun _ h9 => h9) (v := (u.1 85 32)) rfl dX12_looksForWindows_89 ?_
              refine a_ic F (1 : Int32) dX12_looksForWindows_92 (by decide) ?_
              refine a_iaddU F dX12_looksForWindows_93 (fun v9 => ?_)
              refine a_puti F inX12 tyX12 tyX12_ok nmX12 hP hD hS 85 32 tc_85 rfl rfl (by decide) q1503 (fun _ h9 => h9) rfl (ty := .int) (tyX12_ok 32 (by decide)) rfl rfl dX12_looksForWindows_94 (fun H locs hP hD hS => ?_)
              have hR := hR.si (c := 85) (k := 32) (v := v9) ⟨i_lo _, i_hi _⟩
              have hF := hF.si (c := 85) (k := 32) (v := v9) rfl
              refine lv_aload_n F.1 F.2.1 dX12_looksForWindows_97 rfl (lv_at hl 0 rfl) ?_
              refine a_geti F inX12 hP 85 33 tc_85 rfl rfl (by decide) q1504 (fun _ h9 => h9) (v := (u.1 85 33)) rfl dX12_looksForWindows_98 ?_
              refine z_ge F 119 dX12_looksForWindows_101 (by decide) rfl (fun c10 => ?_) (fun c10 => ?_)
              · exact L119 x4 x5 _ _ _ _ hR hF (by omega) (by omega) (by omega) (by omega) (by omega) (by omega : (-1 : Int) ≤ (u.1 85 33).toInt ∧ (u.1 85 33).toInt ≤ 2560) (by omega) (by omega) hP hD hS (lv_sub hl [0, 1, 2, 3, 4, 5] rfl)
              · refine lv_aload_n F.1 F.2.1 dX12_looksForWindows_104 rfl (lv_at hl 0 rfl) ?_
                refine a_bp F (100 : Int32) dX12_looksForWindows_105 (by decide) ?_
                refine lv_iload F.1 F.2.1 dX12_looksForWindows_107 (lv_at hl 5 rfl) ?_
                refine a_imul F dX12_looksForWindows_109 ic_100 rfl (by omega) (fun v11 hv11 => ?_)
                refine lv_iload F.1 F.2.1 dX12_looksForWindows_110 (lv_at hl 5 rfl) ?_
                refine a_iadd F dX12_looksForWindows_112 rfl rfl (by omega) (fun v12 hv12 => ?_)
                refine lv_iload F.1 F.2.1 dX12_looksForWindows_113 (lv_at hl 4 rfl) ?_
                refine a_iadd F dX12_looksForWindows_115 rfl rfl (by omega) (fun v13 hv13 => ?_)
                refine a_puti F inX12 tyX12 tyX12_ok nmX12 hP hD hS 85 33 tc_85 rfl rfl (by decide) q1504 (fun _ h9 => h9) rfl (ty := .int) (tyX12_ok 33 (by decide)) rfl rfl dX12_looksForWindows_116 (fun H locs hP hD hS => ?_)
                have hR := hR.si (c := 85) (k := 33) (v := v13) ⟨i_lo _, i_hi _⟩
                have hF := hF.si (c := 85) (k := 33) (v := v13) rfl
                exact L119 x4 x5 _ _ _ _ hR hF (by omega) (by omega) (by omega) (by omega) (by omega) (by omega : (-1 : Int) ≤ v13.toInt ∧ v13.toInt ≤ 2560) (by omega) (by omega) hP hD hS (lv_sub hl [0, 1, 2, 3, 4, 5] rfl)
            · refine lv_goto (tgt := 119) F.1 F.2.1 dX12_looksForWindows_84 (by decide) ?_
              exact L119 x4 x5 _ _ _ _ hR hF (by omega) (by omega) (by omega) (by omega) (by omega) (by omega : (-1 : Int) ≤ (u.1 85 33).toInt ∧ (u.1 85 33).toInt ≤ 2560) (by omega) (by omega) hP hD hS (lv_sub hl [0, 1, 2, 3, 4, 5] rfl)
      refine lv_iload F.1 F.2.1 dX12_looksForWindows_39 (lv_at hl 4 rfl) ?_
      refine lv_aload_n F.1 F.2.1 dX12_looksForWindows_41 rfl (lv_at hl 0 rfl) ?_
      refine a_getr F inX12 hP 85 6 tc_85 rfl rfl (by decide) q1477 (fun _ h9 => h9) dX12_looksForWindows_42 ?_
      refine a_ic F (0 : Int32) dX12_looksForWindows_45 (by decide) ?_
      have g14 : (4 : Int) ≤ (u.1 87 0).toInt ∧ (u.1 87 0).toInt ≤ 24 := hR 87 0
      refine a_ialdK F hP 87 0 tc_87 rfl rfl (i_in ic_0 (by omega)) (v := (u.1 87 0)) rfl dX12_looksForWindows_46 ?_
      refine b_ge F 131 dX12_looksForWindows_47 (by decide) rfl rfl (fun c15 => ?_) (fun c15 => ?_)
      · refine a_ic F (1 : Int32) dX12_looksForWindows_131 (by decide) ?_
        exact a_retz F hr hlocks hP hD hS dX12_looksForWindows_132 (Or.inr rfl) ⟨hR, hF, (by decide)⟩
      · refine a_ic F (0 : Int32) dX12_looksForWindows_50 (by decide) ?_
        refine lv_istore (lv' := [(5, .int (0 : Int32)), (0, .ref (ad 85)), (1, .int p0), (2, .int p1), (3, .int p2), (4, .int x4)]) F.1 F.2.1 dX12_looksForWindows_51 hl (by decide) rfl (fun ls hl => ?_)
        exact L53 26 x4 (0 : Int32) _ _ _ _ hR hF (by decide) (by omega) (by omega) (by omega) (by omega) (by decide) (by omega : (-1 : Int) ≤ (u.1 85 33).toInt ∧ (u.1 85 33).toInt ≤ 2560) (by omega) hP hD hS (lv_sub hl [1, 2, 3, 4, 5, 0] rfl)
  have L24 : ∀ (u : ac_U) (H : Heap) (locs : List Loc) (ls : Array Slot), ac_R rg u → ac_Fr [(85, some 32), (85, some 33)] u0 u → va_P (dC, dI) vwCl (ac_w ad cA (TT nF) u) H → va_D A (ac_w ad cA (TT nF) u) → va_S A s.heap H locs → lv_has ls 6 [] → W p l e (ac_rm 3) s m [.ref (ad 85), .int p0, .int p1, .int p2].toArray below meth c H locs 0 0 (MQ below (va_Qi (fun (r : Int32) (u : ac_U) => ac_R rg u ∧ ac_Fr [(85, some 32), (85, some 33)] u0 u ∧ ((0 : Int) ≤ r.toInt ∧ r.toInt ≤ 1)) (ac_B (dC, dI) vwCl (ac_ty cA) ad cA (TT nF) A) A) [.ref (ad 85), .int p0, .int p1, .int p2].toArray s 0 0 A) (F0 m 24 ls []) := by
    intro u H locs ls hR hF hP hD hS hl
    refine a_ic F (0 : Int32) dX12_looksForWindows_24 (by decide) ?_
    exact a_retz F hr hlocks hP hD hS dX12_looksForWindows_25 (Or.inl rfl) ⟨hR, hF, (by decide)⟩
  refine lv_aload_n F.1 F.2.1 dX12_looksForWindows_0 rfl (lv_at hl 0 rfl) ?_
  refine lv_iload_n F.1 F.2.1 dX12_looksForWindows_1 rfl (lv_at hl 1 rfl) ?_
  refine a_Vi F hml hl.1 hA hP hD hS (As := [.int p0]) (c_X12_isPerson_85 l dC dI ad cA nF _ p0 hR) (cs_RX12_251 (d := 2) F.2.2.1 (by decide)) tc_85 rfl rfl rfl rfl (Nat.le_of_ble_eq_true rfl) dX12_looksForWindows_2 ⟨Nat.le_refl 0, Nat.le_refl 0⟩ (fun r16 uN16 H locs hq hP hD hS => ?_)
  obtain ⟨hu16, gr16, xr16⟩ := hq
  rw [hu16] at hP hD
  have xr16 : r16.toInt ≠ 0 → 0 ≤ p0.toInt ∧ p0.toInt ≤ 3 := xr16
  refine z_eq F 24 dX12_looksForWindows_5 (by decide) rfl (fun c17 => ?_) (fun c17 => ?_)
  · exact L24 _ _ _ _ hR hF hP hD hS (lv_sub hl [] rfl)
  · refine lv_aload_n F.1 F.2.1 dX12_looksForWindows_8 rfl (lv_at hl 0 rfl) ?_
    refine lv_iload_n F.1 F.2.1 dX12_looksForWindows_9 rfl (lv_at hl 2 rfl) ?_
    refine a_Vi F hml hl.1 hA hP hD hS (As := [.int p1]) (c_X12_isDeed_85 l dC dI ad cA nF _ p1 hR) (cs_RX12_276 (d := 2) F.2.2.1 (by decide)) tc_85 rfl rfl rfl rfl (Nat.le_of_ble_eq_true rfl) dX12_looksForWindows_10 ⟨Nat.le_refl 0, Nat.le_refl 0⟩ (fun r18 uN18 H locs hq hP hD hS => ?_)
    obtain ⟨hu18, gr18, xr18⟩ := hq
    rw [hu18] at hP hD
    have xr18 : r18.toInt ≠ 0 → 0 ≤ p1.toInt ∧ p1.toInt ≤ 5 := xr18
    refine z_eq F 24 dX12_looksForWindows_13 (by decide) rfl (fun c19 => ?_) (fun c19 => ?_)
    · exact L24 _ _ _ _ hR hF hP hD hS (lv_sub hl [] rfl)
    · refine lv_aload_n F.1 F.2.1 dX12_looksForWindows_16 rfl (lv_at hl 0 rfl) ?_
      refine lv_iload_n F.1 F.2.1 dX12_looksForWindows_17 rfl (lv_at hl 3 rfl) ?_
      refine a_Vi F hml hl.1 hA hP hD hS (As := [.int p2]) (c_X12_isPlace_85 l dC dI ad cA nF _ p2 hR) (cs_RX12_254 (d := 2) F.2.2.1 (by decide)) tc_85 rfl rfl rfl rfl (Nat.le_of_ble_eq_true rfl) dX12_looksForWindows_18 ⟨Nat.le_refl 0, Nat.le_refl 0⟩ (fun r20 uN20 H locs hq hP hD hS => ?_)
      obtain ⟨hu20, gr20, xr20⟩ := hq
      rw [hu20] at hP hD
      have xr20 : r20.toInt ≠ 0 → 0 ≤ p2.toInt ∧ p2.toInt ≤ 7 := xr20
      refine z_ne F 26 dX12_looksForWindows_21 (by decide) rfl (fun c21 => ?_) (fun c21 => ?_)
      · refine lv_aload_n F.1 F.2.1 dX12_looksForWindows_26 rfl (lv_at hl 0 rfl) ?_
        refine a_ic F (0 : Int32) dX12_looksForWindows_27 (by decide) ?_
        refine a_puti F inX12 tyX12 tyX12_ok nmX12 hP hD hS 85 32 tc_85 rfl rfl (by decide) q1503 (fun _ h9 => h9) rfl (ty := .int) (tyX12_ok 32 (by decide)) rfl rfl dX12_looksForWindows_28 (fun H locs hP hD hS => ?_)
        have hR := hR.si (c := 85) (k := 32) (v := (0 : Int32)) ⟨i_lo _, i_hi _⟩
        have hF := hF.si (c := 85) (k := 32) (v := (0 : Int32)) rfl
        refine lv_aload_n F.1 F.2.1 dX12_looksForWindows_31 rfl (lv_at hl 0 rfl) ?_
        refine a_ic F (-1 : Int32) dX12_looksForWindows_32 (by decide) ?_
        refine a_puti F inX12 tyX12 tyX12_ok nmX12 hP hD hS 85 33 tc_85 rfl rfl (by decide) q1504 (fun _ h9 => h9) rfl (ty := .int) (tyX12_ok 33 (by decide)) rfl rfl dX12_looksForWindows_33 (fun H locs hP hD hS => ?_)
        have hR := hR.si (c := 85) (k := 33) (v := (-1 : Int32)) ⟨i_lo _, i_hi _⟩
        have hF := hF.si (c := 85) (k := 33) (v := (-1 : Int32)) rfl
        refine a_ic F (0 : Int32) dX12_looksForWindows_36 (by decide) ?_
        refine lv_istore (lv' := [(4, .int (0 : Int32)), (0, .ref (ad 85)), (1, .int p0), (2, .int p1), (3, .int p2)]) F.1 F.2.1 dX12_looksForWindows_37 hl (by decide) rfl (fun ls hl => ?_)
        exact L39 26 (0 : Int32) _ _ _ _ hR hF (by decide) (by omega) (by omega) (by omega) (by decide) (by omega : (-1 : Int) ≤ (-1 : Int) ∧ (-1 : Int) ≤ 2560) hP hD hS (lv_sub hl [1, 2, 3, 4, 0] rfl)
      · exact L24 _ _ _ _ hR hF hP hD hS (lv_sub hl [] rfl)
set_option maxHeartbeats 600000 in
set_option maxRecDepth 100000 in
theorem c_X12_person_85 (l : Launch) (dC : Nat → ClassId) (dI : Nat → Nat → Nat) (ad : Nat → Nat) (cA : Nat → ClassId) (nF : Nat) (u0 : ac_U) (p0 : Int32) (p1 : Int32) (hR : ac_R rg u0) : ac_Mi l yX12_person (.code yX12_person cX12_person 3 (some .int) :: TB) 3 (dC, dI) vwCl (ac_ty cA) ad cA (TT nF) [.ref (ad 85), .int p0, .int p1] u0 (fun (r : Int32) (u : ac_U) => ac_R rg u ∧ ac_Fr [(85, some 0)] u0 u) := by
  refine ac_Mi.of (cc := cX12_person) (maxL := 3) (ret := (some .int)) (by decide) rfl (Nat.le_of_ble_eq_true rfl) ?_
  intro p e s m below meth c A ls F hml hr hlocks hA hP hD hS hl
  have F : ac_X p s m [.ref (ad 85), .int p0, .int p1].toArray c cX12_person RX12 TB (dC, dI) vwCl (ac_ty cA) := ⟨F.1, F.2.1, fun w h => F.2.2.1 w (List.mem_cons_of_mem _ h), F.2.2.2.1, F.2.2.2.2⟩
  have hl : lv_has ls 3 [(0, .ref (ad 85)), (1, .int p0), (2, .int p1)] := hl
  have hF : ac_Fr [(85, some 0)] u0 u0 := ac_Fr.rf
  refine lv_aload_n F.1 F.2.1 dX12_person_0 rfl (lv_at hl 0 rfl) ?_
  refine a_ic F (0 : Int32) dX12_person_1 (by decide) ?_
  refine a_puti F inX12 tyX12 tyX12_ok nmX12 hP hD hS 85 0 tc_85 rfl rfl (by decide) q1471 (fun _ h9 => h9) rfl (ty := .int) (tyX12_ok 0 (by decide)) rfl rfl dX12_person_2 (fun H locs hP hD hS => ?_)
  have hR := hR.si (c := 85) (k := 0) (v := (0 : Int32)) (by rw [ic_0]; exact (by omega : (0 : Int) ≤ (0 : Int) ∧ (0 : Int) ≤ 1))
  have hF := hF.si (c := 85) (k := 0) (v := (0 : Int32)) rfl
  refine lv_aload_n F.1 F.2.1 dX12_person_5 rfl (lv_at hl 0 rfl) ?_
  refine lv_iload_n F.1 F.2.1 dX12_person_6 rfl (lv_at hl 1 rfl) ?_
  refine a_Vi F hml hl.1 hA hP hD hS (As := [.int p0]) (c_X12_isPerson_85 l dC dI ad cA nF _ p0 hR) (cs_RX12_251 (d := 2) F.2.2.1 (by decide)) tc_85 rfl rfl rfl rfl (Nat.le_of_ble_eq_true rfl) dX12_person_7 ⟨Nat.le_refl 0, Nat.le_refl 0⟩ (fun r1 uN1 H locs hq hP hD hS => ?_)
  obtain ⟨hu1, gr1, xr1⟩ := hq
  rw [hu1] at hP hD
  have xr1 : r1.toInt ≠ 0 → 0 ≤ p0.toInt ∧ p0.toInt ≤ 3 := xr1
  refine z_ne F 15 dX12_person_10 (by decide) rfl (fun c2 => ?_) (fun c2 => ?_)
  · refine lv_iload_n F.1 F.2.1 dX12_person_15 rfl (lv_at hl 2 rfl) ?_
    rcases (show (p1.toInt < 0 ∨ 3 < p1.toInt) ∨ p1.toInt = 0 ∨ p1.toInt = 1 ∨ p1.toInt = 2 ∨ p1.toInt = 3 by omega) with c3 | c3 | c3 | c3 | c3
    · refine lv_tableOut (tgt := 88) F.1 F.2.1 dX12_person_16 c3 (by decide) ?_
      refine a_ic F (-1 : Int32) dX12_person_88 (by decide) ?_
      exact a_reti F hr hlocks hP hD hS dX12_person_89 ⟨hR, hF⟩
    · refine lv_tableIn (tgt := 48) F.1 F.2.1 dX12_person_16 (by omega) (by omega) (by rw [c3]; rfl) (by decide) ?_
      refine lv_aload_n F.1 F.2.1 dX12_person_48 rfl (lv_at hl 0 rfl) ?_
      refine a_getr F inX12 hP 85 6 tc_85 rfl rfl (by decide) q1477 (fun _ h9 => h9) dX12_person_49 ?_
      refine a_bp F (107 : Int32) dX12_person_52 (by decide) ?_
      refine lv_iload_n F.1 F.2.1 dX12_person_54 rfl (lv_at hl 1 rfl) ?_
      refine a_iadd F dX12_person_55 ic_107 rfl (by omega) (fun v4 hv4 => ?_)
      refine a_iald F hP 87 tc_87 rfl (i_in rfl (by omega)) dX12_person_56 (fun v5 ev5 => ?_)
      have hv5 : (0 : Int) ≤ v5.toInt ∧ v5.toInt ≤ 7 := rg_seg_87_107_110 hR ev5 (by omega)
      exact a_reti F hr hlocks hP hD hS dX12_person_57 ⟨hR, hF⟩
    · refine lv_tableIn (tgt := 58) F.1 F.2.1 dX12_person_16 (by omega) (by omega) (by rw [c3]; rfl) (by decide) ?_
      refine lv_aload_n F.1 F.2.1 dX12_person_58 rfl (lv_at hl 0 rfl) ?_
      refine a_getr F inX12 hP 85 6 tc_85 rfl rfl (by decide) q1477 (fun _ h9 => h9) dX12_person_59 ?_
      refine a_bp F (111 : Int32) dX12_person_62 (by decide) ?_
      refine lv_iload_n F.1 F.2.1 dX12_person_64 rfl (lv_at hl 1 rfl) ?_
      refine a_iadd F dX12_person_65 ic_111 rfl (by omega) (fun v6 hv6 => ?_)
      refine a_iald F hP 87 tc_87 rfl (i_in rfl (by omega)) dX12_person_66 (fun v7 ev7 => ?_)
      exact a_reti F hr hlocks hP hD hS dX12_person_67 ⟨hR, hF⟩
    · refine lv_tableIn (tgt := 68) F.1 F.2.1 dX12_person_16 (by omega) (by omega) (by rw [c3]; rfl) (by decide) ?_
      refine lv_aload_n F.1 F.2.1 dX12_person_68 rfl (lv_at hl 0 rfl) ?_
      refine a_getr F inX12 hP 85 6 tc_85 rfl rfl (by decide) q1477 (fun _ h9 => h9) dX12_person_69 ?_
      refine a_bp F (115 : Int32) dX12_person_72 (by decide) ?_
      refine lv_iload_n F.1 F.2.1 dX12_person_74 rfl (lv_at hl 1 rfl) ?_
      refine a_iadd F dX12_person_75 ic_115 rfl (by omega) (fun v8 hv8 => ?_)
      refine a_iald F hP 87 tc_87 rfl (i_in rfl (by omega)) dX12_person_76 (fun v9 ev9 => ?_)
      exact a_reti F hr hlocks hP hD hS dX12_person_77 ⟨hR, hF⟩
    · refine lv_tableIn (tgt := 78) F.1 F.2.1 dX12_person_16 (by omega) (by omega) (by rw [c3]; rfl) (by decide) ?_
      refine lv_aload_n F.1 F.2.1 dX12_person_78 rfl (lv_at hl 0 rfl) ?_
      refine a_getr F inX12 hP 85 6 tc_85 rfl rfl (by decide) q1477 (fun _ h9 => h9) dX12_person_79 ?_
      refine a_bp F (119 : Int32) dX12_person_82 (by decide) ?_
      refine lv_iload_n F.1 F.2.1 dX12_person_84 rfl (lv_at hl 1 rfl) ?_
      refine a_iadd F dX12_person_85 ic_119 rfl (by omega) (fun v10 hv10 => ?_)
      refine a_iald F hP 87 tc_87 rfl (i_in rfl (by omega)) dX12_person_86 (fun v11 ev11 => ?_)
      exact a_reti F hr hlocks hP hD hS dX12_person_87 ⟨hR, hF⟩
  · refine a_ic F (-1 : Int32) dX12_person_13 (by decide) ?_
    exact a_reti F hr hlocks hP hD hS dX12_person_14 ⟨hR, hF⟩
set_option maxHeartbeats 600000 in
set_option maxRecDepth 100000 in
theorem c_X12_throwsIf_85 (l : Launch) (dC : Nat → ClassId) (dI : Nat → Nat → Nat) (ad : Nat → Nat) (cA : Nat → ClassId) (nF : Nat) (u0 : ac_U) (p0 : Int32) (hR : ac_R rg u0) (hp0 : (0 : Int) ≤ p0.toInt ∧ p0.toInt ≤ 1) : ac_Mi l yX12_throwsIf (.code yX12_throwsIf cX12_throwsIf 2 (some .boolean) :: TB) 1 (dC, dI) vwCl (ac_ty cA) ad cA (TT nF) [.ref (ad 85), .int p0] u0 (fun (r : Int32) (u : ac_U) => ac_R rg u ∧ ac_Fr [(85, some 0)] u0 u ∧ ((0 : Int) ≤ r.toInt ∧ r.toInt ≤ 1) ∧ (r.toInt = p0.toInt)) := by
  refine ac_Mi.of (cc := cX12_throwsIf) (maxL := 2) (ret := (some .boolean)) (by decide) rfl (Nat.le_of_ble_eq_true rfl) ?_
  intro p e s m below meth c A ls F hml hr hlocks hA hP hD hS hl
  have F : ac_X p s m [.ref (ad 85), .int p0].toArray c cX12_throwsIf RX12 TB (dC, dI) vwCl (ac_ty cA) := ⟨F.1, F.2.1, fun w h => F.2.2.1 w (List.mem_cons_of_mem _ h), F.2.2.2.1, F.2.2.2.2⟩
  have hl : lv_has ls 2 [(0, .ref (ad 85)), (1, .int p0)] := hl
  have hF : ac_Fr [(85, some 0)] u0 u0 := ac_Fr.rf
  have L10 : ∀ (z1 : Int32) (u : ac_U) (H : Heap) (locs : List Loc) (ls : Array Slot), ac_R rg u → ac_Fr [(85, some 0)] u0 u → (0 : Int) ≤ z1.toInt ∧ z1.toInt ≤ 1 → va_P (dC, dI) vwCl (ac_w ad cA (TT nF) u) H → va_D A (ac_w ad cA (TT nF) u) → va_S A s.heap H locs → lv_has ls 2 [(1, .int p0)] → W p l e (ac_rm 1) s m [.ref (ad 85), .int p0].toArray below meth c H locs 0 0 (MQ below (va_Qi (fun (r : Int32) (u : ac_U) => ac_R rg u ∧ ac_Fr [(85, some 0)] u0 u ∧ ((0 : Int) ≤ r.toInt ∧ r.toInt ≤ 1) ∧ (r.toInt = p0.toInt)) (ac_B (dC, dI) vwCl (ac_ty cA) ad cA (TT nF) A) A) [.ref (ad 85), .int p0].toArray s 0 0 A) (F0 m 10 ls [.int z1, .ref (ad 85)]) := by
    intro z1 u H locs ls hR hF f0 hP hD hS hl
    refine a_puti F inX12 tyX12 tyX12_ok nmX12 hP hD hS 85 0 tc_85 rfl rfl (by decide) q1471 (fun _ h9 => h9) rfl (ty := .int) (tyX12_ok 0 (by decide)) rfl rfl dX12_throwsIf_10 (fun H locs hP hD hS => ?_)
    have hR := hR.si (c := 85) (k := 0) (v := z1) (by omega : (0 : Int) ≤ z1.toInt ∧ z1.toInt ≤ 1)
    have hF := hF.si (c := 85) (k := 0) (v := z1) rfl
    refine lv_iload_n F.1 F.2.1 dX12_throwsIf_13 rfl (lv_at hl 0 rfl) ?_
    exact a_retz F hr hlocks hP hD hS dX12_throwsIf_14 (i_01 (by omega)) ⟨hR, hF, (by omega : (0 : Int) ≤ p0.toInt ∧ p0.toInt ≤ 1), (by omega : p0.toInt = p0.toInt)⟩
  refine lv_aload_n F.1 F.2.1 dX12_throwsIf_0 rfl (lv_at hl 0 rfl) ?_
  refine lv_iload_n F.1 F.2.1 dX12_throwsIf_1 rfl (lv_at hl 1 rfl) ?_
  refine z_eq F 9 dX12_throwsIf_2 (by decide) rfl (fun c1 => ?_) (fun c1 => ?_)
  · refine a_ic F (0 : Int32) dX12_throwsIf_9 (by decide) ?_
    exact L10 (0 : Int32) _ _ _ _ hR hF (by decide) hP hD hS (lv_sub hl [1] rfl)
  · refine a_ic F (1 : Int32) dX12_throwsIf_5 (by decide) ?_
    refine lv_goto (tgt := 10) F.1 F.2.1 dX12_throwsIf_6 (by decide) ?_
    exact L10 (1 : Int32) _ _ _ _ hR hF (by decide) hP hD hS (lv_sub hl [1] rfl)
set_option maxHeartbeats 600000 in
set_option maxRecDepth 100000 in
theorem c_X12_promise_85 (l : Launch) (dC : Nat → ClassId) (dI : Nat → Nat → Nat) (ad : Nat → Nat) (cA : Nat → ClassId) (nF : Nat) (u0 : ac_U) (p0 : Int32) (p1 : Int32) (hR : ac_R rg u0) : ac_Mi l yX12_promise (.code yX12_promise cX12_promise 3 (some .int) :: TB) 3 (dC, dI) vwCl (ac_ty cA) ad cA (TT nF) [.ref (ad 85), .int p0, .int p1] u0 (fun (r : Int32) (u : ac_U) => ac_R rg u ∧ ac_Fr [(85, some 0)] u0 u) := by
  refine ac_Mi.of (cc := cX12_promise) (maxL := 3) (ret := (some .int)) (by decide) rfl (Nat.le_of_ble_eq_true rfl) ?_
  intro p e s m below meth c A ls F hml hr hlocks hA hP hD hS hl
  have F : ac_X p s m [.ref (ad 85), .int p0, .int p1].toArray c cX12_promise RX12 TB (dC, dI) vwCl (ac_ty cA) := ⟨F.1, F.2.1, fun w h => F.2.2.1 w (List.mem_cons_of_mem _ h), F.2.2.2.1, F.2.2.2.2⟩
  have hl : lv_has ls 3 [(0, .ref (ad 85)), (1, .int p0), (2, .int p1)] := hl
  have hF : ac_Fr [(85, some 0)] u0 u0 := ac_Fr.rf
  have L19 : ∀ (u : ac_U) (H : Heap) (locs : List Loc) (ls : Array Slot), ac_R rg u → ac_Fr [(85, some 0)] u0 u → va_P (dC, dI) vwCl (ac_w ad cA (TT nF) u) H → va_D A (ac_w ad cA (TT nF) u) → va_S A s.heap H locs → lv_has ls 3 [(0, .ref (ad 85)), (1, .int p0), (2, .int p1)] → W p l e (ac_rm 3) s m [.ref (ad 85), .int p0, .int p1].toArray below meth c H locs 0 0 (MQ below (va_Qi (fun (r : Int32) (u : ac_U) => ac_R rg u ∧ ac_Fr [(85, some 0)] u0 u) (ac_B (dC, dI) vwCl (ac_ty cA) ad cA (TT nF) A) A) [.ref (ad 85), .int p0, .int p1].toArray s 0 0 A) (F0 m 19 ls [.ref (ad 85)]) := by
    intro u H locs ls hR hF hP hD hS hl
    refine a_ic F (1 : Int32) dX12_promise_19 (by decide) ?_
    refine lv_goto (tgt := 24) F.1 F.2.1 dX12_promise_20 (by decide) ?_
    refine a_Vi F hml hl.1 hA hP hD hS (As := [.int (1 : Int32)]) (c_X12_throwsIf_85 l dC dI ad cA nF _ (1 : Int32) hR (by decide)) (cs_RX12_247 (d := 1) F.2.2.1 (by decide)) tc_85 rfl rfl rfl rfl (Nat.le_of_ble_eq_true rfl) dX12_promise_24 ⟨Nat.le_refl 0, Nat.le_refl 0⟩ (fun r1 u1 H locs hq hP hD hS => ?_)
    obtain ⟨hR, hF1, gr1, xr1⟩ := hq
    have hF := hF.tr hF1 (by decide)
    have xr1 : r1.toInt = (1 : Int) := xr1
    refine z_eq F 32 dX12_promise_27 (by decide) rfl (fun c2 => ?_) (fun c2 => ?_)
    · exfalso; omega
    · refine a_ic F (0 : Int32) dX12_promise_30 (by decide) ?_
      exact a_reti F hr hlocks hP hD hS dX12_promise_31 ⟨hR, hF⟩
  refine lv_aload_n F.1 F.2.1 dX12_promise_0 rfl (lv_at hl 0 rfl) ?_
  refine lv_aload_n F.1 F.2.1 dX12_promise_1 rfl (lv_at hl 0 rfl) ?_
  refine lv_iload_n F.1 F.2.1 dX12_promise_2 rfl (lv_at hl 1 rfl) ?_
  refine a_Vi F hml hl.1 hA hP hD hS (As := [.int p0]) (c_X12_isPromise_85 l dC dI ad cA nF _ p0 hR) (cs_RX12_244 (d := 2) F.2.2.1 (by decide)) tc_85 rfl rfl rfl rfl (Nat.le_of_ble_eq_true rfl) dX12_promise_3 ⟨Nat.le_refl 0, Nat.le_refl 0⟩ (fun r3 uN3 H locs hq hP hD hS => ?_)
  obtain ⟨hu3, gr3, xr3⟩ := hq
  rw [hu3] at hP hD
  have xr3 : r3.toInt ≠ 0 → 0 ≤ p0.toInt ∧ p0.toInt ≤ 7 := xr3
  refine z_eq F 19 dX12_promise_6 (by decide) rfl (fun c4 => ?_) (fun c4 => ?_)
  · exact L19 _ _ _ _ hR hF hP hD hS (lv_sub hl [0, 1, 2] rfl)
  · refine lv_iload_n F.1 F.2.1 dX12_promise_9 rfl (lv_at hl 2 rfl) ?_
    refine a_ic F (0 : Int32) dX12_promise_10 (by decide) ?_
    refine a_bp F (9 : Int32) dX12_promise_11 (by decide) ?_
    refine a_Si F hml hl.1 hA hP hD hS (As := [.int p1, .int (0 : Int32), .int (9 : Int32)]) (c_X12_isIn l dC dI ad cA nF _ p1 (0 : Int32) (9 : Int32) hR (by decide)) (cs_RX12_187 (d := 1) F.2.2.1 (by decide)) rfl rfl (Nat.le_of_ble_eq_true rfl) dX12_promise_13 ⟨Nat.le_refl 0, Nat.le_refl 0⟩ (fun r5 uN5 H locs hq hP hD hS => ?_)
    obtain ⟨hu5, gr5, xr5⟩ := hq
    rw [hu5] at hP hD
    have xr5 : r5.toInt ≠ 0 → (0 : Int) ≤ p1.toInt ∧ p1.toInt ≤ (9 : Int) := xr5
    refine z_ne F 23 dX12_promise_16 (by decide) rfl (fun c6 => ?_) (fun c6 => ?_)
    · refine a_ic F (0 : Int32) dX12_promise_23 (by decide) ?_
      refine a_Vi F hml hl.1 hA hP hD hS (As := [.int (0 : Int32)]) (c_X12_throwsIf_85 l dC dI ad cA nF _ (0 : Int32) hR (by decide)) (cs_RX12_247 (d := 1) F.2.2.1 (by decide)) tc_85 rfl rfl rfl rfl (Nat.le_of_ble_eq_true rfl) dX12_promise_24 ⟨Nat.le_refl 0, Nat.le_refl 0⟩ (fun r7 u7 H locs hq hP hD hS => ?_)
      obtain ⟨hR, hF7, gr7, xr7⟩ := hq
      have hF := hF.tr hF7 (by decide)
      have xr7 : r7.toInt = (0 : Int) := xr7
      refine z_eq F 32 dX12_promise_27 (by decide) rfl (fun c8 => ?_) (fun c8 => ?_)
      · refine lv_iload_n F.1 F.2.1 dX12_promise_32 rfl (lv_at hl 2 rfl) ?_
        rcases (show (p1.toInt < 0 ∨ 8 < p1.toInt) ∨ p1.toInt = 0 ∨ p1.toInt = 1 ∨ p1.toInt = 2 ∨ p1.toInt = 3 ∨ p1.toInt = 4 ∨ p1.toInt = 5 ∨ p1.toInt = 6 ∨ p1.toInt = 7 ∨ p1.toInt = 8 by omega) with c9 | c9 | c9 | c9 | c9 | c9 | c9 | c9 | c9 | c9
        · refine lv_tableOut (tgt := 178) F.1 F.2.1 dX12_promise_33 c9 (by decide) ?_
          refine lv_aload_n F.1 F.2.1 dX12_promise_178 rfl (lv_at hl 0 rfl) ?_
          refine a_getr F inX12 hP 85 6 tc_85 rfl rfl (by decide) q1477 (fun _ h9 => h9) dX12_promise_179 ?_
          refine a_sp F (132 : Int32) dX12_promise_182 (by decide) ?_
          refine lv_iload_n F.1 F.2.1 dX12_promise_185 rfl (lv_at hl 1 rfl) ?_
          refine a_iadd F dX12_promise_186 ic_132 rfl (by omega) (fun v10 hv10 => ?_)
          refine a_iald F hP 87 tc_87 rfl (i_in rfl (by omega)) dX12_promise_187 (fun v11 ev11 => ?_)
          exact a_reti F hr hlocks hP hD hS dX12_promise_188 ⟨hR, hF⟩
        · refine lv_tableIn (tgt := 84) F.1 F.2.1 dX12_promise_33 (by omega) (by omega) (by rw [c9]; rfl) (by decide) ?_
          refine lv_aload_n F.1 F.2.1 dX12_promise_84 rfl (lv_at hl 0 rfl) ?_
          refine a_getr F inX12 hP 85 6 tc_85 rfl rfl (by decide) q1477 (fun _ h9 => h9) dX12_promise_85 ?_
          refine a_bp F (26 : Int32) dX12_promise_88 (by decide) ?_
          refine lv_iload_n F.1 F.2.1 dX12_promise_90 rfl (lv_at hl 1 rfl) ?_
          refine a_iadd F dX12_promise_91 ic_26 rfl (by omega) (fun v12 hv12 => ?_)
          refine a_iald F hP 87 tc_87 rfl (i_in rfl (by omega)) dX12_promise_92 (fun v13 ev13 => ?_)
          exact a_reti F hr hlocks hP hD hS dX12_promise_93 ⟨hR, hF⟩
        · refine lv_tableIn (tgt := 94) F.1 F.2.1 dX12_promise_33 (by omega) (by omega) (by rw [c9]; rfl) (by decide) ?_
          refine lv_aload_n F.1 F.2.1 dX12_promise_94 rfl (lv_at hl 0 rfl) ?_
          refine a_getr F inX12 hP 85 6 tc_85 rfl rfl (by decide) q1477 (fun _ h9 => h9) dX12_promise_95 ?_
          refine a_bp F (34 : Int32) dX12_promise_98 (by decide) ?_
          refine lv_iload_n F.1 F.2.1 dX12_promise_100 rfl (lv_at hl 1 rfl) ?_
          refine a_iadd F dX12_promise_101 ic_34 rfl (by omega) (fun v14 hv14 => ?_)
          refine a_iald F hP 87 tc_87 rfl (i_in rfl (by omega)) dX12_promise_102 (fun v15 ev15 => ?_)
          exact a_reti F hr hlocks hP hD hS dX12_promise_103 ⟨hR, hF⟩
        · refine lv_tableIn (tgt := 104) F.1 F.2.1 dX12_promise_33 (by omega) (by omega) (by rw [c9]; rfl) (by decide) ?_
          refine lv_aload_n F.1 F.2.1 dX12_promise_104 rfl (lv_at hl 0 rfl) ?_
          refine a_getr F inX12 hP 85 6 tc_85 rfl rfl (by decide) q1477 (fun _ h9 => h9) dX12_promise_105 ?_
          refine a_bp F (42 : Int32) dX12_promise_108 (by decide) ?_
          refine lv_iload_n F.1 F.2.1 dX12_promise_110 rfl (lv_at hl 1 rfl) ?_
          refine a_iadd F dX12_promise_111 ic_42 rfl (by omega) (fun v16 hv16 => ?_)
          refine a_iald F hP 87 tc_87 rfl (i_in rfl (by omega)) dX12_promise_112 (fun v17 ev17 => ?_)
          have hv17 : (0 : Int) ≤ v17.toInt ∧ v17.toInt ≤ 7 := rg_seg_87_42_49 hR ev17 (by omega)
          exact a_reti F hr hlocks hP hD hS dX12_promise_113 ⟨hR, hF⟩
        · refine lv_tableIn (tgt := 114) F.1 F.2.1 dX12_promise_33 (by omega) (by omega) (by rw [c9]; rfl) (by decide) ?_
          refine lv_aload_n F.1 F.2.1 dX12_promise_114 rfl (lv_at hl 0 rfl) ?_
          refine a_getr F inX12 hP 85 6 tc_85 rfl rfl (by decide) q1477 (fun _ h9 => h9) dX12_promise_115 ?_
          refine a_bp F (50 : Int32) dX12_promise_118 (by decide) ?_
          refine lv_iload_n F.1 F.2.1 dX12_promise_120 rfl (lv_at hl 1 rfl) ?_
          refine a_iadd F dX12_promise_121 ic_50 rfl (by omega) (fun v18 hv18 => ?_)
          refine a_iald F hP 87 tc_87 rfl (i_in rfl (by omega)) dX12_promise_122 (fun v19 ev19 => ?_)
          exact a_reti F hr hlocks hP hD hS dX12_promise_123 ⟨hR, hF⟩
        · refine lv_tableIn (tgt := 124) F.1 F.2.1 dX12_promise_33 (by omega) (by omega) (by rw [c9]; rfl) (by decide) ?_
          refine lv_aload_n F.1 F.2.1 dX12_promise_124 rfl (lv_at hl 0 rfl) ?_
          refine a_getr F inX12 hP 85 6 tc_85 rfl rfl (by decide) q1477 (fun _ h9 => h9) dX12_promise_125 ?_
          refine a_bp F (58 : Int32) dX12_promise_128 (by decide) ?_
          refine lv_iload_n F.1 F.2.1 dX12_promise_130 rfl (lv_at hl 1 rfl) ?_
          refine a_iadd F dX12_promise_131 ic_58 rfl (by omega) (fun v20 hv20 => ?_)
          refine a_iald F hP 87 tc_87 rfl (i_in rfl (by omega)) dX12_promise_132 (fun v21 ev21 => ?_)
          exact a_reti F hr hlocks hP hD hS dX12_promise_133 ⟨hR, hF⟩
        · refine lv_tableIn (tgt := 134) F.1 F.2.1 dX12_promise_33 (by omega) (by omega) (by rw [c9]; rfl) (by decide) ?_
          refine lv_aload_n F.1 F.2.1 dX12_promise_134 rfl (lv_at hl 0 rfl) ?_
          refine a_getr F inX12 hP 85 6 tc_85 rfl rfl (by decide) q1477 (fun _ h9 => h9) dX12_promise_135 ?_
          refine a_bp F (66 : Int32) dX12_promise_138 (by decide) ?_
          refine lv_iload_n F.1 F.2.1 dX12_promise_140 rfl (lv_at hl 1 rfl) ?_
          refine a_iadd F dX12_promise_141 ic_66 rfl (by omega) (fun v22 hv22 => ?_)
          refine a_iald F hP 87 tc_87 rfl (i_in rfl (by omega)) dX12_promise_142 (fun v23 ev23 => ?_)
          have hv23 : (0 : Int) ≤ v23.toInt ∧ v23.toInt ≤ 3 := rg_seg_87_66_73 hR ev23 (by omega)
          exact a_reti F hr hlocks hP hD hS dX12_promise_143 ⟨hR, hF⟩
        · refine lv_tableIn (tgt := 144) F.1 F.2.1 dX12_promise_33 (by omega) (by omega) (by rw [c9]; rfl) (by decide) ?_
          refine lv_aload_n F.1 F.2.1 dX12_promise_144 rfl (lv_at hl 0 rfl) ?_
          refine a_getr F inX12 hP 85 6 tc_85 rfl rfl (by decide) q1477 (fun _ h9 => h9) dX12_promise_145 ?_
          refine a_bp F (74 : Int32) dX12_promise_148 (by decide) ?_
          refine lv_iload_n F.1 F.2.1 dX12_promise_150 rfl (lv_at hl 1 rfl) ?_
          refine a_iadd F dX12_promise_151 ic_74 rfl (by omega) (fun v24 hv24 => ?_)
          refine a_iald F hP 87 tc_87 rfl (i_in rfl (by omega)) dX12_promise_152 (fun v25 ev25 => ?_)
          exact a_reti F hr hlocks hP hD hS dX12_promise_153 ⟨hR, hF⟩
        · refine lv_tableIn (tgt := 154) F.1 F.2.1 dX12_promise_33 (by omega) (by omega) (by rw [c9]; rfl) (by decide) ?_
          refine lv_aload_n F.1 F.2.1 dX12_promise_154 rfl (lv_at hl 0 rfl) ?_
          refine a_getr F inX12 hP 85 6 tc_85 rfl rfl (by decide) q1477 (fun _ h9 => h9) dX12_promise_155 ?_
          refine a_bp F (82 : Int32) dX12_promise_158 (by decide) ?_
          refine lv_iload_n F.1 F.2.1 dX12_promise_160 rfl (lv_at hl 1 rfl) ?_
          refine a_iadd F dX12_promise_161 ic_82 rfl (by omega) (fun v26 hv26 => ?_)
          refine a_iald F hP 87 tc_87 rfl (i_in rfl (by omega)) dX12_promise_162 (fun v27 ev27 => ?_)
          refine a_ic F (1 : Int32) dX12_promise_163 (by decide) ?_
          refine a_isubU F dX12_promise_164 (fun v28 => ?_)
          exact a_reti F hr hlocks hP hD hS dX12_promise_165 ⟨hR, hF⟩
        · refine lv_tableIn (tgt := 166) F.1 F.2.1 dX12_promise_33 (by omega) (by omega) (by rw [c9]; rfl) (by decide) ?_
          refine lv_aload_n F.1 F.2.1 dX12_promise_166 rfl (lv_at hl 0 rfl) ?_
          refine a_getr F inX12 hP 85 6 tc_85 rfl rfl (by decide) q1477 (fun _ h9 => h9) dX12_promise_167 ?_
          refine a_bp F (124 : Int32) dX12_promise_170 (by decide) ?_
          refine lv_iload_n F.1 F.2.1 dX12_promise_172 rfl (lv_at hl 1 rfl) ?_
          refine a_iadd F dX12_promise_173 ic_124 rfl (by omega) (fun v29 hv29 => ?_)
          refine a_iald F hP 87 tc_87 rfl (i_in rfl (by omega)) dX12_promise_174 (fun v30 ev30 => ?_)
          have hv30 : (0 : Int) ≤ v30.toInt ∧ v30.toInt ≤ 481 := rg_seg_87_124_131 hR ev30 (by omega)
          refine a_ic F (1 : Int32) dX12_promise_175 (by decide) ?_
          refine a_isub F dX12_promise_176 rfl ic_1 (by omega) (fun v31 hv31 => ?_)
          exact a_reti F hr hlocks hP hD hS dX12_promise_177 ⟨hR, hF⟩
      · exfalso; omega
    · exact L19 _ _ _ _ hR hF hP hD hS (lv_sub hl [0, 1, 2] rfl)
set_option maxHeartbeats 600000 in
set_option maxRecDepth 100000 in
theorem c_X12_readings_85 (l : Launch) (dC : Nat → ClassId) (dI : Nat → Nat → Nat) (ad : Nat → Nat) (cA : Nat → ClassId) (nF : Nat) (u0 : ac_U) (p0 : Int32) (p1 : Int32) (hR : ac_R rg u0) : ac_Mi l yX12_readings (.code yX12_readings cX12_readings 5 (some .int) :: TB) 7 (dC, dI) vwCl (ac_ty cA) ad cA (TT nF) [.ref (ad 85), .int p0, .int p1] u0 (fun (r : Int32) (u : ac_U) => ac_R rg u ∧ ac_Fr [(85, some 0)] u0 u ∧ ((-1 : Int) ≤ r.toInt ∧ r.toInt ≤ 255)) := by
  refine ac_Mi.of (cc := cX12_readings) (maxL := 5) (ret := (some .int)) (by decide) rfl (Nat.le_of_ble_eq_true rfl) ?_
  intro p e s m below meth c A ls F hml hr hlocks hA hP hD hS hl
  have F : ac_X p s m [.ref (ad 85), .int p0, .int p1].toArray c cX12_readings RX12 TB (dC, dI) vwCl (ac_ty cA) := ⟨F.1, F.2.1, fun w h => F.2.2.1 w (List.mem_cons_of_mem _ h), F.2.2.2.1, F.2.2.2.2⟩
  have hl : lv_has ls 5 [(0, .ref (ad 85)), (1, .int p0), (2, .int p1)] := hl
  have hF : ac_Fr [(85, some 0)] u0 u0 := ac_Fr.rf
  have L29 : ∀ (n29 : Nat) (x3 : Int32) (x4 : Int32) (u : ac_U) (H : Heap) (locs : List Loc) (ls : Array Slot), ac_R rg u → ac_Fr [(85, some 0)] u0 u → 8 - x4.toInt < (n29 : Int) → (0 : Int) ≤ p0.toInt ∧ p0.toInt ≤ 7 → (0 : Int) ≤ p1.toInt ∧ p1.toInt ≤ 4 → (0 : Int) ≤ x3.toInt ∧ x3.toInt ≤ 255 → (0 : Int) ≤ x4.toInt ∧ x4.toInt ≤ 8 → (0 : Int) ≤ (u.1 85 0).toInt ∧ (u.1 85 0).toInt ≤ 0 → va_P (dC, dI) vwCl (ac_w ad cA (TT nF) u) H → va_D A (ac_w ad cA (TT nF) u) → va_S A s.heap H locs → lv_has ls 5 [(0, .ref (ad 85)), (1, .int p0), (2, .int p1), (3, .int x3), (4, .int x4)] → W p l e (ac_rm 7) s m [.ref (ad 85), .int p0, .int p1].toArray below meth c H locs 0 0 (MQ below (va_Qi (fun (r : Int32) (u : ac_U) => ac_R rg u ∧ ac_Fr [(85, some 0)] u0 u ∧ ((-1 : Int) ≤ r.toInt ∧ r.toInt ≤ 255)) (ac_B (dC, dI) vwCl (ac_ty cA) ad cA (TT nF) A) A) [.ref (ad 85), .int p0, .int p1].toArray s 0 0 A) (F0 m 29 ls []) := by
    intro n29
    induction n29 with
    | zero => intro x3 x4 u H locs ls hR hF hn29 f0 f1 f2 f3 f4 hP hD hS hl; exfalso; omega
    | succ n29 ih29 =>
      intro x3 x4 u H locs ls hR hF hn29 f0 f1 f2 f3 f4 hP hD hS hl
      have L56 : ∀ (x4 : Int32) (z0 : Int32) (z1 : Int32) (u : ac_U) (H : Heap) (locs : List Loc) (ls : Array Slot), ac_R rg u → ac_Fr [(85, some 0)] u0 u → (0 : Int) ≤ p0.toInt ∧ p0.toInt ≤ 7 → (0 : Int) ≤ p1.toInt ∧ p1.toInt ≤ 4 → (0 : Int) ≤ x4.toInt ∧ x4.toInt ≤ 7 → (0 : Int) ≤ z0.toInt ∧ z0.toInt ≤ 255 → (0 : Int) ≤ z1.toInt ∧ z1.toInt ≤ 128 → (0 : Int) ≤ (u.1 85 0).toInt ∧ (u.1 85 0).toInt ≤ 0 → 8 - x4.toInt + 0 < ((n29 : Nat) : Int) + 1 → va_P (dC, dI) vwCl (ac_w ad cA (TT nF) u) H → va_D A (ac_w ad cA (TT nF) u) → va_S A s.heap H locs → lv_has ls 5 [(0, .ref (ad 85)), (1, .int p0), (2, .int p1), (4, .int x4)] → W p l e (ac_rm 7) s m [.ref (ad 85), .int p0, .int p1].toArray below meth c H locs 0 0 (MQ below (va_Qi (fun (r : Int32) (u : ac_U) => ac_R rg u ∧ ac_Fr [(85, some 0)] u0 u ∧ ((-1 : Int) ≤ r.toInt ∧ r.toInt ≤ 255)) (ac_B (dC, dI) vwCl (ac_ty cA) ad cA (TT nF) A) A) [.ref (ad 85), .int p0, .int p1].toArray s 0 0 A) (F0 m 56 ls [.int z1, .int z0]) := by
        intro x4 z0 z1 u H locs ls hR hF f0 f1 f2 f3 f4 f5 f6 hP hD hS hl
        refine a_iorB F dX12_readings_56 rfl rfl (n := 8) (m' := 256) rfl (by decide) (by omega) (by omega) (fun v1 hv1 => ?_)
        refine lv_istore_n (lv' := [(3, .int v1), (0, .ref (ad 85)), (1, .int p0), (2, .int p1), (4, .int x4)]) F.1 F.2.1 dX12_readings_57 rfl hl (by decide) rfl (fun ls hl => ?_)
        refine a_iinc F (k := 4) (fun v2 => [(4, .int v2), (3, .int v1), (0, .ref (ad 85)), (1, .int p0), (2, .int p1)]) dX12_readings_58 hl rfl rfl (by decide) (by omega) (by decide) (fun _ => rfl) (fun v2 ls hv2 hl => ?_)
        refine lv_goto (tgt := 29) F.1 F.2.1 dX12_readings_61 (by decide) ?_
        have g3 : (0 : Int) ≤ (u.1 85 0).toInt ∧ (u.1 85 0).toInt ≤ 1 := hR 85 0
        exact ih29 v1 v2 _ _ _ _ hR hF (by omega) (by omega) (by omega) (by omega) (by omega) (by omega : (0 : Int) ≤ (u.1 85 0).toInt ∧ (u.1 85 0).toInt ≤ 0) hP hD hS (lv_sub hl [2, 3, 4, 1, 0] rfl)
      refine lv_iload F.1 F.2.1 dX12_readings_29 (lv_at hl 4 rfl) ?_
      refine a_bp F (8 : Int32) dX12_readings_31 (by decide) ?_
      refine b_ge F 64 dX12_readings_33 (by decide) rfl ic_8 (fun c4 => ?_) (fun c4 => ?_)
      · refine lv_iload_n F.1 F.2.1 dX12_readings_64 rfl (lv_at hl 3 rfl) ?_
        exact a_reti F hr hlocks hP hD hS dX12_readings_65 ⟨hR, hF, (by omega : (-1 : Int) ≤ x3.toInt ∧ x3.toInt ≤ 255)⟩
      · refine lv_iload_n F.1 F.2.1 dX12_readings_36 rfl (lv_at hl 3 rfl) ?_
        refine lv_aload_n F.1 F.2.1 dX12_readings_37 rfl (lv_at hl 0 rfl) ?_
        refine lv_iload_n F.1 F.2.1 dX12_readings_38 rfl (lv_at hl 1 rfl) ?_
        refine lv_iload F.1 F.2.1 dX12_readings_39 (lv_at hl 4 rfl) ?_
        refine a_Vi F hml hl.1 hA hP hD hS (As := [.int p0, .int x4]) (c_X12_statusOf_85 l dC dI ad cA nF _ p0 x4 hR (by omega) (by omega)) (cs_RX12_257 (d := 6) F.2.2.1 (by decide)) tc_85 rfl rfl rfl rfl (Nat.le_of_ble_eq_true rfl) dX12_readings_41 ⟨Nat.le_refl 0, Nat.le_refl 0⟩ (fun r5 uN5 H locs hq hP hD hS => ?_)
        obtain ⟨hu5, gr5⟩ := hq
        rw [hu5] at hP hD
        refine lv_iload_n F.1 F.2.1 dX12_readings_44 rfl (lv_at hl 2 rfl) ?_
        refine b_ne F 55 dX12_readings_45 (by decide) rfl rfl (fun c6 => ?_) (fun c6 => ?_)
        · refine a_ic F (0 : Int32) dX12_readings_55 (by decide) ?_
          have g7 : (0 : Int) ≤ (u.1 85 0).toInt ∧ (u.1 85 0).toInt ≤ 1 := hR 85 0
          exact L56 x4 x3 (0 : Int32) _ _ _ _ hR hF (by omega) (by omega) (by omega) (by omega) (by decide) (by omega : (0 : Int) ≤ (u.1 85 0).toInt ∧ (u.1 85 0).toInt ≤ 0) (by omega) hP hD hS (lv_sub hl [0, 1, 2, 4] rfl)
        · refine a_ic F (1 : Int32) dX12_readings_48 (by decide) ?_
          refine lv_iload F.1 F.2.1 dX12_readings_49 (lv_at hl 4 rfl) ?_
          refine a_ishl1 F dX12_readings_51 rfl (lo := 0) (hi := 7) (by omega) (by decide) (fun v8 hv8 => ?_)
          have hv8 : (1 : Int) ≤ v8.toInt ∧ v8.toInt ≤ 128 := hv8
          refine lv_goto (tgt := 56) F.1 F.2.1 dX12_readings_52 (by decide) ?_
          have g9 : (0 : Int) ≤ (u.1 85 0).toInt ∧ (u.1 85 0).toInt ≤ 1 := hR 85 0
          exact L56 x4 x3 v8 _ _ _ _ hR hF (by omega) (by omega) (by omega) (by omega) (by omega) (by omega : (0 : Int) ≤ (u.1 85 0).toInt ∧ (u.1 85 0).toInt ≤ 0) (by omega) hP hD hS (lv_sub hl [0, 1, 2, 4] rfl)
  have L22 : ∀ (u : ac_U) (H : Heap) (locs : List Loc) (ls : Array Slot), ac_R rg u → ac_Fr [(85, some 0)] u0 u → (0 : Int) ≤ (u.1 85 0).toInt ∧ (u.1 85 0).toInt ≤ 0 → va_P (dC, dI) vwCl (ac_w ad cA (TT nF) u) H → va_D A (ac_w ad cA (TT nF) u) → va_S A s.heap H locs → lv_has ls 5 [] → W p l e (ac_rm 7) s m [.ref (ad 85), .int p0, .int p1].toArray below meth c H locs 0 0 (MQ below (va_Qi (fun (r : Int32) (u : ac_U) => ac_R rg u ∧ ac_Fr [(85, some 0)] u0 u ∧ ((-1 : Int) ≤ r.toInt ∧ r.toInt ≤ 255)) (ac_B (dC, dI) vwCl (ac_ty cA) ad cA (TT nF) A) A) [.ref (ad 85), .int p0, .int p1].toArray s 0 0 A) (F0 m 22 ls []) := by
    intro u H locs ls hR hF f0 hP hD hS hl
    refine a_ic F (-1 : Int32) dX12_readings_22 (by decide) ?_
    exact a_reti F hr hlocks hP hD hS dX12_readings_23 ⟨hR, hF, (by decide)⟩
  refine lv_aload_n F.1 F.2.1 dX12_readings_0 rfl (lv_at hl 0 rfl) ?_
  refine a_ic F (0 : Int32) dX12_readings_1 (by decide) ?_
  refine a_puti F inX12 tyX12 tyX12_ok nmX12 hP hD hS 85 0 tc_85 rfl rfl (by decide) q1471 (fun _ h9 => h9) rfl (ty := .int) (tyX12_ok 0 (by decide)) rfl rfl dX12_readings_2 (fun H locs hP hD hS => ?_)
  have hR := hR.si (c := 85) (k := 0) (v := (0 : Int32)) (by rw [ic_0]; exact (by omega : (0 : Int) ≤ (0 : Int) ∧ (0 : Int) ≤ 1))
  have hF := hF.si (c := 85) (k := 0) (v := (0 : Int32)) rfl
  refine lv_aload_n F.1 F.2.1 dX12_readings_5 rfl (lv_at hl 0 rfl) ?_
  refine lv_iload_n F.1 F.2.1 dX12_readings_6 rfl (lv_at hl 1 rfl) ?_
  refine a_Vi F hml hl.1 hA hP hD hS (As := [.int p0]) (c_X12_isPromise_85 l dC dI ad cA nF _ p0 hR) (cs_RX12_244 (d := 2) F.2.2.1 (by decide)) tc_85 rfl rfl rfl rfl (Nat.le_of_ble_eq_true rfl) dX12_readings_7 ⟨Nat.le_refl 0, Nat.le_refl 0⟩ (fun r10 uN10 H locs hq hP hD hS => ?_)
  obtain ⟨hu10, gr10, xr10⟩ := hq
  rw [hu10] at hP hD
  have xr10 : r10.toInt ≠ 0 → 0 ≤ p0.toInt ∧ p0.toInt ≤ 7 := xr10
  refine z_eq F 22 dX12_readings_10 (by decide) rfl (fun c11 => ?_) (fun c11 => ?_)
  · exact L22 _ _ _ _ hR hF (by omega : (0 : Int) ≤ (0 : Int) ∧ (0 : Int) ≤ 0) hP hD hS (lv_sub hl [] rfl)
  · refine lv_iload_n F.1 F.2.1 dX12_readings_13 rfl (lv_at hl 2 rfl) ?_
    refine a_ic F (0 : Int32) dX12_readings_14 (by decide) ?_
    refine a_ic F (4 : Int32) dX12_readings_15 (by decide) ?_
    refine a_Si F hml hl.1 hA hP hD hS (As := [.int p1, .int (0 : Int32), .int (4 : Int32)]) (c_X12_isIn l dC dI ad cA nF _ p1 (0 : Int32) (4 : Int32) hR (by decide)) (cs_RX12_187 (d := 1) F.2.2.1 (by decide)) rfl rfl (Nat.le_of_ble_eq_true rfl) dX12_readings_16 ⟨Nat.le_refl 0, Nat.le_refl 0⟩ (fun r12 uN12 H locs hq hP hD hS => ?_)
    obtain ⟨hu12, gr12, xr12⟩ := hq
    rw [hu12] at hP hD
    have xr12 : r12.toInt ≠ 0 → (0 : Int) ≤ p1.toInt ∧ p1.toInt ≤ (4 : Int) := xr12
    refine z_ne F 24 dX12_readings_19 (by decide) rfl (fun c13 => ?_) (fun c13 => ?_)
    · refine a_ic F (0 : Int32) dX12_readings_24 (by decide) ?_
      refine lv_istore_n (lv' := [(3, .int (0 : Int32)), (0, .ref (ad 85)), (1, .int p0), (2, .int p1)]) F.1 F.2.1 dX12_readings_25 rfl hl (by decide) rfl (fun ls hl => ?_)
      refine a_ic F (0 : Int32) dX12_readings_26 (by decide) ?_
      refine lv_istore (lv' := [(4, .int (0 : Int32)), (3, .int (0 : Int32)), (0, .ref (ad 85)), (1, .int p0), (2, .int p1)]) F.1 F.2.1 dX12_readings_27 hl (by decide) rfl (fun ls hl => ?_)
      exact L29 10 (0 : Int32) (0 : Int32) _ _ _ _ hR hF (by decide) (by omega) (by omega) (by decide) (by decide) (by omega : (0 : Int) ≤ (0 : Int) ∧ (0 : Int) ≤ 0) hP hD hS (lv_sub hl [2, 3, 4, 1, 0] rfl)
    · exact L22 _ _ _ _ hR hF (by omega : (0 : Int) ≤ (0 : Int) ∧ (0 : Int) ≤ 0) hP hD hS (lv_sub hl [] rfl)
set_option maxHeartbeats 600000 in
set_option maxRecDepth 100000 in
theorem c_X12_rings_85 (l : Launch) (dC : Nat → ClassId) (dI : Nat → Nat → Nat) (ad : Nat → Nat) (cA : Nat → ClassId) (nF : Nat) (u0 : ac_U)  (hR : ac_R rg u0) : ac_Mi l yX12_rings (.code yX12_rings cX12_rings 3 (some .int) :: TB) 3 (dC, dI) vwCl (ac_ty cA) ad cA (TT nF) [.ref (ad 85)] u0 (fun (r : Int32) (u : ac_U) => ac_R rg u ∧ ac_Fr [(85, some 0)] u0 u) := by
  refine ac_Mi.of (cc := cX12_rings) (maxL := 3) (ret := (some .int)) (by decide) rfl (Nat.le_of_ble_eq_true rfl) ?_
  intro p e s m below meth c A ls F hml hr hlocks hA hP hD hS hl
  have F : ac_X p s m [.ref (ad 85)].toArray c cX12_rings RX12 TB (dC, dI) vwCl (ac_ty cA) := ⟨F.1, F.2.1, fun w h => F.2.2.1 w (List.mem_cons_of_mem _ h), F.2.2.2.1, F.2.2.2.2⟩
  have hl : lv_has ls 3 [(0, .ref (ad 85))] := hl
  have hF : ac_Fr [(85, some 0)] u0 u0 := ac_Fr.rf
  have L9 : ∀ (n9 : Nat) (x1 : Int32) (x2 : Int32) (u : ac_U) (H : Heap) (locs : List Loc) (ls : Array Slot), ac_R rg u → ac_Fr [(85, some 0)] u0 u → 8 - x2.toInt < (n9 : Int) → (0 : Int) ≤ x2.toInt ∧ x2.toInt ≤ 8 → (0 : Int) ≤ (u.1 85 0).toInt ∧ (u.1 85 0).toInt ≤ 0 → va_P (dC, dI) vwCl (ac_w ad cA (TT nF) u) H → va_D A (ac_w ad cA (TT nF) u) → va_S A s.heap H locs → lv_has ls 3 [(0, .ref (ad 85)), (1, .int x1), (2, .int x2)] → W p l e (ac_rm 3) s m [.ref (ad 85)].toArray below meth c H locs 0 0 (MQ below (va_Qi (fun (r : Int32) (u : ac_U) => ac_R rg u ∧ ac_Fr [(85, some 0)] u0 u) (ac_B (dC, dI) vwCl (ac_ty cA) ad cA (TT nF) A) A) [.ref (ad 85)].toArray s 0 0 A) (F0 m 9 ls []) := by
    intro n9
    induction n9 with
    | zero => intro x1 x2 u H locs ls hR hF hn9 f0 f1 hP hD hS hl; exfalso; omega
    | succ n9 ih9 =>
      intro x1 x2 u H locs ls hR hF hn9 f0 f1 hP hD hS hl
      have L74 : ∀ (x1 : Int32) (x2 : Int32) (u : ac_U) (H : Heap) (locs : List Loc) (ls : Array Slot), ac_R rg u → ac_Fr [(85, some 0)] u0 u → (0 : Int) ≤ x2.toInt ∧ x2.toInt ≤ 7 → (0 : Int) ≤ (u.1 85 0).toInt ∧ (u.1 85 0).toInt ≤ 0 → (1 : Int) ≤ (u.1 87 7).toInt ∧ (u.1 87 7).toInt ≤ 8 → 8 - x2.toInt + 0 < ((n9 : Nat) : Int) + 1 → va_P (dC, dI) vwCl (ac_w ad cA (TT nF) u) H → va_D A (ac_w ad cA (TT nF) u) → va_S A s.heap H locs → lv_has ls 3 [(0, .ref (ad 85)), (1, .int x1), (2, .int x2)] → W p l e (ac_rm 3) s m [.ref (ad 85)].toArray below meth c H locs 0 0 (MQ below (va_Qi (fun (r : Int32) (u : ac_U) => ac_R rg u ∧ ac_Fr [(85, some 0)] u0 u) (ac_B (dC, dI) vwCl (ac_ty cA) ad cA (TT nF) A) A) [.ref (ad 85)].toArray s 0 0 A) (F0 m 74 ls []) := by
        intro x1 x2 u H locs ls hR hF f0 f1 f2 f3 hP hD hS hl
        refine a_iinc F (k := 2) (fun v1 => [(2, .int v1), (0, .ref (ad 85)), (1, .int x1)]) dX12_rings_74 hl rfl rfl (by decide) (by omega) (by decide) (fun _ => rfl) (fun v1 ls hv1 hl => ?_)
        refine lv_goto (tgt := 9) F.1 F.2.1 dX12_rings_77 (by decide) ?_
        have g2 : (0 : Int) ≤ (u.1 85 0).toInt ∧ (u.1 85 0).toInt ≤ 1 := hR 85 0
        exact ih9 x1 v1 _ _ _ _ hR hF (by omega) (by omega) (by omega : (0 : Int) ≤ (u.1 85 0).toInt ∧ (u.1 85 0).toInt ≤ 0) hP hD hS (lv_sub hl [1, 2, 0] rfl)
      refine lv_iload_n F.1 F.2.1 dX12_rings_9 rfl (lv_at hl 2 rfl) ?_
      refine lv_aload_n F.1 F.2.1 dX12_rings_10 rfl (lv_at hl 0 rfl) ?_
      refine a_getr F inX12 hP 85 6 tc_85 rfl rfl (by decide) q1477 (fun _ h9 => h9) dX12_rings_11 ?_
      refine a_bp F (7 : Int32) dX12_rings_14 (by decide) ?_
      have g3 : (0 : Int) ≤ (u.1 87 7).toInt ∧ (u.1 87 7).toInt ≤ 8 := hR 87 7
      refine a_ialdK F hP 87 7 tc_87 rfl rfl (i_in ic_7 (by omega)) (v := (u.1 87 7)) rfl dX12_rings_16 ?_
      refine b_ge F 80 dX12_rings_17 (by decide) rfl rfl (fun c4 => ?_) (fun c4 => ?_)
      · refine lv_iload_n F.1 F.2.1 dX12_rings_80 rfl (lv_at hl 1 rfl) ?_
        exact a_reti F hr hlocks hP hD hS dX12_rings_81 ⟨hR, hF⟩
      · refine lv_aload_n F.1 F.2.1 dX12_rings_20 rfl (lv_at hl 0 rfl) ?_
        refine lv_aload_n F.1 F.2.1 dX12_rings_21 rfl (lv_at hl 0 rfl) ?_
        refine a_getr F inX12 hP 85 6 tc_85 rfl rfl (by decide) q1477 (fun _ h9 => h9) dX12_rings_22 ?_
        refine a_bp F (90 : Int32) dX12_rings_25 (by decide) ?_
        refine lv_iload_n F.1 F.2.1 dX12_rings_27 rfl (lv_at hl 2 rfl) ?_
        refine a_iadd F dX12_rings_28 ic_90 rfl (by omega) (fun v5 hv5 => ?_)
        refine a_iald F hP 87 tc_87 rfl (i_in rfl (by omega)) dX12_rings_29 (fun v6 ev6 => ?_)
        refine a_Vi F hml hl.1 hA hP hD hS (As := [.int v6]) (c_X12_chainOf_85 l dC dI ad cA nF _ v6 hR) (cs_RX12_363 (d := 2) F.2.2.1 (by decide)) tc_85 rfl rfl rfl rfl (Nat.le_of_ble_eq_true rfl) dX12_rings_30 ⟨Nat.le_refl 0, Nat.le_refl 0⟩ (fun r7 uN7 H locs hq hP hD hS => ?_)
        have hu7 := hq
        rw [hu7] at hP hD
        refine lv_aload_n F.1 F.2.1 dX12_rings_33 rfl (lv_at hl 0 rfl) ?_
        refine a_getr F inX12 hP 85 6 tc_85 rfl rfl (by decide) q1477 (fun _ h9 => h9) dX12_rings_34 ?_
        refine a_bp F (98 : Int32) dX12_rings_37 (by decide) ?_
        refine lv_iload_n F.1 F.2.1 dX12_rings_39 rfl (lv_at hl 2 rfl) ?_
        refine a_iadd F dX12_rings_40 ic_98 rfl (by omega) (fun v8 hv8 => ?_)
        refine a_iald F hP 87 tc_87 rfl (i_in rfl (by omega)) dX12_rings_41 (fun v9 ev9 => ?_)
        refine a_Si F hml hl.1 hA hP hD hS (As := [.int r7, .int v9]) (c_X12_bitOf l dC dI ad cA nF _ r7 v9 hR) (cs_RX12_223 (d := 1) F.2.2.1 (by decide)) rfl rfl (Nat.le_of_ble_eq_true rfl) dX12_rings_42 ⟨Nat.le_refl 0, Nat.le_refl 0⟩ (fun r10 uN10 H locs hq hP hD hS => ?_)
        obtain ⟨hu10, gr10⟩ := hq
        rw [hu10] at hP hD
        refine z_eq F 74 dX12_rings_45 (by decide) rfl (fun c11 => ?_) (fun c11 => ?_)
        · have g12 : (0 : Int) ≤ (u.1 85 0).toInt ∧ (u.1 85 0).toInt ≤ 1 := hR 85 0
          exact L74 x1 x2 _ _ _ _ hR hF (by omega) (by omega : (0 : Int) ≤ (u.1 85 0).toInt ∧ (u.1 85 0).toInt ≤ 0) (by omega : (1 : Int) ≤ (u.1 87 7).toInt ∧ (u.1 87 7).toInt ≤ 8) (by omega) hP hD hS (lv_sub hl [0, 1, 2] rfl)
        · refine lv_iload_n F.1 F.2.1 dX12_rings_48 rfl (lv_at hl 1 rfl) ?_
          refine a_ic F (1 : Int32) dX12_rings_49 (by decide) ?_
          refine lv_aload_n F.1 F.2.1 dX12_rings_50 rfl (lv_at hl 0 rfl) ?_
          refine a_getr F inX12 hP 85 6 tc_85 rfl rfl (by decide) q1477 (fun _ h9 => h9) dX12_rings_51 ?_
          refine a_bp F (90 : Int32) dX12_rings_54 (by decide) ?_
          refine lv_iload_n F.1 F.2.1 dX12_rings_56 rfl (lv_at hl 2 rfl) ?_
          refine a_iadd F dX12_rings_57 ic_90 rfl (by omega) (fun v13 hv13 => ?_)
          refine a_iald F hP 87 tc_87 rfl (i_in rfl (by omega)) dX12_rings_58 (fun v14 ev14 => ?_)
          refine a_ishlU F dX12_rings_59 (fun v15 => ?_)
          refine a_ic F (1 : Int32) dX12_rings_60 (by decide) ?_
          refine lv_aload_n F.1 F.2.1 dX12_rings_61 rfl (lv_at hl 0 rfl) ?_
          refine a_getr F inX12 hP 85 6 tc_85 rfl rfl (by decide) q1477 (fun _ h9 => h9) dX12_rings_62 ?_
          refine a_bp F (98 : Int32) dX12_rings_65 (by decide) ?_
          refine lv_iload_n F.1 F.2.1 dX12_rings_67 rfl (lv_at hl 2 rfl) ?_
          refine a_iadd F dX12_rings_68 ic_98 rfl (by omega) (fun v16 hv16 => ?_)
          refine a_iald F hP 87 tc_87 rfl (i_in rfl (by omega)) dX12_rings_69 (fun v17 ev17 => ?_)
          refine a_ishlU F dX12_rings_70 (fun v18 => ?_)
          refine a_iorU F dX12_rings_71 (fun v19 => ?_)
          refine a_iorU F dX12_rings_72 (fun v20 => ?_)
          refine lv_istore_n (lv' := [(1, .int v20), (0, .ref (ad 85)), (2, .int x2)]) F.1 F.2.1 dX12_rings_73 rfl hl (by decide) rfl (fun ls hl => ?_)
          have g21 : (0 : Int) ≤ (u.1 85 0).toInt ∧ (u.1 85 0).toInt ≤ 1 := hR 85 0
          exact L74 v20 x2 _ _ _ _ hR hF (by omega) (by omega : (0 : Int) ≤ (u.1 85 0).toInt ∧ (u.1 85 0).toInt ≤ 0) (by omega : (1 : Int) ≤ (u.1 87 7).toInt ∧ (u.1 87 7).toInt ≤ 8) (by omega) hP hD hS (lv_sub hl [1, 0, 2] rfl)
  refine lv_aload_n F.1 F.2.1 dX12_rings_0 rfl (lv_at hl 0 rfl) ?_
  refine a_ic F (0 : Int32) dX12_rings_1 (by decide) ?_
  refine a_puti F inX12 tyX12 tyX12_ok nmX12 hP hD hS 85 0 tc_85 rfl rfl (by decide) q1471 (fun _ h9 => h9) rfl (ty := .int) (tyX12_ok 0 (by decide)) rfl rfl dX12_rings_2 (fun H locs hP hD hS => ?_)
  have hR := hR.si (c := 85) (k := 0) (v := (0 : Int32)) (by rw [ic_0]; exact (by omega : (0 : Int) ≤ (0 : Int) ∧ (0 : Int) ≤ 1))
  have hF := hF.si (c := 85) (k := 0) (v := (0 : Int32)) rfl
  refine a_ic F (0 : Int32) dX12_rings_5 (by decide) ?_
  refine lv_istore_n (lv' := [(1, .int (0 : Int32)), (0, .ref (ad 85))]) F.1 F.2.1 dX12_rings_6 rfl hl (by decide) rfl (fun ls hl => ?_)
  refine a_ic F (0 : Int32) dX12_rings_7 (by decide) ?_
  refine lv_istore_n (lv' := [(2, .int (0 : Int32)), (1, .int (0 : Int32)), (0, .ref (ad 85))]) F.1 F.2.1 dX12_rings_8 rfl hl (by decide) rfl (fun ls hl => ?_)
  exact L9 10 (0 : Int32) (0 : Int32) _ _ _ _ hR hF (by decide) (by decide) (by omega : (0 : Int) ≤ (0 : Int) ∧ (0 : Int) ≤ 0) hP hD hS (lv_sub hl [2, 1, 0] rfl)
set_option maxHeartbeats 600000 in
set_option maxRecDepth 100000 in
theorem c_X12_roots_85 (l : Launch) (dC : Nat → ClassId) (dI : Nat → Nat → Nat) (ad : Nat → Nat) (cA : Nat → ClassId) (nF : Nat) (u0 : ac_U)  (hR : ac_R rg u0) : ac_Mi l yX12_roots (.code yX12_roots cX12_roots 5 (some .int) :: TB) 3 (dC, dI) vwCl (ac_ty cA) ad cA (TT nF) [.ref (ad 85)] u0 (fun (r : Int32) (u : ac_U) => ac_R rg u ∧ ac_Fr [(85, some 0)] u0 u ∧ ((-1 : Int) ≤ r.toInt ∧ r.toInt ≤ 255)) := by
  refine ac_Mi.of (cc := cX12_roots) (maxL := 5) (ret := (some .int)) (by decide) rfl (Nat.le_of_ble_eq_true rfl) ?_
  intro p e s m below meth c A ls F hml hr hlocks hA hP hD hS hl
  have F : ac_X p s m [.ref (ad 85)].toArray c cX12_roots RX12 TB (dC, dI) vwCl (ac_ty cA) := ⟨F.1, F.2.1, fun w h => F.2.2.1 w (List.mem_cons_of_mem _ h), F.2.2.2.1, F.2.2.2.2⟩
  have hl : lv_has ls 5 [(0, .ref (ad 85))] := hl
  have hF : ac_Fr [(85, some 0)] u0 u0 := ac_Fr.rf
  have L9 : ∀ (n9 : Nat) (x1 : Int32) (x2 : Int32) (u : ac_U) (H : Heap) (locs : List Loc) (ls : Array Slot), ac_R rg u → ac_Fr [(85, some 0)] u0 u → 256 - x2.toInt < (n9 : Int) → (-1 : Int) ≤ x1.toInt ∧ x1.toInt ≤ 255 → (0 : Int) ≤ x2.toInt ∧ x2.toInt ≤ 256 → (0 : Int) ≤ (u.1 85 0).toInt ∧ (u.1 85 0).toInt ≤ 0 → va_P (dC, dI) vwCl (ac_w ad cA (TT nF) u) H → va_D A (ac_w ad cA (TT nF) u) → va_S A s.heap H locs → lv_has ls 5 [(0, .ref (ad 85)), (1, .int x1), (2, .int x2)] → W p l e (ac_rm 3) s m [.ref (ad 85)].toArray below meth c H locs 0 0 (MQ below (va_Qi (fun (r : Int32) (u : ac_U) => ac_R rg u ∧ ac_Fr [(85, some 0)] u0 u ∧ ((-1 : Int) ≤ r.toInt ∧ r.toInt ≤ 255)) (ac_B (dC, dI) vwCl (ac_ty cA) ad cA (TT nF) A) A) [.ref (ad 85)].toArray s 0 0 A) (F0 m 9 ls []) := by
    intro n9
    induction n9 with
    | zero => intro x1 x2 u H locs ls hR hF hn9 f0 f1 f2 hP hD hS hl; exfalso; omega
    | succ n9 ih9 =>
      intro x1 x2 u H locs ls hR hF hn9 f0 f1 f2 hP hD hS hl
      have L99 : ∀ (x1 : Int32) (x2 : Int32) (u : ac_U) (H : Heap) (locs : List Loc) (ls : Array Slot), ac_R rg u → ac_Fr [(85, some 0)] u0 u → (-1 : Int) ≤ x1.toInt ∧ x1.toInt ≤ 255 → (0 : Int) ≤ x2.toInt ∧ x2.toInt ≤ 255 → (0 : Int) ≤ (u.1 85 0).toInt ∧ (u.1 85 0).toInt ≤ 0 → 256 - x2.toInt + 0 < ((n9 : Nat) : Int) + 1 → va_P (dC, dI) vwCl (ac_w ad cA (TT nF) u) H → va_D A (ac_w ad cA (TT nF) u) → va_S A s.heap H locs → lv_has ls 5 [(0, .ref (ad 85)), (1, .int x1), (2, .int x2)] → W p l e (ac_rm 3) s m [.ref (ad 85)].toArray below meth c H locs 0 0 (MQ below (va_Qi (fun (r : Int32) (u : ac_U) => ac_R rg u ∧ ac_Fr [(85, some 0)] u0 u ∧ ((-1 : Int) ≤ r.toInt ∧ r.toInt ≤ 255)) (ac_B (dC, dI) vwCl (ac_ty cA) ad cA (TT nF) A) A) [.ref (ad 85)].toArray s 0 0 A) (F0 m 99 ls []) := by
        intro x1 x2 u H locs ls hR hF f0 f1 f2 f3 hP hD hS hl
        refine a_iinc F (k := 2) (fun v1 => [(2, .int v1), (0, .ref (ad 85)), (1, .int x1)]) dX12_roots_99 hl rfl rfl (by decide) (by omega) (by decide) (fun _ => rfl) (fun v1 ls hv1 hl => ?_)
        refine lv_goto (tgt := 9) F.1 F.2.1 dX12_roots_102 (by decide) ?_
        have g2 : (0 : Int) ≤ (u.1 85 0).toInt ∧ (u.1 85 0).toInt ≤ 1 := hR 85 0
        exact ih9 x1 v1 _ _ _ _ hR hF (by omega) (by omega) (by omega) (by omega : (0 : Int) ≤ (u.1 85 0).toInt ∧ (u.1 85 0).toInt ≤ 0) hP hD hS (lv_sub hl [1, 2, 0] rfl)
      have L97 : ∀ (x2 : Int32) (u : ac_U) (H : Heap) (locs : List Loc) (ls : Array Slot), ac_R rg u → ac_Fr [(85, some 0)] u0 u → (0 : Int) ≤ x2.toInt ∧ x2.toInt ≤ 255 → (0 : Int) ≤ (u.1 85 0).toInt ∧ (u.1 85 0).toInt ≤ 0 → 256 - x2.toInt + 0 < ((n9 : Nat) : Int) + 1 → va_P (dC, dI) vwCl (ac_w ad cA (TT nF) u) H → va_D A (ac_w ad cA (TT nF) u) → va_S A s.heap H locs → lv_has ls 5 [(0, .ref (ad 85)), (2, .int x2)] → W p l e (ac_rm 3) s m [.ref (ad 85)].toArray below meth c H locs 0 0 (MQ below (va_Qi (fun (r : Int32) (u : ac_U) => ac_R rg u ∧ ac_Fr [(85, some 0)] u0 u ∧ ((-1 : Int) ≤ r.toInt ∧ r.toInt ≤ 255)) (ac_B (dC, dI) vwCl (ac_ty cA) ad cA (TT nF) A) A) [.ref (ad 85)].toArray s 0 0 A) (F0 m 97 ls []) := by
        intro x2 u H locs ls hR hF f0 f1 f2 hP hD hS hl
        refine lv_iload_n F.1 F.2.1 dX12_roots_97 rfl (lv_at hl 1 rfl) ?_
        refine lv_istore_n (lv' := [(1, .int x2), (0, .ref (ad 85)), (2, .int x2)]) F.1 F.2.1 dX12_roots_98 rfl hl (by decide) rfl (fun ls hl => ?_)
        have g3 : (0 : Int) ≤ (u.1 85 0).toInt ∧ (u.1 85 0).toInt ≤ 1 := hR 85 0
        exact L99 x2 x2 _ _ _ _ hR hF (by omega) (by omega) (by omega : (0 : Int) ≤ (u.1 85 0).toInt ∧ (u.1 85 0).toInt ≤ 0) (by omega) hP hD hS (lv_sub hl [1, 0, 2] rfl)
      have L27 : ∀ (n27 : Nat) (x1 : Int32) (x2 : Int32) (x3 : Int32) (x4 : Int32) (u : ac_U) (H : Heap) (locs : List Loc) (ls : Array Slot), ac_R rg u → ac_Fr [(85, some 0)] u0 u → 8 - x4.toInt < (n27 : Int) → (-1 : Int) ≤ x1.toInt ∧ x1.toInt ≤ 255 → (0 : Int) ≤ x2.toInt ∧ x2.toInt ≤ 255 → (0 : Int) ≤ x4.toInt ∧ x4.toInt ≤ 8 → (0 : Int) ≤ (u.1 85 0).toInt ∧ (u.1 85 0).toInt ≤ 0 → 256 - x2.toInt + 0 < ((n9 : Nat) : Int) + 1 → va_P (dC, dI) vwCl (ac_w ad cA (TT nF) u) H → va_D A (ac_w ad cA (TT nF) u) → va_S A s.heap H locs → lv_has ls 5 [(0, .ref (ad 85)), (1, .int x1), (2, .int x2), (3, .int x3), (4, .int x4)] → W p l e (ac_rm 3) s m [.ref (ad 85)].toArray below meth c H locs 0 0 (MQ below (va_Qi (fun (r : Int32) (u : ac_U) => ac_R rg u ∧ ac_Fr [(85, some 0)] u0 u ∧ ((-1 : Int) ≤ r.toInt ∧ r.toInt ≤ 255)) (ac_B (dC, dI) vwCl (ac_ty cA) ad cA (TT nF) A) A) [.ref (ad 85)].toArray s 0 0 A) (F0 m 27 ls []) := by
        intro n27
        induction n27 with
        | zero => intro x1 x2 x3 x4 u H locs ls hR hF hn27 f0 f1 f2 f3 f4 hP hD hS hl; exfalso; omega
        | succ n27 ih27 =>
          intro x1 x2 x3 x4 u H locs ls hR hF hn27 f0 f1 f2 f3 f4 hP hD hS hl
          have L59 : ∀ (x1 : Int32) (x2 : Int32) (x4 : Int32) (z0 : Int32) (z1 : Int32) (u : ac_U) (H : Heap) (locs : List Loc) (ls : Array Slot), ac_R rg u → ac_Fr [(85, some 0)] u0 u → (-1 : Int) ≤ x1.toInt ∧ x1.toInt ≤ 255 → (0 : Int) ≤ x2.toInt ∧ x2.toInt ≤ 255 → (0 : Int) ≤ x4.toInt ∧ x4.toInt ≤ 7 → (0 : Int) ≤ (u.1 85 0).toInt ∧ (u.1 85 0).toInt ≤ 0 → (1 : Int) ≤ (u.1 87 6).toInt ∧ (u.1 87 6).toInt ≤ 8 → 256 - x2.toInt + 0 < ((n9 : Nat) : Int) + 1 → 8 - x4.toInt + 0 < ((n27 : Nat) : Int) + 1 → va_P (dC, dI) vwCl (ac_w ad cA (TT nF) u) H → va_D A (ac_w ad cA (TT nF) u) → va_S A s.heap H locs → lv_has ls 5 [(0, .ref (ad 85)), (1, .int x1), (2, .int x2), (4, .int x4)] → W p l e (ac_rm 3) s m [.ref (ad 85)].toArray below meth c H locs 0 0 (MQ below (va_Qi (fun (r : Int32) (u : ac_U) => ac_R rg u ∧ ac_Fr [(85, some 0)] u0 u ∧ ((-1 : Int) ≤ r.toInt ∧ r.toInt ≤ 255)) (ac_B (dC, dI) vwCl (ac_ty cA) ad cA (TT nF) A) A) [.ref (ad 85)].toArray s 0 0 A) (F0 m 59 ls [.int z1, .int z0]) := by
            intro x1 x2 x4 z0 z1 u H locs ls hR hF f0 f1 f2 f3 f4 f5 f6 hP hD hS hl
            refine a_iorU F dX12_roots_59 (fun v4 => ?_)
            refine lv_istore_n (lv' := [(3, .int v4), (0, .ref (ad 85)), (1, .int x1), (2, .int x2), (4, .int x4)]) F.1 F.2.1 dX12_roots_60 rfl hl (by decide) rfl (fun ls hl => ?_)
            refine a_iinc F (k := 4) (fun v5 => [(4, .int v5), (3, .int v4), (0, .ref (ad 85)), (1, .int x1), (2, .int x2)]) dX12_roots_61 hl rfl rfl (by decide) (by omega) (by decide) (fun _ => rfl) (fun v5 ls hv5 hl => ?_)
            refine lv_goto (tgt := 27) F.1 F.2.1 dX12_roots_64 (by decide) ?_
            have g6 : (0 : Int) ≤ (u.1 85 0).toInt ∧ (u.1 85 0).toInt ≤ 1 := hR 85 0
            exact ih27 x1 x2 v4 v5 _ _ _ _ hR hF (by omega) (by omega) (by omega) (by omega) (by omega : (0 : Int) ≤ (u.1 85 0).toInt ∧ (u.1 85 0).toInt ≤ 0) (by omega) hP hD hS (lv_sub hl [2, 3, 4, 1, 0] rfl)
          refine lv_iload F.1 F.2.1 dX12_roots_27 (lv_at hl 4 rfl) ?_
          refine lv_aload_n F.1 F.2.1 dX12_roots_29 rfl (lv_at hl 0 rfl) ?_
          refine a_getr F inX12 hP 85 6 tc_85 rfl rfl (by decide) q1477 (fun _ h9 => h9) dX12_roots_30 ?_
          refine a_bp F (6 : Int32) dX12_roots_33 (by decide) ?_
          have g7 : (0 : Int) ≤ (u.1 87 6).toInt ∧ (u.1 87 6).toInt ≤ 8 := hR 87 6
          refine a_ialdK F hP 87 6 tc_87 rfl rfl (i_in ic_6 (by omega)) (v := (u.1 87 6)) rfl dX12_roots_35 ?_
          refine b_ge F 67 dX12_roots_36 (by decide) rfl rfl (fun c8 => ?_) (fun c8 => ?_)
          · refine lv_iload_n F.1 F.2.1 dX12_roots_67 rfl (lv_at hl 3 rfl) ?_
            refine a_ic F (1 : Int32) dX12_roots_68 (by decide) ?_
            refine lv_aload_n F.1 F.2.1 dX12_roots_69 rfl (lv_at hl 0 rfl) ?_
            refine a_getr F inX12 hP 85 6 tc_85 rfl rfl (by decide) q1477 (fun _ h9 => h9) dX12_roots_70 ?_
            refine a_bp F (6 : Int32) dX12_roots_73 (by decide) ?_
            refine a_ialdK F hP 87 6 tc_87 rfl rfl (i_in ic_6 (by omega)) (v := (u.1 87 6)) (rfl) dX12_roots_75 ?_
            refine a_ishl1 F dX12_roots_76 rfl (lo := 0) (hi := 8) (by omega) (by decide) (fun v9 hv9 => ?_)
            have hv9 : (1 : Int) ≤ v9.toInt ∧ v9.toInt ≤ 256 := hv9
            refine a_ic F (1 : Int32) dX12_roots_77 (by decide) ?_
            refine a_isub F dX12_roots_78 rfl ic_1 (by omega) (fun v10 hv10 => ?_)
            refine b_ne F 99 dX12_roots_79 (by decide) rfl rfl (fun c11 => ?_) (fun c11 => ?_)
            · have g12 : (0 : Int) ≤ (u.1 85 0).toInt ∧ (u.1 85 0).toInt ≤ 1 := hR 85 0
              exact L99 x1 x2 _ _ _ _ hR hF (by omega) (by omega) (by omega : (0 : Int) ≤ (u.1 85 0).toInt ∧ (u.1 85 0).toInt ≤ 0) (by omega) hP hD hS (lv_sub hl [0, 1, 2] rfl)
            · refine lv_iload_n F.1 F.2.1 dX12_roots_82 rfl (lv_at hl 1 rfl) ?_
              refine z_lt F 97 dX12_roots_83 (by decide) rfl (fun c13 => ?_) (fun c13 => ?_)
              · have g14 : (0 : Int) ≤ (u.1 85 0).toInt ∧ (u.1 85 0).toInt ≤ 1 := hR 85 0
                exact L97 x2 _ _ _ _ hR hF (by omega) (by omega : (0 : Int) ≤ (u.1 85 0).toInt ∧ (u.1 85 0).toInt ≤ 0) (by omega) hP hD hS (lv_sub hl [0, 2] rfl)
              · refine lv_iload_n F.1 F.2.1 dX12_roots_86 rfl (lv_at hl 2 rfl) ?_
                refine a_Si F hml hl.1 hA hP hD hS (As := [.int x2]) (c_X12_bits l dC dI ad cA nF _ x2 hR (by omega)) (cs_RX12_348 (d := 1) F.2.2.1 (by decide)) rfl rfl (Nat.le_of_ble_eq_true rfl) dX12_roots_87 ⟨Nat.le_refl 0, Nat.le_refl 0⟩ (fun r15 uN15 H locs hq hP hD hS => ?_)
                have hu15 := hq
                rw [hu15] at hP hD
                refine lv_iload_n F.1 F.2.1 dX12_roots_90 rfl (lv_at hl 1 rfl) ?_
                refine a_Si F hml hl.1 hA hP hD hS (As := [.int x1]) (c_X12_bits l dC dI ad cA nF _ x1 hR (by omega)) (cs_RX12_348 (d := 1) F.2.2.1 (by decide)) rfl rfl (Nat.le_of_ble_eq_true rfl) dX12_roots_91 ⟨Nat.le_refl 0, Nat.le_refl 0⟩ (fun r16 uN16 H locs hq hP hD hS => ?_)
                have hu16 := hq
                rw [hu16] at hP hD
                refine b_ge F 99 dX12_roots_94 (by decide) rfl rfl (fun c17 => ?_) (fun c17 => ?_)
                · have g18 : (0 : Int) ≤ (u.1 85 0).toInt ∧ (u.1 85 0).toInt ≤ 1 := hR 85 0
                  exact L99 x1 x2 _ _ _ _ hR hF (by omega) (by omega) (by omega : (0 : Int) ≤ (u.1 85 0).toInt ∧ (u.1 85 0).toInt ≤ 0) (by omega) hP hD hS (lv_sub hl [0, 1, 2] rfl)
                · have g19 : (0 : Int) ≤ (u.1 85 0).toInt ∧ (u.1 85 0).toInt ≤ 1 := hR 85 0
                  exact L97 x2 _ _ _ _ hR hF (by omega) (by omega : (0 : Int) ≤ (u.1 85 0).toInt ∧ (u.1 85 0).toInt ≤ 0) (by omega) hP hD hS (lv_sub hl [0, 2] rfl)
          · refine lv_iload_n F.1 F.2.1 dX12_roots_39 rfl (lv_at hl 3 rfl) ?_
            refine lv_iload_n F.1 F.2.1 dX12_roots_40 rfl (lv_at hl 2 rfl) ?_
            refine lv_iload F.1 F.2.1 dX12_roots_41 (lv_at hl 4 rfl) ?_
            refine a_Si F hml hl.1 hA hP hD hS (As := [.int x2, .int x4]) (c_X12_bitOf l dC dI ad cA nF _ x2 x4 hR) (cs_RX12_223 (d := 1) F.2.2.1 (by decide)) rfl rfl (Nat.le_of_ble_eq_true rfl) dX12_roots_43 ⟨Nat.le_refl 0, Nat.le_refl 0⟩ (fun r20 uN20 H locs hq hP hD hS => ?_)
            obtain ⟨hu20, gr20⟩ := hq
            rw [hu20] at hP hD
            refine z_eq F 58 dX12_roots_46 (by decide) rfl (fun c21 => ?_) (fun c21 => ?_)
            · refine a_ic F (0 : Int32) dX12_roots_58 (by decide) ?_
              have g22 : (0 : Int) ≤ (u.1 85 0).toInt ∧ (u.1 85 0).toInt ≤ 1 := hR 85 0
              exact L59 x1 x2 x4 x3 (0 : Int32) _ _ _ _ hR hF (by omega) (by omega) (by omega) (by omega : (0 : Int) ≤ (u.1 85 0).toInt ∧ (u.1 85 0).toInt ≤ 0) (by omega : (1 : Int) ≤ (u.1 87 6).toInt ∧ (u.1 87 6).toInt ≤ 8) (by omega) (by omega) hP hD hS (lv_sub hl [0, 1, 2, 4] rfl)
            · refine lv_aload_n F.1 F.2.1 dX12_roots_49 rfl (lv_at hl 0 rfl) ?_
              refine lv_iload F.1 F.2.1 dX12_roots_50 (lv_at hl 4 rfl) ?_
              refine a_Vi F hml hl.1 hA hP hD hS (As := [.int x4]) (c_X12_chainOf_85 l dC dI ad cA nF _ x4 hR) (cs_RX12_363 (d := 2) F.2.2.1 (by decide)) tc_85 rfl rfl rfl rfl (Nat.le_of_ble_eq_true rfl) dX12_roots_52 ⟨Nat.le_refl 0, Nat.le_refl 0⟩ (fun r23 uN23 H locs hq hP hD hS => ?_)
              have hu23 := hq
              rw [hu23] at hP hD
              refine lv_goto (tgt := 59) F.1 F.2.1 dX12_roots_55 (by decide) ?_
              have g24 : (0 : Int) ≤ (u.1 85 0).toInt ∧ (u.1 85 0).toInt ≤ 1 := hR 85 0
              exact L59 x1 x2 x4 x3 r23 _ _ _ _ hR hF (by omega) (by omega) (by omega) (by omega : (0 : Int) ≤ (u.1 85 0).toInt ∧ (u.1 85 0).toInt ≤ 0) (by omega : (1 : Int) ≤ (u.1 87 6).toInt ∧ (u.1 87 6).toInt ≤ 8) (by omega) (by omega) hP hD hS (lv_sub hl [0, 1, 2, 4] rfl)
      refine lv_iload_n F.1 F.2.1 dX12_roots_9 rfl (lv_at hl 2 rfl) ?_
      refine a_ic F (1 : Int32) dX12_roots_10 (by decide) ?_
      refine lv_aload_n F.1 F.2.1 dX12_roots_11 rfl (lv_at hl 0 rfl) ?_
      refine a_getr F inX12 hP 85 6 tc_85 rfl rfl (by decide) q1477 (fun _ h9 => h9) dX12_roots_12 ?_
      refine a_bp F (6 : Int32) dX12_roots_15 (by decide) ?_
      have g25 : (0 : Int) ≤ (u.1 87 6).toInt ∧ (u.1 87 6).toInt ≤ 8 := hR 87 6
      refine a_ialdK F hP 87 6 tc_87 rfl rfl (i_in ic_6 (by omega)) (v := (u.1 87 6)) rfl dX12_roots_17 ?_
      refine a_ishl1 F dX12_roots_18 rfl (lo := 0) (hi := 8) (by omega) (by decide) (fun v26 hv26 => ?_)
      have hv26 : (1 : Int) ≤ v26.toInt ∧ v26.toInt ≤ 256 := hv26
      refine b_ge F 105 dX12_roots_19 (by decide) rfl rfl (fun c27 => ?_) (fun c27 => ?_)
      · refine lv_iload_n F.1 F.2.1 dX12_roots_105 rfl (lv_at hl 1 rfl) ?_
        exact a_reti F hr hlocks hP hD hS dX12_roots_106 ⟨hR, hF, (by omega : (-1 : Int) ≤ x1.toInt ∧ x1.toInt ≤ 255)⟩
      · refine a_ic F (0 : Int32) dX12_roots_22 (by decide) ?_
        refine lv_istore_n (lv' := [(3, .int (0 : Int32)), (0, .ref (ad 85)), (1, .int x1), (2, .int x2)]) F.1 F.2.1 dX12_roots_23 rfl hl (by decide) rfl (fun ls hl => ?_)
        refine a_ic F (0 : Int32) dX12_roots_24 (by decide) ?_
        refine lv_istore (lv' := [(4, .int (0 : Int32)), (3, .int (0 : Int32)), (0, .ref (ad 85)), (1, .int x1), (2, .int x2)]) F.1 F.2.1 dX12_roots_25 hl (by decide) rfl (fun ls hl => ?_)
        have g28 : (0 : Int) ≤ (u.1 85 0).toInt ∧ (u.1 85 0).toInt ≤ 1 := hR 85 0
        exact L27 10 x1 x2 (0 : Int32) (0 : Int32) _ _ _ _ hR hF (by decide) (by omega) (by omega) (by decide) (by omega : (0 : Int) ≤ (u.1 85 0).toInt ∧ (u.1 85 0).toInt ≤ 0) (by omega) hP hD hS (lv_sub hl [2, 3, 4, 1, 0] rfl)
  refine lv_aload_n F.1 F.2.1 dX12_roots_0 rfl (lv_at hl 0 rfl) ?_
  refine a_ic F (0 : Int32) dX12_roots_1 (by decide) ?_
  refine a_puti F inX12 tyX12 tyX12_ok nmX12 hP hD hS 85 0 tc_85 rfl rfl (by decide) q1471 (fun _ h9 => h9) rfl (ty := .int) (tyX12_ok 0 (by decide)) rfl rfl dX12_roots_2 (fun H locs hP hD hS => ?_)
  have hR := hR.si (c := 85) (k := 0) (v := (0 : Int32)) (by rw [ic_0]; exact (by omega : (0 : Int) ≤ (0 : Int) ∧ (0 : Int) ≤ 1))
  have hF := hF.si (c := 85) (k := 0) (v := (0 : Int32)) rfl
  refine a_ic F (-1 : Int32) dX12_roots_5 (by decide) ?_
  refine lv_istore_n (lv' := [(1, .int (-1 : Int32)), (0, .ref (ad 85))]) F.1 F.2.1 dX12_roots_6 rfl hl (by decide) rfl (fun ls hl => ?_)
  refine a_ic F (0 : Int32) dX12_roots_7 (by decide) ?_
  refine lv_istore_n (lv' := [(2, .int (0 : Int32)), (1, .int (-1 : Int32)), (0, .ref (ad 85))]) F.1 F.2.1 dX12_roots_8 rfl hl (by decide) rfl (fun ls hl => ?_)
  exact L9 258 (-1 : Int32) (0 : Int32) _ _ _ _ hR hF (by decide) (by decide) (by decide) (by omega : (0 : Int) ≤ (0 : Int) ∧ (0 : Int) ≤ 0) hP hD hS (lv_sub hl [2, 1, 0] rfl)
set_option maxHeartbeats 600000 in
set_option maxRecDepth 100000 in
theorem c_X12_shortest_85 (l : Launch) (dC : Nat → ClassId) (dI : Nat → Nat → Nat) (ad : Nat → Nat) (cA : Nat → ClassId) (nF : Nat) (u0 : ac_U) (p0 : Int32) (p1 : Int32) (p2 : Int32) (hR : ac_R rg u0) : ac_Mi l yX12_shortest (.code yX12_shortest cX12_shortest 4 (some .int) :: TB) 4 (dC, dI) vwCl (ac_ty cA) ad cA (TT nF) [.ref (ad 85), .int p0, .int p1, .int p2] u0 (fun (r : Int32) (u : ac_U) => ac_R rg u ∧ ac_Fr [(85, some 0), (85, some 32), (85, some 33)] u0 u) := by
  refine ac_Mi.of (cc := cX12_shortest) (maxL := 4) (ret := (some .int)) (by decide) rfl (Nat.le_of_ble_eq_true rfl) ?_
  intro p e s m below meth c A ls F hml hr hlocks hA hP hD hS hl
  have F : ac_X p s m [.ref (ad 85), .int p0, .int p1, .int p2].toArray c cX12_shortest RX12 TB (dC, dI) vwCl (ac_ty cA) := ⟨F.1, F.2.1, fun w h => F.2.2.1 w (List.mem_cons_of_mem _ h), F.2.2.2.1, F.2.2.2.2⟩
  have hl : lv_has ls 4 [(0, .ref (ad 85)), (1, .int p0), (2, .int p1), (3, .int p2)] := hl
  have hF : ac_Fr [(85, some 0), (85, some 32), (85, some 33)] u0 u0 := ac_Fr.rf
  refine lv_aload_n F.1 F.2.1 dX12_shortest_0 rfl (lv_at hl 0 rfl) ?_
  refine a_ic F (0 : Int32) dX12_shortest_1 (by decide) ?_
  refine a_puti F inX12 tyX12 tyX12_ok nmX12 hP hD hS 85 0 tc_85 rfl rfl (by decide) q1471 (fun _ h9 => h9) rfl (ty := .int) (tyX12_ok 0 (by decide)) rfl rfl dX12_shortest_2 (fun H locs hP hD hS => ?_)
  have hR := hR.si (c := 85) (k := 0) (v := (0 : Int32)) (by rw [ic_0]; exact (by omega : (0 : Int) ≤ (0 : Int) ∧ (0 : Int) ≤ 1))
  have hF := hF.si (c := 85) (k := 0) (v := (0 : Int32)) rfl
  refine lv_aload_n F.1 F.2.1 dX12_shortest_5 rfl (lv_at hl 0 rfl) ?_
  refine lv_iload_n F.1 F.2.1 dX12_shortest_6 rfl (lv_at hl 1 rfl) ?_
  refine lv_iload_n F.1 F.2.1 dX12_shortest_7 rfl (lv_at hl 2 rfl) ?_
  refine lv_iload_n F.1 F.2.1 dX12_shortest_8 rfl (lv_at hl 3 rfl) ?_
  refine a_Vi F hml hl.1 hA hP hD hS (As := [.int p0, .int p1, .int p2]) (c_X12_looksForWindows_85 l dC dI ad cA nF _ p0 p1 p2 hR) (cs_RX12_379 (d := 3) F.2.2.1 (by decide)) tc_85 rfl rfl rfl rfl (Nat.le_of_ble_eq_true rfl) dX12_shortest_9 ⟨Nat.le_refl 0, Nat.le_refl 0⟩ (fun r1 u1 H locs hq hP hD hS => ?_)
  obtain ⟨hR, hF1, gr1⟩ := hq
  have hF := hF.tr hF1 (by decide)
  refine z_eq F 22 dX12_shortest_12 (by decide) rfl (fun c2 => ?_) (fun c2 => ?_)
  · refine a_ic F (-1 : Int32) dX12_shortest_22 (by decide) ?_
    exact a_reti F hr hlocks hP hD hS dX12_shortest_23 ⟨hR, hF⟩
  · refine lv_aload_n F.1 F.2.1 dX12_shortest_15 rfl (lv_at hl 0 rfl) ?_
    refine a_geti F inX12 hP 85 33 tc_85 rfl rfl (by decide) q1504 (fun _ h9 => h9) (v := (u1.1 85 33)) rfl dX12_shortest_16 ?_
    refine lv_goto (tgt := 23) F.1 F.2.1 dX12_shortest_19 (by decide) ?_
    exact a_reti F hr hlocks hP hD hS dX12_shortest_23 ⟨hR, hF⟩
set_option maxHeartbeats 600000 in
set_option maxRecDepth 100000 in
theorem c_X12_status_85 (l : Launch) (dC : Nat → ClassId) (dI : Nat → Nat → Nat) (ad : Nat → Nat) (cA : Nat → ClassId) (nF : Nat) (u0 : ac_U) (p0 : Int32) (p1 : Int32) (hR : ac_R rg u0) : ac_Mi l yX12_status (.code yX12_status cX12_status 3 (some .int) :: TB) 7 (dC, dI) vwCl (ac_ty cA) ad cA (TT nF) [.ref (ad 85), .int p0, .int p1] u0 (fun (r : Int32) (u : ac_U) => ac_R rg u ∧ ac_Fr [(85, some 0)] u0 u ∧ ((-1 : Int) ≤ r.toInt ∧ r.toInt ≤ 4)) := by
  refine ac_Mi.of (cc := cX12_status) (maxL := 3) (ret := (some .int)) (by decide) rfl (Nat.le_of_ble_eq_true rfl) ?_
  intro p e s m below meth c A ls F hml hr hlocks hA hP hD hS hl
  have F : ac_X p s m [.ref (ad 85), .int p0, .int p1].toArray c cX12_status RX12 TB (dC, dI) vwCl (ac_ty cA) := ⟨F.1, F.2.1, fun w h => F.2.2.1 w (List.mem_cons_of_mem _ h), F.2.2.2.1, F.2.2.2.2⟩
  have hl : lv_has ls 3 [(0, .ref (ad 85)), (1, .int p0), (2, .int p1)] := hl
  have hF : ac_Fr [(85, some 0)] u0 u0 := ac_Fr.rf
  refine lv_aload_n F.1 F.2.1 dX12_status_0 rfl (lv_at hl 0 rfl) ?_
  refine a_ic F (0 : Int32) dX12_status_1 (by decide) ?_
  refine a_puti F inX12 tyX12 tyX12_ok nmX12 hP hD hS 85 0 tc_85 rfl rfl (by decide) q1471 (fun _ h9 => h9) rfl (ty := .int) (tyX12_ok 0 (by decide)) rfl rfl dX12_status_2 (fun H locs hP hD hS => ?_)
  have hR := hR.si (c := 85) (k := 0) (v := (0 : Int32)) (by rw [ic_0]; exact (by omega : (0 : Int) ≤ (0 : Int) ∧ (0 : Int) ≤ 1))
  have hF := hF.si (c := 85) (k := 0) (v := (0 : Int32)) rfl
  refine lv_aload_n F.1 F.2.1 dX12_status_5 rfl (lv_at hl 0 rfl) ?_
  refine lv_iload_n F.1 F.2.1 dX12_status_6 rfl (lv_at hl 1 rfl) ?_
  refine lv_iload_n F.1 F.2.1 dX12_status_7 rfl (lv_at hl 2 rfl) ?_
  refine a_Vi F hml hl.1 hA hP hD hS (As := [.int p0, .int p1]) (c_X12_isReading_85 l dC dI ad cA nF _ p0 p1 hR) (cs_RX12_317 (d := 3) F.2.2.1 (by decide)) tc_85 rfl rfl rfl rfl (Nat.le_of_ble_eq_true rfl) dX12_status_8 ⟨Nat.le_refl 0, Nat.le_refl 0⟩ (fun r1 uN1 H locs hq hP hD hS => ?_)
  obtain ⟨hu1, gr1, xr1⟩ := hq
  rw [hu1] at hP hD
  have xr1 : r1.toInt ≠ 0 → 0 ≤ p0.toInt ∧ p0.toInt ≤ 7 ∧ 0 ≤ p1.toInt ∧ p1.toInt ≤ 7 := xr1
  refine z_eq F 23 dX12_status_11 (by decide) rfl (fun c2 => ?_) (fun c2 => ?_)
  · refine a_ic F (-1 : Int32) dX12_status_23 (by decide) ?_
    exact a_reti F hr hlocks hP hD hS dX12_status_24 ⟨hR, hF, (by decide)⟩
  · refine lv_aload_n F.1 F.2.1 dX12_status_14 rfl (lv_at hl 0 rfl) ?_
    refine lv_iload_n F.1 F.2.1 dX12_status_15 rfl (lv_at hl 1 rfl) ?_
    refine lv_iload_n F.1 F.2.1 dX12_status_16 rfl (lv_at hl 2 rfl) ?_
    refine a_Vi F hml hl.1 hA hP hD hS (As := [.int p0, .int p1]) (c_X12_statusOf_85 l dC dI ad cA nF _ p0 p1 hR (by omega) (by omega)) (cs_RX12_257 (d := 6) F.2.2.1 (by decide)) tc_85 rfl rfl rfl rfl (Nat.le_of_ble_eq_true rfl) dX12_status_17 ⟨Nat.le_refl 0, Nat.le_refl 0⟩ (fun r3 uN3 H locs hq hP hD hS => ?_)
    obtain ⟨hu3, gr3⟩ := hq
    rw [hu3] at hP hD
    refine lv_goto (tgt := 24) F.1 F.2.1 dX12_status_20 (by decide) ?_
    exact a_reti F hr hlocks hP hD hS dX12_status_24 ⟨hR, hF, (by omega : (-1 : Int) ≤ r3.toInt ∧ r3.toInt ≤ 4)⟩
set_option maxHeartbeats 600000 in
set_option maxRecDepth 100000 in
theorem c_X12_step_85 (l : Launch) (dC : Nat → ClassId) (dI : Nat → Nat → Nat) (ad : Nat → Nat) (cA : Nat → ClassId) (nF : Nat) (u0 : ac_U) (p0 : Int32) (hR : ac_R rg u0) : ac_Mi l yX12_step (.code yX12_step cX12_step 2 (some .int) :: TB) 1 (dC, dI) vwCl (ac_ty cA) ad cA (TT nF) [.ref (ad 85), .int p0] u0 (fun (r : Int32) (u : ac_U) => ac_R rg u ∧ ac_Fr [(85, some 0)] u0 u) := by
  refine ac_Mi.of (cc := cX12_step) (maxL := 2) (ret := (some .int)) (by decide) rfl (Nat.le_of_ble_eq_true rfl) ?_
  intro p e s m below meth c A ls F hml hr hlocks hA hP hD hS hl
  have F : ac_X p s m [.ref (ad 85), .int p0].toArray c cX12_step RX12 TB (dC, dI) vwCl (ac_ty cA) := ⟨F.1, F.2.1, fun w h => F.2.2.1 w (List.mem_cons_of_mem _ h), F.2.2.2.1, F.2.2.2.2⟩
  have hl : lv_has ls 2 [(0, .ref (ad 85)), (1, .int p0)] := hl
  have hF : ac_Fr [(85, some 0)] u0 u0 := ac_Fr.rf
  have L30 : ∀ (u : ac_U) (H : Heap) (locs : List Loc) (ls : Array Slot), ac_R rg u → ac_Fr [(85, some 0)] u0 u → (0 : Int) ≤ (u.1 85 0).toInt ∧ (u.1 85 0).toInt ≤ 0 → va_P (dC, dI) vwCl (ac_w ad cA (TT nF) u) H → va_D A (ac_w ad cA (TT nF) u) → va_S A s.heap H locs → lv_has ls 2 [] → W p l e (ac_rm 1) s m [.ref (ad 85), .int p0].toArray below meth c H locs 0 0 (MQ below (va_Qi (fun (r : Int32) (u : ac_U) => ac_R rg u ∧ ac_Fr [(85, some 0)] u0 u) (ac_B (dC, dI) vwCl (ac_ty cA) ad cA (TT nF) A) A) [.ref (ad 85), .int p0].toArray s 0 0 A) (F0 m 30 ls []) := by
    intro u H locs ls hR hF f0 hP hD hS hl
    refine a_ic F (-1 : Int32) dX12_step_30 (by decide) ?_
    exact a_reti F hr hlocks hP hD hS dX12_step_31 ⟨hR, hF⟩
  refine lv_aload_n F.1 F.2.1 dX12_step_0 rfl (lv_at hl 0 rfl) ?_
  refine a_ic F (0 : Int32) dX12_step_1 (by decide) ?_
  refine a_puti F inX12 tyX12 tyX12_ok nmX12 hP hD hS 85 0 tc_85 rfl rfl (by decide) q1471 (fun _ h9 => h9) rfl (ty := .int) (tyX12_ok 0 (by decide)) rfl rfl dX12_step_2 (fun H locs hP hD hS => ?_)
  have hR := hR.si (c := 85) (k := 0) (v := (0 : Int32)) (by rw [ic_0]; exact (by omega : (0 : Int) ≤ (0 : Int) ∧ (0 : Int) ≤ 1))
  have hF := hF.si (c := 85) (k := 0) (v := (0 : Int32)) rfl
  refine lv_iload_n F.1 F.2.1 dX12_step_5 rfl (lv_at hl 1 rfl) ?_
  refine lv_aload_n F.1 F.2.1 dX12_step_6 rfl (lv_at hl 0 rfl) ?_
  have g1 : (0 : Int) ≤ (u0.1 85 29).toInt ∧ (u0.1 85 29).toInt ≤ 23 := hR 85 29
  refine a_geti F inX12 hP 85 29 tc_85 rfl rfl (by decide) q1500 (fun _ h9 => h9) (v := (u0.1 85 29)) rfl dX12_step_7 ?_
  refine b_lt F 30 dX12_step_10 (by decide) rfl rfl (fun c2 => ?_) (fun c2 => ?_)
  · exact L30 _ _ _ _ hR hF (by omega : (0 : Int) ≤ (0 : Int) ∧ (0 : Int) ≤ 0) hP hD hS (lv_sub hl [] rfl)
  · refine lv_iload_n F.1 F.2.1 dX12_step_13 rfl (lv_at hl 1 rfl) ?_
    refine lv_aload_n F.1 F.2.1 dX12_step_14 rfl (lv_at hl 0 rfl) ?_
    have g3 : (0 : Int) ≤ (u0.1 85 30).toInt ∧ (u0.1 85 30).toInt ≤ 24 := hR 85 30
    refine a_geti F inX12 hP 85 30 tc_85 rfl rfl (by decide) q1501 (fun _ h9 => h9) (v := (u0.1 85 30)) rfl dX12_step_15 ?_
    refine b_ge F 30 dX12_step_18 (by decide) rfl rfl (fun c4 => ?_) (fun c4 => ?_)
    · exact L30 _ _ _ _ hR hF (by omega : (0 : Int) ≤ (0 : Int) ∧ (0 : Int) ≤ 0) hP hD hS (lv_sub hl [] rfl)
    · refine lv_aload_n F.1 F.2.1 dX12_step_21 rfl (lv_at hl 0 rfl) ?_
      refine a_getr F inX12 hP 85 27 tc_85 rfl rfl (by decide) q1498 (fun _ h9 => h9) dX12_step_22 ?_
      refine lv_iload_n F.1 F.2.1 dX12_step_25 rfl (lv_at hl 1 rfl) ?_
      refine a_iald F hP 97 tc_97 rfl (i_in rfl (by omega)) dX12_step_26 (fun v5 ev5 => ?_)
      refine lv_goto (tgt := 31) F.1 F.2.1 dX12_step_27 (by decide) ?_
      exact a_reti F hr hlocks hP hD hS dX12_step_31 ⟨hR, hF⟩
set_option maxHeartbeats 600000 in
set_option maxRecDepth 100000 in
theorem c_X12_way_85 (l : Launch) (dC : Nat → ClassId) (dI : Nat → Nat → Nat) (ad : Nat → Nat) (cA : Nat → ClassId) (nF : Nat) (u0 : ac_U) (p0 : Int32) (p1 : Int32) (hR : ac_R rg u0) : ac_Mi l yX12_way (.code yX12_way cX12_way 6 (some .int) :: TB) 3 (dC, dI) vwCl (ac_ty cA) ad cA (TT nF) [.ref (ad 85), .int p0, .int p1] u0 (fun (r : Int32) (u : ac_U) => ac_R rg u ∧ ac_Fr [(85, some 0), (92, none)] u0 u) := by
  refine ac_Mi.of (cc := cX12_way) (maxL := 6) (ret := (some .int)) (by decide) rfl (Nat.le_of_ble_eq_true rfl) ?_
  intro p e s m below meth c A ls F hml hr hlocks hA hP hD hS hl
  have F : ac_X p s m [.ref (ad 85), .int p0, .int p1].toArray c cX12_way RX12 TB (dC, dI) vwCl (ac_ty cA) := ⟨F.1, F.2.1, fun w h => F.2.2.1 w (List.mem_cons_of_mem _ h), F.2.2.2.1, F.2.2.2.2⟩
  have hl : lv_has ls 6 [(0, .ref (ad 85)), (1, .int p0), (2, .int p1)] := hl
  have hF : ac_Fr [(85, some 0), (92, none)] u0 u0 := ac_Fr.rf
  have L57 : ∀ (n57 : Nat) (x3 : Int32) (u : ac_U) (H : Heap) (locs : List Loc) (ls : Array Slot), ac_R rg u → ac_Fr [(85, some 0), (92, none)] u0 u → 8 - x3.toInt < (n57 : Int) → (0 : Int) ≤ p1.toInt ∧ p1.toInt ≤ 7 → (0 : Int) ≤ x3.toInt ∧ x3.toInt ≤ 8 → (0 : Int) ≤ (u.1 85 0).toInt ∧ (u.1 85 0).toInt ≤ 0 → va_P (dC, dI) vwCl (ac_w ad cA (TT nF) u) H → va_D A (ac_w ad cA (TT nF) u) → va_S A s.heap H locs → lv_has ls 6 [(0, .ref (ad 85)), (2, .int p1), (3, .int x3)] → W p l e (ac_rm 3) s m [.ref (ad 85), .int p0, .int p1].toArray below meth c H locs 0 0 (MQ below (va_Qi (fun (r : Int32) (u : ac_U) => ac_R rg u ∧ ac_Fr [(85, some 0), (92, none)] u0 u) (ac_B (dC, dI) vwCl (ac_ty cA) ad cA (TT nF) A) A) [.ref (ad 85), .int p0, .int p1].toArray s 0 0 A) (F0 m 57 ls []) := by
    intro n57
    induction n57 with
    | zero => intro x3 u H locs ls hR hF hn57 f0 f1 f2 hP hD hS hl; exfalso; omega
    | succ n57 ih57 =>
      intro x3 u H locs ls hR hF hn57 f0 f1 f2 hP hD hS hl
      have L66 : ∀ (n66 : Nat) (x3 : Int32) (x4 : Int32) (u : ac_U) (H : Heap) (locs : List Loc) (ls : Array Slot), ac_R rg u → ac_Fr [(85, some 0), (92, none)] u0 u → 8 - x4.toInt < (n66 : Int) → (0 : Int) ≤ p1.toInt ∧ p1.toInt ≤ 7 → (0 : Int) ≤ x3.toInt ∧ x3.toInt ≤ 7 → (0 : Int) ≤ x4.toInt ∧ x4.toInt ≤ 8 → (0 : Int) ≤ (u.1 85 0).toInt ∧ (u.1 85 0).toInt ≤ 0 → 8 - x3.toInt + 0 < ((n57 : Nat) : Int) + 1 → va_P (dC, dI) vwCl (ac_w ad cA (TT nF) u) H → va_D A (ac_w ad cA (TT nF) u) → va_S A s.heap H locs → lv_has ls 6 [(0, .ref (ad 85)), (2, .int p1), (3, .int x3), (4, .int x4)] → W p l e (ac_rm 3) s m [.ref (ad 85), .int p0, .int p1].toArray below meth c H locs 0 0 (MQ below (va_Qi (fun (r : Int32) (u : ac_U) => ac_R rg u ∧ ac_Fr [(85, some 0), (92, none)] u0 u) (ac_B (dC, dI) vwCl (ac_ty cA) ad cA (TT nF) A) A) [.ref (ad 85), .int p0, .int p1].toArray s 0 0 A) (F0 m 66 ls []) := by
        intro n66
        induction n66 with
        | zero => intro x3 x4 u H locs ls hR hF hn66 f0 f1 f2 f3 f4 hP hD hS hl; exfalso; omega
        | succ n66 ih66 =>
          intro x3 x4 u H locs ls hR hF hn66 f0 f1 f2 f3 f4 hP hD hS hl
          have L76 : ∀ (n76 : Nat) (x3 : Int32) (x4 : Int32) (x5 : Int32) (u : ac_U) (H : Heap) (locs : List Loc) (ls : Array Slot), ac_R rg u → ac_Fr [(85, some 0), (92, none)] u0 u → 8 - x5.toInt < (n76 : Int) → (0 : Int) ≤ p1.toInt ∧ p1.toInt ≤ 7 → (0 : Int) ≤ x3.toInt ∧ x3.toInt ≤ 7 → (0 : Int) ≤ x4.toInt ∧ x4.toInt ≤ 7 → (0 : Int) ≤ x5.toInt ∧ x5.toInt ≤ 8 → (0 : Int) ≤ (u.1 85 0).toInt ∧ (u.1 85 0).toInt ≤ 0 → 8 - x3.toInt + 0 < ((n57 : Nat) : Int) + 1 → 8 - x4.toInt + 0 < ((n66 : Nat) : Int) + 1 → va_P (dC, dI) vwCl (ac_w ad cA (TT nF) u) H → va_D A (ac_w ad cA (TT nF) u) → va_S A s.heap H locs → lv_has ls 6 [(0, .ref (ad 85)), (2, .int p1), (3, .int x3), (4, .int x4), (5, .int x5)] → W p l e (ac_rm 3) s m [.ref (ad 85), .int p0, .int p1].toArray below meth c H locs 0 0 (MQ below (va_Qi (fun (r : Int32) (u : ac_U) => ac_R rg u ∧ ac_Fr [(85, some 0), (92, none)] u0 u) (ac_B (dC, dI) vwCl (ac_ty cA) ad cA (TT nF) A) A) [.ref (ad 85), .int p0, .int p1].toArray s 0 0 A) (F0 m 76 ls []) := by
            intro n76
            induction n76 with
            | zero => intro x3 x4 x5 u H locs ls hR hF hn76 f0 f1 f2 f3 f4 f5 f6 hP hD hS hl; exfalso; omega
            | succ n76 ih76 =>
              intro x3 x4 x5 u H locs ls hR hF hn76 f0 f1 f2 f3 f4 f5 f6 hP hD hS hl
              have L136 : ∀ (x3 : Int32) (x4 : Int32) (x5 : Int32) (u : ac_U) (H : Heap) (locs : List Loc) (ls : Array Slot), ac_R rg u → ac_Fr [(85, some 0), (92, none)] u0 u → (0 : Int) ≤ p1.toInt ∧ p1.toInt ≤ 7 → (0 : Int) ≤ x3.toInt ∧ x3.toInt ≤ 7 → (0 : Int) ≤ x4.toInt ∧ x4.toInt ≤ 7 → (0 : Int) ≤ x5.toInt ∧ x5.toInt ≤ 7 → (0 : Int) ≤ (u.1 85 0).toInt ∧ (u.1 85 0).toInt ≤ 0 → 8 - x3.toInt + 0 < ((n57 : Nat) : Int) + 1 → 8 - x4.toInt + 0 < ((n66 : Nat) : Int) + 1 → 8 - x5.toInt + 0 < ((n76 : Nat) : Int) + 1 → va_P (dC, dI) vwCl (ac_w ad cA (TT nF) u) H → va_D A (ac_w ad cA (TT nF) u) → va_S A s.heap H locs → lv_has ls 6 [(0, .ref (ad 85)), (2, .int p1), (3, .int x3), (4, .int x4), (5, .int x5)] → W p l e (ac_rm 3) s m [.ref (ad 85), .int p0, .int p1].toArray below meth c H locs 0 0 (MQ below (va_Qi (fun (r : Int32) (u : ac_U) => ac_R rg u ∧ ac_Fr [(85, some 0), (92, none)] u0 u) (ac_B (dC, dI) vwCl (ac_ty cA) ad cA (TT nF) A) A) [.ref (ad 85), .int p0, .int p1].toArray s 0 0 A) (F0 m 136 ls []) := by
                intro x3 x4 x5 u H locs ls hR hF f0 f1 f2 f3 f4 f5 f6 f7 hP hD hS hl
                refine a_iinc F (k := 4) (fun v1 => [(5, .int v1), (0, .ref (ad 85)), (2, .int p1), (3, .int x3), (4, .int x4)]) dX12_way_136 hl rfl rfl (by decide) (by omega) (by decide) (fun _ => rfl) (fun v1 ls hv1 hl => ?_)
                refine lv_goto (tgt := 76) F.1 F.2.1 dX12_way_139 (by decide) ?_
                have g2 : (0 : Int) ≤ (u.1 85 0).toInt ∧ (u.1 85 0).toInt ≤ 1 := hR 85 0
                exact ih76 x3 x4 v1 _ _ _ _ hR hF (by omega) (by omega) (by omega) (by omega) (by omega) (by omega : (0 : Int) ≤ (u.1 85 0).toInt ∧ (u.1 85 0).toInt ≤ 0) (by omega) (by omega) hP hD hS (lv_sub hl [1, 2, 3, 4, 0] rfl)
              refine lv_iload F.1 F.2.1 dX12_way_76 (lv_at hl 4 rfl) ?_
              refine a_bp F (8 : Int32) dX12_way_78 (by decide) ?_
              refine b_ge F 142 dX12_way_80 (by decide) rfl ic_8 (fun c3 => ?_) (fun c3 => ?_)
              · refine a_iinc F (k := 3) (fun v4 => [(4, .int v4), (0, .ref (ad 85)), (2, .int p1), (3, .int x3), (5, .int x5)]) dX12_way_142 hl rfl rfl (by decide) (by omega) (by decide) (fun _ => rfl) (fun v4 ls hv4 hl => ?_)
                refine lv_goto (tgt := 66) F.1 F.2.1 dX12_way_145 (by decide) ?_
                have g5 : (0 : Int) ≤ (u.1 85 0).toInt ∧ (u.1 85 0).toInt ≤ 1 := hR 85 0
                exact ih66 x3 v4 _ _ _ _ hR hF (by omega) (by omega) (by omega) (by omega) (by omega : (0 : Int) ≤ (u.1 85 0).toInt ∧ (u.1 85 0).toInt ≤ 0) (by omega) hP hD hS (lv_sub hl [1, 2, 3, 0] rfl)
              · refine lv_aload_n F.1 F.2.1 dX12_way_83 rfl (lv_at hl 0 rfl) ?_
                refine a_getr F inX12 hP 85 6 tc_85 rfl rfl (by decide) q1477 (fun _ h9 => h9) dX12_way_84 ?_
                refine a_bp F (8 : Int32) dX12_way_87 (by decide) ?_
                refine lv_iload F.1 F.2.1 dX12_way_89 (lv_at hl 3 rfl) ?_
                refine a_iadd F dX12_way_91 ic_8 rfl (by omega) (fun v6 hv6 => ?_)
                refine a_iald F hP 87 tc_87 rfl (i_in rfl (by omega)) dX12_way_92 (fun v7 ev7 => ?_)
                refine lv_iload F.1 F.2.1 dX12_way_93 (lv_at hl 4 rfl) ?_
                refine a_Si F hml hl.1 hA hP hD hS (As := [.int v7, .int x5]) (c_X12_bitOf l dC dI ad cA nF _ v7 x5 hR) (cs_RX12_223 (d := 1) F.2.2.1 (by decide)) rfl rfl (Nat.le_of_ble_eq_true rfl) dX12_way_95 ⟨Nat.le_refl 0, Nat.le_refl 0⟩ (fun r8 uN8 H locs hq hP hD hS => ?_)
                obtain ⟨hu8, gr8⟩ := hq
                rw [hu8] at hP hD
                refine z_eq F 136 dX12_way_98 (by decide) rfl (fun c9 => ?_) (fun c9 => ?_)
                · have g10 : (0 : Int) ≤ (u.1 85 0).toInt ∧ (u.1 85 0).toInt ≤ 1 := hR 85 0
                  exact L136 x3 x4 x5 _ _ _ _ hR hF (by omega) (by omega) (by omega) (by omega) (by omega : (0 : Int) ≤ (u.1 85 0).toInt ∧ (u.1 85 0).toInt ≤ 0) (by omega) (by omega) (by omega) hP hD hS (lv_sub hl [0, 1, 2, 3, 4] rfl)
                · refine lv_aload_n F.1 F.2.1 dX12_way_101 rfl (lv_at hl 0 rfl) ?_
                  refine a_getr F inX12 hP 85 21 tc_85 rfl rfl (by decide) q1492 (fun _ h9 => h9) dX12_way_102 ?_
                  refine lv_iload F.1 F.2.1 dX12_way_105 (lv_at hl 3 rfl) ?_
                  refine a_iald F hP 92 tc_92 rfl (i_in rfl (by omega)) dX12_way_107 (fun v11 ev11 => ?_)
                  refine a_ic F (1 : Int32) dX12_way_108 (by decide) ?_
                  refine a_iaddU F dX12_way_109 (fun v12 => ?_)
                  refine lv_aload_n F.1 F.2.1 dX12_way_110 rfl (lv_at hl 0 rfl) ?_
                  refine a_getr F inX12 hP 85 21 tc_85 rfl rfl (by decide) q1492 (fun _ h9 => h9) dX12_way_111 ?_
                  refine lv_iload F.1 F.2.1 dX12_way_114 (lv_at hl 4 rfl) ?_
                  refine a_iald F hP 92 tc_92 rfl (i_in rfl (by omega)) dX12_way_116 (fun v13 ev13 => ?_)
                  refine b_ge F 136 dX12_way_117 (by decide) rfl rfl (fun c14 => ?_) (fun c14 => ?_)
                  · have g15 : (0 : Int) ≤ (u.1 85 0).toInt ∧ (u.1 85 0).toInt ≤ 1 := hR 85 0
                    exact L136 x3 x4 x5 _ _ _ _ hR hF (by omega) (by omega) (by omega) (by omega) (by omega : (0 : Int) ≤ (u.1 85 0).toInt ∧ (u.1 85 0).toInt ≤ 0) (by omega) (by omega) (by omega) hP hD hS (lv_sub hl [0, 1, 2, 3, 4] rfl)
                  · refine lv_aload_n F.1 F.2.1 dX12_way_120 rfl (lv_at hl 0 rfl) ?_
                    refine a_getr F inX12 hP 85 21 tc_85 rfl rfl (by decide) q1492 (fun _ h9 => h9) dX12_way_121 ?_
                    refine lv_iload F.1 F.2.1 dX12_way_124 (lv_at hl 4 rfl) ?_
                    refine lv_aload_n F.1 F.2.1 dX12_way_126 rfl (lv_at hl 0 rfl) ?_
                    refine a_getr F inX12 hP 85 21 tc_85 rfl rfl (by decide) q1492 (fun _ h9 => h9) dX12_way_127 ?_
                    refine lv_iload F.1 F.2.1 dX12_way_130 (lv_at hl 3 rfl) ?_
                    refine a_iald F hP 92 tc_92 rfl (i_in rfl (by omega)) dX12_way_132 (fun v16 ev16 => ?_)
                    refine a_ic F (1 : Int32) dX12_way_133 (by decide) ?_
                    refine a_iaddU F dX12_way_134 (fun v17 => ?_)
                    refine a_iast F hP hD hS 92 tc_92 rfl (i_in rfl (by omega)) dX12_way_135 (fun H locs hP hD hS => ?_)
                    have hR := hR.si (c := 92) (k := x5.toNatClampNeg) (v := v17) ⟨i_lo _, i_hi _⟩
                    have hF := hF.si (c := 92) (k := x5.toNatClampNeg) (v := v17) rfl
                    have g18 : (0 : Int) ≤ (u.1 85 0).toInt ∧ (u.1 85 0).toInt ≤ 1 := hR 85 0
                    exact L136 x3 x4 x5 _ _ _ _ hR hF (by omega) (by omega) (by omega) (by omega) (by omega : (0 : Int) ≤ (u.1 85 0).toInt ∧ (u.1 85 0).toInt ≤ 0) (by omega) (by omega) (by omega) hP hD hS (lv_sub hl [0, 1, 2, 3, 4] rfl)
          refine lv_iload F.1 F.2.1 dX12_way_66 (lv_at hl 3 rfl) ?_
          refine a_bp F (8 : Int32) dX12_way_68 (by decide) ?_
          refine b_ge F 148 dX12_way_70 (by decide) rfl ic_8 (fun c19 => ?_) (fun c19 => ?_)
          · refine a_iinc F (k := 2) (fun v20 => [(3, .int v20), (0, .ref (ad 85)), (2, .int p1), (4, .int x4)]) dX12_way_148 hl rfl rfl (by decide) (by omega) (by decide) (fun _ => rfl) (fun v20 ls hv20 hl => ?_)
            refine lv_goto (tgt := 57) F.1 F.2.1 dX12_way_151 (by decide) ?_
            have g21 : (0 : Int) ≤ (u.1 85 0).toInt ∧ (u.1 85 0).toInt ≤ 1 := hR 85 0
            exact ih57 v20 _ _ _ _ hR hF (by omega) (by omega) (by omega) (by omega : (0 : Int) ≤ (u.1 85 0).toInt ∧ (u.1 85 0).toInt ≤ 0) hP hD hS (lv_sub hl [1, 2, 0] rfl)
          · refine a_ic F (0 : Int32) dX12_way_73 (by decide) ?_
            refine lv_istore (lv' := [(5, .int (0 : Int32)), (0, .ref (ad 85)), (2, .int p1), (3, .int x3), (4, .int x4)]) F.1 F.2.1 dX12_way_74 hl (by decide) rfl (fun ls hl => ?_)
            have g22 : (0 : Int) ≤ (u.1 85 0).toInt ∧ (u.1 85 0).toInt ≤ 1 := hR 85 0
            exact L76 10 x3 x4 (0 : Int32) _ _ _ _ hR hF (by decide) (by omega) (by omega) (by omega) (by decide) (by omega : (0 : Int) ≤ (u.1 85 0).toInt ∧ (u.1 85 0).toInt ≤ 0) (by omega) (by omega) hP hD hS (lv_sub hl [1, 2, 3, 4, 0] rfl)
      refine lv_iload_n F.1 F.2.1 dX12_way_57 rfl (lv_at hl 2 rfl) ?_
      refine a_bp F (8 : Int32) dX12_way_58 (by decide) ?_
      refine b_ge F 154 dX12_way_60 (by decide) rfl ic_8 (fun c23 => ?_) (fun c23 => ?_)
      · refine lv_aload_n F.1 F.2.1 dX12_way_154 rfl (lv_at hl 0 rfl) ?_
        refine a_getr F inX12 hP 85 21 tc_85 rfl rfl (by decide) q1492 (fun _ h9 => h9) dX12_way_155 ?_
        refine lv_iload_n F.1 F.2.1 dX12_way_158 rfl (lv_at hl 1 rfl) ?_
        refine a_iald F hP 92 tc_92 rfl (i_in rfl (by omega)) dX12_way_159 (fun v24 ev24 => ?_)
        refine a_sp F (1000 : Int32) dX12_way_160 (by decide) ?_
        refine b_ge F 175 dX12_way_163 (by decide) rfl ic_1000 (fun c25 => ?_) (fun c25 => ?_)
        · refine a_ic F (-1 : Int32) dX12_way_175 (by decide) ?_
          exact a_reti F hr hlocks hP hD hS dX12_way_176 ⟨hR, hF⟩
        · refine lv_aload_n F.1 F.2.1 dX12_way_166 rfl (lv_at hl 0 rfl) ?_
          refine a_getr F inX12 hP 85 21 tc_85 rfl rfl (by decide) q1492 (fun _ h9 => h9) dX12_way_167 ?_
          refine lv_iload_n F.1 F.2.1 dX12_way_170 rfl (lv_at hl 1 rfl) ?_
          refine a_iald F hP 92 tc_92 rfl (i_in rfl (by omega)) dX12_way_171 (fun v26 ev26 => ?_)
          refine lv_goto (tgt := 176) F.1 F.2.1 dX12_way_172 (by decide) ?_
          exact a_reti F hr hlocks hP hD hS dX12_way_176 ⟨hR, hF⟩
      · refine a_ic F (0 : Int32) dX12_way_63 (by decide) ?_
        refine lv_istore (lv' := [(4, .int (0 : Int32)), (0, .ref (ad 85)), (2, .int p1), (3, .int x3)]) F.1 F.2.1 dX12_way_64 hl (by decide) rfl (fun ls hl => ?_)
        have g27 : (0 : Int) ≤ (u.1 85 0).toInt ∧ (u.1 85 0).toInt ≤ 1 := hR 85 0
        exact L66 10 x3 (0 : Int32) _ _ _ _ hR hF (by decide) (by omega) (by omega) (by decide) (by omega : (0 : Int) ≤ (u.1 85 0).toInt ∧ (u.1 85 0).toInt ≤ 0) (by omega) hP hD hS (lv_sub hl [1, 2, 3, 0] rfl)
  have L25 : ∀ (n25 : Nat) (x3 : Int32) (u : ac_U) (H : Heap) (locs : List Loc) (ls : Array Slot), ac_R rg u → ac_Fr [(85, some 0), (92, none)] u0 u → 8 - x3.toInt < (n25 : Int) → (0 : Int) ≤ p0.toInt ∧ p0.toInt ≤ 7 → (0 : Int) ≤ p1.toInt ∧ p1.toInt ≤ 7 → (0 : Int) ≤ x3.toInt ∧ x3.toInt ≤ 8 → (0 : Int) ≤ (u.1 85 0).toInt ∧ (u.1 85 0).toInt ≤ 0 → va_P (dC, dI) vwCl (ac_w ad cA (TT nF) u) H → va_D A (ac_w ad cA (TT nF) u) → va_S A s.heap H locs → lv_has ls 6 [(0, .ref (ad 85)), (1, .int p0), (2, .int p1), (3, .int x3)] → W p l e (ac_rm 3) s m [.ref (ad 85), .int p0, .int p1].toArray below meth c H locs 0 0 (MQ below (va_Qi (fun (r : Int32) (u : ac_U) => ac_R rg u ∧ ac_Fr [(85, some 0), (92, none)] u0 u) (ac_B (dC, dI) vwCl (ac_ty cA) ad cA (TT nF) A) A) [.ref (ad 85), .int p0, .int p1].toArray s 0 0 A) (F0 m 25 ls []) := by
    intro n25
    induction n25 with
    | zero => intro x3 u H locs ls hR hF hn25 f0 f1 f2 f3 hP hD hS hl; exfalso; omega
    | succ n25 ih25 =>
      intro x3 u H locs ls hR hF hn25 f0 f1 f2 f3 hP hD hS hl
      have L48 : ∀ (x3 : Int32) (z1 : Int32) (z2 : Int32) (u : ac_U) (H : Heap) (locs : List Loc) (ls : Array Slot), ac_R rg u → ac_Fr [(85, some 0), (92, none)] u0 u → (0 : Int) ≤ p0.toInt ∧ p0.toInt ≤ 7 → (0 : Int) ≤ p1.toInt ∧ p1.toInt ≤ 7 → (0 : Int) ≤ x3.toInt ∧ x3.toInt ≤ 7 → (0 : Int) ≤ z1.toInt ∧ z1.toInt ≤ 7 → (0 : Int) ≤ z2.toInt ∧ z2.toInt ≤ 1000 → (0 : Int) ≤ (u.1 85 0).toInt ∧ (u.1 85 0).toInt ≤ 0 → 8 - x3.toInt + 0 < ((n25 : Nat) : Int) + 1 → va_P (dC, dI) vwCl (ac_w ad cA (TT nF) u) H → va_D A (ac_w ad cA (TT nF) u) → va_S A s.heap H locs → lv_has ls 6 [(0, .ref (ad 85)), (1, .int p0), (2, .int p1), (3, .int x3)] → W p l e (ac_rm 3) s m [.ref (ad 85), .int p0, .int p1].toArray below meth c H locs 0 0 (MQ below (va_Qi (fun (r : Int32) (u : ac_U) => ac_R rg u ∧ ac_Fr [(85, some 0), (92, none)] u0 u) (ac_B (dC, dI) vwCl (ac_ty cA) ad cA (TT nF) A) A) [.ref (ad 85), .int p0, .int p1].toArray s 0 0 A) (F0 m 48 ls [.int z2, .int z1, .ref (ad 92)]) := by
        intro x3 z1 z2 u H locs ls hR hF f0 f1 f2 f3 f4 f5 f6 hP hD hS hl
        refine a_iast F hP hD hS 92 tc_92 rfl (i_in rfl (by omega)) dX12_way_48 (fun H locs hP hD hS => ?_)
        have hR := hR.si (c := 92) (k := z1.toNatClampNeg) (v := z2) ⟨i_lo _, i_hi _⟩
        have hF := hF.si (c := 92) (k := z1.toNatClampNeg) (v := z2) rfl
        refine a_iinc F (k := 3) (fun v28 => [(3, .int v28), (0, .ref (ad 85)), (1, .int p0), (2, .int p1)]) dX12_way_49 hl rfl rfl (by decide) (by omega) (by decide) (fun _ => rfl) (fun v28 ls hv28 hl => ?_)
        refine lv_goto (tgt := 25) F.1 F.2.1 dX12_way_52 (by decide) ?_
        have g29 : (0 : Int) ≤ (u.1 85 0).toInt ∧ (u.1 85 0).toInt ≤ 1 := hR 85 0
        exact ih25 v28 _ _ _ _ hR hF (by omega) (by omega) (by omega) (by omega) (by omega : (0 : Int) ≤ (u.1 85 0).toInt ∧ (u.1 85 0).toInt ≤ 0) hP hD hS (lv_sub hl [1, 2, 3, 0] rfl)
      refine lv_iload_n F.1 F.2.1 dX12_way_25 rfl (lv_at hl 3 rfl) ?_
      refine a_bp F (8 : Int32) dX12_way_26 (by decide) ?_
      refine b_ge F 55 dX12_way_28 (by decide) rfl ic_8 (fun c30 => ?_) (fun c30 => ?_)
      · refine a_ic F (0 : Int32) dX12_way_55 (by decide) ?_
        refine lv_istore_n (lv' := [(3, .int (0 : Int32)), (0, .ref (ad 85)), (1, .int p0), (2, .int p1)]) F.1 F.2.1 dX12_way_56 rfl hl (by decide) rfl (fun ls hl => ?_)
        have g31 : (0 : Int) ≤ (u.1 85 0).toInt ∧ (u.1 85 0).toInt ≤ 1 := hR 85 0
        exact L57 10 (0 : Int32) _ _ _ _ hR hF (by decide) (by omega) (by decide) (by omega : (0 : Int) ≤ (u.1 85 0).toInt ∧ (u.1 85 0).toInt ≤ 0) hP hD hS (lv_sub hl [1, 3, 0] rfl)
      · refine lv_aload_n F.1 F.2.1 dX12_way_31 rfl (lv_at hl 0 rfl) ?_
        refine a_getr F inX12 hP 85 21 tc_85 rfl rfl (by decide) q1492 (fun _ h9 => h9) dX12_way_32 ?_
        refine lv_iload_n F.1 F.2.1 dX12_way_35 rfl (lv_at hl 3 rfl) ?_
        refine lv_iload_n F.1 F.2.1 dX12_way_36 rfl (lv_at hl 3 rfl) ?_
        refine lv_iload_n F.1 F.2.1 dX12_way_37 rfl (lv_at hl 1 rfl) ?_
        refine b_ne F 45 dX12_way_38 (by decide) rfl rfl (fun c32 => ?_) (fun c32 => ?_)
        · refine a_sp F (1000 : Int32) dX12_way_45 (by decide) ?_
          have g33 : (0 : Int) ≤ (u.1 85 0).toInt ∧ (u.1 85 0).toInt ≤ 1 := hR 85 0
          exact L48 x3 x3 (1000 : Int32) _ _ _ _ hR hF (by omega) (by omega) (by omega) (by omega) (by decide) (by omega : (0 : Int) ≤ (u.1 85 0).toInt ∧ (u.1 85 0).toInt ≤ 0) (by omega) hP hD hS (lv_sub hl [0, 1, 2, 3] rfl)
        · refine a_ic F (0 : Int32) dX12_way_41 (by decide) ?_
          refine lv_goto (tgt := 48) F.1 F.2.1 dX12_way_42 (by decide) ?_
          have g34 : (0 : Int) ≤ (u.1 85 0).toInt ∧ (u.1 85 0).toInt ≤ 1 := hR 85 0
          exact L48 x3 x3 (0 : Int32) _ _ _ _ hR hF (by omega) (by omega) (by omega) (by omega) (by decide) (by omega : (0 : Int) ≤ (u.1 85 0).toInt ∧ (u.1 85 0).toInt ≤ 0) (by omega) hP hD hS (lv_sub hl [0, 1, 2, 3] rfl)
  have L21 : ∀ (u : ac_U) (H : Heap) (locs : List Loc) (ls : Array Slot), ac_R rg u → ac_Fr [(85, some 0), (92, none)] u0 u → (0 : Int) ≤ (u.1 85 0).toInt ∧ (u.1 85 0).toInt ≤ 0 → va_P (dC, dI) vwCl (ac_w ad cA (TT nF) u) H → va_D A (ac_w ad cA (TT nF) u) → va_S A s.heap H locs → lv_has ls 6 [] → W p l e (ac_rm 3) s m [.ref (ad 85), .int p0, .int p1].toArray below meth c H locs 0 0 (MQ below (va_Qi (fun (r : Int32) (u : ac_U) => ac_R rg u ∧ ac_Fr [(85, some 0), (92, none)] u0 u) (ac_B (dC, dI) vwCl (ac_ty cA) ad cA (TT nF) A) A) [.ref (ad 85), .int p0, .int p1].toArray s 0 0 A) (F0 m 21 ls []) := by
    intro u H locs ls hR hF f0 hP hD hS hl
    refine a_ic F (-1 : Int32) dX12_way_21 (by decide) ?_
    exact a_reti F hr hlocks hP hD hS dX12_way_22 ⟨hR, hF⟩
  refine lv_aload_n F.1 F.2.1 dX12_way_0 rfl (lv_at hl 0 rfl) ?_
  refine a_ic F (0 : Int32) dX12_way_1 (by decide) ?_
  refine a_puti F inX12 tyX12 tyX12_ok nmX12 hP hD hS 85 0 tc_85 rfl rfl (by decide) q1471 (fun _ h9 => h9) rfl (ty := .int) (tyX12_ok 0 (by decide)) rfl rfl dX12_way_2 (fun H locs hP hD hS => ?_)
  have hR := hR.si (c := 85) (k := 0) (v := (0 : Int32)) (by rw [ic_0]; exact (by omega : (0 : Int) ≤ (0 : Int) ∧ (0 : Int) ≤ 1))
  have hF := hF.si (c := 85) (k := 0) (v := (0 : Int32)) rfl
  refine lv_aload_n F.1 F.2.1 dX12_way_5 rfl (lv_at hl 0 rfl) ?_
  refine lv_iload_n F.1 F.2.1 dX12_way_6 rfl (lv_at hl 1 rfl) ?_
  refine a_Vi F hml hl.1 hA hP hD hS (As := [.int p0]) (c_X12_isPlace_85 l dC dI ad cA nF _ p0 hR) (cs_RX12_254 (d := 2) F.2.2.1 (by decide)) tc_85 rfl rfl rfl rfl (Nat.le_of_ble_eq_true rfl) dX12_way_7 ⟨Nat.le_refl 0, Nat.le_refl 0⟩ (fun r35 uN35 H locs hq hP hD hS => ?_)
  obtain ⟨hu35, gr35, xr35⟩ := hq
  rw [hu35] at hP hD
  have xr35 : r35.toInt ≠ 0 → 0 ≤ p0.toInt ∧ p0.toInt ≤ 7 := xr35
  refine z_eq F 21 dX12_way_10 (by decide) rfl (fun c36 => ?_) (fun c36 => ?_)
  · exact L21 _ _ _ _ hR hF (by omega : (0 : Int) ≤ (0 : Int) ∧ (0 : Int) ≤ 0) hP hD hS (lv_sub hl [] rfl)
  · refine lv_aload_n F.1 F.2.1 dX12_way_13 rfl (lv_at hl 0 rfl) ?_
    refine lv_iload_n F.1 F.2.1 dX12_way_14 rfl (lv_at hl 2 rfl) ?_
    refine a_Vi F hml hl.1 hA hP hD hS (As := [.int p1]) (c_X12_isPlace_85 l dC dI ad cA nF _ p1 hR) (cs_RX12_254 (d := 2) F.2.2.1 (by decide)) tc_85 rfl rfl rfl rfl (Nat.le_of_ble_eq_true rfl) dX12_way_15 ⟨Nat.le_refl 0, Nat.le_refl 0⟩ (fun r37 uN37 H locs hq hP hD hS => ?_)
    obtain ⟨hu37, gr37, xr37⟩ := hq
    rw [hu37] at hP hD
    have xr37 : r37.toInt ≠ 0 → 0 ≤ p1.toInt ∧ p1.toInt ≤ 7 := xr37
    refine z_ne F 23 dX12_way_18 (by decide) rfl (fun c38 => ?_) (fun c38 => ?_)
    · refine a_ic F (0 : Int32) dX12_way_23 (by decide) ?_
      refine lv_istore_n (lv' := [(3, .int (0 : Int32)), (0, .ref (ad 85)), (1, .int p0), (2, .int p1)]) F.1 F.2.1 dX12_way_24 rfl hl (by decide) rfl (fun ls hl => ?_)
      exact L25 10 (0 : Int32) _ _ _ _ hR hF (by decide) (by omega) (by omega) (by decide) (by omega : (0 : Int) ≤ (0 : Int) ∧ (0 : Int) ≤ 0) hP hD hS (lv_sub hl [1, 2, 3, 0] rfl)
    · exact L21 _ _ _ _ hR hF (by omega : (0 : Int) ≤ (0 : Int) ∧ (0 : Int) ≤ 0) hP hD hS (lv_sub hl [] rfl)
set_option maxHeartbeats 600000 in
set_option maxRecDepth 100000 in
theorem c_X12_whyGo_85 (l : Launch) (dC : Nat → ClassId) (dI : Nat → Nat → Nat) (ad : Nat → Nat) (cA : Nat → ClassId) (nF : Nat) (u0 : ac_U) (p0 : Int32) (p1 : Int32) (hR : ac_R rg u0) : ac_Mi l yX12_whyGo (.code yX12_whyGo cX12_whyGo 3 (some .int) :: TB) 3 (dC, dI) vwCl (ac_ty cA) ad cA (TT nF) [.ref (ad 85), .int p0, .int p1] u0 (fun (r : Int32) (u : ac_U) => ac_R rg u ∧ ac_Fr [(85, some 0)] u0 u ∧ ((-1 : Int) ≤ r.toInt ∧ r.toInt ≤ 3)) := by
  refine ac_Mi.of (cc := cX12_whyGo) (maxL := 3) (ret := (some .int)) (by decide) rfl (Nat.le_of_ble_eq_true rfl) ?_
  intro p e s m below meth c A ls F hml hr hlocks hA hP hD hS hl
  have F : ac_X p s m [.ref (ad 85), .int p0, .int p1].toArray c cX12_whyGo RX12 TB (dC, dI) vwCl (ac_ty cA) := ⟨F.1, F.2.1, fun w h => F.2.2.1 w (List.mem_cons_of_mem _ h), F.2.2.2.1, F.2.2.2.2⟩
  have hl : lv_has ls 3 [(0, .ref (ad 85)), (1, .int p0), (2, .int p1)] := hl
  have hF : ac_Fr [(85, some 0)] u0 u0 := ac_Fr.rf
  have L30 : ∀ (u : ac_U) (H : Heap) (locs : List Loc) (ls : Array Slot), ac_R rg u → ac_Fr [(85, some 0)] u0 u → (0 : Int) ≤ (u.1 85 0).toInt ∧ (u.1 85 0).toInt ≤ 0 → va_P (dC, dI) vwCl (ac_w ad cA (TT nF) u) H → va_D A (ac_w ad cA (TT nF) u) → va_S A s.heap H locs → lv_has ls 3 [] → W p l e (ac_rm 3) s m [.ref (ad 85), .int p0, .int p1].toArray below meth c H locs 0 0 (MQ below (va_Qi (fun (r : Int32) (u : ac_U) => ac_R rg u ∧ ac_Fr [(85, some 0)] u0 u ∧ ((-1 : Int) ≤ r.toInt ∧ r.toInt ≤ 3)) (ac_B (dC, dI) vwCl (ac_ty cA) ad cA (TT nF) A) A) [.ref (ad 85), .int p0, .int p1].toArray s 0 0 A) (F0 m 30 ls []) := by
    intro u H locs ls hR hF f0 hP hD hS hl
    refine a_ic F (-1 : Int32) dX12_whyGo_30 (by decide) ?_
    exact a_reti F hr hlocks hP hD hS dX12_whyGo_31 ⟨hR, hF, (by decide)⟩
  refine lv_aload_n F.1 F.2.1 dX12_whyGo_0 rfl (lv_at hl 0 rfl) ?_
  refine a_ic F (0 : Int32) dX12_whyGo_1 (by decide) ?_
  refine a_puti F inX12 tyX12 tyX12_ok nmX12 hP hD hS 85 0 tc_85 rfl rfl (by decide) q1471 (fun _ h9 => h9) rfl (ty := .int) (tyX12_ok 0 (by decide)) rfl rfl dX12_whyGo_2 (fun H locs hP hD hS => ?_)
  have hR := hR.si (c := 85) (k := 0) (v := (0 : Int32)) (by rw [ic_0]; exact (by omega : (0 : Int) ≤ (0 : Int) ∧ (0 : Int) ≤ 1))
  have hF := hF.si (c := 85) (k := 0) (v := (0 : Int32)) rfl
  refine lv_aload_n F.1 F.2.1 dX12_whyGo_5 rfl (lv_at hl 0 rfl) ?_
  refine lv_iload_n F.1 F.2.1 dX12_whyGo_6 rfl (lv_at hl 1 rfl) ?_
  refine a_Vi F hml hl.1 hA hP hD hS (As := [.int p0]) (c_X12_isPerson_85 l dC dI ad cA nF _ p0 hR) (cs_RX12_251 (d := 2) F.2.2.1 (by decide)) tc_85 rfl rfl rfl rfl (Nat.le_of_ble_eq_true rfl) dX12_whyGo_7 ⟨Nat.le_refl 0, Nat.le_refl 0⟩ (fun r1 uN1 H locs hq hP hD hS => ?_)
  obtain ⟨hu1, gr1, xr1⟩ := hq
  rw [hu1] at hP hD
  have xr1 : r1.toInt ≠ 0 → 0 ≤ p0.toInt ∧ p0.toInt ≤ 3 := xr1
  refine z_eq F 30 dX12_whyGo_10 (by decide) rfl (fun c2 => ?_) (fun c2 => ?_)
  · exact L30 _ _ _ _ hR hF (by omega : (0 : Int) ≤ (0 : Int) ∧ (0 : Int) ≤ 0) hP hD hS (lv_sub hl [] rfl)
  · refine lv_aload_n F.1 F.2.1 dX12_whyGo_13 rfl (lv_at hl 0 rfl) ?_
    refine lv_iload_n F.1 F.2.1 dX12_whyGo_14 rfl (lv_at hl 2 rfl) ?_
    refine a_Vi F hml hl.1 hA hP hD hS (As := [.int p1]) (c_X12_isPlace_85 l dC dI ad cA nF _ p1 hR) (cs_RX12_254 (d := 2) F.2.2.1 (by decide)) tc_85 rfl rfl rfl rfl (Nat.le_of_ble_eq_true rfl) dX12_whyGo_15 ⟨Nat.le_refl 0, Nat.le_refl 0⟩ (fun r3 uN3 H locs hq hP hD hS => ?_)
    obtain ⟨hu3, gr3, xr3⟩ := hq
    rw [hu3] at hP hD
    have xr3 : r3.toInt ≠ 0 → 0 ≤ p1.toInt ∧ p1.toInt ≤ 7 := xr3
    refine z_eq F 30 dX12_whyGo_18 (by decide) rfl (fun c4 => ?_) (fun c4 => ?_)
    · exact L30 _ _ _ _ hR hF (by omega : (0 : Int) ≤ (0 : Int) ∧ (0 : Int) ≤ 0) hP hD hS (lv_sub hl [] rfl)
    · refine lv_aload_n F.1 F.2.1 dX12_whyGo_21 rfl (lv_at hl 0 rfl) ?_
      refine lv_iload_n F.1 F.2.1 dX12_whyGo_22 rfl (lv_at hl 1 rfl) ?_
      refine lv_iload_n F.1 F.2.1 dX12_whyGo_23 rfl (lv_at hl 2 rfl) ?_
      refine a_Vi F hml hl.1 hA hP hD hS (As := [.int p0, .int p1]) (c_X12_whyGoOf_85 l dC dI ad cA nF _ p0 p1 hR (by omega) (by omega)) (cs_RX12_266 (d := 2) F.2.2.1 (by decide)) tc_85 rfl rfl rfl rfl (Nat.le_of_ble_eq_true rfl) dX12_whyGo_24 ⟨Nat.le_refl 0, Nat.le_refl 0⟩ (fun r5 uN5 H locs hq hP hD hS => ?_)
      obtain ⟨hu5, gr5⟩ := hq
      rw [hu5] at hP hD
      refine lv_goto (tgt := 31) F.1 F.2.1 dX12_whyGo_27 (by decide) ?_
      exact a_reti F hr hlocks hP hD hS dX12_whyGo_31 ⟨hR, hF, (by omega : (-1 : Int) ≤ r5.toInt ∧ r5.toInt ≤ 3)⟩
set_option maxHeartbeats 600000 in
set_option maxRecDepth 100000 in
theorem c_X12_windows_85 (l : Launch) (dC : Nat → ClassId) (dI : Nat → Nat → Nat) (ad : Nat → Nat) (cA : Nat → ClassId) (nF : Nat) (u0 : ac_U) (p0 : Int32) (p1 : Int32) (p2 : Int32) (hR : ac_R rg u0) : ac_Mi l yX12_windows (.code yX12_windows cX12_windows 4 (some .int) :: TB) 4 (dC, dI) vwCl (ac_ty cA) ad cA (TT nF) [.ref (ad 85), .int p0, .int p1, .int p2] u0 (fun (r : Int32) (u : ac_U) => ac_R rg u ∧ ac_Fr [(85, some 0), (85, some 32), (85, some 33)] u0 u) := by
  refine ac_Mi.of (cc := cX12_windows) (maxL := 4) (ret := (some .int)) (by decide) rfl (Nat.le_of_ble_eq_true rfl) ?_
  intro p e s m below meth c A ls F hml hr hlocks hA hP hD hS hl
  have F : ac_X p s m [.ref (ad 85), .int p0, .int p1, .int p2].toArray c cX12_windows RX12 TB (dC, dI) vwCl (ac_ty cA) := ⟨F.1, F.2.1, fun w h => F.2.2.1 w (List.mem_cons_of_mem _ h), F.2.2.2.1, F.2.2.2.2⟩
  have hl : lv_has ls 4 [(0, .ref (ad 85)), (1, .int p0), (2, .int p1), (3, .int p2)] := hl
  have hF : ac_Fr [(85, some 0), (85, some 32), (85, some 33)] u0 u0 := ac_Fr.rf
  refine lv_aload_n F.1 F.2.1 dX12_windows_0 rfl (lv_at hl 0 rfl) ?_
  refine a_ic F (0 : Int32) dX12_windows_1 (by decide) ?_
  refine a_puti F inX12 tyX12 tyX12_ok nmX12 hP hD hS 85 0 tc_85 rfl rfl (by decide) q1471 (fun _ h9 => h9) rfl (ty := .int) (tyX12_ok 0 (by decide)) rfl rfl dX12_windows_2 (fun H locs hP hD hS => ?_)
  have hR := hR.si (c := 85) (k := 0) (v := (0 : Int32)) (by rw [ic_0]; exact (by omega : (0 : Int) ≤ (0 : Int) ∧ (0 : Int) ≤ 1))
  have hF := hF.si (c := 85) (k := 0) (v := (0 : Int32)) rfl
  refine lv_aload_n F.1 F.2.1 dX12_windows_5 rfl (lv_at hl 0 rfl) ?_
  refine lv_iload_n F.1 F.2.1 dX12_windows_6 rfl (lv_at hl 1 rfl) ?_
  refine lv_iload_n F.1 F.2.1 dX12_windows_7 rfl (lv_at hl 2 rfl) ?_
  refine lv_iload_n F.1 F.2.1 dX12_windows_8 rfl (lv_at hl 3 rfl) ?_
  refine a_Vi F hml hl.1 hA hP hD hS (As := [.int p0, .int p1, .int p2]) (c_X12_looksForWindows_85 l dC dI ad cA nF _ p0 p1 p2 hR) (cs_RX12_379 (d := 3) F.2.2.1 (by decide)) tc_85 rfl rfl rfl rfl (Nat.le_of_ble_eq_true rfl) dX12_windows_9 ⟨Nat.le_refl 0, Nat.le_refl 0⟩ (fun r1 u1 H locs hq hP hD hS => ?_)
  obtain ⟨hR, hF1, gr1⟩ := hq
  have hF := hF.tr hF1 (by decide)
  refine z_eq F 22 dX12_windows_12 (by decide) rfl (fun c2 => ?_) (fun c2 => ?_)
  · refine a_ic F (-1 : Int32) dX12_windows_22 (by decide) ?_
    exact a_reti F hr hlocks hP hD hS dX12_windows_23 ⟨hR, hF⟩
  · refine lv_aload_n F.1 F.2.1 dX12_windows_15 rfl (lv_at hl 0 rfl) ?_
    refine a_geti F inX12 hP 85 32 tc_85 rfl rfl (by decide) q1503 (fun _ h9 => h9) (v := (u1.1 85 32)) rfl dX12_windows_16 ?_
    refine lv_goto (tgt := 23) F.1 F.2.1 dX12_windows_19 (by decide) ?_
    exact a_reti F hr hlocks hP hD hS dX12_windows_23 ⟨hR, hF⟩

set_option maxHeartbeats 600000 in
set_option maxRecDepth 100000 in
theorem c_X12_tries_85__3 (l : Launch) (dC : Nat → ClassId) (dI : Nat → Nat → Nat) (ad : Nat → Nat) (cA : Nat → ClassId) (nF : Nat) (u0 : ac_U)  (hR : ac_R rg u0) (hK_MS : msI u0) (hK_AP : apI u0) : ac_Mv l yX12_tries (.code yX12_tries cX12_tries 2 none :: TB) 1 (dC, dI) vwCl (ac_ty cA) ad cA (TT nF) [.ref (ad 85)] u0 (fun (u : ac_U) => ac_R rg u ∧ ac_Fr [(94, none)] u0 u ∧ bfI u ∧ abI u) := by
  refine ac_Mv.of (cc := cX12_tries) (maxL := 2) (ret := none) (by decide) rfl (Nat.le_of_ble_eq_true rfl) ?_
  intro p e s m below meth c A ls F hml hr hlocks hA hP hD hS hl
  have F : ac_X p s m [.ref (ad 85)].toArray c cX12_tries RX12 TB (dC, dI) vwCl (ac_ty cA) := ⟨F.1, F.2.1, fun w h => F.2.2.1 w (List.mem_cons_of_mem _ h), F.2.2.2.1, F.2.2.2.2⟩
  have hl : lv_has ls 2 [(0, .ref (ad 85))] := hl
  have hF : ac_Fr [(94, none)] u0 u0 := ac_Fr.rf
  have L2 : ∀ (n2 : Nat) (x1 : Int32) (u : ac_U) (H : Heap) (locs : List Loc) (ls : Array Slot), ac_R rg u → ac_Fr [(94, none)] u0 u → 370 - x1.toInt < (n2 : Int) → msI u → bkI x1.toInt u → apI u → abkI x1.toInt u → (0 : Int) ≤ x1.toInt ∧ x1.toInt ≤ 370 → va_P (dC, dI) vwCl (ac_w ad cA (TT nF) u) H → va_D A (ac_w ad cA (TT nF) u) → va_S A s.heap H locs → lv_has ls 2 [(0, .ref (ad 85)), (1, .int x1)] → W p l e (ac_rm 1) s m [.ref (ad 85)].toArray below meth c H locs 0 0 (MQ below (va_Qv (fun (u : ac_U) => ac_R rg u ∧ ac_Fr [(94, none)] u0 u ∧ bfI u ∧ abI u) (ac_B (dC, dI) vwCl (ac_ty cA) ad cA (TT nF) A) A) [.ref (ad 85)].toArray s 0 0 A) (F0 m 2 ls []) := by
    intro n2
    induction n2 with
    | zero => intro x1 u H locs ls hR hF hn2 hK_MS hK_BKx hK_AP hK_ABKx f0 hP hD hS hl; exfalso; omega
    | succ n2 ih2 =>
      intro x1 u H locs ls hR hF hn2 hK_MS hK_BKx hK_AP hK_ABKx f0 hP hD hS hl
      refine lv_iload_n F.1 F.2.1 dX12_tries_2 rfl (lv_at hl 1 rfl) ?_
      refine a_sp F (370 : Int32) dX12_tries_3 (by decide) ?_
      refine b_ge F 30 dX12_tries_6 (by decide) rfl ic_370 (fun c1 => ?_) (fun c1 => ?_)
      · exact a_retv F hr hlocks hP hD hS dX12_tries_30 ⟨hR, hF, (hK_BKx (by omega)), (ab_of hK_ABKx (by omega))⟩
      · refine lv_aload_n F.1 F.2.1 dX12_tries_9 rfl (lv_at hl 0 rfl) ?_
        refine a_getr F inX12 hP 85 23 tc_85 rfl rfl (by decide) q1494 (fun _ h9 => h9) dX12_tries_10 ?_
        refine lv_iload_n F.1 F.2.1 dX12_tries_13 rfl (lv_at hl 1 rfl) ?_
        refine lv_aload_n F.1 F.2.1 dX12_tries_14 rfl (lv_at hl 0 rfl) ?_
        refine a_getr F inX12 hP 85 6 tc_85 rfl rfl (by decide) q1477 (fun _ h9 => h9) dX12_tries_15 ?_
        refine a_bp F (106 : Int32) dX12_tries_18 (by decide) ?_
        refine lv_iload_n F.1 F.2.1 dX12_tries_20 rfl (lv_at hl 1 rfl) ?_
        refine a_iadd F dX12_tries_21 ic_106 rfl (by omega) (fun v2 hv2 => ?_)
        refine a_iald F hP 87 tc_87 rfl (i_in rfl (by omega)) dX12_tries_22 (fun v3 ev3 => ?_)
        refine a_iast F hP hD hS 94 tc_94 rfl (i_in rfl (by omega)) dX12_tries_23 (fun H locs hP hD hS => ?_)
        have hR := hR.si (c := 94) (k := x1.toNatClampNeg) (v := v3) (cp_el hR ev3 (rg_u3 (by omega) (by omega)).1)
        have hF := hF.si (c := 94) (k := x1.toNatClampNeg) (v := v3) rfl
        have hO_MS := hK_MS
        have hO_BKx := hK_BKx
        have hO_AP := hK_AP
        have hO_ABKx := hK_ABKx
        have hK_MS := sp_sgD sp_MS hD hK_MS (by decide)
        have hK_BKx := bk_w (i := x1) hO_BKx hO_MS (by omega) (k := v2) (by omega) ev3
        have hK_AP := sp_sgD sp_AP hD hK_AP (by decide)
        have hK_ABKx := abk_w (i := x1) hO_ABKx hO_AP (by omega) (k := v2) (by omega) ev3
        refine a_iinc F (k := 1) (fun v4 => [(1, .int v4), (0, .ref (ad 85))]) dX12_tries_24 hl rfl rfl (by decide) (by omega) (by decide) (fun _ => rfl) (fun v4 ls hv4 hl => ?_)
        refine lv_goto (tgt := 2) F.1 F.2.1 dX12_tries_27 (by decide) ?_
        exact ih2 v4 _ _ _ _ hR hF (by omega) hK_MS (bk_eq hK_BKx (by omega)) hK_AP (abk_eq hK_ABKx (by omega)) (by omega) hP hD hS (lv_sub hl [1, 0] rfl)
  refine a_ic F (0 : Int32) dX12_tries_0 (by decide) ?_
  refine lv_istore_n (lv' := [(1, .int (0 : Int32)), (0, .ref (ad 85))]) F.1 F.2.1 dX12_tries_1 rfl hl (by decide) rfl (fun ls hl => ?_)
  exact L2 372 (0 : Int32) _ _ _ _ hR hF (by decide) hK_MS (bk_0 (by decide)) hK_AP (abk_0 (by decide)) (by decide) hP hD hS (lv_sub hl [1, 0] rfl)
set_option maxHeartbeats 600000 in
set_option maxRecDepth 100000 in
theorem c_X12_draw_85__2 (l : Launch) (dC : Nat → ClassId) (dI : Nat → Nat → Nat) (ad : Nat → Nat) (cA : Nat → ClassId) (nF : Nat) (u0 : ac_U) (p0 : Int32) (hR : ac_R rg u0) (hp0 : (1 : Int) ≤ p0.toInt ∧ p0.toInt ≤ 8) : ac_Mi l yX12_draw (.code yX12_draw cX12_draw 2 (some .int) :: TB) 1 (dC, dI) vwCl (ac_ty cA) ad cA (TT nF) [.ref (ad 85), .int p0] u0 (fun (r : Int32) (u : ac_U) => ac_R rg u ∧ ac_Fr [(85, some 34)] u0 u ∧ ((0 : Int) ≤ r.toInt ∧ r.toInt ≤ 7) ∧ (r.toInt < p0.toInt)) := by
  refine ac_Mi.of (cc := cX12_draw) (maxL := 2) (ret := (some .int)) (by decide) rfl (Nat.le_of_ble_eq_true rfl) ?_
  intro p e s m below meth c A ls F hml hr hlocks hA hP hD hS hl
  have F : ac_X p s m [.ref (ad 85), .int p0].toArray c cX12_draw RX12 TB (dC, dI) vwCl (ac_ty cA) := ⟨F.1, F.2.1, fun w h => F.2.2.1 w (List.mem_cons_of_mem _ h), F.2.2.2.1, F.2.2.2.2⟩
  have hl : lv_has ls 2 [(0, .ref (ad 85)), (1, .int p0)] := hl
  have hF : ac_Fr [(85, some 34)] u0 u0 := ac_Fr.rf
  refine lv_aload_n F.1 F.2.1 dX12_draw_0 rfl (lv_at hl 0 rfl) ?_
  refine lv_aload_n F.1 F.2.1 dX12_draw_1 rfl (lv_at hl 0 rfl) ?_
  refine a_geti F inX12 hP 85 34 tc_85 rfl rfl (by decide) q1505 (fun _ h9 => h9) (v := (u0.1 85 34)) rfl dX12_draw_2 ?_
  refine lv_ldcw (v := (1103515245 : Int32)) F.1 F.2.1 F.2.2.2.1 (F.2.2.1 _ q1978) dX12_draw_5 ?_
  refine a_imulU F dX12_draw_8 (fun v1 => ?_)
  refine a_sp F (12345 : Int32) dX12_draw_9 (by decide) ?_
  refine a_iaddU F dX12_draw_12 (fun v2 => ?_)
  refine a_puti F inX12 tyX12 tyX12_ok nmX12 hP hD hS 85 34 tc_85 rfl rfl (by decide) q1505 (fun _ h9 => h9) rfl (ty := .int) (tyX12_ok 34 (by decide)) rfl rfl dX12_draw_13 (fun H locs hP hD hS => ?_)
  have hR := hR.si (c := 85) (k := 34) (v := v2) ⟨i_lo _, i_hi _⟩
  have hF := hF.si (c := 85) (k := 34) (v := v2) rfl
  refine lv_aload_n F.1 F.2.1 dX12_draw_16 rfl (lv_at hl 0 rfl) ?_
  refine a_geti F inX12 hP 85 34 tc_85 rfl rfl (by decide) q1505 (fun _ h9 => h9) (v := v2) (rfl) dX12_draw_17 ?_
  refine a_bp F (8 : Int32) dX12_draw_20 (by decide) ?_
  refine a_iushrC F dX12_draw_22 (n := 8) (by decide) (by decide) (fun v3 hv3 => ?_)
  have hv3 : (0 : Int) ≤ v3.toInt ∧ v3.toInt ≤ 16777215 := hv3
  refine lv_iload_n F.1 F.2.1 dX12_draw_23 rfl (lv_at hl 1 rfl) ?_
  refine a_irem F dX12_draw_24 rfl rfl (by omega) (fun v4 hv4 => ?_)
  exact a_reti F hr hlocks hP hD hS dX12_draw_25 ⟨hR, hF, (by omega : (0 : Int) ≤ v4.toInt ∧ v4.toInt ≤ 7), (by omega : v4.toInt < p0.toInt)⟩
set_option maxHeartbeats 600000 in
set_option maxRecDepth 100000 in
theorem c_X12_isPlace_85_f (l : Launch) (dC : Nat → ClassId) (dI : Nat → Nat → Nat) (ad : Nat → Nat) (cA : Nat → ClassId) (nF : Nat) (u0 : ac_U) (p0 : Int32) (hR : ac_R rg u0) : ac_Mi l yX12_isPlace (.code yX12_isPlace cX12_isPlace 2 (some .boolean) :: TB) 2 (dC, dI) vwCl (ac_ty cA) ad cA (TT nF) [.ref (ad 85), .int p0] u0 (fun (r : Int32) (u : ac_U) => u = u0 ∧ ((0 : Int) ≤ r.toInt ∧ r.toInt ≤ 1) ∧ (r.toInt ≠ 0 → 0 ≤ p0.toInt ∧ p0.toInt < (u0.1 87 1).toInt ∧ p0.toInt ≤ 7)) := by
  refine ac_Mi.of (cc := cX12_isPlace) (maxL := 2) (ret := (some .boolean)) (by decide) rfl (Nat.le_of_ble_eq_true rfl) ?_
  intro p e s m below meth c A ls F hml hr hlocks hA hP hD hS hl
  have F : ac_X p s m [.ref (ad 85), .int p0].toArray c cX12_isPlace RX12 TB (dC, dI) vwCl (ac_ty cA) := ⟨F.1, F.2.1, fun w h => F.2.2.1 w (List.mem_cons_of_mem _ h), F.2.2.2.1, F.2.2.2.2⟩
  have hl : lv_has ls 2 [(0, .ref (ad 85)), (1, .int p0)] := hl
  refine lv_iload_n F.1 F.2.1 dX12_isPlace_0 rfl (lv_at hl 1 rfl) ?_
  refine a_ic F (0 : Int32) dX12_isPlace_1 (by decide) ?_
  refine lv_aload_n F.1 F.2.1 dX12_isPlace_2 rfl (lv_at hl 0 rfl) ?_
  refine a_getr F inX12 hP 85 6 tc_85 rfl rfl (by decide) q1477 (fun _ h9 => h9) dX12_isPlace_3 ?_
  refine a_ic F (1 : Int32) dX12_isPlace_6 (by decide) ?_
  have g1 : (0 : Int) ≤ (u0.1 87 1).toInt ∧ (u0.1 87 1).toInt ≤ 8 := hR 87 1
  refine a_ialdK F hP 87 1 tc_87 rfl rfl (i_in ic_1 (by omega)) (v := (u0.1 87 1)) rfl dX12_isPlace_7 ?_
  refine a_ic F (1 : Int32) dX12_isPlace_8 (by decide) ?_
  refine a_isub F dX12_isPlace_9 rfl ic_1 (by omega) (fun v2 hv2 => ?_)
  refine a_Si F hml hl.1 hA hP hD hS (As := [.int p0, .int (0 : Int32), .int v2]) (c_X12_isIn l dC dI ad cA nF _ p0 (0 : Int32) v2 hR (by omega)) (cs_RX12_187 (d := 1) F.2.2.1 (by decide)) rfl rfl (Nat.le_of_ble_eq_true rfl) dX12_isPlace_10 ⟨Nat.le_refl 0, Nat.le_refl 0⟩ (fun r3 uN3 H locs hq hP hD hS => ?_)
  obtain ⟨hu3, gr3, xr3⟩ := hq
  rw [hu3] at hP hD
  have xr3 : r3.toInt ≠ 0 → (0 : Int) ≤ p0.toInt ∧ p0.toInt ≤ v2.toInt := xr3
  exact a_retz F hr hlocks hP hD hS dX12_isPlace_13 (i_01 (by omega)) ⟨rfl, (by omega : (0 : Int) ≤ r3.toInt ∧ r3.toInt ≤ 1), (by omega : r3.toInt ≠ 0 → 0 ≤ p0.toInt ∧ p0.toInt < (u0.1 87 1).toInt ∧ p0.toInt ≤ 7)⟩

/-! The methods that may make the table, from a world without it. -/
theorem ac_R37 {u : ac_U} (hR : ac_R rg u) : ac_R rg (ac_si u 37 (fun _ => 0)) := hR.sg (fun k => by rw [rg37]; exact ⟨by decide, by decide⟩)
set_option maxHeartbeats 600000 in
set_option maxRecDepth 100000 in
theorem g_X7_fewestGoings_32 (l : Launch) (dC : Nat → ClassId) (dI : Nat → Nat → Nat) (ad : Nat → Nat) (cA : Nat → ClassId) (u0 : ac_U) (p0 : Int32) (hR : ac_R rg u0) (hp0 : (0 : Int) ≤ p0.toInt ∧ p0.toInt ≤ 15) : ag_M l yX7_fewestGoings (.code yX7_fewestGoings cX7_fewestGoings 4 (some .int) :: TB) 4 (dC, dI) vwCl (ac_ty cA) ad cA [.ref (ad 32), .int p0] u0 (fun (r : Int32) (n : Nat) (u : ac_U) => n = 51200 ∧ ac_R rg u ∧ ac_Fr [(32, some 9), (35, none), (37, none)] u0 u ∧ ((-128 : Int) ≤ r.toInt ∧ r.toInt ≤ 98) ∧ (1 ≤ (u.1 32 9).toInt)) := by
  refine ag_M.of (cc := cX7_fewestGoings) (maxL := 4) (ret := (some .int)) (by decide) rfl (Nat.le_of_ble_eq_true rfl) ?_
  intro p e s m below meth c A ls F hml hr hlocks hA hP hD hS hl
  have F : ac_X p s m [.ref (ad 32), .int p0].toArray c cX7_fewestGoings RX7 TB (dC, dI) vwCl (ac_ty cA) := ⟨F.1, F.2.1, fun w h => F.2.2.1 w (List.mem_cons_of_mem _ h), F.2.2.2.1, F.2.2.2.2⟩
  have hl : lv_has ls 4 [(0, .ref (ad 32)), (1, .int p0)] := hl
  refine lv_aload_n F.1 F.2.1 dX7_fewestGoings_0 rfl (lv_at hl 0 rfl) ?_
  refine a_getr F inX7 hP 32 7 tc_32 rfl rfl (by decide) q341 (fun _ h9 => h9) dX7_fewestGoings_1 ?_
  refine va_alen (v := (0 : Int32)) F.1 F.2.1 F.2.2.2.2 hP 37 1 (ac_at tc_37) rfl rfl dX7_fewestGoings_4 ?_
  refine lv_ldc (v := (51200 : Int32)) F.1 F.2.1 F.2.2.2.1 (F.2.2.1 _ q1017) dX7_fewestGoings_5 ?_
  refine b_ge F 18 dX7_fewestGoings_7 (by decide) ic_0 ic_51200 (fun c41 => ?_) (fun c41 => ?_)
  · exfalso; omega
  · refine lv_aload_n F.1 F.2.1 dX7_fewestGoings_10 rfl (lv_at hl 0 rfl) ?_
    refine lv_ldc (v := (51200 : Int32)) F.1 F.2.1 F.2.2.2.1 (F.2.2.1 _ q1017) dX7_fewestGoings_11 ?_
    refine a_grow F hA hP hD hS q341 (Nat.le_refl 1) (Nat.le_refl 51200) dX7_fewestGoings_13 dX7_fewestGoings_15 (fun q H locs hP hD hS => ?_)
    exact k_X7_fewestGoings_32_18 l dC dI (fun c => if c = 37 then q else ad c) cA 51200 (ac_si u0 37 (fun _ => 0)) p0 (ac_R37 hR) hp0 rfl F hml hA hP hD hS hl (fun r u H locs ls pc hd hq hP hD hS => g_ret1 (post := (fun (r : Int32) (n : Nat) (u : ac_U) => n = 51200 ∧ ac_R rg u ∧ ac_Fr [(32, some 9), (35, none), (37, none)] u0 u ∧ ((-128 : Int) ≤ r.toInt ∧ r.toInt ≤ 98) ∧ (1 ≤ (u.1 32 9).toInt))) F hr hlocks (fun c hc => if_neg hc) hP hD hS hd ⟨rfl, hq.1, (ac_Fr.rf.sg (fun _ => rfl)).tr hq.2.1 (by decide), hq.2.2⟩)
set_option maxHeartbeats 600000 in
set_option maxRecDepth 100000 in
theorem g_X7_planFor_32 (l : Launch) (dC : Nat → ClassId) (dI : Nat → Nat → Nat) (ad : Nat → Nat) (cA : Nat → ClassId) (u0 : ac_U) (p0 : Int32) (hR : ac_R rg u0) (hp0 : (0 : Int) ≤ p0.toInt ∧ p0.toInt ≤ 3) : ag_M l yX7_planFor (.code yX7_planFor cX7_planFor 3 (some .int) :: TB) 7 (dC, dI) vwCl (ac_ty cA) ad cA [.ref (ad 32), .int p0] u0 (fun (r : Int32) (n : Nat) (u : ac_U) => ac_R rg u ∧ ac_Fr [(29, some 4), (29, some 5), (29, some 6), (30, none), (32, some 8), (32, some 9), (32, some 10), (32, some 11), (32, some 12), (32, some 13), (33, none), (34, none), (35, none), (36, none), (37, none)] u0 u) := by
  refine ag_M.of (cc := cX7_planFor) (maxL := 3) (ret := (some .int)) (by decide) rfl (Nat.le_of_ble_eq_true rfl) ?_
  intro p e s m below meth c A ls F hml hr hlocks hA hP hD hS hl
  have F : ac_X p s m [.ref (ad 32), .int p0].toArray c cX7_planFor RX7 TB (dC, dI) vwCl (ac_ty cA) := ⟨F.1, F.2.1, fun w h => F.2.2.1 w (List.mem_cons_of_mem _ h), F.2.2.2.1, F.2.2.2.2⟩
  have hl : lv_has ls 3 [(0, .ref (ad 32)), (1, .int p0)] := hl
  have hF : ac_Fr [(29, some 4), (29, some 5), (29, some 6), (30, none), (32, some 8), (32, some 9), (32, some 10), (32, some 11), (32, some 12), (32, some 13), (33, none), (34, none), (35, none), (36, none), (37, none)] u0 u0 := ac_Fr.rf
  refine lv_aload_n F.1 F.2.1 dX7_planFor_0 rfl (lv_at hl 0 rfl) ?_
  refine lv_iload_n F.1 F.2.1 dX7_planFor_1 rfl (lv_at hl 1 rfl) ?_
  refine a_Vi F hml hl.1 hA hP hD hS (As := [.int p0]) (c_X7_gatherDue_32 l dC dI ad cA 0 _ p0 hR (by omega)) (cs_RX7_59 (d := 6) F.2.2.1 (by decide)) tc_32 rfl rfl rfl rfl (Nat.le_of_ble_eq_true rfl) dX7_planFor_2 ⟨Nat.zero_le _, Nat.zero_le _⟩ (fun r1 u1 H locs hq hP hD hS => ?_)
  obtain ⟨hR, hF1, gr1⟩ := hq
  have hF := hF.tr hF1 (by decide)
  refine z_ne F 10 dX7_planFor_5 (by decide) rfl (fun c2 => ?_) (fun c2 => ?_)
  · refine lv_aload_n F.1 F.2.1 dX7_planFor_10 rfl (lv_at hl 0 rfl) ?_
    refine a_ic F (1 : Int32) dX7_planFor_11 (by decide) ?_
    refine lv_aload_n F.1 F.2.1 dX7_planFor_12 rfl (lv_at hl 0 rfl) ?_
    have g3 : (0 : Int) ≤ (u1.1 32 8).toInt ∧ (u1.1 32 8).toInt ≤ 4 := hR 32 8
    refine a_geti F inX7 hP 32 8 tc_32 rfl rfl (by decide) q342 (fun _ h9 => h9) (v := (u1.1 32 8)) rfl dX7_planFor_13 ?_
    refine a_ishl1 F dX7_planFor_16 rfl (lo := 0) (hi := 4) (by omega) (by decide) (fun v4 hv4 => ?_)
    have hv4 : (1 : Int) ≤ v4.toInt ∧ v4.toInt ≤ 16 := hv4
    refine a_ic F (1 : Int32) dX7_planFor_17 (by decide) ?_
    refine a_isub F dX7_planFor_18 rfl ic_1 (by omega) (fun v5 hv5 => ?_)
    refine g_Vi F hml hl.1 hA hP hD hS (As := [.int v5]) (g_X7_fewestGoings_32 l dC dI ad cA _ v5 hR (by omega)) (cg_RX7_63 (d := 4) F.2.2.1 (by decide)) tc_32 rfl rfl rfl rfl (Nat.le_of_ble_eq_true rfl) dX7_planFor_19 ⟨Nat.le_refl 1, Nat.le_refl 51200⟩ (fun r6 u6 H locs hq _ hP hD hS => absurd hq.1 (by decide)) (fun r6 u6 ad' H locs hq had _ hP hD _ hS => ?_)
    obtain ⟨-, hR, hF6, gr6, xr6⟩ := hq
    have hF := hF.tr hF6 (by decide)
    have g7 : (0 : Int) ≤ (u6.1 32 9).toInt ∧ (u6.1 32 9).toInt ≤ 256 := hR 32 9
    refine lv_istore_n (lv' := [(2, .int r6), (0, .ref (ad 32)), (1, .int p0)]) F.1 F.2.1 dX7_planFor_22 rfl hl (by decide) rfl (fun ls hl => ?_)
    rw [← had 32 (by decide)] at hl
    refine lv_iload_n F.1 F.2.1 dX7_planFor_23 rfl (lv_at hl 0 rfl) ?_
    refine a_ic F (-1 : Int32) dX7_planFor_24 (by decide) ?_
    refine b_eq F 33 dX7_planFor_25 (by decide) rfl ic_m1 (fun c8 => ?_) (fun c8 => ?_)
    · refine lv_iload_n F.1 F.2.1 dX7_planFor_33 rfl (lv_at hl 0 rfl) ?_
      exact g_ret1 (post := (fun (r : Int32) (n : Nat) (u : ac_U) => ac_R rg u ∧ ac_Fr [(29, some 4), (29, some 5), (29, some 6), (30, none), (32, some 8), (32, some 9), (32, some 10), (32, some 11), (32, some 12), (32, some 13), (33, none), (34, none), (35, none), (36, none), (37, none)] u0 u)) F hr hlocks had hP hD hS dX7_planFor_34 ⟨hR, hF⟩
    · refine lv_aload_n F.1 F.2.1 dX7_planFor_28 rfl (lv_at hl 1 rfl) ?_
      refine lv_iload_n F.1 F.2.1 dX7_planFor_29 rfl (lv_at hl 0 rfl) ?_
      refine a_Vv F hml hl.1 hA hP hD hS (As := [.int r6]) (c_X7_writeSteps_32 l dC dI ad' cA 51200 _ r6 hR (by omega) (by omega : (1 : Int) ≤ (u6.1 32 9).toInt ∧ (u6.1 32 9).toInt ≤ 256) rfl) (cs_RX7_67 (d := 4) F.2.2.1 (by decide)) tc_32 rfl rfl rfl rfl (Nat.le_of_ble_eq_true rfl) dX7_planFor_30 ⟨Nat.le_refl 1, Nat.le_refl 51200⟩ (fun u9 H locs hq hP hD hS => ?_)
      obtain ⟨hR, hF9⟩ := hq
      have hF := hF.tr hF9 (by decide)
      refine lv_iload_n F.1 F.2.1 dX7_planFor_33 rfl (lv_at hl 0 rfl) ?_
      exact g_ret1 (post := (fun (r : Int32) (n : Nat) (u : ac_U) => ac_R rg u ∧ ac_Fr [(29, some 4), (29, some 5), (29, some 6), (30, none), (32, some 8), (32, some 9), (32, some 10), (32, some 11), (32, some 12), (32, some 13), (33, none), (34, none), (35, none), (36, none), (37, none)] u0 u)) F hr hlocks had hP hD hS dX7_planFor_34 ⟨hR, hF⟩
  · refine a_ic F (-1 : Int32) dX7_planFor_8 (by decide) ?_
    exact g_ret0 (post := (fun (r : Int32) (n : Nat) (u : ac_U) => ac_R rg u ∧ ac_Fr [(29, some 4), (29, some 5), (29, some 6), (30, none), (32, some 8), (32, some 9), (32, some 10), (32, some 11), (32, some 12), (32, some 13), (33, none), (34, none), (35, none), (36, none), (37, none)] u0 u)) F hr hlocks hP hD hS dX7_planFor_9 ⟨hR, hF⟩
set_option maxHeartbeats 600000 in
set_option maxRecDepth 100000 in
theorem g_X7_quarrelOf_32 (l : Launch) (dC : Nat → ClassId) (dI : Nat → Nat → Nat) (ad : Nat → Nat) (cA : Nat → ClassId) (u0 : ac_U) (p0 : Int32) (hR : ac_R rg u0) (hp0 : (0 : Int) ≤ p0.toInt ∧ p0.toInt ≤ 3) : ag_M l yX7_quarrelOf (.code yX7_quarrelOf cX7_quarrelOf 5 (some .int) :: TB) 7 (dC, dI) vwCl (ac_ty cA) ad cA [.ref (ad 32), .int p0] u0 (fun (r : Int32) (n : Nat) (u : ac_U) => ac_R rg u ∧ ac_Fr [(29, some 4), (29, some 5), (29, some 6), (30, none), (32, some 8), (32, some 9), (32, some 10), (32, some 11), (33, none), (34, none), (35, none), (37, none)] u0 u) := by
  refine ag_M.of (cc := cX7_quarrelOf) (maxL := 5) (ret := (some .int)) (by decide) rfl (Nat.le_of_ble_eq_true rfl) ?_
  intro p e s m below meth c A ls F hml hr hlocks hA hP hD hS hl
  have F : ac_X p s m [.ref (ad 32), .int p0].toArray c cX7_quarrelOf RX7 TB (dC, dI) vwCl (ac_ty cA) := ⟨F.1, F.2.1, fun w h => F.2.2.1 w (List.mem_cons_of_mem _ h), F.2.2.2.1, F.2.2.2.2⟩
  have hl : lv_has ls 5 [(0, .ref (ad 32)), (1, .int p0)] := hl
  have hF : ac_Fr [(29, some 4), (29, some 5), (29, some 6), (30, none), (32, some 8), (32, some 9), (32, some 10), (32, some 11), (33, none), (34, none), (35, none), (37, none)] u0 u0 := ac_Fr.rf
  refine lv_aload_n F.1 F.2.1 dX7_quarrelOf_0 rfl (lv_at hl 0 rfl) ?_
  refine lv_iload_n F.1 F.2.1 dX7_quarrelOf_1 rfl (lv_at hl 1 rfl) ?_
  refine a_Vi F hml hl.1 hA hP hD hS (As := [.int p0]) (c_X7_gatherDue_32 l dC dI ad cA 0 _ p0 hR (by omega)) (cs_RX7_59 (d := 6) F.2.2.1 (by decide)) tc_32 rfl rfl rfl rfl (Nat.le_of_ble_eq_true rfl) dX7_quarrelOf_2 ⟨Nat.zero_le _, Nat.zero_le _⟩ (fun r19 u19 H locs hq hP hD hS => ?_)
  obtain ⟨hR, hF19, gr19⟩ := hq
  have hF := hF.tr hF19 (by decide)
  refine z_ne F 10 dX7_quarrelOf_5 (by decide) rfl (fun c20 => ?_) (fun c20 => ?_)
  · refine a_ic F (1 : Int32) dX7_quarrelOf_10 (by decide) ?_
    refine lv_aload_n F.1 F.2.1 dX7_quarrelOf_11 rfl (lv_at hl 0 rfl) ?_
    have g21 : (0 : Int) ≤ (u19.1 32 8).toInt ∧ (u19.1 32 8).toInt ≤ 4 := hR 32 8
    refine a_geti F inX7 hP 32 8 tc_32 rfl rfl (by decide) q342 (fun _ h9 => h9) (v := (u19.1 32 8)) rfl dX7_quarrelOf_12 ?_
    refine a_ishl1 F dX7_quarrelOf_15 rfl (lo := 0) (hi := 4) (by omega) (by decide) (fun v22 hv22 => ?_)
    have hv22 : (1 : Int) ≤ v22.toInt ∧ v22.toInt ≤ 16 := hv22
    refine a_ic F (1 : Int32) dX7_quarrelOf_16 (by decide) ?_
    refine a_isub F dX7_quarrelOf_17 rfl ic_1 (by omega) (fun v23 hv23 => ?_)
    refine lv_istore_n (lv' := [(2, .int v23), (0, .ref (ad 32)), (1, .int p0)]) F.1 F.2.1 dX7_quarrelOf_18 rfl hl (by decide) rfl (fun ls hl => ?_)
    refine lv_aload_n F.1 F.2.1 dX7_quarrelOf_19 rfl (lv_at hl 1 rfl) ?_
    refine lv_iload_n F.1 F.2.1 dX7_quarrelOf_20 rfl (lv_at hl 0 rfl) ?_
    refine g_Vi F hml hl.1 hA hP hD hS (As := [.int v23]) (g_X7_fewestGoings_32 l dC dI ad cA _ v23 hR (by omega)) (cg_RX7_63 (d := 4) F.2.2.1 (by decide)) tc_32 rfl rfl rfl rfl (Nat.le_of_ble_eq_true rfl) dX7_quarrelOf_21 ⟨Nat.le_refl 1, Nat.le_refl 51200⟩ (fun r24 u24 H locs hq _ hP hD hS => absurd hq.1 (by decide)) (fun r24 u24 ad' H locs hq had _ hP hD _ hS => ?_)
    obtain ⟨-, hR, hF24, gr24, xr24⟩ := hq
    have hF := hF.tr hF24 (by decide)
    have g25 : (0 : Int) ≤ (u24.1 32 9).toInt ∧ (u24.1 32 9).toInt ≤ 256 := hR 32 9
    refine a_ic F (-1 : Int32) dX7_quarrelOf_24 (by decide) ?_
    refine b_eq F 30 dX7_quarrelOf_25 (by decide) rfl ic_m1 (fun c26 => ?_) (fun c26 => ?_)
    · refine a_ic F (1 : Int32) dX7_quarrelOf_30 (by decide) ?_
      refine lv_istore_n (lv' := [(3, .int (1 : Int32)), (2, .int v23), (0, .ref (ad 32)), (1, .int p0)]) F.1 F.2.1 dX7_quarrelOf_31 rfl hl (by decide) rfl (fun ls hl => ?_)
      rw [← had 32 (by decide)] at hl
      exact k_X7_quarrelOf_32_32 l dC dI ad' cA 51200 u24 p0 v23 (1 : Int32) hR hp0 rfl (by omega) (by decide) (by omega) F hml hA hP hD hS (lv_sub hl [2, 1, 0] rfl) (fun r u H locs ls pc hd hq hP hD hS => g_ret1 (post := (fun (r : Int32) (n : Nat) (u : ac_U) => ac_R rg u ∧ ac_Fr [(29, some 4), (29, some 5), (29, some 6), (30, none), (32, some 8), (32, some 9), (32, some 10), (32, some 11), (33, none), (34, none), (35, none), (37, none)] u0 u)) F hr hlocks had hP hD hS hd ⟨hq.1, hF.tr hq.2.1 (by decide)⟩)
    · refine a_ic F (0 : Int32) dX7_quarrelOf_28 (by decide) ?_
      exact g_ret1 (post := (fun (r : Int32) (n : Nat) (u : ac_U) => ac_R rg u ∧ ac_Fr [(29, some 4), (29, some 5), (29, some 6), (30, none), (32, some 8), (32, some 9), (32, some 10), (32, some 11), (33, none), (34, none), (35, none), (37, none)] u0 u)) F hr hlocks had hP hD hS dX7_quarrelOf_29 ⟨hR, hF⟩
  · refine a_ic F (-1 : Int32) dX7_quarrelOf_8 (by decide) ?_
    exact g_ret0 (post := (fun (r : Int32) (n : Nat) (u : ac_U) => ac_R rg u ∧ ac_Fr [(29, some 4), (29, some 5), (29, some 6), (30, none), (32, some 8), (32, some 9), (32, some 10), (32, some 11), (33, none), (34, none), (35, none), (37, none)] u0 u)) F hr hlocks hP hD hS dX7_quarrelOf_9 ⟨hR, hF⟩
set_option maxHeartbeats 600000 in
set_option maxRecDepth 100000 in
theorem g_X11_plan_0 (l : Launch) (dC : Nat → ClassId) (dI : Nat → Nat → Nat) (ad : Nat → Nat) (cA : Nat → ClassId) (u0 : ac_U) (p0 : Int32) (hR : ac_R rg u0) : ag_M l yX11_plan (.code yX11_plan cX11_plan 2 (some .int) :: TB) 8 (dC, dI) vwCl (ac_ty cA) ad cA [.ref (ad 0), .int p0] u0 (fun (r : Int32) (n : Nat) (u : ac_U) => ac_R rg u ∧ ac_Fr [(29, some 4), (29, some 5), (29, some 6), (30, none), (32, some 8), (32, some 9), (32, some 10), (32, some 11), (32, some 12), (32, some 13), (33, none), (34, none), (35, none), (36, none), (37, none)] u0 u) := by
  refine ag_M.of (cc := cX11_plan) (maxL := 2) (ret := (some .int)) (by decide) rfl (Nat.le_of_ble_eq_true rfl) ?_
  intro p e s m below meth c A ls F hml hr hlocks hA hP hD hS hl
  have F : ac_X p s m [.ref (ad 0), .int p0].toArray c cX11_plan RX11 TB (dC, dI) vwCl (ac_ty cA) := ⟨F.1, F.2.1, fun w h => F.2.2.1 w (List.mem_cons_of_mem _ h), F.2.2.2.1, F.2.2.2.2⟩
  have hl : lv_has ls 2 [(0, .ref (ad 0)), (1, .int p0)] := hl
  have hF : ac_Fr [(29, some 4), (29, some 5), (29, some 6), (30, none), (32, some 8), (32, some 9), (32, some 10), (32, some 11), (32, some 12), (32, some 13), (33, none), (34, none), (35, none), (36, none), (37, none)] u0 u0 := ac_Fr.rf
  have L21 : ∀ (H : Heap) (locs : List Loc) (ls : Array Slot), va_P (dC, dI) vwCl (ac_w ad cA (TT 0) u0) H → va_D A (ac_w ad cA (TT 0) u0) → va_S A s.heap H locs → W p l e (ac_rmG 8) s m [.ref (ad 0), .int p0].toArray below meth c H locs 0 0 (MQ below (va_Qi (fun r (q : ag_S) => (fun (r : Int32) (n : Nat) (u : ac_U) => ac_R rg u ∧ ac_Fr [(29, some 4), (29, some 5), (29, some 6), (30, none), (32, some 8), (32, some 9), (32, some 10), (32, some 11), (32, some 12), (32, some 13), (33, none), (34, none), (35, none), (36, none), (37, none)] u0 u) r q.1 q.2.2) (ag_B (dC, dI) vwCl (ac_ty cA) ad cA A (hz s.heap)) A) [.ref (ad 0), .int p0].toArray s 1 51200 A) (F0 m 21 ls []) := by
    intro H locs ls hP hD hS
    refine a_ic F (-1 : Int32) dX11_plan_21 (by decide) ?_
    exact g_ret0 (post := (fun (r : Int32) (n : Nat) (u : ac_U) => ac_R rg u ∧ ac_Fr [(29, some 4), (29, some 5), (29, some 6), (30, none), (32, some 8), (32, some 9), (32, some 10), (32, some 11), (32, some 12), (32, some 13), (33, none), (34, none), (35, none), (36, none), (37, none)] u0 u)) F hr hlocks hP hD hS dX11_plan_22 ⟨hR, hF⟩
  refine lv_aload_n F.1 F.2.1 dX11_plan_0 rfl (lv_at hl 0 rfl) ?_
  refine a_getr F inX11 hP 0 1 tc_0 rfl rfl (by decide) q504 (fun _ h9 => h9) dX11_plan_1 ?_
  refine lv_iload_n F.1 F.2.1 dX11_plan_4 rfl (lv_at hl 1 rfl) ?_
  refine a_Vi F hml hl.1 hA hP hD hS (As := [.int p0]) (c_X2_isPerson_4 l dC dI ad cA 0 _ p0 hR) (cs_RX11_159 (d := 1) F.2.2.1 (by decide)) tc_4 rfl rfl rfl rfl (Nat.le_of_ble_eq_true rfl) dX11_plan_5 ⟨Nat.zero_le _, Nat.zero_le _⟩ (fun r1 uN1 H locs hq hP hD hS => ?_)
  obtain ⟨hu1, gr1, xr1⟩ := hq
  rw [hu1] at hP hD
  have g2 : (0 : Int) ≤ (u0.1 4 4).toInt ∧ (u0.1 4 4).toInt ≤ 4 := hR 4 4
  have xr1 : r1.toInt ≠ 0 → 0 ≤ p0.toInt ∧ p0.toInt < (u0.1 4 4).toInt ∧ p0.toInt ≤ 3 := xr1
  refine z_eq F 21 dX11_plan_8 (by decide) rfl (fun c3 => ?_) (fun c3 => ?_)
  · exact L21 _ _ _ hP hD hS
  · refine lv_aload_n F.1 F.2.1 dX11_plan_11 rfl (lv_at hl 0 rfl) ?_
    refine a_getr F inX11 hP 0 4 tc_0 rfl rfl (by decide) q507 (fun _ h9 => h9) dX11_plan_12 ?_
    refine a_Vi F hml hl.1 hA hP hD hS (As := []) (c_X6_isOver_24 l dC dI ad cA 0 _  hR) (cs_RX11_221 (d := 2) F.2.2.1 (by decide)) tc_24 rfl rfl rfl rfl (Nat.le_of_ble_eq_true rfl) dX11_plan_15 ⟨Nat.zero_le _, Nat.zero_le _⟩ (fun r4 uN4 H locs hq hP hD hS => ?_)
    obtain ⟨hu4, gr4, xr4⟩ := hq
    rw [hu4] at hP hD
    refine z_eq F 23 dX11_plan_18 (by decide) rfl (fun c7 => ?_) (fun c7 => ?_)
    · refine lv_aload_n F.1 F.2.1 dX11_plan_23 rfl (lv_at hl 0 rfl) ?_
      refine a_getr F inX11 hP 0 6 tc_0 rfl rfl (by decide) q509 (fun _ h9 => h9) dX11_plan_24 ?_
      refine lv_iload_n F.1 F.2.1 dX11_plan_27 rfl (lv_at hl 1 rfl) ?_
      refine g_Vi F hml hl.1 hA hP hD hS (As := [.int p0]) (g_X7_planFor_32 l dC dI ad cA _ p0 hR (by omega)) (cg_RX11_254 (d := 7) F.2.2.1 (by decide)) tc_32 rfl rfl rfl rfl (Nat.le_of_ble_eq_true rfl) dX11_plan_28 ⟨Nat.le_refl 1, Nat.le_refl 51200⟩ (fun r8 u8 H locs hq _ hP hD hS => ?_) (fun r8 u8 ad' H locs hq had _ hP hD _ hS => ?_)
      · exact g_ret0 (post := (fun (r : Int32) (n : Nat) (u : ac_U) => ac_R rg u ∧ ac_Fr [(29, some 4), (29, some 5), (29, some 6), (30, none), (32, some 8), (32, some 9), (32, some 10), (32, some 11), (32, some 12), (32, some 13), (33, none), (34, none), (35, none), (36, none), (37, none)] u0 u)) F hr hlocks hP hD hS dX11_plan_31 ⟨hq.1, hF.tr hq.2 (by decide)⟩
      · exact g_ret1 (post := (fun (r : Int32) (n : Nat) (u : ac_U) => ac_R rg u ∧ ac_Fr [(29, some 4), (29, some 5), (29, some 6), (30, none), (32, some 8), (32, some 9), (32, some 10), (32, some 11), (32, some 12), (32, some 13), (33, none), (34, none), (35, none), (36, none), (37, none)] u0 u)) F hr hlocks had hP hD hS dX11_plan_31 ⟨hq.1, hF.tr hq.2 (by decide)⟩
    · exact L21 _ _ _ hP hD hS
set_option maxHeartbeats 600000 in
set_option maxRecDepth 100000 in
theorem g_X11_quarrel_0 (l : Launch) (dC : Nat → ClassId) (dI : Nat → Nat → Nat) (ad : Nat → Nat) (cA : Nat → ClassId) (u0 : ac_U) (p0 : Int32) (hR : ac_R rg u0) : ag_M l yX11_quarrel (.code yX11_quarrel cX11_quarrel 2 (some .int) :: TB) 8 (dC, dI) vwCl (ac_ty cA) ad cA [.ref (ad 0), .int p0] u0 (fun (r : Int32) (n : Nat) (u : ac_U) => ac_R rg u ∧ ac_Fr [(29, some 4), (29, some 5), (29, some 6), (30, none), (32, some 8), (32, some 9), (32, some 10), (32, some 11), (33, none), (34, none), (35, none), (37, none)] u0 u) := by
  refine ag_M.of (cc := cX11_quarrel) (maxL := 2) (ret := (some .int)) (by decide) rfl (Nat.le_of_ble_eq_true rfl) ?_
  intro p e s m below meth c A ls F hml hr hlocks hA hP hD hS hl
  have F : ac_X p s m [.ref (ad 0), .int p0].toArray c cX11_quarrel RX11 TB (dC, dI) vwCl (ac_ty cA) := ⟨F.1, F.2.1, fun w h => F.2.2.1 w (List.mem_cons_of_mem _ h), F.2.2.2.1, F.2.2.2.2⟩
  have hl : lv_has ls 2 [(0, .ref (ad 0)), (1, .int p0)] := hl
  have hF : ac_Fr [(29, some 4), (29, some 5), (29, some 6), (30, none), (32, some 8), (32, some 9), (32, some 10), (32, some 11), (33, none), (34, none), (35, none), (37, none)] u0 u0 := ac_Fr.rf
  have L21 : ∀ (H : Heap) (locs : List Loc) (ls : Array Slot), va_P (dC, dI) vwCl (ac_w ad cA (TT 0) u0) H → va_D A (ac_w ad cA (TT 0) u0) → va_S A s.heap H locs → W p l e (ac_rmG 8) s m [.ref (ad 0), .int p0].toArray below meth c H locs 0 0 (MQ below (va_Qi (fun r (q : ag_S) => (fun (r : Int32) (n : Nat) (u : ac_U) => ac_R rg u ∧ ac_Fr [(29, some 4), (29, some 5), (29, some 6), (30, none), (32, some 8), (32, some 9), (32, some 10), (32, some 11), (33, none), (34, none), (35, none), (37, none)] u0 u) r q.1 q.2.2) (ag_B (dC, dI) vwCl (ac_ty cA) ad cA A (hz s.heap)) A) [.ref (ad 0), .int p0].toArray s 1 51200 A) (F0 m 21 ls []) := by
    intro H locs ls hP hD hS
    refine a_ic F (-1 : Int32) dX11_quarrel_21 (by decide) ?_
    exact g_ret0 (post := (fun (r : Int32) (n : Nat) (u : ac_U) => ac_R rg u ∧ ac_Fr [(29, some 4), (29, some 5), (29, some 6), (30, none), (32, some 8), (32, some 9), (32, some 10), (32, some 11), (33, none), (34, none), (35, none), (37, none)] u0 u)) F hr hlocks hP hD hS dX11_quarrel_22 ⟨hR, hF⟩
  refine lv_aload_n F.1 F.2.1 dX11_quarrel_0 rfl (lv_at hl 0 rfl) ?_
  refine a_getr F inX11 hP 0 1 tc_0 rfl rfl (by decide) q504 (fun _ h9 => h9) dX11_quarrel_1 ?_
  refine lv_iload_n F.1 F.2.1 dX11_quarrel_4 rfl (lv_at hl 1 rfl) ?_
  refine a_Vi F hml hl.1 hA hP hD hS (As := [.int p0]) (c_X2_isPerson_4 l dC dI ad cA 0 _ p0 hR) (cs_RX11_159 (d := 1) F.2.2.1 (by decide)) tc_4 rfl rfl rfl rfl (Nat.le_of_ble_eq_true rfl) dX11_quarrel_5 ⟨Nat.zero_le _, Nat.zero_le _⟩ (fun r1 uN1 H locs hq hP hD hS => ?_)
  obtain ⟨hu1, gr1, xr1⟩ := hq
  rw [hu1] at hP hD
  have g2 : (0 : Int) ≤ (u0.1 4 4).toInt ∧ (u0.1 4 4).toInt ≤ 4 := hR 4 4
  have xr1 : r1.toInt ≠ 0 → 0 ≤ p0.toInt ∧ p0.toInt < (u0.1 4 4).toInt ∧ p0.toInt ≤ 3 := xr1
  refine z_eq F 21 dX11_quarrel_8 (by decide) rfl (fun c3 => ?_) (fun c3 => ?_)
  · exact L21 _ _ _ hP hD hS
  · refine lv_aload_n F.1 F.2.1 dX11_quarrel_11 rfl (lv_at hl 0 rfl) ?_
    refine a_getr F inX11 hP 0 4 tc_0 rfl rfl (by decide) q507 (fun _ h9 => h9) dX11_quarrel_12 ?_
    refine a_Vi F hml hl.1 hA hP hD hS (As := []) (c_X6_isOver_24 l dC dI ad cA 0 _  hR) (cs_RX11_221 (d := 2) F.2.2.1 (by decide)) tc_24 rfl rfl rfl rfl (Nat.le_of_ble_eq_true rfl) dX11_quarrel_15 ⟨Nat.zero_le _, Nat.zero_le _⟩ (fun r4 uN4 H locs hq hP hD hS => ?_)
    obtain ⟨hu4, gr4, xr4⟩ := hq
    rw [hu4] at hP hD
    refine z_eq F 23 dX11_quarrel_18 (by decide) rfl (fun c7 => ?_) (fun c7 => ?_)
    · refine lv_aload_n F.1 F.2.1 dX11_quarrel_23 rfl (lv_at hl 0 rfl) ?_
      refine a_getr F inX11 hP 0 6 tc_0 rfl rfl (by decide) q509 (fun _ h9 => h9) dX11_quarrel_24 ?_
      refine lv_iload_n F.1 F.2.1 dX11_quarrel_27 rfl (lv_at hl 1 rfl) ?_
      refine g_Vi F hml hl.1 hA hP hD hS (As := [.int p0]) (g_X7_quarrelOf_32 l dC dI ad cA _ p0 hR (by omega)) (cg_RX11_260 (d := 7) F.2.2.1 (by decide)) tc_32 rfl rfl rfl rfl (Nat.le_of_ble_eq_true rfl) dX11_quarrel_28 ⟨Nat.le_refl 1, Nat.le_refl 51200⟩ (fun r8 u8 H locs hq _ hP hD hS => ?_) (fun r8 u8 ad' H locs hq had _ hP hD _ hS => ?_)
      · exact g_ret0 (post := (fun (r : Int32) (n : Nat) (u : ac_U) => ac_R rg u ∧ ac_Fr [(29, some 4), (29, some 5), (29, some 6), (30, none), (32, some 8), (32, some 9), (32, some 10), (32, some 11), (33, none), (34, none), (35, none), (37, none)] u0 u)) F hr hlocks hP hD hS dX11_quarrel_31 ⟨hq.1, hF.tr hq.2 (by decide)⟩
      · exact g_ret1 (post := (fun (r : Int32) (n : Nat) (u : ac_U) => ac_R rg u ∧ ac_Fr [(29, some 4), (29, some 5), (29, some 6), (30, none), (32, some 8), (32, some 9), (32, some 10), (32, some 11), (33, none), (34, none), (35, none), (37, none)] u0 u)) F hr hlocks had hP hD hS dX11_quarrel_31 ⟨hq.1, hF.tr hq.2 (by decide)⟩
    · exact L21 _ _ _ hP hD hS

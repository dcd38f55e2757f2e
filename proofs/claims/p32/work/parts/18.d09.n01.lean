set_option maxHeartbeats 600000 in
set_option maxRecDepth 100000 in
theorem c_X12_odds_85__3 (l : Launch) (dC : Nat → ClassId) (dI : Nat → Nat → Nat) (ad : Nat → Nat) (cA : Nat → ClassId) (nF : Nat) (u0 : ac_U) (p0 : Int32) (p1 : Int32) (p2 : Int32) (hR : ac_R rg u0) (hK_MS : msI u0) (hK_UI : unI u0) (hK_CW : cdI u0) (hK_AP : apI u0) (hK_AU : auI u0) : ac_Mi l yX12_odds (.code yX12_odds cX12_odds 6 (some .int) :: TB) 7 (dC, dI) vwCl (ac_ty cA) ad cA (TT nF) [.ref (ad 85), .int p0, .int p1, .int p2] u0 (fun (r : Int32) (u : ac_U) => ac_R rg u ∧ ac_Fr [(85, some 0), (85, some 34), (87, none), (94, none)] u0 u ∧ msI u ∧ unI u ∧ cdI u ∧ apI u ∧ auI u ∧ (hxI u0 → hxI u)) := by
  refine ac_Mi.of (cc := cX12_odds) (maxL := 6) (ret := (some .int)) (by decide) rfl (Nat.le_of_ble_eq_true rfl) ?_
  intro p e s m below meth c A ls F hml hr hlocks hA hP hD hS hl
  have F : ac_X p s m [.ref (ad 85), .int p0, .int p1, .int p2].toArray c cX12_odds RX12 TB (dC, dI) vwCl (ac_ty cA) := ⟨F.1, F.2.1, fun w h => F.2.2.1 w (List.mem_cons_of_mem _ h), F.2.2.2.1, F.2.2.2.2⟩
  have hl : lv_has ls 6 [(0, .ref (ad 85)), (1, .int p0), (2, .int p1), (3, .int p2)] := hl
  have hF : ac_Fr [(85, some 0), (85, some 34), (87, none), (94, none)] u0 u0 := ac_Fr.rf
  have hK_i_HX : (fun u => hxI u0 → hxI u) u0 := fun h => h
  have L44 : ∀ (n44 : Nat) (x4 : Int32) (x5 : Int32) (u : ac_U) (H : Heap) (locs : List Loc) (ls : Array Slot), ac_R rg u → ac_Fr [(85, some 0), (85, some 34), (87, none), (94, none)] u0 u → 30 - x5.toInt < (n44 : Int) → msI u → unI u → cdI u → bfI u → apI u → auI u → abI u → (fun u => hxI u0 → hxI u) u → (0 : Int) ≤ p0.toInt ∧ p0.toInt ≤ 7 → (1 : Int) ≤ p1.toInt ∧ p1.toInt ≤ 30 → (0 : Int) ≤ x5.toInt ∧ x5.toInt ≤ 30 → (0 : Int) ≤ (u.1 85 0).toInt ∧ (u.1 85 0).toInt ≤ 0 → va_P (dC, dI) vwCl (ac_w ad cA (TT nF) u) H → va_D A (ac_w ad cA (TT nF) u) → va_S A s.heap H locs → lv_has ls 6 [(0, .ref (ad 85)), (1, .int p0), (2, .int p1), (3, .int p2), (4, .int x4), (5, .int x5)] → W p l e (ac_rm 7) s m [.ref (ad 85), .int p0, .int p1, .int p2].toArray below meth c H locs 0 0 (MQ below (va_Qi (fun (r : Int32) (u : ac_U) => ac_R rg u ∧ ac_Fr [(85, some 0), (85, some 34), (87, none), (94, none)] u0 u ∧ msI u ∧ unI u ∧ cdI u ∧ apI u ∧ auI u ∧ (hxI u0 → hxI u)) (ac_B (dC, dI) vwCl (ac_ty cA) ad cA (TT nF) A) A) [.ref (ad 85), .int p0, .int p1, .int p2].toArray s 0 0 A) (F0 m 44 ls []) := by
    intro n44
    induction n44 with
    | zero => intro x4 x5 u H locs ls hR hF hn44 hK_MS hK_UI hK_CW hK_BI hK_AP hK_AU hK_AB hK_i_HX f0 f1 f2 f3 hP hD hS hl; exfalso; omega
    | succ n44 ih44 =>
      intro x4 x5 u H locs ls hR hF hn44 hK_MS hK_UI hK_CW hK_BI hK_AP hK_AU hK_AB hK_i_HX f0 f1 f2 f3 hP hD hS hl
      have L84 : ∀ (x5 : Int32) (z0 : Int32) (z1 : Int32) (u : ac_U) (H : Heap) (locs : List Loc) (ls : Array Slot), ac_R rg u → ac_Fr [(85, some 0), (85, some 34), (87, none), (94, none)] u0 u → msI u → unI u → cdI u → bfI u → apI u → auI u → abI u → (fun u => hxI u0 → hxI u) u → (0 : Int) ≤ p0.toInt ∧ p0.toInt ≤ 7 → (1 : Int) ≤ p1.toInt ∧ p1.toInt ≤ 30 → (0 : Int) ≤ x5.toInt ∧ x5.toInt ≤ 29 → (0 : Int) ≤ z1.toInt ∧ z1.toInt ≤ 1 → (0 : Int) ≤ (u.1 85 0).toInt ∧ (u.1 85 0).toInt ≤ 0 → 30 - x5.toInt + 0 < ((n44 : Nat) : Int) + 1 → va_P (dC, dI) vwCl (ac_w ad cA (TT nF) u) H → va_D A (ac_w ad cA (TT nF) u) → va_S A s.heap H locs → lv_has ls 6 [(0, .ref (ad 85)), (1, .int p0), (2, .int p1), (3, .int p2), (5, .int x5)] → W p l e (ac_rm 7) s m [.ref (ad 85), .int p0, .int p1, .int p2].toArray below meth c H locs 0 0 (MQ below (va_Qi (fun (r : Int32) (u : ac_U) => ac_R rg u ∧ ac_Fr [(85, some 0), (85, some 34), (87, none), (94, none)] u0 u ∧ msI u ∧ unI u ∧ cdI u ∧ apI u ∧ auI u ∧ (hxI u0 → hxI u)) (ac_B (dC, dI) vwCl (ac_ty cA) ad cA (TT nF) A) A) [.ref (ad 85), .int p0, .int p1, .int p2].toArray s 0 0 A) (F0 m 84 ls [.int z1, .int z0]) := by
        intro x5 z0 z1 u H locs ls hR hF hK_MS hK_UI hK_CW hK_BI hK_AP hK_AU hK_AB hK_i_HX f0 f1 f2 f3 f4 f5 hP hD hS hl
        refine a_iaddU F dX12_odds_84 (fun v1 => ?_)
        refine lv_istore (lv' := [(4, .int v1), (0, .ref (ad 85)), (1, .int p0), (2, .int p1), (3, .int p2), (5, .int x5)]) F.1 F.2.1 dX12_odds_85 hl (by decide) rfl (fun ls hl => ?_)
        refine lv_aload_n F.1 F.2.1 dX12_odds_87 rfl (lv_at hl 1 rfl) ?_
        refine a_Vv F hml hl.1 hA hP hD hS (As := []) (c_X12_back_85__4 l dC dI ad cA nF _  hR hK_MS hK_BI hK_AP hK_AB) (cs_RX12_395 (d := 1) F.2.2.1 (by decide)) tc_85 rfl rfl rfl rfl (Nat.le_of_ble_eq_true rfl) dX12_odds_88 ⟨Nat.le_refl 0, Nat.le_refl 0⟩ (fun u2 H locs hq hP hD hS => ?_)
        obtain ⟨hR, hF2, hK_MS, hK_BI, hK_AP, hK_AB, hJ2_CW, hJ2_UI, hJ2_AU, hJ2_HX⟩ := hq
        have hF := hF.tr hF2 (by decide)
        have hK_UI := hJ2_UI hK_UI
        have hK_CW := hJ2_CW hK_CW
        have hK_AU := hJ2_AU hK_AU
        have hK_i_HX : (fun u => hxI u0 → hxI u) u2 := fun h => hJ2_HX (hK_i_HX h)
        refine a_iinc F (k := 5) (fun v3 => [(5, .int v3), (4, .int v1), (0, .ref (ad 85)), (1, .int p0), (2, .int p1), (3, .int p2)]) dX12_odds_91 hl rfl rfl (by decide) (by omega) (by decide) (fun _ => rfl) (fun v3 ls hv3 hl => ?_)
        refine lv_goto (tgt := 44) F.1 F.2.1 dX12_odds_94 (by decide) ?_
        exact ih44 v1 v3 _ _ _ _ hR hF (by omega) hK_MS hK_UI hK_CW hK_BI hK_AP hK_AU hK_AB hK_i_HX (by omega) (by omega) (by omega) (i_trB (hF2 85 0 rfl) (by omega : (0 : Int) ≤ (u.1 85 0).toInt ∧ (u.1 85 0).toInt ≤ 0)) hP hD hS (lv_sub hl [2, 3, 4, 5, 1, 0] rfl)
      refine lv_iload F.1 F.2.1 dX12_odds_44 (lv_at hl 5 rfl) ?_
      refine lv_iload_n F.1 F.2.1 dX12_odds_46 rfl (lv_at hl 2 rfl) ?_
      refine b_ge F 97 dX12_odds_47 (by decide) rfl rfl (fun c4 => ?_) (fun c4 => ?_)
      · refine lv_iload F.1 F.2.1 dX12_odds_97 (lv_at hl 4 rfl) ?_
        exact a_reti F hr hlocks hP hD hS dX12_odds_99 ⟨hR, hF, hK_MS, hK_UI, hK_CW, hK_AP, hK_AU, hK_i_HX⟩
      · refine lv_aload_n F.1 F.2.1 dX12_odds_50 rfl (lv_at hl 0 rfl) ?_
        refine a_ic F (2 : Int32) dX12_odds_51 (by decide) ?_
        refine lv_aload_n F.1 F.2.1 dX12_odds_52 rfl (lv_at hl 0 rfl) ?_
        refine a_getr F inX12 hP 85 6 tc_85 rfl rfl (by decide) q1477 (fun _ h9 => h9) dX12_odds_53 ?_
        refine a_ic F (0 : Int32) dX12_odds_56 (by decide) ?_
        have g5 : (4 : Int) ≤ (u.1 87 0).toInt ∧ (u.1 87 0).toInt ≤ 24 := hR 87 0
        refine a_ialdK F hP 87 0 tc_87 rfl rfl (i_in ic_0 (by omega)) (v := (u.1 87 0)) rfl dX12_odds_57 ?_
        refine a_imul F dX12_odds_58 ic_2 rfl (by omega) (fun v6 hv6 => ?_)
        refine lv_iload_n F.1 F.2.1 dX12_odds_59 rfl (lv_at hl 3 rfl) ?_
        refine lv_iload F.1 F.2.1 dX12_odds_60 (lv_at hl 5 rfl) ?_
        refine a_iaddU F dX12_odds_62 (fun v7 => ?_)
        refine a_Vi F hml hl.1 hA hP hD hS (As := [.int v6, .int v7]) (c_X12_draws_85__3 l dC dI ad cA nF _ v6 v7 hR (by omega) hK_MS hK_AP) (cs_RX12_389 (d := 3) F.2.2.1 (by decide)) tc_85 rfl rfl rfl rfl (Nat.le_of_ble_eq_true rfl) dX12_odds_63 ⟨Nat.le_refl 0, Nat.le_refl 0⟩ (fun r8 u8 H locs hq hP hD hS => ?_)
        obtain ⟨hR, hF8, gr8, hK_MS, hK_AP, hJ8_CW, hJ8_UI, hJ8_BI, hJ8_AU, hJ8_AB, hJ8_HX⟩ := hq
        have hF := hF.tr hF8 (by decide)
        have hK_UI := hJ8_UI hK_UI
        have hK_CW := hJ8_CW hK_CW
        have hK_BI := hJ8_BI hK_BI
        have hK_AU := hJ8_AU hK_AU
        have hK_AB := hJ8_AB hK_AB
        have hK_i_HX : (fun u => hxI u0 → hxI u) u8 := fun h => hJ8_HX (hK_i_HX h)
        refine lv_pop F.1 F.2.1 dX12_odds_66 rfl ?_
        refine lv_iload F.1 F.2.1 dX12_odds_67 (lv_at hl 4 rfl) ?_
        refine lv_aload_n F.1 F.2.1 dX12_odds_69 rfl (lv_at hl 0 rfl) ?_
        refine lv_iload_n F.1 F.2.1 dX12_odds_70 rfl (lv_at hl 1 rfl) ?_
        refine a_ic F (0 : Int32) dX12_odds_71 (by decide) ?_
        refine a_Vi F hml hl.1 hA hP hD hS (As := [.int p0, .int (0 : Int32)]) (c_X12_statusOf_85 l dC dI ad cA nF _ p0 (0 : Int32) hR (by omega) (by decide)) (cs_RX12_257 (d := 6) F.2.2.1 (by decide)) tc_85 rfl rfl rfl rfl (Nat.le_of_ble_eq_true rfl) dX12_odds_72 ⟨Nat.le_refl 0, Nat.le_refl 0⟩ (fun r9 uN9 H locs hq hP hD hS => ?_)
        obtain ⟨hu9, gr9⟩ := hq
        rw [hu9] at hP hD
        refine a_ic F (4 : Int32) dX12_odds_75 (by decide) ?_
        refine b_ne F 83 dX12_odds_76 (by decide) rfl ic_4 (fun c10 => ?_) (fun c10 => ?_)
        · refine a_ic F (0 : Int32) dX12_odds_83 (by decide) ?_
          exact L84 x5 x4 (0 : Int32) _ _ _ _ hR hF hK_MS hK_UI hK_CW hK_BI hK_AP hK_AU hK_AB hK_i_HX (by omega) (by omega) (by omega) (by decide) (i_trB (hF8 85 0 rfl) (by omega : (0 : Int) ≤ (u.1 85 0).toInt ∧ (u.1 85 0).toInt ≤ 0)) (by omega) hP hD hS (lv_sub hl [0, 1, 2, 3, 5] rfl)
        · refine a_ic F (1 : Int32) dX12_odds_79 (by decide) ?_
          refine lv_goto (tgt := 84) F.1 F.2.1 dX12_odds_80 (by decide) ?_
          exact L84 x5 x4 (1 : Int32) _ _ _ _ hR hF hK_MS hK_UI hK_CW hK_BI hK_AP hK_AU hK_AB hK_i_HX (by omega) (by omega) (by omega) (by decide) (i_trB (hF8 85 0 rfl) (by omega : (0 : Int) ≤ (u.1 85 0).toInt ∧ (u.1 85 0).toInt ≤ 0)) (by omega) hP hD hS (lv_sub hl [0, 1, 2, 3, 5] rfl)
  have L32 : ∀ (u : ac_U) (H : Heap) (locs : List Loc) (ls : Array Slot), ac_R rg u → ac_Fr [(85, some 0), (85, some 34), (87, none), (94, none)] u0 u → msI u → unI u → cdI u → apI u → auI u → (fun u => hxI u0 → hxI u) u → (0 : Int) ≤ (u.1 85 0).toInt ∧ (u.1 85 0).toInt ≤ 0 → va_P (dC, dI) vwCl (ac_w ad cA (TT nF) u) H → va_D A (ac_w ad cA (TT nF) u) → va_S A s.heap H locs → lv_has ls 6 [] → W p l e (ac_rm 7) s m [.ref (ad 85), .int p0, .int p1, .int p2].toArray below meth c H locs 0 0 (MQ below (va_Qi (fun (r : Int32) (u : ac_U) => ac_R rg u ∧ ac_Fr [(85, some 0), (85, some 34), (87, none), (94, none)] u0 u ∧ msI u ∧ unI u ∧ cdI u ∧ apI u ∧ auI u ∧ (hxI u0 → hxI u)) (ac_B (dC, dI) vwCl (ac_ty cA) ad cA (TT nF) A) A) [.ref (ad 85), .int p0, .int p1, .int p2].toArray s 0 0 A) (F0 m 32 ls []) := by
    intro u H locs ls hR hF hK_MS hK_UI hK_CW hK_AP hK_AU hK_i_HX f0 hP hD hS hl
    refine a_ic F (-1 : Int32) dX12_odds_32 (by decide) ?_
    exact a_reti F hr hlocks hP hD hS dX12_odds_33 ⟨hR, hF, hK_MS, hK_UI, hK_CW, hK_AP, hK_AU, hK_i_HX⟩
  refine lv_aload_n F.1 F.2.1 dX12_odds_0 rfl (lv_at hl 0 rfl) ?_
  refine a_ic F (0 : Int32) dX12_odds_1 (by decide) ?_
  refine a_puti F inX12 tyX12 tyX12_ok nmX12 hP hD hS 85 0 tc_85 rfl rfl (by decide) q1471 (fun _ h9 => h9) rfl (ty := .int) (tyX12_ok 0 (by decide)) rfl rfl dX12_odds_2 (fun H locs hP hD hS => ?_)
  have hR := hR.si (c := 85) (k := 0) (v := (0 : Int32)) (by rw [ic_0]; exact (by omega : (0 : Int) ≤ (0 : Int) ∧ (0 : Int) ≤ 1))
  have hF := hF.si (c := 85) (k := 0) (v := (0 : Int32)) rfl
  have hK_MS := sp_sgD sp_MS hD hK_MS (by decide)
  have hK_UI := sp_si sp_UI hK_UI (c := 85) (k := 0) (v := (0 : Int32)) (fun j9 h9 q9 => by rw [q9] at h9; exact absurd h9 (by decide))
  have hK_CW := sp_sgD sp_CW hD hK_CW (by decide)
  have hK_AP := sp_sgD sp_AP hD hK_AP (by decide)
  have hK_AU := sp_si sp_AU hK_AU (c := 85) (k := 0) (v := (0 : Int32)) (fun j9 h9 q9 => by rw [q9] at h9; exact absurd h9 (by decide))
  have hK_i_HX := sp_sgD (sp_imp sp_HX) hD hK_i_HX (by decide)
  refine lv_aload_n F.1 F.2.1 dX12_odds_5 rfl (lv_at hl 0 rfl) ?_
  refine lv_iload_n F.1 F.2.1 dX12_odds_6 rfl (lv_at hl 1 rfl) ?_
  refine a_Vi F hml hl.1 hA hP hD hS (As := [.int p0]) (c_X12_isPromise_85 l dC dI ad cA nF _ p0 hR) (cs_RX12_244 (d := 2) F.2.2.1 (by decide)) tc_85 rfl rfl rfl rfl (Nat.le_of_ble_eq_true rfl) dX12_odds_7 ⟨Nat.le_refl 0, Nat.le_refl 0⟩ (fun r11 uN11 H locs hq hP hD hS => ?_)
  obtain ⟨hu11, gr11, xr11⟩ := hq
  rw [hu11] at hP hD
  have xr11 : r11.toInt ≠ 0 → 0 ≤ p0.toInt ∧ p0.toInt ≤ 7 := xr11
  refine z_eq F 32 dX12_odds_10 (by decide) rfl (fun c12 => ?_) (fun c12 => ?_)
  · exact L32 _ _ _ _ hR hF hK_MS hK_UI hK_CW hK_AP hK_AU hK_i_HX (by omega : (0 : Int) ≤ (0 : Int) ∧ (0 : Int) ≤ 0) hP hD hS (lv_sub hl [] rfl)
  · refine lv_iload_n F.1 F.2.1 dX12_odds_13 rfl (lv_at hl 2 rfl) ?_
    refine a_ic F (1 : Int32) dX12_odds_14 (by decide) ?_
    refine a_bp F (30 : Int32) dX12_odds_15 (by decide) ?_
    refine a_Si F hml hl.1 hA hP hD hS (As := [.int p1, .int (1 : Int32), .int (30 : Int32)]) (c_X12_isIn l dC dI ad cA nF _ p1 (1 : Int32) (30 : Int32) hR (by decide)) (cs_RX12_187 (d := 1) F.2.2.1 (by decide)) rfl rfl (Nat.le_of_ble_eq_true rfl) dX12_odds_17 ⟨Nat.le_refl 0, Nat.le_refl 0⟩ (fun r13 uN13 H locs hq hP hD hS => ?_)
    obtain ⟨hu13, gr13, xr13⟩ := hq
    rw [hu13] at hP hD
    have xr13 : r13.toInt ≠ 0 → (1 : Int) ≤ p1.toInt ∧ p1.toInt ≤ (30 : Int) := xr13
    refine z_eq F 32 dX12_odds_20 (by decide) rfl (fun c14 => ?_) (fun c14 => ?_)
    · exact L32 _ _ _ _ hR hF hK_MS hK_UI hK_CW hK_AP hK_AU hK_i_HX (by omega : (0 : Int) ≤ (0 : Int) ∧ (0 : Int) ≤ 0) hP hD hS (lv_sub hl [] rfl)
    · refine lv_aload_n F.1 F.2.1 dX12_odds_23 rfl (lv_at hl 0 rfl) ?_
      refine a_getr F inX12 hP 85 6 tc_85 rfl rfl (by decide) q1477 (fun _ h9 => h9) dX12_odds_24 ?_
      refine a_ic F (4 : Int32) dX12_odds_27 (by decide) ?_
      have g15 : (0 : Int) ≤ (u0.1 87 4).toInt ∧ (u0.1 87 4).toInt ≤ 4 := hR 87 4
      refine a_ialdK F hP 87 4 tc_87 rfl rfl (i_in ic_4 (by omega)) (v := (u0.1 87 4)) rfl dX12_odds_28 ?_
      refine z_ne F 34 dX12_odds_29 (by decide) rfl (fun c16 => ?_) (fun c16 => ?_)
      · refine lv_aload_n F.1 F.2.1 dX12_odds_34 rfl (lv_at hl 0 rfl) ?_
        refine a_Vv F hml hl.1 hA hP hD hS (As := []) (c_X12_tries_85__3 l dC dI ad cA nF _  hR hK_MS hK_AP) (cs_RX12_392 (d := 1) F.2.2.1 (by decide)) tc_85 rfl rfl rfl rfl (Nat.le_of_ble_eq_true rfl) dX12_odds_35 ⟨Nat.le_refl 0, Nat.le_refl 0⟩ (fun u17 H locs hq hP hD hS => ?_)
        obtain ⟨hR, hF17, hK_BI, hK_AB⟩ := hq
        have hF := hF.tr hF17 (by decide)
        have hK_MS := sp_fr sp_MS hF17 (by decide) hK_MS
        have hK_UI := sp_fr sp_UI hF17 (by decide) hK_UI
        have hK_CW := sp_fr sp_CW hF17 (by decide) hK_CW
        have hK_AP := sp_fr sp_AP hF17 (by decide) hK_AP
        have hK_AU := sp_fr sp_AU hF17 (by decide) hK_AU
        have hK_i_HX := sp_fr (sp_imp sp_HX) hF17 (by decide) hK_i_HX
        refine a_ic F (0 : Int32) dX12_odds_38 (by decide) ?_
        refine lv_istore (lv' := [(4, .int (0 : Int32)), (0, .ref (ad 85)), (1, .int p0), (2, .int p1), (3, .int p2)]) F.1 F.2.1 dX12_odds_39 hl (by decide) rfl (fun ls hl => ?_)
        refine a_ic F (0 : Int32) dX12_odds_41 (by decide) ?_
        refine lv_istore (lv' := [(5, .int (0 : Int32)), (4, .int (0 : Int32)), (0, .ref (ad 85)), (1, .int p0), (2, .int p1), (3, .int p2)]) F.1 F.2.1 dX12_odds_42 hl (by decide) rfl (fun ls hl => ?_)
        exact L44 32 (0 : Int32) (0 : Int32) _ _ _ _ hR hF (by decide) hK_MS hK_UI hK_CW hK_BI hK_AP hK_AU hK_AB hK_i_HX (by omega) (by omega) (by decide) (i_trB (hF17 85 0 rfl) (by omega : (0 : Int) ≤ (0 : Int) ∧ (0 : Int) ≤ 0)) hP hD hS (lv_sub hl [2, 3, 4, 5, 1, 0] rfl)
      · exact L32 _ _ _ _ hR hF hK_MS hK_UI hK_CW hK_AP hK_AU hK_i_HX (by omega : (0 : Int) ≤ (0 : Int) ∧ (0 : Int) ≤ 0) hP hD hS (lv_sub hl [] rfl)
set_option maxHeartbeats 600000 in
set_option maxRecDepth 100000 in
theorem c_X12_say_85__4 (l : Launch) (dC : Nat → ClassId) (dI : Nat → Nat → Nat) (ad : Nat → Nat) (cA : Nat → ClassId) (nF : Nat) (u0 : ac_U) (p0 : Int32) (p1 : Int32) (hR : ac_R rg u0) (hK_MS : msI u0) (hK_UI : unI u0) (hK_CW : cdI u0) (hK_AP : apI u0) (hK_AU : auI u0) : ac_Mi l yX12_say (.code yX12_say cX12_say 4 (some .int) :: TB) 3 (dC, dI) vwCl (ac_ty cA) ad cA (TT nF) [.ref (ad 85), .int p0, .int p1] u0 (fun (r : Int32) (u : ac_U) => ac_R rg u ∧ ac_Fr [(85, some 0), (85, some 24), (87, none), (93, none)] u0 u ∧ ((-1 : Int) ≤ r.toInt ∧ r.toInt ≤ 6) ∧ msI u ∧ unI u ∧ cdI u ∧ apI u ∧ auI u ∧ (hxI u0 → hxI u)) := by
  refine ac_Mi.of (cc := cX12_say) (maxL := 4) (ret := (some .int)) (by decide) rfl (Nat.le_of_ble_eq_true rfl) ?_
  intro p e s m below meth c A ls F hml hr hlocks hA hP hD hS hl
  have F : ac_X p s m [.ref (ad 85), .int p0, .int p1].toArray c cX12_say RX12 TB (dC, dI) vwCl (ac_ty cA) := ⟨F.1, F.2.1, fun w h => F.2.2.1 w (List.mem_cons_of_mem _ h), F.2.2.2.1, F.2.2.2.2⟩
  have hl : lv_has ls 4 [(0, .ref (ad 85)), (1, .int p0), (2, .int p1)] := hl
  have hF : ac_Fr [(85, some 0), (85, some 24), (87, none), (93, none)] u0 u0 := ac_Fr.rf
  have hK_i_HX : (fun u => hxI u0 → hxI u) u0 := fun h => h
  have L21 : ∀ (u : ac_U) (H : Heap) (locs : List Loc) (ls : Array Slot), ac_R rg u → ac_Fr [(85, some 0), (85, some 24), (87, none), (93, none)] u0 u → msI u → unI u → cdI u → apI u → auI u → (fun u => hxI u0 → hxI u) u → (0 : Int) ≤ (u.1 85 0).toInt ∧ (u.1 85 0).toInt ≤ 0 → va_P (dC, dI) vwCl (ac_w ad cA (TT nF) u) H → va_D A (ac_w ad cA (TT nF) u) → va_S A s.heap H locs → lv_has ls 4 [] → W p l e (ac_rm 3) s m [.ref (ad 85), .int p0, .int p1].toArray below meth c H locs 0 0 (MQ below (va_Qi (fun (r : Int32) (u : ac_U) => ac_R rg u ∧ ac_Fr [(85, some 0), (85, some 24), (87, none), (93, none)] u0 u ∧ ((-1 : Int) ≤ r.toInt ∧ r.toInt ≤ 6) ∧ msI u ∧ unI u ∧ cdI u ∧ apI u ∧ auI u ∧ (hxI u0 → hxI u)) (ac_B (dC, dI) vwCl (ac_ty cA) ad cA (TT nF) A) A) [.ref (ad 85), .int p0, .int p1].toArray s 0 0 A) (F0 m 21 ls []) := by
    intro u H locs ls hR hF hK_MS hK_UI hK_CW hK_AP hK_AU hK_i_HX f0 hP hD hS hl
    refine a_ic F (-1 : Int32) dX12_say_21 (by decide) ?_
    exact a_reti F hr hlocks hP hD hS dX12_say_22 ⟨hR, hF, (by decide), hK_MS, hK_UI, hK_CW, hK_AP, hK_AU, hK_i_HX⟩
  refine lv_aload_n F.1 F.2.1 dX12_say_0 rfl (lv_at hl 0 rfl) ?_
  refine a_ic F (0 : Int32) dX12_say_1 (by decide) ?_
  refine a_puti F inX12 tyX12 tyX12_ok nmX12 hP hD hS 85 0 tc_85 rfl rfl (by decide) q1471 (fun _ h9 => h9) rfl (ty := .int) (tyX12_ok 0 (by decide)) rfl rfl dX12_say_2 (fun H locs hP hD hS => ?_)
  have hR := hR.si (c := 85) (k := 0) (v := (0 : Int32)) (by rw [ic_0]; exact (by omega : (0 : Int) ≤ (0 : Int) ∧ (0 : Int) ≤ 1))
  have hF := hF.si (c := 85) (k := 0) (v := (0 : Int32)) rfl
  have hK_MS := sp_sgD sp_MS hD hK_MS (by decide)
  have hK_UI := sp_si sp_UI hK_UI (c := 85) (k := 0) (v := (0 : Int32)) (fun j9 h9 q9 => by rw [q9] at h9; exact absurd h9 (by decide))
  have hK_CW := sp_sgD sp_CW hD hK_CW (by decide)
  have hK_AP := sp_sgD sp_AP hD hK_AP (by decide)
  have hK_AU := sp_si sp_AU hK_AU (c := 85) (k := 0) (v := (0 : Int32)) (fun j9 h9 q9 => by rw [q9] at h9; exact absurd h9 (by decide))
  have hK_i_HX := sp_sgD (sp_imp sp_HX) hD hK_i_HX (by decide)
  refine lv_aload_n F.1 F.2.1 dX12_say_5 rfl (lv_at hl 0 rfl) ?_
  refine lv_iload_n F.1 F.2.1 dX12_say_6 rfl (lv_at hl 1 rfl) ?_
  refine a_Vi F hml hl.1 hA hP hD hS (As := [.int p0]) (c_X12_isPerson_85 l dC dI ad cA nF _ p0 hR) (cs_RX12_251 (d := 2) F.2.2.1 (by decide)) tc_85 rfl rfl rfl rfl (Nat.le_of_ble_eq_true rfl) dX12_say_7 ⟨Nat.le_refl 0, Nat.le_refl 0⟩ (fun r1 uN1 H locs hq hP hD hS => ?_)
  obtain ⟨hu1, gr1, xr1⟩ := hq
  rw [hu1] at hP hD
  have xr1 : r1.toInt ≠ 0 → 0 ≤ p0.toInt ∧ p0.toInt ≤ 3 := xr1
  refine z_eq F 21 dX12_say_10 (by decide) rfl (fun c2 => ?_) (fun c2 => ?_)
  · exact L21 _ _ _ _ hR hF hK_MS hK_UI hK_CW hK_AP hK_AU hK_i_HX (by omega : (0 : Int) ≤ (0 : Int) ∧ (0 : Int) ≤ 0) hP hD hS (lv_sub hl [] rfl)
  · refine lv_aload_n F.1 F.2.1 dX12_say_13 rfl (lv_at hl 0 rfl) ?_
    refine lv_iload_n F.1 F.2.1 dX12_say_14 rfl (lv_at hl 2 rfl) ?_
    refine a_Vi F hml hl.1 hA hP hD hS (As := [.int p1]) (c_X12_isPromise_85 l dC dI ad cA nF _ p1 hR) (cs_RX12_244 (d := 2) F.2.2.1 (by decide)) tc_85 rfl rfl rfl rfl (Nat.le_of_ble_eq_true rfl) dX12_say_15 ⟨Nat.le_refl 0, Nat.le_refl 0⟩ (fun r3 uN3 H locs hq hP hD hS => ?_)
    obtain ⟨hu3, gr3, xr3⟩ := hq
    rw [hu3] at hP hD
    have xr3 : r3.toInt ≠ 0 → 0 ≤ p1.toInt ∧ p1.toInt ≤ 7 := xr3
    refine z_ne F 23 dX12_say_18 (by decide) rfl (fun c4 => ?_) (fun c4 => ?_)
    · refine lv_aload_n F.1 F.2.1 dX12_say_23 rfl (lv_at hl 0 rfl) ?_
      refine lv_iload_n F.1 F.2.1 dX12_say_24 rfl (lv_at hl 1 rfl) ?_
      refine lv_iload_n F.1 F.2.1 dX12_say_25 rfl (lv_at hl 2 rfl) ?_
      refine a_Vi F hml hl.1 hA hP hD hS (As := [.int p0, .int p1]) (c_X12_whySay_85 l dC dI ad cA nF _ p0 p1 hR (by omega) (by omega)) (cs_RX12_286 (d := 2) F.2.2.1 (by decide)) tc_85 rfl rfl rfl rfl (Nat.le_of_ble_eq_true rfl) dX12_say_26 ⟨Nat.le_refl 0, Nat.le_refl 0⟩ (fun r5 uN5 H locs hq hP hD hS => ?_)
      obtain ⟨hu5, gr5⟩ := hq
      rw [hu5] at hP hD
      refine lv_istore_n (lv' := [(3, .int r5), (0, .ref (ad 85)), (1, .int p0), (2, .int p1)]) F.1 F.2.1 dX12_say_29 rfl hl (by decide) rfl (fun ls hl => ?_)
      refine lv_iload_n F.1 F.2.1 dX12_say_30 rfl (lv_at hl 0 rfl) ?_
      refine z_le F 36 dX12_say_31 (by decide) rfl (fun c6 => ?_) (fun c6 => ?_)
      · refine lv_aload_n F.1 F.2.1 dX12_say_36 rfl (lv_at hl 1 rfl) ?_
        refine a_Vv F hml hl.1 hA hP hD hS (As := []) (c_X12_keep_85__3 l dC dI ad cA nF _  hR hK_MS hK_UI hK_AP hK_AU) (cs_RX12_269 (d := 1) F.2.2.1 (by decide)) tc_85 rfl rfl rfl rfl (Nat.le_of_ble_eq_true rfl) dX12_say_37 ⟨Nat.le_refl 0, Nat.le_refl 0⟩ (fun u7 H locs hq hP hD hS => ?_)
        obtain ⟨hR, hF7, xr7, hK_MS, hK_UI, hK_AP, hK_AU⟩ := hq
        have hF := hF.tr hF7 (by decide)
        have hK_CW := sp_fr sp_CW hF7 (by decide) hK_CW
        have hK_i_HX := sp_fr (sp_imp sp_HX) hF7 (by decide) hK_i_HX
        have g8 : (0 : Int) ≤ (u7.1 85 24).toInt ∧ (u7.1 85 24).toInt ≤ 8 := hR 85 24
        have xr7 : 1 ≤ (u7.1 85 24).toInt := xr7
        refine lv_aload_n F.1 F.2.1 dX12_say_40 rfl (lv_at hl 1 rfl) ?_
        refine lv_iload_n F.1 F.2.1 dX12_say_41 rfl (lv_at hl 2 rfl) ?_
        refine lv_iload_n F.1 F.2.1 dX12_say_42 rfl (lv_at hl 3 rfl) ?_
        refine a_Vv F hml hl.1 hA hP hD hS (As := [.int p0, .int p1]) (c_X12_says_85__4 l dC dI ad cA nF _ p0 p1 hR (by omega) (by omega)) (cs_RX12_289 (d := 1) F.2.2.1 (by decide)) tc_85 rfl rfl rfl rfl (Nat.le_of_ble_eq_true rfl) dX12_say_43 ⟨Nat.le_refl 0, Nat.le_refl 0⟩ (fun u9 H locs hq hP hD hS => ?_)
        obtain ⟨hR, hF9, xr9, hJ9_MS, hJ9_CW, hJ9_UI, hJ9_BI, hJ9_AP, hJ9_AU, hJ9_AB, hJ9_BG, hJ9_HX⟩ := hq
        have hF := hF.tr hF9 (by decide)
        have hK_MS := hJ9_MS hK_MS
        have hK_UI := hJ9_UI hK_UI
        have hK_CW := hJ9_CW hK_CW
        have hK_AP := hJ9_AP hK_AP
        have hK_AU := hJ9_AU hK_AU
        have hK_i_HX : (fun u => hxI u0 → hxI u) u9 := fun h => hJ9_HX (hK_i_HX h)
        have g10 : (0 : Int) ≤ (u9.1 87 106).toInt ∧ (u9.1 87 106).toInt ≤ 480 := hR 87 106
        have g11 : (4 : Int) ≤ (u9.1 87 0).toInt ∧ (u9.1 87 0).toInt ≤ 24 := hR 87 0
        have xr9 : (u9.1 87 106).toInt = (u7.1 87 106).toInt ∧ (u9.1 87 0).toInt = (u7.1 87 0).toInt := xr9
        refine a_ic F (0 : Int32) dX12_say_46 (by decide) ?_
        exact a_reti F hr hlocks hP hD hS dX12_say_47 ⟨hR, hF, (by decide), hK_MS, hK_UI, hK_CW, hK_AP, hK_AU, hK_i_HX⟩
      · refine lv_iload_n F.1 F.2.1 dX12_say_34 rfl (lv_at hl 0 rfl) ?_
        exact a_reti F hr hlocks hP hD hS dX12_say_35 ⟨hR, hF, (by omega : (-1 : Int) ≤ r5.toInt ∧ r5.toInt ≤ 6), hK_MS, hK_UI, hK_CW, hK_AP, hK_AU, hK_i_HX⟩
    · exact L21 _ _ _ _ hR hF hK_MS hK_UI hK_CW hK_AP hK_AU hK_i_HX (by omega : (0 : Int) ≤ (0 : Int) ∧ (0 : Int) ≤ 0) hP hD hS (lv_sub hl [] rfl)
set_option maxHeartbeats 600000 in
set_option maxRecDepth 100000 in
theorem c_X12_sentence_85__3 (l : Launch) (dC : Nat → ClassId) (dI : Nat → Nat → Nat) (ad : Nat → Nat) (cA : Nat → ClassId) (nF : Nat) (u0 : ac_U)  (hR : ac_R rg u0) (hK_MS : msI u0) (hK_UI : unI u0) (hK_CW : cdI u0) (hK_AP : apI u0) (hK_AU : auI u0) : ac_Mi l yX12_sentence (.code yX12_sentence cX12_sentence 3 (some .int) :: TB) 4 (dC, dI) vwCl (ac_ty cA) ad cA (TT nF) [.ref (ad 85)] u0 (fun (r : Int32) (u : ac_U) => ac_R rg u ∧ ac_Fr [(85, some 0), (85, some 2), (85, some 3), (85, some 4), (85, some 5), (85, some 11), (85, some 12), (85, some 13), (85, some 14), (85, some 15), (85, some 16), (85, some 18), (85, some 39), (85, some 40), (85, some 41), (85, some 42), (85, some 43), (87, none), (89, none), (100, none)] u0 u ∧ msI u ∧ unI u ∧ cdI u ∧ apI u ∧ auI u ∧ (ln0 85) u ∧ (hxI u0 → hxI u)) := by
  refine ac_Mi.of (cc := cX12_sentence) (maxL := 3) (ret := (some .int)) (by decide) rfl (Nat.le_of_ble_eq_true rfl) ?_
  intro p e s m below meth c A ls F hml hr hlocks hA hP hD hS hl
  have F : ac_X p s m [.ref (ad 85)].toArray c cX12_sentence RX12 TB (dC, dI) vwCl (ac_ty cA) := ⟨F.1, F.2.1, fun w h => F.2.2.1 w (List.mem_cons_of_mem _ h), F.2.2.2.1, F.2.2.2.2⟩
  have hl : lv_has ls 3 [(0, .ref (ad 85))] := hl
  have hF : ac_Fr [(85, some 0), (85, some 2), (85, some 3), (85, some 4), (85, some 5), (85, some 11), (85, some 12), (85, some 13), (85, some 14), (85, some 15), (85, some 16), (85, some 18), (85, some 39), (85, some 40), (85, some 41), (85, some 42), (85, some 43), (87, none), (89, none), (100, none)] u0 u0 := ac_Fr.rf
  have hK_i_HX : (fun u => hxI u0 → hxI u) u0 := fun h => h
  have L146 : ∀ (n146 : Nat) (x2 : Int32) (u : ac_U) (H : Heap) (locs : List Loc) (ls : Array Slot), ac_R rg u → ac_Fr [(85, some 0), (85, some 2), (85, some 3), (85, some 4), (85, some 5), (85, some 11), (85, some 12), (85, some 13), (85, some 14), (85, some 15), (85, some 16), (85, some 18), (85, some 39), (85, some 40), (85, some 41), (85, some 42), (85, some 43), (87, none), (89, none), (100, none)] u0 u → 135 - x2.toInt < (n146 : Int) → msI u → unI u → swW u → scI x2.toInt u → apI u → auI u → (ln0 85) u → (fun u => hxI u0 → hxI u) u → (0 : Int) ≤ x2.toInt ∧ x2.toInt ≤ 135 → (0 : Int) ≤ (u.1 85 0).toInt ∧ (u.1 85 0).toInt ≤ 0 → va_P (dC, dI) vwCl (ac_w ad cA (TT nF) u) H → va_D A (ac_w ad cA (TT nF) u) → va_S A s.heap H locs → lv_has ls 3 [(0, .ref (ad 85)), (2, .int x2)] → W p l e (ac_rm 4) s m [.ref (ad 85)].toArray below meth c H locs 0 0 (MQ below (va_Qi (fun (r : Int32) (u : ac_U) => ac_R rg u ∧ ac_Fr [(85, some 0), (85, some 2), (85, some 3), (85, some 4), (85, some 5), (85, some 11), (85, some 12), (85, some 13), (85, some 14), (85, some 15), (85, some 16), (85, some 18), (85, some 39), (85, some 40), (85, some 41), (85, some 42), (85, some 43), (87, none), (89, none), (100, none)] u0 u ∧ msI u ∧ unI u ∧ cdI u ∧ apI u ∧ auI u ∧ (ln0 85) u ∧ (hxI u0 → hxI u)) (ac_B (dC, dI) vwCl (ac_ty cA) ad cA (TT nF) A) A) [.ref (ad 85)].toArray s 0 0 A) (F0 m 146 ls []) := by
    intro n146
    induction n146 with
    | zero => intro x2 u H locs ls hR hF hn146 hK_MS hK_UI hK_SWW hK_SCx hK_AP hK_AU hK_LR hK_i_HX f0 f1 hP hD hS hl; exfalso; omega
    | succ n146 ih146 =>
      intro x2 u H locs ls hR hF hn146 hK_MS hK_UI hK_SWW hK_SCx hK_AP hK_AU hK_LR hK_i_HX f0 f1 hP hD hS hl
      refine lv_iload_n F.1 F.2.1 dX12_sentence_146 rfl (lv_at hl 1 rfl) ?_
      refine a_ic F (3 : Int32) dX12_sentence_147 (by decide) ?_
      refine lv_aload_n F.1 F.2.1 dX12_sentence_148 rfl (lv_at hl 0 rfl) ?_
      have g1 : (0 : Int) ≤ (u.1 85 39).toInt ∧ (u.1 85 39).toInt ≤ 45 := hR 85 39
      refine a_geti F inX12 hP 85 39 tc_85 rfl rfl (by decide) q1510 (fun _ h9 => h9) (v := (u.1 85 39)) rfl dX12_sentence_149 ?_
      refine a_imul F dX12_sentence_152 ic_3 rfl (by omega) (fun v2 hv2 => ?_)
      refine b_ge F 178 dX12_sentence_153 (by decide) rfl rfl (fun c3 => ?_) (fun c3 => ?_)
      · refine lv_aload_n F.1 F.2.1 dX12_sentence_178 rfl (lv_at hl 0 rfl) ?_
        have g4 : (0 : Int) ≤ (u.1 85 40).toInt ∧ (u.1 85 40).toInt ≤ 20 := hR 85 40
        refine a_geti F inX12 hP 85 40 tc_85 rfl rfl (by decide) q1511 (fun _ h9 => h9) (v := (u.1 85 40)) rfl dX12_sentence_179 ?_
        exact a_reti F hr hlocks hP hD hS dX12_sentence_182 ⟨hR, hF, hK_MS, hK_UI, (sc_cw hK_SWW hK_SCx (by omega) (by omega)), hK_AP, hK_AU, hK_LR, hK_i_HX⟩
      · refine lv_aload_n F.1 F.2.1 dX12_sentence_156 rfl (lv_at hl 0 rfl) ?_
        refine a_getr F inX12 hP 85 6 tc_85 rfl rfl (by decide) q1477 (fun _ h9 => h9) dX12_sentence_157 ?_
        refine a_sp F (477 : Int32) dX12_sentence_160 (by decide) ?_
        refine lv_iload_n F.1 F.2.1 dX12_sentence_163 rfl (lv_at hl 1 rfl) ?_
        refine a_iadd F dX12_sentence_164 ic_477 rfl (by omega) (fun v5 hv5 => ?_)
        refine lv_aload_n F.1 F.2.1 dX12_sentence_165 rfl (lv_at hl 0 rfl) ?_
        refine a_getr F inX12 hP 85 8 tc_85 rfl rfl (by decide) q1479 (fun _ h9 => h9) dX12_sentence_166 ?_
        refine lv_iload_n F.1 F.2.1 dX12_sentence_169 rfl (lv_at hl 1 rfl) ?_
        refine a_iald F hP 89 tc_89 rfl (i_in rfl (by omega)) dX12_sentence_170 (fun v6 ev6 => ?_)
        refine a_iast F hP hD hS 87 tc_87 rfl (i_in rfl (by omega)) dX12_sentence_171 (fun H locs hP hD hS => ?_)
        have hR := hR.si (c := 87) (k := v5.toNatClampNeg) (v := v6) (rs_87_477_611 (by omega) ⟨i_lo _, i_hi _⟩)
        have hF := hF.si (c := 87) (k := v5.toNatClampNeg) (v := v6) rfl
        have hO_MS := hK_MS
        have hO_UI := hK_UI
        have hO_SWW := hK_SWW
        have hO_SCx := hK_SCx
        have hO_AP := hK_AP
        have hO_AU := hK_AU
        have hO_LR := hK_LR
        have hO_i_HX := hK_i_HX
        have hK_MS := sp_si sp_MS hK_MS (c := 87) (k := v5.toNatClampNeg) (v := v6) (fun j9 h9 => by have q8 := sp_mem h9; simp at q8; have q9 := i_cl (x := v5) (by omega); omega)
        have hK_UI := sp_si sp_UI hK_UI (c := 87) (k := v5.toNatClampNeg) (v := v6) (fun j9 h9 => by have q8 := sp_mem h9; simp at q8; have q9 := i_cl (x := v5) (by omega); omega)
        have hK_SWW := sp_sgD sp_SWW hD hK_SWW (by decide)
        have hK_SCx := sc_w hO_SCx (i := x2) (k := v5) (by omega) (by omega) ev6
        have hK_AP := sp_si sp_AP hK_AP (c := 87) (k := v5.toNatClampNeg) (v := v6) (fun j9 h9 => by have q8 := sp_mem h9; simp at q8; have q9 := i_cl (x := v5) (by omega); omega)
        have hK_AU := sp_si sp_AU hK_AU (c := 87) (k := v5.toNatClampNeg) (v := v6) (fun j9 h9 => by have q8 := sp_mem h9; simp at q8; have q9 := i_cl (x := v5) (by omega); omega)
        have hK_LR := sp_sgD (sp_ln0 85) hD hK_LR (by decide)
        have hK_i_HX := sp_si (sp_imp sp_HX) hK_i_HX (c := 87) (k := v5.toNatClampNeg) (v := v6) (fun j9 h9 => by have q8 := sp_mem h9; simp at q8; have q9 := i_cl (x := v5) (by omega); omega)
        refine a_iinc F (k := 1) (fun v7 => [(2, .int v7), (0, .ref (ad 85))]) dX12_sentence_172 hl rfl rfl (by decide) (by omega) (by decide) (fun _ => rfl) (fun v7 ls hv7 hl => ?_)
        refine lv_goto (tgt := 146) F.1 F.2.1 dX12_sentence_175 (by decide) ?_
        have g8 : (0 : Int) ≤ (u.1 85 0).toInt ∧ (u.1 85 0).toInt ≤ 1 := hR 85 0
        exact ih146 v7 _ _ _ _ hR hF (by omega) hK_MS hK_UI hK_SWW (sc_le hK_SCx (by omega)) hK_AP hK_AU hK_LR hK_i_HX (by omega) (by omega : (0 : Int) ≤ (u.1 85 0).toInt ∧ (u.1 85 0).toInt ≤ 0) hP hD hS (lv_sub hl [1, 0] rfl)
  have L125 : ∀ (u : ac_U) (H : Heap) (locs : List Loc) (ls : Array Slot), ac_R rg u → ac_Fr [(85, some 0), (85, some 2), (85, some 3), (85, some 4), (85, some 5), (85, some 11), (85, some 12), (85, some 13), (85, some 14), (85, some 15), (85, some 16), (85, some 18), (85, some 39), (85, some 40), (85, some 41), (85, some 42), (85, some 43), (87, none), (89, none), (100, none)] u0 u → msI u → unI u → cdI u → apI u → auI u → (ln0 85) u → (fun u => hxI u0 → hxI u) u → (0 : Int) ≤ (u.1 85 0).toInt ∧ (u.1 85 0).toInt ≤ 0 → va_P (dC, dI) vwCl (ac_w ad cA (TT nF) u) H → va_D A (ac_w ad cA (TT nF) u) → va_S A s.heap H locs → lv_has ls 3 [(0, .ref (ad 85))] → W p l e (ac_rm 4) s m [.ref (ad 85)].toArray below meth c H locs 0 0 (MQ below (va_Qi (fun (r : Int32) (u : ac_U) => ac_R rg u ∧ ac_Fr [(85, some 0), (85, some 2), (85, some 3), (85, some 4), (85, some 5), (85, some 11), (85, some 12), (85, some 13), (85, some 14), (85, some 15), (85, some 16), (85, some 18), (85, some 39), (85, some 40), (85, some 41), (85, some 42), (85, some 43), (87, none), (89, none), (100, none)] u0 u ∧ msI u ∧ unI u ∧ cdI u ∧ apI u ∧ auI u ∧ (ln0 85) u ∧ (hxI u0 → hxI u)) (ac_B (dC, dI) vwCl (ac_ty cA) ad cA (TT nF) A) A) [.ref (ad 85)].toArray s 0 0 A) (F0 m 125 ls []) := by
    intro u H locs ls hR hF hK_MS hK_UI hK_CW hK_AP hK_AU hK_LR hK_i_HX f0 hP hD hS hl
    refine a_ic F (-1 : Int32) dX12_sentence_125 (by decide) ?_
    refine lv_aload_n F.1 F.2.1 dX12_sentence_126 rfl (lv_at hl 0 rfl) ?_
    refine a_geti F inX12 hP 85 16 tc_85 rfl rfl (by decide) q1487 (fun _ h9 => h9) (v := (u.1 85 16)) rfl dX12_sentence_127 ?_
    refine a_isub F dX12_sentence_130 ic_m1 rfl (by have q0 := i_lo (u.1 85 16); have q1 := i_hi (u.1 85 16); omega) (fun v9 hv9 => ?_)
    exact a_reti F hr hlocks hP hD hS dX12_sentence_131 ⟨hR, hF, hK_MS, hK_UI, hK_CW, hK_AP, hK_AU, hK_LR, hK_i_HX⟩
  have L48 : ∀ (n48 : Nat) (x1 : Int32) (u : ac_U) (H : Heap) (locs : List Loc) (ls : Array Slot), ac_R rg u → ac_Fr [(85, some 0), (85, some 2), (85, some 3), (85, some 4), (85, some 5), (85, some 11), (85, some 12), (85, some 13), (85, some 14), (85, some 15), (85, some 16), (85, some 18), (85, some 39), (85, some 40), (85, some 41), (85, some 42), (85, some 43), (87, none), (89, none), (100, none)] u0 u → 4 * (21 - (u.1 85 40).toInt) + (u.1 85 41).toInt + 2 * (u.1 85 43).toInt + x1.toInt < (n48 : Int) → msI u → unI u → cdI u → apI u → auI u → swW u → (ln0 85) u → (fun u => hxI u0 → hxI u) u → (0 : Int) ≤ x1.toInt ∧ x1.toInt ≤ 1 → (0 : Int) ≤ (u.1 85 0).toInt ∧ (u.1 85 0).toInt ≤ 0 → (u.1 85 39).toInt + (u.1 85 41).toInt ≤ 2 * (u.1 85 40).toInt - (u.1 85 43).toInt → va_P (dC, dI) vwCl (ac_w ad cA (TT nF) u) H → va_D A (ac_w ad cA (TT nF) u) → va_S A s.heap H locs → lv_has ls 3 [(0, .ref (ad 85)), (1, .int x1)] → W p l e (ac_rm 4) s m [.ref (ad 85)].toArray below meth c H locs 0 0 (MQ below (va_Qi (fun (r : Int32) (u : ac_U) => ac_R rg u ∧ ac_Fr [(85, some 0), (85, some 2), (85, some 3), (85, some 4), (85, some 5), (85, some 11), (85, some 12), (85, some 13), (85, some 14), (85, some 15), (85, some 16), (85, some 18), (85, some 39), (85, some 40), (85, some 41), (85, some 42), (85, some 43), (87, none), (89, none), (100, none)] u0 u ∧ msI u ∧ unI u ∧ cdI u ∧ apI u ∧ auI u ∧ (ln0 85) u ∧ (hxI u0 → hxI u)) (ac_B (dC, dI) vwCl (ac_ty cA) ad cA (TT nF) A) A) [.ref (ad 85)].toArray s 0 0 A) (F0 m 48 ls []) := by
    intro n48
    induction n48 with
    | zero => intro x1 u H locs ls hR hF hn48 hK_MS hK_UI hK_CW hK_AP hK_AU hK_SWW hK_LR hK_i_HX f0 f1 f2 hP hD hS hl; have gz0 : (0 : Int) ≤ (u.1 85 40).toInt ∧ (u.1 85 40).toInt ≤ 20 := hR 85 40; have gz1 : (0 : Int) ≤ (u.1 85 41).toInt ∧ (u.1 85 41).toInt ≤ 45 := hR 85 41; have gz2 : (0 : Int) ≤ (u.1 85 43).toInt ∧ (u.1 85 43).toInt ≤ 1 := hR 85 43; exfalso; omega
    | succ n48 ih48 =>
      intro x1 u H locs ls hR hF hn48 hK_MS hK_UI hK_CW hK_AP hK_AU hK_SWW hK_LR hK_i_HX f0 f1 f2 hP hD hS hl
      have L101 : ∀ (x1 : Int32) (u : ac_U) (H : Heap) (locs : List Loc) (ls : Array Slot), ac_R rg u → ac_Fr [(85, some 0), (85, some 2), (85, some 3), (85, some 4), (85, some 5), (85, some 11), (85, some 12), (85, some 13), (85, some 14), (85, some 15), (85, some 16), (85, some 18), (85, some 39), (85, some 40), (85, some 41), (85, some 42), (85, some 43), (87, none), (89, none), (100, none)] u0 u → msI u → unI u → cdI u → apI u → auI u → swW u → (ln0 85) u → (fun u => hxI u0 → hxI u) u → (1 : Int) ≤ x1.toInt ∧ x1.toInt ≤ 1 → (0 : Int) ≤ (u.1 85 0).toInt ∧ (u.1 85 0).toInt ≤ 0 → (0 : Int) ≤ (u.1 85 43).toInt ∧ (u.1 85 43).toInt ≤ 1 → (u.1 85 39).toInt + (u.1 85 41).toInt ≤ 2 * (u.1 85 40).toInt - (u.1 85 43).toInt → 4 * (21 - (u.1 85 40).toInt) + (u.1 85 41).toInt + 2 * (u.1 85 43).toInt + x1.toInt < ((n48 : Nat) : Int) + 1 → va_P (dC, dI) vwCl (ac_w ad cA (TT nF) u) H → va_D A (ac_w ad cA (TT nF) u) → va_S A s.heap H locs → lv_has ls 3 [(0, .ref (ad 85)), (1, .int x1)] → W p l e (ac_rm 4) s m [.ref (ad 85)].toArray below meth c H locs 0 0 (MQ below (va_Qi (fun (r : Int32) (u : ac_U) => ac_R rg u ∧ ac_Fr [(85, some 0), (85, some 2), (85, some 3), (85, some 4), (85, some 5), (85, some 11), (85, some 12), (85, some 13), (85, some 14), (85, some 15), (85, some 16), (85, some 18), (85, some 39), (85, some 40), (85, some 41), (85, some 42), (85, some 43), (87, none), (89, none), (100, none)] u0 u ∧ msI u ∧ unI u ∧ cdI u ∧ apI u ∧ auI u ∧ (ln0 85) u ∧ (hxI u0 → hxI u)) (ac_B (dC, dI) vwCl (ac_ty cA) ad cA (TT nF) A) A) [.ref (ad 85)].toArray s 0 0 A) (F0 m 101 ls []) := by
        intro x1 u H locs ls hR hF hK_MS hK_UI hK_CW hK_AP hK_AU hK_SWW hK_LR hK_i_HX f0 f1 f2 f3 f4 hP hD hS hl
        refine lv_aload_n F.1 F.2.1 dX12_sentence_101 rfl (lv_at hl 0 rfl) ?_
        have g10 : (0 : Int) ≤ (u.1 85 43).toInt ∧ (u.1 85 43).toInt ≤ 1 := hR 85 43
        refine a_geti F inX12 hP 85 43 tc_85 rfl rfl (by decide) q1514 (fun _ h9 => h9) (v := (u.1 85 43)) rfl dX12_sentence_102 ?_
        refine z_eq F 118 dX12_sentence_105 (by decide) rfl (fun c11 => ?_) (fun c11 => ?_)
        · refine lv_aload_n F.1 F.2.1 dX12_sentence_118 rfl (lv_at hl 0 rfl) ?_
          have g12 : (0 : Int) ≤ (u.1 85 39).toInt ∧ (u.1 85 39).toInt ≤ 45 := hR 85 39
          have g13 : (0 : Int) ≤ (u.1 85 41).toInt ∧ (u.1 85 41).toInt ≤ 45 := hR 85 41
          have g14 : (0 : Int) ≤ (u.1 85 40).toInt ∧ (u.1 85 40).toInt ≤ 20 := hR 85 40
          refine a_Vi F hml hl.1 hA hP hD hS (As := []) (c_X12_operand_85 l dC dI ad cA nF _  hR (by omega : (0 : Int) ≤ (u.1 85 43).toInt ∧ (u.1 85 43).toInt ≤ 0) (by omega : (u.1 85 39).toInt + (u.1 85 41).toInt ≤ 2 * (u.1 85 40).toInt) (sw_of hK_SWW (by omega))) (cs_RX12_444 (d := 3) F.2.2.1 (by decide)) tc_85 rfl rfl rfl rfl (Nat.le_of_ble_eq_true rfl) dX12_sentence_119 ⟨Nat.le_refl 0, Nat.le_refl 0⟩ (fun r15 u15 H locs hq hP hD hS => ?_)
          obtain ⟨hR, hF15, gr15, xr15, hK_r15_SWW⟩ := hq
          have hF := hF.tr hF15 (by decide)
          have hK_MS := sp_fr sp_MS hF15 (by decide) hK_MS
          have hK_UI := sp_fr sp_UI hF15 (by decide) hK_UI
          have hK_CW := sp_fr sp_CW hF15 (by decide) hK_CW
          have hK_AP := sp_fr sp_AP hF15 (by decide) hK_AP
          have hK_AU := sp_fr sp_AU hF15 (by decide) hK_AU
          have hK_LR := sp_fr (sp_ln0 85) hF15 (by decide) hK_LR
          have hK_i_HX := sp_fr (sp_imp sp_HX) hF15 (by decide) hK_i_HX
          have g16 : (0 : Int) ≤ (u15.1 85 40).toInt ∧ (u15.1 85 40).toInt ≤ 20 := hR 85 40
          have g17 : (0 : Int) ≤ (u15.1 85 39).toInt ∧ (u15.1 85 39).toInt ≤ 45 := hR 85 39
          have g18 : (0 : Int) ≤ (u15.1 85 41).toInt ∧ (u15.1 85 41).toInt ≤ 45 := hR 85 41
          have g19 : (0 : Int) ≤ (u15.1 85 43).toInt ∧ (u15.1 85 43).toInt ≤ 1 := hR 85 43
          have xr15 : r15.toInt ≠ 0 → (u15.1 85 40).toInt = (u.1 85 40).toInt + 1 ∧ (u15.1 85 39).toInt + (u15.1 85 41).toInt ≤ 2 * (u15.1 85 40).toInt - (u15.1 85 43).toInt ∧ (u15.1 85 41).toInt + 2 * (u15.1 85 43).toInt ≤ (u.1 85 41).toInt + 2 := xr15
          refine z_ne F 48 dX12_sentence_122 (by decide) rfl (fun c20 => ?_) (fun c20 => ?_)
          · have hK_SWW := hK_r15_SWW (by omega)
            exact ih48 x1 _ _ _ _ hR hF (by omega : 4 * (21 - (u15.1 85 40).toInt) + (u15.1 85 41).toInt + 2 * (u15.1 85 43).toInt + x1.toInt < ((n48 : Nat) : Int)) hK_MS hK_UI hK_CW hK_AP hK_AU hK_SWW hK_LR hK_i_HX (by omega) (i_trB (hF15 85 0 rfl) (by omega : (0 : Int) ≤ (u.1 85 0).toInt ∧ (u.1 85 0).toInt ≤ 0)) (by omega : (u15.1 85 39).toInt + (u15.1 85 41).toInt ≤ 2 * (u15.1 85 40).toInt - (u15.1 85 43).toInt) hP hD hS (lv_sub hl [0, 1] rfl)
          · exact L125 _ _ _ _ hR hF hK_MS hK_UI hK_CW hK_AP hK_AU hK_LR hK_i_HX (i_trB (hF15 85 0 rfl) (by omega : (0 : Int) ≤ (u.1 85 0).toInt ∧ (u.1 85 0).toInt ≤ 0)) hP hD hS (lv_sub hl [0] rfl)
        · refine lv_aload_n F.1 F.2.1 dX12_sentence_108 rfl (lv_at hl 0 rfl) ?_
          have g21 : (0 : Int) ≤ (u.1 85 39).toInt ∧ (u.1 85 39).toInt ≤ 45 := hR 85 39
          have g22 : (0 : Int) ≤ (u.1 85 41).toInt ∧ (u.1 85 41).toInt ≤ 45 := hR 85 41
          have g23 : (0 : Int) ≤ (u.1 85 40).toInt ∧ (u.1 85 40).toInt ≤ 20 := hR 85 40
          refine a_Vi F hml hl.1 hA hP hD hS (As := []) (c_X12_behind_85 l dC dI ad cA nF _  hR (by omega : (1 : Int) ≤ (u.1 85 43).toInt ∧ (u.1 85 43).toInt ≤ 1) (by omega : (u.1 85 39).toInt + (u.1 85 41).toInt + 1 ≤ 2 * (u.1 85 40).toInt) (sw_of hK_SWW (by omega))) (cs_RX12_441 (d := 3) F.2.2.1 (by decide)) tc_85 rfl rfl rfl rfl (Nat.le_of_ble_eq_true rfl) dX12_sentence_109 ⟨Nat.le_refl 0, Nat.le_refl 0⟩ (fun r24 u24 H locs hq hP hD hS => ?_)
          obtain ⟨hR, hF24, gr24, xr24, hK_r24_SWW⟩ := hq
          have hF := hF.tr hF24 (by decide)
          have hK_MS := sp_fr sp_MS hF24 (by decide) hK_MS
          have hK_UI := sp_fr sp_UI hF24 (by decide) hK_UI
          have hK_CW := sp_fr sp_CW hF24 (by decide) hK_CW
          have hK_AP := sp_fr sp_AP hF24 (by decide) hK_AP
          have hK_AU := sp_fr sp_AU hF24 (by decide) hK_AU
          have hK_LR := sp_fr (sp_ln0 85) hF24 (by decide) hK_LR
          have hK_i_HX := sp_fr (sp_imp sp_HX) hF24 (by decide) hK_i_HX
          have k25 : (u24.1 85 40).toInt = (u.1 85 40).toInt := congrArg Int32.toInt (show u24.1 85 40 = (u.1 85 40) from hF24 85 40 rfl)
          have g26 : (0 : Int) ≤ (u24.1 85 39).toInt ∧ (u24.1 85 39).toInt ≤ 45 := hR 85 39
          have g27 : (0 : Int) ≤ (u24.1 85 41).toInt ∧ (u24.1 85 41).toInt ≤ 45 := hR 85 41
          have g28 : (0 : Int) ≤ (u24.1 85 43).toInt ∧ (u24.1 85 43).toInt ≤ 1 := hR 85 43
          have xr24 : r24.toInt ≠ 0 → (u24.1 85 40).toInt = (u.1 85 40).toInt ∧ (u24.1 85 39).toInt + (u24.1 85 41).toInt ≤ 2 * (u24.1 85 40).toInt - (u24.1 85 43).toInt ∧ (u24.1 85 41).toInt + 2 * (u24.1 85 43).toInt + 1 ≤ (u.1 85 41).toInt + 2 := xr24
          refine z_ne F 48 dX12_sentence_112 (by decide) rfl (fun c29 => ?_) (fun c29 => ?_)
          · have hK_SWW := hK_r24_SWW (by omega)
            exact ih48 x1 _ _ _ _ hR hF (by show 4 * (21 - (u24.1 85 40).toInt) + (u24.1 85 41).toInt + 2 * (u24.1 85 43).toInt + x1.toInt < ((n48 : Nat) : Int); rw [hF24 85 40 rfl]; exact (by omega : 4 * (21 - (u.1 85 40).toInt) + (u24.1 85 41).toInt + 2 * (u24.1 85 43).toInt + x1.toInt < ((n48 : Nat) : Int))) hK_MS hK_UI hK_CW hK_AP hK_AU hK_SWW hK_LR hK_i_HX (by omega) (i_trB (hF24 85 0 rfl) (by omega : (0 : Int) ≤ (u.1 85 0).toInt ∧ (u.1 85 0).toInt ≤ 0)) (by rw [hF24 85 40 rfl]; try exact (by omega : (u24.1 85 39).toInt + (u24.1 85 41).toInt ≤ 2 * (u.1 85 40).toInt - (u24.1 85 43).toInt)) hP hD hS (lv_sub hl [0, 1] rfl)
          · refine lv_goto (tgt := 125) F.1 F.2.1 dX12_sentence_115 (by decide) ?_
            exact L125 _ _ _ _ hR hF hK_MS hK_UI hK_CW hK_AP hK_AU hK_LR hK_i_HX (i_trB (hF24 85 0 rfl) (by omega : (0 : Int) ≤ (u.1 85 0).toInt ∧ (u.1 85 0).toInt ≤ 0)) hP hD hS (lv_sub hl [0] rfl)
      refine lv_iload_n F.1 F.2.1 dX12_sentence_48 rfl (lv_at hl 1 rfl) ?_
      refine z_eq F 132 dX12_sentence_49 (by decide) rfl (fun c30 => ?_) (fun c30 => ?_)
      · refine lv_aload_n F.1 F.2.1 dX12_sentence_132 rfl (lv_at hl 0 rfl) ?_
        refine a_getr F inX12 hP 85 6 tc_85 rfl rfl (by decide) q1477 (fun _ h9 => h9) dX12_sentence_133 ?_
        refine a_sp F (476 : Int32) dX12_sentence_136 (by decide) ?_
        refine lv_aload_n F.1 F.2.1 dX12_sentence_139 rfl (lv_at hl 0 rfl) ?_
        have g31 : (0 : Int) ≤ (u.1 85 39).toInt ∧ (u.1 85 39).toInt ≤ 45 := hR 85 39
        refine a_geti F inX12 hP 85 39 tc_85 rfl rfl (by decide) q1510 (fun _ h9 => h9) (v := (u.1 85 39)) rfl dX12_sentence_140 ?_
        refine a_iastK F hP hD hS 87 476 tc_87 rfl rfl (i_in ic_476 (by omega)) dX12_sentence_143 (fun H locs hP hD hS => ?_)
        have hR := hR.si (c := 87) (k := 476) (v := (u.1 85 39)) (by omega : (0 : Int) ≤ (u.1 85 39).toInt ∧ (u.1 85 39).toInt ≤ 45)
        have hF := hF.si (c := 87) (k := 476) (v := (u.1 85 39)) rfl
        have hO_MS := hK_MS
        have hO_UI := hK_UI
        have hO_CW := hK_CW
        have hO_AP := hK_AP
        have hO_AU := hK_AU
        have hO_SWW := hK_SWW
        have hO_LR := hK_LR
        have hO_i_HX := hK_i_HX
        have hN_SCz := sc_0D (n := 0) hD (rfl) (by decide)
        have hK_MS := sp_si sp_MS hK_MS (c := 87) (k := 476) (v := (u.1 85 39)) (fun j9 h9 q9 => by rw [q9] at h9; exact absurd h9 (by decide))
        have hK_UI := sp_si sp_UI hK_UI (c := 87) (k := 476) (v := (u.1 85 39)) (fun j9 h9 q9 => by rw [q9] at h9; exact absurd h9 (by decide))
        have hK_AP := sp_si sp_AP hK_AP (c := 87) (k := 476) (v := (u.1 85 39)) (fun j9 h9 q9 => by rw [q9] at h9; exact absurd h9 (by decide))
        have hK_AU := sp_si sp_AU hK_AU (c := 87) (k := 476) (v := (u.1 85 39)) (fun j9 h9 q9 => by rw [q9] at h9; exact absurd h9 (by decide))
        have hK_SWW := sp_sgD sp_SWW hD hK_SWW (by decide)
        have hK_LR := sp_sgD (sp_ln0 85) hD hK_LR (by decide)
        have hK_i_HX := sp_si (sp_imp sp_HX) hK_i_HX (c := 87) (k := 476) (v := (u.1 85 39)) (fun j9 h9 q9 => by rw [q9] at h9; exact absurd h9 (by decide))
        have hK_SCz := hN_SCz
        refine a_ic F (0 : Int32) dX12_sentence_144 (by decide) ?_
        refine lv_istore_n (lv' := [(2, .int (0 : Int32)), (0, .ref (ad 85)), (1, .int x1)]) F.1 F.2.1 dX12_sentence_145 rfl hl (by decide) rfl (fun ls hl => ?_)
        have g32 : (0 : Int) ≤ (u.1 85 0).toInt ∧ (u.1 85 0).toInt ≤ 1 := hR 85 0
        exact L146 137 (0 : Int32) _ _ _ _ hR hF (by decide) hK_MS hK_UI hK_SWW (sc_le hK_SCz (by decide)) hK_AP hK_AU hK_LR hK_i_HX (by decide) (by omega : (0 : Int) ≤ (u.1 85 0).toInt ∧ (u.1 85 0).toInt ≤ 0) hP hD hS (lv_sub hl [1, 0] rfl)
      · refine lv_aload_n F.1 F.2.1 dX12_sentence_52 rfl (lv_at hl 0 rfl) ?_
        have g33 : (0 : Int) ≤ (u.1 85 43).toInt ∧ (u.1 85 43).toInt ≤ 1 := hR 85 43
        refine a_geti F inX12 hP 85 43 tc_85 rfl rfl (by decide) q1514 (fun _ h9 => h9) (v := (u.1 85 43)) rfl dX12_sentence_53 ?_
        refine z_eq F 101 dX12_sentence_56 (by decide) rfl (fun c34 => ?_) (fun c34 => ?_)
        · have g35 : (0 : Int) ≤ (u.1 85 0).toInt ∧ (u.1 85 0).toInt ≤ 1 := hR 85 0
          have g36 : (0 : Int) ≤ (u.1 85 39).toInt ∧ (u.1 85 39).toInt ≤ 45 := hR 85 39
          have g37 : (0 : Int) ≤ (u.1 85 41).toInt ∧ (u.1 85 41).toInt ≤ 45 := hR 85 41
          have g38 : (0 : Int) ≤ (u.1 85 40).toInt ∧ (u.1 85 40).toInt ≤ 20 := hR 85 40
          exact L101 x1 _ _ _ _ hR hF hK_MS hK_UI hK_CW hK_AP hK_AU hK_SWW hK_LR hK_i_HX (by omega) (by omega : (0 : Int) ≤ (u.1 85 0).toInt ∧ (u.1 85 0).toInt ≤ 0) (by omega : (0 : Int) ≤ (u.1 85 43).toInt ∧ (u.1 85 43).toInt ≤ 1) (by omega : (u.1 85 39).toInt + (u.1 85 41).toInt ≤ 2 * (u.1 85 40).toInt - (u.1 85 43).toInt) (by omega : 4 * (21 - (u.1 85 40).toInt) + (u.1 85 41).toInt + 2 * (u.1 85 43).toInt + x1.toInt < ((n48 : Nat) : Int) + 1) hP hD hS (lv_sub hl [0, 1] rfl)
        · refine lv_aload_n F.1 F.2.1 dX12_sentence_59 rfl (lv_at hl 0 rfl) ?_
          have g39 : (0 : Int) ≤ (u.1 85 11).toInt ∧ (u.1 85 11).toInt ≤ 4 := hR 85 11
          refine a_geti F inX12 hP 85 11 tc_85 rfl rfl (by decide) q1482 (fun _ h9 => h9) (v := (u.1 85 11)) rfl dX12_sentence_60 ?_
          refine z_ne F 101 dX12_sentence_63 (by decide) rfl (fun c40 => ?_) (fun c40 => ?_)
          · have g41 : (0 : Int) ≤ (u.1 85 0).toInt ∧ (u.1 85 0).toInt ≤ 1 := hR 85 0
            have g42 : (0 : Int) ≤ (u.1 85 39).toInt ∧ (u.1 85 39).toInt ≤ 45 := hR 85 39
            have g43 : (0 : Int) ≤ (u.1 85 41).toInt ∧ (u.1 85 41).toInt ≤ 45 := hR 85 41
            have g44 : (0 : Int) ≤ (u.1 85 40).toInt ∧ (u.1 85 40).toInt ≤ 20 := hR 85 40
            exact L101 x1 _ _ _ _ hR hF hK_MS hK_UI hK_CW hK_AP hK_AU hK_SWW hK_LR hK_i_HX (by omega) (by omega : (0 : Int) ≤ (u.1 85 0).toInt ∧ (u.1 85 0).toInt ≤ 0) (by omega : (0 : Int) ≤ (u.1 85 43).toInt ∧ (u.1 85 43).toInt ≤ 1) (by omega : (u.1 85 39).toInt + (u.1 85 41).toInt ≤ 2 * (u.1 85 40).toInt - (u.1 85 43).toInt) (by omega : 4 * (21 - (u.1 85 40).toInt) + (u.1 85 41).toInt + 2 * (u.1 85 43).toInt + x1.toInt < ((n48 : Nat) : Int) + 1) hP hD hS (lv_sub hl [0, 1] rfl)
          · refine lv_aload_n F.1 F.2.1 dX12_sentence_66 rfl (lv_at hl 0 rfl) ?_
            have g45 : (0 : Int) ≤ (u.1 85 39).toInt ∧ (u.1 85 39).toInt ≤ 45 := hR 85 39
            have g46 : (0 : Int) ≤ (u.1 85 41).toInt ∧ (u.1 85 41).toInt ≤ 45 := hR 85 41
            have g48 : (0 : Int) ≤ (u.1 85 40).toInt ∧ (u.1 85 40).toInt ≤ 20 := hR 85 40
            refine a_Vv F hml hl.1 hA hP hD hS (As := []) (c_X12_nots_85 l dC dI ad cA nF _  hR (by omega : (u.1 85 39).toInt + (u.1 85 41).toInt ≤ 44) (sw_of hK_SWW (by omega))) (cs_RX12_435 (d := 2) F.2.2.1 (by decide)) tc_85 rfl rfl rfl rfl (Nat.le_of_ble_eq_true rfl) dX12_sentence_67 ⟨Nat.le_refl 0, Nat.le_refl 0⟩ (fun u47 H locs hq hP hD hS => ?_)
            obtain ⟨hR, hF47, xr47, hK_SW1⟩ := hq
            have hF := hF.tr hF47 (by decide)
            have hK_MS := sp_fr sp_MS hF47 (by decide) hK_MS
            have hK_UI := sp_fr sp_UI hF47 (by decide) hK_UI
            have hK_CW := sp_fr sp_CW hF47 (by decide) hK_CW
            have hK_AP := sp_fr sp_AP hF47 (by decide) hK_AP
            have hK_AU := sp_fr sp_AU hF47 (by decide) hK_AU
            have hK_LR := sp_fr (sp_ln0 85) hF47 (by decide) hK_LR
            have hK_i_HX := sp_fr (sp_imp sp_HX) hF47 (by decide) hK_i_HX
            have g49 : (0 : Int) ≤ (u47.1 85 39).toInt ∧ (u47.1 85 39).toInt ≤ 45 := hR 85 39
            have g50 : (0 : Int) ≤ (u47.1 85 41).toInt ∧ (u47.1 85 41).toInt ≤ 45 := hR 85 41
            have xr47 : (u47.1 85 39).toInt + (u47.1 85 41).toInt = (u.1 85 39).toInt + (u.1 85 41).toInt ∧ (u47.1 85 41).toInt ≤ (u.1 85 41).toInt := xr47
            refine lv_aload_n F.1 F.2.1 dX12_sentence_70 rfl (lv_at hl 0 rfl) ?_
            refine a_bp F (22 : Int32) dX12_sentence_71 (by decide) ?_
            refine a_Vv F hml hl.1 hA hP hD hS (As := [.int (22 : Int32)]) (c_X12_joins_85 l dC dI ad cA nF _ (22 : Int32) hR (by decide) (by omega : (u47.1 85 39).toInt + (u47.1 85 41).toInt ≤ 44) hK_SW1) (cs_RX12_438 (d := 2) F.2.2.1 (by decide)) tc_85 rfl rfl rfl rfl (Nat.le_of_ble_eq_true rfl) dX12_sentence_73 ⟨Nat.le_refl 0, Nat.le_refl 0⟩ (fun u51 H locs hq hP hD hS => ?_)
            obtain ⟨hR, hF51, xr51, hK_SW1, hK_TB⟩ := hq
            have hF := hF.tr hF51 (by decide)
            have hK_MS := sp_fr sp_MS hF51 (by decide) hK_MS
            have hK_UI := sp_fr sp_UI hF51 (by decide) hK_UI
            have hK_CW := sp_fr sp_CW hF51 (by decide) hK_CW
            have hK_AP := sp_fr sp_AP hF51 (by decide) hK_AP
            have hK_AU := sp_fr sp_AU hF51 (by decide) hK_AU
            have hK_LR := sp_fr (sp_ln0 85) hF51 (by decide) hK_LR
            have hK_i_HX := sp_fr (sp_imp sp_HX) hF51 (by decide) hK_i_HX
            have g52 : (0 : Int) ≤ (u51.1 85 39).toInt ∧ (u51.1 85 39).toInt ≤ 45 := hR 85 39
            have g53 : (0 : Int) ≤ (u51.1 85 41).toInt ∧ (u51.1 85 41).toInt ≤ 45 := hR 85 41
            have xr51 : (u51.1 85 39).toInt + (u51.1 85 41).toInt = (u47.1 85 39).toInt + (u47.1 85 41).toInt ∧ (u51.1 85 41).toInt ≤ (u47.1 85 41).toInt := xr51
            refine lv_aload_n F.1 F.2.1 dX12_sentence_76 rfl (lv_at hl 0 rfl) ?_
            refine a_geti F inX12 hP 85 41 tc_85 rfl rfl (by decide) q1512 (fun _ h9 => h9) (v := (u51.1 85 41)) (rfl) dX12_sentence_77 ?_
            refine z_le F 96 dX12_sentence_80 (by decide) rfl (fun c54 => ?_) (fun c54 => ?_)
            · refine a_ic F (0 : Int32) dX12_sentence_96 (by decide) ?_
              refine lv_istore_n (lv' := [(1, .int (0 : Int32)), (0, .ref (ad 85))]) F.1 F.2.1 dX12_sentence_97 rfl hl (by decide) rfl (fun ls hl => ?_)
              refine lv_goto (tgt := 48) F.1 F.2.1 dX12_sentence_98 (by decide) ?_
              exact ih48 (0 : Int32) _ _ _ _ hR hF (by show 4 * (21 - (u51.1 85 40).toInt) + (u51.1 85 41).toInt + 2 * (u51.1 85 43).toInt + (0 : Int) < ((n48 : Nat) : Int); rw [(hF51 85 40 rfl).trans (hF47 85 40 rfl), (hF51 85 43 rfl).trans (hF47 85 43 rfl)]; exact (by omega : 4 * (21 - (u.1 85 40).toInt) + (u51.1 85 41).toInt + 2 * (u.1 85 43).toInt + (0 : Int) < ((n48 : Nat) : Int))) hK_MS hK_UI hK_CW hK_AP hK_AU (sw_toD hD hK_SW1 (t := (u.1 85 43)) ((hF51 85 43 rfl).trans (hF47 85 43 rfl)) (by first | decide | omega)) hK_LR hK_i_HX (by decide) (i_trB ((hF51 85 0 rfl).trans (hF47 85 0 rfl)) (by omega : (0 : Int) ≤ (u.1 85 0).toInt ∧ (u.1 85 0).toInt ≤ 0)) (by rw [(hF51 85 40 rfl).trans (hF47 85 40 rfl), (hF51 85 43 rfl).trans (hF47 85 43 rfl)]; try exact (by omega : (u51.1 85 39).toInt + (u51.1 85 41).toInt ≤ 2 * (u.1 85 40).toInt - (u.1 85 43).toInt)) hP hD hS (lv_sub hl [1, 0] rfl)
            · refine lv_aload_n F.1 F.2.1 dX12_sentence_83 rfl (lv_at hl 0 rfl) ?_
              refine a_ic F (1 : Int32) dX12_sentence_84 (by decide) ?_
              refine a_Vi F hml hl.1 hA hP hD hS (As := [.int (1 : Int32)]) (c_X12_bad_85 l dC dI ad cA nF _ (1 : Int32) hR (by decide)) (cs_RX12_181 (d := 1) F.2.2.1 (by decide)) tc_85 rfl rfl rfl rfl (Nat.le_of_ble_eq_true rfl) dX12_sentence_85 ⟨Nat.le_refl 0, Nat.le_refl 0⟩ (fun r55 u55 H locs hq hP hD hS => ?_)
              obtain ⟨hR, hF55, gr55⟩ := hq
              have hF := hF.tr hF55 (by decide)
              have hK_MS := sp_fr sp_MS hF55 (by decide) hK_MS
              have hK_UI := sp_fr sp_UI hF55 (by decide) hK_UI
              have hK_CW := sp_fr sp_CW hF55 (by decide) hK_CW
              have hK_AP := sp_fr sp_AP hF55 (by decide) hK_AP
              have hK_AU := sp_fr sp_AU hF55 (by decide) hK_AU
              have hK_LR := sp_fr (sp_ln0 85) hF55 (by decide) hK_LR
              have hK_i_HX := sp_fr (sp_imp sp_HX) hF55 (by decide) hK_i_HX
              have hK_SW1 := sp_fr (sp_sw _) hF55 (by decide) hK_SW1
              have hK_TB := sp_fr sp_TB hF55 (by decide) hK_TB
              refine lv_pop F.1 F.2.1 dX12_sentence_88 rfl ?_
              refine a_ic F (-1 : Int32) dX12_sentence_89 (by decide) ?_
              refine lv_aload_n F.1 F.2.1 dX12_sentence_90 rfl (lv_at hl 0 rfl) ?_
              refine a_geti F inX12 hP 85 16 tc_85 rfl rfl (by decide) q1487 (fun _ h9 => h9) (v := (u55.1 85 16)) rfl dX12_sentence_91 ?_
              refine a_isub F dX12_sentence_94 ic_m1 rfl (by have q0 := i_lo (u55.1 85 16); have q1 := i_hi (u55.1 85 16); omega) (fun v56 hv56 => ?_)
              exact a_reti F hr hlocks hP hD hS dX12_sentence_95 ⟨hR, hF, hK_MS, hK_UI, hK_CW, hK_AP, hK_AU, hK_LR, hK_i_HX⟩
  refine lv_aload_n F.1 F.2.1 dX12_sentence_0 rfl (lv_at hl 0 rfl) ?_
  refine a_ic F (0 : Int32) dX12_sentence_1 (by decide) ?_
  refine a_puti F inX12 tyX12 tyX12_ok nmX12 hP hD hS 85 0 tc_85 rfl rfl (by decide) q1471 (fun _ h9 => h9) rfl (ty := .int) (tyX12_ok 0 (by decide)) rfl rfl dX12_sentence_2 (fun H locs hP hD hS => ?_)
  have hR := hR.si (c := 85) (k := 0) (v := (0 : Int32)) (by rw [ic_0]; exact (by omega : (0 : Int) ≤ (0 : Int) ∧ (0 : Int) ≤ 1))
  have hF := hF.si (c := 85) (k := 0) (v := (0 : Int32)) rfl
  have hK_MS := sp_sgD sp_MS hD hK_MS (by decide)
  have hK_UI := sp_si sp_UI hK_UI (c := 85) (k := 0) (v := (0 : Int32)) (fun j9 h9 q9 => by rw [q9] at h9; exact absurd h9 (by decide))
  have hK_CW := sp_sgD sp_CW hD hK_CW (by decide)
  have hK_AP := sp_sgD sp_AP hD hK_AP (by decide)
  have hK_AU := sp_si sp_AU hK_AU (c := 85) (k := 0) (v := (0 : Int32)) (fun j9 h9 q9 => by rw [q9] at h9; exact absurd h9 (by decide))
  have hK_i_HX := sp_sgD (sp_imp sp_HX) hD hK_i_HX (by decide)
  refine lv_aload_n F.1 F.2.1 dX12_sentence_5 rfl (lv_at hl 0 rfl) ?_
  refine a_sp F (200 : Int32) dX12_sentence_6 (by decide) ?_
  have g58 : (0 : Int) ≤ (u0.1 85 39).toInt ∧ (u0.1 85 39).toInt ≤ 45 := hR 85 39
  have g59 : (0 : Int) ≤ (u0.1 85 41).toInt ∧ (u0.1 85 41).toInt ≤ 45 := hR 85 41
  have g60 : (0 : Int) ≤ (u0.1 85 40).toInt ∧ (u0.1 85 40).toInt ≤ 20 := hR 85 40
  have g61 : (0 : Int) ≤ (u0.1 85 43).toInt ∧ (u0.1 85 43).toInt ≤ 1 := hR 85 43
  refine a_Vv F hml hl.1 hA hP hD hS (As := [.int (200 : Int32)]) (c_X12_taken_85__2 l dC dI ad cA nF _ (200 : Int32) hR (by decide)) (cs_RX12_229 (d := 1) F.2.2.1 (by decide)) tc_85 rfl rfl rfl rfl (Nat.le_of_ble_eq_true rfl) dX12_sentence_9 ⟨Nat.le_refl 0, Nat.le_refl 0⟩ (fun u57 H locs hq hP hD hS => ?_)
  obtain ⟨hR, hF57, hK_LR⟩ := hq
  have hF := hF.tr hF57 (by decide)
  have hK_MS := sp_fr sp_MS hF57 (by decide) hK_MS
  have hK_UI := sp_fr sp_UI hF57 (by decide) hK_UI
  have hK_CW := sp_fr sp_CW hF57 (by decide) hK_CW
  have hK_AP := sp_fr sp_AP hF57 (by decide) hK_AP
  have hK_AU := sp_fr sp_AU hF57 (by decide) hK_AU
  have hK_i_HX := sp_fr (sp_imp sp_HX) hF57 (by decide) hK_i_HX
  refine lv_aload_n F.1 F.2.1 dX12_sentence_12 rfl (lv_at hl 0 rfl) ?_
  refine a_ic F (0 : Int32) dX12_sentence_13 (by decide) ?_
  refine a_puti F inX12 tyX12 tyX12_ok nmX12 hP hD hS 85 15 tc_85 rfl rfl (by decide) q1486 (fun _ h9 => h9) rfl (ty := .int) (tyX12_ok 15 (by decide)) rfl rfl dX12_sentence_14 (fun H locs hP hD hS => ?_)
  have hR := hR.si (c := 85) (k := 15) (v := (0 : Int32)) ⟨i_lo _, i_hi _⟩
  have hF := hF.si (c := 85) (k := 15) (v := (0 : Int32)) rfl
  have hK_MS := sp_sgD sp_MS hD hK_MS (by decide)
  have hK_UI := sp_si sp_UI hK_UI (c := 85) (k := 15) (v := (0 : Int32)) (fun j9 h9 q9 => by rw [q9] at h9; exact absurd h9 (by decide))
  have hK_CW := sp_sgD sp_CW hD hK_CW (by decide)
  have hK_AP := sp_sgD sp_AP hD hK_AP (by decide)
  have hK_AU := sp_si sp_AU hK_AU (c := 85) (k := 15) (v := (0 : Int32)) (fun j9 h9 q9 => by rw [q9] at h9; exact absurd h9 (by decide))
  have hK_i_HX := sp_sgD (sp_imp sp_HX) hD hK_i_HX (by decide)
  have hK_LR := sp_si (sp_ln0 85) hK_LR (c := 85) (k := 15) (v := (0 : Int32)) (fun j9 h9 q9 => by rw [q9] at h9; exact absurd h9 (by decide))
  refine lv_aload_n F.1 F.2.1 dX12_sentence_17 rfl (lv_at hl 0 rfl) ?_
  refine a_ic F (0 : Int32) dX12_sentence_18 (by decide) ?_
  refine a_puti F inX12 tyX12 tyX12_ok nmX12 hP hD hS 85 39 tc_85 rfl rfl (by decide) q1510 (fun _ h9 => h9) rfl (ty := .int) (tyX12_ok 39 (by decide)) rfl rfl dX12_sentence_19 (fun H locs hP hD hS => ?_)
  have hR := hR.si (c := 85) (k := 39) (v := (0 : Int32)) (by rw [ic_0]; exact (by omega : (0 : Int) ≤ (0 : Int) ∧ (0 : Int) ≤ 45))
  have hF := hF.si (c := 85) (k := 39) (v := (0 : Int32)) rfl
  have hK_MS := sp_sgD sp_MS hD hK_MS (by decide)
  have hK_UI := sp_si sp_UI hK_UI (c := 85) (k := 39) (v := (0 : Int32)) (fun j9 h9 q9 => by rw [q9] at h9; exact absurd h9 (by decide))
  have hK_CW := sp_sgD sp_CW hD hK_CW (by decide)
  have hK_AP := sp_sgD sp_AP hD hK_AP (by decide)
  have hK_AU := sp_si sp_AU hK_AU (c := 85) (k := 39) (v := (0 : Int32)) (fun j9 h9 q9 => by rw [q9] at h9; exact absurd h9 (by decide))
  have hK_i_HX := sp_sgD (sp_imp sp_HX) hD hK_i_HX (by decide)
  have hK_LR := sp_si (sp_ln0 85) hK_LR (c := 85) (k := 39) (v := (0 : Int32)) (fun j9 h9 q9 => by rw [q9] at h9; exact absurd h9 (by decide))
  refine lv_aload_n F.1 F.2.1 dX12_sentence_22 rfl (lv_at hl 0 rfl) ?_
  refine a_ic F (0 : Int32) dX12_sentence_23 (by decide) ?_
  refine a_puti F inX12 tyX12 tyX12_ok nmX12 hP hD hS 85 40 tc_85 rfl rfl (by decide) q1511 (fun _ h9 => h9) rfl (ty := .int) (tyX12_ok 40 (by decide)) rfl rfl dX12_sentence_24 (fun H locs hP hD hS => ?_)
  have hR := hR.si (c := 85) (k := 40) (v := (0 : Int32)) (by rw [ic_0]; exact (by omega : (0 : Int) ≤ (0 : Int) ∧ (0 : Int) ≤ 20))
  have hF := hF.si (c := 85) (k := 40) (v := (0 : Int32)) rfl
  have hK_MS := sp_sgD sp_MS hD hK_MS (by decide)
  have hK_UI := sp_si sp_UI hK_UI (c := 85) (k := 40) (v := (0 : Int32)) (fun j9 h9 q9 => by rw [q9] at h9; exact absurd h9 (by decide))
  have hK_CW := sp_sgD sp_CW hD hK_CW (by decide)
  have hK_AP := sp_sgD sp_AP hD hK_AP (by decide)
  have hK_AU := sp_si sp_AU hK_AU (c := 85) (k := 40) (v := (0 : Int32)) (fun j9 h9 q9 => by rw [q9] at h9; exact absurd h9 (by decide))
  have hK_i_HX := sp_sgD (sp_imp sp_HX) hD hK_i_HX (by decide)
  have hK_LR := sp_si (sp_ln0 85) hK_LR (c := 85) (k := 40) (v := (0 : Int32)) (fun j9 h9 q9 => by rw [q9] at h9; exact absurd h9 (by decide))
  refine lv_aload_n F.1 F.2.1 dX12_sentence_27 rfl (lv_at hl 0 rfl) ?_
  refine a_ic F (0 : Int32) dX12_sentence_28 (by decide) ?_
  refine a_puti F inX12 tyX12 tyX12_ok nmX12 hP hD hS 85 41 tc_85 rfl rfl (by decide) q1512 (fun _ h9 => h9) rfl (ty := .int) (tyX12_ok 41 (by decide)) rfl rfl dX12_sentence_29 (fun H locs hP hD hS => ?_)
  have hR := hR.si (c := 85) (k := 41) (v := (0 : Int32)) (by rw [ic_0]; exact (by omega : (0 : Int) ≤ (0 : Int) ∧ (0 : Int) ≤ 45))
  have hF := hF.si (c := 85) (k := 41) (v := (0 : Int32)) rfl
  have hK_MS := sp_sgD sp_MS hD hK_MS (by decide)
  have hK_UI := sp_si sp_UI hK_UI (c := 85) (k := 41) (v := (0 : Int32)) (fun j9 h9 q9 => by rw [q9] at h9; exact absurd h9 (by decide))
  have hK_CW := sp_sgD sp_CW hD hK_CW (by decide)
  have hK_AP := sp_sgD sp_AP hD hK_AP (by decide)
  have hK_AU := sp_si sp_AU hK_AU (c := 85) (k := 41) (v := (0 : Int32)) (fun j9 h9 q9 => by rw [q9] at h9; exact absurd h9 (by decide))
  have hK_i_HX := sp_sgD (sp_imp sp_HX) hD hK_i_HX (by decide)
  have hK_LR := sp_si (sp_ln0 85) hK_LR (c := 85) (k := 41) (v := (0 : Int32)) (fun j9 h9 q9 => by rw [q9] at h9; exact absurd h9 (by decide))
  refine lv_aload_n F.1 F.2.1 dX12_sentence_32 rfl (lv_at hl 0 rfl) ?_
  refine a_ic F (1 : Int32) dX12_sentence_33 (by decide) ?_
  refine a_puti F inX12 tyX12 tyX12_ok nmX12 hP hD hS 85 42 tc_85 rfl rfl (by decide) q1513 (fun _ h9 => h9) rfl (ty := .int) (tyX12_ok 42 (by decide)) rfl rfl dX12_sentence_34 (fun H locs hP hD hS => ?_)
  have hR := hR.si (c := 85) (k := 42) (v := (1 : Int32)) ⟨i_lo _, i_hi _⟩
  have hF := hF.si (c := 85) (k := 42) (v := (1 : Int32)) rfl
  have hK_MS := sp_sgD sp_MS hD hK_MS (by decide)
  have hK_UI := sp_si sp_UI hK_UI (c := 85) (k := 42) (v := (1 : Int32)) (fun j9 h9 q9 => by rw [q9] at h9; exact absurd h9 (by decide))
  have hK_CW := sp_sgD sp_CW hD hK_CW (by decide)
  have hK_AP := sp_sgD sp_AP hD hK_AP (by decide)
  have hK_AU := sp_si sp_AU hK_AU (c := 85) (k := 42) (v := (1 : Int32)) (fun j9 h9 q9 => by rw [q9] at h9; exact absurd h9 (by decide))
  have hK_i_HX := sp_sgD (sp_imp sp_HX) hD hK_i_HX (by decide)
  have hK_LR := sp_si (sp_ln0 85) hK_LR (c := 85) (k := 42) (v := (1 : Int32)) (fun j9 h9 q9 => by rw [q9] at h9; exact absurd h9 (by decide))
  refine lv_aload_n F.1 F.2.1 dX12_sentence_37 rfl (lv_at hl 0 rfl) ?_
  refine a_ic F (0 : Int32) dX12_sentence_38 (by decide) ?_
  refine a_puti F inX12 tyX12 tyX12_ok nmX12 hP hD hS 85 43 tc_85 rfl rfl (by decide) q1514 (fun _ h9 => h9) rfl (ty := .boolean) (tyX12_ok 43 (by decide)) (i_zn (Or.inl rfl)) (i_zf (Or.inl rfl)) dX12_sentence_39 (fun H locs hP hD hS => ?_)
  have hR := hR.si (c := 85) (k := 43) (v := (0 : Int32)) (by rw [ic_0]; exact (by omega : (0 : Int) ≤ (0 : Int) ∧ (0 : Int) ≤ 1))
  have hF := hF.si (c := 85) (k := 43) (v := (0 : Int32)) rfl
  have hN_SWW := sw_0D hD (a := (0 : Int32)) (b := (0 : Int32)) (c := (0 : Int32)) rfl rfl rfl (by decide) (by decide) (by decide)
  have hK_MS := sp_sgD sp_MS hD hK_MS (by decide)
  have hK_UI := sp_si sp_UI hK_UI (c := 85) (k := 43) (v := (0 : Int32)) (fun j9 h9 q9 => by rw [q9] at h9; exact absurd h9 (by decide))
  have hK_CW := sp_sgD sp_CW hD hK_CW (by decide)
  have hK_AP := sp_sgD sp_AP hD hK_AP (by decide)
  have hK_AU := sp_si sp_AU hK_AU (c := 85) (k := 43) (v := (0 : Int32)) (fun j9 h9 q9 => by rw [q9] at h9; exact absurd h9 (by decide))
  have hK_i_HX := sp_sgD (sp_imp sp_HX) hD hK_i_HX (by decide)
  have hK_LR := sp_si (sp_ln0 85) hK_LR (c := 85) (k := 43) (v := (0 : Int32)) (fun j9 h9 q9 => by rw [q9] at h9; exact absurd h9 (by decide))
  have hK_SWW := hN_SWW
  refine lv_aload_n F.1 F.2.1 dX12_sentence_42 rfl (lv_at hl 0 rfl) ?_
  refine a_Vv F hml hl.1 hA hP hD hS (As := []) (c_X12_next_85 l dC dI ad cA nF _  hR) (cs_RX12_184 (d := 2) F.2.2.1 (by decide)) tc_85 rfl rfl rfl rfl (Nat.le_of_ble_eq_true rfl) dX12_sentence_43 ⟨Nat.le_refl 0, Nat.le_refl 0⟩ (fun u62 H locs hq hP hD hS => ?_)
  obtain ⟨hR, hF62⟩ := hq
  have hF := hF.tr hF62 (by decide)
  have hK_MS := sp_fr sp_MS hF62 (by decide) hK_MS
  have hK_UI := sp_fr sp_UI hF62 (by decide) hK_UI
  have hK_CW := sp_fr sp_CW hF62 (by decide) hK_CW
  have hK_AP := sp_fr sp_AP hF62 (by decide) hK_AP
  have hK_AU := sp_fr sp_AU hF62 (by decide) hK_AU
  have hK_i_HX := sp_fr (sp_imp sp_HX) hF62 (by decide) hK_i_HX
  have hK_LR := sp_fr (sp_ln0 85) hF62 (by decide) hK_LR
  have hK_SWW := sp_fr sp_SWW hF62 (by decide) hK_SWW
  refine a_ic F (1 : Int32) dX12_sentence_46 (by decide) ?_
  refine lv_istore_n (lv' := [(1, .int (1 : Int32)), (0, .ref (ad 85))]) F.1 F.2.1 dX12_sentence_47 rfl hl (by decide) rfl (fun ls hl => ?_)
  exact L48 140 (1 : Int32) _ _ _ _ hR hF (by show 4 * (21 - (u62.1 85 40).toInt) + (u62.1 85 41).toInt + 2 * (u62.1 85 43).toInt + (1 : Int) < (140 : Int); rw [hF62 85 40 rfl, hF62 85 41 rfl, hF62 85 43 rfl]; exact (by omega : 4 * (21 - (0 : Int)) + (0 : Int) + 2 * (0 : Int) + (1 : Int) < (140 : Int))) hK_MS hK_UI hK_CW hK_AP hK_AU hK_SWW hK_LR hK_i_HX (by decide) (i_trB ((hF62 85 0 rfl).trans (hF57 85 0 rfl)) (by omega : (0 : Int) ≤ (0 : Int) ∧ (0 : Int) ≤ 0)) (by rw [hF62 85 39 rfl, hF62 85 41 rfl, hF62 85 40 rfl, hF62 85 43 rfl]; try exact (by omega : (0 : Int) + (0 : Int) ≤ 2 * (0 : Int) - (0 : Int))) hP hD hS (lv_sub hl [1, 0] rfl)
set_option maxHeartbeats 600000 in
set_option maxRecDepth 100000 in
theorem c_X12_undo_85__4 (l : Launch) (dC : Nat → ClassId) (dI : Nat → Nat → Nat) (ad : Nat → Nat) (cA : Nat → ClassId) (nF : Nat) (u0 : ac_U)  (hR : ac_R rg u0) (hK_MS : msI u0) (hK_UI : unI u0) (hK_CW : cdI u0) (hK_AP : apI u0) (hK_AU : auI u0) : ac_Mi l yX12_undo (.code yX12_undo cX12_undo 2 (some .int) :: TB) 1 (dC, dI) vwCl (ac_ty cA) ad cA (TT nF) [.ref (ad 85)] u0 (fun (r : Int32) (u : ac_U) => ac_R rg u ∧ ac_Fr [(85, some 0), (85, some 24), (87, none)] u0 u ∧ ((-1 : Int) ≤ r.toInt ∧ r.toInt ≤ 7) ∧ msI u ∧ unI u ∧ cdI u ∧ apI u ∧ auI u ∧ (hxI u0 → hxI u)) := by
  refine ac_Mi.of (cc := cX12_undo) (maxL := 2) (ret := (some .int)) (by decide) rfl (Nat.le_of_ble_eq_true rfl) ?_
  intro p e s m below meth c A ls F hml hr hlocks hA hP hD hS hl
  have F : ac_X p s m [.ref (ad 85)].toArray c cX12_undo RX12 TB (dC, dI) vwCl (ac_ty cA) := ⟨F.1, F.2.1, fun w h => F.2.2.1 w (List.mem_cons_of_mem _ h), F.2.2.2.1, F.2.2.2.2⟩
  have hl : lv_has ls 2 [(0, .ref (ad 85))] := hl
  have hF : ac_Fr [(85, some 0), (85, some 24), (87, none)] u0 u0 := ac_Fr.rf
  have hK_i_HX : (fun u => hxI u0 → hxI u) u0 := fun h => h
  have L26 : ∀ (n26 : Nat) (x1 : Int32) (u : ac_U) (H : Heap) (locs : List Loc) (ls : Array Slot), ac_R rg u → ac_Fr [(85, some 0), (85, some 24), (87, none)] u0 u → 370 - x1.toInt < (n26 : Int) → msI u → ueI u → cdI u → apI u → aeI u → (fun u => hxI u0 → hxI u) u → (0 : Int) ≤ x1.toInt ∧ x1.toInt ≤ 370 → (0 : Int) ≤ (u.1 85 0).toInt ∧ (u.1 85 0).toInt ≤ 0 → (0 : Int) ≤ (u.1 85 24).toInt ∧ (u.1 85 24).toInt ≤ 7 → va_P (dC, dI) vwCl (ac_w ad cA (TT nF) u) H → va_D A (ac_w ad cA (TT nF) u) → va_S A s.heap H locs → lv_has ls 2 [(0, .ref (ad 85)), (1, .int x1)] → W p l e (ac_rm 1) s m [.ref (ad 85)].toArray below meth c H locs 0 0 (MQ below (va_Qi (fun (r : Int32) (u : ac_U) => ac_R rg u ∧ ac_Fr [(85, some 0), (85, some 24), (87, none)] u0 u ∧ ((-1 : Int) ≤ r.toInt ∧ r.toInt ≤ 7) ∧ msI u ∧ unI u ∧ cdI u ∧ apI u ∧ auI u ∧ (hxI u0 → hxI u)) (ac_B (dC, dI) vwCl (ac_ty cA) ad cA (TT nF) A) A) [.ref (ad 85)].toArray s 0 0 A) (F0 m 26 ls []) := by
    intro n26
    induction n26 with
    | zero => intro x1 u H locs ls hR hF hn26 hK_MS hK_UIe hK_CW hK_AP hK_AE hK_i_HX f0 f1 f2 hP hD hS hl; exfalso; omega
    | succ n26 ih26 =>
      intro x1 u H locs ls hR hF hn26 hK_MS hK_UIe hK_CW hK_AP hK_AE hK_i_HX f0 f1 f2 hP hD hS hl
      refine lv_iload_n F.1 F.2.1 dX12_undo_26 rfl (lv_at hl 1 rfl) ?_
      refine a_sp F (370 : Int32) dX12_undo_27 (by decide) ?_
      refine b_ge F 63 dX12_undo_30 (by decide) rfl ic_370 (fun c1 => ?_) (fun c1 => ?_)
      · refine lv_aload_n F.1 F.2.1 dX12_undo_63 rfl (lv_at hl 0 rfl) ?_
        have g2 : (0 : Int) ≤ (u.1 85 24).toInt ∧ (u.1 85 24).toInt ≤ 8 := hR 85 24
        refine a_geti F inX12 hP 85 24 tc_85 rfl rfl (by decide) q1495 (fun _ h9 => h9) (v := (u.1 85 24)) rfl dX12_undo_64 ?_
        exact a_reti F hr hlocks hP hD hS dX12_undo_67 ⟨hR, hF, (by omega : (-1 : Int) ≤ (u.1 85 24).toInt ∧ (u.1 85 24).toInt ≤ 7), hK_MS, (ue_lt hK_UIe), hK_CW, hK_AP, (ae_lt hK_AE), hK_i_HX⟩
      · refine lv_aload_n F.1 F.2.1 dX12_undo_33 rfl (lv_at hl 0 rfl) ?_
        refine a_getr F inX12 hP 85 6 tc_85 rfl rfl (by decide) q1477 (fun _ h9 => h9) dX12_undo_34 ?_
        refine a_bp F (106 : Int32) dX12_undo_37 (by decide) ?_
        refine lv_iload_n F.1 F.2.1 dX12_undo_39 rfl (lv_at hl 1 rfl) ?_
        refine a_iadd F dX12_undo_40 ic_106 rfl (by omega) (fun v3 hv3 => ?_)
        refine lv_aload_n F.1 F.2.1 dX12_undo_41 rfl (lv_at hl 0 rfl) ?_
        refine a_getr F inX12 hP 85 22 tc_85 rfl rfl (by decide) q1493 (fun _ h9 => h9) dX12_undo_42 ?_
        refine a_sp F (370 : Int32) dX12_undo_45 (by decide) ?_
        refine lv_aload_n F.1 F.2.1 dX12_undo_48 rfl (lv_at hl 0 rfl) ?_
        have g4 : (0 : Int) ≤ (u.1 85 24).toInt ∧ (u.1 85 24).toInt ≤ 8 := hR 85 24
        refine a_geti F inX12 hP 85 24 tc_85 rfl rfl (by decide) q1495 (fun _ h9 => h9) (v := (u.1 85 24)) rfl dX12_undo_49 ?_
        refine a_imul F dX12_undo_52 ic_370 rfl (by omega) (fun v5 hv5 => ?_)
        refine lv_iload_n F.1 F.2.1 dX12_undo_53 rfl (lv_at hl 1 rfl) ?_
        refine a_iadd F dX12_undo_54 rfl rfl (by omega) (fun v6 hv6 => ?_)
        refine a_iald F hP 93 tc_93 rfl (i_in rfl (by omega)) dX12_undo_55 (fun v7 ev7 => ?_)
        refine a_iast F hP hD hS 87 tc_87 rfl (i_in rfl (by omega)) dX12_undo_56 (fun H locs hP hD hS => ?_)
        have hR := hR.si (c := 87) (k := v3.toNatClampNeg) (v := v7) (cp_el hR ev7 (rg_u2 (m := (u.1 85 24).toInt) (x := x1.toInt) (by omega) (by omega) (by omega) (by omega)).2)
        have hF := hF.si (c := 87) (k := v3.toNatClampNeg) (v := v7) rfl
        have hO_MS := hK_MS
        have hO_UIe := hK_UIe
        have hO_CW := hK_CW
        have hO_AP := hK_AP
        have hO_AE := hK_AE
        have hO_i_HX := hK_i_HX
        have hK_MS := ms_w hO_MS (i := v3) (v := v7) (by omega) (fun q9 => ue_get hO_UIe (i := v6) (by omega) (by omega) ev7)
        have hK_UIe := sp_si sp_UIe hK_UIe (c := 87) (k := v3.toNatClampNeg) (v := v7) (fun j9 h9 => by have q8 := sp_mem h9; simp at q8; have q9 := i_cl (x := v3) (by omega); omega)
        have hK_CW := sp_si sp_CW hK_CW (c := 87) (k := v3.toNatClampNeg) (v := v7) (fun j9 h9 => by have q8 := sp_mem h9; simp at q8; have q9 := i_cl (x := v3) (by omega); omega)
        have hK_AP := ap_w hO_AP (i := v3) (v := v7) (by omega) (fun q9 => ae_get hO_AE (x := x1.toInt) (i := v6) (by omega) (by omega) (by omega) ev7)
        have hK_AE := sp_si sp_AE hK_AE (c := 87) (k := v3.toNatClampNeg) (v := v7) (fun j9 h9 => by have q8 := sp_mem h9; simp at q8; have q9 := i_cl (x := v3) (by omega); omega)
        have hK_i_HX := sp_si (sp_imp sp_HX) hK_i_HX (c := 87) (k := v3.toNatClampNeg) (v := v7) (fun j9 h9 => by have q8 := sp_mem h9; simp at q8; have q9 := i_cl (x := v3) (by omega); omega)
        refine a_iinc F (k := 1) (fun v8 => [(1, .int v8), (0, .ref (ad 85))]) dX12_undo_57 hl rfl rfl (by decide) (by omega) (by decide) (fun _ => rfl) (fun v8 ls hv8 hl => ?_)
        refine lv_goto (tgt := 26) F.1 F.2.1 dX12_undo_60 (by decide) ?_
        have g9 : (0 : Int) ≤ (u.1 85 0).toInt ∧ (u.1 85 0).toInt ≤ 1 := hR 85 0
        exact ih26 v8 _ _ _ _ hR hF (by omega) hK_MS hK_UIe hK_CW hK_AP hK_AE hK_i_HX (by omega) (by omega : (0 : Int) ≤ (u.1 85 0).toInt ∧ (u.1 85 0).toInt ≤ 0) (by omega : (0 : Int) ≤ (u.1 85 24).toInt ∧ (u.1 85 24).toInt ≤ 7) hP hD hS (lv_sub hl [1, 0] rfl)
  refine lv_aload_n F.1 F.2.1 dX12_undo_0 rfl (lv_at hl 0 rfl) ?_
  refine a_ic F (0 : Int32) dX12_undo_1 (by decide) ?_
  refine a_puti F inX12 tyX12 tyX12_ok nmX12 hP hD hS 85 0 tc_85 rfl rfl (by decide) q1471 (fun _ h9 => h9) rfl (ty := .int) (tyX12_ok 0 (by decide)) rfl rfl dX12_undo_2 (fun H locs hP hD hS => ?_)
  have hR := hR.si (c := 85) (k := 0) (v := (0 : Int32)) (by rw [ic_0]; exact (by omega : (0 : Int) ≤ (0 : Int) ∧ (0 : Int) ≤ 1))
  have hF := hF.si (c := 85) (k := 0) (v := (0 : Int32)) rfl
  have hK_MS := sp_sgD sp_MS hD hK_MS (by decide)
  have hK_UI := sp_si sp_UI hK_UI (c := 85) (k := 0) (v := (0 : Int32)) (fun j9 h9 q9 => by rw [q9] at h9; exact absurd h9 (by decide))
  have hK_CW := sp_sgD sp_CW hD hK_CW (by decide)
  have hK_AP := sp_sgD sp_AP hD hK_AP (by decide)
  have hK_AU := sp_si sp_AU hK_AU (c := 85) (k := 0) (v := (0 : Int32)) (fun j9 h9 q9 => by rw [q9] at h9; exact absurd h9 (by decide))
  have hK_i_HX := sp_sgD (sp_imp sp_HX) hD hK_i_HX (by decide)
  refine lv_aload_n F.1 F.2.1 dX12_undo_5 rfl (lv_at hl 0 rfl) ?_
  have g10 : (0 : Int) ≤ (u0.1 85 24).toInt ∧ (u0.1 85 24).toInt ≤ 8 := hR 85 24
  refine a_geti F inX12 hP 85 24 tc_85 rfl rfl (by decide) q1495 (fun _ h9 => h9) (v := (u0.1 85 24)) rfl dX12_undo_6 ?_
  refine z_ne F 14 dX12_undo_9 (by decide) rfl (fun c11 => ?_) (fun c11 => ?_)
  · refine lv_aload_n F.1 F.2.1 dX12_undo_14 rfl (lv_at hl 0 rfl) ?_
    refine lv_dup F.1 F.2.1 dX12_undo_15 rfl ?_
    refine a_geti F inX12 hP 85 24 tc_85 rfl rfl (by decide) q1495 (fun _ h9 => h9) (v := (u0.1 85 24)) (rfl) dX12_undo_16 ?_
    refine a_ic F (1 : Int32) dX12_undo_19 (by decide) ?_
    refine a_isub F dX12_undo_20 rfl ic_1 (by omega) (fun v12 hv12 => ?_)
    refine a_puti F inX12 tyX12 tyX12_ok nmX12 hP hD hS 85 24 tc_85 rfl rfl (by decide) q1495 (fun _ h9 => h9) rfl (ty := .int) (tyX12_ok 24 (by decide)) rfl rfl dX12_undo_21 (fun H locs hP hD hS => ?_)
    have hR := hR.si (c := 85) (k := 24) (v := v12) (by omega : (0 : Int) ≤ v12.toInt ∧ v12.toInt ≤ 8)
    have hF := hF.si (c := 85) (k := 24) (v := v12) rfl
    have hO_MS := hK_MS
    have hO_UI := hK_UI
    have hO_CW := hK_CW
    have hO_AP := hK_AP
    have hO_AU := hK_AU
    have hO_i_HX := hK_i_HX
    have hN_UIe := ue_dec2 hO_UI (t := (u0.1 85 24)) (v := v12) (rfl) (by omega)
    have hN_AE := ae_dec2 hO_AU (t := (u0.1 85 24)) (v := v12) (rfl) (by omega)
    have hK_MS := sp_sgD sp_MS hD hK_MS (by decide)
    have hK_CW := sp_sgD sp_CW hD hK_CW (by decide)
    have hK_AP := sp_sgD sp_AP hD hK_AP (by decide)
    have hK_i_HX := sp_sgD (sp_imp sp_HX) hD hK_i_HX (by decide)
    have hK_UIe := hN_UIe
    have hK_AE := hN_AE
    refine a_ic F (0 : Int32) dX12_undo_24 (by decide) ?_
    refine lv_istore_n (lv' := [(1, .int (0 : Int32)), (0, .ref (ad 85))]) F.1 F.2.1 dX12_undo_25 rfl hl (by decide) rfl (fun ls hl => ?_)
    exact L26 372 (0 : Int32) _ _ _ _ hR hF (by decide) hK_MS hK_UIe hK_CW hK_AP hK_AE hK_i_HX (by decide) (by omega : (0 : Int) ≤ (0 : Int) ∧ (0 : Int) ≤ 0) (by omega : (0 : Int) ≤ v12.toInt ∧ v12.toInt ≤ 7) hP hD hS (lv_sub hl [1, 0] rfl)
  · refine a_ic F (-1 : Int32) dX12_undo_12 (by decide) ?_
    exact a_reti F hr hlocks hP hD hS dX12_undo_13 ⟨hR, hF, (by decide), hK_MS, hK_UI, hK_CW, hK_AP, hK_AU, hK_i_HX⟩

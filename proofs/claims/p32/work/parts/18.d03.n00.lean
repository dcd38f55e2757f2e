set_option maxHeartbeats 600000 in
set_option maxRecDepth 100000 in
theorem c_X11_daybook_0__2 (l : Launch) (dC : Nat → ClassId) (dI : Nat → Nat → Nat) (ad : Nat → Nat) (cA : Nat → ClassId) (nF : Nat) (u0 : ac_U) (p0 : Int32) (hR : ac_R rg u0) (hK_N4 : nmI 11 12 u0) : ac_Mi l yX11_daybook (.code yX11_daybook cX11_daybook 3 (some .int) :: TB) 8 (dC, dI) vwCl (ac_ty cA) ad cA (TT nF) [.ref (ad 0), .int p0] u0 (fun (r : Int32) (u : ac_U) => ac_R rg u ∧ ac_Fr [(0, some 13), (0, some 14), (1, some 2), (1, some 3), (1, some 4), (1, some 5), (1, some 6), (1, some 8), (1, some 9), (1, some 10), (1, some 11), (24, some 5), (24, some 6), (25, none), (26, none), (27, none), (28, none), (29, some 4), (29, some 5), (29, some 6), (30, none), (39, some 6), (39, some 7), (39, some 8), (39, some 9), (40, none), (41, none), (42, none)] u0 u ∧ (r.toInt ≤ 39) ∧ (dlI 1 u0 p0.toInt) u) := by
  refine ac_Mi.of (cc := cX11_daybook) (maxL := 3) (ret := (some .int)) (by decide) rfl (Nat.le_of_ble_eq_true rfl) ?_
  intro p e s m below meth c A ls F hml hr hlocks hA hP hD hS hl
  have F : ac_X p s m [.ref (ad 0), .int p0].toArray c cX11_daybook RX11 TB (dC, dI) vwCl (ac_ty cA) := ⟨F.1, F.2.1, fun w h => F.2.2.1 w (List.mem_cons_of_mem _ h), F.2.2.2.1, F.2.2.2.2⟩
  have hl : lv_has ls 3 [(0, .ref (ad 0)), (1, .int p0)] := hl
  have hF : ac_Fr [(0, some 13), (0, some 14), (1, some 2), (1, some 3), (1, some 4), (1, some 5), (1, some 6), (1, some 8), (1, some 9), (1, some 10), (1, some 11), (24, some 5), (24, some 6), (25, none), (26, none), (27, none), (28, none), (29, some 4), (29, some 5), (29, some 6), (30, none), (39, some 6), (39, some 7), (39, some 8), (39, some 9), (40, none), (41, none), (42, none)] u0 u0 := ac_Fr.rf
  have L97 : ∀ (u : ac_U) (H : Heap) (locs : List Loc) (ls : Array Slot), ac_R rg u → ac_Fr [(0, some 13), (0, some 14), (1, some 2), (1, some 3), (1, some 4), (1, some 5), (1, some 6), (1, some 8), (1, some 9), (1, some 10), (1, some 11), (24, some 5), (24, some 6), (25, none), (26, none), (27, none), (28, none), (29, some 4), (29, some 5), (29, some 6), (30, none), (39, some 6), (39, some 7), (39, some 8), (39, some 9), (40, none), (41, none), (42, none)] u0 u → (dlI 1 u0 p0.toInt) u → (1 : Int) ≤ (u.1 0 14).toInt ∧ (u.1 0 14).toInt ≤ 1 → (0 : Int) ≤ (u.1 1 2).toInt ∧ (u.1 1 2).toInt ≤ 0 → va_P (dC, dI) vwCl (ac_w ad cA (TT nF) u) H → va_D A (ac_w ad cA (TT nF) u) → va_S A s.heap H locs → lv_has ls 3 [(0, .ref (ad 0))] → W p l e (ac_rm 8) s m [.ref (ad 0), .int p0].toArray below meth c H locs 0 0 (MQ below (va_Qi (fun (r : Int32) (u : ac_U) => ac_R rg u ∧ ac_Fr [(0, some 13), (0, some 14), (1, some 2), (1, some 3), (1, some 4), (1, some 5), (1, some 6), (1, some 8), (1, some 9), (1, some 10), (1, some 11), (24, some 5), (24, some 6), (25, none), (26, none), (27, none), (28, none), (29, some 4), (29, some 5), (29, some 6), (30, none), (39, some 6), (39, some 7), (39, some 8), (39, some 9), (40, none), (41, none), (42, none)] u0 u ∧ (r.toInt ≤ 39) ∧ (dlI 1 u0 p0.toInt) u) (ac_B (dC, dI) vwCl (ac_ty cA) ad cA (TT nF) A) A) [.ref (ad 0), .int p0].toArray s 0 0 A) (F0 m 97 ls []) := by
    intro u H locs ls hR hF hK_DC f0 f1 hP hD hS hl
    refine lv_aload_n F.1 F.2.1 dX11_daybook_97 rfl (lv_at hl 0 rfl) ?_
    refine a_getr F inX11 hP 0 8 tc_0 rfl rfl (by decide) q511 (fun _ h9 => h9) dX11_daybook_98 ?_
    refine a_geti F inX0 hP 39 8 tc_39 rfl rfl (by decide) q410 (fun _ h9 => h9) (v := (u.1 39 8)) rfl dX11_daybook_101 ?_
    refine lv_aload_n F.1 F.2.1 dX11_daybook_104 rfl (lv_at hl 0 rfl) ?_
    refine a_getr F inX11 hP 0 8 tc_0 rfl rfl (by decide) q511 (fun _ h9 => h9) dX11_daybook_105 ?_
    have g1 : (0 : Int) ≤ (u.1 39 6).toInt ∧ (u.1 39 6).toInt ≤ 40 := hR 39 6
    refine a_geti F inX0 hP 39 6 tc_39 rfl rfl (by decide) q406 (fun _ h9 => h9) (v := (u.1 39 6)) rfl dX11_daybook_108 ?_
    refine b_ge F 124 dX11_daybook_111 (by decide) rfl rfl (fun c2 => ?_) (fun c2 => ?_)
    · refine a_ic F (-1 : Int32) dX11_daybook_124 (by decide) ?_
      exact a_reti F hr hlocks hP hD hS dX11_daybook_125 ⟨hR, hF, (by decide), hK_DC⟩
    · refine lv_aload_n F.1 F.2.1 dX11_daybook_114 rfl (lv_at hl 0 rfl) ?_
      refine a_getr F inX11 hP 0 8 tc_0 rfl rfl (by decide) q511 (fun _ h9 => h9) dX11_daybook_115 ?_
      refine a_geti F inX0 hP 39 8 tc_39 rfl rfl (by decide) q410 (fun _ h9 => h9) (v := (u.1 39 8)) (rfl) dX11_daybook_118 ?_
      refine lv_goto (tgt := 125) F.1 F.2.1 dX11_daybook_121 (by decide) ?_
      exact a_reti F hr hlocks hP hD hS dX11_daybook_125 ⟨hR, hF, (by omega : (u.1 39 8).toInt ≤ 39), hK_DC⟩
  have L56 : ∀ (u : ac_U) (H : Heap) (locs : List Loc) (ls : Array Slot), ac_R rg u → ac_Fr [(0, some 13), (0, some 14), (1, some 2), (1, some 3), (1, some 4), (1, some 5), (1, some 6), (1, some 8), (1, some 9), (1, some 10), (1, some 11), (24, some 5), (24, some 6), (25, none), (26, none), (27, none), (28, none), (29, some 4), (29, some 5), (29, some 6), (30, none), (39, some 6), (39, some 7), (39, some 8), (39, some 9), (40, none), (41, none), (42, none)] u0 u → nmI 11 12 u → dbI u → (dlI 1 u0 p0.toInt) u → (0 : Int) ≤ p0.toInt ∧ p0.toInt ≤ 1 → (0 : Int) ≤ (u.1 1 2).toInt ∧ (u.1 1 2).toInt ≤ 0 → va_P (dC, dI) vwCl (ac_w ad cA (TT nF) u) H → va_D A (ac_w ad cA (TT nF) u) → va_S A s.heap H locs → lv_has ls 3 [(0, .ref (ad 0)), (1, .int p0)] → W p l e (ac_rm 8) s m [.ref (ad 0), .int p0].toArray below meth c H locs 0 0 (MQ below (va_Qi (fun (r : Int32) (u : ac_U) => ac_R rg u ∧ ac_Fr [(0, some 13), (0, some 14), (1, some 2), (1, some 3), (1, some 4), (1, some 5), (1, some 6), (1, some 8), (1, some 9), (1, some 10), (1, some 11), (24, some 5), (24, some 6), (25, none), (26, none), (27, none), (28, none), (29, some 4), (29, some 5), (29, some 6), (30, none), (39, some 6), (39, some 7), (39, some 8), (39, some 9), (40, none), (41, none), (42, none)] u0 u ∧ (r.toInt ≤ 39) ∧ (dlI 1 u0 p0.toInt) u) (ac_B (dC, dI) vwCl (ac_ty cA) ad cA (TT nF) A) A) [.ref (ad 0), .int p0].toArray s 0 0 A) (F0 m 56 ls []) := by
    intro u H locs ls hR hF hK_N4 hK_DBI hK_DC f0 f1 hP hD hS hl
    refine lv_aload_n F.1 F.2.1 dX11_daybook_56 rfl (lv_at hl 0 rfl) ?_
    refine a_getr F inX11 hP 0 4 tc_0 rfl rfl (by decide) q507 (fun _ h9 => h9) dX11_daybook_57 ?_
    refine a_Vv F hml hl.1 hA hP hD hS (As := []) (c_X6_setAside_24 l dC dI ad cA nF _  hR) (cs_RX11_294 (d := 1) F.2.2.1 (by decide)) tc_24 rfl rfl rfl rfl (Nat.le_of_ble_eq_true rfl) dX11_daybook_60 ⟨Nat.le_refl 0, Nat.le_refl 0⟩ (fun u3 H locs hq hP hD hS => ?_)
    obtain ⟨hR, hF3⟩ := hq
    have hF := hF.tr hF3 (by decide)
    have hK_N4 := sp_fr sp_N4 hF3 (by decide) hK_N4
    have hK_DBI := sp_fr sp_DBI hF3 (by decide) hK_DBI
    have hK_DC := sp_fr (sp_dl 1 _ _) hF3 (by decide) hK_DC
    refine lv_aload_n F.1 F.2.1 dX11_daybook_63 rfl (lv_at hl 0 rfl) ?_
    refine a_getr F inX11 hP 0 8 tc_0 rfl rfl (by decide) q511 (fun _ h9 => h9) dX11_daybook_64 ?_
    refine a_Vv F hml hl.1 hA hP hD hS (As := []) (c_X0_live_39 l dC dI ad cA nF _  hR hK_DBI) (cs_RX11_304 (d := 6) F.2.2.1 (by decide)) tc_39 rfl rfl rfl rfl (Nat.le_of_ble_eq_true rfl) dX11_daybook_67 ⟨Nat.le_refl 0, Nat.le_refl 0⟩ (fun u4 H locs hq hP hD hS => ?_)
    obtain ⟨hR, hF4⟩ := hq
    have hF := hF.tr hF4 (by decide)
    have hK_N4 := sp_fr sp_N4 hF4 (by decide) hK_N4
    have hK_DBI := sp_fr sp_DBI hF4 (by decide) hK_DBI
    have hK_DC := sp_fr (sp_dl 1 _ _) hF4 (by decide) hK_DC
    refine lv_aload_n F.1 F.2.1 dX11_daybook_70 rfl (lv_at hl 0 rfl) ?_
    refine lv_aload_n F.1 F.2.1 dX11_daybook_71 rfl (lv_at hl 0 rfl) ?_
    refine a_getr F inX11 hP 0 5 tc_0 rfl rfl (by decide) q508 (fun _ h9 => h9) dX11_daybook_72 ?_
    refine a_Vi F hml hl.1 hA hP hD hS (As := []) (c_X5_brokenCount_29 l dC dI ad cA nF _  hR) (cs_RX11_191 (d := 6) F.2.2.1 (by decide)) tc_29 rfl rfl rfl rfl (Nat.le_of_ble_eq_true rfl) dX11_daybook_75 ⟨Nat.le_refl 0, Nat.le_refl 0⟩ (fun r5 u5 H locs hq hP hD hS => ?_)
    obtain ⟨hR, hF5⟩ := hq
    have hF := hF.tr hF5 (by decide)
    have hK_N4 := sp_fr sp_N4 hF5 (by decide) hK_N4
    have hK_DBI := sp_fr sp_DBI hF5 (by decide) hK_DBI
    have hK_DC := sp_fr (sp_dl 1 _ _) hF5 (by decide) hK_DC
    refine a_puti F inX11 tyX11 tyX11_ok nmX11 hP hD hS 0 13 tc_0 rfl rfl (by decide) q516 (fun _ h9 => h9) rfl (ty := .int) (tyX11_ok 13 (by decide)) rfl rfl dX11_daybook_78 (fun H locs hP hD hS => ?_)
    have hR := hR.si (c := 0) (k := 13) (v := r5) ⟨i_lo _, i_hi _⟩
    have hF := hF.si (c := 0) (k := 13) (v := r5) rfl
    have hK_N4 := sp_sgD sp_N4 hD hK_N4 (by decide)
    have hK_DBI := sp_sgD sp_DBI hD hK_DBI (by decide)
    have hK_DC := sp_sgD (sp_dl 1 _ _) hD hK_DC (by decide)
    refine lv_aload_n F.1 F.2.1 dX11_daybook_81 rfl (lv_at hl 0 rfl) ?_
    refine a_ic F (1 : Int32) dX11_daybook_82 (by decide) ?_
    refine a_puti F inX11 tyX11 tyX11_ok nmX11 hP hD hS 0 14 tc_0 rfl rfl (by decide) q517 (fun _ h9 => h9) rfl (ty := .boolean) (tyX11_ok 14 (by decide)) (i_zn (Or.inr rfl)) (i_zf (Or.inr rfl)) dX11_daybook_83 (fun H locs hP hD hS => ?_)
    have hR := hR.si (c := 0) (k := 14) (v := (1 : Int32)) (by rw [ic_1]; exact (by omega : (0 : Int) ≤ (1 : Int) ∧ (1 : Int) ≤ 1))
    have hF := hF.si (c := 0) (k := 14) (v := (1 : Int32)) rfl
    have hK_N4 := sp_sgD sp_N4 hD hK_N4 (by decide)
    have hK_DBI := sp_sgD sp_DBI hD hK_DBI (by decide)
    have hK_DC := sp_sgD (sp_dl 1 _ _) hD hK_DC (by decide)
    refine lv_iload_n F.1 F.2.1 dX11_daybook_86 rfl (lv_at hl 1 rfl) ?_
    refine z_ne F 97 dX11_daybook_87 (by decide) rfl (fun c6 => ?_) (fun c6 => ?_)
    · exact L97 _ _ _ _ hR hF hK_DC (by omega : (1 : Int) ≤ (1 : Int) ∧ (1 : Int) ≤ 1) (i_trB ((hF5 1 2 rfl).trans ((hF4 1 2 rfl).trans (hF3 1 2 rfl))) (by omega : (0 : Int) ≤ (u.1 1 2).toInt ∧ (u.1 1 2).toInt ≤ 0)) hP hD hS (lv_sub hl [0] rfl)
    · refine lv_aload_n F.1 F.2.1 dX11_daybook_90 rfl (lv_at hl 0 rfl) ?_
      refine a_getr F inX11 hP 0 4 tc_0 rfl rfl (by decide) q507 (fun _ h9 => h9) dX11_daybook_91 ?_
      refine a_Vv F hml hl.1 hA hP hD hS (As := []) (c_X6_takeBack_24 l dC dI ad cA nF _  hR) (cs_RX11_300 (d := 1) F.2.2.1 (by decide)) tc_24 rfl rfl rfl rfl (Nat.le_of_ble_eq_true rfl) dX11_daybook_94 ⟨Nat.le_refl 0, Nat.le_refl 0⟩ (fun u7 H locs hq hP hD hS => ?_)
      obtain ⟨hR, hF7⟩ := hq
      have hF := hF.tr hF7 (by decide)
      have hK_N4 := sp_fr sp_N4 hF7 (by decide) hK_N4
      have hK_DBI := sp_fr sp_DBI hF7 (by decide) hK_DBI
      have hK_DC := sp_fr (sp_dl 1 _ _) hF7 (by decide) hK_DC
      exact L97 _ _ _ _ hR hF hK_DC (i_trB (hF7 0 14 rfl) (by omega : (1 : Int) ≤ (1 : Int) ∧ (1 : Int) ≤ 1)) (i_trB ((hF7 1 2 rfl).trans ((hF5 1 2 rfl).trans ((hF4 1 2 rfl).trans (hF3 1 2 rfl)))) (by omega : (0 : Int) ≤ (u.1 1 2).toInt ∧ (u.1 1 2).toInt ≤ 0)) hP hD hS (lv_sub hl [0] rfl)
  have L13 : ∀ (u : ac_U) (H : Heap) (locs : List Loc) (ls : Array Slot), ac_R rg u → ac_Fr [(0, some 13), (0, some 14), (1, some 2), (1, some 3), (1, some 4), (1, some 5), (1, some 6), (1, some 8), (1, some 9), (1, some 10), (1, some 11), (24, some 5), (24, some 6), (25, none), (26, none), (27, none), (28, none), (29, some 4), (29, some 5), (29, some 6), (30, none), (39, some 6), (39, some 7), (39, some 8), (39, some 9), (40, none), (41, none), (42, none)] u0 u → nmI 11 12 u → (0 : Int) ≤ p0.toInt ∧ p0.toInt ≤ 1 → va_P (dC, dI) vwCl (ac_w ad cA (TT nF) u) H → va_D A (ac_w ad cA (TT nF) u) → va_S A s.heap H locs → lv_has ls 3 [(0, .ref (ad 0)), (1, .int p0)] → W p l e (ac_rm 8) s m [.ref (ad 0), .int p0].toArray below meth c H locs 0 0 (MQ below (va_Qi (fun (r : Int32) (u : ac_U) => ac_R rg u ∧ ac_Fr [(0, some 13), (0, some 14), (1, some 2), (1, some 3), (1, some 4), (1, some 5), (1, some 6), (1, some 8), (1, some 9), (1, some 10), (1, some 11), (24, some 5), (24, some 6), (25, none), (26, none), (27, none), (28, none), (29, some 4), (29, some 5), (29, some 6), (30, none), (39, some 6), (39, some 7), (39, some 8), (39, some 9), (40, none), (41, none), (42, none)] u0 u ∧ (r.toInt ≤ 39) ∧ (dlI 1 u0 p0.toInt) u) (ac_B (dC, dI) vwCl (ac_ty cA) ad cA (TT nF) A) A) [.ref (ad 0), .int p0].toArray s 0 0 A) (F0 m 13 ls []) := by
    intro u H locs ls hR hF hK_N4 f0 hP hD hS hl
    refine lv_aload_n F.1 F.2.1 dX11_daybook_13 rfl (lv_at hl 0 rfl) ?_
    refine a_getr F inX11 hP 0 8 tc_0 rfl rfl (by decide) q511 (fun _ h9 => h9) dX11_daybook_14 ?_
    refine a_Vi F hml hl.1 hA hP hD hS (As := []) (c_X0_readWhole_39 l dC dI ad cA nF _  hR hK_N4) (cs_RX11_303 (d := 7) F.2.2.1 (by decide)) tc_39 rfl rfl rfl rfl (Nat.le_of_ble_eq_true rfl) dX11_daybook_17 ⟨Nat.le_refl 0, Nat.le_refl 0⟩ (fun r8 u8 H locs hq hP hD hS => ?_)
    obtain ⟨hR, hF8, gr8, hK_r8_DBI⟩ := hq
    have hF := hF.tr hF8 (by decide)
    have hK_N4 := sp_fr sp_N4 hF8 (by decide) hK_N4
    refine lv_istore_n (lv' := [(2, .int r8), (0, .ref (ad 0)), (1, .int p0)]) F.1 F.2.1 dX11_daybook_20 rfl hl (by decide) rfl (fun ls hl => ?_)
    refine lv_aload_n F.1 F.2.1 dX11_daybook_21 rfl (lv_at hl 1 rfl) ?_
    refine a_getr F inX11 hP 0 0 tc_0 rfl rfl (by decide) q503 (fun _ h9 => h9) dX11_daybook_22 ?_
    refine a_ic F (0 : Int32) dX11_daybook_25 (by decide) ?_
    refine a_puti F inX10 tyX10 tyX10_ok nmX10 hP hD hS 1 2 tc_1 rfl rfl (by decide) q96 (fun _ h9 => h9) rfl (ty := .int) (tyX10_ok 2 (by decide)) rfl rfl dX11_daybook_26 (fun H locs hP hD hS => ?_)
    have hR := hR.si (c := 1) (k := 2) (v := (0 : Int32)) (by rw [ic_0]; exact (by omega : (0 : Int) ≤ (0 : Int) ∧ (0 : Int) ≤ 940))
    have hF := hF.si (c := 1) (k := 2) (v := (0 : Int32)) rfl
    have hN_DC := dl_D (p := p0.toInt) (u0 := u0) (by omega) hD
    have hK_N4 := sp_sgD sp_N4 hD hK_N4 (by decide)
    have hK_r8_DBI := sp_sgD (sp_imp sp_DBI) hD hK_r8_DBI (by decide)
    have hK_DC := hN_DC
    refine lv_iload_n F.1 F.2.1 dX11_daybook_29 rfl (lv_at hl 0 rfl) ?_
    refine z_ne F 44 dX11_daybook_30 (by decide) rfl (fun c9 => ?_) (fun c9 => ?_)
    · have hK_DBI := hK_r8_DBI (by omega)
      refine lv_iload_n F.1 F.2.1 dX11_daybook_44 rfl (lv_at hl 2 rfl) ?_
      refine a_ic F (1 : Int32) dX11_daybook_45 (by decide) ?_
      refine b_ne F 56 dX11_daybook_46 (by decide) rfl ic_1 (fun c10 => ?_) (fun c10 => ?_)
      · exact L56 _ _ _ _ hR hF hK_N4 hK_DBI hK_DC (by omega) (by omega : (0 : Int) ≤ (0 : Int) ∧ (0 : Int) ≤ 0) hP hD hS (lv_sub hl [1, 2] rfl)
      · refine lv_aload_n F.1 F.2.1 dX11_daybook_49 rfl (lv_at hl 1 rfl) ?_
        refine a_getr F inX11 hP 0 4 tc_0 rfl rfl (by decide) q507 (fun _ h9 => h9) dX11_daybook_50 ?_
        refine a_Vv F hml hl.1 hA hP hD hS (As := []) (c_X6_remember_24 l dC dI ad cA nF _  hR) (cs_RX11_200 (d := 1) F.2.2.1 (by decide)) tc_24 rfl rfl rfl rfl (Nat.le_of_ble_eq_true rfl) dX11_daybook_53 ⟨Nat.le_refl 0, Nat.le_refl 0⟩ (fun u11 H locs hq hP hD hS => ?_)
        obtain ⟨hR, hF11⟩ := hq
        have hF := hF.tr hF11 (by decide)
        have hK_N4 := sp_fr sp_N4 hF11 (by decide) hK_N4
        have hK_r8_DBI := sp_fr (sp_imp sp_DBI) hF11 (by decide) hK_r8_DBI
        have hK_DC := sp_fr (sp_dl 1 _ _) hF11 (by decide) hK_DC
        have hK_DBI := sp_fr sp_DBI hF11 (by decide) hK_DBI
        exact L56 _ _ _ _ hR hF hK_N4 hK_DBI hK_DC (by omega) (i_trB (hF11 1 2 rfl) (by omega : (0 : Int) ≤ (0 : Int) ∧ (0 : Int) ≤ 0)) hP hD hS (lv_sub hl [1, 2] rfl)
    · refine a_bp F (-2 : Int32) dX11_daybook_33 (by decide) ?_
      refine lv_aload_n F.1 F.2.1 dX11_daybook_35 rfl (lv_at hl 1 rfl) ?_
      refine a_getr F inX11 hP 0 0 tc_0 rfl rfl (by decide) q503 (fun _ h9 => h9) dX11_daybook_36 ?_
      have g12 : (0 : Int) ≤ (u8.1 1 11).toInt ∧ (u8.1 1 11).toInt ≤ 940 := hR 1 11
      refine a_geti F inX10 hP 1 11 tc_1 rfl rfl (by decide) q117 (fun _ h9 => h9) (v := (u8.1 1 11)) rfl dX11_daybook_39 ?_
      refine a_isub F dX11_daybook_42 ic_m2 rfl (by omega) (fun v13 hv13 => ?_)
      exact a_reti F hr hlocks hP hD hS dX11_daybook_43 ⟨hR, hF, (by omega : v13.toInt ≤ 39), hK_DC⟩
  refine lv_iload_n F.1 F.2.1 dX11_daybook_0 rfl (lv_at hl 1 rfl) ?_
  refine z_eq F 13 dX11_daybook_1 (by decide) rfl (fun c14 => ?_) (fun c14 => ?_)
  · exact L13 _ _ _ _ hR hF hK_N4 (by omega) hP hD hS (lv_sub hl [0, 1] rfl)
  · refine lv_iload_n F.1 F.2.1 dX11_daybook_4 rfl (lv_at hl 1 rfl) ?_
    refine a_ic F (1 : Int32) dX11_daybook_5 (by decide) ?_
    refine b_eq F 13 dX11_daybook_6 (by decide) rfl ic_1 (fun c15 => ?_) (fun c15 => ?_)
    · exact L13 _ _ _ _ hR hF hK_N4 (by omega) hP hD hS (lv_sub hl [0, 1] rfl)
    · refine a_sp F (-1000 : Int32) dX11_daybook_9 (by decide) ?_
      exact a_reti F hr hlocks hP hD hS dX11_daybook_12 ⟨hR, hF, (by decide), (dl_k (by omega) (by omega) rfl)⟩

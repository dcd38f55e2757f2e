set_option maxHeartbeats 600000 in
set_option maxRecDepth 100000 in
theorem c_X11_restore_0__2 (l : Launch) (dC : Nat → ClassId) (dI : Nat → Nat → Nat) (ad : Nat → Nat) (cA : Nat → ClassId) (nF : Nat) (u0 : ac_U) (p0 : Int32) (hR : ac_R rg u0) (hK_N4 : nmI 11 12 u0) (hK_N55 : nmI 62 63 u0) (hK_N64 : nmI 71 72 u0) : ac_Mi l yX11_restore (.code yX11_restore cX11_restore 2 (some .boolean) :: TB) 3 (dC, dI) vwCl (ac_ty cA) ad cA (TT nF) [.ref (ad 0), .int p0] u0 (fun (r : Int32) (u : ac_U) => ac_R rg u ∧ ac_Fr [(4, some 0), (4, some 1), (4, some 2), (4, some 3), (4, some 4), (4, some 5), (4, some 6), (4, some 7), (4, some 8), (5, none), (6, none), (7, none), (8, none), (9, none), (11, none), (12, none), (24, some 5), (25, none), (26, none), (43, some 3), (43, some 4), (44, none), (45, none), (46, none)] u0 u ∧ ((0 : Int) ≤ r.toInt ∧ r.toInt ≤ 1) ∧ ((r.toInt ≠ 0 → (p0.toInt = 0 ∧ (u0.1 53 4).toInt ≠ 0) ∨ (p0.toInt = 1 ∧ (u0.1 54 4).toInt ≠ 0)) ∧ (r.toInt = 0 → (p0.toInt = 0 → (u0.1 53 4).toInt = 0) ∧ (p0.toInt = 1 → (u0.1 54 4).toInt = 0))) ∧ nmI 11 12 u) := by
  refine ac_Mi.of (cc := cX11_restore) (maxL := 2) (ret := (some .boolean)) (by decide) rfl (Nat.le_of_ble_eq_true rfl) ?_
  intro p e s m below meth c A ls F hml hr hlocks hA hP hD hS hl
  have F : ac_X p s m [.ref (ad 0), .int p0].toArray c cX11_restore RX11 TB (dC, dI) vwCl (ac_ty cA) := ⟨F.1, F.2.1, fun w h => F.2.2.1 w (List.mem_cons_of_mem _ h), F.2.2.2.1, F.2.2.2.2⟩
  have hl : lv_has ls 2 [(0, .ref (ad 0)), (1, .int p0)] := hl
  have hF : ac_Fr [(4, some 0), (4, some 1), (4, some 2), (4, some 3), (4, some 4), (4, some 5), (4, some 6), (4, some 7), (4, some 8), (5, none), (6, none), (7, none), (8, none), (9, none), (11, none), (12, none), (24, some 5), (25, none), (26, none), (43, some 3), (43, some 4), (44, none), (45, none), (46, none)] u0 u0 := ac_Fr.rf
  refine lv_iload_n F.1 F.2.1 dX11_restore_0 rfl (lv_at hl 1 rfl) ?_
  refine z_lt F 21 dX11_restore_1 (by decide) rfl (fun c1 => ?_) (fun c1 => ?_)
  · refine a_ic F (0 : Int32) dX11_restore_21 (by decide) ?_
    exact a_retz F hr hlocks hP hD hS dX11_restore_22 (Or.inl rfl) ⟨hR, hF, (by decide), (by first | exact (by omega : ((0 : Int) ≠ 0 → (p0.toInt = 0 ∧ (u0.1 53 4).toInt ≠ 0) ∨ (p0.toInt = 1 ∧ (u0.1 54 4).toInt ≠ 0)) ∧ ((0 : Int) = 0 → (p0.toInt = 0 → (u0.1 53 4).toInt = 0) ∧ (p0.toInt = 1 → (u0.1 54 4).toInt = 0))) | (rw [ic_0]; exact (by omega : ((0 : Int) ≠ 0 → (p0.toInt = 0 ∧ (u0.1 53 4).toInt ≠ 0) ∨ (p0.toInt = 1 ∧ (u0.1 54 4).toInt ≠ 0)) ∧ ((0 : Int) = 0 → (p0.toInt = 0 → (u0.1 53 4).toInt = 0) ∧ (p0.toInt = 1 → (u0.1 54 4).toInt = 0))))), hK_N4⟩
  · refine lv_iload_n F.1 F.2.1 dX11_restore_4 rfl (lv_at hl 1 rfl) ?_
    refine a_ic F (2 : Int32) dX11_restore_5 (by decide) ?_
    refine b_ge F 21 dX11_restore_6 (by decide) rfl ic_2 (fun c2 => ?_) (fun c2 => ?_)
    · refine a_ic F (0 : Int32) dX11_restore_21 (by decide) ?_
      exact a_retz F hr hlocks hP hD hS dX11_restore_22 (Or.inl rfl) ⟨hR, hF, (by decide), (by first | exact (by omega : ((0 : Int) ≠ 0 → (p0.toInt = 0 ∧ (u0.1 53 4).toInt ≠ 0) ∨ (p0.toInt = 1 ∧ (u0.1 54 4).toInt ≠ 0)) ∧ ((0 : Int) = 0 → (p0.toInt = 0 → (u0.1 53 4).toInt = 0) ∧ (p0.toInt = 1 → (u0.1 54 4).toInt = 0))) | (rw [ic_0]; exact (by omega : ((0 : Int) ≠ 0 → (p0.toInt = 0 ∧ (u0.1 53 4).toInt ≠ 0) ∨ (p0.toInt = 1 ∧ (u0.1 54 4).toInt ≠ 0)) ∧ ((0 : Int) = 0 → (p0.toInt = 0 → (u0.1 53 4).toInt = 0) ∧ (p0.toInt = 1 → (u0.1 54 4).toInt = 0))))), hK_N4⟩
    · refine lv_aload_n F.1 F.2.1 dX11_restore_9 rfl (lv_at hl 0 rfl) ?_
      refine a_getr F inX11 hP 0 12 tc_0 rfl rfl (by decide) q515 (fun _ h9 => h9) dX11_restore_10 ?_
      refine lv_iload_n F.1 F.2.1 dX11_restore_13 rfl (lv_at hl 1 rfl) ?_
      rcases (show p0.toInt = 0 ∨ p0.toInt = 1 by omega) with c3 | c3
      · refine a_aald F hP 52 (b := 53) tc_52 rfl 0 53 (i_nn rfl (by omega)) rfl (i_in rfl (by omega)) dX11_restore_14 ?_
        have g4 : (0 : Int) ≤ (u0.1 53 4).toInt ∧ (u0.1 53 4).toInt ≤ 1 := hR 53 4
        refine a_geti F inX4 hP 53 4 tc_53 rfl rfl (by decide) q491 (fun _ h9 => h9) (v := (u0.1 53 4)) rfl dX11_restore_15 ?_
        refine z_ne F 23 dX11_restore_18 (by decide) rfl (fun c5 => ?_) (fun c5 => ?_)
        · refine lv_aload_n F.1 F.2.1 dX11_restore_23 rfl (lv_at hl 0 rfl) ?_
          refine a_getr F inX11 hP 0 12 tc_0 rfl rfl (by decide) q515 (fun _ h9 => h9) dX11_restore_24 ?_
          refine lv_iload_n F.1 F.2.1 dX11_restore_27 rfl (lv_at hl 1 rfl) ?_
          rcases (show p0.toInt = 0 ∨ p0.toInt = 1 by omega) with c6 | c6
          · refine a_aald F hP 52 (b := 53) tc_52 rfl 0 53 (i_nn rfl (by omega)) rfl (i_in rfl (by omega)) dX11_restore_28 ?_
            refine lv_aload_n F.1 F.2.1 dX11_restore_29 rfl (lv_at hl 0 rfl) ?_
            refine a_getr F inX11 hP 0 1 tc_0 rfl rfl (by decide) q504 (fun _ h9 => h9) dX11_restore_30 ?_
            refine lv_aload_n F.1 F.2.1 dX11_restore_33 rfl (lv_at hl 0 rfl) ?_
            refine a_getr F inX11 hP 0 4 tc_0 rfl rfl (by decide) q507 (fun _ h9 => h9) dX11_restore_34 ?_
            refine lv_aload_n F.1 F.2.1 dX11_restore_37 rfl (lv_at hl 0 rfl) ?_
            refine a_getr F inX11 hP 0 9 tc_0 rfl rfl (by decide) q512 (fun _ h9 => h9) dX11_restore_38 ?_
            refine a_Vv F hml hl.1 hA hP hD hS (As := [.ref (ad 4), .ref (ad 24), .ref (ad 43)]) (c_X4_give_53_4_24_43 l dC dI ad cA nF _  hR hK_N55) (cs_RX11_345 (d := 2) F.2.2.1 (by decide)) tc_53 rfl rfl rfl rfl (Nat.le_of_ble_eq_true rfl) dX11_restore_41 ⟨Nat.le_refl 0, Nat.le_refl 0⟩ (fun u7 H locs hq hP hD hS => ?_)
            obtain ⟨hR, hF7, hK_N4⟩ := hq
            have hF := hF.tr hF7 (by decide)
            have hK_N55 := sp_fr sp_N55 hF7 (by decide) hK_N55
            have hK_N64 := sp_fr sp_N64 hF7 (by decide) hK_N64
            refine a_ic F (1 : Int32) dX11_restore_44 (by decide) ?_
            exact a_retz F hr hlocks hP hD hS dX11_restore_45 (Or.inr rfl) ⟨hR, hF, (by decide), (by first | exact (by omega : ((1 : Int) ≠ 0 → (p0.toInt = 0 ∧ (u0.1 53 4).toInt ≠ 0) ∨ (p0.toInt = 1 ∧ (u0.1 54 4).toInt ≠ 0)) ∧ ((1 : Int) = 0 → (p0.toInt = 0 → (u0.1 53 4).toInt = 0) ∧ (p0.toInt = 1 → (u0.1 54 4).toInt = 0))) | (rw [ic_1]; exact (by omega : ((1 : Int) ≠ 0 → (p0.toInt = 0 ∧ (u0.1 53 4).toInt ≠ 0) ∨ (p0.toInt = 1 ∧ (u0.1 54 4).toInt ≠ 0)) ∧ ((1 : Int) = 0 → (p0.toInt = 0 → (u0.1 53 4).toInt = 0) ∧ (p0.toInt = 1 → (u0.1 54 4).toInt = 0))))), hK_N4⟩
          · refine a_aald F hP 52 (b := 53) tc_52 rfl 1 54 (i_nn rfl (by omega)) rfl (i_in rfl (by omega)) dX11_restore_28 ?_
            refine lv_aload_n F.1 F.2.1 dX11_restore_29 rfl (lv_at hl 0 rfl) ?_
            refine a_getr F inX11 hP 0 1 tc_0 rfl rfl (by decide) q504 (fun _ h9 => h9) dX11_restore_30 ?_
            refine lv_aload_n F.1 F.2.1 dX11_restore_33 rfl (lv_at hl 0 rfl) ?_
            refine a_getr F inX11 hP 0 4 tc_0 rfl rfl (by decide) q507 (fun _ h9 => h9) dX11_restore_34 ?_
            refine lv_aload_n F.1 F.2.1 dX11_restore_37 rfl (lv_at hl 0 rfl) ?_
            refine a_getr F inX11 hP 0 9 tc_0 rfl rfl (by decide) q512 (fun _ h9 => h9) dX11_restore_38 ?_
            refine a_Vv F hml hl.1 hA hP hD hS (As := [.ref (ad 4), .ref (ad 24), .ref (ad 43)]) (c_X4_give_54_4_24_43 l dC dI ad cA nF _  hR hK_N64) (cs_RX11_345 (d := 2) F.2.2.1 (by decide)) tc_54 rfl rfl rfl rfl (Nat.le_of_ble_eq_true rfl) dX11_restore_41 ⟨Nat.le_refl 0, Nat.le_refl 0⟩ (fun u8 H locs hq hP hD hS => ?_)
            obtain ⟨hR, hF8, hK_N4⟩ := hq
            have hF := hF.tr hF8 (by decide)
            have hK_N55 := sp_fr sp_N55 hF8 (by decide) hK_N55
            have hK_N64 := sp_fr sp_N64 hF8 (by decide) hK_N64
            refine a_ic F (1 : Int32) dX11_restore_44 (by decide) ?_
            exact a_retz F hr hlocks hP hD hS dX11_restore_45 (Or.inr rfl) ⟨hR, hF, (by decide), (by first | exact (by omega : ((1 : Int) ≠ 0 → (p0.toInt = 0 ∧ (u0.1 53 4).toInt ≠ 0) ∨ (p0.toInt = 1 ∧ (u0.1 54 4).toInt ≠ 0)) ∧ ((1 : Int) = 0 → (p0.toInt = 0 → (u0.1 53 4).toInt = 0) ∧ (p0.toInt = 1 → (u0.1 54 4).toInt = 0))) | (rw [ic_1]; exact (by omega : ((1 : Int) ≠ 0 → (p0.toInt = 0 ∧ (u0.1 53 4).toInt ≠ 0) ∨ (p0.toInt = 1 ∧ (u0.1 54 4).toInt ≠ 0)) ∧ ((1 : Int) = 0 → (p0.toInt = 0 → (u0.1 53 4).toInt = 0) ∧ (p0.toInt = 1 → (u0.1 54 4).toInt = 0))))), hK_N4⟩
        · refine a_ic F (0 : Int32) dX11_restore_21 (by decide) ?_
          exact a_retz F hr hlocks hP hD hS dX11_restore_22 (Or.inl rfl) ⟨hR, hF, (by decide), (by first | exact (by omega : ((0 : Int) ≠ 0 → (p0.toInt = 0 ∧ (u0.1 53 4).toInt ≠ 0) ∨ (p0.toInt = 1 ∧ (u0.1 54 4).toInt ≠ 0)) ∧ ((0 : Int) = 0 → (p0.toInt = 0 → (u0.1 53 4).toInt = 0) ∧ (p0.toInt = 1 → (u0.1 54 4).toInt = 0))) | (rw [ic_0]; exact (by omega : ((0 : Int) ≠ 0 → (p0.toInt = 0 ∧ (u0.1 53 4).toInt ≠ 0) ∨ (p0.toInt = 1 ∧ (u0.1 54 4).toInt ≠ 0)) ∧ ((0 : Int) = 0 → (p0.toInt = 0 → (u0.1 53 4).toInt = 0) ∧ (p0.toInt = 1 → (u0.1 54 4).toInt = 0))))), hK_N4⟩
      · refine a_aald F hP 52 (b := 53) tc_52 rfl 1 54 (i_nn rfl (by omega)) rfl (i_in rfl (by omega)) dX11_restore_14 ?_
        have g9 : (0 : Int) ≤ (u0.1 54 4).toInt ∧ (u0.1 54 4).toInt ≤ 1 := hR 54 4
        refine a_geti F inX4 hP 54 4 tc_54 rfl rfl (by decide) q491 (fun _ h9 => h9) (v := (u0.1 54 4)) rfl dX11_restore_15 ?_
        refine z_ne F 23 dX11_restore_18 (by decide) rfl (fun c10 => ?_) (fun c10 => ?_)
        · refine lv_aload_n F.1 F.2.1 dX11_restore_23 rfl (lv_at hl 0 rfl) ?_
          refine a_getr F inX11 hP 0 12 tc_0 rfl rfl (by decide) q515 (fun _ h9 => h9) dX11_restore_24 ?_
          refine lv_iload_n F.1 F.2.1 dX11_restore_27 rfl (lv_at hl 1 rfl) ?_
          rcases (show p0.toInt = 0 ∨ p0.toInt = 1 by omega) with c11 | c11
          · refine a_aald F hP 52 (b := 53) tc_52 rfl 0 53 (i_nn rfl (by omega)) rfl (i_in rfl (by omega)) dX11_restore_28 ?_
            refine lv_aload_n F.1 F.2.1 dX11_restore_29 rfl (lv_at hl 0 rfl) ?_
            refine a_getr F inX11 hP 0 1 tc_0 rfl rfl (by decide) q504 (fun _ h9 => h9) dX11_restore_30 ?_
            refine lv_aload_n F.1 F.2.1 dX11_restore_33 rfl (lv_at hl 0 rfl) ?_
            refine a_getr F inX11 hP 0 4 tc_0 rfl rfl (by decide) q507 (fun _ h9 => h9) dX11_restore_34 ?_
            refine lv_aload_n F.1 F.2.1 dX11_restore_37 rfl (lv_at hl 0 rfl) ?_
            refine a_getr F inX11 hP 0 9 tc_0 rfl rfl (by decide) q512 (fun _ h9 => h9) dX11_restore_38 ?_
            refine a_Vv F hml hl.1 hA hP hD hS (As := [.ref (ad 4), .ref (ad 24), .ref (ad 43)]) (c_X4_give_53_4_24_43 l dC dI ad cA nF _  hR hK_N55) (cs_RX11_345 (d := 2) F.2.2.1 (by decide)) tc_53 rfl rfl rfl rfl (Nat.le_of_ble_eq_true rfl) dX11_restore_41 ⟨Nat.le_refl 0, Nat.le_refl 0⟩ (fun u12 H locs hq hP hD hS => ?_)
            obtain ⟨hR, hF12, hK_N4⟩ := hq
            have hF := hF.tr hF12 (by decide)
            have hK_N55 := sp_fr sp_N55 hF12 (by decide) hK_N55
            have hK_N64 := sp_fr sp_N64 hF12 (by decide) hK_N64
            refine a_ic F (1 : Int32) dX11_restore_44 (by decide) ?_
            exact a_retz F hr hlocks hP hD hS dX11_restore_45 (Or.inr rfl) ⟨hR, hF, (by decide), (by first | exact (by omega : ((1 : Int) ≠ 0 → (p0.toInt = 0 ∧ (u0.1 53 4).toInt ≠ 0) ∨ (p0.toInt = 1 ∧ (u0.1 54 4).toInt ≠ 0)) ∧ ((1 : Int) = 0 → (p0.toInt = 0 → (u0.1 53 4).toInt = 0) ∧ (p0.toInt = 1 → (u0.1 54 4).toInt = 0))) | (rw [ic_1]; exact (by omega : ((1 : Int) ≠ 0 → (p0.toInt = 0 ∧ (u0.1 53 4).toInt ≠ 0) ∨ (p0.toInt = 1 ∧ (u0.1 54 4).toInt ≠ 0)) ∧ ((1 : Int) = 0 → (p0.toInt = 0 → (u0.1 53 4).toInt = 0) ∧ (p0.toInt = 1 → (u0.1 54 4).toInt = 0))))), hK_N4⟩
          · refine a_aald F hP 52 (b := 53) tc_52 rfl 1 54 (i_nn rfl (by omega)) rfl (i_in rfl (by omega)) dX11_restore_28 ?_
            refine lv_aload_n F.1 F.2.1 dX11_restore_29 rfl (lv_at hl 0 rfl) ?_
            refine a_getr F inX11 hP 0 1 tc_0 rfl rfl (by decide) q504 (fun _ h9 => h9) dX11_restore_30 ?_
            refine lv_aload_n F.1 F.2.1 dX11_restore_33 rfl (lv_at hl 0 rfl) ?_
            refine a_getr F inX11 hP 0 4 tc_0 rfl rfl (by decide) q507 (fun _ h9 => h9) dX11_restore_34 ?_
            refine lv_aload_n F.1 F.2.1 dX11_restore_37 rfl (lv_at hl 0 rfl) ?_
            refine a_getr F inX11 hP 0 9 tc_0 rfl rfl (by decide) q512 (fun _ h9 => h9) dX11_restore_38 ?_
            refine a_Vv F hml hl.1 hA hP hD hS (As := [.ref (ad 4), .ref (ad 24), .ref (ad 43)]) (c_X4_give_54_4_24_43 l dC dI ad cA nF _  hR hK_N64) (cs_RX11_345 (d := 2) F.2.2.1 (by decide)) tc_54 rfl rfl rfl rfl (Nat.le_of_ble_eq_true rfl) dX11_restore_41 ⟨Nat.le_refl 0, Nat.le_refl 0⟩ (fun u13 H locs hq hP hD hS => ?_)
            obtain ⟨hR, hF13, hK_N4⟩ := hq
            have hF := hF.tr hF13 (by decide)
            have hK_N55 := sp_fr sp_N55 hF13 (by decide) hK_N55
            have hK_N64 := sp_fr sp_N64 hF13 (by decide) hK_N64
            refine a_ic F (1 : Int32) dX11_restore_44 (by decide) ?_
            exact a_retz F hr hlocks hP hD hS dX11_restore_45 (Or.inr rfl) ⟨hR, hF, (by decide), (by first | exact (by omega : ((1 : Int) ≠ 0 → (p0.toInt = 0 ∧ (u0.1 53 4).toInt ≠ 0) ∨ (p0.toInt = 1 ∧ (u0.1 54 4).toInt ≠ 0)) ∧ ((1 : Int) = 0 → (p0.toInt = 0 → (u0.1 53 4).toInt = 0) ∧ (p0.toInt = 1 → (u0.1 54 4).toInt = 0))) | (rw [ic_1]; exact (by omega : ((1 : Int) ≠ 0 → (p0.toInt = 0 ∧ (u0.1 53 4).toInt ≠ 0) ∨ (p0.toInt = 1 ∧ (u0.1 54 4).toInt ≠ 0)) ∧ ((1 : Int) = 0 → (p0.toInt = 0 → (u0.1 53 4).toInt = 0) ∧ (p0.toInt = 1 → (u0.1 54 4).toInt = 0))))), hK_N4⟩
        · refine a_ic F (0 : Int32) dX11_restore_21 (by decide) ?_
          exact a_retz F hr hlocks hP hD hS dX11_restore_22 (Or.inl rfl) ⟨hR, hF, (by decide), (by first | exact (by omega : ((0 : Int) ≠ 0 → (p0.toInt = 0 ∧ (u0.1 53 4).toInt ≠ 0) ∨ (p0.toInt = 1 ∧ (u0.1 54 4).toInt ≠ 0)) ∧ ((0 : Int) = 0 → (p0.toInt = 0 → (u0.1 53 4).toInt = 0) ∧ (p0.toInt = 1 → (u0.1 54 4).toInt = 0))) | (rw [ic_0]; exact (by omega : ((0 : Int) ≠ 0 → (p0.toInt = 0 ∧ (u0.1 53 4).toInt ≠ 0) ∨ (p0.toInt = 1 ∧ (u0.1 54 4).toInt ≠ 0)) ∧ ((0 : Int) = 0 → (p0.toInt = 0 → (u0.1 53 4).toInt = 0) ∧ (p0.toInt = 1 → (u0.1 54 4).toInt = 0))))), hK_N4⟩
set_option maxHeartbeats 600000 in
set_option maxRecDepth 100000 in
theorem c_X11_sentence_0__2 (l : Launch) (dC : Nat → ClassId) (dI : Nat → Nat → Nat) (ad : Nat → Nat) (cA : Nat → ClassId) (nF : Nat) (u0 : ac_U)  (hR : ac_R rg u0) (hK_N4 : nmI 11 12 u0) : ac_Mi l yX11_sentence (.code yX11_sentence cX11_sentence 2 (some .int) :: TB) 37 (dC, dI) vwCl (ac_ty cA) ad cA (TT nF) [.ref (ad 0)] u0 (fun (r : Int32) (u : ac_U) => ac_R rg u ∧ ac_Fr [(1, some 2), (1, some 3), (1, some 4), (1, some 5), (1, some 6), (1, some 8), (1, some 9), (1, some 10), (1, some 11), (43, some 3), (43, some 4), (44, none), (45, none), (46, none), (47, some 3), (47, some 4), (48, none), (49, none), (50, none)] u0 u ∧ ((-941 : Int) ≤ r.toInt ∧ r.toInt ≤ 20) ∧ (ln0 1) u) := by
  refine ac_Mi.of (cc := cX11_sentence) (maxL := 2) (ret := (some .int)) (by decide) rfl (Nat.le_of_ble_eq_true rfl) ?_
  intro p e s m below meth c A ls F hml hr hlocks hA hP hD hS hl
  have F : ac_X p s m [.ref (ad 0)].toArray c cX11_sentence RX11 TB (dC, dI) vwCl (ac_ty cA) := ⟨F.1, F.2.1, fun w h => F.2.2.1 w (List.mem_cons_of_mem _ h), F.2.2.2.1, F.2.2.2.2⟩
  have hl : lv_has ls 2 [(0, .ref (ad 0))] := hl
  have hF : ac_Fr [(1, some 2), (1, some 3), (1, some 4), (1, some 5), (1, some 6), (1, some 8), (1, some 9), (1, some 10), (1, some 11), (43, some 3), (43, some 4), (44, none), (45, none), (46, none), (47, some 3), (47, some 4), (48, none), (49, none), (50, none)] u0 u0 := ac_Fr.rf
  have L33 : ∀ (z0 : Int32) (u : ac_U) (H : Heap) (locs : List Loc) (ls : Array Slot), ac_R rg u → ac_Fr [(1, some 2), (1, some 3), (1, some 4), (1, some 5), (1, some 6), (1, some 8), (1, some 9), (1, some 10), (1, some 11), (43, some 3), (43, some 4), (44, none), (45, none), (46, none), (47, some 3), (47, some 4), (48, none), (49, none), (50, none)] u0 u → nmI 11 12 u → (0 : Int) ≤ z0.toInt ∧ z0.toInt ≤ 1 → va_P (dC, dI) vwCl (ac_w ad cA (TT nF) u) H → va_D A (ac_w ad cA (TT nF) u) → va_S A s.heap H locs → lv_has ls 2 [(0, .ref (ad 0))] → W p l e (ac_rm 37) s m [.ref (ad 0)].toArray below meth c H locs 0 0 (MQ below (va_Qi (fun (r : Int32) (u : ac_U) => ac_R rg u ∧ ac_Fr [(1, some 2), (1, some 3), (1, some 4), (1, some 5), (1, some 6), (1, some 8), (1, some 9), (1, some 10), (1, some 11), (43, some 3), (43, some 4), (44, none), (45, none), (46, none), (47, some 3), (47, some 4), (48, none), (49, none), (50, none)] u0 u ∧ ((-941 : Int) ≤ r.toInt ∧ r.toInt ≤ 20) ∧ (ln0 1) u) (ac_B (dC, dI) vwCl (ac_ty cA) ad cA (TT nF) A) A) [.ref (ad 0)].toArray s 0 0 A) (F0 m 33 ls [.int z0]) := by
    intro z0 u H locs ls hR hF hK_N4 f0 hP hD hS hl
    refine lv_istore_n (lv' := [(1, .int z0), (0, .ref (ad 0))]) F.1 F.2.1 dX11_sentence_33 rfl hl (by decide) rfl (fun ls hl => ?_)
    refine lv_aload_n F.1 F.2.1 dX11_sentence_34 rfl (lv_at hl 1 rfl) ?_
    refine a_getr F inX11 hP 0 0 tc_0 rfl rfl (by decide) q503 (fun _ h9 => h9) dX11_sentence_35 ?_
    refine a_ic F (0 : Int32) dX11_sentence_38 (by decide) ?_
    refine a_puti F inX10 tyX10 tyX10_ok nmX10 hP hD hS 1 2 tc_1 rfl rfl (by decide) q96 (fun _ h9 => h9) rfl (ty := .int) (tyX10_ok 2 (by decide)) rfl rfl dX11_sentence_39 (fun H locs hP hD hS => ?_)
    have hR := hR.si (c := 1) (k := 2) (v := (0 : Int32)) (by rw [ic_0]; exact (by omega : (0 : Int) ≤ (0 : Int) ∧ (0 : Int) ≤ 940))
    have hF := hF.si (c := 1) (k := 2) (v := (0 : Int32)) rfl
    have hN_LC := ln0_D hD
    have hK_N4 := sp_sgD sp_N4 hD hK_N4 (by decide)
    have hK_LC := hN_LC
    refine lv_iload_n F.1 F.2.1 dX11_sentence_42 rfl (lv_at hl 0 rfl) ?_
    refine z_ne F 56 dX11_sentence_43 (by decide) rfl (fun c1 => ?_) (fun c1 => ?_)
    · refine lv_aload_n F.1 F.2.1 dX11_sentence_56 rfl (lv_at hl 1 rfl) ?_
      refine a_getr F inX11 hP 0 9 tc_0 rfl rfl (by decide) q512 (fun _ h9 => h9) dX11_sentence_57 ?_
      refine lv_aload_n F.1 F.2.1 dX11_sentence_60 rfl (lv_at hl 1 rfl) ?_
      refine a_getr F inX11 hP 0 10 tc_0 rfl rfl (by decide) q513 (fun _ h9 => h9) dX11_sentence_61 ?_
      refine a_Vv F hml hl.1 hA hP hD hS (As := [.ref (ad 47)]) (c_X8_copyFrom_43_47 l dC dI ad cA nF _  hR) (cs_RX11_324 (d := 1) F.2.2.1 (by decide)) tc_43 rfl rfl rfl rfl (Nat.le_of_ble_eq_true rfl) dX11_sentence_64 ⟨Nat.le_refl 0, Nat.le_refl 0⟩ (fun u2 H locs hq hP hD hS => ?_)
      obtain ⟨hR, hF2⟩ := hq
      have hF := hF.tr hF2 (by decide)
      have hK_N4 := sp_fr sp_N4 hF2 (by decide) hK_N4
      have hK_LC := sp_fr (sp_ln0 1) hF2 (by decide) hK_LC
      refine lv_aload_n F.1 F.2.1 dX11_sentence_67 rfl (lv_at hl 1 rfl) ?_
      refine a_getr F inX11 hP 0 9 tc_0 rfl rfl (by decide) q512 (fun _ h9 => h9) dX11_sentence_68 ?_
      have g3 : (0 : Int) ≤ (u2.1 43 4).toInt ∧ (u2.1 43 4).toInt ≤ 20 := hR 43 4
      refine a_geti F inX8 hP 43 4 tc_43 rfl rfl (by decide) q447 (fun _ h9 => h9) (v := (u2.1 43 4)) rfl dX11_sentence_71 ?_
      exact a_reti F hr hlocks hP hD hS dX11_sentence_74 ⟨hR, hF, (by omega : (-941 : Int) ≤ (u2.1 43 4).toInt ∧ (u2.1 43 4).toInt ≤ 20), hK_LC⟩
    · refine a_ic F (-1 : Int32) dX11_sentence_46 (by decide) ?_
      refine lv_aload_n F.1 F.2.1 dX11_sentence_47 rfl (lv_at hl 1 rfl) ?_
      refine a_getr F inX11 hP 0 0 tc_0 rfl rfl (by decide) q503 (fun _ h9 => h9) dX11_sentence_48 ?_
      have g4 : (0 : Int) ≤ (u.1 1 11).toInt ∧ (u.1 1 11).toInt ≤ 940 := hR 1 11
      refine a_geti F inX10 hP 1 11 tc_1 rfl rfl (by decide) q117 (fun _ h9 => h9) (v := (u.1 1 11)) rfl dX11_sentence_51 ?_
      refine a_isub F dX11_sentence_54 ic_m1 rfl (by omega) (fun v5 hv5 => ?_)
      exact a_reti F hr hlocks hP hD hS dX11_sentence_55 ⟨hR, hF, (by omega : (-941 : Int) ≤ v5.toInt ∧ v5.toInt ≤ 20), hK_LC⟩
  have L32 : ∀ (u : ac_U) (H : Heap) (locs : List Loc) (ls : Array Slot), ac_R rg u → ac_Fr [(1, some 2), (1, some 3), (1, some 4), (1, some 5), (1, some 6), (1, some 8), (1, some 9), (1, some 10), (1, some 11), (43, some 3), (43, some 4), (44, none), (45, none), (46, none), (47, some 3), (47, some 4), (48, none), (49, none), (50, none)] u0 u → nmI 11 12 u → va_P (dC, dI) vwCl (ac_w ad cA (TT nF) u) H → va_D A (ac_w ad cA (TT nF) u) → va_S A s.heap H locs → lv_has ls 2 [(0, .ref (ad 0))] → W p l e (ac_rm 37) s m [.ref (ad 0)].toArray below meth c H locs 0 0 (MQ below (va_Qi (fun (r : Int32) (u : ac_U) => ac_R rg u ∧ ac_Fr [(1, some 2), (1, some 3), (1, some 4), (1, some 5), (1, some 6), (1, some 8), (1, some 9), (1, some 10), (1, some 11), (43, some 3), (43, some 4), (44, none), (45, none), (46, none), (47, some 3), (47, some 4), (48, none), (49, none), (50, none)] u0 u ∧ ((-941 : Int) ≤ r.toInt ∧ r.toInt ≤ 20) ∧ (ln0 1) u) (ac_B (dC, dI) vwCl (ac_ty cA) ad cA (TT nF) A) A) [.ref (ad 0)].toArray s 0 0 A) (F0 m 32 ls []) := by
    intro u H locs ls hR hF hK_N4 hP hD hS hl
    refine a_ic F (0 : Int32) dX11_sentence_32 (by decide) ?_
    exact L33 (0 : Int32) _ _ _ _ hR hF hK_N4 (by decide) hP hD hS (lv_sub hl [0] rfl)
  refine lv_aload_n F.1 F.2.1 dX11_sentence_0 rfl (lv_at hl 0 rfl) ?_
  refine a_getr F inX11 hP 0 11 tc_0 rfl rfl (by decide) q514 (fun _ h9 => h9) dX11_sentence_1 ?_
  refine a_Vv F hml hl.1 hA hP hD hS (As := []) (c_X9_begin_51 l dC dI ad cA nF _  hR) (cs_RX11_317 (d := 5) F.2.2.1 (by decide)) tc_51 rfl rfl rfl rfl (Nat.le_of_ble_eq_true rfl) dX11_sentence_4 ⟨Nat.le_refl 0, Nat.le_refl 0⟩ (fun u6 H locs hq hP hD hS => ?_)
  obtain ⟨hR, hF6⟩ := hq
  have hF := hF.tr hF6 (by decide)
  have hK_N4 := sp_fr sp_N4 hF6 (by decide) hK_N4
  refine lv_aload_n F.1 F.2.1 dX11_sentence_7 rfl (lv_at hl 0 rfl) ?_
  refine a_getr F inX11 hP 0 11 tc_0 rfl rfl (by decide) q514 (fun _ h9 => h9) dX11_sentence_8 ?_
  refine a_ic F (1 : Int32) dX11_sentence_11 (by decide) ?_
  refine a_Vi F hml hl.1 hA hP hD hS (As := [.int (1 : Int32)]) (c_X9_readCond_51_d1 l dC dI ad cA nF _ (1 : Int32) hR (by decide) hK_N4) (cs_RX11_318 (d := 36) F.2.2.1 (by decide)) tc_51 rfl rfl rfl rfl (Nat.le_of_ble_eq_true rfl) dX11_sentence_12 ⟨Nat.le_refl 0, Nat.le_refl 0⟩ (fun r7 u7 H locs hq hP hD hS => ?_)
  obtain ⟨hR, hF7, gr7⟩ := hq
  have hF := hF.tr hF7 (by decide)
  have hK_N4 := sp_fr sp_N4 hF7 (by decide) hK_N4
  refine z_eq F 32 dX11_sentence_15 (by decide) rfl (fun c8 => ?_) (fun c8 => ?_)
  · exact L32 _ _ _ _ hR hF hK_N4 hP hD hS (lv_sub hl [0] rfl)
  · refine lv_aload_n F.1 F.2.1 dX11_sentence_18 rfl (lv_at hl 0 rfl) ?_
    refine a_getr F inX11 hP 0 11 tc_0 rfl rfl (by decide) q514 (fun _ h9 => h9) dX11_sentence_19 ?_
    refine a_Vi F hml hl.1 hA hP hD hS (As := []) (c_X9_isAtEnd_51 l dC dI ad cA nF _  hR) (cs_RX11_321 (d := 2) F.2.2.1 (by decide)) tc_51 rfl rfl rfl rfl (Nat.le_of_ble_eq_true rfl) dX11_sentence_22 ⟨Nat.le_refl 0, Nat.le_refl 0⟩ (fun r9 u9 H locs hq hP hD hS => ?_)
    obtain ⟨hR, hF9, gr9⟩ := hq
    have hF := hF.tr hF9 (by decide)
    have hK_N4 := sp_fr sp_N4 hF9 (by decide) hK_N4
    refine z_eq F 32 dX11_sentence_25 (by decide) rfl (fun c10 => ?_) (fun c10 => ?_)
    · exact L32 _ _ _ _ hR hF hK_N4 hP hD hS (lv_sub hl [0] rfl)
    · refine a_ic F (1 : Int32) dX11_sentence_28 (by decide) ?_
      refine lv_goto (tgt := 33) F.1 F.2.1 dX11_sentence_29 (by decide) ?_
      exact L33 (1 : Int32) _ _ _ _ hR hF hK_N4 (by decide) hP hD hS (lv_sub hl [0] rfl)
set_option maxHeartbeats 600000 in
set_option maxRecDepth 100000 in
theorem c_X12_taken_85__2 (l : Launch) (dC : Nat → ClassId) (dI : Nat → Nat → Nat) (ad : Nat → Nat) (cA : Nat → ClassId) (nF : Nat) (u0 : ac_U) (p0 : Int32) (hR : ac_R rg u0) (hp0 : (200 : Int) ≤ p0.toInt ∧ p0.toInt ≤ 900) : ac_Mv l yX12_taken (.code yX12_taken cX12_taken 2 none :: TB) 1 (dC, dI) vwCl (ac_ty cA) ad cA (TT nF) [.ref (ad 85), .int p0] u0 (fun (u : ac_U) => ac_R rg u ∧ ac_Fr [(85, some 2), (85, some 3), (85, some 4), (85, some 5)] u0 u ∧ (ln0 85) u) := by
  refine ac_Mv.of (cc := cX12_taken) (maxL := 2) (ret := none) (by decide) rfl (Nat.le_of_ble_eq_true rfl) ?_
  intro p e s m below meth c A ls F hml hr hlocks hA hP hD hS hl
  have F : ac_X p s m [.ref (ad 85), .int p0].toArray c cX12_taken RX12 TB (dC, dI) vwCl (ac_ty cA) := ⟨F.1, F.2.1, fun w h => F.2.2.1 w (List.mem_cons_of_mem _ h), F.2.2.2.1, F.2.2.2.2⟩
  have hl : lv_has ls 2 [(0, .ref (ad 85)), (1, .int p0)] := hl
  have hF : ac_Fr [(85, some 2), (85, some 3), (85, some 4), (85, some 5)] u0 u0 := ac_Fr.rf
  refine lv_aload_n F.1 F.2.1 dX12_taken_0 rfl (lv_at hl 0 rfl) ?_
  refine lv_aload_n F.1 F.2.1 dX12_taken_1 rfl (lv_at hl 0 rfl) ?_
  have g1 : (0 : Int) ≤ (u0.1 85 2).toInt ∧ (u0.1 85 2).toInt ≤ 940 := hR 85 2
  refine a_geti F inX12 hP 85 2 tc_85 rfl rfl (by decide) q1473 (fun _ h9 => h9) (v := (u0.1 85 2)) rfl dX12_taken_2 ?_
  refine a_puti F inX12 tyX12 tyX12_ok nmX12 hP hD hS 85 3 tc_85 rfl rfl (by decide) q1474 (fun _ h9 => h9) rfl (ty := .int) (tyX12_ok 3 (by decide)) rfl rfl dX12_taken_5 (fun H locs hP hD hS => ?_)
  have hR := hR.si (c := 85) (k := 3) (v := (u0.1 85 2)) (by omega : (0 : Int) ≤ (u0.1 85 2).toInt ∧ (u0.1 85 2).toInt ≤ 940)
  have hF := hF.si (c := 85) (k := 3) (v := (u0.1 85 2)) rfl
  refine lv_aload_n F.1 F.2.1 dX12_taken_8 rfl (lv_at hl 0 rfl) ?_
  refine a_ic F (0 : Int32) dX12_taken_9 (by decide) ?_
  refine a_puti F inX12 tyX12 tyX12_ok nmX12 hP hD hS 85 2 tc_85 rfl rfl (by decide) q1473 (fun _ h9 => h9) rfl (ty := .int) (tyX12_ok 2 (by decide)) rfl rfl dX12_taken_10 (fun H locs hP hD hS => ?_)
  have hR := hR.si (c := 85) (k := 2) (v := (0 : Int32)) (by rw [ic_0]; exact (by omega : (0 : Int) ≤ (0 : Int) ∧ (0 : Int) ≤ 940))
  have hF := hF.si (c := 85) (k := 2) (v := (0 : Int32)) rfl
  have hN_LR := ln0_D hD
  have hK_LR := hN_LR
  refine lv_aload_n F.1 F.2.1 dX12_taken_13 rfl (lv_at hl 0 rfl) ?_
  refine a_ic F (0 : Int32) dX12_taken_14 (by decide) ?_
  refine a_puti F inX12 tyX12 tyX12_ok nmX12 hP hD hS 85 4 tc_85 rfl rfl (by decide) q1475 (fun _ h9 => h9) rfl (ty := .int) (tyX12_ok 4 (by decide)) rfl rfl dX12_taken_15 (fun H locs hP hD hS => ?_)
  have hR := hR.si (c := 85) (k := 4) (v := (0 : Int32)) (by rw [ic_0]; exact (by omega : (0 : Int) ≤ (0 : Int) ∧ (0 : Int) ≤ 940))
  have hF := hF.si (c := 85) (k := 4) (v := (0 : Int32)) rfl
  have hK_LR := sp_si (sp_ln0 85) hK_LR (c := 85) (k := 4) (v := (0 : Int32)) (fun j9 h9 q9 => by rw [q9] at h9; exact absurd h9 (by decide))
  refine lv_aload_n F.1 F.2.1 dX12_taken_18 rfl (lv_at hl 0 rfl) ?_
  refine lv_iload_n F.1 F.2.1 dX12_taken_19 rfl (lv_at hl 1 rfl) ?_
  refine a_puti F inX12 tyX12 tyX12_ok nmX12 hP hD hS 85 5 tc_85 rfl rfl (by decide) q1476 (fun _ h9 => h9) rfl (ty := .int) (tyX12_ok 5 (by decide)) rfl rfl dX12_taken_20 (fun H locs hP hD hS => ?_)
  have hR := hR.si (c := 85) (k := 5) (v := p0) (by omega : (0 : Int) ≤ p0.toInt ∧ p0.toInt ≤ 900)
  have hF := hF.si (c := 85) (k := 5) (v := p0) rfl
  have hK_LR := sp_si (sp_ln0 85) hK_LR (c := 85) (k := 5) (v := p0) (fun j9 h9 q9 => by rw [q9] at h9; exact absurd h9 (by decide))
  exact a_retv F hr hlocks hP hD hS dX12_taken_23 ⟨hR, hF, hK_LR⟩
set_option maxHeartbeats 600000 in
set_option maxRecDepth 100000 in
theorem c_X12_daybook_85__3 (l : Launch) (dC : Nat → ClassId) (dI : Nat → Nat → Nat) (ad : Nat → Nat) (cA : Nat → ClassId) (nF : Nat) (u0 : ac_U) (p0 : Int32) (hR : ac_R rg u0) (hK_MS : msI u0) (hK_UI : unI u0) (hK_CW : cdI u0) (hK_AP : apI u0) (hK_AU : auI u0) : ac_Mi l yX12_daybook (.code yX12_daybook cX12_daybook 4 (some .int) :: TB) 8 (dC, dI) vwCl (ac_ty cA) ad cA (TT nF) [.ref (ad 85), .int p0] u0 (fun (r : Int32) (u : ac_U) => ac_R rg u ∧ ac_Fr [(85, some 0), (85, some 2), (85, some 3), (85, some 4), (85, some 5), (85, some 11), (85, some 12), (85, some 13), (85, some 14), (85, some 15), (85, some 16), (85, some 18), (85, some 24), (85, some 35), (85, some 37), (87, none), (89, none), (93, none), (94, none), (99, none)] u0 u ∧ msI u ∧ unI u ∧ cdI u ∧ apI u ∧ auI u ∧ (dlI 85 u0 p0.toInt) u) := by
  refine ac_Mi.of (cc := cX12_daybook) (maxL := 4) (ret := (some .int)) (by decide) rfl (Nat.le_of_ble_eq_true rfl) ?_
  intro p e s m below meth c A ls F hml hr hlocks hA hP hD hS hl
  have F : ac_X p s m [.ref (ad 85), .int p0].toArray c cX12_daybook RX12 TB (dC, dI) vwCl (ac_ty cA) := ⟨F.1, F.2.1, fun w h => F.2.2.1 w (List.mem_cons_of_mem _ h), F.2.2.2.1, F.2.2.2.2⟩
  have hl : lv_has ls 4 [(0, .ref (ad 85)), (1, .int p0)] := hl
  have hF : ac_Fr [(85, some 0), (85, some 2), (85, some 3), (85, some 4), (85, some 5), (85, some 11), (85, some 12), (85, some 13), (85, some 14), (85, some 15), (85, some 16), (85, some 18), (85, some 24), (85, some 35), (85, some 37), (87, none), (89, none), (93, none), (94, none), (99, none)] u0 u0 := ac_Fr.rf
  have L259 : ∀ (x2 : Int32) (u : ac_U) (H : Heap) (locs : List Loc) (ls : Array Slot), ac_R rg u → ac_Fr [(85, some 0), (85, some 2), (85, some 3), (85, some 4), (85, some 5), (85, some 11), (85, some 12), (85, some 13), (85, some 14), (85, some 15), (85, some 16), (85, some 18), (85, some 24), (85, some 35), (85, some 37), (87, none), (89, none), (93, none), (94, none), (99, none)] u0 u → msI u → unI u → cdI u → apI u → auI u → (dlI 85 u0 p0.toInt) u → (-1 : Int) ≤ x2.toInt ∧ x2.toInt ≤ 39 → (0 : Int) ≤ (u.1 85 11).toInt ∧ (u.1 85 11).toInt ≤ 0 → (1 : Int) ≤ (u.1 85 37).toInt ∧ (u.1 85 37).toInt ≤ 1 → (0 : Int) ≤ (u.1 99 2).toInt ∧ (u.1 99 2).toInt ≤ 480 → va_P (dC, dI) vwCl (ac_w ad cA (TT nF) u) H → va_D A (ac_w ad cA (TT nF) u) → va_S A s.heap H locs → lv_has ls 4 [(2, .int x2)] → W p l e (ac_rm 8) s m [.ref (ad 85), .int p0].toArray below meth c H locs 0 0 (MQ below (va_Qi (fun (r : Int32) (u : ac_U) => ac_R rg u ∧ ac_Fr [(85, some 0), (85, some 2), (85, some 3), (85, some 4), (85, some 5), (85, some 11), (85, some 12), (85, some 13), (85, some 14), (85, some 15), (85, some 16), (85, some 18), (85, some 24), (85, some 35), (85, some 37), (87, none), (89, none), (93, none), (94, none), (99, none)] u0 u ∧ msI u ∧ unI u ∧ cdI u ∧ apI u ∧ auI u ∧ (dlI 85 u0 p0.toInt) u) (ac_B (dC, dI) vwCl (ac_ty cA) ad cA (TT nF) A) A) [.ref (ad 85), .int p0].toArray s 0 0 A) (F0 m 259 ls []) := by
    intro x2 u H locs ls hR hF hK_MS hK_UI hK_CW hK_AP hK_AU hK_DR f0 f1 f2 f3 hP hD hS hl
    refine lv_iload_n F.1 F.2.1 dX12_daybook_259 rfl (lv_at hl 0 rfl) ?_
    exact a_reti F hr hlocks hP hD hS dX12_daybook_260 ⟨hR, hF, hK_MS, hK_UI, hK_CW, hK_AP, hK_AU, hK_DR⟩
  have L251 : ∀ (x2 : Int32) (u : ac_U) (H : Heap) (locs : List Loc) (ls : Array Slot), ac_R rg u → ac_Fr [(85, some 0), (85, some 2), (85, some 3), (85, some 4), (85, some 5), (85, some 11), (85, some 12), (85, some 13), (85, some 14), (85, some 15), (85, some 16), (85, some 18), (85, some 24), (85, some 35), (85, some 37), (87, none), (89, none), (93, none), (94, none), (99, none)] u0 u → msI u → unI u → cdI u → bfI u → apI u → auI u → abI u → (dlI 85 u0 p0.toInt) u → (0 : Int) ≤ p0.toInt ∧ p0.toInt ≤ 1 → (-1 : Int) ≤ x2.toInt ∧ x2.toInt ≤ 39 → (0 : Int) ≤ (u.1 85 11).toInt ∧ (u.1 85 11).toInt ≤ 0 → (1 : Int) ≤ (u.1 85 37).toInt ∧ (u.1 85 37).toInt ≤ 1 → (0 : Int) ≤ (u.1 99 2).toInt ∧ (u.1 99 2).toInt ≤ 480 → va_P (dC, dI) vwCl (ac_w ad cA (TT nF) u) H → va_D A (ac_w ad cA (TT nF) u) → va_S A s.heap H locs → lv_has ls 4 [(0, .ref (ad 85)), (1, .int p0), (2, .int x2)] → W p l e (ac_rm 8) s m [.ref (ad 85), .int p0].toArray below meth c H locs 0 0 (MQ below (va_Qi (fun (r : Int32) (u : ac_U) => ac_R rg u ∧ ac_Fr [(85, some 0), (85, some 2), (85, some 3), (85, some 4), (85, some 5), (85, some 11), (85, some 12), (85, some 13), (85, some 14), (85, some 15), (85, some 16), (85, some 18), (85, some 24), (85, some 35), (85, some 37), (87, none), (89, none), (93, none), (94, none), (99, none)] u0 u ∧ msI u ∧ unI u ∧ cdI u ∧ apI u ∧ auI u ∧ (dlI 85 u0 p0.toInt) u) (ac_B (dC, dI) vwCl (ac_ty cA) ad cA (TT nF) A) A) [.ref (ad 85), .int p0].toArray s 0 0 A) (F0 m 251 ls []) := by
    intro x2 u H locs ls hR hF hK_MS hK_UI hK_CW hK_BI hK_AP hK_AU hK_AB hK_DR f0 f1 f2 f3 f4 hP hD hS hl
    refine lv_iload_n F.1 F.2.1 dX12_daybook_251 rfl (lv_at hl 1 rfl) ?_
    refine z_ne F 259 dX12_daybook_252 (by decide) rfl (fun c1 => ?_) (fun c1 => ?_)
    · have g2 : (0 : Int) ≤ (u.1 85 11).toInt ∧ (u.1 85 11).toInt ≤ 4 := hR 85 11
      have g3 : (0 : Int) ≤ (u.1 85 37).toInt ∧ (u.1 85 37).toInt ≤ 1 := hR 85 37
      exact L259 x2 _ _ _ _ hR hF hK_MS hK_UI hK_CW hK_AP hK_AU hK_DR (by omega) (by omega : (0 : Int) ≤ (u.1 85 11).toInt ∧ (u.1 85 11).toInt ≤ 0) (by omega : (1 : Int) ≤ (u.1 85 37).toInt ∧ (u.1 85 37).toInt ≤ 1) (by omega : (0 : Int) ≤ (u.1 99 2).toInt ∧ (u.1 99 2).toInt ≤ 480) hP hD hS (lv_sub hl [2] rfl)
    · refine lv_aload_n F.1 F.2.1 dX12_daybook_255 rfl (lv_at hl 0 rfl) ?_
      have g5 : (0 : Int) ≤ (u.1 85 35).toInt ∧ (u.1 85 35).toInt ≤ 40 := hR 85 35
      refine a_Vv F hml hl.1 hA hP hD hS (As := []) (c_X12_back_85__3 l dC dI ad cA nF _  hR hK_MS hK_BI hK_AP hK_AB) (cs_RX12_395 (d := 1) F.2.2.1 (by decide)) tc_85 rfl rfl rfl rfl (Nat.le_of_ble_eq_true rfl) dX12_daybook_256 ⟨Nat.le_refl 0, Nat.le_refl 0⟩ (fun u4 H locs hq hP hD hS => ?_)
      obtain ⟨hR, hF4, hK_MS, hK_BI, hK_AP, hK_AB, hJ4_CW, hJ4_UI, hJ4_AU⟩ := hq
      have hF := hF.tr hF4 (by decide)
      have hK_UI := hJ4_UI hK_UI
      have hK_CW := hJ4_CW hK_CW
      have hK_AU := hJ4_AU hK_AU
      have hK_DR := sp_fr (sp_dl 85 _ _) hF4 (by decide) hK_DR
      exact L259 x2 _ _ _ _ hR hF hK_MS hK_UI hK_CW hK_AP hK_AU hK_DR (by omega) (i_trB (hF4 85 11 rfl) (by omega : (0 : Int) ≤ (u.1 85 11).toInt ∧ (u.1 85 11).toInt ≤ 0)) (i_trB (hF4 85 37 rfl) (by omega : (1 : Int) ≤ (u.1 85 37).toInt ∧ (u.1 85 37).toInt ≤ 1)) (i_trB (hF4 99 2 rfl) (by omega : (0 : Int) ≤ (u.1 99 2).toInt ∧ (u.1 99 2).toInt ≤ 480)) hP hD hS (lv_sub hl [2] rfl)
  have L215 : ∀ (n215 : Nat) (x2 : Int32) (x3 : Int32) (u : ac_U) (H : Heap) (locs : List Loc) (ls : Array Slot), ac_R rg u → ac_Fr [(85, some 0), (85, some 2), (85, some 3), (85, some 4), (85, some 5), (85, some 11), (85, some 12), (85, some 13), (85, some 14), (85, some 15), (85, some 16), (85, some 18), (85, some 24), (85, some 35), (85, some 37), (87, none), (89, none), (93, none), (94, none), (99, none)] u0 u → 370 - x3.toInt < (n215 : Int) → msI u → unI u → cdI u → bfI u → apI u → auI u → abI u → (dlI 85 u0 p0.toInt) u → (1 : Int) ≤ p0.toInt ∧ p0.toInt ≤ 1 → (-1 : Int) ≤ x2.toInt ∧ x2.toInt ≤ 39 → (0 : Int) ≤ x3.toInt ∧ x3.toInt ≤ 370 → (0 : Int) ≤ (u.1 85 11).toInt ∧ (u.1 85 11).toInt ≤ 0 → (1 : Int) ≤ (u.1 85 24).toInt ∧ (u.1 85 24).toInt ≤ 8 → (1 : Int) ≤ (u.1 85 37).toInt ∧ (u.1 85 37).toInt ≤ 1 → (1 : Int) ≤ (u.1 99 1).toInt → (0 : Int) ≤ (u.1 99 2).toInt ∧ (u.1 99 2).toInt ≤ 480 → va_P (dC, dI) vwCl (ac_w ad cA (TT nF) u) H → va_D A (ac_w ad cA (TT nF) u) → va_S A s.heap H locs → lv_has ls 4 [(0, .ref (ad 85)), (1, .int p0), (2, .int x2), (3, .int x3)] → W p l e (ac_rm 8) s m [.ref (ad 85), .int p0].toArray below meth c H locs 0 0 (MQ below (va_Qi (fun (r : Int32) (u : ac_U) => ac_R rg u ∧ ac_Fr [(85, some 0), (85, some 2), (85, some 3), (85, some 4), (85, some 5), (85, some 11), (85, some 12), (85, some 13), (85, some 14), (85, some 15), (85, some 16), (85, some 18), (85, some 24), (85, some 35), (85, some 37), (87, none), (89, none), (93, none), (94, none), (99, none)] u0 u ∧ msI u ∧ unI u ∧ cdI u ∧ apI u ∧ auI u ∧ (dlI 85 u0 p0.toInt) u) (ac_B (dC, dI) vwCl (ac_ty cA) ad cA (TT nF) A) A) [.ref (ad 85), .int p0].toArray s 0 0 A) (F0 m 215 ls []) := by
    intro n215
    induction n215 with
    | zero => intro x2 x3 u H locs ls hR hF hn215 hK_MS hK_UI hK_CW hK_BI hK_AP hK_AU hK_AB hK_DR f0 f1 f2 f3 f4 f5 f6 f7 hP hD hS hl; exfalso; omega
    | succ n215 ih215 =>
      intro x2 x3 u H locs ls hR hF hn215 hK_MS hK_UI hK_CW hK_BI hK_AP hK_AU hK_AB hK_DR f0 f1 f2 f3 f4 f5 f6 f7 hP hD hS hl
      refine lv_iload_n F.1 F.2.1 dX12_daybook_215 rfl (lv_at hl 3 rfl) ?_
      refine a_sp F (370 : Int32) dX12_daybook_216 (by decide) ?_
      refine b_ge F 251 dX12_daybook_219 (by decide) rfl ic_370 (fun c6 => ?_) (fun c6 => ?_)
      · have g7 : (0 : Int) ≤ (u.1 85 11).toInt ∧ (u.1 85 11).toInt ≤ 4 := hR 85 11
        have g8 : (0 : Int) ≤ (u.1 85 37).toInt ∧ (u.1 85 37).toInt ≤ 1 := hR 85 37
        exact L251 x2 _ _ _ _ hR hF hK_MS hK_UI hK_CW hK_BI hK_AP hK_AU hK_AB hK_DR (by omega) (by omega) (by omega : (0 : Int) ≤ (u.1 85 11).toInt ∧ (u.1 85 11).toInt ≤ 0) (by omega : (1 : Int) ≤ (u.1 85 37).toInt ∧ (u.1 85 37).toInt ≤ 1) (by omega : (0 : Int) ≤ (u.1 99 2).toInt ∧ (u.1 99 2).toInt ≤ 480) hP hD hS (lv_sub hl [0, 1, 2] rfl)
      · refine lv_aload_n F.1 F.2.1 dX12_daybook_222 rfl (lv_at hl 0 rfl) ?_
        refine a_getr F inX12 hP 85 22 tc_85 rfl rfl (by decide) q1493 (fun _ h9 => h9) dX12_daybook_223 ?_
        refine a_sp F (370 : Int32) dX12_daybook_226 (by decide) ?_
        refine lv_aload_n F.1 F.2.1 dX12_daybook_229 rfl (lv_at hl 0 rfl) ?_
        have g9 : (0 : Int) ≤ (u.1 85 24).toInt ∧ (u.1 85 24).toInt ≤ 8 := hR 85 24
        refine a_geti F inX12 hP 85 24 tc_85 rfl rfl (by decide) q1495 (fun _ h9 => h9) (v := (u.1 85 24)) rfl dX12_daybook_230 ?_
        refine a_ic F (1 : Int32) dX12_daybook_233 (by decide) ?_
        refine a_isub F dX12_daybook_234 rfl ic_1 (by omega) (fun v10 hv10 => ?_)
        refine a_imul F dX12_daybook_235 ic_370 rfl (by omega) (fun v11 hv11 => ?_)
        refine lv_iload_n F.1 F.2.1 dX12_daybook_236 rfl (lv_at hl 3 rfl) ?_
        refine a_iadd F dX12_daybook_237 rfl rfl (by omega) (fun v12 hv12 => ?_)
        refine lv_aload_n F.1 F.2.1 dX12_daybook_238 rfl (lv_at hl 0 rfl) ?_
        refine a_getr F inX12 hP 85 23 tc_85 rfl rfl (by decide) q1494 (fun _ h9 => h9) dX12_daybook_239 ?_
        refine lv_iload_n F.1 F.2.1 dX12_daybook_242 rfl (lv_at hl 3 rfl) ?_
        refine a_iald F hP 94 tc_94 rfl (i_in rfl (by omega)) dX12_daybook_243 (fun v13 ev13 => ?_)
        refine a_iast F hP hD hS 93 tc_93 rfl (i_in rfl (by omega)) dX12_daybook_244 (fun H locs hP hD hS => ?_)
        have hR := hR.si (c := 93) (k := v12.toNatClampNeg) (v := v13) (cp_el hR ev13 (rg_u5 (m := (u.1 85 24).toInt - 1) (by omega) (by omega) (by omega)))
        have hF := hF.si (c := 93) (k := v12.toNatClampNeg) (v := v13) rfl
        have hO_MS := hK_MS
        have hO_UI := hK_UI
        have hO_CW := hK_CW
        have hO_BI := hK_BI
        have hO_AP := hK_AP
        have hO_AU := hK_AU
        have hO_AB := hK_AB
        have hO_DR := hK_DR
        have hK_MS := sp_sgD sp_MS hD hK_MS (by decide)
        have hK_UI := un_w3 hO_UI (i := v12) (v := v13) (x := x3.toInt) (by omega) (by omega) (by omega) (fun q9 => bf_get hO_BI ev13 (by omega))
        have hK_CW := sp_sgD sp_CW hD hK_CW (by decide)
        have hK_BI := sp_sgD sp_BI hD hK_BI (by decide)
        have hK_AP := sp_sgD sp_AP hD hK_AP (by decide)
        have hK_AU := au_w3 hO_AU (i := v12) (v := v13) (x := x3.toInt) (by omega) (by omega) (by omega) (fun q9 => ab_get hO_AB ev13 (by omega))
        have hK_AB := sp_sgD sp_AB hD hK_AB (by decide)
        have hK_DR := sp_sgD (sp_dl 85 _ _) hD hK_DR (by decide)
        refine a_iinc F (k := 3) (fun v14 => [(3, .int v14), (0, .ref (ad 85)), (1, .int p0), (2, .int x2)]) dX12_daybook_245 hl rfl rfl (by decide) (by omega) (by decide) (fun _ => rfl) (fun v14 ls hv14 hl => ?_)
        refine lv_goto (tgt := 215) F.1 F.2.1 dX12_daybook_248 (by decide) ?_
        have g15 : (0 : Int) ≤ (u.1 85 11).toInt ∧ (u.1 85 11).toInt ≤ 4 := hR 85 11
        have g16 : (0 : Int) ≤ (u.1 85 37).toInt ∧ (u.1 85 37).toInt ≤ 1 := hR 85 37
        exact ih215 x2 v14 _ _ _ _ hR hF (by omega) hK_MS hK_UI hK_CW hK_BI hK_AP hK_AU hK_AB hK_DR (by omega) (by omega) (by omega) (by omega : (0 : Int) ≤ (u.1 85 11).toInt ∧ (u.1 85 11).toInt ≤ 0) (by omega : (1 : Int) ≤ (u.1 85 24).toInt ∧ (u.1 85 24).toInt ≤ 8) (by omega : (1 : Int) ≤ (u.1 85 37).toInt ∧ (u.1 85 37).toInt ≤ 1) (by omega : (1 : Int) ≤ (u.1 99 1).toInt) (by omega : (0 : Int) ≤ (u.1 99 2).toInt ∧ (u.1 99 2).toInt ≤ 480) hP hD hS (lv_sub hl [1, 2, 3, 0] rfl)
  have L166 : ∀ (x2 : Int32) (u : ac_U) (H : Heap) (locs : List Loc) (ls : Array Slot), ac_R rg u → ac_Fr [(85, some 0), (85, some 2), (85, some 3), (85, some 4), (85, some 5), (85, some 11), (85, some 12), (85, some 13), (85, some 14), (85, some 15), (85, some 16), (85, some 18), (85, some 24), (85, some 35), (85, some 37), (87, none), (89, none), (93, none), (94, none), (99, none)] u0 u → msI u → unI u → cdI u → bfI u → blI u → apI u → auI u → abI u → bgI u → (dlI 85 u0 p0.toInt) u → (0 : Int) ≤ p0.toInt ∧ p0.toInt ≤ 1 → (-1 : Int) ≤ x2.toInt ∧ x2.toInt ≤ 39 → (0 : Int) ≤ (u.1 85 0).toInt ∧ (u.1 85 0).toInt ≤ 0 → (0 : Int) ≤ (u.1 85 11).toInt ∧ (u.1 85 11).toInt ≤ 0 → va_P (dC, dI) vwCl (ac_w ad cA (TT nF) u) H → va_D A (ac_w ad cA (TT nF) u) → va_S A s.heap H locs → lv_has ls 4 [(0, .ref (ad 85)), (1, .int p0), (2, .int x2)] → W p l e (ac_rm 8) s m [.ref (ad 85), .int p0].toArray below meth c H locs 0 0 (MQ below (va_Qi (fun (r : Int32) (u : ac_U) => ac_R rg u ∧ ac_Fr [(85, some 0), (85, some 2), (85, some 3), (85, some 4), (85, some 5), (85, some 11), (85, some 12), (85, some 13), (85, some 14), (85, some 15), (85, some 16), (85, some 18), (85, some 24), (85, some 35), (85, some 37), (87, none), (89, none), (93, none), (94, none), (99, none)] u0 u ∧ msI u ∧ unI u ∧ cdI u ∧ apI u ∧ auI u ∧ (dlI 85 u0 p0.toInt) u) (ac_B (dC, dI) vwCl (ac_ty cA) ad cA (TT nF) A) A) [.ref (ad 85), .int p0].toArray s 0 0 A) (F0 m 166 ls []) := by
    intro x2 u H locs ls hR hF hK_MS hK_UI hK_CW hK_BI hK_BLI hK_AP hK_AU hK_AB hK_BG hK_DR f0 f1 f2 f3 hP hD hS hl
    refine lv_aload_n F.1 F.2.1 dX12_daybook_166 rfl (lv_at hl 0 rfl) ?_
    refine a_getr F inX12 hP 85 36 tc_85 rfl rfl (by decide) q1507 (fun _ h9 => h9) dX12_daybook_167 ?_
    refine a_ic F (2 : Int32) dX12_daybook_170 (by decide) ?_
    refine lv_aload_n F.1 F.2.1 dX12_daybook_171 rfl (lv_at hl 0 rfl) ?_
    refine a_getr F inX12 hP 85 6 tc_85 rfl rfl (by decide) q1477 (fun _ h9 => h9) dX12_daybook_172 ?_
    refine a_bp F (106 : Int32) dX12_daybook_175 (by decide) ?_
    have g17 : (0 : Int) ≤ (u.1 87 106).toInt ∧ (u.1 87 106).toInt ≤ 480 := hR 87 106
    refine a_ialdK F hP 87 106 tc_87 rfl rfl (i_in ic_106 (by omega)) (v := (u.1 87 106)) rfl dX12_daybook_177 ?_
    refine a_iastK F hP hD hS 99 2 tc_99 rfl rfl (i_in ic_2 (by omega)) dX12_daybook_178 (fun H locs hP hD hS => ?_)
    have hR := hR.si (c := 99) (k := 2) (v := (u.1 87 106)) ⟨i_lo _, i_hi _⟩
    have hF := hF.si (c := 99) (k := 2) (v := (u.1 87 106)) rfl
    have hK_MS := sp_sgD sp_MS hD hK_MS (by decide)
    have hK_UI := sp_sgD sp_UI hD hK_UI (by decide)
    have hK_CW := sp_sgD sp_CW hD hK_CW (by decide)
    have hK_BI := sp_sgD sp_BI hD hK_BI (by decide)
    have hK_BLI := sp_sgD sp_BLI hD hK_BLI (by decide)
    have hK_AP := sp_sgD sp_AP hD hK_AP (by decide)
    have hK_AU := sp_sgD sp_AU hD hK_AU (by decide)
    have hK_AB := sp_sgD sp_AB hD hK_AB (by decide)
    have hK_BG := sp_sgD sp_BG hD hK_BG (by decide)
    have hK_DR := sp_sgD (sp_dl 85 _ _) hD hK_DR (by decide)
    refine lv_aload_n F.1 F.2.1 dX12_daybook_179 rfl (lv_at hl 0 rfl) ?_
    refine a_getr F inX12 hP 85 36 tc_85 rfl rfl (by decide) q1507 (fun _ h9 => h9) dX12_daybook_180 ?_
    refine a_ic F (3 : Int32) dX12_daybook_183 (by decide) ?_
    refine lv_aload_n F.1 F.2.1 dX12_daybook_184 rfl (lv_at hl 0 rfl) ?_
    refine a_ic F (5 : Int32) dX12_daybook_185 (by decide) ?_
    have g19 : (0 : Int) ≤ (u.1 85 35).toInt ∧ (u.1 85 35).toInt ≤ 40 := hR 85 35
    refine a_Vi F hml hl.1 hA hP hD hS (As := [.int (5 : Int32)]) (c_X12_now_85 l dC dI ad cA nF _ (5 : Int32) hR) (cs_RX12_407 (d := 7) F.2.2.1 (by decide)) tc_85 rfl rfl rfl rfl (Nat.le_of_ble_eq_true rfl) dX12_daybook_186 ⟨Nat.le_refl 0, Nat.le_refl 0⟩ (fun r18 u18 H locs hq hP hD hS => ?_)
    obtain ⟨hR, hF18⟩ := hq
    have hF := hF.tr hF18 (by decide)
    have hK_MS := sp_fr sp_MS hF18 (by decide) hK_MS
    have hK_UI := sp_fr sp_UI hF18 (by decide) hK_UI
    have hK_CW := sp_fr sp_CW hF18 (by decide) hK_CW
    have hK_BI := sp_fr sp_BI hF18 (by decide) hK_BI
    have hK_BLI := sp_fr sp_BLI hF18 (by decide) hK_BLI
    have hK_AP := sp_fr sp_AP hF18 (by decide) hK_AP
    have hK_AU := sp_fr sp_AU hF18 (by decide) hK_AU
    have hK_AB := sp_fr sp_AB hF18 (by decide) hK_AB
    have hK_BG := sp_fr sp_BG hF18 (by decide) hK_BG
    have hK_DR := sp_fr (sp_dl 85 _ _) hF18 (by decide) hK_DR
    refine a_iastK F hP hD hS 99 3 tc_99 rfl rfl (i_in ic_3 (by omega)) dX12_daybook_189 (fun H locs hP hD hS => ?_)
    have hR := hR.si (c := 99) (k := 3) (v := r18) ⟨i_lo _, i_hi _⟩
    have hF := hF.si (c := 99) (k := 3) (v := r18) rfl
    have hK_MS := sp_sgD sp_MS hD hK_MS (by decide)
    have hK_UI := sp_sgD sp_UI hD hK_UI (by decide)
    have hK_CW := sp_sgD sp_CW hD hK_CW (by decide)
    have hK_BI := sp_sgD sp_BI hD hK_BI (by decide)
    have hK_BLI := sp_sgD sp_BLI hD hK_BLI (by decide)
    have hK_AP := sp_sgD sp_AP hD hK_AP (by decide)
    have hK_AU := sp_sgD sp_AU hD hK_AU (by decide)
    have hK_AB := sp_sgD sp_AB hD hK_AB (by decide)
    have hK_BG := sp_sgD sp_BG hD hK_BG (by decide)
    have hK_DR := sp_sgD (sp_dl 85 _ _) hD hK_DR (by decide)
    refine lv_aload_n F.1 F.2.1 dX12_daybook_190 rfl (lv_at hl 0 rfl) ?_
    refine a_ic F (1 : Int32) dX12_daybook_191 (by decide) ?_
    refine a_puti F inX12 tyX12 tyX12_ok nmX12 hP hD hS 85 37 tc_85 rfl rfl (by decide) q1508 (fun _ h9 => h9) rfl (ty := .boolean) (tyX12_ok 37 (by decide)) (i_zn (Or.inr rfl)) (i_zf (Or.inr rfl)) dX12_daybook_192 (fun H locs hP hD hS => ?_)
    have hR := hR.si (c := 85) (k := 37) (v := (1 : Int32)) (by rw [ic_1]; exact (by omega : (0 : Int) ≤ (1 : Int) ∧ (1 : Int) ≤ 1))
    have hF := hF.si (c := 85) (k := 37) (v := (1 : Int32)) rfl
    have hK_MS := sp_sgD sp_MS hD hK_MS (by decide)
    have hK_UI := sp_si sp_UI hK_UI (c := 85) (k := 37) (v := (1 : Int32)) (fun j9 h9 q9 => by rw [q9] at h9; exact absurd h9 (by decide))
    have hK_CW := sp_sgD sp_CW hD hK_CW (by decide)
    have hK_BI := sp_sgD sp_BI hD hK_BI (by decide)
    have hK_BLI := sp_si sp_BLI hK_BLI (c := 85) (k := 37) (v := (1 : Int32)) (fun j9 h9 q9 => by rw [q9] at h9; exact absurd h9 (by decide))
    have hK_AP := sp_sgD sp_AP hD hK_AP (by decide)
    have hK_AU := sp_si sp_AU hK_AU (c := 85) (k := 37) (v := (1 : Int32)) (fun j9 h9 q9 => by rw [q9] at h9; exact absurd h9 (by decide))
    have hK_AB := sp_sgD sp_AB hD hK_AB (by decide)
    have hK_BG := sp_si sp_BG hK_BG (c := 85) (k := 37) (v := (1 : Int32)) (fun j9 h9 q9 => by rw [q9] at h9; exact absurd h9 (by decide))
    have hK_DR := sp_si (sp_dl 85 _ _) hK_DR (c := 85) (k := 37) (v := (1 : Int32)) (fun j9 h9 q9 => by rw [q9] at h9; exact absurd h9 (by decide))
    refine lv_iload_n F.1 F.2.1 dX12_daybook_195 rfl (lv_at hl 1 rfl) ?_
    refine a_ic F (1 : Int32) dX12_daybook_196 (by decide) ?_
    refine b_ne F 251 dX12_daybook_197 (by decide) rfl ic_1 (fun c20 => ?_) (fun c20 => ?_)
    · exact L251 x2 _ _ _ _ hR hF hK_MS hK_UI hK_CW hK_BI hK_AP hK_AU hK_AB hK_DR (by omega) (by omega) (i_trB (hF18 85 11 rfl) (by omega : (0 : Int) ≤ (u.1 85 11).toInt ∧ (u.1 85 11).toInt ≤ 0)) (by omega : (1 : Int) ≤ (1 : Int) ∧ (1 : Int) ≤ 1) (i_trB (hF18 99 2 rfl) (by omega : (0 : Int) ≤ (u.1 87 106).toInt ∧ (u.1 87 106).toInt ≤ 480)) hP hD hS (lv_sub hl [0, 1, 2] rfl)
    · refine lv_aload_n F.1 F.2.1 dX12_daybook_200 rfl (lv_at hl 0 rfl) ?_
      refine a_getr F inX12 hP 85 36 tc_85 rfl rfl (by decide) q1507 (fun _ h9 => h9) dX12_daybook_201 ?_
      refine a_ic F (1 : Int32) dX12_daybook_204 (by decide) ?_
      refine a_ialdK F hP 99 1 tc_99 rfl rfl (i_in ic_1 (by omega)) (v := (u18.1 99 1)) rfl dX12_daybook_205 ?_
      refine z_le F 251 dX12_daybook_206 (by decide) rfl (fun c21 => ?_) (fun c21 => ?_)
      · exact L251 x2 _ _ _ _ hR hF hK_MS hK_UI hK_CW hK_BI hK_AP hK_AU hK_AB hK_DR (by omega) (by omega) (i_trB (hF18 85 11 rfl) (by omega : (0 : Int) ≤ (u.1 85 11).toInt ∧ (u.1 85 11).toInt ≤ 0)) (by omega : (1 : Int) ≤ (1 : Int) ∧ (1 : Int) ≤ 1) (i_trB (hF18 99 2 rfl) (by omega : (0 : Int) ≤ (u.1 87 106).toInt ∧ (u.1 87 106).toInt ≤ 480)) hP hD hS (lv_sub hl [0, 1, 2] rfl)
      · refine lv_aload_n F.1 F.2.1 dX12_daybook_209 rfl (lv_at hl 0 rfl) ?_
        refine a_Vv F hml hl.1 hA hP hD hS (As := []) (c_X12_keep_85__3 l dC dI ad cA nF _  hR hK_MS hK_UI hK_AP hK_AU) (cs_RX12_269 (d := 1) F.2.2.1 (by decide)) tc_85 rfl rfl rfl rfl (Nat.le_of_ble_eq_true rfl) dX12_daybook_210 ⟨Nat.le_refl 0, Nat.le_refl 0⟩ (fun u22 H locs hq hP hD hS => ?_)
        obtain ⟨hR, hF22, xr22, hK_MS, hK_UI, hK_AP, hK_AU⟩ := hq
        have hF := hF.tr hF22 (by decide)
        have hK_CW := sp_fr sp_CW hF22 (by decide) hK_CW
        have hK_BI := sp_fr sp_BI hF22 (by decide) hK_BI
        have hK_BLI := sp_fr sp_BLI hF22 (by decide) hK_BLI
        have hK_AB := sp_fr sp_AB hF22 (by decide) hK_AB
        have hK_BG := sp_fr sp_BG hF22 (by decide) hK_BG
        have hK_DR := sp_fr (sp_dl 85 _ _) hF22 (by decide) hK_DR
        have g23 : (0 : Int) ≤ (u22.1 85 24).toInt ∧ (u22.1 85 24).toInt ≤ 8 := hR 85 24
        have xr22 : 1 ≤ (u22.1 85 24).toInt := xr22
        refine a_ic F (0 : Int32) dX12_daybook_213 (by decide) ?_
        refine lv_istore_n (lv' := [(3, .int (0 : Int32)), (0, .ref (ad 85)), (1, .int p0), (2, .int x2)]) F.1 F.2.1 dX12_daybook_214 rfl hl (by decide) rfl (fun ls hl => ?_)
        exact L215 372 x2 (0 : Int32) _ _ _ _ hR hF (by decide) hK_MS hK_UI hK_CW hK_BI hK_AP hK_AU hK_AB hK_DR (by omega) (by omega) (by decide) (i_trB ((hF22 85 11 rfl).trans (hF18 85 11 rfl)) (by omega : (0 : Int) ≤ (u.1 85 11).toInt ∧ (u.1 85 11).toInt ≤ 0)) (by omega : (1 : Int) ≤ (u22.1 85 24).toInt ∧ (u22.1 85 24).toInt ≤ 8) (i_trB (hF22 85 37 rfl) (by omega : (1 : Int) ≤ (1 : Int) ∧ (1 : Int) ≤ 1)) (i_trL (hF22 99 1 rfl) (by omega : (1 : Int) ≤ (u18.1 99 1).toInt)) (i_trB ((hF22 99 2 rfl).trans (hF18 99 2 rfl)) (by omega : (0 : Int) ≤ (u.1 87 106).toInt ∧ (u.1 87 106).toInt ≤ 480)) hP hD hS (lv_sub hl [1, 2, 3, 0] rfl)
  have L111 : ∀ (n111 : Nat) (x2 : Int32) (x3 : Int32) (u : ac_U) (H : Heap) (locs : List Loc) (ls : Array Slot), ac_R rg u → ac_Fr [(85, some 0), (85, some 2), (85, some 3), (85, some 4), (85, some 5), (85, some 11), (85, some 12), (85, some 13), (85, some 14), (85, some 15), (85, some 16), (85, some 18), (85, some 24), (85, some 35), (85, some 37), (87, none), (89, none), (93, none), (94, none), (99, none)] u0 u → 40 - x3.toInt < (n111 : Int) → msI u → unI u → cdI u → bfI u → blI u → apI u → auI u → abI u → bgI u → (dlI 85 u0 p0.toInt) u → (0 : Int) ≤ p0.toInt ∧ p0.toInt ≤ 1 → (-1 : Int) ≤ x2.toInt ∧ x2.toInt ≤ 39 → (0 : Int) ≤ x3.toInt ∧ x3.toInt ≤ 40 → (0 : Int) ≤ (u.1 85 0).toInt ∧ (u.1 85 0).toInt ≤ 0 → (0 : Int) ≤ (u.1 85 11).toInt ∧ (u.1 85 11).toInt ≤ 0 → va_P (dC, dI) vwCl (ac_w ad cA (TT nF) u) H → va_D A (ac_w ad cA (TT nF) u) → va_S A s.heap H locs → lv_has ls 4 [(0, .ref (ad 85)), (1, .int p0), (2, .int x2), (3, .int x3)] → W p l e (ac_rm 8) s m [.ref (ad 85), .int p0].toArray below meth c H locs 0 0 (MQ below (va_Qi (fun (r : Int32) (u : ac_U) => ac_R rg u ∧ ac_Fr [(85, some 0), (85, some 2), (85, some 3), (85, some 4), (85, some 5), (85, some 11), (85, some 12), (85, some 13), (85, some 14), (85, some 15), (85, some 16), (85, some 18), (85, some 24), (85, some 35), (85, some 37), (87, none), (89, none), (93, none), (94, none), (99, none)] u0 u ∧ msI u ∧ unI u ∧ cdI u ∧ apI u ∧ auI u ∧ (dlI 85 u0 p0.toInt) u) (ac_B (dC, dI) vwCl (ac_ty cA) ad cA (TT nF) A) A) [.ref (ad 85), .int p0].toArray s 0 0 A) (F0 m 111 ls []) := by
    intro n111
    induction n111 with
    | zero => intro x2 x3 u H locs ls hR hF hn111 hK_MS hK_UI hK_CW hK_BI hK_BLI hK_AP hK_AU hK_AB hK_BG hK_DR f0 f1 f2 f3 f4 hP hD hS hl; exfalso; omega
    | succ n111 ih111 =>
      intro x2 x3 u H locs ls hR hF hn111 hK_MS hK_UI hK_CW hK_BI hK_BLI hK_AP hK_AU hK_AB hK_BG hK_DR f0 f1 f2 f3 f4 hP hD hS hl
      have L160 : ∀ (x2 : Int32) (x3 : Int32) (u : ac_U) (H : Heap) (locs : List Loc) (ls : Array Slot), ac_R rg u → ac_Fr [(85, some 0), (85, some 2), (85, some 3), (85, some 4), (85, some 5), (85, some 11), (85, some 12), (85, some 13), (85, some 14), (85, some 15), (85, some 16), (85, some 18), (85, some 24), (85, some 35), (85, some 37), (87, none), (89, none), (93, none), (94, none), (99, none)] u0 u → msI u → unI u → cdI u → bfI u → blI u → apI u → auI u → abI u → bgI u → (dlI 85 u0 p0.toInt) u → (0 : Int) ≤ p0.toInt ∧ p0.toInt ≤ 1 → (-1 : Int) ≤ x2.toInt ∧ x2.toInt ≤ 39 → (0 : Int) ≤ x3.toInt ∧ x3.toInt ≤ 39 → (0 : Int) ≤ (u.1 85 0).toInt ∧ (u.1 85 0).toInt ≤ 0 → (0 : Int) ≤ (u.1 85 11).toInt ∧ (u.1 85 11).toInt ≤ 0 → (1 : Int) ≤ (u.1 85 35).toInt ∧ (u.1 85 35).toInt ≤ 40 → (0 : Int) ≤ (u.1 99 0).toInt ∧ (u.1 99 0).toInt ≤ 6 → 40 - x3.toInt + 0 < ((n111 : Nat) : Int) + 1 → va_P (dC, dI) vwCl (ac_w ad cA (TT nF) u) H → va_D A (ac_w ad cA (TT nF) u) → va_S A s.heap H locs → lv_has ls 4 [(0, .ref (ad 85)), (1, .int p0), (2, .int x2), (3, .int x3)] → W p l e (ac_rm 8) s m [.ref (ad 85), .int p0].toArray below meth c H locs 0 0 (MQ below (va_Qi (fun (r : Int32) (u : ac_U) => ac_R rg u ∧ ac_Fr [(85, some 0), (85, some 2), (85, some 3), (85, some 4), (85, some 5), (85, some 11), (85, some 12), (85, some 13), (85, some 14), (85, some 15), (85, some 16), (85, some 18), (85, some 24), (85, some 35), (85, some 37), (87, none), (89, none), (93, none), (94, none), (99, none)] u0 u ∧ msI u ∧ unI u ∧ cdI u ∧ apI u ∧ auI u ∧ (dlI 85 u0 p0.toInt) u) (ac_B (dC, dI) vwCl (ac_ty cA) ad cA (TT nF) A) A) [.ref (ad 85), .int p0].toArray s 0 0 A) (F0 m 160 ls []) := by
        intro x2 x3 u H locs ls hR hF hK_MS hK_UI hK_CW hK_BI hK_BLI hK_AP hK_AU hK_AB hK_BG hK_DR f0 f1 f2 f3 f4 f5 f6 f7 hP hD hS hl
        refine a_iinc F (k := 3) (fun v24 => [(3, .int v24), (0, .ref (ad 85)), (1, .int p0), (2, .int x2)]) dX12_daybook_160 hl rfl rfl (by decide) (by omega) (by decide) (fun _ => rfl) (fun v24 ls hv24 hl => ?_)
        refine lv_goto (tgt := 111) F.1 F.2.1 dX12_daybook_163 (by decide) ?_
        have g25 : (0 : Int) ≤ (u.1 85 0).toInt ∧ (u.1 85 0).toInt ≤ 1 := hR 85 0
        have g26 : (0 : Int) ≤ (u.1 85 11).toInt ∧ (u.1 85 11).toInt ≤ 4 := hR 85 11
        exact ih111 x2 v24 _ _ _ _ hR hF (by omega) hK_MS hK_UI hK_CW hK_BI hK_BLI hK_AP hK_AU hK_AB hK_BG hK_DR (by omega) (by omega) (by omega) (by omega : (0 : Int) ≤ (u.1 85 0).toInt ∧ (u.1 85 0).toInt ≤ 0) (by omega : (0 : Int) ≤ (u.1 85 11).toInt ∧ (u.1 85 11).toInt ≤ 0) hP hD hS (lv_sub hl [1, 2, 3, 0] rfl)
      refine lv_iload_n F.1 F.2.1 dX12_daybook_111 rfl (lv_at hl 3 rfl) ?_
      refine lv_aload_n F.1 F.2.1 dX12_daybook_112 rfl (lv_at hl 0 rfl) ?_
      have g27 : (0 : Int) ≤ (u.1 85 35).toInt ∧ (u.1 85 35).toInt ≤ 40 := hR 85 35
      refine a_geti F inX12 hP 85 35 tc_85 rfl rfl (by decide) q1506 (fun _ h9 => h9) (v := (u.1 85 35)) rfl dX12_daybook_113 ?_
      refine b_ge F 166 dX12_daybook_116 (by decide) rfl rfl (fun c28 => ?_) (fun c28 => ?_)
      · have g29 : (0 : Int) ≤ (u.1 85 0).toInt ∧ (u.1 85 0).toInt ≤ 1 := hR 85 0
        have g30 : (0 : Int) ≤ (u.1 85 11).toInt ∧ (u.1 85 11).toInt ≤ 4 := hR 85 11
        exact L166 x2 _ _ _ _ hR hF hK_MS hK_UI hK_CW hK_BI hK_BLI hK_AP hK_AU hK_AB hK_BG hK_DR (by omega) (by omega) (by omega : (0 : Int) ≤ (u.1 85 0).toInt ∧ (u.1 85 0).toInt ≤ 0) (by omega : (0 : Int) ≤ (u.1 85 11).toInt ∧ (u.1 85 11).toInt ≤ 0) hP hD hS (lv_sub hl [0, 1, 2] rfl)
      · refine lv_iload_n F.1 F.2.1 dX12_daybook_119 rfl (lv_at hl 2 rfl) ?_
        refine z_ge F 166 dX12_daybook_120 (by decide) rfl (fun c31 => ?_) (fun c31 => ?_)
        · have g32 : (0 : Int) ≤ (u.1 85 0).toInt ∧ (u.1 85 0).toInt ≤ 1 := hR 85 0
          have g33 : (0 : Int) ≤ (u.1 85 11).toInt ∧ (u.1 85 11).toInt ≤ 4 := hR 85 11
          exact L166 x2 _ _ _ _ hR hF hK_MS hK_UI hK_CW hK_BI hK_BLI hK_AP hK_AU hK_AB hK_BG hK_DR (by omega) (by omega) (by omega : (0 : Int) ≤ (u.1 85 0).toInt ∧ (u.1 85 0).toInt ≤ 0) (by omega : (0 : Int) ≤ (u.1 85 11).toInt ∧ (u.1 85 11).toInt ≤ 0) hP hD hS (lv_sub hl [0, 1, 2] rfl)
        · refine lv_aload_n F.1 F.2.1 dX12_daybook_123 rfl (lv_at hl 0 rfl) ?_
          refine a_getr F inX12 hP 85 36 tc_85 rfl rfl (by decide) q1507 (fun _ h9 => h9) dX12_daybook_124 ?_
          refine a_ic F (0 : Int32) dX12_daybook_127 (by decide) ?_
          refine lv_aload_n F.1 F.2.1 dX12_daybook_128 rfl (lv_at hl 0 rfl) ?_
          refine a_ic F (3 : Int32) dX12_daybook_129 (by decide) ?_
          refine lv_iload_n F.1 F.2.1 dX12_daybook_130 rfl (lv_at hl 3 rfl) ?_
          refine a_imul F dX12_daybook_131 ic_3 rfl (by omega) (fun v34 hv34 => ?_)
          refine a_Vi F hml hl.1 hA hP hD hS (As := [.int v34]) (c_X12_lives_85__2 l dC dI ad cA nF _ v34 hR (by omega) (by exact (by omega : v34.toInt < 3 * (u.1 85 35).toInt ∧ v34.toInt % 3 = 0)) hK_MS hK_AP hK_BLI hK_BG) (cs_RX12_404 (d := 3) F.2.2.1 (by decide)) tc_85 rfl rfl rfl rfl (Nat.le_of_ble_eq_true rfl) dX12_daybook_132 ⟨Nat.le_refl 0, Nat.le_refl 0⟩ (fun r35 u35 H locs hq hP hD hS => ?_)
          obtain ⟨hR, hF35, gr35, hK_MS, hK_AP, hJ35_CW, hJ35_UI, hJ35_BI, hJ35_AU, hJ35_AB, hJ35_BG⟩ := hq
          have hF := hF.tr hF35 (by decide)
          have hK_UI := hJ35_UI hK_UI
          have hK_CW := hJ35_CW hK_CW
          have hK_BI := hJ35_BI hK_BI
          have hK_BLI := sp_fr sp_BLI hF35 (by decide) hK_BLI
          have hK_AU := hJ35_AU hK_AU
          have hK_AB := hJ35_AB hK_AB
          have hK_BG := hJ35_BG hK_BG
          have hK_DR := sp_fr (sp_dl 85 _ _) hF35 (by decide) hK_DR
          refine a_iastK F hP hD hS 99 0 tc_99 rfl rfl (i_in ic_0 (by omega)) dX12_daybook_135 (fun H locs hP hD hS => ?_)
          have hR := hR.si (c := 99) (k := 0) (v := r35) ⟨i_lo _, i_hi _⟩
          have hF := hF.si (c := 99) (k := 0) (v := r35) rfl
          have hK_MS := sp_sgD sp_MS hD hK_MS (by decide)
          have hK_UI := sp_sgD sp_UI hD hK_UI (by decide)
          have hK_CW := sp_sgD sp_CW hD hK_CW (by decide)
          have hK_BI := sp_sgD sp_BI hD hK_BI (by decide)
          have hK_BLI := sp_sgD sp_BLI hD hK_BLI (by decide)
          have hK_AP := sp_sgD sp_AP hD hK_AP (by decide)
          have hK_AU := sp_sgD sp_AU hD hK_AU (by decide)
          have hK_AB := sp_sgD sp_AB hD hK_AB (by decide)
          have hK_BG := sp_sgD sp_BG hD hK_BG (by decide)
          have hK_DR := sp_sgD (sp_dl 85 _ _) hD hK_DR (by decide)
          refine lv_aload_n F.1 F.2.1 dX12_daybook_136 rfl (lv_at hl 0 rfl) ?_
          refine a_getr F inX12 hP 85 36 tc_85 rfl rfl (by decide) q1507 (fun _ h9 => h9) dX12_daybook_137 ?_
          refine a_ic F (0 : Int32) dX12_daybook_140 (by decide) ?_
          refine a_ialdK F hP 99 0 tc_99 rfl rfl (i_in ic_0 (by omega)) (v := r35) (rfl) dX12_daybook_141 ?_
          refine z_le F 150 dX12_daybook_142 (by decide) rfl (fun c36 => ?_) (fun c36 => ?_)
          · refine lv_aload_n F.1 F.2.1 dX12_daybook_150 rfl (lv_at hl 0 rfl) ?_
            refine a_getr F inX12 hP 85 36 tc_85 rfl rfl (by decide) q1507 (fun _ h9 => h9) dX12_daybook_151 ?_
            refine a_ic F (1 : Int32) dX12_daybook_154 (by decide) ?_
            refine lv_dup2_11 F.1 F.2.1 dX12_daybook_155 rfl rfl ?_
            refine a_ialdK F hP 99 1 tc_99 rfl rfl (i_in ic_1 (by omega)) (v := (u35.1 99 1)) rfl dX12_daybook_156 ?_
            refine a_ic F (1 : Int32) dX12_daybook_157 (by decide) ?_
            refine a_iaddU F dX12_daybook_158 (fun v37 => ?_)
            refine a_iastK F hP hD hS 99 1 tc_99 rfl rfl (i_in ic_1 (by omega)) dX12_daybook_159 (fun H locs hP hD hS => ?_)
            have hR := hR.si (c := 99) (k := 1) (v := v37) ⟨i_lo _, i_hi _⟩
            have hF := hF.si (c := 99) (k := 1) (v := v37) rfl
            have hK_MS := sp_sgD sp_MS hD hK_MS (by decide)
            have hK_UI := sp_sgD sp_UI hD hK_UI (by decide)
            have hK_CW := sp_sgD sp_CW hD hK_CW (by decide)
            have hK_BI := sp_sgD sp_BI hD hK_BI (by decide)
            have hK_BLI := sp_sgD sp_BLI hD hK_BLI (by decide)
            have hK_AP := sp_sgD sp_AP hD hK_AP (by decide)
            have hK_AU := sp_sgD sp_AU hD hK_AU (by decide)
            have hK_AB := sp_sgD sp_AB hD hK_AB (by decide)
            have hK_BG := sp_sgD sp_BG hD hK_BG (by decide)
            have hK_DR := sp_sgD (sp_dl 85 _ _) hD hK_DR (by decide)
            exact L160 x2 x3 _ _ _ _ hR hF hK_MS hK_UI hK_CW hK_BI hK_BLI hK_AP hK_AU hK_AB hK_BG hK_DR (by omega) (by omega) (by omega) (i_trB (hF35 85 0 rfl) (by omega : (0 : Int) ≤ (u.1 85 0).toInt ∧ (u.1 85 0).toInt ≤ 0)) (i_trB (hF35 85 11 rfl) (by omega : (0 : Int) ≤ (u.1 85 11).toInt ∧ (u.1 85 11).toInt ≤ 0)) (i_trB (hF35 85 35 rfl) (by omega : (1 : Int) ≤ (u.1 85 35).toInt ∧ (u.1 85 35).toInt ≤ 40)) (by omega : (0 : Int) ≤ r35.toInt ∧ r35.toInt ≤ 6) (by omega) hP hD hS (lv_sub hl [0, 1, 2, 3] rfl)
          · refine lv_iload_n F.1 F.2.1 dX12_daybook_145 rfl (lv_at hl 3 rfl) ?_
            refine lv_istore_n (lv' := [(2, .int x3), (0, .ref (ad 85)), (1, .int p0), (3, .int x3)]) F.1 F.2.1 dX12_daybook_146 rfl hl (by decide) rfl (fun ls hl => ?_)
            refine lv_goto (tgt := 160) F.1 F.2.1 dX12_daybook_147 (by decide) ?_
            exact L160 x3 x3 _ _ _ _ hR hF hK_MS hK_UI hK_CW hK_BI hK_BLI hK_AP hK_AU hK_AB hK_BG hK_DR (by omega) (by omega) (by omega) (i_trB (hF35 85 0 rfl) (by omega : (0 : Int) ≤ (u.1 85 0).toInt ∧ (u.1 85 0).toInt ≤ 0)) (i_trB (hF35 85 11 rfl) (by omega : (0 : Int) ≤ (u.1 85 11).toInt ∧ (u.1 85 11).toInt ≤ 0)) (i_trB (hF35 85 35 rfl) (by omega : (1 : Int) ≤ (u.1 85 35).toInt ∧ (u.1 85 35).toInt ≤ 40)) (by omega : (0 : Int) ≤ r35.toInt ∧ r35.toInt ≤ 6) (by omega) hP hD hS (lv_sub hl [1, 2, 0, 3] rfl)
  have L89 : ∀ (n89 : Nat) (x2 : Int32) (u : ac_U) (H : Heap) (locs : List Loc) (ls : Array Slot), ac_R rg u → ac_Fr [(85, some 0), (85, some 2), (85, some 3), (85, some 4), (85, some 5), (85, some 11), (85, some 12), (85, some 13), (85, some 14), (85, some 15), (85, some 16), (85, some 18), (85, some 24), (85, some 35), (85, some 37), (87, none), (89, none), (93, none), (94, none), (99, none)] u0 u → 4 - x2.toInt < (n89 : Int) → msI u → unI u → cdI u → bfI u → blI u → apI u → auI u → abI u → bgI u → (dlI 85 u0 p0.toInt) u → (0 : Int) ≤ p0.toInt ∧ p0.toInt ≤ 1 → (0 : Int) ≤ x2.toInt ∧ x2.toInt ≤ 4 → (0 : Int) ≤ (u.1 85 0).toInt ∧ (u.1 85 0).toInt ≤ 0 → (0 : Int) ≤ (u.1 85 11).toInt ∧ (u.1 85 11).toInt ≤ 0 → va_P (dC, dI) vwCl (ac_w ad cA (TT nF) u) H → va_D A (ac_w ad cA (TT nF) u) → va_S A s.heap H locs → lv_has ls 4 [(0, .ref (ad 85)), (1, .int p0), (2, .int x2)] → W p l e (ac_rm 8) s m [.ref (ad 85), .int p0].toArray below meth c H locs 0 0 (MQ below (va_Qi (fun (r : Int32) (u : ac_U) => ac_R rg u ∧ ac_Fr [(85, some 0), (85, some 2), (85, some 3), (85, some 4), (85, some 5), (85, some 11), (85, some 12), (85, some 13), (85, some 14), (85, some 15), (85, some 16), (85, some 18), (85, some 24), (85, some 35), (85, some 37), (87, none), (89, none), (93, none), (94, none), (99, none)] u0 u ∧ msI u ∧ unI u ∧ cdI u ∧ apI u ∧ auI u ∧ (dlI 85 u0 p0.toInt) u) (ac_B (dC, dI) vwCl (ac_ty cA) ad cA (TT nF) A) A) [.ref (ad 85), .int p0].toArray s 0 0 A) (F0 m 89 ls []) := by
    intro n89
    induction n89 with
    | zero => intro x2 u H locs ls hR hF hn89 hK_MS hK_UI hK_CW hK_BI hK_BLI hK_AP hK_AU hK_AB hK_BG hK_DR f0 f1 f2 f3 hP hD hS hl; exfalso; omega
    | succ n89 ih89 =>
      intro x2 u H locs ls hR hF hn89 hK_MS hK_UI hK_CW hK_BI hK_BLI hK_AP hK_AU hK_AB hK_BG hK_DR f0 f1 f2 f3 hP hD hS hl
      refine lv_iload_n F.1 F.2.1 dX12_daybook_89 rfl (lv_at hl 2 rfl) ?_
      refine a_ic F (4 : Int32) dX12_daybook_90 (by decide) ?_
      refine b_ge F 107 dX12_daybook_91 (by decide) rfl ic_4 (fun c38 => ?_) (fun c38 => ?_)
      · refine a_ic F (-1 : Int32) dX12_daybook_107 (by decide) ?_
        refine lv_istore_n (lv' := [(2, .int (-1 : Int32)), (0, .ref (ad 85)), (1, .int p0)]) F.1 F.2.1 dX12_daybook_108 rfl hl (by decide) rfl (fun ls hl => ?_)
        refine a_ic F (0 : Int32) dX12_daybook_109 (by decide) ?_
        refine lv_istore_n (lv' := [(3, .int (0 : Int32)), (2, .int (-1 : Int32)), (0, .ref (ad 85)), (1, .int p0)]) F.1 F.2.1 dX12_daybook_110 rfl hl (by decide) rfl (fun ls hl => ?_)
        have g39 : (0 : Int) ≤ (u.1 85 0).toInt ∧ (u.1 85 0).toInt ≤ 1 := hR 85 0
        have g40 : (0 : Int) ≤ (u.1 85 11).toInt ∧ (u.1 85 11).toInt ≤ 4 := hR 85 11
        exact L111 42 (-1 : Int32) (0 : Int32) _ _ _ _ hR hF (by decide) hK_MS hK_UI hK_CW hK_BI hK_BLI hK_AP hK_AU hK_AB hK_BG hK_DR (by omega) (by decide) (by decide) (by omega : (0 : Int) ≤ (u.1 85 0).toInt ∧ (u.1 85 0).toInt ≤ 0) (by omega : (0 : Int) ≤ (u.1 85 11).toInt ∧ (u.1 85 11).toInt ≤ 0) hP hD hS (lv_sub hl [2, 3, 1, 0] rfl)
      · refine lv_aload_n F.1 F.2.1 dX12_daybook_94 rfl (lv_at hl 0 rfl) ?_
        refine a_getr F inX12 hP 85 36 tc_85 rfl rfl (by decide) q1507 (fun _ h9 => h9) dX12_daybook_95 ?_
        refine lv_iload_n F.1 F.2.1 dX12_daybook_98 rfl (lv_at hl 2 rfl) ?_
        refine a_ic F (0 : Int32) dX12_daybook_99 (by decide) ?_
        refine a_iast F hP hD hS 99 tc_99 rfl (i_in rfl (by omega)) dX12_daybook_100 (fun H locs hP hD hS => ?_)
        have hR := hR.si (c := 99) (k := x2.toNatClampNeg) (v := (0 : Int32)) ⟨i_lo _, i_hi _⟩
        have hF := hF.si (c := 99) (k := x2.toNatClampNeg) (v := (0 : Int32)) rfl
        have hK_MS := sp_sgD sp_MS hD hK_MS (by decide)
        have hK_UI := sp_sgD sp_UI hD hK_UI (by decide)
        have hK_CW := sp_sgD sp_CW hD hK_CW (by decide)
        have hK_BI := sp_sgD sp_BI hD hK_BI (by decide)
        have hK_BLI := sp_sgD sp_BLI hD hK_BLI (by decide)
        have hK_AP := sp_sgD sp_AP hD hK_AP (by decide)
        have hK_AU := sp_sgD sp_AU hD hK_AU (by decide)
        have hK_AB := sp_sgD sp_AB hD hK_AB (by decide)
        have hK_BG := sp_sgD sp_BG hD hK_BG (by decide)
        have hK_DR := sp_sgD (sp_dl 85 _ _) hD hK_DR (by decide)
        refine a_iinc F (k := 2) (fun v41 => [(2, .int v41), (0, .ref (ad 85)), (1, .int p0)]) dX12_daybook_101 hl rfl rfl (by decide) (by omega) (by decide) (fun _ => rfl) (fun v41 ls hv41 hl => ?_)
        refine lv_goto (tgt := 89) F.1 F.2.1 dX12_daybook_104 (by decide) ?_
        have g42 : (0 : Int) ≤ (u.1 85 0).toInt ∧ (u.1 85 0).toInt ≤ 1 := hR 85 0
        have g43 : (0 : Int) ≤ (u.1 85 11).toInt ∧ (u.1 85 11).toInt ≤ 4 := hR 85 11
        exact ih89 v41 _ _ _ _ hR hF (by omega) hK_MS hK_UI hK_CW hK_BI hK_BLI hK_AP hK_AU hK_AB hK_BG hK_DR (by omega) (by omega) (by omega : (0 : Int) ≤ (u.1 85 0).toInt ∧ (u.1 85 0).toInt ≤ 0) (by omega : (0 : Int) ≤ (u.1 85 11).toInt ∧ (u.1 85 11).toInt ≤ 0) hP hD hS (lv_sub hl [1, 2, 0] rfl)
  have L62 : ∀ (u : ac_U) (H : Heap) (locs : List Loc) (ls : Array Slot), ac_R rg u → ac_Fr [(85, some 0), (85, some 2), (85, some 3), (85, some 4), (85, some 5), (85, some 11), (85, some 12), (85, some 13), (85, some 14), (85, some 15), (85, some 16), (85, some 18), (85, some 24), (85, some 35), (85, some 37), (87, none), (89, none), (93, none), (94, none), (99, none)] u0 u → msI u → unI u → cdI u → apI u → auI u → (dlI 85 u0 p0.toInt) u → (0 : Int) ≤ (u.1 85 0).toInt ∧ (u.1 85 0).toInt ≤ 0 → va_P (dC, dI) vwCl (ac_w ad cA (TT nF) u) H → va_D A (ac_w ad cA (TT nF) u) → va_S A s.heap H locs → lv_has ls 4 [(0, .ref (ad 85))] → W p l e (ac_rm 8) s m [.ref (ad 85), .int p0].toArray below meth c H locs 0 0 (MQ below (va_Qi (fun (r : Int32) (u : ac_U) => ac_R rg u ∧ ac_Fr [(85, some 0), (85, some 2), (85, some 3), (85, some 4), (85, some 5), (85, some 11), (85, some 12), (85, some 13), (85, some 14), (85, some 15), (85, some 16), (85, some 18), (85, some 24), (85, some 35), (85, some 37), (87, none), (89, none), (93, none), (94, none), (99, none)] u0 u ∧ msI u ∧ unI u ∧ cdI u ∧ apI u ∧ auI u ∧ (dlI 85 u0 p0.toInt) u) (ac_B (dC, dI) vwCl (ac_ty cA) ad cA (TT nF) A) A) [.ref (ad 85), .int p0].toArray s 0 0 A) (F0 m 62 ls []) := by
    intro u H locs ls hR hF hK_MS hK_UI hK_CW hK_AP hK_AU hK_DR f0 hP hD hS hl
    refine a_bp F (-2 : Int32) dX12_daybook_62 (by decide) ?_
    refine lv_aload_n F.1 F.2.1 dX12_daybook_64 rfl (lv_at hl 0 rfl) ?_
    refine a_geti F inX12 hP 85 16 tc_85 rfl rfl (by decide) q1487 (fun _ h9 => h9) (v := (u.1 85 16)) rfl dX12_daybook_65 ?_
    refine a_isubU F dX12_daybook_68 (fun v44 => ?_)
    exact a_reti F hr hlocks hP hD hS dX12_daybook_69 ⟨hR, hF, hK_MS, hK_UI, hK_CW, hK_AP, hK_AU, hK_DR⟩
  have L39 : ∀ (n39 : Nat) (u : ac_U) (H : Heap) (locs : List Loc) (ls : Array Slot), ac_R rg u → ac_Fr [(85, some 0), (85, some 2), (85, some 3), (85, some 4), (85, some 5), (85, some 11), (85, some 12), (85, some 13), (85, some 14), (85, some 15), (85, some 16), (85, some 18), (85, some 24), (85, some 35), (85, some 37), (87, none), (89, none), (93, none), (94, none), (99, none)] u0 u → 41 - (u.1 85 35).toInt < (n39 : Int) → msI u → unI u → cdI u → blI u → apI u → auI u → bgI u → (dlI 85 u0 p0.toInt) u → (0 : Int) ≤ p0.toInt ∧ p0.toInt ≤ 1 → (0 : Int) ≤ (u.1 85 0).toInt ∧ (u.1 85 0).toInt ≤ 0 → (0 : Int) ≤ (u.1 85 35).toInt ∧ (u.1 85 35).toInt ≤ 40 → va_P (dC, dI) vwCl (ac_w ad cA (TT nF) u) H → va_D A (ac_w ad cA (TT nF) u) → va_S A s.heap H locs → lv_has ls 4 [(0, .ref (ad 85)), (1, .int p0)] → W p l e (ac_rm 8) s m [.ref (ad 85), .int p0].toArray below meth c H locs 0 0 (MQ below (va_Qi (fun (r : Int32) (u : ac_U) => ac_R rg u ∧ ac_Fr [(85, some 0), (85, some 2), (85, some 3), (85, some 4), (85, some 5), (85, some 11), (85, some 12), (85, some 13), (85, some 14), (85, some 15), (85, some 16), (85, some 18), (85, some 24), (85, some 35), (85, some 37), (87, none), (89, none), (93, none), (94, none), (99, none)] u0 u ∧ msI u ∧ unI u ∧ cdI u ∧ apI u ∧ auI u ∧ (dlI 85 u0 p0.toInt) u) (ac_B (dC, dI) vwCl (ac_ty cA) ad cA (TT nF) A) A) [.ref (ad 85), .int p0].toArray s 0 0 A) (F0 m 39 ls []) := by
    intro n39
    induction n39 with
    | zero => intro u H locs ls hR hF hn39 hK_MS hK_UI hK_CW hK_BLI hK_AP hK_AU hK_BG hK_DR f0 f1 f2 hP hD hS hl; have gz0 : (0 : Int) ≤ (u.1 85 35).toInt ∧ (u.1 85 35).toInt ≤ 40 := hR 85 35; exfalso; omega
    | succ n39 ih39 =>
      intro u H locs ls hR hF hn39 hK_MS hK_UI hK_CW hK_BLI hK_AP hK_AU hK_BG hK_DR f0 f1 f2 hP hD hS hl
      refine lv_aload_n F.1 F.2.1 dX12_daybook_39 rfl (lv_at hl 0 rfl) ?_
      have g45 : (0 : Int) ≤ (u.1 85 11).toInt ∧ (u.1 85 11).toInt ≤ 4 := hR 85 11
      refine a_geti F inX12 hP 85 11 tc_85 rfl rfl (by decide) q1482 (fun _ h9 => h9) (v := (u.1 85 11)) rfl dX12_daybook_40 ?_
      refine z_eq F 83 dX12_daybook_43 (by decide) rfl (fun c46 => ?_) (fun c46 => ?_)
      · refine lv_aload_n F.1 F.2.1 dX12_daybook_83 rfl (lv_at hl 0 rfl) ?_
        have g48 : (0 : Int) ≤ (u.1 85 35).toInt ∧ (u.1 85 35).toInt ≤ 40 := hR 85 35
        refine a_Vv F hml hl.1 hA hP hD hS (As := []) (c_X12_tries_85__3 l dC dI ad cA nF _  hR hK_MS hK_AP) (cs_RX12_392 (d := 1) F.2.2.1 (by decide)) tc_85 rfl rfl rfl rfl (Nat.le_of_ble_eq_true rfl) dX12_daybook_84 ⟨Nat.le_refl 0, Nat.le_refl 0⟩ (fun u47 H locs hq hP hD hS => ?_)
        obtain ⟨hR, hF47, hK_BI, hK_AB⟩ := hq
        have hF := hF.tr hF47 (by decide)
        have hK_MS := sp_fr sp_MS hF47 (by decide) hK_MS
        have hK_UI := sp_fr sp_UI hF47 (by decide) hK_UI
        have hK_CW := sp_fr sp_CW hF47 (by decide) hK_CW
        have hK_BLI := sp_fr sp_BLI hF47 (by decide) hK_BLI
        have hK_AP := sp_fr sp_AP hF47 (by decide) hK_AP
        have hK_AU := sp_fr sp_AU hF47 (by decide) hK_AU
        have hK_BG := sp_fr sp_BG hF47 (by decide) hK_BG
        have hK_DR := sp_fr (sp_dl 85 _ _) hF47 (by decide) hK_DR
        refine a_ic F (0 : Int32) dX12_daybook_87 (by decide) ?_
        refine lv_istore_n (lv' := [(2, .int (0 : Int32)), (0, .ref (ad 85)), (1, .int p0)]) F.1 F.2.1 dX12_daybook_88 rfl hl (by decide) rfl (fun ls hl => ?_)
        exact L89 6 (0 : Int32) _ _ _ _ hR hF (by decide) hK_MS hK_UI hK_CW hK_BI hK_BLI hK_AP hK_AU hK_AB hK_BG hK_DR (by omega) (by decide) (i_trB (hF47 85 0 rfl) (by omega : (0 : Int) ≤ (u.1 85 0).toInt ∧ (u.1 85 0).toInt ≤ 0)) (i_trB (hF47 85 11 rfl) (by omega : (0 : Int) ≤ (u.1 85 11).toInt ∧ (u.1 85 11).toInt ≤ 0)) hP hD hS (lv_sub hl [1, 2, 0] rfl)
      · refine lv_aload_n F.1 F.2.1 dX12_daybook_46 rfl (lv_at hl 0 rfl) ?_
        have g50 : (0 : Int) ≤ (u.1 85 35).toInt ∧ (u.1 85 35).toInt ≤ 40 := hR 85 35
        refine a_Vi F hml hl.1 hA hP hD hS (As := []) (c_X12_bookLine_85__3 l dC dI ad cA nF _  hR hK_BLI hK_BG) (cs_RX12_401 (d := 4) F.2.2.1 (by decide)) tc_85 rfl rfl rfl rfl (Nat.le_of_ble_eq_true rfl) dX12_daybook_47 ⟨Nat.le_refl 0, Nat.le_refl 0⟩ (fun r49 u49 H locs hq hP hD hS => ?_)
        obtain ⟨hR, hF49, gr49, xr49, hK_r49_BLJ, hK_r49_BH⟩ := hq
        have hF := hF.tr hF49 (by decide)
        have hK_MS := sp_fr sp_MS hF49 (by decide) hK_MS
        have hK_UI := sp_fr sp_UI hF49 (by decide) hK_UI
        have hK_CW := sp_fr sp_CW hF49 (by decide) hK_CW
        have hK_AP := sp_fr sp_AP hF49 (by decide) hK_AP
        have hK_AU := sp_fr sp_AU hF49 (by decide) hK_AU
        have hK_DR := sp_fr (sp_dl 85 _ _) hF49 (by decide) hK_DR
        have k51 : (u49.1 85 35).toInt = (u.1 85 35).toInt := congrArg Int32.toInt (show u49.1 85 35 = (u.1 85 35) from hF49 85 35 rfl)
        have xr49 : r49.toInt ≠ 0 → (u49.1 85 35).toInt ≤ 39 := xr49
        refine z_eq F 62 dX12_daybook_50 (by decide) rfl (fun c52 => ?_) (fun c52 => ?_)
        · exact L62 _ _ _ _ hR hF hK_MS hK_UI hK_CW hK_AP hK_AU hK_DR (i_trB (hF49 85 0 rfl) (by omega : (0 : Int) ≤ (u.1 85 0).toInt ∧ (u.1 85 0).toInt ≤ 0)) hP hD hS (lv_sub hl [0] rfl)
        · have hK_BLJ := hK_r49_BLJ (by omega)
          have hK_BH := hK_r49_BH (by omega)
          refine lv_aload_n F.1 F.2.1 dX12_daybook_53 rfl (lv_at hl 0 rfl) ?_
          refine a_bp F (59 : Int32) dX12_daybook_54 (by decide) ?_
          refine a_Vi F hml hl.1 hA hP hD hS (As := [.int (59 : Int32)]) (c_X12_sign_85 l dC dI ad cA nF _ (59 : Int32) hR (by decide)) (cs_RX12_238 (d := 3) F.2.2.1 (by decide)) tc_85 rfl rfl rfl rfl (Nat.le_of_ble_eq_true rfl) dX12_daybook_56 ⟨Nat.le_refl 0, Nat.le_refl 0⟩ (fun r53 u53 H locs hq hP hD hS => ?_)
          obtain ⟨hR, hF53, gr53⟩ := hq
          have hF := hF.tr hF53 (by decide)
          have hK_MS := sp_fr sp_MS hF53 (by decide) hK_MS
          have hK_UI := sp_fr sp_UI hF53 (by decide) hK_UI
          have hK_CW := sp_fr sp_CW hF53 (by decide) hK_CW
          have hK_AP := sp_fr sp_AP hF53 (by decide) hK_AP
          have hK_AU := sp_fr sp_AU hF53 (by decide) hK_AU
          have hK_DR := sp_fr (sp_dl 85 _ _) hF53 (by decide) hK_DR
          have hK_r49_BLJ := sp_fr (sp_imp sp_BLJ) hF53 (by decide) hK_r49_BLJ
          have hK_r49_BH := sp_fr (sp_imp sp_BH) hF53 (by decide) hK_r49_BH
          have hK_BLJ := sp_fr sp_BLJ hF53 (by decide) hK_BLJ
          have hK_BH := sp_fr sp_BH hF53 (by decide) hK_BH
          refine z_ne F 70 dX12_daybook_59 (by decide) rfl (fun c54 => ?_) (fun c54 => ?_)
          · refine lv_aload_n F.1 F.2.1 dX12_daybook_70 rfl (lv_at hl 0 rfl) ?_
            refine lv_dup F.1 F.2.1 dX12_daybook_71 rfl ?_
            refine a_geti F inX12 hP 85 35 tc_85 rfl rfl (by decide) q1506 (fun _ h9 => h9) (v := (u.1 85 35)) ((hF53 85 35 rfl).trans (hF49 85 35 rfl)) dX12_daybook_72 ?_
            refine a_ic F (1 : Int32) dX12_daybook_75 (by decide) ?_
            refine a_iadd F dX12_daybook_76 rfl ic_1 (by omega) (fun v55 hv55 => ?_)
            refine a_puti F inX12 tyX12 tyX12_ok nmX12 hP hD hS 85 35 tc_85 rfl rfl (by decide) q1506 (fun _ h9 => h9) rfl (ty := .int) (tyX12_ok 35 (by decide)) rfl rfl dX12_daybook_77 (fun H locs hP hD hS => ?_)
            have hR := hR.si (c := 85) (k := 35) (v := v55) (by omega : (0 : Int) ≤ v55.toInt ∧ v55.toInt ≤ 40)
            have hF := hF.si (c := 85) (k := 35) (v := v55) rfl
            have hO_MS := hK_MS
            have hO_UI := hK_UI
            have hO_CW := hK_CW
            have hO_AP := hK_AP
            have hO_AU := hK_AU
            have hO_DR := hK_DR
            have hO_r49_BLJ := hK_r49_BLJ
            have hO_r49_BH := hK_r49_BH
            have hO_BLJ := hK_BLJ
            have hO_BH := hK_BH
            have hN_BLI := bl_s hO_BLJ (i := (u.1 85 35)) (v := v55) ((hF53 85 35 rfl).trans (hF49 85 35 rfl)) (by omega)
            have hN_BG := bg_s hO_BH (i := (u.1 85 35)) (v := v55) ((hF53 85 35 rfl).trans (hF49 85 35 rfl)) (by omega)
            have hK_MS := sp_sgD sp_MS hD hK_MS (by decide)
            have hK_UI := sp_si sp_UI hK_UI (c := 85) (k := 35) (v := v55) (fun j9 h9 q9 => by rw [q9] at h9; exact absurd h9 (by decide))
            have hK_CW := sp_sgD sp_CW hD hK_CW (by decide)
            have hK_AP := sp_sgD sp_AP hD hK_AP (by decide)
            have hK_AU := sp_si sp_AU hK_AU (c := 85) (k := 35) (v := v55) (fun j9 h9 q9 => by rw [q9] at h9; exact absurd h9 (by decide))
            have hK_DR := sp_si (sp_dl 85 _ _) hK_DR (c := 85) (k := 35) (v := v55) (fun j9 h9 q9 => by rw [q9] at h9; exact absurd h9 (by decide))
            have hK_BLI := hN_BLI
            have hK_BG := hN_BG
            refine lv_goto (tgt := 39) F.1 F.2.1 dX12_daybook_80 (by decide) ?_
            exact ih39 _ _ _ _ hR hF (by omega : 41 - v55.toInt < ((n39 : Nat) : Int)) hK_MS hK_UI hK_CW hK_BLI hK_AP hK_AU hK_BG hK_DR (by omega) (i_trB ((hF53 85 0 rfl).trans (hF49 85 0 rfl)) (by omega : (0 : Int) ≤ (u.1 85 0).toInt ∧ (u.1 85 0).toInt ≤ 0)) (by omega : (0 : Int) ≤ v55.toInt ∧ v55.toInt ≤ 40) hP hD hS (lv_sub hl [0, 1] rfl)
          · exact L62 _ _ _ _ hR hF hK_MS hK_UI hK_CW hK_AP hK_AU hK_DR (i_trB ((hF53 85 0 rfl).trans (hF49 85 0 rfl)) (by omega : (0 : Int) ≤ (u.1 85 0).toInt ∧ (u.1 85 0).toInt ≤ 0)) hP hD hS (lv_sub hl [0] rfl)
  refine lv_aload_n F.1 F.2.1 dX12_daybook_0 rfl (lv_at hl 0 rfl) ?_
  refine a_ic F (0 : Int32) dX12_daybook_1 (by decide) ?_
  refine a_puti F inX12 tyX12 tyX12_ok nmX12 hP hD hS 85 0 tc_85 rfl rfl (by decide) q1471 (fun _ h9 => h9) rfl (ty := .int) (tyX12_ok 0 (by decide)) rfl rfl dX12_daybook_2 (fun H locs hP hD hS => ?_)
  have hR := hR.si (c := 85) (k := 0) (v := (0 : Int32)) (by rw [ic_0]; exact (by omega : (0 : Int) ≤ (0 : Int) ∧ (0 : Int) ≤ 1))
  have hF := hF.si (c := 85) (k := 0) (v := (0 : Int32)) rfl
  have hK_MS := sp_sgD sp_MS hD hK_MS (by decide)
  have hK_UI := sp_si sp_UI hK_UI (c := 85) (k := 0) (v := (0 : Int32)) (fun j9 h9 q9 => by rw [q9] at h9; exact absurd h9 (by decide))
  have hK_CW := sp_sgD sp_CW hD hK_CW (by decide)
  have hK_AP := sp_sgD sp_AP hD hK_AP (by decide)
  have hK_AU := sp_si sp_AU hK_AU (c := 85) (k := 0) (v := (0 : Int32)) (fun j9 h9 q9 => by rw [q9] at h9; exact absurd h9 (by decide))
  refine lv_iload_n F.1 F.2.1 dX12_daybook_5 rfl (lv_at hl 1 rfl) ?_
  refine a_ic F (0 : Int32) dX12_daybook_6 (by decide) ?_
  refine a_ic F (1 : Int32) dX12_daybook_7 (by decide) ?_
  refine a_Si F hml hl.1 hA hP hD hS (As := [.int p0, .int (0 : Int32), .int (1 : Int32)]) (c_X12_isIn_f l dC dI ad cA nF _ p0 (0 : Int32) (1 : Int32) hR (by decide)) (cs_RX12_187 (d := 1) F.2.2.1 (by decide)) rfl rfl (Nat.le_of_ble_eq_true rfl) dX12_daybook_8 ⟨Nat.le_refl 0, Nat.le_refl 0⟩ (fun r56 uN56 H locs hq hP hD hS => ?_)
  obtain ⟨hu56, gr56, xr56⟩ := hq
  rw [hu56] at hP hD
  have xr56 : (r56.toInt ≠ 0 → (0 : Int) ≤ p0.toInt ∧ p0.toInt ≤ (1 : Int)) ∧ (r56.toInt = 0 → p0.toInt < (0 : Int) ∨ (1 : Int) < p0.toInt) := xr56
  refine z_ne F 18 dX12_daybook_11 (by decide) rfl (fun c57 => ?_) (fun c57 => ?_)
  · refine lv_aload_n F.1 F.2.1 dX12_daybook_18 rfl (lv_at hl 0 rfl) ?_
    refine a_sp F (500 : Int32) dX12_daybook_19 (by decide) ?_
    have hP_MS := hK_MS
    have hP_UI := hK_UI
    have hP_CW := hK_CW
    have hP_AP := hK_AP
    have hP_AU := hK_AU
    have g59 : (0 : Int) ≤ (u0.1 85 35).toInt ∧ (u0.1 85 35).toInt ≤ 40 := hR 85 35
    refine a_Vv F hml hl.1 hA hP hD hS (As := [.int (500 : Int32)]) (c_X12_taken_85__2 l dC dI ad cA nF _ (500 : Int32) hR (by decide)) (cs_RX12_229 (d := 1) F.2.2.1 (by decide)) tc_85 rfl rfl rfl rfl (Nat.le_of_ble_eq_true rfl) dX12_daybook_22 ⟨Nat.le_refl 0, Nat.le_refl 0⟩ (fun u58 H locs hq hP hD hS => ?_)
    obtain ⟨hR, hF58, hK_LR⟩ := hq
    have hF := hF.tr hF58 (by decide)
    have hK_MS := sp_fr sp_MS hF58 (by decide) hK_MS
    have hK_UI := sp_fr sp_UI hF58 (by decide) hK_UI
    have hK_CW := sp_fr sp_CW hF58 (by decide) hK_CW
    have hK_AP := sp_fr sp_AP hF58 (by decide) hK_AP
    have hK_AU := sp_fr sp_AU hF58 (by decide) hK_AU
    have hK_DR := dl_0 (p := p0.toInt) (u0 := u0) (by omega) hK_LR
    refine lv_aload_n F.1 F.2.1 dX12_daybook_25 rfl (lv_at hl 0 rfl) ?_
    refine a_ic F (0 : Int32) dX12_daybook_26 (by decide) ?_
    refine a_puti F inX12 tyX12 tyX12_ok nmX12 hP hD hS 85 15 tc_85 rfl rfl (by decide) q1486 (fun _ h9 => h9) rfl (ty := .int) (tyX12_ok 15 (by decide)) rfl rfl dX12_daybook_27 (fun H locs hP hD hS => ?_)
    have hR := hR.si (c := 85) (k := 15) (v := (0 : Int32)) ⟨i_lo _, i_hi _⟩
    have hF := hF.si (c := 85) (k := 15) (v := (0 : Int32)) rfl
    have hK_MS := sp_sgD sp_MS hD hK_MS (by decide)
    have hK_UI := sp_si sp_UI hK_UI (c := 85) (k := 15) (v := (0 : Int32)) (fun j9 h9 q9 => by rw [q9] at h9; exact absurd h9 (by decide))
    have hK_CW := sp_sgD sp_CW hD hK_CW (by decide)
    have hK_AP := sp_sgD sp_AP hD hK_AP (by decide)
    have hK_AU := sp_si sp_AU hK_AU (c := 85) (k := 15) (v := (0 : Int32)) (fun j9 h9 q9 => by rw [q9] at h9; exact absurd h9 (by decide))
    have hK_LR := sp_si (sp_ln0 85) hK_LR (c := 85) (k := 15) (v := (0 : Int32)) (fun j9 h9 q9 => by rw [q9] at h9; exact absurd h9 (by decide))
    have hK_DR := sp_si (sp_dl 85 _ _) hK_DR (c := 85) (k := 15) (v := (0 : Int32)) (fun j9 h9 q9 => by rw [q9] at h9; exact absurd h9 (by decide))
    refine lv_aload_n F.1 F.2.1 dX12_daybook_30 rfl (lv_at hl 0 rfl) ?_
    refine a_ic F (0 : Int32) dX12_daybook_31 (by decide) ?_
    refine a_puti F inX12 tyX12 tyX12_ok nmX12 hP hD hS 85 35 tc_85 rfl rfl (by decide) q1506 (fun _ h9 => h9) rfl (ty := .int) (tyX12_ok 35 (by decide)) rfl rfl dX12_daybook_32 (fun H locs hP hD hS => ?_)
    have hR := hR.si (c := 85) (k := 35) (v := (0 : Int32)) (by rw [ic_0]; exact (by omega : (0 : Int) ≤ (0 : Int) ∧ (0 : Int) ≤ 40))
    have hF := hF.si (c := 85) (k := 35) (v := (0 : Int32)) rfl
    have hN_BLI := bl_0D hD (by decide)
    have hN_BG := bg_0D hD (by decide)
    have hK_MS := sp_sgD sp_MS hD hK_MS (by decide)
    have hK_UI := sp_si sp_UI hK_UI (c := 85) (k := 35) (v := (0 : Int32)) (fun j9 h9 q9 => by rw [q9] at h9; exact absurd h9 (by decide))
    have hK_CW := sp_sgD sp_CW hD hK_CW (by decide)
    have hK_AP := sp_sgD sp_AP hD hK_AP (by decide)
    have hK_AU := sp_si sp_AU hK_AU (c := 85) (k := 35) (v := (0 : Int32)) (fun j9 h9 q9 => by rw [q9] at h9; exact absurd h9 (by decide))
    have hK_LR := sp_si (sp_ln0 85) hK_LR (c := 85) (k := 35) (v := (0 : Int32)) (fun j9 h9 q9 => by rw [q9] at h9; exact absurd h9 (by decide))
    have hK_DR := sp_si (sp_dl 85 _ _) hK_DR (c := 85) (k := 35) (v := (0 : Int32)) (fun j9 h9 q9 => by rw [q9] at h9; exact absurd h9 (by decide))
    have hK_BLI := hN_BLI
    have hK_BG := hN_BG
    refine lv_aload_n F.1 F.2.1 dX12_daybook_35 rfl (lv_at hl 0 rfl) ?_
    refine a_Vv F hml hl.1 hA hP hD hS (As := []) (c_X12_next_85 l dC dI ad cA nF _  hR) (cs_RX12_184 (d := 2) F.2.2.1 (by decide)) tc_85 rfl rfl rfl rfl (Nat.le_of_ble_eq_true rfl) dX12_daybook_36 ⟨Nat.le_refl 0, Nat.le_refl 0⟩ (fun u60 H locs hq hP hD hS => ?_)
    obtain ⟨hR, hF60⟩ := hq
    have hF := hF.tr hF60 (by decide)
    have hK_MS := sp_fr sp_MS hF60 (by decide) hK_MS
    have hK_UI := sp_fr sp_UI hF60 (by decide) hK_UI
    have hK_CW := sp_fr sp_CW hF60 (by decide) hK_CW
    have hK_AP := sp_fr sp_AP hF60 (by decide) hK_AP
    have hK_AU := sp_fr sp_AU hF60 (by decide) hK_AU
    have hK_LR := sp_fr (sp_ln0 85) hF60 (by decide) hK_LR
    have hK_DR := sp_fr (sp_dl 85 _ _) hF60 (by decide) hK_DR
    have hK_BLI := sp_fr sp_BLI hF60 (by decide) hK_BLI
    have hK_BG := sp_fr sp_BG hF60 (by decide) hK_BG
    exact L39 43 _ _ _ _ hR hF (by show 41 - (u60.1 85 35).toInt < (43 : Int); rw [hF60 85 35 rfl]; exact (by omega : 41 - (0 : Int) < (43 : Int))) hK_MS hK_UI hK_CW hK_BLI hK_AP hK_AU hK_BG hK_DR (by omega) (i_trB ((hF60 85 0 rfl).trans (hF58 85 0 rfl)) (by omega : (0 : Int) ≤ (0 : Int) ∧ (0 : Int) ≤ 0)) (i_trB (hF60 85 35 rfl) (by omega : (0 : Int) ≤ (0 : Int) ∧ (0 : Int) ≤ 40)) hP hD hS (lv_sub hl [0, 1] rfl)
  · refine a_sp F (-1000 : Int32) dX12_daybook_14 (by decide) ?_
    exact a_reti F hr hlocks hP hD hS dX12_daybook_17 ⟨hR, hF, hK_MS, hK_UI, hK_CW, hK_AP, hK_AU, (dl_k (by omega) (by omega) rfl)⟩

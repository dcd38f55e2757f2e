set_option maxHeartbeats 600000 in
set_option maxRecDepth 100000 in
theorem c_X12_does_85__4 (l : Launch) (dC : Nat → ClassId) (dI : Nat → Nat → Nat) (ad : Nat → Nat) (cA : Nat → ClassId) (nF : Nat) (u0 : ac_U) (p0 : Int32) (p1 : Int32) (hR : ac_R rg u0) (hp0 : (0 : Int) ≤ p0.toInt ∧ p0.toInt ≤ 3) (hf_87_123 : (0 : Int) ≤ (u0.1 87 123).toInt ∧ (u0.1 87 123).toInt ≤ 79) : ac_Mv l yX12_does (.code yX12_does cX12_does 4 none :: TB) 1 (dC, dI) vwCl (ac_ty cA) ad cA (TT nF) [.ref (ad 85), .int p0, .int p1] u0 (fun (u : ac_U) => ac_R rg u ∧ ac_Fr [(87, none)] u0 u ∧ ((u.1 87 106).toInt = (u0.1 87 106).toInt ∧ (u.1 87 0).toInt = (u0.1 87 0).toInt) ∧ (msI u0 → msI u) ∧ (cdI u0 → cdI u) ∧ (unI u0 → unI u) ∧ (bfI u0 → bfI u) ∧ (apI u0 → apI u) ∧ (auI u0 → auI u) ∧ (abI u0 → abI u) ∧ (bgI u0 → bgI u) ∧ (hxI u0 → hxI u)) := by
  refine ac_Mv.of (cc := cX12_does) (maxL := 4) (ret := none) (by decide) rfl (Nat.le_of_ble_eq_true rfl) ?_
  intro p e s m below meth c A ls F hml hr hlocks hA hP hD hS hl
  have F : ac_X p s m [.ref (ad 85), .int p0, .int p1].toArray c cX12_does RX12 TB (dC, dI) vwCl (ac_ty cA) := ⟨F.1, F.2.1, fun w h => F.2.2.1 w (List.mem_cons_of_mem _ h), F.2.2.2.1, F.2.2.2.2⟩
  have hl : lv_has ls 4 [(0, .ref (ad 85)), (1, .int p0), (2, .int p1)] := hl
  have hF : ac_Fr [(87, none)] u0 u0 := ac_Fr.rf
  have hK_TM : (tmI u0) u0 := ⟨rfl, rfl⟩
  have hK_i_MS : (fun u => msI u0 → msI u) u0 := fun h => h
  have hK_i_CW : (fun u => cdI u0 → cdI u) u0 := fun h => h
  have hK_i_UI : (fun u => unI u0 → unI u) u0 := fun h => h
  have hK_i_BI : (fun u => bfI u0 → bfI u) u0 := fun h => h
  have hK_i_AP : (fun u => apI u0 → apI u) u0 := fun h => h
  have hK_i_AU : (fun u => auI u0 → auI u) u0 := fun h => h
  have hK_i_AB : (fun u => abI u0 → abI u) u0 := fun h => h
  have hK_i_BG : (fun u => bgI u0 → bgI u) u0 := fun h => h
  have hK_i_HX : (fun u => hxI u0 → hxI u) u0 := fun h => h
  refine a_sp F (148 : Int32) dX12_does_0 (by decide) ?_
  refine a_ic F (4 : Int32) dX12_does_3 (by decide) ?_
  refine lv_aload_n F.1 F.2.1 dX12_does_4 rfl (lv_at hl 0 rfl) ?_
  refine a_getr F inX12 hP 85 6 tc_85 rfl rfl (by decide) q1477 (fun _ h9 => h9) dX12_does_5 ?_
  refine a_bp F (123 : Int32) dX12_does_8 (by decide) ?_
  have g1 : (0 : Int) ≤ (u0.1 87 123).toInt ∧ (u0.1 87 123).toInt ≤ 80 := hR 87 123
  refine a_ialdK F hP 87 123 tc_87 rfl rfl (i_in ic_123 (by omega)) (v := (u0.1 87 123)) rfl dX12_does_10 ?_
  refine a_imul F dX12_does_11 ic_4 rfl (by omega) (fun v2 hv2 => ?_)
  refine a_iadd F dX12_does_12 ic_148 rfl (by omega) (fun v3 hv3 => ?_)
  refine lv_istore_n (lv' := [(3, .int v3), (0, .ref (ad 85)), (1, .int p0), (2, .int p1)]) F.1 F.2.1 dX12_does_13 rfl hl (by decide) rfl (fun ls hl => ?_)
  refine lv_aload_n F.1 F.2.1 dX12_does_14 rfl (lv_at hl 1 rfl) ?_
  refine a_getr F inX12 hP 85 6 tc_85 rfl rfl (by decide) q1477 (fun _ h9 => h9) dX12_does_15 ?_
  refine lv_iload_n F.1 F.2.1 dX12_does_18 rfl (lv_at hl 0 rfl) ?_
  refine lv_aload_n F.1 F.2.1 dX12_does_19 rfl (lv_at hl 1 rfl) ?_
  refine a_getr F inX12 hP 85 6 tc_85 rfl rfl (by decide) q1477 (fun _ h9 => h9) dX12_does_20 ?_
  refine a_bp F (106 : Int32) dX12_does_23 (by decide) ?_
  have g4 : (0 : Int) ≤ (u0.1 87 106).toInt ∧ (u0.1 87 106).toInt ≤ 480 := hR 87 106
  refine a_ialdK F hP 87 106 tc_87 rfl rfl (i_in ic_106 (by omega)) (v := (u0.1 87 106)) rfl dX12_does_25 ?_
  refine a_iast F hP hD hS 87 tc_87 rfl (i_in rfl (by omega)) dX12_does_26 (fun H locs hP hD hS => ?_)
  have hR := hR.si (c := 87) (k := v3.toNatClampNeg) (v := (u0.1 87 106)) (rs_87_148_464 (by omega) ⟨i_lo _, i_hi _⟩)
  have hF := hF.si (c := 87) (k := v3.toNatClampNeg) (v := (u0.1 87 106)) rfl
  have hK_TM := sp_si (sp_tm _) hK_TM (c := 87) (k := v3.toNatClampNeg) (v := (u0.1 87 106)) (fun j9 h9 => by have q8 := sp_mem h9; simp at q8; have q9 := i_cl (x := v3) (by omega); omega)
  have hK_i_MS := sp_si (sp_imp sp_MS) hK_i_MS (c := 87) (k := v3.toNatClampNeg) (v := (u0.1 87 106)) (fun j9 h9 => by have q8 := sp_mem h9; simp at q8; have q9 := i_cl (x := v3) (by omega); omega)
  have hK_i_CW := sp_si (sp_imp sp_CW) hK_i_CW (c := 87) (k := v3.toNatClampNeg) (v := (u0.1 87 106)) (fun j9 h9 => by have q8 := sp_mem h9; simp at q8; have q9 := i_cl (x := v3) (by omega); omega)
  have hK_i_UI := sp_si (sp_imp sp_UI) hK_i_UI (c := 87) (k := v3.toNatClampNeg) (v := (u0.1 87 106)) (fun j9 h9 => by have q8 := sp_mem h9; simp at q8; have q9 := i_cl (x := v3) (by omega); omega)
  have hK_i_BI := sp_si (sp_imp sp_BI) hK_i_BI (c := 87) (k := v3.toNatClampNeg) (v := (u0.1 87 106)) (fun j9 h9 => by have q8 := sp_mem h9; simp at q8; have q9 := i_cl (x := v3) (by omega); omega)
  have hK_i_AP := sp_si (sp_imp sp_AP) hK_i_AP (c := 87) (k := v3.toNatClampNeg) (v := (u0.1 87 106)) (fun j9 h9 => by have q8 := sp_mem h9; simp at q8; have q9 := i_cl (x := v3) (by omega); omega)
  have hK_i_AU := sp_si (sp_imp sp_AU) hK_i_AU (c := 87) (k := v3.toNatClampNeg) (v := (u0.1 87 106)) (fun j9 h9 => by have q8 := sp_mem h9; simp at q8; have q9 := i_cl (x := v3) (by omega); omega)
  have hK_i_AB := sp_si (sp_imp sp_AB) hK_i_AB (c := 87) (k := v3.toNatClampNeg) (v := (u0.1 87 106)) (fun j9 h9 => by have q8 := sp_mem h9; simp at q8; have q9 := i_cl (x := v3) (by omega); omega)
  have hK_i_BG := sp_si (sp_imp sp_BG) hK_i_BG (c := 87) (k := v3.toNatClampNeg) (v := (u0.1 87 106)) (fun j9 h9 => by have q8 := sp_mem h9; simp at q8; have q9 := i_cl (x := v3) (by omega); omega)
  have hK_i_HX := sp_si (sp_imp sp_HX) hK_i_HX (c := 87) (k := v3.toNatClampNeg) (v := (u0.1 87 106)) (fun j9 h9 => by have q8 := sp_mem h9; simp at q8; have q9 := i_cl (x := v3) (by omega); omega)
  refine lv_aload_n F.1 F.2.1 dX12_does_27 rfl (lv_at hl 1 rfl) ?_
  refine a_getr F inX12 hP 85 6 tc_85 rfl rfl (by decide) q1477 (fun _ h9 => h9) dX12_does_28 ?_
  refine lv_iload_n F.1 F.2.1 dX12_does_31 rfl (lv_at hl 0 rfl) ?_
  refine a_ic F (1 : Int32) dX12_does_32 (by decide) ?_
  refine a_iadd F dX12_does_33 rfl ic_1 (by omega) (fun v5 hv5 => ?_)
  refine lv_iload_n F.1 F.2.1 dX12_does_34 rfl (lv_at hl 2 rfl) ?_
  refine a_iast F hP hD hS 87 tc_87 rfl (i_in rfl (by omega)) dX12_does_35 (fun H locs hP hD hS => ?_)
  have hR := hR.si (c := 87) (k := v5.toNatClampNeg) (v := p0) (rs_87_149_465 (by omega) ⟨i_lo _, i_hi _⟩)
  have hF := hF.si (c := 87) (k := v5.toNatClampNeg) (v := p0) rfl
  have hK_TM := sp_si (sp_tm _) hK_TM (c := 87) (k := v5.toNatClampNeg) (v := p0) (fun j9 h9 => by have q8 := sp_mem h9; simp at q8; have q9 := i_cl (x := v5) (by omega); omega)
  have hK_i_MS := sp_si (sp_imp sp_MS) hK_i_MS (c := 87) (k := v5.toNatClampNeg) (v := p0) (fun j9 h9 => by have q8 := sp_mem h9; simp at q8; have q9 := i_cl (x := v5) (by omega); omega)
  have hK_i_CW := sp_si (sp_imp sp_CW) hK_i_CW (c := 87) (k := v5.toNatClampNeg) (v := p0) (fun j9 h9 => by have q8 := sp_mem h9; simp at q8; have q9 := i_cl (x := v5) (by omega); omega)
  have hK_i_UI := sp_si (sp_imp sp_UI) hK_i_UI (c := 87) (k := v5.toNatClampNeg) (v := p0) (fun j9 h9 => by have q8 := sp_mem h9; simp at q8; have q9 := i_cl (x := v5) (by omega); omega)
  have hK_i_BI := sp_si (sp_imp sp_BI) hK_i_BI (c := 87) (k := v5.toNatClampNeg) (v := p0) (fun j9 h9 => by have q8 := sp_mem h9; simp at q8; have q9 := i_cl (x := v5) (by omega); omega)
  have hK_i_AP := sp_si (sp_imp sp_AP) hK_i_AP (c := 87) (k := v5.toNatClampNeg) (v := p0) (fun j9 h9 => by have q8 := sp_mem h9; simp at q8; have q9 := i_cl (x := v5) (by omega); omega)
  have hK_i_AU := sp_si (sp_imp sp_AU) hK_i_AU (c := 87) (k := v5.toNatClampNeg) (v := p0) (fun j9 h9 => by have q8 := sp_mem h9; simp at q8; have q9 := i_cl (x := v5) (by omega); omega)
  have hK_i_AB := sp_si (sp_imp sp_AB) hK_i_AB (c := 87) (k := v5.toNatClampNeg) (v := p0) (fun j9 h9 => by have q8 := sp_mem h9; simp at q8; have q9 := i_cl (x := v5) (by omega); omega)
  have hK_i_BG := sp_si (sp_imp sp_BG) hK_i_BG (c := 87) (k := v5.toNatClampNeg) (v := p0) (fun j9 h9 => by have q8 := sp_mem h9; simp at q8; have q9 := i_cl (x := v5) (by omega); omega)
  have hK_i_HX := sp_si (sp_imp sp_HX) hK_i_HX (c := 87) (k := v5.toNatClampNeg) (v := p0) (fun j9 h9 => by have q8 := sp_mem h9; simp at q8; have q9 := i_cl (x := v5) (by omega); omega)
  refine lv_aload_n F.1 F.2.1 dX12_does_36 rfl (lv_at hl 1 rfl) ?_
  refine a_getr F inX12 hP 85 6 tc_85 rfl rfl (by decide) q1477 (fun _ h9 => h9) dX12_does_37 ?_
  refine lv_iload_n F.1 F.2.1 dX12_does_40 rfl (lv_at hl 0 rfl) ?_
  refine a_ic F (2 : Int32) dX12_does_41 (by decide) ?_
  refine a_iadd F dX12_does_42 rfl ic_2 (by omega) (fun v6 hv6 => ?_)
  refine lv_iload_n F.1 F.2.1 dX12_does_43 rfl (lv_at hl 3 rfl) ?_
  refine a_iast F hP hD hS 87 tc_87 rfl (i_in rfl (by omega)) dX12_does_44 (fun H locs hP hD hS => ?_)
  have hR := hR.si (c := 87) (k := v6.toNatClampNeg) (v := p1) (rs_87_150_466 (by omega) ⟨i_lo _, i_hi _⟩)
  have hF := hF.si (c := 87) (k := v6.toNatClampNeg) (v := p1) rfl
  have hK_TM := sp_si (sp_tm _) hK_TM (c := 87) (k := v6.toNatClampNeg) (v := p1) (fun j9 h9 => by have q8 := sp_mem h9; simp at q8; have q9 := i_cl (x := v6) (by omega); omega)
  have hK_i_MS := sp_si (sp_imp sp_MS) hK_i_MS (c := 87) (k := v6.toNatClampNeg) (v := p1) (fun j9 h9 => by have q8 := sp_mem h9; simp at q8; have q9 := i_cl (x := v6) (by omega); omega)
  have hK_i_CW := sp_si (sp_imp sp_CW) hK_i_CW (c := 87) (k := v6.toNatClampNeg) (v := p1) (fun j9 h9 => by have q8 := sp_mem h9; simp at q8; have q9 := i_cl (x := v6) (by omega); omega)
  have hK_i_UI := sp_si (sp_imp sp_UI) hK_i_UI (c := 87) (k := v6.toNatClampNeg) (v := p1) (fun j9 h9 => by have q8 := sp_mem h9; simp at q8; have q9 := i_cl (x := v6) (by omega); omega)
  have hK_i_BI := sp_si (sp_imp sp_BI) hK_i_BI (c := 87) (k := v6.toNatClampNeg) (v := p1) (fun j9 h9 => by have q8 := sp_mem h9; simp at q8; have q9 := i_cl (x := v6) (by omega); omega)
  have hK_i_AP := sp_si (sp_imp sp_AP) hK_i_AP (c := 87) (k := v6.toNatClampNeg) (v := p1) (fun j9 h9 => by have q8 := sp_mem h9; simp at q8; have q9 := i_cl (x := v6) (by omega); omega)
  have hK_i_AU := sp_si (sp_imp sp_AU) hK_i_AU (c := 87) (k := v6.toNatClampNeg) (v := p1) (fun j9 h9 => by have q8 := sp_mem h9; simp at q8; have q9 := i_cl (x := v6) (by omega); omega)
  have hK_i_AB := sp_si (sp_imp sp_AB) hK_i_AB (c := 87) (k := v6.toNatClampNeg) (v := p1) (fun j9 h9 => by have q8 := sp_mem h9; simp at q8; have q9 := i_cl (x := v6) (by omega); omega)
  have hK_i_BG := sp_si (sp_imp sp_BG) hK_i_BG (c := 87) (k := v6.toNatClampNeg) (v := p1) (fun j9 h9 => by have q8 := sp_mem h9; simp at q8; have q9 := i_cl (x := v6) (by omega); omega)
  have hK_i_HX := sp_si (sp_imp sp_HX) hK_i_HX (c := 87) (k := v6.toNatClampNeg) (v := p1) (fun j9 h9 => by have q8 := sp_mem h9; simp at q8; have q9 := i_cl (x := v6) (by omega); omega)
  refine lv_aload_n F.1 F.2.1 dX12_does_45 rfl (lv_at hl 1 rfl) ?_
  refine a_getr F inX12 hP 85 6 tc_85 rfl rfl (by decide) q1477 (fun _ h9 => h9) dX12_does_46 ?_
  refine lv_iload_n F.1 F.2.1 dX12_does_49 rfl (lv_at hl 0 rfl) ?_
  refine a_ic F (3 : Int32) dX12_does_50 (by decide) ?_
  refine a_iadd F dX12_does_51 rfl ic_3 (by omega) (fun v7 hv7 => ?_)
  refine lv_aload_n F.1 F.2.1 dX12_does_52 rfl (lv_at hl 1 rfl) ?_
  refine a_getr F inX12 hP 85 6 tc_85 rfl rfl (by decide) q1477 (fun _ h9 => h9) dX12_does_53 ?_
  refine a_bp F (107 : Int32) dX12_does_56 (by decide) ?_
  refine lv_iload_n F.1 F.2.1 dX12_does_58 rfl (lv_at hl 2 rfl) ?_
  refine a_iadd F dX12_does_59 ic_107 rfl (by omega) (fun v8 hv8 => ?_)
  refine a_iald F hP 87 tc_87 rfl (i_in rfl (by omega)) dX12_does_60 (fun v9 ev9 => ?_)
  have hv9 : (0 : Int) ≤ v9.toInt ∧ v9.toInt ≤ 7 := rg_seg_87_107_110 hR ev9 (by omega)
  refine a_iast F hP hD hS 87 tc_87 rfl (i_in rfl (by omega)) dX12_does_61 (fun H locs hP hD hS => ?_)
  have hR := hR.si (c := 87) (k := v7.toNatClampNeg) (v := v9) (rs_87_151_467 (by omega) ⟨i_lo _, i_hi _⟩)
  have hF := hF.si (c := 87) (k := v7.toNatClampNeg) (v := v9) rfl
  have hK_TM := sp_si (sp_tm _) hK_TM (c := 87) (k := v7.toNatClampNeg) (v := v9) (fun j9 h9 => by have q8 := sp_mem h9; simp at q8; have q9 := i_cl (x := v7) (by omega); omega)
  have hK_i_MS := sp_si (sp_imp sp_MS) hK_i_MS (c := 87) (k := v7.toNatClampNeg) (v := v9) (fun j9 h9 => by have q8 := sp_mem h9; simp at q8; have q9 := i_cl (x := v7) (by omega); omega)
  have hK_i_CW := sp_si (sp_imp sp_CW) hK_i_CW (c := 87) (k := v7.toNatClampNeg) (v := v9) (fun j9 h9 => by have q8 := sp_mem h9; simp at q8; have q9 := i_cl (x := v7) (by omega); omega)
  have hK_i_UI := sp_si (sp_imp sp_UI) hK_i_UI (c := 87) (k := v7.toNatClampNeg) (v := v9) (fun j9 h9 => by have q8 := sp_mem h9; simp at q8; have q9 := i_cl (x := v7) (by omega); omega)
  have hK_i_BI := sp_si (sp_imp sp_BI) hK_i_BI (c := 87) (k := v7.toNatClampNeg) (v := v9) (fun j9 h9 => by have q8 := sp_mem h9; simp at q8; have q9 := i_cl (x := v7) (by omega); omega)
  have hK_i_AP := sp_si (sp_imp sp_AP) hK_i_AP (c := 87) (k := v7.toNatClampNeg) (v := v9) (fun j9 h9 => by have q8 := sp_mem h9; simp at q8; have q9 := i_cl (x := v7) (by omega); omega)
  have hK_i_AU := sp_si (sp_imp sp_AU) hK_i_AU (c := 87) (k := v7.toNatClampNeg) (v := v9) (fun j9 h9 => by have q8 := sp_mem h9; simp at q8; have q9 := i_cl (x := v7) (by omega); omega)
  have hK_i_AB := sp_si (sp_imp sp_AB) hK_i_AB (c := 87) (k := v7.toNatClampNeg) (v := v9) (fun j9 h9 => by have q8 := sp_mem h9; simp at q8; have q9 := i_cl (x := v7) (by omega); omega)
  have hK_i_BG := sp_si (sp_imp sp_BG) hK_i_BG (c := 87) (k := v7.toNatClampNeg) (v := v9) (fun j9 h9 => by have q8 := sp_mem h9; simp at q8; have q9 := i_cl (x := v7) (by omega); omega)
  have hK_i_HX := sp_si (sp_imp sp_HX) hK_i_HX (c := 87) (k := v7.toNatClampNeg) (v := v9) (fun j9 h9 => by have q8 := sp_mem h9; simp at q8; have q9 := i_cl (x := v7) (by omega); omega)
  refine lv_aload_n F.1 F.2.1 dX12_does_62 rfl (lv_at hl 1 rfl) ?_
  refine a_getr F inX12 hP 85 6 tc_85 rfl rfl (by decide) q1477 (fun _ h9 => h9) dX12_does_63 ?_
  refine a_bp F (123 : Int32) dX12_does_66 (by decide) ?_
  refine lv_dup2_11 F.1 F.2.1 dX12_does_68 rfl rfl ?_
  refine a_ialdK F hP 87 123 tc_87 rfl rfl (i_in ic_123 (by omega)) (v := (u0.1 87 123)) ((ac_ne (c := 87) (k := 123) (i := v7) (by have q9 := i_cl (x := v7) (by omega); omega)).trans ((ac_ne (c := 87) (k := 123) (i := v6) (by have q9 := i_cl (x := v6) (by omega); omega)).trans ((ac_ne (c := 87) (k := 123) (i := v5) (by have q9 := i_cl (x := v5) (by omega); omega)).trans (ac_ne (c := 87) (k := 123) (i := v3) (by have q9 := i_cl (x := v3) (by omega); omega))))) dX12_does_69 ?_
  refine a_ic F (1 : Int32) dX12_does_70 (by decide) ?_
  refine a_iadd F dX12_does_71 rfl ic_1 (by omega) (fun v10 hv10 => ?_)
  refine a_iastK F hP hD hS 87 123 tc_87 rfl rfl (i_in ic_123 (by omega)) dX12_does_72 (fun H locs hP hD hS => ?_)
  have hR := hR.si (c := 87) (k := 123) (v := v10) (by omega : (0 : Int) ≤ v10.toInt ∧ v10.toInt ≤ 80)
  have hF := hF.si (c := 87) (k := 123) (v := v10) rfl
  have hK_TM := sp_si (sp_tm _) hK_TM (c := 87) (k := 123) (v := v10) (fun j9 h9 q9 => by rw [q9] at h9; exact absurd h9 (by decide))
  have hK_i_MS := sp_si (sp_imp sp_MS) hK_i_MS (c := 87) (k := 123) (v := v10) (fun j9 h9 q9 => by rw [q9] at h9; exact absurd h9 (by decide))
  have hK_i_CW := sp_si (sp_imp sp_CW) hK_i_CW (c := 87) (k := 123) (v := v10) (fun j9 h9 q9 => by rw [q9] at h9; exact absurd h9 (by decide))
  have hK_i_UI := sp_si (sp_imp sp_UI) hK_i_UI (c := 87) (k := 123) (v := v10) (fun j9 h9 q9 => by rw [q9] at h9; exact absurd h9 (by decide))
  have hK_i_BI := sp_si (sp_imp sp_BI) hK_i_BI (c := 87) (k := 123) (v := v10) (fun j9 h9 q9 => by rw [q9] at h9; exact absurd h9 (by decide))
  have hK_i_AP := sp_si (sp_imp sp_AP) hK_i_AP (c := 87) (k := 123) (v := v10) (fun j9 h9 q9 => by rw [q9] at h9; exact absurd h9 (by decide))
  have hK_i_AU := sp_si (sp_imp sp_AU) hK_i_AU (c := 87) (k := 123) (v := v10) (fun j9 h9 q9 => by rw [q9] at h9; exact absurd h9 (by decide))
  have hK_i_AB := sp_si (sp_imp sp_AB) hK_i_AB (c := 87) (k := 123) (v := v10) (fun j9 h9 q9 => by rw [q9] at h9; exact absurd h9 (by decide))
  have hK_i_BG := sp_si (sp_imp sp_BG) hK_i_BG (c := 87) (k := 123) (v := v10) (fun j9 h9 q9 => by rw [q9] at h9; exact absurd h9 (by decide))
  have hK_i_HX := sp_si (sp_imp sp_HX) hK_i_HX (c := 87) (k := 123) (v := v10) (fun j9 h9 q9 => by rw [q9] at h9; exact absurd h9 (by decide))
  refine lv_aload_n F.1 F.2.1 dX12_does_73 rfl (lv_at hl 1 rfl) ?_
  refine a_getr F inX12 hP 85 6 tc_85 rfl rfl (by decide) q1477 (fun _ h9 => h9) dX12_does_74 ?_
  refine a_bp F (111 : Int32) dX12_does_77 (by decide) ?_
  refine lv_iload_n F.1 F.2.1 dX12_does_79 rfl (lv_at hl 2 rfl) ?_
  refine a_iadd F dX12_does_80 ic_111 rfl (by omega) (fun v11 hv11 => ?_)
  refine a_ic F (1 : Int32) dX12_does_81 (by decide) ?_
  refine a_iast F hP hD hS 87 tc_87 rfl (i_in rfl (by omega)) dX12_does_82 (fun H locs hP hD hS => ?_)
  have hR := hR.si (c := 87) (k := v11.toNatClampNeg) (v := (1 : Int32)) (rs_87_111_114 (by omega) ⟨i_lo _, i_hi _⟩)
  have hF := hF.si (c := 87) (k := v11.toNatClampNeg) (v := (1 : Int32)) rfl
  have hK_TM := sp_si (sp_tm _) hK_TM (c := 87) (k := v11.toNatClampNeg) (v := (1 : Int32)) (fun j9 h9 => by have q8 := sp_mem h9; simp at q8; have q9 := i_cl (x := v11) (by omega); omega)
  have hK_i_MS := sp_si (sp_imp sp_MS) hK_i_MS (c := 87) (k := v11.toNatClampNeg) (v := (1 : Int32)) (fun j9 h9 => by have q8 := sp_mem h9; simp at q8; have q9 := i_cl (x := v11) (by omega); omega)
  have hK_i_CW := sp_si (sp_imp sp_CW) hK_i_CW (c := 87) (k := v11.toNatClampNeg) (v := (1 : Int32)) (fun j9 h9 => by have q8 := sp_mem h9; simp at q8; have q9 := i_cl (x := v11) (by omega); omega)
  have hK_i_UI := sp_si (sp_imp sp_UI) hK_i_UI (c := 87) (k := v11.toNatClampNeg) (v := (1 : Int32)) (fun j9 h9 => by have q8 := sp_mem h9; simp at q8; have q9 := i_cl (x := v11) (by omega); omega)
  have hK_i_BI := sp_si (sp_imp sp_BI) hK_i_BI (c := 87) (k := v11.toNatClampNeg) (v := (1 : Int32)) (fun j9 h9 => by have q8 := sp_mem h9; simp at q8; have q9 := i_cl (x := v11) (by omega); omega)
  have hK_i_AP := sp_si (sp_imp sp_AP) hK_i_AP (c := 87) (k := v11.toNatClampNeg) (v := (1 : Int32)) (fun j9 h9 => by have q8 := sp_mem h9; simp at q8; have q9 := i_cl (x := v11) (by omega); omega)
  have hK_i_AU := sp_si (sp_imp sp_AU) hK_i_AU (c := 87) (k := v11.toNatClampNeg) (v := (1 : Int32)) (fun j9 h9 => by have q8 := sp_mem h9; simp at q8; have q9 := i_cl (x := v11) (by omega); omega)
  have hK_i_AB := sp_si (sp_imp sp_AB) hK_i_AB (c := 87) (k := v11.toNatClampNeg) (v := (1 : Int32)) (fun j9 h9 => by have q8 := sp_mem h9; simp at q8; have q9 := i_cl (x := v11) (by omega); omega)
  have hK_i_BG := sp_si (sp_imp sp_BG) hK_i_BG (c := 87) (k := v11.toNatClampNeg) (v := (1 : Int32)) (fun j9 h9 => by have q8 := sp_mem h9; simp at q8; have q9 := i_cl (x := v11) (by omega); omega)
  have hK_i_HX := sp_si (sp_imp sp_HX) hK_i_HX (c := 87) (k := v11.toNatClampNeg) (v := (1 : Int32)) (fun j9 h9 => by have q8 := sp_mem h9; simp at q8; have q9 := i_cl (x := v11) (by omega); omega)
  refine lv_aload_n F.1 F.2.1 dX12_does_83 rfl (lv_at hl 1 rfl) ?_
  refine a_getr F inX12 hP 85 6 tc_85 rfl rfl (by decide) q1477 (fun _ h9 => h9) dX12_does_84 ?_
  refine a_bp F (115 : Int32) dX12_does_87 (by decide) ?_
  refine lv_iload_n F.1 F.2.1 dX12_does_89 rfl (lv_at hl 2 rfl) ?_
  refine a_iadd F dX12_does_90 ic_115 rfl (by omega) (fun v12 hv12 => ?_)
  refine lv_dup2_11 F.1 F.2.1 dX12_does_91 rfl rfl ?_
  refine a_iald F hP 87 tc_87 rfl (i_in rfl (by omega)) dX12_does_92 (fun v13 ev13 => ?_)
  refine a_ic F (1 : Int32) dX12_does_93 (by decide) ?_
  refine a_iaddU F dX12_does_94 (fun v14 => ?_)
  refine a_iast F hP hD hS 87 tc_87 rfl (i_in rfl (by omega)) dX12_does_95 (fun H locs hP hD hS => ?_)
  have hR := hR.si (c := 87) (k := v12.toNatClampNeg) (v := v14) (rs_87_115_118 (by omega) ⟨i_lo _, i_hi _⟩)
  have hF := hF.si (c := 87) (k := v12.toNatClampNeg) (v := v14) rfl
  have hK_TM := sp_si (sp_tm _) hK_TM (c := 87) (k := v12.toNatClampNeg) (v := v14) (fun j9 h9 => by have q8 := sp_mem h9; simp at q8; have q9 := i_cl (x := v12) (by omega); omega)
  have hK_i_MS := sp_si (sp_imp sp_MS) hK_i_MS (c := 87) (k := v12.toNatClampNeg) (v := v14) (fun j9 h9 => by have q8 := sp_mem h9; simp at q8; have q9 := i_cl (x := v12) (by omega); omega)
  have hK_i_CW := sp_si (sp_imp sp_CW) hK_i_CW (c := 87) (k := v12.toNatClampNeg) (v := v14) (fun j9 h9 => by have q8 := sp_mem h9; simp at q8; have q9 := i_cl (x := v12) (by omega); omega)
  have hK_i_UI := sp_si (sp_imp sp_UI) hK_i_UI (c := 87) (k := v12.toNatClampNeg) (v := v14) (fun j9 h9 => by have q8 := sp_mem h9; simp at q8; have q9 := i_cl (x := v12) (by omega); omega)
  have hK_i_BI := sp_si (sp_imp sp_BI) hK_i_BI (c := 87) (k := v12.toNatClampNeg) (v := v14) (fun j9 h9 => by have q8 := sp_mem h9; simp at q8; have q9 := i_cl (x := v12) (by omega); omega)
  have hK_i_AP := sp_si (sp_imp sp_AP) hK_i_AP (c := 87) (k := v12.toNatClampNeg) (v := v14) (fun j9 h9 => by have q8 := sp_mem h9; simp at q8; have q9 := i_cl (x := v12) (by omega); omega)
  have hK_i_AU := sp_si (sp_imp sp_AU) hK_i_AU (c := 87) (k := v12.toNatClampNeg) (v := v14) (fun j9 h9 => by have q8 := sp_mem h9; simp at q8; have q9 := i_cl (x := v12) (by omega); omega)
  have hK_i_AB := sp_si (sp_imp sp_AB) hK_i_AB (c := 87) (k := v12.toNatClampNeg) (v := v14) (fun j9 h9 => by have q8 := sp_mem h9; simp at q8; have q9 := i_cl (x := v12) (by omega); omega)
  have hK_i_BG := sp_si (sp_imp sp_BG) hK_i_BG (c := 87) (k := v12.toNatClampNeg) (v := v14) (fun j9 h9 => by have q8 := sp_mem h9; simp at q8; have q9 := i_cl (x := v12) (by omega); omega)
  have hK_i_HX := sp_si (sp_imp sp_HX) hK_i_HX (c := 87) (k := v12.toNatClampNeg) (v := v14) (fun j9 h9 => by have q8 := sp_mem h9; simp at q8; have q9 := i_cl (x := v12) (by omega); omega)
  exact a_retv F hr hlocks hP hD hS dX12_does_96 ⟨hR, hF, ⟨congrArg Int32.toInt hK_TM.1, congrArg Int32.toInt hK_TM.2⟩, hK_i_MS, hK_i_CW, hK_i_UI, hK_i_BI, hK_i_AP, hK_i_AU, hK_i_AB, hK_i_BG, hK_i_HX⟩
set_option maxHeartbeats 600000 in
set_option maxRecDepth 100000 in
theorem c_X12_act_85__4 (l : Launch) (dC : Nat → ClassId) (dI : Nat → Nat → Nat) (ad : Nat → Nat) (cA : Nat → ClassId) (nF : Nat) (u0 : ac_U) (p0 : Int32) (p1 : Int32) (hR : ac_R rg u0) (hK_MS : msI u0) (hK_UI : unI u0) (hK_CW : cdI u0) (hK_AP : apI u0) (hK_AU : auI u0) : ac_Mi l yX12_act (.code yX12_act cX12_act 4 (some .int) :: TB) 3 (dC, dI) vwCl (ac_ty cA) ad cA (TT nF) [.ref (ad 85), .int p0, .int p1] u0 (fun (r : Int32) (u : ac_U) => ac_R rg u ∧ ac_Fr [(85, some 0), (85, some 24), (87, none), (93, none)] u0 u ∧ ((-1 : Int) ≤ r.toInt ∧ r.toInt ≤ 4) ∧ msI u ∧ unI u ∧ cdI u ∧ apI u ∧ auI u ∧ (hxI u0 → hxI u)) := by
  refine ac_Mi.of (cc := cX12_act) (maxL := 4) (ret := (some .int)) (by decide) rfl (Nat.le_of_ble_eq_true rfl) ?_
  intro p e s m below meth c A ls F hml hr hlocks hA hP hD hS hl
  have F : ac_X p s m [.ref (ad 85), .int p0, .int p1].toArray c cX12_act RX12 TB (dC, dI) vwCl (ac_ty cA) := ⟨F.1, F.2.1, fun w h => F.2.2.1 w (List.mem_cons_of_mem _ h), F.2.2.2.1, F.2.2.2.2⟩
  have hl : lv_has ls 4 [(0, .ref (ad 85)), (1, .int p0), (2, .int p1)] := hl
  have hF : ac_Fr [(85, some 0), (85, some 24), (87, none), (93, none)] u0 u0 := ac_Fr.rf
  have hK_i_HX : (fun u => hxI u0 → hxI u) u0 := fun h => h
  have L21 : ∀ (u : ac_U) (H : Heap) (locs : List Loc) (ls : Array Slot), ac_R rg u → ac_Fr [(85, some 0), (85, some 24), (87, none), (93, none)] u0 u → msI u → unI u → cdI u → apI u → auI u → (fun u => hxI u0 → hxI u) u → (0 : Int) ≤ (u.1 85 0).toInt ∧ (u.1 85 0).toInt ≤ 0 → va_P (dC, dI) vwCl (ac_w ad cA (TT nF) u) H → va_D A (ac_w ad cA (TT nF) u) → va_S A s.heap H locs → lv_has ls 4 [] → W p l e (ac_rm 3) s m [.ref (ad 85), .int p0, .int p1].toArray below meth c H locs 0 0 (MQ below (va_Qi (fun (r : Int32) (u : ac_U) => ac_R rg u ∧ ac_Fr [(85, some 0), (85, some 24), (87, none), (93, none)] u0 u ∧ ((-1 : Int) ≤ r.toInt ∧ r.toInt ≤ 4) ∧ msI u ∧ unI u ∧ cdI u ∧ apI u ∧ auI u ∧ (hxI u0 → hxI u)) (ac_B (dC, dI) vwCl (ac_ty cA) ad cA (TT nF) A) A) [.ref (ad 85), .int p0, .int p1].toArray s 0 0 A) (F0 m 21 ls []) := by
    intro u H locs ls hR hF hK_MS hK_UI hK_CW hK_AP hK_AU hK_i_HX f0 hP hD hS hl
    refine a_ic F (-1 : Int32) dX12_act_21 (by decide) ?_
    exact a_reti F hr hlocks hP hD hS dX12_act_22 ⟨hR, hF, (by decide), hK_MS, hK_UI, hK_CW, hK_AP, hK_AU, hK_i_HX⟩
  refine lv_aload_n F.1 F.2.1 dX12_act_0 rfl (lv_at hl 0 rfl) ?_
  refine a_ic F (0 : Int32) dX12_act_1 (by decide) ?_
  refine a_puti F inX12 tyX12 tyX12_ok nmX12 hP hD hS 85 0 tc_85 rfl rfl (by decide) q1471 (fun _ h9 => h9) rfl (ty := .int) (tyX12_ok 0 (by decide)) rfl rfl dX12_act_2 (fun H locs hP hD hS => ?_)
  have hR := hR.si (c := 85) (k := 0) (v := (0 : Int32)) (by rw [ic_0]; exact (by omega : (0 : Int) ≤ (0 : Int) ∧ (0 : Int) ≤ 1))
  have hF := hF.si (c := 85) (k := 0) (v := (0 : Int32)) rfl
  have hK_MS := sp_sgD sp_MS hD hK_MS (by decide)
  have hK_UI := sp_si sp_UI hK_UI (c := 85) (k := 0) (v := (0 : Int32)) (fun j9 h9 q9 => by rw [q9] at h9; exact absurd h9 (by decide))
  have hK_CW := sp_sgD sp_CW hD hK_CW (by decide)
  have hK_AP := sp_sgD sp_AP hD hK_AP (by decide)
  have hK_AU := sp_si sp_AU hK_AU (c := 85) (k := 0) (v := (0 : Int32)) (fun j9 h9 q9 => by rw [q9] at h9; exact absurd h9 (by decide))
  have hK_i_HX := sp_sgD (sp_imp sp_HX) hD hK_i_HX (by decide)
  refine lv_aload_n F.1 F.2.1 dX12_act_5 rfl (lv_at hl 0 rfl) ?_
  refine lv_iload_n F.1 F.2.1 dX12_act_6 rfl (lv_at hl 1 rfl) ?_
  refine a_Vi F hml hl.1 hA hP hD hS (As := [.int p0]) (c_X12_isPerson_85 l dC dI ad cA nF _ p0 hR) (cs_RX12_251 (d := 2) F.2.2.1 (by decide)) tc_85 rfl rfl rfl rfl (Nat.le_of_ble_eq_true rfl) dX12_act_7 ⟨Nat.le_refl 0, Nat.le_refl 0⟩ (fun r1 uN1 H locs hq hP hD hS => ?_)
  obtain ⟨hu1, gr1, xr1⟩ := hq
  rw [hu1] at hP hD
  have xr1 : r1.toInt ≠ 0 → 0 ≤ p0.toInt ∧ p0.toInt ≤ 3 := xr1
  refine z_eq F 21 dX12_act_10 (by decide) rfl (fun c2 => ?_) (fun c2 => ?_)
  · exact L21 _ _ _ _ hR hF hK_MS hK_UI hK_CW hK_AP hK_AU hK_i_HX (by omega : (0 : Int) ≤ (0 : Int) ∧ (0 : Int) ≤ 0) hP hD hS (lv_sub hl [] rfl)
  · refine lv_aload_n F.1 F.2.1 dX12_act_13 rfl (lv_at hl 0 rfl) ?_
    refine lv_iload_n F.1 F.2.1 dX12_act_14 rfl (lv_at hl 2 rfl) ?_
    refine a_Vi F hml hl.1 hA hP hD hS (As := [.int p1]) (c_X12_isDeed_85 l dC dI ad cA nF _ p1 hR) (cs_RX12_276 (d := 2) F.2.2.1 (by decide)) tc_85 rfl rfl rfl rfl (Nat.le_of_ble_eq_true rfl) dX12_act_15 ⟨Nat.le_refl 0, Nat.le_refl 0⟩ (fun r3 uN3 H locs hq hP hD hS => ?_)
    obtain ⟨hu3, gr3, xr3⟩ := hq
    rw [hu3] at hP hD
    have xr3 : r3.toInt ≠ 0 → 0 ≤ p1.toInt ∧ p1.toInt ≤ 5 := xr3
    refine z_ne F 23 dX12_act_18 (by decide) rfl (fun c4 => ?_) (fun c4 => ?_)
    · refine lv_aload_n F.1 F.2.1 dX12_act_23 rfl (lv_at hl 0 rfl) ?_
      refine lv_iload_n F.1 F.2.1 dX12_act_24 rfl (lv_at hl 1 rfl) ?_
      refine a_Vi F hml hl.1 hA hP hD hS (As := [.int p0]) (c_X12_whyAct_85 l dC dI ad cA nF _ p0 hR (by omega)) (cs_RX12_279 (d := 2) F.2.2.1 (by decide)) tc_85 rfl rfl rfl rfl (Nat.le_of_ble_eq_true rfl) dX12_act_25 ⟨Nat.le_refl 0, Nat.le_refl 0⟩ (fun r5 uN5 H locs hq hP hD hS => ?_)
      obtain ⟨hu5, gr5, xr5⟩ := hq
      rw [hu5] at hP hD
      have g6 : (0 : Int) ≤ (u0.1 87 123).toInt ∧ (u0.1 87 123).toInt ≤ 80 := hR 87 123
      have xr5 : r5.toInt = 0 → (u0.1 87 123).toInt ≤ 79 := xr5
      refine lv_istore_n (lv' := [(3, .int r5), (0, .ref (ad 85)), (1, .int p0), (2, .int p1)]) F.1 F.2.1 dX12_act_28 rfl hl (by decide) rfl (fun ls hl => ?_)
      refine lv_iload_n F.1 F.2.1 dX12_act_29 rfl (lv_at hl 0 rfl) ?_
      refine z_le F 35 dX12_act_30 (by decide) rfl (fun c7 => ?_) (fun c7 => ?_)
      · refine lv_aload_n F.1 F.2.1 dX12_act_35 rfl (lv_at hl 1 rfl) ?_
        refine a_Vv F hml hl.1 hA hP hD hS (As := []) (c_X12_keep_85__3 l dC dI ad cA nF _  hR hK_MS hK_UI hK_AP hK_AU) (cs_RX12_269 (d := 1) F.2.2.1 (by decide)) tc_85 rfl rfl rfl rfl (Nat.le_of_ble_eq_true rfl) dX12_act_36 ⟨Nat.le_refl 0, Nat.le_refl 0⟩ (fun u8 H locs hq hP hD hS => ?_)
        obtain ⟨hR, hF8, xr8, hK_MS, hK_UI, hK_AP, hK_AU⟩ := hq
        have hF := hF.tr hF8 (by decide)
        have hK_CW := sp_fr sp_CW hF8 (by decide) hK_CW
        have hK_i_HX := sp_fr (sp_imp sp_HX) hF8 (by decide) hK_i_HX
        have g9 : (0 : Int) ≤ (u8.1 85 24).toInt ∧ (u8.1 85 24).toInt ≤ 8 := hR 85 24
        have xr8 : 1 ≤ (u8.1 85 24).toInt := xr8
        refine lv_aload_n F.1 F.2.1 dX12_act_39 rfl (lv_at hl 1 rfl) ?_
        refine lv_iload_n F.1 F.2.1 dX12_act_40 rfl (lv_at hl 2 rfl) ?_
        refine lv_iload_n F.1 F.2.1 dX12_act_41 rfl (lv_at hl 3 rfl) ?_
        refine a_Vv F hml hl.1 hA hP hD hS (As := [.int p0, .int p1]) (c_X12_does_85__4 l dC dI ad cA nF _ p0 p1 hR (by omega) (i_trB (hF8 87 123 rfl) (by omega : (0 : Int) ≤ (u0.1 87 123).toInt ∧ (u0.1 87 123).toInt ≤ 79))) (cs_RX12_283 (d := 1) F.2.2.1 (by decide)) tc_85 rfl rfl rfl rfl (Nat.le_of_ble_eq_true rfl) dX12_act_42 ⟨Nat.le_refl 0, Nat.le_refl 0⟩ (fun u10 H locs hq hP hD hS => ?_)
        obtain ⟨hR, hF10, xr10, hJ10_MS, hJ10_CW, hJ10_UI, hJ10_BI, hJ10_AP, hJ10_AU, hJ10_AB, hJ10_BG, hJ10_HX⟩ := hq
        have hF := hF.tr hF10 (by decide)
        have hK_MS := hJ10_MS hK_MS
        have hK_UI := hJ10_UI hK_UI
        have hK_CW := hJ10_CW hK_CW
        have hK_AP := hJ10_AP hK_AP
        have hK_AU := hJ10_AU hK_AU
        have hK_i_HX : (fun u => hxI u0 → hxI u) u10 := fun h => hJ10_HX (hK_i_HX h)
        have g11 : (0 : Int) ≤ (u10.1 87 106).toInt ∧ (u10.1 87 106).toInt ≤ 480 := hR 87 106
        have g12 : (4 : Int) ≤ (u10.1 87 0).toInt ∧ (u10.1 87 0).toInt ≤ 24 := hR 87 0
        have xr10 : (u10.1 87 106).toInt = (u8.1 87 106).toInt ∧ (u10.1 87 0).toInt = (u8.1 87 0).toInt := xr10
        refine a_ic F (0 : Int32) dX12_act_45 (by decide) ?_
        exact a_reti F hr hlocks hP hD hS dX12_act_46 ⟨hR, hF, (by decide), hK_MS, hK_UI, hK_CW, hK_AP, hK_AU, hK_i_HX⟩
      · refine lv_iload_n F.1 F.2.1 dX12_act_33 rfl (lv_at hl 0 rfl) ?_
        exact a_reti F hr hlocks hP hD hS dX12_act_34 ⟨hR, hF, (by omega : (-1 : Int) ≤ r5.toInt ∧ r5.toInt ≤ 4), hK_MS, hK_UI, hK_CW, hK_AP, hK_AU, hK_i_HX⟩
    · exact L21 _ _ _ _ hR hF hK_MS hK_UI hK_CW hK_AP hK_AU hK_i_HX (by omega : (0 : Int) ≤ (0 : Int) ∧ (0 : Int) ≤ 0) hP hD hS (lv_sub hl [] rfl)
set_option maxHeartbeats 600000 in
set_option maxRecDepth 100000 in
theorem c_X12_back_85__4 (l : Launch) (dC : Nat → ClassId) (dI : Nat → Nat → Nat) (ad : Nat → Nat) (cA : Nat → ClassId) (nF : Nat) (u0 : ac_U)  (hR : ac_R rg u0) (hK_MS : msI u0) (hK_BI : bfI u0) (hK_AP : apI u0) (hK_AB : abI u0) : ac_Mv l yX12_back (.code yX12_back cX12_back 2 none :: TB) 1 (dC, dI) vwCl (ac_ty cA) ad cA (TT nF) [.ref (ad 85)] u0 (fun (u : ac_U) => ac_R rg u ∧ ac_Fr [(87, none)] u0 u ∧ msI u ∧ bfI u ∧ apI u ∧ abI u ∧ (cdI u0 → cdI u) ∧ (unI u0 → unI u) ∧ (auI u0 → auI u) ∧ (hxI u0 → hxI u)) := by
  refine ac_Mv.of (cc := cX12_back) (maxL := 2) (ret := none) (by decide) rfl (Nat.le_of_ble_eq_true rfl) ?_
  intro p e s m below meth c A ls F hml hr hlocks hA hP hD hS hl
  have F : ac_X p s m [.ref (ad 85)].toArray c cX12_back RX12 TB (dC, dI) vwCl (ac_ty cA) := ⟨F.1, F.2.1, fun w h => F.2.2.1 w (List.mem_cons_of_mem _ h), F.2.2.2.1, F.2.2.2.2⟩
  have hl : lv_has ls 2 [(0, .ref (ad 85))] := hl
  have hF : ac_Fr [(87, none)] u0 u0 := ac_Fr.rf
  have hK_i_CW : (fun u => cdI u0 → cdI u) u0 := fun h => h
  have hK_i_UI : (fun u => unI u0 → unI u) u0 := fun h => h
  have hK_i_AU : (fun u => auI u0 → auI u) u0 := fun h => h
  have hK_i_HX : (fun u => hxI u0 → hxI u) u0 := fun h => h
  have L2 : ∀ (n2 : Nat) (x1 : Int32) (u : ac_U) (H : Heap) (locs : List Loc) (ls : Array Slot), ac_R rg u → ac_Fr [(87, none)] u0 u → 370 - x1.toInt < (n2 : Int) → msI u → bfI u → apI u → abI u → (fun u => cdI u0 → cdI u) u → (fun u => unI u0 → unI u) u → (fun u => auI u0 → auI u) u → (fun u => hxI u0 → hxI u) u → (0 : Int) ≤ x1.toInt ∧ x1.toInt ≤ 370 → va_P (dC, dI) vwCl (ac_w ad cA (TT nF) u) H → va_D A (ac_w ad cA (TT nF) u) → va_S A s.heap H locs → lv_has ls 2 [(0, .ref (ad 85)), (1, .int x1)] → W p l e (ac_rm 1) s m [.ref (ad 85)].toArray below meth c H locs 0 0 (MQ below (va_Qv (fun (u : ac_U) => ac_R rg u ∧ ac_Fr [(87, none)] u0 u ∧ msI u ∧ bfI u ∧ apI u ∧ abI u ∧ (cdI u0 → cdI u) ∧ (unI u0 → unI u) ∧ (auI u0 → auI u) ∧ (hxI u0 → hxI u)) (ac_B (dC, dI) vwCl (ac_ty cA) ad cA (TT nF) A) A) [.ref (ad 85)].toArray s 0 0 A) (F0 m 2 ls []) := by
    intro n2
    induction n2 with
    | zero => intro x1 u H locs ls hR hF hn2 hK_MS hK_BI hK_AP hK_AB hK_i_CW hK_i_UI hK_i_AU hK_i_HX f0 hP hD hS hl; exfalso; omega
    | succ n2 ih2 =>
      intro x1 u H locs ls hR hF hn2 hK_MS hK_BI hK_AP hK_AB hK_i_CW hK_i_UI hK_i_AU hK_i_HX f0 hP hD hS hl
      refine lv_iload_n F.1 F.2.1 dX12_back_2 rfl (lv_at hl 1 rfl) ?_
      refine a_sp F (370 : Int32) dX12_back_3 (by decide) ?_
      refine b_ge F 30 dX12_back_6 (by decide) rfl ic_370 (fun c1 => ?_) (fun c1 => ?_)
      · exact a_retv F hr hlocks hP hD hS dX12_back_30 ⟨hR, hF, hK_MS, hK_BI, hK_AP, hK_AB, hK_i_CW, hK_i_UI, hK_i_AU, hK_i_HX⟩
      · refine lv_aload_n F.1 F.2.1 dX12_back_9 rfl (lv_at hl 0 rfl) ?_
        refine a_getr F inX12 hP 85 6 tc_85 rfl rfl (by decide) q1477 (fun _ h9 => h9) dX12_back_10 ?_
        refine a_bp F (106 : Int32) dX12_back_13 (by decide) ?_
        refine lv_iload_n F.1 F.2.1 dX12_back_15 rfl (lv_at hl 1 rfl) ?_
        refine a_iadd F dX12_back_16 ic_106 rfl (by omega) (fun v2 hv2 => ?_)
        refine lv_aload_n F.1 F.2.1 dX12_back_17 rfl (lv_at hl 0 rfl) ?_
        refine a_getr F inX12 hP 85 23 tc_85 rfl rfl (by decide) q1494 (fun _ h9 => h9) dX12_back_18 ?_
        refine lv_iload_n F.1 F.2.1 dX12_back_21 rfl (lv_at hl 1 rfl) ?_
        refine a_iald F hP 94 tc_94 rfl (i_in rfl (by omega)) dX12_back_22 (fun v3 ev3 => ?_)
        refine a_iast F hP hD hS 87 tc_87 rfl (i_in rfl (by omega)) dX12_back_23 (fun H locs hP hD hS => ?_)
        have hR := hR.si (c := 87) (k := v2.toNatClampNeg) (v := v3) (cp_el hR ev3 (rg_u3 (by omega) (by omega)).2)
        have hF := hF.si (c := 87) (k := v2.toNatClampNeg) (v := v3) rfl
        have hO_MS := hK_MS
        have hO_BI := hK_BI
        have hO_AP := hK_AP
        have hO_AB := hK_AB
        have hO_i_CW := hK_i_CW
        have hO_i_UI := hK_i_UI
        have hO_i_AU := hK_i_AU
        have hO_i_HX := hK_i_HX
        have hK_MS := ms_w hO_MS (i := v2) (v := v3) (by omega) (fun q9 => bf_get hO_BI ev3 (by omega))
        have hK_BI := sp_si sp_BI hK_BI (c := 87) (k := v2.toNatClampNeg) (v := v3) (fun j9 h9 => by have q8 := sp_mem h9; simp at q8; have q9 := i_cl (x := v2) (by omega); omega)
        have hK_AP := ap_w hO_AP (i := v2) (v := v3) (by omega) (fun q9 => ab_get hO_AB ev3 (by omega))
        have hK_AB := sp_si sp_AB hK_AB (c := 87) (k := v2.toNatClampNeg) (v := v3) (fun j9 h9 => by have q8 := sp_mem h9; simp at q8; have q9 := i_cl (x := v2) (by omega); omega)
        have hK_i_CW := sp_si (sp_imp sp_CW) hK_i_CW (c := 87) (k := v2.toNatClampNeg) (v := v3) (fun j9 h9 => by have q8 := sp_mem h9; simp at q8; have q9 := i_cl (x := v2) (by omega); omega)
        have hK_i_UI := sp_si (sp_imp sp_UI) hK_i_UI (c := 87) (k := v2.toNatClampNeg) (v := v3) (fun j9 h9 => by have q8 := sp_mem h9; simp at q8; have q9 := i_cl (x := v2) (by omega); omega)
        have hK_i_AU := sp_si (sp_imp sp_AU) hK_i_AU (c := 87) (k := v2.toNatClampNeg) (v := v3) (fun j9 h9 => by have q8 := sp_mem h9; simp at q8; have q9 := i_cl (x := v2) (by omega); omega)
        have hK_i_HX := sp_si (sp_imp sp_HX) hK_i_HX (c := 87) (k := v2.toNatClampNeg) (v := v3) (fun j9 h9 => by have q8 := sp_mem h9; simp at q8; have q9 := i_cl (x := v2) (by omega); omega)
        refine a_iinc F (k := 1) (fun v4 => [(1, .int v4), (0, .ref (ad 85))]) dX12_back_24 hl rfl rfl (by decide) (by omega) (by decide) (fun _ => rfl) (fun v4 ls hv4 hl => ?_)
        refine lv_goto (tgt := 2) F.1 F.2.1 dX12_back_27 (by decide) ?_
        exact ih2 v4 _ _ _ _ hR hF (by omega) hK_MS hK_BI hK_AP hK_AB hK_i_CW hK_i_UI hK_i_AU hK_i_HX (by omega) hP hD hS (lv_sub hl [1, 0] rfl)
  refine a_ic F (0 : Int32) dX12_back_0 (by decide) ?_
  refine lv_istore_n (lv' := [(1, .int (0 : Int32)), (0, .ref (ad 85))]) F.1 F.2.1 dX12_back_1 rfl hl (by decide) rfl (fun ls hl => ?_)
  exact L2 372 (0 : Int32) _ _ _ _ hR hF (by decide) hK_MS hK_BI hK_AP hK_AB hK_i_CW hK_i_UI hK_i_AU hK_i_HX (by decide) hP hD hS (lv_sub hl [1, 0] rfl)
set_option maxHeartbeats 600000 in
set_option maxRecDepth 100000 in
theorem c_X12_goes_85__4 (l : Launch) (dC : Nat → ClassId) (dI : Nat → Nat → Nat) (ad : Nat → Nat) (cA : Nat → ClassId) (nF : Nat) (u0 : ac_U) (p0 : Int32) (p1 : Int32) (hR : ac_R rg u0) (hp0 : (0 : Int) ≤ p0.toInt ∧ p0.toInt ≤ 3) (hp1 : (0 : Int) ≤ p1.toInt ∧ p1.toInt ≤ 7) (hg0 : p1.toInt < (u0.1 87 1).toInt) (hK_AP : apI u0) : ac_Mv l yX12_goes (.code yX12_goes cX12_goes 3 none :: TB) 1 (dC, dI) vwCl (ac_ty cA) ad cA (TT nF) [.ref (ad 85), .int p0, .int p1] u0 (fun (u : ac_U) => ac_R rg u ∧ ac_Fr [(87, none)] u0 u ∧ ((u.1 87 106).toInt = (u0.1 87 106).toInt ∧ (u.1 87 0).toInt = (u0.1 87 0).toInt) ∧ apI u ∧ (msI u0 → msI u) ∧ (cdI u0 → cdI u) ∧ (unI u0 → unI u) ∧ (bfI u0 → bfI u) ∧ (auI u0 → auI u) ∧ (abI u0 → abI u) ∧ (bgI u0 → bgI u) ∧ (hxI u0 → hxI u)) := by
  refine ac_Mv.of (cc := cX12_goes) (maxL := 3) (ret := none) (by decide) rfl (Nat.le_of_ble_eq_true rfl) ?_
  intro p e s m below meth c A ls F hml hr hlocks hA hP hD hS hl
  have F : ac_X p s m [.ref (ad 85), .int p0, .int p1].toArray c cX12_goes RX12 TB (dC, dI) vwCl (ac_ty cA) := ⟨F.1, F.2.1, fun w h => F.2.2.1 w (List.mem_cons_of_mem _ h), F.2.2.2.1, F.2.2.2.2⟩
  have hl : lv_has ls 3 [(0, .ref (ad 85)), (1, .int p0), (2, .int p1)] := hl
  have hF : ac_Fr [(87, none)] u0 u0 := ac_Fr.rf
  have hK_i_MS : (fun u => msI u0 → msI u) u0 := fun h => h
  have hK_i_CW : (fun u => cdI u0 → cdI u) u0 := fun h => h
  have hK_i_UI : (fun u => unI u0 → unI u) u0 := fun h => h
  have hK_i_BI : (fun u => bfI u0 → bfI u) u0 := fun h => h
  have hK_i_AU : (fun u => auI u0 → auI u) u0 := fun h => h
  have hK_i_AB : (fun u => abI u0 → abI u) u0 := fun h => h
  have hK_i_BG : (fun u => bgI u0 → bgI u) u0 := fun h => h
  have hK_i_HX : (fun u => hxI u0 → hxI u) u0 := fun h => h
  have hg9 : 0 ≤ (u0.1 87 1).toInt ∧ (u0.1 87 1).toInt ≤ 8 := hR 87 1
  refine lv_aload_n F.1 F.2.1 dX12_goes_0 rfl (lv_at hl 0 rfl) ?_
  refine a_getr F inX12 hP 85 6 tc_85 rfl rfl (by decide) q1477 (fun _ h9 => h9) dX12_goes_1 ?_
  refine a_bp F (107 : Int32) dX12_goes_4 (by decide) ?_
  refine lv_iload_n F.1 F.2.1 dX12_goes_6 rfl (lv_at hl 1 rfl) ?_
  refine a_iadd F dX12_goes_7 ic_107 rfl (by omega) (fun v2 hv2 => ?_)
  refine lv_iload_n F.1 F.2.1 dX12_goes_8 rfl (lv_at hl 2 rfl) ?_
  have g3 : (4 : Int) ≤ (u0.1 87 0).toInt ∧ (u0.1 87 0).toInt ≤ 24 := hR 87 0
  have g4 : (0 : Int) ≤ (u0.1 87 106).toInt ∧ (u0.1 87 106).toInt ≤ 480 := hR 87 106
  refine a_iast F hP hD hS 87 tc_87 rfl (i_in rfl (by omega)) dX12_goes_9 (fun H locs hP hD hS => ?_)
  have hR := hR.si (c := 87) (k := v2.toNatClampNeg) (v := p1) (rs_87_107_110 (by omega) (by omega : (0 : Int) ≤ p1.toInt ∧ p1.toInt ≤ 7))
  have hF := hF.si (c := 87) (k := v2.toNatClampNeg) (v := p1) rfl
  have hO_AP := hK_AP
  have hO_i_MS := hK_i_MS
  have hO_i_CW := hK_i_CW
  have hO_i_UI := hK_i_UI
  have hO_i_BI := hK_i_BI
  have hO_i_AU := hK_i_AU
  have hO_i_AB := hK_i_AB
  have hO_i_BG := hK_i_BG
  have hO_i_HX := hK_i_HX
  have hK_AP := ap_w hO_AP (i := v2) (v := p1) (by omega) (fun _ => at_lt (rfl) (by omega))
  have hK_i_MS := sp_si (sp_imp sp_MS) hK_i_MS (c := 87) (k := v2.toNatClampNeg) (v := p1) (fun j9 h9 => by have q8 := sp_mem h9; simp at q8; have q9 := i_cl (x := v2) (by omega); omega)
  have hK_i_CW := sp_si (sp_imp sp_CW) hK_i_CW (c := 87) (k := v2.toNatClampNeg) (v := p1) (fun j9 h9 => by have q8 := sp_mem h9; simp at q8; have q9 := i_cl (x := v2) (by omega); omega)
  have hK_i_UI := sp_si (sp_imp sp_UI) hK_i_UI (c := 87) (k := v2.toNatClampNeg) (v := p1) (fun j9 h9 => by have q8 := sp_mem h9; simp at q8; have q9 := i_cl (x := v2) (by omega); omega)
  have hK_i_BI := sp_si (sp_imp sp_BI) hK_i_BI (c := 87) (k := v2.toNatClampNeg) (v := p1) (fun j9 h9 => by have q8 := sp_mem h9; simp at q8; have q9 := i_cl (x := v2) (by omega); omega)
  have hK_i_AU := sp_si (sp_imp sp_AU) hK_i_AU (c := 87) (k := v2.toNatClampNeg) (v := p1) (fun j9 h9 => by have q8 := sp_mem h9; simp at q8; have q9 := i_cl (x := v2) (by omega); omega)
  have hK_i_AB := sp_si (sp_imp sp_AB) hK_i_AB (c := 87) (k := v2.toNatClampNeg) (v := p1) (fun j9 h9 => by have q8 := sp_mem h9; simp at q8; have q9 := i_cl (x := v2) (by omega); omega)
  have hK_i_BG := sp_si (sp_imp sp_BG) hK_i_BG (c := 87) (k := v2.toNatClampNeg) (v := p1) (fun j9 h9 => by have q8 := sp_mem h9; simp at q8; have q9 := i_cl (x := v2) (by omega); omega)
  have hK_i_HX := sp_si (sp_imp sp_HX) hK_i_HX (c := 87) (k := v2.toNatClampNeg) (v := p1) (fun j9 h9 => by have q8 := sp_mem h9; simp at q8; have q9 := i_cl (x := v2) (by omega); omega)
  refine lv_aload_n F.1 F.2.1 dX12_goes_10 rfl (lv_at hl 0 rfl) ?_
  refine a_getr F inX12 hP 85 6 tc_85 rfl rfl (by decide) q1477 (fun _ h9 => h9) dX12_goes_11 ?_
  refine a_bp F (111 : Int32) dX12_goes_14 (by decide) ?_
  refine lv_iload_n F.1 F.2.1 dX12_goes_16 rfl (lv_at hl 1 rfl) ?_
  refine a_iadd F dX12_goes_17 ic_111 rfl (by omega) (fun v5 hv5 => ?_)
  refine a_ic F (1 : Int32) dX12_goes_18 (by decide) ?_
  refine a_iast F hP hD hS 87 tc_87 rfl (i_in rfl (by omega)) dX12_goes_19 (fun H locs hP hD hS => ?_)
  have hR := hR.si (c := 87) (k := v5.toNatClampNeg) (v := (1 : Int32)) (rs_87_111_114 (by omega) ⟨i_lo _, i_hi _⟩)
  have hF := hF.si (c := 87) (k := v5.toNatClampNeg) (v := (1 : Int32)) rfl
  have hK_AP := sp_si sp_AP hK_AP (c := 87) (k := v5.toNatClampNeg) (v := (1 : Int32)) (fun j9 h9 => by have q8 := sp_mem h9; simp at q8; have q9 := i_cl (x := v5) (by omega); omega)
  have hK_i_MS := sp_si (sp_imp sp_MS) hK_i_MS (c := 87) (k := v5.toNatClampNeg) (v := (1 : Int32)) (fun j9 h9 => by have q8 := sp_mem h9; simp at q8; have q9 := i_cl (x := v5) (by omega); omega)
  have hK_i_CW := sp_si (sp_imp sp_CW) hK_i_CW (c := 87) (k := v5.toNatClampNeg) (v := (1 : Int32)) (fun j9 h9 => by have q8 := sp_mem h9; simp at q8; have q9 := i_cl (x := v5) (by omega); omega)
  have hK_i_UI := sp_si (sp_imp sp_UI) hK_i_UI (c := 87) (k := v5.toNatClampNeg) (v := (1 : Int32)) (fun j9 h9 => by have q8 := sp_mem h9; simp at q8; have q9 := i_cl (x := v5) (by omega); omega)
  have hK_i_BI := sp_si (sp_imp sp_BI) hK_i_BI (c := 87) (k := v5.toNatClampNeg) (v := (1 : Int32)) (fun j9 h9 => by have q8 := sp_mem h9; simp at q8; have q9 := i_cl (x := v5) (by omega); omega)
  have hK_i_AU := sp_si (sp_imp sp_AU) hK_i_AU (c := 87) (k := v5.toNatClampNeg) (v := (1 : Int32)) (fun j9 h9 => by have q8 := sp_mem h9; simp at q8; have q9 := i_cl (x := v5) (by omega); omega)
  have hK_i_AB := sp_si (sp_imp sp_AB) hK_i_AB (c := 87) (k := v5.toNatClampNeg) (v := (1 : Int32)) (fun j9 h9 => by have q8 := sp_mem h9; simp at q8; have q9 := i_cl (x := v5) (by omega); omega)
  have hK_i_BG := sp_si (sp_imp sp_BG) hK_i_BG (c := 87) (k := v5.toNatClampNeg) (v := (1 : Int32)) (fun j9 h9 => by have q8 := sp_mem h9; simp at q8; have q9 := i_cl (x := v5) (by omega); omega)
  have hK_i_HX := sp_si (sp_imp sp_HX) hK_i_HX (c := 87) (k := v5.toNatClampNeg) (v := (1 : Int32)) (fun j9 h9 => by have q8 := sp_mem h9; simp at q8; have q9 := i_cl (x := v5) (by omega); omega)
  refine lv_aload_n F.1 F.2.1 dX12_goes_20 rfl (lv_at hl 0 rfl) ?_
  refine a_getr F inX12 hP 85 6 tc_85 rfl rfl (by decide) q1477 (fun _ h9 => h9) dX12_goes_21 ?_
  refine a_bp F (119 : Int32) dX12_goes_24 (by decide) ?_
  refine lv_iload_n F.1 F.2.1 dX12_goes_26 rfl (lv_at hl 1 rfl) ?_
  refine a_iadd F dX12_goes_27 ic_119 rfl (by omega) (fun v6 hv6 => ?_)
  refine lv_dup2_11 F.1 F.2.1 dX12_goes_28 rfl rfl ?_
  refine a_iald F hP 87 tc_87 rfl (i_in rfl (by omega)) dX12_goes_29 (fun v7 ev7 => ?_)
  refine a_ic F (1 : Int32) dX12_goes_30 (by decide) ?_
  refine a_iaddU F dX12_goes_31 (fun v8 => ?_)
  refine a_iast F hP hD hS 87 tc_87 rfl (i_in rfl (by omega)) dX12_goes_32 (fun H locs hP hD hS => ?_)
  have hR := hR.si (c := 87) (k := v6.toNatClampNeg) (v := v8) (rs_87_119_122 (by omega) ⟨i_lo _, i_hi _⟩)
  have hF := hF.si (c := 87) (k := v6.toNatClampNeg) (v := v8) rfl
  have hK_AP := sp_si sp_AP hK_AP (c := 87) (k := v6.toNatClampNeg) (v := v8) (fun j9 h9 => by have q8 := sp_mem h9; simp at q8; have q9 := i_cl (x := v6) (by omega); omega)
  have hK_i_MS := sp_si (sp_imp sp_MS) hK_i_MS (c := 87) (k := v6.toNatClampNeg) (v := v8) (fun j9 h9 => by have q8 := sp_mem h9; simp at q8; have q9 := i_cl (x := v6) (by omega); omega)
  have hK_i_CW := sp_si (sp_imp sp_CW) hK_i_CW (c := 87) (k := v6.toNatClampNeg) (v := v8) (fun j9 h9 => by have q8 := sp_mem h9; simp at q8; have q9 := i_cl (x := v6) (by omega); omega)
  have hK_i_UI := sp_si (sp_imp sp_UI) hK_i_UI (c := 87) (k := v6.toNatClampNeg) (v := v8) (fun j9 h9 => by have q8 := sp_mem h9; simp at q8; have q9 := i_cl (x := v6) (by omega); omega)
  have hK_i_BI := sp_si (sp_imp sp_BI) hK_i_BI (c := 87) (k := v6.toNatClampNeg) (v := v8) (fun j9 h9 => by have q8 := sp_mem h9; simp at q8; have q9 := i_cl (x := v6) (by omega); omega)
  have hK_i_AU := sp_si (sp_imp sp_AU) hK_i_AU (c := 87) (k := v6.toNatClampNeg) (v := v8) (fun j9 h9 => by have q8 := sp_mem h9; simp at q8; have q9 := i_cl (x := v6) (by omega); omega)
  have hK_i_AB := sp_si (sp_imp sp_AB) hK_i_AB (c := 87) (k := v6.toNatClampNeg) (v := v8) (fun j9 h9 => by have q8 := sp_mem h9; simp at q8; have q9 := i_cl (x := v6) (by omega); omega)
  have hK_i_BG := sp_si (sp_imp sp_BG) hK_i_BG (c := 87) (k := v6.toNatClampNeg) (v := v8) (fun j9 h9 => by have q8 := sp_mem h9; simp at q8; have q9 := i_cl (x := v6) (by omega); omega)
  have hK_i_HX := sp_si (sp_imp sp_HX) hK_i_HX (c := 87) (k := v6.toNatClampNeg) (v := v8) (fun j9 h9 => by have q8 := sp_mem h9; simp at q8; have q9 := i_cl (x := v6) (by omega); omega)
  exact a_retv F hr hlocks hP hD hS dX12_goes_33 ⟨hR, hF, ⟨congrArg Int32.toInt ((ac_ne (c := 87) (k := 106) (i := v6) (by have q9 := i_cl (x := v6) (by omega); omega)).trans ((ac_ne (c := 87) (k := 106) (i := v5) (by have q9 := i_cl (x := v5) (by omega); omega)).trans (ac_ne (c := 87) (k := 106) (i := v2) (by have q9 := i_cl (x := v2) (by omega); omega)))), congrArg Int32.toInt ((ac_ne (c := 87) (k := 0) (i := v6) (by have q9 := i_cl (x := v6) (by omega); omega)).trans ((ac_ne (c := 87) (k := 0) (i := v5) (by have q9 := i_cl (x := v5) (by omega); omega)).trans (ac_ne (c := 87) (k := 0) (i := v2) (by have q9 := i_cl (x := v2) (by omega); omega))))⟩, hK_AP, hK_i_MS, hK_i_CW, hK_i_UI, hK_i_BI, hK_i_AU, hK_i_AB, hK_i_BG, hK_i_HX⟩
set_option maxHeartbeats 600000 in
set_option maxRecDepth 100000 in
theorem c_X12_hour_85__4 (l : Launch) (dC : Nat → ClassId) (dI : Nat → Nat → Nat) (ad : Nat → Nat) (cA : Nat → ClassId) (nF : Nat) (u0 : ac_U)  (hR : ac_R rg u0) (hf_87_106 : (0 : Int) ≤ (u0.1 87 106).toInt ∧ (u0.1 87 106).toInt ≤ 479) (hr0 : (u0.1 87 106).toInt < 20 * (u0.1 87 0).toInt) (hK_MS : msI u0) : ac_Mv l yX12_hour (.code yX12_hour cX12_hour 2 none :: TB) 1 (dC, dI) vwCl (ac_ty cA) ad cA (TT nF) [.ref (ad 85)] u0 (fun (u : ac_U) => ac_R rg u ∧ ac_Fr [(87, none)] u0 u ∧ ((u.1 87 106).toInt = (u0.1 87 106).toInt + 1 ∧ (u.1 87 0).toInt = (u0.1 87 0).toInt) ∧ msI u ∧ (cdI u0 → cdI u) ∧ (unI u0 → unI u) ∧ (bfI u0 → bfI u) ∧ (apI u0 → apI u) ∧ (auI u0 → auI u) ∧ (abI u0 → abI u) ∧ (bgI u0 → bgI u) ∧ (hxI u0 → hxI u)) := by
  refine ac_Mv.of (cc := cX12_hour) (maxL := 2) (ret := none) (by decide) rfl (Nat.le_of_ble_eq_true rfl) ?_
  intro p e s m below meth c A ls F hml hr hlocks hA hP hD hS hl
  have F : ac_X p s m [.ref (ad 85)].toArray c cX12_hour RX12 TB (dC, dI) vwCl (ac_ty cA) := ⟨F.1, F.2.1, fun w h => F.2.2.1 w (List.mem_cons_of_mem _ h), F.2.2.2.1, F.2.2.2.2⟩
  have hl : lv_has ls 2 [(0, .ref (ad 85))] := hl
  have hF : ac_Fr [(87, none)] u0 u0 := ac_Fr.rf
  have hK_i_CW : (fun u => cdI u0 → cdI u) u0 := fun h => h
  have hK_i_UI : (fun u => unI u0 → unI u) u0 := fun h => h
  have hK_i_BI : (fun u => bfI u0 → bfI u) u0 := fun h => h
  have hK_i_AP : (fun u => apI u0 → apI u) u0 := fun h => h
  have hK_i_AU : (fun u => auI u0 → auI u) u0 := fun h => h
  have hK_i_AB : (fun u => abI u0 → abI u) u0 := fun h => h
  have hK_i_BG : (fun u => bgI u0 → bgI u) u0 := fun h => h
  have hK_i_HX : (fun u => hxI u0 → hxI u) u0 := fun h => h
  have L13 : ∀ (n13 : Nat) (x1 : Int32) (u : ac_U) (H : Heap) (locs : List Loc) (ls : Array Slot), ac_R rg u → ac_Fr [(87, none)] u0 u → 4 - x1.toInt < (n13 : Int) → msI u → (fun u => cdI u0 → cdI u) u → (fun u => unI u0 → unI u) u → (fun u => bfI u0 → bfI u) u → (fun u => apI u0 → apI u) u → (fun u => auI u0 → auI u) u → (fun u => abI u0 → abI u) u → (fun u => bgI u0 → bgI u) u → (fun u => hxI u0 → hxI u) u → (0 : Int) ≤ x1.toInt ∧ x1.toInt ≤ 4 → (1 : Int) ≤ (u.1 87 106).toInt ∧ (u.1 87 106).toInt ≤ 480 → (u.1 87 106).toInt = (u0.1 87 106).toInt + 1 → (u.1 87 0).toInt = (u0.1 87 0).toInt → va_P (dC, dI) vwCl (ac_w ad cA (TT nF) u) H → va_D A (ac_w ad cA (TT nF) u) → va_S A s.heap H locs → lv_has ls 2 [(0, .ref (ad 85)), (1, .int x1)] → W p l e (ac_rm 1) s m [.ref (ad 85)].toArray below meth c H locs 0 0 (MQ below (va_Qv (fun (u : ac_U) => ac_R rg u ∧ ac_Fr [(87, none)] u0 u ∧ ((u.1 87 106).toInt = (u0.1 87 106).toInt + 1 ∧ (u.1 87 0).toInt = (u0.1 87 0).toInt) ∧ msI u ∧ (cdI u0 → cdI u) ∧ (unI u0 → unI u) ∧ (bfI u0 → bfI u) ∧ (apI u0 → apI u) ∧ (auI u0 → auI u) ∧ (abI u0 → abI u) ∧ (bgI u0 → bgI u) ∧ (hxI u0 → hxI u)) (ac_B (dC, dI) vwCl (ac_ty cA) ad cA (TT nF) A) A) [.ref (ad 85)].toArray s 0 0 A) (F0 m 13 ls []) := by
    intro n13
    induction n13 with
    | zero => intro x1 u H locs ls hR hF hn13 hK_MS hK_i_CW hK_i_UI hK_i_BI hK_i_AP hK_i_AU hK_i_AB hK_i_BG hK_i_HX f0 f1 f2 f3 hP hD hS hl; exfalso; omega
    | succ n13 ih13 =>
      intro x1 u H locs ls hR hF hn13 hK_MS hK_i_CW hK_i_UI hK_i_BI hK_i_AP hK_i_AU hK_i_AB hK_i_BG hK_i_HX f0 f1 f2 f3 hP hD hS hl
      refine lv_iload_n F.1 F.2.1 dX12_hour_13 rfl (lv_at hl 1 rfl) ?_
      refine a_ic F (4 : Int32) dX12_hour_14 (by decide) ?_
      refine b_ge F 34 dX12_hour_15 (by decide) rfl ic_4 (fun c1 => ?_) (fun c1 => ?_)
      · have g2 : (0 : Int) ≤ (u.1 87 106).toInt ∧ (u.1 87 106).toInt ≤ 480 := hR 87 106
        have g3 : (4 : Int) ≤ (u.1 87 0).toInt ∧ (u.1 87 0).toInt ≤ 24 := hR 87 0
        exact a_retv F hr hlocks hP hD hS dX12_hour_34 ⟨hR, hF, (by omega : (u.1 87 106).toInt = (u0.1 87 106).toInt + 1 ∧ (u.1 87 0).toInt = (u0.1 87 0).toInt), hK_MS, hK_i_CW, hK_i_UI, hK_i_BI, hK_i_AP, hK_i_AU, hK_i_AB, hK_i_BG, hK_i_HX⟩
      · refine lv_aload_n F.1 F.2.1 dX12_hour_18 rfl (lv_at hl 0 rfl) ?_
        refine a_getr F inX12 hP 85 6 tc_85 rfl rfl (by decide) q1477 (fun _ h9 => h9) dX12_hour_19 ?_
        refine a_bp F (111 : Int32) dX12_hour_22 (by decide) ?_
        refine lv_iload_n F.1 F.2.1 dX12_hour_24 rfl (lv_at hl 1 rfl) ?_
        refine a_iadd F dX12_hour_25 ic_111 rfl (by omega) (fun v4 hv4 => ?_)
        refine a_ic F (0 : Int32) dX12_hour_26 (by decide) ?_
        have g5 : (0 : Int) ≤ (u.1 87 106).toInt ∧ (u.1 87 106).toInt ≤ 480 := hR 87 106
        have g6 : (4 : Int) ≤ (u.1 87 0).toInt ∧ (u.1 87 0).toInt ≤ 24 := hR 87 0
        refine a_iast F hP hD hS 87 tc_87 rfl (i_in rfl (by omega)) dX12_hour_27 (fun H locs hP hD hS => ?_)
        have hR := hR.si (c := 87) (k := v4.toNatClampNeg) (v := (0 : Int32)) (rs_87_111_114 (by omega) ⟨i_lo _, i_hi _⟩)
        have hF := hF.si (c := 87) (k := v4.toNatClampNeg) (v := (0 : Int32)) rfl
        have hK_MS := sp_si sp_MS hK_MS (c := 87) (k := v4.toNatClampNeg) (v := (0 : Int32)) (fun j9 h9 => by have q8 := sp_mem h9; simp at q8; have q9 := i_cl (x := v4) (by omega); omega)
        have hK_i_CW := sp_si (sp_imp sp_CW) hK_i_CW (c := 87) (k := v4.toNatClampNeg) (v := (0 : Int32)) (fun j9 h9 => by have q8 := sp_mem h9; simp at q8; have q9 := i_cl (x := v4) (by omega); omega)
        have hK_i_UI := sp_si (sp_imp sp_UI) hK_i_UI (c := 87) (k := v4.toNatClampNeg) (v := (0 : Int32)) (fun j9 h9 => by have q8 := sp_mem h9; simp at q8; have q9 := i_cl (x := v4) (by omega); omega)
        have hK_i_BI := sp_si (sp_imp sp_BI) hK_i_BI (c := 87) (k := v4.toNatClampNeg) (v := (0 : Int32)) (fun j9 h9 => by have q8 := sp_mem h9; simp at q8; have q9 := i_cl (x := v4) (by omega); omega)
        have hK_i_AP := sp_si (sp_imp sp_AP) hK_i_AP (c := 87) (k := v4.toNatClampNeg) (v := (0 : Int32)) (fun j9 h9 => by have q8 := sp_mem h9; simp at q8; have q9 := i_cl (x := v4) (by omega); omega)
        have hK_i_AU := sp_si (sp_imp sp_AU) hK_i_AU (c := 87) (k := v4.toNatClampNeg) (v := (0 : Int32)) (fun j9 h9 => by have q8 := sp_mem h9; simp at q8; have q9 := i_cl (x := v4) (by omega); omega)
        have hK_i_AB := sp_si (sp_imp sp_AB) hK_i_AB (c := 87) (k := v4.toNatClampNeg) (v := (0 : Int32)) (fun j9 h9 => by have q8 := sp_mem h9; simp at q8; have q9 := i_cl (x := v4) (by omega); omega)
        have hK_i_BG := sp_si (sp_imp sp_BG) hK_i_BG (c := 87) (k := v4.toNatClampNeg) (v := (0 : Int32)) (fun j9 h9 => by have q8 := sp_mem h9; simp at q8; have q9 := i_cl (x := v4) (by omega); omega)
        have hK_i_HX := sp_si (sp_imp sp_HX) hK_i_HX (c := 87) (k := v4.toNatClampNeg) (v := (0 : Int32)) (fun j9 h9 => by have q8 := sp_mem h9; simp at q8; have q9 := i_cl (x := v4) (by omega); omega)
        refine a_iinc F (k := 1) (fun v7 => [(1, .int v7), (0, .ref (ad 85))]) dX12_hour_28 hl rfl rfl (by decide) (by omega) (by decide) (fun _ => rfl) (fun v7 ls hv7 hl => ?_)
        refine lv_goto (tgt := 13) F.1 F.2.1 dX12_hour_31 (by decide) ?_
        exact ih13 v7 _ _ _ _ hR hF (by omega) hK_MS hK_i_CW hK_i_UI hK_i_BI hK_i_AP hK_i_AU hK_i_AB hK_i_BG hK_i_HX (by omega) (i_trB (ac_ne (c := 87) (k := 106) (i := v4) (by have q9 := i_cl (x := v4) (by omega); omega)) (by omega : (1 : Int) ≤ (u.1 87 106).toInt ∧ (u.1 87 106).toInt ≤ 480)) (by rw [ac_ne (c := 87) (k := 106) (i := v4) (by have q9 := i_cl (x := v4) (by omega); omega)]; exact (by omega : (u.1 87 106).toInt = (u0.1 87 106).toInt + 1)) (by rw [ac_ne (c := 87) (k := 0) (i := v4) (by have q9 := i_cl (x := v4) (by omega); omega)]; exact (by omega : (u.1 87 0).toInt = (u0.1 87 0).toInt)) hP hD hS (lv_sub hl [1, 0] rfl)
  refine lv_aload_n F.1 F.2.1 dX12_hour_0 rfl (lv_at hl 0 rfl) ?_
  refine a_getr F inX12 hP 85 6 tc_85 rfl rfl (by decide) q1477 (fun _ h9 => h9) dX12_hour_1 ?_
  refine a_bp F (106 : Int32) dX12_hour_4 (by decide) ?_
  refine lv_dup2_11 F.1 F.2.1 dX12_hour_6 rfl rfl ?_
  have g8 : (0 : Int) ≤ (u0.1 87 106).toInt ∧ (u0.1 87 106).toInt ≤ 480 := hR 87 106
  refine a_ialdK F hP 87 106 tc_87 rfl rfl (i_in ic_106 (by omega)) (v := (u0.1 87 106)) rfl dX12_hour_7 ?_
  refine a_ic F (1 : Int32) dX12_hour_8 (by decide) ?_
  refine a_iadd F dX12_hour_9 rfl ic_1 (by omega) (fun v9 hv9 => ?_)
  refine a_iastK F hP hD hS 87 106 tc_87 rfl rfl (i_in ic_106 (by omega)) dX12_hour_10 (fun H locs hP hD hS => ?_)
  have hR := hR.si (c := 87) (k := 106) (v := v9) (by omega : (0 : Int) ≤ v9.toInt ∧ v9.toInt ≤ 480)
  have hF := hF.si (c := 87) (k := 106) (v := v9) rfl
  have hO_MS := hK_MS
  have hO_i_CW := hK_i_CW
  have hO_i_UI := hK_i_UI
  have hO_i_BI := hK_i_BI
  have hO_i_AP := hK_i_AP
  have hO_i_AU := hK_i_AU
  have hO_i_AB := hK_i_AB
  have hO_i_BG := hK_i_BG
  have hO_i_HX := hK_i_HX
  have hK_MS := ms_t hO_MS (v := v9) (by omega)
  have hK_i_CW := sp_si (sp_imp sp_CW) hK_i_CW (c := 87) (k := 106) (v := v9) (fun j9 h9 q9 => by rw [q9] at h9; exact absurd h9 (by decide))
  have hK_i_UI := sp_si (sp_imp sp_UI) hK_i_UI (c := 87) (k := 106) (v := v9) (fun j9 h9 q9 => by rw [q9] at h9; exact absurd h9 (by decide))
  have hK_i_BI := sp_si (sp_imp sp_BI) hK_i_BI (c := 87) (k := 106) (v := v9) (fun j9 h9 q9 => by rw [q9] at h9; exact absurd h9 (by decide))
  have hK_i_AP := sp_si (sp_imp sp_AP) hK_i_AP (c := 87) (k := 106) (v := v9) (fun j9 h9 q9 => by rw [q9] at h9; exact absurd h9 (by decide))
  have hK_i_AU := sp_si (sp_imp sp_AU) hK_i_AU (c := 87) (k := 106) (v := v9) (fun j9 h9 q9 => by rw [q9] at h9; exact absurd h9 (by decide))
  have hK_i_AB := sp_si (sp_imp sp_AB) hK_i_AB (c := 87) (k := 106) (v := v9) (fun j9 h9 q9 => by rw [q9] at h9; exact absurd h9 (by decide))
  have hK_i_BG := sp_si (sp_imp sp_BG) hK_i_BG (c := 87) (k := 106) (v := v9) (fun j9 h9 q9 => by rw [q9] at h9; exact absurd h9 (by decide))
  have hK_i_HX := sp_si (sp_imp sp_HX) hK_i_HX (c := 87) (k := 106) (v := v9) (fun j9 h9 q9 => by rw [q9] at h9; exact absurd h9 (by decide))
  refine a_ic F (0 : Int32) dX12_hour_11 (by decide) ?_
  refine lv_istore_n (lv' := [(1, .int (0 : Int32)), (0, .ref (ad 85))]) F.1 F.2.1 dX12_hour_12 rfl hl (by decide) rfl (fun ls hl => ?_)
  have g10 : (4 : Int) ≤ (u0.1 87 0).toInt ∧ (u0.1 87 0).toInt ≤ 24 := hR 87 0
  exact L13 6 (0 : Int32) _ _ _ _ hR hF (by decide) hK_MS hK_i_CW hK_i_UI hK_i_BI hK_i_AP hK_i_AU hK_i_AB hK_i_BG hK_i_HX (by decide) (by omega : (1 : Int) ≤ v9.toInt ∧ v9.toInt ≤ 480) (by omega : v9.toInt = (u0.1 87 106).toInt + 1) (by omega : (u0.1 87 0).toInt = (u0.1 87 0).toInt) hP hD hS (lv_sub hl [1, 0] rfl)
set_option maxHeartbeats 600000 in
set_option maxRecDepth 100000 in
theorem c_X12_says_85__4 (l : Launch) (dC : Nat → ClassId) (dI : Nat → Nat → Nat) (ad : Nat → Nat) (cA : Nat → ClassId) (nF : Nat) (u0 : ac_U) (p0 : Int32) (p1 : Int32) (hR : ac_R rg u0) (hp0 : (0 : Int) ≤ p0.toInt ∧ p0.toInt ≤ 3) (hp1 : (0 : Int) ≤ p1.toInt ∧ p1.toInt ≤ 7) : ac_Mv l yX12_says (.code yX12_says cX12_says 4 none :: TB) 1 (dC, dI) vwCl (ac_ty cA) ad cA (TT nF) [.ref (ad 85), .int p0, .int p1] u0 (fun (u : ac_U) => ac_R rg u ∧ ac_Fr [(87, none)] u0 u ∧ ((u.1 87 106).toInt = (u0.1 87 106).toInt ∧ (u.1 87 0).toInt = (u0.1 87 0).toInt) ∧ (msI u0 → msI u) ∧ (cdI u0 → cdI u) ∧ (unI u0 → unI u) ∧ (bfI u0 → bfI u) ∧ (apI u0 → apI u) ∧ (auI u0 → auI u) ∧ (abI u0 → abI u) ∧ (bgI u0 → bgI u) ∧ (hxI u0 → hxI u)) := by
  refine ac_Mv.of (cc := cX12_says) (maxL := 4) (ret := none) (by decide) rfl (Nat.le_of_ble_eq_true rfl) ?_
  intro p e s m below meth c A ls F hml hr hlocks hA hP hD hS hl
  have F : ac_X p s m [.ref (ad 85), .int p0, .int p1].toArray c cX12_says RX12 TB (dC, dI) vwCl (ac_ty cA) := ⟨F.1, F.2.1, fun w h => F.2.2.1 w (List.mem_cons_of_mem _ h), F.2.2.2.1, F.2.2.2.2⟩
  have hl : lv_has ls 4 [(0, .ref (ad 85)), (1, .int p0), (2, .int p1)] := hl
  have hF : ac_Fr [(87, none)] u0 u0 := ac_Fr.rf
  have hK_TM : (tmI u0) u0 := ⟨rfl, rfl⟩
  have hK_i_MS : (fun u => msI u0 → msI u) u0 := fun h => h
  have hK_i_CW : (fun u => cdI u0 → cdI u) u0 := fun h => h
  have hK_i_UI : (fun u => unI u0 → unI u) u0 := fun h => h
  have hK_i_BI : (fun u => bfI u0 → bfI u) u0 := fun h => h
  have hK_i_AP : (fun u => apI u0 → apI u) u0 := fun h => h
  have hK_i_AU : (fun u => auI u0 → auI u) u0 := fun h => h
  have hK_i_AB : (fun u => abI u0 → abI u) u0 := fun h => h
  have hK_i_BG : (fun u => bgI u0 → bgI u) u0 := fun h => h
  have hK_i_HX : (fun u => hxI u0 → hxI u) u0 := fun h => h
  have L39 : ∀ (n39 : Nat) (x3 : Int32) (u : ac_U) (H : Heap) (locs : List Loc) (ls : Array Slot), ac_R rg u → ac_Fr [(87, none)] u0 u → 6 - x3.toInt < (n39 : Int) → (tmI u0) u → (fun u => msI u0 → msI u) u → (fun u => cdI u0 → cdI u) u → (fun u => unI u0 → unI u) u → (fun u => bfI u0 → bfI u) u → (fun u => apI u0 → apI u) u → (fun u => auI u0 → auI u) u → (fun u => abI u0 → abI u) u → (fun u => bgI u0 → bgI u) u → (fun u => hxI u0 → hxI u) u → (0 : Int) ≤ x3.toInt ∧ x3.toInt ≤ 6 → va_P (dC, dI) vwCl (ac_w ad cA (TT nF) u) H → va_D A (ac_w ad cA (TT nF) u) → va_S A s.heap H locs → lv_has ls 4 [(0, .ref (ad 85)), (1, .int p0), (2, .int p1), (3, .int x3)] → W p l e (ac_rm 1) s m [.ref (ad 85), .int p0, .int p1].toArray below meth c H locs 0 0 (MQ below (va_Qv (fun (u : ac_U) => ac_R rg u ∧ ac_Fr [(87, none)] u0 u ∧ ((u.1 87 106).toInt = (u0.1 87 106).toInt ∧ (u.1 87 0).toInt = (u0.1 87 0).toInt) ∧ (msI u0 → msI u) ∧ (cdI u0 → cdI u) ∧ (unI u0 → unI u) ∧ (bfI u0 → bfI u) ∧ (apI u0 → apI u) ∧ (auI u0 → auI u) ∧ (abI u0 → abI u) ∧ (bgI u0 → bgI u) ∧ (hxI u0 → hxI u)) (ac_B (dC, dI) vwCl (ac_ty cA) ad cA (TT nF) A) A) [.ref (ad 85), .int p0, .int p1].toArray s 0 0 A) (F0 m 39 ls []) := by
    intro n39
    induction n39 with
    | zero => intro x3 u H locs ls hR hF hn39 hK_TM hK_i_MS hK_i_CW hK_i_UI hK_i_BI hK_i_AP hK_i_AU hK_i_AB hK_i_BG hK_i_HX f0 hP hD hS hl; exfalso; omega
    | succ n39 ih39 =>
      intro x3 u H locs ls hR hF hn39 hK_TM hK_i_MS hK_i_CW hK_i_UI hK_i_BI hK_i_AP hK_i_AU hK_i_AB hK_i_BG hK_i_HX f0 hP hD hS hl
      have L81 : ∀ (x3 : Int32) (u : ac_U) (H : Heap) (locs : List Loc) (ls : Array Slot), ac_R rg u → ac_Fr [(87, none)] u0 u → (tmI u0) u → (fun u => msI u0 → msI u) u → (fun u => cdI u0 → cdI u) u → (fun u => unI u0 → unI u) u → (fun u => bfI u0 → bfI u) u → (fun u => apI u0 → apI u) u → (fun u => auI u0 → auI u) u → (fun u => abI u0 → abI u) u → (fun u => bgI u0 → bgI u) u → (fun u => hxI u0 → hxI u) u → (0 : Int) ≤ x3.toInt ∧ x3.toInt ≤ 5 → (1 : Int) ≤ (u.1 87 3).toInt ∧ (u.1 87 3).toInt ≤ 6 → 6 - x3.toInt + 0 < ((n39 : Nat) : Int) + 1 → va_P (dC, dI) vwCl (ac_w ad cA (TT nF) u) H → va_D A (ac_w ad cA (TT nF) u) → va_S A s.heap H locs → lv_has ls 4 [(0, .ref (ad 85)), (1, .int p0), (2, .int p1), (3, .int x3)] → W p l e (ac_rm 1) s m [.ref (ad 85), .int p0, .int p1].toArray below meth c H locs 0 0 (MQ below (va_Qv (fun (u : ac_U) => ac_R rg u ∧ ac_Fr [(87, none)] u0 u ∧ ((u.1 87 106).toInt = (u0.1 87 106).toInt ∧ (u.1 87 0).toInt = (u0.1 87 0).toInt) ∧ (msI u0 → msI u) ∧ (cdI u0 → cdI u) ∧ (unI u0 → unI u) ∧ (bfI u0 → bfI u) ∧ (apI u0 → apI u) ∧ (auI u0 → auI u) ∧ (abI u0 → abI u) ∧ (bgI u0 → bgI u) ∧ (hxI u0 → hxI u)) (ac_B (dC, dI) vwCl (ac_ty cA) ad cA (TT nF) A) A) [.ref (ad 85), .int p0, .int p1].toArray s 0 0 A) (F0 m 81 ls []) := by
        intro x3 u H locs ls hR hF hK_TM hK_i_MS hK_i_CW hK_i_UI hK_i_BI hK_i_AP hK_i_AU hK_i_AB hK_i_BG hK_i_HX f0 f1 f2 hP hD hS hl
        refine a_iinc F (k := 3) (fun v1 => [(3, .int v1), (0, .ref (ad 85)), (1, .int p0), (2, .int p1)]) dX12_says_81 hl rfl rfl (by decide) (by omega) (by decide) (fun _ => rfl) (fun v1 ls hv1 hl => ?_)
        refine lv_goto (tgt := 39) F.1 F.2.1 dX12_says_84 (by decide) ?_
        exact ih39 v1 _ _ _ _ hR hF (by omega) hK_TM hK_i_MS hK_i_CW hK_i_UI hK_i_BI hK_i_AP hK_i_AU hK_i_AB hK_i_BG hK_i_HX (by omega) hP hD hS (lv_sub hl [1, 2, 3, 0] rfl)
      refine lv_iload_n F.1 F.2.1 dX12_says_39 rfl (lv_at hl 3 rfl) ?_
      refine lv_aload_n F.1 F.2.1 dX12_says_40 rfl (lv_at hl 0 rfl) ?_
      refine a_getr F inX12 hP 85 6 tc_85 rfl rfl (by decide) q1477 (fun _ h9 => h9) dX12_says_41 ?_
      refine a_ic F (3 : Int32) dX12_says_44 (by decide) ?_
      have g2 : (0 : Int) ≤ (u.1 87 3).toInt ∧ (u.1 87 3).toInt ≤ 6 := hR 87 3
      refine a_ialdK F hP 87 3 tc_87 rfl rfl (i_in ic_3 (by omega)) (v := (u.1 87 3)) rfl dX12_says_45 ?_
      refine b_ge F 87 dX12_says_46 (by decide) rfl rfl (fun c3 => ?_) (fun c3 => ?_)
      · exact a_retv F hr hlocks hP hD hS dX12_says_87 ⟨hR, hF, ⟨congrArg Int32.toInt hK_TM.1, congrArg Int32.toInt hK_TM.2⟩, hK_i_MS, hK_i_CW, hK_i_UI, hK_i_BI, hK_i_AP, hK_i_AU, hK_i_AB, hK_i_BG, hK_i_HX⟩
      · refine lv_aload_n F.1 F.2.1 dX12_says_49 rfl (lv_at hl 0 rfl) ?_
        refine a_getr F inX12 hP 85 6 tc_85 rfl rfl (by decide) q1477 (fun _ h9 => h9) dX12_says_50 ?_
        refine a_bp F (16 : Int32) dX12_says_53 (by decide) ?_
        refine lv_iload_n F.1 F.2.1 dX12_says_55 rfl (lv_at hl 3 rfl) ?_
        refine a_iadd F dX12_says_56 ic_16 rfl (by omega) (fun v4 hv4 => ?_)
        refine a_iald F hP 87 tc_87 rfl (i_in rfl (by omega)) dX12_says_57 (fun v5 ev5 => ?_)
        have hv5 : (0 : Int) ≤ v5.toInt ∧ v5.toInt ≤ 7 := rg_seg_87_16_21 hR ev5 (by omega)
        refine lv_aload_n F.1 F.2.1 dX12_says_58 rfl (lv_at hl 0 rfl) ?_
        refine a_getr F inX12 hP 85 6 tc_85 rfl rfl (by decide) q1477 (fun _ h9 => h9) dX12_says_59 ?_
        refine a_bp F (107 : Int32) dX12_says_62 (by decide) ?_
        refine lv_iload_n F.1 F.2.1 dX12_says_64 rfl (lv_at hl 1 rfl) ?_
        refine a_iadd F dX12_says_65 ic_107 rfl (by omega) (fun v6 hv6 => ?_)
        refine a_iald F hP 87 tc_87 rfl (i_in rfl (by omega)) dX12_says_66 (fun v7 ev7 => ?_)
        have hv7 : (0 : Int) ≤ v7.toInt ∧ v7.toInt ≤ 7 := rg_seg_87_107_110 hR ev7 (by omega)
        refine b_ne F 81 dX12_says_67 (by decide) rfl rfl (fun c8 => ?_) (fun c8 => ?_)
        · exact L81 x3 _ _ _ _ hR hF hK_TM hK_i_MS hK_i_CW hK_i_UI hK_i_BI hK_i_AP hK_i_AU hK_i_AB hK_i_BG hK_i_HX (by omega) (by omega : (1 : Int) ≤ (u.1 87 3).toInt ∧ (u.1 87 3).toInt ≤ 6) (by omega) hP hD hS (lv_sub hl [0, 1, 2, 3] rfl)
        · refine lv_aload_n F.1 F.2.1 dX12_says_70 rfl (lv_at hl 0 rfl) ?_
          refine a_getr F inX12 hP 85 6 tc_85 rfl rfl (by decide) q1477 (fun _ h9 => h9) dX12_says_71 ?_
          refine a_sp F (132 : Int32) dX12_says_74 (by decide) ?_
          refine lv_iload_n F.1 F.2.1 dX12_says_77 rfl (lv_at hl 2 rfl) ?_
          refine a_iadd F dX12_says_78 ic_132 rfl (by omega) (fun v9 hv9 => ?_)
          refine a_ic F (1 : Int32) dX12_says_79 (by decide) ?_
          refine a_iast F hP hD hS 87 tc_87 rfl (i_in rfl (by omega)) dX12_says_80 (fun H locs hP hD hS => ?_)
          have hR := hR.si (c := 87) (k := v9.toNatClampNeg) (v := (1 : Int32)) (rs_87_132_139 (by omega) ⟨i_lo _, i_hi _⟩)
          have hF := hF.si (c := 87) (k := v9.toNatClampNeg) (v := (1 : Int32)) rfl
          have hK_TM := sp_si (sp_tm _) hK_TM (c := 87) (k := v9.toNatClampNeg) (v := (1 : Int32)) (fun j9 h9 => by have q8 := sp_mem h9; simp at q8; have q9 := i_cl (x := v9) (by omega); omega)
          have hK_i_MS := sp_si (sp_imp sp_MS) hK_i_MS (c := 87) (k := v9.toNatClampNeg) (v := (1 : Int32)) (fun j9 h9 => by have q8 := sp_mem h9; simp at q8; have q9 := i_cl (x := v9) (by omega); omega)
          have hK_i_CW := sp_si (sp_imp sp_CW) hK_i_CW (c := 87) (k := v9.toNatClampNeg) (v := (1 : Int32)) (fun j9 h9 => by have q8 := sp_mem h9; simp at q8; have q9 := i_cl (x := v9) (by omega); omega)
          have hK_i_UI := sp_si (sp_imp sp_UI) hK_i_UI (c := 87) (k := v9.toNatClampNeg) (v := (1 : Int32)) (fun j9 h9 => by have q8 := sp_mem h9; simp at q8; have q9 := i_cl (x := v9) (by omega); omega)
          have hK_i_BI := sp_si (sp_imp sp_BI) hK_i_BI (c := 87) (k := v9.toNatClampNeg) (v := (1 : Int32)) (fun j9 h9 => by have q8 := sp_mem h9; simp at q8; have q9 := i_cl (x := v9) (by omega); omega)
          have hK_i_AP := sp_si (sp_imp sp_AP) hK_i_AP (c := 87) (k := v9.toNatClampNeg) (v := (1 : Int32)) (fun j9 h9 => by have q8 := sp_mem h9; simp at q8; have q9 := i_cl (x := v9) (by omega); omega)
          have hK_i_AU := sp_si (sp_imp sp_AU) hK_i_AU (c := 87) (k := v9.toNatClampNeg) (v := (1 : Int32)) (fun j9 h9 => by have q8 := sp_mem h9; simp at q8; have q9 := i_cl (x := v9) (by omega); omega)
          have hK_i_AB := sp_si (sp_imp sp_AB) hK_i_AB (c := 87) (k := v9.toNatClampNeg) (v := (1 : Int32)) (fun j9 h9 => by have q8 := sp_mem h9; simp at q8; have q9 := i_cl (x := v9) (by omega); omega)
          have hK_i_BG := sp_si (sp_imp sp_BG) hK_i_BG (c := 87) (k := v9.toNatClampNeg) (v := (1 : Int32)) (fun j9 h9 => by have q8 := sp_mem h9; simp at q8; have q9 := i_cl (x := v9) (by omega); omega)
          have hK_i_HX := sp_si (sp_imp sp_HX) hK_i_HX (c := 87) (k := v9.toNatClampNeg) (v := (1 : Int32)) (fun j9 h9 => by have q8 := sp_mem h9; simp at q8; have q9 := i_cl (x := v9) (by omega); omega)
          exact L81 x3 _ _ _ _ hR hF hK_TM hK_i_MS hK_i_CW hK_i_UI hK_i_BI hK_i_AP hK_i_AU hK_i_AB hK_i_BG hK_i_HX (by omega) (i_trB (ac_ne (c := 87) (k := 3) (i := v9) (by have q9 := i_cl (x := v9) (by omega); omega)) (by omega : (1 : Int) ≤ (u.1 87 3).toInt ∧ (u.1 87 3).toInt ≤ 6)) (by omega) hP hD hS (lv_sub hl [0, 1, 2, 3] rfl)
  refine lv_aload_n F.1 F.2.1 dX12_says_0 rfl (lv_at hl 0 rfl) ?_
  refine a_getr F inX12 hP 85 6 tc_85 rfl rfl (by decide) q1477 (fun _ h9 => h9) dX12_says_1 ?_
  refine a_bp F (124 : Int32) dX12_says_4 (by decide) ?_
  refine lv_iload_n F.1 F.2.1 dX12_says_6 rfl (lv_at hl 2 rfl) ?_
  refine a_iadd F dX12_says_7 ic_124 rfl (by omega) (fun v10 hv10 => ?_)
  refine lv_aload_n F.1 F.2.1 dX12_says_8 rfl (lv_at hl 0 rfl) ?_
  refine a_getr F inX12 hP 85 6 tc_85 rfl rfl (by decide) q1477 (fun _ h9 => h9) dX12_says_9 ?_
  refine a_bp F (106 : Int32) dX12_says_12 (by decide) ?_
  have g11 : (0 : Int) ≤ (u0.1 87 106).toInt ∧ (u0.1 87 106).toInt ≤ 480 := hR 87 106
  refine a_ialdK F hP 87 106 tc_87 rfl rfl (i_in ic_106 (by omega)) (v := (u0.1 87 106)) rfl dX12_says_14 ?_
  refine a_ic F (1 : Int32) dX12_says_15 (by decide) ?_
  refine a_iadd F dX12_says_16 rfl ic_1 (by omega) (fun v12 hv12 => ?_)
  refine a_iast F hP hD hS 87 tc_87 rfl (i_in rfl (by omega)) dX12_says_17 (fun H locs hP hD hS => ?_)
  have hR := hR.si (c := 87) (k := v10.toNatClampNeg) (v := v12) (rs_87_124_131 (by omega) (by omega : (0 : Int) ≤ v12.toInt ∧ v12.toInt ≤ 481))
  have hF := hF.si (c := 87) (k := v10.toNatClampNeg) (v := v12) rfl
  have hK_TM := sp_si (sp_tm _) hK_TM (c := 87) (k := v10.toNatClampNeg) (v := v12) (fun j9 h9 => by have q8 := sp_mem h9; simp at q8; have q9 := i_cl (x := v10) (by omega); omega)
  have hK_i_MS := sp_si (sp_imp sp_MS) hK_i_MS (c := 87) (k := v10.toNatClampNeg) (v := v12) (fun j9 h9 => by have q8 := sp_mem h9; simp at q8; have q9 := i_cl (x := v10) (by omega); omega)
  have hK_i_CW := sp_si (sp_imp sp_CW) hK_i_CW (c := 87) (k := v10.toNatClampNeg) (v := v12) (fun j9 h9 => by have q8 := sp_mem h9; simp at q8; have q9 := i_cl (x := v10) (by omega); omega)
  have hK_i_UI := sp_si (sp_imp sp_UI) hK_i_UI (c := 87) (k := v10.toNatClampNeg) (v := v12) (fun j9 h9 => by have q8 := sp_mem h9; simp at q8; have q9 := i_cl (x := v10) (by omega); omega)
  have hK_i_BI := sp_si (sp_imp sp_BI) hK_i_BI (c := 87) (k := v10.toNatClampNeg) (v := v12) (fun j9 h9 => by have q8 := sp_mem h9; simp at q8; have q9 := i_cl (x := v10) (by omega); omega)
  have hK_i_AP := sp_si (sp_imp sp_AP) hK_i_AP (c := 87) (k := v10.toNatClampNeg) (v := v12) (fun j9 h9 => by have q8 := sp_mem h9; simp at q8; have q9 := i_cl (x := v10) (by omega); omega)
  have hK_i_AU := sp_si (sp_imp sp_AU) hK_i_AU (c := 87) (k := v10.toNatClampNeg) (v := v12) (fun j9 h9 => by have q8 := sp_mem h9; simp at q8; have q9 := i_cl (x := v10) (by omega); omega)
  have hK_i_AB := sp_si (sp_imp sp_AB) hK_i_AB (c := 87) (k := v10.toNatClampNeg) (v := v12) (fun j9 h9 => by have q8 := sp_mem h9; simp at q8; have q9 := i_cl (x := v10) (by omega); omega)
  have hK_i_BG := sp_si (sp_imp sp_BG) hK_i_BG (c := 87) (k := v10.toNatClampNeg) (v := v12) (fun j9 h9 => by have q8 := sp_mem h9; simp at q8; have q9 := i_cl (x := v10) (by omega); omega)
  have hK_i_HX := sp_si (sp_imp sp_HX) hK_i_HX (c := 87) (k := v10.toNatClampNeg) (v := v12) (fun j9 h9 => by have q8 := sp_mem h9; simp at q8; have q9 := i_cl (x := v10) (by omega); omega)
  refine lv_aload_n F.1 F.2.1 dX12_says_18 rfl (lv_at hl 0 rfl) ?_
  refine a_getr F inX12 hP 85 6 tc_85 rfl rfl (by decide) q1477 (fun _ h9 => h9) dX12_says_19 ?_
  refine a_sp F (140 : Int32) dX12_says_22 (by decide) ?_
  refine lv_iload_n F.1 F.2.1 dX12_says_25 rfl (lv_at hl 2 rfl) ?_
  refine a_iadd F dX12_says_26 ic_140 rfl (by omega) (fun v13 hv13 => ?_)
  refine lv_aload_n F.1 F.2.1 dX12_says_27 rfl (lv_at hl 0 rfl) ?_
  refine a_getr F inX12 hP 85 6 tc_85 rfl rfl (by decide) q1477 (fun _ h9 => h9) dX12_says_28 ?_
  refine a_bp F (107 : Int32) dX12_says_31 (by decide) ?_
  refine lv_iload_n F.1 F.2.1 dX12_says_33 rfl (lv_at hl 1 rfl) ?_
  refine a_iadd F dX12_says_34 ic_107 rfl (by omega) (fun v14 hv14 => ?_)
  refine a_iald F hP 87 tc_87 rfl (i_in rfl (by omega)) dX12_says_35 (fun v15 ev15 => ?_)
  have hv15 : (0 : Int) ≤ v15.toInt ∧ v15.toInt ≤ 7 := rg_seg_87_107_110 hR ev15 (by omega)
  refine a_iast F hP hD hS 87 tc_87 rfl (i_in rfl (by omega)) dX12_says_36 (fun H locs hP hD hS => ?_)
  have hR := hR.si (c := 87) (k := v13.toNatClampNeg) (v := v15) (rs_87_140_147 (by omega) ⟨i_lo _, i_hi _⟩)
  have hF := hF.si (c := 87) (k := v13.toNatClampNeg) (v := v15) rfl
  have hK_TM := sp_si (sp_tm _) hK_TM (c := 87) (k := v13.toNatClampNeg) (v := v15) (fun j9 h9 => by have q8 := sp_mem h9; simp at q8; have q9 := i_cl (x := v13) (by omega); omega)
  have hK_i_MS := sp_si (sp_imp sp_MS) hK_i_MS (c := 87) (k := v13.toNatClampNeg) (v := v15) (fun j9 h9 => by have q8 := sp_mem h9; simp at q8; have q9 := i_cl (x := v13) (by omega); omega)
  have hK_i_CW := sp_si (sp_imp sp_CW) hK_i_CW (c := 87) (k := v13.toNatClampNeg) (v := v15) (fun j9 h9 => by have q8 := sp_mem h9; simp at q8; have q9 := i_cl (x := v13) (by omega); omega)
  have hK_i_UI := sp_si (sp_imp sp_UI) hK_i_UI (c := 87) (k := v13.toNatClampNeg) (v := v15) (fun j9 h9 => by have q8 := sp_mem h9; simp at q8; have q9 := i_cl (x := v13) (by omega); omega)
  have hK_i_BI := sp_si (sp_imp sp_BI) hK_i_BI (c := 87) (k := v13.toNatClampNeg) (v := v15) (fun j9 h9 => by have q8 := sp_mem h9; simp at q8; have q9 := i_cl (x := v13) (by omega); omega)
  have hK_i_AP := sp_si (sp_imp sp_AP) hK_i_AP (c := 87) (k := v13.toNatClampNeg) (v := v15) (fun j9 h9 => by have q8 := sp_mem h9; simp at q8; have q9 := i_cl (x := v13) (by omega); omega)
  have hK_i_AU := sp_si (sp_imp sp_AU) hK_i_AU (c := 87) (k := v13.toNatClampNeg) (v := v15) (fun j9 h9 => by have q8 := sp_mem h9; simp at q8; have q9 := i_cl (x := v13) (by omega); omega)
  have hK_i_AB := sp_si (sp_imp sp_AB) hK_i_AB (c := 87) (k := v13.toNatClampNeg) (v := v15) (fun j9 h9 => by have q8 := sp_mem h9; simp at q8; have q9 := i_cl (x := v13) (by omega); omega)
  have hK_i_BG := sp_si (sp_imp sp_BG) hK_i_BG (c := 87) (k := v13.toNatClampNeg) (v := v15) (fun j9 h9 => by have q8 := sp_mem h9; simp at q8; have q9 := i_cl (x := v13) (by omega); omega)
  have hK_i_HX := sp_si (sp_imp sp_HX) hK_i_HX (c := 87) (k := v13.toNatClampNeg) (v := v15) (fun j9 h9 => by have q8 := sp_mem h9; simp at q8; have q9 := i_cl (x := v13) (by omega); omega)
  refine a_ic F (0 : Int32) dX12_says_37 (by decide) ?_
  refine lv_istore_n (lv' := [(3, .int (0 : Int32)), (0, .ref (ad 85)), (1, .int p0), (2, .int p1)]) F.1 F.2.1 dX12_says_38 rfl hl (by decide) rfl (fun ls hl => ?_)
  exact L39 8 (0 : Int32) _ _ _ _ hR hF (by decide) hK_TM hK_i_MS hK_i_CW hK_i_UI hK_i_BI hK_i_AP hK_i_AU hK_i_AB hK_i_BG hK_i_HX (by decide) hP hD hS (lv_sub hl [1, 2, 3, 0] rfl)
set_option maxHeartbeats 600000 in
set_option maxRecDepth 100000 in
theorem c_X12_lives_85__3 (l : Launch) (dC : Nat → ClassId) (dI : Nat → Nat → Nat) (ad : Nat → Nat) (cA : Nat → ClassId) (nF : Nat) (u0 : ac_U) (p0 : Int32) (hR : ac_R rg u0) (hp0 : (0 : Int) ≤ p0.toInt ∧ p0.toInt ≤ 117) (hg0 : p0.toInt < 3 * (u0.1 85 35).toInt ∧ p0.toInt % 3 = 0) (hK_MS : msI u0) (hK_AP : apI u0) (hK_BLI : blI u0) (hK_BG : bgI u0) : ac_Mi l yX12_lives (.code yX12_lives cX12_lives 6 (some .int) :: TB) 3 (dC, dI) vwCl (ac_ty cA) ad cA (TT nF) [.ref (ad 85), .int p0] u0 (fun (r : Int32) (u : ac_U) => ac_R rg u ∧ ac_Fr [(87, none)] u0 u ∧ ((0 : Int) ≤ r.toInt ∧ r.toInt ≤ 6) ∧ msI u ∧ apI u ∧ (cdI u0 → cdI u) ∧ (unI u0 → unI u) ∧ (bfI u0 → bfI u) ∧ (auI u0 → auI u) ∧ (abI u0 → abI u) ∧ (bgI u0 → bgI u) ∧ (hxI u0 → hxI u)) := by
  refine ac_Mi.of (cc := cX12_lives) (maxL := 6) (ret := (some .int)) (by decide) rfl (Nat.le_of_ble_eq_true rfl) ?_
  intro p e s m below meth c A ls F hml hr hlocks hA hP hD hS hl
  have F : ac_X p s m [.ref (ad 85), .int p0].toArray c cX12_lives RX12 TB (dC, dI) vwCl (ac_ty cA) := ⟨F.1, F.2.1, fun w h => F.2.2.1 w (List.mem_cons_of_mem _ h), F.2.2.2.1, F.2.2.2.2⟩
  have hl : lv_has ls 6 [(0, .ref (ad 85)), (1, .int p0)] := hl
  have hF : ac_Fr [(87, none)] u0 u0 := ac_Fr.rf
  have hK_i_CW : (fun u => cdI u0 → cdI u) u0 := fun h => h
  have hK_i_UI : (fun u => unI u0 → unI u) u0 := fun h => h
  have hK_i_BI : (fun u => bfI u0 → bfI u) u0 := fun h => h
  have hK_i_AU : (fun u => auI u0 → auI u) u0 := fun h => h
  have hK_i_AB : (fun u => abI u0 → abI u) u0 := fun h => h
  have hK_i_BG : (fun u => bgI u0 → bgI u) u0 := fun h => h
  have hK_i_HX : (fun u => hxI u0 → hxI u) u0 := fun h => h
  have L143 : ∀ (n143 : Nat) (x2 : Int32) (x5 : Int32) (u : ac_U) (H : Heap) (locs : List Loc) (ls : Array Slot), ac_R rg u → ac_Fr [(87, none)] u0 u → 99 - x5.toInt < (n143 : Int) → msI u → apI u → (fun u => cdI u0 → cdI u) u → (fun u => unI u0 → unI u) u → (fun u => bfI u0 → bfI u) u → (fun u => auI u0 → auI u) u → (fun u => abI u0 → abI u) u → (fun u => bgI u0 → bgI u) u → (fun u => hxI u0 → hxI u) u → (0 : Int) ≤ x2.toInt ∧ x2.toInt ≤ 99 → (0 : Int) ≤ x5.toInt ∧ x5.toInt ≤ 99 → (u.1 87 106).toInt + x2.toInt - x5.toInt ≤ 20 * (u.1 87 0).toInt → va_P (dC, dI) vwCl (ac_w ad cA (TT nF) u) H → va_D A (ac_w ad cA (TT nF) u) → va_S A s.heap H locs → lv_has ls 6 [(0, .ref (ad 85)), (2, .int x2), (5, .int x5)] → W p l e (ac_rm 3) s m [.ref (ad 85), .int p0].toArray below meth c H locs 0 0 (MQ below (va_Qi (fun (r : Int32) (u : ac_U) => ac_R rg u ∧ ac_Fr [(87, none)] u0 u ∧ ((0 : Int) ≤ r.toInt ∧ r.toInt ≤ 6) ∧ msI u ∧ apI u ∧ (cdI u0 → cdI u) ∧ (unI u0 → unI u) ∧ (bfI u0 → bfI u) ∧ (auI u0 → auI u) ∧ (abI u0 → abI u) ∧ (bgI u0 → bgI u) ∧ (hxI u0 → hxI u)) (ac_B (dC, dI) vwCl (ac_ty cA) ad cA (TT nF) A) A) [.ref (ad 85), .int p0].toArray s 0 0 A) (F0 m 143 ls []) := by
    intro n143
    induction n143 with
    | zero => intro x2 x5 u H locs ls hR hF hn143 hK_MS hK_AP hK_i_CW hK_i_UI hK_i_BI hK_i_AU hK_i_AB hK_i_BG hK_i_HX f0 f1 f2 hP hD hS hl; exfalso; omega
    | succ n143 ih143 =>
      intro x2 x5 u H locs ls hR hF hn143 hK_MS hK_AP hK_i_CW hK_i_UI hK_i_BI hK_i_AU hK_i_AB hK_i_BG hK_i_HX f0 f1 f2 hP hD hS hl
      refine lv_iload F.1 F.2.1 dX12_lives_143 (lv_at hl 2 rfl) ?_
      refine lv_iload_n F.1 F.2.1 dX12_lives_145 rfl (lv_at hl 1 rfl) ?_
      refine b_ge F 159 dX12_lives_146 (by decide) rfl rfl (fun c1 => ?_) (fun c1 => ?_)
      · refine a_ic F (0 : Int32) dX12_lives_159 (by decide) ?_
        exact a_reti F hr hlocks hP hD hS dX12_lives_160 ⟨hR, hF, (by decide), hK_MS, hK_AP, hK_i_CW, hK_i_UI, hK_i_BI, hK_i_AU, hK_i_AB, hK_i_BG, hK_i_HX⟩
      · refine lv_aload_n F.1 F.2.1 dX12_lives_149 rfl (lv_at hl 0 rfl) ?_
        have hO2 : (u.1 87 106).toInt ≤ 20 * (u.1 87 0).toInt := hK_MS.1
        have hQ2 : 4 ≤ (u.1 87 0).toInt ∧ (u.1 87 0).toInt ≤ 24 := hR 87 0
        have hW2 : 0 ≤ (u.1 87 106).toInt ∧ (u.1 87 106).toInt ≤ 480 := hR 87 106
        have g3 : (0 : Int) ≤ (u.1 87 106).toInt ∧ (u.1 87 106).toInt ≤ 480 := hR 87 106
        have g4 : (4 : Int) ≤ (u.1 87 0).toInt ∧ (u.1 87 0).toInt ≤ 24 := hR 87 0
        refine a_Vv F hml hl.1 hA hP hD hS (As := []) (c_X12_hour_85__4 l dC dI ad cA nF _  hR (by omega : (0 : Int) ≤ (u.1 87 106).toInt ∧ (u.1 87 106).toInt ≤ 479) (by omega : (u.1 87 106).toInt < 20 * (u.1 87 0).toInt) hK_MS) (cs_RX12_292 (d := 1) F.2.2.1 (by decide)) tc_85 rfl rfl rfl rfl (Nat.le_of_ble_eq_true rfl) dX12_lives_150 ⟨Nat.le_refl 0, Nat.le_refl 0⟩ (fun u5 H locs hq hP hD hS => ?_)
        obtain ⟨hR, hF5, xr5, hK_MS, hJ5_CW, hJ5_UI, hJ5_BI, hJ5_AP, hJ5_AU, hJ5_AB, hJ5_BG, hJ5_HX⟩ := hq
        have hF := hF.tr hF5 (by decide)
        have hK_AP := hJ5_AP hK_AP
        have hK_i_CW : (fun u => cdI u0 → cdI u) u5 := fun h => hJ5_CW (hK_i_CW h)
        have hK_i_UI : (fun u => unI u0 → unI u) u5 := fun h => hJ5_UI (hK_i_UI h)
        have hK_i_BI : (fun u => bfI u0 → bfI u) u5 := fun h => hJ5_BI (hK_i_BI h)
        have hK_i_AU : (fun u => auI u0 → auI u) u5 := fun h => hJ5_AU (hK_i_AU h)
        have hK_i_AB : (fun u => abI u0 → abI u) u5 := fun h => hJ5_AB (hK_i_AB h)
        have hK_i_BG : (fun u => bgI u0 → bgI u) u5 := fun h => hJ5_BG (hK_i_BG h)
        have hK_i_HX : (fun u => hxI u0 → hxI u) u5 := fun h => hJ5_HX (hK_i_HX h)
        have g6 : (0 : Int) ≤ (u5.1 87 106).toInt ∧ (u5.1 87 106).toInt ≤ 480 := hR 87 106
        have g7 : (4 : Int) ≤ (u5.1 87 0).toInt ∧ (u5.1 87 0).toInt ≤ 24 := hR 87 0
        have xr5 : (u5.1 87 106).toInt = (u.1 87 106).toInt + 1 ∧ (u5.1 87 0).toInt = (u.1 87 0).toInt := xr5
        refine a_iinc F (k := 2) (fun v8 => [(5, .int v8), (0, .ref (ad 85)), (2, .int x2)]) dX12_lives_153 hl rfl rfl (by decide) (by omega) (by decide) (fun _ => rfl) (fun v8 ls hv8 hl => ?_)
        refine lv_goto (tgt := 143) F.1 F.2.1 dX12_lives_156 (by decide) ?_
        exact ih143 x2 v8 _ _ _ _ hR hF (by omega) hK_MS hK_AP hK_i_CW hK_i_UI hK_i_BI hK_i_AU hK_i_AB hK_i_BG hK_i_HX (by omega) (by omega) (by omega : (u5.1 87 106).toInt + x2.toInt - v8.toInt ≤ 20 * (u5.1 87 0).toInt) hP hD hS (lv_sub hl [1, 2, 0] rfl)
  have L114 : ∀ (x4 : Int32) (u : ac_U) (H : Heap) (locs : List Loc) (ls : Array Slot), ac_R rg u → ac_Fr [(87, none)] u0 u → msI u → apI u → (fun u => cdI u0 → cdI u) u → (fun u => unI u0 → unI u) u → (fun u => bfI u0 → bfI u) u → (fun u => auI u0 → auI u) u → (fun u => abI u0 → abI u) u → (fun u => bgI u0 → bgI u) u → (fun u => hxI u0 → hxI u) u → (0 : Int) ≤ x4.toInt ∧ x4.toInt ≤ 6 → va_P (dC, dI) vwCl (ac_w ad cA (TT nF) u) H → va_D A (ac_w ad cA (TT nF) u) → va_S A s.heap H locs → lv_has ls 6 [(4, .int x4)] → W p l e (ac_rm 3) s m [.ref (ad 85), .int p0].toArray below meth c H locs 0 0 (MQ below (va_Qi (fun (r : Int32) (u : ac_U) => ac_R rg u ∧ ac_Fr [(87, none)] u0 u ∧ ((0 : Int) ≤ r.toInt ∧ r.toInt ≤ 6) ∧ msI u ∧ apI u ∧ (cdI u0 → cdI u) ∧ (unI u0 → unI u) ∧ (bfI u0 → bfI u) ∧ (auI u0 → auI u) ∧ (abI u0 → abI u) ∧ (bgI u0 → bgI u) ∧ (hxI u0 → hxI u)) (ac_B (dC, dI) vwCl (ac_ty cA) ad cA (TT nF) A) A) [.ref (ad 85), .int p0].toArray s 0 0 A) (F0 m 114 ls []) := by
    intro x4 u H locs ls hR hF hK_MS hK_AP hK_i_CW hK_i_UI hK_i_BI hK_i_AU hK_i_AB hK_i_BG hK_i_HX f0 hP hD hS hl
    refine lv_iload F.1 F.2.1 dX12_lives_114 (lv_at hl 0 rfl) ?_
    exact a_reti F hr hlocks hP hD hS dX12_lives_116 ⟨hR, hF, (by omega : (0 : Int) ≤ x4.toInt ∧ x4.toInt ≤ 6), hK_MS, hK_AP, hK_i_CW, hK_i_UI, hK_i_BI, hK_i_AU, hK_i_AB, hK_i_BG, hK_i_HX⟩
  have L92 : ∀ (x4 : Int32) (u : ac_U) (H : Heap) (locs : List Loc) (ls : Array Slot), ac_R rg u → ac_Fr [(87, none)] u0 u → msI u → apI u → (fun u => cdI u0 → cdI u) u → (fun u => unI u0 → unI u) u → (fun u => bfI u0 → bfI u) u → (fun u => auI u0 → auI u) u → (fun u => abI u0 → abI u) u → (fun u => bgI u0 → bgI u) u → (fun u => hxI u0 → hxI u) u → (0 : Int) ≤ x4.toInt ∧ x4.toInt ≤ 4 → va_P (dC, dI) vwCl (ac_w ad cA (TT nF) u) H → va_D A (ac_w ad cA (TT nF) u) → va_S A s.heap H locs → lv_has ls 6 [(4, .int x4)] → W p l e (ac_rm 3) s m [.ref (ad 85), .int p0].toArray below meth c H locs 0 0 (MQ below (va_Qi (fun (r : Int32) (u : ac_U) => ac_R rg u ∧ ac_Fr [(87, none)] u0 u ∧ ((0 : Int) ≤ r.toInt ∧ r.toInt ≤ 6) ∧ msI u ∧ apI u ∧ (cdI u0 → cdI u) ∧ (unI u0 → unI u) ∧ (bfI u0 → bfI u) ∧ (auI u0 → auI u) ∧ (abI u0 → abI u) ∧ (bgI u0 → bgI u) ∧ (hxI u0 → hxI u)) (ac_B (dC, dI) vwCl (ac_ty cA) ad cA (TT nF) A) A) [.ref (ad 85), .int p0].toArray s 0 0 A) (F0 m 92 ls []) := by
    intro x4 u H locs ls hR hF hK_MS hK_AP hK_i_CW hK_i_UI hK_i_BI hK_i_AU hK_i_AB hK_i_BG hK_i_HX f0 hP hD hS hl
    refine lv_iload F.1 F.2.1 dX12_lives_92 (lv_at hl 0 rfl) ?_
    exact a_reti F hr hlocks hP hD hS dX12_lives_94 ⟨hR, hF, (by omega : (0 : Int) ≤ x4.toInt ∧ x4.toInt ≤ 6), hK_MS, hK_AP, hK_i_CW, hK_i_UI, hK_i_BI, hK_i_AU, hK_i_AB, hK_i_BG, hK_i_HX⟩
  have L71 : ∀ (x4 : Int32) (u : ac_U) (H : Heap) (locs : List Loc) (ls : Array Slot), ac_R rg u → ac_Fr [(87, none)] u0 u → msI u → apI u → (fun u => cdI u0 → cdI u) u → (fun u => unI u0 → unI u) u → (fun u => bfI u0 → bfI u) u → (fun u => auI u0 → auI u) u → (fun u => abI u0 → abI u) u → (fun u => bgI u0 → bgI u) u → (fun u => hxI u0 → hxI u) u → (0 : Int) ≤ x4.toInt ∧ x4.toInt ≤ 3 → va_P (dC, dI) vwCl (ac_w ad cA (TT nF) u) H → va_D A (ac_w ad cA (TT nF) u) → va_S A s.heap H locs → lv_has ls 6 [(4, .int x4)] → W p l e (ac_rm 3) s m [.ref (ad 85), .int p0].toArray below meth c H locs 0 0 (MQ below (va_Qi (fun (r : Int32) (u : ac_U) => ac_R rg u ∧ ac_Fr [(87, none)] u0 u ∧ ((0 : Int) ≤ r.toInt ∧ r.toInt ≤ 6) ∧ msI u ∧ apI u ∧ (cdI u0 → cdI u) ∧ (unI u0 → unI u) ∧ (bfI u0 → bfI u) ∧ (auI u0 → auI u) ∧ (abI u0 → abI u) ∧ (bgI u0 → bgI u) ∧ (hxI u0 → hxI u)) (ac_B (dC, dI) vwCl (ac_ty cA) ad cA (TT nF) A) A) [.ref (ad 85), .int p0].toArray s 0 0 A) (F0 m 71 ls []) := by
    intro x4 u H locs ls hR hF hK_MS hK_AP hK_i_CW hK_i_UI hK_i_BI hK_i_AU hK_i_AB hK_i_BG hK_i_HX f0 hP hD hS hl
    refine lv_iload F.1 F.2.1 dX12_lives_71 (lv_at hl 0 rfl) ?_
    exact a_reti F hr hlocks hP hD hS dX12_lives_73 ⟨hR, hF, (by omega : (0 : Int) ≤ x4.toInt ∧ x4.toInt ≤ 6), hK_MS, hK_AP, hK_i_CW, hK_i_UI, hK_i_BI, hK_i_AU, hK_i_AB, hK_i_BG, hK_i_HX⟩
  refine lv_aload_n F.1 F.2.1 dX12_lives_0 rfl (lv_at hl 0 rfl) ?_
  refine a_getr F inX12 hP 85 8 tc_85 rfl rfl (by decide) q1479 (fun _ h9 => h9) dX12_lives_1 ?_
  refine lv_iload_n F.1 F.2.1 dX12_lives_4 rfl (lv_at hl 1 rfl) ?_
  refine a_ic F (1 : Int32) dX12_lives_5 (by decide) ?_
  refine a_iadd F dX12_lives_6 rfl ic_1 (by omega) (fun v9 hv9 => ?_)
  refine a_iald F hP 89 tc_89 rfl (i_in rfl (by omega)) dX12_lives_7 (fun v10 ev10 => ?_)
  have hm7 := bl_k hK_BLI (p := p0) (i := v9) (by omega) (by omega) ev10
  refine lv_istore_n (lv' := [(2, .int v10), (0, .ref (ad 85)), (1, .int p0)]) F.1 F.2.1 dX12_lives_8 rfl hl (by decide) rfl (fun ls hl => ?_)
  refine lv_aload_n F.1 F.2.1 dX12_lives_9 rfl (lv_at hl 1 rfl) ?_
  refine a_getr F inX12 hP 85 8 tc_85 rfl rfl (by decide) q1479 (fun _ h9 => h9) dX12_lives_10 ?_
  refine lv_iload_n F.1 F.2.1 dX12_lives_13 rfl (lv_at hl 2 rfl) ?_
  refine a_ic F (2 : Int32) dX12_lives_14 (by decide) ?_
  refine a_iadd F dX12_lives_15 rfl ic_2 (by omega) (fun v11 hv11 => ?_)
  refine a_iald F hP 89 tc_89 rfl (i_in rfl (by omega)) dX12_lives_16 (fun v12 ev12 => ?_)
  refine lv_istore_n (lv' := [(3, .int v12), (2, .int v10), (0, .ref (ad 85)), (1, .int p0)]) F.1 F.2.1 dX12_lives_17 rfl hl (by decide) rfl (fun ls hl => ?_)
  refine a_ic F (0 : Int32) dX12_lives_18 (by decide) ?_
  refine lv_istore (lv' := [(4, .int (0 : Int32)), (3, .int v12), (2, .int v10), (0, .ref (ad 85)), (1, .int p0)]) F.1 F.2.1 dX12_lives_19 hl (by decide) rfl (fun ls hl => ?_)
  refine lv_aload_n F.1 F.2.1 dX12_lives_21 rfl (lv_at hl 3 rfl) ?_
  refine a_getr F inX12 hP 85 8 tc_85 rfl rfl (by decide) q1479 (fun _ h9 => h9) dX12_lives_22 ?_
  refine lv_iload_n F.1 F.2.1 dX12_lives_25 rfl (lv_at hl 4 rfl) ?_
  refine a_iald F hP 89 tc_89 rfl (i_in rfl (by omega)) dX12_lives_26 (fun v13 ev13 => ?_)
  have hm9 := bl_get hK_BLI (p := p0) (i := v9) (j := v11) (by omega) (by omega) (by omega) ev13 ev10 ev12
  have hm8 := bg_get hK_BG (p := p0) (j := v11) (by omega) (by omega) ev13 ev12
  rcases (show (v13.toInt < 0 ∨ 2 < v13.toInt) ∨ v13.toInt = 0 ∨ v13.toInt = 1 ∨ v13.toInt = 2 by omega) with c14 | c14 | c14 | c14
  · refine lv_tableOut (tgt := 117) F.1 F.2.1 dX12_lives_27 c14 (by decide) ?_
    refine lv_aload_n F.1 F.2.1 dX12_lives_117 rfl (lv_at hl 3 rfl) ?_
    refine a_getr F inX12 hP 85 6 tc_85 rfl rfl (by decide) q1477 (fun _ h9 => h9) dX12_lives_118 ?_
    refine a_bp F (106 : Int32) dX12_lives_121 (by decide) ?_
    have g15 : (0 : Int) ≤ (u0.1 87 106).toInt ∧ (u0.1 87 106).toInt ≤ 480 := hR 87 106
    refine a_ialdK F hP 87 106 tc_87 rfl rfl (i_in ic_106 (by omega)) (v := (u0.1 87 106)) rfl dX12_lives_123 ?_
    refine lv_iload_n F.1 F.2.1 dX12_lives_124 rfl (lv_at hl 2 rfl) ?_
    refine a_iadd F dX12_lives_125 rfl rfl (by omega) (fun v16 hv16 => ?_)
    refine a_bp F (20 : Int32) dX12_lives_126 (by decide) ?_
    refine lv_aload_n F.1 F.2.1 dX12_lives_128 rfl (lv_at hl 3 rfl) ?_
    refine a_getr F inX12 hP 85 6 tc_85 rfl rfl (by decide) q1477 (fun _ h9 => h9) dX12_lives_129 ?_
    refine a_ic F (0 : Int32) dX12_lives_132 (by decide) ?_
    have g17 : (4 : Int) ≤ (u0.1 87 0).toInt ∧ (u0.1 87 0).toInt ≤ 24 := hR 87 0
    refine a_ialdK F hP 87 0 tc_87 rfl rfl (i_in ic_0 (by omega)) (v := (u0.1 87 0)) rfl dX12_lives_133 ?_
    refine a_imul F dX12_lives_134 ic_20 rfl (by omega) (fun v18 hv18 => ?_)
    refine b_le F 140 dX12_lives_135 (by decide) rfl rfl (fun c19 => ?_) (fun c19 => ?_)
    · refine a_ic F (0 : Int32) dX12_lives_140 (by decide) ?_
      refine lv_istore (lv' := [(5, .int (0 : Int32)), (4, .int (0 : Int32)), (3, .int v12), (2, .int v10), (0, .ref (ad 85)), (1, .int p0)]) F.1 F.2.1 dX12_lives_141 hl (by decide) rfl (fun ls hl => ?_)
      exact L143 101 v10 (0 : Int32) _ _ _ _ hR hF (by decide) hK_MS hK_AP hK_i_CW hK_i_UI hK_i_BI hK_i_AU hK_i_AB hK_i_BG hK_i_HX (by omega) (by decide) (by first | (rw [ic_0]; exact (by omega : (u0.1 87 106).toInt + v10.toInt - (0 : Int) ≤ 20 * (u0.1 87 0).toInt)) | rw [ic_0]) hP hD hS (lv_sub hl [4, 3, 0] rfl)
    · refine a_ic F (3 : Int32) dX12_lives_138 (by decide) ?_
      exact a_reti F hr hlocks hP hD hS dX12_lives_139 ⟨hR, hF, (by decide), hK_MS, hK_AP, hK_i_CW, hK_i_UI, hK_i_BI, hK_i_AU, hK_i_AB, hK_i_BG, hK_i_HX⟩
  · refine lv_tableIn (tgt := 52) F.1 F.2.1 dX12_lives_27 (by omega) (by omega) (by rw [c14]; rfl) (by decide) ?_
    refine lv_aload_n F.1 F.2.1 dX12_lives_52 rfl (lv_at hl 3 rfl) ?_
    refine lv_iload_n F.1 F.2.1 dX12_lives_53 rfl (lv_at hl 2 rfl) ?_
    refine lv_iload_n F.1 F.2.1 dX12_lives_54 rfl (lv_at hl 1 rfl) ?_
    refine a_Vi F hml hl.1 hA hP hD hS (As := [.int v10, .int v12]) (c_X12_whyGoOf_85 l dC dI ad cA nF _ v10 v12 hR (by omega) (by omega)) (cs_RX12_266 (d := 2) F.2.2.1 (by decide)) tc_85 rfl rfl rfl rfl (Nat.le_of_ble_eq_true rfl) dX12_lives_55 ⟨Nat.le_refl 0, Nat.le_refl 0⟩ (fun r20 uN20 H locs hq hP hD hS => ?_)
    obtain ⟨hu20, gr20⟩ := hq
    rw [hu20] at hP hD
    refine lv_istore (lv' := [(4, .int r20), (3, .int v12), (2, .int v10), (0, .ref (ad 85)), (1, .int p0)]) F.1 F.2.1 dX12_lives_58 hl (by decide) rfl (fun ls hl => ?_)
    refine lv_iload F.1 F.2.1 dX12_lives_60 (lv_at hl 0 rfl) ?_
    refine z_ne F 71 dX12_lives_62 (by decide) rfl (fun c21 => ?_) (fun c21 => ?_)
    · exact L71 r20 _ _ _ _ hR hF hK_MS hK_AP hK_i_CW hK_i_UI hK_i_BI hK_i_AU hK_i_AB hK_i_BG hK_i_HX (by omega) hP hD hS (lv_sub hl [0] rfl)
    · refine lv_aload_n F.1 F.2.1 dX12_lives_65 rfl (lv_at hl 3 rfl) ?_
      refine lv_iload_n F.1 F.2.1 dX12_lives_66 rfl (lv_at hl 2 rfl) ?_
      refine lv_iload_n F.1 F.2.1 dX12_lives_67 rfl (lv_at hl 1 rfl) ?_
      have g22 : (0 : Int) ≤ (u0.1 87 1).toInt ∧ (u0.1 87 1).toInt ≤ 8 := hR 87 1
      refine a_Vv F hml hl.1 hA hP hD hS (As := [.int v10, .int v12]) (c_X12_goes_85__4 l dC dI ad cA nF _ v10 v12 hR (by omega) (by omega) (by exact (by omega : v12.toInt < (u0.1 87 1).toInt)) hK_AP) (cs_RX12_272 (d := 1) F.2.2.1 (by decide)) tc_85 rfl rfl rfl rfl (Nat.le_of_ble_eq_true rfl) dX12_lives_68 ⟨Nat.le_refl 0, Nat.le_refl 0⟩ (fun u23 H locs hq hP hD hS => ?_)
      obtain ⟨hR, hF23, xr23, hK_AP, hJ23_MS, hJ23_CW, hJ23_UI, hJ23_BI, hJ23_AU, hJ23_AB, hJ23_BG, hJ23_HX⟩ := hq
      have hF := hF.tr hF23 (by decide)
      have hK_MS := hJ23_MS hK_MS
      have hK_BLI := sp_fr sp_BLI hF23 (by decide) hK_BLI
      have hK_BG := hJ23_BG hK_BG
      have hK_i_CW : (fun u => cdI u0 → cdI u) u23 := fun h => hJ23_CW (hK_i_CW h)
      have hK_i_UI : (fun u => unI u0 → unI u) u23 := fun h => hJ23_UI (hK_i_UI h)
      have hK_i_BI : (fun u => bfI u0 → bfI u) u23 := fun h => hJ23_BI (hK_i_BI h)
      have hK_i_AU : (fun u => auI u0 → auI u) u23 := fun h => hJ23_AU (hK_i_AU h)
      have hK_i_AB : (fun u => abI u0 → abI u) u23 := fun h => hJ23_AB (hK_i_AB h)
      have hK_i_BG : (fun u => bgI u0 → bgI u) u23 := fun h => hJ23_BG (hK_i_BG h)
      have hK_i_HX : (fun u => hxI u0 → hxI u) u23 := fun h => hJ23_HX (hK_i_HX h)
      have g24 : (0 : Int) ≤ (u23.1 87 106).toInt ∧ (u23.1 87 106).toInt ≤ 480 := hR 87 106
      have g25 : (4 : Int) ≤ (u23.1 87 0).toInt ∧ (u23.1 87 0).toInt ≤ 24 := hR 87 0
      have xr23 : (u23.1 87 106).toInt = (u0.1 87 106).toInt ∧ (u23.1 87 0).toInt = (u0.1 87 0).toInt := xr23
      exact L71 r20 _ _ _ _ hR hF hK_MS hK_AP hK_i_CW hK_i_UI hK_i_BI hK_i_AU hK_i_AB hK_i_BG hK_i_HX (by omega) hP hD hS (lv_sub hl [0] rfl)
  · refine lv_tableIn (tgt := 74) F.1 F.2.1 dX12_lives_27 (by omega) (by omega) (by rw [c14]; rfl) (by decide) ?_
    refine lv_aload_n F.1 F.2.1 dX12_lives_74 rfl (lv_at hl 3 rfl) ?_
    refine lv_iload_n F.1 F.2.1 dX12_lives_75 rfl (lv_at hl 2 rfl) ?_
    refine a_Vi F hml hl.1 hA hP hD hS (As := [.int v10]) (c_X12_whyAct_85 l dC dI ad cA nF _ v10 hR (by omega)) (cs_RX12_279 (d := 2) F.2.2.1 (by decide)) tc_85 rfl rfl rfl rfl (Nat.le_of_ble_eq_true rfl) dX12_lives_76 ⟨Nat.le_refl 0, Nat.le_refl 0⟩ (fun r26 uN26 H locs hq hP hD hS => ?_)
    obtain ⟨hu26, gr26, xr26⟩ := hq
    rw [hu26] at hP hD
    have g27 : (0 : Int) ≤ (u0.1 87 123).toInt ∧ (u0.1 87 123).toInt ≤ 80 := hR 87 123
    have xr26 : r26.toInt = 0 → (u0.1 87 123).toInt ≤ 79 := xr26
    refine lv_istore (lv' := [(4, .int r26), (3, .int v12), (2, .int v10), (0, .ref (ad 85)), (1, .int p0)]) F.1 F.2.1 dX12_lives_79 hl (by decide) rfl (fun ls hl => ?_)
    refine lv_iload F.1 F.2.1 dX12_lives_81 (lv_at hl 0 rfl) ?_
    refine z_ne F 92 dX12_lives_83 (by decide) rfl (fun c28 => ?_) (fun c28 => ?_)
    · exact L92 r26 _ _ _ _ hR hF hK_MS hK_AP hK_i_CW hK_i_UI hK_i_BI hK_i_AU hK_i_AB hK_i_BG hK_i_HX (by omega) hP hD hS (lv_sub hl [0] rfl)
    · refine lv_aload_n F.1 F.2.1 dX12_lives_86 rfl (lv_at hl 3 rfl) ?_
      refine lv_iload_n F.1 F.2.1 dX12_lives_87 rfl (lv_at hl 2 rfl) ?_
      refine lv_iload_n F.1 F.2.1 dX12_lives_88 rfl (lv_at hl 1 rfl) ?_
      refine a_Vv F hml hl.1 hA hP hD hS (As := [.int v10, .int v12]) (c_X12_does_85__4 l dC dI ad cA nF _ v10 v12 hR (by omega) (by omega : (0 : Int) ≤ (u0.1 87 123).toInt ∧ (u0.1 87 123).toInt ≤ 79)) (cs_RX12_283 (d := 1) F.2.2.1 (by decide)) tc_85 rfl rfl rfl rfl (Nat.le_of_ble_eq_true rfl) dX12_lives_89 ⟨Nat.le_refl 0, Nat.le_refl 0⟩ (fun u29 H locs hq hP hD hS => ?_)
      obtain ⟨hR, hF29, xr29, hJ29_MS, hJ29_CW, hJ29_UI, hJ29_BI, hJ29_AP, hJ29_AU, hJ29_AB, hJ29_BG, hJ29_HX⟩ := hq
      have hF := hF.tr hF29 (by decide)
      have hK_MS := hJ29_MS hK_MS
      have hK_AP := hJ29_AP hK_AP
      have hK_BLI := sp_fr sp_BLI hF29 (by decide) hK_BLI
      have hK_BG := hJ29_BG hK_BG
      have hK_i_CW : (fun u => cdI u0 → cdI u) u29 := fun h => hJ29_CW (hK_i_CW h)
      have hK_i_UI : (fun u => unI u0 → unI u) u29 := fun h => hJ29_UI (hK_i_UI h)
      have hK_i_BI : (fun u => bfI u0 → bfI u) u29 := fun h => hJ29_BI (hK_i_BI h)
      have hK_i_AU : (fun u => auI u0 → auI u) u29 := fun h => hJ29_AU (hK_i_AU h)
      have hK_i_AB : (fun u => abI u0 → abI u) u29 := fun h => hJ29_AB (hK_i_AB h)
      have hK_i_BG : (fun u => bgI u0 → bgI u) u29 := fun h => hJ29_BG (hK_i_BG h)
      have hK_i_HX : (fun u => hxI u0 → hxI u) u29 := fun h => hJ29_HX (hK_i_HX h)
      have g30 : (0 : Int) ≤ (u29.1 87 106).toInt ∧ (u29.1 87 106).toInt ≤ 480 := hR 87 106
      have g31 : (4 : Int) ≤ (u29.1 87 0).toInt ∧ (u29.1 87 0).toInt ≤ 24 := hR 87 0
      have xr29 : (u29.1 87 106).toInt = (u0.1 87 106).toInt ∧ (u29.1 87 0).toInt = (u0.1 87 0).toInt := xr29
      exact L92 r26 _ _ _ _ hR hF hK_MS hK_AP hK_i_CW hK_i_UI hK_i_BI hK_i_AU hK_i_AB hK_i_BG hK_i_HX (by omega) hP hD hS (lv_sub hl [0] rfl)
  · refine lv_tableIn (tgt := 95) F.1 F.2.1 dX12_lives_27 (by omega) (by omega) (by rw [c14]; rfl) (by decide) ?_
    refine lv_aload_n F.1 F.2.1 dX12_lives_95 rfl (lv_at hl 3 rfl) ?_
    refine lv_iload_n F.1 F.2.1 dX12_lives_96 rfl (lv_at hl 2 rfl) ?_
    refine lv_iload_n F.1 F.2.1 dX12_lives_97 rfl (lv_at hl 1 rfl) ?_
    refine a_Vi F hml hl.1 hA hP hD hS (As := [.int v10, .int v12]) (c_X12_whySay_85 l dC dI ad cA nF _ v10 v12 hR (by omega) (by omega)) (cs_RX12_286 (d := 2) F.2.2.1 (by decide)) tc_85 rfl rfl rfl rfl (Nat.le_of_ble_eq_true rfl) dX12_lives_98 ⟨Nat.le_refl 0, Nat.le_refl 0⟩ (fun r32 uN32 H locs hq hP hD hS => ?_)
    obtain ⟨hu32, gr32⟩ := hq
    rw [hu32] at hP hD
    refine lv_istore (lv' := [(4, .int r32), (3, .int v12), (2, .int v10), (0, .ref (ad 85)), (1, .int p0)]) F.1 F.2.1 dX12_lives_101 hl (by decide) rfl (fun ls hl => ?_)
    refine lv_iload F.1 F.2.1 dX12_lives_103 (lv_at hl 0 rfl) ?_
    refine z_ne F 114 dX12_lives_105 (by decide) rfl (fun c33 => ?_) (fun c33 => ?_)
    · exact L114 r32 _ _ _ _ hR hF hK_MS hK_AP hK_i_CW hK_i_UI hK_i_BI hK_i_AU hK_i_AB hK_i_BG hK_i_HX (by omega) hP hD hS (lv_sub hl [0] rfl)
    · refine lv_aload_n F.1 F.2.1 dX12_lives_108 rfl (lv_at hl 3 rfl) ?_
      refine lv_iload_n F.1 F.2.1 dX12_lives_109 rfl (lv_at hl 2 rfl) ?_
      refine lv_iload_n F.1 F.2.1 dX12_lives_110 rfl (lv_at hl 1 rfl) ?_
      refine a_Vv F hml hl.1 hA hP hD hS (As := [.int v10, .int v12]) (c_X12_says_85__4 l dC dI ad cA nF _ v10 v12 hR (by omega) (by omega)) (cs_RX12_289 (d := 1) F.2.2.1 (by decide)) tc_85 rfl rfl rfl rfl (Nat.le_of_ble_eq_true rfl) dX12_lives_111 ⟨Nat.le_refl 0, Nat.le_refl 0⟩ (fun u34 H locs hq hP hD hS => ?_)
      obtain ⟨hR, hF34, xr34, hJ34_MS, hJ34_CW, hJ34_UI, hJ34_BI, hJ34_AP, hJ34_AU, hJ34_AB, hJ34_BG, hJ34_HX⟩ := hq
      have hF := hF.tr hF34 (by decide)
      have hK_MS := hJ34_MS hK_MS
      have hK_AP := hJ34_AP hK_AP
      have hK_BLI := sp_fr sp_BLI hF34 (by decide) hK_BLI
      have hK_BG := hJ34_BG hK_BG
      have hK_i_CW : (fun u => cdI u0 → cdI u) u34 := fun h => hJ34_CW (hK_i_CW h)
      have hK_i_UI : (fun u => unI u0 → unI u) u34 := fun h => hJ34_UI (hK_i_UI h)
      have hK_i_BI : (fun u => bfI u0 → bfI u) u34 := fun h => hJ34_BI (hK_i_BI h)
      have hK_i_AU : (fun u => auI u0 → auI u) u34 := fun h => hJ34_AU (hK_i_AU h)
      have hK_i_AB : (fun u => abI u0 → abI u) u34 := fun h => hJ34_AB (hK_i_AB h)
      have hK_i_BG : (fun u => bgI u0 → bgI u) u34 := fun h => hJ34_BG (hK_i_BG h)
      have hK_i_HX : (fun u => hxI u0 → hxI u) u34 := fun h => hJ34_HX (hK_i_HX h)
      have g35 : (0 : Int) ≤ (u34.1 87 106).toInt ∧ (u34.1 87 106).toInt ≤ 480 := hR 87 106
      have g36 : (4 : Int) ≤ (u34.1 87 0).toInt ∧ (u34.1 87 0).toInt ≤ 24 := hR 87 0
      have xr34 : (u34.1 87 106).toInt = (u0.1 87 106).toInt ∧ (u34.1 87 0).toInt = (u0.1 87 0).toInt := xr34
      exact L114 r32 _ _ _ _ hR hF hK_MS hK_AP hK_i_CW hK_i_UI hK_i_BI hK_i_AU hK_i_AB hK_i_BG hK_i_HX (by omega) hP hD hS (lv_sub hl [0] rfl)
set_option maxHeartbeats 600000 in
set_option maxRecDepth 100000 in
theorem c_X12_daybook_85__4 (l : Launch) (dC : Nat → ClassId) (dI : Nat → Nat → Nat) (ad : Nat → Nat) (cA : Nat → ClassId) (nF : Nat) (u0 : ac_U) (p0 : Int32) (hR : ac_R rg u0) (hK_MS : msI u0) (hK_UI : unI u0) (hK_CW : cdI u0) (hK_AP : apI u0) (hK_AU : auI u0) : ac_Mi l yX12_daybook (.code yX12_daybook cX12_daybook 4 (some .int) :: TB) 8 (dC, dI) vwCl (ac_ty cA) ad cA (TT nF) [.ref (ad 85), .int p0] u0 (fun (r : Int32) (u : ac_U) => ac_R rg u ∧ ac_Fr [(85, some 0), (85, some 2), (85, some 3), (85, some 4), (85, some 5), (85, some 11), (85, some 12), (85, some 13), (85, some 14), (85, some 15), (85, some 16), (85, some 18), (85, some 24), (85, some 35), (85, some 37), (87, none), (89, none), (93, none), (94, none), (99, none)] u0 u ∧ msI u ∧ unI u ∧ cdI u ∧ apI u ∧ auI u ∧ (dlI 85 u0 p0.toInt) u ∧ (hxI u0 → hxI u)) := by
  refine ac_Mi.of (cc := cX12_daybook) (maxL := 4) (ret := (some .int)) (by decide) rfl (Nat.le_of_ble_eq_true rfl) ?_
  intro p e s m below meth c A ls F hml hr hlocks hA hP hD hS hl
  have F : ac_X p s m [.ref (ad 85), .int p0].toArray c cX12_daybook RX12 TB (dC, dI) vwCl (ac_ty cA) := ⟨F.1, F.2.1, fun w h => F.2.2.1 w (List.mem_cons_of_mem _ h), F.2.2.2.1, F.2.2.2.2⟩
  have hl : lv_has ls 4 [(0, .ref (ad 85)), (1, .int p0)] := hl
  have hF : ac_Fr [(85, some 0), (85, some 2), (85, some 3), (85, some 4), (85, some 5), (85, some 11), (85, some 12), (85, some 13), (85, some 14), (85, some 15), (85, some 16), (85, some 18), (85, some 24), (85, some 35), (85, some 37), (87, none), (89, none), (93, none), (94, none), (99, none)] u0 u0 := ac_Fr.rf
  have hK_i_HX : (fun u => hxI u0 → hxI u) u0 := fun h => h
  have L259 : ∀ (x2 : Int32) (u : ac_U) (H : Heap) (locs : List Loc) (ls : Array Slot), ac_R rg u → ac_Fr [(85, some 0), (85, some 2), (85, some 3), (85, some 4), (85, some 5), (85, some 11), (85, some 12), (85, some 13), (85, some 14), (85, some 15), (85, some 16), (85, some 18), (85, some 24), (85, some 35), (85, some 37), (87, none), (89, none), (93, none), (94, none), (99, none)] u0 u → msI u → unI u → cdI u → apI u → auI u → (dlI 85 u0 p0.toInt) u → (fun u => hxI u0 → hxI u) u → (-1 : Int) ≤ x2.toInt ∧ x2.toInt ≤ 39 → (0 : Int) ≤ (u.1 85 11).toInt ∧ (u.1 85 11).toInt ≤ 0 → (1 : Int) ≤ (u.1 85 37).toInt ∧ (u.1 85 37).toInt ≤ 1 → (0 : Int) ≤ (u.1 99 2).toInt ∧ (u.1 99 2).toInt ≤ 480 → va_P (dC, dI) vwCl (ac_w ad cA (TT nF) u) H → va_D A (ac_w ad cA (TT nF) u) → va_S A s.heap H locs → lv_has ls 4 [(2, .int x2)] → W p l e (ac_rm 8) s m [.ref (ad 85), .int p0].toArray below meth c H locs 0 0 (MQ below (va_Qi (fun (r : Int32) (u : ac_U) => ac_R rg u ∧ ac_Fr [(85, some 0), (85, some 2), (85, some 3), (85, some 4), (85, some 5), (85, some 11), (85, some 12), (85, some 13), (85, some 14), (85, some 15), (85, some 16), (85, some 18), (85, some 24), (85, some 35), (85, some 37), (87, none), (89, none), (93, none), (94, none), (99, none)] u0 u ∧ msI u ∧ unI u ∧ cdI u ∧ apI u ∧ auI u ∧ (dlI 85 u0 p0.toInt) u ∧ (hxI u0 → hxI u)) (ac_B (dC, dI) vwCl (ac_ty cA) ad cA (TT nF) A) A) [.ref (ad 85), .int p0].toArray s 0 0 A) (F0 m 259 ls []) := by
    intro x2 u H locs ls hR hF hK_MS hK_UI hK_CW hK_AP hK_AU hK_DR hK_i_HX f0 f1 f2 f3 hP hD hS hl
    refine lv_iload_n F.1 F.2.1 dX12_daybook_259 rfl (lv_at hl 0 rfl) ?_
    exact a_reti F hr hlocks hP hD hS dX12_daybook_260 ⟨hR, hF, hK_MS, hK_UI, hK_CW, hK_AP, hK_AU, hK_DR, hK_i_HX⟩
  have L251 : ∀ (x2 : Int32) (u : ac_U) (H : Heap) (locs : List Loc) (ls : Array Slot), ac_R rg u → ac_Fr [(85, some 0), (85, some 2), (85, some 3), (85, some 4), (85, some 5), (85, some 11), (85, some 12), (85, some 13), (85, some 14), (85, some 15), (85, some 16), (85, some 18), (85, some 24), (85, some 35), (85, some 37), (87, none), (89, none), (93, none), (94, none), (99, none)] u0 u → msI u → unI u → cdI u → bfI u → apI u → auI u → abI u → (dlI 85 u0 p0.toInt) u → (fun u => hxI u0 → hxI u) u → (0 : Int) ≤ p0.toInt ∧ p0.toInt ≤ 1 → (-1 : Int) ≤ x2.toInt ∧ x2.toInt ≤ 39 → (0 : Int) ≤ (u.1 85 11).toInt ∧ (u.1 85 11).toInt ≤ 0 → (1 : Int) ≤ (u.1 85 37).toInt ∧ (u.1 85 37).toInt ≤ 1 → (0 : Int) ≤ (u.1 99 2).toInt ∧ (u.1 99 2).toInt ≤ 480 → va_P (dC, dI) vwCl (ac_w ad cA (TT nF) u) H → va_D A (ac_w ad cA (TT nF) u) → va_S A s.heap H locs → lv_has ls 4 [(0, .ref (ad 85)), (1, .int p0), (2, .int x2)] → W p l e (ac_rm 8) s m [.ref (ad 85), .int p0].toArray below meth c H locs 0 0 (MQ below (va_Qi (fun (r : Int32) (u : ac_U) => ac_R rg u ∧ ac_Fr [(85, some 0), (85, some 2), (85, some 3), (85, some 4), (85, some 5), (85, some 11), (85, some 12), (85, some 13), (85, some 14), (85, some 15), (85, some 16), (85, some 18), (85, some 24), (85, some 35), (85, some 37), (87, none), (89, none), (93, none), (94, none), (99, none)] u0 u ∧ msI u ∧ unI u ∧ cdI u ∧ apI u ∧ auI u ∧ (dlI 85 u0 p0.toInt) u ∧ (hxI u0 → hxI u)) (ac_B (dC, dI) vwCl (ac_ty cA) ad cA (TT nF) A) A) [.ref (ad 85), .int p0].toArray s 0 0 A) (F0 m 251 ls []) := by
    intro x2 u H locs ls hR hF hK_MS hK_UI hK_CW hK_BI hK_AP hK_AU hK_AB hK_DR hK_i_HX f0 f1 f2 f3 f4 hP hD hS hl
    refine lv_iload_n F.1 F.2.1 dX12_daybook_251 rfl (lv_at hl 1 rfl) ?_
    refine z_ne F 259 dX12_daybook_252 (by decide) rfl (fun c1 => ?_) (fun c1 => ?_)
    · have g2 : (0 : Int) ≤ (u.1 85 11).toInt ∧ (u.1 85 11).toInt ≤ 4 := hR 85 11
      have g3 : (0 : Int) ≤ (u.1 85 37).toInt ∧ (u.1 85 37).toInt ≤ 1 := hR 85 37
      exact L259 x2 _ _ _ _ hR hF hK_MS hK_UI hK_CW hK_AP hK_AU hK_DR hK_i_HX (by omega) (by omega : (0 : Int) ≤ (u.1 85 11).toInt ∧ (u.1 85 11).toInt ≤ 0) (by omega : (1 : Int) ≤ (u.1 85 37).toInt ∧ (u.1 85 37).toInt ≤ 1) (by omega : (0 : Int) ≤ (u.1 99 2).toInt ∧ (u.1 99 2).toInt ≤ 480) hP hD hS (lv_sub hl [2] rfl)
    · refine lv_aload_n F.1 F.2.1 dX12_daybook_255 rfl (lv_at hl 0 rfl) ?_
      have g5 : (0 : Int) ≤ (u.1 85 35).toInt ∧ (u.1 85 35).toInt ≤ 40 := hR 85 35
      refine a_Vv F hml hl.1 hA hP hD hS (As := []) (c_X12_back_85__4 l dC dI ad cA nF _  hR hK_MS hK_BI hK_AP hK_AB) (cs_RX12_395 (d := 1) F.2.2.1 (by decide)) tc_85 rfl rfl rfl rfl (Nat.le_of_ble_eq_true rfl) dX12_daybook_256 ⟨Nat.le_refl 0, Nat.le_refl 0⟩ (fun u4 H locs hq hP hD hS => ?_)
      obtain ⟨hR, hF4, hK_MS, hK_BI, hK_AP, hK_AB, hJ4_CW, hJ4_UI, hJ4_AU, hJ4_HX⟩ := hq
      have hF := hF.tr hF4 (by decide)
      have hK_UI := hJ4_UI hK_UI
      have hK_CW := hJ4_CW hK_CW
      have hK_AU := hJ4_AU hK_AU
      have hK_DR := sp_fr (sp_dl 85 _ _) hF4 (by decide) hK_DR
      have hK_i_HX : (fun u => hxI u0 → hxI u) u4 := fun h => hJ4_HX (hK_i_HX h)
      exact L259 x2 _ _ _ _ hR hF hK_MS hK_UI hK_CW hK_AP hK_AU hK_DR hK_i_HX (by omega) (i_trB (hF4 85 11 rfl) (by omega : (0 : Int) ≤ (u.1 85 11).toInt ∧ (u.1 85 11).toInt ≤ 0)) (i_trB (hF4 85 37 rfl) (by omega : (1 : Int) ≤ (u.1 85 37).toInt ∧ (u.1 85 37).toInt ≤ 1)) (i_trB (hF4 99 2 rfl) (by omega : (0 : Int) ≤ (u.1 99 2).toInt ∧ (u.1 99 2).toInt ≤ 480)) hP hD hS (lv_sub hl [2] rfl)
  have L215 : ∀ (n215 : Nat) (x2 : Int32) (x3 : Int32) (u : ac_U) (H : Heap) (locs : List Loc) (ls : Array Slot), ac_R rg u → ac_Fr [(85, some 0), (85, some 2), (85, some 3), (85, some 4), (85, some 5), (85, some 11), (85, some 12), (85, some 13), (85, some 14), (85, some 15), (85, some 16), (85, some 18), (85, some 24), (85, some 35), (85, some 37), (87, none), (89, none), (93, none), (94, none), (99, none)] u0 u → 370 - x3.toInt < (n215 : Int) → msI u → unI u → cdI u → bfI u → apI u → auI u → abI u → (dlI 85 u0 p0.toInt) u → (fun u => hxI u0 → hxI u) u → (1 : Int) ≤ p0.toInt ∧ p0.toInt ≤ 1 → (-1 : Int) ≤ x2.toInt ∧ x2.toInt ≤ 39 → (0 : Int) ≤ x3.toInt ∧ x3.toInt ≤ 370 → (0 : Int) ≤ (u.1 85 11).toInt ∧ (u.1 85 11).toInt ≤ 0 → (1 : Int) ≤ (u.1 85 24).toInt ∧ (u.1 85 24).toInt ≤ 8 → (1 : Int) ≤ (u.1 85 37).toInt ∧ (u.1 85 37).toInt ≤ 1 → (1 : Int) ≤ (u.1 99 1).toInt → (0 : Int) ≤ (u.1 99 2).toInt ∧ (u.1 99 2).toInt ≤ 480 → va_P (dC, dI) vwCl (ac_w ad cA (TT nF) u) H → va_D A (ac_w ad cA (TT nF) u) → va_S A s.heap H locs → lv_has ls 4 [(0, .ref (ad 85)), (1, .int p0), (2, .int x2), (3, .int x3)] → W p l e (ac_rm 8) s m [.ref (ad 85), .int p0].toArray below meth c H locs 0 0 (MQ below (va_Qi (fun (r : Int32) (u : ac_U) => ac_R rg u ∧ ac_Fr [(85, some 0), (85, some 2), (85, some 3), (85, some 4), (85, some 5), (85, some 11), (85, some 12), (85, some 13), (85, some 14), (85, some 15), (85, some 16), (85, some 18), (85, some 24), (85, some 35), (85, some 37), (87, none), (89, none), (93, none), (94, none), (99, none)] u0 u ∧ msI u ∧ unI u ∧ cdI u ∧ apI u ∧ auI u ∧ (dlI 85 u0 p0.toInt) u ∧ (hxI u0 → hxI u)) (ac_B (dC, dI) vwCl (ac_ty cA) ad cA (TT nF) A) A) [.ref (ad 85), .int p0].toArray s 0 0 A) (F0 m 215 ls []) := by
    intro n215
    induction n215 with
    | zero => intro x2 x3 u H locs ls hR hF hn215 hK_MS hK_UI hK_CW hK_BI hK_AP hK_AU hK_AB hK_DR hK_i_HX f0 f1 f2 f3 f4 f5 f6 f7 hP hD hS hl; exfalso; omega
    | succ n215 ih215 =>
      intro x2 x3 u H locs ls hR hF hn215 hK_MS hK_UI hK_CW hK_BI hK_AP hK_AU hK_AB hK_DR hK_i_HX f0 f1 f2 f3 f4 f5 f6 f7 hP hD hS hl
      refine lv_iload_n F.1 F.2.1 dX12_daybook_215 rfl (lv_at hl 3 rfl) ?_
      refine a_sp F (370 : Int32) dX12_daybook_216 (by decide) ?_
      refine b_ge F 251 dX12_daybook_219 (by decide) rfl ic_370 (fun c6 => ?_) (fun c6 => ?_)
      · have g7 : (0 : Int) ≤ (u.1 85 11).toInt ∧ (u.1 85 11).toInt ≤ 4 := hR 85 11
        have g8 : (0 : Int) ≤ (u.1 85 37).toInt ∧ (u.1 85 37).toInt ≤ 1 := hR 85 37
        exact L251 x2 _ _ _ _ hR hF hK_MS hK_UI hK_CW hK_BI hK_AP hK_AU hK_AB hK_DR hK_i_HX (by omega) (by omega) (by omega : (0 : Int) ≤ (u.1 85 11).toInt ∧ (u.1 85 11).toInt ≤ 0) (by omega : (1 : Int) ≤ (u.1 85 37).toInt ∧ (u.1 85 37).toInt ≤ 1) (by omega : (0 : Int) ≤ (u.1 99 2).toInt ∧ (u.1 99 2).toInt ≤ 480) hP hD hS (lv_sub hl [0, 1, 2] rfl)
      · refine lv_aload_n F.1 F.2.1 dX12_daybook_222 rfl (lv_at hl 0 rfl) ?_
        refine a_getr F inX12 hP 85 22 tc_85 rfl rfl (by decide) q1493 (fun _ h9 => h9) dX12_daybook_223 ?_
        refine a_sp F (370 : Int32) dX12_daybook_226 (by decide) ?_
        refine lv_aload_n F.1 F.2.1 dX12_daybook_229 rfl (lv_at hl 0 rfl) ?_
        have g9 : (0 : Int) ≤ (u.1 85 24).toInt ∧ (u.1 85 24).toInt ≤ 8 := hR 85 24
        refine a_geti F inX12 hP 85 24 tc_85 rfl rfl (by decide) q1495 (fun _ h9 => h9) (v := (u.1 85 24)) rfl dX12_daybook_230 ?_
        refine a_ic F (1 : Int32) dX12_daybook_233 (by decide) ?_
        refine a_isub F dX12_daybook_234 rfl ic_1 (by omega) (fun v10 hv10 => ?_)
        refine a_imul F dX12_daybook_235 ic_370 rfl (by omega) (fun v11 hv11 => ?_)
        refine lv_iload_n F.1 F.2.1 dX12_daybook_236 rfl (lv_at hl 3 rfl) ?_
        refine a_iadd F dX12_daybook_237 rfl rfl (by omega) (fun v12 hv12 => ?_)
        refine lv_aload_n F.1 F.2.1 dX12_daybook_238 rfl (lv_at hl 0 rfl) ?_
        refine a_getr F inX12 hP 85 23 tc_85 rfl rfl (by decide) q1494 (fun _ h9 => h9) dX12_daybook_239 ?_
        refine lv_iload_n F.1 F.2.1 dX12_daybook_242 rfl (lv_at hl 3 rfl) ?_
        refine a_iald F hP 94 tc_94 rfl (i_in rfl (by omega)) dX12_daybook_243 (fun v13 ev13 => ?_)
        refine a_iast F hP hD hS 93 tc_93 rfl (i_in rfl (by omega)) dX12_daybook_244 (fun H locs hP hD hS => ?_)
        have hR := hR.si (c := 93) (k := v12.toNatClampNeg) (v := v13) (cp_el hR ev13 (rg_u5 (m := (u.1 85 24).toInt - 1) (by omega) (by omega) (by omega)))
        have hF := hF.si (c := 93) (k := v12.toNatClampNeg) (v := v13) rfl
        have hO_MS := hK_MS
        have hO_UI := hK_UI
        have hO_CW := hK_CW
        have hO_BI := hK_BI
        have hO_AP := hK_AP
        have hO_AU := hK_AU
        have hO_AB := hK_AB
        have hO_DR := hK_DR
        have hO_i_HX := hK_i_HX
        have hK_MS := sp_sgD sp_MS hD hK_MS (by decide)
        have hK_UI := un_w3 hO_UI (i := v12) (v := v13) (x := x3.toInt) (by omega) (by omega) (by omega) (fun q9 => bf_get hO_BI ev13 (by omega))
        have hK_CW := sp_sgD sp_CW hD hK_CW (by decide)
        have hK_BI := sp_sgD sp_BI hD hK_BI (by decide)
        have hK_AP := sp_sgD sp_AP hD hK_AP (by decide)
        have hK_AU := au_w3 hO_AU (i := v12) (v := v13) (x := x3.toInt) (by omega) (by omega) (by omega) (fun q9 => ab_get hO_AB ev13 (by omega))
        have hK_AB := sp_sgD sp_AB hD hK_AB (by decide)
        have hK_DR := sp_sgD (sp_dl 85 _ _) hD hK_DR (by decide)
        have hK_i_HX := sp_sgD (sp_imp sp_HX) hD hK_i_HX (by decide)
        refine a_iinc F (k := 3) (fun v14 => [(3, .int v14), (0, .ref (ad 85)), (1, .int p0), (2, .int x2)]) dX12_daybook_245 hl rfl rfl (by decide) (by omega) (by decide) (fun _ => rfl) (fun v14 ls hv14 hl => ?_)
        refine lv_goto (tgt := 215) F.1 F.2.1 dX12_daybook_248 (by decide) ?_
        have g15 : (0 : Int) ≤ (u.1 85 11).toInt ∧ (u.1 85 11).toInt ≤ 4 := hR 85 11
        have g16 : (0 : Int) ≤ (u.1 85 37).toInt ∧ (u.1 85 37).toInt ≤ 1 := hR 85 37
        exact ih215 x2 v14 _ _ _ _ hR hF (by omega) hK_MS hK_UI hK_CW hK_BI hK_AP hK_AU hK_AB hK_DR hK_i_HX (by omega) (by omega) (by omega) (by omega : (0 : Int) ≤ (u.1 85 11).toInt ∧ (u.1 85 11).toInt ≤ 0) (by omega : (1 : Int) ≤ (u.1 85 24).toInt ∧ (u.1 85 24).toInt ≤ 8) (by omega : (1 : Int) ≤ (u.1 85 37).toInt ∧ (u.1 85 37).toInt ≤ 1) (by omega : (1 : Int) ≤ (u.1 99 1).toInt) (by omega : (0 : Int) ≤ (u.1 99 2).toInt ∧ (u.1 99 2).toInt ≤ 480) hP hD hS (lv_sub hl [1, 2, 3, 0] rfl)
  have L166 : ∀ (x2 : Int32) (u : ac_U) (H : Heap) (locs : List Loc) (ls : Array Slot), ac_R rg u → ac_Fr [(85, some 0), (85, some 2), (85, some 3), (85, some 4), (85, some 5), (85, some 11), (85, some 12), (85, some 13), (85, some 14), (85, some 15), (85, some 16), (85, some 18), (85, some 24), (85, some 35), (85, some 37), (87, none), (89, none), (93, none), (94, none), (99, none)] u0 u → msI u → unI u → cdI u → bfI u → blI u → apI u → auI u → abI u → bgI u → (dlI 85 u0 p0.toInt) u → (fun u => hxI u0 → hxI u) u → (0 : Int) ≤ p0.toInt ∧ p0.toInt ≤ 1 → (-1 : Int) ≤ x2.toInt ∧ x2.toInt ≤ 39 → (0 : Int) ≤ (u.1 85 0).toInt ∧ (u.1 85 0).toInt ≤ 0 → (0 : Int) ≤ (u.1 85 11).toInt ∧ (u.1 85 11).toInt ≤ 0 → va_P (dC, dI) vwCl (ac_w ad cA (TT nF) u) H → va_D A (ac_w ad cA (TT nF) u) → va_S A s.heap H locs → lv_has ls 4 [(0, .ref (ad 85)), (1, .int p0), (2, .int x2)] → W p l e (ac_rm 8) s m [.ref (ad 85), .int p0].toArray below meth c H locs 0 0 (MQ below (va_Qi (fun (r : Int32) (u : ac_U) => ac_R rg u ∧ ac_Fr [(85, some 0), (85, some 2), (85, some 3), (85, some 4), (85, some 5), (85, some 11), (85, some 12), (85, some 13), (85, some 14), (85, some 15), (85, some 16), (85, some 18), (85, some 24), (85, some 35), (85, some 37), (87, none), (89, none), (93, none), (94, none), (99, none)] u0 u ∧ msI u ∧ unI u ∧ cdI u ∧ apI u ∧ auI u ∧ (dlI 85 u0 p0.toInt) u ∧ (hxI u0 → hxI u)) (ac_B (dC, dI) vwCl (ac_ty cA) ad cA (TT nF) A) A) [.ref (ad 85), .int p0].toArray s 0 0 A) (F0 m 166 ls []) := by
    intro x2 u H locs ls hR hF hK_MS hK_UI hK_CW hK_BI hK_BLI hK_AP hK_AU hK_AB hK_BG hK_DR hK_i_HX f0 f1 f2 f3 hP hD hS hl
    refine lv_aload_n F.1 F.2.1 dX12_daybook_166 rfl (lv_at hl 0 rfl) ?_
    refine a_getr F inX12 hP 85 36 tc_85 rfl rfl (by decide) q1507 (fun _ h9 => h9) dX12_daybook_167 ?_
    refine a_ic F (2 : Int32) dX12_daybook_170 (by decide) ?_
    refine lv_aload_n F.1 F.2.1 dX12_daybook_171 rfl (lv_at hl 0 rfl) ?_
    refine a_getr F inX12 hP 85 6 tc_85 rfl rfl (by decide) q1477 (fun _ h9 => h9) dX12_daybook_172 ?_
    refine a_bp F (106 : Int32) dX12_daybook_175 (by decide) ?_
    have g17 : (0 : Int) ≤ (u.1 87 106).toInt ∧ (u.1 87 106).toInt ≤ 480 := hR 87 106
    refine a_ialdK F hP 87 106 tc_87 rfl rfl (i_in ic_106 (by omega)) (v := (u.1 87 106)) rfl dX12_daybook_177 ?_
    refine a_iastK F hP hD hS 99 2 tc_99 rfl rfl (i_in ic_2 (by omega)) dX12_daybook_178 (fun H locs hP hD hS => ?_)
    have hR := hR.si (c := 99) (k := 2) (v := (u.1 87 106)) ⟨i_lo _, i_hi _⟩
    have hF := hF.si (c := 99) (k := 2) (v := (u.1 87 106)) rfl
    have hK_MS := sp_sgD sp_MS hD hK_MS (by decide)
    have hK_UI := sp_sgD sp_UI hD hK_UI (by decide)
    have hK_CW := sp_sgD sp_CW hD hK_CW (by decide)
    have hK_BI := sp_sgD sp_BI hD hK_BI (by decide)
    have hK_BLI := sp_sgD sp_BLI hD hK_BLI (by decide)
    have hK_AP := sp_sgD sp_AP hD hK_AP (by decide)
    have hK_AU := sp_sgD sp_AU hD hK_AU (by decide)
    have hK_AB := sp_sgD sp_AB hD hK_AB (by decide)
    have hK_BG := sp_sgD sp_BG hD hK_BG (by decide)
    have hK_DR := sp_sgD (sp_dl 85 _ _) hD hK_DR (by decide)
    have hK_i_HX := sp_sgD (sp_imp sp_HX) hD hK_i_HX (by decide)
    refine lv_aload_n F.1 F.2.1 dX12_daybook_179 rfl (lv_at hl 0 rfl) ?_
    refine a_getr F inX12 hP 85 36 tc_85 rfl rfl (by decide) q1507 (fun _ h9 => h9) dX12_daybook_180 ?_
    refine a_ic F (3 : Int32) dX12_daybook_183 (by decide) ?_
    refine lv_aload_n F.1 F.2.1 dX12_daybook_184 rfl (lv_at hl 0 rfl) ?_
    refine a_ic F (5 : Int32) dX12_daybook_185 (by decide) ?_
    have g19 : (0 : Int) ≤ (u.1 85 35).toInt ∧ (u.1 85 35).toInt ≤ 40 := hR 85 35
    refine a_Vi F hml hl.1 hA hP hD hS (As := [.int (5 : Int32)]) (c_X12_now_85 l dC dI ad cA nF _ (5 : Int32) hR) (cs_RX12_407 (d := 7) F.2.2.1 (by decide)) tc_85 rfl rfl rfl rfl (Nat.le_of_ble_eq_true rfl) dX12_daybook_186 ⟨Nat.le_refl 0, Nat.le_refl 0⟩ (fun r18 u18 H locs hq hP hD hS => ?_)
    obtain ⟨hR, hF18⟩ := hq
    have hF := hF.tr hF18 (by decide)
    have hK_MS := sp_fr sp_MS hF18 (by decide) hK_MS
    have hK_UI := sp_fr sp_UI hF18 (by decide) hK_UI
    have hK_CW := sp_fr sp_CW hF18 (by decide) hK_CW
    have hK_BI := sp_fr sp_BI hF18 (by decide) hK_BI
    have hK_BLI := sp_fr sp_BLI hF18 (by decide) hK_BLI
    have hK_AP := sp_fr sp_AP hF18 (by decide) hK_AP
    have hK_AU := sp_fr sp_AU hF18 (by decide) hK_AU
    have hK_AB := sp_fr sp_AB hF18 (by decide) hK_AB
    have hK_BG := sp_fr sp_BG hF18 (by decide) hK_BG
    have hK_DR := sp_fr (sp_dl 85 _ _) hF18 (by decide) hK_DR
    have hK_i_HX := sp_fr (sp_imp sp_HX) hF18 (by decide) hK_i_HX
    refine a_iastK F hP hD hS 99 3 tc_99 rfl rfl (i_in ic_3 (by omega)) dX12_daybook_189 (fun H locs hP hD hS => ?_)
    have hR := hR.si (c := 99) (k := 3) (v := r18) ⟨i_lo _, i_hi _⟩
    have hF := hF.si (c := 99) (k := 3) (v := r18) rfl
    have hK_MS := sp_sgD sp_MS hD hK_MS (by decide)
    have hK_UI := sp_sgD sp_UI hD hK_UI (by decide)
    have hK_CW := sp_sgD sp_CW hD hK_CW (by decide)
    have hK_BI := sp_sgD sp_BI hD hK_BI (by decide)
    have hK_BLI := sp_sgD sp_BLI hD hK_BLI (by decide)
    have hK_AP := sp_sgD sp_AP hD hK_AP (by decide)
    have hK_AU := sp_sgD sp_AU hD hK_AU (by decide)
    have hK_AB := sp_sgD sp_AB hD hK_AB (by decide)
    have hK_BG := sp_sgD sp_BG hD hK_BG (by decide)
    have hK_DR := sp_sgD (sp_dl 85 _ _) hD hK_DR (by decide)
    have hK_i_HX := sp_sgD (sp_imp sp_HX) hD hK_i_HX (by decide)
    refine lv_aload_n F.1 F.2.1 dX12_daybook_190 rfl (lv_at hl 0 rfl) ?_
    refine a_ic F (1 : Int32) dX12_daybook_191 (by decide) ?_
    refine a_puti F inX12 tyX12 tyX12_ok nmX12 hP hD hS 85 37 tc_85 rfl rfl (by decide) q1508 (fun _ h9 => h9) rfl (ty := .boolean) (tyX12_ok 37 (by decide)) (i_zn (Or.inr rfl)) (i_zf (Or.inr rfl)) dX12_daybook_192 (fun H locs hP hD hS => ?_)
    have hR := hR.si (c := 85) (k := 37) (v := (1 : Int32)) (by rw [ic_1]; exact (by omega : (0 : Int) ≤ (1 : Int) ∧ (1 : Int) ≤ 1))
    have hF := hF.si (c := 85) (k := 37) (v := (1 : Int32)) rfl
    have hK_MS := sp_sgD sp_MS hD hK_MS (by decide)
    have hK_UI := sp_si sp_UI hK_UI (c := 85) (k := 37) (v := (1 : Int32)) (fun j9 h9 q9 => by rw [q9] at h9; exact absurd h9 (by decide))
    have hK_CW := sp_sgD sp_CW hD hK_CW (by decide)
    have hK_BI := sp_sgD sp_BI hD hK_BI (by decide)
    have hK_BLI := sp_si sp_BLI hK_BLI (c := 85) (k := 37) (v := (1 : Int32)) (fun j9 h9 q9 => by rw [q9] at h9; exact absurd h9 (by decide))
    have hK_AP := sp_sgD sp_AP hD hK_AP (by decide)
    have hK_AU := sp_si sp_AU hK_AU (c := 85) (k := 37) (v := (1 : Int32)) (fun j9 h9 q9 => by rw [q9] at h9; exact absurd h9 (by decide))
    have hK_AB := sp_sgD sp_AB hD hK_AB (by decide)
    have hK_BG := sp_si sp_BG hK_BG (c := 85) (k := 37) (v := (1 : Int32)) (fun j9 h9 q9 => by rw [q9] at h9; exact absurd h9 (by decide))
    have hK_DR := sp_si (sp_dl 85 _ _) hK_DR (c := 85) (k := 37) (v := (1 : Int32)) (fun j9 h9 q9 => by rw [q9] at h9; exact absurd h9 (by decide))
    have hK_i_HX := sp_sgD (sp_imp sp_HX) hD hK_i_HX (by decide)
    refine lv_iload_n F.1 F.2.1 dX12_daybook_195 rfl (lv_at hl 1 rfl) ?_
    refine a_ic F (1 : Int32) dX12_daybook_196 (by decide) ?_
    refine b_ne F 251 dX12_daybook_197 (by decide) rfl ic_1 (fun c20 => ?_) (fun c20 => ?_)
    · exact L251 x2 _ _ _ _ hR hF hK_MS hK_UI hK_CW hK_BI hK_AP hK_AU hK_AB hK_DR hK_i_HX (by omega) (by omega) (i_trB (hF18 85 11 rfl) (by omega : (0 : Int) ≤ (u.1 85 11).toInt ∧ (u.1 85 11).toInt ≤ 0)) (by omega : (1 : Int) ≤ (1 : Int) ∧ (1 : Int) ≤ 1) (i_trB (hF18 99 2 rfl) (by omega : (0 : Int) ≤ (u.1 87 106).toInt ∧ (u.1 87 106).toInt ≤ 480)) hP hD hS (lv_sub hl [0, 1, 2] rfl)
    · refine lv_aload_n F.1 F.2.1 dX12_daybook_200 rfl (lv_at hl 0 rfl) ?_
      refine a_getr F inX12 hP 85 36 tc_85 rfl rfl (by decide) q1507 (fun _ h9 => h9) dX12_daybook_201 ?_
      refine a_ic F (1 : Int32) dX12_daybook_204 (by decide) ?_
      refine a_ialdK F hP 99 1 tc_99 rfl rfl (i_in ic_1 (by omega)) (v := (u18.1 99 1)) rfl dX12_daybook_205 ?_
      refine z_le F 251 dX12_daybook_206 (by decide) rfl (fun c21 => ?_) (fun c21 => ?_)
      · exact L251 x2 _ _ _ _ hR hF hK_MS hK_UI hK_CW hK_BI hK_AP hK_AU hK_AB hK_DR hK_i_HX (by omega) (by omega) (i_trB (hF18 85 11 rfl) (by omega : (0 : Int) ≤ (u.1 85 11).toInt ∧ (u.1 85 11).toInt ≤ 0)) (by omega : (1 : Int) ≤ (1 : Int) ∧ (1 : Int) ≤ 1) (i_trB (hF18 99 2 rfl) (by omega : (0 : Int) ≤ (u.1 87 106).toInt ∧ (u.1 87 106).toInt ≤ 480)) hP hD hS (lv_sub hl [0, 1, 2] rfl)
      · refine lv_aload_n F.1 F.2.1 dX12_daybook_209 rfl (lv_at hl 0 rfl) ?_
        refine a_Vv F hml hl.1 hA hP hD hS (As := []) (c_X12_keep_85__3 l dC dI ad cA nF _  hR hK_MS hK_UI hK_AP hK_AU) (cs_RX12_269 (d := 1) F.2.2.1 (by decide)) tc_85 rfl rfl rfl rfl (Nat.le_of_ble_eq_true rfl) dX12_daybook_210 ⟨Nat.le_refl 0, Nat.le_refl 0⟩ (fun u22 H locs hq hP hD hS => ?_)
        obtain ⟨hR, hF22, xr22, hK_MS, hK_UI, hK_AP, hK_AU⟩ := hq
        have hF := hF.tr hF22 (by decide)
        have hK_CW := sp_fr sp_CW hF22 (by decide) hK_CW
        have hK_BI := sp_fr sp_BI hF22 (by decide) hK_BI
        have hK_BLI := sp_fr sp_BLI hF22 (by decide) hK_BLI
        have hK_AB := sp_fr sp_AB hF22 (by decide) hK_AB
        have hK_BG := sp_fr sp_BG hF22 (by decide) hK_BG
        have hK_DR := sp_fr (sp_dl 85 _ _) hF22 (by decide) hK_DR
        have hK_i_HX := sp_fr (sp_imp sp_HX) hF22 (by decide) hK_i_HX
        have g23 : (0 : Int) ≤ (u22.1 85 24).toInt ∧ (u22.1 85 24).toInt ≤ 8 := hR 85 24
        have xr22 : 1 ≤ (u22.1 85 24).toInt := xr22
        refine a_ic F (0 : Int32) dX12_daybook_213 (by decide) ?_
        refine lv_istore_n (lv' := [(3, .int (0 : Int32)), (0, .ref (ad 85)), (1, .int p0), (2, .int x2)]) F.1 F.2.1 dX12_daybook_214 rfl hl (by decide) rfl (fun ls hl => ?_)
        exact L215 372 x2 (0 : Int32) _ _ _ _ hR hF (by decide) hK_MS hK_UI hK_CW hK_BI hK_AP hK_AU hK_AB hK_DR hK_i_HX (by omega) (by omega) (by decide) (i_trB ((hF22 85 11 rfl).trans (hF18 85 11 rfl)) (by omega : (0 : Int) ≤ (u.1 85 11).toInt ∧ (u.1 85 11).toInt ≤ 0)) (by omega : (1 : Int) ≤ (u22.1 85 24).toInt ∧ (u22.1 85 24).toInt ≤ 8) (i_trB (hF22 85 37 rfl) (by omega : (1 : Int) ≤ (1 : Int) ∧ (1 : Int) ≤ 1)) (i_trL (hF22 99 1 rfl) (by omega : (1 : Int) ≤ (u18.1 99 1).toInt)) (i_trB ((hF22 99 2 rfl).trans (hF18 99 2 rfl)) (by omega : (0 : Int) ≤ (u.1 87 106).toInt ∧ (u.1 87 106).toInt ≤ 480)) hP hD hS (lv_sub hl [1, 2, 3, 0] rfl)
  have L111 : ∀ (n111 : Nat) (x2 : Int32) (x3 : Int32) (u : ac_U) (H : Heap) (locs : List Loc) (ls : Array Slot), ac_R rg u → ac_Fr [(85, some 0), (85, some 2), (85, some 3), (85, some 4), (85, some 5), (85, some 11), (85, some 12), (85, some 13), (85, some 14), (85, some 15), (85, some 16), (85, some 18), (85, some 24), (85, some 35), (85, some 37), (87, none), (89, none), (93, none), (94, none), (99, none)] u0 u → 40 - x3.toInt < (n111 : Int) → msI u → unI u → cdI u → bfI u → blI u → apI u → auI u → abI u → bgI u → (dlI 85 u0 p0.toInt) u → (fun u => hxI u0 → hxI u) u → (0 : Int) ≤ p0.toInt ∧ p0.toInt ≤ 1 → (-1 : Int) ≤ x2.toInt ∧ x2.toInt ≤ 39 → (0 : Int) ≤ x3.toInt ∧ x3.toInt ≤ 40 → (0 : Int) ≤ (u.1 85 0).toInt ∧ (u.1 85 0).toInt ≤ 0 → (0 : Int) ≤ (u.1 85 11).toInt ∧ (u.1 85 11).toInt ≤ 0 → va_P (dC, dI) vwCl (ac_w ad cA (TT nF) u) H → va_D A (ac_w ad cA (TT nF) u) → va_S A s.heap H locs → lv_has ls 4 [(0, .ref (ad 85)), (1, .int p0), (2, .int x2), (3, .int x3)] → W p l e (ac_rm 8) s m [.ref (ad 85), .int p0].toArray below meth c H locs 0 0 (MQ below (va_Qi (fun (r : Int32) (u : ac_U) => ac_R rg u ∧ ac_Fr [(85, some 0), (85, some 2), (85, some 3), (85, some 4), (85, some 5), (85, some 11), (85, some 12), (85, some 13), (85, some 14), (85, some 15), (85, some 16), (85, some 18), (85, some 24), (85, some 35), (85, some 37), (87, none), (89, none), (93, none), (94, none), (99, none)] u0 u ∧ msI u ∧ unI u ∧ cdI u ∧ apI u ∧ auI u ∧ (dlI 85 u0 p0.toInt) u ∧ (hxI u0 → hxI u)) (ac_B (dC, dI) vwCl (ac_ty cA) ad cA (TT nF) A) A) [.ref (ad 85), .int p0].toArray s 0 0 A) (F0 m 111 ls []) := by
    intro n111
    induction n111 with
    | zero => intro x2 x3 u H locs ls hR hF hn111 hK_MS hK_UI hK_CW hK_BI hK_BLI hK_AP hK_AU hK_AB hK_BG hK_DR hK_i_HX f0 f1 f2 f3 f4 hP hD hS hl; exfalso; omega
    | succ n111 ih111 =>
      intro x2 x3 u H locs ls hR hF hn111 hK_MS hK_UI hK_CW hK_BI hK_BLI hK_AP hK_AU hK_AB hK_BG hK_DR hK_i_HX f0 f1 f2 f3 f4 hP hD hS hl
      have L160 : ∀ (x2 : Int32) (x3 : Int32) (u : ac_U) (H : Heap) (locs : List Loc) (ls : Array Slot), ac_R rg u → ac_Fr [(85, some 0), (85, some 2), (85, some 3), (85, some 4), (85, some 5), (85, some 11), (85, some 12), (85, some 13), (85, some 14), (85, some 15), (85, some 16), (85, some 18), (85, some 24), (85, some 35), (85, some 37), (87, none), (89, none), (93, none), (94, none), (99, none)] u0 u → msI u → unI u → cdI u → bfI u → blI u → apI u → auI u → abI u → bgI u → (dlI 85 u0 p0.toInt) u → (fun u => hxI u0 → hxI u) u → (0 : Int) ≤ p0.toInt ∧ p0.toInt ≤ 1 → (-1 : Int) ≤ x2.toInt ∧ x2.toInt ≤ 39 → (0 : Int) ≤ x3.toInt ∧ x3.toInt ≤ 39 → (0 : Int) ≤ (u.1 85 0).toInt ∧ (u.1 85 0).toInt ≤ 0 → (0 : Int) ≤ (u.1 85 11).toInt ∧ (u.1 85 11).toInt ≤ 0 → (1 : Int) ≤ (u.1 85 35).toInt ∧ (u.1 85 35).toInt ≤ 40 → (0 : Int) ≤ (u.1 99 0).toInt ∧ (u.1 99 0).toInt ≤ 6 → 40 - x3.toInt + 0 < ((n111 : Nat) : Int) + 1 → va_P (dC, dI) vwCl (ac_w ad cA (TT nF) u) H → va_D A (ac_w ad cA (TT nF) u) → va_S A s.heap H locs → lv_has ls 4 [(0, .ref (ad 85)), (1, .int p0), (2, .int x2), (3, .int x3)] → W p l e (ac_rm 8) s m [.ref (ad 85), .int p0].toArray below meth c H locs 0 0 (MQ below (va_Qi (fun (r : Int32) (u : ac_U) => ac_R rg u ∧ ac_Fr [(85, some 0), (85, some 2), (85, some 3), (85, some 4), (85, some 5), (85, some 11), (85, some 12), (85, some 13), (85, some 14), (85, some 15), (85, some 16), (85, some 18), (85, some 24), (85, some 35), (85, some 37), (87, none), (89, none), (93, none), (94, none), (99, none)] u0 u ∧ msI u ∧ unI u ∧ cdI u ∧ apI u ∧ auI u ∧ (dlI 85 u0 p0.toInt) u ∧ (hxI u0 → hxI u)) (ac_B (dC, dI) vwCl (ac_ty cA) ad cA (TT nF) A) A) [.ref (ad 85), .int p0].toArray s 0 0 A) (F0 m 160 ls []) := by
        intro x2 x3 u H locs ls hR hF hK_MS hK_UI hK_CW hK_BI hK_BLI hK_AP hK_AU hK_AB hK_BG hK_DR hK_i_HX f0 f1 f2 f3 f4 f5 f6 f7 hP hD hS hl
        refine a_iinc F (k := 3) (fun v24 => [(3, .int v24), (0, .ref (ad 85)), (1, .int p0), (2, .int x2)]) dX12_daybook_160 hl rfl rfl (by decide) (by omega) (by decide) (fun _ => rfl) (fun v24 ls hv24 hl => ?_)
        refine lv_goto (tgt := 111) F.1 F.2.1 dX12_daybook_163 (by decide) ?_
        have g25 : (0 : Int) ≤ (u.1 85 0).toInt ∧ (u.1 85 0).toInt ≤ 1 := hR 85 0
        have g26 : (0 : Int) ≤ (u.1 85 11).toInt ∧ (u.1 85 11).toInt ≤ 4 := hR 85 11
        exact ih111 x2 v24 _ _ _ _ hR hF (by omega) hK_MS hK_UI hK_CW hK_BI hK_BLI hK_AP hK_AU hK_AB hK_BG hK_DR hK_i_HX (by omega) (by omega) (by omega) (by omega : (0 : Int) ≤ (u.1 85 0).toInt ∧ (u.1 85 0).toInt ≤ 0) (by omega : (0 : Int) ≤ (u.1 85 11).toInt ∧ (u.1 85 11).toInt ≤ 0) hP hD hS (lv_sub hl [1, 2, 3, 0] rfl)
      refine lv_iload_n F.1 F.2.1 dX12_daybook_111 rfl (lv_at hl 3 rfl) ?_
      refine lv_aload_n F.1 F.2.1 dX12_daybook_112 rfl (lv_at hl 0 rfl) ?_
      have g27 : (0 : Int) ≤ (u.1 85 35).toInt ∧ (u.1 85 35).toInt ≤ 40 := hR 85 35
      refine a_geti F inX12 hP 85 35 tc_85 rfl rfl (by decide) q1506 (fun _ h9 => h9) (v := (u.1 85 35)) rfl dX12_daybook_113 ?_
      refine b_ge F 166 dX12_daybook_116 (by decide) rfl rfl (fun c28 => ?_) (fun c28 => ?_)
      · have g29 : (0 : Int) ≤ (u.1 85 0).toInt ∧ (u.1 85 0).toInt ≤ 1 := hR 85 0
        have g30 : (0 : Int) ≤ (u.1 85 11).toInt ∧ (u.1 85 11).toInt ≤ 4 := hR 85 11
        exact L166 x2 _ _ _ _ hR hF hK_MS hK_UI hK_CW hK_BI hK_BLI hK_AP hK_AU hK_AB hK_BG hK_DR hK_i_HX (by omega) (by omega) (by omega : (0 : Int) ≤ (u.1 85 0).toInt ∧ (u.1 85 0).toInt ≤ 0) (by omega : (0 : Int) ≤ (u.1 85 11).toInt ∧ (u.1 85 11).toInt ≤ 0) hP hD hS (lv_sub hl [0, 1, 2] rfl)
      · refine lv_iload_n F.1 F.2.1 dX12_daybook_119 rfl (lv_at hl 2 rfl) ?_
        refine z_ge F 166 dX12_daybook_120 (by decide) rfl (fun c31 => ?_) (fun c31 => ?_)
        · have g32 : (0 : Int) ≤ (u.1 85 0).toInt ∧ (u.1 85 0).toInt ≤ 1 := hR 85 0
          have g33 : (0 : Int) ≤ (u.1 85 11).toInt ∧ (u.1 85 11).toInt ≤ 4 := hR 85 11
          exact L166 x2 _ _ _ _ hR hF hK_MS hK_UI hK_CW hK_BI hK_BLI hK_AP hK_AU hK_AB hK_BG hK_DR hK_i_HX (by omega) (by omega) (by omega : (0 : Int) ≤ (u.1 85 0).toInt ∧ (u.1 85 0).toInt ≤ 0) (by omega : (0 : Int) ≤ (u.1 85 11).toInt ∧ (u.1 85 11).toInt ≤ 0) hP hD hS (lv_sub hl [0, 1, 2] rfl)
        · refine lv_aload_n F.1 F.2.1 dX12_daybook_123 rfl (lv_at hl 0 rfl) ?_
          refine a_getr F inX12 hP 85 36 tc_85 rfl rfl (by decide) q1507 (fun _ h9 => h9) dX12_daybook_124 ?_
          refine a_ic F (0 : Int32) dX12_daybook_127 (by decide) ?_
          refine lv_aload_n F.1 F.2.1 dX12_daybook_128 rfl (lv_at hl 0 rfl) ?_
          refine a_ic F (3 : Int32) dX12_daybook_129 (by decide) ?_
          refine lv_iload_n F.1 F.2.1 dX12_daybook_130 rfl (lv_at hl 3 rfl) ?_
          refine a_imul F dX12_daybook_131 ic_3 rfl (by omega) (fun v34 hv34 => ?_)
          refine a_Vi F hml hl.1 hA hP hD hS (As := [.int v34]) (c_X12_lives_85__3 l dC dI ad cA nF _ v34 hR (by omega) (by exact (by omega : v34.toInt < 3 * (u.1 85 35).toInt ∧ v34.toInt % 3 = 0)) hK_MS hK_AP hK_BLI hK_BG) (cs_RX12_404 (d := 3) F.2.2.1 (by decide)) tc_85 rfl rfl rfl rfl (Nat.le_of_ble_eq_true rfl) dX12_daybook_132 ⟨Nat.le_refl 0, Nat.le_refl 0⟩ (fun r35 u35 H locs hq hP hD hS => ?_)
          obtain ⟨hR, hF35, gr35, hK_MS, hK_AP, hJ35_CW, hJ35_UI, hJ35_BI, hJ35_AU, hJ35_AB, hJ35_BG, hJ35_HX⟩ := hq
          have hF := hF.tr hF35 (by decide)
          have hK_UI := hJ35_UI hK_UI
          have hK_CW := hJ35_CW hK_CW
          have hK_BI := hJ35_BI hK_BI
          have hK_BLI := sp_fr sp_BLI hF35 (by decide) hK_BLI
          have hK_AU := hJ35_AU hK_AU
          have hK_AB := hJ35_AB hK_AB
          have hK_BG := hJ35_BG hK_BG
          have hK_DR := sp_fr (sp_dl 85 _ _) hF35 (by decide) hK_DR
          have hK_i_HX : (fun u => hxI u0 → hxI u) u35 := fun h => hJ35_HX (hK_i_HX h)
          refine a_iastK F hP hD hS 99 0 tc_99 rfl rfl (i_in ic_0 (by omega)) dX12_daybook_135 (fun H locs hP hD hS => ?_)
          have hR := hR.si (c := 99) (k := 0) (v := r35) ⟨i_lo _, i_hi _⟩
          have hF := hF.si (c := 99) (k := 0) (v := r35) rfl
          have hK_MS := sp_sgD sp_MS hD hK_MS (by decide)
          have hK_UI := sp_sgD sp_UI hD hK_UI (by decide)
          have hK_CW := sp_sgD sp_CW hD hK_CW (by decide)
          have hK_BI := sp_sgD sp_BI hD hK_BI (by decide)
          have hK_BLI := sp_sgD sp_BLI hD hK_BLI (by decide)
          have hK_AP := sp_sgD sp_AP hD hK_AP (by decide)
          have hK_AU := sp_sgD sp_AU hD hK_AU (by decide)
          have hK_AB := sp_sgD sp_AB hD hK_AB (by decide)
          have hK_BG := sp_sgD sp_BG hD hK_BG (by decide)
          have hK_DR := sp_sgD (sp_dl 85 _ _) hD hK_DR (by decide)
          have hK_i_HX := sp_sgD (sp_imp sp_HX) hD hK_i_HX (by decide)
          refine lv_aload_n F.1 F.2.1 dX12_daybook_136 rfl (lv_at hl 0 rfl) ?_
          refine a_getr F inX12 hP 85 36 tc_85 rfl rfl (by decide) q1507 (fun _ h9 => h9) dX12_daybook_137 ?_
          refine a_ic F (0 : Int32) dX12_daybook_140 (by decide) ?_
          refine a_ialdK F hP 99 0 tc_99 rfl rfl (i_in ic_0 (by omega)) (v := r35) (rfl) dX12_daybook_141 ?_
          refine z_le F 150 dX12_daybook_142 (by decide) rfl (fun c36 => ?_) (fun c36 => ?_)
          · refine lv_aload_n F.1 F.2.1 dX12_daybook_150 rfl (lv_at hl 0 rfl) ?_
            refine a_getr F inX12 hP 85 36 tc_85 rfl rfl (by decide) q1507 (fun _ h9 => h9) dX12_daybook_151 ?_
            refine a_ic F (1 : Int32) dX12_daybook_154 (by decide) ?_
            refine lv_dup2_11 F.1 F.2.1 dX12_daybook_155 rfl rfl ?_
            refine a_ialdK F hP 99 1 tc_99 rfl rfl (i_in ic_1 (by omega)) (v := (u35.1 99 1)) rfl dX12_daybook_156 ?_
            refine a_ic F (1 : Int32) dX12_daybook_157 (by decide) ?_
            refine a_iaddU F dX12_daybook_158 (fun v37 => ?_)
            refine a_iastK F hP hD hS 99 1 tc_99 rfl rfl (i_in ic_1 (by omega)) dX12_daybook_159 (fun H locs hP hD hS => ?_)
            have hR := hR.si (c := 99) (k := 1) (v := v37) ⟨i_lo _, i_hi _⟩
            have hF := hF.si (c := 99) (k := 1) (v := v37) rfl
            have hK_MS := sp_sgD sp_MS hD hK_MS (by decide)
            have hK_UI := sp_sgD sp_UI hD hK_UI (by decide)
            have hK_CW := sp_sgD sp_CW hD hK_CW (by decide)
            have hK_BI := sp_sgD sp_BI hD hK_BI (by decide)
            have hK_BLI := sp_sgD sp_BLI hD hK_BLI (by decide)
            have hK_AP := sp_sgD sp_AP hD hK_AP (by decide)
            have hK_AU := sp_sgD sp_AU hD hK_AU (by decide)
            have hK_AB := sp_sgD sp_AB hD hK_AB (by decide)
            have hK_BG := sp_sgD sp_BG hD hK_BG (by decide)
            have hK_DR := sp_sgD (sp_dl 85 _ _) hD hK_DR (by decide)
            have hK_i_HX := sp_sgD (sp_imp sp_HX) hD hK_i_HX (by decide)
            exact L160 x2 x3 _ _ _ _ hR hF hK_MS hK_UI hK_CW hK_BI hK_BLI hK_AP hK_AU hK_AB hK_BG hK_DR hK_i_HX (by omega) (by omega) (by omega) (i_trB (hF35 85 0 rfl) (by omega : (0 : Int) ≤ (u.1 85 0).toInt ∧ (u.1 85 0).toInt ≤ 0)) (i_trB (hF35 85 11 rfl) (by omega : (0 : Int) ≤ (u.1 85 11).toInt ∧ (u.1 85 11).toInt ≤ 0)) (i_trB (hF35 85 35 rfl) (by omega : (1 : Int) ≤ (u.1 85 35).toInt ∧ (u.1 85 35).toInt ≤ 40)) (by omega : (0 : Int) ≤ r35.toInt ∧ r35.toInt ≤ 6) (by omega) hP hD hS (lv_sub hl [0, 1, 2, 3] rfl)
          · refine lv_iload_n F.1 F.2.1 dX12_daybook_145 rfl (lv_at hl 3 rfl) ?_
            refine lv_istore_n (lv' := [(2, .int x3), (0, .ref (ad 85)), (1, .int p0), (3, .int x3)]) F.1 F.2.1 dX12_daybook_146 rfl hl (by decide) rfl (fun ls hl => ?_)
            refine lv_goto (tgt := 160) F.1 F.2.1 dX12_daybook_147 (by decide) ?_
            exact L160 x3 x3 _ _ _ _ hR hF hK_MS hK_UI hK_CW hK_BI hK_BLI hK_AP hK_AU hK_AB hK_BG hK_DR hK_i_HX (by omega) (by omega) (by omega) (i_trB (hF35 85 0 rfl) (by omega : (0 : Int) ≤ (u.1 85 0).toInt ∧ (u.1 85 0).toInt ≤ 0)) (i_trB (hF35 85 11 rfl) (by omega : (0 : Int) ≤ (u.1 85 11).toInt ∧ (u.1 85 11).toInt ≤ 0)) (i_trB (hF35 85 35 rfl) (by omega : (1 : Int) ≤ (u.1 85 35).toInt ∧ (u.1 85 35).toInt ≤ 40)) (by omega : (0 : Int) ≤ r35.toInt ∧ r35.toInt ≤ 6) (by omega) hP hD hS (lv_sub hl [1, 2, 0, 3] rfl)
  have L89 : ∀ (n89 : Nat) (x2 : Int32) (u : ac_U) (H : Heap) (locs : List Loc) (ls : Array Slot), ac_R rg u → ac_Fr [(85, some 0), (85, some 2), (85, some 3), (85, some 4), (85, some 5), (85, some 11), (85, some 12), (85, some 13), (85, some 14), (85, some 15), (85, some 16), (85, some 18), (85, some 24), (85, some 35), (85, some 37), (87, none), (89, none), (93, none), (94, none), (99, none)] u0 u → 4 - x2.toInt < (n89 : Int) → msI u → unI u → cdI u → bfI u → blI u → apI u → auI u → abI u → bgI u → (dlI 85 u0 p0.toInt) u → (fun u => hxI u0 → hxI u) u → (0 : Int) ≤ p0.toInt ∧ p0.toInt ≤ 1 → (0 : Int) ≤ x2.toInt ∧ x2.toInt ≤ 4 → (0 : Int) ≤ (u.1 85 0).toInt ∧ (u.1 85 0).toInt ≤ 0 → (0 : Int) ≤ (u.1 85 11).toInt ∧ (u.1 85 11).toInt ≤ 0 → va_P (dC, dI) vwCl (ac_w ad cA (TT nF) u) H → va_D A (ac_w ad cA (TT nF) u) → va_S A s.heap H locs → lv_has ls 4 [(0, .ref (ad 85)), (1, .int p0), (2, .int x2)] → W p l e (ac_rm 8) s m [.ref (ad 85), .int p0].toArray below meth c H locs 0 0 (MQ below (va_Qi (fun (r : Int32) (u : ac_U) => ac_R rg u ∧ ac_Fr [(85, some 0), (85, some 2), (85, some 3), (85, some 4), (85, some 5), (85, some 11), (85, some 12), (85, some 13), (85, some 14), (85, some 15), (85, some 16), (85, some 18), (85, some 24), (85, some 35), (85, some 37), (87, none), (89, none), (93, none), (94, none), (99, none)] u0 u ∧ msI u ∧ unI u ∧ cdI u ∧ apI u ∧ auI u ∧ (dlI 85 u0 p0.toInt) u ∧ (hxI u0 → hxI u)) (ac_B (dC, dI) vwCl (ac_ty cA) ad cA (TT nF) A) A) [.ref (ad 85), .int p0].toArray s 0 0 A) (F0 m 89 ls []) := by
    intro n89
    induction n89 with
    | zero => intro x2 u H locs ls hR hF hn89 hK_MS hK_UI hK_CW hK_BI hK_BLI hK_AP hK_AU hK_AB hK_BG hK_DR hK_i_HX f0 f1 f2 f3 hP hD hS hl; exfalso; omega
    | succ n89 ih89 =>
      intro x2 u H locs ls hR hF hn89 hK_MS hK_UI hK_CW hK_BI hK_BLI hK_AP hK_AU hK_AB hK_BG hK_DR hK_i_HX f0 f1 f2 f3 hP hD hS hl
      refine lv_iload_n F.1 F.2.1 dX12_daybook_89 rfl (lv_at hl 2 rfl) ?_
      refine a_ic F (4 : Int32) dX12_daybook_90 (by decide) ?_
      refine b_ge F 107 dX12_daybook_91 (by decide) rfl ic_4 (fun c38 => ?_) (fun c38 => ?_)
      · refine a_ic F (-1 : Int32) dX12_daybook_107 (by decide) ?_
        refine lv_istore_n (lv' := [(2, .int (-1 : Int32)), (0, .ref (ad 85)), (1, .int p0)]) F.1 F.2.1 dX12_daybook_108 rfl hl (by decide) rfl (fun ls hl => ?_)
        refine a_ic F (0 : Int32) dX12_daybook_109 (by decide) ?_
        refine lv_istore_n (lv' := [(3, .int (0 : Int32)), (2, .int (-1 : Int32)), (0, .ref (ad 85)), (1, .int p0)]) F.1 F.2.1 dX12_daybook_110 rfl hl (by decide) rfl (fun ls hl => ?_)
        have g39 : (0 : Int) ≤ (u.1 85 0).toInt ∧ (u.1 85 0).toInt ≤ 1 := hR 85 0
        have g40 : (0 : Int) ≤ (u.1 85 11).toInt ∧ (u.1 85 11).toInt ≤ 4 := hR 85 11
        exact L111 42 (-1 : Int32) (0 : Int32) _ _ _ _ hR hF (by decide) hK_MS hK_UI hK_CW hK_BI hK_BLI hK_AP hK_AU hK_AB hK_BG hK_DR hK_i_HX (by omega) (by decide) (by decide) (by omega : (0 : Int) ≤ (u.1 85 0).toInt ∧ (u.1 85 0).toInt ≤ 0) (by omega : (0 : Int) ≤ (u.1 85 11).toInt ∧ (u.1 85 11).toInt ≤ 0) hP hD hS (lv_sub hl [2, 3, 1, 0] rfl)
      · refine lv_aload_n F.1 F.2.1 dX12_daybook_94 rfl (lv_at hl 0 rfl) ?_
        refine a_getr F inX12 hP 85 36 tc_85 rfl rfl (by decide) q1507 (fun _ h9 => h9) dX12_daybook_95 ?_
        refine lv_iload_n F.1 F.2.1 dX12_daybook_98 rfl (lv_at hl 2 rfl) ?_
        refine a_ic F (0 : Int32) dX12_daybook_99 (by decide) ?_
        refine a_iast F hP hD hS 99 tc_99 rfl (i_in rfl (by omega)) dX12_daybook_100 (fun H locs hP hD hS => ?_)
        have hR := hR.si (c := 99) (k := x2.toNatClampNeg) (v := (0 : Int32)) ⟨i_lo _, i_hi _⟩
        have hF := hF.si (c := 99) (k := x2.toNatClampNeg) (v := (0 : Int32)) rfl
        have hK_MS := sp_sgD sp_MS hD hK_MS (by decide)
        have hK_UI := sp_sgD sp_UI hD hK_UI (by decide)
        have hK_CW := sp_sgD sp_CW hD hK_CW (by decide)
        have hK_BI := sp_sgD sp_BI hD hK_BI (by decide)
        have hK_BLI := sp_sgD sp_BLI hD hK_BLI (by decide)
        have hK_AP := sp_sgD sp_AP hD hK_AP (by decide)
        have hK_AU := sp_sgD sp_AU hD hK_AU (by decide)
        have hK_AB := sp_sgD sp_AB hD hK_AB (by decide)
        have hK_BG := sp_sgD sp_BG hD hK_BG (by decide)
        have hK_DR := sp_sgD (sp_dl 85 _ _) hD hK_DR (by decide)
        have hK_i_HX := sp_sgD (sp_imp sp_HX) hD hK_i_HX (by decide)
        refine a_iinc F (k := 2) (fun v41 => [(2, .int v41), (0, .ref (ad 85)), (1, .int p0)]) dX12_daybook_101 hl rfl rfl (by decide) (by omega) (by decide) (fun _ => rfl) (fun v41 ls hv41 hl => ?_)
        refine lv_goto (tgt := 89) F.1 F.2.1 dX12_daybook_104 (by decide) ?_
        have g42 : (0 : Int) ≤ (u.1 85 0).toInt ∧ (u.1 85 0).toInt ≤ 1 := hR 85 0
        have g43 : (0 : Int) ≤ (u.1 85 11).toInt ∧ (u.1 85 11).toInt ≤ 4 := hR 85 11
        exact ih89 v41 _ _ _ _ hR hF (by omega) hK_MS hK_UI hK_CW hK_BI hK_BLI hK_AP hK_AU hK_AB hK_BG hK_DR hK_i_HX (by omega) (by omega) (by omega : (0 : Int) ≤ (u.1 85 0).toInt ∧ (u.1 85 0).toInt ≤ 0) (by omega : (0 : Int) ≤ (u.1 85 11).toInt ∧ (u.1 85 11).toInt ≤ 0) hP hD hS (lv_sub hl [1, 2, 0] rfl)
  have L62 : ∀ (u : ac_U) (H : Heap) (locs : List Loc) (ls : Array Slot), ac_R rg u → ac_Fr [(85, some 0), (85, some 2), (85, some 3), (85, some 4), (85, some 5), (85, some 11), (85, some 12), (85, some 13), (85, some 14), (85, some 15), (85, some 16), (85, some 18), (85, some 24), (85, some 35), (85, some 37), (87, none), (89, none), (93, none), (94, none), (99, none)] u0 u → msI u → unI u → cdI u → apI u → auI u → (dlI 85 u0 p0.toInt) u → (fun u => hxI u0 → hxI u) u → (0 : Int) ≤ (u.1 85 0).toInt ∧ (u.1 85 0).toInt ≤ 0 → va_P (dC, dI) vwCl (ac_w ad cA (TT nF) u) H → va_D A (ac_w ad cA (TT nF) u) → va_S A s.heap H locs → lv_has ls 4 [(0, .ref (ad 85))] → W p l e (ac_rm 8) s m [.ref (ad 85), .int p0].toArray below meth c H locs 0 0 (MQ below (va_Qi (fun (r : Int32) (u : ac_U) => ac_R rg u ∧ ac_Fr [(85, some 0), (85, some 2), (85, some 3), (85, some 4), (85, some 5), (85, some 11), (85, some 12), (85, some 13), (85, some 14), (85, some 15), (85, some 16), (85, some 18), (85, some 24), (85, some 35), (85, some 37), (87, none), (89, none), (93, none), (94, none), (99, none)] u0 u ∧ msI u ∧ unI u ∧ cdI u ∧ apI u ∧ auI u ∧ (dlI 85 u0 p0.toInt) u ∧ (hxI u0 → hxI u)) (ac_B (dC, dI) vwCl (ac_ty cA) ad cA (TT nF) A) A) [.ref (ad 85), .int p0].toArray s 0 0 A) (F0 m 62 ls []) := by
    intro u H locs ls hR hF hK_MS hK_UI hK_CW hK_AP hK_AU hK_DR hK_i_HX f0 hP hD hS hl
    refine a_bp F (-2 : Int32) dX12_daybook_62 (by decide) ?_
    refine lv_aload_n F.1 F.2.1 dX12_daybook_64 rfl (lv_at hl 0 rfl) ?_
    refine a_geti F inX12 hP 85 16 tc_85 rfl rfl (by decide) q1487 (fun _ h9 => h9) (v := (u.1 85 16)) rfl dX12_daybook_65 ?_
    refine a_isubU F dX12_daybook_68 (fun v44 => ?_)
    exact a_reti F hr hlocks hP hD hS dX12_daybook_69 ⟨hR, hF, hK_MS, hK_UI, hK_CW, hK_AP, hK_AU, hK_DR, hK_i_HX⟩
  have L39 : ∀ (n39 : Nat) (u : ac_U) (H : Heap) (locs : List Loc) (ls : Array Slot), ac_R rg u → ac_Fr [(85, some 0), (85, some 2), (85, some 3), (85, some 4), (85, some 5), (85, some 11), (85, some 12), (85, some 13), (85, some 14), (85, some 15), (85, some 16), (85, some 18), (85, some 24), (85, some 35), (85, some 37), (87, none), (89, none), (93, none), (94, none), (99, none)] u0 u → 41 - (u.1 85 35).toInt < (n39 : Int) → msI u → unI u → cdI u → blI u → apI u → auI u → bgI u → (dlI 85 u0 p0.toInt) u → (fun u => hxI u0 → hxI u) u → (0 : Int) ≤ p0.toInt ∧ p0.toInt ≤ 1 → (0 : Int) ≤ (u.1 85 0).toInt ∧ (u.1 85 0).toInt ≤ 0 → (0 : Int) ≤ (u.1 85 35).toInt ∧ (u.1 85 35).toInt ≤ 40 → va_P (dC, dI) vwCl (ac_w ad cA (TT nF) u) H → va_D A (ac_w ad cA (TT nF) u) → va_S A s.heap H locs → lv_has ls 4 [(0, .ref (ad 85)), (1, .int p0)] → W p l e (ac_rm 8) s m [.ref (ad 85), .int p0].toArray below meth c H locs 0 0 (MQ below (va_Qi (fun (r : Int32) (u : ac_U) => ac_R rg u ∧ ac_Fr [(85, some 0), (85, some 2), (85, some 3), (85, some 4), (85, some 5), (85, some 11), (85, some 12), (85, some 13), (85, some 14), (85, some 15), (85, some 16), (85, some 18), (85, some 24), (85, some 35), (85, some 37), (87, none), (89, none), (93, none), (94, none), (99, none)] u0 u ∧ msI u ∧ unI u ∧ cdI u ∧ apI u ∧ auI u ∧ (dlI 85 u0 p0.toInt) u ∧ (hxI u0 → hxI u)) (ac_B (dC, dI) vwCl (ac_ty cA) ad cA (TT nF) A) A) [.ref (ad 85), .int p0].toArray s 0 0 A) (F0 m 39 ls []) := by
    intro n39
    induction n39 with
    | zero => intro u H locs ls hR hF hn39 hK_MS hK_UI hK_CW hK_BLI hK_AP hK_AU hK_BG hK_DR hK_i_HX f0 f1 f2 hP hD hS hl; have gz0 : (0 : Int) ≤ (u.1 85 35).toInt ∧ (u.1 85 35).toInt ≤ 40 := hR 85 35; exfalso; omega
    | succ n39 ih39 =>
      intro u H locs ls hR hF hn39 hK_MS hK_UI hK_CW hK_BLI hK_AP hK_AU hK_BG hK_DR hK_i_HX f0 f1 f2 hP hD hS hl
      refine lv_aload_n F.1 F.2.1 dX12_daybook_39 rfl (lv_at hl 0 rfl) ?_
      have g45 : (0 : Int) ≤ (u.1 85 11).toInt ∧ (u.1 85 11).toInt ≤ 4 := hR 85 11
      refine a_geti F inX12 hP 85 11 tc_85 rfl rfl (by decide) q1482 (fun _ h9 => h9) (v := (u.1 85 11)) rfl dX12_daybook_40 ?_
      refine z_eq F 83 dX12_daybook_43 (by decide) rfl (fun c46 => ?_) (fun c46 => ?_)
      · refine lv_aload_n F.1 F.2.1 dX12_daybook_83 rfl (lv_at hl 0 rfl) ?_
        have g48 : (0 : Int) ≤ (u.1 85 35).toInt ∧ (u.1 85 35).toInt ≤ 40 := hR 85 35
        refine a_Vv F hml hl.1 hA hP hD hS (As := []) (c_X12_tries_85__3 l dC dI ad cA nF _  hR hK_MS hK_AP) (cs_RX12_392 (d := 1) F.2.2.1 (by decide)) tc_85 rfl rfl rfl rfl (Nat.le_of_ble_eq_true rfl) dX12_daybook_84 ⟨Nat.le_refl 0, Nat.le_refl 0⟩ (fun u47 H locs hq hP hD hS => ?_)
        obtain ⟨hR, hF47, hK_BI, hK_AB⟩ := hq
        have hF := hF.tr hF47 (by decide)
        have hK_MS := sp_fr sp_MS hF47 (by decide) hK_MS
        have hK_UI := sp_fr sp_UI hF47 (by decide) hK_UI
        have hK_CW := sp_fr sp_CW hF47 (by decide) hK_CW
        have hK_BLI := sp_fr sp_BLI hF47 (by decide) hK_BLI
        have hK_AP := sp_fr sp_AP hF47 (by decide) hK_AP
        have hK_AU := sp_fr sp_AU hF47 (by decide) hK_AU
        have hK_BG := sp_fr sp_BG hF47 (by decide) hK_BG
        have hK_DR := sp_fr (sp_dl 85 _ _) hF47 (by decide) hK_DR
        have hK_i_HX := sp_fr (sp_imp sp_HX) hF47 (by decide) hK_i_HX
        refine a_ic F (0 : Int32) dX12_daybook_87 (by decide) ?_
        refine lv_istore_n (lv' := [(2, .int (0 : Int32)), (0, .ref (ad 85)), (1, .int p0)]) F.1 F.2.1 dX12_daybook_88 rfl hl (by decide) rfl (fun ls hl => ?_)
        exact L89 6 (0 : Int32) _ _ _ _ hR hF (by decide) hK_MS hK_UI hK_CW hK_BI hK_BLI hK_AP hK_AU hK_AB hK_BG hK_DR hK_i_HX (by omega) (by decide) (i_trB (hF47 85 0 rfl) (by omega : (0 : Int) ≤ (u.1 85 0).toInt ∧ (u.1 85 0).toInt ≤ 0)) (i_trB (hF47 85 11 rfl) (by omega : (0 : Int) ≤ (u.1 85 11).toInt ∧ (u.1 85 11).toInt ≤ 0)) hP hD hS (lv_sub hl [1, 2, 0] rfl)
      · refine lv_aload_n F.1 F.2.1 dX12_daybook_46 rfl (lv_at hl 0 rfl) ?_
        have g50 : (0 : Int) ≤ (u.1 85 35).toInt ∧ (u.1 85 35).toInt ≤ 40 := hR 85 35
        refine a_Vi F hml hl.1 hA hP hD hS (As := []) (c_X12_bookLine_85__3 l dC dI ad cA nF _  hR hK_BLI hK_BG) (cs_RX12_401 (d := 4) F.2.2.1 (by decide)) tc_85 rfl rfl rfl rfl (Nat.le_of_ble_eq_true rfl) dX12_daybook_47 ⟨Nat.le_refl 0, Nat.le_refl 0⟩ (fun r49 u49 H locs hq hP hD hS => ?_)
        obtain ⟨hR, hF49, gr49, xr49, hK_r49_BLJ, hK_r49_BH⟩ := hq
        have hF := hF.tr hF49 (by decide)
        have hK_MS := sp_fr sp_MS hF49 (by decide) hK_MS
        have hK_UI := sp_fr sp_UI hF49 (by decide) hK_UI
        have hK_CW := sp_fr sp_CW hF49 (by decide) hK_CW
        have hK_AP := sp_fr sp_AP hF49 (by decide) hK_AP
        have hK_AU := sp_fr sp_AU hF49 (by decide) hK_AU
        have hK_DR := sp_fr (sp_dl 85 _ _) hF49 (by decide) hK_DR
        have hK_i_HX := sp_fr (sp_imp sp_HX) hF49 (by decide) hK_i_HX
        have k51 : (u49.1 85 35).toInt = (u.1 85 35).toInt := congrArg Int32.toInt (show u49.1 85 35 = (u.1 85 35) from hF49 85 35 rfl)
        have xr49 : r49.toInt ≠ 0 → (u49.1 85 35).toInt ≤ 39 := xr49
        refine z_eq F 62 dX12_daybook_50 (by decide) rfl (fun c52 => ?_) (fun c52 => ?_)
        · exact L62 _ _ _ _ hR hF hK_MS hK_UI hK_CW hK_AP hK_AU hK_DR hK_i_HX (i_trB (hF49 85 0 rfl) (by omega : (0 : Int) ≤ (u.1 85 0).toInt ∧ (u.1 85 0).toInt ≤ 0)) hP hD hS (lv_sub hl [0] rfl)
        · have hK_BLJ := hK_r49_BLJ (by omega)
          have hK_BH := hK_r49_BH (by omega)
          refine lv_aload_n F.1 F.2.1 dX12_daybook_53 rfl (lv_at hl 0 rfl) ?_
          refine a_bp F (59 : Int32) dX12_daybook_54 (by decide) ?_
          refine a_Vi F hml hl.1 hA hP hD hS (As := [.int (59 : Int32)]) (c_X12_sign_85 l dC dI ad cA nF _ (59 : Int32) hR (by decide)) (cs_RX12_238 (d := 3) F.2.2.1 (by decide)) tc_85 rfl rfl rfl rfl (Nat.le_of_ble_eq_true rfl) dX12_daybook_56 ⟨Nat.le_refl 0, Nat.le_refl 0⟩ (fun r53 u53 H locs hq hP hD hS => ?_)
          obtain ⟨hR, hF53, gr53⟩ := hq
          have hF := hF.tr hF53 (by decide)
          have hK_MS := sp_fr sp_MS hF53 (by decide) hK_MS
          have hK_UI := sp_fr sp_UI hF53 (by decide) hK_UI
          have hK_CW := sp_fr sp_CW hF53 (by decide) hK_CW
          have hK_AP := sp_fr sp_AP hF53 (by decide) hK_AP
          have hK_AU := sp_fr sp_AU hF53 (by decide) hK_AU
          have hK_DR := sp_fr (sp_dl 85 _ _) hF53 (by decide) hK_DR
          have hK_i_HX := sp_fr (sp_imp sp_HX) hF53 (by decide) hK_i_HX
          have hK_r49_BLJ := sp_fr (sp_imp sp_BLJ) hF53 (by decide) hK_r49_BLJ
          have hK_r49_BH := sp_fr (sp_imp sp_BH) hF53 (by decide) hK_r49_BH
          have hK_BLJ := sp_fr sp_BLJ hF53 (by decide) hK_BLJ
          have hK_BH := sp_fr sp_BH hF53 (by decide) hK_BH
          refine z_ne F 70 dX12_daybook_59 (by decide) rfl (fun c54 => ?_) (fun c54 => ?_)
          · refine lv_aload_n F.1 F.2.1 dX12_daybook_70 rfl (lv_at hl 0 rfl) ?_
            refine lv_dup F.1 F.2.1 dX12_daybook_71 rfl ?_
            refine a_geti F inX12 hP 85 35 tc_85 rfl rfl (by decide) q1506 (fun _ h9 => h9) (v := (u.1 85 35)) ((hF53 85 35 rfl).trans (hF49 85 35 rfl)) dX12_daybook_72 ?_
            refine a_ic F (1 : Int32) dX12_daybook_75 (by decide) ?_
            refine a_iadd F dX12_daybook_76 rfl ic_1 (by omega) (fun v55 hv55 => ?_)
            refine a_puti F inX12 tyX12 tyX12_ok nmX12 hP hD hS 85 35 tc_85 rfl rfl (by decide) q1506 (fun _ h9 => h9) rfl (ty := .int) (tyX12_ok 35 (by decide)) rfl rfl dX12_daybook_77 (fun H locs hP hD hS => ?_)
            have hR := hR.si (c := 85) (k := 35) (v := v55) (by omega : (0 : Int) ≤ v55.toInt ∧ v55.toInt ≤ 40)
            have hF := hF.si (c := 85) (k := 35) (v := v55) rfl
            have hO_MS := hK_MS
            have hO_UI := hK_UI
            have hO_CW := hK_CW
            have hO_AP := hK_AP
            have hO_AU := hK_AU
            have hO_DR := hK_DR
            have hO_i_HX := hK_i_HX
            have hO_r49_BLJ := hK_r49_BLJ
            have hO_r49_BH := hK_r49_BH
            have hO_BLJ := hK_BLJ
            have hO_BH := hK_BH
            have hN_BLI := bl_s hO_BLJ (i := (u.1 85 35)) (v := v55) ((hF53 85 35 rfl).trans (hF49 85 35 rfl)) (by omega)
            have hN_BG := bg_s hO_BH (i := (u.1 85 35)) (v := v55) ((hF53 85 35 rfl).trans (hF49 85 35 rfl)) (by omega)
            have hK_MS := sp_sgD sp_MS hD hK_MS (by decide)
            have hK_UI := sp_si sp_UI hK_UI (c := 85) (k := 35) (v := v55) (fun j9 h9 q9 => by rw [q9] at h9; exact absurd h9 (by decide))
            have hK_CW := sp_sgD sp_CW hD hK_CW (by decide)
            have hK_AP := sp_sgD sp_AP hD hK_AP (by decide)
            have hK_AU := sp_si sp_AU hK_AU (c := 85) (k := 35) (v := v55) (fun j9 h9 q9 => by rw [q9] at h9; exact absurd h9 (by decide))
            have hK_DR := sp_si (sp_dl 85 _ _) hK_DR (c := 85) (k := 35) (v := v55) (fun j9 h9 q9 => by rw [q9] at h9; exact absurd h9 (by decide))
            have hK_i_HX := sp_sgD (sp_imp sp_HX) hD hK_i_HX (by decide)
            have hK_BLI := hN_BLI
            have hK_BG := hN_BG
            refine lv_goto (tgt := 39) F.1 F.2.1 dX12_daybook_80 (by decide) ?_
            exact ih39 _ _ _ _ hR hF (by omega : 41 - v55.toInt < ((n39 : Nat) : Int)) hK_MS hK_UI hK_CW hK_BLI hK_AP hK_AU hK_BG hK_DR hK_i_HX (by omega) (i_trB ((hF53 85 0 rfl).trans (hF49 85 0 rfl)) (by omega : (0 : Int) ≤ (u.1 85 0).toInt ∧ (u.1 85 0).toInt ≤ 0)) (by omega : (0 : Int) ≤ v55.toInt ∧ v55.toInt ≤ 40) hP hD hS (lv_sub hl [0, 1] rfl)
          · exact L62 _ _ _ _ hR hF hK_MS hK_UI hK_CW hK_AP hK_AU hK_DR hK_i_HX (i_trB ((hF53 85 0 rfl).trans (hF49 85 0 rfl)) (by omega : (0 : Int) ≤ (u.1 85 0).toInt ∧ (u.1 85 0).toInt ≤ 0)) hP hD hS (lv_sub hl [0] rfl)
  refine lv_aload_n F.1 F.2.1 dX12_daybook_0 rfl (lv_at hl 0 rfl) ?_
  refine a_ic F (0 : Int32) dX12_daybook_1 (by decide) ?_
  refine a_puti F inX12 tyX12 tyX12_ok nmX12 hP hD hS 85 0 tc_85 rfl rfl (by decide) q1471 (fun _ h9 => h9) rfl (ty := .int) (tyX12_ok 0 (by decide)) rfl rfl dX12_daybook_2 (fun H locs hP hD hS => ?_)
  have hR := hR.si (c := 85) (k := 0) (v := (0 : Int32)) (by rw [ic_0]; exact (by omega : (0 : Int) ≤ (0 : Int) ∧ (0 : Int) ≤ 1))
  have hF := hF.si (c := 85) (k := 0) (v := (0 : Int32)) rfl
  have hK_MS := sp_sgD sp_MS hD hK_MS (by decide)
  have hK_UI := sp_si sp_UI hK_UI (c := 85) (k := 0) (v := (0 : Int32)) (fun j9 h9 q9 => by rw [q9] at h9; exact absurd h9 (by decide))
  have hK_CW := sp_sgD sp_CW hD hK_CW (by decide)
  have hK_AP := sp_sgD sp_AP hD hK_AP (by decide)
  have hK_AU := sp_si sp_AU hK_AU (c := 85) (k := 0) (v := (0 : Int32)) (fun j9 h9 q9 => by rw [q9] at h9; exact absurd h9 (by decide))
  have hK_i_HX := sp_sgD (sp_imp sp_HX) hD hK_i_HX (by decide)
  refine lv_iload_n F.1 F.2.1 dX12_daybook_5 rfl (lv_at hl 1 rfl) ?_
  refine a_ic F (0 : Int32) dX12_daybook_6 (by decide) ?_
  refine a_ic F (1 : Int32) dX12_daybook_7 (by decide) ?_
  refine a_Si F hml hl.1 hA hP hD hS (As := [.int p0, .int (0 : Int32), .int (1 : Int32)]) (c_X12_isIn_f l dC dI ad cA nF _ p0 (0 : Int32) (1 : Int32) hR (by decide)) (cs_RX12_187 (d := 1) F.2.2.1 (by decide)) rfl rfl (Nat.le_of_ble_eq_true rfl) dX12_daybook_8 ⟨Nat.le_refl 0, Nat.le_refl 0⟩ (fun r56 uN56 H locs hq hP hD hS => ?_)
  obtain ⟨hu56, gr56, xr56⟩ := hq
  rw [hu56] at hP hD
  have xr56 : (r56.toInt ≠ 0 → (0 : Int) ≤ p0.toInt ∧ p0.toInt ≤ (1 : Int)) ∧ (r56.toInt = 0 → p0.toInt < (0 : Int) ∨ (1 : Int) < p0.toInt) := xr56
  refine z_ne F 18 dX12_daybook_11 (by decide) rfl (fun c57 => ?_) (fun c57 => ?_)
  · refine lv_aload_n F.1 F.2.1 dX12_daybook_18 rfl (lv_at hl 0 rfl) ?_
    refine a_sp F (500 : Int32) dX12_daybook_19 (by decide) ?_
    have hP_MS := hK_MS
    have hP_UI := hK_UI
    have hP_CW := hK_CW
    have hP_AP := hK_AP
    have hP_AU := hK_AU
    have hP_i_HX := hK_i_HX
    have g59 : (0 : Int) ≤ (u0.1 85 35).toInt ∧ (u0.1 85 35).toInt ≤ 40 := hR 85 35
    refine a_Vv F hml hl.1 hA hP hD hS (As := [.int (500 : Int32)]) (c_X12_taken_85__2 l dC dI ad cA nF _ (500 : Int32) hR (by decide)) (cs_RX12_229 (d := 1) F.2.2.1 (by decide)) tc_85 rfl rfl rfl rfl (Nat.le_of_ble_eq_true rfl) dX12_daybook_22 ⟨Nat.le_refl 0, Nat.le_refl 0⟩ (fun u58 H locs hq hP hD hS => ?_)
    obtain ⟨hR, hF58, hK_LR⟩ := hq
    have hF := hF.tr hF58 (by decide)
    have hK_MS := sp_fr sp_MS hF58 (by decide) hK_MS
    have hK_UI := sp_fr sp_UI hF58 (by decide) hK_UI
    have hK_CW := sp_fr sp_CW hF58 (by decide) hK_CW
    have hK_AP := sp_fr sp_AP hF58 (by decide) hK_AP
    have hK_AU := sp_fr sp_AU hF58 (by decide) hK_AU
    have hK_i_HX := sp_fr (sp_imp sp_HX) hF58 (by decide) hK_i_HX
    have hK_DR := dl_0 (p := p0.toInt) (u0 := u0) (by omega) hK_LR
    refine lv_aload_n F.1 F.2.1 dX12_daybook_25 rfl (lv_at hl 0 rfl) ?_
    refine a_ic F (0 : Int32) dX12_daybook_26 (by decide) ?_
    refine a_puti F inX12 tyX12 tyX12_ok nmX12 hP hD hS 85 15 tc_85 rfl rfl (by decide) q1486 (fun _ h9 => h9) rfl (ty := .int) (tyX12_ok 15 (by decide)) rfl rfl dX12_daybook_27 (fun H locs hP hD hS => ?_)
    have hR := hR.si (c := 85) (k := 15) (v := (0 : Int32)) ⟨i_lo _, i_hi _⟩
    have hF := hF.si (c := 85) (k := 15) (v := (0 : Int32)) rfl
    have hK_MS := sp_sgD sp_MS hD hK_MS (by decide)
    have hK_UI := sp_si sp_UI hK_UI (c := 85) (k := 15) (v := (0 : Int32)) (fun j9 h9 q9 => by rw [q9] at h9; exact absurd h9 (by decide))
    have hK_CW := sp_sgD sp_CW hD hK_CW (by decide)
    have hK_AP := sp_sgD sp_AP hD hK_AP (by decide)
    have hK_AU := sp_si sp_AU hK_AU (c := 85) (k := 15) (v := (0 : Int32)) (fun j9 h9 q9 => by rw [q9] at h9; exact absurd h9 (by decide))
    have hK_i_HX := sp_sgD (sp_imp sp_HX) hD hK_i_HX (by decide)
    have hK_LR := sp_si (sp_ln0 85) hK_LR (c := 85) (k := 15) (v := (0 : Int32)) (fun j9 h9 q9 => by rw [q9] at h9; exact absurd h9 (by decide))
    have hK_DR := sp_si (sp_dl 85 _ _) hK_DR (c := 85) (k := 15) (v := (0 : Int32)) (fun j9 h9 q9 => by rw [q9] at h9; exact absurd h9 (by decide))
    refine lv_aload_n F.1 F.2.1 dX12_daybook_30 rfl (lv_at hl 0 rfl) ?_
    refine a_ic F (0 : Int32) dX12_daybook_31 (by decide) ?_
    refine a_puti F inX12 tyX12 tyX12_ok nmX12 hP hD hS 85 35 tc_85 rfl rfl (by decide) q1506 (fun _ h9 => h9) rfl (ty := .int) (tyX12_ok 35 (by decide)) rfl rfl dX12_daybook_32 (fun H locs hP hD hS => ?_)
    have hR := hR.si (c := 85) (k := 35) (v := (0 : Int32)) (by rw [ic_0]; exact (by omega : (0 : Int) ≤ (0 : Int) ∧ (0 : Int) ≤ 40))
    have hF := hF.si (c := 85) (k := 35) (v := (0 : Int32)) rfl
    have hN_BLI := bl_0D hD (by decide)
    have hN_BG := bg_0D hD (by decide)
    have hK_MS := sp_sgD sp_MS hD hK_MS (by decide)
    have hK_UI := sp_si sp_UI hK_UI (c := 85) (k := 35) (v := (0 : Int32)) (fun j9 h9 q9 => by rw [q9] at h9; exact absurd h9 (by decide))
    have hK_CW := sp_sgD sp_CW hD hK_CW (by decide)
    have hK_AP := sp_sgD sp_AP hD hK_AP (by decide)
    have hK_AU := sp_si sp_AU hK_AU (c := 85) (k := 35) (v := (0 : Int32)) (fun j9 h9 q9 => by rw [q9] at h9; exact absurd h9 (by decide))
    have hK_i_HX := sp_sgD (sp_imp sp_HX) hD hK_i_HX (by decide)
    have hK_LR := sp_si (sp_ln0 85) hK_LR (c := 85) (k := 35) (v := (0 : Int32)) (fun j9 h9 q9 => by rw [q9] at h9; exact absurd h9 (by decide))
    have hK_DR := sp_si (sp_dl 85 _ _) hK_DR (c := 85) (k := 35) (v := (0 : Int32)) (fun j9 h9 q9 => by rw [q9] at h9; exact absurd h9 (by decide))
    have hK_BLI := hN_BLI
    have hK_BG := hN_BG
    refine lv_aload_n F.1 F.2.1 dX12_daybook_35 rfl (lv_at hl 0 rfl) ?_
    refine a_Vv F hml hl.1 hA hP hD hS (As := []) (c_X12_next_85 l dC dI ad cA nF _  hR) (cs_RX12_184 (d := 2) F.2.2.1 (by decide)) tc_85 rfl rfl rfl rfl (Nat.le_of_ble_eq_true rfl) dX12_daybook_36 ⟨Nat.le_refl 0, Nat.le_refl 0⟩ (fun u60 H locs hq hP hD hS => ?_)
    obtain ⟨hR, hF60⟩ := hq
    have hF := hF.tr hF60 (by decide)
    have hK_MS := sp_fr sp_MS hF60 (by decide) hK_MS
    have hK_UI := sp_fr sp_UI hF60 (by decide) hK_UI
    have hK_CW := sp_fr sp_CW hF60 (by decide) hK_CW
    have hK_AP := sp_fr sp_AP hF60 (by decide) hK_AP
    have hK_AU := sp_fr sp_AU hF60 (by decide) hK_AU
    have hK_i_HX := sp_fr (sp_imp sp_HX) hF60 (by decide) hK_i_HX
    have hK_LR := sp_fr (sp_ln0 85) hF60 (by decide) hK_LR
    have hK_DR := sp_fr (sp_dl 85 _ _) hF60 (by decide) hK_DR
    have hK_BLI := sp_fr sp_BLI hF60 (by decide) hK_BLI
    have hK_BG := sp_fr sp_BG hF60 (by decide) hK_BG
    exact L39 43 _ _ _ _ hR hF (by show 41 - (u60.1 85 35).toInt < (43 : Int); rw [hF60 85 35 rfl]; exact (by omega : 41 - (0 : Int) < (43 : Int))) hK_MS hK_UI hK_CW hK_BLI hK_AP hK_AU hK_BG hK_DR hK_i_HX (by omega) (i_trB ((hF60 85 0 rfl).trans (hF58 85 0 rfl)) (by omega : (0 : Int) ≤ (0 : Int) ∧ (0 : Int) ≤ 0)) (i_trB (hF60 85 35 rfl) (by omega : (0 : Int) ≤ (0 : Int) ∧ (0 : Int) ≤ 40)) hP hD hS (lv_sub hl [0, 1] rfl)
  · refine a_sp F (-1000 : Int32) dX12_daybook_14 (by decide) ?_
    exact a_reti F hr hlocks hP hD hS dX12_daybook_17 ⟨hR, hF, hK_MS, hK_UI, hK_CW, hK_AP, hK_AU, (dl_k (by omega) (by omega) rfl), hK_i_HX⟩
set_option maxHeartbeats 600000 in
set_option maxRecDepth 100000 in
theorem c_X12_draws_85__3 (l : Launch) (dC : Nat → ClassId) (dI : Nat → Nat → Nat) (ad : Nat → Nat) (cA : Nat → ClassId) (nF : Nat) (u0 : ac_U) (p0 : Int32) (p1 : Int32) (hR : ac_R rg u0) (hp0 : (1 : Int) ≤ p0.toInt ∧ p0.toInt ≤ 99) (hK_MS : msI u0) (hK_AP : apI u0) : ac_Mi l yX12_draws (.code yX12_draws cX12_draws 7 (some .int) :: TB) 3 (dC, dI) vwCl (ac_ty cA) ad cA (TT nF) [.ref (ad 85), .int p0, .int p1] u0 (fun (r : Int32) (u : ac_U) => ac_R rg u ∧ ac_Fr [(85, some 34), (87, none)] u0 u ∧ ((0 : Int) ≤ r.toInt ∧ r.toInt ≤ 100) ∧ msI u ∧ apI u ∧ (cdI u0 → cdI u) ∧ (unI u0 → unI u) ∧ (bfI u0 → bfI u) ∧ (auI u0 → auI u) ∧ (abI u0 → abI u) ∧ (hxI u0 → hxI u)) := by
  refine ac_Mi.of (cc := cX12_draws) (maxL := 7) (ret := (some .int)) (by decide) rfl (Nat.le_of_ble_eq_true rfl) ?_
  intro p e s m below meth c A ls F hml hr hlocks hA hP hD hS hl
  have F : ac_X p s m [.ref (ad 85), .int p0, .int p1].toArray c cX12_draws RX12 TB (dC, dI) vwCl (ac_ty cA) := ⟨F.1, F.2.1, fun w h => F.2.2.1 w (List.mem_cons_of_mem _ h), F.2.2.2.1, F.2.2.2.2⟩
  have hl : lv_has ls 7 [(0, .ref (ad 85)), (1, .int p0), (2, .int p1)] := hl
  have hF : ac_Fr [(85, some 34), (87, none)] u0 u0 := ac_Fr.rf
  have hK_i_CW : (fun u => cdI u0 → cdI u) u0 := fun h => h
  have hK_i_UI : (fun u => unI u0 → unI u) u0 := fun h => h
  have hK_i_BI : (fun u => bfI u0 → bfI u) u0 := fun h => h
  have hK_i_AU : (fun u => auI u0 → auI u) u0 := fun h => h
  have hK_i_AB : (fun u => abI u0 → abI u) u0 := fun h => h
  have hK_i_HX : (fun u => hxI u0 → hxI u) u0 := fun h => h
  have L190 : ∀ (x3 : Int32) (u : ac_U) (H : Heap) (locs : List Loc) (ls : Array Slot), ac_R rg u → ac_Fr [(85, some 34), (87, none)] u0 u → msI u → apI u → (fun u => cdI u0 → cdI u) u → (fun u => unI u0 → unI u) u → (fun u => bfI u0 → bfI u) u → (fun u => auI u0 → auI u) u → (fun u => abI u0 → abI u) u → (fun u => hxI u0 → hxI u) u → (0 : Int) ≤ x3.toInt ∧ x3.toInt ≤ 100 → va_P (dC, dI) vwCl (ac_w ad cA (TT nF) u) H → va_D A (ac_w ad cA (TT nF) u) → va_S A s.heap H locs → lv_has ls 7 [(3, .int x3)] → W p l e (ac_rm 3) s m [.ref (ad 85), .int p0, .int p1].toArray below meth c H locs 0 0 (MQ below (va_Qi (fun (r : Int32) (u : ac_U) => ac_R rg u ∧ ac_Fr [(85, some 34), (87, none)] u0 u ∧ ((0 : Int) ≤ r.toInt ∧ r.toInt ≤ 100) ∧ msI u ∧ apI u ∧ (cdI u0 → cdI u) ∧ (unI u0 → unI u) ∧ (bfI u0 → bfI u) ∧ (auI u0 → auI u) ∧ (abI u0 → abI u) ∧ (hxI u0 → hxI u)) (ac_B (dC, dI) vwCl (ac_ty cA) ad cA (TT nF) A) A) [.ref (ad 85), .int p0, .int p1].toArray s 0 0 A) (F0 m 190 ls []) := by
    intro x3 u H locs ls hR hF hK_MS hK_AP hK_i_CW hK_i_UI hK_i_BI hK_i_AU hK_i_AB hK_i_HX f0 hP hD hS hl
    refine lv_iload_n F.1 F.2.1 dX12_draws_190 rfl (lv_at hl 0 rfl) ?_
    exact a_reti F hr hlocks hP hD hS dX12_draws_191 ⟨hR, hF, (by omega : (0 : Int) ≤ x3.toInt ∧ x3.toInt ≤ 100), hK_MS, hK_AP, hK_i_CW, hK_i_UI, hK_i_BI, hK_i_AU, hK_i_AB, hK_i_HX⟩
  have L7 : ∀ (n7 : Nat) (x3 : Int32) (u : ac_U) (H : Heap) (locs : List Loc) (ls : Array Slot), ac_R rg u → ac_Fr [(85, some 34), (87, none)] u0 u → 100 - x3.toInt < (n7 : Int) → msI u → apI u → (fun u => cdI u0 → cdI u) u → (fun u => unI u0 → unI u) u → (fun u => bfI u0 → bfI u) u → (fun u => auI u0 → auI u) u → (fun u => abI u0 → abI u) u → (fun u => hxI u0 → hxI u) u → (0 : Int) ≤ x3.toInt ∧ x3.toInt ≤ 100 → va_P (dC, dI) vwCl (ac_w ad cA (TT nF) u) H → va_D A (ac_w ad cA (TT nF) u) → va_S A s.heap H locs → lv_has ls 7 [(0, .ref (ad 85)), (1, .int p0), (3, .int x3)] → W p l e (ac_rm 3) s m [.ref (ad 85), .int p0, .int p1].toArray below meth c H locs 0 0 (MQ below (va_Qi (fun (r : Int32) (u : ac_U) => ac_R rg u ∧ ac_Fr [(85, some 34), (87, none)] u0 u ∧ ((0 : Int) ≤ r.toInt ∧ r.toInt ≤ 100) ∧ msI u ∧ apI u ∧ (cdI u0 → cdI u) ∧ (unI u0 → unI u) ∧ (bfI u0 → bfI u) ∧ (auI u0 → auI u) ∧ (abI u0 → abI u) ∧ (hxI u0 → hxI u)) (ac_B (dC, dI) vwCl (ac_ty cA) ad cA (TT nF) A) A) [.ref (ad 85), .int p0, .int p1].toArray s 0 0 A) (F0 m 7 ls []) := by
    intro n7
    induction n7 with
    | zero => intro x3 u H locs ls hR hF hn7 hK_MS hK_AP hK_i_CW hK_i_UI hK_i_BI hK_i_AU hK_i_AB hK_i_HX f0 hP hD hS hl; exfalso; omega
    | succ n7 ih7 =>
      intro x3 u H locs ls hR hF hn7 hK_MS hK_AP hK_i_CW hK_i_UI hK_i_BI hK_i_AU hK_i_AB hK_i_HX f0 hP hD hS hl
      have L22 : ∀ (n22 : Nat) (x3 : Int32) (x4 : Int32) (u : ac_U) (H : Heap) (locs : List Loc) (ls : Array Slot), ac_R rg u → ac_Fr [(85, some 34), (87, none)] u0 u → 4 - x4.toInt < (n22 : Int) → msI u → apI u → (fun u => cdI u0 → cdI u) u → (fun u => unI u0 → unI u) u → (fun u => bfI u0 → bfI u) u → (fun u => auI u0 → auI u) u → (fun u => abI u0 → abI u) u → (fun u => hxI u0 → hxI u) u → (0 : Int) ≤ x3.toInt ∧ x3.toInt ≤ 99 → (0 : Int) ≤ x4.toInt ∧ x4.toInt ≤ 4 → (u.1 87 106).toInt ≠ 20 * (u.1 87 0).toInt → 100 - x3.toInt + 0 < ((n7 : Nat) : Int) + 1 → va_P (dC, dI) vwCl (ac_w ad cA (TT nF) u) H → va_D A (ac_w ad cA (TT nF) u) → va_S A s.heap H locs → lv_has ls 7 [(0, .ref (ad 85)), (1, .int p0), (3, .int x3), (4, .int x4)] → W p l e (ac_rm 3) s m [.ref (ad 85), .int p0, .int p1].toArray below meth c H locs 0 0 (MQ below (va_Qi (fun (r : Int32) (u : ac_U) => ac_R rg u ∧ ac_Fr [(85, some 34), (87, none)] u0 u ∧ ((0 : Int) ≤ r.toInt ∧ r.toInt ≤ 100) ∧ msI u ∧ apI u ∧ (cdI u0 → cdI u) ∧ (unI u0 → unI u) ∧ (bfI u0 → bfI u) ∧ (auI u0 → auI u) ∧ (abI u0 → abI u) ∧ (hxI u0 → hxI u)) (ac_B (dC, dI) vwCl (ac_ty cA) ad cA (TT nF) A) A) [.ref (ad 85), .int p0, .int p1].toArray s 0 0 A) (F0 m 22 ls []) := by
        intro n22
        induction n22 with
        | zero => intro x3 x4 u H locs ls hR hF hn22 hK_MS hK_AP hK_i_CW hK_i_UI hK_i_BI hK_i_AU hK_i_AB hK_i_HX f0 f1 f2 f3 hP hD hS hl; exfalso; omega
        | succ n22 ih22 =>
          intro x3 x4 u H locs ls hR hF hn22 hK_MS hK_AP hK_i_CW hK_i_UI hK_i_BI hK_i_AU hK_i_AB hK_i_HX f0 f1 f2 f3 hP hD hS hl
          have L174 : ∀ (x3 : Int32) (x4 : Int32) (u : ac_U) (H : Heap) (locs : List Loc) (ls : Array Slot), ac_R rg u → ac_Fr [(85, some 34), (87, none)] u0 u → msI u → apI u → (fun u => cdI u0 → cdI u) u → (fun u => unI u0 → unI u) u → (fun u => bfI u0 → bfI u) u → (fun u => auI u0 → auI u) u → (fun u => abI u0 → abI u) u → (fun u => hxI u0 → hxI u) u → (0 : Int) ≤ x3.toInt ∧ x3.toInt ≤ 99 → (0 : Int) ≤ x4.toInt ∧ x4.toInt ≤ 3 → (u.1 87 106).toInt ≠ 20 * (u.1 87 0).toInt → 100 - x3.toInt + 0 < ((n7 : Nat) : Int) + 1 → 4 - x4.toInt + 0 < ((n22 : Nat) : Int) + 1 → va_P (dC, dI) vwCl (ac_w ad cA (TT nF) u) H → va_D A (ac_w ad cA (TT nF) u) → va_S A s.heap H locs → lv_has ls 7 [(0, .ref (ad 85)), (1, .int p0), (3, .int x3), (4, .int x4)] → W p l e (ac_rm 3) s m [.ref (ad 85), .int p0, .int p1].toArray below meth c H locs 0 0 (MQ below (va_Qi (fun (r : Int32) (u : ac_U) => ac_R rg u ∧ ac_Fr [(85, some 34), (87, none)] u0 u ∧ ((0 : Int) ≤ r.toInt ∧ r.toInt ≤ 100) ∧ msI u ∧ apI u ∧ (cdI u0 → cdI u) ∧ (unI u0 → unI u) ∧ (bfI u0 → bfI u) ∧ (auI u0 → auI u) ∧ (abI u0 → abI u) ∧ (hxI u0 → hxI u)) (ac_B (dC, dI) vwCl (ac_ty cA) ad cA (TT nF) A) A) [.ref (ad 85), .int p0, .int p1].toArray s 0 0 A) (F0 m 174 ls []) := by
            intro x3 x4 u H locs ls hR hF hK_MS hK_AP hK_i_CW hK_i_UI hK_i_BI hK_i_AU hK_i_AB hK_i_HX f0 f1 f2 f3 f4 hP hD hS hl
            refine a_iinc F (k := 3) (fun v1 => [(4, .int v1), (0, .ref (ad 85)), (1, .int p0), (3, .int x3)]) dX12_draws_174 hl rfl rfl (by decide) (by omega) (by decide) (fun _ => rfl) (fun v1 ls hv1 hl => ?_)
            refine lv_goto (tgt := 22) F.1 F.2.1 dX12_draws_177 (by decide) ?_
            have g2 : (0 : Int) ≤ (u.1 87 106).toInt ∧ (u.1 87 106).toInt ≤ 480 := hR 87 106
            have g3 : (4 : Int) ≤ (u.1 87 0).toInt ∧ (u.1 87 0).toInt ≤ 24 := hR 87 0
            exact ih22 x3 v1 _ _ _ _ hR hF (by omega) hK_MS hK_AP hK_i_CW hK_i_UI hK_i_BI hK_i_AU hK_i_AB hK_i_HX (by omega) (by omega) (by omega : (u.1 87 106).toInt ≠ 20 * (u.1 87 0).toInt) (by omega) hP hD hS (lv_sub hl [1, 2, 3, 0] rfl)
          have L126 : ∀ (x3 : Int32) (x4 : Int32) (x5 : Int32) (u : ac_U) (H : Heap) (locs : List Loc) (ls : Array Slot), ac_R rg u → ac_Fr [(85, some 34), (87, none)] u0 u → msI u → apI u → (fun u => cdI u0 → cdI u) u → (fun u => unI u0 → unI u) u → (fun u => bfI u0 → bfI u) u → (fun u => auI u0 → auI u) u → (fun u => abI u0 → abI u) u → (fun u => hxI u0 → hxI u) u → (0 : Int) ≤ x3.toInt ∧ x3.toInt ≤ 99 → (0 : Int) ≤ x4.toInt ∧ x4.toInt ≤ 3 → (1 : Int) ≤ x5.toInt ∧ x5.toInt ≤ 7 → (1 : Int) ≤ (u.1 87 4).toInt ∧ (u.1 87 4).toInt ≤ 4 → (u.1 87 106).toInt ≠ 20 * (u.1 87 0).toInt → 100 - x3.toInt + 0 < ((n7 : Nat) : Int) + 1 → 4 - x4.toInt + 0 < ((n22 : Nat) : Int) + 1 → va_P (dC, dI) vwCl (ac_w ad cA (TT nF) u) H → va_D A (ac_w ad cA (TT nF) u) → va_S A s.heap H locs → lv_has ls 7 [(0, .ref (ad 85)), (1, .int p0), (3, .int x3), (4, .int x4), (5, .int x5)] → W p l e (ac_rm 3) s m [.ref (ad 85), .int p0, .int p1].toArray below meth c H locs 0 0 (MQ below (va_Qi (fun (r : Int32) (u : ac_U) => ac_R rg u ∧ ac_Fr [(85, some 34), (87, none)] u0 u ∧ ((0 : Int) ≤ r.toInt ∧ r.toInt ≤ 100) ∧ msI u ∧ apI u ∧ (cdI u0 → cdI u) ∧ (unI u0 → unI u) ∧ (bfI u0 → bfI u) ∧ (auI u0 → auI u) ∧ (abI u0 → abI u) ∧ (hxI u0 → hxI u)) (ac_B (dC, dI) vwCl (ac_ty cA) ad cA (TT nF) A) A) [.ref (ad 85), .int p0, .int p1].toArray s 0 0 A) (F0 m 126 ls []) := by
            intro x3 x4 x5 u H locs ls hR hF hK_MS hK_AP hK_i_CW hK_i_UI hK_i_BI hK_i_AU hK_i_AB hK_i_HX f0 f1 f2 f3 f4 f5 f6 hP hD hS hl
            refine lv_iload F.1 F.2.1 dX12_draws_126 (lv_at hl 4 rfl) ?_
            refine a_ic F (2 : Int32) dX12_draws_128 (by decide) ?_
            refine b_ne F 174 dX12_draws_129 (by decide) rfl ic_2 (fun c4 => ?_) (fun c4 => ?_)
            · have g5 : (0 : Int) ≤ (u.1 87 106).toInt ∧ (u.1 87 106).toInt ≤ 480 := hR 87 106
              have g6 : (4 : Int) ≤ (u.1 87 0).toInt ∧ (u.1 87 0).toInt ≤ 24 := hR 87 0
              exact L174 x3 x4 _ _ _ _ hR hF hK_MS hK_AP hK_i_CW hK_i_UI hK_i_BI hK_i_AU hK_i_AB hK_i_HX (by omega) (by omega) (by omega : (u.1 87 106).toInt ≠ 20 * (u.1 87 0).toInt) (by omega) (by omega) hP hD hS (lv_sub hl [0, 1, 2, 3] rfl)
            · refine lv_aload_n F.1 F.2.1 dX12_draws_132 rfl (lv_at hl 0 rfl) ?_
              refine a_getr F inX12 hP 85 6 tc_85 rfl rfl (by decide) q1477 (fun _ h9 => h9) dX12_draws_133 ?_
              refine a_bp F (6 : Int32) dX12_draws_136 (by decide) ?_
              have g7 : (0 : Int) ≤ (u.1 87 6).toInt ∧ (u.1 87 6).toInt ≤ 8 := hR 87 6
              refine a_ialdK F hP 87 6 tc_87 rfl rfl (i_in ic_6 (by omega)) (v := (u.1 87 6)) rfl dX12_draws_138 ?_
              refine z_le F 174 dX12_draws_139 (by decide) rfl (fun c8 => ?_) (fun c8 => ?_)
              · have g9 : (0 : Int) ≤ (u.1 87 106).toInt ∧ (u.1 87 106).toInt ≤ 480 := hR 87 106
                have g10 : (4 : Int) ≤ (u.1 87 0).toInt ∧ (u.1 87 0).toInt ≤ 24 := hR 87 0
                exact L174 x3 x4 _ _ _ _ hR hF hK_MS hK_AP hK_i_CW hK_i_UI hK_i_BI hK_i_AU hK_i_AB hK_i_HX (by omega) (by omega) (by omega : (u.1 87 106).toInt ≠ 20 * (u.1 87 0).toInt) (by omega) (by omega) hP hD hS (lv_sub hl [0, 1, 2, 3] rfl)
              · refine lv_aload_n F.1 F.2.1 dX12_draws_142 rfl (lv_at hl 0 rfl) ?_
                refine lv_aload_n F.1 F.2.1 dX12_draws_143 rfl (lv_at hl 0 rfl) ?_
                refine a_getr F inX12 hP 85 6 tc_85 rfl rfl (by decide) q1477 (fun _ h9 => h9) dX12_draws_144 ?_
                refine a_bp F (6 : Int32) dX12_draws_147 (by decide) ?_
                refine a_ialdK F hP 87 6 tc_87 rfl rfl (i_in ic_6 (by omega)) (v := (u.1 87 6)) (rfl) dX12_draws_149 ?_
                have g12 : (0 : Int) ≤ (u.1 87 106).toInt ∧ (u.1 87 106).toInt ≤ 480 := hR 87 106
                have g13 : (4 : Int) ≤ (u.1 87 0).toInt ∧ (u.1 87 0).toInt ≤ 24 := hR 87 0
                refine a_Vi F hml hl.1 hA hP hD hS (As := [.int (u.1 87 6)]) (c_X12_draw_85__2 l dC dI ad cA nF _ (u.1 87 6) hR (by omega)) (cs_RX12_386 (d := 1) F.2.2.1 (by decide)) tc_85 rfl rfl rfl rfl (Nat.le_of_ble_eq_true rfl) dX12_draws_150 ⟨Nat.le_refl 0, Nat.le_refl 0⟩ (fun r11 u11 H locs hq hP hD hS => ?_)
                obtain ⟨hR, hF11, gr11, xr11⟩ := hq
                have hF := hF.tr hF11 (by decide)
                have hK_MS := sp_fr sp_MS hF11 (by decide) hK_MS
                have hK_AP := sp_fr sp_AP hF11 (by decide) hK_AP
                have hK_i_CW := sp_fr (sp_imp sp_CW) hF11 (by decide) hK_i_CW
                have hK_i_UI := sp_fr (sp_imp sp_UI) hF11 (by decide) hK_i_UI
                have hK_i_BI := sp_fr (sp_imp sp_BI) hF11 (by decide) hK_i_BI
                have hK_i_AU := sp_fr (sp_imp sp_AU) hF11 (by decide) hK_i_AU
                have hK_i_AB := sp_fr (sp_imp sp_AB) hF11 (by decide) hK_i_AB
                have hK_i_HX := sp_fr (sp_imp sp_HX) hF11 (by decide) hK_i_HX
                have xr11 : r11.toInt < (u.1 87 6).toInt := xr11
                refine lv_istore (lv' := [(6, .int r11), (0, .ref (ad 85)), (1, .int p0), (3, .int x3), (4, .int x4), (5, .int x5)]) F.1 F.2.1 dX12_draws_153 hl (by decide) rfl (fun ls hl => ?_)
                refine lv_aload_n F.1 F.2.1 dX12_draws_155 rfl (lv_at hl 1 rfl) ?_
                refine lv_iload F.1 F.2.1 dX12_draws_156 (lv_at hl 4 rfl) ?_
                refine lv_iload F.1 F.2.1 dX12_draws_158 (lv_at hl 0 rfl) ?_
                refine a_Vi F hml hl.1 hA hP hD hS (As := [.int x4, .int r11]) (c_X12_whySay_85 l dC dI ad cA nF _ x4 r11 hR (by omega) (by omega)) (cs_RX12_286 (d := 2) F.2.2.1 (by decide)) tc_85 rfl rfl rfl rfl (Nat.le_of_ble_eq_true rfl) dX12_draws_160 ⟨Nat.le_refl 0, Nat.le_refl 0⟩ (fun r14 uN14 H locs hq hP hD hS => ?_)
                obtain ⟨hu14, gr14⟩ := hq
                rw [hu14] at hP hD
                refine z_ne F 174 dX12_draws_163 (by decide) rfl (fun c15 => ?_) (fun c15 => ?_)
                · exact L174 x3 x4 _ _ _ _ hR hF hK_MS hK_AP hK_i_CW hK_i_UI hK_i_BI hK_i_AU hK_i_AB hK_i_HX (by omega) (by omega) (by rw [hF11 87 106 rfl, hF11 87 0 rfl]; exact (by omega : (u.1 87 106).toInt ≠ 20 * (u.1 87 0).toInt)) (by omega) (by omega) hP hD hS (lv_sub hl [1, 2, 3, 4] rfl)
                · refine lv_aload_n F.1 F.2.1 dX12_draws_166 rfl (lv_at hl 1 rfl) ?_
                  refine lv_iload F.1 F.2.1 dX12_draws_167 (lv_at hl 4 rfl) ?_
                  refine lv_iload F.1 F.2.1 dX12_draws_169 (lv_at hl 0 rfl) ?_
                  have k17 : (u11.1 87 106).toInt = (u.1 87 106).toInt := congrArg Int32.toInt (show u11.1 87 106 = (u.1 87 106) from hF11 87 106 rfl)
                  have k18 : (u11.1 87 0).toInt = (u.1 87 0).toInt := congrArg Int32.toInt (show u11.1 87 0 = (u.1 87 0) from hF11 87 0 rfl)
                  refine a_Vv F hml hl.1 hA hP hD hS (As := [.int x4, .int r11]) (c_X12_says_85__4 l dC dI ad cA nF _ x4 r11 hR (by omega) (by omega)) (cs_RX12_289 (d := 1) F.2.2.1 (by decide)) tc_85 rfl rfl rfl rfl (Nat.le_of_ble_eq_true rfl) dX12_draws_171 ⟨Nat.le_refl 0, Nat.le_refl 0⟩ (fun u16 H locs hq hP hD hS => ?_)
                  obtain ⟨hR, hF16, xr16, hJ16_MS, hJ16_CW, hJ16_UI, hJ16_BI, hJ16_AP, hJ16_AU, hJ16_AB, hJ16_BG, hJ16_HX⟩ := hq
                  have hF := hF.tr hF16 (by decide)
                  have hK_MS := hJ16_MS hK_MS
                  have hK_AP := hJ16_AP hK_AP
                  have hK_i_CW : (fun u => cdI u0 → cdI u) u16 := fun h => hJ16_CW (hK_i_CW h)
                  have hK_i_UI : (fun u => unI u0 → unI u) u16 := fun h => hJ16_UI (hK_i_UI h)
                  have hK_i_BI : (fun u => bfI u0 → bfI u) u16 := fun h => hJ16_BI (hK_i_BI h)
                  have hK_i_AU : (fun u => auI u0 → auI u) u16 := fun h => hJ16_AU (hK_i_AU h)
                  have hK_i_AB : (fun u => abI u0 → abI u) u16 := fun h => hJ16_AB (hK_i_AB h)
                  have hK_i_HX : (fun u => hxI u0 → hxI u) u16 := fun h => hJ16_HX (hK_i_HX h)
                  have g19 : (0 : Int) ≤ (u16.1 87 106).toInt ∧ (u16.1 87 106).toInt ≤ 480 := hR 87 106
                  have g20 : (4 : Int) ≤ (u16.1 87 0).toInt ∧ (u16.1 87 0).toInt ≤ 24 := hR 87 0
                  have xr16 : (u16.1 87 106).toInt = (u11.1 87 106).toInt ∧ (u16.1 87 0).toInt = (u11.1 87 0).toInt := xr16
                  exact L174 x3 x4 _ _ _ _ hR hF hK_MS hK_AP hK_i_CW hK_i_UI hK_i_BI hK_i_AU hK_i_AB hK_i_HX (by omega) (by omega) (by omega : (u16.1 87 106).toInt ≠ 20 * (u16.1 87 0).toInt) (by omega) (by omega) hP hD hS (lv_sub hl [1, 2, 3, 4] rfl)
          have L123 : ∀ (x3 : Int32) (x4 : Int32) (u : ac_U) (H : Heap) (locs : List Loc) (ls : Array Slot), ac_R rg u → ac_Fr [(85, some 34), (87, none)] u0 u → msI u → apI u → (fun u => cdI u0 → cdI u) u → (fun u => unI u0 → unI u) u → (fun u => bfI u0 → bfI u) u → (fun u => auI u0 → auI u) u → (fun u => abI u0 → abI u) u → (fun u => hxI u0 → hxI u) u → (0 : Int) ≤ x3.toInt ∧ x3.toInt ≤ 99 → (0 : Int) ≤ x4.toInt ∧ x4.toInt ≤ 3 → (u.1 87 106).toInt ≠ 20 * (u.1 87 0).toInt → 100 - x3.toInt + 0 < ((n7 : Nat) : Int) + 1 → 4 - x4.toInt + 0 < ((n22 : Nat) : Int) + 1 → va_P (dC, dI) vwCl (ac_w ad cA (TT nF) u) H → va_D A (ac_w ad cA (TT nF) u) → va_S A s.heap H locs → lv_has ls 7 [(0, .ref (ad 85)), (1, .int p0), (3, .int x3), (4, .int x4)] → W p l e (ac_rm 3) s m [.ref (ad 85), .int p0, .int p1].toArray below meth c H locs 0 0 (MQ below (va_Qi (fun (r : Int32) (u : ac_U) => ac_R rg u ∧ ac_Fr [(85, some 34), (87, none)] u0 u ∧ ((0 : Int) ≤ r.toInt ∧ r.toInt ≤ 100) ∧ msI u ∧ apI u ∧ (cdI u0 → cdI u) ∧ (unI u0 → unI u) ∧ (bfI u0 → bfI u) ∧ (auI u0 → auI u) ∧ (abI u0 → abI u) ∧ (hxI u0 → hxI u)) (ac_B (dC, dI) vwCl (ac_ty cA) ad cA (TT nF) A) A) [.ref (ad 85), .int p0, .int p1].toArray s 0 0 A) (F0 m 123 ls []) := by
            intro x3 x4 u H locs ls hR hF hK_MS hK_AP hK_i_CW hK_i_UI hK_i_BI hK_i_AU hK_i_AB hK_i_HX f0 f1 f2 f3 f4 hP hD hS hl
            refine lv_goto (tgt := 174) F.1 F.2.1 dX12_draws_123 (by decide) ?_
            have g21 : (0 : Int) ≤ (u.1 87 106).toInt ∧ (u.1 87 106).toInt ≤ 480 := hR 87 106
            have g22 : (4 : Int) ≤ (u.1 87 0).toInt ∧ (u.1 87 0).toInt ≤ 24 := hR 87 0
            exact L174 x3 x4 _ _ _ _ hR hF hK_MS hK_AP hK_i_CW hK_i_UI hK_i_BI hK_i_AU hK_i_AB hK_i_HX (by omega) (by omega) (by omega : (u.1 87 106).toInt ≠ 20 * (u.1 87 0).toInt) (by omega) (by omega) hP hD hS (lv_sub hl [0, 1, 2, 3] rfl)
          have L76 : ∀ (x3 : Int32) (x4 : Int32) (u : ac_U) (H : Heap) (locs : List Loc) (ls : Array Slot), ac_R rg u → ac_Fr [(85, some 34), (87, none)] u0 u → msI u → apI u → (fun u => cdI u0 → cdI u) u → (fun u => unI u0 → unI u) u → (fun u => bfI u0 → bfI u) u → (fun u => auI u0 → auI u) u → (fun u => abI u0 → abI u) u → (fun u => hxI u0 → hxI u) u → (0 : Int) ≤ x3.toInt ∧ x3.toInt ≤ 99 → (0 : Int) ≤ x4.toInt ∧ x4.toInt ≤ 3 → (u.1 87 106).toInt ≠ 20 * (u.1 87 0).toInt → 100 - x3.toInt + 0 < ((n7 : Nat) : Int) + 1 → 4 - x4.toInt + 0 < ((n22 : Nat) : Int) + 1 → va_P (dC, dI) vwCl (ac_w ad cA (TT nF) u) H → va_D A (ac_w ad cA (TT nF) u) → va_S A s.heap H locs → lv_has ls 7 [(0, .ref (ad 85)), (1, .int p0), (3, .int x3), (4, .int x4)] → W p l e (ac_rm 3) s m [.ref (ad 85), .int p0, .int p1].toArray below meth c H locs 0 0 (MQ below (va_Qi (fun (r : Int32) (u : ac_U) => ac_R rg u ∧ ac_Fr [(85, some 34), (87, none)] u0 u ∧ ((0 : Int) ≤ r.toInt ∧ r.toInt ≤ 100) ∧ msI u ∧ apI u ∧ (cdI u0 → cdI u) ∧ (unI u0 → unI u) ∧ (bfI u0 → bfI u) ∧ (auI u0 → auI u) ∧ (abI u0 → abI u) ∧ (hxI u0 → hxI u)) (ac_B (dC, dI) vwCl (ac_ty cA) ad cA (TT nF) A) A) [.ref (ad 85), .int p0, .int p1].toArray s 0 0 A) (F0 m 76 ls []) := by
            intro x3 x4 u H locs ls hR hF hK_MS hK_AP hK_i_CW hK_i_UI hK_i_BI hK_i_AU hK_i_AB hK_i_HX f0 f1 f2 f3 f4 hP hD hS hl
            refine lv_goto (tgt := 174) F.1 F.2.1 dX12_draws_76 (by decide) ?_
            have g23 : (0 : Int) ≤ (u.1 87 106).toInt ∧ (u.1 87 106).toInt ≤ 480 := hR 87 106
            have g24 : (4 : Int) ≤ (u.1 87 0).toInt ∧ (u.1 87 0).toInt ≤ 24 := hR 87 0
            exact L174 x3 x4 _ _ _ _ hR hF hK_MS hK_AP hK_i_CW hK_i_UI hK_i_BI hK_i_AU hK_i_AB hK_i_HX (by omega) (by omega) (by omega : (u.1 87 106).toInt ≠ 20 * (u.1 87 0).toInt) (by omega) (by omega) hP hD hS (lv_sub hl [0, 1, 2, 3] rfl)
          refine lv_iload F.1 F.2.1 dX12_draws_22 (lv_at hl 3 rfl) ?_
          refine lv_aload_n F.1 F.2.1 dX12_draws_24 rfl (lv_at hl 0 rfl) ?_
          refine a_getr F inX12 hP 85 6 tc_85 rfl rfl (by decide) q1477 (fun _ h9 => h9) dX12_draws_25 ?_
          refine a_ic F (4 : Int32) dX12_draws_28 (by decide) ?_
          have g25 : (0 : Int) ≤ (u.1 87 4).toInt ∧ (u.1 87 4).toInt ≤ 4 := hR 87 4
          refine a_ialdK F hP 87 4 tc_87 rfl rfl (i_in ic_4 (by omega)) (v := (u.1 87 4)) rfl dX12_draws_29 ?_
          refine b_ge F 180 dX12_draws_30 (by decide) rfl rfl (fun c26 => ?_) (fun c26 => ?_)
          · refine lv_aload_n F.1 F.2.1 dX12_draws_180 rfl (lv_at hl 0 rfl) ?_
            have hO27 : (u.1 87 106).toInt ≤ 20 * (u.1 87 0).toInt := hK_MS.1
            have hQ27 : 4 ≤ (u.1 87 0).toInt ∧ (u.1 87 0).toInt ≤ 24 := hR 87 0
            have hW27 : 0 ≤ (u.1 87 106).toInt ∧ (u.1 87 106).toInt ≤ 480 := hR 87 106
            have g28 : (0 : Int) ≤ (u.1 87 106).toInt ∧ (u.1 87 106).toInt ≤ 480 := hR 87 106
            have g29 : (4 : Int) ≤ (u.1 87 0).toInt ∧ (u.1 87 0).toInt ≤ 24 := hR 87 0
            refine a_Vv F hml hl.1 hA hP hD hS (As := []) (c_X12_hour_85__4 l dC dI ad cA nF _  hR (by omega : (0 : Int) ≤ (u.1 87 106).toInt ∧ (u.1 87 106).toInt ≤ 479) (by omega : (u.1 87 106).toInt < 20 * (u.1 87 0).toInt) hK_MS) (cs_RX12_292 (d := 1) F.2.2.1 (by decide)) tc_85 rfl rfl rfl rfl (Nat.le_of_ble_eq_true rfl) dX12_draws_181 ⟨Nat.le_refl 0, Nat.le_refl 0⟩ (fun u30 H locs hq hP hD hS => ?_)
            obtain ⟨hR, hF30, xr30, hK_MS, hJ30_CW, hJ30_UI, hJ30_BI, hJ30_AP, hJ30_AU, hJ30_AB, hJ30_BG, hJ30_HX⟩ := hq
            have hF := hF.tr hF30 (by decide)
            have hK_AP := hJ30_AP hK_AP
            have hK_i_CW : (fun u => cdI u0 → cdI u) u30 := fun h => hJ30_CW (hK_i_CW h)
            have hK_i_UI : (fun u => unI u0 → unI u) u30 := fun h => hJ30_UI (hK_i_UI h)
            have hK_i_BI : (fun u => bfI u0 → bfI u) u30 := fun h => hJ30_BI (hK_i_BI h)
            have hK_i_AU : (fun u => auI u0 → auI u) u30 := fun h => hJ30_AU (hK_i_AU h)
            have hK_i_AB : (fun u => abI u0 → abI u) u30 := fun h => hJ30_AB (hK_i_AB h)
            have hK_i_HX : (fun u => hxI u0 → hxI u) u30 := fun h => hJ30_HX (hK_i_HX h)
            have g31 : (0 : Int) ≤ (u30.1 87 106).toInt ∧ (u30.1 87 106).toInt ≤ 480 := hR 87 106
            have g32 : (4 : Int) ≤ (u30.1 87 0).toInt ∧ (u30.1 87 0).toInt ≤ 24 := hR 87 0
            have xr30 : (u30.1 87 106).toInt = (u.1 87 106).toInt + 1 ∧ (u30.1 87 0).toInt = (u.1 87 0).toInt := xr30
            refine a_iinc F (k := 2) (fun v33 => [(3, .int v33), (0, .ref (ad 85)), (1, .int p0), (4, .int x4)]) dX12_draws_184 hl rfl rfl (by decide) (by omega) (by decide) (fun _ => rfl) (fun v33 ls hv33 hl => ?_)
            refine lv_goto (tgt := 7) F.1 F.2.1 dX12_draws_187 (by decide) ?_
            exact ih7 v33 _ _ _ _ hR hF (by omega) hK_MS hK_AP hK_i_CW hK_i_UI hK_i_BI hK_i_AU hK_i_AB hK_i_HX (by omega) hP hD hS (lv_sub hl [1, 2, 0] rfl)
          · refine lv_aload_n F.1 F.2.1 dX12_draws_33 rfl (lv_at hl 0 rfl) ?_
            refine a_ic F (3 : Int32) dX12_draws_34 (by decide) ?_
            have g35 : (0 : Int) ≤ (u.1 87 106).toInt ∧ (u.1 87 106).toInt ≤ 480 := hR 87 106
            have g36 : (4 : Int) ≤ (u.1 87 0).toInt ∧ (u.1 87 0).toInt ≤ 24 := hR 87 0
            refine a_Vi F hml hl.1 hA hP hD hS (As := [.int (3 : Int32)]) (c_X12_draw_85__2 l dC dI ad cA nF _ (3 : Int32) hR (by decide)) (cs_RX12_386 (d := 1) F.2.2.1 (by decide)) tc_85 rfl rfl rfl rfl (Nat.le_of_ble_eq_true rfl) dX12_draws_35 ⟨Nat.le_refl 0, Nat.le_refl 0⟩ (fun r34 u34 H locs hq hP hD hS => ?_)
            obtain ⟨hR, hF34, gr34, xr34⟩ := hq
            have hF := hF.tr hF34 (by decide)
            have hK_MS := sp_fr sp_MS hF34 (by decide) hK_MS
            have hK_AP := sp_fr sp_AP hF34 (by decide) hK_AP
            have hK_i_CW := sp_fr (sp_imp sp_CW) hF34 (by decide) hK_i_CW
            have hK_i_UI := sp_fr (sp_imp sp_UI) hF34 (by decide) hK_i_UI
            have hK_i_BI := sp_fr (sp_imp sp_BI) hF34 (by decide) hK_i_BI
            have hK_i_AU := sp_fr (sp_imp sp_AU) hF34 (by decide) hK_i_AU
            have hK_i_AB := sp_fr (sp_imp sp_AB) hF34 (by decide) hK_i_AB
            have hK_i_HX := sp_fr (sp_imp sp_HX) hF34 (by decide) hK_i_HX
            have xr34 : r34.toInt < (3 : Int) := xr34
            refine lv_istore (lv' := [(5, .int r34), (0, .ref (ad 85)), (1, .int p0), (3, .int x3), (4, .int x4)]) F.1 F.2.1 dX12_draws_38 hl (by decide) rfl (fun ls hl => ?_)
            refine lv_iload F.1 F.2.1 dX12_draws_40 (lv_at hl 0 rfl) ?_
            refine z_ne F 79 dX12_draws_42 (by decide) rfl (fun c37 => ?_) (fun c37 => ?_)
            · refine lv_iload F.1 F.2.1 dX12_draws_79 (lv_at hl 0 rfl) ?_
              refine a_ic F (1 : Int32) dX12_draws_81 (by decide) ?_
              refine b_ne F 126 dX12_draws_82 (by decide) rfl ic_1 (fun c38 => ?_) (fun c38 => ?_)
              · exact L126 x3 x4 r34 _ _ _ _ hR hF hK_MS hK_AP hK_i_CW hK_i_UI hK_i_BI hK_i_AU hK_i_AB hK_i_HX (by omega) (by omega) (by omega) (i_trB (hF34 87 4 rfl) (by omega : (1 : Int) ≤ (u.1 87 4).toInt ∧ (u.1 87 4).toInt ≤ 4)) (by rw [hF34 87 106 rfl, hF34 87 0 rfl]; exact (by omega : (u.1 87 106).toInt ≠ 20 * (u.1 87 0).toInt)) (by omega) (by omega) hP hD hS (lv_sub hl [1, 2, 3, 4, 0] rfl)
              · refine lv_aload_n F.1 F.2.1 dX12_draws_85 rfl (lv_at hl 1 rfl) ?_
                refine a_getr F inX12 hP 85 6 tc_85 rfl rfl (by decide) q1477 (fun _ h9 => h9) dX12_draws_86 ?_
                refine a_ic F (5 : Int32) dX12_draws_89 (by decide) ?_
                have g39 : (0 : Int) ≤ (u34.1 87 5).toInt ∧ (u34.1 87 5).toInt ≤ 6 := hR 87 5
                refine a_ialdK F hP 87 5 tc_87 rfl rfl (i_in ic_5 (by omega)) (v := (u34.1 87 5)) rfl dX12_draws_90 ?_
                refine z_le F 126 dX12_draws_91 (by decide) rfl (fun c40 => ?_) (fun c40 => ?_)
                · exact L126 x3 x4 r34 _ _ _ _ hR hF hK_MS hK_AP hK_i_CW hK_i_UI hK_i_BI hK_i_AU hK_i_AB hK_i_HX (by omega) (by omega) (by omega) (i_trB (hF34 87 4 rfl) (by omega : (1 : Int) ≤ (u.1 87 4).toInt ∧ (u.1 87 4).toInt ≤ 4)) (by rw [hF34 87 106 rfl, hF34 87 0 rfl]; exact (by omega : (u.1 87 106).toInt ≠ 20 * (u.1 87 0).toInt)) (by omega) (by omega) hP hD hS (lv_sub hl [1, 2, 3, 4, 0] rfl)
                · refine lv_aload_n F.1 F.2.1 dX12_draws_94 rfl (lv_at hl 1 rfl) ?_
                  refine lv_aload_n F.1 F.2.1 dX12_draws_95 rfl (lv_at hl 1 rfl) ?_
                  refine a_getr F inX12 hP 85 6 tc_85 rfl rfl (by decide) q1477 (fun _ h9 => h9) dX12_draws_96 ?_
                  refine a_ic F (5 : Int32) dX12_draws_99 (by decide) ?_
                  refine a_ialdK F hP 87 5 tc_87 rfl rfl (i_in ic_5 (by omega)) (v := (u34.1 87 5)) (rfl) dX12_draws_100 ?_
                  refine a_Vi F hml hl.1 hA hP hD hS (As := [.int (u34.1 87 5)]) (c_X12_draw_85__2 l dC dI ad cA nF _ (u34.1 87 5) hR (by omega)) (cs_RX12_386 (d := 1) F.2.2.1 (by decide)) tc_85 rfl rfl rfl rfl (Nat.le_of_ble_eq_true rfl) dX12_draws_101 ⟨Nat.le_refl 0, Nat.le_refl 0⟩ (fun r41 u41 H locs hq hP hD hS => ?_)
                  obtain ⟨hR, hF41, gr41, xr41⟩ := hq
                  have hF := hF.tr hF41 (by decide)
                  have hK_MS := sp_fr sp_MS hF41 (by decide) hK_MS
                  have hK_AP := sp_fr sp_AP hF41 (by decide) hK_AP
                  have hK_i_CW := sp_fr (sp_imp sp_CW) hF41 (by decide) hK_i_CW
                  have hK_i_UI := sp_fr (sp_imp sp_UI) hF41 (by decide) hK_i_UI
                  have hK_i_BI := sp_fr (sp_imp sp_BI) hF41 (by decide) hK_i_BI
                  have hK_i_AU := sp_fr (sp_imp sp_AU) hF41 (by decide) hK_i_AU
                  have hK_i_AB := sp_fr (sp_imp sp_AB) hF41 (by decide) hK_i_AB
                  have hK_i_HX := sp_fr (sp_imp sp_HX) hF41 (by decide) hK_i_HX
                  have xr41 : r41.toInt < (u34.1 87 5).toInt := xr41
                  refine lv_istore (lv' := [(6, .int r41), (5, .int r34), (0, .ref (ad 85)), (1, .int p0), (3, .int x3), (4, .int x4)]) F.1 F.2.1 dX12_draws_104 hl (by decide) rfl (fun ls hl => ?_)
                  refine lv_aload_n F.1 F.2.1 dX12_draws_106 rfl (lv_at hl 2 rfl) ?_
                  refine lv_iload F.1 F.2.1 dX12_draws_107 (lv_at hl 5 rfl) ?_
                  refine a_Vi F hml hl.1 hA hP hD hS (As := [.int x4]) (c_X12_whyAct_85 l dC dI ad cA nF _ x4 hR (by omega)) (cs_RX12_279 (d := 2) F.2.2.1 (by decide)) tc_85 rfl rfl rfl rfl (Nat.le_of_ble_eq_true rfl) dX12_draws_109 ⟨Nat.le_refl 0, Nat.le_refl 0⟩ (fun r42 uN42 H locs hq hP hD hS => ?_)
                  obtain ⟨hu42, gr42, xr42⟩ := hq
                  rw [hu42] at hP hD
                  have g43 : (0 : Int) ≤ (u41.1 87 123).toInt ∧ (u41.1 87 123).toInt ≤ 80 := hR 87 123
                  have xr42 : r42.toInt = 0 → (u41.1 87 123).toInt ≤ 79 := xr42
                  refine z_ne F 123 dX12_draws_112 (by decide) rfl (fun c44 => ?_) (fun c44 => ?_)
                  · exact L123 x3 x4 _ _ _ _ hR hF hK_MS hK_AP hK_i_CW hK_i_UI hK_i_BI hK_i_AU hK_i_AB hK_i_HX (by omega) (by omega) (by rw [(hF41 87 106 rfl).trans (hF34 87 106 rfl), (hF41 87 0 rfl).trans (hF34 87 0 rfl)]; exact (by omega : (u.1 87 106).toInt ≠ 20 * (u.1 87 0).toInt)) (by omega) (by omega) hP hD hS (lv_sub hl [2, 3, 4, 5] rfl)
                  · refine lv_aload_n F.1 F.2.1 dX12_draws_115 rfl (lv_at hl 2 rfl) ?_
                    refine lv_iload F.1 F.2.1 dX12_draws_116 (lv_at hl 5 rfl) ?_
                    refine lv_iload F.1 F.2.1 dX12_draws_118 (lv_at hl 0 rfl) ?_
                    have k46 : (u41.1 87 106).toInt = (u.1 87 106).toInt := congrArg Int32.toInt (show u41.1 87 106 = (u.1 87 106) from (hF41 87 106 rfl).trans (hF34 87 106 rfl))
                    have k47 : (u41.1 87 0).toInt = (u.1 87 0).toInt := congrArg Int32.toInt (show u41.1 87 0 = (u.1 87 0) from (hF41 87 0 rfl).trans (hF34 87 0 rfl))
                    refine a_Vv F hml hl.1 hA hP hD hS (As := [.int x4, .int r41]) (c_X12_does_85__4 l dC dI ad cA nF _ x4 r41 hR (by omega) (by omega : (0 : Int) ≤ (u41.1 87 123).toInt ∧ (u41.1 87 123).toInt ≤ 79)) (cs_RX12_283 (d := 1) F.2.2.1 (by decide)) tc_85 rfl rfl rfl rfl (Nat.le_of_ble_eq_true rfl) dX12_draws_120 ⟨Nat.le_refl 0, Nat.le_refl 0⟩ (fun u45 H locs hq hP hD hS => ?_)
                    obtain ⟨hR, hF45, xr45, hJ45_MS, hJ45_CW, hJ45_UI, hJ45_BI, hJ45_AP, hJ45_AU, hJ45_AB, hJ45_BG, hJ45_HX⟩ := hq
                    have hF := hF.tr hF45 (by decide)
                    have hK_MS := hJ45_MS hK_MS
                    have hK_AP := hJ45_AP hK_AP
                    have hK_i_CW : (fun u => cdI u0 → cdI u) u45 := fun h => hJ45_CW (hK_i_CW h)
                    have hK_i_UI : (fun u => unI u0 → unI u) u45 := fun h => hJ45_UI (hK_i_UI h)
                    have hK_i_BI : (fun u => bfI u0 → bfI u) u45 := fun h => hJ45_BI (hK_i_BI h)
                    have hK_i_AU : (fun u => auI u0 → auI u) u45 := fun h => hJ45_AU (hK_i_AU h)
                    have hK_i_AB : (fun u => abI u0 → abI u) u45 := fun h => hJ45_AB (hK_i_AB h)
                    have hK_i_HX : (fun u => hxI u0 → hxI u) u45 := fun h => hJ45_HX (hK_i_HX h)
                    have g48 : (0 : Int) ≤ (u45.1 87 106).toInt ∧ (u45.1 87 106).toInt ≤ 480 := hR 87 106
                    have g49 : (4 : Int) ≤ (u45.1 87 0).toInt ∧ (u45.1 87 0).toInt ≤ 24 := hR 87 0
                    have xr45 : (u45.1 87 106).toInt = (u41.1 87 106).toInt ∧ (u45.1 87 0).toInt = (u41.1 87 0).toInt := xr45
                    exact L123 x3 x4 _ _ _ _ hR hF hK_MS hK_AP hK_i_CW hK_i_UI hK_i_BI hK_i_AU hK_i_AB hK_i_HX (by omega) (by omega) (by omega : (u45.1 87 106).toInt ≠ 20 * (u45.1 87 0).toInt) (by omega) (by omega) hP hD hS (lv_sub hl [2, 3, 4, 5] rfl)
            · refine lv_aload_n F.1 F.2.1 dX12_draws_45 rfl (lv_at hl 1 rfl) ?_
              refine lv_aload_n F.1 F.2.1 dX12_draws_46 rfl (lv_at hl 1 rfl) ?_
              refine a_getr F inX12 hP 85 6 tc_85 rfl rfl (by decide) q1477 (fun _ h9 => h9) dX12_draws_47 ?_
              refine a_ic F (1 : Int32) dX12_draws_50 (by decide) ?_
              have g50 : (0 : Int) ≤ (u34.1 87 1).toInt ∧ (u34.1 87 1).toInt ≤ 8 := hR 87 1
              refine a_ialdK F hP 87 1 tc_87 rfl rfl (i_in ic_1 (by omega)) (v := (u34.1 87 1)) rfl dX12_draws_51 ?_
              have k52 : (u34.1 87 4).toInt = (u.1 87 4).toInt := congrArg Int32.toInt (show u34.1 87 4 = (u.1 87 4) from hF34 87 4 rfl)
              have hO51 : 0 < (u34.1 87 4).toInt → 0 < (u34.1 87 1).toInt := hK_MS.2
              refine a_Vi F hml hl.1 hA hP hD hS (As := [.int (u34.1 87 1)]) (c_X12_draw_85__2 l dC dI ad cA nF _ (u34.1 87 1) hR (by omega)) (cs_RX12_386 (d := 1) F.2.2.1 (by decide)) tc_85 rfl rfl rfl rfl (Nat.le_of_ble_eq_true rfl) dX12_draws_52 ⟨Nat.le_refl 0, Nat.le_refl 0⟩ (fun r53 u53 H locs hq hP hD hS => ?_)
              obtain ⟨hR, hF53, gr53, xr53⟩ := hq
              have hF := hF.tr hF53 (by decide)
              have hK_MS := sp_fr sp_MS hF53 (by decide) hK_MS
              have hK_AP := sp_fr sp_AP hF53 (by decide) hK_AP
              have hK_i_CW := sp_fr (sp_imp sp_CW) hF53 (by decide) hK_i_CW
              have hK_i_UI := sp_fr (sp_imp sp_UI) hF53 (by decide) hK_i_UI
              have hK_i_BI := sp_fr (sp_imp sp_BI) hF53 (by decide) hK_i_BI
              have hK_i_AU := sp_fr (sp_imp sp_AU) hF53 (by decide) hK_i_AU
              have hK_i_AB := sp_fr (sp_imp sp_AB) hF53 (by decide) hK_i_AB
              have hK_i_HX := sp_fr (sp_imp sp_HX) hF53 (by decide) hK_i_HX
              have xr53 : r53.toInt < (u34.1 87 1).toInt := xr53
              refine lv_istore (lv' := [(6, .int r53), (5, .int r34), (0, .ref (ad 85)), (1, .int p0), (3, .int x3), (4, .int x4)]) F.1 F.2.1 dX12_draws_55 hl (by decide) rfl (fun ls hl => ?_)
              refine lv_aload_n F.1 F.2.1 dX12_draws_57 rfl (lv_at hl 2 rfl) ?_
              refine lv_iload F.1 F.2.1 dX12_draws_58 (lv_at hl 5 rfl) ?_
              refine lv_iload F.1 F.2.1 dX12_draws_60 (lv_at hl 0 rfl) ?_
              refine a_Vi F hml hl.1 hA hP hD hS (As := [.int x4, .int r53]) (c_X12_whyGoOf_85 l dC dI ad cA nF _ x4 r53 hR (by omega) (by omega)) (cs_RX12_266 (d := 2) F.2.2.1 (by decide)) tc_85 rfl rfl rfl rfl (Nat.le_of_ble_eq_true rfl) dX12_draws_62 ⟨Nat.le_refl 0, Nat.le_refl 0⟩ (fun r54 uN54 H locs hq hP hD hS => ?_)
              obtain ⟨hu54, gr54⟩ := hq
              rw [hu54] at hP hD
              refine z_ne F 76 dX12_draws_65 (by decide) rfl (fun c55 => ?_) (fun c55 => ?_)
              · exact L76 x3 x4 _ _ _ _ hR hF hK_MS hK_AP hK_i_CW hK_i_UI hK_i_BI hK_i_AU hK_i_AB hK_i_HX (by omega) (by omega) (by rw [(hF53 87 106 rfl).trans (hF34 87 106 rfl), (hF53 87 0 rfl).trans (hF34 87 0 rfl)]; exact (by omega : (u.1 87 106).toInt ≠ 20 * (u.1 87 0).toInt)) (by omega) (by omega) hP hD hS (lv_sub hl [2, 3, 4, 5] rfl)
              · refine lv_aload_n F.1 F.2.1 dX12_draws_68 rfl (lv_at hl 2 rfl) ?_
                refine lv_iload F.1 F.2.1 dX12_draws_69 (lv_at hl 5 rfl) ?_
                refine lv_iload F.1 F.2.1 dX12_draws_71 (lv_at hl 0 rfl) ?_
                have k57 : (u53.1 87 106).toInt = (u.1 87 106).toInt := congrArg Int32.toInt (show u53.1 87 106 = (u.1 87 106) from (hF53 87 106 rfl).trans (hF34 87 106 rfl))
                have k58 : (u53.1 87 0).toInt = (u.1 87 0).toInt := congrArg Int32.toInt (show u53.1 87 0 = (u.1 87 0) from (hF53 87 0 rfl).trans (hF34 87 0 rfl))
                refine a_Vv F hml hl.1 hA hP hD hS (As := [.int x4, .int r53]) (c_X12_goes_85__4 l dC dI ad cA nF _ x4 r53 hR (by omega) (by omega) (by rw [hF53 87 1 rfl]; exact (by omega : r53.toInt < (u34.1 87 1).toInt)) hK_AP) (cs_RX12_272 (d := 1) F.2.2.1 (by decide)) tc_85 rfl rfl rfl rfl (Nat.le_of_ble_eq_true rfl) dX12_draws_73 ⟨Nat.le_refl 0, Nat.le_refl 0⟩ (fun u56 H locs hq hP hD hS => ?_)
                obtain ⟨hR, hF56, xr56, hK_AP, hJ56_MS, hJ56_CW, hJ56_UI, hJ56_BI, hJ56_AU, hJ56_AB, hJ56_BG, hJ56_HX⟩ := hq
                have hF := hF.tr hF56 (by decide)
                have hK_MS := hJ56_MS hK_MS
                have hK_i_CW : (fun u => cdI u0 → cdI u) u56 := fun h => hJ56_CW (hK_i_CW h)
                have hK_i_UI : (fun u => unI u0 → unI u) u56 := fun h => hJ56_UI (hK_i_UI h)
                have hK_i_BI : (fun u => bfI u0 → bfI u) u56 := fun h => hJ56_BI (hK_i_BI h)
                have hK_i_AU : (fun u => auI u0 → auI u) u56 := fun h => hJ56_AU (hK_i_AU h)
                have hK_i_AB : (fun u => abI u0 → abI u) u56 := fun h => hJ56_AB (hK_i_AB h)
                have hK_i_HX : (fun u => hxI u0 → hxI u) u56 := fun h => hJ56_HX (hK_i_HX h)
                have g59 : (0 : Int) ≤ (u56.1 87 106).toInt ∧ (u56.1 87 106).toInt ≤ 480 := hR 87 106
                have g60 : (4 : Int) ≤ (u56.1 87 0).toInt ∧ (u56.1 87 0).toInt ≤ 24 := hR 87 0
                have xr56 : (u56.1 87 106).toInt = (u53.1 87 106).toInt ∧ (u56.1 87 0).toInt = (u53.1 87 0).toInt := xr56
                exact L76 x3 x4 _ _ _ _ hR hF hK_MS hK_AP hK_i_CW hK_i_UI hK_i_BI hK_i_AU hK_i_AB hK_i_HX (by omega) (by omega) (by omega : (u56.1 87 106).toInt ≠ 20 * (u56.1 87 0).toInt) (by omega) (by omega) hP hD hS (lv_sub hl [2, 3, 4, 5] rfl)
      refine lv_iload_n F.1 F.2.1 dX12_draws_7 rfl (lv_at hl 2 rfl) ?_
      refine lv_iload_n F.1 F.2.1 dX12_draws_8 rfl (lv_at hl 1 rfl) ?_
      refine b_ge F 190 dX12_draws_9 (by decide) rfl rfl (fun c61 => ?_) (fun c61 => ?_)
      · exact L190 x3 _ _ _ _ hR hF hK_MS hK_AP hK_i_CW hK_i_UI hK_i_BI hK_i_AU hK_i_AB hK_i_HX (by omega) hP hD hS (lv_sub hl [2] rfl)
      · refine lv_aload_n F.1 F.2.1 dX12_draws_12 rfl (lv_at hl 0 rfl) ?_
        refine a_Vi F hml hl.1 hA hP hD hS (As := []) (c_X12_isOver_85 l dC dI ad cA nF _  hR) (cs_RX12_263 (d := 1) F.2.2.1 (by decide)) tc_85 rfl rfl rfl rfl (Nat.le_of_ble_eq_true rfl) dX12_draws_13 ⟨Nat.le_refl 0, Nat.le_refl 0⟩ (fun r62 uN62 H locs hq hP hD hS => ?_)
        obtain ⟨hu62, gr62, xr62⟩ := hq
        rw [hu62] at hP hD
        have g63 : (0 : Int) ≤ (u.1 87 106).toInt ∧ (u.1 87 106).toInt ≤ 480 := hR 87 106
        have g64 : (4 : Int) ≤ (u.1 87 0).toInt ∧ (u.1 87 0).toInt ≤ 24 := hR 87 0
        have xr62 : r62.toInt = 0 → (u.1 87 106).toInt ≠ 20 * (u.1 87 0).toInt := xr62
        refine z_ne F 190 dX12_draws_16 (by decide) rfl (fun c65 => ?_) (fun c65 => ?_)
        · exact L190 x3 _ _ _ _ hR hF hK_MS hK_AP hK_i_CW hK_i_UI hK_i_BI hK_i_AU hK_i_AB hK_i_HX (by omega) hP hD hS (lv_sub hl [2] rfl)
        · refine a_ic F (0 : Int32) dX12_draws_19 (by decide) ?_
          refine lv_istore (lv' := [(4, .int (0 : Int32)), (0, .ref (ad 85)), (1, .int p0), (3, .int x3)]) F.1 F.2.1 dX12_draws_20 hl (by decide) rfl (fun ls hl => ?_)
          exact L22 6 x3 (0 : Int32) _ _ _ _ hR hF (by decide) hK_MS hK_AP hK_i_CW hK_i_UI hK_i_BI hK_i_AU hK_i_AB hK_i_HX (by omega) (by decide) (by omega : (u.1 87 106).toInt ≠ 20 * (u.1 87 0).toInt) (by omega) hP hD hS (lv_sub hl [1, 2, 3, 0] rfl)
  refine lv_aload_n F.1 F.2.1 dX12_draws_0 rfl (lv_at hl 0 rfl) ?_
  refine lv_iload_n F.1 F.2.1 dX12_draws_1 rfl (lv_at hl 2 rfl) ?_
  refine a_puti F inX12 tyX12 tyX12_ok nmX12 hP hD hS 85 34 tc_85 rfl rfl (by decide) q1505 (fun _ h9 => h9) rfl (ty := .int) (tyX12_ok 34 (by decide)) rfl rfl dX12_draws_2 (fun H locs hP hD hS => ?_)
  have hR := hR.si (c := 85) (k := 34) (v := p1) ⟨i_lo _, i_hi _⟩
  have hF := hF.si (c := 85) (k := 34) (v := p1) rfl
  have hK_MS := sp_sgD sp_MS hD hK_MS (by decide)
  have hK_AP := sp_sgD sp_AP hD hK_AP (by decide)
  have hK_i_CW := sp_sgD (sp_imp sp_CW) hD hK_i_CW (by decide)
  have hK_i_UI := sp_si (sp_imp sp_UI) hK_i_UI (c := 85) (k := 34) (v := p1) (fun j9 h9 q9 => by rw [q9] at h9; exact absurd h9 (by decide))
  have hK_i_BI := sp_sgD (sp_imp sp_BI) hD hK_i_BI (by decide)
  have hK_i_AU := sp_si (sp_imp sp_AU) hK_i_AU (c := 85) (k := 34) (v := p1) (fun j9 h9 q9 => by rw [q9] at h9; exact absurd h9 (by decide))
  have hK_i_AB := sp_sgD (sp_imp sp_AB) hD hK_i_AB (by decide)
  have hK_i_HX := sp_sgD (sp_imp sp_HX) hD hK_i_HX (by decide)
  refine a_ic F (0 : Int32) dX12_draws_5 (by decide) ?_
  refine lv_istore_n (lv' := [(3, .int (0 : Int32)), (0, .ref (ad 85)), (1, .int p0), (2, .int p1)]) F.1 F.2.1 dX12_draws_6 rfl hl (by decide) rfl (fun ls hl => ?_)
  exact L7 102 (0 : Int32) _ _ _ _ hR hF (by decide) hK_MS hK_AP hK_i_CW hK_i_UI hK_i_BI hK_i_AU hK_i_AB hK_i_HX (by decide) hP hD hS (lv_sub hl [1, 2, 0] rfl)
set_option maxHeartbeats 600000 in
set_option maxRecDepth 100000 in
theorem c_X12_drawn_85__3 (l : Launch) (dC : Nat → ClassId) (dI : Nat → Nat → Nat) (ad : Nat → Nat) (cA : Nat → ClassId) (nF : Nat) (u0 : ac_U) (p0 : Int32) (p1 : Int32) (hR : ac_R rg u0) (hK_MS : msI u0) (hK_UI : unI u0) (hK_CW : cdI u0) (hK_AP : apI u0) (hK_AU : auI u0) : ac_Mi l yX12_drawn (.code yX12_drawn cX12_drawn 3 (some .int) :: TB) 4 (dC, dI) vwCl (ac_ty cA) ad cA (TT nF) [.ref (ad 85), .int p0, .int p1] u0 (fun (r : Int32) (u : ac_U) => ac_R rg u ∧ ac_Fr [(85, some 0), (85, some 24), (85, some 34), (87, none), (93, none)] u0 u ∧ ((-1 : Int) ≤ r.toInt ∧ r.toInt ≤ 100) ∧ msI u ∧ unI u ∧ cdI u ∧ apI u ∧ auI u ∧ (hxI u0 → hxI u)) := by
  refine ac_Mi.of (cc := cX12_drawn) (maxL := 3) (ret := (some .int)) (by decide) rfl (Nat.le_of_ble_eq_true rfl) ?_
  intro p e s m below meth c A ls F hml hr hlocks hA hP hD hS hl
  have F : ac_X p s m [.ref (ad 85), .int p0, .int p1].toArray c cX12_drawn RX12 TB (dC, dI) vwCl (ac_ty cA) := ⟨F.1, F.2.1, fun w h => F.2.2.1 w (List.mem_cons_of_mem _ h), F.2.2.2.1, F.2.2.2.2⟩
  have hl : lv_has ls 3 [(0, .ref (ad 85)), (1, .int p0), (2, .int p1)] := hl
  have hF : ac_Fr [(85, some 0), (85, some 24), (85, some 34), (87, none), (93, none)] u0 u0 := ac_Fr.rf
  have hK_i_HX : (fun u => hxI u0 → hxI u) u0 := fun h => h
  have L24 : ∀ (u : ac_U) (H : Heap) (locs : List Loc) (ls : Array Slot), ac_R rg u → ac_Fr [(85, some 0), (85, some 24), (85, some 34), (87, none), (93, none)] u0 u → msI u → unI u → cdI u → apI u → auI u → (fun u => hxI u0 → hxI u) u → (0 : Int) ≤ (u.1 85 0).toInt ∧ (u.1 85 0).toInt ≤ 0 → va_P (dC, dI) vwCl (ac_w ad cA (TT nF) u) H → va_D A (ac_w ad cA (TT nF) u) → va_S A s.heap H locs → lv_has ls 3 [] → W p l e (ac_rm 4) s m [.ref (ad 85), .int p0, .int p1].toArray below meth c H locs 0 0 (MQ below (va_Qi (fun (r : Int32) (u : ac_U) => ac_R rg u ∧ ac_Fr [(85, some 0), (85, some 24), (85, some 34), (87, none), (93, none)] u0 u ∧ ((-1 : Int) ≤ r.toInt ∧ r.toInt ≤ 100) ∧ msI u ∧ unI u ∧ cdI u ∧ apI u ∧ auI u ∧ (hxI u0 → hxI u)) (ac_B (dC, dI) vwCl (ac_ty cA) ad cA (TT nF) A) A) [.ref (ad 85), .int p0, .int p1].toArray s 0 0 A) (F0 m 24 ls []) := by
    intro u H locs ls hR hF hK_MS hK_UI hK_CW hK_AP hK_AU hK_i_HX f0 hP hD hS hl
    refine a_ic F (-1 : Int32) dX12_drawn_24 (by decide) ?_
    exact a_reti F hr hlocks hP hD hS dX12_drawn_25 ⟨hR, hF, (by decide), hK_MS, hK_UI, hK_CW, hK_AP, hK_AU, hK_i_HX⟩
  refine lv_aload_n F.1 F.2.1 dX12_drawn_0 rfl (lv_at hl 0 rfl) ?_
  refine a_ic F (0 : Int32) dX12_drawn_1 (by decide) ?_
  refine a_puti F inX12 tyX12 tyX12_ok nmX12 hP hD hS 85 0 tc_85 rfl rfl (by decide) q1471 (fun _ h9 => h9) rfl (ty := .int) (tyX12_ok 0 (by decide)) rfl rfl dX12_drawn_2 (fun H locs hP hD hS => ?_)
  have hR := hR.si (c := 85) (k := 0) (v := (0 : Int32)) (by rw [ic_0]; exact (by omega : (0 : Int) ≤ (0 : Int) ∧ (0 : Int) ≤ 1))
  have hF := hF.si (c := 85) (k := 0) (v := (0 : Int32)) rfl
  have hK_MS := sp_sgD sp_MS hD hK_MS (by decide)
  have hK_UI := sp_si sp_UI hK_UI (c := 85) (k := 0) (v := (0 : Int32)) (fun j9 h9 q9 => by rw [q9] at h9; exact absurd h9 (by decide))
  have hK_CW := sp_sgD sp_CW hD hK_CW (by decide)
  have hK_AP := sp_sgD sp_AP hD hK_AP (by decide)
  have hK_AU := sp_si sp_AU hK_AU (c := 85) (k := 0) (v := (0 : Int32)) (fun j9 h9 q9 => by rw [q9] at h9; exact absurd h9 (by decide))
  have hK_i_HX := sp_sgD (sp_imp sp_HX) hD hK_i_HX (by decide)
  refine lv_iload_n F.1 F.2.1 dX12_drawn_5 rfl (lv_at hl 1 rfl) ?_
  refine a_ic F (1 : Int32) dX12_drawn_6 (by decide) ?_
  refine a_bp F (99 : Int32) dX12_drawn_7 (by decide) ?_
  refine a_Si F hml hl.1 hA hP hD hS (As := [.int p0, .int (1 : Int32), .int (99 : Int32)]) (c_X12_isIn l dC dI ad cA nF _ p0 (1 : Int32) (99 : Int32) hR (by decide)) (cs_RX12_187 (d := 1) F.2.2.1 (by decide)) rfl rfl (Nat.le_of_ble_eq_true rfl) dX12_drawn_9 ⟨Nat.le_refl 0, Nat.le_refl 0⟩ (fun r1 uN1 H locs hq hP hD hS => ?_)
  obtain ⟨hu1, gr1, xr1⟩ := hq
  rw [hu1] at hP hD
  have xr1 : r1.toInt ≠ 0 → (1 : Int) ≤ p0.toInt ∧ p0.toInt ≤ (99 : Int) := xr1
  refine z_eq F 24 dX12_drawn_12 (by decide) rfl (fun c2 => ?_) (fun c2 => ?_)
  · exact L24 _ _ _ _ hR hF hK_MS hK_UI hK_CW hK_AP hK_AU hK_i_HX (by omega : (0 : Int) ≤ (0 : Int) ∧ (0 : Int) ≤ 0) hP hD hS (lv_sub hl [] rfl)
  · refine lv_aload_n F.1 F.2.1 dX12_drawn_15 rfl (lv_at hl 0 rfl) ?_
    refine a_getr F inX12 hP 85 6 tc_85 rfl rfl (by decide) q1477 (fun _ h9 => h9) dX12_drawn_16 ?_
    refine a_ic F (4 : Int32) dX12_drawn_19 (by decide) ?_
    have g3 : (0 : Int) ≤ (u0.1 87 4).toInt ∧ (u0.1 87 4).toInt ≤ 4 := hR 87 4
    refine a_ialdK F hP 87 4 tc_87 rfl rfl (i_in ic_4 (by omega)) (v := (u0.1 87 4)) rfl dX12_drawn_20 ?_
    refine z_ne F 26 dX12_drawn_21 (by decide) rfl (fun c4 => ?_) (fun c4 => ?_)
    · refine lv_aload_n F.1 F.2.1 dX12_drawn_26 rfl (lv_at hl 0 rfl) ?_
      refine a_Vi F hml hl.1 hA hP hD hS (As := []) (c_X12_isOver_85 l dC dI ad cA nF _  hR) (cs_RX12_263 (d := 1) F.2.2.1 (by decide)) tc_85 rfl rfl rfl rfl (Nat.le_of_ble_eq_true rfl) dX12_drawn_27 ⟨Nat.le_refl 0, Nat.le_refl 0⟩ (fun r5 uN5 H locs hq hP hD hS => ?_)
      obtain ⟨hu5, gr5, xr5⟩ := hq
      rw [hu5] at hP hD
      have g6 : (0 : Int) ≤ (u0.1 87 106).toInt ∧ (u0.1 87 106).toInt ≤ 480 := hR 87 106
      have g7 : (4 : Int) ≤ (u0.1 87 0).toInt ∧ (u0.1 87 0).toInt ≤ 24 := hR 87 0
      have xr5 : r5.toInt = 0 → (u0.1 87 106).toInt ≠ 20 * (u0.1 87 0).toInt := xr5
      refine z_eq F 35 dX12_drawn_30 (by decide) rfl (fun c8 => ?_) (fun c8 => ?_)
      · refine lv_aload_n F.1 F.2.1 dX12_drawn_35 rfl (lv_at hl 0 rfl) ?_
        refine a_Vv F hml hl.1 hA hP hD hS (As := []) (c_X12_keep_85__3 l dC dI ad cA nF _  hR hK_MS hK_UI hK_AP hK_AU) (cs_RX12_269 (d := 1) F.2.2.1 (by decide)) tc_85 rfl rfl rfl rfl (Nat.le_of_ble_eq_true rfl) dX12_drawn_36 ⟨Nat.le_refl 0, Nat.le_refl 0⟩ (fun u9 H locs hq hP hD hS => ?_)
        obtain ⟨hR, hF9, xr9, hK_MS, hK_UI, hK_AP, hK_AU⟩ := hq
        have hF := hF.tr hF9 (by decide)
        have hK_CW := sp_fr sp_CW hF9 (by decide) hK_CW
        have hK_i_HX := sp_fr (sp_imp sp_HX) hF9 (by decide) hK_i_HX
        have g10 : (0 : Int) ≤ (u9.1 85 24).toInt ∧ (u9.1 85 24).toInt ≤ 8 := hR 85 24
        have xr9 : 1 ≤ (u9.1 85 24).toInt := xr9
        refine lv_aload_n F.1 F.2.1 dX12_drawn_39 rfl (lv_at hl 0 rfl) ?_
        refine lv_iload_n F.1 F.2.1 dX12_drawn_40 rfl (lv_at hl 1 rfl) ?_
        refine lv_iload_n F.1 F.2.1 dX12_drawn_41 rfl (lv_at hl 2 rfl) ?_
        refine a_Vi F hml hl.1 hA hP hD hS (As := [.int p0, .int p1]) (c_X12_draws_85__3 l dC dI ad cA nF _ p0 p1 hR (by omega) hK_MS hK_AP) (cs_RX12_389 (d := 3) F.2.2.1 (by decide)) tc_85 rfl rfl rfl rfl (Nat.le_of_ble_eq_true rfl) dX12_drawn_42 ⟨Nat.le_refl 0, Nat.le_refl 0⟩ (fun r11 u11 H locs hq hP hD hS => ?_)
        obtain ⟨hR, hF11, gr11, hK_MS, hK_AP, hJ11_CW, hJ11_UI, hJ11_BI, hJ11_AU, hJ11_AB, hJ11_HX⟩ := hq
        have hF := hF.tr hF11 (by decide)
        have hK_UI := hJ11_UI hK_UI
        have hK_CW := hJ11_CW hK_CW
        have hK_AU := hJ11_AU hK_AU
        have hK_i_HX : (fun u => hxI u0 → hxI u) u11 := fun h => hJ11_HX (hK_i_HX h)
        exact a_reti F hr hlocks hP hD hS dX12_drawn_45 ⟨hR, hF, (by omega : (-1 : Int) ≤ r11.toInt ∧ r11.toInt ≤ 100), hK_MS, hK_UI, hK_CW, hK_AP, hK_AU, hK_i_HX⟩
      · refine a_ic F (0 : Int32) dX12_drawn_33 (by decide) ?_
        exact a_reti F hr hlocks hP hD hS dX12_drawn_34 ⟨hR, hF, (by decide), hK_MS, hK_UI, hK_CW, hK_AP, hK_AU, hK_i_HX⟩
    · exact L24 _ _ _ _ hR hF hK_MS hK_UI hK_CW hK_AP hK_AU hK_i_HX (by omega : (0 : Int) ≤ (0 : Int) ∧ (0 : Int) ≤ 0) hP hD hS (lv_sub hl [] rfl)
set_option maxHeartbeats 600000 in
set_option maxRecDepth 100000 in
theorem c_X12_go_85__4 (l : Launch) (dC : Nat → ClassId) (dI : Nat → Nat → Nat) (ad : Nat → Nat) (cA : Nat → ClassId) (nF : Nat) (u0 : ac_U) (p0 : Int32) (p1 : Int32) (hR : ac_R rg u0) (hK_MS : msI u0) (hK_UI : unI u0) (hK_CW : cdI u0) (hK_AP : apI u0) (hK_AU : auI u0) : ac_Mi l yX12_go (.code yX12_go cX12_go 4 (some .int) :: TB) 3 (dC, dI) vwCl (ac_ty cA) ad cA (TT nF) [.ref (ad 85), .int p0, .int p1] u0 (fun (r : Int32) (u : ac_U) => ac_R rg u ∧ ac_Fr [(85, some 0), (85, some 24), (87, none), (93, none)] u0 u ∧ ((-1 : Int) ≤ r.toInt ∧ r.toInt ≤ 3) ∧ msI u ∧ unI u ∧ cdI u ∧ apI u ∧ auI u ∧ (hxI u0 → hxI u)) := by
  refine ac_Mi.of (cc := cX12_go) (maxL := 4) (ret := (some .int)) (by decide) rfl (Nat.le_of_ble_eq_true rfl) ?_
  intro p e s m below meth c A ls F hml hr hlocks hA hP hD hS hl
  have F : ac_X p s m [.ref (ad 85), .int p0, .int p1].toArray c cX12_go RX12 TB (dC, dI) vwCl (ac_ty cA) := ⟨F.1, F.2.1, fun w h => F.2.2.1 w (List.mem_cons_of_mem _ h), F.2.2.2.1, F.2.2.2.2⟩
  have hl : lv_has ls 4 [(0, .ref (ad 85)), (1, .int p0), (2, .int p1)] := hl
  have hF : ac_Fr [(85, some 0), (85, some 24), (87, none), (93, none)] u0 u0 := ac_Fr.rf
  have hK_i_HX : (fun u => hxI u0 → hxI u) u0 := fun h => h
  have L21 : ∀ (u : ac_U) (H : Heap) (locs : List Loc) (ls : Array Slot), ac_R rg u → ac_Fr [(85, some 0), (85, some 24), (87, none), (93, none)] u0 u → msI u → unI u → cdI u → apI u → auI u → (fun u => hxI u0 → hxI u) u → (0 : Int) ≤ (u.1 85 0).toInt ∧ (u.1 85 0).toInt ≤ 0 → va_P (dC, dI) vwCl (ac_w ad cA (TT nF) u) H → va_D A (ac_w ad cA (TT nF) u) → va_S A s.heap H locs → lv_has ls 4 [] → W p l e (ac_rm 3) s m [.ref (ad 85), .int p0, .int p1].toArray below meth c H locs 0 0 (MQ below (va_Qi (fun (r : Int32) (u : ac_U) => ac_R rg u ∧ ac_Fr [(85, some 0), (85, some 24), (87, none), (93, none)] u0 u ∧ ((-1 : Int) ≤ r.toInt ∧ r.toInt ≤ 3) ∧ msI u ∧ unI u ∧ cdI u ∧ apI u ∧ auI u ∧ (hxI u0 → hxI u)) (ac_B (dC, dI) vwCl (ac_ty cA) ad cA (TT nF) A) A) [.ref (ad 85), .int p0, .int p1].toArray s 0 0 A) (F0 m 21 ls []) := by
    intro u H locs ls hR hF hK_MS hK_UI hK_CW hK_AP hK_AU hK_i_HX f0 hP hD hS hl
    refine a_ic F (-1 : Int32) dX12_go_21 (by decide) ?_
    exact a_reti F hr hlocks hP hD hS dX12_go_22 ⟨hR, hF, (by decide), hK_MS, hK_UI, hK_CW, hK_AP, hK_AU, hK_i_HX⟩
  refine lv_aload_n F.1 F.2.1 dX12_go_0 rfl (lv_at hl 0 rfl) ?_
  refine a_ic F (0 : Int32) dX12_go_1 (by decide) ?_
  refine a_puti F inX12 tyX12 tyX12_ok nmX12 hP hD hS 85 0 tc_85 rfl rfl (by decide) q1471 (fun _ h9 => h9) rfl (ty := .int) (tyX12_ok 0 (by decide)) rfl rfl dX12_go_2 (fun H locs hP hD hS => ?_)
  have hR := hR.si (c := 85) (k := 0) (v := (0 : Int32)) (by rw [ic_0]; exact (by omega : (0 : Int) ≤ (0 : Int) ∧ (0 : Int) ≤ 1))
  have hF := hF.si (c := 85) (k := 0) (v := (0 : Int32)) rfl
  have hK_MS := sp_sgD sp_MS hD hK_MS (by decide)
  have hK_UI := sp_si sp_UI hK_UI (c := 85) (k := 0) (v := (0 : Int32)) (fun j9 h9 q9 => by rw [q9] at h9; exact absurd h9 (by decide))
  have hK_CW := sp_sgD sp_CW hD hK_CW (by decide)
  have hK_AP := sp_sgD sp_AP hD hK_AP (by decide)
  have hK_AU := sp_si sp_AU hK_AU (c := 85) (k := 0) (v := (0 : Int32)) (fun j9 h9 q9 => by rw [q9] at h9; exact absurd h9 (by decide))
  have hK_i_HX := sp_sgD (sp_imp sp_HX) hD hK_i_HX (by decide)
  refine lv_aload_n F.1 F.2.1 dX12_go_5 rfl (lv_at hl 0 rfl) ?_
  refine lv_iload_n F.1 F.2.1 dX12_go_6 rfl (lv_at hl 1 rfl) ?_
  refine a_Vi F hml hl.1 hA hP hD hS (As := [.int p0]) (c_X12_isPerson_85 l dC dI ad cA nF _ p0 hR) (cs_RX12_251 (d := 2) F.2.2.1 (by decide)) tc_85 rfl rfl rfl rfl (Nat.le_of_ble_eq_true rfl) dX12_go_7 ⟨Nat.le_refl 0, Nat.le_refl 0⟩ (fun r1 uN1 H locs hq hP hD hS => ?_)
  obtain ⟨hu1, gr1, xr1⟩ := hq
  rw [hu1] at hP hD
  have xr1 : r1.toInt ≠ 0 → 0 ≤ p0.toInt ∧ p0.toInt ≤ 3 := xr1
  refine z_eq F 21 dX12_go_10 (by decide) rfl (fun c2 => ?_) (fun c2 => ?_)
  · exact L21 _ _ _ _ hR hF hK_MS hK_UI hK_CW hK_AP hK_AU hK_i_HX (by omega : (0 : Int) ≤ (0 : Int) ∧ (0 : Int) ≤ 0) hP hD hS (lv_sub hl [] rfl)
  · refine lv_aload_n F.1 F.2.1 dX12_go_13 rfl (lv_at hl 0 rfl) ?_
    refine lv_iload_n F.1 F.2.1 dX12_go_14 rfl (lv_at hl 2 rfl) ?_
    refine a_Vi F hml hl.1 hA hP hD hS (As := [.int p1]) (c_X12_isPlace_85_f l dC dI ad cA nF _ p1 hR) (cs_RX12_254 (d := 2) F.2.2.1 (by decide)) tc_85 rfl rfl rfl rfl (Nat.le_of_ble_eq_true rfl) dX12_go_15 ⟨Nat.le_refl 0, Nat.le_refl 0⟩ (fun r3 uN3 H locs hq hP hD hS => ?_)
    obtain ⟨hu3, gr3, xr3⟩ := hq
    rw [hu3] at hP hD
    have g4 : (0 : Int) ≤ (u0.1 87 1).toInt ∧ (u0.1 87 1).toInt ≤ 8 := hR 87 1
    have xr3 : r3.toInt ≠ 0 → 0 ≤ p1.toInt ∧ p1.toInt < (u0.1 87 1).toInt ∧ p1.toInt ≤ 7 := xr3
    refine z_ne F 23 dX12_go_18 (by decide) rfl (fun c5 => ?_) (fun c5 => ?_)
    · refine lv_aload_n F.1 F.2.1 dX12_go_23 rfl (lv_at hl 0 rfl) ?_
      refine lv_iload_n F.1 F.2.1 dX12_go_24 rfl (lv_at hl 1 rfl) ?_
      refine lv_iload_n F.1 F.2.1 dX12_go_25 rfl (lv_at hl 2 rfl) ?_
      refine a_Vi F hml hl.1 hA hP hD hS (As := [.int p0, .int p1]) (c_X12_whyGoOf_85 l dC dI ad cA nF _ p0 p1 hR (by omega) (by omega)) (cs_RX12_266 (d := 2) F.2.2.1 (by decide)) tc_85 rfl rfl rfl rfl (Nat.le_of_ble_eq_true rfl) dX12_go_26 ⟨Nat.le_refl 0, Nat.le_refl 0⟩ (fun r6 uN6 H locs hq hP hD hS => ?_)
      obtain ⟨hu6, gr6⟩ := hq
      rw [hu6] at hP hD
      refine lv_istore_n (lv' := [(3, .int r6), (0, .ref (ad 85)), (1, .int p0), (2, .int p1)]) F.1 F.2.1 dX12_go_29 rfl hl (by decide) rfl (fun ls hl => ?_)
      refine lv_iload_n F.1 F.2.1 dX12_go_30 rfl (lv_at hl 0 rfl) ?_
      refine z_le F 36 dX12_go_31 (by decide) rfl (fun c7 => ?_) (fun c7 => ?_)
      · refine lv_aload_n F.1 F.2.1 dX12_go_36 rfl (lv_at hl 1 rfl) ?_
        refine a_Vv F hml hl.1 hA hP hD hS (As := []) (c_X12_keep_85__3 l dC dI ad cA nF _  hR hK_MS hK_UI hK_AP hK_AU) (cs_RX12_269 (d := 1) F.2.2.1 (by decide)) tc_85 rfl rfl rfl rfl (Nat.le_of_ble_eq_true rfl) dX12_go_37 ⟨Nat.le_refl 0, Nat.le_refl 0⟩ (fun u8 H locs hq hP hD hS => ?_)
        obtain ⟨hR, hF8, xr8, hK_MS, hK_UI, hK_AP, hK_AU⟩ := hq
        have hF := hF.tr hF8 (by decide)
        have hK_CW := sp_fr sp_CW hF8 (by decide) hK_CW
        have hK_i_HX := sp_fr (sp_imp sp_HX) hF8 (by decide) hK_i_HX
        have g9 : (0 : Int) ≤ (u8.1 85 24).toInt ∧ (u8.1 85 24).toInt ≤ 8 := hR 85 24
        have xr8 : 1 ≤ (u8.1 85 24).toInt := xr8
        refine lv_aload_n F.1 F.2.1 dX12_go_40 rfl (lv_at hl 1 rfl) ?_
        refine lv_iload_n F.1 F.2.1 dX12_go_41 rfl (lv_at hl 2 rfl) ?_
        refine lv_iload_n F.1 F.2.1 dX12_go_42 rfl (lv_at hl 3 rfl) ?_
        refine a_Vv F hml hl.1 hA hP hD hS (As := [.int p0, .int p1]) (c_X12_goes_85__4 l dC dI ad cA nF _ p0 p1 hR (by omega) (by omega) (by rw [hF8 87 1 rfl]; exact (by omega : p1.toInt < (u0.1 87 1).toInt)) hK_AP) (cs_RX12_272 (d := 1) F.2.2.1 (by decide)) tc_85 rfl rfl rfl rfl (Nat.le_of_ble_eq_true rfl) dX12_go_43 ⟨Nat.le_refl 0, Nat.le_refl 0⟩ (fun u10 H locs hq hP hD hS => ?_)
        obtain ⟨hR, hF10, xr10, hK_AP, hJ10_MS, hJ10_CW, hJ10_UI, hJ10_BI, hJ10_AU, hJ10_AB, hJ10_BG, hJ10_HX⟩ := hq
        have hF := hF.tr hF10 (by decide)
        have hK_MS := hJ10_MS hK_MS
        have hK_UI := hJ10_UI hK_UI
        have hK_CW := hJ10_CW hK_CW
        have hK_AU := hJ10_AU hK_AU
        have hK_i_HX : (fun u => hxI u0 → hxI u) u10 := fun h => hJ10_HX (hK_i_HX h)
        have g11 : (0 : Int) ≤ (u10.1 87 106).toInt ∧ (u10.1 87 106).toInt ≤ 480 := hR 87 106
        have g12 : (4 : Int) ≤ (u10.1 87 0).toInt ∧ (u10.1 87 0).toInt ≤ 24 := hR 87 0
        have xr10 : (u10.1 87 106).toInt = (u8.1 87 106).toInt ∧ (u10.1 87 0).toInt = (u8.1 87 0).toInt := xr10
        refine a_ic F (0 : Int32) dX12_go_46 (by decide) ?_
        exact a_reti F hr hlocks hP hD hS dX12_go_47 ⟨hR, hF, (by decide), hK_MS, hK_UI, hK_CW, hK_AP, hK_AU, hK_i_HX⟩
      · refine lv_iload_n F.1 F.2.1 dX12_go_34 rfl (lv_at hl 0 rfl) ?_
        exact a_reti F hr hlocks hP hD hS dX12_go_35 ⟨hR, hF, (by omega : (-1 : Int) ≤ r6.toInt ∧ r6.toInt ≤ 3), hK_MS, hK_UI, hK_CW, hK_AP, hK_AU, hK_i_HX⟩
    · exact L21 _ _ _ _ hR hF hK_MS hK_UI hK_CW hK_AP hK_AU hK_i_HX (by omega : (0 : Int) ≤ (0 : Int) ∧ (0 : Int) ≤ 0) hP hD hS (lv_sub hl [] rfl)
set_option maxHeartbeats 600000 in
set_option maxRecDepth 100000 in
theorem c_X12_hours_85__4 (l : Launch) (dC : Nat → ClassId) (dI : Nat → Nat → Nat) (ad : Nat → Nat) (cA : Nat → ClassId) (nF : Nat) (u0 : ac_U) (p0 : Int32) (hR : ac_R rg u0) (hK_MS : msI u0) (hK_UI : unI u0) (hK_CW : cdI u0) (hK_AP : apI u0) (hK_AU : auI u0) : ac_Mi l yX12_hours (.code yX12_hours cX12_hours 3 (some .int) :: TB) 2 (dC, dI) vwCl (ac_ty cA) ad cA (TT nF) [.ref (ad 85), .int p0] u0 (fun (r : Int32) (u : ac_U) => ac_R rg u ∧ ac_Fr [(85, some 0), (85, some 24), (87, none), (93, none)] u0 u ∧ ((-1 : Int) ≤ r.toInt ∧ r.toInt ≤ 99) ∧ msI u ∧ unI u ∧ cdI u ∧ apI u ∧ auI u ∧ (hxI u0 → hxI u)) := by
  refine ac_Mi.of (cc := cX12_hours) (maxL := 3) (ret := (some .int)) (by decide) rfl (Nat.le_of_ble_eq_true rfl) ?_
  intro p e s m below meth c A ls F hml hr hlocks hA hP hD hS hl
  have F : ac_X p s m [.ref (ad 85), .int p0].toArray c cX12_hours RX12 TB (dC, dI) vwCl (ac_ty cA) := ⟨F.1, F.2.1, fun w h => F.2.2.1 w (List.mem_cons_of_mem _ h), F.2.2.2.1, F.2.2.2.2⟩
  have hl : lv_has ls 3 [(0, .ref (ad 85)), (1, .int p0)] := hl
  have hF : ac_Fr [(85, some 0), (85, some 24), (87, none), (93, none)] u0 u0 := ac_Fr.rf
  have hK_i_HX : (fun u => hxI u0 → hxI u) u0 := fun h => h
  have L54 : ∀ (x2 : Int32) (u : ac_U) (H : Heap) (locs : List Loc) (ls : Array Slot), ac_R rg u → ac_Fr [(85, some 0), (85, some 24), (87, none), (93, none)] u0 u → msI u → unI u → cdI u → apI u → auI u → (fun u => hxI u0 → hxI u) u → (0 : Int) ≤ x2.toInt ∧ x2.toInt ≤ 99 → (0 : Int) ≤ (u.1 85 0).toInt ∧ (u.1 85 0).toInt ≤ 0 → (1 : Int) ≤ (u.1 85 24).toInt ∧ (u.1 85 24).toInt ≤ 8 → va_P (dC, dI) vwCl (ac_w ad cA (TT nF) u) H → va_D A (ac_w ad cA (TT nF) u) → va_S A s.heap H locs → lv_has ls 3 [(2, .int x2)] → W p l e (ac_rm 2) s m [.ref (ad 85), .int p0].toArray below meth c H locs 0 0 (MQ below (va_Qi (fun (r : Int32) (u : ac_U) => ac_R rg u ∧ ac_Fr [(85, some 0), (85, some 24), (87, none), (93, none)] u0 u ∧ ((-1 : Int) ≤ r.toInt ∧ r.toInt ≤ 99) ∧ msI u ∧ unI u ∧ cdI u ∧ apI u ∧ auI u ∧ (hxI u0 → hxI u)) (ac_B (dC, dI) vwCl (ac_ty cA) ad cA (TT nF) A) A) [.ref (ad 85), .int p0].toArray s 0 0 A) (F0 m 54 ls []) := by
    intro x2 u H locs ls hR hF hK_MS hK_UI hK_CW hK_AP hK_AU hK_i_HX f0 f1 f2 hP hD hS hl
    refine lv_iload_n F.1 F.2.1 dX12_hours_54 rfl (lv_at hl 0 rfl) ?_
    exact a_reti F hr hlocks hP hD hS dX12_hours_55 ⟨hR, hF, (by omega : (-1 : Int) ≤ x2.toInt ∧ x2.toInt ≤ 99), hK_MS, hK_UI, hK_CW, hK_AP, hK_AU, hK_i_HX⟩
  have L32 : ∀ (n32 : Nat) (x2 : Int32) (u : ac_U) (H : Heap) (locs : List Loc) (ls : Array Slot), ac_R rg u → ac_Fr [(85, some 0), (85, some 24), (87, none), (93, none)] u0 u → 99 - x2.toInt < (n32 : Int) → msI u → unI u → cdI u → apI u → auI u → (fun u => hxI u0 → hxI u) u → (1 : Int) ≤ p0.toInt ∧ p0.toInt ≤ 99 → (0 : Int) ≤ x2.toInt ∧ x2.toInt ≤ 99 → (0 : Int) ≤ (u.1 85 0).toInt ∧ (u.1 85 0).toInt ≤ 0 → (1 : Int) ≤ (u.1 85 24).toInt ∧ (u.1 85 24).toInt ≤ 8 → va_P (dC, dI) vwCl (ac_w ad cA (TT nF) u) H → va_D A (ac_w ad cA (TT nF) u) → va_S A s.heap H locs → lv_has ls 3 [(0, .ref (ad 85)), (1, .int p0), (2, .int x2)] → W p l e (ac_rm 2) s m [.ref (ad 85), .int p0].toArray below meth c H locs 0 0 (MQ below (va_Qi (fun (r : Int32) (u : ac_U) => ac_R rg u ∧ ac_Fr [(85, some 0), (85, some 24), (87, none), (93, none)] u0 u ∧ ((-1 : Int) ≤ r.toInt ∧ r.toInt ≤ 99) ∧ msI u ∧ unI u ∧ cdI u ∧ apI u ∧ auI u ∧ (hxI u0 → hxI u)) (ac_B (dC, dI) vwCl (ac_ty cA) ad cA (TT nF) A) A) [.ref (ad 85), .int p0].toArray s 0 0 A) (F0 m 32 ls []) := by
    intro n32
    induction n32 with
    | zero => intro x2 u H locs ls hR hF hn32 hK_MS hK_UI hK_CW hK_AP hK_AU hK_i_HX f0 f1 f2 f3 hP hD hS hl; exfalso; omega
    | succ n32 ih32 =>
      intro x2 u H locs ls hR hF hn32 hK_MS hK_UI hK_CW hK_AP hK_AU hK_i_HX f0 f1 f2 f3 hP hD hS hl
      refine lv_iload_n F.1 F.2.1 dX12_hours_32 rfl (lv_at hl 2 rfl) ?_
      refine lv_iload_n F.1 F.2.1 dX12_hours_33 rfl (lv_at hl 1 rfl) ?_
      refine b_ge F 54 dX12_hours_34 (by decide) rfl rfl (fun c1 => ?_) (fun c1 => ?_)
      · have g2 : (0 : Int) ≤ (u.1 85 0).toInt ∧ (u.1 85 0).toInt ≤ 1 := hR 85 0
        have g3 : (0 : Int) ≤ (u.1 85 24).toInt ∧ (u.1 85 24).toInt ≤ 8 := hR 85 24
        exact L54 x2 _ _ _ _ hR hF hK_MS hK_UI hK_CW hK_AP hK_AU hK_i_HX (by omega) (by omega : (0 : Int) ≤ (u.1 85 0).toInt ∧ (u.1 85 0).toInt ≤ 0) (by omega : (1 : Int) ≤ (u.1 85 24).toInt ∧ (u.1 85 24).toInt ≤ 8) hP hD hS (lv_sub hl [2] rfl)
      · refine lv_aload_n F.1 F.2.1 dX12_hours_37 rfl (lv_at hl 0 rfl) ?_
        refine a_Vi F hml hl.1 hA hP hD hS (As := []) (c_X12_isOver_85 l dC dI ad cA nF _  hR) (cs_RX12_263 (d := 1) F.2.2.1 (by decide)) tc_85 rfl rfl rfl rfl (Nat.le_of_ble_eq_true rfl) dX12_hours_38 ⟨Nat.le_refl 0, Nat.le_refl 0⟩ (fun r4 uN4 H locs hq hP hD hS => ?_)
        obtain ⟨hu4, gr4, xr4⟩ := hq
        rw [hu4] at hP hD
        have g5 : (0 : Int) ≤ (u.1 87 106).toInt ∧ (u.1 87 106).toInt ≤ 480 := hR 87 106
        have g6 : (4 : Int) ≤ (u.1 87 0).toInt ∧ (u.1 87 0).toInt ≤ 24 := hR 87 0
        have xr4 : r4.toInt = 0 → (u.1 87 106).toInt ≠ 20 * (u.1 87 0).toInt := xr4
        refine z_ne F 54 dX12_hours_41 (by decide) rfl (fun c7 => ?_) (fun c7 => ?_)
        · have g8 : (0 : Int) ≤ (u.1 85 0).toInt ∧ (u.1 85 0).toInt ≤ 1 := hR 85 0
          have g9 : (0 : Int) ≤ (u.1 85 24).toInt ∧ (u.1 85 24).toInt ≤ 8 := hR 85 24
          exact L54 x2 _ _ _ _ hR hF hK_MS hK_UI hK_CW hK_AP hK_AU hK_i_HX (by omega) (by omega : (0 : Int) ≤ (u.1 85 0).toInt ∧ (u.1 85 0).toInt ≤ 0) (by omega : (1 : Int) ≤ (u.1 85 24).toInt ∧ (u.1 85 24).toInt ≤ 8) hP hD hS (lv_sub hl [2] rfl)
        · refine lv_aload_n F.1 F.2.1 dX12_hours_44 rfl (lv_at hl 0 rfl) ?_
          have hO10 : (u.1 87 106).toInt ≤ 20 * (u.1 87 0).toInt := hK_MS.1
          have hQ10 : 4 ≤ (u.1 87 0).toInt ∧ (u.1 87 0).toInt ≤ 24 := hR 87 0
          have hW10 : 0 ≤ (u.1 87 106).toInt ∧ (u.1 87 106).toInt ≤ 480 := hR 87 106
          refine a_Vv F hml hl.1 hA hP hD hS (As := []) (c_X12_hour_85__4 l dC dI ad cA nF _  hR (by omega : (0 : Int) ≤ (u.1 87 106).toInt ∧ (u.1 87 106).toInt ≤ 479) (by omega : (u.1 87 106).toInt < 20 * (u.1 87 0).toInt) hK_MS) (cs_RX12_292 (d := 1) F.2.2.1 (by decide)) tc_85 rfl rfl rfl rfl (Nat.le_of_ble_eq_true rfl) dX12_hours_45 ⟨Nat.le_refl 0, Nat.le_refl 0⟩ (fun u11 H locs hq hP hD hS => ?_)
          obtain ⟨hR, hF11, xr11, hK_MS, hJ11_CW, hJ11_UI, hJ11_BI, hJ11_AP, hJ11_AU, hJ11_AB, hJ11_BG, hJ11_HX⟩ := hq
          have hF := hF.tr hF11 (by decide)
          have hK_UI := hJ11_UI hK_UI
          have hK_CW := hJ11_CW hK_CW
          have hK_AP := hJ11_AP hK_AP
          have hK_AU := hJ11_AU hK_AU
          have hK_i_HX : (fun u => hxI u0 → hxI u) u11 := fun h => hJ11_HX (hK_i_HX h)
          have g12 : (0 : Int) ≤ (u11.1 87 106).toInt ∧ (u11.1 87 106).toInt ≤ 480 := hR 87 106
          have g13 : (4 : Int) ≤ (u11.1 87 0).toInt ∧ (u11.1 87 0).toInt ≤ 24 := hR 87 0
          have xr11 : (u11.1 87 106).toInt = (u.1 87 106).toInt + 1 ∧ (u11.1 87 0).toInt = (u.1 87 0).toInt := xr11
          refine a_iinc F (k := 2) (fun v14 => [(2, .int v14), (0, .ref (ad 85)), (1, .int p0)]) dX12_hours_48 hl rfl rfl (by decide) (by omega) (by decide) (fun _ => rfl) (fun v14 ls hv14 hl => ?_)
          refine lv_goto (tgt := 32) F.1 F.2.1 dX12_hours_51 (by decide) ?_
          exact ih32 v14 _ _ _ _ hR hF (by omega) hK_MS hK_UI hK_CW hK_AP hK_AU hK_i_HX (by omega) (by omega) (i_trB (hF11 85 0 rfl) (by omega : (0 : Int) ≤ (u.1 85 0).toInt ∧ (u.1 85 0).toInt ≤ 0)) (i_trB (hF11 85 24 rfl) (by omega : (1 : Int) ≤ (u.1 85 24).toInt ∧ (u.1 85 24).toInt ≤ 8)) hP hD hS (lv_sub hl [1, 2, 0] rfl)
  refine lv_aload_n F.1 F.2.1 dX12_hours_0 rfl (lv_at hl 0 rfl) ?_
  refine a_ic F (0 : Int32) dX12_hours_1 (by decide) ?_
  refine a_puti F inX12 tyX12 tyX12_ok nmX12 hP hD hS 85 0 tc_85 rfl rfl (by decide) q1471 (fun _ h9 => h9) rfl (ty := .int) (tyX12_ok 0 (by decide)) rfl rfl dX12_hours_2 (fun H locs hP hD hS => ?_)
  have hR := hR.si (c := 85) (k := 0) (v := (0 : Int32)) (by rw [ic_0]; exact (by omega : (0 : Int) ≤ (0 : Int) ∧ (0 : Int) ≤ 1))
  have hF := hF.si (c := 85) (k := 0) (v := (0 : Int32)) rfl
  have hK_MS := sp_sgD sp_MS hD hK_MS (by decide)
  have hK_UI := sp_si sp_UI hK_UI (c := 85) (k := 0) (v := (0 : Int32)) (fun j9 h9 q9 => by rw [q9] at h9; exact absurd h9 (by decide))
  have hK_CW := sp_sgD sp_CW hD hK_CW (by decide)
  have hK_AP := sp_sgD sp_AP hD hK_AP (by decide)
  have hK_AU := sp_si sp_AU hK_AU (c := 85) (k := 0) (v := (0 : Int32)) (fun j9 h9 q9 => by rw [q9] at h9; exact absurd h9 (by decide))
  have hK_i_HX := sp_sgD (sp_imp sp_HX) hD hK_i_HX (by decide)
  refine lv_iload_n F.1 F.2.1 dX12_hours_5 rfl (lv_at hl 1 rfl) ?_
  refine a_ic F (1 : Int32) dX12_hours_6 (by decide) ?_
  refine a_bp F (99 : Int32) dX12_hours_7 (by decide) ?_
  refine a_Si F hml hl.1 hA hP hD hS (As := [.int p0, .int (1 : Int32), .int (99 : Int32)]) (c_X12_isIn l dC dI ad cA nF _ p0 (1 : Int32) (99 : Int32) hR (by decide)) (cs_RX12_187 (d := 1) F.2.2.1 (by decide)) rfl rfl (Nat.le_of_ble_eq_true rfl) dX12_hours_9 ⟨Nat.le_refl 0, Nat.le_refl 0⟩ (fun r15 uN15 H locs hq hP hD hS => ?_)
  obtain ⟨hu15, gr15, xr15⟩ := hq
  rw [hu15] at hP hD
  have xr15 : r15.toInt ≠ 0 → (1 : Int) ≤ p0.toInt ∧ p0.toInt ≤ (99 : Int) := xr15
  refine z_ne F 17 dX12_hours_12 (by decide) rfl (fun c16 => ?_) (fun c16 => ?_)
  · refine lv_aload_n F.1 F.2.1 dX12_hours_17 rfl (lv_at hl 0 rfl) ?_
    refine a_Vi F hml hl.1 hA hP hD hS (As := []) (c_X12_isOver_85 l dC dI ad cA nF _  hR) (cs_RX12_263 (d := 1) F.2.2.1 (by decide)) tc_85 rfl rfl rfl rfl (Nat.le_of_ble_eq_true rfl) dX12_hours_18 ⟨Nat.le_refl 0, Nat.le_refl 0⟩ (fun r17 uN17 H locs hq hP hD hS => ?_)
    obtain ⟨hu17, gr17, xr17⟩ := hq
    rw [hu17] at hP hD
    have g18 : (0 : Int) ≤ (u0.1 87 106).toInt ∧ (u0.1 87 106).toInt ≤ 480 := hR 87 106
    have g19 : (4 : Int) ≤ (u0.1 87 0).toInt ∧ (u0.1 87 0).toInt ≤ 24 := hR 87 0
    have xr17 : r17.toInt = 0 → (u0.1 87 106).toInt ≠ 20 * (u0.1 87 0).toInt := xr17
    refine z_eq F 26 dX12_hours_21 (by decide) rfl (fun c20 => ?_) (fun c20 => ?_)
    · refine lv_aload_n F.1 F.2.1 dX12_hours_26 rfl (lv_at hl 0 rfl) ?_
      refine a_Vv F hml hl.1 hA hP hD hS (As := []) (c_X12_keep_85__3 l dC dI ad cA nF _  hR hK_MS hK_UI hK_AP hK_AU) (cs_RX12_269 (d := 1) F.2.2.1 (by decide)) tc_85 rfl rfl rfl rfl (Nat.le_of_ble_eq_true rfl) dX12_hours_27 ⟨Nat.le_refl 0, Nat.le_refl 0⟩ (fun u21 H locs hq hP hD hS => ?_)
      obtain ⟨hR, hF21, xr21, hK_MS, hK_UI, hK_AP, hK_AU⟩ := hq
      have hF := hF.tr hF21 (by decide)
      have hK_CW := sp_fr sp_CW hF21 (by decide) hK_CW
      have hK_i_HX := sp_fr (sp_imp sp_HX) hF21 (by decide) hK_i_HX
      have g22 : (0 : Int) ≤ (u21.1 85 24).toInt ∧ (u21.1 85 24).toInt ≤ 8 := hR 85 24
      have xr21 : 1 ≤ (u21.1 85 24).toInt := xr21
      refine a_ic F (0 : Int32) dX12_hours_30 (by decide) ?_
      refine lv_istore_n (lv' := [(2, .int (0 : Int32)), (0, .ref (ad 85)), (1, .int p0)]) F.1 F.2.1 dX12_hours_31 rfl hl (by decide) rfl (fun ls hl => ?_)
      exact L32 101 (0 : Int32) _ _ _ _ hR hF (by decide) hK_MS hK_UI hK_CW hK_AP hK_AU hK_i_HX (by omega) (by decide) (i_trB (hF21 85 0 rfl) (by omega : (0 : Int) ≤ (0 : Int) ∧ (0 : Int) ≤ 0)) (by omega : (1 : Int) ≤ (u21.1 85 24).toInt ∧ (u21.1 85 24).toInt ≤ 8) hP hD hS (lv_sub hl [1, 2, 0] rfl)
    · refine a_ic F (0 : Int32) dX12_hours_24 (by decide) ?_
      exact a_reti F hr hlocks hP hD hS dX12_hours_25 ⟨hR, hF, (by decide), hK_MS, hK_UI, hK_CW, hK_AP, hK_AU, hK_i_HX⟩
  · refine a_ic F (-1 : Int32) dX12_hours_15 (by decide) ?_
    exact a_reti F hr hlocks hP hD hS dX12_hours_16 ⟨hR, hF, (by decide), hK_MS, hK_UI, hK_CW, hK_AP, hK_AU, hK_i_HX⟩

set_option maxHeartbeats 600000 in
set_option maxRecDepth 100000 in
theorem c_X12_does_85__2 (l : Launch) (dC : Nat → ClassId) (dI : Nat → Nat → Nat) (ad : Nat → Nat) (cA : Nat → ClassId) (nF : Nat) (u0 : ac_U) (p0 : Int32) (p1 : Int32) (hR : ac_R rg u0) (hp0 : (0 : Int) ≤ p0.toInt ∧ p0.toInt ≤ 3) (hf_87_123 : (0 : Int) ≤ (u0.1 87 123).toInt ∧ (u0.1 87 123).toInt ≤ 79) : ac_Mv l yX12_does (.code yX12_does cX12_does 4 none :: TB) 1 (dC, dI) vwCl (ac_ty cA) ad cA (TT nF) [.ref (ad 85), .int p0, .int p1] u0 (fun (u : ac_U) => ac_R rg u ∧ ac_Fr [(87, none)] u0 u ∧ ((u.1 87 106).toInt = (u0.1 87 106).toInt ∧ (u.1 87 0).toInt = (u0.1 87 0).toInt) ∧ (msI u0 → msI u) ∧ (cdI u0 → cdI u) ∧ (unI u0 → unI u) ∧ (bfI u0 → bfI u)) := by
  refine ac_Mv.of (cc := cX12_does) (maxL := 4) (ret := none) (by decide) rfl (Nat.le_of_ble_eq_true rfl) ?_
  intro p e s m below meth c A ls F hml hr hlocks hA hP hD hS hl
  have F : ac_X p s m [.ref (ad 85), .int p0, .int p1].toArray c cX12_does RX12 TB (dC, dI) vwCl (ac_ty cA) := ⟨F.1, F.2.1, fun w h => F.2.2.1 w (List.mem_cons_of_mem _ h), F.2.2.2.1, F.2.2.2.2⟩
  have hl : lv_has ls 4 [(0, .ref (ad 85)), (1, .int p0), (2, .int p1)] := hl
  have hF : ac_Fr [(87, none)] u0 u0 := ac_Fr.rf
  have hK_TM : (tmI u0) u0 := ⟨rfl, rfl⟩
  have hK_i_MS : (fun u => msI u0 → msI u) u0 := fun h => h
  have hK_i_CW : (fun u => cdI u0 → cdI u) u0 := fun h => h
  have hK_i_UI : (fun u => unI u0 → unI u) u0 := fun h => h
  have hK_i_BI : (fun u => bfI u0 → bfI u) u0 := fun h => h
  refine a_sp F (148 : Int32) dX12_does_0 (by decide) ?_
  refine a_ic F (4 : Int32) dX12_does_3 (by decide) ?_
  refine lv_aload_n F.1 F.2.1 dX12_does_4 rfl (lv_at hl 0 rfl) ?_
  refine a_getr F inX12 hP 85 6 tc_85 rfl rfl (by decide) q1477 (fun _ h9 => h9) dX12_does_5 ?_
  refine a_bp F (123 : Int32) dX12_does_8 (by decide) ?_
  have g1 : (0 : Int) ≤ (u0.1 87 123).toInt ∧ (u0.1 87 123).toInt ≤ 80 := hR 87 123
  refine a_ialdK F hP 87 123 tc_87 rfl rfl (i_in ic_123 (by omega)) (v := (u0.1 87 123)) rfl dX12_does_10 ?_
  refine a_imul F dX12_does_11 ic_4 rfl (by omega) (fun v2 hv2 => ?_)
  refine a_iadd F dX12_does_12 ic_148 rfl (by omega) (fun v3 hv3 => ?_)
  refine lv_istore_n (lv' := [(3, .int v3), (0, .ref (ad 85)), (1, .int p0), (2, .int p1)]) F.1 F.2.1 dX12_does_13 rfl hl (by decide) rfl (fun ls hl => ?_)
  refine lv_aload_n F.1 F.2.1 dX12_does_14 rfl (lv_at hl 1 rfl) ?_
  refine a_getr F inX12 hP 85 6 tc_85 rfl rfl (by decide) q1477 (fun _ h9 => h9) dX12_does_15 ?_
  refine lv_iload_n F.1 F.2.1 dX12_does_18 rfl (lv_at hl 0 rfl) ?_
  refine lv_aload_n F.1 F.2.1 dX12_does_19 rfl (lv_at hl 1 rfl) ?_
  refine a_getr F inX12 hP 85 6 tc_85 rfl rfl (by decide) q1477 (fun _ h9 => h9) dX12_does_20 ?_
  refine a_bp F (106 : Int32) dX12_does_23 (by decide) ?_
  have g4 : (0 : Int) ≤ (u0.1 87 106).toInt ∧ (u0.1 87 106).toInt ≤ 480 := hR 87 106
  refine a_ialdK F hP 87 106 tc_87 rfl rfl (i_in ic_106 (by omega)) (v := (u0.1 87 106)) rfl dX12_does_25 ?_
  refine a_iast F hP hD hS 87 tc_87 rfl (i_in rfl (by omega)) dX12_does_26 (fun H locs hP hD hS => ?_)
  have hR := hR.si (c := 87) (k := v3.toNatClampNeg) (v := (u0.1 87 106)) (rs_87_148_464 (by omega) ⟨i_lo _, i_hi _⟩)
  have hF := hF.si (c := 87) (k := v3.toNatClampNeg) (v := (u0.1 87 106)) rfl
  have hK_TM := sp_si (sp_tm _) hK_TM (c := 87) (k := v3.toNatClampNeg) (v := (u0.1 87 106)) (fun j9 h9 => by have q8 := sp_mem h9; simp at q8; have q9 := i_cl (x := v3) (by omega); omega)
  have hK_i_MS := sp_si (sp_imp sp_MS) hK_i_MS (c := 87) (k := v3.toNatClampNeg) (v := (u0.1 87 106)) (fun j9 h9 => by have q8 := sp_mem h9; simp at q8; have q9 := i_cl (x := v3) (by omega); omega)
  have hK_i_CW := sp_si (sp_imp sp_CW) hK_i_CW (c := 87) (k := v3.toNatClampNeg) (v := (u0.1 87 106)) (fun j9 h9 => by have q8 := sp_mem h9; simp at q8; have q9 := i_cl (x := v3) (by omega); omega)
  have hK_i_UI := sp_si (sp_imp sp_UI) hK_i_UI (c := 87) (k := v3.toNatClampNeg) (v := (u0.1 87 106)) (fun j9 h9 => by have q8 := sp_mem h9; simp at q8; have q9 := i_cl (x := v3) (by omega); omega)
  have hK_i_BI := sp_si (sp_imp sp_BI) hK_i_BI (c := 87) (k := v3.toNatClampNeg) (v := (u0.1 87 106)) (fun j9 h9 => by have q8 := sp_mem h9; simp at q8; have q9 := i_cl (x := v3) (by omega); omega)
  refine lv_aload_n F.1 F.2.1 dX12_does_27 rfl (lv_at hl 1 rfl) ?_
  refine a_getr F inX12 hP 85 6 tc_85 rfl rfl (by decide) q1477 (fun _ h9 => h9) dX12_does_28 ?_
  refine lv_iload_n F.1 F.2.1 dX12_does_31 rfl (lv_at hl 0 rfl) ?_
  refine a_ic F (1 : Int32) dX12_does_32 (by decide) ?_
  refine a_iadd F dX12_does_33 rfl ic_1 (by omega) (fun v5 hv5 => ?_)
  refine lv_iload_n F.1 F.2.1 dX12_does_34 rfl (lv_at hl 2 rfl) ?_
  refine a_iast F hP hD hS 87 tc_87 rfl (i_in rfl (by omega)) dX12_does_35 (fun H locs hP hD hS => ?_)
  have hR := hR.si (c := 87) (k := v5.toNatClampNeg) (v := p0) (rs_87_149_465 (by omega) ⟨i_lo _, i_hi _⟩)
  have hF := hF.si (c := 87) (k := v5.toNatClampNeg) (v := p0) rfl
  have hK_TM := sp_si (sp_tm _) hK_TM (c := 87) (k := v5.toNatClampNeg) (v := p0) (fun j9 h9 => by have q8 := sp_mem h9; simp at q8; have q9 := i_cl (x := v5) (by omega); omega)
  have hK_i_MS := sp_si (sp_imp sp_MS) hK_i_MS (c := 87) (k := v5.toNatClampNeg) (v := p0) (fun j9 h9 => by have q8 := sp_mem h9; simp at q8; have q9 := i_cl (x := v5) (by omega); omega)
  have hK_i_CW := sp_si (sp_imp sp_CW) hK_i_CW (c := 87) (k := v5.toNatClampNeg) (v := p0) (fun j9 h9 => by have q8 := sp_mem h9; simp at q8; have q9 := i_cl (x := v5) (by omega); omega)
  have hK_i_UI := sp_si (sp_imp sp_UI) hK_i_UI (c := 87) (k := v5.toNatClampNeg) (v := p0) (fun j9 h9 => by have q8 := sp_mem h9; simp at q8; have q9 := i_cl (x := v5) (by omega); omega)
  have hK_i_BI := sp_si (sp_imp sp_BI) hK_i_BI (c := 87) (k := v5.toNatClampNeg) (v := p0) (fun j9 h9 => by have q8 := sp_mem h9; simp at q8; have q9 := i_cl (x := v5) (by omega); omega)
  refine lv_aload_n F.1 F.2.1 dX12_does_36 rfl (lv_at hl 1 rfl) ?_
  refine a_getr F inX12 hP 85 6 tc_85 rfl rfl (by decide) q1477 (fun _ h9 => h9) dX12_does_37 ?_
  refine lv_iload_n F.1 F.2.1 dX12_does_40 rfl (lv_at hl 0 rfl) ?_
  refine a_ic F (2 : Int32) dX12_does_41 (by decide) ?_
  refine a_iadd F dX12_does_42 rfl ic_2 (by omega) (fun v6 hv6 => ?_)
  refine lv_iload_n F.1 F.2.1 dX12_does_43 rfl (lv_at hl 3 rfl) ?_
  refine a_iast F hP hD hS 87 tc_87 rfl (i_in rfl (by omega)) dX12_does_44 (fun H locs hP hD hS => ?_)
  have hR := hR.si (c := 87) (k := v6.toNatClampNeg) (v := p1) (rs_87_150_466 (by omega) ⟨i_lo _, i_hi _⟩)
  have hF := hF.si (c := 87) (k := v6.toNatClampNeg) (v := p1) rfl
  have hK_TM := sp_si (sp_tm _) hK_TM (c := 87) (k := v6.toNatClampNeg) (v := p1) (fun j9 h9 => by have q8 := sp_mem h9; simp at q8; have q9 := i_cl (x := v6) (by omega); omega)
  have hK_i_MS := sp_si (sp_imp sp_MS) hK_i_MS (c := 87) (k := v6.toNatClampNeg) (v := p1) (fun j9 h9 => by have q8 := sp_mem h9; simp at q8; have q9 := i_cl (x := v6) (by omega); omega)
  have hK_i_CW := sp_si (sp_imp sp_CW) hK_i_CW (c := 87) (k := v6.toNatClampNeg) (v := p1) (fun j9 h9 => by have q8 := sp_mem h9; simp at q8; have q9 := i_cl (x := v6) (by omega); omega)
  have hK_i_UI := sp_si (sp_imp sp_UI) hK_i_UI (c := 87) (k := v6.toNatClampNeg) (v := p1) (fun j9 h9 => by have q8 := sp_mem h9; simp at q8; have q9 := i_cl (x := v6) (by omega); omega)
  have hK_i_BI := sp_si (sp_imp sp_BI) hK_i_BI (c := 87) (k := v6.toNatClampNeg) (v := p1) (fun j9 h9 => by have q8 := sp_mem h9; simp at q8; have q9 := i_cl (x := v6) (by omega); omega)
  refine lv_aload_n F.1 F.2.1 dX12_does_45 rfl (lv_at hl 1 rfl) ?_
  refine a_getr F inX12 hP 85 6 tc_85 rfl rfl (by decide) q1477 (fun _ h9 => h9) dX12_does_46 ?_
  refine lv_iload_n F.1 F.2.1 dX12_does_49 rfl (lv_at hl 0 rfl) ?_
  refine a_ic F (3 : Int32) dX12_does_50 (by decide) ?_
  refine a_iadd F dX12_does_51 rfl ic_3 (by omega) (fun v7 hv7 => ?_)
  refine lv_aload_n F.1 F.2.1 dX12_does_52 rfl (lv_at hl 1 rfl) ?_
  refine a_getr F inX12 hP 85 6 tc_85 rfl rfl (by decide) q1477 (fun _ h9 => h9) dX12_does_53 ?_
  refine a_bp F (107 : Int32) dX12_does_56 (by decide) ?_
  refine lv_iload_n F.1 F.2.1 dX12_does_58 rfl (lv_at hl 2 rfl) ?_
  refine a_iadd F dX12_does_59 ic_107 rfl (by omega) (fun v8 hv8 => ?_)
  refine a_iald F hP 87 tc_87 rfl (i_in rfl (by omega)) dX12_does_60 (fun v9 ev9 => ?_)
  have hv9 : (0 : Int) ≤ v9.toInt ∧ v9.toInt ≤ 7 := rg_seg_87_107_110 hR ev9 (by omega)
  refine a_iast F hP hD hS 87 tc_87 rfl (i_in rfl (by omega)) dX12_does_61 (fun H locs hP hD hS => ?_)
  have hR := hR.si (c := 87) (k := v7.toNatClampNeg) (v := v9) (rs_87_151_467 (by omega) ⟨i_lo _, i_hi _⟩)
  have hF := hF.si (c := 87) (k := v7.toNatClampNeg) (v := v9) rfl
  have hK_TM := sp_si (sp_tm _) hK_TM (c := 87) (k := v7.toNatClampNeg) (v := v9) (fun j9 h9 => by have q8 := sp_mem h9; simp at q8; have q9 := i_cl (x := v7) (by omega); omega)
  have hK_i_MS := sp_si (sp_imp sp_MS) hK_i_MS (c := 87) (k := v7.toNatClampNeg) (v := v9) (fun j9 h9 => by have q8 := sp_mem h9; simp at q8; have q9 := i_cl (x := v7) (by omega); omega)
  have hK_i_CW := sp_si (sp_imp sp_CW) hK_i_CW (c := 87) (k := v7.toNatClampNeg) (v := v9) (fun j9 h9 => by have q8 := sp_mem h9; simp at q8; have q9 := i_cl (x := v7) (by omega); omega)
  have hK_i_UI := sp_si (sp_imp sp_UI) hK_i_UI (c := 87) (k := v7.toNatClampNeg) (v := v9) (fun j9 h9 => by have q8 := sp_mem h9; simp at q8; have q9 := i_cl (x := v7) (by omega); omega)
  have hK_i_BI := sp_si (sp_imp sp_BI) hK_i_BI (c := 87) (k := v7.toNatClampNeg) (v := v9) (fun j9 h9 => by have q8 := sp_mem h9; simp at q8; have q9 := i_cl (x := v7) (by omega); omega)
  refine lv_aload_n F.1 F.2.1 dX12_does_62 rfl (lv_at hl 1 rfl) ?_
  refine a_getr F inX12 hP 85 6 tc_85 rfl rfl (by decide) q1477 (fun _ h9 => h9) dX12_does_63 ?_
  refine a_bp F (123 : Int32) dX12_does_66 (by decide) ?_
  refine lv_dup2_11 F.1 F.2.1 dX12_does_68 rfl rfl ?_
  refine a_ialdK F hP 87 123 tc_87 rfl rfl (i_in ic_123 (by omega)) (v := (u0.1 87 123)) ((ac_ne (c := 87) (k := 123) (i := v7) (by have q9 := i_cl (x := v7) (by omega); omega)).trans ((ac_ne (c := 87) (k := 123) (i := v6) (by have q9 := i_cl (x := v6) (by omega); omega)).trans ((ac_ne (c := 87) (k := 123) (i := v5) (by have q9 := i_cl (x := v5) (by omega); omega)).trans (ac_ne (c := 87) (k := 123) (i := v3) (by have q9 := i_cl (x := v3) (by omega); omega))))) dX12_does_69 ?_
  refine a_ic F (1 : Int32) dX12_does_70 (by decide) ?_
  refine a_iadd F dX12_does_71 rfl ic_1 (by omega) (fun v10 hv10 => ?_)
  refine a_iastK F hP hD hS 87 123 tc_87 rfl rfl (i_in ic_123 (by omega)) dX12_does_72 (fun H locs hP hD hS => ?_)
  have hR := hR.si (c := 87) (k := 123) (v := v10) (by omega : (0 : Int) ≤ v10.toInt ∧ v10.toInt ≤ 80)
  have hF := hF.si (c := 87) (k := 123) (v := v10) rfl
  have hK_TM := sp_si (sp_tm _) hK_TM (c := 87) (k := 123) (v := v10) (fun j9 h9 q9 => by rw [q9] at h9; exact absurd h9 (by decide))
  have hK_i_MS := sp_si (sp_imp sp_MS) hK_i_MS (c := 87) (k := 123) (v := v10) (fun j9 h9 q9 => by rw [q9] at h9; exact absurd h9 (by decide))
  have hK_i_CW := sp_si (sp_imp sp_CW) hK_i_CW (c := 87) (k := 123) (v := v10) (fun j9 h9 q9 => by rw [q9] at h9; exact absurd h9 (by decide))
  have hK_i_UI := sp_si (sp_imp sp_UI) hK_i_UI (c := 87) (k := 123) (v := v10) (fun j9 h9 q9 => by rw [q9] at h9; exact absurd h9 (by decide))
  have hK_i_BI := sp_si (sp_imp sp_BI) hK_i_BI (c := 87) (k := 123) (v := v10) (fun j9 h9 q9 => by rw [q9] at h9; exact absurd h9 (by decide))
  refine lv_aload_n F.1 F.2.1 dX12_does_73 rfl (lv_at hl 1 rfl) ?_
  refine a_getr F inX12 hP 85 6 tc_85 rfl rfl (by decide) q1477 (fun _ h9 => h9) dX12_does_74 ?_
  refine a_bp F (111 : Int32) dX12_does_77 (by decide) ?_
  refine lv_iload_n F.1 F.2.1 dX12_does_79 rfl (lv_at hl 2 rfl) ?_
  refine a_iadd F dX12_does_80 ic_111 rfl (by omega) (fun v11 hv11 => ?_)
  refine a_ic F (1 : Int32) dX12_does_81 (by decide) ?_
  refine a_iast F hP hD hS 87 tc_87 rfl (i_in rfl (by omega)) dX12_does_82 (fun H locs hP hD hS => ?_)
  have hR := hR.si (c := 87) (k := v11.toNatClampNeg) (v := (1 : Int32)) (rs_87_111_114 (by omega) ⟨i_lo _, i_hi _⟩)
  have hF := hF.si (c := 87) (k := v11.toNatClampNeg) (v := (1 : Int32)) rfl
  have hK_TM := sp_si (sp_tm _) hK_TM (c := 87) (k := v11.toNatClampNeg) (v := (1 : Int32)) (fun j9 h9 => by have q8 := sp_mem h9; simp at q8; have q9 := i_cl (x := v11) (by omega); omega)
  have hK_i_MS := sp_si (sp_imp sp_MS) hK_i_MS (c := 87) (k := v11.toNatClampNeg) (v := (1 : Int32)) (fun j9 h9 => by have q8 := sp_mem h9; simp at q8; have q9 := i_cl (x := v11) (by omega); omega)
  have hK_i_CW := sp_si (sp_imp sp_CW) hK_i_CW (c := 87) (k := v11.toNatClampNeg) (v := (1 : Int32)) (fun j9 h9 => by have q8 := sp_mem h9; simp at q8; have q9 := i_cl (x := v11) (by omega); omega)
  have hK_i_UI := sp_si (sp_imp sp_UI) hK_i_UI (c := 87) (k := v11.toNatClampNeg) (v := (1 : Int32)) (fun j9 h9 => by have q8 := sp_mem h9; simp at q8; have q9 := i_cl (x := v11) (by omega); omega)
  have hK_i_BI := sp_si (sp_imp sp_BI) hK_i_BI (c := 87) (k := v11.toNatClampNeg) (v := (1 : Int32)) (fun j9 h9 => by have q8 := sp_mem h9; simp at q8; have q9 := i_cl (x := v11) (by omega); omega)
  refine lv_aload_n F.1 F.2.1 dX12_does_83 rfl (lv_at hl 1 rfl) ?_
  refine a_getr F inX12 hP 85 6 tc_85 rfl rfl (by decide) q1477 (fun _ h9 => h9) dX12_does_84 ?_
  refine a_bp F (115 : Int32) dX12_does_87 (by decide) ?_
  refine lv_iload_n F.1 F.2.1 dX12_does_89 rfl (lv_at hl 2 rfl) ?_
  refine a_iadd F dX12_does_90 ic_115 rfl (by omega) (fun v12 hv12 => ?_)
  refine lv_dup2_11 F.1 F.2.1 dX12_does_91 rfl rfl ?_
  refine a_iald F hP 87 tc_87 rfl (i_in rfl (by omega)) dX12_does_92 (fun v13 ev13 => ?_)
  refine a_ic F (1 : Int32) dX12_does_93 (by decide) ?_
  refine a_iaddU F dX12_does_94 (fun v14 => ?_)
  refine a_iast F hP hD hS 87 tc_87 rfl (i_in rfl (by omega)) dX12_does_95 (fun H locs hP hD hS => ?_)
  have hR := hR.si (c := 87) (k := v12.toNatClampNeg) (v := v14) (rs_87_115_118 (by omega) ⟨i_lo _, i_hi _⟩)
  have hF := hF.si (c := 87) (k := v12.toNatClampNeg) (v := v14) rfl
  have hK_TM := sp_si (sp_tm _) hK_TM (c := 87) (k := v12.toNatClampNeg) (v := v14) (fun j9 h9 => by have q8 := sp_mem h9; simp at q8; have q9 := i_cl (x := v12) (by omega); omega)
  have hK_i_MS := sp_si (sp_imp sp_MS) hK_i_MS (c := 87) (k := v12.toNatClampNeg) (v := v14) (fun j9 h9 => by have q8 := sp_mem h9; simp at q8; have q9 := i_cl (x := v12) (by omega); omega)
  have hK_i_CW := sp_si (sp_imp sp_CW) hK_i_CW (c := 87) (k := v12.toNatClampNeg) (v := v14) (fun j9 h9 => by have q8 := sp_mem h9; simp at q8; have q9 := i_cl (x := v12) (by omega); omega)
  have hK_i_UI := sp_si (sp_imp sp_UI) hK_i_UI (c := 87) (k := v12.toNatClampNeg) (v := v14) (fun j9 h9 => by have q8 := sp_mem h9; simp at q8; have q9 := i_cl (x := v12) (by omega); omega)
  have hK_i_BI := sp_si (sp_imp sp_BI) hK_i_BI (c := 87) (k := v12.toNatClampNeg) (v := v14) (fun j9 h9 => by have q8 := sp_mem h9; simp at q8; have q9 := i_cl (x := v12) (by omega); omega)
  exact a_retv F hr hlocks hP hD hS dX12_does_96 ⟨hR, hF, ⟨congrArg Int32.toInt hK_TM.1, congrArg Int32.toInt hK_TM.2⟩, hK_i_MS, hK_i_CW, hK_i_UI, hK_i_BI⟩
set_option maxHeartbeats 600000 in
set_option maxRecDepth 100000 in
theorem c_X12_keep_85__2 (l : Launch) (dC : Nat → ClassId) (dI : Nat → Nat → Nat) (ad : Nat → Nat) (cA : Nat → ClassId) (nF : Nat) (u0 : ac_U)  (hR : ac_R rg u0) (hK_MS : msI u0) (hK_UI : unI u0) : ac_Mv l yX12_keep (.code yX12_keep cX12_keep 2 none :: TB) 1 (dC, dI) vwCl (ac_ty cA) ad cA (TT nF) [.ref (ad 85)] u0 (fun (u : ac_U) => ac_R rg u ∧ ac_Fr [(85, some 24), (93, none)] u0 u ∧ (1 ≤ (u.1 85 24).toInt) ∧ msI u ∧ unI u) := by
  refine ac_Mv.of (cc := cX12_keep) (maxL := 2) (ret := none) (by decide) rfl (Nat.le_of_ble_eq_true rfl) ?_
  intro p e s m below meth c A ls F hml hr hlocks hA hP hD hS hl
  have F : ac_X p s m [.ref (ad 85)].toArray c cX12_keep RX12 TB (dC, dI) vwCl (ac_ty cA) := ⟨F.1, F.2.1, fun w h => F.2.2.1 w (List.mem_cons_of_mem _ h), F.2.2.2.1, F.2.2.2.2⟩
  have hl : lv_has ls 2 [(0, .ref (ad 85))] := hl
  have hF : ac_Fr [(85, some 24), (93, none)] u0 u0 := ac_Fr.rf
  have L48 : ∀ (n48 : Nat) (x1 : Int32) (u : ac_U) (H : Heap) (locs : List Loc) (ls : Array Slot), ac_R rg u → ac_Fr [(85, some 24), (93, none)] u0 u → 370 - x1.toInt < (n48 : Int) → msI u → unI u → ukI x1.toInt u → (0 : Int) ≤ x1.toInt ∧ x1.toInt ≤ 370 → (0 : Int) ≤ (u.1 85 24).toInt ∧ (u.1 85 24).toInt ≤ 7 → va_P (dC, dI) vwCl (ac_w ad cA (TT nF) u) H → va_D A (ac_w ad cA (TT nF) u) → va_S A s.heap H locs → lv_has ls 2 [(0, .ref (ad 85)), (1, .int x1)] → W p l e (ac_rm 1) s m [.ref (ad 85)].toArray below meth c H locs 0 0 (MQ below (va_Qv (fun (u : ac_U) => ac_R rg u ∧ ac_Fr [(85, some 24), (93, none)] u0 u ∧ (1 ≤ (u.1 85 24).toInt) ∧ msI u ∧ unI u) (ac_B (dC, dI) vwCl (ac_ty cA) ad cA (TT nF) A) A) [.ref (ad 85)].toArray s 0 0 A) (F0 m 48 ls []) := by
    intro n48
    induction n48 with
    | zero => intro x1 u H locs ls hR hF hn48 hK_MS hK_UI hK_UKx f0 f1 hP hD hS hl; exfalso; omega
    | succ n48 ih48 =>
      intro x1 u H locs ls hR hF hn48 hK_MS hK_UI hK_UKx f0 f1 hP hD hS hl
      refine lv_iload_n F.1 F.2.1 dX12_keep_48 rfl (lv_at hl 1 rfl) ?_
      refine a_sp F (370 : Int32) dX12_keep_49 (by decide) ?_
      refine b_ge F 85 dX12_keep_52 (by decide) rfl ic_370 (fun c1 => ?_) (fun c1 => ?_)
      · refine lv_aload_n F.1 F.2.1 dX12_keep_85 rfl (lv_at hl 0 rfl) ?_
        refine lv_dup F.1 F.2.1 dX12_keep_86 rfl ?_
        have g2 : (0 : Int) ≤ (u.1 85 24).toInt ∧ (u.1 85 24).toInt ≤ 8 := hR 85 24
        refine a_geti F inX12 hP 85 24 tc_85 rfl rfl (by decide) q1495 (fun _ h9 => h9) (v := (u.1 85 24)) rfl dX12_keep_87 ?_
        refine a_ic F (1 : Int32) dX12_keep_90 (by decide) ?_
        refine a_iadd F dX12_keep_91 rfl ic_1 (by omega) (fun v3 hv3 => ?_)
        refine a_puti F inX12 tyX12 tyX12_ok nmX12 hP hD hS 85 24 tc_85 rfl rfl (by decide) q1495 (fun _ h9 => h9) rfl (ty := .int) (tyX12_ok 24 (by decide)) rfl rfl dX12_keep_92 (fun H locs hP hD hS => ?_)
        have hR := hR.si (c := 85) (k := 24) (v := v3) (by omega : (0 : Int) ≤ v3.toInt ∧ v3.toInt ≤ 8)
        have hF := hF.si (c := 85) (k := 24) (v := v3) rfl
        have hO_MS := hK_MS
        have hO_UI := hK_UI
        have hO_UKx := hK_UKx
        have hK_MS := sp_sgD sp_MS hD hK_MS (by decide)
        have hK_UI := un_inc hO_UI hO_UKx (by omega) (v := v3) (by omega)
        exact a_retv F hr hlocks hP hD hS dX12_keep_95 ⟨hR, hF, (by omega : 1 ≤ v3.toInt), hK_MS, hK_UI⟩
      · refine lv_aload_n F.1 F.2.1 dX12_keep_55 rfl (lv_at hl 0 rfl) ?_
        refine a_getr F inX12 hP 85 22 tc_85 rfl rfl (by decide) q1493 (fun _ h9 => h9) dX12_keep_56 ?_
        refine a_sp F (370 : Int32) dX12_keep_59 (by decide) ?_
        refine lv_aload_n F.1 F.2.1 dX12_keep_62 rfl (lv_at hl 0 rfl) ?_
        have g4 : (0 : Int) ≤ (u.1 85 24).toInt ∧ (u.1 85 24).toInt ≤ 8 := hR 85 24
        refine a_geti F inX12 hP 85 24 tc_85 rfl rfl (by decide) q1495 (fun _ h9 => h9) (v := (u.1 85 24)) rfl dX12_keep_63 ?_
        refine a_imul F dX12_keep_66 ic_370 rfl (by omega) (fun v5 hv5 => ?_)
        refine lv_iload_n F.1 F.2.1 dX12_keep_67 rfl (lv_at hl 1 rfl) ?_
        refine a_iadd F dX12_keep_68 rfl rfl (by omega) (fun v6 hv6 => ?_)
        refine lv_aload_n F.1 F.2.1 dX12_keep_69 rfl (lv_at hl 0 rfl) ?_
        refine a_getr F inX12 hP 85 6 tc_85 rfl rfl (by decide) q1477 (fun _ h9 => h9) dX12_keep_70 ?_
        refine a_bp F (106 : Int32) dX12_keep_73 (by decide) ?_
        refine lv_iload_n F.1 F.2.1 dX12_keep_75 rfl (lv_at hl 1 rfl) ?_
        refine a_iadd F dX12_keep_76 ic_106 rfl (by omega) (fun v7 hv7 => ?_)
        refine a_iald F hP 87 tc_87 rfl (i_in rfl (by omega)) dX12_keep_77 (fun v8 ev8 => ?_)
        refine a_iast F hP hD hS 93 tc_93 rfl (i_in rfl (by omega)) dX12_keep_78 (fun H locs hP hD hS => ?_)
        have hR := hR.si (c := 93) (k := v6.toNatClampNeg) (v := v8) (cp_el hR ev8 (rg_u2 (m := (u.1 85 24).toInt) (x := x1.toInt) (by omega) (by omega) (by omega) (by omega)).1)
        have hF := hF.si (c := 93) (k := v6.toNatClampNeg) (v := v8) rfl
        have hO_MS := hK_MS
        have hO_UI := hK_UI
        have hO_UKx := hK_UKx
        have hK_MS := sp_sgD sp_MS hD hK_MS (by decide)
        have hK_UI := un_w2 hO_UI (i := v6) (v := v8) (by omega) (by omega)
        have hK_UKx := uk_keep hO_UKx hO_MS (i := v6) (k := v7) (by omega) (by omega) (by omega) (by omega) ev8
        refine a_iinc F (k := 1) (fun v9 => [(1, .int v9), (0, .ref (ad 85))]) dX12_keep_79 hl rfl rfl (by decide) (by omega) (by decide) (fun _ => rfl) (fun v9 ls hv9 hl => ?_)
        refine lv_goto (tgt := 48) F.1 F.2.1 dX12_keep_82 (by decide) ?_
        exact ih48 v9 _ _ _ _ hR hF (by omega) hK_MS hK_UI (uk_eq hK_UKx (by omega)) (by omega) (by omega : (0 : Int) ≤ (u.1 85 24).toInt ∧ (u.1 85 24).toInt ≤ 7) hP hD hS (lv_sub hl [1, 0] rfl)
  have L46 : ∀ (u : ac_U) (H : Heap) (locs : List Loc) (ls : Array Slot), ac_R rg u → ac_Fr [(85, some 24), (93, none)] u0 u → msI u → unI u → (0 : Int) ≤ (u.1 85 24).toInt ∧ (u.1 85 24).toInt ≤ 7 → va_P (dC, dI) vwCl (ac_w ad cA (TT nF) u) H → va_D A (ac_w ad cA (TT nF) u) → va_S A s.heap H locs → lv_has ls 2 [(0, .ref (ad 85))] → W p l e (ac_rm 1) s m [.ref (ad 85)].toArray below meth c H locs 0 0 (MQ below (va_Qv (fun (u : ac_U) => ac_R rg u ∧ ac_Fr [(85, some 24), (93, none)] u0 u ∧ (1 ≤ (u.1 85 24).toInt) ∧ msI u ∧ unI u) (ac_B (dC, dI) vwCl (ac_ty cA) ad cA (TT nF) A) A) [.ref (ad 85)].toArray s 0 0 A) (F0 m 46 ls []) := by
    intro u H locs ls hR hF hK_MS hK_UI f0 hP hD hS hl
    refine a_ic F (0 : Int32) dX12_keep_46 (by decide) ?_
    refine lv_istore_n (lv' := [(1, .int (0 : Int32)), (0, .ref (ad 85))]) F.1 F.2.1 dX12_keep_47 rfl hl (by decide) rfl (fun ls hl => ?_)
    have g10 : (0 : Int) ≤ (u.1 85 24).toInt ∧ (u.1 85 24).toInt ≤ 8 := hR 85 24
    exact L48 372 (0 : Int32) _ _ _ _ hR hF (by decide) hK_MS hK_UI (uk_0 (by decide)) (by decide) (by omega : (0 : Int) ≤ (u.1 85 24).toInt ∧ (u.1 85 24).toInt ≤ 7) hP hD hS (lv_sub hl [1, 0] rfl)
  have L11 : ∀ (n11 : Nat) (x1 : Int32) (u : ac_U) (H : Heap) (locs : List Loc) (ls : Array Slot), ac_R rg u → ac_Fr [(85, some 24), (93, none)] u0 u → 2590 - x1.toInt < (n11 : Int) → msI u → unI u → (0 : Int) ≤ x1.toInt ∧ x1.toInt ≤ 2590 → (8 : Int) ≤ (u.1 85 24).toInt ∧ (u.1 85 24).toInt ≤ 8 → va_P (dC, dI) vwCl (ac_w ad cA (TT nF) u) H → va_D A (ac_w ad cA (TT nF) u) → va_S A s.heap H locs → lv_has ls 2 [(0, .ref (ad 85)), (1, .int x1)] → W p l e (ac_rm 1) s m [.ref (ad 85)].toArray below meth c H locs 0 0 (MQ below (va_Qv (fun (u : ac_U) => ac_R rg u ∧ ac_Fr [(85, some 24), (93, none)] u0 u ∧ (1 ≤ (u.1 85 24).toInt) ∧ msI u ∧ unI u) (ac_B (dC, dI) vwCl (ac_ty cA) ad cA (TT nF) A) A) [.ref (ad 85)].toArray s 0 0 A) (F0 m 11 ls []) := by
    intro n11
    induction n11 with
    | zero => intro x1 u H locs ls hR hF hn11 hK_MS hK_UI f0 f1 hP hD hS hl; exfalso; omega
    | succ n11 ih11 =>
      intro x1 u H locs ls hR hF hn11 hK_MS hK_UI f0 f1 hP hD hS hl
      refine lv_iload_n F.1 F.2.1 dX12_keep_11 rfl (lv_at hl 1 rfl) ?_
      refine a_sp F (2590 : Int32) dX12_keep_12 (by decide) ?_
      refine b_ge F 40 dX12_keep_15 (by decide) rfl ic_2590 (fun c11 => ?_) (fun c11 => ?_)
      · refine lv_aload_n F.1 F.2.1 dX12_keep_40 rfl (lv_at hl 0 rfl) ?_
        refine a_bp F (7 : Int32) dX12_keep_41 (by decide) ?_
        refine a_puti F inX12 tyX12 tyX12_ok nmX12 hP hD hS 85 24 tc_85 rfl rfl (by decide) q1495 (fun _ h9 => h9) rfl (ty := .int) (tyX12_ok 24 (by decide)) rfl rfl dX12_keep_43 (fun H locs hP hD hS => ?_)
        have hR := hR.si (c := 85) (k := 24) (v := (7 : Int32)) (by rw [ic_7]; exact (by omega : (0 : Int) ≤ (7 : Int) ∧ (7 : Int) ≤ 8))
        have hF := hF.si (c := 85) (k := 24) (v := (7 : Int32)) rfl
        have hO_MS := hK_MS
        have hO_UI := hK_UI
        have hK_MS := sp_sgD sp_MS hD hK_MS (by decide)
        have hK_UI := un_dec hO_UI (v := (7 : Int32)) (by rw [ic_7]; omega)
        exact L46 _ _ _ _ hR hF hK_MS hK_UI (by omega : (0 : Int) ≤ (7 : Int) ∧ (7 : Int) ≤ 7) hP hD hS (lv_sub hl [0] rfl)
      · refine lv_aload_n F.1 F.2.1 dX12_keep_18 rfl (lv_at hl 0 rfl) ?_
        refine a_getr F inX12 hP 85 22 tc_85 rfl rfl (by decide) q1493 (fun _ h9 => h9) dX12_keep_19 ?_
        refine lv_iload_n F.1 F.2.1 dX12_keep_22 rfl (lv_at hl 1 rfl) ?_
        refine lv_aload_n F.1 F.2.1 dX12_keep_23 rfl (lv_at hl 0 rfl) ?_
        refine a_getr F inX12 hP 85 22 tc_85 rfl rfl (by decide) q1493 (fun _ h9 => h9) dX12_keep_24 ?_
        refine lv_iload_n F.1 F.2.1 dX12_keep_27 rfl (lv_at hl 1 rfl) ?_
        refine a_sp F (370 : Int32) dX12_keep_28 (by decide) ?_
        refine a_iadd F dX12_keep_31 rfl ic_370 (by omega) (fun v12 hv12 => ?_)
        refine a_iald F hP 93 tc_93 rfl (i_in rfl (by omega)) dX12_keep_32 (fun v13 ev13 => ?_)
        refine a_iast F hP hD hS 93 tc_93 rfl (i_in rfl (by omega)) dX12_keep_33 (fun H locs hP hD hS => ?_)
        have hR := hR.si (c := 93) (k := x1.toNatClampNeg) (v := v13) (cp_el hR ev13 (rg_u1 (by omega) (by omega)))
        have hF := hF.si (c := 93) (k := x1.toNatClampNeg) (v := v13) rfl
        have hO_MS := hK_MS
        have hO_UI := hK_UI
        have hK_MS := sp_sgD sp_MS hD hK_MS (by decide)
        have hK_UI := un_sh hO_UI (i := x1) (i' := v12) (by omega) (by omega) (by omega) ev13
        refine a_iinc F (k := 1) (fun v14 => [(1, .int v14), (0, .ref (ad 85))]) dX12_keep_34 hl rfl rfl (by decide) (by omega) (by decide) (fun _ => rfl) (fun v14 ls hv14 hl => ?_)
        refine lv_goto (tgt := 11) F.1 F.2.1 dX12_keep_37 (by decide) ?_
        have g15 : (0 : Int) ≤ (u.1 85 24).toInt ∧ (u.1 85 24).toInt ≤ 8 := hR 85 24
        exact ih11 v14 _ _ _ _ hR hF (by omega) hK_MS hK_UI (by omega) (by omega : (8 : Int) ≤ (u.1 85 24).toInt ∧ (u.1 85 24).toInt ≤ 8) hP hD hS (lv_sub hl [1, 0] rfl)
  refine lv_aload_n F.1 F.2.1 dX12_keep_0 rfl (lv_at hl 0 rfl) ?_
  have g16 : (0 : Int) ≤ (u0.1 85 24).toInt ∧ (u0.1 85 24).toInt ≤ 8 := hR 85 24
  refine a_geti F inX12 hP 85 24 tc_85 rfl rfl (by decide) q1495 (fun _ h9 => h9) (v := (u0.1 85 24)) rfl dX12_keep_1 ?_
  refine a_bp F (8 : Int32) dX12_keep_4 (by decide) ?_
  refine b_ne F 46 dX12_keep_6 (by decide) rfl ic_8 (fun c17 => ?_) (fun c17 => ?_)
  · exact L46 _ _ _ _ hR hF hK_MS hK_UI (by omega : (0 : Int) ≤ (u0.1 85 24).toInt ∧ (u0.1 85 24).toInt ≤ 7) hP hD hS (lv_sub hl [0] rfl)
  · refine a_ic F (0 : Int32) dX12_keep_9 (by decide) ?_
    refine lv_istore_n (lv' := [(1, .int (0 : Int32)), (0, .ref (ad 85))]) F.1 F.2.1 dX12_keep_10 rfl hl (by decide) rfl (fun ls hl => ?_)
    exact L11 2592 (0 : Int32) _ _ _ _ hR hF (by decide) hK_MS hK_UI (by decide) (by omega : (8 : Int) ≤ (u0.1 85 24).toInt ∧ (u0.1 85 24).toInt ≤ 8) hP hD hS (lv_sub hl [1, 0] rfl)
set_option maxHeartbeats 600000 in
set_option maxRecDepth 100000 in
theorem c_X12_act_85__2 (l : Launch) (dC : Nat → ClassId) (dI : Nat → Nat → Nat) (ad : Nat → Nat) (cA : Nat → ClassId) (nF : Nat) (u0 : ac_U) (p0 : Int32) (p1 : Int32) (hR : ac_R rg u0) (hK_MS : msI u0) (hK_UI : unI u0) (hK_CW : cdI u0) : ac_Mi l yX12_act (.code yX12_act cX12_act 4 (some .int) :: TB) 3 (dC, dI) vwCl (ac_ty cA) ad cA (TT nF) [.ref (ad 85), .int p0, .int p1] u0 (fun (r : Int32) (u : ac_U) => ac_R rg u ∧ ac_Fr [(85, some 0), (85, some 24), (87, none), (93, none)] u0 u ∧ ((-1 : Int) ≤ r.toInt ∧ r.toInt ≤ 4) ∧ msI u ∧ unI u ∧ cdI u) := by
  refine ac_Mi.of (cc := cX12_act) (maxL := 4) (ret := (some .int)) (by decide) rfl (Nat.le_of_ble_eq_true rfl) ?_
  intro p e s m below meth c A ls F hml hr hlocks hA hP hD hS hl
  have F : ac_X p s m [.ref (ad 85), .int p0, .int p1].toArray c cX12_act RX12 TB (dC, dI) vwCl (ac_ty cA) := ⟨F.1, F.2.1, fun w h => F.2.2.1 w (List.mem_cons_of_mem _ h), F.2.2.2.1, F.2.2.2.2⟩
  have hl : lv_has ls 4 [(0, .ref (ad 85)), (1, .int p0), (2, .int p1)] := hl
  have hF : ac_Fr [(85, some 0), (85, some 24), (87, none), (93, none)] u0 u0 := ac_Fr.rf
  have L21 : ∀ (u : ac_U) (H : Heap) (locs : List Loc) (ls : Array Slot), ac_R rg u → ac_Fr [(85, some 0), (85, some 24), (87, none), (93, none)] u0 u → msI u → unI u → cdI u → (0 : Int) ≤ (u.1 85 0).toInt ∧ (u.1 85 0).toInt ≤ 0 → va_P (dC, dI) vwCl (ac_w ad cA (TT nF) u) H → va_D A (ac_w ad cA (TT nF) u) → va_S A s.heap H locs → lv_has ls 4 [] → W p l e (ac_rm 3) s m [.ref (ad 85), .int p0, .int p1].toArray below meth c H locs 0 0 (MQ below (va_Qi (fun (r : Int32) (u : ac_U) => ac_R rg u ∧ ac_Fr [(85, some 0), (85, some 24), (87, none), (93, none)] u0 u ∧ ((-1 : Int) ≤ r.toInt ∧ r.toInt ≤ 4) ∧ msI u ∧ unI u ∧ cdI u) (ac_B (dC, dI) vwCl (ac_ty cA) ad cA (TT nF) A) A) [.ref (ad 85), .int p0, .int p1].toArray s 0 0 A) (F0 m 21 ls []) := by
    intro u H locs ls hR hF hK_MS hK_UI hK_CW f0 hP hD hS hl
    refine a_ic F (-1 : Int32) dX12_act_21 (by decide) ?_
    exact a_reti F hr hlocks hP hD hS dX12_act_22 ⟨hR, hF, (by decide), hK_MS, hK_UI, hK_CW⟩
  refine lv_aload_n F.1 F.2.1 dX12_act_0 rfl (lv_at hl 0 rfl) ?_
  refine a_ic F (0 : Int32) dX12_act_1 (by decide) ?_
  refine a_puti F inX12 tyX12 tyX12_ok nmX12 hP hD hS 85 0 tc_85 rfl rfl (by decide) q1471 (fun _ h9 => h9) rfl (ty := .int) (tyX12_ok 0 (by decide)) rfl rfl dX12_act_2 (fun H locs hP hD hS => ?_)
  have hR := hR.si (c := 85) (k := 0) (v := (0 : Int32)) (by rw [ic_0]; exact (by omega : (0 : Int) ≤ (0 : Int) ∧ (0 : Int) ≤ 1))
  have hF := hF.si (c := 85) (k := 0) (v := (0 : Int32)) rfl
  have hK_MS := sp_sgD sp_MS hD hK_MS (by decide)
  have hK_UI := sp_si sp_UI hK_UI (c := 85) (k := 0) (v := (0 : Int32)) (fun j9 h9 q9 => by rw [q9] at h9; exact absurd h9 (by decide))
  have hK_CW := sp_sgD sp_CW hD hK_CW (by decide)
  refine lv_aload_n F.1 F.2.1 dX12_act_5 rfl (lv_at hl 0 rfl) ?_
  refine lv_iload_n F.1 F.2.1 dX12_act_6 rfl (lv_at hl 1 rfl) ?_
  refine a_Vi F hml hl.1 hA hP hD hS (As := [.int p0]) (c_X12_isPerson_85 l dC dI ad cA nF _ p0 hR) (cs_RX12_251 (d := 2) F.2.2.1 (by decide)) tc_85 rfl rfl rfl rfl (Nat.le_of_ble_eq_true rfl) dX12_act_7 ⟨Nat.le_refl 0, Nat.le_refl 0⟩ (fun r1 uN1 H locs hq hP hD hS => ?_)
  obtain ⟨hu1, gr1, xr1⟩ := hq
  rw [hu1] at hP hD
  have xr1 : r1.toInt ≠ 0 → 0 ≤ p0.toInt ∧ p0.toInt ≤ 3 := xr1
  refine z_eq F 21 dX12_act_10 (by decide) rfl (fun c2 => ?_) (fun c2 => ?_)
  · exact L21 _ _ _ _ hR hF hK_MS hK_UI hK_CW (by omega : (0 : Int) ≤ (0 : Int) ∧ (0 : Int) ≤ 0) hP hD hS (lv_sub hl [] rfl)
  · refine lv_aload_n F.1 F.2.1 dX12_act_13 rfl (lv_at hl 0 rfl) ?_
    refine lv_iload_n F.1 F.2.1 dX12_act_14 rfl (lv_at hl 2 rfl) ?_
    refine a_Vi F hml hl.1 hA hP hD hS (As := [.int p1]) (c_X12_isDeed_85 l dC dI ad cA nF _ p1 hR) (cs_RX12_276 (d := 2) F.2.2.1 (by decide)) tc_85 rfl rfl rfl rfl (Nat.le_of_ble_eq_true rfl) dX12_act_15 ⟨Nat.le_refl 0, Nat.le_refl 0⟩ (fun r3 uN3 H locs hq hP hD hS => ?_)
    obtain ⟨hu3, gr3, xr3⟩ := hq
    rw [hu3] at hP hD
    have xr3 : r3.toInt ≠ 0 → 0 ≤ p1.toInt ∧ p1.toInt ≤ 5 := xr3
    refine z_ne F 23 dX12_act_18 (by decide) rfl (fun c4 => ?_) (fun c4 => ?_)
    · refine lv_aload_n F.1 F.2.1 dX12_act_23 rfl (lv_at hl 0 rfl) ?_
      refine lv_iload_n F.1 F.2.1 dX12_act_24 rfl (lv_at hl 1 rfl) ?_
      refine a_Vi F hml hl.1 hA hP hD hS (As := [.int p0]) (c_X12_whyAct_85 l dC dI ad cA nF _ p0 hR (by omega)) (cs_RX12_279 (d := 2) F.2.2.1 (by decide)) tc_85 rfl rfl rfl rfl (Nat.le_of_ble_eq_true rfl) dX12_act_25 ⟨Nat.le_refl 0, Nat.le_refl 0⟩ (fun r5 uN5 H locs hq hP hD hS => ?_)
      obtain ⟨hu5, gr5, xr5⟩ := hq
      rw [hu5] at hP hD
      have g6 : (0 : Int) ≤ (u0.1 87 123).toInt ∧ (u0.1 87 123).toInt ≤ 80 := hR 87 123
      have xr5 : r5.toInt = 0 → (u0.1 87 123).toInt ≤ 79 := xr5
      refine lv_istore_n (lv' := [(3, .int r5), (0, .ref (ad 85)), (1, .int p0), (2, .int p1)]) F.1 F.2.1 dX12_act_28 rfl hl (by decide) rfl (fun ls hl => ?_)
      refine lv_iload_n F.1 F.2.1 dX12_act_29 rfl (lv_at hl 0 rfl) ?_
      refine z_le F 35 dX12_act_30 (by decide) rfl (fun c7 => ?_) (fun c7 => ?_)
      · refine lv_aload_n F.1 F.2.1 dX12_act_35 rfl (lv_at hl 1 rfl) ?_
        refine a_Vv F hml hl.1 hA hP hD hS (As := []) (c_X12_keep_85__2 l dC dI ad cA nF _  hR hK_MS hK_UI) (cs_RX12_269 (d := 1) F.2.2.1 (by decide)) tc_85 rfl rfl rfl rfl (Nat.le_of_ble_eq_true rfl) dX12_act_36 ⟨Nat.le_refl 0, Nat.le_refl 0⟩ (fun u8 H locs hq hP hD hS => ?_)
        obtain ⟨hR, hF8, xr8, hK_MS, hK_UI⟩ := hq
        have hF := hF.tr hF8 (by decide)
        have hK_CW := sp_fr sp_CW hF8 (by decide) hK_CW
        have g9 : (0 : Int) ≤ (u8.1 85 24).toInt ∧ (u8.1 85 24).toInt ≤ 8 := hR 85 24
        have xr8 : 1 ≤ (u8.1 85 24).toInt := xr8
        refine lv_aload_n F.1 F.2.1 dX12_act_39 rfl (lv_at hl 1 rfl) ?_
        refine lv_iload_n F.1 F.2.1 dX12_act_40 rfl (lv_at hl 2 rfl) ?_
        refine lv_iload_n F.1 F.2.1 dX12_act_41 rfl (lv_at hl 3 rfl) ?_
        refine a_Vv F hml hl.1 hA hP hD hS (As := [.int p0, .int p1]) (c_X12_does_85__2 l dC dI ad cA nF _ p0 p1 hR (by omega) (i_trB (hF8 87 123 rfl) (by omega : (0 : Int) ≤ (u0.1 87 123).toInt ∧ (u0.1 87 123).toInt ≤ 79))) (cs_RX12_283 (d := 1) F.2.2.1 (by decide)) tc_85 rfl rfl rfl rfl (Nat.le_of_ble_eq_true rfl) dX12_act_42 ⟨Nat.le_refl 0, Nat.le_refl 0⟩ (fun u10 H locs hq hP hD hS => ?_)
        obtain ⟨hR, hF10, xr10, hJ10_MS, hJ10_CW, hJ10_UI, hJ10_BI⟩ := hq
        have hF := hF.tr hF10 (by decide)
        have hK_MS := hJ10_MS hK_MS
        have hK_UI := hJ10_UI hK_UI
        have hK_CW := hJ10_CW hK_CW
        have g11 : (0 : Int) ≤ (u10.1 87 106).toInt ∧ (u10.1 87 106).toInt ≤ 480 := hR 87 106
        have g12 : (4 : Int) ≤ (u10.1 87 0).toInt ∧ (u10.1 87 0).toInt ≤ 24 := hR 87 0
        have xr10 : (u10.1 87 106).toInt = (u8.1 87 106).toInt ∧ (u10.1 87 0).toInt = (u8.1 87 0).toInt := xr10
        refine a_ic F (0 : Int32) dX12_act_45 (by decide) ?_
        exact a_reti F hr hlocks hP hD hS dX12_act_46 ⟨hR, hF, (by decide), hK_MS, hK_UI, hK_CW⟩
      · refine lv_iload_n F.1 F.2.1 dX12_act_33 rfl (lv_at hl 0 rfl) ?_
        exact a_reti F hr hlocks hP hD hS dX12_act_34 ⟨hR, hF, (by omega : (-1 : Int) ≤ r5.toInt ∧ r5.toInt ≤ 4), hK_MS, hK_UI, hK_CW⟩
    · exact L21 _ _ _ _ hR hF hK_MS hK_UI hK_CW (by omega : (0 : Int) ≤ (0 : Int) ∧ (0 : Int) ≤ 0) hP hD hS (lv_sub hl [] rfl)
set_option maxHeartbeats 600000 in
set_option maxRecDepth 100000 in
theorem c_X12_back_85__2 (l : Launch) (dC : Nat → ClassId) (dI : Nat → Nat → Nat) (ad : Nat → Nat) (cA : Nat → ClassId) (nF : Nat) (u0 : ac_U)  (hR : ac_R rg u0) (hK_MS : msI u0) (hK_BI : bfI u0) : ac_Mv l yX12_back (.code yX12_back cX12_back 2 none :: TB) 1 (dC, dI) vwCl (ac_ty cA) ad cA (TT nF) [.ref (ad 85)] u0 (fun (u : ac_U) => ac_R rg u ∧ ac_Fr [(87, none)] u0 u ∧ msI u ∧ bfI u ∧ (cdI u0 → cdI u) ∧ (unI u0 → unI u)) := by
  refine ac_Mv.of (cc := cX12_back) (maxL := 2) (ret := none) (by decide) rfl (Nat.le_of_ble_eq_true rfl) ?_
  intro p e s m below meth c A ls F hml hr hlocks hA hP hD hS hl
  have F : ac_X p s m [.ref (ad 85)].toArray c cX12_back RX12 TB (dC, dI) vwCl (ac_ty cA) := ⟨F.1, F.2.1, fun w h => F.2.2.1 w (List.mem_cons_of_mem _ h), F.2.2.2.1, F.2.2.2.2⟩
  have hl : lv_has ls 2 [(0, .ref (ad 85))] := hl
  have hF : ac_Fr [(87, none)] u0 u0 := ac_Fr.rf
  have hK_i_CW : (fun u => cdI u0 → cdI u) u0 := fun h => h
  have hK_i_UI : (fun u => unI u0 → unI u) u0 := fun h => h
  have L2 : ∀ (n2 : Nat) (x1 : Int32) (u : ac_U) (H : Heap) (locs : List Loc) (ls : Array Slot), ac_R rg u → ac_Fr [(87, none)] u0 u → 370 - x1.toInt < (n2 : Int) → msI u → bfI u → (fun u => cdI u0 → cdI u) u → (fun u => unI u0 → unI u) u → (0 : Int) ≤ x1.toInt ∧ x1.toInt ≤ 370 → va_P (dC, dI) vwCl (ac_w ad cA (TT nF) u) H → va_D A (ac_w ad cA (TT nF) u) → va_S A s.heap H locs → lv_has ls 2 [(0, .ref (ad 85)), (1, .int x1)] → W p l e (ac_rm 1) s m [.ref (ad 85)].toArray below meth c H locs 0 0 (MQ below (va_Qv (fun (u : ac_U) => ac_R rg u ∧ ac_Fr [(87, none)] u0 u ∧ msI u ∧ bfI u ∧ (cdI u0 → cdI u) ∧ (unI u0 → unI u)) (ac_B (dC, dI) vwCl (ac_ty cA) ad cA (TT nF) A) A) [.ref (ad 85)].toArray s 0 0 A) (F0 m 2 ls []) := by
    intro n2
    induction n2 with
    | zero => intro x1 u H locs ls hR hF hn2 hK_MS hK_BI hK_i_CW hK_i_UI f0 hP hD hS hl; exfalso; omega
    | succ n2 ih2 =>
      intro x1 u H locs ls hR hF hn2 hK_MS hK_BI hK_i_CW hK_i_UI f0 hP hD hS hl
      refine lv_iload_n F.1 F.2.1 dX12_back_2 rfl (lv_at hl 1 rfl) ?_
      refine a_sp F (370 : Int32) dX12_back_3 (by decide) ?_
      refine b_ge F 30 dX12_back_6 (by decide) rfl ic_370 (fun c1 => ?_) (fun c1 => ?_)
      · exact a_retv F hr hlocks hP hD hS dX12_back_30 ⟨hR, hF, hK_MS, hK_BI, hK_i_CW, hK_i_UI⟩
      · refine lv_aload_n F.1 F.2.1 dX12_back_9 rfl (lv_at hl 0 rfl) ?_
        refine a_getr F inX12 hP 85 6 tc_85 rfl rfl (by decide) q1477 (fun _ h9 => h9) dX12_back_10 ?_
        refine a_bp F (106 : Int32) dX12_back_13 (by decide) ?_
        refine lv_iload_n F.1 F.2.1 dX12_back_15 rfl (lv_at hl 1 rfl) ?_
        refine a_iadd F dX12_back_16 ic_106 rfl (by omega) (fun v2 hv2 => ?_)
        refine lv_aload_n F.1 F.2.1 dX12_back_17 rfl (lv_at hl 0 rfl) ?_
        refine a_getr F inX12 hP 85 23 tc_85 rfl rfl (by decide) q1494 (fun _ h9 => h9) dX12_back_18 ?_
        refine lv_iload_n F.1 F.2.1 dX12_back_21 rfl (lv_at hl 1 rfl) ?_
        refine a_iald F hP 94 tc_94 rfl (i_in rfl (by omega)) dX12_back_22 (fun v3 ev3 => ?_)
        refine a_iast F hP hD hS 87 tc_87 rfl (i_in rfl (by omega)) dX12_back_23 (fun H locs hP hD hS => ?_)
        have hR := hR.si (c := 87) (k := v2.toNatClampNeg) (v := v3) (cp_el hR ev3 (rg_u3 (by omega) (by omega)).2)
        have hF := hF.si (c := 87) (k := v2.toNatClampNeg) (v := v3) rfl
        have hO_MS := hK_MS
        have hO_BI := hK_BI
        have hO_i_CW := hK_i_CW
        have hO_i_UI := hK_i_UI
        have hK_MS := ms_w hO_MS (i := v2) (v := v3) (by omega) (fun q9 => bf_get hO_BI ev3 (by omega))
        have hK_BI := sp_si sp_BI hK_BI (c := 87) (k := v2.toNatClampNeg) (v := v3) (fun j9 h9 => by have q8 := sp_mem h9; simp at q8; have q9 := i_cl (x := v2) (by omega); omega)
        have hK_i_CW := sp_si (sp_imp sp_CW) hK_i_CW (c := 87) (k := v2.toNatClampNeg) (v := v3) (fun j9 h9 => by have q8 := sp_mem h9; simp at q8; have q9 := i_cl (x := v2) (by omega); omega)
        have hK_i_UI := sp_si (sp_imp sp_UI) hK_i_UI (c := 87) (k := v2.toNatClampNeg) (v := v3) (fun j9 h9 => by have q8 := sp_mem h9; simp at q8; have q9 := i_cl (x := v2) (by omega); omega)
        refine a_iinc F (k := 1) (fun v4 => [(1, .int v4), (0, .ref (ad 85))]) dX12_back_24 hl rfl rfl (by decide) (by omega) (by decide) (fun _ => rfl) (fun v4 ls hv4 hl => ?_)
        refine lv_goto (tgt := 2) F.1 F.2.1 dX12_back_27 (by decide) ?_
        exact ih2 v4 _ _ _ _ hR hF (by omega) hK_MS hK_BI hK_i_CW hK_i_UI (by omega) hP hD hS (lv_sub hl [1, 0] rfl)
  refine a_ic F (0 : Int32) dX12_back_0 (by decide) ?_
  refine lv_istore_n (lv' := [(1, .int (0 : Int32)), (0, .ref (ad 85))]) F.1 F.2.1 dX12_back_1 rfl hl (by decide) rfl (fun ls hl => ?_)
  exact L2 372 (0 : Int32) _ _ _ _ hR hF (by decide) hK_MS hK_BI hK_i_CW hK_i_UI (by decide) hP hD hS (lv_sub hl [1, 0] rfl)
set_option maxHeartbeats 600000 in
set_option maxRecDepth 100000 in
theorem c_X12_bookLine_85__2 (l : Launch) (dC : Nat → ClassId) (dI : Nat → Nat → Nat) (ad : Nat → Nat) (cA : Nat → ClassId) (nF : Nat) (u0 : ac_U)  (hR : ac_R rg u0) (hK_BLI : blI u0) : ac_Mi l yX12_bookLine (.code yX12_bookLine cX12_bookLine 3 (some .boolean) :: TB) 4 (dC, dI) vwCl (ac_ty cA) ad cA (TT nF) [.ref (ad 85)] u0 (fun (r : Int32) (u : ac_U) => ac_R rg u ∧ ac_Fr [(85, some 4), (85, some 11), (85, some 12), (85, some 13), (85, some 14), (85, some 15), (85, some 16), (85, some 18), (89, none)] u0 u ∧ ((0 : Int) ≤ r.toInt ∧ r.toInt ≤ 1) ∧ (r.toInt ≠ 0 → (u.1 85 35).toInt ≤ 39) ∧ (r.toInt ≠ 0 → blJ u)) := by
  refine ac_Mi.of (cc := cX12_bookLine) (maxL := 3) (ret := (some .boolean)) (by decide) rfl (Nat.le_of_ble_eq_true rfl) ?_
  intro p e s m below meth c A ls F hml hr hlocks hA hP hD hS hl
  have F : ac_X p s m [.ref (ad 85)].toArray c cX12_bookLine RX12 TB (dC, dI) vwCl (ac_ty cA) := ⟨F.1, F.2.1, fun w h => F.2.2.1 w (List.mem_cons_of_mem _ h), F.2.2.2.1, F.2.2.2.2⟩
  have hl : lv_has ls 3 [(0, .ref (ad 85))] := hl
  have hF : ac_Fr [(85, some 4), (85, some 11), (85, some 12), (85, some 13), (85, some 14), (85, some 15), (85, some 16), (85, some 18), (89, none)] u0 u0 := ac_Fr.rf
  have L160 : ∀ (x1 : Int32) (z0 : Int32) (u : ac_U) (H : Heap) (locs : List Loc) (ls : Array Slot), ac_R rg u → ac_Fr [(85, some 4), (85, some 11), (85, some 12), (85, some 13), (85, some 14), (85, some 15), (85, some 16), (85, some 18), (89, none)] u0 u → blI u → blP u → (0 : Int) ≤ x1.toInt ∧ x1.toInt ≤ 120 → (-1 : Int) ≤ z0.toInt ∧ z0.toInt ≤ 2 → (0 : Int) ≤ (u.1 85 18).toInt ∧ (u.1 85 18).toInt ≤ 3 → (0 : Int) ≤ (u.1 85 35).toInt ∧ (u.1 85 35).toInt ≤ 39 → x1.toInt = 3 * (u.1 85 35).toInt → va_P (dC, dI) vwCl (ac_w ad cA (TT nF) u) H → va_D A (ac_w ad cA (TT nF) u) → va_S A s.heap H locs → lv_has ls 3 [(0, .ref (ad 85)), (1, .int x1)] → W p l e (ac_rm 4) s m [.ref (ad 85)].toArray below meth c H locs 0 0 (MQ below (va_Qi (fun (r : Int32) (u : ac_U) => ac_R rg u ∧ ac_Fr [(85, some 4), (85, some 11), (85, some 12), (85, some 13), (85, some 14), (85, some 15), (85, some 16), (85, some 18), (89, none)] u0 u ∧ ((0 : Int) ≤ r.toInt ∧ r.toInt ≤ 1) ∧ (r.toInt ≠ 0 → (u.1 85 35).toInt ≤ 39) ∧ (r.toInt ≠ 0 → blJ u)) (ac_B (dC, dI) vwCl (ac_ty cA) ad cA (TT nF) A) A) [.ref (ad 85)].toArray s 0 0 A) (F0 m 160 ls [.int z0]) := by
    intro x1 z0 u H locs ls hR hF hK_BLI hK_BLP f0 f1 f2 f3 f4 hP hD hS hl
    refine lv_istore_n (lv' := [(2, .int z0), (0, .ref (ad 85)), (1, .int x1)]) F.1 F.2.1 dX12_bookLine_160 rfl hl (by decide) rfl (fun ls hl => ?_)
    refine lv_iload_n F.1 F.2.1 dX12_bookLine_161 rfl (lv_at hl 0 rfl) ?_
    refine z_ge F 171 dX12_bookLine_162 (by decide) rfl (fun c1 => ?_) (fun c1 => ?_)
    · refine lv_aload_n F.1 F.2.1 dX12_bookLine_171 rfl (lv_at hl 1 rfl) ?_
      refine a_getr F inX12 hP 85 8 tc_85 rfl rfl (by decide) q1479 (fun _ h9 => h9) dX12_bookLine_172 ?_
      refine lv_iload_n F.1 F.2.1 dX12_bookLine_175 rfl (lv_at hl 2 rfl) ?_
      refine lv_iload_n F.1 F.2.1 dX12_bookLine_176 rfl (lv_at hl 0 rfl) ?_
      refine a_iast F hP hD hS 89 tc_89 rfl (i_in rfl (by omega)) dX12_bookLine_177 (fun H locs hP hD hS => ?_)
      have hR := hR.si (c := 89) (k := x1.toNatClampNeg) (v := z0) ⟨i_lo _, i_hi _⟩
      have hF := hF.si (c := 89) (k := x1.toNatClampNeg) (v := z0) rfl
      have hO_BLI := hK_BLI
      have hO_BLP := hK_BLP
      have hN_BLQ := bx_q hD (t := (u.1 85 35)) rfl (by omega) (by omega) (by omega)
      have hK_BLI := bx_w hO_BLI (t := (u.1 85 35)) rfl (i := x1) (v := z0) (by omega) (by omega)
      have hK_BLP := bx_pw hO_BLP (t := (u.1 85 35)) rfl (i := x1) (v := z0) (by omega) (by omega)
      have hK_BLQ := hN_BLQ
      refine lv_aload_n F.1 F.2.1 dX12_bookLine_178 rfl (lv_at hl 1 rfl) ?_
      refine a_Vv F hml hl.1 hA hP hD hS (As := []) (c_X12_next_85 l dC dI ad cA nF _  hR) (cs_RX12_184 (d := 2) F.2.2.1 (by decide)) tc_85 rfl rfl rfl rfl (Nat.le_of_ble_eq_true rfl) dX12_bookLine_179 ⟨Nat.le_refl 0, Nat.le_refl 0⟩ (fun u2 H locs hq hP hD hS => ?_)
      obtain ⟨hR, hF2⟩ := hq
      have hF := hF.tr hF2 (by decide)
      have hK_BLI := sp_fr sp_BLI hF2 (by decide) hK_BLI
      have hK_BLP := sp_fr sp_BLP hF2 (by decide) hK_BLP
      have hK_BLQ := sp_fr sp_BLQ hF2 (by decide) hK_BLQ
      refine lv_aload_n F.1 F.2.1 dX12_bookLine_182 rfl (lv_at hl 1 rfl) ?_
      refine lv_iload_n F.1 F.2.1 dX12_bookLine_183 rfl (lv_at hl 0 rfl) ?_
      refine z_ne F 191 dX12_bookLine_184 (by decide) rfl (fun c3 => ?_) (fun c3 => ?_)
      · refine lv_iload_n F.1 F.2.1 dX12_bookLine_191 rfl (lv_at hl 0 rfl) ?_
        refine a_ic F (1 : Int32) dX12_bookLine_192 (by decide) ?_
        refine b_ne F 201 dX12_bookLine_193 (by decide) rfl ic_1 (fun c4 => ?_) (fun c4 => ?_)
        · refine a_bp F (18 : Int32) dX12_bookLine_201 (by decide) ?_
          refine lv_aload_n F.1 F.2.1 dX12_bookLine_203 rfl (lv_at hl 1 rfl) ?_
          refine a_getr F inX12 hP 85 6 tc_85 rfl rfl (by decide) q1477 (fun _ h9 => h9) dX12_bookLine_204 ?_
          refine lv_iload_n F.1 F.2.1 dX12_bookLine_207 rfl (lv_at hl 0 rfl) ?_
          refine z_ne F 215 dX12_bookLine_208 (by decide) rfl (fun c5 => ?_) (fun c5 => ?_)
          · refine lv_iload_n F.1 F.2.1 dX12_bookLine_215 rfl (lv_at hl 0 rfl) ?_
            refine a_ic F (1 : Int32) dX12_bookLine_216 (by decide) ?_
            refine b_ne F 224 dX12_bookLine_217 (by decide) rfl ic_1 (fun c6 => ?_) (fun c6 => ?_)
            · refine a_bp F (6 : Int32) dX12_bookLine_224 (by decide) ?_
              have g7 : (0 : Int) ≤ (u2.1 87 6).toInt ∧ (u2.1 87 6).toInt ≤ 8 := hR 87 6
              refine a_ialdK F hP 87 6 tc_87 rfl rfl (i_in ic_6 (by omega)) (v := (u2.1 87 6)) rfl dX12_bookLine_226 ?_
              refine a_Vi F hml hl.1 hA hP hD hS (As := [.int (18 : Int32), .int (u2.1 87 6)]) (c_X12_takesName_85 l dC dI ad cA nF _ (18 : Int32) (u2.1 87 6) hR (by decide) (by omega) (by simp only [ic_18]; omega)) (cs_RX12_220 (d := 3) F.2.2.1 (by decide)) tc_85 rfl rfl rfl rfl (Nat.le_of_ble_eq_true rfl) dX12_bookLine_227 ⟨Nat.le_refl 0, Nat.le_refl 0⟩ (fun r8 u8 H locs hq hP hD hS => ?_)
              obtain ⟨hR, hF8, gr8, xr8⟩ := hq
              have hF := hF.tr hF8 (by decide)
              have hK_BLI := sp_fr sp_BLI hF8 (by decide) hK_BLI
              have hK_BLP := sp_fr sp_BLP hF8 (by decide) hK_BLP
              have hK_BLQ := sp_fr sp_BLQ hF8 (by decide) hK_BLQ
              have xr8 : r8.toInt ≠ 0 → 0 ≤ (u8.1 85 18).toInt ∧ (u8.1 85 18).toInt < (u2.1 87 6).toInt := xr8
              refine z_ne F 235 dX12_bookLine_230 (by decide) rfl (fun c9 => ?_) (fun c9 => ?_)
              · refine lv_aload_n F.1 F.2.1 dX12_bookLine_235 rfl (lv_at hl 1 rfl) ?_
                refine a_getr F inX12 hP 85 8 tc_85 rfl rfl (by decide) q1479 (fun _ h9 => h9) dX12_bookLine_236 ?_
                refine lv_iload_n F.1 F.2.1 dX12_bookLine_239 rfl (lv_at hl 2 rfl) ?_
                refine a_ic F (2 : Int32) dX12_bookLine_240 (by decide) ?_
                refine a_iadd F dX12_bookLine_241 rfl ic_2 (by omega) (fun v10 hv10 => ?_)
                refine lv_aload_n F.1 F.2.1 dX12_bookLine_242 rfl (lv_at hl 1 rfl) ?_
                refine a_geti F inX12 hP 85 18 tc_85 rfl rfl (by decide) q1489 (fun _ h9 => h9) (v := (u8.1 85 18)) (rfl) dX12_bookLine_243 ?_
                refine a_iast F hP hD hS 89 tc_89 rfl (i_in rfl (by omega)) dX12_bookLine_246 (fun H locs hP hD hS => ?_)
                have hR := hR.si (c := 89) (k := v10.toNatClampNeg) (v := (u8.1 85 18)) ⟨i_lo _, i_hi _⟩
                have hF := hF.si (c := 89) (k := v10.toNatClampNeg) (v := (u8.1 85 18)) rfl
                have hO_BLI := hK_BLI
                have hO_BLP := hK_BLP
                have hO_BLQ := hK_BLQ
                have hN_BLJ := bx_j2 hO_BLI hO_BLP hO_BLQ (t := (u.1 85 35)) ((hF8 85 35 rfl).trans (hF2 85 35 rfl)) (i := v10) (v := (u8.1 85 18)) (by omega) (by omega) (by omega)
                have hK_BLI := bx_w hO_BLI (t := (u.1 85 35)) ((hF8 85 35 rfl).trans (hF2 85 35 rfl)) (i := v10) (v := (u8.1 85 18)) (by omega) (by omega)
                have hK_BLJ := hN_BLJ
                refine a_ic F (1 : Int32) dX12_bookLine_247 (by decide) ?_
                have k11 : (u8.1 85 35).toInt = (u.1 85 35).toInt := congrArg Int32.toInt (show u8.1 85 35 = (u.1 85 35) from (hF8 85 35 rfl).trans (hF2 85 35 rfl))
                exact a_retz F hr hlocks hP hD hS dX12_bookLine_248 (Or.inr rfl) ⟨hR, hF, (by decide), (by first | exact (by omega : (1 : Int) ≠ 0 → (u8.1 85 35).toInt ≤ 39) | (rw [ic_1]; exact (by omega : (1 : Int) ≠ 0 → (u8.1 85 35).toInt ≤ 39))), (fun _ => hK_BLJ)⟩
              · refine a_ic F (0 : Int32) dX12_bookLine_233 (by decide) ?_
                have k12 : (u8.1 85 35).toInt = (u.1 85 35).toInt := congrArg Int32.toInt (show u8.1 85 35 = (u.1 85 35) from (hF8 85 35 rfl).trans (hF2 85 35 rfl))
                exact a_retz F hr hlocks hP hD hS dX12_bookLine_234 (Or.inl rfl) ⟨hR, hF, (by decide), (by first | exact (by omega : (0 : Int) ≠ 0 → (u8.1 85 35).toInt ≤ 39) | (rw [ic_0]; exact (by omega : (0 : Int) ≠ 0 → (u8.1 85 35).toInt ≤ 39))), (fun h9 => absurd (by decide) h9)⟩
            · exfalso; omega
          · exfalso; omega
        · refine a_bp F (12 : Int32) dX12_bookLine_196 (by decide) ?_
          refine lv_goto (tgt := 203) F.1 F.2.1 dX12_bookLine_198 (by decide) ?_
          refine lv_aload_n F.1 F.2.1 dX12_bookLine_203 rfl (lv_at hl 1 rfl) ?_
          refine a_getr F inX12 hP 85 6 tc_85 rfl rfl (by decide) q1477 (fun _ h9 => h9) dX12_bookLine_204 ?_
          refine lv_iload_n F.1 F.2.1 dX12_bookLine_207 rfl (lv_at hl 0 rfl) ?_
          refine z_ne F 215 dX12_bookLine_208 (by decide) rfl (fun c13 => ?_) (fun c13 => ?_)
          · refine lv_iload_n F.1 F.2.1 dX12_bookLine_215 rfl (lv_at hl 0 rfl) ?_
            refine a_ic F (1 : Int32) dX12_bookLine_216 (by decide) ?_
            refine b_ne F 224 dX12_bookLine_217 (by decide) rfl ic_1 (fun c14 => ?_) (fun c14 => ?_)
            · exfalso; omega
            · refine a_ic F (5 : Int32) dX12_bookLine_220 (by decide) ?_
              refine lv_goto (tgt := 226) F.1 F.2.1 dX12_bookLine_221 (by decide) ?_
              have g15 : (0 : Int) ≤ (u2.1 87 5).toInt ∧ (u2.1 87 5).toInt ≤ 6 := hR 87 5
              refine a_ialdK F hP 87 5 tc_87 rfl rfl (i_in ic_5 (by omega)) (v := (u2.1 87 5)) rfl dX12_bookLine_226 ?_
              refine a_Vi F hml hl.1 hA hP hD hS (As := [.int (12 : Int32), .int (u2.1 87 5)]) (c_X12_takesName_85 l dC dI ad cA nF _ (12 : Int32) (u2.1 87 5) hR (by decide) (by omega) (by simp only [ic_12]; omega)) (cs_RX12_220 (d := 3) F.2.2.1 (by decide)) tc_85 rfl rfl rfl rfl (Nat.le_of_ble_eq_true rfl) dX12_bookLine_227 ⟨Nat.le_refl 0, Nat.le_refl 0⟩ (fun r16 u16 H locs hq hP hD hS => ?_)
              obtain ⟨hR, hF16, gr16, xr16⟩ := hq
              have hF := hF.tr hF16 (by decide)
              have hK_BLI := sp_fr sp_BLI hF16 (by decide) hK_BLI
              have hK_BLP := sp_fr sp_BLP hF16 (by decide) hK_BLP
              have hK_BLQ := sp_fr sp_BLQ hF16 (by decide) hK_BLQ
              have xr16 : r16.toInt ≠ 0 → 0 ≤ (u16.1 85 18).toInt ∧ (u16.1 85 18).toInt < (u2.1 87 5).toInt := xr16
              refine z_ne F 235 dX12_bookLine_230 (by decide) rfl (fun c17 => ?_) (fun c17 => ?_)
              · refine lv_aload_n F.1 F.2.1 dX12_bookLine_235 rfl (lv_at hl 1 rfl) ?_
                refine a_getr F inX12 hP 85 8 tc_85 rfl rfl (by decide) q1479 (fun _ h9 => h9) dX12_bookLine_236 ?_
                refine lv_iload_n F.1 F.2.1 dX12_bookLine_239 rfl (lv_at hl 2 rfl) ?_
                refine a_ic F (2 : Int32) dX12_bookLine_240 (by decide) ?_
                refine a_iadd F dX12_bookLine_241 rfl ic_2 (by omega) (fun v18 hv18 => ?_)
                refine lv_aload_n F.1 F.2.1 dX12_bookLine_242 rfl (lv_at hl 1 rfl) ?_
                refine a_geti F inX12 hP 85 18 tc_85 rfl rfl (by decide) q1489 (fun _ h9 => h9) (v := (u16.1 85 18)) (rfl) dX12_bookLine_243 ?_
                refine a_iast F hP hD hS 89 tc_89 rfl (i_in rfl (by omega)) dX12_bookLine_246 (fun H locs hP hD hS => ?_)
                have hR := hR.si (c := 89) (k := v18.toNatClampNeg) (v := (u16.1 85 18)) ⟨i_lo _, i_hi _⟩
                have hF := hF.si (c := 89) (k := v18.toNatClampNeg) (v := (u16.1 85 18)) rfl
                have hO_BLI := hK_BLI
                have hO_BLP := hK_BLP
                have hO_BLQ := hK_BLQ
                have hN_BLJ := bx_j2 hO_BLI hO_BLP hO_BLQ (t := (u.1 85 35)) ((hF16 85 35 rfl).trans (hF2 85 35 rfl)) (i := v18) (v := (u16.1 85 18)) (by omega) (by omega) (by omega)
                have hK_BLI := bx_w hO_BLI (t := (u.1 85 35)) ((hF16 85 35 rfl).trans (hF2 85 35 rfl)) (i := v18) (v := (u16.1 85 18)) (by omega) (by omega)
                have hK_BLJ := hN_BLJ
                refine a_ic F (1 : Int32) dX12_bookLine_247 (by decide) ?_
                have k19 : (u16.1 85 35).toInt = (u.1 85 35).toInt := congrArg Int32.toInt (show u16.1 85 35 = (u.1 85 35) from (hF16 85 35 rfl).trans (hF2 85 35 rfl))
                exact a_retz F hr hlocks hP hD hS dX12_bookLine_248 (Or.inr rfl) ⟨hR, hF, (by decide), (by first | exact (by omega : (1 : Int) ≠ 0 → (u16.1 85 35).toInt ≤ 39) | (rw [ic_1]; exact (by omega : (1 : Int) ≠ 0 → (u16.1 85 35).toInt ≤ 39))), (fun _ => hK_BLJ)⟩
              · refine a_ic F (0 : Int32) dX12_bookLine_233 (by decide) ?_
                have k20 : (u16.1 85 35).toInt = (u.1 85 35).toInt := congrArg Int32.toInt (show u16.1 85 35 = (u.1 85 35) from (hF16 85 35 rfl).trans (hF2 85 35 rfl))
                exact a_retz F hr hlocks hP hD hS dX12_bookLine_234 (Or.inl rfl) ⟨hR, hF, (by decide), (by first | exact (by omega : (0 : Int) ≠ 0 → (u16.1 85 35).toInt ≤ 39) | (rw [ic_0]; exact (by omega : (0 : Int) ≠ 0 → (u16.1 85 35).toInt ≤ 39))), (fun h9 => absurd (by decide) h9)⟩
          · exfalso; omega
      · refine a_ic F (0 : Int32) dX12_bookLine_187 (by decide) ?_
        refine lv_goto (tgt := 203) F.1 F.2.1 dX12_bookLine_188 (by decide) ?_
        refine lv_aload_n F.1 F.2.1 dX12_bookLine_203 rfl (lv_at hl 1 rfl) ?_
        refine a_getr F inX12 hP 85 6 tc_85 rfl rfl (by decide) q1477 (fun _ h9 => h9) dX12_bookLine_204 ?_
        refine lv_iload_n F.1 F.2.1 dX12_bookLine_207 rfl (lv_at hl 0 rfl) ?_
        refine z_ne F 215 dX12_bookLine_208 (by decide) rfl (fun c21 => ?_) (fun c21 => ?_)
        · exfalso; omega
        · refine a_ic F (1 : Int32) dX12_bookLine_211 (by decide) ?_
          refine lv_goto (tgt := 226) F.1 F.2.1 dX12_bookLine_212 (by decide) ?_
          have g22 : (0 : Int) ≤ (u2.1 87 1).toInt ∧ (u2.1 87 1).toInt ≤ 8 := hR 87 1
          refine a_ialdK F hP 87 1 tc_87 rfl rfl (i_in ic_1 (by omega)) (v := (u2.1 87 1)) rfl dX12_bookLine_226 ?_
          refine a_Vi F hml hl.1 hA hP hD hS (As := [.int (0 : Int32), .int (u2.1 87 1)]) (c_X12_takesName_85 l dC dI ad cA nF _ (0 : Int32) (u2.1 87 1) hR (by decide) (by omega) (by simp only [ic_0]; omega)) (cs_RX12_220 (d := 3) F.2.2.1 (by decide)) tc_85 rfl rfl rfl rfl (Nat.le_of_ble_eq_true rfl) dX12_bookLine_227 ⟨Nat.le_refl 0, Nat.le_refl 0⟩ (fun r23 u23 H locs hq hP hD hS => ?_)
          obtain ⟨hR, hF23, gr23, xr23⟩ := hq
          have hF := hF.tr hF23 (by decide)
          have hK_BLI := sp_fr sp_BLI hF23 (by decide) hK_BLI
          have hK_BLP := sp_fr sp_BLP hF23 (by decide) hK_BLP
          have hK_BLQ := sp_fr sp_BLQ hF23 (by decide) hK_BLQ
          have xr23 : r23.toInt ≠ 0 → 0 ≤ (u23.1 85 18).toInt ∧ (u23.1 85 18).toInt < (u2.1 87 1).toInt := xr23
          refine z_ne F 235 dX12_bookLine_230 (by decide) rfl (fun c24 => ?_) (fun c24 => ?_)
          · refine lv_aload_n F.1 F.2.1 dX12_bookLine_235 rfl (lv_at hl 1 rfl) ?_
            refine a_getr F inX12 hP 85 8 tc_85 rfl rfl (by decide) q1479 (fun _ h9 => h9) dX12_bookLine_236 ?_
            refine lv_iload_n F.1 F.2.1 dX12_bookLine_239 rfl (lv_at hl 2 rfl) ?_
            refine a_ic F (2 : Int32) dX12_bookLine_240 (by decide) ?_
            refine a_iadd F dX12_bookLine_241 rfl ic_2 (by omega) (fun v25 hv25 => ?_)
            refine lv_aload_n F.1 F.2.1 dX12_bookLine_242 rfl (lv_at hl 1 rfl) ?_
            refine a_geti F inX12 hP 85 18 tc_85 rfl rfl (by decide) q1489 (fun _ h9 => h9) (v := (u23.1 85 18)) (rfl) dX12_bookLine_243 ?_
            refine a_iast F hP hD hS 89 tc_89 rfl (i_in rfl (by omega)) dX12_bookLine_246 (fun H locs hP hD hS => ?_)
            have hR := hR.si (c := 89) (k := v25.toNatClampNeg) (v := (u23.1 85 18)) ⟨i_lo _, i_hi _⟩
            have hF := hF.si (c := 89) (k := v25.toNatClampNeg) (v := (u23.1 85 18)) rfl
            have hO_BLI := hK_BLI
            have hO_BLP := hK_BLP
            have hO_BLQ := hK_BLQ
            have hN_BLJ := bx_j2 hO_BLI hO_BLP hO_BLQ (t := (u.1 85 35)) ((hF23 85 35 rfl).trans (hF2 85 35 rfl)) (i := v25) (v := (u23.1 85 18)) (by omega) (by omega) (by omega)
            have hK_BLI := bx_w hO_BLI (t := (u.1 85 35)) ((hF23 85 35 rfl).trans (hF2 85 35 rfl)) (i := v25) (v := (u23.1 85 18)) (by omega) (by omega)
            have hK_BLJ := hN_BLJ
            refine a_ic F (1 : Int32) dX12_bookLine_247 (by decide) ?_
            have k26 : (u23.1 85 35).toInt = (u.1 85 35).toInt := congrArg Int32.toInt (show u23.1 85 35 = (u.1 85 35) from (hF23 85 35 rfl).trans (hF2 85 35 rfl))
            exact a_retz F hr hlocks hP hD hS dX12_bookLine_248 (Or.inr rfl) ⟨hR, hF, (by decide), (by first | exact (by omega : (1 : Int) ≠ 0 → (u23.1 85 35).toInt ≤ 39) | (rw [ic_1]; exact (by omega : (1 : Int) ≠ 0 → (u23.1 85 35).toInt ≤ 39))), (fun _ => hK_BLJ)⟩
          · refine a_ic F (0 : Int32) dX12_bookLine_233 (by decide) ?_
            have k27 : (u23.1 85 35).toInt = (u.1 85 35).toInt := congrArg Int32.toInt (show u23.1 85 35 = (u.1 85 35) from (hF23 85 35 rfl).trans (hF2 85 35 rfl))
            exact a_retz F hr hlocks hP hD hS dX12_bookLine_234 (Or.inl rfl) ⟨hR, hF, (by decide), (by first | exact (by omega : (0 : Int) ≠ 0 → (u23.1 85 35).toInt ≤ 39) | (rw [ic_0]; exact (by omega : (0 : Int) ≠ 0 → (u23.1 85 35).toInt ≤ 39))), (fun h9 => absurd (by decide) h9)⟩
    · refine lv_aload_n F.1 F.2.1 dX12_bookLine_165 rfl (lv_at hl 1 rfl) ?_
      refine a_ic F (1 : Int32) dX12_bookLine_166 (by decide) ?_
      refine a_Vi F hml hl.1 hA hP hD hS (As := [.int (1 : Int32)]) (c_X12_bad_85 l dC dI ad cA nF _ (1 : Int32) hR (by decide)) (cs_RX12_181 (d := 1) F.2.2.1 (by decide)) tc_85 rfl rfl rfl rfl (Nat.le_of_ble_eq_true rfl) dX12_bookLine_167 ⟨Nat.le_refl 0, Nat.le_refl 0⟩ (fun r28 u28 H locs hq hP hD hS => ?_)
      obtain ⟨hR, hF28, gr28⟩ := hq
      have hF := hF.tr hF28 (by decide)
      have hK_BLI := sp_fr sp_BLI hF28 (by decide) hK_BLI
      have hK_BLP := sp_fr sp_BLP hF28 (by decide) hK_BLP
      have k29 : (u28.1 85 35).toInt = (u.1 85 35).toInt := congrArg Int32.toInt (show u28.1 85 35 = (u.1 85 35) from hF28 85 35 rfl)
      exact a_retz F hr hlocks hP hD hS dX12_bookLine_170 (i_01 (by omega)) ⟨hR, hF, (by omega : (0 : Int) ≤ r28.toInt ∧ r28.toInt ≤ 1), (by omega : r28.toInt ≠ 0 → (u28.1 85 35).toInt ≤ 39), (fun h9 => absurd (by omega : r28.toInt = 0) h9)⟩
  refine a_ic F (3 : Int32) dX12_bookLine_0 (by decide) ?_
  refine lv_aload_n F.1 F.2.1 dX12_bookLine_1 rfl (lv_at hl 0 rfl) ?_
  have g30 : (0 : Int) ≤ (u0.1 85 35).toInt ∧ (u0.1 85 35).toInt ≤ 40 := hR 85 35
  refine a_geti F inX12 hP 85 35 tc_85 rfl rfl (by decide) q1506 (fun _ h9 => h9) (v := (u0.1 85 35)) rfl dX12_bookLine_2 ?_
  refine a_imul F dX12_bookLine_5 ic_3 rfl (by omega) (fun v31 hv31 => ?_)
  refine lv_istore_n (lv' := [(1, .int v31), (0, .ref (ad 85))]) F.1 F.2.1 dX12_bookLine_6 rfl hl (by decide) rfl (fun ls hl => ?_)
  refine lv_aload_n F.1 F.2.1 dX12_bookLine_7 rfl (lv_at hl 1 rfl) ?_
  refine lv_ldc2 (v := (1752135026 : Int64)) F.1 F.2.1 F.2.2.2.1 (F.2.2.1 _ q1457) dX12_bookLine_8 ?_
  refine a_Vi F hml hl.1 hA hP hD hS (As := [.long (1752135026 : Int64)]) (c_X12_isWord_85 l dC dI ad cA nF _ (1752135026 : Int64) hR) (cs_RX12_206 (d := 1) F.2.2.1 (by decide)) tc_85 rfl rfl rfl rfl (Nat.le_of_ble_eq_true rfl) dX12_bookLine_11 ⟨Nat.le_refl 0, Nat.le_refl 0⟩ (fun r32 uN32 H locs hq hP hD hS => ?_)
  obtain ⟨hu32, gr32⟩ := hq
  rw [hu32] at hP hD
  refine z_eq F 69 dX12_bookLine_14 (by decide) rfl (fun c33 => ?_) (fun c33 => ?_)
  · refine lv_aload_n F.1 F.2.1 dX12_bookLine_69 rfl (lv_at hl 1 rfl) ?_
    refine a_bp F (8 : Int32) dX12_bookLine_70 (by decide) ?_
    refine lv_aload_n F.1 F.2.1 dX12_bookLine_72 rfl (lv_at hl 1 rfl) ?_
    refine a_getr F inX12 hP 85 6 tc_85 rfl rfl (by decide) q1477 (fun _ h9 => h9) dX12_bookLine_73 ?_
    refine a_ic F (4 : Int32) dX12_bookLine_76 (by decide) ?_
    have g34 : (0 : Int) ≤ (u0.1 87 4).toInt ∧ (u0.1 87 4).toInt ≤ 4 := hR 87 4
    refine a_ialdK F hP 87 4 tc_87 rfl rfl (i_in ic_4 (by omega)) (v := (u0.1 87 4)) rfl dX12_bookLine_77 ?_
    refine a_Vi F hml hl.1 hA hP hD hS (As := [.int (8 : Int32), .int (u0.1 87 4)]) (c_X12_looksAt_85 l dC dI ad cA nF _ (8 : Int32) (u0.1 87 4) hR (by decide) (by omega) (by simp only [ic_8]; omega)) (cs_RX12_202 (d := 2) F.2.2.1 (by decide)) tc_85 rfl rfl rfl rfl (Nat.le_of_ble_eq_true rfl) dX12_bookLine_78 ⟨Nat.le_refl 0, Nat.le_refl 0⟩ (fun r35 u35 H locs hq hP hD hS => ?_)
    obtain ⟨hR, hF35, gr35, xr35⟩ := hq
    have hF := hF.tr hF35 (by decide)
    have hK_BLI := sp_fr sp_BLI hF35 (by decide) hK_BLI
    have xr35 : r35.toInt ≠ 0 → 0 ≤ (u35.1 85 18).toInt ∧ (u35.1 85 18).toInt < (u0.1 87 4).toInt := xr35
    refine z_ne F 86 dX12_bookLine_81 (by decide) rfl (fun c36 => ?_) (fun c36 => ?_)
    · refine lv_aload_n F.1 F.2.1 dX12_bookLine_86 rfl (lv_at hl 1 rfl) ?_
      refine a_geti F inX12 hP 85 35 tc_85 rfl rfl (by decide) q1506 (fun _ h9 => h9) (v := (u0.1 85 35)) (hF35 85 35 rfl) dX12_bookLine_87 ?_
      refine a_bp F (40 : Int32) dX12_bookLine_90 (by decide) ?_
      refine b_ne F 101 dX12_bookLine_92 (by decide) rfl ic_40 (fun c37 => ?_) (fun c37 => ?_)
      · refine lv_aload_n F.1 F.2.1 dX12_bookLine_101 rfl (lv_at hl 1 rfl) ?_
        refine a_getr F inX12 hP 85 8 tc_85 rfl rfl (by decide) q1479 (fun _ h9 => h9) dX12_bookLine_102 ?_
        refine lv_iload_n F.1 F.2.1 dX12_bookLine_105 rfl (lv_at hl 0 rfl) ?_
        refine a_ic F (1 : Int32) dX12_bookLine_106 (by decide) ?_
        refine a_iadd F dX12_bookLine_107 rfl ic_1 (by omega) (fun v38 hv38 => ?_)
        refine lv_aload_n F.1 F.2.1 dX12_bookLine_108 rfl (lv_at hl 1 rfl) ?_
        refine a_geti F inX12 hP 85 18 tc_85 rfl rfl (by decide) q1489 (fun _ h9 => h9) (v := (u35.1 85 18)) (rfl) dX12_bookLine_109 ?_
        refine a_iast F hP hD hS 89 tc_89 rfl (i_in rfl (by omega)) dX12_bookLine_112 (fun H locs hP hD hS => ?_)
        have hR := hR.si (c := 89) (k := v38.toNatClampNeg) (v := (u35.1 85 18)) ⟨i_lo _, i_hi _⟩
        have hF := hF.si (c := 89) (k := v38.toNatClampNeg) (v := (u35.1 85 18)) rfl
        have hO_BLI := hK_BLI
        have hN_BLP := bx_p hD (t := (u0.1 85 35)) (hF35 85 35 rfl) (by omega) (by omega) (by omega)
        have hK_BLI := bx_w hO_BLI (t := (u0.1 85 35)) (hF35 85 35 rfl) (i := v38) (v := (u35.1 85 18)) (by omega) (by omega)
        have hK_BLP := hN_BLP
        refine lv_aload_n F.1 F.2.1 dX12_bookLine_113 rfl (lv_at hl 1 rfl) ?_
        refine a_Vv F hml hl.1 hA hP hD hS (As := []) (c_X12_next_85 l dC dI ad cA nF _  hR) (cs_RX12_184 (d := 2) F.2.2.1 (by decide)) tc_85 rfl rfl rfl rfl (Nat.le_of_ble_eq_true rfl) dX12_bookLine_114 ⟨Nat.le_refl 0, Nat.le_refl 0⟩ (fun u39 H locs hq hP hD hS => ?_)
        obtain ⟨hR, hF39⟩ := hq
        have hF := hF.tr hF39 (by decide)
        have hK_BLI := sp_fr sp_BLI hF39 (by decide) hK_BLI
        have hK_BLP := sp_fr sp_BLP hF39 (by decide) hK_BLP
        refine lv_aload_n F.1 F.2.1 dX12_bookLine_117 rfl (lv_at hl 1 rfl) ?_
        refine lv_ldc2 (v := (1735353715 : Int64)) F.1 F.2.1 F.2.2.2.1 (F.2.2.1 _ q1454) dX12_bookLine_118 ?_
        refine a_Vi F hml hl.1 hA hP hD hS (As := [.long (1735353715 : Int64)]) (c_X12_isWord_85 l dC dI ad cA nF _ (1735353715 : Int64) hR) (cs_RX12_206 (d := 1) F.2.2.1 (by decide)) tc_85 rfl rfl rfl rfl (Nat.le_of_ble_eq_true rfl) dX12_bookLine_121 ⟨Nat.le_refl 0, Nat.le_refl 0⟩ (fun r40 uN40 H locs hq hP hD hS => ?_)
        obtain ⟨hu40, gr40⟩ := hq
        rw [hu40] at hP hD
        refine z_eq F 131 dX12_bookLine_124 (by decide) rfl (fun c41 => ?_) (fun c41 => ?_)
        · refine lv_aload_n F.1 F.2.1 dX12_bookLine_131 rfl (lv_at hl 1 rfl) ?_
          refine lv_ldc2 (v := (1685022067 : Int64)) F.1 F.2.1 F.2.2.2.1 (F.2.2.1 _ q1455) dX12_bookLine_132 ?_
          refine a_Vi F hml hl.1 hA hP hD hS (As := [.long (1685022067 : Int64)]) (c_X12_isWord_85 l dC dI ad cA nF _ (1685022067 : Int64) hR) (cs_RX12_206 (d := 1) F.2.2.1 (by decide)) tc_85 rfl rfl rfl rfl (Nat.le_of_ble_eq_true rfl) dX12_bookLine_135 ⟨Nat.le_refl 0, Nat.le_refl 0⟩ (fun r42 uN42 H locs hq hP hD hS => ?_)
          obtain ⟨hu42, gr42⟩ := hq
          rw [hu42] at hP hD
          refine z_eq F 145 dX12_bookLine_138 (by decide) rfl (fun c43 => ?_) (fun c43 => ?_)
          · refine lv_aload_n F.1 F.2.1 dX12_bookLine_145 rfl (lv_at hl 1 rfl) ?_
            refine lv_ldc2 (v := (1935767923 : Int64)) F.1 F.2.1 F.2.2.2.1 (F.2.2.1 _ q1456) dX12_bookLine_146 ?_
            refine a_Vi F hml hl.1 hA hP hD hS (As := [.long (1935767923 : Int64)]) (c_X12_isWord_85 l dC dI ad cA nF _ (1935767923 : Int64) hR) (cs_RX12_206 (d := 1) F.2.2.1 (by decide)) tc_85 rfl rfl rfl rfl (Nat.le_of_ble_eq_true rfl) dX12_bookLine_149 ⟨Nat.le_refl 0, Nat.le_refl 0⟩ (fun r44 uN44 H locs hq hP hD hS => ?_)
            obtain ⟨hu44, gr44⟩ := hq
            rw [hu44] at hP hD
            refine z_eq F 159 dX12_bookLine_152 (by decide) rfl (fun c45 => ?_) (fun c45 => ?_)
            · refine a_ic F (-1 : Int32) dX12_bookLine_159 (by decide) ?_
              exact L160 v31 (-1 : Int32) _ _ _ _ hR hF hK_BLI hK_BLP (by omega) (by decide) (i_trB (hF39 85 18 rfl) (by omega : (0 : Int) ≤ (u35.1 85 18).toInt ∧ (u35.1 85 18).toInt ≤ 3)) (i_trB ((hF39 85 35 rfl).trans (hF35 85 35 rfl)) (by omega : (0 : Int) ≤ (u0.1 85 35).toInt ∧ (u0.1 85 35).toInt ≤ 39)) (by rw [(hF39 85 35 rfl).trans (hF35 85 35 rfl)]; exact (by omega : v31.toInt = 3 * (u0.1 85 35).toInt)) hP hD hS (lv_sub hl [1, 0] rfl)
            · refine a_ic F (2 : Int32) dX12_bookLine_155 (by decide) ?_
              refine lv_goto (tgt := 160) F.1 F.2.1 dX12_bookLine_156 (by decide) ?_
              exact L160 v31 (2 : Int32) _ _ _ _ hR hF hK_BLI hK_BLP (by omega) (by decide) (i_trB (hF39 85 18 rfl) (by omega : (0 : Int) ≤ (u35.1 85 18).toInt ∧ (u35.1 85 18).toInt ≤ 3)) (i_trB ((hF39 85 35 rfl).trans (hF35 85 35 rfl)) (by omega : (0 : Int) ≤ (u0.1 85 35).toInt ∧ (u0.1 85 35).toInt ≤ 39)) (by rw [(hF39 85 35 rfl).trans (hF35 85 35 rfl)]; exact (by omega : v31.toInt = 3 * (u0.1 85 35).toInt)) hP hD hS (lv_sub hl [1, 0] rfl)
          · refine a_ic F (1 : Int32) dX12_bookLine_141 (by decide) ?_
            refine lv_goto (tgt := 160) F.1 F.2.1 dX12_bookLine_142 (by decide) ?_
            exact L160 v31 (1 : Int32) _ _ _ _ hR hF hK_BLI hK_BLP (by omega) (by decide) (i_trB (hF39 85 18 rfl) (by omega : (0 : Int) ≤ (u35.1 85 18).toInt ∧ (u35.1 85 18).toInt ≤ 3)) (i_trB ((hF39 85 35 rfl).trans (hF35 85 35 rfl)) (by omega : (0 : Int) ≤ (u0.1 85 35).toInt ∧ (u0.1 85 35).toInt ≤ 39)) (by rw [(hF39 85 35 rfl).trans (hF35 85 35 rfl)]; exact (by omega : v31.toInt = 3 * (u0.1 85 35).toInt)) hP hD hS (lv_sub hl [1, 0] rfl)
        · refine a_ic F (0 : Int32) dX12_bookLine_127 (by decide) ?_
          refine lv_goto (tgt := 160) F.1 F.2.1 dX12_bookLine_128 (by decide) ?_
          exact L160 v31 (0 : Int32) _ _ _ _ hR hF hK_BLI hK_BLP (by omega) (by decide) (i_trB (hF39 85 18 rfl) (by omega : (0 : Int) ≤ (u35.1 85 18).toInt ∧ (u35.1 85 18).toInt ≤ 3)) (i_trB ((hF39 85 35 rfl).trans (hF35 85 35 rfl)) (by omega : (0 : Int) ≤ (u0.1 85 35).toInt ∧ (u0.1 85 35).toInt ≤ 39)) (by rw [(hF39 85 35 rfl).trans (hF35 85 35 rfl)]; exact (by omega : v31.toInt = 3 * (u0.1 85 35).toInt)) hP hD hS (lv_sub hl [1, 0] rfl)
      · refine lv_aload_n F.1 F.2.1 dX12_bookLine_95 rfl (lv_at hl 1 rfl) ?_
        refine a_ic F (4 : Int32) dX12_bookLine_96 (by decide) ?_
        refine a_Vi F hml hl.1 hA hP hD hS (As := [.int (4 : Int32)]) (c_X12_bad_85 l dC dI ad cA nF _ (4 : Int32) hR (by decide)) (cs_RX12_181 (d := 1) F.2.2.1 (by decide)) tc_85 rfl rfl rfl rfl (Nat.le_of_ble_eq_true rfl) dX12_bookLine_97 ⟨Nat.le_refl 0, Nat.le_refl 0⟩ (fun r46 u46 H locs hq hP hD hS => ?_)
        obtain ⟨hR, hF46, gr46⟩ := hq
        have hF := hF.tr hF46 (by decide)
        have hK_BLI := sp_fr sp_BLI hF46 (by decide) hK_BLI
        have k47 : (u46.1 85 35).toInt = (u0.1 85 35).toInt := congrArg Int32.toInt (show u46.1 85 35 = (u0.1 85 35) from (hF46 85 35 rfl).trans (hF35 85 35 rfl))
        exact a_retz F hr hlocks hP hD hS dX12_bookLine_100 (i_01 (by omega)) ⟨hR, hF, (by omega : (0 : Int) ≤ r46.toInt ∧ r46.toInt ≤ 1), (by omega : r46.toInt ≠ 0 → (u46.1 85 35).toInt ≤ 39), (fun h9 => absurd (by omega : r46.toInt = 0) h9)⟩
    · refine a_ic F (0 : Int32) dX12_bookLine_84 (by decide) ?_
      have k48 : (u35.1 85 35).toInt = (u0.1 85 35).toInt := congrArg Int32.toInt (show u35.1 85 35 = (u0.1 85 35) from hF35 85 35 rfl)
      exact a_retz F hr hlocks hP hD hS dX12_bookLine_85 (Or.inl rfl) ⟨hR, hF, (by decide), (by first | exact (by omega : (0 : Int) ≠ 0 → (u35.1 85 35).toInt ≤ 39) | (rw [ic_0]; exact (by omega : (0 : Int) ≠ 0 → (u35.1 85 35).toInt ≤ 39))), (fun h9 => absurd (by decide) h9)⟩
  · refine lv_aload_n F.1 F.2.1 dX12_bookLine_17 rfl (lv_at hl 1 rfl) ?_
    refine a_geti F inX12 hP 85 35 tc_85 rfl rfl (by decide) q1506 (fun _ h9 => h9) (v := (u0.1 85 35)) (rfl) dX12_bookLine_18 ?_
    refine a_bp F (40 : Int32) dX12_bookLine_21 (by decide) ?_
    refine b_ne F 32 dX12_bookLine_23 (by decide) rfl ic_40 (fun c49 => ?_) (fun c49 => ?_)
    · refine lv_aload_n F.1 F.2.1 dX12_bookLine_32 rfl (lv_at hl 1 rfl) ?_
      refine a_Vv F hml hl.1 hA hP hD hS (As := []) (c_X12_next_85 l dC dI ad cA nF _  hR) (cs_RX12_184 (d := 2) F.2.2.1 (by decide)) tc_85 rfl rfl rfl rfl (Nat.le_of_ble_eq_true rfl) dX12_bookLine_33 ⟨Nat.le_refl 0, Nat.le_refl 0⟩ (fun u50 H locs hq hP hD hS => ?_)
      obtain ⟨hR, hF50⟩ := hq
      have hF := hF.tr hF50 (by decide)
      have hK_BLI := sp_fr sp_BLI hF50 (by decide) hK_BLI
      refine lv_aload_n F.1 F.2.1 dX12_bookLine_36 rfl (lv_at hl 1 rfl) ?_
      refine a_ic F (1 : Int32) dX12_bookLine_37 (by decide) ?_
      refine a_bp F (99 : Int32) dX12_bookLine_38 (by decide) ?_
      refine a_Vi F hml hl.1 hA hP hD hS (As := [.int (1 : Int32), .int (99 : Int32)]) (c_X12_takes_85 l dC dI ad cA nF _ (1 : Int32) (99 : Int32) hR (by decide)) (cs_RX12_214 (d := 3) F.2.2.1 (by decide)) tc_85 rfl rfl rfl rfl (Nat.le_of_ble_eq_true rfl) dX12_bookLine_40 ⟨Nat.le_refl 0, Nat.le_refl 0⟩ (fun r51 u51 H locs hq hP hD hS => ?_)
      obtain ⟨hR, hF51, gr51, xr51⟩ := hq
      have hF := hF.tr hF51 (by decide)
      have hK_BLI := sp_fr sp_BLI hF51 (by decide) hK_BLI
      have xr51 : r51.toInt ≠ 0 → (1 : Int) ≤ (u51.1 85 18).toInt ∧ (u51.1 85 18).toInt ≤ (99 : Int) := xr51
      refine z_ne F 48 dX12_bookLine_43 (by decide) rfl (fun c52 => ?_) (fun c52 => ?_)
      · refine lv_aload_n F.1 F.2.1 dX12_bookLine_48 rfl (lv_at hl 1 rfl) ?_
        refine a_getr F inX12 hP 85 8 tc_85 rfl rfl (by decide) q1479 (fun _ h9 => h9) dX12_bookLine_49 ?_
        refine lv_iload_n F.1 F.2.1 dX12_bookLine_52 rfl (lv_at hl 0 rfl) ?_
        refine a_ic F (3 : Int32) dX12_bookLine_53 (by decide) ?_
        refine a_iast F hP hD hS 89 tc_89 rfl (i_in rfl (by omega)) dX12_bookLine_54 (fun H locs hP hD hS => ?_)
        have hR := hR.si (c := 89) (k := v31.toNatClampNeg) (v := (3 : Int32)) ⟨i_lo _, i_hi _⟩
        have hF := hF.si (c := 89) (k := v31.toNatClampNeg) (v := (3 : Int32)) rfl
        have hO_BLI := hK_BLI
        have hN_BLA := bx_a hD (t := (u0.1 85 35)) ((hF51 85 35 rfl).trans (hF50 85 35 rfl)) (by omega) (by omega) (by decide)
        have hK_BLI := bx_w hO_BLI (t := (u0.1 85 35)) ((hF51 85 35 rfl).trans (hF50 85 35 rfl)) (i := v31) (v := (3 : Int32)) (by omega) (by omega)
        have hK_BLA := hN_BLA
        refine lv_aload_n F.1 F.2.1 dX12_bookLine_55 rfl (lv_at hl 1 rfl) ?_
        refine a_getr F inX12 hP 85 8 tc_85 rfl rfl (by decide) q1479 (fun _ h9 => h9) dX12_bookLine_56 ?_
        refine lv_iload_n F.1 F.2.1 dX12_bookLine_59 rfl (lv_at hl 0 rfl) ?_
        refine a_ic F (1 : Int32) dX12_bookLine_60 (by decide) ?_
        refine a_iadd F dX12_bookLine_61 rfl ic_1 (by omega) (fun v53 hv53 => ?_)
        refine lv_aload_n F.1 F.2.1 dX12_bookLine_62 rfl (lv_at hl 1 rfl) ?_
        refine a_geti F inX12 hP 85 18 tc_85 rfl rfl (by decide) q1489 (fun _ h9 => h9) (v := (u51.1 85 18)) (rfl) dX12_bookLine_63 ?_
        refine a_iast F hP hD hS 89 tc_89 rfl (i_in rfl (by omega)) dX12_bookLine_66 (fun H locs hP hD hS => ?_)
        have hR := hR.si (c := 89) (k := v53.toNatClampNeg) (v := (u51.1 85 18)) ⟨i_lo _, i_hi _⟩
        have hF := hF.si (c := 89) (k := v53.toNatClampNeg) (v := (u51.1 85 18)) rfl
        have hO_BLI := hK_BLI
        have hO_BLA := hK_BLA
        have hN_BLJ := bx_j1 hO_BLI hO_BLA (t := (u0.1 85 35)) ((hF51 85 35 rfl).trans (hF50 85 35 rfl)) (i := v53) (v := (u51.1 85 18)) (by omega) (by omega) (by omega)
        have hK_BLI := bx_w hO_BLI (t := (u0.1 85 35)) ((hF51 85 35 rfl).trans (hF50 85 35 rfl)) (i := v53) (v := (u51.1 85 18)) (by omega) (by omega)
        have hK_BLJ := hN_BLJ
        refine a_ic F (1 : Int32) dX12_bookLine_67 (by decide) ?_
        have k54 : (u51.1 85 35).toInt = (u0.1 85 35).toInt := congrArg Int32.toInt (show u51.1 85 35 = (u0.1 85 35) from (hF51 85 35 rfl).trans (hF50 85 35 rfl))
        exact a_retz F hr hlocks hP hD hS dX12_bookLine_68 (Or.inr rfl) ⟨hR, hF, (by decide), (by first | exact (by omega : (1 : Int) ≠ 0 → (u51.1 85 35).toInt ≤ 39) | (rw [ic_1]; exact (by omega : (1 : Int) ≠ 0 → (u51.1 85 35).toInt ≤ 39))), (fun _ => hK_BLJ)⟩
      · refine a_ic F (0 : Int32) dX12_bookLine_46 (by decide) ?_
        have k55 : (u51.1 85 35).toInt = (u0.1 85 35).toInt := congrArg Int32.toInt (show u51.1 85 35 = (u0.1 85 35) from (hF51 85 35 rfl).trans (hF50 85 35 rfl))
        exact a_retz F hr hlocks hP hD hS dX12_bookLine_47 (Or.inl rfl) ⟨hR, hF, (by decide), (by first | exact (by omega : (0 : Int) ≠ 0 → (u51.1 85 35).toInt ≤ 39) | (rw [ic_0]; exact (by omega : (0 : Int) ≠ 0 → (u51.1 85 35).toInt ≤ 39))), (fun h9 => absurd (by decide) h9)⟩
    · refine lv_aload_n F.1 F.2.1 dX12_bookLine_26 rfl (lv_at hl 1 rfl) ?_
      refine a_ic F (4 : Int32) dX12_bookLine_27 (by decide) ?_
      refine a_Vi F hml hl.1 hA hP hD hS (As := [.int (4 : Int32)]) (c_X12_bad_85 l dC dI ad cA nF _ (4 : Int32) hR (by decide)) (cs_RX12_181 (d := 1) F.2.2.1 (by decide)) tc_85 rfl rfl rfl rfl (Nat.le_of_ble_eq_true rfl) dX12_bookLine_28 ⟨Nat.le_refl 0, Nat.le_refl 0⟩ (fun r56 u56 H locs hq hP hD hS => ?_)
      obtain ⟨hR, hF56, gr56⟩ := hq
      have hF := hF.tr hF56 (by decide)
      have hK_BLI := sp_fr sp_BLI hF56 (by decide) hK_BLI
      have k57 : (u56.1 85 35).toInt = (u0.1 85 35).toInt := congrArg Int32.toInt (show u56.1 85 35 = (u0.1 85 35) from hF56 85 35 rfl)
      exact a_retz F hr hlocks hP hD hS dX12_bookLine_31 (i_01 (by omega)) ⟨hR, hF, (by omega : (0 : Int) ≤ r56.toInt ∧ r56.toInt ≤ 1), (by omega : r56.toInt ≠ 0 → (u56.1 85 35).toInt ≤ 39), (fun h9 => absurd (by omega : r56.toInt = 0) h9)⟩
set_option maxHeartbeats 600000 in
set_option maxRecDepth 100000 in
theorem c_X12_goes_85__2 (l : Launch) (dC : Nat → ClassId) (dI : Nat → Nat → Nat) (ad : Nat → Nat) (cA : Nat → ClassId) (nF : Nat) (u0 : ac_U) (p0 : Int32) (p1 : Int32) (hR : ac_R rg u0) (hp0 : (0 : Int) ≤ p0.toInt ∧ p0.toInt ≤ 3) (hp1 : (0 : Int) ≤ p1.toInt ∧ p1.toInt ≤ 7) : ac_Mv l yX12_goes (.code yX12_goes cX12_goes 3 none :: TB) 1 (dC, dI) vwCl (ac_ty cA) ad cA (TT nF) [.ref (ad 85), .int p0, .int p1] u0 (fun (u : ac_U) => ac_R rg u ∧ ac_Fr [(87, none)] u0 u ∧ ((u.1 87 106).toInt = (u0.1 87 106).toInt ∧ (u.1 87 0).toInt = (u0.1 87 0).toInt) ∧ (msI u0 → msI u) ∧ (cdI u0 → cdI u) ∧ (unI u0 → unI u) ∧ (bfI u0 → bfI u)) := by
  refine ac_Mv.of (cc := cX12_goes) (maxL := 3) (ret := none) (by decide) rfl (Nat.le_of_ble_eq_true rfl) ?_
  intro p e s m below meth c A ls F hml hr hlocks hA hP hD hS hl
  have F : ac_X p s m [.ref (ad 85), .int p0, .int p1].toArray c cX12_goes RX12 TB (dC, dI) vwCl (ac_ty cA) := ⟨F.1, F.2.1, fun w h => F.2.2.1 w (List.mem_cons_of_mem _ h), F.2.2.2.1, F.2.2.2.2⟩
  have hl : lv_has ls 3 [(0, .ref (ad 85)), (1, .int p0), (2, .int p1)] := hl
  have hF : ac_Fr [(87, none)] u0 u0 := ac_Fr.rf
  have hK_i_MS : (fun u => msI u0 → msI u) u0 := fun h => h
  have hK_i_CW : (fun u => cdI u0 → cdI u) u0 := fun h => h
  have hK_i_UI : (fun u => unI u0 → unI u) u0 := fun h => h
  have hK_i_BI : (fun u => bfI u0 → bfI u) u0 := fun h => h
  refine lv_aload_n F.1 F.2.1 dX12_goes_0 rfl (lv_at hl 0 rfl) ?_
  refine a_getr F inX12 hP 85 6 tc_85 rfl rfl (by decide) q1477 (fun _ h9 => h9) dX12_goes_1 ?_
  refine a_bp F (107 : Int32) dX12_goes_4 (by decide) ?_
  refine lv_iload_n F.1 F.2.1 dX12_goes_6 rfl (lv_at hl 1 rfl) ?_
  refine a_iadd F dX12_goes_7 ic_107 rfl (by omega) (fun v1 hv1 => ?_)
  refine lv_iload_n F.1 F.2.1 dX12_goes_8 rfl (lv_at hl 2 rfl) ?_
  have g2 : (4 : Int) ≤ (u0.1 87 0).toInt ∧ (u0.1 87 0).toInt ≤ 24 := hR 87 0
  have g3 : (0 : Int) ≤ (u0.1 87 106).toInt ∧ (u0.1 87 106).toInt ≤ 480 := hR 87 106
  refine a_iast F hP hD hS 87 tc_87 rfl (i_in rfl (by omega)) dX12_goes_9 (fun H locs hP hD hS => ?_)
  have hR := hR.si (c := 87) (k := v1.toNatClampNeg) (v := p1) (rs_87_107_110 (by omega) (by omega : (0 : Int) ≤ p1.toInt ∧ p1.toInt ≤ 7))
  have hF := hF.si (c := 87) (k := v1.toNatClampNeg) (v := p1) rfl
  have hK_i_MS := sp_si (sp_imp sp_MS) hK_i_MS (c := 87) (k := v1.toNatClampNeg) (v := p1) (fun j9 h9 => by have q8 := sp_mem h9; simp at q8; have q9 := i_cl (x := v1) (by omega); omega)
  have hK_i_CW := sp_si (sp_imp sp_CW) hK_i_CW (c := 87) (k := v1.toNatClampNeg) (v := p1) (fun j9 h9 => by have q8 := sp_mem h9; simp at q8; have q9 := i_cl (x := v1) (by omega); omega)
  have hK_i_UI := sp_si (sp_imp sp_UI) hK_i_UI (c := 87) (k := v1.toNatClampNeg) (v := p1) (fun j9 h9 => by have q8 := sp_mem h9; simp at q8; have q9 := i_cl (x := v1) (by omega); omega)
  have hK_i_BI := sp_si (sp_imp sp_BI) hK_i_BI (c := 87) (k := v1.toNatClampNeg) (v := p1) (fun j9 h9 => by have q8 := sp_mem h9; simp at q8; have q9 := i_cl (x := v1) (by omega); omega)
  refine lv_aload_n F.1 F.2.1 dX12_goes_10 rfl (lv_at hl 0 rfl) ?_
  refine a_getr F inX12 hP 85 6 tc_85 rfl rfl (by decide) q1477 (fun _ h9 => h9) dX12_goes_11 ?_
  refine a_bp F (111 : Int32) dX12_goes_14 (by decide) ?_
  refine lv_iload_n F.1 F.2.1 dX12_goes_16 rfl (lv_at hl 1 rfl) ?_
  refine a_iadd F dX12_goes_17 ic_111 rfl (by omega) (fun v4 hv4 => ?_)
  refine a_ic F (1 : Int32) dX12_goes_18 (by decide) ?_
  refine a_iast F hP hD hS 87 tc_87 rfl (i_in rfl (by omega)) dX12_goes_19 (fun H locs hP hD hS => ?_)
  have hR := hR.si (c := 87) (k := v4.toNatClampNeg) (v := (1 : Int32)) (rs_87_111_114 (by omega) ⟨i_lo _, i_hi _⟩)
  have hF := hF.si (c := 87) (k := v4.toNatClampNeg) (v := (1 : Int32)) rfl
  have hK_i_MS := sp_si (sp_imp sp_MS) hK_i_MS (c := 87) (k := v4.toNatClampNeg) (v := (1 : Int32)) (fun j9 h9 => by have q8 := sp_mem h9; simp at q8; have q9 := i_cl (x := v4) (by omega); omega)
  have hK_i_CW := sp_si (sp_imp sp_CW) hK_i_CW (c := 87) (k := v4.toNatClampNeg) (v := (1 : Int32)) (fun j9 h9 => by have q8 := sp_mem h9; simp at q8; have q9 := i_cl (x := v4) (by omega); omega)
  have hK_i_UI := sp_si (sp_imp sp_UI) hK_i_UI (c := 87) (k := v4.toNatClampNeg) (v := (1 : Int32)) (fun j9 h9 => by have q8 := sp_mem h9; simp at q8; have q9 := i_cl (x := v4) (by omega); omega)
  have hK_i_BI := sp_si (sp_imp sp_BI) hK_i_BI (c := 87) (k := v4.toNatClampNeg) (v := (1 : Int32)) (fun j9 h9 => by have q8 := sp_mem h9; simp at q8; have q9 := i_cl (x := v4) (by omega); omega)
  refine lv_aload_n F.1 F.2.1 dX12_goes_20 rfl (lv_at hl 0 rfl) ?_
  refine a_getr F inX12 hP 85 6 tc_85 rfl rfl (by decide) q1477 (fun _ h9 => h9) dX12_goes_21 ?_
  refine a_bp F (119 : Int32) dX12_goes_24 (by decide) ?_
  refine lv_iload_n F.1 F.2.1 dX12_goes_26 rfl (lv_at hl 1 rfl) ?_
  refine a_iadd F dX12_goes_27 ic_119 rfl (by omega) (fun v5 hv5 => ?_)
  refine lv_dup2_11 F.1 F.2.1 dX12_goes_28 rfl rfl ?_
  refine a_iald F hP 87 tc_87 rfl (i_in rfl (by omega)) dX12_goes_29 (fun v6 ev6 => ?_)
  refine a_ic F (1 : Int32) dX12_goes_30 (by decide) ?_
  refine a_iaddU F dX12_goes_31 (fun v7 => ?_)
  refine a_iast F hP hD hS 87 tc_87 rfl (i_in rfl (by omega)) dX12_goes_32 (fun H locs hP hD hS => ?_)
  have hR := hR.si (c := 87) (k := v5.toNatClampNeg) (v := v7) (rs_87_119_122 (by omega) ⟨i_lo _, i_hi _⟩)
  have hF := hF.si (c := 87) (k := v5.toNatClampNeg) (v := v7) rfl
  have hK_i_MS := sp_si (sp_imp sp_MS) hK_i_MS (c := 87) (k := v5.toNatClampNeg) (v := v7) (fun j9 h9 => by have q8 := sp_mem h9; simp at q8; have q9 := i_cl (x := v5) (by omega); omega)
  have hK_i_CW := sp_si (sp_imp sp_CW) hK_i_CW (c := 87) (k := v5.toNatClampNeg) (v := v7) (fun j9 h9 => by have q8 := sp_mem h9; simp at q8; have q9 := i_cl (x := v5) (by omega); omega)
  have hK_i_UI := sp_si (sp_imp sp_UI) hK_i_UI (c := 87) (k := v5.toNatClampNeg) (v := v7) (fun j9 h9 => by have q8 := sp_mem h9; simp at q8; have q9 := i_cl (x := v5) (by omega); omega)
  have hK_i_BI := sp_si (sp_imp sp_BI) hK_i_BI (c := 87) (k := v5.toNatClampNeg) (v := v7) (fun j9 h9 => by have q8 := sp_mem h9; simp at q8; have q9 := i_cl (x := v5) (by omega); omega)
  exact a_retv F hr hlocks hP hD hS dX12_goes_33 ⟨hR, hF, ⟨congrArg Int32.toInt ((ac_ne (c := 87) (k := 106) (i := v5) (by have q9 := i_cl (x := v5) (by omega); omega)).trans ((ac_ne (c := 87) (k := 106) (i := v4) (by have q9 := i_cl (x := v4) (by omega); omega)).trans (ac_ne (c := 87) (k := 106) (i := v1) (by have q9 := i_cl (x := v1) (by omega); omega)))), congrArg Int32.toInt ((ac_ne (c := 87) (k := 0) (i := v5) (by have q9 := i_cl (x := v5) (by omega); omega)).trans ((ac_ne (c := 87) (k := 0) (i := v4) (by have q9 := i_cl (x := v4) (by omega); omega)).trans (ac_ne (c := 87) (k := 0) (i := v1) (by have q9 := i_cl (x := v1) (by omega); omega))))⟩, hK_i_MS, hK_i_CW, hK_i_UI, hK_i_BI⟩
set_option maxHeartbeats 600000 in
set_option maxRecDepth 100000 in
theorem c_X12_hour_85__2 (l : Launch) (dC : Nat → ClassId) (dI : Nat → Nat → Nat) (ad : Nat → Nat) (cA : Nat → ClassId) (nF : Nat) (u0 : ac_U)  (hR : ac_R rg u0) (hf_87_106 : (0 : Int) ≤ (u0.1 87 106).toInt ∧ (u0.1 87 106).toInt ≤ 479) (hr0 : (u0.1 87 106).toInt < 20 * (u0.1 87 0).toInt) (hK_MS : msI u0) : ac_Mv l yX12_hour (.code yX12_hour cX12_hour 2 none :: TB) 1 (dC, dI) vwCl (ac_ty cA) ad cA (TT nF) [.ref (ad 85)] u0 (fun (u : ac_U) => ac_R rg u ∧ ac_Fr [(87, none)] u0 u ∧ ((u.1 87 106).toInt = (u0.1 87 106).toInt + 1 ∧ (u.1 87 0).toInt = (u0.1 87 0).toInt) ∧ msI u ∧ (cdI u0 → cdI u) ∧ (unI u0 → unI u) ∧ (bfI u0 → bfI u)) := by
  refine ac_Mv.of (cc := cX12_hour) (maxL := 2) (ret := none) (by decide) rfl (Nat.le_of_ble_eq_true rfl) ?_
  intro p e s m below meth c A ls F hml hr hlocks hA hP hD hS hl
  have F : ac_X p s m [.ref (ad 85)].toArray c cX12_hour RX12 TB (dC, dI) vwCl (ac_ty cA) := ⟨F.1, F.2.1, fun w h => F.2.2.1 w (List.mem_cons_of_mem _ h), F.2.2.2.1, F.2.2.2.2⟩
  have hl : lv_has ls 2 [(0, .ref (ad 85))] := hl
  have hF : ac_Fr [(87, none)] u0 u0 := ac_Fr.rf
  have hK_i_CW : (fun u => cdI u0 → cdI u) u0 := fun h => h
  have hK_i_UI : (fun u => unI u0 → unI u) u0 := fun h => h
  have hK_i_BI : (fun u => bfI u0 → bfI u) u0 := fun h => h
  have L13 : ∀ (n13 : Nat) (x1 : Int32) (u : ac_U) (H : Heap) (locs : List Loc) (ls : Array Slot), ac_R rg u → ac_Fr [(87, none)] u0 u → 4 - x1.toInt < (n13 : Int) → msI u → (fun u => cdI u0 → cdI u) u → (fun u => unI u0 → unI u) u → (fun u => bfI u0 → bfI u) u → (0 : Int) ≤ x1.toInt ∧ x1.toInt ≤ 4 → (1 : Int) ≤ (u.1 87 106).toInt ∧ (u.1 87 106).toInt ≤ 480 → (u.1 87 106).toInt = (u0.1 87 106).toInt + 1 → (u.1 87 0).toInt = (u0.1 87 0).toInt → va_P (dC, dI) vwCl (ac_w ad cA (TT nF) u) H → va_D A (ac_w ad cA (TT nF) u) → va_S A s.heap H locs → lv_has ls 2 [(0, .ref (ad 85)), (1, .int x1)] → W p l e (ac_rm 1) s m [.ref (ad 85)].toArray below meth c H locs 0 0 (MQ below (va_Qv (fun (u : ac_U) => ac_R rg u ∧ ac_Fr [(87, none)] u0 u ∧ ((u.1 87 106).toInt = (u0.1 87 106).toInt + 1 ∧ (u.1 87 0).toInt = (u0.1 87 0).toInt) ∧ msI u ∧ (cdI u0 → cdI u) ∧ (unI u0 → unI u) ∧ (bfI u0 → bfI u)) (ac_B (dC, dI) vwCl (ac_ty cA) ad cA (TT nF) A) A) [.ref (ad 85)].toArray s 0 0 A) (F0 m 13 ls []) := by
    intro n13
    induction n13 with
    | zero => intro x1 u H locs ls hR hF hn13 hK_MS hK_i_CW hK_i_UI hK_i_BI f0 f1 f2 f3 hP hD hS hl; exfalso; omega
    | succ n13 ih13 =>
      intro x1 u H locs ls hR hF hn13 hK_MS hK_i_CW hK_i_UI hK_i_BI f0 f1 f2 f3 hP hD hS hl
      refine lv_iload_n F.1 F.2.1 dX12_hour_13 rfl (lv_at hl 1 rfl) ?_
      refine a_ic F (4 : Int32) dX12_hour_14 (by decide) ?_
      refine b_ge F 34 dX12_hour_15 (by decide) rfl ic_4 (fun c1 => ?_) (fun c1 => ?_)
      · have g2 : (0 : Int) ≤ (u.1 87 106).toInt ∧ (u.1 87 106).toInt ≤ 480 := hR 87 106
        have g3 : (4 : Int) ≤ (u.1 87 0).toInt ∧ (u.1 87 0).toInt ≤ 24 := hR 87 0
        exact a_retv F hr hlocks hP hD hS dX12_hour_34 ⟨hR, hF, (by omega : (u.1 87 106).toInt = (u0.1 87 106).toInt + 1 ∧ (u.1 87 0).toInt = (u0.1 87 0).toInt), hK_MS, hK_i_CW, hK_i_UI, hK_i_BI⟩
      · refine lv_aload_n F.1 F.2.1 dX12_hour_18 rfl (lv_at hl 0 rfl) ?_
        refine a_getr F inX12 hP 85 6 tc_85 rfl rfl (by decide) q1477 (fun _ h9 => h9) dX12_hour_19 ?_
        refine a_bp F (111 : Int32) dX12_hour_22 (by decide) ?_
        refine lv_iload_n F.1 F.2.1 dX12_hour_24 rfl (lv_at hl 1 rfl) ?_
        refine a_iadd F dX12_hour_25 ic_111 rfl (by omega) (fun v4 hv4 => ?_)
        refine a_ic F (0 : Int32) dX12_hour_26 (by decide) ?_
        have g5 : (0 : Int) ≤ (u.1 87 106).toInt ∧ (u.1 87 106).toInt ≤ 480 := hR 87 106
        have g6 : (4 : Int) ≤ (u.1 87 0).toInt ∧ (u.1 87 0).toInt ≤ 24 := hR 87 0
        refine a_iast F hP hD hS 87 tc_87 rfl (i_in rfl (by omega)) dX12_hour_27 (fun H locs hP hD hS => ?_)
        have hR := hR.si (c := 87) (k := v4.toNatClampNeg) (v := (0 : Int32)) (rs_87_111_114 (by omega) ⟨i_lo _, i_hi _⟩)
        have hF := hF.si (c := 87) (k := v4.toNatClampNeg) (v := (0 : Int32)) rfl
        have hK_MS := sp_si sp_MS hK_MS (c := 87) (k := v4.toNatClampNeg) (v := (0 : Int32)) (fun j9 h9 => by have q8 := sp_mem h9; simp at q8; have q9 := i_cl (x := v4) (by omega); omega)
        have hK_i_CW := sp_si (sp_imp sp_CW) hK_i_CW (c := 87) (k := v4.toNatClampNeg) (v := (0 : Int32)) (fun j9 h9 => by have q8 := sp_mem h9; simp at q8; have q9 := i_cl (x := v4) (by omega); omega)
        have hK_i_UI := sp_si (sp_imp sp_UI) hK_i_UI (c := 87) (k := v4.toNatClampNeg) (v := (0 : Int32)) (fun j9 h9 => by have q8 := sp_mem h9; simp at q8; have q9 := i_cl (x := v4) (by omega); omega)
        have hK_i_BI := sp_si (sp_imp sp_BI) hK_i_BI (c := 87) (k := v4.toNatClampNeg) (v := (0 : Int32)) (fun j9 h9 => by have q8 := sp_mem h9; simp at q8; have q9 := i_cl (x := v4) (by omega); omega)
        refine a_iinc F (k := 1) (fun v7 => [(1, .int v7), (0, .ref (ad 85))]) dX12_hour_28 hl rfl rfl (by decide) (by omega) (by decide) (fun _ => rfl) (fun v7 ls hv7 hl => ?_)
        refine lv_goto (tgt := 13) F.1 F.2.1 dX12_hour_31 (by decide) ?_
        exact ih13 v7 _ _ _ _ hR hF (by omega) hK_MS hK_i_CW hK_i_UI hK_i_BI (by omega) (i_trB (ac_ne (c := 87) (k := 106) (i := v4) (by have q9 := i_cl (x := v4) (by omega); omega)) (by omega : (1 : Int) ≤ (u.1 87 106).toInt ∧ (u.1 87 106).toInt ≤ 480)) (by rw [ac_ne (c := 87) (k := 106) (i := v4) (by have q9 := i_cl (x := v4) (by omega); omega)]; exact (by omega : (u.1 87 106).toInt = (u0.1 87 106).toInt + 1)) (by rw [ac_ne (c := 87) (k := 0) (i := v4) (by have q9 := i_cl (x := v4) (by omega); omega)]; exact (by omega : (u.1 87 0).toInt = (u0.1 87 0).toInt)) hP hD hS (lv_sub hl [1, 0] rfl)
  refine lv_aload_n F.1 F.2.1 dX12_hour_0 rfl (lv_at hl 0 rfl) ?_
  refine a_getr F inX12 hP 85 6 tc_85 rfl rfl (by decide) q1477 (fun _ h9 => h9) dX12_hour_1 ?_
  refine a_bp F (106 : Int32) dX12_hour_4 (by decide) ?_
  refine lv_dup2_11 F.1 F.2.1 dX12_hour_6 rfl rfl ?_
  have g8 : (0 : Int) ≤ (u0.1 87 106).toInt ∧ (u0.1 87 106).toInt ≤ 480 := hR 87 106
  refine a_ialdK F hP 87 106 tc_87 rfl rfl (i_in ic_106 (by omega)) (v := (u0.1 87 106)) rfl dX12_hour_7 ?_
  refine a_ic F (1 : Int32) dX12_hour_8 (by decide) ?_
  refine a_iadd F dX12_hour_9 rfl ic_1 (by omega) (fun v9 hv9 => ?_)
  refine a_iastK F hP hD hS 87 106 tc_87 rfl rfl (i_in ic_106 (by omega)) dX12_hour_10 (fun H locs hP hD hS => ?_)
  have hR := hR.si (c := 87) (k := 106) (v := v9) (by omega : (0 : Int) ≤ v9.toInt ∧ v9.toInt ≤ 480)
  have hF := hF.si (c := 87) (k := 106) (v := v9) rfl
  have hO_MS := hK_MS
  have hO_i_CW := hK_i_CW
  have hO_i_UI := hK_i_UI
  have hO_i_BI := hK_i_BI
  have hK_MS := ms_t hO_MS (v := v9) (by omega)
  have hK_i_CW := sp_si (sp_imp sp_CW) hK_i_CW (c := 87) (k := 106) (v := v9) (fun j9 h9 q9 => by rw [q9] at h9; exact absurd h9 (by decide))
  have hK_i_UI := sp_si (sp_imp sp_UI) hK_i_UI (c := 87) (k := 106) (v := v9) (fun j9 h9 q9 => by rw [q9] at h9; exact absurd h9 (by decide))
  have hK_i_BI := sp_si (sp_imp sp_BI) hK_i_BI (c := 87) (k := 106) (v := v9) (fun j9 h9 q9 => by rw [q9] at h9; exact absurd h9 (by decide))
  refine a_ic F (0 : Int32) dX12_hour_11 (by decide) ?_
  refine lv_istore_n (lv' := [(1, .int (0 : Int32)), (0, .ref (ad 85))]) F.1 F.2.1 dX12_hour_12 rfl hl (by decide) rfl (fun ls hl => ?_)
  have g10 : (4 : Int) ≤ (u0.1 87 0).toInt ∧ (u0.1 87 0).toInt ≤ 24 := hR 87 0
  exact L13 6 (0 : Int32) _ _ _ _ hR hF (by decide) hK_MS hK_i_CW hK_i_UI hK_i_BI (by decide) (by omega : (1 : Int) ≤ v9.toInt ∧ v9.toInt ≤ 480) (by omega : v9.toInt = (u0.1 87 106).toInt + 1) (by omega : (u0.1 87 0).toInt = (u0.1 87 0).toInt) hP hD hS (lv_sub hl [1, 0] rfl)
set_option maxHeartbeats 600000 in
set_option maxRecDepth 100000 in
theorem c_X12_says_85__2 (l : Launch) (dC : Nat → ClassId) (dI : Nat → Nat → Nat) (ad : Nat → Nat) (cA : Nat → ClassId) (nF : Nat) (u0 : ac_U) (p0 : Int32) (p1 : Int32) (hR : ac_R rg u0) (hp0 : (0 : Int) ≤ p0.toInt ∧ p0.toInt ≤ 3) (hp1 : (0 : Int) ≤ p1.toInt ∧ p1.toInt ≤ 7) : ac_Mv l yX12_says (.code yX12_says cX12_says 4 none :: TB) 1 (dC, dI) vwCl (ac_ty cA) ad cA (TT nF) [.ref (ad 85), .int p0, .int p1] u0 (fun (u : ac_U) => ac_R rg u ∧ ac_Fr [(87, none)] u0 u ∧ ((u.1 87 106).toInt = (u0.1 87 106).toInt ∧ (u.1 87 0).toInt = (u0.1 87 0).toInt) ∧ (msI u0 → msI u) ∧ (cdI u0 → cdI u) ∧ (unI u0 → unI u) ∧ (bfI u0 → bfI u)) := by
  refine ac_Mv.of (cc := cX12_says) (maxL := 4) (ret := none) (by decide) rfl (Nat.le_of_ble_eq_true rfl) ?_
  intro p e s m below meth c A ls F hml hr hlocks hA hP hD hS hl
  have F : ac_X p s m [.ref (ad 85), .int p0, .int p1].toArray c cX12_says RX12 TB (dC, dI) vwCl (ac_ty cA) := ⟨F.1, F.2.1, fun w h => F.2.2.1 w (List.mem_cons_of_mem _ h), F.2.2.2.1, F.2.2.2.2⟩
  have hl : lv_has ls 4 [(0, .ref (ad 85)), (1, .int p0), (2, .int p1)] := hl
  have hF : ac_Fr [(87, none)] u0 u0 := ac_Fr.rf
  have hK_TM : (tmI u0) u0 := ⟨rfl, rfl⟩
  have hK_i_MS : (fun u => msI u0 → msI u) u0 := fun h => h
  have hK_i_CW : (fun u => cdI u0 → cdI u) u0 := fun h => h
  have hK_i_UI : (fun u => unI u0 → unI u) u0 := fun h => h
  have hK_i_BI : (fun u => bfI u0 → bfI u) u0 := fun h => h
  have L39 : ∀ (n39 : Nat) (x3 : Int32) (u : ac_U) (H : Heap) (locs : List Loc) (ls : Array Slot), ac_R rg u → ac_Fr [(87, none)] u0 u → 6 - x3.toInt < (n39 : Int) → (tmI u0) u → (fun u => msI u0 → msI u) u → (fun u => cdI u0 → cdI u) u → (fun u => unI u0 → unI u) u → (fun u => bfI u0 → bfI u) u → (0 : Int) ≤ x3.toInt ∧ x3.toInt ≤ 6 → va_P (dC, dI) vwCl (ac_w ad cA (TT nF) u) H → va_D A (ac_w ad cA (TT nF) u) → va_S A s.heap H locs → lv_has ls 4 [(0, .ref (ad 85)), (1, .int p0), (2, .int p1), (3, .int x3)] → W p l e (ac_rm 1) s m [.ref (ad 85), .int p0, .int p1].toArray below meth c H locs 0 0 (MQ below (va_Qv (fun (u : ac_U) => ac_R rg u ∧ ac_Fr [(87, none)] u0 u ∧ ((u.1 87 106).toInt = (u0.1 87 106).toInt ∧ (u.1 87 0).toInt = (u0.1 87 0).toInt) ∧ (msI u0 → msI u) ∧ (cdI u0 → cdI u) ∧ (unI u0 → unI u) ∧ (bfI u0 → bfI u)) (ac_B (dC, dI) vwCl (ac_ty cA) ad cA (TT nF) A) A) [.ref (ad 85), .int p0, .int p1].toArray s 0 0 A) (F0 m 39 ls []) := by
    intro n39
    induction n39 with
    | zero => intro x3 u H locs ls hR hF hn39 hK_TM hK_i_MS hK_i_CW hK_i_UI hK_i_BI f0 hP hD hS hl; exfalso; omega
    | succ n39 ih39 =>
      intro x3 u H locs ls hR hF hn39 hK_TM hK_i_MS hK_i_CW hK_i_UI hK_i_BI f0 hP hD hS hl
      have L81 : ∀ (x3 : Int32) (u : ac_U) (H : Heap) (locs : List Loc) (ls : Array Slot), ac_R rg u → ac_Fr [(87, none)] u0 u → (tmI u0) u → (fun u => msI u0 → msI u) u → (fun u => cdI u0 → cdI u) u → (fun u => unI u0 → unI u) u → (fun u => bfI u0 → bfI u) u → (0 : Int) ≤ x3.toInt ∧ x3.toInt ≤ 5 → (1 : Int) ≤ (u.1 87 3).toInt ∧ (u.1 87 3).toInt ≤ 6 → 6 - x3.toInt + 0 < ((n39 : Nat) : Int) + 1 → va_P (dC, dI) vwCl (ac_w ad cA (TT nF) u) H → va_D A (ac_w ad cA (TT nF) u) → va_S A s.heap H locs → lv_has ls 4 [(0, .ref (ad 85)), (1, .int p0), (2, .int p1), (3, .int x3)] → W p l e (ac_rm 1) s m [.ref (ad 85), .int p0, .int p1].toArray below meth c H locs 0 0 (MQ below (va_Qv (fun (u : ac_U) => ac_R rg u ∧ ac_Fr [(87, none)] u0 u ∧ ((u.1 87 106).toInt = (u0.1 87 106).toInt ∧ (u.1 87 0).toInt = (u0.1 87 0).toInt) ∧ (msI u0 → msI u) ∧ (cdI u0 → cdI u) ∧ (unI u0 → unI u) ∧ (bfI u0 → bfI u)) (ac_B (dC, dI) vwCl (ac_ty cA) ad cA (TT nF) A) A) [.ref (ad 85), .int p0, .int p1].toArray s 0 0 A) (F0 m 81 ls []) := by
        intro x3 u H locs ls hR hF hK_TM hK_i_MS hK_i_CW hK_i_UI hK_i_BI f0 f1 f2 hP hD hS hl
        refine a_iinc F (k := 3) (fun v1 => [(3, .int v1), (0, .ref (ad 85)), (1, .int p0), (2, .int p1)]) dX12_says_81 hl rfl rfl (by decide) (by omega) (by decide) (fun _ => rfl) (fun v1 ls hv1 hl => ?_)
        refine lv_goto (tgt := 39) F.1 F.2.1 dX12_says_84 (by decide) ?_
        exact ih39 v1 _ _ _ _ hR hF (by omega) hK_TM hK_i_MS hK_i_CW hK_i_UI hK_i_BI (by omega) hP hD hS (lv_sub hl [1, 2, 3, 0] rfl)
      refine lv_iload_n F.1 F.2.1 dX12_says_39 rfl (lv_at hl 3 rfl) ?_
      refine lv_aload_n F.1 F.2.1 dX12_says_40 rfl (lv_at hl 0 rfl) ?_
      refine a_getr F inX12 hP 85 6 tc_85 rfl rfl (by decide) q1477 (fun _ h9 => h9) dX12_says_41 ?_
      refine a_ic F (3 : Int32) dX12_says_44 (by decide) ?_
      have g2 : (0 : Int) ≤ (u.1 87 3).toInt ∧ (u.1 87 3).toInt ≤ 6 := hR 87 3
      refine a_ialdK F hP 87 3 tc_87 rfl rfl (i_in ic_3 (by omega)) (v := (u.1 87 3)) rfl dX12_says_45 ?_
      refine b_ge F 87 dX12_says_46 (by decide) rfl rfl (fun c3 => ?_) (fun c3 => ?_)
      · exact a_retv F hr hlocks hP hD hS dX12_says_87 ⟨hR, hF, ⟨congrArg Int32.toInt hK_TM.1, congrArg Int32.toInt hK_TM.2⟩, hK_i_MS, hK_i_CW, hK_i_UI, hK_i_BI⟩
      · refine lv_aload_n F.1 F.2.1 dX12_says_49 rfl (lv_at hl 0 rfl) ?_
        refine a_getr F inX12 hP 85 6 tc_85 rfl rfl (by decide) q1477 (fun _ h9 => h9) dX12_says_50 ?_
        refine a_bp F (16 : Int32) dX12_says_53 (by decide) ?_
        refine lv_iload_n F.1 F.2.1 dX12_says_55 rfl (lv_at hl 3 rfl) ?_
        refine a_iadd F dX12_says_56 ic_16 rfl (by omega) (fun v4 hv4 => ?_)
        refine a_iald F hP 87 tc_87 rfl (i_in rfl (by omega)) dX12_says_57 (fun v5 ev5 => ?_)
        have hv5 : (0 : Int) ≤ v5.toInt ∧ v5.toInt ≤ 7 := rg_seg_87_16_21 hR ev5 (by omega)
        refine lv_aload_n F.1 F.2.1 dX12_says_58 rfl (lv_at hl 0 rfl) ?_
        refine a_getr F inX12 hP 85 6 tc_85 rfl rfl (by decide) q1477 (fun _ h9 => h9) dX12_says_59 ?_
        refine a_bp F (107 : Int32) dX12_says_62 (by decide) ?_
        refine lv_iload_n F.1 F.2.1 dX12_says_64 rfl (lv_at hl 1 rfl) ?_
        refine a_iadd F dX12_says_65 ic_107 rfl (by omega) (fun v6 hv6 => ?_)
        refine a_iald F hP 87 tc_87 rfl (i_in rfl (by omega)) dX12_says_66 (fun v7 ev7 => ?_)
        have hv7 : (0 : Int) ≤ v7.toInt ∧ v7.toInt ≤ 7 := rg_seg_87_107_110 hR ev7 (by omega)
        refine b_ne F 81 dX12_says_67 (by decide) rfl rfl (fun c8 => ?_) (fun c8 => ?_)
        · exact L81 x3 _ _ _ _ hR hF hK_TM hK_i_MS hK_i_CW hK_i_UI hK_i_BI (by omega) (by omega : (1 : Int) ≤ (u.1 87 3).toInt ∧ (u.1 87 3).toInt ≤ 6) (by omega) hP hD hS (lv_sub hl [0, 1, 2, 3] rfl)
        · refine lv_aload_n F.1 F.2.1 dX12_says_70 rfl (lv_at hl 0 rfl) ?_
          refine a_getr F inX12 hP 85 6 tc_85 rfl rfl (by decide) q1477 (fun _ h9 => h9) dX12_says_71 ?_
          refine a_sp F (132 : Int32) dX12_says_74 (by decide) ?_
          refine lv_iload_n F.1 F.2.1 dX12_says_77 rfl (lv_at hl 2 rfl) ?_
          refine a_iadd F dX12_says_78 ic_132 rfl (by omega) (fun v9 hv9 => ?_)
          refine a_ic F (1 : Int32) dX12_says_79 (by decide) ?_
          refine a_iast F hP hD hS 87 tc_87 rfl (i_in rfl (by omega)) dX12_says_80 (fun H locs hP hD hS => ?_)
          have hR := hR.si (c := 87) (k := v9.toNatClampNeg) (v := (1 : Int32)) (rs_87_132_139 (by omega) ⟨i_lo _, i_hi _⟩)
          have hF := hF.si (c := 87) (k := v9.toNatClampNeg) (v := (1 : Int32)) rfl
          have hK_TM := sp_si (sp_tm _) hK_TM (c := 87) (k := v9.toNatClampNeg) (v := (1 : Int32)) (fun j9 h9 => by have q8 := sp_mem h9; simp at q8; have q9 := i_cl (x := v9) (by omega); omega)
          have hK_i_MS := sp_si (sp_imp sp_MS) hK_i_MS (c := 87) (k := v9.toNatClampNeg) (v := (1 : Int32)) (fun j9 h9 => by have q8 := sp_mem h9; simp at q8; have q9 := i_cl (x := v9) (by omega); omega)
          have hK_i_CW := sp_si (sp_imp sp_CW) hK_i_CW (c := 87) (k := v9.toNatClampNeg) (v := (1 : Int32)) (fun j9 h9 => by have q8 := sp_mem h9; simp at q8; have q9 := i_cl (x := v9) (by omega); omega)
          have hK_i_UI := sp_si (sp_imp sp_UI) hK_i_UI (c := 87) (k := v9.toNatClampNeg) (v := (1 : Int32)) (fun j9 h9 => by have q8 := sp_mem h9; simp at q8; have q9 := i_cl (x := v9) (by omega); omega)
          have hK_i_BI := sp_si (sp_imp sp_BI) hK_i_BI (c := 87) (k := v9.toNatClampNeg) (v := (1 : Int32)) (fun j9 h9 => by have q8 := sp_mem h9; simp at q8; have q9 := i_cl (x := v9) (by omega); omega)
          exact L81 x3 _ _ _ _ hR hF hK_TM hK_i_MS hK_i_CW hK_i_UI hK_i_BI (by omega) (i_trB (ac_ne (c := 87) (k := 3) (i := v9) (by have q9 := i_cl (x := v9) (by omega); omega)) (by omega : (1 : Int) ≤ (u.1 87 3).toInt ∧ (u.1 87 3).toInt ≤ 6)) (by omega) hP hD hS (lv_sub hl [0, 1, 2, 3] rfl)
  refine lv_aload_n F.1 F.2.1 dX12_says_0 rfl (lv_at hl 0 rfl) ?_
  refine a_getr F inX12 hP 85 6 tc_85 rfl rfl (by decide) q1477 (fun _ h9 => h9) dX12_says_1 ?_
  refine a_bp F (124 : Int32) dX12_says_4 (by decide) ?_
  refine lv_iload_n F.1 F.2.1 dX12_says_6 rfl (lv_at hl 2 rfl) ?_
  refine a_iadd F dX12_says_7 ic_124 rfl (by omega) (fun v10 hv10 => ?_)
  refine lv_aload_n F.1 F.2.1 dX12_says_8 rfl (lv_at hl 0 rfl) ?_
  refine a_getr F inX12 hP 85 6 tc_85 rfl rfl (by decide) q1477 (fun _ h9 => h9) dX12_says_9 ?_
  refine a_bp F (106 : Int32) dX12_says_12 (by decide) ?_
  have g11 : (0 : Int) ≤ (u0.1 87 106).toInt ∧ (u0.1 87 106).toInt ≤ 480 := hR 87 106
  refine a_ialdK F hP 87 106 tc_87 rfl rfl (i_in ic_106 (by omega)) (v := (u0.1 87 106)) rfl dX12_says_14 ?_
  refine a_ic F (1 : Int32) dX12_says_15 (by decide) ?_
  refine a_iadd F dX12_says_16 rfl ic_1 (by omega) (fun v12 hv12 => ?_)
  refine a_iast F hP hD hS 87 tc_87 rfl (i_in rfl (by omega)) dX12_says_17 (fun H locs hP hD hS => ?_)
  have hR := hR.si (c := 87) (k := v10.toNatClampNeg) (v := v12) (rs_87_124_131 (by omega) (by omega : (0 : Int) ≤ v12.toInt ∧ v12.toInt ≤ 481))
  have hF := hF.si (c := 87) (k := v10.toNatClampNeg) (v := v12) rfl
  have hK_TM := sp_si (sp_tm _) hK_TM (c := 87) (k := v10.toNatClampNeg) (v := v12) (fun j9 h9 => by have q8 := sp_mem h9; simp at q8; have q9 := i_cl (x := v10) (by omega); omega)
  have hK_i_MS := sp_si (sp_imp sp_MS) hK_i_MS (c := 87) (k := v10.toNatClampNeg) (v := v12) (fun j9 h9 => by have q8 := sp_mem h9; simp at q8; have q9 := i_cl (x := v10) (by omega); omega)
  have hK_i_CW := sp_si (sp_imp sp_CW) hK_i_CW (c := 87) (k := v10.toNatClampNeg) (v := v12) (fun j9 h9 => by have q8 := sp_mem h9; simp at q8; have q9 := i_cl (x := v10) (by omega); omega)
  have hK_i_UI := sp_si (sp_imp sp_UI) hK_i_UI (c := 87) (k := v10.toNatClampNeg) (v := v12) (fun j9 h9 => by have q8 := sp_mem h9; simp at q8; have q9 := i_cl (x := v10) (by omega); omega)
  have hK_i_BI := sp_si (sp_imp sp_BI) hK_i_BI (c := 87) (k := v10.toNatClampNeg) (v := v12) (fun j9 h9 => by have q8 := sp_mem h9; simp at q8; have q9 := i_cl (x := v10) (by omega); omega)
  refine lv_aload_n F.1 F.2.1 dX12_says_18 rfl (lv_at hl 0 rfl) ?_
  refine a_getr F inX12 hP 85 6 tc_85 rfl rfl (by decide) q1477 (fun _ h9 => h9) dX12_says_19 ?_
  refine a_sp F (140 : Int32) dX12_says_22 (by decide) ?_
  refine lv_iload_n F.1 F.2.1 dX12_says_25 rfl (lv_at hl 2 rfl) ?_
  refine a_iadd F dX12_says_26 ic_140 rfl (by omega) (fun v13 hv13 => ?_)
  refine lv_aload_n F.1 F.2.1 dX12_says_27 rfl (lv_at hl 0 rfl) ?_
  refine a_getr F inX12 hP 85 6 tc_85 rfl rfl (by decide) q1477 (fun _ h9 => h9) dX12_says_28 ?_
  refine a_bp F (107 : Int32) dX12_says_31 (by decide) ?_
  refine lv_iload_n F.1 F.2.1 dX12_says_33 rfl (lv_at hl 1 rfl) ?_
  refine a_iadd F dX12_says_34 ic_107 rfl (by omega) (fun v14 hv14 => ?_)
  refine a_iald F hP 87 tc_87 rfl (i_in rfl (by omega)) dX12_says_35 (fun v15 ev15 => ?_)
  have hv15 : (0 : Int) ≤ v15.toInt ∧ v15.toInt ≤ 7 := rg_seg_87_107_110 hR ev15 (by omega)
  refine a_iast F hP hD hS 87 tc_87 rfl (i_in rfl (by omega)) dX12_says_36 (fun H locs hP hD hS => ?_)
  have hR := hR.si (c := 87) (k := v13.toNatClampNeg) (v := v15) (rs_87_140_147 (by omega) ⟨i_lo _, i_hi _⟩)
  have hF := hF.si (c := 87) (k := v13.toNatClampNeg) (v := v15) rfl
  have hK_TM := sp_si (sp_tm _) hK_TM (c := 87) (k := v13.toNatClampNeg) (v := v15) (fun j9 h9 => by have q8 := sp_mem h9; simp at q8; have q9 := i_cl (x := v13) (by omega); omega)
  have hK_i_MS := sp_si (sp_imp sp_MS) hK_i_MS (c := 87) (k := v13.toNatClampNeg) (v := v15) (fun j9 h9 => by have q8 := sp_mem h9; simp at q8; have q9 := i_cl (x := v13) (by omega); omega)
  have hK_i_CW := sp_si (sp_imp sp_CW) hK_i_CW (c := 87) (k := v13.toNatClampNeg) (v := v15) (fun j9 h9 => by have q8 := sp_mem h9; simp at q8; have q9 := i_cl (x := v13) (by omega); omega)
  have hK_i_UI := sp_si (sp_imp sp_UI) hK_i_UI (c := 87) (k := v13.toNatClampNeg) (v := v15) (fun j9 h9 => by have q8 := sp_mem h9; simp at q8; have q9 := i_cl (x := v13) (by omega); omega)
  have hK_i_BI := sp_si (sp_imp sp_BI) hK_i_BI (c := 87) (k := v13.toNatClampNeg) (v := v15) (fun j9 h9 => by have q8 := sp_mem h9; simp at q8; have q9 := i_cl (x := v13) (by omega); omega)
  refine a_ic F (0 : Int32) dX12_says_37 (by decide) ?_
  refine lv_istore_n (lv' := [(3, .int (0 : Int32)), (0, .ref (ad 85)), (1, .int p0), (2, .int p1)]) F.1 F.2.1 dX12_says_38 rfl hl (by decide) rfl (fun ls hl => ?_)
  exact L39 8 (0 : Int32) _ _ _ _ hR hF (by decide) hK_TM hK_i_MS hK_i_CW hK_i_UI hK_i_BI (by decide) hP hD hS (lv_sub hl [1, 2, 3, 0] rfl)
set_option maxHeartbeats 600000 in
set_option maxRecDepth 100000 in
theorem c_X12_lives_85 (l : Launch) (dC : Nat → ClassId) (dI : Nat → Nat → Nat) (ad : Nat → Nat) (cA : Nat → ClassId) (nF : Nat) (u0 : ac_U) (p0 : Int32) (hR : ac_R rg u0) (hp0 : (0 : Int) ≤ p0.toInt ∧ p0.toInt ≤ 117) (hg0 : p0.toInt < 3 * (u0.1 85 35).toInt ∧ p0.toInt % 3 = 0) (hK_MS : msI u0) (hK_BLI : blI u0) : ac_Mi l yX12_lives (.code yX12_lives cX12_lives 6 (some .int) :: TB) 3 (dC, dI) vwCl (ac_ty cA) ad cA (TT nF) [.ref (ad 85), .int p0] u0 (fun (r : Int32) (u : ac_U) => ac_R rg u ∧ ac_Fr [(87, none)] u0 u ∧ ((0 : Int) ≤ r.toInt ∧ r.toInt ≤ 6) ∧ msI u ∧ (cdI u0 → cdI u) ∧ (unI u0 → unI u) ∧ (bfI u0 → bfI u)) := by
  refine ac_Mi.of (cc := cX12_lives) (maxL := 6) (ret := (some .int)) (by decide) rfl (Nat.le_of_ble_eq_true rfl) ?_
  intro p e s m below meth c A ls F hml hr hlocks hA hP hD hS hl
  have F : ac_X p s m [.ref (ad 85), .int p0].toArray c cX12_lives RX12 TB (dC, dI) vwCl (ac_ty cA) := ⟨F.1, F.2.1, fun w h => F.2.2.1 w (List.mem_cons_of_mem _ h), F.2.2.2.1, F.2.2.2.2⟩
  have hl : lv_has ls 6 [(0, .ref (ad 85)), (1, .int p0)] := hl
  have hF : ac_Fr [(87, none)] u0 u0 := ac_Fr.rf
  have hK_i_CW : (fun u => cdI u0 → cdI u) u0 := fun h => h
  have hK_i_UI : (fun u => unI u0 → unI u) u0 := fun h => h
  have hK_i_BI : (fun u => bfI u0 → bfI u) u0 := fun h => h
  have L143 : ∀ (n143 : Nat) (x2 : Int32) (x5 : Int32) (u : ac_U) (H : Heap) (locs : List Loc) (ls : Array Slot), ac_R rg u → ac_Fr [(87, none)] u0 u → 99 - x5.toInt < (n143 : Int) → msI u → (fun u => cdI u0 → cdI u) u → (fun u => unI u0 → unI u) u → (fun u => bfI u0 → bfI u) u → (0 : Int) ≤ x2.toInt ∧ x2.toInt ≤ 99 → (0 : Int) ≤ x5.toInt ∧ x5.toInt ≤ 99 → (u.1 87 106).toInt + x2.toInt - x5.toInt ≤ 20 * (u.1 87 0).toInt → va_P (dC, dI) vwCl (ac_w ad cA (TT nF) u) H → va_D A (ac_w ad cA (TT nF) u) → va_S A s.heap H locs → lv_has ls 6 [(0, .ref (ad 85)), (2, .int x2), (5, .int x5)] → W p l e (ac_rm 3) s m [.ref (ad 85), .int p0].toArray below meth c H locs 0 0 (MQ below (va_Qi (fun (r : Int32) (u : ac_U) => ac_R rg u ∧ ac_Fr [(87, none)] u0 u ∧ ((0 : Int) ≤ r.toInt ∧ r.toInt ≤ 6) ∧ msI u ∧ (cdI u0 → cdI u) ∧ (unI u0 → unI u) ∧ (bfI u0 → bfI u)) (ac_B (dC, dI) vwCl (ac_ty cA) ad cA (TT nF) A) A) [.ref (ad 85), .int p0].toArray s 0 0 A) (F0 m 143 ls []) := by
    intro n143
    induction n143 with
    | zero => intro x2 x5 u H locs ls hR hF hn143 hK_MS hK_i_CW hK_i_UI hK_i_BI f0 f1 f2 hP hD hS hl; exfalso; omega
    | succ n143 ih143 =>
      intro x2 x5 u H locs ls hR hF hn143 hK_MS hK_i_CW hK_i_UI hK_i_BI f0 f1 f2 hP hD hS hl
      refine lv_iload F.1 F.2.1 dX12_lives_143 (lv_at hl 2 rfl) ?_
      refine lv_iload_n F.1 F.2.1 dX12_lives_145 rfl (lv_at hl 1 rfl) ?_
      refine b_ge F 159 dX12_lives_146 (by decide) rfl rfl (fun c1 => ?_) (fun c1 => ?_)
      · refine a_ic F (0 : Int32) dX12_lives_159 (by decide) ?_
        exact a_reti F hr hlocks hP hD hS dX12_lives_160 ⟨hR, hF, (by decide), hK_MS, hK_i_CW, hK_i_UI, hK_i_BI⟩
      · refine lv_aload_n F.1 F.2.1 dX12_lives_149 rfl (lv_at hl 0 rfl) ?_
        have hO2 : (u.1 87 106).toInt ≤ 20 * (u.1 87 0).toInt := hK_MS.1
        have hQ2 : 4 ≤ (u.1 87 0).toInt ∧ (u.1 87 0).toInt ≤ 24 := hR 87 0
        have hW2 : 0 ≤ (u.1 87 106).toInt ∧ (u.1 87 106).toInt ≤ 480 := hR 87 106
        have g3 : (0 : Int) ≤ (u.1 87 106).toInt ∧ (u.1 87 106).toInt ≤ 480 := hR 87 106
        have g4 : (4 : Int) ≤ (u.1 87 0).toInt ∧ (u.1 87 0).toInt ≤ 24 := hR 87 0
        refine a_Vv F hml hl.1 hA hP hD hS (As := []) (c_X12_hour_85__2 l dC dI ad cA nF _  hR (by omega : (0 : Int) ≤ (u.1 87 106).toInt ∧ (u.1 87 106).toInt ≤ 479) (by omega : (u.1 87 106).toInt < 20 * (u.1 87 0).toInt) hK_MS) (cs_RX12_292 (d := 1) F.2.2.1 (by decide)) tc_85 rfl rfl rfl rfl (Nat.le_of_ble_eq_true rfl) dX12_lives_150 ⟨Nat.le_refl 0, Nat.le_refl 0⟩ (fun u5 H locs hq hP hD hS => ?_)
        obtain ⟨hR, hF5, xr5, hK_MS, hJ5_CW, hJ5_UI, hJ5_BI⟩ := hq
        have hF := hF.tr hF5 (by decide)
        have hK_i_CW : (fun u => cdI u0 → cdI u) u5 := fun h => hJ5_CW (hK_i_CW h)
        have hK_i_UI : (fun u => unI u0 → unI u) u5 := fun h => hJ5_UI (hK_i_UI h)
        have hK_i_BI : (fun u => bfI u0 → bfI u) u5 := fun h => hJ5_BI (hK_i_BI h)
        have g6 : (0 : Int) ≤ (u5.1 87 106).toInt ∧ (u5.1 87 106).toInt ≤ 480 := hR 87 106
        have g7 : (4 : Int) ≤ (u5.1 87 0).toInt ∧ (u5.1 87 0).toInt ≤ 24 := hR 87 0
        have xr5 : (u5.1 87 106).toInt = (u.1 87 106).toInt + 1 ∧ (u5.1 87 0).toInt = (u.1 87 0).toInt := xr5
        refine a_iinc F (k := 2) (fun v8 => [(5, .int v8), (0, .ref (ad 85)), (2, .int x2)]) dX12_lives_153 hl rfl rfl (by decide) (by omega) (by decide) (fun _ => rfl) (fun v8 ls hv8 hl => ?_)
        refine lv_goto (tgt := 143) F.1 F.2.1 dX12_lives_156 (by decide) ?_
        exact ih143 x2 v8 _ _ _ _ hR hF (by omega) hK_MS hK_i_CW hK_i_UI hK_i_BI (by omega) (by omega) (by omega : (u5.1 87 106).toInt + x2.toInt - v8.toInt ≤ 20 * (u5.1 87 0).toInt) hP hD hS (lv_sub hl [1, 2, 0] rfl)
  have L114 : ∀ (x4 : Int32) (u : ac_U) (H : Heap) (locs : List Loc) (ls : Array Slot), ac_R rg u → ac_Fr [(87, none)] u0 u → msI u → (fun u => cdI u0 → cdI u) u → (fun u => unI u0 → unI u) u → (fun u => bfI u0 → bfI u) u → (0 : Int) ≤ x4.toInt ∧ x4.toInt ≤ 6 → va_P (dC, dI) vwCl (ac_w ad cA (TT nF) u) H → va_D A (ac_w ad cA (TT nF) u) → va_S A s.heap H locs → lv_has ls 6 [(4, .int x4)] → W p l e (ac_rm 3) s m [.ref (ad 85), .int p0].toArray below meth c H locs 0 0 (MQ below (va_Qi (fun (r : Int32) (u : ac_U) => ac_R rg u ∧ ac_Fr [(87, none)] u0 u ∧ ((0 : Int) ≤ r.toInt ∧ r.toInt ≤ 6) ∧ msI u ∧ (cdI u0 → cdI u) ∧ (unI u0 → unI u) ∧ (bfI u0 → bfI u)) (ac_B (dC, dI) vwCl (ac_ty cA) ad cA (TT nF) A) A) [.ref (ad 85), .int p0].toArray s 0 0 A) (F0 m 114 ls []) := by
    intro x4 u H locs ls hR hF hK_MS hK_i_CW hK_i_UI hK_i_BI f0 hP hD hS hl
    refine lv_iload F.1 F.2.1 dX12_lives_114 (lv_at hl 0 rfl) ?_
    exact a_reti F hr hlocks hP hD hS dX12_lives_116 ⟨hR, hF, (by omega : (0 : Int) ≤ x4.toInt ∧ x4.toInt ≤ 6), hK_MS, hK_i_CW, hK_i_UI, hK_i_BI⟩
  have L92 : ∀ (x4 : Int32) (u : ac_U) (H : Heap) (locs : List Loc) (ls : Array Slot), ac_R rg u → ac_Fr [(87, none)] u0 u → msI u → (fun u => cdI u0 → cdI u) u → (fun u => unI u0 → unI u) u → (fun u => bfI u0 → bfI u) u → (0 : Int) ≤ x4.toInt ∧ x4.toInt ≤ 4 → va_P (dC, dI) vwCl (ac_w ad cA (TT nF) u) H → va_D A (ac_w ad cA (TT nF) u) → va_S A s.heap H locs → lv_has ls 6 [(4, .int x4)] → W p l e (ac_rm 3) s m [.ref (ad 85), .int p0].toArray below meth c H locs 0 0 (MQ below (va_Qi (fun (r : Int32) (u : ac_U) => ac_R rg u ∧ ac_Fr [(87, none)] u0 u ∧ ((0 : Int) ≤ r.toInt ∧ r.toInt ≤ 6) ∧ msI u ∧ (cdI u0 → cdI u) ∧ (unI u0 → unI u) ∧ (bfI u0 → bfI u)) (ac_B (dC, dI) vwCl (ac_ty cA) ad cA (TT nF) A) A) [.ref (ad 85), .int p0].toArray s 0 0 A) (F0 m 92 ls []) := by
    intro x4 u H locs ls hR hF hK_MS hK_i_CW hK_i_UI hK_i_BI f0 hP hD hS hl
    refine lv_iload F.1 F.2.1 dX12_lives_92 (lv_at hl 0 rfl) ?_
    exact a_reti F hr hlocks hP hD hS dX12_lives_94 ⟨hR, hF, (by omega : (0 : Int) ≤ x4.toInt ∧ x4.toInt ≤ 6), hK_MS, hK_i_CW, hK_i_UI, hK_i_BI⟩
  have L71 : ∀ (x4 : Int32) (u : ac_U) (H : Heap) (locs : List Loc) (ls : Array Slot), ac_R rg u → ac_Fr [(87, none)] u0 u → msI u → (fun u => cdI u0 → cdI u) u → (fun u => unI u0 → unI u) u → (fun u => bfI u0 → bfI u) u → (0 : Int) ≤ x4.toInt ∧ x4.toInt ≤ 3 → va_P (dC, dI) vwCl (ac_w ad cA (TT nF) u) H → va_D A (ac_w ad cA (TT nF) u) → va_S A s.heap H locs → lv_has ls 6 [(4, .int x4)] → W p l e (ac_rm 3) s m [.ref (ad 85), .int p0].toArray below meth c H locs 0 0 (MQ below (va_Qi (fun (r : Int32) (u : ac_U) => ac_R rg u ∧ ac_Fr [(87, none)] u0 u ∧ ((0 : Int) ≤ r.toInt ∧ r.toInt ≤ 6) ∧ msI u ∧ (cdI u0 → cdI u) ∧ (unI u0 → unI u) ∧ (bfI u0 → bfI u)) (ac_B (dC, dI) vwCl (ac_ty cA) ad cA (TT nF) A) A) [.ref (ad 85), .int p0].toArray s 0 0 A) (F0 m 71 ls []) := by
    intro x4 u H locs ls hR hF hK_MS hK_i_CW hK_i_UI hK_i_BI f0 hP hD hS hl
    refine lv_iload F.1 F.2.1 dX12_lives_71 (lv_at hl 0 rfl) ?_
    exact a_reti F hr hlocks hP hD hS dX12_lives_73 ⟨hR, hF, (by omega : (0 : Int) ≤ x4.toInt ∧ x4.toInt ≤ 6), hK_MS, hK_i_CW, hK_i_UI, hK_i_BI⟩
  refine lv_aload_n F.1 F.2.1 dX12_lives_0 rfl (lv_at hl 0 rfl) ?_
  refine a_getr F inX12 hP 85 8 tc_85 rfl rfl (by decide) q1479 (fun _ h9 => h9) dX12_lives_1 ?_
  refine lv_iload_n F.1 F.2.1 dX12_lives_4 rfl (lv_at hl 1 rfl) ?_
  refine a_ic F (1 : Int32) dX12_lives_5 (by decide) ?_
  refine a_iadd F dX12_lives_6 rfl ic_1 (by omega) (fun v9 hv9 => ?_)
  refine a_iald F hP 89 tc_89 rfl (i_in rfl (by omega)) dX12_lives_7 (fun v10 ev10 => ?_)
  have hm7 := bl_k hK_BLI (p := p0) (i := v9) (by omega) (by omega) ev10
  refine lv_istore_n (lv' := [(2, .int v10), (0, .ref (ad 85)), (1, .int p0)]) F.1 F.2.1 dX12_lives_8 rfl hl (by decide) rfl (fun ls hl => ?_)
  refine lv_aload_n F.1 F.2.1 dX12_lives_9 rfl (lv_at hl 1 rfl) ?_
  refine a_getr F inX12 hP 85 8 tc_85 rfl rfl (by decide) q1479 (fun _ h9 => h9) dX12_lives_10 ?_
  refine lv_iload_n F.1 F.2.1 dX12_lives_13 rfl (lv_at hl 2 rfl) ?_
  refine a_ic F (2 : Int32) dX12_lives_14 (by decide) ?_
  refine a_iadd F dX12_lives_15 rfl ic_2 (by omega) (fun v11 hv11 => ?_)
  refine a_iald F hP 89 tc_89 rfl (i_in rfl (by omega)) dX12_lives_16 (fun v12 ev12 => ?_)
  refine lv_istore_n (lv' := [(3, .int v12), (2, .int v10), (0, .ref (ad 85)), (1, .int p0)]) F.1 F.2.1 dX12_lives_17 rfl hl (by decide) rfl (fun ls hl => ?_)
  refine a_ic F (0 : Int32) dX12_lives_18 (by decide) ?_
  refine lv_istore (lv' := [(4, .int (0 : Int32)), (3, .int v12), (2, .int v10), (0, .ref (ad 85)), (1, .int p0)]) F.1 F.2.1 dX12_lives_19 hl (by decide) rfl (fun ls hl => ?_)
  refine lv_aload_n F.1 F.2.1 dX12_lives_21 rfl (lv_at hl 3 rfl) ?_
  refine a_getr F inX12 hP 85 8 tc_85 rfl rfl (by decide) q1479 (fun _ h9 => h9) dX12_lives_22 ?_
  refine lv_iload_n F.1 F.2.1 dX12_lives_25 rfl (lv_at hl 4 rfl) ?_
  refine a_iald F hP 89 tc_89 rfl (i_in rfl (by omega)) dX12_lives_26 (fun v13 ev13 => ?_)
  have hm9 := bl_get hK_BLI (p := p0) (i := v9) (j := v11) (by omega) (by omega) (by omega) ev13 ev10 ev12
  rcases (show (v13.toInt < 0 ∨ 2 < v13.toInt) ∨ v13.toInt = 0 ∨ v13.toInt = 1 ∨ v13.toInt = 2 by omega) with c14 | c14 | c14 | c14
  · refine lv_tableOut (tgt := 117) F.1 F.2.1 dX12_lives_27 c14 (by decide) ?_
    refine lv_aload_n F.1 F.2.1 dX12_lives_117 rfl (lv_at hl 3 rfl) ?_
    refine a_getr F inX12 hP 85 6 tc_85 rfl rfl (by decide) q1477 (fun _ h9 => h9) dX12_lives_118 ?_
    refine a_bp F (106 : Int32) dX12_lives_121 (by decide) ?_
    have g15 : (0 : Int) ≤ (u0.1 87 106).toInt ∧ (u0.1 87 106).toInt ≤ 480 := hR 87 106
    refine a_ialdK F hP 87 106 tc_87 rfl rfl (i_in ic_106 (by omega)) (v := (u0.1 87 106)) rfl dX12_lives_123 ?_
    refine lv_iload_n F.1 F.2.1 dX12_lives_124 rfl (lv_at hl 2 rfl) ?_
    refine a_iadd F dX12_lives_125 rfl rfl (by omega) (fun v16 hv16 => ?_)
    refine a_bp F (20 : Int32) dX12_lives_126 (by decide) ?_
    refine lv_aload_n F.1 F.2.1 dX12_lives_128 rfl (lv_at hl 3 rfl) ?_
    refine a_getr F inX12 hP 85 6 tc_85 rfl rfl (by decide) q1477 (fun _ h9 => h9) dX12_lives_129 ?_
    refine a_ic F (0 : Int32) dX12_lives_132 (by decide) ?_
    have g17 : (4 : Int) ≤ (u0.1 87 0).toInt ∧ (u0.1 87 0).toInt ≤ 24 := hR 87 0
    refine a_ialdK F hP 87 0 tc_87 rfl rfl (i_in ic_0 (by omega)) (v := (u0.1 87 0)) rfl dX12_lives_133 ?_
    refine a_imul F dX12_lives_134 ic_20 rfl (by omega) (fun v18 hv18 => ?_)
    refine b_le F 140 dX12_lives_135 (by decide) rfl rfl (fun c19 => ?_) (fun c19 => ?_)
    · refine a_ic F (0 : Int32) dX12_lives_140 (by decide) ?_
      refine lv_istore (lv' := [(5, .int (0 : Int32)), (4, .int (0 : Int32)), (3, .int v12), (2, .int v10), (0, .ref (ad 85)), (1, .int p0)]) F.1 F.2.1 dX12_lives_141 hl (by decide) rfl (fun ls hl => ?_)
      exact L143 101 v10 (0 : Int32) _ _ _ _ hR hF (by decide) hK_MS hK_i_CW hK_i_UI hK_i_BI (by omega) (by decide) (by first | (rw [ic_0]; exact (by omega : (u0.1 87 106).toInt + v10.toInt - (0 : Int) ≤ 20 * (u0.1 87 0).toInt)) | rw [ic_0]) hP hD hS (lv_sub hl [4, 3, 0] rfl)
    · refine a_ic F (3 : Int32) dX12_lives_138 (by decide) ?_
      exact a_reti F hr hlocks hP hD hS dX12_lives_139 ⟨hR, hF, (by decide), hK_MS, hK_i_CW, hK_i_UI, hK_i_BI⟩
  · refine lv_tableIn (tgt := 52) F.1 F.2.1 dX12_lives_27 (by omega) (by omega) (by rw [c14]; rfl) (by decide) ?_
    refine lv_aload_n F.1 F.2.1 dX12_lives_52 rfl (lv_at hl 3 rfl) ?_
    refine lv_iload_n F.1 F.2.1 dX12_lives_53 rfl (lv_at hl 2 rfl) ?_
    refine lv_iload_n F.1 F.2.1 dX12_lives_54 rfl (lv_at hl 1 rfl) ?_
    refine a_Vi F hml hl.1 hA hP hD hS (As := [.int v10, .int v12]) (c_X12_whyGoOf_85 l dC dI ad cA nF _ v10 v12 hR (by omega) (by omega)) (cs_RX12_266 (d := 2) F.2.2.1 (by decide)) tc_85 rfl rfl rfl rfl (Nat.le_of_ble_eq_true rfl) dX12_lives_55 ⟨Nat.le_refl 0, Nat.le_refl 0⟩ (fun r20 uN20 H locs hq hP hD hS => ?_)
    obtain ⟨hu20, gr20⟩ := hq
    rw [hu20] at hP hD
    refine lv_istore (lv' := [(4, .int r20), (3, .int v12), (2, .int v10), (0, .ref (ad 85)), (1, .int p0)]) F.1 F.2.1 dX12_lives_58 hl (by decide) rfl (fun ls hl => ?_)
    refine lv_iload F.1 F.2.1 dX12_lives_60 (lv_at hl 0 rfl) ?_
    refine z_ne F 71 dX12_lives_62 (by decide) rfl (fun c21 => ?_) (fun c21 => ?_)
    · exact L71 r20 _ _ _ _ hR hF hK_MS hK_i_CW hK_i_UI hK_i_BI (by omega) hP hD hS (lv_sub hl [0] rfl)
    · refine lv_aload_n F.1 F.2.1 dX12_lives_65 rfl (lv_at hl 3 rfl) ?_
      refine lv_iload_n F.1 F.2.1 dX12_lives_66 rfl (lv_at hl 2 rfl) ?_
      refine lv_iload_n F.1 F.2.1 dX12_lives_67 rfl (lv_at hl 1 rfl) ?_
      refine a_Vv F hml hl.1 hA hP hD hS (As := [.int v10, .int v12]) (c_X12_goes_85__2 l dC dI ad cA nF _ v10 v12 hR (by omega) (by omega)) (cs_RX12_272 (d := 1) F.2.2.1 (by decide)) tc_85 rfl rfl rfl rfl (Nat.le_of_ble_eq_true rfl) dX12_lives_68 ⟨Nat.le_refl 0, Nat.le_refl 0⟩ (fun u22 H locs hq hP hD hS => ?_)
      obtain ⟨hR, hF22, xr22, hJ22_MS, hJ22_CW, hJ22_UI, hJ22_BI⟩ := hq
      have hF := hF.tr hF22 (by decide)
      have hK_MS := hJ22_MS hK_MS
      have hK_BLI := sp_fr sp_BLI hF22 (by decide) hK_BLI
      have hK_i_CW : (fun u => cdI u0 → cdI u) u22 := fun h => hJ22_CW (hK_i_CW h)
      have hK_i_UI : (fun u => unI u0 → unI u) u22 := fun h => hJ22_UI (hK_i_UI h)
      have hK_i_BI : (fun u => bfI u0 → bfI u) u22 := fun h => hJ22_BI (hK_i_BI h)
      have g23 : (0 : Int) ≤ (u22.1 87 106).toInt ∧ (u22.1 87 106).toInt ≤ 480 := hR 87 106
      have g24 : (4 : Int) ≤ (u22.1 87 0).toInt ∧ (u22.1 87 0).toInt ≤ 24 := hR 87 0
      have xr22 : (u22.1 87 106).toInt = (u0.1 87 106).toInt ∧ (u22.1 87 0).toInt = (u0.1 87 0).toInt := xr22
      exact L71 r20 _ _ _ _ hR hF hK_MS hK_i_CW hK_i_UI hK_i_BI (by omega) hP hD hS (lv_sub hl [0] rfl)
  · refine lv_tableIn (tgt := 74) F.1 F.2.1 dX12_lives_27 (by omega) (by omega) (by rw [c14]; rfl) (by decide) ?_
    refine lv_aload_n F.1 F.2.1 dX12_lives_74 rfl (lv_at hl 3 rfl) ?_
    refine lv_iload_n F.1 F.2.1 dX12_lives_75 rfl (lv_at hl 2 rfl) ?_
    refine a_Vi F hml hl.1 hA hP hD hS (As := [.int v10]) (c_X12_whyAct_85 l dC dI ad cA nF _ v10 hR (by omega)) (cs_RX12_279 (d := 2) F.2.2.1 (by decide)) tc_85 rfl rfl rfl rfl (Nat.le_of_ble_eq_true rfl) dX12_lives_76 ⟨Nat.le_refl 0, Nat.le_refl 0⟩ (fun r25 uN25 H locs hq hP hD hS => ?_)
    obtain ⟨hu25, gr25, xr25⟩ := hq
    rw [hu25] at hP hD
    have g26 : (0 : Int) ≤ (u0.1 87 123).toInt ∧ (u0.1 87 123).toInt ≤ 80 := hR 87 123
    have xr25 : r25.toInt = 0 → (u0.1 87 123).toInt ≤ 79 := xr25
    refine lv_istore (lv' := [(4, .int r25), (3, .int v12), (2, .int v10), (0, .ref (ad 85)), (1, .int p0)]) F.1 F.2.1 dX12_lives_79 hl (by decide) rfl (fun ls hl => ?_)
    refine lv_iload F.1 F.2.1 dX12_lives_81 (lv_at hl 0 rfl) ?_
    refine z_ne F 92 dX12_lives_83 (by decide) rfl (fun c27 => ?_) (fun c27 => ?_)
    · exact L92 r25 _ _ _ _ hR hF hK_MS hK_i_CW hK_i_UI hK_i_BI (by omega) hP hD hS (lv_sub hl [0] rfl)
    · refine lv_aload_n F.1 F.2.1 dX12_lives_86 rfl (lv_at hl 3 rfl) ?_
      refine lv_iload_n F.1 F.2.1 dX12_lives_87 rfl (lv_at hl 2 rfl) ?_
      refine lv_iload_n F.1 F.2.1 dX12_lives_88 rfl (lv_at hl 1 rfl) ?_
      refine a_Vv F hml hl.1 hA hP hD hS (As := [.int v10, .int v12]) (c_X12_does_85__2 l dC dI ad cA nF _ v10 v12 hR (by omega) (by omega : (0 : Int) ≤ (u0.1 87 123).toInt ∧ (u0.1 87 123).toInt ≤ 79)) (cs_RX12_283 (d := 1) F.2.2.1 (by decide)) tc_85 rfl rfl rfl rfl (Nat.le_of_ble_eq_true rfl) dX12_lives_89 ⟨Nat.le_refl 0, Nat.le_refl 0⟩ (fun u28 H locs hq hP hD hS => ?_)
      obtain ⟨hR, hF28, xr28, hJ28_MS, hJ28_CW, hJ28_UI, hJ28_BI⟩ := hq
      have hF := hF.tr hF28 (by decide)
      have hK_MS := hJ28_MS hK_MS
      have hK_BLI := sp_fr sp_BLI hF28 (by decide) hK_BLI
      have hK_i_CW : (fun u => cdI u0 → cdI u) u28 := fun h => hJ28_CW (hK_i_CW h)
      have hK_i_UI : (fun u => unI u0 → unI u) u28 := fun h => hJ28_UI (hK_i_UI h)
      have hK_i_BI : (fun u => bfI u0 → bfI u) u28 := fun h => hJ28_BI (hK_i_BI h)
      have g29 : (0 : Int) ≤ (u28.1 87 106).toInt ∧ (u28.1 87 106).toInt ≤ 480 := hR 87 106
      have g30 : (4 : Int) ≤ (u28.1 87 0).toInt ∧ (u28.1 87 0).toInt ≤ 24 := hR 87 0
      have xr28 : (u28.1 87 106).toInt = (u0.1 87 106).toInt ∧ (u28.1 87 0).toInt = (u0.1 87 0).toInt := xr28
      exact L92 r25 _ _ _ _ hR hF hK_MS hK_i_CW hK_i_UI hK_i_BI (by omega) hP hD hS (lv_sub hl [0] rfl)
  · refine lv_tableIn (tgt := 95) F.1 F.2.1 dX12_lives_27 (by omega) (by omega) (by rw [c14]; rfl) (by decide) ?_
    refine lv_aload_n F.1 F.2.1 dX12_lives_95 rfl (lv_at hl 3 rfl) ?_
    refine lv_iload_n F.1 F.2.1 dX12_lives_96 rfl (lv_at hl 2 rfl) ?_
    refine lv_iload_n F.1 F.2.1 dX12_lives_97 rfl (lv_at hl 1 rfl) ?_
    refine a_Vi F hml hl.1 hA hP hD hS (As := [.int v10, .int v12]) (c_X12_whySay_85 l dC dI ad cA nF _ v10 v12 hR (by omega) (by omega)) (cs_RX12_286 (d := 2) F.2.2.1 (by decide)) tc_85 rfl rfl rfl rfl (Nat.le_of_ble_eq_true rfl) dX12_lives_98 ⟨Nat.le_refl 0, Nat.le_refl 0⟩ (fun r31 uN31 H locs hq hP hD hS => ?_)
    obtain ⟨hu31, gr31⟩ := hq
    rw [hu31] at hP hD
    refine lv_istore (lv' := [(4, .int r31), (3, .int v12), (2, .int v10), (0, .ref (ad 85)), (1, .int p0)]) F.1 F.2.1 dX12_lives_101 hl (by decide) rfl (fun ls hl => ?_)
    refine lv_iload F.1 F.2.1 dX12_lives_103 (lv_at hl 0 rfl) ?_
    refine z_ne F 114 dX12_lives_105 (by decide) rfl (fun c32 => ?_) (fun c32 => ?_)
    · exact L114 r31 _ _ _ _ hR hF hK_MS hK_i_CW hK_i_UI hK_i_BI (by omega) hP hD hS (lv_sub hl [0] rfl)
    · refine lv_aload_n F.1 F.2.1 dX12_lives_108 rfl (lv_at hl 3 rfl) ?_
      refine lv_iload_n F.1 F.2.1 dX12_lives_109 rfl (lv_at hl 2 rfl) ?_
      refine lv_iload_n F.1 F.2.1 dX12_lives_110 rfl (lv_at hl 1 rfl) ?_
      refine a_Vv F hml hl.1 hA hP hD hS (As := [.int v10, .int v12]) (c_X12_says_85__2 l dC dI ad cA nF _ v10 v12 hR (by omega) (by omega)) (cs_RX12_289 (d := 1) F.2.2.1 (by decide)) tc_85 rfl rfl rfl rfl (Nat.le_of_ble_eq_true rfl) dX12_lives_111 ⟨Nat.le_refl 0, Nat.le_refl 0⟩ (fun u33 H locs hq hP hD hS => ?_)
      obtain ⟨hR, hF33, xr33, hJ33_MS, hJ33_CW, hJ33_UI, hJ33_BI⟩ := hq
      have hF := hF.tr hF33 (by decide)
      have hK_MS := hJ33_MS hK_MS
      have hK_BLI := sp_fr sp_BLI hF33 (by decide) hK_BLI
      have hK_i_CW : (fun u => cdI u0 → cdI u) u33 := fun h => hJ33_CW (hK_i_CW h)
      have hK_i_UI : (fun u => unI u0 → unI u) u33 := fun h => hJ33_UI (hK_i_UI h)
      have hK_i_BI : (fun u => bfI u0 → bfI u) u33 := fun h => hJ33_BI (hK_i_BI h)
      have g34 : (0 : Int) ≤ (u33.1 87 106).toInt ∧ (u33.1 87 106).toInt ≤ 480 := hR 87 106
      have g35 : (4 : Int) ≤ (u33.1 87 0).toInt ∧ (u33.1 87 0).toInt ≤ 24 := hR 87 0
      have xr33 : (u33.1 87 106).toInt = (u0.1 87 106).toInt ∧ (u33.1 87 0).toInt = (u0.1 87 0).toInt := xr33
      exact L114 r31 _ _ _ _ hR hF hK_MS hK_i_CW hK_i_UI hK_i_BI (by omega) hP hD hS (lv_sub hl [0] rfl)
set_option maxHeartbeats 600000 in
set_option maxRecDepth 100000 in
theorem c_X12_tries_85__2 (l : Launch) (dC : Nat → ClassId) (dI : Nat → Nat → Nat) (ad : Nat → Nat) (cA : Nat → ClassId) (nF : Nat) (u0 : ac_U)  (hR : ac_R rg u0) (hK_MS : msI u0) : ac_Mv l yX12_tries (.code yX12_tries cX12_tries 2 none :: TB) 1 (dC, dI) vwCl (ac_ty cA) ad cA (TT nF) [.ref (ad 85)] u0 (fun (u : ac_U) => ac_R rg u ∧ ac_Fr [(94, none)] u0 u ∧ bfI u) := by
  refine ac_Mv.of (cc := cX12_tries) (maxL := 2) (ret := none) (by decide) rfl (Nat.le_of_ble_eq_true rfl) ?_
  intro p e s m below meth c A ls F hml hr hlocks hA hP hD hS hl
  have F : ac_X p s m [.ref (ad 85)].toArray c cX12_tries RX12 TB (dC, dI) vwCl (ac_ty cA) := ⟨F.1, F.2.1, fun w h => F.2.2.1 w (List.mem_cons_of_mem _ h), F.2.2.2.1, F.2.2.2.2⟩
  have hl : lv_has ls 2 [(0, .ref (ad 85))] := hl
  have hF : ac_Fr [(94, none)] u0 u0 := ac_Fr.rf
  have L2 : ∀ (n2 : Nat) (x1 : Int32) (u : ac_U) (H : Heap) (locs : List Loc) (ls : Array Slot), ac_R rg u → ac_Fr [(94, none)] u0 u → 370 - x1.toInt < (n2 : Int) → msI u → bkI x1.toInt u → (0 : Int) ≤ x1.toInt ∧ x1.toInt ≤ 370 → va_P (dC, dI) vwCl (ac_w ad cA (TT nF) u) H → va_D A (ac_w ad cA (TT nF) u) → va_S A s.heap H locs → lv_has ls 2 [(0, .ref (ad 85)), (1, .int x1)] → W p l e (ac_rm 1) s m [.ref (ad 85)].toArray below meth c H locs 0 0 (MQ below (va_Qv (fun (u : ac_U) => ac_R rg u ∧ ac_Fr [(94, none)] u0 u ∧ bfI u) (ac_B (dC, dI) vwCl (ac_ty cA) ad cA (TT nF) A) A) [.ref (ad 85)].toArray s 0 0 A) (F0 m 2 ls []) := by
    intro n2
    induction n2 with
    | zero => intro x1 u H locs ls hR hF hn2 hK_MS hK_BKx f0 hP hD hS hl; exfalso; omega
    | succ n2 ih2 =>
      intro x1 u H locs ls hR hF hn2 hK_MS hK_BKx f0 hP hD hS hl
      refine lv_iload_n F.1 F.2.1 dX12_tries_2 rfl (lv_at hl 1 rfl) ?_
      refine a_sp F (370 : Int32) dX12_tries_3 (by decide) ?_
      refine b_ge F 30 dX12_tries_6 (by decide) rfl ic_370 (fun c1 => ?_) (fun c1 => ?_)
      · exact a_retv F hr hlocks hP hD hS dX12_tries_30 ⟨hR, hF, (hK_BKx (by omega))⟩
      · refine lv_aload_n F.1 F.2.1 dX12_tries_9 rfl (lv_at hl 0 rfl) ?_
        refine a_getr F inX12 hP 85 23 tc_85 rfl rfl (by decide) q1494 (fun _ h9 => h9) dX12_tries_10 ?_
        refine lv_iload_n F.1 F.2.1 dX12_tries_13 rfl (lv_at hl 1 rfl) ?_
        refine lv_aload_n F.1 F.2.1 dX12_tries_14 rfl (lv_at hl 0 rfl) ?_
        refine a_getr F inX12 hP 85 6 tc_85 rfl rfl (by decide) q1477 (fun _ h9 => h9) dX12_tries_15 ?_
        refine a_bp F (106 : Int32) dX12_tries_18 (by decide) ?_
        refine lv_iload_n F.1 F.2.1 dX12_tries_20 rfl (lv_at hl 1 rfl) ?_
        refine a_iadd F dX12_tries_21 ic_106 rfl (by omega) (fun v2 hv2 => ?_)
        refine a_iald F hP 87 tc_87 rfl (i_in rfl (by omega)) dX12_tries_22 (fun v3 ev3 => ?_)
        refine a_iast F hP hD hS 94 tc_94 rfl (i_in rfl (by omega)) dX12_tries_23 (fun H locs hP hD hS => ?_)
        have hR := hR.si (c := 94) (k := x1.toNatClampNeg) (v := v3) (cp_el hR ev3 (rg_u3 (by omega) (by omega)).1)
        have hF := hF.si (c := 94) (k := x1.toNatClampNeg) (v := v3) rfl
        have hO_MS := hK_MS
        have hO_BKx := hK_BKx
        have hK_MS := sp_sgD sp_MS hD hK_MS (by decide)
        have hK_BKx := bk_w (i := x1) hO_BKx hO_MS (by omega) (k := v2) (by omega) ev3
        refine a_iinc F (k := 1) (fun v4 => [(1, .int v4), (0, .ref (ad 85))]) dX12_tries_24 hl rfl rfl (by decide) (by omega) (by decide) (fun _ => rfl) (fun v4 ls hv4 hl => ?_)
        refine lv_goto (tgt := 2) F.1 F.2.1 dX12_tries_27 (by decide) ?_
        exact ih2 v4 _ _ _ _ hR hF (by omega) hK_MS (bk_eq hK_BKx (by omega)) (by omega) hP hD hS (lv_sub hl [1, 0] rfl)
  refine a_ic F (0 : Int32) dX12_tries_0 (by decide) ?_
  refine lv_istore_n (lv' := [(1, .int (0 : Int32)), (0, .ref (ad 85))]) F.1 F.2.1 dX12_tries_1 rfl hl (by decide) rfl (fun ls hl => ?_)
  exact L2 372 (0 : Int32) _ _ _ _ hR hF (by decide) hK_MS (bk_0 (by decide)) (by decide) hP hD hS (lv_sub hl [1, 0] rfl)
set_option maxHeartbeats 600000 in
set_option maxRecDepth 100000 in
theorem c_X12_daybook_85 (l : Launch) (dC : Nat → ClassId) (dI : Nat → Nat → Nat) (ad : Nat → Nat) (cA : Nat → ClassId) (nF : Nat) (u0 : ac_U) (p0 : Int32) (hR : ac_R rg u0) (hK_MS : msI u0) (hK_UI : unI u0) (hK_CW : cdI u0) : ac_Mi l yX12_daybook (.code yX12_daybook cX12_daybook 4 (some .int) :: TB) 8 (dC, dI) vwCl (ac_ty cA) ad cA (TT nF) [.ref (ad 85), .int p0] u0 (fun (r : Int32) (u : ac_U) => ac_R rg u ∧ ac_Fr [(85, some 0), (85, some 2), (85, some 3), (85, some 4), (85, some 5), (85, some 11), (85, some 12), (85, some 13), (85, some 14), (85, some 15), (85, some 16), (85, some 18), (85, some 24), (85, some 35), (85, some 37), (87, none), (89, none), (93, none), (94, none), (99, none)] u0 u ∧ msI u ∧ unI u ∧ cdI u) := by
  refine ac_Mi.of (cc := cX12_daybook) (maxL := 4) (ret := (some .int)) (by decide) rfl (Nat.le_of_ble_eq_true rfl) ?_
  intro p e s m below meth c A ls F hml hr hlocks hA hP hD hS hl
  have F : ac_X p s m [.ref (ad 85), .int p0].toArray c cX12_daybook RX12 TB (dC, dI) vwCl (ac_ty cA) := ⟨F.1, F.2.1, fun w h => F.2.2.1 w (List.mem_cons_of_mem _ h), F.2.2.2.1, F.2.2.2.2⟩
  have hl : lv_has ls 4 [(0, .ref (ad 85)), (1, .int p0)] := hl
  have hF : ac_Fr [(85, some 0), (85, some 2), (85, some 3), (85, some 4), (85, some 5), (85, some 11), (85, some 12), (85, some 13), (85, some 14), (85, some 15), (85, some 16), (85, some 18), (85, some 24), (85, some 35), (85, some 37), (87, none), (89, none), (93, none), (94, none), (99, none)] u0 u0 := ac_Fr.rf
  have L259 : ∀ (x2 : Int32) (u : ac_U) (H : Heap) (locs : List Loc) (ls : Array Slot), ac_R rg u → ac_Fr [(85, some 0), (85, some 2), (85, some 3), (85, some 4), (85, some 5), (85, some 11), (85, some 12), (85, some 13), (85, some 14), (85, some 15), (85, some 16), (85, some 18), (85, some 24), (85, some 35), (85, some 37), (87, none), (89, none), (93, none), (94, none), (99, none)] u0 u → msI u → unI u → cdI u → (-1 : Int) ≤ x2.toInt ∧ x2.toInt ≤ 39 → (0 : Int) ≤ (u.1 85 11).toInt ∧ (u.1 85 11).toInt ≤ 0 → (1 : Int) ≤ (u.1 85 37).toInt ∧ (u.1 85 37).toInt ≤ 1 → (0 : Int) ≤ (u.1 99 2).toInt ∧ (u.1 99 2).toInt ≤ 480 → va_P (dC, dI) vwCl (ac_w ad cA (TT nF) u) H → va_D A (ac_w ad cA (TT nF) u) → va_S A s.heap H locs → lv_has ls 4 [(2, .int x2)] → W p l e (ac_rm 8) s m [.ref (ad 85), .int p0].toArray below meth c H locs 0 0 (MQ below (va_Qi (fun (r : Int32) (u : ac_U) => ac_R rg u ∧ ac_Fr [(85, some 0), (85, some 2), (85, some 3), (85, some 4), (85, some 5), (85, some 11), (85, some 12), (85, some 13), (85, some 14), (85, some 15), (85, some 16), (85, some 18), (85, some 24), (85, some 35), (85, some 37), (87, none), (89, none), (93, none), (94, none), (99, none)] u0 u ∧ msI u ∧ unI u ∧ cdI u) (ac_B (dC, dI) vwCl (ac_ty cA) ad cA (TT nF) A) A) [.ref (ad 85), .int p0].toArray s 0 0 A) (F0 m 259 ls []) := by
    intro x2 u H locs ls hR hF hK_MS hK_UI hK_CW f0 f1 f2 f3 hP hD hS hl
    refine lv_iload_n F.1 F.2.1 dX12_daybook_259 rfl (lv_at hl 0 rfl) ?_
    exact a_reti F hr hlocks hP hD hS dX12_daybook_260 ⟨hR, hF, hK_MS, hK_UI, hK_CW⟩
  have L251 : ∀ (x2 : Int32) (u : ac_U) (H : Heap) (locs : List Loc) (ls : Array Slot), ac_R rg u → ac_Fr [(85, some 0), (85, some 2), (85, some 3), (85, some 4), (85, some 5), (85, some 11), (85, some 12), (85, some 13), (85, some 14), (85, some 15), (85, some 16), (85, some 18), (85, some 24), (85, some 35), (85, some 37), (87, none), (89, none), (93, none), (94, none), (99, none)] u0 u → msI u → unI u → cdI u → bfI u → (0 : Int) ≤ p0.toInt ∧ p0.toInt ≤ 1 → (-1 : Int) ≤ x2.toInt ∧ x2.toInt ≤ 39 → (0 : Int) ≤ (u.1 85 11).toInt ∧ (u.1 85 11).toInt ≤ 0 → (1 : Int) ≤ (u.1 85 37).toInt ∧ (u.1 85 37).toInt ≤ 1 → (0 : Int) ≤ (u.1 99 2).toInt ∧ (u.1 99 2).toInt ≤ 480 → va_P (dC, dI) vwCl (ac_w ad cA (TT nF) u) H → va_D A (ac_w ad cA (TT nF) u) → va_S A s.heap H locs → lv_has ls 4 [(0, .ref (ad 85)), (1, .int p0), (2, .int x2)] → W p l e (ac_rm 8) s m [.ref (ad 85), .int p0].toArray below meth c H locs 0 0 (MQ below (va_Qi (fun (r : Int32) (u : ac_U) => ac_R rg u ∧ ac_Fr [(85, some 0), (85, some 2), (85, some 3), (85, some 4), (85, some 5), (85, some 11), (85, some 12), (85, some 13), (85, some 14), (85, some 15), (85, some 16), (85, some 18), (85, some 24), (85, some 35), (85, some 37), (87, none), (89, none), (93, none), (94, none), (99, none)] u0 u ∧ msI u ∧ unI u ∧ cdI u) (ac_B (dC, dI) vwCl (ac_ty cA) ad cA (TT nF) A) A) [.ref (ad 85), .int p0].toArray s 0 0 A) (F0 m 251 ls []) := by
    intro x2 u H locs ls hR hF hK_MS hK_UI hK_CW hK_BI f0 f1 f2 f3 f4 hP hD hS hl
    refine lv_iload_n F.1 F.2.1 dX12_daybook_251 rfl (lv_at hl 1 rfl) ?_
    refine z_ne F 259 dX12_daybook_252 (by decide) rfl (fun c1 => ?_) (fun c1 => ?_)
    · have g2 : (0 : Int) ≤ (u.1 85 11).toInt ∧ (u.1 85 11).toInt ≤ 4 := hR 85 11
      have g3 : (0 : Int) ≤ (u.1 85 37).toInt ∧ (u.1 85 37).toInt ≤ 1 := hR 85 37
      exact L259 x2 _ _ _ _ hR hF hK_MS hK_UI hK_CW (by omega) (by omega : (0 : Int) ≤ (u.1 85 11).toInt ∧ (u.1 85 11).toInt ≤ 0) (by omega : (1 : Int) ≤ (u.1 85 37).toInt ∧ (u.1 85 37).toInt ≤ 1) (by omega : (0 : Int) ≤ (u.1 99 2).toInt ∧ (u.1 99 2).toInt ≤ 480) hP hD hS (lv_sub hl [2] rfl)
    · refine lv_aload_n F.1 F.2.1 dX12_daybook_255 rfl (lv_at hl 0 rfl) ?_
      have g5 : (0 : Int) ≤ (u.1 85 35).toInt ∧ (u.1 85 35).toInt ≤ 40 := hR 85 35
      refine a_Vv F hml hl.1 hA hP hD hS (As := []) (c_X12_back_85__2 l dC dI ad cA nF _  hR hK_MS hK_BI) (cs_RX12_395 (d := 1) F.2.2.1 (by decide)) tc_85 rfl rfl rfl rfl (Nat.le_of_ble_eq_true rfl) dX12_daybook_256 ⟨Nat.le_refl 0, Nat.le_refl 0⟩ (fun u4 H locs hq hP hD hS => ?_)
      obtain ⟨hR, hF4, hK_MS, hK_BI, hJ4_CW, hJ4_UI⟩ := hq
      have hF := hF.tr hF4 (by decide)
      have hK_UI := hJ4_UI hK_UI
      have hK_CW := hJ4_CW hK_CW
      exact L259 x2 _ _ _ _ hR hF hK_MS hK_UI hK_CW (by omega) (i_trB (hF4 85 11 rfl) (by omega : (0 : Int) ≤ (u.1 85 11).toInt ∧ (u.1 85 11).toInt ≤ 0)) (i_trB (hF4 85 37 rfl) (by omega : (1 : Int) ≤ (u.1 85 37).toInt ∧ (u.1 85 37).toInt ≤ 1)) (i_trB (hF4 99 2 rfl) (by omega : (0 : Int) ≤ (u.1 99 2).toInt ∧ (u.1 99 2).toInt ≤ 480)) hP hD hS (lv_sub hl [2] rfl)
  have L215 : ∀ (n215 : Nat) (x2 : Int32) (x3 : Int32) (u : ac_U) (H : Heap) (locs : List Loc) (ls : Array Slot), ac_R rg u → ac_Fr [(85, some 0), (85, some 2), (85, some 3), (85, some 4), (85, some 5), (85, some 11), (85, some 12), (85, some 13), (85, some 14), (85, some 15), (85, some 16), (85, some 18), (85, some 24), (85, some 35), (85, some 37), (87, none), (89, none), (93, none), (94, none), (99, none)] u0 u → 370 - x3.toInt < (n215 : Int) → msI u → unI u → cdI u → bfI u → (1 : Int) ≤ p0.toInt ∧ p0.toInt ≤ 1 → (-1 : Int) ≤ x2.toInt ∧ x2.toInt ≤ 39 → (0 : Int) ≤ x3.toInt ∧ x3.toInt ≤ 370 → (0 : Int) ≤ (u.1 85 11).toInt ∧ (u.1 85 11).toInt ≤ 0 → (1 : Int) ≤ (u.1 85 24).toInt ∧ (u.1 85 24).toInt ≤ 8 → (1 : Int) ≤ (u.1 85 37).toInt ∧ (u.1 85 37).toInt ≤ 1 → (1 : Int) ≤ (u.1 99 1).toInt → (0 : Int) ≤ (u.1 99 2).toInt ∧ (u.1 99 2).toInt ≤ 480 → va_P (dC, dI) vwCl (ac_w ad cA (TT nF) u) H → va_D A (ac_w ad cA (TT nF) u) → va_S A s.heap H locs → lv_has ls 4 [(0, .ref (ad 85)), (1, .int p0), (2, .int x2), (3, .int x3)] → W p l e (ac_rm 8) s m [.ref (ad 85), .int p0].toArray below meth c H locs 0 0 (MQ below (va_Qi (fun (r : Int32) (u : ac_U) => ac_R rg u ∧ ac_Fr [(85, some 0), (85, some 2), (85, some 3), (85, some 4), (85, some 5), (85, some 11), (85, some 12), (85, some 13), (85, some 14), (85, some 15), (85, some 16), (85, some 18), (85, some 24), (85, some 35), (85, some 37), (87, none), (89, none), (93, none), (94, none), (99, none)] u0 u ∧ msI u ∧ unI u ∧ cdI u) (ac_B (dC, dI) vwCl (ac_ty cA) ad cA (TT nF) A) A) [.ref (ad 85), .int p0].toArray s 0 0 A) (F0 m 215 ls []) := by
    intro n215
    induction n215 with
    | zero => intro x2 x3 u H locs ls hR hF hn215 hK_MS hK_UI hK_CW hK_BI f0 f1 f2 f3 f4 f5 f6 f7 hP hD hS hl; exfalso; omega
    | succ n215 ih215 =>
      intro x2 x3 u H locs ls hR hF hn215 hK_MS hK_UI hK_CW hK_BI f0 f1 f2 f3 f4 f5 f6 f7 hP hD hS hl
      refine lv_iload_n F.1 F.2.1 dX12_daybook_215 rfl (lv_at hl 3 rfl) ?_
      refine a_sp F (370 : Int32) dX12_daybook_216 (by decide) ?_
      refine b_ge F 251 dX12_daybook_219 (by decide) rfl ic_370 (fun c6 => ?_) (fun c6 => ?_)
      · have g7 : (0 : Int) ≤ (u.1 85 11).toInt ∧ (u.1 85 11).toInt ≤ 4 := hR 85 11
        have g8 : (0 : Int) ≤ (u.1 85 37).toInt ∧ (u.1 85 37).toInt ≤ 1 := hR 85 37
        exact L251 x2 _ _ _ _ hR hF hK_MS hK_UI hK_CW hK_BI (by omega) (by omega) (by omega : (0 : Int) ≤ (u.1 85 11).toInt ∧ (u.1 85 11).toInt ≤ 0) (by omega : (1 : Int) ≤ (u.1 85 37).toInt ∧ (u.1 85 37).toInt ≤ 1) (by omega : (0 : Int) ≤ (u.1 99 2).toInt ∧ (u.1 99 2).toInt ≤ 480) hP hD hS (lv_sub hl [0, 1, 2] rfl)
      · refine lv_aload_n F.1 F.2.1 dX12_daybook_222 rfl (lv_at hl 0 rfl) ?_
        refine a_getr F inX12 hP 85 22 tc_85 rfl rfl (by decide) q1493 (fun _ h9 => h9) dX12_daybook_223 ?_
        refine a_sp F (370 : Int32) dX12_daybook_226 (by decide) ?_
        refine lv_aload_n F.1 F.2.1 dX12_daybook_229 rfl (lv_at hl 0 rfl) ?_
        have g9 : (0 : Int) ≤ (u.1 85 24).toInt ∧ (u.1 85 24).toInt ≤ 8 := hR 85 24
        refine a_geti F inX12 hP 85 24 tc_85 rfl rfl (by decide) q1495 (fun _ h9 => h9) (v := (u.1 85 24)) rfl dX12_daybook_230 ?_
        refine a_ic F (1 : Int32) dX12_daybook_233 (by decide) ?_
        refine a_isub F dX12_daybook_234 rfl ic_1 (by omega) (fun v10 hv10 => ?_)
        refine a_imul F dX12_daybook_235 ic_370 rfl (by omega) (fun v11 hv11 => ?_)
        refine lv_iload_n F.1 F.2.1 dX12_daybook_236 rfl (lv_at hl 3 rfl) ?_
        refine a_iadd F dX12_daybook_237 rfl rfl (by omega) (fun v12 hv12 => ?_)
        refine lv_aload_n F.1 F.2.1 dX12_daybook_238 rfl (lv_at hl 0 rfl) ?_
        refine a_getr F inX12 hP 85 23 tc_85 rfl rfl (by decide) q1494 (fun _ h9 => h9) dX12_daybook_239 ?_
        refine lv_iload_n F.1 F.2.1 dX12_daybook_242 rfl (lv_at hl 3 rfl) ?_
        refine a_iald F hP 94 tc_94 rfl (i_in rfl (by omega)) dX12_daybook_243 (fun v13 ev13 => ?_)
        refine a_iast F hP hD hS 93 tc_93 rfl (i_in rfl (by omega)) dX12_daybook_244 (fun H locs hP hD hS => ?_)
        have hR := hR.si (c := 93) (k := v12.toNatClampNeg) (v := v13) (cp_el hR ev13 (rg_u5 (m := (u.1 85 24).toInt - 1) (by omega) (by omega) (by omega)))
        have hF := hF.si (c := 93) (k := v12.toNatClampNeg) (v := v13) rfl
        have hO_MS := hK_MS
        have hO_UI := hK_UI
        have hO_CW := hK_CW
        have hO_BI := hK_BI
        have hK_MS := sp_sgD sp_MS hD hK_MS (by decide)
        have hK_UI := un_w3 hO_UI (i := v12) (v := v13) (x := x3.toInt) (by omega) (by omega) (by omega) (fun q9 => bf_get hO_BI ev13 (by omega))
        have hK_CW := sp_sgD sp_CW hD hK_CW (by decide)
        have hK_BI := sp_sgD sp_BI hD hK_BI (by decide)
        refine a_iinc F (k := 3) (fun v14 => [(3, .int v14), (0, .ref (ad 85)), (1, .int p0), (2, .int x2)]) dX12_daybook_245 hl rfl rfl (by decide) (by omega) (by decide) (fun _ => rfl) (fun v14 ls hv14 hl => ?_)
        refine lv_goto (tgt := 215) F.1 F.2.1 dX12_daybook_248 (by decide) ?_
        have g15 : (0 : Int) ≤ (u.1 85 11).toInt ∧ (u.1 85 11).toInt ≤ 4 := hR 85 11
        have g16 : (0 : Int) ≤ (u.1 85 37).toInt ∧ (u.1 85 37).toInt ≤ 1 := hR 85 37
        exact ih215 x2 v14 _ _ _ _ hR hF (by omega) hK_MS hK_UI hK_CW hK_BI (by omega) (by omega) (by omega) (by omega : (0 : Int) ≤ (u.1 85 11).toInt ∧ (u.1 85 11).toInt ≤ 0) (by omega : (1 : Int) ≤ (u.1 85 24).toInt ∧ (u.1 85 24).toInt ≤ 8) (by omega : (1 : Int) ≤ (u.1 85 37).toInt ∧ (u.1 85 37).toInt ≤ 1) (by omega : (1 : Int) ≤ (u.1 99 1).toInt) (by omega : (0 : Int) ≤ (u.1 99 2).toInt ∧ (u.1 99 2).toInt ≤ 480) hP hD hS (lv_sub hl [1, 2, 3, 0] rfl)
  have L166 : ∀ (x2 : Int32) (u : ac_U) (H : Heap) (locs : List Loc) (ls : Array Slot), ac_R rg u → ac_Fr [(85, some 0), (85, some 2), (85, some 3), (85, some 4), (85, some 5), (85, some 11), (85, some 12), (85, some 13), (85, some 14), (85, some 15), (85, some 16), (85, some 18), (85, some 24), (85, some 35), (85, some 37), (87, none), (89, none), (93, none), (94, none), (99, none)] u0 u → msI u → unI u → cdI u → bfI u → blI u → (0 : Int) ≤ p0.toInt ∧ p0.toInt ≤ 1 → (-1 : Int) ≤ x2.toInt ∧ x2.toInt ≤ 39 → (0 : Int) ≤ (u.1 85 0).toInt ∧ (u.1 85 0).toInt ≤ 0 → (0 : Int) ≤ (u.1 85 11).toInt ∧ (u.1 85 11).toInt ≤ 0 → va_P (dC, dI) vwCl (ac_w ad cA (TT nF) u) H → va_D A (ac_w ad cA (TT nF) u) → va_S A s.heap H locs → lv_has ls 4 [(0, .ref (ad 85)), (1, .int p0), (2, .int x2)] → W p l e (ac_rm 8) s m [.ref (ad 85), .int p0].toArray below meth c H locs 0 0 (MQ below (va_Qi (fun (r : Int32) (u : ac_U) => ac_R rg u ∧ ac_Fr [(85, some 0), (85, some 2), (85, some 3), (85, some 4), (85, some 5), (85, some 11), (85, some 12), (85, some 13), (85, some 14), (85, some 15), (85, some 16), (85, some 18), (85, some 24), (85, some 35), (85, some 37), (87, none), (89, none), (93, none), (94, none), (99, none)] u0 u ∧ msI u ∧ unI u ∧ cdI u) (ac_B (dC, dI) vwCl (ac_ty cA) ad cA (TT nF) A) A) [.ref (ad 85), .int p0].toArray s 0 0 A) (F0 m 166 ls []) := by
    intro x2 u H locs ls hR hF hK_MS hK_UI hK_CW hK_BI hK_BLI f0 f1 f2 f3 hP hD hS hl
    refine lv_aload_n F.1 F.2.1 dX12_daybook_166 rfl (lv_at hl 0 rfl) ?_
    refine a_getr F inX12 hP 85 36 tc_85 rfl rfl (by decide) q1507 (fun _ h9 => h9) dX12_daybook_167 ?_
    refine a_ic F (2 : Int32) dX12_daybook_170 (by decide) ?_
    refine lv_aload_n F.1 F.2.1 dX12_daybook_171 rfl (lv_at hl 0 rfl) ?_
    refine a_getr F inX12 hP 85 6 tc_85 rfl rfl (by decide) q1477 (fun _ h9 => h9) dX12_daybook_172 ?_
    refine a_bp F (106 : Int32) dX12_daybook_175 (by decide) ?_
    have g17 : (0 : Int) ≤ (u.1 87 106).toInt ∧ (u.1 87 106).toInt ≤ 480 := hR 87 106
    refine a_ialdK F hP 87 106 tc_87 rfl rfl (i_in ic_106 (by omega)) (v := (u.1 87 106)) rfl dX12_daybook_177 ?_
    refine a_iastK F hP hD hS 99 2 tc_99 rfl rfl (i_in ic_2 (by omega)) dX12_daybook_178 (fun H locs hP hD hS => ?_)
    have hR := hR.si (c := 99) (k := 2) (v := (u.1 87 106)) ⟨i_lo _, i_hi _⟩
    have hF := hF.si (c := 99) (k := 2) (v := (u.1 87 106)) rfl
    have hK_MS := sp_sgD sp_MS hD hK_MS (by decide)
    have hK_UI := sp_sgD sp_UI hD hK_UI (by decide)
    have hK_CW := sp_sgD sp_CW hD hK_CW (by decide)
    have hK_BI := sp_sgD sp_BI hD hK_BI (by decide)
    have hK_BLI := sp_sgD sp_BLI hD hK_BLI (by decide)
    refine lv_aload_n F.1 F.2.1 dX12_daybook_179 rfl (lv_at hl 0 rfl) ?_
    refine a_getr F inX12 hP 85 36 tc_85 rfl rfl (by decide) q1507 (fun _ h9 => h9) dX12_daybook_180 ?_
    refine a_ic F (3 : Int32) dX12_daybook_183 (by decide) ?_
    refine lv_aload_n F.1 F.2.1 dX12_daybook_184 rfl (lv_at hl 0 rfl) ?_
    refine a_ic F (5 : Int32) dX12_daybook_185 (by decide) ?_
    have g19 : (0 : Int) ≤ (u.1 85 35).toInt ∧ (u.1 85 35).toInt ≤ 40 := hR 85 35
    refine a_Vi F hml hl.1 hA hP hD hS (As := [.int (5 : Int32)]) (c_X12_now_85 l dC dI ad cA nF _ (5 : Int32) hR) (cs_RX12_407 (d := 7) F.2.2.1 (by decide)) tc_85 rfl rfl rfl rfl (Nat.le_of_ble_eq_true rfl) dX12_daybook_186 ⟨Nat.le_refl 0, Nat.le_refl 0⟩ (fun r18 u18 H locs hq hP hD hS => ?_)
    obtain ⟨hR, hF18⟩ := hq
    have hF := hF.tr hF18 (by decide)
    have hK_MS := sp_fr sp_MS hF18 (by decide) hK_MS
    have hK_UI := sp_fr sp_UI hF18 (by decide) hK_UI
    have hK_CW := sp_fr sp_CW hF18 (by decide) hK_CW
    have hK_BI := sp_fr sp_BI hF18 (by decide) hK_BI
    have hK_BLI := sp_fr sp_BLI hF18 (by decide) hK_BLI
    refine a_iastK F hP hD hS 99 3 tc_99 rfl rfl (i_in ic_3 (by omega)) dX12_daybook_189 (fun H locs hP hD hS => ?_)
    have hR := hR.si (c := 99) (k := 3) (v := r18) ⟨i_lo _, i_hi _⟩
    have hF := hF.si (c := 99) (k := 3) (v := r18) rfl
    have hK_MS := sp_sgD sp_MS hD hK_MS (by decide)
    have hK_UI := sp_sgD sp_UI hD hK_UI (by decide)
    have hK_CW := sp_sgD sp_CW hD hK_CW (by decide)
    have hK_BI := sp_sgD sp_BI hD hK_BI (by decide)
    have hK_BLI := sp_sgD sp_BLI hD hK_BLI (by decide)
    refine lv_aload_n F.1 F.2.1 dX12_daybook_190 rfl (lv_at hl 0 rfl) ?_
    refine a_ic F (1 : Int32) dX12_daybook_191 (by decide) ?_
    refine a_puti F inX12 tyX12 tyX12_ok nmX12 hP hD hS 85 37 tc_85 rfl rfl (by decide) q1508 (fun _ h9 => h9) rfl (ty := .boolean) (tyX12_ok 37 (by decide)) (i_zn (Or.inr rfl)) (i_zf (Or.inr rfl)) dX12_daybook_192 (fun H locs hP hD hS => ?_)
    have hR := hR.si (c := 85) (k := 37) (v := (1 : Int32)) (by rw [ic_1]; exact (by omega : (0 : Int) ≤ (1 : Int) ∧ (1 : Int) ≤ 1))
    have hF := hF.si (c := 85) (k := 37) (v := (1 : Int32)) rfl
    have hK_MS := sp_sgD sp_MS hD hK_MS (by decide)
    have hK_UI := sp_si sp_UI hK_UI (c := 85) (k := 37) (v := (1 : Int32)) (fun j9 h9 q9 => by rw [q9] at h9; exact absurd h9 (by decide))
    have hK_CW := sp_sgD sp_CW hD hK_CW (by decide)
    have hK_BI := sp_sgD sp_BI hD hK_BI (by decide)
    have hK_BLI := sp_si sp_BLI hK_BLI (c := 85) (k := 37) (v := (1 : Int32)) (fun j9 h9 q9 => by rw [q9] at h9; exact absurd h9 (by decide))
    refine lv_iload_n F.1 F.2.1 dX12_daybook_195 rfl (lv_at hl 1 rfl) ?_
    refine a_ic F (1 : Int32) dX12_daybook_196 (by decide) ?_
    refine b_ne F 251 dX12_daybook_197 (by decide) rfl ic_1 (fun c20 => ?_) (fun c20 => ?_)
    · exact L251 x2 _ _ _ _ hR hF hK_MS hK_UI hK_CW hK_BI (by omega) (by omega) (i_trB (hF18 85 11 rfl) (by omega : (0 : Int) ≤ (u.1 85 11).toInt ∧ (u.1 85 11).toInt ≤ 0)) (by omega : (1 : Int) ≤ (1 : Int) ∧ (1 : Int) ≤ 1) (i_trB (hF18 99 2 rfl) (by omega : (0 : Int) ≤ (u.1 87 106).toInt ∧ (u.1 87 106).toInt ≤ 480)) hP hD hS (lv_sub hl [0, 1, 2] rfl)
    · refine lv_aload_n F.1 F.2.1 dX12_daybook_200 rfl (lv_at hl 0 rfl) ?_
      refine a_getr F inX12 hP 85 36 tc_85 rfl rfl (by decide) q1507 (fun _ h9 => h9) dX12_daybook_201 ?_
      refine a_ic F (1 : Int32) dX12_daybook_204 (by decide) ?_
      refine a_ialdK F hP 99 1 tc_99 rfl rfl (i_in ic_1 (by omega)) (v := (u18.1 99 1)) rfl dX12_daybook_205 ?_
      refine z_le F 251 dX12_daybook_206 (by decide) rfl (fun c21 => ?_) (fun c21 => ?_)
      · exact L251 x2 _ _ _ _ hR hF hK_MS hK_UI hK_CW hK_BI (by omega) (by omega) (i_trB (hF18 85 11 rfl) (by omega : (0 : Int) ≤ (u.1 85 11).toInt ∧ (u.1 85 11).toInt ≤ 0)) (by omega : (1 : Int) ≤ (1 : Int) ∧ (1 : Int) ≤ 1) (i_trB (hF18 99 2 rfl) (by omega : (0 : Int) ≤ (u.1 87 106).toInt ∧ (u.1 87 106).toInt ≤ 480)) hP hD hS (lv_sub hl [0, 1, 2] rfl)
      · refine lv_aload_n F.1 F.2.1 dX12_daybook_209 rfl (lv_at hl 0 rfl) ?_
        refine a_Vv F hml hl.1 hA hP hD hS (As := []) (c_X12_keep_85__2 l dC dI ad cA nF _  hR hK_MS hK_UI) (cs_RX12_269 (d := 1) F.2.2.1 (by decide)) tc_85 rfl rfl rfl rfl (Nat.le_of_ble_eq_true rfl) dX12_daybook_210 ⟨Nat.le_refl 0, Nat.le_refl 0⟩ (fun u22 H locs hq hP hD hS => ?_)
        obtain ⟨hR, hF22, xr22, hK_MS, hK_UI⟩ := hq
        have hF := hF.tr hF22 (by decide)
        have hK_CW := sp_fr sp_CW hF22 (by decide) hK_CW
        have hK_BI := sp_fr sp_BI hF22 (by decide) hK_BI
        have hK_BLI := sp_fr sp_BLI hF22 (by decide) hK_BLI
        have g23 : (0 : Int) ≤ (u22.1 85 24).toInt ∧ (u22.1 85 24).toInt ≤ 8 := hR 85 24
        have xr22 : 1 ≤ (u22.1 85 24).toInt := xr22
        refine a_ic F (0 : Int32) dX12_daybook_213 (by decide) ?_
        refine lv_istore_n (lv' := [(3, .int (0 : Int32)), (0, .ref (ad 85)), (1, .int p0), (2, .int x2)]) F.1 F.2.1 dX12_daybook_214 rfl hl (by decide) rfl (fun ls hl => ?_)
        exact L215 372 x2 (0 : Int32) _ _ _ _ hR hF (by decide) hK_MS hK_UI hK_CW hK_BI (by omega) (by omega) (by decide) (i_trB ((hF22 85 11 rfl).trans (hF18 85 11 rfl)) (by omega : (0 : Int) ≤ (u.1 85 11).toInt ∧ (u.1 85 11).toInt ≤ 0)) (by omega : (1 : Int) ≤ (u22.1 85 24).toInt ∧ (u22.1 85 24).toInt ≤ 8) (i_trB (hF22 85 37 rfl) (by omega : (1 : Int) ≤ (1 : Int) ∧ (1 : Int) ≤ 1)) (i_trL (hF22 99 1 rfl) (by omega : (1 : Int) ≤ (u18.1 99 1).toInt)) (i_trB ((hF22 99 2 rfl).trans (hF18 99 2 rfl)) (by omega : (0 : Int) ≤ (u.1 87 106).toInt ∧ (u.1 87 106).toInt ≤ 480)) hP hD hS (lv_sub hl [1, 2, 3, 0] rfl)
  have L111 : ∀ (n111 : Nat) (x2 : Int32) (x3 : Int32) (u : ac_U) (H : Heap) (locs : List Loc) (ls : Array Slot), ac_R rg u → ac_Fr [(85, some 0), (85, some 2), (85, some 3), (85, some 4), (85, some 5), (85, some 11), (85, some 12), (85, some 13), (85, some 14), (85, some 15), (85, some 16), (85, some 18), (85, some 24), (85, some 35), (85, some 37), (87, none), (89, none), (93, none), (94, none), (99, none)] u0 u → 40 - x3.toInt < (n111 : Int) → msI u → unI u → cdI u → bfI u → blI u → (0 : Int) ≤ p0.toInt ∧ p0.toInt ≤ 1 → (-1 : Int) ≤ x2.toInt ∧ x2.toInt ≤ 39 → (0 : Int) ≤ x3.toInt ∧ x3.toInt ≤ 40 → (0 : Int) ≤ (u.1 85 0).toInt ∧ (u.1 85 0).toInt ≤ 0 → (0 : Int) ≤ (u.1 85 11).toInt ∧ (u.1 85 11).toInt ≤ 0 → va_P (dC, dI) vwCl (ac_w ad cA (TT nF) u) H → va_D A (ac_w ad cA (TT nF) u) → va_S A s.heap H locs → lv_has ls 4 [(0, .ref (ad 85)), (1, .int p0), (2, .int x2), (3, .int x3)] → W p l e (ac_rm 8) s m [.ref (ad 85), .int p0].toArray below meth c H locs 0 0 (MQ below (va_Qi (fun (r : Int32) (u : ac_U) => ac_R rg u ∧ ac_Fr [(85, some 0), (85, some 2), (85, some 3), (85, some 4), (85, some 5), (85, some 11), (85, some 12), (85, some 13), (85, some 14), (85, some 15), (85, some 16), (85, some 18), (85, some 24), (85, some 35), (85, some 37), (87, none), (89, none), (93, none), (94, none), (99, none)] u0 u ∧ msI u ∧ unI u ∧ cdI u) (ac_B (dC, dI) vwCl (ac_ty cA) ad cA (TT nF) A) A) [.ref (ad 85), .int p0].toArray s 0 0 A) (F0 m 111 ls []) := by
    intro n111
    induction n111 with
    | zero => intro x2 x3 u H locs ls hR hF hn111 hK_MS hK_UI hK_CW hK_BI hK_BLI f0 f1 f2 f3 f4 hP hD hS hl; exfalso; omega
    | succ n111 ih111 =>
      intro x2 x3 u H locs ls hR hF hn111 hK_MS hK_UI hK_CW hK_BI hK_BLI f0 f1 f2 f3 f4 hP hD hS hl
      have L160 : ∀ (x2 : Int32) (x3 : Int32) (u : ac_U) (H : Heap) (locs : List Loc) (ls : Array Slot), ac_R rg u → ac_Fr [(85, some 0), (85, some 2), (85, some 3), (85, some 4), (85, some 5), (85, some 11), (85, some 12), (85, some 13), (85, some 14), (85, some 15), (85, some 16), (85, some 18), (85, some 24), (85, some 35), (85, some 37), (87, none), (89, none), (93, none), (94, none), (99, none)] u0 u → msI u → unI u → cdI u → bfI u → blI u → (0 : Int) ≤ p0.toInt ∧ p0.toInt ≤ 1 → (-1 : Int) ≤ x2.toInt ∧ x2.toInt ≤ 39 → (0 : Int) ≤ x3.toInt ∧ x3.toInt ≤ 39 → (0 : Int) ≤ (u.1 85 0).toInt ∧ (u.1 85 0).toInt ≤ 0 → (0 : Int) ≤ (u.1 85 11).toInt ∧ (u.1 85 11).toInt ≤ 0 → (1 : Int) ≤ (u.1 85 35).toInt ∧ (u.1 85 35).toInt ≤ 40 → (0 : Int) ≤ (u.1 99 0).toInt ∧ (u.1 99 0).toInt ≤ 6 → 40 - x3.toInt + 0 < ((n111 : Nat) : Int) + 1 → va_P (dC, dI) vwCl (ac_w ad cA (TT nF) u) H → va_D A (ac_w ad cA (TT nF) u) → va_S A s.heap H locs → lv_has ls 4 [(0, .ref (ad 85)), (1, .int p0), (2, .int x2), (3, .int x3)] → W p l e (ac_rm 8) s m [.ref (ad 85), .int p0].toArray below meth c H locs 0 0 (MQ below (va_Qi (fun (r : Int32) (u : ac_U) => ac_R rg u ∧ ac_Fr [(85, some 0), (85, some 2), (85, some 3), (85, some 4), (85, some 5), (85, some 11), (85, some 12), (85, some 13), (85, some 14), (85, some 15), (85, some 16), (85, some 18), (85, some 24), (85, some 35), (85, some 37), (87, none), (89, none), (93, none), (94, none), (99, none)] u0 u ∧ msI u ∧ unI u ∧ cdI u) (ac_B (dC, dI) vwCl (ac_ty cA) ad cA (TT nF) A) A) [.ref (ad 85), .int p0].toArray s 0 0 A) (F0 m 160 ls []) := by
        intro x2 x3 u H locs ls hR hF hK_MS hK_UI hK_CW hK_BI hK_BLI f0 f1 f2 f3 f4 f5 f6 f7 hP hD hS hl
        refine a_iinc F (k := 3) (fun v24 => [(3, .int v24), (0, .ref (ad 85)), (1, .int p0), (2, .int x2)]) dX12_daybook_160 hl rfl rfl (by decide) (by omega) (by decide) (fun _ => rfl) (fun v24 ls hv24 hl => ?_)
        refine lv_goto (tgt := 111) F.1 F.2.1 dX12_daybook_163 (by decide) ?_
        have g25 : (0 : Int) ≤ (u.1 85 0).toInt ∧ (u.1 85 0).toInt ≤ 1 := hR 85 0
        have g26 : (0 : Int) ≤ (u.1 85 11).toInt ∧ (u.1 85 11).toInt ≤ 4 := hR 85 11
        exact ih111 x2 v24 _ _ _ _ hR hF (by omega) hK_MS hK_UI hK_CW hK_BI hK_BLI (by omega) (by omega) (by omega) (by omega : (0 : Int) ≤ (u.1 85 0).toInt ∧ (u.1 85 0).toInt ≤ 0) (by omega : (0 : Int) ≤ (u.1 85 11).toInt ∧ (u.1 85 11).toInt ≤ 0) hP hD hS (lv_sub hl [1, 2, 3, 0] rfl)
      refine lv_iload_n F.1 F.2.1 dX12_daybook_111 rfl (lv_at hl 3 rfl) ?_
      refine lv_aload_n F.1 F.2.1 dX12_daybook_112 rfl (lv_at hl 0 rfl) ?_
      have g27 : (0 : Int) ≤ (u.1 85 35).toInt ∧ (u.1 85 35).toInt ≤ 40 := hR 85 35
      refine a_geti F inX12 hP 85 35 tc_85 rfl rfl (by decide) q1506 (fun _ h9 => h9) (v := (u.1 85 35)) rfl dX12_daybook_113 ?_
      refine b_ge F 166 dX12_daybook_116 (by decide) rfl rfl (fun c28 => ?_) (fun c28 => ?_)
      · have g29 : (0 : Int) ≤ (u.1 85 0).toInt ∧ (u.1 85 0).toInt ≤ 1 := hR 85 0
        have g30 : (0 : Int) ≤ (u.1 85 11).toInt ∧ (u.1 85 11).toInt ≤ 4 := hR 85 11
        exact L166 x2 _ _ _ _ hR hF hK_MS hK_UI hK_CW hK_BI hK_BLI (by omega) (by omega) (by omega : (0 : Int) ≤ (u.1 85 0).toInt ∧ (u.1 85 0).toInt ≤ 0) (by omega : (0 : Int) ≤ (u.1 85 11).toInt ∧ (u.1 85 11).toInt ≤ 0) hP hD hS (lv_sub hl [0, 1, 2] rfl)
      · refine lv_iload_n F.1 F.2.1 dX12_daybook_119 rfl (lv_at hl 2 rfl) ?_
        refine z_ge F 166 dX12_daybook_120 (by decide) rfl (fun c31 => ?_) (fun c31 => ?_)
        · have g32 : (0 : Int) ≤ (u.1 85 0).toInt ∧ (u.1 85 0).toInt ≤ 1 := hR 85 0
          have g33 : (0 : Int) ≤ (u.1 85 11).toInt ∧ (u.1 85 11).toInt ≤ 4 := hR 85 11
          exact L166 x2 _ _ _ _ hR hF hK_MS hK_UI hK_CW hK_BI hK_BLI (by omega) (by omega) (by omega : (0 : Int) ≤ (u.1 85 0).toInt ∧ (u.1 85 0).toInt ≤ 0) (by omega : (0 : Int) ≤ (u.1 85 11).toInt ∧ (u.1 85 11).toInt ≤ 0) hP hD hS (lv_sub hl [0, 1, 2] rfl)
        · refine lv_aload_n F.1 F.2.1 dX12_daybook_123 rfl (lv_at hl 0 rfl) ?_
          refine a_getr F inX12 hP 85 36 tc_85 rfl rfl (by decide) q1507 (fun _ h9 => h9) dX12_daybook_124 ?_
          refine a_ic F (0 : Int32) dX12_daybook_127 (by decide) ?_
          refine lv_aload_n F.1 F.2.1 dX12_daybook_128 rfl (lv_at hl 0 rfl) ?_
          refine a_ic F (3 : Int32) dX12_daybook_129 (by decide) ?_
          refine lv_iload_n F.1 F.2.1 dX12_daybook_130 rfl (lv_at hl 3 rfl) ?_
          refine a_imul F dX12_daybook_131 ic_3 rfl (by omega) (fun v34 hv34 => ?_)
          refine a_Vi F hml hl.1 hA hP hD hS (As := [.int v34]) (c_X12_lives_85 l dC dI ad cA nF _ v34 hR (by omega) (by exact (by omega : v34.toInt < 3 * (u.1 85 35).toInt ∧ v34.toInt % 3 = 0)) hK_MS hK_BLI) (cs_RX12_404 (d := 3) F.2.2.1 (by decide)) tc_85 rfl rfl rfl rfl (Nat.le_of_ble_eq_true rfl) dX12_daybook_132 ⟨Nat.le_refl 0, Nat.le_refl 0⟩ (fun r35 u35 H locs hq hP hD hS => ?_)
          obtain ⟨hR, hF35, gr35, hK_MS, hJ35_CW, hJ35_UI, hJ35_BI⟩ := hq
          have hF := hF.tr hF35 (by decide)
          have hK_UI := hJ35_UI hK_UI
          have hK_CW := hJ35_CW hK_CW
          have hK_BI := hJ35_BI hK_BI
          have hK_BLI := sp_fr sp_BLI hF35 (by decide) hK_BLI
          refine a_iastK F hP hD hS 99 0 tc_99 rfl rfl (i_in ic_0 (by omega)) dX12_daybook_135 (fun H locs hP hD hS => ?_)
          have hR := hR.si (c := 99) (k := 0) (v := r35) ⟨i_lo _, i_hi _⟩
          have hF := hF.si (c := 99) (k := 0) (v := r35) rfl
          have hK_MS := sp_sgD sp_MS hD hK_MS (by decide)
          have hK_UI := sp_sgD sp_UI hD hK_UI (by decide)
          have hK_CW := sp_sgD sp_CW hD hK_CW (by decide)
          have hK_BI := sp_sgD sp_BI hD hK_BI (by decide)
          have hK_BLI := sp_sgD sp_BLI hD hK_BLI (by decide)
          refine lv_aload_n F.1 F.2.1 dX12_daybook_136 rfl (lv_at hl 0 rfl) ?_
          refine a_getr F inX12 hP 85 36 tc_85 rfl rfl (by decide) q1507 (fun _ h9 => h9) dX12_daybook_137 ?_
          refine a_ic F (0 : Int32) dX12_daybook_140 (by decide) ?_
          refine a_ialdK F hP 99 0 tc_99 rfl rfl (i_in ic_0 (by omega)) (v := r35) (rfl) dX12_daybook_141 ?_
          refine z_le F 150 dX12_daybook_142 (by decide) rfl (fun c36 => ?_) (fun c36 => ?_)
          · refine lv_aload_n F.1 F.2.1 dX12_daybook_150 rfl (lv_at hl 0 rfl) ?_
            refine a_getr F inX12 hP 85 36 tc_85 rfl rfl (by decide) q1507 (fun _ h9 => h9) dX12_daybook_151 ?_
            refine a_ic F (1 : Int32) dX12_daybook_154 (by decide) ?_
            refine lv_dup2_11 F.1 F.2.1 dX12_daybook_155 rfl rfl ?_
            refine a_ialdK F hP 99 1 tc_99 rfl rfl (i_in ic_1 (by omega)) (v := (u35.1 99 1)) rfl dX12_daybook_156 ?_
            refine a_ic F (1 : Int32) dX12_daybook_157 (by decide) ?_
            refine a_iaddU F dX12_daybook_158 (fun v37 => ?_)
            refine a_iastK F hP hD hS 99 1 tc_99 rfl rfl (i_in ic_1 (by omega)) dX12_daybook_159 (fun H locs hP hD hS => ?_)
            have hR := hR.si (c := 99) (k := 1) (v := v37) ⟨i_lo _, i_hi _⟩
            have hF := hF.si (c := 99) (k := 1) (v := v37) rfl
            have hK_MS := sp_sgD sp_MS hD hK_MS (by decide)
            have hK_UI := sp_sgD sp_UI hD hK_UI (by decide)
            have hK_CW := sp_sgD sp_CW hD hK_CW (by decide)
            have hK_BI := sp_sgD sp_BI hD hK_BI (by decide)
            have hK_BLI := sp_sgD sp_BLI hD hK_BLI (by decide)
            exact L160 x2 x3 _ _ _ _ hR hF hK_MS hK_UI hK_CW hK_BI hK_BLI (by omega) (by omega) (by omega) (i_trB (hF35 85 0 rfl) (by omega : (0 : Int) ≤ (u.1 85 0).toInt ∧ (u.1 85 0).toInt ≤ 0)) (i_trB (hF35 85 11 rfl) (by omega : (0 : Int) ≤ (u.1 85 11).toInt ∧ (u.1 85 11).toInt ≤ 0)) (i_trB (hF35 85 35 rfl) (by omega : (1 : Int) ≤ (u.1 85 35).toInt ∧ (u.1 85 35).toInt ≤ 40)) (by omega : (0 : Int) ≤ r35.toInt ∧ r35.toInt ≤ 6) (by omega) hP hD hS (lv_sub hl [0, 1, 2, 3] rfl)
          · refine lv_iload_n F.1 F.2.1 dX12_daybook_145 rfl (lv_at hl 3 rfl) ?_
            refine lv_istore_n (lv' := [(2, .int x3), (0, .ref (ad 85)), (1, .int p0), (3, .int x3)]) F.1 F.2.1 dX12_daybook_146 rfl hl (by decide) rfl (fun ls hl => ?_)
            refine lv_goto (tgt := 160) F.1 F.2.1 dX12_daybook_147 (by decide) ?_
            exact L160 x3 x3 _ _ _ _ hR hF hK_MS hK_UI hK_CW hK_BI hK_BLI (by omega) (by omega) (by omega) (i_trB (hF35 85 0 rfl) (by omega : (0 : Int) ≤ (u.1 85 0).toInt ∧ (u.1 85 0).toInt ≤ 0)) (i_trB (hF35 85 11 rfl) (by omega : (0 : Int) ≤ (u.1 85 11).toInt ∧ (u.1 85 11).toInt ≤ 0)) (i_trB (hF35 85 35 rfl) (by omega : (1 : Int) ≤ (u.1 85 35).toInt ∧ (u.1 85 35).toInt ≤ 40)) (by omega : (0 : Int) ≤ r35.toInt ∧ r35.toInt ≤ 6) (by omega) hP hD hS (lv_sub hl [1, 2, 0, 3] rfl)
  have L89 : ∀ (n89 : Nat) (x2 : Int32) (u : ac_U) (H : Heap) (locs : List Loc) (ls : Array Slot), ac_R rg u → ac_Fr [(85, some 0), (85, some 2), (85, some 3), (85, some 4), (85, some 5), (85, some 11), (85, some 12), (85, some 13), (85, some 14), (85, some 15), (85, some 16), (85, some 18), (85, some 24), (85, some 35), (85, some 37), (87, none), (89, none), (93, none), (94, none), (99, none)] u0 u → 4 - x2.toInt < (n89 : Int) → msI u → unI u → cdI u → bfI u → blI u → (0 : Int) ≤ p0.toInt ∧ p0.toInt ≤ 1 → (0 : Int) ≤ x2.toInt ∧ x2.toInt ≤ 4 → (0 : Int) ≤ (u.1 85 0).toInt ∧ (u.1 85 0).toInt ≤ 0 → (0 : Int) ≤ (u.1 85 11).toInt ∧ (u.1 85 11).toInt ≤ 0 → va_P (dC, dI) vwCl (ac_w ad cA (TT nF) u) H → va_D A (ac_w ad cA (TT nF) u) → va_S A s.heap H locs → lv_has ls 4 [(0, .ref (ad 85)), (1, .int p0), (2, .int x2)] → W p l e (ac_rm 8) s m [.ref (ad 85), .int p0].toArray below meth c H locs 0 0 (MQ below (va_Qi (fun (r : Int32) (u : ac_U) => ac_R rg u ∧ ac_Fr [(85, some 0), (85, some 2), (85, some 3), (85, some 4), (85, some 5), (85, some 11), (85, some 12), (85, some 13), (85, some 14), (85, some 15), (85, some 16), (85, some 18), (85, some 24), (85, some 35), (85, some 37), (87, none), (89, none), (93, none), (94, none), (99, none)] u0 u ∧ msI u ∧ unI u ∧ cdI u) (ac_B (dC, dI) vwCl (ac_ty cA) ad cA (TT nF) A) A) [.ref (ad 85), .int p0].toArray s 0 0 A) (F0 m 89 ls []) := by
    intro n89
    induction n89 with
    | zero => intro x2 u H locs ls hR hF hn89 hK_MS hK_UI hK_CW hK_BI hK_BLI f0 f1 f2 f3 hP hD hS hl; exfalso; omega
    | succ n89 ih89 =>
      intro x2 u H locs ls hR hF hn89 hK_MS hK_UI hK_CW hK_BI hK_BLI f0 f1 f2 f3 hP hD hS hl
      refine lv_iload_n F.1 F.2.1 dX12_daybook_89 rfl (lv_at hl 2 rfl) ?_
      refine a_ic F (4 : Int32) dX12_daybook_90 (by decide) ?_
      refine b_ge F 107 dX12_daybook_91 (by decide) rfl ic_4 (fun c38 => ?_) (fun c38 => ?_)
      · refine a_ic F (-1 : Int32) dX12_daybook_107 (by decide) ?_
        refine lv_istore_n (lv' := [(2, .int (-1 : Int32)), (0, .ref (ad 85)), (1, .int p0)]) F.1 F.2.1 dX12_daybook_108 rfl hl (by decide) rfl (fun ls hl => ?_)
        refine a_ic F (0 : Int32) dX12_daybook_109 (by decide) ?_
        refine lv_istore_n (lv' := [(3, .int (0 : Int32)), (2, .int (-1 : Int32)), (0, .ref (ad 85)), (1, .int p0)]) F.1 F.2.1 dX12_daybook_110 rfl hl (by decide) rfl (fun ls hl => ?_)
        have g39 : (0 : Int) ≤ (u.1 85 0).toInt ∧ (u.1 85 0).toInt ≤ 1 := hR 85 0
        have g40 : (0 : Int) ≤ (u.1 85 11).toInt ∧ (u.1 85 11).toInt ≤ 4 := hR 85 11
        exact L111 42 (-1 : Int32) (0 : Int32) _ _ _ _ hR hF (by decide) hK_MS hK_UI hK_CW hK_BI hK_BLI (by omega) (by decide) (by decide) (by omega : (0 : Int) ≤ (u.1 85 0).toInt ∧ (u.1 85 0).toInt ≤ 0) (by omega : (0 : Int) ≤ (u.1 85 11).toInt ∧ (u.1 85 11).toInt ≤ 0) hP hD hS (lv_sub hl [2, 3, 1, 0] rfl)
      · refine lv_aload_n F.1 F.2.1 dX12_daybook_94 rfl (lv_at hl 0 rfl) ?_
        refine a_getr F inX12 hP 85 36 tc_85 rfl rfl (by decide) q1507 (fun _ h9 => h9) dX12_daybook_95 ?_
        refine lv_iload_n F.1 F.2.1 dX12_daybook_98 rfl (lv_at hl 2 rfl) ?_
        refine a_ic F (0 : Int32) dX12_daybook_99 (by decide) ?_
        refine a_iast F hP hD hS 99 tc_99 rfl (i_in rfl (by omega)) dX12_daybook_100 (fun H locs hP hD hS => ?_)
        have hR := hR.si (c := 99) (k := x2.toNatClampNeg) (v := (0 : Int32)) ⟨i_lo _, i_hi _⟩
        have hF := hF.si (c := 99) (k := x2.toNatClampNeg) (v := (0 : Int32)) rfl
        have hK_MS := sp_sgD sp_MS hD hK_MS (by decide)
        have hK_UI := sp_sgD sp_UI hD hK_UI (by decide)
        have hK_CW := sp_sgD sp_CW hD hK_CW (by decide)
        have hK_BI := sp_sgD sp_BI hD hK_BI (by decide)
        have hK_BLI := sp_sgD sp_BLI hD hK_BLI (by decide)
        refine a_iinc F (k := 2) (fun v41 => [(2, .int v41), (0, .ref (ad 85)), (1, .int p0)]) dX12_daybook_101 hl rfl rfl (by decide) (by omega) (by decide) (fun _ => rfl) (fun v41 ls hv41 hl => ?_)
        refine lv_goto (tgt := 89) F.1 F.2.1 dX12_daybook_104 (by decide) ?_
        have g42 : (0 : Int) ≤ (u.1 85 0).toInt ∧ (u.1 85 0).toInt ≤ 1 := hR 85 0
        have g43 : (0 : Int) ≤ (u.1 85 11).toInt ∧ (u.1 85 11).toInt ≤ 4 := hR 85 11
        exact ih89 v41 _ _ _ _ hR hF (by omega) hK_MS hK_UI hK_CW hK_BI hK_BLI (by omega) (by omega) (by omega : (0 : Int) ≤ (u.1 85 0).toInt ∧ (u.1 85 0).toInt ≤ 0) (by omega : (0 : Int) ≤ (u.1 85 11).toInt ∧ (u.1 85 11).toInt ≤ 0) hP hD hS (lv_sub hl [1, 2, 0] rfl)
  have L62 : ∀ (u : ac_U) (H : Heap) (locs : List Loc) (ls : Array Slot), ac_R rg u → ac_Fr [(85, some 0), (85, some 2), (85, some 3), (85, some 4), (85, some 5), (85, some 11), (85, some 12), (85, some 13), (85, some 14), (85, some 15), (85, some 16), (85, some 18), (85, some 24), (85, some 35), (85, some 37), (87, none), (89, none), (93, none), (94, none), (99, none)] u0 u → msI u → unI u → cdI u → (0 : Int) ≤ (u.1 85 0).toInt ∧ (u.1 85 0).toInt ≤ 0 → va_P (dC, dI) vwCl (ac_w ad cA (TT nF) u) H → va_D A (ac_w ad cA (TT nF) u) → va_S A s.heap H locs → lv_has ls 4 [(0, .ref (ad 85))] → W p l e (ac_rm 8) s m [.ref (ad 85), .int p0].toArray below meth c H locs 0 0 (MQ below (va_Qi (fun (r : Int32) (u : ac_U) => ac_R rg u ∧ ac_Fr [(85, some 0), (85, some 2), (85, some 3), (85, some 4), (85, some 5), (85, some 11), (85, some 12), (85, some 13), (85, some 14), (85, some 15), (85, some 16), (85, some 18), (85, some 24), (85, some 35), (85, some 37), (87, none), (89, none), (93, none), (94, none), (99, none)] u0 u ∧ msI u ∧ unI u ∧ cdI u) (ac_B (dC, dI) vwCl (ac_ty cA) ad cA (TT nF) A) A) [.ref (ad 85), .int p0].toArray s 0 0 A) (F0 m 62 ls []) := by
    intro u H locs ls hR hF hK_MS hK_UI hK_CW f0 hP hD hS hl
    refine a_bp F (-2 : Int32) dX12_daybook_62 (by decide) ?_
    refine lv_aload_n F.1 F.2.1 dX12_daybook_64 rfl (lv_at hl 0 rfl) ?_
    refine a_geti F inX12 hP 85 16 tc_85 rfl rfl (by decide) q1487 (fun _ h9 => h9) (v := (u.1 85 16)) rfl dX12_daybook_65 ?_
    refine a_isubU F dX12_daybook_68 (fun v44 => ?_)
    exact a_reti F hr hlocks hP hD hS dX12_daybook_69 ⟨hR, hF, hK_MS, hK_UI, hK_CW⟩
  have L39 : ∀ (n39 : Nat) (u : ac_U) (H : Heap) (locs : List Loc) (ls : Array Slot), ac_R rg u → ac_Fr [(85, some 0), (85, some 2), (85, some 3), (85, some 4), (85, some 5), (85, some 11), (85, some 12), (85, some 13), (85, some 14), (85, some 15), (85, some 16), (85, some 18), (85, some 24), (85, some 35), (85, some 37), (87, none), (89, none), (93, none), (94, none), (99, none)] u0 u → 41 - (u.1 85 35).toInt < (n39 : Int) → msI u → unI u → cdI u → blI u → (0 : Int) ≤ p0.toInt ∧ p0.toInt ≤ 1 → (0 : Int) ≤ (u.1 85 0).toInt ∧ (u.1 85 0).toInt ≤ 0 → (0 : Int) ≤ (u.1 85 35).toInt ∧ (u.1 85 35).toInt ≤ 40 → va_P (dC, dI) vwCl (ac_w ad cA (TT nF) u) H → va_D A (ac_w ad cA (TT nF) u) → va_S A s.heap H locs → lv_has ls 4 [(0, .ref (ad 85)), (1, .int p0)] → W p l e (ac_rm 8) s m [.ref (ad 85), .int p0].toArray below meth c H locs 0 0 (MQ below (va_Qi (fun (r : Int32) (u : ac_U) => ac_R rg u ∧ ac_Fr [(85, some 0), (85, some 2), (85, some 3), (85, some 4), (85, some 5), (85, some 11), (85, some 12), (85, some 13), (85, some 14), (85, some 15), (85, some 16), (85, some 18), (85, some 24), (85, some 35), (85, some 37), (87, none), (89, none), (93, none), (94, none), (99, none)] u0 u ∧ msI u ∧ unI u ∧ cdI u) (ac_B (dC, dI) vwCl (ac_ty cA) ad cA (TT nF) A) A) [.ref (ad 85), .int p0].toArray s 0 0 A) (F0 m 39 ls []) := by
    intro n39
    induction n39 with
    | zero => intro u H locs ls hR hF hn39 hK_MS hK_UI hK_CW hK_BLI f0 f1 f2 hP hD hS hl; have gz0 : (0 : Int) ≤ (u.1 85 35).toInt ∧ (u.1 85 35).toInt ≤ 40 := hR 85 35; exfalso; omega
    | succ n39 ih39 =>
      intro u H locs ls hR hF hn39 hK_MS hK_UI hK_CW hK_BLI f0 f1 f2 hP hD hS hl
      refine lv_aload_n F.1 F.2.1 dX12_daybook_39 rfl (lv_at hl 0 rfl) ?_
      have g45 : (0 : Int) ≤ (u.1 85 11).toInt ∧ (u.1 85 11).toInt ≤ 4 := hR 85 11
      refine a_geti F inX12 hP 85 11 tc_85 rfl rfl (by decide) q1482 (fun _ h9 => h9) (v := (u.1 85 11)) rfl dX12_daybook_40 ?_
      refine z_eq F 83 dX12_daybook_43 (by decide) rfl (fun c46 => ?_) (fun c46 => ?_)
      · refine lv_aload_n F.1 F.2.1 dX12_daybook_83 rfl (lv_at hl 0 rfl) ?_
        have g48 : (0 : Int) ≤ (u.1 85 35).toInt ∧ (u.1 85 35).toInt ≤ 40 := hR 85 35
        refine a_Vv F hml hl.1 hA hP hD hS (As := []) (c_X12_tries_85__2 l dC dI ad cA nF _  hR hK_MS) (cs_RX12_392 (d := 1) F.2.2.1 (by decide)) tc_85 rfl rfl rfl rfl (Nat.le_of_ble_eq_true rfl) dX12_daybook_84 ⟨Nat.le_refl 0, Nat.le_refl 0⟩ (fun u47 H locs hq hP hD hS => ?_)
        obtain ⟨hR, hF47, hK_BI⟩ := hq
        have hF := hF.tr hF47 (by decide)
        have hK_MS := sp_fr sp_MS hF47 (by decide) hK_MS
        have hK_UI := sp_fr sp_UI hF47 (by decide) hK_UI
        have hK_CW := sp_fr sp_CW hF47 (by decide) hK_CW
        have hK_BLI := sp_fr sp_BLI hF47 (by decide) hK_BLI
        refine a_ic F (0 : Int32) dX12_daybook_87 (by decide) ?_
        refine lv_istore_n (lv' := [(2, .int (0 : Int32)), (0, .ref (ad 85)), (1, .int p0)]) F.1 F.2.1 dX12_daybook_88 rfl hl (by decide) rfl (fun ls hl => ?_)
        exact L89 6 (0 : Int32) _ _ _ _ hR hF (by decide) hK_MS hK_UI hK_CW hK_BI hK_BLI (by omega) (by decide) (i_trB (hF47 85 0 rfl) (by omega : (0 : Int) ≤ (u.1 85 0).toInt ∧ (u.1 85 0).toInt ≤ 0)) (i_trB (hF47 85 11 rfl) (by omega : (0 : Int) ≤ (u.1 85 11).toInt ∧ (u.1 85 11).toInt ≤ 0)) hP hD hS (lv_sub hl [1, 2, 0] rfl)
      · refine lv_aload_n F.1 F.2.1 dX12_daybook_46 rfl (lv_at hl 0 rfl) ?_
        have g50 : (0 : Int) ≤ (u.1 85 35).toInt ∧ (u.1 85 35).toInt ≤ 40 := hR 85 35
        refine a_Vi F hml hl.1 hA hP hD hS (As := []) (c_X12_bookLine_85__2 l dC dI ad cA nF _  hR hK_BLI) (cs_RX12_401 (d := 4) F.2.2.1 (by decide)) tc_85 rfl rfl rfl rfl (Nat.le_of_ble_eq_true rfl) dX12_daybook_47 ⟨Nat.le_refl 0, Nat.le_refl 0⟩ (fun r49 u49 H locs hq hP hD hS => ?_)
        obtain ⟨hR, hF49, gr49, xr49, hK_r49_BLJ⟩ := hq
        have hF := hF.tr hF49 (by decide)
        have hK_MS := sp_fr sp_MS hF49 (by decide) hK_MS
        have hK_UI := sp_fr sp_UI hF49 (by decide) hK_UI
        have hK_CW := sp_fr sp_CW hF49 (by decide) hK_CW
        have k51 : (u49.1 85 35).toInt = (u.1 85 35).toInt := congrArg Int32.toInt (show u49.1 85 35 = (u.1 85 35) from hF49 85 35 rfl)
        have xr49 : r49.toInt ≠ 0 → (u49.1 85 35).toInt ≤ 39 := xr49
        refine z_eq F 62 dX12_daybook_50 (by decide) rfl (fun c52 => ?_) (fun c52 => ?_)
        · exact L62 _ _ _ _ hR hF hK_MS hK_UI hK_CW (i_trB (hF49 85 0 rfl) (by omega : (0 : Int) ≤ (u.1 85 0).toInt ∧ (u.1 85 0).toInt ≤ 0)) hP hD hS (lv_sub hl [0] rfl)
        · have hK_BLJ := hK_r49_BLJ (by omega)
          refine lv_aload_n F.1 F.2.1 dX12_daybook_53 rfl (lv_at hl 0 rfl) ?_
          refine a_bp F (59 : Int32) dX12_daybook_54 (by decide) ?_
          refine a_Vi F hml hl.1 hA hP hD hS (As := [.int (59 : Int32)]) (c_X12_sign_85 l dC dI ad cA nF _ (59 : Int32) hR (by decide)) (cs_RX12_238 (d := 3) F.2.2.1 (by decide)) tc_85 rfl rfl rfl rfl (Nat.le_of_ble_eq_true rfl) dX12_daybook_56 ⟨Nat.le_refl 0, Nat.le_refl 0⟩ (fun r53 u53 H locs hq hP hD hS => ?_)
          obtain ⟨hR, hF53, gr53⟩ := hq
          have hF := hF.tr hF53 (by decide)
          have hK_MS := sp_fr sp_MS hF53 (by decide) hK_MS
          have hK_UI := sp_fr sp_UI hF53 (by decide) hK_UI
          have hK_CW := sp_fr sp_CW hF53 (by decide) hK_CW
          have hK_r49_BLJ := sp_fr (sp_imp sp_BLJ) hF53 (by decide) hK_r49_BLJ
          have hK_BLJ := sp_fr sp_BLJ hF53 (by decide) hK_BLJ
          refine z_ne F 70 dX12_daybook_59 (by decide) rfl (fun c54 => ?_) (fun c54 => ?_)
          · refine lv_aload_n F.1 F.2.1 dX12_daybook_70 rfl (lv_at hl 0 rfl) ?_
            refine lv_dup F.1 F.2.1 dX12_daybook_71 rfl ?_
            refine a_geti F inX12 hP 85 35 tc_85 rfl rfl (by decide) q1506 (fun _ h9 => h9) (v := (u.1 85 35)) ((hF53 85 35 rfl).trans (hF49 85 35 rfl)) dX12_daybook_72 ?_
            refine a_ic F (1 : Int32) dX12_daybook_75 (by decide) ?_
            refine a_iadd F dX12_daybook_76 rfl ic_1 (by omega) (fun v55 hv55 => ?_)
            refine a_puti F inX12 tyX12 tyX12_ok nmX12 hP hD hS 85 35 tc_85 rfl rfl (by decide) q1506 (fun _ h9 => h9) rfl (ty := .int) (tyX12_ok 35 (by decide)) rfl rfl dX12_daybook_77 (fun H locs hP hD hS => ?_)
            have hR := hR.si (c := 85) (k := 35) (v := v55) (by omega : (0 : Int) ≤ v55.toInt ∧ v55.toInt ≤ 40)
            have hF := hF.si (c := 85) (k := 35) (v := v55) rfl
            have hO_MS := hK_MS
            have hO_UI := hK_UI
            have hO_CW := hK_CW
            have hO_r49_BLJ := hK_r49_BLJ
            have hO_BLJ := hK_BLJ
            have hN_BLI := bl_s hO_BLJ (i := (u.1 85 35)) (v := v55) ((hF53 85 35 rfl).trans (hF49 85 35 rfl)) (by omega)
            have hK_MS := sp_sgD sp_MS hD hK_MS (by decide)
            have hK_UI := sp_si sp_UI hK_UI (c := 85) (k := 35) (v := v55) (fun j9 h9 q9 => by rw [q9] at h9; exact absurd h9 (by decide))
            have hK_CW := sp_sgD sp_CW hD hK_CW (by decide)
            have hK_BLI := hN_BLI
            refine lv_goto (tgt := 39) F.1 F.2.1 dX12_daybook_80 (by decide) ?_
            exact ih39 _ _ _ _ hR hF (by omega : 41 - v55.toInt < ((n39 : Nat) : Int)) hK_MS hK_UI hK_CW hK_BLI (by omega) (i_trB ((hF53 85 0 rfl).trans (hF49 85 0 rfl)) (by omega : (0 : Int) ≤ (u.1 85 0).toInt ∧ (u.1 85 0).toInt ≤ 0)) (by omega : (0 : Int) ≤ v55.toInt ∧ v55.toInt ≤ 40) hP hD hS (lv_sub hl [0, 1] rfl)
          · exact L62 _ _ _ _ hR hF hK_MS hK_UI hK_CW (i_trB ((hF53 85 0 rfl).trans (hF49 85 0 rfl)) (by omega : (0 : Int) ≤ (u.1 85 0).toInt ∧ (u.1 85 0).toInt ≤ 0)) hP hD hS (lv_sub hl [0] rfl)
  refine lv_aload_n F.1 F.2.1 dX12_daybook_0 rfl (lv_at hl 0 rfl) ?_
  refine a_ic F (0 : Int32) dX12_daybook_1 (by decide) ?_
  refine a_puti F inX12 tyX12 tyX12_ok nmX12 hP hD hS 85 0 tc_85 rfl rfl (by decide) q1471 (fun _ h9 => h9) rfl (ty := .int) (tyX12_ok 0 (by decide)) rfl rfl dX12_daybook_2 (fun H locs hP hD hS => ?_)
  have hR := hR.si (c := 85) (k := 0) (v := (0 : Int32)) (by rw [ic_0]; exact (by omega : (0 : Int) ≤ (0 : Int) ∧ (0 : Int) ≤ 1))
  have hF := hF.si (c := 85) (k := 0) (v := (0 : Int32)) rfl
  have hK_MS := sp_sgD sp_MS hD hK_MS (by decide)
  have hK_UI := sp_si sp_UI hK_UI (c := 85) (k := 0) (v := (0 : Int32)) (fun j9 h9 q9 => by rw [q9] at h9; exact absurd h9 (by decide))
  have hK_CW := sp_sgD sp_CW hD hK_CW (by decide)
  refine lv_iload_n F.1 F.2.1 dX12_daybook_5 rfl (lv_at hl 1 rfl) ?_
  refine a_ic F (0 : Int32) dX12_daybook_6 (by decide) ?_
  refine a_ic F (1 : Int32) dX12_daybook_7 (by decide) ?_
  refine a_Si F hml hl.1 hA hP hD hS (As := [.int p0, .int (0 : Int32), .int (1 : Int32)]) (c_X12_isIn l dC dI ad cA nF _ p0 (0 : Int32) (1 : Int32) hR (by decide)) (cs_RX12_187 (d := 1) F.2.2.1 (by decide)) rfl rfl (Nat.le_of_ble_eq_true rfl) dX12_daybook_8 ⟨Nat.le_refl 0, Nat.le_refl 0⟩ (fun r56 uN56 H locs hq hP hD hS => ?_)
  obtain ⟨hu56, gr56, xr56⟩ := hq
  rw [hu56] at hP hD
  have xr56 : r56.toInt ≠ 0 → (0 : Int) ≤ p0.toInt ∧ p0.toInt ≤ (1 : Int) := xr56
  refine z_ne F 18 dX12_daybook_11 (by decide) rfl (fun c57 => ?_) (fun c57 => ?_)
  · refine lv_aload_n F.1 F.2.1 dX12_daybook_18 rfl (lv_at hl 0 rfl) ?_
    refine a_sp F (500 : Int32) dX12_daybook_19 (by decide) ?_
    have g59 : (0 : Int) ≤ (u0.1 85 35).toInt ∧ (u0.1 85 35).toInt ≤ 40 := hR 85 35
    refine a_Vv F hml hl.1 hA hP hD hS (As := [.int (500 : Int32)]) (c_X12_taken_85 l dC dI ad cA nF _ (500 : Int32) hR (by decide)) (cs_RX12_229 (d := 1) F.2.2.1 (by decide)) tc_85 rfl rfl rfl rfl (Nat.le_of_ble_eq_true rfl) dX12_daybook_22 ⟨Nat.le_refl 0, Nat.le_refl 0⟩ (fun u58 H locs hq hP hD hS => ?_)
    obtain ⟨hR, hF58⟩ := hq
    have hF := hF.tr hF58 (by decide)
    have hK_MS := sp_fr sp_MS hF58 (by decide) hK_MS
    have hK_UI := sp_fr sp_UI hF58 (by decide) hK_UI
    have hK_CW := sp_fr sp_CW hF58 (by decide) hK_CW
    refine lv_aload_n F.1 F.2.1 dX12_daybook_25 rfl (lv_at hl 0 rfl) ?_
    refine a_ic F (0 : Int32) dX12_daybook_26 (by decide) ?_
    refine a_puti F inX12 tyX12 tyX12_ok nmX12 hP hD hS 85 15 tc_85 rfl rfl (by decide) q1486 (fun _ h9 => h9) rfl (ty := .int) (tyX12_ok 15 (by decide)) rfl rfl dX12_daybook_27 (fun H locs hP hD hS => ?_)
    have hR := hR.si (c := 85) (k := 15) (v := (0 : Int32)) ⟨i_lo _, i_hi _⟩
    have hF := hF.si (c := 85) (k := 15) (v := (0 : Int32)) rfl
    have hK_MS := sp_sgD sp_MS hD hK_MS (by decide)
    have hK_UI := sp_si sp_UI hK_UI (c := 85) (k := 15) (v := (0 : Int32)) (fun j9 h9 q9 => by rw [q9] at h9; exact absurd h9 (by decide))
    have hK_CW := sp_sgD sp_CW hD hK_CW (by decide)
    refine lv_aload_n F.1 F.2.1 dX12_daybook_30 rfl (lv_at hl 0 rfl) ?_
    refine a_ic F (0 : Int32) dX12_daybook_31 (by decide) ?_
    refine a_puti F inX12 tyX12 tyX12_ok nmX12 hP hD hS 85 35 tc_85 rfl rfl (by decide) q1506 (fun _ h9 => h9) rfl (ty := .int) (tyX12_ok 35 (by decide)) rfl rfl dX12_daybook_32 (fun H locs hP hD hS => ?_)
    have hR := hR.si (c := 85) (k := 35) (v := (0 : Int32)) (by rw [ic_0]; exact (by omega : (0 : Int) ≤ (0 : Int) ∧ (0 : Int) ≤ 40))
    have hF := hF.si (c := 85) (k := 35) (v := (0 : Int32)) rfl
    have hN_BLI := bl_0D hD (by decide)
    have hK_MS := sp_sgD sp_MS hD hK_MS (by decide)
    have hK_UI := sp_si sp_UI hK_UI (c := 85) (k := 35) (v := (0 : Int32)) (fun j9 h9 q9 => by rw [q9] at h9; exact absurd h9 (by decide))
    have hK_CW := sp_sgD sp_CW hD hK_CW (by decide)
    have hK_BLI := hN_BLI
    refine lv_aload_n F.1 F.2.1 dX12_daybook_35 rfl (lv_at hl 0 rfl) ?_
    refine a_Vv F hml hl.1 hA hP hD hS (As := []) (c_X12_next_85 l dC dI ad cA nF _  hR) (cs_RX12_184 (d := 2) F.2.2.1 (by decide)) tc_85 rfl rfl rfl rfl (Nat.le_of_ble_eq_true rfl) dX12_daybook_36 ⟨Nat.le_refl 0, Nat.le_refl 0⟩ (fun u60 H locs hq hP hD hS => ?_)
    obtain ⟨hR, hF60⟩ := hq
    have hF := hF.tr hF60 (by decide)
    have hK_MS := sp_fr sp_MS hF60 (by decide) hK_MS
    have hK_UI := sp_fr sp_UI hF60 (by decide) hK_UI
    have hK_CW := sp_fr sp_CW hF60 (by decide) hK_CW
    have hK_BLI := sp_fr sp_BLI hF60 (by decide) hK_BLI
    exact L39 43 _ _ _ _ hR hF (by show 41 - (u60.1 85 35).toInt < (43 : Int); rw [hF60 85 35 rfl]; exact (by omega : 41 - (0 : Int) < (43 : Int))) hK_MS hK_UI hK_CW hK_BLI (by omega) (i_trB ((hF60 85 0 rfl).trans (hF58 85 0 rfl)) (by omega : (0 : Int) ≤ (0 : Int) ∧ (0 : Int) ≤ 0)) (i_trB (hF60 85 35 rfl) (by omega : (0 : Int) ≤ (0 : Int) ∧ (0 : Int) ≤ 40)) hP hD hS (lv_sub hl [0, 1] rfl)
  · refine a_sp F (-1000 : Int32) dX12_daybook_14 (by decide) ?_
    exact a_reti F hr hlocks hP hD hS dX12_daybook_17 ⟨hR, hF, hK_MS, hK_UI, hK_CW⟩
set_option maxHeartbeats 600000 in
set_option maxRecDepth 100000 in
theorem c_X12_draw_85 (l : Launch) (dC : Nat → ClassId) (dI : Nat → Nat → Nat) (ad : Nat → Nat) (cA : Nat → ClassId) (nF : Nat) (u0 : ac_U) (p0 : Int32) (hR : ac_R rg u0) (hp0 : (1 : Int) ≤ p0.toInt ∧ p0.toInt ≤ 8) : ac_Mi l yX12_draw (.code yX12_draw cX12_draw 2 (some .int) :: TB) 1 (dC, dI) vwCl (ac_ty cA) ad cA (TT nF) [.ref (ad 85), .int p0] u0 (fun (r : Int32) (u : ac_U) => ac_R rg u ∧ ac_Fr [(85, some 34)] u0 u ∧ ((0 : Int) ≤ r.toInt ∧ r.toInt ≤ 7)) := by
  refine ac_Mi.of (cc := cX12_draw) (maxL := 2) (ret := (some .int)) (by decide) rfl (Nat.le_of_ble_eq_true rfl) ?_
  intro p e s m below meth c A ls F hml hr hlocks hA hP hD hS hl
  have F : ac_X p s m [.ref (ad 85), .int p0].toArray c cX12_draw RX12 TB (dC, dI) vwCl (ac_ty cA) := ⟨F.1, F.2.1, fun w h => F.2.2.1 w (List.mem_cons_of_mem _ h), F.2.2.2.1, F.2.2.2.2⟩
  have hl : lv_has ls 2 [(0, .ref (ad 85)), (1, .int p0)] := hl
  have hF : ac_Fr [(85, some 34)] u0 u0 := ac_Fr.rf
  refine lv_aload_n F.1 F.2.1 dX12_draw_0 rfl (lv_at hl 0 rfl) ?_
  refine lv_aload_n F.1 F.2.1 dX12_draw_1 rfl (lv_at hl 0 rfl) ?_
  refine a_geti F inX12 hP 85 34 tc_85 rfl rfl (by decide) q1505 (fun _ h9 => h9) (v := (u0.1 85 34)) rfl dX12_draw_2 ?_
  refine lv_ldcw (v := (1103515245 : Int32)) F.1 F.2.1 F.2.2.2.1 (F.2.2.1 _ q1978) dX12_draw_5 ?_
  refine a_imulU F dX12_draw_8 (fun v1 => ?_)
  refine a_sp F (12345 : Int32) dX12_draw_9 (by decide) ?_
  refine a_iaddU F dX12_draw_12 (fun v2 => ?_)
  refine a_puti F inX12 tyX12 tyX12_ok nmX12 hP hD hS 85 34 tc_85 rfl rfl (by decide) q1505 (fun _ h9 => h9) rfl (ty := .int) (tyX12_ok 34 (by decide)) rfl rfl dX12_draw_13 (fun H locs hP hD hS => ?_)
  have hR := hR.si (c := 85) (k := 34) (v := v2) ⟨i_lo _, i_hi _⟩
  have hF := hF.si (c := 85) (k := 34) (v := v2) rfl
  refine lv_aload_n F.1 F.2.1 dX12_draw_16 rfl (lv_at hl 0 rfl) ?_
  refine a_geti F inX12 hP 85 34 tc_85 rfl rfl (by decide) q1505 (fun _ h9 => h9) (v := v2) (rfl) dX12_draw_17 ?_
  refine a_bp F (8 : Int32) dX12_draw_20 (by decide) ?_
  refine a_iushrC F dX12_draw_22 (n := 8) (by decide) (by decide) (fun v3 hv3 => ?_)
  have hv3 : (0 : Int) ≤ v3.toInt ∧ v3.toInt ≤ 16777215 := hv3
  refine lv_iload_n F.1 F.2.1 dX12_draw_23 rfl (lv_at hl 1 rfl) ?_
  refine a_irem F dX12_draw_24 rfl rfl (by omega) (fun v4 hv4 => ?_)
  exact a_reti F hr hlocks hP hD hS dX12_draw_25 ⟨hR, hF, (by omega : (0 : Int) ≤ v4.toInt ∧ v4.toInt ≤ 7)⟩

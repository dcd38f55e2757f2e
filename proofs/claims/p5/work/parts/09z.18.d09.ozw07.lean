def K_X12_says_85_81 (B39 : ac_U → Int32 → ac_U) (u0 : ac_U) (p0 : Int32) (p1 : Int32) (u : ac_U) (x3 : Int32) : ac_U := (vl (x3 + Int32.ofInt (1)) (fun (v1 : Int32) => (B39 u v1)))
def K_X12_says_85_39_b (B39 : ac_U → Int32 → ac_U) (u0 : ac_U) (p0 : Int32) (p1 : Int32) (u : ac_U) (x3 : Int32) : ac_U := (if (u.1 87 3).toInt ≤ x3.toInt then u else (vl ((16 : Int32) + x3) (fun (v4 : Int32) => (vl (u.1 87 v4.toNatClampNeg) (fun (v5 : Int32) => (vl ((107 : Int32) + p0) (fun (v6 : Int32) => (vl (u.1 87 v6.toNatClampNeg) (fun (v7 : Int32) => (if v5.toInt ≠ v7.toInt then (K_X12_says_85_81 B39 u0 p0 p1 u x3) else (vl ((132 : Int32) + p1) (fun (v9 : Int32) => (K_X12_says_85_81 B39 u0 p0 p1 (pI u 87 v9.toNatClampNeg (1 : Int32)) x3)))))))))))))
def K_X12_says_85_39 (u0 : ac_U) (p0 : Int32) (p1 : Int32) : Nat → ac_U → Int32 → ac_U
  | 0 => fun u x3 => u
  | n + 1 => fun u x3 => K_X12_says_85_39_b (K_X12_says_85_39 u0 p0 p1 n) u0 p0 p1 u x3
def f_X12_says_85 (u0 : ac_U) (p0 : Int32) (p1 : Int32) : ac_U := (vl ((124 : Int32) + p1) (fun (v10 : Int32) => (vl ((u0.1 87 106) + (1 : Int32)) (fun (v12 : Int32) => (vl ((140 : Int32) + p1) (fun (v13 : Int32) => (vl ((107 : Int32) + p0) (fun (v14 : Int32) => (vl ((pI u0 87 v10.toNatClampNeg v12).1 87 v14.toNatClampNeg) (fun (v15 : Int32) => (K_X12_says_85_39 u0 p0 p1 8 (pI (pI u0 87 v10.toNatClampNeg v12) 87 v13.toNatClampNeg v15) (0 : Int32))))))))))))
set_option maxHeartbeats 600000 in
set_option maxRecDepth 100000 in
theorem x_X12_says_85 (l : Launch) (dC : Nat → ClassId) (dI : Nat → Nat → Nat) (ad : Nat → Nat) (cA : Nat → ClassId) (nF : Nat) (u0 : ac_U) (p0 : Int32) (p1 : Int32) (hR : ac_R rg u0) (hp0 : (0 : Int) ≤ p0.toInt ∧ p0.toInt ≤ 3) (hp1 : (0 : Int) ≤ p1.toInt ∧ p1.toInt ≤ 7) : ac_Mv l yX12_says (.code yX12_says cX12_says 4 none :: TB) 1 (dC, dI) vwCl (ac_ty cA) ad cA (TT nF) [.ref (ad 85), .int p0, .int p1] u0 (fun (u : ac_U) => ac_R rg u ∧ ac_Fr [(87, none)] u0 u ∧ ((u.1 87 106).toInt = (u0.1 87 106).toInt ∧ (u.1 87 0).toInt = (u0.1 87 0).toInt) ∧ (msI u0 → msI u) ∧ (cdI u0 → cdI u) ∧ (unI u0 → unI u) ∧ (bfI u0 → bfI u) ∧ (apI u0 → apI u) ∧ (auI u0 → auI u) ∧ (abI u0 → abI u) ∧ (bgI u0 → bgI u) ∧ (hxI u0 → hxI u) ∧ f_X12_says_85 u0 p0 p1 = u) := by
  refine ac_Mv.of (cc := cX12_says) (maxL := 4) (ret := none) (by decide) rfl (Nat.le_of_ble_eq_true rfl) ?_
  intro p e s m below meth c A ls F hml hr hlocks hA hP hD hS hl
  have F : ac_X p s m [.ref (ad 85), .int p0, .int p1].toArray c cX12_says RX12 TB (dC, dI) vwCl (ac_ty cA) := ⟨F.1, F.2.1, fun w h => F.2.2.1 w (List.mem_cons_of_mem _ h), F.2.2.2.1, F.2.2.2.2⟩
  have hl : lv_has ls 4 [(0, .ref (ad 85)), (1, .int p0), (2, .int p1)] := hl
  obtain ⟨RR, hRR⟩ : ∃ q, q = f_X12_says_85 u0 p0 p1 := ⟨_, rfl⟩
  have hF : ac_Fr [(87, none)] u0 u0 := ac_Fr.rf
  have hK_TM : (tmI u0) u0 := ⟨rfl, rfl⟩
  have hK_i_MS : (fun u => msI u0 → msI u) u0 := fun h => h
  have hK_i_CW : (fun u => cdI u0 → cdI u) u0 := fun h => h
  have hK_i_UI : (fun u => unI u0 → unI u) u0 := fun h => h
  have hK_i_BI : (fun u => bfI u0 → bfI u) u0 := fun h => h
  have hK_i_AP : (fun u => apI u0 → apI u) u0 := fun h => h
  have hK_i_AU : (fun u => auI u0 → auI u) u0 := fun h => h
  have hK_i_AB : (fun u => abI u0 → abI u) u0 := fun h => h
  have hK_i_BG : (fun u => bgI u0 → bgI u) u0 := fun h => h
  have hK_i_HX : (fun u => hxI u0 → hxI u) u0 := fun h => h
  have L39 : ∀ (n39 : Nat) (x3 : Int32) (u : ac_U) (H : Heap) (locs : List Loc) (ls : Array Slot), ac_R rg u → ac_Fr [(87, none)] u0 u → 6 - x3.toInt < (n39 : Int) → (tmI u0) u → (fun u => msI u0 → msI u) u → (fun u => cdI u0 → cdI u) u → (fun u => unI u0 → unI u) u → (fun u => bfI u0 → bfI u) u → (fun u => apI u0 → apI u) u → (fun u => auI u0 → auI u) u → (fun u => abI u0 → abI u) u → (fun u => bgI u0 → bgI u) u → (fun u => hxI u0 → hxI u) u → (0 : Int) ≤ x3.toInt ∧ x3.toInt ≤ 6 → RR = (K_X12_says_85_39 u0 p0 p1 n39 u x3) → va_P (dC, dI) vwCl (ac_w ad cA (TT nF) u) H → va_D A (ac_w ad cA (TT nF) u) → va_S A s.heap H locs → lv_has ls 4 [(0, .ref (ad 85)), (1, .int p0), (2, .int p1), (3, .int x3)] → W p l e (ac_rm 1) s m [.ref (ad 85), .int p0, .int p1].toArray below meth c H locs 0 0 (MQ below (va_Qv (fun (u : ac_U) => ac_R rg u ∧ ac_Fr [(87, none)] u0 u ∧ ((u.1 87 106).toInt = (u0.1 87 106).toInt ∧ (u.1 87 0).toInt = (u0.1 87 0).toInt) ∧ (msI u0 → msI u) ∧ (cdI u0 → cdI u) ∧ (unI u0 → unI u) ∧ (bfI u0 → bfI u) ∧ (apI u0 → apI u) ∧ (auI u0 → auI u) ∧ (abI u0 → abI u) ∧ (bgI u0 → bgI u) ∧ (hxI u0 → hxI u) ∧ f_X12_says_85 u0 p0 p1 = u) (ac_B (dC, dI) vwCl (ac_ty cA) ad cA (TT nF) A) A) [.ref (ad 85), .int p0, .int p1].toArray s 0 0 A) (F0 m 39 ls []) := by
    intro n39
    induction n39 with
    | zero => intro x3 u H locs ls hR hF hn39 hK_TM hK_i_MS hK_i_CW hK_i_UI hK_i_BI hK_i_AP hK_i_AU hK_i_AB hK_i_BG hK_i_HX f0 hC hP hD hS hl; exfalso; omega
    | succ n39 ih39 =>
      intro x3 u H locs ls hR hF hn39 hK_TM hK_i_MS hK_i_CW hK_i_UI hK_i_BI hK_i_AP hK_i_AU hK_i_AB hK_i_BG hK_i_HX f0 hC hP hD hS hl
      have hC : RR = K_X12_says_85_39_b (K_X12_says_85_39 u0 p0 p1 n39) u0 p0 p1 u x3 := hC
      have L81 : ∀ (x3 : Int32) (u : ac_U) (H : Heap) (locs : List Loc) (ls : Array Slot), ac_R rg u → ac_Fr [(87, none)] u0 u → (tmI u0) u → (fun u => msI u0 → msI u) u → (fun u => cdI u0 → cdI u) u → (fun u => unI u0 → unI u) u → (fun u => bfI u0 → bfI u) u → (fun u => apI u0 → apI u) u → (fun u => auI u0 → auI u) u → (fun u => abI u0 → abI u) u → (fun u => bgI u0 → bgI u) u → (fun u => hxI u0 → hxI u) u → (0 : Int) ≤ x3.toInt ∧ x3.toInt ≤ 5 → (1 : Int) ≤ (u.1 87 3).toInt ∧ (u.1 87 3).toInt ≤ 6 → 6 - x3.toInt + 0 < ((n39 : Nat) : Int) + 1 → RR = (K_X12_says_85_81 (K_X12_says_85_39 u0 p0 p1 n39) u0 p0 p1 u x3) → va_P (dC, dI) vwCl (ac_w ad cA (TT nF) u) H → va_D A (ac_w ad cA (TT nF) u) → va_S A s.heap H locs → lv_has ls 4 [(0, .ref (ad 85)), (1, .int p0), (2, .int p1), (3, .int x3)] → W p l e (ac_rm 1) s m [.ref (ad 85), .int p0, .int p1].toArray below meth c H locs 0 0 (MQ below (va_Qv (fun (u : ac_U) => ac_R rg u ∧ ac_Fr [(87, none)] u0 u ∧ ((u.1 87 106).toInt = (u0.1 87 106).toInt ∧ (u.1 87 0).toInt = (u0.1 87 0).toInt) ∧ (msI u0 → msI u) ∧ (cdI u0 → cdI u) ∧ (unI u0 → unI u) ∧ (bfI u0 → bfI u) ∧ (apI u0 → apI u) ∧ (auI u0 → auI u) ∧ (abI u0 → abI u) ∧ (bgI u0 → bgI u) ∧ (hxI u0 → hxI u) ∧ f_X12_says_85 u0 p0 p1 = u) (ac_B (dC, dI) vwCl (ac_ty cA) ad cA (TT nF) A) A) [.ref (ad 85), .int p0, .int p1].toArray s 0 0 A) (F0 m 81 ls []) := by
        intro x3 u H locs ls hR hF hK_TM hK_i_MS hK_i_CW hK_i_UI hK_i_BI hK_i_AP hK_i_AU hK_i_AB hK_i_BG hK_i_HX f0 f1 f2 hC hP hD hS hl
        unfold K_X12_says_85_81 at hC
        refine a_iincX F (k := 3) (fun v1 => [(3, .int v1), (0, .ref (ad 85)), (1, .int p0), (2, .int p1)]) dX12_says_81 hl rfl rfl (by decide) (by omega) (by decide) (fun _ => rfl) (fun v1 ls hv1 yv1 hl => ?_)
        have hC := vl_eq hC yv1
        refine lv_goto (tgt := 39) F.1 F.2.1 dX12_says_84 (by decide) ?_
        exact ih39 v1 _ _ _ _ hR hF (by omega) hK_TM hK_i_MS hK_i_CW hK_i_UI hK_i_BI hK_i_AP hK_i_AU hK_i_AB hK_i_BG hK_i_HX (by omega) hC hP hD hS (lv_sub hl [1, 2, 3, 0] rfl)
      unfold K_X12_says_85_39_b at hC
      refine lv_iload_n F.1 F.2.1 dX12_says_39 rfl (lv_at hl 3 rfl) ?_
      refine lv_aload_n F.1 F.2.1 dX12_says_40 rfl (lv_at hl 0 rfl) ?_
      refine a_getr F inX12 hP 85 6 tc_85 rfl rfl (by decide) q1477 (fun _ h9 => h9) dX12_says_41 ?_
      refine a_ic F (3 : Int32) dX12_says_44 (by decide) ?_
      have g2 : (0 : Int) ≤ (u.1 87 3).toInt ∧ (u.1 87 3).toInt ≤ 6 := hR 87 3
      refine a_ialdK F hP 87 3 tc_87 rfl rfl (i_in ic_3 (by omega)) (v := (u.1 87 3)) rfl dX12_says_45 ?_
      refine b_ge F 87 dX12_says_46 (by decide) rfl rfl (fun c3 => ?_) (fun c3 => ?_)
      · have hC := hC.trans (if_pos c3)
        exact a_retv F hr hlocks hP hD hS dX12_says_87 ⟨hR, hF, ⟨congrArg Int32.toInt hK_TM.1, congrArg Int32.toInt hK_TM.2⟩, hK_i_MS, hK_i_CW, hK_i_UI, hK_i_BI, hK_i_AP, hK_i_AU, hK_i_AB, hK_i_BG, hK_i_HX, hRR.symm.trans hC⟩
      · have hC := hC.trans (if_neg (by omega))
        refine lv_aload_n F.1 F.2.1 dX12_says_49 rfl (lv_at hl 0 rfl) ?_
        refine a_getr F inX12 hP 85 6 tc_85 rfl rfl (by decide) q1477 (fun _ h9 => h9) dX12_says_50 ?_
        refine a_bp F (16 : Int32) dX12_says_53 (by decide) ?_
        refine lv_iload_n F.1 F.2.1 dX12_says_55 rfl (lv_at hl 3 rfl) ?_
        refine a_iaddX F dX12_says_56 ic_16 rfl (by omega) (fun v4 hv4 yv4 => ?_)
        have hC := vl_eq hC yv4
        refine a_iald F hP 87 tc_87 rfl (i_in rfl (by omega)) dX12_says_57 (fun v5 ev5 => ?_)
        have hC := vl_eq hC ev5.symm
        have hv5 : (0 : Int) ≤ v5.toInt ∧ v5.toInt ≤ 7 := rg_seg_87_16_21 hR ev5 (by omega)
        refine lv_aload_n F.1 F.2.1 dX12_says_58 rfl (lv_at hl 0 rfl) ?_
        refine a_getr F inX12 hP 85 6 tc_85 rfl rfl (by decide) q1477 (fun _ h9 => h9) dX12_says_59 ?_
        refine a_bp F (107 : Int32) dX12_says_62 (by decide) ?_
        refine lv_iload_n F.1 F.2.1 dX12_says_64 rfl (lv_at hl 1 rfl) ?_
        refine a_iaddX F dX12_says_65 ic_107 rfl (by omega) (fun v6 hv6 yv6 => ?_)
        have hC := vl_eq hC yv6
        refine a_iald F hP 87 tc_87 rfl (i_in rfl (by omega)) dX12_says_66 (fun v7 ev7 => ?_)
        have hC := vl_eq hC ev7.symm
        have hv7 : (0 : Int) ≤ v7.toInt ∧ v7.toInt ≤ 7 := rg_seg_87_107_110 hR ev7 (by omega)
        refine b_ne F 81 dX12_says_67 (by decide) rfl rfl (fun c8 => ?_) (fun c8 => ?_)
        · have hC := hC.trans (if_pos c8)
          exact L81 x3 _ _ _ _ hR hF hK_TM hK_i_MS hK_i_CW hK_i_UI hK_i_BI hK_i_AP hK_i_AU hK_i_AB hK_i_BG hK_i_HX (by omega) (by omega : (1 : Int) ≤ (u.1 87 3).toInt ∧ (u.1 87 3).toInt ≤ 6) (by omega) hC hP hD hS (lv_sub hl [0, 1, 2, 3] rfl)
        · have hC := hC.trans (if_neg (by omega))
          refine lv_aload_n F.1 F.2.1 dX12_says_70 rfl (lv_at hl 0 rfl) ?_
          refine a_getr F inX12 hP 85 6 tc_85 rfl rfl (by decide) q1477 (fun _ h9 => h9) dX12_says_71 ?_
          refine a_sp F (132 : Int32) dX12_says_74 (by decide) ?_
          refine lv_iload_n F.1 F.2.1 dX12_says_77 rfl (lv_at hl 2 rfl) ?_
          refine a_iaddX F dX12_says_78 ic_132 rfl (by omega) (fun v9 hv9 yv9 => ?_)
          have hC := vl_eq hC yv9
          refine a_ic F (1 : Int32) dX12_says_79 (by decide) ?_
          refine a_iast F hP hD hS 87 tc_87 rfl (i_in rfl (by omega)) dX12_says_80 (fun H locs hP hD hS => ?_)
          have hR := hR.si (c := 87) (k := v9.toNatClampNeg) (v := (1 : Int32)) (rs_87_132_139 (by omega) ⟨i_lo _, i_hi _⟩)
          have hF := hF.si (c := 87) (k := v9.toNatClampNeg) (v := (1 : Int32)) rfl
          have hK_TM := sp_si (sp_tm _) hK_TM (c := 87) (k := v9.toNatClampNeg) (v := (1 : Int32)) (fun j9 h9 => by have q8 := sp_mem h9; simp at q8; have q9 := i_cl (x := v9) (by omega); omega)
          have hK_i_MS := sp_si (sp_imp sp_MS) hK_i_MS (c := 87) (k := v9.toNatClampNeg) (v := (1 : Int32)) (fun j9 h9 => by have q8 := sp_mem h9; simp at q8; have q9 := i_cl (x := v9) (by omega); omega)
          have hK_i_CW := sp_si (sp_imp sp_CW) hK_i_CW (c := 87) (k := v9.toNatClampNeg) (v := (1 : Int32)) (fun j9 h9 => by have q8 := sp_mem h9; simp at q8; have q9 := i_cl (x := v9) (by omega); omega)
          have hK_i_UI := sp_si (sp_imp sp_UI) hK_i_UI (c := 87) (k := v9.toNatClampNeg) (v := (1 : Int32)) (fun j9 h9 => by have q8 := sp_mem h9; simp at q8; have q9 := i_cl (x := v9) (by omega); omega)
          have hK_i_BI := sp_si (sp_imp sp_BI) hK_i_BI (c := 87) (k := v9.toNatClampNeg) (v := (1 : Int32)) (fun j9 h9 => by have q8 := sp_mem h9; simp at q8; have q9 := i_cl (x := v9) (by omega); omega)
          have hK_i_AP := sp_si (sp_imp sp_AP) hK_i_AP (c := 87) (k := v9.toNatClampNeg) (v := (1 : Int32)) (fun j9 h9 => by have q8 := sp_mem h9; simp at q8; have q9 := i_cl (x := v9) (by omega); omega)
          have hK_i_AU := sp_si (sp_imp sp_AU) hK_i_AU (c := 87) (k := v9.toNatClampNeg) (v := (1 : Int32)) (fun j9 h9 => by have q8 := sp_mem h9; simp at q8; have q9 := i_cl (x := v9) (by omega); omega)
          have hK_i_AB := sp_si (sp_imp sp_AB) hK_i_AB (c := 87) (k := v9.toNatClampNeg) (v := (1 : Int32)) (fun j9 h9 => by have q8 := sp_mem h9; simp at q8; have q9 := i_cl (x := v9) (by omega); omega)
          have hK_i_BG := sp_si (sp_imp sp_BG) hK_i_BG (c := 87) (k := v9.toNatClampNeg) (v := (1 : Int32)) (fun j9 h9 => by have q8 := sp_mem h9; simp at q8; have q9 := i_cl (x := v9) (by omega); omega)
          have hK_i_HX := sp_si (sp_imp sp_HX) hK_i_HX (c := 87) (k := v9.toNatClampNeg) (v := (1 : Int32)) (fun j9 h9 => by have q8 := sp_mem h9; simp at q8; have q9 := i_cl (x := v9) (by omega); omega)
          exact L81 x3 _ _ _ _ hR hF hK_TM hK_i_MS hK_i_CW hK_i_UI hK_i_BI hK_i_AP hK_i_AU hK_i_AB hK_i_BG hK_i_HX (by omega) (i_trB (ac_ne (c := 87) (k := 3) (i := v9) (by have q9 := i_cl (x := v9) (by omega); omega)) (by omega : (1 : Int) ≤ (u.1 87 3).toInt ∧ (u.1 87 3).toInt ≤ 6)) (by omega) hC hP hD hS (lv_sub hl [0, 1, 2, 3] rfl)
  have hC : RR = f_X12_says_85 u0 p0 p1 := hRR
  unfold f_X12_says_85 at hC
  refine lv_aload_n F.1 F.2.1 dX12_says_0 rfl (lv_at hl 0 rfl) ?_
  refine a_getr F inX12 hP 85 6 tc_85 rfl rfl (by decide) q1477 (fun _ h9 => h9) dX12_says_1 ?_
  refine a_bp F (124 : Int32) dX12_says_4 (by decide) ?_
  refine lv_iload_n F.1 F.2.1 dX12_says_6 rfl (lv_at hl 2 rfl) ?_
  refine a_iaddX F dX12_says_7 ic_124 rfl (by omega) (fun v10 hv10 yv10 => ?_)
  have hC := vl_eq hC yv10
  refine lv_aload_n F.1 F.2.1 dX12_says_8 rfl (lv_at hl 0 rfl) ?_
  refine a_getr F inX12 hP 85 6 tc_85 rfl rfl (by decide) q1477 (fun _ h9 => h9) dX12_says_9 ?_
  refine a_bp F (106 : Int32) dX12_says_12 (by decide) ?_
  have g11 : (0 : Int) ≤ (u0.1 87 106).toInt ∧ (u0.1 87 106).toInt ≤ 480 := hR 87 106
  refine a_ialdK F hP 87 106 tc_87 rfl rfl (i_in ic_106 (by omega)) (v := (u0.1 87 106)) rfl dX12_says_14 ?_
  refine a_ic F (1 : Int32) dX12_says_15 (by decide) ?_
  refine a_iaddX F dX12_says_16 rfl ic_1 (by omega) (fun v12 hv12 yv12 => ?_)
  have hC := vl_eq hC yv12
  refine a_iast F hP hD hS 87 tc_87 rfl (i_in rfl (by omega)) dX12_says_17 (fun H locs hP hD hS => ?_)
  have hR := hR.si (c := 87) (k := v10.toNatClampNeg) (v := v12) (rs_87_124_131 (by omega) (by omega : (0 : Int) ≤ v12.toInt ∧ v12.toInt ≤ 481))
  have hF := hF.si (c := 87) (k := v10.toNatClampNeg) (v := v12) rfl
  have hK_TM := sp_si (sp_tm _) hK_TM (c := 87) (k := v10.toNatClampNeg) (v := v12) (fun j9 h9 => by have q8 := sp_mem h9; simp at q8; have q9 := i_cl (x := v10) (by omega); omega)
  have hK_i_MS := sp_si (sp_imp sp_MS) hK_i_MS (c := 87) (k := v10.toNatClampNeg) (v := v12) (fun j9 h9 => by have q8 := sp_mem h9; simp at q8; have q9 := i_cl (x := v10) (by omega); omega)
  have hK_i_CW := sp_si (sp_imp sp_CW) hK_i_CW (c := 87) (k := v10.toNatClampNeg) (v := v12) (fun j9 h9 => by have q8 := sp_mem h9; simp at q8; have q9 := i_cl (x := v10) (by omega); omega)
  have hK_i_UI := sp_si (sp_imp sp_UI) hK_i_UI (c := 87) (k := v10.toNatClampNeg) (v := v12) (fun j9 h9 => by have q8 := sp_mem h9; simp at q8; have q9 := i_cl (x := v10) (by omega); omega)
  have hK_i_BI := sp_si (sp_imp sp_BI) hK_i_BI (c := 87) (k := v10.toNatClampNeg) (v := v12) (fun j9 h9 => by have q8 := sp_mem h9; simp at q8; have q9 := i_cl (x := v10) (by omega); omega)
  have hK_i_AP := sp_si (sp_imp sp_AP) hK_i_AP (c := 87) (k := v10.toNatClampNeg) (v := v12) (fun j9 h9 => by have q8 := sp_mem h9; simp at q8; have q9 := i_cl (x := v10) (by omega); omega)
  have hK_i_AU := sp_si (sp_imp sp_AU) hK_i_AU (c := 87) (k := v10.toNatClampNeg) (v := v12) (fun j9 h9 => by have q8 := sp_mem h9; simp at q8; have q9 := i_cl (x := v10) (by omega); omega)
  have hK_i_AB := sp_si (sp_imp sp_AB) hK_i_AB (c := 87) (k := v10.toNatClampNeg) (v := v12) (fun j9 h9 => by have q8 := sp_mem h9; simp at q8; have q9 := i_cl (x := v10) (by omega); omega)
  have hK_i_BG := sp_si (sp_imp sp_BG) hK_i_BG (c := 87) (k := v10.toNatClampNeg) (v := v12) (fun j9 h9 => by have q8 := sp_mem h9; simp at q8; have q9 := i_cl (x := v10) (by omega); omega)
  have hK_i_HX := sp_si (sp_imp sp_HX) hK_i_HX (c := 87) (k := v10.toNatClampNeg) (v := v12) (fun j9 h9 => by have q8 := sp_mem h9; simp at q8; have q9 := i_cl (x := v10) (by omega); omega)
  refine lv_aload_n F.1 F.2.1 dX12_says_18 rfl (lv_at hl 0 rfl) ?_
  refine a_getr F inX12 hP 85 6 tc_85 rfl rfl (by decide) q1477 (fun _ h9 => h9) dX12_says_19 ?_
  refine a_sp F (140 : Int32) dX12_says_22 (by decide) ?_
  refine lv_iload_n F.1 F.2.1 dX12_says_25 rfl (lv_at hl 2 rfl) ?_
  refine a_iaddX F dX12_says_26 ic_140 rfl (by omega) (fun v13 hv13 yv13 => ?_)
  have hC := vl_eq hC yv13
  refine lv_aload_n F.1 F.2.1 dX12_says_27 rfl (lv_at hl 0 rfl) ?_
  refine a_getr F inX12 hP 85 6 tc_85 rfl rfl (by decide) q1477 (fun _ h9 => h9) dX12_says_28 ?_
  refine a_bp F (107 : Int32) dX12_says_31 (by decide) ?_
  refine lv_iload_n F.1 F.2.1 dX12_says_33 rfl (lv_at hl 1 rfl) ?_
  refine a_iaddX F dX12_says_34 ic_107 rfl (by omega) (fun v14 hv14 yv14 => ?_)
  have hC := vl_eq hC yv14
  refine a_iald F hP 87 tc_87 rfl (i_in rfl (by omega)) dX12_says_35 (fun v15 ev15 => ?_)
  have hC := vl_eq hC ev15.symm
  have hv15 : (0 : Int) ≤ v15.toInt ∧ v15.toInt ≤ 7 := rg_seg_87_107_110 hR ev15 (by omega)
  refine a_iast F hP hD hS 87 tc_87 rfl (i_in rfl (by omega)) dX12_says_36 (fun H locs hP hD hS => ?_)
  have hR := hR.si (c := 87) (k := v13.toNatClampNeg) (v := v15) (rs_87_140_147 (by omega) ⟨i_lo _, i_hi _⟩)
  have hF := hF.si (c := 87) (k := v13.toNatClampNeg) (v := v15) rfl
  have hK_TM := sp_si (sp_tm _) hK_TM (c := 87) (k := v13.toNatClampNeg) (v := v15) (fun j9 h9 => by have q8 := sp_mem h9; simp at q8; have q9 := i_cl (x := v13) (by omega); omega)
  have hK_i_MS := sp_si (sp_imp sp_MS) hK_i_MS (c := 87) (k := v13.toNatClampNeg) (v := v15) (fun j9 h9 => by have q8 := sp_mem h9; simp at q8; have q9 := i_cl (x := v13) (by omega); omega)
  have hK_i_CW := sp_si (sp_imp sp_CW) hK_i_CW (c := 87) (k := v13.toNatClampNeg) (v := v15) (fun j9 h9 => by have q8 := sp_mem h9; simp at q8; have q9 := i_cl (x := v13) (by omega); omega)
  have hK_i_UI := sp_si (sp_imp sp_UI) hK_i_UI (c := 87) (k := v13.toNatClampNeg) (v := v15) (fun j9 h9 => by have q8 := sp_mem h9; simp at q8; have q9 := i_cl (x := v13) (by omega); omega)
  have hK_i_BI := sp_si (sp_imp sp_BI) hK_i_BI (c := 87) (k := v13.toNatClampNeg) (v := v15) (fun j9 h9 => by have q8 := sp_mem h9; simp at q8; have q9 := i_cl (x := v13) (by omega); omega)
  have hK_i_AP := sp_si (sp_imp sp_AP) hK_i_AP (c := 87) (k := v13.toNatClampNeg) (v := v15) (fun j9 h9 => by have q8 := sp_mem h9; simp at q8; have q9 := i_cl (x := v13) (by omega); omega)
  have hK_i_AU := sp_si (sp_imp sp_AU) hK_i_AU (c := 87) (k := v13.toNatClampNeg) (v := v15) (fun j9 h9 => by have q8 := sp_mem h9; simp at q8; have q9 := i_cl (x := v13) (by omega); omega)
  have hK_i_AB := sp_si (sp_imp sp_AB) hK_i_AB (c := 87) (k := v13.toNatClampNeg) (v := v15) (fun j9 h9 => by have q8 := sp_mem h9; simp at q8; have q9 := i_cl (x := v13) (by omega); omega)
  have hK_i_BG := sp_si (sp_imp sp_BG) hK_i_BG (c := 87) (k := v13.toNatClampNeg) (v := v15) (fun j9 h9 => by have q8 := sp_mem h9; simp at q8; have q9 := i_cl (x := v13) (by omega); omega)
  have hK_i_HX := sp_si (sp_imp sp_HX) hK_i_HX (c := 87) (k := v13.toNatClampNeg) (v := v15) (fun j9 h9 => by have q8 := sp_mem h9; simp at q8; have q9 := i_cl (x := v13) (by omega); omega)
  refine a_ic F (0 : Int32) dX12_says_37 (by decide) ?_
  refine lv_istore_n (lv' := [(3, .int (0 : Int32)), (0, .ref (ad 85)), (1, .int p0), (2, .int p1)]) F.1 F.2.1 dX12_says_38 rfl hl (by decide) rfl (fun ls hl => ?_)
  exact L39 8 (0 : Int32) _ _ _ _ hR hF (by decide) hK_TM hK_i_MS hK_i_CW hK_i_UI hK_i_BI hK_i_AP hK_i_AU hK_i_AB hK_i_BG hK_i_HX (by decide) hC hP hD hS (lv_sub hl [1, 2, 3, 0] rfl)

def f_X12_whyGoOf_85 (u0 : ac_U) (p0 : Int32) (p1 : Int32) : Int32 := (vl ((111 : Int32) + p0) (fun (v1 : Int32) => (vl (u0.1 87 v1.toNatClampNeg) (fun (v2 : Int32) => (if v2.toInt ≠ (1 : Int) then (vl ((107 : Int32) + p0) (fun (v4 : Int32) => (vl (u0.1 87 v4.toNatClampNeg) (fun (v5 : Int32) => (vl ((8 : Int32) + v5) (fun (v6 : Int32) => (vl (u0.1 87 v6.toNatClampNeg) (fun (v7 : Int32) => (vl (f_X12_bitOf u0 v7 p1) (fun (r8 : Int32) => (if r8.toInt ≠ 0 then (vl (f_X12_isOver_85 u0) (fun (r10 : Int32) => (if r10.toInt = 0 then (0 : Int32) else (3 : Int32)))) else (2 : Int32)))))))))))) else (1 : Int32))))))
set_option maxHeartbeats 600000 in
set_option maxRecDepth 100000 in
theorem x_X12_whyGoOf_85 (l : Launch) (dC : Nat → ClassId) (dI : Nat → Nat → Nat) (ad : Nat → Nat) (cA : Nat → ClassId) (nF : Nat) (u0 : ac_U) (p0 : Int32) (p1 : Int32) (hR : ac_R rg u0) (hp0 : (0 : Int) ≤ p0.toInt ∧ p0.toInt ≤ 3) (hp1 : (0 : Int) ≤ p1.toInt ∧ p1.toInt ≤ 7) : ac_Mi l yX12_whyGoOf (.code yX12_whyGoOf cX12_whyGoOf 3 (some .int) :: TB) 2 (dC, dI) vwCl (ac_ty cA) ad cA (TT nF) [.ref (ad 85), .int p0, .int p1] u0 (fun (r : Int32) (u : ac_U) => u = u0 ∧ ((0 : Int) ≤ r.toInt ∧ r.toInt ≤ 3) ∧ f_X12_whyGoOf_85 u0 p0 p1 = r) := by
  refine ac_Mi.of (cc := cX12_whyGoOf) (maxL := 3) (ret := (some .int)) (by decide) rfl (Nat.le_of_ble_eq_true rfl) ?_
  intro p e s m below meth c A ls F hml hr hlocks hA hP hD hS hl
  have F : ac_X p s m [.ref (ad 85), .int p0, .int p1].toArray c cX12_whyGoOf RX12 TB (dC, dI) vwCl (ac_ty cA) := ⟨F.1, F.2.1, fun w h => F.2.2.1 w (List.mem_cons_of_mem _ h), F.2.2.2.1, F.2.2.2.2⟩
  have hl : lv_has ls 3 [(0, .ref (ad 85)), (1, .int p0), (2, .int p1)] := hl
  obtain ⟨RR, hRR⟩ : ∃ q, q = f_X12_whyGoOf_85 u0 p0 p1 := ⟨_, rfl⟩
  have hC : RR = f_X12_whyGoOf_85 u0 p0 p1 := hRR
  unfold f_X12_whyGoOf_85 at hC
  refine lv_aload_n F.1 F.2.1 dX12_whyGoOf_0 rfl (lv_at hl 0 rfl) ?_
  refine a_getr F inX12 hP 85 6 tc_85 rfl rfl (by decide) q1477 (fun _ h9 => h9) dX12_whyGoOf_1 ?_
  refine a_bp F (111 : Int32) dX12_whyGoOf_4 (by decide) ?_
  refine lv_iload_n F.1 F.2.1 dX12_whyGoOf_6 rfl (lv_at hl 1 rfl) ?_
  refine a_iaddX F dX12_whyGoOf_7 ic_111 rfl (by omega) (fun v1 hv1 yv1 => ?_)
  have hC := vl_eq hC yv1
  refine a_iald F hP 87 tc_87 rfl (i_in rfl (by omega)) dX12_whyGoOf_8 (fun v2 ev2 => ?_)
  have hC := vl_eq hC ev2.symm
  refine a_ic F (1 : Int32) dX12_whyGoOf_9 (by decide) ?_
  refine b_ne F 17 dX12_whyGoOf_10 (by decide) rfl ic_1 (fun c3 => ?_) (fun c3 => ?_)
  · have hC := hC.trans (if_pos c3)
    refine lv_aload_n F.1 F.2.1 dX12_whyGoOf_17 rfl (lv_at hl 0 rfl) ?_
    refine a_getr F inX12 hP 85 6 tc_85 rfl rfl (by decide) q1477 (fun _ h9 => h9) dX12_whyGoOf_18 ?_
    refine a_bp F (8 : Int32) dX12_whyGoOf_21 (by decide) ?_
    refine lv_aload_n F.1 F.2.1 dX12_whyGoOf_23 rfl (lv_at hl 0 rfl) ?_
    refine a_getr F inX12 hP 85 6 tc_85 rfl rfl (by decide) q1477 (fun _ h9 => h9) dX12_whyGoOf_24 ?_
    refine a_bp F (107 : Int32) dX12_whyGoOf_27 (by decide) ?_
    refine lv_iload_n F.1 F.2.1 dX12_whyGoOf_29 rfl (lv_at hl 1 rfl) ?_
    refine a_iaddX F dX12_whyGoOf_30 ic_107 rfl (by omega) (fun v4 hv4 yv4 => ?_)
    have hC := vl_eq hC yv4
    refine a_iald F hP 87 tc_87 rfl (i_in rfl (by omega)) dX12_whyGoOf_31 (fun v5 ev5 => ?_)
    have hC := vl_eq hC ev5.symm
    have hv5 : (0 : Int) ≤ v5.toInt ∧ v5.toInt ≤ 7 := rg_seg_87_107_110 hR ev5 (by omega)
    refine a_iaddX F dX12_whyGoOf_32 ic_8 rfl (by omega) (fun v6 hv6 yv6 => ?_)
    have hC := vl_eq hC yv6
    refine a_iald F hP 87 tc_87 rfl (i_in rfl (by omega)) dX12_whyGoOf_33 (fun v7 ev7 => ?_)
    have hC := vl_eq hC ev7.symm
    refine lv_iload_n F.1 F.2.1 dX12_whyGoOf_34 rfl (lv_at hl 2 rfl) ?_
    refine a_Si F hml hl.1 hA hP hD hS (As := [.int v7, .int p1]) (x_X12_bitOf l dC dI ad cA nF _ v7 p1 hR) (cs_RX12_223 (d := 1) F.2.2.1 (by decide)) rfl rfl (Nat.le_of_ble_eq_true rfl) dX12_whyGoOf_35 ⟨Nat.le_refl 0, Nat.le_refl 0⟩ (fun r8 uN8 H locs hq hP hD hS => ?_)
    obtain ⟨hu8, gr8, hz8⟩ := hq
    rw [hu8] at hP hD
    have hC := vl_eq hC hz8.symm
    refine z_ne F 45 dX12_whyGoOf_38 (by decide) rfl (fun c9 => ?_) (fun c9 => ?_)
    · have hC := hC.trans (if_pos c9)
      refine lv_aload_n F.1 F.2.1 dX12_whyGoOf_45 rfl (lv_at hl 0 rfl) ?_
      refine a_Vi F hml hl.1 hA hP hD hS (As := []) (x_X12_isOver_85 l dC dI ad cA nF _  hR) (cs_RX12_263 (d := 1) F.2.2.1 (by decide)) tc_85 rfl rfl rfl rfl (Nat.le_of_ble_eq_true rfl) dX12_whyGoOf_46 ⟨Nat.le_refl 0, Nat.le_refl 0⟩ (fun r10 uN10 H locs hq hP hD hS => ?_)
      obtain ⟨hu10, gr10, xr10, hz10⟩ := hq
      rw [hu10] at hP hD
      have g11 : (0 : Int) ≤ (u0.1 87 106).toInt ∧ (u0.1 87 106).toInt ≤ 480 := hR 87 106
      have g12 : (4 : Int) ≤ (u0.1 87 0).toInt ∧ (u0.1 87 0).toInt ≤ 24 := hR 87 0
      have xr10 : r10.toInt = 0 → (u0.1 87 106).toInt ≠ 20 * (u0.1 87 0).toInt := xr10
      have hC := vl_eq hC hz10.symm
      refine z_eq F 56 dX12_whyGoOf_49 (by decide) rfl (fun c13 => ?_) (fun c13 => ?_)
      · have hC := hC.trans (if_pos c13)
        refine a_ic F (0 : Int32) dX12_whyGoOf_56 (by decide) ?_
        exact a_reti F hr hlocks hP hD hS dX12_whyGoOf_57 ⟨rfl, (by decide), hRR.symm.trans hC⟩
      · have hC := hC.trans (if_neg (by omega))
        refine a_ic F (3 : Int32) dX12_whyGoOf_52 (by decide) ?_
        refine lv_goto (tgt := 57) F.1 F.2.1 dX12_whyGoOf_53 (by decide) ?_
        exact a_reti F hr hlocks hP hD hS dX12_whyGoOf_57 ⟨rfl, (by decide), hRR.symm.trans hC⟩
    · have hC := hC.trans (if_neg (by omega))
      refine a_ic F (2 : Int32) dX12_whyGoOf_41 (by decide) ?_
      refine lv_goto (tgt := 57) F.1 F.2.1 dX12_whyGoOf_42 (by decide) ?_
      exact a_reti F hr hlocks hP hD hS dX12_whyGoOf_57 ⟨rfl, (by decide), hRR.symm.trans hC⟩
  · have hC := hC.trans (if_neg (by omega))
    refine a_ic F (1 : Int32) dX12_whyGoOf_13 (by decide) ?_
    refine lv_goto (tgt := 57) F.1 F.2.1 dX12_whyGoOf_14 (by decide) ?_
    exact a_reti F hr hlocks hP hD hS dX12_whyGoOf_57 ⟨rfl, (by decide), hRR.symm.trans hC⟩

def f_X12_whySay_85 (u0 : ac_U) (p0 : Int32) (p1 : Int32) : Int32 := (vl (f_X12_isOver_85 u0) (fun (r1 : Int32) => (if r1.toInt = 0 then (vl ((26 : Int32) + p1) (fun (v5 : Int32) => (vl (u0.1 87 v5.toNatClampNeg) (fun (v6 : Int32) => (if v6.toInt = p0.toInt then (vl ((124 : Int32) + p1) (fun (v8 : Int32) => (vl (u0.1 87 v8.toNatClampNeg) (fun (v9 : Int32) => (if v9.toInt ≤ 0 then (0 : Int32) else (6 : Int32)))))) else (5 : Int32)))))) else (3 : Int32))))
set_option maxHeartbeats 600000 in
set_option maxRecDepth 100000 in
theorem x_X12_whySay_85 (l : Launch) (dC : Nat → ClassId) (dI : Nat → Nat → Nat) (ad : Nat → Nat) (cA : Nat → ClassId) (nF : Nat) (u0 : ac_U) (p0 : Int32) (p1 : Int32) (hR : ac_R rg u0) (hp0 : (0 : Int) ≤ p0.toInt ∧ p0.toInt ≤ 3) (hp1 : (0 : Int) ≤ p1.toInt ∧ p1.toInt ≤ 7) : ac_Mi l yX12_whySay (.code yX12_whySay cX12_whySay 3 (some .int) :: TB) 2 (dC, dI) vwCl (ac_ty cA) ad cA (TT nF) [.ref (ad 85), .int p0, .int p1] u0 (fun (r : Int32) (u : ac_U) => u = u0 ∧ ((0 : Int) ≤ r.toInt ∧ r.toInt ≤ 6) ∧ f_X12_whySay_85 u0 p0 p1 = r) := by
  refine ac_Mi.of (cc := cX12_whySay) (maxL := 3) (ret := (some .int)) (by decide) rfl (Nat.le_of_ble_eq_true rfl) ?_
  intro p e s m below meth c A ls F hml hr hlocks hA hP hD hS hl
  have F : ac_X p s m [.ref (ad 85), .int p0, .int p1].toArray c cX12_whySay RX12 TB (dC, dI) vwCl (ac_ty cA) := ⟨F.1, F.2.1, fun w h => F.2.2.1 w (List.mem_cons_of_mem _ h), F.2.2.2.1, F.2.2.2.2⟩
  have hl : lv_has ls 3 [(0, .ref (ad 85)), (1, .int p0), (2, .int p1)] := hl
  obtain ⟨RR, hRR⟩ : ∃ q, q = f_X12_whySay_85 u0 p0 p1 := ⟨_, rfl⟩
  have hC : RR = f_X12_whySay_85 u0 p0 p1 := hRR
  unfold f_X12_whySay_85 at hC
  refine lv_aload_n F.1 F.2.1 dX12_whySay_0 rfl (lv_at hl 0 rfl) ?_
  refine a_Vi F hml hl.1 hA hP hD hS (As := []) (x_X12_isOver_85 l dC dI ad cA nF _  hR) (cs_RX12_263 (d := 1) F.2.2.1 (by decide)) tc_85 rfl rfl rfl rfl (Nat.le_of_ble_eq_true rfl) dX12_whySay_1 ⟨Nat.le_refl 0, Nat.le_refl 0⟩ (fun r1 uN1 H locs hq hP hD hS => ?_)
  obtain ⟨hu1, gr1, xr1, hz1⟩ := hq
  rw [hu1] at hP hD
  have g2 : (0 : Int) ≤ (u0.1 87 106).toInt ∧ (u0.1 87 106).toInt ≤ 480 := hR 87 106
  have g3 : (4 : Int) ≤ (u0.1 87 0).toInt ∧ (u0.1 87 0).toInt ≤ 24 := hR 87 0
  have xr1 : r1.toInt = 0 → (u0.1 87 106).toInt ≠ 20 * (u0.1 87 0).toInt := xr1
  have hC := vl_eq hC hz1.symm
  refine z_eq F 11 dX12_whySay_4 (by decide) rfl (fun c4 => ?_) (fun c4 => ?_)
  · have hC := hC.trans (if_pos c4)
    refine lv_aload_n F.1 F.2.1 dX12_whySay_11 rfl (lv_at hl 0 rfl) ?_
    refine a_getr F inX12 hP 85 6 tc_85 rfl rfl (by decide) q1477 (fun _ h9 => h9) dX12_whySay_12 ?_
    refine a_bp F (26 : Int32) dX12_whySay_15 (by decide) ?_
    refine lv_iload_n F.1 F.2.1 dX12_whySay_17 rfl (lv_at hl 2 rfl) ?_
    refine a_iaddX F dX12_whySay_18 ic_26 rfl (by omega) (fun v5 hv5 yv5 => ?_)
    have hC := vl_eq hC yv5
    refine a_iald F hP 87 tc_87 rfl (i_in rfl (by omega)) dX12_whySay_19 (fun v6 ev6 => ?_)
    have hC := vl_eq hC ev6.symm
    refine lv_iload_n F.1 F.2.1 dX12_whySay_20 rfl (lv_at hl 1 rfl) ?_
    refine b_eq F 28 dX12_whySay_21 (by decide) rfl rfl (fun c7 => ?_) (fun c7 => ?_)
    · have hC := hC.trans (if_pos c7)
      refine lv_aload_n F.1 F.2.1 dX12_whySay_28 rfl (lv_at hl 0 rfl) ?_
      refine a_getr F inX12 hP 85 6 tc_85 rfl rfl (by decide) q1477 (fun _ h9 => h9) dX12_whySay_29 ?_
      refine a_bp F (124 : Int32) dX12_whySay_32 (by decide) ?_
      refine lv_iload_n F.1 F.2.1 dX12_whySay_34 rfl (lv_at hl 2 rfl) ?_
      refine a_iaddX F dX12_whySay_35 ic_124 rfl (by omega) (fun v8 hv8 yv8 => ?_)
      have hC := vl_eq hC yv8
      refine a_iald F hP 87 tc_87 rfl (i_in rfl (by omega)) dX12_whySay_36 (fun v9 ev9 => ?_)
      have hC := vl_eq hC ev9.symm
      have hv9 : (0 : Int) ≤ v9.toInt ∧ v9.toInt ≤ 481 := rg_seg_87_124_131 hR ev9 (by omega)
      refine z_le F 45 dX12_whySay_37 (by decide) rfl (fun c10 => ?_) (fun c10 => ?_)
      · have hC := hC.trans (if_pos c10)
        refine a_ic F (0 : Int32) dX12_whySay_45 (by decide) ?_
        exact a_reti F hr hlocks hP hD hS dX12_whySay_46 ⟨rfl, (by decide), hRR.symm.trans hC⟩
      · have hC := hC.trans (if_neg (by omega))
        refine a_bp F (6 : Int32) dX12_whySay_40 (by decide) ?_
        refine lv_goto (tgt := 46) F.1 F.2.1 dX12_whySay_42 (by decide) ?_
        exact a_reti F hr hlocks hP hD hS dX12_whySay_46 ⟨rfl, (by decide), hRR.symm.trans hC⟩
    · have hC := hC.trans (if_neg (by omega))
      refine a_ic F (5 : Int32) dX12_whySay_24 (by decide) ?_
      refine lv_goto (tgt := 46) F.1 F.2.1 dX12_whySay_25 (by decide) ?_
      exact a_reti F hr hlocks hP hD hS dX12_whySay_46 ⟨rfl, (by decide), hRR.symm.trans hC⟩
  · have hC := hC.trans (if_neg (by omega))
    refine a_ic F (3 : Int32) dX12_whySay_7 (by decide) ?_
    refine lv_goto (tgt := 46) F.1 F.2.1 dX12_whySay_8 (by decide) ?_
    exact a_reti F hr hlocks hP hD hS dX12_whySay_46 ⟨rfl, (by decide), hRR.symm.trans hC⟩
def K_X12_lives_85_143_b (B143 : ac_U → Int32 → Int32 → ac_U × Int32) (u0 : ac_U) (p0 : Int32) (u : ac_U) (x2 : Int32) (x5 : Int32) : ac_U × Int32 := (if x2.toInt ≤ x5.toInt then (u, (0 : Int32)) else (vl (f_X12_hour_85 u) (fun (u5 : ac_U) => (vl (x5 + Int32.ofInt (1)) (fun (v8 : Int32) => (B143 u5 x2 v8))))))
def K_X12_lives_85_143 (u0 : ac_U) (p0 : Int32) : Nat → ac_U → Int32 → Int32 → ac_U × Int32
  | 0 => fun u x2 x5 => (u, 0)
  | n + 1 => fun u x2 x5 => K_X12_lives_85_143_b (K_X12_lives_85_143 u0 p0 n) u0 p0 u x2 x5
def K_X12_lives_85_114 (u0 : ac_U) (p0 : Int32) (u : ac_U) (x4 : Int32) : ac_U × Int32 := (u, x4)
def K_X12_lives_85_92 (u0 : ac_U) (p0 : Int32) (u : ac_U) (x4 : Int32) : ac_U × Int32 := (u, x4)
def K_X12_lives_85_71 (u0 : ac_U) (p0 : Int32) (u : ac_U) (x4 : Int32) : ac_U × Int32 := (u, x4)
def f_X12_lives_85 (u0 : ac_U) (p0 : Int32) : ac_U × Int32 := (vl (p0 + (1 : Int32)) (fun (v9 : Int32) => (vl (u0.1 89 v9.toNatClampNeg) (fun (v10 : Int32) => (vl (p0 + (2 : Int32)) (fun (v11 : Int32) => (vl (u0.1 89 v11.toNatClampNeg) (fun (v12 : Int32) => (vl (u0.1 89 p0.toNatClampNeg) (fun (v13 : Int32) => (if v13.toInt < 0 ∨ 2 < v13.toInt then (vl ((u0.1 87 106) + v10) (fun (v16 : Int32) => (vl ((20 : Int32) * (u0.1 87 0)) (fun (v18 : Int32) => (if v16.toInt ≤ v18.toInt then (K_X12_lives_85_143 u0 p0 101 u0 v10 (0 : Int32)) else (u0, (3 : Int32))))))) else (if v13.toInt = 0 then (vl (f_X12_whyGoOf_85 u0 v10 v12) (fun (r20 : Int32) => (if r20.toInt ≠ 0 then (K_X12_lives_85_71 u0 p0 u0 r20) else (vl (f_X12_goes_85 u0 v10 v12) (fun (u23 : ac_U) => (K_X12_lives_85_71 u0 p0 u23 r20)))))) else (if v13.toInt = 1 then (vl (f_X12_whyAct_85 u0 v10) (fun (r26 : Int32) => (if r26.toInt ≠ 0 then (K_X12_lives_85_92 u0 p0 u0 r26) else (vl (f_X12_does_85 u0 v10 v12) (fun (u29 : ac_U) => (K_X12_lives_85_92 u0 p0 u29 r26)))))) else (vl (f_X12_whySay_85 u0 v10 v12) (fun (r32 : Int32) => (if r32.toInt ≠ 0 then (K_X12_lives_85_114 u0 p0 u0 r32) else (vl (f_X12_says_85 u0 v10 v12) (fun (u34 : ac_U) => (K_X12_lives_85_114 u0 p0 u34 r32)))))))))))))))))))
set_option maxHeartbeats 600000 in
set_option maxRecDepth 100000 in
theorem x_X12_lives_85 (l : Launch) (dC : Nat → ClassId) (dI : Nat → Nat → Nat) (ad : Nat → Nat) (cA : Nat → ClassId) (nF : Nat) (u0 : ac_U) (p0 : Int32) (hR : ac_R rg u0) (hp0 : (0 : Int) ≤ p0.toInt ∧ p0.toInt ≤ 117) (hg0 : p0.toInt < 3 * (u0.1 85 35).toInt ∧ p0.toInt % 3 = 0) (hK_MS : msI u0) (hK_AP : apI u0) (hK_BLI : blI u0) (hK_BG : bgI u0) : ac_Mi l yX12_lives (.code yX12_lives cX12_lives 6 (some .int) :: TB) 3 (dC, dI) vwCl (ac_ty cA) ad cA (TT nF) [.ref (ad 85), .int p0] u0 (fun (r : Int32) (u : ac_U) => ac_R rg u ∧ ac_Fr [(87, none)] u0 u ∧ ((0 : Int) ≤ r.toInt ∧ r.toInt ≤ 6) ∧ msI u ∧ apI u ∧ (cdI u0 → cdI u) ∧ (unI u0 → unI u) ∧ (bfI u0 → bfI u) ∧ (auI u0 → auI u) ∧ (abI u0 → abI u) ∧ (bgI u0 → bgI u) ∧ (hxI u0 → hxI u) ∧ f_X12_lives_85 u0 p0 = (u, r)) := by
  refine ac_Mi.of (cc := cX12_lives) (maxL := 6) (ret := (some .int)) (by decide) rfl (Nat.le_of_ble_eq_true rfl) ?_
  intro p e s m below meth c A ls F hml hr hlocks hA hP hD hS hl
  have F : ac_X p s m [.ref (ad 85), .int p0].toArray c cX12_lives RX12 TB (dC, dI) vwCl (ac_ty cA) := ⟨F.1, F.2.1, fun w h => F.2.2.1 w (List.mem_cons_of_mem _ h), F.2.2.2.1, F.2.2.2.2⟩
  have hl : lv_has ls 6 [(0, .ref (ad 85)), (1, .int p0)] := hl
  obtain ⟨RR, hRR⟩ : ∃ q, q = f_X12_lives_85 u0 p0 := ⟨_, rfl⟩
  have hF : ac_Fr [(87, none)] u0 u0 := ac_Fr.rf
  have hK_i_CW : (fun u => cdI u0 → cdI u) u0 := fun h => h
  have hK_i_UI : (fun u => unI u0 → unI u) u0 := fun h => h
  have hK_i_BI : (fun u => bfI u0 → bfI u) u0 := fun h => h
  have hK_i_AU : (fun u => auI u0 → auI u) u0 := fun h => h
  have hK_i_AB : (fun u => abI u0 → abI u) u0 := fun h => h
  have hK_i_BG : (fun u => bgI u0 → bgI u) u0 := fun h => h
  have hK_i_HX : (fun u => hxI u0 → hxI u) u0 := fun h => h
  have L143 : ∀ (n143 : Nat) (x2 : Int32) (x5 : Int32) (u : ac_U) (H : Heap) (locs : List Loc) (ls : Array Slot), ac_R rg u → ac_Fr [(87, none)] u0 u → 99 - x5.toInt < (n143 : Int) → msI u → apI u → (fun u => cdI u0 → cdI u) u → (fun u => unI u0 → unI u) u → (fun u => bfI u0 → bfI u) u → (fun u => auI u0 → auI u) u → (fun u => abI u0 → abI u) u → (fun u => bgI u0 → bgI u) u → (fun u => hxI u0 → hxI u) u → (0 : Int) ≤ x2.toInt ∧ x2.toInt ≤ 99 → (0 : Int) ≤ x5.toInt ∧ x5.toInt ≤ 99 → (u.1 87 106).toInt + x2.toInt - x5.toInt ≤ 20 * (u.1 87 0).toInt → RR = (K_X12_lives_85_143 u0 p0 n143 u x2 x5) → va_P (dC, dI) vwCl (ac_w ad cA (TT nF) u) H → va_D A (ac_w ad cA (TT nF) u) → va_S A s.heap H locs → lv_has ls 6 [(0, .ref (ad 85)), (2, .int x2), (5, .int x5)] → W p l e (ac_rm 3) s m [.ref (ad 85), .int p0].toArray below meth c H locs 0 0 (MQ below (va_Qi (fun (r : Int32) (u : ac_U) => ac_R rg u ∧ ac_Fr [(87, none)] u0 u ∧ ((0 : Int) ≤ r.toInt ∧ r.toInt ≤ 6) ∧ msI u ∧ apI u ∧ (cdI u0 → cdI u) ∧ (unI u0 → unI u) ∧ (bfI u0 → bfI u) ∧ (auI u0 → auI u) ∧ (abI u0 → abI u) ∧ (bgI u0 → bgI u) ∧ (hxI u0 → hxI u) ∧ f_X12_lives_85 u0 p0 = (u, r)) (ac_B (dC, dI) vwCl (ac_ty cA) ad cA (TT nF) A) A) [.ref (ad 85), .int p0].toArray s 0 0 A) (F0 m 143 ls []) := by
    intro n143
    induction n143 with
    | zero => intro x2 x5 u H locs ls hR hF hn143 hK_MS hK_AP hK_i_CW hK_i_UI hK_i_BI hK_i_AU hK_i_AB hK_i_BG hK_i_HX f0 f1 f2 hC hP hD hS hl; exfalso; omega
    | succ n143 ih143 =>
      intro x2 x5 u H locs ls hR hF hn143 hK_MS hK_AP hK_i_CW hK_i_UI hK_i_BI hK_i_AU hK_i_AB hK_i_BG hK_i_HX f0 f1 f2 hC hP hD hS hl
      have hC : RR = K_X12_lives_85_143_b (K_X12_lives_85_143 u0 p0 n143) u0 p0 u x2 x5 := hC
      unfold K_X12_lives_85_143_b at hC
      refine lv_iload F.1 F.2.1 dX12_lives_143 (lv_at hl 2 rfl) ?_
      refine lv_iload_n F.1 F.2.1 dX12_lives_145 rfl (lv_at hl 1 rfl) ?_
      refine b_ge F 159 dX12_lives_146 (by decide) rfl rfl (fun c1 => ?_) (fun c1 => ?_)
      · have hC := hC.trans (if_pos c1)
        refine a_ic F (0 : Int32) dX12_lives_159 (by decide) ?_
        exact a_reti F hr hlocks hP hD hS dX12_lives_160 ⟨hR, hF, (by decide), hK_MS, hK_AP, hK_i_CW, hK_i_UI, hK_i_BI, hK_i_AU, hK_i_AB, hK_i_BG, hK_i_HX, hRR.symm.trans hC⟩
      · have hC := hC.trans (if_neg (by omega))
        refine lv_aload_n F.1 F.2.1 dX12_lives_149 rfl (lv_at hl 0 rfl) ?_
        have hO2 : (u.1 87 106).toInt ≤ 20 * (u.1 87 0).toInt := hK_MS.1
        have hQ2 : 4 ≤ (u.1 87 0).toInt ∧ (u.1 87 0).toInt ≤ 24 := hR 87 0
        have hW2 : 0 ≤ (u.1 87 106).toInt ∧ (u.1 87 106).toInt ≤ 480 := hR 87 106
        have g3 : (0 : Int) ≤ (u.1 87 106).toInt ∧ (u.1 87 106).toInt ≤ 480 := hR 87 106
        have g4 : (4 : Int) ≤ (u.1 87 0).toInt ∧ (u.1 87 0).toInt ≤ 24 := hR 87 0
        refine a_Vv F hml hl.1 hA hP hD hS (As := []) (x_X12_hour_85 l dC dI ad cA nF _  hR (by omega : (0 : Int) ≤ (u.1 87 106).toInt ∧ (u.1 87 106).toInt ≤ 479) (by omega : (u.1 87 106).toInt < 20 * (u.1 87 0).toInt) hK_MS) (cs_RX12_292 (d := 1) F.2.2.1 (by decide)) tc_85 rfl rfl rfl rfl (Nat.le_of_ble_eq_true rfl) dX12_lives_150 ⟨Nat.le_refl 0, Nat.le_refl 0⟩ (fun u5 H locs hq hP hD hS => ?_)
        obtain ⟨hR, hF5, xr5, hK_MS, hJ5_CW, hJ5_UI, hJ5_BI, hJ5_AP, hJ5_AU, hJ5_AB, hJ5_BG, hJ5_HX, hz5⟩ := hq
        have hF := hF.tr hF5 (by decide)
        have hK_AP := hJ5_AP hK_AP
        have hK_i_CW : (fun u => cdI u0 → cdI u) u5 := fun h => hJ5_CW (hK_i_CW h)
        have hK_i_UI : (fun u => unI u0 → unI u) u5 := fun h => hJ5_UI (hK_i_UI h)
        have hK_i_BI : (fun u => bfI u0 → bfI u) u5 := fun h => hJ5_BI (hK_i_BI h)
        have hK_i_AU : (fun u => auI u0 → auI u) u5 := fun h => hJ5_AU (hK_i_AU h)
        have hK_i_AB : (fun u => abI u0 → abI u) u5 := fun h => hJ5_AB (hK_i_AB h)
        have hK_i_BG : (fun u => bgI u0 → bgI u) u5 := fun h => hJ5_BG (hK_i_BG h)
        have hK_i_HX : (fun u => hxI u0 → hxI u) u5 := fun h => hJ5_HX (hK_i_HX h)
        have g6 : (0 : Int) ≤ (u5.1 87 106).toInt ∧ (u5.1 87 106).toInt ≤ 480 := hR 87 106
        have g7 : (4 : Int) ≤ (u5.1 87 0).toInt ∧ (u5.1 87 0).toInt ≤ 24 := hR 87 0
        have xr5 : (u5.1 87 106).toInt = (u.1 87 106).toInt + 1 ∧ (u5.1 87 0).toInt = (u.1 87 0).toInt := xr5
        have hC := vl_eq hC hz5.symm
        refine a_iincX F (k := 2) (fun v8 => [(5, .int v8), (0, .ref (ad 85)), (2, .int x2)]) dX12_lives_153 hl rfl rfl (by decide) (by omega) (by decide) (fun _ => rfl) (fun v8 ls hv8 yv8 hl => ?_)
        have hC := vl_eq hC yv8
        refine lv_goto (tgt := 143) F.1 F.2.1 dX12_lives_156 (by decide) ?_
        exact ih143 x2 v8 _ _ _ _ hR hF (by omega) hK_MS hK_AP hK_i_CW hK_i_UI hK_i_BI hK_i_AU hK_i_AB hK_i_BG hK_i_HX (by omega) (by omega) (by omega : (u5.1 87 106).toInt + x2.toInt - v8.toInt ≤ 20 * (u5.1 87 0).toInt) hC hP hD hS (lv_sub hl [1, 2, 0] rfl)
  have L114 : ∀ (x4 : Int32) (u : ac_U) (H : Heap) (locs : List Loc) (ls : Array Slot), ac_R rg u → ac_Fr [(87, none)] u0 u → msI u → apI u → (fun u => cdI u0 → cdI u) u → (fun u => unI u0 → unI u) u → (fun u => bfI u0 → bfI u) u → (fun u => auI u0 → auI u) u → (fun u => abI u0 → abI u) u → (fun u => bgI u0 → bgI u) u → (fun u => hxI u0 → hxI u) u → (0 : Int) ≤ x4.toInt ∧ x4.toInt ≤ 6 → RR = (K_X12_lives_85_114 u0 p0 u x4) → va_P (dC, dI) vwCl (ac_w ad cA (TT nF) u) H → va_D A (ac_w ad cA (TT nF) u) → va_S A s.heap H locs → lv_has ls 6 [(4, .int x4)] → W p l e (ac_rm 3) s m [.ref (ad 85), .int p0].toArray below meth c H locs 0 0 (MQ below (va_Qi (fun (r : Int32) (u : ac_U) => ac_R rg u ∧ ac_Fr [(87, none)] u0 u ∧ ((0 : Int) ≤ r.toInt ∧ r.toInt ≤ 6) ∧ msI u ∧ apI u ∧ (cdI u0 → cdI u) ∧ (unI u0 → unI u) ∧ (bfI u0 → bfI u) ∧ (auI u0 → auI u) ∧ (abI u0 → abI u) ∧ (bgI u0 → bgI u) ∧ (hxI u0 → hxI u) ∧ f_X12_lives_85 u0 p0 = (u, r)) (ac_B (dC, dI) vwCl (ac_ty cA) ad cA (TT nF) A) A) [.ref (ad 85), .int p0].toArray s 0 0 A) (F0 m 114 ls []) := by
    intro x4 u H locs ls hR hF hK_MS hK_AP hK_i_CW hK_i_UI hK_i_BI hK_i_AU hK_i_AB hK_i_BG hK_i_HX f0 hC hP hD hS hl
    unfold K_X12_lives_85_114 at hC
    refine lv_iload F.1 F.2.1 dX12_lives_114 (lv_at hl 0 rfl) ?_
    exact a_reti F hr hlocks hP hD hS dX12_lives_116 ⟨hR, hF, (by omega : (0 : Int) ≤ x4.toInt ∧ x4.toInt ≤ 6), hK_MS, hK_AP, hK_i_CW, hK_i_UI, hK_i_BI, hK_i_AU, hK_i_AB, hK_i_BG, hK_i_HX, hRR.symm.trans hC⟩
  have L92 : ∀ (x4 : Int32) (u : ac_U) (H : Heap) (locs : List Loc) (ls : Array Slot), ac_R rg u → ac_Fr [(87, none)] u0 u → msI u → apI u → (fun u => cdI u0 → cdI u) u → (fun u => unI u0 → unI u) u → (fun u => bfI u0 → bfI u) u → (fun u => auI u0 → auI u) u → (fun u => abI u0 → abI u) u → (fun u => bgI u0 → bgI u) u → (fun u => hxI u0 → hxI u) u → (0 : Int) ≤ x4.toInt ∧ x4.toInt ≤ 4 → RR = (K_X12_lives_85_92 u0 p0 u x4) → va_P (dC, dI) vwCl (ac_w ad cA (TT nF) u) H → va_D A (ac_w ad cA (TT nF) u) → va_S A s.heap H locs → lv_has ls 6 [(4, .int x4)] → W p l e (ac_rm 3) s m [.ref (ad 85), .int p0].toArray below meth c H locs 0 0 (MQ below (va_Qi (fun (r : Int32) (u : ac_U) => ac_R rg u ∧ ac_Fr [(87, none)] u0 u ∧ ((0 : Int) ≤ r.toInt ∧ r.toInt ≤ 6) ∧ msI u ∧ apI u ∧ (cdI u0 → cdI u) ∧ (unI u0 → unI u) ∧ (bfI u0 → bfI u) ∧ (auI u0 → auI u) ∧ (abI u0 → abI u) ∧ (bgI u0 → bgI u) ∧ (hxI u0 → hxI u) ∧ f_X12_lives_85 u0 p0 = (u, r)) (ac_B (dC, dI) vwCl (ac_ty cA) ad cA (TT nF) A) A) [.ref (ad 85), .int p0].toArray s 0 0 A) (F0 m 92 ls []) := by
    intro x4 u H locs ls hR hF hK_MS hK_AP hK_i_CW hK_i_UI hK_i_BI hK_i_AU hK_i_AB hK_i_BG hK_i_HX f0 hC hP hD hS hl
    unfold K_X12_lives_85_92 at hC
    refine lv_iload F.1 F.2.1 dX12_lives_92 (lv_at hl 0 rfl) ?_
    exact a_reti F hr hlocks hP hD hS dX12_lives_94 ⟨hR, hF, (by omega : (0 : Int) ≤ x4.toInt ∧ x4.toInt ≤ 6), hK_MS, hK_AP, hK_i_CW, hK_i_UI, hK_i_BI, hK_i_AU, hK_i_AB, hK_i_BG, hK_i_HX, hRR.symm.trans hC⟩
  have L71 : ∀ (x4 : Int32) (u : ac_U) (H : Heap) (locs : List Loc) (ls : Array Slot), ac_R rg u → ac_Fr [(87, none)] u0 u → msI u → apI u → (fun u => cdI u0 → cdI u) u → (fun u => unI u0 → unI u) u → (fun u => bfI u0 → bfI u) u → (fun u => auI u0 → auI u) u → (fun u => abI u0 → abI u) u → (fun u => bgI u0 → bgI u) u → (fun u => hxI u0 → hxI u) u → (0 : Int) ≤ x4.toInt ∧ x4.toInt ≤ 3 → RR = (K_X12_lives_85_71 u0 p0 u x4) → va_P (dC, dI) vwCl (ac_w ad cA (TT nF) u) H → va_D A (ac_w ad cA (TT nF) u) → va_S A s.heap H locs → lv_has ls 6 [(4, .int x4)] → W p l e (ac_rm 3) s m [.ref (ad 85), .int p0].toArray below meth c H locs 0 0 (MQ below (va_Qi (fun (r : Int32) (u : ac_U) => ac_R rg u ∧ ac_Fr [(87, none)] u0 u ∧ ((0 : Int) ≤ r.toInt ∧ r.toInt ≤ 6) ∧ msI u ∧ apI u ∧ (cdI u0 → cdI u) ∧ (unI u0 → unI u) ∧ (bfI u0 → bfI u) ∧ (auI u0 → auI u) ∧ (abI u0 → abI u) ∧ (bgI u0 → bgI u) ∧ (hxI u0 → hxI u) ∧ f_X12_lives_85 u0 p0 = (u, r)) (ac_B (dC, dI) vwCl (ac_ty cA) ad cA (TT nF) A) A) [.ref (ad 85), .int p0].toArray s 0 0 A) (F0 m 71 ls []) := by
    intro x4 u H locs ls hR hF hK_MS hK_AP hK_i_CW hK_i_UI hK_i_BI hK_i_AU hK_i_AB hK_i_BG hK_i_HX f0 hC hP hD hS hl
    unfold K_X12_lives_85_71 at hC
    refine lv_iload F.1 F.2.1 dX12_lives_71 (lv_at hl 0 rfl) ?_
    exact a_reti F hr hlocks hP hD hS dX12_lives_73 ⟨hR, hF, (by omega : (0 : Int) ≤ x4.toInt ∧ x4.toInt ≤ 6), hK_MS, hK_AP, hK_i_CW, hK_i_UI, hK_i_BI, hK_i_AU, hK_i_AB, hK_i_BG, hK_i_HX, hRR.symm.trans hC⟩
  have hC : RR = f_X12_lives_85 u0 p0 := hRR
  unfold f_X12_lives_85 at hC
  refine lv_aload_n F.1 F.2.1 dX12_lives_0 rfl (lv_at hl 0 rfl) ?_
  refine a_getr F inX12 hP 85 8 tc_85 rfl rfl (by decide) q1479 (fun _ h9 => h9) dX12_lives_1 ?_
  refine lv_iload_n F.1 F.2.1 dX12_lives_4 rfl (lv_at hl 1 rfl) ?_
  refine a_ic F (1 : Int32) dX12_lives_5 (by decide) ?_
  refine a_iaddX F dX12_lives_6 rfl ic_1 (by omega) (fun v9 hv9 yv9 => ?_)
  have hC := vl_eq hC yv9
  refine a_iald F hP 89 tc_89 rfl (i_in rfl (by omega)) dX12_lives_7 (fun v10 ev10 => ?_)
  have hC := vl_eq hC ev10.symm
  have hm7 := bl_k hK_BLI (p := p0) (i := v9) (by omega) (by omega) ev10
  refine lv_istore_n (lv' := [(2, .int v10), (0, .ref (ad 85)), (1, .int p0)]) F.1 F.2.1 dX12_lives_8 rfl hl (by decide) rfl (fun ls hl => ?_)
  refine lv_aload_n F.1 F.2.1 dX12_lives_9 rfl (lv_at hl 1 rfl) ?_
  refine a_getr F inX12 hP 85 8 tc_85 rfl rfl (by decide) q1479 (fun _ h9 => h9) dX12_lives_10 ?_
  refine lv_iload_n F.1 F.2.1 dX12_lives_13 rfl (lv_at hl 2 rfl) ?_
  refine a_ic F (2 : Int32) dX12_lives_14 (by decide) ?_
  refine a_iaddX F dX12_lives_15 rfl ic_2 (by omega) (fun v11 hv11 yv11 => ?_)
  have hC := vl_eq hC yv11
  refine a_iald F hP 89 tc_89 rfl (i_in rfl (by omega)) dX12_lives_16 (fun v12 ev12 => ?_)
  have hC := vl_eq hC ev12.symm
  refine lv_istore_n (lv' := [(3, .int v12), (2, .int v10), (0, .ref (ad 85)), (1, .int p0)]) F.1 F.2.1 dX12_lives_17 rfl hl (by decide) rfl (fun ls hl => ?_)
  refine a_ic F (0 : Int32) dX12_lives_18 (by decide) ?_
  refine lv_istore (lv' := [(4, .int (0 : Int32)), (3, .int v12), (2, .int v10), (0, .ref (ad 85)), (1, .int p0)]) F.1 F.2.1 dX12_lives_19 hl (by decide) rfl (fun ls hl => ?_)
  refine lv_aload_n F.1 F.2.1 dX12_lives_21 rfl (lv_at hl 3 rfl) ?_
  refine a_getr F inX12 hP 85 8 tc_85 rfl rfl (by decide) q1479 (fun _ h9 => h9) dX12_lives_22 ?_
  refine lv_iload_n F.1 F.2.1 dX12_lives_25 rfl (lv_at hl 4 rfl) ?_
  refine a_iald F hP 89 tc_89 rfl (i_in rfl (by omega)) dX12_lives_26 (fun v13 ev13 => ?_)
  have hC := vl_eq hC ev13.symm
  have hm9 := bl_get hK_BLI (p := p0) (i := v9) (j := v11) (by omega) (by omega) (by omega) ev13 ev10 ev12
  have hm8 := bg_get hK_BG (p := p0) (j := v11) (by omega) (by omega) ev13 ev12
  rcases (show (v13.toInt < 0 ∨ 2 < v13.toInt) ∨ v13.toInt = 0 ∨ v13.toInt = 1 ∨ v13.toInt = 2 by omega) with c14 | c14 | c14 | c14
  · have hC := hC.trans (if_pos c14)
    refine lv_tableOut (tgt := 117) F.1 F.2.1 dX12_lives_27 c14 (by decide) ?_
    refine lv_aload_n F.1 F.2.1 dX12_lives_117 rfl (lv_at hl 3 rfl) ?_
    refine a_getr F inX12 hP 85 6 tc_85 rfl rfl (by decide) q1477 (fun _ h9 => h9) dX12_lives_118 ?_
    refine a_bp F (106 : Int32) dX12_lives_121 (by decide) ?_
    have g15 : (0 : Int) ≤ (u0.1 87 106).toInt ∧ (u0.1 87 106).toInt ≤ 480 := hR 87 106
    refine a_ialdK F hP 87 106 tc_87 rfl rfl (i_in ic_106 (by omega)) (v := (u0.1 87 106)) rfl dX12_lives_123 ?_
    refine lv_iload_n F.1 F.2.1 dX12_lives_124 rfl (lv_at hl 2 rfl) ?_
    refine a_iaddX F dX12_lives_125 rfl rfl (by omega) (fun v16 hv16 yv16 => ?_)
    have hC := vl_eq hC yv16
    refine a_bp F (20 : Int32) dX12_lives_126 (by decide) ?_
    refine lv_aload_n F.1 F.2.1 dX12_lives_128 rfl (lv_at hl 3 rfl) ?_
    refine a_getr F inX12 hP 85 6 tc_85 rfl rfl (by decide) q1477 (fun _ h9 => h9) dX12_lives_129 ?_
    refine a_ic F (0 : Int32) dX12_lives_132 (by decide) ?_
    have g17 : (4 : Int) ≤ (u0.1 87 0).toInt ∧ (u0.1 87 0).toInt ≤ 24 := hR 87 0
    refine a_ialdK F hP 87 0 tc_87 rfl rfl (i_in ic_0 (by omega)) (v := (u0.1 87 0)) rfl dX12_lives_133 ?_
    refine a_imulX F dX12_lives_134 ic_20 rfl (by omega) (fun v18 hv18 yv18 => ?_)
    have hC := vl_eq hC yv18
    refine b_le F 140 dX12_lives_135 (by decide) rfl rfl (fun c19 => ?_) (fun c19 => ?_)
    · have hC := hC.trans (if_pos c19)
      refine a_ic F (0 : Int32) dX12_lives_140 (by decide) ?_
      refine lv_istore (lv' := [(5, .int (0 : Int32)), (4, .int (0 : Int32)), (3, .int v12), (2, .int v10), (0, .ref (ad 85)), (1, .int p0)]) F.1 F.2.1 dX12_lives_141 hl (by decide) rfl (fun ls hl => ?_)
      exact L143 101 v10 (0 : Int32) _ _ _ _ hR hF (by decide) hK_MS hK_AP hK_i_CW hK_i_UI hK_i_BI hK_i_AU hK_i_AB hK_i_BG hK_i_HX (by omega) (by decide) (by first | (rw [ic_0]; exact (by omega : (u0.1 87 106).toInt + v10.toInt - (0 : Int) ≤ 20 * (u0.1 87 0).toInt)) | rw [ic_0]) hC hP hD hS (lv_sub hl [4, 3, 0] rfl)
    · have hC := hC.trans (if_neg (by omega))
      refine a_ic F (3 : Int32) dX12_lives_138 (by decide) ?_
      exact a_reti F hr hlocks hP hD hS dX12_lives_139 ⟨hR, hF, (by decide), hK_MS, hK_AP, hK_i_CW, hK_i_UI, hK_i_BI, hK_i_AU, hK_i_AB, hK_i_BG, hK_i_HX, hRR.symm.trans hC⟩
  · have hC := hC.trans (if_neg (by omega))
    have hC := hC.trans (if_pos c14)
    refine lv_tableIn (tgt := 52) F.1 F.2.1 dX12_lives_27 (by omega) (by omega) (by rw [c14]; rfl) (by decide) ?_
    refine lv_aload_n F.1 F.2.1 dX12_lives_52 rfl (lv_at hl 3 rfl) ?_
    refine lv_iload_n F.1 F.2.1 dX12_lives_53 rfl (lv_at hl 2 rfl) ?_
    refine lv_iload_n F.1 F.2.1 dX12_lives_54 rfl (lv_at hl 1 rfl) ?_
    refine a_Vi F hml hl.1 hA hP hD hS (As := [.int v10, .int v12]) (x_X12_whyGoOf_85 l dC dI ad cA nF _ v10 v12 hR (by omega) (by omega)) (cs_RX12_266 (d := 2) F.2.2.1 (by decide)) tc_85 rfl rfl rfl rfl (Nat.le_of_ble_eq_true rfl) dX12_lives_55 ⟨Nat.le_refl 0, Nat.le_refl 0⟩ (fun r20 uN20 H locs hq hP hD hS => ?_)
    obtain ⟨hu20, gr20, hz20⟩ := hq
    rw [hu20] at hP hD
    have hC := vl_eq hC hz20.symm
    refine lv_istore (lv' := [(4, .int r20), (3, .int v12), (2, .int v10), (0, .ref (ad 85)), (1, .int p0)]) F.1 F.2.1 dX12_lives_58 hl (by decide) rfl (fun ls hl => ?_)
    refine lv_iload F.1 F.2.1 dX12_lives_60 (lv_at hl 0 rfl) ?_
    refine z_ne F 71 dX12_lives_62 (by decide) rfl (fun c21 => ?_) (fun c21 => ?_)
    · have hC := hC.trans (if_pos c21)
      exact L71 r20 _ _ _ _ hR hF hK_MS hK_AP hK_i_CW hK_i_UI hK_i_BI hK_i_AU hK_i_AB hK_i_BG hK_i_HX (by omega) hC hP hD hS (lv_sub hl [0] rfl)
    · have hC := hC.trans (if_neg (by omega))
      refine lv_aload_n F.1 F.2.1 dX12_lives_65 rfl (lv_at hl 3 rfl) ?_
      refine lv_iload_n F.1 F.2.1 dX12_lives_66 rfl (lv_at hl 2 rfl) ?_
      refine lv_iload_n F.1 F.2.1 dX12_lives_67 rfl (lv_at hl 1 rfl) ?_
      have g22 : (0 : Int) ≤ (u0.1 87 1).toInt ∧ (u0.1 87 1).toInt ≤ 8 := hR 87 1
      refine a_Vv F hml hl.1 hA hP hD hS (As := [.int v10, .int v12]) (x_X12_goes_85 l dC dI ad cA nF _ v10 v12 hR (by omega) (by omega) (by exact (by omega : v12.toInt < (u0.1 87 1).toInt)) hK_AP) (cs_RX12_272 (d := 1) F.2.2.1 (by decide)) tc_85 rfl rfl rfl rfl (Nat.le_of_ble_eq_true rfl) dX12_lives_68 ⟨Nat.le_refl 0, Nat.le_refl 0⟩ (fun u23 H locs hq hP hD hS => ?_)
      obtain ⟨hR, hF23, xr23, hK_AP, hJ23_MS, hJ23_CW, hJ23_UI, hJ23_BI, hJ23_AU, hJ23_AB, hJ23_BG, hJ23_HX, hz23⟩ := hq
      have hF := hF.tr hF23 (by decide)
      have hK_MS := hJ23_MS hK_MS
      have hK_BLI := sp_fr sp_BLI hF23 (by decide) hK_BLI
      have hK_BG := hJ23_BG hK_BG
      have hK_i_CW : (fun u => cdI u0 → cdI u) u23 := fun h => hJ23_CW (hK_i_CW h)
      have hK_i_UI : (fun u => unI u0 → unI u) u23 := fun h => hJ23_UI (hK_i_UI h)
      have hK_i_BI : (fun u => bfI u0 → bfI u) u23 := fun h => hJ23_BI (hK_i_BI h)
      have hK_i_AU : (fun u => auI u0 → auI u) u23 := fun h => hJ23_AU (hK_i_AU h)
      have hK_i_AB : (fun u => abI u0 → abI u) u23 := fun h => hJ23_AB (hK_i_AB h)
      have hK_i_BG : (fun u => bgI u0 → bgI u) u23 := fun h => hJ23_BG (hK_i_BG h)
      have hK_i_HX : (fun u => hxI u0 → hxI u) u23 := fun h => hJ23_HX (hK_i_HX h)
      have g24 : (0 : Int) ≤ (u23.1 87 106).toInt ∧ (u23.1 87 106).toInt ≤ 480 := hR 87 106
      have g25 : (4 : Int) ≤ (u23.1 87 0).toInt ∧ (u23.1 87 0).toInt ≤ 24 := hR 87 0
      have xr23 : (u23.1 87 106).toInt = (u0.1 87 106).toInt ∧ (u23.1 87 0).toInt = (u0.1 87 0).toInt := xr23
      have hC := vl_eq hC hz23.symm
      exact L71 r20 _ _ _ _ hR hF hK_MS hK_AP hK_i_CW hK_i_UI hK_i_BI hK_i_AU hK_i_AB hK_i_BG hK_i_HX (by omega) hC hP hD hS (lv_sub hl [0] rfl)
  · have hC := hC.trans (if_neg (by omega))
    have hC := hC.trans (if_neg (by omega))
    have hC := hC.trans (if_pos c14)
    refine lv_tableIn (tgt := 74) F.1 F.2.1 dX12_lives_27 (by omega) (by omega) (by rw [c14]; rfl) (by decide) ?_
    refine lv_aload_n F.1 F.2.1 dX12_lives_74 rfl (lv_at hl 3 rfl) ?_
    refine lv_iload_n F.1 F.2.1 dX12_lives_75 rfl (lv_at hl 2 rfl) ?_
    refine a_Vi F hml hl.1 hA hP hD hS (As := [.int v10]) (x_X12_whyAct_85 l dC dI ad cA nF _ v10 hR (by omega)) (cs_RX12_279 (d := 2) F.2.2.1 (by decide)) tc_85 rfl rfl rfl rfl (Nat.le_of_ble_eq_true rfl) dX12_lives_76 ⟨Nat.le_refl 0, Nat.le_refl 0⟩ (fun r26 uN26 H locs hq hP hD hS => ?_)
    obtain ⟨hu26, gr26, xr26, hz26⟩ := hq
    rw [hu26] at hP hD
    have g27 : (0 : Int) ≤ (u0.1 87 123).toInt ∧ (u0.1 87 123).toInt ≤ 80 := hR 87 123
    have xr26 : r26.toInt = 0 → (u0.1 87 123).toInt ≤ 79 := xr26
    have hC := vl_eq hC hz26.symm
    refine lv_istore (lv' := [(4, .int r26), (3, .int v12), (2, .int v10), (0, .ref (ad 85)), (1, .int p0)]) F.1 F.2.1 dX12_lives_79 hl (by decide) rfl (fun ls hl => ?_)
    refine lv_iload F.1 F.2.1 dX12_lives_81 (lv_at hl 0 rfl) ?_
    refine z_ne F 92 dX12_lives_83 (by decide) rfl (fun c28 => ?_) (fun c28 => ?_)
    · have hC := hC.trans (if_pos c28)
      exact L92 r26 _ _ _ _ hR hF hK_MS hK_AP hK_i_CW hK_i_UI hK_i_BI hK_i_AU hK_i_AB hK_i_BG hK_i_HX (by omega) hC hP hD hS (lv_sub hl [0] rfl)
    · have hC := hC.trans (if_neg (by omega))
      refine lv_aload_n F.1 F.2.1 dX12_lives_86 rfl (lv_at hl 3 rfl) ?_
      refine lv_iload_n F.1 F.2.1 dX12_lives_87 rfl (lv_at hl 2 rfl) ?_
      refine lv_iload_n F.1 F.2.1 dX12_lives_88 rfl (lv_at hl 1 rfl) ?_
      refine a_Vv F hml hl.1 hA hP hD hS (As := [.int v10, .int v12]) (x_X12_does_85 l dC dI ad cA nF _ v10 v12 hR (by omega) (by omega : (0 : Int) ≤ (u0.1 87 123).toInt ∧ (u0.1 87 123).toInt ≤ 79)) (cs_RX12_283 (d := 1) F.2.2.1 (by decide)) tc_85 rfl rfl rfl rfl (Nat.le_of_ble_eq_true rfl) dX12_lives_89 ⟨Nat.le_refl 0, Nat.le_refl 0⟩ (fun u29 H locs hq hP hD hS => ?_)
      obtain ⟨hR, hF29, xr29, hJ29_MS, hJ29_CW, hJ29_UI, hJ29_BI, hJ29_AP, hJ29_AU, hJ29_AB, hJ29_BG, hJ29_HX, hz29⟩ := hq
      have hF := hF.tr hF29 (by decide)
      have hK_MS := hJ29_MS hK_MS
      have hK_AP := hJ29_AP hK_AP
      have hK_BLI := sp_fr sp_BLI hF29 (by decide) hK_BLI
      have hK_BG := hJ29_BG hK_BG
      have hK_i_CW : (fun u => cdI u0 → cdI u) u29 := fun h => hJ29_CW (hK_i_CW h)
      have hK_i_UI : (fun u => unI u0 → unI u) u29 := fun h => hJ29_UI (hK_i_UI h)
      have hK_i_BI : (fun u => bfI u0 → bfI u) u29 := fun h => hJ29_BI (hK_i_BI h)
      have hK_i_AU : (fun u => auI u0 → auI u) u29 := fun h => hJ29_AU (hK_i_AU h)
      have hK_i_AB : (fun u => abI u0 → abI u) u29 := fun h => hJ29_AB (hK_i_AB h)
      have hK_i_BG : (fun u => bgI u0 → bgI u) u29 := fun h => hJ29_BG (hK_i_BG h)
      have hK_i_HX : (fun u => hxI u0 → hxI u) u29 := fun h => hJ29_HX (hK_i_HX h)
      have g30 : (0 : Int) ≤ (u29.1 87 106).toInt ∧ (u29.1 87 106).toInt ≤ 480 := hR 87 106
      have g31 : (4 : Int) ≤ (u29.1 87 0).toInt ∧ (u29.1 87 0).toInt ≤ 24 := hR 87 0
      have xr29 : (u29.1 87 106).toInt = (u0.1 87 106).toInt ∧ (u29.1 87 0).toInt = (u0.1 87 0).toInt := xr29
      have hC := vl_eq hC hz29.symm
      exact L92 r26 _ _ _ _ hR hF hK_MS hK_AP hK_i_CW hK_i_UI hK_i_BI hK_i_AU hK_i_AB hK_i_BG hK_i_HX (by omega) hC hP hD hS (lv_sub hl [0] rfl)
  · have hC := hC.trans (if_neg (by omega))
    have hC := hC.trans (if_neg (by omega))
    have hC := hC.trans (if_neg (by omega))
    refine lv_tableIn (tgt := 95) F.1 F.2.1 dX12_lives_27 (by omega) (by omega) (by rw [c14]; rfl) (by decide) ?_
    refine lv_aload_n F.1 F.2.1 dX12_lives_95 rfl (lv_at hl 3 rfl) ?_
    refine lv_iload_n F.1 F.2.1 dX12_lives_96 rfl (lv_at hl 2 rfl) ?_
    refine lv_iload_n F.1 F.2.1 dX12_lives_97 rfl (lv_at hl 1 rfl) ?_
    refine a_Vi F hml hl.1 hA hP hD hS (As := [.int v10, .int v12]) (x_X12_whySay_85 l dC dI ad cA nF _ v10 v12 hR (by omega) (by omega)) (cs_RX12_286 (d := 2) F.2.2.1 (by decide)) tc_85 rfl rfl rfl rfl (Nat.le_of_ble_eq_true rfl) dX12_lives_98 ⟨Nat.le_refl 0, Nat.le_refl 0⟩ (fun r32 uN32 H locs hq hP hD hS => ?_)
    obtain ⟨hu32, gr32, hz32⟩ := hq
    rw [hu32] at hP hD
    have hC := vl_eq hC hz32.symm
    refine lv_istore (lv' := [(4, .int r32), (3, .int v12), (2, .int v10), (0, .ref (ad 85)), (1, .int p0)]) F.1 F.2.1 dX12_lives_101 hl (by decide) rfl (fun ls hl => ?_)
    refine lv_iload F.1 F.2.1 dX12_lives_103 (lv_at hl 0 rfl) ?_
    refine z_ne F 114 dX12_lives_105 (by decide) rfl (fun c33 => ?_) (fun c33 => ?_)
    · have hC := hC.trans (if_pos c33)
      exact L114 r32 _ _ _ _ hR hF hK_MS hK_AP hK_i_CW hK_i_UI hK_i_BI hK_i_AU hK_i_AB hK_i_BG hK_i_HX (by omega) hC hP hD hS (lv_sub hl [0] rfl)
    · have hC := hC.trans (if_neg (by omega))
      refine lv_aload_n F.1 F.2.1 dX12_lives_108 rfl (lv_at hl 3 rfl) ?_
      refine lv_iload_n F.1 F.2.1 dX12_lives_109 rfl (lv_at hl 2 rfl) ?_
      refine lv_iload_n F.1 F.2.1 dX12_lives_110 rfl (lv_at hl 1 rfl) ?_
      refine a_Vv F hml hl.1 hA hP hD hS (As := [.int v10, .int v12]) (x_X12_says_85 l dC dI ad cA nF _ v10 v12 hR (by omega) (by omega)) (cs_RX12_289 (d := 1) F.2.2.1 (by decide)) tc_85 rfl rfl rfl rfl (Nat.le_of_ble_eq_true rfl) dX12_lives_111 ⟨Nat.le_refl 0, Nat.le_refl 0⟩ (fun u34 H locs hq hP hD hS => ?_)
      obtain ⟨hR, hF34, xr34, hJ34_MS, hJ34_CW, hJ34_UI, hJ34_BI, hJ34_AP, hJ34_AU, hJ34_AB, hJ34_BG, hJ34_HX, hz34⟩ := hq
      have hF := hF.tr hF34 (by decide)
      have hK_MS := hJ34_MS hK_MS
      have hK_AP := hJ34_AP hK_AP
      have hK_BLI := sp_fr sp_BLI hF34 (by decide) hK_BLI
      have hK_BG := hJ34_BG hK_BG
      have hK_i_CW : (fun u => cdI u0 → cdI u) u34 := fun h => hJ34_CW (hK_i_CW h)
      have hK_i_UI : (fun u => unI u0 → unI u) u34 := fun h => hJ34_UI (hK_i_UI h)
      have hK_i_BI : (fun u => bfI u0 → bfI u) u34 := fun h => hJ34_BI (hK_i_BI h)
      have hK_i_AU : (fun u => auI u0 → auI u) u34 := fun h => hJ34_AU (hK_i_AU h)
      have hK_i_AB : (fun u => abI u0 → abI u) u34 := fun h => hJ34_AB (hK_i_AB h)
      have hK_i_BG : (fun u => bgI u0 → bgI u) u34 := fun h => hJ34_BG (hK_i_BG h)
      have hK_i_HX : (fun u => hxI u0 → hxI u) u34 := fun h => hJ34_HX (hK_i_HX h)
      have g35 : (0 : Int) ≤ (u34.1 87 106).toInt ∧ (u34.1 87 106).toInt ≤ 480 := hR 87 106
      have g36 : (4 : Int) ≤ (u34.1 87 0).toInt ∧ (u34.1 87 0).toInt ≤ 24 := hR 87 0
      have xr34 : (u34.1 87 106).toInt = (u0.1 87 106).toInt ∧ (u34.1 87 0).toInt = (u0.1 87 0).toInt := xr34
      have hC := vl_eq hC hz34.symm
      exact L114 r32 _ _ _ _ hR hF hK_MS hK_AP hK_i_CW hK_i_UI hK_i_BI hK_i_AU hK_i_AB hK_i_BG hK_i_HX (by omega) hC hP hD hS (lv_sub hl [0] rfl)
def K_X12_now_85_80 (B15 : ac_U → Int32 → Int32 → Int32 → Int32 → ac_U × Int32) (u0 : ac_U) (p0 : Int32) (u : ac_U) (x2 : Int32) (x3 : Int32) (x5 : Int32) (z0 : Int32) (z1 : Int32) : ac_U × Int32 := (vl (z0 + z1) (fun (v1 : Int32) => (vl (x5 + Int32.ofInt (1)) (fun (v2 : Int32) => (B15 u x2 x3 v1 v2)))))
def K_X12_now_85_46 (B15 : ac_U → Int32 → Int32 → Int32 → Int32 → ac_U × Int32) (u0 : ac_U) (p0 : Int32) (u : ac_U) (x3 : Int32) (x4 : Int32) (x5 : Int32) (z0 : Int32) (z1 : Int32) : ac_U × Int32 := (vl (z0 + z1) (fun (v4 : Int32) => (vl ((132 : Int32) + x5) (fun (v5 : Int32) => (vl (u.1 87 v5.toNatClampNeg) (fun (v6 : Int32) => (vl (x3 + v6) (fun (v7 : Int32) => (vl (f_X12_statusOf_85 u x5 (0 : Int32)) (fun (r8 : Int32) => (if r8.toInt ≠ (4 : Int) then (K_X12_now_85_80 B15 u0 p0 u v4 v7 x5 x4 (0 : Int32)) else (K_X12_now_85_80 B15 u0 p0 u v4 v7 x5 x4 (1 : Int32)))))))))))))
def K_X12_now_85_15_b (B15 : ac_U → Int32 → Int32 → Int32 → Int32 → ac_U × Int32) (u0 : ac_U) (p0 : Int32) (u : ac_U) (x2 : Int32) (x3 : Int32) (x4 : Int32) (x5 : Int32) : ac_U × Int32 := (if (u.1 87 6).toInt ≤ x5.toInt then (if p0.toInt < 0 ∨ 5 < p0.toInt then (u, (-1 : Int32)) else (if p0.toInt = 0 then (vl (f_X12_dayNow_85 u) (fun (r17 : Int32) => (u, r17))) else (if p0.toInt = 1 then (vl ((u.1 87 106) - (u.1 87 106) / (u.1 87 0) * (u.1 87 0)) (fun (v20 : Int32) => (u, v20))) else (if p0.toInt = 2 then (u, (u.1 87 123)) else (if p0.toInt = 3 then (u, x2) else (if p0.toInt = 4 then (u, x3) else (u, x4))))))) else (vl ((124 : Int32) + x5) (fun (v22 : Int32) => (vl (u.1 87 v22.toNatClampNeg) (fun (v23 : Int32) => (if v23.toInt ≤ 0 then (K_X12_now_85_46 B15 u0 p0 u x3 x4 x5 x2 (0 : Int32)) else (K_X12_now_85_46 B15 u0 p0 u x3 x4 x5 x2 (1 : Int32))))))))
def K_X12_now_85_15 (u0 : ac_U) (p0 : Int32) : Nat → ac_U → Int32 → Int32 → Int32 → Int32 → ac_U × Int32
  | 0 => fun u x2 x3 x4 x5 => (u, 0)
  | n + 1 => fun u x2 x3 x4 x5 => K_X12_now_85_15_b (K_X12_now_85_15 u0 p0 n) u0 p0 u x2 x3 x4 x5
def f_X12_now_85 (u0 : ac_U) (p0 : Int32) : ac_U × Int32 := (K_X12_now_85_15 u0 p0 10 (pI u0 85 0 (0 : Int32)) (0 : Int32) (0 : Int32) (0 : Int32) (0 : Int32))
set_option maxHeartbeats 600000 in
set_option maxRecDepth 100000 in
theorem x_X12_now_85 (l : Launch) (dC : Nat → ClassId) (dI : Nat → Nat → Nat) (ad : Nat → Nat) (cA : Nat → ClassId) (nF : Nat) (u0 : ac_U) (p0 : Int32) (hR : ac_R rg u0) : ac_Mi l yX12_now (.code yX12_now cX12_now 6 (some .int) :: TB) 7 (dC, dI) vwCl (ac_ty cA) ad cA (TT nF) [.ref (ad 85), .int p0] u0 (fun (r : Int32) (u : ac_U) => ac_R rg u ∧ ac_Fr [(85, some 0)] u0 u ∧ f_X12_now_85 u0 p0 = (u, r)) := by
  refine ac_Mi.of (cc := cX12_now) (maxL := 6) (ret := (some .int)) (by decide) rfl (Nat.le_of_ble_eq_true rfl) ?_
  intro p e s m below meth c A ls F hml hr hlocks hA hP hD hS hl
  have F : ac_X p s m [.ref (ad 85), .int p0].toArray c cX12_now RX12 TB (dC, dI) vwCl (ac_ty cA) := ⟨F.1, F.2.1, fun w h => F.2.2.1 w (List.mem_cons_of_mem _ h), F.2.2.2.1, F.2.2.2.2⟩
  have hl : lv_has ls 6 [(0, .ref (ad 85)), (1, .int p0)] := hl
  obtain ⟨RR, hRR⟩ : ∃ q, q = f_X12_now_85 u0 p0 := ⟨_, rfl⟩
  have hF : ac_Fr [(85, some 0)] u0 u0 := ac_Fr.rf
  have L15 : ∀ (n15 : Nat) (x2 : Int32) (x3 : Int32) (x4 : Int32) (x5 : Int32) (u : ac_U) (H : Heap) (locs : List Loc) (ls : Array Slot), ac_R rg u → ac_Fr [(85, some 0)] u0 u → 8 - x5.toInt < (n15 : Int) → (0 : Int) ≤ x5.toInt ∧ x5.toInt ≤ 8 → (0 : Int) ≤ (u.1 85 0).toInt ∧ (u.1 85 0).toInt ≤ 0 → RR = (K_X12_now_85_15 u0 p0 n15 u x2 x3 x4 x5) → va_P (dC, dI) vwCl (ac_w ad cA (TT nF) u) H → va_D A (ac_w ad cA (TT nF) u) → va_S A s.heap H locs → lv_has ls 6 [(0, .ref (ad 85)), (1, .int p0), (2, .int x2), (3, .int x3), (4, .int x4), (5, .int x5)] → W p l e (ac_rm 7) s m [.ref (ad 85), .int p0].toArray below meth c H locs 0 0 (MQ below (va_Qi (fun (r : Int32) (u : ac_U) => ac_R rg u ∧ ac_Fr [(85, some 0)] u0 u ∧ f_X12_now_85 u0 p0 = (u, r)) (ac_B (dC, dI) vwCl (ac_ty cA) ad cA (TT nF) A) A) [.ref (ad 85), .int p0].toArray s 0 0 A) (F0 m 15 ls []) := by
    intro n15
    induction n15 with
    | zero => intro x2 x3 x4 x5 u H locs ls hR hF hn15 f0 f1 hC hP hD hS hl; exfalso; omega
    | succ n15 ih15 =>
      intro x2 x3 x4 x5 u H locs ls hR hF hn15 f0 f1 hC hP hD hS hl
      have hC : RR = K_X12_now_85_15_b (K_X12_now_85_15 u0 p0 n15) u0 p0 u x2 x3 x4 x5 := hC
      have L80 : ∀ (x2 : Int32) (x3 : Int32) (x5 : Int32) (z0 : Int32) (z1 : Int32) (u : ac_U) (H : Heap) (locs : List Loc) (ls : Array Slot), ac_R rg u → ac_Fr [(85, some 0)] u0 u → (0 : Int) ≤ x5.toInt ∧ x5.toInt ≤ 7 → (0 : Int) ≤ z1.toInt ∧ z1.toInt ≤ 1 → (0 : Int) ≤ (u.1 85 0).toInt ∧ (u.1 85 0).toInt ≤ 0 → (1 : Int) ≤ (u.1 87 6).toInt ∧ (u.1 87 6).toInt ≤ 8 → 8 - x5.toInt + 0 < ((n15 : Nat) : Int) + 1 → RR = (K_X12_now_85_80 (K_X12_now_85_15 u0 p0 n15) u0 p0 u x2 x3 x5 z0 z1) → va_P (dC, dI) vwCl (ac_w ad cA (TT nF) u) H → va_D A (ac_w ad cA (TT nF) u) → va_S A s.heap H locs → lv_has ls 6 [(0, .ref (ad 85)), (1, .int p0), (2, .int x2), (3, .int x3), (5, .int x5)] → W p l e (ac_rm 7) s m [.ref (ad 85), .int p0].toArray below meth c H locs 0 0 (MQ below (va_Qi (fun (r : Int32) (u : ac_U) => ac_R rg u ∧ ac_Fr [(85, some 0)] u0 u ∧ f_X12_now_85 u0 p0 = (u, r)) (ac_B (dC, dI) vwCl (ac_ty cA) ad cA (TT nF) A) A) [.ref (ad 85), .int p0].toArray s 0 0 A) (F0 m 80 ls [.int z1, .int z0]) := by
        intro x2 x3 x5 z0 z1 u H locs ls hR hF f0 f1 f2 f3 f4 hC hP hD hS hl
        unfold K_X12_now_85_80 at hC
        refine a_iaddUX F dX12_now_80 (fun v1 yv1 => ?_)
        have hC := vl_eq hC yv1
        refine lv_istore (lv' := [(4, .int v1), (0, .ref (ad 85)), (1, .int p0), (2, .int x2), (3, .int x3), (5, .int x5)]) F.1 F.2.1 dX12_now_81 hl (by decide) rfl (fun ls hl => ?_)
        refine a_iincX F (k := 5) (fun v2 => [(5, .int v2), (4, .int v1), (0, .ref (ad 85)), (1, .int p0), (2, .int x2), (3, .int x3)]) dX12_now_83 hl rfl rfl (by decide) (by omega) (by decide) (fun _ => rfl) (fun v2 ls hv2 yv2 hl => ?_)
        have hC := vl_eq hC yv2
        refine lv_goto (tgt := 15) F.1 F.2.1 dX12_now_86 (by decide) ?_
        have g3 : (0 : Int) ≤ (u.1 85 0).toInt ∧ (u.1 85 0).toInt ≤ 1 := hR 85 0
        exact ih15 x2 x3 v1 v2 _ _ _ _ hR hF (by omega) (by omega) (by omega : (0 : Int) ≤ (u.1 85 0).toInt ∧ (u.1 85 0).toInt ≤ 0) hC hP hD hS (lv_sub hl [2, 3, 4, 5, 1, 0] rfl)
      have L46 : ∀ (x3 : Int32) (x4 : Int32) (x5 : Int32) (z0 : Int32) (z1 : Int32) (u : ac_U) (H : Heap) (locs : List Loc) (ls : Array Slot), ac_R rg u → ac_Fr [(85, some 0)] u0 u → (0 : Int) ≤ x5.toInt ∧ x5.toInt ≤ 7 → (0 : Int) ≤ z1.toInt ∧ z1.toInt ≤ 1 → (0 : Int) ≤ (u.1 85 0).toInt ∧ (u.1 85 0).toInt ≤ 0 → (1 : Int) ≤ (u.1 87 6).toInt ∧ (u.1 87 6).toInt ≤ 8 → 8 - x5.toInt + 0 < ((n15 : Nat) : Int) + 1 → RR = (K_X12_now_85_46 (K_X12_now_85_15 u0 p0 n15) u0 p0 u x3 x4 x5 z0 z1) → va_P (dC, dI) vwCl (ac_w ad cA (TT nF) u) H → va_D A (ac_w ad cA (TT nF) u) → va_S A s.heap H locs → lv_has ls 6 [(0, .ref (ad 85)), (1, .int p0), (3, .int x3), (4, .int x4), (5, .int x5)] → W p l e (ac_rm 7) s m [.ref (ad 85), .int p0].toArray below meth c H locs 0 0 (MQ below (va_Qi (fun (r : Int32) (u : ac_U) => ac_R rg u ∧ ac_Fr [(85, some 0)] u0 u ∧ f_X12_now_85 u0 p0 = (u, r)) (ac_B (dC, dI) vwCl (ac_ty cA) ad cA (TT nF) A) A) [.ref (ad 85), .int p0].toArray s 0 0 A) (F0 m 46 ls [.int z1, .int z0]) := by
        intro x3 x4 x5 z0 z1 u H locs ls hR hF f0 f1 f2 f3 f4 hC hP hD hS hl
        unfold K_X12_now_85_46 at hC
        refine a_iaddUX F dX12_now_46 (fun v4 yv4 => ?_)
        have hC := vl_eq hC yv4
        refine lv_istore_n (lv' := [(2, .int v4), (0, .ref (ad 85)), (1, .int p0), (3, .int x3), (4, .int x4), (5, .int x5)]) F.1 F.2.1 dX12_now_47 rfl hl (by decide) rfl (fun ls hl => ?_)
        refine lv_iload_n F.1 F.2.1 dX12_now_48 rfl (lv_at hl 3 rfl) ?_
        refine lv_aload_n F.1 F.2.1 dX12_now_49 rfl (lv_at hl 1 rfl) ?_
        refine a_getr F inX12 hP 85 6 tc_85 rfl rfl (by decide) q1477 (fun _ h9 => h9) dX12_now_50 ?_
        refine a_sp F (132 : Int32) dX12_now_53 (by decide) ?_
        refine lv_iload F.1 F.2.1 dX12_now_56 (lv_at hl 5 rfl) ?_
        refine a_iaddX F dX12_now_58 ic_132 rfl (by omega) (fun v5 hv5 yv5 => ?_)
        have hC := vl_eq hC yv5
        refine a_iald F hP 87 tc_87 rfl (i_in rfl (by omega)) dX12_now_59 (fun v6 ev6 => ?_)
        have hC := vl_eq hC ev6.symm
        refine a_iaddUX F dX12_now_60 (fun v7 yv7 => ?_)
        have hC := vl_eq hC yv7
        refine lv_istore_n (lv' := [(3, .int v7), (2, .int v4), (0, .ref (ad 85)), (1, .int p0), (4, .int x4), (5, .int x5)]) F.1 F.2.1 dX12_now_61 rfl hl (by decide) rfl (fun ls hl => ?_)
        refine lv_iload F.1 F.2.1 dX12_now_62 (lv_at hl 4 rfl) ?_
        refine lv_aload_n F.1 F.2.1 dX12_now_64 rfl (lv_at hl 2 rfl) ?_
        refine lv_iload F.1 F.2.1 dX12_now_65 (lv_at hl 5 rfl) ?_
        refine a_ic F (0 : Int32) dX12_now_67 (by decide) ?_
        refine a_Vi F hml hl.1 hA hP hD hS (As := [.int x5, .int (0 : Int32)]) (x_X12_statusOf_85 l dC dI ad cA nF _ x5 (0 : Int32) hR (by omega) (by decide)) (cs_RX12_257 (d := 6) F.2.2.1 (by decide)) tc_85 rfl rfl rfl rfl (Nat.le_of_ble_eq_true rfl) dX12_now_68 ⟨Nat.le_refl 0, Nat.le_refl 0⟩ (fun r8 uN8 H locs hq hP hD hS => ?_)
        obtain ⟨hu8, gr8, hz8⟩ := hq
        rw [hu8] at hP hD
        have hC := vl_eq hC hz8.symm
        refine a_ic F (4 : Int32) dX12_now_71 (by decide) ?_
        refine b_ne F 79 dX12_now_72 (by decide) rfl ic_4 (fun c9 => ?_) (fun c9 => ?_)
        · have hC := hC.trans (if_pos c9)
          refine a_ic F (0 : Int32) dX12_now_79 (by decide) ?_
          have g10 : (0 : Int) ≤ (u.1 85 0).toInt ∧ (u.1 85 0).toInt ≤ 1 := hR 85 0
          have g11 : (0 : Int) ≤ (u.1 87 6).toInt ∧ (u.1 87 6).toInt ≤ 8 := hR 87 6
          exact L80 v4 v7 x5 x4 (0 : Int32) _ _ _ _ hR hF (by omega) (by decide) (by omega : (0 : Int) ≤ (u.1 85 0).toInt ∧ (u.1 85 0).toInt ≤ 0) (by omega : (1 : Int) ≤ (u.1 87 6).toInt ∧ (u.1 87 6).toInt ≤ 8) (by omega) hC hP hD hS (lv_sub hl [2, 3, 1, 0, 5] rfl)
        · have hC := hC.trans (if_neg (by omega))
          refine a_ic F (1 : Int32) dX12_now_75 (by decide) ?_
          refine lv_goto (tgt := 80) F.1 F.2.1 dX12_now_76 (by decide) ?_
          have g12 : (0 : Int) ≤ (u.1 85 0).toInt ∧ (u.1 85 0).toInt ≤ 1 := hR 85 0
          have g13 : (0 : Int) ≤ (u.1 87 6).toInt ∧ (u.1 87 6).toInt ≤ 8 := hR 87 6
          exact L80 v4 v7 x5 x4 (1 : Int32) _ _ _ _ hR hF (by omega) (by decide) (by omega : (0 : Int) ≤ (u.1 85 0).toInt ∧ (u.1 85 0).toInt ≤ 0) (by omega : (1 : Int) ≤ (u.1 87 6).toInt ∧ (u.1 87 6).toInt ≤ 8) (by omega) hC hP hD hS (lv_sub hl [2, 3, 1, 0, 5] rfl)
      unfold K_X12_now_85_15_b at hC
      refine lv_iload F.1 F.2.1 dX12_now_15 (lv_at hl 5 rfl) ?_
      refine lv_aload_n F.1 F.2.1 dX12_now_17 rfl (lv_at hl 0 rfl) ?_
      refine a_getr F inX12 hP 85 6 tc_85 rfl rfl (by decide) q1477 (fun _ h9 => h9) dX12_now_18 ?_
      refine a_bp F (6 : Int32) dX12_now_21 (by decide) ?_
      have g14 : (0 : Int) ≤ (u.1 87 6).toInt ∧ (u.1 87 6).toInt ≤ 8 := hR 87 6
      refine a_ialdK F hP 87 6 tc_87 rfl rfl (i_in ic_6 (by omega)) (v := (u.1 87 6)) rfl dX12_now_23 ?_
      refine b_ge F 89 dX12_now_24 (by decide) rfl rfl (fun c15 => ?_) (fun c15 => ?_)
      · have hC := hC.trans (if_pos c15)
        refine lv_iload_n F.1 F.2.1 dX12_now_89 rfl (lv_at hl 1 rfl) ?_
        rcases (show (p0.toInt < 0 ∨ 5 < p0.toInt) ∨ p0.toInt = 0 ∨ p0.toInt = 1 ∨ p0.toInt = 2 ∨ p0.toInt = 3 ∨ p0.toInt = 4 ∨ p0.toInt = 5 by omega) with c16 | c16 | c16 | c16 | c16 | c16 | c16
        · have hC := hC.trans (if_pos c16)
          refine lv_tableOut (tgt := 163) F.1 F.2.1 dX12_now_90 c16 (by decide) ?_
          refine a_ic F (-1 : Int32) dX12_now_163 (by decide) ?_
          exact a_reti F hr hlocks hP hD hS dX12_now_164 ⟨hR, hF, hRR.symm.trans hC⟩
        · have hC := hC.trans (if_neg (by omega))
          have hC := hC.trans (if_pos c16)
          refine lv_tableIn (tgt := 128) F.1 F.2.1 dX12_now_90 (by omega) (by omega) (by rw [c16]; rfl) (by decide) ?_
          refine lv_aload_n F.1 F.2.1 dX12_now_128 rfl (lv_at hl 0 rfl) ?_
          refine a_Vi F hml hl.1 hA hP hD hS (As := []) (x_X12_dayNow_85 l dC dI ad cA nF _  hR) (cs_RX12_260 (d := 1) F.2.2.1 (by decide)) tc_85 rfl rfl rfl rfl (Nat.le_of_ble_eq_true rfl) dX12_now_129 ⟨Nat.le_refl 0, Nat.le_refl 0⟩ (fun r17 uN17 H locs hq hP hD hS => ?_)
          obtain ⟨hu17, gr17, hz17⟩ := hq
          rw [hu17] at hP hD
          have hC := vl_eq hC hz17.symm
          exact a_reti F hr hlocks hP hD hS dX12_now_132 ⟨hR, hF, hRR.symm.trans hC⟩
        · have hC := hC.trans (if_neg (by omega))
          have hC := hC.trans (if_neg (by omega))
          have hC := hC.trans (if_pos c16)
          refine lv_tableIn (tgt := 133) F.1 F.2.1 dX12_now_90 (by omega) (by omega) (by rw [c16]; rfl) (by decide) ?_
          refine lv_aload_n F.1 F.2.1 dX12_now_133 rfl (lv_at hl 0 rfl) ?_
          refine a_getr F inX12 hP 85 6 tc_85 rfl rfl (by decide) q1477 (fun _ h9 => h9) dX12_now_134 ?_
          refine a_bp F (106 : Int32) dX12_now_137 (by decide) ?_
          have g18 : (0 : Int) ≤ (u.1 87 106).toInt ∧ (u.1 87 106).toInt ≤ 480 := hR 87 106
          refine a_ialdK F hP 87 106 tc_87 rfl rfl (i_in ic_106 (by omega)) (v := (u.1 87 106)) rfl dX12_now_139 ?_
          refine lv_aload_n F.1 F.2.1 dX12_now_140 rfl (lv_at hl 0 rfl) ?_
          refine a_getr F inX12 hP 85 6 tc_85 rfl rfl (by decide) q1477 (fun _ h9 => h9) dX12_now_141 ?_
          refine a_ic F (0 : Int32) dX12_now_144 (by decide) ?_
          have g19 : (4 : Int) ≤ (u.1 87 0).toInt ∧ (u.1 87 0).toInt ≤ 24 := hR 87 0
          refine a_ialdK F hP 87 0 tc_87 rfl rfl (i_in ic_0 (by omega)) (v := (u.1 87 0)) rfl dX12_now_145 ?_
          refine a_iremX F dX12_now_146 rfl rfl (by omega) (fun v20 hv20 yv20 => ?_)
          have hC := vl_eq hC yv20
          exact a_reti F hr hlocks hP hD hS dX12_now_147 ⟨hR, hF, hRR.symm.trans hC⟩
        · have hC := hC.trans (if_neg (by omega))
          have hC := hC.trans (if_neg (by omega))
          have hC := hC.trans (if_neg (by omega))
          have hC := hC.trans (if_pos c16)
          refine lv_tableIn (tgt := 148) F.1 F.2.1 dX12_now_90 (by omega) (by omega) (by rw [c16]; rfl) (by decide) ?_
          refine lv_aload_n F.1 F.2.1 dX12_now_148 rfl (lv_at hl 0 rfl) ?_
          refine a_getr F inX12 hP 85 6 tc_85 rfl rfl (by decide) q1477 (fun _ h9 => h9) dX12_now_149 ?_
          refine a_bp F (123 : Int32) dX12_now_152 (by decide) ?_
          have g21 : (0 : Int) ≤ (u.1 87 123).toInt ∧ (u.1 87 123).toInt ≤ 80 := hR 87 123
          refine a_ialdK F hP 87 123 tc_87 rfl rfl (i_in ic_123 (by omega)) (v := (u.1 87 123)) rfl dX12_now_154 ?_
          exact a_reti F hr hlocks hP hD hS dX12_now_155 ⟨hR, hF, hRR.symm.trans hC⟩
        · have hC := hC.trans (if_neg (by omega))
          have hC := hC.trans (if_neg (by omega))
          have hC := hC.trans (if_neg (by omega))
          have hC := hC.trans (if_neg (by omega))
          have hC := hC.trans (if_pos c16)
          refine lv_tableIn (tgt := 156) F.1 F.2.1 dX12_now_90 (by omega) (by omega) (by rw [c16]; rfl) (by decide) ?_
          refine lv_iload_n F.1 F.2.1 dX12_now_156 rfl (lv_at hl 2 rfl) ?_
          exact a_reti F hr hlocks hP hD hS dX12_now_157 ⟨hR, hF, hRR.symm.trans hC⟩
        · have hC := hC.trans (if_neg (by omega))
          have hC := hC.trans (if_neg (by omega))
          have hC := hC.trans (if_neg (by omega))
          have hC := hC.trans (if_neg (by omega))
          have hC := hC.trans (if_neg (by omega))
          have hC := hC.trans (if_pos c16)
          refine lv_tableIn (tgt := 158) F.1 F.2.1 dX12_now_90 (by omega) (by omega) (by rw [c16]; rfl) (by decide) ?_
          refine lv_iload_n F.1 F.2.1 dX12_now_158 rfl (lv_at hl 3 rfl) ?_
          exact a_reti F hr hlocks hP hD hS dX12_now_159 ⟨hR, hF, hRR.symm.trans hC⟩
        · have hC := hC.trans (if_neg (by omega))
          have hC := hC.trans (if_neg (by omega))
          have hC := hC.trans (if_neg (by omega))
          have hC := hC.trans (if_neg (by omega))
          have hC := hC.trans (if_neg (by omega))
          have hC := hC.trans (if_neg (by omega))
          refine lv_tableIn (tgt := 160) F.1 F.2.1 dX12_now_90 (by omega) (by omega) (by rw [c16]; rfl) (by decide) ?_
          refine lv_iload F.1 F.2.1 dX12_now_160 (lv_at hl 4 rfl) ?_
          exact a_reti F hr hlocks hP hD hS dX12_now_162 ⟨hR, hF, hRR.symm.trans hC⟩
      · have hC := hC.trans (if_neg (by omega))
        refine lv_iload_n F.1 F.2.1 dX12_now_27 rfl (lv_at hl 2 rfl) ?_
        refine lv_aload_n F.1 F.2.1 dX12_now_28 rfl (lv_at hl 0 rfl) ?_
        refine a_getr F inX12 hP 85 6 tc_85 rfl rfl (by decide) q1477 (fun _ h9 => h9) dX12_now_29 ?_
        refine a_bp F (124 : Int32) dX12_now_32 (by decide) ?_
        refine lv_iload F.1 F.2.1 dX12_now_34 (lv_at hl 5 rfl) ?_
        refine a_iaddX F dX12_now_36 ic_124 rfl (by omega) (fun v22 hv22 yv22 => ?_)
        have hC := vl_eq hC yv22
        refine a_iald F hP 87 tc_87 rfl (i_in rfl (by omega)) dX12_now_37 (fun v23 ev23 => ?_)
        have hC := vl_eq hC ev23.symm
        have hv23 : (0 : Int) ≤ v23.toInt ∧ v23.toInt ≤ 481 := rg_seg_87_124_131 hR ev23 (by omega)
        refine z_le F 45 dX12_now_38 (by decide) rfl (fun c24 => ?_) (fun c24 => ?_)
        · have hC := hC.trans (if_pos c24)
          refine a_ic F (0 : Int32) dX12_now_45 (by decide) ?_
          have g25 : (0 : Int) ≤ (u.1 85 0).toInt ∧ (u.1 85 0).toInt ≤ 1 := hR 85 0
          exact L46 x3 x4 x5 x2 (0 : Int32) _ _ _ _ hR hF (by omega) (by decide) (by omega : (0 : Int) ≤ (u.1 85 0).toInt ∧ (u.1 85 0).toInt ≤ 0) (by omega : (1 : Int) ≤ (u.1 87 6).toInt ∧ (u.1 87 6).toInt ≤ 8) (by omega) hC hP hD hS (lv_sub hl [0, 1, 3, 4, 5] rfl)
        · have hC := hC.trans (if_neg (by omega))
          refine a_ic F (1 : Int32) dX12_now_41 (by decide) ?_
          refine lv_goto (tgt := 46) F.1 F.2.1 dX12_now_42 (by decide) ?_
          have g26 : (0 : Int) ≤ (u.1 85 0).toInt ∧ (u.1 85 0).toInt ≤ 1 := hR 85 0
          exact L46 x3 x4 x5 x2 (1 : Int32) _ _ _ _ hR hF (by omega) (by decide) (by omega : (0 : Int) ≤ (u.1 85 0).toInt ∧ (u.1 85 0).toInt ≤ 0) (by omega : (1 : Int) ≤ (u.1 87 6).toInt ∧ (u.1 87 6).toInt ≤ 8) (by omega) hC hP hD hS (lv_sub hl [0, 1, 3, 4, 5] rfl)
  have hC : RR = f_X12_now_85 u0 p0 := hRR
  unfold f_X12_now_85 at hC
  refine lv_aload_n F.1 F.2.1 dX12_now_0 rfl (lv_at hl 0 rfl) ?_
  refine a_ic F (0 : Int32) dX12_now_1 (by decide) ?_
  refine a_puti F inX12 tyX12 tyX12_ok nmX12 hP hD hS 85 0 tc_85 rfl rfl (by decide) q1471 (fun _ h9 => h9) rfl (ty := .int) (tyX12_ok 0 (by decide)) rfl rfl dX12_now_2 (fun H locs hP hD hS => ?_)
  have hR := hR.si (c := 85) (k := 0) (v := (0 : Int32)) (by rw [ic_0]; exact (by omega : (0 : Int) ≤ (0 : Int) ∧ (0 : Int) ≤ 1))
  have hF := hF.si (c := 85) (k := 0) (v := (0 : Int32)) rfl
  refine a_ic F (0 : Int32) dX12_now_5 (by decide) ?_
  refine lv_istore_n (lv' := [(2, .int (0 : Int32)), (0, .ref (ad 85)), (1, .int p0)]) F.1 F.2.1 dX12_now_6 rfl hl (by decide) rfl (fun ls hl => ?_)
  refine a_ic F (0 : Int32) dX12_now_7 (by decide) ?_
  refine lv_istore_n (lv' := [(3, .int (0 : Int32)), (2, .int (0 : Int32)), (0, .ref (ad 85)), (1, .int p0)]) F.1 F.2.1 dX12_now_8 rfl hl (by decide) rfl (fun ls hl => ?_)
  refine a_ic F (0 : Int32) dX12_now_9 (by decide) ?_
  refine lv_istore (lv' := [(4, .int (0 : Int32)), (3, .int (0 : Int32)), (2, .int (0 : Int32)), (0, .ref (ad 85)), (1, .int p0)]) F.1 F.2.1 dX12_now_10 hl (by decide) rfl (fun ls hl => ?_)
  refine a_ic F (0 : Int32) dX12_now_12 (by decide) ?_
  refine lv_istore (lv' := [(5, .int (0 : Int32)), (4, .int (0 : Int32)), (3, .int (0 : Int32)), (2, .int (0 : Int32)), (0, .ref (ad 85)), (1, .int p0)]) F.1 F.2.1 dX12_now_13 hl (by decide) rfl (fun ls hl => ?_)
  exact L15 10 (0 : Int32) (0 : Int32) (0 : Int32) (0 : Int32) _ _ _ _ hR hF (by decide) (by decide) (by omega : (0 : Int) ≤ (0 : Int) ∧ (0 : Int) ≤ 0) hC hP hD hS (lv_sub hl [4, 5, 3, 2, 1, 0] rfl)
def K_X12_tries_85_2_b (B2 : ac_U → Int32 → ac_U) (u0 : ac_U) (u : ac_U) (x1 : Int32) : ac_U := (if (370 : Int) ≤ x1.toInt then u else (vl ((106 : Int32) + x1) (fun (v2 : Int32) => (vl (u.1 87 v2.toNatClampNeg) (fun (v3 : Int32) => (vl (x1 + Int32.ofInt (1)) (fun (v4 : Int32) => (B2 (pI u 94 x1.toNatClampNeg v3) v4))))))))
def K_X12_tries_85_2 (u0 : ac_U) : Nat → ac_U → Int32 → ac_U
  | 0 => fun u x1 => u
  | n + 1 => fun u x1 => K_X12_tries_85_2_b (K_X12_tries_85_2 u0 n) u0 u x1
def f_X12_tries_85 (u0 : ac_U) : ac_U := (K_X12_tries_85_2 u0 372 u0 (0 : Int32))
set_option maxHeartbeats 600000 in
set_option maxRecDepth 100000 in
theorem x_X12_tries_85 (l : Launch) (dC : Nat → ClassId) (dI : Nat → Nat → Nat) (ad : Nat → Nat) (cA : Nat → ClassId) (nF : Nat) (u0 : ac_U)  (hR : ac_R rg u0) (hK_MS : msI u0) (hK_AP : apI u0) : ac_Mv l yX12_tries (.code yX12_tries cX12_tries 2 none :: TB) 1 (dC, dI) vwCl (ac_ty cA) ad cA (TT nF) [.ref (ad 85)] u0 (fun (u : ac_U) => ac_R rg u ∧ ac_Fr [(94, none)] u0 u ∧ bfI u ∧ abI u ∧ f_X12_tries_85 u0 = u) := by
  refine ac_Mv.of (cc := cX12_tries) (maxL := 2) (ret := none) (by decide) rfl (Nat.le_of_ble_eq_true rfl) ?_
  intro p e s m below meth c A ls F hml hr hlocks hA hP hD hS hl
  have F : ac_X p s m [.ref (ad 85)].toArray c cX12_tries RX12 TB (dC, dI) vwCl (ac_ty cA) := ⟨F.1, F.2.1, fun w h => F.2.2.1 w (List.mem_cons_of_mem _ h), F.2.2.2.1, F.2.2.2.2⟩
  have hl : lv_has ls 2 [(0, .ref (ad 85))] := hl
  obtain ⟨RR, hRR⟩ : ∃ q, q = f_X12_tries_85 u0 := ⟨_, rfl⟩
  have hF : ac_Fr [(94, none)] u0 u0 := ac_Fr.rf
  have L2 : ∀ (n2 : Nat) (x1 : Int32) (u : ac_U) (H : Heap) (locs : List Loc) (ls : Array Slot), ac_R rg u → ac_Fr [(94, none)] u0 u → 370 - x1.toInt < (n2 : Int) → msI u → bkI x1.toInt u → apI u → abkI x1.toInt u → (0 : Int) ≤ x1.toInt ∧ x1.toInt ≤ 370 → RR = (K_X12_tries_85_2 u0 n2 u x1) → va_P (dC, dI) vwCl (ac_w ad cA (TT nF) u) H → va_D A (ac_w ad cA (TT nF) u) → va_S A s.heap H locs → lv_has ls 2 [(0, .ref (ad 85)), (1, .int x1)] → W p l e (ac_rm 1) s m [.ref (ad 85)].toArray below meth c H locs 0 0 (MQ below (va_Qv (fun (u : ac_U) => ac_R rg u ∧ ac_Fr [(94, none)] u0 u ∧ bfI u ∧ abI u ∧ f_X12_tries_85 u0 = u) (ac_B (dC, dI) vwCl (ac_ty cA) ad cA (TT nF) A) A) [.ref (ad 85)].toArray s 0 0 A) (F0 m 2 ls []) := by
    intro n2
    induction n2 with
    | zero => intro x1 u H locs ls hR hF hn2 hK_MS hK_BKx hK_AP hK_ABKx f0 hC hP hD hS hl; exfalso; omega
    | succ n2 ih2 =>
      intro x1 u H locs ls hR hF hn2 hK_MS hK_BKx hK_AP hK_ABKx f0 hC hP hD hS hl
      have hC : RR = K_X12_tries_85_2_b (K_X12_tries_85_2 u0 n2) u0 u x1 := hC
      unfold K_X12_tries_85_2_b at hC
      refine lv_iload_n F.1 F.2.1 dX12_tries_2 rfl (lv_at hl 1 rfl) ?_
      refine a_sp F (370 : Int32) dX12_tries_3 (by decide) ?_
      refine b_ge F 30 dX12_tries_6 (by decide) rfl ic_370 (fun c1 => ?_) (fun c1 => ?_)
      · have hC := hC.trans (if_pos c1)
        exact a_retv F hr hlocks hP hD hS dX12_tries_30 ⟨hR, hF, (hK_BKx (by omega)), (ab_of hK_ABKx (by omega)), hRR.symm.trans hC⟩
      · have hC := hC.trans (if_neg (by omega))
        refine lv_aload_n F.1 F.2.1 dX12_tries_9 rfl (lv_at hl 0 rfl) ?_
        refine a_getr F inX12 hP 85 23 tc_85 rfl rfl (by decide) q1494 (fun _ h9 => h9) dX12_tries_10 ?_
        refine lv_iload_n F.1 F.2.1 dX12_tries_13 rfl (lv_at hl 1 rfl) ?_
        refine lv_aload_n F.1 F.2.1 dX12_tries_14 rfl (lv_at hl 0 rfl) ?_
        refine a_getr F inX12 hP 85 6 tc_85 rfl rfl (by decide) q1477 (fun _ h9 => h9) dX12_tries_15 ?_
        refine a_bp F (106 : Int32) dX12_tries_18 (by decide) ?_
        refine lv_iload_n F.1 F.2.1 dX12_tries_20 rfl (lv_at hl 1 rfl) ?_
        refine a_iaddX F dX12_tries_21 ic_106 rfl (by omega) (fun v2 hv2 yv2 => ?_)
        have hC := vl_eq hC yv2
        refine a_iald F hP 87 tc_87 rfl (i_in rfl (by omega)) dX12_tries_22 (fun v3 ev3 => ?_)
        have hC := vl_eq hC ev3.symm
        refine a_iast F hP hD hS 94 tc_94 rfl (i_in rfl (by omega)) dX12_tries_23 (fun H locs hP hD hS => ?_)
        have hR := hR.si (c := 94) (k := x1.toNatClampNeg) (v := v3) (cp_el hR ev3 (rg_u3 (by omega) (by omega)).1)
        have hF := hF.si (c := 94) (k := x1.toNatClampNeg) (v := v3) rfl
        have hO_MS := hK_MS
        have hO_BKx := hK_BKx
        have hO_AP := hK_AP
        have hO_ABKx := hK_ABKx
        have hK_MS := sp_sgD sp_MS hD hK_MS (by decide)
        have hK_BKx := bk_w (i := x1) hO_BKx hO_MS (by omega) (k := v2) (by omega) ev3
        have hK_AP := sp_sgD sp_AP hD hK_AP (by decide)
        have hK_ABKx := abk_w (i := x1) hO_ABKx hO_AP (by omega) (k := v2) (by omega) ev3
        refine a_iincX F (k := 1) (fun v4 => [(1, .int v4), (0, .ref (ad 85))]) dX12_tries_24 hl rfl rfl (by decide) (by omega) (by decide) (fun _ => rfl) (fun v4 ls hv4 yv4 hl => ?_)
        have hC := vl_eq hC yv4
        refine lv_goto (tgt := 2) F.1 F.2.1 dX12_tries_27 (by decide) ?_
        exact ih2 v4 _ _ _ _ hR hF (by omega) hK_MS (bk_eq hK_BKx (by omega)) hK_AP (abk_eq hK_ABKx (by omega)) (by omega) hC hP hD hS (lv_sub hl [1, 0] rfl)
  have hC : RR = f_X12_tries_85 u0 := hRR
  unfold f_X12_tries_85 at hC
  refine a_ic F (0 : Int32) dX12_tries_0 (by decide) ?_
  refine lv_istore_n (lv' := [(1, .int (0 : Int32)), (0, .ref (ad 85))]) F.1 F.2.1 dX12_tries_1 rfl hl (by decide) rfl (fun ls hl => ?_)
  exact L2 372 (0 : Int32) _ _ _ _ hR hF (by decide) hK_MS (bk_0 (by decide)) hK_AP (abk_0 (by decide)) (by decide) hC hP hD hS (lv_sub hl [1, 0] rfl)
def K_X12_daybook_85_259 (u0 : ac_U) (p0 : Int32) (u : ac_U) (x2 : Int32) : ac_U × Int32 := (u, x2)
def K_X12_daybook_85_251 (u0 : ac_U) (p0 : Int32) (u : ac_U) (x2 : Int32) : ac_U × Int32 := (if p0.toInt ≠ 0 then (K_X12_daybook_85_259 u0 p0 u x2) else (vl (f_X12_back_85 u) (fun (u4 : ac_U) => (K_X12_daybook_85_259 u0 p0 u4 x2))))
def K_X12_daybook_85_215_b (B215 : ac_U → Int32 → Int32 → ac_U × Int32) (u0 : ac_U) (p0 : Int32) (u : ac_U) (x2 : Int32) (x3 : Int32) : ac_U × Int32 := (if (370 : Int) ≤ x3.toInt then (K_X12_daybook_85_251 u0 p0 u x2) else (vl ((u.1 85 24) - (1 : Int32)) (fun (v10 : Int32) => (vl ((370 : Int32) * v10) (fun (v11 : Int32) => (vl (v11 + x3) (fun (v12 : Int32) => (vl (u.1 94 x3.toNatClampNeg) (fun (v13 : Int32) => (vl (x3 + Int32.ofInt (1)) (fun (v14 : Int32) => (B215 (pI u 93 v12.toNatClampNeg v13) x2 v14))))))))))))
def K_X12_daybook_85_215 (u0 : ac_U) (p0 : Int32) : Nat → ac_U → Int32 → Int32 → ac_U × Int32
  | 0 => fun u x2 x3 => (u, 0)
  | n + 1 => fun u x2 x3 => K_X12_daybook_85_215_b (K_X12_daybook_85_215 u0 p0 n) u0 p0 u x2 x3
def K_X12_daybook_85_166 (u0 : ac_U) (p0 : Int32) (u : ac_U) (x2 : Int32) : ac_U × Int32 := (bd (f_X12_now_85 (pI u 99 2 (u.1 87 106)) (5 : Int32)) (fun (u18 : ac_U) (r18 : Int32) => (if p0.toInt ≠ (1 : Int) then (K_X12_daybook_85_251 u0 p0 (pI (pI u18 99 3 r18) 85 37 (1 : Int32)) x2) else (if (u18.1 99 1).toInt ≤ 0 then (K_X12_daybook_85_251 u0 p0 (pI (pI u18 99 3 r18) 85 37 (1 : Int32)) x2) else (vl (f_X12_keep_85 (pI (pI u18 99 3 r18) 85 37 (1 : Int32))) (fun (u22 : ac_U) => (K_X12_daybook_85_215 u0 p0 372 u22 x2 (0 : Int32))))))))
def K_X12_daybook_85_160 (B111 : ac_U → Int32 → Int32 → ac_U × Int32) (u0 : ac_U) (p0 : Int32) (u : ac_U) (x2 : Int32) (x3 : Int32) : ac_U × Int32 := (vl (x3 + Int32.ofInt (1)) (fun (v24 : Int32) => (B111 u x2 v24)))
def K_X12_daybook_85_111_b (B111 : ac_U → Int32 → Int32 → ac_U × Int32) (u0 : ac_U) (p0 : Int32) (u : ac_U) (x2 : Int32) (x3 : Int32) : ac_U × Int32 := (if (u.1 85 35).toInt ≤ x3.toInt then (K_X12_daybook_85_166 u0 p0 u x2) else (if 0 ≤ x2.toInt then (K_X12_daybook_85_166 u0 p0 u x2) else (vl ((3 : Int32) * x3) (fun (v34 : Int32) => (bd (f_X12_lives_85 u v34) (fun (u35 : ac_U) (r35 : Int32) => (if r35.toInt ≤ 0 then (vl ((u35.1 99 1) + (1 : Int32)) (fun (v37 : Int32) => (K_X12_daybook_85_160 B111 u0 p0 (pI (pI u35 99 0 r35) 99 1 v37) x2 x3))) else (K_X12_daybook_85_160 B111 u0 p0 (pI u35 99 0 r35) x3 x3))))))))
def K_X12_daybook_85_111 (u0 : ac_U) (p0 : Int32) : Nat → ac_U → Int32 → Int32 → ac_U × Int32
  | 0 => fun u x2 x3 => (u, 0)
  | n + 1 => fun u x2 x3 => K_X12_daybook_85_111_b (K_X12_daybook_85_111 u0 p0 n) u0 p0 u x2 x3
def K_X12_daybook_85_89_b (B89 : ac_U → Int32 → ac_U × Int32) (u0 : ac_U) (p0 : Int32) (u : ac_U) (x2 : Int32) : ac_U × Int32 := (if (4 : Int) ≤ x2.toInt then (K_X12_daybook_85_111 u0 p0 42 u (-1 : Int32) (0 : Int32)) else (vl (x2 + Int32.ofInt (1)) (fun (v41 : Int32) => (B89 (pI u 99 x2.toNatClampNeg (0 : Int32)) v41))))
def K_X12_daybook_85_89 (u0 : ac_U) (p0 : Int32) : Nat → ac_U → Int32 → ac_U × Int32
  | 0 => fun u x2 => (u, 0)
  | n + 1 => fun u x2 => K_X12_daybook_85_89_b (K_X12_daybook_85_89 u0 p0 n) u0 p0 u x2
def K_X12_daybook_85_62 (u0 : ac_U) (p0 : Int32) (u : ac_U) : ac_U × Int32 := (vl ((-2 : Int32) - (u.1 85 16)) (fun (v44 : Int32) => (u, v44)))
def K_X12_daybook_85_39_b (B39 : ac_U → ac_U × Int32) (u0 : ac_U) (p0 : Int32) (u : ac_U) : ac_U × Int32 := (if (u.1 85 11).toInt = 0 then (vl (f_X12_tries_85 u) (fun (u47 : ac_U) => (K_X12_daybook_85_89 u0 p0 6 u47 (0 : Int32)))) else (bd (f_X12_bookLine_85 u) (fun (u49 : ac_U) (r49 : Int32) => (if r49.toInt = 0 then (K_X12_daybook_85_62 u0 p0 u49) else (bd (f_X12_sign_85 u49 (59 : Int32)) (fun (u53 : ac_U) (r53 : Int32) => (if r53.toInt ≠ 0 then (vl ((u.1 85 35) + (1 : Int32)) (fun (v55 : Int32) => (B39 (pI u53 85 35 v55)))) else (K_X12_daybook_85_62 u0 p0 u53))))))))
def K_X12_daybook_85_39 (u0 : ac_U) (p0 : Int32) : Nat → ac_U → ac_U × Int32
  | 0 => fun u => (u, 0)
  | n + 1 => fun u => K_X12_daybook_85_39_b (K_X12_daybook_85_39 u0 p0 n) u0 p0 u
def f_X12_daybook_85 (u0 : ac_U) (p0 : Int32) : ac_U × Int32 := (vl (f_X12_isIn_f (pI u0 85 0 (0 : Int32)) p0 (0 : Int32) (1 : Int32)) (fun (r56 : Int32) => (if r56.toInt ≠ 0 then (vl (f_X12_taken_85 (pI u0 85 0 (0 : Int32)) (500 : Int32)) (fun (u58 : ac_U) => (vl (f_X12_next_85 (pI (pI u58 85 15 (0 : Int32)) 85 35 (0 : Int32))) (fun (u60 : ac_U) => (K_X12_daybook_85_39 u0 p0 43 u60))))) else ((pI u0 85 0 (0 : Int32)), (-1000 : Int32)))))
set_option maxHeartbeats 600000 in
set_option maxRecDepth 100000 in
theorem x_X12_daybook_85 (l : Launch) (dC : Nat → ClassId) (dI : Nat → Nat → Nat) (ad : Nat → Nat) (cA : Nat → ClassId) (nF : Nat) (u0 : ac_U) (p0 : Int32) (hR : ac_R rg u0) (hK_MS : msI u0) (hK_UI : unI u0) (hK_CW : cdI u0) (hK_AP : apI u0) (hK_AU : auI u0) : ac_Mi l yX12_daybook (.code yX12_daybook cX12_daybook 4 (some .int) :: TB) 8 (dC, dI) vwCl (ac_ty cA) ad cA (TT nF) [.ref (ad 85), .int p0] u0 (fun (r : Int32) (u : ac_U) => ac_R rg u ∧ ac_Fr [(85, some 0), (85, some 2), (85, some 3), (85, some 4), (85, some 5), (85, some 11), (85, some 12), (85, some 13), (85, some 14), (85, some 15), (85, some 16), (85, some 18), (85, some 24), (85, some 35), (85, some 37), (87, none), (89, none), (93, none), (94, none), (99, none)] u0 u ∧ msI u ∧ unI u ∧ cdI u ∧ apI u ∧ auI u ∧ (dlI 85 u0 p0.toInt) u ∧ (hxI u0 → hxI u) ∧ f_X12_daybook_85 u0 p0 = (u, r)) := by
  refine ac_Mi.of (cc := cX12_daybook) (maxL := 4) (ret := (some .int)) (by decide) rfl (Nat.le_of_ble_eq_true rfl) ?_
  intro p e s m below meth c A ls F hml hr hlocks hA hP hD hS hl
  have F : ac_X p s m [.ref (ad 85), .int p0].toArray c cX12_daybook RX12 TB (dC, dI) vwCl (ac_ty cA) := ⟨F.1, F.2.1, fun w h => F.2.2.1 w (List.mem_cons_of_mem _ h), F.2.2.2.1, F.2.2.2.2⟩
  have hl : lv_has ls 4 [(0, .ref (ad 85)), (1, .int p0)] := hl
  obtain ⟨RR, hRR⟩ : ∃ q, q = f_X12_daybook_85 u0 p0 := ⟨_, rfl⟩
  have hF : ac_Fr [(85, some 0), (85, some 2), (85, some 3), (85, some 4), (85, some 5), (85, some 11), (85, some 12), (85, some 13), (85, some 14), (85, some 15), (85, some 16), (85, some 18), (85, some 24), (85, some 35), (85, some 37), (87, none), (89, none), (93, none), (94, none), (99, none)] u0 u0 := ac_Fr.rf
  have hK_i_HX : (fun u => hxI u0 → hxI u) u0 := fun h => h
  have L259 : ∀ (x2 : Int32) (u : ac_U) (H : Heap) (locs : List Loc) (ls : Array Slot), ac_R rg u → ac_Fr [(85, some 0), (85, some 2), (85, some 3), (85, some 4), (85, some 5), (85, some 11), (85, some 12), (85, some 13), (85, some 14), (85, some 15), (85, some 16), (85, some 18), (85, some 24), (85, some 35), (85, some 37), (87, none), (89, none), (93, none), (94, none), (99, none)] u0 u → msI u → unI u → cdI u → apI u → auI u → (dlI 85 u0 p0.toInt) u → (fun u => hxI u0 → hxI u) u → (-1 : Int) ≤ x2.toInt ∧ x2.toInt ≤ 39 → (0 : Int) ≤ (u.1 85 11).toInt ∧ (u.1 85 11).toInt ≤ 0 → (1 : Int) ≤ (u.1 85 37).toInt ∧ (u.1 85 37).toInt ≤ 1 → (0 : Int) ≤ (u.1 99 2).toInt ∧ (u.1 99 2).toInt ≤ 480 → RR = (K_X12_daybook_85_259 u0 p0 u x2) → va_P (dC, dI) vwCl (ac_w ad cA (TT nF) u) H → va_D A (ac_w ad cA (TT nF) u) → va_S A s.heap H locs → lv_has ls 4 [(2, .int x2)] → W p l e (ac_rm 8) s m [.ref (ad 85), .int p0].toArray below meth c H locs 0 0 (MQ below (va_Qi (fun (r : Int32) (u : ac_U) => ac_R rg u ∧ ac_Fr [(85, some 0), (85, some 2), (85, some 3), (85, some 4), (85, some 5), (85, some 11), (85, some 12), (85, some 13), (85, some 14), (85, some 15), (85, some 16), (85, some 18), (85, some 24), (85, some 35), (85, some 37), (87, none), (89, none), (93, none), (94, none), (99, none)] u0 u ∧ msI u ∧ unI u ∧ cdI u ∧ apI u ∧ auI u ∧ (dlI 85 u0 p0.toInt) u ∧ (hxI u0 → hxI u) ∧ f_X12_daybook_85 u0 p0 = (u, r)) (ac_B (dC, dI) vwCl (ac_ty cA) ad cA (TT nF) A) A) [.ref (ad 85), .int p0].toArray s 0 0 A) (F0 m 259 ls []) := by
    intro x2 u H locs ls hR hF hK_MS hK_UI hK_CW hK_AP hK_AU hK_DR hK_i_HX f0 f1 f2 f3 hC hP hD hS hl
    unfold K_X12_daybook_85_259 at hC
    refine lv_iload_n F.1 F.2.1 dX12_daybook_259 rfl (lv_at hl 0 rfl) ?_
    exact a_reti F hr hlocks hP hD hS dX12_daybook_260 ⟨hR, hF, hK_MS, hK_UI, hK_CW, hK_AP, hK_AU, hK_DR, hK_i_HX, hRR.symm.trans hC⟩
  have L251 : ∀ (x2 : Int32) (u : ac_U) (H : Heap) (locs : List Loc) (ls : Array Slot), ac_R rg u → ac_Fr [(85, some 0), (85, some 2), (85, some 3), (85, some 4), (85, some 5), (85, some 11), (85, some 12), (85, some 13), (85, some 14), (85, some 15), (85, some 16), (85, some 18), (85, some 24), (85, some 35), (85, some 37), (87, none), (89, none), (93, none), (94, none), (99, none)] u0 u → msI u → unI u → cdI u → bfI u → apI u → auI u → abI u → (dlI 85 u0 p0.toInt) u → (fun u => hxI u0 → hxI u) u → (0 : Int) ≤ p0.toInt ∧ p0.toInt ≤ 1 → (-1 : Int) ≤ x2.toInt ∧ x2.toInt ≤ 39 → (0 : Int) ≤ (u.1 85 11).toInt ∧ (u.1 85 11).toInt ≤ 0 → (1 : Int) ≤ (u.1 85 37).toInt ∧ (u.1 85 37).toInt ≤ 1 → (0 : Int) ≤ (u.1 99 2).toInt ∧ (u.1 99 2).toInt ≤ 480 → RR = (K_X12_daybook_85_251 u0 p0 u x2) → va_P (dC, dI) vwCl (ac_w ad cA (TT nF) u) H → va_D A (ac_w ad cA (TT nF) u) → va_S A s.heap H locs → lv_has ls 4 [(0, .ref (ad 85)), (1, .int p0), (2, .int x2)] → W p l e (ac_rm 8) s m [.ref (ad 85), .int p0].toArray below meth c H locs 0 0 (MQ below (va_Qi (fun (r : Int32) (u : ac_U) => ac_R rg u ∧ ac_Fr [(85, some 0), (85, some 2), (85, some 3), (85, some 4), (85, some 5), (85, some 11), (85, some 12), (85, some 13), (85, some 14), (85, some 15), (85, some 16), (85, some 18), (85, some 24), (85, some 35), (85, some 37), (87, none), (89, none), (93, none), (94, none), (99, none)] u0 u ∧ msI u ∧ unI u ∧ cdI u ∧ apI u ∧ auI u ∧ (dlI 85 u0 p0.toInt) u ∧ (hxI u0 → hxI u) ∧ f_X12_daybook_85 u0 p0 = (u, r)) (ac_B (dC, dI) vwCl (ac_ty cA) ad cA (TT nF) A) A) [.ref (ad 85), .int p0].toArray s 0 0 A) (F0 m 251 ls []) := by
    intro x2 u H locs ls hR hF hK_MS hK_UI hK_CW hK_BI hK_AP hK_AU hK_AB hK_DR hK_i_HX f0 f1 f2 f3 f4 hC hP hD hS hl
    unfold K_X12_daybook_85_251 at hC
    refine lv_iload_n F.1 F.2.1 dX12_daybook_251 rfl (lv_at hl 1 rfl) ?_
    refine z_ne F 259 dX12_daybook_252 (by decide) rfl (fun c1 => ?_) (fun c1 => ?_)
    · have hC := hC.trans (if_pos c1)
      have g2 : (0 : Int) ≤ (u.1 85 11).toInt ∧ (u.1 85 11).toInt ≤ 4 := hR 85 11
      have g3 : (0 : Int) ≤ (u.1 85 37).toInt ∧ (u.1 85 37).toInt ≤ 1 := hR 85 37
      exact L259 x2 _ _ _ _ hR hF hK_MS hK_UI hK_CW hK_AP hK_AU hK_DR hK_i_HX (by omega) (by omega : (0 : Int) ≤ (u.1 85 11).toInt ∧ (u.1 85 11).toInt ≤ 0) (by omega : (1 : Int) ≤ (u.1 85 37).toInt ∧ (u.1 85 37).toInt ≤ 1) (by omega : (0 : Int) ≤ (u.1 99 2).toInt ∧ (u.1 99 2).toInt ≤ 480) hC hP hD hS (lv_sub hl [2] rfl)
    · have hC := hC.trans (if_neg (by omega))
      refine lv_aload_n F.1 F.2.1 dX12_daybook_255 rfl (lv_at hl 0 rfl) ?_
      have g5 : (0 : Int) ≤ (u.1 85 35).toInt ∧ (u.1 85 35).toInt ≤ 40 := hR 85 35
      refine a_Vv F hml hl.1 hA hP hD hS (As := []) (x_X12_back_85 l dC dI ad cA nF _  hR hK_MS hK_BI hK_AP hK_AB) (cs_RX12_395 (d := 1) F.2.2.1 (by decide)) tc_85 rfl rfl rfl rfl (Nat.le_of_ble_eq_true rfl) dX12_daybook_256 ⟨Nat.le_refl 0, Nat.le_refl 0⟩ (fun u4 H locs hq hP hD hS => ?_)
      obtain ⟨hR, hF4, hK_MS, hK_BI, hK_AP, hK_AB, hJ4_CW, hJ4_UI, hJ4_AU, hJ4_HX, hz4⟩ := hq
      have hF := hF.tr hF4 (by decide)
      have hK_UI := hJ4_UI hK_UI
      have hK_CW := hJ4_CW hK_CW
      have hK_AU := hJ4_AU hK_AU
      have hK_DR := sp_fr (sp_dl 85 _ _) hF4 (by decide) hK_DR
      have hK_i_HX : (fun u => hxI u0 → hxI u) u4 := fun h => hJ4_HX (hK_i_HX h)
      have hC := vl_eq hC hz4.symm
      exact L259 x2 _ _ _ _ hR hF hK_MS hK_UI hK_CW hK_AP hK_AU hK_DR hK_i_HX (by omega) (i_trB (hF4 85 11 rfl) (by omega : (0 : Int) ≤ (u.1 85 11).toInt ∧ (u.1 85 11).toInt ≤ 0)) (i_trB (hF4 85 37 rfl) (by omega : (1 : Int) ≤ (u.1 85 37).toInt ∧ (u.1 85 37).toInt ≤ 1)) (i_trB (hF4 99 2 rfl) (by omega : (0 : Int) ≤ (u.1 99 2).toInt ∧ (u.1 99 2).toInt ≤ 480)) hC hP hD hS (lv_sub hl [2] rfl)
  have L215 : ∀ (n215 : Nat) (x2 : Int32) (x3 : Int32) (u : ac_U) (H : Heap) (locs : List Loc) (ls : Array Slot), ac_R rg u → ac_Fr [(85, some 0), (85, some 2), (85, some 3), (85, some 4), (85, some 5), (85, some 11), (85, some 12), (85, some 13), (85, some 14), (85, some 15), (85, some 16), (85, some 18), (85, some 24), (85, some 35), (85, some 37), (87, none), (89, none), (93, none), (94, none), (99, none)] u0 u → 370 - x3.toInt < (n215 : Int) → msI u → unI u → cdI u → bfI u → apI u → auI u → abI u → (dlI 85 u0 p0.toInt) u → (fun u => hxI u0 → hxI u) u → (1 : Int) ≤ p0.toInt ∧ p0.toInt ≤ 1 → (-1 : Int) ≤ x2.toInt ∧ x2.toInt ≤ 39 → (0 : Int) ≤ x3.toInt ∧ x3.toInt ≤ 370 → (0 : Int) ≤ (u.1 85 11).toInt ∧ (u.1 85 11).toInt ≤ 0 → (1 : Int) ≤ (u.1 85 24).toInt ∧ (u.1 85 24).toInt ≤ 8 → (1 : Int) ≤ (u.1 85 37).toInt ∧ (u.1 85 37).toInt ≤ 1 → (1 : Int) ≤ (u.1 99 1).toInt → (0 : Int) ≤ (u.1 99 2).toInt ∧ (u.1 99 2).toInt ≤ 480 → RR = (K_X12_daybook_85_215 u0 p0 n215 u x2 x3) → va_P (dC, dI) vwCl (ac_w ad cA (TT nF) u) H → va_D A (ac_w ad cA (TT nF) u) → va_S A s.heap H locs → lv_has ls 4 [(0, .ref (ad 85)), (1, .int p0), (2, .int x2), (3, .int x3)] → W p l e (ac_rm 8) s m [.ref (ad 85), .int p0].toArray below meth c H locs 0 0 (MQ below (va_Qi (fun (r : Int32) (u : ac_U) => ac_R rg u ∧ ac_Fr [(85, some 0), (85, some 2), (85, some 3), (85, some 4), (85, some 5), (85, some 11), (85, some 12), (85, some 13), (85, some 14), (85, some 15), (85, some 16), (85, some 18), (85, some 24), (85, some 35), (85, some 37), (87, none), (89, none), (93, none), (94, none), (99, none)] u0 u ∧ msI u ∧ unI u ∧ cdI u ∧ apI u ∧ auI u ∧ (dlI 85 u0 p0.toInt) u ∧ (hxI u0 → hxI u) ∧ f_X12_daybook_85 u0 p0 = (u, r)) (ac_B (dC, dI) vwCl (ac_ty cA) ad cA (TT nF) A) A) [.ref (ad 85), .int p0].toArray s 0 0 A) (F0 m 215 ls []) := by
    intro n215
    induction n215 with
    | zero => intro x2 x3 u H locs ls hR hF hn215 hK_MS hK_UI hK_CW hK_BI hK_AP hK_AU hK_AB hK_DR hK_i_HX f0 f1 f2 f3 f4 f5 f6 f7 hC hP hD hS hl; exfalso; omega
    | succ n215 ih215 =>
      intro x2 x3 u H locs ls hR hF hn215 hK_MS hK_UI hK_CW hK_BI hK_AP hK_AU hK_AB hK_DR hK_i_HX f0 f1 f2 f3 f4 f5 f6 f7 hC hP hD hS hl
      have hC : RR = K_X12_daybook_85_215_b (K_X12_daybook_85_215 u0 p0 n215) u0 p0 u x2 x3 := hC
      unfold K_X12_daybook_85_215_b at hC
      refine lv_iload_n F.1 F.2.1 dX12_daybook_215 rfl (lv_at hl 3 rfl) ?_
      refine a_sp F (370 : Int32) dX12_daybook_216 (by decide) ?_
      refine b_ge F 251 dX12_daybook_219 (by decide) rfl ic_370 (fun c6 => ?_) (fun c6 => ?_)
      · have hC := hC.trans (if_pos c6)
        have g7 : (0 : Int) ≤ (u.1 85 11).toInt ∧ (u.1 85 11).toInt ≤ 4 := hR 85 11
        have g8 : (0 : Int) ≤ (u.1 85 37).toInt ∧ (u.1 85 37).toInt ≤ 1 := hR 85 37
        exact L251 x2 _ _ _ _ hR hF hK_MS hK_UI hK_CW hK_BI hK_AP hK_AU hK_AB hK_DR hK_i_HX (by omega) (by omega) (by omega : (0 : Int) ≤ (u.1 85 11).toInt ∧ (u.1 85 11).toInt ≤ 0) (by omega : (1 : Int) ≤ (u.1 85 37).toInt ∧ (u.1 85 37).toInt ≤ 1) (by omega : (0 : Int) ≤ (u.1 99 2).toInt ∧ (u.1 99 2).toInt ≤ 480) hC hP hD hS (lv_sub hl [0, 1, 2] rfl)
      · have hC := hC.trans (if_neg (by omega))
        refine lv_aload_n F.1 F.2.1 dX12_daybook_222 rfl (lv_at hl 0 rfl) ?_
        refine a_getr F inX12 hP 85 22 tc_85 rfl rfl (by decide) q1493 (fun _ h9 => h9) dX12_daybook_223 ?_
        refine a_sp F (370 : Int32) dX12_daybook_226 (by decide) ?_
        refine lv_aload_n F.1 F.2.1 dX12_daybook_229 rfl (lv_at hl 0 rfl) ?_
        have g9 : (0 : Int) ≤ (u.1 85 24).toInt ∧ (u.1 85 24).toInt ≤ 8 := hR 85 24
        refine a_geti F inX12 hP 85 24 tc_85 rfl rfl (by decide) q1495 (fun _ h9 => h9) (v := (u.1 85 24)) rfl dX12_daybook_230 ?_
        refine a_ic F (1 : Int32) dX12_daybook_233 (by decide) ?_
        refine a_isubX F dX12_daybook_234 rfl ic_1 (by omega) (fun v10 hv10 yv10 => ?_)
        have hC := vl_eq hC yv10
        refine a_imulX F dX12_daybook_235 ic_370 rfl (by omega) (fun v11 hv11 yv11 => ?_)
        have hC := vl_eq hC yv11
        refine lv_iload_n F.1 F.2.1 dX12_daybook_236 rfl (lv_at hl 3 rfl) ?_
        refine a_iaddX F dX12_daybook_237 rfl rfl (by omega) (fun v12 hv12 yv12 => ?_)
        have hC := vl_eq hC yv12
        refine lv_aload_n F.1 F.2.1 dX12_daybook_238 rfl (lv_at hl 0 rfl) ?_
        refine a_getr F inX12 hP 85 23 tc_85 rfl rfl (by decide) q1494 (fun _ h9 => h9) dX12_daybook_239 ?_
        refine lv_iload_n F.1 F.2.1 dX12_daybook_242 rfl (lv_at hl 3 rfl) ?_
        refine a_iald F hP 94 tc_94 rfl (i_in rfl (by omega)) dX12_daybook_243 (fun v13 ev13 => ?_)
        have hC := vl_eq hC ev13.symm
        refine a_iast F hP hD hS 93 tc_93 rfl (i_in rfl (by omega)) dX12_daybook_244 (fun H locs hP hD hS => ?_)
        have hR := hR.si (c := 93) (k := v12.toNatClampNeg) (v := v13) (cp_el hR ev13 (rg_u5 (m := (u.1 85 24).toInt - 1) (by omega) (by omega) (by omega)))
        have hF := hF.si (c := 93) (k := v12.toNatClampNeg) (v := v13) rfl
        have hO_MS := hK_MS
        have hO_UI := hK_UI
        have hO_CW := hK_CW
        have hO_BI := hK_BI
        have hO_AP := hK_AP
        have hO_AU := hK_AU
        have hO_AB := hK_AB
        have hO_DR := hK_DR
        have hO_i_HX := hK_i_HX
        have hK_MS := sp_sgD sp_MS hD hK_MS (by decide)
        have hK_UI := un_w3 hO_UI (i := v12) (v := v13) (x := x3.toInt) (by omega) (by omega) (by omega) (fun q9 => bf_get hO_BI ev13 (by omega))
        have hK_CW := sp_sgD sp_CW hD hK_CW (by decide)
        have hK_BI := sp_sgD sp_BI hD hK_BI (by decide)
        have hK_AP := sp_sgD sp_AP hD hK_AP (by decide)
        have hK_AU := au_w3 hO_AU (i := v12) (v := v13) (x := x3.toInt) (by omega) (by omega) (by omega) (fun q9 => ab_get hO_AB ev13 (by omega))
        have hK_AB := sp_sgD sp_AB hD hK_AB (by decide)
        have hK_DR := sp_sgD (sp_dl 85 _ _) hD hK_DR (by decide)
        have hK_i_HX := sp_sgD (sp_imp sp_HX) hD hK_i_HX (by decide)
        refine a_iincX F (k := 3) (fun v14 => [(3, .int v14), (0, .ref (ad 85)), (1, .int p0), (2, .int x2)]) dX12_daybook_245 hl rfl rfl (by decide) (by omega) (by decide) (fun _ => rfl) (fun v14 ls hv14 yv14 hl => ?_)
        have hC := vl_eq hC yv14
        refine lv_goto (tgt := 215) F.1 F.2.1 dX12_daybook_248 (by decide) ?_
        have g15 : (0 : Int) ≤ (u.1 85 11).toInt ∧ (u.1 85 11).toInt ≤ 4 := hR 85 11
        have g16 : (0 : Int) ≤ (u.1 85 37).toInt ∧ (u.1 85 37).toInt ≤ 1 := hR 85 37
        exact ih215 x2 v14 _ _ _ _ hR hF (by omega) hK_MS hK_UI hK_CW hK_BI hK_AP hK_AU hK_AB hK_DR hK_i_HX (by omega) (by omega) (by omega) (by omega : (0 : Int) ≤ (u.1 85 11).toInt ∧ (u.1 85 11).toInt ≤ 0) (by omega : (1 : Int) ≤ (u.1 85 24).toInt ∧ (u.1 85 24).toInt ≤ 8) (by omega : (1 : Int) ≤ (u.1 85 37).toInt ∧ (u.1 85 37).toInt ≤ 1) (by omega : (1 : Int) ≤ (u.1 99 1).toInt) (by omega : (0 : Int) ≤ (u.1 99 2).toInt ∧ (u.1 99 2).toInt ≤ 480) hC hP hD hS (lv_sub hl [1, 2, 3, 0] rfl)
  have L166 : ∀ (x2 : Int32) (u : ac_U) (H : Heap) (locs : List Loc) (ls : Array Slot), ac_R rg u → ac_Fr [(85, some 0), (85, some 2), (85, some 3), (85, some 4), (85, some 5), (85, some 11), (85, some 12), (85, some 13), (85, some 14), (85, some 15), (85, some 16), (85, some 18), (85, some 24), (85, some 35), (85, some 37), (87, none), (89, none), (93, none), (94, none), (99, none)] u0 u → msI u → unI u → cdI u → bfI u → blI u → apI u → auI u → abI u → bgI u → (dlI 85 u0 p0.toInt) u → (fun u => hxI u0 → hxI u) u → (0 : Int) ≤ p0.toInt ∧ p0.toInt ≤ 1 → (-1 : Int) ≤ x2.toInt ∧ x2.toInt ≤ 39 → (0 : Int) ≤ (u.1 85 0).toInt ∧ (u.1 85 0).toInt ≤ 0 → (0 : Int) ≤ (u.1 85 11).toInt ∧ (u.1 85 11).toInt ≤ 0 → RR = (K_X12_daybook_85_166 u0 p0 u x2) → va_P (dC, dI) vwCl (ac_w ad cA (TT nF) u) H → va_D A (ac_w ad cA (TT nF) u) → va_S A s.heap H locs → lv_has ls 4 [(0, .ref (ad 85)), (1, .int p0), (2, .int x2)] → W p l e (ac_rm 8) s m [.ref (ad 85), .int p0].toArray below meth c H locs 0 0 (MQ below (va_Qi (fun (r : Int32) (u : ac_U) => ac_R rg u ∧ ac_Fr [(85, some 0), (85, some 2), (85, some 3), (85, some 4), (85, some 5), (85, some 11), (85, some 12), (85, some 13), (85, some 14), (85, some 15), (85, some 16), (85, some 18), (85, some 24), (85, some 35), (85, some 37), (87, none), (89, none), (93, none), (94, none), (99, none)] u0 u ∧ msI u ∧ unI u ∧ cdI u ∧ apI u ∧ auI u ∧ (dlI 85 u0 p0.toInt) u ∧ (hxI u0 → hxI u) ∧ f_X12_daybook_85 u0 p0 = (u, r)) (ac_B (dC, dI) vwCl (ac_ty cA) ad cA (TT nF) A) A) [.ref (ad 85), .int p0].toArray s 0 0 A) (F0 m 166 ls []) := by
    intro x2 u H locs ls hR hF hK_MS hK_UI hK_CW hK_BI hK_BLI hK_AP hK_AU hK_AB hK_BG hK_DR hK_i_HX f0 f1 f2 f3 hC hP hD hS hl
    unfold K_X12_daybook_85_166 at hC
    refine lv_aload_n F.1 F.2.1 dX12_daybook_166 rfl (lv_at hl 0 rfl) ?_
    refine a_getr F inX12 hP 85 36 tc_85 rfl rfl (by decide) q1507 (fun _ h9 => h9) dX12_daybook_167 ?_
    refine a_ic F (2 : Int32) dX12_daybook_170 (by decide) ?_
    refine lv_aload_n F.1 F.2.1 dX12_daybook_171 rfl (lv_at hl 0 rfl) ?_
    refine a_getr F inX12 hP 85 6 tc_85 rfl rfl (by decide) q1477 (fun _ h9 => h9) dX12_daybook_172 ?_
    refine a_bp F (106 : Int32) dX12_daybook_175 (by decide) ?_
    have g17 : (0 : Int) ≤ (u.1 87 106).toInt ∧ (u.1 87 106).toInt ≤ 480 := hR 87 106
    refine a_ialdK F hP 87 106 tc_87 rfl rfl (i_in ic_106 (by omega)) (v := (u.1 87 106)) rfl dX12_daybook_177 ?_
    refine a_iastK F hP hD hS 99 2 tc_99 rfl rfl (i_in ic_2 (by omega)) dX12_daybook_178 (fun H locs hP hD hS => ?_)
    have hR := hR.si (c := 99) (k := 2) (v := (u.1 87 106)) ⟨i_lo _, i_hi _⟩
    have hF := hF.si (c := 99) (k := 2) (v := (u.1 87 106)) rfl
    have hK_MS := sp_sgD sp_MS hD hK_MS (by decide)
    have hK_UI := sp_sgD sp_UI hD hK_UI (by decide)
    have hK_CW := sp_sgD sp_CW hD hK_CW (by decide)
    have hK_BI := sp_sgD sp_BI hD hK_BI (by decide)
    have hK_BLI := sp_sgD sp_BLI hD hK_BLI (by decide)
    have hK_AP := sp_sgD sp_AP hD hK_AP (by decide)
    have hK_AU := sp_sgD sp_AU hD hK_AU (by decide)
    have hK_AB := sp_sgD sp_AB hD hK_AB (by decide)
    have hK_BG := sp_sgD sp_BG hD hK_BG (by decide)
    have hK_DR := sp_sgD (sp_dl 85 _ _) hD hK_DR (by decide)
    have hK_i_HX := sp_sgD (sp_imp sp_HX) hD hK_i_HX (by decide)
    refine lv_aload_n F.1 F.2.1 dX12_daybook_179 rfl (lv_at hl 0 rfl) ?_
    refine a_getr F inX12 hP 85 36 tc_85 rfl rfl (by decide) q1507 (fun _ h9 => h9) dX12_daybook_180 ?_
    refine a_ic F (3 : Int32) dX12_daybook_183 (by decide) ?_
    refine lv_aload_n F.1 F.2.1 dX12_daybook_184 rfl (lv_at hl 0 rfl) ?_
    refine a_ic F (5 : Int32) dX12_daybook_185 (by decide) ?_
    have g19 : (0 : Int) ≤ (u.1 85 35).toInt ∧ (u.1 85 35).toInt ≤ 40 := hR 85 35
    refine a_Vi F hml hl.1 hA hP hD hS (As := [.int (5 : Int32)]) (x_X12_now_85 l dC dI ad cA nF _ (5 : Int32) hR) (cs_RX12_407 (d := 7) F.2.2.1 (by decide)) tc_85 rfl rfl rfl rfl (Nat.le_of_ble_eq_true rfl) dX12_daybook_186 ⟨Nat.le_refl 0, Nat.le_refl 0⟩ (fun r18 u18 H locs hq hP hD hS => ?_)
    obtain ⟨hR, hF18, hz18⟩ := hq
    have hF := hF.tr hF18 (by decide)
    have hK_MS := sp_fr sp_MS hF18 (by decide) hK_MS
    have hK_UI := sp_fr sp_UI hF18 (by decide) hK_UI
    have hK_CW := sp_fr sp_CW hF18 (by decide) hK_CW
    have hK_BI := sp_fr sp_BI hF18 (by decide) hK_BI
    have hK_BLI := sp_fr sp_BLI hF18 (by decide) hK_BLI
    have hK_AP := sp_fr sp_AP hF18 (by decide) hK_AP
    have hK_AU := sp_fr sp_AU hF18 (by decide) hK_AU
    have hK_AB := sp_fr sp_AB hF18 (by decide) hK_AB
    have hK_BG := sp_fr sp_BG hF18 (by decide) hK_BG
    have hK_DR := sp_fr (sp_dl 85 _ _) hF18 (by decide) hK_DR
    have hK_i_HX := sp_fr (sp_imp sp_HX) hF18 (by decide) hK_i_HX
    have hC := bd_eq hC hz18
    refine a_iastK F hP hD hS 99 3 tc_99 rfl rfl (i_in ic_3 (by omega)) dX12_daybook_189 (fun H locs hP hD hS => ?_)
    have hR := hR.si (c := 99) (k := 3) (v := r18) ⟨i_lo _, i_hi _⟩
    have hF := hF.si (c := 99) (k := 3) (v := r18) rfl
    have hK_MS := sp_sgD sp_MS hD hK_MS (by decide)
    have hK_UI := sp_sgD sp_UI hD hK_UI (by decide)
    have hK_CW := sp_sgD sp_CW hD hK_CW (by decide)
    have hK_BI := sp_sgD sp_BI hD hK_BI (by decide)
    have hK_BLI := sp_sgD sp_BLI hD hK_BLI (by decide)
    have hK_AP := sp_sgD sp_AP hD hK_AP (by decide)
    have hK_AU := sp_sgD sp_AU hD hK_AU (by decide)
    have hK_AB := sp_sgD sp_AB hD hK_AB (by decide)
    have hK_BG := sp_sgD sp_BG hD hK_BG (by decide)
    have hK_DR := sp_sgD (sp_dl 85 _ _) hD hK_DR (by decide)
    have hK_i_HX := sp_sgD (sp_imp sp_HX) hD hK_i_HX (by decide)
    refine lv_aload_n F.1 F.2.1 dX12_daybook_190 rfl (lv_at hl 0 rfl) ?_
    refine a_ic F (1 : Int32) dX12_daybook_191 (by decide) ?_
    refine a_puti F inX12 tyX12 tyX12_ok nmX12 hP hD hS 85 37 tc_85 rfl rfl (by decide) q1508 (fun _ h9 => h9) rfl (ty := .boolean) (tyX12_ok 37 (by decide)) (i_zn (Or.inr rfl)) (i_zf (Or.inr rfl)) dX12_daybook_192 (fun H locs hP hD hS => ?_)
    have hR := hR.si (c := 85) (k := 37) (v := (1 : Int32)) (by rw [ic_1]; exact (by omega : (0 : Int) ≤ (1 : Int) ∧ (1 : Int) ≤ 1))
    have hF := hF.si (c := 85) (k := 37) (v := (1 : Int32)) rfl
    have hK_MS := sp_sgD sp_MS hD hK_MS (by decide)
    have hK_UI := sp_si sp_UI hK_UI (c := 85) (k := 37) (v := (1 : Int32)) (fun j9 h9 q9 => by rw [q9] at h9; exact absurd h9 (by decide))
    have hK_CW := sp_sgD sp_CW hD hK_CW (by decide)
    have hK_BI := sp_sgD sp_BI hD hK_BI (by decide)
    have hK_BLI := sp_si sp_BLI hK_BLI (c := 85) (k := 37) (v := (1 : Int32)) (fun j9 h9 q9 => by rw [q9] at h9; exact absurd h9 (by decide))
    have hK_AP := sp_sgD sp_AP hD hK_AP (by decide)
    have hK_AU := sp_si sp_AU hK_AU (c := 85) (k := 37) (v := (1 : Int32)) (fun j9 h9 q9 => by rw [q9] at h9; exact absurd h9 (by decide))
    have hK_AB := sp_sgD sp_AB hD hK_AB (by decide)
    have hK_BG := sp_si sp_BG hK_BG (c := 85) (k := 37) (v := (1 : Int32)) (fun j9 h9 q9 => by rw [q9] at h9; exact absurd h9 (by decide))
    have hK_DR := sp_si (sp_dl 85 _ _) hK_DR (c := 85) (k := 37) (v := (1 : Int32)) (fun j9 h9 q9 => by rw [q9] at h9; exact absurd h9 (by decide))
    have hK_i_HX := sp_sgD (sp_imp sp_HX) hD hK_i_HX (by decide)
    refine lv_iload_n F.1 F.2.1 dX12_daybook_195 rfl (lv_at hl 1 rfl) ?_
    refine a_ic F (1 : Int32) dX12_daybook_196 (by decide) ?_
    refine b_ne F 251 dX12_daybook_197 (by decide) rfl ic_1 (fun c20 => ?_) (fun c20 => ?_)
    · have hC := hC.trans (if_pos c20)
      exact L251 x2 _ _ _ _ hR hF hK_MS hK_UI hK_CW hK_BI hK_AP hK_AU hK_AB hK_DR hK_i_HX (by omega) (by omega) (i_trB (hF18 85 11 rfl) (by omega : (0 : Int) ≤ (u.1 85 11).toInt ∧ (u.1 85 11).toInt ≤ 0)) (by omega : (1 : Int) ≤ (1 : Int) ∧ (1 : Int) ≤ 1) (i_trB (hF18 99 2 rfl) (by omega : (0 : Int) ≤ (u.1 87 106).toInt ∧ (u.1 87 106).toInt ≤ 480)) hC hP hD hS (lv_sub hl [0, 1, 2] rfl)
    · have hC := hC.trans (if_neg (by omega))
      refine lv_aload_n F.1 F.2.1 dX12_daybook_200 rfl (lv_at hl 0 rfl) ?_
      refine a_getr F inX12 hP 85 36 tc_85 rfl rfl (by decide) q1507 (fun _ h9 => h9) dX12_daybook_201 ?_
      refine a_ic F (1 : Int32) dX12_daybook_204 (by decide) ?_
      refine a_ialdK F hP 99 1 tc_99 rfl rfl (i_in ic_1 (by omega)) (v := (u18.1 99 1)) rfl dX12_daybook_205 ?_
      refine z_le F 251 dX12_daybook_206 (by decide) rfl (fun c21 => ?_) (fun c21 => ?_)
      · have hC := hC.trans (if_pos c21)
        exact L251 x2 _ _ _ _ hR hF hK_MS hK_UI hK_CW hK_BI hK_AP hK_AU hK_AB hK_DR hK_i_HX (by omega) (by omega) (i_trB (hF18 85 11 rfl) (by omega : (0 : Int) ≤ (u.1 85 11).toInt ∧ (u.1 85 11).toInt ≤ 0)) (by omega : (1 : Int) ≤ (1 : Int) ∧ (1 : Int) ≤ 1) (i_trB (hF18 99 2 rfl) (by omega : (0 : Int) ≤ (u.1 87 106).toInt ∧ (u.1 87 106).toInt ≤ 480)) hC hP hD hS (lv_sub hl [0, 1, 2] rfl)
      · have hC := hC.trans (if_neg (by omega))
        refine lv_aload_n F.1 F.2.1 dX12_daybook_209 rfl (lv_at hl 0 rfl) ?_
        refine a_Vv F hml hl.1 hA hP hD hS (As := []) (x_X12_keep_85 l dC dI ad cA nF _  hR hK_MS hK_UI hK_AP hK_AU) (cs_RX12_269 (d := 1) F.2.2.1 (by decide)) tc_85 rfl rfl rfl rfl (Nat.le_of_ble_eq_true rfl) dX12_daybook_210 ⟨Nat.le_refl 0, Nat.le_refl 0⟩ (fun u22 H locs hq hP hD hS => ?_)
        obtain ⟨hR, hF22, xr22, hK_MS, hK_UI, hK_AP, hK_AU, hz22⟩ := hq
        have hF := hF.tr hF22 (by decide)
        have hK_CW := sp_fr sp_CW hF22 (by decide) hK_CW
        have hK_BI := sp_fr sp_BI hF22 (by decide) hK_BI
        have hK_BLI := sp_fr sp_BLI hF22 (by decide) hK_BLI
        have hK_AB := sp_fr sp_AB hF22 (by decide) hK_AB
        have hK_BG := sp_fr sp_BG hF22 (by decide) hK_BG
        have hK_DR := sp_fr (sp_dl 85 _ _) hF22 (by decide) hK_DR
        have hK_i_HX := sp_fr (sp_imp sp_HX) hF22 (by decide) hK_i_HX
        have g23 : (0 : Int) ≤ (u22.1 85 24).toInt ∧ (u22.1 85 24).toInt ≤ 8 := hR 85 24
        have xr22 : 1 ≤ (u22.1 85 24).toInt := xr22
        have hC := vl_eq hC hz22.symm
        refine a_ic F (0 : Int32) dX12_daybook_213 (by decide) ?_
        refine lv_istore_n (lv' := [(3, .int (0 : Int32)), (0, .ref (ad 85)), (1, .int p0), (2, .int x2)]) F.1 F.2.1 dX12_daybook_214 rfl hl (by decide) rfl (fun ls hl => ?_)
        exact L215 372 x2 (0 : Int32) _ _ _ _ hR hF (by decide) hK_MS hK_UI hK_CW hK_BI hK_AP hK_AU hK_AB hK_DR hK_i_HX (by omega) (by omega) (by decide) (i_trB ((hF22 85 11 rfl).trans (hF18 85 11 rfl)) (by omega : (0 : Int) ≤ (u.1 85 11).toInt ∧ (u.1 85 11).toInt ≤ 0)) (by omega : (1 : Int) ≤ (u22.1 85 24).toInt ∧ (u22.1 85 24).toInt ≤ 8) (i_trB (hF22 85 37 rfl) (by omega : (1 : Int) ≤ (1 : Int) ∧ (1 : Int) ≤ 1)) (i_trL (hF22 99 1 rfl) (by omega : (1 : Int) ≤ (u18.1 99 1).toInt)) (i_trB ((hF22 99 2 rfl).trans (hF18 99 2 rfl)) (by omega : (0 : Int) ≤ (u.1 87 106).toInt ∧ (u.1 87 106).toInt ≤ 480)) hC hP hD hS (lv_sub hl [1, 2, 3, 0] rfl)
  have L111 : ∀ (n111 : Nat) (x2 : Int32) (x3 : Int32) (u : ac_U) (H : Heap) (locs : List Loc) (ls : Array Slot), ac_R rg u → ac_Fr [(85, some 0), (85, some 2), (85, some 3), (85, some 4), (85, some 5), (85, some 11), (85, some 12), (85, some 13), (85, some 14), (85, some 15), (85, some 16), (85, some 18), (85, some 24), (85, some 35), (85, some 37), (87, none), (89, none), (93, none), (94, none), (99, none)] u0 u → 40 - x3.toInt < (n111 : Int) → msI u → unI u → cdI u → bfI u → blI u → apI u → auI u → abI u → bgI u → (dlI 85 u0 p0.toInt) u → (fun u => hxI u0 → hxI u) u → (0 : Int) ≤ p0.toInt ∧ p0.toInt ≤ 1 → (-1 : Int) ≤ x2.toInt ∧ x2.toInt ≤ 39 → (0 : Int) ≤ x3.toInt ∧ x3.toInt ≤ 40 → (0 : Int) ≤ (u.1 85 0).toInt ∧ (u.1 85 0).toInt ≤ 0 → (0 : Int) ≤ (u.1 85 11).toInt ∧ (u.1 85 11).toInt ≤ 0 → RR = (K_X12_daybook_85_111 u0 p0 n111 u x2 x3) → va_P (dC, dI) vwCl (ac_w ad cA (TT nF) u) H → va_D A (ac_w ad cA (TT nF) u) → va_S A s.heap H locs → lv_has ls 4 [(0, .ref (ad 85)), (1, .int p0), (2, .int x2), (3, .int x3)] → W p l e (ac_rm 8) s m [.ref (ad 85), .int p0].toArray below meth c H locs 0 0 (MQ below (va_Qi (fun (r : Int32) (u : ac_U) => ac_R rg u ∧ ac_Fr [(85, some 0), (85, some 2), (85, some 3), (85, some 4), (85, some 5), (85, some 11), (85, some 12), (85, some 13), (85, some 14), (85, some 15), (85, some 16), (85, some 18), (85, some 24), (85, some 35), (85, some 37), (87, none), (89, none), (93, none), (94, none), (99, none)] u0 u ∧ msI u ∧ unI u ∧ cdI u ∧ apI u ∧ auI u ∧ (dlI 85 u0 p0.toInt) u ∧ (hxI u0 → hxI u) ∧ f_X12_daybook_85 u0 p0 = (u, r)) (ac_B (dC, dI) vwCl (ac_ty cA) ad cA (TT nF) A) A) [.ref (ad 85), .int p0].toArray s 0 0 A) (F0 m 111 ls []) := by
    intro n111
    induction n111 with
    | zero => intro x2 x3 u H locs ls hR hF hn111 hK_MS hK_UI hK_CW hK_BI hK_BLI hK_AP hK_AU hK_AB hK_BG hK_DR hK_i_HX f0 f1 f2 f3 f4 hC hP hD hS hl; exfalso; omega
    | succ n111 ih111 =>
      intro x2 x3 u H locs ls hR hF hn111 hK_MS hK_UI hK_CW hK_BI hK_BLI hK_AP hK_AU hK_AB hK_BG hK_DR hK_i_HX f0 f1 f2 f3 f4 hC hP hD hS hl
      have hC : RR = K_X12_daybook_85_111_b (K_X12_daybook_85_111 u0 p0 n111) u0 p0 u x2 x3 := hC
      have L160 : ∀ (x2 : Int32) (x3 : Int32) (u : ac_U) (H : Heap) (locs : List Loc) (ls : Array Slot), ac_R rg u → ac_Fr [(85, some 0), (85, some 2), (85, some 3), (85, some 4), (85, some 5), (85, some 11), (85, some 12), (85, some 13), (85, some 14), (85, some 15), (85, some 16), (85, some 18), (85, some 24), (85, some 35), (85, some 37), (87, none), (89, none), (93, none), (94, none), (99, none)] u0 u → msI u → unI u → cdI u → bfI u → blI u → apI u → auI u → abI u → bgI u → (dlI 85 u0 p0.toInt) u → (fun u => hxI u0 → hxI u) u → (0 : Int) ≤ p0.toInt ∧ p0.toInt ≤ 1 → (-1 : Int) ≤ x2.toInt ∧ x2.toInt ≤ 39 → (0 : Int) ≤ x3.toInt ∧ x3.toInt ≤ 39 → (0 : Int) ≤ (u.1 85 0).toInt ∧ (u.1 85 0).toInt ≤ 0 → (0 : Int) ≤ (u.1 85 11).toInt ∧ (u.1 85 11).toInt ≤ 0 → (1 : Int) ≤ (u.1 85 35).toInt ∧ (u.1 85 35).toInt ≤ 40 → (0 : Int) ≤ (u.1 99 0).toInt ∧ (u.1 99 0).toInt ≤ 6 → 40 - x3.toInt + 0 < ((n111 : Nat) : Int) + 1 → RR = (K_X12_daybook_85_160 (K_X12_daybook_85_111 u0 p0 n111) u0 p0 u x2 x3) → va_P (dC, dI) vwCl (ac_w ad cA (TT nF) u) H → va_D A (ac_w ad cA (TT nF) u) → va_S A s.heap H locs → lv_has ls 4 [(0, .ref (ad 85)), (1, .int p0), (2, .int x2), (3, .int x3)] → W p l e (ac_rm 8) s m [.ref (ad 85), .int p0].toArray below meth c H locs 0 0 (MQ below (va_Qi (fun (r : Int32) (u : ac_U) => ac_R rg u ∧ ac_Fr [(85, some 0), (85, some 2), (85, some 3), (85, some 4), (85, some 5), (85, some 11), (85, some 12), (85, some 13), (85, some 14), (85, some 15), (85, some 16), (85, some 18), (85, some 24), (85, some 35), (85, some 37), (87, none), (89, none), (93, none), (94, none), (99, none)] u0 u ∧ msI u ∧ unI u ∧ cdI u ∧ apI u ∧ auI u ∧ (dlI 85 u0 p0.toInt) u ∧ (hxI u0 → hxI u) ∧ f_X12_daybook_85 u0 p0 = (u, r)) (ac_B (dC, dI) vwCl (ac_ty cA) ad cA (TT nF) A) A) [.ref (ad 85), .int p0].toArray s 0 0 A) (F0 m 160 ls []) := by
        intro x2 x3 u H locs ls hR hF hK_MS hK_UI hK_CW hK_BI hK_BLI hK_AP hK_AU hK_AB hK_BG hK_DR hK_i_HX f0 f1 f2 f3 f4 f5 f6 f7 hC hP hD hS hl
        unfold K_X12_daybook_85_160 at hC
        refine a_iincX F (k := 3) (fun v24 => [(3, .int v24), (0, .ref (ad 85)), (1, .int p0), (2, .int x2)]) dX12_daybook_160 hl rfl rfl (by decide) (by omega) (by decide) (fun _ => rfl) (fun v24 ls hv24 yv24 hl => ?_)
        have hC := vl_eq hC yv24
        refine lv_goto (tgt := 111) F.1 F.2.1 dX12_daybook_163 (by decide) ?_
        have g25 : (0 : Int) ≤ (u.1 85 0).toInt ∧ (u.1 85 0).toInt ≤ 1 := hR 85 0
        have g26 : (0 : Int) ≤ (u.1 85 11).toInt ∧ (u.1 85 11).toInt ≤ 4 := hR 85 11
        exact ih111 x2 v24 _ _ _ _ hR hF (by omega) hK_MS hK_UI hK_CW hK_BI hK_BLI hK_AP hK_AU hK_AB hK_BG hK_DR hK_i_HX (by omega) (by omega) (by omega) (by omega : (0 : Int) ≤ (u.1 85 0).toInt ∧ (u.1 85 0).toInt ≤ 0) (by omega : (0 : Int) ≤ (u.1 85 11).toInt ∧ (u.1 85 11).toInt ≤ 0) hC hP hD hS (lv_sub hl [1, 2, 3, 0] rfl)
      unfold K_X12_daybook_85_111_b at hC
      refine lv_iload_n F.1 F.2.1 dX12_daybook_111 rfl (lv_at hl 3 rfl) ?_
      refine lv_aload_n F.1 F.2.1 dX12_daybook_112 rfl (lv_at hl 0 rfl) ?_
      have g27 : (0 : Int) ≤ (u.1 85 35).toInt ∧ (u.1 85 35).toInt ≤ 40 := hR 85 35
      refine a_geti F inX12 hP 85 35 tc_85 rfl rfl (by decide) q1506 (fun _ h9 => h9) (v := (u.1 85 35)) rfl dX12_daybook_113 ?_
      refine b_ge F 166 dX12_daybook_116 (by decide) rfl rfl (fun c28 => ?_) (fun c28 => ?_)
      · have hC := hC.trans (if_pos c28)
        have g29 : (0 : Int) ≤ (u.1 85 0).toInt ∧ (u.1 85 0).toInt ≤ 1 := hR 85 0
        have g30 : (0 : Int) ≤ (u.1 85 11).toInt ∧ (u.1 85 11).toInt ≤ 4 := hR 85 11
        exact L166 x2 _ _ _ _ hR hF hK_MS hK_UI hK_CW hK_BI hK_BLI hK_AP hK_AU hK_AB hK_BG hK_DR hK_i_HX (by omega) (by omega) (by omega : (0 : Int) ≤ (u.1 85 0).toInt ∧ (u.1 85 0).toInt ≤ 0) (by omega : (0 : Int) ≤ (u.1 85 11).toInt ∧ (u.1 85 11).toInt ≤ 0) hC hP hD hS (lv_sub hl [0, 1, 2] rfl)
      · have hC := hC.trans (if_neg (by omega))
        refine lv_iload_n F.1 F.2.1 dX12_daybook_119 rfl (lv_at hl 2 rfl) ?_
        refine z_ge F 166 dX12_daybook_120 (by decide) rfl (fun c31 => ?_) (fun c31 => ?_)
        · have hC := hC.trans (if_pos c31)
          have g32 : (0 : Int) ≤ (u.1 85 0).toInt ∧ (u.1 85 0).toInt ≤ 1 := hR 85 0
          have g33 : (0 : Int) ≤ (u.1 85 11).toInt ∧ (u.1 85 11).toInt ≤ 4 := hR 85 11
          exact L166 x2 _ _ _ _ hR hF hK_MS hK_UI hK_CW hK_BI hK_BLI hK_AP hK_AU hK_AB hK_BG hK_DR hK_i_HX (by omega) (by omega) (by omega : (0 : Int) ≤ (u.1 85 0).toInt ∧ (u.1 85 0).toInt ≤ 0) (by omega : (0 : Int) ≤ (u.1 85 11).toInt ∧ (u.1 85 11).toInt ≤ 0) hC hP hD hS (lv_sub hl [0, 1, 2] rfl)
        · have hC := hC.trans (if_neg (by omega))
          refine lv_aload_n F.1 F.2.1 dX12_daybook_123 rfl (lv_at hl 0 rfl) ?_
          refine a_getr F inX12 hP 85 36 tc_85 rfl rfl (by decide) q1507 (fun _ h9 => h9) dX12_daybook_124 ?_
          refine a_ic F (0 : Int32) dX12_daybook_127 (by decide) ?_
          refine lv_aload_n F.1 F.2.1 dX12_daybook_128 rfl (lv_at hl 0 rfl) ?_
          refine a_ic F (3 : Int32) dX12_daybook_129 (by decide) ?_
          refine lv_iload_n F.1 F.2.1 dX12_daybook_130 rfl (lv_at hl 3 rfl) ?_
          refine a_imulX F dX12_daybook_131 ic_3 rfl (by omega) (fun v34 hv34 yv34 => ?_)
          have hC := vl_eq hC yv34
          refine a_Vi F hml hl.1 hA hP hD hS (As := [.int v34]) (x_X12_lives_85 l dC dI ad cA nF _ v34 hR (by omega) (by exact (by omega : v34.toInt < 3 * (u.1 85 35).toInt ∧ v34.toInt % 3 = 0)) hK_MS hK_AP hK_BLI hK_BG) (cs_RX12_404 (d := 3) F.2.2.1 (by decide)) tc_85 rfl rfl rfl rfl (Nat.le_of_ble_eq_true rfl) dX12_daybook_132 ⟨Nat.le_refl 0, Nat.le_refl 0⟩ (fun r35 u35 H locs hq hP hD hS => ?_)
          obtain ⟨hR, hF35, gr35, hK_MS, hK_AP, hJ35_CW, hJ35_UI, hJ35_BI, hJ35_AU, hJ35_AB, hJ35_BG, hJ35_HX, hz35⟩ := hq
          have hF := hF.tr hF35 (by decide)
          have hK_UI := hJ35_UI hK_UI
          have hK_CW := hJ35_CW hK_CW
          have hK_BI := hJ35_BI hK_BI
          have hK_BLI := sp_fr sp_BLI hF35 (by decide) hK_BLI
          have hK_AU := hJ35_AU hK_AU
          have hK_AB := hJ35_AB hK_AB
          have hK_BG := hJ35_BG hK_BG
          have hK_DR := sp_fr (sp_dl 85 _ _) hF35 (by decide) hK_DR
          have hK_i_HX : (fun u => hxI u0 → hxI u) u35 := fun h => hJ35_HX (hK_i_HX h)
          have hC := bd_eq hC hz35
          refine a_iastK F hP hD hS 99 0 tc_99 rfl rfl (i_in ic_0 (by omega)) dX12_daybook_135 (fun H locs hP hD hS => ?_)
          have hR := hR.si (c := 99) (k := 0) (v := r35) ⟨i_lo _, i_hi _⟩
          have hF := hF.si (c := 99) (k := 0) (v := r35) rfl
          have hK_MS := sp_sgD sp_MS hD hK_MS (by decide)
          have hK_UI := sp_sgD sp_UI hD hK_UI (by decide)
          have hK_CW := sp_sgD sp_CW hD hK_CW (by decide)
          have hK_BI := sp_sgD sp_BI hD hK_BI (by decide)
          have hK_BLI := sp_sgD sp_BLI hD hK_BLI (by decide)
          have hK_AP := sp_sgD sp_AP hD hK_AP (by decide)
          have hK_AU := sp_sgD sp_AU hD hK_AU (by decide)
          have hK_AB := sp_sgD sp_AB hD hK_AB (by decide)
          have hK_BG := sp_sgD sp_BG hD hK_BG (by decide)
          have hK_DR := sp_sgD (sp_dl 85 _ _) hD hK_DR (by decide)
          have hK_i_HX := sp_sgD (sp_imp sp_HX) hD hK_i_HX (by decide)
          refine lv_aload_n F.1 F.2.1 dX12_daybook_136 rfl (lv_at hl 0 rfl) ?_
          refine a_getr F inX12 hP 85 36 tc_85 rfl rfl (by decide) q1507 (fun _ h9 => h9) dX12_daybook_137 ?_
          refine a_ic F (0 : Int32) dX12_daybook_140 (by decide) ?_
          refine a_ialdK F hP 99 0 tc_99 rfl rfl (i_in ic_0 (by omega)) (v := r35) (rfl) dX12_daybook_141 ?_
          refine z_le F 150 dX12_daybook_142 (by decide) rfl (fun c36 => ?_) (fun c36 => ?_)
          · have hC := hC.trans (if_pos c36)
            refine lv_aload_n F.1 F.2.1 dX12_daybook_150 rfl (lv_at hl 0 rfl) ?_
            refine a_getr F inX12 hP 85 36 tc_85 rfl rfl (by decide) q1507 (fun _ h9 => h9) dX12_daybook_151 ?_
            refine a_ic F (1 : Int32) dX12_daybook_154 (by decide) ?_
            refine lv_dup2_11 F.1 F.2.1 dX12_daybook_155 rfl rfl ?_
            refine a_ialdK F hP 99 1 tc_99 rfl rfl (i_in ic_1 (by omega)) (v := (u35.1 99 1)) rfl dX12_daybook_156 ?_
            refine a_ic F (1 : Int32) dX12_daybook_157 (by decide) ?_
            refine a_iaddUX F dX12_daybook_158 (fun v37 yv37 => ?_)
            have hC := vl_eq hC yv37
            refine a_iastK F hP hD hS 99 1 tc_99 rfl rfl (i_in ic_1 (by omega)) dX12_daybook_159 (fun H locs hP hD hS => ?_)
            have hR := hR.si (c := 99) (k := 1) (v := v37) ⟨i_lo _, i_hi _⟩
            have hF := hF.si (c := 99) (k := 1) (v := v37) rfl
            have hK_MS := sp_sgD sp_MS hD hK_MS (by decide)
            have hK_UI := sp_sgD sp_UI hD hK_UI (by decide)
            have hK_CW := sp_sgD sp_CW hD hK_CW (by decide)
            have hK_BI := sp_sgD sp_BI hD hK_BI (by decide)
            have hK_BLI := sp_sgD sp_BLI hD hK_BLI (by decide)
            have hK_AP := sp_sgD sp_AP hD hK_AP (by decide)
            have hK_AU := sp_sgD sp_AU hD hK_AU (by decide)
            have hK_AB := sp_sgD sp_AB hD hK_AB (by decide)
            have hK_BG := sp_sgD sp_BG hD hK_BG (by decide)
            have hK_DR := sp_sgD (sp_dl 85 _ _) hD hK_DR (by decide)
            have hK_i_HX := sp_sgD (sp_imp sp_HX) hD hK_i_HX (by decide)
            exact L160 x2 x3 _ _ _ _ hR hF hK_MS hK_UI hK_CW hK_BI hK_BLI hK_AP hK_AU hK_AB hK_BG hK_DR hK_i_HX (by omega) (by omega) (by omega) (i_trB (hF35 85 0 rfl) (by omega : (0 : Int) ≤ (u.1 85 0).toInt ∧ (u.1 85 0).toInt ≤ 0)) (i_trB (hF35 85 11 rfl) (by omega : (0 : Int) ≤ (u.1 85 11).toInt ∧ (u.1 85 11).toInt ≤ 0)) (i_trB (hF35 85 35 rfl) (by omega : (1 : Int) ≤ (u.1 85 35).toInt ∧ (u.1 85 35).toInt ≤ 40)) (by omega : (0 : Int) ≤ r35.toInt ∧ r35.toInt ≤ 6) (by omega) hC hP hD hS (lv_sub hl [0, 1, 2, 3] rfl)
          · have hC := hC.trans (if_neg (by omega))
            refine lv_iload_n F.1 F.2.1 dX12_daybook_145 rfl (lv_at hl 3 rfl) ?_
            refine lv_istore_n (lv' := [(2, .int x3), (0, .ref (ad 85)), (1, .int p0), (3, .int x3)]) F.1 F.2.1 dX12_daybook_146 rfl hl (by decide) rfl (fun ls hl => ?_)
            refine lv_goto (tgt := 160) F.1 F.2.1 dX12_daybook_147 (by decide) ?_
            exact L160 x3 x3 _ _ _ _ hR hF hK_MS hK_UI hK_CW hK_BI hK_BLI hK_AP hK_AU hK_AB hK_BG hK_DR hK_i_HX (by omega) (by omega) (by omega) (i_trB (hF35 85 0 rfl) (by omega : (0 : Int) ≤ (u.1 85 0).toInt ∧ (u.1 85 0).toInt ≤ 0)) (i_trB (hF35 85 11 rfl) (by omega : (0 : Int) ≤ (u.1 85 11).toInt ∧ (u.1 85 11).toInt ≤ 0)) (i_trB (hF35 85 35 rfl) (by omega : (1 : Int) ≤ (u.1 85 35).toInt ∧ (u.1 85 35).toInt ≤ 40)) (by omega : (0 : Int) ≤ r35.toInt ∧ r35.toInt ≤ 6) (by omega) hC hP hD hS (lv_sub hl [1, 2, 0, 3] rfl)
  have L89 : ∀ (n89 : Nat) (x2 : Int32) (u : ac_U) (H : Heap) (locs : List Loc) (ls : Array Slot), ac_R rg u → ac_Fr [(85, some 0), (85, some 2), (85, some 3), (85, some 4), (85, some 5), (85, some 11), (85, some 12), (85, some 13), (85, some 14), (85, some 15), (85, some 16), (85, some 18), (85, some 24), (85, some 35), (85, some 37), (87, none), (89, none), (93, none), (94, none), (99, none)] u0 u → 4 - x2.toInt < (n89 : Int) → msI u → unI u → cdI u → bfI u → blI u → apI u → auI u → abI u → bgI u → (dlI 85 u0 p0.toInt) u → (fun u => hxI u0 → hxI u) u → (0 : Int) ≤ p0.toInt ∧ p0.toInt ≤ 1 → (0 : Int) ≤ x2.toInt ∧ x2.toInt ≤ 4 → (0 : Int) ≤ (u.1 85 0).toInt ∧ (u.1 85 0).toInt ≤ 0 → (0 : Int) ≤ (u.1 85 11).toInt ∧ (u.1 85 11).toInt ≤ 0 → RR = (K_X12_daybook_85_89 u0 p0 n89 u x2) → va_P (dC, dI) vwCl (ac_w ad cA (TT nF) u) H → va_D A (ac_w ad cA (TT nF) u) → va_S A s.heap H locs → lv_has ls 4 [(0, .ref (ad 85)), (1, .int p0), (2, .int x2)] → W p l e (ac_rm 8) s m [.ref (ad 85), .int p0].toArray below meth c H locs 0 0 (MQ below (va_Qi (fun (r : Int32) (u : ac_U) => ac_R rg u ∧ ac_Fr [(85, some 0), (85, some 2), (85, some 3), (85, some 4), (85, some 5), (85, some 11), (85, some 12), (85, some 13), (85, some 14), (85, some 15), (85, some 16), (85, some 18), (85, some 24), (85, some 35), (85, some 37), (87, none), (89, none), (93, none), (94, none), (99, none)] u0 u ∧ msI u ∧ unI u ∧ cdI u ∧ apI u ∧ auI u ∧ (dlI 85 u0 p0.toInt) u ∧ (hxI u0 → hxI u) ∧ f_X12_daybook_85 u0 p0 = (u, r)) (ac_B (dC, dI) vwCl (ac_ty cA) ad cA (TT nF) A) A) [.ref (ad 85), .int p0].toArray s 0 0 A) (F0 m 89 ls []) := by
    intro n89
    induction n89 with
    | zero => intro x2 u H locs ls hR hF hn89 hK_MS hK_UI hK_CW hK_BI hK_BLI hK_AP hK_AU hK_AB hK_BG hK_DR hK_i_HX f0 f1 f2 f3 hC hP hD hS hl; exfalso; omega
    | succ n89 ih89 =>
      intro x2 u H locs ls hR hF hn89 hK_MS hK_UI hK_CW hK_BI hK_BLI hK_AP hK_AU hK_AB hK_BG hK_DR hK_i_HX f0 f1 f2 f3 hC hP hD hS hl
      have hC : RR = K_X12_daybook_85_89_b (K_X12_daybook_85_89 u0 p0 n89) u0 p0 u x2 := hC
      unfold K_X12_daybook_85_89_b at hC
      refine lv_iload_n F.1 F.2.1 dX12_daybook_89 rfl (lv_at hl 2 rfl) ?_
      refine a_ic F (4 : Int32) dX12_daybook_90 (by decide) ?_
      refine b_ge F 107 dX12_daybook_91 (by decide) rfl ic_4 (fun c38 => ?_) (fun c38 => ?_)
      · have hC := hC.trans (if_pos c38)
        refine a_ic F (-1 : Int32) dX12_daybook_107 (by decide) ?_
        refine lv_istore_n (lv' := [(2, .int (-1 : Int32)), (0, .ref (ad 85)), (1, .int p0)]) F.1 F.2.1 dX12_daybook_108 rfl hl (by decide) rfl (fun ls hl => ?_)
        refine a_ic F (0 : Int32) dX12_daybook_109 (by decide) ?_
        refine lv_istore_n (lv' := [(3, .int (0 : Int32)), (2, .int (-1 : Int32)), (0, .ref (ad 85)), (1, .int p0)]) F.1 F.2.1 dX12_daybook_110 rfl hl (by decide) rfl (fun ls hl => ?_)
        have g39 : (0 : Int) ≤ (u.1 85 0).toInt ∧ (u.1 85 0).toInt ≤ 1 := hR 85 0
        have g40 : (0 : Int) ≤ (u.1 85 11).toInt ∧ (u.1 85 11).toInt ≤ 4 := hR 85 11
        exact L111 42 (-1 : Int32) (0 : Int32) _ _ _ _ hR hF (by decide) hK_MS hK_UI hK_CW hK_BI hK_BLI hK_AP hK_AU hK_AB hK_BG hK_DR hK_i_HX (by omega) (by decide) (by decide) (by omega : (0 : Int) ≤ (u.1 85 0).toInt ∧ (u.1 85 0).toInt ≤ 0) (by omega : (0 : Int) ≤ (u.1 85 11).toInt ∧ (u.1 85 11).toInt ≤ 0) hC hP hD hS (lv_sub hl [2, 3, 1, 0] rfl)
      · have hC := hC.trans (if_neg (by omega))
        refine lv_aload_n F.1 F.2.1 dX12_daybook_94 rfl (lv_at hl 0 rfl) ?_
        refine a_getr F inX12 hP 85 36 tc_85 rfl rfl (by decide) q1507 (fun _ h9 => h9) dX12_daybook_95 ?_
        refine lv_iload_n F.1 F.2.1 dX12_daybook_98 rfl (lv_at hl 2 rfl) ?_
        refine a_ic F (0 : Int32) dX12_daybook_99 (by decide) ?_
        refine a_iast F hP hD hS 99 tc_99 rfl (i_in rfl (by omega)) dX12_daybook_100 (fun H locs hP hD hS => ?_)
        have hR := hR.si (c := 99) (k := x2.toNatClampNeg) (v := (0 : Int32)) ⟨i_lo _, i_hi _⟩
        have hF := hF.si (c := 99) (k := x2.toNatClampNeg) (v := (0 : Int32)) rfl
        have hK_MS := sp_sgD sp_MS hD hK_MS (by decide)
        have hK_UI := sp_sgD sp_UI hD hK_UI (by decide)
        have hK_CW := sp_sgD sp_CW hD hK_CW (by decide)
        have hK_BI := sp_sgD sp_BI hD hK_BI (by decide)
        have hK_BLI := sp_sgD sp_BLI hD hK_BLI (by decide)
        have hK_AP := sp_sgD sp_AP hD hK_AP (by decide)
        have hK_AU := sp_sgD sp_AU hD hK_AU (by decide)
        have hK_AB := sp_sgD sp_AB hD hK_AB (by decide)
        have hK_BG := sp_sgD sp_BG hD hK_BG (by decide)
        have hK_DR := sp_sgD (sp_dl 85 _ _) hD hK_DR (by decide)
        have hK_i_HX := sp_sgD (sp_imp sp_HX) hD hK_i_HX (by decide)
        refine a_iincX F (k := 2) (fun v41 => [(2, .int v41), (0, .ref (ad 85)), (1, .int p0)]) dX12_daybook_101 hl rfl rfl (by decide) (by omega) (by decide) (fun _ => rfl) (fun v41 ls hv41 yv41 hl => ?_)
        have hC := vl_eq hC yv41
        refine lv_goto (tgt := 89) F.1 F.2.1 dX12_daybook_104 (by decide) ?_
        have g42 : (0 : Int) ≤ (u.1 85 0).toInt ∧ (u.1 85 0).toInt ≤ 1 := hR 85 0
        have g43 : (0 : Int) ≤ (u.1 85 11).toInt ∧ (u.1 85 11).toInt ≤ 4 := hR 85 11
        exact ih89 v41 _ _ _ _ hR hF (by omega) hK_MS hK_UI hK_CW hK_BI hK_BLI hK_AP hK_AU hK_AB hK_BG hK_DR hK_i_HX (by omega) (by omega) (by omega : (0 : Int) ≤ (u.1 85 0).toInt ∧ (u.1 85 0).toInt ≤ 0) (by omega : (0 : Int) ≤ (u.1 85 11).toInt ∧ (u.1 85 11).toInt ≤ 0) hC hP hD hS (lv_sub hl [1, 2, 0] rfl)
  have L62 : ∀ (u : ac_U) (H : Heap) (locs : List Loc) (ls : Array Slot), ac_R rg u → ac_Fr [(85, some 0), (85, some 2), (85, some 3), (85, some 4), (85, some 5), (85, some 11), (85, some 12), (85, some 13), (85, some 14), (85, some 15), (85, some 16), (85, some 18), (85, some 24), (85, some 35), (85, some 37), (87, none), (89, none), (93, none), (94, none), (99, none)] u0 u → msI u → unI u → cdI u → apI u → auI u → (dlI 85 u0 p0.toInt) u → (fun u => hxI u0 → hxI u) u → (0 : Int) ≤ (u.1 85 0).toInt ∧ (u.1 85 0).toInt ≤ 0 → RR = (K_X12_daybook_85_62 u0 p0 u) → va_P (dC, dI) vwCl (ac_w ad cA (TT nF) u) H → va_D A (ac_w ad cA (TT nF) u) → va_S A s.heap H locs → lv_has ls 4 [(0, .ref (ad 85))] → W p l e (ac_rm 8) s m [.ref (ad 85), .int p0].toArray below meth c H locs 0 0 (MQ below (va_Qi (fun (r : Int32) (u : ac_U) => ac_R rg u ∧ ac_Fr [(85, some 0), (85, some 2), (85, some 3), (85, some 4), (85, some 5), (85, some 11), (85, some 12), (85, some 13), (85, some 14), (85, some 15), (85, some 16), (85, some 18), (85, some 24), (85, some 35), (85, some 37), (87, none), (89, none), (93, none), (94, none), (99, none)] u0 u ∧ msI u ∧ unI u ∧ cdI u ∧ apI u ∧ auI u ∧ (dlI 85 u0 p0.toInt) u ∧ (hxI u0 → hxI u) ∧ f_X12_daybook_85 u0 p0 = (u, r)) (ac_B (dC, dI) vwCl (ac_ty cA) ad cA (TT nF) A) A) [.ref (ad 85), .int p0].toArray s 0 0 A) (F0 m 62 ls []) := by
    intro u H locs ls hR hF hK_MS hK_UI hK_CW hK_AP hK_AU hK_DR hK_i_HX f0 hC hP hD hS hl
    unfold K_X12_daybook_85_62 at hC
    refine a_bp F (-2 : Int32) dX12_daybook_62 (by decide) ?_
    refine lv_aload_n F.1 F.2.1 dX12_daybook_64 rfl (lv_at hl 0 rfl) ?_
    refine a_geti F inX12 hP 85 16 tc_85 rfl rfl (by decide) q1487 (fun _ h9 => h9) (v := (u.1 85 16)) rfl dX12_daybook_65 ?_
    refine a_isubUX F dX12_daybook_68 (fun v44 yv44 => ?_)
    have hC := vl_eq hC yv44
    exact a_reti F hr hlocks hP hD hS dX12_daybook_69 ⟨hR, hF, hK_MS, hK_UI, hK_CW, hK_AP, hK_AU, hK_DR, hK_i_HX, hRR.symm.trans hC⟩
  have L39 : ∀ (n39 : Nat) (u : ac_U) (H : Heap) (locs : List Loc) (ls : Array Slot), ac_R rg u → ac_Fr [(85, some 0), (85, some 2), (85, some 3), (85, some 4), (85, some 5), (85, some 11), (85, some 12), (85, some 13), (85, some 14), (85, some 15), (85, some 16), (85, some 18), (85, some 24), (85, some 35), (85, some 37), (87, none), (89, none), (93, none), (94, none), (99, none)] u0 u → 41 - (u.1 85 35).toInt < (n39 : Int) → msI u → unI u → cdI u → blI u → apI u → auI u → bgI u → (dlI 85 u0 p0.toInt) u → (fun u => hxI u0 → hxI u) u → (0 : Int) ≤ p0.toInt ∧ p0.toInt ≤ 1 → (0 : Int) ≤ (u.1 85 0).toInt ∧ (u.1 85 0).toInt ≤ 0 → (0 : Int) ≤ (u.1 85 35).toInt ∧ (u.1 85 35).toInt ≤ 40 → RR = (K_X12_daybook_85_39 u0 p0 n39 u) → va_P (dC, dI) vwCl (ac_w ad cA (TT nF) u) H → va_D A (ac_w ad cA (TT nF) u) → va_S A s.heap H locs → lv_has ls 4 [(0, .ref (ad 85)), (1, .int p0)] → W p l e (ac_rm 8) s m [.ref (ad 85), .int p0].toArray below meth c H locs 0 0 (MQ below (va_Qi (fun (r : Int32) (u : ac_U) => ac_R rg u ∧ ac_Fr [(85, some 0), (85, some 2), (85, some 3), (85, some 4), (85, some 5), (85, some 11), (85, some 12), (85, some 13), (85, some 14), (85, some 15), (85, some 16), (85, some 18), (85, some 24), (85, some 35), (85, some 37), (87, none), (89, none), (93, none), (94, none), (99, none)] u0 u ∧ msI u ∧ unI u ∧ cdI u ∧ apI u ∧ auI u ∧ (dlI 85 u0 p0.toInt) u ∧ (hxI u0 → hxI u) ∧ f_X12_daybook_85 u0 p0 = (u, r)) (ac_B (dC, dI) vwCl (ac_ty cA) ad cA (TT nF) A) A) [.ref (ad 85), .int p0].toArray s 0 0 A) (F0 m 39 ls []) := by
    intro n39
    induction n39 with
    | zero => intro u H locs ls hR hF hn39 hK_MS hK_UI hK_CW hK_BLI hK_AP hK_AU hK_BG hK_DR hK_i_HX f0 f1 f2 hC hP hD hS hl; have gz0 : (0 : Int) ≤ (u.1 85 35).toInt ∧ (u.1 85 35).toInt ≤ 40 := hR 85 35; exfalso; omega
    | succ n39 ih39 =>
      intro u H locs ls hR hF hn39 hK_MS hK_UI hK_CW hK_BLI hK_AP hK_AU hK_BG hK_DR hK_i_HX f0 f1 f2 hC hP hD hS hl
      have hC : RR = K_X12_daybook_85_39_b (K_X12_daybook_85_39 u0 p0 n39) u0 p0 u := hC
      unfold K_X12_daybook_85_39_b at hC
      refine lv_aload_n F.1 F.2.1 dX12_daybook_39 rfl (lv_at hl 0 rfl) ?_
      have g45 : (0 : Int) ≤ (u.1 85 11).toInt ∧ (u.1 85 11).toInt ≤ 4 := hR 85 11
      refine a_geti F inX12 hP 85 11 tc_85 rfl rfl (by decide) q1482 (fun _ h9 => h9) (v := (u.1 85 11)) rfl dX12_daybook_40 ?_
      refine z_eq F 83 dX12_daybook_43 (by decide) rfl (fun c46 => ?_) (fun c46 => ?_)
      · have hC := hC.trans (if_pos c46)
        refine lv_aload_n F.1 F.2.1 dX12_daybook_83 rfl (lv_at hl 0 rfl) ?_
        have g48 : (0 : Int) ≤ (u.1 85 35).toInt ∧ (u.1 85 35).toInt ≤ 40 := hR 85 35
        refine a_Vv F hml hl.1 hA hP hD hS (As := []) (x_X12_tries_85 l dC dI ad cA nF _  hR hK_MS hK_AP) (cs_RX12_392 (d := 1) F.2.2.1 (by decide)) tc_85 rfl rfl rfl rfl (Nat.le_of_ble_eq_true rfl) dX12_daybook_84 ⟨Nat.le_refl 0, Nat.le_refl 0⟩ (fun u47 H locs hq hP hD hS => ?_)
        obtain ⟨hR, hF47, hK_BI, hK_AB, hz47⟩ := hq
        have hF := hF.tr hF47 (by decide)
        have hK_MS := sp_fr sp_MS hF47 (by decide) hK_MS
        have hK_UI := sp_fr sp_UI hF47 (by decide) hK_UI
        have hK_CW := sp_fr sp_CW hF47 (by decide) hK_CW
        have hK_BLI := sp_fr sp_BLI hF47 (by decide) hK_BLI
        have hK_AP := sp_fr sp_AP hF47 (by decide) hK_AP
        have hK_AU := sp_fr sp_AU hF47 (by decide) hK_AU
        have hK_BG := sp_fr sp_BG hF47 (by decide) hK_BG
        have hK_DR := sp_fr (sp_dl 85 _ _) hF47 (by decide) hK_DR
        have hK_i_HX := sp_fr (sp_imp sp_HX) hF47 (by decide) hK_i_HX
        have hC := vl_eq hC hz47.symm
        refine a_ic F (0 : Int32) dX12_daybook_87 (by decide) ?_
        refine lv_istore_n (lv' := [(2, .int (0 : Int32)), (0, .ref (ad 85)), (1, .int p0)]) F.1 F.2.1 dX12_daybook_88 rfl hl (by decide) rfl (fun ls hl => ?_)
        exact L89 6 (0 : Int32) _ _ _ _ hR hF (by decide) hK_MS hK_UI hK_CW hK_BI hK_BLI hK_AP hK_AU hK_AB hK_BG hK_DR hK_i_HX (by omega) (by decide) (i_trB (hF47 85 0 rfl) (by omega : (0 : Int) ≤ (u.1 85 0).toInt ∧ (u.1 85 0).toInt ≤ 0)) (i_trB (hF47 85 11 rfl) (by omega : (0 : Int) ≤ (u.1 85 11).toInt ∧ (u.1 85 11).toInt ≤ 0)) hC hP hD hS (lv_sub hl [1, 2, 0] rfl)
      · have hC := hC.trans (if_neg (by omega))
        refine lv_aload_n F.1 F.2.1 dX12_daybook_46 rfl (lv_at hl 0 rfl) ?_
        have g50 : (0 : Int) ≤ (u.1 85 35).toInt ∧ (u.1 85 35).toInt ≤ 40 := hR 85 35
        refine a_Vi F hml hl.1 hA hP hD hS (As := []) (x_X12_bookLine_85 l dC dI ad cA nF _  hR hK_BLI hK_BG) (cs_RX12_401 (d := 4) F.2.2.1 (by decide)) tc_85 rfl rfl rfl rfl (Nat.le_of_ble_eq_true rfl) dX12_daybook_47 ⟨Nat.le_refl 0, Nat.le_refl 0⟩ (fun r49 u49 H locs hq hP hD hS => ?_)
        obtain ⟨hR, hF49, gr49, xr49, hK_r49_BLJ, hK_r49_BH, hz49⟩ := hq
        have hF := hF.tr hF49 (by decide)
        have hK_MS := sp_fr sp_MS hF49 (by decide) hK_MS
        have hK_UI := sp_fr sp_UI hF49 (by decide) hK_UI
        have hK_CW := sp_fr sp_CW hF49 (by decide) hK_CW
        have hK_AP := sp_fr sp_AP hF49 (by decide) hK_AP
        have hK_AU := sp_fr sp_AU hF49 (by decide) hK_AU
        have hK_DR := sp_fr (sp_dl 85 _ _) hF49 (by decide) hK_DR
        have hK_i_HX := sp_fr (sp_imp sp_HX) hF49 (by decide) hK_i_HX
        have k51 : (u49.1 85 35).toInt = (u.1 85 35).toInt := congrArg Int32.toInt (show u49.1 85 35 = (u.1 85 35) from hF49 85 35 rfl)
        have xr49 : r49.toInt ≠ 0 → (u49.1 85 35).toInt ≤ 39 := xr49
        have hC := bd_eq hC hz49
        refine z_eq F 62 dX12_daybook_50 (by decide) rfl (fun c52 => ?_) (fun c52 => ?_)
        · have hC := hC.trans (if_pos c52)
          exact L62 _ _ _ _ hR hF hK_MS hK_UI hK_CW hK_AP hK_AU hK_DR hK_i_HX (i_trB (hF49 85 0 rfl) (by omega : (0 : Int) ≤ (u.1 85 0).toInt ∧ (u.1 85 0).toInt ≤ 0)) hC hP hD hS (lv_sub hl [0] rfl)
        · have hC := hC.trans (if_neg (by omega))
          have hK_BLJ := hK_r49_BLJ (by omega)
          have hK_BH := hK_r49_BH (by omega)
          refine lv_aload_n F.1 F.2.1 dX12_daybook_53 rfl (lv_at hl 0 rfl) ?_
          refine a_bp F (59 : Int32) dX12_daybook_54 (by decide) ?_
          refine a_Vi F hml hl.1 hA hP hD hS (As := [.int (59 : Int32)]) (x_X12_sign_85 l dC dI ad cA nF _ (59 : Int32) hR (by decide)) (cs_RX12_238 (d := 3) F.2.2.1 (by decide)) tc_85 rfl rfl rfl rfl (Nat.le_of_ble_eq_true rfl) dX12_daybook_56 ⟨Nat.le_refl 0, Nat.le_refl 0⟩ (fun r53 u53 H locs hq hP hD hS => ?_)
          obtain ⟨hR, hF53, gr53, hz53⟩ := hq
          have hF := hF.tr hF53 (by decide)
          have hK_MS := sp_fr sp_MS hF53 (by decide) hK_MS
          have hK_UI := sp_fr sp_UI hF53 (by decide) hK_UI
          have hK_CW := sp_fr sp_CW hF53 (by decide) hK_CW
          have hK_AP := sp_fr sp_AP hF53 (by decide) hK_AP
          have hK_AU := sp_fr sp_AU hF53 (by decide) hK_AU
          have hK_DR := sp_fr (sp_dl 85 _ _) hF53 (by decide) hK_DR
          have hK_i_HX := sp_fr (sp_imp sp_HX) hF53 (by decide) hK_i_HX
          have hK_r49_BLJ := sp_fr (sp_imp sp_BLJ) hF53 (by decide) hK_r49_BLJ
          have hK_r49_BH := sp_fr (sp_imp sp_BH) hF53 (by decide) hK_r49_BH
          have hK_BLJ := sp_fr sp_BLJ hF53 (by decide) hK_BLJ
          have hK_BH := sp_fr sp_BH hF53 (by decide) hK_BH
          have hC := bd_eq hC hz53
          refine z_ne F 70 dX12_daybook_59 (by decide) rfl (fun c54 => ?_) (fun c54 => ?_)
          · have hC := hC.trans (if_pos c54)
            refine lv_aload_n F.1 F.2.1 dX12_daybook_70 rfl (lv_at hl 0 rfl) ?_
            refine lv_dup F.1 F.2.1 dX12_daybook_71 rfl ?_
            refine a_geti F inX12 hP 85 35 tc_85 rfl rfl (by decide) q1506 (fun _ h9 => h9) (v := (u.1 85 35)) ((hF53 85 35 rfl).trans (hF49 85 35 rfl)) dX12_daybook_72 ?_
            refine a_ic F (1 : Int32) dX12_daybook_75 (by decide) ?_
            refine a_iaddX F dX12_daybook_76 rfl ic_1 (by omega) (fun v55 hv55 yv55 => ?_)
            have hC := vl_eq hC yv55
            refine a_puti F inX12 tyX12 tyX12_ok nmX12 hP hD hS 85 35 tc_85 rfl rfl (by decide) q1506 (fun _ h9 => h9) rfl (ty := .int) (tyX12_ok 35 (by decide)) rfl rfl dX12_daybook_77 (fun H locs hP hD hS => ?_)
            have hR := hR.si (c := 85) (k := 35) (v := v55) (by omega : (0 : Int) ≤ v55.toInt ∧ v55.toInt ≤ 40)
            have hF := hF.si (c := 85) (k := 35) (v := v55) rfl
            have hO_MS := hK_MS
            have hO_UI := hK_UI
            have hO_CW := hK_CW
            have hO_AP := hK_AP
            have hO_AU := hK_AU
            have hO_DR := hK_DR
            have hO_i_HX := hK_i_HX
            have hO_r49_BLJ := hK_r49_BLJ
            have hO_r49_BH := hK_r49_BH
            have hO_BLJ := hK_BLJ
            have hO_BH := hK_BH
            have hN_BLI := bl_s hO_BLJ (i := (u.1 85 35)) (v := v55) ((hF53 85 35 rfl).trans (hF49 85 35 rfl)) (by omega)
            have hN_BG := bg_s hO_BH (i := (u.1 85 35)) (v := v55) ((hF53 85 35 rfl).trans (hF49 85 35 rfl)) (by omega)
            have hK_MS := sp_sgD sp_MS hD hK_MS (by decide)
            have hK_UI := sp_si sp_UI hK_UI (c := 85) (k := 35) (v := v55) (fun j9 h9 q9 => by rw [q9] at h9; exact absurd h9 (by decide))
            have hK_CW := sp_sgD sp_CW hD hK_CW (by decide)
            have hK_AP := sp_sgD sp_AP hD hK_AP (by decide)
            have hK_AU := sp_si sp_AU hK_AU (c := 85) (k := 35) (v := v55) (fun j9 h9 q9 => by rw [q9] at h9; exact absurd h9 (by decide))
            have hK_DR := sp_si (sp_dl 85 _ _) hK_DR (c := 85) (k := 35) (v := v55) (fun j9 h9 q9 => by rw [q9] at h9; exact absurd h9 (by decide))
            have hK_i_HX := sp_sgD (sp_imp sp_HX) hD hK_i_HX (by decide)
            have hK_BLI := hN_BLI
            have hK_BG := hN_BG
            refine lv_goto (tgt := 39) F.1 F.2.1 dX12_daybook_80 (by decide) ?_
            exact ih39 _ _ _ _ hR hF (by omega : 41 - v55.toInt < ((n39 : Nat) : Int)) hK_MS hK_UI hK_CW hK_BLI hK_AP hK_AU hK_BG hK_DR hK_i_HX (by omega) (i_trB ((hF53 85 0 rfl).trans (hF49 85 0 rfl)) (by omega : (0 : Int) ≤ (u.1 85 0).toInt ∧ (u.1 85 0).toInt ≤ 0)) (by omega : (0 : Int) ≤ v55.toInt ∧ v55.toInt ≤ 40) hC hP hD hS (lv_sub hl [0, 1] rfl)
          · have hC := hC.trans (if_neg (by omega))
            exact L62 _ _ _ _ hR hF hK_MS hK_UI hK_CW hK_AP hK_AU hK_DR hK_i_HX (i_trB ((hF53 85 0 rfl).trans (hF49 85 0 rfl)) (by omega : (0 : Int) ≤ (u.1 85 0).toInt ∧ (u.1 85 0).toInt ≤ 0)) hC hP hD hS (lv_sub hl [0] rfl)
  have hC : RR = f_X12_daybook_85 u0 p0 := hRR
  unfold f_X12_daybook_85 at hC
  refine lv_aload_n F.1 F.2.1 dX12_daybook_0 rfl (lv_at hl 0 rfl) ?_
  refine a_ic F (0 : Int32) dX12_daybook_1 (by decide) ?_
  refine a_puti F inX12 tyX12 tyX12_ok nmX12 hP hD hS 85 0 tc_85 rfl rfl (by decide) q1471 (fun _ h9 => h9) rfl (ty := .int) (tyX12_ok 0 (by decide)) rfl rfl dX12_daybook_2 (fun H locs hP hD hS => ?_)
  have hR := hR.si (c := 85) (k := 0) (v := (0 : Int32)) (by rw [ic_0]; exact (by omega : (0 : Int) ≤ (0 : Int) ∧ (0 : Int) ≤ 1))
  have hF := hF.si (c := 85) (k := 0) (v := (0 : Int32)) rfl
  have hK_MS := sp_sgD sp_MS hD hK_MS (by decide)
  have hK_UI := sp_si sp_UI hK_UI (c := 85) (k := 0) (v := (0 : Int32)) (fun j9 h9 q9 => by rw [q9] at h9; exact absurd h9 (by decide))
  have hK_CW := sp_sgD sp_CW hD hK_CW (by decide)
  have hK_AP := sp_sgD sp_AP hD hK_AP (by decide)
  have hK_AU := sp_si sp_AU hK_AU (c := 85) (k := 0) (v := (0 : Int32)) (fun j9 h9 q9 => by rw [q9] at h9; exact absurd h9 (by decide))
  have hK_i_HX := sp_sgD (sp_imp sp_HX) hD hK_i_HX (by decide)
  refine lv_iload_n F.1 F.2.1 dX12_daybook_5 rfl (lv_at hl 1 rfl) ?_
  refine a_ic F (0 : Int32) dX12_daybook_6 (by decide) ?_
  refine a_ic F (1 : Int32) dX12_daybook_7 (by decide) ?_
  refine a_Si F hml hl.1 hA hP hD hS (As := [.int p0, .int (0 : Int32), .int (1 : Int32)]) (x_X12_isIn_f l dC dI ad cA nF _ p0 (0 : Int32) (1 : Int32) hR (by decide)) (cs_RX12_187 (d := 1) F.2.2.1 (by decide)) rfl rfl (Nat.le_of_ble_eq_true rfl) dX12_daybook_8 ⟨Nat.le_refl 0, Nat.le_refl 0⟩ (fun r56 uN56 H locs hq hP hD hS => ?_)
  obtain ⟨hu56, gr56, xr56, hz56⟩ := hq
  rw [hu56] at hP hD
  have xr56 : (r56.toInt ≠ 0 → (0 : Int) ≤ p0.toInt ∧ p0.toInt ≤ (1 : Int)) ∧ (r56.toInt = 0 → p0.toInt < (0 : Int) ∨ (1 : Int) < p0.toInt) := xr56
  have hC := vl_eq hC hz56.symm
  refine z_ne F 18 dX12_daybook_11 (by decide) rfl (fun c57 => ?_) (fun c57 => ?_)
  · have hC := hC.trans (if_pos c57)
    refine lv_aload_n F.1 F.2.1 dX12_daybook_18 rfl (lv_at hl 0 rfl) ?_
    refine a_sp F (500 : Int32) dX12_daybook_19 (by decide) ?_
    have hP_MS := hK_MS
    have hP_UI := hK_UI
    have hP_CW := hK_CW
    have hP_AP := hK_AP
    have hP_AU := hK_AU
    have hP_i_HX := hK_i_HX
    have g59 : (0 : Int) ≤ (u0.1 85 35).toInt ∧ (u0.1 85 35).toInt ≤ 40 := hR 85 35
    refine a_Vv F hml hl.1 hA hP hD hS (As := [.int (500 : Int32)]) (x_X12_taken_85 l dC dI ad cA nF _ (500 : Int32) hR (by decide)) (cs_RX12_229 (d := 1) F.2.2.1 (by decide)) tc_85 rfl rfl rfl rfl (Nat.le_of_ble_eq_true rfl) dX12_daybook_22 ⟨Nat.le_refl 0, Nat.le_refl 0⟩ (fun u58 H locs hq hP hD hS => ?_)
    obtain ⟨hR, hF58, hK_LR, hz58⟩ := hq
    have hF := hF.tr hF58 (by decide)
    have hK_MS := sp_fr sp_MS hF58 (by decide) hK_MS
    have hK_UI := sp_fr sp_UI hF58 (by decide) hK_UI
    have hK_CW := sp_fr sp_CW hF58 (by decide) hK_CW
    have hK_AP := sp_fr sp_AP hF58 (by decide) hK_AP
    have hK_AU := sp_fr sp_AU hF58 (by decide) hK_AU
    have hK_i_HX := sp_fr (sp_imp sp_HX) hF58 (by decide) hK_i_HX
    have hK_DR := dl_0 (p := p0.toInt) (u0 := u0) (by omega) hK_LR
    have hC := vl_eq hC hz58.symm
    refine lv_aload_n F.1 F.2.1 dX12_daybook_25 rfl (lv_at hl 0 rfl) ?_
    refine a_ic F (0 : Int32) dX12_daybook_26 (by decide) ?_
    refine a_puti F inX12 tyX12 tyX12_ok nmX12 hP hD hS 85 15 tc_85 rfl rfl (by decide) q1486 (fun _ h9 => h9) rfl (ty := .int) (tyX12_ok 15 (by decide)) rfl rfl dX12_daybook_27 (fun H locs hP hD hS => ?_)
    have hR := hR.si (c := 85) (k := 15) (v := (0 : Int32)) ⟨i_lo _, i_hi _⟩
    have hF := hF.si (c := 85) (k := 15) (v := (0 : Int32)) rfl
    have hK_MS := sp_sgD sp_MS hD hK_MS (by decide)
    have hK_UI := sp_si sp_UI hK_UI (c := 85) (k := 15) (v := (0 : Int32)) (fun j9 h9 q9 => by rw [q9] at h9; exact absurd h9 (by decide))
    have hK_CW := sp_sgD sp_CW hD hK_CW (by decide)
    have hK_AP := sp_sgD sp_AP hD hK_AP (by decide)
    have hK_AU := sp_si sp_AU hK_AU (c := 85) (k := 15) (v := (0 : Int32)) (fun j9 h9 q9 => by rw [q9] at h9; exact absurd h9 (by decide))
    have hK_i_HX := sp_sgD (sp_imp sp_HX) hD hK_i_HX (by decide)
    have hK_LR := sp_si (sp_ln0 85) hK_LR (c := 85) (k := 15) (v := (0 : Int32)) (fun j9 h9 q9 => by rw [q9] at h9; exact absurd h9 (by decide))
    have hK_DR := sp_si (sp_dl 85 _ _) hK_DR (c := 85) (k := 15) (v := (0 : Int32)) (fun j9 h9 q9 => by rw [q9] at h9; exact absurd h9 (by decide))
    refine lv_aload_n F.1 F.2.1 dX12_daybook_30 rfl (lv_at hl 0 rfl) ?_
    refine a_ic F (0 : Int32) dX12_daybook_31 (by decide) ?_
    refine a_puti F inX12 tyX12 tyX12_ok nmX12 hP hD hS 85 35 tc_85 rfl rfl (by decide) q1506 (fun _ h9 => h9) rfl (ty := .int) (tyX12_ok 35 (by decide)) rfl rfl dX12_daybook_32 (fun H locs hP hD hS => ?_)
    have hR := hR.si (c := 85) (k := 35) (v := (0 : Int32)) (by rw [ic_0]; exact (by omega : (0 : Int) ≤ (0 : Int) ∧ (0 : Int) ≤ 40))
    have hF := hF.si (c := 85) (k := 35) (v := (0 : Int32)) rfl
    have hN_BLI := bl_0D hD (by decide)
    have hN_BG := bg_0D hD (by decide)
    have hK_MS := sp_sgD sp_MS hD hK_MS (by decide)
    have hK_UI := sp_si sp_UI hK_UI (c := 85) (k := 35) (v := (0 : Int32)) (fun j9 h9 q9 => by rw [q9] at h9; exact absurd h9 (by decide))
    have hK_CW := sp_sgD sp_CW hD hK_CW (by decide)
    have hK_AP := sp_sgD sp_AP hD hK_AP (by decide)
    have hK_AU := sp_si sp_AU hK_AU (c := 85) (k := 35) (v := (0 : Int32)) (fun j9 h9 q9 => by rw [q9] at h9; exact absurd h9 (by decide))
    have hK_i_HX := sp_sgD (sp_imp sp_HX) hD hK_i_HX (by decide)
    have hK_LR := sp_si (sp_ln0 85) hK_LR (c := 85) (k := 35) (v := (0 : Int32)) (fun j9 h9 q9 => by rw [q9] at h9; exact absurd h9 (by decide))
    have hK_DR := sp_si (sp_dl 85 _ _) hK_DR (c := 85) (k := 35) (v := (0 : Int32)) (fun j9 h9 q9 => by rw [q9] at h9; exact absurd h9 (by decide))
    have hK_BLI := hN_BLI
    have hK_BG := hN_BG
    refine lv_aload_n F.1 F.2.1 dX12_daybook_35 rfl (lv_at hl 0 rfl) ?_
    refine a_Vv F hml hl.1 hA hP hD hS (As := []) (x_X12_next_85 l dC dI ad cA nF _  hR) (cs_RX12_184 (d := 2) F.2.2.1 (by decide)) tc_85 rfl rfl rfl rfl (Nat.le_of_ble_eq_true rfl) dX12_daybook_36 ⟨Nat.le_refl 0, Nat.le_refl 0⟩ (fun u60 H locs hq hP hD hS => ?_)
    obtain ⟨hR, hF60, hz60⟩ := hq
    have hF := hF.tr hF60 (by decide)
    have hK_MS := sp_fr sp_MS hF60 (by decide) hK_MS
    have hK_UI := sp_fr sp_UI hF60 (by decide) hK_UI
    have hK_CW := sp_fr sp_CW hF60 (by decide) hK_CW
    have hK_AP := sp_fr sp_AP hF60 (by decide) hK_AP
    have hK_AU := sp_fr sp_AU hF60 (by decide) hK_AU
    have hK_i_HX := sp_fr (sp_imp sp_HX) hF60 (by decide) hK_i_HX
    have hK_LR := sp_fr (sp_ln0 85) hF60 (by decide) hK_LR
    have hK_DR := sp_fr (sp_dl 85 _ _) hF60 (by decide) hK_DR
    have hK_BLI := sp_fr sp_BLI hF60 (by decide) hK_BLI
    have hK_BG := sp_fr sp_BG hF60 (by decide) hK_BG
    have hC := vl_eq hC hz60.symm
    exact L39 43 _ _ _ _ hR hF (by show 41 - (u60.1 85 35).toInt < (43 : Int); rw [hF60 85 35 rfl]; exact (by omega : 41 - (0 : Int) < (43 : Int))) hK_MS hK_UI hK_CW hK_BLI hK_AP hK_AU hK_BG hK_DR hK_i_HX (by omega) (i_trB ((hF60 85 0 rfl).trans (hF58 85 0 rfl)) (by omega : (0 : Int) ≤ (0 : Int) ∧ (0 : Int) ≤ 0)) (i_trB (hF60 85 35 rfl) (by omega : (0 : Int) ≤ (0 : Int) ∧ (0 : Int) ≤ 40)) hC hP hD hS (lv_sub hl [0, 1] rfl)
  · have hC := hC.trans (if_neg (by omega))
    refine a_sp F (-1000 : Int32) dX12_daybook_14 (by decide) ?_
    exact a_reti F hr hlocks hP hD hS dX12_daybook_17 ⟨hR, hF, hK_MS, hK_UI, hK_CW, hK_AP, hK_AU, (dl_k (by omega) (by omega) rfl), hK_i_HX, hRR.symm.trans hC⟩

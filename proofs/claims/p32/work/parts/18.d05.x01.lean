def K_X10_readNext_1_181 (u0 : ac_U) (u : ac_U) (z1 : Int32) : ac_U := (vl ((u.1 1 4) + (1 : Int32)) (fun (v2 : Int32) => (pI (pI u 1 6 z1) 1 4 v2)))
def K_X10_readNext_1_145 (u0 : ac_U) (u : ac_U) : ac_U := (vl (f_X10_readRun_1 u) (fun (u3 : ac_U) => u3))
def K_X10_readNext_1_88 (u0 : ac_U) (u : ac_U) : ac_U := (if (u.1 1 4).toInt < (u.1 1 2).toInt then (vl ((pI u 1 5 (u.1 1 4)).1 2 (u.1 1 4).toNatClampNeg) (fun (v7 : Int32) => (vl (f_X10_isLetter (pI u 1 5 (u.1 1 4)) v7) (fun (r8 : Int32) => (if r8.toInt ≠ 0 then (K_X10_readNext_1_145 u0 (pI u 1 5 (u.1 1 4))) else (vl ((pI u 1 5 (u.1 1 4)).1 2 (u.1 1 4).toNatClampNeg) (fun (v10 : Int32) => (vl (f_X10_isDigit (pI u 1 5 (u.1 1 4)) v10) (fun (r11 : Int32) => (if r11.toInt = 0 then (vl ((pI u 1 5 (u.1 1 4)).1 2 (u.1 1 4).toNatClampNeg) (fun (v13 : Int32) => (vl (f_X10_isSign (pI u 1 5 (u.1 1 4)) v13) (fun (r14 : Int32) => (if r14.toInt = 0 then (K_X10_readNext_1_181 u0 (pI u 1 5 (u.1 1 4)) (1 : Int32)) else (vl ((pI u 1 5 (u.1 1 4)).1 2 (u.1 1 4).toNatClampNeg) (fun (v16 : Int32) => (K_X10_readNext_1_181 u0 (pI u 1 5 (u.1 1 4)) v16)))))))) else (K_X10_readNext_1_145 u0 (pI u 1 5 (u.1 1 4))))))))))))) else (pI (pI u 1 5 (u.1 1 4)) 1 6 (0 : Int32)))
def K_X10_readNext_1_52 (u0 : ac_U) (u : ac_U) : ac_U := (if (u.1 1 4).toInt < (u.1 1 3).toInt then (K_X10_readNext_1_88 u0 u) else (if (u.1 1 2).toInt ≤ (u.1 1 3).toInt then (K_X10_readNext_1_88 u0 u) else (pI (pI u 1 5 (u.1 1 3)) 1 6 (1 : Int32))))
def K_X10_readNext_1_39 (B0 : ac_U → ac_U) (u0 : ac_U) (u : ac_U) : ac_U := (vl ((u.1 1 4) + (1 : Int32)) (fun (v23 : Int32) => (B0 (pI u 1 4 v23))))
def K_X10_readNext_1_0_b (B0 : ac_U → ac_U) (u0 : ac_U) (u : ac_U) : ac_U := (if (u.1 1 2).toInt ≤ (u.1 1 4).toInt then (K_X10_readNext_1_52 u0 u) else (vl (u.1 2 (u.1 1 4).toNatClampNeg) (fun (v27 : Int32) => (if v27.toInt = (32 : Int) then (K_X10_readNext_1_39 B0 u0 u) else (vl (u.1 2 (u.1 1 4).toNatClampNeg) (fun (v29 : Int32) => (if v29.toInt ≠ (10 : Int) then (K_X10_readNext_1_52 u0 u) else (K_X10_readNext_1_39 B0 u0 u))))))))
def K_X10_readNext_1_0 (u0 : ac_U) : Nat → ac_U → ac_U
  | 0 => fun u => u
  | n + 1 => fun u => K_X10_readNext_1_0_b (K_X10_readNext_1_0 u0 n) u0 u
def f_X10_readNext_1 (u0 : ac_U) : ac_U := (K_X10_readNext_1_0 u0 942 u0)
set_option maxHeartbeats 600000 in
set_option maxRecDepth 100000 in
theorem x_X10_readNext_1 (l : Launch) (dC : Nat → ClassId) (dI : Nat → Nat → Nat) (ad : Nat → Nat) (cA : Nat → ClassId) (nF : Nat) (u0 : ac_U)  (hR : ac_R rg u0) : ac_Mv l yX10_readNext (.code yX10_readNext cX10_readNext 1 none :: TB) 3 (dC, dI) vwCl (ac_ty cA) ad cA (TT nF) [.ref (ad 1)] u0 (fun (u : ac_U) => ac_R rg u ∧ ac_Fr [(1, some 4), (1, some 5), (1, some 6), (1, some 8)] u0 u ∧ f_X10_readNext_1 u0 = u) := by
  refine ac_Mv.of (cc := cX10_readNext) (maxL := 1) (ret := none) (by decide) rfl (Nat.le_of_ble_eq_true rfl) ?_
  intro p e s m below meth c A ls F hml hr hlocks hA hP hD hS hl
  have F : ac_X p s m [.ref (ad 1)].toArray c cX10_readNext RX10 TB (dC, dI) vwCl (ac_ty cA) := ⟨F.1, F.2.1, fun w h => F.2.2.1 w (List.mem_cons_of_mem _ h), F.2.2.2.1, F.2.2.2.2⟩
  have hl : lv_has ls 1 [(0, .ref (ad 1))] := hl
  obtain ⟨RR, hRR⟩ : ∃ q, q = f_X10_readNext_1 u0 := ⟨_, rfl⟩
  have hF : ac_Fr [(1, some 4), (1, some 5), (1, some 6), (1, some 8)] u0 u0 := ac_Fr.rf
  have L181 : ∀ (z1 : Int32) (u : ac_U) (H : Heap) (locs : List Loc) (ls : Array Slot), ac_R rg u → ac_Fr [(1, some 4), (1, some 5), (1, some 6), (1, some 8)] u0 u → (-128 : Int) ≤ z1.toInt ∧ z1.toInt ≤ 127 → (1 : Int) ≤ (u.1 1 2).toInt ∧ (u.1 1 2).toInt ≤ 940 → (0 : Int) ≤ (u.1 1 4).toInt ∧ (u.1 1 4).toInt ≤ 939 → RR = (K_X10_readNext_1_181 u0 u z1) → va_P (dC, dI) vwCl (ac_w ad cA (TT nF) u) H → va_D A (ac_w ad cA (TT nF) u) → va_S A s.heap H locs → lv_has ls 1 [(0, .ref (ad 1))] → W p l e (ac_rm 3) s m [.ref (ad 1)].toArray below meth c H locs 0 0 (MQ below (va_Qv (fun (u : ac_U) => ac_R rg u ∧ ac_Fr [(1, some 4), (1, some 5), (1, some 6), (1, some 8)] u0 u ∧ f_X10_readNext_1 u0 = u) (ac_B (dC, dI) vwCl (ac_ty cA) ad cA (TT nF) A) A) [.ref (ad 1)].toArray s 0 0 A) (F0 m 181 ls [.int z1, .ref (ad 1)]) := by
    intro z1 u H locs ls hR hF f0 f1 f2 hC hP hD hS hl
    unfold K_X10_readNext_1_181 at hC
    refine a_puti F inX10 tyX10 tyX10_ok nmX10 hP hD hS 1 6 tc_1 rfl rfl (by decide) q100 (fun _ h9 => h9) rfl (ty := .int) (tyX10_ok 6 (by decide)) rfl rfl dX10_readNext_181 (fun H locs hP hD hS => ?_)
    have hR := hR.si (c := 1) (k := 6) (v := z1) (by omega : (-128 : Int) ≤ z1.toInt ∧ z1.toInt ≤ 127)
    have hF := hF.si (c := 1) (k := 6) (v := z1) rfl
    refine lv_aload_n F.1 F.2.1 dX10_readNext_184 rfl (lv_at hl 0 rfl) ?_
    refine lv_dup F.1 F.2.1 dX10_readNext_185 rfl ?_
    have g1 : (0 : Int) ≤ (u.1 1 4).toInt ∧ (u.1 1 4).toInt ≤ 940 := hR 1 4
    refine a_geti F inX10 hP 1 4 tc_1 rfl rfl (by decide) q98 (fun _ h9 => h9) (v := (u.1 1 4)) rfl dX10_readNext_186 ?_
    refine a_ic F (1 : Int32) dX10_readNext_189 (by decide) ?_
    refine a_iaddX F dX10_readNext_190 rfl ic_1 (by omega) (fun v2 hv2 yv2 => ?_)
    have hC := vl_eq hC yv2
    refine a_puti F inX10 tyX10 tyX10_ok nmX10 hP hD hS 1 4 tc_1 rfl rfl (by decide) q98 (fun _ h9 => h9) rfl (ty := .int) (tyX10_ok 4 (by decide)) rfl rfl dX10_readNext_191 (fun H locs hP hD hS => ?_)
    have hR := hR.si (c := 1) (k := 4) (v := v2) (by omega : (0 : Int) ≤ v2.toInt ∧ v2.toInt ≤ 940)
    have hF := hF.si (c := 1) (k := 4) (v := v2) rfl
    exact a_retv F hr hlocks hP hD hS dX10_readNext_194 ⟨hR, hF, hRR.symm.trans hC⟩
  have L145 : ∀ (u : ac_U) (H : Heap) (locs : List Loc) (ls : Array Slot), ac_R rg u → ac_Fr [(1, some 4), (1, some 5), (1, some 6), (1, some 8)] u0 u → (1 : Int) ≤ (u.1 1 2).toInt ∧ (u.1 1 2).toInt ≤ 940 → (0 : Int) ≤ (u.1 1 4).toInt ∧ (u.1 1 4).toInt ≤ 939 → RR = (K_X10_readNext_1_145 u0 u) → va_P (dC, dI) vwCl (ac_w ad cA (TT nF) u) H → va_D A (ac_w ad cA (TT nF) u) → va_S A s.heap H locs → lv_has ls 1 [(0, .ref (ad 1))] → W p l e (ac_rm 3) s m [.ref (ad 1)].toArray below meth c H locs 0 0 (MQ below (va_Qv (fun (u : ac_U) => ac_R rg u ∧ ac_Fr [(1, some 4), (1, some 5), (1, some 6), (1, some 8)] u0 u ∧ f_X10_readNext_1 u0 = u) (ac_B (dC, dI) vwCl (ac_ty cA) ad cA (TT nF) A) A) [.ref (ad 1)].toArray s 0 0 A) (F0 m 145 ls []) := by
    intro u H locs ls hR hF f0 f1 hC hP hD hS hl
    unfold K_X10_readNext_1_145 at hC
    refine lv_aload_n F.1 F.2.1 dX10_readNext_145 rfl (lv_at hl 0 rfl) ?_
    refine a_Vv F hml hl.1 hA hP hD hS (As := []) (x_X10_readRun_1 l dC dI ad cA nF _  hR) (cs_RX10_81 (d := 2) F.2.2.1 (by decide)) tc_1 rfl rfl rfl rfl (Nat.le_of_ble_eq_true rfl) dX10_readNext_146 ⟨Nat.le_refl 0, Nat.le_refl 0⟩ (fun u3 H locs hq hP hD hS => ?_)
    obtain ⟨hR, hF3, hz3⟩ := hq
    have hF := hF.tr hF3 (by decide)
    have hC := vl_eq hC hz3.symm
    refine lv_goto (tgt := 194) F.1 F.2.1 dX10_readNext_149 (by decide) ?_
    exact a_retv F hr hlocks hP hD hS dX10_readNext_194 ⟨hR, hF, hRR.symm.trans hC⟩
  have L88 : ∀ (u : ac_U) (H : Heap) (locs : List Loc) (ls : Array Slot), ac_R rg u → ac_Fr [(1, some 4), (1, some 5), (1, some 6), (1, some 8)] u0 u → RR = (K_X10_readNext_1_88 u0 u) → va_P (dC, dI) vwCl (ac_w ad cA (TT nF) u) H → va_D A (ac_w ad cA (TT nF) u) → va_S A s.heap H locs → lv_has ls 1 [(0, .ref (ad 1))] → W p l e (ac_rm 3) s m [.ref (ad 1)].toArray below meth c H locs 0 0 (MQ below (va_Qv (fun (u : ac_U) => ac_R rg u ∧ ac_Fr [(1, some 4), (1, some 5), (1, some 6), (1, some 8)] u0 u ∧ f_X10_readNext_1 u0 = u) (ac_B (dC, dI) vwCl (ac_ty cA) ad cA (TT nF) A) A) [.ref (ad 1)].toArray s 0 0 A) (F0 m 88 ls []) := by
    intro u H locs ls hR hF hC hP hD hS hl
    unfold K_X10_readNext_1_88 at hC
    refine lv_aload_n F.1 F.2.1 dX10_readNext_88 rfl (lv_at hl 0 rfl) ?_
    refine lv_aload_n F.1 F.2.1 dX10_readNext_89 rfl (lv_at hl 0 rfl) ?_
    have g4 : (0 : Int) ≤ (u.1 1 4).toInt ∧ (u.1 1 4).toInt ≤ 940 := hR 1 4
    refine a_geti F inX10 hP 1 4 tc_1 rfl rfl (by decide) q98 (fun _ h9 => h9) (v := (u.1 1 4)) rfl dX10_readNext_90 ?_
    refine a_puti F inX10 tyX10 tyX10_ok nmX10 hP hD hS 1 5 tc_1 rfl rfl (by decide) q99 (fun _ h9 => h9) rfl (ty := .int) (tyX10_ok 5 (by decide)) rfl rfl dX10_readNext_93 (fun H locs hP hD hS => ?_)
    have hR := hR.si (c := 1) (k := 5) (v := (u.1 1 4)) (by omega : (0 : Int) ≤ (u.1 1 4).toInt ∧ (u.1 1 4).toInt ≤ 940)
    have hF := hF.si (c := 1) (k := 5) (v := (u.1 1 4)) rfl
    refine lv_aload_n F.1 F.2.1 dX10_readNext_96 rfl (lv_at hl 0 rfl) ?_
    refine a_geti F inX10 hP 1 4 tc_1 rfl rfl (by decide) q98 (fun _ h9 => h9) (v := (u.1 1 4)) (rfl) dX10_readNext_97 ?_
    refine lv_aload_n F.1 F.2.1 dX10_readNext_100 rfl (lv_at hl 0 rfl) ?_
    have g5 : (0 : Int) ≤ (u.1 1 2).toInt ∧ (u.1 1 2).toInt ≤ 940 := hR 1 2
    refine a_geti F inX10 hP 1 2 tc_1 rfl rfl (by decide) q95 (fun _ h9 => h9) (v := (u.1 1 2)) rfl dX10_readNext_101 ?_
    refine b_lt F 115 dX10_readNext_104 (by decide) rfl rfl (fun c6 => ?_) (fun c6 => ?_)
    · have hC := hC.trans (if_pos c6)
      refine lv_aload_n F.1 F.2.1 dX10_readNext_115 rfl (lv_at hl 0 rfl) ?_
      refine a_getr F inX10 hP 1 0 tc_1 rfl rfl (by decide) q93 (fun _ h9 => h9) dX10_readNext_116 ?_
      refine lv_aload_n F.1 F.2.1 dX10_readNext_119 rfl (lv_at hl 0 rfl) ?_
      refine a_geti F inX10 hP 1 4 tc_1 rfl rfl (by decide) q98 (fun _ h9 => h9) (v := (u.1 1 4)) (rfl) dX10_readNext_120 ?_
      refine a_bald F hP 2 tc_2 rfl (i_in rfl (by omega)) dX10_readNext_123 (fun v7 ev7 => ?_)
      have hC := vl_eq hC ev7.symm
      have hv7 : (-128 : Int) ≤ v7.toInt ∧ v7.toInt ≤ 127 := ev7 ▸ hR 2 _
      refine a_Si F hml hl.1 hA hP hD hS (As := [.int v7]) (x_X10_isLetter l dC dI ad cA nF _ v7 hR (by omega)) (cs_RX10_75 (d := 1) F.2.2.1 (by decide)) rfl rfl (Nat.le_of_ble_eq_true rfl) dX10_readNext_124 ⟨Nat.le_refl 0, Nat.le_refl 0⟩ (fun r8 uN8 H locs hq hP hD hS => ?_)
      obtain ⟨hu8, gr8, hz8⟩ := hq
      rw [hu8] at hP hD
      have hC := vl_eq hC hz8.symm
      refine z_ne F 145 dX10_readNext_127 (by decide) rfl (fun c9 => ?_) (fun c9 => ?_)
      · have hC := hC.trans (if_pos c9)
        exact L145 _ _ _ _ hR hF (by omega : (1 : Int) ≤ (u.1 1 2).toInt ∧ (u.1 1 2).toInt ≤ 940) (by omega : (0 : Int) ≤ (u.1 1 4).toInt ∧ (u.1 1 4).toInt ≤ 939) hC hP hD hS (lv_sub hl [0] rfl)
      · have hC := hC.trans (if_neg (by omega))
        refine lv_aload_n F.1 F.2.1 dX10_readNext_130 rfl (lv_at hl 0 rfl) ?_
        refine a_getr F inX10 hP 1 0 tc_1 rfl rfl (by decide) q93 (fun _ h9 => h9) dX10_readNext_131 ?_
        refine lv_aload_n F.1 F.2.1 dX10_readNext_134 rfl (lv_at hl 0 rfl) ?_
        refine a_geti F inX10 hP 1 4 tc_1 rfl rfl (by decide) q98 (fun _ h9 => h9) (v := (u.1 1 4)) (rfl) dX10_readNext_135 ?_
        refine a_bald F hP 2 tc_2 rfl (i_in rfl (by omega)) dX10_readNext_138 (fun v10 ev10 => ?_)
        have hC := vl_eq hC ev10.symm
        have hv10 : (-128 : Int) ≤ v10.toInt ∧ v10.toInt ≤ 127 := ev10 ▸ hR 2 _
        refine a_Si F hml hl.1 hA hP hD hS (As := [.int v10]) (x_X10_isDigit l dC dI ad cA nF _ v10 hR (by omega)) (cs_RX10_78 (d := 1) F.2.2.1 (by decide)) rfl rfl (Nat.le_of_ble_eq_true rfl) dX10_readNext_139 ⟨Nat.le_refl 0, Nat.le_refl 0⟩ (fun r11 uN11 H locs hq hP hD hS => ?_)
        obtain ⟨hu11, gr11, hz11⟩ := hq
        rw [hu11] at hP hD
        have hC := vl_eq hC hz11.symm
        refine z_eq F 152 dX10_readNext_142 (by decide) rfl (fun c12 => ?_) (fun c12 => ?_)
        · have hC := hC.trans (if_pos c12)
          refine lv_aload_n F.1 F.2.1 dX10_readNext_152 rfl (lv_at hl 0 rfl) ?_
          refine lv_aload_n F.1 F.2.1 dX10_readNext_153 rfl (lv_at hl 0 rfl) ?_
          refine a_getr F inX10 hP 1 0 tc_1 rfl rfl (by decide) q93 (fun _ h9 => h9) dX10_readNext_154 ?_
          refine lv_aload_n F.1 F.2.1 dX10_readNext_157 rfl (lv_at hl 0 rfl) ?_
          refine a_geti F inX10 hP 1 4 tc_1 rfl rfl (by decide) q98 (fun _ h9 => h9) (v := (u.1 1 4)) (rfl) dX10_readNext_158 ?_
          refine a_bald F hP 2 tc_2 rfl (i_in rfl (by omega)) dX10_readNext_161 (fun v13 ev13 => ?_)
          have hC := vl_eq hC ev13.symm
          have hv13 : (-128 : Int) ≤ v13.toInt ∧ v13.toInt ≤ 127 := ev13 ▸ hR 2 _
          refine a_Si F hml hl.1 hA hP hD hS (As := [.int v13]) (x_X10_isSign l dC dI ad cA nF _ v13 hR (by omega)) (cs_RX10_84 (d := 2) F.2.2.1 (by decide)) rfl rfl (Nat.le_of_ble_eq_true rfl) dX10_readNext_162 ⟨Nat.le_refl 0, Nat.le_refl 0⟩ (fun r14 uN14 H locs hq hP hD hS => ?_)
          obtain ⟨hu14, gr14, hz14⟩ := hq
          rw [hu14] at hP hD
          have hC := vl_eq hC hz14.symm
          refine z_eq F 180 dX10_readNext_165 (by decide) rfl (fun c15 => ?_) (fun c15 => ?_)
          · have hC := hC.trans (if_pos c15)
            refine a_ic F (1 : Int32) dX10_readNext_180 (by decide) ?_
            exact L181 (1 : Int32) _ _ _ _ hR hF (by decide) (by omega : (1 : Int) ≤ (u.1 1 2).toInt ∧ (u.1 1 2).toInt ≤ 940) (by omega : (0 : Int) ≤ (u.1 1 4).toInt ∧ (u.1 1 4).toInt ≤ 939) hC hP hD hS (lv_sub hl [0] rfl)
          · have hC := hC.trans (if_neg (by omega))
            refine lv_aload_n F.1 F.2.1 dX10_readNext_168 rfl (lv_at hl 0 rfl) ?_
            refine a_getr F inX10 hP 1 0 tc_1 rfl rfl (by decide) q93 (fun _ h9 => h9) dX10_readNext_169 ?_
            refine lv_aload_n F.1 F.2.1 dX10_readNext_172 rfl (lv_at hl 0 rfl) ?_
            refine a_geti F inX10 hP 1 4 tc_1 rfl rfl (by decide) q98 (fun _ h9 => h9) (v := (u.1 1 4)) (rfl) dX10_readNext_173 ?_
            refine a_bald F hP 2 tc_2 rfl (i_in rfl (by omega)) dX10_readNext_176 (fun v16 ev16 => ?_)
            have hC := vl_eq hC ev16.symm
            have hv16 : (-128 : Int) ≤ v16.toInt ∧ v16.toInt ≤ 127 := ev16 ▸ hR 2 _
            refine lv_goto (tgt := 181) F.1 F.2.1 dX10_readNext_177 (by decide) ?_
            exact L181 v16 _ _ _ _ hR hF (by omega) (by omega : (1 : Int) ≤ (u.1 1 2).toInt ∧ (u.1 1 2).toInt ≤ 940) (by omega : (0 : Int) ≤ (u.1 1 4).toInt ∧ (u.1 1 4).toInt ≤ 939) hC hP hD hS (lv_sub hl [0] rfl)
        · have hC := hC.trans (if_neg (by omega))
          exact L145 _ _ _ _ hR hF (by omega : (1 : Int) ≤ (u.1 1 2).toInt ∧ (u.1 1 2).toInt ≤ 940) (by omega : (0 : Int) ≤ (u.1 1 4).toInt ∧ (u.1 1 4).toInt ≤ 939) hC hP hD hS (lv_sub hl [0] rfl)
    · have hC := hC.trans (if_neg (by omega))
      refine lv_aload_n F.1 F.2.1 dX10_readNext_107 rfl (lv_at hl 0 rfl) ?_
      refine a_ic F (0 : Int32) dX10_readNext_108 (by decide) ?_
      refine a_puti F inX10 tyX10 tyX10_ok nmX10 hP hD hS 1 6 tc_1 rfl rfl (by decide) q100 (fun _ h9 => h9) rfl (ty := .int) (tyX10_ok 6 (by decide)) rfl rfl dX10_readNext_109 (fun H locs hP hD hS => ?_)
      have hR := hR.si (c := 1) (k := 6) (v := (0 : Int32)) (by rw [ic_0]; exact (by omega : (-128 : Int) ≤ (0 : Int) ∧ (0 : Int) ≤ 127))
      have hF := hF.si (c := 1) (k := 6) (v := (0 : Int32)) rfl
      refine lv_goto (tgt := 194) F.1 F.2.1 dX10_readNext_112 (by decide) ?_
      exact a_retv F hr hlocks hP hD hS dX10_readNext_194 ⟨hR, hF, hRR.symm.trans hC⟩
  have L52 : ∀ (u : ac_U) (H : Heap) (locs : List Loc) (ls : Array Slot), ac_R rg u → ac_Fr [(1, some 4), (1, some 5), (1, some 6), (1, some 8)] u0 u → RR = (K_X10_readNext_1_52 u0 u) → va_P (dC, dI) vwCl (ac_w ad cA (TT nF) u) H → va_D A (ac_w ad cA (TT nF) u) → va_S A s.heap H locs → lv_has ls 1 [(0, .ref (ad 1))] → W p l e (ac_rm 3) s m [.ref (ad 1)].toArray below meth c H locs 0 0 (MQ below (va_Qv (fun (u : ac_U) => ac_R rg u ∧ ac_Fr [(1, some 4), (1, some 5), (1, some 6), (1, some 8)] u0 u ∧ f_X10_readNext_1 u0 = u) (ac_B (dC, dI) vwCl (ac_ty cA) ad cA (TT nF) A) A) [.ref (ad 1)].toArray s 0 0 A) (F0 m 52 ls []) := by
    intro u H locs ls hR hF hC hP hD hS hl
    unfold K_X10_readNext_1_52 at hC
    refine lv_aload_n F.1 F.2.1 dX10_readNext_52 rfl (lv_at hl 0 rfl) ?_
    have g17 : (0 : Int) ≤ (u.1 1 4).toInt ∧ (u.1 1 4).toInt ≤ 940 := hR 1 4
    refine a_geti F inX10 hP 1 4 tc_1 rfl rfl (by decide) q98 (fun _ h9 => h9) (v := (u.1 1 4)) rfl dX10_readNext_53 ?_
    refine lv_aload_n F.1 F.2.1 dX10_readNext_56 rfl (lv_at hl 0 rfl) ?_
    have g18 : (0 : Int) ≤ (u.1 1 3).toInt ∧ (u.1 1 3).toInt ≤ 900 := hR 1 3
    refine a_geti F inX10 hP 1 3 tc_1 rfl rfl (by decide) q97 (fun _ h9 => h9) (v := (u.1 1 3)) rfl dX10_readNext_57 ?_
    refine b_lt F 88 dX10_readNext_60 (by decide) rfl rfl (fun c19 => ?_) (fun c19 => ?_)
    · have hC := hC.trans (if_pos c19)
      exact L88 _ _ _ _ hR hF hC hP hD hS (lv_sub hl [0] rfl)
    · have hC := hC.trans (if_neg (by omega))
      refine lv_aload_n F.1 F.2.1 dX10_readNext_63 rfl (lv_at hl 0 rfl) ?_
      have g20 : (0 : Int) ≤ (u.1 1 2).toInt ∧ (u.1 1 2).toInt ≤ 940 := hR 1 2
      refine a_geti F inX10 hP 1 2 tc_1 rfl rfl (by decide) q95 (fun _ h9 => h9) (v := (u.1 1 2)) rfl dX10_readNext_64 ?_
      refine lv_aload_n F.1 F.2.1 dX10_readNext_67 rfl (lv_at hl 0 rfl) ?_
      refine a_geti F inX10 hP 1 3 tc_1 rfl rfl (by decide) q97 (fun _ h9 => h9) (v := (u.1 1 3)) (rfl) dX10_readNext_68 ?_
      refine b_le F 88 dX10_readNext_71 (by decide) rfl rfl (fun c21 => ?_) (fun c21 => ?_)
      · have hC := hC.trans (if_pos c21)
        exact L88 _ _ _ _ hR hF hC hP hD hS (lv_sub hl [0] rfl)
      · have hC := hC.trans (if_neg (by omega))
        refine lv_aload_n F.1 F.2.1 dX10_readNext_74 rfl (lv_at hl 0 rfl) ?_
        refine lv_aload_n F.1 F.2.1 dX10_readNext_75 rfl (lv_at hl 0 rfl) ?_
        refine a_geti F inX10 hP 1 3 tc_1 rfl rfl (by decide) q97 (fun _ h9 => h9) (v := (u.1 1 3)) (rfl) dX10_readNext_76 ?_
        refine a_puti F inX10 tyX10 tyX10_ok nmX10 hP hD hS 1 5 tc_1 rfl rfl (by decide) q99 (fun _ h9 => h9) rfl (ty := .int) (tyX10_ok 5 (by decide)) rfl rfl dX10_readNext_79 (fun H locs hP hD hS => ?_)
        have hR := hR.si (c := 1) (k := 5) (v := (u.1 1 3)) (by omega : (0 : Int) ≤ (u.1 1 3).toInt ∧ (u.1 1 3).toInt ≤ 940)
        have hF := hF.si (c := 1) (k := 5) (v := (u.1 1 3)) rfl
        refine lv_aload_n F.1 F.2.1 dX10_readNext_82 rfl (lv_at hl 0 rfl) ?_
        refine a_ic F (1 : Int32) dX10_readNext_83 (by decide) ?_
        refine a_puti F inX10 tyX10 tyX10_ok nmX10 hP hD hS 1 6 tc_1 rfl rfl (by decide) q100 (fun _ h9 => h9) rfl (ty := .int) (tyX10_ok 6 (by decide)) rfl rfl dX10_readNext_84 (fun H locs hP hD hS => ?_)
        have hR := hR.si (c := 1) (k := 6) (v := (1 : Int32)) (by rw [ic_1]; exact (by omega : (-128 : Int) ≤ (1 : Int) ∧ (1 : Int) ≤ 127))
        have hF := hF.si (c := 1) (k := 6) (v := (1 : Int32)) rfl
        exact a_retv F hr hlocks hP hD hS dX10_readNext_87 ⟨hR, hF, hRR.symm.trans hC⟩
  have L0 : ∀ (n0 : Nat) (u : ac_U) (H : Heap) (locs : List Loc) (ls : Array Slot), ac_R rg u → ac_Fr [(1, some 4), (1, some 5), (1, some 6), (1, some 8)] u0 u → 940 - (u.1 1 4).toInt < (n0 : Int) → RR = (K_X10_readNext_1_0 u0 n0 u) → va_P (dC, dI) vwCl (ac_w ad cA (TT nF) u) H → va_D A (ac_w ad cA (TT nF) u) → va_S A s.heap H locs → lv_has ls 1 [(0, .ref (ad 1))] → W p l e (ac_rm 3) s m [.ref (ad 1)].toArray below meth c H locs 0 0 (MQ below (va_Qv (fun (u : ac_U) => ac_R rg u ∧ ac_Fr [(1, some 4), (1, some 5), (1, some 6), (1, some 8)] u0 u ∧ f_X10_readNext_1 u0 = u) (ac_B (dC, dI) vwCl (ac_ty cA) ad cA (TT nF) A) A) [.ref (ad 1)].toArray s 0 0 A) (F0 m 0 ls []) := by
    intro n0
    induction n0 with
    | zero => intro u H locs ls hR hF hn0 hC hP hD hS hl; have gz0 : (0 : Int) ≤ (u.1 1 4).toInt ∧ (u.1 1 4).toInt ≤ 940 := hR 1 4; exfalso; omega
    | succ n0 ih0 =>
      intro u H locs ls hR hF hn0 hC hP hD hS hl
      have hC : RR = K_X10_readNext_1_0_b (K_X10_readNext_1_0 u0 n0) u0 u := hC
      have L39 : ∀ (u : ac_U) (H : Heap) (locs : List Loc) (ls : Array Slot), ac_R rg u → ac_Fr [(1, some 4), (1, some 5), (1, some 6), (1, some 8)] u0 u → (1 : Int) ≤ (u.1 1 2).toInt ∧ (u.1 1 2).toInt ≤ 940 → (0 : Int) ≤ (u.1 1 4).toInt ∧ (u.1 1 4).toInt ≤ 939 → 940 - (u.1 1 4).toInt < ((n0 : Nat) : Int) + 1 → RR = (K_X10_readNext_1_39 (K_X10_readNext_1_0 u0 n0) u0 u) → va_P (dC, dI) vwCl (ac_w ad cA (TT nF) u) H → va_D A (ac_w ad cA (TT nF) u) → va_S A s.heap H locs → lv_has ls 1 [(0, .ref (ad 1))] → W p l e (ac_rm 3) s m [.ref (ad 1)].toArray below meth c H locs 0 0 (MQ below (va_Qv (fun (u : ac_U) => ac_R rg u ∧ ac_Fr [(1, some 4), (1, some 5), (1, some 6), (1, some 8)] u0 u ∧ f_X10_readNext_1 u0 = u) (ac_B (dC, dI) vwCl (ac_ty cA) ad cA (TT nF) A) A) [.ref (ad 1)].toArray s 0 0 A) (F0 m 39 ls []) := by
        intro u H locs ls hR hF f0 f1 f2 hC hP hD hS hl
        unfold K_X10_readNext_1_39 at hC
        refine lv_aload_n F.1 F.2.1 dX10_readNext_39 rfl (lv_at hl 0 rfl) ?_
        refine lv_dup F.1 F.2.1 dX10_readNext_40 rfl ?_
        have g22 : (0 : Int) ≤ (u.1 1 4).toInt ∧ (u.1 1 4).toInt ≤ 940 := hR 1 4
        refine a_geti F inX10 hP 1 4 tc_1 rfl rfl (by decide) q98 (fun _ h9 => h9) (v := (u.1 1 4)) rfl dX10_readNext_41 ?_
        refine a_ic F (1 : Int32) dX10_readNext_44 (by decide) ?_
        refine a_iaddX F dX10_readNext_45 rfl ic_1 (by omega) (fun v23 hv23 yv23 => ?_)
        have hC := vl_eq hC yv23
        refine a_puti F inX10 tyX10 tyX10_ok nmX10 hP hD hS 1 4 tc_1 rfl rfl (by decide) q98 (fun _ h9 => h9) rfl (ty := .int) (tyX10_ok 4 (by decide)) rfl rfl dX10_readNext_46 (fun H locs hP hD hS => ?_)
        have hR := hR.si (c := 1) (k := 4) (v := v23) (by omega : (0 : Int) ≤ v23.toInt ∧ v23.toInt ≤ 940)
        have hF := hF.si (c := 1) (k := 4) (v := v23) rfl
        refine lv_goto (tgt := 0) F.1 F.2.1 dX10_readNext_49 (by decide) ?_
        exact ih0 _ _ _ _ hR hF (by omega : 940 - v23.toInt < ((n0 : Nat) : Int)) hC hP hD hS (lv_sub hl [0] rfl)
      unfold K_X10_readNext_1_0_b at hC
      refine lv_aload_n F.1 F.2.1 dX10_readNext_0 rfl (lv_at hl 0 rfl) ?_
      have g24 : (0 : Int) ≤ (u.1 1 4).toInt ∧ (u.1 1 4).toInt ≤ 940 := hR 1 4
      refine a_geti F inX10 hP 1 4 tc_1 rfl rfl (by decide) q98 (fun _ h9 => h9) (v := (u.1 1 4)) rfl dX10_readNext_1 ?_
      refine lv_aload_n F.1 F.2.1 dX10_readNext_4 rfl (lv_at hl 0 rfl) ?_
      have g25 : (0 : Int) ≤ (u.1 1 2).toInt ∧ (u.1 1 2).toInt ≤ 940 := hR 1 2
      refine a_geti F inX10 hP 1 2 tc_1 rfl rfl (by decide) q95 (fun _ h9 => h9) (v := (u.1 1 2)) rfl dX10_readNext_5 ?_
      refine b_ge F 52 dX10_readNext_8 (by decide) rfl rfl (fun c26 => ?_) (fun c26 => ?_)
      · have hC := hC.trans (if_pos c26)
        exact L52 _ _ _ _ hR hF hC hP hD hS (lv_sub hl [0] rfl)
      · have hC := hC.trans (if_neg (by omega))
        refine lv_aload_n F.1 F.2.1 dX10_readNext_11 rfl (lv_at hl 0 rfl) ?_
        refine a_getr F inX10 hP 1 0 tc_1 rfl rfl (by decide) q93 (fun _ h9 => h9) dX10_readNext_12 ?_
        refine lv_aload_n F.1 F.2.1 dX10_readNext_15 rfl (lv_at hl 0 rfl) ?_
        refine a_geti F inX10 hP 1 4 tc_1 rfl rfl (by decide) q98 (fun _ h9 => h9) (v := (u.1 1 4)) (rfl) dX10_readNext_16 ?_
        refine a_bald F hP 2 tc_2 rfl (i_in rfl (by omega)) dX10_readNext_19 (fun v27 ev27 => ?_)
        have hC := vl_eq hC ev27.symm
        have hv27 : (-128 : Int) ≤ v27.toInt ∧ v27.toInt ≤ 127 := ev27 ▸ hR 2 _
        refine a_bp F (32 : Int32) dX10_readNext_20 (by decide) ?_
        refine b_eq F 39 dX10_readNext_22 (by decide) rfl ic_32 (fun c28 => ?_) (fun c28 => ?_)
        · have hC := hC.trans (if_pos c28)
          exact L39 _ _ _ _ hR hF (by omega : (1 : Int) ≤ (u.1 1 2).toInt ∧ (u.1 1 2).toInt ≤ 940) (by omega : (0 : Int) ≤ (u.1 1 4).toInt ∧ (u.1 1 4).toInt ≤ 939) (by omega : 940 - (u.1 1 4).toInt < ((n0 : Nat) : Int) + 1) hC hP hD hS (lv_sub hl [0] rfl)
        · have hC := hC.trans (if_neg (by omega))
          refine lv_aload_n F.1 F.2.1 dX10_readNext_25 rfl (lv_at hl 0 rfl) ?_
          refine a_getr F inX10 hP 1 0 tc_1 rfl rfl (by decide) q93 (fun _ h9 => h9) dX10_readNext_26 ?_
          refine lv_aload_n F.1 F.2.1 dX10_readNext_29 rfl (lv_at hl 0 rfl) ?_
          refine a_geti F inX10 hP 1 4 tc_1 rfl rfl (by decide) q98 (fun _ h9 => h9) (v := (u.1 1 4)) (rfl) dX10_readNext_30 ?_
          refine a_bald F hP 2 tc_2 rfl (i_in rfl (by omega)) dX10_readNext_33 (fun v29 ev29 => ?_)
          have hC := vl_eq hC ev29.symm
          have hv29 : (-128 : Int) ≤ v29.toInt ∧ v29.toInt ≤ 127 := ev29 ▸ hR 2 _
          refine a_bp F (10 : Int32) dX10_readNext_34 (by decide) ?_
          refine b_ne F 52 dX10_readNext_36 (by decide) rfl ic_10 (fun c30 => ?_) (fun c30 => ?_)
          · have hC := hC.trans (if_pos c30)
            exact L52 _ _ _ _ hR hF hC hP hD hS (lv_sub hl [0] rfl)
          · have hC := hC.trans (if_neg (by omega))
            exact L39 _ _ _ _ hR hF (by omega : (1 : Int) ≤ (u.1 1 2).toInt ∧ (u.1 1 2).toInt ≤ 940) (by omega : (0 : Int) ≤ (u.1 1 4).toInt ∧ (u.1 1 4).toInt ≤ 939) (by omega : 940 - (u.1 1 4).toInt < ((n0 : Nat) : Int) + 1) hC hP hD hS (lv_sub hl [0] rfl)
  have hC : RR = f_X10_readNext_1 u0 := hRR
  unfold f_X10_readNext_1 at hC
  have g31 : (0 : Int) ≤ (u0.1 1 4).toInt ∧ (u0.1 1 4).toInt ≤ 940 := hR 1 4
  exact L0 942 _ _ _ _ hR hF (by omega : 940 - (u0.1 1 4).toInt < (942 : Int)) hC hP hD hS (lv_sub hl [0] rfl)
def K_X10_takeNumber_1_34 (u0 : ac_U) (p0 : Int32) (p1 : Int32) (u : ac_U) : ac_U × Int32 := (bd (f_X10_fail_1 u (2 : Int32)) (fun (u1 : ac_U) (r1 : Int32) => (if r1.toInt = 0 then (u1, (0 : Int32)) else (u1, 0))))
def f_X10_takeNumber_1 (u0 : ac_U) (p0 : Int32) (p1 : Int32) : ac_U × Int32 := (vl (f_X10_readNext_1 u0) (fun (u3 : ac_U) => (if (u3.1 1 6).toInt = (3 : Int) then (if (u3.1 1 8).toInt < p0.toInt then (K_X10_takeNumber_1_34 u0 p0 p1 u3) else (if (u3.1 1 8).toInt ≤ p1.toInt then (u3, (1 : Int32)) else (K_X10_takeNumber_1_34 u0 p0 p1 u3))) else (bd (f_X10_fail_1 u3 (1 : Int32)) (fun (u8 : ac_U) (r8 : Int32) => (u8, r8))))))
set_option maxHeartbeats 600000 in
set_option maxRecDepth 100000 in
theorem x_X10_takeNumber_1 (l : Launch) (dC : Nat → ClassId) (dI : Nat → Nat → Nat) (ad : Nat → Nat) (cA : Nat → ClassId) (nF : Nat) (u0 : ac_U) (p0 : Int32) (p1 : Int32) (hR : ac_R rg u0) (hp0 : (0 : Int) ≤ p0.toInt ∧ p0.toInt ≤ 23) (hp1 : (3 : Int) ≤ p1.toInt ∧ p1.toInt ≤ 99) : ac_Mi l yX10_takeNumber (.code yX10_takeNumber cX10_takeNumber 3 (some .boolean) :: TB) 4 (dC, dI) vwCl (ac_ty cA) ad cA (TT nF) [.ref (ad 1), .int p0, .int p1] u0 (fun (r : Int32) (u : ac_U) => ac_R rg u ∧ ac_Fr [(1, some 4), (1, some 5), (1, some 6), (1, some 8), (1, some 10), (1, some 11)] u0 u ∧ ((0 : Int) ≤ r.toInt ∧ r.toInt ≤ 1) ∧ (r.toInt ≠ 0 → p0.toInt ≤ (u.1 1 8).toInt ∧ (u.1 1 8).toInt ≤ p1.toInt) ∧ f_X10_takeNumber_1 u0 p0 p1 = (u, r)) := by
  refine ac_Mi.of (cc := cX10_takeNumber) (maxL := 3) (ret := (some .boolean)) (by decide) rfl (Nat.le_of_ble_eq_true rfl) ?_
  intro p e s m below meth c A ls F hml hr hlocks hA hP hD hS hl
  have F : ac_X p s m [.ref (ad 1), .int p0, .int p1].toArray c cX10_takeNumber RX10 TB (dC, dI) vwCl (ac_ty cA) := ⟨F.1, F.2.1, fun w h => F.2.2.1 w (List.mem_cons_of_mem _ h), F.2.2.2.1, F.2.2.2.2⟩
  have hl : lv_has ls 3 [(0, .ref (ad 1)), (1, .int p0), (2, .int p1)] := hl
  obtain ⟨RR, hRR⟩ : ∃ q, q = f_X10_takeNumber_1 u0 p0 p1 := ⟨_, rfl⟩
  have hF : ac_Fr [(1, some 4), (1, some 5), (1, some 6), (1, some 8), (1, some 10), (1, some 11)] u0 u0 := ac_Fr.rf
  have L34 : ∀ (u : ac_U) (H : Heap) (locs : List Loc) (ls : Array Slot), ac_R rg u → ac_Fr [(1, some 4), (1, some 5), (1, some 6), (1, some 8), (1, some 10), (1, some 11)] u0 u → (3 : Int) ≤ (u.1 1 6).toInt ∧ (u.1 1 6).toInt ≤ 3 → RR = (K_X10_takeNumber_1_34 u0 p0 p1 u) → va_P (dC, dI) vwCl (ac_w ad cA (TT nF) u) H → va_D A (ac_w ad cA (TT nF) u) → va_S A s.heap H locs → lv_has ls 3 [(0, .ref (ad 1))] → W p l e (ac_rm 4) s m [.ref (ad 1), .int p0, .int p1].toArray below meth c H locs 0 0 (MQ below (va_Qi (fun (r : Int32) (u : ac_U) => ac_R rg u ∧ ac_Fr [(1, some 4), (1, some 5), (1, some 6), (1, some 8), (1, some 10), (1, some 11)] u0 u ∧ ((0 : Int) ≤ r.toInt ∧ r.toInt ≤ 1) ∧ (r.toInt ≠ 0 → p0.toInt ≤ (u.1 1 8).toInt ∧ (u.1 1 8).toInt ≤ p1.toInt) ∧ f_X10_takeNumber_1 u0 p0 p1 = (u, r)) (ac_B (dC, dI) vwCl (ac_ty cA) ad cA (TT nF) A) A) [.ref (ad 1), .int p0, .int p1].toArray s 0 0 A) (F0 m 34 ls []) := by
    intro u H locs ls hR hF f0 hC hP hD hS hl
    unfold K_X10_takeNumber_1_34 at hC
    refine lv_aload_n F.1 F.2.1 dX10_takeNumber_34 rfl (lv_at hl 0 rfl) ?_
    refine a_ic F (2 : Int32) dX10_takeNumber_35 (by decide) ?_
    refine a_Vi F hml hl.1 hA hP hD hS (As := [.int (2 : Int32)]) (x_X10_fail_1 l dC dI ad cA nF _ (2 : Int32) hR (by decide)) (cs_RX10_90 (d := 1) F.2.2.1 (by decide)) tc_1 rfl rfl rfl rfl (Nat.le_of_ble_eq_true rfl) dX10_takeNumber_36 ⟨Nat.le_refl 0, Nat.le_refl 0⟩ (fun r1 u1 H locs hq hP hD hS => ?_)
    obtain ⟨hR, hF1, gr1, hz1⟩ := hq
    have hF := hF.tr hF1 (by decide)
    have hC := bd_eq hC hz1
    refine z_eq F 46 dX10_takeNumber_39 (by decide) rfl (fun c2 => ?_) (fun c2 => ?_)
    · have hC := hC.trans (if_pos c2)
      refine a_ic F (0 : Int32) dX10_takeNumber_46 (by decide) ?_
      exact a_retz F hr hlocks hP hD hS dX10_takeNumber_47 (Or.inl rfl) ⟨hR, hF, (by decide), (by first | exact (by omega : (0 : Int) ≠ 0 → p0.toInt ≤ (u1.1 1 8).toInt ∧ (u1.1 1 8).toInt ≤ p1.toInt) | (rw [ic_0]; exact (by omega : (0 : Int) ≠ 0 → p0.toInt ≤ (u1.1 1 8).toInt ∧ (u1.1 1 8).toInt ≤ p1.toInt))), hRR.symm.trans hC⟩
    · exfalso; omega
  have hC : RR = f_X10_takeNumber_1 u0 p0 p1 := hRR
  unfold f_X10_takeNumber_1 at hC
  refine lv_aload_n F.1 F.2.1 dX10_takeNumber_0 rfl (lv_at hl 0 rfl) ?_
  refine a_Vv F hml hl.1 hA hP hD hS (As := []) (x_X10_readNext_1 l dC dI ad cA nF _  hR) (cs_RX10_72 (d := 3) F.2.2.1 (by decide)) tc_1 rfl rfl rfl rfl (Nat.le_of_ble_eq_true rfl) dX10_takeNumber_1 ⟨Nat.le_refl 0, Nat.le_refl 0⟩ (fun u3 H locs hq hP hD hS => ?_)
  obtain ⟨hR, hF3, hz3⟩ := hq
  have hF := hF.tr hF3 (by decide)
  have hC := vl_eq hC hz3.symm
  refine lv_aload_n F.1 F.2.1 dX10_takeNumber_4 rfl (lv_at hl 0 rfl) ?_
  have g4 : (-128 : Int) ≤ (u3.1 1 6).toInt ∧ (u3.1 1 6).toInt ≤ 127 := hR 1 6
  refine a_geti F inX10 hP 1 6 tc_1 rfl rfl (by decide) q100 (fun _ h9 => h9) (v := (u3.1 1 6)) rfl dX10_takeNumber_5 ?_
  refine a_ic F (3 : Int32) dX10_takeNumber_8 (by decide) ?_
  refine b_eq F 18 dX10_takeNumber_9 (by decide) rfl ic_3 (fun c5 => ?_) (fun c5 => ?_)
  · have hC := hC.trans (if_pos c5)
    refine lv_aload_n F.1 F.2.1 dX10_takeNumber_18 rfl (lv_at hl 0 rfl) ?_
    refine a_geti F inX10 hP 1 8 tc_1 rfl rfl (by decide) q106 (fun _ h9 => h9) (v := (u3.1 1 8)) rfl dX10_takeNumber_19 ?_
    refine lv_iload_n F.1 F.2.1 dX10_takeNumber_22 rfl (lv_at hl 1 rfl) ?_
    refine b_lt F 34 dX10_takeNumber_23 (by decide) rfl rfl (fun c6 => ?_) (fun c6 => ?_)
    · have hC := hC.trans (if_pos c6)
      exact L34 _ _ _ _ hR hF (by omega : (3 : Int) ≤ (u3.1 1 6).toInt ∧ (u3.1 1 6).toInt ≤ 3) hC hP hD hS (lv_sub hl [0] rfl)
    · have hC := hC.trans (if_neg (by omega))
      refine lv_aload_n F.1 F.2.1 dX10_takeNumber_26 rfl (lv_at hl 0 rfl) ?_
      refine a_geti F inX10 hP 1 8 tc_1 rfl rfl (by decide) q106 (fun _ h9 => h9) (v := (u3.1 1 8)) (rfl) dX10_takeNumber_27 ?_
      refine lv_iload_n F.1 F.2.1 dX10_takeNumber_30 rfl (lv_at hl 2 rfl) ?_
      refine b_le F 42 dX10_takeNumber_31 (by decide) rfl rfl (fun c7 => ?_) (fun c7 => ?_)
      · have hC := hC.trans (if_pos c7)
        refine a_ic F (1 : Int32) dX10_takeNumber_42 (by decide) ?_
        refine lv_goto (tgt := 47) F.1 F.2.1 dX10_takeNumber_43 (by decide) ?_
        exact a_retz F hr hlocks hP hD hS dX10_takeNumber_47 (Or.inr rfl) ⟨hR, hF, (by decide), (by first | exact (by omega : (1 : Int) ≠ 0 → p0.toInt ≤ (u3.1 1 8).toInt ∧ (u3.1 1 8).toInt ≤ p1.toInt) | (rw [ic_1]; exact (by omega : (1 : Int) ≠ 0 → p0.toInt ≤ (u3.1 1 8).toInt ∧ (u3.1 1 8).toInt ≤ p1.toInt))), hRR.symm.trans hC⟩
      · have hC := hC.trans (if_neg (by omega))
        exact L34 _ _ _ _ hR hF (by omega : (3 : Int) ≤ (u3.1 1 6).toInt ∧ (u3.1 1 6).toInt ≤ 3) hC hP hD hS (lv_sub hl [0] rfl)
  · have hC := hC.trans (if_neg (by omega))
    refine lv_aload_n F.1 F.2.1 dX10_takeNumber_12 rfl (lv_at hl 0 rfl) ?_
    refine a_ic F (1 : Int32) dX10_takeNumber_13 (by decide) ?_
    refine a_Vi F hml hl.1 hA hP hD hS (As := [.int (1 : Int32)]) (x_X10_fail_1 l dC dI ad cA nF _ (1 : Int32) hR (by decide)) (cs_RX10_90 (d := 1) F.2.2.1 (by decide)) tc_1 rfl rfl rfl rfl (Nat.le_of_ble_eq_true rfl) dX10_takeNumber_14 ⟨Nat.le_refl 0, Nat.le_refl 0⟩ (fun r8 u8 H locs hq hP hD hS => ?_)
    obtain ⟨hR, hF8, gr8, hz8⟩ := hq
    have hF := hF.tr hF8 (by decide)
    have hC := bd_eq hC hz8
    exact a_retz F hr hlocks hP hD hS dX10_takeNumber_17 (i_01 (by omega)) ⟨hR, hF, (by omega : (0 : Int) ≤ r8.toInt ∧ r8.toInt ≤ 1), (by omega : r8.toInt ≠ 0 → p0.toInt ≤ (u8.1 1 8).toInt ∧ (u8.1 1 8).toInt ≤ p1.toInt), hRR.symm.trans hC⟩
def K_X10_takeSign_1_20 (u0 : ac_U) (p0 : Int32) (u : ac_U) : ac_U × Int32 := (u, (1 : Int32))
def f_X10_takeSign_1 (u0 : ac_U) (p0 : Int32) : ac_U × Int32 := (vl (f_X10_readNext_1 u0) (fun (u1 : ac_U) => (if (u1.1 1 6).toInt = p0.toInt then (K_X10_takeSign_1_20 u0 p0 u1) else (bd (f_X10_fail_1 u1 (1 : Int32)) (fun (u4 : ac_U) (r4 : Int32) => (if r4.toInt = 0 then (u4, (0 : Int32)) else (u4, 0)))))))
set_option maxHeartbeats 600000 in
set_option maxRecDepth 100000 in
theorem x_X10_takeSign_1 (l : Launch) (dC : Nat → ClassId) (dI : Nat → Nat → Nat) (ad : Nat → Nat) (cA : Nat → ClassId) (nF : Nat) (u0 : ac_U) (p0 : Int32) (hR : ac_R rg u0) (hp0 : (59 : Int) ≤ p0.toInt ∧ p0.toInt ≤ 59) : ac_Mi l yX10_takeSign (.code yX10_takeSign cX10_takeSign 2 (some .boolean) :: TB) 4 (dC, dI) vwCl (ac_ty cA) ad cA (TT nF) [.ref (ad 1), .int p0] u0 (fun (r : Int32) (u : ac_U) => ac_R rg u ∧ ac_Fr [(1, some 4), (1, some 5), (1, some 6), (1, some 8), (1, some 10), (1, some 11)] u0 u ∧ ((0 : Int) ≤ r.toInt ∧ r.toInt ≤ 1) ∧ f_X10_takeSign_1 u0 p0 = (u, r)) := by
  refine ac_Mi.of (cc := cX10_takeSign) (maxL := 2) (ret := (some .boolean)) (by decide) rfl (Nat.le_of_ble_eq_true rfl) ?_
  intro p e s m below meth c A ls F hml hr hlocks hA hP hD hS hl
  have F : ac_X p s m [.ref (ad 1), .int p0].toArray c cX10_takeSign RX10 TB (dC, dI) vwCl (ac_ty cA) := ⟨F.1, F.2.1, fun w h => F.2.2.1 w (List.mem_cons_of_mem _ h), F.2.2.2.1, F.2.2.2.2⟩
  have hl : lv_has ls 2 [(0, .ref (ad 1)), (1, .int p0)] := hl
  obtain ⟨RR, hRR⟩ : ∃ q, q = f_X10_takeSign_1 u0 p0 := ⟨_, rfl⟩
  have hF : ac_Fr [(1, some 4), (1, some 5), (1, some 6), (1, some 8), (1, some 10), (1, some 11)] u0 u0 := ac_Fr.rf
  have L20 : ∀ (u : ac_U) (H : Heap) (locs : List Loc) (ls : Array Slot), ac_R rg u → ac_Fr [(1, some 4), (1, some 5), (1, some 6), (1, some 8), (1, some 10), (1, some 11)] u0 u → (59 : Int) ≤ (u.1 1 6).toInt ∧ (u.1 1 6).toInt ≤ 59 → RR = (K_X10_takeSign_1_20 u0 p0 u) → va_P (dC, dI) vwCl (ac_w ad cA (TT nF) u) H → va_D A (ac_w ad cA (TT nF) u) → va_S A s.heap H locs → lv_has ls 2 [] → W p l e (ac_rm 4) s m [.ref (ad 1), .int p0].toArray below meth c H locs 0 0 (MQ below (va_Qi (fun (r : Int32) (u : ac_U) => ac_R rg u ∧ ac_Fr [(1, some 4), (1, some 5), (1, some 6), (1, some 8), (1, some 10), (1, some 11)] u0 u ∧ ((0 : Int) ≤ r.toInt ∧ r.toInt ≤ 1) ∧ f_X10_takeSign_1 u0 p0 = (u, r)) (ac_B (dC, dI) vwCl (ac_ty cA) ad cA (TT nF) A) A) [.ref (ad 1), .int p0].toArray s 0 0 A) (F0 m 20 ls []) := by
    intro u H locs ls hR hF f0 hC hP hD hS hl
    unfold K_X10_takeSign_1_20 at hC
    refine a_ic F (1 : Int32) dX10_takeSign_20 (by decide) ?_
    refine lv_goto (tgt := 25) F.1 F.2.1 dX10_takeSign_21 (by decide) ?_
    exact a_retz F hr hlocks hP hD hS dX10_takeSign_25 (Or.inr rfl) ⟨hR, hF, (by decide), hRR.symm.trans hC⟩
  have hC : RR = f_X10_takeSign_1 u0 p0 := hRR
  unfold f_X10_takeSign_1 at hC
  refine lv_aload_n F.1 F.2.1 dX10_takeSign_0 rfl (lv_at hl 0 rfl) ?_
  refine a_Vv F hml hl.1 hA hP hD hS (As := []) (x_X10_readNext_1 l dC dI ad cA nF _  hR) (cs_RX10_72 (d := 3) F.2.2.1 (by decide)) tc_1 rfl rfl rfl rfl (Nat.le_of_ble_eq_true rfl) dX10_takeSign_1 ⟨Nat.le_refl 0, Nat.le_refl 0⟩ (fun u1 H locs hq hP hD hS => ?_)
  obtain ⟨hR, hF1, hz1⟩ := hq
  have hF := hF.tr hF1 (by decide)
  have hC := vl_eq hC hz1.symm
  refine lv_aload_n F.1 F.2.1 dX10_takeSign_4 rfl (lv_at hl 0 rfl) ?_
  have g2 : (-128 : Int) ≤ (u1.1 1 6).toInt ∧ (u1.1 1 6).toInt ≤ 127 := hR 1 6
  refine a_geti F inX10 hP 1 6 tc_1 rfl rfl (by decide) q100 (fun _ h9 => h9) (v := (u1.1 1 6)) rfl dX10_takeSign_5 ?_
  refine lv_iload_n F.1 F.2.1 dX10_takeSign_8 rfl (lv_at hl 1 rfl) ?_
  refine b_eq F 20 dX10_takeSign_9 (by decide) rfl rfl (fun c3 => ?_) (fun c3 => ?_)
  · have hC := hC.trans (if_pos c3)
    exact L20 _ _ _ _ hR hF (by omega : (59 : Int) ≤ (u1.1 1 6).toInt ∧ (u1.1 1 6).toInt ≤ 59) hC hP hD hS (lv_sub hl [] rfl)
  · have hC := hC.trans (if_neg (by omega))
    refine lv_aload_n F.1 F.2.1 dX10_takeSign_12 rfl (lv_at hl 0 rfl) ?_
    refine a_ic F (1 : Int32) dX10_takeSign_13 (by decide) ?_
    refine a_Vi F hml hl.1 hA hP hD hS (As := [.int (1 : Int32)]) (x_X10_fail_1 l dC dI ad cA nF _ (1 : Int32) hR (by decide)) (cs_RX10_90 (d := 1) F.2.2.1 (by decide)) tc_1 rfl rfl rfl rfl (Nat.le_of_ble_eq_true rfl) dX10_takeSign_14 ⟨Nat.le_refl 0, Nat.le_refl 0⟩ (fun r4 u4 H locs hq hP hD hS => ?_)
    obtain ⟨hR, hF4, gr4, hz4⟩ := hq
    have hF := hF.tr hF4 (by decide)
    have hC := bd_eq hC hz4
    refine z_eq F 24 dX10_takeSign_17 (by decide) rfl (fun c5 => ?_) (fun c5 => ?_)
    · have hC := hC.trans (if_pos c5)
      refine a_ic F (0 : Int32) dX10_takeSign_24 (by decide) ?_
      exact a_retz F hr hlocks hP hD hS dX10_takeSign_25 (Or.inl rfl) ⟨hR, hF, (by decide), hRR.symm.trans hC⟩
    · exfalso; omega

def f_X10_startReading_1 (u0 : ac_U) (p0 : Int32) : ac_U := (vl (f_X10_readNext_1 (pI (pI (pI (pI (pI u0 1 3 p0) 1 4 (0 : Int32)) 1 5 (0 : Int32)) 1 10 (0 : Int32)) 1 11 (0 : Int32))) (fun (u1 : ac_U) => u1))
set_option maxHeartbeats 600000 in
set_option maxRecDepth 100000 in
theorem x_X10_startReading_1 (l : Launch) (dC : Nat → ClassId) (dI : Nat → Nat → Nat) (ad : Nat → Nat) (cA : Nat → ClassId) (nF : Nat) (u0 : ac_U) (p0 : Int32) (hR : ac_R rg u0) (hp0 : (200 : Int) ≤ p0.toInt ∧ p0.toInt ≤ 900) : ac_Mv l yX10_startReading (.code yX10_startReading cX10_startReading 2 none :: TB) 4 (dC, dI) vwCl (ac_ty cA) ad cA (TT nF) [.ref (ad 1), .int p0] u0 (fun (u : ac_U) => ac_R rg u ∧ ac_Fr [(1, some 3), (1, some 4), (1, some 5), (1, some 6), (1, some 8), (1, some 10), (1, some 11)] u0 u ∧ f_X10_startReading_1 u0 p0 = u) := by
  refine ac_Mv.of (cc := cX10_startReading) (maxL := 2) (ret := none) (by decide) rfl (Nat.le_of_ble_eq_true rfl) ?_
  intro p e s m below meth c A ls F hml hr hlocks hA hP hD hS hl
  have F : ac_X p s m [.ref (ad 1), .int p0].toArray c cX10_startReading RX10 TB (dC, dI) vwCl (ac_ty cA) := ⟨F.1, F.2.1, fun w h => F.2.2.1 w (List.mem_cons_of_mem _ h), F.2.2.2.1, F.2.2.2.2⟩
  have hl : lv_has ls 2 [(0, .ref (ad 1)), (1, .int p0)] := hl
  obtain ⟨RR, hRR⟩ : ∃ q, q = f_X10_startReading_1 u0 p0 := ⟨_, rfl⟩
  have hF : ac_Fr [(1, some 3), (1, some 4), (1, some 5), (1, some 6), (1, some 8), (1, some 10), (1, some 11)] u0 u0 := ac_Fr.rf
  have hC : RR = f_X10_startReading_1 u0 p0 := hRR
  unfold f_X10_startReading_1 at hC
  refine lv_aload_n F.1 F.2.1 dX10_startReading_0 rfl (lv_at hl 0 rfl) ?_
  refine lv_iload_n F.1 F.2.1 dX10_startReading_1 rfl (lv_at hl 1 rfl) ?_
  refine a_puti F inX10 tyX10 tyX10_ok nmX10 hP hD hS 1 3 tc_1 rfl rfl (by decide) q97 (fun _ h9 => h9) rfl (ty := .int) (tyX10_ok 3 (by decide)) rfl rfl dX10_startReading_2 (fun H locs hP hD hS => ?_)
  have hR := hR.si (c := 1) (k := 3) (v := p0) (by omega : (0 : Int) ≤ p0.toInt ∧ p0.toInt ≤ 900)
  have hF := hF.si (c := 1) (k := 3) (v := p0) rfl
  refine lv_aload_n F.1 F.2.1 dX10_startReading_5 rfl (lv_at hl 0 rfl) ?_
  refine a_ic F (0 : Int32) dX10_startReading_6 (by decide) ?_
  refine a_puti F inX10 tyX10 tyX10_ok nmX10 hP hD hS 1 4 tc_1 rfl rfl (by decide) q98 (fun _ h9 => h9) rfl (ty := .int) (tyX10_ok 4 (by decide)) rfl rfl dX10_startReading_7 (fun H locs hP hD hS => ?_)
  have hR := hR.si (c := 1) (k := 4) (v := (0 : Int32)) (by rw [ic_0]; exact (by omega : (0 : Int) ≤ (0 : Int) ∧ (0 : Int) ≤ 940))
  have hF := hF.si (c := 1) (k := 4) (v := (0 : Int32)) rfl
  refine lv_aload_n F.1 F.2.1 dX10_startReading_10 rfl (lv_at hl 0 rfl) ?_
  refine a_ic F (0 : Int32) dX10_startReading_11 (by decide) ?_
  refine a_puti F inX10 tyX10 tyX10_ok nmX10 hP hD hS 1 5 tc_1 rfl rfl (by decide) q99 (fun _ h9 => h9) rfl (ty := .int) (tyX10_ok 5 (by decide)) rfl rfl dX10_startReading_12 (fun H locs hP hD hS => ?_)
  have hR := hR.si (c := 1) (k := 5) (v := (0 : Int32)) (by rw [ic_0]; exact (by omega : (0 : Int) ≤ (0 : Int) ∧ (0 : Int) ≤ 940))
  have hF := hF.si (c := 1) (k := 5) (v := (0 : Int32)) rfl
  refine lv_aload_n F.1 F.2.1 dX10_startReading_15 rfl (lv_at hl 0 rfl) ?_
  refine a_ic F (0 : Int32) dX10_startReading_16 (by decide) ?_
  refine a_puti F inX10 tyX10 tyX10_ok nmX10 hP hD hS 1 10 tc_1 rfl rfl (by decide) q114 (fun _ h9 => h9) rfl (ty := .int) (tyX10_ok 10 (by decide)) rfl rfl dX10_startReading_17 (fun H locs hP hD hS => ?_)
  have hR := hR.si (c := 1) (k := 10) (v := (0 : Int32)) (by rw [ic_0]; exact (by omega : (0 : Int) ≤ (0 : Int) ∧ (0 : Int) ≤ 4))
  have hF := hF.si (c := 1) (k := 10) (v := (0 : Int32)) rfl
  refine lv_aload_n F.1 F.2.1 dX10_startReading_20 rfl (lv_at hl 0 rfl) ?_
  refine a_ic F (0 : Int32) dX10_startReading_21 (by decide) ?_
  refine a_puti F inX10 tyX10 tyX10_ok nmX10 hP hD hS 1 11 tc_1 rfl rfl (by decide) q116 (fun _ h9 => h9) rfl (ty := .int) (tyX10_ok 11 (by decide)) rfl rfl dX10_startReading_22 (fun H locs hP hD hS => ?_)
  have hR := hR.si (c := 1) (k := 11) (v := (0 : Int32)) (by rw [ic_0]; exact (by omega : (0 : Int) ≤ (0 : Int) ∧ (0 : Int) ≤ 940))
  have hF := hF.si (c := 1) (k := 11) (v := (0 : Int32)) rfl
  refine lv_aload_n F.1 F.2.1 dX10_startReading_25 rfl (lv_at hl 0 rfl) ?_
  refine a_Vv F hml hl.1 hA hP hD hS (As := []) (x_X10_readNext_1 l dC dI ad cA nF _  hR) (cs_RX10_72 (d := 3) F.2.2.1 (by decide)) tc_1 rfl rfl rfl rfl (Nat.le_of_ble_eq_true rfl) dX10_startReading_26 ⟨Nat.le_refl 0, Nat.le_refl 0⟩ (fun u1 H locs hq hP hD hS => ?_)
  obtain ⟨hR, hF1, hz1⟩ := hq
  have hF := hF.tr hF1 (by decide)
  have hC := vl_eq hC hz1.symm
  exact a_retv F hr hlocks hP hD hS dX10_startReading_29 ⟨hR, hF, hRR.symm.trans hC⟩

def f_X2_addName_13 (u0 : ac_U) (p0 : Int64) (p1 : Int32) (p2 : Int32) : ac_U := (if (26 : Int) ≤ (u0.1 13 8).toInt then u0 else (vl ((u0.1 13 8) + (1 : Int32)) (fun (v3 : Int32) => (pI (pI (pI (pL u0 19 (u0.1 13 8).toNatClampNeg p0) 20 (u0.1 13 8).toNatClampNeg p1) 21 (u0.1 13 8).toNatClampNeg p2) 13 8 v3))))
set_option maxHeartbeats 600000 in
set_option maxRecDepth 100000 in
theorem x_X2_addName_13 (l : Launch) (dC : Nat → ClassId) (dI : Nat → Nat → Nat) (ad : Nat → Nat) (cA : Nat → ClassId) (nF : Nat) (u0 : ac_U) (p0 : Int64) (p1 : Int32) (p2 : Int32) (hR : ac_R rg u0) (hp1 : (0 : Int) ≤ p1.toInt ∧ p1.toInt ≤ 3) (hp2 : (0 : Int) ≤ p2.toInt ∧ p2.toInt ≤ 7) (hh0 : p1.toInt = 1 → p2.toInt ≤ 3) (hK_N13 : nmI 20 21 u0) : ac_Mv l yX2_addName (.code yX2_addName cX2_addName 5 none :: TB) 1 (dC, dI) vwCl (ac_ty cA) ad cA (TT nF) [.ref (ad 13), .long p0, .int p1, .int p2] u0 (fun (u : ac_U) => ac_R rg u ∧ ac_Fr [(13, some 8), (20, none), (21, none)] u0 u ∧ nmI 20 21 u ∧ f_X2_addName_13 u0 p0 p1 p2 = u) := by
  refine ac_Mv.of (cc := cX2_addName) (maxL := 5) (ret := none) (by decide) rfl (Nat.le_of_ble_eq_true rfl) ?_
  intro p e s m below meth c A ls F hml hr hlocks hA hP hD hS hl
  have F : ac_X p s m [.ref (ad 13), .long p0, .int p1, .int p2].toArray c cX2_addName RX2 TB (dC, dI) vwCl (ac_ty cA) := ⟨F.1, F.2.1, fun w h => F.2.2.1 w (List.mem_cons_of_mem _ h), F.2.2.2.1, F.2.2.2.2⟩
  have hl : lv_has ls 5 [(0, .ref (ad 13)), (1, .long p0), (3, .int p1), (4, .int p2)] := hl
  obtain ⟨RR, hRR⟩ : ∃ q, q = f_X2_addName_13 u0 p0 p1 p2 := ⟨_, rfl⟩
  have hF : ac_Fr [(13, some 8), (20, none), (21, none)] u0 u0 := ac_Fr.rf
  have hC : RR = f_X2_addName_13 u0 p0 p1 p2 := hRR
  unfold f_X2_addName_13 at hC
  refine lv_aload_n F.1 F.2.1 dX2_addName_0 rfl (lv_at hl 0 rfl) ?_
  have g1 : (0 : Int) ≤ (u0.1 13 8).toInt ∧ (u0.1 13 8).toInt ≤ 26 := hR 13 8
  refine a_geti F inX2 hP 13 8 tc_13 rfl rfl (by decide) q188 (fun _ h9 => h9) (v := (u0.1 13 8)) rfl dX2_addName_1 ?_
  refine a_bp F (26 : Int32) dX2_addName_4 (by decide) ?_
  refine b_ge F 50 dX2_addName_6 (by decide) rfl ic_26 (fun c2 => ?_) (fun c2 => ?_)
  · have hC := hC.trans (if_pos c2)
    exact a_retv F hr hlocks hP hD hS dX2_addName_50 ⟨hR, hF, hK_N13, hRR.symm.trans hC⟩
  · have hC := hC.trans (if_neg (by omega))
    refine lv_aload_n F.1 F.2.1 dX2_addName_9 rfl (lv_at hl 0 rfl) ?_
    refine a_getr F inX2 hP 13 14 tc_13 rfl rfl (by decide) q197 (fun _ h9 => h9) dX2_addName_10 ?_
    refine lv_aload_n F.1 F.2.1 dX2_addName_13 rfl (lv_at hl 0 rfl) ?_
    refine a_geti F inX2 hP 13 8 tc_13 rfl rfl (by decide) q188 (fun _ h9 => h9) (v := (u0.1 13 8)) (rfl) dX2_addName_14 ?_
    refine lv_lload_n F.1 F.2.1 dX2_addName_17 rfl (lv_at hl 1 rfl) ?_
    refine a_last F hP hD hS 19 tc_19 rfl (i_in rfl (by omega)) dX2_addName_18 (fun H locs hP hD hS => ?_)
    have hR := ac_slR hD hR
    have hF := ac_slF hD hF
    have hK_N13 := sp_sl sp_N13 hD hK_N13
    refine lv_aload_n F.1 F.2.1 dX2_addName_19 rfl (lv_at hl 0 rfl) ?_
    refine a_getr F inX2 hP 13 15 tc_13 rfl rfl (by decide) q198 (fun _ h9 => h9) dX2_addName_20 ?_
    refine lv_aload_n F.1 F.2.1 dX2_addName_23 rfl (lv_at hl 0 rfl) ?_
    refine a_geti F inX2 hP 13 8 tc_13 rfl rfl (by decide) q188 (fun _ h9 => h9) (v := (u0.1 13 8)) (rfl) dX2_addName_24 ?_
    refine lv_iload_n F.1 F.2.1 dX2_addName_27 rfl (lv_at hl 2 rfl) ?_
    refine a_iast F hP hD hS 20 tc_20 rfl (i_in rfl (by omega)) dX2_addName_28 (fun H locs hP hD hS => ?_)
    have hR := hR.si (c := 20) (k := (u0.1 13 8).toNatClampNeg) (v := p1) (by omega : (0 : Int) ≤ p1.toInt ∧ p1.toInt ≤ 3)
    have hF := hF.si (c := 20) (k := (u0.1 13 8).toNatClampNeg) (v := p1) rfl
    refine lv_aload_n F.1 F.2.1 dX2_addName_29 rfl (lv_at hl 0 rfl) ?_
    refine a_getr F inX2 hP 13 16 tc_13 rfl rfl (by decide) q200 (fun _ h9 => h9) dX2_addName_30 ?_
    refine lv_aload_n F.1 F.2.1 dX2_addName_33 rfl (lv_at hl 0 rfl) ?_
    refine a_geti F inX2 hP 13 8 tc_13 rfl rfl (by decide) q188 (fun _ h9 => h9) (v := (u0.1 13 8)) (rfl) dX2_addName_34 ?_
    refine lv_iload F.1 F.2.1 dX2_addName_37 (lv_at hl 3 rfl) ?_
    refine a_iast F hP hD hS 21 tc_21 rfl (i_in rfl (by omega)) dX2_addName_39 (fun H locs hP hD hS => ?_)
    have hR := hR.si (c := 21) (k := (u0.1 13 8).toNatClampNeg) (v := p2) (by omega : (0 : Int) ≤ p2.toInt ∧ p2.toInt ≤ 7)
    have hF := hF.si (c := 21) (k := (u0.1 13 8).toNatClampNeg) (v := p2) rfl
    have hK_N13 := nm_add (by decide) hK_N13 (k := (u0.1 13 8).toNatClampNeg) (x := p1) (y := p2) hh0
    refine lv_aload_n F.1 F.2.1 dX2_addName_40 rfl (lv_at hl 0 rfl) ?_
    refine lv_dup F.1 F.2.1 dX2_addName_41 rfl ?_
    refine a_geti F inX2 hP 13 8 tc_13 rfl rfl (by decide) q188 (fun _ h9 => h9) (v := (u0.1 13 8)) (rfl) dX2_addName_42 ?_
    refine a_ic F (1 : Int32) dX2_addName_45 (by decide) ?_
    refine a_iaddX F dX2_addName_46 rfl ic_1 (by omega) (fun v3 hv3 yv3 => ?_)
    have hC := vl_eq hC yv3
    refine a_puti F inX2 tyX2 tyX2_ok nmX2 hP hD hS 13 8 tc_13 rfl rfl (by decide) q188 (fun _ h9 => h9) rfl (ty := .int) (tyX2_ok 8 (by decide)) rfl rfl dX2_addName_47 (fun H locs hP hD hS => ?_)
    have hR := hR.si (c := 13) (k := 8) (v := v3) (by omega : (0 : Int) ≤ v3.toInt ∧ v3.toInt ≤ 26)
    have hF := hF.si (c := 13) (k := 8) (v := v3) rfl
    have hK_N13 := sp_sgD sp_N13 hD hK_N13 (by decide)
    exact a_retv F hr hlocks hP hD hS dX2_addName_50 ⟨hR, hF, hK_N13, hRR.symm.trans hC⟩

def f_X2_addDeed_13 (u0 : ac_U) (p0 : Int64) : ac_U := (vl (f_X2_addName_13 u0 p0 (2 : Int32) (u0.1 13 5)) (fun (u2 : ac_U) => (vl ((u0.1 13 5) + (1 : Int32)) (fun (v3 : Int32) => (pI u2 13 5 v3)))))
set_option maxHeartbeats 600000 in
set_option maxRecDepth 100000 in
theorem x_X2_addDeed_13 (l : Launch) (dC : Nat → ClassId) (dI : Nat → Nat → Nat) (ad : Nat → Nat) (cA : Nat → ClassId) (nF : Nat) (u0 : ac_U) (p0 : Int64) (hR : ac_R rg u0) (hf_13_5 : (0 : Int) ≤ (u0.1 13 5).toInt ∧ (u0.1 13 5).toInt ≤ 5) (hK_N13 : nmI 20 21 u0) : ac_Mv l yX2_addDeed (.code yX2_addDeed cX2_addDeed 3 none :: TB) 2 (dC, dI) vwCl (ac_ty cA) ad cA (TT nF) [.ref (ad 13), .long p0] u0 (fun (u : ac_U) => ac_R rg u ∧ ac_Fr [(13, some 5), (13, some 8), (20, none), (21, none)] u0 u ∧ nmI 20 21 u ∧ f_X2_addDeed_13 u0 p0 = u) := by
  refine ac_Mv.of (cc := cX2_addDeed) (maxL := 3) (ret := none) (by decide) rfl (Nat.le_of_ble_eq_true rfl) ?_
  intro p e s m below meth c A ls F hml hr hlocks hA hP hD hS hl
  have F : ac_X p s m [.ref (ad 13), .long p0].toArray c cX2_addDeed RX2 TB (dC, dI) vwCl (ac_ty cA) := ⟨F.1, F.2.1, fun w h => F.2.2.1 w (List.mem_cons_of_mem _ h), F.2.2.2.1, F.2.2.2.2⟩
  have hl : lv_has ls 3 [(0, .ref (ad 13)), (1, .long p0)] := hl
  obtain ⟨RR, hRR⟩ : ∃ q, q = f_X2_addDeed_13 u0 p0 := ⟨_, rfl⟩
  have hF : ac_Fr [(13, some 5), (13, some 8), (20, none), (21, none)] u0 u0 := ac_Fr.rf
  have hC : RR = f_X2_addDeed_13 u0 p0 := hRR
  unfold f_X2_addDeed_13 at hC
  refine lv_aload_n F.1 F.2.1 dX2_addDeed_0 rfl (lv_at hl 0 rfl) ?_
  refine lv_lload_n F.1 F.2.1 dX2_addDeed_1 rfl (lv_at hl 1 rfl) ?_
  refine a_ic F (2 : Int32) dX2_addDeed_2 (by decide) ?_
  refine lv_aload_n F.1 F.2.1 dX2_addDeed_3 rfl (lv_at hl 0 rfl) ?_
  have g1 : (0 : Int) ≤ (u0.1 13 5).toInt ∧ (u0.1 13 5).toInt ≤ 6 := hR 13 5
  refine a_geti F inX2 hP 13 5 tc_13 rfl rfl (by decide) q173 (fun _ h9 => h9) (v := (u0.1 13 5)) rfl dX2_addDeed_4 ?_
  refine a_Vv F hml hl.1 hA hP hD hS (As := [.long p0, .int (2 : Int32), .int (u0.1 13 5)]) (x_X2_addName_13 l dC dI ad cA nF _ p0 (2 : Int32) (u0.1 13 5) hR (by decide) (by omega) (by simp only [ic_2]; omega) hK_N13) (cs_RX2_77 (d := 1) F.2.2.1 (by decide)) tc_13 rfl rfl rfl rfl (Nat.le_of_ble_eq_true rfl) dX2_addDeed_7 ⟨Nat.le_refl 0, Nat.le_refl 0⟩ (fun u2 H locs hq hP hD hS => ?_)
  obtain ⟨hR, hF2, hK_N13, hz2⟩ := hq
  have hF := hF.tr hF2 (by decide)
  have hC := vl_eq hC hz2.symm
  refine lv_aload_n F.1 F.2.1 dX2_addDeed_10 rfl (lv_at hl 0 rfl) ?_
  refine lv_dup F.1 F.2.1 dX2_addDeed_11 rfl ?_
  refine a_geti F inX2 hP 13 5 tc_13 rfl rfl (by decide) q173 (fun _ h9 => h9) (v := (u0.1 13 5)) (hF2 13 5 rfl) dX2_addDeed_12 ?_
  refine a_ic F (1 : Int32) dX2_addDeed_15 (by decide) ?_
  refine a_iaddX F dX2_addDeed_16 rfl ic_1 (by omega) (fun v3 hv3 yv3 => ?_)
  have hC := vl_eq hC yv3
  refine a_puti F inX2 tyX2 tyX2_ok nmX2 hP hD hS 13 5 tc_13 rfl rfl (by decide) q173 (fun _ h9 => h9) rfl (ty := .int) (tyX2_ok 5 (by decide)) rfl rfl dX2_addDeed_17 (fun H locs hP hD hS => ?_)
  have hR := hR.si (c := 13) (k := 5) (v := v3) (by omega : (0 : Int) ≤ v3.toInt ∧ v3.toInt ≤ 6)
  have hF := hF.si (c := 13) (k := 5) (v := v3) rfl
  have hK_N13 := sp_sgD sp_N13 hD hK_N13 (by decide)
  exact a_retv F hr hlocks hP hD hS dX2_addDeed_20 ⟨hR, hF, hK_N13, hRR.symm.trans hC⟩

def f_X2_addFrog_13 (u0 : ac_U) (p0 : Int32) : ac_U := (if (6 : Int) ≤ (u0.1 13 3).toInt then u0 else (vl ((u0.1 13 3) + (1 : Int32)) (fun (v3 : Int32) => (pI (pI u0 15 (u0.1 13 3).toNatClampNeg p0) 13 3 v3))))
set_option maxHeartbeats 600000 in
set_option maxRecDepth 100000 in
theorem x_X2_addFrog_13 (l : Launch) (dC : Nat → ClassId) (dI : Nat → Nat → Nat) (ad : Nat → Nat) (cA : Nat → ClassId) (nF : Nat) (u0 : ac_U) (p0 : Int32) (hR : ac_R rg u0) (hp0 : (0 : Int) ≤ p0.toInt ∧ p0.toInt ≤ 7) : ac_Mv l yX2_addFrog (.code yX2_addFrog cX2_addFrog 2 none :: TB) 1 (dC, dI) vwCl (ac_ty cA) ad cA (TT nF) [.ref (ad 13), .int p0] u0 (fun (u : ac_U) => ac_R rg u ∧ ac_Fr [(13, some 3), (15, none)] u0 u ∧ f_X2_addFrog_13 u0 p0 = u) := by
  refine ac_Mv.of (cc := cX2_addFrog) (maxL := 2) (ret := none) (by decide) rfl (Nat.le_of_ble_eq_true rfl) ?_
  intro p e s m below meth c A ls F hml hr hlocks hA hP hD hS hl
  have F : ac_X p s m [.ref (ad 13), .int p0].toArray c cX2_addFrog RX2 TB (dC, dI) vwCl (ac_ty cA) := ⟨F.1, F.2.1, fun w h => F.2.2.1 w (List.mem_cons_of_mem _ h), F.2.2.2.1, F.2.2.2.2⟩
  have hl : lv_has ls 2 [(0, .ref (ad 13)), (1, .int p0)] := hl
  obtain ⟨RR, hRR⟩ : ∃ q, q = f_X2_addFrog_13 u0 p0 := ⟨_, rfl⟩
  have hF : ac_Fr [(13, some 3), (15, none)] u0 u0 := ac_Fr.rf
  have hC : RR = f_X2_addFrog_13 u0 p0 := hRR
  unfold f_X2_addFrog_13 at hC
  refine lv_aload_n F.1 F.2.1 dX2_addFrog_0 rfl (lv_at hl 0 rfl) ?_
  have g1 : (0 : Int) ≤ (u0.1 13 3).toInt ∧ (u0.1 13 3).toInt ≤ 6 := hR 13 3
  refine a_geti F inX2 hP 13 3 tc_13 rfl rfl (by decide) q165 (fun _ h9 => h9) (v := (u0.1 13 3)) rfl dX2_addFrog_1 ?_
  refine a_bp F (6 : Int32) dX2_addFrog_4 (by decide) ?_
  refine b_ge F 29 dX2_addFrog_6 (by decide) rfl ic_6 (fun c2 => ?_) (fun c2 => ?_)
  · have hC := hC.trans (if_pos c2)
    exact a_retv F hr hlocks hP hD hS dX2_addFrog_29 ⟨hR, hF, hRR.symm.trans hC⟩
  · have hC := hC.trans (if_neg (by omega))
    refine lv_aload_n F.1 F.2.1 dX2_addFrog_9 rfl (lv_at hl 0 rfl) ?_
    refine a_getr F inX2 hP 13 10 tc_13 rfl rfl (by decide) q190 (fun _ h9 => h9) dX2_addFrog_10 ?_
    refine lv_aload_n F.1 F.2.1 dX2_addFrog_13 rfl (lv_at hl 0 rfl) ?_
    refine a_geti F inX2 hP 13 3 tc_13 rfl rfl (by decide) q165 (fun _ h9 => h9) (v := (u0.1 13 3)) (rfl) dX2_addFrog_14 ?_
    refine lv_iload_n F.1 F.2.1 dX2_addFrog_17 rfl (lv_at hl 1 rfl) ?_
    refine a_iast F hP hD hS 15 tc_15 rfl (i_in rfl (by omega)) dX2_addFrog_18 (fun H locs hP hD hS => ?_)
    have hR := hR.si (c := 15) (k := (u0.1 13 3).toNatClampNeg) (v := p0) (by omega : (0 : Int) ≤ p0.toInt ∧ p0.toInt ≤ 7)
    have hF := hF.si (c := 15) (k := (u0.1 13 3).toNatClampNeg) (v := p0) rfl
    refine lv_aload_n F.1 F.2.1 dX2_addFrog_19 rfl (lv_at hl 0 rfl) ?_
    refine lv_dup F.1 F.2.1 dX2_addFrog_20 rfl ?_
    refine a_geti F inX2 hP 13 3 tc_13 rfl rfl (by decide) q165 (fun _ h9 => h9) (v := (u0.1 13 3)) (rfl) dX2_addFrog_21 ?_
    refine a_ic F (1 : Int32) dX2_addFrog_24 (by decide) ?_
    refine a_iaddX F dX2_addFrog_25 rfl ic_1 (by omega) (fun v3 hv3 yv3 => ?_)
    have hC := vl_eq hC yv3
    refine a_puti F inX2 tyX2 tyX2_ok nmX2 hP hD hS 13 3 tc_13 rfl rfl (by decide) q165 (fun _ h9 => h9) rfl (ty := .int) (tyX2_ok 3 (by decide)) rfl rfl dX2_addFrog_26 (fun H locs hP hD hS => ?_)
    have hR := hR.si (c := 13) (k := 3) (v := v3) (by omega : (0 : Int) ≤ v3.toInt ∧ v3.toInt ≤ 6)
    have hF := hF.si (c := 13) (k := 3) (v := v3) rfl
    exact a_retv F hr hlocks hP hD hS dX2_addFrog_29 ⟨hR, hF, hRR.symm.trans hC⟩

def f_X2_addPerson_13 (u0 : ac_U) (p0 : Int64) (p1 : Int32) : ac_U := (if (4 : Int) ≤ (u0.1 13 4).toInt then u0 else (vl (f_X2_addName_13 u0 p0 (1 : Int32) (u0.1 13 4)) (fun (u3 : ac_U) => (vl ((u0.1 13 4) + (1 : Int32)) (fun (v4 : Int32) => (pI (pI u3 16 (u0.1 13 4).toNatClampNeg p1) 13 4 v4))))))
set_option maxHeartbeats 600000 in
set_option maxRecDepth 100000 in
theorem x_X2_addPerson_13 (l : Launch) (dC : Nat → ClassId) (dI : Nat → Nat → Nat) (ad : Nat → Nat) (cA : Nat → ClassId) (nF : Nat) (u0 : ac_U) (p0 : Int64) (p1 : Int32) (hR : ac_R rg u0) (hp1 : (0 : Int) ≤ p1.toInt ∧ p1.toInt ≤ 7) (hK_N13 : nmI 20 21 u0) : ac_Mv l yX2_addPerson (.code yX2_addPerson cX2_addPerson 4 none :: TB) 2 (dC, dI) vwCl (ac_ty cA) ad cA (TT nF) [.ref (ad 13), .long p0, .int p1] u0 (fun (u : ac_U) => ac_R rg u ∧ ac_Fr [(13, some 4), (13, some 8), (16, none), (20, none), (21, none)] u0 u ∧ nmI 20 21 u ∧ f_X2_addPerson_13 u0 p0 p1 = u) := by
  refine ac_Mv.of (cc := cX2_addPerson) (maxL := 4) (ret := none) (by decide) rfl (Nat.le_of_ble_eq_true rfl) ?_
  intro p e s m below meth c A ls F hml hr hlocks hA hP hD hS hl
  have F : ac_X p s m [.ref (ad 13), .long p0, .int p1].toArray c cX2_addPerson RX2 TB (dC, dI) vwCl (ac_ty cA) := ⟨F.1, F.2.1, fun w h => F.2.2.1 w (List.mem_cons_of_mem _ h), F.2.2.2.1, F.2.2.2.2⟩
  have hl : lv_has ls 4 [(0, .ref (ad 13)), (1, .long p0), (3, .int p1)] := hl
  obtain ⟨RR, hRR⟩ : ∃ q, q = f_X2_addPerson_13 u0 p0 p1 := ⟨_, rfl⟩
  have hF : ac_Fr [(13, some 4), (13, some 8), (16, none), (20, none), (21, none)] u0 u0 := ac_Fr.rf
  have hC : RR = f_X2_addPerson_13 u0 p0 p1 := hRR
  unfold f_X2_addPerson_13 at hC
  refine lv_aload_n F.1 F.2.1 dX2_addPerson_0 rfl (lv_at hl 0 rfl) ?_
  have g1 : (0 : Int) ≤ (u0.1 13 4).toInt ∧ (u0.1 13 4).toInt ≤ 4 := hR 13 4
  refine a_geti F inX2 hP 13 4 tc_13 rfl rfl (by decide) q169 (fun _ h9 => h9) (v := (u0.1 13 4)) rfl dX2_addPerson_1 ?_
  refine a_ic F (4 : Int32) dX2_addPerson_4 (by decide) ?_
  refine b_ge F 38 dX2_addPerson_5 (by decide) rfl ic_4 (fun c2 => ?_) (fun c2 => ?_)
  · have hC := hC.trans (if_pos c2)
    exact a_retv F hr hlocks hP hD hS dX2_addPerson_38 ⟨hR, hF, hK_N13, hRR.symm.trans hC⟩
  · have hC := hC.trans (if_neg (by omega))
    refine lv_aload_n F.1 F.2.1 dX2_addPerson_8 rfl (lv_at hl 0 rfl) ?_
    refine lv_lload_n F.1 F.2.1 dX2_addPerson_9 rfl (lv_at hl 1 rfl) ?_
    refine a_ic F (1 : Int32) dX2_addPerson_10 (by decide) ?_
    refine lv_aload_n F.1 F.2.1 dX2_addPerson_11 rfl (lv_at hl 0 rfl) ?_
    refine a_geti F inX2 hP 13 4 tc_13 rfl rfl (by decide) q169 (fun _ h9 => h9) (v := (u0.1 13 4)) (rfl) dX2_addPerson_12 ?_
    refine a_Vv F hml hl.1 hA hP hD hS (As := [.long p0, .int (1 : Int32), .int (u0.1 13 4)]) (x_X2_addName_13 l dC dI ad cA nF _ p0 (1 : Int32) (u0.1 13 4) hR (by decide) (by omega) (by simp only [ic_1]; omega) hK_N13) (cs_RX2_77 (d := 1) F.2.2.1 (by decide)) tc_13 rfl rfl rfl rfl (Nat.le_of_ble_eq_true rfl) dX2_addPerson_15 ⟨Nat.le_refl 0, Nat.le_refl 0⟩ (fun u3 H locs hq hP hD hS => ?_)
    obtain ⟨hR, hF3, hK_N13, hz3⟩ := hq
    have hF := hF.tr hF3 (by decide)
    have hC := vl_eq hC hz3.symm
    refine lv_aload_n F.1 F.2.1 dX2_addPerson_18 rfl (lv_at hl 0 rfl) ?_
    refine a_getr F inX2 hP 13 11 tc_13 rfl rfl (by decide) q193 (fun _ h9 => h9) dX2_addPerson_19 ?_
    refine lv_aload_n F.1 F.2.1 dX2_addPerson_22 rfl (lv_at hl 0 rfl) ?_
    refine a_geti F inX2 hP 13 4 tc_13 rfl rfl (by decide) q169 (fun _ h9 => h9) (v := (u0.1 13 4)) (hF3 13 4 rfl) dX2_addPerson_23 ?_
    refine lv_iload_n F.1 F.2.1 dX2_addPerson_26 rfl (lv_at hl 2 rfl) ?_
    refine a_iast F hP hD hS 16 tc_16 rfl (i_in rfl (by omega)) dX2_addPerson_27 (fun H locs hP hD hS => ?_)
    have hR := hR.si (c := 16) (k := (u0.1 13 4).toNatClampNeg) (v := p1) (by omega : (0 : Int) ≤ p1.toInt ∧ p1.toInt ≤ 7)
    have hF := hF.si (c := 16) (k := (u0.1 13 4).toNatClampNeg) (v := p1) rfl
    have hK_N13 := sp_sgD sp_N13 hD hK_N13 (by decide)
    refine lv_aload_n F.1 F.2.1 dX2_addPerson_28 rfl (lv_at hl 0 rfl) ?_
    refine lv_dup F.1 F.2.1 dX2_addPerson_29 rfl ?_
    refine a_geti F inX2 hP 13 4 tc_13 rfl rfl (by decide) q169 (fun _ h9 => h9) (v := (u0.1 13 4)) (hF3 13 4 rfl) dX2_addPerson_30 ?_
    refine a_ic F (1 : Int32) dX2_addPerson_33 (by decide) ?_
    refine a_iaddX F dX2_addPerson_34 rfl ic_1 (by omega) (fun v4 hv4 yv4 => ?_)
    have hC := vl_eq hC yv4
    refine a_puti F inX2 tyX2 tyX2_ok nmX2 hP hD hS 13 4 tc_13 rfl rfl (by decide) q169 (fun _ h9 => h9) rfl (ty := .int) (tyX2_ok 4 (by decide)) rfl rfl dX2_addPerson_35 (fun H locs hP hD hS => ?_)
    have hR := hR.si (c := 13) (k := 4) (v := v4) (by omega : (0 : Int) ≤ v4.toInt ∧ v4.toInt ≤ 4)
    have hF := hF.si (c := 13) (k := 4) (v := v4) rfl
    have hK_N13 := sp_sgD sp_N13 hD hK_N13 (by decide)
    exact a_retv F hr hlocks hP hD hS dX2_addPerson_38 ⟨hR, hF, hK_N13, hRR.symm.trans hC⟩

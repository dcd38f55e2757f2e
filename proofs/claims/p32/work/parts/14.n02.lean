set_option maxHeartbeats 600000 in
set_option maxRecDepth 100000 in
theorem c_X12_isSaid_85 (l : Launch) (dC : Nat → ClassId) (dI : Nat → Nat → Nat) (ad : Nat → Nat) (cA : Nat → ClassId) (nF : Nat) (u0 : ac_U) (p0 : Int32) (hR : ac_R rg u0) (hp0 : (0 : Int) ≤ p0.toInt ∧ p0.toInt ≤ 7) (hK_CW : cdI u0) : ac_Mi l yX12_isSaid (.code yX12_isSaid cX12_isSaid 5 (some .boolean) :: TB) 8 (dC, dI) vwCl (ac_ty cA) ad cA (TT nF) [.ref (ad 85), .int p0] u0 (fun (r : Int32) (u : ac_U) => ac_R rg u ∧ ac_Fr [(101, none)] u0 u ∧ ((0 : Int) ≤ r.toInt ∧ r.toInt ≤ 1)) := by
  refine ac_Mi.of (cc := cX12_isSaid) (maxL := 5) (ret := (some .boolean)) (by decide) rfl (Nat.le_of_ble_eq_true rfl) ?_
  intro p e s m below meth c A ls F hml hr hlocks hA hP hD hS hl
  have F : ac_X p s m [.ref (ad 85), .int p0].toArray c cX12_isSaid RX12 TB (dC, dI) vwCl (ac_ty cA) := ⟨F.1, F.2.1, fun w h => F.2.2.1 w (List.mem_cons_of_mem _ h), F.2.2.2.1, F.2.2.2.2⟩
  have hl : lv_has ls 5 [(0, .ref (ad 85)), (1, .int p0)] := hl
  have hF : ac_Fr [(101, none)] u0 u0 := ac_Fr.rf
  have L4 : ∀ (n4 : Nat) (x2 : Int32) (x3 : Int32) (u : ac_U) (H : Heap) (locs : List Loc) (ls : Array Slot), ac_R rg u → ac_Fr [(101, none)] u0 u → 45 - x3.toInt < (n4 : Int) → cdI u → dpI x3.toInt x2.toInt u → (0 : Int) ≤ x2.toInt ∧ x2.toInt ≤ 45 → (0 : Int) ≤ x3.toInt ∧ x3.toInt ≤ 45 → 0 ≤ x2.toInt ∧ x2.toInt ≤ x3.toInt → va_P (dC, dI) vwCl (ac_w ad cA (TT nF) u) H → va_D A (ac_w ad cA (TT nF) u) → va_S A s.heap H locs → lv_has ls 5 [(0, .ref (ad 85)), (1, .int p0), (2, .int x2), (3, .int x3)] → W p l e (ac_rm 8) s m [.ref (ad 85), .int p0].toArray below meth c H locs 0 0 (MQ below (va_Qi (fun (r : Int32) (u : ac_U) => ac_R rg u ∧ ac_Fr [(101, none)] u0 u ∧ ((0 : Int) ≤ r.toInt ∧ r.toInt ≤ 1)) (ac_B (dC, dI) vwCl (ac_ty cA) ad cA (TT nF) A) A) [.ref (ad 85), .int p0].toArray s 0 0 A) (F0 m 4 ls []) := by
    intro n4
    induction n4 with
    | zero => intro x2 x3 u H locs ls hR hF hn4 hK_CW hK_DPx f0 f1 f2 hP hD hS hl; exfalso; omega
    | succ n4 ih4 =>
      intro x2 x3 u H locs ls hR hF hn4 hK_CW hK_DPx f0 f1 f2 hP hD hS hl
      have L206 : ∀ (x2 : Int32) (x3 : Int32) (u : ac_U) (H : Heap) (locs : List Loc) (ls : Array Slot), ac_R rg u → ac_Fr [(101, none)] u0 u → cdI u → dpI (x3.toInt + 1) x2.toInt u → (0 : Int) ≤ x2.toInt ∧ x2.toInt ≤ 45 → (0 : Int) ≤ x3.toInt ∧ x3.toInt ≤ 44 → (1 : Int) ≤ (u.1 87 476).toInt ∧ (u.1 87 476).toInt ≤ 45 → 0 ≤ x2.toInt ∧ x2.toInt ≤ x3.toInt + 1 → 45 - x3.toInt + 0 < ((n4 : Nat) : Int) + 1 → va_P (dC, dI) vwCl (ac_w ad cA (TT nF) u) H → va_D A (ac_w ad cA (TT nF) u) → va_S A s.heap H locs → lv_has ls 5 [(0, .ref (ad 85)), (1, .int p0), (2, .int x2), (3, .int x3)] → W p l e (ac_rm 8) s m [.ref (ad 85), .int p0].toArray below meth c H locs 0 0 (MQ below (va_Qi (fun (r : Int32) (u : ac_U) => ac_R rg u ∧ ac_Fr [(101, none)] u0 u ∧ ((0 : Int) ≤ r.toInt ∧ r.toInt ≤ 1)) (ac_B (dC, dI) vwCl (ac_ty cA) ad cA (TT nF) A) A) [.ref (ad 85), .int p0].toArray s 0 0 A) (F0 m 206 ls []) := by
        intro x2 x3 u H locs ls hR hF hK_CW hK_DPn f0 f1 f2 f3 f4 hP hD hS hl
        refine a_iinc F (k := 3) (fun v1 => [(3, .int v1), (0, .ref (ad 85)), (1, .int p0), (2, .int x2)]) dX12_isSaid_206 hl rfl rfl (by decide) (by omega) (by decide) (fun _ => rfl) (fun v1 ls hv1 hl => ?_)
        refine lv_goto (tgt := 4) F.1 F.2.1 dX12_isSaid_209 (by decide) ?_
        exact ih4 x2 v1 _ _ _ _ hR hF (by omega) hK_CW (dp_eq hK_DPn (by omega) rfl) (by omega) (by omega) (by omega : 0 ≤ x2.toInt ∧ x2.toInt ≤ v1.toInt) hP hD hS (lv_sub hl [1, 2, 3, 0] rfl)
      refine lv_iload_n F.1 F.2.1 dX12_isSaid_4 rfl (lv_at hl 3 rfl) ?_
      refine lv_aload_n F.1 F.2.1 dX12_isSaid_5 rfl (lv_at hl 0 rfl) ?_
      refine a_getr F inX12 hP 85 6 tc_85 rfl rfl (by decide) q1477 (fun _ h9 => h9) dX12_isSaid_6 ?_
      refine a_sp F (476 : Int32) dX12_isSaid_9 (by decide) ?_
      have g2 : (0 : Int) ≤ (u.1 87 476).toInt ∧ (u.1 87 476).toInt ≤ 45 := hR 87 476
      refine a_ialdK F hP 87 476 tc_87 rfl rfl (i_in ic_476 (by omega)) (v := (u.1 87 476)) rfl dX12_isSaid_12 ?_
      refine b_ge F 212 dX12_isSaid_13 (by decide) rfl rfl (fun c3 => ?_) (fun c3 => ?_)
      · refine lv_aload_n F.1 F.2.1 dX12_isSaid_212 rfl (lv_at hl 0 rfl) ?_
        refine a_getr F inX12 hP 85 44 tc_85 rfl rfl (by decide) q1515 (fun _ h9 => h9) dX12_isSaid_213 ?_
        refine a_ic F (0 : Int32) dX12_isSaid_216 (by decide) ?_
        refine a_zald F hP 101 tc_101 rfl (i_in ic_0 (by omega)) dX12_isSaid_217 (fun v4 ev4 => ?_)
        have hv4 : (0 : Int) ≤ v4.toInt ∧ v4.toInt ≤ 1 := ev4 ▸ hR 101 _
        exact a_retz F hr hlocks hP hD hS dX12_isSaid_218 (i_01 (by omega)) ⟨hR, hF, (by omega : (0 : Int) ≤ v4.toInt ∧ v4.toInt ≤ 1)⟩
      · refine a_sp F (477 : Int32) dX12_isSaid_16 (by decide) ?_
        refine a_ic F (3 : Int32) dX12_isSaid_19 (by decide) ?_
        refine lv_iload_n F.1 F.2.1 dX12_isSaid_20 rfl (lv_at hl 3 rfl) ?_
        refine a_imul F dX12_isSaid_21 ic_3 rfl (by omega) (fun v5 hv5 => ?_)
        refine a_iadd F dX12_isSaid_22 ic_477 rfl (by omega) (fun v6 hv6 => ?_)
        refine lv_istore (lv' := [(4, .int v6), (0, .ref (ad 85)), (1, .int p0), (2, .int x2), (3, .int x3)]) F.1 F.2.1 dX12_isSaid_23 hl (by decide) rfl (fun ls hl => ?_)
        refine lv_aload_n F.1 F.2.1 dX12_isSaid_25 rfl (lv_at hl 1 rfl) ?_
        refine a_getr F inX12 hP 85 6 tc_85 rfl rfl (by decide) q1477 (fun _ h9 => h9) dX12_isSaid_26 ?_
        refine lv_iload F.1 F.2.1 dX12_isSaid_29 (lv_at hl 0 rfl) ?_
        refine a_iald F hP 87 tc_87 rfl (i_in rfl (by omega)) dX12_isSaid_31 (fun v7 ev7 => ?_)
        obtain ⟨hma, hmb, hmc⟩ := dp_get hK_CW hK_DPx (k := v6) (by omega) (by omega) ev7
        refine a_bp F (20 : Int32) dX12_isSaid_32 (by decide) ?_
        refine b_ne F 64 dX12_isSaid_34 (by decide) rfl ic_20 (fun c8 => ?_) (fun c8 => ?_)
        · refine lv_aload_n F.1 F.2.1 dX12_isSaid_64 rfl (lv_at hl 1 rfl) ?_
          refine a_getr F inX12 hP 85 6 tc_85 rfl rfl (by decide) q1477 (fun _ h9 => h9) dX12_isSaid_65 ?_
          refine lv_iload F.1 F.2.1 dX12_isSaid_68 (lv_at hl 0 rfl) ?_
          refine a_iald F hP 87 tc_87 rfl (i_in rfl (by omega)) dX12_isSaid_70 (fun v9 ev9 => ?_)
          have hqv9 := ld_same ev7 ev9 rfl rfl
          refine a_bp F (21 : Int32) dX12_isSaid_71 (by decide) ?_
          refine b_eq F 88 dX12_isSaid_73 (by decide) rfl ic_21 (fun c10 => ?_) (fun c10 => ?_)
          · refine a_iinc F (k := 3) (fun v11 => [(2, .int v11), (4, .int v6), (0, .ref (ad 85)), (1, .int p0), (3, .int x3)]) dX12_isSaid_88 hl rfl rfl (by decide) (by omega) (by decide) (fun _ => rfl) (fun v11 ls hv11 hl => ?_)
            refine lv_aload_n F.1 F.2.1 dX12_isSaid_91 rfl (lv_at hl 2 rfl) ?_
            refine a_getr F inX12 hP 85 44 tc_85 rfl rfl (by decide) q1515 (fun _ h9 => h9) dX12_isSaid_92 ?_
            refine lv_iload_n F.1 F.2.1 dX12_isSaid_95 rfl (lv_at hl 0 rfl) ?_
            refine a_ic F (1 : Int32) dX12_isSaid_96 (by decide) ?_
            refine a_isub F dX12_isSaid_97 rfl ic_1 (by omega) (fun v12 hv12 => ?_)
            refine lv_aload_n F.1 F.2.1 dX12_isSaid_98 rfl (lv_at hl 2 rfl) ?_
            refine a_getr F inX12 hP 85 6 tc_85 rfl rfl (by decide) q1477 (fun _ h9 => h9) dX12_isSaid_99 ?_
            refine lv_iload F.1 F.2.1 dX12_isSaid_102 (lv_at hl 1 rfl) ?_
            refine a_iald F hP 87 tc_87 rfl (i_in rfl (by omega)) dX12_isSaid_104 (fun v13 ev13 => ?_)
            have hqv13 := ld_same ev7 ev13 rfl rfl
            refine a_bp F (21 : Int32) dX12_isSaid_105 (by decide) ?_
            refine b_ne F 138 dX12_isSaid_107 (by decide) rfl ic_21 (fun c14 => ?_) (fun c14 => ?_)
            · refine lv_aload_n F.1 F.2.1 dX12_isSaid_138 rfl (lv_at hl 2 rfl) ?_
              refine a_getr F inX12 hP 85 44 tc_85 rfl rfl (by decide) q1515 (fun _ h9 => h9) dX12_isSaid_139 ?_
              refine lv_iload_n F.1 F.2.1 dX12_isSaid_142 rfl (lv_at hl 0 rfl) ?_
              refine a_ic F (1 : Int32) dX12_isSaid_143 (by decide) ?_
              refine a_isub F dX12_isSaid_144 rfl ic_1 (by omega) (fun v15 hv15 => ?_)
              refine a_zald F hP 101 tc_101 rfl (i_in rfl (by omega)) dX12_isSaid_145 (fun v16 ev16 => ?_)
              have hv16 : (0 : Int) ≤ v16.toInt ∧ v16.toInt ≤ 1 := ev16 ▸ hR 101 _
              refine z_ne F 158 dX12_isSaid_146 (by decide) rfl (fun c17 => ?_) (fun c17 => ?_)
              · refine a_ic F (1 : Int32) dX12_isSaid_158 (by decide) ?_
                refine lv_goto (tgt := 163) F.1 F.2.1 dX12_isSaid_159 (by decide) ?_
                refine a_zast F hP hD hS 101 tc_101 rfl (i_in rfl (by omega)) dX12_isSaid_163 (fun H locs hP hD hS => ?_)
                rw [i_znar (Or.inr rfl)] at hP hD
                have hR := hR.si (c := 101) (k := v12.toNatClampNeg) (v := (1 : Int32)) (by rw [ic_1]; exact (by omega : (0 : Int) ≤ (1 : Int) ∧ (1 : Int) ≤ 1))
                have hF := hF.si (c := 101) (k := v12.toNatClampNeg) (v := (1 : Int32)) rfl
                have hK_CW := sp_sgD sp_CW hD hK_CW (by decide)
                have hK_DPx := sp_sgD (sp_dp _ _ (by omega)) hD hK_DPx (by decide)
                refine lv_goto (tgt := 206) F.1 F.2.1 dX12_isSaid_164 (by decide) ?_
                exact L206 v11 x3 _ _ _ _ hR hF hK_CW (dp_eq hmc rfl (by unfold cdl; omega)) (by omega) (by omega) (by omega : (1 : Int) ≤ (u.1 87 476).toInt ∧ (u.1 87 476).toInt ≤ 45) (by omega : 0 ≤ v11.toInt ∧ v11.toInt ≤ x3.toInt + 1) (by omega) hP hD hS (lv_sub hl [2, 3, 0, 4] rfl)
              · refine lv_aload_n F.1 F.2.1 dX12_isSaid_149 rfl (lv_at hl 2 rfl) ?_
                refine a_getr F inX12 hP 85 44 tc_85 rfl rfl (by decide) q1515 (fun _ h9 => h9) dX12_isSaid_150 ?_
                refine lv_iload_n F.1 F.2.1 dX12_isSaid_153 rfl (lv_at hl 0 rfl) ?_
                refine a_zald F hP 101 tc_101 rfl (i_in rfl (by omega)) dX12_isSaid_154 (fun v18 ev18 => ?_)
                have hv18 : (0 : Int) ≤ v18.toInt ∧ v18.toInt ≤ 1 := ev18 ▸ hR 101 _
                refine z_eq F 162 dX12_isSaid_155 (by decide) rfl (fun c19 => ?_) (fun c19 => ?_)
                · refine a_ic F (0 : Int32) dX12_isSaid_162 (by decide) ?_
                  refine a_zast F hP hD hS 101 tc_101 rfl (i_in rfl (by omega)) dX12_isSaid_163 (fun H locs hP hD hS => ?_)
                  rw [i_znar (Or.inl rfl)] at hP hD
                  have hR := hR.si (c := 101) (k := v12.toNatClampNeg) (v := (0 : Int32)) (by rw [ic_0]; exact (by omega : (0 : Int) ≤ (0 : Int) ∧ (0 : Int) ≤ 1))
                  have hF := hF.si (c := 101) (k := v12.toNatClampNeg) (v := (0 : Int32)) rfl
                  have hK_CW := sp_sgD sp_CW hD hK_CW (by decide)
                  have hK_DPx := sp_sgD (sp_dp _ _ (by omega)) hD hK_DPx (by decide)
                  refine lv_goto (tgt := 206) F.1 F.2.1 dX12_isSaid_164 (by decide) ?_
                  exact L206 v11 x3 _ _ _ _ hR hF hK_CW (dp_eq hmc rfl (by unfold cdl; omega)) (by omega) (by omega) (by omega : (1 : Int) ≤ (u.1 87 476).toInt ∧ (u.1 87 476).toInt ≤ 45) (by omega : 0 ≤ v11.toInt ∧ v11.toInt ≤ x3.toInt + 1) (by omega) hP hD hS (lv_sub hl [2, 3, 0, 4] rfl)
                · refine a_ic F (1 : Int32) dX12_isSaid_158 (by decide) ?_
                  refine lv_goto (tgt := 163) F.1 F.2.1 dX12_isSaid_159 (by decide) ?_
                  refine a_zast F hP hD hS 101 tc_101 rfl (i_in rfl (by omega)) dX12_isSaid_163 (fun H locs hP hD hS => ?_)
                  rw [i_znar (Or.inr rfl)] at hP hD
                  have hR := hR.si (c := 101) (k := v12.toNatClampNeg) (v := (1 : Int32)) (by rw [ic_1]; exact (by omega : (0 : Int) ≤ (1 : Int) ∧ (1 : Int) ≤ 1))
                  have hF := hF.si (c := 101) (k := v12.toNatClampNeg) (v := (1 : Int32)) rfl
                  have hK_CW := sp_sgD sp_CW hD hK_CW (by decide)
                  have hK_DPx := sp_sgD (sp_dp _ _ (by omega)) hD hK_DPx (by decide)
                  refine lv_goto (tgt := 206) F.1 F.2.1 dX12_isSaid_164 (by decide) ?_
                  exact L206 v11 x3 _ _ _ _ hR hF hK_CW (dp_eq hmc rfl (by unfold cdl; omega)) (by omega) (by omega) (by omega : (1 : Int) ≤ (u.1 87 476).toInt ∧ (u.1 87 476).toInt ≤ 45) (by omega : 0 ≤ v11.toInt ∧ v11.toInt ≤ x3.toInt + 1) (by omega) hP hD hS (lv_sub hl [2, 3, 0, 4] rfl)
            · refine lv_aload_n F.1 F.2.1 dX12_isSaid_110 rfl (lv_at hl 2 rfl) ?_
              refine a_getr F inX12 hP 85 44 tc_85 rfl rfl (by decide) q1515 (fun _ h9 => h9) dX12_isSaid_111 ?_
              refine lv_iload_n F.1 F.2.1 dX12_isSaid_114 rfl (lv_at hl 0 rfl) ?_
              refine a_ic F (1 : Int32) dX12_isSaid_115 (by decide) ?_
              refine a_isub F dX12_isSaid_116 rfl ic_1 (by omega) (fun v20 hv20 => ?_)
              refine a_zald F hP 101 tc_101 rfl (i_in rfl (by omega)) dX12_isSaid_117 (fun v21 ev21 => ?_)
              have hv21 : (0 : Int) ≤ v21.toInt ∧ v21.toInt ≤ 1 := ev21 ▸ hR 101 _
              refine z_eq F 134 dX12_isSaid_118 (by decide) rfl (fun c22 => ?_) (fun c22 => ?_)
              · refine a_ic F (0 : Int32) dX12_isSaid_134 (by decide) ?_
                refine lv_goto (tgt := 163) F.1 F.2.1 dX12_isSaid_135 (by decide) ?_
                refine a_zast F hP hD hS 101 tc_101 rfl (i_in rfl (by omega)) dX12_isSaid_163 (fun H locs hP hD hS => ?_)
                rw [i_znar (Or.inl rfl)] at hP hD
                have hR := hR.si (c := 101) (k := v12.toNatClampNeg) (v := (0 : Int32)) (by rw [ic_0]; exact (by omega : (0 : Int) ≤ (0 : Int) ∧ (0 : Int) ≤ 1))
                have hF := hF.si (c := 101) (k := v12.toNatClampNeg) (v := (0 : Int32)) rfl
                have hK_CW := sp_sgD sp_CW hD hK_CW (by decide)
                have hK_DPx := sp_sgD (sp_dp _ _ (by omega)) hD hK_DPx (by decide)
                refine lv_goto (tgt := 206) F.1 F.2.1 dX12_isSaid_164 (by decide) ?_
                exact L206 v11 x3 _ _ _ _ hR hF hK_CW (dp_eq hmc rfl (by unfold cdl; omega)) (by omega) (by omega) (by omega : (1 : Int) ≤ (u.1 87 476).toInt ∧ (u.1 87 476).toInt ≤ 45) (by omega : 0 ≤ v11.toInt ∧ v11.toInt ≤ x3.toInt + 1) (by omega) hP hD hS (lv_sub hl [2, 3, 0, 4] rfl)
              · refine lv_aload_n F.1 F.2.1 dX12_isSaid_121 rfl (lv_at hl 2 rfl) ?_
                refine a_getr F inX12 hP 85 44 tc_85 rfl rfl (by decide) q1515 (fun _ h9 => h9) dX12_isSaid_122 ?_
                refine lv_iload_n F.1 F.2.1 dX12_isSaid_125 rfl (lv_at hl 0 rfl) ?_
                refine a_zald F hP 101 tc_101 rfl (i_in rfl (by omega)) dX12_isSaid_126 (fun v23 ev23 => ?_)
                have hv23 : (0 : Int) ≤ v23.toInt ∧ v23.toInt ≤ 1 := ev23 ▸ hR 101 _
                refine z_eq F 134 dX12_isSaid_127 (by decide) rfl (fun c24 => ?_) (fun c24 => ?_)
                · refine a_ic F (0 : Int32) dX12_isSaid_134 (by decide) ?_
                  refine lv_goto (tgt := 163) F.1 F.2.1 dX12_isSaid_135 (by decide) ?_
                  refine a_zast F hP hD hS 101 tc_101 rfl (i_in rfl (by omega)) dX12_isSaid_163 (fun H locs hP hD hS => ?_)
                  rw [i_znar (Or.inl rfl)] at hP hD
                  have hR := hR.si (c := 101) (k := v12.toNatClampNeg) (v := (0 : Int32)) (by rw [ic_0]; exact (by omega : (0 : Int) ≤ (0 : Int) ∧ (0 : Int) ≤ 1))
                  have hF := hF.si (c := 101) (k := v12.toNatClampNeg) (v := (0 : Int32)) rfl
                  have hK_CW := sp_sgD sp_CW hD hK_CW (by decide)
                  have hK_DPx := sp_sgD (sp_dp _ _ (by omega)) hD hK_DPx (by decide)
                  refine lv_goto (tgt := 206) F.1 F.2.1 dX12_isSaid_164 (by decide) ?_
                  exact L206 v11 x3 _ _ _ _ hR hF hK_CW (dp_eq hmc rfl (by unfold cdl; omega)) (by omega) (by omega) (by omega : (1 : Int) ≤ (u.1 87 476).toInt ∧ (u.1 87 476).toInt ≤ 45) (by omega : 0 ≤ v11.toInt ∧ v11.toInt ≤ x3.toInt + 1) (by omega) hP hD hS (lv_sub hl [2, 3, 0, 4] rfl)
                · refine a_ic F (1 : Int32) dX12_isSaid_130 (by decide) ?_
                  refine lv_goto (tgt := 163) F.1 F.2.1 dX12_isSaid_131 (by decide) ?_
                  refine a_zast F hP hD hS 101 tc_101 rfl (i_in rfl (by omega)) dX12_isSaid_163 (fun H locs hP hD hS => ?_)
                  rw [i_znar (Or.inr rfl)] at hP hD
                  have hR := hR.si (c := 101) (k := v12.toNatClampNeg) (v := (1 : Int32)) (by rw [ic_1]; exact (by omega : (0 : Int) ≤ (1 : Int) ∧ (1 : Int) ≤ 1))
                  have hF := hF.si (c := 101) (k := v12.toNatClampNeg) (v := (1 : Int32)) rfl
                  have hK_CW := sp_sgD sp_CW hD hK_CW (by decide)
                  have hK_DPx := sp_sgD (sp_dp _ _ (by omega)) hD hK_DPx (by decide)
                  refine lv_goto (tgt := 206) F.1 F.2.1 dX12_isSaid_164 (by decide) ?_
                  exact L206 v11 x3 _ _ _ _ hR hF hK_CW (dp_eq hmc rfl (by unfold cdl; omega)) (by omega) (by omega) (by omega : (1 : Int) ≤ (u.1 87 476).toInt ∧ (u.1 87 476).toInt ≤ 45) (by omega : 0 ≤ v11.toInt ∧ v11.toInt ≤ x3.toInt + 1) (by omega) hP hD hS (lv_sub hl [2, 3, 0, 4] rfl)
          · refine lv_aload_n F.1 F.2.1 dX12_isSaid_76 rfl (lv_at hl 1 rfl) ?_
            refine a_getr F inX12 hP 85 6 tc_85 rfl rfl (by decide) q1477 (fun _ h9 => h9) dX12_isSaid_77 ?_
            refine lv_iload F.1 F.2.1 dX12_isSaid_80 (lv_at hl 0 rfl) ?_
            refine a_iald F hP 87 tc_87 rfl (i_in rfl (by omega)) dX12_isSaid_82 (fun v25 ev25 => ?_)
            have hqv25 := ld_same ev7 ev25 rfl rfl
            refine a_bp F (22 : Int32) dX12_isSaid_83 (by decide) ?_
            refine b_ne F 167 dX12_isSaid_85 (by decide) rfl ic_22 (fun c26 => ?_) (fun c26 => ?_)
            · refine lv_aload_n F.1 F.2.1 dX12_isSaid_167 rfl (lv_at hl 1 rfl) ?_
              refine a_getr F inX12 hP 85 44 tc_85 rfl rfl (by decide) q1515 (fun _ h9 => h9) dX12_isSaid_168 ?_
              refine lv_iload_n F.1 F.2.1 dX12_isSaid_171 rfl (lv_at hl 3 rfl) ?_
              refine lv_aload_n F.1 F.2.1 dX12_isSaid_172 rfl (lv_at hl 1 rfl) ?_
              refine lv_iload_n F.1 F.2.1 dX12_isSaid_173 rfl (lv_at hl 2 rfl) ?_
              refine lv_aload_n F.1 F.2.1 dX12_isSaid_174 rfl (lv_at hl 1 rfl) ?_
              refine a_getr F inX12 hP 85 6 tc_85 rfl rfl (by decide) q1477 (fun _ h9 => h9) dX12_isSaid_175 ?_
              refine lv_iload F.1 F.2.1 dX12_isSaid_178 (lv_at hl 0 rfl) ?_
              refine a_iald F hP 87 tc_87 rfl (i_in rfl (by omega)) dX12_isSaid_180 (fun v27 ev27 => ?_)
              refine lv_aload_n F.1 F.2.1 dX12_isSaid_181 rfl (lv_at hl 1 rfl) ?_
              refine a_getr F inX12 hP 85 6 tc_85 rfl rfl (by decide) q1477 (fun _ h9 => h9) dX12_isSaid_182 ?_
              refine lv_iload F.1 F.2.1 dX12_isSaid_185 (lv_at hl 0 rfl) ?_
              refine a_ic F (1 : Int32) dX12_isSaid_187 (by decide) ?_
              refine a_iadd F dX12_isSaid_188 rfl ic_1 (by omega) (fun v28 hv28 => ?_)
              refine a_iald F hP 87 tc_87 rfl (i_in rfl (by omega)) dX12_isSaid_189 (fun v29 ev29 => ?_)
              refine lv_aload_n F.1 F.2.1 dX12_isSaid_190 rfl (lv_at hl 1 rfl) ?_
              refine a_getr F inX12 hP 85 6 tc_85 rfl rfl (by decide) q1477 (fun _ h9 => h9) dX12_isSaid_191 ?_
              refine lv_iload F.1 F.2.1 dX12_isSaid_194 (lv_at hl 0 rfl) ?_
              refine a_ic F (2 : Int32) dX12_isSaid_196 (by decide) ?_
              refine a_iadd F dX12_isSaid_197 rfl ic_2 (by omega) (fun v30 hv30 => ?_)
              refine a_iald F hP 87 tc_87 rfl (i_in rfl (by omega)) dX12_isSaid_198 (fun v31 ev31 => ?_)
              refine a_Vi F hml hl.1 hA hP hD hS (As := [.int p0, .int v27, .int v29, .int v31]) (c_X12_isLeaf_85 l dC dI ad cA nF _ p0 v27 v29 v31 hR (by omega)) (cs_RX12_447 (d := 7) F.2.2.1 (by decide)) tc_85 rfl rfl rfl rfl (Nat.le_of_ble_eq_true rfl) dX12_isSaid_199 ⟨Nat.le_refl 0, Nat.le_refl 0⟩ (fun r32 uN32 H locs hq hP hD hS => ?_)
              obtain ⟨hu32, gr32⟩ := hq
              rw [hu32] at hP hD
              refine a_zast F hP hD hS 101 tc_101 rfl (i_in rfl (by omega)) dX12_isSaid_202 (fun H locs hP hD hS => ?_)
              rw [i_znar (i_01 (by omega))] at hP hD
              have hR := hR.si (c := 101) (k := x2.toNatClampNeg) (v := r32) (by omega : (0 : Int) ≤ r32.toInt ∧ r32.toInt ≤ 1)
              have hF := hF.si (c := 101) (k := x2.toNatClampNeg) (v := r32) rfl
              have hK_CW := sp_sgD sp_CW hD hK_CW (by decide)
              have hK_DPx := sp_sgD (sp_dp _ _ (by omega)) hD hK_DPx (by decide)
              refine a_iinc F (k := 3) (fun v33 => [(2, .int v33), (4, .int v6), (0, .ref (ad 85)), (1, .int p0), (3, .int x3)]) dX12_isSaid_203 hl rfl rfl (by decide) (by omega) (by decide) (fun _ => rfl) (fun v33 ls hv33 hl => ?_)
              exact L206 v33 x3 _ _ _ _ hR hF hK_CW (dp_eq hmc rfl (by unfold cdl; omega)) (by omega) (by omega) (by omega : (1 : Int) ≤ (u.1 87 476).toInt ∧ (u.1 87 476).toInt ≤ 45) (by omega : 0 ≤ v33.toInt ∧ v33.toInt ≤ x3.toInt + 1) (by omega) hP hD hS (lv_sub hl [2, 3, 0, 4] rfl)
            · refine a_iinc F (k := 3) (fun v34 => [(2, .int v34), (4, .int v6), (0, .ref (ad 85)), (1, .int p0), (3, .int x3)]) dX12_isSaid_88 hl rfl rfl (by decide) (by omega) (by decide) (fun _ => rfl) (fun v34 ls hv34 hl => ?_)
              refine lv_aload_n F.1 F.2.1 dX12_isSaid_91 rfl (lv_at hl 2 rfl) ?_
              refine a_getr F inX12 hP 85 44 tc_85 rfl rfl (by decide) q1515 (fun _ h9 => h9) dX12_isSaid_92 ?_
              refine lv_iload_n F.1 F.2.1 dX12_isSaid_95 rfl (lv_at hl 0 rfl) ?_
              refine a_ic F (1 : Int32) dX12_isSaid_96 (by decide) ?_
              refine a_isub F dX12_isSaid_97 rfl ic_1 (by omega) (fun v35 hv35 => ?_)
              refine lv_aload_n F.1 F.2.1 dX12_isSaid_98 rfl (lv_at hl 2 rfl) ?_
              refine a_getr F inX12 hP 85 6 tc_85 rfl rfl (by decide) q1477 (fun _ h9 => h9) dX12_isSaid_99 ?_
              refine lv_iload F.1 F.2.1 dX12_isSaid_102 (lv_at hl 1 rfl) ?_
              refine a_iald F hP 87 tc_87 rfl (i_in rfl (by omega)) dX12_isSaid_104 (fun v36 ev36 => ?_)
              have hqv36 := ld_same ev7 ev36 rfl rfl
              refine a_bp F (21 : Int32) dX12_isSaid_105 (by decide) ?_
              refine b_ne F 138 dX12_isSaid_107 (by decide) rfl ic_21 (fun c37 => ?_) (fun c37 => ?_)
              · refine lv_aload_n F.1 F.2.1 dX12_isSaid_138 rfl (lv_at hl 2 rfl) ?_
                refine a_getr F inX12 hP 85 44 tc_85 rfl rfl (by decide) q1515 (fun _ h9 => h9) dX12_isSaid_139 ?_
                refine lv_iload_n F.1 F.2.1 dX12_isSaid_142 rfl (lv_at hl 0 rfl) ?_
                refine a_ic F (1 : Int32) dX12_isSaid_143 (by decide) ?_
                refine a_isub F dX12_isSaid_144 rfl ic_1 (by omega) (fun v38 hv38 => ?_)
                refine a_zald F hP 101 tc_101 rfl (i_in rfl (by omega)) dX12_isSaid_145 (fun v39 ev39 => ?_)
                have hv39 : (0 : Int) ≤ v39.toInt ∧ v39.toInt ≤ 1 := ev39 ▸ hR 101 _
                refine z_ne F 158 dX12_isSaid_146 (by decide) rfl (fun c40 => ?_) (fun c40 => ?_)
                · refine a_ic F (1 : Int32) dX12_isSaid_158 (by decide) ?_
                  refine lv_goto (tgt := 163) F.1 F.2.1 dX12_isSaid_159 (by decide) ?_
                  refine a_zast F hP hD hS 101 tc_101 rfl (i_in rfl (by omega)) dX12_isSaid_163 (fun H locs hP hD hS => ?_)
                  rw [i_znar (Or.inr rfl)] at hP hD
                  have hR := hR.si (c := 101) (k := v35.toNatClampNeg) (v := (1 : Int32)) (by rw [ic_1]; exact (by omega : (0 : Int) ≤ (1 : Int) ∧ (1 : Int) ≤ 1))
                  have hF := hF.si (c := 101) (k := v35.toNatClampNeg) (v := (1 : Int32)) rfl
                  have hK_CW := sp_sgD sp_CW hD hK_CW (by decide)
                  have hK_DPx := sp_sgD (sp_dp _ _ (by omega)) hD hK_DPx (by decide)
                  refine lv_goto (tgt := 206) F.1 F.2.1 dX12_isSaid_164 (by decide) ?_
                  exact L206 v34 x3 _ _ _ _ hR hF hK_CW (dp_eq hmc rfl (by unfold cdl; omega)) (by omega) (by omega) (by omega : (1 : Int) ≤ (u.1 87 476).toInt ∧ (u.1 87 476).toInt ≤ 45) (by omega : 0 ≤ v34.toInt ∧ v34.toInt ≤ x3.toInt + 1) (by omega) hP hD hS (lv_sub hl [2, 3, 0, 4] rfl)
                · refine lv_aload_n F.1 F.2.1 dX12_isSaid_149 rfl (lv_at hl 2 rfl) ?_
                  refine a_getr F inX12 hP 85 44 tc_85 rfl rfl (by decide) q1515 (fun _ h9 => h9) dX12_isSaid_150 ?_
                  refine lv_iload_n F.1 F.2.1 dX12_isSaid_153 rfl (lv_at hl 0 rfl) ?_
                  refine a_zald F hP 101 tc_101 rfl (i_in rfl (by omega)) dX12_isSaid_154 (fun v41 ev41 => ?_)
                  have hv41 : (0 : Int) ≤ v41.toInt ∧ v41.toInt ≤ 1 := ev41 ▸ hR 101 _
                  refine z_eq F 162 dX12_isSaid_155 (by decide) rfl (fun c42 => ?_) (fun c42 => ?_)
                  · refine a_ic F (0 : Int32) dX12_isSaid_162 (by decide) ?_
                    refine a_zast F hP hD hS 101 tc_101 rfl (i_in rfl (by omega)) dX12_isSaid_163 (fun H locs hP hD hS => ?_)
                    rw [i_znar (Or.inl rfl)] at hP hD
                    have hR := hR.si (c := 101) (k := v35.toNatClampNeg) (v := (0 : Int32)) (by rw [ic_0]; exact (by omega : (0 : Int) ≤ (0 : Int) ∧ (0 : Int) ≤ 1))
                    have hF := hF.si (c := 101) (k := v35.toNatClampNeg) (v := (0 : Int32)) rfl
                    have hK_CW := sp_sgD sp_CW hD hK_CW (by decide)
                    have hK_DPx := sp_sgD (sp_dp _ _ (by omega)) hD hK_DPx (by decide)
                    refine lv_goto (tgt := 206) F.1 F.2.1 dX12_isSaid_164 (by decide) ?_
                    exact L206 v34 x3 _ _ _ _ hR hF hK_CW (dp_eq hmc rfl (by unfold cdl; omega)) (by omega) (by omega) (by omega : (1 : Int) ≤ (u.1 87 476).toInt ∧ (u.1 87 476).toInt ≤ 45) (by omega : 0 ≤ v34.toInt ∧ v34.toInt ≤ x3.toInt + 1) (by omega) hP hD hS (lv_sub hl [2, 3, 0, 4] rfl)
                  · refine a_ic F (1 : Int32) dX12_isSaid_158 (by decide) ?_
                    refine lv_goto (tgt := 163) F.1 F.2.1 dX12_isSaid_159 (by decide) ?_
                    refine a_zast F hP hD hS 101 tc_101 rfl (i_in rfl (by omega)) dX12_isSaid_163 (fun H locs hP hD hS => ?_)
                    rw [i_znar (Or.inr rfl)] at hP hD
                    have hR := hR.si (c := 101) (k := v35.toNatClampNeg) (v := (1 : Int32)) (by rw [ic_1]; exact (by omega : (0 : Int) ≤ (1 : Int) ∧ (1 : Int) ≤ 1))
                    have hF := hF.si (c := 101) (k := v35.toNatClampNeg) (v := (1 : Int32)) rfl
                    have hK_CW := sp_sgD sp_CW hD hK_CW (by decide)
                    have hK_DPx := sp_sgD (sp_dp _ _ (by omega)) hD hK_DPx (by decide)
                    refine lv_goto (tgt := 206) F.1 F.2.1 dX12_isSaid_164 (by decide) ?_
                    exact L206 v34 x3 _ _ _ _ hR hF hK_CW (dp_eq hmc rfl (by unfold cdl; omega)) (by omega) (by omega) (by omega : (1 : Int) ≤ (u.1 87 476).toInt ∧ (u.1 87 476).toInt ≤ 45) (by omega : 0 ≤ v34.toInt ∧ v34.toInt ≤ x3.toInt + 1) (by omega) hP hD hS (lv_sub hl [2, 3, 0, 4] rfl)
              · refine lv_aload_n F.1 F.2.1 dX12_isSaid_110 rfl (lv_at hl 2 rfl) ?_
                refine a_getr F inX12 hP 85 44 tc_85 rfl rfl (by decide) q1515 (fun _ h9 => h9) dX12_isSaid_111 ?_
                refine lv_iload_n F.1 F.2.1 dX12_isSaid_114 rfl (lv_at hl 0 rfl) ?_
                refine a_ic F (1 : Int32) dX12_isSaid_115 (by decide) ?_
                refine a_isub F dX12_isSaid_116 rfl ic_1 (by omega) (fun v43 hv43 => ?_)
                refine a_zald F hP 101 tc_101 rfl (i_in rfl (by omega)) dX12_isSaid_117 (fun v44 ev44 => ?_)
                have hv44 : (0 : Int) ≤ v44.toInt ∧ v44.toInt ≤ 1 := ev44 ▸ hR 101 _
                refine z_eq F 134 dX12_isSaid_118 (by decide) rfl (fun c45 => ?_) (fun c45 => ?_)
                · refine a_ic F (0 : Int32) dX12_isSaid_134 (by decide) ?_
                  refine lv_goto (tgt := 163) F.1 F.2.1 dX12_isSaid_135 (by decide) ?_
                  refine a_zast F hP hD hS 101 tc_101 rfl (i_in rfl (by omega)) dX12_isSaid_163 (fun H locs hP hD hS => ?_)
                  rw [i_znar (Or.inl rfl)] at hP hD
                  have hR := hR.si (c := 101) (k := v35.toNatClampNeg) (v := (0 : Int32)) (by rw [ic_0]; exact (by omega : (0 : Int) ≤ (0 : Int) ∧ (0 : Int) ≤ 1))
                  have hF := hF.si (c := 101) (k := v35.toNatClampNeg) (v := (0 : Int32)) rfl
                  have hK_CW := sp_sgD sp_CW hD hK_CW (by decide)
                  have hK_DPx := sp_sgD (sp_dp _ _ (by omega)) hD hK_DPx (by decide)
                  refine lv_goto (tgt := 206) F.1 F.2.1 dX12_isSaid_164 (by decide) ?_
                  exact L206 v34 x3 _ _ _ _ hR hF hK_CW (dp_eq hmc rfl (by unfold cdl; omega)) (by omega) (by omega) (by omega : (1 : Int) ≤ (u.1 87 476).toInt ∧ (u.1 87 476).toInt ≤ 45) (by omega : 0 ≤ v34.toInt ∧ v34.toInt ≤ x3.toInt + 1) (by omega) hP hD hS (lv_sub hl [2, 3, 0, 4] rfl)
                · refine lv_aload_n F.1 F.2.1 dX12_isSaid_121 rfl (lv_at hl 2 rfl) ?_
                  refine a_getr F inX12 hP 85 44 tc_85 rfl rfl (by decide) q1515 (fun _ h9 => h9) dX12_isSaid_122 ?_
                  refine lv_iload_n F.1 F.2.1 dX12_isSaid_125 rfl (lv_at hl 0 rfl) ?_
                  refine a_zald F hP 101 tc_101 rfl (i_in rfl (by omega)) dX12_isSaid_126 (fun v46 ev46 => ?_)
                  have hv46 : (0 : Int) ≤ v46.toInt ∧ v46.toInt ≤ 1 := ev46 ▸ hR 101 _
                  refine z_eq F 134 dX12_isSaid_127 (by decide) rfl (fun c47 => ?_) (fun c47 => ?_)
                  · refine a_ic F (0 : Int32) dX12_isSaid_134 (by decide) ?_
                    refine lv_goto (tgt := 163) F.1 F.2.1 dX12_isSaid_135 (by decide) ?_
                    refine a_zast F hP hD hS 101 tc_101 rfl (i_in rfl (by omega)) dX12_isSaid_163 (fun H locs hP hD hS => ?_)
                    rw [i_znar (Or.inl rfl)] at hP hD
                    have hR := hR.si (c := 101) (k := v35.toNatClampNeg) (v := (0 : Int32)) (by rw [ic_0]; exact (by omega : (0 : Int) ≤ (0 : Int) ∧ (0 : Int) ≤ 1))
                    have hF := hF.si (c := 101) (k := v35.toNatClampNeg) (v := (0 : Int32)) rfl
                    have hK_CW := sp_sgD sp_CW hD hK_CW (by decide)
                    have hK_DPx := sp_sgD (sp_dp _ _ (by omega)) hD hK_DPx (by decide)
                    refine lv_goto (tgt := 206) F.1 F.2.1 dX12_isSaid_164 (by decide) ?_
                    exact L206 v34 x3 _ _ _ _ hR hF hK_CW (dp_eq hmc rfl (by unfold cdl; omega)) (by omega) (by omega) (by omega : (1 : Int) ≤ (u.1 87 476).toInt ∧ (u.1 87 476).toInt ≤ 45) (by omega : 0 ≤ v34.toInt ∧ v34.toInt ≤ x3.toInt + 1) (by omega) hP hD hS (lv_sub hl [2, 3, 0, 4] rfl)
                  · refine a_ic F (1 : Int32) dX12_isSaid_130 (by decide) ?_
                    refine lv_goto (tgt := 163) F.1 F.2.1 dX12_isSaid_131 (by decide) ?_
                    refine a_zast F hP hD hS 101 tc_101 rfl (i_in rfl (by omega)) dX12_isSaid_163 (fun H locs hP hD hS => ?_)
                    rw [i_znar (Or.inr rfl)] at hP hD
                    have hR := hR.si (c := 101) (k := v35.toNatClampNeg) (v := (1 : Int32)) (by rw [ic_1]; exact (by omega : (0 : Int) ≤ (1 : Int) ∧ (1 : Int) ≤ 1))
                    have hF := hF.si (c := 101) (k := v35.toNatClampNeg) (v := (1 : Int32)) rfl
                    have hK_CW := sp_sgD sp_CW hD hK_CW (by decide)
                    have hK_DPx := sp_sgD (sp_dp _ _ (by omega)) hD hK_DPx (by decide)
                    refine lv_goto (tgt := 206) F.1 F.2.1 dX12_isSaid_164 (by decide) ?_
                    exact L206 v34 x3 _ _ _ _ hR hF hK_CW (dp_eq hmc rfl (by unfold cdl; omega)) (by omega) (by omega) (by omega : (1 : Int) ≤ (u.1 87 476).toInt ∧ (u.1 87 476).toInt ≤ 45) (by omega : 0 ≤ v34.toInt ∧ v34.toInt ≤ x3.toInt + 1) (by omega) hP hD hS (lv_sub hl [2, 3, 0, 4] rfl)
        · refine lv_aload_n F.1 F.2.1 dX12_isSaid_37 rfl (lv_at hl 1 rfl) ?_
          refine a_getr F inX12 hP 85 44 tc_85 rfl rfl (by decide) q1515 (fun _ h9 => h9) dX12_isSaid_38 ?_
          refine lv_iload_n F.1 F.2.1 dX12_isSaid_41 rfl (lv_at hl 3 rfl) ?_
          refine a_ic F (1 : Int32) dX12_isSaid_42 (by decide) ?_
          refine a_isub F dX12_isSaid_43 rfl ic_1 (by omega) (fun v48 hv48 => ?_)
          refine lv_aload_n F.1 F.2.1 dX12_isSaid_44 rfl (lv_at hl 1 rfl) ?_
          refine a_getr F inX12 hP 85 44 tc_85 rfl rfl (by decide) q1515 (fun _ h9 => h9) dX12_isSaid_45 ?_
          refine lv_iload_n F.1 F.2.1 dX12_isSaid_48 rfl (lv_at hl 3 rfl) ?_
          refine a_ic F (1 : Int32) dX12_isSaid_49 (by decide) ?_
          refine a_isub F dX12_isSaid_50 rfl ic_1 (by omega) (fun v49 hv49 => ?_)
          refine a_zald F hP 101 tc_101 rfl (i_in rfl (by omega)) dX12_isSaid_51 (fun v50 ev50 => ?_)
          have hv50 : (0 : Int) ≤ v50.toInt ∧ v50.toInt ≤ 1 := ev50 ▸ hR 101 _
          refine z_ne F 59 dX12_isSaid_52 (by decide) rfl (fun c51 => ?_) (fun c51 => ?_)
          · refine a_ic F (0 : Int32) dX12_isSaid_59 (by decide) ?_
            refine a_zast F hP hD hS 101 tc_101 rfl (i_in rfl (by omega)) dX12_isSaid_60 (fun H locs hP hD hS => ?_)
            rw [i_znar (Or.inl rfl)] at hP hD
            have hR := hR.si (c := 101) (k := v48.toNatClampNeg) (v := (0 : Int32)) (by rw [ic_0]; exact (by omega : (0 : Int) ≤ (0 : Int) ∧ (0 : Int) ≤ 1))
            have hF := hF.si (c := 101) (k := v48.toNatClampNeg) (v := (0 : Int32)) rfl
            have hK_CW := sp_sgD sp_CW hD hK_CW (by decide)
            have hK_DPx := sp_sgD (sp_dp _ _ (by omega)) hD hK_DPx (by decide)
            refine lv_goto (tgt := 206) F.1 F.2.1 dX12_isSaid_61 (by decide) ?_
            exact L206 x2 x3 _ _ _ _ hR hF hK_CW (dp_eq hmc rfl (by unfold cdl; omega)) (by omega) (by omega) (by omega : (1 : Int) ≤ (u.1 87 476).toInt ∧ (u.1 87 476).toInt ≤ 45) (by omega : 0 ≤ x2.toInt ∧ x2.toInt ≤ x3.toInt + 1) (by omega) hP hD hS (lv_sub hl [1, 2, 3, 4] rfl)
          · refine a_ic F (1 : Int32) dX12_isSaid_55 (by decide) ?_
            refine lv_goto (tgt := 60) F.1 F.2.1 dX12_isSaid_56 (by decide) ?_
            refine a_zast F hP hD hS 101 tc_101 rfl (i_in rfl (by omega)) dX12_isSaid_60 (fun H locs hP hD hS => ?_)
            rw [i_znar (Or.inr rfl)] at hP hD
            have hR := hR.si (c := 101) (k := v48.toNatClampNeg) (v := (1 : Int32)) (by rw [ic_1]; exact (by omega : (0 : Int) ≤ (1 : Int) ∧ (1 : Int) ≤ 1))
            have hF := hF.si (c := 101) (k := v48.toNatClampNeg) (v := (1 : Int32)) rfl
            have hK_CW := sp_sgD sp_CW hD hK_CW (by decide)
            have hK_DPx := sp_sgD (sp_dp _ _ (by omega)) hD hK_DPx (by decide)
            refine lv_goto (tgt := 206) F.1 F.2.1 dX12_isSaid_61 (by decide) ?_
            exact L206 x2 x3 _ _ _ _ hR hF hK_CW (dp_eq hmc rfl (by unfold cdl; omega)) (by omega) (by omega) (by omega : (1 : Int) ≤ (u.1 87 476).toInt ∧ (u.1 87 476).toInt ≤ 45) (by omega : 0 ≤ x2.toInt ∧ x2.toInt ≤ x3.toInt + 1) (by omega) hP hD hS (lv_sub hl [1, 2, 3, 4] rfl)
  refine a_ic F (0 : Int32) dX12_isSaid_0 (by decide) ?_
  refine lv_istore_n (lv' := [(2, .int (0 : Int32)), (0, .ref (ad 85)), (1, .int p0)]) F.1 F.2.1 dX12_isSaid_1 rfl hl (by decide) rfl (fun ls hl => ?_)
  refine a_ic F (0 : Int32) dX12_isSaid_2 (by decide) ?_
  refine lv_istore_n (lv' := [(3, .int (0 : Int32)), (2, .int (0 : Int32)), (0, .ref (ad 85)), (1, .int p0)]) F.1 F.2.1 dX12_isSaid_3 rfl hl (by decide) rfl (fun ls hl => ?_)
  exact L4 47 (0 : Int32) (0 : Int32) _ _ _ _ hR hF (by decide) hK_CW (dp_0 (by decide) (by decide)) (by decide) (by decide) (by first | (rw [ic_0]; exact (by omega : 0 ≤ (0 : Int) ∧ (0 : Int) ≤ (0 : Int))) | rw [ic_0]) hP hD hS (lv_sub hl [2, 3, 1, 0] rfl)
set_option maxHeartbeats 600000 in
set_option maxRecDepth 100000 in
theorem c_X12_operand_85 (l : Launch) (dC : Nat → ClassId) (dI : Nat → Nat → Nat) (ad : Nat → Nat) (cA : Nat → ClassId) (nF : Nat) (u0 : ac_U)  (hR : ac_R rg u0) (hf_85_43 : (0 : Int) ≤ (u0.1 85 43).toInt ∧ (u0.1 85 43).toInt ≤ 0) (hr0 : (u0.1 85 39).toInt + (u0.1 85 41).toInt ≤ 2 * (u0.1 85 40).toInt) (hK_SW0 : (swI 0) u0) : ac_Mi l yX12_operand (.code yX12_operand cX12_operand 5 (some .boolean) :: TB) 3 (dC, dI) vwCl (ac_ty cA) ad cA (TT nF) [.ref (ad 85)] u0 (fun (r : Int32) (u : ac_U) => ac_R rg u ∧ ac_Fr [(85, some 4), (85, some 11), (85, some 12), (85, some 13), (85, some 14), (85, some 15), (85, some 16), (85, some 18), (85, some 39), (85, some 40), (85, some 41), (85, some 42), (85, some 43), (89, none), (100, none)] u0 u ∧ ((0 : Int) ≤ r.toInt ∧ r.toInt ≤ 1) ∧ (r.toInt ≠ 0 → (u.1 85 40).toInt = (u0.1 85 40).toInt + 1 ∧ (u.1 85 39).toInt + (u.1 85 41).toInt ≤ 2 * (u.1 85 40).toInt - (u.1 85 43).toInt ∧ (u.1 85 41).toInt + 2 * (u.1 85 43).toInt ≤ (u0.1 85 41).toInt + 2) ∧ (r.toInt ≠ 0 → swW u)) := by
  refine ac_Mi.of (cc := cX12_operand) (maxL := 5) (ret := (some .boolean)) (by decide) rfl (Nat.le_of_ble_eq_true rfl) ?_
  intro p e s m below meth c A ls F hml hr hlocks hA hP hD hS hl
  have F : ac_X p s m [.ref (ad 85)].toArray c cX12_operand RX12 TB (dC, dI) vwCl (ac_ty cA) := ⟨F.1, F.2.1, fun w h => F.2.2.1 w (List.mem_cons_of_mem _ h), F.2.2.2.1, F.2.2.2.2⟩
  have hl : lv_has ls 5 [(0, .ref (ad 85))] := hl
  have hF : ac_Fr [(85, some 4), (85, some 11), (85, some 12), (85, some 13), (85, some 14), (85, some 15), (85, some 16), (85, some 18), (85, some 39), (85, some 40), (85, some 41), (85, some 42), (85, some 43), (89, none), (100, none)] u0 u0 := ac_Fr.rf
  have L209 : ∀ (u : ac_U) (H : Heap) (locs : List Loc) (ls : Array Slot), ac_R rg u → ac_Fr [(85, some 4), (85, some 11), (85, some 12), (85, some 13), (85, some 14), (85, some 15), (85, some 16), (85, some 18), (85, some 39), (85, some 40), (85, some 41), (85, some 42), (85, some 43), (89, none), (100, none)] u0 u → (1 : Int) ≤ (u.1 85 40).toInt ∧ (u.1 85 40).toInt ≤ 20 → (u.1 85 42).toInt ≤ 8 → (1 : Int) ≤ (u.1 85 43).toInt ∧ (u.1 85 43).toInt ≤ 1 → va_P (dC, dI) vwCl (ac_w ad cA (TT nF) u) H → va_D A (ac_w ad cA (TT nF) u) → va_S A s.heap H locs → lv_has ls 5 [(0, .ref (ad 85))] → W p l e (ac_rm 3) s m [.ref (ad 85)].toArray below meth c H locs 0 0 (MQ below (va_Qi (fun (r : Int32) (u : ac_U) => ac_R rg u ∧ ac_Fr [(85, some 4), (85, some 11), (85, some 12), (85, some 13), (85, some 14), (85, some 15), (85, some 16), (85, some 18), (85, some 39), (85, some 40), (85, some 41), (85, some 42), (85, some 43), (89, none), (100, none)] u0 u ∧ ((0 : Int) ≤ r.toInt ∧ r.toInt ≤ 1) ∧ (r.toInt ≠ 0 → (u.1 85 40).toInt = (u0.1 85 40).toInt + 1 ∧ (u.1 85 39).toInt + (u.1 85 41).toInt ≤ 2 * (u.1 85 40).toInt - (u.1 85 43).toInt ∧ (u.1 85 41).toInt + 2 * (u.1 85 43).toInt ≤ (u0.1 85 41).toInt + 2) ∧ (r.toInt ≠ 0 → swW u)) (ac_B (dC, dI) vwCl (ac_ty cA) ad cA (TT nF) A) A) [.ref (ad 85)].toArray s 0 0 A) (F0 m 209 ls []) := by
    intro u H locs ls hR hF f0 f1 f2 hP hD hS hl
    refine lv_aload_n F.1 F.2.1 dX12_operand_209 rfl (lv_at hl 0 rfl) ?_
    refine a_ic F (1 : Int32) dX12_operand_210 (by decide) ?_
    have g2 : (0 : Int) ≤ (u.1 85 39).toInt ∧ (u.1 85 39).toInt ≤ 45 := hR 85 39
    have g3 : (0 : Int) ≤ (u.1 85 41).toInt ∧ (u.1 85 41).toInt ≤ 45 := hR 85 41
    have g4 : (0 : Int) ≤ (u.1 85 40).toInt ∧ (u.1 85 40).toInt ≤ 20 := hR 85 40
    have g5 : (0 : Int) ≤ (u.1 85 43).toInt ∧ (u.1 85 43).toInt ≤ 1 := hR 85 43
    refine a_Vi F hml hl.1 hA hP hD hS (As := [.int (1 : Int32)]) (c_X12_bad_85 l dC dI ad cA nF _ (1 : Int32) hR (by decide)) (cs_RX12_181 (d := 1) F.2.2.1 (by decide)) tc_85 rfl rfl rfl rfl (Nat.le_of_ble_eq_true rfl) dX12_operand_211 ⟨Nat.le_refl 0, Nat.le_refl 0⟩ (fun r1 u1 H locs hq hP hD hS => ?_)
    obtain ⟨hR, hF1, gr1⟩ := hq
    have hF := hF.tr hF1 (by decide)
    have k6 : (u1.1 85 40).toInt = (u.1 85 40).toInt := congrArg Int32.toInt (show u1.1 85 40 = (u.1 85 40) from hF1 85 40 rfl)
    have k7 : (u1.1 85 39).toInt = (u.1 85 39).toInt := congrArg Int32.toInt (show u1.1 85 39 = (u.1 85 39) from hF1 85 39 rfl)
    have k8 : (u1.1 85 41).toInt = (u.1 85 41).toInt := congrArg Int32.toInt (show u1.1 85 41 = (u.1 85 41) from hF1 85 41 rfl)
    have k9 : (u1.1 85 43).toInt = (u.1 85 43).toInt := congrArg Int32.toInt (show u1.1 85 43 = (u.1 85 43) from hF1 85 43 rfl)
    exact a_retz F hr hlocks hP hD hS dX12_operand_214 (i_01 (by omega)) ⟨hR, hF, (by omega : (0 : Int) ≤ r1.toInt ∧ r1.toInt ≤ 1), (by omega : r1.toInt ≠ 0 → (u1.1 85 40).toInt = (u0.1 85 40).toInt + 1 ∧ (u1.1 85 39).toInt + (u1.1 85 41).toInt ≤ 2 * (u1.1 85 40).toInt - (u1.1 85 43).toInt ∧ (u1.1 85 41).toInt + 2 * (u1.1 85 43).toInt ≤ (u0.1 85 41).toInt + 2), (fun h9 => absurd (by omega : r1.toInt = 0) h9)⟩
  have L84 : ∀ (x1 : Int32) (u : ac_U) (H : Heap) (locs : List Loc) (ls : Array Slot), ac_R rg u → ac_Fr [(85, some 4), (85, some 11), (85, some 12), (85, some 13), (85, some 14), (85, some 15), (85, some 16), (85, some 18), (85, some 39), (85, some 40), (85, some 41), (85, some 42), (85, some 43), (89, none), (100, none)] u0 u → (swI 0) u → (0 : Int) ≤ x1.toInt ∧ x1.toInt ≤ 1 → (1 : Int) ≤ (u.1 85 40).toInt ∧ (u.1 85 40).toInt ≤ 20 → (u.1 85 42).toInt ≤ 8 → (0 : Int) ≤ (u.1 85 43).toInt ∧ (u.1 85 43).toInt ≤ 0 → (u.1 85 40).toInt = (u0.1 85 40).toInt + 1 → (u.1 85 39).toInt = (u0.1 85 39).toInt → (u.1 85 41).toInt = (u0.1 85 41).toInt → (u.1 85 43).toInt = 0 → va_P (dC, dI) vwCl (ac_w ad cA (TT nF) u) H → va_D A (ac_w ad cA (TT nF) u) → va_S A s.heap H locs → lv_has ls 5 [(0, .ref (ad 85)), (1, .int x1)] → W p l e (ac_rm 3) s m [.ref (ad 85)].toArray below meth c H locs 0 0 (MQ below (va_Qi (fun (r : Int32) (u : ac_U) => ac_R rg u ∧ ac_Fr [(85, some 4), (85, some 11), (85, some 12), (85, some 13), (85, some 14), (85, some 15), (85, some 16), (85, some 18), (85, some 39), (85, some 40), (85, some 41), (85, some 42), (85, some 43), (89, none), (100, none)] u0 u ∧ ((0 : Int) ≤ r.toInt ∧ r.toInt ≤ 1) ∧ (r.toInt ≠ 0 → (u.1 85 40).toInt = (u0.1 85 40).toInt + 1 ∧ (u.1 85 39).toInt + (u.1 85 41).toInt ≤ 2 * (u.1 85 40).toInt - (u.1 85 43).toInt ∧ (u.1 85 41).toInt + 2 * (u.1 85 43).toInt ≤ (u0.1 85 41).toInt + 2) ∧ (r.toInt ≠ 0 → swW u)) (ac_B (dC, dI) vwCl (ac_ty cA) ad cA (TT nF) A) A) [.ref (ad 85)].toArray s 0 0 A) (F0 m 84 ls []) := by
    intro x1 u H locs ls hR hF hK_SW0 f0 f1 f2 f3 f4 f5 f6 f7 hP hD hS hl
    have hz10 : 0 ≤ (u.1 85 39).toInt ∧ (u.1 85 39).toInt ≤ 45 := hR 85 39
    have hy10 : 0 ≤ (u.1 85 41).toInt ∧ (u.1 85 41).toInt ≤ 45 := hR 85 41
    have hx10 : 0 ≤ (u.1 85 40).toInt ∧ (u.1 85 40).toInt ≤ 20 := hR 85 40
    refine lv_aload_n F.1 F.2.1 dX12_operand_84 rfl (lv_at hl 0 rfl) ?_
    refine a_getr F inX12 hP 85 38 tc_85 rfl rfl (by decide) q1509 (fun _ h9 => h9) dX12_operand_85 ?_
    refine lv_aload_n F.1 F.2.1 dX12_operand_88 rfl (lv_at hl 0 rfl) ?_
    have g11 : (0 : Int) ≤ (u.1 85 41).toInt ∧ (u.1 85 41).toInt ≤ 45 := hR 85 41
    refine a_geti F inX12 hP 85 41 tc_85 rfl rfl (by decide) q1512 (fun _ h9 => h9) (v := (u.1 85 41)) rfl dX12_operand_89 ?_
    refine lv_iload_n F.1 F.2.1 dX12_operand_92 rfl (lv_at hl 1 rfl) ?_
    refine z_eq F 101 dX12_operand_93 (by decide) rfl (fun c12 => ?_) (fun c12 => ?_)
    · refine a_bp F (23 : Int32) dX12_operand_101 (by decide) ?_
      refine a_iast F hP hD hS 100 tc_100 rfl (i_in rfl (by omega)) dX12_operand_103 (fun H locs hP hD hS => ?_)
      have hR := hR.si (c := 100) (k := (u.1 85 41).toNatClampNeg) (v := (23 : Int32)) ⟨i_lo _, i_hi _⟩
      have hF := hF.si (c := 100) (k := (u.1 85 41).toNatClampNeg) (v := (23 : Int32)) rfl
      have hO_SW0 := hK_SW0
      refine lv_aload_n F.1 F.2.1 dX12_operand_104 rfl (lv_at hl 0 rfl) ?_
      refine lv_dup F.1 F.2.1 dX12_operand_105 rfl ?_
      refine a_geti F inX12 hP 85 41 tc_85 rfl rfl (by decide) q1512 (fun _ h9 => h9) (v := (u.1 85 41)) (rfl) dX12_operand_106 ?_
      refine a_ic F (1 : Int32) dX12_operand_109 (by decide) ?_
      refine a_iadd F dX12_operand_110 rfl ic_1 (by omega) (fun v13 hv13 => ?_)
      refine a_puti F inX12 tyX12 tyX12_ok nmX12 hP hD hS 85 41 tc_85 rfl rfl (by decide) q1512 (fun _ h9 => h9) rfl (ty := .int) (tyX12_ok 41 (by decide)) rfl rfl dX12_operand_111 (fun H locs hP hD hS => ?_)
      have hR := hR.si (c := 85) (k := 41) (v := v13) (by omega : (0 : Int) ≤ v13.toInt ∧ v13.toInt ≤ 45)
      have hF := hF.si (c := 85) (k := 41) (v := v13) rfl
      have hO_SW0 := hK_SW0
      have hK_SW0 := sw_ps0 hK_SW0 (t := (u.1 85 41)) (rfl) (i := (u.1 85 41)) (x := (23 : Int32)) (v := v13) (by omega) (by omega) (by omega) (by decide) rfl rfl
      refine lv_aload_n F.1 F.2.1 dX12_operand_114 rfl (lv_at hl 0 rfl) ?_
      refine lv_dup F.1 F.2.1 dX12_operand_115 rfl ?_
      refine a_geti F inX12 hP 85 42 tc_85 rfl rfl (by decide) q1513 (fun _ h9 => h9) (v := (u.1 85 42)) rfl dX12_operand_116 ?_
      refine a_ic F (1 : Int32) dX12_operand_119 (by decide) ?_
      refine a_iadd F dX12_operand_120 rfl ic_1 (by have q0 := i_lo (u.1 85 42); omega) (fun v14 hv14 => ?_)
      refine a_puti F inX12 tyX12 tyX12_ok nmX12 hP hD hS 85 42 tc_85 rfl rfl (by decide) q1513 (fun _ h9 => h9) rfl (ty := .int) (tyX12_ok 42 (by decide)) rfl rfl dX12_operand_121 (fun H locs hP hD hS => ?_)
      have hR := hR.si (c := 85) (k := 42) (v := v14) ⟨i_lo _, i_hi _⟩
      have hF := hF.si (c := 85) (k := 42) (v := v14) rfl
      have hK_SW0 := sp_si (sp_sw _) hK_SW0 (c := 85) (k := 42) (v := v14) (fun j9 h9 q9 => by rw [q9] at h9; exact absurd h9 (by decide))
      refine a_ic F (1 : Int32) dX12_operand_124 (by decide) ?_
      have g15 : (0 : Int) ≤ (u.1 85 40).toInt ∧ (u.1 85 40).toInt ≤ 20 := hR 85 40
      have g16 : (0 : Int) ≤ (u.1 85 39).toInt ∧ (u.1 85 39).toInt ≤ 45 := hR 85 39
      have g17 : (0 : Int) ≤ (u.1 85 43).toInt ∧ (u.1 85 43).toInt ≤ 1 := hR 85 43
      exact a_retz F hr hlocks hP hD hS dX12_operand_125 (Or.inr rfl) ⟨hR, hF, (by decide), (by first | exact (by omega : (1 : Int) ≠ 0 → (u.1 85 40).toInt = (u0.1 85 40).toInt + 1 ∧ (u.1 85 39).toInt + v13.toInt ≤ 2 * (u.1 85 40).toInt - (u.1 85 43).toInt ∧ v13.toInt + 2 * (u.1 85 43).toInt ≤ (u0.1 85 41).toInt + 2) | (rw [ic_1]; exact (by omega : (1 : Int) ≠ 0 → (u.1 85 40).toInt = (u0.1 85 40).toInt + 1 ∧ (u.1 85 39).toInt + v13.toInt ≤ 2 * (u.1 85 40).toInt - (u.1 85 43).toInt ∧ v13.toInt + 2 * (u.1 85 43).toInt ≤ (u0.1 85 41).toInt + 2))), (fun _ => sw_toD hD hK_SW0 (t := (u.1 85 43)) rfl (by first | decide | omega))⟩
    · refine a_bp F (20 : Int32) dX12_operand_96 (by decide) ?_
      refine lv_goto (tgt := 103) F.1 F.2.1 dX12_operand_98 (by decide) ?_
      refine a_iast F hP hD hS 100 tc_100 rfl (i_in rfl (by omega)) dX12_operand_103 (fun H locs hP hD hS => ?_)
      have hR := hR.si (c := 100) (k := (u.1 85 41).toNatClampNeg) (v := (20 : Int32)) ⟨i_lo _, i_hi _⟩
      have hF := hF.si (c := 100) (k := (u.1 85 41).toNatClampNeg) (v := (20 : Int32)) rfl
      have hO_SW0 := hK_SW0
      refine lv_aload_n F.1 F.2.1 dX12_operand_104 rfl (lv_at hl 0 rfl) ?_
      refine lv_dup F.1 F.2.1 dX12_operand_105 rfl ?_
      refine a_geti F inX12 hP 85 41 tc_85 rfl rfl (by decide) q1512 (fun _ h9 => h9) (v := (u.1 85 41)) (rfl) dX12_operand_106 ?_
      refine a_ic F (1 : Int32) dX12_operand_109 (by decide) ?_
      refine a_iadd F dX12_operand_110 rfl ic_1 (by omega) (fun v18 hv18 => ?_)
      refine a_puti F inX12 tyX12 tyX12_ok nmX12 hP hD hS 85 41 tc_85 rfl rfl (by decide) q1512 (fun _ h9 => h9) rfl (ty := .int) (tyX12_ok 41 (by decide)) rfl rfl dX12_operand_111 (fun H locs hP hD hS => ?_)
      have hR := hR.si (c := 85) (k := 41) (v := v18) (by omega : (0 : Int) ≤ v18.toInt ∧ v18.toInt ≤ 45)
      have hF := hF.si (c := 85) (k := 41) (v := v18) rfl
      have hO_SW0 := hK_SW0
      have hK_SW0 := sw_ps0 hK_SW0 (t := (u.1 85 41)) (rfl) (i := (u.1 85 41)) (x := (20 : Int32)) (v := v18) (by omega) (by omega) (by omega) (by decide) rfl rfl
      refine lv_aload_n F.1 F.2.1 dX12_operand_114 rfl (lv_at hl 0 rfl) ?_
      refine lv_dup F.1 F.2.1 dX12_operand_115 rfl ?_
      refine a_geti F inX12 hP 85 42 tc_85 rfl rfl (by decide) q1513 (fun _ h9 => h9) (v := (u.1 85 42)) rfl dX12_operand_116 ?_
      refine a_ic F (1 : Int32) dX12_operand_119 (by decide) ?_
      refine a_iadd F dX12_operand_120 rfl ic_1 (by have q0 := i_lo (u.1 85 42); omega) (fun v19 hv19 => ?_)
      refine a_puti F inX12 tyX12 tyX12_ok nmX12 hP hD hS 85 42 tc_85 rfl rfl (by decide) q1513 (fun _ h9 => h9) rfl (ty := .int) (tyX12_ok 42 (by decide)) rfl rfl dX12_operand_121 (fun H locs hP hD hS => ?_)
      have hR := hR.si (c := 85) (k := 42) (v := v19) ⟨i_lo _, i_hi _⟩
      have hF := hF.si (c := 85) (k := 42) (v := v19) rfl
      have hK_SW0 := sp_si (sp_sw _) hK_SW0 (c := 85) (k := 42) (v := v19) (fun j9 h9 q9 => by rw [q9] at h9; exact absurd h9 (by decide))
      refine a_ic F (1 : Int32) dX12_operand_124 (by decide) ?_
      have g20 : (0 : Int) ≤ (u.1 85 40).toInt ∧ (u.1 85 40).toInt ≤ 20 := hR 85 40
      have g21 : (0 : Int) ≤ (u.1 85 39).toInt ∧ (u.1 85 39).toInt ≤ 45 := hR 85 39
      have g22 : (0 : Int) ≤ (u.1 85 43).toInt ∧ (u.1 85 43).toInt ≤ 1 := hR 85 43
      exact a_retz F hr hlocks hP hD hS dX12_operand_125 (Or.inr rfl) ⟨hR, hF, (by decide), (by first | exact (by omega : (1 : Int) ≠ 0 → (u.1 85 40).toInt = (u0.1 85 40).toInt + 1 ∧ (u.1 85 39).toInt + v18.toInt ≤ 2 * (u.1 85 40).toInt - (u.1 85 43).toInt ∧ v18.toInt + 2 * (u.1 85 43).toInt ≤ (u0.1 85 41).toInt + 2) | (rw [ic_1]; exact (by omega : (1 : Int) ≠ 0 → (u.1 85 40).toInt = (u0.1 85 40).toInt + 1 ∧ (u.1 85 39).toInt + v18.toInt ≤ 2 * (u.1 85 40).toInt - (u.1 85 43).toInt ∧ v18.toInt + 2 * (u.1 85 43).toInt ≤ (u0.1 85 41).toInt + 2))), (fun _ => sw_toD hD hK_SW0 (t := (u.1 85 43)) rfl (by first | decide | omega))⟩
  have L56 : ∀ (u : ac_U) (H : Heap) (locs : List Loc) (ls : Array Slot), ac_R rg u → ac_Fr [(85, some 4), (85, some 11), (85, some 12), (85, some 13), (85, some 14), (85, some 15), (85, some 16), (85, some 18), (85, some 39), (85, some 40), (85, some 41), (85, some 42), (85, some 43), (89, none), (100, none)] u0 u → (0 : Int) ≤ (u.1 85 40).toInt ∧ (u.1 85 40).toInt ≤ 20 → (0 : Int) ≤ (u.1 85 43).toInt ∧ (u.1 85 43).toInt ≤ 0 → va_P (dC, dI) vwCl (ac_w ad cA (TT nF) u) H → va_D A (ac_w ad cA (TT nF) u) → va_S A s.heap H locs → lv_has ls 5 [(0, .ref (ad 85))] → W p l e (ac_rm 3) s m [.ref (ad 85)].toArray below meth c H locs 0 0 (MQ below (va_Qi (fun (r : Int32) (u : ac_U) => ac_R rg u ∧ ac_Fr [(85, some 4), (85, some 11), (85, some 12), (85, some 13), (85, some 14), (85, some 15), (85, some 16), (85, some 18), (85, some 39), (85, some 40), (85, some 41), (85, some 42), (85, some 43), (89, none), (100, none)] u0 u ∧ ((0 : Int) ≤ r.toInt ∧ r.toInt ≤ 1) ∧ (r.toInt ≠ 0 → (u.1 85 40).toInt = (u0.1 85 40).toInt + 1 ∧ (u.1 85 39).toInt + (u.1 85 41).toInt ≤ 2 * (u.1 85 40).toInt - (u.1 85 43).toInt ∧ (u.1 85 41).toInt + 2 * (u.1 85 43).toInt ≤ (u0.1 85 41).toInt + 2) ∧ (r.toInt ≠ 0 → swW u)) (ac_B (dC, dI) vwCl (ac_ty cA) ad cA (TT nF) A) A) [.ref (ad 85)].toArray s 0 0 A) (F0 m 56 ls []) := by
    intro u H locs ls hR hF f0 f1 hP hD hS hl
    refine lv_aload_n F.1 F.2.1 dX12_operand_56 rfl (lv_at hl 0 rfl) ?_
    refine a_ic F (4 : Int32) dX12_operand_57 (by decide) ?_
    have g24 : (0 : Int) ≤ (u.1 85 39).toInt ∧ (u.1 85 39).toInt ≤ 45 := hR 85 39
    have g25 : (0 : Int) ≤ (u.1 85 41).toInt ∧ (u.1 85 41).toInt ≤ 45 := hR 85 41
    have g26 : (0 : Int) ≤ (u.1 85 40).toInt ∧ (u.1 85 40).toInt ≤ 20 := hR 85 40
    have g27 : (0 : Int) ≤ (u.1 85 43).toInt ∧ (u.1 85 43).toInt ≤ 1 := hR 85 43
    refine a_Vi F hml hl.1 hA hP hD hS (As := [.int (4 : Int32)]) (c_X12_bad_85 l dC dI ad cA nF _ (4 : Int32) hR (by decide)) (cs_RX12_181 (d := 1) F.2.2.1 (by decide)) tc_85 rfl rfl rfl rfl (Nat.le_of_ble_eq_true rfl) dX12_operand_58 ⟨Nat.le_refl 0, Nat.le_refl 0⟩ (fun r23 u23 H locs hq hP hD hS => ?_)
    obtain ⟨hR, hF23, gr23⟩ := hq
    have hF := hF.tr hF23 (by decide)
    have k28 : (u23.1 85 40).toInt = (u.1 85 40).toInt := congrArg Int32.toInt (show u23.1 85 40 = (u.1 85 40) from hF23 85 40 rfl)
    have k29 : (u23.1 85 39).toInt = (u.1 85 39).toInt := congrArg Int32.toInt (show u23.1 85 39 = (u.1 85 39) from hF23 85 39 rfl)
    have k30 : (u23.1 85 41).toInt = (u.1 85 41).toInt := congrArg Int32.toInt (show u23.1 85 41 = (u.1 85 41) from hF23 85 41 rfl)
    have k31 : (u23.1 85 43).toInt = (u.1 85 43).toInt := congrArg Int32.toInt (show u23.1 85 43 = (u.1 85 43) from hF23 85 43 rfl)
    exact a_retz F hr hlocks hP hD hS dX12_operand_61 (i_01 (by omega)) ⟨hR, hF, (by omega : (0 : Int) ≤ r23.toInt ∧ r23.toInt ≤ 1), (by omega : r23.toInt ≠ 0 → (u23.1 85 40).toInt = (u0.1 85 40).toInt + 1 ∧ (u23.1 85 39).toInt + (u23.1 85 41).toInt ≤ 2 * (u23.1 85 40).toInt - (u23.1 85 43).toInt ∧ (u23.1 85 41).toInt + 2 * (u23.1 85 43).toInt ≤ (u0.1 85 41).toInt + 2), (fun h9 => absurd (by omega : r23.toInt = 0) h9)⟩
  have L38 : ∀ (x1 : Int32) (x2 : Int32) (x3 : Int32) (u : ac_U) (H : Heap) (locs : List Loc) (ls : Array Slot), ac_R rg u → ac_Fr [(85, some 4), (85, some 11), (85, some 12), (85, some 13), (85, some 14), (85, some 15), (85, some 16), (85, some 18), (85, some 39), (85, some 40), (85, some 41), (85, some 42), (85, some 43), (89, none), (100, none)] u0 u → (swI 0) u → (0 : Int) ≤ x1.toInt ∧ x1.toInt ≤ 1 → (0 : Int) ≤ x2.toInt ∧ x2.toInt ≤ 1 → (-1 : Int) ≤ x3.toInt ∧ x3.toInt ≤ 9 → (0 : Int) ≤ (u.1 85 43).toInt ∧ (u.1 85 43).toInt ≤ 0 → (u.1 85 40).toInt = (u0.1 85 40).toInt → (u.1 85 39).toInt = (u0.1 85 39).toInt → (u.1 85 41).toInt = (u0.1 85 41).toInt → (u.1 85 43).toInt = 0 → va_P (dC, dI) vwCl (ac_w ad cA (TT nF) u) H → va_D A (ac_w ad cA (TT nF) u) → va_S A s.heap H locs → lv_has ls 5 [(0, .ref (ad 85)), (1, .int x1), (2, .int x2), (3, .int x3)] → W p l e (ac_rm 3) s m [.ref (ad 85)].toArray below meth c H locs 0 0 (MQ below (va_Qi (fun (r : Int32) (u : ac_U) => ac_R rg u ∧ ac_Fr [(85, some 4), (85, some 11), (85, some 12), (85, some 13), (85, some 14), (85, some 15), (85, some 16), (85, some 18), (85, some 39), (85, some 40), (85, some 41), (85, some 42), (85, some 43), (89, none), (100, none)] u0 u ∧ ((0 : Int) ≤ r.toInt ∧ r.toInt ≤ 1) ∧ (r.toInt ≠ 0 → (u.1 85 40).toInt = (u0.1 85 40).toInt + 1 ∧ (u.1 85 39).toInt + (u.1 85 41).toInt ≤ 2 * (u.1 85 40).toInt - (u.1 85 43).toInt ∧ (u.1 85 41).toInt + 2 * (u.1 85 43).toInt ≤ (u0.1 85 41).toInt + 2) ∧ (r.toInt ≠ 0 → swW u)) (ac_B (dC, dI) vwCl (ac_ty cA) ad cA (TT nF) A) A) [.ref (ad 85)].toArray s 0 0 A) (F0 m 38 ls []) := by
    intro x1 x2 x3 u H locs ls hR hF hK_SW0 f0 f1 f2 f3 f4 f5 f6 f7 hP hD hS hl
    refine lv_aload_n F.1 F.2.1 dX12_operand_38 rfl (lv_at hl 0 rfl) ?_
    have g32 : (0 : Int) ≤ (u.1 85 40).toInt ∧ (u.1 85 40).toInt ≤ 20 := hR 85 40
    refine a_geti F inX12 hP 85 40 tc_85 rfl rfl (by decide) q1511 (fun _ h9 => h9) (v := (u.1 85 40)) rfl dX12_operand_39 ?_
    refine a_bp F (20 : Int32) dX12_operand_42 (by decide) ?_
    refine b_eq F 56 dX12_operand_44 (by decide) rfl ic_20 (fun c33 => ?_) (fun c33 => ?_)
    · have g34 : (0 : Int) ≤ (u.1 85 43).toInt ∧ (u.1 85 43).toInt ≤ 1 := hR 85 43
      exact L56 _ _ _ _ hR hF (by omega : (0 : Int) ≤ (u.1 85 40).toInt ∧ (u.1 85 40).toInt ≤ 20) (by omega : (0 : Int) ≤ (u.1 85 43).toInt ∧ (u.1 85 43).toInt ≤ 0) hP hD hS (lv_sub hl [0] rfl)
    · refine lv_aload_n F.1 F.2.1 dX12_operand_47 rfl (lv_at hl 0 rfl) ?_
      refine a_geti F inX12 hP 85 42 tc_85 rfl rfl (by decide) q1513 (fun _ h9 => h9) (v := (u.1 85 42)) rfl dX12_operand_48 ?_
      refine a_bp F (8 : Int32) dX12_operand_51 (by decide) ?_
      refine b_le F 62 dX12_operand_53 (by decide) rfl ic_8 (fun c35 => ?_) (fun c35 => ?_)
      · refine lv_aload_n F.1 F.2.1 dX12_operand_62 rfl (lv_at hl 0 rfl) ?_
        refine lv_dup F.1 F.2.1 dX12_operand_63 rfl ?_
        refine a_geti F inX12 hP 85 40 tc_85 rfl rfl (by decide) q1511 (fun _ h9 => h9) (v := (u.1 85 40)) (rfl) dX12_operand_64 ?_
        refine a_ic F (1 : Int32) dX12_operand_67 (by decide) ?_
        refine a_iadd F dX12_operand_68 rfl ic_1 (by omega) (fun v36 hv36 => ?_)
        refine a_puti F inX12 tyX12 tyX12_ok nmX12 hP hD hS 85 40 tc_85 rfl rfl (by decide) q1511 (fun _ h9 => h9) rfl (ty := .int) (tyX12_ok 40 (by decide)) rfl rfl dX12_operand_69 (fun H locs hP hD hS => ?_)
        have hR := hR.si (c := 85) (k := 40) (v := v36) (by omega : (0 : Int) ≤ v36.toInt ∧ v36.toInt ≤ 20)
        have hF := hF.si (c := 85) (k := 40) (v := v36) rfl
        have hK_SW0 := sp_si (sp_sw _) hK_SW0 (c := 85) (k := 40) (v := v36) (fun j9 h9 q9 => by rw [q9] at h9; exact absurd h9 (by decide))
        refine lv_aload_n F.1 F.2.1 dX12_operand_72 rfl (lv_at hl 0 rfl) ?_
        have g38 : (0 : Int) ≤ (u.1 85 39).toInt ∧ (u.1 85 39).toInt ≤ 45 := hR 85 39
        have g39 : (0 : Int) ≤ (u.1 85 41).toInt ∧ (u.1 85 41).toInt ≤ 45 := hR 85 41
        have g40 : (0 : Int) ≤ (u.1 85 43).toInt ∧ (u.1 85 43).toInt ≤ 1 := hR 85 43
        refine a_Vv F hml hl.1 hA hP hD hS (As := []) (c_X12_next_85 l dC dI ad cA nF _  hR) (cs_RX12_184 (d := 2) F.2.2.1 (by decide)) tc_85 rfl rfl rfl rfl (Nat.le_of_ble_eq_true rfl) dX12_operand_73 ⟨Nat.le_refl 0, Nat.le_refl 0⟩ (fun u37 H locs hq hP hD hS => ?_)
        obtain ⟨hR, hF37⟩ := hq
        have hF := hF.tr hF37 (by decide)
        have hK_SW0 := sp_fr (sp_sw _) hF37 (by decide) hK_SW0
        refine lv_iload_n F.1 F.2.1 dX12_operand_76 rfl (lv_at hl 1 rfl) ?_
        refine z_ne F 84 dX12_operand_77 (by decide) rfl (fun c41 => ?_) (fun c41 => ?_)
        · exact L84 x1 _ _ _ _ hR hF hK_SW0 (by omega) (i_trB (hF37 85 40 rfl) (by omega : (1 : Int) ≤ v36.toInt ∧ v36.toInt ≤ 20)) (i_trH (hF37 85 42 rfl) (by omega : (u.1 85 42).toInt ≤ 8)) (i_trB (hF37 85 43 rfl) (by omega : (0 : Int) ≤ (u.1 85 43).toInt ∧ (u.1 85 43).toInt ≤ 0)) (by rw [hF37 85 40 rfl]; try exact (by omega : v36.toInt = (u0.1 85 40).toInt + 1)) (by rw [hF37 85 39 rfl]; try exact (by omega : (u.1 85 39).toInt = (u0.1 85 39).toInt)) (by rw [hF37 85 41 rfl]; try exact (by omega : (u.1 85 41).toInt = (u0.1 85 41).toInt)) (by rw [hF37 85 43 rfl]; try exact (by omega : (u.1 85 43).toInt = 0)) hP hD hS (lv_sub hl [0, 1] rfl)
        · refine lv_iload_n F.1 F.2.1 dX12_operand_80 rfl (lv_at hl 2 rfl) ?_
          refine z_eq F 126 dX12_operand_81 (by decide) rfl (fun c42 => ?_) (fun c42 => ?_)
          · have k44 : (u37.1 85 39).toInt = (u.1 85 39).toInt := congrArg Int32.toInt (show u37.1 85 39 = (u.1 85 39) from hF37 85 39 rfl)
            have k45 : (u37.1 85 41).toInt = (u.1 85 41).toInt := congrArg Int32.toInt (show u37.1 85 41 = (u.1 85 41) from hF37 85 41 rfl)
            have k46 : (u37.1 85 40).toInt = v36.toInt := congrArg Int32.toInt (show u37.1 85 40 = v36 from hF37 85 40 rfl)
            have hz43 : 0 ≤ (u37.1 85 39).toInt ∧ (u37.1 85 39).toInt ≤ 45 := hR 85 39
            have hy43 : 0 ≤ (u37.1 85 41).toInt ∧ (u37.1 85 41).toInt ≤ 45 := hR 85 41
            have hx43 : 0 ≤ (u37.1 85 40).toInt ∧ (u37.1 85 40).toInt ≤ 20 := hR 85 40
            refine lv_aload_n F.1 F.2.1 dX12_operand_126 rfl (lv_at hl 0 rfl) ?_
            refine a_ic F (1 : Int32) dX12_operand_127 (by decide) ?_
            refine a_puti F inX12 tyX12 tyX12_ok nmX12 hP hD hS 85 43 tc_85 rfl rfl (by decide) q1514 (fun _ h9 => h9) rfl (ty := .boolean) (tyX12_ok 43 (by decide)) (i_zn (Or.inr rfl)) (i_zf (Or.inr rfl)) dX12_operand_128 (fun H locs hP hD hS => ?_)
            have hR := hR.si (c := 85) (k := 43) (v := (1 : Int32)) (by rw [ic_1]; exact (by omega : (0 : Int) ≤ (1 : Int) ∧ (1 : Int) ≤ 1))
            have hF := hF.si (c := 85) (k := 43) (v := (1 : Int32)) rfl
            have hK_SW0 := sp_si (sp_sw _) hK_SW0 (c := 85) (k := 43) (v := (1 : Int32)) (fun j9 h9 q9 => by rw [q9] at h9; exact absurd h9 (by decide))
            refine lv_iload_n F.1 F.2.1 dX12_operand_131 rfl (lv_at hl 3 rfl) ?_
            refine a_ic F (5 : Int32) dX12_operand_132 (by decide) ?_
            refine b_ge F 145 dX12_operand_133 (by decide) rfl ic_5 (fun c47 => ?_) (fun c47 => ?_)
            · refine lv_iload_n F.1 F.2.1 dX12_operand_145 rfl (lv_at hl 3 rfl) ?_
              refine a_ic F (5 : Int32) dX12_operand_146 (by decide) ?_
              refine b_ne F 183 dX12_operand_147 (by decide) rfl ic_5 (fun c48 => ?_) (fun c48 => ?_)
              · refine lv_aload_n F.1 F.2.1 dX12_operand_183 rfl (lv_at hl 0 rfl) ?_
                have g49 : (0 : Int) ≤ (u37.1 85 11).toInt ∧ (u37.1 85 11).toInt ≤ 4 := hR 85 11
                refine a_geti F inX12 hP 85 11 tc_85 rfl rfl (by decide) q1482 (fun _ h9 => h9) (v := (u37.1 85 11)) rfl dX12_operand_184 ?_
                refine a_ic F (3 : Int32) dX12_operand_187 (by decide) ?_
                refine b_ne F 209 dX12_operand_188 (by decide) rfl ic_3 (fun c50 => ?_) (fun c50 => ?_)
                · exact L209 _ _ _ _ hR hF (i_trB (hF37 85 40 rfl) (by omega : (1 : Int) ≤ v36.toInt ∧ v36.toInt ≤ 20)) (i_trH (hF37 85 42 rfl) (by omega : (u.1 85 42).toInt ≤ 8)) (by omega : (1 : Int) ≤ (1 : Int) ∧ (1 : Int) ≤ 1) hP hD hS (lv_sub hl [0] rfl)
                · refine lv_aload_n F.1 F.2.1 dX12_operand_191 rfl (lv_at hl 0 rfl) ?_
                  refine a_geti F inX12 hP 85 14 tc_85 rfl rfl (by decide) q1485 (fun _ h9 => h9) (v := (u37.1 85 14)) rfl dX12_operand_192 ?_
                  refine a_bp F (60 : Int32) dX12_operand_195 (by decide) ?_
                  refine b_lt F 209 dX12_operand_197 (by decide) rfl ic_60 (fun c51 => ?_) (fun c51 => ?_)
                  · exact L209 _ _ _ _ hR hF (i_trB (hF37 85 40 rfl) (by omega : (1 : Int) ≤ v36.toInt ∧ v36.toInt ≤ 20)) (i_trH (hF37 85 42 rfl) (by omega : (u.1 85 42).toInt ≤ 8)) (by omega : (1 : Int) ≤ (1 : Int) ∧ (1 : Int) ≤ 1) hP hD hS (lv_sub hl [0] rfl)
                  · refine lv_aload_n F.1 F.2.1 dX12_operand_200 rfl (lv_at hl 0 rfl) ?_
                    refine a_geti F inX12 hP 85 14 tc_85 rfl rfl (by decide) q1485 (fun _ h9 => h9) (v := (u37.1 85 14)) (rfl) dX12_operand_201 ?_
                    refine a_bp F (62 : Int32) dX12_operand_204 (by decide) ?_
                    refine b_le F 215 dX12_operand_206 (by decide) rfl ic_62 (fun c52 => ?_) (fun c52 => ?_)
                    · refine lv_aload_n F.1 F.2.1 dX12_operand_215 rfl (lv_at hl 0 rfl) ?_
                      refine a_geti F inX12 hP 85 14 tc_85 rfl rfl (by decide) q1485 (fun _ h9 => h9) (v := (u37.1 85 14)) (rfl) dX12_operand_216 ?_
                      refine lv_istore (lv' := [(4, .int (u37.1 85 14)), (0, .ref (ad 85)), (1, .int x1), (2, .int x2), (3, .int x3)]) F.1 F.2.1 dX12_operand_219 hl (by decide) rfl (fun ls hl => ?_)
                      refine lv_aload_n F.1 F.2.1 dX12_operand_221 rfl (lv_at hl 1 rfl) ?_
                      refine a_Vv F hml hl.1 hA hP hD hS (As := []) (c_X12_next_85 l dC dI ad cA nF _  hR) (cs_RX12_184 (d := 2) F.2.2.1 (by decide)) tc_85 rfl rfl rfl rfl (Nat.le_of_ble_eq_true rfl) dX12_operand_222 ⟨Nat.le_refl 0, Nat.le_refl 0⟩ (fun u53 H locs hq hP hD hS => ?_)
                      obtain ⟨hR, hF53⟩ := hq
                      have hF := hF.tr hF53 (by decide)
                      have hK_SW0 := sp_fr (sp_sw _) hF53 (by decide) hK_SW0
                      refine lv_aload_n F.1 F.2.1 dX12_operand_225 rfl (lv_at hl 1 rfl) ?_
                      have g54 : (0 : Int) ≤ (u53.1 85 11).toInt ∧ (u53.1 85 11).toInt ≤ 4 := hR 85 11
                      refine a_geti F inX12 hP 85 11 tc_85 rfl rfl (by decide) q1482 (fun _ h9 => h9) (v := (u53.1 85 11)) rfl dX12_operand_226 ?_
                      refine a_ic F (2 : Int32) dX12_operand_229 (by decide) ?_
                      refine b_eq F 239 dX12_operand_230 (by decide) rfl ic_2 (fun c55 => ?_) (fun c55 => ?_)
                      · refine lv_aload_n F.1 F.2.1 dX12_operand_239 rfl (lv_at hl 1 rfl) ?_
                        refine lv_iload_n F.1 F.2.1 dX12_operand_240 rfl (lv_at hl 4 rfl) ?_
                        refine lv_iload F.1 F.2.1 dX12_operand_241 (lv_at hl 0 rfl) ?_
                        refine lv_aload_n F.1 F.2.1 dX12_operand_243 rfl (lv_at hl 1 rfl) ?_
                        refine a_geti F inX12 hP 85 14 tc_85 rfl rfl (by decide) q1485 (fun _ h9 => h9) (v := (u53.1 85 14)) rfl dX12_operand_244 ?_
                        have hP_SW0 := hK_SW0
                        have k57 : (u53.1 85 39).toInt = (u.1 85 39).toInt := congrArg Int32.toInt (show u53.1 85 39 = (u.1 85 39) from (hF53 85 39 rfl).trans (hF37 85 39 rfl))
                        refine a_Vv F hml hl.1 hA hP hD hS (As := [.int x3, .int (u37.1 85 14), .int (u53.1 85 14)]) (c_X12_code_85 l dC dI ad cA nF _ x3 (u37.1 85 14) (u53.1 85 14) hR (i_trB ((hF53 85 39 rfl).trans (hF37 85 39 rfl)) (by omega : (0 : Int) ≤ (u.1 85 39).toInt ∧ (u.1 85 39).toInt ≤ 44))) (cs_RX12_419 (d := 1) F.2.2.1 (by decide)) tc_85 rfl rfl rfl rfl (Nat.le_of_ble_eq_true rfl) dX12_operand_247 ⟨Nat.le_refl 0, Nat.le_refl 0⟩ (fun u56 H locs hq hP hD hS => ?_)
                        obtain ⟨hR, hF56, xr56, hE_r56⟩ := hq
                        have hF := hF.tr hF56 (by decide)
                        have hK_SW1 := cd_leaf hE_r56 hK_SW0 (by omega)
                        have g58 : (0 : Int) ≤ (u56.1 85 39).toInt ∧ (u56.1 85 39).toInt ≤ 45 := hR 85 39
                        have xr56 : (u56.1 85 39).toInt = (u53.1 85 39).toInt + 1 := xr56
                        refine lv_aload_n F.1 F.2.1 dX12_operand_250 rfl (lv_at hl 1 rfl) ?_
                        refine a_Vv F hml hl.1 hA hP hD hS (As := []) (c_X12_next_85 l dC dI ad cA nF _  hR) (cs_RX12_184 (d := 2) F.2.2.1 (by decide)) tc_85 rfl rfl rfl rfl (Nat.le_of_ble_eq_true rfl) dX12_operand_251 ⟨Nat.le_refl 0, Nat.le_refl 0⟩ (fun u59 H locs hq hP hD hS => ?_)
                        obtain ⟨hR, hF59⟩ := hq
                        have hF := hF.tr hF59 (by decide)
                        have hK_SW1 := sp_fr (sp_sw _) hF59 (by decide) hK_SW1
                        refine a_ic F (1 : Int32) dX12_operand_254 (by decide) ?_
                        have k60 : (u59.1 85 40).toInt = v36.toInt := congrArg Int32.toInt (show u59.1 85 40 = v36 from (hF59 85 40 rfl).trans ((hF56 85 40 rfl).trans ((hF53 85 40 rfl).trans (hF37 85 40 rfl))))
                        have k61 : (u59.1 85 39).toInt = (u56.1 85 39).toInt := congrArg Int32.toInt (show u59.1 85 39 = (u56.1 85 39) from hF59 85 39 rfl)
                        have k62 : (u59.1 85 41).toInt = (u.1 85 41).toInt := congrArg Int32.toInt (show u59.1 85 41 = (u.1 85 41) from (hF59 85 41 rfl).trans ((hF56 85 41 rfl).trans ((hF53 85 41 rfl).trans (hF37 85 41 rfl))))
                        have k63 : (u59.1 85 43).toInt = (1 : Int32).toInt := congrArg Int32.toInt (show u59.1 85 43 = (1 : Int32) from (hF59 85 43 rfl).trans ((hF56 85 43 rfl).trans (hF53 85 43 rfl)))
                        rw [ic_1] at k63
                        exact a_retz F hr hlocks hP hD hS dX12_operand_255 (Or.inr rfl) ⟨hR, hF, (by decide), (by first | exact (by omega : (1 : Int) ≠ 0 → (u59.1 85 40).toInt = (u0.1 85 40).toInt + 1 ∧ (u59.1 85 39).toInt + (u59.1 85 41).toInt ≤ 2 * (u59.1 85 40).toInt - (u59.1 85 43).toInt ∧ (u59.1 85 41).toInt + 2 * (u59.1 85 43).toInt ≤ (u0.1 85 41).toInt + 2) | (rw [ic_1]; exact (by omega : (1 : Int) ≠ 0 → (u59.1 85 40).toInt = (u0.1 85 40).toInt + 1 ∧ (u59.1 85 39).toInt + (u59.1 85 41).toInt ≤ 2 * (u59.1 85 40).toInt - (u59.1 85 43).toInt ∧ (u59.1 85 41).toInt + 2 * (u59.1 85 43).toInt ≤ (u0.1 85 41).toInt + 2))), (fun _ => sw_toD hD hK_SW1 (t := (1 : Int32)) ((hF59 85 43 rfl).trans ((hF56 85 43 rfl).trans (hF53 85 43 rfl))) (by first | decide | omega))⟩
                      · refine lv_aload_n F.1 F.2.1 dX12_operand_233 rfl (lv_at hl 1 rfl) ?_
                        refine a_ic F (1 : Int32) dX12_operand_234 (by decide) ?_
                        refine a_Vi F hml hl.1 hA hP hD hS (As := [.int (1 : Int32)]) (c_X12_bad_85 l dC dI ad cA nF _ (1 : Int32) hR (by decide)) (cs_RX12_181 (d := 1) F.2.2.1 (by decide)) tc_85 rfl rfl rfl rfl (Nat.le_of_ble_eq_true rfl) dX12_operand_235 ⟨Nat.le_refl 0, Nat.le_refl 0⟩ (fun r64 u64 H locs hq hP hD hS => ?_)
                        obtain ⟨hR, hF64, gr64⟩ := hq
                        have hF := hF.tr hF64 (by decide)
                        have hK_SW0 := sp_fr (sp_sw _) hF64 (by decide) hK_SW0
                        have k65 : (u64.1 85 40).toInt = v36.toInt := congrArg Int32.toInt (show u64.1 85 40 = v36 from (hF64 85 40 rfl).trans ((hF53 85 40 rfl).trans (hF37 85 40 rfl)))
                        have k66 : (u64.1 85 39).toInt = (u.1 85 39).toInt := congrArg Int32.toInt (show u64.1 85 39 = (u.1 85 39) from (hF64 85 39 rfl).trans ((hF53 85 39 rfl).trans (hF37 85 39 rfl)))
                        have k67 : (u64.1 85 41).toInt = (u.1 85 41).toInt := congrArg Int32.toInt (show u64.1 85 41 = (u.1 85 41) from (hF64 85 41 rfl).trans ((hF53 85 41 rfl).trans (hF37 85 41 rfl)))
                        have k68 : (u64.1 85 43).toInt = (1 : Int32).toInt := congrArg Int32.toInt (show u64.1 85 43 = (1 : Int32) from (hF64 85 43 rfl).trans (hF53 85 43 rfl))
                        rw [ic_1] at k68
                        exact a_retz F hr hlocks hP hD hS dX12_operand_238 (i_01 (by omega)) ⟨hR, hF, (by omega : (0 : Int) ≤ r64.toInt ∧ r64.toInt ≤ 1), (by omega : r64.toInt ≠ 0 → (u64.1 85 40).toInt = (u0.1 85 40).toInt + 1 ∧ (u64.1 85 39).toInt + (u64.1 85 41).toInt ≤ 2 * (u64.1 85 40).toInt - (u64.1 85 43).toInt ∧ (u64.1 85 41).toInt + 2 * (u64.1 85 43).toInt ≤ (u0.1 85 41).toInt + 2), (fun h9 => absurd (by omega : r64.toInt = 0) h9)⟩
                    · exact L209 _ _ _ _ hR hF (i_trB (hF37 85 40 rfl) (by omega : (1 : Int) ≤ v36.toInt ∧ v36.toInt ≤ 20)) (i_trH (hF37 85 42 rfl) (by omega : (u.1 85 42).toInt ≤ 8)) (by omega : (1 : Int) ≤ (1 : Int) ∧ (1 : Int) ≤ 1) hP hD hS (lv_sub hl [0] rfl)
              · refine lv_aload_n F.1 F.2.1 dX12_operand_150 rfl (lv_at hl 0 rfl) ?_
                refine a_bp F (8 : Int32) dX12_operand_151 (by decide) ?_
                refine lv_aload_n F.1 F.2.1 dX12_operand_153 rfl (lv_at hl 0 rfl) ?_
                refine a_getr F inX12 hP 85 6 tc_85 rfl rfl (by decide) q1477 (fun _ h9 => h9) dX12_operand_154 ?_
                refine a_ic F (4 : Int32) dX12_operand_157 (by decide) ?_
                have g69 : (0 : Int) ≤ (u37.1 87 4).toInt ∧ (u37.1 87 4).toInt ≤ 4 := hR 87 4
                refine a_ialdK F hP 87 4 tc_87 rfl rfl (i_in ic_4 (by omega)) (v := (u37.1 87 4)) rfl dX12_operand_158 ?_
                refine a_Vi F hml hl.1 hA hP hD hS (As := [.int (8 : Int32), .int (u37.1 87 4)]) (c_X12_looksAt_85 l dC dI ad cA nF _ (8 : Int32) (u37.1 87 4) hR (by decide) (by omega) (by simp only [ic_8]; omega)) (cs_RX12_202 (d := 2) F.2.2.1 (by decide)) tc_85 rfl rfl rfl rfl (Nat.le_of_ble_eq_true rfl) dX12_operand_159 ⟨Nat.le_refl 0, Nat.le_refl 0⟩ (fun r70 u70 H locs hq hP hD hS => ?_)
                obtain ⟨hR, hF70, gr70, xr70⟩ := hq
                have hF := hF.tr hF70 (by decide)
                have hK_SW0 := sp_fr (sp_sw _) hF70 (by decide) hK_SW0
                have xr70 : r70.toInt ≠ 0 → 0 ≤ (u70.1 85 18).toInt ∧ (u70.1 85 18).toInt < (u37.1 87 4).toInt := xr70
                refine z_ne F 167 dX12_operand_162 (by decide) rfl (fun c71 => ?_) (fun c71 => ?_)
                · refine lv_aload_n F.1 F.2.1 dX12_operand_167 rfl (lv_at hl 0 rfl) ?_
                  refine lv_iload_n F.1 F.2.1 dX12_operand_168 rfl (lv_at hl 3 rfl) ?_
                  refine a_ic F (0 : Int32) dX12_operand_169 (by decide) ?_
                  refine lv_aload_n F.1 F.2.1 dX12_operand_170 rfl (lv_at hl 0 rfl) ?_
                  refine a_geti F inX12 hP 85 18 tc_85 rfl rfl (by decide) q1489 (fun _ h9 => h9) (v := (u70.1 85 18)) (rfl) dX12_operand_171 ?_
                  have hP_SW0 := hK_SW0
                  have k73 : (u70.1 85 39).toInt = (u.1 85 39).toInt := congrArg Int32.toInt (show u70.1 85 39 = (u.1 85 39) from (hF70 85 39 rfl).trans (hF37 85 39 rfl))
                  refine a_Vv F hml hl.1 hA hP hD hS (As := [.int x3, .int (0 : Int32), .int (u70.1 85 18)]) (c_X12_code_85 l dC dI ad cA nF _ x3 (0 : Int32) (u70.1 85 18) hR (i_trB ((hF70 85 39 rfl).trans (hF37 85 39 rfl)) (by omega : (0 : Int) ≤ (u.1 85 39).toInt ∧ (u.1 85 39).toInt ≤ 44))) (cs_RX12_419 (d := 1) F.2.2.1 (by decide)) tc_85 rfl rfl rfl rfl (Nat.le_of_ble_eq_true rfl) dX12_operand_174 ⟨Nat.le_refl 0, Nat.le_refl 0⟩ (fun u72 H locs hq hP hD hS => ?_)
                  obtain ⟨hR, hF72, xr72, hE_r72⟩ := hq
                  have hF := hF.tr hF72 (by decide)
                  have hK_SW1 := cd_leaf hE_r72 hK_SW0 (by omega)
                  have g74 : (0 : Int) ≤ (u72.1 85 39).toInt ∧ (u72.1 85 39).toInt ≤ 45 := hR 85 39
                  have xr72 : (u72.1 85 39).toInt = (u70.1 85 39).toInt + 1 := xr72
                  refine lv_aload_n F.1 F.2.1 dX12_operand_177 rfl (lv_at hl 0 rfl) ?_
                  refine a_Vv F hml hl.1 hA hP hD hS (As := []) (c_X12_next_85 l dC dI ad cA nF _  hR) (cs_RX12_184 (d := 2) F.2.2.1 (by decide)) tc_85 rfl rfl rfl rfl (Nat.le_of_ble_eq_true rfl) dX12_operand_178 ⟨Nat.le_refl 0, Nat.le_refl 0⟩ (fun u75 H locs hq hP hD hS => ?_)
                  obtain ⟨hR, hF75⟩ := hq
                  have hF := hF.tr hF75 (by decide)
                  have hK_SW1 := sp_fr (sp_sw _) hF75 (by decide) hK_SW1
                  refine a_ic F (1 : Int32) dX12_operand_181 (by decide) ?_
                  have k76 : (u75.1 85 40).toInt = v36.toInt := congrArg Int32.toInt (show u75.1 85 40 = v36 from (hF75 85 40 rfl).trans ((hF72 85 40 rfl).trans ((hF70 85 40 rfl).trans (hF37 85 40 rfl))))
                  have k77 : (u75.1 85 39).toInt = (u72.1 85 39).toInt := congrArg Int32.toInt (show u75.1 85 39 = (u72.1 85 39) from hF75 85 39 rfl)
                  have k78 : (u75.1 85 41).toInt = (u.1 85 41).toInt := congrArg Int32.toInt (show u75.1 85 41 = (u.1 85 41) from (hF75 85 41 rfl).trans ((hF72 85 41 rfl).trans ((hF70 85 41 rfl).trans (hF37 85 41 rfl))))
                  have k79 : (u75.1 85 43).toInt = (1 : Int32).toInt := congrArg Int32.toInt (show u75.1 85 43 = (1 : Int32) from (hF75 85 43 rfl).trans ((hF72 85 43 rfl).trans (hF70 85 43 rfl)))
                  rw [ic_1] at k79
                  exact a_retz F hr hlocks hP hD hS dX12_operand_182 (Or.inr rfl) ⟨hR, hF, (by decide), (by first | exact (by omega : (1 : Int) ≠ 0 → (u75.1 85 40).toInt = (u0.1 85 40).toInt + 1 ∧ (u75.1 85 39).toInt + (u75.1 85 41).toInt ≤ 2 * (u75.1 85 40).toInt - (u75.1 85 43).toInt ∧ (u75.1 85 41).toInt + 2 * (u75.1 85 43).toInt ≤ (u0.1 85 41).toInt + 2) | (rw [ic_1]; exact (by omega : (1 : Int) ≠ 0 → (u75.1 85 40).toInt = (u0.1 85 40).toInt + 1 ∧ (u75.1 85 39).toInt + (u75.1 85 41).toInt ≤ 2 * (u75.1 85 40).toInt - (u75.1 85 43).toInt ∧ (u75.1 85 41).toInt + 2 * (u75.1 85 43).toInt ≤ (u0.1 85 41).toInt + 2))), (fun _ => sw_toD hD hK_SW1 (t := (1 : Int32)) ((hF75 85 43 rfl).trans ((hF72 85 43 rfl).trans (hF70 85 43 rfl))) (by first | decide | omega))⟩
                · refine a_ic F (0 : Int32) dX12_operand_165 (by decide) ?_
                  have k80 : (u70.1 85 40).toInt = v36.toInt := congrArg Int32.toInt (show u70.1 85 40 = v36 from (hF70 85 40 rfl).trans (hF37 85 40 rfl))
                  have k81 : (u70.1 85 39).toInt = (u.1 85 39).toInt := congrArg Int32.toInt (show u70.1 85 39 = (u.1 85 39) from (hF70 85 39 rfl).trans (hF37 85 39 rfl))
                  have k82 : (u70.1 85 41).toInt = (u.1 85 41).toInt := congrArg Int32.toInt (show u70.1 85 41 = (u.1 85 41) from (hF70 85 41 rfl).trans (hF37 85 41 rfl))
                  have k83 : (u70.1 85 43).toInt = (1 : Int32).toInt := congrArg Int32.toInt (show u70.1 85 43 = (1 : Int32) from hF70 85 43 rfl)
                  rw [ic_1] at k83
                  exact a_retz F hr hlocks hP hD hS dX12_operand_166 (Or.inl rfl) ⟨hR, hF, (by decide), (by first | exact (by omega : (0 : Int) ≠ 0 → (u70.1 85 40).toInt = (u0.1 85 40).toInt + 1 ∧ (u70.1 85 39).toInt + (u70.1 85 41).toInt ≤ 2 * (u70.1 85 40).toInt - (u70.1 85 43).toInt ∧ (u70.1 85 41).toInt + 2 * (u70.1 85 43).toInt ≤ (u0.1 85 41).toInt + 2) | (rw [ic_0]; exact (by omega : (0 : Int) ≠ 0 → (u70.1 85 40).toInt = (u0.1 85 40).toInt + 1 ∧ (u70.1 85 39).toInt + (u70.1 85 41).toInt ≤ 2 * (u70.1 85 40).toInt - (u70.1 85 43).toInt ∧ (u70.1 85 41).toInt + 2 * (u70.1 85 43).toInt ≤ (u0.1 85 41).toInt + 2))), (fun h9 => absurd (by decide) h9)⟩
            · refine lv_aload_n F.1 F.2.1 dX12_operand_136 rfl (lv_at hl 0 rfl) ?_
              refine lv_iload_n F.1 F.2.1 dX12_operand_137 rfl (lv_at hl 3 rfl) ?_
              refine a_ic F (0 : Int32) dX12_operand_138 (by decide) ?_
              refine a_ic F (0 : Int32) dX12_operand_139 (by decide) ?_
              have hP_SW0 := hK_SW0
              refine a_Vv F hml hl.1 hA hP hD hS (As := [.int x3, .int (0 : Int32), .int (0 : Int32)]) (c_X12_code_85 l dC dI ad cA nF _ x3 (0 : Int32) (0 : Int32) hR (i_trB (hF37 85 39 rfl) (by omega : (0 : Int) ≤ (u.1 85 39).toInt ∧ (u.1 85 39).toInt ≤ 44))) (cs_RX12_419 (d := 1) F.2.2.1 (by decide)) tc_85 rfl rfl rfl rfl (Nat.le_of_ble_eq_true rfl) dX12_operand_140 ⟨Nat.le_refl 0, Nat.le_refl 0⟩ (fun u84 H locs hq hP hD hS => ?_)
              obtain ⟨hR, hF84, xr84, hE_r84⟩ := hq
              have hF := hF.tr hF84 (by decide)
              have hK_SW1 := cd_leaf hE_r84 hK_SW0 (by omega)
              have g85 : (0 : Int) ≤ (u84.1 85 39).toInt ∧ (u84.1 85 39).toInt ≤ 45 := hR 85 39
              have xr84 : (u84.1 85 39).toInt = (u37.1 85 39).toInt + 1 := xr84
              refine a_ic F (1 : Int32) dX12_operand_143 (by decide) ?_
              have k86 : (u84.1 85 40).toInt = v36.toInt := congrArg Int32.toInt (show u84.1 85 40 = v36 from (hF84 85 40 rfl).trans (hF37 85 40 rfl))
              have k87 : (u84.1 85 41).toInt = (u.1 85 41).toInt := congrArg Int32.toInt (show u84.1 85 41 = (u.1 85 41) from (hF84 85 41 rfl).trans (hF37 85 41 rfl))
              have k88 : (u84.1 85 43).toInt = (1 : Int32).toInt := congrArg Int32.toInt (show u84.1 85 43 = (1 : Int32) from hF84 85 43 rfl)
              rw [ic_1] at k88
              exact a_retz F hr hlocks hP hD hS dX12_operand_144 (Or.inr rfl) ⟨hR, hF, (by decide), (by first | exact (by omega : (1 : Int) ≠ 0 → (u84.1 85 40).toInt = (u0.1 85 40).toInt + 1 ∧ (u84.1 85 39).toInt + (u84.1 85 41).toInt ≤ 2 * (u84.1 85 40).toInt - (u84.1 85 43).toInt ∧ (u84.1 85 41).toInt + 2 * (u84.1 85 43).toInt ≤ (u0.1 85 41).toInt + 2) | (rw [ic_1]; exact (by omega : (1 : Int) ≠ 0 → (u84.1 85 40).toInt = (u0.1 85 40).toInt + 1 ∧ (u84.1 85 39).toInt + (u84.1 85 41).toInt ≤ 2 * (u84.1 85 40).toInt - (u84.1 85 43).toInt ∧ (u84.1 85 41).toInt + 2 * (u84.1 85 43).toInt ≤ (u0.1 85 41).toInt + 2))), (fun _ => sw_toD hD hK_SW1 (t := (1 : Int32)) (hF84 85 43 rfl) (by first | decide | omega))⟩
          · exact L84 x1 _ _ _ _ hR hF hK_SW0 (by omega) (i_trB (hF37 85 40 rfl) (by omega : (1 : Int) ≤ v36.toInt ∧ v36.toInt ≤ 20)) (i_trH (hF37 85 42 rfl) (by omega : (u.1 85 42).toInt ≤ 8)) (i_trB (hF37 85 43 rfl) (by omega : (0 : Int) ≤ (u.1 85 43).toInt ∧ (u.1 85 43).toInt ≤ 0)) (by rw [hF37 85 40 rfl]; try exact (by omega : v36.toInt = (u0.1 85 40).toInt + 1)) (by rw [hF37 85 39 rfl]; try exact (by omega : (u.1 85 39).toInt = (u0.1 85 39).toInt)) (by rw [hF37 85 41 rfl]; try exact (by omega : (u.1 85 41).toInt = (u0.1 85 41).toInt)) (by rw [hF37 85 43 rfl]; try exact (by omega : (u.1 85 43).toInt = 0)) hP hD hS (lv_sub hl [0, 1] rfl)
      · have g89 : (0 : Int) ≤ (u.1 85 43).toInt ∧ (u.1 85 43).toInt ≤ 1 := hR 85 43
        exact L56 _ _ _ _ hR hF (by omega : (0 : Int) ≤ (u.1 85 40).toInt ∧ (u.1 85 40).toInt ≤ 20) (by omega : (0 : Int) ≤ (u.1 85 43).toInt ∧ (u.1 85 43).toInt ≤ 0) hP hD hS (lv_sub hl [0] rfl)
  refine lv_aload_n F.1 F.2.1 dX12_operand_0 rfl (lv_at hl 0 rfl) ?_
  refine lv_ldc2 (v := (7237492 : Int64)) F.1 F.2.1 F.2.2.2.1 (F.2.2.1 _ q1460) dX12_operand_1 ?_
  refine a_Vi F hml hl.1 hA hP hD hS (As := [.long (7237492 : Int64)]) (c_X12_isWord_85 l dC dI ad cA nF _ (7237492 : Int64) hR) (cs_RX12_206 (d := 1) F.2.2.1 (by decide)) tc_85 rfl rfl rfl rfl (Nat.le_of_ble_eq_true rfl) dX12_operand_4 ⟨Nat.le_refl 0, Nat.le_refl 0⟩ (fun r90 uN90 H locs hq hP hD hS => ?_)
  obtain ⟨hu90, gr90⟩ := hq
  rw [hu90] at hP hD
  refine lv_istore_n (lv' := [(1, .int r90), (0, .ref (ad 85))]) F.1 F.2.1 dX12_operand_7 rfl hl (by decide) rfl (fun ls hl => ?_)
  refine lv_aload_n F.1 F.2.1 dX12_operand_8 rfl (lv_at hl 1 rfl) ?_
  refine a_bp F (40 : Int32) dX12_operand_9 (by decide) ?_
  refine a_Vi F hml hl.1 hA hP hD hS (As := [.int (40 : Int32)]) (c_X12_isSign_85 l dC dI ad cA nF _ (40 : Int32) hR (by decide)) (cs_RX12_178 (d := 1) F.2.2.1 (by decide)) tc_85 rfl rfl rfl rfl (Nat.le_of_ble_eq_true rfl) dX12_operand_11 ⟨Nat.le_refl 0, Nat.le_refl 0⟩ (fun r91 uN91 H locs hq hP hD hS => ?_)
  obtain ⟨hu91, gr91⟩ := hq
  rw [hu91] at hP hD
  refine lv_istore_n (lv' := [(2, .int r91), (1, .int r90), (0, .ref (ad 85))]) F.1 F.2.1 dX12_operand_14 rfl hl (by decide) rfl (fun ls hl => ?_)
  refine lv_aload_n F.1 F.2.1 dX12_operand_15 rfl (lv_at hl 2 rfl) ?_
  refine a_Vi F hml hl.1 hA hP hD hS (As := []) (c_X12_leafOf_85 l dC dI ad cA nF _  hR) (cs_RX12_426 (d := 2) F.2.2.1 (by decide)) tc_85 rfl rfl rfl rfl (Nat.le_of_ble_eq_true rfl) dX12_operand_16 ⟨Nat.le_refl 0, Nat.le_refl 0⟩ (fun r92 uN92 H locs hq hP hD hS => ?_)
  obtain ⟨hu92, gr92⟩ := hq
  rw [hu92] at hP hD
  refine lv_istore_n (lv' := [(3, .int r92), (2, .int r91), (1, .int r90), (0, .ref (ad 85))]) F.1 F.2.1 dX12_operand_19 rfl hl (by decide) rfl (fun ls hl => ?_)
  refine lv_iload_n F.1 F.2.1 dX12_operand_20 rfl (lv_at hl 2 rfl) ?_
  refine z_ne F 38 dX12_operand_21 (by decide) rfl (fun c93 => ?_) (fun c93 => ?_)
  · have g94 : (0 : Int) ≤ (u0.1 85 43).toInt ∧ (u0.1 85 43).toInt ≤ 1 := hR 85 43
    have g95 : (0 : Int) ≤ (u0.1 85 40).toInt ∧ (u0.1 85 40).toInt ≤ 20 := hR 85 40
    have g96 : (0 : Int) ≤ (u0.1 85 39).toInt ∧ (u0.1 85 39).toInt ≤ 45 := hR 85 39
    have g97 : (0 : Int) ≤ (u0.1 85 41).toInt ∧ (u0.1 85 41).toInt ≤ 45 := hR 85 41
    exact L38 r90 r91 r92 _ _ _ _ hR hF hK_SW0 (by omega) (by omega) (by omega) (by omega : (0 : Int) ≤ (u0.1 85 43).toInt ∧ (u0.1 85 43).toInt ≤ 0) (by omega : (u0.1 85 40).toInt = (u0.1 85 40).toInt) (by omega : (u0.1 85 39).toInt = (u0.1 85 39).toInt) (by omega : (u0.1 85 41).toInt = (u0.1 85 41).toInt) (by omega : (u0.1 85 43).toInt = 0) hP hD hS (lv_sub hl [3, 2, 1, 0] rfl)
  · refine lv_iload_n F.1 F.2.1 dX12_operand_24 rfl (lv_at hl 1 rfl) ?_
    refine z_ne F 38 dX12_operand_25 (by decide) rfl (fun c98 => ?_) (fun c98 => ?_)
    · have g99 : (0 : Int) ≤ (u0.1 85 43).toInt ∧ (u0.1 85 43).toInt ≤ 1 := hR 85 43
      have g100 : (0 : Int) ≤ (u0.1 85 40).toInt ∧ (u0.1 85 40).toInt ≤ 20 := hR 85 40
      have g101 : (0 : Int) ≤ (u0.1 85 39).toInt ∧ (u0.1 85 39).toInt ≤ 45 := hR 85 39
      have g102 : (0 : Int) ≤ (u0.1 85 41).toInt ∧ (u0.1 85 41).toInt ≤ 45 := hR 85 41
      exact L38 r90 r91 r92 _ _ _ _ hR hF hK_SW0 (by omega) (by omega) (by omega) (by omega : (0 : Int) ≤ (u0.1 85 43).toInt ∧ (u0.1 85 43).toInt ≤ 0) (by omega : (u0.1 85 40).toInt = (u0.1 85 40).toInt) (by omega : (u0.1 85 39).toInt = (u0.1 85 39).toInt) (by omega : (u0.1 85 41).toInt = (u0.1 85 41).toInt) (by omega : (u0.1 85 43).toInt = 0) hP hD hS (lv_sub hl [3, 2, 1, 0] rfl)
    · refine lv_iload_n F.1 F.2.1 dX12_operand_28 rfl (lv_at hl 0 rfl) ?_
      refine z_ge F 38 dX12_operand_29 (by decide) rfl (fun c103 => ?_) (fun c103 => ?_)
      · have g104 : (0 : Int) ≤ (u0.1 85 43).toInt ∧ (u0.1 85 43).toInt ≤ 1 := hR 85 43
        have g105 : (0 : Int) ≤ (u0.1 85 40).toInt ∧ (u0.1 85 40).toInt ≤ 20 := hR 85 40
        have g106 : (0 : Int) ≤ (u0.1 85 39).toInt ∧ (u0.1 85 39).toInt ≤ 45 := hR 85 39
        have g107 : (0 : Int) ≤ (u0.1 85 41).toInt ∧ (u0.1 85 41).toInt ≤ 45 := hR 85 41
        exact L38 r90 r91 r92 _ _ _ _ hR hF hK_SW0 (by omega) (by omega) (by omega) (by omega : (0 : Int) ≤ (u0.1 85 43).toInt ∧ (u0.1 85 43).toInt ≤ 0) (by omega : (u0.1 85 40).toInt = (u0.1 85 40).toInt) (by omega : (u0.1 85 39).toInt = (u0.1 85 39).toInt) (by omega : (u0.1 85 41).toInt = (u0.1 85 41).toInt) (by omega : (u0.1 85 43).toInt = 0) hP hD hS (lv_sub hl [3, 2, 1, 0] rfl)
      · refine lv_aload_n F.1 F.2.1 dX12_operand_32 rfl (lv_at hl 3 rfl) ?_
        refine a_ic F (1 : Int32) dX12_operand_33 (by decide) ?_
        have g109 : (0 : Int) ≤ (u0.1 85 39).toInt ∧ (u0.1 85 39).toInt ≤ 45 := hR 85 39
        have g110 : (0 : Int) ≤ (u0.1 85 41).toInt ∧ (u0.1 85 41).toInt ≤ 45 := hR 85 41
        have g111 : (0 : Int) ≤ (u0.1 85 40).toInt ∧ (u0.1 85 40).toInt ≤ 20 := hR 85 40
        have g112 : (0 : Int) ≤ (u0.1 85 43).toInt ∧ (u0.1 85 43).toInt ≤ 1 := hR 85 43
        refine a_Vi F hml hl.1 hA hP hD hS (As := [.int (1 : Int32)]) (c_X12_bad_85 l dC dI ad cA nF _ (1 : Int32) hR (by decide)) (cs_RX12_181 (d := 1) F.2.2.1 (by decide)) tc_85 rfl rfl rfl rfl (Nat.le_of_ble_eq_true rfl) dX12_operand_34 ⟨Nat.le_refl 0, Nat.le_refl 0⟩ (fun r108 u108 H locs hq hP hD hS => ?_)
        obtain ⟨hR, hF108, gr108⟩ := hq
        have hF := hF.tr hF108 (by decide)
        have hK_SW0 := sp_fr (sp_sw _) hF108 (by decide) hK_SW0
        have k113 : (u108.1 85 40).toInt = (u0.1 85 40).toInt := congrArg Int32.toInt (show u108.1 85 40 = (u0.1 85 40) from hF108 85 40 rfl)
        have k114 : (u108.1 85 39).toInt = (u0.1 85 39).toInt := congrArg Int32.toInt (show u108.1 85 39 = (u0.1 85 39) from hF108 85 39 rfl)
        have k115 : (u108.1 85 41).toInt = (u0.1 85 41).toInt := congrArg Int32.toInt (show u108.1 85 41 = (u0.1 85 41) from hF108 85 41 rfl)
        have k116 : (u108.1 85 43).toInt = (u0.1 85 43).toInt := congrArg Int32.toInt (show u108.1 85 43 = (u0.1 85 43) from hF108 85 43 rfl)
        exact a_retz F hr hlocks hP hD hS dX12_operand_37 (i_01 (by omega)) ⟨hR, hF, (by omega : (0 : Int) ≤ r108.toInt ∧ r108.toInt ≤ 1), (by omega : r108.toInt ≠ 0 → (u108.1 85 40).toInt = (u0.1 85 40).toInt + 1 ∧ (u108.1 85 39).toInt + (u108.1 85 41).toInt ≤ 2 * (u108.1 85 40).toInt - (u108.1 85 43).toInt ∧ (u108.1 85 41).toInt + 2 * (u108.1 85 43).toInt ≤ (u0.1 85 41).toInt + 2), (fun h9 => absurd (by omega : r108.toInt = 0) h9)⟩
set_option maxHeartbeats 600000 in
set_option maxRecDepth 100000 in
theorem c_X12_said_85 (l : Launch) (dC : Nat → ClassId) (dI : Nat → Nat → Nat) (ad : Nat → Nat) (cA : Nat → ClassId) (nF : Nat) (u0 : ac_U) (p0 : Int32) (hR : ac_R rg u0) (hK_CW : cdI u0) : ac_Mi l yX12_said (.code yX12_said cX12_said 4 (some .int) :: TB) 9 (dC, dI) vwCl (ac_ty cA) ad cA (TT nF) [.ref (ad 85), .int p0] u0 (fun (r : Int32) (u : ac_U) => ac_R rg u ∧ ac_Fr [(85, some 0), (101, none)] u0 u) := by
  refine ac_Mi.of (cc := cX12_said) (maxL := 4) (ret := (some .int)) (by decide) rfl (Nat.le_of_ble_eq_true rfl) ?_
  intro p e s m below meth c A ls F hml hr hlocks hA hP hD hS hl
  have F : ac_X p s m [.ref (ad 85), .int p0].toArray c cX12_said RX12 TB (dC, dI) vwCl (ac_ty cA) := ⟨F.1, F.2.1, fun w h => F.2.2.1 w (List.mem_cons_of_mem _ h), F.2.2.2.1, F.2.2.2.2⟩
  have hl : lv_has ls 4 [(0, .ref (ad 85)), (1, .int p0)] := hl
  have hF : ac_Fr [(85, some 0), (101, none)] u0 u0 := ac_Fr.rf
  have L27 : ∀ (n27 : Nat) (x2 : Int32) (x3 : Int32) (u : ac_U) (H : Heap) (locs : List Loc) (ls : Array Slot), ac_R rg u → ac_Fr [(85, some 0), (101, none)] u0 u → 8 - x3.toInt < (n27 : Int) → cdI u → (-1 : Int) ≤ p0.toInt → (0 : Int) ≤ x3.toInt ∧ x3.toInt ≤ 8 → (0 : Int) ≤ (u.1 85 0).toInt ∧ (u.1 85 0).toInt ≤ 0 → (1 : Int) ≤ (u.1 87 476).toInt ∧ (u.1 87 476).toInt ≤ 45 → va_P (dC, dI) vwCl (ac_w ad cA (TT nF) u) H → va_D A (ac_w ad cA (TT nF) u) → va_S A s.heap H locs → lv_has ls 4 [(0, .ref (ad 85)), (1, .int p0), (2, .int x2), (3, .int x3)] → W p l e (ac_rm 9) s m [.ref (ad 85), .int p0].toArray below meth c H locs 0 0 (MQ below (va_Qi (fun (r : Int32) (u : ac_U) => ac_R rg u ∧ ac_Fr [(85, some 0), (101, none)] u0 u) (ac_B (dC, dI) vwCl (ac_ty cA) ad cA (TT nF) A) A) [.ref (ad 85), .int p0].toArray s 0 0 A) (F0 m 27 ls []) := by
    intro n27
    induction n27 with
    | zero => intro x2 x3 u H locs ls hR hF hn27 hK_CW f0 f1 f2 f3 hP hD hS hl; exfalso; omega
    | succ n27 ih27 =>
      intro x2 x3 u H locs ls hR hF hn27 hK_CW f0 f1 f2 f3 hP hD hS hl
      have L59 : ∀ (x2 : Int32) (x3 : Int32) (u : ac_U) (H : Heap) (locs : List Loc) (ls : Array Slot), ac_R rg u → ac_Fr [(85, some 0), (101, none)] u0 u → cdI u → (-1 : Int) ≤ p0.toInt → (0 : Int) ≤ x3.toInt ∧ x3.toInt ≤ 7 → (0 : Int) ≤ (u.1 85 0).toInt ∧ (u.1 85 0).toInt ≤ 0 → (1 : Int) ≤ (u.1 87 6).toInt ∧ (u.1 87 6).toInt ≤ 8 → (1 : Int) ≤ (u.1 87 476).toInt ∧ (u.1 87 476).toInt ≤ 45 → 8 - x3.toInt + 0 < ((n27 : Nat) : Int) + 1 → va_P (dC, dI) vwCl (ac_w ad cA (TT nF) u) H → va_D A (ac_w ad cA (TT nF) u) → va_S A s.heap H locs → lv_has ls 4 [(0, .ref (ad 85)), (1, .int p0), (2, .int x2), (3, .int x3)] → W p l e (ac_rm 9) s m [.ref (ad 85), .int p0].toArray below meth c H locs 0 0 (MQ below (va_Qi (fun (r : Int32) (u : ac_U) => ac_R rg u ∧ ac_Fr [(85, some 0), (101, none)] u0 u) (ac_B (dC, dI) vwCl (ac_ty cA) ad cA (TT nF) A) A) [.ref (ad 85), .int p0].toArray s 0 0 A) (F0 m 59 ls []) := by
        intro x2 x3 u H locs ls hR hF hK_CW f0 f1 f2 f3 f4 f5 hP hD hS hl
        refine a_iinc F (k := 3) (fun v1 => [(3, .int v1), (0, .ref (ad 85)), (1, .int p0), (2, .int x2)]) dX12_said_59 hl rfl rfl (by decide) (by omega) (by decide) (fun _ => rfl) (fun v1 ls hv1 hl => ?_)
        refine lv_goto (tgt := 27) F.1 F.2.1 dX12_said_62 (by decide) ?_
        have g2 : (0 : Int) ≤ (u.1 85 0).toInt ∧ (u.1 85 0).toInt ≤ 1 := hR 85 0
        have g3 : (0 : Int) ≤ (u.1 87 476).toInt ∧ (u.1 87 476).toInt ≤ 45 := hR 87 476
        exact ih27 x2 v1 _ _ _ _ hR hF (by omega) hK_CW (by omega) (by omega) (by omega : (0 : Int) ≤ (u.1 85 0).toInt ∧ (u.1 85 0).toInt ≤ 0) (by omega : (1 : Int) ≤ (u.1 87 476).toInt ∧ (u.1 87 476).toInt ≤ 45) hP hD hS (lv_sub hl [1, 2, 3, 0] rfl)
      refine lv_iload_n F.1 F.2.1 dX12_said_27 rfl (lv_at hl 3 rfl) ?_
      refine lv_aload_n F.1 F.2.1 dX12_said_28 rfl (lv_at hl 0 rfl) ?_
      refine a_getr F inX12 hP 85 6 tc_85 rfl rfl (by decide) q1477 (fun _ h9 => h9) dX12_said_29 ?_
      refine a_bp F (6 : Int32) dX12_said_32 (by decide) ?_
      have g4 : (0 : Int) ≤ (u.1 87 6).toInt ∧ (u.1 87 6).toInt ≤ 8 := hR 87 6
      refine a_ialdK F hP 87 6 tc_87 rfl rfl (i_in ic_6 (by omega)) (v := (u.1 87 6)) rfl dX12_said_34 ?_
      refine b_ge F 65 dX12_said_35 (by decide) rfl rfl (fun c5 => ?_) (fun c5 => ?_)
      · refine lv_iload_n F.1 F.2.1 dX12_said_65 rfl (lv_at hl 1 rfl) ?_
        refine a_ic F (-1 : Int32) dX12_said_66 (by decide) ?_
        refine b_ne F 74 dX12_said_67 (by decide) rfl ic_m1 (fun c6 => ?_) (fun c6 => ?_)
        · refine a_ic F (-1 : Int32) dX12_said_74 (by decide) ?_
          exact a_reti F hr hlocks hP hD hS dX12_said_75 ⟨hR, hF⟩
        · refine lv_iload_n F.1 F.2.1 dX12_said_70 rfl (lv_at hl 2 rfl) ?_
          refine lv_goto (tgt := 75) F.1 F.2.1 dX12_said_71 (by decide) ?_
          exact a_reti F hr hlocks hP hD hS dX12_said_75 ⟨hR, hF⟩
      · refine lv_aload_n F.1 F.2.1 dX12_said_38 rfl (lv_at hl 0 rfl) ?_
        refine lv_iload_n F.1 F.2.1 dX12_said_39 rfl (lv_at hl 3 rfl) ?_
        refine a_Vi F hml hl.1 hA hP hD hS (As := [.int x3]) (c_X12_isSaid_85 l dC dI ad cA nF _ x3 hR (by omega) hK_CW) (cs_RX12_451 (d := 8) F.2.2.1 (by decide)) tc_85 rfl rfl rfl rfl (Nat.le_of_ble_eq_true rfl) dX12_said_40 ⟨Nat.le_refl 0, Nat.le_refl 0⟩ (fun r7 u7 H locs hq hP hD hS => ?_)
        obtain ⟨hR, hF7, gr7⟩ := hq
        have hF := hF.tr hF7 (by decide)
        have hK_CW := sp_fr sp_CW hF7 (by decide) hK_CW
        refine z_ne F 49 dX12_said_43 (by decide) rfl (fun c8 => ?_) (fun c8 => ?_)
        · refine lv_iload_n F.1 F.2.1 dX12_said_49 rfl (lv_at hl 2 rfl) ?_
          refine lv_iload_n F.1 F.2.1 dX12_said_50 rfl (lv_at hl 1 rfl) ?_
          refine b_ne F 56 dX12_said_51 (by decide) rfl rfl (fun c9 => ?_) (fun c9 => ?_)
          · refine a_iincU F (k := 2) (fun v10 => [(2, .int v10), (0, .ref (ad 85)), (1, .int p0), (3, .int x3)]) dX12_said_56 hl rfl (by decide) (fun _ => rfl) (fun v10 ls hl => ?_)
            exact L59 v10 x3 _ _ _ _ hR hF hK_CW (by omega) (by omega) (i_trB (hF7 85 0 rfl) (by omega : (0 : Int) ≤ (u.1 85 0).toInt ∧ (u.1 85 0).toInt ≤ 0)) (i_trB (hF7 87 6 rfl) (by omega : (1 : Int) ≤ (u.1 87 6).toInt ∧ (u.1 87 6).toInt ≤ 8)) (i_trB (hF7 87 476 rfl) (by omega : (1 : Int) ≤ (u.1 87 476).toInt ∧ (u.1 87 476).toInt ≤ 45)) (by omega) hP hD hS (lv_sub hl [1, 2, 0, 3] rfl)
          · refine lv_iload_n F.1 F.2.1 dX12_said_54 rfl (lv_at hl 3 rfl) ?_
            exact a_reti F hr hlocks hP hD hS dX12_said_55 ⟨hR, hF⟩
        · refine lv_goto (tgt := 59) F.1 F.2.1 dX12_said_46 (by decide) ?_
          exact L59 x2 x3 _ _ _ _ hR hF hK_CW (by omega) (by omega) (i_trB (hF7 85 0 rfl) (by omega : (0 : Int) ≤ (u.1 85 0).toInt ∧ (u.1 85 0).toInt ≤ 0)) (i_trB (hF7 87 6 rfl) (by omega : (1 : Int) ≤ (u.1 87 6).toInt ∧ (u.1 87 6).toInt ≤ 8)) (i_trB (hF7 87 476 rfl) (by omega : (1 : Int) ≤ (u.1 87 476).toInt ∧ (u.1 87 476).toInt ≤ 45)) (by omega) hP hD hS (lv_sub hl [0, 1, 2, 3] rfl)
  have L21 : ∀ (u : ac_U) (H : Heap) (locs : List Loc) (ls : Array Slot), ac_R rg u → ac_Fr [(85, some 0), (101, none)] u0 u → cdI u → (0 : Int) ≤ (u.1 85 0).toInt ∧ (u.1 85 0).toInt ≤ 0 → (0 : Int) ≤ (u.1 87 476).toInt ∧ (u.1 87 476).toInt ≤ 45 → va_P (dC, dI) vwCl (ac_w ad cA (TT nF) u) H → va_D A (ac_w ad cA (TT nF) u) → va_S A s.heap H locs → lv_has ls 4 [] → W p l e (ac_rm 9) s m [.ref (ad 85), .int p0].toArray below meth c H locs 0 0 (MQ below (va_Qi (fun (r : Int32) (u : ac_U) => ac_R rg u ∧ ac_Fr [(85, some 0), (101, none)] u0 u) (ac_B (dC, dI) vwCl (ac_ty cA) ad cA (TT nF) A) A) [.ref (ad 85), .int p0].toArray s 0 0 A) (F0 m 21 ls []) := by
    intro u H locs ls hR hF hK_CW f0 f1 hP hD hS hl
    refine a_ic F (-1 : Int32) dX12_said_21 (by decide) ?_
    exact a_reti F hr hlocks hP hD hS dX12_said_22 ⟨hR, hF⟩
  refine lv_aload_n F.1 F.2.1 dX12_said_0 rfl (lv_at hl 0 rfl) ?_
  refine a_ic F (0 : Int32) dX12_said_1 (by decide) ?_
  refine a_puti F inX12 tyX12 tyX12_ok nmX12 hP hD hS 85 0 tc_85 rfl rfl (by decide) q1471 (fun _ h9 => h9) rfl (ty := .int) (tyX12_ok 0 (by decide)) rfl rfl dX12_said_2 (fun H locs hP hD hS => ?_)
  have hR := hR.si (c := 85) (k := 0) (v := (0 : Int32)) (by rw [ic_0]; exact (by omega : (0 : Int) ≤ (0 : Int) ∧ (0 : Int) ≤ 1))
  have hF := hF.si (c := 85) (k := 0) (v := (0 : Int32)) rfl
  have hK_CW := sp_sgD sp_CW hD hK_CW (by decide)
  refine lv_aload_n F.1 F.2.1 dX12_said_5 rfl (lv_at hl 0 rfl) ?_
  refine a_getr F inX12 hP 85 6 tc_85 rfl rfl (by decide) q1477 (fun _ h9 => h9) dX12_said_6 ?_
  refine a_sp F (476 : Int32) dX12_said_9 (by decide) ?_
  have g11 : (0 : Int) ≤ (u0.1 87 476).toInt ∧ (u0.1 87 476).toInt ≤ 45 := hR 87 476
  refine a_ialdK F hP 87 476 tc_87 rfl rfl (i_in ic_476 (by omega)) (v := (u0.1 87 476)) rfl dX12_said_12 ?_
  refine z_eq F 21 dX12_said_13 (by decide) rfl (fun c12 => ?_) (fun c12 => ?_)
  · exact L21 _ _ _ _ hR hF hK_CW (by omega : (0 : Int) ≤ (0 : Int) ∧ (0 : Int) ≤ 0) (by omega : (0 : Int) ≤ (u0.1 87 476).toInt ∧ (u0.1 87 476).toInt ≤ 45) hP hD hS (lv_sub hl [] rfl)
  · refine lv_iload_n F.1 F.2.1 dX12_said_16 rfl (lv_at hl 1 rfl) ?_
    refine a_ic F (-1 : Int32) dX12_said_17 (by decide) ?_
    refine b_ge F 23 dX12_said_18 (by decide) rfl ic_m1 (fun c13 => ?_) (fun c13 => ?_)
    · refine a_ic F (0 : Int32) dX12_said_23 (by decide) ?_
      refine lv_istore_n (lv' := [(2, .int (0 : Int32)), (0, .ref (ad 85)), (1, .int p0)]) F.1 F.2.1 dX12_said_24 rfl hl (by decide) rfl (fun ls hl => ?_)
      refine a_ic F (0 : Int32) dX12_said_25 (by decide) ?_
      refine lv_istore_n (lv' := [(3, .int (0 : Int32)), (2, .int (0 : Int32)), (0, .ref (ad 85)), (1, .int p0)]) F.1 F.2.1 dX12_said_26 rfl hl (by decide) rfl (fun ls hl => ?_)
      exact L27 10 (0 : Int32) (0 : Int32) _ _ _ _ hR hF (by decide) hK_CW (by omega) (by decide) (by omega : (0 : Int) ≤ (0 : Int) ∧ (0 : Int) ≤ 0) (by omega : (1 : Int) ≤ (u0.1 87 476).toInt ∧ (u0.1 87 476).toInt ≤ 45) hP hD hS (lv_sub hl [2, 3, 1, 0] rfl)
    · exact L21 _ _ _ _ hR hF hK_CW (by omega : (0 : Int) ≤ (0 : Int) ∧ (0 : Int) ≤ 0) (by omega : (0 : Int) ≤ (u0.1 87 476).toInt ∧ (u0.1 87 476).toInt ≤ 45) hP hD hS (lv_sub hl [] rfl)

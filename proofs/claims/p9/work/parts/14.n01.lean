set_option maxHeartbeats 600000 in
set_option maxRecDepth 100000 in
theorem c_X12_lives_85__2 (l : Launch) (dC : Nat → ClassId) (dI : Nat → Nat → Nat) (ad : Nat → Nat) (cA : Nat → ClassId) (nF : Nat) (u0 : ac_U) (p0 : Int32) (hR : ac_R rg u0) (hp0 : (0 : Int) ≤ p0.toInt ∧ p0.toInt ≤ 117) (hg0 : p0.toInt < 3 * (u0.1 85 35).toInt ∧ p0.toInt % 3 = 0) (hK_MS : msI u0) (hK_AP : apI u0) (hK_BLI : blI u0) (hK_BG : bgI u0) : ac_Mi l yX12_lives (.code yX12_lives cX12_lives 6 (some .int) :: TB) 3 (dC, dI) vwCl (ac_ty cA) ad cA (TT nF) [.ref (ad 85), .int p0] u0 (fun (r : Int32) (u : ac_U) => ac_R rg u ∧ ac_Fr [(87, none)] u0 u ∧ ((0 : Int) ≤ r.toInt ∧ r.toInt ≤ 6) ∧ msI u ∧ apI u ∧ (cdI u0 → cdI u) ∧ (unI u0 → unI u) ∧ (bfI u0 → bfI u) ∧ (auI u0 → auI u) ∧ (abI u0 → abI u) ∧ (bgI u0 → bgI u)) := by
  refine ac_Mi.of (cc := cX12_lives) (maxL := 6) (ret := (some .int)) (by decide) rfl (Nat.le_of_ble_eq_true rfl) ?_
  intro p e s m below meth c A ls F hml hr hlocks hA hP hD hS hl
  have F : ac_X p s m [.ref (ad 85), .int p0].toArray c cX12_lives RX12 TB (dC, dI) vwCl (ac_ty cA) := ⟨F.1, F.2.1, fun w h => F.2.2.1 w (List.mem_cons_of_mem _ h), F.2.2.2.1, F.2.2.2.2⟩
  have hl : lv_has ls 6 [(0, .ref (ad 85)), (1, .int p0)] := hl
  have hF : ac_Fr [(87, none)] u0 u0 := ac_Fr.rf
  have hK_i_CW : (fun u => cdI u0 → cdI u) u0 := fun h => h
  have hK_i_UI : (fun u => unI u0 → unI u) u0 := fun h => h
  have hK_i_BI : (fun u => bfI u0 → bfI u) u0 := fun h => h
  have hK_i_AU : (fun u => auI u0 → auI u) u0 := fun h => h
  have hK_i_AB : (fun u => abI u0 → abI u) u0 := fun h => h
  have hK_i_BG : (fun u => bgI u0 → bgI u) u0 := fun h => h
  have L143 : ∀ (n143 : Nat) (x2 : Int32) (x5 : Int32) (u : ac_U) (H : Heap) (locs : List Loc) (ls : Array Slot), ac_R rg u → ac_Fr [(87, none)] u0 u → 99 - x5.toInt < (n143 : Int) → msI u → apI u → (fun u => cdI u0 → cdI u) u → (fun u => unI u0 → unI u) u → (fun u => bfI u0 → bfI u) u → (fun u => auI u0 → auI u) u → (fun u => abI u0 → abI u) u → (fun u => bgI u0 → bgI u) u → (0 : Int) ≤ x2.toInt ∧ x2.toInt ≤ 99 → (0 : Int) ≤ x5.toInt ∧ x5.toInt ≤ 99 → (u.1 87 106).toInt + x2.toInt - x5.toInt ≤ 20 * (u.1 87 0).toInt → va_P (dC, dI) vwCl (ac_w ad cA (TT nF) u) H → va_D A (ac_w ad cA (TT nF) u) → va_S A s.heap H locs → lv_has ls 6 [(0, .ref (ad 85)), (2, .int x2), (5, .int x5)] → W p l e (ac_rm 3) s m [.ref (ad 85), .int p0].toArray below meth c H locs 0 0 (MQ below (va_Qi (fun (r : Int32) (u : ac_U) => ac_R rg u ∧ ac_Fr [(87, none)] u0 u ∧ ((0 : Int) ≤ r.toInt ∧ r.toInt ≤ 6) ∧ msI u ∧ apI u ∧ (cdI u0 → cdI u) ∧ (unI u0 → unI u) ∧ (bfI u0 → bfI u) ∧ (auI u0 → auI u) ∧ (abI u0 → abI u) ∧ (bgI u0 → bgI u)) (ac_B (dC, dI) vwCl (ac_ty cA) ad cA (TT nF) A) A) [.ref (ad 85), .int p0].toArray s 0 0 A) (F0 m 143 ls []) := by
    intro n143
    induction n143 with
    | zero => intro x2 x5 u H locs ls hR hF hn143 hK_MS hK_AP hK_i_CW hK_i_UI hK_i_BI hK_i_AU hK_i_AB hK_i_BG f0 f1 f2 hP hD hS hl; exfalso; omega
    | succ n143 ih143 =>
      intro x2 x5 u H locs ls hR hF hn143 hK_MS hK_AP hK_i_CW hK_i_UI hK_i_BI hK_i_AU hK_i_AB hK_i_BG f0 f1 f2 hP hD hS hl
      refine lv_iload F.1 F.2.1 dX12_lives_143 (lv_at hl 2 rfl) ?_
      refine lv_iload_n F.1 F.2.1 dX12_lives_145 rfl (lv_at hl 1 rfl) ?_
      refine b_ge F 159 dX12_lives_146 (by decide) rfl rfl (fun c1 => ?_) (fun c1 => ?_)
      · refine a_ic F (0 : Int32) dX12_lives_159 (by decide) ?_
        exact a_reti F hr hlocks hP hD hS dX12_lives_160 ⟨hR, hF, (by decide), hK_MS, hK_AP, hK_i_CW, hK_i_UI, hK_i_BI, hK_i_AU, hK_i_AB, hK_i_BG⟩
      · refine lv_aload_n F.1 F.2.1 dX12_lives_149 rfl (lv_at hl 0 rfl) ?_
        have hO2 : (u.1 87 106).toInt ≤ 20 * (u.1 87 0).toInt := hK_MS.1
        have hQ2 : 4 ≤ (u.1 87 0).toInt ∧ (u.1 87 0).toInt ≤ 24 := hR 87 0
        have hW2 : 0 ≤ (u.1 87 106).toInt ∧ (u.1 87 106).toInt ≤ 480 := hR 87 106
        have g3 : (0 : Int) ≤ (u.1 87 106).toInt ∧ (u.1 87 106).toInt ≤ 480 := hR 87 106
        have g4 : (4 : Int) ≤ (u.1 87 0).toInt ∧ (u.1 87 0).toInt ≤ 24 := hR 87 0
        refine a_Vv F hml hl.1 hA hP hD hS (As := []) (c_X12_hour_85__3 l dC dI ad cA nF _  hR (by omega : (0 : Int) ≤ (u.1 87 106).toInt ∧ (u.1 87 106).toInt ≤ 479) (by omega : (u.1 87 106).toInt < 20 * (u.1 87 0).toInt) hK_MS) (cs_RX12_292 (d := 1) F.2.2.1 (by decide)) tc_85 rfl rfl rfl rfl (Nat.le_of_ble_eq_true rfl) dX12_lives_150 ⟨Nat.le_refl 0, Nat.le_refl 0⟩ (fun u5 H locs hq hP hD hS => ?_)
        obtain ⟨hR, hF5, xr5, hK_MS, hJ5_CW, hJ5_UI, hJ5_BI, hJ5_AP, hJ5_AU, hJ5_AB, hJ5_BG⟩ := hq
        have hF := hF.tr hF5 (by decide)
        have hK_AP := hJ5_AP hK_AP
        have hK_i_CW : (fun u => cdI u0 → cdI u) u5 := fun h => hJ5_CW (hK_i_CW h)
        have hK_i_UI : (fun u => unI u0 → unI u) u5 := fun h => hJ5_UI (hK_i_UI h)
        have hK_i_BI : (fun u => bfI u0 → bfI u) u5 := fun h => hJ5_BI (hK_i_BI h)
        have hK_i_AU : (fun u => auI u0 → auI u) u5 := fun h => hJ5_AU (hK_i_AU h)
        have hK_i_AB : (fun u => abI u0 → abI u) u5 := fun h => hJ5_AB (hK_i_AB h)
        have hK_i_BG : (fun u => bgI u0 → bgI u) u5 := fun h => hJ5_BG (hK_i_BG h)
        have g6 : (0 : Int) ≤ (u5.1 87 106).toInt ∧ (u5.1 87 106).toInt ≤ 480 := hR 87 106
        have g7 : (4 : Int) ≤ (u5.1 87 0).toInt ∧ (u5.1 87 0).toInt ≤ 24 := hR 87 0
        have xr5 : (u5.1 87 106).toInt = (u.1 87 106).toInt + 1 ∧ (u5.1 87 0).toInt = (u.1 87 0).toInt := xr5
        refine a_iinc F (k := 2) (fun v8 => [(5, .int v8), (0, .ref (ad 85)), (2, .int x2)]) dX12_lives_153 hl rfl rfl (by decide) (by omega) (by decide) (fun _ => rfl) (fun v8 ls hv8 hl => ?_)
        refine lv_goto (tgt := 143) F.1 F.2.1 dX12_lives_156 (by decide) ?_
        exact ih143 x2 v8 _ _ _ _ hR hF (by omega) hK_MS hK_AP hK_i_CW hK_i_UI hK_i_BI hK_i_AU hK_i_AB hK_i_BG (by omega) (by omega) (by omega : (u5.1 87 106).toInt + x2.toInt - v8.toInt ≤ 20 * (u5.1 87 0).toInt) hP hD hS (lv_sub hl [1, 2, 0] rfl)
  have L114 : ∀ (x4 : Int32) (u : ac_U) (H : Heap) (locs : List Loc) (ls : Array Slot), ac_R rg u → ac_Fr [(87, none)] u0 u → msI u → apI u → (fun u => cdI u0 → cdI u) u → (fun u => unI u0 → unI u) u → (fun u => bfI u0 → bfI u) u → (fun u => auI u0 → auI u) u → (fun u => abI u0 → abI u) u → (fun u => bgI u0 → bgI u) u → (0 : Int) ≤ x4.toInt ∧ x4.toInt ≤ 6 → va_P (dC, dI) vwCl (ac_w ad cA (TT nF) u) H → va_D A (ac_w ad cA (TT nF) u) → va_S A s.heap H locs → lv_has ls 6 [(4, .int x4)] → W p l e (ac_rm 3) s m [.ref (ad 85), .int p0].toArray below meth c H locs 0 0 (MQ below (va_Qi (fun (r : Int32) (u : ac_U) => ac_R rg u ∧ ac_Fr [(87, none)] u0 u ∧ ((0 : Int) ≤ r.toInt ∧ r.toInt ≤ 6) ∧ msI u ∧ apI u ∧ (cdI u0 → cdI u) ∧ (unI u0 → unI u) ∧ (bfI u0 → bfI u) ∧ (auI u0 → auI u) ∧ (abI u0 → abI u) ∧ (bgI u0 → bgI u)) (ac_B (dC, dI) vwCl (ac_ty cA) ad cA (TT nF) A) A) [.ref (ad 85), .int p0].toArray s 0 0 A) (F0 m 114 ls []) := by
    intro x4 u H locs ls hR hF hK_MS hK_AP hK_i_CW hK_i_UI hK_i_BI hK_i_AU hK_i_AB hK_i_BG f0 hP hD hS hl
    refine lv_iload F.1 F.2.1 dX12_lives_114 (lv_at hl 0 rfl) ?_
    exact a_reti F hr hlocks hP hD hS dX12_lives_116 ⟨hR, hF, (by omega : (0 : Int) ≤ x4.toInt ∧ x4.toInt ≤ 6), hK_MS, hK_AP, hK_i_CW, hK_i_UI, hK_i_BI, hK_i_AU, hK_i_AB, hK_i_BG⟩
  have L92 : ∀ (x4 : Int32) (u : ac_U) (H : Heap) (locs : List Loc) (ls : Array Slot), ac_R rg u → ac_Fr [(87, none)] u0 u → msI u → apI u → (fun u => cdI u0 → cdI u) u → (fun u => unI u0 → unI u) u → (fun u => bfI u0 → bfI u) u → (fun u => auI u0 → auI u) u → (fun u => abI u0 → abI u) u → (fun u => bgI u0 → bgI u) u → (0 : Int) ≤ x4.toInt ∧ x4.toInt ≤ 4 → va_P (dC, dI) vwCl (ac_w ad cA (TT nF) u) H → va_D A (ac_w ad cA (TT nF) u) → va_S A s.heap H locs → lv_has ls 6 [(4, .int x4)] → W p l e (ac_rm 3) s m [.ref (ad 85), .int p0].toArray below meth c H locs 0 0 (MQ below (va_Qi (fun (r : Int32) (u : ac_U) => ac_R rg u ∧ ac_Fr [(87, none)] u0 u ∧ ((0 : Int) ≤ r.toInt ∧ r.toInt ≤ 6) ∧ msI u ∧ apI u ∧ (cdI u0 → cdI u) ∧ (unI u0 → unI u) ∧ (bfI u0 → bfI u) ∧ (auI u0 → auI u) ∧ (abI u0 → abI u) ∧ (bgI u0 → bgI u)) (ac_B (dC, dI) vwCl (ac_ty cA) ad cA (TT nF) A) A) [.ref (ad 85), .int p0].toArray s 0 0 A) (F0 m 92 ls []) := by
    intro x4 u H locs ls hR hF hK_MS hK_AP hK_i_CW hK_i_UI hK_i_BI hK_i_AU hK_i_AB hK_i_BG f0 hP hD hS hl
    refine lv_iload F.1 F.2.1 dX12_lives_92 (lv_at hl 0 rfl) ?_
    exact a_reti F hr hlocks hP hD hS dX12_lives_94 ⟨hR, hF, (by omega : (0 : Int) ≤ x4.toInt ∧ x4.toInt ≤ 6), hK_MS, hK_AP, hK_i_CW, hK_i_UI, hK_i_BI, hK_i_AU, hK_i_AB, hK_i_BG⟩
  have L71 : ∀ (x4 : Int32) (u : ac_U) (H : Heap) (locs : List Loc) (ls : Array Slot), ac_R rg u → ac_Fr [(87, none)] u0 u → msI u → apI u → (fun u => cdI u0 → cdI u) u → (fun u => unI u0 → unI u) u → (fun u => bfI u0 → bfI u) u → (fun u => auI u0 → auI u) u → (fun u => abI u0 → abI u) u → (fun u => bgI u0 → bgI u) u → (0 : Int) ≤ x4.toInt ∧ x4.toInt ≤ 3 → va_P (dC, dI) vwCl (ac_w ad cA (TT nF) u) H → va_D A (ac_w ad cA (TT nF) u) → va_S A s.heap H locs → lv_has ls 6 [(4, .int x4)] → W p l e (ac_rm 3) s m [.ref (ad 85), .int p0].toArray below meth c H locs 0 0 (MQ below (va_Qi (fun (r : Int32) (u : ac_U) => ac_R rg u ∧ ac_Fr [(87, none)] u0 u ∧ ((0 : Int) ≤ r.toInt ∧ r.toInt ≤ 6) ∧ msI u ∧ apI u ∧ (cdI u0 → cdI u) ∧ (unI u0 → unI u) ∧ (bfI u0 → bfI u) ∧ (auI u0 → auI u) ∧ (abI u0 → abI u) ∧ (bgI u0 → bgI u)) (ac_B (dC, dI) vwCl (ac_ty cA) ad cA (TT nF) A) A) [.ref (ad 85), .int p0].toArray s 0 0 A) (F0 m 71 ls []) := by
    intro x4 u H locs ls hR hF hK_MS hK_AP hK_i_CW hK_i_UI hK_i_BI hK_i_AU hK_i_AB hK_i_BG f0 hP hD hS hl
    refine lv_iload F.1 F.2.1 dX12_lives_71 (lv_at hl 0 rfl) ?_
    exact a_reti F hr hlocks hP hD hS dX12_lives_73 ⟨hR, hF, (by omega : (0 : Int) ≤ x4.toInt ∧ x4.toInt ≤ 6), hK_MS, hK_AP, hK_i_CW, hK_i_UI, hK_i_BI, hK_i_AU, hK_i_AB, hK_i_BG⟩
  refine lv_aload_n F.1 F.2.1 dX12_lives_0 rfl (lv_at hl 0 rfl) ?_
  refine a_getr F inX12 hP 85 8 tc_85 rfl rfl (by decide) q1479 (fun _ h9 => h9) dX12_lives_1 ?_
  refine lv_iload_n F.1 F.2.1 dX12_lives_4 rfl (lv_at hl 1 rfl) ?_
  refine a_ic F (1 : Int32) dX12_lives_5 (by decide) ?_
  refine a_iadd F dX12_lives_6 rfl ic_1 (by omega) (fun v9 hv9 => ?_)
  refine a_iald F hP 89 tc_89 rfl (i_in rfl (by omega)) dX12_lives_7 (fun v10 ev10 => ?_)
  have hm7 := bl_k hK_BLI (p := p0) (i := v9) (by omega) (by omega) ev10
  refine lv_istore_n (lv' := [(2, .int v10), (0, .ref (ad 85)), (1, .int p0)]) F.1 F.2.1 dX12_lives_8 rfl hl (by decide) rfl (fun ls hl => ?_)
  refine lv_aload_n F.1 F.2.1 dX12_lives_9 rfl (lv_at hl 1 rfl) ?_
  refine a_getr F inX12 hP 85 8 tc_85 rfl rfl (by decide) q1479 (fun _ h9 => h9) dX12_lives_10 ?_
  refine lv_iload_n F.1 F.2.1 dX12_lives_13 rfl (lv_at hl 2 rfl) ?_
  refine a_ic F (2 : Int32) dX12_lives_14 (by decide) ?_
  refine a_iadd F dX12_lives_15 rfl ic_2 (by omega) (fun v11 hv11 => ?_)
  refine a_iald F hP 89 tc_89 rfl (i_in rfl (by omega)) dX12_lives_16 (fun v12 ev12 => ?_)
  refine lv_istore_n (lv' := [(3, .int v12), (2, .int v10), (0, .ref (ad 85)), (1, .int p0)]) F.1 F.2.1 dX12_lives_17 rfl hl (by decide) rfl (fun ls hl => ?_)
  refine a_ic F (0 : Int32) dX12_lives_18 (by decide) ?_
  refine lv_istore (lv' := [(4, .int (0 : Int32)), (3, .int v12), (2, .int v10), (0, .ref (ad 85)), (1, .int p0)]) F.1 F.2.1 dX12_lives_19 hl (by decide) rfl (fun ls hl => ?_)
  refine lv_aload_n F.1 F.2.1 dX12_lives_21 rfl (lv_at hl 3 rfl) ?_
  refine a_getr F inX12 hP 85 8 tc_85 rfl rfl (by decide) q1479 (fun _ h9 => h9) dX12_lives_22 ?_
  refine lv_iload_n F.1 F.2.1 dX12_lives_25 rfl (lv_at hl 4 rfl) ?_
  refine a_iald F hP 89 tc_89 rfl (i_in rfl (by omega)) dX12_lives_26 (fun v13 ev13 => ?_)
  have hm9 := bl_get hK_BLI (p := p0) (i := v9) (j := v11) (by omega) (by omega) (by omega) ev13 ev10 ev12
  have hm8 := bg_get hK_BG (p := p0) (j := v11) (by omega) (by omega) ev13 ev12
  rcases (show (v13.toInt < 0 ∨ 2 < v13.toInt) ∨ v13.toInt = 0 ∨ v13.toInt = 1 ∨ v13.toInt = 2 by omega) with c14 | c14 | c14 | c14
  · refine lv_tableOut (tgt := 117) F.1 F.2.1 dX12_lives_27 c14 (by decide) ?_
    refine lv_aload_n F.1 F.2.1 dX12_lives_117 rfl (lv_at hl 3 rfl) ?_
    refine a_getr F inX12 hP 85 6 tc_85 rfl rfl (by decide) q1477 (fun _ h9 => h9) dX12_lives_118 ?_
    refine a_bp F (106 : Int32) dX12_lives_121 (by decide) ?_
    have g15 : (0 : Int) ≤ (u0.1 87 106).toInt ∧ (u0.1 87 106).toInt ≤ 480 := hR 87 106
    refine a_ialdK F hP 87 106 tc_87 rfl rfl (i_in ic_106 (by omega)) (v := (u0.1 87 106)) rfl dX12_lives_123 ?_
    refine lv_iload_n F.1 F.2.1 dX12_lives_124 rfl (lv_at hl 2 rfl) ?_
    refine a_iadd F dX12_lives_125 rfl rfl (by omega) (fun v16 hv16 => ?_)
    refine a_bp F (20 : Int32) dX12_lives_126 (by decide) ?_
    refine lv_aload_n F.1 F.2.1 dX12_lives_128 rfl (lv_at hl 3 rfl) ?_
    refine a_getr F inX12 hP 85 6 tc_85 rfl rfl (by decide) q1477 (fun _ h9 => h9) dX12_lives_129 ?_
    refine a_ic F (0 : Int32) dX12_lives_132 (by decide) ?_
    have g17 : (4 : Int) ≤ (u0.1 87 0).toInt ∧ (u0.1 87 0).toInt ≤ 24 := hR 87 0
    refine a_ialdK F hP 87 0 tc_87 rfl rfl (i_in ic_0 (by omega)) (v := (u0.1 87 0)) rfl dX12_lives_133 ?_
    refine a_imul F dX12_lives_134 ic_20 rfl (by omega) (fun v18 hv18 => ?_)
    refine b_le F 140 dX12_lives_135 (by decide) rfl rfl (fun c19 => ?_) (fun c19 => ?_)
    · refine a_ic F (0 : Int32) dX12_lives_140 (by decide) ?_
      refine lv_istore (lv' := [(5, .int (0 : Int32)), (4, .int (0 : Int32)), (3, .int v12), (2, .int v10), (0, .ref (ad 85)), (1, .int p0)]) F.1 F.2.1 dX12_lives_141 hl (by decide) rfl (fun ls hl => ?_)
      exact L143 101 v10 (0 : Int32) _ _ _ _ hR hF (by decide) hK_MS hK_AP hK_i_CW hK_i_UI hK_i_BI hK_i_AU hK_i_AB hK_i_BG (by omega) (by decide) (by first | (rw [ic_0]; exact (by omega : (u0.1 87 106).toInt + v10.toInt - (0 : Int) ≤ 20 * (u0.1 87 0).toInt)) | rw [ic_0]) hP hD hS (lv_sub hl [4, 3, 0] rfl)
    · refine a_ic F (3 : Int32) dX12_lives_138 (by decide) ?_
      exact a_reti F hr hlocks hP hD hS dX12_lives_139 ⟨hR, hF, (by decide), hK_MS, hK_AP, hK_i_CW, hK_i_UI, hK_i_BI, hK_i_AU, hK_i_AB, hK_i_BG⟩
  · refine lv_tableIn (tgt := 52) F.1 F.2.1 dX12_lives_27 (by omega) (by omega) (by rw [c14]; rfl) (by decide) ?_
    refine lv_aload_n F.1 F.2.1 dX12_lives_52 rfl (lv_at hl 3 rfl) ?_
    refine lv_iload_n F.1 F.2.1 dX12_lives_53 rfl (lv_at hl 2 rfl) ?_
    refine lv_iload_n F.1 F.2.1 dX12_lives_54 rfl (lv_at hl 1 rfl) ?_
    refine a_Vi F hml hl.1 hA hP hD hS (As := [.int v10, .int v12]) (c_X12_whyGoOf_85 l dC dI ad cA nF _ v10 v12 hR (by omega) (by omega)) (cs_RX12_266 (d := 2) F.2.2.1 (by decide)) tc_85 rfl rfl rfl rfl (Nat.le_of_ble_eq_true rfl) dX12_lives_55 ⟨Nat.le_refl 0, Nat.le_refl 0⟩ (fun r20 uN20 H locs hq hP hD hS => ?_)
    obtain ⟨hu20, gr20⟩ := hq
    rw [hu20] at hP hD
    refine lv_istore (lv' := [(4, .int r20), (3, .int v12), (2, .int v10), (0, .ref (ad 85)), (1, .int p0)]) F.1 F.2.1 dX12_lives_58 hl (by decide) rfl (fun ls hl => ?_)
    refine lv_iload F.1 F.2.1 dX12_lives_60 (lv_at hl 0 rfl) ?_
    refine z_ne F 71 dX12_lives_62 (by decide) rfl (fun c21 => ?_) (fun c21 => ?_)
    · exact L71 r20 _ _ _ _ hR hF hK_MS hK_AP hK_i_CW hK_i_UI hK_i_BI hK_i_AU hK_i_AB hK_i_BG (by omega) hP hD hS (lv_sub hl [0] rfl)
    · refine lv_aload_n F.1 F.2.1 dX12_lives_65 rfl (lv_at hl 3 rfl) ?_
      refine lv_iload_n F.1 F.2.1 dX12_lives_66 rfl (lv_at hl 2 rfl) ?_
      refine lv_iload_n F.1 F.2.1 dX12_lives_67 rfl (lv_at hl 1 rfl) ?_
      have g22 : (0 : Int) ≤ (u0.1 87 1).toInt ∧ (u0.1 87 1).toInt ≤ 8 := hR 87 1
      refine a_Vv F hml hl.1 hA hP hD hS (As := [.int v10, .int v12]) (c_X12_goes_85__3 l dC dI ad cA nF _ v10 v12 hR (by omega) (by omega) (by exact (by omega : v12.toInt < (u0.1 87 1).toInt)) hK_AP) (cs_RX12_272 (d := 1) F.2.2.1 (by decide)) tc_85 rfl rfl rfl rfl (Nat.le_of_ble_eq_true rfl) dX12_lives_68 ⟨Nat.le_refl 0, Nat.le_refl 0⟩ (fun u23 H locs hq hP hD hS => ?_)
      obtain ⟨hR, hF23, xr23, hK_AP, hJ23_MS, hJ23_CW, hJ23_UI, hJ23_BI, hJ23_AU, hJ23_AB, hJ23_BG⟩ := hq
      have hF := hF.tr hF23 (by decide)
      have hK_MS := hJ23_MS hK_MS
      have hK_BLI := sp_fr sp_BLI hF23 (by decide) hK_BLI
      have hK_BG := hJ23_BG hK_BG
      have hK_i_CW : (fun u => cdI u0 → cdI u) u23 := fun h => hJ23_CW (hK_i_CW h)
      have hK_i_UI : (fun u => unI u0 → unI u) u23 := fun h => hJ23_UI (hK_i_UI h)
      have hK_i_BI : (fun u => bfI u0 → bfI u) u23 := fun h => hJ23_BI (hK_i_BI h)
      have hK_i_AU : (fun u => auI u0 → auI u) u23 := fun h => hJ23_AU (hK_i_AU h)
      have hK_i_AB : (fun u => abI u0 → abI u) u23 := fun h => hJ23_AB (hK_i_AB h)
      have hK_i_BG : (fun u => bgI u0 → bgI u) u23 := fun h => hJ23_BG (hK_i_BG h)
      have g24 : (0 : Int) ≤ (u23.1 87 106).toInt ∧ (u23.1 87 106).toInt ≤ 480 := hR 87 106
      have g25 : (4 : Int) ≤ (u23.1 87 0).toInt ∧ (u23.1 87 0).toInt ≤ 24 := hR 87 0
      have xr23 : (u23.1 87 106).toInt = (u0.1 87 106).toInt ∧ (u23.1 87 0).toInt = (u0.1 87 0).toInt := xr23
      exact L71 r20 _ _ _ _ hR hF hK_MS hK_AP hK_i_CW hK_i_UI hK_i_BI hK_i_AU hK_i_AB hK_i_BG (by omega) hP hD hS (lv_sub hl [0] rfl)
  · refine lv_tableIn (tgt := 74) F.1 F.2.1 dX12_lives_27 (by omega) (by omega) (by rw [c14]; rfl) (by decide) ?_
    refine lv_aload_n F.1 F.2.1 dX12_lives_74 rfl (lv_at hl 3 rfl) ?_
    refine lv_iload_n F.1 F.2.1 dX12_lives_75 rfl (lv_at hl 2 rfl) ?_
    refine a_Vi F hml hl.1 hA hP hD hS (As := [.int v10]) (c_X12_whyAct_85 l dC dI ad cA nF _ v10 hR (by omega)) (cs_RX12_279 (d := 2) F.2.2.1 (by decide)) tc_85 rfl rfl rfl rfl (Nat.le_of_ble_eq_true rfl) dX12_lives_76 ⟨Nat.le_refl 0, Nat.le_refl 0⟩ (fun r26 uN26 H locs hq hP hD hS => ?_)
    obtain ⟨hu26, gr26, xr26⟩ := hq
    rw [hu26] at hP hD
    have g27 : (0 : Int) ≤ (u0.1 87 123).toInt ∧ (u0.1 87 123).toInt ≤ 80 := hR 87 123
    have xr26 : r26.toInt = 0 → (u0.1 87 123).toInt ≤ 79 := xr26
    refine lv_istore (lv' := [(4, .int r26), (3, .int v12), (2, .int v10), (0, .ref (ad 85)), (1, .int p0)]) F.1 F.2.1 dX12_lives_79 hl (by decide) rfl (fun ls hl => ?_)
    refine lv_iload F.1 F.2.1 dX12_lives_81 (lv_at hl 0 rfl) ?_
    refine z_ne F 92 dX12_lives_83 (by decide) rfl (fun c28 => ?_) (fun c28 => ?_)
    · exact L92 r26 _ _ _ _ hR hF hK_MS hK_AP hK_i_CW hK_i_UI hK_i_BI hK_i_AU hK_i_AB hK_i_BG (by omega) hP hD hS (lv_sub hl [0] rfl)
    · refine lv_aload_n F.1 F.2.1 dX12_lives_86 rfl (lv_at hl 3 rfl) ?_
      refine lv_iload_n F.1 F.2.1 dX12_lives_87 rfl (lv_at hl 2 rfl) ?_
      refine lv_iload_n F.1 F.2.1 dX12_lives_88 rfl (lv_at hl 1 rfl) ?_
      refine a_Vv F hml hl.1 hA hP hD hS (As := [.int v10, .int v12]) (c_X12_does_85__3 l dC dI ad cA nF _ v10 v12 hR (by omega) (by omega : (0 : Int) ≤ (u0.1 87 123).toInt ∧ (u0.1 87 123).toInt ≤ 79)) (cs_RX12_283 (d := 1) F.2.2.1 (by decide)) tc_85 rfl rfl rfl rfl (Nat.le_of_ble_eq_true rfl) dX12_lives_89 ⟨Nat.le_refl 0, Nat.le_refl 0⟩ (fun u29 H locs hq hP hD hS => ?_)
      obtain ⟨hR, hF29, xr29, hJ29_MS, hJ29_CW, hJ29_UI, hJ29_BI, hJ29_AP, hJ29_AU, hJ29_AB, hJ29_BG⟩ := hq
      have hF := hF.tr hF29 (by decide)
      have hK_MS := hJ29_MS hK_MS
      have hK_AP := hJ29_AP hK_AP
      have hK_BLI := sp_fr sp_BLI hF29 (by decide) hK_BLI
      have hK_BG := hJ29_BG hK_BG
      have hK_i_CW : (fun u => cdI u0 → cdI u) u29 := fun h => hJ29_CW (hK_i_CW h)
      have hK_i_UI : (fun u => unI u0 → unI u) u29 := fun h => hJ29_UI (hK_i_UI h)
      have hK_i_BI : (fun u => bfI u0 → bfI u) u29 := fun h => hJ29_BI (hK_i_BI h)
      have hK_i_AU : (fun u => auI u0 → auI u) u29 := fun h => hJ29_AU (hK_i_AU h)
      have hK_i_AB : (fun u => abI u0 → abI u) u29 := fun h => hJ29_AB (hK_i_AB h)
      have hK_i_BG : (fun u => bgI u0 → bgI u) u29 := fun h => hJ29_BG (hK_i_BG h)
      have g30 : (0 : Int) ≤ (u29.1 87 106).toInt ∧ (u29.1 87 106).toInt ≤ 480 := hR 87 106
      have g31 : (4 : Int) ≤ (u29.1 87 0).toInt ∧ (u29.1 87 0).toInt ≤ 24 := hR 87 0
      have xr29 : (u29.1 87 106).toInt = (u0.1 87 106).toInt ∧ (u29.1 87 0).toInt = (u0.1 87 0).toInt := xr29
      exact L92 r26 _ _ _ _ hR hF hK_MS hK_AP hK_i_CW hK_i_UI hK_i_BI hK_i_AU hK_i_AB hK_i_BG (by omega) hP hD hS (lv_sub hl [0] rfl)
  · refine lv_tableIn (tgt := 95) F.1 F.2.1 dX12_lives_27 (by omega) (by omega) (by rw [c14]; rfl) (by decide) ?_
    refine lv_aload_n F.1 F.2.1 dX12_lives_95 rfl (lv_at hl 3 rfl) ?_
    refine lv_iload_n F.1 F.2.1 dX12_lives_96 rfl (lv_at hl 2 rfl) ?_
    refine lv_iload_n F.1 F.2.1 dX12_lives_97 rfl (lv_at hl 1 rfl) ?_
    refine a_Vi F hml hl.1 hA hP hD hS (As := [.int v10, .int v12]) (c_X12_whySay_85 l dC dI ad cA nF _ v10 v12 hR (by omega) (by omega)) (cs_RX12_286 (d := 2) F.2.2.1 (by decide)) tc_85 rfl rfl rfl rfl (Nat.le_of_ble_eq_true rfl) dX12_lives_98 ⟨Nat.le_refl 0, Nat.le_refl 0⟩ (fun r32 uN32 H locs hq hP hD hS => ?_)
    obtain ⟨hu32, gr32⟩ := hq
    rw [hu32] at hP hD
    refine lv_istore (lv' := [(4, .int r32), (3, .int v12), (2, .int v10), (0, .ref (ad 85)), (1, .int p0)]) F.1 F.2.1 dX12_lives_101 hl (by decide) rfl (fun ls hl => ?_)
    refine lv_iload F.1 F.2.1 dX12_lives_103 (lv_at hl 0 rfl) ?_
    refine z_ne F 114 dX12_lives_105 (by decide) rfl (fun c33 => ?_) (fun c33 => ?_)
    · exact L114 r32 _ _ _ _ hR hF hK_MS hK_AP hK_i_CW hK_i_UI hK_i_BI hK_i_AU hK_i_AB hK_i_BG (by omega) hP hD hS (lv_sub hl [0] rfl)
    · refine lv_aload_n F.1 F.2.1 dX12_lives_108 rfl (lv_at hl 3 rfl) ?_
      refine lv_iload_n F.1 F.2.1 dX12_lives_109 rfl (lv_at hl 2 rfl) ?_
      refine lv_iload_n F.1 F.2.1 dX12_lives_110 rfl (lv_at hl 1 rfl) ?_
      refine a_Vv F hml hl.1 hA hP hD hS (As := [.int v10, .int v12]) (c_X12_says_85__3 l dC dI ad cA nF _ v10 v12 hR (by omega) (by omega)) (cs_RX12_289 (d := 1) F.2.2.1 (by decide)) tc_85 rfl rfl rfl rfl (Nat.le_of_ble_eq_true rfl) dX12_lives_111 ⟨Nat.le_refl 0, Nat.le_refl 0⟩ (fun u34 H locs hq hP hD hS => ?_)
      obtain ⟨hR, hF34, xr34, hJ34_MS, hJ34_CW, hJ34_UI, hJ34_BI, hJ34_AP, hJ34_AU, hJ34_AB, hJ34_BG⟩ := hq
      have hF := hF.tr hF34 (by decide)
      have hK_MS := hJ34_MS hK_MS
      have hK_AP := hJ34_AP hK_AP
      have hK_BLI := sp_fr sp_BLI hF34 (by decide) hK_BLI
      have hK_BG := hJ34_BG hK_BG
      have hK_i_CW : (fun u => cdI u0 → cdI u) u34 := fun h => hJ34_CW (hK_i_CW h)
      have hK_i_UI : (fun u => unI u0 → unI u) u34 := fun h => hJ34_UI (hK_i_UI h)
      have hK_i_BI : (fun u => bfI u0 → bfI u) u34 := fun h => hJ34_BI (hK_i_BI h)
      have hK_i_AU : (fun u => auI u0 → auI u) u34 := fun h => hJ34_AU (hK_i_AU h)
      have hK_i_AB : (fun u => abI u0 → abI u) u34 := fun h => hJ34_AB (hK_i_AB h)
      have hK_i_BG : (fun u => bgI u0 → bgI u) u34 := fun h => hJ34_BG (hK_i_BG h)
      have g35 : (0 : Int) ≤ (u34.1 87 106).toInt ∧ (u34.1 87 106).toInt ≤ 480 := hR 87 106
      have g36 : (4 : Int) ≤ (u34.1 87 0).toInt ∧ (u34.1 87 0).toInt ≤ 24 := hR 87 0
      have xr34 : (u34.1 87 106).toInt = (u0.1 87 106).toInt ∧ (u34.1 87 0).toInt = (u0.1 87 0).toInt := xr34
      exact L114 r32 _ _ _ _ hR hF hK_MS hK_AP hK_i_CW hK_i_UI hK_i_BI hK_i_AU hK_i_AB hK_i_BG (by omega) hP hD hS (lv_sub hl [0] rfl)
set_option maxHeartbeats 600000 in
set_option maxRecDepth 100000 in
theorem c_X12_tries_85__3 (l : Launch) (dC : Nat → ClassId) (dI : Nat → Nat → Nat) (ad : Nat → Nat) (cA : Nat → ClassId) (nF : Nat) (u0 : ac_U)  (hR : ac_R rg u0) (hK_MS : msI u0) (hK_AP : apI u0) : ac_Mv l yX12_tries (.code yX12_tries cX12_tries 2 none :: TB) 1 (dC, dI) vwCl (ac_ty cA) ad cA (TT nF) [.ref (ad 85)] u0 (fun (u : ac_U) => ac_R rg u ∧ ac_Fr [(94, none)] u0 u ∧ bfI u ∧ abI u) := by
  refine ac_Mv.of (cc := cX12_tries) (maxL := 2) (ret := none) (by decide) rfl (Nat.le_of_ble_eq_true rfl) ?_
  intro p e s m below meth c A ls F hml hr hlocks hA hP hD hS hl
  have F : ac_X p s m [.ref (ad 85)].toArray c cX12_tries RX12 TB (dC, dI) vwCl (ac_ty cA) := ⟨F.1, F.2.1, fun w h => F.2.2.1 w (List.mem_cons_of_mem _ h), F.2.2.2.1, F.2.2.2.2⟩
  have hl : lv_has ls 2 [(0, .ref (ad 85))] := hl
  have hF : ac_Fr [(94, none)] u0 u0 := ac_Fr.rf
  have L2 : ∀ (n2 : Nat) (x1 : Int32) (u : ac_U) (H : Heap) (locs : List Loc) (ls : Array Slot), ac_R rg u → ac_Fr [(94, none)] u0 u → 370 - x1.toInt < (n2 : Int) → msI u → bkI x1.toInt u → apI u → abkI x1.toInt u → (0 : Int) ≤ x1.toInt ∧ x1.toInt ≤ 370 → va_P (dC, dI) vwCl (ac_w ad cA (TT nF) u) H → va_D A (ac_w ad cA (TT nF) u) → va_S A s.heap H locs → lv_has ls 2 [(0, .ref (ad 85)), (1, .int x1)] → W p l e (ac_rm 1) s m [.ref (ad 85)].toArray below meth c H locs 0 0 (MQ below (va_Qv (fun (u : ac_U) => ac_R rg u ∧ ac_Fr [(94, none)] u0 u ∧ bfI u ∧ abI u) (ac_B (dC, dI) vwCl (ac_ty cA) ad cA (TT nF) A) A) [.ref (ad 85)].toArray s 0 0 A) (F0 m 2 ls []) := by
    intro n2
    induction n2 with
    | zero => intro x1 u H locs ls hR hF hn2 hK_MS hK_BKx hK_AP hK_ABKx f0 hP hD hS hl; exfalso; omega
    | succ n2 ih2 =>
      intro x1 u H locs ls hR hF hn2 hK_MS hK_BKx hK_AP hK_ABKx f0 hP hD hS hl
      refine lv_iload_n F.1 F.2.1 dX12_tries_2 rfl (lv_at hl 1 rfl) ?_
      refine a_sp F (370 : Int32) dX12_tries_3 (by decide) ?_
      refine b_ge F 30 dX12_tries_6 (by decide) rfl ic_370 (fun c1 => ?_) (fun c1 => ?_)
      · exact a_retv F hr hlocks hP hD hS dX12_tries_30 ⟨hR, hF, (hK_BKx (by omega)), (ab_of hK_ABKx (by omega))⟩
      · refine lv_aload_n F.1 F.2.1 dX12_tries_9 rfl (lv_at hl 0 rfl) ?_
        refine a_getr F inX12 hP 85 23 tc_85 rfl rfl (by decide) q1494 (fun _ h9 => h9) dX12_tries_10 ?_
        refine lv_iload_n F.1 F.2.1 dX12_tries_13 rfl (lv_at hl 1 rfl) ?_
        refine lv_aload_n F.1 F.2.1 dX12_tries_14 rfl (lv_at hl 0 rfl) ?_
        refine a_getr F inX12 hP 85 6 tc_85 rfl rfl (by decide) q1477 (fun _ h9 => h9) dX12_tries_15 ?_
        refine a_bp F (106 : Int32) dX12_tries_18 (by decide) ?_
        refine lv_iload_n F.1 F.2.1 dX12_tries_20 rfl (lv_at hl 1 rfl) ?_
        refine a_iadd F dX12_tries_21 ic_106 rfl (by omega) (fun v2 hv2 => ?_)
        refine a_iald F hP 87 tc_87 rfl (i_in rfl (by omega)) dX12_tries_22 (fun v3 ev3 => ?_)
        refine a_iast F hP hD hS 94 tc_94 rfl (i_in rfl (by omega)) dX12_tries_23 (fun H locs hP hD hS => ?_)
        have hR := hR.si (c := 94) (k := x1.toNatClampNeg) (v := v3) (cp_el hR ev3 (rg_u3 (by omega) (by omega)).1)
        have hF := hF.si (c := 94) (k := x1.toNatClampNeg) (v := v3) rfl
        have hO_MS := hK_MS
        have hO_BKx := hK_BKx
        have hO_AP := hK_AP
        have hO_ABKx := hK_ABKx
        have hK_MS := sp_sgD sp_MS hD hK_MS (by decide)
        have hK_BKx := bk_w (i := x1) hO_BKx hO_MS (by omega) (k := v2) (by omega) ev3
        have hK_AP := sp_sgD sp_AP hD hK_AP (by decide)
        have hK_ABKx := abk_w (i := x1) hO_ABKx hO_AP (by omega) (k := v2) (by omega) ev3
        refine a_iinc F (k := 1) (fun v4 => [(1, .int v4), (0, .ref (ad 85))]) dX12_tries_24 hl rfl rfl (by decide) (by omega) (by decide) (fun _ => rfl) (fun v4 ls hv4 hl => ?_)
        refine lv_goto (tgt := 2) F.1 F.2.1 dX12_tries_27 (by decide) ?_
        exact ih2 v4 _ _ _ _ hR hF (by omega) hK_MS (bk_eq hK_BKx (by omega)) hK_AP (abk_eq hK_ABKx (by omega)) (by omega) hP hD hS (lv_sub hl [1, 0] rfl)
  refine a_ic F (0 : Int32) dX12_tries_0 (by decide) ?_
  refine lv_istore_n (lv' := [(1, .int (0 : Int32)), (0, .ref (ad 85))]) F.1 F.2.1 dX12_tries_1 rfl hl (by decide) rfl (fun ls hl => ?_)
  exact L2 372 (0 : Int32) _ _ _ _ hR hF (by decide) hK_MS (bk_0 (by decide)) hK_AP (abk_0 (by decide)) (by decide) hP hD hS (lv_sub hl [1, 0] rfl)
set_option maxHeartbeats 600000 in
set_option maxRecDepth 100000 in
theorem c_X12_daybook_85__2 (l : Launch) (dC : Nat → ClassId) (dI : Nat → Nat → Nat) (ad : Nat → Nat) (cA : Nat → ClassId) (nF : Nat) (u0 : ac_U) (p0 : Int32) (hR : ac_R rg u0) (hK_MS : msI u0) (hK_UI : unI u0) (hK_CW : cdI u0) (hK_AP : apI u0) (hK_AU : auI u0) : ac_Mi l yX12_daybook (.code yX12_daybook cX12_daybook 4 (some .int) :: TB) 8 (dC, dI) vwCl (ac_ty cA) ad cA (TT nF) [.ref (ad 85), .int p0] u0 (fun (r : Int32) (u : ac_U) => ac_R rg u ∧ ac_Fr [(85, some 0), (85, some 2), (85, some 3), (85, some 4), (85, some 5), (85, some 11), (85, some 12), (85, some 13), (85, some 14), (85, some 15), (85, some 16), (85, some 18), (85, some 24), (85, some 35), (85, some 37), (87, none), (89, none), (93, none), (94, none), (99, none)] u0 u ∧ msI u ∧ unI u ∧ cdI u ∧ apI u ∧ auI u) := by
  refine ac_Mi.of (cc := cX12_daybook) (maxL := 4) (ret := (some .int)) (by decide) rfl (Nat.le_of_ble_eq_true rfl) ?_
  intro p e s m below meth c A ls F hml hr hlocks hA hP hD hS hl
  have F : ac_X p s m [.ref (ad 85), .int p0].toArray c cX12_daybook RX12 TB (dC, dI) vwCl (ac_ty cA) := ⟨F.1, F.2.1, fun w h => F.2.2.1 w (List.mem_cons_of_mem _ h), F.2.2.2.1, F.2.2.2.2⟩
  have hl : lv_has ls 4 [(0, .ref (ad 85)), (1, .int p0)] := hl
  have hF : ac_Fr [(85, some 0), (85, some 2), (85, some 3), (85, some 4), (85, some 5), (85, some 11), (85, some 12), (85, some 13), (85, some 14), (85, some 15), (85, some 16), (85, some 18), (85, some 24), (85, some 35), (85, some 37), (87, none), (89, none), (93, none), (94, none), (99, none)] u0 u0 := ac_Fr.rf
  have L259 : ∀ (x2 : Int32) (u : ac_U) (H : Heap) (locs : List Loc) (ls : Array Slot), ac_R rg u → ac_Fr [(85, some 0), (85, some 2), (85, some 3), (85, some 4), (85, some 5), (85, some 11), (85, some 12), (85, some 13), (85, some 14), (85, some 15), (85, some 16), (85, some 18), (85, some 24), (85, some 35), (85, some 37), (87, none), (89, none), (93, none), (94, none), (99, none)] u0 u → msI u → unI u → cdI u → apI u → auI u → (-1 : Int) ≤ x2.toInt ∧ x2.toInt ≤ 39 → (0 : Int) ≤ (u.1 85 11).toInt ∧ (u.1 85 11).toInt ≤ 0 → (1 : Int) ≤ (u.1 85 37).toInt ∧ (u.1 85 37).toInt ≤ 1 → (0 : Int) ≤ (u.1 99 2).toInt ∧ (u.1 99 2).toInt ≤ 480 → va_P (dC, dI) vwCl (ac_w ad cA (TT nF) u) H → va_D A (ac_w ad cA (TT nF) u) → va_S A s.heap H locs → lv_has ls 4 [(2, .int x2)] → W p l e (ac_rm 8) s m [.ref (ad 85), .int p0].toArray below meth c H locs 0 0 (MQ below (va_Qi (fun (r : Int32) (u : ac_U) => ac_R rg u ∧ ac_Fr [(85, some 0), (85, some 2), (85, some 3), (85, some 4), (85, some 5), (85, some 11), (85, some 12), (85, some 13), (85, some 14), (85, some 15), (85, some 16), (85, some 18), (85, some 24), (85, some 35), (85, some 37), (87, none), (89, none), (93, none), (94, none), (99, none)] u0 u ∧ msI u ∧ unI u ∧ cdI u ∧ apI u ∧ auI u) (ac_B (dC, dI) vwCl (ac_ty cA) ad cA (TT nF) A) A) [.ref (ad 85), .int p0].toArray s 0 0 A) (F0 m 259 ls []) := by
    intro x2 u H locs ls hR hF hK_MS hK_UI hK_CW hK_AP hK_AU f0 f1 f2 f3 hP hD hS hl
    refine lv_iload_n F.1 F.2.1 dX12_daybook_259 rfl (lv_at hl 0 rfl) ?_
    exact a_reti F hr hlocks hP hD hS dX12_daybook_260 ⟨hR, hF, hK_MS, hK_UI, hK_CW, hK_AP, hK_AU⟩
  have L251 : ∀ (x2 : Int32) (u : ac_U) (H : Heap) (locs : List Loc) (ls : Array Slot), ac_R rg u → ac_Fr [(85, some 0), (85, some 2), (85, some 3), (85, some 4), (85, some 5), (85, some 11), (85, some 12), (85, some 13), (85, some 14), (85, some 15), (85, some 16), (85, some 18), (85, some 24), (85, some 35), (85, some 37), (87, none), (89, none), (93, none), (94, none), (99, none)] u0 u → msI u → unI u → cdI u → bfI u → apI u → auI u → abI u → (0 : Int) ≤ p0.toInt ∧ p0.toInt ≤ 1 → (-1 : Int) ≤ x2.toInt ∧ x2.toInt ≤ 39 → (0 : Int) ≤ (u.1 85 11).toInt ∧ (u.1 85 11).toInt ≤ 0 → (1 : Int) ≤ (u.1 85 37).toInt ∧ (u.1 85 37).toInt ≤ 1 → (0 : Int) ≤ (u.1 99 2).toInt ∧ (u.1 99 2).toInt ≤ 480 → va_P (dC, dI) vwCl (ac_w ad cA (TT nF) u) H → va_D A (ac_w ad cA (TT nF) u) → va_S A s.heap H locs → lv_has ls 4 [(0, .ref (ad 85)), (1, .int p0), (2, .int x2)] → W p l e (ac_rm 8) s m [.ref (ad 85), .int p0].toArray below meth c H locs 0 0 (MQ below (va_Qi (fun (r : Int32) (u : ac_U) => ac_R rg u ∧ ac_Fr [(85, some 0), (85, some 2), (85, some 3), (85, some 4), (85, some 5), (85, some 11), (85, some 12), (85, some 13), (85, some 14), (85, some 15), (85, some 16), (85, some 18), (85, some 24), (85, some 35), (85, some 37), (87, none), (89, none), (93, none), (94, none), (99, none)] u0 u ∧ msI u ∧ unI u ∧ cdI u ∧ apI u ∧ auI u) (ac_B (dC, dI) vwCl (ac_ty cA) ad cA (TT nF) A) A) [.ref (ad 85), .int p0].toArray s 0 0 A) (F0 m 251 ls []) := by
    intro x2 u H locs ls hR hF hK_MS hK_UI hK_CW hK_BI hK_AP hK_AU hK_AB f0 f1 f2 f3 f4 hP hD hS hl
    refine lv_iload_n F.1 F.2.1 dX12_daybook_251 rfl (lv_at hl 1 rfl) ?_
    refine z_ne F 259 dX12_daybook_252 (by decide) rfl (fun c1 => ?_) (fun c1 => ?_)
    · have g2 : (0 : Int) ≤ (u.1 85 11).toInt ∧ (u.1 85 11).toInt ≤ 4 := hR 85 11
      have g3 : (0 : Int) ≤ (u.1 85 37).toInt ∧ (u.1 85 37).toInt ≤ 1 := hR 85 37
      exact L259 x2 _ _ _ _ hR hF hK_MS hK_UI hK_CW hK_AP hK_AU (by omega) (by omega : (0 : Int) ≤ (u.1 85 11).toInt ∧ (u.1 85 11).toInt ≤ 0) (by omega : (1 : Int) ≤ (u.1 85 37).toInt ∧ (u.1 85 37).toInt ≤ 1) (by omega : (0 : Int) ≤ (u.1 99 2).toInt ∧ (u.1 99 2).toInt ≤ 480) hP hD hS (lv_sub hl [2] rfl)
    · refine lv_aload_n F.1 F.2.1 dX12_daybook_255 rfl (lv_at hl 0 rfl) ?_
      have g5 : (0 : Int) ≤ (u.1 85 35).toInt ∧ (u.1 85 35).toInt ≤ 40 := hR 85 35
      refine a_Vv F hml hl.1 hA hP hD hS (As := []) (c_X12_back_85__3 l dC dI ad cA nF _  hR hK_MS hK_BI hK_AP hK_AB) (cs_RX12_395 (d := 1) F.2.2.1 (by decide)) tc_85 rfl rfl rfl rfl (Nat.le_of_ble_eq_true rfl) dX12_daybook_256 ⟨Nat.le_refl 0, Nat.le_refl 0⟩ (fun u4 H locs hq hP hD hS => ?_)
      obtain ⟨hR, hF4, hK_MS, hK_BI, hK_AP, hK_AB, hJ4_CW, hJ4_UI, hJ4_AU⟩ := hq
      have hF := hF.tr hF4 (by decide)
      have hK_UI := hJ4_UI hK_UI
      have hK_CW := hJ4_CW hK_CW
      have hK_AU := hJ4_AU hK_AU
      exact L259 x2 _ _ _ _ hR hF hK_MS hK_UI hK_CW hK_AP hK_AU (by omega) (i_trB (hF4 85 11 rfl) (by omega : (0 : Int) ≤ (u.1 85 11).toInt ∧ (u.1 85 11).toInt ≤ 0)) (i_trB (hF4 85 37 rfl) (by omega : (1 : Int) ≤ (u.1 85 37).toInt ∧ (u.1 85 37).toInt ≤ 1)) (i_trB (hF4 99 2 rfl) (by omega : (0 : Int) ≤ (u.1 99 2).toInt ∧ (u.1 99 2).toInt ≤ 480)) hP hD hS (lv_sub hl [2] rfl)
  have L215 : ∀ (n215 : Nat) (x2 : Int32) (x3 : Int32) (u : ac_U) (H : Heap) (locs : List Loc) (ls : Array Slot), ac_R rg u → ac_Fr [(85, some 0), (85, some 2), (85, some 3), (85, some 4), (85, some 5), (85, some 11), (85, some 12), (85, some 13), (85, some 14), (85, some 15), (85, some 16), (85, some 18), (85, some 24), (85, some 35), (85, some 37), (87, none), (89, none), (93, none), (94, none), (99, none)] u0 u → 370 - x3.toInt < (n215 : Int) → msI u → unI u → cdI u → bfI u → apI u → auI u → abI u → (1 : Int) ≤ p0.toInt ∧ p0.toInt ≤ 1 → (-1 : Int) ≤ x2.toInt ∧ x2.toInt ≤ 39 → (0 : Int) ≤ x3.toInt ∧ x3.toInt ≤ 370 → (0 : Int) ≤ (u.1 85 11).toInt ∧ (u.1 85 11).toInt ≤ 0 → (1 : Int) ≤ (u.1 85 24).toInt ∧ (u.1 85 24).toInt ≤ 8 → (1 : Int) ≤ (u.1 85 37).toInt ∧ (u.1 85 37).toInt ≤ 1 → (1 : Int) ≤ (u.1 99 1).toInt → (0 : Int) ≤ (u.1 99 2).toInt ∧ (u.1 99 2).toInt ≤ 480 → va_P (dC, dI) vwCl (ac_w ad cA (TT nF) u) H → va_D A (ac_w ad cA (TT nF) u) → va_S A s.heap H locs → lv_has ls 4 [(0, .ref (ad 85)), (1, .int p0), (2, .int x2), (3, .int x3)] → W p l e (ac_rm 8) s m [.ref (ad 85), .int p0].toArray below meth c H locs 0 0 (MQ below (va_Qi (fun (r : Int32) (u : ac_U) => ac_R rg u ∧ ac_Fr [(85, some 0), (85, some 2), (85, some 3), (85, some 4), (85, some 5), (85, some 11), (85, some 12), (85, some 13), (85, some 14), (85, some 15), (85, some 16), (85, some 18), (85, some 24), (85, some 35), (85, some 37), (87, none), (89, none), (93, none), (94, none), (99, none)] u0 u ∧ msI u ∧ unI u ∧ cdI u ∧ apI u ∧ auI u) (ac_B (dC, dI) vwCl (ac_ty cA) ad cA (TT nF) A) A) [.ref (ad 85), .int p0].toArray s 0 0 A) (F0 m 215 ls []) := by
    intro n215
    induction n215 with
    | zero => intro x2 x3 u H locs ls hR hF hn215 hK_MS hK_UI hK_CW hK_BI hK_AP hK_AU hK_AB f0 f1 f2 f3 f4 f5 f6 f7 hP hD hS hl; exfalso; omega
    | succ n215 ih215 =>
      intro x2 x3 u H locs ls hR hF hn215 hK_MS hK_UI hK_CW hK_BI hK_AP hK_AU hK_AB f0 f1 f2 f3 f4 f5 f6 f7 hP hD hS hl
      refine lv_iload_n F.1 F.2.1 dX12_daybook_215 rfl (lv_at hl 3 rfl) ?_
      refine a_sp F (370 : Int32) dX12_daybook_216 (by decide) ?_
      refine b_ge F 251 dX12_daybook_219 (by decide) rfl ic_370 (fun c6 => ?_) (fun c6 => ?_)
      · have g7 : (0 : Int) ≤ (u.1 85 11).toInt ∧ (u.1 85 11).toInt ≤ 4 := hR 85 11
        have g8 : (0 : Int) ≤ (u.1 85 37).toInt ∧ (u.1 85 37).toInt ≤ 1 := hR 85 37
        exact L251 x2 _ _ _ _ hR hF hK_MS hK_UI hK_CW hK_BI hK_AP hK_AU hK_AB (by omega) (by omega) (by omega : (0 : Int) ≤ (u.1 85 11).toInt ∧ (u.1 85 11).toInt ≤ 0) (by omega : (1 : Int) ≤ (u.1 85 37).toInt ∧ (u.1 85 37).toInt ≤ 1) (by omega : (0 : Int) ≤ (u.1 99 2).toInt ∧ (u.1 99 2).toInt ≤ 480) hP hD hS (lv_sub hl [0, 1, 2] rfl)
      · refine lv_aload_n F.1 F.2.1 dX12_daybook_222 rfl (lv_at hl 0 rfl) ?_
        refine a_getr F inX12 hP 85 22 tc_85 rfl rfl (by decide) q1493 (fun _ h9 => h9) dX12_daybook_223 ?_
        refine a_sp F (370 : Int32) dX12_daybook_226 (by decide) ?_
        refine lv_aload_n F.1 F.2.1 dX12_daybook_229 rfl (lv_at hl 0 rfl) ?_
        have g9 : (0 : Int) ≤ (u.1 85 24).toInt ∧ (u.1 85 24).toInt ≤ 8 := hR 85 24
        refine a_geti F inX12 hP 85 24 tc_85 rfl rfl (by decide) q1495 (fun _ h9 => h9) (v := (u.1 85 24)) rfl dX12_daybook_230 ?_
        refine a_ic F (1 : Int32) dX12_daybook_233 (by decide) ?_
        refine a_isub F dX12_daybook_234 rfl ic_1 (by omega) (fun v10 hv10 => ?_)
        refine a_imul F dX12_daybook_235 ic_370 rfl (by omega) (fun v11 hv11 => ?_)
        refine lv_iload_n F.1 F.2.1 dX12_daybook_236 rfl (lv_at hl 3 rfl) ?_
        refine a_iadd F dX12_daybook_237 rfl rfl (by omega) (fun v12 hv12 => ?_)
        refine lv_aload_n F.1 F.2.1 dX12_daybook_238 rfl (lv_at hl 0 rfl) ?_
        refine a_getr F inX12 hP 85 23 tc_85 rfl rfl (by decide) q1494 (fun _ h9 => h9) dX12_daybook_239 ?_
        refine lv_iload_n F.1 F.2.1 dX12_daybook_242 rfl (lv_at hl 3 rfl) ?_
        refine a_iald F hP 94 tc_94 rfl (i_in rfl (by omega)) dX12_daybook_243 (fun v13 ev13 => ?_)
        refine a_iast F hP hD hS 93 tc_93 rfl (i_in rfl (by omega)) dX12_daybook_244 (fun H locs hP hD hS => ?_)
        have hR := hR.si (c := 93) (k := v12.toNatClampNeg) (v := v13) (cp_el hR ev13 (rg_u5 (m := (u.1 85 24).toInt - 1) (by omega) (by omega) (by omega)))
        have hF := hF.si (c := 93) (k := v12.toNatClampNeg) (v := v13) rfl
        have hO_MS := hK_MS
        have hO_UI := hK_UI
        have hO_CW := hK_CW
        have hO_BI := hK_BI
        have hO_AP := hK_AP
        have hO_AU := hK_AU
        have hO_AB := hK_AB
        have hK_MS := sp_sgD sp_MS hD hK_MS (by decide)
        have hK_UI := un_w3 hO_UI (i := v12) (v := v13) (x := x3.toInt) (by omega) (by omega) (by omega) (fun q9 => bf_get hO_BI ev13 (by omega))
        have hK_CW := sp_sgD sp_CW hD hK_CW (by decide)
        have hK_BI := sp_sgD sp_BI hD hK_BI (by decide)
        have hK_AP := sp_sgD sp_AP hD hK_AP (by decide)
        have hK_AU := au_w3 hO_AU (i := v12) (v := v13) (x := x3.toInt) (by omega) (by omega) (by omega) (fun q9 => ab_get hO_AB ev13 (by omega))
        have hK_AB := sp_sgD sp_AB hD hK_AB (by decide)
        refine a_iinc F (k := 3) (fun v14 => [(3, .int v14), (0, .ref (ad 85)), (1, .int p0), (2, .int x2)]) dX12_daybook_245 hl rfl rfl (by decide) (by omega) (by decide) (fun _ => rfl) (fun v14 ls hv14 hl => ?_)
        refine lv_goto (tgt := 215) F.1 F.2.1 dX12_daybook_248 (by decide) ?_
        have g15 : (0 : Int) ≤ (u.1 85 11).toInt ∧ (u.1 85 11).toInt ≤ 4 := hR 85 11
        have g16 : (0 : Int) ≤ (u.1 85 37).toInt ∧ (u.1 85 37).toInt ≤ 1 := hR 85 37
        exact ih215 x2 v14 _ _ _ _ hR hF (by omega) hK_MS hK_UI hK_CW hK_BI hK_AP hK_AU hK_AB (by omega) (by omega) (by omega) (by omega : (0 : Int) ≤ (u.1 85 11).toInt ∧ (u.1 85 11).toInt ≤ 0) (by omega : (1 : Int) ≤ (u.1 85 24).toInt ∧ (u.1 85 24).toInt ≤ 8) (by omega : (1 : Int) ≤ (u.1 85 37).toInt ∧ (u.1 85 37).toInt ≤ 1) (by omega : (1 : Int) ≤ (u.1 99 1).toInt) (by omega : (0 : Int) ≤ (u.1 99 2).toInt ∧ (u.1 99 2).toInt ≤ 480) hP hD hS (lv_sub hl [1, 2, 3, 0] rfl)
  have L166 : ∀ (x2 : Int32) (u : ac_U) (H : Heap) (locs : List Loc) (ls : Array Slot), ac_R rg u → ac_Fr [(85, some 0), (85, some 2), (85, some 3), (85, some 4), (85, some 5), (85, some 11), (85, some 12), (85, some 13), (85, some 14), (85, some 15), (85, some 16), (85, some 18), (85, some 24), (85, some 35), (85, some 37), (87, none), (89, none), (93, none), (94, none), (99, none)] u0 u → msI u → unI u → cdI u → bfI u → blI u → apI u → auI u → abI u → bgI u → (0 : Int) ≤ p0.toInt ∧ p0.toInt ≤ 1 → (-1 : Int) ≤ x2.toInt ∧ x2.toInt ≤ 39 → (0 : Int) ≤ (u.1 85 0).toInt ∧ (u.1 85 0).toInt ≤ 0 → (0 : Int) ≤ (u.1 85 11).toInt ∧ (u.1 85 11).toInt ≤ 0 → va_P (dC, dI) vwCl (ac_w ad cA (TT nF) u) H → va_D A (ac_w ad cA (TT nF) u) → va_S A s.heap H locs → lv_has ls 4 [(0, .ref (ad 85)), (1, .int p0), (2, .int x2)] → W p l e (ac_rm 8) s m [.ref (ad 85), .int p0].toArray below meth c H locs 0 0 (MQ below (va_Qi (fun (r : Int32) (u : ac_U) => ac_R rg u ∧ ac_Fr [(85, some 0), (85, some 2), (85, some 3), (85, some 4), (85, some 5), (85, some 11), (85, some 12), (85, some 13), (85, some 14), (85, some 15), (85, some 16), (85, some 18), (85, some 24), (85, some 35), (85, some 37), (87, none), (89, none), (93, none), (94, none), (99, none)] u0 u ∧ msI u ∧ unI u ∧ cdI u ∧ apI u ∧ auI u) (ac_B (dC, dI) vwCl (ac_ty cA) ad cA (TT nF) A) A) [.ref (ad 85), .int p0].toArray s 0 0 A) (F0 m 166 ls []) := by
    intro x2 u H locs ls hR hF hK_MS hK_UI hK_CW hK_BI hK_BLI hK_AP hK_AU hK_AB hK_BG f0 f1 f2 f3 hP hD hS hl
    refine lv_aload_n F.1 F.2.1 dX12_daybook_166 rfl (lv_at hl 0 rfl) ?_
    refine a_getr F inX12 hP 85 36 tc_85 rfl rfl (by decide) q1507 (fun _ h9 => h9) dX12_daybook_167 ?_
    refine a_ic F (2 : Int32) dX12_daybook_170 (by decide) ?_
    refine lv_aload_n F.1 F.2.1 dX12_daybook_171 rfl (lv_at hl 0 rfl) ?_
    refine a_getr F inX12 hP 85 6 tc_85 rfl rfl (by decide) q1477 (fun _ h9 => h9) dX12_daybook_172 ?_
    refine a_bp F (106 : Int32) dX12_daybook_175 (by decide) ?_
    have g17 : (0 : Int) ≤ (u.1 87 106).toInt ∧ (u.1 87 106).toInt ≤ 480 := hR 87 106
    refine a_ialdK F hP 87 106 tc_87 rfl rfl (i_in ic_106 (by omega)) (v := (u.1 87 106)) rfl dX12_daybook_177 ?_
    refine a_iastK F hP hD hS 99 2 tc_99 rfl rfl (i_in ic_2 (by omega)) dX12_daybook_178 (fun H locs hP hD hS => ?_)
    have hR := hR.si (c := 99) (k := 2) (v := (u.1 87 106)) ⟨i_lo _, i_hi _⟩
    have hF := hF.si (c := 99) (k := 2) (v := (u.1 87 106)) rfl
    have hK_MS := sp_sgD sp_MS hD hK_MS (by decide)
    have hK_UI := sp_sgD sp_UI hD hK_UI (by decide)
    have hK_CW := sp_sgD sp_CW hD hK_CW (by decide)
    have hK_BI := sp_sgD sp_BI hD hK_BI (by decide)
    have hK_BLI := sp_sgD sp_BLI hD hK_BLI (by decide)
    have hK_AP := sp_sgD sp_AP hD hK_AP (by decide)
    have hK_AU := sp_sgD sp_AU hD hK_AU (by decide)
    have hK_AB := sp_sgD sp_AB hD hK_AB (by decide)
    have hK_BG := sp_sgD sp_BG hD hK_BG (by decide)
    refine lv_aload_n F.1 F.2.1 dX12_daybook_179 rfl (lv_at hl 0 rfl) ?_
    refine a_getr F inX12 hP 85 36 tc_85 rfl rfl (by decide) q1507 (fun _ h9 => h9) dX12_daybook_180 ?_
    refine a_ic F (3 : Int32) dX12_daybook_183 (by decide) ?_
    refine lv_aload_n F.1 F.2.1 dX12_daybook_184 rfl (lv_at hl 0 rfl) ?_
    refine a_ic F (5 : Int32) dX12_daybook_185 (by decide) ?_
    have g19 : (0 : Int) ≤ (u.1 85 35).toInt ∧ (u.1 85 35).toInt ≤ 40 := hR 85 35
    refine a_Vi F hml hl.1 hA hP hD hS (As := [.int (5 : Int32)]) (c_X12_now_85 l dC dI ad cA nF _ (5 : Int32) hR) (cs_RX12_407 (d := 7) F.2.2.1 (by decide)) tc_85 rfl rfl rfl rfl (Nat.le_of_ble_eq_true rfl) dX12_daybook_186 ⟨Nat.le_refl 0, Nat.le_refl 0⟩ (fun r18 u18 H locs hq hP hD hS => ?_)
    obtain ⟨hR, hF18⟩ := hq
    have hF := hF.tr hF18 (by decide)
    have hK_MS := sp_fr sp_MS hF18 (by decide) hK_MS
    have hK_UI := sp_fr sp_UI hF18 (by decide) hK_UI
    have hK_CW := sp_fr sp_CW hF18 (by decide) hK_CW
    have hK_BI := sp_fr sp_BI hF18 (by decide) hK_BI
    have hK_BLI := sp_fr sp_BLI hF18 (by decide) hK_BLI
    have hK_AP := sp_fr sp_AP hF18 (by decide) hK_AP
    have hK_AU := sp_fr sp_AU hF18 (by decide) hK_AU
    have hK_AB := sp_fr sp_AB hF18 (by decide) hK_AB
    have hK_BG := sp_fr sp_BG hF18 (by decide) hK_BG
    refine a_iastK F hP hD hS 99 3 tc_99 rfl rfl (i_in ic_3 (by omega)) dX12_daybook_189 (fun H locs hP hD hS => ?_)
    have hR := hR.si (c := 99) (k := 3) (v := r18) ⟨i_lo _, i_hi _⟩
    have hF := hF.si (c := 99) (k := 3) (v := r18) rfl
    have hK_MS := sp_sgD sp_MS hD hK_MS (by decide)
    have hK_UI := sp_sgD sp_UI hD hK_UI (by decide)
    have hK_CW := sp_sgD sp_CW hD hK_CW (by decide)
    have hK_BI := sp_sgD sp_BI hD hK_BI (by decide)
    have hK_BLI := sp_sgD sp_BLI hD hK_BLI (by decide)
    have hK_AP := sp_sgD sp_AP hD hK_AP (by decide)
    have hK_AU := sp_sgD sp_AU hD hK_AU (by decide)
    have hK_AB := sp_sgD sp_AB hD hK_AB (by decide)
    have hK_BG := sp_sgD sp_BG hD hK_BG (by decide)
    refine lv_aload_n F.1 F.2.1 dX12_daybook_190 rfl (lv_at hl 0 rfl) ?_
    refine a_ic F (1 : Int32) dX12_daybook_191 (by decide) ?_
    refine a_puti F inX12 tyX12 tyX12_ok nmX12 hP hD hS 85 37 tc_85 rfl rfl (by decide) q1508 (fun _ h9 => h9) rfl (ty := .boolean) (tyX12_ok 37 (by decide)) (i_zn (Or.inr rfl)) (i_zf (Or.inr rfl)) dX12_daybook_192 (fun H locs hP hD hS => ?_)
    have hR := hR.si (c := 85) (k := 37) (v := (1 : Int32)) (by rw [ic_1]; exact (by omega : (0 : Int) ≤ (1 : Int) ∧ (1 : Int) ≤ 1))
    have hF := hF.si (c := 85) (k := 37) (v := (1 : Int32)) rfl
    have hK_MS := sp_sgD sp_MS hD hK_MS (by decide)
    have hK_UI := sp_si sp_UI hK_UI (c := 85) (k := 37) (v := (1 : Int32)) (fun j9 h9 q9 => by rw [q9] at h9; exact absurd h9 (by decide))
    have hK_CW := sp_sgD sp_CW hD hK_CW (by decide)
    have hK_BI := sp_sgD sp_BI hD hK_BI (by decide)
    have hK_BLI := sp_si sp_BLI hK_BLI (c := 85) (k := 37) (v := (1 : Int32)) (fun j9 h9 q9 => by rw [q9] at h9; exact absurd h9 (by decide))
    have hK_AP := sp_sgD sp_AP hD hK_AP (by decide)
    have hK_AU := sp_si sp_AU hK_AU (c := 85) (k := 37) (v := (1 : Int32)) (fun j9 h9 q9 => by rw [q9] at h9; exact absurd h9 (by decide))
    have hK_AB := sp_sgD sp_AB hD hK_AB (by decide)
    have hK_BG := sp_si sp_BG hK_BG (c := 85) (k := 37) (v := (1 : Int32)) (fun j9 h9 q9 => by rw [q9] at h9; exact absurd h9 (by decide))
    refine lv_iload_n F.1 F.2.1 dX12_daybook_195 rfl (lv_at hl 1 rfl) ?_
    refine a_ic F (1 : Int32) dX12_daybook_196 (by decide) ?_
    refine b_ne F 251 dX12_daybook_197 (by decide) rfl ic_1 (fun c20 => ?_) (fun c20 => ?_)
    · exact L251 x2 _ _ _ _ hR hF hK_MS hK_UI hK_CW hK_BI hK_AP hK_AU hK_AB (by omega) (by omega) (i_trB (hF18 85 11 rfl) (by omega : (0 : Int) ≤ (u.1 85 11).toInt ∧ (u.1 85 11).toInt ≤ 0)) (by omega : (1 : Int) ≤ (1 : Int) ∧ (1 : Int) ≤ 1) (i_trB (hF18 99 2 rfl) (by omega : (0 : Int) ≤ (u.1 87 106).toInt ∧ (u.1 87 106).toInt ≤ 480)) hP hD hS (lv_sub hl [0, 1, 2] rfl)
    · refine lv_aload_n F.1 F.2.1 dX12_daybook_200 rfl (lv_at hl 0 rfl) ?_
      refine a_getr F inX12 hP 85 36 tc_85 rfl rfl (by decide) q1507 (fun _ h9 => h9) dX12_daybook_201 ?_
      refine a_ic F (1 : Int32) dX12_daybook_204 (by decide) ?_
      refine a_ialdK F hP 99 1 tc_99 rfl rfl (i_in ic_1 (by omega)) (v := (u18.1 99 1)) rfl dX12_daybook_205 ?_
      refine z_le F 251 dX12_daybook_206 (by decide) rfl (fun c21 => ?_) (fun c21 => ?_)
      · exact L251 x2 _ _ _ _ hR hF hK_MS hK_UI hK_CW hK_BI hK_AP hK_AU hK_AB (by omega) (by omega) (i_trB (hF18 85 11 rfl) (by omega : (0 : Int) ≤ (u.1 85 11).toInt ∧ (u.1 85 11).toInt ≤ 0)) (by omega : (1 : Int) ≤ (1 : Int) ∧ (1 : Int) ≤ 1) (i_trB (hF18 99 2 rfl) (by omega : (0 : Int) ≤ (u.1 87 106).toInt ∧ (u.1 87 106).toInt ≤ 480)) hP hD hS (lv_sub hl [0, 1, 2] rfl)
      · refine lv_aload_n F.1 F.2.1 dX12_daybook_209 rfl (lv_at hl 0 rfl) ?_
        refine a_Vv F hml hl.1 hA hP hD hS (As := []) (c_X12_keep_85__3 l dC dI ad cA nF _  hR hK_MS hK_UI hK_AP hK_AU) (cs_RX12_269 (d := 1) F.2.2.1 (by decide)) tc_85 rfl rfl rfl rfl (Nat.le_of_ble_eq_true rfl) dX12_daybook_210 ⟨Nat.le_refl 0, Nat.le_refl 0⟩ (fun u22 H locs hq hP hD hS => ?_)
        obtain ⟨hR, hF22, xr22, hK_MS, hK_UI, hK_AP, hK_AU⟩ := hq
        have hF := hF.tr hF22 (by decide)
        have hK_CW := sp_fr sp_CW hF22 (by decide) hK_CW
        have hK_BI := sp_fr sp_BI hF22 (by decide) hK_BI
        have hK_BLI := sp_fr sp_BLI hF22 (by decide) hK_BLI
        have hK_AB := sp_fr sp_AB hF22 (by decide) hK_AB
        have hK_BG := sp_fr sp_BG hF22 (by decide) hK_BG
        have g23 : (0 : Int) ≤ (u22.1 85 24).toInt ∧ (u22.1 85 24).toInt ≤ 8 := hR 85 24
        have xr22 : 1 ≤ (u22.1 85 24).toInt := xr22
        refine a_ic F (0 : Int32) dX12_daybook_213 (by decide) ?_
        refine lv_istore_n (lv' := [(3, .int (0 : Int32)), (0, .ref (ad 85)), (1, .int p0), (2, .int x2)]) F.1 F.2.1 dX12_daybook_214 rfl hl (by decide) rfl (fun ls hl => ?_)
        exact L215 372 x2 (0 : Int32) _ _ _ _ hR hF (by decide) hK_MS hK_UI hK_CW hK_BI hK_AP hK_AU hK_AB (by omega) (by omega) (by decide) (i_trB ((hF22 85 11 rfl).trans (hF18 85 11 rfl)) (by omega : (0 : Int) ≤ (u.1 85 11).toInt ∧ (u.1 85 11).toInt ≤ 0)) (by omega : (1 : Int) ≤ (u22.1 85 24).toInt ∧ (u22.1 85 24).toInt ≤ 8) (i_trB (hF22 85 37 rfl) (by omega : (1 : Int) ≤ (1 : Int) ∧ (1 : Int) ≤ 1)) (i_trL (hF22 99 1 rfl) (by omega : (1 : Int) ≤ (u18.1 99 1).toInt)) (i_trB ((hF22 99 2 rfl).trans (hF18 99 2 rfl)) (by omega : (0 : Int) ≤ (u.1 87 106).toInt ∧ (u.1 87 106).toInt ≤ 480)) hP hD hS (lv_sub hl [1, 2, 3, 0] rfl)
  have L111 : ∀ (n111 : Nat) (x2 : Int32) (x3 : Int32) (u : ac_U) (H : Heap) (locs : List Loc) (ls : Array Slot), ac_R rg u → ac_Fr [(85, some 0), (85, some 2), (85, some 3), (85, some 4), (85, some 5), (85, some 11), (85, some 12), (85, some 13), (85, some 14), (85, some 15), (85, some 16), (85, some 18), (85, some 24), (85, some 35), (85, some 37), (87, none), (89, none), (93, none), (94, none), (99, none)] u0 u → 40 - x3.toInt < (n111 : Int) → msI u → unI u → cdI u → bfI u → blI u → apI u → auI u → abI u → bgI u → (0 : Int) ≤ p0.toInt ∧ p0.toInt ≤ 1 → (-1 : Int) ≤ x2.toInt ∧ x2.toInt ≤ 39 → (0 : Int) ≤ x3.toInt ∧ x3.toInt ≤ 40 → (0 : Int) ≤ (u.1 85 0).toInt ∧ (u.1 85 0).toInt ≤ 0 → (0 : Int) ≤ (u.1 85 11).toInt ∧ (u.1 85 11).toInt ≤ 0 → va_P (dC, dI) vwCl (ac_w ad cA (TT nF) u) H → va_D A (ac_w ad cA (TT nF) u) → va_S A s.heap H locs → lv_has ls 4 [(0, .ref (ad 85)), (1, .int p0), (2, .int x2), (3, .int x3)] → W p l e (ac_rm 8) s m [.ref (ad 85), .int p0].toArray below meth c H locs 0 0 (MQ below (va_Qi (fun (r : Int32) (u : ac_U) => ac_R rg u ∧ ac_Fr [(85, some 0), (85, some 2), (85, some 3), (85, some 4), (85, some 5), (85, some 11), (85, some 12), (85, some 13), (85, some 14), (85, some 15), (85, some 16), (85, some 18), (85, some 24), (85, some 35), (85, some 37), (87, none), (89, none), (93, none), (94, none), (99, none)] u0 u ∧ msI u ∧ unI u ∧ cdI u ∧ apI u ∧ auI u) (ac_B (dC, dI) vwCl (ac_ty cA) ad cA (TT nF) A) A) [.ref (ad 85), .int p0].toArray s 0 0 A) (F0 m 111 ls []) := by
    intro n111
    induction n111 with
    | zero => intro x2 x3 u H locs ls hR hF hn111 hK_MS hK_UI hK_CW hK_BI hK_BLI hK_AP hK_AU hK_AB hK_BG f0 f1 f2 f3 f4 hP hD hS hl; exfalso; omega
    | succ n111 ih111 =>
      intro x2 x3 u H locs ls hR hF hn111 hK_MS hK_UI hK_CW hK_BI hK_BLI hK_AP hK_AU hK_AB hK_BG f0 f1 f2 f3 f4 hP hD hS hl
      have L160 : ∀ (x2 : Int32) (x3 : Int32) (u : ac_U) (H : Heap) (locs : List Loc) (ls : Array Slot), ac_R rg u → ac_Fr [(85, some 0), (85, some 2), (85, some 3), (85, some 4), (85, some 5), (85, some 11), (85, some 12), (85, some 13), (85, some 14), (85, some 15), (85, some 16), (85, some 18), (85, some 24), (85, some 35), (85, some 37), (87, none), (89, none), (93, none), (94, none), (99, none)] u0 u → msI u → unI u → cdI u → bfI u → blI u → apI u → auI u → abI u → bgI u → (0 : Int) ≤ p0.toInt ∧ p0.toInt ≤ 1 → (-1 : Int) ≤ x2.toInt ∧ x2.toInt ≤ 39 → (0 : Int) ≤ x3.toInt ∧ x3.toInt ≤ 39 → (0 : Int) ≤ (u.1 85 0).toInt ∧ (u.1 85 0).toInt ≤ 0 → (0 : Int) ≤ (u.1 85 11).toInt ∧ (u.1 85 11).toInt ≤ 0 → (1 : Int) ≤ (u.1 85 35).toInt ∧ (u.1 85 35).toInt ≤ 40 → (0 : Int) ≤ (u.1 99 0).toInt ∧ (u.1 99 0).toInt ≤ 6 → 40 - x3.toInt + 0 < ((n111 : Nat) : Int) + 1 → va_P (dC, dI) vwCl (ac_w ad cA (TT nF) u) H → va_D A (ac_w ad cA (TT nF) u) → va_S A s.heap H locs → lv_has ls 4 [(0, .ref (ad 85)), (1, .int p0), (2, .int x2), (3, .int x3)] → W p l e (ac_rm 8) s m [.ref (ad 85), .int p0].toArray below meth c H locs 0 0 (MQ below (va_Qi (fun (r : Int32) (u : ac_U) => ac_R rg u ∧ ac_Fr [(85, some 0), (85, some 2), (85, some 3), (85, some 4), (85, some 5), (85, some 11), (85, some 12), (85, some 13), (85, some 14), (85, some 15), (85, some 16), (85, some 18), (85, some 24), (85, some 35), (85, some 37), (87, none), (89, none), (93, none), (94, none), (99, none)] u0 u ∧ msI u ∧ unI u ∧ cdI u ∧ apI u ∧ auI u) (ac_B (dC, dI) vwCl (ac_ty cA) ad cA (TT nF) A) A) [.ref (ad 85), .int p0].toArray s 0 0 A) (F0 m 160 ls []) := by
        intro x2 x3 u H locs ls hR hF hK_MS hK_UI hK_CW hK_BI hK_BLI hK_AP hK_AU hK_AB hK_BG f0 f1 f2 f3 f4 f5 f6 f7 hP hD hS hl
        refine a_iinc F (k := 3) (fun v24 => [(3, .int v24), (0, .ref (ad 85)), (1, .int p0), (2, .int x2)]) dX12_daybook_160 hl rfl rfl (by decide) (by omega) (by decide) (fun _ => rfl) (fun v24 ls hv24 hl => ?_)
        refine lv_goto (tgt := 111) F.1 F.2.1 dX12_daybook_163 (by decide) ?_
        have g25 : (0 : Int) ≤ (u.1 85 0).toInt ∧ (u.1 85 0).toInt ≤ 1 := hR 85 0
        have g26 : (0 : Int) ≤ (u.1 85 11).toInt ∧ (u.1 85 11).toInt ≤ 4 := hR 85 11
        exact ih111 x2 v24 _ _ _ _ hR hF (by omega) hK_MS hK_UI hK_CW hK_BI hK_BLI hK_AP hK_AU hK_AB hK_BG (by omega) (by omega) (by omega) (by omega : (0 : Int) ≤ (u.1 85 0).toInt ∧ (u.1 85 0).toInt ≤ 0) (by omega : (0 : Int) ≤ (u.1 85 11).toInt ∧ (u.1 85 11).toInt ≤ 0) hP hD hS (lv_sub hl [1, 2, 3, 0] rfl)
      refine lv_iload_n F.1 F.2.1 dX12_daybook_111 rfl (lv_at hl 3 rfl) ?_
      refine lv_aload_n F.1 F.2.1 dX12_daybook_112 rfl (lv_at hl 0 rfl) ?_
      have g27 : (0 : Int) ≤ (u.1 85 35).toInt ∧ (u.1 85 35).toInt ≤ 40 := hR 85 35
      refine a_geti F inX12 hP 85 35 tc_85 rfl rfl (by decide) q1506 (fun _ h9 => h9) (v := (u.1 85 35)) rfl dX12_daybook_113 ?_
      refine b_ge F 166 dX12_daybook_116 (by decide) rfl rfl (fun c28 => ?_) (fun c28 => ?_)
      · have g29 : (0 : Int) ≤ (u.1 85 0).toInt ∧ (u.1 85 0).toInt ≤ 1 := hR 85 0
        have g30 : (0 : Int) ≤ (u.1 85 11).toInt ∧ (u.1 85 11).toInt ≤ 4 := hR 85 11
        exact L166 x2 _ _ _ _ hR hF hK_MS hK_UI hK_CW hK_BI hK_BLI hK_AP hK_AU hK_AB hK_BG (by omega) (by omega) (by omega : (0 : Int) ≤ (u.1 85 0).toInt ∧ (u.1 85 0).toInt ≤ 0) (by omega : (0 : Int) ≤ (u.1 85 11).toInt ∧ (u.1 85 11).toInt ≤ 0) hP hD hS (lv_sub hl [0, 1, 2] rfl)
      · refine lv_iload_n F.1 F.2.1 dX12_daybook_119 rfl (lv_at hl 2 rfl) ?_
        refine z_ge F 166 dX12_daybook_120 (by decide) rfl (fun c31 => ?_) (fun c31 => ?_)
        · have g32 : (0 : Int) ≤ (u.1 85 0).toInt ∧ (u.1 85 0).toInt ≤ 1 := hR 85 0
          have g33 : (0 : Int) ≤ (u.1 85 11).toInt ∧ (u.1 85 11).toInt ≤ 4 := hR 85 11
          exact L166 x2 _ _ _ _ hR hF hK_MS hK_UI hK_CW hK_BI hK_BLI hK_AP hK_AU hK_AB hK_BG (by omega) (by omega) (by omega : (0 : Int) ≤ (u.1 85 0).toInt ∧ (u.1 85 0).toInt ≤ 0) (by omega : (0 : Int) ≤ (u.1 85 11).toInt ∧ (u.1 85 11).toInt ≤ 0) hP hD hS (lv_sub hl [0, 1, 2] rfl)
        · refine lv_aload_n F.1 F.2.1 dX12_daybook_123 rfl (lv_at hl 0 rfl) ?_
          refine a_getr F inX12 hP 85 36 tc_85 rfl rfl (by decide) q1507 (fun _ h9 => h9) dX12_daybook_124 ?_
          refine a_ic F (0 : Int32) dX12_daybook_127 (by decide) ?_
          refine lv_aload_n F.1 F.2.1 dX12_daybook_128 rfl (lv_at hl 0 rfl) ?_
          refine a_ic F (3 : Int32) dX12_daybook_129 (by decide) ?_
          refine lv_iload_n F.1 F.2.1 dX12_daybook_130 rfl (lv_at hl 3 rfl) ?_
          refine a_imul F dX12_daybook_131 ic_3 rfl (by omega) (fun v34 hv34 => ?_)
          refine a_Vi F hml hl.1 hA hP hD hS (As := [.int v34]) (c_X12_lives_85__2 l dC dI ad cA nF _ v34 hR (by omega) (by exact (by omega : v34.toInt < 3 * (u.1 85 35).toInt ∧ v34.toInt % 3 = 0)) hK_MS hK_AP hK_BLI hK_BG) (cs_RX12_404 (d := 3) F.2.2.1 (by decide)) tc_85 rfl rfl rfl rfl (Nat.le_of_ble_eq_true rfl) dX12_daybook_132 ⟨Nat.le_refl 0, Nat.le_refl 0⟩ (fun r35 u35 H locs hq hP hD hS => ?_)
          obtain ⟨hR, hF35, gr35, hK_MS, hK_AP, hJ35_CW, hJ35_UI, hJ35_BI, hJ35_AU, hJ35_AB, hJ35_BG⟩ := hq
          have hF := hF.tr hF35 (by decide)
          have hK_UI := hJ35_UI hK_UI
          have hK_CW := hJ35_CW hK_CW
          have hK_BI := hJ35_BI hK_BI
          have hK_BLI := sp_fr sp_BLI hF35 (by decide) hK_BLI
          have hK_AU := hJ35_AU hK_AU
          have hK_AB := hJ35_AB hK_AB
          have hK_BG := hJ35_BG hK_BG
          refine a_iastK F hP hD hS 99 0 tc_99 rfl rfl (i_in ic_0 (by omega)) dX12_daybook_135 (fun H locs hP hD hS => ?_)
          have hR := hR.si (c := 99) (k := 0) (v := r35) ⟨i_lo _, i_hi _⟩
          have hF := hF.si (c := 99) (k := 0) (v := r35) rfl
          have hK_MS := sp_sgD sp_MS hD hK_MS (by decide)
          have hK_UI := sp_sgD sp_UI hD hK_UI (by decide)
          have hK_CW := sp_sgD sp_CW hD hK_CW (by decide)
          have hK_BI := sp_sgD sp_BI hD hK_BI (by decide)
          have hK_BLI := sp_sgD sp_BLI hD hK_BLI (by decide)
          have hK_AP := sp_sgD sp_AP hD hK_AP (by decide)
          have hK_AU := sp_sgD sp_AU hD hK_AU (by decide)
          have hK_AB := sp_sgD sp_AB hD hK_AB (by decide)
          have hK_BG := sp_sgD sp_BG hD hK_BG (by decide)
          refine lv_aload_n F.1 F.2.1 dX12_daybook_136 rfl (lv_at hl 0 rfl) ?_
          refine a_getr F inX12 hP 85 36 tc_85 rfl rfl (by decide) q1507 (fun _ h9 => h9) dX12_daybook_137 ?_
          refine a_ic F (0 : Int32) dX12_daybook_140 (by decide) ?_
          refine a_ialdK F hP 99 0 tc_99 rfl rfl (i_in ic_0 (by omega)) (v := r35) (rfl) dX12_daybook_141 ?_
          refine z_le F 150 dX12_daybook_142 (by decide) rfl (fun c36 => ?_) (fun c36 => ?_)
          · refine lv_aload_n F.1 F.2.1 dX12_daybook_150 rfl (lv_at hl 0 rfl) ?_
            refine a_getr F inX12 hP 85 36 tc_85 rfl rfl (by decide) q1507 (fun _ h9 => h9) dX12_daybook_151 ?_
            refine a_ic F (1 : Int32) dX12_daybook_154 (by decide) ?_
            refine lv_dup2_11 F.1 F.2.1 dX12_daybook_155 rfl rfl ?_
            refine a_ialdK F hP 99 1 tc_99 rfl rfl (i_in ic_1 (by omega)) (v := (u35.1 99 1)) rfl dX12_daybook_156 ?_
            refine a_ic F (1 : Int32) dX12_daybook_157 (by decide) ?_
            refine a_iaddU F dX12_daybook_158 (fun v37 => ?_)
            refine a_iastK F hP hD hS 99 1 tc_99 rfl rfl (i_in ic_1 (by omega)) dX12_daybook_159 (fun H locs hP hD hS => ?_)
            have hR := hR.si (c := 99) (k := 1) (v := v37) ⟨i_lo _, i_hi _⟩
            have hF := hF.si (c := 99) (k := 1) (v := v37) rfl
            have hK_MS := sp_sgD sp_MS hD hK_MS (by decide)
            have hK_UI := sp_sgD sp_UI hD hK_UI (by decide)
            have hK_CW := sp_sgD sp_CW hD hK_CW (by decide)
            have hK_BI := sp_sgD sp_BI hD hK_BI (by decide)
            have hK_BLI := sp_sgD sp_BLI hD hK_BLI (by decide)
            have hK_AP := sp_sgD sp_AP hD hK_AP (by decide)
            have hK_AU := sp_sgD sp_AU hD hK_AU (by decide)
            have hK_AB := sp_sgD sp_AB hD hK_AB (by decide)
            have hK_BG := sp_sgD sp_BG hD hK_BG (by decide)
            exact L160 x2 x3 _ _ _ _ hR hF hK_MS hK_UI hK_CW hK_BI hK_BLI hK_AP hK_AU hK_AB hK_BG (by omega) (by omega) (by omega) (i_trB (hF35 85 0 rfl) (by omega : (0 : Int) ≤ (u.1 85 0).toInt ∧ (u.1 85 0).toInt ≤ 0)) (i_trB (hF35 85 11 rfl) (by omega : (0 : Int) ≤ (u.1 85 11).toInt ∧ (u.1 85 11).toInt ≤ 0)) (i_trB (hF35 85 35 rfl) (by omega : (1 : Int) ≤ (u.1 85 35).toInt ∧ (u.1 85 35).toInt ≤ 40)) (by omega : (0 : Int) ≤ r35.toInt ∧ r35.toInt ≤ 6) (by omega) hP hD hS (lv_sub hl [0, 1, 2, 3] rfl)
          · refine lv_iload_n F.1 F.2.1 dX12_daybook_145 rfl (lv_at hl 3 rfl) ?_
            refine lv_istore_n (lv' := [(2, .int x3), (0, .ref (ad 85)), (1, .int p0), (3, .int x3)]) F.1 F.2.1 dX12_daybook_146 rfl hl (by decide) rfl (fun ls hl => ?_)
            refine lv_goto (tgt := 160) F.1 F.2.1 dX12_daybook_147 (by decide) ?_
            exact L160 x3 x3 _ _ _ _ hR hF hK_MS hK_UI hK_CW hK_BI hK_BLI hK_AP hK_AU hK_AB hK_BG (by omega) (by omega) (by omega) (i_trB (hF35 85 0 rfl) (by omega : (0 : Int) ≤ (u.1 85 0).toInt ∧ (u.1 85 0).toInt ≤ 0)) (i_trB (hF35 85 11 rfl) (by omega : (0 : Int) ≤ (u.1 85 11).toInt ∧ (u.1 85 11).toInt ≤ 0)) (i_trB (hF35 85 35 rfl) (by omega : (1 : Int) ≤ (u.1 85 35).toInt ∧ (u.1 85 35).toInt ≤ 40)) (by omega : (0 : Int) ≤ r35.toInt ∧ r35.toInt ≤ 6) (by omega) hP hD hS (lv_sub hl [1, 2, 0, 3] rfl)
  have L89 : ∀ (n89 : Nat) (x2 : Int32) (u : ac_U) (H : Heap) (locs : List Loc) (ls : Array Slot), ac_R rg u → ac_Fr [(85, some 0), (85, some 2), (85, some 3), (85, some 4), (85, some 5), (85, some 11), (85, some 12), (85, some 13), (85, some 14), (85, some 15), (85, some 16), (85, some 18), (85, some 24), (85, some 35), (85, some 37), (87, none), (89, none), (93, none), (94, none), (99, none)] u0 u → 4 - x2.toInt < (n89 : Int) → msI u → unI u → cdI u → bfI u → blI u → apI u → auI u → abI u → bgI u → (0 : Int) ≤ p0.toInt ∧ p0.toInt ≤ 1 → (0 : Int) ≤ x2.toInt ∧ x2.toInt ≤ 4 → (0 : Int) ≤ (u.1 85 0).toInt ∧ (u.1 85 0).toInt ≤ 0 → (0 : Int) ≤ (u.1 85 11).toInt ∧ (u.1 85 11).toInt ≤ 0 → va_P (dC, dI) vwCl (ac_w ad cA (TT nF) u) H → va_D A (ac_w ad cA (TT nF) u) → va_S A s.heap H locs → lv_has ls 4 [(0, .ref (ad 85)), (1, .int p0), (2, .int x2)] → W p l e (ac_rm 8) s m [.ref (ad 85), .int p0].toArray below meth c H locs 0 0 (MQ below (va_Qi (fun (r : Int32) (u : ac_U) => ac_R rg u ∧ ac_Fr [(85, some 0), (85, some 2), (85, some 3), (85, some 4), (85, some 5), (85, some 11), (85, some 12), (85, some 13), (85, some 14), (85, some 15), (85, some 16), (85, some 18), (85, some 24), (85, some 35), (85, some 37), (87, none), (89, none), (93, none), (94, none), (99, none)] u0 u ∧ msI u ∧ unI u ∧ cdI u ∧ apI u ∧ auI u) (ac_B (dC, dI) vwCl (ac_ty cA) ad cA (TT nF) A) A) [.ref (ad 85), .int p0].toArray s 0 0 A) (F0 m 89 ls []) := by
    intro n89
    induction n89 with
    | zero => intro x2 u H locs ls hR hF hn89 hK_MS hK_UI hK_CW hK_BI hK_BLI hK_AP hK_AU hK_AB hK_BG f0 f1 f2 f3 hP hD hS hl; exfalso; omega
    | succ n89 ih89 =>
      intro x2 u H locs ls hR hF hn89 hK_MS hK_UI hK_CW hK_BI hK_BLI hK_AP hK_AU hK_AB hK_BG f0 f1 f2 f3 hP hD hS hl
      refine lv_iload_n F.1 F.2.1 dX12_daybook_89 rfl (lv_at hl 2 rfl) ?_
      refine a_ic F (4 : Int32) dX12_daybook_90 (by decide) ?_
      refine b_ge F 107 dX12_daybook_91 (by decide) rfl ic_4 (fun c38 => ?_) (fun c38 => ?_)
      · refine a_ic F (-1 : Int32) dX12_daybook_107 (by decide) ?_
        refine lv_istore_n (lv' := [(2, .int (-1 : Int32)), (0, .ref (ad 85)), (1, .int p0)]) F.1 F.2.1 dX12_daybook_108 rfl hl (by decide) rfl (fun ls hl => ?_)
        refine a_ic F (0 : Int32) dX12_daybook_109 (by decide) ?_
        refine lv_istore_n (lv' := [(3, .int (0 : Int32)), (2, .int (-1 : Int32)), (0, .ref (ad 85)), (1, .int p0)]) F.1 F.2.1 dX12_daybook_110 rfl hl (by decide) rfl (fun ls hl => ?_)
        have g39 : (0 : Int) ≤ (u.1 85 0).toInt ∧ (u.1 85 0).toInt ≤ 1 := hR 85 0
        have g40 : (0 : Int) ≤ (u.1 85 11).toInt ∧ (u.1 85 11).toInt ≤ 4 := hR 85 11
        exact L111 42 (-1 : Int32) (0 : Int32) _ _ _ _ hR hF (by decide) hK_MS hK_UI hK_CW hK_BI hK_BLI hK_AP hK_AU hK_AB hK_BG (by omega) (by decide) (by decide) (by omega : (0 : Int) ≤ (u.1 85 0).toInt ∧ (u.1 85 0).toInt ≤ 0) (by omega : (0 : Int) ≤ (u.1 85 11).toInt ∧ (u.1 85 11).toInt ≤ 0) hP hD hS (lv_sub hl [2, 3, 1, 0] rfl)
      · refine lv_aload_n F.1 F.2.1 dX12_daybook_94 rfl (lv_at hl 0 rfl) ?_
        refine a_getr F inX12 hP 85 36 tc_85 rfl rfl (by decide) q1507 (fun _ h9 => h9) dX12_daybook_95 ?_
        refine lv_iload_n F.1 F.2.1 dX12_daybook_98 rfl (lv_at hl 2 rfl) ?_
        refine a_ic F (0 : Int32) dX12_daybook_99 (by decide) ?_
        refine a_iast F hP hD hS 99 tc_99 rfl (i_in rfl (by omega)) dX12_daybook_100 (fun H locs hP hD hS => ?_)
        have hR := hR.si (c := 99) (k := x2.toNatClampNeg) (v := (0 : Int32)) ⟨i_lo _, i_hi _⟩
        have hF := hF.si (c := 99) (k := x2.toNatClampNeg) (v := (0 : Int32)) rfl
        have hK_MS := sp_sgD sp_MS hD hK_MS (by decide)
        have hK_UI := sp_sgD sp_UI hD hK_UI (by decide)
        have hK_CW := sp_sgD sp_CW hD hK_CW (by decide)
        have hK_BI := sp_sgD sp_BI hD hK_BI (by decide)
        have hK_BLI := sp_sgD sp_BLI hD hK_BLI (by decide)
        have hK_AP := sp_sgD sp_AP hD hK_AP (by decide)
        have hK_AU := sp_sgD sp_AU hD hK_AU (by decide)
        have hK_AB := sp_sgD sp_AB hD hK_AB (by decide)
        have hK_BG := sp_sgD sp_BG hD hK_BG (by decide)
        refine a_iinc F (k := 2) (fun v41 => [(2, .int v41), (0, .ref (ad 85)), (1, .int p0)]) dX12_daybook_101 hl rfl rfl (by decide) (by omega) (by decide) (fun _ => rfl) (fun v41 ls hv41 hl => ?_)
        refine lv_goto (tgt := 89) F.1 F.2.1 dX12_daybook_104 (by decide) ?_
        have g42 : (0 : Int) ≤ (u.1 85 0).toInt ∧ (u.1 85 0).toInt ≤ 1 := hR 85 0
        have g43 : (0 : Int) ≤ (u.1 85 11).toInt ∧ (u.1 85 11).toInt ≤ 4 := hR 85 11
        exact ih89 v41 _ _ _ _ hR hF (by omega) hK_MS hK_UI hK_CW hK_BI hK_BLI hK_AP hK_AU hK_AB hK_BG (by omega) (by omega) (by omega : (0 : Int) ≤ (u.1 85 0).toInt ∧ (u.1 85 0).toInt ≤ 0) (by omega : (0 : Int) ≤ (u.1 85 11).toInt ∧ (u.1 85 11).toInt ≤ 0) hP hD hS (lv_sub hl [1, 2, 0] rfl)
  have L62 : ∀ (u : ac_U) (H : Heap) (locs : List Loc) (ls : Array Slot), ac_R rg u → ac_Fr [(85, some 0), (85, some 2), (85, some 3), (85, some 4), (85, some 5), (85, some 11), (85, some 12), (85, some 13), (85, some 14), (85, some 15), (85, some 16), (85, some 18), (85, some 24), (85, some 35), (85, some 37), (87, none), (89, none), (93, none), (94, none), (99, none)] u0 u → msI u → unI u → cdI u → apI u → auI u → (0 : Int) ≤ (u.1 85 0).toInt ∧ (u.1 85 0).toInt ≤ 0 → va_P (dC, dI) vwCl (ac_w ad cA (TT nF) u) H → va_D A (ac_w ad cA (TT nF) u) → va_S A s.heap H locs → lv_has ls 4 [(0, .ref (ad 85))] → W p l e (ac_rm 8) s m [.ref (ad 85), .int p0].toArray below meth c H locs 0 0 (MQ below (va_Qi (fun (r : Int32) (u : ac_U) => ac_R rg u ∧ ac_Fr [(85, some 0), (85, some 2), (85, some 3), (85, some 4), (85, some 5), (85, some 11), (85, some 12), (85, some 13), (85, some 14), (85, some 15), (85, some 16), (85, some 18), (85, some 24), (85, some 35), (85, some 37), (87, none), (89, none), (93, none), (94, none), (99, none)] u0 u ∧ msI u ∧ unI u ∧ cdI u ∧ apI u ∧ auI u) (ac_B (dC, dI) vwCl (ac_ty cA) ad cA (TT nF) A) A) [.ref (ad 85), .int p0].toArray s 0 0 A) (F0 m 62 ls []) := by
    intro u H locs ls hR hF hK_MS hK_UI hK_CW hK_AP hK_AU f0 hP hD hS hl
    refine a_bp F (-2 : Int32) dX12_daybook_62 (by decide) ?_
    refine lv_aload_n F.1 F.2.1 dX12_daybook_64 rfl (lv_at hl 0 rfl) ?_
    refine a_geti F inX12 hP 85 16 tc_85 rfl rfl (by decide) q1487 (fun _ h9 => h9) (v := (u.1 85 16)) rfl dX12_daybook_65 ?_
    refine a_isubU F dX12_daybook_68 (fun v44 => ?_)
    exact a_reti F hr hlocks hP hD hS dX12_daybook_69 ⟨hR, hF, hK_MS, hK_UI, hK_CW, hK_AP, hK_AU⟩
  have L39 : ∀ (n39 : Nat) (u : ac_U) (H : Heap) (locs : List Loc) (ls : Array Slot), ac_R rg u → ac_Fr [(85, some 0), (85, some 2), (85, some 3), (85, some 4), (85, some 5), (85, some 11), (85, some 12), (85, some 13), (85, some 14), (85, some 15), (85, some 16), (85, some 18), (85, some 24), (85, some 35), (85, some 37), (87, none), (89, none), (93, none), (94, none), (99, none)] u0 u → 41 - (u.1 85 35).toInt < (n39 : Int) → msI u → unI u → cdI u → blI u → apI u → auI u → bgI u → (0 : Int) ≤ p0.toInt ∧ p0.toInt ≤ 1 → (0 : Int) ≤ (u.1 85 0).toInt ∧ (u.1 85 0).toInt ≤ 0 → (0 : Int) ≤ (u.1 85 35).toInt ∧ (u.1 85 35).toInt ≤ 40 → va_P (dC, dI) vwCl (ac_w ad cA (TT nF) u) H → va_D A (ac_w ad cA (TT nF) u) → va_S A s.heap H locs → lv_has ls 4 [(0, .ref (ad 85)), (1, .int p0)] → W p l e (ac_rm 8) s m [.ref (ad 85), .int p0].toArray below meth c H locs 0 0 (MQ below (va_Qi (fun (r : Int32) (u : ac_U) => ac_R rg u ∧ ac_Fr [(85, some 0), (85, some 2), (85, some 3), (85, some 4), (85, some 5), (85, some 11), (85, some 12), (85, some 13), (85, some 14), (85, some 15), (85, some 16), (85, some 18), (85, some 24), (85, some 35), (85, some 37), (87, none), (89, none), (93, none), (94, none), (99, none)] u0 u ∧ msI u ∧ unI u ∧ cdI u ∧ apI u ∧ auI u) (ac_B (dC, dI) vwCl (ac_ty cA) ad cA (TT nF) A) A) [.ref (ad 85), .int p0].toArray s 0 0 A) (F0 m 39 ls []) := by
    intro n39
    induction n39 with
    | zero => intro u H locs ls hR hF hn39 hK_MS hK_UI hK_CW hK_BLI hK_AP hK_AU hK_BG f0 f1 f2 hP hD hS hl; have gz0 : (0 : Int) ≤ (u.1 85 35).toInt ∧ (u.1 85 35).toInt ≤ 40 := hR 85 35; exfalso; omega
    | succ n39 ih39 =>
      intro u H locs ls hR hF hn39 hK_MS hK_UI hK_CW hK_BLI hK_AP hK_AU hK_BG f0 f1 f2 hP hD hS hl
      refine lv_aload_n F.1 F.2.1 dX12_daybook_39 rfl (lv_at hl 0 rfl) ?_
      have g45 : (0 : Int) ≤ (u.1 85 11).toInt ∧ (u.1 85 11).toInt ≤ 4 := hR 85 11
      refine a_geti F inX12 hP 85 11 tc_85 rfl rfl (by decide) q1482 (fun _ h9 => h9) (v := (u.1 85 11)) rfl dX12_daybook_40 ?_
      refine z_eq F 83 dX12_daybook_43 (by decide) rfl (fun c46 => ?_) (fun c46 => ?_)
      · refine lv_aload_n F.1 F.2.1 dX12_daybook_83 rfl (lv_at hl 0 rfl) ?_
        have g48 : (0 : Int) ≤ (u.1 85 35).toInt ∧ (u.1 85 35).toInt ≤ 40 := hR 85 35
        refine a_Vv F hml hl.1 hA hP hD hS (As := []) (c_X12_tries_85__3 l dC dI ad cA nF _  hR hK_MS hK_AP) (cs_RX12_392 (d := 1) F.2.2.1 (by decide)) tc_85 rfl rfl rfl rfl (Nat.le_of_ble_eq_true rfl) dX12_daybook_84 ⟨Nat.le_refl 0, Nat.le_refl 0⟩ (fun u47 H locs hq hP hD hS => ?_)
        obtain ⟨hR, hF47, hK_BI, hK_AB⟩ := hq
        have hF := hF.tr hF47 (by decide)
        have hK_MS := sp_fr sp_MS hF47 (by decide) hK_MS
        have hK_UI := sp_fr sp_UI hF47 (by decide) hK_UI
        have hK_CW := sp_fr sp_CW hF47 (by decide) hK_CW
        have hK_BLI := sp_fr sp_BLI hF47 (by decide) hK_BLI
        have hK_AP := sp_fr sp_AP hF47 (by decide) hK_AP
        have hK_AU := sp_fr sp_AU hF47 (by decide) hK_AU
        have hK_BG := sp_fr sp_BG hF47 (by decide) hK_BG
        refine a_ic F (0 : Int32) dX12_daybook_87 (by decide) ?_
        refine lv_istore_n (lv' := [(2, .int (0 : Int32)), (0, .ref (ad 85)), (1, .int p0)]) F.1 F.2.1 dX12_daybook_88 rfl hl (by decide) rfl (fun ls hl => ?_)
        exact L89 6 (0 : Int32) _ _ _ _ hR hF (by decide) hK_MS hK_UI hK_CW hK_BI hK_BLI hK_AP hK_AU hK_AB hK_BG (by omega) (by decide) (i_trB (hF47 85 0 rfl) (by omega : (0 : Int) ≤ (u.1 85 0).toInt ∧ (u.1 85 0).toInt ≤ 0)) (i_trB (hF47 85 11 rfl) (by omega : (0 : Int) ≤ (u.1 85 11).toInt ∧ (u.1 85 11).toInt ≤ 0)) hP hD hS (lv_sub hl [1, 2, 0] rfl)
      · refine lv_aload_n F.1 F.2.1 dX12_daybook_46 rfl (lv_at hl 0 rfl) ?_
        have g50 : (0 : Int) ≤ (u.1 85 35).toInt ∧ (u.1 85 35).toInt ≤ 40 := hR 85 35
        refine a_Vi F hml hl.1 hA hP hD hS (As := []) (c_X12_bookLine_85__3 l dC dI ad cA nF _  hR hK_BLI hK_BG) (cs_RX12_401 (d := 4) F.2.2.1 (by decide)) tc_85 rfl rfl rfl rfl (Nat.le_of_ble_eq_true rfl) dX12_daybook_47 ⟨Nat.le_refl 0, Nat.le_refl 0⟩ (fun r49 u49 H locs hq hP hD hS => ?_)
        obtain ⟨hR, hF49, gr49, xr49, hK_r49_BLJ, hK_r49_BH⟩ := hq
        have hF := hF.tr hF49 (by decide)
        have hK_MS := sp_fr sp_MS hF49 (by decide) hK_MS
        have hK_UI := sp_fr sp_UI hF49 (by decide) hK_UI
        have hK_CW := sp_fr sp_CW hF49 (by decide) hK_CW
        have hK_AP := sp_fr sp_AP hF49 (by decide) hK_AP
        have hK_AU := sp_fr sp_AU hF49 (by decide) hK_AU
        have k51 : (u49.1 85 35).toInt = (u.1 85 35).toInt := congrArg Int32.toInt (show u49.1 85 35 = (u.1 85 35) from hF49 85 35 rfl)
        have xr49 : r49.toInt ≠ 0 → (u49.1 85 35).toInt ≤ 39 := xr49
        refine z_eq F 62 dX12_daybook_50 (by decide) rfl (fun c52 => ?_) (fun c52 => ?_)
        · exact L62 _ _ _ _ hR hF hK_MS hK_UI hK_CW hK_AP hK_AU (i_trB (hF49 85 0 rfl) (by omega : (0 : Int) ≤ (u.1 85 0).toInt ∧ (u.1 85 0).toInt ≤ 0)) hP hD hS (lv_sub hl [0] rfl)
        · have hK_BLJ := hK_r49_BLJ (by omega)
          have hK_BH := hK_r49_BH (by omega)
          refine lv_aload_n F.1 F.2.1 dX12_daybook_53 rfl (lv_at hl 0 rfl) ?_
          refine a_bp F (59 : Int32) dX12_daybook_54 (by decide) ?_
          refine a_Vi F hml hl.1 hA hP hD hS (As := [.int (59 : Int32)]) (c_X12_sign_85 l dC dI ad cA nF _ (59 : Int32) hR (by decide)) (cs_RX12_238 (d := 3) F.2.2.1 (by decide)) tc_85 rfl rfl rfl rfl (Nat.le_of_ble_eq_true rfl) dX12_daybook_56 ⟨Nat.le_refl 0, Nat.le_refl 0⟩ (fun r53 u53 H locs hq hP hD hS => ?_)
          obtain ⟨hR, hF53, gr53⟩ := hq
          have hF := hF.tr hF53 (by decide)
          have hK_MS := sp_fr sp_MS hF53 (by decide) hK_MS
          have hK_UI := sp_fr sp_UI hF53 (by decide) hK_UI
          have hK_CW := sp_fr sp_CW hF53 (by decide) hK_CW
          have hK_AP := sp_fr sp_AP hF53 (by decide) hK_AP
          have hK_AU := sp_fr sp_AU hF53 (by decide) hK_AU
          have hK_r49_BLJ := sp_fr (sp_imp sp_BLJ) hF53 (by decide) hK_r49_BLJ
          have hK_r49_BH := sp_fr (sp_imp sp_BH) hF53 (by decide) hK_r49_BH
          have hK_BLJ := sp_fr sp_BLJ hF53 (by decide) hK_BLJ
          have hK_BH := sp_fr sp_BH hF53 (by decide) hK_BH
          refine z_ne F 70 dX12_daybook_59 (by decide) rfl (fun c54 => ?_) (fun c54 => ?_)
          · refine lv_aload_n F.1 F.2.1 dX12_daybook_70 rfl (lv_at hl 0 rfl) ?_
            refine lv_dup F.1 F.2.1 dX12_daybook_71 rfl ?_
            refine a_geti F inX12 hP 85 35 tc_85 rfl rfl (by decide) q1506 (fun _ h9 => h9) (v := (u.1 85 35)) ((hF53 85 35 rfl).trans (hF49 85 35 rfl)) dX12_daybook_72 ?_
            refine a_ic F (1 : Int32) dX12_daybook_75 (by decide) ?_
            refine a_iadd F dX12_daybook_76 rfl ic_1 (by omega) (fun v55 hv55 => ?_)
            refine a_puti F inX12 tyX12 tyX12_ok nmX12 hP hD hS 85 35 tc_85 rfl rfl (by decide) q1506 (fun _ h9 => h9) rfl (ty := .int) (tyX12_ok 35 (by decide)) rfl rfl dX12_daybook_77 (fun H locs hP hD hS => ?_)
            have hR := hR.si (c := 85) (k := 35) (v := v55) (by omega : (0 : Int) ≤ v55.toInt ∧ v55.toInt ≤ 40)
            have hF := hF.si (c := 85) (k := 35) (v := v55) rfl
            have hO_MS := hK_MS
            have hO_UI := hK_UI
            have hO_CW := hK_CW
            have hO_AP := hK_AP
            have hO_AU := hK_AU
            have hO_r49_BLJ := hK_r49_BLJ
            have hO_r49_BH := hK_r49_BH
            have hO_BLJ := hK_BLJ
            have hO_BH := hK_BH
            have hN_BLI := bl_s hO_BLJ (i := (u.1 85 35)) (v := v55) ((hF53 85 35 rfl).trans (hF49 85 35 rfl)) (by omega)
            have hN_BG := bg_s hO_BH (i := (u.1 85 35)) (v := v55) ((hF53 85 35 rfl).trans (hF49 85 35 rfl)) (by omega)
            have hK_MS := sp_sgD sp_MS hD hK_MS (by decide)
            have hK_UI := sp_si sp_UI hK_UI (c := 85) (k := 35) (v := v55) (fun j9 h9 q9 => by rw [q9] at h9; exact absurd h9 (by decide))
            have hK_CW := sp_sgD sp_CW hD hK_CW (by decide)
            have hK_AP := sp_sgD sp_AP hD hK_AP (by decide)
            have hK_AU := sp_si sp_AU hK_AU (c := 85) (k := 35) (v := v55) (fun j9 h9 q9 => by rw [q9] at h9; exact absurd h9 (by decide))
            have hK_BLI := hN_BLI
            have hK_BG := hN_BG
            refine lv_goto (tgt := 39) F.1 F.2.1 dX12_daybook_80 (by decide) ?_
            exact ih39 _ _ _ _ hR hF (by omega : 41 - v55.toInt < ((n39 : Nat) : Int)) hK_MS hK_UI hK_CW hK_BLI hK_AP hK_AU hK_BG (by omega) (i_trB ((hF53 85 0 rfl).trans (hF49 85 0 rfl)) (by omega : (0 : Int) ≤ (u.1 85 0).toInt ∧ (u.1 85 0).toInt ≤ 0)) (by omega : (0 : Int) ≤ v55.toInt ∧ v55.toInt ≤ 40) hP hD hS (lv_sub hl [0, 1] rfl)
          · exact L62 _ _ _ _ hR hF hK_MS hK_UI hK_CW hK_AP hK_AU (i_trB ((hF53 85 0 rfl).trans (hF49 85 0 rfl)) (by omega : (0 : Int) ≤ (u.1 85 0).toInt ∧ (u.1 85 0).toInt ≤ 0)) hP hD hS (lv_sub hl [0] rfl)
  refine lv_aload_n F.1 F.2.1 dX12_daybook_0 rfl (lv_at hl 0 rfl) ?_
  refine a_ic F (0 : Int32) dX12_daybook_1 (by decide) ?_
  refine a_puti F inX12 tyX12 tyX12_ok nmX12 hP hD hS 85 0 tc_85 rfl rfl (by decide) q1471 (fun _ h9 => h9) rfl (ty := .int) (tyX12_ok 0 (by decide)) rfl rfl dX12_daybook_2 (fun H locs hP hD hS => ?_)
  have hR := hR.si (c := 85) (k := 0) (v := (0 : Int32)) (by rw [ic_0]; exact (by omega : (0 : Int) ≤ (0 : Int) ∧ (0 : Int) ≤ 1))
  have hF := hF.si (c := 85) (k := 0) (v := (0 : Int32)) rfl
  have hK_MS := sp_sgD sp_MS hD hK_MS (by decide)
  have hK_UI := sp_si sp_UI hK_UI (c := 85) (k := 0) (v := (0 : Int32)) (fun j9 h9 q9 => by rw [q9] at h9; exact absurd h9 (by decide))
  have hK_CW := sp_sgD sp_CW hD hK_CW (by decide)
  have hK_AP := sp_sgD sp_AP hD hK_AP (by decide)
  have hK_AU := sp_si sp_AU hK_AU (c := 85) (k := 0) (v := (0 : Int32)) (fun j9 h9 q9 => by rw [q9] at h9; exact absurd h9 (by decide))
  refine lv_iload_n F.1 F.2.1 dX12_daybook_5 rfl (lv_at hl 1 rfl) ?_
  refine a_ic F (0 : Int32) dX12_daybook_6 (by decide) ?_
  refine a_ic F (1 : Int32) dX12_daybook_7 (by decide) ?_
  refine a_Si F hml hl.1 hA hP hD hS (As := [.int p0, .int (0 : Int32), .int (1 : Int32)]) (c_X12_isIn l dC dI ad cA nF _ p0 (0 : Int32) (1 : Int32) hR (by decide)) (cs_RX12_187 (d := 1) F.2.2.1 (by decide)) rfl rfl (Nat.le_of_ble_eq_true rfl) dX12_daybook_8 ⟨Nat.le_refl 0, Nat.le_refl 0⟩ (fun r56 uN56 H locs hq hP hD hS => ?_)
  obtain ⟨hu56, gr56, xr56⟩ := hq
  rw [hu56] at hP hD
  have xr56 : r56.toInt ≠ 0 → (0 : Int) ≤ p0.toInt ∧ p0.toInt ≤ (1 : Int) := xr56
  refine z_ne F 18 dX12_daybook_11 (by decide) rfl (fun c57 => ?_) (fun c57 => ?_)
  · refine lv_aload_n F.1 F.2.1 dX12_daybook_18 rfl (lv_at hl 0 rfl) ?_
    refine a_sp F (500 : Int32) dX12_daybook_19 (by decide) ?_
    have g59 : (0 : Int) ≤ (u0.1 85 35).toInt ∧ (u0.1 85 35).toInt ≤ 40 := hR 85 35
    refine a_Vv F hml hl.1 hA hP hD hS (As := [.int (500 : Int32)]) (c_X12_taken_85 l dC dI ad cA nF _ (500 : Int32) hR (by decide)) (cs_RX12_229 (d := 1) F.2.2.1 (by decide)) tc_85 rfl rfl rfl rfl (Nat.le_of_ble_eq_true rfl) dX12_daybook_22 ⟨Nat.le_refl 0, Nat.le_refl 0⟩ (fun u58 H locs hq hP hD hS => ?_)
    obtain ⟨hR, hF58⟩ := hq
    have hF := hF.tr hF58 (by decide)
    have hK_MS := sp_fr sp_MS hF58 (by decide) hK_MS
    have hK_UI := sp_fr sp_UI hF58 (by decide) hK_UI
    have hK_CW := sp_fr sp_CW hF58 (by decide) hK_CW
    have hK_AP := sp_fr sp_AP hF58 (by decide) hK_AP
    have hK_AU := sp_fr sp_AU hF58 (by decide) hK_AU
    refine lv_aload_n F.1 F.2.1 dX12_daybook_25 rfl (lv_at hl 0 rfl) ?_
    refine a_ic F (0 : Int32) dX12_daybook_26 (by decide) ?_
    refine a_puti F inX12 tyX12 tyX12_ok nmX12 hP hD hS 85 15 tc_85 rfl rfl (by decide) q1486 (fun _ h9 => h9) rfl (ty := .int) (tyX12_ok 15 (by decide)) rfl rfl dX12_daybook_27 (fun H locs hP hD hS => ?_)
    have hR := hR.si (c := 85) (k := 15) (v := (0 : Int32)) ⟨i_lo _, i_hi _⟩
    have hF := hF.si (c := 85) (k := 15) (v := (0 : Int32)) rfl
    have hK_MS := sp_sgD sp_MS hD hK_MS (by decide)
    have hK_UI := sp_si sp_UI hK_UI (c := 85) (k := 15) (v := (0 : Int32)) (fun j9 h9 q9 => by rw [q9] at h9; exact absurd h9 (by decide))
    have hK_CW := sp_sgD sp_CW hD hK_CW (by decide)
    have hK_AP := sp_sgD sp_AP hD hK_AP (by decide)
    have hK_AU := sp_si sp_AU hK_AU (c := 85) (k := 15) (v := (0 : Int32)) (fun j9 h9 q9 => by rw [q9] at h9; exact absurd h9 (by decide))
    refine lv_aload_n F.1 F.2.1 dX12_daybook_30 rfl (lv_at hl 0 rfl) ?_
    refine a_ic F (0 : Int32) dX12_daybook_31 (by decide) ?_
    refine a_puti F inX12 tyX12 tyX12_ok nmX12 hP hD hS 85 35 tc_85 rfl rfl (by decide) q1506 (fun _ h9 => h9) rfl (ty := .int) (tyX12_ok 35 (by decide)) rfl rfl dX12_daybook_32 (fun H locs hP hD hS => ?_)
    have hR := hR.si (c := 85) (k := 35) (v := (0 : Int32)) (by rw [ic_0]; exact (by omega : (0 : Int) ≤ (0 : Int) ∧ (0 : Int) ≤ 40))
    have hF := hF.si (c := 85) (k := 35) (v := (0 : Int32)) rfl
    have hN_BLI := bl_0D hD (by decide)
    have hN_BG := bg_0D hD (by decide)
    have hK_MS := sp_sgD sp_MS hD hK_MS (by decide)
    have hK_UI := sp_si sp_UI hK_UI (c := 85) (k := 35) (v := (0 : Int32)) (fun j9 h9 q9 => by rw [q9] at h9; exact absurd h9 (by decide))
    have hK_CW := sp_sgD sp_CW hD hK_CW (by decide)
    have hK_AP := sp_sgD sp_AP hD hK_AP (by decide)
    have hK_AU := sp_si sp_AU hK_AU (c := 85) (k := 35) (v := (0 : Int32)) (fun j9 h9 q9 => by rw [q9] at h9; exact absurd h9 (by decide))
    have hK_BLI := hN_BLI
    have hK_BG := hN_BG
    refine lv_aload_n F.1 F.2.1 dX12_daybook_35 rfl (lv_at hl 0 rfl) ?_
    refine a_Vv F hml hl.1 hA hP hD hS (As := []) (c_X12_next_85 l dC dI ad cA nF _  hR) (cs_RX12_184 (d := 2) F.2.2.1 (by decide)) tc_85 rfl rfl rfl rfl (Nat.le_of_ble_eq_true rfl) dX12_daybook_36 ⟨Nat.le_refl 0, Nat.le_refl 0⟩ (fun u60 H locs hq hP hD hS => ?_)
    obtain ⟨hR, hF60⟩ := hq
    have hF := hF.tr hF60 (by decide)
    have hK_MS := sp_fr sp_MS hF60 (by decide) hK_MS
    have hK_UI := sp_fr sp_UI hF60 (by decide) hK_UI
    have hK_CW := sp_fr sp_CW hF60 (by decide) hK_CW
    have hK_AP := sp_fr sp_AP hF60 (by decide) hK_AP
    have hK_AU := sp_fr sp_AU hF60 (by decide) hK_AU
    have hK_BLI := sp_fr sp_BLI hF60 (by decide) hK_BLI
    have hK_BG := sp_fr sp_BG hF60 (by decide) hK_BG
    exact L39 43 _ _ _ _ hR hF (by show 41 - (u60.1 85 35).toInt < (43 : Int); rw [hF60 85 35 rfl]; exact (by omega : 41 - (0 : Int) < (43 : Int))) hK_MS hK_UI hK_CW hK_BLI hK_AP hK_AU hK_BG (by omega) (i_trB ((hF60 85 0 rfl).trans (hF58 85 0 rfl)) (by omega : (0 : Int) ≤ (0 : Int) ∧ (0 : Int) ≤ 0)) (i_trB (hF60 85 35 rfl) (by omega : (0 : Int) ≤ (0 : Int) ∧ (0 : Int) ≤ 40)) hP hD hS (lv_sub hl [0, 1] rfl)
  · refine a_sp F (-1000 : Int32) dX12_daybook_14 (by decide) ?_
    exact a_reti F hr hlocks hP hD hS dX12_daybook_17 ⟨hR, hF, hK_MS, hK_UI, hK_CW, hK_AP, hK_AU⟩
set_option maxHeartbeats 600000 in
set_option maxRecDepth 100000 in
theorem c_X12_draw_85__2 (l : Launch) (dC : Nat → ClassId) (dI : Nat → Nat → Nat) (ad : Nat → Nat) (cA : Nat → ClassId) (nF : Nat) (u0 : ac_U) (p0 : Int32) (hR : ac_R rg u0) (hp0 : (1 : Int) ≤ p0.toInt ∧ p0.toInt ≤ 8) : ac_Mi l yX12_draw (.code yX12_draw cX12_draw 2 (some .int) :: TB) 1 (dC, dI) vwCl (ac_ty cA) ad cA (TT nF) [.ref (ad 85), .int p0] u0 (fun (r : Int32) (u : ac_U) => ac_R rg u ∧ ac_Fr [(85, some 34)] u0 u ∧ ((0 : Int) ≤ r.toInt ∧ r.toInt ≤ 7) ∧ (r.toInt < p0.toInt)) := by
  refine ac_Mi.of (cc := cX12_draw) (maxL := 2) (ret := (some .int)) (by decide) rfl (Nat.le_of_ble_eq_true rfl) ?_
  intro p e s m below meth c A ls F hml hr hlocks hA hP hD hS hl
  have F : ac_X p s m [.ref (ad 85), .int p0].toArray c cX12_draw RX12 TB (dC, dI) vwCl (ac_ty cA) := ⟨F.1, F.2.1, fun w h => F.2.2.1 w (List.mem_cons_of_mem _ h), F.2.2.2.1, F.2.2.2.2⟩
  have hl : lv_has ls 2 [(0, .ref (ad 85)), (1, .int p0)] := hl
  have hF : ac_Fr [(85, some 34)] u0 u0 := ac_Fr.rf
  refine lv_aload_n F.1 F.2.1 dX12_draw_0 rfl (lv_at hl 0 rfl) ?_
  refine lv_aload_n F.1 F.2.1 dX12_draw_1 rfl (lv_at hl 0 rfl) ?_
  refine a_geti F inX12 hP 85 34 tc_85 rfl rfl (by decide) q1505 (fun _ h9 => h9) (v := (u0.1 85 34)) rfl dX12_draw_2 ?_
  refine lv_ldcw (v := (1103515245 : Int32)) F.1 F.2.1 F.2.2.2.1 (F.2.2.1 _ q1978) dX12_draw_5 ?_
  refine a_imulU F dX12_draw_8 (fun v1 => ?_)
  refine a_sp F (12345 : Int32) dX12_draw_9 (by decide) ?_
  refine a_iaddU F dX12_draw_12 (fun v2 => ?_)
  refine a_puti F inX12 tyX12 tyX12_ok nmX12 hP hD hS 85 34 tc_85 rfl rfl (by decide) q1505 (fun _ h9 => h9) rfl (ty := .int) (tyX12_ok 34 (by decide)) rfl rfl dX12_draw_13 (fun H locs hP hD hS => ?_)
  have hR := hR.si (c := 85) (k := 34) (v := v2) ⟨i_lo _, i_hi _⟩
  have hF := hF.si (c := 85) (k := 34) (v := v2) rfl
  refine lv_aload_n F.1 F.2.1 dX12_draw_16 rfl (lv_at hl 0 rfl) ?_
  refine a_geti F inX12 hP 85 34 tc_85 rfl rfl (by decide) q1505 (fun _ h9 => h9) (v := v2) (rfl) dX12_draw_17 ?_
  refine a_bp F (8 : Int32) dX12_draw_20 (by decide) ?_
  refine a_iushrC F dX12_draw_22 (n := 8) (by decide) (by decide) (fun v3 hv3 => ?_)
  have hv3 : (0 : Int) ≤ v3.toInt ∧ v3.toInt ≤ 16777215 := hv3
  refine lv_iload_n F.1 F.2.1 dX12_draw_23 rfl (lv_at hl 1 rfl) ?_
  refine a_irem F dX12_draw_24 rfl rfl (by omega) (fun v4 hv4 => ?_)
  exact a_reti F hr hlocks hP hD hS dX12_draw_25 ⟨hR, hF, (by omega : (0 : Int) ≤ v4.toInt ∧ v4.toInt ≤ 7), (by omega : v4.toInt < p0.toInt)⟩
set_option maxHeartbeats 600000 in
set_option maxRecDepth 100000 in
theorem c_X12_draws_85__2 (l : Launch) (dC : Nat → ClassId) (dI : Nat → Nat → Nat) (ad : Nat → Nat) (cA : Nat → ClassId) (nF : Nat) (u0 : ac_U) (p0 : Int32) (p1 : Int32) (hR : ac_R rg u0) (hp0 : (1 : Int) ≤ p0.toInt ∧ p0.toInt ≤ 99) (hK_MS : msI u0) (hK_AP : apI u0) : ac_Mi l yX12_draws (.code yX12_draws cX12_draws 7 (some .int) :: TB) 3 (dC, dI) vwCl (ac_ty cA) ad cA (TT nF) [.ref (ad 85), .int p0, .int p1] u0 (fun (r : Int32) (u : ac_U) => ac_R rg u ∧ ac_Fr [(85, some 34), (87, none)] u0 u ∧ ((0 : Int) ≤ r.toInt ∧ r.toInt ≤ 100) ∧ msI u ∧ apI u ∧ (cdI u0 → cdI u) ∧ (unI u0 → unI u) ∧ (bfI u0 → bfI u) ∧ (auI u0 → auI u) ∧ (abI u0 → abI u)) := by
  refine ac_Mi.of (cc := cX12_draws) (maxL := 7) (ret := (some .int)) (by decide) rfl (Nat.le_of_ble_eq_true rfl) ?_
  intro p e s m below meth c A ls F hml hr hlocks hA hP hD hS hl
  have F : ac_X p s m [.ref (ad 85), .int p0, .int p1].toArray c cX12_draws RX12 TB (dC, dI) vwCl (ac_ty cA) := ⟨F.1, F.2.1, fun w h => F.2.2.1 w (List.mem_cons_of_mem _ h), F.2.2.2.1, F.2.2.2.2⟩
  have hl : lv_has ls 7 [(0, .ref (ad 85)), (1, .int p0), (2, .int p1)] := hl
  have hF : ac_Fr [(85, some 34), (87, none)] u0 u0 := ac_Fr.rf
  have hK_i_CW : (fun u => cdI u0 → cdI u) u0 := fun h => h
  have hK_i_UI : (fun u => unI u0 → unI u) u0 := fun h => h
  have hK_i_BI : (fun u => bfI u0 → bfI u) u0 := fun h => h
  have hK_i_AU : (fun u => auI u0 → auI u) u0 := fun h => h
  have hK_i_AB : (fun u => abI u0 → abI u) u0 := fun h => h
  have L190 : ∀ (x3 : Int32) (u : ac_U) (H : Heap) (locs : List Loc) (ls : Array Slot), ac_R rg u → ac_Fr [(85, some 34), (87, none)] u0 u → msI u → apI u → (fun u => cdI u0 → cdI u) u → (fun u => unI u0 → unI u) u → (fun u => bfI u0 → bfI u) u → (fun u => auI u0 → auI u) u → (fun u => abI u0 → abI u) u → (0 : Int) ≤ x3.toInt ∧ x3.toInt ≤ 100 → va_P (dC, dI) vwCl (ac_w ad cA (TT nF) u) H → va_D A (ac_w ad cA (TT nF) u) → va_S A s.heap H locs → lv_has ls 7 [(3, .int x3)] → W p l e (ac_rm 3) s m [.ref (ad 85), .int p0, .int p1].toArray below meth c H locs 0 0 (MQ below (va_Qi (fun (r : Int32) (u : ac_U) => ac_R rg u ∧ ac_Fr [(85, some 34), (87, none)] u0 u ∧ ((0 : Int) ≤ r.toInt ∧ r.toInt ≤ 100) ∧ msI u ∧ apI u ∧ (cdI u0 → cdI u) ∧ (unI u0 → unI u) ∧ (bfI u0 → bfI u) ∧ (auI u0 → auI u) ∧ (abI u0 → abI u)) (ac_B (dC, dI) vwCl (ac_ty cA) ad cA (TT nF) A) A) [.ref (ad 85), .int p0, .int p1].toArray s 0 0 A) (F0 m 190 ls []) := by
    intro x3 u H locs ls hR hF hK_MS hK_AP hK_i_CW hK_i_UI hK_i_BI hK_i_AU hK_i_AB f0 hP hD hS hl
    refine lv_iload_n F.1 F.2.1 dX12_draws_190 rfl (lv_at hl 0 rfl) ?_
    exact a_reti F hr hlocks hP hD hS dX12_draws_191 ⟨hR, hF, (by omega : (0 : Int) ≤ x3.toInt ∧ x3.toInt ≤ 100), hK_MS, hK_AP, hK_i_CW, hK_i_UI, hK_i_BI, hK_i_AU, hK_i_AB⟩
  have L7 : ∀ (n7 : Nat) (x3 : Int32) (u : ac_U) (H : Heap) (locs : List Loc) (ls : Array Slot), ac_R rg u → ac_Fr [(85, some 34), (87, none)] u0 u → 100 - x3.toInt < (n7 : Int) → msI u → apI u → (fun u => cdI u0 → cdI u) u → (fun u => unI u0 → unI u) u → (fun u => bfI u0 → bfI u) u → (fun u => auI u0 → auI u) u → (fun u => abI u0 → abI u) u → (0 : Int) ≤ x3.toInt ∧ x3.toInt ≤ 100 → va_P (dC, dI) vwCl (ac_w ad cA (TT nF) u) H → va_D A (ac_w ad cA (TT nF) u) → va_S A s.heap H locs → lv_has ls 7 [(0, .ref (ad 85)), (1, .int p0), (3, .int x3)] → W p l e (ac_rm 3) s m [.ref (ad 85), .int p0, .int p1].toArray below meth c H locs 0 0 (MQ below (va_Qi (fun (r : Int32) (u : ac_U) => ac_R rg u ∧ ac_Fr [(85, some 34), (87, none)] u0 u ∧ ((0 : Int) ≤ r.toInt ∧ r.toInt ≤ 100) ∧ msI u ∧ apI u ∧ (cdI u0 → cdI u) ∧ (unI u0 → unI u) ∧ (bfI u0 → bfI u) ∧ (auI u0 → auI u) ∧ (abI u0 → abI u)) (ac_B (dC, dI) vwCl (ac_ty cA) ad cA (TT nF) A) A) [.ref (ad 85), .int p0, .int p1].toArray s 0 0 A) (F0 m 7 ls []) := by
    intro n7
    induction n7 with
    | zero => intro x3 u H locs ls hR hF hn7 hK_MS hK_AP hK_i_CW hK_i_UI hK_i_BI hK_i_AU hK_i_AB f0 hP hD hS hl; exfalso; omega
    | succ n7 ih7 =>
      intro x3 u H locs ls hR hF hn7 hK_MS hK_AP hK_i_CW hK_i_UI hK_i_BI hK_i_AU hK_i_AB f0 hP hD hS hl
      have L22 : ∀ (n22 : Nat) (x3 : Int32) (x4 : Int32) (u : ac_U) (H : Heap) (locs : List Loc) (ls : Array Slot), ac_R rg u → ac_Fr [(85, some 34), (87, none)] u0 u → 4 - x4.toInt < (n22 : Int) → msI u → apI u → (fun u => cdI u0 → cdI u) u → (fun u => unI u0 → unI u) u → (fun u => bfI u0 → bfI u) u → (fun u => auI u0 → auI u) u → (fun u => abI u0 → abI u) u → (0 : Int) ≤ x3.toInt ∧ x3.toInt ≤ 99 → (0 : Int) ≤ x4.toInt ∧ x4.toInt ≤ 4 → (u.1 87 106).toInt ≠ 20 * (u.1 87 0).toInt → 100 - x3.toInt + 0 < ((n7 : Nat) : Int) + 1 → va_P (dC, dI) vwCl (ac_w ad cA (TT nF) u) H → va_D A (ac_w ad cA (TT nF) u) → va_S A s.heap H locs → lv_has ls 7 [(0, .ref (ad 85)), (1, .int p0), (3, .int x3), (4, .int x4)] → W p l e (ac_rm 3) s m [.ref (ad 85), .int p0, .int p1].toArray below meth c H locs 0 0 (MQ below (va_Qi (fun (r : Int32) (u : ac_U) => ac_R rg u ∧ ac_Fr [(85, some 34), (87, none)] u0 u ∧ ((0 : Int) ≤ r.toInt ∧ r.toInt ≤ 100) ∧ msI u ∧ apI u ∧ (cdI u0 → cdI u) ∧ (unI u0 → unI u) ∧ (bfI u0 → bfI u) ∧ (auI u0 → auI u) ∧ (abI u0 → abI u)) (ac_B (dC, dI) vwCl (ac_ty cA) ad cA (TT nF) A) A) [.ref (ad 85), .int p0, .int p1].toArray s 0 0 A) (F0 m 22 ls []) := by
        intro n22
        induction n22 with
        | zero => intro x3 x4 u H locs ls hR hF hn22 hK_MS hK_AP hK_i_CW hK_i_UI hK_i_BI hK_i_AU hK_i_AB f0 f1 f2 f3 hP hD hS hl; exfalso; omega
        | succ n22 ih22 =>
          intro x3 x4 u H locs ls hR hF hn22 hK_MS hK_AP hK_i_CW hK_i_UI hK_i_BI hK_i_AU hK_i_AB f0 f1 f2 f3 hP hD hS hl
          have L174 : ∀ (x3 : Int32) (x4 : Int32) (u : ac_U) (H : Heap) (locs : List Loc) (ls : Array Slot), ac_R rg u → ac_Fr [(85, some 34), (87, none)] u0 u → msI u → apI u → (fun u => cdI u0 → cdI u) u → (fun u => unI u0 → unI u) u → (fun u => bfI u0 → bfI u) u → (fun u => auI u0 → auI u) u → (fun u => abI u0 → abI u) u → (0 : Int) ≤ x3.toInt ∧ x3.toInt ≤ 99 → (0 : Int) ≤ x4.toInt ∧ x4.toInt ≤ 3 → (u.1 87 106).toInt ≠ 20 * (u.1 87 0).toInt → 100 - x3.toInt + 0 < ((n7 : Nat) : Int) + 1 → 4 - x4.toInt + 0 < ((n22 : Nat) : Int) + 1 → va_P (dC, dI) vwCl (ac_w ad cA (TT nF) u) H → va_D A (ac_w ad cA (TT nF) u) → va_S A s.heap H locs → lv_has ls 7 [(0, .ref (ad 85)), (1, .int p0), (3, .int x3), (4, .int x4)] → W p l e (ac_rm 3) s m [.ref (ad 85), .int p0, .int p1].toArray below meth c H locs 0 0 (MQ below (va_Qi (fun (r : Int32) (u : ac_U) => ac_R rg u ∧ ac_Fr [(85, some 34), (87, none)] u0 u ∧ ((0 : Int) ≤ r.toInt ∧ r.toInt ≤ 100) ∧ msI u ∧ apI u ∧ (cdI u0 → cdI u) ∧ (unI u0 → unI u) ∧ (bfI u0 → bfI u) ∧ (auI u0 → auI u) ∧ (abI u0 → abI u)) (ac_B (dC, dI) vwCl (ac_ty cA) ad cA (TT nF) A) A) [.ref (ad 85), .int p0, .int p1].toArray s 0 0 A) (F0 m 174 ls []) := by
            intro x3 x4 u H locs ls hR hF hK_MS hK_AP hK_i_CW hK_i_UI hK_i_BI hK_i_AU hK_i_AB f0 f1 f2 f3 f4 hP hD hS hl
            refine a_iinc F (k := 3) (fun v1 => [(4, .int v1), (0, .ref (ad 85)), (1, .int p0), (3, .int x3)]) dX12_draws_174 hl rfl rfl (by decide) (by omega) (by decide) (fun _ => rfl) (fun v1 ls hv1 hl => ?_)
            refine lv_goto (tgt := 22) F.1 F.2.1 dX12_draws_177 (by decide) ?_
            have g2 : (0 : Int) ≤ (u.1 87 106).toInt ∧ (u.1 87 106).toInt ≤ 480 := hR 87 106
            have g3 : (4 : Int) ≤ (u.1 87 0).toInt ∧ (u.1 87 0).toInt ≤ 24 := hR 87 0
            exact ih22 x3 v1 _ _ _ _ hR hF (by omega) hK_MS hK_AP hK_i_CW hK_i_UI hK_i_BI hK_i_AU hK_i_AB (by omega) (by omega) (by omega : (u.1 87 106).toInt ≠ 20 * (u.1 87 0).toInt) (by omega) hP hD hS (lv_sub hl [1, 2, 3, 0] rfl)
          have L126 : ∀ (x3 : Int32) (x4 : Int32) (x5 : Int32) (u : ac_U) (H : Heap) (locs : List Loc) (ls : Array Slot), ac_R rg u → ac_Fr [(85, some 34), (87, none)] u0 u → msI u → apI u → (fun u => cdI u0 → cdI u) u → (fun u => unI u0 → unI u) u → (fun u => bfI u0 → bfI u) u → (fun u => auI u0 → auI u) u → (fun u => abI u0 → abI u) u → (0 : Int) ≤ x3.toInt ∧ x3.toInt ≤ 99 → (0 : Int) ≤ x4.toInt ∧ x4.toInt ≤ 3 → (1 : Int) ≤ x5.toInt ∧ x5.toInt ≤ 7 → (1 : Int) ≤ (u.1 87 4).toInt ∧ (u.1 87 4).toInt ≤ 4 → (u.1 87 106).toInt ≠ 20 * (u.1 87 0).toInt → 100 - x3.toInt + 0 < ((n7 : Nat) : Int) + 1 → 4 - x4.toInt + 0 < ((n22 : Nat) : Int) + 1 → va_P (dC, dI) vwCl (ac_w ad cA (TT nF) u) H → va_D A (ac_w ad cA (TT nF) u) → va_S A s.heap H locs → lv_has ls 7 [(0, .ref (ad 85)), (1, .int p0), (3, .int x3), (4, .int x4), (5, .int x5)] → W p l e (ac_rm 3) s m [.ref (ad 85), .int p0, .int p1].toArray below meth c H locs 0 0 (MQ below (va_Qi (fun (r : Int32) (u : ac_U) => ac_R rg u ∧ ac_Fr [(85, some 34), (87, none)] u0 u ∧ ((0 : Int) ≤ r.toInt ∧ r.toInt ≤ 100) ∧ msI u ∧ apI u ∧ (cdI u0 → cdI u) ∧ (unI u0 → unI u) ∧ (bfI u0 → bfI u) ∧ (auI u0 → auI u) ∧ (abI u0 → abI u)) (ac_B (dC, dI) vwCl (ac_ty cA) ad cA (TT nF) A) A) [.ref (ad 85), .int p0, .int p1].toArray s 0 0 A) (F0 m 126 ls []) := by
            intro x3 x4 x5 u H locs ls hR hF hK_MS hK_AP hK_i_CW hK_i_UI hK_i_BI hK_i_AU hK_i_AB f0 f1 f2 f3 f4 f5 f6 hP hD hS hl
            refine lv_iload F.1 F.2.1 dX12_draws_126 (lv_at hl 4 rfl) ?_
            refine a_ic F (2 : Int32) dX12_draws_128 (by decide) ?_
            refine b_ne F 174 dX12_draws_129 (by decide) rfl ic_2 (fun c4 => ?_) (fun c4 => ?_)
            · have g5 : (0 : Int) ≤ (u.1 87 106).toInt ∧ (u.1 87 106).toInt ≤ 480 := hR 87 106
              have g6 : (4 : Int) ≤ (u.1 87 0).toInt ∧ (u.1 87 0).toInt ≤ 24 := hR 87 0
              exact L174 x3 x4 _ _ _ _ hR hF hK_MS hK_AP hK_i_CW hK_i_UI hK_i_BI hK_i_AU hK_i_AB (by omega) (by omega) (by omega : (u.1 87 106).toInt ≠ 20 * (u.1 87 0).toInt) (by omega) (by omega) hP hD hS (lv_sub hl [0, 1, 2, 3] rfl)
            · refine lv_aload_n F.1 F.2.1 dX12_draws_132 rfl (lv_at hl 0 rfl) ?_
              refine a_getr F inX12 hP 85 6 tc_85 rfl rfl (by decide) q1477 (fun _ h9 => h9) dX12_draws_133 ?_
              refine a_bp F (6 : Int32) dX12_draws_136 (by decide) ?_
              have g7 : (0 : Int) ≤ (u.1 87 6).toInt ∧ (u.1 87 6).toInt ≤ 8 := hR 87 6
              refine a_ialdK F hP 87 6 tc_87 rfl rfl (i_in ic_6 (by omega)) (v := (u.1 87 6)) rfl dX12_draws_138 ?_
              refine z_le F 174 dX12_draws_139 (by decide) rfl (fun c8 => ?_) (fun c8 => ?_)
              · have g9 : (0 : Int) ≤ (u.1 87 106).toInt ∧ (u.1 87 106).toInt ≤ 480 := hR 87 106
                have g10 : (4 : Int) ≤ (u.1 87 0).toInt ∧ (u.1 87 0).toInt ≤ 24 := hR 87 0
                exact L174 x3 x4 _ _ _ _ hR hF hK_MS hK_AP hK_i_CW hK_i_UI hK_i_BI hK_i_AU hK_i_AB (by omega) (by omega) (by omega : (u.1 87 106).toInt ≠ 20 * (u.1 87 0).toInt) (by omega) (by omega) hP hD hS (lv_sub hl [0, 1, 2, 3] rfl)
              · refine lv_aload_n F.1 F.2.1 dX12_draws_142 rfl (lv_at hl 0 rfl) ?_
                refine lv_aload_n F.1 F.2.1 dX12_draws_143 rfl (lv_at hl 0 rfl) ?_
                refine a_getr F inX12 hP 85 6 tc_85 rfl rfl (by decide) q1477 (fun _ h9 => h9) dX12_draws_144 ?_
                refine a_bp F (6 : Int32) dX12_draws_147 (by decide) ?_
                refine a_ialdK F hP 87 6 tc_87 rfl rfl (i_in ic_6 (by omega)) (v := (u.1 87 6)) (rfl) dX12_draws_149 ?_
                have g12 : (0 : Int) ≤ (u.1 87 106).toInt ∧ (u.1 87 106).toInt ≤ 480 := hR 87 106
                have g13 : (4 : Int) ≤ (u.1 87 0).toInt ∧ (u.1 87 0).toInt ≤ 24 := hR 87 0
                refine a_Vi F hml hl.1 hA hP hD hS (As := [.int (u.1 87 6)]) (c_X12_draw_85__2 l dC dI ad cA nF _ (u.1 87 6) hR (by omega)) (cs_RX12_386 (d := 1) F.2.2.1 (by decide)) tc_85 rfl rfl rfl rfl (Nat.le_of_ble_eq_true rfl) dX12_draws_150 ⟨Nat.le_refl 0, Nat.le_refl 0⟩ (fun r11 u11 H locs hq hP hD hS => ?_)
                obtain ⟨hR, hF11, gr11, xr11⟩ := hq
                have hF := hF.tr hF11 (by decide)
                have hK_MS := sp_fr sp_MS hF11 (by decide) hK_MS
                have hK_AP := sp_fr sp_AP hF11 (by decide) hK_AP
                have hK_i_CW := sp_fr (sp_imp sp_CW) hF11 (by decide) hK_i_CW
                have hK_i_UI := sp_fr (sp_imp sp_UI) hF11 (by decide) hK_i_UI
                have hK_i_BI := sp_fr (sp_imp sp_BI) hF11 (by decide) hK_i_BI
                have hK_i_AU := sp_fr (sp_imp sp_AU) hF11 (by decide) hK_i_AU
                have hK_i_AB := sp_fr (sp_imp sp_AB) hF11 (by decide) hK_i_AB
                have xr11 : r11.toInt < (u.1 87 6).toInt := xr11
                refine lv_istore (lv' := [(6, .int r11), (0, .ref (ad 85)), (1, .int p0), (3, .int x3), (4, .int x4), (5, .int x5)]) F.1 F.2.1 dX12_draws_153 hl (by decide) rfl (fun ls hl => ?_)
                refine lv_aload_n F.1 F.2.1 dX12_draws_155 rfl (lv_at hl 1 rfl) ?_
                refine lv_iload F.1 F.2.1 dX12_draws_156 (lv_at hl 4 rfl) ?_
                refine lv_iload F.1 F.2.1 dX12_draws_158 (lv_at hl 0 rfl) ?_
                refine a_Vi F hml hl.1 hA hP hD hS (As := [.int x4, .int r11]) (c_X12_whySay_85 l dC dI ad cA nF _ x4 r11 hR (by omega) (by omega)) (cs_RX12_286 (d := 2) F.2.2.1 (by decide)) tc_85 rfl rfl rfl rfl (Nat.le_of_ble_eq_true rfl) dX12_draws_160 ⟨Nat.le_refl 0, Nat.le_refl 0⟩ (fun r14 uN14 H locs hq hP hD hS => ?_)
                obtain ⟨hu14, gr14⟩ := hq
                rw [hu14] at hP hD
                refine z_ne F 174 dX12_draws_163 (by decide) rfl (fun c15 => ?_) (fun c15 => ?_)
                · exact L174 x3 x4 _ _ _ _ hR hF hK_MS hK_AP hK_i_CW hK_i_UI hK_i_BI hK_i_AU hK_i_AB (by omega) (by omega) (by rw [hF11 87 106 rfl, hF11 87 0 rfl]; exact (by omega : (u.1 87 106).toInt ≠ 20 * (u.1 87 0).toInt)) (by omega) (by omega) hP hD hS (lv_sub hl [1, 2, 3, 4] rfl)
                · refine lv_aload_n F.1 F.2.1 dX12_draws_166 rfl (lv_at hl 1 rfl) ?_
                  refine lv_iload F.1 F.2.1 dX12_draws_167 (lv_at hl 4 rfl) ?_
                  refine lv_iload F.1 F.2.1 dX12_draws_169 (lv_at hl 0 rfl) ?_
                  have k17 : (u11.1 87 106).toInt = (u.1 87 106).toInt := congrArg Int32.toInt (show u11.1 87 106 = (u.1 87 106) from hF11 87 106 rfl)
                  have k18 : (u11.1 87 0).toInt = (u.1 87 0).toInt := congrArg Int32.toInt (show u11.1 87 0 = (u.1 87 0) from hF11 87 0 rfl)
                  refine a_Vv F hml hl.1 hA hP hD hS (As := [.int x4, .int r11]) (c_X12_says_85__3 l dC dI ad cA nF _ x4 r11 hR (by omega) (by omega)) (cs_RX12_289 (d := 1) F.2.2.1 (by decide)) tc_85 rfl rfl rfl rfl (Nat.le_of_ble_eq_true rfl) dX12_draws_171 ⟨Nat.le_refl 0, Nat.le_refl 0⟩ (fun u16 H locs hq hP hD hS => ?_)
                  obtain ⟨hR, hF16, xr16, hJ16_MS, hJ16_CW, hJ16_UI, hJ16_BI, hJ16_AP, hJ16_AU, hJ16_AB, hJ16_BG⟩ := hq
                  have hF := hF.tr hF16 (by decide)
                  have hK_MS := hJ16_MS hK_MS
                  have hK_AP := hJ16_AP hK_AP
                  have hK_i_CW : (fun u => cdI u0 → cdI u) u16 := fun h => hJ16_CW (hK_i_CW h)
                  have hK_i_UI : (fun u => unI u0 → unI u) u16 := fun h => hJ16_UI (hK_i_UI h)
                  have hK_i_BI : (fun u => bfI u0 → bfI u) u16 := fun h => hJ16_BI (hK_i_BI h)
                  have hK_i_AU : (fun u => auI u0 → auI u) u16 := fun h => hJ16_AU (hK_i_AU h)
                  have hK_i_AB : (fun u => abI u0 → abI u) u16 := fun h => hJ16_AB (hK_i_AB h)
                  have g19 : (0 : Int) ≤ (u16.1 87 106).toInt ∧ (u16.1 87 106).toInt ≤ 480 := hR 87 106
                  have g20 : (4 : Int) ≤ (u16.1 87 0).toInt ∧ (u16.1 87 0).toInt ≤ 24 := hR 87 0
                  have xr16 : (u16.1 87 106).toInt = (u11.1 87 106).toInt ∧ (u16.1 87 0).toInt = (u11.1 87 0).toInt := xr16
                  exact L174 x3 x4 _ _ _ _ hR hF hK_MS hK_AP hK_i_CW hK_i_UI hK_i_BI hK_i_AU hK_i_AB (by omega) (by omega) (by omega : (u16.1 87 106).toInt ≠ 20 * (u16.1 87 0).toInt) (by omega) (by omega) hP hD hS (lv_sub hl [1, 2, 3, 4] rfl)
          have L123 : ∀ (x3 : Int32) (x4 : Int32) (u : ac_U) (H : Heap) (locs : List Loc) (ls : Array Slot), ac_R rg u → ac_Fr [(85, some 34), (87, none)] u0 u → msI u → apI u → (fun u => cdI u0 → cdI u) u → (fun u => unI u0 → unI u) u → (fun u => bfI u0 → bfI u) u → (fun u => auI u0 → auI u) u → (fun u => abI u0 → abI u) u → (0 : Int) ≤ x3.toInt ∧ x3.toInt ≤ 99 → (0 : Int) ≤ x4.toInt ∧ x4.toInt ≤ 3 → (u.1 87 106).toInt ≠ 20 * (u.1 87 0).toInt → 100 - x3.toInt + 0 < ((n7 : Nat) : Int) + 1 → 4 - x4.toInt + 0 < ((n22 : Nat) : Int) + 1 → va_P (dC, dI) vwCl (ac_w ad cA (TT nF) u) H → va_D A (ac_w ad cA (TT nF) u) → va_S A s.heap H locs → lv_has ls 7 [(0, .ref (ad 85)), (1, .int p0), (3, .int x3), (4, .int x4)] → W p l e (ac_rm 3) s m [.ref (ad 85), .int p0, .int p1].toArray below meth c H locs 0 0 (MQ below (va_Qi (fun (r : Int32) (u : ac_U) => ac_R rg u ∧ ac_Fr [(85, some 34), (87, none)] u0 u ∧ ((0 : Int) ≤ r.toInt ∧ r.toInt ≤ 100) ∧ msI u ∧ apI u ∧ (cdI u0 → cdI u) ∧ (unI u0 → unI u) ∧ (bfI u0 → bfI u) ∧ (auI u0 → auI u) ∧ (abI u0 → abI u)) (ac_B (dC, dI) vwCl (ac_ty cA) ad cA (TT nF) A) A) [.ref (ad 85), .int p0, .int p1].toArray s 0 0 A) (F0 m 123 ls []) := by
            intro x3 x4 u H locs ls hR hF hK_MS hK_AP hK_i_CW hK_i_UI hK_i_BI hK_i_AU hK_i_AB f0 f1 f2 f3 f4 hP hD hS hl
            refine lv_goto (tgt := 174) F.1 F.2.1 dX12_draws_123 (by decide) ?_
            have g21 : (0 : Int) ≤ (u.1 87 106).toInt ∧ (u.1 87 106).toInt ≤ 480 := hR 87 106
            have g22 : (4 : Int) ≤ (u.1 87 0).toInt ∧ (u.1 87 0).toInt ≤ 24 := hR 87 0
            exact L174 x3 x4 _ _ _ _ hR hF hK_MS hK_AP hK_i_CW hK_i_UI hK_i_BI hK_i_AU hK_i_AB (by omega) (by omega) (by omega : (u.1 87 106).toInt ≠ 20 * (u.1 87 0).toInt) (by omega) (by omega) hP hD hS (lv_sub hl [0, 1, 2, 3] rfl)
          have L76 : ∀ (x3 : Int32) (x4 : Int32) (u : ac_U) (H : Heap) (locs : List Loc) (ls : Array Slot), ac_R rg u → ac_Fr [(85, some 34), (87, none)] u0 u → msI u → apI u → (fun u => cdI u0 → cdI u) u → (fun u => unI u0 → unI u) u → (fun u => bfI u0 → bfI u) u → (fun u => auI u0 → auI u) u → (fun u => abI u0 → abI u) u → (0 : Int) ≤ x3.toInt ∧ x3.toInt ≤ 99 → (0 : Int) ≤ x4.toInt ∧ x4.toInt ≤ 3 → (u.1 87 106).toInt ≠ 20 * (u.1 87 0).toInt → 100 - x3.toInt + 0 < ((n7 : Nat) : Int) + 1 → 4 - x4.toInt + 0 < ((n22 : Nat) : Int) + 1 → va_P (dC, dI) vwCl (ac_w ad cA (TT nF) u) H → va_D A (ac_w ad cA (TT nF) u) → va_S A s.heap H locs → lv_has ls 7 [(0, .ref (ad 85)), (1, .int p0), (3, .int x3), (4, .int x4)] → W p l e (ac_rm 3) s m [.ref (ad 85), .int p0, .int p1].toArray below meth c H locs 0 0 (MQ below (va_Qi (fun (r : Int32) (u : ac_U) => ac_R rg u ∧ ac_Fr [(85, some 34), (87, none)] u0 u ∧ ((0 : Int) ≤ r.toInt ∧ r.toInt ≤ 100) ∧ msI u ∧ apI u ∧ (cdI u0 → cdI u) ∧ (unI u0 → unI u) ∧ (bfI u0 → bfI u) ∧ (auI u0 → auI u) ∧ (abI u0 → abI u)) (ac_B (dC, dI) vwCl (ac_ty cA) ad cA (TT nF) A) A) [.ref (ad 85), .int p0, .int p1].toArray s 0 0 A) (F0 m 76 ls []) := by
            intro x3 x4 u H locs ls hR hF hK_MS hK_AP hK_i_CW hK_i_UI hK_i_BI hK_i_AU hK_i_AB f0 f1 f2 f3 f4 hP hD hS hl
            refine lv_goto (tgt := 174) F.1 F.2.1 dX12_draws_76 (by decide) ?_
            have g23 : (0 : Int) ≤ (u.1 87 106).toInt ∧ (u.1 87 106).toInt ≤ 480 := hR 87 106
            have g24 : (4 : Int) ≤ (u.1 87 0).toInt ∧ (u.1 87 0).toInt ≤ 24 := hR 87 0
            exact L174 x3 x4 _ _ _ _ hR hF hK_MS hK_AP hK_i_CW hK_i_UI hK_i_BI hK_i_AU hK_i_AB (by omega) (by omega) (by omega : (u.1 87 106).toInt ≠ 20 * (u.1 87 0).toInt) (by omega) (by omega) hP hD hS (lv_sub hl [0, 1, 2, 3] rfl)
          refine lv_iload F.1 F.2.1 dX12_draws_22 (lv_at hl 3 rfl) ?_
          refine lv_aload_n F.1 F.2.1 dX12_draws_24 rfl (lv_at hl 0 rfl) ?_
          refine a_getr F inX12 hP 85 6 tc_85 rfl rfl (by decide) q1477 (fun _ h9 => h9) dX12_draws_25 ?_
          refine a_ic F (4 : Int32) dX12_draws_28 (by decide) ?_
          have g25 : (0 : Int) ≤ (u.1 87 4).toInt ∧ (u.1 87 4).toInt ≤ 4 := hR 87 4
          refine a_ialdK F hP 87 4 tc_87 rfl rfl (i_in ic_4 (by omega)) (v := (u.1 87 4)) rfl dX12_draws_29 ?_
          refine b_ge F 180 dX12_draws_30 (by decide) rfl rfl (fun c26 => ?_) (fun c26 => ?_)
          · refine lv_aload_n F.1 F.2.1 dX12_draws_180 rfl (lv_at hl 0 rfl) ?_
            have hO27 : (u.1 87 106).toInt ≤ 20 * (u.1 87 0).toInt := hK_MS.1
            have hQ27 : 4 ≤ (u.1 87 0).toInt ∧ (u.1 87 0).toInt ≤ 24 := hR 87 0
            have hW27 : 0 ≤ (u.1 87 106).toInt ∧ (u.1 87 106).toInt ≤ 480 := hR 87 106
            have g28 : (0 : Int) ≤ (u.1 87 106).toInt ∧ (u.1 87 106).toInt ≤ 480 := hR 87 106
            have g29 : (4 : Int) ≤ (u.1 87 0).toInt ∧ (u.1 87 0).toInt ≤ 24 := hR 87 0
            refine a_Vv F hml hl.1 hA hP hD hS (As := []) (c_X12_hour_85__3 l dC dI ad cA nF _  hR (by omega : (0 : Int) ≤ (u.1 87 106).toInt ∧ (u.1 87 106).toInt ≤ 479) (by omega : (u.1 87 106).toInt < 20 * (u.1 87 0).toInt) hK_MS) (cs_RX12_292 (d := 1) F.2.2.1 (by decide)) tc_85 rfl rfl rfl rfl (Nat.le_of_ble_eq_true rfl) dX12_draws_181 ⟨Nat.le_refl 0, Nat.le_refl 0⟩ (fun u30 H locs hq hP hD hS => ?_)
            obtain ⟨hR, hF30, xr30, hK_MS, hJ30_CW, hJ30_UI, hJ30_BI, hJ30_AP, hJ30_AU, hJ30_AB, hJ30_BG⟩ := hq
            have hF := hF.tr hF30 (by decide)
            have hK_AP := hJ30_AP hK_AP
            have hK_i_CW : (fun u => cdI u0 → cdI u) u30 := fun h => hJ30_CW (hK_i_CW h)
            have hK_i_UI : (fun u => unI u0 → unI u) u30 := fun h => hJ30_UI (hK_i_UI h)
            have hK_i_BI : (fun u => bfI u0 → bfI u) u30 := fun h => hJ30_BI (hK_i_BI h)
            have hK_i_AU : (fun u => auI u0 → auI u) u30 := fun h => hJ30_AU (hK_i_AU h)
            have hK_i_AB : (fun u => abI u0 → abI u) u30 := fun h => hJ30_AB (hK_i_AB h)
            have g31 : (0 : Int) ≤ (u30.1 87 106).toInt ∧ (u30.1 87 106).toInt ≤ 480 := hR 87 106
            have g32 : (4 : Int) ≤ (u30.1 87 0).toInt ∧ (u30.1 87 0).toInt ≤ 24 := hR 87 0
            have xr30 : (u30.1 87 106).toInt = (u.1 87 106).toInt + 1 ∧ (u30.1 87 0).toInt = (u.1 87 0).toInt := xr30
            refine a_iinc F (k := 2) (fun v33 => [(3, .int v33), (0, .ref (ad 85)), (1, .int p0), (4, .int x4)]) dX12_draws_184 hl rfl rfl (by decide) (by omega) (by decide) (fun _ => rfl) (fun v33 ls hv33 hl => ?_)
            refine lv_goto (tgt := 7) F.1 F.2.1 dX12_draws_187 (by decide) ?_
            exact ih7 v33 _ _ _ _ hR hF (by omega) hK_MS hK_AP hK_i_CW hK_i_UI hK_i_BI hK_i_AU hK_i_AB (by omega) hP hD hS (lv_sub hl [1, 2, 0] rfl)
          · refine lv_aload_n F.1 F.2.1 dX12_draws_33 rfl (lv_at hl 0 rfl) ?_
            refine a_ic F (3 : Int32) dX12_draws_34 (by decide) ?_
            have g35 : (0 : Int) ≤ (u.1 87 106).toInt ∧ (u.1 87 106).toInt ≤ 480 := hR 87 106
            have g36 : (4 : Int) ≤ (u.1 87 0).toInt ∧ (u.1 87 0).toInt ≤ 24 := hR 87 0
            refine a_Vi F hml hl.1 hA hP hD hS (As := [.int (3 : Int32)]) (c_X12_draw_85__2 l dC dI ad cA nF _ (3 : Int32) hR (by decide)) (cs_RX12_386 (d := 1) F.2.2.1 (by decide)) tc_85 rfl rfl rfl rfl (Nat.le_of_ble_eq_true rfl) dX12_draws_35 ⟨Nat.le_refl 0, Nat.le_refl 0⟩ (fun r34 u34 H locs hq hP hD hS => ?_)
            obtain ⟨hR, hF34, gr34, xr34⟩ := hq
            have hF := hF.tr hF34 (by decide)
            have hK_MS := sp_fr sp_MS hF34 (by decide) hK_MS
            have hK_AP := sp_fr sp_AP hF34 (by decide) hK_AP
            have hK_i_CW := sp_fr (sp_imp sp_CW) hF34 (by decide) hK_i_CW
            have hK_i_UI := sp_fr (sp_imp sp_UI) hF34 (by decide) hK_i_UI
            have hK_i_BI := sp_fr (sp_imp sp_BI) hF34 (by decide) hK_i_BI
            have hK_i_AU := sp_fr (sp_imp sp_AU) hF34 (by decide) hK_i_AU
            have hK_i_AB := sp_fr (sp_imp sp_AB) hF34 (by decide) hK_i_AB
            have xr34 : r34.toInt < (3 : Int) := xr34
            refine lv_istore (lv' := [(5, .int r34), (0, .ref (ad 85)), (1, .int p0), (3, .int x3), (4, .int x4)]) F.1 F.2.1 dX12_draws_38 hl (by decide) rfl (fun ls hl => ?_)
            refine lv_iload F.1 F.2.1 dX12_draws_40 (lv_at hl 0 rfl) ?_
            refine z_ne F 79 dX12_draws_42 (by decide) rfl (fun c37 => ?_) (fun c37 => ?_)
            · refine lv_iload F.1 F.2.1 dX12_draws_79 (lv_at hl 0 rfl) ?_
              refine a_ic F (1 : Int32) dX12_draws_81 (by decide) ?_
              refine b_ne F 126 dX12_draws_82 (by decide) rfl ic_1 (fun c38 => ?_) (fun c38 => ?_)
              · exact L126 x3 x4 r34 _ _ _ _ hR hF hK_MS hK_AP hK_i_CW hK_i_UI hK_i_BI hK_i_AU hK_i_AB (by omega) (by omega) (by omega) (i_trB (hF34 87 4 rfl) (by omega : (1 : Int) ≤ (u.1 87 4).toInt ∧ (u.1 87 4).toInt ≤ 4)) (by rw [hF34 87 106 rfl, hF34 87 0 rfl]; exact (by omega : (u.1 87 106).toInt ≠ 20 * (u.1 87 0).toInt)) (by omega) (by omega) hP hD hS (lv_sub hl [1, 2, 3, 4, 0] rfl)
              · refine lv_aload_n F.1 F.2.1 dX12_draws_85 rfl (lv_at hl 1 rfl) ?_
                refine a_getr F inX12 hP 85 6 tc_85 rfl rfl (by decide) q1477 (fun _ h9 => h9) dX12_draws_86 ?_
                refine a_ic F (5 : Int32) dX12_draws_89 (by decide) ?_
                have g39 : (0 : Int) ≤ (u34.1 87 5).toInt ∧ (u34.1 87 5).toInt ≤ 6 := hR 87 5
                refine a_ialdK F hP 87 5 tc_87 rfl rfl (i_in ic_5 (by omega)) (v := (u34.1 87 5)) rfl dX12_draws_90 ?_
                refine z_le F 126 dX12_draws_91 (by decide) rfl (fun c40 => ?_) (fun c40 => ?_)
                · exact L126 x3 x4 r34 _ _ _ _ hR hF hK_MS hK_AP hK_i_CW hK_i_UI hK_i_BI hK_i_AU hK_i_AB (by omega) (by omega) (by omega) (i_trB (hF34 87 4 rfl) (by omega : (1 : Int) ≤ (u.1 87 4).toInt ∧ (u.1 87 4).toInt ≤ 4)) (by rw [hF34 87 106 rfl, hF34 87 0 rfl]; exact (by omega : (u.1 87 106).toInt ≠ 20 * (u.1 87 0).toInt)) (by omega) (by omega) hP hD hS (lv_sub hl [1, 2, 3, 4, 0] rfl)
                · refine lv_aload_n F.1 F.2.1 dX12_draws_94 rfl (lv_at hl 1 rfl) ?_
                  refine lv_aload_n F.1 F.2.1 dX12_draws_95 rfl (lv_at hl 1 rfl) ?_
                  refine a_getr F inX12 hP 85 6 tc_85 rfl rfl (by decide) q1477 (fun _ h9 => h9) dX12_draws_96 ?_
                  refine a_ic F (5 : Int32) dX12_draws_99 (by decide) ?_
                  refine a_ialdK F hP 87 5 tc_87 rfl rfl (i_in ic_5 (by omega)) (v := (u34.1 87 5)) (rfl) dX12_draws_100 ?_
                  refine a_Vi F hml hl.1 hA hP hD hS (As := [.int (u34.1 87 5)]) (c_X12_draw_85__2 l dC dI ad cA nF _ (u34.1 87 5) hR (by omega)) (cs_RX12_386 (d := 1) F.2.2.1 (by decide)) tc_85 rfl rfl rfl rfl (Nat.le_of_ble_eq_true rfl) dX12_draws_101 ⟨Nat.le_refl 0, Nat.le_refl 0⟩ (fun r41 u41 H locs hq hP hD hS => ?_)
                  obtain ⟨hR, hF41, gr41, xr41⟩ := hq
                  have hF := hF.tr hF41 (by decide)
                  have hK_MS := sp_fr sp_MS hF41 (by decide) hK_MS
                  have hK_AP := sp_fr sp_AP hF41 (by decide) hK_AP
                  have hK_i_CW := sp_fr (sp_imp sp_CW) hF41 (by decide) hK_i_CW
                  have hK_i_UI := sp_fr (sp_imp sp_UI) hF41 (by decide) hK_i_UI
                  have hK_i_BI := sp_fr (sp_imp sp_BI) hF41 (by decide) hK_i_BI
                  have hK_i_AU := sp_fr (sp_imp sp_AU) hF41 (by decide) hK_i_AU
                  have hK_i_AB := sp_fr (sp_imp sp_AB) hF41 (by decide) hK_i_AB
                  have xr41 : r41.toInt < (u34.1 87 5).toInt := xr41
                  refine lv_istore (lv' := [(6, .int r41), (5, .int r34), (0, .ref (ad 85)), (1, .int p0), (3, .int x3), (4, .int x4)]) F.1 F.2.1 dX12_draws_104 hl (by decide) rfl (fun ls hl => ?_)
                  refine lv_aload_n F.1 F.2.1 dX12_draws_106 rfl (lv_at hl 2 rfl) ?_
                  refine lv_iload F.1 F.2.1 dX12_draws_107 (lv_at hl 5 rfl) ?_
                  refine a_Vi F hml hl.1 hA hP hD hS (As := [.int x4]) (c_X12_whyAct_85 l dC dI ad cA nF _ x4 hR (by omega)) (cs_RX12_279 (d := 2) F.2.2.1 (by decide)) tc_85 rfl rfl rfl rfl (Nat.le_of_ble_eq_true rfl) dX12_draws_109 ⟨Nat.le_refl 0, Nat.le_refl 0⟩ (fun r42 uN42 H locs hq hP hD hS => ?_)
                  obtain ⟨hu42, gr42, xr42⟩ := hq
                  rw [hu42] at hP hD
                  have g43 : (0 : Int) ≤ (u41.1 87 123).toInt ∧ (u41.1 87 123).toInt ≤ 80 := hR 87 123
                  have xr42 : r42.toInt = 0 → (u41.1 87 123).toInt ≤ 79 := xr42
                  refine z_ne F 123 dX12_draws_112 (by decide) rfl (fun c44 => ?_) (fun c44 => ?_)
                  · exact L123 x3 x4 _ _ _ _ hR hF hK_MS hK_AP hK_i_CW hK_i_UI hK_i_BI hK_i_AU hK_i_AB (by omega) (by omega) (by rw [(hF41 87 106 rfl).trans (hF34 87 106 rfl), (hF41 87 0 rfl).trans (hF34 87 0 rfl)]; exact (by omega : (u.1 87 106).toInt ≠ 20 * (u.1 87 0).toInt)) (by omega) (by omega) hP hD hS (lv_sub hl [2, 3, 4, 5] rfl)
                  · refine lv_aload_n F.1 F.2.1 dX12_draws_115 rfl (lv_at hl 2 rfl) ?_
                    refine lv_iload F.1 F.2.1 dX12_draws_116 (lv_at hl 5 rfl) ?_
                    refine lv_iload F.1 F.2.1 dX12_draws_118 (lv_at hl 0 rfl) ?_
                    have k46 : (u41.1 87 106).toInt = (u.1 87 106).toInt := congrArg Int32.toInt (show u41.1 87 106 = (u.1 87 106) from (hF41 87 106 rfl).trans (hF34 87 106 rfl))
                    have k47 : (u41.1 87 0).toInt = (u.1 87 0).toInt := congrArg Int32.toInt (show u41.1 87 0 = (u.1 87 0) from (hF41 87 0 rfl).trans (hF34 87 0 rfl))
                    refine a_Vv F hml hl.1 hA hP hD hS (As := [.int x4, .int r41]) (c_X12_does_85__3 l dC dI ad cA nF _ x4 r41 hR (by omega) (by omega : (0 : Int) ≤ (u41.1 87 123).toInt ∧ (u41.1 87 123).toInt ≤ 79)) (cs_RX12_283 (d := 1) F.2.2.1 (by decide)) tc_85 rfl rfl rfl rfl (Nat.le_of_ble_eq_true rfl) dX12_draws_120 ⟨Nat.le_refl 0, Nat.le_refl 0⟩ (fun u45 H locs hq hP hD hS => ?_)
                    obtain ⟨hR, hF45, xr45, hJ45_MS, hJ45_CW, hJ45_UI, hJ45_BI, hJ45_AP, hJ45_AU, hJ45_AB, hJ45_BG⟩ := hq
                    have hF := hF.tr hF45 (by decide)
                    have hK_MS := hJ45_MS hK_MS
                    have hK_AP := hJ45_AP hK_AP
                    have hK_i_CW : (fun u => cdI u0 → cdI u) u45 := fun h => hJ45_CW (hK_i_CW h)
                    have hK_i_UI : (fun u => unI u0 → unI u) u45 := fun h => hJ45_UI (hK_i_UI h)
                    have hK_i_BI : (fun u => bfI u0 → bfI u) u45 := fun h => hJ45_BI (hK_i_BI h)
                    have hK_i_AU : (fun u => auI u0 → auI u) u45 := fun h => hJ45_AU (hK_i_AU h)
                    have hK_i_AB : (fun u => abI u0 → abI u) u45 := fun h => hJ45_AB (hK_i_AB h)
                    have g48 : (0 : Int) ≤ (u45.1 87 106).toInt ∧ (u45.1 87 106).toInt ≤ 480 := hR 87 106
                    have g49 : (4 : Int) ≤ (u45.1 87 0).toInt ∧ (u45.1 87 0).toInt ≤ 24 := hR 87 0
                    have xr45 : (u45.1 87 106).toInt = (u41.1 87 106).toInt ∧ (u45.1 87 0).toInt = (u41.1 87 0).toInt := xr45
                    exact L123 x3 x4 _ _ _ _ hR hF hK_MS hK_AP hK_i_CW hK_i_UI hK_i_BI hK_i_AU hK_i_AB (by omega) (by omega) (by omega : (u45.1 87 106).toInt ≠ 20 * (u45.1 87 0).toInt) (by omega) (by omega) hP hD hS (lv_sub hl [2, 3, 4, 5] rfl)
            · refine lv_aload_n F.1 F.2.1 dX12_draws_45 rfl (lv_at hl 1 rfl) ?_
              refine lv_aload_n F.1 F.2.1 dX12_draws_46 rfl (lv_at hl 1 rfl) ?_
              refine a_getr F inX12 hP 85 6 tc_85 rfl rfl (by decide) q1477 (fun _ h9 => h9) dX12_draws_47 ?_
              refine a_ic F (1 : Int32) dX12_draws_50 (by decide) ?_
              have g50 : (0 : Int) ≤ (u34.1 87 1).toInt ∧ (u34.1 87 1).toInt ≤ 8 := hR 87 1
              refine a_ialdK F hP 87 1 tc_87 rfl rfl (i_in ic_1 (by omega)) (v := (u34.1 87 1)) rfl dX12_draws_51 ?_
              have k52 : (u34.1 87 4).toInt = (u.1 87 4).toInt := congrArg Int32.toInt (show u34.1 87 4 = (u.1 87 4) from hF34 87 4 rfl)
              have hO51 : 0 < (u34.1 87 4).toInt → 0 < (u34.1 87 1).toInt := hK_MS.2
              refine a_Vi F hml hl.1 hA hP hD hS (As := [.int (u34.1 87 1)]) (c_X12_draw_85__2 l dC dI ad cA nF _ (u34.1 87 1) hR (by omega)) (cs_RX12_386 (d := 1) F.2.2.1 (by decide)) tc_85 rfl rfl rfl rfl (Nat.le_of_ble_eq_true rfl) dX12_draws_52 ⟨Nat.le_refl 0, Nat.le_refl 0⟩ (fun r53 u53 H locs hq hP hD hS => ?_)
              obtain ⟨hR, hF53, gr53, xr53⟩ := hq
              have hF := hF.tr hF53 (by decide)
              have hK_MS := sp_fr sp_MS hF53 (by decide) hK_MS
              have hK_AP := sp_fr sp_AP hF53 (by decide) hK_AP
              have hK_i_CW := sp_fr (sp_imp sp_CW) hF53 (by decide) hK_i_CW
              have hK_i_UI := sp_fr (sp_imp sp_UI) hF53 (by decide) hK_i_UI
              have hK_i_BI := sp_fr (sp_imp sp_BI) hF53 (by decide) hK_i_BI
              have hK_i_AU := sp_fr (sp_imp sp_AU) hF53 (by decide) hK_i_AU
              have hK_i_AB := sp_fr (sp_imp sp_AB) hF53 (by decide) hK_i_AB
              have xr53 : r53.toInt < (u34.1 87 1).toInt := xr53
              refine lv_istore (lv' := [(6, .int r53), (5, .int r34), (0, .ref (ad 85)), (1, .int p0), (3, .int x3), (4, .int x4)]) F.1 F.2.1 dX12_draws_55 hl (by decide) rfl (fun ls hl => ?_)
              refine lv_aload_n F.1 F.2.1 dX12_draws_57 rfl (lv_at hl 2 rfl) ?_
              refine lv_iload F.1 F.2.1 dX12_draws_58 (lv_at hl 5 rfl) ?_
              refine lv_iload F.1 F.2.1 dX12_draws_60 (lv_at hl 0 rfl) ?_
              refine a_Vi F hml hl.1 hA hP hD hS (As := [.int x4, .int r53]) (c_X12_whyGoOf_85 l dC dI ad cA nF _ x4 r53 hR (by omega) (by omega)) (cs_RX12_266 (d := 2) F.2.2.1 (by decide)) tc_85 rfl rfl rfl rfl (Nat.le_of_ble_eq_true rfl) dX12_draws_62 ⟨Nat.le_refl 0, Nat.le_refl 0⟩ (fun r54 uN54 H locs hq hP hD hS => ?_)
              obtain ⟨hu54, gr54⟩ := hq
              rw [hu54] at hP hD
              refine z_ne F 76 dX12_draws_65 (by decide) rfl (fun c55 => ?_) (fun c55 => ?_)
              · exact L76 x3 x4 _ _ _ _ hR hF hK_MS hK_AP hK_i_CW hK_i_UI hK_i_BI hK_i_AU hK_i_AB (by omega) (by omega) (by rw [(hF53 87 106 rfl).trans (hF34 87 106 rfl), (hF53 87 0 rfl).trans (hF34 87 0 rfl)]; exact (by omega : (u.1 87 106).toInt ≠ 20 * (u.1 87 0).toInt)) (by omega) (by omega) hP hD hS (lv_sub hl [2, 3, 4, 5] rfl)
              · refine lv_aload_n F.1 F.2.1 dX12_draws_68 rfl (lv_at hl 2 rfl) ?_
                refine lv_iload F.1 F.2.1 dX12_draws_69 (lv_at hl 5 rfl) ?_
                refine lv_iload F.1 F.2.1 dX12_draws_71 (lv_at hl 0 rfl) ?_
                have k57 : (u53.1 87 106).toInt = (u.1 87 106).toInt := congrArg Int32.toInt (show u53.1 87 106 = (u.1 87 106) from (hF53 87 106 rfl).trans (hF34 87 106 rfl))
                have k58 : (u53.1 87 0).toInt = (u.1 87 0).toInt := congrArg Int32.toInt (show u53.1 87 0 = (u.1 87 0) from (hF53 87 0 rfl).trans (hF34 87 0 rfl))
                refine a_Vv F hml hl.1 hA hP hD hS (As := [.int x4, .int r53]) (c_X12_goes_85__3 l dC dI ad cA nF _ x4 r53 hR (by omega) (by omega) (by rw [hF53 87 1 rfl]; exact (by omega : r53.toInt < (u34.1 87 1).toInt)) hK_AP) (cs_RX12_272 (d := 1) F.2.2.1 (by decide)) tc_85 rfl rfl rfl rfl (Nat.le_of_ble_eq_true rfl) dX12_draws_73 ⟨Nat.le_refl 0, Nat.le_refl 0⟩ (fun u56 H locs hq hP hD hS => ?_)
                obtain ⟨hR, hF56, xr56, hK_AP, hJ56_MS, hJ56_CW, hJ56_UI, hJ56_BI, hJ56_AU, hJ56_AB, hJ56_BG⟩ := hq
                have hF := hF.tr hF56 (by decide)
                have hK_MS := hJ56_MS hK_MS
                have hK_i_CW : (fun u => cdI u0 → cdI u) u56 := fun h => hJ56_CW (hK_i_CW h)
                have hK_i_UI : (fun u => unI u0 → unI u) u56 := fun h => hJ56_UI (hK_i_UI h)
                have hK_i_BI : (fun u => bfI u0 → bfI u) u56 := fun h => hJ56_BI (hK_i_BI h)
                have hK_i_AU : (fun u => auI u0 → auI u) u56 := fun h => hJ56_AU (hK_i_AU h)
                have hK_i_AB : (fun u => abI u0 → abI u) u56 := fun h => hJ56_AB (hK_i_AB h)
                have g59 : (0 : Int) ≤ (u56.1 87 106).toInt ∧ (u56.1 87 106).toInt ≤ 480 := hR 87 106
                have g60 : (4 : Int) ≤ (u56.1 87 0).toInt ∧ (u56.1 87 0).toInt ≤ 24 := hR 87 0
                have xr56 : (u56.1 87 106).toInt = (u53.1 87 106).toInt ∧ (u56.1 87 0).toInt = (u53.1 87 0).toInt := xr56
                exact L76 x3 x4 _ _ _ _ hR hF hK_MS hK_AP hK_i_CW hK_i_UI hK_i_BI hK_i_AU hK_i_AB (by omega) (by omega) (by omega : (u56.1 87 106).toInt ≠ 20 * (u56.1 87 0).toInt) (by omega) (by omega) hP hD hS (lv_sub hl [2, 3, 4, 5] rfl)
      refine lv_iload_n F.1 F.2.1 dX12_draws_7 rfl (lv_at hl 2 rfl) ?_
      refine lv_iload_n F.1 F.2.1 dX12_draws_8 rfl (lv_at hl 1 rfl) ?_
      refine b_ge F 190 dX12_draws_9 (by decide) rfl rfl (fun c61 => ?_) (fun c61 => ?_)
      · exact L190 x3 _ _ _ _ hR hF hK_MS hK_AP hK_i_CW hK_i_UI hK_i_BI hK_i_AU hK_i_AB (by omega) hP hD hS (lv_sub hl [2] rfl)
      · refine lv_aload_n F.1 F.2.1 dX12_draws_12 rfl (lv_at hl 0 rfl) ?_
        refine a_Vi F hml hl.1 hA hP hD hS (As := []) (c_X12_isOver_85 l dC dI ad cA nF _  hR) (cs_RX12_263 (d := 1) F.2.2.1 (by decide)) tc_85 rfl rfl rfl rfl (Nat.le_of_ble_eq_true rfl) dX12_draws_13 ⟨Nat.le_refl 0, Nat.le_refl 0⟩ (fun r62 uN62 H locs hq hP hD hS => ?_)
        obtain ⟨hu62, gr62, xr62⟩ := hq
        rw [hu62] at hP hD
        have g63 : (0 : Int) ≤ (u.1 87 106).toInt ∧ (u.1 87 106).toInt ≤ 480 := hR 87 106
        have g64 : (4 : Int) ≤ (u.1 87 0).toInt ∧ (u.1 87 0).toInt ≤ 24 := hR 87 0
        have xr62 : r62.toInt = 0 → (u.1 87 106).toInt ≠ 20 * (u.1 87 0).toInt := xr62
        refine z_ne F 190 dX12_draws_16 (by decide) rfl (fun c65 => ?_) (fun c65 => ?_)
        · exact L190 x3 _ _ _ _ hR hF hK_MS hK_AP hK_i_CW hK_i_UI hK_i_BI hK_i_AU hK_i_AB (by omega) hP hD hS (lv_sub hl [2] rfl)
        · refine a_ic F (0 : Int32) dX12_draws_19 (by decide) ?_
          refine lv_istore (lv' := [(4, .int (0 : Int32)), (0, .ref (ad 85)), (1, .int p0), (3, .int x3)]) F.1 F.2.1 dX12_draws_20 hl (by decide) rfl (fun ls hl => ?_)
          exact L22 6 x3 (0 : Int32) _ _ _ _ hR hF (by decide) hK_MS hK_AP hK_i_CW hK_i_UI hK_i_BI hK_i_AU hK_i_AB (by omega) (by decide) (by omega : (u.1 87 106).toInt ≠ 20 * (u.1 87 0).toInt) (by omega) hP hD hS (lv_sub hl [1, 2, 3, 0] rfl)
  refine lv_aload_n F.1 F.2.1 dX12_draws_0 rfl (lv_at hl 0 rfl) ?_
  refine lv_iload_n F.1 F.2.1 dX12_draws_1 rfl (lv_at hl 2 rfl) ?_
  refine a_puti F inX12 tyX12 tyX12_ok nmX12 hP hD hS 85 34 tc_85 rfl rfl (by decide) q1505 (fun _ h9 => h9) rfl (ty := .int) (tyX12_ok 34 (by decide)) rfl rfl dX12_draws_2 (fun H locs hP hD hS => ?_)
  have hR := hR.si (c := 85) (k := 34) (v := p1) ⟨i_lo _, i_hi _⟩
  have hF := hF.si (c := 85) (k := 34) (v := p1) rfl
  have hK_MS := sp_sgD sp_MS hD hK_MS (by decide)
  have hK_AP := sp_sgD sp_AP hD hK_AP (by decide)
  have hK_i_CW := sp_sgD (sp_imp sp_CW) hD hK_i_CW (by decide)
  have hK_i_UI := sp_si (sp_imp sp_UI) hK_i_UI (c := 85) (k := 34) (v := p1) (fun j9 h9 q9 => by rw [q9] at h9; exact absurd h9 (by decide))
  have hK_i_BI := sp_sgD (sp_imp sp_BI) hD hK_i_BI (by decide)
  have hK_i_AU := sp_si (sp_imp sp_AU) hK_i_AU (c := 85) (k := 34) (v := p1) (fun j9 h9 q9 => by rw [q9] at h9; exact absurd h9 (by decide))
  have hK_i_AB := sp_sgD (sp_imp sp_AB) hD hK_i_AB (by decide)
  refine a_ic F (0 : Int32) dX12_draws_5 (by decide) ?_
  refine lv_istore_n (lv' := [(3, .int (0 : Int32)), (0, .ref (ad 85)), (1, .int p0), (2, .int p1)]) F.1 F.2.1 dX12_draws_6 rfl hl (by decide) rfl (fun ls hl => ?_)
  exact L7 102 (0 : Int32) _ _ _ _ hR hF (by decide) hK_MS hK_AP hK_i_CW hK_i_UI hK_i_BI hK_i_AU hK_i_AB (by decide) hP hD hS (lv_sub hl [1, 2, 0] rfl)
set_option maxHeartbeats 600000 in
set_option maxRecDepth 100000 in
theorem c_X12_drawn_85__2 (l : Launch) (dC : Nat → ClassId) (dI : Nat → Nat → Nat) (ad : Nat → Nat) (cA : Nat → ClassId) (nF : Nat) (u0 : ac_U) (p0 : Int32) (p1 : Int32) (hR : ac_R rg u0) (hK_MS : msI u0) (hK_UI : unI u0) (hK_CW : cdI u0) (hK_AP : apI u0) (hK_AU : auI u0) : ac_Mi l yX12_drawn (.code yX12_drawn cX12_drawn 3 (some .int) :: TB) 4 (dC, dI) vwCl (ac_ty cA) ad cA (TT nF) [.ref (ad 85), .int p0, .int p1] u0 (fun (r : Int32) (u : ac_U) => ac_R rg u ∧ ac_Fr [(85, some 0), (85, some 24), (85, some 34), (87, none), (93, none)] u0 u ∧ ((-1 : Int) ≤ r.toInt ∧ r.toInt ≤ 100) ∧ msI u ∧ unI u ∧ cdI u ∧ apI u ∧ auI u) := by
  refine ac_Mi.of (cc := cX12_drawn) (maxL := 3) (ret := (some .int)) (by decide) rfl (Nat.le_of_ble_eq_true rfl) ?_
  intro p e s m below meth c A ls F hml hr hlocks hA hP hD hS hl
  have F : ac_X p s m [.ref (ad 85), .int p0, .int p1].toArray c cX12_drawn RX12 TB (dC, dI) vwCl (ac_ty cA) := ⟨F.1, F.2.1, fun w h => F.2.2.1 w (List.mem_cons_of_mem _ h), F.2.2.2.1, F.2.2.2.2⟩
  have hl : lv_has ls 3 [(0, .ref (ad 85)), (1, .int p0), (2, .int p1)] := hl
  have hF : ac_Fr [(85, some 0), (85, some 24), (85, some 34), (87, none), (93, none)] u0 u0 := ac_Fr.rf
  have L24 : ∀ (u : ac_U) (H : Heap) (locs : List Loc) (ls : Array Slot), ac_R rg u → ac_Fr [(85, some 0), (85, some 24), (85, some 34), (87, none), (93, none)] u0 u → msI u → unI u → cdI u → apI u → auI u → (0 : Int) ≤ (u.1 85 0).toInt ∧ (u.1 85 0).toInt ≤ 0 → va_P (dC, dI) vwCl (ac_w ad cA (TT nF) u) H → va_D A (ac_w ad cA (TT nF) u) → va_S A s.heap H locs → lv_has ls 3 [] → W p l e (ac_rm 4) s m [.ref (ad 85), .int p0, .int p1].toArray below meth c H locs 0 0 (MQ below (va_Qi (fun (r : Int32) (u : ac_U) => ac_R rg u ∧ ac_Fr [(85, some 0), (85, some 24), (85, some 34), (87, none), (93, none)] u0 u ∧ ((-1 : Int) ≤ r.toInt ∧ r.toInt ≤ 100) ∧ msI u ∧ unI u ∧ cdI u ∧ apI u ∧ auI u) (ac_B (dC, dI) vwCl (ac_ty cA) ad cA (TT nF) A) A) [.ref (ad 85), .int p0, .int p1].toArray s 0 0 A) (F0 m 24 ls []) := by
    intro u H locs ls hR hF hK_MS hK_UI hK_CW hK_AP hK_AU f0 hP hD hS hl
    refine a_ic F (-1 : Int32) dX12_drawn_24 (by decide) ?_
    exact a_reti F hr hlocks hP hD hS dX12_drawn_25 ⟨hR, hF, (by decide), hK_MS, hK_UI, hK_CW, hK_AP, hK_AU⟩
  refine lv_aload_n F.1 F.2.1 dX12_drawn_0 rfl (lv_at hl 0 rfl) ?_
  refine a_ic F (0 : Int32) dX12_drawn_1 (by decide) ?_
  refine a_puti F inX12 tyX12 tyX12_ok nmX12 hP hD hS 85 0 tc_85 rfl rfl (by decide) q1471 (fun _ h9 => h9) rfl (ty := .int) (tyX12_ok 0 (by decide)) rfl rfl dX12_drawn_2 (fun H locs hP hD hS => ?_)
  have hR := hR.si (c := 85) (k := 0) (v := (0 : Int32)) (by rw [ic_0]; exact (by omega : (0 : Int) ≤ (0 : Int) ∧ (0 : Int) ≤ 1))
  have hF := hF.si (c := 85) (k := 0) (v := (0 : Int32)) rfl
  have hK_MS := sp_sgD sp_MS hD hK_MS (by decide)
  have hK_UI := sp_si sp_UI hK_UI (c := 85) (k := 0) (v := (0 : Int32)) (fun j9 h9 q9 => by rw [q9] at h9; exact absurd h9 (by decide))
  have hK_CW := sp_sgD sp_CW hD hK_CW (by decide)
  have hK_AP := sp_sgD sp_AP hD hK_AP (by decide)
  have hK_AU := sp_si sp_AU hK_AU (c := 85) (k := 0) (v := (0 : Int32)) (fun j9 h9 q9 => by rw [q9] at h9; exact absurd h9 (by decide))
  refine lv_iload_n F.1 F.2.1 dX12_drawn_5 rfl (lv_at hl 1 rfl) ?_
  refine a_ic F (1 : Int32) dX12_drawn_6 (by decide) ?_
  refine a_bp F (99 : Int32) dX12_drawn_7 (by decide) ?_
  refine a_Si F hml hl.1 hA hP hD hS (As := [.int p0, .int (1 : Int32), .int (99 : Int32)]) (c_X12_isIn l dC dI ad cA nF _ p0 (1 : Int32) (99 : Int32) hR (by decide)) (cs_RX12_187 (d := 1) F.2.2.1 (by decide)) rfl rfl (Nat.le_of_ble_eq_true rfl) dX12_drawn_9 ⟨Nat.le_refl 0, Nat.le_refl 0⟩ (fun r1 uN1 H locs hq hP hD hS => ?_)
  obtain ⟨hu1, gr1, xr1⟩ := hq
  rw [hu1] at hP hD
  have xr1 : r1.toInt ≠ 0 → (1 : Int) ≤ p0.toInt ∧ p0.toInt ≤ (99 : Int) := xr1
  refine z_eq F 24 dX12_drawn_12 (by decide) rfl (fun c2 => ?_) (fun c2 => ?_)
  · exact L24 _ _ _ _ hR hF hK_MS hK_UI hK_CW hK_AP hK_AU (by omega : (0 : Int) ≤ (0 : Int) ∧ (0 : Int) ≤ 0) hP hD hS (lv_sub hl [] rfl)
  · refine lv_aload_n F.1 F.2.1 dX12_drawn_15 rfl (lv_at hl 0 rfl) ?_
    refine a_getr F inX12 hP 85 6 tc_85 rfl rfl (by decide) q1477 (fun _ h9 => h9) dX12_drawn_16 ?_
    refine a_ic F (4 : Int32) dX12_drawn_19 (by decide) ?_
    have g3 : (0 : Int) ≤ (u0.1 87 4).toInt ∧ (u0.1 87 4).toInt ≤ 4 := hR 87 4
    refine a_ialdK F hP 87 4 tc_87 rfl rfl (i_in ic_4 (by omega)) (v := (u0.1 87 4)) rfl dX12_drawn_20 ?_
    refine z_ne F 26 dX12_drawn_21 (by decide) rfl (fun c4 => ?_) (fun c4 => ?_)
    · refine lv_aload_n F.1 F.2.1 dX12_drawn_26 rfl (lv_at hl 0 rfl) ?_
      refine a_Vi F hml hl.1 hA hP hD hS (As := []) (c_X12_isOver_85 l dC dI ad cA nF _  hR) (cs_RX12_263 (d := 1) F.2.2.1 (by decide)) tc_85 rfl rfl rfl rfl (Nat.le_of_ble_eq_true rfl) dX12_drawn_27 ⟨Nat.le_refl 0, Nat.le_refl 0⟩ (fun r5 uN5 H locs hq hP hD hS => ?_)
      obtain ⟨hu5, gr5, xr5⟩ := hq
      rw [hu5] at hP hD
      have g6 : (0 : Int) ≤ (u0.1 87 106).toInt ∧ (u0.1 87 106).toInt ≤ 480 := hR 87 106
      have g7 : (4 : Int) ≤ (u0.1 87 0).toInt ∧ (u0.1 87 0).toInt ≤ 24 := hR 87 0
      have xr5 : r5.toInt = 0 → (u0.1 87 106).toInt ≠ 20 * (u0.1 87 0).toInt := xr5
      refine z_eq F 35 dX12_drawn_30 (by decide) rfl (fun c8 => ?_) (fun c8 => ?_)
      · refine lv_aload_n F.1 F.2.1 dX12_drawn_35 rfl (lv_at hl 0 rfl) ?_
        refine a_Vv F hml hl.1 hA hP hD hS (As := []) (c_X12_keep_85__3 l dC dI ad cA nF _  hR hK_MS hK_UI hK_AP hK_AU) (cs_RX12_269 (d := 1) F.2.2.1 (by decide)) tc_85 rfl rfl rfl rfl (Nat.le_of_ble_eq_true rfl) dX12_drawn_36 ⟨Nat.le_refl 0, Nat.le_refl 0⟩ (fun u9 H locs hq hP hD hS => ?_)
        obtain ⟨hR, hF9, xr9, hK_MS, hK_UI, hK_AP, hK_AU⟩ := hq
        have hF := hF.tr hF9 (by decide)
        have hK_CW := sp_fr sp_CW hF9 (by decide) hK_CW
        have g10 : (0 : Int) ≤ (u9.1 85 24).toInt ∧ (u9.1 85 24).toInt ≤ 8 := hR 85 24
        have xr9 : 1 ≤ (u9.1 85 24).toInt := xr9
        refine lv_aload_n F.1 F.2.1 dX12_drawn_39 rfl (lv_at hl 0 rfl) ?_
        refine lv_iload_n F.1 F.2.1 dX12_drawn_40 rfl (lv_at hl 1 rfl) ?_
        refine lv_iload_n F.1 F.2.1 dX12_drawn_41 rfl (lv_at hl 2 rfl) ?_
        refine a_Vi F hml hl.1 hA hP hD hS (As := [.int p0, .int p1]) (c_X12_draws_85__2 l dC dI ad cA nF _ p0 p1 hR (by omega) hK_MS hK_AP) (cs_RX12_389 (d := 3) F.2.2.1 (by decide)) tc_85 rfl rfl rfl rfl (Nat.le_of_ble_eq_true rfl) dX12_drawn_42 ⟨Nat.le_refl 0, Nat.le_refl 0⟩ (fun r11 u11 H locs hq hP hD hS => ?_)
        obtain ⟨hR, hF11, gr11, hK_MS, hK_AP, hJ11_CW, hJ11_UI, hJ11_BI, hJ11_AU, hJ11_AB⟩ := hq
        have hF := hF.tr hF11 (by decide)
        have hK_UI := hJ11_UI hK_UI
        have hK_CW := hJ11_CW hK_CW
        have hK_AU := hJ11_AU hK_AU
        exact a_reti F hr hlocks hP hD hS dX12_drawn_45 ⟨hR, hF, (by omega : (-1 : Int) ≤ r11.toInt ∧ r11.toInt ≤ 100), hK_MS, hK_UI, hK_CW, hK_AP, hK_AU⟩
      · refine a_ic F (0 : Int32) dX12_drawn_33 (by decide) ?_
        exact a_reti F hr hlocks hP hD hS dX12_drawn_34 ⟨hR, hF, (by decide), hK_MS, hK_UI, hK_CW, hK_AP, hK_AU⟩
    · exact L24 _ _ _ _ hR hF hK_MS hK_UI hK_CW hK_AP hK_AU (by omega : (0 : Int) ≤ (0 : Int) ∧ (0 : Int) ≤ 0) hP hD hS (lv_sub hl [] rfl)
set_option maxHeartbeats 600000 in
set_option maxRecDepth 100000 in
theorem c_X12_isPlace_85_f (l : Launch) (dC : Nat → ClassId) (dI : Nat → Nat → Nat) (ad : Nat → Nat) (cA : Nat → ClassId) (nF : Nat) (u0 : ac_U) (p0 : Int32) (hR : ac_R rg u0) : ac_Mi l yX12_isPlace (.code yX12_isPlace cX12_isPlace 2 (some .boolean) :: TB) 2 (dC, dI) vwCl (ac_ty cA) ad cA (TT nF) [.ref (ad 85), .int p0] u0 (fun (r : Int32) (u : ac_U) => u = u0 ∧ ((0 : Int) ≤ r.toInt ∧ r.toInt ≤ 1) ∧ (r.toInt ≠ 0 → 0 ≤ p0.toInt ∧ p0.toInt < (u0.1 87 1).toInt ∧ p0.toInt ≤ 7)) := by
  refine ac_Mi.of (cc := cX12_isPlace) (maxL := 2) (ret := (some .boolean)) (by decide) rfl (Nat.le_of_ble_eq_true rfl) ?_
  intro p e s m below meth c A ls F hml hr hlocks hA hP hD hS hl
  have F : ac_X p s m [.ref (ad 85), .int p0].toArray c cX12_isPlace RX12 TB (dC, dI) vwCl (ac_ty cA) := ⟨F.1, F.2.1, fun w h => F.2.2.1 w (List.mem_cons_of_mem _ h), F.2.2.2.1, F.2.2.2.2⟩
  have hl : lv_has ls 2 [(0, .ref (ad 85)), (1, .int p0)] := hl
  refine lv_iload_n F.1 F.2.1 dX12_isPlace_0 rfl (lv_at hl 1 rfl) ?_
  refine a_ic F (0 : Int32) dX12_isPlace_1 (by decide) ?_
  refine lv_aload_n F.1 F.2.1 dX12_isPlace_2 rfl (lv_at hl 0 rfl) ?_
  refine a_getr F inX12 hP 85 6 tc_85 rfl rfl (by decide) q1477 (fun _ h9 => h9) dX12_isPlace_3 ?_
  refine a_ic F (1 : Int32) dX12_isPlace_6 (by decide) ?_
  have g1 : (0 : Int) ≤ (u0.1 87 1).toInt ∧ (u0.1 87 1).toInt ≤ 8 := hR 87 1
  refine a_ialdK F hP 87 1 tc_87 rfl rfl (i_in ic_1 (by omega)) (v := (u0.1 87 1)) rfl dX12_isPlace_7 ?_
  refine a_ic F (1 : Int32) dX12_isPlace_8 (by decide) ?_
  refine a_isub F dX12_isPlace_9 rfl ic_1 (by omega) (fun v2 hv2 => ?_)
  refine a_Si F hml hl.1 hA hP hD hS (As := [.int p0, .int (0 : Int32), .int v2]) (c_X12_isIn l dC dI ad cA nF _ p0 (0 : Int32) v2 hR (by omega)) (cs_RX12_187 (d := 1) F.2.2.1 (by decide)) rfl rfl (Nat.le_of_ble_eq_true rfl) dX12_isPlace_10 ⟨Nat.le_refl 0, Nat.le_refl 0⟩ (fun r3 uN3 H locs hq hP hD hS => ?_)
  obtain ⟨hu3, gr3, xr3⟩ := hq
  rw [hu3] at hP hD
  have xr3 : r3.toInt ≠ 0 → (0 : Int) ≤ p0.toInt ∧ p0.toInt ≤ v2.toInt := xr3
  exact a_retz F hr hlocks hP hD hS dX12_isPlace_13 (i_01 (by omega)) ⟨rfl, (by omega : (0 : Int) ≤ r3.toInt ∧ r3.toInt ≤ 1), (by omega : r3.toInt ≠ 0 → 0 ≤ p0.toInt ∧ p0.toInt < (u0.1 87 1).toInt ∧ p0.toInt ≤ 7)⟩
set_option maxHeartbeats 600000 in
set_option maxRecDepth 100000 in
theorem c_X12_go_85__3 (l : Launch) (dC : Nat → ClassId) (dI : Nat → Nat → Nat) (ad : Nat → Nat) (cA : Nat → ClassId) (nF : Nat) (u0 : ac_U) (p0 : Int32) (p1 : Int32) (hR : ac_R rg u0) (hK_MS : msI u0) (hK_UI : unI u0) (hK_CW : cdI u0) (hK_AP : apI u0) (hK_AU : auI u0) : ac_Mi l yX12_go (.code yX12_go cX12_go 4 (some .int) :: TB) 3 (dC, dI) vwCl (ac_ty cA) ad cA (TT nF) [.ref (ad 85), .int p0, .int p1] u0 (fun (r : Int32) (u : ac_U) => ac_R rg u ∧ ac_Fr [(85, some 0), (85, some 24), (87, none), (93, none)] u0 u ∧ ((-1 : Int) ≤ r.toInt ∧ r.toInt ≤ 3) ∧ msI u ∧ unI u ∧ cdI u ∧ apI u ∧ auI u) := by
  refine ac_Mi.of (cc := cX12_go) (maxL := 4) (ret := (some .int)) (by decide) rfl (Nat.le_of_ble_eq_true rfl) ?_
  intro p e s m below meth c A ls F hml hr hlocks hA hP hD hS hl
  have F : ac_X p s m [.ref (ad 85), .int p0, .int p1].toArray c cX12_go RX12 TB (dC, dI) vwCl (ac_ty cA) := ⟨F.1, F.2.1, fun w h => F.2.2.1 w (List.mem_cons_of_mem _ h), F.2.2.2.1, F.2.2.2.2⟩
  have hl : lv_has ls 4 [(0, .ref (ad 85)), (1, .int p0), (2, .int p1)] := hl
  have hF : ac_Fr [(85, some 0), (85, some 24), (87, none), (93, none)] u0 u0 := ac_Fr.rf
  have L21 : ∀ (u : ac_U) (H : Heap) (locs : List Loc) (ls : Array Slot), ac_R rg u → ac_Fr [(85, some 0), (85, some 24), (87, none), (93, none)] u0 u → msI u → unI u → cdI u → apI u → auI u → (0 : Int) ≤ (u.1 85 0).toInt ∧ (u.1 85 0).toInt ≤ 0 → va_P (dC, dI) vwCl (ac_w ad cA (TT nF) u) H → va_D A (ac_w ad cA (TT nF) u) → va_S A s.heap H locs → lv_has ls 4 [] → W p l e (ac_rm 3) s m [.ref (ad 85), .int p0, .int p1].toArray below meth c H locs 0 0 (MQ below (va_Qi (fun (r : Int32) (u : ac_U) => ac_R rg u ∧ ac_Fr [(85, some 0), (85, some 24), (87, none), (93, none)] u0 u ∧ ((-1 : Int) ≤ r.toInt ∧ r.toInt ≤ 3) ∧ msI u ∧ unI u ∧ cdI u ∧ apI u ∧ auI u) (ac_B (dC, dI) vwCl (ac_ty cA) ad cA (TT nF) A) A) [.ref (ad 85), .int p0, .int p1].toArray s 0 0 A) (F0 m 21 ls []) := by
    intro u H locs ls hR hF hK_MS hK_UI hK_CW hK_AP hK_AU f0 hP hD hS hl
    refine a_ic F (-1 : Int32) dX12_go_21 (by decide) ?_
    exact a_reti F hr hlocks hP hD hS dX12_go_22 ⟨hR, hF, (by decide), hK_MS, hK_UI, hK_CW, hK_AP, hK_AU⟩
  refine lv_aload_n F.1 F.2.1 dX12_go_0 rfl (lv_at hl 0 rfl) ?_
  refine a_ic F (0 : Int32) dX12_go_1 (by decide) ?_
  refine a_puti F inX12 tyX12 tyX12_ok nmX12 hP hD hS 85 0 tc_85 rfl rfl (by decide) q1471 (fun _ h9 => h9) rfl (ty := .int) (tyX12_ok 0 (by decide)) rfl rfl dX12_go_2 (fun H locs hP hD hS => ?_)
  have hR := hR.si (c := 85) (k := 0) (v := (0 : Int32)) (by rw [ic_0]; exact (by omega : (0 : Int) ≤ (0 : Int) ∧ (0 : Int) ≤ 1))
  have hF := hF.si (c := 85) (k := 0) (v := (0 : Int32)) rfl
  have hK_MS := sp_sgD sp_MS hD hK_MS (by decide)
  have hK_UI := sp_si sp_UI hK_UI (c := 85) (k := 0) (v := (0 : Int32)) (fun j9 h9 q9 => by rw [q9] at h9; exact absurd h9 (by decide))
  have hK_CW := sp_sgD sp_CW hD hK_CW (by decide)
  have hK_AP := sp_sgD sp_AP hD hK_AP (by decide)
  have hK_AU := sp_si sp_AU hK_AU (c := 85) (k := 0) (v := (0 : Int32)) (fun j9 h9 q9 => by rw [q9] at h9; exact absurd h9 (by decide))
  refine lv_aload_n F.1 F.2.1 dX12_go_5 rfl (lv_at hl 0 rfl) ?_
  refine lv_iload_n F.1 F.2.1 dX12_go_6 rfl (lv_at hl 1 rfl) ?_
  refine a_Vi F hml hl.1 hA hP hD hS (As := [.int p0]) (c_X12_isPerson_85 l dC dI ad cA nF _ p0 hR) (cs_RX12_251 (d := 2) F.2.2.1 (by decide)) tc_85 rfl rfl rfl rfl (Nat.le_of_ble_eq_true rfl) dX12_go_7 ⟨Nat.le_refl 0, Nat.le_refl 0⟩ (fun r1 uN1 H locs hq hP hD hS => ?_)
  obtain ⟨hu1, gr1, xr1⟩ := hq
  rw [hu1] at hP hD
  have xr1 : r1.toInt ≠ 0 → 0 ≤ p0.toInt ∧ p0.toInt ≤ 3 := xr1
  refine z_eq F 21 dX12_go_10 (by decide) rfl (fun c2 => ?_) (fun c2 => ?_)
  · exact L21 _ _ _ _ hR hF hK_MS hK_UI hK_CW hK_AP hK_AU (by omega : (0 : Int) ≤ (0 : Int) ∧ (0 : Int) ≤ 0) hP hD hS (lv_sub hl [] rfl)
  · refine lv_aload_n F.1 F.2.1 dX12_go_13 rfl (lv_at hl 0 rfl) ?_
    refine lv_iload_n F.1 F.2.1 dX12_go_14 rfl (lv_at hl 2 rfl) ?_
    refine a_Vi F hml hl.1 hA hP hD hS (As := [.int p1]) (c_X12_isPlace_85_f l dC dI ad cA nF _ p1 hR) (cs_RX12_254 (d := 2) F.2.2.1 (by decide)) tc_85 rfl rfl rfl rfl (Nat.le_of_ble_eq_true rfl) dX12_go_15 ⟨Nat.le_refl 0, Nat.le_refl 0⟩ (fun r3 uN3 H locs hq hP hD hS => ?_)
    obtain ⟨hu3, gr3, xr3⟩ := hq
    rw [hu3] at hP hD
    have g4 : (0 : Int) ≤ (u0.1 87 1).toInt ∧ (u0.1 87 1).toInt ≤ 8 := hR 87 1
    have xr3 : r3.toInt ≠ 0 → 0 ≤ p1.toInt ∧ p1.toInt < (u0.1 87 1).toInt ∧ p1.toInt ≤ 7 := xr3
    refine z_ne F 23 dX12_go_18 (by decide) rfl (fun c5 => ?_) (fun c5 => ?_)
    · refine lv_aload_n F.1 F.2.1 dX12_go_23 rfl (lv_at hl 0 rfl) ?_
      refine lv_iload_n F.1 F.2.1 dX12_go_24 rfl (lv_at hl 1 rfl) ?_
      refine lv_iload_n F.1 F.2.1 dX12_go_25 rfl (lv_at hl 2 rfl) ?_
      refine a_Vi F hml hl.1 hA hP hD hS (As := [.int p0, .int p1]) (c_X12_whyGoOf_85 l dC dI ad cA nF _ p0 p1 hR (by omega) (by omega)) (cs_RX12_266 (d := 2) F.2.2.1 (by decide)) tc_85 rfl rfl rfl rfl (Nat.le_of_ble_eq_true rfl) dX12_go_26 ⟨Nat.le_refl 0, Nat.le_refl 0⟩ (fun r6 uN6 H locs hq hP hD hS => ?_)
      obtain ⟨hu6, gr6⟩ := hq
      rw [hu6] at hP hD
      refine lv_istore_n (lv' := [(3, .int r6), (0, .ref (ad 85)), (1, .int p0), (2, .int p1)]) F.1 F.2.1 dX12_go_29 rfl hl (by decide) rfl (fun ls hl => ?_)
      refine lv_iload_n F.1 F.2.1 dX12_go_30 rfl (lv_at hl 0 rfl) ?_
      refine z_le F 36 dX12_go_31 (by decide) rfl (fun c7 => ?_) (fun c7 => ?_)
      · refine lv_aload_n F.1 F.2.1 dX12_go_36 rfl (lv_at hl 1 rfl) ?_
        refine a_Vv F hml hl.1 hA hP hD hS (As := []) (c_X12_keep_85__3 l dC dI ad cA nF _  hR hK_MS hK_UI hK_AP hK_AU) (cs_RX12_269 (d := 1) F.2.2.1 (by decide)) tc_85 rfl rfl rfl rfl (Nat.le_of_ble_eq_true rfl) dX12_go_37 ⟨Nat.le_refl 0, Nat.le_refl 0⟩ (fun u8 H locs hq hP hD hS => ?_)
        obtain ⟨hR, hF8, xr8, hK_MS, hK_UI, hK_AP, hK_AU⟩ := hq
        have hF := hF.tr hF8 (by decide)
        have hK_CW := sp_fr sp_CW hF8 (by decide) hK_CW
        have g9 : (0 : Int) ≤ (u8.1 85 24).toInt ∧ (u8.1 85 24).toInt ≤ 8 := hR 85 24
        have xr8 : 1 ≤ (u8.1 85 24).toInt := xr8
        refine lv_aload_n F.1 F.2.1 dX12_go_40 rfl (lv_at hl 1 rfl) ?_
        refine lv_iload_n F.1 F.2.1 dX12_go_41 rfl (lv_at hl 2 rfl) ?_
        refine lv_iload_n F.1 F.2.1 dX12_go_42 rfl (lv_at hl 3 rfl) ?_
        refine a_Vv F hml hl.1 hA hP hD hS (As := [.int p0, .int p1]) (c_X12_goes_85__3 l dC dI ad cA nF _ p0 p1 hR (by omega) (by omega) (by rw [hF8 87 1 rfl]; exact (by omega : p1.toInt < (u0.1 87 1).toInt)) hK_AP) (cs_RX12_272 (d := 1) F.2.2.1 (by decide)) tc_85 rfl rfl rfl rfl (Nat.le_of_ble_eq_true rfl) dX12_go_43 ⟨Nat.le_refl 0, Nat.le_refl 0⟩ (fun u10 H locs hq hP hD hS => ?_)
        obtain ⟨hR, hF10, xr10, hK_AP, hJ10_MS, hJ10_CW, hJ10_UI, hJ10_BI, hJ10_AU, hJ10_AB, hJ10_BG⟩ := hq
        have hF := hF.tr hF10 (by decide)
        have hK_MS := hJ10_MS hK_MS
        have hK_UI := hJ10_UI hK_UI
        have hK_CW := hJ10_CW hK_CW
        have hK_AU := hJ10_AU hK_AU
        have g11 : (0 : Int) ≤ (u10.1 87 106).toInt ∧ (u10.1 87 106).toInt ≤ 480 := hR 87 106
        have g12 : (4 : Int) ≤ (u10.1 87 0).toInt ∧ (u10.1 87 0).toInt ≤ 24 := hR 87 0
        have xr10 : (u10.1 87 106).toInt = (u8.1 87 106).toInt ∧ (u10.1 87 0).toInt = (u8.1 87 0).toInt := xr10
        refine a_ic F (0 : Int32) dX12_go_46 (by decide) ?_
        exact a_reti F hr hlocks hP hD hS dX12_go_47 ⟨hR, hF, (by decide), hK_MS, hK_UI, hK_CW, hK_AP, hK_AU⟩
      · refine lv_iload_n F.1 F.2.1 dX12_go_34 rfl (lv_at hl 0 rfl) ?_
        exact a_reti F hr hlocks hP hD hS dX12_go_35 ⟨hR, hF, (by omega : (-1 : Int) ≤ r6.toInt ∧ r6.toInt ≤ 3), hK_MS, hK_UI, hK_CW, hK_AP, hK_AU⟩
    · exact L21 _ _ _ _ hR hF hK_MS hK_UI hK_CW hK_AP hK_AU (by omega : (0 : Int) ≤ (0 : Int) ∧ (0 : Int) ≤ 0) hP hD hS (lv_sub hl [] rfl)
set_option maxHeartbeats 600000 in
set_option maxRecDepth 100000 in
theorem c_X12_hours_85__3 (l : Launch) (dC : Nat → ClassId) (dI : Nat → Nat → Nat) (ad : Nat → Nat) (cA : Nat → ClassId) (nF : Nat) (u0 : ac_U) (p0 : Int32) (hR : ac_R rg u0) (hK_MS : msI u0) (hK_UI : unI u0) (hK_CW : cdI u0) (hK_AP : apI u0) (hK_AU : auI u0) : ac_Mi l yX12_hours (.code yX12_hours cX12_hours 3 (some .int) :: TB) 2 (dC, dI) vwCl (ac_ty cA) ad cA (TT nF) [.ref (ad 85), .int p0] u0 (fun (r : Int32) (u : ac_U) => ac_R rg u ∧ ac_Fr [(85, some 0), (85, some 24), (87, none), (93, none)] u0 u ∧ ((-1 : Int) ≤ r.toInt ∧ r.toInt ≤ 99) ∧ msI u ∧ unI u ∧ cdI u ∧ apI u ∧ auI u) := by
  refine ac_Mi.of (cc := cX12_hours) (maxL := 3) (ret := (some .int)) (by decide) rfl (Nat.le_of_ble_eq_true rfl) ?_
  intro p e s m below meth c A ls F hml hr hlocks hA hP hD hS hl
  have F : ac_X p s m [.ref (ad 85), .int p0].toArray c cX12_hours RX12 TB (dC, dI) vwCl (ac_ty cA) := ⟨F.1, F.2.1, fun w h => F.2.2.1 w (List.mem_cons_of_mem _ h), F.2.2.2.1, F.2.2.2.2⟩
  have hl : lv_has ls 3 [(0, .ref (ad 85)), (1, .int p0)] := hl
  have hF : ac_Fr [(85, some 0), (85, some 24), (87, none), (93, none)] u0 u0 := ac_Fr.rf
  have L54 : ∀ (x2 : Int32) (u : ac_U) (H : Heap) (locs : List Loc) (ls : Array Slot), ac_R rg u → ac_Fr [(85, some 0), (85, some 24), (87, none), (93, none)] u0 u → msI u → unI u → cdI u → apI u → auI u → (0 : Int) ≤ x2.toInt ∧ x2.toInt ≤ 99 → (0 : Int) ≤ (u.1 85 0).toInt ∧ (u.1 85 0).toInt ≤ 0 → (1 : Int) ≤ (u.1 85 24).toInt ∧ (u.1 85 24).toInt ≤ 8 → va_P (dC, dI) vwCl (ac_w ad cA (TT nF) u) H → va_D A (ac_w ad cA (TT nF) u) → va_S A s.heap H locs → lv_has ls 3 [(2, .int x2)] → W p l e (ac_rm 2) s m [.ref (ad 85), .int p0].toArray below meth c H locs 0 0 (MQ below (va_Qi (fun (r : Int32) (u : ac_U) => ac_R rg u ∧ ac_Fr [(85, some 0), (85, some 24), (87, none), (93, none)] u0 u ∧ ((-1 : Int) ≤ r.toInt ∧ r.toInt ≤ 99) ∧ msI u ∧ unI u ∧ cdI u ∧ apI u ∧ auI u) (ac_B (dC, dI) vwCl (ac_ty cA) ad cA (TT nF) A) A) [.ref (ad 85), .int p0].toArray s 0 0 A) (F0 m 54 ls []) := by
    intro x2 u H locs ls hR hF hK_MS hK_UI hK_CW hK_AP hK_AU f0 f1 f2 hP hD hS hl
    refine lv_iload_n F.1 F.2.1 dX12_hours_54 rfl (lv_at hl 0 rfl) ?_
    exact a_reti F hr hlocks hP hD hS dX12_hours_55 ⟨hR, hF, (by omega : (-1 : Int) ≤ x2.toInt ∧ x2.toInt ≤ 99), hK_MS, hK_UI, hK_CW, hK_AP, hK_AU⟩
  have L32 : ∀ (n32 : Nat) (x2 : Int32) (u : ac_U) (H : Heap) (locs : List Loc) (ls : Array Slot), ac_R rg u → ac_Fr [(85, some 0), (85, some 24), (87, none), (93, none)] u0 u → 99 - x2.toInt < (n32 : Int) → msI u → unI u → cdI u → apI u → auI u → (1 : Int) ≤ p0.toInt ∧ p0.toInt ≤ 99 → (0 : Int) ≤ x2.toInt ∧ x2.toInt ≤ 99 → (0 : Int) ≤ (u.1 85 0).toInt ∧ (u.1 85 0).toInt ≤ 0 → (1 : Int) ≤ (u.1 85 24).toInt ∧ (u.1 85 24).toInt ≤ 8 → va_P (dC, dI) vwCl (ac_w ad cA (TT nF) u) H → va_D A (ac_w ad cA (TT nF) u) → va_S A s.heap H locs → lv_has ls 3 [(0, .ref (ad 85)), (1, .int p0), (2, .int x2)] → W p l e (ac_rm 2) s m [.ref (ad 85), .int p0].toArray below meth c H locs 0 0 (MQ below (va_Qi (fun (r : Int32) (u : ac_U) => ac_R rg u ∧ ac_Fr [(85, some 0), (85, some 24), (87, none), (93, none)] u0 u ∧ ((-1 : Int) ≤ r.toInt ∧ r.toInt ≤ 99) ∧ msI u ∧ unI u ∧ cdI u ∧ apI u ∧ auI u) (ac_B (dC, dI) vwCl (ac_ty cA) ad cA (TT nF) A) A) [.ref (ad 85), .int p0].toArray s 0 0 A) (F0 m 32 ls []) := by
    intro n32
    induction n32 with
    | zero => intro x2 u H locs ls hR hF hn32 hK_MS hK_UI hK_CW hK_AP hK_AU f0 f1 f2 f3 hP hD hS hl; exfalso; omega
    | succ n32 ih32 =>
      intro x2 u H locs ls hR hF hn32 hK_MS hK_UI hK_CW hK_AP hK_AU f0 f1 f2 f3 hP hD hS hl
      refine lv_iload_n F.1 F.2.1 dX12_hours_32 rfl (lv_at hl 2 rfl) ?_
      refine lv_iload_n F.1 F.2.1 dX12_hours_33 rfl (lv_at hl 1 rfl) ?_
      refine b_ge F 54 dX12_hours_34 (by decide) rfl rfl (fun c1 => ?_) (fun c1 => ?_)
      · have g2 : (0 : Int) ≤ (u.1 85 0).toInt ∧ (u.1 85 0).toInt ≤ 1 := hR 85 0
        have g3 : (0 : Int) ≤ (u.1 85 24).toInt ∧ (u.1 85 24).toInt ≤ 8 := hR 85 24
        exact L54 x2 _ _ _ _ hR hF hK_MS hK_UI hK_CW hK_AP hK_AU (by omega) (by omega : (0 : Int) ≤ (u.1 85 0).toInt ∧ (u.1 85 0).toInt ≤ 0) (by omega : (1 : Int) ≤ (u.1 85 24).toInt ∧ (u.1 85 24).toInt ≤ 8) hP hD hS (lv_sub hl [2] rfl)
      · refine lv_aload_n F.1 F.2.1 dX12_hours_37 rfl (lv_at hl 0 rfl) ?_
        refine a_Vi F hml hl.1 hA hP hD hS (As := []) (c_X12_isOver_85 l dC dI ad cA nF _  hR) (cs_RX12_263 (d := 1) F.2.2.1 (by decide)) tc_85 rfl rfl rfl rfl (Nat.le_of_ble_eq_true rfl) dX12_hours_38 ⟨Nat.le_refl 0, Nat.le_refl 0⟩ (fun r4 uN4 H locs hq hP hD hS => ?_)
        obtain ⟨hu4, gr4, xr4⟩ := hq
        rw [hu4] at hP hD
        have g5 : (0 : Int) ≤ (u.1 87 106).toInt ∧ (u.1 87 106).toInt ≤ 480 := hR 87 106
        have g6 : (4 : Int) ≤ (u.1 87 0).toInt ∧ (u.1 87 0).toInt ≤ 24 := hR 87 0
        have xr4 : r4.toInt = 0 → (u.1 87 106).toInt ≠ 20 * (u.1 87 0).toInt := xr4
        refine z_ne F 54 dX12_hours_41 (by decide) rfl (fun c7 => ?_) (fun c7 => ?_)
        · have g8 : (0 : Int) ≤ (u.1 85 0).toInt ∧ (u.1 85 0).toInt ≤ 1 := hR 85 0
          have g9 : (0 : Int) ≤ (u.1 85 24).toInt ∧ (u.1 85 24).toInt ≤ 8 := hR 85 24
          exact L54 x2 _ _ _ _ hR hF hK_MS hK_UI hK_CW hK_AP hK_AU (by omega) (by omega : (0 : Int) ≤ (u.1 85 0).toInt ∧ (u.1 85 0).toInt ≤ 0) (by omega : (1 : Int) ≤ (u.1 85 24).toInt ∧ (u.1 85 24).toInt ≤ 8) hP hD hS (lv_sub hl [2] rfl)
        · refine lv_aload_n F.1 F.2.1 dX12_hours_44 rfl (lv_at hl 0 rfl) ?_
          have hO10 : (u.1 87 106).toInt ≤ 20 * (u.1 87 0).toInt := hK_MS.1
          have hQ10 : 4 ≤ (u.1 87 0).toInt ∧ (u.1 87 0).toInt ≤ 24 := hR 87 0
          have hW10 : 0 ≤ (u.1 87 106).toInt ∧ (u.1 87 106).toInt ≤ 480 := hR 87 106
          refine a_Vv F hml hl.1 hA hP hD hS (As := []) (c_X12_hour_85__3 l dC dI ad cA nF _  hR (by omega : (0 : Int) ≤ (u.1 87 106).toInt ∧ (u.1 87 106).toInt ≤ 479) (by omega : (u.1 87 106).toInt < 20 * (u.1 87 0).toInt) hK_MS) (cs_RX12_292 (d := 1) F.2.2.1 (by decide)) tc_85 rfl rfl rfl rfl (Nat.le_of_ble_eq_true rfl) dX12_hours_45 ⟨Nat.le_refl 0, Nat.le_refl 0⟩ (fun u11 H locs hq hP hD hS => ?_)
          obtain ⟨hR, hF11, xr11, hK_MS, hJ11_CW, hJ11_UI, hJ11_BI, hJ11_AP, hJ11_AU, hJ11_AB, hJ11_BG⟩ := hq
          have hF := hF.tr hF11 (by decide)
          have hK_UI := hJ11_UI hK_UI
          have hK_CW := hJ11_CW hK_CW
          have hK_AP := hJ11_AP hK_AP
          have hK_AU := hJ11_AU hK_AU
          have g12 : (0 : Int) ≤ (u11.1 87 106).toInt ∧ (u11.1 87 106).toInt ≤ 480 := hR 87 106
          have g13 : (4 : Int) ≤ (u11.1 87 0).toInt ∧ (u11.1 87 0).toInt ≤ 24 := hR 87 0
          have xr11 : (u11.1 87 106).toInt = (u.1 87 106).toInt + 1 ∧ (u11.1 87 0).toInt = (u.1 87 0).toInt := xr11
          refine a_iinc F (k := 2) (fun v14 => [(2, .int v14), (0, .ref (ad 85)), (1, .int p0)]) dX12_hours_48 hl rfl rfl (by decide) (by omega) (by decide) (fun _ => rfl) (fun v14 ls hv14 hl => ?_)
          refine lv_goto (tgt := 32) F.1 F.2.1 dX12_hours_51 (by decide) ?_
          exact ih32 v14 _ _ _ _ hR hF (by omega) hK_MS hK_UI hK_CW hK_AP hK_AU (by omega) (by omega) (i_trB (hF11 85 0 rfl) (by omega : (0 : Int) ≤ (u.1 85 0).toInt ∧ (u.1 85 0).toInt ≤ 0)) (i_trB (hF11 85 24 rfl) (by omega : (1 : Int) ≤ (u.1 85 24).toInt ∧ (u.1 85 24).toInt ≤ 8)) hP hD hS (lv_sub hl [1, 2, 0] rfl)
  refine lv_aload_n F.1 F.2.1 dX12_hours_0 rfl (lv_at hl 0 rfl) ?_
  refine a_ic F (0 : Int32) dX12_hours_1 (by decide) ?_
  refine a_puti F inX12 tyX12 tyX12_ok nmX12 hP hD hS 85 0 tc_85 rfl rfl (by decide) q1471 (fun _ h9 => h9) rfl (ty := .int) (tyX12_ok 0 (by decide)) rfl rfl dX12_hours_2 (fun H locs hP hD hS => ?_)
  have hR := hR.si (c := 85) (k := 0) (v := (0 : Int32)) (by rw [ic_0]; exact (by omega : (0 : Int) ≤ (0 : Int) ∧ (0 : Int) ≤ 1))
  have hF := hF.si (c := 85) (k := 0) (v := (0 : Int32)) rfl
  have hK_MS := sp_sgD sp_MS hD hK_MS (by decide)
  have hK_UI := sp_si sp_UI hK_UI (c := 85) (k := 0) (v := (0 : Int32)) (fun j9 h9 q9 => by rw [q9] at h9; exact absurd h9 (by decide))
  have hK_CW := sp_sgD sp_CW hD hK_CW (by decide)
  have hK_AP := sp_sgD sp_AP hD hK_AP (by decide)
  have hK_AU := sp_si sp_AU hK_AU (c := 85) (k := 0) (v := (0 : Int32)) (fun j9 h9 q9 => by rw [q9] at h9; exact absurd h9 (by decide))
  refine lv_iload_n F.1 F.2.1 dX12_hours_5 rfl (lv_at hl 1 rfl) ?_
  refine a_ic F (1 : Int32) dX12_hours_6 (by decide) ?_
  refine a_bp F (99 : Int32) dX12_hours_7 (by decide) ?_
  refine a_Si F hml hl.1 hA hP hD hS (As := [.int p0, .int (1 : Int32), .int (99 : Int32)]) (c_X12_isIn l dC dI ad cA nF _ p0 (1 : Int32) (99 : Int32) hR (by decide)) (cs_RX12_187 (d := 1) F.2.2.1 (by decide)) rfl rfl (Nat.le_of_ble_eq_true rfl) dX12_hours_9 ⟨Nat.le_refl 0, Nat.le_refl 0⟩ (fun r15 uN15 H locs hq hP hD hS => ?_)
  obtain ⟨hu15, gr15, xr15⟩ := hq
  rw [hu15] at hP hD
  have xr15 : r15.toInt ≠ 0 → (1 : Int) ≤ p0.toInt ∧ p0.toInt ≤ (99 : Int) := xr15
  refine z_ne F 17 dX12_hours_12 (by decide) rfl (fun c16 => ?_) (fun c16 => ?_)
  · refine lv_aload_n F.1 F.2.1 dX12_hours_17 rfl (lv_at hl 0 rfl) ?_
    refine a_Vi F hml hl.1 hA hP hD hS (As := []) (c_X12_isOver_85 l dC dI ad cA nF _  hR) (cs_RX12_263 (d := 1) F.2.2.1 (by decide)) tc_85 rfl rfl rfl rfl (Nat.le_of_ble_eq_true rfl) dX12_hours_18 ⟨Nat.le_refl 0, Nat.le_refl 0⟩ (fun r17 uN17 H locs hq hP hD hS => ?_)
    obtain ⟨hu17, gr17, xr17⟩ := hq
    rw [hu17] at hP hD
    have g18 : (0 : Int) ≤ (u0.1 87 106).toInt ∧ (u0.1 87 106).toInt ≤ 480 := hR 87 106
    have g19 : (4 : Int) ≤ (u0.1 87 0).toInt ∧ (u0.1 87 0).toInt ≤ 24 := hR 87 0
    have xr17 : r17.toInt = 0 → (u0.1 87 106).toInt ≠ 20 * (u0.1 87 0).toInt := xr17
    refine z_eq F 26 dX12_hours_21 (by decide) rfl (fun c20 => ?_) (fun c20 => ?_)
    · refine lv_aload_n F.1 F.2.1 dX12_hours_26 rfl (lv_at hl 0 rfl) ?_
      refine a_Vv F hml hl.1 hA hP hD hS (As := []) (c_X12_keep_85__3 l dC dI ad cA nF _  hR hK_MS hK_UI hK_AP hK_AU) (cs_RX12_269 (d := 1) F.2.2.1 (by decide)) tc_85 rfl rfl rfl rfl (Nat.le_of_ble_eq_true rfl) dX12_hours_27 ⟨Nat.le_refl 0, Nat.le_refl 0⟩ (fun u21 H locs hq hP hD hS => ?_)
      obtain ⟨hR, hF21, xr21, hK_MS, hK_UI, hK_AP, hK_AU⟩ := hq
      have hF := hF.tr hF21 (by decide)
      have hK_CW := sp_fr sp_CW hF21 (by decide) hK_CW
      have g22 : (0 : Int) ≤ (u21.1 85 24).toInt ∧ (u21.1 85 24).toInt ≤ 8 := hR 85 24
      have xr21 : 1 ≤ (u21.1 85 24).toInt := xr21
      refine a_ic F (0 : Int32) dX12_hours_30 (by decide) ?_
      refine lv_istore_n (lv' := [(2, .int (0 : Int32)), (0, .ref (ad 85)), (1, .int p0)]) F.1 F.2.1 dX12_hours_31 rfl hl (by decide) rfl (fun ls hl => ?_)
      exact L32 101 (0 : Int32) _ _ _ _ hR hF (by decide) hK_MS hK_UI hK_CW hK_AP hK_AU (by omega) (by decide) (i_trB (hF21 85 0 rfl) (by omega : (0 : Int) ≤ (0 : Int) ∧ (0 : Int) ≤ 0)) (by omega : (1 : Int) ≤ (u21.1 85 24).toInt ∧ (u21.1 85 24).toInt ≤ 8) hP hD hS (lv_sub hl [1, 2, 0] rfl)
    · refine a_ic F (0 : Int32) dX12_hours_24 (by decide) ?_
      exact a_reti F hr hlocks hP hD hS dX12_hours_25 ⟨hR, hF, (by decide), hK_MS, hK_UI, hK_CW, hK_AP, hK_AU⟩
  · refine a_ic F (-1 : Int32) dX12_hours_15 (by decide) ?_
    exact a_reti F hr hlocks hP hD hS dX12_hours_16 ⟨hR, hF, (by decide), hK_MS, hK_UI, hK_CW, hK_AP, hK_AU⟩
set_option maxHeartbeats 600000 in
set_option maxRecDepth 100000 in
theorem c_X12_readPromise_85__3 (l : Launch) (dC : Nat → ClassId) (dI : Nat → Nat → Nat) (ad : Nat → Nat) (cA : Nat → ClassId) (nF : Nat) (u0 : ac_U)  (hR : ac_R rg u0) (hK_HI : hsI u0) (hK_AH : ahI u0) : ac_Mi l yX12_readPromise (.code yX12_readPromise cX12_readPromise 2 (some .boolean) :: TB) 4 (dC, dI) vwCl (ac_ty cA) ad cA (TT nF) [.ref (ad 85)] u0 (fun (r : Int32) (u : ac_U) => ac_R rg u ∧ ac_Fr [(85, some 4), (85, some 11), (85, some 12), (85, some 13), (85, some 14), (85, some 15), (85, some 16), (85, some 18), (88, none)] u0 u ∧ ((0 : Int) ≤ r.toInt ∧ r.toInt ≤ 1) ∧ hsI u ∧ ahI u ∧ (r.toInt ≠ 0 → (s7P u0) u)) := by
  refine ac_Mi.of (cc := cX12_readPromise) (maxL := 2) (ret := (some .boolean)) (by decide) rfl (Nat.le_of_ble_eq_true rfl) ?_
  intro p e s m below meth c A ls F hml hr hlocks hA hP hD hS hl
  have F : ac_X p s m [.ref (ad 85)].toArray c cX12_readPromise RX12 TB (dC, dI) vwCl (ac_ty cA) := ⟨F.1, F.2.1, fun w h => F.2.2.1 w (List.mem_cons_of_mem _ h), F.2.2.2.1, F.2.2.2.2⟩
  have hl : lv_has ls 2 [(0, .ref (ad 85))] := hl
  have hF : ac_Fr [(85, some 4), (85, some 11), (85, some 12), (85, some 13), (85, some 14), (85, some 15), (85, some 16), (85, some 18), (88, none)] u0 u0 := ac_Fr.rf
  have hK_S7 : (s7I u0) u0 := s7_rf
  have L301 : ∀ (u : ac_U) (H : Heap) (locs : List Loc) (ls : Array Slot), ac_R rg u → ac_Fr [(85, some 4), (85, some 11), (85, some 12), (85, some 13), (85, some 14), (85, some 15), (85, some 16), (85, some 18), (88, none)] u0 u → hsI u → (s7I u0) u → ahI u → (0 : Int) ≤ (u.1 85 18).toInt ∧ (u.1 85 18).toInt ≤ 5 → (0 : Int) ≤ (u.1 88 6).toInt ∧ (u.1 88 6).toInt ≤ 7 → va_P (dC, dI) vwCl (ac_w ad cA (TT nF) u) H → va_D A (ac_w ad cA (TT nF) u) → va_S A s.heap H locs → lv_has ls 2 [(0, .ref (ad 85))] → W p l e (ac_rm 4) s m [.ref (ad 85)].toArray below meth c H locs 0 0 (MQ below (va_Qi (fun (r : Int32) (u : ac_U) => ac_R rg u ∧ ac_Fr [(85, some 4), (85, some 11), (85, some 12), (85, some 13), (85, some 14), (85, some 15), (85, some 16), (85, some 18), (88, none)] u0 u ∧ ((0 : Int) ≤ r.toInt ∧ r.toInt ≤ 1) ∧ hsI u ∧ ahI u ∧ (r.toInt ≠ 0 → (s7P u0) u)) (ac_B (dC, dI) vwCl (ac_ty cA) ad cA (TT nF) A) A) [.ref (ad 85)].toArray s 0 0 A) (F0 m 301 ls []) := by
    intro u H locs ls hR hF hK_HI hK_S7 hK_AH f0 f1 hP hD hS hl
    refine lv_aload_n F.1 F.2.1 dX12_readPromise_301 rfl (lv_at hl 0 rfl) ?_
    refine a_getr F inX12 hP 85 7 tc_85 rfl rfl (by decide) q1478 (fun _ h9 => h9) dX12_readPromise_302 ?_
    refine a_bp F (6 : Int32) dX12_readPromise_305 (by decide) ?_
    refine lv_dup2_11 F.1 F.2.1 dX12_readPromise_307 rfl rfl ?_
    have g1 : (0 : Int) ≤ (u.1 88 6).toInt ∧ (u.1 88 6).toInt ≤ 8 := hR 88 6
    refine a_ialdK F hP 88 6 tc_88 rfl rfl (i_in ic_6 (by omega)) (v := (u.1 88 6)) rfl dX12_readPromise_308 ?_
    refine a_ic F (1 : Int32) dX12_readPromise_309 (by decide) ?_
    refine a_iadd F dX12_readPromise_310 rfl ic_1 (by omega) (fun v2 hv2 => ?_)
    refine a_iastK F hP hD hS 88 6 tc_88 rfl rfl (i_in ic_6 (by omega)) dX12_readPromise_311 (fun H locs hP hD hS => ?_)
    have hR := hR.si (c := 88) (k := 6) (v := v2) (by omega : (0 : Int) ≤ v2.toInt ∧ v2.toInt ≤ 8)
    have hF := hF.si (c := 88) (k := 6) (v := v2) rfl
    have hO_HI := hK_HI
    have hO_S7 := hK_S7
    have hO_AH := hK_AH
    have hN_S7p := s7_inc (k := 6) hO_S7 (by omega) (x := (u.1 88 6)) (v := v2) (rfl) (by omega)
    have hK_HI := sp_si sp_HI hK_HI (c := 88) (k := 6) (v := v2) (fun j9 h9 q9 => by rw [q9] at h9; exact absurd h9 (by decide))
    have hK_AH := sp_si sp_AH hK_AH (c := 88) (k := 6) (v := v2) (fun j9 h9 q9 => by rw [q9] at h9; exact absurd h9 (by decide))
    have hK_S7p := hN_S7p
    refine a_ic F (1 : Int32) dX12_readPromise_312 (by decide) ?_
    exact a_retz F hr hlocks hP hD hS dX12_readPromise_313 (Or.inr rfl) ⟨hR, hF, (by decide), hK_HI, hK_AH, (fun _ => hK_S7p)⟩
  have L245 : ∀ (x1 : Int32) (u : ac_U) (H : Heap) (locs : List Loc) (ls : Array Slot), ac_R rg u → ac_Fr [(85, some 4), (85, some 11), (85, some 12), (85, some 13), (85, some 14), (85, some 15), (85, some 16), (85, some 18), (88, none)] u0 u → hsI u → (s7I u0) u → ahI u → (0 : Int) ≤ x1.toInt ∧ x1.toInt ≤ 7 → (1 : Int) ≤ (u.1 85 18).toInt ∧ (u.1 85 18).toInt ≤ 3 → (0 : Int) ≤ (u.1 88 6).toInt ∧ (u.1 88 6).toInt ≤ 7 → va_P (dC, dI) vwCl (ac_w ad cA (TT nF) u) H → va_D A (ac_w ad cA (TT nF) u) → va_S A s.heap H locs → lv_has ls 2 [(0, .ref (ad 85)), (1, .int x1)] → W p l e (ac_rm 4) s m [.ref (ad 85)].toArray below meth c H locs 0 0 (MQ below (va_Qi (fun (r : Int32) (u : ac_U) => ac_R rg u ∧ ac_Fr [(85, some 4), (85, some 11), (85, some 12), (85, some 13), (85, some 14), (85, some 15), (85, some 16), (85, some 18), (88, none)] u0 u ∧ ((0 : Int) ≤ r.toInt ∧ r.toInt ≤ 1) ∧ hsI u ∧ ahI u ∧ (r.toInt ≠ 0 → (s7P u0) u)) (ac_B (dC, dI) vwCl (ac_ty cA) ad cA (TT nF) A) A) [.ref (ad 85)].toArray s 0 0 A) (F0 m 245 ls []) := by
    intro x1 u H locs ls hR hF hK_HI hK_S7 hK_AH f0 f1 f2 hP hD hS hl
    refine lv_aload_n F.1 F.2.1 dX12_readPromise_245 rfl (lv_at hl 0 rfl) ?_
    refine a_getr F inX12 hP 85 7 tc_85 rfl rfl (by decide) q1478 (fun _ h9 => h9) dX12_readPromise_246 ?_
    refine a_bp F (82 : Int32) dX12_readPromise_249 (by decide) ?_
    refine lv_iload_n F.1 F.2.1 dX12_readPromise_251 rfl (lv_at hl 1 rfl) ?_
    refine a_iadd F dX12_readPromise_252 ic_82 rfl (by omega) (fun v3 hv3 => ?_)
    refine a_ic F (0 : Int32) dX12_readPromise_253 (by decide) ?_
    have g4 : (0 : Int) ≤ (u.1 88 6).toInt ∧ (u.1 88 6).toInt ≤ 8 := hR 88 6
    refine a_iast F hP hD hS 88 tc_88 rfl (i_in rfl (by omega)) dX12_readPromise_254 (fun H locs hP hD hS => ?_)
    have hR := hR.si (c := 88) (k := v3.toNatClampNeg) (v := (0 : Int32)) (rs_88_82_89 (by omega) ⟨i_lo _, i_hi _⟩)
    have hF := hF.si (c := 88) (k := v3.toNatClampNeg) (v := (0 : Int32)) rfl
    have hK_HI := sp_si sp_HI hK_HI (c := 88) (k := v3.toNatClampNeg) (v := (0 : Int32)) (fun j9 h9 => by have q8 := sp_mem h9; simp at q8; have q9 := i_cl (x := v3) (by omega); omega)
    have hK_S7 := sp_si (sp_s7 _) hK_S7 (c := 88) (k := v3.toNatClampNeg) (v := (0 : Int32)) (fun j9 h9 => by have q8 := sp_mem h9; simp at q8; have q9 := i_cl (x := v3) (by omega); omega)
    have hK_AH := sp_si sp_AH hK_AH (c := 88) (k := v3.toNatClampNeg) (v := (0 : Int32)) (fun j9 h9 => by have q8 := sp_mem h9; simp at q8; have q9 := i_cl (x := v3) (by omega); omega)
    refine lv_aload_n F.1 F.2.1 dX12_readPromise_255 rfl (lv_at hl 0 rfl) ?_
    refine lv_ldc2 (v := (129117125440371 : Int64)) F.1 F.2.1 F.2.2.2.1 (F.2.2.1 _ q1453) dX12_readPromise_256 ?_
    refine a_Vi F hml hl.1 hA hP hD hS (As := [.long (129117125440371 : Int64)]) (c_X12_isWord_85 l dC dI ad cA nF _ (129117125440371 : Int64) hR) (cs_RX12_206 (d := 1) F.2.2.1 (by decide)) tc_85 rfl rfl rfl rfl (Nat.le_of_ble_eq_true rfl) dX12_readPromise_259 ⟨Nat.le_refl 0, Nat.le_refl 0⟩ (fun r5 uN5 H locs hq hP hD hS => ?_)
    obtain ⟨hu5, gr5⟩ := hq
    rw [hu5] at hP hD
    refine z_eq F 301 dX12_readPromise_262 (by decide) rfl (fun c6 => ?_) (fun c6 => ?_)
    · exact L301 _ _ _ _ hR hF hK_HI hK_S7 hK_AH (by omega : (0 : Int) ≤ (u.1 85 18).toInt ∧ (u.1 85 18).toInt ≤ 5) (i_trB (ac_ne (c := 88) (k := 6) (i := v3) (by have q9 := i_cl (x := v3) (by omega); omega)) (by omega : (0 : Int) ≤ (u.1 88 6).toInt ∧ (u.1 88 6).toInt ≤ 7)) hP hD hS (lv_sub hl [0] rfl)
    · refine lv_aload_n F.1 F.2.1 dX12_readPromise_265 rfl (lv_at hl 0 rfl) ?_
      refine a_Vv F hml hl.1 hA hP hD hS (As := []) (c_X12_next_85 l dC dI ad cA nF _  hR) (cs_RX12_184 (d := 2) F.2.2.1 (by decide)) tc_85 rfl rfl rfl rfl (Nat.le_of_ble_eq_true rfl) dX12_readPromise_266 ⟨Nat.le_refl 0, Nat.le_refl 0⟩ (fun u7 H locs hq hP hD hS => ?_)
      obtain ⟨hR, hF7⟩ := hq
      have hF := hF.tr hF7 (by decide)
      have hK_HI := sp_fr sp_HI hF7 (by decide) hK_HI
      have hK_S7 := sp_fr (sp_s7 _) hF7 (by decide) hK_S7
      have hK_AH := sp_fr sp_AH hF7 (by decide) hK_AH
      refine lv_aload_n F.1 F.2.1 dX12_readPromise_269 rfl (lv_at hl 0 rfl) ?_
      refine a_bp F (38 : Int32) dX12_readPromise_270 (by decide) ?_
      refine lv_aload_n F.1 F.2.1 dX12_readPromise_272 rfl (lv_at hl 0 rfl) ?_
      refine a_getr F inX12 hP 85 7 tc_85 rfl rfl (by decide) q1478 (fun _ h9 => h9) dX12_readPromise_273 ?_
      refine a_ic F (5 : Int32) dX12_readPromise_276 (by decide) ?_
      have g8 : (0 : Int) ≤ (u7.1 88 5).toInt ∧ (u7.1 88 5).toInt ≤ 6 := hR 88 5
      refine a_ialdK F hP 88 5 tc_88 rfl rfl (i_in ic_5 (by omega)) (v := (u7.1 88 5)) rfl dX12_readPromise_277 ?_
      refine a_Vi F hml hl.1 hA hP hD hS (As := [.int (38 : Int32), .int (u7.1 88 5)]) (c_X12_takesName_85 l dC dI ad cA nF _ (38 : Int32) (u7.1 88 5) hR (by decide) (by omega) (by simp only [ic_38]; omega)) (cs_RX12_220 (d := 3) F.2.2.1 (by decide)) tc_85 rfl rfl rfl rfl (Nat.le_of_ble_eq_true rfl) dX12_readPromise_278 ⟨Nat.le_refl 0, Nat.le_refl 0⟩ (fun r9 u9 H locs hq hP hD hS => ?_)
      obtain ⟨hR, hF9, gr9, xr9⟩ := hq
      have hF := hF.tr hF9 (by decide)
      have hK_HI := sp_fr sp_HI hF9 (by decide) hK_HI
      have hK_S7 := sp_fr (sp_s7 _) hF9 (by decide) hK_S7
      have hK_AH := sp_fr sp_AH hF9 (by decide) hK_AH
      have xr9 : r9.toInt ≠ 0 → 0 ≤ (u9.1 85 18).toInt ∧ (u9.1 85 18).toInt < (u7.1 88 5).toInt := xr9
      refine z_ne F 286 dX12_readPromise_281 (by decide) rfl (fun c10 => ?_) (fun c10 => ?_)
      · refine lv_aload_n F.1 F.2.1 dX12_readPromise_286 rfl (lv_at hl 0 rfl) ?_
        refine a_getr F inX12 hP 85 7 tc_85 rfl rfl (by decide) q1478 (fun _ h9 => h9) dX12_readPromise_287 ?_
        refine a_bp F (82 : Int32) dX12_readPromise_290 (by decide) ?_
        refine lv_iload_n F.1 F.2.1 dX12_readPromise_292 rfl (lv_at hl 1 rfl) ?_
        refine a_iadd F dX12_readPromise_293 ic_82 rfl (by omega) (fun v11 hv11 => ?_)
        refine lv_aload_n F.1 F.2.1 dX12_readPromise_294 rfl (lv_at hl 0 rfl) ?_
        refine a_geti F inX12 hP 85 18 tc_85 rfl rfl (by decide) q1489 (fun _ h9 => h9) (v := (u9.1 85 18)) (rfl) dX12_readPromise_295 ?_
        refine a_ic F (1 : Int32) dX12_readPromise_298 (by decide) ?_
        refine a_iadd F dX12_readPromise_299 rfl ic_1 (by omega) (fun v12 hv12 => ?_)
        refine a_iast F hP hD hS 88 tc_88 rfl (i_in rfl (by omega)) dX12_readPromise_300 (fun H locs hP hD hS => ?_)
        have hR := hR.si (c := 88) (k := v11.toNatClampNeg) (v := v12) (rs_88_82_89 (by omega) ⟨i_lo _, i_hi _⟩)
        have hF := hF.si (c := 88) (k := v11.toNatClampNeg) (v := v12) rfl
        have hK_HI := sp_si sp_HI hK_HI (c := 88) (k := v11.toNatClampNeg) (v := v12) (fun j9 h9 => by have q8 := sp_mem h9; simp at q8; have q9 := i_cl (x := v11) (by omega); omega)
        have hK_S7 := sp_si (sp_s7 _) hK_S7 (c := 88) (k := v11.toNatClampNeg) (v := v12) (fun j9 h9 => by have q8 := sp_mem h9; simp at q8; have q9 := i_cl (x := v11) (by omega); omega)
        have hK_AH := sp_si sp_AH hK_AH (c := 88) (k := v11.toNatClampNeg) (v := v12) (fun j9 h9 => by have q8 := sp_mem h9; simp at q8; have q9 := i_cl (x := v11) (by omega); omega)
        exact L301 _ _ _ _ hR hF hK_HI hK_S7 hK_AH (by omega : (0 : Int) ≤ (u9.1 85 18).toInt ∧ (u9.1 85 18).toInt ≤ 5) (i_trB ((ac_ne (c := 88) (k := 6) (i := v11) (by have q9 := i_cl (x := v11) (by omega); omega)).trans ((hF9 88 6 rfl).trans ((hF7 88 6 rfl).trans (ac_ne (c := 88) (k := 6) (i := v3) (by have q9 := i_cl (x := v3) (by omega); omega))))) (by omega : (0 : Int) ≤ (u.1 88 6).toInt ∧ (u.1 88 6).toInt ≤ 7)) hP hD hS (lv_sub hl [0] rfl)
      · refine a_ic F (0 : Int32) dX12_readPromise_284 (by decide) ?_
        exact a_retz F hr hlocks hP hD hS dX12_readPromise_285 (Or.inl rfl) ⟨hR, hF, (by decide), hK_HI, hK_AH, (fun h9 => absurd (by decide) h9)⟩
  have L230 : ∀ (x1 : Int32) (z1 : Int32) (z2 : Int32) (u : ac_U) (H : Heap) (locs : List Loc) (ls : Array Slot), ac_R rg u → ac_Fr [(85, some 4), (85, some 11), (85, some 12), (85, some 13), (85, some 14), (85, some 15), (85, some 16), (85, some 18), (88, none)] u0 u → hsI u → (s7I u0) u → ahI u → (0 : Int) ≤ x1.toInt ∧ x1.toInt ≤ 7 → (74 : Int) ≤ z1.toInt ∧ z1.toInt ≤ 81 → (0 : Int) ≤ z2.toInt ∧ z2.toInt ≤ 1 → (1 : Int) ≤ (u.1 85 18).toInt ∧ (u.1 85 18).toInt ≤ 3 → (0 : Int) ≤ (u.1 88 6).toInt ∧ (u.1 88 6).toInt ≤ 7 → va_P (dC, dI) vwCl (ac_w ad cA (TT nF) u) H → va_D A (ac_w ad cA (TT nF) u) → va_S A s.heap H locs → lv_has ls 2 [(0, .ref (ad 85)), (1, .int x1)] → W p l e (ac_rm 4) s m [.ref (ad 85)].toArray below meth c H locs 0 0 (MQ below (va_Qi (fun (r : Int32) (u : ac_U) => ac_R rg u ∧ ac_Fr [(85, some 4), (85, some 11), (85, some 12), (85, some 13), (85, some 14), (85, some 15), (85, some 16), (85, some 18), (88, none)] u0 u ∧ ((0 : Int) ≤ r.toInt ∧ r.toInt ≤ 1) ∧ hsI u ∧ ahI u ∧ (r.toInt ≠ 0 → (s7P u0) u)) (ac_B (dC, dI) vwCl (ac_ty cA) ad cA (TT nF) A) A) [.ref (ad 85)].toArray s 0 0 A) (F0 m 230 ls [.int z2, .int z1, .ref (ad 88)]) := by
    intro x1 z1 z2 u H locs ls hR hF hK_HI hK_S7 hK_AH f0 f1 f2 f3 f4 hP hD hS hl
    have g13 : (0 : Int) ≤ (u.1 88 6).toInt ∧ (u.1 88 6).toInt ≤ 8 := hR 88 6
    refine a_iast F hP hD hS 88 tc_88 rfl (i_in rfl (by omega)) dX12_readPromise_230 (fun H locs hP hD hS => ?_)
    have hR := hR.si (c := 88) (k := z1.toNatClampNeg) (v := z2) (rs_88_74_81 (by omega) ⟨i_lo _, i_hi _⟩)
    have hF := hF.si (c := 88) (k := z1.toNatClampNeg) (v := z2) rfl
    have hK_HI := sp_si sp_HI hK_HI (c := 88) (k := z1.toNatClampNeg) (v := z2) (fun j9 h9 => by have q8 := sp_mem h9; simp at q8; have q9 := i_cl (x := z1) (by omega); omega)
    have hK_S7 := sp_si (sp_s7 _) hK_S7 (c := 88) (k := z1.toNatClampNeg) (v := z2) (fun j9 h9 => by have q8 := sp_mem h9; simp at q8; have q9 := i_cl (x := z1) (by omega); omega)
    have hK_AH := sp_si sp_AH hK_AH (c := 88) (k := z1.toNatClampNeg) (v := z2) (fun j9 h9 => by have q8 := sp_mem h9; simp at q8; have q9 := i_cl (x := z1) (by omega); omega)
    refine lv_aload_n F.1 F.2.1 dX12_readPromise_231 rfl (lv_at hl 0 rfl) ?_
    refine lv_ldc2 (v := (1700881256 : Int64)) F.1 F.2.1 F.2.2.2.1 (F.2.2.1 _ q1452) dX12_readPromise_232 ?_
    refine a_Vi F hml hl.1 hA hP hD hS (As := [.long (1700881256 : Int64)]) (c_X12_isWord_85 l dC dI ad cA nF _ (1700881256 : Int64) hR) (cs_RX12_206 (d := 1) F.2.2.1 (by decide)) tc_85 rfl rfl rfl rfl (Nat.le_of_ble_eq_true rfl) dX12_readPromise_235 ⟨Nat.le_refl 0, Nat.le_refl 0⟩ (fun r14 uN14 H locs hq hP hD hS => ?_)
    obtain ⟨hu14, gr14⟩ := hq
    rw [hu14] at hP hD
    refine z_eq F 245 dX12_readPromise_238 (by decide) rfl (fun c15 => ?_) (fun c15 => ?_)
    · exact L245 x1 _ _ _ _ hR hF hK_HI hK_S7 hK_AH (by omega) (by omega : (1 : Int) ≤ (u.1 85 18).toInt ∧ (u.1 85 18).toInt ≤ 3) (i_trB (ac_ne (c := 88) (k := 6) (i := z1) (by have q9 := i_cl (x := z1) (by omega); omega)) (by omega : (0 : Int) ≤ (u.1 88 6).toInt ∧ (u.1 88 6).toInt ≤ 7)) hP hD hS (lv_sub hl [0, 1] rfl)
    · refine lv_aload_n F.1 F.2.1 dX12_readPromise_241 rfl (lv_at hl 0 rfl) ?_
      refine a_Vv F hml hl.1 hA hP hD hS (As := []) (c_X12_next_85 l dC dI ad cA nF _  hR) (cs_RX12_184 (d := 2) F.2.2.1 (by decide)) tc_85 rfl rfl rfl rfl (Nat.le_of_ble_eq_true rfl) dX12_readPromise_242 ⟨Nat.le_refl 0, Nat.le_refl 0⟩ (fun u16 H locs hq hP hD hS => ?_)
      obtain ⟨hR, hF16⟩ := hq
      have hF := hF.tr hF16 (by decide)
      have hK_HI := sp_fr sp_HI hF16 (by decide) hK_HI
      have hK_S7 := sp_fr (sp_s7 _) hF16 (by decide) hK_S7
      have hK_AH := sp_fr sp_AH hF16 (by decide) hK_AH
      exact L245 x1 _ _ _ _ hR hF hK_HI hK_S7 hK_AH (by omega) (i_trB (hF16 85 18 rfl) (by omega : (1 : Int) ≤ (u.1 85 18).toInt ∧ (u.1 85 18).toInt ≤ 3)) (i_trB ((hF16 88 6 rfl).trans (ac_ne (c := 88) (k := 6) (i := z1) (by have q9 := i_cl (x := z1) (by omega); omega))) (by omega : (0 : Int) ≤ (u.1 88 6).toInt ∧ (u.1 88 6).toInt ≤ 7)) hP hD hS (lv_sub hl [0, 1] rfl)
  have L50 : ∀ (u : ac_U) (H : Heap) (locs : List Loc) (ls : Array Slot), ac_R rg u → ac_Fr [(85, some 4), (85, some 11), (85, some 12), (85, some 13), (85, some 14), (85, some 15), (85, some 16), (85, some 18), (88, none)] u0 u → hsI u → ahI u → (0 : Int) ≤ (u.1 88 6).toInt ∧ (u.1 88 6).toInt ≤ 7 → va_P (dC, dI) vwCl (ac_w ad cA (TT nF) u) H → va_D A (ac_w ad cA (TT nF) u) → va_S A s.heap H locs → lv_has ls 2 [] → W p l e (ac_rm 4) s m [.ref (ad 85)].toArray below meth c H locs 0 0 (MQ below (va_Qi (fun (r : Int32) (u : ac_U) => ac_R rg u ∧ ac_Fr [(85, some 4), (85, some 11), (85, some 12), (85, some 13), (85, some 14), (85, some 15), (85, some 16), (85, some 18), (88, none)] u0 u ∧ ((0 : Int) ≤ r.toInt ∧ r.toInt ≤ 1) ∧ hsI u ∧ ahI u ∧ (r.toInt ≠ 0 → (s7P u0) u)) (ac_B (dC, dI) vwCl (ac_ty cA) ad cA (TT nF) A) A) [.ref (ad 85)].toArray s 0 0 A) (F0 m 50 ls []) := by
    intro u H locs ls hR hF hK_HI hK_AH f0 hP hD hS hl
    refine a_ic F (0 : Int32) dX12_readPromise_50 (by decide) ?_
    exact a_retz F hr hlocks hP hD hS dX12_readPromise_51 (Or.inl rfl) ⟨hR, hF, (by decide), hK_HI, hK_AH, (fun h9 => absurd (by decide) h9)⟩
  refine lv_aload_n F.1 F.2.1 dX12_readPromise_0 rfl (lv_at hl 0 rfl) ?_
  refine a_getr F inX12 hP 85 7 tc_85 rfl rfl (by decide) q1478 (fun _ h9 => h9) dX12_readPromise_1 ?_
  refine a_bp F (6 : Int32) dX12_readPromise_4 (by decide) ?_
  have g17 : (0 : Int) ≤ (u0.1 88 6).toInt ∧ (u0.1 88 6).toInt ≤ 8 := hR 88 6
  refine a_ialdK F hP 88 6 tc_88 rfl rfl (i_in ic_6 (by omega)) (v := (u0.1 88 6)) rfl dX12_readPromise_6 ?_
  refine lv_istore_n (lv' := [(1, .int (u0.1 88 6)), (0, .ref (ad 85))]) F.1 F.2.1 dX12_readPromise_7 rfl hl (by decide) rfl (fun ls hl => ?_)
  refine lv_iload_n F.1 F.2.1 dX12_readPromise_8 rfl (lv_at hl 0 rfl) ?_
  refine a_bp F (8 : Int32) dX12_readPromise_9 (by decide) ?_
  refine b_ne F 20 dX12_readPromise_11 (by decide) rfl ic_8 (fun c18 => ?_) (fun c18 => ?_)
  · refine lv_aload_n F.1 F.2.1 dX12_readPromise_20 rfl (lv_at hl 1 rfl) ?_
    refine a_Vv F hml hl.1 hA hP hD hS (As := []) (c_X12_next_85 l dC dI ad cA nF _  hR) (cs_RX12_184 (d := 2) F.2.2.1 (by decide)) tc_85 rfl rfl rfl rfl (Nat.le_of_ble_eq_true rfl) dX12_readPromise_21 ⟨Nat.le_refl 0, Nat.le_refl 0⟩ (fun u19 H locs hq hP hD hS => ?_)
    obtain ⟨hR, hF19⟩ := hq
    have hF := hF.tr hF19 (by decide)
    have hK_HI := sp_fr sp_HI hF19 (by decide) hK_HI
    have hK_AH := sp_fr sp_AH hF19 (by decide) hK_AH
    have hK_S7 := sp_fr (sp_s7 _) hF19 (by decide) hK_S7
    refine lv_aload_n F.1 F.2.1 dX12_readPromise_24 rfl (lv_at hl 1 rfl) ?_
    refine a_bp F (44 : Int32) dX12_readPromise_25 (by decide) ?_
    refine lv_iload_n F.1 F.2.1 dX12_readPromise_27 rfl (lv_at hl 0 rfl) ?_
    refine a_iadd F dX12_readPromise_28 ic_44 rfl (by omega) (fun v20 hv20 => ?_)
    refine a_Vi F hml hl.1 hA hP hD hS (As := [.int v20]) (c_X12_fresh_85 l dC dI ad cA nF _ v20 hR (by omega)) (cs_RX12_217 (d := 3) F.2.2.1 (by decide)) tc_85 rfl rfl rfl rfl (Nat.le_of_ble_eq_true rfl) dX12_readPromise_29 ⟨Nat.le_refl 0, Nat.le_refl 0⟩ (fun r21 u21 H locs hq hP hD hS => ?_)
    obtain ⟨hR, hF21, gr21⟩ := hq
    have hF := hF.tr hF21 (by decide)
    have hK_HI := sp_fr sp_HI hF21 (by decide) hK_HI
    have hK_AH := sp_fr sp_AH hF21 (by decide) hK_AH
    have hK_S7 := sp_fr (sp_s7 _) hF21 (by decide) hK_S7
    refine z_eq F 50 dX12_readPromise_32 (by decide) rfl (fun c22 => ?_) (fun c22 => ?_)
    · exact L50 _ _ _ _ hR hF hK_HI hK_AH (i_trB ((hF21 88 6 rfl).trans (hF19 88 6 rfl)) (by omega : (0 : Int) ≤ (u0.1 88 6).toInt ∧ (u0.1 88 6).toInt ≤ 7)) hP hD hS (lv_sub hl [] rfl)
    · refine lv_aload_n F.1 F.2.1 dX12_readPromise_35 rfl (lv_at hl 1 rfl) ?_
      refine a_bp F (34 : Int32) dX12_readPromise_36 (by decide) ?_
      refine lv_aload_n F.1 F.2.1 dX12_readPromise_38 rfl (lv_at hl 1 rfl) ?_
      refine a_getr F inX12 hP 85 7 tc_85 rfl rfl (by decide) q1478 (fun _ h9 => h9) dX12_readPromise_39 ?_
      refine a_ic F (4 : Int32) dX12_readPromise_42 (by decide) ?_
      have g23 : (0 : Int) ≤ (u21.1 88 4).toInt ∧ (u21.1 88 4).toInt ≤ 4 := hR 88 4
      refine a_ialdK F hP 88 4 tc_88 rfl rfl (i_in ic_4 (by omega)) (v := (u21.1 88 4)) rfl dX12_readPromise_43 ?_
      refine a_Vi F hml hl.1 hA hP hD hS (As := [.int (34 : Int32), .int (u21.1 88 4)]) (c_X12_takesName_85 l dC dI ad cA nF _ (34 : Int32) (u21.1 88 4) hR (by decide) (by omega) (by simp only [ic_34]; omega)) (cs_RX12_220 (d := 3) F.2.2.1 (by decide)) tc_85 rfl rfl rfl rfl (Nat.le_of_ble_eq_true rfl) dX12_readPromise_44 ⟨Nat.le_refl 0, Nat.le_refl 0⟩ (fun r24 u24 H locs hq hP hD hS => ?_)
      obtain ⟨hR, hF24, gr24, xr24⟩ := hq
      have hF := hF.tr hF24 (by decide)
      have hK_HI := sp_fr sp_HI hF24 (by decide) hK_HI
      have hK_AH := sp_fr sp_AH hF24 (by decide) hK_AH
      have hK_S7 := sp_fr (sp_s7 _) hF24 (by decide) hK_S7
      have xr24 : r24.toInt ≠ 0 → 0 ≤ (u24.1 85 18).toInt ∧ (u24.1 85 18).toInt < (u21.1 88 4).toInt := xr24
      refine z_ne F 52 dX12_readPromise_47 (by decide) rfl (fun c25 => ?_) (fun c25 => ?_)
      · refine lv_aload_n F.1 F.2.1 dX12_readPromise_52 rfl (lv_at hl 1 rfl) ?_
        refine a_getr F inX12 hP 85 7 tc_85 rfl rfl (by decide) q1478 (fun _ h9 => h9) dX12_readPromise_53 ?_
        refine a_bp F (26 : Int32) dX12_readPromise_56 (by decide) ?_
        refine lv_iload_n F.1 F.2.1 dX12_readPromise_58 rfl (lv_at hl 0 rfl) ?_
        refine a_iadd F dX12_readPromise_59 ic_26 rfl (by omega) (fun v26 hv26 => ?_)
        refine lv_aload_n F.1 F.2.1 dX12_readPromise_60 rfl (lv_at hl 1 rfl) ?_
        refine a_geti F inX12 hP 85 18 tc_85 rfl rfl (by decide) q1489 (fun _ h9 => h9) (v := (u24.1 85 18)) (rfl) dX12_readPromise_61 ?_
        refine a_iast F hP hD hS 88 tc_88 rfl (i_in rfl (by omega)) dX12_readPromise_64 (fun H locs hP hD hS => ?_)
        have hR := hR.si (c := 88) (k := v26.toNatClampNeg) (v := (u24.1 85 18)) (rs_88_26_33 (by omega) ⟨i_lo _, i_hi _⟩)
        have hF := hF.si (c := 88) (k := v26.toNatClampNeg) (v := (u24.1 85 18)) rfl
        have hK_HI := sp_si sp_HI hK_HI (c := 88) (k := v26.toNatClampNeg) (v := (u24.1 85 18)) (fun j9 h9 => by have q8 := sp_mem h9; simp at q8; have q9 := i_cl (x := v26) (by omega); omega)
        have hK_AH := sp_si sp_AH hK_AH (c := 88) (k := v26.toNatClampNeg) (v := (u24.1 85 18)) (fun j9 h9 => by have q8 := sp_mem h9; simp at q8; have q9 := i_cl (x := v26) (by omega); omega)
        have hK_S7 := sp_si (sp_s7 _) hK_S7 (c := 88) (k := v26.toNatClampNeg) (v := (u24.1 85 18)) (fun j9 h9 => by have q8 := sp_mem h9; simp at q8; have q9 := i_cl (x := v26) (by omega); omega)
        refine lv_aload_n F.1 F.2.1 dX12_readPromise_65 rfl (lv_at hl 1 rfl) ?_
        refine a_bp F (38 : Int32) dX12_readPromise_66 (by decide) ?_
        refine lv_aload_n F.1 F.2.1 dX12_readPromise_68 rfl (lv_at hl 1 rfl) ?_
        refine a_getr F inX12 hP 85 7 tc_85 rfl rfl (by decide) q1478 (fun _ h9 => h9) dX12_readPromise_69 ?_
        refine a_ic F (5 : Int32) dX12_readPromise_72 (by decide) ?_
        refine a_iald F hP 88 tc_88 rfl (i_in ic_5 (by omega)) dX12_readPromise_73 (fun v27 ev27 => ?_)
        have hv27 : (0 : Int) ≤ v27.toInt ∧ v27.toInt ≤ 6 := ev27 ▸ hR 88 _
        refine a_Vi F hml hl.1 hA hP hD hS (As := [.int (38 : Int32), .int v27]) (c_X12_takesName_85 l dC dI ad cA nF _ (38 : Int32) v27 hR (by decide) (by omega) (by simp only [ic_38]; omega)) (cs_RX12_220 (d := 3) F.2.2.1 (by decide)) tc_85 rfl rfl rfl rfl (Nat.le_of_ble_eq_true rfl) dX12_readPromise_74 ⟨Nat.le_refl 0, Nat.le_refl 0⟩ (fun r28 u28 H locs hq hP hD hS => ?_)
        obtain ⟨hR, hF28, gr28, xr28⟩ := hq
        have hF := hF.tr hF28 (by decide)
        have hK_HI := sp_fr sp_HI hF28 (by decide) hK_HI
        have hK_AH := sp_fr sp_AH hF28 (by decide) hK_AH
        have hK_S7 := sp_fr (sp_s7 _) hF28 (by decide) hK_S7
        have xr28 : r28.toInt ≠ 0 → 0 ≤ (u28.1 85 18).toInt ∧ (u28.1 85 18).toInt < v27.toInt := xr28
        refine z_ne F 82 dX12_readPromise_77 (by decide) rfl (fun c29 => ?_) (fun c29 => ?_)
        · refine lv_aload_n F.1 F.2.1 dX12_readPromise_82 rfl (lv_at hl 1 rfl) ?_
          refine a_getr F inX12 hP 85 7 tc_85 rfl rfl (by decide) q1478 (fun _ h9 => h9) dX12_readPromise_83 ?_
          refine a_bp F (34 : Int32) dX12_readPromise_86 (by decide) ?_
          refine lv_iload_n F.1 F.2.1 dX12_readPromise_88 rfl (lv_at hl 0 rfl) ?_
          refine a_iadd F dX12_readPromise_89 ic_34 rfl (by omega) (fun v30 hv30 => ?_)
          refine lv_aload_n F.1 F.2.1 dX12_readPromise_90 rfl (lv_at hl 1 rfl) ?_
          refine a_geti F inX12 hP 85 18 tc_85 rfl rfl (by decide) q1489 (fun _ h9 => h9) (v := (u28.1 85 18)) (rfl) dX12_readPromise_91 ?_
          refine a_iast F hP hD hS 88 tc_88 rfl (i_in rfl (by omega)) dX12_readPromise_94 (fun H locs hP hD hS => ?_)
          have hR := hR.si (c := 88) (k := v30.toNatClampNeg) (v := (u28.1 85 18)) (rs_88_34_41 (by omega) ⟨i_lo _, i_hi _⟩)
          have hF := hF.si (c := 88) (k := v30.toNatClampNeg) (v := (u28.1 85 18)) rfl
          have hK_HI := sp_si sp_HI hK_HI (c := 88) (k := v30.toNatClampNeg) (v := (u28.1 85 18)) (fun j9 h9 => by have q8 := sp_mem h9; simp at q8; have q9 := i_cl (x := v30) (by omega); omega)
          have hK_AH := sp_si sp_AH hK_AH (c := 88) (k := v30.toNatClampNeg) (v := (u28.1 85 18)) (fun j9 h9 => by have q8 := sp_mem h9; simp at q8; have q9 := i_cl (x := v30) (by omega); omega)
          have hK_S7 := sp_si (sp_s7 _) hK_S7 (c := 88) (k := v30.toNatClampNeg) (v := (u28.1 85 18)) (fun j9 h9 => by have q8 := sp_mem h9; simp at q8; have q9 := i_cl (x := v30) (by omega); omega)
          refine lv_aload_n F.1 F.2.1 dX12_readPromise_95 rfl (lv_at hl 1 rfl) ?_
          refine a_bp F (26 : Int32) dX12_readPromise_96 (by decide) ?_
          refine lv_aload_n F.1 F.2.1 dX12_readPromise_98 rfl (lv_at hl 1 rfl) ?_
          refine a_getr F inX12 hP 85 7 tc_85 rfl rfl (by decide) q1478 (fun _ h9 => h9) dX12_readPromise_99 ?_
          refine a_ic F (1 : Int32) dX12_readPromise_102 (by decide) ?_
          refine a_iald F hP 88 tc_88 rfl (i_in ic_1 (by omega)) dX12_readPromise_103 (fun v31 ev31 => ?_)
          have hv31 : (0 : Int) ≤ v31.toInt ∧ v31.toInt ≤ 8 := ev31 ▸ hR 88 _
          refine a_Vi F hml hl.1 hA hP hD hS (As := [.int (26 : Int32), .int v31]) (c_X12_takesName_85 l dC dI ad cA nF _ (26 : Int32) v31 hR (by decide) (by omega) (by simp only [ic_26]; omega)) (cs_RX12_220 (d := 3) F.2.2.1 (by decide)) tc_85 rfl rfl rfl rfl (Nat.le_of_ble_eq_true rfl) dX12_readPromise_104 ⟨Nat.le_refl 0, Nat.le_refl 0⟩ (fun r32 u32 H locs hq hP hD hS => ?_)
          obtain ⟨hR, hF32, gr32, xr32⟩ := hq
          have hF := hF.tr hF32 (by decide)
          have hK_HI := sp_fr sp_HI hF32 (by decide) hK_HI
          have hK_AH := sp_fr sp_AH hF32 (by decide) hK_AH
          have hK_S7 := sp_fr (sp_s7 _) hF32 (by decide) hK_S7
          have xr32 : r32.toInt ≠ 0 → 0 ≤ (u32.1 85 18).toInt ∧ (u32.1 85 18).toInt < v31.toInt := xr32
          refine z_ne F 112 dX12_readPromise_107 (by decide) rfl (fun c33 => ?_) (fun c33 => ?_)
          · refine lv_aload_n F.1 F.2.1 dX12_readPromise_112 rfl (lv_at hl 1 rfl) ?_
            refine a_getr F inX12 hP 85 7 tc_85 rfl rfl (by decide) q1478 (fun _ h9 => h9) dX12_readPromise_113 ?_
            refine a_bp F (42 : Int32) dX12_readPromise_116 (by decide) ?_
            refine lv_iload_n F.1 F.2.1 dX12_readPromise_118 rfl (lv_at hl 0 rfl) ?_
            refine a_iadd F dX12_readPromise_119 ic_42 rfl (by omega) (fun v34 hv34 => ?_)
            refine lv_aload_n F.1 F.2.1 dX12_readPromise_120 rfl (lv_at hl 1 rfl) ?_
            refine a_geti F inX12 hP 85 18 tc_85 rfl rfl (by decide) q1489 (fun _ h9 => h9) (v := (u32.1 85 18)) (rfl) dX12_readPromise_121 ?_
            refine a_iast F hP hD hS 88 tc_88 rfl (i_in rfl (by omega)) dX12_readPromise_124 (fun H locs hP hD hS => ?_)
            have hR := hR.si (c := 88) (k := v34.toNatClampNeg) (v := (u32.1 85 18)) (rs_88_42_49 (by omega) (by omega : (0 : Int) ≤ (u32.1 85 18).toInt ∧ (u32.1 85 18).toInt ≤ 7))
            have hF := hF.si (c := 88) (k := v34.toNatClampNeg) (v := (u32.1 85 18)) rfl
            have hK_HI := sp_si sp_HI hK_HI (c := 88) (k := v34.toNatClampNeg) (v := (u32.1 85 18)) (fun j9 h9 => by have q8 := sp_mem h9; simp at q8; have q9 := i_cl (x := v34) (by omega); omega)
            have hK_AH := sp_si sp_AH hK_AH (c := 88) (k := v34.toNatClampNeg) (v := (u32.1 85 18)) (fun j9 h9 => by have q8 := sp_mem h9; simp at q8; have q9 := i_cl (x := v34) (by omega); omega)
            have hK_S7 := sp_si (sp_s7 _) hK_S7 (c := 88) (k := v34.toNatClampNeg) (v := (u32.1 85 18)) (fun j9 h9 => by have q8 := sp_mem h9; simp at q8; have q9 := i_cl (x := v34) (by omega); omega)
            refine lv_aload_n F.1 F.2.1 dX12_readPromise_125 rfl (lv_at hl 1 rfl) ?_
            refine a_ic F (0 : Int32) dX12_readPromise_126 (by decide) ?_
            refine a_bp F (23 : Int32) dX12_readPromise_127 (by decide) ?_
            refine a_Vi F hml hl.1 hA hP hD hS (As := [.int (0 : Int32), .int (23 : Int32)]) (c_X12_takes_85 l dC dI ad cA nF _ (0 : Int32) (23 : Int32) hR (by decide)) (cs_RX12_214 (d := 3) F.2.2.1 (by decide)) tc_85 rfl rfl rfl rfl (Nat.le_of_ble_eq_true rfl) dX12_readPromise_129 ⟨Nat.le_refl 0, Nat.le_refl 0⟩ (fun r35 u35 H locs hq hP hD hS => ?_)
            obtain ⟨hR, hF35, gr35, xr35⟩ := hq
            have hF := hF.tr hF35 (by decide)
            have hK_HI := sp_fr sp_HI hF35 (by decide) hK_HI
            have hK_AH := sp_fr sp_AH hF35 (by decide) hK_AH
            have hK_S7 := sp_fr (sp_s7 _) hF35 (by decide) hK_S7
            have xr35 : r35.toInt ≠ 0 → (0 : Int) ≤ (u35.1 85 18).toInt ∧ (u35.1 85 18).toInt ≤ (23 : Int) := xr35
            refine z_ne F 137 dX12_readPromise_132 (by decide) rfl (fun c36 => ?_) (fun c36 => ?_)
            · refine lv_aload_n F.1 F.2.1 dX12_readPromise_137 rfl (lv_at hl 1 rfl) ?_
              refine a_getr F inX12 hP 85 7 tc_85 rfl rfl (by decide) q1478 (fun _ h9 => h9) dX12_readPromise_138 ?_
              refine a_bp F (50 : Int32) dX12_readPromise_141 (by decide) ?_
              refine lv_iload_n F.1 F.2.1 dX12_readPromise_143 rfl (lv_at hl 0 rfl) ?_
              refine a_iadd F dX12_readPromise_144 ic_50 rfl (by omega) (fun v37 hv37 => ?_)
              refine lv_aload_n F.1 F.2.1 dX12_readPromise_145 rfl (lv_at hl 1 rfl) ?_
              refine a_geti F inX12 hP 85 18 tc_85 rfl rfl (by decide) q1489 (fun _ h9 => h9) (v := (u35.1 85 18)) (rfl) dX12_readPromise_146 ?_
              refine a_iast F hP hD hS 88 tc_88 rfl (i_in rfl (by omega)) dX12_readPromise_149 (fun H locs hP hD hS => ?_)
              have hR := hR.si (c := 88) (k := v37.toNatClampNeg) (v := (u35.1 85 18)) (rs_88_50_57 (by omega) ⟨i_lo _, i_hi _⟩)
              have hF := hF.si (c := 88) (k := v37.toNatClampNeg) (v := (u35.1 85 18)) rfl
              have hK_HI := sp_si sp_HI hK_HI (c := 88) (k := v37.toNatClampNeg) (v := (u35.1 85 18)) (fun j9 h9 => by have q8 := sp_mem h9; simp at q8; have q9 := i_cl (x := v37) (by omega); omega)
              have hK_AH := sp_si sp_AH hK_AH (c := 88) (k := v37.toNatClampNeg) (v := (u35.1 85 18)) (fun j9 h9 => by have q8 := sp_mem h9; simp at q8; have q9 := i_cl (x := v37) (by omega); omega)
              have hK_S7 := sp_si (sp_s7 _) hK_S7 (c := 88) (k := v37.toNatClampNeg) (v := (u35.1 85 18)) (fun j9 h9 => by have q8 := sp_mem h9; simp at q8; have q9 := i_cl (x := v37) (by omega); omega)
              refine lv_aload_n F.1 F.2.1 dX12_readPromise_150 rfl (lv_at hl 1 rfl) ?_
              refine lv_aload_n F.1 F.2.1 dX12_readPromise_151 rfl (lv_at hl 1 rfl) ?_
              refine a_getr F inX12 hP 85 7 tc_85 rfl rfl (by decide) q1478 (fun _ h9 => h9) dX12_readPromise_152 ?_
              refine a_bp F (50 : Int32) dX12_readPromise_155 (by decide) ?_
              refine lv_iload_n F.1 F.2.1 dX12_readPromise_157 rfl (lv_at hl 0 rfl) ?_
              refine a_iadd F dX12_readPromise_158 ic_50 rfl (by omega) (fun v38 hv38 => ?_)
              refine a_iald F hP 88 tc_88 rfl (i_in rfl (by omega)) dX12_readPromise_159 (fun v39 ev39 => ?_)
              refine a_bp F (23 : Int32) dX12_readPromise_160 (by decide) ?_
              refine a_Vi F hml hl.1 hA hP hD hS (As := [.int v39, .int (23 : Int32)]) (c_X12_takes_85 l dC dI ad cA nF _ v39 (23 : Int32) hR (by decide)) (cs_RX12_214 (d := 3) F.2.2.1 (by decide)) tc_85 rfl rfl rfl rfl (Nat.le_of_ble_eq_true rfl) dX12_readPromise_162 ⟨Nat.le_refl 0, Nat.le_refl 0⟩ (fun r40 u40 H locs hq hP hD hS => ?_)
              obtain ⟨hR, hF40, gr40, xr40⟩ := hq
              have hF := hF.tr hF40 (by decide)
              have hK_HI := sp_fr sp_HI hF40 (by decide) hK_HI
              have hK_AH := sp_fr sp_AH hF40 (by decide) hK_AH
              have hK_S7 := sp_fr (sp_s7 _) hF40 (by decide) hK_S7
              have xr40 : r40.toInt ≠ 0 → v39.toInt ≤ (u40.1 85 18).toInt ∧ (u40.1 85 18).toInt ≤ (23 : Int) := xr40
              refine z_ne F 170 dX12_readPromise_165 (by decide) rfl (fun c41 => ?_) (fun c41 => ?_)
              · refine lv_aload_n F.1 F.2.1 dX12_readPromise_170 rfl (lv_at hl 1 rfl) ?_
                refine a_getr F inX12 hP 85 7 tc_85 rfl rfl (by decide) q1478 (fun _ h9 => h9) dX12_readPromise_171 ?_
                refine a_bp F (58 : Int32) dX12_readPromise_174 (by decide) ?_
                refine lv_iload_n F.1 F.2.1 dX12_readPromise_176 rfl (lv_at hl 0 rfl) ?_
                refine a_iadd F dX12_readPromise_177 ic_58 rfl (by omega) (fun v42 hv42 => ?_)
                refine lv_aload_n F.1 F.2.1 dX12_readPromise_178 rfl (lv_at hl 1 rfl) ?_
                refine a_geti F inX12 hP 85 18 tc_85 rfl rfl (by decide) q1489 (fun _ h9 => h9) (v := (u40.1 85 18)) (rfl) dX12_readPromise_179 ?_
                refine a_iast F hP hD hS 88 tc_88 rfl (i_in rfl (by omega)) dX12_readPromise_182 (fun H locs hP hD hS => ?_)
                have hR := hR.si (c := 88) (k := v42.toNatClampNeg) (v := (u40.1 85 18)) (rs_88_58_65 (by omega) ⟨i_lo _, i_hi _⟩)
                have hF := hF.si (c := 88) (k := v42.toNatClampNeg) (v := (u40.1 85 18)) rfl
                have hK_HI := sp_si sp_HI hK_HI (c := 88) (k := v42.toNatClampNeg) (v := (u40.1 85 18)) (fun j9 h9 => by have q8 := sp_mem h9; simp at q8; have q9 := i_cl (x := v42) (by omega); omega)
                have hK_AH := sp_si sp_AH hK_AH (c := 88) (k := v42.toNatClampNeg) (v := (u40.1 85 18)) (fun j9 h9 => by have q8 := sp_mem h9; simp at q8; have q9 := i_cl (x := v42) (by omega); omega)
                have hK_S7 := sp_si (sp_s7 _) hK_S7 (c := 88) (k := v42.toNatClampNeg) (v := (u40.1 85 18)) (fun j9 h9 => by have q8 := sp_mem h9; simp at q8; have q9 := i_cl (x := v42) (by omega); omega)
                refine lv_aload_n F.1 F.2.1 dX12_readPromise_183 rfl (lv_at hl 1 rfl) ?_
                refine a_ic F (1 : Int32) dX12_readPromise_184 (by decide) ?_
                refine a_ic F (3 : Int32) dX12_readPromise_185 (by decide) ?_
                refine a_Vi F hml hl.1 hA hP hD hS (As := [.int (1 : Int32), .int (3 : Int32)]) (c_X12_takes_85 l dC dI ad cA nF _ (1 : Int32) (3 : Int32) hR (by decide)) (cs_RX12_214 (d := 3) F.2.2.1 (by decide)) tc_85 rfl rfl rfl rfl (Nat.le_of_ble_eq_true rfl) dX12_readPromise_186 ⟨Nat.le_refl 0, Nat.le_refl 0⟩ (fun r43 u43 H locs hq hP hD hS => ?_)
                obtain ⟨hR, hF43, gr43, xr43⟩ := hq
                have hF := hF.tr hF43 (by decide)
                have hK_HI := sp_fr sp_HI hF43 (by decide) hK_HI
                have hK_AH := sp_fr sp_AH hF43 (by decide) hK_AH
                have hK_S7 := sp_fr (sp_s7 _) hF43 (by decide) hK_S7
                have xr43 : r43.toInt ≠ 0 → (1 : Int) ≤ (u43.1 85 18).toInt ∧ (u43.1 85 18).toInt ≤ (3 : Int) := xr43
                refine z_ne F 194 dX12_readPromise_189 (by decide) rfl (fun c44 => ?_) (fun c44 => ?_)
                · refine lv_aload_n F.1 F.2.1 dX12_readPromise_194 rfl (lv_at hl 1 rfl) ?_
                  refine a_getr F inX12 hP 85 7 tc_85 rfl rfl (by decide) q1478 (fun _ h9 => h9) dX12_readPromise_195 ?_
                  refine a_bp F (66 : Int32) dX12_readPromise_198 (by decide) ?_
                  refine lv_iload_n F.1 F.2.1 dX12_readPromise_200 rfl (lv_at hl 0 rfl) ?_
                  refine a_iadd F dX12_readPromise_201 ic_66 rfl (by omega) (fun v45 hv45 => ?_)
                  refine lv_aload_n F.1 F.2.1 dX12_readPromise_202 rfl (lv_at hl 1 rfl) ?_
                  refine a_geti F inX12 hP 85 18 tc_85 rfl rfl (by decide) q1489 (fun _ h9 => h9) (v := (u43.1 85 18)) (rfl) dX12_readPromise_203 ?_
                  refine a_iast F hP hD hS 88 tc_88 rfl (i_in rfl (by omega)) dX12_readPromise_206 (fun H locs hP hD hS => ?_)
                  have hR := hR.si (c := 88) (k := v45.toNatClampNeg) (v := (u43.1 85 18)) (rs_88_66_73 (by omega) (by omega : (0 : Int) ≤ (u43.1 85 18).toInt ∧ (u43.1 85 18).toInt ≤ 3))
                  have hF := hF.si (c := 88) (k := v45.toNatClampNeg) (v := (u43.1 85 18)) rfl
                  have hK_HI := sp_si sp_HI hK_HI (c := 88) (k := v45.toNatClampNeg) (v := (u43.1 85 18)) (fun j9 h9 => by have q8 := sp_mem h9; simp at q8; have q9 := i_cl (x := v45) (by omega); omega)
                  have hK_AH := sp_si sp_AH hK_AH (c := 88) (k := v45.toNatClampNeg) (v := (u43.1 85 18)) (fun j9 h9 => by have q8 := sp_mem h9; simp at q8; have q9 := i_cl (x := v45) (by omega); omega)
                  have hK_S7 := sp_si (sp_s7 _) hK_S7 (c := 88) (k := v45.toNatClampNeg) (v := (u43.1 85 18)) (fun j9 h9 => by have q8 := sp_mem h9; simp at q8; have q9 := i_cl (x := v45) (by omega); omega)
                  refine lv_aload_n F.1 F.2.1 dX12_readPromise_207 rfl (lv_at hl 1 rfl) ?_
                  refine a_getr F inX12 hP 85 7 tc_85 rfl rfl (by decide) q1478 (fun _ h9 => h9) dX12_readPromise_208 ?_
                  refine a_bp F (74 : Int32) dX12_readPromise_211 (by decide) ?_
                  refine lv_iload_n F.1 F.2.1 dX12_readPromise_213 rfl (lv_at hl 0 rfl) ?_
                  refine a_iadd F dX12_readPromise_214 ic_74 rfl (by omega) (fun v46 hv46 => ?_)
                  refine lv_aload_n F.1 F.2.1 dX12_readPromise_215 rfl (lv_at hl 1 rfl) ?_
                  refine lv_ldc2 (v := (1700881256 : Int64)) F.1 F.2.1 F.2.2.2.1 (F.2.2.1 _ q1452) dX12_readPromise_216 ?_
                  refine a_Vi F hml hl.1 hA hP hD hS (As := [.long (1700881256 : Int64)]) (c_X12_isWord_85 l dC dI ad cA nF _ (1700881256 : Int64) hR) (cs_RX12_206 (d := 1) F.2.2.1 (by decide)) tc_85 rfl rfl rfl rfl (Nat.le_of_ble_eq_true rfl) dX12_readPromise_219 ⟨Nat.le_refl 0, Nat.le_refl 0⟩ (fun r47 uN47 H locs hq hP hD hS => ?_)
                  obtain ⟨hu47, gr47⟩ := hq
                  rw [hu47] at hP hD
                  refine z_eq F 229 dX12_readPromise_222 (by decide) rfl (fun c48 => ?_) (fun c48 => ?_)
                  · refine a_ic F (0 : Int32) dX12_readPromise_229 (by decide) ?_
                    exact L230 (u0.1 88 6) v46 (0 : Int32) _ _ _ _ hR hF hK_HI hK_S7 hK_AH (by omega) (by omega) (by decide) (by omega : (1 : Int) ≤ (u43.1 85 18).toInt ∧ (u43.1 85 18).toInt ≤ 3) (i_trB ((ac_ne (c := 88) (k := 6) (i := v45) (by have q9 := i_cl (x := v45) (by omega); omega)).trans ((hF43 88 6 rfl).trans ((ac_ne (c := 88) (k := 6) (i := v42) (by have q9 := i_cl (x := v42) (by omega); omega)).trans ((hF40 88 6 rfl).trans ((ac_ne (c := 88) (k := 6) (i := v37) (by have q9 := i_cl (x := v37) (by omega); omega)).trans ((hF35 88 6 rfl).trans ((ac_ne (c := 88) (k := 6) (i := v34) (by have q9 := i_cl (x := v34) (by omega); omega)).trans ((hF32 88 6 rfl).trans ((ac_ne (c := 88) (k := 6) (i := v30) (by have q9 := i_cl (x := v30) (by omega); omega)).trans ((hF28 88 6 rfl).trans ((ac_ne (c := 88) (k := 6) (i := v26) (by have q9 := i_cl (x := v26) (by omega); omega)).trans ((hF24 88 6 rfl).trans ((hF21 88 6 rfl).trans (hF19 88 6 rfl)))))))))))))) (by omega : (0 : Int) ≤ (u0.1 88 6).toInt ∧ (u0.1 88 6).toInt ≤ 7)) hP hD hS (lv_sub hl [1, 0] rfl)
                  · refine a_ic F (1 : Int32) dX12_readPromise_225 (by decide) ?_
                    refine lv_goto (tgt := 230) F.1 F.2.1 dX12_readPromise_226 (by decide) ?_
                    exact L230 (u0.1 88 6) v46 (1 : Int32) _ _ _ _ hR hF hK_HI hK_S7 hK_AH (by omega) (by omega) (by decide) (by omega : (1 : Int) ≤ (u43.1 85 18).toInt ∧ (u43.1 85 18).toInt ≤ 3) (i_trB ((ac_ne (c := 88) (k := 6) (i := v45) (by have q9 := i_cl (x := v45) (by omega); omega)).trans ((hF43 88 6 rfl).trans ((ac_ne (c := 88) (k := 6) (i := v42) (by have q9 := i_cl (x := v42) (by omega); omega)).trans ((hF40 88 6 rfl).trans ((ac_ne (c := 88) (k := 6) (i := v37) (by have q9 := i_cl (x := v37) (by omega); omega)).trans ((hF35 88 6 rfl).trans ((ac_ne (c := 88) (k := 6) (i := v34) (by have q9 := i_cl (x := v34) (by omega); omega)).trans ((hF32 88 6 rfl).trans ((ac_ne (c := 88) (k := 6) (i := v30) (by have q9 := i_cl (x := v30) (by omega); omega)).trans ((hF28 88 6 rfl).trans ((ac_ne (c := 88) (k := 6) (i := v26) (by have q9 := i_cl (x := v26) (by omega); omega)).trans ((hF24 88 6 rfl).trans ((hF21 88 6 rfl).trans (hF19 88 6 rfl)))))))))))))) (by omega : (0 : Int) ≤ (u0.1 88 6).toInt ∧ (u0.1 88 6).toInt ≤ 7)) hP hD hS (lv_sub hl [1, 0] rfl)
                · refine a_ic F (0 : Int32) dX12_readPromise_192 (by decide) ?_
                  exact a_retz F hr hlocks hP hD hS dX12_readPromise_193 (Or.inl rfl) ⟨hR, hF, (by decide), hK_HI, hK_AH, (fun h9 => absurd (by decide) h9)⟩
              · refine a_ic F (0 : Int32) dX12_readPromise_168 (by decide) ?_
                exact a_retz F hr hlocks hP hD hS dX12_readPromise_169 (Or.inl rfl) ⟨hR, hF, (by decide), hK_HI, hK_AH, (fun h9 => absurd (by decide) h9)⟩
            · refine a_ic F (0 : Int32) dX12_readPromise_135 (by decide) ?_
              exact a_retz F hr hlocks hP hD hS dX12_readPromise_136 (Or.inl rfl) ⟨hR, hF, (by decide), hK_HI, hK_AH, (fun h9 => absurd (by decide) h9)⟩
          · refine a_ic F (0 : Int32) dX12_readPromise_110 (by decide) ?_
            exact a_retz F hr hlocks hP hD hS dX12_readPromise_111 (Or.inl rfl) ⟨hR, hF, (by decide), hK_HI, hK_AH, (fun h9 => absurd (by decide) h9)⟩
        · refine a_ic F (0 : Int32) dX12_readPromise_80 (by decide) ?_
          exact a_retz F hr hlocks hP hD hS dX12_readPromise_81 (Or.inl rfl) ⟨hR, hF, (by decide), hK_HI, hK_AH, (fun h9 => absurd (by decide) h9)⟩
      · exact L50 _ _ _ _ hR hF hK_HI hK_AH (i_trB ((hF24 88 6 rfl).trans ((hF21 88 6 rfl).trans (hF19 88 6 rfl))) (by omega : (0 : Int) ≤ (u0.1 88 6).toInt ∧ (u0.1 88 6).toInt ≤ 7)) hP hD hS (lv_sub hl [] rfl)
  · refine lv_aload_n F.1 F.2.1 dX12_readPromise_14 rfl (lv_at hl 1 rfl) ?_
    refine a_ic F (4 : Int32) dX12_readPromise_15 (by decide) ?_
    refine a_Vi F hml hl.1 hA hP hD hS (As := [.int (4 : Int32)]) (c_X12_bad_85 l dC dI ad cA nF _ (4 : Int32) hR (by decide)) (cs_RX12_181 (d := 1) F.2.2.1 (by decide)) tc_85 rfl rfl rfl rfl (Nat.le_of_ble_eq_true rfl) dX12_readPromise_16 ⟨Nat.le_refl 0, Nat.le_refl 0⟩ (fun r49 u49 H locs hq hP hD hS => ?_)
    obtain ⟨hR, hF49, gr49⟩ := hq
    have hF := hF.tr hF49 (by decide)
    have hK_HI := sp_fr sp_HI hF49 (by decide) hK_HI
    have hK_AH := sp_fr sp_AH hF49 (by decide) hK_AH
    have hK_S7 := sp_fr (sp_s7 _) hF49 (by decide) hK_S7
    exact a_retz F hr hlocks hP hD hS dX12_readPromise_19 (i_01 (by omega)) ⟨hR, hF, (by omega : (0 : Int) ≤ r49.toInt ∧ r49.toInt ≤ 1), hK_HI, hK_AH, (fun h9 => absurd (by omega : r49.toInt = 0) h9)⟩
set_option maxHeartbeats 600000 in
set_option maxRecDepth 100000 in
theorem c_X12_line_85__3 (l : Launch) (dC : Nat → ClassId) (dI : Nat → Nat → Nat) (ad : Nat → Nat) (cA : Nat → ClassId) (nF : Nat) (u0 : ac_U)  (hR : ac_R rg u0) (hK_HI : hsI u0) (hK_AH : ahI u0) : ac_Mi l yX12_line (.code yX12_line cX12_line 4 (some .boolean) :: TB) 5 (dC, dI) vwCl (ac_ty cA) ad cA (TT nF) [.ref (ad 85)] u0 (fun (r : Int32) (u : ac_U) => ac_R rg u ∧ ac_Fr [(85, some 4), (85, some 11), (85, some 12), (85, some 13), (85, some 14), (85, some 15), (85, some 16), (85, some 18), (85, some 20), (88, none)] u0 u ∧ ((0 : Int) ≤ r.toInt ∧ r.toInt ≤ 1) ∧ hsI u ∧ ahI u ∧ (r.toInt ≠ 0 → (s7P u0) u)) := by
  refine ac_Mi.of (cc := cX12_line) (maxL := 4) (ret := (some .boolean)) (by decide) rfl (Nat.le_of_ble_eq_true rfl) ?_
  intro p e s m below meth c A ls F hml hr hlocks hA hP hD hS hl
  have F : ac_X p s m [.ref (ad 85)].toArray c cX12_line RX12 TB (dC, dI) vwCl (ac_ty cA) := ⟨F.1, F.2.1, fun w h => F.2.2.1 w (List.mem_cons_of_mem _ h), F.2.2.2.1, F.2.2.2.2⟩
  have hl : lv_has ls 4 [(0, .ref (ad 85))] := hl
  have hF : ac_Fr [(85, some 4), (85, some 11), (85, some 12), (85, some 13), (85, some 14), (85, some 15), (85, some 16), (85, some 18), (85, some 20), (88, none)] u0 u0 := ac_Fr.rf
  have hK_S7 : (s7I u0) u0 := s7_rf
  have L614 : ∀ (n614 : Nat) (x1 : Int32) (x2 : Int32) (x3 : Int32) (u : ac_U) (H : Heap) (locs : List Loc) (ls : Array Slot), ac_R rg u → ac_Fr [(85, some 4), (85, some 11), (85, some 12), (85, some 13), (85, some 14), (85, some 15), (85, some 16), (85, some 18), (85, some 20), (88, none)] u0 u → 7 - x3.toInt < (n614 : Int) → hsI u → (s7I u0) u → ahI u → (0 : Int) ≤ x1.toInt ∧ x1.toInt ≤ 7 → (0 : Int) ≤ x2.toInt ∧ x2.toInt ≤ 1 → (0 : Int) ≤ x3.toInt ∧ x3.toInt ≤ 7 → (0 : Int) ≤ (u.1 85 18).toInt ∧ (u.1 85 18).toInt ≤ 7 → (0 : Int) ≤ (u.1 88 7).toInt ∧ (u.1 88 7).toInt ≤ 7 → va_P (dC, dI) vwCl (ac_w ad cA (TT nF) u) H → va_D A (ac_w ad cA (TT nF) u) → va_S A s.heap H locs → lv_has ls 4 [(0, .ref (ad 85)), (1, .int x1), (2, .int x2), (3, .int x3)] → W p l e (ac_rm 5) s m [.ref (ad 85)].toArray below meth c H locs 0 0 (MQ below (va_Qi (fun (r : Int32) (u : ac_U) => ac_R rg u ∧ ac_Fr [(85, some 4), (85, some 11), (85, some 12), (85, some 13), (85, some 14), (85, some 15), (85, some 16), (85, some 18), (85, some 20), (88, none)] u0 u ∧ ((0 : Int) ≤ r.toInt ∧ r.toInt ≤ 1) ∧ hsI u ∧ ahI u ∧ (r.toInt ≠ 0 → (s7P u0) u)) (ac_B (dC, dI) vwCl (ac_ty cA) ad cA (TT nF) A) A) [.ref (ad 85)].toArray s 0 0 A) (F0 m 614 ls []) := by
    intro n614
    induction n614 with
    | zero => intro x1 x2 x3 u H locs ls hR hF hn614 hK_HI hK_S7 hK_AH f0 f1 f2 f3 f4 hP hD hS hl; exfalso; omega
    | succ n614 ih614 =>
      intro x1 x2 x3 u H locs ls hR hF hn614 hK_HI hK_S7 hK_AH f0 f1 f2 f3 f4 hP hD hS hl
      have L663 : ∀ (x1 : Int32) (x3 : Int32) (z0 : Int32) (u : ac_U) (H : Heap) (locs : List Loc) (ls : Array Slot), ac_R rg u → ac_Fr [(85, some 4), (85, some 11), (85, some 12), (85, some 13), (85, some 14), (85, some 15), (85, some 16), (85, some 18), (85, some 20), (88, none)] u0 u → hsI u → (s7I u0) u → ahI u → (0 : Int) ≤ x1.toInt ∧ x1.toInt ≤ 7 → (0 : Int) ≤ x3.toInt ∧ x3.toInt ≤ 6 → (0 : Int) ≤ z0.toInt ∧ z0.toInt ≤ 1 → (0 : Int) ≤ (u.1 85 18).toInt ∧ (u.1 85 18).toInt ≤ 7 → (1 : Int) ≤ (u.1 88 7).toInt ∧ (u.1 88 7).toInt ≤ 7 → 7 - x3.toInt + 0 < ((n614 : Nat) : Int) + 1 → va_P (dC, dI) vwCl (ac_w ad cA (TT nF) u) H → va_D A (ac_w ad cA (TT nF) u) → va_S A s.heap H locs → lv_has ls 4 [(0, .ref (ad 85)), (1, .int x1), (3, .int x3)] → W p l e (ac_rm 5) s m [.ref (ad 85)].toArray below meth c H locs 0 0 (MQ below (va_Qi (fun (r : Int32) (u : ac_U) => ac_R rg u ∧ ac_Fr [(85, some 4), (85, some 11), (85, some 12), (85, some 13), (85, some 14), (85, some 15), (85, some 16), (85, some 18), (85, some 20), (88, none)] u0 u ∧ ((0 : Int) ≤ r.toInt ∧ r.toInt ≤ 1) ∧ hsI u ∧ ahI u ∧ (r.toInt ≠ 0 → (s7P u0) u)) (ac_B (dC, dI) vwCl (ac_ty cA) ad cA (TT nF) A) A) [.ref (ad 85)].toArray s 0 0 A) (F0 m 663 ls [.int z0]) := by
        intro x1 x3 z0 u H locs ls hR hF hK_HI hK_S7 hK_AH f0 f1 f2 f3 f4 f5 hP hD hS hl
        refine lv_istore_n (lv' := [(2, .int z0), (0, .ref (ad 85)), (1, .int x1), (3, .int x3)]) F.1 F.2.1 dX12_line_663 rfl hl (by decide) rfl (fun ls hl => ?_)
        refine a_iinc F (k := 3) (fun v1 => [(3, .int v1), (2, .int z0), (0, .ref (ad 85)), (1, .int x1)]) dX12_line_664 hl rfl rfl (by decide) (by omega) (by decide) (fun _ => rfl) (fun v1 ls hv1 hl => ?_)
        refine lv_goto (tgt := 614) F.1 F.2.1 dX12_line_667 (by decide) ?_
        have g2 : (0 : Int) ≤ (u.1 88 7).toInt ∧ (u.1 88 7).toInt ≤ 8 := hR 88 7
        exact ih614 x1 z0 v1 _ _ _ _ hR hF (by omega) hK_HI hK_S7 hK_AH (by omega) (by omega) (by omega) (by omega : (0 : Int) ≤ (u.1 85 18).toInt ∧ (u.1 85 18).toInt ≤ 7) (by omega : (0 : Int) ≤ (u.1 88 7).toInt ∧ (u.1 88 7).toInt ≤ 7) hP hD hS (lv_sub hl [2, 3, 1, 0] rfl)
      have L662 : ∀ (x1 : Int32) (x3 : Int32) (u : ac_U) (H : Heap) (locs : List Loc) (ls : Array Slot), ac_R rg u → ac_Fr [(85, some 4), (85, some 11), (85, some 12), (85, some 13), (85, some 14), (85, some 15), (85, some 16), (85, some 18), (85, some 20), (88, none)] u0 u → hsI u → (s7I u0) u → ahI u → (0 : Int) ≤ x1.toInt ∧ x1.toInt ≤ 7 → (0 : Int) ≤ x3.toInt ∧ x3.toInt ≤ 6 → (0 : Int) ≤ (u.1 85 18).toInt ∧ (u.1 85 18).toInt ≤ 7 → (1 : Int) ≤ (u.1 88 7).toInt ∧ (u.1 88 7).toInt ≤ 7 → 7 - x3.toInt + 0 < ((n614 : Nat) : Int) + 1 → va_P (dC, dI) vwCl (ac_w ad cA (TT nF) u) H → va_D A (ac_w ad cA (TT nF) u) → va_S A s.heap H locs → lv_has ls 4 [(0, .ref (ad 85)), (1, .int x1), (3, .int x3)] → W p l e (ac_rm 5) s m [.ref (ad 85)].toArray below meth c H locs 0 0 (MQ below (va_Qi (fun (r : Int32) (u : ac_U) => ac_R rg u ∧ ac_Fr [(85, some 4), (85, some 11), (85, some 12), (85, some 13), (85, some 14), (85, some 15), (85, some 16), (85, some 18), (85, some 20), (88, none)] u0 u ∧ ((0 : Int) ≤ r.toInt ∧ r.toInt ≤ 1) ∧ hsI u ∧ ahI u ∧ (r.toInt ≠ 0 → (s7P u0) u)) (ac_B (dC, dI) vwCl (ac_ty cA) ad cA (TT nF) A) A) [.ref (ad 85)].toArray s 0 0 A) (F0 m 662 ls []) := by
        intro x1 x3 u H locs ls hR hF hK_HI hK_S7 hK_AH f0 f1 f2 f3 f4 hP hD hS hl
        refine a_ic F (0 : Int32) dX12_line_662 (by decide) ?_
        have g3 : (0 : Int) ≤ (u.1 88 7).toInt ∧ (u.1 88 7).toInt ≤ 8 := hR 88 7
        exact L663 x1 x3 (0 : Int32) _ _ _ _ hR hF hK_HI hK_S7 hK_AH (by omega) (by omega) (by decide) (by omega : (0 : Int) ≤ (u.1 85 18).toInt ∧ (u.1 85 18).toInt ≤ 7) (by omega : (1 : Int) ≤ (u.1 88 7).toInt ∧ (u.1 88 7).toInt ≤ 7) (by omega) hP hD hS (lv_sub hl [0, 1, 2] rfl)
      have L658 : ∀ (x1 : Int32) (x3 : Int32) (u : ac_U) (H : Heap) (locs : List Loc) (ls : Array Slot), ac_R rg u → ac_Fr [(85, some 4), (85, some 11), (85, some 12), (85, some 13), (85, some 14), (85, some 15), (85, some 16), (85, some 18), (85, some 20), (88, none)] u0 u → hsI u → (s7I u0) u → ahI u → (0 : Int) ≤ x1.toInt ∧ x1.toInt ≤ 7 → (0 : Int) ≤ x3.toInt ∧ x3.toInt ≤ 6 → (0 : Int) ≤ (u.1 85 18).toInt ∧ (u.1 85 18).toInt ≤ 7 → (1 : Int) ≤ (u.1 88 7).toInt ∧ (u.1 88 7).toInt ≤ 7 → 7 - x3.toInt + 0 < ((n614 : Nat) : Int) + 1 → va_P (dC, dI) vwCl (ac_w ad cA (TT nF) u) H → va_D A (ac_w ad cA (TT nF) u) → va_S A s.heap H locs → lv_has ls 4 [(0, .ref (ad 85)), (1, .int x1), (3, .int x3)] → W p l e (ac_rm 5) s m [.ref (ad 85)].toArray below meth c H locs 0 0 (MQ below (va_Qi (fun (r : Int32) (u : ac_U) => ac_R rg u ∧ ac_Fr [(85, some 4), (85, some 11), (85, some 12), (85, some 13), (85, some 14), (85, some 15), (85, some 16), (85, some 18), (85, some 20), (88, none)] u0 u ∧ ((0 : Int) ≤ r.toInt ∧ r.toInt ≤ 1) ∧ hsI u ∧ ahI u ∧ (r.toInt ≠ 0 → (s7P u0) u)) (ac_B (dC, dI) vwCl (ac_ty cA) ad cA (TT nF) A) A) [.ref (ad 85)].toArray s 0 0 A) (F0 m 658 ls []) := by
        intro x1 x3 u H locs ls hR hF hK_HI hK_S7 hK_AH f0 f1 f2 f3 f4 hP hD hS hl
        refine a_ic F (1 : Int32) dX12_line_658 (by decide) ?_
        refine lv_goto (tgt := 663) F.1 F.2.1 dX12_line_659 (by decide) ?_
        have g4 : (0 : Int) ≤ (u.1 88 7).toInt ∧ (u.1 88 7).toInt ≤ 8 := hR 88 7
        exact L663 x1 x3 (1 : Int32) _ _ _ _ hR hF hK_HI hK_S7 hK_AH (by omega) (by omega) (by decide) (by omega : (0 : Int) ≤ (u.1 85 18).toInt ∧ (u.1 85 18).toInt ≤ 7) (by omega : (1 : Int) ≤ (u.1 88 7).toInt ∧ (u.1 88 7).toInt ≤ 7) (by omega) hP hD hS (lv_sub hl [0, 1, 2] rfl)
      refine lv_iload_n F.1 F.2.1 dX12_line_614 rfl (lv_at hl 3 rfl) ?_
      refine lv_aload_n F.1 F.2.1 dX12_line_615 rfl (lv_at hl 0 rfl) ?_
      refine a_getr F inX12 hP 85 7 tc_85 rfl rfl (by decide) q1478 (fun _ h9 => h9) dX12_line_616 ?_
      refine a_bp F (7 : Int32) dX12_line_619 (by decide) ?_
      have g5 : (0 : Int) ≤ (u.1 88 7).toInt ∧ (u.1 88 7).toInt ≤ 8 := hR 88 7
      refine a_ialdK F hP 88 7 tc_88 rfl rfl (i_in ic_7 (by omega)) (v := (u.1 88 7)) rfl dX12_line_621 ?_
      refine b_ge F 670 dX12_line_622 (by decide) rfl rfl (fun c6 => ?_) (fun c6 => ?_)
      · refine lv_iload_n F.1 F.2.1 dX12_line_670 rfl (lv_at hl 2 rfl) ?_
        refine z_ne F 680 dX12_line_671 (by decide) rfl (fun c7 => ?_) (fun c7 => ?_)
        · refine lv_aload_n F.1 F.2.1 dX12_line_680 rfl (lv_at hl 0 rfl) ?_
          refine a_getr F inX12 hP 85 7 tc_85 rfl rfl (by decide) q1478 (fun _ h9 => h9) dX12_line_681 ?_
          refine a_bp F (90 : Int32) dX12_line_684 (by decide) ?_
          refine lv_aload_n F.1 F.2.1 dX12_line_686 rfl (lv_at hl 0 rfl) ?_
          refine a_getr F inX12 hP 85 7 tc_85 rfl rfl (by decide) q1478 (fun _ h9 => h9) dX12_line_687 ?_
          refine a_bp F (7 : Int32) dX12_line_690 (by decide) ?_
          refine a_ialdK F hP 88 7 tc_88 rfl rfl (i_in ic_7 (by omega)) (v := (u.1 88 7)) (rfl) dX12_line_692 ?_
          refine a_iadd F dX12_line_693 ic_90 rfl (by omega) (fun v8 hv8 => ?_)
          refine lv_iload_n F.1 F.2.1 dX12_line_694 rfl (lv_at hl 1 rfl) ?_
          have g9 : (0 : Int) ≤ (u.1 88 1).toInt ∧ (u.1 88 1).toInt ≤ 8 := hR 88 1
          refine a_iast F hP hD hS 88 tc_88 rfl (i_in rfl (by omega)) dX12_line_695 (fun H locs hP hD hS => ?_)
          have hR := hR.si (c := 88) (k := v8.toNatClampNeg) (v := x1) (rs_88_90_97 (by omega) ⟨i_lo _, i_hi _⟩)
          have hF := hF.si (c := 88) (k := v8.toNatClampNeg) (v := x1) rfl
          have hK_HI := sp_si sp_HI hK_HI (c := 88) (k := v8.toNatClampNeg) (v := x1) (fun j9 h9 => by have q8 := sp_mem h9; simp at q8; have q9 := i_cl (x := v8) (by omega); omega)
          have hK_S7 := sp_si (sp_s7 _) hK_S7 (c := 88) (k := v8.toNatClampNeg) (v := x1) (fun j9 h9 => by have q8 := sp_mem h9; simp at q8; have q9 := i_cl (x := v8) (by omega); omega)
          have hK_AH := sp_si sp_AH hK_AH (c := 88) (k := v8.toNatClampNeg) (v := x1) (fun j9 h9 => by have q8 := sp_mem h9; simp at q8; have q9 := i_cl (x := v8) (by omega); omega)
          refine lv_aload_n F.1 F.2.1 dX12_line_696 rfl (lv_at hl 0 rfl) ?_
          refine a_getr F inX12 hP 85 7 tc_85 rfl rfl (by decide) q1478 (fun _ h9 => h9) dX12_line_697 ?_
          refine a_bp F (98 : Int32) dX12_line_700 (by decide) ?_
          refine lv_aload_n F.1 F.2.1 dX12_line_702 rfl (lv_at hl 0 rfl) ?_
          refine a_getr F inX12 hP 85 7 tc_85 rfl rfl (by decide) q1478 (fun _ h9 => h9) dX12_line_703 ?_
          refine a_bp F (7 : Int32) dX12_line_706 (by decide) ?_
          refine a_ialdK F hP 88 7 tc_88 rfl rfl (i_in ic_7 (by omega)) (v := (u.1 88 7)) (ac_ne (c := 88) (k := 7) (i := v8) (by have q9 := i_cl (x := v8) (by omega); omega)) dX12_line_708 ?_
          refine a_iadd F dX12_line_709 ic_98 rfl (by omega) (fun v10 hv10 => ?_)
          refine lv_aload_n F.1 F.2.1 dX12_line_710 rfl (lv_at hl 0 rfl) ?_
          refine a_geti F inX12 hP 85 18 tc_85 rfl rfl (by decide) q1489 (fun _ h9 => h9) (v := (u.1 85 18)) rfl dX12_line_711 ?_
          refine a_iast F hP hD hS 88 tc_88 rfl (i_in rfl (by omega)) dX12_line_714 (fun H locs hP hD hS => ?_)
          have hR := hR.si (c := 88) (k := v10.toNatClampNeg) (v := (u.1 85 18)) (rs_88_98_105 (by omega) ⟨i_lo _, i_hi _⟩)
          have hF := hF.si (c := 88) (k := v10.toNatClampNeg) (v := (u.1 85 18)) rfl
          have hK_HI := sp_si sp_HI hK_HI (c := 88) (k := v10.toNatClampNeg) (v := (u.1 85 18)) (fun j9 h9 => by have q8 := sp_mem h9; simp at q8; have q9 := i_cl (x := v10) (by omega); omega)
          have hK_S7 := sp_si (sp_s7 _) hK_S7 (c := 88) (k := v10.toNatClampNeg) (v := (u.1 85 18)) (fun j9 h9 => by have q8 := sp_mem h9; simp at q8; have q9 := i_cl (x := v10) (by omega); omega)
          have hK_AH := sp_si sp_AH hK_AH (c := 88) (k := v10.toNatClampNeg) (v := (u.1 85 18)) (fun j9 h9 => by have q8 := sp_mem h9; simp at q8; have q9 := i_cl (x := v10) (by omega); omega)
          refine lv_aload_n F.1 F.2.1 dX12_line_715 rfl (lv_at hl 0 rfl) ?_
          refine a_getr F inX12 hP 85 7 tc_85 rfl rfl (by decide) q1478 (fun _ h9 => h9) dX12_line_716 ?_
          refine a_bp F (7 : Int32) dX12_line_719 (by decide) ?_
          refine lv_dup2_11 F.1 F.2.1 dX12_line_721 rfl rfl ?_
          refine a_ialdK F hP 88 7 tc_88 rfl rfl (i_in ic_7 (by omega)) (v := (u.1 88 7)) ((ac_ne (c := 88) (k := 7) (i := v10) (by have q9 := i_cl (x := v10) (by omega); omega)).trans (ac_ne (c := 88) (k := 7) (i := v8) (by have q9 := i_cl (x := v8) (by omega); omega))) dX12_line_722 ?_
          refine a_ic F (1 : Int32) dX12_line_723 (by decide) ?_
          refine a_iadd F dX12_line_724 rfl ic_1 (by omega) (fun v11 hv11 => ?_)
          refine a_iastK F hP hD hS 88 7 tc_88 rfl rfl (i_in ic_7 (by omega)) dX12_line_725 (fun H locs hP hD hS => ?_)
          have hR := hR.si (c := 88) (k := 7) (v := v11) (by omega : (0 : Int) ≤ v11.toInt ∧ v11.toInt ≤ 8)
          have hF := hF.si (c := 88) (k := 7) (v := v11) rfl
          have hO_HI := hK_HI
          have hO_S7 := hK_S7
          have hO_AH := hK_AH
          have hN_S7p := s7_inc (k := 7) hO_S7 (by omega) (x := (u.1 88 7)) (v := v11) ((ac_ne (c := 88) (k := 7) (i := v10) (by have q9 := i_cl (x := v10) (by omega); omega)).trans (ac_ne (c := 88) (k := 7) (i := v8) (by have q9 := i_cl (x := v8) (by omega); omega))) (by omega)
          have hK_HI := sp_si sp_HI hK_HI (c := 88) (k := 7) (v := v11) (fun j9 h9 q9 => by rw [q9] at h9; exact absurd h9 (by decide))
          have hK_AH := sp_si sp_AH hK_AH (c := 88) (k := 7) (v := v11) (fun j9 h9 q9 => by rw [q9] at h9; exact absurd h9 (by decide))
          have hK_S7p := hN_S7p
          refine lv_aload_n F.1 F.2.1 dX12_line_726 rfl (lv_at hl 0 rfl) ?_
          refine a_Vv F hml hl.1 hA hP hD hS (As := []) (c_X12_next_85 l dC dI ad cA nF _  hR) (cs_RX12_184 (d := 2) F.2.2.1 (by decide)) tc_85 rfl rfl rfl rfl (Nat.le_of_ble_eq_true rfl) dX12_line_727 ⟨Nat.le_refl 0, Nat.le_refl 0⟩ (fun u12 H locs hq hP hD hS => ?_)
          obtain ⟨hR, hF12⟩ := hq
          have hF := hF.tr hF12 (by decide)
          have hK_HI := sp_fr sp_HI hF12 (by decide) hK_HI
          have hK_AH := sp_fr sp_AH hF12 (by decide) hK_AH
          have hK_S7p := sp_fr (sp_s7p _) hF12 (by decide) hK_S7p
          refine a_ic F (1 : Int32) dX12_line_730 (by decide) ?_
          exact a_retz F hr hlocks hP hD hS dX12_line_731 (Or.inr rfl) ⟨hR, hF, (by decide), hK_HI, hK_AH, (fun _ => hK_S7p)⟩
        · refine lv_aload_n F.1 F.2.1 dX12_line_674 rfl (lv_at hl 0 rfl) ?_
          refine a_ic F (3 : Int32) dX12_line_675 (by decide) ?_
          have g14 : (0 : Int) ≤ (u.1 88 1).toInt ∧ (u.1 88 1).toInt ≤ 8 := hR 88 1
          refine a_Vi F hml hl.1 hA hP hD hS (As := [.int (3 : Int32)]) (c_X12_bad_85 l dC dI ad cA nF _ (3 : Int32) hR (by decide)) (cs_RX12_181 (d := 1) F.2.2.1 (by decide)) tc_85 rfl rfl rfl rfl (Nat.le_of_ble_eq_true rfl) dX12_line_676 ⟨Nat.le_refl 0, Nat.le_refl 0⟩ (fun r13 u13 H locs hq hP hD hS => ?_)
          obtain ⟨hR, hF13, gr13⟩ := hq
          have hF := hF.tr hF13 (by decide)
          have hK_HI := sp_fr sp_HI hF13 (by decide) hK_HI
          have hK_S7 := sp_fr (sp_s7 _) hF13 (by decide) hK_S7
          have hK_AH := sp_fr sp_AH hF13 (by decide) hK_AH
          exact a_retz F hr hlocks hP hD hS dX12_line_679 (i_01 (by omega)) ⟨hR, hF, (by omega : (0 : Int) ≤ r13.toInt ∧ r13.toInt ≤ 1), hK_HI, hK_AH, (fun h9 => absurd (by omega : r13.toInt = 0) h9)⟩
      · refine lv_iload_n F.1 F.2.1 dX12_line_625 rfl (lv_at hl 2 rfl) ?_
        refine z_eq F 662 dX12_line_626 (by decide) rfl (fun c15 => ?_) (fun c15 => ?_)
        · exact L662 x1 x3 _ _ _ _ hR hF hK_HI hK_S7 hK_AH (by omega) (by omega) (by omega : (0 : Int) ≤ (u.1 85 18).toInt ∧ (u.1 85 18).toInt ≤ 7) (by omega : (1 : Int) ≤ (u.1 88 7).toInt ∧ (u.1 88 7).toInt ≤ 7) (by omega) hP hD hS (lv_sub hl [0, 1, 3] rfl)
        · refine lv_aload_n F.1 F.2.1 dX12_line_629 rfl (lv_at hl 0 rfl) ?_
          refine a_getr F inX12 hP 85 7 tc_85 rfl rfl (by decide) q1478 (fun _ h9 => h9) dX12_line_630 ?_
          refine a_bp F (90 : Int32) dX12_line_633 (by decide) ?_
          refine lv_iload_n F.1 F.2.1 dX12_line_635 rfl (lv_at hl 3 rfl) ?_
          refine a_iadd F dX12_line_636 ic_90 rfl (by omega) (fun v16 hv16 => ?_)
          refine a_iald F hP 88 tc_88 rfl (i_in rfl (by omega)) dX12_line_637 (fun v17 ev17 => ?_)
          refine lv_iload_n F.1 F.2.1 dX12_line_638 rfl (lv_at hl 1 rfl) ?_
          refine b_ne F 658 dX12_line_639 (by decide) rfl rfl (fun c18 => ?_) (fun c18 => ?_)
          · exact L658 x1 x3 _ _ _ _ hR hF hK_HI hK_S7 hK_AH (by omega) (by omega) (by omega : (0 : Int) ≤ (u.1 85 18).toInt ∧ (u.1 85 18).toInt ≤ 7) (by omega : (1 : Int) ≤ (u.1 88 7).toInt ∧ (u.1 88 7).toInt ≤ 7) (by omega) hP hD hS (lv_sub hl [0, 1, 3] rfl)
          · refine lv_aload_n F.1 F.2.1 dX12_line_642 rfl (lv_at hl 0 rfl) ?_
            refine a_getr F inX12 hP 85 7 tc_85 rfl rfl (by decide) q1478 (fun _ h9 => h9) dX12_line_643 ?_
            refine a_bp F (98 : Int32) dX12_line_646 (by decide) ?_
            refine lv_iload_n F.1 F.2.1 dX12_line_648 rfl (lv_at hl 3 rfl) ?_
            refine a_iadd F dX12_line_649 ic_98 rfl (by omega) (fun v19 hv19 => ?_)
            refine a_iald F hP 88 tc_88 rfl (i_in rfl (by omega)) dX12_line_650 (fun v20 ev20 => ?_)
            refine lv_aload_n F.1 F.2.1 dX12_line_651 rfl (lv_at hl 0 rfl) ?_
            refine a_geti F inX12 hP 85 18 tc_85 rfl rfl (by decide) q1489 (fun _ h9 => h9) (v := (u.1 85 18)) rfl dX12_line_652 ?_
            refine b_eq F 662 dX12_line_655 (by decide) rfl rfl (fun c21 => ?_) (fun c21 => ?_)
            · exact L662 x1 x3 _ _ _ _ hR hF hK_HI hK_S7 hK_AH (by omega) (by omega) (by omega : (0 : Int) ≤ (u.1 85 18).toInt ∧ (u.1 85 18).toInt ≤ 7) (by omega : (1 : Int) ≤ (u.1 88 7).toInt ∧ (u.1 88 7).toInt ≤ 7) (by omega) hP hD hS (lv_sub hl [0, 1, 3] rfl)
            · exact L658 x1 x3 _ _ _ _ hR hF hK_HI hK_S7 hK_AH (by omega) (by omega) (by omega : (0 : Int) ≤ (u.1 85 18).toInt ∧ (u.1 85 18).toInt ≤ 7) (by omega : (1 : Int) ≤ (u.1 88 7).toInt ∧ (u.1 88 7).toInt ≤ 7) (by omega) hP hD hS (lv_sub hl [0, 1, 3] rfl)
  have L611 : ∀ (x1 : Int32) (z0 : Int32) (u : ac_U) (H : Heap) (locs : List Loc) (ls : Array Slot), ac_R rg u → ac_Fr [(85, some 4), (85, some 11), (85, some 12), (85, some 13), (85, some 14), (85, some 15), (85, some 16), (85, some 18), (85, some 20), (88, none)] u0 u → hsI u → (s7I u0) u → ahI u → (0 : Int) ≤ x1.toInt ∧ x1.toInt ≤ 7 → (0 : Int) ≤ z0.toInt ∧ z0.toInt ≤ 1 → (0 : Int) ≤ (u.1 85 18).toInt ∧ (u.1 85 18).toInt ≤ 7 → (0 : Int) ≤ (u.1 88 7).toInt ∧ (u.1 88 7).toInt ≤ 7 → va_P (dC, dI) vwCl (ac_w ad cA (TT nF) u) H → va_D A (ac_w ad cA (TT nF) u) → va_S A s.heap H locs → lv_has ls 4 [(0, .ref (ad 85)), (1, .int x1)] → W p l e (ac_rm 5) s m [.ref (ad 85)].toArray below meth c H locs 0 0 (MQ below (va_Qi (fun (r : Int32) (u : ac_U) => ac_R rg u ∧ ac_Fr [(85, some 4), (85, some 11), (85, some 12), (85, some 13), (85, some 14), (85, some 15), (85, some 16), (85, some 18), (85, some 20), (88, none)] u0 u ∧ ((0 : Int) ≤ r.toInt ∧ r.toInt ≤ 1) ∧ hsI u ∧ ahI u ∧ (r.toInt ≠ 0 → (s7P u0) u)) (ac_B (dC, dI) vwCl (ac_ty cA) ad cA (TT nF) A) A) [.ref (ad 85)].toArray s 0 0 A) (F0 m 611 ls [.int z0]) := by
    intro x1 z0 u H locs ls hR hF hK_HI hK_S7 hK_AH f0 f1 f2 f3 hP hD hS hl
    refine lv_istore_n (lv' := [(2, .int z0), (0, .ref (ad 85)), (1, .int x1)]) F.1 F.2.1 dX12_line_611 rfl hl (by decide) rfl (fun ls hl => ?_)
    refine a_ic F (0 : Int32) dX12_line_612 (by decide) ?_
    refine lv_istore_n (lv' := [(3, .int (0 : Int32)), (2, .int z0), (0, .ref (ad 85)), (1, .int x1)]) F.1 F.2.1 dX12_line_613 rfl hl (by decide) rfl (fun ls hl => ?_)
    have g22 : (0 : Int) ≤ (u.1 88 7).toInt ∧ (u.1 88 7).toInt ≤ 8 := hR 88 7
    exact L614 9 x1 z0 (0 : Int32) _ _ _ _ hR hF (by decide) hK_HI hK_S7 hK_AH (by omega) (by omega) (by decide) (by omega : (0 : Int) ≤ (u.1 85 18).toInt ∧ (u.1 85 18).toInt ≤ 7) (by omega : (0 : Int) ≤ (u.1 88 7).toInt ∧ (u.1 88 7).toInt ≤ 7) hP hD hS (lv_sub hl [2, 3, 1, 0] rfl)
  have L411 : ∀ (u : ac_U) (H : Heap) (locs : List Loc) (ls : Array Slot), ac_R rg u → ac_Fr [(85, some 4), (85, some 11), (85, some 12), (85, some 13), (85, some 14), (85, some 15), (85, some 16), (85, some 18), (85, some 20), (88, none)] u0 u → hsI u → ahI u → (0 : Int) ≤ (u.1 88 4).toInt ∧ (u.1 88 4).toInt ≤ 3 → va_P (dC, dI) vwCl (ac_w ad cA (TT nF) u) H → va_D A (ac_w ad cA (TT nF) u) → va_S A s.heap H locs → lv_has ls 4 [] → W p l e (ac_rm 5) s m [.ref (ad 85)].toArray below meth c H locs 0 0 (MQ below (va_Qi (fun (r : Int32) (u : ac_U) => ac_R rg u ∧ ac_Fr [(85, some 4), (85, some 11), (85, some 12), (85, some 13), (85, some 14), (85, some 15), (85, some 16), (85, some 18), (85, some 20), (88, none)] u0 u ∧ ((0 : Int) ≤ r.toInt ∧ r.toInt ≤ 1) ∧ hsI u ∧ ahI u ∧ (r.toInt ≠ 0 → (s7P u0) u)) (ac_B (dC, dI) vwCl (ac_ty cA) ad cA (TT nF) A) A) [.ref (ad 85)].toArray s 0 0 A) (F0 m 411 ls []) := by
    intro u H locs ls hR hF hK_HI hK_AH f0 hP hD hS hl
    refine a_ic F (0 : Int32) dX12_line_411 (by decide) ?_
    exact a_retz F hr hlocks hP hD hS dX12_line_412 (Or.inl rfl) ⟨hR, hF, (by decide), hK_HI, hK_AH, (fun h9 => absurd (by decide) h9)⟩
  have L214 : ∀ (u : ac_U) (H : Heap) (locs : List Loc) (ls : Array Slot), ac_R rg u → ac_Fr [(85, some 4), (85, some 11), (85, some 12), (85, some 13), (85, some 14), (85, some 15), (85, some 16), (85, some 18), (85, some 20), (88, none)] u0 u → hsI u → ahI u → (0 : Int) ≤ (u.1 85 18).toInt ∧ (u.1 85 18).toInt ≤ 7 → (0 : Int) ≤ (u.1 88 2).toInt ∧ (u.1 88 2).toInt ≤ 11 → va_P (dC, dI) vwCl (ac_w ad cA (TT nF) u) H → va_D A (ac_w ad cA (TT nF) u) → va_S A s.heap H locs → lv_has ls 4 [(0, .ref (ad 85))] → W p l e (ac_rm 5) s m [.ref (ad 85)].toArray below meth c H locs 0 0 (MQ below (va_Qi (fun (r : Int32) (u : ac_U) => ac_R rg u ∧ ac_Fr [(85, some 4), (85, some 11), (85, some 12), (85, some 13), (85, some 14), (85, some 15), (85, some 16), (85, some 18), (85, some 20), (88, none)] u0 u ∧ ((0 : Int) ≤ r.toInt ∧ r.toInt ≤ 1) ∧ hsI u ∧ ahI u ∧ (r.toInt ≠ 0 → (s7P u0) u)) (ac_B (dC, dI) vwCl (ac_ty cA) ad cA (TT nF) A) A) [.ref (ad 85)].toArray s 0 0 A) (F0 m 214 ls []) := by
    intro u H locs ls hR hF hK_HI hK_AH f0 f1 hP hD hS hl
    refine lv_aload_n F.1 F.2.1 dX12_line_214 rfl (lv_at hl 0 rfl) ?_
    refine a_ic F (3 : Int32) dX12_line_215 (by decide) ?_
    have g24 : (0 : Int) ≤ (u.1 88 1).toInt ∧ (u.1 88 1).toInt ≤ 8 := hR 88 1
    refine a_Vi F hml hl.1 hA hP hD hS (As := [.int (3 : Int32)]) (c_X12_bad_85 l dC dI ad cA nF _ (3 : Int32) hR (by decide)) (cs_RX12_181 (d := 1) F.2.2.1 (by decide)) tc_85 rfl rfl rfl rfl (Nat.le_of_ble_eq_true rfl) dX12_line_216 ⟨Nat.le_refl 0, Nat.le_refl 0⟩ (fun r23 u23 H locs hq hP hD hS => ?_)
    obtain ⟨hR, hF23, gr23⟩ := hq
    have hF := hF.tr hF23 (by decide)
    have hK_HI := sp_fr sp_HI hF23 (by decide) hK_HI
    have hK_AH := sp_fr sp_AH hF23 (by decide) hK_AH
    exact a_retz F hr hlocks hP hD hS dX12_line_219 (i_01 (by omega)) ⟨hR, hF, (by omega : (0 : Int) ≤ r23.toInt ∧ r23.toInt ≤ 1), hK_HI, hK_AH, (fun h9 => absurd (by omega : r23.toInt = 0) h9)⟩
  refine lv_aload_n F.1 F.2.1 dX12_line_0 rfl (lv_at hl 0 rfl) ?_
  refine lv_ldc2 (v := (448546566771 : Int64)) F.1 F.2.1 F.2.2.2.1 (F.2.2.1 _ q1444) dX12_line_1 ?_
  refine a_Vi F hml hl.1 hA hP hD hS (As := [.long (448546566771 : Int64)]) (c_X12_isWord_85 l dC dI ad cA nF _ (448546566771 : Int64) hR) (cs_RX12_206 (d := 1) F.2.2.1 (by decide)) tc_85 rfl rfl rfl rfl (Nat.le_of_ble_eq_true rfl) dX12_line_4 ⟨Nat.le_refl 0, Nat.le_refl 0⟩ (fun r25 uN25 H locs hq hP hD hS => ?_)
  obtain ⟨hu25, gr25⟩ := hq
  rw [hu25] at hP hD
  refine z_eq F 56 dX12_line_7 (by decide) rfl (fun c26 => ?_) (fun c26 => ?_)
  · refine lv_aload_n F.1 F.2.1 dX12_line_56 rfl (lv_at hl 0 rfl) ?_
    refine lv_ldc2 (v := (482854658917 : Int64)) F.1 F.2.1 F.2.2.2.1 (F.2.2.1 _ q1445) dX12_line_57 ?_
    refine a_Vi F hml hl.1 hA hP hD hS (As := [.long (482854658917 : Int64)]) (c_X12_isWord_85 l dC dI ad cA nF _ (482854658917 : Int64) hR) (cs_RX12_206 (d := 1) F.2.2.1 (by decide)) tc_85 rfl rfl rfl rfl (Nat.le_of_ble_eq_true rfl) dX12_line_60 ⟨Nat.le_refl 0, Nat.le_refl 0⟩ (fun r27 uN27 H locs hq hP hD hS => ?_)
    obtain ⟨hu27, gr27⟩ := hq
    rw [hu27] at hP hD
    refine z_eq F 117 dX12_line_63 (by decide) rfl (fun c28 => ?_) (fun c28 => ?_)
    · refine lv_aload_n F.1 F.2.1 dX12_line_117 rfl (lv_at hl 0 rfl) ?_
      refine lv_ldc2 (v := (7823737 : Int64)) F.1 F.2.1 F.2.2.2.1 (F.2.2.1 _ q1446) dX12_line_118 ?_
      refine a_Vi F hml hl.1 hA hP hD hS (As := [.long (7823737 : Int64)]) (c_X12_isWord_85 l dC dI ad cA nF _ (7823737 : Int64) hR) (cs_RX12_206 (d := 1) F.2.2.1 (by decide)) tc_85 rfl rfl rfl rfl (Nat.le_of_ble_eq_true rfl) dX12_line_121 ⟨Nat.le_refl 0, Nat.le_refl 0⟩ (fun r29 uN29 H locs hq hP hD hS => ?_)
      obtain ⟨hu29, gr29⟩ := hq
      rw [hu29] at hP hD
      refine z_eq F 272 dX12_line_124 (by decide) rfl (fun c30 => ?_) (fun c30 => ?_)
      · refine lv_aload_n F.1 F.2.1 dX12_line_272 rfl (lv_at hl 0 rfl) ?_
        refine lv_ldc2 (v := (1718775655 : Int64)) F.1 F.2.1 F.2.2.2.1 (F.2.2.1 _ q1447) dX12_line_273 ?_
        refine a_Vi F hml hl.1 hA hP hD hS (As := [.long (1718775655 : Int64)]) (c_X12_isWord_85 l dC dI ad cA nF _ (1718775655 : Int64) hR) (cs_RX12_206 (d := 1) F.2.2.1 (by decide)) tc_85 rfl rfl rfl rfl (Nat.le_of_ble_eq_true rfl) dX12_line_276 ⟨Nat.le_refl 0, Nat.le_refl 0⟩ (fun r31 uN31 H locs hq hP hD hS => ?_)
        obtain ⟨hu31, gr31⟩ := hq
        rw [hu31] at hP hD
        refine z_eq F 350 dX12_line_279 (by decide) rfl (fun c32 => ?_) (fun c32 => ?_)
        · refine lv_aload_n F.1 F.2.1 dX12_line_350 rfl (lv_at hl 0 rfl) ?_
          refine lv_ldc2 (v := (123581014175598 : Int64)) F.1 F.2.1 F.2.2.2.1 (F.2.2.1 _ q1448) dX12_line_351 ?_
          refine a_Vi F hml hl.1 hA hP hD hS (As := [.long (123581014175598 : Int64)]) (c_X12_isWord_85 l dC dI ad cA nF _ (123581014175598 : Int64) hR) (cs_RX12_206 (d := 1) F.2.2.1 (by decide)) tc_85 rfl rfl rfl rfl (Nat.le_of_ble_eq_true rfl) dX12_line_354 ⟨Nat.le_refl 0, Nat.le_refl 0⟩ (fun r33 uN33 H locs hq hP hD hS => ?_)
          obtain ⟨hu33, gr33⟩ := hq
          rw [hu33] at hP hD
          refine z_eq F 443 dX12_line_357 (by decide) rfl (fun c34 => ?_) (fun c34 => ?_)
          · refine lv_aload_n F.1 F.2.1 dX12_line_443 rfl (lv_at hl 0 rfl) ?_
            refine lv_ldc2 (v := (1684366692 : Int64)) F.1 F.2.1 F.2.2.2.1 (F.2.2.1 _ q1449) dX12_line_444 ?_
            refine a_Vi F hml hl.1 hA hP hD hS (As := [.long (1684366692 : Int64)]) (c_X12_isWord_85 l dC dI ad cA nF _ (1684366692 : Int64) hR) (cs_RX12_206 (d := 1) F.2.2.1 (by decide)) tc_85 rfl rfl rfl rfl (Nat.le_of_ble_eq_true rfl) dX12_line_447 ⟨Nat.le_refl 0, Nat.le_refl 0⟩ (fun r35 uN35 H locs hq hP hD hS => ?_)
            obtain ⟨hu35, gr35⟩ := hq
            rw [hu35] at hP hD
            refine z_eq F 504 dX12_line_450 (by decide) rfl (fun c36 => ?_) (fun c36 => ?_)
            · refine lv_aload_n F.1 F.2.1 dX12_line_504 rfl (lv_at hl 0 rfl) ?_
              refine lv_ldc2 (v := (31651020294157157 : Int64)) F.1 F.2.1 F.2.2.2.1 (F.2.2.1 _ q1450) dX12_line_505 ?_
              refine a_Vi F hml hl.1 hA hP hD hS (As := [.long (31651020294157157 : Int64)]) (c_X12_isWord_85 l dC dI ad cA nF _ (31651020294157157 : Int64) hR) (cs_RX12_206 (d := 1) F.2.2.1 (by decide)) tc_85 rfl rfl rfl rfl (Nat.le_of_ble_eq_true rfl) dX12_line_508 ⟨Nat.le_refl 0, Nat.le_refl 0⟩ (fun r37 uN37 H locs hq hP hD hS => ?_)
              obtain ⟨hu37, gr37⟩ := hq
              rw [hu37] at hP hD
              refine z_eq F 519 dX12_line_511 (by decide) rfl (fun c38 => ?_) (fun c38 => ?_)
              · refine lv_aload_n F.1 F.2.1 dX12_line_519 rfl (lv_at hl 0 rfl) ?_
                refine lv_ldc2 (v := (7761783 : Int64)) F.1 F.2.1 F.2.2.2.1 (F.2.2.1 _ q1451) dX12_line_520 ?_
                refine a_Vi F hml hl.1 hA hP hD hS (As := [.long (7761783 : Int64)]) (c_X12_isWord_85 l dC dI ad cA nF _ (7761783 : Int64) hR) (cs_RX12_206 (d := 1) F.2.2.1 (by decide)) tc_85 rfl rfl rfl rfl (Nat.le_of_ble_eq_true rfl) dX12_line_523 ⟨Nat.le_refl 0, Nat.le_refl 0⟩ (fun r39 uN39 H locs hq hP hD hS => ?_)
                obtain ⟨hu39, gr39⟩ := hq
                rw [hu39] at hP hD
                refine z_ne F 535 dX12_line_526 (by decide) rfl (fun c40 => ?_) (fun c40 => ?_)
                · refine lv_aload_n F.1 F.2.1 dX12_line_535 rfl (lv_at hl 0 rfl) ?_
                  refine a_getr F inX12 hP 85 7 tc_85 rfl rfl (by decide) q1478 (fun _ h9 => h9) dX12_line_536 ?_
                  refine a_bp F (7 : Int32) dX12_line_539 (by decide) ?_
                  have g41 : (0 : Int) ≤ (u0.1 88 7).toInt ∧ (u0.1 88 7).toInt ≤ 8 := hR 88 7
                  refine a_ialdK F hP 88 7 tc_88 rfl rfl (i_in ic_7 (by omega)) (v := (u0.1 88 7)) rfl dX12_line_541 ?_
                  refine a_bp F (8 : Int32) dX12_line_542 (by decide) ?_
                  refine b_ne F 553 dX12_line_544 (by decide) rfl ic_8 (fun c42 => ?_) (fun c42 => ?_)
                  · refine lv_aload_n F.1 F.2.1 dX12_line_553 rfl (lv_at hl 0 rfl) ?_
                    have g44 : (0 : Int) ≤ (u0.1 88 1).toInt ∧ (u0.1 88 1).toInt ≤ 8 := hR 88 1
                    refine a_Vv F hml hl.1 hA hP hD hS (As := []) (c_X12_next_85 l dC dI ad cA nF _  hR) (cs_RX12_184 (d := 2) F.2.2.1 (by decide)) tc_85 rfl rfl rfl rfl (Nat.le_of_ble_eq_true rfl) dX12_line_554 ⟨Nat.le_refl 0, Nat.le_refl 0⟩ (fun u43 H locs hq hP hD hS => ?_)
                    obtain ⟨hR, hF43⟩ := hq
                    have hF := hF.tr hF43 (by decide)
                    have hK_HI := sp_fr sp_HI hF43 (by decide) hK_HI
                    have hK_AH := sp_fr sp_AH hF43 (by decide) hK_AH
                    have hK_S7 := sp_fr (sp_s7 _) hF43 (by decide) hK_S7
                    refine lv_aload_n F.1 F.2.1 dX12_line_557 rfl (lv_at hl 0 rfl) ?_
                    refine a_bp F (44 : Int32) dX12_line_558 (by decide) ?_
                    refine lv_aload_n F.1 F.2.1 dX12_line_560 rfl (lv_at hl 0 rfl) ?_
                    refine a_getr F inX12 hP 85 7 tc_85 rfl rfl (by decide) q1478 (fun _ h9 => h9) dX12_line_561 ?_
                    refine a_bp F (6 : Int32) dX12_line_564 (by decide) ?_
                    have g45 : (0 : Int) ≤ (u43.1 88 6).toInt ∧ (u43.1 88 6).toInt ≤ 8 := hR 88 6
                    refine a_ialdK F hP 88 6 tc_88 rfl rfl (i_in ic_6 (by omega)) (v := (u43.1 88 6)) rfl dX12_line_566 ?_
                    refine a_Vi F hml hl.1 hA hP hD hS (As := [.int (44 : Int32), .int (u43.1 88 6)]) (c_X12_takesName_85 l dC dI ad cA nF _ (44 : Int32) (u43.1 88 6) hR (by decide) (by omega) (by simp only [ic_44]; omega)) (cs_RX12_220 (d := 3) F.2.2.1 (by decide)) tc_85 rfl rfl rfl rfl (Nat.le_of_ble_eq_true rfl) dX12_line_567 ⟨Nat.le_refl 0, Nat.le_refl 0⟩ (fun r46 u46 H locs hq hP hD hS => ?_)
                    obtain ⟨hR, hF46, gr46, xr46⟩ := hq
                    have hF := hF.tr hF46 (by decide)
                    have hK_HI := sp_fr sp_HI hF46 (by decide) hK_HI
                    have hK_AH := sp_fr sp_AH hF46 (by decide) hK_AH
                    have hK_S7 := sp_fr (sp_s7 _) hF46 (by decide) hK_S7
                    have xr46 : r46.toInt ≠ 0 → 0 ≤ (u46.1 85 18).toInt ∧ (u46.1 85 18).toInt < (u43.1 88 6).toInt := xr46
                    refine z_ne F 575 dX12_line_570 (by decide) rfl (fun c47 => ?_) (fun c47 => ?_)
                    · refine lv_aload_n F.1 F.2.1 dX12_line_575 rfl (lv_at hl 0 rfl) ?_
                      refine a_geti F inX12 hP 85 18 tc_85 rfl rfl (by decide) q1489 (fun _ h9 => h9) (v := (u46.1 85 18)) (rfl) dX12_line_576 ?_
                      refine lv_istore_n (lv' := [(1, .int (u46.1 85 18)), (0, .ref (ad 85))]) F.1 F.2.1 dX12_line_579 rfl hl (by decide) rfl (fun ls hl => ?_)
                      refine lv_aload_n F.1 F.2.1 dX12_line_580 rfl (lv_at hl 1 rfl) ?_
                      refine a_bp F (44 : Int32) dX12_line_581 (by decide) ?_
                      refine lv_aload_n F.1 F.2.1 dX12_line_583 rfl (lv_at hl 1 rfl) ?_
                      refine a_getr F inX12 hP 85 7 tc_85 rfl rfl (by decide) q1478 (fun _ h9 => h9) dX12_line_584 ?_
                      refine a_bp F (6 : Int32) dX12_line_587 (by decide) ?_
                      refine a_ialdK F hP 88 6 tc_88 rfl rfl (i_in ic_6 (by omega)) (v := (u43.1 88 6)) (hF46 88 6 rfl) dX12_line_589 ?_
                      refine a_Vi F hml hl.1 hA hP hD hS (As := [.int (44 : Int32), .int (u43.1 88 6)]) (c_X12_looksAt_85 l dC dI ad cA nF _ (44 : Int32) (u43.1 88 6) hR (by decide) (by omega) (by simp only [ic_44]; omega)) (cs_RX12_202 (d := 2) F.2.2.1 (by decide)) tc_85 rfl rfl rfl rfl (Nat.le_of_ble_eq_true rfl) dX12_line_590 ⟨Nat.le_refl 0, Nat.le_refl 0⟩ (fun r48 u48 H locs hq hP hD hS => ?_)
                      obtain ⟨hR, hF48, gr48, xr48⟩ := hq
                      have hF := hF.tr hF48 (by decide)
                      have hK_HI := sp_fr sp_HI hF48 (by decide) hK_HI
                      have hK_AH := sp_fr sp_AH hF48 (by decide) hK_AH
                      have hK_S7 := sp_fr (sp_s7 _) hF48 (by decide) hK_S7
                      have xr48 : r48.toInt ≠ 0 → 0 ≤ (u48.1 85 18).toInt ∧ (u48.1 85 18).toInt < (u43.1 88 6).toInt := xr48
                      refine z_ne F 598 dX12_line_593 (by decide) rfl (fun c49 => ?_) (fun c49 => ?_)
                      · refine lv_iload_n F.1 F.2.1 dX12_line_598 rfl (lv_at hl 0 rfl) ?_
                        refine lv_aload_n F.1 F.2.1 dX12_line_599 rfl (lv_at hl 1 rfl) ?_
                        refine a_geti F inX12 hP 85 18 tc_85 rfl rfl (by decide) q1489 (fun _ h9 => h9) (v := (u48.1 85 18)) (rfl) dX12_line_600 ?_
                        refine b_eq F 610 dX12_line_603 (by decide) rfl rfl (fun c50 => ?_) (fun c50 => ?_)
                        · refine a_ic F (0 : Int32) dX12_line_610 (by decide) ?_
                          exact L611 (u46.1 85 18) (0 : Int32) _ _ _ _ hR hF hK_HI hK_S7 hK_AH (by omega) (by decide) (by omega : (0 : Int) ≤ (u48.1 85 18).toInt ∧ (u48.1 85 18).toInt ≤ 7) (i_trB ((hF48 88 7 rfl).trans ((hF46 88 7 rfl).trans (hF43 88 7 rfl))) (by omega : (0 : Int) ≤ (u0.1 88 7).toInt ∧ (u0.1 88 7).toInt ≤ 7)) hP hD hS (lv_sub hl [1, 0] rfl)
                        · refine a_ic F (1 : Int32) dX12_line_606 (by decide) ?_
                          refine lv_goto (tgt := 611) F.1 F.2.1 dX12_line_607 (by decide) ?_
                          exact L611 (u46.1 85 18) (1 : Int32) _ _ _ _ hR hF hK_HI hK_S7 hK_AH (by omega) (by decide) (by omega : (0 : Int) ≤ (u48.1 85 18).toInt ∧ (u48.1 85 18).toInt ≤ 7) (i_trB ((hF48 88 7 rfl).trans ((hF46 88 7 rfl).trans (hF43 88 7 rfl))) (by omega : (0 : Int) ≤ (u0.1 88 7).toInt ∧ (u0.1 88 7).toInt ≤ 7)) hP hD hS (lv_sub hl [1, 0] rfl)
                      · refine a_ic F (0 : Int32) dX12_line_596 (by decide) ?_
                        exact a_retz F hr hlocks hP hD hS dX12_line_597 (Or.inl rfl) ⟨hR, hF, (by decide), hK_HI, hK_AH, (fun h9 => absurd (by decide) h9)⟩
                    · refine a_ic F (0 : Int32) dX12_line_573 (by decide) ?_
                      exact a_retz F hr hlocks hP hD hS dX12_line_574 (Or.inl rfl) ⟨hR, hF, (by decide), hK_HI, hK_AH, (fun h9 => absurd (by decide) h9)⟩
                  · refine lv_aload_n F.1 F.2.1 dX12_line_547 rfl (lv_at hl 0 rfl) ?_
                    refine a_ic F (4 : Int32) dX12_line_548 (by decide) ?_
                    have g52 : (0 : Int) ≤ (u0.1 88 1).toInt ∧ (u0.1 88 1).toInt ≤ 8 := hR 88 1
                    refine a_Vi F hml hl.1 hA hP hD hS (As := [.int (4 : Int32)]) (c_X12_bad_85 l dC dI ad cA nF _ (4 : Int32) hR (by decide)) (cs_RX12_181 (d := 1) F.2.2.1 (by decide)) tc_85 rfl rfl rfl rfl (Nat.le_of_ble_eq_true rfl) dX12_line_549 ⟨Nat.le_refl 0, Nat.le_refl 0⟩ (fun r51 u51 H locs hq hP hD hS => ?_)
                    obtain ⟨hR, hF51, gr51⟩ := hq
                    have hF := hF.tr hF51 (by decide)
                    have hK_HI := sp_fr sp_HI hF51 (by decide) hK_HI
                    have hK_AH := sp_fr sp_AH hF51 (by decide) hK_AH
                    have hK_S7 := sp_fr (sp_s7 _) hF51 (by decide) hK_S7
                    exact a_retz F hr hlocks hP hD hS dX12_line_552 (i_01 (by omega)) ⟨hR, hF, (by omega : (0 : Int) ≤ r51.toInt ∧ r51.toInt ≤ 1), hK_HI, hK_AH, (fun h9 => absurd (by omega : r51.toInt = 0) h9)⟩
                · refine lv_aload_n F.1 F.2.1 dX12_line_529 rfl (lv_at hl 0 rfl) ?_
                  refine a_ic F (1 : Int32) dX12_line_530 (by decide) ?_
                  have g54 : (0 : Int) ≤ (u0.1 88 1).toInt ∧ (u0.1 88 1).toInt ≤ 8 := hR 88 1
                  refine a_Vi F hml hl.1 hA hP hD hS (As := [.int (1 : Int32)]) (c_X12_bad_85 l dC dI ad cA nF _ (1 : Int32) hR (by decide)) (cs_RX12_181 (d := 1) F.2.2.1 (by decide)) tc_85 rfl rfl rfl rfl (Nat.le_of_ble_eq_true rfl) dX12_line_531 ⟨Nat.le_refl 0, Nat.le_refl 0⟩ (fun r53 u53 H locs hq hP hD hS => ?_)
                  obtain ⟨hR, hF53, gr53⟩ := hq
                  have hF := hF.tr hF53 (by decide)
                  have hK_HI := sp_fr sp_HI hF53 (by decide) hK_HI
                  have hK_AH := sp_fr sp_AH hF53 (by decide) hK_AH
                  have hK_S7 := sp_fr (sp_s7 _) hF53 (by decide) hK_S7
                  exact a_retz F hr hlocks hP hD hS dX12_line_534 (i_01 (by omega)) ⟨hR, hF, (by omega : (0 : Int) ≤ r53.toInt ∧ r53.toInt ≤ 1), hK_HI, hK_AH, (fun h9 => absurd (by omega : r53.toInt = 0) h9)⟩
              · refine lv_aload_n F.1 F.2.1 dX12_line_514 rfl (lv_at hl 0 rfl) ?_
                have g56 : (0 : Int) ≤ (u0.1 88 1).toInt ∧ (u0.1 88 1).toInt ≤ 8 := hR 88 1
                refine a_Vi F hml hl.1 hA hP hD hS (As := []) (c_X12_readPromise_85__3 l dC dI ad cA nF _  hR hK_HI hK_AH) (cs_RX12_226 (d := 4) F.2.2.1 (by decide)) tc_85 rfl rfl rfl rfl (Nat.le_of_ble_eq_true rfl) dX12_line_515 ⟨Nat.le_refl 0, Nat.le_refl 0⟩ (fun r55 u55 H locs hq hP hD hS => ?_)
                obtain ⟨hR, hF55, gr55, hK_HI, hK_AH, hK_r55_S7p⟩ := hq
                have hF := hF.tr hF55 (by decide)
                exact a_retz F hr hlocks hP hD hS dX12_line_518 (i_01 (by omega)) ⟨hR, hF, (by omega : (0 : Int) ≤ r55.toInt ∧ r55.toInt ≤ 1), hK_HI, hK_AH, hK_r55_S7p⟩
            · refine lv_aload_n F.1 F.2.1 dX12_line_453 rfl (lv_at hl 0 rfl) ?_
              refine a_getr F inX12 hP 85 7 tc_85 rfl rfl (by decide) q1478 (fun _ h9 => h9) dX12_line_454 ?_
              refine a_ic F (5 : Int32) dX12_line_457 (by decide) ?_
              have g57 : (0 : Int) ≤ (u0.1 88 5).toInt ∧ (u0.1 88 5).toInt ≤ 6 := hR 88 5
              refine a_ialdK F hP 88 5 tc_88 rfl rfl (i_in ic_5 (by omega)) (v := (u0.1 88 5)) rfl dX12_line_458 ?_
              refine a_bp F (6 : Int32) dX12_line_459 (by decide) ?_
              refine b_ne F 470 dX12_line_461 (by decide) rfl ic_6 (fun c58 => ?_) (fun c58 => ?_)
              · refine lv_aload_n F.1 F.2.1 dX12_line_470 rfl (lv_at hl 0 rfl) ?_
                have g60 : (0 : Int) ≤ (u0.1 88 1).toInt ∧ (u0.1 88 1).toInt ≤ 8 := hR 88 1
                refine a_Vv F hml hl.1 hA hP hD hS (As := []) (c_X12_next_85 l dC dI ad cA nF _  hR) (cs_RX12_184 (d := 2) F.2.2.1 (by decide)) tc_85 rfl rfl rfl rfl (Nat.le_of_ble_eq_true rfl) dX12_line_471 ⟨Nat.le_refl 0, Nat.le_refl 0⟩ (fun u59 H locs hq hP hD hS => ?_)
                obtain ⟨hR, hF59⟩ := hq
                have hF := hF.tr hF59 (by decide)
                have hK_HI := sp_fr sp_HI hF59 (by decide) hK_HI
                have hK_AH := sp_fr sp_AH hF59 (by decide) hK_AH
                have hK_S7 := sp_fr (sp_s7 _) hF59 (by decide) hK_S7
                refine lv_aload_n F.1 F.2.1 dX12_line_474 rfl (lv_at hl 0 rfl) ?_
                refine a_bp F (38 : Int32) dX12_line_475 (by decide) ?_
                refine lv_aload_n F.1 F.2.1 dX12_line_477 rfl (lv_at hl 0 rfl) ?_
                refine a_getr F inX12 hP 85 7 tc_85 rfl rfl (by decide) q1478 (fun _ h9 => h9) dX12_line_478 ?_
                refine a_ic F (5 : Int32) dX12_line_481 (by decide) ?_
                refine a_ialdK F hP 88 5 tc_88 rfl rfl (i_in ic_5 (by omega)) (v := (u0.1 88 5)) (hF59 88 5 rfl) dX12_line_482 ?_
                refine a_iadd F dX12_line_483 ic_38 rfl (by omega) (fun v61 hv61 => ?_)
                refine a_Vi F hml hl.1 hA hP hD hS (As := [.int v61]) (c_X12_fresh_85 l dC dI ad cA nF _ v61 hR (by omega)) (cs_RX12_217 (d := 3) F.2.2.1 (by decide)) tc_85 rfl rfl rfl rfl (Nat.le_of_ble_eq_true rfl) dX12_line_484 ⟨Nat.le_refl 0, Nat.le_refl 0⟩ (fun r62 u62 H locs hq hP hD hS => ?_)
                obtain ⟨hR, hF62, gr62⟩ := hq
                have hF := hF.tr hF62 (by decide)
                have hK_HI := sp_fr sp_HI hF62 (by decide) hK_HI
                have hK_AH := sp_fr sp_AH hF62 (by decide) hK_AH
                have hK_S7 := sp_fr (sp_s7 _) hF62 (by decide) hK_S7
                refine z_ne F 492 dX12_line_487 (by decide) rfl (fun c63 => ?_) (fun c63 => ?_)
                · refine lv_aload_n F.1 F.2.1 dX12_line_492 rfl (lv_at hl 0 rfl) ?_
                  refine a_getr F inX12 hP 85 7 tc_85 rfl rfl (by decide) q1478 (fun _ h9 => h9) dX12_line_493 ?_
                  refine a_ic F (5 : Int32) dX12_line_496 (by decide) ?_
                  refine lv_dup2_11 F.1 F.2.1 dX12_line_497 rfl rfl ?_
                  refine a_ialdK F hP 88 5 tc_88 rfl rfl (i_in ic_5 (by omega)) (v := (u0.1 88 5)) ((hF62 88 5 rfl).trans (hF59 88 5 rfl)) dX12_line_498 ?_
                  refine a_ic F (1 : Int32) dX12_line_499 (by decide) ?_
                  refine a_iadd F dX12_line_500 rfl ic_1 (by omega) (fun v64 hv64 => ?_)
                  refine a_iastK F hP hD hS 88 5 tc_88 rfl rfl (i_in ic_5 (by omega)) dX12_line_501 (fun H locs hP hD hS => ?_)
                  have hR := hR.si (c := 88) (k := 5) (v := v64) (by omega : (0 : Int) ≤ v64.toInt ∧ v64.toInt ≤ 6)
                  have hF := hF.si (c := 88) (k := 5) (v := v64) rfl
                  have hO_HI := hK_HI
                  have hO_AH := hK_AH
                  have hO_S7 := hK_S7
                  have hN_S7p := s7_inc (k := 5) hO_S7 (by omega) (x := (u0.1 88 5)) (v := v64) ((hF62 88 5 rfl).trans (hF59 88 5 rfl)) (by omega)
                  have hK_HI := sp_si sp_HI hK_HI (c := 88) (k := 5) (v := v64) (fun j9 h9 q9 => by rw [q9] at h9; exact absurd h9 (by decide))
                  have hK_AH := sp_si sp_AH hK_AH (c := 88) (k := 5) (v := v64) (fun j9 h9 q9 => by rw [q9] at h9; exact absurd h9 (by decide))
                  have hK_S7p := hN_S7p
                  refine a_ic F (1 : Int32) dX12_line_502 (by decide) ?_
                  exact a_retz F hr hlocks hP hD hS dX12_line_503 (Or.inr rfl) ⟨hR, hF, (by decide), hK_HI, hK_AH, (fun _ => hK_S7p)⟩
                · refine a_ic F (0 : Int32) dX12_line_490 (by decide) ?_
                  exact a_retz F hr hlocks hP hD hS dX12_line_491 (Or.inl rfl) ⟨hR, hF, (by decide), hK_HI, hK_AH, (fun h9 => absurd (by decide) h9)⟩
              · refine lv_aload_n F.1 F.2.1 dX12_line_464 rfl (lv_at hl 0 rfl) ?_
                refine a_ic F (4 : Int32) dX12_line_465 (by decide) ?_
                have g66 : (0 : Int) ≤ (u0.1 88 1).toInt ∧ (u0.1 88 1).toInt ≤ 8 := hR 88 1
                refine a_Vi F hml hl.1 hA hP hD hS (As := [.int (4 : Int32)]) (c_X12_bad_85 l dC dI ad cA nF _ (4 : Int32) hR (by decide)) (cs_RX12_181 (d := 1) F.2.2.1 (by decide)) tc_85 rfl rfl rfl rfl (Nat.le_of_ble_eq_true rfl) dX12_line_466 ⟨Nat.le_refl 0, Nat.le_refl 0⟩ (fun r65 u65 H locs hq hP hD hS => ?_)
                obtain ⟨hR, hF65, gr65⟩ := hq
                have hF := hF.tr hF65 (by decide)
                have hK_HI := sp_fr sp_HI hF65 (by decide) hK_HI
                have hK_AH := sp_fr sp_AH hF65 (by decide) hK_AH
                have hK_S7 := sp_fr (sp_s7 _) hF65 (by decide) hK_S7
                exact a_retz F hr hlocks hP hD hS dX12_line_469 (i_01 (by omega)) ⟨hR, hF, (by omega : (0 : Int) ≤ r65.toInt ∧ r65.toInt ≤ 1), hK_HI, hK_AH, (fun h9 => absurd (by omega : r65.toInt = 0) h9)⟩
          · refine lv_aload_n F.1 F.2.1 dX12_line_360 rfl (lv_at hl 0 rfl) ?_
            refine a_getr F inX12 hP 85 7 tc_85 rfl rfl (by decide) q1478 (fun _ h9 => h9) dX12_line_361 ?_
            refine a_ic F (4 : Int32) dX12_line_364 (by decide) ?_
            have g67 : (0 : Int) ≤ (u0.1 88 4).toInt ∧ (u0.1 88 4).toInt ≤ 4 := hR 88 4
            refine a_ialdK F hP 88 4 tc_88 rfl rfl (i_in ic_4 (by omega)) (v := (u0.1 88 4)) rfl dX12_line_365 ?_
            refine a_ic F (4 : Int32) dX12_line_366 (by decide) ?_
            refine b_ne F 376 dX12_line_367 (by decide) rfl ic_4 (fun c68 => ?_) (fun c68 => ?_)
            · refine lv_aload_n F.1 F.2.1 dX12_line_376 rfl (lv_at hl 0 rfl) ?_
              have g70 : (0 : Int) ≤ (u0.1 88 1).toInt ∧ (u0.1 88 1).toInt ≤ 8 := hR 88 1
              refine a_Vv F hml hl.1 hA hP hD hS (As := []) (c_X12_next_85 l dC dI ad cA nF _  hR) (cs_RX12_184 (d := 2) F.2.2.1 (by decide)) tc_85 rfl rfl rfl rfl (Nat.le_of_ble_eq_true rfl) dX12_line_377 ⟨Nat.le_refl 0, Nat.le_refl 0⟩ (fun u69 H locs hq hP hD hS => ?_)
              obtain ⟨hR, hF69⟩ := hq
              have hF := hF.tr hF69 (by decide)
              have hK_HI := sp_fr sp_HI hF69 (by decide) hK_HI
              have hK_AH := sp_fr sp_AH hF69 (by decide) hK_AH
              have hK_S7 := sp_fr (sp_s7 _) hF69 (by decide) hK_S7
              refine lv_aload_n F.1 F.2.1 dX12_line_380 rfl (lv_at hl 0 rfl) ?_
              refine a_bp F (34 : Int32) dX12_line_381 (by decide) ?_
              refine lv_aload_n F.1 F.2.1 dX12_line_383 rfl (lv_at hl 0 rfl) ?_
              refine a_getr F inX12 hP 85 7 tc_85 rfl rfl (by decide) q1478 (fun _ h9 => h9) dX12_line_384 ?_
              refine a_ic F (4 : Int32) dX12_line_387 (by decide) ?_
              refine a_ialdK F hP 88 4 tc_88 rfl rfl (i_in ic_4 (by omega)) (v := (u0.1 88 4)) (hF69 88 4 rfl) dX12_line_388 ?_
              refine a_iadd F dX12_line_389 ic_34 rfl (by omega) (fun v71 hv71 => ?_)
              refine a_Vi F hml hl.1 hA hP hD hS (As := [.int v71]) (c_X12_fresh_85 l dC dI ad cA nF _ v71 hR (by omega)) (cs_RX12_217 (d := 3) F.2.2.1 (by decide)) tc_85 rfl rfl rfl rfl (Nat.le_of_ble_eq_true rfl) dX12_line_390 ⟨Nat.le_refl 0, Nat.le_refl 0⟩ (fun r72 u72 H locs hq hP hD hS => ?_)
              obtain ⟨hR, hF72, gr72⟩ := hq
              have hF := hF.tr hF72 (by decide)
              have hK_HI := sp_fr sp_HI hF72 (by decide) hK_HI
              have hK_AH := sp_fr sp_AH hF72 (by decide) hK_AH
              have hK_S7 := sp_fr (sp_s7 _) hF72 (by decide) hK_S7
              refine z_eq F 411 dX12_line_393 (by decide) rfl (fun c73 => ?_) (fun c73 => ?_)
              · exact L411 _ _ _ _ hR hF hK_HI hK_AH (i_trB ((hF72 88 4 rfl).trans (hF69 88 4 rfl)) (by omega : (0 : Int) ≤ (u0.1 88 4).toInt ∧ (u0.1 88 4).toInt ≤ 3)) hP hD hS (lv_sub hl [] rfl)
              · refine lv_aload_n F.1 F.2.1 dX12_line_396 rfl (lv_at hl 0 rfl) ?_
                refine a_bp F (26 : Int32) dX12_line_397 (by decide) ?_
                refine lv_aload_n F.1 F.2.1 dX12_line_399 rfl (lv_at hl 0 rfl) ?_
                refine a_getr F inX12 hP 85 7 tc_85 rfl rfl (by decide) q1478 (fun _ h9 => h9) dX12_line_400 ?_
                refine a_ic F (1 : Int32) dX12_line_403 (by decide) ?_
                refine a_ialdK F hP 88 1 tc_88 rfl rfl (i_in ic_1 (by omega)) (v := (u0.1 88 1)) ((hF72 88 1 rfl).trans (hF69 88 1 rfl)) dX12_line_404 ?_
                refine a_Vi F hml hl.1 hA hP hD hS (As := [.int (26 : Int32), .int (u0.1 88 1)]) (c_X12_takesName_85 l dC dI ad cA nF _ (26 : Int32) (u0.1 88 1) hR (by decide) (by omega) (by simp only [ic_26]; omega)) (cs_RX12_220 (d := 3) F.2.2.1 (by decide)) tc_85 rfl rfl rfl rfl (Nat.le_of_ble_eq_true rfl) dX12_line_405 ⟨Nat.le_refl 0, Nat.le_refl 0⟩ (fun r74 u74 H locs hq hP hD hS => ?_)
                obtain ⟨hR, hF74, gr74, xr74⟩ := hq
                have hF := hF.tr hF74 (by decide)
                have hK_HI := sp_fr sp_HI hF74 (by decide) hK_HI
                have hK_AH := sp_fr sp_AH hF74 (by decide) hK_AH
                have hK_S7 := sp_fr (sp_s7 _) hF74 (by decide) hK_S7
                have xr74 : r74.toInt ≠ 0 → 0 ≤ (u74.1 85 18).toInt ∧ (u74.1 85 18).toInt < (u0.1 88 1).toInt := xr74
                refine z_ne F 413 dX12_line_408 (by decide) rfl (fun c75 => ?_) (fun c75 => ?_)
                · refine lv_aload_n F.1 F.2.1 dX12_line_413 rfl (lv_at hl 0 rfl) ?_
                  refine a_getr F inX12 hP 85 7 tc_85 rfl rfl (by decide) q1478 (fun _ h9 => h9) dX12_line_414 ?_
                  refine a_bp F (22 : Int32) dX12_line_417 (by decide) ?_
                  refine lv_aload_n F.1 F.2.1 dX12_line_419 rfl (lv_at hl 0 rfl) ?_
                  refine a_getr F inX12 hP 85 7 tc_85 rfl rfl (by decide) q1478 (fun _ h9 => h9) dX12_line_420 ?_
                  refine a_ic F (4 : Int32) dX12_line_423 (by decide) ?_
                  refine a_ialdK F hP 88 4 tc_88 rfl rfl (i_in ic_4 (by omega)) (v := (u0.1 88 4)) ((hF74 88 4 rfl).trans ((hF72 88 4 rfl).trans (hF69 88 4 rfl))) dX12_line_424 ?_
                  refine a_iadd F dX12_line_425 ic_22 rfl (by omega) (fun v76 hv76 => ?_)
                  refine lv_aload_n F.1 F.2.1 dX12_line_426 rfl (lv_at hl 0 rfl) ?_
                  refine a_geti F inX12 hP 85 18 tc_85 rfl rfl (by decide) q1489 (fun _ h9 => h9) (v := (u74.1 85 18)) (rfl) dX12_line_427 ?_
                  refine a_iast F hP hD hS 88 tc_88 rfl (i_in rfl (by omega)) dX12_line_430 (fun H locs hP hD hS => ?_)
                  have hR := hR.si (c := 88) (k := v76.toNatClampNeg) (v := (u74.1 85 18)) (rs_88_22_25 (by omega) (by omega : (0 : Int) ≤ (u74.1 85 18).toInt ∧ (u74.1 85 18).toInt ≤ 7))
                  have hF := hF.si (c := 88) (k := v76.toNatClampNeg) (v := (u74.1 85 18)) rfl
                  have hO_HI := hK_HI
                  have hO_AH := hK_AH
                  have hO_S7 := hK_S7
                  have hK_HI := sp_si sp_HI hK_HI (c := 88) (k := v76.toNatClampNeg) (v := (u74.1 85 18)) (fun j9 h9 => by have q8 := sp_mem h9; simp at q8; have q9 := i_cl (x := v76) (by omega); omega)
                  have hK_AH := ah_s hO_AH (i := v76) (v := (u74.1 85 18)) (by omega) (t := (u0.1 88 1)) ((hF74 88 1 rfl).trans ((hF72 88 1 rfl).trans (hF69 88 1 rfl))) (by omega)
                  have hK_S7 := sp_si (sp_s7 _) hK_S7 (c := 88) (k := v76.toNatClampNeg) (v := (u74.1 85 18)) (fun j9 h9 => by have q8 := sp_mem h9; simp at q8; have q9 := i_cl (x := v76) (by omega); omega)
                  refine lv_aload_n F.1 F.2.1 dX12_line_431 rfl (lv_at hl 0 rfl) ?_
                  refine a_getr F inX12 hP 85 7 tc_85 rfl rfl (by decide) q1478 (fun _ h9 => h9) dX12_line_432 ?_
                  refine a_ic F (4 : Int32) dX12_line_435 (by decide) ?_
                  refine lv_dup2_11 F.1 F.2.1 dX12_line_436 rfl rfl ?_
                  refine a_ialdK F hP 88 4 tc_88 rfl rfl (i_in ic_4 (by omega)) (v := (u0.1 88 4)) ((ac_ne (c := 88) (k := 4) (i := v76) (by have q9 := i_cl (x := v76) (by omega); omega)).trans ((hF74 88 4 rfl).trans ((hF72 88 4 rfl).trans (hF69 88 4 rfl)))) dX12_line_437 ?_
                  refine a_ic F (1 : Int32) dX12_line_438 (by decide) ?_
                  refine a_iadd F dX12_line_439 rfl ic_1 (by omega) (fun v77 hv77 => ?_)
                  refine a_iastK F hP hD hS 88 4 tc_88 rfl rfl (i_in ic_4 (by omega)) dX12_line_440 (fun H locs hP hD hS => ?_)
                  have hR := hR.si (c := 88) (k := 4) (v := v77) (by omega : (0 : Int) ≤ v77.toInt ∧ v77.toInt ≤ 4)
                  have hF := hF.si (c := 88) (k := 4) (v := v77) rfl
                  have hO_HI := hK_HI
                  have hO_AH := hK_AH
                  have hO_S7 := hK_S7
                  have hN_S7p := s7_inc (k := 4) hO_S7 (by omega) (x := (u0.1 88 4)) (v := v77) ((ac_ne (c := 88) (k := 4) (i := v76) (by have q9 := i_cl (x := v76) (by omega); omega)).trans ((hF74 88 4 rfl).trans ((hF72 88 4 rfl).trans (hF69 88 4 rfl)))) (by omega)
                  have hK_HI := hs_q hO_HI (v := v77) (i_trP ((ac_ne (c := 88) (k := 1) (i := v76) (by have q9 := i_cl (x := v76) (by omega); omega)).trans ((hF74 88 1 rfl).trans ((hF72 88 1 rfl).trans (hF69 88 1 rfl)))) (by omega : 0 < (u0.1 88 1).toInt))
                  have hK_AH := sp_si sp_AH hK_AH (c := 88) (k := 4) (v := v77) (fun j9 h9 q9 => by rw [q9] at h9; exact absurd h9 (by decide))
                  have hK_S7p := hN_S7p
                  refine a_ic F (1 : Int32) dX12_line_441 (by decide) ?_
                  exact a_retz F hr hlocks hP hD hS dX12_line_442 (Or.inr rfl) ⟨hR, hF, (by decide), hK_HI, hK_AH, (fun _ => hK_S7p)⟩
                · exact L411 _ _ _ _ hR hF hK_HI hK_AH (i_trB ((hF74 88 4 rfl).trans ((hF72 88 4 rfl).trans (hF69 88 4 rfl))) (by omega : (0 : Int) ≤ (u0.1 88 4).toInt ∧ (u0.1 88 4).toInt ≤ 3)) hP hD hS (lv_sub hl [] rfl)
            · refine lv_aload_n F.1 F.2.1 dX12_line_370 rfl (lv_at hl 0 rfl) ?_
              refine a_ic F (4 : Int32) dX12_line_371 (by decide) ?_
              have g79 : (0 : Int) ≤ (u0.1 88 1).toInt ∧ (u0.1 88 1).toInt ≤ 8 := hR 88 1
              refine a_Vi F hml hl.1 hA hP hD hS (As := [.int (4 : Int32)]) (c_X12_bad_85 l dC dI ad cA nF _ (4 : Int32) hR (by decide)) (cs_RX12_181 (d := 1) F.2.2.1 (by decide)) tc_85 rfl rfl rfl rfl (Nat.le_of_ble_eq_true rfl) dX12_line_372 ⟨Nat.le_refl 0, Nat.le_refl 0⟩ (fun r78 u78 H locs hq hP hD hS => ?_)
              obtain ⟨hR, hF78, gr78⟩ := hq
              have hF := hF.tr hF78 (by decide)
              have hK_HI := sp_fr sp_HI hF78 (by decide) hK_HI
              have hK_AH := sp_fr sp_AH hF78 (by decide) hK_AH
              have hK_S7 := sp_fr (sp_s7 _) hF78 (by decide) hK_S7
              exact a_retz F hr hlocks hP hD hS dX12_line_375 (i_01 (by omega)) ⟨hR, hF, (by omega : (0 : Int) ≤ r78.toInt ∧ r78.toInt ≤ 1), hK_HI, hK_AH, (fun h9 => absurd (by omega : r78.toInt = 0) h9)⟩
        · refine lv_aload_n F.1 F.2.1 dX12_line_282 rfl (lv_at hl 0 rfl) ?_
          refine a_getr F inX12 hP 85 7 tc_85 rfl rfl (by decide) q1478 (fun _ h9 => h9) dX12_line_283 ?_
          refine a_ic F (3 : Int32) dX12_line_286 (by decide) ?_
          have g80 : (0 : Int) ≤ (u0.1 88 3).toInt ∧ (u0.1 88 3).toInt ≤ 6 := hR 88 3
          refine a_ialdK F hP 88 3 tc_88 rfl rfl (i_in ic_3 (by omega)) (v := (u0.1 88 3)) rfl dX12_line_287 ?_
          refine a_bp F (6 : Int32) dX12_line_288 (by decide) ?_
          refine b_ne F 299 dX12_line_290 (by decide) rfl ic_6 (fun c81 => ?_) (fun c81 => ?_)
          · refine lv_aload_n F.1 F.2.1 dX12_line_299 rfl (lv_at hl 0 rfl) ?_
            have g83 : (0 : Int) ≤ (u0.1 88 1).toInt ∧ (u0.1 88 1).toInt ≤ 8 := hR 88 1
            refine a_Vv F hml hl.1 hA hP hD hS (As := []) (c_X12_next_85 l dC dI ad cA nF _  hR) (cs_RX12_184 (d := 2) F.2.2.1 (by decide)) tc_85 rfl rfl rfl rfl (Nat.le_of_ble_eq_true rfl) dX12_line_300 ⟨Nat.le_refl 0, Nat.le_refl 0⟩ (fun u82 H locs hq hP hD hS => ?_)
            obtain ⟨hR, hF82⟩ := hq
            have hF := hF.tr hF82 (by decide)
            have hK_HI := sp_fr sp_HI hF82 (by decide) hK_HI
            have hK_AH := sp_fr sp_AH hF82 (by decide) hK_AH
            have hK_S7 := sp_fr (sp_s7 _) hF82 (by decide) hK_S7
            refine lv_aload_n F.1 F.2.1 dX12_line_303 rfl (lv_at hl 0 rfl) ?_
            refine a_bp F (26 : Int32) dX12_line_304 (by decide) ?_
            refine lv_aload_n F.1 F.2.1 dX12_line_306 rfl (lv_at hl 0 rfl) ?_
            refine a_getr F inX12 hP 85 7 tc_85 rfl rfl (by decide) q1478 (fun _ h9 => h9) dX12_line_307 ?_
            refine a_ic F (1 : Int32) dX12_line_310 (by decide) ?_
            refine a_ialdK F hP 88 1 tc_88 rfl rfl (i_in ic_1 (by omega)) (v := (u0.1 88 1)) (hF82 88 1 rfl) dX12_line_311 ?_
            refine a_Vi F hml hl.1 hA hP hD hS (As := [.int (26 : Int32), .int (u0.1 88 1)]) (c_X12_takesName_85 l dC dI ad cA nF _ (26 : Int32) (u0.1 88 1) hR (by decide) (by omega) (by simp only [ic_26]; omega)) (cs_RX12_220 (d := 3) F.2.2.1 (by decide)) tc_85 rfl rfl rfl rfl (Nat.le_of_ble_eq_true rfl) dX12_line_312 ⟨Nat.le_refl 0, Nat.le_refl 0⟩ (fun r84 u84 H locs hq hP hD hS => ?_)
            obtain ⟨hR, hF84, gr84, xr84⟩ := hq
            have hF := hF.tr hF84 (by decide)
            have hK_HI := sp_fr sp_HI hF84 (by decide) hK_HI
            have hK_AH := sp_fr sp_AH hF84 (by decide) hK_AH
            have hK_S7 := sp_fr (sp_s7 _) hF84 (by decide) hK_S7
            have xr84 : r84.toInt ≠ 0 → 0 ≤ (u84.1 85 18).toInt ∧ (u84.1 85 18).toInt < (u0.1 88 1).toInt := xr84
            refine z_ne F 320 dX12_line_315 (by decide) rfl (fun c85 => ?_) (fun c85 => ?_)
            · refine lv_aload_n F.1 F.2.1 dX12_line_320 rfl (lv_at hl 0 rfl) ?_
              refine a_getr F inX12 hP 85 7 tc_85 rfl rfl (by decide) q1478 (fun _ h9 => h9) dX12_line_321 ?_
              refine a_bp F (16 : Int32) dX12_line_324 (by decide) ?_
              refine lv_aload_n F.1 F.2.1 dX12_line_326 rfl (lv_at hl 0 rfl) ?_
              refine a_getr F inX12 hP 85 7 tc_85 rfl rfl (by decide) q1478 (fun _ h9 => h9) dX12_line_327 ?_
              refine a_ic F (3 : Int32) dX12_line_330 (by decide) ?_
              refine a_ialdK F hP 88 3 tc_88 rfl rfl (i_in ic_3 (by omega)) (v := (u0.1 88 3)) ((hF84 88 3 rfl).trans (hF82 88 3 rfl)) dX12_line_331 ?_
              refine a_iadd F dX12_line_332 ic_16 rfl (by omega) (fun v86 hv86 => ?_)
              refine lv_aload_n F.1 F.2.1 dX12_line_333 rfl (lv_at hl 0 rfl) ?_
              refine a_geti F inX12 hP 85 18 tc_85 rfl rfl (by decide) q1489 (fun _ h9 => h9) (v := (u84.1 85 18)) (rfl) dX12_line_334 ?_
              refine a_iast F hP hD hS 88 tc_88 rfl (i_in rfl (by omega)) dX12_line_337 (fun H locs hP hD hS => ?_)
              have hR := hR.si (c := 88) (k := v86.toNatClampNeg) (v := (u84.1 85 18)) (rs_88_16_21 (by omega) (by omega : (0 : Int) ≤ (u84.1 85 18).toInt ∧ (u84.1 85 18).toInt ≤ 7))
              have hF := hF.si (c := 88) (k := v86.toNatClampNeg) (v := (u84.1 85 18)) rfl
              have hK_HI := sp_si sp_HI hK_HI (c := 88) (k := v86.toNatClampNeg) (v := (u84.1 85 18)) (fun j9 h9 => by have q8 := sp_mem h9; simp at q8; have q9 := i_cl (x := v86) (by omega); omega)
              have hK_AH := sp_si sp_AH hK_AH (c := 88) (k := v86.toNatClampNeg) (v := (u84.1 85 18)) (fun j9 h9 => by have q8 := sp_mem h9; simp at q8; have q9 := i_cl (x := v86) (by omega); omega)
              have hK_S7 := sp_si (sp_s7 _) hK_S7 (c := 88) (k := v86.toNatClampNeg) (v := (u84.1 85 18)) (fun j9 h9 => by have q8 := sp_mem h9; simp at q8; have q9 := i_cl (x := v86) (by omega); omega)
              refine lv_aload_n F.1 F.2.1 dX12_line_338 rfl (lv_at hl 0 rfl) ?_
              refine a_getr F inX12 hP 85 7 tc_85 rfl rfl (by decide) q1478 (fun _ h9 => h9) dX12_line_339 ?_
              refine a_ic F (3 : Int32) dX12_line_342 (by decide) ?_
              refine lv_dup2_11 F.1 F.2.1 dX12_line_343 rfl rfl ?_
              refine a_ialdK F hP 88 3 tc_88 rfl rfl (i_in ic_3 (by omega)) (v := (u0.1 88 3)) ((ac_ne (c := 88) (k := 3) (i := v86) (by have q9 := i_cl (x := v86) (by omega); omega)).trans ((hF84 88 3 rfl).trans (hF82 88 3 rfl))) dX12_line_344 ?_
              refine a_ic F (1 : Int32) dX12_line_345 (by decide) ?_
              refine a_iadd F dX12_line_346 rfl ic_1 (by omega) (fun v87 hv87 => ?_)
              refine a_iastK F hP hD hS 88 3 tc_88 rfl rfl (i_in ic_3 (by omega)) dX12_line_347 (fun H locs hP hD hS => ?_)
              have hR := hR.si (c := 88) (k := 3) (v := v87) (by omega : (0 : Int) ≤ v87.toInt ∧ v87.toInt ≤ 6)
              have hF := hF.si (c := 88) (k := 3) (v := v87) rfl
              have hO_HI := hK_HI
              have hO_AH := hK_AH
              have hO_S7 := hK_S7
              have hN_S7p := s7_inc (k := 3) hO_S7 (by omega) (x := (u0.1 88 3)) (v := v87) ((ac_ne (c := 88) (k := 3) (i := v86) (by have q9 := i_cl (x := v86) (by omega); omega)).trans ((hF84 88 3 rfl).trans (hF82 88 3 rfl))) (by omega)
              have hK_HI := sp_si sp_HI hK_HI (c := 88) (k := 3) (v := v87) (fun j9 h9 q9 => by rw [q9] at h9; exact absurd h9 (by decide))
              have hK_AH := sp_si sp_AH hK_AH (c := 88) (k := 3) (v := v87) (fun j9 h9 q9 => by rw [q9] at h9; exact absurd h9 (by decide))
              have hK_S7p := hN_S7p
              refine a_ic F (1 : Int32) dX12_line_348 (by decide) ?_
              exact a_retz F hr hlocks hP hD hS dX12_line_349 (Or.inr rfl) ⟨hR, hF, (by decide), hK_HI, hK_AH, (fun _ => hK_S7p)⟩
            · refine a_ic F (0 : Int32) dX12_line_318 (by decide) ?_
              exact a_retz F hr hlocks hP hD hS dX12_line_319 (Or.inl rfl) ⟨hR, hF, (by decide), hK_HI, hK_AH, (fun h9 => absurd (by decide) h9)⟩
          · refine lv_aload_n F.1 F.2.1 dX12_line_293 rfl (lv_at hl 0 rfl) ?_
            refine a_ic F (4 : Int32) dX12_line_294 (by decide) ?_
            have g89 : (0 : Int) ≤ (u0.1 88 1).toInt ∧ (u0.1 88 1).toInt ≤ 8 := hR 88 1
            refine a_Vi F hml hl.1 hA hP hD hS (As := [.int (4 : Int32)]) (c_X12_bad_85 l dC dI ad cA nF _ (4 : Int32) hR (by decide)) (cs_RX12_181 (d := 1) F.2.2.1 (by decide)) tc_85 rfl rfl rfl rfl (Nat.le_of_ble_eq_true rfl) dX12_line_295 ⟨Nat.le_refl 0, Nat.le_refl 0⟩ (fun r88 u88 H locs hq hP hD hS => ?_)
            obtain ⟨hR, hF88, gr88⟩ := hq
            have hF := hF.tr hF88 (by decide)
            have hK_HI := sp_fr sp_HI hF88 (by decide) hK_HI
            have hK_AH := sp_fr sp_AH hF88 (by decide) hK_AH
            have hK_S7 := sp_fr (sp_s7 _) hF88 (by decide) hK_S7
            exact a_retz F hr hlocks hP hD hS dX12_line_298 (i_01 (by omega)) ⟨hR, hF, (by omega : (0 : Int) ≤ r88.toInt ∧ r88.toInt ≤ 1), hK_HI, hK_AH, (fun h9 => absurd (by omega : r88.toInt = 0) h9)⟩
      · refine lv_aload_n F.1 F.2.1 dX12_line_127 rfl (lv_at hl 0 rfl) ?_
        refine a_getr F inX12 hP 85 7 tc_85 rfl rfl (by decide) q1478 (fun _ h9 => h9) dX12_line_128 ?_
        refine a_ic F (2 : Int32) dX12_line_131 (by decide) ?_
        have g90 : (0 : Int) ≤ (u0.1 88 2).toInt ∧ (u0.1 88 2).toInt ≤ 12 := hR 88 2
        refine a_ialdK F hP 88 2 tc_88 rfl rfl (i_in ic_2 (by omega)) (v := (u0.1 88 2)) rfl dX12_line_132 ?_
        refine a_bp F (12 : Int32) dX12_line_133 (by decide) ?_
        refine b_ne F 144 dX12_line_135 (by decide) rfl ic_12 (fun c91 => ?_) (fun c91 => ?_)
        · refine lv_aload_n F.1 F.2.1 dX12_line_144 rfl (lv_at hl 0 rfl) ?_
          have g93 : (0 : Int) ≤ (u0.1 88 1).toInt ∧ (u0.1 88 1).toInt ≤ 8 := hR 88 1
          refine a_Vv F hml hl.1 hA hP hD hS (As := []) (c_X12_next_85 l dC dI ad cA nF _  hR) (cs_RX12_184 (d := 2) F.2.2.1 (by decide)) tc_85 rfl rfl rfl rfl (Nat.le_of_ble_eq_true rfl) dX12_line_145 ⟨Nat.le_refl 0, Nat.le_refl 0⟩ (fun u92 H locs hq hP hD hS => ?_)
          obtain ⟨hR, hF92⟩ := hq
          have hF := hF.tr hF92 (by decide)
          have hK_HI := sp_fr sp_HI hF92 (by decide) hK_HI
          have hK_AH := sp_fr sp_AH hF92 (by decide) hK_AH
          have hK_S7 := sp_fr (sp_s7 _) hF92 (by decide) hK_S7
          refine lv_aload_n F.1 F.2.1 dX12_line_148 rfl (lv_at hl 0 rfl) ?_
          refine a_bp F (26 : Int32) dX12_line_149 (by decide) ?_
          refine lv_aload_n F.1 F.2.1 dX12_line_151 rfl (lv_at hl 0 rfl) ?_
          refine a_getr F inX12 hP 85 7 tc_85 rfl rfl (by decide) q1478 (fun _ h9 => h9) dX12_line_152 ?_
          refine a_ic F (1 : Int32) dX12_line_155 (by decide) ?_
          refine a_ialdK F hP 88 1 tc_88 rfl rfl (i_in ic_1 (by omega)) (v := (u0.1 88 1)) (hF92 88 1 rfl) dX12_line_156 ?_
          refine a_Vi F hml hl.1 hA hP hD hS (As := [.int (26 : Int32), .int (u0.1 88 1)]) (c_X12_takesName_85 l dC dI ad cA nF _ (26 : Int32) (u0.1 88 1) hR (by decide) (by omega) (by simp only [ic_26]; omega)) (cs_RX12_220 (d := 3) F.2.2.1 (by decide)) tc_85 rfl rfl rfl rfl (Nat.le_of_ble_eq_true rfl) dX12_line_157 ⟨Nat.le_refl 0, Nat.le_refl 0⟩ (fun r94 u94 H locs hq hP hD hS => ?_)
          obtain ⟨hR, hF94, gr94, xr94⟩ := hq
          have hF := hF.tr hF94 (by decide)
          have hK_HI := sp_fr sp_HI hF94 (by decide) hK_HI
          have hK_AH := sp_fr sp_AH hF94 (by decide) hK_AH
          have hK_S7 := sp_fr (sp_s7 _) hF94 (by decide) hK_S7
          have xr94 : r94.toInt ≠ 0 → 0 ≤ (u94.1 85 18).toInt ∧ (u94.1 85 18).toInt < (u0.1 88 1).toInt := xr94
          refine z_ne F 165 dX12_line_160 (by decide) rfl (fun c95 => ?_) (fun c95 => ?_)
          · refine lv_aload_n F.1 F.2.1 dX12_line_165 rfl (lv_at hl 0 rfl) ?_
            refine a_geti F inX12 hP 85 18 tc_85 rfl rfl (by decide) q1489 (fun _ h9 => h9) (v := (u94.1 85 18)) (rfl) dX12_line_166 ?_
            refine lv_istore_n (lv' := [(1, .int (u94.1 85 18)), (0, .ref (ad 85))]) F.1 F.2.1 dX12_line_169 rfl hl (by decide) rfl (fun ls hl => ?_)
            refine lv_aload_n F.1 F.2.1 dX12_line_170 rfl (lv_at hl 1 rfl) ?_
            refine a_bp F (26 : Int32) dX12_line_171 (by decide) ?_
            refine lv_aload_n F.1 F.2.1 dX12_line_173 rfl (lv_at hl 1 rfl) ?_
            refine a_getr F inX12 hP 85 7 tc_85 rfl rfl (by decide) q1478 (fun _ h9 => h9) dX12_line_174 ?_
            refine a_ic F (1 : Int32) dX12_line_177 (by decide) ?_
            refine a_ialdK F hP 88 1 tc_88 rfl rfl (i_in ic_1 (by omega)) (v := (u0.1 88 1)) ((hF94 88 1 rfl).trans (hF92 88 1 rfl)) dX12_line_178 ?_
            refine a_Vi F hml hl.1 hA hP hD hS (As := [.int (26 : Int32), .int (u0.1 88 1)]) (c_X12_looksAt_85 l dC dI ad cA nF _ (26 : Int32) (u0.1 88 1) hR (by decide) (by omega) (by simp only [ic_26]; omega)) (cs_RX12_202 (d := 2) F.2.2.1 (by decide)) tc_85 rfl rfl rfl rfl (Nat.le_of_ble_eq_true rfl) dX12_line_179 ⟨Nat.le_refl 0, Nat.le_refl 0⟩ (fun r96 u96 H locs hq hP hD hS => ?_)
            obtain ⟨hR, hF96, gr96, xr96⟩ := hq
            have hF := hF.tr hF96 (by decide)
            have hK_HI := sp_fr sp_HI hF96 (by decide) hK_HI
            have hK_AH := sp_fr sp_AH hF96 (by decide) hK_AH
            have hK_S7 := sp_fr (sp_s7 _) hF96 (by decide) hK_S7
            have xr96 : r96.toInt ≠ 0 → 0 ≤ (u96.1 85 18).toInt ∧ (u96.1 85 18).toInt < (u0.1 88 1).toInt := xr96
            refine z_ne F 187 dX12_line_182 (by decide) rfl (fun c97 => ?_) (fun c97 => ?_)
            · refine lv_iload_n F.1 F.2.1 dX12_line_187 rfl (lv_at hl 0 rfl) ?_
              refine lv_aload_n F.1 F.2.1 dX12_line_188 rfl (lv_at hl 1 rfl) ?_
              refine a_geti F inX12 hP 85 18 tc_85 rfl rfl (by decide) q1489 (fun _ h9 => h9) (v := (u96.1 85 18)) (rfl) dX12_line_189 ?_
              refine b_eq F 214 dX12_line_192 (by decide) rfl rfl (fun c98 => ?_) (fun c98 => ?_)
              · exact L214 _ _ _ _ hR hF hK_HI hK_AH (by omega : (0 : Int) ≤ (u96.1 85 18).toInt ∧ (u96.1 85 18).toInt ≤ 7) (i_trB ((hF96 88 2 rfl).trans ((hF94 88 2 rfl).trans (hF92 88 2 rfl))) (by omega : (0 : Int) ≤ (u0.1 88 2).toInt ∧ (u0.1 88 2).toInt ≤ 11)) hP hD hS (lv_sub hl [1] rfl)
              · refine lv_aload_n F.1 F.2.1 dX12_line_195 rfl (lv_at hl 1 rfl) ?_
                refine a_getr F inX12 hP 85 7 tc_85 rfl rfl (by decide) q1478 (fun _ h9 => h9) dX12_line_196 ?_
                refine a_bp F (8 : Int32) dX12_line_199 (by decide) ?_
                refine lv_iload_n F.1 F.2.1 dX12_line_201 rfl (lv_at hl 0 rfl) ?_
                refine a_iadd F dX12_line_202 ic_8 rfl (by omega) (fun v99 hv99 => ?_)
                refine a_iald F hP 88 tc_88 rfl (i_in rfl (by omega)) dX12_line_203 (fun v100 ev100 => ?_)
                refine lv_aload_n F.1 F.2.1 dX12_line_204 rfl (lv_at hl 1 rfl) ?_
                refine a_geti F inX12 hP 85 18 tc_85 rfl rfl (by decide) q1489 (fun _ h9 => h9) (v := (u96.1 85 18)) (rfl) dX12_line_205 ?_
                refine a_Si F hml hl.1 hA hP hD hS (As := [.int v100, .int (u96.1 85 18)]) (c_X12_bitOf l dC dI ad cA nF _ v100 (u96.1 85 18) hR) (cs_RX12_223 (d := 1) F.2.2.1 (by decide)) rfl rfl (Nat.le_of_ble_eq_true rfl) dX12_line_208 ⟨Nat.le_refl 0, Nat.le_refl 0⟩ (fun r101 uN101 H locs hq hP hD hS => ?_)
                obtain ⟨hu101, gr101⟩ := hq
                rw [hu101] at hP hD
                refine z_eq F 220 dX12_line_211 (by decide) rfl (fun c102 => ?_) (fun c102 => ?_)
                · refine lv_aload_n F.1 F.2.1 dX12_line_220 rfl (lv_at hl 1 rfl) ?_
                  refine a_getr F inX12 hP 85 7 tc_85 rfl rfl (by decide) q1478 (fun _ h9 => h9) dX12_line_221 ?_
                  refine a_bp F (8 : Int32) dX12_line_224 (by decide) ?_
                  refine lv_iload_n F.1 F.2.1 dX12_line_226 rfl (lv_at hl 0 rfl) ?_
                  refine a_iadd F dX12_line_227 ic_8 rfl (by omega) (fun v103 hv103 => ?_)
                  refine lv_dup2_11 F.1 F.2.1 dX12_line_228 rfl rfl ?_
                  refine a_iald F hP 88 tc_88 rfl (i_in rfl (by omega)) dX12_line_229 (fun v104 ev104 => ?_)
                  refine a_ic F (1 : Int32) dX12_line_230 (by decide) ?_
                  refine lv_aload_n F.1 F.2.1 dX12_line_231 rfl (lv_at hl 1 rfl) ?_
                  refine a_geti F inX12 hP 85 18 tc_85 rfl rfl (by decide) q1489 (fun _ h9 => h9) (v := (u96.1 85 18)) (rfl) dX12_line_232 ?_
                  refine a_ishl1 F dX12_line_235 rfl (lo := 0) (hi := 7) (by omega) (by decide) (fun v105 hv105 => ?_)
                  have hv105 : (1 : Int) ≤ v105.toInt ∧ v105.toInt ≤ 128 := hv105
                  refine a_iorU F dX12_line_236 (fun v106 => ?_)
                  refine a_iast F hP hD hS 88 tc_88 rfl (i_in rfl (by omega)) dX12_line_237 (fun H locs hP hD hS => ?_)
                  have hR := hR.si (c := 88) (k := v103.toNatClampNeg) (v := v106) (rs_88_8_15 (by omega) ⟨i_lo _, i_hi _⟩)
                  have hF := hF.si (c := 88) (k := v103.toNatClampNeg) (v := v106) rfl
                  have hK_HI := sp_si sp_HI hK_HI (c := 88) (k := v103.toNatClampNeg) (v := v106) (fun j9 h9 => by have q8 := sp_mem h9; simp at q8; have q9 := i_cl (x := v103) (by omega); omega)
                  have hK_AH := sp_si sp_AH hK_AH (c := 88) (k := v103.toNatClampNeg) (v := v106) (fun j9 h9 => by have q8 := sp_mem h9; simp at q8; have q9 := i_cl (x := v103) (by omega); omega)
                  have hK_S7 := sp_si (sp_s7 _) hK_S7 (c := 88) (k := v103.toNatClampNeg) (v := v106) (fun j9 h9 => by have q8 := sp_mem h9; simp at q8; have q9 := i_cl (x := v103) (by omega); omega)
                  refine lv_aload_n F.1 F.2.1 dX12_line_238 rfl (lv_at hl 1 rfl) ?_
                  refine a_getr F inX12 hP 85 7 tc_85 rfl rfl (by decide) q1478 (fun _ h9 => h9) dX12_line_239 ?_
                  refine a_bp F (8 : Int32) dX12_line_242 (by decide) ?_
                  refine lv_aload_n F.1 F.2.1 dX12_line_244 rfl (lv_at hl 1 rfl) ?_
                  refine a_geti F inX12 hP 85 18 tc_85 rfl rfl (by decide) q1489 (fun _ h9 => h9) (v := (u96.1 85 18)) (rfl) dX12_line_245 ?_
                  refine a_iadd F dX12_line_248 ic_8 rfl (by omega) (fun v107 hv107 => ?_)
                  refine lv_dup2_11 F.1 F.2.1 dX12_line_249 rfl rfl ?_
                  refine a_iald F hP 88 tc_88 rfl (i_in rfl (by omega)) dX12_line_250 (fun v108 ev108 => ?_)
                  refine a_ic F (1 : Int32) dX12_line_251 (by decide) ?_
                  refine lv_iload_n F.1 F.2.1 dX12_line_252 rfl (lv_at hl 0 rfl) ?_
                  refine a_ishl1 F dX12_line_253 rfl (lo := 0) (hi := 7) (by omega) (by decide) (fun v109 hv109 => ?_)
                  have hv109 : (1 : Int) ≤ v109.toInt ∧ v109.toInt ≤ 128 := hv109
                  refine a_iorU F dX12_line_254 (fun v110 => ?_)
                  refine a_iast F hP hD hS 88 tc_88 rfl (i_in rfl (by omega)) dX12_line_255 (fun H locs hP hD hS => ?_)
                  have hR := hR.si (c := 88) (k := v107.toNatClampNeg) (v := v110) (rs_88_8_15 (by omega) ⟨i_lo _, i_hi _⟩)
                  have hF := hF.si (c := 88) (k := v107.toNatClampNeg) (v := v110) rfl
                  have hK_HI := sp_si sp_HI hK_HI (c := 88) (k := v107.toNatClampNeg) (v := v110) (fun j9 h9 => by have q8 := sp_mem h9; simp at q8; have q9 := i_cl (x := v107) (by omega); omega)
                  have hK_AH := sp_si sp_AH hK_AH (c := 88) (k := v107.toNatClampNeg) (v := v110) (fun j9 h9 => by have q8 := sp_mem h9; simp at q8; have q9 := i_cl (x := v107) (by omega); omega)
                  have hK_S7 := sp_si (sp_s7 _) hK_S7 (c := 88) (k := v107.toNatClampNeg) (v := v110) (fun j9 h9 => by have q8 := sp_mem h9; simp at q8; have q9 := i_cl (x := v107) (by omega); omega)
                  refine lv_aload_n F.1 F.2.1 dX12_line_256 rfl (lv_at hl 1 rfl) ?_
                  refine a_getr F inX12 hP 85 7 tc_85 rfl rfl (by decide) q1478 (fun _ h9 => h9) dX12_line_257 ?_
                  refine a_ic F (2 : Int32) dX12_line_260 (by decide) ?_
                  refine lv_dup2_11 F.1 F.2.1 dX12_line_261 rfl rfl ?_
                  refine a_ialdK F hP 88 2 tc_88 rfl rfl (i_in ic_2 (by omega)) (v := (u0.1 88 2)) ((ac_ne (c := 88) (k := 2) (i := v107) (by have q9 := i_cl (x := v107) (by omega); omega)).trans ((ac_ne (c := 88) (k := 2) (i := v103) (by have q9 := i_cl (x := v103) (by omega); omega)).trans ((hF96 88 2 rfl).trans ((hF94 88 2 rfl).trans (hF92 88 2 rfl))))) dX12_line_262 ?_
                  refine a_ic F (1 : Int32) dX12_line_263 (by decide) ?_
                  refine a_iadd F dX12_line_264 rfl ic_1 (by omega) (fun v111 hv111 => ?_)
                  refine a_iastK F hP hD hS 88 2 tc_88 rfl rfl (i_in ic_2 (by omega)) dX12_line_265 (fun H locs hP hD hS => ?_)
                  have hR := hR.si (c := 88) (k := 2) (v := v111) (by omega : (0 : Int) ≤ v111.toInt ∧ v111.toInt ≤ 12)
                  have hF := hF.si (c := 88) (k := 2) (v := v111) rfl
                  have hO_HI := hK_HI
                  have hO_AH := hK_AH
                  have hO_S7 := hK_S7
                  have hN_S7p := s7_inc (k := 2) hO_S7 (by omega) (x := (u0.1 88 2)) (v := v111) ((ac_ne (c := 88) (k := 2) (i := v107) (by have q9 := i_cl (x := v107) (by omega); omega)).trans ((ac_ne (c := 88) (k := 2) (i := v103) (by have q9 := i_cl (x := v103) (by omega); omega)).trans ((hF96 88 2 rfl).trans ((hF94 88 2 rfl).trans (hF92 88 2 rfl))))) (by omega)
                  have hK_HI := sp_si sp_HI hK_HI (c := 88) (k := 2) (v := v111) (fun j9 h9 q9 => by rw [q9] at h9; exact absurd h9 (by decide))
                  have hK_AH := sp_si sp_AH hK_AH (c := 88) (k := 2) (v := v111) (fun j9 h9 q9 => by rw [q9] at h9; exact absurd h9 (by decide))
                  have hK_S7p := hN_S7p
                  refine lv_aload_n F.1 F.2.1 dX12_line_266 rfl (lv_at hl 1 rfl) ?_
                  refine a_Vv F hml hl.1 hA hP hD hS (As := []) (c_X12_next_85 l dC dI ad cA nF _  hR) (cs_RX12_184 (d := 2) F.2.2.1 (by decide)) tc_85 rfl rfl rfl rfl (Nat.le_of_ble_eq_true rfl) dX12_line_267 ⟨Nat.le_refl 0, Nat.le_refl 0⟩ (fun u112 H locs hq hP hD hS => ?_)
                  obtain ⟨hR, hF112⟩ := hq
                  have hF := hF.tr hF112 (by decide)
                  have hK_HI := sp_fr sp_HI hF112 (by decide) hK_HI
                  have hK_AH := sp_fr sp_AH hF112 (by decide) hK_AH
                  have hK_S7p := sp_fr (sp_s7p _) hF112 (by decide) hK_S7p
                  refine a_ic F (1 : Int32) dX12_line_270 (by decide) ?_
                  exact a_retz F hr hlocks hP hD hS dX12_line_271 (Or.inr rfl) ⟨hR, hF, (by decide), hK_HI, hK_AH, (fun _ => hK_S7p)⟩
                · exact L214 _ _ _ _ hR hF hK_HI hK_AH (by omega : (0 : Int) ≤ (u96.1 85 18).toInt ∧ (u96.1 85 18).toInt ≤ 7) (i_trB ((hF96 88 2 rfl).trans ((hF94 88 2 rfl).trans (hF92 88 2 rfl))) (by omega : (0 : Int) ≤ (u0.1 88 2).toInt ∧ (u0.1 88 2).toInt ≤ 11)) hP hD hS (lv_sub hl [1] rfl)
            · refine a_ic F (0 : Int32) dX12_line_185 (by decide) ?_
              exact a_retz F hr hlocks hP hD hS dX12_line_186 (Or.inl rfl) ⟨hR, hF, (by decide), hK_HI, hK_AH, (fun h9 => absurd (by decide) h9)⟩
          · refine a_ic F (0 : Int32) dX12_line_163 (by decide) ?_
            exact a_retz F hr hlocks hP hD hS dX12_line_164 (Or.inl rfl) ⟨hR, hF, (by decide), hK_HI, hK_AH, (fun h9 => absurd (by decide) h9)⟩
        · refine lv_aload_n F.1 F.2.1 dX12_line_138 rfl (lv_at hl 0 rfl) ?_
          refine a_ic F (4 : Int32) dX12_line_139 (by decide) ?_
          have g114 : (0 : Int) ≤ (u0.1 88 1).toInt ∧ (u0.1 88 1).toInt ≤ 8 := hR 88 1
          refine a_Vi F hml hl.1 hA hP hD hS (As := [.int (4 : Int32)]) (c_X12_bad_85 l dC dI ad cA nF _ (4 : Int32) hR (by decide)) (cs_RX12_181 (d := 1) F.2.2.1 (by decide)) tc_85 rfl rfl rfl rfl (Nat.le_of_ble_eq_true rfl) dX12_line_140 ⟨Nat.le_refl 0, Nat.le_refl 0⟩ (fun r113 u113 H locs hq hP hD hS => ?_)
          obtain ⟨hR, hF113, gr113⟩ := hq
          have hF := hF.tr hF113 (by decide)
          have hK_HI := sp_fr sp_HI hF113 (by decide) hK_HI
          have hK_AH := sp_fr sp_AH hF113 (by decide) hK_AH
          have hK_S7 := sp_fr (sp_s7 _) hF113 (by decide) hK_S7
          exact a_retz F hr hlocks hP hD hS dX12_line_143 (i_01 (by omega)) ⟨hR, hF, (by omega : (0 : Int) ≤ r113.toInt ∧ r113.toInt ≤ 1), hK_HI, hK_AH, (fun h9 => absurd (by omega : r113.toInt = 0) h9)⟩
    · refine lv_aload_n F.1 F.2.1 dX12_line_66 rfl (lv_at hl 0 rfl) ?_
      refine a_getr F inX12 hP 85 7 tc_85 rfl rfl (by decide) q1478 (fun _ h9 => h9) dX12_line_67 ?_
      refine a_ic F (1 : Int32) dX12_line_70 (by decide) ?_
      have g115 : (0 : Int) ≤ (u0.1 88 1).toInt ∧ (u0.1 88 1).toInt ≤ 8 := hR 88 1
      refine a_ialdK F hP 88 1 tc_88 rfl rfl (i_in ic_1 (by omega)) (v := (u0.1 88 1)) rfl dX12_line_71 ?_
      refine a_bp F (8 : Int32) dX12_line_72 (by decide) ?_
      refine b_ne F 83 dX12_line_74 (by decide) rfl ic_8 (fun c116 => ?_) (fun c116 => ?_)
      · refine lv_aload_n F.1 F.2.1 dX12_line_83 rfl (lv_at hl 0 rfl) ?_
        refine a_Vv F hml hl.1 hA hP hD hS (As := []) (c_X12_next_85 l dC dI ad cA nF _  hR) (cs_RX12_184 (d := 2) F.2.2.1 (by decide)) tc_85 rfl rfl rfl rfl (Nat.le_of_ble_eq_true rfl) dX12_line_84 ⟨Nat.le_refl 0, Nat.le_refl 0⟩ (fun u117 H locs hq hP hD hS => ?_)
        obtain ⟨hR, hF117⟩ := hq
        have hF := hF.tr hF117 (by decide)
        have hK_HI := sp_fr sp_HI hF117 (by decide) hK_HI
        have hK_AH := sp_fr sp_AH hF117 (by decide) hK_AH
        have hK_S7 := sp_fr (sp_s7 _) hF117 (by decide) hK_S7
        refine lv_aload_n F.1 F.2.1 dX12_line_87 rfl (lv_at hl 0 rfl) ?_
        refine a_bp F (26 : Int32) dX12_line_88 (by decide) ?_
        refine lv_aload_n F.1 F.2.1 dX12_line_90 rfl (lv_at hl 0 rfl) ?_
        refine a_getr F inX12 hP 85 7 tc_85 rfl rfl (by decide) q1478 (fun _ h9 => h9) dX12_line_91 ?_
        refine a_ic F (1 : Int32) dX12_line_94 (by decide) ?_
        refine a_ialdK F hP 88 1 tc_88 rfl rfl (i_in ic_1 (by omega)) (v := (u0.1 88 1)) (hF117 88 1 rfl) dX12_line_95 ?_
        refine a_iadd F dX12_line_96 ic_26 rfl (by omega) (fun v118 hv118 => ?_)
        refine a_Vi F hml hl.1 hA hP hD hS (As := [.int v118]) (c_X12_fresh_85 l dC dI ad cA nF _ v118 hR (by omega)) (cs_RX12_217 (d := 3) F.2.2.1 (by decide)) tc_85 rfl rfl rfl rfl (Nat.le_of_ble_eq_true rfl) dX12_line_97 ⟨Nat.le_refl 0, Nat.le_refl 0⟩ (fun r119 u119 H locs hq hP hD hS => ?_)
        obtain ⟨hR, hF119, gr119⟩ := hq
        have hF := hF.tr hF119 (by decide)
        have hK_HI := sp_fr sp_HI hF119 (by decide) hK_HI
        have hK_AH := sp_fr sp_AH hF119 (by decide) hK_AH
        have hK_S7 := sp_fr (sp_s7 _) hF119 (by decide) hK_S7
        refine z_ne F 105 dX12_line_100 (by decide) rfl (fun c120 => ?_) (fun c120 => ?_)
        · refine lv_aload_n F.1 F.2.1 dX12_line_105 rfl (lv_at hl 0 rfl) ?_
          refine a_getr F inX12 hP 85 7 tc_85 rfl rfl (by decide) q1478 (fun _ h9 => h9) dX12_line_106 ?_
          refine a_ic F (1 : Int32) dX12_line_109 (by decide) ?_
          refine lv_dup2_11 F.1 F.2.1 dX12_line_110 rfl rfl ?_
          refine a_ialdK F hP 88 1 tc_88 rfl rfl (i_in ic_1 (by omega)) (v := (u0.1 88 1)) ((hF119 88 1 rfl).trans (hF117 88 1 rfl)) dX12_line_111 ?_
          refine a_ic F (1 : Int32) dX12_line_112 (by decide) ?_
          refine a_iadd F dX12_line_113 rfl ic_1 (by omega) (fun v121 hv121 => ?_)
          refine a_iastK F hP hD hS 88 1 tc_88 rfl rfl (i_in ic_1 (by omega)) dX12_line_114 (fun H locs hP hD hS => ?_)
          have hR := hR.si (c := 88) (k := 1) (v := v121) (by omega : (0 : Int) ≤ v121.toInt ∧ v121.toInt ≤ 8)
          have hF := hF.si (c := 88) (k := 1) (v := v121) rfl
          have hO_HI := hK_HI
          have hO_AH := hK_AH
          have hO_S7 := hK_S7
          have hN_S7p := s7_inc (k := 1) hO_S7 (by omega) (x := (u0.1 88 1)) (v := v121) ((hF119 88 1 rfl).trans (hF117 88 1 rfl)) (by omega)
          have hK_HI := hs_p hO_HI (v := v121) (by omega)
          have hK_AH := ah_p hO_AH (v := v121) (x := (u0.1 88 1)) ((hF119 88 1 rfl).trans (hF117 88 1 rfl)) (by omega)
          have hK_S7p := hN_S7p
          refine a_ic F (1 : Int32) dX12_line_115 (by decide) ?_
          exact a_retz F hr hlocks hP hD hS dX12_line_116 (Or.inr rfl) ⟨hR, hF, (by decide), hK_HI, hK_AH, (fun _ => hK_S7p)⟩
        · refine a_ic F (0 : Int32) dX12_line_103 (by decide) ?_
          exact a_retz F hr hlocks hP hD hS dX12_line_104 (Or.inl rfl) ⟨hR, hF, (by decide), hK_HI, hK_AH, (fun h9 => absurd (by decide) h9)⟩
      · refine lv_aload_n F.1 F.2.1 dX12_line_77 rfl (lv_at hl 0 rfl) ?_
        refine a_ic F (4 : Int32) dX12_line_78 (by decide) ?_
        refine a_Vi F hml hl.1 hA hP hD hS (As := [.int (4 : Int32)]) (c_X12_bad_85 l dC dI ad cA nF _ (4 : Int32) hR (by decide)) (cs_RX12_181 (d := 1) F.2.2.1 (by decide)) tc_85 rfl rfl rfl rfl (Nat.le_of_ble_eq_true rfl) dX12_line_79 ⟨Nat.le_refl 0, Nat.le_refl 0⟩ (fun r122 u122 H locs hq hP hD hS => ?_)
        obtain ⟨hR, hF122, gr122⟩ := hq
        have hF := hF.tr hF122 (by decide)
        have hK_HI := sp_fr sp_HI hF122 (by decide) hK_HI
        have hK_AH := sp_fr sp_AH hF122 (by decide) hK_AH
        have hK_S7 := sp_fr (sp_s7 _) hF122 (by decide) hK_S7
        exact a_retz F hr hlocks hP hD hS dX12_line_82 (i_01 (by omega)) ⟨hR, hF, (by omega : (0 : Int) ≤ r122.toInt ∧ r122.toInt ≤ 1), hK_HI, hK_AH, (fun h9 => absurd (by omega : r122.toInt = 0) h9)⟩
  · refine lv_aload_n F.1 F.2.1 dX12_line_10 rfl (lv_at hl 0 rfl) ?_
    have g123 : (0 : Int) ≤ (u0.1 85 20).toInt ∧ (u0.1 85 20).toInt ≤ 1 := hR 85 20
    refine a_geti F inX12 hP 85 20 tc_85 rfl rfl (by decide) q1491 (fun _ h9 => h9) (v := (u0.1 85 20)) rfl dX12_line_11 ?_
    refine z_eq F 23 dX12_line_14 (by decide) rfl (fun c124 => ?_) (fun c124 => ?_)
    · refine lv_aload_n F.1 F.2.1 dX12_line_23 rfl (lv_at hl 0 rfl) ?_
      refine a_ic F (1 : Int32) dX12_line_24 (by decide) ?_
      refine a_puti F inX12 tyX12 tyX12_ok nmX12 hP hD hS 85 20 tc_85 rfl rfl (by decide) q1491 (fun _ h9 => h9) rfl (ty := .boolean) (tyX12_ok 20 (by decide)) (i_zn (Or.inr rfl)) (i_zf (Or.inr rfl)) dX12_line_25 (fun H locs hP hD hS => ?_)
      have hR := hR.si (c := 85) (k := 20) (v := (1 : Int32)) (by rw [ic_1]; exact (by omega : (0 : Int) ≤ (1 : Int) ∧ (1 : Int) ≤ 1))
      have hF := hF.si (c := 85) (k := 20) (v := (1 : Int32)) rfl
      have hO_HI := hK_HI
      have hO_AH := hK_AH
      have hO_S7 := hK_S7
      have hN_S7p := s7_h hO_S7 (x := (u0.1 85 20)) (v := (1 : Int32)) (rfl) (by omega) (by decide)
      have hK_HI := sp_sgD sp_HI hD hK_HI (by decide)
      have hK_AH := sp_sgD sp_AH hD hK_AH (by decide)
      have hK_S7p := hN_S7p
      refine lv_aload_n F.1 F.2.1 dX12_line_28 rfl (lv_at hl 0 rfl) ?_
      have g126 : (0 : Int) ≤ (u0.1 88 1).toInt ∧ (u0.1 88 1).toInt ≤ 8 := hR 88 1
      refine a_Vv F hml hl.1 hA hP hD hS (As := []) (c_X12_next_85 l dC dI ad cA nF _  hR) (cs_RX12_184 (d := 2) F.2.2.1 (by decide)) tc_85 rfl rfl rfl rfl (Nat.le_of_ble_eq_true rfl) dX12_line_29 ⟨Nat.le_refl 0, Nat.le_refl 0⟩ (fun u125 H locs hq hP hD hS => ?_)
      obtain ⟨hR, hF125⟩ := hq
      have hF := hF.tr hF125 (by decide)
      have hK_HI := sp_fr sp_HI hF125 (by decide) hK_HI
      have hK_AH := sp_fr sp_AH hF125 (by decide) hK_AH
      have hK_S7p := sp_fr (sp_s7p _) hF125 (by decide) hK_S7p
      refine lv_aload_n F.1 F.2.1 dX12_line_32 rfl (lv_at hl 0 rfl) ?_
      refine a_ic F (4 : Int32) dX12_line_33 (by decide) ?_
      refine a_bp F (24 : Int32) dX12_line_34 (by decide) ?_
      refine a_Vi F hml hl.1 hA hP hD hS (As := [.int (4 : Int32), .int (24 : Int32)]) (c_X12_takes_85 l dC dI ad cA nF _ (4 : Int32) (24 : Int32) hR (by decide)) (cs_RX12_214 (d := 3) F.2.2.1 (by decide)) tc_85 rfl rfl rfl rfl (Nat.le_of_ble_eq_true rfl) dX12_line_36 ⟨Nat.le_refl 0, Nat.le_refl 0⟩ (fun r127 u127 H locs hq hP hD hS => ?_)
      obtain ⟨hR, hF127, gr127, xr127⟩ := hq
      have hF := hF.tr hF127 (by decide)
      have hK_HI := sp_fr sp_HI hF127 (by decide) hK_HI
      have hK_AH := sp_fr sp_AH hF127 (by decide) hK_AH
      have hK_S7p := sp_fr (sp_s7p _) hF127 (by decide) hK_S7p
      have xr127 : r127.toInt ≠ 0 → (4 : Int) ≤ (u127.1 85 18).toInt ∧ (u127.1 85 18).toInt ≤ (24 : Int) := xr127
      refine z_ne F 44 dX12_line_39 (by decide) rfl (fun c128 => ?_) (fun c128 => ?_)
      · refine lv_aload_n F.1 F.2.1 dX12_line_44 rfl (lv_at hl 0 rfl) ?_
        refine a_getr F inX12 hP 85 7 tc_85 rfl rfl (by decide) q1478 (fun _ h9 => h9) dX12_line_45 ?_
        refine a_ic F (0 : Int32) dX12_line_48 (by decide) ?_
        refine lv_aload_n F.1 F.2.1 dX12_line_49 rfl (lv_at hl 0 rfl) ?_
        refine a_geti F inX12 hP 85 18 tc_85 rfl rfl (by decide) q1489 (fun _ h9 => h9) (v := (u127.1 85 18)) (rfl) dX12_line_50 ?_
        refine a_iastK F hP hD hS 88 0 tc_88 rfl rfl (i_in ic_0 (by omega)) dX12_line_53 (fun H locs hP hD hS => ?_)
        have hR := hR.si (c := 88) (k := 0) (v := (u127.1 85 18)) (by omega : (0 : Int) ≤ (u127.1 85 18).toInt ∧ (u127.1 85 18).toInt ≤ 24)
        have hF := hF.si (c := 88) (k := 0) (v := (u127.1 85 18)) rfl
        have hO_HI := hK_HI
        have hO_AH := hK_AH
        have hO_S7p := hK_S7p
        have hK_HI := hs_h hO_HI (v := (u127.1 85 18)) (by omega)
        have hK_AH := sp_si sp_AH hK_AH (c := 88) (k := 0) (v := (u127.1 85 18)) (fun j9 h9 q9 => by rw [q9] at h9; exact absurd h9 (by decide))
        have hK_S7p := sp_si (sp_s7p _) hK_S7p (c := 88) (k := 0) (v := (u127.1 85 18)) (fun j9 h9 q9 => by rw [q9] at h9; exact absurd h9 (by decide))
        refine a_ic F (1 : Int32) dX12_line_54 (by decide) ?_
        exact a_retz F hr hlocks hP hD hS dX12_line_55 (Or.inr rfl) ⟨hR, hF, (by decide), hK_HI, hK_AH, (fun _ => hK_S7p)⟩
      · refine a_ic F (0 : Int32) dX12_line_42 (by decide) ?_
        exact a_retz F hr hlocks hP hD hS dX12_line_43 (Or.inl rfl) ⟨hR, hF, (by decide), hK_HI, hK_AH, (fun h9 => absurd (by decide) h9)⟩
    · refine lv_aload_n F.1 F.2.1 dX12_line_17 rfl (lv_at hl 0 rfl) ?_
      refine a_ic F (3 : Int32) dX12_line_18 (by decide) ?_
      have g130 : (0 : Int) ≤ (u0.1 88 1).toInt ∧ (u0.1 88 1).toInt ≤ 8 := hR 88 1
      refine a_Vi F hml hl.1 hA hP hD hS (As := [.int (3 : Int32)]) (c_X12_bad_85 l dC dI ad cA nF _ (3 : Int32) hR (by decide)) (cs_RX12_181 (d := 1) F.2.2.1 (by decide)) tc_85 rfl rfl rfl rfl (Nat.le_of_ble_eq_true rfl) dX12_line_19 ⟨Nat.le_refl 0, Nat.le_refl 0⟩ (fun r129 u129 H locs hq hP hD hS => ?_)
      obtain ⟨hR, hF129, gr129⟩ := hq
      have hF := hF.tr hF129 (by decide)
      have hK_HI := sp_fr sp_HI hF129 (by decide) hK_HI
      have hK_AH := sp_fr sp_AH hF129 (by decide) hK_AH
      have hK_S7 := sp_fr (sp_s7 _) hF129 (by decide) hK_S7
      exact a_retz F hr hlocks hP hD hS dX12_line_22 (i_01 (by omega)) ⟨hR, hF, (by omega : (0 : Int) ≤ r129.toInt ∧ r129.toInt ≤ 1), hK_HI, hK_AH, (fun h9 => absurd (by omega : r129.toInt = 0) h9)⟩
set_option maxHeartbeats 600000 in
set_option maxRecDepth 100000 in
theorem c_X12_house_85__2 (l : Launch) (dC : Nat → ClassId) (dI : Nat → Nat → Nat) (ad : Nat → Nat) (cA : Nat → ClassId) (nF : Nat) (u0 : ac_U)  (hR : ac_R rg u0) (hK_MS : msI u0) (hK_UI : unI u0) (hK_CW : cdI u0) (hK_AP : apI u0) (hK_AU : auI u0) : ac_Mi l yX12_house (.code yX12_house cX12_house 2 (some .int) :: TB) 6 (dC, dI) vwCl (ac_ty cA) ad cA (TT nF) [.ref (ad 85)] u0 (fun (r : Int32) (u : ac_U) => ac_R rg u ∧ ac_Fr [(85, some 0), (85, some 2), (85, some 3), (85, some 4), (85, some 5), (85, some 11), (85, some 12), (85, some 13), (85, some 14), (85, some 15), (85, some 16), (85, some 18), (85, some 19), (85, some 20), (85, some 24), (87, none), (88, none)] u0 u ∧ msI u ∧ unI u ∧ cdI u ∧ apI u ∧ auI u) := by
  refine ac_Mi.of (cc := cX12_house) (maxL := 2) (ret := (some .int)) (by decide) rfl (Nat.le_of_ble_eq_true rfl) ?_
  intro p e s m below meth c A ls F hml hr hlocks hA hP hD hS hl
  have F : ac_X p s m [.ref (ad 85)].toArray c cX12_house RX12 TB (dC, dI) vwCl (ac_ty cA) := ⟨F.1, F.2.1, fun w h => F.2.2.1 w (List.mem_cons_of_mem _ h), F.2.2.2.1, F.2.2.2.2⟩
  have hl : lv_has ls 2 [(0, .ref (ad 85))] := hl
  have hF : ac_Fr [(85, some 0), (85, some 2), (85, some 3), (85, some 4), (85, some 5), (85, some 11), (85, some 12), (85, some 13), (85, some 14), (85, some 15), (85, some 16), (85, some 18), (85, some 19), (85, some 20), (85, some 24), (87, none), (88, none)] u0 u0 := ac_Fr.rf
  have L171 : ∀ (n171 : Nat) (x1 : Int32) (u : ac_U) (H : Heap) (locs : List Loc) (ls : Array Slot), ac_R rg u → ac_Fr [(85, some 0), (85, some 2), (85, some 3), (85, some 4), (85, some 5), (85, some 11), (85, some 12), (85, some 13), (85, some 14), (85, some 15), (85, some 16), (85, some 18), (85, some 19), (85, some 20), (85, some 24), (87, none), (88, none)] u0 u → 4 - x1.toInt < (n171 : Int) → msI u → cdI u → apI u → asI u → (0 : Int) ≤ x1.toInt ∧ x1.toInt ≤ 4 → (0 : Int) ≤ (u.1 85 0).toInt ∧ (u.1 85 0).toInt ≤ 0 → (0 : Int) ≤ (u.1 85 11).toInt ∧ (u.1 85 11).toInt ≤ 0 → va_P (dC, dI) vwCl (ac_w ad cA (TT nF) u) H → va_D A (ac_w ad cA (TT nF) u) → va_S A s.heap H locs → lv_has ls 2 [(0, .ref (ad 85)), (1, .int x1)] → W p l e (ac_rm 6) s m [.ref (ad 85)].toArray below meth c H locs 0 0 (MQ below (va_Qi (fun (r : Int32) (u : ac_U) => ac_R rg u ∧ ac_Fr [(85, some 0), (85, some 2), (85, some 3), (85, some 4), (85, some 5), (85, some 11), (85, some 12), (85, some 13), (85, some 14), (85, some 15), (85, some 16), (85, some 18), (85, some 19), (85, some 20), (85, some 24), (87, none), (88, none)] u0 u ∧ msI u ∧ unI u ∧ cdI u ∧ apI u ∧ auI u) (ac_B (dC, dI) vwCl (ac_ty cA) ad cA (TT nF) A) A) [.ref (ad 85)].toArray s 0 0 A) (F0 m 171 ls []) := by
    intro n171
    induction n171 with
    | zero => intro x1 u H locs ls hR hF hn171 hK_MS hK_CW hK_AP hK_AS f0 f1 f2 hP hD hS hl; exfalso; omega
    | succ n171 ih171 =>
      intro x1 u H locs ls hR hF hn171 hK_MS hK_CW hK_AP hK_AS f0 f1 f2 hP hD hS hl
      refine lv_iload_n F.1 F.2.1 dX12_house_171 rfl (lv_at hl 1 rfl) ?_
      refine a_ic F (4 : Int32) dX12_house_172 (by decide) ?_
      refine b_ge F 200 dX12_house_173 (by decide) rfl ic_4 (fun c1 => ?_) (fun c1 => ?_)
      · refine lv_aload_n F.1 F.2.1 dX12_house_200 rfl (lv_at hl 0 rfl) ?_
        refine a_ic F (0 : Int32) dX12_house_201 (by decide) ?_
        refine a_puti F inX12 tyX12 tyX12_ok nmX12 hP hD hS 85 24 tc_85 rfl rfl (by decide) q1495 (fun _ h9 => h9) rfl (ty := .int) (tyX12_ok 24 (by decide)) rfl rfl dX12_house_202 (fun H locs hP hD hS => ?_)
        have hR := hR.si (c := 85) (k := 24) (v := (0 : Int32)) (by rw [ic_0]; exact (by omega : (0 : Int) ≤ (0 : Int) ∧ (0 : Int) ≤ 8))
        have hF := hF.si (c := 85) (k := 24) (v := (0 : Int32)) rfl
        have hN_UI := un_0D hD (by decide)
        have hN_AU := au_0D hD (by decide)
        have hK_MS := sp_sgD sp_MS hD hK_MS (by decide)
        have hK_CW := sp_sgD sp_CW hD hK_CW (by decide)
        have hK_AP := sp_sgD sp_AP hD hK_AP (by decide)
        have hK_AS := sp_sgD sp_AS hD hK_AS (by decide)
        have hK_UI := hN_UI
        have hK_AU := hN_AU
        refine lv_aload_n F.1 F.2.1 dX12_house_205 rfl (lv_at hl 0 rfl) ?_
        refine a_geti F inX12 hP 85 19 tc_85 rfl rfl (by decide) q1490 (fun _ h9 => h9) (v := (u.1 85 19)) rfl dX12_house_206 ?_
        exact a_reti F hr hlocks hP hD hS dX12_house_209 ⟨hR, hF, hK_MS, hK_UI, hK_CW, hK_AP, hK_AU⟩
      · refine lv_aload_n F.1 F.2.1 dX12_house_176 rfl (lv_at hl 0 rfl) ?_
        refine a_getr F inX12 hP 85 6 tc_85 rfl rfl (by decide) q1477 (fun _ h9 => h9) dX12_house_177 ?_
        refine a_bp F (107 : Int32) dX12_house_180 (by decide) ?_
        refine lv_iload_n F.1 F.2.1 dX12_house_182 rfl (lv_at hl 1 rfl) ?_
        refine a_iadd F dX12_house_183 ic_107 rfl (by omega) (fun v2 hv2 => ?_)
        refine lv_aload_n F.1 F.2.1 dX12_house_184 rfl (lv_at hl 0 rfl) ?_
        refine a_getr F inX12 hP 85 6 tc_85 rfl rfl (by decide) q1477 (fun _ h9 => h9) dX12_house_185 ?_
        refine a_bp F (22 : Int32) dX12_house_188 (by decide) ?_
        refine lv_iload_n F.1 F.2.1 dX12_house_190 rfl (lv_at hl 1 rfl) ?_
        refine a_iadd F dX12_house_191 ic_22 rfl (by omega) (fun v3 hv3 => ?_)
        refine a_iald F hP 87 tc_87 rfl (i_in rfl (by omega)) dX12_house_192 (fun v4 ev4 => ?_)
        have hv4 : (0 : Int) ≤ v4.toInt ∧ v4.toInt ≤ 7 := rg_seg_87_22_25 hR ev4 (by omega)
        refine a_iast F hP hD hS 87 tc_87 rfl (i_in rfl (by omega)) dX12_house_193 (fun H locs hP hD hS => ?_)
        have hR := hR.si (c := 87) (k := v2.toNatClampNeg) (v := v4) (rs_87_107_110 (by omega) (by omega : (0 : Int) ≤ v4.toInt ∧ v4.toInt ≤ 7))
        have hF := hF.si (c := 87) (k := v2.toNatClampNeg) (v := v4) rfl
        have hO_MS := hK_MS
        have hO_CW := hK_CW
        have hO_AP := hK_AP
        have hO_AS := hK_AS
        have hK_MS := sp_si sp_MS hK_MS (c := 87) (k := v2.toNatClampNeg) (v := v4) (fun j9 h9 => by have q8 := sp_mem h9; simp at q8; have q9 := i_cl (x := v2) (by omega); omega)
        have hK_CW := sp_si sp_CW hK_CW (c := 87) (k := v2.toNatClampNeg) (v := v4) (fun j9 h9 => by have q8 := sp_mem h9; simp at q8; have q9 := i_cl (x := v2) (by omega); omega)
        have hK_AP := ap_w hO_AP (i := v2) (v := v4) (by omega) (fun _ => as_get hO_AS ev4 (by omega))
        have hK_AS := sp_si sp_AS hK_AS (c := 87) (k := v2.toNatClampNeg) (v := v4) (fun j9 h9 => by have q8 := sp_mem h9; simp at q8; have q9 := i_cl (x := v2) (by omega); omega)
        refine a_iinc F (k := 1) (fun v5 => [(1, .int v5), (0, .ref (ad 85))]) dX12_house_194 hl rfl rfl (by decide) (by omega) (by decide) (fun _ => rfl) (fun v5 ls hv5 hl => ?_)
        refine lv_goto (tgt := 171) F.1 F.2.1 dX12_house_197 (by decide) ?_
        have g6 : (0 : Int) ≤ (u.1 85 0).toInt ∧ (u.1 85 0).toInt ≤ 1 := hR 85 0
        have g7 : (0 : Int) ≤ (u.1 85 11).toInt ∧ (u.1 85 11).toInt ≤ 4 := hR 85 11
        exact ih171 v5 _ _ _ _ hR hF (by omega) hK_MS hK_CW hK_AP hK_AS (by omega) (by omega : (0 : Int) ≤ (u.1 85 0).toInt ∧ (u.1 85 0).toInt ≤ 0) (by omega : (0 : Int) ≤ (u.1 85 11).toInt ∧ (u.1 85 11).toInt ≤ 0) hP hD hS (lv_sub hl [1, 0] rfl)
  have L142 : ∀ (n142 : Nat) (x1 : Int32) (u : ac_U) (H : Heap) (locs : List Loc) (ls : Array Slot), ac_R rg u → ac_Fr [(85, some 0), (85, some 2), (85, some 3), (85, some 4), (85, some 5), (85, some 11), (85, some 12), (85, some 13), (85, some 14), (85, some 15), (85, some 16), (85, some 18), (85, some 19), (85, some 20), (85, some 24), (87, none), (88, none)] u0 u → 26 - x1.toInt < (n142 : Int) → msI u → cdI u → apI u → asI u → (0 : Int) ≤ x1.toInt ∧ x1.toInt ≤ 26 → (0 : Int) ≤ (u.1 85 0).toInt ∧ (u.1 85 0).toInt ≤ 0 → (0 : Int) ≤ (u.1 85 11).toInt ∧ (u.1 85 11).toInt ≤ 0 → va_P (dC, dI) vwCl (ac_w ad cA (TT nF) u) H → va_D A (ac_w ad cA (TT nF) u) → va_S A s.heap H locs → lv_has ls 2 [(0, .ref (ad 85)), (1, .int x1)] → W p l e (ac_rm 6) s m [.ref (ad 85)].toArray below meth c H locs 0 0 (MQ below (va_Qi (fun (r : Int32) (u : ac_U) => ac_R rg u ∧ ac_Fr [(85, some 0), (85, some 2), (85, some 3), (85, some 4), (85, some 5), (85, some 11), (85, some 12), (85, some 13), (85, some 14), (85, some 15), (85, some 16), (85, some 18), (85, some 19), (85, some 20), (85, some 24), (87, none), (88, none)] u0 u ∧ msI u ∧ unI u ∧ cdI u ∧ apI u ∧ auI u) (ac_B (dC, dI) vwCl (ac_ty cA) ad cA (TT nF) A) A) [.ref (ad 85)].toArray s 0 0 A) (F0 m 142 ls []) := by
    intro n142
    induction n142 with
    | zero => intro x1 u H locs ls hR hF hn142 hK_MS hK_CW hK_AP hK_AS f0 f1 f2 hP hD hS hl; exfalso; omega
    | succ n142 ih142 =>
      intro x1 u H locs ls hR hF hn142 hK_MS hK_CW hK_AP hK_AS f0 f1 f2 hP hD hS hl
      refine lv_iload_n F.1 F.2.1 dX12_house_142 rfl (lv_at hl 1 rfl) ?_
      refine a_bp F (26 : Int32) dX12_house_143 (by decide) ?_
      refine b_ge F 169 dX12_house_145 (by decide) rfl ic_26 (fun c8 => ?_) (fun c8 => ?_)
      · refine a_ic F (0 : Int32) dX12_house_169 (by decide) ?_
        refine lv_istore_n (lv' := [(1, .int (0 : Int32)), (0, .ref (ad 85))]) F.1 F.2.1 dX12_house_170 rfl hl (by decide) rfl (fun ls hl => ?_)
        have g9 : (0 : Int) ≤ (u.1 85 0).toInt ∧ (u.1 85 0).toInt ≤ 1 := hR 85 0
        have g10 : (0 : Int) ≤ (u.1 85 11).toInt ∧ (u.1 85 11).toInt ≤ 4 := hR 85 11
        exact L171 6 (0 : Int32) _ _ _ _ hR hF (by decide) hK_MS hK_CW hK_AP hK_AS (by decide) (by omega : (0 : Int) ≤ (u.1 85 0).toInt ∧ (u.1 85 0).toInt ≤ 0) (by omega : (0 : Int) ≤ (u.1 85 11).toInt ∧ (u.1 85 11).toInt ≤ 0) hP hD hS (lv_sub hl [1, 0] rfl)
      · refine lv_aload_n F.1 F.2.1 dX12_house_148 rfl (lv_at hl 0 rfl) ?_
        refine a_getr F inX12 hP 85 9 tc_85 rfl rfl (by decide) q1480 (fun _ h9 => h9) dX12_house_149 ?_
        refine lv_iload_n F.1 F.2.1 dX12_house_152 rfl (lv_at hl 1 rfl) ?_
        refine lv_aload_n F.1 F.2.1 dX12_house_153 rfl (lv_at hl 0 rfl) ?_
        refine a_getr F inX12 hP 85 9 tc_85 rfl rfl (by decide) q1480 (fun _ h9 => h9) dX12_house_154 ?_
        refine a_bp F (26 : Int32) dX12_house_157 (by decide) ?_
        refine lv_iload_n F.1 F.2.1 dX12_house_159 rfl (lv_at hl 1 rfl) ?_
        refine a_iadd F dX12_house_160 ic_26 rfl (by omega) (fun v11 hv11 => ?_)
        refine a_lald F hP 90 tc_90 rfl (i_in rfl (by omega)) dX12_house_161 (fun w12 ew12 => ?_)
        refine a_last F hP hD hS 90 tc_90 rfl (i_in rfl (by omega)) dX12_house_162 (fun H locs hP hD hS => ?_)
        have hR := ac_slR hD hR
        have hF := ac_slF hD hF
        have hK_MS := sp_sl sp_MS hD hK_MS
        have hK_CW := sp_sl sp_CW hD hK_CW
        have hK_AP := sp_sl sp_AP hD hK_AP
        have hK_AS := sp_sl sp_AS hD hK_AS
        refine a_iinc F (k := 1) (fun v13 => [(1, .int v13), (0, .ref (ad 85))]) dX12_house_163 hl rfl rfl (by decide) (by omega) (by decide) (fun _ => rfl) (fun v13 ls hv13 hl => ?_)
        refine lv_goto (tgt := 142) F.1 F.2.1 dX12_house_166 (by decide) ?_
        have g14 : (0 : Int) ≤ (u.1 85 0).toInt ∧ (u.1 85 0).toInt ≤ 1 := hR 85 0
        have g15 : (0 : Int) ≤ (u.1 85 11).toInt ∧ (u.1 85 11).toInt ≤ 4 := hR 85 11
        exact ih142 v13 _ _ _ _ hR hF (by omega) hK_MS hK_CW hK_AP hK_AS (by omega) (by omega : (0 : Int) ≤ (u.1 85 0).toInt ∧ (u.1 85 0).toInt ≤ 0) (by omega : (0 : Int) ≤ (u.1 85 11).toInt ∧ (u.1 85 11).toInt ≤ 0) hP hD hS (lv_sub hl [1, 0] rfl)
  have L105 : ∀ (n105 : Nat) (x1 : Int32) (u : ac_U) (H : Heap) (locs : List Loc) (ls : Array Slot), ac_R rg u → ac_Fr [(85, some 0), (85, some 2), (85, some 3), (85, some 4), (85, some 5), (85, some 11), (85, some 12), (85, some 13), (85, some 14), (85, some 15), (85, some 16), (85, some 18), (85, some 19), (85, some 20), (85, some 24), (87, none), (88, none)] u0 u → 657 - x1.toInt < (n105 : Int) → hsI u → hcI x1.toInt u → ahI u → (0 : Int) ≤ x1.toInt ∧ x1.toInt ≤ 657 → (0 : Int) ≤ (u.1 85 0).toInt ∧ (u.1 85 0).toInt ≤ 0 → (0 : Int) ≤ (u.1 85 11).toInt ∧ (u.1 85 11).toInt ≤ 0 → va_P (dC, dI) vwCl (ac_w ad cA (TT nF) u) H → va_D A (ac_w ad cA (TT nF) u) → va_S A s.heap H locs → lv_has ls 2 [(0, .ref (ad 85)), (1, .int x1)] → W p l e (ac_rm 6) s m [.ref (ad 85)].toArray below meth c H locs 0 0 (MQ below (va_Qi (fun (r : Int32) (u : ac_U) => ac_R rg u ∧ ac_Fr [(85, some 0), (85, some 2), (85, some 3), (85, some 4), (85, some 5), (85, some 11), (85, some 12), (85, some 13), (85, some 14), (85, some 15), (85, some 16), (85, some 18), (85, some 19), (85, some 20), (85, some 24), (87, none), (88, none)] u0 u ∧ msI u ∧ unI u ∧ cdI u ∧ apI u ∧ auI u) (ac_B (dC, dI) vwCl (ac_ty cA) ad cA (TT nF) A) A) [.ref (ad 85)].toArray s 0 0 A) (F0 m 105 ls []) := by
    intro n105
    induction n105 with
    | zero => intro x1 u H locs ls hR hF hn105 hK_HI hK_CPx hK_AH f0 f1 f2 hP hD hS hl; exfalso; omega
    | succ n105 ih105 =>
      intro x1 u H locs ls hR hF hn105 hK_HI hK_CPx hK_AH f0 f1 f2 hP hD hS hl
      refine lv_iload_n F.1 F.2.1 dX12_house_105 rfl (lv_at hl 1 rfl) ?_
      refine a_sp F (657 : Int32) dX12_house_106 (by decide) ?_
      refine b_ge F 140 dX12_house_109 (by decide) rfl ic_657 (fun c16 => ?_) (fun c16 => ?_)
      · refine a_ic F (0 : Int32) dX12_house_140 (by decide) ?_
        refine lv_istore_n (lv' := [(1, .int (0 : Int32)), (0, .ref (ad 85))]) F.1 F.2.1 dX12_house_141 rfl hl (by decide) rfl (fun ls hl => ?_)
        have g17 : (0 : Int) ≤ (u.1 85 0).toInt ∧ (u.1 85 0).toInt ≤ 1 := hR 85 0
        have g18 : (0 : Int) ≤ (u.1 85 11).toInt ∧ (u.1 85 11).toInt ≤ 4 := hR 85 11
        exact L142 28 (0 : Int32) _ _ _ _ hR hF (by decide) (hc_ms hK_HI hK_CPx (by omega)) (hc_cw hK_CPx (by omega)) (hc_ap hK_CPx (by omega)) (hc_as hK_AH hK_CPx (by omega)) (by decide) (by omega : (0 : Int) ≤ (u.1 85 0).toInt ∧ (u.1 85 0).toInt ≤ 0) (by omega : (0 : Int) ≤ (u.1 85 11).toInt ∧ (u.1 85 11).toInt ≤ 0) hP hD hS (lv_sub hl [1, 0] rfl)
      · refine lv_aload_n F.1 F.2.1 dX12_house_112 rfl (lv_at hl 0 rfl) ?_
        refine a_getr F inX12 hP 85 6 tc_85 rfl rfl (by decide) q1477 (fun _ h9 => h9) dX12_house_113 ?_
        refine lv_iload_n F.1 F.2.1 dX12_house_116 rfl (lv_at hl 1 rfl) ?_
        refine lv_iload_n F.1 F.2.1 dX12_house_117 rfl (lv_at hl 1 rfl) ?_
        refine a_bp F (106 : Int32) dX12_house_118 (by decide) ?_
        refine b_ge F 132 dX12_house_120 (by decide) rfl ic_106 (fun c19 => ?_) (fun c19 => ?_)
        · refine a_ic F (0 : Int32) dX12_house_132 (by decide) ?_
          refine a_iast F hP hD hS 87 tc_87 rfl (i_in rfl (by omega)) dX12_house_133 (fun H locs hP hD hS => ?_)
          have hR := hR.si (c := 87) (k := x1.toNatClampNeg) (v := (0 : Int32)) (hc_rg0 (by omega))
          have hF := hF.si (c := 87) (k := x1.toNatClampNeg) (v := (0 : Int32)) rfl
          have hO_HI := hK_HI
          have hO_CPx := hK_CPx
          have hO_AH := hK_AH
          have hK_HI := sp_sgD sp_HI hD hK_HI (by decide)
          have hK_CPx := hc_w0 hO_CPx (i := x1) (by omega)
          have hK_AH := sp_sgD sp_AH hD hK_AH (by decide)
          refine a_iinc F (k := 1) (fun v20 => [(1, .int v20), (0, .ref (ad 85))]) dX12_house_134 hl rfl rfl (by decide) (by omega) (by decide) (fun _ => rfl) (fun v20 ls hv20 hl => ?_)
          refine lv_goto (tgt := 105) F.1 F.2.1 dX12_house_137 (by decide) ?_
          have g21 : (0 : Int) ≤ (u.1 85 0).toInt ∧ (u.1 85 0).toInt ≤ 1 := hR 85 0
          have g22 : (0 : Int) ≤ (u.1 85 11).toInt ∧ (u.1 85 11).toInt ≤ 4 := hR 85 11
          exact ih105 v20 _ _ _ _ hR hF (by omega) hK_HI (hc_eq hK_CPx (by omega)) hK_AH (by omega) (by omega : (0 : Int) ≤ (u.1 85 0).toInt ∧ (u.1 85 0).toInt ≤ 0) (by omega : (0 : Int) ≤ (u.1 85 11).toInt ∧ (u.1 85 11).toInt ≤ 0) hP hD hS (lv_sub hl [1, 0] rfl)
        · refine lv_aload_n F.1 F.2.1 dX12_house_123 rfl (lv_at hl 0 rfl) ?_
          refine a_getr F inX12 hP 85 7 tc_85 rfl rfl (by decide) q1478 (fun _ h9 => h9) dX12_house_124 ?_
          refine lv_iload_n F.1 F.2.1 dX12_house_127 rfl (lv_at hl 1 rfl) ?_
          refine a_iald F hP 88 tc_88 rfl (i_in rfl (by omega)) dX12_house_128 (fun v23 ev23 => ?_)
          refine lv_goto (tgt := 133) F.1 F.2.1 dX12_house_129 (by decide) ?_
          refine a_iast F hP hD hS 87 tc_87 rfl (i_in rfl (by omega)) dX12_house_133 (fun H locs hP hD hS => ?_)
          have hR := hR.si (c := 87) (k := x1.toNatClampNeg) (v := v23) (hc_rg1 hR hK_HI (by omega) ev23)
          have hF := hF.si (c := 87) (k := x1.toNatClampNeg) (v := v23) rfl
          have hO_HI := hK_HI
          have hO_CPx := hK_CPx
          have hO_AH := hK_AH
          have hK_HI := sp_sgD sp_HI hD hK_HI (by decide)
          have hK_CPx := hc_w1 hO_CPx (i := x1) (by omega) ev23
          have hK_AH := sp_sgD sp_AH hD hK_AH (by decide)
          refine a_iinc F (k := 1) (fun v24 => [(1, .int v24), (0, .ref (ad 85))]) dX12_house_134 hl rfl rfl (by decide) (by omega) (by decide) (fun _ => rfl) (fun v24 ls hv24 hl => ?_)
          refine lv_goto (tgt := 105) F.1 F.2.1 dX12_house_137 (by decide) ?_
          have g25 : (0 : Int) ≤ (u.1 85 0).toInt ∧ (u.1 85 0).toInt ≤ 1 := hR 85 0
          have g26 : (0 : Int) ≤ (u.1 85 11).toInt ∧ (u.1 85 11).toInt ≤ 4 := hR 85 11
          exact ih105 v24 _ _ _ _ hR hF (by omega) hK_HI (hc_eq hK_CPx (by omega)) hK_AH (by omega) (by omega : (0 : Int) ≤ (u.1 85 0).toInt ∧ (u.1 85 0).toInt ≤ 0) (by omega : (0 : Int) ≤ (u.1 85 11).toInt ∧ (u.1 85 11).toInt ≤ 0) hP hD hS (lv_sub hl [1, 0] rfl)
  have L83 : ∀ (u : ac_U) (H : Heap) (locs : List Loc) (ls : Array Slot), ac_R rg u → ac_Fr [(85, some 0), (85, some 2), (85, some 3), (85, some 4), (85, some 5), (85, some 11), (85, some 12), (85, some 13), (85, some 14), (85, some 15), (85, some 16), (85, some 18), (85, some 19), (85, some 20), (85, some 24), (87, none), (88, none)] u0 u → msI u → unI u → cdI u → apI u → auI u → (0 : Int) ≤ (u.1 85 0).toInt ∧ (u.1 85 0).toInt ≤ 0 → va_P (dC, dI) vwCl (ac_w ad cA (TT nF) u) H → va_D A (ac_w ad cA (TT nF) u) → va_S A s.heap H locs → lv_has ls 2 [(0, .ref (ad 85))] → W p l e (ac_rm 6) s m [.ref (ad 85)].toArray below meth c H locs 0 0 (MQ below (va_Qi (fun (r : Int32) (u : ac_U) => ac_R rg u ∧ ac_Fr [(85, some 0), (85, some 2), (85, some 3), (85, some 4), (85, some 5), (85, some 11), (85, some 12), (85, some 13), (85, some 14), (85, some 15), (85, some 16), (85, some 18), (85, some 19), (85, some 20), (85, some 24), (87, none), (88, none)] u0 u ∧ msI u ∧ unI u ∧ cdI u ∧ apI u ∧ auI u) (ac_B (dC, dI) vwCl (ac_ty cA) ad cA (TT nF) A) A) [.ref (ad 85)].toArray s 0 0 A) (F0 m 83 ls []) := by
    intro u H locs ls hR hF hK_MS hK_UI hK_CW hK_AP hK_AU f0 hP hD hS hl
    refine a_ic F (-1 : Int32) dX12_house_83 (by decide) ?_
    refine lv_aload_n F.1 F.2.1 dX12_house_84 rfl (lv_at hl 0 rfl) ?_
    refine a_geti F inX12 hP 85 16 tc_85 rfl rfl (by decide) q1487 (fun _ h9 => h9) (v := (u.1 85 16)) rfl dX12_house_85 ?_
    refine a_isub F dX12_house_88 ic_m1 rfl (by have q0 := i_lo (u.1 85 16); have q1 := i_hi (u.1 85 16); omega) (fun v27 hv27 => ?_)
    exact a_reti F hr hlocks hP hD hS dX12_house_89 ⟨hR, hF, hK_MS, hK_UI, hK_CW, hK_AP, hK_AU⟩
  have L60 : ∀ (n60 : Nat) (u : ac_U) (H : Heap) (locs : List Loc) (ls : Array Slot), ac_R rg u → ac_Fr [(85, some 0), (85, some 2), (85, some 3), (85, some 4), (85, some 5), (85, some 11), (85, some 12), (85, some 13), (85, some 14), (85, some 15), (85, some 16), (85, some 18), (85, some 19), (85, some 20), (85, some 24), (87, none), (88, none)] u0 u → 54 - ((u.1 88 1).toInt + (u.1 88 2).toInt + (u.1 88 3).toInt + (u.1 88 4).toInt + (u.1 88 5).toInt + (u.1 88 6).toInt + (u.1 88 7).toInt + (u.1 85 20).toInt) < (n60 : Int) → msI u → unI u → cdI u → hsI u → apI u → auI u → ahI u → (0 : Int) ≤ (u.1 85 0).toInt ∧ (u.1 85 0).toInt ≤ 0 → va_P (dC, dI) vwCl (ac_w ad cA (TT nF) u) H → va_D A (ac_w ad cA (TT nF) u) → va_S A s.heap H locs → lv_has ls 2 [(0, .ref (ad 85))] → W p l e (ac_rm 6) s m [.ref (ad 85)].toArray below meth c H locs 0 0 (MQ below (va_Qi (fun (r : Int32) (u : ac_U) => ac_R rg u ∧ ac_Fr [(85, some 0), (85, some 2), (85, some 3), (85, some 4), (85, some 5), (85, some 11), (85, some 12), (85, some 13), (85, some 14), (85, some 15), (85, some 16), (85, some 18), (85, some 19), (85, some 20), (85, some 24), (87, none), (88, none)] u0 u ∧ msI u ∧ unI u ∧ cdI u ∧ apI u ∧ auI u) (ac_B (dC, dI) vwCl (ac_ty cA) ad cA (TT nF) A) A) [.ref (ad 85)].toArray s 0 0 A) (F0 m 60 ls []) := by
    intro n60
    induction n60 with
    | zero => intro u H locs ls hR hF hn60 hK_MS hK_UI hK_CW hK_HI hK_AP hK_AU hK_AH f0 hP hD hS hl; have gz0 : (0 : Int) ≤ (u.1 88 1).toInt ∧ (u.1 88 1).toInt ≤ 8 := hR 88 1; have gz1 : (0 : Int) ≤ (u.1 88 2).toInt ∧ (u.1 88 2).toInt ≤ 12 := hR 88 2; have gz2 : (0 : Int) ≤ (u.1 88 3).toInt ∧ (u.1 88 3).toInt ≤ 6 := hR 88 3; have gz3 : (0 : Int) ≤ (u.1 88 4).toInt ∧ (u.1 88 4).toInt ≤ 4 := hR 88 4; have gz4 : (0 : Int) ≤ (u.1 88 5).toInt ∧ (u.1 88 5).toInt ≤ 6 := hR 88 5; have gz5 : (0 : Int) ≤ (u.1 88 6).toInt ∧ (u.1 88 6).toInt ≤ 8 := hR 88 6; have gz6 : (0 : Int) ≤ (u.1 88 7).toInt ∧ (u.1 88 7).toInt ≤ 8 := hR 88 7; have gz7 : (0 : Int) ≤ (u.1 85 20).toInt ∧ (u.1 85 20).toInt ≤ 1 := hR 85 20; exfalso; omega
    | succ n60 ih60 =>
      intro u H locs ls hR hF hn60 hK_MS hK_UI hK_CW hK_HI hK_AP hK_AU hK_AH f0 hP hD hS hl
      refine lv_aload_n F.1 F.2.1 dX12_house_60 rfl (lv_at hl 0 rfl) ?_
      have g28 : (0 : Int) ≤ (u.1 85 11).toInt ∧ (u.1 85 11).toInt ≤ 4 := hR 85 11
      refine a_geti F inX12 hP 85 11 tc_85 rfl rfl (by decide) q1482 (fun _ h9 => h9) (v := (u.1 85 11)) rfl dX12_house_61 ?_
      refine z_eq F 103 dX12_house_64 (by decide) rfl (fun c29 => ?_) (fun c29 => ?_)
      · refine a_ic F (0 : Int32) dX12_house_103 (by decide) ?_
        refine lv_istore_n (lv' := [(1, .int (0 : Int32)), (0, .ref (ad 85))]) F.1 F.2.1 dX12_house_104 rfl hl (by decide) rfl (fun ls hl => ?_)
        have g30 : (0 : Int) ≤ (u.1 85 0).toInt ∧ (u.1 85 0).toInt ≤ 1 := hR 85 0
        exact L105 659 (0 : Int32) _ _ _ _ hR hF (by decide) hK_HI (hc_0 (by decide)) hK_AH (by decide) (by omega : (0 : Int) ≤ (u.1 85 0).toInt ∧ (u.1 85 0).toInt ≤ 0) (by omega : (0 : Int) ≤ (u.1 85 11).toInt ∧ (u.1 85 11).toInt ≤ 0) hP hD hS (lv_sub hl [1, 0] rfl)
      · refine lv_aload_n F.1 F.2.1 dX12_house_67 rfl (lv_at hl 0 rfl) ?_
        have g32 : (0 : Int) ≤ (u.1 88 1).toInt ∧ (u.1 88 1).toInt ≤ 8 := hR 88 1
        have g33 : (0 : Int) ≤ (u.1 88 2).toInt ∧ (u.1 88 2).toInt ≤ 12 := hR 88 2
        have g34 : (0 : Int) ≤ (u.1 88 3).toInt ∧ (u.1 88 3).toInt ≤ 6 := hR 88 3
        have g35 : (0 : Int) ≤ (u.1 88 4).toInt ∧ (u.1 88 4).toInt ≤ 4 := hR 88 4
        have g36 : (0 : Int) ≤ (u.1 88 5).toInt ∧ (u.1 88 5).toInt ≤ 6 := hR 88 5
        have g37 : (0 : Int) ≤ (u.1 88 6).toInt ∧ (u.1 88 6).toInt ≤ 8 := hR 88 6
        have g38 : (0 : Int) ≤ (u.1 88 7).toInt ∧ (u.1 88 7).toInt ≤ 8 := hR 88 7
        have g39 : (0 : Int) ≤ (u.1 85 20).toInt ∧ (u.1 85 20).toInt ≤ 1 := hR 85 20
        refine a_Vi F hml hl.1 hA hP hD hS (As := []) (c_X12_line_85__3 l dC dI ad cA nF _  hR hK_HI hK_AH) (cs_RX12_235 (d := 5) F.2.2.1 (by decide)) tc_85 rfl rfl rfl rfl (Nat.le_of_ble_eq_true rfl) dX12_house_68 ⟨Nat.le_refl 0, Nat.le_refl 0⟩ (fun r31 u31 H locs hq hP hD hS => ?_)
        obtain ⟨hR, hF31, gr31, hK_HI, hK_AH, hK_r31_S7p⟩ := hq
        have hF := hF.tr hF31 (by decide)
        have hK_MS := sp_fr sp_MS hF31 (by decide) hK_MS
        have hK_UI := sp_fr sp_UI hF31 (by decide) hK_UI
        have hK_CW := sp_fr sp_CW hF31 (by decide) hK_CW
        have hK_AP := sp_fr sp_AP hF31 (by decide) hK_AP
        have hK_AU := sp_fr sp_AU hF31 (by decide) hK_AU
        refine z_eq F 83 dX12_house_71 (by decide) rfl (fun c40 => ?_) (fun c40 => ?_)
        · exact L83 _ _ _ _ hR hF hK_MS hK_UI hK_CW hK_AP hK_AU (i_trB (hF31 85 0 rfl) (by omega : (0 : Int) ≤ (u.1 85 0).toInt ∧ (u.1 85 0).toInt ≤ 0)) hP hD hS (lv_sub hl [0] rfl)
        · have hK_S7p := hK_r31_S7p (by omega)
          have hs9 : (u31.1 88 1).toInt + (u31.1 88 2).toInt + (u31.1 88 3).toInt + (u31.1 88 4).toInt + (u31.1 88 5).toInt + (u31.1 88 6).toInt + (u31.1 88 7).toInt + (u31.1 85 20).toInt = (u.1 88 1).toInt + (u.1 88 2).toInt + (u.1 88 3).toInt + (u.1 88 4).toInt + (u.1 88 5).toInt + (u.1 88 6).toInt + (u.1 88 7).toInt + (u.1 85 20).toInt + 1 := hK_S7p
          refine lv_aload_n F.1 F.2.1 dX12_house_74 rfl (lv_at hl 0 rfl) ?_
          refine a_bp F (59 : Int32) dX12_house_75 (by decide) ?_
          have g43 : (0 : Int) ≤ (u31.1 88 1).toInt ∧ (u31.1 88 1).toInt ≤ 8 := hR 88 1
          have g44 : (0 : Int) ≤ (u31.1 88 2).toInt ∧ (u31.1 88 2).toInt ≤ 12 := hR 88 2
          have g45 : (0 : Int) ≤ (u31.1 88 3).toInt ∧ (u31.1 88 3).toInt ≤ 6 := hR 88 3
          have g46 : (0 : Int) ≤ (u31.1 88 4).toInt ∧ (u31.1 88 4).toInt ≤ 4 := hR 88 4
          have g47 : (0 : Int) ≤ (u31.1 88 5).toInt ∧ (u31.1 88 5).toInt ≤ 6 := hR 88 5
          have g48 : (0 : Int) ≤ (u31.1 88 6).toInt ∧ (u31.1 88 6).toInt ≤ 8 := hR 88 6
          have g49 : (0 : Int) ≤ (u31.1 88 7).toInt ∧ (u31.1 88 7).toInt ≤ 8 := hR 88 7
          have g50 : (0 : Int) ≤ (u31.1 85 20).toInt ∧ (u31.1 85 20).toInt ≤ 1 := hR 85 20
          refine a_Vi F hml hl.1 hA hP hD hS (As := [.int (59 : Int32)]) (c_X12_sign_85 l dC dI ad cA nF _ (59 : Int32) hR (by decide)) (cs_RX12_238 (d := 3) F.2.2.1 (by decide)) tc_85 rfl rfl rfl rfl (Nat.le_of_ble_eq_true rfl) dX12_house_77 ⟨Nat.le_refl 0, Nat.le_refl 0⟩ (fun r42 u42 H locs hq hP hD hS => ?_)
          obtain ⟨hR, hF42, gr42⟩ := hq
          have hF := hF.tr hF42 (by decide)
          have hK_MS := sp_fr sp_MS hF42 (by decide) hK_MS
          have hK_UI := sp_fr sp_UI hF42 (by decide) hK_UI
          have hK_CW := sp_fr sp_CW hF42 (by decide) hK_CW
          have hK_HI := sp_fr sp_HI hF42 (by decide) hK_HI
          have hK_AP := sp_fr sp_AP hF42 (by decide) hK_AP
          have hK_AU := sp_fr sp_AU hF42 (by decide) hK_AU
          have hK_AH := sp_fr sp_AH hF42 (by decide) hK_AH
          have hK_r31_S7p := sp_fr (sp_imp (sp_s7p _)) hF42 (by decide) hK_r31_S7p
          have hK_S7p := sp_fr (sp_s7p _) hF42 (by decide) hK_S7p
          refine z_ne F 90 dX12_house_80 (by decide) rfl (fun c51 => ?_) (fun c51 => ?_)
          · refine lv_aload_n F.1 F.2.1 dX12_house_90 rfl (lv_at hl 0 rfl) ?_
            refine lv_dup F.1 F.2.1 dX12_house_91 rfl ?_
            refine a_geti F inX12 hP 85 19 tc_85 rfl rfl (by decide) q1490 (fun _ h9 => h9) (v := (u42.1 85 19)) rfl dX12_house_92 ?_
            refine a_ic F (1 : Int32) dX12_house_95 (by decide) ?_
            refine a_iaddU F dX12_house_96 (fun v52 => ?_)
            refine a_puti F inX12 tyX12 tyX12_ok nmX12 hP hD hS 85 19 tc_85 rfl rfl (by decide) q1490 (fun _ h9 => h9) rfl (ty := .int) (tyX12_ok 19 (by decide)) rfl rfl dX12_house_97 (fun H locs hP hD hS => ?_)
            have hR := hR.si (c := 85) (k := 19) (v := v52) ⟨i_lo _, i_hi _⟩
            have hF := hF.si (c := 85) (k := 19) (v := v52) rfl
            have hK_MS := sp_sgD sp_MS hD hK_MS (by decide)
            have hK_UI := sp_si sp_UI hK_UI (c := 85) (k := 19) (v := v52) (fun j9 h9 q9 => by rw [q9] at h9; exact absurd h9 (by decide))
            have hK_CW := sp_sgD sp_CW hD hK_CW (by decide)
            have hK_HI := sp_sgD sp_HI hD hK_HI (by decide)
            have hK_AP := sp_sgD sp_AP hD hK_AP (by decide)
            have hK_AU := sp_si sp_AU hK_AU (c := 85) (k := 19) (v := v52) (fun j9 h9 q9 => by rw [q9] at h9; exact absurd h9 (by decide))
            have hK_AH := sp_sgD sp_AH hD hK_AH (by decide)
            have hK_r31_S7p := sp_si (sp_imp (sp_s7p _)) hK_r31_S7p (c := 85) (k := 19) (v := v52) (fun j9 h9 q9 => by rw [q9] at h9; exact absurd h9 (by decide))
            have hK_S7p := sp_si (sp_s7p _) hK_S7p (c := 85) (k := 19) (v := v52) (fun j9 h9 q9 => by rw [q9] at h9; exact absurd h9 (by decide))
            refine lv_goto (tgt := 60) F.1 F.2.1 dX12_house_100 (by decide) ?_
            exact ih60 _ _ _ _ hR hF (by show 54 - ((u42.1 88 1).toInt + (u42.1 88 2).toInt + (u42.1 88 3).toInt + (u42.1 88 4).toInt + (u42.1 88 5).toInt + (u42.1 88 6).toInt + (u42.1 88 7).toInt + (u42.1 85 20).toInt) < ((n60 : Nat) : Int); rw [hF42 88 1 rfl, hF42 88 2 rfl, hF42 88 3 rfl, hF42 88 4 rfl, hF42 88 5 rfl, hF42 88 6 rfl, hF42 88 7 rfl, hF42 85 20 rfl]; exact (by omega : 54 - ((u31.1 88 1).toInt + (u31.1 88 2).toInt + (u31.1 88 3).toInt + (u31.1 88 4).toInt + (u31.1 88 5).toInt + (u31.1 88 6).toInt + (u31.1 88 7).toInt + (u31.1 85 20).toInt) < ((n60 : Nat) : Int))) hK_MS hK_UI hK_CW hK_HI hK_AP hK_AU hK_AH (i_trB ((hF42 85 0 rfl).trans (hF31 85 0 rfl)) (by omega : (0 : Int) ≤ (u.1 85 0).toInt ∧ (u.1 85 0).toInt ≤ 0)) hP hD hS (lv_sub hl [0] rfl)
          · exact L83 _ _ _ _ hR hF hK_MS hK_UI hK_CW hK_AP hK_AU (i_trB ((hF42 85 0 rfl).trans (hF31 85 0 rfl)) (by omega : (0 : Int) ≤ (u.1 85 0).toInt ∧ (u.1 85 0).toInt ≤ 0)) hP hD hS (lv_sub hl [0] rfl)
  have L29 : ∀ (n29 : Nat) (x1 : Int32) (u : ac_U) (H : Heap) (locs : List Loc) (ls : Array Slot), ac_R rg u → ac_Fr [(85, some 0), (85, some 2), (85, some 3), (85, some 4), (85, some 5), (85, some 11), (85, some 12), (85, some 13), (85, some 14), (85, some 15), (85, some 16), (85, some 18), (85, some 19), (85, some 20), (85, some 24), (87, none), (88, none)] u0 u → 106 - x1.toInt < (n29 : Int) → msI u → unI u → cdI u → flI 88 x1.toInt (0 : Int32) u → apI u → auI u → (0 : Int) ≤ x1.toInt ∧ x1.toInt ≤ 106 → (0 : Int) ≤ (u.1 85 0).toInt ∧ (u.1 85 0).toInt ≤ 0 → (0 : Int) ≤ (u.1 85 15).toInt ∧ (u.1 85 15).toInt ≤ 0 → (0 : Int) ≤ (u.1 85 19).toInt ∧ (u.1 85 19).toInt ≤ 0 → (0 : Int) ≤ (u.1 85 20).toInt ∧ (u.1 85 20).toInt ≤ 0 → va_P (dC, dI) vwCl (ac_w ad cA (TT nF) u) H → va_D A (ac_w ad cA (TT nF) u) → va_S A s.heap H locs → lv_has ls 2 [(0, .ref (ad 85)), (1, .int x1)] → W p l e (ac_rm 6) s m [.ref (ad 85)].toArray below meth c H locs 0 0 (MQ below (va_Qi (fun (r : Int32) (u : ac_U) => ac_R rg u ∧ ac_Fr [(85, some 0), (85, some 2), (85, some 3), (85, some 4), (85, some 5), (85, some 11), (85, some 12), (85, some 13), (85, some 14), (85, some 15), (85, some 16), (85, some 18), (85, some 19), (85, some 20), (85, some 24), (87, none), (88, none)] u0 u ∧ msI u ∧ unI u ∧ cdI u ∧ apI u ∧ auI u) (ac_B (dC, dI) vwCl (ac_ty cA) ad cA (TT nF) A) A) [.ref (ad 85)].toArray s 0 0 A) (F0 m 29 ls []) := by
    intro n29
    induction n29 with
    | zero => intro x1 u H locs ls hR hF hn29 hK_MS hK_UI hK_CW hK_HZx hK_AP hK_AU f0 f1 f2 f3 f4 hP hD hS hl; exfalso; omega
    | succ n29 ih29 =>
      intro x1 u H locs ls hR hF hn29 hK_MS hK_UI hK_CW hK_HZx hK_AP hK_AU f0 f1 f2 f3 f4 hP hD hS hl
      refine lv_iload_n F.1 F.2.1 dX12_house_29 rfl (lv_at hl 1 rfl) ?_
      refine a_bp F (106 : Int32) dX12_house_30 (by decide) ?_
      refine b_ge F 48 dX12_house_32 (by decide) rfl ic_106 (fun c53 => ?_) (fun c53 => ?_)
      · refine lv_aload_n F.1 F.2.1 dX12_house_48 rfl (lv_at hl 0 rfl) ?_
        refine a_getr F inX12 hP 85 7 tc_85 rfl rfl (by decide) q1478 (fun _ h9 => h9) dX12_house_49 ?_
        refine a_ic F (0 : Int32) dX12_house_52 (by decide) ?_
        refine a_bp F (24 : Int32) dX12_house_53 (by decide) ?_
        refine a_iastK F hP hD hS 88 0 tc_88 rfl rfl (i_in ic_0 (by omega)) dX12_house_55 (fun H locs hP hD hS => ?_)
        have hR := hR.si (c := 88) (k := 0) (v := (24 : Int32)) (by rw [ic_24]; exact (by omega : (0 : Int) ≤ (24 : Int) ∧ (24 : Int) ≤ 24))
        have hF := hF.si (c := 88) (k := 0) (v := (24 : Int32)) rfl
        have hO_MS := hK_MS
        have hO_UI := hK_UI
        have hO_CW := hK_CW
        have hO_HZx := hK_HZx
        have hO_AP := hK_AP
        have hO_AU := hK_AU
        have hN_HI := hs_0 hO_HZx (v := (24 : Int32)) (by decide) (by omega) (by decide)
        have hN_AH := ah_0 hO_HZx (v := (24 : Int32)) (by decide) (by omega)
        have hK_MS := sp_sgD sp_MS hD hK_MS (by decide)
        have hK_UI := sp_sgD sp_UI hD hK_UI (by decide)
        have hK_CW := sp_sgD sp_CW hD hK_CW (by decide)
        have hK_AP := sp_sgD sp_AP hD hK_AP (by decide)
        have hK_AU := sp_sgD sp_AU hD hK_AU (by decide)
        have hK_HI := hN_HI
        have hK_AH := hN_AH
        refine lv_aload_n F.1 F.2.1 dX12_house_56 rfl (lv_at hl 0 rfl) ?_
        have g55 : (0 : Int) ≤ (u.1 88 1).toInt ∧ (u.1 88 1).toInt ≤ 8 := hR 88 1
        have g56 : (0 : Int) ≤ (u.1 88 2).toInt ∧ (u.1 88 2).toInt ≤ 12 := hR 88 2
        have g57 : (0 : Int) ≤ (u.1 88 3).toInt ∧ (u.1 88 3).toInt ≤ 6 := hR 88 3
        have g58 : (0 : Int) ≤ (u.1 88 4).toInt ∧ (u.1 88 4).toInt ≤ 4 := hR 88 4
        have g59 : (0 : Int) ≤ (u.1 88 5).toInt ∧ (u.1 88 5).toInt ≤ 6 := hR 88 5
        have g60 : (0 : Int) ≤ (u.1 88 6).toInt ∧ (u.1 88 6).toInt ≤ 8 := hR 88 6
        have g61 : (0 : Int) ≤ (u.1 88 7).toInt ∧ (u.1 88 7).toInt ≤ 8 := hR 88 7
        have g62 : (0 : Int) ≤ (u.1 85 20).toInt ∧ (u.1 85 20).toInt ≤ 1 := hR 85 20
        refine a_Vv F hml hl.1 hA hP hD hS (As := []) (c_X12_next_85 l dC dI ad cA nF _  hR) (cs_RX12_184 (d := 2) F.2.2.1 (by decide)) tc_85 rfl rfl rfl rfl (Nat.le_of_ble_eq_true rfl) dX12_house_57 ⟨Nat.le_refl 0, Nat.le_refl 0⟩ (fun u54 H locs hq hP hD hS => ?_)
        obtain ⟨hR, hF54⟩ := hq
        have hF := hF.tr hF54 (by decide)
        have hK_MS := sp_fr sp_MS hF54 (by decide) hK_MS
        have hK_UI := sp_fr sp_UI hF54 (by decide) hK_UI
        have hK_CW := sp_fr sp_CW hF54 (by decide) hK_CW
        have hK_AP := sp_fr sp_AP hF54 (by decide) hK_AP
        have hK_AU := sp_fr sp_AU hF54 (by decide) hK_AU
        have hK_HI := sp_fr sp_HI hF54 (by decide) hK_HI
        have hK_AH := sp_fr sp_AH hF54 (by decide) hK_AH
        exact L60 56 _ _ _ _ hR hF (by show 54 - ((u54.1 88 1).toInt + (u54.1 88 2).toInt + (u54.1 88 3).toInt + (u54.1 88 4).toInt + (u54.1 88 5).toInt + (u54.1 88 6).toInt + (u54.1 88 7).toInt + (u54.1 85 20).toInt) < (56 : Int); rw [hF54 88 1 rfl, hF54 88 2 rfl, hF54 88 3 rfl, hF54 88 4 rfl, hF54 88 5 rfl, hF54 88 6 rfl, hF54 88 7 rfl, hF54 85 20 rfl]; exact (by omega : 54 - ((u.1 88 1).toInt + (u.1 88 2).toInt + (u.1 88 3).toInt + (u.1 88 4).toInt + (u.1 88 5).toInt + (u.1 88 6).toInt + (u.1 88 7).toInt + (u.1 85 20).toInt) < (56 : Int))) hK_MS hK_UI hK_CW hK_HI hK_AP hK_AU hK_AH (i_trB (hF54 85 0 rfl) (by omega : (0 : Int) ≤ (u.1 85 0).toInt ∧ (u.1 85 0).toInt ≤ 0)) hP hD hS (lv_sub hl [0] rfl)
      · refine lv_aload_n F.1 F.2.1 dX12_house_35 rfl (lv_at hl 0 rfl) ?_
        refine a_getr F inX12 hP 85 7 tc_85 rfl rfl (by decide) q1478 (fun _ h9 => h9) dX12_house_36 ?_
        refine lv_iload_n F.1 F.2.1 dX12_house_39 rfl (lv_at hl 1 rfl) ?_
        refine a_ic F (0 : Int32) dX12_house_40 (by decide) ?_
        have g63 : (0 : Int) ≤ (u.1 88 1).toInt ∧ (u.1 88 1).toInt ≤ 8 := hR 88 1
        have g64 : (0 : Int) ≤ (u.1 88 2).toInt ∧ (u.1 88 2).toInt ≤ 12 := hR 88 2
        have g65 : (0 : Int) ≤ (u.1 88 3).toInt ∧ (u.1 88 3).toInt ≤ 6 := hR 88 3
        have g66 : (0 : Int) ≤ (u.1 88 4).toInt ∧ (u.1 88 4).toInt ≤ 4 := hR 88 4
        have g67 : (0 : Int) ≤ (u.1 88 5).toInt ∧ (u.1 88 5).toInt ≤ 6 := hR 88 5
        have g68 : (0 : Int) ≤ (u.1 88 6).toInt ∧ (u.1 88 6).toInt ≤ 8 := hR 88 6
        have g69 : (0 : Int) ≤ (u.1 88 7).toInt ∧ (u.1 88 7).toInt ≤ 8 := hR 88 7
        refine a_iast F hP hD hS 88 tc_88 rfl (i_in rfl (by omega)) dX12_house_41 (fun H locs hP hD hS => ?_)
        have hR := hR.si (c := 88) (k := x1.toNatClampNeg) (v := (0 : Int32)) (rs_88_0_105 (by omega) (by omega : (0 : Int) ≤ (0 : Int) ∧ (0 : Int) ≤ 3))
        have hF := hF.si (c := 88) (k := x1.toNatClampNeg) (v := (0 : Int32)) rfl
        have hK_MS := sp_sgD sp_MS hD hK_MS (by decide)
        have hK_UI := sp_sgD sp_UI hD hK_UI (by decide)
        have hK_CW := sp_sgD sp_CW hD hK_CW (by decide)
        have hK_HZx := fl_s hK_HZx (i := x1) (by omega) rfl
        have hK_AP := sp_sgD sp_AP hD hK_AP (by decide)
        have hK_AU := sp_sgD sp_AU hD hK_AU (by decide)
        refine a_iinc F (k := 1) (fun v70 => [(1, .int v70), (0, .ref (ad 85))]) dX12_house_42 hl rfl rfl (by decide) (by omega) (by decide) (fun _ => rfl) (fun v70 ls hv70 hl => ?_)
        refine lv_goto (tgt := 29) F.1 F.2.1 dX12_house_45 (by decide) ?_
        have g71 : (0 : Int) ≤ (u.1 85 0).toInt ∧ (u.1 85 0).toInt ≤ 1 := hR 85 0
        have g72 : (0 : Int) ≤ (u.1 85 20).toInt ∧ (u.1 85 20).toInt ≤ 1 := hR 85 20
        exact ih29 v70 _ _ _ _ hR hF (by omega) hK_MS hK_UI hK_CW (fl_le hK_HZx (by omega)) hK_AP hK_AU (by omega) (by omega : (0 : Int) ≤ (u.1 85 0).toInt ∧ (u.1 85 0).toInt ≤ 0) (by omega : (0 : Int) ≤ (u.1 85 15).toInt ∧ (u.1 85 15).toInt ≤ 0) (by omega : (0 : Int) ≤ (u.1 85 19).toInt ∧ (u.1 85 19).toInt ≤ 0) (by omega : (0 : Int) ≤ (u.1 85 20).toInt ∧ (u.1 85 20).toInt ≤ 0) hP hD hS (lv_sub hl [1, 0] rfl)
  refine lv_aload_n F.1 F.2.1 dX12_house_0 rfl (lv_at hl 0 rfl) ?_
  refine a_ic F (0 : Int32) dX12_house_1 (by decide) ?_
  refine a_puti F inX12 tyX12 tyX12_ok nmX12 hP hD hS 85 0 tc_85 rfl rfl (by decide) q1471 (fun _ h9 => h9) rfl (ty := .int) (tyX12_ok 0 (by decide)) rfl rfl dX12_house_2 (fun H locs hP hD hS => ?_)
  have hR := hR.si (c := 85) (k := 0) (v := (0 : Int32)) (by rw [ic_0]; exact (by omega : (0 : Int) ≤ (0 : Int) ∧ (0 : Int) ≤ 1))
  have hF := hF.si (c := 85) (k := 0) (v := (0 : Int32)) rfl
  have hK_MS := sp_sgD sp_MS hD hK_MS (by decide)
  have hK_UI := sp_si sp_UI hK_UI (c := 85) (k := 0) (v := (0 : Int32)) (fun j9 h9 q9 => by rw [q9] at h9; exact absurd h9 (by decide))
  have hK_CW := sp_sgD sp_CW hD hK_CW (by decide)
  have hK_AP := sp_sgD sp_AP hD hK_AP (by decide)
  have hK_AU := sp_si sp_AU hK_AU (c := 85) (k := 0) (v := (0 : Int32)) (fun j9 h9 q9 => by rw [q9] at h9; exact absurd h9 (by decide))
  refine lv_aload_n F.1 F.2.1 dX12_house_5 rfl (lv_at hl 0 rfl) ?_
  refine a_sp F (900 : Int32) dX12_house_6 (by decide) ?_
  have g74 : (0 : Int) ≤ (u0.1 88 1).toInt ∧ (u0.1 88 1).toInt ≤ 8 := hR 88 1
  have g75 : (0 : Int) ≤ (u0.1 88 2).toInt ∧ (u0.1 88 2).toInt ≤ 12 := hR 88 2
  have g76 : (0 : Int) ≤ (u0.1 88 3).toInt ∧ (u0.1 88 3).toInt ≤ 6 := hR 88 3
  have g77 : (0 : Int) ≤ (u0.1 88 4).toInt ∧ (u0.1 88 4).toInt ≤ 4 := hR 88 4
  have g78 : (0 : Int) ≤ (u0.1 88 5).toInt ∧ (u0.1 88 5).toInt ≤ 6 := hR 88 5
  have g79 : (0 : Int) ≤ (u0.1 88 6).toInt ∧ (u0.1 88 6).toInt ≤ 8 := hR 88 6
  have g80 : (0 : Int) ≤ (u0.1 88 7).toInt ∧ (u0.1 88 7).toInt ≤ 8 := hR 88 7
  have g81 : (0 : Int) ≤ (u0.1 85 20).toInt ∧ (u0.1 85 20).toInt ≤ 1 := hR 85 20
  refine a_Vv F hml hl.1 hA hP hD hS (As := [.int (900 : Int32)]) (c_X12_taken_85 l dC dI ad cA nF _ (900 : Int32) hR (by decide)) (cs_RX12_229 (d := 1) F.2.2.1 (by decide)) tc_85 rfl rfl rfl rfl (Nat.le_of_ble_eq_true rfl) dX12_house_9 ⟨Nat.le_refl 0, Nat.le_refl 0⟩ (fun u73 H locs hq hP hD hS => ?_)
  obtain ⟨hR, hF73⟩ := hq
  have hF := hF.tr hF73 (by decide)
  have hK_MS := sp_fr sp_MS hF73 (by decide) hK_MS
  have hK_UI := sp_fr sp_UI hF73 (by decide) hK_UI
  have hK_CW := sp_fr sp_CW hF73 (by decide) hK_CW
  have hK_AP := sp_fr sp_AP hF73 (by decide) hK_AP
  have hK_AU := sp_fr sp_AU hF73 (by decide) hK_AU
  refine lv_aload_n F.1 F.2.1 dX12_house_12 rfl (lv_at hl 0 rfl) ?_
  refine a_ic F (0 : Int32) dX12_house_13 (by decide) ?_
  refine a_puti F inX12 tyX12 tyX12_ok nmX12 hP hD hS 85 15 tc_85 rfl rfl (by decide) q1486 (fun _ h9 => h9) rfl (ty := .int) (tyX12_ok 15 (by decide)) rfl rfl dX12_house_14 (fun H locs hP hD hS => ?_)
  have hR := hR.si (c := 85) (k := 15) (v := (0 : Int32)) ⟨i_lo _, i_hi _⟩
  have hF := hF.si (c := 85) (k := 15) (v := (0 : Int32)) rfl
  have hK_MS := sp_sgD sp_MS hD hK_MS (by decide)
  have hK_UI := sp_si sp_UI hK_UI (c := 85) (k := 15) (v := (0 : Int32)) (fun j9 h9 q9 => by rw [q9] at h9; exact absurd h9 (by decide))
  have hK_CW := sp_sgD sp_CW hD hK_CW (by decide)
  have hK_AP := sp_sgD sp_AP hD hK_AP (by decide)
  have hK_AU := sp_si sp_AU hK_AU (c := 85) (k := 15) (v := (0 : Int32)) (fun j9 h9 q9 => by rw [q9] at h9; exact absurd h9 (by decide))
  refine lv_aload_n F.1 F.2.1 dX12_house_17 rfl (lv_at hl 0 rfl) ?_
  refine a_ic F (0 : Int32) dX12_house_18 (by decide) ?_
  refine a_puti F inX12 tyX12 tyX12_ok nmX12 hP hD hS 85 19 tc_85 rfl rfl (by decide) q1490 (fun _ h9 => h9) rfl (ty := .int) (tyX12_ok 19 (by decide)) rfl rfl dX12_house_19 (fun H locs hP hD hS => ?_)
  have hR := hR.si (c := 85) (k := 19) (v := (0 : Int32)) ⟨i_lo _, i_hi _⟩
  have hF := hF.si (c := 85) (k := 19) (v := (0 : Int32)) rfl
  have hK_MS := sp_sgD sp_MS hD hK_MS (by decide)
  have hK_UI := sp_si sp_UI hK_UI (c := 85) (k := 19) (v := (0 : Int32)) (fun j9 h9 q9 => by rw [q9] at h9; exact absurd h9 (by decide))
  have hK_CW := sp_sgD sp_CW hD hK_CW (by decide)
  have hK_AP := sp_sgD sp_AP hD hK_AP (by decide)
  have hK_AU := sp_si sp_AU hK_AU (c := 85) (k := 19) (v := (0 : Int32)) (fun j9 h9 q9 => by rw [q9] at h9; exact absurd h9 (by decide))
  refine lv_aload_n F.1 F.2.1 dX12_house_22 rfl (lv_at hl 0 rfl) ?_
  refine a_ic F (0 : Int32) dX12_house_23 (by decide) ?_
  refine a_puti F inX12 tyX12 tyX12_ok nmX12 hP hD hS 85 20 tc_85 rfl rfl (by decide) q1491 (fun _ h9 => h9) rfl (ty := .boolean) (tyX12_ok 20 (by decide)) (i_zn (Or.inl rfl)) (i_zf (Or.inl rfl)) dX12_house_24 (fun H locs hP hD hS => ?_)
  have hR := hR.si (c := 85) (k := 20) (v := (0 : Int32)) (by rw [ic_0]; exact (by omega : (0 : Int) ≤ (0 : Int) ∧ (0 : Int) ≤ 1))
  have hF := hF.si (c := 85) (k := 20) (v := (0 : Int32)) rfl
  have hK_MS := sp_sgD sp_MS hD hK_MS (by decide)
  have hK_UI := sp_si sp_UI hK_UI (c := 85) (k := 20) (v := (0 : Int32)) (fun j9 h9 q9 => by rw [q9] at h9; exact absurd h9 (by decide))
  have hK_CW := sp_sgD sp_CW hD hK_CW (by decide)
  have hK_AP := sp_sgD sp_AP hD hK_AP (by decide)
  have hK_AU := sp_si sp_AU hK_AU (c := 85) (k := 20) (v := (0 : Int32)) (fun j9 h9 q9 => by rw [q9] at h9; exact absurd h9 (by decide))
  refine a_ic F (0 : Int32) dX12_house_27 (by decide) ?_
  refine lv_istore_n (lv' := [(1, .int (0 : Int32)), (0, .ref (ad 85))]) F.1 F.2.1 dX12_house_28 rfl hl (by decide) rfl (fun ls hl => ?_)
  exact L29 108 (0 : Int32) _ _ _ _ hR hF (by decide) hK_MS hK_UI hK_CW (fl_0 (by decide)) hK_AP hK_AU (by decide) (i_trB (hF73 85 0 rfl) (by omega : (0 : Int) ≤ (0 : Int) ∧ (0 : Int) ≤ 0)) (by omega : (0 : Int) ≤ (0 : Int) ∧ (0 : Int) ≤ 0) (by omega : (0 : Int) ≤ (0 : Int) ∧ (0 : Int) ≤ 0) (by omega : (0 : Int) ≤ (0 : Int) ∧ (0 : Int) ≤ 0) hP hD hS (lv_sub hl [1, 0] rfl)

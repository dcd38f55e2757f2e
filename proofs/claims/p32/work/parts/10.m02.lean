set_option maxHeartbeats 600000 in
set_option maxRecDepth 100000 in
theorem c_X6_boundCount_24 (l : Launch) (dC : Nat → ClassId) (dI : Nat → Nat → Nat) (ad : Nat → Nat) (cA : Nat → ClassId) (nF : Nat) (u0 : ac_U)  (hR : ac_R rg u0) : ac_Mi l yX6_boundCount (.code yX6_boundCount cX6_boundCount 3 (some .int) :: TB) 3 (dC, dI) vwCl (ac_ty cA) ad cA (TT nF) [.ref (ad 24)] u0 (fun (r : Int32) (u : ac_U) => u = u0) := by
  refine ac_Mi.of (cc := cX6_boundCount) (maxL := 3) (ret := (some .int)) (by decide) rfl (Nat.le_of_ble_eq_true rfl) ?_
  intro p e s m below meth c A ls F hml hr hlocks hA hP hD hS hl
  have F : ac_X p s m [.ref (ad 24)].toArray c cX6_boundCount RX6 TB (dC, dI) vwCl (ac_ty cA) := ⟨F.1, F.2.1, fun w h => F.2.2.1 w (List.mem_cons_of_mem _ h), F.2.2.2.1, F.2.2.2.2⟩
  have hl : lv_has ls 3 [(0, .ref (ad 24))] := hl
  have L4 : ∀ (n4 : Nat) (x1 : Int32) (x2 : Int32) (H : Heap) (locs : List Loc) (ls : Array Slot), 8 - x2.toInt < (n4 : Int) → (0 : Int) ≤ x2.toInt ∧ x2.toInt ≤ 8 → va_P (dC, dI) vwCl (ac_w ad cA (TT nF) u0) H → va_D A (ac_w ad cA (TT nF) u0) → va_S A s.heap H locs → lv_has ls 3 [(0, .ref (ad 24)), (1, .int x1), (2, .int x2)] → W p l e (ac_rm 3) s m [.ref (ad 24)].toArray below meth c H locs 0 0 (MQ below (va_Qi (fun (r : Int32) (u : ac_U) => u = u0) (ac_B (dC, dI) vwCl (ac_ty cA) ad cA (TT nF) A) A) [.ref (ad 24)].toArray s 0 0 A) (F0 m 4 ls []) := by
    intro n4
    induction n4 with
    | zero => intro x1 x2 H locs ls hn4 f0 hP hD hS hl; exfalso; omega
    | succ n4 ih4 =>
      intro x1 x2 H locs ls hn4 f0 hP hD hS hl
      have L29 : ∀ (x2 : Int32) (z0 : Int32) (z1 : Int32) (H : Heap) (locs : List Loc) (ls : Array Slot), (0 : Int) ≤ x2.toInt ∧ x2.toInt ≤ 7 → (0 : Int) ≤ z1.toInt ∧ z1.toInt ≤ 1 → (1 : Int) ≤ (u0.1 4 6).toInt ∧ (u0.1 4 6).toInt ≤ 8 → 8 - x2.toInt + 0 < ((n4 : Nat) : Int) + 1 → va_P (dC, dI) vwCl (ac_w ad cA (TT nF) u0) H → va_D A (ac_w ad cA (TT nF) u0) → va_S A s.heap H locs → lv_has ls 3 [(0, .ref (ad 24)), (2, .int x2)] → W p l e (ac_rm 3) s m [.ref (ad 24)].toArray below meth c H locs 0 0 (MQ below (va_Qi (fun (r : Int32) (u : ac_U) => u = u0) (ac_B (dC, dI) vwCl (ac_ty cA) ad cA (TT nF) A) A) [.ref (ad 24)].toArray s 0 0 A) (F0 m 29 ls [.int z1, .int z0]) := by
        intro x2 z0 z1 H locs ls f0 f1 f2 f3 hP hD hS hl
        refine a_iaddU F dX6_boundCount_29 (fun v1 => ?_)
        refine lv_istore_n (lv' := [(1, .int v1), (0, .ref (ad 24)), (2, .int x2)]) F.1 F.2.1 dX6_boundCount_30 rfl hl (by decide) rfl (fun ls hl => ?_)
        refine a_iinc F (k := 2) (fun v2 => [(2, .int v2), (1, .int v1), (0, .ref (ad 24))]) dX6_boundCount_31 hl rfl rfl (by decide) (by omega) (by decide) (fun _ => rfl) (fun v2 ls hv2 hl => ?_)
        refine lv_goto (tgt := 4) F.1 F.2.1 dX6_boundCount_34 (by decide) ?_
        exact ih4 v1 v2 _ _ _ (by omega) (by omega) hP hD hS (lv_sub hl [2, 1, 0] rfl)
      refine lv_iload_n F.1 F.2.1 dX6_boundCount_4 rfl (lv_at hl 2 rfl) ?_
      refine lv_aload_n F.1 F.2.1 dX6_boundCount_5 rfl (lv_at hl 0 rfl) ?_
      refine a_getr F inX6 hP 24 0 tc_24 rfl rfl (by decide) q271 (fun _ h9 => h9) dX6_boundCount_6 ?_
      have g3 : (0 : Int) ≤ (u0.1 4 6).toInt ∧ (u0.1 4 6).toInt ≤ 8 := hR 4 6
      refine a_geti F inX2 hP 4 6 tc_4 rfl rfl (by decide) q183 (fun _ h9 => h9) (v := (u0.1 4 6)) rfl dX6_boundCount_9 ?_
      refine b_ge F 37 dX6_boundCount_12 (by decide) rfl rfl (fun c4 => ?_) (fun c4 => ?_)
      · refine lv_iload_n F.1 F.2.1 dX6_boundCount_37 rfl (lv_at hl 1 rfl) ?_
        exact a_reti F hr hlocks hP hD hS dX6_boundCount_38 rfl
      · refine lv_iload_n F.1 F.2.1 dX6_boundCount_15 rfl (lv_at hl 1 rfl) ?_
        refine lv_aload_n F.1 F.2.1 dX6_boundCount_16 rfl (lv_at hl 0 rfl) ?_
        refine lv_iload_n F.1 F.2.1 dX6_boundCount_17 rfl (lv_at hl 2 rfl) ?_
        refine a_Vi F hml hl.1 hA hP hD hS (As := [.int x2]) (c_X6_isBound_24 l dC dI ad cA nF _ x2 hR (by omega)) (cs_RX6_102 (d := 2) F.2.2.1 (by decide)) tc_24 rfl rfl rfl rfl (Nat.le_of_ble_eq_true rfl) dX6_boundCount_18 ⟨Nat.le_refl 0, Nat.le_refl 0⟩ (fun r5 uN5 H locs hq hP hD hS => ?_)
        obtain ⟨hu5, gr5⟩ := hq
        rw [hu5] at hP hD
        refine z_eq F 28 dX6_boundCount_21 (by decide) rfl (fun c6 => ?_) (fun c6 => ?_)
        · refine a_ic F (0 : Int32) dX6_boundCount_28 (by decide) ?_
          exact L29 x2 x1 (0 : Int32) _ _ _ (by omega) (by decide) (by omega : (1 : Int) ≤ (u0.1 4 6).toInt ∧ (u0.1 4 6).toInt ≤ 8) (by omega) hP hD hS (lv_sub hl [0, 2] rfl)
        · refine a_ic F (1 : Int32) dX6_boundCount_24 (by decide) ?_
          refine lv_goto (tgt := 29) F.1 F.2.1 dX6_boundCount_25 (by decide) ?_
          exact L29 x2 x1 (1 : Int32) _ _ _ (by omega) (by decide) (by omega : (1 : Int) ≤ (u0.1 4 6).toInt ∧ (u0.1 4 6).toInt ≤ 8) (by omega) hP hD hS (lv_sub hl [0, 2] rfl)
  refine a_ic F (0 : Int32) dX6_boundCount_0 (by decide) ?_
  refine lv_istore_n (lv' := [(1, .int (0 : Int32)), (0, .ref (ad 24))]) F.1 F.2.1 dX6_boundCount_1 rfl hl (by decide) rfl (fun ls hl => ?_)
  refine a_ic F (0 : Int32) dX6_boundCount_2 (by decide) ?_
  refine lv_istore_n (lv' := [(2, .int (0 : Int32)), (1, .int (0 : Int32)), (0, .ref (ad 24))]) F.1 F.2.1 dX6_boundCount_3 rfl hl (by decide) rfl (fun ls hl => ?_)
  exact L4 10 (0 : Int32) (0 : Int32) _ _ _ (by decide) (by decide) hP hD hS (lv_sub hl [2, 1, 0] rfl)
set_option maxHeartbeats 600000 in
set_option maxRecDepth 100000 in
theorem c_X6_forget_24 (l : Launch) (dC : Nat → ClassId) (dI : Nat → Nat → Nat) (ad : Nat → Nat) (cA : Nat → ClassId) (nF : Nat) (u0 : ac_U)  (hR : ac_R rg u0) : ac_Mi l yX6_forget (.code yX6_forget cX6_forget 1 (some .int) :: TB) 1 (dC, dI) vwCl (ac_ty cA) ad cA (TT nF) [.ref (ad 24)] u0 (fun (r : Int32) (u : ac_U) => ac_R rg u ∧ ac_Fr [(24, some 5), (24, some 6), (25, none)] u0 u ∧ ((-1 : Int) ≤ r.toInt ∧ r.toInt ≤ 7)) := by
  refine ac_Mi.of (cc := cX6_forget) (maxL := 1) (ret := (some .int)) (by decide) rfl (Nat.le_of_ble_eq_true rfl) ?_
  intro p e s m below meth c A ls F hml hr hlocks hA hP hD hS hl
  have F : ac_X p s m [.ref (ad 24)].toArray c cX6_forget RX6 TB (dC, dI) vwCl (ac_ty cA) := ⟨F.1, F.2.1, fun w h => F.2.2.1 w (List.mem_cons_of_mem _ h), F.2.2.2.1, F.2.2.2.2⟩
  have hl : lv_has ls 1 [(0, .ref (ad 24))] := hl
  have hF : ac_Fr [(24, some 5), (24, some 6), (25, none)] u0 u0 := ac_Fr.rf
  refine lv_aload_n F.1 F.2.1 dX6_forget_0 rfl (lv_at hl 0 rfl) ?_
  have g1 : (0 : Int) ≤ (u0.1 24 5).toInt ∧ (u0.1 24 5).toInt ≤ 8 := hR 24 5
  refine a_geti F inX6 hP 24 5 tc_24 rfl rfl (by decide) q282 (fun _ h9 => h9) (v := (u0.1 24 5)) rfl dX6_forget_1 ?_
  refine z_ne F 9 dX6_forget_4 (by decide) rfl (fun c2 => ?_) (fun c2 => ?_)
  · refine lv_aload_n F.1 F.2.1 dX6_forget_9 rfl (lv_at hl 0 rfl) ?_
    refine lv_aload_n F.1 F.2.1 dX6_forget_10 rfl (lv_at hl 0 rfl) ?_
    have g3 : (0 : Int) ≤ (u0.1 24 6).toInt ∧ (u0.1 24 6).toInt ≤ 7 := hR 24 6
    refine a_geti F inX6 hP 24 6 tc_24 rfl rfl (by decide) q284 (fun _ h9 => h9) (v := (u0.1 24 6)) rfl dX6_forget_11 ?_
    refine a_bp F (8 : Int32) dX6_forget_14 (by decide) ?_
    refine a_iadd F dX6_forget_16 rfl ic_8 (by omega) (fun v4 hv4 => ?_)
    refine a_ic F (1 : Int32) dX6_forget_17 (by decide) ?_
    refine a_isub F dX6_forget_18 rfl ic_1 (by omega) (fun v5 hv5 => ?_)
    refine a_bp F (8 : Int32) dX6_forget_19 (by decide) ?_
    refine a_irem F dX6_forget_21 rfl ic_8 (by omega) (fun v6 hv6 => ?_)
    refine a_puti F inX6 tyX6 tyX6_ok nmX6 hP hD hS 24 6 tc_24 rfl rfl (by decide) q284 (fun _ h9 => h9) rfl (ty := .int) (tyX6_ok 6 (by decide)) rfl rfl dX6_forget_22 (fun H locs hP hD hS => ?_)
    have hR := hR.si (c := 24) (k := 6) (v := v6) (by omega : (0 : Int) ≤ v6.toInt ∧ v6.toInt ≤ 7)
    have hF := hF.si (c := 24) (k := 6) (v := v6) rfl
    refine lv_aload_n F.1 F.2.1 dX6_forget_25 rfl (lv_at hl 0 rfl) ?_
    refine lv_dup F.1 F.2.1 dX6_forget_26 rfl ?_
    refine a_geti F inX6 hP 24 5 tc_24 rfl rfl (by decide) q282 (fun _ h9 => h9) (v := (u0.1 24 5)) (rfl) dX6_forget_27 ?_
    refine a_ic F (1 : Int32) dX6_forget_30 (by decide) ?_
    refine a_isub F dX6_forget_31 rfl ic_1 (by omega) (fun v7 hv7 => ?_)
    refine a_puti F inX6 tyX6 tyX6_ok nmX6 hP hD hS 24 5 tc_24 rfl rfl (by decide) q282 (fun _ h9 => h9) rfl (ty := .int) (tyX6_ok 5 (by decide)) rfl rfl dX6_forget_32 (fun H locs hP hD hS => ?_)
    have hR := hR.si (c := 24) (k := 5) (v := v7) (by omega : (0 : Int) ≤ v7.toInt ∧ v7.toInt ≤ 8)
    have hF := hF.si (c := 24) (k := 5) (v := v7) rfl
    refine lv_aload_n F.1 F.2.1 dX6_forget_35 rfl (lv_at hl 0 rfl) ?_
    refine a_getr F inX6 hP 24 4 tc_24 rfl rfl (by decide) q281 (fun _ h9 => h9) dX6_forget_36 ?_
    refine lv_aload_n F.1 F.2.1 dX6_forget_39 rfl (lv_at hl 0 rfl) ?_
    refine a_geti F inX6 hP 24 6 tc_24 rfl rfl (by decide) q284 (fun _ h9 => h9) (v := v6) (rfl) dX6_forget_40 ?_
    refine a_bp F (31 : Int32) dX6_forget_43 (by decide) ?_
    refine a_imul F dX6_forget_45 rfl ic_31 (by omega) (fun v8 hv8 => ?_)
    refine lv_aload_n F.1 F.2.1 dX6_forget_46 rfl (lv_at hl 0 rfl) ?_
    refine a_getr F inX6 hP 24 1 tc_24 rfl rfl (by decide) q272 (fun _ h9 => h9) dX6_forget_47 ?_
    refine a_ic F (0 : Int32) dX6_forget_50 (by decide) ?_
    refine a_bp F (31 : Int32) dX6_forget_51 (by decide) ?_
    refine a_cpyi F (hml.trans hl.1.symm) q730 q708 q707 q19 hP hD hS 28 25 tc_28 tc_25 rfl (by omega) (by decide) (by decide) (by simp only [ic_0, ic_31]; omega) (by simp only [ic_0, ic_31]; omega) (by decide) (by decide) dX6_forget_53 (fun H locs hP hD hS => ?_)
    have hR := hR.cp (c0 := 28) (c1 := 25) (sp := v8.toNatClampNeg) (dp := (0 : Int32).toNatClampNeg) (n := (31 : Int32).toNatClampNeg) (cp_past2 (q := v6.toInt) (by omega) (by omega))
    have hF := hF.cp (c0 := 28) (c1 := 25) (sp := v8.toNatClampNeg) (dp := (0 : Int32).toNatClampNeg) (n := (31 : Int32).toNatClampNeg) (fun _ => rfl)
    refine lv_aload_n F.1 F.2.1 dX6_forget_56 rfl (lv_at hl 0 rfl) ?_
    refine a_geti F inX6 hP 24 5 tc_24 rfl rfl (by decide) q282 (fun _ h9 => h9) (v := v7) (rfl) dX6_forget_57 ?_
    exact a_reti F hr hlocks hP hD hS dX6_forget_60 ⟨hR, hF, (by omega : (-1 : Int) ≤ v7.toInt ∧ v7.toInt ≤ 7)⟩
  · refine a_ic F (-1 : Int32) dX6_forget_7 (by decide) ?_
    exact a_reti F hr hlocks hP hD hS dX6_forget_8 ⟨hR, hF, (by decide)⟩
set_option maxHeartbeats 600000 in
set_option maxRecDepth 100000 in
theorem c_X6_knownWhen_24 (l : Launch) (dC : Nat → ClassId) (dI : Nat → Nat → Nat) (ad : Nat → Nat) (cA : Nat → ClassId) (nF : Nat) (u0 : ac_U) (p0 : Int32) (p1 : Int32) (hR : ac_R rg u0) (hp0 : (0 : Int) ≤ p0.toInt ∧ p0.toInt ≤ 5) (hp1 : (0 : Int) ≤ p1.toInt ∧ p1.toInt ≤ 7) : ac_Mi l yX6_knownWhen (.code yX6_knownWhen cX6_knownWhen 6 (some .int) :: TB) 3 (dC, dI) vwCl (ac_ty cA) ad cA (TT nF) [.ref (ad 24), .int p0, .int p1] u0 (fun (r : Int32) (u : ac_U) => u = u0 ∧ ((-1 : Int) ≤ r.toInt ∧ r.toInt ≤ 487)) := by
  refine ac_Mi.of (cc := cX6_knownWhen) (maxL := 6) (ret := (some .int)) (by decide) rfl (Nat.le_of_ble_eq_true rfl) ?_
  intro p e s m below meth c A ls F hml hr hlocks hA hP hD hS hl
  have F : ac_X p s m [.ref (ad 24), .int p0, .int p1].toArray c cX6_knownWhen RX6 TB (dC, dI) vwCl (ac_ty cA) := ⟨F.1, F.2.1, fun w h => F.2.2.1 w (List.mem_cons_of_mem _ h), F.2.2.2.1, F.2.2.2.2⟩
  have hl : lv_has ls 6 [(0, .ref (ad 24)), (1, .int p0), (2, .int p1)] := hl
  have L34 : ∀ (n34 : Nat) (x3 : Int32) (x4 : Int32) (x5 : Int32) (H : Heap) (locs : List Loc) (ls : Array Slot), 8 - x5.toInt < (n34 : Int) → (0 : Int) ≤ x3.toInt ∧ x3.toInt ≤ 255 → (0 : Int) ≤ x5.toInt ∧ x5.toInt ≤ 8 → va_P (dC, dI) vwCl (ac_w ad cA (TT nF) u0) H → va_D A (ac_w ad cA (TT nF) u0) → va_S A s.heap H locs → lv_has ls 6 [(0, .ref (ad 24)), (1, .int p0), (2, .int p1), (3, .int x3), (4, .int x4), (5, .int x5)] → W p l e (ac_rm 3) s m [.ref (ad 24), .int p0, .int p1].toArray below meth c H locs 0 0 (MQ below (va_Qi (fun (r : Int32) (u : ac_U) => u = u0 ∧ ((-1 : Int) ≤ r.toInt ∧ r.toInt ≤ 487)) (ac_B (dC, dI) vwCl (ac_ty cA) ad cA (TT nF) A) A) [.ref (ad 24), .int p0, .int p1].toArray s 0 0 A) (F0 m 34 ls []) := by
    intro n34
    induction n34 with
    | zero => intro x3 x4 x5 H locs ls hn34 f0 f1 hP hD hS hl; exfalso; omega
    | succ n34 ih34 =>
      intro x3 x4 x5 H locs ls hn34 f0 f1 hP hD hS hl
      refine lv_iload F.1 F.2.1 dX6_knownWhen_34 (lv_at hl 5 rfl) ?_
      refine a_bp F (8 : Int32) dX6_knownWhen_36 (by decide) ?_
      refine b_ge F 91 dX6_knownWhen_38 (by decide) rfl ic_8 (fun c1 => ?_) (fun c1 => ?_)
      · refine a_ic F (-1 : Int32) dX6_knownWhen_91 (by decide) ?_
        exact a_reti F hr hlocks hP hD hS dX6_knownWhen_92 ⟨rfl, (by decide)⟩
      · refine lv_iload F.1 F.2.1 dX6_knownWhen_41 (lv_at hl 4 rfl) ?_
        refine lv_aload_n F.1 F.2.1 dX6_knownWhen_43 rfl (lv_at hl 0 rfl) ?_
        refine a_getr F inX6 hP 24 0 tc_24 rfl rfl (by decide) q271 (fun _ h9 => h9) dX6_knownWhen_44 ?_
        refine a_getr F inX2 hP 4 10 tc_4 rfl rfl (by decide) q192 (fun _ h9 => h9) dX6_knownWhen_47 ?_
        refine lv_iload_n F.1 F.2.1 dX6_knownWhen_50 rfl (lv_at hl 1 rfl) ?_
        refine a_iald F hP 6 tc_6 rfl (i_in rfl (by omega)) dX6_knownWhen_51 (fun v2 ev2 => ?_)
        have hv2 : (0 : Int) ≤ v2.toInt ∧ v2.toInt ≤ 7 := ev2 ▸ hR 6 _
        refine a_ishrU F dX6_knownWhen_52 (fun v3 => ?_)
        refine a_ic F (1 : Int32) dX6_knownWhen_53 (by decide) ?_
        refine a_iandM F dX6_knownWhen_54 ic_1 (by omega) (fun v4 hv4 => ?_)
        refine a_ic F (1 : Int32) dX6_knownWhen_55 (by decide) ?_
        refine b_ne F 72 dX6_knownWhen_56 (by decide) rfl ic_1 (fun c5 => ?_) (fun c5 => ?_)
        · refine lv_aload_n F.1 F.2.1 dX6_knownWhen_72 rfl (lv_at hl 0 rfl) ?_
          refine a_getr F inX6 hP 24 0 tc_24 rfl rfl (by decide) q271 (fun _ h9 => h9) dX6_knownWhen_73 ?_
          refine lv_iload F.1 F.2.1 dX6_knownWhen_76 (lv_at hl 4 rfl) ?_
          refine a_Vi F hml hl.1 hA hP hD hS (As := [.int x4]) (c_X2_spread_4 l dC dI ad cA nF _ x4 hR) (cs_RX6_108 (d := 1) F.2.2.1 (by decide)) tc_4 rfl rfl rfl rfl (Nat.le_of_ble_eq_true rfl) dX6_knownWhen_78 ⟨Nat.le_refl 0, Nat.le_refl 0⟩ (fun r6 uN6 H locs hq hP hD hS => ?_)
          have hu6 := hq
          rw [hu6] at hP hD
          refine lv_iload_n F.1 F.2.1 dX6_knownWhen_81 rfl (lv_at hl 3 rfl) ?_
          refine a_iandM F dX6_knownWhen_82 rfl (by omega) (fun v7 hv7 => ?_)
          refine lv_istore (lv' := [(4, .int v7), (0, .ref (ad 24)), (1, .int p0), (2, .int p1), (3, .int x3), (5, .int x5)]) F.1 F.2.1 dX6_knownWhen_83 hl (by decide) rfl (fun ls hl => ?_)
          refine a_iinc F (k := 5) (fun v8 => [(5, .int v8), (4, .int v7), (0, .ref (ad 24)), (1, .int p0), (2, .int p1), (3, .int x3)]) dX6_knownWhen_85 hl rfl rfl (by decide) (by omega) (by decide) (fun _ => rfl) (fun v8 ls hv8 hl => ?_)
          refine lv_goto (tgt := 34) F.1 F.2.1 dX6_knownWhen_88 (by decide) ?_
          exact ih34 x3 v7 v8 _ _ _ (by omega) (by omega) (by omega) hP hD hS (lv_sub hl [2, 3, 4, 5, 1, 0] rfl)
        · refine lv_aload_n F.1 F.2.1 dX6_knownWhen_59 rfl (lv_at hl 0 rfl) ?_
          refine a_getr F inX6 hP 24 1 tc_24 rfl rfl (by decide) q272 (fun _ h9 => h9) dX6_knownWhen_60 ?_
          refine a_bp F (15 : Int32) dX6_knownWhen_63 (by decide) ?_
          refine lv_iload_n F.1 F.2.1 dX6_knownWhen_65 rfl (lv_at hl 2 rfl) ?_
          refine a_iadd F dX6_knownWhen_66 ic_15 rfl (by omega) (fun v9 hv9 => ?_)
          refine a_iald F hP 25 tc_25 rfl (i_in rfl (by omega)) dX6_knownWhen_67 (fun v10 ev10 => ?_)
          have hv10 : (-1 : Int) ≤ v10.toInt ∧ v10.toInt ≤ 480 := rg_seg_25_15_22 hR ev10 (by omega)
          refine lv_iload F.1 F.2.1 dX6_knownWhen_68 (lv_at hl 5 rfl) ?_
          refine a_iadd F dX6_knownWhen_70 rfl rfl (by omega) (fun v11 hv11 => ?_)
          exact a_reti F hr hlocks hP hD hS dX6_knownWhen_71 ⟨rfl, (by omega : (-1 : Int) ≤ v11.toInt ∧ v11.toInt ≤ 487)⟩
  refine lv_aload_n F.1 F.2.1 dX6_knownWhen_0 rfl (lv_at hl 0 rfl) ?_
  refine lv_iload_n F.1 F.2.1 dX6_knownWhen_1 rfl (lv_at hl 2 rfl) ?_
  refine a_Vi F hml hl.1 hA hP hD hS (As := [.int p1]) (c_X6_isBound_24 l dC dI ad cA nF _ p1 hR (by omega)) (cs_RX6_102 (d := 2) F.2.2.1 (by decide)) tc_24 rfl rfl rfl rfl (Nat.le_of_ble_eq_true rfl) dX6_knownWhen_2 ⟨Nat.le_refl 0, Nat.le_refl 0⟩ (fun r12 uN12 H locs hq hP hD hS => ?_)
  obtain ⟨hu12, gr12⟩ := hq
  rw [hu12] at hP hD
  refine z_ne F 10 dX6_knownWhen_5 (by decide) rfl (fun c13 => ?_) (fun c13 => ?_)
  · refine lv_aload_n F.1 F.2.1 dX6_knownWhen_10 rfl (lv_at hl 0 rfl) ?_
    refine a_getr F inX6 hP 24 0 tc_24 rfl rfl (by decide) q271 (fun _ h9 => h9) dX6_knownWhen_11 ?_
    refine a_Vi F hml hl.1 hA hP hD hS (As := []) (c_X2_frogPlaces_4 l dC dI ad cA nF _  hR) (cs_RX6_96 (d := 1) F.2.2.1 (by decide)) tc_4 rfl rfl rfl rfl (Nat.le_of_ble_eq_true rfl) dX6_knownWhen_14 ⟨Nat.le_refl 0, Nat.le_refl 0⟩ (fun r14 uN14 H locs hq hP hD hS => ?_)
    obtain ⟨hu14, gr14⟩ := hq
    rw [hu14] at hP hD
    refine lv_istore_n (lv' := [(3, .int r14), (0, .ref (ad 24)), (1, .int p0), (2, .int p1)]) F.1 F.2.1 dX6_knownWhen_17 rfl hl (by decide) rfl (fun ls hl => ?_)
    refine a_ic F (1 : Int32) dX6_knownWhen_18 (by decide) ?_
    refine lv_aload_n F.1 F.2.1 dX6_knownWhen_19 rfl (lv_at hl 1 rfl) ?_
    refine a_getr F inX6 hP 24 1 tc_24 rfl rfl (by decide) q272 (fun _ h9 => h9) dX6_knownWhen_20 ?_
    refine a_bp F (23 : Int32) dX6_knownWhen_23 (by decide) ?_
    refine lv_iload_n F.1 F.2.1 dX6_knownWhen_25 rfl (lv_at hl 3 rfl) ?_
    refine a_iadd F dX6_knownWhen_26 ic_23 rfl (by omega) (fun v15 hv15 => ?_)
    refine a_iald F hP 25 tc_25 rfl (i_in rfl (by omega)) dX6_knownWhen_27 (fun v16 ev16 => ?_)
    refine a_ishlU F dX6_knownWhen_28 (fun v17 => ?_)
    refine lv_istore (lv' := [(4, .int v17), (3, .int r14), (0, .ref (ad 24)), (1, .int p0), (2, .int p1)]) F.1 F.2.1 dX6_knownWhen_29 hl (by decide) rfl (fun ls hl => ?_)
    refine a_ic F (0 : Int32) dX6_knownWhen_31 (by decide) ?_
    refine lv_istore (lv' := [(5, .int (0 : Int32)), (4, .int v17), (3, .int r14), (0, .ref (ad 24)), (1, .int p0), (2, .int p1)]) F.1 F.2.1 dX6_knownWhen_32 hl (by decide) rfl (fun ls hl => ?_)
    exact L34 10 r14 v17 (0 : Int32) _ _ _ (by decide) (by omega) (by decide) hP hD hS (lv_sub hl [3, 4, 5, 2, 1, 0] rfl)
  · refine a_ic F (-1 : Int32) dX6_knownWhen_8 (by decide) ?_
    exact a_reti F hr hlocks hP hD hS dX6_knownWhen_9 ⟨rfl, (by decide)⟩
set_option maxHeartbeats 600000 in
set_option maxRecDepth 100000 in
theorem c_X6_heardBits_24 (l : Launch) (dC : Nat → ClassId) (dI : Nat → Nat → Nat) (ad : Nat → Nat) (cA : Nat → ClassId) (nF : Nat) (u0 : ac_U) (p0 : Int32) (hR : ac_R rg u0) (hp0 : (0 : Int) ≤ p0.toInt ∧ p0.toInt ≤ 7) : ac_Mi l yX6_heardBits (.code yX6_heardBits cX6_heardBits 5 (some .int) :: TB) 4 (dC, dI) vwCl (ac_ty cA) ad cA (TT nF) [.ref (ad 24), .int p0] u0 (fun (r : Int32) (u : ac_U) => u = u0 ∧ ((0 : Int) ≤ r.toInt ∧ r.toInt ≤ 127)) := by
  refine ac_Mi.of (cc := cX6_heardBits) (maxL := 5) (ret := (some .int)) (by decide) rfl (Nat.le_of_ble_eq_true rfl) ?_
  intro p e s m below meth c A ls F hml hr hlocks hA hP hD hS hl
  have F : ac_X p s m [.ref (ad 24), .int p0].toArray c cX6_heardBits RX6 TB (dC, dI) vwCl (ac_ty cA) := ⟨F.1, F.2.1, fun w h => F.2.2.1 w (List.mem_cons_of_mem _ h), F.2.2.2.1, F.2.2.2.2⟩
  have hl : lv_has ls 5 [(0, .ref (ad 24)), (1, .int p0)] := hl
  have L4 : ∀ (n4 : Nat) (x2 : Int32) (x3 : Int32) (H : Heap) (locs : List Loc) (ls : Array Slot), 6 - x3.toInt < (n4 : Int) → (0 : Int) ≤ x2.toInt ∧ x2.toInt ≤ 127 → (0 : Int) ≤ x3.toInt ∧ x3.toInt ≤ 6 → va_P (dC, dI) vwCl (ac_w ad cA (TT nF) u0) H → va_D A (ac_w ad cA (TT nF) u0) → va_S A s.heap H locs → lv_has ls 5 [(0, .ref (ad 24)), (1, .int p0), (2, .int x2), (3, .int x3)] → W p l e (ac_rm 4) s m [.ref (ad 24), .int p0].toArray below meth c H locs 0 0 (MQ below (va_Qi (fun (r : Int32) (u : ac_U) => u = u0 ∧ ((0 : Int) ≤ r.toInt ∧ r.toInt ≤ 127)) (ac_B (dC, dI) vwCl (ac_ty cA) ad cA (TT nF) A) A) [.ref (ad 24), .int p0].toArray s 0 0 A) (F0 m 4 ls []) := by
    intro n4
    induction n4 with
    | zero => intro x2 x3 H locs ls hn4 f0 f1 hP hD hS hl; exfalso; omega
    | succ n4 ih4 =>
      intro x2 x3 H locs ls hn4 f0 f1 hP hD hS hl
      have L46 : ∀ (x2 : Int32) (x3 : Int32) (H : Heap) (locs : List Loc) (ls : Array Slot), (0 : Int) ≤ x2.toInt ∧ x2.toInt ≤ 127 → (0 : Int) ≤ x3.toInt ∧ x3.toInt ≤ 5 → (1 : Int) ≤ (u0.1 4 3).toInt ∧ (u0.1 4 3).toInt ≤ 6 → 6 - x3.toInt + 0 < ((n4 : Nat) : Int) + 1 → va_P (dC, dI) vwCl (ac_w ad cA (TT nF) u0) H → va_D A (ac_w ad cA (TT nF) u0) → va_S A s.heap H locs → lv_has ls 5 [(0, .ref (ad 24)), (1, .int p0), (2, .int x2), (3, .int x3)] → W p l e (ac_rm 4) s m [.ref (ad 24), .int p0].toArray below meth c H locs 0 0 (MQ below (va_Qi (fun (r : Int32) (u : ac_U) => u = u0 ∧ ((0 : Int) ≤ r.toInt ∧ r.toInt ≤ 127)) (ac_B (dC, dI) vwCl (ac_ty cA) ad cA (TT nF) A) A) [.ref (ad 24), .int p0].toArray s 0 0 A) (F0 m 46 ls []) := by
        intro x2 x3 H locs ls f0 f1 f2 f3 hP hD hS hl
        refine a_iinc F (k := 3) (fun v1 => [(3, .int v1), (0, .ref (ad 24)), (1, .int p0), (2, .int x2)]) dX6_heardBits_46 hl rfl rfl (by decide) (by omega) (by decide) (fun _ => rfl) (fun v1 ls hv1 hl => ?_)
        refine lv_goto (tgt := 4) F.1 F.2.1 dX6_heardBits_49 (by decide) ?_
        exact ih4 x2 v1 _ _ _ (by omega) (by omega) (by omega) hP hD hS (lv_sub hl [1, 2, 3, 0] rfl)
      refine lv_iload_n F.1 F.2.1 dX6_heardBits_4 rfl (lv_at hl 3 rfl) ?_
      refine lv_aload_n F.1 F.2.1 dX6_heardBits_5 rfl (lv_at hl 0 rfl) ?_
      refine a_getr F inX6 hP 24 0 tc_24 rfl rfl (by decide) q271 (fun _ h9 => h9) dX6_heardBits_6 ?_
      have g2 : (0 : Int) ≤ (u0.1 4 3).toInt ∧ (u0.1 4 3).toInt ≤ 6 := hR 4 3
      refine a_geti F inX2 hP 4 3 tc_4 rfl rfl (by decide) q167 (fun _ h9 => h9) (v := (u0.1 4 3)) rfl dX6_heardBits_9 ?_
      refine b_ge F 52 dX6_heardBits_12 (by decide) rfl rfl (fun c3 => ?_) (fun c3 => ?_)
      · refine lv_iload_n F.1 F.2.1 dX6_heardBits_52 rfl (lv_at hl 2 rfl) ?_
        exact a_reti F hr hlocks hP hD hS dX6_heardBits_53 ⟨rfl, (by omega : (0 : Int) ≤ x2.toInt ∧ x2.toInt ≤ 127)⟩
      · refine lv_aload_n F.1 F.2.1 dX6_heardBits_15 rfl (lv_at hl 0 rfl) ?_
        refine lv_iload_n F.1 F.2.1 dX6_heardBits_16 rfl (lv_at hl 3 rfl) ?_
        refine lv_iload_n F.1 F.2.1 dX6_heardBits_17 rfl (lv_at hl 1 rfl) ?_
        refine a_Vi F hml hl.1 hA hP hD hS (As := [.int x3, .int p0]) (c_X6_knownWhen_24 l dC dI ad cA nF _ x3 p0 hR (by omega) (by omega)) (cs_RX6_114 (d := 3) F.2.2.1 (by decide)) tc_24 rfl rfl rfl rfl (Nat.le_of_ble_eq_true rfl) dX6_heardBits_18 ⟨Nat.le_refl 0, Nat.le_refl 0⟩ (fun r4 uN4 H locs hq hP hD hS => ?_)
        obtain ⟨hu4, gr4⟩ := hq
        rw [hu4] at hP hD
        refine lv_istore (lv' := [(4, .int r4), (0, .ref (ad 24)), (1, .int p0), (2, .int x2), (3, .int x3)]) F.1 F.2.1 dX6_heardBits_21 hl (by decide) rfl (fun ls hl => ?_)
        refine lv_iload F.1 F.2.1 dX6_heardBits_23 (lv_at hl 0 rfl) ?_
        refine a_ic F (-1 : Int32) dX6_heardBits_25 (by decide) ?_
        refine b_eq F 46 dX6_heardBits_26 (by decide) rfl ic_m1 (fun c5 => ?_) (fun c5 => ?_)
        · exact L46 x2 x3 _ _ _ (by omega) (by omega) (by omega : (1 : Int) ≤ (u0.1 4 3).toInt ∧ (u0.1 4 3).toInt ≤ 6) (by omega) hP hD hS (lv_sub hl [1, 2, 3, 4] rfl)
        · refine lv_iload F.1 F.2.1 dX6_heardBits_29 (lv_at hl 0 rfl) ?_
          refine lv_aload_n F.1 F.2.1 dX6_heardBits_31 rfl (lv_at hl 1 rfl) ?_
          refine a_getr F inX6 hP 24 1 tc_24 rfl rfl (by decide) q272 (fun _ h9 => h9) dX6_heardBits_32 ?_
          refine a_ic F (0 : Int32) dX6_heardBits_35 (by decide) ?_
          have g6 : (0 : Int) ≤ (u0.1 25 0).toInt ∧ (u0.1 25 0).toInt ≤ 480 := hR 25 0
          refine a_ialdK F hP 25 0 tc_25 rfl rfl (i_in ic_0 (by omega)) (v := (u0.1 25 0)) rfl dX6_heardBits_36 ?_
          refine b_gt F 46 dX6_heardBits_37 (by decide) rfl rfl (fun c7 => ?_) (fun c7 => ?_)
          · exact L46 x2 x3 _ _ _ (by omega) (by omega) (by omega : (1 : Int) ≤ (u0.1 4 3).toInt ∧ (u0.1 4 3).toInt ≤ 6) (by omega) hP hD hS (lv_sub hl [1, 2, 3, 4] rfl)
          · refine lv_iload_n F.1 F.2.1 dX6_heardBits_40 rfl (lv_at hl 3 rfl) ?_
            refine a_ic F (1 : Int32) dX6_heardBits_41 (by decide) ?_
            refine lv_iload_n F.1 F.2.1 dX6_heardBits_42 rfl (lv_at hl 4 rfl) ?_
            refine a_ishl1 F dX6_heardBits_43 rfl (lo := 0) (hi := 5) (by omega) (by decide) (fun v8 hv8 => ?_)
            have hv8 : (1 : Int) ≤ v8.toInt ∧ v8.toInt ≤ 32 := hv8
            refine a_iorB F dX6_heardBits_44 rfl rfl (n := 7) (m' := 128) rfl (by decide) (by omega) (by omega) (fun v9 hv9 => ?_)
            refine lv_istore_n (lv' := [(2, .int v9), (4, .int r4), (0, .ref (ad 24)), (1, .int p0), (3, .int x3)]) F.1 F.2.1 dX6_heardBits_45 rfl hl (by decide) rfl (fun ls hl => ?_)
            exact L46 v9 x3 _ _ _ (by omega) (by omega) (by omega : (1 : Int) ≤ (u0.1 4 3).toInt ∧ (u0.1 4 3).toInt ≤ 6) (by omega) hP hD hS (lv_sub hl [2, 3, 0, 4] rfl)
  refine a_ic F (0 : Int32) dX6_heardBits_0 (by decide) ?_
  refine lv_istore_n (lv' := [(2, .int (0 : Int32)), (0, .ref (ad 24)), (1, .int p0)]) F.1 F.2.1 dX6_heardBits_1 rfl hl (by decide) rfl (fun ls hl => ?_)
  refine a_ic F (0 : Int32) dX6_heardBits_2 (by decide) ?_
  refine lv_istore_n (lv' := [(3, .int (0 : Int32)), (2, .int (0 : Int32)), (0, .ref (ad 24)), (1, .int p0)]) F.1 F.2.1 dX6_heardBits_3 rfl hl (by decide) rfl (fun ls hl => ?_)
  exact L4 8 (0 : Int32) (0 : Int32) _ _ _ (by decide) (by decide) (by decide) hP hD hS (lv_sub hl [2, 3, 1, 0] rfl)
set_option maxHeartbeats 600000 in
set_option maxRecDepth 100000 in
theorem c_X6_remember_24 (l : Launch) (dC : Nat → ClassId) (dI : Nat → Nat → Nat) (ad : Nat → Nat) (cA : Nat → ClassId) (nF : Nat) (u0 : ac_U)  (hR : ac_R rg u0) : ac_Mv l yX6_remember (.code yX6_remember cX6_remember 1 none :: TB) 1 (dC, dI) vwCl (ac_ty cA) ad cA (TT nF) [.ref (ad 24)] u0 (fun (u : ac_U) => ac_R rg u ∧ ac_Fr [(24, some 5), (24, some 6), (28, none)] u0 u) := by
  refine ac_Mv.of (cc := cX6_remember) (maxL := 1) (ret := none) (by decide) rfl (Nat.le_of_ble_eq_true rfl) ?_
  intro p e s m below meth c A ls F hml hr hlocks hA hP hD hS hl
  have F : ac_X p s m [.ref (ad 24)].toArray c cX6_remember RX6 TB (dC, dI) vwCl (ac_ty cA) := ⟨F.1, F.2.1, fun w h => F.2.2.1 w (List.mem_cons_of_mem _ h), F.2.2.2.1, F.2.2.2.2⟩
  have hl : lv_has ls 1 [(0, .ref (ad 24))] := hl
  have hF : ac_Fr [(24, some 5), (24, some 6), (28, none)] u0 u0 := ac_Fr.rf
  refine lv_aload_n F.1 F.2.1 dX6_remember_0 rfl (lv_at hl 0 rfl) ?_
  refine a_getr F inX6 hP 24 1 tc_24 rfl rfl (by decide) q272 (fun _ h9 => h9) dX6_remember_1 ?_
  refine a_ic F (0 : Int32) dX6_remember_4 (by decide) ?_
  refine lv_aload_n F.1 F.2.1 dX6_remember_5 rfl (lv_at hl 0 rfl) ?_
  refine a_getr F inX6 hP 24 4 tc_24 rfl rfl (by decide) q281 (fun _ h9 => h9) dX6_remember_6 ?_
  refine lv_aload_n F.1 F.2.1 dX6_remember_9 rfl (lv_at hl 0 rfl) ?_
  have g1 : (0 : Int) ≤ (u0.1 24 6).toInt ∧ (u0.1 24 6).toInt ≤ 7 := hR 24 6
  refine a_geti F inX6 hP 24 6 tc_24 rfl rfl (by decide) q284 (fun _ h9 => h9) (v := (u0.1 24 6)) rfl dX6_remember_10 ?_
  refine a_bp F (31 : Int32) dX6_remember_13 (by decide) ?_
  refine a_imul F dX6_remember_15 rfl ic_31 (by omega) (fun v2 hv2 => ?_)
  refine a_bp F (31 : Int32) dX6_remember_16 (by decide) ?_
  refine a_cpyi F (hml.trans hl.1.symm) q730 q708 q707 q19 hP hD hS 25 28 tc_25 tc_28 rfl (by decide) (by omega) (by decide) (by simp only [ic_0, ic_31]; omega) (by simp only [ic_0, ic_31]; omega) (by decide) (by decide) dX6_remember_18 (fun H locs hP hD hS => ?_)
  have hR := hR.cp (c0 := 25) (c1 := 28) (sp := (0 : Int32).toNatClampNeg) (dp := v2.toNatClampNeg) (n := (31 : Int32).toNatClampNeg) (cp_past1 (q := (u0.1 24 6).toInt) (by omega) (by omega))
  have hF := hF.cp (c0 := 25) (c1 := 28) (sp := (0 : Int32).toNatClampNeg) (dp := v2.toNatClampNeg) (n := (31 : Int32).toNatClampNeg) (fun _ => rfl)
  refine lv_aload_n F.1 F.2.1 dX6_remember_21 rfl (lv_at hl 0 rfl) ?_
  refine lv_aload_n F.1 F.2.1 dX6_remember_22 rfl (lv_at hl 0 rfl) ?_
  refine a_geti F inX6 hP 24 6 tc_24 rfl rfl (by decide) q284 (fun _ h9 => h9) (v := (u0.1 24 6)) (rfl) dX6_remember_23 ?_
  refine a_ic F (1 : Int32) dX6_remember_26 (by decide) ?_
  refine a_iadd F dX6_remember_27 rfl ic_1 (by omega) (fun v3 hv3 => ?_)
  refine a_bp F (8 : Int32) dX6_remember_28 (by decide) ?_
  refine a_irem F dX6_remember_30 rfl ic_8 (by omega) (fun v4 hv4 => ?_)
  refine a_puti F inX6 tyX6 tyX6_ok nmX6 hP hD hS 24 6 tc_24 rfl rfl (by decide) q284 (fun _ h9 => h9) rfl (ty := .int) (tyX6_ok 6 (by decide)) rfl rfl dX6_remember_31 (fun H locs hP hD hS => ?_)
  have hR := hR.si (c := 24) (k := 6) (v := v4) (by omega : (0 : Int) ≤ v4.toInt ∧ v4.toInt ≤ 7)
  have hF := hF.si (c := 24) (k := 6) (v := v4) rfl
  refine lv_aload_n F.1 F.2.1 dX6_remember_34 rfl (lv_at hl 0 rfl) ?_
  refine lv_aload_n F.1 F.2.1 dX6_remember_35 rfl (lv_at hl 0 rfl) ?_
  have g5 : (0 : Int) ≤ (u0.1 24 5).toInt ∧ (u0.1 24 5).toInt ≤ 8 := hR 24 5
  refine a_geti F inX6 hP 24 5 tc_24 rfl rfl (by decide) q282 (fun _ h9 => h9) (v := (u0.1 24 5)) rfl dX6_remember_36 ?_
  refine a_ic F (1 : Int32) dX6_remember_39 (by decide) ?_
  refine a_iadd F dX6_remember_40 rfl ic_1 (by omega) (fun v6 hv6 => ?_)
  refine a_bp F (8 : Int32) dX6_remember_41 (by decide) ?_
  refine va_mmin F.1 F.2.1 (hml.trans hl.1.symm) F.2.2.2.1 (F.2.2.1 _ q882) (F.2.2.1 _ q825) (F.2.2.1 _ q24) (F.2.2.1 _ q826) (by decide) (Nat.le_of_ble_eq_true rfl) (Nat.le_refl 0) (Nat.le_refl 0) dX6_remember_43 ?_
  refine lv_topi (fun v7 ev7 => ?_)
  have hv7 := i_min rfl ic_8 ev7
  refine a_puti F inX6 tyX6 tyX6_ok nmX6 hP hD hS 24 5 tc_24 rfl rfl (by decide) q282 (fun _ h9 => h9) rfl (ty := .int) (tyX6_ok 5 (by decide)) rfl rfl dX6_remember_46 (fun H locs hP hD hS => ?_)
  have hR := hR.si (c := 24) (k := 5) (v := v7) (by omega : (0 : Int) ≤ v7.toInt ∧ v7.toInt ≤ 8)
  have hF := hF.si (c := 24) (k := 5) (v := v7) rfl
  exact a_retv F hr hlocks hP hD hS dX6_remember_49 ⟨hR, hF⟩
set_option maxHeartbeats 600000 in
set_option maxRecDepth 100000 in
theorem c_X6_saidCount_24 (l : Launch) (dC : Nat → ClassId) (dI : Nat → Nat → Nat) (ad : Nat → Nat) (cA : Nat → ClassId) (nF : Nat) (u0 : ac_U)  (hR : ac_R rg u0) : ac_Mi l yX6_saidCount (.code yX6_saidCount cX6_saidCount 3 (some .int) :: TB) 2 (dC, dI) vwCl (ac_ty cA) ad cA (TT nF) [.ref (ad 24)] u0 (fun (r : Int32) (u : ac_U) => u = u0) := by
  refine ac_Mi.of (cc := cX6_saidCount) (maxL := 3) (ret := (some .int)) (by decide) rfl (Nat.le_of_ble_eq_true rfl) ?_
  intro p e s m below meth c A ls F hml hr hlocks hA hP hD hS hl
  have F : ac_X p s m [.ref (ad 24)].toArray c cX6_saidCount RX6 TB (dC, dI) vwCl (ac_ty cA) := ⟨F.1, F.2.1, fun w h => F.2.2.1 w (List.mem_cons_of_mem _ h), F.2.2.2.1, F.2.2.2.2⟩
  have hl : lv_has ls 3 [(0, .ref (ad 24))] := hl
  have L4 : ∀ (n4 : Nat) (x1 : Int32) (x2 : Int32) (H : Heap) (locs : List Loc) (ls : Array Slot), 8 - x2.toInt < (n4 : Int) → (0 : Int) ≤ x2.toInt ∧ x2.toInt ≤ 8 → va_P (dC, dI) vwCl (ac_w ad cA (TT nF) u0) H → va_D A (ac_w ad cA (TT nF) u0) → va_S A s.heap H locs → lv_has ls 3 [(0, .ref (ad 24)), (1, .int x1), (2, .int x2)] → W p l e (ac_rm 2) s m [.ref (ad 24)].toArray below meth c H locs 0 0 (MQ below (va_Qi (fun (r : Int32) (u : ac_U) => u = u0) (ac_B (dC, dI) vwCl (ac_ty cA) ad cA (TT nF) A) A) [.ref (ad 24)].toArray s 0 0 A) (F0 m 4 ls []) := by
    intro n4
    induction n4 with
    | zero => intro x1 x2 H locs ls hn4 f0 hP hD hS hl; exfalso; omega
    | succ n4 ih4 =>
      intro x1 x2 H locs ls hn4 f0 hP hD hS hl
      have L29 : ∀ (x2 : Int32) (z0 : Int32) (z1 : Int32) (H : Heap) (locs : List Loc) (ls : Array Slot), (0 : Int) ≤ x2.toInt ∧ x2.toInt ≤ 7 → (0 : Int) ≤ z1.toInt ∧ z1.toInt ≤ 1 → (1 : Int) ≤ (u0.1 4 6).toInt ∧ (u0.1 4 6).toInt ≤ 8 → 8 - x2.toInt + 0 < ((n4 : Nat) : Int) + 1 → va_P (dC, dI) vwCl (ac_w ad cA (TT nF) u0) H → va_D A (ac_w ad cA (TT nF) u0) → va_S A s.heap H locs → lv_has ls 3 [(0, .ref (ad 24)), (2, .int x2)] → W p l e (ac_rm 2) s m [.ref (ad 24)].toArray below meth c H locs 0 0 (MQ below (va_Qi (fun (r : Int32) (u : ac_U) => u = u0) (ac_B (dC, dI) vwCl (ac_ty cA) ad cA (TT nF) A) A) [.ref (ad 24)].toArray s 0 0 A) (F0 m 29 ls [.int z1, .int z0]) := by
        intro x2 z0 z1 H locs ls f0 f1 f2 f3 hP hD hS hl
        refine a_iaddU F dX6_saidCount_29 (fun v1 => ?_)
        refine lv_istore_n (lv' := [(1, .int v1), (0, .ref (ad 24)), (2, .int x2)]) F.1 F.2.1 dX6_saidCount_30 rfl hl (by decide) rfl (fun ls hl => ?_)
        refine a_iinc F (k := 2) (fun v2 => [(2, .int v2), (1, .int v1), (0, .ref (ad 24))]) dX6_saidCount_31 hl rfl rfl (by decide) (by omega) (by decide) (fun _ => rfl) (fun v2 ls hv2 hl => ?_)
        refine lv_goto (tgt := 4) F.1 F.2.1 dX6_saidCount_34 (by decide) ?_
        exact ih4 v1 v2 _ _ _ (by omega) (by omega) hP hD hS (lv_sub hl [2, 1, 0] rfl)
      refine lv_iload_n F.1 F.2.1 dX6_saidCount_4 rfl (lv_at hl 2 rfl) ?_
      refine lv_aload_n F.1 F.2.1 dX6_saidCount_5 rfl (lv_at hl 0 rfl) ?_
      refine a_getr F inX6 hP 24 0 tc_24 rfl rfl (by decide) q271 (fun _ h9 => h9) dX6_saidCount_6 ?_
      have g3 : (0 : Int) ≤ (u0.1 4 6).toInt ∧ (u0.1 4 6).toInt ≤ 8 := hR 4 6
      refine a_geti F inX2 hP 4 6 tc_4 rfl rfl (by decide) q183 (fun _ h9 => h9) (v := (u0.1 4 6)) rfl dX6_saidCount_9 ?_
      refine b_ge F 37 dX6_saidCount_12 (by decide) rfl rfl (fun c4 => ?_) (fun c4 => ?_)
      · refine lv_iload_n F.1 F.2.1 dX6_saidCount_37 rfl (lv_at hl 1 rfl) ?_
        exact a_reti F hr hlocks hP hD hS dX6_saidCount_38 rfl
      · refine lv_iload_n F.1 F.2.1 dX6_saidCount_15 rfl (lv_at hl 1 rfl) ?_
        refine lv_aload_n F.1 F.2.1 dX6_saidCount_16 rfl (lv_at hl 0 rfl) ?_
        refine lv_iload_n F.1 F.2.1 dX6_saidCount_17 rfl (lv_at hl 2 rfl) ?_
        refine a_Vi F hml hl.1 hA hP hD hS (As := [.int x2]) (c_X6_isSaid_24 l dC dI ad cA nF _ x2 hR (by omega)) (cs_RX6_93 (d := 1) F.2.2.1 (by decide)) tc_24 rfl rfl rfl rfl (Nat.le_of_ble_eq_true rfl) dX6_saidCount_18 ⟨Nat.le_refl 0, Nat.le_refl 0⟩ (fun r5 uN5 H locs hq hP hD hS => ?_)
        obtain ⟨hu5, gr5⟩ := hq
        rw [hu5] at hP hD
        refine z_eq F 28 dX6_saidCount_21 (by decide) rfl (fun c6 => ?_) (fun c6 => ?_)
        · refine a_ic F (0 : Int32) dX6_saidCount_28 (by decide) ?_
          exact L29 x2 x1 (0 : Int32) _ _ _ (by omega) (by decide) (by omega : (1 : Int) ≤ (u0.1 4 6).toInt ∧ (u0.1 4 6).toInt ≤ 8) (by omega) hP hD hS (lv_sub hl [0, 2] rfl)
        · refine a_ic F (1 : Int32) dX6_saidCount_24 (by decide) ?_
          refine lv_goto (tgt := 29) F.1 F.2.1 dX6_saidCount_25 (by decide) ?_
          exact L29 x2 x1 (1 : Int32) _ _ _ (by omega) (by decide) (by omega : (1 : Int) ≤ (u0.1 4 6).toInt ∧ (u0.1 4 6).toInt ≤ 8) (by omega) hP hD hS (lv_sub hl [0, 2] rfl)
  refine a_ic F (0 : Int32) dX6_saidCount_0 (by decide) ?_
  refine lv_istore_n (lv' := [(1, .int (0 : Int32)), (0, .ref (ad 24))]) F.1 F.2.1 dX6_saidCount_1 rfl hl (by decide) rfl (fun ls hl => ?_)
  refine a_ic F (0 : Int32) dX6_saidCount_2 (by decide) ?_
  refine lv_istore_n (lv' := [(2, .int (0 : Int32)), (1, .int (0 : Int32)), (0, .ref (ad 24))]) F.1 F.2.1 dX6_saidCount_3 rfl hl (by decide) rfl (fun ls hl => ?_)
  exact L4 10 (0 : Int32) (0 : Int32) _ _ _ (by decide) (by decide) hP hD hS (lv_sub hl [2, 1, 0] rfl)
set_option maxHeartbeats 600000 in
set_option maxRecDepth 100000 in
theorem c_X6_setAside_24 (l : Launch) (dC : Nat → ClassId) (dI : Nat → Nat → Nat) (ad : Nat → Nat) (cA : Nat → ClassId) (nF : Nat) (u0 : ac_U)  (hR : ac_R rg u0) : ac_Mv l yX6_setAside (.code yX6_setAside cX6_setAside 1 none :: TB) 1 (dC, dI) vwCl (ac_ty cA) ad cA (TT nF) [.ref (ad 24)] u0 (fun (u : ac_U) => ac_R rg u ∧ ac_Fr [(27, none)] u0 u) := by
  refine ac_Mv.of (cc := cX6_setAside) (maxL := 1) (ret := none) (by decide) rfl (Nat.le_of_ble_eq_true rfl) ?_
  intro p e s m below meth c A ls F hml hr hlocks hA hP hD hS hl
  have F : ac_X p s m [.ref (ad 24)].toArray c cX6_setAside RX6 TB (dC, dI) vwCl (ac_ty cA) := ⟨F.1, F.2.1, fun w h => F.2.2.1 w (List.mem_cons_of_mem _ h), F.2.2.2.1, F.2.2.2.2⟩
  have hl : lv_has ls 1 [(0, .ref (ad 24))] := hl
  have hF : ac_Fr [(27, none)] u0 u0 := ac_Fr.rf
  refine lv_aload_n F.1 F.2.1 dX6_setAside_0 rfl (lv_at hl 0 rfl) ?_
  refine a_getr F inX6 hP 24 1 tc_24 rfl rfl (by decide) q272 (fun _ h9 => h9) dX6_setAside_1 ?_
  refine a_ic F (0 : Int32) dX6_setAside_4 (by decide) ?_
  refine lv_aload_n F.1 F.2.1 dX6_setAside_5 rfl (lv_at hl 0 rfl) ?_
  refine a_getr F inX6 hP 24 3 tc_24 rfl rfl (by decide) q280 (fun _ h9 => h9) dX6_setAside_6 ?_
  refine a_ic F (0 : Int32) dX6_setAside_9 (by decide) ?_
  refine a_bp F (31 : Int32) dX6_setAside_10 (by decide) ?_
  refine a_cpyi F (hml.trans hl.1.symm) q730 q708 q707 q19 hP hD hS 25 27 tc_25 tc_27 rfl (by decide) (by decide) (by decide) (by simp only [ic_0, ic_31]; omega) (by simp only [ic_0, ic_31]; omega) (by decide) (by decide) dX6_setAside_12 (fun H locs hP hD hS => ?_)
  have hR := hR.cp (c0 := 25) (c1 := 27) (sp := (0 : Int32).toNatClampNeg) (dp := (0 : Int32).toNatClampNeg) (n := (31 : Int32).toNatClampNeg) (by decide +kernel)
  have hF := hF.cp (c0 := 25) (c1 := 27) (sp := (0 : Int32).toNatClampNeg) (dp := (0 : Int32).toNatClampNeg) (n := (31 : Int32).toNatClampNeg) (fun _ => rfl)
  exact a_retv F hr hlocks hP hD hS dX6_setAside_15 ⟨hR, hF⟩
set_option maxHeartbeats 600000 in
set_option maxRecDepth 100000 in
theorem c_X6_takeBack_24 (l : Launch) (dC : Nat → ClassId) (dI : Nat → Nat → Nat) (ad : Nat → Nat) (cA : Nat → ClassId) (nF : Nat) (u0 : ac_U)  (hR : ac_R rg u0) : ac_Mv l yX6_takeBack (.code yX6_takeBack cX6_takeBack 1 none :: TB) 1 (dC, dI) vwCl (ac_ty cA) ad cA (TT nF) [.ref (ad 24)] u0 (fun (u : ac_U) => ac_R rg u ∧ ac_Fr [(25, none)] u0 u) := by
  refine ac_Mv.of (cc := cX6_takeBack) (maxL := 1) (ret := none) (by decide) rfl (Nat.le_of_ble_eq_true rfl) ?_
  intro p e s m below meth c A ls F hml hr hlocks hA hP hD hS hl
  have F : ac_X p s m [.ref (ad 24)].toArray c cX6_takeBack RX6 TB (dC, dI) vwCl (ac_ty cA) := ⟨F.1, F.2.1, fun w h => F.2.2.1 w (List.mem_cons_of_mem _ h), F.2.2.2.1, F.2.2.2.2⟩
  have hl : lv_has ls 1 [(0, .ref (ad 24))] := hl
  have hF : ac_Fr [(25, none)] u0 u0 := ac_Fr.rf
  refine lv_aload_n F.1 F.2.1 dX6_takeBack_0 rfl (lv_at hl 0 rfl) ?_
  refine a_getr F inX6 hP 24 3 tc_24 rfl rfl (by decide) q280 (fun _ h9 => h9) dX6_takeBack_1 ?_
  refine a_ic F (0 : Int32) dX6_takeBack_4 (by decide) ?_
  refine lv_aload_n F.1 F.2.1 dX6_takeBack_5 rfl (lv_at hl 0 rfl) ?_
  refine a_getr F inX6 hP 24 1 tc_24 rfl rfl (by decide) q272 (fun _ h9 => h9) dX6_takeBack_6 ?_
  refine a_ic F (0 : Int32) dX6_takeBack_9 (by decide) ?_
  refine a_bp F (31 : Int32) dX6_takeBack_10 (by decide) ?_
  refine a_cpyi F (hml.trans hl.1.symm) q730 q708 q707 q19 hP hD hS 27 25 tc_27 tc_25 rfl (by decide) (by decide) (by decide) (by simp only [ic_0, ic_31]; omega) (by simp only [ic_0, ic_31]; omega) (by decide) (by decide) dX6_takeBack_12 (fun H locs hP hD hS => ?_)
  have hR := hR.cp (c0 := 27) (c1 := 25) (sp := (0 : Int32).toNatClampNeg) (dp := (0 : Int32).toNatClampNeg) (n := (31 : Int32).toNatClampNeg) (by decide +kernel)
  have hF := hF.cp (c0 := 27) (c1 := 25) (sp := (0 : Int32).toNatClampNeg) (dp := (0 : Int32).toNatClampNeg) (n := (31 : Int32).toNatClampNeg) (fun _ => rfl)
  exact a_retv F hr hlocks hP hD hS dX6_takeBack_15 ⟨hR, hF⟩
set_option maxHeartbeats 600000 in
set_option maxRecDepth 100000 in
theorem c_X7_afterDeed (l : Launch) (dC : Nat → ClassId) (dI : Nat → Nat → Nat) (ad : Nat → Nat) (cA : Nat → ClassId) (nF : Nat) (u0 : ac_U) (p0 : Int32) (p1 : Int32) (hR : ac_R rg u0) (hp0 : (0 : Int) ≤ p0.toInt ∧ p0.toInt ≤ 255) (hp1 : (0 : Int) ≤ p1.toInt ∧ p1.toInt ≤ 85) (hE0 : bits4 p1.toInt) : ac_Mi l yX7_afterDeed (.code yX7_afterDeed cX7_afterDeed 2 (some .int) :: TB) 1 (dC, dI) vwCl (ac_ty cA) ad cA (TT nF) [.int p0, .int p1] u0 (fun (r : Int32) (u : ac_U) => u = u0 ∧ ((0 : Int) ≤ r.toInt ∧ r.toInt ≤ 255)) := by
  refine ac_Mi.of (cc := cX7_afterDeed) (maxL := 2) (ret := (some .int)) (by decide) rfl (Nat.le_of_ble_eq_true rfl) ?_
  intro p e s m below meth c A ls F hml hr hlocks hA hP hD hS hl
  have F : ac_X p s m [.int p0, .int p1].toArray c cX7_afterDeed RX7 TB (dC, dI) vwCl (ac_ty cA) := ⟨F.1, F.2.1, fun w h => F.2.2.1 w (List.mem_cons_of_mem _ h), F.2.2.2.1, F.2.2.2.2⟩
  have hl : lv_has ls 2 [(0, .int p0), (1, .int p1)] := hl
  refine lv_iload_n F.1 F.2.1 dX7_afterDeed_0 rfl (lv_at hl 0 rfl) ?_
  refine lv_iload_n F.1 F.2.1 dX7_afterDeed_1 rfl (lv_at hl 0 rfl) ?_
  refine lv_iload_n F.1 F.2.1 dX7_afterDeed_2 rfl (lv_at hl 0 rfl) ?_
  refine a_ic F (1 : Int32) dX7_afterDeed_3 (by decide) ?_
  refine lv_ishr F.1 F.2.1 dX7_afterDeed_4 ?_
  refine lv_ior F.1 F.2.1 dX7_afterDeed_5 ?_
  refine lv_iload_n F.1 F.2.1 dX7_afterDeed_6 rfl (lv_at hl 1 rfl) ?_
  refine lv_iand F.1 F.2.1 dX7_afterDeed_7 ?_
  refine lv_isub F.1 F.2.1 dX7_afterDeed_8 ?_
  exact a_reti F hr hlocks hP hD hS dX7_afterDeed_9 ⟨rfl, (ev_ad (by omega) hE0)⟩
set_option maxHeartbeats 600000 in
set_option maxRecDepth 100000 in
theorem c_X7_cell (l : Launch) (dC : Nat → ClassId) (dI : Nat → Nat → Nat) (ad : Nat → Nat) (cA : Nat → ClassId) (nF : Nat) (u0 : ac_U) (p0 : Int32) (p1 : Int32) (p2 : Int32) (hR : ac_R rg u0) (hp0 : (0 : Int) ≤ p0.toInt ∧ p0.toInt ≤ 24) (hp1 : (0 : Int) ≤ p1.toInt ∧ p1.toInt ≤ 7) (hp2 : (0 : Int) ≤ p2.toInt ∧ p2.toInt ≤ 255) : ac_Mi l yX7_cell (.code yX7_cell cX7_cell 3 (some .int) :: TB) 1 (dC, dI) vwCl (ac_ty cA) ad cA (TT nF) [.int p0, .int p1, .int p2] u0 (fun (r : Int32) (u : ac_U) => u = u0 ∧ ((0 : Int) ≤ r.toInt ∧ r.toInt ≤ 51199) ∧ (r.toInt = 2048 * p0.toInt + 256 * p1.toInt + p2.toInt)) := by
  refine ac_Mi.of (cc := cX7_cell) (maxL := 3) (ret := (some .int)) (by decide) rfl (Nat.le_of_ble_eq_true rfl) ?_
  intro p e s m below meth c A ls F hml hr hlocks hA hP hD hS hl
  have F : ac_X p s m [.int p0, .int p1, .int p2].toArray c cX7_cell RX7 TB (dC, dI) vwCl (ac_ty cA) := ⟨F.1, F.2.1, fun w h => F.2.2.1 w (List.mem_cons_of_mem _ h), F.2.2.2.1, F.2.2.2.2⟩
  have hl : lv_has ls 3 [(0, .int p0), (1, .int p1), (2, .int p2)] := hl
  refine lv_iload_n F.1 F.2.1 dX7_cell_0 rfl (lv_at hl 0 rfl) ?_
  refine a_sp F (2048 : Int32) dX7_cell_1 (by decide) ?_
  refine a_imul F dX7_cell_4 rfl ic_2048 (by omega) (fun v1 hv1 => ?_)
  refine lv_iload_n F.1 F.2.1 dX7_cell_5 rfl (lv_at hl 1 rfl) ?_
  refine a_sp F (256 : Int32) dX7_cell_6 (by decide) ?_
  refine a_imul F dX7_cell_9 rfl ic_256 (by omega) (fun v2 hv2 => ?_)
  refine a_iadd F dX7_cell_10 rfl rfl (by omega) (fun v3 hv3 => ?_)
  refine lv_iload_n F.1 F.2.1 dX7_cell_11 rfl (lv_at hl 2 rfl) ?_
  refine a_iadd F dX7_cell_12 rfl rfl (by omega) (fun v4 hv4 => ?_)
  exact a_reti F hr hlocks hP hD hS dX7_cell_13 ⟨rfl, (by omega : (0 : Int) ≤ v4.toInt ∧ v4.toInt ≤ 51199), (by omega : v4.toInt = 2048 * p0.toInt + 256 * p1.toInt + p2.toInt)⟩
set_option maxHeartbeats 600000 in
set_option maxRecDepth 100000 in
theorem c_X7_countedFor_32 (l : Launch) (dC : Nat → ClassId) (dI : Nat → Nat → Nat) (ad : Nat → Nat) (cA : Nat → ClassId) (nF : Nat) (u0 : ac_U) (p0 : Int32) (p1 : Int32) (p2 : Int32) (hR : ac_R rg u0) (hp0 : (0 : Int) ≤ p0.toInt ∧ p0.toInt ≤ 23) (hp1 : (0 : Int) ≤ p1.toInt ∧ p1.toInt ≤ 7) : ac_Mi l yX7_countedFor (.code yX7_countedFor cX7_countedFor 7 (some .int) :: TB) 2 (dC, dI) vwCl (ac_ty cA) ad cA (TT nF) [.ref (ad 32), .int p0, .int p1, .int p2] u0 (fun (r : Int32) (u : ac_U) => u = u0 ∧ ((0 : Int) ≤ r.toInt ∧ r.toInt ≤ 85) ∧ (bits4 r.toInt)) := by
  refine ac_Mi.of (cc := cX7_countedFor) (maxL := 7) (ret := (some .int)) (by decide) rfl (Nat.le_of_ble_eq_true rfl) ?_
  intro p e s m below meth c A ls F hml hr hlocks hA hP hD hS hl
  have F : ac_X p s m [.ref (ad 32), .int p0, .int p1, .int p2].toArray c cX7_countedFor RX7 TB (dC, dI) vwCl (ac_ty cA) := ⟨F.1, F.2.1, fun w h => F.2.2.1 w (List.mem_cons_of_mem _ h), F.2.2.2.1, F.2.2.2.2⟩
  have hl : lv_has ls 7 [(0, .ref (ad 32)), (1, .int p0), (2, .int p1), (3, .int p2)] := hl
  have L6 : ∀ (n6 : Nat) (x4 : Int32) (x5 : Int32) (H : Heap) (locs : List Loc) (ls : Array Slot), 4 - x5.toInt < (n6 : Int) → (fun _ => bits4 x4.toInt) u0 → (0 : Int) ≤ x4.toInt ∧ x4.toInt ≤ 127 → (0 : Int) ≤ x5.toInt ∧ x5.toInt ≤ 4 → va_P (dC, dI) vwCl (ac_w ad cA (TT nF) u0) H → va_D A (ac_w ad cA (TT nF) u0) → va_S A s.heap H locs → lv_has ls 7 [(0, .ref (ad 32)), (1, .int p0), (2, .int p1), (3, .int p2), (4, .int x4), (5, .int x5)] → W p l e (ac_rm 2) s m [.ref (ad 32), .int p0, .int p1, .int p2].toArray below meth c H locs 0 0 (MQ below (va_Qi (fun (r : Int32) (u : ac_U) => u = u0 ∧ ((0 : Int) ≤ r.toInt ∧ r.toInt ≤ 85) ∧ (bits4 r.toInt)) (ac_B (dC, dI) vwCl (ac_ty cA) ad cA (TT nF) A) A) [.ref (ad 32), .int p0, .int p1, .int p2].toArray s 0 0 A) (F0 m 6 ls []) := by
    intro n6
    induction n6 with
    | zero => intro x4 x5 H locs ls hn6 hK_EV f0 f1 hP hD hS hl; exfalso; omega
    | succ n6 ih6 =>
      intro x4 x5 H locs ls hn6 hK_EV f0 f1 hP hD hS hl
      have L91 : ∀ (x4 : Int32) (x5 : Int32) (H : Heap) (locs : List Loc) (ls : Array Slot), (fun _ => bits4 x4.toInt) u0 → (0 : Int) ≤ x4.toInt ∧ x4.toInt ≤ 127 → (0 : Int) ≤ x5.toInt ∧ x5.toInt ≤ 3 → (1 : Int) ≤ (u0.1 32 8).toInt ∧ (u0.1 32 8).toInt ≤ 4 → 4 - x5.toInt + 0 < ((n6 : Nat) : Int) + 1 → va_P (dC, dI) vwCl (ac_w ad cA (TT nF) u0) H → va_D A (ac_w ad cA (TT nF) u0) → va_S A s.heap H locs → lv_has ls 7 [(0, .ref (ad 32)), (1, .int p0), (2, .int p1), (3, .int p2), (4, .int x4), (5, .int x5)] → W p l e (ac_rm 2) s m [.ref (ad 32), .int p0, .int p1, .int p2].toArray below meth c H locs 0 0 (MQ below (va_Qi (fun (r : Int32) (u : ac_U) => u = u0 ∧ ((0 : Int) ≤ r.toInt ∧ r.toInt ≤ 85) ∧ (bits4 r.toInt)) (ac_B (dC, dI) vwCl (ac_ty cA) ad cA (TT nF) A) A) [.ref (ad 32), .int p0, .int p1, .int p2].toArray s 0 0 A) (F0 m 91 ls []) := by
        intro x4 x5 H locs ls hK_EV f0 f1 f2 f3 hP hD hS hl
        refine a_iinc F (k := 5) (fun v1 => [(5, .int v1), (0, .ref (ad 32)), (1, .int p0), (2, .int p1), (3, .int p2), (4, .int x4)]) dX7_countedFor_91 hl rfl rfl (by decide) (by omega) (by decide) (fun _ => rfl) (fun v1 ls hv1 hl => ?_)
        refine lv_goto (tgt := 6) F.1 F.2.1 dX7_countedFor_94 (by decide) ?_
        exact ih6 x4 v1 _ _ _ (by omega) hK_EV (by omega) (by omega) hP hD hS (lv_sub hl [1, 2, 3, 4, 5, 0] rfl)
      refine lv_iload F.1 F.2.1 dX7_countedFor_6 (lv_at hl 5 rfl) ?_
      refine lv_aload_n F.1 F.2.1 dX7_countedFor_8 rfl (lv_at hl 0 rfl) ?_
      have g2 : (0 : Int) ≤ (u0.1 32 8).toInt ∧ (u0.1 32 8).toInt ≤ 4 := hR 32 8
      refine a_geti F inX7 hP 32 8 tc_32 rfl rfl (by decide) q342 (fun _ h9 => h9) (v := (u0.1 32 8)) rfl dX7_countedFor_9 ?_
      refine b_ge F 97 dX7_countedFor_12 (by decide) rfl rfl (fun c3 => ?_) (fun c3 => ?_)
      · refine lv_iload F.1 F.2.1 dX7_countedFor_97 (lv_at hl 4 rfl) ?_
        exact a_reti F hr hlocks hP hD hS dX7_countedFor_99 ⟨rfl, (ev_rg hK_EV), hK_EV⟩
      · refine lv_aload_n F.1 F.2.1 dX7_countedFor_15 rfl (lv_at hl 0 rfl) ?_
        refine a_getr F inX7 hP 32 3 tc_32 rfl rfl (by decide) q337 (fun _ h9 => h9) dX7_countedFor_16 ?_
        refine lv_iload F.1 F.2.1 dX7_countedFor_19 (lv_at hl 5 rfl) ?_
        refine a_iald F hP 33 tc_33 rfl (i_in rfl (by omega)) dX7_countedFor_21 (fun v4 ev4 => ?_)
        have hv4 : (0 : Int) ≤ v4.toInt ∧ v4.toInt ≤ 7 := ev4 ▸ hR 33 _
        refine lv_istore (lv' := [(6, .int v4), (0, .ref (ad 32)), (1, .int p0), (2, .int p1), (3, .int p2), (4, .int x4), (5, .int x5)]) F.1 F.2.1 dX7_countedFor_22 hl (by decide) rfl (fun ls hl => ?_)
        refine lv_aload_n F.1 F.2.1 dX7_countedFor_24 rfl (lv_at hl 1 rfl) ?_
        refine a_getr F inX7 hP 32 0 tc_32 rfl rfl (by decide) q334 (fun _ h9 => h9) dX7_countedFor_25 ?_
        refine lv_iload F.1 F.2.1 dX7_countedFor_28 (lv_at hl 0 rfl) ?_
        refine a_ic F (1 : Int32) dX7_countedFor_30 (by decide) ?_
        refine a_Vi F hml hl.1 hA hP hD hS (As := [.int v4, .int (1 : Int32)]) (c_X2_term_4 l dC dI ad cA nF _ v4 (1 : Int32) hR (by omega) (by decide)) (cs_RX7_92 (d := 1) F.2.2.1 (by decide)) tc_4 rfl rfl rfl rfl (Nat.le_of_ble_eq_true rfl) dX7_countedFor_31 ⟨Nat.le_refl 0, Nat.le_refl 0⟩ (fun r5 uN5 H locs hq hP hD hS => ?_)
        obtain ⟨hu5, xr5⟩ := hq
        rw [hu5] at hP hD
        have xr5 : ((1 : Int) = 2 → 0 ≤ r5.toInt ∧ r5.toInt ≤ 7) ∧ ((1 : Int) = 5 → 0 ≤ r5.toInt ∧ r5.toInt ≤ 3) := xr5
        refine lv_iload_n F.1 F.2.1 dX7_countedFor_34 rfl (lv_at hl 4 rfl) ?_
        refine b_ne F 91 dX7_countedFor_35 (by decide) rfl rfl (fun c6 => ?_) (fun c6 => ?_)
        · exact L91 x4 x5 _ _ _ hK_EV (by omega) (by omega) (by omega : (1 : Int) ≤ (u0.1 32 8).toInt ∧ (u0.1 32 8).toInt ≤ 4) (by omega) hP hD hS (lv_sub hl [1, 2, 3, 4, 5, 6] rfl)
        · refine lv_aload_n F.1 F.2.1 dX7_countedFor_38 rfl (lv_at hl 1 rfl) ?_
          refine a_getr F inX7 hP 32 0 tc_32 rfl rfl (by decide) q334 (fun _ h9 => h9) dX7_countedFor_39 ?_
          refine lv_iload F.1 F.2.1 dX7_countedFor_42 (lv_at hl 0 rfl) ?_
          refine a_ic F (2 : Int32) dX7_countedFor_44 (by decide) ?_
          refine a_Vi F hml hl.1 hA hP hD hS (As := [.int v4, .int (2 : Int32)]) (c_X2_term_4 l dC dI ad cA nF _ v4 (2 : Int32) hR (by omega) (by decide)) (cs_RX7_92 (d := 1) F.2.2.1 (by decide)) tc_4 rfl rfl rfl rfl (Nat.le_of_ble_eq_true rfl) dX7_countedFor_45 ⟨Nat.le_refl 0, Nat.le_refl 0⟩ (fun r7 uN7 H locs hq hP hD hS => ?_)
          obtain ⟨hu7, xr7⟩ := hq
          rw [hu7] at hP hD
          have xr7 : ((2 : Int) = 2 → 0 ≤ r7.toInt ∧ r7.toInt ≤ 7) ∧ ((2 : Int) = 5 → 0 ≤ r7.toInt ∧ r7.toInt ≤ 3) := xr7
          refine lv_iload_n F.1 F.2.1 dX7_countedFor_48 rfl (lv_at hl 3 rfl) ?_
          refine b_ne F 91 dX7_countedFor_49 (by decide) rfl rfl (fun c8 => ?_) (fun c8 => ?_)
          · exact L91 x4 x5 _ _ _ hK_EV (by omega) (by omega) (by omega : (1 : Int) ≤ (u0.1 32 8).toInt ∧ (u0.1 32 8).toInt ≤ 4) (by omega) hP hD hS (lv_sub hl [1, 2, 3, 4, 5, 6] rfl)
          · refine lv_aload_n F.1 F.2.1 dX7_countedFor_52 rfl (lv_at hl 1 rfl) ?_
            refine a_getr F inX7 hP 32 0 tc_32 rfl rfl (by decide) q334 (fun _ h9 => h9) dX7_countedFor_53 ?_
            refine lv_iload F.1 F.2.1 dX7_countedFor_56 (lv_at hl 0 rfl) ?_
            refine a_ic F (3 : Int32) dX7_countedFor_58 (by decide) ?_
            refine a_Vi F hml hl.1 hA hP hD hS (As := [.int v4, .int (3 : Int32)]) (c_X2_term_4 l dC dI ad cA nF _ v4 (3 : Int32) hR (by omega) (by decide)) (cs_RX7_92 (d := 1) F.2.2.1 (by decide)) tc_4 rfl rfl rfl rfl (Nat.le_of_ble_eq_true rfl) dX7_countedFor_59 ⟨Nat.le_refl 0, Nat.le_refl 0⟩ (fun r9 uN9 H locs hq hP hD hS => ?_)
            obtain ⟨hu9, xr9⟩ := hq
            rw [hu9] at hP hD
            have xr9 : ((3 : Int) = 2 → 0 ≤ r9.toInt ∧ r9.toInt ≤ 7) ∧ ((3 : Int) = 5 → 0 ≤ r9.toInt ∧ r9.toInt ≤ 3) := xr9
            refine lv_iload_n F.1 F.2.1 dX7_countedFor_62 rfl (lv_at hl 2 rfl) ?_
            refine b_gt F 91 dX7_countedFor_63 (by decide) rfl rfl (fun c10 => ?_) (fun c10 => ?_)
            · exact L91 x4 x5 _ _ _ hK_EV (by omega) (by omega) (by omega : (1 : Int) ≤ (u0.1 32 8).toInt ∧ (u0.1 32 8).toInt ≤ 4) (by omega) hP hD hS (lv_sub hl [1, 2, 3, 4, 5, 6] rfl)
            · refine lv_iload_n F.1 F.2.1 dX7_countedFor_66 rfl (lv_at hl 2 rfl) ?_
              refine lv_aload_n F.1 F.2.1 dX7_countedFor_67 rfl (lv_at hl 1 rfl) ?_
              refine a_getr F inX7 hP 32 0 tc_32 rfl rfl (by decide) q334 (fun _ h9 => h9) dX7_countedFor_68 ?_
              refine lv_iload F.1 F.2.1 dX7_countedFor_71 (lv_at hl 0 rfl) ?_
              refine a_ic F (4 : Int32) dX7_countedFor_73 (by decide) ?_
              refine a_Vi F hml hl.1 hA hP hD hS (As := [.int v4, .int (4 : Int32)]) (c_X2_term_4 l dC dI ad cA nF _ v4 (4 : Int32) hR (by omega) (by decide)) (cs_RX7_92 (d := 1) F.2.2.1 (by decide)) tc_4 rfl rfl rfl rfl (Nat.le_of_ble_eq_true rfl) dX7_countedFor_74 ⟨Nat.le_refl 0, Nat.le_refl 0⟩ (fun r11 uN11 H locs hq hP hD hS => ?_)
              obtain ⟨hu11, xr11⟩ := hq
              rw [hu11] at hP hD
              have xr11 : ((4 : Int) = 2 → 0 ≤ r11.toInt ∧ r11.toInt ≤ 7) ∧ ((4 : Int) = 5 → 0 ≤ r11.toInt ∧ r11.toInt ≤ 3) := xr11
              refine b_gt F 91 dX7_countedFor_77 (by decide) rfl rfl (fun c12 => ?_) (fun c12 => ?_)
              · exact L91 x4 x5 _ _ _ hK_EV (by omega) (by omega) (by omega : (1 : Int) ≤ (u0.1 32 8).toInt ∧ (u0.1 32 8).toInt ≤ 4) (by omega) hP hD hS (lv_sub hl [1, 2, 3, 4, 5, 6] rfl)
              · refine lv_iload F.1 F.2.1 dX7_countedFor_80 (lv_at hl 5 rfl) ?_
                refine a_ic F (1 : Int32) dX7_countedFor_82 (by decide) ?_
                refine a_ic F (2 : Int32) dX7_countedFor_83 (by decide) ?_
                refine lv_iload F.1 F.2.1 dX7_countedFor_84 (lv_at hl 6 rfl) ?_
                refine a_imul F dX7_countedFor_86 ic_2 rfl (by omega) (fun v13 hv13 => ?_)
                refine lv_ishl F.1 F.2.1 dX7_countedFor_87 ?_
                refine lv_ior F.1 F.2.1 dX7_countedFor_88 ?_
                refine lv_topi (fun v14 ev14 => ?_)
                have hK_EVn : bits4 v14.toInt := ev_or hK_EV (k := x5.toInt) (by omega) (by omega) ev14
                have hv14 := ev_rg hK_EVn
                refine lv_istore (lv' := [(4, .int v14), (6, .int v4), (0, .ref (ad 32)), (1, .int p0), (2, .int p1), (3, .int p2), (5, .int x5)]) F.1 F.2.1 dX7_countedFor_89 hl (by decide) rfl (fun ls hl => ?_)
                exact L91 v14 x5 _ _ _ hK_EVn (by omega) (by omega) (by omega : (1 : Int) ≤ (u0.1 32 8).toInt ∧ (u0.1 32 8).toInt ≤ 4) (by omega) hP hD hS (lv_sub hl [2, 3, 4, 5, 0, 6] rfl)
  refine a_ic F (0 : Int32) dX7_countedFor_0 (by decide) ?_
  refine lv_istore (lv' := [(4, .int (0 : Int32)), (0, .ref (ad 32)), (1, .int p0), (2, .int p1), (3, .int p2)]) F.1 F.2.1 dX7_countedFor_1 hl (by decide) rfl (fun ls hl => ?_)
  refine a_ic F (0 : Int32) dX7_countedFor_3 (by decide) ?_
  refine lv_istore (lv' := [(5, .int (0 : Int32)), (4, .int (0 : Int32)), (0, .ref (ad 32)), (1, .int p0), (2, .int p1), (3, .int p2)]) F.1 F.2.1 dX7_countedFor_4 hl (by decide) rfl (fun ls hl => ?_)
  exact L6 6 (0 : Int32) (0 : Int32) _ _ _ (by decide) ev_0 (by decide) (by decide) hP hD hS (lv_sub hl [2, 3, 4, 5, 1, 0] rfl)
set_option maxHeartbeats 600000 in
set_option maxRecDepth 100000 in
theorem c_X7_mustStay_32 (l : Launch) (dC : Nat → ClassId) (dI : Nat → Nat → Nat) (ad : Nat → Nat) (cA : Nat → ClassId) (nF : Nat) (u0 : ac_U) (p0 : Int32) (hR : ac_R rg u0) (hp0 : (0 : Int) ≤ p0.toInt ∧ p0.toInt ≤ 23) : ac_Mi l yX7_mustStay (.code yX7_mustStay cX7_mustStay 2 (some .boolean) :: TB) 2 (dC, dI) vwCl (ac_ty cA) ad cA (TT nF) [.ref (ad 32), .int p0] u0 (fun (r : Int32) (u : ac_U) => u = u0 ∧ ((0 : Int) ≤ r.toInt ∧ r.toInt ≤ 1)) := by
  refine ac_Mi.of (cc := cX7_mustStay) (maxL := 2) (ret := (some .boolean)) (by decide) rfl (Nat.le_of_ble_eq_true rfl) ?_
  intro p e s m below meth c A ls F hml hr hlocks hA hP hD hS hl
  have F : ac_X p s m [.ref (ad 32), .int p0].toArray c cX7_mustStay RX7 TB (dC, dI) vwCl (ac_ty cA) := ⟨F.1, F.2.1, fun w h => F.2.2.1 w (List.mem_cons_of_mem _ h), F.2.2.2.1, F.2.2.2.2⟩
  have hl : lv_has ls 2 [(0, .ref (ad 32)), (1, .int p0)] := hl
  have L26 : ∀ (H : Heap) (locs : List Loc) (ls : Array Slot), va_P (dC, dI) vwCl (ac_w ad cA (TT nF) u0) H → va_D A (ac_w ad cA (TT nF) u0) → va_S A s.heap H locs → lv_has ls 2 [] → W p l e (ac_rm 2) s m [.ref (ad 32), .int p0].toArray below meth c H locs 0 0 (MQ below (va_Qi (fun (r : Int32) (u : ac_U) => u = u0 ∧ ((0 : Int) ≤ r.toInt ∧ r.toInt ≤ 1)) (ac_B (dC, dI) vwCl (ac_ty cA) ad cA (TT nF) A) A) [.ref (ad 32), .int p0].toArray s 0 0 A) (F0 m 26 ls []) := by
    intro H locs ls hP hD hS hl
    refine a_ic F (0 : Int32) dX7_mustStay_26 (by decide) ?_
    exact a_retz F hr hlocks hP hD hS dX7_mustStay_27 (Or.inl rfl) ⟨rfl, (by decide)⟩
  refine lv_iload_n F.1 F.2.1 dX7_mustStay_0 rfl (lv_at hl 1 rfl) ?_
  refine lv_aload_n F.1 F.2.1 dX7_mustStay_1 rfl (lv_at hl 0 rfl) ?_
  have g1 : (0 : Int) ≤ (u0.1 32 11).toInt ∧ (u0.1 32 11).toInt ≤ 23 := hR 32 11
  refine a_geti F inX7 hP 32 11 tc_32 rfl rfl (by decide) q345 (fun _ h9 => h9) (v := (u0.1 32 11)) rfl dX7_mustStay_2 ?_
  refine b_ne F 26 dX7_mustStay_5 (by decide) rfl rfl (fun c2 => ?_) (fun c2 => ?_)
  · exact L26 _ _ _  hP hD hS (lv_sub hl [] rfl)
  · refine lv_aload_n F.1 F.2.1 dX7_mustStay_8 rfl (lv_at hl 0 rfl) ?_
    refine a_getr F inX7 hP 32 1 tc_32 rfl rfl (by decide) q335 (fun _ h9 => h9) dX7_mustStay_9 ?_
    refine lv_aload_n F.1 F.2.1 dX7_mustStay_12 rfl (lv_at hl 0 rfl) ?_
    have g3 : (0 : Int) ≤ (u0.1 32 10).toInt ∧ (u0.1 32 10).toInt ≤ 3 := hR 32 10
    refine a_geti F inX7 hP 32 10 tc_32 rfl rfl (by decide) q344 (fun _ h9 => h9) (v := (u0.1 32 10)) rfl dX7_mustStay_13 ?_
    refine a_Vi F hml hl.1 hA hP hD hS (As := [.int (u0.1 32 10)]) (c_X6_isBusy_24 l dC dI ad cA nF _ (u0.1 32 10) hR (by omega)) (cs_RX7_123 (d := 1) F.2.2.1 (by decide)) tc_24 rfl rfl rfl rfl (Nat.le_of_ble_eq_true rfl) dX7_mustStay_16 ⟨Nat.le_refl 0, Nat.le_refl 0⟩ (fun r4 uN4 H locs hq hP hD hS => ?_)
    obtain ⟨hu4, gr4⟩ := hq
    rw [hu4] at hP hD
    refine z_eq F 26 dX7_mustStay_19 (by decide) rfl (fun c5 => ?_) (fun c5 => ?_)
    · exact L26 _ _ _  hP hD hS (lv_sub hl [] rfl)
    · refine a_ic F (1 : Int32) dX7_mustStay_22 (by decide) ?_
      refine lv_goto (tgt := 27) F.1 F.2.1 dX7_mustStay_23 (by decide) ?_
      exact a_retz F hr hlocks hP hD hS dX7_mustStay_27 (Or.inr rfl) ⟨rfl, (by decide)⟩
set_option maxHeartbeats 600000 in
set_option maxRecDepth 100000 in
theorem c_X7_tryDoing_32 (l : Launch) (dC : Nat → ClassId) (dI : Nat → Nat → Nat) (ad : Nat → Nat) (cA : Nat → ClassId) (nF : Nat) (u0 : ac_U) (p0 : Int32) (p1 : Int32) (p2 : Int32) (hR : ac_R rg u0) (hp0 : (0 : Int) ≤ p0.toInt ∧ p0.toInt ≤ 50944) (hp1 : (0 : Int) ≤ p1.toInt ∧ p1.toInt ≤ 50944) (hp2 : (0 : Int) ≤ p2.toInt ∧ p2.toInt ≤ 85) (hE0 : bits4 p2.toInt) (hnF : nF = 51200) : ac_Mv l yX7_tryDoing (.code yX7_tryDoing cX7_tryDoing 6 none :: TB) 2 (dC, dI) vwCl (ac_ty cA) ad cA (TT nF) [.ref (ad 32), .int p0, .int p1, .int p2] u0 (fun (u : ac_U) => ac_R rg u ∧ ac_Fr [(37, none)] u0 u) := by
  refine ac_Mv.of (cc := cX7_tryDoing) (maxL := 6) (ret := none) (by decide) rfl (Nat.le_of_ble_eq_true rfl) ?_
  intro p e s m below meth c A ls F hml hr hlocks hA hP hD hS hl
  have F : ac_X p s m [.ref (ad 32), .int p0, .int p1, .int p2].toArray c cX7_tryDoing RX7 TB (dC, dI) vwCl (ac_ty cA) := ⟨F.1, F.2.1, fun w h => F.2.2.1 w (List.mem_cons_of_mem _ h), F.2.2.2.1, F.2.2.2.2⟩
  have hl : lv_has ls 6 [(0, .ref (ad 32)), (1, .int p0), (2, .int p1), (3, .int p2)] := hl
  have hF : ac_Fr [(37, none)] u0 u0 := ac_Fr.rf
  have L3 : ∀ (n3 : Nat) (x4 : Int32) (u : ac_U) (H : Heap) (locs : List Loc) (ls : Array Slot), ac_R rg u → ac_Fr [(37, none)] u0 u → 256 - x4.toInt < (n3 : Int) → (0 : Int) ≤ x4.toInt ∧ x4.toInt ≤ 256 → va_P (dC, dI) vwCl (ac_w ad cA (TT nF) u) H → va_D A (ac_w ad cA (TT nF) u) → va_S A s.heap H locs → lv_has ls 6 [(0, .ref (ad 32)), (1, .int p0), (2, .int p1), (3, .int p2), (4, .int x4)] → W p l e (ac_rm 2) s m [.ref (ad 32), .int p0, .int p1, .int p2].toArray below meth c H locs 0 0 (MQ below (va_Qv (fun (u : ac_U) => ac_R rg u ∧ ac_Fr [(37, none)] u0 u) (ac_B (dC, dI) vwCl (ac_ty cA) ad cA (TT nF) A) A) [.ref (ad 32), .int p0, .int p1, .int p2].toArray s 0 0 A) (F0 m 3 ls []) := by
    intro n3
    induction n3 with
    | zero => intro x4 u H locs ls hR hF hn3 f0 hP hD hS hl; exfalso; omega
    | succ n3 ih3 =>
      intro x4 u H locs ls hR hF hn3 f0 hP hD hS hl
      have L68 : ∀ (x4 : Int32) (u : ac_U) (H : Heap) (locs : List Loc) (ls : Array Slot), ac_R rg u → ac_Fr [(37, none)] u0 u → (0 : Int) ≤ x4.toInt ∧ x4.toInt ≤ 255 → (1 : Int) ≤ (u.1 32 9).toInt ∧ (u.1 32 9).toInt ≤ 256 → 256 - x4.toInt + 0 < ((n3 : Nat) : Int) + 1 → va_P (dC, dI) vwCl (ac_w ad cA (TT nF) u) H → va_D A (ac_w ad cA (TT nF) u) → va_S A s.heap H locs → lv_has ls 6 [(0, .ref (ad 32)), (1, .int p0), (2, .int p1), (3, .int p2), (4, .int x4)] → W p l e (ac_rm 2) s m [.ref (ad 32), .int p0, .int p1, .int p2].toArray below meth c H locs 0 0 (MQ below (va_Qv (fun (u : ac_U) => ac_R rg u ∧ ac_Fr [(37, none)] u0 u) (ac_B (dC, dI) vwCl (ac_ty cA) ad cA (TT nF) A) A) [.ref (ad 32), .int p0, .int p1, .int p2].toArray s 0 0 A) (F0 m 68 ls []) := by
        intro x4 u H locs ls hR hF f0 f1 f2 hP hD hS hl
        refine a_iinc F (k := 4) (fun v1 => [(4, .int v1), (0, .ref (ad 32)), (1, .int p0), (2, .int p1), (3, .int p2)]) dX7_tryDoing_68 hl rfl rfl (by decide) (by omega) (by decide) (fun _ => rfl) (fun v1 ls hv1 hl => ?_)
        refine lv_goto (tgt := 3) F.1 F.2.1 dX7_tryDoing_71 (by decide) ?_
        exact ih3 v1 _ _ _ _ hR hF (by omega) (by omega) hP hD hS (lv_sub hl [1, 2, 3, 4, 0] rfl)
      refine lv_iload F.1 F.2.1 dX7_tryDoing_3 (lv_at hl 4 rfl) ?_
      refine lv_aload_n F.1 F.2.1 dX7_tryDoing_5 rfl (lv_at hl 0 rfl) ?_
      have g2 : (0 : Int) ≤ (u.1 32 9).toInt ∧ (u.1 32 9).toInt ≤ 256 := hR 32 9
      refine a_geti F inX7 hP 32 9 tc_32 rfl rfl (by decide) q343 (fun _ h9 => h9) (v := (u.1 32 9)) rfl dX7_tryDoing_6 ?_
      refine b_ge F 74 dX7_tryDoing_9 (by decide) rfl rfl (fun c3 => ?_) (fun c3 => ?_)
      · exact a_retv F hr hlocks hP hD hS dX7_tryDoing_74 ⟨hR, hF⟩
      · refine lv_aload_n F.1 F.2.1 dX7_tryDoing_12 rfl (lv_at hl 0 rfl) ?_
        refine a_getr F inX7 hP 32 7 tc_32 rfl rfl (by decide) q341 (fun _ h9 => h9) dX7_tryDoing_13 ?_
        refine lv_iload_n F.1 F.2.1 dX7_tryDoing_16 rfl (lv_at hl 2 rfl) ?_
        refine lv_aload_n F.1 F.2.1 dX7_tryDoing_17 rfl (lv_at hl 0 rfl) ?_
        refine a_getr F inX7 hP 32 5 tc_32 rfl rfl (by decide) q339 (fun _ h9 => h9) dX7_tryDoing_18 ?_
        refine lv_iload F.1 F.2.1 dX7_tryDoing_21 (lv_at hl 4 rfl) ?_
        refine a_iald F hP 35 tc_35 rfl (i_in rfl (by omega)) dX7_tryDoing_23 (fun v4 ev4 => ?_)
        have hv4 : (0 : Int) ≤ v4.toInt ∧ v4.toInt ≤ 255 := ev4 ▸ hR 35 _
        refine lv_iload_n F.1 F.2.1 dX7_tryDoing_24 rfl (lv_at hl 3 rfl) ?_
        refine a_Si F hml hl.1 hA hP hD hS (As := [.int v4, .int p2]) (c_X7_afterDeed l dC dI ad cA nF _ v4 p2 hR (by omega) (by omega) hE0) (cs_RX7_151 (d := 1) F.2.2.1 (by decide)) rfl rfl (Nat.le_of_ble_eq_true rfl) dX7_tryDoing_25 ⟨Nat.le_refl 0, Nat.le_refl 0⟩ (fun r5 uN5 H locs hq hP hD hS => ?_)
        obtain ⟨hu5, gr5⟩ := hq
        rw [hu5] at hP hD
        refine a_iadd F dX7_tryDoing_28 rfl rfl (by omega) (fun v6 hv6 => ?_)
        refine a_bald F hP 37 tc_37 rfl (i_in rfl (by omega)) dX7_tryDoing_29 (fun v7 ev7 => ?_)
        have hv7 : (-128 : Int) ≤ v7.toInt ∧ v7.toInt ≤ 127 := ev7 ▸ hR 37 _
        refine lv_istore (lv' := [(5, .int v7), (0, .ref (ad 32)), (1, .int p0), (2, .int p1), (3, .int p2), (4, .int x4)]) F.1 F.2.1 dX7_tryDoing_30 hl (by decide) rfl (fun ls hl => ?_)
        refine lv_iload F.1 F.2.1 dX7_tryDoing_32 (lv_at hl 0 rfl) ?_
        refine lv_aload_n F.1 F.2.1 dX7_tryDoing_34 rfl (lv_at hl 1 rfl) ?_
        refine a_getr F inX7 hP 32 7 tc_32 rfl rfl (by decide) q341 (fun _ h9 => h9) dX7_tryDoing_35 ?_
        refine lv_iload_n F.1 F.2.1 dX7_tryDoing_38 rfl (lv_at hl 2 rfl) ?_
        refine lv_aload_n F.1 F.2.1 dX7_tryDoing_39 rfl (lv_at hl 1 rfl) ?_
        refine a_getr F inX7 hP 32 5 tc_32 rfl rfl (by decide) q339 (fun _ h9 => h9) dX7_tryDoing_40 ?_
        refine lv_iload F.1 F.2.1 dX7_tryDoing_43 (lv_at hl 5 rfl) ?_
        refine a_iald F hP 35 tc_35 rfl (i_in rfl (by omega)) dX7_tryDoing_45 (fun v8 ev8 => ?_)
        have hv8 : (0 : Int) ≤ v8.toInt ∧ v8.toInt ≤ 255 := ev8 ▸ hR 35 _
        refine a_iadd F dX7_tryDoing_46 rfl rfl (by omega) (fun v9 hv9 => ?_)
        refine a_bald F hP 37 tc_37 rfl (i_in rfl (by omega)) dX7_tryDoing_47 (fun v10 ev10 => ?_)
        have hv10 : (-128 : Int) ≤ v10.toInt ∧ v10.toInt ≤ 127 := ev10 ▸ hR 37 _
        refine b_ge F 68 dX7_tryDoing_48 (by decide) rfl rfl (fun c11 => ?_) (fun c11 => ?_)
        · exact L68 x4 _ _ _ _ hR hF (by omega) (by omega : (1 : Int) ≤ (u.1 32 9).toInt ∧ (u.1 32 9).toInt ≤ 256) (by omega) hP hD hS (lv_sub hl [1, 2, 3, 4, 5] rfl)
        · refine lv_aload_n F.1 F.2.1 dX7_tryDoing_51 rfl (lv_at hl 1 rfl) ?_
          refine a_getr F inX7 hP 32 7 tc_32 rfl rfl (by decide) q341 (fun _ h9 => h9) dX7_tryDoing_52 ?_
          refine lv_iload_n F.1 F.2.1 dX7_tryDoing_55 rfl (lv_at hl 2 rfl) ?_
          refine lv_aload_n F.1 F.2.1 dX7_tryDoing_56 rfl (lv_at hl 1 rfl) ?_
          refine a_getr F inX7 hP 32 5 tc_32 rfl rfl (by decide) q339 (fun _ h9 => h9) dX7_tryDoing_57 ?_
          refine lv_iload F.1 F.2.1 dX7_tryDoing_60 (lv_at hl 5 rfl) ?_
          refine a_iald F hP 35 tc_35 rfl (i_in rfl (by omega)) dX7_tryDoing_62 (fun v12 ev12 => ?_)
          have hv12 : (0 : Int) ≤ v12.toInt ∧ v12.toInt ≤ 255 := ev12 ▸ hR 35 _
          refine a_iadd F dX7_tryDoing_63 rfl rfl (by omega) (fun v13 hv13 => ?_)
          refine lv_iload F.1 F.2.1 dX7_tryDoing_64 (lv_at hl 0 rfl) ?_
          refine a_i2b F dX7_tryDoing_66 (fun v14 bv14 hv14 => ?_)
          refine a_bast F hP hD hS 37 tc_37 rfl (i_in rfl (by omega)) dX7_tryDoing_67 (fun H locs hP hD hS => ?_)
          rw [bv14] at hP hD
          have hR := hR.si (c := 37) (k := v13.toNatClampNeg) (v := v14) (by omega : (-128 : Int) ≤ v14.toInt ∧ v14.toInt ≤ 127)
          have hF := hF.si (c := 37) (k := v13.toNatClampNeg) (v := v14) rfl
          exact L68 x4 _ _ _ _ hR hF (by omega) (by omega : (1 : Int) ≤ (u.1 32 9).toInt ∧ (u.1 32 9).toInt ≤ 256) (by omega) hP hD hS (lv_sub hl [1, 2, 3, 4, 5] rfl)
  refine a_ic F (0 : Int32) dX7_tryDoing_0 (by decide) ?_
  refine lv_istore (lv' := [(4, .int (0 : Int32)), (0, .ref (ad 32)), (1, .int p0), (2, .int p1), (3, .int p2)]) F.1 F.2.1 dX7_tryDoing_1 hl (by decide) rfl (fun ls hl => ?_)
  exact L3 258 (0 : Int32) _ _ _ _ hR hF (by decide) (by decide) hP hD hS (lv_sub hl [1, 2, 3, 4, 0] rfl)
set_option maxHeartbeats 600000 in
set_option maxRecDepth 100000 in
theorem c_X7_tryGoing_32 (l : Launch) (dC : Nat → ClassId) (dI : Nat → Nat → Nat) (ad : Nat → Nat) (cA : Nat → ClassId) (nF : Nat) (u0 : ac_U) (p0 : Int32) (p1 : Int32) (hR : ac_R rg u0) (hp0 : (0 : Int) ≤ p0.toInt ∧ p0.toInt ≤ 50944) (hp1 : (0 : Int) ≤ p1.toInt ∧ p1.toInt ≤ 50944) (hnF : nF = 51200) : ac_Mv l yX7_tryGoing (.code yX7_tryGoing cX7_tryGoing 5 none :: TB) 1 (dC, dI) vwCl (ac_ty cA) ad cA (TT nF) [.ref (ad 32), .int p0, .int p1] u0 (fun (u : ac_U) => ac_R rg u ∧ ac_Fr [(37, none)] u0 u) := by
  refine ac_Mv.of (cc := cX7_tryGoing) (maxL := 5) (ret := none) (by decide) rfl (Nat.le_of_ble_eq_true rfl) ?_
  intro p e s m below meth c A ls F hml hr hlocks hA hP hD hS hl
  have F : ac_X p s m [.ref (ad 32), .int p0, .int p1].toArray c cX7_tryGoing RX7 TB (dC, dI) vwCl (ac_ty cA) := ⟨F.1, F.2.1, fun w h => F.2.2.1 w (List.mem_cons_of_mem _ h), F.2.2.2.1, F.2.2.2.2⟩
  have hl : lv_has ls 5 [(0, .ref (ad 32)), (1, .int p0), (2, .int p1)] := hl
  have hF : ac_Fr [(37, none)] u0 u0 := ac_Fr.rf
  have L2 : ∀ (n2 : Nat) (x3 : Int32) (u : ac_U) (H : Heap) (locs : List Loc) (ls : Array Slot), ac_R rg u → ac_Fr [(37, none)] u0 u → 256 - x3.toInt < (n2 : Int) → (0 : Int) ≤ x3.toInt ∧ x3.toInt ≤ 256 → va_P (dC, dI) vwCl (ac_w ad cA (TT nF) u) H → va_D A (ac_w ad cA (TT nF) u) → va_S A s.heap H locs → lv_has ls 5 [(0, .ref (ad 32)), (1, .int p0), (2, .int p1), (3, .int x3)] → W p l e (ac_rm 1) s m [.ref (ad 32), .int p0, .int p1].toArray below meth c H locs 0 0 (MQ below (va_Qv (fun (u : ac_U) => ac_R rg u ∧ ac_Fr [(37, none)] u0 u) (ac_B (dC, dI) vwCl (ac_ty cA) ad cA (TT nF) A) A) [.ref (ad 32), .int p0, .int p1].toArray s 0 0 A) (F0 m 2 ls []) := by
    intro n2
    induction n2 with
    | zero => intro x3 u H locs ls hR hF hn2 f0 hP hD hS hl; exfalso; omega
    | succ n2 ih2 =>
      intro x3 u H locs ls hR hF hn2 f0 hP hD hS hl
      have L61 : ∀ (x3 : Int32) (u : ac_U) (H : Heap) (locs : List Loc) (ls : Array Slot), ac_R rg u → ac_Fr [(37, none)] u0 u → (0 : Int) ≤ x3.toInt ∧ x3.toInt ≤ 255 → (1 : Int) ≤ (u.1 32 9).toInt ∧ (u.1 32 9).toInt ≤ 256 → 256 - x3.toInt + 0 < ((n2 : Nat) : Int) + 1 → va_P (dC, dI) vwCl (ac_w ad cA (TT nF) u) H → va_D A (ac_w ad cA (TT nF) u) → va_S A s.heap H locs → lv_has ls 5 [(0, .ref (ad 32)), (1, .int p0), (2, .int p1), (3, .int x3)] → W p l e (ac_rm 1) s m [.ref (ad 32), .int p0, .int p1].toArray below meth c H locs 0 0 (MQ below (va_Qv (fun (u : ac_U) => ac_R rg u ∧ ac_Fr [(37, none)] u0 u) (ac_B (dC, dI) vwCl (ac_ty cA) ad cA (TT nF) A) A) [.ref (ad 32), .int p0, .int p1].toArray s 0 0 A) (F0 m 61 ls []) := by
        intro x3 u H locs ls hR hF f0 f1 f2 hP hD hS hl
        refine a_iinc F (k := 3) (fun v1 => [(3, .int v1), (0, .ref (ad 32)), (1, .int p0), (2, .int p1)]) dX7_tryGoing_61 hl rfl rfl (by decide) (by omega) (by decide) (fun _ => rfl) (fun v1 ls hv1 hl => ?_)
        refine lv_goto (tgt := 2) F.1 F.2.1 dX7_tryGoing_64 (by decide) ?_
        exact ih2 v1 _ _ _ _ hR hF (by omega) (by omega) hP hD hS (lv_sub hl [1, 2, 3, 0] rfl)
      refine lv_iload_n F.1 F.2.1 dX7_tryGoing_2 rfl (lv_at hl 3 rfl) ?_
      refine lv_aload_n F.1 F.2.1 dX7_tryGoing_3 rfl (lv_at hl 0 rfl) ?_
      have g2 : (0 : Int) ≤ (u.1 32 9).toInt ∧ (u.1 32 9).toInt ≤ 256 := hR 32 9
      refine a_geti F inX7 hP 32 9 tc_32 rfl rfl (by decide) q343 (fun _ h9 => h9) (v := (u.1 32 9)) rfl dX7_tryGoing_4 ?_
      refine b_ge F 67 dX7_tryGoing_7 (by decide) rfl rfl (fun c3 => ?_) (fun c3 => ?_)
      · exact a_retv F hr hlocks hP hD hS dX7_tryGoing_67 ⟨hR, hF⟩
      · refine a_ic F (1 : Int32) dX7_tryGoing_10 (by decide) ?_
        refine lv_aload_n F.1 F.2.1 dX7_tryGoing_11 rfl (lv_at hl 0 rfl) ?_
        refine a_getr F inX7 hP 32 7 tc_32 rfl rfl (by decide) q341 (fun _ h9 => h9) dX7_tryGoing_12 ?_
        refine lv_iload_n F.1 F.2.1 dX7_tryGoing_15 rfl (lv_at hl 2 rfl) ?_
        refine lv_aload_n F.1 F.2.1 dX7_tryGoing_16 rfl (lv_at hl 0 rfl) ?_
        refine a_getr F inX7 hP 32 5 tc_32 rfl rfl (by decide) q339 (fun _ h9 => h9) dX7_tryGoing_17 ?_
        refine lv_iload_n F.1 F.2.1 dX7_tryGoing_20 rfl (lv_at hl 3 rfl) ?_
        refine a_iald F hP 35 tc_35 rfl (i_in rfl (by omega)) dX7_tryGoing_21 (fun v4 ev4 => ?_)
        have hv4 : (0 : Int) ≤ v4.toInt ∧ v4.toInt ≤ 255 := ev4 ▸ hR 35 _
        refine a_iadd F dX7_tryGoing_22 rfl rfl (by omega) (fun v5 hv5 => ?_)
        refine a_bald F hP 37 tc_37 rfl (i_in rfl (by omega)) dX7_tryGoing_23 (fun v6 ev6 => ?_)
        have hv6 : (-128 : Int) ≤ v6.toInt ∧ v6.toInt ≤ 127 := ev6 ▸ hR 37 _
        refine a_iadd F dX7_tryGoing_24 ic_1 rfl (by omega) (fun v7 hv7 => ?_)
        refine lv_istore (lv' := [(4, .int v7), (0, .ref (ad 32)), (1, .int p0), (2, .int p1), (3, .int x3)]) F.1 F.2.1 dX7_tryGoing_25 hl (by decide) rfl (fun ls hl => ?_)
        refine lv_iload F.1 F.2.1 dX7_tryGoing_27 (lv_at hl 0 rfl) ?_
        refine lv_aload_n F.1 F.2.1 dX7_tryGoing_29 rfl (lv_at hl 1 rfl) ?_
        refine a_getr F inX7 hP 32 7 tc_32 rfl rfl (by decide) q341 (fun _ h9 => h9) dX7_tryGoing_30 ?_
        refine lv_iload_n F.1 F.2.1 dX7_tryGoing_33 rfl (lv_at hl 2 rfl) ?_
        refine lv_aload_n F.1 F.2.1 dX7_tryGoing_34 rfl (lv_at hl 1 rfl) ?_
        refine a_getr F inX7 hP 32 5 tc_32 rfl rfl (by decide) q339 (fun _ h9 => h9) dX7_tryGoing_35 ?_
        refine lv_iload_n F.1 F.2.1 dX7_tryGoing_38 rfl (lv_at hl 4 rfl) ?_
        refine a_iald F hP 35 tc_35 rfl (i_in rfl (by omega)) dX7_tryGoing_39 (fun v8 ev8 => ?_)
        have hv8 : (0 : Int) ≤ v8.toInt ∧ v8.toInt ≤ 255 := ev8 ▸ hR 35 _
        refine a_iadd F dX7_tryGoing_40 rfl rfl (by omega) (fun v9 hv9 => ?_)
        refine a_bald F hP 37 tc_37 rfl (i_in rfl (by omega)) dX7_tryGoing_41 (fun v10 ev10 => ?_)
        have hv10 : (-128 : Int) ≤ v10.toInt ∧ v10.toInt ≤ 127 := ev10 ▸ hR 37 _
        refine b_ge F 61 dX7_tryGoing_42 (by decide) rfl rfl (fun c11 => ?_) (fun c11 => ?_)
        · exact L61 x3 _ _ _ _ hR hF (by omega) (by omega : (1 : Int) ≤ (u.1 32 9).toInt ∧ (u.1 32 9).toInt ≤ 256) (by omega) hP hD hS (lv_sub hl [1, 2, 3, 4] rfl)
        · refine lv_aload_n F.1 F.2.1 dX7_tryGoing_45 rfl (lv_at hl 1 rfl) ?_
          refine a_getr F inX7 hP 32 7 tc_32 rfl rfl (by decide) q341 (fun _ h9 => h9) dX7_tryGoing_46 ?_
          refine lv_iload_n F.1 F.2.1 dX7_tryGoing_49 rfl (lv_at hl 2 rfl) ?_
          refine lv_aload_n F.1 F.2.1 dX7_tryGoing_50 rfl (lv_at hl 1 rfl) ?_
          refine a_getr F inX7 hP 32 5 tc_32 rfl rfl (by decide) q339 (fun _ h9 => h9) dX7_tryGoing_51 ?_
          refine lv_iload_n F.1 F.2.1 dX7_tryGoing_54 rfl (lv_at hl 4 rfl) ?_
          refine a_iald F hP 35 tc_35 rfl (i_in rfl (by omega)) dX7_tryGoing_55 (fun v12 ev12 => ?_)
          have hv12 : (0 : Int) ≤ v12.toInt ∧ v12.toInt ≤ 255 := ev12 ▸ hR 35 _
          refine a_iadd F dX7_tryGoing_56 rfl rfl (by omega) (fun v13 hv13 => ?_)
          refine lv_iload F.1 F.2.1 dX7_tryGoing_57 (lv_at hl 0 rfl) ?_
          refine a_i2b F dX7_tryGoing_59 (fun v14 bv14 hv14 => ?_)
          refine a_bast F hP hD hS 37 tc_37 rfl (i_in rfl (by omega)) dX7_tryGoing_60 (fun H locs hP hD hS => ?_)
          rw [bv14] at hP hD
          have hR := hR.si (c := 37) (k := v13.toNatClampNeg) (v := v14) (by omega : (-128 : Int) ≤ v14.toInt ∧ v14.toInt ≤ 127)
          have hF := hF.si (c := 37) (k := v13.toNatClampNeg) (v := v14) rfl
          exact L61 x3 _ _ _ _ hR hF (by omega) (by omega : (1 : Int) ≤ (u.1 32 9).toInt ∧ (u.1 32 9).toInt ≤ 256) (by omega) hP hD hS (lv_sub hl [1, 2, 3, 4] rfl)
  refine a_ic F (0 : Int32) dX7_tryGoing_0 (by decide) ?_
  refine lv_istore_n (lv' := [(3, .int (0 : Int32)), (0, .ref (ad 32)), (1, .int p0), (2, .int p1)]) F.1 F.2.1 dX7_tryGoing_1 rfl hl (by decide) rfl (fun ls hl => ?_)
  exact L2 258 (0 : Int32) _ _ _ _ hR hF (by decide) (by decide) hP hD hS (lv_sub hl [1, 2, 3, 0] rfl)
set_option maxHeartbeats 600000 in
set_option maxRecDepth 100000 in
theorem c_X7_fillPlace_32 (l : Launch) (dC : Nat → ClassId) (dI : Nat → Nat → Nat) (ad : Nat → Nat) (cA : Nat → ClassId) (nF : Nat) (u0 : ac_U) (p0 : Int32) (p1 : Int32) (hR : ac_R rg u0) (hp0 : (0 : Int) ≤ p0.toInt ∧ p0.toInt ≤ 23) (hp1 : (0 : Int) ≤ p1.toInt ∧ p1.toInt ≤ 7) (hnF : nF = 51200) : ac_Mv l yX7_fillPlace (.code yX7_fillPlace cX7_fillPlace 7 none :: TB) 3 (dC, dI) vwCl (ac_ty cA) ad cA (TT nF) [.ref (ad 32), .int p0, .int p1] u0 (fun (u : ac_U) => ac_R rg u ∧ ac_Fr [(37, none)] u0 u) := by
  refine ac_Mv.of (cc := cX7_fillPlace) (maxL := 7) (ret := none) (by decide) rfl (Nat.le_of_ble_eq_true rfl) ?_
  intro p e s m below meth c A ls F hml hr hlocks hA hP hD hS hl
  have F : ac_X p s m [.ref (ad 32), .int p0, .int p1].toArray c cX7_fillPlace RX7 TB (dC, dI) vwCl (ac_ty cA) := ⟨F.1, F.2.1, fun w h => F.2.2.1 w (List.mem_cons_of_mem _ h), F.2.2.2.1, F.2.2.2.2⟩
  have hl : lv_has ls 7 [(0, .ref (ad 32)), (1, .int p0), (2, .int p1)] := hl
  have hF : ac_Fr [(37, none)] u0 u0 := ac_Fr.rf
  have L94 : ∀ (n94 : Nat) (x3 : Int32) (x4 : Int32) (x5 : Int32) (u : ac_U) (H : Heap) (locs : List Loc) (ls : Array Slot), ac_R rg u → ac_Fr [(37, none)] u0 u → 6 - x5.toInt < (n94 : Int) → (0 : Int) ≤ x3.toInt ∧ x3.toInt ≤ 48896 → (2048 : Int) ≤ x4.toInt ∧ x4.toInt ≤ 50944 → (0 : Int) ≤ x5.toInt ∧ x5.toInt ≤ 6 → va_P (dC, dI) vwCl (ac_w ad cA (TT nF) u) H → va_D A (ac_w ad cA (TT nF) u) → va_S A s.heap H locs → lv_has ls 7 [(0, .ref (ad 32)), (1, .int p0), (2, .int p1), (3, .int x3), (4, .int x4), (5, .int x5)] → W p l e (ac_rm 3) s m [.ref (ad 32), .int p0, .int p1].toArray below meth c H locs 0 0 (MQ below (va_Qv (fun (u : ac_U) => ac_R rg u ∧ ac_Fr [(37, none)] u0 u) (ac_B (dC, dI) vwCl (ac_ty cA) ad cA (TT nF) A) A) [.ref (ad 32), .int p0, .int p1].toArray s 0 0 A) (F0 m 94 ls []) := by
    intro n94
    induction n94 with
    | zero => intro x3 x4 x5 u H locs ls hR hF hn94 f0 f1 f2 hP hD hS hl; exfalso; omega
    | succ n94 ih94 =>
      intro x3 x4 x5 u H locs ls hR hF hn94 f0 f1 f2 hP hD hS hl
      have L130 : ∀ (x3 : Int32) (x4 : Int32) (x5 : Int32) (u : ac_U) (H : Heap) (locs : List Loc) (ls : Array Slot), ac_R rg u → ac_Fr [(37, none)] u0 u → (0 : Int) ≤ x3.toInt ∧ x3.toInt ≤ 48896 → (2048 : Int) ≤ x4.toInt ∧ x4.toInt ≤ 50944 → (0 : Int) ≤ x5.toInt ∧ x5.toInt ≤ 5 → (1 : Int) ≤ (u.1 4 5).toInt ∧ (u.1 4 5).toInt ≤ 6 → 6 - x5.toInt + 0 < ((n94 : Nat) : Int) + 1 → va_P (dC, dI) vwCl (ac_w ad cA (TT nF) u) H → va_D A (ac_w ad cA (TT nF) u) → va_S A s.heap H locs → lv_has ls 7 [(0, .ref (ad 32)), (1, .int p0), (2, .int p1), (3, .int x3), (4, .int x4), (5, .int x5)] → W p l e (ac_rm 3) s m [.ref (ad 32), .int p0, .int p1].toArray below meth c H locs 0 0 (MQ below (va_Qv (fun (u : ac_U) => ac_R rg u ∧ ac_Fr [(37, none)] u0 u) (ac_B (dC, dI) vwCl (ac_ty cA) ad cA (TT nF) A) A) [.ref (ad 32), .int p0, .int p1].toArray s 0 0 A) (F0 m 130 ls []) := by
        intro x3 x4 x5 u H locs ls hR hF f0 f1 f2 f3 f4 hP hD hS hl
        refine a_iinc F (k := 5) (fun v1 => [(5, .int v1), (0, .ref (ad 32)), (1, .int p0), (2, .int p1), (3, .int x3), (4, .int x4)]) dX7_fillPlace_130 hl rfl rfl (by decide) (by omega) (by decide) (fun _ => rfl) (fun v1 ls hv1 hl => ?_)
        refine lv_goto (tgt := 94) F.1 F.2.1 dX7_fillPlace_133 (by decide) ?_
        exact ih94 x3 x4 v1 _ _ _ _ hR hF (by omega) (by omega) (by omega) (by omega) hP hD hS (lv_sub hl [1, 2, 3, 4, 5, 0] rfl)
      refine lv_iload F.1 F.2.1 dX7_fillPlace_94 (lv_at hl 5 rfl) ?_
      refine lv_aload_n F.1 F.2.1 dX7_fillPlace_96 rfl (lv_at hl 0 rfl) ?_
      refine a_getr F inX7 hP 32 0 tc_32 rfl rfl (by decide) q334 (fun _ h9 => h9) dX7_fillPlace_97 ?_
      have g2 : (0 : Int) ≤ (u.1 4 5).toInt ∧ (u.1 4 5).toInt ≤ 6 := hR 4 5
      refine a_geti F inX2 hP 4 5 tc_4 rfl rfl (by decide) q176 (fun _ h9 => h9) (v := (u.1 4 5)) rfl dX7_fillPlace_100 ?_
      refine b_ge F 136 dX7_fillPlace_103 (by decide) rfl rfl (fun c3 => ?_) (fun c3 => ?_)
      · exact a_retv F hr hlocks hP hD hS dX7_fillPlace_136 ⟨hR, hF⟩
      · refine lv_aload_n F.1 F.2.1 dX7_fillPlace_106 rfl (lv_at hl 0 rfl) ?_
        refine lv_iload_n F.1 F.2.1 dX7_fillPlace_107 rfl (lv_at hl 1 rfl) ?_
        refine lv_iload_n F.1 F.2.1 dX7_fillPlace_108 rfl (lv_at hl 2 rfl) ?_
        refine lv_iload F.1 F.2.1 dX7_fillPlace_109 (lv_at hl 5 rfl) ?_
        refine a_Vi F hml hl.1 hA hP hD hS (As := [.int p0, .int p1, .int x5]) (c_X7_countedFor_32 l dC dI ad cA nF _ p0 p1 x5 hR (by omega) (by omega)) (cs_RX7_144 (d := 2) F.2.2.1 (by decide)) tc_32 rfl rfl rfl rfl (Nat.le_of_ble_eq_true rfl) dX7_fillPlace_111 ⟨Nat.le_refl 0, Nat.le_refl 0⟩ (fun r4 uN4 H locs hq hP hD hS => ?_)
        obtain ⟨hu4, gr4, hE_r4⟩ := hq
        rw [hu4] at hP hD
        refine lv_istore (lv' := [(6, .int r4), (0, .ref (ad 32)), (1, .int p0), (2, .int p1), (3, .int x3), (4, .int x4), (5, .int x5)]) F.1 F.2.1 dX7_fillPlace_114 hl (by decide) rfl (fun ls hl => ?_)
        refine lv_iload F.1 F.2.1 dX7_fillPlace_116 (lv_at hl 0 rfl) ?_
        refine z_eq F 130 dX7_fillPlace_118 (by decide) rfl (fun c5 => ?_) (fun c5 => ?_)
        · exact L130 x3 x4 x5 _ _ _ _ hR hF (by omega) (by omega) (by omega) (by omega : (1 : Int) ≤ (u.1 4 5).toInt ∧ (u.1 4 5).toInt ≤ 6) (by omega) hP hD hS (lv_sub hl [1, 2, 3, 4, 5, 6] rfl)
        · refine lv_aload_n F.1 F.2.1 dX7_fillPlace_121 rfl (lv_at hl 1 rfl) ?_
          refine lv_iload_n F.1 F.2.1 dX7_fillPlace_122 rfl (lv_at hl 4 rfl) ?_
          refine lv_iload F.1 F.2.1 dX7_fillPlace_123 (lv_at hl 5 rfl) ?_
          refine lv_iload F.1 F.2.1 dX7_fillPlace_125 (lv_at hl 0 rfl) ?_
          refine a_Vv F hml hl.1 hA hP hD hS (As := [.int x3, .int x4, .int r4]) (c_X7_tryDoing_32 l dC dI ad cA nF _ x3 x4 r4 hR (by omega) (by omega) (by omega) hE_r4 hnF) (cs_RX7_147 (d := 2) F.2.2.1 (by decide)) tc_32 rfl rfl rfl rfl (Nat.le_of_ble_eq_true rfl) dX7_fillPlace_127 ⟨Nat.le_refl 0, Nat.le_refl 0⟩ (fun u6 H locs hq hP hD hS => ?_)
          obtain ⟨hR, hF6⟩ := hq
          have hF := hF.tr hF6 (by decide)
          exact L130 x3 x4 x5 _ _ _ _ hR hF (by omega) (by omega) (by omega) (i_trB (hF6 4 5 rfl) (by omega : (1 : Int) ≤ (u.1 4 5).toInt ∧ (u.1 4 5).toInt ≤ 6)) (by omega) hP hD hS (lv_sub hl [1, 2, 3, 4, 5, 6] rfl)
  have L46 : ∀ (n46 : Nat) (x3 : Int32) (x4 : Int32) (x5 : Int32) (u : ac_U) (H : Heap) (locs : List Loc) (ls : Array Slot), ac_R rg u → ac_Fr [(37, none)] u0 u → 8 - x5.toInt < (n46 : Int) → (0 : Int) ≤ x3.toInt ∧ x3.toInt ≤ 48896 → (2048 : Int) ≤ x4.toInt ∧ x4.toInt ≤ 50944 → (0 : Int) ≤ x5.toInt ∧ x5.toInt ≤ 8 → va_P (dC, dI) vwCl (ac_w ad cA (TT nF) u) H → va_D A (ac_w ad cA (TT nF) u) → va_S A s.heap H locs → lv_has ls 7 [(0, .ref (ad 32)), (1, .int p0), (2, .int p1), (3, .int x3), (4, .int x4), (5, .int x5)] → W p l e (ac_rm 3) s m [.ref (ad 32), .int p0, .int p1].toArray below meth c H locs 0 0 (MQ below (va_Qv (fun (u : ac_U) => ac_R rg u ∧ ac_Fr [(37, none)] u0 u) (ac_B (dC, dI) vwCl (ac_ty cA) ad cA (TT nF) A) A) [.ref (ad 32), .int p0, .int p1].toArray s 0 0 A) (F0 m 46 ls []) := by
    intro n46
    induction n46 with
    | zero => intro x3 x4 x5 u H locs ls hR hF hn46 f0 f1 f2 hP hD hS hl; exfalso; omega
    | succ n46 ih46 =>
      intro x3 x4 x5 u H locs ls hR hF hn46 f0 f1 f2 hP hD hS hl
      have L85 : ∀ (x3 : Int32) (x4 : Int32) (x5 : Int32) (u : ac_U) (H : Heap) (locs : List Loc) (ls : Array Slot), ac_R rg u → ac_Fr [(37, none)] u0 u → (0 : Int) ≤ x3.toInt ∧ x3.toInt ≤ 48896 → (2048 : Int) ≤ x4.toInt ∧ x4.toInt ≤ 50944 → (0 : Int) ≤ x5.toInt ∧ x5.toInt ≤ 7 → (1 : Int) ≤ (u.1 4 1).toInt ∧ (u.1 4 1).toInt ≤ 8 → 8 - x5.toInt + 0 < ((n46 : Nat) : Int) + 1 → va_P (dC, dI) vwCl (ac_w ad cA (TT nF) u) H → va_D A (ac_w ad cA (TT nF) u) → va_S A s.heap H locs → lv_has ls 7 [(0, .ref (ad 32)), (1, .int p0), (2, .int p1), (3, .int x3), (4, .int x4), (5, .int x5)] → W p l e (ac_rm 3) s m [.ref (ad 32), .int p0, .int p1].toArray below meth c H locs 0 0 (MQ below (va_Qv (fun (u : ac_U) => ac_R rg u ∧ ac_Fr [(37, none)] u0 u) (ac_B (dC, dI) vwCl (ac_ty cA) ad cA (TT nF) A) A) [.ref (ad 32), .int p0, .int p1].toArray s 0 0 A) (F0 m 85 ls []) := by
        intro x3 x4 x5 u H locs ls hR hF f0 f1 f2 f3 f4 hP hD hS hl
        refine a_iinc F (k := 5) (fun v7 => [(5, .int v7), (0, .ref (ad 32)), (1, .int p0), (2, .int p1), (3, .int x3), (4, .int x4)]) dX7_fillPlace_85 hl rfl rfl (by decide) (by omega) (by decide) (fun _ => rfl) (fun v7 ls hv7 hl => ?_)
        refine lv_goto (tgt := 46) F.1 F.2.1 dX7_fillPlace_88 (by decide) ?_
        exact ih46 x3 x4 v7 _ _ _ _ hR hF (by omega) (by omega) (by omega) (by omega) hP hD hS (lv_sub hl [1, 2, 3, 4, 5, 0] rfl)
      refine lv_iload F.1 F.2.1 dX7_fillPlace_46 (lv_at hl 5 rfl) ?_
      refine lv_aload_n F.1 F.2.1 dX7_fillPlace_48 rfl (lv_at hl 0 rfl) ?_
      refine a_getr F inX7 hP 32 0 tc_32 rfl rfl (by decide) q334 (fun _ h9 => h9) dX7_fillPlace_49 ?_
      have g8 : (0 : Int) ≤ (u.1 4 1).toInt ∧ (u.1 4 1).toInt ≤ 8 := hR 4 1
      refine a_geti F inX2 hP 4 1 tc_4 rfl rfl (by decide) q160 (fun _ h9 => h9) (v := (u.1 4 1)) rfl dX7_fillPlace_52 ?_
      refine b_ge F 91 dX7_fillPlace_55 (by decide) rfl rfl (fun c9 => ?_) (fun c9 => ?_)
      · refine a_ic F (0 : Int32) dX7_fillPlace_91 (by decide) ?_
        refine lv_istore (lv' := [(5, .int (0 : Int32)), (0, .ref (ad 32)), (1, .int p0), (2, .int p1), (3, .int x3), (4, .int x4)]) F.1 F.2.1 dX7_fillPlace_92 hl (by decide) rfl (fun ls hl => ?_)
        exact L94 8 x3 x4 (0 : Int32) _ _ _ _ hR hF (by decide) (by omega) (by omega) (by decide) hP hD hS (lv_sub hl [1, 2, 3, 4, 5, 0] rfl)
      · refine lv_aload_n F.1 F.2.1 dX7_fillPlace_58 rfl (lv_at hl 0 rfl) ?_
        refine a_getr F inX7 hP 32 0 tc_32 rfl rfl (by decide) q334 (fun _ h9 => h9) dX7_fillPlace_59 ?_
        refine lv_iload_n F.1 F.2.1 dX7_fillPlace_62 rfl (lv_at hl 2 rfl) ?_
        refine lv_iload F.1 F.2.1 dX7_fillPlace_63 (lv_at hl 5 rfl) ?_
        refine a_Vi F hml hl.1 hA hP hD hS (As := [.int p1, .int x5]) (c_X2_isNear_4 l dC dI ad cA nF _ p1 x5 hR (by omega)) (cs_RX7_135 (d := 1) F.2.2.1 (by decide)) tc_4 rfl rfl rfl rfl (Nat.le_of_ble_eq_true rfl) dX7_fillPlace_65 ⟨Nat.le_refl 0, Nat.le_refl 0⟩ (fun r10 uN10 H locs hq hP hD hS => ?_)
        obtain ⟨hu10, gr10⟩ := hq
        rw [hu10] at hP hD
        refine z_eq F 85 dX7_fillPlace_68 (by decide) rfl (fun c11 => ?_) (fun c11 => ?_)
        · exact L85 x3 x4 x5 _ _ _ _ hR hF (by omega) (by omega) (by omega) (by omega : (1 : Int) ≤ (u.1 4 1).toInt ∧ (u.1 4 1).toInt ≤ 8) (by omega) hP hD hS (lv_sub hl [0, 1, 2, 3, 4, 5] rfl)
        · refine lv_aload_n F.1 F.2.1 dX7_fillPlace_71 rfl (lv_at hl 0 rfl) ?_
          refine lv_iload_n F.1 F.2.1 dX7_fillPlace_72 rfl (lv_at hl 3 rfl) ?_
          refine lv_iload_n F.1 F.2.1 dX7_fillPlace_73 rfl (lv_at hl 1 rfl) ?_
          refine a_ic F (1 : Int32) dX7_fillPlace_74 (by decide) ?_
          refine a_iadd F dX7_fillPlace_75 rfl ic_1 (by omega) (fun v12 hv12 => ?_)
          refine lv_iload F.1 F.2.1 dX7_fillPlace_76 (lv_at hl 5 rfl) ?_
          refine a_ic F (0 : Int32) dX7_fillPlace_78 (by decide) ?_
          refine a_Si F hml hl.1 hA hP hD hS (As := [.int v12, .int x5, .int (0 : Int32)]) (c_X7_cell l dC dI ad cA nF _ v12 x5 (0 : Int32) hR (by omega) (by omega) (by decide)) (cs_RX7_111 (d := 1) F.2.2.1 (by decide)) rfl rfl (Nat.le_of_ble_eq_true rfl) dX7_fillPlace_79 ⟨Nat.le_refl 0, Nat.le_refl 0⟩ (fun r13 uN13 H locs hq hP hD hS => ?_)
          obtain ⟨hu13, gr13, xr13⟩ := hq
          rw [hu13] at hP hD
          have xr13 : r13.toInt = 2048 * v12.toInt + 256 * x5.toInt + (0 : Int) := xr13
          refine a_Vv F hml hl.1 hA hP hD hS (As := [.int x3, .int r13]) (c_X7_tryGoing_32 l dC dI ad cA nF _ x3 r13 hR (by omega) (by omega) hnF) (cs_RX7_138 (d := 1) F.2.2.1 (by decide)) tc_32 rfl rfl rfl rfl (Nat.le_of_ble_eq_true rfl) dX7_fillPlace_82 ⟨Nat.le_refl 0, Nat.le_refl 0⟩ (fun u14 H locs hq hP hD hS => ?_)
          obtain ⟨hR, hF14⟩ := hq
          have hF := hF.tr hF14 (by decide)
          exact L85 x3 x4 x5 _ _ _ _ hR hF (by omega) (by omega) (by omega) (i_trB (hF14 4 1 rfl) (by omega : (1 : Int) ≤ (u.1 4 1).toInt ∧ (u.1 4 1).toInt ≤ 8)) (by omega) hP hD hS (lv_sub hl [0, 1, 2, 3, 4, 5] rfl)
  refine lv_iload_n F.1 F.2.1 dX7_fillPlace_0 rfl (lv_at hl 1 rfl) ?_
  refine lv_iload_n F.1 F.2.1 dX7_fillPlace_1 rfl (lv_at hl 2 rfl) ?_
  refine a_ic F (0 : Int32) dX7_fillPlace_2 (by decide) ?_
  refine a_Si F hml hl.1 hA hP hD hS (As := [.int p0, .int p1, .int (0 : Int32)]) (c_X7_cell l dC dI ad cA nF _ p0 p1 (0 : Int32) hR (by omega) (by omega) (by decide)) (cs_RX7_111 (d := 1) F.2.2.1 (by decide)) rfl rfl (Nat.le_of_ble_eq_true rfl) dX7_fillPlace_3 ⟨Nat.le_refl 0, Nat.le_refl 0⟩ (fun r15 uN15 H locs hq hP hD hS => ?_)
  obtain ⟨hu15, gr15, xr15⟩ := hq
  rw [hu15] at hP hD
  have xr15 : r15.toInt = 2048 * p0.toInt + 256 * p1.toInt + (0 : Int) := xr15
  refine lv_istore_n (lv' := [(3, .int r15), (0, .ref (ad 32)), (1, .int p0), (2, .int p1)]) F.1 F.2.1 dX7_fillPlace_6 rfl hl (by decide) rfl (fun ls hl => ?_)
  refine lv_iload_n F.1 F.2.1 dX7_fillPlace_7 rfl (lv_at hl 2 rfl) ?_
  refine a_ic F (1 : Int32) dX7_fillPlace_8 (by decide) ?_
  refine a_iadd F dX7_fillPlace_9 rfl ic_1 (by omega) (fun v16 hv16 => ?_)
  refine lv_iload_n F.1 F.2.1 dX7_fillPlace_10 rfl (lv_at hl 3 rfl) ?_
  refine a_ic F (0 : Int32) dX7_fillPlace_11 (by decide) ?_
  refine a_Si F hml hl.1 hA hP hD hS (As := [.int v16, .int p1, .int (0 : Int32)]) (c_X7_cell l dC dI ad cA nF _ v16 p1 (0 : Int32) hR (by omega) (by omega) (by decide)) (cs_RX7_111 (d := 1) F.2.2.1 (by decide)) rfl rfl (Nat.le_of_ble_eq_true rfl) dX7_fillPlace_12 ⟨Nat.le_refl 0, Nat.le_refl 0⟩ (fun r17 uN17 H locs hq hP hD hS => ?_)
  obtain ⟨hu17, gr17, xr17⟩ := hq
  rw [hu17] at hP hD
  have xr17 : r17.toInt = 2048 * v16.toInt + 256 * p1.toInt + (0 : Int) := xr17
  refine lv_istore (lv' := [(4, .int r17), (3, .int r15), (0, .ref (ad 32)), (1, .int p0), (2, .int p1)]) F.1 F.2.1 dX7_fillPlace_15 hl (by decide) rfl (fun ls hl => ?_)
  refine lv_aload_n F.1 F.2.1 dX7_fillPlace_17 rfl (lv_at hl 2 rfl) ?_
  refine a_getr F inX7 hP 32 7 tc_32 rfl rfl (by decide) q341 (fun _ h9 => h9) dX7_fillPlace_18 ?_
  refine lv_iload F.1 F.2.1 dX7_fillPlace_21 (lv_at hl 0 rfl) ?_
  refine lv_aload_n F.1 F.2.1 dX7_fillPlace_23 rfl (lv_at hl 2 rfl) ?_
  refine a_getr F inX7 hP 32 7 tc_32 rfl rfl (by decide) q341 (fun _ h9 => h9) dX7_fillPlace_24 ?_
  refine lv_iload_n F.1 F.2.1 dX7_fillPlace_27 rfl (lv_at hl 1 rfl) ?_
  refine a_sp F (256 : Int32) dX7_fillPlace_28 (by decide) ?_
  refine a_cpyb F (hml.trans hl.1.symm) q1032 q708 q707 q19 hP hD hS 37 37 tc_37 tc_37 rfl hR rg37 (by omega) (by omega) (by decide) (by simp only [ic_256]; omega) (by simp only [ic_256]; omega) (by decide) (by decide) dX7_fillPlace_31 (fun H locs hP hD hS => ?_)
  have hR := hR.cp (c0 := 37) (c1 := 37) (sp := r17.toNatClampNeg) (dp := r15.toNatClampNeg) (n := (256 : Int32).toNatClampNeg) (fun _ _ => (rg37 _).trans (rg37 _).symm)
  have hF := hF.cp (c0 := 37) (c1 := 37) (sp := r17.toNatClampNeg) (dp := r15.toNatClampNeg) (n := (256 : Int32).toNatClampNeg) (fun _ => rfl)
  refine lv_aload_n F.1 F.2.1 dX7_fillPlace_34 rfl (lv_at hl 2 rfl) ?_
  refine lv_iload_n F.1 F.2.1 dX7_fillPlace_35 rfl (lv_at hl 3 rfl) ?_
  refine a_Vi F hml hl.1 hA hP hD hS (As := [.int p0]) (c_X7_mustStay_32 l dC dI ad cA nF _ p0 hR (by omega)) (cs_RX7_132 (d := 2) F.2.2.1 (by decide)) tc_32 rfl rfl rfl rfl (Nat.le_of_ble_eq_true rfl) dX7_fillPlace_36 ⟨Nat.le_refl 0, Nat.le_refl 0⟩ (fun r18 uN18 H locs hq hP hD hS => ?_)
  obtain ⟨hu18, gr18⟩ := hq
  rw [hu18] at hP hD
  refine z_eq F 43 dX7_fillPlace_39 (by decide) rfl (fun c19 => ?_) (fun c19 => ?_)
  · refine a_ic F (0 : Int32) dX7_fillPlace_43 (by decide) ?_
    refine lv_istore (lv' := [(5, .int (0 : Int32)), (4, .int r17), (3, .int r15), (0, .ref (ad 32)), (1, .int p0), (2, .int p1)]) F.1 F.2.1 dX7_fillPlace_44 hl (by decide) rfl (fun ls hl => ?_)
    exact L46 10 r15 r17 (0 : Int32) _ _ _ _ hR hF (by decide) (by omega) (by omega) (by decide) hP hD hS (lv_sub hl [3, 4, 5, 2, 1, 0] rfl)
  · exact a_retv F hr hlocks hP hD hS dX7_fillPlace_42 ⟨hR, hF⟩
set_option maxHeartbeats 600000 in
set_option maxRecDepth 100000 in
theorem c_X7_isWithin (l : Launch) (dC : Nat → ClassId) (dI : Nat → Nat → Nat) (ad : Nat → Nat) (cA : Nat → ClassId) (nF : Nat) (u0 : ac_U) (p0 : Int32) (p1 : Int32) (hR : ac_R rg u0) (hp0 : (0 : Int) ≤ p0.toInt ∧ p0.toInt ≤ 255) (hp1 : (0 : Int) ≤ p1.toInt ∧ p1.toInt ≤ 255) : ac_Mi l yX7_isWithin (.code yX7_isWithin cX7_isWithin 3 (some .boolean) :: TB) 1 (dC, dI) vwCl (ac_ty cA) ad cA (TT nF) [.int p0, .int p1] u0 (fun (r : Int32) (u : ac_U) => u = u0 ∧ ((0 : Int) ≤ r.toInt ∧ r.toInt ≤ 1) ∧ (p0.toInt = 0 → r.toInt = 1)) := by
  refine ac_Mi.of (cc := cX7_isWithin) (maxL := 3) (ret := (some .boolean)) (by decide) rfl (Nat.le_of_ble_eq_true rfl) ?_
  intro p e s m below meth c A ls F hml hr hlocks hA hP hD hS hl
  have F : ac_X p s m [.int p0, .int p1].toArray c cX7_isWithin RX7 TB (dC, dI) vwCl (ac_ty cA) := ⟨F.1, F.2.1, fun w h => F.2.2.1 w (List.mem_cons_of_mem _ h), F.2.2.2.1, F.2.2.2.2⟩
  have hl : lv_has ls 3 [(0, .int p0), (1, .int p1)] := hl
  have L2 : ∀ (n2 : Nat) (x2 : Int32) (H : Heap) (locs : List Loc) (ls : Array Slot), 9 - x2.toInt < (n2 : Int) → (0 : Int) ≤ x2.toInt ∧ x2.toInt ≤ 9 → va_P (dC, dI) vwCl (ac_w ad cA (TT nF) u0) H → va_D A (ac_w ad cA (TT nF) u0) → va_S A s.heap H locs → lv_has ls 3 [(0, .int p0), (1, .int p1), (2, .int x2)] → W p l e (ac_rm 1) s m [.int p0, .int p1].toArray below meth c H locs 0 0 (MQ below (va_Qi (fun (r : Int32) (u : ac_U) => u = u0 ∧ ((0 : Int) ≤ r.toInt ∧ r.toInt ≤ 1) ∧ (p0.toInt = 0 → r.toInt = 1)) (ac_B (dC, dI) vwCl (ac_ty cA) ad cA (TT nF) A) A) [.int p0, .int p1].toArray s 0 0 A) (F0 m 2 ls []) := by
    intro n2
    induction n2 with
    | zero => intro x2 H locs ls hn2 f0 hP hD hS hl; exfalso; omega
    | succ n2 ih2 =>
      intro x2 H locs ls hn2 f0 hP hD hS hl
      refine lv_iload_n F.1 F.2.1 dX7_isWithin_2 rfl (lv_at hl 2 rfl) ?_
      refine a_bp F (8 : Int32) dX7_isWithin_3 (by decide) ?_
      refine b_ge F 29 dX7_isWithin_5 (by decide) rfl ic_8 (fun c1 => ?_) (fun c1 => ?_)
      · refine a_ic F (1 : Int32) dX7_isWithin_29 (by decide) ?_
        exact a_retz F hr hlocks hP hD hS dX7_isWithin_30 (Or.inr rfl) ⟨rfl, (by decide), (by first | exact (by omega : p0.toInt = 0 → (1 : Int) = 1) | (rw [ic_1]; exact (by omega : p0.toInt = 0 → (1 : Int) = 1)))⟩
      · refine lv_iload_n F.1 F.2.1 dX7_isWithin_8 rfl (lv_at hl 0 rfl) ?_
        refine lv_iload_n F.1 F.2.1 dX7_isWithin_9 rfl (lv_at hl 2 rfl) ?_
        refine lv_ishr F.1 F.2.1 dX7_isWithin_10 ?_
        refine a_ic F (3 : Int32) dX7_isWithin_11 (by decide) ?_
        refine lv_iand F.1 F.2.1 dX7_isWithin_12 ?_
        refine lv_topi (fun v2 ev2 => ?_)
        have hv2 := wi_0 ev2
        refine lv_iload_n F.1 F.2.1 dX7_isWithin_13 rfl (lv_at hl 1 rfl) ?_
        refine lv_iload_n F.1 F.2.1 dX7_isWithin_14 rfl (lv_at hl 2 rfl) ?_
        refine a_ishrU F dX7_isWithin_15 (fun v3 => ?_)
        refine a_ic F (3 : Int32) dX7_isWithin_16 (by decide) ?_
        refine a_iandM F dX7_isWithin_17 ic_3 (by omega) (fun v4 hv4 => ?_)
        refine b_le F 23 dX7_isWithin_18 (by decide) rfl rfl (fun c5 => ?_) (fun c5 => ?_)
        · refine a_iinc F (k := 2) (fun v6 => [(2, .int v6), (0, .int p0), (1, .int p1)]) dX7_isWithin_23 hl rfl rfl (by decide) (by omega) (by decide) (fun _ => rfl) (fun v6 ls hv6 hl => ?_)
          refine lv_goto (tgt := 2) F.1 F.2.1 dX7_isWithin_26 (by decide) ?_
          exact ih2 v6 _ _ _ (by omega) (by omega) hP hD hS (lv_sub hl [1, 2, 0] rfl)
        · refine a_ic F (0 : Int32) dX7_isWithin_21 (by decide) ?_
          exact a_retz F hr hlocks hP hD hS dX7_isWithin_22 (Or.inl rfl) ⟨rfl, (by decide), (by first | exact (by omega : p0.toInt = 0 → (0 : Int) = 1) | (rw [ic_0]; exact (by omega : p0.toInt = 0 → (0 : Int) = 1)))⟩
  refine a_ic F (0 : Int32) dX7_isWithin_0 (by decide) ?_
  refine lv_istore_n (lv' := [(2, .int (0 : Int32)), (0, .int p0), (1, .int p1)]) F.1 F.2.1 dX7_isWithin_1 rfl hl (by decide) rfl (fun ls hl => ?_)
  exact L2 11 (0 : Int32) _ _ _ (by decide) (by decide) hP hD hS (lv_sub hl [1, 2, 0] rfl)
set_option maxHeartbeats 600000 in
set_option maxRecDepth 100000 in
theorem c_X7_gatherStates_32 (l : Launch) (dC : Nat → ClassId) (dI : Nat → Nat → Nat) (ad : Nat → Nat) (cA : Nat → ClassId) (nF : Nat) (u0 : ac_U) (p0 : Int32) (hR : ac_R rg u0) (hp0 : (0 : Int) ≤ p0.toInt ∧ p0.toInt ≤ 15) : ac_Mv l yX7_gatherStates (.code yX7_gatherStates cX7_gatherStates 4 none :: TB) 2 (dC, dI) vwCl (ac_ty cA) ad cA (TT nF) [.ref (ad 32), .int p0] u0 (fun (u : ac_U) => ac_R rg u ∧ ac_Fr [(32, some 9), (35, none)] u0 u ∧ (1 ≤ (u.1 32 9).toInt)) := by
  refine ac_Mv.of (cc := cX7_gatherStates) (maxL := 4) (ret := none) (by decide) rfl (Nat.le_of_ble_eq_true rfl) ?_
  intro p e s m below meth c A ls F hml hr hlocks hA hP hD hS hl
  have F : ac_X p s m [.ref (ad 32), .int p0].toArray c cX7_gatherStates RX7 TB (dC, dI) vwCl (ac_ty cA) := ⟨F.1, F.2.1, fun w h => F.2.2.1 w (List.mem_cons_of_mem _ h), F.2.2.2.1, F.2.2.2.2⟩
  have hl : lv_has ls 4 [(0, .ref (ad 32)), (1, .int p0)] := hl
  have hF : ac_Fr [(32, some 9), (35, none)] u0 u0 := ac_Fr.rf
  have L51 : ∀ (n51 : Nat) (x2 : Int32) (x3 : Int32) (u : ac_U) (H : Heap) (locs : List Loc) (ls : Array Slot), ac_R rg u → ac_Fr [(32, some 9), (35, none)] u0 u → 256 - x3.toInt < (n51 : Int) → (0 : Int) ≤ x2.toInt ∧ x2.toInt ≤ 255 → (0 : Int) ≤ x3.toInt ∧ x3.toInt ≤ 256 → (u.1 32 9).toInt ≤ x3.toInt → (1 ≤ x3.toInt → 1 ≤ (u.1 32 9).toInt) → va_P (dC, dI) vwCl (ac_w ad cA (TT nF) u) H → va_D A (ac_w ad cA (TT nF) u) → va_S A s.heap H locs → lv_has ls 4 [(0, .ref (ad 32)), (2, .int x2), (3, .int x3)] → W p l e (ac_rm 2) s m [.ref (ad 32), .int p0].toArray below meth c H locs 0 0 (MQ below (va_Qv (fun (u : ac_U) => ac_R rg u ∧ ac_Fr [(32, some 9), (35, none)] u0 u ∧ (1 ≤ (u.1 32 9).toInt)) (ac_B (dC, dI) vwCl (ac_ty cA) ad cA (TT nF) A) A) [.ref (ad 32), .int p0].toArray s 0 0 A) (F0 m 51 ls []) := by
    intro n51
    induction n51 with
    | zero => intro x2 x3 u H locs ls hR hF hn51 f0 f1 f2 f3 hP hD hS hl; exfalso; omega
    | succ n51 ih51 =>
      intro x2 x3 u H locs ls hR hF hn51 f0 f1 f2 f3 hP hD hS hl
      have L84 : ∀ (x2 : Int32) (x3 : Int32) (u : ac_U) (H : Heap) (locs : List Loc) (ls : Array Slot), ac_R rg u → ac_Fr [(32, some 9), (35, none)] u0 u → (0 : Int) ≤ x2.toInt ∧ x2.toInt ≤ 255 → (0 : Int) ≤ x3.toInt ∧ x3.toInt ≤ 255 → (u.1 32 9).toInt ≤ x3.toInt + 1 → 1 ≤ (u.1 32 9).toInt → 256 - x3.toInt + 0 < ((n51 : Nat) : Int) + 1 → va_P (dC, dI) vwCl (ac_w ad cA (TT nF) u) H → va_D A (ac_w ad cA (TT nF) u) → va_S A s.heap H locs → lv_has ls 4 [(0, .ref (ad 32)), (2, .int x2), (3, .int x3)] → W p l e (ac_rm 2) s m [.ref (ad 32), .int p0].toArray below meth c H locs 0 0 (MQ below (va_Qv (fun (u : ac_U) => ac_R rg u ∧ ac_Fr [(32, some 9), (35, none)] u0 u ∧ (1 ≤ (u.1 32 9).toInt)) (ac_B (dC, dI) vwCl (ac_ty cA) ad cA (TT nF) A) A) [.ref (ad 32), .int p0].toArray s 0 0 A) (F0 m 84 ls []) := by
        intro x2 x3 u H locs ls hR hF f0 f1 f2 f3 f4 hP hD hS hl
        refine a_iinc F (k := 2) (fun v1 => [(3, .int v1), (0, .ref (ad 32)), (2, .int x2)]) dX7_gatherStates_84 hl rfl rfl (by decide) (by omega) (by decide) (fun _ => rfl) (fun v1 ls hv1 hl => ?_)
        refine lv_goto (tgt := 51) F.1 F.2.1 dX7_gatherStates_87 (by decide) ?_
        have g2 : (0 : Int) ≤ (u.1 32 9).toInt ∧ (u.1 32 9).toInt ≤ 256 := hR 32 9
        exact ih51 x2 v1 _ _ _ _ hR hF (by omega) (by omega) (by omega) (by omega : (u.1 32 9).toInt ≤ v1.toInt) (by omega : 1 ≤ v1.toInt → 1 ≤ (u.1 32 9).toInt) hP hD hS (lv_sub hl [1, 2, 0] rfl)
      refine lv_iload_n F.1 F.2.1 dX7_gatherStates_51 rfl (lv_at hl 2 rfl) ?_
      refine lv_iload_n F.1 F.2.1 dX7_gatherStates_52 rfl (lv_at hl 1 rfl) ?_
      refine b_gt F 90 dX7_gatherStates_53 (by decide) rfl rfl (fun c3 => ?_) (fun c3 => ?_)
      · have g4 : (0 : Int) ≤ (u.1 32 9).toInt ∧ (u.1 32 9).toInt ≤ 256 := hR 32 9
        exact a_retv F hr hlocks hP hD hS dX7_gatherStates_90 ⟨hR, hF, (by omega : 1 ≤ (u.1 32 9).toInt)⟩
      · refine lv_iload_n F.1 F.2.1 dX7_gatherStates_56 rfl (lv_at hl 2 rfl) ?_
        refine lv_iload_n F.1 F.2.1 dX7_gatherStates_57 rfl (lv_at hl 1 rfl) ?_
        refine a_Si F hml hl.1 hA hP hD hS (As := [.int x3, .int x2]) (c_X7_isWithin l dC dI ad cA nF _ x3 x2 hR (by omega) (by omega)) (cs_RX7_119 (d := 1) F.2.2.1 (by decide)) rfl rfl (Nat.le_of_ble_eq_true rfl) dX7_gatherStates_58 ⟨Nat.le_refl 0, Nat.le_refl 0⟩ (fun r5 uN5 H locs hq hP hD hS => ?_)
        obtain ⟨hu5, gr5, xr5⟩ := hq
        rw [hu5] at hP hD
        have xr5 : x3.toInt = 0 → r5.toInt = 1 := xr5
        refine z_eq F 84 dX7_gatherStates_61 (by decide) rfl (fun c6 => ?_) (fun c6 => ?_)
        · have g7 : (0 : Int) ≤ (u.1 32 9).toInt ∧ (u.1 32 9).toInt ≤ 256 := hR 32 9
          exact L84 x2 x3 _ _ _ _ hR hF (by omega) (by omega) (by omega : (u.1 32 9).toInt ≤ x3.toInt + 1) (by omega : 1 ≤ (u.1 32 9).toInt) (by omega) hP hD hS (lv_sub hl [0, 1, 2] rfl)
        · refine lv_aload_n F.1 F.2.1 dX7_gatherStates_64 rfl (lv_at hl 0 rfl) ?_
          refine a_getr F inX7 hP 32 5 tc_32 rfl rfl (by decide) q339 (fun _ h9 => h9) dX7_gatherStates_65 ?_
          refine lv_aload_n F.1 F.2.1 dX7_gatherStates_68 rfl (lv_at hl 0 rfl) ?_
          have g8 : (0 : Int) ≤ (u.1 32 9).toInt ∧ (u.1 32 9).toInt ≤ 256 := hR 32 9
          refine a_geti F inX7 hP 32 9 tc_32 rfl rfl (by decide) q343 (fun _ h9 => h9) (v := (u.1 32 9)) rfl dX7_gatherStates_69 ?_
          refine lv_iload_n F.1 F.2.1 dX7_gatherStates_72 rfl (lv_at hl 2 rfl) ?_
          refine a_iast F hP hD hS 35 tc_35 rfl (i_in rfl (by omega)) dX7_gatherStates_73 (fun H locs hP hD hS => ?_)
          have hR := hR.si (c := 35) (k := (u.1 32 9).toNatClampNeg) (v := x3) (by omega : (0 : Int) ≤ x3.toInt ∧ x3.toInt ≤ 255)
          have hF := hF.si (c := 35) (k := (u.1 32 9).toNatClampNeg) (v := x3) rfl
          refine lv_aload_n F.1 F.2.1 dX7_gatherStates_74 rfl (lv_at hl 0 rfl) ?_
          refine lv_dup F.1 F.2.1 dX7_gatherStates_75 rfl ?_
          refine a_geti F inX7 hP 32 9 tc_32 rfl rfl (by decide) q343 (fun _ h9 => h9) (v := (u.1 32 9)) (rfl) dX7_gatherStates_76 ?_
          refine a_ic F (1 : Int32) dX7_gatherStates_79 (by decide) ?_
          refine a_iadd F dX7_gatherStates_80 rfl ic_1 (by omega) (fun v9 hv9 => ?_)
          refine a_puti F inX7 tyX7 tyX7_ok nmX7 hP hD hS 32 9 tc_32 rfl rfl (by decide) q343 (fun _ h9 => h9) rfl (ty := .int) (tyX7_ok 9 (by decide)) rfl rfl dX7_gatherStates_81 (fun H locs hP hD hS => ?_)
          have hR := hR.si (c := 32) (k := 9) (v := v9) (by omega : (0 : Int) ≤ v9.toInt ∧ v9.toInt ≤ 256)
          have hF := hF.si (c := 32) (k := 9) (v := v9) rfl
          exact L84 x2 x3 _ _ _ _ hR hF (by omega) (by omega) (by omega : v9.toInt ≤ x3.toInt + 1) (by omega : 1 ≤ v9.toInt) (by omega) hP hD hS (lv_sub hl [0, 1, 2] rfl)
  have L4 : ∀ (n4 : Nat) (x2 : Int32) (x3 : Int32) (u : ac_U) (H : Heap) (locs : List Loc) (ls : Array Slot), ac_R rg u → ac_Fr [(32, some 9), (35, none)] u0 u → 4 - x3.toInt < (n4 : Int) → (0 : Int) ≤ x2.toInt ∧ x2.toInt ≤ 255 → (0 : Int) ≤ x3.toInt ∧ x3.toInt ≤ 4 → va_P (dC, dI) vwCl (ac_w ad cA (TT nF) u) H → va_D A (ac_w ad cA (TT nF) u) → va_S A s.heap H locs → lv_has ls 4 [(0, .ref (ad 32)), (1, .int p0), (2, .int x2), (3, .int x3)] → W p l e (ac_rm 2) s m [.ref (ad 32), .int p0].toArray below meth c H locs 0 0 (MQ below (va_Qv (fun (u : ac_U) => ac_R rg u ∧ ac_Fr [(32, some 9), (35, none)] u0 u ∧ (1 ≤ (u.1 32 9).toInt)) (ac_B (dC, dI) vwCl (ac_ty cA) ad cA (TT nF) A) A) [.ref (ad 32), .int p0].toArray s 0 0 A) (F0 m 4 ls []) := by
    intro n4
    induction n4 with
    | zero => intro x2 x3 u H locs ls hR hF hn4 f0 f1 hP hD hS hl; exfalso; omega
    | succ n4 ih4 =>
      intro x2 x3 u H locs ls hR hF hn4 f0 f1 hP hD hS hl
      have L36 : ∀ (x3 : Int32) (z0 : Int32) (z1 : Int32) (u : ac_U) (H : Heap) (locs : List Loc) (ls : Array Slot), ac_R rg u → ac_Fr [(32, some 9), (35, none)] u0 u → (0 : Int) ≤ x3.toInt ∧ x3.toInt ≤ 3 → (0 : Int) ≤ z0.toInt ∧ z0.toInt ≤ 255 → (0 : Int) ≤ z1.toInt ∧ z1.toInt ≤ 192 → (1 : Int) ≤ (u.1 32 8).toInt ∧ (u.1 32 8).toInt ≤ 4 → 4 - x3.toInt + 0 < ((n4 : Nat) : Int) + 1 → va_P (dC, dI) vwCl (ac_w ad cA (TT nF) u) H → va_D A (ac_w ad cA (TT nF) u) → va_S A s.heap H locs → lv_has ls 4 [(0, .ref (ad 32)), (1, .int p0), (3, .int x3)] → W p l e (ac_rm 2) s m [.ref (ad 32), .int p0].toArray below meth c H locs 0 0 (MQ below (va_Qv (fun (u : ac_U) => ac_R rg u ∧ ac_Fr [(32, some 9), (35, none)] u0 u ∧ (1 ≤ (u.1 32 9).toInt)) (ac_B (dC, dI) vwCl (ac_ty cA) ad cA (TT nF) A) A) [.ref (ad 32), .int p0].toArray s 0 0 A) (F0 m 36 ls [.int z1, .int z0]) := by
        intro x3 z0 z1 u H locs ls hR hF f0 f1 f2 f3 f4 hP hD hS hl
        refine a_iorB F dX7_gatherStates_36 rfl rfl (n := 8) (m' := 256) rfl (by decide) (by omega) (by omega) (fun v10 hv10 => ?_)
        refine lv_istore_n (lv' := [(2, .int v10), (0, .ref (ad 32)), (1, .int p0), (3, .int x3)]) F.1 F.2.1 dX7_gatherStates_37 rfl hl (by decide) rfl (fun ls hl => ?_)
        refine a_iinc F (k := 3) (fun v11 => [(3, .int v11), (2, .int v10), (0, .ref (ad 32)), (1, .int p0)]) dX7_gatherStates_38 hl rfl rfl (by decide) (by omega) (by decide) (fun _ => rfl) (fun v11 ls hv11 hl => ?_)
        refine lv_goto (tgt := 4) F.1 F.2.1 dX7_gatherStates_41 (by decide) ?_
        exact ih4 v10 v11 _ _ _ _ hR hF (by omega) (by omega) (by omega) hP hD hS (lv_sub hl [2, 3, 1, 0] rfl)
      refine lv_iload_n F.1 F.2.1 dX7_gatherStates_4 rfl (lv_at hl 3 rfl) ?_
      refine lv_aload_n F.1 F.2.1 dX7_gatherStates_5 rfl (lv_at hl 0 rfl) ?_
      have g12 : (0 : Int) ≤ (u.1 32 8).toInt ∧ (u.1 32 8).toInt ≤ 4 := hR 32 8
      refine a_geti F inX7 hP 32 8 tc_32 rfl rfl (by decide) q342 (fun _ h9 => h9) (v := (u.1 32 8)) rfl dX7_gatherStates_6 ?_
      refine b_ge F 44 dX7_gatherStates_9 (by decide) rfl rfl (fun c13 => ?_) (fun c13 => ?_)
      · refine lv_aload_n F.1 F.2.1 dX7_gatherStates_44 rfl (lv_at hl 0 rfl) ?_
        refine a_ic F (0 : Int32) dX7_gatherStates_45 (by decide) ?_
        refine a_puti F inX7 tyX7 tyX7_ok nmX7 hP hD hS 32 9 tc_32 rfl rfl (by decide) q343 (fun _ h9 => h9) rfl (ty := .int) (tyX7_ok 9 (by decide)) rfl rfl dX7_gatherStates_46 (fun H locs hP hD hS => ?_)
        have hR := hR.si (c := 32) (k := 9) (v := (0 : Int32)) (by rw [ic_0]; exact (by omega : (0 : Int) ≤ (0 : Int) ∧ (0 : Int) ≤ 256))
        have hF := hF.si (c := 32) (k := 9) (v := (0 : Int32)) rfl
        refine a_ic F (0 : Int32) dX7_gatherStates_49 (by decide) ?_
        refine lv_istore_n (lv' := [(3, .int (0 : Int32)), (0, .ref (ad 32)), (1, .int p0), (2, .int x2)]) F.1 F.2.1 dX7_gatherStates_50 rfl hl (by decide) rfl (fun ls hl => ?_)
        exact L51 258 x2 (0 : Int32) _ _ _ _ hR hF (by decide) (by omega) (by decide) (by first | (rw [ic_0]; exact (by omega : (0 : Int) ≤ (0 : Int))) | rw [ic_0]) (by first | (rw [ic_0]; exact (by omega : 1 ≤ (0 : Int) → 1 ≤ (0 : Int))) | rw [ic_0]) hP hD hS (lv_sub hl [1, 3, 0] rfl)
      · refine lv_iload_n F.1 F.2.1 dX7_gatherStates_12 rfl (lv_at hl 2 rfl) ?_
        refine lv_iload_n F.1 F.2.1 dX7_gatherStates_13 rfl (lv_at hl 1 rfl) ?_
        refine lv_iload_n F.1 F.2.1 dX7_gatherStates_14 rfl (lv_at hl 3 rfl) ?_
        refine a_ishrU F dX7_gatherStates_15 (fun v14 => ?_)
        refine a_ic F (1 : Int32) dX7_gatherStates_16 (by decide) ?_
        refine a_iandM F dX7_gatherStates_17 ic_1 (by omega) (fun v15 hv15 => ?_)
        refine a_ic F (1 : Int32) dX7_gatherStates_18 (by decide) ?_
        refine b_ne F 35 dX7_gatherStates_19 (by decide) rfl ic_1 (fun c16 => ?_) (fun c16 => ?_)
        · refine a_ic F (0 : Int32) dX7_gatherStates_35 (by decide) ?_
          exact L36 x3 x2 (0 : Int32) _ _ _ _ hR hF (by omega) (by omega) (by decide) (by omega : (1 : Int) ≤ (u.1 32 8).toInt ∧ (u.1 32 8).toInt ≤ 4) (by omega) hP hD hS (lv_sub hl [0, 1, 3] rfl)
        · refine lv_aload_n F.1 F.2.1 dX7_gatherStates_22 rfl (lv_at hl 0 rfl) ?_
          refine a_getr F inX7 hP 32 4 tc_32 rfl rfl (by decide) q338 (fun _ h9 => h9) dX7_gatherStates_23 ?_
          refine lv_iload_n F.1 F.2.1 dX7_gatherStates_26 rfl (lv_at hl 3 rfl) ?_
          refine a_iald F hP 34 tc_34 rfl (i_in rfl (by omega)) dX7_gatherStates_27 (fun v17 ev17 => ?_)
          have hv17 : (0 : Int) ≤ v17.toInt ∧ v17.toInt ≤ 3 := ev17 ▸ hR 34 _
          refine a_ic F (2 : Int32) dX7_gatherStates_28 (by decide) ?_
          refine lv_iload_n F.1 F.2.1 dX7_gatherStates_29 rfl (lv_at hl 3 rfl) ?_
          refine a_imul F dX7_gatherStates_30 ic_2 rfl (by omega) (fun v18 hv18 => ?_)
          refine a_ishlS F dX7_gatherStates_31 rfl rfl (a1 := 3) (hi := 6) (by omega) (by omega) (by decide) (fun v19 hv19 => ?_)
          have hv19 : (0 : Int) ≤ v19.toInt ∧ v19.toInt ≤ 192 := hv19
          refine lv_goto (tgt := 36) F.1 F.2.1 dX7_gatherStates_32 (by decide) ?_
          exact L36 x3 x2 v19 _ _ _ _ hR hF (by omega) (by omega) (by omega) (by omega : (1 : Int) ≤ (u.1 32 8).toInt ∧ (u.1 32 8).toInt ≤ 4) (by omega) hP hD hS (lv_sub hl [0, 1, 3] rfl)
  refine a_ic F (0 : Int32) dX7_gatherStates_0 (by decide) ?_
  refine lv_istore_n (lv' := [(2, .int (0 : Int32)), (0, .ref (ad 32)), (1, .int p0)]) F.1 F.2.1 dX7_gatherStates_1 rfl hl (by decide) rfl (fun ls hl => ?_)
  refine a_ic F (0 : Int32) dX7_gatherStates_2 (by decide) ?_
  refine lv_istore_n (lv' := [(3, .int (0 : Int32)), (2, .int (0 : Int32)), (0, .ref (ad 32)), (1, .int p0)]) F.1 F.2.1 dX7_gatherStates_3 rfl hl (by decide) rfl (fun ls hl => ?_)
  exact L4 6 (0 : Int32) (0 : Int32) _ _ _ _ hR hF (by decide) (by decide) (by decide) hP hD hS (lv_sub hl [2, 3, 1, 0] rfl)
set_option maxHeartbeats 600000 in
set_option maxRecDepth 100000 in
theorem c_X7_fewestGoings_32 (l : Launch) (dC : Nat → ClassId) (dI : Nat → Nat → Nat) (ad : Nat → Nat) (cA : Nat → ClassId) (nF : Nat) (u0 : ac_U) (p0 : Int32) (hR : ac_R rg u0) (hp0 : (0 : Int) ≤ p0.toInt ∧ p0.toInt ≤ 15) (hnF : nF = 51200) : ac_Mi l yX7_fewestGoings (.code yX7_fewestGoings cX7_fewestGoings 4 (some .int) :: TB) 4 (dC, dI) vwCl (ac_ty cA) ad cA (TT nF) [.ref (ad 32), .int p0] u0 (fun (r : Int32) (u : ac_U) => ac_R rg u ∧ ac_Fr [(32, some 9), (35, none), (37, none)] u0 u ∧ ((-128 : Int) ≤ r.toInt ∧ r.toInt ≤ 98) ∧ (1 ≤ (u.1 32 9).toInt)) := by
  refine ac_Mi.of (cc := cX7_fewestGoings) (maxL := 4) (ret := (some .int)) (by decide) rfl (Nat.le_of_ble_eq_true rfl) ?_
  intro p e s m below meth c A ls F hml hr hlocks hA hP hD hS hl
  have F : ac_X p s m [.ref (ad 32), .int p0].toArray c cX7_fewestGoings RX7 TB (dC, dI) vwCl (ac_ty cA) := ⟨F.1, F.2.1, fun w h => F.2.2.1 w (List.mem_cons_of_mem _ h), F.2.2.2.1, F.2.2.2.2⟩
  have hl : lv_has ls 4 [(0, .ref (ad 32)), (1, .int p0)] := hl
  have hF : ac_Fr [(32, some 9), (35, none), (37, none)] u0 u0 := ac_Fr.rf
  have L106 : ∀ (n106 : Nat) (x2 : Int32) (u : ac_U) (H : Heap) (locs : List Loc) (ls : Array Slot), ac_R rg u → ac_Fr [(32, some 9), (35, none), (37, none)] u0 u → x2.toInt + 1 < (n106 : Int) → (-1 : Int) ≤ x2.toInt ∧ x2.toInt ≤ 23 → (1 : Int) ≤ (u.1 32 9).toInt ∧ (u.1 32 9).toInt ≤ 256 → va_P (dC, dI) vwCl (ac_w ad cA (TT nF) u) H → va_D A (ac_w ad cA (TT nF) u) → va_S A s.heap H locs → lv_has ls 4 [(0, .ref (ad 32)), (2, .int x2)] → W p l e (ac_rm 4) s m [.ref (ad 32), .int p0].toArray below meth c H locs 0 0 (MQ below (va_Qi (fun (r : Int32) (u : ac_U) => ac_R rg u ∧ ac_Fr [(32, some 9), (35, none), (37, none)] u0 u ∧ ((-128 : Int) ≤ r.toInt ∧ r.toInt ≤ 98) ∧ (1 ≤ (u.1 32 9).toInt)) (ac_B (dC, dI) vwCl (ac_ty cA) ad cA (TT nF) A) A) [.ref (ad 32), .int p0].toArray s 0 0 A) (F0 m 106 ls []) := by
    intro n106
    induction n106 with
    | zero => intro x2 u H locs ls hR hF hn106 f0 f1 hP hD hS hl; exfalso; omega
    | succ n106 ih106 =>
      intro x2 u H locs ls hR hF hn106 f0 f1 hP hD hS hl
      have L116 : ∀ (n116 : Nat) (x2 : Int32) (x3 : Int32) (u : ac_U) (H : Heap) (locs : List Loc) (ls : Array Slot), ac_R rg u → ac_Fr [(32, some 9), (35, none), (37, none)] u0 u → 8 - x3.toInt < (n116 : Int) → (0 : Int) ≤ x2.toInt ∧ x2.toInt ≤ 23 → (0 : Int) ≤ x3.toInt ∧ x3.toInt ≤ 8 → (1 : Int) ≤ (u.1 32 9).toInt ∧ (u.1 32 9).toInt ≤ 256 → x2.toInt - (-1) - (0) < ((n106 : Nat) : Int) + 1 → va_P (dC, dI) vwCl (ac_w ad cA (TT nF) u) H → va_D A (ac_w ad cA (TT nF) u) → va_S A s.heap H locs → lv_has ls 4 [(0, .ref (ad 32)), (2, .int x2), (3, .int x3)] → W p l e (ac_rm 4) s m [.ref (ad 32), .int p0].toArray below meth c H locs 0 0 (MQ below (va_Qi (fun (r : Int32) (u : ac_U) => ac_R rg u ∧ ac_Fr [(32, some 9), (35, none), (37, none)] u0 u ∧ ((-128 : Int) ≤ r.toInt ∧ r.toInt ≤ 98) ∧ (1 ≤ (u.1 32 9).toInt)) (ac_B (dC, dI) vwCl (ac_ty cA) ad cA (TT nF) A) A) [.ref (ad 32), .int p0].toArray s 0 0 A) (F0 m 116 ls []) := by
        intro n116
        induction n116 with
        | zero => intro x2 x3 u H locs ls hR hF hn116 f0 f1 f2 f3 hP hD hS hl; exfalso; omega
        | succ n116 ih116 =>
          intro x2 x3 u H locs ls hR hF hn116 f0 f1 f2 f3 hP hD hS hl
          refine lv_iload_n F.1 F.2.1 dX7_fewestGoings_116 rfl (lv_at hl 2 rfl) ?_
          refine lv_aload_n F.1 F.2.1 dX7_fewestGoings_117 rfl (lv_at hl 0 rfl) ?_
          refine a_getr F inX7 hP 32 0 tc_32 rfl rfl (by decide) q334 (fun _ h9 => h9) dX7_fewestGoings_118 ?_
          have g1 : (0 : Int) ≤ (u.1 4 1).toInt ∧ (u.1 4 1).toInt ≤ 8 := hR 4 1
          refine a_geti F inX2 hP 4 1 tc_4 rfl rfl (by decide) q160 (fun _ h9 => h9) (v := (u.1 4 1)) rfl dX7_fewestGoings_121 ?_
          refine b_ge F 139 dX7_fewestGoings_124 (by decide) rfl rfl (fun c2 => ?_) (fun c2 => ?_)
          · refine a_iinc F (k := 1) (fun v3 => [(2, .int v3), (0, .ref (ad 32)), (3, .int x3)]) dX7_fewestGoings_139 hl rfl rfl (by decide) (by omega) (by decide) (fun _ => rfl) (fun v3 ls hv3 hl => ?_)
            refine lv_goto (tgt := 106) F.1 F.2.1 dX7_fewestGoings_142 (by decide) ?_
            have g4 : (0 : Int) ≤ (u.1 32 9).toInt ∧ (u.1 32 9).toInt ≤ 256 := hR 32 9
            exact ih106 v3 _ _ _ _ hR hF (by omega) (by omega) (by omega : (1 : Int) ≤ (u.1 32 9).toInt ∧ (u.1 32 9).toInt ≤ 256) hP hD hS (lv_sub hl [1, 0] rfl)
          · refine lv_aload_n F.1 F.2.1 dX7_fewestGoings_127 rfl (lv_at hl 0 rfl) ?_
            refine lv_iload_n F.1 F.2.1 dX7_fewestGoings_128 rfl (lv_at hl 1 rfl) ?_
            refine lv_iload_n F.1 F.2.1 dX7_fewestGoings_129 rfl (lv_at hl 2 rfl) ?_
            refine a_Vv F hml hl.1 hA hP hD hS (As := [.int x2, .int x3]) (c_X7_fillPlace_32 l dC dI ad cA nF _ x2 x3 hR (by omega) (by omega) hnF) (cs_RX7_115 (d := 3) F.2.2.1 (by decide)) tc_32 rfl rfl rfl rfl (Nat.le_of_ble_eq_true rfl) dX7_fewestGoings_130 ⟨Nat.le_refl 0, Nat.le_refl 0⟩ (fun u5 H locs hq hP hD hS => ?_)
            obtain ⟨hR, hF5⟩ := hq
            have hF := hF.tr hF5 (by decide)
            refine a_iinc F (k := 2) (fun v6 => [(3, .int v6), (0, .ref (ad 32)), (2, .int x2)]) dX7_fewestGoings_133 hl rfl rfl (by decide) (by omega) (by decide) (fun _ => rfl) (fun v6 ls hv6 hl => ?_)
            refine lv_goto (tgt := 116) F.1 F.2.1 dX7_fewestGoings_136 (by decide) ?_
            exact ih116 x2 v6 _ _ _ _ hR hF (by omega) (by omega) (by omega) (i_trB (hF5 32 9 rfl) (by omega : (1 : Int) ≤ (u.1 32 9).toInt ∧ (u.1 32 9).toInt ≤ 256)) (by omega) hP hD hS (lv_sub hl [1, 2, 0] rfl)
      refine lv_iload_n F.1 F.2.1 dX7_fewestGoings_106 rfl (lv_at hl 1 rfl) ?_
      refine lv_aload_n F.1 F.2.1 dX7_fewestGoings_107 rfl (lv_at hl 0 rfl) ?_
      have g7 : (0 : Int) ≤ (u.1 32 11).toInt ∧ (u.1 32 11).toInt ≤ 23 := hR 32 11
      refine a_geti F inX7 hP 32 11 tc_32 rfl rfl (by decide) q345 (fun _ h9 => h9) (v := (u.1 32 11)) rfl dX7_fewestGoings_108 ?_
      refine b_lt F 145 dX7_fewestGoings_111 (by decide) rfl rfl (fun c8 => ?_) (fun c8 => ?_)
      · refine lv_aload_n F.1 F.2.1 dX7_fewestGoings_145 rfl (lv_at hl 0 rfl) ?_
        refine a_getr F inX7 hP 32 7 tc_32 rfl rfl (by decide) q341 (fun _ h9 => h9) dX7_fewestGoings_146 ?_
        refine lv_aload_n F.1 F.2.1 dX7_fewestGoings_149 rfl (lv_at hl 0 rfl) ?_
        refine a_geti F inX7 hP 32 11 tc_32 rfl rfl (by decide) q345 (fun _ h9 => h9) (v := (u.1 32 11)) (rfl) dX7_fewestGoings_150 ?_
        refine lv_aload_n F.1 F.2.1 dX7_fewestGoings_153 rfl (lv_at hl 0 rfl) ?_
        refine a_getr F inX7 hP 32 1 tc_32 rfl rfl (by decide) q335 (fun _ h9 => h9) dX7_fewestGoings_154 ?_
        refine a_getr F inX6 hP 24 1 tc_24 rfl rfl (by decide) q275 (fun _ h9 => h9) dX7_fewestGoings_157 ?_
        refine a_ic F (3 : Int32) dX7_fewestGoings_160 (by decide) ?_
        refine lv_aload_n F.1 F.2.1 dX7_fewestGoings_161 rfl (lv_at hl 0 rfl) ?_
        have g9 : (0 : Int) ≤ (u.1 32 10).toInt ∧ (u.1 32 10).toInt ≤ 3 := hR 32 10
        refine a_geti F inX7 hP 32 10 tc_32 rfl rfl (by decide) q344 (fun _ h9 => h9) (v := (u.1 32 10)) rfl dX7_fewestGoings_162 ?_
        refine a_iadd F dX7_fewestGoings_165 ic_3 rfl (by omega) (fun v10 hv10 => ?_)
        refine a_iald F hP 25 tc_25 rfl (i_in rfl (by omega)) dX7_fewestGoings_166 (fun v11 ev11 => ?_)
        have hv11 : (0 : Int) ≤ v11.toInt ∧ v11.toInt ≤ 7 := rg_seg_25_3_6 hR ev11 (by omega)
        refine lv_aload_n F.1 F.2.1 dX7_fewestGoings_167 rfl (lv_at hl 0 rfl) ?_
        refine a_getr F inX7 hP 32 5 tc_32 rfl rfl (by decide) q339 (fun _ h9 => h9) dX7_fewestGoings_168 ?_
        refine lv_aload_n F.1 F.2.1 dX7_fewestGoings_171 rfl (lv_at hl 0 rfl) ?_
        have g12 : (0 : Int) ≤ (u.1 32 9).toInt ∧ (u.1 32 9).toInt ≤ 256 := hR 32 9
        refine a_geti F inX7 hP 32 9 tc_32 rfl rfl (by decide) q343 (fun _ h9 => h9) (v := (u.1 32 9)) rfl dX7_fewestGoings_172 ?_
        refine a_ic F (1 : Int32) dX7_fewestGoings_175 (by decide) ?_
        refine a_isub F dX7_fewestGoings_176 rfl ic_1 (by omega) (fun v13 hv13 => ?_)
        refine a_iald F hP 35 tc_35 rfl (i_in rfl (by omega)) dX7_fewestGoings_177 (fun v14 ev14 => ?_)
        have hv14 : (0 : Int) ≤ v14.toInt ∧ v14.toInt ≤ 255 := ev14 ▸ hR 35 _
        refine a_Si F hml hl.1 hA hP hD hS (As := [.int (u.1 32 11), .int v11, .int v14]) (c_X7_cell l dC dI ad cA nF _ (u.1 32 11) v11 v14 hR (by omega) (by omega) (by omega)) (cs_RX7_111 (d := 1) F.2.2.1 (by decide)) rfl rfl (Nat.le_of_ble_eq_true rfl) dX7_fewestGoings_178 ⟨Nat.le_refl 0, Nat.le_refl 0⟩ (fun r15 uN15 H locs hq hP hD hS => ?_)
        obtain ⟨hu15, gr15, xr15⟩ := hq
        rw [hu15] at hP hD
        have xr15 : r15.toInt = 2048 * (u.1 32 11).toInt + 256 * v11.toInt + v14.toInt := xr15
        refine a_bald F hP 37 tc_37 rfl (i_in rfl (by omega)) dX7_fewestGoings_181 (fun v16 ev16 => ?_)
        have hv16 : (-128 : Int) ≤ v16.toInt ∧ v16.toInt ≤ 127 := ev16 ▸ hR 37 _
        refine lv_istore_n (lv' := [(2, .int v16), (0, .ref (ad 32))]) F.1 F.2.1 dX7_fewestGoings_182 rfl hl (by decide) rfl (fun ls hl => ?_)
        refine lv_iload_n F.1 F.2.1 dX7_fewestGoings_183 rfl (lv_at hl 0 rfl) ?_
        refine a_bp F (99 : Int32) dX7_fewestGoings_184 (by decide) ?_
        refine b_ge F 193 dX7_fewestGoings_186 (by decide) rfl ic_99 (fun c17 => ?_) (fun c17 => ?_)
        · refine a_ic F (-1 : Int32) dX7_fewestGoings_193 (by decide) ?_
          exact a_reti F hr hlocks hP hD hS dX7_fewestGoings_194 ⟨hR, hF, (by decide), (by first | exact (by omega : 1 ≤ (u.1 32 9).toInt) | (rw [ic_m1]; exact (by omega : 1 ≤ (u.1 32 9).toInt)))⟩
        · refine lv_iload_n F.1 F.2.1 dX7_fewestGoings_189 rfl (lv_at hl 0 rfl) ?_
          refine lv_goto (tgt := 194) F.1 F.2.1 dX7_fewestGoings_190 (by decide) ?_
          exact a_reti F hr hlocks hP hD hS dX7_fewestGoings_194 ⟨hR, hF, (by omega : (-128 : Int) ≤ v16.toInt ∧ v16.toInt ≤ 98), (by omega : 1 ≤ (u.1 32 9).toInt)⟩
      · refine a_ic F (0 : Int32) dX7_fewestGoings_114 (by decide) ?_
        refine lv_istore_n (lv' := [(3, .int (0 : Int32)), (0, .ref (ad 32)), (2, .int x2)]) F.1 F.2.1 dX7_fewestGoings_115 rfl hl (by decide) rfl (fun ls hl => ?_)
        have g18 : (0 : Int) ≤ (u.1 32 9).toInt ∧ (u.1 32 9).toInt ≤ 256 := hR 32 9
        exact L116 10 x2 (0 : Int32) _ _ _ _ hR hF (by decide) (by omega) (by decide) (by omega : (1 : Int) ≤ (u.1 32 9).toInt ∧ (u.1 32 9).toInt ≤ 256) (by omega) hP hD hS (lv_sub hl [1, 2, 0] rfl)
  have L25 : ∀ (n25 : Nat) (x2 : Int32) (u : ac_U) (H : Heap) (locs : List Loc) (ls : Array Slot), ac_R rg u → ac_Fr [(32, some 9), (35, none), (37, none)] u0 u → 8 - x2.toInt < (n25 : Int) → (0 : Int) ≤ x2.toInt ∧ x2.toInt ≤ 8 → (1 : Int) ≤ (u.1 32 9).toInt ∧ (u.1 32 9).toInt ≤ 256 → va_P (dC, dI) vwCl (ac_w ad cA (TT nF) u) H → va_D A (ac_w ad cA (TT nF) u) → va_S A s.heap H locs → lv_has ls 4 [(0, .ref (ad 32)), (2, .int x2)] → W p l e (ac_rm 4) s m [.ref (ad 32), .int p0].toArray below meth c H locs 0 0 (MQ below (va_Qi (fun (r : Int32) (u : ac_U) => ac_R rg u ∧ ac_Fr [(32, some 9), (35, none), (37, none)] u0 u ∧ ((-128 : Int) ≤ r.toInt ∧ r.toInt ≤ 98) ∧ (1 ≤ (u.1 32 9).toInt)) (ac_B (dC, dI) vwCl (ac_ty cA) ad cA (TT nF) A) A) [.ref (ad 32), .int p0].toArray s 0 0 A) (F0 m 25 ls []) := by
    intro n25
    induction n25 with
    | zero => intro x2 u H locs ls hR hF hn25 f0 f1 hP hD hS hl; exfalso; omega
    | succ n25 ih25 =>
      intro x2 u H locs ls hR hF hn25 f0 f1 hP hD hS hl
      have L38 : ∀ (n38 : Nat) (x2 : Int32) (x3 : Int32) (u : ac_U) (H : Heap) (locs : List Loc) (ls : Array Slot), ac_R rg u → ac_Fr [(32, some 9), (35, none), (37, none)] u0 u → 256 - x3.toInt < (n38 : Int) → (0 : Int) ≤ x2.toInt ∧ x2.toInt ≤ 7 → (0 : Int) ≤ x3.toInt ∧ x3.toInt ≤ 256 → (1 : Int) ≤ (u.1 4 1).toInt ∧ (u.1 4 1).toInt ≤ 8 → (1 : Int) ≤ (u.1 32 9).toInt ∧ (u.1 32 9).toInt ≤ 256 → 8 - x2.toInt + 0 < ((n25 : Nat) : Int) + 1 → va_P (dC, dI) vwCl (ac_w ad cA (TT nF) u) H → va_D A (ac_w ad cA (TT nF) u) → va_S A s.heap H locs → lv_has ls 4 [(0, .ref (ad 32)), (2, .int x2), (3, .int x3)] → W p l e (ac_rm 4) s m [.ref (ad 32), .int p0].toArray below meth c H locs 0 0 (MQ below (va_Qi (fun (r : Int32) (u : ac_U) => ac_R rg u ∧ ac_Fr [(32, some 9), (35, none), (37, none)] u0 u ∧ ((-128 : Int) ≤ r.toInt ∧ r.toInt ≤ 98) ∧ (1 ≤ (u.1 32 9).toInt)) (ac_B (dC, dI) vwCl (ac_ty cA) ad cA (TT nF) A) A) [.ref (ad 32), .int p0].toArray s 0 0 A) (F0 m 38 ls []) := by
        intro n38
        induction n38 with
        | zero => intro x2 x3 u H locs ls hR hF hn38 f0 f1 f2 f3 f4 hP hD hS hl; exfalso; omega
        | succ n38 ih38 =>
          intro x2 x3 u H locs ls hR hF hn38 f0 f1 f2 f3 f4 hP hD hS hl
          have L82 : ∀ (x2 : Int32) (x3 : Int32) (z1 : Int32) (z2 : Int32) (u : ac_U) (H : Heap) (locs : List Loc) (ls : Array Slot), ac_R rg u → ac_Fr [(32, some 9), (35, none), (37, none)] u0 u → (0 : Int) ≤ x2.toInt ∧ x2.toInt ≤ 7 → (0 : Int) ≤ x3.toInt ∧ x3.toInt ≤ 255 → (8192 : Int) ≤ z1.toInt ∧ z1.toInt ≤ 51199 → (0 : Int) ≤ z2.toInt ∧ z2.toInt ≤ 99 → (1 : Int) ≤ (u.1 4 1).toInt ∧ (u.1 4 1).toInt ≤ 8 → (1 : Int) ≤ (u.1 32 9).toInt ∧ (u.1 32 9).toInt ≤ 256 → 8 - x2.toInt + 0 < ((n25 : Nat) : Int) + 1 → 256 - x3.toInt + 0 < ((n38 : Nat) : Int) + 1 → va_P (dC, dI) vwCl (ac_w ad cA (TT nF) u) H → va_D A (ac_w ad cA (TT nF) u) → va_S A s.heap H locs → lv_has ls 4 [(0, .ref (ad 32)), (2, .int x2), (3, .int x3)] → W p l e (ac_rm 4) s m [.ref (ad 32), .int p0].toArray below meth c H locs 0 0 (MQ below (va_Qi (fun (r : Int32) (u : ac_U) => ac_R rg u ∧ ac_Fr [(32, some 9), (35, none), (37, none)] u0 u ∧ ((-128 : Int) ≤ r.toInt ∧ r.toInt ≤ 98) ∧ (1 ≤ (u.1 32 9).toInt)) (ac_B (dC, dI) vwCl (ac_ty cA) ad cA (TT nF) A) A) [.ref (ad 32), .int p0].toArray s 0 0 A) (F0 m 82 ls [.int z2, .int z1, .ref (ad 37)]) := by
            intro x2 x3 z1 z2 u H locs ls hR hF f0 f1 f2 f3 f4 f5 f6 f7 hP hD hS hl
            refine a_i2b F dX7_fewestGoings_82 (fun v19 bv19 hv19 => ?_)
            refine a_bast F hP hD hS 37 tc_37 rfl (i_in rfl (by omega)) dX7_fewestGoings_83 (fun H locs hP hD hS => ?_)
            rw [bv19] at hP hD
            have hR := hR.si (c := 37) (k := z1.toNatClampNeg) (v := v19) (by omega : (-128 : Int) ≤ v19.toInt ∧ v19.toInt ≤ 127)
            have hF := hF.si (c := 37) (k := z1.toNatClampNeg) (v := v19) rfl
            refine a_iinc F (k := 2) (fun v20 => [(3, .int v20), (0, .ref (ad 32)), (2, .int x2)]) dX7_fewestGoings_84 hl rfl rfl (by decide) (by omega) (by decide) (fun _ => rfl) (fun v20 ls hv20 hl => ?_)
            refine lv_goto (tgt := 38) F.1 F.2.1 dX7_fewestGoings_87 (by decide) ?_
            have g21 : (0 : Int) ≤ (u.1 4 1).toInt ∧ (u.1 4 1).toInt ≤ 8 := hR 4 1
            have g22 : (0 : Int) ≤ (u.1 32 9).toInt ∧ (u.1 32 9).toInt ≤ 256 := hR 32 9
            exact ih38 x2 v20 _ _ _ _ hR hF (by omega) (by omega) (by omega) (by omega : (1 : Int) ≤ (u.1 4 1).toInt ∧ (u.1 4 1).toInt ≤ 8) (by omega : (1 : Int) ≤ (u.1 32 9).toInt ∧ (u.1 32 9).toInt ≤ 256) (by omega) hP hD hS (lv_sub hl [1, 2, 0] rfl)
          refine lv_iload_n F.1 F.2.1 dX7_fewestGoings_38 rfl (lv_at hl 2 rfl) ?_
          refine lv_aload_n F.1 F.2.1 dX7_fewestGoings_39 rfl (lv_at hl 0 rfl) ?_
          have g23 : (0 : Int) ≤ (u.1 32 9).toInt ∧ (u.1 32 9).toInt ≤ 256 := hR 32 9
          refine a_geti F inX7 hP 32 9 tc_32 rfl rfl (by decide) q343 (fun _ h9 => h9) (v := (u.1 32 9)) rfl dX7_fewestGoings_40 ?_
          refine b_ge F 90 dX7_fewestGoings_43 (by decide) rfl rfl (fun c24 => ?_) (fun c24 => ?_)
          · refine a_iinc F (k := 1) (fun v25 => [(2, .int v25), (0, .ref (ad 32)), (3, .int x3)]) dX7_fewestGoings_90 hl rfl rfl (by decide) (by omega) (by decide) (fun _ => rfl) (fun v25 ls hv25 hl => ?_)
            refine lv_goto (tgt := 25) F.1 F.2.1 dX7_fewestGoings_93 (by decide) ?_
            exact ih25 v25 _ _ _ _ hR hF (by omega) (by omega) (by omega : (1 : Int) ≤ (u.1 32 9).toInt ∧ (u.1 32 9).toInt ≤ 256) hP hD hS (lv_sub hl [1, 0] rfl)
          · refine lv_aload_n F.1 F.2.1 dX7_fewestGoings_46 rfl (lv_at hl 0 rfl) ?_
            refine a_getr F inX7 hP 32 7 tc_32 rfl rfl (by decide) q341 (fun _ h9 => h9) dX7_fewestGoings_47 ?_
            refine lv_aload_n F.1 F.2.1 dX7_fewestGoings_50 rfl (lv_at hl 0 rfl) ?_
            refine a_getr F inX7 hP 32 0 tc_32 rfl rfl (by decide) q334 (fun _ h9 => h9) dX7_fewestGoings_51 ?_
            have g26 : (4 : Int) ≤ (u.1 4 0).toInt ∧ (u.1 4 0).toInt ≤ 24 := hR 4 0
            refine a_geti F inX2 hP 4 0 tc_4 rfl rfl (by decide) q155 (fun _ h9 => h9) (v := (u.1 4 0)) rfl dX7_fewestGoings_54 ?_
            refine lv_iload_n F.1 F.2.1 dX7_fewestGoings_57 rfl (lv_at hl 1 rfl) ?_
            refine lv_aload_n F.1 F.2.1 dX7_fewestGoings_58 rfl (lv_at hl 0 rfl) ?_
            refine a_getr F inX7 hP 32 5 tc_32 rfl rfl (by decide) q339 (fun _ h9 => h9) dX7_fewestGoings_59 ?_
            refine lv_iload_n F.1 F.2.1 dX7_fewestGoings_62 rfl (lv_at hl 2 rfl) ?_
            refine a_iald F hP 35 tc_35 rfl (i_in rfl (by omega)) dX7_fewestGoings_63 (fun v27 ev27 => ?_)
            have hv27 : (0 : Int) ≤ v27.toInt ∧ v27.toInt ≤ 255 := ev27 ▸ hR 35 _
            refine a_Si F hml hl.1 hA hP hD hS (As := [.int (u.1 4 0), .int x2, .int v27]) (c_X7_cell l dC dI ad cA nF _ (u.1 4 0) x2 v27 hR (by omega) (by omega) (by omega)) (cs_RX7_111 (d := 1) F.2.2.1 (by decide)) rfl rfl (Nat.le_of_ble_eq_true rfl) dX7_fewestGoings_64 ⟨Nat.le_refl 0, Nat.le_refl 0⟩ (fun r28 uN28 H locs hq hP hD hS => ?_)
            obtain ⟨hu28, gr28, xr28⟩ := hq
            rw [hu28] at hP hD
            have xr28 : r28.toInt = 2048 * (u.1 4 0).toInt + 256 * x2.toInt + v27.toInt := xr28
            refine lv_aload_n F.1 F.2.1 dX7_fewestGoings_67 rfl (lv_at hl 0 rfl) ?_
            refine a_getr F inX7 hP 32 5 tc_32 rfl rfl (by decide) q339 (fun _ h9 => h9) dX7_fewestGoings_68 ?_
            refine lv_iload_n F.1 F.2.1 dX7_fewestGoings_71 rfl (lv_at hl 2 rfl) ?_
            refine a_iald F hP 35 tc_35 rfl (i_in rfl (by omega)) dX7_fewestGoings_72 (fun v29 ev29 => ?_)
            have hv29 : (0 : Int) ≤ v29.toInt ∧ v29.toInt ≤ 255 := ev29 ▸ hR 35 _
            refine z_ne F 80 dX7_fewestGoings_73 (by decide) rfl (fun c30 => ?_) (fun c30 => ?_)
            · refine a_bp F (99 : Int32) dX7_fewestGoings_80 (by decide) ?_
              have g31 : (0 : Int) ≤ (u.1 4 1).toInt ∧ (u.1 4 1).toInt ≤ 8 := hR 4 1
              exact L82 x2 x3 r28 (99 : Int32) _ _ _ _ hR hF (by omega) (by omega) (by omega) (by decide) (by omega : (1 : Int) ≤ (u.1 4 1).toInt ∧ (u.1 4 1).toInt ≤ 8) (by omega : (1 : Int) ≤ (u.1 32 9).toInt ∧ (u.1 32 9).toInt ≤ 256) (by omega) (by omega) hP hD hS (lv_sub hl [0, 1, 2] rfl)
            · refine a_ic F (0 : Int32) dX7_fewestGoings_76 (by decide) ?_
              refine lv_goto (tgt := 82) F.1 F.2.1 dX7_fewestGoings_77 (by decide) ?_
              have g32 : (0 : Int) ≤ (u.1 4 1).toInt ∧ (u.1 4 1).toInt ≤ 8 := hR 4 1
              exact L82 x2 x3 r28 (0 : Int32) _ _ _ _ hR hF (by omega) (by omega) (by omega) (by decide) (by omega : (1 : Int) ≤ (u.1 4 1).toInt ∧ (u.1 4 1).toInt ≤ 8) (by omega : (1 : Int) ≤ (u.1 32 9).toInt ∧ (u.1 32 9).toInt ≤ 256) (by omega) (by omega) hP hD hS (lv_sub hl [0, 1, 2] rfl)
      refine lv_iload_n F.1 F.2.1 dX7_fewestGoings_25 rfl (lv_at hl 1 rfl) ?_
      refine lv_aload_n F.1 F.2.1 dX7_fewestGoings_26 rfl (lv_at hl 0 rfl) ?_
      refine a_getr F inX7 hP 32 0 tc_32 rfl rfl (by decide) q334 (fun _ h9 => h9) dX7_fewestGoings_27 ?_
      have g33 : (0 : Int) ≤ (u.1 4 1).toInt ∧ (u.1 4 1).toInt ≤ 8 := hR 4 1
      refine a_geti F inX2 hP 4 1 tc_4 rfl rfl (by decide) q160 (fun _ h9 => h9) (v := (u.1 4 1)) rfl dX7_fewestGoings_30 ?_
      refine b_ge F 96 dX7_fewestGoings_33 (by decide) rfl rfl (fun c34 => ?_) (fun c34 => ?_)
      · refine lv_aload_n F.1 F.2.1 dX7_fewestGoings_96 rfl (lv_at hl 0 rfl) ?_
        refine a_getr F inX7 hP 32 0 tc_32 rfl rfl (by decide) q334 (fun _ h9 => h9) dX7_fewestGoings_97 ?_
        have g35 : (4 : Int) ≤ (u.1 4 0).toInt ∧ (u.1 4 0).toInt ≤ 24 := hR 4 0
        refine a_geti F inX2 hP 4 0 tc_4 rfl rfl (by decide) q155 (fun _ h9 => h9) (v := (u.1 4 0)) rfl dX7_fewestGoings_100 ?_
        refine a_ic F (1 : Int32) dX7_fewestGoings_103 (by decide) ?_
        refine a_isub F dX7_fewestGoings_104 rfl ic_1 (by omega) (fun v36 hv36 => ?_)
        refine lv_istore_n (lv' := [(2, .int v36), (0, .ref (ad 32))]) F.1 F.2.1 dX7_fewestGoings_105 rfl hl (by decide) rfl (fun ls hl => ?_)
        have g37 : (0 : Int) ≤ (u.1 32 9).toInt ∧ (u.1 32 9).toInt ≤ 256 := hR 32 9
        exact L106 26 v36 _ _ _ _ hR hF (by omega) (by omega) (by omega : (1 : Int) ≤ (u.1 32 9).toInt ∧ (u.1 32 9).toInt ≤ 256) hP hD hS (lv_sub hl [1, 0] rfl)
      · refine a_ic F (0 : Int32) dX7_fewestGoings_36 (by decide) ?_
        refine lv_istore_n (lv' := [(3, .int (0 : Int32)), (0, .ref (ad 32)), (2, .int x2)]) F.1 F.2.1 dX7_fewestGoings_37 rfl hl (by decide) rfl (fun ls hl => ?_)
        have g38 : (0 : Int) ≤ (u.1 32 9).toInt ∧ (u.1 32 9).toInt ≤ 256 := hR 32 9
        exact L38 258 x2 (0 : Int32) _ _ _ _ hR hF (by decide) (by omega) (by decide) (by omega : (1 : Int) ≤ (u.1 4 1).toInt ∧ (u.1 4 1).toInt ≤ 8) (by omega : (1 : Int) ≤ (u.1 32 9).toInt ∧ (u.1 32 9).toInt ≤ 256) (by omega) hP hD hS (lv_sub hl [1, 2, 0] rfl)
  have L18 : ∀ (u : ac_U) (H : Heap) (locs : List Loc) (ls : Array Slot), ac_R rg u → ac_Fr [(32, some 9), (35, none), (37, none)] u0 u → va_P (dC, dI) vwCl (ac_w ad cA (TT nF) u) H → va_D A (ac_w ad cA (TT nF) u) → va_S A s.heap H locs → lv_has ls 4 [(0, .ref (ad 32)), (1, .int p0)] → W p l e (ac_rm 4) s m [.ref (ad 32), .int p0].toArray below meth c H locs 0 0 (MQ below (va_Qi (fun (r : Int32) (u : ac_U) => ac_R rg u ∧ ac_Fr [(32, some 9), (35, none), (37, none)] u0 u ∧ ((-128 : Int) ≤ r.toInt ∧ r.toInt ≤ 98) ∧ (1 ≤ (u.1 32 9).toInt)) (ac_B (dC, dI) vwCl (ac_ty cA) ad cA (TT nF) A) A) [.ref (ad 32), .int p0].toArray s 0 0 A) (F0 m 18 ls []) := by
    intro u H locs ls hR hF hP hD hS hl
    refine lv_aload_n F.1 F.2.1 dX7_fewestGoings_18 rfl (lv_at hl 0 rfl) ?_
    refine lv_iload_n F.1 F.2.1 dX7_fewestGoings_19 rfl (lv_at hl 1 rfl) ?_
    refine a_Vv F hml hl.1 hA hP hD hS (As := [.int p0]) (c_X7_gatherStates_32 l dC dI ad cA nF _ p0 hR (by omega)) (cs_RX7_102 (d := 2) F.2.2.1 (by decide)) tc_32 rfl rfl rfl rfl (Nat.le_of_ble_eq_true rfl) dX7_fewestGoings_20 ⟨Nat.le_refl 0, Nat.le_refl 0⟩ (fun u39 H locs hq hP hD hS => ?_)
    obtain ⟨hR, hF39, xr39⟩ := hq
    have hF := hF.tr hF39 (by decide)
    have g40 : (0 : Int) ≤ (u39.1 32 9).toInt ∧ (u39.1 32 9).toInt ≤ 256 := hR 32 9
    have xr39 : 1 ≤ (u39.1 32 9).toInt := xr39
    refine a_ic F (0 : Int32) dX7_fewestGoings_23 (by decide) ?_
    refine lv_istore_n (lv' := [(2, .int (0 : Int32)), (0, .ref (ad 32)), (1, .int p0)]) F.1 F.2.1 dX7_fewestGoings_24 rfl hl (by decide) rfl (fun ls hl => ?_)
    exact L25 10 (0 : Int32) _ _ _ _ hR hF (by decide) (by decide) (by omega : (1 : Int) ≤ (u39.1 32 9).toInt ∧ (u39.1 32 9).toInt ≤ 256) hP hD hS (lv_sub hl [1, 0] rfl)
  refine lv_aload_n F.1 F.2.1 dX7_fewestGoings_0 rfl (lv_at hl 0 rfl) ?_
  refine a_getr F inX7 hP 32 7 tc_32 rfl rfl (by decide) q341 (fun _ h9 => h9) dX7_fewestGoings_1 ?_
  refine va_alen (v := (51200 : Int32)) F.1 F.2.1 F.2.2.2.2 hP 37 1 (ac_at tc_37) rfl (by rw [hnF]; rfl) dX7_fewestGoings_4 ?_
  refine lv_ldc (v := (51200 : Int32)) F.1 F.2.1 F.2.2.2.1 (F.2.2.1 _ q1017) dX7_fewestGoings_5 ?_
  refine b_ge F 18 dX7_fewestGoings_7 (by decide) ic_51200 ic_51200 (fun c41 => ?_) (fun c41 => ?_)
  · exact L18 _ _ _ _ hR hF hP hD hS (lv_sub hl [0, 1] rfl)
  · exfalso; omega
set_option maxHeartbeats 600000 in
set_option maxRecDepth 100000 in
theorem c_X7_firstStep_32 (l : Launch) (dC : Nat → ClassId) (dI : Nat → Nat → Nat) (ad : Nat → Nat) (cA : Nat → ClassId) (nF : Nat) (u0 : ac_U) (p0 : Int32) (p1 : Int32) (p2 : Int32) (p3 : Int32) (hR : ac_R rg u0) (hp0 : (0 : Int) ≤ p0.toInt ∧ p0.toInt ≤ 23) (hp1 : (0 : Int) ≤ p1.toInt ∧ p1.toInt ≤ 7) (hp2 : (0 : Int) ≤ p2.toInt ∧ p2.toInt ≤ 255) (hnF : nF = 51200) : ac_Mi l yX7_firstStep (.code yX7_firstStep cX7_firstStep 7 (some .int) :: TB) 3 (dC, dI) vwCl (ac_ty cA) ad cA (TT nF) [.ref (ad 32), .int p0, .int p1, .int p2, .int p3] u0 (fun (r : Int32) (u : ac_U) => u = u0 ∧ ((0 : Int) ≤ r.toInt ∧ r.toInt ≤ 205) ∧ (r.toInt < 200 → r.toInt ≤ 107)) := by
  refine ac_Mi.of (cc := cX7_firstStep) (maxL := 7) (ret := (some .int)) (by decide) rfl (Nat.le_of_ble_eq_true rfl) ?_
  intro p e s m below meth c A ls F hml hr hlocks hA hP hD hS hl
  have F : ac_X p s m [.ref (ad 32), .int p0, .int p1, .int p2, .int p3].toArray c cX7_firstStep RX7 TB (dC, dI) vwCl (ac_ty cA) := ⟨F.1, F.2.1, fun w h => F.2.2.1 w (List.mem_cons_of_mem _ h), F.2.2.2.1, F.2.2.2.2⟩
  have hl : lv_has ls 7 [(0, .ref (ad 32)), (1, .int p0), (2, .int p1), (3, .int p2), (4, .int p3)] := hl
  have L92 : ∀ (n92 : Nat) (x5 : Int32) (H : Heap) (locs : List Loc) (ls : Array Slot), 6 - x5.toInt < (n92 : Int) → (0 : Int) ≤ x5.toInt ∧ x5.toInt ≤ 6 → va_P (dC, dI) vwCl (ac_w ad cA (TT nF) u0) H → va_D A (ac_w ad cA (TT nF) u0) → va_S A s.heap H locs → lv_has ls 7 [(0, .ref (ad 32)), (1, .int p0), (2, .int p1), (3, .int p2), (4, .int p3), (5, .int x5)] → W p l e (ac_rm 3) s m [.ref (ad 32), .int p0, .int p1, .int p2, .int p3].toArray below meth c H locs 0 0 (MQ below (va_Qi (fun (r : Int32) (u : ac_U) => u = u0 ∧ ((0 : Int) ≤ r.toInt ∧ r.toInt ≤ 205) ∧ (r.toInt < 200 → r.toInt ≤ 107)) (ac_B (dC, dI) vwCl (ac_ty cA) ad cA (TT nF) A) A) [.ref (ad 32), .int p0, .int p1, .int p2, .int p3].toArray s 0 0 A) (F0 m 92 ls []) := by
    intro n92
    induction n92 with
    | zero => intro x5 H locs ls hn92 f0 hP hD hS hl; exfalso; omega
    | succ n92 ih92 =>
      intro x5 H locs ls hn92 f0 hP hD hS hl
      refine lv_iload F.1 F.2.1 dX7_firstStep_92 (lv_at hl 5 rfl) ?_
      refine lv_aload_n F.1 F.2.1 dX7_firstStep_94 rfl (lv_at hl 0 rfl) ?_
      refine a_getr F inX7 hP 32 0 tc_32 rfl rfl (by decide) q334 (fun _ h9 => h9) dX7_firstStep_95 ?_
      have g1 : (0 : Int) ≤ (u0.1 4 5).toInt ∧ (u0.1 4 5).toInt ≤ 6 := hR 4 5
      refine a_geti F inX2 hP 4 5 tc_4 rfl rfl (by decide) q176 (fun _ h9 => h9) (v := (u0.1 4 5)) rfl dX7_firstStep_98 ?_
      refine b_ge F 150 dX7_firstStep_101 (by decide) rfl rfl (fun c2 => ?_) (fun c2 => ?_)
      · refine a_ic F (0 : Int32) dX7_firstStep_150 (by decide) ?_
        exact a_reti F hr hlocks hP hD hS dX7_firstStep_151 ⟨rfl, (by decide), (by first | exact (by omega : (0 : Int) < 200 → (0 : Int) ≤ 107) | (rw [ic_0]; exact (by omega : (0 : Int) < 200 → (0 : Int) ≤ 107)))⟩
      · refine lv_iload_n F.1 F.2.1 dX7_firstStep_104 rfl (lv_at hl 3 rfl) ?_
        refine lv_aload_n F.1 F.2.1 dX7_firstStep_105 rfl (lv_at hl 0 rfl) ?_
        refine lv_iload_n F.1 F.2.1 dX7_firstStep_106 rfl (lv_at hl 1 rfl) ?_
        refine lv_iload_n F.1 F.2.1 dX7_firstStep_107 rfl (lv_at hl 2 rfl) ?_
        refine lv_iload F.1 F.2.1 dX7_firstStep_108 (lv_at hl 5 rfl) ?_
        refine a_Vi F hml hl.1 hA hP hD hS (As := [.int p0, .int p1, .int x5]) (c_X7_countedFor_32 l dC dI ad cA nF _ p0 p1 x5 hR (by omega) (by omega)) (cs_RX7_144 (d := 2) F.2.2.1 (by decide)) tc_32 rfl rfl rfl rfl (Nat.le_of_ble_eq_true rfl) dX7_firstStep_110 ⟨Nat.le_refl 0, Nat.le_refl 0⟩ (fun r3 uN3 H locs hq hP hD hS => ?_)
        obtain ⟨hu3, gr3, hE_r3⟩ := hq
        rw [hu3] at hP hD
        refine a_Si F hml hl.1 hA hP hD hS (As := [.int p2, .int r3]) (c_X7_afterDeed l dC dI ad cA nF _ p2 r3 hR (by omega) (by omega) hE_r3) (cs_RX7_151 (d := 1) F.2.2.1 (by decide)) rfl rfl (Nat.le_of_ble_eq_true rfl) dX7_firstStep_113 ⟨Nat.le_refl 0, Nat.le_refl 0⟩ (fun r4 uN4 H locs hq hP hD hS => ?_)
        obtain ⟨hu4, gr4⟩ := hq
        rw [hu4] at hP hD
        refine lv_istore (lv' := [(6, .int r4), (0, .ref (ad 32)), (1, .int p0), (2, .int p1), (3, .int p2), (4, .int p3), (5, .int x5)]) F.1 F.2.1 dX7_firstStep_116 hl (by decide) rfl (fun ls hl => ?_)
        refine lv_aload_n F.1 F.2.1 dX7_firstStep_118 rfl (lv_at hl 1 rfl) ?_
        refine a_getr F inX7 hP 32 7 tc_32 rfl rfl (by decide) q341 (fun _ h9 => h9) dX7_firstStep_119 ?_
        refine lv_iload_n F.1 F.2.1 dX7_firstStep_122 rfl (lv_at hl 2 rfl) ?_
        refine a_ic F (1 : Int32) dX7_firstStep_123 (by decide) ?_
        refine a_iadd F dX7_firstStep_124 rfl ic_1 (by omega) (fun v5 hv5 => ?_)
        refine lv_iload_n F.1 F.2.1 dX7_firstStep_125 rfl (lv_at hl 3 rfl) ?_
        refine lv_iload F.1 F.2.1 dX7_firstStep_126 (lv_at hl 0 rfl) ?_
        refine a_Si F hml hl.1 hA hP hD hS (As := [.int v5, .int p1, .int r4]) (c_X7_cell l dC dI ad cA nF _ v5 p1 r4 hR (by omega) (by omega) (by omega)) (cs_RX7_111 (d := 1) F.2.2.1 (by decide)) rfl rfl (Nat.le_of_ble_eq_true rfl) dX7_firstStep_128 ⟨Nat.le_refl 0, Nat.le_refl 0⟩ (fun r6 uN6 H locs hq hP hD hS => ?_)
        obtain ⟨hu6, gr6, xr6⟩ := hq
        rw [hu6] at hP hD
        have xr6 : r6.toInt = 2048 * v5.toInt + 256 * p1.toInt + r4.toInt := xr6
        refine a_bald F hP 37 tc_37 rfl (i_in rfl (by omega)) dX7_firstStep_131 (fun v7 ev7 => ?_)
        have hv7 : (-128 : Int) ≤ v7.toInt ∧ v7.toInt ≤ 127 := ev7 ▸ hR 37 _
        refine lv_iload F.1 F.2.1 dX7_firstStep_132 (lv_at hl 5 rfl) ?_
        refine b_ne F 144 dX7_firstStep_134 (by decide) rfl rfl (fun c8 => ?_) (fun c8 => ?_)
        · refine a_iinc F (k := 6) (fun v9 => [(5, .int v9), (6, .int r4), (0, .ref (ad 32)), (1, .int p0), (2, .int p1), (3, .int p2), (4, .int p3)]) dX7_firstStep_144 hl rfl rfl (by decide) (by omega) (by decide) (fun _ => rfl) (fun v9 ls hv9 hl => ?_)
          refine lv_goto (tgt := 92) F.1 F.2.1 dX7_firstStep_147 (by decide) ?_
          exact ih92 v9 _ _ _ (by omega) (by omega) hP hD hS (lv_sub hl [2, 3, 4, 5, 6, 0] rfl)
        · refine a_sp F (200 : Int32) dX7_firstStep_137 (by decide) ?_
          refine lv_iload F.1 F.2.1 dX7_firstStep_140 (lv_at hl 6 rfl) ?_
          refine a_iadd F dX7_firstStep_142 ic_200 rfl (by omega) (fun v10 hv10 => ?_)
          exact a_reti F hr hlocks hP hD hS dX7_firstStep_143 ⟨rfl, (by omega : (0 : Int) ≤ v10.toInt ∧ v10.toInt ≤ 205), (by omega : v10.toInt < 200 → v10.toInt ≤ 107)⟩
  have L31 : ∀ (n31 : Nat) (x5 : Int32) (H : Heap) (locs : List Loc) (ls : Array Slot), 8 - x5.toInt < (n31 : Int) → (0 : Int) ≤ x5.toInt ∧ x5.toInt ≤ 8 → va_P (dC, dI) vwCl (ac_w ad cA (TT nF) u0) H → va_D A (ac_w ad cA (TT nF) u0) → va_S A s.heap H locs → lv_has ls 7 [(0, .ref (ad 32)), (1, .int p0), (2, .int p1), (3, .int p2), (4, .int p3), (5, .int x5)] → W p l e (ac_rm 3) s m [.ref (ad 32), .int p0, .int p1, .int p2, .int p3].toArray below meth c H locs 0 0 (MQ below (va_Qi (fun (r : Int32) (u : ac_U) => u = u0 ∧ ((0 : Int) ≤ r.toInt ∧ r.toInt ≤ 205) ∧ (r.toInt < 200 → r.toInt ≤ 107)) (ac_B (dC, dI) vwCl (ac_ty cA) ad cA (TT nF) A) A) [.ref (ad 32), .int p0, .int p1, .int p2, .int p3].toArray s 0 0 A) (F0 m 31 ls []) := by
    intro n31
    induction n31 with
    | zero => intro x5 H locs ls hn31 f0 hP hD hS hl; exfalso; omega
    | succ n31 ih31 =>
      intro x5 H locs ls hn31 f0 hP hD hS hl
      have L83 : ∀ (x5 : Int32) (H : Heap) (locs : List Loc) (ls : Array Slot), (0 : Int) ≤ x5.toInt ∧ x5.toInt ≤ 7 → (1 : Int) ≤ (u0.1 4 1).toInt ∧ (u0.1 4 1).toInt ≤ 8 → 8 - x5.toInt + 0 < ((n31 : Nat) : Int) + 1 → va_P (dC, dI) vwCl (ac_w ad cA (TT nF) u0) H → va_D A (ac_w ad cA (TT nF) u0) → va_S A s.heap H locs → lv_has ls 7 [(0, .ref (ad 32)), (1, .int p0), (2, .int p1), (3, .int p2), (4, .int p3), (5, .int x5)] → W p l e (ac_rm 3) s m [.ref (ad 32), .int p0, .int p1, .int p2, .int p3].toArray below meth c H locs 0 0 (MQ below (va_Qi (fun (r : Int32) (u : ac_U) => u = u0 ∧ ((0 : Int) ≤ r.toInt ∧ r.toInt ≤ 205) ∧ (r.toInt < 200 → r.toInt ≤ 107)) (ac_B (dC, dI) vwCl (ac_ty cA) ad cA (TT nF) A) A) [.ref (ad 32), .int p0, .int p1, .int p2, .int p3].toArray s 0 0 A) (F0 m 83 ls []) := by
        intro x5 H locs ls f0 f1 f2 hP hD hS hl
        refine a_iinc F (k := 5) (fun v11 => [(5, .int v11), (0, .ref (ad 32)), (1, .int p0), (2, .int p1), (3, .int p2), (4, .int p3)]) dX7_firstStep_83 hl rfl rfl (by decide) (by omega) (by decide) (fun _ => rfl) (fun v11 ls hv11 hl => ?_)
        refine lv_goto (tgt := 31) F.1 F.2.1 dX7_firstStep_86 (by decide) ?_
        exact ih31 v11 _ _ _ (by omega) (by omega) hP hD hS (lv_sub hl [1, 2, 3, 4, 5, 0] rfl)
      refine lv_iload F.1 F.2.1 dX7_firstStep_31 (lv_at hl 5 rfl) ?_
      refine lv_aload_n F.1 F.2.1 dX7_firstStep_33 rfl (lv_at hl 0 rfl) ?_
      refine a_getr F inX7 hP 32 0 tc_32 rfl rfl (by decide) q334 (fun _ h9 => h9) dX7_firstStep_34 ?_
      have g12 : (0 : Int) ≤ (u0.1 4 1).toInt ∧ (u0.1 4 1).toInt ≤ 8 := hR 4 1
      refine a_geti F inX2 hP 4 1 tc_4 rfl rfl (by decide) q160 (fun _ h9 => h9) (v := (u0.1 4 1)) rfl dX7_firstStep_37 ?_
      refine b_ge F 89 dX7_firstStep_40 (by decide) rfl rfl (fun c13 => ?_) (fun c13 => ?_)
      · refine a_ic F (0 : Int32) dX7_firstStep_89 (by decide) ?_
        refine lv_istore (lv' := [(5, .int (0 : Int32)), (0, .ref (ad 32)), (1, .int p0), (2, .int p1), (3, .int p2), (4, .int p3)]) F.1 F.2.1 dX7_firstStep_90 hl (by decide) rfl (fun ls hl => ?_)
        exact L92 8 (0 : Int32) _ _ _ (by decide) (by decide) hP hD hS (lv_sub hl [1, 2, 3, 4, 5, 0] rfl)
      · refine lv_aload_n F.1 F.2.1 dX7_firstStep_43 rfl (lv_at hl 0 rfl) ?_
        refine a_getr F inX7 hP 32 0 tc_32 rfl rfl (by decide) q334 (fun _ h9 => h9) dX7_firstStep_44 ?_
        refine lv_iload_n F.1 F.2.1 dX7_firstStep_47 rfl (lv_at hl 2 rfl) ?_
        refine lv_iload F.1 F.2.1 dX7_firstStep_48 (lv_at hl 5 rfl) ?_
        refine a_Vi F hml hl.1 hA hP hD hS (As := [.int p1, .int x5]) (c_X2_isNear_4 l dC dI ad cA nF _ p1 x5 hR (by omega)) (cs_RX7_135 (d := 1) F.2.2.1 (by decide)) tc_4 rfl rfl rfl rfl (Nat.le_of_ble_eq_true rfl) dX7_firstStep_50 ⟨Nat.le_refl 0, Nat.le_refl 0⟩ (fun r14 uN14 H locs hq hP hD hS => ?_)
        obtain ⟨hu14, gr14⟩ := hq
        rw [hu14] at hP hD
        refine z_eq F 83 dX7_firstStep_53 (by decide) rfl (fun c15 => ?_) (fun c15 => ?_)
        · exact L83 x5 _ _ _ (by omega) (by omega : (1 : Int) ≤ (u0.1 4 1).toInt ∧ (u0.1 4 1).toInt ≤ 8) (by omega) hP hD hS (lv_sub hl [0, 1, 2, 3, 4, 5] rfl)
        · refine a_ic F (1 : Int32) dX7_firstStep_56 (by decide) ?_
          refine lv_aload_n F.1 F.2.1 dX7_firstStep_57 rfl (lv_at hl 0 rfl) ?_
          refine a_getr F inX7 hP 32 7 tc_32 rfl rfl (by decide) q341 (fun _ h9 => h9) dX7_firstStep_58 ?_
          refine lv_iload_n F.1 F.2.1 dX7_firstStep_61 rfl (lv_at hl 1 rfl) ?_
          refine a_ic F (1 : Int32) dX7_firstStep_62 (by decide) ?_
          refine a_iadd F dX7_firstStep_63 rfl ic_1 (by omega) (fun v16 hv16 => ?_)
          refine lv_iload F.1 F.2.1 dX7_firstStep_64 (lv_at hl 5 rfl) ?_
          refine lv_iload_n F.1 F.2.1 dX7_firstStep_66 rfl (lv_at hl 3 rfl) ?_
          refine a_Si F hml hl.1 hA hP hD hS (As := [.int v16, .int x5, .int p2]) (c_X7_cell l dC dI ad cA nF _ v16 x5 p2 hR (by omega) (by omega) (by omega)) (cs_RX7_111 (d := 1) F.2.2.1 (by decide)) rfl rfl (Nat.le_of_ble_eq_true rfl) dX7_firstStep_67 ⟨Nat.le_refl 0, Nat.le_refl 0⟩ (fun r17 uN17 H locs hq hP hD hS => ?_)
          obtain ⟨hu17, gr17, xr17⟩ := hq
          rw [hu17] at hP hD
          have xr17 : r17.toInt = 2048 * v16.toInt + 256 * x5.toInt + p2.toInt := xr17
          refine a_bald F hP 37 tc_37 rfl (i_in rfl (by omega)) dX7_firstStep_70 (fun v18 ev18 => ?_)
          have hv18 : (-128 : Int) ≤ v18.toInt ∧ v18.toInt ≤ 127 := ev18 ▸ hR 37 _
          refine a_iadd F dX7_firstStep_71 ic_1 rfl (by omega) (fun v19 hv19 => ?_)
          refine lv_iload F.1 F.2.1 dX7_firstStep_72 (lv_at hl 4 rfl) ?_
          refine b_ne F 83 dX7_firstStep_74 (by decide) rfl rfl (fun c20 => ?_) (fun c20 => ?_)
          · exact L83 x5 _ _ _ (by omega) (by omega : (1 : Int) ≤ (u0.1 4 1).toInt ∧ (u0.1 4 1).toInt ≤ 8) (by omega) hP hD hS (lv_sub hl [0, 1, 2, 3, 4, 5] rfl)
          · refine a_bp F (100 : Int32) dX7_firstStep_77 (by decide) ?_
            refine lv_iload F.1 F.2.1 dX7_firstStep_79 (lv_at hl 5 rfl) ?_
            refine a_iadd F dX7_firstStep_81 ic_100 rfl (by omega) (fun v21 hv21 => ?_)
            exact a_reti F hr hlocks hP hD hS dX7_firstStep_82 ⟨rfl, (by omega : (0 : Int) ≤ v21.toInt ∧ v21.toInt ≤ 205), (by omega : v21.toInt < 200 → v21.toInt ≤ 107)⟩
  have L26 : ∀ (H : Heap) (locs : List Loc) (ls : Array Slot), va_P (dC, dI) vwCl (ac_w ad cA (TT nF) u0) H → va_D A (ac_w ad cA (TT nF) u0) → va_S A s.heap H locs → lv_has ls 7 [] → W p l e (ac_rm 3) s m [.ref (ad 32), .int p0, .int p1, .int p2, .int p3].toArray below meth c H locs 0 0 (MQ below (va_Qi (fun (r : Int32) (u : ac_U) => u = u0 ∧ ((0 : Int) ≤ r.toInt ∧ r.toInt ≤ 205) ∧ (r.toInt < 200 → r.toInt ≤ 107)) (ac_B (dC, dI) vwCl (ac_ty cA) ad cA (TT nF) A) A) [.ref (ad 32), .int p0, .int p1, .int p2, .int p3].toArray s 0 0 A) (F0 m 26 ls []) := by
    intro H locs ls hP hD hS hl
    refine a_ic F (0 : Int32) dX7_firstStep_26 (by decide) ?_
    exact a_reti F hr hlocks hP hD hS dX7_firstStep_27 ⟨rfl, (by decide), (by first | exact (by omega : (0 : Int) < 200 → (0 : Int) ≤ 107) | (rw [ic_0]; exact (by omega : (0 : Int) < 200 → (0 : Int) ≤ 107)))⟩
  refine lv_aload_n F.1 F.2.1 dX7_firstStep_0 rfl (lv_at hl 0 rfl) ?_
  refine lv_iload_n F.1 F.2.1 dX7_firstStep_1 rfl (lv_at hl 1 rfl) ?_
  refine a_Vi F hml hl.1 hA hP hD hS (As := [.int p0]) (c_X7_mustStay_32 l dC dI ad cA nF _ p0 hR (by omega)) (cs_RX7_132 (d := 2) F.2.2.1 (by decide)) tc_32 rfl rfl rfl rfl (Nat.le_of_ble_eq_true rfl) dX7_firstStep_2 ⟨Nat.le_refl 0, Nat.le_refl 0⟩ (fun r22 uN22 H locs hq hP hD hS => ?_)
  obtain ⟨hu22, gr22⟩ := hq
  rw [hu22] at hP hD
  refine z_ne F 26 dX7_firstStep_5 (by decide) rfl (fun c23 => ?_) (fun c23 => ?_)
  · exact L26 _ _ _  hP hD hS (lv_sub hl [] rfl)
  · refine lv_aload_n F.1 F.2.1 dX7_firstStep_8 rfl (lv_at hl 0 rfl) ?_
    refine a_getr F inX7 hP 32 7 tc_32 rfl rfl (by decide) q341 (fun _ h9 => h9) dX7_firstStep_9 ?_
    refine lv_iload_n F.1 F.2.1 dX7_firstStep_12 rfl (lv_at hl 1 rfl) ?_
    refine a_ic F (1 : Int32) dX7_firstStep_13 (by decide) ?_
    refine a_iadd F dX7_firstStep_14 rfl ic_1 (by omega) (fun v24 hv24 => ?_)
    refine lv_iload_n F.1 F.2.1 dX7_firstStep_15 rfl (lv_at hl 2 rfl) ?_
    refine lv_iload_n F.1 F.2.1 dX7_firstStep_16 rfl (lv_at hl 3 rfl) ?_
    refine a_Si F hml hl.1 hA hP hD hS (As := [.int v24, .int p1, .int p2]) (c_X7_cell l dC dI ad cA nF _ v24 p1 p2 hR (by omega) (by omega) (by omega)) (cs_RX7_111 (d := 1) F.2.2.1 (by decide)) rfl rfl (Nat.le_of_ble_eq_true rfl) dX7_firstStep_17 ⟨Nat.le_refl 0, Nat.le_refl 0⟩ (fun r25 uN25 H locs hq hP hD hS => ?_)
    obtain ⟨hu25, gr25, xr25⟩ := hq
    rw [hu25] at hP hD
    have xr25 : r25.toInt = 2048 * v24.toInt + 256 * p1.toInt + p2.toInt := xr25
    refine a_bald F hP 37 tc_37 rfl (i_in rfl (by omega)) dX7_firstStep_20 (fun v26 ev26 => ?_)
    have hv26 : (-128 : Int) ≤ v26.toInt ∧ v26.toInt ≤ 127 := ev26 ▸ hR 37 _
    refine lv_iload F.1 F.2.1 dX7_firstStep_21 (lv_at hl 4 rfl) ?_
    refine b_ne F 28 dX7_firstStep_23 (by decide) rfl rfl (fun c27 => ?_) (fun c27 => ?_)
    · refine a_ic F (0 : Int32) dX7_firstStep_28 (by decide) ?_
      refine lv_istore (lv' := [(5, .int (0 : Int32)), (0, .ref (ad 32)), (1, .int p0), (2, .int p1), (3, .int p2), (4, .int p3)]) F.1 F.2.1 dX7_firstStep_29 hl (by decide) rfl (fun ls hl => ?_)
      exact L31 10 (0 : Int32) _ _ _ (by decide) (by decide) hP hD hS (lv_sub hl [1, 2, 3, 4, 5, 0] rfl)
    · exact L26 _ _ _  hP hD hS (lv_sub hl [] rfl)
set_option maxHeartbeats 600000 in
set_option maxRecDepth 100000 in
theorem c_X7_gatherDue_32 (l : Launch) (dC : Nat → ClassId) (dI : Nat → Nat → Nat) (ad : Nat → Nat) (cA : Nat → ClassId) (nF : Nat) (u0 : ac_U) (p0 : Int32) (hR : ac_R rg u0) (hp0 : (0 : Int) ≤ p0.toInt ∧ p0.toInt ≤ 3) : ac_Mi l yX7_gatherDue (.code yX7_gatherDue cX7_gatherDue 4 (some .boolean) :: TB) 6 (dC, dI) vwCl (ac_ty cA) ad cA (TT nF) [.ref (ad 32), .int p0] u0 (fun (r : Int32) (u : ac_U) => ac_R rg u ∧ ac_Fr [(29, some 4), (29, some 5), (29, some 6), (30, none), (32, some 8), (32, some 10), (32, some 11), (33, none), (34, none)] u0 u ∧ ((0 : Int) ≤ r.toInt ∧ r.toInt ≤ 1)) := by
  refine ac_Mi.of (cc := cX7_gatherDue) (maxL := 4) (ret := (some .boolean)) (by decide) rfl (Nat.le_of_ble_eq_true rfl) ?_
  intro p e s m below meth c A ls F hml hr hlocks hA hP hD hS hl
  have F : ac_X p s m [.ref (ad 32), .int p0].toArray c cX7_gatherDue RX7 TB (dC, dI) vwCl (ac_ty cA) := ⟨F.1, F.2.1, fun w h => F.2.2.1 w (List.mem_cons_of_mem _ h), F.2.2.2.1, F.2.2.2.2⟩
  have hl : lv_has ls 4 [(0, .ref (ad 32)), (1, .int p0)] := hl
  have hF : ac_Fr [(29, some 4), (29, some 5), (29, some 6), (30, none), (32, some 8), (32, some 10), (32, some 11), (33, none), (34, none)] u0 u0 := ac_Fr.rf
  have L32 : ∀ (n32 : Nat) (x2 : Int32) (u : ac_U) (H : Heap) (locs : List Loc) (ls : Array Slot), ac_R rg u → ac_Fr [(29, some 4), (29, some 5), (29, some 6), (30, none), (32, some 8), (32, some 10), (32, some 11), (33, none), (34, none)] u0 u → 8 - x2.toInt < (n32 : Int) → (0 : Int) ≤ x2.toInt ∧ x2.toInt ≤ 8 → va_P (dC, dI) vwCl (ac_w ad cA (TT nF) u) H → va_D A (ac_w ad cA (TT nF) u) → va_S A s.heap H locs → lv_has ls 4 [(0, .ref (ad 32)), (1, .int p0), (2, .int x2)] → W p l e (ac_rm 6) s m [.ref (ad 32), .int p0].toArray below meth c H locs 0 0 (MQ below (va_Qi (fun (r : Int32) (u : ac_U) => ac_R rg u ∧ ac_Fr [(29, some 4), (29, some 5), (29, some 6), (30, none), (32, some 8), (32, some 10), (32, some 11), (33, none), (34, none)] u0 u ∧ ((0 : Int) ≤ r.toInt ∧ r.toInt ≤ 1)) (ac_B (dC, dI) vwCl (ac_ty cA) ad cA (TT nF) A) A) [.ref (ad 32), .int p0].toArray s 0 0 A) (F0 m 32 ls []) := by
    intro n32
    induction n32 with
    | zero => intro x2 u H locs ls hR hF hn32 f0 hP hD hS hl; exfalso; omega
    | succ n32 ih32 =>
      intro x2 u H locs ls hR hF hn32 f0 hP hD hS hl
      have L115 : ∀ (x2 : Int32) (u : ac_U) (H : Heap) (locs : List Loc) (ls : Array Slot), ac_R rg u → ac_Fr [(29, some 4), (29, some 5), (29, some 6), (30, none), (32, some 8), (32, some 10), (32, some 11), (33, none), (34, none)] u0 u → (0 : Int) ≤ x2.toInt ∧ x2.toInt ≤ 7 → (1 : Int) ≤ (u.1 4 6).toInt ∧ (u.1 4 6).toInt ≤ 8 → 8 - x2.toInt + 0 < ((n32 : Nat) : Int) + 1 → va_P (dC, dI) vwCl (ac_w ad cA (TT nF) u) H → va_D A (ac_w ad cA (TT nF) u) → va_S A s.heap H locs → lv_has ls 4 [(0, .ref (ad 32)), (1, .int p0), (2, .int x2)] → W p l e (ac_rm 6) s m [.ref (ad 32), .int p0].toArray below meth c H locs 0 0 (MQ below (va_Qi (fun (r : Int32) (u : ac_U) => ac_R rg u ∧ ac_Fr [(29, some 4), (29, some 5), (29, some 6), (30, none), (32, some 8), (32, some 10), (32, some 11), (33, none), (34, none)] u0 u ∧ ((0 : Int) ≤ r.toInt ∧ r.toInt ≤ 1)) (ac_B (dC, dI) vwCl (ac_ty cA) ad cA (TT nF) A) A) [.ref (ad 32), .int p0].toArray s 0 0 A) (F0 m 115 ls []) := by
        intro x2 u H locs ls hR hF f0 f1 f2 hP hD hS hl
        refine a_iinc F (k := 2) (fun v1 => [(2, .int v1), (0, .ref (ad 32)), (1, .int p0)]) dX7_gatherDue_115 hl rfl rfl (by decide) (by omega) (by decide) (fun _ => rfl) (fun v1 ls hv1 hl => ?_)
        refine lv_goto (tgt := 32) F.1 F.2.1 dX7_gatherDue_118 (by decide) ?_
        exact ih32 v1 _ _ _ _ hR hF (by omega) (by omega) hP hD hS (lv_sub hl [1, 2, 0] rfl)
      have L69 : ∀ (x2 : Int32) (z0 : Int32) (u : ac_U) (H : Heap) (locs : List Loc) (ls : Array Slot), ac_R rg u → ac_Fr [(29, some 4), (29, some 5), (29, some 6), (30, none), (32, some 8), (32, some 10), (32, some 11), (33, none), (34, none)] u0 u → (0 : Int) ≤ x2.toInt ∧ x2.toInt ≤ 7 → (-1 : Int) ≤ z0.toInt ∧ z0.toInt ≤ 3 → (1 : Int) ≤ (u.1 4 6).toInt ∧ (u.1 4 6).toInt ≤ 8 → 8 - x2.toInt + 0 < ((n32 : Nat) : Int) + 1 → va_P (dC, dI) vwCl (ac_w ad cA (TT nF) u) H → va_D A (ac_w ad cA (TT nF) u) → va_S A s.heap H locs → lv_has ls 4 [(0, .ref (ad 32)), (1, .int p0), (2, .int x2)] → W p l e (ac_rm 6) s m [.ref (ad 32), .int p0].toArray below meth c H locs 0 0 (MQ below (va_Qi (fun (r : Int32) (u : ac_U) => ac_R rg u ∧ ac_Fr [(29, some 4), (29, some 5), (29, some 6), (30, none), (32, some 8), (32, some 10), (32, some 11), (33, none), (34, none)] u0 u ∧ ((0 : Int) ≤ r.toInt ∧ r.toInt ≤ 1)) (ac_B (dC, dI) vwCl (ac_ty cA) ad cA (TT nF) A) A) [.ref (ad 32), .int p0].toArray s 0 0 A) (F0 m 69 ls [.int z0]) := by
        intro x2 z0 u H locs ls hR hF f0 f1 f2 f3 hP hD hS hl
        refine lv_istore_n (lv' := [(3, .int z0), (0, .ref (ad 32)), (1, .int p0), (2, .int x2)]) F.1 F.2.1 dX7_gatherDue_69 rfl hl (by decide) rfl (fun ls hl => ?_)
        refine lv_iload_n F.1 F.2.1 dX7_gatherDue_70 rfl (lv_at hl 0 rfl) ?_
        refine a_ic F (-1 : Int32) dX7_gatherDue_71 (by decide) ?_
        refine b_eq F 115 dX7_gatherDue_72 (by decide) rfl ic_m1 (fun c2 => ?_) (fun c2 => ?_)
        · have g3 : (0 : Int) ≤ (u.1 4 6).toInt ∧ (u.1 4 6).toInt ≤ 8 := hR 4 6
          exact L115 x2 _ _ _ _ hR hF (by omega) (by omega : (1 : Int) ≤ (u.1 4 6).toInt ∧ (u.1 4 6).toInt ≤ 8) (by omega) hP hD hS (lv_sub hl [1, 2, 3] rfl)
        · refine lv_aload_n F.1 F.2.1 dX7_gatherDue_75 rfl (lv_at hl 1 rfl) ?_
          have g4 : (0 : Int) ≤ (u.1 32 8).toInt ∧ (u.1 32 8).toInt ≤ 4 := hR 32 8
          refine a_geti F inX7 hP 32 8 tc_32 rfl rfl (by decide) q342 (fun _ h9 => h9) (v := (u.1 32 8)) rfl dX7_gatherDue_76 ?_
          refine a_ic F (4 : Int32) dX7_gatherDue_79 (by decide) ?_
          refine b_lt F 85 dX7_gatherDue_80 (by decide) rfl ic_4 (fun c5 => ?_) (fun c5 => ?_)
          · refine lv_aload_n F.1 F.2.1 dX7_gatherDue_85 rfl (lv_at hl 1 rfl) ?_
            refine a_getr F inX7 hP 32 3 tc_32 rfl rfl (by decide) q337 (fun _ h9 => h9) dX7_gatherDue_86 ?_
            refine lv_aload_n F.1 F.2.1 dX7_gatherDue_89 rfl (lv_at hl 1 rfl) ?_
            refine a_geti F inX7 hP 32 8 tc_32 rfl rfl (by decide) q342 (fun _ h9 => h9) (v := (u.1 32 8)) (rfl) dX7_gatherDue_90 ?_
            refine lv_iload_n F.1 F.2.1 dX7_gatherDue_93 rfl (lv_at hl 3 rfl) ?_
            refine a_iast F hP hD hS 33 tc_33 rfl (i_in rfl (by omega)) dX7_gatherDue_94 (fun H locs hP hD hS => ?_)
            have hR := hR.si (c := 33) (k := (u.1 32 8).toNatClampNeg) (v := x2) (by omega : (0 : Int) ≤ x2.toInt ∧ x2.toInt ≤ 7)
            have hF := hF.si (c := 33) (k := (u.1 32 8).toNatClampNeg) (v := x2) rfl
            refine lv_aload_n F.1 F.2.1 dX7_gatherDue_95 rfl (lv_at hl 1 rfl) ?_
            refine a_getr F inX7 hP 32 4 tc_32 rfl rfl (by decide) q338 (fun _ h9 => h9) dX7_gatherDue_96 ?_
            refine lv_aload_n F.1 F.2.1 dX7_gatherDue_99 rfl (lv_at hl 1 rfl) ?_
            refine a_geti F inX7 hP 32 8 tc_32 rfl rfl (by decide) q342 (fun _ h9 => h9) (v := (u.1 32 8)) (rfl) dX7_gatherDue_100 ?_
            refine lv_iload_n F.1 F.2.1 dX7_gatherDue_103 rfl (lv_at hl 0 rfl) ?_
            refine a_iast F hP hD hS 34 tc_34 rfl (i_in rfl (by omega)) dX7_gatherDue_104 (fun H locs hP hD hS => ?_)
            have hR := hR.si (c := 34) (k := (u.1 32 8).toNatClampNeg) (v := z0) (by omega : (0 : Int) ≤ z0.toInt ∧ z0.toInt ≤ 3)
            have hF := hF.si (c := 34) (k := (u.1 32 8).toNatClampNeg) (v := z0) rfl
            refine lv_aload_n F.1 F.2.1 dX7_gatherDue_105 rfl (lv_at hl 1 rfl) ?_
            refine lv_dup F.1 F.2.1 dX7_gatherDue_106 rfl ?_
            refine a_geti F inX7 hP 32 8 tc_32 rfl rfl (by decide) q342 (fun _ h9 => h9) (v := (u.1 32 8)) (rfl) dX7_gatherDue_107 ?_
            refine a_ic F (1 : Int32) dX7_gatherDue_110 (by decide) ?_
            refine a_iadd F dX7_gatherDue_111 rfl ic_1 (by omega) (fun v6 hv6 => ?_)
            refine a_puti F inX7 tyX7 tyX7_ok nmX7 hP hD hS 32 8 tc_32 rfl rfl (by decide) q342 (fun _ h9 => h9) rfl (ty := .int) (tyX7_ok 8 (by decide)) rfl rfl dX7_gatherDue_112 (fun H locs hP hD hS => ?_)
            have hR := hR.si (c := 32) (k := 8) (v := v6) (by omega : (0 : Int) ≤ v6.toInt ∧ v6.toInt ≤ 4)
            have hF := hF.si (c := 32) (k := 8) (v := v6) rfl
            have g7 : (0 : Int) ≤ (u.1 4 6).toInt ∧ (u.1 4 6).toInt ≤ 8 := hR 4 6
            exact L115 x2 _ _ _ _ hR hF (by omega) (by omega : (1 : Int) ≤ (u.1 4 6).toInt ∧ (u.1 4 6).toInt ≤ 8) (by omega) hP hD hS (lv_sub hl [1, 2, 3] rfl)
          · refine a_ic F (0 : Int32) dX7_gatherDue_83 (by decide) ?_
            exact a_retz F hr hlocks hP hD hS dX7_gatherDue_84 (Or.inl rfl) ⟨hR, hF, (by decide)⟩
      refine lv_iload_n F.1 F.2.1 dX7_gatherDue_32 rfl (lv_at hl 2 rfl) ?_
      refine lv_aload_n F.1 F.2.1 dX7_gatherDue_33 rfl (lv_at hl 0 rfl) ?_
      refine a_getr F inX7 hP 32 0 tc_32 rfl rfl (by decide) q334 (fun _ h9 => h9) dX7_gatherDue_34 ?_
      have g8 : (0 : Int) ≤ (u.1 4 6).toInt ∧ (u.1 4 6).toInt ≤ 8 := hR 4 6
      refine a_geti F inX2 hP 4 6 tc_4 rfl rfl (by decide) q180 (fun _ h9 => h9) (v := (u.1 4 6)) rfl dX7_gatherDue_37 ?_
      refine b_ge F 121 dX7_gatherDue_40 (by decide) rfl rfl (fun c9 => ?_) (fun c9 => ?_)
      · refine a_ic F (1 : Int32) dX7_gatherDue_121 (by decide) ?_
        exact a_retz F hr hlocks hP hD hS dX7_gatherDue_122 (Or.inr rfl) ⟨hR, hF, (by decide)⟩
      · refine lv_aload_n F.1 F.2.1 dX7_gatherDue_43 rfl (lv_at hl 0 rfl) ?_
        refine a_getr F inX7 hP 32 0 tc_32 rfl rfl (by decide) q334 (fun _ h9 => h9) dX7_gatherDue_44 ?_
        refine lv_iload_n F.1 F.2.1 dX7_gatherDue_47 rfl (lv_at hl 2 rfl) ?_
        refine a_ic F (0 : Int32) dX7_gatherDue_48 (by decide) ?_
        refine a_Vi F hml hl.1 hA hP hD hS (As := [.int x2, .int (0 : Int32)]) (c_X2_term_4 l dC dI ad cA nF _ x2 (0 : Int32) hR (by omega) (by decide)) (cs_RX7_92 (d := 1) F.2.2.1 (by decide)) tc_4 rfl rfl rfl rfl (Nat.le_of_ble_eq_true rfl) dX7_gatherDue_49 ⟨Nat.le_refl 0, Nat.le_refl 0⟩ (fun r10 uN10 H locs hq hP hD hS => ?_)
        obtain ⟨hu10, xr10⟩ := hq
        rw [hu10] at hP hD
        have xr10 : ((0 : Int) = 2 → 0 ≤ r10.toInt ∧ r10.toInt ≤ 7) ∧ ((0 : Int) = 5 → 0 ≤ r10.toInt ∧ r10.toInt ≤ 3) := xr10
        refine lv_iload_n F.1 F.2.1 dX7_gatherDue_52 rfl (lv_at hl 1 rfl) ?_
        refine b_ne F 68 dX7_gatherDue_53 (by decide) rfl rfl (fun c11 => ?_) (fun c11 => ?_)
        · refine a_ic F (-1 : Int32) dX7_gatherDue_68 (by decide) ?_
          exact L69 x2 (-1 : Int32) _ _ _ _ hR hF (by omega) (by decide) (by omega : (1 : Int) ≤ (u.1 4 6).toInt ∧ (u.1 4 6).toInt ≤ 8) (by omega) hP hD hS (lv_sub hl [0, 1, 2] rfl)
        · refine lv_aload_n F.1 F.2.1 dX7_gatherDue_56 rfl (lv_at hl 0 rfl) ?_
          refine a_getr F inX7 hP 32 2 tc_32 rfl rfl (by decide) q336 (fun _ h9 => h9) dX7_gatherDue_57 ?_
          refine lv_iload_n F.1 F.2.1 dX7_gatherDue_60 rfl (lv_at hl 2 rfl) ?_
          refine a_ic F (0 : Int32) dX7_gatherDue_61 (by decide) ?_
          refine a_Vi F hml hl.1 hA hP hD hS (As := [.int x2, .int (0 : Int32)]) (c_X5_asksToday_29 l dC dI ad cA nF _ x2 (0 : Int32) hR (by omega) (by decide)) (cs_RX7_96 (d := 5) F.2.2.1 (by decide)) tc_29 rfl rfl rfl rfl (Nat.le_of_ble_eq_true rfl) dX7_gatherDue_62 ⟨Nat.le_refl 0, Nat.le_refl 0⟩ (fun r12 u12 H locs hq hP hD hS => ?_)
          obtain ⟨hR, hF12, gr12⟩ := hq
          have hF := hF.tr hF12 (by decide)
          refine lv_goto (tgt := 69) F.1 F.2.1 dX7_gatherDue_65 (by decide) ?_
          exact L69 x2 r12 _ _ _ _ hR hF (by omega) (by omega) (i_trB (hF12 4 6 rfl) (by omega : (1 : Int) ≤ (u.1 4 6).toInt ∧ (u.1 4 6).toInt ≤ 8)) (by omega) hP hD hS (lv_sub hl [0, 1, 2] rfl)
  refine lv_aload_n F.1 F.2.1 dX7_gatherDue_0 rfl (lv_at hl 0 rfl) ?_
  refine lv_iload_n F.1 F.2.1 dX7_gatherDue_1 rfl (lv_at hl 1 rfl) ?_
  refine a_puti F inX7 tyX7 tyX7_ok nmX7 hP hD hS 32 10 tc_32 rfl rfl (by decide) q344 (fun _ h9 => h9) rfl (ty := .int) (tyX7_ok 10 (by decide)) rfl rfl dX7_gatherDue_2 (fun H locs hP hD hS => ?_)
  have hR := hR.si (c := 32) (k := 10) (v := p0) (by omega : (0 : Int) ≤ p0.toInt ∧ p0.toInt ≤ 3)
  have hF := hF.si (c := 32) (k := 10) (v := p0) rfl
  refine lv_aload_n F.1 F.2.1 dX7_gatherDue_5 rfl (lv_at hl 0 rfl) ?_
  refine lv_aload_n F.1 F.2.1 dX7_gatherDue_6 rfl (lv_at hl 0 rfl) ?_
  refine a_getr F inX7 hP 32 0 tc_32 rfl rfl (by decide) q334 (fun _ h9 => h9) dX7_gatherDue_7 ?_
  refine lv_aload_n F.1 F.2.1 dX7_gatherDue_10 rfl (lv_at hl 0 rfl) ?_
  refine a_getr F inX7 hP 32 1 tc_32 rfl rfl (by decide) q335 (fun _ h9 => h9) dX7_gatherDue_11 ?_
  refine a_getr F inX6 hP 24 1 tc_24 rfl rfl (by decide) q275 (fun _ h9 => h9) dX7_gatherDue_14 ?_
  refine a_ic F (0 : Int32) dX7_gatherDue_17 (by decide) ?_
  have g13 : (0 : Int) ≤ (u0.1 25 0).toInt ∧ (u0.1 25 0).toInt ≤ 480 := hR 25 0
  refine a_ialdK F hP 25 0 tc_25 rfl rfl (i_in ic_0 (by omega)) (v := (u0.1 25 0)) rfl dX7_gatherDue_18 ?_
  refine a_Vi F hml hl.1 hA hP hD hS (As := [.int (u0.1 25 0)]) (c_X2_hourOf_4 l dC dI ad cA nF _ (u0.1 25 0) hR (by omega)) (cs_RX7_84 (d := 1) F.2.2.1 (by decide)) tc_4 rfl rfl rfl rfl (Nat.le_of_ble_eq_true rfl) dX7_gatherDue_19 ⟨Nat.le_refl 0, Nat.le_refl 0⟩ (fun r14 uN14 H locs hq hP hD hS => ?_)
  obtain ⟨hu14, gr14, xr14⟩ := hq
  rw [hu14] at hP hD
  have xr14 : 0 ≤ (u0.1 25 0).toInt → 0 ≤ r14.toInt := xr14
  refine a_puti F inX7 tyX7 tyX7_ok nmX7 hP hD hS 32 11 tc_32 rfl rfl (by decide) q345 (fun _ h9 => h9) rfl (ty := .int) (tyX7_ok 11 (by decide)) rfl rfl dX7_gatherDue_22 (fun H locs hP hD hS => ?_)
  have hR := hR.si (c := 32) (k := 11) (v := r14) (by omega : (0 : Int) ≤ r14.toInt ∧ r14.toInt ≤ 23)
  have hF := hF.si (c := 32) (k := 11) (v := r14) rfl
  refine lv_aload_n F.1 F.2.1 dX7_gatherDue_25 rfl (lv_at hl 0 rfl) ?_
  refine a_ic F (0 : Int32) dX7_gatherDue_26 (by decide) ?_
  refine a_puti F inX7 tyX7 tyX7_ok nmX7 hP hD hS 32 8 tc_32 rfl rfl (by decide) q342 (fun _ h9 => h9) rfl (ty := .int) (tyX7_ok 8 (by decide)) rfl rfl dX7_gatherDue_27 (fun H locs hP hD hS => ?_)
  have hR := hR.si (c := 32) (k := 8) (v := (0 : Int32)) (by rw [ic_0]; exact (by omega : (0 : Int) ≤ (0 : Int) ∧ (0 : Int) ≤ 4))
  have hF := hF.si (c := 32) (k := 8) (v := (0 : Int32)) rfl
  refine a_ic F (0 : Int32) dX7_gatherDue_30 (by decide) ?_
  refine lv_istore_n (lv' := [(2, .int (0 : Int32)), (0, .ref (ad 32)), (1, .int p0)]) F.1 F.2.1 dX7_gatherDue_31 rfl hl (by decide) rfl (fun ls hl => ?_)
  exact L32 10 (0 : Int32) _ _ _ _ hR hF (by decide) (by decide) hP hD hS (lv_sub hl [1, 2, 0] rfl)
set_option maxHeartbeats 600000 in
set_option maxRecDepth 100000 in
theorem c_X7_writeSteps_32 (l : Launch) (dC : Nat → ClassId) (dI : Nat → Nat → Nat) (ad : Nat → Nat) (cA : Nat → ClassId) (nF : Nat) (u0 : ac_U) (p0 : Int32) (hR : ac_R rg u0) (hp0 : (-128 : Int) ≤ p0.toInt ∧ p0.toInt ≤ 98) (hf_32_9 : (1 : Int) ≤ (u0.1 32 9).toInt ∧ (u0.1 32 9).toInt ≤ 256) (hnF : nF = 51200) : ac_Mv l yX7_writeSteps (.code yX7_writeSteps cX7_writeSteps 7 none :: TB) 4 (dC, dI) vwCl (ac_ty cA) ad cA (TT nF) [.ref (ad 32), .int p0] u0 (fun (u : ac_U) => ac_R rg u ∧ ac_Fr [(32, some 12), (32, some 13), (36, none)] u0 u) := by
  refine ac_Mv.of (cc := cX7_writeSteps) (maxL := 7) (ret := none) (by decide) rfl (Nat.le_of_ble_eq_true rfl) ?_
  intro p e s m below meth c A ls F hml hr hlocks hA hP hD hS hl
  have F : ac_X p s m [.ref (ad 32), .int p0].toArray c cX7_writeSteps RX7 TB (dC, dI) vwCl (ac_ty cA) := ⟨F.1, F.2.1, fun w h => F.2.2.1 w (List.mem_cons_of_mem _ h), F.2.2.2.1, F.2.2.2.2⟩
  have hl : lv_has ls 7 [(0, .ref (ad 32)), (1, .int p0)] := hl
  have hF : ac_Fr [(32, some 12), (32, some 13), (36, none)] u0 u0 := ac_Fr.rf
  have L55 : ∀ (n55 : Nat) (x2 : Int32) (x3 : Int32) (x4 : Int32) (x5 : Int32) (u : ac_U) (H : Heap) (locs : List Loc) (ls : Array Slot), ac_R rg u → ac_Fr [(32, some 12), (32, some 13), (36, none)] u0 u → 24 - x5.toInt < (n55 : Int) → (0 : Int) ≤ x2.toInt ∧ x2.toInt ≤ 7 → (0 : Int) ≤ x3.toInt ∧ x3.toInt ≤ 255 → (0 : Int) ≤ x5.toInt ∧ x5.toInt ≤ 24 → (1 : Int) ≤ (u.1 32 9).toInt ∧ (u.1 32 9).toInt ≤ 256 → (4 : Int) ≤ (u.1 32 13).toInt ∧ (u.1 32 13).toInt ≤ 24 → va_P (dC, dI) vwCl (ac_w ad cA (TT nF) u) H → va_D A (ac_w ad cA (TT nF) u) → va_S A s.heap H locs → lv_has ls 7 [(0, .ref (ad 32)), (2, .int x2), (3, .int x3), (4, .int x4), (5, .int x5)] → W p l e (ac_rm 4) s m [.ref (ad 32), .int p0].toArray below meth c H locs 0 0 (MQ below (va_Qv (fun (u : ac_U) => ac_R rg u ∧ ac_Fr [(32, some 12), (32, some 13), (36, none)] u0 u) (ac_B (dC, dI) vwCl (ac_ty cA) ad cA (TT nF) A) A) [.ref (ad 32), .int p0].toArray s 0 0 A) (F0 m 55 ls []) := by
    intro n55
    induction n55 with
    | zero => intro x2 x3 x4 x5 u H locs ls hR hF hn55 f0 f1 f2 f3 f4 hP hD hS hl; exfalso; omega
    | succ n55 ih55 =>
      intro x2 x3 x4 x5 u H locs ls hR hF hn55 f0 f1 f2 f3 f4 hP hD hS hl
      have L133 : ∀ (x2 : Int32) (x3 : Int32) (x4 : Int32) (x5 : Int32) (u : ac_U) (H : Heap) (locs : List Loc) (ls : Array Slot), ac_R rg u → ac_Fr [(32, some 12), (32, some 13), (36, none)] u0 u → (0 : Int) ≤ x2.toInt ∧ x2.toInt ≤ 7 → (0 : Int) ≤ x3.toInt ∧ x3.toInt ≤ 255 → (0 : Int) ≤ x5.toInt ∧ x5.toInt ≤ 23 → (1 : Int) ≤ (u.1 32 9).toInt ∧ (u.1 32 9).toInt ≤ 256 → (4 : Int) ≤ (u.1 32 13).toInt ∧ (u.1 32 13).toInt ≤ 24 → 24 - x5.toInt + 0 < ((n55 : Nat) : Int) + 1 → va_P (dC, dI) vwCl (ac_w ad cA (TT nF) u) H → va_D A (ac_w ad cA (TT nF) u) → va_S A s.heap H locs → lv_has ls 7 [(0, .ref (ad 32)), (2, .int x2), (3, .int x3), (4, .int x4), (5, .int x5)] → W p l e (ac_rm 4) s m [.ref (ad 32), .int p0].toArray below meth c H locs 0 0 (MQ below (va_Qv (fun (u : ac_U) => ac_R rg u ∧ ac_Fr [(32, some 12), (32, some 13), (36, none)] u0 u) (ac_B (dC, dI) vwCl (ac_ty cA) ad cA (TT nF) A) A) [.ref (ad 32), .int p0].toArray s 0 0 A) (F0 m 133 ls []) := by
        intro x2 x3 x4 x5 u H locs ls hR hF f0 f1 f2 f3 f4 f5 hP hD hS hl
        refine a_iinc F (k := 4) (fun v1 => [(5, .int v1), (0, .ref (ad 32)), (2, .int x2), (3, .int x3), (4, .int x4)]) dX7_writeSteps_133 hl rfl rfl (by decide) (by omega) (by decide) (fun _ => rfl) (fun v1 ls hv1 hl => ?_)
        refine lv_goto (tgt := 55) F.1 F.2.1 dX7_writeSteps_136 (by decide) ?_
        have g2 : (0 : Int) ≤ (u.1 32 9).toInt ∧ (u.1 32 9).toInt ≤ 256 := hR 32 9
        have g3 : (0 : Int) ≤ (u.1 32 13).toInt ∧ (u.1 32 13).toInt ≤ 24 := hR 32 13
        exact ih55 x2 x3 x4 v1 _ _ _ _ hR hF (by omega) (by omega) (by omega) (by omega) (by omega : (1 : Int) ≤ (u.1 32 9).toInt ∧ (u.1 32 9).toInt ≤ 256) (by omega : (4 : Int) ≤ (u.1 32 13).toInt ∧ (u.1 32 13).toInt ≤ 24) hP hD hS (lv_sub hl [1, 2, 3, 4, 0] rfl)
      refine lv_iload F.1 F.2.1 dX7_writeSteps_55 (lv_at hl 4 rfl) ?_
      refine lv_aload_n F.1 F.2.1 dX7_writeSteps_57 rfl (lv_at hl 0 rfl) ?_
      refine a_getr F inX7 hP 32 0 tc_32 rfl rfl (by decide) q334 (fun _ h9 => h9) dX7_writeSteps_58 ?_
      have g4 : (4 : Int) ≤ (u.1 4 0).toInt ∧ (u.1 4 0).toInt ≤ 24 := hR 4 0
      refine a_geti F inX2 hP 4 0 tc_4 rfl rfl (by decide) q155 (fun _ h9 => h9) (v := (u.1 4 0)) rfl dX7_writeSteps_61 ?_
      refine b_ge F 139 dX7_writeSteps_64 (by decide) rfl rfl (fun c5 => ?_) (fun c5 => ?_)
      · exact a_retv F hr hlocks hP hD hS dX7_writeSteps_139 ⟨hR, hF⟩
      · refine lv_aload_n F.1 F.2.1 dX7_writeSteps_67 rfl (lv_at hl 0 rfl) ?_
        refine lv_iload F.1 F.2.1 dX7_writeSteps_68 (lv_at hl 4 rfl) ?_
        refine lv_iload_n F.1 F.2.1 dX7_writeSteps_70 rfl (lv_at hl 1 rfl) ?_
        refine lv_iload_n F.1 F.2.1 dX7_writeSteps_71 rfl (lv_at hl 2 rfl) ?_
        refine lv_iload F.1 F.2.1 dX7_writeSteps_72 (lv_at hl 3 rfl) ?_
        refine a_Vi F hml hl.1 hA hP hD hS (As := [.int x5, .int x2, .int x3, .int x4]) (c_X7_firstStep_32 l dC dI ad cA nF _ x5 x2 x3 x4 hR (by omega) (by omega) (by omega) hnF) (cs_RX7_154 (d := 3) F.2.2.1 (by decide)) tc_32 rfl rfl rfl rfl (Nat.le_of_ble_eq_true rfl) dX7_writeSteps_74 ⟨Nat.le_refl 0, Nat.le_refl 0⟩ (fun r6 uN6 H locs hq hP hD hS => ?_)
        obtain ⟨hu6, gr6, xr6⟩ := hq
        rw [hu6] at hP hD
        have xr6 : r6.toInt < 200 → r6.toInt ≤ 107 := xr6
        refine lv_istore (lv' := [(6, .int r6), (0, .ref (ad 32)), (2, .int x2), (3, .int x3), (4, .int x4), (5, .int x5)]) F.1 F.2.1 dX7_writeSteps_77 hl (by decide) rfl (fun ls hl => ?_)
        refine lv_aload_n F.1 F.2.1 dX7_writeSteps_79 rfl (lv_at hl 1 rfl) ?_
        refine a_getr F inX7 hP 32 6 tc_32 rfl rfl (by decide) q340 (fun _ h9 => h9) dX7_writeSteps_80 ?_
        refine lv_iload F.1 F.2.1 dX7_writeSteps_83 (lv_at hl 5 rfl) ?_
        refine lv_iload F.1 F.2.1 dX7_writeSteps_85 (lv_at hl 0 rfl) ?_
        refine a_iast F hP hD hS 36 tc_36 rfl (i_in rfl (by omega)) dX7_writeSteps_87 (fun H locs hP hD hS => ?_)
        have hR := hR.si (c := 36) (k := x5.toNatClampNeg) (v := r6) ⟨i_lo _, i_hi _⟩
        have hF := hF.si (c := 36) (k := x5.toNatClampNeg) (v := r6) rfl
        refine lv_iload F.1 F.2.1 dX7_writeSteps_88 (lv_at hl 0 rfl) ?_
        refine a_sp F (200 : Int32) dX7_writeSteps_90 (by decide) ?_
        refine b_lt F 117 dX7_writeSteps_93 (by decide) rfl ic_200 (fun c7 => ?_) (fun c7 => ?_)
        · refine lv_iload F.1 F.2.1 dX7_writeSteps_117 (lv_at hl 0 rfl) ?_
          refine a_bp F (100 : Int32) dX7_writeSteps_119 (by decide) ?_
          refine b_lt F 133 dX7_writeSteps_121 (by decide) rfl ic_100 (fun c8 => ?_) (fun c8 => ?_)
          · have g9 : (0 : Int) ≤ (u.1 32 9).toInt ∧ (u.1 32 9).toInt ≤ 256 := hR 32 9
            have g10 : (0 : Int) ≤ (u.1 32 13).toInt ∧ (u.1 32 13).toInt ≤ 24 := hR 32 13
            exact L133 x2 x3 x4 x5 _ _ _ _ hR hF (by omega) (by omega) (by omega) (by omega : (1 : Int) ≤ (u.1 32 9).toInt ∧ (u.1 32 9).toInt ≤ 256) (by omega : (4 : Int) ≤ (u.1 32 13).toInt ∧ (u.1 32 13).toInt ≤ 24) (by omega) hP hD hS (lv_sub hl [1, 2, 3, 4, 5] rfl)
          · refine lv_iload F.1 F.2.1 dX7_writeSteps_124 (lv_at hl 0 rfl) ?_
            refine a_bp F (100 : Int32) dX7_writeSteps_126 (by decide) ?_
            refine a_isub F dX7_writeSteps_128 rfl ic_100 (by omega) (fun v11 hv11 => ?_)
            refine lv_istore_n (lv' := [(2, .int v11), (6, .int r6), (0, .ref (ad 32)), (3, .int x3), (4, .int x4), (5, .int x5)]) F.1 F.2.1 dX7_writeSteps_129 rfl hl (by decide) rfl (fun ls hl => ?_)
            refine a_iincU F (k := 4) (fun v12 => [(4, .int v12), (2, .int v11), (6, .int r6), (0, .ref (ad 32)), (3, .int x3), (5, .int x5)]) dX7_writeSteps_130 hl rfl (by decide) (fun _ => rfl) (fun v12 ls hl => ?_)
            have g13 : (0 : Int) ≤ (u.1 32 9).toInt ∧ (u.1 32 9).toInt ≤ 256 := hR 32 9
            have g14 : (0 : Int) ≤ (u.1 32 13).toInt ∧ (u.1 32 13).toInt ≤ 24 := hR 32 13
            exact L133 v11 x3 v12 x5 _ _ _ _ hR hF (by omega) (by omega) (by omega) (by omega : (1 : Int) ≤ (u.1 32 9).toInt ∧ (u.1 32 9).toInt ≤ 256) (by omega : (4 : Int) ≤ (u.1 32 13).toInt ∧ (u.1 32 13).toInt ≤ 24) (by omega) hP hD hS (lv_sub hl [3, 1, 4, 0, 5] rfl)
        · refine lv_iload_n F.1 F.2.1 dX7_writeSteps_96 rfl (lv_at hl 3 rfl) ?_
          refine lv_aload_n F.1 F.2.1 dX7_writeSteps_97 rfl (lv_at hl 1 rfl) ?_
          refine lv_iload F.1 F.2.1 dX7_writeSteps_98 (lv_at hl 5 rfl) ?_
          refine lv_iload_n F.1 F.2.1 dX7_writeSteps_100 rfl (lv_at hl 2 rfl) ?_
          refine lv_iload F.1 F.2.1 dX7_writeSteps_101 (lv_at hl 0 rfl) ?_
          refine a_sp F (200 : Int32) dX7_writeSteps_103 (by decide) ?_
          refine a_isub F dX7_writeSteps_106 rfl ic_200 (by omega) (fun v15 hv15 => ?_)
          refine a_Vi F hml hl.1 hA hP hD hS (As := [.int x5, .int x2, .int v15]) (c_X7_countedFor_32 l dC dI ad cA nF _ x5 x2 v15 hR (by omega) (by omega)) (cs_RX7_144 (d := 2) F.2.2.1 (by decide)) tc_32 rfl rfl rfl rfl (Nat.le_of_ble_eq_true rfl) dX7_writeSteps_107 ⟨Nat.le_refl 0, Nat.le_refl 0⟩ (fun r16 uN16 H locs hq hP hD hS => ?_)
          obtain ⟨hu16, gr16, hE_r16⟩ := hq
          rw [hu16] at hP hD
          refine a_Si F hml hl.1 hA hP hD hS (As := [.int x3, .int r16]) (c_X7_afterDeed l dC dI ad cA nF _ x3 r16 hR (by omega) (by omega) hE_r16) (cs_RX7_151 (d := 1) F.2.2.1 (by decide)) rfl rfl (Nat.le_of_ble_eq_true rfl) dX7_writeSteps_110 ⟨Nat.le_refl 0, Nat.le_refl 0⟩ (fun r17 uN17 H locs hq hP hD hS => ?_)
          obtain ⟨hu17, gr17⟩ := hq
          rw [hu17] at hP hD
          refine lv_istore_n (lv' := [(3, .int r17), (6, .int r6), (0, .ref (ad 32)), (2, .int x2), (4, .int x4), (5, .int x5)]) F.1 F.2.1 dX7_writeSteps_113 rfl hl (by decide) rfl (fun ls hl => ?_)
          refine lv_goto (tgt := 133) F.1 F.2.1 dX7_writeSteps_114 (by decide) ?_
          have g18 : (0 : Int) ≤ (u.1 32 9).toInt ∧ (u.1 32 9).toInt ≤ 256 := hR 32 9
          have g19 : (0 : Int) ≤ (u.1 32 13).toInt ∧ (u.1 32 13).toInt ≤ 24 := hR 32 13
          exact L133 x2 r17 x4 x5 _ _ _ _ hR hF (by omega) (by omega) (by omega) (by omega : (1 : Int) ≤ (u.1 32 9).toInt ∧ (u.1 32 9).toInt ≤ 256) (by omega : (4 : Int) ≤ (u.1 32 13).toInt ∧ (u.1 32 13).toInt ≤ 24) (by omega) hP hD hS (lv_sub hl [2, 3, 0, 4, 5] rfl)
  refine lv_aload_n F.1 F.2.1 dX7_writeSteps_0 rfl (lv_at hl 0 rfl) ?_
  refine a_getr F inX7 hP 32 1 tc_32 rfl rfl (by decide) q335 (fun _ h9 => h9) dX7_writeSteps_1 ?_
  refine a_getr F inX6 hP 24 1 tc_24 rfl rfl (by decide) q275 (fun _ h9 => h9) dX7_writeSteps_4 ?_
  refine a_ic F (3 : Int32) dX7_writeSteps_7 (by decide) ?_
  refine lv_aload_n F.1 F.2.1 dX7_writeSteps_8 rfl (lv_at hl 0 rfl) ?_
  have g20 : (0 : Int) ≤ (u0.1 32 10).toInt ∧ (u0.1 32 10).toInt ≤ 3 := hR 32 10
  refine a_geti F inX7 hP 32 10 tc_32 rfl rfl (by decide) q344 (fun _ h9 => h9) (v := (u0.1 32 10)) rfl dX7_writeSteps_9 ?_
  refine a_iadd F dX7_writeSteps_12 ic_3 rfl (by omega) (fun v21 hv21 => ?_)
  refine a_iald F hP 25 tc_25 rfl (i_in rfl (by omega)) dX7_writeSteps_13 (fun v22 ev22 => ?_)
  have hv22 : (0 : Int) ≤ v22.toInt ∧ v22.toInt ≤ 7 := rg_seg_25_3_6 hR ev22 (by omega)
  refine lv_istore_n (lv' := [(2, .int v22), (0, .ref (ad 32)), (1, .int p0)]) F.1 F.2.1 dX7_writeSteps_14 rfl hl (by decide) rfl (fun ls hl => ?_)
  refine lv_aload_n F.1 F.2.1 dX7_writeSteps_15 rfl (lv_at hl 1 rfl) ?_
  refine a_getr F inX7 hP 32 5 tc_32 rfl rfl (by decide) q339 (fun _ h9 => h9) dX7_writeSteps_16 ?_
  refine lv_aload_n F.1 F.2.1 dX7_writeSteps_19 rfl (lv_at hl 1 rfl) ?_
  have g23 : (0 : Int) ≤ (u0.1 32 9).toInt ∧ (u0.1 32 9).toInt ≤ 256 := hR 32 9
  refine a_geti F inX7 hP 32 9 tc_32 rfl rfl (by decide) q343 (fun _ h9 => h9) (v := (u0.1 32 9)) rfl dX7_writeSteps_20 ?_
  refine a_ic F (1 : Int32) dX7_writeSteps_23 (by decide) ?_
  refine a_isub F dX7_writeSteps_24 rfl ic_1 (by omega) (fun v24 hv24 => ?_)
  refine a_iald F hP 35 tc_35 rfl (i_in rfl (by omega)) dX7_writeSteps_25 (fun v25 ev25 => ?_)
  have hv25 : (0 : Int) ≤ v25.toInt ∧ v25.toInt ≤ 255 := ev25 ▸ hR 35 _
  refine lv_istore_n (lv' := [(3, .int v25), (2, .int v22), (0, .ref (ad 32)), (1, .int p0)]) F.1 F.2.1 dX7_writeSteps_26 rfl hl (by decide) rfl (fun ls hl => ?_)
  refine lv_iload_n F.1 F.2.1 dX7_writeSteps_27 rfl (lv_at hl 3 rfl) ?_
  refine lv_istore (lv' := [(4, .int p0), (3, .int v25), (2, .int v22), (0, .ref (ad 32)), (1, .int p0)]) F.1 F.2.1 dX7_writeSteps_28 hl (by decide) rfl (fun ls hl => ?_)
  refine lv_aload_n F.1 F.2.1 dX7_writeSteps_30 rfl (lv_at hl 3 rfl) ?_
  refine lv_aload_n F.1 F.2.1 dX7_writeSteps_31 rfl (lv_at hl 3 rfl) ?_
  have g26 : (0 : Int) ≤ (u0.1 32 11).toInt ∧ (u0.1 32 11).toInt ≤ 23 := hR 32 11
  refine a_geti F inX7 hP 32 11 tc_32 rfl rfl (by decide) q345 (fun _ h9 => h9) (v := (u0.1 32 11)) rfl dX7_writeSteps_32 ?_
  refine a_puti F inX7 tyX7 tyX7_ok nmX7 hP hD hS 32 12 tc_32 rfl rfl (by decide) q346 (fun _ h9 => h9) rfl (ty := .int) (tyX7_ok 12 (by decide)) rfl rfl dX7_writeSteps_35 (fun H locs hP hD hS => ?_)
  have hR := hR.si (c := 32) (k := 12) (v := (u0.1 32 11)) (by omega : (0 : Int) ≤ (u0.1 32 11).toInt ∧ (u0.1 32 11).toInt ≤ 23)
  have hF := hF.si (c := 32) (k := 12) (v := (u0.1 32 11)) rfl
  refine lv_aload_n F.1 F.2.1 dX7_writeSteps_38 rfl (lv_at hl 3 rfl) ?_
  refine lv_aload_n F.1 F.2.1 dX7_writeSteps_39 rfl (lv_at hl 3 rfl) ?_
  refine a_getr F inX7 hP 32 0 tc_32 rfl rfl (by decide) q334 (fun _ h9 => h9) dX7_writeSteps_40 ?_
  have g27 : (4 : Int) ≤ (u0.1 4 0).toInt ∧ (u0.1 4 0).toInt ≤ 24 := hR 4 0
  refine a_geti F inX2 hP 4 0 tc_4 rfl rfl (by decide) q155 (fun _ h9 => h9) (v := (u0.1 4 0)) rfl dX7_writeSteps_43 ?_
  refine a_puti F inX7 tyX7 tyX7_ok nmX7 hP hD hS 32 13 tc_32 rfl rfl (by decide) q347 (fun _ h9 => h9) rfl (ty := .int) (tyX7_ok 13 (by decide)) rfl rfl dX7_writeSteps_46 (fun H locs hP hD hS => ?_)
  have hR := hR.si (c := 32) (k := 13) (v := (u0.1 4 0)) (by omega : (0 : Int) ≤ (u0.1 4 0).toInt ∧ (u0.1 4 0).toInt ≤ 24)
  have hF := hF.si (c := 32) (k := 13) (v := (u0.1 4 0)) rfl
  refine lv_aload_n F.1 F.2.1 dX7_writeSteps_49 rfl (lv_at hl 3 rfl) ?_
  refine a_geti F inX7 hP 32 11 tc_32 rfl rfl (by decide) q345 (fun _ h9 => h9) (v := (u0.1 32 11)) (rfl) dX7_writeSteps_50 ?_
  refine lv_istore (lv' := [(5, .int (u0.1 32 11)), (4, .int p0), (3, .int v25), (2, .int v22), (0, .ref (ad 32)), (1, .int p0)]) F.1 F.2.1 dX7_writeSteps_53 hl (by decide) rfl (fun ls hl => ?_)
  exact L55 26 v22 v25 p0 (u0.1 32 11) _ _ _ _ hR hF (by omega) (by omega) (by omega) (by omega) (by omega : (1 : Int) ≤ (u0.1 32 9).toInt ∧ (u0.1 32 9).toInt ≤ 256) (by omega : (4 : Int) ≤ (u0.1 4 0).toInt ∧ (u0.1 4 0).toInt ≤ 24) hP hD hS (lv_sub hl [4, 3, 2, 1, 0] rfl)
set_option maxHeartbeats 600000 in
set_option maxRecDepth 100000 in
theorem c_X7_planFor_32 (l : Launch) (dC : Nat → ClassId) (dI : Nat → Nat → Nat) (ad : Nat → Nat) (cA : Nat → ClassId) (nF : Nat) (u0 : ac_U) (p0 : Int32) (hR : ac_R rg u0) (hp0 : (0 : Int) ≤ p0.toInt ∧ p0.toInt ≤ 3) (hnF : nF = 51200) : ac_Mi l yX7_planFor (.code yX7_planFor cX7_planFor 3 (some .int) :: TB) 7 (dC, dI) vwCl (ac_ty cA) ad cA (TT nF) [.ref (ad 32), .int p0] u0 (fun (r : Int32) (u : ac_U) => ac_R rg u ∧ ac_Fr [(29, some 4), (29, some 5), (29, some 6), (30, none), (32, some 8), (32, some 9), (32, some 10), (32, some 11), (32, some 12), (32, some 13), (33, none), (34, none), (35, none), (36, none), (37, none)] u0 u ∧ ((-128 : Int) ≤ r.toInt ∧ r.toInt ≤ 98)) := by
  refine ac_Mi.of (cc := cX7_planFor) (maxL := 3) (ret := (some .int)) (by decide) rfl (Nat.le_of_ble_eq_true rfl) ?_
  intro p e s m below meth c A ls F hml hr hlocks hA hP hD hS hl
  have F : ac_X p s m [.ref (ad 32), .int p0].toArray c cX7_planFor RX7 TB (dC, dI) vwCl (ac_ty cA) := ⟨F.1, F.2.1, fun w h => F.2.2.1 w (List.mem_cons_of_mem _ h), F.2.2.2.1, F.2.2.2.2⟩
  have hl : lv_has ls 3 [(0, .ref (ad 32)), (1, .int p0)] := hl
  have hF : ac_Fr [(29, some 4), (29, some 5), (29, some 6), (30, none), (32, some 8), (32, some 9), (32, some 10), (32, some 11), (32, some 12), (32, some 13), (33, none), (34, none), (35, none), (36, none), (37, none)] u0 u0 := ac_Fr.rf
  have L33 : ∀ (x2 : Int32) (u : ac_U) (H : Heap) (locs : List Loc) (ls : Array Slot), ac_R rg u → ac_Fr [(29, some 4), (29, some 5), (29, some 6), (30, none), (32, some 8), (32, some 9), (32, some 10), (32, some 11), (32, some 12), (32, some 13), (33, none), (34, none), (35, none), (36, none), (37, none)] u0 u → (-128 : Int) ≤ x2.toInt ∧ x2.toInt ≤ 98 → (1 : Int) ≤ (u.1 32 9).toInt ∧ (u.1 32 9).toInt ≤ 256 → va_P (dC, dI) vwCl (ac_w ad cA (TT nF) u) H → va_D A (ac_w ad cA (TT nF) u) → va_S A s.heap H locs → lv_has ls 3 [(2, .int x2)] → W p l e (ac_rm 7) s m [.ref (ad 32), .int p0].toArray below meth c H locs 0 0 (MQ below (va_Qi (fun (r : Int32) (u : ac_U) => ac_R rg u ∧ ac_Fr [(29, some 4), (29, some 5), (29, some 6), (30, none), (32, some 8), (32, some 9), (32, some 10), (32, some 11), (32, some 12), (32, some 13), (33, none), (34, none), (35, none), (36, none), (37, none)] u0 u ∧ ((-128 : Int) ≤ r.toInt ∧ r.toInt ≤ 98)) (ac_B (dC, dI) vwCl (ac_ty cA) ad cA (TT nF) A) A) [.ref (ad 32), .int p0].toArray s 0 0 A) (F0 m 33 ls []) := by
    intro x2 u H locs ls hR hF f0 f1 hP hD hS hl
    refine lv_iload_n F.1 F.2.1 dX7_planFor_33 rfl (lv_at hl 0 rfl) ?_
    exact a_reti F hr hlocks hP hD hS dX7_planFor_34 ⟨hR, hF, (by omega : (-128 : Int) ≤ x2.toInt ∧ x2.toInt ≤ 98)⟩
  refine lv_aload_n F.1 F.2.1 dX7_planFor_0 rfl (lv_at hl 0 rfl) ?_
  refine lv_iload_n F.1 F.2.1 dX7_planFor_1 rfl (lv_at hl 1 rfl) ?_
  refine a_Vi F hml hl.1 hA hP hD hS (As := [.int p0]) (c_X7_gatherDue_32 l dC dI ad cA nF _ p0 hR (by omega)) (cs_RX7_59 (d := 6) F.2.2.1 (by decide)) tc_32 rfl rfl rfl rfl (Nat.le_of_ble_eq_true rfl) dX7_planFor_2 ⟨Nat.le_refl 0, Nat.le_refl 0⟩ (fun r1 u1 H locs hq hP hD hS => ?_)
  obtain ⟨hR, hF1, gr1⟩ := hq
  have hF := hF.tr hF1 (by decide)
  refine z_ne F 10 dX7_planFor_5 (by decide) rfl (fun c2 => ?_) (fun c2 => ?_)
  · refine lv_aload_n F.1 F.2.1 dX7_planFor_10 rfl (lv_at hl 0 rfl) ?_
    refine a_ic F (1 : Int32) dX7_planFor_11 (by decide) ?_
    refine lv_aload_n F.1 F.2.1 dX7_planFor_12 rfl (lv_at hl 0 rfl) ?_
    have g3 : (0 : Int) ≤ (u1.1 32 8).toInt ∧ (u1.1 32 8).toInt ≤ 4 := hR 32 8
    refine a_geti F inX7 hP 32 8 tc_32 rfl rfl (by decide) q342 (fun _ h9 => h9) (v := (u1.1 32 8)) rfl dX7_planFor_13 ?_
    refine a_ishl1 F dX7_planFor_16 rfl (lo := 0) (hi := 4) (by omega) (by decide) (fun v4 hv4 => ?_)
    have hv4 : (1 : Int) ≤ v4.toInt ∧ v4.toInt ≤ 16 := hv4
    refine a_ic F (1 : Int32) dX7_planFor_17 (by decide) ?_
    refine a_isub F dX7_planFor_18 rfl ic_1 (by omega) (fun v5 hv5 => ?_)
    refine a_Vi F hml hl.1 hA hP hD hS (As := [.int v5]) (c_X7_fewestGoings_32 l dC dI ad cA nF _ v5 hR (by omega) hnF) (cs_RX7_63 (d := 4) F.2.2.1 (by decide)) tc_32 rfl rfl rfl rfl (Nat.le_of_ble_eq_true rfl) dX7_planFor_19 ⟨Nat.le_refl 0, Nat.le_refl 0⟩ (fun r6 u6 H locs hq hP hD hS => ?_)
    obtain ⟨hR, hF6, gr6, xr6⟩ := hq
    have hF := hF.tr hF6 (by decide)
    have g7 : (0 : Int) ≤ (u6.1 32 9).toInt ∧ (u6.1 32 9).toInt ≤ 256 := hR 32 9
    have xr6 : 1 ≤ (u6.1 32 9).toInt := xr6
    refine lv_istore_n (lv' := [(2, .int r6), (0, .ref (ad 32)), (1, .int p0)]) F.1 F.2.1 dX7_planFor_22 rfl hl (by decide) rfl (fun ls hl => ?_)
    refine lv_iload_n F.1 F.2.1 dX7_planFor_23 rfl (lv_at hl 0 rfl) ?_
    refine a_ic F (-1 : Int32) dX7_planFor_24 (by decide) ?_
    refine b_eq F 33 dX7_planFor_25 (by decide) rfl ic_m1 (fun c8 => ?_) (fun c8 => ?_)
    · exact L33 r6 _ _ _ _ hR hF (by omega) (by omega : (1 : Int) ≤ (u6.1 32 9).toInt ∧ (u6.1 32 9).toInt ≤ 256) hP hD hS (lv_sub hl [0] rfl)
    · refine lv_aload_n F.1 F.2.1 dX7_planFor_28 rfl (lv_at hl 1 rfl) ?_
      refine lv_iload_n F.1 F.2.1 dX7_planFor_29 rfl (lv_at hl 0 rfl) ?_
      refine a_Vv F hml hl.1 hA hP hD hS (As := [.int r6]) (c_X7_writeSteps_32 l dC dI ad cA nF _ r6 hR (by omega) (by omega : (1 : Int) ≤ (u6.1 32 9).toInt ∧ (u6.1 32 9).toInt ≤ 256) hnF) (cs_RX7_67 (d := 4) F.2.2.1 (by decide)) tc_32 rfl rfl rfl rfl (Nat.le_of_ble_eq_true rfl) dX7_planFor_30 ⟨Nat.le_refl 0, Nat.le_refl 0⟩ (fun u9 H locs hq hP hD hS => ?_)
      obtain ⟨hR, hF9⟩ := hq
      have hF := hF.tr hF9 (by decide)
      exact L33 r6 _ _ _ _ hR hF (by omega) (i_trB (hF9 32 9 rfl) (by omega : (1 : Int) ≤ (u6.1 32 9).toInt ∧ (u6.1 32 9).toInt ≤ 256)) hP hD hS (lv_sub hl [0] rfl)
  · refine a_ic F (-1 : Int32) dX7_planFor_8 (by decide) ?_
    exact a_reti F hr hlocks hP hD hS dX7_planFor_9 ⟨hR, hF, (by decide)⟩
set_option maxHeartbeats 600000 in
set_option maxRecDepth 100000 in
theorem c_X7_promiseBits_32 (l : Launch) (dC : Nat → ClassId) (dI : Nat → Nat → Nat) (ad : Nat → Nat) (cA : Nat → ClassId) (nF : Nat) (u0 : ac_U) (p0 : Int32) (hR : ac_R rg u0) (hp0 : (0 : Int) ≤ p0.toInt ∧ p0.toInt ≤ 16) : ac_Mi l yX7_promiseBits (.code yX7_promiseBits cX7_promiseBits 4 (some .int) :: TB) 1 (dC, dI) vwCl (ac_ty cA) ad cA (TT nF) [.ref (ad 32), .int p0] u0 (fun (r : Int32) (u : ac_U) => u = u0 ∧ ((0 : Int) ≤ r.toInt ∧ r.toInt ≤ 255)) := by
  refine ac_Mi.of (cc := cX7_promiseBits) (maxL := 4) (ret := (some .int)) (by decide) rfl (Nat.le_of_ble_eq_true rfl) ?_
  intro p e s m below meth c A ls F hml hr hlocks hA hP hD hS hl
  have F : ac_X p s m [.ref (ad 32), .int p0].toArray c cX7_promiseBits RX7 TB (dC, dI) vwCl (ac_ty cA) := ⟨F.1, F.2.1, fun w h => F.2.2.1 w (List.mem_cons_of_mem _ h), F.2.2.2.1, F.2.2.2.2⟩
  have hl : lv_has ls 4 [(0, .ref (ad 32)), (1, .int p0)] := hl
  have L4 : ∀ (n4 : Nat) (x2 : Int32) (x3 : Int32) (H : Heap) (locs : List Loc) (ls : Array Slot), 4 - x3.toInt < (n4 : Int) → (0 : Int) ≤ x2.toInt ∧ x2.toInt ≤ 255 → (0 : Int) ≤ x3.toInt ∧ x3.toInt ≤ 4 → va_P (dC, dI) vwCl (ac_w ad cA (TT nF) u0) H → va_D A (ac_w ad cA (TT nF) u0) → va_S A s.heap H locs → lv_has ls 4 [(0, .ref (ad 32)), (1, .int p0), (2, .int x2), (3, .int x3)] → W p l e (ac_rm 1) s m [.ref (ad 32), .int p0].toArray below meth c H locs 0 0 (MQ below (va_Qi (fun (r : Int32) (u : ac_U) => u = u0 ∧ ((0 : Int) ≤ r.toInt ∧ r.toInt ≤ 255)) (ac_B (dC, dI) vwCl (ac_ty cA) ad cA (TT nF) A) A) [.ref (ad 32), .int p0].toArray s 0 0 A) (F0 m 4 ls []) := by
    intro n4
    induction n4 with
    | zero => intro x2 x3 H locs ls hn4 f0 f1 hP hD hS hl; exfalso; omega
    | succ n4 ih4 =>
      intro x2 x3 H locs ls hn4 f0 f1 hP hD hS hl
      have L32 : ∀ (x2 : Int32) (x3 : Int32) (H : Heap) (locs : List Loc) (ls : Array Slot), (0 : Int) ≤ x2.toInt ∧ x2.toInt ≤ 255 → (0 : Int) ≤ x3.toInt ∧ x3.toInt ≤ 3 → (1 : Int) ≤ (u0.1 32 8).toInt ∧ (u0.1 32 8).toInt ≤ 4 → 4 - x3.toInt + 0 < ((n4 : Nat) : Int) + 1 → va_P (dC, dI) vwCl (ac_w ad cA (TT nF) u0) H → va_D A (ac_w ad cA (TT nF) u0) → va_S A s.heap H locs → lv_has ls 4 [(0, .ref (ad 32)), (1, .int p0), (2, .int x2), (3, .int x3)] → W p l e (ac_rm 1) s m [.ref (ad 32), .int p0].toArray below meth c H locs 0 0 (MQ below (va_Qi (fun (r : Int32) (u : ac_U) => u = u0 ∧ ((0 : Int) ≤ r.toInt ∧ r.toInt ≤ 255)) (ac_B (dC, dI) vwCl (ac_ty cA) ad cA (TT nF) A) A) [.ref (ad 32), .int p0].toArray s 0 0 A) (F0 m 32 ls []) := by
        intro x2 x3 H locs ls f0 f1 f2 f3 hP hD hS hl
        refine a_iinc F (k := 3) (fun v1 => [(3, .int v1), (0, .ref (ad 32)), (1, .int p0), (2, .int x2)]) dX7_promiseBits_32 hl rfl rfl (by decide) (by omega) (by decide) (fun _ => rfl) (fun v1 ls hv1 hl => ?_)
        refine lv_goto (tgt := 4) F.1 F.2.1 dX7_promiseBits_35 (by decide) ?_
        exact ih4 x2 v1 _ _ _ (by omega) (by omega) (by omega) hP hD hS (lv_sub hl [1, 2, 3, 0] rfl)
      refine lv_iload_n F.1 F.2.1 dX7_promiseBits_4 rfl (lv_at hl 3 rfl) ?_
      refine lv_aload_n F.1 F.2.1 dX7_promiseBits_5 rfl (lv_at hl 0 rfl) ?_
      have g2 : (0 : Int) ≤ (u0.1 32 8).toInt ∧ (u0.1 32 8).toInt ≤ 4 := hR 32 8
      refine a_geti F inX7 hP 32 8 tc_32 rfl rfl (by decide) q342 (fun _ h9 => h9) (v := (u0.1 32 8)) rfl dX7_promiseBits_6 ?_
      refine b_ge F 38 dX7_promiseBits_9 (by decide) rfl rfl (fun c3 => ?_) (fun c3 => ?_)
      · refine lv_iload_n F.1 F.2.1 dX7_promiseBits_38 rfl (lv_at hl 2 rfl) ?_
        exact a_reti F hr hlocks hP hD hS dX7_promiseBits_39 ⟨rfl, (by omega : (0 : Int) ≤ x2.toInt ∧ x2.toInt ≤ 255)⟩
      · refine lv_iload_n F.1 F.2.1 dX7_promiseBits_12 rfl (lv_at hl 1 rfl) ?_
        refine lv_iload_n F.1 F.2.1 dX7_promiseBits_13 rfl (lv_at hl 3 rfl) ?_
        refine a_ishrU F dX7_promiseBits_14 (fun v4 => ?_)
        refine a_ic F (1 : Int32) dX7_promiseBits_15 (by decide) ?_
        refine a_iandM F dX7_promiseBits_16 ic_1 (by omega) (fun v5 hv5 => ?_)
        refine a_ic F (1 : Int32) dX7_promiseBits_17 (by decide) ?_
        refine b_ne F 32 dX7_promiseBits_18 (by decide) rfl ic_1 (fun c6 => ?_) (fun c6 => ?_)
        · exact L32 x2 x3 _ _ _ (by omega) (by omega) (by omega : (1 : Int) ≤ (u0.1 32 8).toInt ∧ (u0.1 32 8).toInt ≤ 4) (by omega) hP hD hS (lv_sub hl [0, 1, 2, 3] rfl)
        · refine lv_iload_n F.1 F.2.1 dX7_promiseBits_21 rfl (lv_at hl 2 rfl) ?_
          refine a_ic F (1 : Int32) dX7_promiseBits_22 (by decide) ?_
          refine lv_aload_n F.1 F.2.1 dX7_promiseBits_23 rfl (lv_at hl 0 rfl) ?_
          refine a_getr F inX7 hP 32 3 tc_32 rfl rfl (by decide) q337 (fun _ h9 => h9) dX7_promiseBits_24 ?_
          refine lv_iload_n F.1 F.2.1 dX7_promiseBits_27 rfl (lv_at hl 3 rfl) ?_
          refine a_iald F hP 33 tc_33 rfl (i_in rfl (by omega)) dX7_promiseBits_28 (fun v7 ev7 => ?_)
          have hv7 : (0 : Int) ≤ v7.toInt ∧ v7.toInt ≤ 7 := ev7 ▸ hR 33 _
          refine a_ishl1 F dX7_promiseBits_29 rfl (lo := 0) (hi := 7) (by omega) (by decide) (fun v8 hv8 => ?_)
          have hv8 : (1 : Int) ≤ v8.toInt ∧ v8.toInt ≤ 128 := hv8
          refine a_iorB F dX7_promiseBits_30 rfl rfl (n := 8) (m' := 256) rfl (by decide) (by omega) (by omega) (fun v9 hv9 => ?_)
          refine lv_istore_n (lv' := [(2, .int v9), (0, .ref (ad 32)), (1, .int p0), (3, .int x3)]) F.1 F.2.1 dX7_promiseBits_31 rfl hl (by decide) rfl (fun ls hl => ?_)
          exact L32 v9 x3 _ _ _ (by omega) (by omega) (by omega : (1 : Int) ≤ (u0.1 32 8).toInt ∧ (u0.1 32 8).toInt ≤ 4) (by omega) hP hD hS (lv_sub hl [1, 2, 0, 3] rfl)
  refine a_ic F (0 : Int32) dX7_promiseBits_0 (by decide) ?_
  refine lv_istore_n (lv' := [(2, .int (0 : Int32)), (0, .ref (ad 32)), (1, .int p0)]) F.1 F.2.1 dX7_promiseBits_1 rfl hl (by decide) rfl (fun ls hl => ?_)
  refine a_ic F (0 : Int32) dX7_promiseBits_2 (by decide) ?_
  refine lv_istore_n (lv' := [(3, .int (0 : Int32)), (2, .int (0 : Int32)), (0, .ref (ad 32)), (1, .int p0)]) F.1 F.2.1 dX7_promiseBits_3 rfl hl (by decide) rfl (fun ls hl => ?_)
  exact L4 6 (0 : Int32) (0 : Int32) _ _ _ (by decide) (by decide) (by decide) hP hD hS (lv_sub hl [2, 3, 1, 0] rfl)
set_option maxHeartbeats 600000 in
set_option maxRecDepth 100000 in
theorem c_X7_quarrelOf_32 (l : Launch) (dC : Nat → ClassId) (dI : Nat → Nat → Nat) (ad : Nat → Nat) (cA : Nat → ClassId) (nF : Nat) (u0 : ac_U) (p0 : Int32) (hR : ac_R rg u0) (hp0 : (0 : Int) ≤ p0.toInt ∧ p0.toInt ≤ 3) (hnF : nF = 51200) : ac_Mi l yX7_quarrelOf (.code yX7_quarrelOf cX7_quarrelOf 5 (some .int) :: TB) 7 (dC, dI) vwCl (ac_ty cA) ad cA (TT nF) [.ref (ad 32), .int p0] u0 (fun (r : Int32) (u : ac_U) => ac_R rg u ∧ ac_Fr [(29, some 4), (29, some 5), (29, some 6), (30, none), (32, some 8), (32, some 9), (32, some 10), (32, some 11), (33, none), (34, none), (35, none), (37, none)] u0 u ∧ ((-1 : Int) ≤ r.toInt ∧ r.toInt ≤ 255)) := by
  refine ac_Mi.of (cc := cX7_quarrelOf) (maxL := 5) (ret := (some .int)) (by decide) rfl (Nat.le_of_ble_eq_true rfl) ?_
  intro p e s m below meth c A ls F hml hr hlocks hA hP hD hS hl
  have F : ac_X p s m [.ref (ad 32), .int p0].toArray c cX7_quarrelOf RX7 TB (dC, dI) vwCl (ac_ty cA) := ⟨F.1, F.2.1, fun w h => F.2.2.1 w (List.mem_cons_of_mem _ h), F.2.2.2.1, F.2.2.2.2⟩
  have hl : lv_has ls 5 [(0, .ref (ad 32)), (1, .int p0)] := hl
  have hF : ac_Fr [(29, some 4), (29, some 5), (29, some 6), (30, none), (32, some 8), (32, some 9), (32, some 10), (32, some 11), (33, none), (34, none), (35, none), (37, none)] u0 u0 := ac_Fr.rf
  have L32 : ∀ (n32 : Nat) (x2 : Int32) (x3 : Int32) (u : ac_U) (H : Heap) (locs : List Loc) (ls : Array Slot), ac_R rg u → ac_Fr [(29, some 4), (29, some 5), (29, some 6), (30, none), (32, some 8), (32, some 9), (32, some 10), (32, some 11), (33, none), (34, none), (35, none), (37, none)] u0 u → 4 - x3.toInt < (n32 : Int) → (0 : Int) ≤ x2.toInt ∧ x2.toInt ≤ 15 → (1 : Int) ≤ x3.toInt ∧ x3.toInt ≤ 4 → (1 : Int) ≤ (u.1 32 9).toInt ∧ (u.1 32 9).toInt ≤ 256 → va_P (dC, dI) vwCl (ac_w ad cA (TT nF) u) H → va_D A (ac_w ad cA (TT nF) u) → va_S A s.heap H locs → lv_has ls 5 [(0, .ref (ad 32)), (2, .int x2), (3, .int x3)] → W p l e (ac_rm 7) s m [.ref (ad 32), .int p0].toArray below meth c H locs 0 0 (MQ below (va_Qi (fun (r : Int32) (u : ac_U) => ac_R rg u ∧ ac_Fr [(29, some 4), (29, some 5), (29, some 6), (30, none), (32, some 8), (32, some 9), (32, some 10), (32, some 11), (33, none), (34, none), (35, none), (37, none)] u0 u ∧ ((-1 : Int) ≤ r.toInt ∧ r.toInt ≤ 255)) (ac_B (dC, dI) vwCl (ac_ty cA) ad cA (TT nF) A) A) [.ref (ad 32), .int p0].toArray s 0 0 A) (F0 m 32 ls []) := by
    intro n32
    induction n32 with
    | zero => intro x2 x3 u H locs ls hR hF hn32 f0 f1 f2 hP hD hS hl; exfalso; omega
    | succ n32 ih32 =>
      intro x2 x3 u H locs ls hR hF hn32 f0 f1 f2 hP hD hS hl
      have L43 : ∀ (n43 : Nat) (x2 : Int32) (x3 : Int32) (x4 : Int32) (u : ac_U) (H : Heap) (locs : List Loc) (ls : Array Slot), ac_R rg u → ac_Fr [(29, some 4), (29, some 5), (29, some 6), (30, none), (32, some 8), (32, some 9), (32, some 10), (32, some 11), (33, none), (34, none), (35, none), (37, none)] u0 u → 15 - x4.toInt < (n43 : Int) → (0 : Int) ≤ x2.toInt ∧ x2.toInt ≤ 15 → (1 : Int) ≤ x3.toInt ∧ x3.toInt ≤ 3 → (1 : Int) ≤ x4.toInt ∧ x4.toInt ≤ 15 → (2 : Int) ≤ (u.1 32 8).toInt ∧ (u.1 32 8).toInt ≤ 4 → (1 : Int) ≤ (u.1 32 9).toInt ∧ (u.1 32 9).toInt ≤ 256 → 4 - x3.toInt + 0 < ((n32 : Nat) : Int) + 1 → va_P (dC, dI) vwCl (ac_w ad cA (TT nF) u) H → va_D A (ac_w ad cA (TT nF) u) → va_S A s.heap H locs → lv_has ls 5 [(0, .ref (ad 32)), (2, .int x2), (3, .int x3), (4, .int x4)] → W p l e (ac_rm 7) s m [.ref (ad 32), .int p0].toArray below meth c H locs 0 0 (MQ below (va_Qi (fun (r : Int32) (u : ac_U) => ac_R rg u ∧ ac_Fr [(29, some 4), (29, some 5), (29, some 6), (30, none), (32, some 8), (32, some 9), (32, some 10), (32, some 11), (33, none), (34, none), (35, none), (37, none)] u0 u ∧ ((-1 : Int) ≤ r.toInt ∧ r.toInt ≤ 255)) (ac_B (dC, dI) vwCl (ac_ty cA) ad cA (TT nF) A) A) [.ref (ad 32), .int p0].toArray s 0 0 A) (F0 m 43 ls []) := by
        intro n43
        induction n43 with
        | zero => intro x2 x3 x4 u H locs ls hR hF hn43 f0 f1 f2 f3 f4 f5 hP hD hS hl; exfalso; omega
        | succ n43 ih43 =>
          intro x2 x3 x4 u H locs ls hR hF hn43 f0 f1 f2 f3 f4 f5 hP hD hS hl
          have L75 : ∀ (x2 : Int32) (x3 : Int32) (x4 : Int32) (u : ac_U) (H : Heap) (locs : List Loc) (ls : Array Slot), ac_R rg u → ac_Fr [(29, some 4), (29, some 5), (29, some 6), (30, none), (32, some 8), (32, some 9), (32, some 10), (32, some 11), (33, none), (34, none), (35, none), (37, none)] u0 u → (2 : Int) ≤ x2.toInt ∧ x2.toInt ≤ 15 → (1 : Int) ≤ x3.toInt ∧ x3.toInt ≤ 3 → (1 : Int) ≤ x4.toInt ∧ x4.toInt ≤ 14 → (2 : Int) ≤ (u.1 32 8).toInt ∧ (u.1 32 8).toInt ≤ 4 → (1 : Int) ≤ (u.1 32 9).toInt ∧ (u.1 32 9).toInt ≤ 256 → 4 - x3.toInt + 0 < ((n32 : Nat) : Int) + 1 → 15 - x4.toInt + 0 < ((n43 : Nat) : Int) + 1 → va_P (dC, dI) vwCl (ac_w ad cA (TT nF) u) H → va_D A (ac_w ad cA (TT nF) u) → va_S A s.heap H locs → lv_has ls 5 [(0, .ref (ad 32)), (2, .int x2), (3, .int x3), (4, .int x4)] → W p l e (ac_rm 7) s m [.ref (ad 32), .int p0].toArray below meth c H locs 0 0 (MQ below (va_Qi (fun (r : Int32) (u : ac_U) => ac_R rg u ∧ ac_Fr [(29, some 4), (29, some 5), (29, some 6), (30, none), (32, some 8), (32, some 9), (32, some 10), (32, some 11), (33, none), (34, none), (35, none), (37, none)] u0 u ∧ ((-1 : Int) ≤ r.toInt ∧ r.toInt ≤ 255)) (ac_B (dC, dI) vwCl (ac_ty cA) ad cA (TT nF) A) A) [.ref (ad 32), .int p0].toArray s 0 0 A) (F0 m 75 ls []) := by
            intro x2 x3 x4 u H locs ls hR hF f0 f1 f2 f3 f4 f5 f6 hP hD hS hl
            refine a_iinc F (k := 3) (fun v1 => [(4, .int v1), (0, .ref (ad 32)), (2, .int x2), (3, .int x3)]) dX7_quarrelOf_75 hl rfl rfl (by decide) (by omega) (by decide) (fun _ => rfl) (fun v1 ls hv1 hl => ?_)
            refine lv_goto (tgt := 43) F.1 F.2.1 dX7_quarrelOf_78 (by decide) ?_
            have g2 : (0 : Int) ≤ (u.1 32 8).toInt ∧ (u.1 32 8).toInt ≤ 4 := hR 32 8
            have g3 : (0 : Int) ≤ (u.1 32 9).toInt ∧ (u.1 32 9).toInt ≤ 256 := hR 32 9
            exact ih43 x2 x3 v1 _ _ _ _ hR hF (by omega) (by omega) (by omega) (by omega) (by omega : (2 : Int) ≤ (u.1 32 8).toInt ∧ (u.1 32 8).toInt ≤ 4) (by omega : (1 : Int) ≤ (u.1 32 9).toInt ∧ (u.1 32 9).toInt ≤ 256) (by omega) hP hD hS (lv_sub hl [1, 2, 3, 0] rfl)
          refine lv_iload F.1 F.2.1 dX7_quarrelOf_43 (lv_at hl 3 rfl) ?_
          refine lv_iload_n F.1 F.2.1 dX7_quarrelOf_45 rfl (lv_at hl 1 rfl) ?_
          refine b_ge F 81 dX7_quarrelOf_46 (by decide) rfl rfl (fun c4 => ?_) (fun c4 => ?_)
          · refine a_iinc F (k := 2) (fun v5 => [(3, .int v5), (0, .ref (ad 32)), (2, .int x2), (4, .int x4)]) dX7_quarrelOf_81 hl rfl rfl (by decide) (by omega) (by decide) (fun _ => rfl) (fun v5 ls hv5 hl => ?_)
            refine lv_goto (tgt := 32) F.1 F.2.1 dX7_quarrelOf_84 (by decide) ?_
            have g6 : (0 : Int) ≤ (u.1 32 9).toInt ∧ (u.1 32 9).toInt ≤ 256 := hR 32 9
            exact ih32 x2 v5 _ _ _ _ hR hF (by omega) (by omega) (by omega) (by omega : (1 : Int) ≤ (u.1 32 9).toInt ∧ (u.1 32 9).toInt ≤ 256) hP hD hS (lv_sub hl [1, 2, 0] rfl)
          · refine lv_iload F.1 F.2.1 dX7_quarrelOf_49 (lv_at hl 3 rfl) ?_
            refine a_Si F hml hl.1 hA hP hD hS (As := [.int x4]) (c_J6_bitCount_0f7a4 l dC dI ad cA nF _ x4 hR (by omega)) (cs_RX7_71 (d := 1) F.2.2.1 (by decide)) rfl rfl (Nat.le_of_ble_eq_true rfl) dX7_quarrelOf_51 ⟨Nat.le_refl 0, Nat.le_refl 0⟩ (fun r7 uN7 H locs hq hP hD hS => ?_)
            obtain ⟨hu7, gr7⟩ := hq
            rw [hu7] at hP hD
            refine lv_iload_n F.1 F.2.1 dX7_quarrelOf_54 rfl (lv_at hl 2 rfl) ?_
            refine b_ne F 75 dX7_quarrelOf_55 (by decide) rfl rfl (fun c8 => ?_) (fun c8 => ?_)
            · have g9 : (0 : Int) ≤ (u.1 32 8).toInt ∧ (u.1 32 8).toInt ≤ 4 := hR 32 8
              have g10 : (0 : Int) ≤ (u.1 32 9).toInt ∧ (u.1 32 9).toInt ≤ 256 := hR 32 9
              exact L75 x2 x3 x4 _ _ _ _ hR hF (by omega) (by omega) (by omega) (by omega : (2 : Int) ≤ (u.1 32 8).toInt ∧ (u.1 32 8).toInt ≤ 4) (by omega : (1 : Int) ≤ (u.1 32 9).toInt ∧ (u.1 32 9).toInt ≤ 256) (by omega) (by omega) hP hD hS (lv_sub hl [0, 1, 2, 3] rfl)
            · refine lv_aload_n F.1 F.2.1 dX7_quarrelOf_58 rfl (lv_at hl 0 rfl) ?_
              refine lv_iload F.1 F.2.1 dX7_quarrelOf_59 (lv_at hl 3 rfl) ?_
              refine a_Vi F hml hl.1 hA hP hD hS (As := [.int x4]) (c_X7_fewestGoings_32 l dC dI ad cA nF _ x4 hR (by omega) hnF) (cs_RX7_63 (d := 4) F.2.2.1 (by decide)) tc_32 rfl rfl rfl rfl (Nat.le_of_ble_eq_true rfl) dX7_quarrelOf_61 ⟨Nat.le_refl 0, Nat.le_refl 0⟩ (fun r11 u11 H locs hq hP hD hS => ?_)
              obtain ⟨hR, hF11, gr11, xr11⟩ := hq
              have hF := hF.tr hF11 (by decide)
              have g12 : (0 : Int) ≤ (u11.1 32 9).toInt ∧ (u11.1 32 9).toInt ≤ 256 := hR 32 9
              have xr11 : 1 ≤ (u11.1 32 9).toInt := xr11
              refine a_ic F (-1 : Int32) dX7_quarrelOf_64 (by decide) ?_
              refine b_ne F 75 dX7_quarrelOf_65 (by decide) rfl ic_m1 (fun c13 => ?_) (fun c13 => ?_)
              · exact L75 x2 x3 x4 _ _ _ _ hR hF (by omega) (by omega) (by omega) (i_trB (hF11 32 8 rfl) (by omega : (2 : Int) ≤ (u.1 32 8).toInt ∧ (u.1 32 8).toInt ≤ 4)) (by omega : (1 : Int) ≤ (u11.1 32 9).toInt ∧ (u11.1 32 9).toInt ≤ 256) (by omega) (by omega) hP hD hS (lv_sub hl [0, 1, 2, 3] rfl)
              · refine lv_aload_n F.1 F.2.1 dX7_quarrelOf_68 rfl (lv_at hl 0 rfl) ?_
                refine lv_iload F.1 F.2.1 dX7_quarrelOf_69 (lv_at hl 3 rfl) ?_
                refine a_Vi F hml hl.1 hA hP hD hS (As := [.int x4]) (c_X7_promiseBits_32 l dC dI ad cA nF _ x4 hR (by omega)) (cs_RX7_76 (d := 1) F.2.2.1 (by decide)) tc_32 rfl rfl rfl rfl (Nat.le_of_ble_eq_true rfl) dX7_quarrelOf_71 ⟨Nat.le_refl 0, Nat.le_refl 0⟩ (fun r14 uN14 H locs hq hP hD hS => ?_)
                obtain ⟨hu14, gr14⟩ := hq
                rw [hu14] at hP hD
                exact a_reti F hr hlocks hP hD hS dX7_quarrelOf_74 ⟨hR, hF, (by omega : (-1 : Int) ≤ r14.toInt ∧ r14.toInt ≤ 255)⟩
      refine lv_iload_n F.1 F.2.1 dX7_quarrelOf_32 rfl (lv_at hl 2 rfl) ?_
      refine lv_aload_n F.1 F.2.1 dX7_quarrelOf_33 rfl (lv_at hl 0 rfl) ?_
      have g15 : (0 : Int) ≤ (u.1 32 8).toInt ∧ (u.1 32 8).toInt ≤ 4 := hR 32 8
      refine a_geti F inX7 hP 32 8 tc_32 rfl rfl (by decide) q342 (fun _ h9 => h9) (v := (u.1 32 8)) rfl dX7_quarrelOf_34 ?_
      refine b_ge F 87 dX7_quarrelOf_37 (by decide) rfl rfl (fun c16 => ?_) (fun c16 => ?_)
      · refine lv_aload_n F.1 F.2.1 dX7_quarrelOf_87 rfl (lv_at hl 0 rfl) ?_
        refine lv_iload_n F.1 F.2.1 dX7_quarrelOf_88 rfl (lv_at hl 1 rfl) ?_
        refine a_Vi F hml hl.1 hA hP hD hS (As := [.int x2]) (c_X7_promiseBits_32 l dC dI ad cA nF _ x2 hR (by omega)) (cs_RX7_76 (d := 1) F.2.2.1 (by decide)) tc_32 rfl rfl rfl rfl (Nat.le_of_ble_eq_true rfl) dX7_quarrelOf_89 ⟨Nat.le_refl 0, Nat.le_refl 0⟩ (fun r17 uN17 H locs hq hP hD hS => ?_)
        obtain ⟨hu17, gr17⟩ := hq
        rw [hu17] at hP hD
        exact a_reti F hr hlocks hP hD hS dX7_quarrelOf_92 ⟨hR, hF, (by omega : (-1 : Int) ≤ r17.toInt ∧ r17.toInt ≤ 255)⟩
      · refine a_ic F (1 : Int32) dX7_quarrelOf_40 (by decide) ?_
        refine lv_istore (lv' := [(4, .int (1 : Int32)), (0, .ref (ad 32)), (2, .int x2), (3, .int x3)]) F.1 F.2.1 dX7_quarrelOf_41 hl (by decide) rfl (fun ls hl => ?_)
        have g18 : (0 : Int) ≤ (u.1 32 9).toInt ∧ (u.1 32 9).toInt ≤ 256 := hR 32 9
        exact L43 16 x2 x3 (1 : Int32) _ _ _ _ hR hF (by decide) (by omega) (by omega) (by decide) (by omega : (2 : Int) ≤ (u.1 32 8).toInt ∧ (u.1 32 8).toInt ≤ 4) (by omega : (1 : Int) ≤ (u.1 32 9).toInt ∧ (u.1 32 9).toInt ≤ 256) (by omega) hP hD hS (lv_sub hl [1, 2, 3, 0] rfl)
  refine lv_aload_n F.1 F.2.1 dX7_quarrelOf_0 rfl (lv_at hl 0 rfl) ?_
  refine lv_iload_n F.1 F.2.1 dX7_quarrelOf_1 rfl (lv_at hl 1 rfl) ?_
  refine a_Vi F hml hl.1 hA hP hD hS (As := [.int p0]) (c_X7_gatherDue_32 l dC dI ad cA nF _ p0 hR (by omega)) (cs_RX7_59 (d := 6) F.2.2.1 (by decide)) tc_32 rfl rfl rfl rfl (Nat.le_of_ble_eq_true rfl) dX7_quarrelOf_2 ⟨Nat.le_refl 0, Nat.le_refl 0⟩ (fun r19 u19 H locs hq hP hD hS => ?_)
  obtain ⟨hR, hF19, gr19⟩ := hq
  have hF := hF.tr hF19 (by decide)
  refine z_ne F 10 dX7_quarrelOf_5 (by decide) rfl (fun c20 => ?_) (fun c20 => ?_)
  · refine a_ic F (1 : Int32) dX7_quarrelOf_10 (by decide) ?_
    refine lv_aload_n F.1 F.2.1 dX7_quarrelOf_11 rfl (lv_at hl 0 rfl) ?_
    have g21 : (0 : Int) ≤ (u19.1 32 8).toInt ∧ (u19.1 32 8).toInt ≤ 4 := hR 32 8
    refine a_geti F inX7 hP 32 8 tc_32 rfl rfl (by decide) q342 (fun _ h9 => h9) (v := (u19.1 32 8)) rfl dX7_quarrelOf_12 ?_
    refine a_ishl1 F dX7_quarrelOf_15 rfl (lo := 0) (hi := 4) (by omega) (by decide) (fun v22 hv22 => ?_)
    have hv22 : (1 : Int) ≤ v22.toInt ∧ v22.toInt ≤ 16 := hv22
    refine a_ic F (1 : Int32) dX7_quarrelOf_16 (by decide) ?_
    refine a_isub F dX7_quarrelOf_17 rfl ic_1 (by omega) (fun v23 hv23 => ?_)
    refine lv_istore_n (lv' := [(2, .int v23), (0, .ref (ad 32)), (1, .int p0)]) F.1 F.2.1 dX7_quarrelOf_18 rfl hl (by decide) rfl (fun ls hl => ?_)
    refine lv_aload_n F.1 F.2.1 dX7_quarrelOf_19 rfl (lv_at hl 1 rfl) ?_
    refine lv_iload_n F.1 F.2.1 dX7_quarrelOf_20 rfl (lv_at hl 0 rfl) ?_
    refine a_Vi F hml hl.1 hA hP hD hS (As := [.int v23]) (c_X7_fewestGoings_32 l dC dI ad cA nF _ v23 hR (by omega) hnF) (cs_RX7_63 (d := 4) F.2.2.1 (by decide)) tc_32 rfl rfl rfl rfl (Nat.le_of_ble_eq_true rfl) dX7_quarrelOf_21 ⟨Nat.le_refl 0, Nat.le_refl 0⟩ (fun r24 u24 H locs hq hP hD hS => ?_)
    obtain ⟨hR, hF24, gr24, xr24⟩ := hq
    have hF := hF.tr hF24 (by decide)
    have g25 : (0 : Int) ≤ (u24.1 32 9).toInt ∧ (u24.1 32 9).toInt ≤ 256 := hR 32 9
    have xr24 : 1 ≤ (u24.1 32 9).toInt := xr24
    refine a_ic F (-1 : Int32) dX7_quarrelOf_24 (by decide) ?_
    refine b_eq F 30 dX7_quarrelOf_25 (by decide) rfl ic_m1 (fun c26 => ?_) (fun c26 => ?_)
    · refine a_ic F (1 : Int32) dX7_quarrelOf_30 (by decide) ?_
      refine lv_istore_n (lv' := [(3, .int (1 : Int32)), (2, .int v23), (0, .ref (ad 32)), (1, .int p0)]) F.1 F.2.1 dX7_quarrelOf_31 rfl hl (by decide) rfl (fun ls hl => ?_)
      exact L32 5 v23 (1 : Int32) _ _ _ _ hR hF (by decide) (by omega) (by decide) (by omega : (1 : Int) ≤ (u24.1 32 9).toInt ∧ (u24.1 32 9).toInt ≤ 256) hP hD hS (lv_sub hl [2, 1, 0] rfl)
    · refine a_ic F (0 : Int32) dX7_quarrelOf_28 (by decide) ?_
      exact a_reti F hr hlocks hP hD hS dX7_quarrelOf_29 ⟨hR, hF, (by decide)⟩
  · refine a_ic F (-1 : Int32) dX7_quarrelOf_8 (by decide) ?_
    exact a_reti F hr hlocks hP hD hS dX7_quarrelOf_9 ⟨hR, hF, (by decide)⟩
set_option maxHeartbeats 600000 in
set_option maxRecDepth 100000 in
theorem c_X7_stepIn_32 (l : Launch) (dC : Nat → ClassId) (dI : Nat → Nat → Nat) (ad : Nat → Nat) (cA : Nat → ClassId) (nF : Nat) (u0 : ac_U) (p0 : Int32) (hR : ac_R rg u0) : ac_Mi l yX7_stepIn (.code yX7_stepIn cX7_stepIn 2 (some .int) :: TB) 1 (dC, dI) vwCl (ac_ty cA) ad cA (TT nF) [.ref (ad 32), .int p0] u0 (fun (r : Int32) (u : ac_U) => u = u0) := by
  refine ac_Mi.of (cc := cX7_stepIn) (maxL := 2) (ret := (some .int)) (by decide) rfl (Nat.le_of_ble_eq_true rfl) ?_
  intro p e s m below meth c A ls F hml hr hlocks hA hP hD hS hl
  have F : ac_X p s m [.ref (ad 32), .int p0].toArray c cX7_stepIn RX7 TB (dC, dI) vwCl (ac_ty cA) := ⟨F.1, F.2.1, fun w h => F.2.2.1 w (List.mem_cons_of_mem _ h), F.2.2.2.1, F.2.2.2.2⟩
  have hl : lv_has ls 2 [(0, .ref (ad 32)), (1, .int p0)] := hl
  have L25 : ∀ (H : Heap) (locs : List Loc) (ls : Array Slot), va_P (dC, dI) vwCl (ac_w ad cA (TT nF) u0) H → va_D A (ac_w ad cA (TT nF) u0) → va_S A s.heap H locs → lv_has ls 2 [] → W p l e (ac_rm 1) s m [.ref (ad 32), .int p0].toArray below meth c H locs 0 0 (MQ below (va_Qi (fun (r : Int32) (u : ac_U) => u = u0) (ac_B (dC, dI) vwCl (ac_ty cA) ad cA (TT nF) A) A) [.ref (ad 32), .int p0].toArray s 0 0 A) (F0 m 25 ls []) := by
    intro H locs ls hP hD hS hl
    refine a_ic F (-1 : Int32) dX7_stepIn_25 (by decide) ?_
    exact a_reti F hr hlocks hP hD hS dX7_stepIn_26 rfl
  refine lv_iload_n F.1 F.2.1 dX7_stepIn_0 rfl (lv_at hl 1 rfl) ?_
  refine lv_aload_n F.1 F.2.1 dX7_stepIn_1 rfl (lv_at hl 0 rfl) ?_
  have g1 : (0 : Int) ≤ (u0.1 32 12).toInt ∧ (u0.1 32 12).toInt ≤ 23 := hR 32 12
  refine a_geti F inX7 hP 32 12 tc_32 rfl rfl (by decide) q346 (fun _ h9 => h9) (v := (u0.1 32 12)) rfl dX7_stepIn_2 ?_
  refine b_lt F 25 dX7_stepIn_5 (by decide) rfl rfl (fun c2 => ?_) (fun c2 => ?_)
  · exact L25 _ _ _  hP hD hS (lv_sub hl [] rfl)
  · refine lv_iload_n F.1 F.2.1 dX7_stepIn_8 rfl (lv_at hl 1 rfl) ?_
    refine lv_aload_n F.1 F.2.1 dX7_stepIn_9 rfl (lv_at hl 0 rfl) ?_
    have g3 : (0 : Int) ≤ (u0.1 32 13).toInt ∧ (u0.1 32 13).toInt ≤ 24 := hR 32 13
    refine a_geti F inX7 hP 32 13 tc_32 rfl rfl (by decide) q347 (fun _ h9 => h9) (v := (u0.1 32 13)) rfl dX7_stepIn_10 ?_
    refine b_ge F 25 dX7_stepIn_13 (by decide) rfl rfl (fun c4 => ?_) (fun c4 => ?_)
    · exact L25 _ _ _  hP hD hS (lv_sub hl [] rfl)
    · refine lv_aload_n F.1 F.2.1 dX7_stepIn_16 rfl (lv_at hl 0 rfl) ?_
      refine a_getr F inX7 hP 32 6 tc_32 rfl rfl (by decide) q340 (fun _ h9 => h9) dX7_stepIn_17 ?_
      refine lv_iload_n F.1 F.2.1 dX7_stepIn_20 rfl (lv_at hl 1 rfl) ?_
      refine a_iald F hP 36 tc_36 rfl (i_in rfl (by omega)) dX7_stepIn_21 (fun v5 ev5 => ?_)
      refine lv_goto (tgt := 26) F.1 F.2.1 dX7_stepIn_22 (by decide) ?_
      exact a_reti F hr hlocks hP hD hS dX7_stepIn_26 rfl
set_option maxHeartbeats 600000 in
set_option maxRecDepth 100000 in
theorem c_X8_add_47 (l : Launch) (dC : Nat → ClassId) (dI : Nat → Nat → Nat) (ad : Nat → Nat) (cA : Nat → ClassId) (nF : Nat) (u0 : ac_U) (p0 : Int32) (p1 : Int32) (p2 : Int32) (hR : ac_R rg u0) (hp0 : (41 : Int) ≤ p0.toInt ∧ p0.toInt ≤ 126) (hp1 : (-128 : Int) ≤ p1.toInt ∧ p1.toInt ≤ 127) : ac_Mv l yX8_add (.code yX8_add cX8_add 4 none :: TB) 1 (dC, dI) vwCl (ac_ty cA) ad cA (TT nF) [.ref (ad 47), .int p0, .int p1, .int p2] u0 (fun (u : ac_U) => ac_R rg u ∧ ac_Fr [(47, some 3), (48, none), (49, none), (50, none)] u0 u) := by
  refine ac_Mv.of (cc := cX8_add) (maxL := 4) (ret := none) (by decide) rfl (Nat.le_of_ble_eq_true rfl) ?_
  intro p e s m below meth c A ls F hml hr hlocks hA hP hD hS hl
  have F : ac_X p s m [.ref (ad 47), .int p0, .int p1, .int p2].toArray c cX8_add RX8 TB (dC, dI) vwCl (ac_ty cA) := ⟨F.1, F.2.1, fun w h => F.2.2.1 w (List.mem_cons_of_mem _ h), F.2.2.2.1, F.2.2.2.2⟩
  have hl : lv_has ls 4 [(0, .ref (ad 47)), (1, .int p0), (2, .int p1), (3, .int p2)] := hl
  have hF : ac_Fr [(47, some 3), (48, none), (49, none), (50, none)] u0 u0 := ac_Fr.rf
  refine lv_aload_n F.1 F.2.1 dX8_add_0 rfl (lv_at hl 0 rfl) ?_
  have g1 : (0 : Int) ≤ (u0.1 47 3).toInt ∧ (u0.1 47 3).toInt ≤ 40 := hR 47 3
  refine a_geti F inX8 hP 47 3 tc_47 rfl rfl (by decide) q443 (fun _ h9 => h9) (v := (u0.1 47 3)) rfl dX8_add_1 ?_
  refine lv_aload_n F.1 F.2.1 dX8_add_4 rfl (lv_at hl 0 rfl) ?_
  refine a_getr F inX8 hP 47 0 tc_47 rfl rfl (by decide) q440 (fun _ h9 => h9) dX8_add_5 ?_
  refine va_alen (v := (40 : Int32)) F.1 F.2.1 F.2.2.2.2 hP 48 0 (ac_at tc_48) rfl rfl dX8_add_8 ?_
  refine b_ge F 52 dX8_add_9 (by decide) rfl ic_40 (fun c2 => ?_) (fun c2 => ?_)
  · exact a_retv F hr hlocks hP hD hS dX8_add_52 ⟨hR, hF⟩
  · refine lv_aload_n F.1 F.2.1 dX8_add_12 rfl (lv_at hl 0 rfl) ?_
    refine a_getr F inX8 hP 47 0 tc_47 rfl rfl (by decide) q440 (fun _ h9 => h9) dX8_add_13 ?_
    refine lv_aload_n F.1 F.2.1 dX8_add_16 rfl (lv_at hl 0 rfl) ?_
    refine a_geti F inX8 hP 47 3 tc_47 rfl rfl (by decide) q443 (fun _ h9 => h9) (v := (u0.1 47 3)) (rfl) dX8_add_17 ?_
    refine lv_iload_n F.1 F.2.1 dX8_add_20 rfl (lv_at hl 1 rfl) ?_
    refine a_iast F hP hD hS 48 tc_48 rfl (i_in rfl (by omega)) dX8_add_21 (fun H locs hP hD hS => ?_)
    have hR := hR.si (c := 48) (k := (u0.1 47 3).toNatClampNeg) (v := p0) ⟨i_lo _, i_hi _⟩
    have hF := hF.si (c := 48) (k := (u0.1 47 3).toNatClampNeg) (v := p0) rfl
    refine lv_aload_n F.1 F.2.1 dX8_add_22 rfl (lv_at hl 0 rfl) ?_
    refine a_getr F inX8 hP 47 1 tc_47 rfl rfl (by decide) q441 (fun _ h9 => h9) dX8_add_23 ?_
    refine lv_aload_n F.1 F.2.1 dX8_add_26 rfl (lv_at hl 0 rfl) ?_
    refine a_geti F inX8 hP 47 3 tc_47 rfl rfl (by decide) q443 (fun _ h9 => h9) (v := (u0.1 47 3)) (rfl) dX8_add_27 ?_
    refine lv_iload_n F.1 F.2.1 dX8_add_30 rfl (lv_at hl 2 rfl) ?_
    refine a_iast F hP hD hS 49 tc_49 rfl (i_in rfl (by omega)) dX8_add_31 (fun H locs hP hD hS => ?_)
    have hR := hR.si (c := 49) (k := (u0.1 47 3).toNatClampNeg) (v := p1) ⟨i_lo _, i_hi _⟩
    have hF := hF.si (c := 49) (k := (u0.1 47 3).toNatClampNeg) (v := p1) rfl
    refine lv_aload_n F.1 F.2.1 dX8_add_32 rfl (lv_at hl 0 rfl) ?_
    refine a_getr F inX8 hP 47 2 tc_47 rfl rfl (by decide) q442 (fun _ h9 => h9) dX8_add_33 ?_
    refine lv_aload_n F.1 F.2.1 dX8_add_36 rfl (lv_at hl 0 rfl) ?_
    refine a_geti F inX8 hP 47 3 tc_47 rfl rfl (by decide) q443 (fun _ h9 => h9) (v := (u0.1 47 3)) (rfl) dX8_add_37 ?_
    refine lv_iload_n F.1 F.2.1 dX8_add_40 rfl (lv_at hl 3 rfl) ?_
    refine a_iast F hP hD hS 50 tc_50 rfl (i_in rfl (by omega)) dX8_add_41 (fun H locs hP hD hS => ?_)
    have hR := hR.si (c := 50) (k := (u0.1 47 3).toNatClampNeg) (v := p2) ⟨i_lo _, i_hi _⟩
    have hF := hF.si (c := 50) (k := (u0.1 47 3).toNatClampNeg) (v := p2) rfl
    refine lv_aload_n F.1 F.2.1 dX8_add_42 rfl (lv_at hl 0 rfl) ?_
    refine lv_dup F.1 F.2.1 dX8_add_43 rfl ?_
    refine a_geti F inX8 hP 47 3 tc_47 rfl rfl (by decide) q443 (fun _ h9 => h9) (v := (u0.1 47 3)) (rfl) dX8_add_44 ?_
    refine a_ic F (1 : Int32) dX8_add_47 (by decide) ?_
    refine a_iadd F dX8_add_48 rfl ic_1 (by omega) (fun v3 hv3 => ?_)
    refine a_puti F inX8 tyX8 tyX8_ok nmX8 hP hD hS 47 3 tc_47 rfl rfl (by decide) q443 (fun _ h9 => h9) rfl (ty := .int) (tyX8_ok 3 (by decide)) rfl rfl dX8_add_49 (fun H locs hP hD hS => ?_)
    have hR := hR.si (c := 47) (k := 3) (v := v3) (by omega : (0 : Int) ≤ v3.toInt ∧ v3.toInt ≤ 40)
    have hF := hF.si (c := 47) (k := 3) (v := v3) rfl
    exact a_retv F hr hlocks hP hD hS dX8_add_52 ⟨hR, hF⟩
set_option maxHeartbeats 600000 in
set_option maxRecDepth 100000 in
theorem c_X8_clear_47 (l : Launch) (dC : Nat → ClassId) (dI : Nat → Nat → Nat) (ad : Nat → Nat) (cA : Nat → ClassId) (nF : Nat) (u0 : ac_U)  (hR : ac_R rg u0) : ac_Mv l yX8_clear (.code yX8_clear cX8_clear 1 none :: TB) 1 (dC, dI) vwCl (ac_ty cA) ad cA (TT nF) [.ref (ad 47)] u0 (fun (u : ac_U) => ac_R rg u ∧ ac_Fr [(47, some 3), (47, some 4)] u0 u) := by
  refine ac_Mv.of (cc := cX8_clear) (maxL := 1) (ret := none) (by decide) rfl (Nat.le_of_ble_eq_true rfl) ?_
  intro p e s m below meth c A ls F hml hr hlocks hA hP hD hS hl
  have F : ac_X p s m [.ref (ad 47)].toArray c cX8_clear RX8 TB (dC, dI) vwCl (ac_ty cA) := ⟨F.1, F.2.1, fun w h => F.2.2.1 w (List.mem_cons_of_mem _ h), F.2.2.2.1, F.2.2.2.2⟩
  have hl : lv_has ls 1 [(0, .ref (ad 47))] := hl
  have hF : ac_Fr [(47, some 3), (47, some 4)] u0 u0 := ac_Fr.rf
  refine lv_aload_n F.1 F.2.1 dX8_clear_0 rfl (lv_at hl 0 rfl) ?_
  refine a_ic F (0 : Int32) dX8_clear_1 (by decide) ?_
  refine a_puti F inX8 tyX8 tyX8_ok nmX8 hP hD hS 47 3 tc_47 rfl rfl (by decide) q443 (fun _ h9 => h9) rfl (ty := .int) (tyX8_ok 3 (by decide)) rfl rfl dX8_clear_2 (fun H locs hP hD hS => ?_)
  have hR := hR.si (c := 47) (k := 3) (v := (0 : Int32)) (by rw [ic_0]; exact (by omega : (0 : Int) ≤ (0 : Int) ∧ (0 : Int) ≤ 40))
  have hF := hF.si (c := 47) (k := 3) (v := (0 : Int32)) rfl
  refine lv_aload_n F.1 F.2.1 dX8_clear_5 rfl (lv_at hl 0 rfl) ?_
  refine a_ic F (0 : Int32) dX8_clear_6 (by decide) ?_
  refine a_puti F inX8 tyX8 tyX8_ok nmX8 hP hD hS 47 4 tc_47 rfl rfl (by decide) q445 (fun _ h9 => h9) rfl (ty := .int) (tyX8_ok 4 (by decide)) rfl rfl dX8_clear_7 (fun H locs hP hD hS => ?_)
  have hR := hR.si (c := 47) (k := 4) (v := (0 : Int32)) (by rw [ic_0]; exact (by omega : (0 : Int) ≤ (0 : Int) ∧ (0 : Int) ≤ 20))
  have hF := hF.si (c := 47) (k := 4) (v := (0 : Int32)) rfl
  exact a_retv F hr hlocks hP hD hS dX8_clear_10 ⟨hR, hF⟩
set_option maxHeartbeats 600000 in
set_option maxRecDepth 100000 in
theorem c_X8_copyFrom_43_47 (l : Launch) (dC : Nat → ClassId) (dI : Nat → Nat → Nat) (ad : Nat → Nat) (cA : Nat → ClassId) (nF : Nat) (u0 : ac_U)  (hR : ac_R rg u0) : ac_Mv l yX8_copyFrom (.code yX8_copyFrom cX8_copyFrom 2 none :: TB) 1 (dC, dI) vwCl (ac_ty cA) ad cA (TT nF) [.ref (ad 43), .ref (ad 47)] u0 (fun (u : ac_U) => ac_R rg u ∧ ac_Fr [(43, some 3), (43, some 4), (44, none), (45, none), (46, none)] u0 u) := by
  refine ac_Mv.of (cc := cX8_copyFrom) (maxL := 2) (ret := none) (by decide) rfl (Nat.le_of_ble_eq_true rfl) ?_
  intro p e s m below meth c A ls F hml hr hlocks hA hP hD hS hl
  have F : ac_X p s m [.ref (ad 43), .ref (ad 47)].toArray c cX8_copyFrom RX8 TB (dC, dI) vwCl (ac_ty cA) := ⟨F.1, F.2.1, fun w h => F.2.2.1 w (List.mem_cons_of_mem _ h), F.2.2.2.1, F.2.2.2.2⟩
  have hl : lv_has ls 2 [(0, .ref (ad 43)), (1, .ref (ad 47))] := hl
  have hF : ac_Fr [(43, some 3), (43, some 4), (44, none), (45, none), (46, none)] u0 u0 := ac_Fr.rf
  refine lv_aload_n F.1 F.2.1 dX8_copyFrom_0 rfl (lv_at hl 0 rfl) ?_
  refine lv_aload_n F.1 F.2.1 dX8_copyFrom_1 rfl (lv_at hl 1 rfl) ?_
  have g1 : (0 : Int) ≤ (u0.1 47 3).toInt ∧ (u0.1 47 3).toInt ≤ 40 := hR 47 3
  refine a_geti F inX8 hP 47 3 tc_47 rfl rfl (by decide) q443 (fun _ h9 => h9) (v := (u0.1 47 3)) rfl dX8_copyFrom_2 ?_
  refine a_puti F inX8 tyX8 tyX8_ok nmX8 hP hD hS 43 3 tc_43 rfl rfl (by decide) q443 (fun _ h9 => h9) rfl (ty := .int) (tyX8_ok 3 (by decide)) rfl rfl dX8_copyFrom_5 (fun H locs hP hD hS => ?_)
  have hR := hR.si (c := 43) (k := 3) (v := (u0.1 47 3)) (by omega : (0 : Int) ≤ (u0.1 47 3).toInt ∧ (u0.1 47 3).toInt ≤ 40)
  have hF := hF.si (c := 43) (k := 3) (v := (u0.1 47 3)) rfl
  refine lv_aload_n F.1 F.2.1 dX8_copyFrom_8 rfl (lv_at hl 0 rfl) ?_
  refine lv_aload_n F.1 F.2.1 dX8_copyFrom_9 rfl (lv_at hl 1 rfl) ?_
  have g2 : (0 : Int) ≤ (u0.1 47 4).toInt ∧ (u0.1 47 4).toInt ≤ 20 := hR 47 4
  refine a_geti F inX8 hP 47 4 tc_47 rfl rfl (by decide) q445 (fun _ h9 => h9) (v := (u0.1 47 4)) rfl dX8_copyFrom_10 ?_
  refine a_puti F inX8 tyX8 tyX8_ok nmX8 hP hD hS 43 4 tc_43 rfl rfl (by decide) q445 (fun _ h9 => h9) rfl (ty := .int) (tyX8_ok 4 (by decide)) rfl rfl dX8_copyFrom_13 (fun H locs hP hD hS => ?_)
  have hR := hR.si (c := 43) (k := 4) (v := (u0.1 47 4)) (by omega : (0 : Int) ≤ (u0.1 47 4).toInt ∧ (u0.1 47 4).toInt ≤ 20)
  have hF := hF.si (c := 43) (k := 4) (v := (u0.1 47 4)) rfl
  refine lv_aload_n F.1 F.2.1 dX8_copyFrom_16 rfl (lv_at hl 1 rfl) ?_
  refine a_getr F inX8 hP 47 0 tc_47 rfl rfl (by decide) q440 (fun _ h9 => h9) dX8_copyFrom_17 ?_
  refine a_ic F (0 : Int32) dX8_copyFrom_20 (by decide) ?_
  refine lv_aload_n F.1 F.2.1 dX8_copyFrom_21 rfl (lv_at hl 0 rfl) ?_
  refine a_getr F inX8 hP 43 0 tc_43 rfl rfl (by decide) q440 (fun _ h9 => h9) dX8_copyFrom_22 ?_
  refine a_ic F (0 : Int32) dX8_copyFrom_25 (by decide) ?_
  refine lv_aload_n F.1 F.2.1 dX8_copyFrom_26 rfl (lv_at hl 0 rfl) ?_
  refine a_getr F inX8 hP 43 0 tc_43 rfl rfl (by decide) q440 (fun _ h9 => h9) dX8_copyFrom_27 ?_
  refine va_alen (v := (40 : Int32)) F.1 F.2.1 F.2.2.2.2 hP 44 0 (ac_at tc_44) rfl rfl dX8_copyFrom_30 ?_
  refine a_cpyi F (hml.trans hl.1.symm) q1313 q708 q707 q19 hP hD hS 48 44 tc_48 tc_44 rfl (by decide) (by decide) (by decide) (by simp only [ic_0, ic_40]; omega) (by simp only [ic_0, ic_40]; omega) (by decide) (by decide) dX8_copyFrom_31 (fun H locs hP hD hS => ?_)
  have hR := hR.cp (c0 := 48) (c1 := 44) (sp := (0 : Int32).toNatClampNeg) (dp := (0 : Int32).toNatClampNeg) (n := (40 : Int32).toNatClampNeg) (by decide +kernel)
  have hF := hF.cp (c0 := 48) (c1 := 44) (sp := (0 : Int32).toNatClampNeg) (dp := (0 : Int32).toNatClampNeg) (n := (40 : Int32).toNatClampNeg) (fun _ => rfl)
  refine lv_aload_n F.1 F.2.1 dX8_copyFrom_34 rfl (lv_at hl 1 rfl) ?_
  refine a_getr F inX8 hP 47 1 tc_47 rfl rfl (by decide) q441 (fun _ h9 => h9) dX8_copyFrom_35 ?_
  refine a_ic F (0 : Int32) dX8_copyFrom_38 (by decide) ?_
  refine lv_aload_n F.1 F.2.1 dX8_copyFrom_39 rfl (lv_at hl 0 rfl) ?_
  refine a_getr F inX8 hP 43 1 tc_43 rfl rfl (by decide) q441 (fun _ h9 => h9) dX8_copyFrom_40 ?_
  refine a_ic F (0 : Int32) dX8_copyFrom_43 (by decide) ?_
  refine lv_aload_n F.1 F.2.1 dX8_copyFrom_44 rfl (lv_at hl 0 rfl) ?_
  refine a_getr F inX8 hP 43 1 tc_43 rfl rfl (by decide) q441 (fun _ h9 => h9) dX8_copyFrom_45 ?_
  refine va_alen (v := (40 : Int32)) F.1 F.2.1 F.2.2.2.2 hP 45 0 (ac_at tc_45) rfl rfl dX8_copyFrom_48 ?_
  refine a_cpyi F (hml.trans hl.1.symm) q1313 q708 q707 q19 hP hD hS 49 45 tc_49 tc_45 rfl (by decide) (by decide) (by decide) (by simp only [ic_0, ic_40]; omega) (by simp only [ic_0, ic_40]; omega) (by decide) (by decide) dX8_copyFrom_49 (fun H locs hP hD hS => ?_)
  have hR := hR.cp (c0 := 49) (c1 := 45) (sp := (0 : Int32).toNatClampNeg) (dp := (0 : Int32).toNatClampNeg) (n := (40 : Int32).toNatClampNeg) (by decide +kernel)
  have hF := hF.cp (c0 := 49) (c1 := 45) (sp := (0 : Int32).toNatClampNeg) (dp := (0 : Int32).toNatClampNeg) (n := (40 : Int32).toNatClampNeg) (fun _ => rfl)
  refine lv_aload_n F.1 F.2.1 dX8_copyFrom_52 rfl (lv_at hl 1 rfl) ?_
  refine a_getr F inX8 hP 47 2 tc_47 rfl rfl (by decide) q442 (fun _ h9 => h9) dX8_copyFrom_53 ?_
  refine a_ic F (0 : Int32) dX8_copyFrom_56 (by decide) ?_
  refine lv_aload_n F.1 F.2.1 dX8_copyFrom_57 rfl (lv_at hl 0 rfl) ?_
  refine a_getr F inX8 hP 43 2 tc_43 rfl rfl (by decide) q442 (fun _ h9 => h9) dX8_copyFrom_58 ?_
  refine a_ic F (0 : Int32) dX8_copyFrom_61 (by decide) ?_
  refine lv_aload_n F.1 F.2.1 dX8_copyFrom_62 rfl (lv_at hl 0 rfl) ?_
  refine a_getr F inX8 hP 43 2 tc_43 rfl rfl (by decide) q442 (fun _ h9 => h9) dX8_copyFrom_63 ?_
  refine va_alen (v := (40 : Int32)) F.1 F.2.1 F.2.2.2.2 hP 46 0 (ac_at tc_46) rfl rfl dX8_copyFrom_66 ?_
  refine a_cpyi F (hml.trans hl.1.symm) q1313 q708 q707 q19 hP hD hS 50 46 tc_50 tc_46 rfl (by decide) (by decide) (by decide) (by simp only [ic_0, ic_40]; omega) (by simp only [ic_0, ic_40]; omega) (by decide) (by decide) dX8_copyFrom_67 (fun H locs hP hD hS => ?_)
  have hR := hR.cp (c0 := 50) (c1 := 46) (sp := (0 : Int32).toNatClampNeg) (dp := (0 : Int32).toNatClampNeg) (n := (40 : Int32).toNatClampNeg) (by decide +kernel)
  have hF := hF.cp (c0 := 50) (c1 := 46) (sp := (0 : Int32).toNatClampNeg) (dp := (0 : Int32).toNatClampNeg) (n := (40 : Int32).toNatClampNeg) (fun _ => rfl)
  exact a_retv F hr hlocks hP hD hS dX8_copyFrom_70 ⟨hR, hF⟩
set_option maxHeartbeats 600000 in
set_option maxRecDepth 100000 in
theorem c_X8_isSo_43 (l : Launch) (dC : Nat → ClassId) (dI : Nat → Nat → Nat) (ad : Nat → Nat) (cA : Nat → ClassId) (nF : Nat) (u0 : ac_U) (p0 : Int32) (p1 : Int32) (hR : ac_R rg u0) (hp1 : (0 : Int) ≤ p1.toInt ∧ p1.toInt ≤ 39) : ac_Mi l yX8_isSo (.code yX8_isSo cX8_isSo 3 (some .boolean) :: TB) 1 (dC, dI) vwCl (ac_ty cA) ad cA (TT nF) [.ref (ad 43), .int p0, .int p1] u0 (fun (r : Int32) (u : ac_U) => u = u0 ∧ ((0 : Int) ≤ r.toInt ∧ r.toInt ≤ 1)) := by
  refine ac_Mi.of (cc := cX8_isSo) (maxL := 3) (ret := (some .boolean)) (by decide) rfl (Nat.le_of_ble_eq_true rfl) ?_
  intro p e s m below meth c A ls F hml hr hlocks hA hP hD hS hl
  have F : ac_X p s m [.ref (ad 43), .int p0, .int p1].toArray c cX8_isSo RX8 TB (dC, dI) vwCl (ac_ty cA) := ⟨F.1, F.2.1, fun w h => F.2.2.1 w (List.mem_cons_of_mem _ h), F.2.2.2.1, F.2.2.2.2⟩
  have hl : lv_has ls 3 [(0, .ref (ad 43)), (1, .int p0), (2, .int p1)] := hl
  refine lv_aload_n F.1 F.2.1 dX8_isSo_0 rfl (lv_at hl 0 rfl) ?_
  refine a_getr F inX8 hP 43 1 tc_43 rfl rfl (by decide) q441 (fun _ h9 => h9) dX8_isSo_1 ?_
  refine lv_iload_n F.1 F.2.1 dX8_isSo_4 rfl (lv_at hl 2 rfl) ?_
  refine a_iald F hP 45 tc_45 rfl (i_in rfl (by omega)) dX8_isSo_5 (fun v1 ev1 => ?_)
  refine a_bp F (60 : Int32) dX8_isSo_6 (by decide) ?_
  refine b_ne F 27 dX8_isSo_8 (by decide) rfl ic_60 (fun c2 => ?_) (fun c2 => ?_)
  · refine lv_aload_n F.1 F.2.1 dX8_isSo_27 rfl (lv_at hl 0 rfl) ?_
    refine a_getr F inX8 hP 43 1 tc_43 rfl rfl (by decide) q441 (fun _ h9 => h9) dX8_isSo_28 ?_
    refine lv_iload_n F.1 F.2.1 dX8_isSo_31 rfl (lv_at hl 2 rfl) ?_
    refine a_iald F hP 45 tc_45 rfl (i_in rfl (by omega)) dX8_isSo_32 (fun v3 ev3 => ?_)
    refine a_bp F (62 : Int32) dX8_isSo_33 (by decide) ?_
    refine b_ne F 56 dX8_isSo_35 (by decide) rfl ic_62 (fun c4 => ?_) (fun c4 => ?_)
    · refine lv_iload_n F.1 F.2.1 dX8_isSo_56 rfl (lv_at hl 1 rfl) ?_
      refine lv_aload_n F.1 F.2.1 dX8_isSo_57 rfl (lv_at hl 0 rfl) ?_
      refine a_getr F inX8 hP 43 2 tc_43 rfl rfl (by decide) q442 (fun _ h9 => h9) dX8_isSo_58 ?_
      refine lv_iload_n F.1 F.2.1 dX8_isSo_61 rfl (lv_at hl 2 rfl) ?_
      refine a_iald F hP 46 tc_46 rfl (i_in rfl (by omega)) dX8_isSo_62 (fun v5 ev5 => ?_)
      refine b_ne F 70 dX8_isSo_63 (by decide) rfl rfl (fun c6 => ?_) (fun c6 => ?_)
      · refine a_ic F (0 : Int32) dX8_isSo_70 (by decide) ?_
        exact a_retz F hr hlocks hP hD hS dX8_isSo_71 (Or.inl rfl) ⟨rfl, (by decide)⟩
      · refine a_ic F (1 : Int32) dX8_isSo_66 (by decide) ?_
        refine lv_goto (tgt := 71) F.1 F.2.1 dX8_isSo_67 (by decide) ?_
        exact a_retz F hr hlocks hP hD hS dX8_isSo_71 (Or.inr rfl) ⟨rfl, (by decide)⟩
    · refine lv_iload_n F.1 F.2.1 dX8_isSo_38 rfl (lv_at hl 1 rfl) ?_
      refine lv_aload_n F.1 F.2.1 dX8_isSo_39 rfl (lv_at hl 0 rfl) ?_
      refine a_getr F inX8 hP 43 2 tc_43 rfl rfl (by decide) q442 (fun _ h9 => h9) dX8_isSo_40 ?_
      refine lv_iload_n F.1 F.2.1 dX8_isSo_43 rfl (lv_at hl 2 rfl) ?_
      refine a_iald F hP 46 tc_46 rfl (i_in rfl (by omega)) dX8_isSo_44 (fun v7 ev7 => ?_)
      refine b_le F 52 dX8_isSo_45 (by decide) rfl rfl (fun c8 => ?_) (fun c8 => ?_)
      · refine a_ic F (0 : Int32) dX8_isSo_52 (by decide) ?_
        refine lv_goto (tgt := 71) F.1 F.2.1 dX8_isSo_53 (by decide) ?_
        exact a_retz F hr hlocks hP hD hS dX8_isSo_71 (Or.inl rfl) ⟨rfl, (by decide)⟩
      · refine a_ic F (1 : Int32) dX8_isSo_48 (by decide) ?_
        refine lv_goto (tgt := 71) F.1 F.2.1 dX8_isSo_49 (by decide) ?_
        exact a_retz F hr hlocks hP hD hS dX8_isSo_71 (Or.inr rfl) ⟨rfl, (by decide)⟩
  · refine lv_iload_n F.1 F.2.1 dX8_isSo_11 rfl (lv_at hl 1 rfl) ?_
    refine lv_aload_n F.1 F.2.1 dX8_isSo_12 rfl (lv_at hl 0 rfl) ?_
    refine a_getr F inX8 hP 43 2 tc_43 rfl rfl (by decide) q442 (fun _ h9 => h9) dX8_isSo_13 ?_
    refine lv_iload_n F.1 F.2.1 dX8_isSo_16 rfl (lv_at hl 2 rfl) ?_
    refine a_iald F hP 46 tc_46 rfl (i_in rfl (by omega)) dX8_isSo_17 (fun v9 ev9 => ?_)
    refine b_ge F 25 dX8_isSo_18 (by decide) rfl rfl (fun c10 => ?_) (fun c10 => ?_)
    · refine a_ic F (0 : Int32) dX8_isSo_25 (by decide) ?_
      exact a_retz F hr hlocks hP hD hS dX8_isSo_26 (Or.inl rfl) ⟨rfl, (by decide)⟩
    · refine a_ic F (1 : Int32) dX8_isSo_21 (by decide) ?_
      refine lv_goto (tgt := 26) F.1 F.2.1 dX8_isSo_22 (by decide) ?_
      exact a_retz F hr hlocks hP hD hS dX8_isSo_26 (Or.inr rfl) ⟨rfl, (by decide)⟩
set_option maxHeartbeats 600000 in
set_option maxRecDepth 100000 in
theorem c_X8_isOneTrue_43_4 (l : Launch) (dC : Nat → ClassId) (dI : Nat → Nat → Nat) (ad : Nat → Nat) (cA : Nat → ClassId) (nF : Nat) (u0 : ac_U) (p0 : Int32) (p2 : Int32) (p3 : Int32) (hR : ac_R rg u0) (hp0 : (0 : Int) ≤ p0.toInt ∧ p0.toInt ≤ 39) (hp2 : (0 : Int) ≤ p2.toInt ∧ p2.toInt ≤ 7) (hp3 : (0 : Int) ≤ p3.toInt ∧ p3.toInt ≤ 4) : ac_Mi l yX8_isOneTrue (.code yX8_isOneTrue cX8_isOneTrue 5 (some .boolean) :: TB) 2 (dC, dI) vwCl (ac_ty cA) ad cA (TT nF) [.ref (ad 43), .int p0, .ref (ad 4), .int p2, .int p3] u0 (fun (r : Int32) (u : ac_U) => u = u0 ∧ ((0 : Int) ≤ r.toInt ∧ r.toInt ≤ 1)) := by
  refine ac_Mi.of (cc := cX8_isOneTrue) (maxL := 5) (ret := (some .boolean)) (by decide) rfl (Nat.le_of_ble_eq_true rfl) ?_
  intro p e s m below meth c A ls F hml hr hlocks hA hP hD hS hl
  have F : ac_X p s m [.ref (ad 43), .int p0, .ref (ad 4), .int p2, .int p3].toArray c cX8_isOneTrue RX8 TB (dC, dI) vwCl (ac_ty cA) := ⟨F.1, F.2.1, fun w h => F.2.2.1 w (List.mem_cons_of_mem _ h), F.2.2.2.1, F.2.2.2.2⟩
  have hl : lv_has ls 5 [(0, .ref (ad 43)), (1, .int p0), (2, .ref (ad 4)), (3, .int p2), (4, .int p3)] := hl
  refine lv_aload_n F.1 F.2.1 dX8_isOneTrue_0 rfl (lv_at hl 0 rfl) ?_
  refine a_getr F inX8 hP 43 0 tc_43 rfl rfl (by decide) q440 (fun _ h9 => h9) dX8_isOneTrue_1 ?_
  refine lv_iload_n F.1 F.2.1 dX8_isOneTrue_4 rfl (lv_at hl 1 rfl) ?_
  refine a_iald F hP 44 tc_44 rfl (i_in rfl (by omega)) dX8_isOneTrue_5 (fun v1 ev1 => ?_)
  rcases (show (v1.toInt < 117 ∨ 125 < v1.toInt) ∨ v1.toInt = 117 ∨ v1.toInt = 118 ∨ v1.toInt = 119 ∨ v1.toInt = 120 ∨ v1.toInt = 121 ∨ v1.toInt = 122 ∨ v1.toInt = 123 ∨ v1.toInt = 124 ∨ v1.toInt = 125 by omega) with c2 | c2 | c2 | c2 | c2 | c2 | c2 | c2 | c2 | c2
  · refine lv_tableOut (tgt := 172) F.1 F.2.1 dX8_isOneTrue_6 c2 (by decide) ?_
    refine lv_aload_n F.1 F.2.1 dX8_isOneTrue_172 rfl (lv_at hl 0 rfl) ?_
    refine lv_iload_n F.1 F.2.1 dX8_isOneTrue_173 rfl (lv_at hl 3 rfl) ?_
    refine lv_iload_n F.1 F.2.1 dX8_isOneTrue_174 rfl (lv_at hl 1 rfl) ?_
    refine a_Vi F hml hl.1 hA hP hD hS (As := [.int p2, .int p0]) (c_X8_isSo_43 l dC dI ad cA nF _ p2 p0 hR (by omega)) (cs_RX8_44 (d := 1) F.2.2.1 (by decide)) tc_43 rfl rfl rfl rfl (Nat.le_of_ble_eq_true rfl) dX8_isOneTrue_175 ⟨Nat.le_refl 0, Nat.le_refl 0⟩ (fun r3 uN3 H locs hq hP hD hS => ?_)
    obtain ⟨hu3, gr3⟩ := hq
    rw [hu3] at hP hD
    exact a_retz F hr hlocks hP hD hS dX8_isOneTrue_178 (i_01 (by omega)) ⟨rfl, (by omega : (0 : Int) ≤ r3.toInt ∧ r3.toInt ≤ 1)⟩
  · refine lv_tableIn (tgt := 56) F.1 F.2.1 dX8_isOneTrue_6 (by omega) (by omega) (by rw [c2]; rfl) (by decide) ?_
    refine lv_iload F.1 F.2.1 dX8_isOneTrue_56 (lv_at hl 4 rfl) ?_
    refine z_eq F 65 dX8_isOneTrue_58 (by decide) rfl (fun c4 => ?_) (fun c4 => ?_)
    · refine a_ic F (0 : Int32) dX8_isOneTrue_65 (by decide) ?_
      exact a_retz F hr hlocks hP hD hS dX8_isOneTrue_66 (Or.inl rfl) ⟨rfl, (by decide)⟩
    · refine a_ic F (1 : Int32) dX8_isOneTrue_61 (by decide) ?_
      refine lv_goto (tgt := 66) F.1 F.2.1 dX8_isOneTrue_62 (by decide) ?_
      exact a_retz F hr hlocks hP hD hS dX8_isOneTrue_66 (Or.inr rfl) ⟨rfl, (by decide)⟩
  · refine lv_tableIn (tgt := 67) F.1 F.2.1 dX8_isOneTrue_6 (by omega) (by omega) (by rw [c2]; rfl) (by decide) ?_
    refine lv_iload F.1 F.2.1 dX8_isOneTrue_67 (lv_at hl 4 rfl) ?_
    refine a_ic F (1 : Int32) dX8_isOneTrue_69 (by decide) ?_
    refine b_ne F 77 dX8_isOneTrue_70 (by decide) rfl ic_1 (fun c5 => ?_) (fun c5 => ?_)
    · refine a_ic F (0 : Int32) dX8_isOneTrue_77 (by decide) ?_
      exact a_retz F hr hlocks hP hD hS dX8_isOneTrue_78 (Or.inl rfl) ⟨rfl, (by decide)⟩
    · refine a_ic F (1 : Int32) dX8_isOneTrue_73 (by decide) ?_
      refine lv_goto (tgt := 78) F.1 F.2.1 dX8_isOneTrue_74 (by decide) ?_
      exact a_retz F hr hlocks hP hD hS dX8_isOneTrue_78 (Or.inr rfl) ⟨rfl, (by decide)⟩
  · refine lv_tableIn (tgt := 79) F.1 F.2.1 dX8_isOneTrue_6 (by omega) (by omega) (by rw [c2]; rfl) (by decide) ?_
    refine lv_iload F.1 F.2.1 dX8_isOneTrue_79 (lv_at hl 4 rfl) ?_
    refine a_ic F (2 : Int32) dX8_isOneTrue_81 (by decide) ?_
    refine b_ne F 89 dX8_isOneTrue_82 (by decide) rfl ic_2 (fun c6 => ?_) (fun c6 => ?_)
    · refine a_ic F (0 : Int32) dX8_isOneTrue_89 (by decide) ?_
      exact a_retz F hr hlocks hP hD hS dX8_isOneTrue_90 (Or.inl rfl) ⟨rfl, (by decide)⟩
    · refine a_ic F (1 : Int32) dX8_isOneTrue_85 (by decide) ?_
      refine lv_goto (tgt := 90) F.1 F.2.1 dX8_isOneTrue_86 (by decide) ?_
      exact a_retz F hr hlocks hP hD hS dX8_isOneTrue_90 (Or.inr rfl) ⟨rfl, (by decide)⟩
  · refine lv_tableIn (tgt := 91) F.1 F.2.1 dX8_isOneTrue_6 (by omega) (by omega) (by rw [c2]; rfl) (by decide) ?_
    refine lv_iload F.1 F.2.1 dX8_isOneTrue_91 (lv_at hl 4 rfl) ?_
    refine a_ic F (3 : Int32) dX8_isOneTrue_93 (by decide) ?_
    refine b_ne F 101 dX8_isOneTrue_94 (by decide) rfl ic_3 (fun c7 => ?_) (fun c7 => ?_)
    · refine a_ic F (0 : Int32) dX8_isOneTrue_101 (by decide) ?_
      exact a_retz F hr hlocks hP hD hS dX8_isOneTrue_102 (Or.inl rfl) ⟨rfl, (by decide)⟩
    · refine a_ic F (1 : Int32) dX8_isOneTrue_97 (by decide) ?_
      refine lv_goto (tgt := 102) F.1 F.2.1 dX8_isOneTrue_98 (by decide) ?_
      exact a_retz F hr hlocks hP hD hS dX8_isOneTrue_102 (Or.inr rfl) ⟨rfl, (by decide)⟩
  · refine lv_tableIn (tgt := 103) F.1 F.2.1 dX8_isOneTrue_6 (by omega) (by omega) (by rw [c2]; rfl) (by decide) ?_
    refine lv_iload F.1 F.2.1 dX8_isOneTrue_103 (lv_at hl 4 rfl) ?_
    refine a_ic F (4 : Int32) dX8_isOneTrue_105 (by decide) ?_
    refine b_ne F 113 dX8_isOneTrue_106 (by decide) rfl ic_4 (fun c8 => ?_) (fun c8 => ?_)
    · refine a_ic F (0 : Int32) dX8_isOneTrue_113 (by decide) ?_
      exact a_retz F hr hlocks hP hD hS dX8_isOneTrue_114 (Or.inl rfl) ⟨rfl, (by decide)⟩
    · refine a_ic F (1 : Int32) dX8_isOneTrue_109 (by decide) ?_
      refine lv_goto (tgt := 114) F.1 F.2.1 dX8_isOneTrue_110 (by decide) ?_
      exact a_retz F hr hlocks hP hD hS dX8_isOneTrue_114 (Or.inr rfl) ⟨rfl, (by decide)⟩
  · refine lv_tableIn (tgt := 115) F.1 F.2.1 dX8_isOneTrue_6 (by omega) (by omega) (by rw [c2]; rfl) (by decide) ?_
    refine lv_aload_n F.1 F.2.1 dX8_isOneTrue_115 rfl (lv_at hl 2 rfl) ?_
    refine lv_iload_n F.1 F.2.1 dX8_isOneTrue_116 rfl (lv_at hl 3 rfl) ?_
    refine a_ic F (0 : Int32) dX8_isOneTrue_117 (by decide) ?_
    refine a_Vi F hml hl.1 hA hP hD hS (As := [.int p2, .int (0 : Int32)]) (c_X2_term_4 l dC dI ad cA nF _ p2 (0 : Int32) hR (by omega) (by decide)) (cs_RX8_38 (d := 1) F.2.2.1 (by decide)) tc_4 rfl rfl rfl rfl (Nat.le_of_ble_eq_true rfl) dX8_isOneTrue_118 ⟨Nat.le_refl 0, Nat.le_refl 0⟩ (fun r9 uN9 H locs hq hP hD hS => ?_)
    obtain ⟨hu9, xr9⟩ := hq
    rw [hu9] at hP hD
    have xr9 : ((0 : Int) = 2 → 0 ≤ r9.toInt ∧ r9.toInt ≤ 7) ∧ ((0 : Int) = 5 → 0 ≤ r9.toInt ∧ r9.toInt ≤ 3) := xr9
    refine lv_aload_n F.1 F.2.1 dX8_isOneTrue_121 rfl (lv_at hl 0 rfl) ?_
    refine a_getr F inX8 hP 43 2 tc_43 rfl rfl (by decide) q442 (fun _ h9 => h9) dX8_isOneTrue_122 ?_
    refine lv_iload_n F.1 F.2.1 dX8_isOneTrue_125 rfl (lv_at hl 1 rfl) ?_
    refine a_iald F hP 46 tc_46 rfl (i_in rfl (by omega)) dX8_isOneTrue_126 (fun v10 ev10 => ?_)
    refine b_ne F 134 dX8_isOneTrue_127 (by decide) rfl rfl (fun c11 => ?_) (fun c11 => ?_)
    · refine a_ic F (0 : Int32) dX8_isOneTrue_134 (by decide) ?_
      exact a_retz F hr hlocks hP hD hS dX8_isOneTrue_135 (Or.inl rfl) ⟨rfl, (by decide)⟩
    · refine a_ic F (1 : Int32) dX8_isOneTrue_130 (by decide) ?_
      refine lv_goto (tgt := 135) F.1 F.2.1 dX8_isOneTrue_131 (by decide) ?_
      exact a_retz F hr hlocks hP hD hS dX8_isOneTrue_135 (Or.inr rfl) ⟨rfl, (by decide)⟩
  · refine lv_tableIn (tgt := 136) F.1 F.2.1 dX8_isOneTrue_6 (by omega) (by omega) (by rw [c2]; rfl) (by decide) ?_
    refine lv_aload_n F.1 F.2.1 dX8_isOneTrue_136 rfl (lv_at hl 0 rfl) ?_
    refine lv_aload_n F.1 F.2.1 dX8_isOneTrue_137 rfl (lv_at hl 2 rfl) ?_
    refine lv_iload_n F.1 F.2.1 dX8_isOneTrue_138 rfl (lv_at hl 3 rfl) ?_
    refine a_ic F (3 : Int32) dX8_isOneTrue_139 (by decide) ?_
    refine a_Vi F hml hl.1 hA hP hD hS (As := [.int p2, .int (3 : Int32)]) (c_X2_term_4 l dC dI ad cA nF _ p2 (3 : Int32) hR (by omega) (by decide)) (cs_RX8_38 (d := 1) F.2.2.1 (by decide)) tc_4 rfl rfl rfl rfl (Nat.le_of_ble_eq_true rfl) dX8_isOneTrue_140 ⟨Nat.le_refl 0, Nat.le_refl 0⟩ (fun r12 uN12 H locs hq hP hD hS => ?_)
    obtain ⟨hu12, xr12⟩ := hq
    rw [hu12] at hP hD
    have xr12 : ((3 : Int) = 2 → 0 ≤ r12.toInt ∧ r12.toInt ≤ 7) ∧ ((3 : Int) = 5 → 0 ≤ r12.toInt ∧ r12.toInt ≤ 3) := xr12
    refine lv_iload_n F.1 F.2.1 dX8_isOneTrue_143 rfl (lv_at hl 1 rfl) ?_
    refine a_Vi F hml hl.1 hA hP hD hS (As := [.int r12, .int p0]) (c_X8_isSo_43 l dC dI ad cA nF _ r12 p0 hR (by omega)) (cs_RX8_44 (d := 1) F.2.2.1 (by decide)) tc_43 rfl rfl rfl rfl (Nat.le_of_ble_eq_true rfl) dX8_isOneTrue_144 ⟨Nat.le_refl 0, Nat.le_refl 0⟩ (fun r13 uN13 H locs hq hP hD hS => ?_)
    obtain ⟨hu13, gr13⟩ := hq
    rw [hu13] at hP hD
    exact a_retz F hr hlocks hP hD hS dX8_isOneTrue_147 (i_01 (by omega)) ⟨rfl, (by omega : (0 : Int) ≤ r13.toInt ∧ r13.toInt ≤ 1)⟩
  · refine lv_tableIn (tgt := 148) F.1 F.2.1 dX8_isOneTrue_6 (by omega) (by omega) (by rw [c2]; rfl) (by decide) ?_
    refine lv_aload_n F.1 F.2.1 dX8_isOneTrue_148 rfl (lv_at hl 0 rfl) ?_
    refine lv_aload_n F.1 F.2.1 dX8_isOneTrue_149 rfl (lv_at hl 2 rfl) ?_
    refine lv_iload_n F.1 F.2.1 dX8_isOneTrue_150 rfl (lv_at hl 3 rfl) ?_
    refine a_ic F (4 : Int32) dX8_isOneTrue_151 (by decide) ?_
    refine a_Vi F hml hl.1 hA hP hD hS (As := [.int p2, .int (4 : Int32)]) (c_X2_term_4 l dC dI ad cA nF _ p2 (4 : Int32) hR (by omega) (by decide)) (cs_RX8_38 (d := 1) F.2.2.1 (by decide)) tc_4 rfl rfl rfl rfl (Nat.le_of_ble_eq_true rfl) dX8_isOneTrue_152 ⟨Nat.le_refl 0, Nat.le_refl 0⟩ (fun r14 uN14 H locs hq hP hD hS => ?_)
    obtain ⟨hu14, xr14⟩ := hq
    rw [hu14] at hP hD
    have xr14 : ((4 : Int) = 2 → 0 ≤ r14.toInt ∧ r14.toInt ≤ 7) ∧ ((4 : Int) = 5 → 0 ≤ r14.toInt ∧ r14.toInt ≤ 3) := xr14
    refine lv_iload_n F.1 F.2.1 dX8_isOneTrue_155 rfl (lv_at hl 1 rfl) ?_
    refine a_Vi F hml hl.1 hA hP hD hS (As := [.int r14, .int p0]) (c_X8_isSo_43 l dC dI ad cA nF _ r14 p0 hR (by omega)) (cs_RX8_44 (d := 1) F.2.2.1 (by decide)) tc_43 rfl rfl rfl rfl (Nat.le_of_ble_eq_true rfl) dX8_isOneTrue_156 ⟨Nat.le_refl 0, Nat.le_refl 0⟩ (fun r15 uN15 H locs hq hP hD hS => ?_)
    obtain ⟨hu15, gr15⟩ := hq
    rw [hu15] at hP hD
    exact a_retz F hr hlocks hP hD hS dX8_isOneTrue_159 (i_01 (by omega)) ⟨rfl, (by omega : (0 : Int) ≤ r15.toInt ∧ r15.toInt ≤ 1)⟩
  · refine lv_tableIn (tgt := 160) F.1 F.2.1 dX8_isOneTrue_6 (by omega) (by omega) (by rw [c2]; rfl) (by decide) ?_
    refine lv_aload_n F.1 F.2.1 dX8_isOneTrue_160 rfl (lv_at hl 0 rfl) ?_
    refine lv_aload_n F.1 F.2.1 dX8_isOneTrue_161 rfl (lv_at hl 2 rfl) ?_
    refine lv_iload_n F.1 F.2.1 dX8_isOneTrue_162 rfl (lv_at hl 3 rfl) ?_
    refine a_ic F (5 : Int32) dX8_isOneTrue_163 (by decide) ?_
    refine a_Vi F hml hl.1 hA hP hD hS (As := [.int p2, .int (5 : Int32)]) (c_X2_term_4 l dC dI ad cA nF _ p2 (5 : Int32) hR (by omega) (by decide)) (cs_RX8_38 (d := 1) F.2.2.1 (by decide)) tc_4 rfl rfl rfl rfl (Nat.le_of_ble_eq_true rfl) dX8_isOneTrue_164 ⟨Nat.le_refl 0, Nat.le_refl 0⟩ (fun r16 uN16 H locs hq hP hD hS => ?_)
    obtain ⟨hu16, xr16⟩ := hq
    rw [hu16] at hP hD
    have xr16 : ((5 : Int) = 2 → 0 ≤ r16.toInt ∧ r16.toInt ≤ 7) ∧ ((5 : Int) = 5 → 0 ≤ r16.toInt ∧ r16.toInt ≤ 3) := xr16
    refine lv_iload_n F.1 F.2.1 dX8_isOneTrue_167 rfl (lv_at hl 1 rfl) ?_
    refine a_Vi F hml hl.1 hA hP hD hS (As := [.int r16, .int p0]) (c_X8_isSo_43 l dC dI ad cA nF _ r16 p0 hR (by omega)) (cs_RX8_44 (d := 1) F.2.2.1 (by decide)) tc_43 rfl rfl rfl rfl (Nat.le_of_ble_eq_true rfl) dX8_isOneTrue_168 ⟨Nat.le_refl 0, Nat.le_refl 0⟩ (fun r17 uN17 H locs hq hP hD hS => ?_)
    obtain ⟨hu17, gr17⟩ := hq
    rw [hu17] at hP hD
    exact a_retz F hr hlocks hP hD hS dX8_isOneTrue_171 (i_01 (by omega)) ⟨rfl, (by omega : (0 : Int) ≤ r17.toInt ∧ r17.toInt ≤ 1)⟩
set_option maxHeartbeats 600000 in
set_option maxRecDepth 100000 in
theorem c_X8_isTrueOf_43_4 (l : Launch) (dC : Nat → ClassId) (dI : Nat → Nat → Nat) (ad : Nat → Nat) (cA : Nat → ClassId) (nF : Nat) (u0 : ac_U) (p1 : Int32) (p2 : Int32) (hR : ac_R rg u0) (hp1 : (0 : Int) ≤ p1.toInt ∧ p1.toInt ≤ 7) (hp2 : (0 : Int) ≤ p2.toInt ∧ p2.toInt ≤ 4) : ac_Mi l yX8_isTrueOf (.code yX8_isTrueOf cX8_isTrueOf 8 (some .boolean) :: TB) 3 (dC, dI) vwCl (ac_ty cA) ad cA (TT nF) [.ref (ad 43), .ref (ad 4), .int p1, .int p2] u0 (fun (r : Int32) (u : ac_U) => u = u0 ∧ ((0 : Int) ≤ r.toInt ∧ r.toInt ≤ 1)) := by
  refine ac_Mi.of (cc := cX8_isTrueOf) (maxL := 8) (ret := (some .boolean)) (by decide) rfl (Nat.le_of_ble_eq_true rfl) ?_
  intro p e s m below meth c A ls F hml hr hlocks hA hP hD hS hl
  have F : ac_X p s m [.ref (ad 43), .ref (ad 4), .int p1, .int p2].toArray c cX8_isTrueOf RX8 TB (dC, dI) vwCl (ac_ty cA) := ⟨F.1, F.2.1, fun w h => F.2.2.1 w (List.mem_cons_of_mem _ h), F.2.2.2.1, F.2.2.2.2⟩
  have hl : lv_has ls 8 [(0, .ref (ad 43)), (1, .ref (ad 4)), (2, .int p1), (3, .int p2)] := hl
  have L6 : ∀ (n6 : Nat) (x4 : Int32) (x5 : Int32) (H : Heap) (locs : List Loc) (ls : Array Slot), 40 - x5.toInt < (n6 : Int) → (0 : Int) ≤ x5.toInt ∧ x5.toInt ≤ 40 → va_P (dC, dI) vwCl (ac_w ad cA (TT nF) u0) H → va_D A (ac_w ad cA (TT nF) u0) → va_S A s.heap H locs → lv_has ls 8 [(0, .ref (ad 43)), (1, .ref (ad 4)), (2, .int p1), (3, .int p2), (4, .int x4), (5, .int x5)] → W p l e (ac_rm 3) s m [.ref (ad 43), .ref (ad 4), .int p1, .int p2].toArray below meth c H locs 0 0 (MQ below (va_Qi (fun (r : Int32) (u : ac_U) => u = u0 ∧ ((0 : Int) ≤ r.toInt ∧ r.toInt ≤ 1)) (ac_B (dC, dI) vwCl (ac_ty cA) ad cA (TT nF) A) A) [.ref (ad 43), .ref (ad 4), .int p1, .int p2].toArray s 0 0 A) (F0 m 6 ls []) := by
    intro n6
    induction n6 with
    | zero => intro x4 x5 H locs ls hn6 f0 hP hD hS hl; exfalso; omega
    | succ n6 ih6 =>
      intro x4 x5 H locs ls hn6 f0 hP hD hS hl
      have L119 : ∀ (x4 : Int32) (x5 : Int32) (H : Heap) (locs : List Loc) (ls : Array Slot), (0 : Int) ≤ x5.toInt ∧ x5.toInt ≤ 39 → (1 : Int) ≤ (u0.1 43 3).toInt ∧ (u0.1 43 3).toInt ≤ 40 → 40 - x5.toInt + 0 < ((n6 : Nat) : Int) + 1 → va_P (dC, dI) vwCl (ac_w ad cA (TT nF) u0) H → va_D A (ac_w ad cA (TT nF) u0) → va_S A s.heap H locs → lv_has ls 8 [(0, .ref (ad 43)), (1, .ref (ad 4)), (2, .int p1), (3, .int p2), (4, .int x4), (5, .int x5)] → W p l e (ac_rm 3) s m [.ref (ad 43), .ref (ad 4), .int p1, .int p2].toArray below meth c H locs 0 0 (MQ below (va_Qi (fun (r : Int32) (u : ac_U) => u = u0 ∧ ((0 : Int) ≤ r.toInt ∧ r.toInt ≤ 1)) (ac_B (dC, dI) vwCl (ac_ty cA) ad cA (TT nF) A) A) [.ref (ad 43), .ref (ad 4), .int p1, .int p2].toArray s 0 0 A) (F0 m 119 ls []) := by
        intro x4 x5 H locs ls f0 f1 f2 hP hD hS hl
        refine a_iinc F (k := 5) (fun v1 => [(5, .int v1), (0, .ref (ad 43)), (1, .ref (ad 4)), (2, .int p1), (3, .int p2), (4, .int x4)]) dX8_isTrueOf_119 hl rfl rfl (by decide) (by omega) (by decide) (fun _ => rfl) (fun v1 ls hv1 hl => ?_)
        refine lv_goto (tgt := 6) F.1 F.2.1 dX8_isTrueOf_122 (by decide) ?_
        exact ih6 x4 v1 _ _ _ (by omega) (by omega) hP hD hS (lv_sub hl [1, 2, 3, 4, 5, 0] rfl)
      have L116 : ∀ (x5 : Int32) (z0 : Int32) (z1 : Int32) (H : Heap) (locs : List Loc) (ls : Array Slot), (0 : Int) ≤ x5.toInt ∧ x5.toInt ≤ 39 → (0 : Int) ≤ z1.toInt ∧ z1.toInt ≤ 1 → (1 : Int) ≤ (u0.1 43 3).toInt ∧ (u0.1 43 3).toInt ≤ 40 → 40 - x5.toInt + 0 < ((n6 : Nat) : Int) + 1 → va_P (dC, dI) vwCl (ac_w ad cA (TT nF) u0) H → va_D A (ac_w ad cA (TT nF) u0) → va_S A s.heap H locs → lv_has ls 8 [(0, .ref (ad 43)), (1, .ref (ad 4)), (2, .int p1), (3, .int p2), (5, .int x5)] → W p l e (ac_rm 3) s m [.ref (ad 43), .ref (ad 4), .int p1, .int p2].toArray below meth c H locs 0 0 (MQ below (va_Qi (fun (r : Int32) (u : ac_U) => u = u0 ∧ ((0 : Int) ≤ r.toInt ∧ r.toInt ≤ 1)) (ac_B (dC, dI) vwCl (ac_ty cA) ad cA (TT nF) A) A) [.ref (ad 43), .ref (ad 4), .int p1, .int p2].toArray s 0 0 A) (F0 m 116 ls [.int z1, .int z0]) := by
        intro x5 z0 z1 H locs ls f0 f1 f2 f3 hP hD hS hl
        refine a_iorU F dX8_isTrueOf_116 (fun v2 => ?_)
        refine lv_istore (lv' := [(4, .int v2), (0, .ref (ad 43)), (1, .ref (ad 4)), (2, .int p1), (3, .int p2), (5, .int x5)]) F.1 F.2.1 dX8_isTrueOf_117 hl (by decide) rfl (fun ls hl => ?_)
        have g3 : (0 : Int) ≤ (u0.1 43 3).toInt ∧ (u0.1 43 3).toInt ≤ 40 := hR 43 3
        exact L119 v2 x5 _ _ _ (by omega) (by omega : (1 : Int) ≤ (u0.1 43 3).toInt ∧ (u0.1 43 3).toInt ≤ 40) (by omega) hP hD hS (lv_sub hl [1, 2, 3, 4, 0, 5] rfl)
      refine lv_iload F.1 F.2.1 dX8_isTrueOf_6 (lv_at hl 5 rfl) ?_
      refine lv_aload_n F.1 F.2.1 dX8_isTrueOf_8 rfl (lv_at hl 0 rfl) ?_
      have g4 : (0 : Int) ≤ (u0.1 43 3).toInt ∧ (u0.1 43 3).toInt ≤ 40 := hR 43 3
      refine a_geti F inX8 hP 43 3 tc_43 rfl rfl (by decide) q443 (fun _ h9 => h9) (v := (u0.1 43 3)) rfl dX8_isTrueOf_9 ?_
      refine b_ge F 125 dX8_isTrueOf_12 (by decide) rfl rfl (fun c5 => ?_) (fun c5 => ?_)
      · refine lv_iload F.1 F.2.1 dX8_isTrueOf_125 (lv_at hl 4 rfl) ?_
        refine a_ic F (1 : Int32) dX8_isTrueOf_127 (by decide) ?_
        refine a_iandM F dX8_isTrueOf_128 ic_1 (by omega) (fun v6 hv6 => ?_)
        refine a_ic F (1 : Int32) dX8_isTrueOf_129 (by decide) ?_
        refine b_ne F 137 dX8_isTrueOf_130 (by decide) rfl ic_1 (fun c7 => ?_) (fun c7 => ?_)
        · refine a_ic F (0 : Int32) dX8_isTrueOf_137 (by decide) ?_
          exact a_retz F hr hlocks hP hD hS dX8_isTrueOf_138 (Or.inl rfl) ⟨rfl, (by decide)⟩
        · refine a_ic F (1 : Int32) dX8_isTrueOf_133 (by decide) ?_
          refine lv_goto (tgt := 138) F.1 F.2.1 dX8_isTrueOf_134 (by decide) ?_
          exact a_retz F hr hlocks hP hD hS dX8_isTrueOf_138 (Or.inr rfl) ⟨rfl, (by decide)⟩
      · refine lv_iload F.1 F.2.1 dX8_isTrueOf_15 (lv_at hl 4 rfl) ?_
        refine a_ic F (1 : Int32) dX8_isTrueOf_17 (by decide) ?_
        refine a_iandM F dX8_isTrueOf_18 ic_1 (by omega) (fun v8 hv8 => ?_)
        refine lv_istore (lv' := [(6, .int v8), (0, .ref (ad 43)), (1, .ref (ad 4)), (2, .int p1), (3, .int p2), (4, .int x4), (5, .int x5)]) F.1 F.2.1 dX8_isTrueOf_19 hl (by decide) rfl (fun ls hl => ?_)
        refine lv_iload F.1 F.2.1 dX8_isTrueOf_21 (lv_at hl 5 rfl) ?_
        refine a_ic F (1 : Int32) dX8_isTrueOf_23 (by decide) ?_
        refine a_ishrU F dX8_isTrueOf_24 (fun v9 => ?_)
        refine lv_istore (lv' := [(7, .int v9), (6, .int v8), (0, .ref (ad 43)), (1, .ref (ad 4)), (2, .int p1), (3, .int p2), (4, .int x4), (5, .int x5)]) F.1 F.2.1 dX8_isTrueOf_25 hl (by decide) rfl (fun ls hl => ?_)
        refine lv_aload_n F.1 F.2.1 dX8_isTrueOf_27 rfl (lv_at hl 2 rfl) ?_
        refine a_getr F inX8 hP 43 0 tc_43 rfl rfl (by decide) q440 (fun _ h9 => h9) dX8_isTrueOf_28 ?_
        refine lv_iload F.1 F.2.1 dX8_isTrueOf_31 (lv_at hl 7 rfl) ?_
        refine a_iald F hP 44 tc_44 rfl (i_in rfl (by omega)) dX8_isTrueOf_33 (fun v10 ev10 => ?_)
        refine a_bp F (116 : Int32) dX8_isTrueOf_34 (by decide) ?_
        refine b_ne F 48 dX8_isTrueOf_36 (by decide) rfl ic_116 (fun c11 => ?_) (fun c11 => ?_)
        · refine lv_aload_n F.1 F.2.1 dX8_isTrueOf_48 rfl (lv_at hl 2 rfl) ?_
          refine a_getr F inX8 hP 43 0 tc_43 rfl rfl (by decide) q440 (fun _ h9 => h9) dX8_isTrueOf_49 ?_
          refine lv_iload F.1 F.2.1 dX8_isTrueOf_52 (lv_at hl 7 rfl) ?_
          refine a_iald F hP 44 tc_44 rfl (i_in rfl (by omega)) dX8_isTrueOf_54 (fun v12 ev12 => ?_)
          refine a_bp F (115 : Int32) dX8_isTrueOf_55 (by decide) ?_
          refine b_ne F 73 dX8_isTrueOf_57 (by decide) rfl ic_115 (fun c13 => ?_) (fun c13 => ?_)
          · refine lv_aload_n F.1 F.2.1 dX8_isTrueOf_73 rfl (lv_at hl 2 rfl) ?_
            refine a_getr F inX8 hP 43 0 tc_43 rfl rfl (by decide) q440 (fun _ h9 => h9) dX8_isTrueOf_74 ?_
            refine lv_iload F.1 F.2.1 dX8_isTrueOf_77 (lv_at hl 7 rfl) ?_
            refine a_iald F hP 44 tc_44 rfl (i_in rfl (by omega)) dX8_isTrueOf_79 (fun v14 ev14 => ?_)
            refine a_bp F (114 : Int32) dX8_isTrueOf_80 (by decide) ?_
            refine b_ne F 95 dX8_isTrueOf_82 (by decide) rfl ic_114 (fun c15 => ?_) (fun c15 => ?_)
            · refine lv_iload F.1 F.2.1 dX8_isTrueOf_95 (lv_at hl 6 rfl) ?_
              refine a_ic F (1 : Int32) dX8_isTrueOf_97 (by decide) ?_
              refine a_ishlU F dX8_isTrueOf_98 (fun v16 => ?_)
              refine lv_aload_n F.1 F.2.1 dX8_isTrueOf_99 rfl (lv_at hl 2 rfl) ?_
              refine lv_iload F.1 F.2.1 dX8_isTrueOf_100 (lv_at hl 7 rfl) ?_
              refine lv_aload_n F.1 F.2.1 dX8_isTrueOf_102 rfl (lv_at hl 3 rfl) ?_
              refine lv_iload_n F.1 F.2.1 dX8_isTrueOf_103 rfl (lv_at hl 4 rfl) ?_
              refine lv_iload_n F.1 F.2.1 dX8_isTrueOf_104 rfl (lv_at hl 5 rfl) ?_
              refine a_Vi F hml hl.1 hA hP hD hS (As := [.int x5, .ref (ad 4), .int p1, .int p2]) (c_X8_isOneTrue_43_4 l dC dI ad cA nF _ x5 p1 p2 hR (by omega) (by omega) (by omega)) (cs_RX8_34 (d := 2) F.2.2.1 (by decide)) tc_43 rfl rfl rfl rfl (Nat.le_of_ble_eq_true rfl) dX8_isTrueOf_105 ⟨Nat.le_refl 0, Nat.le_refl 0⟩ (fun r17 uN17 H locs hq hP hD hS => ?_)
              obtain ⟨hu17, gr17⟩ := hq
              rw [hu17] at hP hD
              refine z_eq F 115 dX8_isTrueOf_108 (by decide) rfl (fun c18 => ?_) (fun c18 => ?_)
              · refine a_ic F (0 : Int32) dX8_isTrueOf_115 (by decide) ?_
                exact L116 x5 v16 (0 : Int32) _ _ _ (by omega) (by decide) (by omega : (1 : Int) ≤ (u0.1 43 3).toInt ∧ (u0.1 43 3).toInt ≤ 40) (by omega) hP hD hS (lv_sub hl [2, 3, 4, 5, 7] rfl)
              · refine a_ic F (1 : Int32) dX8_isTrueOf_111 (by decide) ?_
                refine lv_goto (tgt := 116) F.1 F.2.1 dX8_isTrueOf_112 (by decide) ?_
                exact L116 x5 v16 (1 : Int32) _ _ _ (by omega) (by decide) (by omega : (1 : Int) ≤ (u0.1 43 3).toInt ∧ (u0.1 43 3).toInt ≤ 40) (by omega) hP hD hS (lv_sub hl [2, 3, 4, 5, 7] rfl)
            · refine lv_iload F.1 F.2.1 dX8_isTrueOf_85 (lv_at hl 0 rfl) ?_
              refine lv_iload F.1 F.2.1 dX8_isTrueOf_87 (lv_at hl 1 rfl) ?_
              refine a_iorU F dX8_isTrueOf_89 (fun v19 => ?_)
              refine lv_istore (lv' := [(4, .int v19), (7, .int v9), (6, .int v8), (0, .ref (ad 43)), (1, .ref (ad 4)), (2, .int p1), (3, .int p2), (5, .int x5)]) F.1 F.2.1 dX8_isTrueOf_90 hl (by decide) rfl (fun ls hl => ?_)
              refine lv_goto (tgt := 119) F.1 F.2.1 dX8_isTrueOf_92 (by decide) ?_
              exact L119 v19 x5 _ _ _ (by omega) (by omega : (1 : Int) ≤ (u0.1 43 3).toInt ∧ (u0.1 43 3).toInt ≤ 40) (by omega) hP hD hS (lv_sub hl [3, 4, 5, 6, 0, 7] rfl)
          · refine lv_iload F.1 F.2.1 dX8_isTrueOf_60 (lv_at hl 0 rfl) ?_
            refine a_bp F (-2 : Int32) dX8_isTrueOf_62 (by decide) ?_
            refine lv_iload F.1 F.2.1 dX8_isTrueOf_64 (lv_at hl 1 rfl) ?_
            refine a_iorU F dX8_isTrueOf_66 (fun v20 => ?_)
            refine a_iandU F dX8_isTrueOf_67 (fun v21 => ?_)
            refine lv_istore (lv' := [(4, .int v21), (7, .int v9), (6, .int v8), (0, .ref (ad 43)), (1, .ref (ad 4)), (2, .int p1), (3, .int p2), (5, .int x5)]) F.1 F.2.1 dX8_isTrueOf_68 hl (by decide) rfl (fun ls hl => ?_)
            refine lv_goto (tgt := 119) F.1 F.2.1 dX8_isTrueOf_70 (by decide) ?_
            exact L119 v21 x5 _ _ _ (by omega) (by omega : (1 : Int) ≤ (u0.1 43 3).toInt ∧ (u0.1 43 3).toInt ≤ 40) (by omega) hP hD hS (lv_sub hl [3, 4, 5, 6, 0, 7] rfl)
        · refine lv_iload F.1 F.2.1 dX8_isTrueOf_39 (lv_at hl 6 rfl) ?_
          refine a_ic F (1 : Int32) dX8_isTrueOf_41 (by decide) ?_
          refine a_ixorU F dX8_isTrueOf_42 (fun v22 => ?_)
          refine lv_istore (lv' := [(4, .int v22), (7, .int v9), (6, .int v8), (0, .ref (ad 43)), (1, .ref (ad 4)), (2, .int p1), (3, .int p2), (5, .int x5)]) F.1 F.2.1 dX8_isTrueOf_43 hl (by decide) rfl (fun ls hl => ?_)
          refine lv_goto (tgt := 119) F.1 F.2.1 dX8_isTrueOf_45 (by decide) ?_
          exact L119 v22 x5 _ _ _ (by omega) (by omega : (1 : Int) ≤ (u0.1 43 3).toInt ∧ (u0.1 43 3).toInt ≤ 40) (by omega) hP hD hS (lv_sub hl [3, 4, 5, 6, 0, 7] rfl)
  refine a_ic F (0 : Int32) dX8_isTrueOf_0 (by decide) ?_
  refine lv_istore (lv' := [(4, .int (0 : Int32)), (0, .ref (ad 43)), (1, .ref (ad 4)), (2, .int p1), (3, .int p2)]) F.1 F.2.1 dX8_isTrueOf_1 hl (by decide) rfl (fun ls hl => ?_)
  refine a_ic F (0 : Int32) dX8_isTrueOf_3 (by decide) ?_
  refine lv_istore (lv' := [(5, .int (0 : Int32)), (4, .int (0 : Int32)), (0, .ref (ad 43)), (1, .ref (ad 4)), (2, .int p1), (3, .int p2)]) F.1 F.2.1 dX8_isTrueOf_4 hl (by decide) rfl (fun ls hl => ?_)
  exact L6 42 (0 : Int32) (0 : Int32) _ _ _ (by decide) (by decide) hP hD hS (lv_sub hl [2, 3, 4, 5, 1, 0] rfl)
set_option maxHeartbeats 600000 in
set_option maxRecDepth 100000 in
theorem c_X9_begin_51 (l : Launch) (dC : Nat → ClassId) (dI : Nat → Nat → Nat) (ad : Nat → Nat) (cA : Nat → ClassId) (nF : Nat) (u0 : ac_U)  (hR : ac_R rg u0) : ac_Mv l yX9_begin (.code yX9_begin cX9_begin 1 none :: TB) 5 (dC, dI) vwCl (ac_ty cA) ad cA (TT nF) [.ref (ad 51)] u0 (fun (u : ac_U) => ac_R rg u ∧ ac_Fr [(1, some 3), (1, some 4), (1, some 5), (1, some 6), (1, some 8), (1, some 10), (1, some 11), (47, some 3), (47, some 4)] u0 u) := by
  refine ac_Mv.of (cc := cX9_begin) (maxL := 1) (ret := none) (by decide) rfl (Nat.le_of_ble_eq_true rfl) ?_
  intro p e s m below meth c A ls F hml hr hlocks hA hP hD hS hl
  have F : ac_X p s m [.ref (ad 51)].toArray c cX9_begin RX9 TB (dC, dI) vwCl (ac_ty cA) := ⟨F.1, F.2.1, fun w h => F.2.2.1 w (List.mem_cons_of_mem _ h), F.2.2.2.1, F.2.2.2.2⟩
  have hl : lv_has ls 1 [(0, .ref (ad 51))] := hl
  have hF : ac_Fr [(1, some 3), (1, some 4), (1, some 5), (1, some 6), (1, some 8), (1, some 10), (1, some 11), (47, some 3), (47, some 4)] u0 u0 := ac_Fr.rf
  refine lv_aload_n F.1 F.2.1 dX9_begin_0 rfl (lv_at hl 0 rfl) ?_
  refine a_getr F inX9 hP 51 2 tc_51 rfl rfl (by decide) q467 (fun _ h9 => h9) dX9_begin_1 ?_
  refine a_Vv F hml hl.1 hA hP hD hS (As := []) (c_X8_clear_47 l dC dI ad cA nF _  hR) (cs_RX9_23 (d := 1) F.2.2.1 (by decide)) tc_47 rfl rfl rfl rfl (Nat.le_of_ble_eq_true rfl) dX9_begin_4 ⟨Nat.le_refl 0, Nat.le_refl 0⟩ (fun u1 H locs hq hP hD hS => ?_)
  obtain ⟨hR, hF1⟩ := hq
  have hF := hF.tr hF1 (by decide)
  refine lv_aload_n F.1 F.2.1 dX9_begin_7 rfl (lv_at hl 0 rfl) ?_
  refine a_getr F inX9 hP 51 0 tc_51 rfl rfl (by decide) q465 (fun _ h9 => h9) dX9_begin_8 ?_
  refine a_sp F (200 : Int32) dX9_begin_11 (by decide) ?_
  refine a_Vv F hml hl.1 hA hP hD hS (As := [.int (200 : Int32)]) (c_X10_startReading_1 l dC dI ad cA nF _ (200 : Int32) hR (by decide)) (cs_RX9_28 (d := 4) F.2.2.1 (by decide)) tc_1 rfl rfl rfl rfl (Nat.le_of_ble_eq_true rfl) dX9_begin_14 ⟨Nat.le_refl 0, Nat.le_refl 0⟩ (fun u2 H locs hq hP hD hS => ?_)
  obtain ⟨hR, hF2⟩ := hq
  have hF := hF.tr hF2 (by decide)
  exact a_retv F hr hlocks hP hD hS dX9_begin_17 ⟨hR, hF⟩
set_option maxHeartbeats 600000 in
set_option maxRecDepth 100000 in
theorem c_X9_isAtEnd_51 (l : Launch) (dC : Nat → ClassId) (dI : Nat → Nat → Nat) (ad : Nat → Nat) (cA : Nat → ClassId) (nF : Nat) (u0 : ac_U)  (hR : ac_R rg u0) : ac_Mi l yX9_isAtEnd (.code yX9_isAtEnd cX9_isAtEnd 1 (some .boolean) :: TB) 2 (dC, dI) vwCl (ac_ty cA) ad cA (TT nF) [.ref (ad 51)] u0 (fun (r : Int32) (u : ac_U) => ac_R rg u ∧ ac_Fr [(1, some 10), (1, some 11)] u0 u ∧ ((0 : Int) ≤ r.toInt ∧ r.toInt ≤ 1)) := by
  refine ac_Mi.of (cc := cX9_isAtEnd) (maxL := 1) (ret := (some .boolean)) (by decide) rfl (Nat.le_of_ble_eq_true rfl) ?_
  intro p e s m below meth c A ls F hml hr hlocks hA hP hD hS hl
  have F : ac_X p s m [.ref (ad 51)].toArray c cX9_isAtEnd RX9 TB (dC, dI) vwCl (ac_ty cA) := ⟨F.1, F.2.1, fun w h => F.2.2.1 w (List.mem_cons_of_mem _ h), F.2.2.2.1, F.2.2.2.2⟩
  have hl : lv_has ls 1 [(0, .ref (ad 51))] := hl
  have hF : ac_Fr [(1, some 10), (1, some 11)] u0 u0 := ac_Fr.rf
  have L21 : ∀ (u : ac_U) (H : Heap) (locs : List Loc) (ls : Array Slot), ac_R rg u → ac_Fr [(1, some 10), (1, some 11)] u0 u → (0 : Int) ≤ (u.1 1 6).toInt ∧ (u.1 1 6).toInt ≤ 0 → va_P (dC, dI) vwCl (ac_w ad cA (TT nF) u) H → va_D A (ac_w ad cA (TT nF) u) → va_S A s.heap H locs → lv_has ls 1 [] → W p l e (ac_rm 2) s m [.ref (ad 51)].toArray below meth c H locs 0 0 (MQ below (va_Qi (fun (r : Int32) (u : ac_U) => ac_R rg u ∧ ac_Fr [(1, some 10), (1, some 11)] u0 u ∧ ((0 : Int) ≤ r.toInt ∧ r.toInt ≤ 1)) (ac_B (dC, dI) vwCl (ac_ty cA) ad cA (TT nF) A) A) [.ref (ad 51)].toArray s 0 0 A) (F0 m 21 ls []) := by
    intro u H locs ls hR hF f0 hP hD hS hl
    refine a_ic F (1 : Int32) dX9_isAtEnd_21 (by decide) ?_
    refine lv_goto (tgt := 26) F.1 F.2.1 dX9_isAtEnd_22 (by decide) ?_
    exact a_retz F hr hlocks hP hD hS dX9_isAtEnd_26 (Or.inr rfl) ⟨hR, hF, (by decide)⟩
  refine lv_aload_n F.1 F.2.1 dX9_isAtEnd_0 rfl (lv_at hl 0 rfl) ?_
  refine a_getr F inX9 hP 51 0 tc_51 rfl rfl (by decide) q465 (fun _ h9 => h9) dX9_isAtEnd_1 ?_
  have g1 : (-128 : Int) ≤ (u0.1 1 6).toInt ∧ (u0.1 1 6).toInt ≤ 127 := hR 1 6
  refine a_geti F inX10 hP 1 6 tc_1 rfl rfl (by decide) q103 (fun _ h9 => h9) (v := (u0.1 1 6)) rfl dX9_isAtEnd_4 ?_
  refine z_eq F 21 dX9_isAtEnd_7 (by decide) rfl (fun c2 => ?_) (fun c2 => ?_)
  · exact L21 _ _ _ _ hR hF (by omega : (0 : Int) ≤ (u0.1 1 6).toInt ∧ (u0.1 1 6).toInt ≤ 0) hP hD hS (lv_sub hl [] rfl)
  · refine lv_aload_n F.1 F.2.1 dX9_isAtEnd_10 rfl (lv_at hl 0 rfl) ?_
    refine a_getr F inX9 hP 51 0 tc_51 rfl rfl (by decide) q465 (fun _ h9 => h9) dX9_isAtEnd_11 ?_
    refine a_ic F (1 : Int32) dX9_isAtEnd_14 (by decide) ?_
    refine a_Vi F hml hl.1 hA hP hD hS (As := [.int (1 : Int32)]) (c_X10_fail_1 l dC dI ad cA nF _ (1 : Int32) hR (by decide)) (cs_RX9_38 (d := 1) F.2.2.1 (by decide)) tc_1 rfl rfl rfl rfl (Nat.le_of_ble_eq_true rfl) dX9_isAtEnd_15 ⟨Nat.le_refl 0, Nat.le_refl 0⟩ (fun r3 u3 H locs hq hP hD hS => ?_)
    obtain ⟨hR, hF3, gr3⟩ := hq
    have hF := hF.tr hF3 (by decide)
    refine z_eq F 25 dX9_isAtEnd_18 (by decide) rfl (fun c4 => ?_) (fun c4 => ?_)
    · refine a_ic F (0 : Int32) dX9_isAtEnd_25 (by decide) ?_
      exact a_retz F hr hlocks hP hD hS dX9_isAtEnd_26 (Or.inl rfl) ⟨hR, hF, (by decide)⟩
    · exfalso; omega
set_option maxHeartbeats 600000 in
set_option maxRecDepth 100000 in
theorem c_X9_readOne_51_d9 (l : Launch) (dC : Nat → ClassId) (dI : Nat → Nat → Nat) (ad : Nat → Nat) (cA : Nat → ClassId) (nF : Nat) (u0 : ac_U) (p0 : Int32) (hR : ac_R rg u0) (hp0 : (9 : Int) ≤ p0.toInt ∧ p0.toInt ≤ 9) (hK_N4 : nmI 11 12 u0) : ac_Mi l yX9_readOne (.code yX9_readOne cX9_readOne 3 (some .boolean) :: TB) 2 (dC, dI) vwCl (ac_ty cA) ad cA (TT nF) [.ref (ad 51), .int p0] u0 (fun (r : Int32) (u : ac_U) => ac_R rg u ∧ ac_Fr [(1, some 10), (1, some 11)] u0 u ∧ ((0 : Int) ≤ r.toInt ∧ r.toInt ≤ 0)) := by
  refine ac_Mi.of (cc := cX9_readOne) (maxL := 3) (ret := (some .boolean)) (by decide) rfl (Nat.le_of_ble_eq_true rfl) ?_
  intro p e s m below meth c A ls F hml hr hlocks hA hP hD hS hl
  have F : ac_X p s m [.ref (ad 51), .int p0].toArray c cX9_readOne RX9 TB (dC, dI) vwCl (ac_ty cA) := ⟨F.1, F.2.1, fun w h => F.2.2.1 w (List.mem_cons_of_mem _ h), F.2.2.2.1, F.2.2.2.2⟩
  have hl : lv_has ls 3 [(0, .ref (ad 51)), (1, .int p0)] := hl
  have hF : ac_Fr [(1, some 10), (1, some 11)] u0 u0 := ac_Fr.rf
  have L53 : ∀ (u : ac_U) (H : Heap) (locs : List Loc) (ls : Array Slot), ac_R rg u → ac_Fr [(1, some 10), (1, some 11)] u0 u → nmI 11 12 u → (40 : Int) ≤ (u.1 1 6).toInt ∧ (u.1 1 6).toInt ≤ 126 → (0 : Int) ≤ (u.1 47 4).toInt ∧ (u.1 47 4).toInt ≤ 20 → va_P (dC, dI) vwCl (ac_w ad cA (TT nF) u) H → va_D A (ac_w ad cA (TT nF) u) → va_S A s.heap H locs → lv_has ls 3 [(0, .ref (ad 51))] → W p l e (ac_rm 2) s m [.ref (ad 51), .int p0].toArray below meth c H locs 0 0 (MQ below (va_Qi (fun (r : Int32) (u : ac_U) => ac_R rg u ∧ ac_Fr [(1, some 10), (1, some 11)] u0 u ∧ ((0 : Int) ≤ r.toInt ∧ r.toInt ≤ 0)) (ac_B (dC, dI) vwCl (ac_ty cA) ad cA (TT nF) A) A) [.ref (ad 51), .int p0].toArray s 0 0 A) (F0 m 53 ls []) := by
    intro u H locs ls hR hF hK_N4 f0 f1 hP hD hS hl
    refine lv_aload_n F.1 F.2.1 dX9_readOne_53 rfl (lv_at hl 0 rfl) ?_
    refine a_getr F inX9 hP 51 0 tc_51 rfl rfl (by decide) q465 (fun _ h9 => h9) dX9_readOne_54 ?_
    refine a_ic F (4 : Int32) dX9_readOne_57 (by decide) ?_
    refine a_Vi F hml hl.1 hA hP hD hS (As := [.int (4 : Int32)]) (c_X10_fail_1 l dC dI ad cA nF _ (4 : Int32) hR (by decide)) (cs_RX9_38 (d := 1) F.2.2.1 (by decide)) tc_1 rfl rfl rfl rfl (Nat.le_of_ble_eq_true rfl) dX9_readOne_58 ⟨Nat.le_refl 0, Nat.le_refl 0⟩ (fun r1 u1 H locs hq hP hD hS => ?_)
    obtain ⟨hR, hF1, gr1⟩ := hq
    have hF := hF.tr hF1 (by decide)
    have hK_N4 := sp_fr sp_N4 hF1 (by decide) hK_N4
    exact a_retz F hr hlocks hP hD hS dX9_readOne_61 (i_01 (by omega)) ⟨hR, hF, (by omega : (0 : Int) ≤ r1.toInt ∧ r1.toInt ≤ 0)⟩
  have L35 : ∀ (x2 : Int32) (u : ac_U) (H : Heap) (locs : List Loc) (ls : Array Slot), ac_R rg u → ac_Fr [(1, some 10), (1, some 11)] u0 u → nmI 11 12 u → (40 : Int) ≤ x2.toInt ∧ x2.toInt ≤ 126 → (40 : Int) ≤ (u.1 1 6).toInt ∧ (u.1 1 6).toInt ≤ 126 → va_P (dC, dI) vwCl (ac_w ad cA (TT nF) u) H → va_D A (ac_w ad cA (TT nF) u) → va_S A s.heap H locs → lv_has ls 3 [(0, .ref (ad 51)), (1, .int p0), (2, .int x2)] → W p l e (ac_rm 2) s m [.ref (ad 51), .int p0].toArray below meth c H locs 0 0 (MQ below (va_Qi (fun (r : Int32) (u : ac_U) => ac_R rg u ∧ ac_Fr [(1, some 10), (1, some 11)] u0 u ∧ ((0 : Int) ≤ r.toInt ∧ r.toInt ≤ 0)) (ac_B (dC, dI) vwCl (ac_ty cA) ad cA (TT nF) A) A) [.ref (ad 51), .int p0].toArray s 0 0 A) (F0 m 35 ls []) := by
    intro x2 u H locs ls hR hF hK_N4 f0 f1 hP hD hS hl
    refine lv_aload_n F.1 F.2.1 dX9_readOne_35 rfl (lv_at hl 0 rfl) ?_
    refine a_getr F inX9 hP 51 2 tc_51 rfl rfl (by decide) q467 (fun _ h9 => h9) dX9_readOne_36 ?_
    have g2 : (0 : Int) ≤ (u.1 47 4).toInt ∧ (u.1 47 4).toInt ≤ 20 := hR 47 4
    refine a_geti F inX8 hP 47 4 tc_47 rfl rfl (by decide) q446 (fun _ h9 => h9) (v := (u.1 47 4)) rfl dX9_readOne_39 ?_
    refine a_bp F (20 : Int32) dX9_readOne_42 (by decide) ?_
    refine b_ge F 53 dX9_readOne_44 (by decide) rfl ic_20 (fun c3 => ?_) (fun c3 => ?_)
    · have g4 : (-128 : Int) ≤ (u.1 1 6).toInt ∧ (u.1 1 6).toInt ≤ 127 := hR 1 6
      exact L53 _ _ _ _ hR hF hK_N4 (by omega : (40 : Int) ≤ (u.1 1 6).toInt ∧ (u.1 1 6).toInt ≤ 126) (by omega : (0 : Int) ≤ (u.1 47 4).toInt ∧ (u.1 47 4).toInt ≤ 20) hP hD hS (lv_sub hl [0] rfl)
    · refine lv_iload_n F.1 F.2.1 dX9_readOne_47 rfl (lv_at hl 1 rfl) ?_
      refine a_bp F (8 : Int32) dX9_readOne_48 (by decide) ?_
      refine b_le F 62 dX9_readOne_50 (by decide) rfl ic_8 (fun c5 => ?_) (fun c5 => ?_)
      · exfalso; omega
      · have g6 : (-128 : Int) ≤ (u.1 1 6).toInt ∧ (u.1 1 6).toInt ≤ 127 := hR 1 6
        exact L53 _ _ _ _ hR hF hK_N4 (by omega : (40 : Int) ≤ (u.1 1 6).toInt ∧ (u.1 1 6).toInt ≤ 126) (by omega : (0 : Int) ≤ (u.1 47 4).toInt ∧ (u.1 47 4).toInt ≤ 20) hP hD hS (lv_sub hl [0] rfl)
  have L26 : ∀ (u : ac_U) (H : Heap) (locs : List Loc) (ls : Array Slot), ac_R rg u → ac_Fr [(1, some 10), (1, some 11)] u0 u → nmI 11 12 u → (-128 : Int) ≤ (u.1 1 6).toInt ∧ (u.1 1 6).toInt ≤ 127 → va_P (dC, dI) vwCl (ac_w ad cA (TT nF) u) H → va_D A (ac_w ad cA (TT nF) u) → va_S A s.heap H locs → lv_has ls 3 [(0, .ref (ad 51))] → W p l e (ac_rm 2) s m [.ref (ad 51), .int p0].toArray below meth c H locs 0 0 (MQ below (va_Qi (fun (r : Int32) (u : ac_U) => ac_R rg u ∧ ac_Fr [(1, some 10), (1, some 11)] u0 u ∧ ((0 : Int) ≤ r.toInt ∧ r.toInt ≤ 0)) (ac_B (dC, dI) vwCl (ac_ty cA) ad cA (TT nF) A) A) [.ref (ad 51), .int p0].toArray s 0 0 A) (F0 m 26 ls []) := by
    intro u H locs ls hR hF hK_N4 f0 hP hD hS hl
    refine lv_aload_n F.1 F.2.1 dX9_readOne_26 rfl (lv_at hl 0 rfl) ?_
    refine a_getr F inX9 hP 51 0 tc_51 rfl rfl (by decide) q465 (fun _ h9 => h9) dX9_readOne_27 ?_
    refine a_ic F (1 : Int32) dX9_readOne_30 (by decide) ?_
    refine a_Vi F hml hl.1 hA hP hD hS (As := [.int (1 : Int32)]) (c_X10_fail_1 l dC dI ad cA nF _ (1 : Int32) hR (by decide)) (cs_RX9_38 (d := 1) F.2.2.1 (by decide)) tc_1 rfl rfl rfl rfl (Nat.le_of_ble_eq_true rfl) dX9_readOne_31 ⟨Nat.le_refl 0, Nat.le_refl 0⟩ (fun r7 u7 H locs hq hP hD hS => ?_)
    obtain ⟨hR, hF7, gr7⟩ := hq
    have hF := hF.tr hF7 (by decide)
    have hK_N4 := sp_fr sp_N4 hF7 (by decide) hK_N4
    exact a_retz F hr hlocks hP hD hS dX9_readOne_34 (i_01 (by omega)) ⟨hR, hF, (by omega : (0 : Int) ≤ r7.toInt ∧ r7.toInt ≤ 0)⟩
  refine lv_aload_n F.1 F.2.1 dX9_readOne_0 rfl (lv_at hl 0 rfl) ?_
  refine a_getr F inX9 hP 51 0 tc_51 rfl rfl (by decide) q465 (fun _ h9 => h9) dX9_readOne_1 ?_
  have g8 : (-128 : Int) ≤ (u0.1 1 6).toInt ∧ (u0.1 1 6).toInt ≤ 127 := hR 1 6
  refine a_geti F inX10 hP 1 6 tc_1 rfl rfl (by decide) q103 (fun _ h9 => h9) (v := (u0.1 1 6)) rfl dX9_readOne_4 ?_
  refine lv_istore_n (lv' := [(2, .int (u0.1 1 6)), (0, .ref (ad 51)), (1, .int p0)]) F.1 F.2.1 dX9_readOne_7 rfl hl (by decide) rfl (fun ls hl => ?_)
  refine lv_iload_n F.1 F.2.1 dX9_readOne_8 rfl (lv_at hl 0 rfl) ?_
  refine a_bp F (40 : Int32) dX9_readOne_9 (by decide) ?_
  refine b_eq F 35 dX9_readOne_11 (by decide) rfl ic_40 (fun c9 => ?_) (fun c9 => ?_)
  · exact L35 (u0.1 1 6) _ _ _ _ hR hF hK_N4 (by omega) (by omega : (40 : Int) ≤ (u0.1 1 6).toInt ∧ (u0.1 1 6).toInt ≤ 126) hP hD hS (lv_sub hl [1, 2, 0] rfl)
  · refine lv_iload_n F.1 F.2.1 dX9_readOne_14 rfl (lv_at hl 0 rfl) ?_
    refine a_bp F (116 : Int32) dX9_readOne_15 (by decide) ?_
    refine b_lt F 26 dX9_readOne_17 (by decide) rfl ic_116 (fun c10 => ?_) (fun c10 => ?_)
    · exact L26 _ _ _ _ hR hF hK_N4 (by omega : (-128 : Int) ≤ (u0.1 1 6).toInt ∧ (u0.1 1 6).toInt ≤ 127) hP hD hS (lv_sub hl [1] rfl)
    · refine lv_iload_n F.1 F.2.1 dX9_readOne_20 rfl (lv_at hl 0 rfl) ?_
      refine a_bp F (126 : Int32) dX9_readOne_21 (by decide) ?_
      refine b_le F 35 dX9_readOne_23 (by decide) rfl ic_126 (fun c11 => ?_) (fun c11 => ?_)
      · exact L35 (u0.1 1 6) _ _ _ _ hR hF hK_N4 (by omega) (by omega : (40 : Int) ≤ (u0.1 1 6).toInt ∧ (u0.1 1 6).toInt ≤ 126) hP hD hS (lv_sub hl [1, 2, 0] rfl)
      · exact L26 _ _ _ _ hR hF hK_N4 (by omega : (-128 : Int) ≤ (u0.1 1 6).toInt ∧ (u0.1 1 6).toInt ≤ 127) hP hD hS (lv_sub hl [1] rfl)
set_option maxHeartbeats 600000 in
set_option maxRecDepth 100000 in
theorem c_X9_readBoth_51_d9 (l : Launch) (dC : Nat → ClassId) (dI : Nat → Nat → Nat) (ad : Nat → Nat) (cA : Nat → ClassId) (nF : Nat) (u0 : ac_U) (p0 : Int32) (hR : ac_R rg u0) (hp0 : (9 : Int) ≤ p0.toInt ∧ p0.toInt ≤ 9) (hK_N4 : nmI 11 12 u0) : ac_Mi l yX9_readBoth (.code yX9_readBoth cX9_readBoth 3 (some .boolean) :: TB) 3 (dC, dI) vwCl (ac_ty cA) ad cA (TT nF) [.ref (ad 51), .int p0] u0 (fun (r : Int32) (u : ac_U) => ac_R rg u ∧ ac_Fr [(1, some 10), (1, some 11)] u0 u ∧ ((0 : Int) ≤ r.toInt ∧ r.toInt ≤ 0)) := by
  refine ac_Mi.of (cc := cX9_readBoth) (maxL := 3) (ret := (some .boolean)) (by decide) rfl (Nat.le_of_ble_eq_true rfl) ?_
  intro p e s m below meth c A ls F hml hr hlocks hA hP hD hS hl
  have F : ac_X p s m [.ref (ad 51), .int p0].toArray c cX9_readBoth RX9 TB (dC, dI) vwCl (ac_ty cA) := ⟨F.1, F.2.1, fun w h => F.2.2.1 w (List.mem_cons_of_mem _ h), F.2.2.2.1, F.2.2.2.2⟩
  have hl : lv_has ls 3 [(0, .ref (ad 51)), (1, .int p0)] := hl
  have hF : ac_Fr [(1, some 10), (1, some 11)] u0 u0 := ac_Fr.rf
  refine lv_aload_n F.1 F.2.1 dX9_readBoth_0 rfl (lv_at hl 0 rfl) ?_
  refine lv_iload_n F.1 F.2.1 dX9_readBoth_1 rfl (lv_at hl 1 rfl) ?_
  refine a_Vi F hml hl.1 hA hP hD hS (As := [.int p0]) (c_X9_readOne_51_d9 l dC dI ad cA nF _ p0 hR (by omega) hK_N4) (cs_RX9_52 (d := 2) F.2.2.1 (by decide)) tc_51 rfl rfl rfl rfl (Nat.le_of_ble_eq_true rfl) dX9_readBoth_2 ⟨Nat.le_refl 0, Nat.le_refl 0⟩ (fun r1 u1 H locs hq hP hD hS => ?_)
  obtain ⟨hR, hF1, gr1⟩ := hq
  have hF := hF.tr hF1 (by decide)
  have hK_N4 := sp_fr sp_N4 hF1 (by decide) hK_N4
  refine z_ne F 10 dX9_readBoth_5 (by decide) rfl (fun c2 => ?_) (fun c2 => ?_)
  · exfalso; omega
  · refine a_ic F (0 : Int32) dX9_readBoth_8 (by decide) ?_
    exact a_retz F hr hlocks hP hD hS dX9_readBoth_9 (Or.inl rfl) ⟨hR, hF, (by decide)⟩
set_option maxHeartbeats 600000 in
set_option maxRecDepth 100000 in
theorem c_X9_readCond_51_d9 (l : Launch) (dC : Nat → ClassId) (dI : Nat → Nat → Nat) (ad : Nat → Nat) (cA : Nat → ClassId) (nF : Nat) (u0 : ac_U) (p0 : Int32) (hR : ac_R rg u0) (hp0 : (9 : Int) ≤ p0.toInt ∧ p0.toInt ≤ 9) (hK_N4 : nmI 11 12 u0) : ac_Mi l yX9_readCond (.code yX9_readCond cX9_readCond 3 (some .boolean) :: TB) 4 (dC, dI) vwCl (ac_ty cA) ad cA (TT nF) [.ref (ad 51), .int p0] u0 (fun (r : Int32) (u : ac_U) => ac_R rg u ∧ ac_Fr [(1, some 10), (1, some 11)] u0 u ∧ ((0 : Int) ≤ r.toInt ∧ r.toInt ≤ 0)) := by
  refine ac_Mi.of (cc := cX9_readCond) (maxL := 3) (ret := (some .boolean)) (by decide) rfl (Nat.le_of_ble_eq_true rfl) ?_
  intro p e s m below meth c A ls F hml hr hlocks hA hP hD hS hl
  have F : ac_X p s m [.ref (ad 51), .int p0].toArray c cX9_readCond RX9 TB (dC, dI) vwCl (ac_ty cA) := ⟨F.1, F.2.1, fun w h => F.2.2.1 w (List.mem_cons_of_mem _ h), F.2.2.2.1, F.2.2.2.2⟩
  have hl : lv_has ls 3 [(0, .ref (ad 51)), (1, .int p0)] := hl
  have hF : ac_Fr [(1, some 10), (1, some 11)] u0 u0 := ac_Fr.rf
  refine lv_aload_n F.1 F.2.1 dX9_readCond_0 rfl (lv_at hl 0 rfl) ?_
  refine lv_iload_n F.1 F.2.1 dX9_readCond_1 rfl (lv_at hl 1 rfl) ?_
  refine a_Vi F hml hl.1 hA hP hD hS (As := [.int p0]) (c_X9_readBoth_51_d9 l dC dI ad cA nF _ p0 hR (by omega) hK_N4) (cs_RX9_42 (d := 3) F.2.2.1 (by decide)) tc_51 rfl rfl rfl rfl (Nat.le_of_ble_eq_true rfl) dX9_readCond_2 ⟨Nat.le_refl 0, Nat.le_refl 0⟩ (fun r1 u1 H locs hq hP hD hS => ?_)
  obtain ⟨hR, hF1, gr1⟩ := hq
  have hF := hF.tr hF1 (by decide)
  have hK_N4 := sp_fr sp_N4 hF1 (by decide) hK_N4
  refine z_ne F 10 dX9_readCond_5 (by decide) rfl (fun c2 => ?_) (fun c2 => ?_)
  · exfalso; omega
  · refine a_ic F (0 : Int32) dX9_readCond_8 (by decide) ?_
    exact a_retz F hr hlocks hP hD hS dX9_readCond_9 (Or.inl rfl) ⟨hR, hF, (by decide)⟩
set_option maxHeartbeats 600000 in
set_option maxRecDepth 100000 in
theorem c_X9_readBracket_51_d8 (l : Launch) (dC : Nat → ClassId) (dI : Nat → Nat → Nat) (ad : Nat → Nat) (cA : Nat → ClassId) (nF : Nat) (u0 : ac_U) (p0 : Int32) (hR : ac_R rg u0) (hp0 : (8 : Int) ≤ p0.toInt ∧ p0.toInt ≤ 8) (hK_N4 : nmI 11 12 u0) : ac_Mi l yX9_readBracket (.code yX9_readBracket cX9_readBracket 2 (some .boolean) :: TB) 5 (dC, dI) vwCl (ac_ty cA) ad cA (TT nF) [.ref (ad 51), .int p0] u0 (fun (r : Int32) (u : ac_U) => ac_R rg u ∧ ac_Fr [(1, some 4), (1, some 5), (1, some 6), (1, some 8), (1, some 10), (1, some 11)] u0 u ∧ ((0 : Int) ≤ r.toInt ∧ r.toInt ≤ 0)) := by
  refine ac_Mi.of (cc := cX9_readBracket) (maxL := 2) (ret := (some .boolean)) (by decide) rfl (Nat.le_of_ble_eq_true rfl) ?_
  intro p e s m below meth c A ls F hml hr hlocks hA hP hD hS hl
  have F : ac_X p s m [.ref (ad 51), .int p0].toArray c cX9_readBracket RX9 TB (dC, dI) vwCl (ac_ty cA) := ⟨F.1, F.2.1, fun w h => F.2.2.1 w (List.mem_cons_of_mem _ h), F.2.2.2.1, F.2.2.2.2⟩
  have hl : lv_has ls 2 [(0, .ref (ad 51)), (1, .int p0)] := hl
  have hF : ac_Fr [(1, some 4), (1, some 5), (1, some 6), (1, some 8), (1, some 10), (1, some 11)] u0 u0 := ac_Fr.rf
  refine lv_aload_n F.1 F.2.1 dX9_readBracket_0 rfl (lv_at hl 0 rfl) ?_
  refine a_getr F inX9 hP 51 0 tc_51 rfl rfl (by decide) q465 (fun _ h9 => h9) dX9_readBracket_1 ?_
  refine a_Vv F hml hl.1 hA hP hD hS (As := []) (c_X10_readNext_1 l dC dI ad cA nF _  hR) (cs_RX9_45 (d := 3) F.2.2.1 (by decide)) tc_1 rfl rfl rfl rfl (Nat.le_of_ble_eq_true rfl) dX9_readBracket_4 ⟨Nat.le_refl 0, Nat.le_refl 0⟩ (fun u1 H locs hq hP hD hS => ?_)
  obtain ⟨hR, hF1⟩ := hq
  have hF := hF.tr hF1 (by decide)
  have hK_N4 := sp_fr sp_N4 hF1 (by decide) hK_N4
  refine lv_aload_n F.1 F.2.1 dX9_readBracket_7 rfl (lv_at hl 0 rfl) ?_
  refine lv_iload_n F.1 F.2.1 dX9_readBracket_8 rfl (lv_at hl 1 rfl) ?_
  refine a_ic F (1 : Int32) dX9_readBracket_9 (by decide) ?_
  refine a_iadd F dX9_readBracket_10 rfl ic_1 (by omega) (fun v2 hv2 => ?_)
  refine a_Vi F hml hl.1 hA hP hD hS (As := [.int v2]) (c_X9_readCond_51_d9 l dC dI ad cA nF _ v2 hR (by omega) hK_N4) (cs_RX9_74 (d := 4) F.2.2.1 (by decide)) tc_51 rfl rfl rfl rfl (Nat.le_of_ble_eq_true rfl) dX9_readBracket_11 ⟨Nat.le_refl 0, Nat.le_refl 0⟩ (fun r3 u3 H locs hq hP hD hS => ?_)
  obtain ⟨hR, hF3, gr3⟩ := hq
  have hF := hF.tr hF3 (by decide)
  have hK_N4 := sp_fr sp_N4 hF3 (by decide) hK_N4
  refine z_ne F 19 dX9_readBracket_14 (by decide) rfl (fun c4 => ?_) (fun c4 => ?_)
  · exfalso; omega
  · refine a_ic F (0 : Int32) dX9_readBracket_17 (by decide) ?_
    exact a_retz F hr hlocks hP hD hS dX9_readBracket_18 (Or.inl rfl) ⟨hR, hF, (by decide)⟩
set_option maxHeartbeats 600000 in
set_option maxRecDepth 100000 in
theorem c_X9_readCompare_51 (l : Launch) (dC : Nat → ClassId) (dI : Nat → Nat → Nat) (ad : Nat → Nat) (cA : Nat → ClassId) (nF : Nat) (u0 : ac_U) (p0 : Int32) (hR : ac_R rg u0) (hp0 : (123 : Int) ≤ p0.toInt ∧ p0.toInt ≤ 126) : ac_Mi l yX9_readCompare (.code yX9_readCompare cX9_readCompare 3 (some .boolean) :: TB) 4 (dC, dI) vwCl (ac_ty cA) ad cA (TT nF) [.ref (ad 51), .int p0] u0 (fun (r : Int32) (u : ac_U) => ac_R rg u ∧ ac_Fr [(1, some 4), (1, some 5), (1, some 6), (1, some 8), (1, some 10), (1, some 11), (47, some 3), (48, none), (49, none), (50, none)] u0 u ∧ ((0 : Int) ≤ r.toInt ∧ r.toInt ≤ 1)) := by
  refine ac_Mi.of (cc := cX9_readCompare) (maxL := 3) (ret := (some .boolean)) (by decide) rfl (Nat.le_of_ble_eq_true rfl) ?_
  intro p e s m below meth c A ls F hml hr hlocks hA hP hD hS hl
  have F : ac_X p s m [.ref (ad 51), .int p0].toArray c cX9_readCompare RX9 TB (dC, dI) vwCl (ac_ty cA) := ⟨F.1, F.2.1, fun w h => F.2.2.1 w (List.mem_cons_of_mem _ h), F.2.2.2.1, F.2.2.2.2⟩
  have hl : lv_has ls 3 [(0, .ref (ad 51)), (1, .int p0)] := hl
  have hF : ac_Fr [(1, some 4), (1, some 5), (1, some 6), (1, some 8), (1, some 10), (1, some 11), (47, some 3), (48, none), (49, none), (50, none)] u0 u0 := ac_Fr.rf
  refine lv_aload_n F.1 F.2.1 dX9_readCompare_0 rfl (lv_at hl 0 rfl) ?_
  refine a_getr F inX9 hP 51 0 tc_51 rfl rfl (by decide) q465 (fun _ h9 => h9) dX9_readCompare_1 ?_
  refine a_Vv F hml hl.1 hA hP hD hS (As := []) (c_X10_readNext_1 l dC dI ad cA nF _  hR) (cs_RX9_45 (d := 3) F.2.2.1 (by decide)) tc_1 rfl rfl rfl rfl (Nat.le_of_ble_eq_true rfl) dX9_readCompare_4 ⟨Nat.le_refl 0, Nat.le_refl 0⟩ (fun u1 H locs hq hP hD hS => ?_)
  obtain ⟨hR, hF1⟩ := hq
  have hF := hF.tr hF1 (by decide)
  refine lv_aload_n F.1 F.2.1 dX9_readCompare_7 rfl (lv_at hl 0 rfl) ?_
  refine a_getr F inX9 hP 51 0 tc_51 rfl rfl (by decide) q465 (fun _ h9 => h9) dX9_readCompare_8 ?_
  have g2 : (-128 : Int) ≤ (u1.1 1 6).toInt ∧ (u1.1 1 6).toInt ≤ 127 := hR 1 6
  refine a_geti F inX10 hP 1 6 tc_1 rfl rfl (by decide) q103 (fun _ h9 => h9) (v := (u1.1 1 6)) rfl dX9_readCompare_11 ?_
  refine lv_istore_n (lv' := [(2, .int (u1.1 1 6)), (0, .ref (ad 51)), (1, .int p0)]) F.1 F.2.1 dX9_readCompare_14 rfl hl (by decide) rfl (fun ls hl => ?_)
  refine lv_iload_n F.1 F.2.1 dX9_readCompare_15 rfl (lv_at hl 0 rfl) ?_
  refine a_Si F hml hl.1 hA hP hD hS (As := [.int (u1.1 1 6)]) (c_X10_isCompare l dC dI ad cA nF _ (u1.1 1 6) hR (by omega)) (cs_RX9_84 (d := 1) F.2.2.1 (by decide)) rfl rfl (Nat.le_of_ble_eq_true rfl) dX9_readCompare_16 ⟨Nat.le_refl 0, Nat.le_refl 0⟩ (fun r3 uN3 H locs hq hP hD hS => ?_)
  obtain ⟨hu3, gr3⟩ := hq
  rw [hu3] at hP hD
  refine z_ne F 31 dX9_readCompare_19 (by decide) rfl (fun c4 => ?_) (fun c4 => ?_)
  · refine lv_aload_n F.1 F.2.1 dX9_readCompare_31 rfl (lv_at hl 1 rfl) ?_
    refine a_getr F inX9 hP 51 0 tc_51 rfl rfl (by decide) q465 (fun _ h9 => h9) dX9_readCompare_32 ?_
    refine a_Vv F hml hl.1 hA hP hD hS (As := []) (c_X10_readNext_1 l dC dI ad cA nF _  hR) (cs_RX9_45 (d := 3) F.2.2.1 (by decide)) tc_1 rfl rfl rfl rfl (Nat.le_of_ble_eq_true rfl) dX9_readCompare_35 ⟨Nat.le_refl 0, Nat.le_refl 0⟩ (fun u5 H locs hq hP hD hS => ?_)
    obtain ⟨hR, hF5⟩ := hq
    have hF := hF.tr hF5 (by decide)
    refine lv_aload_n F.1 F.2.1 dX9_readCompare_38 rfl (lv_at hl 1 rfl) ?_
    refine a_getr F inX9 hP 51 0 tc_51 rfl rfl (by decide) q465 (fun _ h9 => h9) dX9_readCompare_39 ?_
    have g6 : (-128 : Int) ≤ (u5.1 1 6).toInt ∧ (u5.1 1 6).toInt ≤ 127 := hR 1 6
    refine a_geti F inX10 hP 1 6 tc_1 rfl rfl (by decide) q103 (fun _ h9 => h9) (v := (u5.1 1 6)) rfl dX9_readCompare_42 ?_
    refine a_ic F (3 : Int32) dX9_readCompare_45 (by decide) ?_
    refine b_eq F 58 dX9_readCompare_46 (by decide) rfl ic_3 (fun c7 => ?_) (fun c7 => ?_)
    · refine lv_aload_n F.1 F.2.1 dX9_readCompare_58 rfl (lv_at hl 1 rfl) ?_
      refine a_getr F inX9 hP 51 2 tc_51 rfl rfl (by decide) q467 (fun _ h9 => h9) dX9_readCompare_59 ?_
      refine lv_iload_n F.1 F.2.1 dX9_readCompare_62 rfl (lv_at hl 2 rfl) ?_
      refine lv_iload_n F.1 F.2.1 dX9_readCompare_63 rfl (lv_at hl 0 rfl) ?_
      refine lv_aload_n F.1 F.2.1 dX9_readCompare_64 rfl (lv_at hl 1 rfl) ?_
      refine a_getr F inX9 hP 51 0 tc_51 rfl rfl (by decide) q465 (fun _ h9 => h9) dX9_readCompare_65 ?_
      refine a_geti F inX10 hP 1 8 tc_1 rfl rfl (by decide) q109 (fun _ h9 => h9) (v := (u5.1 1 8)) rfl dX9_readCompare_68 ?_
      refine a_Vv F hml hl.1 hA hP hD hS (As := [.int p0, .int (u1.1 1 6), .int (u5.1 1 8)]) (c_X8_add_47 l dC dI ad cA nF _ p0 (u1.1 1 6) (u5.1 1 8) hR (by omega) (by omega)) (cs_RX9_48 (d := 1) F.2.2.1 (by decide)) tc_47 rfl rfl rfl rfl (Nat.le_of_ble_eq_true rfl) dX9_readCompare_71 ⟨Nat.le_refl 0, Nat.le_refl 0⟩ (fun u8 H locs hq hP hD hS => ?_)
      obtain ⟨hR, hF8⟩ := hq
      have hF := hF.tr hF8 (by decide)
      refine lv_aload_n F.1 F.2.1 dX9_readCompare_74 rfl (lv_at hl 1 rfl) ?_
      refine a_getr F inX9 hP 51 0 tc_51 rfl rfl (by decide) q465 (fun _ h9 => h9) dX9_readCompare_75 ?_
      refine a_Vv F hml hl.1 hA hP hD hS (As := []) (c_X10_readNext_1 l dC dI ad cA nF _  hR) (cs_RX9_45 (d := 3) F.2.2.1 (by decide)) tc_1 rfl rfl rfl rfl (Nat.le_of_ble_eq_true rfl) dX9_readCompare_78 ⟨Nat.le_refl 0, Nat.le_refl 0⟩ (fun u9 H locs hq hP hD hS => ?_)
      obtain ⟨hR, hF9⟩ := hq
      have hF := hF.tr hF9 (by decide)
      refine a_ic F (1 : Int32) dX9_readCompare_81 (by decide) ?_
      exact a_retz F hr hlocks hP hD hS dX9_readCompare_82 (Or.inr rfl) ⟨hR, hF, (by decide)⟩
    · refine lv_aload_n F.1 F.2.1 dX9_readCompare_49 rfl (lv_at hl 1 rfl) ?_
      refine a_getr F inX9 hP 51 0 tc_51 rfl rfl (by decide) q465 (fun _ h9 => h9) dX9_readCompare_50 ?_
      refine a_ic F (1 : Int32) dX9_readCompare_53 (by decide) ?_
      refine a_Vi F hml hl.1 hA hP hD hS (As := [.int (1 : Int32)]) (c_X10_fail_1 l dC dI ad cA nF _ (1 : Int32) hR (by decide)) (cs_RX9_38 (d := 1) F.2.2.1 (by decide)) tc_1 rfl rfl rfl rfl (Nat.le_of_ble_eq_true rfl) dX9_readCompare_54 ⟨Nat.le_refl 0, Nat.le_refl 0⟩ (fun r10 u10 H locs hq hP hD hS => ?_)
      obtain ⟨hR, hF10, gr10⟩ := hq
      have hF := hF.tr hF10 (by decide)
      exact a_retz F hr hlocks hP hD hS dX9_readCompare_57 (i_01 (by omega)) ⟨hR, hF, (by omega : (0 : Int) ≤ r10.toInt ∧ r10.toInt ≤ 1)⟩
  · refine lv_aload_n F.1 F.2.1 dX9_readCompare_22 rfl (lv_at hl 1 rfl) ?_
    refine a_getr F inX9 hP 51 0 tc_51 rfl rfl (by decide) q465 (fun _ h9 => h9) dX9_readCompare_23 ?_
    refine a_ic F (1 : Int32) dX9_readCompare_26 (by decide) ?_
    refine a_Vi F hml hl.1 hA hP hD hS (As := [.int (1 : Int32)]) (c_X10_fail_1 l dC dI ad cA nF _ (1 : Int32) hR (by decide)) (cs_RX9_38 (d := 1) F.2.2.1 (by decide)) tc_1 rfl rfl rfl rfl (Nat.le_of_ble_eq_true rfl) dX9_readCompare_27 ⟨Nat.le_refl 0, Nat.le_refl 0⟩ (fun r11 u11 H locs hq hP hD hS => ?_)
    obtain ⟨hR, hF11, gr11⟩ := hq
    have hF := hF.tr hF11 (by decide)
    exact a_retz F hr hlocks hP hD hS dX9_readCompare_30 (i_01 (by omega)) ⟨hR, hF, (by omega : (0 : Int) ≤ r11.toInt ∧ r11.toInt ≤ 1)⟩
set_option maxHeartbeats 600000 in
set_option maxRecDepth 100000 in
theorem c_X9_readNot_51_d8 (l : Launch) (dC : Nat → ClassId) (dI : Nat → Nat → Nat) (ad : Nat → Nat) (cA : Nat → ClassId) (nF : Nat) (u0 : ac_U) (p0 : Int32) (hR : ac_R rg u0) (hp0 : (8 : Int) ≤ p0.toInt ∧ p0.toInt ≤ 8) (hK_N4 : nmI 11 12 u0) : ac_Mi l yX9_readNot (.code yX9_readNot cX9_readNot 2 (some .boolean) :: TB) 4 (dC, dI) vwCl (ac_ty cA) ad cA (TT nF) [.ref (ad 51), .int p0] u0 (fun (r : Int32) (u : ac_U) => ac_R rg u ∧ ac_Fr [(1, some 4), (1, some 5), (1, some 6), (1, some 8), (1, some 10), (1, some 11)] u0 u ∧ ((0 : Int) ≤ r.toInt ∧ r.toInt ≤ 0)) := by
  refine ac_Mi.of (cc := cX9_readNot) (maxL := 2) (ret := (some .boolean)) (by decide) rfl (Nat.le_of_ble_eq_true rfl) ?_
  intro p e s m below meth c A ls F hml hr hlocks hA hP hD hS hl
  have F : ac_X p s m [.ref (ad 51), .int p0].toArray c cX9_readNot RX9 TB (dC, dI) vwCl (ac_ty cA) := ⟨F.1, F.2.1, fun w h => F.2.2.1 w (List.mem_cons_of_mem _ h), F.2.2.2.1, F.2.2.2.2⟩
  have hl : lv_has ls 2 [(0, .ref (ad 51)), (1, .int p0)] := hl
  have hF : ac_Fr [(1, some 4), (1, some 5), (1, some 6), (1, some 8), (1, some 10), (1, some 11)] u0 u0 := ac_Fr.rf
  refine lv_aload_n F.1 F.2.1 dX9_readNot_0 rfl (lv_at hl 0 rfl) ?_
  refine a_getr F inX9 hP 51 0 tc_51 rfl rfl (by decide) q465 (fun _ h9 => h9) dX9_readNot_1 ?_
  refine a_Vv F hml hl.1 hA hP hD hS (As := []) (c_X10_readNext_1 l dC dI ad cA nF _  hR) (cs_RX9_45 (d := 3) F.2.2.1 (by decide)) tc_1 rfl rfl rfl rfl (Nat.le_of_ble_eq_true rfl) dX9_readNot_4 ⟨Nat.le_refl 0, Nat.le_refl 0⟩ (fun u1 H locs hq hP hD hS => ?_)
  obtain ⟨hR, hF1⟩ := hq
  have hF := hF.tr hF1 (by decide)
  have hK_N4 := sp_fr sp_N4 hF1 (by decide) hK_N4
  refine lv_aload_n F.1 F.2.1 dX9_readNot_7 rfl (lv_at hl 0 rfl) ?_
  refine lv_iload_n F.1 F.2.1 dX9_readNot_8 rfl (lv_at hl 1 rfl) ?_
  refine a_ic F (1 : Int32) dX9_readNot_9 (by decide) ?_
  refine a_iadd F dX9_readNot_10 rfl ic_1 (by omega) (fun v2 hv2 => ?_)
  refine a_Vi F hml hl.1 hA hP hD hS (As := [.int v2]) (c_X9_readOne_51_d9 l dC dI ad cA nF _ v2 hR (by omega) hK_N4) (cs_RX9_52 (d := 2) F.2.2.1 (by decide)) tc_51 rfl rfl rfl rfl (Nat.le_of_ble_eq_true rfl) dX9_readNot_11 ⟨Nat.le_refl 0, Nat.le_refl 0⟩ (fun r3 u3 H locs hq hP hD hS => ?_)
  obtain ⟨hR, hF3, gr3⟩ := hq
  have hF := hF.tr hF3 (by decide)
  have hK_N4 := sp_fr sp_N4 hF3 (by decide) hK_N4
  refine z_ne F 19 dX9_readNot_14 (by decide) rfl (fun c4 => ?_) (fun c4 => ?_)
  · exfalso; omega
  · refine a_ic F (0 : Int32) dX9_readNot_17 (by decide) ?_
    exact a_retz F hr hlocks hP hD hS dX9_readNot_18 (Or.inl rfl) ⟨hR, hF, (by decide)⟩
set_option maxHeartbeats 600000 in
set_option maxRecDepth 100000 in
theorem c_X9_readOf_51 (l : Launch) (dC : Nat → ClassId) (dI : Nat → Nat → Nat) (ad : Nat → Nat) (cA : Nat → ClassId) (nF : Nat) (u0 : ac_U)  (hR : ac_R rg u0) (hK_N4 : nmI 11 12 u0) : ac_Mi l yX9_readOf (.code yX9_readOf cX9_readOf 1 (some .boolean) :: TB) 4 (dC, dI) vwCl (ac_ty cA) ad cA (TT nF) [.ref (ad 51)] u0 (fun (r : Int32) (u : ac_U) => ac_R rg u ∧ ac_Fr [(1, some 4), (1, some 5), (1, some 6), (1, some 8), (1, some 9), (1, some 10), (1, some 11), (47, some 3), (48, none), (49, none), (50, none)] u0 u ∧ ((0 : Int) ≤ r.toInt ∧ r.toInt ≤ 1)) := by
  refine ac_Mi.of (cc := cX9_readOf) (maxL := 1) (ret := (some .boolean)) (by decide) rfl (Nat.le_of_ble_eq_true rfl) ?_
  intro p e s m below meth c A ls F hml hr hlocks hA hP hD hS hl
  have F : ac_X p s m [.ref (ad 51)].toArray c cX9_readOf RX9 TB (dC, dI) vwCl (ac_ty cA) := ⟨F.1, F.2.1, fun w h => F.2.2.1 w (List.mem_cons_of_mem _ h), F.2.2.2.1, F.2.2.2.2⟩
  have hl : lv_has ls 1 [(0, .ref (ad 51))] := hl
  have hF : ac_Fr [(1, some 4), (1, some 5), (1, some 6), (1, some 8), (1, some 9), (1, some 10), (1, some 11), (47, some 3), (48, none), (49, none), (50, none)] u0 u0 := ac_Fr.rf
  refine lv_aload_n F.1 F.2.1 dX9_readOf_0 rfl (lv_at hl 0 rfl) ?_
  refine a_getr F inX9 hP 51 0 tc_51 rfl rfl (by decide) q465 (fun _ h9 => h9) dX9_readOf_1 ?_
  refine a_Vv F hml hl.1 hA hP hD hS (As := []) (c_X10_readNext_1 l dC dI ad cA nF _  hR) (cs_RX9_45 (d := 3) F.2.2.1 (by decide)) tc_1 rfl rfl rfl rfl (Nat.le_of_ble_eq_true rfl) dX9_readOf_4 ⟨Nat.le_refl 0, Nat.le_refl 0⟩ (fun u1 H locs hq hP hD hS => ?_)
  obtain ⟨hR, hF1⟩ := hq
  have hF := hF.tr hF1 (by decide)
  have hK_N4 := sp_fr sp_N4 hF1 (by decide) hK_N4
  refine lv_aload_n F.1 F.2.1 dX9_readOf_7 rfl (lv_at hl 0 rfl) ?_
  refine a_getr F inX9 hP 51 0 tc_51 rfl rfl (by decide) q465 (fun _ h9 => h9) dX9_readOf_8 ?_
  refine lv_aload_n F.1 F.2.1 dX9_readOf_11 rfl (lv_at hl 0 rfl) ?_
  refine a_getr F inX9 hP 51 1 tc_51 rfl rfl (by decide) q466 (fun _ h9 => h9) dX9_readOf_12 ?_
  refine a_ic F (1 : Int32) dX9_readOf_15 (by decide) ?_
  refine a_Vi F hml hl.1 hA hP hD hS (As := [.ref (ad 4), .int (1 : Int32)]) (c_X10_isKnown_1_4 l dC dI ad cA nF _ (1 : Int32) hR (by decide) hK_N4) (cs_RX9_77 (d := 2) F.2.2.1 (by decide)) tc_1 rfl rfl rfl rfl (Nat.le_of_ble_eq_true rfl) dX9_readOf_16 ⟨Nat.le_refl 0, Nat.le_refl 0⟩ (fun r2 u2 H locs hq hP hD hS => ?_)
  obtain ⟨hR, hF2, gr2, xr2⟩ := hq
  have hF := hF.tr hF2 (by decide)
  have hK_N4 := sp_fr sp_N4 hF2 (by decide) hK_N4
  have g3 : (0 : Int) ≤ (u2.1 1 9).toInt ∧ (u2.1 1 9).toInt ≤ 7 := hR 1 9
  have xr2 : r2.toInt ≠ 0 → (1 : Int) = 1 → (u2.1 1 9).toInt ≤ 3 := xr2
  refine z_ne F 24 dX9_readOf_19 (by decide) rfl (fun c4 => ?_) (fun c4 => ?_)
  · refine lv_aload_n F.1 F.2.1 dX9_readOf_24 rfl (lv_at hl 0 rfl) ?_
    refine a_getr F inX9 hP 51 2 tc_51 rfl rfl (by decide) q467 (fun _ h9 => h9) dX9_readOf_25 ?_
    refine a_bp F (122 : Int32) dX9_readOf_28 (by decide) ?_
    refine a_ic F (0 : Int32) dX9_readOf_30 (by decide) ?_
    refine lv_aload_n F.1 F.2.1 dX9_readOf_31 rfl (lv_at hl 0 rfl) ?_
    refine a_getr F inX9 hP 51 0 tc_51 rfl rfl (by decide) q465 (fun _ h9 => h9) dX9_readOf_32 ?_
    refine a_geti F inX10 hP 1 9 tc_1 rfl rfl (by decide) q113 (fun _ h9 => h9) (v := (u2.1 1 9)) (rfl) dX9_readOf_35 ?_
    refine a_Vv F hml hl.1 hA hP hD hS (As := [.int (122 : Int32), .int (0 : Int32), .int (u2.1 1 9)]) (c_X8_add_47 l dC dI ad cA nF _ (122 : Int32) (0 : Int32) (u2.1 1 9) hR (by decide) (by decide)) (cs_RX9_48 (d := 1) F.2.2.1 (by decide)) tc_47 rfl rfl rfl rfl (Nat.le_of_ble_eq_true rfl) dX9_readOf_38 ⟨Nat.le_refl 0, Nat.le_refl 0⟩ (fun u5 H locs hq hP hD hS => ?_)
    obtain ⟨hR, hF5⟩ := hq
    have hF := hF.tr hF5 (by decide)
    have hK_N4 := sp_fr sp_N4 hF5 (by decide) hK_N4
    refine lv_aload_n F.1 F.2.1 dX9_readOf_41 rfl (lv_at hl 0 rfl) ?_
    refine a_getr F inX9 hP 51 0 tc_51 rfl rfl (by decide) q465 (fun _ h9 => h9) dX9_readOf_42 ?_
    refine a_Vv F hml hl.1 hA hP hD hS (As := []) (c_X10_readNext_1 l dC dI ad cA nF _  hR) (cs_RX9_45 (d := 3) F.2.2.1 (by decide)) tc_1 rfl rfl rfl rfl (Nat.le_of_ble_eq_true rfl) dX9_readOf_45 ⟨Nat.le_refl 0, Nat.le_refl 0⟩ (fun u6 H locs hq hP hD hS => ?_)
    obtain ⟨hR, hF6⟩ := hq
    have hF := hF.tr hF6 (by decide)
    have hK_N4 := sp_fr sp_N4 hF6 (by decide) hK_N4
    refine a_ic F (1 : Int32) dX9_readOf_48 (by decide) ?_
    exact a_retz F hr hlocks hP hD hS dX9_readOf_49 (Or.inr rfl) ⟨hR, hF, (by decide)⟩
  · refine a_ic F (0 : Int32) dX9_readOf_22 (by decide) ?_
    exact a_retz F hr hlocks hP hD hS dX9_readOf_23 (Or.inl rfl) ⟨hR, hF, (by decide)⟩
set_option maxHeartbeats 600000 in
set_option maxRecDepth 100000 in
theorem c_X9_readStatus_51 (l : Launch) (dC : Nat → ClassId) (dI : Nat → Nat → Nat) (ad : Nat → Nat) (cA : Nat → ClassId) (nF : Nat) (u0 : ac_U) (p0 : Int32) (hR : ac_R rg u0) (hp0 : (41 : Int) ≤ p0.toInt ∧ p0.toInt ≤ 122) : ac_Mi l yX9_readStatus (.code yX9_readStatus cX9_readStatus 2 (some .boolean) :: TB) 4 (dC, dI) vwCl (ac_ty cA) ad cA (TT nF) [.ref (ad 51), .int p0] u0 (fun (r : Int32) (u : ac_U) => ac_R rg u ∧ ac_Fr [(1, some 4), (1, some 5), (1, some 6), (1, some 8), (47, some 3), (48, none), (49, none), (50, none)] u0 u ∧ ((1 : Int) ≤ r.toInt ∧ r.toInt ≤ 1)) := by
  refine ac_Mi.of (cc := cX9_readStatus) (maxL := 2) (ret := (some .boolean)) (by decide) rfl (Nat.le_of_ble_eq_true rfl) ?_
  intro p e s m below meth c A ls F hml hr hlocks hA hP hD hS hl
  have F : ac_X p s m [.ref (ad 51), .int p0].toArray c cX9_readStatus RX9 TB (dC, dI) vwCl (ac_ty cA) := ⟨F.1, F.2.1, fun w h => F.2.2.1 w (List.mem_cons_of_mem _ h), F.2.2.2.1, F.2.2.2.2⟩
  have hl : lv_has ls 2 [(0, .ref (ad 51)), (1, .int p0)] := hl
  have hF : ac_Fr [(1, some 4), (1, some 5), (1, some 6), (1, some 8), (47, some 3), (48, none), (49, none), (50, none)] u0 u0 := ac_Fr.rf
  refine lv_aload_n F.1 F.2.1 dX9_readStatus_0 rfl (lv_at hl 0 rfl) ?_
  refine a_getr F inX9 hP 51 2 tc_51 rfl rfl (by decide) q467 (fun _ h9 => h9) dX9_readStatus_1 ?_
  refine lv_iload_n F.1 F.2.1 dX9_readStatus_4 rfl (lv_at hl 1 rfl) ?_
  refine a_ic F (0 : Int32) dX9_readStatus_5 (by decide) ?_
  refine a_ic F (0 : Int32) dX9_readStatus_6 (by decide) ?_
  refine a_Vv F hml hl.1 hA hP hD hS (As := [.int p0, .int (0 : Int32), .int (0 : Int32)]) (c_X8_add_47 l dC dI ad cA nF _ p0 (0 : Int32) (0 : Int32) hR (by omega) (by decide)) (cs_RX9_48 (d := 1) F.2.2.1 (by decide)) tc_47 rfl rfl rfl rfl (Nat.le_of_ble_eq_true rfl) dX9_readStatus_7 ⟨Nat.le_refl 0, Nat.le_refl 0⟩ (fun u1 H locs hq hP hD hS => ?_)
  obtain ⟨hR, hF1⟩ := hq
  have hF := hF.tr hF1 (by decide)
  refine lv_aload_n F.1 F.2.1 dX9_readStatus_10 rfl (lv_at hl 0 rfl) ?_
  refine a_getr F inX9 hP 51 0 tc_51 rfl rfl (by decide) q465 (fun _ h9 => h9) dX9_readStatus_11 ?_
  refine a_Vv F hml hl.1 hA hP hD hS (As := []) (c_X10_readNext_1 l dC dI ad cA nF _  hR) (cs_RX9_45 (d := 3) F.2.2.1 (by decide)) tc_1 rfl rfl rfl rfl (Nat.le_of_ble_eq_true rfl) dX9_readStatus_14 ⟨Nat.le_refl 0, Nat.le_refl 0⟩ (fun u2 H locs hq hP hD hS => ?_)
  obtain ⟨hR, hF2⟩ := hq
  have hF := hF.tr hF2 (by decide)
  refine a_ic F (1 : Int32) dX9_readStatus_17 (by decide) ?_
  exact a_retz F hr hlocks hP hD hS dX9_readStatus_18 (Or.inr rfl) ⟨hR, hF, (by decide)⟩
set_option maxHeartbeats 600000 in
set_option maxRecDepth 100000 in
theorem c_X9_readOne_51_d8 (l : Launch) (dC : Nat → ClassId) (dI : Nat → Nat → Nat) (ad : Nat → Nat) (cA : Nat → ClassId) (nF : Nat) (u0 : ac_U) (p0 : Int32) (hR : ac_R rg u0) (hp0 : (8 : Int) ≤ p0.toInt ∧ p0.toInt ≤ 8) (hK_N4 : nmI 11 12 u0) : ac_Mi l yX9_readOne (.code yX9_readOne cX9_readOne 3 (some .boolean) :: TB) 6 (dC, dI) vwCl (ac_ty cA) ad cA (TT nF) [.ref (ad 51), .int p0] u0 (fun (r : Int32) (u : ac_U) => ac_R rg u ∧ ac_Fr [(1, some 4), (1, some 5), (1, some 6), (1, some 8), (1, some 9), (1, some 10), (1, some 11), (47, some 3), (47, some 4), (48, none), (49, none), (50, none)] u0 u ∧ ((0 : Int) ≤ r.toInt ∧ r.toInt ≤ 1)) := by
  refine ac_Mi.of (cc := cX9_readOne) (maxL := 3) (ret := (some .boolean)) (by decide) rfl (Nat.le_of_ble_eq_true rfl) ?_
  intro p e s m below meth c A ls F hml hr hlocks hA hP hD hS hl
  have F : ac_X p s m [.ref (ad 51), .int p0].toArray c cX9_readOne RX9 TB (dC, dI) vwCl (ac_ty cA) := ⟨F.1, F.2.1, fun w h => F.2.2.1 w (List.mem_cons_of_mem _ h), F.2.2.2.1, F.2.2.2.2⟩
  have hl : lv_has ls 3 [(0, .ref (ad 51)), (1, .int p0)] := hl
  have hF : ac_Fr [(1, some 4), (1, some 5), (1, some 6), (1, some 8), (1, some 9), (1, some 10), (1, some 11), (47, some 3), (47, some 4), (48, none), (49, none), (50, none)] u0 u0 := ac_Fr.rf
  have L53 : ∀ (u : ac_U) (H : Heap) (locs : List Loc) (ls : Array Slot), ac_R rg u → ac_Fr [(1, some 4), (1, some 5), (1, some 6), (1, some 8), (1, some 9), (1, some 10), (1, some 11), (47, some 3), (47, some 4), (48, none), (49, none), (50, none)] u0 u → nmI 11 12 u → (40 : Int) ≤ (u.1 1 6).toInt ∧ (u.1 1 6).toInt ≤ 126 → (20 : Int) ≤ (u.1 47 4).toInt ∧ (u.1 47 4).toInt ≤ 20 → va_P (dC, dI) vwCl (ac_w ad cA (TT nF) u) H → va_D A (ac_w ad cA (TT nF) u) → va_S A s.heap H locs → lv_has ls 3 [(0, .ref (ad 51))] → W p l e (ac_rm 6) s m [.ref (ad 51), .int p0].toArray below meth c H locs 0 0 (MQ below (va_Qi (fun (r : Int32) (u : ac_U) => ac_R rg u ∧ ac_Fr [(1, some 4), (1, some 5), (1, some 6), (1, some 8), (1, some 9), (1, some 10), (1, some 11), (47, some 3), (47, some 4), (48, none), (49, none), (50, none)] u0 u ∧ ((0 : Int) ≤ r.toInt ∧ r.toInt ≤ 1)) (ac_B (dC, dI) vwCl (ac_ty cA) ad cA (TT nF) A) A) [.ref (ad 51), .int p0].toArray s 0 0 A) (F0 m 53 ls []) := by
    intro u H locs ls hR hF hK_N4 f0 f1 hP hD hS hl
    refine lv_aload_n F.1 F.2.1 dX9_readOne_53 rfl (lv_at hl 0 rfl) ?_
    refine a_getr F inX9 hP 51 0 tc_51 rfl rfl (by decide) q465 (fun _ h9 => h9) dX9_readOne_54 ?_
    refine a_ic F (4 : Int32) dX9_readOne_57 (by decide) ?_
    refine a_Vi F hml hl.1 hA hP hD hS (As := [.int (4 : Int32)]) (c_X10_fail_1 l dC dI ad cA nF _ (4 : Int32) hR (by decide)) (cs_RX9_38 (d := 1) F.2.2.1 (by decide)) tc_1 rfl rfl rfl rfl (Nat.le_of_ble_eq_true rfl) dX9_readOne_58 ⟨Nat.le_refl 0, Nat.le_refl 0⟩ (fun r1 u1 H locs hq hP hD hS => ?_)
    obtain ⟨hR, hF1, gr1⟩ := hq
    have hF := hF.tr hF1 (by decide)
    have hK_N4 := sp_fr sp_N4 hF1 (by decide) hK_N4
    exact a_retz F hr hlocks hP hD hS dX9_readOne_61 (i_01 (by omega)) ⟨hR, hF, (by omega : (0 : Int) ≤ r1.toInt ∧ r1.toInt ≤ 1)⟩
  have L35 : ∀ (x2 : Int32) (u : ac_U) (H : Heap) (locs : List Loc) (ls : Array Slot), ac_R rg u → ac_Fr [(1, some 4), (1, some 5), (1, some 6), (1, some 8), (1, some 9), (1, some 10), (1, some 11), (47, some 3), (47, some 4), (48, none), (49, none), (50, none)] u0 u → nmI 11 12 u → (40 : Int) ≤ x2.toInt ∧ x2.toInt ≤ 126 → (40 : Int) ≤ (u.1 1 6).toInt ∧ (u.1 1 6).toInt ≤ 126 → va_P (dC, dI) vwCl (ac_w ad cA (TT nF) u) H → va_D A (ac_w ad cA (TT nF) u) → va_S A s.heap H locs → lv_has ls 3 [(0, .ref (ad 51)), (1, .int p0), (2, .int x2)] → W p l e (ac_rm 6) s m [.ref (ad 51), .int p0].toArray below meth c H locs 0 0 (MQ below (va_Qi (fun (r : Int32) (u : ac_U) => ac_R rg u ∧ ac_Fr [(1, some 4), (1, some 5), (1, some 6), (1, some 8), (1, some 9), (1, some 10), (1, some 11), (47, some 3), (47, some 4), (48, none), (49, none), (50, none)] u0 u ∧ ((0 : Int) ≤ r.toInt ∧ r.toInt ≤ 1)) (ac_B (dC, dI) vwCl (ac_ty cA) ad cA (TT nF) A) A) [.ref (ad 51), .int p0].toArray s 0 0 A) (F0 m 35 ls []) := by
    intro x2 u H locs ls hR hF hK_N4 f0 f1 hP hD hS hl
    refine lv_aload_n F.1 F.2.1 dX9_readOne_35 rfl (lv_at hl 0 rfl) ?_
    refine a_getr F inX9 hP 51 2 tc_51 rfl rfl (by decide) q467 (fun _ h9 => h9) dX9_readOne_36 ?_
    have g2 : (0 : Int) ≤ (u.1 47 4).toInt ∧ (u.1 47 4).toInt ≤ 20 := hR 47 4
    refine a_geti F inX8 hP 47 4 tc_47 rfl rfl (by decide) q446 (fun _ h9 => h9) (v := (u.1 47 4)) rfl dX9_readOne_39 ?_
    refine a_bp F (20 : Int32) dX9_readOne_42 (by decide) ?_
    refine b_ge F 53 dX9_readOne_44 (by decide) rfl ic_20 (fun c3 => ?_) (fun c3 => ?_)
    · have g4 : (-128 : Int) ≤ (u.1 1 6).toInt ∧ (u.1 1 6).toInt ≤ 127 := hR 1 6
      exact L53 _ _ _ _ hR hF hK_N4 (by omega : (40 : Int) ≤ (u.1 1 6).toInt ∧ (u.1 1 6).toInt ≤ 126) (by omega : (20 : Int) ≤ (u.1 47 4).toInt ∧ (u.1 47 4).toInt ≤ 20) hP hD hS (lv_sub hl [0] rfl)
    · refine lv_iload_n F.1 F.2.1 dX9_readOne_47 rfl (lv_at hl 1 rfl) ?_
      refine a_bp F (8 : Int32) dX9_readOne_48 (by decide) ?_
      refine b_le F 62 dX9_readOne_50 (by decide) rfl ic_8 (fun c5 => ?_) (fun c5 => ?_)
      · refine lv_aload_n F.1 F.2.1 dX9_readOne_62 rfl (lv_at hl 0 rfl) ?_
        refine a_getr F inX9 hP 51 2 tc_51 rfl rfl (by decide) q467 (fun _ h9 => h9) dX9_readOne_63 ?_
        refine lv_dup F.1 F.2.1 dX9_readOne_66 rfl ?_
        refine a_geti F inX8 hP 47 4 tc_47 rfl rfl (by decide) q446 (fun _ h9 => h9) (v := (u.1 47 4)) (rfl) dX9_readOne_67 ?_
        refine a_ic F (1 : Int32) dX9_readOne_70 (by decide) ?_
        refine a_iadd F dX9_readOne_71 rfl ic_1 (by omega) (fun v6 hv6 => ?_)
        refine a_puti F inX8 tyX8 tyX8_ok nmX8 hP hD hS 47 4 tc_47 rfl rfl (by decide) q446 (fun _ h9 => h9) rfl (ty := .int) (tyX8_ok 4 (by decide)) rfl rfl dX9_readOne_72 (fun H locs hP hD hS => ?_)
        have hR := hR.si (c := 47) (k := 4) (v := v6) (by omega : (0 : Int) ≤ v6.toInt ∧ v6.toInt ≤ 20)
        have hF := hF.si (c := 47) (k := 4) (v := v6) rfl
        have hK_N4 := sp_sgD sp_N4 hD hK_N4 (by decide)
        refine lv_iload_n F.1 F.2.1 dX9_readOne_75 rfl (lv_at hl 2 rfl) ?_
        refine a_bp F (40 : Int32) dX9_readOne_76 (by decide) ?_
        refine b_ne F 87 dX9_readOne_78 (by decide) rfl ic_40 (fun c7 => ?_) (fun c7 => ?_)
        · refine lv_iload_n F.1 F.2.1 dX9_readOne_87 rfl (lv_at hl 2 rfl) ?_
          refine a_bp F (116 : Int32) dX9_readOne_88 (by decide) ?_
          refine b_ne F 99 dX9_readOne_90 (by decide) rfl ic_116 (fun c8 => ?_) (fun c8 => ?_)
          · refine lv_iload_n F.1 F.2.1 dX9_readOne_99 rfl (lv_at hl 2 rfl) ?_
            refine a_bp F (122 : Int32) dX9_readOne_100 (by decide) ?_
            refine b_ne F 110 dX9_readOne_102 (by decide) rfl ic_122 (fun c9 => ?_) (fun c9 => ?_)
            · refine lv_iload_n F.1 F.2.1 dX9_readOne_110 rfl (lv_at hl 2 rfl) ?_
              refine a_bp F (122 : Int32) dX9_readOne_111 (by decide) ?_
              refine b_le F 124 dX9_readOne_113 (by decide) rfl ic_122 (fun c10 => ?_) (fun c10 => ?_)
              · refine lv_aload_n F.1 F.2.1 dX9_readOne_124 rfl (lv_at hl 0 rfl) ?_
                refine lv_iload_n F.1 F.2.1 dX9_readOne_125 rfl (lv_at hl 2 rfl) ?_
                refine a_Vi F hml hl.1 hA hP hD hS (As := [.int x2]) (c_X9_readStatus_51 l dC dI ad cA nF _ x2 hR (by omega)) (cs_RX9_71 (d := 4) F.2.2.1 (by decide)) tc_51 rfl rfl rfl rfl (Nat.le_of_ble_eq_true rfl) dX9_readOne_126 ⟨Nat.le_refl 0, Nat.le_refl 0⟩ (fun r11 u11 H locs hq hP hD hS => ?_)
                obtain ⟨hR, hF11, gr11⟩ := hq
                have hF := hF.tr hF11 (by decide)
                have hK_N4 := sp_fr sp_N4 hF11 (by decide) hK_N4
                exact a_retz F hr hlocks hP hD hS dX9_readOne_129 (i_01 (by omega)) ⟨hR, hF, (by omega : (0 : Int) ≤ r11.toInt ∧ r11.toInt ≤ 1)⟩
              · refine lv_aload_n F.1 F.2.1 dX9_readOne_116 rfl (lv_at hl 0 rfl) ?_
                refine lv_iload_n F.1 F.2.1 dX9_readOne_117 rfl (lv_at hl 2 rfl) ?_
                refine a_Vi F hml hl.1 hA hP hD hS (As := [.int x2]) (c_X9_readCompare_51 l dC dI ad cA nF _ x2 hR (by omega)) (cs_RX9_68 (d := 4) F.2.2.1 (by decide)) tc_51 rfl rfl rfl rfl (Nat.le_of_ble_eq_true rfl) dX9_readOne_118 ⟨Nat.le_refl 0, Nat.le_refl 0⟩ (fun r12 u12 H locs hq hP hD hS => ?_)
                obtain ⟨hR, hF12, gr12⟩ := hq
                have hF := hF.tr hF12 (by decide)
                have hK_N4 := sp_fr sp_N4 hF12 (by decide) hK_N4
                refine lv_goto (tgt := 129) F.1 F.2.1 dX9_readOne_121 (by decide) ?_
                exact a_retz F hr hlocks hP hD hS dX9_readOne_129 (i_01 (by omega)) ⟨hR, hF, (by omega : (0 : Int) ≤ r12.toInt ∧ r12.toInt ≤ 1)⟩
            · refine lv_aload_n F.1 F.2.1 dX9_readOne_105 rfl (lv_at hl 0 rfl) ?_
              refine a_Vi F hml hl.1 hA hP hD hS (As := []) (c_X9_readOf_51 l dC dI ad cA nF _  hR hK_N4) (cs_RX9_64 (d := 4) F.2.2.1 (by decide)) tc_51 rfl rfl rfl rfl (Nat.le_of_ble_eq_true rfl) dX9_readOne_106 ⟨Nat.le_refl 0, Nat.le_refl 0⟩ (fun r13 u13 H locs hq hP hD hS => ?_)
              obtain ⟨hR, hF13, gr13⟩ := hq
              have hF := hF.tr hF13 (by decide)
              have hK_N4 := sp_fr sp_N4 hF13 (by decide) hK_N4
              exact a_retz F hr hlocks hP hD hS dX9_readOne_109 (i_01 (by omega)) ⟨hR, hF, (by omega : (0 : Int) ≤ r13.toInt ∧ r13.toInt ≤ 1)⟩
          · refine lv_aload_n F.1 F.2.1 dX9_readOne_93 rfl (lv_at hl 0 rfl) ?_
            refine lv_iload_n F.1 F.2.1 dX9_readOne_94 rfl (lv_at hl 1 rfl) ?_
            refine a_Vi F hml hl.1 hA hP hD hS (As := [.int p0]) (c_X9_readNot_51_d8 l dC dI ad cA nF _ p0 hR (by omega) hK_N4) (cs_RX9_61 (d := 4) F.2.2.1 (by decide)) tc_51 rfl rfl rfl rfl (Nat.le_of_ble_eq_true rfl) dX9_readOne_95 ⟨Nat.le_refl 0, Nat.le_refl 0⟩ (fun r14 u14 H locs hq hP hD hS => ?_)
            obtain ⟨hR, hF14, gr14⟩ := hq
            have hF := hF.tr hF14 (by decide)
            have hK_N4 := sp_fr sp_N4 hF14 (by decide) hK_N4
            exact a_retz F hr hlocks hP hD hS dX9_readOne_98 (i_01 (by omega)) ⟨hR, hF, (by omega : (0 : Int) ≤ r14.toInt ∧ r14.toInt ≤ 1)⟩
        · refine lv_aload_n F.1 F.2.1 dX9_readOne_81 rfl (lv_at hl 0 rfl) ?_
          refine lv_iload_n F.1 F.2.1 dX9_readOne_82 rfl (lv_at hl 1 rfl) ?_
          refine a_Vi F hml hl.1 hA hP hD hS (As := [.int p0]) (c_X9_readBracket_51_d8 l dC dI ad cA nF _ p0 hR (by omega) hK_N4) (cs_RX9_58 (d := 5) F.2.2.1 (by decide)) tc_51 rfl rfl rfl rfl (Nat.le_of_ble_eq_true rfl) dX9_readOne_83 ⟨Nat.le_refl 0, Nat.le_refl 0⟩ (fun r15 u15 H locs hq hP hD hS => ?_)
          obtain ⟨hR, hF15, gr15⟩ := hq
          have hF := hF.tr hF15 (by decide)
          have hK_N4 := sp_fr sp_N4 hF15 (by decide) hK_N4
          exact a_retz F hr hlocks hP hD hS dX9_readOne_86 (i_01 (by omega)) ⟨hR, hF, (by omega : (0 : Int) ≤ r15.toInt ∧ r15.toInt ≤ 1)⟩
      · exfalso; omega
  have L26 : ∀ (u : ac_U) (H : Heap) (locs : List Loc) (ls : Array Slot), ac_R rg u → ac_Fr [(1, some 4), (1, some 5), (1, some 6), (1, some 8), (1, some 9), (1, some 10), (1, some 11), (47, some 3), (47, some 4), (48, none), (49, none), (50, none)] u0 u → nmI 11 12 u → (-128 : Int) ≤ (u.1 1 6).toInt ∧ (u.1 1 6).toInt ≤ 127 → va_P (dC, dI) vwCl (ac_w ad cA (TT nF) u) H → va_D A (ac_w ad cA (TT nF) u) → va_S A s.heap H locs → lv_has ls 3 [(0, .ref (ad 51))] → W p l e (ac_rm 6) s m [.ref (ad 51), .int p0].toArray below meth c H locs 0 0 (MQ below (va_Qi (fun (r : Int32) (u : ac_U) => ac_R rg u ∧ ac_Fr [(1, some 4), (1, some 5), (1, some 6), (1, some 8), (1, some 9), (1, some 10), (1, some 11), (47, some 3), (47, some 4), (48, none), (49, none), (50, none)] u0 u ∧ ((0 : Int) ≤ r.toInt ∧ r.toInt ≤ 1)) (ac_B (dC, dI) vwCl (ac_ty cA) ad cA (TT nF) A) A) [.ref (ad 51), .int p0].toArray s 0 0 A) (F0 m 26 ls []) := by
    intro u H locs ls hR hF hK_N4 f0 hP hD hS hl
    refine lv_aload_n F.1 F.2.1 dX9_readOne_26 rfl (lv_at hl 0 rfl) ?_
    refine a_getr F inX9 hP 51 0 tc_51 rfl rfl (by decide) q465 (fun _ h9 => h9) dX9_readOne_27 ?_
    refine a_ic F (1 : Int32) dX9_readOne_30 (by decide) ?_
    refine a_Vi F hml hl.1 hA hP hD hS (As := [.int (1 : Int32)]) (c_X10_fail_1 l dC dI ad cA nF _ (1 : Int32) hR (by decide)) (cs_RX9_38 (d := 1) F.2.2.1 (by decide)) tc_1 rfl rfl rfl rfl (Nat.le_of_ble_eq_true rfl) dX9_readOne_31 ⟨Nat.le_refl 0, Nat.le_refl 0⟩ (fun r16 u16 H locs hq hP hD hS => ?_)
    obtain ⟨hR, hF16, gr16⟩ := hq
    have hF := hF.tr hF16 (by decide)
    have hK_N4 := sp_fr sp_N4 hF16 (by decide) hK_N4
    exact a_retz F hr hlocks hP hD hS dX9_readOne_34 (i_01 (by omega)) ⟨hR, hF, (by omega : (0 : Int) ≤ r16.toInt ∧ r16.toInt ≤ 1)⟩
  refine lv_aload_n F.1 F.2.1 dX9_readOne_0 rfl (lv_at hl 0 rfl) ?_
  refine a_getr F inX9 hP 51 0 tc_51 rfl rfl (by decide) q465 (fun _ h9 => h9) dX9_readOne_1 ?_
  have g17 : (-128 : Int) ≤ (u0.1 1 6).toInt ∧ (u0.1 1 6).toInt ≤ 127 := hR 1 6
  refine a_geti F inX10 hP 1 6 tc_1 rfl rfl (by decide) q103 (fun _ h9 => h9) (v := (u0.1 1 6)) rfl dX9_readOne_4 ?_
  refine lv_istore_n (lv' := [(2, .int (u0.1 1 6)), (0, .ref (ad 51)), (1, .int p0)]) F.1 F.2.1 dX9_readOne_7 rfl hl (by decide) rfl (fun ls hl => ?_)
  refine lv_iload_n F.1 F.2.1 dX9_readOne_8 rfl (lv_at hl 0 rfl) ?_
  refine a_bp F (40 : Int32) dX9_readOne_9 (by decide) ?_
  refine b_eq F 35 dX9_readOne_11 (by decide) rfl ic_40 (fun c18 => ?_) (fun c18 => ?_)
  · exact L35 (u0.1 1 6) _ _ _ _ hR hF hK_N4 (by omega) (by omega : (40 : Int) ≤ (u0.1 1 6).toInt ∧ (u0.1 1 6).toInt ≤ 126) hP hD hS (lv_sub hl [1, 2, 0] rfl)
  · refine lv_iload_n F.1 F.2.1 dX9_readOne_14 rfl (lv_at hl 0 rfl) ?_
    refine a_bp F (116 : Int32) dX9_readOne_15 (by decide) ?_
    refine b_lt F 26 dX9_readOne_17 (by decide) rfl ic_116 (fun c19 => ?_) (fun c19 => ?_)
    · exact L26 _ _ _ _ hR hF hK_N4 (by omega : (-128 : Int) ≤ (u0.1 1 6).toInt ∧ (u0.1 1 6).toInt ≤ 127) hP hD hS (lv_sub hl [1] rfl)
    · refine lv_iload_n F.1 F.2.1 dX9_readOne_20 rfl (lv_at hl 0 rfl) ?_
      refine a_bp F (126 : Int32) dX9_readOne_21 (by decide) ?_
      refine b_le F 35 dX9_readOne_23 (by decide) rfl ic_126 (fun c20 => ?_) (fun c20 => ?_)
      · exact L35 (u0.1 1 6) _ _ _ _ hR hF hK_N4 (by omega) (by omega : (40 : Int) ≤ (u0.1 1 6).toInt ∧ (u0.1 1 6).toInt ≤ 126) hP hD hS (lv_sub hl [1, 2, 0] rfl)
      · exact L26 _ _ _ _ hR hF hK_N4 (by omega : (-128 : Int) ≤ (u0.1 1 6).toInt ∧ (u0.1 1 6).toInt ≤ 127) hP hD hS (lv_sub hl [1] rfl)
set_option maxHeartbeats 600000 in
set_option maxRecDepth 100000 in
theorem c_X9_readBoth_51_d8 (l : Launch) (dC : Nat → ClassId) (dI : Nat → Nat → Nat) (ad : Nat → Nat) (cA : Nat → ClassId) (nF : Nat) (u0 : ac_U) (p0 : Int32) (hR : ac_R rg u0) (hp0 : (8 : Int) ≤ p0.toInt ∧ p0.toInt ≤ 8) (hK_N4 : nmI 11 12 u0) : ac_Mi l yX9_readBoth (.code yX9_readBoth cX9_readBoth 3 (some .boolean) :: TB) 7 (dC, dI) vwCl (ac_ty cA) ad cA (TT nF) [.ref (ad 51), .int p0] u0 (fun (r : Int32) (u : ac_U) => ac_R rg u ∧ ac_Fr [(1, some 4), (1, some 5), (1, some 6), (1, some 8), (1, some 9), (1, some 10), (1, some 11), (47, some 3), (47, some 4), (48, none), (49, none), (50, none)] u0 u ∧ ((0 : Int) ≤ r.toInt ∧ r.toInt ≤ 1)) := by
  refine ac_Mi.of (cc := cX9_readBoth) (maxL := 3) (ret := (some .boolean)) (by decide) rfl (Nat.le_of_ble_eq_true rfl) ?_
  intro p e s m below meth c A ls F hml hr hlocks hA hP hD hS hl
  have F : ac_X p s m [.ref (ad 51), .int p0].toArray c cX9_readBoth RX9 TB (dC, dI) vwCl (ac_ty cA) := ⟨F.1, F.2.1, fun w h => F.2.2.1 w (List.mem_cons_of_mem _ h), F.2.2.2.1, F.2.2.2.2⟩
  have hl : lv_has ls 3 [(0, .ref (ad 51)), (1, .int p0)] := hl
  have hF : ac_Fr [(1, some 4), (1, some 5), (1, some 6), (1, some 8), (1, some 9), (1, some 10), (1, some 11), (47, some 3), (47, some 4), (48, none), (49, none), (50, none)] u0 u0 := ac_Fr.rf
  have L64 : ∀ (u : ac_U) (H : Heap) (locs : List Loc) (ls : Array Slot), ac_R rg u → ac_Fr [(1, some 4), (1, some 5), (1, some 6), (1, some 8), (1, some 9), (1, some 10), (1, some 11), (47, some 3), (47, some 4), (48, none), (49, none), (50, none)] u0 u → nmI 11 12 u → va_P (dC, dI) vwCl (ac_w ad cA (TT nF) u) H → va_D A (ac_w ad cA (TT nF) u) → va_S A s.heap H locs → lv_has ls 3 [] → W p l e (ac_rm 7) s m [.ref (ad 51), .int p0].toArray below meth c H locs 0 0 (MQ below (va_Qi (fun (r : Int32) (u : ac_U) => ac_R rg u ∧ ac_Fr [(1, some 4), (1, some 5), (1, some 6), (1, some 8), (1, some 9), (1, some 10), (1, some 11), (47, some 3), (47, some 4), (48, none), (49, none), (50, none)] u0 u ∧ ((0 : Int) ≤ r.toInt ∧ r.toInt ≤ 1)) (ac_B (dC, dI) vwCl (ac_ty cA) ad cA (TT nF) A) A) [.ref (ad 51), .int p0].toArray s 0 0 A) (F0 m 64 ls []) := by
    intro u H locs ls hR hF hK_N4 hP hD hS hl
    refine a_ic F (1 : Int32) dX9_readBoth_64 (by decide) ?_
    exact a_retz F hr hlocks hP hD hS dX9_readBoth_65 (Or.inr rfl) ⟨hR, hF, (by decide)⟩
  have L12 : ∀ (n12 : Nat) (x2 : Int32) (u : ac_U) (H : Heap) (locs : List Loc) (ls : Array Slot), ac_R rg u → ac_Fr [(1, some 4), (1, some 5), (1, some 6), (1, some 8), (1, some 9), (1, some 10), (1, some 11), (47, some 3), (47, some 4), (48, none), (49, none), (50, none)] u0 u → 20 - x2.toInt < (n12 : Int) → nmI 11 12 u → (0 : Int) ≤ x2.toInt ∧ x2.toInt ≤ 20 → va_P (dC, dI) vwCl (ac_w ad cA (TT nF) u) H → va_D A (ac_w ad cA (TT nF) u) → va_S A s.heap H locs → lv_has ls 3 [(0, .ref (ad 51)), (1, .int p0), (2, .int x2)] → W p l e (ac_rm 7) s m [.ref (ad 51), .int p0].toArray below meth c H locs 0 0 (MQ below (va_Qi (fun (r : Int32) (u : ac_U) => ac_R rg u ∧ ac_Fr [(1, some 4), (1, some 5), (1, some 6), (1, some 8), (1, some 9), (1, some 10), (1, some 11), (47, some 3), (47, some 4), (48, none), (49, none), (50, none)] u0 u ∧ ((0 : Int) ≤ r.toInt ∧ r.toInt ≤ 1)) (ac_B (dC, dI) vwCl (ac_ty cA) ad cA (TT nF) A) A) [.ref (ad 51), .int p0].toArray s 0 0 A) (F0 m 12 ls []) := by
    intro n12
    induction n12 with
    | zero => intro x2 u H locs ls hR hF hn12 hK_N4 f0 hP hD hS hl; exfalso; omega
    | succ n12 ih12 =>
      intro x2 u H locs ls hR hF hn12 hK_N4 f0 hP hD hS hl
      refine lv_iload_n F.1 F.2.1 dX9_readBoth_12 rfl (lv_at hl 2 rfl) ?_
      refine a_bp F (20 : Int32) dX9_readBoth_13 (by decide) ?_
      refine b_ge F 64 dX9_readBoth_15 (by decide) rfl ic_20 (fun c1 => ?_) (fun c1 => ?_)
      · exact L64 _ _ _ _ hR hF hK_N4 hP hD hS (lv_sub hl [] rfl)
      · refine lv_aload_n F.1 F.2.1 dX9_readBoth_18 rfl (lv_at hl 0 rfl) ?_
        refine a_getr F inX9 hP 51 0 tc_51 rfl rfl (by decide) q465 (fun _ h9 => h9) dX9_readBoth_19 ?_
        have g2 : (-128 : Int) ≤ (u.1 1 6).toInt ∧ (u.1 1 6).toInt ≤ 127 := hR 1 6
        refine a_geti F inX10 hP 1 6 tc_1 rfl rfl (by decide) q103 (fun _ h9 => h9) (v := (u.1 1 6)) rfl dX9_readBoth_22 ?_
        refine a_bp F (115 : Int32) dX9_readBoth_25 (by decide) ?_
        refine b_ne F 64 dX9_readBoth_27 (by decide) rfl ic_115 (fun c3 => ?_) (fun c3 => ?_)
        · exact L64 _ _ _ _ hR hF hK_N4 hP hD hS (lv_sub hl [] rfl)
        · refine lv_aload_n F.1 F.2.1 dX9_readBoth_30 rfl (lv_at hl 0 rfl) ?_
          refine a_getr F inX9 hP 51 0 tc_51 rfl rfl (by decide) q465 (fun _ h9 => h9) dX9_readBoth_31 ?_
          refine a_Vv F hml hl.1 hA hP hD hS (As := []) (c_X10_readNext_1 l dC dI ad cA nF _  hR) (cs_RX9_45 (d := 3) F.2.2.1 (by decide)) tc_1 rfl rfl rfl rfl (Nat.le_of_ble_eq_true rfl) dX9_readBoth_34 ⟨Nat.le_refl 0, Nat.le_refl 0⟩ (fun u4 H locs hq hP hD hS => ?_)
          obtain ⟨hR, hF4⟩ := hq
          have hF := hF.tr hF4 (by decide)
          have hK_N4 := sp_fr sp_N4 hF4 (by decide) hK_N4
          refine lv_aload_n F.1 F.2.1 dX9_readBoth_37 rfl (lv_at hl 0 rfl) ?_
          refine lv_iload_n F.1 F.2.1 dX9_readBoth_38 rfl (lv_at hl 1 rfl) ?_
          refine a_Vi F hml hl.1 hA hP hD hS (As := [.int p0]) (c_X9_readOne_51_d8 l dC dI ad cA nF _ p0 hR (by omega) hK_N4) (cs_RX9_52 (d := 6) F.2.2.1 (by decide)) tc_51 rfl rfl rfl rfl (Nat.le_of_ble_eq_true rfl) dX9_readBoth_39 ⟨Nat.le_refl 0, Nat.le_refl 0⟩ (fun r5 u5 H locs hq hP hD hS => ?_)
          obtain ⟨hR, hF5, gr5⟩ := hq
          have hF := hF.tr hF5 (by decide)
          have hK_N4 := sp_fr sp_N4 hF5 (by decide) hK_N4
          refine z_ne F 47 dX9_readBoth_42 (by decide) rfl (fun c6 => ?_) (fun c6 => ?_)
          · refine lv_aload_n F.1 F.2.1 dX9_readBoth_47 rfl (lv_at hl 0 rfl) ?_
            refine a_getr F inX9 hP 51 2 tc_51 rfl rfl (by decide) q467 (fun _ h9 => h9) dX9_readBoth_48 ?_
            refine a_bp F (115 : Int32) dX9_readBoth_51 (by decide) ?_
            refine a_ic F (0 : Int32) dX9_readBoth_53 (by decide) ?_
            refine a_ic F (0 : Int32) dX9_readBoth_54 (by decide) ?_
            refine a_Vv F hml hl.1 hA hP hD hS (As := [.int (115 : Int32), .int (0 : Int32), .int (0 : Int32)]) (c_X8_add_47 l dC dI ad cA nF _ (115 : Int32) (0 : Int32) (0 : Int32) hR (by decide) (by decide)) (cs_RX9_48 (d := 1) F.2.2.1 (by decide)) tc_47 rfl rfl rfl rfl (Nat.le_of_ble_eq_true rfl) dX9_readBoth_55 ⟨Nat.le_refl 0, Nat.le_refl 0⟩ (fun u7 H locs hq hP hD hS => ?_)
            obtain ⟨hR, hF7⟩ := hq
            have hF := hF.tr hF7 (by decide)
            have hK_N4 := sp_fr sp_N4 hF7 (by decide) hK_N4
            refine a_iinc F (k := 2) (fun v8 => [(2, .int v8), (0, .ref (ad 51)), (1, .int p0)]) dX9_readBoth_58 hl rfl rfl (by decide) (by omega) (by decide) (fun _ => rfl) (fun v8 ls hv8 hl => ?_)
            refine lv_goto (tgt := 12) F.1 F.2.1 dX9_readBoth_61 (by decide) ?_
            exact ih12 v8 _ _ _ _ hR hF (by omega) hK_N4 (by omega) hP hD hS (lv_sub hl [1, 2, 0] rfl)
          · refine a_ic F (0 : Int32) dX9_readBoth_45 (by decide) ?_
            exact a_retz F hr hlocks hP hD hS dX9_readBoth_46 (Or.inl rfl) ⟨hR, hF, (by decide)⟩
  refine lv_aload_n F.1 F.2.1 dX9_readBoth_0 rfl (lv_at hl 0 rfl) ?_
  refine lv_iload_n F.1 F.2.1 dX9_readBoth_1 rfl (lv_at hl 1 rfl) ?_
  refine a_Vi F hml hl.1 hA hP hD hS (As := [.int p0]) (c_X9_readOne_51_d8 l dC dI ad cA nF _ p0 hR (by omega) hK_N4) (cs_RX9_52 (d := 6) F.2.2.1 (by decide)) tc_51 rfl rfl rfl rfl (Nat.le_of_ble_eq_true rfl) dX9_readBoth_2 ⟨Nat.le_refl 0, Nat.le_refl 0⟩ (fun r9 u9 H locs hq hP hD hS => ?_)
  obtain ⟨hR, hF9, gr9⟩ := hq
  have hF := hF.tr hF9 (by decide)
  have hK_N4 := sp_fr sp_N4 hF9 (by decide) hK_N4
  refine z_ne F 10 dX9_readBoth_5 (by decide) rfl (fun c10 => ?_) (fun c10 => ?_)
  · refine a_ic F (0 : Int32) dX9_readBoth_10 (by decide) ?_
    refine lv_istore_n (lv' := [(2, .int (0 : Int32)), (0, .ref (ad 51)), (1, .int p0)]) F.1 F.2.1 dX9_readBoth_11 rfl hl (by decide) rfl (fun ls hl => ?_)
    exact L12 22 (0 : Int32) _ _ _ _ hR hF (by decide) hK_N4 (by decide) hP hD hS (lv_sub hl [1, 2, 0] rfl)
  · refine a_ic F (0 : Int32) dX9_readBoth_8 (by decide) ?_
    exact a_retz F hr hlocks hP hD hS dX9_readBoth_9 (Or.inl rfl) ⟨hR, hF, (by decide)⟩
set_option maxHeartbeats 600000 in
set_option maxRecDepth 100000 in
theorem c_X9_readCond_51_d8 (l : Launch) (dC : Nat → ClassId) (dI : Nat → Nat → Nat) (ad : Nat → Nat) (cA : Nat → ClassId) (nF : Nat) (u0 : ac_U) (p0 : Int32) (hR : ac_R rg u0) (hp0 : (8 : Int) ≤ p0.toInt ∧ p0.toInt ≤ 8) (hK_N4 : nmI 11 12 u0) : ac_Mi l yX9_readCond (.code yX9_readCond cX9_readCond 3 (some .boolean) :: TB) 8 (dC, dI) vwCl (ac_ty cA) ad cA (TT nF) [.ref (ad 51), .int p0] u0 (fun (r : Int32) (u : ac_U) => ac_R rg u ∧ ac_Fr [(1, some 4), (1, some 5), (1, some 6), (1, some 8), (1, some 9), (1, some 10), (1, some 11), (47, some 3), (47, some 4), (48, none), (49, none), (50, none)] u0 u ∧ ((0 : Int) ≤ r.toInt ∧ r.toInt ≤ 1)) := by
  refine ac_Mi.of (cc := cX9_readCond) (maxL := 3) (ret := (some .boolean)) (by decide) rfl (Nat.le_of_ble_eq_true rfl) ?_
  intro p e s m below meth c A ls F hml hr hlocks hA hP hD hS hl
  have F : ac_X p s m [.ref (ad 51), .int p0].toArray c cX9_readCond RX9 TB (dC, dI) vwCl (ac_ty cA) := ⟨F.1, F.2.1, fun w h => F.2.2.1 w (List.mem_cons_of_mem _ h), F.2.2.2.1, F.2.2.2.2⟩
  have hl : lv_has ls 3 [(0, .ref (ad 51)), (1, .int p0)] := hl
  have hF : ac_Fr [(1, some 4), (1, some 5), (1, some 6), (1, some 8), (1, some 9), (1, some 10), (1, some 11), (47, some 3), (47, some 4), (48, none), (49, none), (50, none)] u0 u0 := ac_Fr.rf
  have L64 : ∀ (u : ac_U) (H : Heap) (locs : List Loc) (ls : Array Slot), ac_R rg u → ac_Fr [(1, some 4), (1, some 5), (1, some 6), (1, some 8), (1, some 9), (1, some 10), (1, some 11), (47, some 3), (47, some 4), (48, none), (49, none), (50, none)] u0 u → nmI 11 12 u → va_P (dC, dI) vwCl (ac_w ad cA (TT nF) u) H → va_D A (ac_w ad cA (TT nF) u) → va_S A s.heap H locs → lv_has ls 3 [] → W p l e (ac_rm 8) s m [.ref (ad 51), .int p0].toArray below meth c H locs 0 0 (MQ below (va_Qi (fun (r : Int32) (u : ac_U) => ac_R rg u ∧ ac_Fr [(1, some 4), (1, some 5), (1, some 6), (1, some 8), (1, some 9), (1, some 10), (1, some 11), (47, some 3), (47, some 4), (48, none), (49, none), (50, none)] u0 u ∧ ((0 : Int) ≤ r.toInt ∧ r.toInt ≤ 1)) (ac_B (dC, dI) vwCl (ac_ty cA) ad cA (TT nF) A) A) [.ref (ad 51), .int p0].toArray s 0 0 A) (F0 m 64 ls []) := by
    intro u H locs ls hR hF hK_N4 hP hD hS hl
    refine a_ic F (1 : Int32) dX9_readCond_64 (by decide) ?_
    exact a_retz F hr hlocks hP hD hS dX9_readCond_65 (Or.inr rfl) ⟨hR, hF, (by decide)⟩
  have L12 : ∀ (n12 : Nat) (x2 : Int32) (u : ac_U) (H : Heap) (locs : List Loc) (ls : Array Slot), ac_R rg u → ac_Fr [(1, some 4), (1, some 5), (1, some 6), (1, some 8), (1, some 9), (1, some 10), (1, some 11), (47, some 3), (47, some 4), (48, none), (49, none), (50, none)] u0 u → 20 - x2.toInt < (n12 : Int) → nmI 11 12 u → (0 : Int) ≤ x2.toInt ∧ x2.toInt ≤ 20 → va_P (dC, dI) vwCl (ac_w ad cA (TT nF) u) H → va_D A (ac_w ad cA (TT nF) u) → va_S A s.heap H locs → lv_has ls 3 [(0, .ref (ad 51)), (1, .int p0), (2, .int x2)] → W p l e (ac_rm 8) s m [.ref (ad 51), .int p0].toArray below meth c H locs 0 0 (MQ below (va_Qi (fun (r : Int32) (u : ac_U) => ac_R rg u ∧ ac_Fr [(1, some 4), (1, some 5), (1, some 6), (1, some 8), (1, some 9), (1, some 10), (1, some 11), (47, some 3), (47, some 4), (48, none), (49, none), (50, none)] u0 u ∧ ((0 : Int) ≤ r.toInt ∧ r.toInt ≤ 1)) (ac_B (dC, dI) vwCl (ac_ty cA) ad cA (TT nF) A) A) [.ref (ad 51), .int p0].toArray s 0 0 A) (F0 m 12 ls []) := by
    intro n12
    induction n12 with
    | zero => intro x2 u H locs ls hR hF hn12 hK_N4 f0 hP hD hS hl; exfalso; omega
    | succ n12 ih12 =>
      intro x2 u H locs ls hR hF hn12 hK_N4 f0 hP hD hS hl
      refine lv_iload_n F.1 F.2.1 dX9_readCond_12 rfl (lv_at hl 2 rfl) ?_
      refine a_bp F (20 : Int32) dX9_readCond_13 (by decide) ?_
      refine b_ge F 64 dX9_readCond_15 (by decide) rfl ic_20 (fun c1 => ?_) (fun c1 => ?_)
      · exact L64 _ _ _ _ hR hF hK_N4 hP hD hS (lv_sub hl [] rfl)
      · refine lv_aload_n F.1 F.2.1 dX9_readCond_18 rfl (lv_at hl 0 rfl) ?_
        refine a_getr F inX9 hP 51 0 tc_51 rfl rfl (by decide) q465 (fun _ h9 => h9) dX9_readCond_19 ?_
        have g2 : (-128 : Int) ≤ (u.1 1 6).toInt ∧ (u.1 1 6).toInt ≤ 127 := hR 1 6
        refine a_geti F inX10 hP 1 6 tc_1 rfl rfl (by decide) q103 (fun _ h9 => h9) (v := (u.1 1 6)) rfl dX9_readCond_22 ?_
        refine a_bp F (114 : Int32) dX9_readCond_25 (by decide) ?_
        refine b_ne F 64 dX9_readCond_27 (by decide) rfl ic_114 (fun c3 => ?_) (fun c3 => ?_)
        · exact L64 _ _ _ _ hR hF hK_N4 hP hD hS (lv_sub hl [] rfl)
        · refine lv_aload_n F.1 F.2.1 dX9_readCond_30 rfl (lv_at hl 0 rfl) ?_
          refine a_getr F inX9 hP 51 0 tc_51 rfl rfl (by decide) q465 (fun _ h9 => h9) dX9_readCond_31 ?_
          refine a_Vv F hml hl.1 hA hP hD hS (As := []) (c_X10_readNext_1 l dC dI ad cA nF _  hR) (cs_RX9_45 (d := 3) F.2.2.1 (by decide)) tc_1 rfl rfl rfl rfl (Nat.le_of_ble_eq_true rfl) dX9_readCond_34 ⟨Nat.le_refl 0, Nat.le_refl 0⟩ (fun u4 H locs hq hP hD hS => ?_)
          obtain ⟨hR, hF4⟩ := hq
          have hF := hF.tr hF4 (by decide)
          have hK_N4 := sp_fr sp_N4 hF4 (by decide) hK_N4
          refine lv_aload_n F.1 F.2.1 dX9_readCond_37 rfl (lv_at hl 0 rfl) ?_
          refine lv_iload_n F.1 F.2.1 dX9_readCond_38 rfl (lv_at hl 1 rfl) ?_
          refine a_Vi F hml hl.1 hA hP hD hS (As := [.int p0]) (c_X9_readBoth_51_d8 l dC dI ad cA nF _ p0 hR (by omega) hK_N4) (cs_RX9_42 (d := 7) F.2.2.1 (by decide)) tc_51 rfl rfl rfl rfl (Nat.le_of_ble_eq_true rfl) dX9_readCond_39 ⟨Nat.le_refl 0, Nat.le_refl 0⟩ (fun r5 u5 H locs hq hP hD hS => ?_)
          obtain ⟨hR, hF5, gr5⟩ := hq
          have hF := hF.tr hF5 (by decide)
          have hK_N4 := sp_fr sp_N4 hF5 (by decide) hK_N4
          refine z_ne F 47 dX9_readCond_42 (by decide) rfl (fun c6 => ?_) (fun c6 => ?_)
          · refine lv_aload_n F.1 F.2.1 dX9_readCond_47 rfl (lv_at hl 0 rfl) ?_
            refine a_getr F inX9 hP 51 2 tc_51 rfl rfl (by decide) q467 (fun _ h9 => h9) dX9_readCond_48 ?_
            refine a_bp F (114 : Int32) dX9_readCond_51 (by decide) ?_
            refine a_ic F (0 : Int32) dX9_readCond_53 (by decide) ?_
            refine a_ic F (0 : Int32) dX9_readCond_54 (by decide) ?_
            refine a_Vv F hml hl.1 hA hP hD hS (As := [.int (114 : Int32), .int (0 : Int32), .int (0 : Int32)]) (c_X8_add_47 l dC dI ad cA nF _ (114 : Int32) (0 : Int32) (0 : Int32) hR (by decide) (by decide)) (cs_RX9_48 (d := 1) F.2.2.1 (by decide)) tc_47 rfl rfl rfl rfl (Nat.le_of_ble_eq_true rfl) dX9_readCond_55 ⟨Nat.le_refl 0, Nat.le_refl 0⟩ (fun u7 H locs hq hP hD hS => ?_)
            obtain ⟨hR, hF7⟩ := hq
            have hF := hF.tr hF7 (by decide)
            have hK_N4 := sp_fr sp_N4 hF7 (by decide) hK_N4
            refine a_iinc F (k := 2) (fun v8 => [(2, .int v8), (0, .ref (ad 51)), (1, .int p0)]) dX9_readCond_58 hl rfl rfl (by decide) (by omega) (by decide) (fun _ => rfl) (fun v8 ls hv8 hl => ?_)
            refine lv_goto (tgt := 12) F.1 F.2.1 dX9_readCond_61 (by decide) ?_
            exact ih12 v8 _ _ _ _ hR hF (by omega) hK_N4 (by omega) hP hD hS (lv_sub hl [1, 2, 0] rfl)
          · refine a_ic F (0 : Int32) dX9_readCond_45 (by decide) ?_
            exact a_retz F hr hlocks hP hD hS dX9_readCond_46 (Or.inl rfl) ⟨hR, hF, (by decide)⟩
  refine lv_aload_n F.1 F.2.1 dX9_readCond_0 rfl (lv_at hl 0 rfl) ?_
  refine lv_iload_n F.1 F.2.1 dX9_readCond_1 rfl (lv_at hl 1 rfl) ?_
  refine a_Vi F hml hl.1 hA hP hD hS (As := [.int p0]) (c_X9_readBoth_51_d8 l dC dI ad cA nF _ p0 hR (by omega) hK_N4) (cs_RX9_42 (d := 7) F.2.2.1 (by decide)) tc_51 rfl rfl rfl rfl (Nat.le_of_ble_eq_true rfl) dX9_readCond_2 ⟨Nat.le_refl 0, Nat.le_refl 0⟩ (fun r9 u9 H locs hq hP hD hS => ?_)
  obtain ⟨hR, hF9, gr9⟩ := hq
  have hF := hF.tr hF9 (by decide)
  have hK_N4 := sp_fr sp_N4 hF9 (by decide) hK_N4
  refine z_ne F 10 dX9_readCond_5 (by decide) rfl (fun c10 => ?_) (fun c10 => ?_)
  · refine a_ic F (0 : Int32) dX9_readCond_10 (by decide) ?_
    refine lv_istore_n (lv' := [(2, .int (0 : Int32)), (0, .ref (ad 51)), (1, .int p0)]) F.1 F.2.1 dX9_readCond_11 rfl hl (by decide) rfl (fun ls hl => ?_)
    exact L12 22 (0 : Int32) _ _ _ _ hR hF (by decide) hK_N4 (by decide) hP hD hS (lv_sub hl [1, 2, 0] rfl)
  · refine a_ic F (0 : Int32) dX9_readCond_8 (by decide) ?_
    exact a_retz F hr hlocks hP hD hS dX9_readCond_9 (Or.inl rfl) ⟨hR, hF, (by decide)⟩
set_option maxHeartbeats 600000 in
set_option maxRecDepth 100000 in
theorem c_X9_readBracket_51_d7 (l : Launch) (dC : Nat → ClassId) (dI : Nat → Nat → Nat) (ad : Nat → Nat) (cA : Nat → ClassId) (nF : Nat) (u0 : ac_U) (p0 : Int32) (hR : ac_R rg u0) (hp0 : (7 : Int) ≤ p0.toInt ∧ p0.toInt ≤ 7) (hK_N4 : nmI 11 12 u0) : ac_Mi l yX9_readBracket (.code yX9_readBracket cX9_readBracket 2 (some .boolean) :: TB) 9 (dC, dI) vwCl (ac_ty cA) ad cA (TT nF) [.ref (ad 51), .int p0] u0 (fun (r : Int32) (u : ac_U) => ac_R rg u ∧ ac_Fr [(1, some 4), (1, some 5), (1, some 6), (1, some 8), (1, some 9), (1, some 10), (1, some 11), (47, some 3), (47, some 4), (48, none), (49, none), (50, none)] u0 u ∧ ((0 : Int) ≤ r.toInt ∧ r.toInt ≤ 1)) := by
  refine ac_Mi.of (cc := cX9_readBracket) (maxL := 2) (ret := (some .boolean)) (by decide) rfl (Nat.le_of_ble_eq_true rfl) ?_
  intro p e s m below meth c A ls F hml hr hlocks hA hP hD hS hl
  have F : ac_X p s m [.ref (ad 51), .int p0].toArray c cX9_readBracket RX9 TB (dC, dI) vwCl (ac_ty cA) := ⟨F.1, F.2.1, fun w h => F.2.2.1 w (List.mem_cons_of_mem _ h), F.2.2.2.1, F.2.2.2.2⟩
  have hl : lv_has ls 2 [(0, .ref (ad 51)), (1, .int p0)] := hl
  have hF : ac_Fr [(1, some 4), (1, some 5), (1, some 6), (1, some 8), (1, some 9), (1, some 10), (1, some 11), (47, some 3), (47, some 4), (48, none), (49, none), (50, none)] u0 u0 := ac_Fr.rf
  refine lv_aload_n F.1 F.2.1 dX9_readBracket_0 rfl (lv_at hl 0 rfl) ?_
  refine a_getr F inX9 hP 51 0 tc_51 rfl rfl (by decide) q465 (fun _ h9 => h9) dX9_readBracket_1 ?_
  refine a_Vv F hml hl.1 hA hP hD hS (As := []) (c_X10_readNext_1 l dC dI ad cA nF _  hR) (cs_RX9_45 (d := 3) F.2.2.1 (by decide)) tc_1 rfl rfl rfl rfl (Nat.le_of_ble_eq_true rfl) dX9_readBracket_4 ⟨Nat.le_refl 0, Nat.le_refl 0⟩ (fun u1 H locs hq hP hD hS => ?_)
  obtain ⟨hR, hF1⟩ := hq
  have hF := hF.tr hF1 (by decide)
  have hK_N4 := sp_fr sp_N4 hF1 (by decide) hK_N4
  refine lv_aload_n F.1 F.2.1 dX9_readBracket_7 rfl (lv_at hl 0 rfl) ?_
  refine lv_iload_n F.1 F.2.1 dX9_readBracket_8 rfl (lv_at hl 1 rfl) ?_
  refine a_ic F (1 : Int32) dX9_readBracket_9 (by decide) ?_
  refine a_iadd F dX9_readBracket_10 rfl ic_1 (by omega) (fun v2 hv2 => ?_)
  refine a_Vi F hml hl.1 hA hP hD hS (As := [.int v2]) (c_X9_readCond_51_d8 l dC dI ad cA nF _ v2 hR (by omega) hK_N4) (cs_RX9_74 (d := 8) F.2.2.1 (by decide)) tc_51 rfl rfl rfl rfl (Nat.le_of_ble_eq_true rfl) dX9_readBracket_11 ⟨Nat.le_refl 0, Nat.le_refl 0⟩ (fun r3 u3 H locs hq hP hD hS => ?_)
  obtain ⟨hR, hF3, gr3⟩ := hq
  have hF := hF.tr hF3 (by decide)
  have hK_N4 := sp_fr sp_N4 hF3 (by decide) hK_N4
  refine z_ne F 19 dX9_readBracket_14 (by decide) rfl (fun c4 => ?_) (fun c4 => ?_)
  · refine lv_aload_n F.1 F.2.1 dX9_readBracket_19 rfl (lv_at hl 0 rfl) ?_
    refine a_getr F inX9 hP 51 0 tc_51 rfl rfl (by decide) q465 (fun _ h9 => h9) dX9_readBracket_20 ?_
    have g5 : (-128 : Int) ≤ (u3.1 1 6).toInt ∧ (u3.1 1 6).toInt ≤ 127 := hR 1 6
    refine a_geti F inX10 hP 1 6 tc_1 rfl rfl (by decide) q103 (fun _ h9 => h9) (v := (u3.1 1 6)) rfl dX9_readBracket_23 ?_
    refine a_bp F (41 : Int32) dX9_readBracket_26 (by decide) ?_
    refine b_eq F 40 dX9_readBracket_28 (by decide) rfl ic_41 (fun c6 => ?_) (fun c6 => ?_)
    · refine lv_aload_n F.1 F.2.1 dX9_readBracket_40 rfl (lv_at hl 0 rfl) ?_
      refine a_getr F inX9 hP 51 0 tc_51 rfl rfl (by decide) q465 (fun _ h9 => h9) dX9_readBracket_41 ?_
      refine a_Vv F hml hl.1 hA hP hD hS (As := []) (c_X10_readNext_1 l dC dI ad cA nF _  hR) (cs_RX9_45 (d := 3) F.2.2.1 (by decide)) tc_1 rfl rfl rfl rfl (Nat.le_of_ble_eq_true rfl) dX9_readBracket_44 ⟨Nat.le_refl 0, Nat.le_refl 0⟩ (fun u7 H locs hq hP hD hS => ?_)
      obtain ⟨hR, hF7⟩ := hq
      have hF := hF.tr hF7 (by decide)
      have hK_N4 := sp_fr sp_N4 hF7 (by decide) hK_N4
      refine a_ic F (1 : Int32) dX9_readBracket_47 (by decide) ?_
      exact a_retz F hr hlocks hP hD hS dX9_readBracket_48 (Or.inr rfl) ⟨hR, hF, (by decide)⟩
    · refine lv_aload_n F.1 F.2.1 dX9_readBracket_31 rfl (lv_at hl 0 rfl) ?_
      refine a_getr F inX9 hP 51 0 tc_51 rfl rfl (by decide) q465 (fun _ h9 => h9) dX9_readBracket_32 ?_
      refine a_ic F (1 : Int32) dX9_readBracket_35 (by decide) ?_
      refine a_Vi F hml hl.1 hA hP hD hS (As := [.int (1 : Int32)]) (c_X10_fail_1 l dC dI ad cA nF _ (1 : Int32) hR (by decide)) (cs_RX9_38 (d := 1) F.2.2.1 (by decide)) tc_1 rfl rfl rfl rfl (Nat.le_of_ble_eq_true rfl) dX9_readBracket_36 ⟨Nat.le_refl 0, Nat.le_refl 0⟩ (fun r8 u8 H locs hq hP hD hS => ?_)
      obtain ⟨hR, hF8, gr8⟩ := hq
      have hF := hF.tr hF8 (by decide)
      have hK_N4 := sp_fr sp_N4 hF8 (by decide) hK_N4
      exact a_retz F hr hlocks hP hD hS dX9_readBracket_39 (i_01 (by omega)) ⟨hR, hF, (by omega : (0 : Int) ≤ r8.toInt ∧ r8.toInt ≤ 1)⟩
  · refine a_ic F (0 : Int32) dX9_readBracket_17 (by decide) ?_
    exact a_retz F hr hlocks hP hD hS dX9_readBracket_18 (Or.inl rfl) ⟨hR, hF, (by decide)⟩
set_option maxHeartbeats 600000 in
set_option maxRecDepth 100000 in
theorem c_X9_readNot_51_d7 (l : Launch) (dC : Nat → ClassId) (dI : Nat → Nat → Nat) (ad : Nat → Nat) (cA : Nat → ClassId) (nF : Nat) (u0 : ac_U) (p0 : Int32) (hR : ac_R rg u0) (hp0 : (7 : Int) ≤ p0.toInt ∧ p0.toInt ≤ 7) (hK_N4 : nmI 11 12 u0) : ac_Mi l yX9_readNot (.code yX9_readNot cX9_readNot 2 (some .boolean) :: TB) 7 (dC, dI) vwCl (ac_ty cA) ad cA (TT nF) [.ref (ad 51), .int p0] u0 (fun (r : Int32) (u : ac_U) => ac_R rg u ∧ ac_Fr [(1, some 4), (1, some 5), (1, some 6), (1, some 8), (1, some 9), (1, some 10), (1, some 11), (47, some 3), (47, some 4), (48, none), (49, none), (50, none)] u0 u ∧ ((0 : Int) ≤ r.toInt ∧ r.toInt ≤ 1)) := by
  refine ac_Mi.of (cc := cX9_readNot) (maxL := 2) (ret := (some .boolean)) (by decide) rfl (Nat.le_of_ble_eq_true rfl) ?_
  intro p e s m below meth c A ls F hml hr hlocks hA hP hD hS hl
  have F : ac_X p s m [.ref (ad 51), .int p0].toArray c cX9_readNot RX9 TB (dC, dI) vwCl (ac_ty cA) := ⟨F.1, F.2.1, fun w h => F.2.2.1 w (List.mem_cons_of_mem _ h), F.2.2.2.1, F.2.2.2.2⟩
  have hl : lv_has ls 2 [(0, .ref (ad 51)), (1, .int p0)] := hl
  have hF : ac_Fr [(1, some 4), (1, some 5), (1, some 6), (1, some 8), (1, some 9), (1, some 10), (1, some 11), (47, some 3), (47, some 4), (48, none), (49, none), (50, none)] u0 u0 := ac_Fr.rf
  refine lv_aload_n F.1 F.2.1 dX9_readNot_0 rfl (lv_at hl 0 rfl) ?_
  refine a_getr F inX9 hP 51 0 tc_51 rfl rfl (by decide) q465 (fun _ h9 => h9) dX9_readNot_1 ?_
  refine a_Vv F hml hl.1 hA hP hD hS (As := []) (c_X10_readNext_1 l dC dI ad cA nF _  hR) (cs_RX9_45 (d := 3) F.2.2.1 (by decide)) tc_1 rfl rfl rfl rfl (Nat.le_of_ble_eq_true rfl) dX9_readNot_4 ⟨Nat.le_refl 0, Nat.le_refl 0⟩ (fun u1 H locs hq hP hD hS => ?_)
  obtain ⟨hR, hF1⟩ := hq
  have hF := hF.tr hF1 (by decide)
  have hK_N4 := sp_fr sp_N4 hF1 (by decide) hK_N4
  refine lv_aload_n F.1 F.2.1 dX9_readNot_7 rfl (lv_at hl 0 rfl) ?_
  refine lv_iload_n F.1 F.2.1 dX9_readNot_8 rfl (lv_at hl 1 rfl) ?_
  refine a_ic F (1 : Int32) dX9_readNot_9 (by decide) ?_
  refine a_iadd F dX9_readNot_10 rfl ic_1 (by omega) (fun v2 hv2 => ?_)
  refine a_Vi F hml hl.1 hA hP hD hS (As := [.int v2]) (c_X9_readOne_51_d8 l dC dI ad cA nF _ v2 hR (by omega) hK_N4) (cs_RX9_52 (d := 6) F.2.2.1 (by decide)) tc_51 rfl rfl rfl rfl (Nat.le_of_ble_eq_true rfl) dX9_readNot_11 ⟨Nat.le_refl 0, Nat.le_refl 0⟩ (fun r3 u3 H locs hq hP hD hS => ?_)
  obtain ⟨hR, hF3, gr3⟩ := hq
  have hF := hF.tr hF3 (by decide)
  have hK_N4 := sp_fr sp_N4 hF3 (by decide) hK_N4
  refine z_ne F 19 dX9_readNot_14 (by decide) rfl (fun c4 => ?_) (fun c4 => ?_)
  · refine lv_aload_n F.1 F.2.1 dX9_readNot_19 rfl (lv_at hl 0 rfl) ?_
    refine a_getr F inX9 hP 51 2 tc_51 rfl rfl (by decide) q467 (fun _ h9 => h9) dX9_readNot_20 ?_
    refine a_bp F (116 : Int32) dX9_readNot_23 (by decide) ?_
    refine a_ic F (0 : Int32) dX9_readNot_25 (by decide) ?_
    refine a_ic F (0 : Int32) dX9_readNot_26 (by decide) ?_
    refine a_Vv F hml hl.1 hA hP hD hS (As := [.int (116 : Int32), .int (0 : Int32), .int (0 : Int32)]) (c_X8_add_47 l dC dI ad cA nF _ (116 : Int32) (0 : Int32) (0 : Int32) hR (by decide) (by decide)) (cs_RX9_48 (d := 1) F.2.2.1 (by decide)) tc_47 rfl rfl rfl rfl (Nat.le_of_ble_eq_true rfl) dX9_readNot_27 ⟨Nat.le_refl 0, Nat.le_refl 0⟩ (fun u5 H locs hq hP hD hS => ?_)
    obtain ⟨hR, hF5⟩ := hq
    have hF := hF.tr hF5 (by decide)
    have hK_N4 := sp_fr sp_N4 hF5 (by decide) hK_N4
    refine a_ic F (1 : Int32) dX9_readNot_30 (by decide) ?_
    exact a_retz F hr hlocks hP hD hS dX9_readNot_31 (Or.inr rfl) ⟨hR, hF, (by decide)⟩
  · refine a_ic F (0 : Int32) dX9_readNot_17 (by decide) ?_
    exact a_retz F hr hlocks hP hD hS dX9_readNot_18 (Or.inl rfl) ⟨hR, hF, (by decide)⟩
set_option maxHeartbeats 600000 in
set_option maxRecDepth 100000 in
theorem c_X9_readOne_51_d7 (l : Launch) (dC : Nat → ClassId) (dI : Nat → Nat → Nat) (ad : Nat → Nat) (cA : Nat → ClassId) (nF : Nat) (u0 : ac_U) (p0 : Int32) (hR : ac_R rg u0) (hp0 : (7 : Int) ≤ p0.toInt ∧ p0.toInt ≤ 7) (hK_N4 : nmI 11 12 u0) : ac_Mi l yX9_readOne (.code yX9_readOne cX9_readOne 3 (some .boolean) :: TB) 10 (dC, dI) vwCl (ac_ty cA) ad cA (TT nF) [.ref (ad 51), .int p0] u0 (fun (r : Int32) (u : ac_U) => ac_R rg u ∧ ac_Fr [(1, some 4), (1, some 5), (1, some 6), (1, some 8), (1, some 9), (1, some 10), (1, some 11), (47, some 3), (47, some 4), (48, none), (49, none), (50, none)] u0 u ∧ ((0 : Int) ≤ r.toInt ∧ r.toInt ≤ 1)) := by
  refine ac_Mi.of (cc := cX9_readOne) (maxL := 3) (ret := (some .boolean)) (by decide) rfl (Nat.le_of_ble_eq_true rfl) ?_
  intro p e s m below meth c A ls F hml hr hlocks hA hP hD hS hl
  have F : ac_X p s m [.ref (ad 51), .int p0].toArray c cX9_readOne RX9 TB (dC, dI) vwCl (ac_ty cA) := ⟨F.1, F.2.1, fun w h => F.2.2.1 w (List.mem_cons_of_mem _ h), F.2.2.2.1, F.2.2.2.2⟩
  have hl : lv_has ls 3 [(0, .ref (ad 51)), (1, .int p0)] := hl
  have hF : ac_Fr [(1, some 4), (1, some 5), (1, some 6), (1, some 8), (1, some 9), (1, some 10), (1, some 11), (47, some 3), (47, some 4), (48, none), (49, none), (50, none)] u0 u0 := ac_Fr.rf
  have L53 : ∀ (u : ac_U) (H : Heap) (locs : List Loc) (ls : Array Slot), ac_R rg u → ac_Fr [(1, some 4), (1, some 5), (1, some 6), (1, some 8), (1, some 9), (1, some 10), (1, some 11), (47, some 3), (47, some 4), (48, none), (49, none), (50, none)] u0 u → nmI 11 12 u → (40 : Int) ≤ (u.1 1 6).toInt ∧ (u.1 1 6).toInt ≤ 126 → (20 : Int) ≤ (u.1 47 4).toInt ∧ (u.1 47 4).toInt ≤ 20 → va_P (dC, dI) vwCl (ac_w ad cA (TT nF) u) H → va_D A (ac_w ad cA (TT nF) u) → va_S A s.heap H locs → lv_has ls 3 [(0, .ref (ad 51))] → W p l e (ac_rm 10) s m [.ref (ad 51), .int p0].toArray below meth c H locs 0 0 (MQ below (va_Qi (fun (r : Int32) (u : ac_U) => ac_R rg u ∧ ac_Fr [(1, some 4), (1, some 5), (1, some 6), (1, some 8), (1, some 9), (1, some 10), (1, some 11), (47, some 3), (47, some 4), (48, none), (49, none), (50, none)] u0 u ∧ ((0 : Int) ≤ r.toInt ∧ r.toInt ≤ 1)) (ac_B (dC, dI) vwCl (ac_ty cA) ad cA (TT nF) A) A) [.ref (ad 51), .int p0].toArray s 0 0 A) (F0 m 53 ls []) := by
    intro u H locs ls hR hF hK_N4 f0 f1 hP hD hS hl
    refine lv_aload_n F.1 F.2.1 dX9_readOne_53 rfl (lv_at hl 0 rfl) ?_
    refine a_getr F inX9 hP 51 0 tc_51 rfl rfl (by decide) q465 (fun _ h9 => h9) dX9_readOne_54 ?_
    refine a_ic F (4 : Int32) dX9_readOne_57 (by decide) ?_
    refine a_Vi F hml hl.1 hA hP hD hS (As := [.int (4 : Int32)]) (c_X10_fail_1 l dC dI ad cA nF _ (4 : Int32) hR (by decide)) (cs_RX9_38 (d := 1) F.2.2.1 (by decide)) tc_1 rfl rfl rfl rfl (Nat.le_of_ble_eq_true rfl) dX9_readOne_58 ⟨Nat.le_refl 0, Nat.le_refl 0⟩ (fun r1 u1 H locs hq hP hD hS => ?_)
    obtain ⟨hR, hF1, gr1⟩ := hq
    have hF := hF.tr hF1 (by decide)
    have hK_N4 := sp_fr sp_N4 hF1 (by decide) hK_N4
    exact a_retz F hr hlocks hP hD hS dX9_readOne_61 (i_01 (by omega)) ⟨hR, hF, (by omega : (0 : Int) ≤ r1.toInt ∧ r1.toInt ≤ 1)⟩
  have L35 : ∀ (x2 : Int32) (u : ac_U) (H : Heap) (locs : List Loc) (ls : Array Slot), ac_R rg u → ac_Fr [(1, some 4), (1, some 5), (1, some 6), (1, some 8), (1, some 9), (1, some 10), (1, some 11), (47, some 3), (47, some 4), (48, none), (49, none), (50, none)] u0 u → nmI 11 12 u → (40 : Int) ≤ x2.toInt ∧ x2.toInt ≤ 126 → (40 : Int) ≤ (u.1 1 6).toInt ∧ (u.1 1 6).toInt ≤ 126 → va_P (dC, dI) vwCl (ac_w ad cA (TT nF) u) H → va_D A (ac_w ad cA (TT nF) u) → va_S A s.heap H locs → lv_has ls 3 [(0, .ref (ad 51)), (1, .int p0), (2, .int x2)] → W p l e (ac_rm 10) s m [.ref (ad 51), .int p0].toArray below meth c H locs 0 0 (MQ below (va_Qi (fun (r : Int32) (u : ac_U) => ac_R rg u ∧ ac_Fr [(1, some 4), (1, some 5), (1, some 6), (1, some 8), (1, some 9), (1, some 10), (1, some 11), (47, some 3), (47, some 4), (48, none), (49, none), (50, none)] u0 u ∧ ((0 : Int) ≤ r.toInt ∧ r.toInt ≤ 1)) (ac_B (dC, dI) vwCl (ac_ty cA) ad cA (TT nF) A) A) [.ref (ad 51), .int p0].toArray s 0 0 A) (F0 m 35 ls []) := by
    intro x2 u H locs ls hR hF hK_N4 f0 f1 hP hD hS hl
    refine lv_aload_n F.1 F.2.1 dX9_readOne_35 rfl (lv_at hl 0 rfl) ?_
    refine a_getr F inX9 hP 51 2 tc_51 rfl rfl (by decide) q467 (fun _ h9 => h9) dX9_readOne_36 ?_
    have g2 : (0 : Int) ≤ (u.1 47 4).toInt ∧ (u.1 47 4).toInt ≤ 20 := hR 47 4
    refine a_geti F inX8 hP 47 4 tc_47 rfl rfl (by decide) q446 (fun _ h9 => h9) (v := (u.1 47 4)) rfl dX9_readOne_39 ?_
    refine a_bp F (20 : Int32) dX9_readOne_42 (by decide) ?_
    refine b_ge F 53 dX9_readOne_44 (by decide) rfl ic_20 (fun c3 => ?_) (fun c3 => ?_)
    · have g4 : (-128 : Int) ≤ (u.1 1 6).toInt ∧ (u.1 1 6).toInt ≤ 127 := hR 1 6
      exact L53 _ _ _ _ hR hF hK_N4 (by omega : (40 : Int) ≤ (u.1 1 6).toInt ∧ (u.1 1 6).toInt ≤ 126) (by omega : (20 : Int) ≤ (u.1 47 4).toInt ∧ (u.1 47 4).toInt ≤ 20) hP hD hS (lv_sub hl [0] rfl)
    · refine lv_iload_n F.1 F.2.1 dX9_readOne_47 rfl (lv_at hl 1 rfl) ?_
      refine a_bp F (8 : Int32) dX9_readOne_48 (by decide) ?_
      refine b_le F 62 dX9_readOne_50 (by decide) rfl ic_8 (fun c5 => ?_) (fun c5 => ?_)
      · refine lv_aload_n F.1 F.2.1 dX9_readOne_62 rfl (lv_at hl 0 rfl) ?_
        refine a_getr F inX9 hP 51 2 tc_51 rfl rfl (by decide) q467 (fun _ h9 => h9) dX9_readOne_63 ?_
        refine lv_dup F.1 F.2.1 dX9_readOne_66 rfl ?_
        refine a_geti F inX8 hP 47 4 tc_47 rfl rfl (by decide) q446 (fun _ h9 => h9) (v := (u.1 47 4)) (rfl) dX9_readOne_67 ?_
        refine a_ic F (1 : Int32) dX9_readOne_70 (by decide) ?_
        refine a_iadd F dX9_readOne_71 rfl ic_1 (by omega) (fun v6 hv6 => ?_)
        refine a_puti F inX8 tyX8 tyX8_ok nmX8 hP hD hS 47 4 tc_47 rfl rfl (by decide) q446 (fun _ h9 => h9) rfl (ty := .int) (tyX8_ok 4 (by decide)) rfl rfl dX9_readOne_72 (fun H locs hP hD hS => ?_)
        have hR := hR.si (c := 47) (k := 4) (v := v6) (by omega : (0 : Int) ≤ v6.toInt ∧ v6.toInt ≤ 20)
        have hF := hF.si (c := 47) (k := 4) (v := v6) rfl
        have hK_N4 := sp_sgD sp_N4 hD hK_N4 (by decide)
        refine lv_iload_n F.1 F.2.1 dX9_readOne_75 rfl (lv_at hl 2 rfl) ?_
        refine a_bp F (40 : Int32) dX9_readOne_76 (by decide) ?_
        refine b_ne F 87 dX9_readOne_78 (by decide) rfl ic_40 (fun c7 => ?_) (fun c7 => ?_)
        · refine lv_iload_n F.1 F.2.1 dX9_readOne_87 rfl (lv_at hl 2 rfl) ?_
          refine a_bp F (116 : Int32) dX9_readOne_88 (by decide) ?_
          refine b_ne F 99 dX9_readOne_90 (by decide) rfl ic_116 (fun c8 => ?_) (fun c8 => ?_)
          · refine lv_iload_n F.1 F.2.1 dX9_readOne_99 rfl (lv_at hl 2 rfl) ?_
            refine a_bp F (122 : Int32) dX9_readOne_100 (by decide) ?_
            refine b_ne F 110 dX9_readOne_102 (by decide) rfl ic_122 (fun c9 => ?_) (fun c9 => ?_)
            · refine lv_iload_n F.1 F.2.1 dX9_readOne_110 rfl (lv_at hl 2 rfl) ?_
              refine a_bp F (122 : Int32) dX9_readOne_111 (by decide) ?_
              refine b_le F 124 dX9_readOne_113 (by decide) rfl ic_122 (fun c10 => ?_) (fun c10 => ?_)
              · refine lv_aload_n F.1 F.2.1 dX9_readOne_124 rfl (lv_at hl 0 rfl) ?_
                refine lv_iload_n F.1 F.2.1 dX9_readOne_125 rfl (lv_at hl 2 rfl) ?_
                refine a_Vi F hml hl.1 hA hP hD hS (As := [.int x2]) (c_X9_readStatus_51 l dC dI ad cA nF _ x2 hR (by omega)) (cs_RX9_71 (d := 4) F.2.2.1 (by decide)) tc_51 rfl rfl rfl rfl (Nat.le_of_ble_eq_true rfl) dX9_readOne_126 ⟨Nat.le_refl 0, Nat.le_refl 0⟩ (fun r11 u11 H locs hq hP hD hS => ?_)
                obtain ⟨hR, hF11, gr11⟩ := hq
                have hF := hF.tr hF11 (by decide)
                have hK_N4 := sp_fr sp_N4 hF11 (by decide) hK_N4
                exact a_retz F hr hlocks hP hD hS dX9_readOne_129 (i_01 (by omega)) ⟨hR, hF, (by omega : (0 : Int) ≤ r11.toInt ∧ r11.toInt ≤ 1)⟩
              · refine lv_aload_n F.1 F.2.1 dX9_readOne_116 rfl (lv_at hl 0 rfl) ?_
                refine lv_iload_n F.1 F.2.1 dX9_readOne_117 rfl (lv_at hl 2 rfl) ?_
                refine a_Vi F hml hl.1 hA hP hD hS (As := [.int x2]) (c_X9_readCompare_51 l dC dI ad cA nF _ x2 hR (by omega)) (cs_RX9_68 (d := 4) F.2.2.1 (by decide)) tc_51 rfl rfl rfl rfl (Nat.le_of_ble_eq_true rfl) dX9_readOne_118 ⟨Nat.le_refl 0, Nat.le_refl 0⟩ (fun r12 u12 H locs hq hP hD hS => ?_)
                obtain ⟨hR, hF12, gr12⟩ := hq
                have hF := hF.tr hF12 (by decide)
                have hK_N4 := sp_fr sp_N4 hF12 (by decide) hK_N4
                refine lv_goto (tgt := 129) F.1 F.2.1 dX9_readOne_121 (by decide) ?_
                exact a_retz F hr hlocks hP hD hS dX9_readOne_129 (i_01 (by omega)) ⟨hR, hF, (by omega : (0 : Int) ≤ r12.toInt ∧ r12.toInt ≤ 1)⟩
            · refine lv_aload_n F.1 F.2.1 dX9_readOne_105 rfl (lv_at hl 0 rfl) ?_
              refine a_Vi F hml hl.1 hA hP hD hS (As := []) (c_X9_readOf_51 l dC dI ad cA nF _  hR hK_N4) (cs_RX9_64 (d := 4) F.2.2.1 (by decide)) tc_51 rfl rfl rfl rfl (Nat.le_of_ble_eq_true rfl) dX9_readOne_106 ⟨Nat.le_refl 0, Nat.le_refl 0⟩ (fun r13 u13 H locs hq hP hD hS => ?_)
              obtain ⟨hR, hF13, gr13⟩ := hq
              have hF := hF.tr hF13 (by decide)
              have hK_N4 := sp_fr sp_N4 hF13 (by decide) hK_N4
              exact a_retz F hr hlocks hP hD hS dX9_readOne_109 (i_01 (by omega)) ⟨hR, hF, (by omega : (0 : Int) ≤ r13.toInt ∧ r13.toInt ≤ 1)⟩
          · refine lv_aload_n F.1 F.2.1 dX9_readOne_93 rfl (lv_at hl 0 rfl) ?_
            refine lv_iload_n F.1 F.2.1 dX9_readOne_94 rfl (lv_at hl 1 rfl) ?_
            refine a_Vi F hml hl.1 hA hP hD hS (As := [.int p0]) (c_X9_readNot_51_d7 l dC dI ad cA nF _ p0 hR (by omega) hK_N4) (cs_RX9_61 (d := 7) F.2.2.1 (by decide)) tc_51 rfl rfl rfl rfl (Nat.le_of_ble_eq_true rfl) dX9_readOne_95 ⟨Nat.le_refl 0, Nat.le_refl 0⟩ (fun r14 u14 H locs hq hP hD hS => ?_)
            obtain ⟨hR, hF14, gr14⟩ := hq
            have hF := hF.tr hF14 (by decide)
            have hK_N4 := sp_fr sp_N4 hF14 (by decide) hK_N4
            exact a_retz F hr hlocks hP hD hS dX9_readOne_98 (i_01 (by omega)) ⟨hR, hF, (by omega : (0 : Int) ≤ r14.toInt ∧ r14.toInt ≤ 1)⟩
        · refine lv_aload_n F.1 F.2.1 dX9_readOne_81 rfl (lv_at hl 0 rfl) ?_
          refine lv_iload_n F.1 F.2.1 dX9_readOne_82 rfl (lv_at hl 1 rfl) ?_
          refine a_Vi F hml hl.1 hA hP hD hS (As := [.int p0]) (c_X9_readBracket_51_d7 l dC dI ad cA nF _ p0 hR (by omega) hK_N4) (cs_RX9_58 (d := 9) F.2.2.1 (by decide)) tc_51 rfl rfl rfl rfl (Nat.le_of_ble_eq_true rfl) dX9_readOne_83 ⟨Nat.le_refl 0, Nat.le_refl 0⟩ (fun r15 u15 H locs hq hP hD hS => ?_)
          obtain ⟨hR, hF15, gr15⟩ := hq
          have hF := hF.tr hF15 (by decide)
          have hK_N4 := sp_fr sp_N4 hF15 (by decide) hK_N4
          exact a_retz F hr hlocks hP hD hS dX9_readOne_86 (i_01 (by omega)) ⟨hR, hF, (by omega : (0 : Int) ≤ r15.toInt ∧ r15.toInt ≤ 1)⟩
      · exfalso; omega
  have L26 : ∀ (u : ac_U) (H : Heap) (locs : List Loc) (ls : Array Slot), ac_R rg u → ac_Fr [(1, some 4), (1, some 5), (1, some 6), (1, some 8), (1, some 9), (1, some 10), (1, some 11), (47, some 3), (47, some 4), (48, none), (49, none), (50, none)] u0 u → nmI 11 12 u → (-128 : Int) ≤ (u.1 1 6).toInt ∧ (u.1 1 6).toInt ≤ 127 → va_P (dC, dI) vwCl (ac_w ad cA (TT nF) u) H → va_D A (ac_w ad cA (TT nF) u) → va_S A s.heap H locs → lv_has ls 3 [(0, .ref (ad 51))] → W p l e (ac_rm 10) s m [.ref (ad 51), .int p0].toArray below meth c H locs 0 0 (MQ below (va_Qi (fun (r : Int32) (u : ac_U) => ac_R rg u ∧ ac_Fr [(1, some 4), (1, some 5), (1, some 6), (1, some 8), (1, some 9), (1, some 10), (1, some 11), (47, some 3), (47, some 4), (48, none), (49, none), (50, none)] u0 u ∧ ((0 : Int) ≤ r.toInt ∧ r.toInt ≤ 1)) (ac_B (dC, dI) vwCl (ac_ty cA) ad cA (TT nF) A) A) [.ref (ad 51), .int p0].toArray s 0 0 A) (F0 m 26 ls []) := by
    intro u H locs ls hR hF hK_N4 f0 hP hD hS hl
    refine lv_aload_n F.1 F.2.1 dX9_readOne_26 rfl (lv_at hl 0 rfl) ?_
    refine a_getr F inX9 hP 51 0 tc_51 rfl rfl (by decide) q465 (fun _ h9 => h9) dX9_readOne_27 ?_
    refine a_ic F (1 : Int32) dX9_readOne_30 (by decide) ?_
    refine a_Vi F hml hl.1 hA hP hD hS (As := [.int (1 : Int32)]) (c_X10_fail_1 l dC dI ad cA nF _ (1 : Int32) hR (by decide)) (cs_RX9_38 (d := 1) F.2.2.1 (by decide)) tc_1 rfl rfl rfl rfl (Nat.le_of_ble_eq_true rfl) dX9_readOne_31 ⟨Nat.le_refl 0, Nat.le_refl 0⟩ (fun r16 u16 H locs hq hP hD hS => ?_)
    obtain ⟨hR, hF16, gr16⟩ := hq
    have hF := hF.tr hF16 (by decide)
    have hK_N4 := sp_fr sp_N4 hF16 (by decide) hK_N4
    exact a_retz F hr hlocks hP hD hS dX9_readOne_34 (i_01 (by omega)) ⟨hR, hF, (by omega : (0 : Int) ≤ r16.toInt ∧ r16.toInt ≤ 1)⟩
  refine lv_aload_n F.1 F.2.1 dX9_readOne_0 rfl (lv_at hl 0 rfl) ?_
  refine a_getr F inX9 hP 51 0 tc_51 rfl rfl (by decide) q465 (fun _ h9 => h9) dX9_readOne_1 ?_
  have g17 : (-128 : Int) ≤ (u0.1 1 6).toInt ∧ (u0.1 1 6).toInt ≤ 127 := hR 1 6
  refine a_geti F inX10 hP 1 6 tc_1 rfl rfl (by decide) q103 (fun _ h9 => h9) (v := (u0.1 1 6)) rfl dX9_readOne_4 ?_
  refine lv_istore_n (lv' := [(2, .int (u0.1 1 6)), (0, .ref (ad 51)), (1, .int p0)]) F.1 F.2.1 dX9_readOne_7 rfl hl (by decide) rfl (fun ls hl => ?_)
  refine lv_iload_n F.1 F.2.1 dX9_readOne_8 rfl (lv_at hl 0 rfl) ?_
  refine a_bp F (40 : Int32) dX9_readOne_9 (by decide) ?_
  refine b_eq F 35 dX9_readOne_11 (by decide) rfl ic_40 (fun c18 => ?_) (fun c18 => ?_)
  · exact L35 (u0.1 1 6) _ _ _ _ hR hF hK_N4 (by omega) (by omega : (40 : Int) ≤ (u0.1 1 6).toInt ∧ (u0.1 1 6).toInt ≤ 126) hP hD hS (lv_sub hl [1, 2, 0] rfl)
  · refine lv_iload_n F.1 F.2.1 dX9_readOne_14 rfl (lv_at hl 0 rfl) ?_
    refine a_bp F (116 : Int32) dX9_readOne_15 (by decide) ?_
    refine b_lt F 26 dX9_readOne_17 (by decide) rfl ic_116 (fun c19 => ?_) (fun c19 => ?_)
    · exact L26 _ _ _ _ hR hF hK_N4 (by omega : (-128 : Int) ≤ (u0.1 1 6).toInt ∧ (u0.1 1 6).toInt ≤ 127) hP hD hS (lv_sub hl [1] rfl)
    · refine lv_iload_n F.1 F.2.1 dX9_readOne_20 rfl (lv_at hl 0 rfl) ?_
      refine a_bp F (126 : Int32) dX9_readOne_21 (by decide) ?_
      refine b_le F 35 dX9_readOne_23 (by decide) rfl ic_126 (fun c20 => ?_) (fun c20 => ?_)
      · exact L35 (u0.1 1 6) _ _ _ _ hR hF hK_N4 (by omega) (by omega : (40 : Int) ≤ (u0.1 1 6).toInt ∧ (u0.1 1 6).toInt ≤ 126) hP hD hS (lv_sub hl [1, 2, 0] rfl)
      · exact L26 _ _ _ _ hR hF hK_N4 (by omega : (-128 : Int) ≤ (u0.1 1 6).toInt ∧ (u0.1 1 6).toInt ≤ 127) hP hD hS (lv_sub hl [1] rfl)
set_option maxHeartbeats 600000 in
set_option maxRecDepth 100000 in
theorem c_X9_readBoth_51_d7 (l : Launch) (dC : Nat → ClassId) (dI : Nat → Nat → Nat) (ad : Nat → Nat) (cA : Nat → ClassId) (nF : Nat) (u0 : ac_U) (p0 : Int32) (hR : ac_R rg u0) (hp0 : (7 : Int) ≤ p0.toInt ∧ p0.toInt ≤ 7) (hK_N4 : nmI 11 12 u0) : ac_Mi l yX9_readBoth (.code yX9_readBoth cX9_readBoth 3 (some .boolean) :: TB) 11 (dC, dI) vwCl (ac_ty cA) ad cA (TT nF) [.ref (ad 51), .int p0] u0 (fun (r : Int32) (u : ac_U) => ac_R rg u ∧ ac_Fr [(1, some 4), (1, some 5), (1, some 6), (1, some 8), (1, some 9), (1, some 10), (1, some 11), (47, some 3), (47, some 4), (48, none), (49, none), (50, none)] u0 u ∧ ((0 : Int) ≤ r.toInt ∧ r.toInt ≤ 1)) := by
  refine ac_Mi.of (cc := cX9_readBoth) (maxL := 3) (ret := (some .boolean)) (by decide) rfl (Nat.le_of_ble_eq_true rfl) ?_
  intro p e s m below meth c A ls F hml hr hlocks hA hP hD hS hl
  have F : ac_X p s m [.ref (ad 51), .int p0].toArray c cX9_readBoth RX9 TB (dC, dI) vwCl (ac_ty cA) := ⟨F.1, F.2.1, fun w h => F.2.2.1 w (List.mem_cons_of_mem _ h), F.2.2.2.1, F.2.2.2.2⟩
  have hl : lv_has ls 3 [(0, .ref (ad 51)), (1, .int p0)] := hl
  have hF : ac_Fr [(1, some 4), (1, some 5), (1, some 6), (1, some 8), (1, some 9), (1, some 10), (1, some 11), (47, some 3), (47, some 4), (48, none), (49, none), (50, none)] u0 u0 := ac_Fr.rf
  have L64 : ∀ (u : ac_U) (H : Heap) (locs : List Loc) (ls : Array Slot), ac_R rg u → ac_Fr [(1, some 4), (1, some 5), (1, some 6), (1, some 8), (1, some 9), (1, some 10), (1, some 11), (47, some 3), (47, some 4), (48, none), (49, none), (50, none)] u0 u → nmI 11 12 u → va_P (dC, dI) vwCl (ac_w ad cA (TT nF) u) H → va_D A (ac_w ad cA (TT nF) u) → va_S A s.heap H locs → lv_has ls 3 [] → W p l e (ac_rm 11) s m [.ref (ad 51), .int p0].toArray below meth c H locs 0 0 (MQ below (va_Qi (fun (r : Int32) (u : ac_U) => ac_R rg u ∧ ac_Fr [(1, some 4), (1, some 5), (1, some 6), (1, some 8), (1, some 9), (1, some 10), (1, some 11), (47, some 3), (47, some 4), (48, none), (49, none), (50, none)] u0 u ∧ ((0 : Int) ≤ r.toInt ∧ r.toInt ≤ 1)) (ac_B (dC, dI) vwCl (ac_ty cA) ad cA (TT nF) A) A) [.ref (ad 51), .int p0].toArray s 0 0 A) (F0 m 64 ls []) := by
    intro u H locs ls hR hF hK_N4 hP hD hS hl
    refine a_ic F (1 : Int32) dX9_readBoth_64 (by decide) ?_
    exact a_retz F hr hlocks hP hD hS dX9_readBoth_65 (Or.inr rfl) ⟨hR, hF, (by decide)⟩
  have L12 : ∀ (n12 : Nat) (x2 : Int32) (u : ac_U) (H : Heap) (locs : List Loc) (ls : Array Slot), ac_R rg u → ac_Fr [(1, some 4), (1, some 5), (1, some 6), (1, some 8), (1, some 9), (1, some 10), (1, some 11), (47, some 3), (47, some 4), (48, none), (49, none), (50, none)] u0 u → 20 - x2.toInt < (n12 : Int) → nmI 11 12 u → (0 : Int) ≤ x2.toInt ∧ x2.toInt ≤ 20 → va_P (dC, dI) vwCl (ac_w ad cA (TT nF) u) H → va_D A (ac_w ad cA (TT nF) u) → va_S A s.heap H locs → lv_has ls 3 [(0, .ref (ad 51)), (1, .int p0), (2, .int x2)] → W p l e (ac_rm 11) s m [.ref (ad 51), .int p0].toArray below meth c H locs 0 0 (MQ below (va_Qi (fun (r : Int32) (u : ac_U) => ac_R rg u ∧ ac_Fr [(1, some 4), (1, some 5), (1, some 6), (1, some 8), (1, some 9), (1, some 10), (1, some 11), (47, some 3), (47, some 4), (48, none), (49, none), (50, none)] u0 u ∧ ((0 : Int) ≤ r.toInt ∧ r.toInt ≤ 1)) (ac_B (dC, dI) vwCl (ac_ty cA) ad cA (TT nF) A) A) [.ref (ad 51), .int p0].toArray s 0 0 A) (F0 m 12 ls []) := by
    intro n12
    induction n12 with
    | zero => intro x2 u H locs ls hR hF hn12 hK_N4 f0 hP hD hS hl; exfalso; omega
    | succ n12 ih12 =>
      intro x2 u H locs ls hR hF hn12 hK_N4 f0 hP hD hS hl
      refine lv_iload_n F.1 F.2.1 dX9_readBoth_12 rfl (lv_at hl 2 rfl) ?_
      refine a_bp F (20 : Int32) dX9_readBoth_13 (by decide) ?_
      refine b_ge F 64 dX9_readBoth_15 (by decide) rfl ic_20 (fun c1 => ?_) (fun c1 => ?_)
      · exact L64 _ _ _ _ hR hF hK_N4 hP hD hS (lv_sub hl [] rfl)
      · refine lv_aload_n F.1 F.2.1 dX9_readBoth_18 rfl (lv_at hl 0 rfl) ?_
        refine a_getr F inX9 hP 51 0 tc_51 rfl rfl (by decide) q465 (fun _ h9 => h9) dX9_readBoth_19 ?_
        have g2 : (-128 : Int) ≤ (u.1 1 6).toInt ∧ (u.1 1 6).toInt ≤ 127 := hR 1 6
        refine a_geti F inX10 hP 1 6 tc_1 rfl rfl (by decide) q103 (fun _ h9 => h9) (v := (u.1 1 6)) rfl dX9_readBoth_22 ?_
        refine a_bp F (115 : Int32) dX9_readBoth_25 (by decide) ?_
        refine b_ne F 64 dX9_readBoth_27 (by decide) rfl ic_115 (fun c3 => ?_) (fun c3 => ?_)
        · exact L64 _ _ _ _ hR hF hK_N4 hP hD hS (lv_sub hl [] rfl)
        · refine lv_aload_n F.1 F.2.1 dX9_readBoth_30 rfl (lv_at hl 0 rfl) ?_
          refine a_getr F inX9 hP 51 0 tc_51 rfl rfl (by decide) q465 (fun _ h9 => h9) dX9_readBoth_31 ?_
          refine a_Vv F hml hl.1 hA hP hD hS (As := []) (c_X10_readNext_1 l dC dI ad cA nF _  hR) (cs_RX9_45 (d := 3) F.2.2.1 (by decide)) tc_1 rfl rfl rfl rfl (Nat.le_of_ble_eq_true rfl) dX9_readBoth_34 ⟨Nat.le_refl 0, Nat.le_refl 0⟩ (fun u4 H locs hq hP hD hS => ?_)
          obtain ⟨hR, hF4⟩ := hq
          have hF := hF.tr hF4 (by decide)
          have hK_N4 := sp_fr sp_N4 hF4 (by decide) hK_N4
          refine lv_aload_n F.1 F.2.1 dX9_readBoth_37 rfl (lv_at hl 0 rfl) ?_
          refine lv_iload_n F.1 F.2.1 dX9_readBoth_38 rfl (lv_at hl 1 rfl) ?_
          refine a_Vi F hml hl.1 hA hP hD hS (As := [.int p0]) (c_X9_readOne_51_d7 l dC dI ad cA nF _ p0 hR (by omega) hK_N4) (cs_RX9_52 (d := 10) F.2.2.1 (by decide)) tc_51 rfl rfl rfl rfl (Nat.le_of_ble_eq_true rfl) dX9_readBoth_39 ⟨Nat.le_refl 0, Nat.le_refl 0⟩ (fun r5 u5 H locs hq hP hD hS => ?_)
          obtain ⟨hR, hF5, gr5⟩ := hq
          have hF := hF.tr hF5 (by decide)
          have hK_N4 := sp_fr sp_N4 hF5 (by decide) hK_N4
          refine z_ne F 47 dX9_readBoth_42 (by decide) rfl (fun c6 => ?_) (fun c6 => ?_)
          · refine lv_aload_n F.1 F.2.1 dX9_readBoth_47 rfl (lv_at hl 0 rfl) ?_
            refine a_getr F inX9 hP 51 2 tc_51 rfl rfl (by decide) q467 (fun _ h9 => h9) dX9_readBoth_48 ?_
            refine a_bp F (115 : Int32) dX9_readBoth_51 (by decide) ?_
            refine a_ic F (0 : Int32) dX9_readBoth_53 (by decide) ?_
            refine a_ic F (0 : Int32) dX9_readBoth_54 (by decide) ?_
            refine a_Vv F hml hl.1 hA hP hD hS (As := [.int (115 : Int32), .int (0 : Int32), .int (0 : Int32)]) (c_X8_add_47 l dC dI ad cA nF _ (115 : Int32) (0 : Int32) (0 : Int32) hR (by decide) (by decide)) (cs_RX9_48 (d := 1) F.2.2.1 (by decide)) tc_47 rfl rfl rfl rfl (Nat.le_of_ble_eq_true rfl) dX9_readBoth_55 ⟨Nat.le_refl 0, Nat.le_refl 0⟩ (fun u7 H locs hq hP hD hS => ?_)
            obtain ⟨hR, hF7⟩ := hq
            have hF := hF.tr hF7 (by decide)
            have hK_N4 := sp_fr sp_N4 hF7 (by decide) hK_N4
            refine a_iinc F (k := 2) (fun v8 => [(2, .int v8), (0, .ref (ad 51)), (1, .int p0)]) dX9_readBoth_58 hl rfl rfl (by decide) (by omega) (by decide) (fun _ => rfl) (fun v8 ls hv8 hl => ?_)
            refine lv_goto (tgt := 12) F.1 F.2.1 dX9_readBoth_61 (by decide) ?_
            exact ih12 v8 _ _ _ _ hR hF (by omega) hK_N4 (by omega) hP hD hS (lv_sub hl [1, 2, 0] rfl)
          · refine a_ic F (0 : Int32) dX9_readBoth_45 (by decide) ?_
            exact a_retz F hr hlocks hP hD hS dX9_readBoth_46 (Or.inl rfl) ⟨hR, hF, (by decide)⟩
  refine lv_aload_n F.1 F.2.1 dX9_readBoth_0 rfl (lv_at hl 0 rfl) ?_
  refine lv_iload_n F.1 F.2.1 dX9_readBoth_1 rfl (lv_at hl 1 rfl) ?_
  refine a_Vi F hml hl.1 hA hP hD hS (As := [.int p0]) (c_X9_readOne_51_d7 l dC dI ad cA nF _ p0 hR (by omega) hK_N4) (cs_RX9_52 (d := 10) F.2.2.1 (by decide)) tc_51 rfl rfl rfl rfl (Nat.le_of_ble_eq_true rfl) dX9_readBoth_2 ⟨Nat.le_refl 0, Nat.le_refl 0⟩ (fun r9 u9 H locs hq hP hD hS => ?_)
  obtain ⟨hR, hF9, gr9⟩ := hq
  have hF := hF.tr hF9 (by decide)
  have hK_N4 := sp_fr sp_N4 hF9 (by decide) hK_N4
  refine z_ne F 10 dX9_readBoth_5 (by decide) rfl (fun c10 => ?_) (fun c10 => ?_)
  · refine a_ic F (0 : Int32) dX9_readBoth_10 (by decide) ?_
    refine lv_istore_n (lv' := [(2, .int (0 : Int32)), (0, .ref (ad 51)), (1, .int p0)]) F.1 F.2.1 dX9_readBoth_11 rfl hl (by decide) rfl (fun ls hl => ?_)
    exact L12 22 (0 : Int32) _ _ _ _ hR hF (by decide) hK_N4 (by decide) hP hD hS (lv_sub hl [1, 2, 0] rfl)
  · refine a_ic F (0 : Int32) dX9_readBoth_8 (by decide) ?_
    exact a_retz F hr hlocks hP hD hS dX9_readBoth_9 (Or.inl rfl) ⟨hR, hF, (by decide)⟩
set_option maxHeartbeats 600000 in
set_option maxRecDepth 100000 in
theorem c_X9_readCond_51_d7 (l : Launch) (dC : Nat → ClassId) (dI : Nat → Nat → Nat) (ad : Nat → Nat) (cA : Nat → ClassId) (nF : Nat) (u0 : ac_U) (p0 : Int32) (hR : ac_R rg u0) (hp0 : (7 : Int) ≤ p0.toInt ∧ p0.toInt ≤ 7) (hK_N4 : nmI 11 12 u0) : ac_Mi l yX9_readCond (.code yX9_readCond cX9_readCond 3 (some .boolean) :: TB) 12 (dC, dI) vwCl (ac_ty cA) ad cA (TT nF) [.ref (ad 51), .int p0] u0 (fun (r : Int32) (u : ac_U) => ac_R rg u ∧ ac_Fr [(1, some 4), (1, some 5), (1, some 6), (1, some 8), (1, some 9), (1, some 10), (1, some 11), (47, some 3), (47, some 4), (48, none), (49, none), (50, none)] u0 u ∧ ((0 : Int) ≤ r.toInt ∧ r.toInt ≤ 1)) := by
  refine ac_Mi.of (cc := cX9_readCond) (maxL := 3) (ret := (some .boolean)) (by decide) rfl (Nat.le_of_ble_eq_true rfl) ?_
  intro p e s m below meth c A ls F hml hr hlocks hA hP hD hS hl
  have F : ac_X p s m [.ref (ad 51), .int p0].toArray c cX9_readCond RX9 TB (dC, dI) vwCl (ac_ty cA) := ⟨F.1, F.2.1, fun w h => F.2.2.1 w (List.mem_cons_of_mem _ h), F.2.2.2.1, F.2.2.2.2⟩
  have hl : lv_has ls 3 [(0, .ref (ad 51)), (1, .int p0)] := hl
  have hF : ac_Fr [(1, some 4), (1, some 5), (1, some 6), (1, some 8), (1, some 9), (1, some 10), (1, some 11), (47, some 3), (47, some 4), (48, none), (49, none), (50, none)] u0 u0 := ac_Fr.rf
  have L64 : ∀ (u : ac_U) (H : Heap) (locs : List Loc) (ls : Array Slot), ac_R rg u → ac_Fr [(1, some 4), (1, some 5), (1, some 6), (1, some 8), (1, some 9), (1, some 10), (1, some 11), (47, some 3), (47, some 4), (48, none), (49, none), (50, none)] u0 u → nmI 11 12 u → va_P (dC, dI) vwCl (ac_w ad cA (TT nF) u) H → va_D A (ac_w ad cA (TT nF) u) → va_S A s.heap H locs → lv_has ls 3 [] → W p l e (ac_rm 12) s m [.ref (ad 51), .int p0].toArray below meth c H locs 0 0 (MQ below (va_Qi (fun (r : Int32) (u : ac_U) => ac_R rg u ∧ ac_Fr [(1, some 4), (1, some 5), (1, some 6), (1, some 8), (1, some 9), (1, some 10), (1, some 11), (47, some 3), (47, some 4), (48, none), (49, none), (50, none)] u0 u ∧ ((0 : Int) ≤ r.toInt ∧ r.toInt ≤ 1)) (ac_B (dC, dI) vwCl (ac_ty cA) ad cA (TT nF) A) A) [.ref (ad 51), .int p0].toArray s 0 0 A) (F0 m 64 ls []) := by
    intro u H locs ls hR hF hK_N4 hP hD hS hl
    refine a_ic F (1 : Int32) dX9_readCond_64 (by decide) ?_
    exact a_retz F hr hlocks hP hD hS dX9_readCond_65 (Or.inr rfl) ⟨hR, hF, (by decide)⟩
  have L12 : ∀ (n12 : Nat) (x2 : Int32) (u : ac_U) (H : Heap) (locs : List Loc) (ls : Array Slot), ac_R rg u → ac_Fr [(1, some 4), (1, some 5), (1, some 6), (1, some 8), (1, some 9), (1, some 10), (1, some 11), (47, some 3), (47, some 4), (48, none), (49, none), (50, none)] u0 u → 20 - x2.toInt < (n12 : Int) → nmI 11 12 u → (0 : Int) ≤ x2.toInt ∧ x2.toInt ≤ 20 → va_P (dC, dI) vwCl (ac_w ad cA (TT nF) u) H → va_D A (ac_w ad cA (TT nF) u) → va_S A s.heap H locs → lv_has ls 3 [(0, .ref (ad 51)), (1, .int p0), (2, .int x2)] → W p l e (ac_rm 12) s m [.ref (ad 51), .int p0].toArray below meth c H locs 0 0 (MQ below (va_Qi (fun (r : Int32) (u : ac_U) => ac_R rg u ∧ ac_Fr [(1, some 4), (1, some 5), (1, some 6), (1, some 8), (1, some 9), (1, some 10), (1, some 11), (47, some 3), (47, some 4), (48, none), (49, none), (50, none)] u0 u ∧ ((0 : Int) ≤ r.toInt ∧ r.toInt ≤ 1)) (ac_B (dC, dI) vwCl (ac_ty cA) ad cA (TT nF) A) A) [.ref (ad 51), .int p0].toArray s 0 0 A) (F0 m 12 ls []) := by
    intro n12
    induction n12 with
    | zero => intro x2 u H locs ls hR hF hn12 hK_N4 f0 hP hD hS hl; exfalso; omega
    | succ n12 ih12 =>
      intro x2 u H locs ls hR hF hn12 hK_N4 f0 hP hD hS hl
      refine lv_iload_n F.1 F.2.1 dX9_readCond_12 rfl (lv_at hl 2 rfl) ?_
      refine a_bp F (20 : Int32) dX9_readCond_13 (by decide) ?_
      refine b_ge F 64 dX9_readCond_15 (by decide) rfl ic_20 (fun c1 => ?_) (fun c1 => ?_)
      · exact L64 _ _ _ _ hR hF hK_N4 hP hD hS (lv_sub hl [] rfl)
      · refine lv_aload_n F.1 F.2.1 dX9_readCond_18 rfl (lv_at hl 0 rfl) ?_
        refine a_getr F inX9 hP 51 0 tc_51 rfl rfl (by decide) q465 (fun _ h9 => h9) dX9_readCond_19 ?_
        have g2 : (-128 : Int) ≤ (u.1 1 6).toInt ∧ (u.1 1 6).toInt ≤ 127 := hR 1 6
        refine a_geti F inX10 hP 1 6 tc_1 rfl rfl (by decide) q103 (fun _ h9 => h9) (v := (u.1 1 6)) rfl dX9_readCond_22 ?_
        refine a_bp F (114 : Int32) dX9_readCond_25 (by decide) ?_
        refine b_ne F 64 dX9_readCond_27 (by decide) rfl ic_114 (fun c3 => ?_) (fun c3 => ?_)
        · exact L64 _ _ _ _ hR hF hK_N4 hP hD hS (lv_sub hl [] rfl)
        · refine lv_aload_n F.1 F.2.1 dX9_readCond_30 rfl (lv_at hl 0 rfl) ?_
          refine a_getr F inX9 hP 51 0 tc_51 rfl rfl (by decide) q465 (fun _ h9 => h9) dX9_readCond_31 ?_
          refine a_Vv F hml hl.1 hA hP hD hS (As := []) (c_X10_readNext_1 l dC dI ad cA nF _  hR) (cs_RX9_45 (d := 3) F.2.2.1 (by decide)) tc_1 rfl rfl rfl rfl (Nat.le_of_ble_eq_true rfl) dX9_readCond_34 ⟨Nat.le_refl 0, Nat.le_refl 0⟩ (fun u4 H locs hq hP hD hS => ?_)
          obtain ⟨hR, hF4⟩ := hq
          have hF := hF.tr hF4 (by decide)
          have hK_N4 := sp_fr sp_N4 hF4 (by decide) hK_N4
          refine lv_aload_n F.1 F.2.1 dX9_readCond_37 rfl (lv_at hl 0 rfl) ?_
          refine lv_iload_n F.1 F.2.1 dX9_readCond_38 rfl (lv_at hl 1 rfl) ?_
          refine a_Vi F hml hl.1 hA hP hD hS (As := [.int p0]) (c_X9_readBoth_51_d7 l dC dI ad cA nF _ p0 hR (by omega) hK_N4) (cs_RX9_42 (d := 11) F.2.2.1 (by decide)) tc_51 rfl rfl rfl rfl (Nat.le_of_ble_eq_true rfl) dX9_readCond_39 ⟨Nat.le_refl 0, Nat.le_refl 0⟩ (fun r5 u5 H locs hq hP hD hS => ?_)
          obtain ⟨hR, hF5, gr5⟩ := hq
          have hF := hF.tr hF5 (by decide)
          have hK_N4 := sp_fr sp_N4 hF5 (by decide) hK_N4
          refine z_ne F 47 dX9_readCond_42 (by decide) rfl (fun c6 => ?_) (fun c6 => ?_)
          · refine lv_aload_n F.1 F.2.1 dX9_readCond_47 rfl (lv_at hl 0 rfl) ?_
            refine a_getr F inX9 hP 51 2 tc_51 rfl rfl (by decide) q467 (fun _ h9 => h9) dX9_readCond_48 ?_
            refine a_bp F (114 : Int32) dX9_readCond_51 (by decide) ?_
            refine a_ic F (0 : Int32) dX9_readCond_53 (by decide) ?_
            refine a_ic F (0 : Int32) dX9_readCond_54 (by decide) ?_
            refine a_Vv F hml hl.1 hA hP hD hS (As := [.int (114 : Int32), .int (0 : Int32), .int (0 : Int32)]) (c_X8_add_47 l dC dI ad cA nF _ (114 : Int32) (0 : Int32) (0 : Int32) hR (by decide) (by decide)) (cs_RX9_48 (d := 1) F.2.2.1 (by decide)) tc_47 rfl rfl rfl rfl (Nat.le_of_ble_eq_true rfl) dX9_readCond_55 ⟨Nat.le_refl 0, Nat.le_refl 0⟩ (fun u7 H locs hq hP hD hS => ?_)
            obtain ⟨hR, hF7⟩ := hq
            have hF := hF.tr hF7 (by decide)
            have hK_N4 := sp_fr sp_N4 hF7 (by decide) hK_N4
            refine a_iinc F (k := 2) (fun v8 => [(2, .int v8), (0, .ref (ad 51)), (1, .int p0)]) dX9_readCond_58 hl rfl rfl (by decide) (by omega) (by decide) (fun _ => rfl) (fun v8 ls hv8 hl => ?_)
            refine lv_goto (tgt := 12) F.1 F.2.1 dX9_readCond_61 (by decide) ?_
            exact ih12 v8 _ _ _ _ hR hF (by omega) hK_N4 (by omega) hP hD hS (lv_sub hl [1, 2, 0] rfl)
          · refine a_ic F (0 : Int32) dX9_readCond_45 (by decide) ?_
            exact a_retz F hr hlocks hP hD hS dX9_readCond_46 (Or.inl rfl) ⟨hR, hF, (by decide)⟩
  refine lv_aload_n F.1 F.2.1 dX9_readCond_0 rfl (lv_at hl 0 rfl) ?_
  refine lv_iload_n F.1 F.2.1 dX9_readCond_1 rfl (lv_at hl 1 rfl) ?_
  refine a_Vi F hml hl.1 hA hP hD hS (As := [.int p0]) (c_X9_readBoth_51_d7 l dC dI ad cA nF _ p0 hR (by omega) hK_N4) (cs_RX9_42 (d := 11) F.2.2.1 (by decide)) tc_51 rfl rfl rfl rfl (Nat.le_of_ble_eq_true rfl) dX9_readCond_2 ⟨Nat.le_refl 0, Nat.le_refl 0⟩ (fun r9 u9 H locs hq hP hD hS => ?_)
  obtain ⟨hR, hF9, gr9⟩ := hq
  have hF := hF.tr hF9 (by decide)
  have hK_N4 := sp_fr sp_N4 hF9 (by decide) hK_N4
  refine z_ne F 10 dX9_readCond_5 (by decide) rfl (fun c10 => ?_) (fun c10 => ?_)
  · refine a_ic F (0 : Int32) dX9_readCond_10 (by decide) ?_
    refine lv_istore_n (lv' := [(2, .int (0 : Int32)), (0, .ref (ad 51)), (1, .int p0)]) F.1 F.2.1 dX9_readCond_11 rfl hl (by decide) rfl (fun ls hl => ?_)
    exact L12 22 (0 : Int32) _ _ _ _ hR hF (by decide) hK_N4 (by decide) hP hD hS (lv_sub hl [1, 2, 0] rfl)
  · refine a_ic F (0 : Int32) dX9_readCond_8 (by decide) ?_
    exact a_retz F hr hlocks hP hD hS dX9_readCond_9 (Or.inl rfl) ⟨hR, hF, (by decide)⟩
set_option maxHeartbeats 600000 in
set_option maxRecDepth 100000 in
theorem c_X9_readBracket_51_d6 (l : Launch) (dC : Nat → ClassId) (dI : Nat → Nat → Nat) (ad : Nat → Nat) (cA : Nat → ClassId) (nF : Nat) (u0 : ac_U) (p0 : Int32) (hR : ac_R rg u0) (hp0 : (6 : Int) ≤ p0.toInt ∧ p0.toInt ≤ 6) (hK_N4 : nmI 11 12 u0) : ac_Mi l yX9_readBracket (.code yX9_readBracket cX9_readBracket 2 (some .boolean) :: TB) 13 (dC, dI) vwCl (ac_ty cA) ad cA (TT nF) [.ref (ad 51), .int p0] u0 (fun (r : Int32) (u : ac_U) => ac_R rg u ∧ ac_Fr [(1, some 4), (1, some 5), (1, some 6), (1, some 8), (1, some 9), (1, some 10), (1, some 11), (47, some 3), (47, some 4), (48, none), (49, none), (50, none)] u0 u ∧ ((0 : Int) ≤ r.toInt ∧ r.toInt ≤ 1)) := by
  refine ac_Mi.of (cc := cX9_readBracket) (maxL := 2) (ret := (some .boolean)) (by decide) rfl (Nat.le_of_ble_eq_true rfl) ?_
  intro p e s m below meth c A ls F hml hr hlocks hA hP hD hS hl
  have F : ac_X p s m [.ref (ad 51), .int p0].toArray c cX9_readBracket RX9 TB (dC, dI) vwCl (ac_ty cA) := ⟨F.1, F.2.1, fun w h => F.2.2.1 w (List.mem_cons_of_mem _ h), F.2.2.2.1, F.2.2.2.2⟩
  have hl : lv_has ls 2 [(0, .ref (ad 51)), (1, .int p0)] := hl
  have hF : ac_Fr [(1, some 4), (1, some 5), (1, some 6), (1, some 8), (1, some 9), (1, some 10), (1, some 11), (47, some 3), (47, some 4), (48, none), (49, none), (50, none)] u0 u0 := ac_Fr.rf
  refine lv_aload_n F.1 F.2.1 dX9_readBracket_0 rfl (lv_at hl 0 rfl) ?_
  refine a_getr F inX9 hP 51 0 tc_51 rfl rfl (by decide) q465 (fun _ h9 => h9) dX9_readBracket_1 ?_
  refine a_Vv F hml hl.1 hA hP hD hS (As := []) (c_X10_readNext_1 l dC dI ad cA nF _  hR) (cs_RX9_45 (d := 3) F.2.2.1 (by decide)) tc_1 rfl rfl rfl rfl (Nat.le_of_ble_eq_true rfl) dX9_readBracket_4 ⟨Nat.le_refl 0, Nat.le_refl 0⟩ (fun u1 H locs hq hP hD hS => ?_)
  obtain ⟨hR, hF1⟩ := hq
  have hF := hF.tr hF1 (by decide)
  have hK_N4 := sp_fr sp_N4 hF1 (by decide) hK_N4
  refine lv_aload_n F.1 F.2.1 dX9_readBracket_7 rfl (lv_at hl 0 rfl) ?_
  refine lv_iload_n F.1 F.2.1 dX9_readBracket_8 rfl (lv_at hl 1 rfl) ?_
  refine a_ic F (1 : Int32) dX9_readBracket_9 (by decide) ?_
  refine a_iadd F dX9_readBracket_10 rfl ic_1 (by omega) (fun v2 hv2 => ?_)
  refine a_Vi F hml hl.1 hA hP hD hS (As := [.int v2]) (c_X9_readCond_51_d7 l dC dI ad cA nF _ v2 hR (by omega) hK_N4) (cs_RX9_74 (d := 12) F.2.2.1 (by decide)) tc_51 rfl rfl rfl rfl (Nat.le_of_ble_eq_true rfl) dX9_readBracket_11 ⟨Nat.le_refl 0, Nat.le_refl 0⟩ (fun r3 u3 H locs hq hP hD hS => ?_)
  obtain ⟨hR, hF3, gr3⟩ := hq
  have hF := hF.tr hF3 (by decide)
  have hK_N4 := sp_fr sp_N4 hF3 (by decide) hK_N4
  refine z_ne F 19 dX9_readBracket_14 (by decide) rfl (fun c4 => ?_) (fun c4 => ?_)
  · refine lv_aload_n F.1 F.2.1 dX9_readBracket_19 rfl (lv_at hl 0 rfl) ?_
    refine a_getr F inX9 hP 51 0 tc_51 rfl rfl (by decide) q465 (fun _ h9 => h9) dX9_readBracket_20 ?_
    have g5 : (-128 : Int) ≤ (u3.1 1 6).toInt ∧ (u3.1 1 6).toInt ≤ 127 := hR 1 6
    refine a_geti F inX10 hP 1 6 tc_1 rfl rfl (by decide) q103 (fun _ h9 => h9) (v := (u3.1 1 6)) rfl dX9_readBracket_23 ?_
    refine a_bp F (41 : Int32) dX9_readBracket_26 (by decide) ?_
    refine b_eq F 40 dX9_readBracket_28 (by decide) rfl ic_41 (fun c6 => ?_) (fun c6 => ?_)
    · refine lv_aload_n F.1 F.2.1 dX9_readBracket_40 rfl (lv_at hl 0 rfl) ?_
      refine a_getr F inX9 hP 51 0 tc_51 rfl rfl (by decide) q465 (fun _ h9 => h9) dX9_readBracket_41 ?_
      refine a_Vv F hml hl.1 hA hP hD hS (As := []) (c_X10_readNext_1 l dC dI ad cA nF _  hR) (cs_RX9_45 (d := 3) F.2.2.1 (by decide)) tc_1 rfl rfl rfl rfl (Nat.le_of_ble_eq_true rfl) dX9_readBracket_44 ⟨Nat.le_refl 0, Nat.le_refl 0⟩ (fun u7 H locs hq hP hD hS => ?_)
      obtain ⟨hR, hF7⟩ := hq
      have hF := hF.tr hF7 (by decide)
      have hK_N4 := sp_fr sp_N4 hF7 (by decide) hK_N4
      refine a_ic F (1 : Int32) dX9_readBracket_47 (by decide) ?_
      exact a_retz F hr hlocks hP hD hS dX9_readBracket_48 (Or.inr rfl) ⟨hR, hF, (by decide)⟩
    · refine lv_aload_n F.1 F.2.1 dX9_readBracket_31 rfl (lv_at hl 0 rfl) ?_
      refine a_getr F inX9 hP 51 0 tc_51 rfl rfl (by decide) q465 (fun _ h9 => h9) dX9_readBracket_32 ?_
      refine a_ic F (1 : Int32) dX9_readBracket_35 (by decide) ?_
      refine a_Vi F hml hl.1 hA hP hD hS (As := [.int (1 : Int32)]) (c_X10_fail_1 l dC dI ad cA nF _ (1 : Int32) hR (by decide)) (cs_RX9_38 (d := 1) F.2.2.1 (by decide)) tc_1 rfl rfl rfl rfl (Nat.le_of_ble_eq_true rfl) dX9_readBracket_36 ⟨Nat.le_refl 0, Nat.le_refl 0⟩ (fun r8 u8 H locs hq hP hD hS => ?_)
      obtain ⟨hR, hF8, gr8⟩ := hq
      have hF := hF.tr hF8 (by decide)
      have hK_N4 := sp_fr sp_N4 hF8 (by decide) hK_N4
      exact a_retz F hr hlocks hP hD hS dX9_readBracket_39 (i_01 (by omega)) ⟨hR, hF, (by omega : (0 : Int) ≤ r8.toInt ∧ r8.toInt ≤ 1)⟩
  · refine a_ic F (0 : Int32) dX9_readBracket_17 (by decide) ?_
    exact a_retz F hr hlocks hP hD hS dX9_readBracket_18 (Or.inl rfl) ⟨hR, hF, (by decide)⟩
set_option maxHeartbeats 600000 in
set_option maxRecDepth 100000 in
theorem c_X9_readNot_51_d6 (l : Launch) (dC : Nat → ClassId) (dI : Nat → Nat → Nat) (ad : Nat → Nat) (cA : Nat → ClassId) (nF : Nat) (u0 : ac_U) (p0 : Int32) (hR : ac_R rg u0) (hp0 : (6 : Int) ≤ p0.toInt ∧ p0.toInt ≤ 6) (hK_N4 : nmI 11 12 u0) : ac_Mi l yX9_readNot (.code yX9_readNot cX9_readNot 2 (some .boolean) :: TB) 11 (dC, dI) vwCl (ac_ty cA) ad cA (TT nF) [.ref (ad 51), .int p0] u0 (fun (r : Int32) (u : ac_U) => ac_R rg u ∧ ac_Fr [(1, some 4), (1, some 5), (1, some 6), (1, some 8), (1, some 9), (1, some 10), (1, some 11), (47, some 3), (47, some 4), (48, none), (49, none), (50, none)] u0 u ∧ ((0 : Int) ≤ r.toInt ∧ r.toInt ≤ 1)) := by
  refine ac_Mi.of (cc := cX9_readNot) (maxL := 2) (ret := (some .boolean)) (by decide) rfl (Nat.le_of_ble_eq_true rfl) ?_
  intro p e s m below meth c A ls F hml hr hlocks hA hP hD hS hl
  have F : ac_X p s m [.ref (ad 51), .int p0].toArray c cX9_readNot RX9 TB (dC, dI) vwCl (ac_ty cA) := ⟨F.1, F.2.1, fun w h => F.2.2.1 w (List.mem_cons_of_mem _ h), F.2.2.2.1, F.2.2.2.2⟩
  have hl : lv_has ls 2 [(0, .ref (ad 51)), (1, .int p0)] := hl
  have hF : ac_Fr [(1, some 4), (1, some 5), (1, some 6), (1, some 8), (1, some 9), (1, some 10), (1, some 11), (47, some 3), (47, some 4), (48, none), (49, none), (50, none)] u0 u0 := ac_Fr.rf
  refine lv_aload_n F.1 F.2.1 dX9_readNot_0 rfl (lv_at hl 0 rfl) ?_
  refine a_getr F inX9 hP 51 0 tc_51 rfl rfl (by decide) q465 (fun _ h9 => h9) dX9_readNot_1 ?_
  refine a_Vv F hml hl.1 hA hP hD hS (As := []) (c_X10_readNext_1 l dC dI ad cA nF _  hR) (cs_RX9_45 (d := 3) F.2.2.1 (by decide)) tc_1 rfl rfl rfl rfl (Nat.le_of_ble_eq_true rfl) dX9_readNot_4 ⟨Nat.le_refl 0, Nat.le_refl 0⟩ (fun u1 H locs hq hP hD hS => ?_)
  obtain ⟨hR, hF1⟩ := hq
  have hF := hF.tr hF1 (by decide)
  have hK_N4 := sp_fr sp_N4 hF1 (by decide) hK_N4
  refine lv_aload_n F.1 F.2.1 dX9_readNot_7 rfl (lv_at hl 0 rfl) ?_
  refine lv_iload_n F.1 F.2.1 dX9_readNot_8 rfl (lv_at hl 1 rfl) ?_
  refine a_ic F (1 : Int32) dX9_readNot_9 (by decide) ?_
  refine a_iadd F dX9_readNot_10 rfl ic_1 (by omega) (fun v2 hv2 => ?_)
  refine a_Vi F hml hl.1 hA hP hD hS (As := [.int v2]) (c_X9_readOne_51_d7 l dC dI ad cA nF _ v2 hR (by omega) hK_N4) (cs_RX9_52 (d := 10) F.2.2.1 (by decide)) tc_51 rfl rfl rfl rfl (Nat.le_of_ble_eq_true rfl) dX9_readNot_11 ⟨Nat.le_refl 0, Nat.le_refl 0⟩ (fun r3 u3 H locs hq hP hD hS => ?_)
  obtain ⟨hR, hF3, gr3⟩ := hq
  have hF := hF.tr hF3 (by decide)
  have hK_N4 := sp_fr sp_N4 hF3 (by decide) hK_N4
  refine z_ne F 19 dX9_readNot_14 (by decide) rfl (fun c4 => ?_) (fun c4 => ?_)
  · refine lv_aload_n F.1 F.2.1 dX9_readNot_19 rfl (lv_at hl 0 rfl) ?_
    refine a_getr F inX9 hP 51 2 tc_51 rfl rfl (by decide) q467 (fun _ h9 => h9) dX9_readNot_20 ?_
    refine a_bp F (116 : Int32) dX9_readNot_23 (by decide) ?_
    refine a_ic F (0 : Int32) dX9_readNot_25 (by decide) ?_
    refine a_ic F (0 : Int32) dX9_readNot_26 (by decide) ?_
    refine a_Vv F hml hl.1 hA hP hD hS (As := [.int (116 : Int32), .int (0 : Int32), .int (0 : Int32)]) (c_X8_add_47 l dC dI ad cA nF _ (116 : Int32) (0 : Int32) (0 : Int32) hR (by decide) (by decide)) (cs_RX9_48 (d := 1) F.2.2.1 (by decide)) tc_47 rfl rfl rfl rfl (Nat.le_of_ble_eq_true rfl) dX9_readNot_27 ⟨Nat.le_refl 0, Nat.le_refl 0⟩ (fun u5 H locs hq hP hD hS => ?_)
    obtain ⟨hR, hF5⟩ := hq
    have hF := hF.tr hF5 (by decide)
    have hK_N4 := sp_fr sp_N4 hF5 (by decide) hK_N4
    refine a_ic F (1 : Int32) dX9_readNot_30 (by decide) ?_
    exact a_retz F hr hlocks hP hD hS dX9_readNot_31 (Or.inr rfl) ⟨hR, hF, (by decide)⟩
  · refine a_ic F (0 : Int32) dX9_readNot_17 (by decide) ?_
    exact a_retz F hr hlocks hP hD hS dX9_readNot_18 (Or.inl rfl) ⟨hR, hF, (by decide)⟩
set_option maxHeartbeats 600000 in
set_option maxRecDepth 100000 in
theorem c_X9_readOne_51_d6 (l : Launch) (dC : Nat → ClassId) (dI : Nat → Nat → Nat) (ad : Nat → Nat) (cA : Nat → ClassId) (nF : Nat) (u0 : ac_U) (p0 : Int32) (hR : ac_R rg u0) (hp0 : (6 : Int) ≤ p0.toInt ∧ p0.toInt ≤ 6) (hK_N4 : nmI 11 12 u0) : ac_Mi l yX9_readOne (.code yX9_readOne cX9_readOne 3 (some .boolean) :: TB) 14 (dC, dI) vwCl (ac_ty cA) ad cA (TT nF) [.ref (ad 51), .int p0] u0 (fun (r : Int32) (u : ac_U) => ac_R rg u ∧ ac_Fr [(1, some 4), (1, some 5), (1, some 6), (1, some 8), (1, some 9), (1, some 10), (1, some 11), (47, some 3), (47, some 4), (48, none), (49, none), (50, none)] u0 u ∧ ((0 : Int) ≤ r.toInt ∧ r.toInt ≤ 1)) := by
  refine ac_Mi.of (cc := cX9_readOne) (maxL := 3) (ret := (some .boolean)) (by decide) rfl (Nat.le_of_ble_eq_true rfl) ?_
  intro p e s m below meth c A ls F hml hr hlocks hA hP hD hS hl
  have F : ac_X p s m [.ref (ad 51), .int p0].toArray c cX9_readOne RX9 TB (dC, dI) vwCl (ac_ty cA) := ⟨F.1, F.2.1, fun w h => F.2.2.1 w (List.mem_cons_of_mem _ h), F.2.2.2.1, F.2.2.2.2⟩
  have hl : lv_has ls 3 [(0, .ref (ad 51)), (1, .int p0)] := hl
  have hF : ac_Fr [(1, some 4), (1, some 5), (1, some 6), (1, some 8), (1, some 9), (1, some 10), (1, some 11), (47, some 3), (47, some 4), (48, none), (49, none), (50, none)] u0 u0 := ac_Fr.rf
  have L53 : ∀ (u : ac_U) (H : Heap) (locs : List Loc) (ls : Array Slot), ac_R rg u → ac_Fr [(1, some 4), (1, some 5), (1, some 6), (1, some 8), (1, some 9), (1, some 10), (1, some 11), (47, some 3), (47, some 4), (48, none), (49, none), (50, none)] u0 u → nmI 11 12 u → (40 : Int) ≤ (u.1 1 6).toInt ∧ (u.1 1 6).toInt ≤ 126 → (20 : Int) ≤ (u.1 47 4).toInt ∧ (u.1 47 4).toInt ≤ 20 → va_P (dC, dI) vwCl (ac_w ad cA (TT nF) u) H → va_D A (ac_w ad cA (TT nF) u) → va_S A s.heap H locs → lv_has ls 3 [(0, .ref (ad 51))] → W p l e (ac_rm 14) s m [.ref (ad 51), .int p0].toArray below meth c H locs 0 0 (MQ below (va_Qi (fun (r : Int32) (u : ac_U) => ac_R rg u ∧ ac_Fr [(1, some 4), (1, some 5), (1, some 6), (1, some 8), (1, some 9), (1, some 10), (1, some 11), (47, some 3), (47, some 4), (48, none), (49, none), (50, none)] u0 u ∧ ((0 : Int) ≤ r.toInt ∧ r.toInt ≤ 1)) (ac_B (dC, dI) vwCl (ac_ty cA) ad cA (TT nF) A) A) [.ref (ad 51), .int p0].toArray s 0 0 A) (F0 m 53 ls []) := by
    intro u H locs ls hR hF hK_N4 f0 f1 hP hD hS hl
    refine lv_aload_n F.1 F.2.1 dX9_readOne_53 rfl (lv_at hl 0 rfl) ?_
    refine a_getr F inX9 hP 51 0 tc_51 rfl rfl (by decide) q465 (fun _ h9 => h9) dX9_readOne_54 ?_
    refine a_ic F (4 : Int32) dX9_readOne_57 (by decide) ?_
    refine a_Vi F hml hl.1 hA hP hD hS (As := [.int (4 : Int32)]) (c_X10_fail_1 l dC dI ad cA nF _ (4 : Int32) hR (by decide)) (cs_RX9_38 (d := 1) F.2.2.1 (by decide)) tc_1 rfl rfl rfl rfl (Nat.le_of_ble_eq_true rfl) dX9_readOne_58 ⟨Nat.le_refl 0, Nat.le_refl 0⟩ (fun r1 u1 H locs hq hP hD hS => ?_)
    obtain ⟨hR, hF1, gr1⟩ := hq
    have hF := hF.tr hF1 (by decide)
    have hK_N4 := sp_fr sp_N4 hF1 (by decide) hK_N4
    exact a_retz F hr hlocks hP hD hS dX9_readOne_61 (i_01 (by omega)) ⟨hR, hF, (by omega : (0 : Int) ≤ r1.toInt ∧ r1.toInt ≤ 1)⟩
  have L35 : ∀ (x2 : Int32) (u : ac_U) (H : Heap) (locs : List Loc) (ls : Array Slot), ac_R rg u → ac_Fr [(1, some 4), (1, some 5), (1, some 6), (1, some 8), (1, some 9), (1, some 10), (1, some 11), (47, some 3), (47, some 4), (48, none), (49, none), (50, none)] u0 u → nmI 11 12 u → (40 : Int) ≤ x2.toInt ∧ x2.toInt ≤ 126 → (40 : Int) ≤ (u.1 1 6).toInt ∧ (u.1 1 6).toInt ≤ 126 → va_P (dC, dI) vwCl (ac_w ad cA (TT nF) u) H → va_D A (ac_w ad cA (TT nF) u) → va_S A s.heap H locs → lv_has ls 3 [(0, .ref (ad 51)), (1, .int p0), (2, .int x2)] → W p l e (ac_rm 14) s m [.ref (ad 51), .int p0].toArray below meth c H locs 0 0 (MQ below (va_Qi (fun (r : Int32) (u : ac_U) => ac_R rg u ∧ ac_Fr [(1, some 4), (1, some 5), (1, some 6), (1, some 8), (1, some 9), (1, some 10), (1, some 11), (47, some 3), (47, some 4), (48, none), (49, none), (50, none)] u0 u ∧ ((0 : Int) ≤ r.toInt ∧ r.toInt ≤ 1)) (ac_B (dC, dI) vwCl (ac_ty cA) ad cA (TT nF) A) A) [.ref (ad 51), .int p0].toArray s 0 0 A) (F0 m 35 ls []) := by
    intro x2 u H locs ls hR hF hK_N4 f0 f1 hP hD hS hl
    refine lv_aload_n F.1 F.2.1 dX9_readOne_35 rfl (lv_at hl 0 rfl) ?_
    refine a_getr F inX9 hP 51 2 tc_51 rfl rfl (by decide) q467 (fun _ h9 => h9) dX9_readOne_36 ?_
    have g2 : (0 : Int) ≤ (u.1 47 4).toInt ∧ (u.1 47 4).toInt ≤ 20 := hR 47 4
    refine a_geti F inX8 hP 47 4 tc_47 rfl rfl (by decide) q446 (fun _ h9 => h9) (v := (u.1 47 4)) rfl dX9_readOne_39 ?_
    refine a_bp F (20 : Int32) dX9_readOne_42 (by decide) ?_
    refine b_ge F 53 dX9_readOne_44 (by decide) rfl ic_20 (fun c3 => ?_) (fun c3 => ?_)
    · have g4 : (-128 : Int) ≤ (u.1 1 6).toInt ∧ (u.1 1 6).toInt ≤ 127 := hR 1 6
      exact L53 _ _ _ _ hR hF hK_N4 (by omega : (40 : Int) ≤ (u.1 1 6).toInt ∧ (u.1 1 6).toInt ≤ 126) (by omega : (20 : Int) ≤ (u.1 47 4).toInt ∧ (u.1 47 4).toInt ≤ 20) hP hD hS (lv_sub hl [0] rfl)
    · refine lv_iload_n F.1 F.2.1 dX9_readOne_47 rfl (lv_at hl 1 rfl) ?_
      refine a_bp F (8 : Int32) dX9_readOne_48 (by decide) ?_
      refine b_le F 62 dX9_readOne_50 (by decide) rfl ic_8 (fun c5 => ?_) (fun c5 => ?_)
      · refine lv_aload_n F.1 F.2.1 dX9_readOne_62 rfl (lv_at hl 0 rfl) ?_
        refine a_getr F inX9 hP 51 2 tc_51 rfl rfl (by decide) q467 (fun _ h9 => h9) dX9_readOne_63 ?_
        refine lv_dup F.1 F.2.1 dX9_readOne_66 rfl ?_
        refine a_geti F inX8 hP 47 4 tc_47 rfl rfl (by decide) q446 (fun _ h9 => h9) (v := (u.1 47 4)) (rfl) dX9_readOne_67 ?_
        refine a_ic F (1 : Int32) dX9_readOne_70 (by decide) ?_
        refine a_iadd F dX9_readOne_71 rfl ic_1 (by omega) (fun v6 hv6 => ?_)
        refine a_puti F inX8 tyX8 tyX8_ok nmX8 hP hD hS 47 4 tc_47 rfl rfl (by decide) q446 (fun _ h9 => h9) rfl (ty := .int) (tyX8_ok 4 (by decide)) rfl rfl dX9_readOne_72 (fun H locs hP hD hS => ?_)
        have hR := hR.si (c := 47) (k := 4) (v := v6) (by omega : (0 : Int) ≤ v6.toInt ∧ v6.toInt ≤ 20)
        have hF := hF.si (c := 47) (k := 4) (v := v6) rfl
        have hK_N4 := sp_sgD sp_N4 hD hK_N4 (by decide)
        refine lv_iload_n F.1 F.2.1 dX9_readOne_75 rfl (lv_at hl 2 rfl) ?_
        refine a_bp F (40 : Int32) dX9_readOne_76 (by decide) ?_
        refine b_ne F 87 dX9_readOne_78 (by decide) rfl ic_40 (fun c7 => ?_) (fun c7 => ?_)
        · refine lv_iload_n F.1 F.2.1 dX9_readOne_87 rfl (lv_at hl 2 rfl) ?_
          refine a_bp F (116 : Int32) dX9_readOne_88 (by decide) ?_
          refine b_ne F 99 dX9_readOne_90 (by decide) rfl ic_116 (fun c8 => ?_) (fun c8 => ?_)
          · refine lv_iload_n F.1 F.2.1 dX9_readOne_99 rfl (lv_at hl 2 rfl) ?_
            refine a_bp F (122 : Int32) dX9_readOne_100 (by decide) ?_
            refine b_ne F 110 dX9_readOne_102 (by decide) rfl ic_122 (fun c9 => ?_) (fun c9 => ?_)
            · refine lv_iload_n F.1 F.2.1 dX9_readOne_110 rfl (lv_at hl 2 rfl) ?_
              refine a_bp F (122 : Int32) dX9_readOne_111 (by decide) ?_
              refine b_le F 124 dX9_readOne_113 (by decide) rfl ic_122 (fun c10 => ?_) (fun c10 => ?_)
              · refine lv_aload_n F.1 F.2.1 dX9_readOne_124 rfl (lv_at hl 0 rfl) ?_
                refine lv_iload_n F.1 F.2.1 dX9_readOne_125 rfl (lv_at hl 2 rfl) ?_
                refine a_Vi F hml hl.1 hA hP hD hS (As := [.int x2]) (c_X9_readStatus_51 l dC dI ad cA nF _ x2 hR (by omega)) (cs_RX9_71 (d := 4) F.2.2.1 (by decide)) tc_51 rfl rfl rfl rfl (Nat.le_of_ble_eq_true rfl) dX9_readOne_126 ⟨Nat.le_refl 0, Nat.le_refl 0⟩ (fun r11 u11 H locs hq hP hD hS => ?_)
                obtain ⟨hR, hF11, gr11⟩ := hq
                have hF := hF.tr hF11 (by decide)
                have hK_N4 := sp_fr sp_N4 hF11 (by decide) hK_N4
                exact a_retz F hr hlocks hP hD hS dX9_readOne_129 (i_01 (by omega)) ⟨hR, hF, (by omega : (0 : Int) ≤ r11.toInt ∧ r11.toInt ≤ 1)⟩
              · refine lv_aload_n F.1 F.2.1 dX9_readOne_116 rfl (lv_at hl 0 rfl) ?_
                refine lv_iload_n F.1 F.2.1 dX9_readOne_117 rfl (lv_at hl 2 rfl) ?_
                refine a_Vi F hml hl.1 hA hP hD hS (As := [.int x2]) (c_X9_readCompare_51 l dC dI ad cA nF _ x2 hR (by omega)) (cs_RX9_68 (d := 4) F.2.2.1 (by decide)) tc_51 rfl rfl rfl rfl (Nat.le_of_ble_eq_true rfl) dX9_readOne_118 ⟨Nat.le_refl 0, Nat.le_refl 0⟩ (fun r12 u12 H locs hq hP hD hS => ?_)
                obtain ⟨hR, hF12, gr12⟩ := hq
                have hF := hF.tr hF12 (by decide)
                have hK_N4 := sp_fr sp_N4 hF12 (by decide) hK_N4
                refine lv_goto (tgt := 129) F.1 F.2.1 dX9_readOne_121 (by decide) ?_
                exact a_retz F hr hlocks hP hD hS dX9_readOne_129 (i_01 (by omega)) ⟨hR, hF, (by omega : (0 : Int) ≤ r12.toInt ∧ r12.toInt ≤ 1)⟩
            · refine lv_aload_n F.1 F.2.1 dX9_readOne_105 rfl (lv_at hl 0 rfl) ?_
              refine a_Vi F hml hl.1 hA hP hD hS (As := []) (c_X9_readOf_51 l dC dI ad cA nF _  hR hK_N4) (cs_RX9_64 (d := 4) F.2.2.1 (by decide)) tc_51 rfl rfl rfl rfl (Nat.le_of_ble_eq_true rfl) dX9_readOne_106 ⟨Nat.le_refl 0, Nat.le_refl 0⟩ (fun r13 u13 H locs hq hP hD hS => ?_)
              obtain ⟨hR, hF13, gr13⟩ := hq
              have hF := hF.tr hF13 (by decide)
              have hK_N4 := sp_fr sp_N4 hF13 (by decide) hK_N4
              exact a_retz F hr hlocks hP hD hS dX9_readOne_109 (i_01 (by omega)) ⟨hR, hF, (by omega : (0 : Int) ≤ r13.toInt ∧ r13.toInt ≤ 1)⟩
          · refine lv_aload_n F.1 F.2.1 dX9_readOne_93 rfl (lv_at hl 0 rfl) ?_
            refine lv_iload_n F.1 F.2.1 dX9_readOne_94 rfl (lv_at hl 1 rfl) ?_
            refine a_Vi F hml hl.1 hA hP hD hS (As := [.int p0]) (c_X9_readNot_51_d6 l dC dI ad cA nF _ p0 hR (by omega) hK_N4) (cs_RX9_61 (d := 11) F.2.2.1 (by decide)) tc_51 rfl rfl rfl rfl (Nat.le_of_ble_eq_true rfl) dX9_readOne_95 ⟨Nat.le_refl 0, Nat.le_refl 0⟩ (fun r14 u14 H locs hq hP hD hS => ?_)
            obtain ⟨hR, hF14, gr14⟩ := hq
            have hF := hF.tr hF14 (by decide)
            have hK_N4 := sp_fr sp_N4 hF14 (by decide) hK_N4
            exact a_retz F hr hlocks hP hD hS dX9_readOne_98 (i_01 (by omega)) ⟨hR, hF, (by omega : (0 : Int) ≤ r14.toInt ∧ r14.toInt ≤ 1)⟩
        · refine lv_aload_n F.1 F.2.1 dX9_readOne_81 rfl (lv_at hl 0 rfl) ?_
          refine lv_iload_n F.1 F.2.1 dX9_readOne_82 rfl (lv_at hl 1 rfl) ?_
          refine a_Vi F hml hl.1 hA hP hD hS (As := [.int p0]) (c_X9_readBracket_51_d6 l dC dI ad cA nF _ p0 hR (by omega) hK_N4) (cs_RX9_58 (d := 13) F.2.2.1 (by decide)) tc_51 rfl rfl rfl rfl (Nat.le_of_ble_eq_true rfl) dX9_readOne_83 ⟨Nat.le_refl 0, Nat.le_refl 0⟩ (fun r15 u15 H locs hq hP hD hS => ?_)
          obtain ⟨hR, hF15, gr15⟩ := hq
          have hF := hF.tr hF15 (by decide)
          have hK_N4 := sp_fr sp_N4 hF15 (by decide) hK_N4
          exact a_retz F hr hlocks hP hD hS dX9_readOne_86 (i_01 (by omega)) ⟨hR, hF, (by omega : (0 : Int) ≤ r15.toInt ∧ r15.toInt ≤ 1)⟩
      · exfalso; omega
  have L26 : ∀ (u : ac_U) (H : Heap) (locs : List Loc) (ls : Array Slot), ac_R rg u → ac_Fr [(1, some 4), (1, some 5), (1, some 6), (1, some 8), (1, some 9), (1, some 10), (1, some 11), (47, some 3), (47, some 4), (48, none), (49, none), (50, none)] u0 u → nmI 11 12 u → (-128 : Int) ≤ (u.1 1 6).toInt ∧ (u.1 1 6).toInt ≤ 127 → va_P (dC, dI) vwCl (ac_w ad cA (TT nF) u) H → va_D A (ac_w ad cA (TT nF) u) → va_S A s.heap H locs → lv_has ls 3 [(0, .ref (ad 51))] → W p l e (ac_rm 14) s m [.ref (ad 51), .int p0].toArray below meth c H locs 0 0 (MQ below (va_Qi (fun (r : Int32) (u : ac_U) => ac_R rg u ∧ ac_Fr [(1, some 4), (1, some 5), (1, some 6), (1, some 8), (1, some 9), (1, some 10), (1, some 11), (47, some 3), (47, some 4), (48, none), (49, none), (50, none)] u0 u ∧ ((0 : Int) ≤ r.toInt ∧ r.toInt ≤ 1)) (ac_B (dC, dI) vwCl (ac_ty cA) ad cA (TT nF) A) A) [.ref (ad 51), .int p0].toArray s 0 0 A) (F0 m 26 ls []) := by
    intro u H locs ls hR hF hK_N4 f0 hP hD hS hl
    refine lv_aload_n F.1 F.2.1 dX9_readOne_26 rfl (lv_at hl 0 rfl) ?_
    refine a_getr F inX9 hP 51 0 tc_51 rfl rfl (by decide) q465 (fun _ h9 => h9) dX9_readOne_27 ?_
    refine a_ic F (1 : Int32) dX9_readOne_30 (by decide) ?_
    refine a_Vi F hml hl.1 hA hP hD hS (As := [.int (1 : Int32)]) (c_X10_fail_1 l dC dI ad cA nF _ (1 : Int32) hR (by decide)) (cs_RX9_38 (d := 1) F.2.2.1 (by decide)) tc_1 rfl rfl rfl rfl (Nat.le_of_ble_eq_true rfl) dX9_readOne_31 ⟨Nat.le_refl 0, Nat.le_refl 0⟩ (fun r16 u16 H locs hq hP hD hS => ?_)
    obtain ⟨hR, hF16, gr16⟩ := hq
    have hF := hF.tr hF16 (by decide)
    have hK_N4 := sp_fr sp_N4 hF16 (by decide) hK_N4
    exact a_retz F hr hlocks hP hD hS dX9_readOne_34 (i_01 (by omega)) ⟨hR, hF, (by omega : (0 : Int) ≤ r16.toInt ∧ r16.toInt ≤ 1)⟩
  refine lv_aload_n F.1 F.2.1 dX9_readOne_0 rfl (lv_at hl 0 rfl) ?_
  refine a_getr F inX9 hP 51 0 tc_51 rfl rfl (by decide) q465 (fun _ h9 => h9) dX9_readOne_1 ?_
  have g17 : (-128 : Int) ≤ (u0.1 1 6).toInt ∧ (u0.1 1 6).toInt ≤ 127 := hR 1 6
  refine a_geti F inX10 hP 1 6 tc_1 rfl rfl (by decide) q103 (fun _ h9 => h9) (v := (u0.1 1 6)) rfl dX9_readOne_4 ?_
  refine lv_istore_n (lv' := [(2, .int (u0.1 1 6)), (0, .ref (ad 51)), (1, .int p0)]) F.1 F.2.1 dX9_readOne_7 rfl hl (by decide) rfl (fun ls hl => ?_)
  refine lv_iload_n F.1 F.2.1 dX9_readOne_8 rfl (lv_at hl 0 rfl) ?_
  refine a_bp F (40 : Int32) dX9_readOne_9 (by decide) ?_
  refine b_eq F 35 dX9_readOne_11 (by decide) rfl ic_40 (fun c18 => ?_) (fun c18 => ?_)
  · exact L35 (u0.1 1 6) _ _ _ _ hR hF hK_N4 (by omega) (by omega : (40 : Int) ≤ (u0.1 1 6).toInt ∧ (u0.1 1 6).toInt ≤ 126) hP hD hS (lv_sub hl [1, 2, 0] rfl)
  · refine lv_iload_n F.1 F.2.1 dX9_readOne_14 rfl (lv_at hl 0 rfl) ?_
    refine a_bp F (116 : Int32) dX9_readOne_15 (by decide) ?_
    refine b_lt F 26 dX9_readOne_17 (by decide) rfl ic_116 (fun c19 => ?_) (fun c19 => ?_)
    · exact L26 _ _ _ _ hR hF hK_N4 (by omega : (-128 : Int) ≤ (u0.1 1 6).toInt ∧ (u0.1 1 6).toInt ≤ 127) hP hD hS (lv_sub hl [1] rfl)
    · refine lv_iload_n F.1 F.2.1 dX9_readOne_20 rfl (lv_at hl 0 rfl) ?_
      refine a_bp F (126 : Int32) dX9_readOne_21 (by decide) ?_
      refine b_le F 35 dX9_readOne_23 (by decide) rfl ic_126 (fun c20 => ?_) (fun c20 => ?_)
      · exact L35 (u0.1 1 6) _ _ _ _ hR hF hK_N4 (by omega) (by omega : (40 : Int) ≤ (u0.1 1 6).toInt ∧ (u0.1 1 6).toInt ≤ 126) hP hD hS (lv_sub hl [1, 2, 0] rfl)
      · exact L26 _ _ _ _ hR hF hK_N4 (by omega : (-128 : Int) ≤ (u0.1 1 6).toInt ∧ (u0.1 1 6).toInt ≤ 127) hP hD hS (lv_sub hl [1] rfl)
set_option maxHeartbeats 600000 in
set_option maxRecDepth 100000 in
theorem c_X9_readBoth_51_d6 (l : Launch) (dC : Nat → ClassId) (dI : Nat → Nat → Nat) (ad : Nat → Nat) (cA : Nat → ClassId) (nF : Nat) (u0 : ac_U) (p0 : Int32) (hR : ac_R rg u0) (hp0 : (6 : Int) ≤ p0.toInt ∧ p0.toInt ≤ 6) (hK_N4 : nmI 11 12 u0) : ac_Mi l yX9_readBoth (.code yX9_readBoth cX9_readBoth 3 (some .boolean) :: TB) 15 (dC, dI) vwCl (ac_ty cA) ad cA (TT nF) [.ref (ad 51), .int p0] u0 (fun (r : Int32) (u : ac_U) => ac_R rg u ∧ ac_Fr [(1, some 4), (1, some 5), (1, some 6), (1, some 8), (1, some 9), (1, some 10), (1, some 11), (47, some 3), (47, some 4), (48, none), (49, none), (50, none)] u0 u ∧ ((0 : Int) ≤ r.toInt ∧ r.toInt ≤ 1)) := by
  refine ac_Mi.of (cc := cX9_readBoth) (maxL := 3) (ret := (some .boolean)) (by decide) rfl (Nat.le_of_ble_eq_true rfl) ?_
  intro p e s m below meth c A ls F hml hr hlocks hA hP hD hS hl
  have F : ac_X p s m [.ref (ad 51), .int p0].toArray c cX9_readBoth RX9 TB (dC, dI) vwCl (ac_ty cA) := ⟨F.1, F.2.1, fun w h => F.2.2.1 w (List.mem_cons_of_mem _ h), F.2.2.2.1, F.2.2.2.2⟩
  have hl : lv_has ls 3 [(0, .ref (ad 51)), (1, .int p0)] := hl
  have hF : ac_Fr [(1, some 4), (1, some 5), (1, some 6), (1, some 8), (1, some 9), (1, some 10), (1, some 11), (47, some 3), (47, some 4), (48, none), (49, none), (50, none)] u0 u0 := ac_Fr.rf
  have L64 : ∀ (u : ac_U) (H : Heap) (locs : List Loc) (ls : Array Slot), ac_R rg u → ac_Fr [(1, some 4), (1, some 5), (1, some 6), (1, some 8), (1, some 9), (1, some 10), (1, some 11), (47, some 3), (47, some 4), (48, none), (49, none), (50, none)] u0 u → nmI 11 12 u → va_P (dC, dI) vwCl (ac_w ad cA (TT nF) u) H → va_D A (ac_w ad cA (TT nF) u) → va_S A s.heap H locs → lv_has ls 3 [] → W p l e (ac_rm 15) s m [.ref (ad 51), .int p0].toArray below meth c H locs 0 0 (MQ below (va_Qi (fun (r : Int32) (u : ac_U) => ac_R rg u ∧ ac_Fr [(1, some 4), (1, some 5), (1, some 6), (1, some 8), (1, some 9), (1, some 10), (1, some 11), (47, some 3), (47, some 4), (48, none), (49, none), (50, none)] u0 u ∧ ((0 : Int) ≤ r.toInt ∧ r.toInt ≤ 1)) (ac_B (dC, dI) vwCl (ac_ty cA) ad cA (TT nF) A) A) [.ref (ad 51), .int p0].toArray s 0 0 A) (F0 m 64 ls []) := by
    intro u H locs ls hR hF hK_N4 hP hD hS hl
    refine a_ic F (1 : Int32) dX9_readBoth_64 (by decide) ?_
    exact a_retz F hr hlocks hP hD hS dX9_readBoth_65 (Or.inr rfl) ⟨hR, hF, (by decide)⟩
  have L12 : ∀ (n12 : Nat) (x2 : Int32) (u : ac_U) (H : Heap) (locs : List Loc) (ls : Array Slot), ac_R rg u → ac_Fr [(1, some 4), (1, some 5), (1, some 6), (1, some 8), (1, some 9), (1, some 10), (1, some 11), (47, some 3), (47, some 4), (48, none), (49, none), (50, none)] u0 u → 20 - x2.toInt < (n12 : Int) → nmI 11 12 u → (0 : Int) ≤ x2.toInt ∧ x2.toInt ≤ 20 → va_P (dC, dI) vwCl (ac_w ad cA (TT nF) u) H → va_D A (ac_w ad cA (TT nF) u) → va_S A s.heap H locs → lv_has ls 3 [(0, .ref (ad 51)), (1, .int p0), (2, .int x2)] → W p l e (ac_rm 15) s m [.ref (ad 51), .int p0].toArray below meth c H locs 0 0 (MQ below (va_Qi (fun (r : Int32) (u : ac_U) => ac_R rg u ∧ ac_Fr [(1, some 4), (1, some 5), (1, some 6), (1, some 8), (1, some 9), (1, some 10), (1, some 11), (47, some 3), (47, some 4), (48, none), (49, none), (50, none)] u0 u ∧ ((0 : Int) ≤ r.toInt ∧ r.toInt ≤ 1)) (ac_B (dC, dI) vwCl (ac_ty cA) ad cA (TT nF) A) A) [.ref (ad 51), .int p0].toArray s 0 0 A) (F0 m 12 ls []) := by
    intro n12
    induction n12 with
    | zero => intro x2 u H locs ls hR hF hn12 hK_N4 f0 hP hD hS hl; exfalso; omega
    | succ n12 ih12 =>
      intro x2 u H locs ls hR hF hn12 hK_N4 f0 hP hD hS hl
      refine lv_iload_n F.1 F.2.1 dX9_readBoth_12 rfl (lv_at hl 2 rfl) ?_
      refine a_bp F (20 : Int32) dX9_readBoth_13 (by decide) ?_
      refine b_ge F 64 dX9_readBoth_15 (by decide) rfl ic_20 (fun c1 => ?_) (fun c1 => ?_)
      · exact L64 _ _ _ _ hR hF hK_N4 hP hD hS (lv_sub hl [] rfl)
      · refine lv_aload_n F.1 F.2.1 dX9_readBoth_18 rfl (lv_at hl 0 rfl) ?_
        refine a_getr F inX9 hP 51 0 tc_51 rfl rfl (by decide) q465 (fun _ h9 => h9) dX9_readBoth_19 ?_
        have g2 : (-128 : Int) ≤ (u.1 1 6).toInt ∧ (u.1 1 6).toInt ≤ 127 := hR 1 6
        refine a_geti F inX10 hP 1 6 tc_1 rfl rfl (by decide) q103 (fun _ h9 => h9) (v := (u.1 1 6)) rfl dX9_readBoth_22 ?_
        refine a_bp F (115 : Int32) dX9_readBoth_25 (by decide) ?_
        refine b_ne F 64 dX9_readBoth_27 (by decide) rfl ic_115 (fun c3 => ?_) (fun c3 => ?_)
        · exact L64 _ _ _ _ hR hF hK_N4 hP hD hS (lv_sub hl [] rfl)
        · refine lv_aload_n F.1 F.2.1 dX9_readBoth_30 rfl (lv_at hl 0 rfl) ?_
          refine a_getr F inX9 hP 51 0 tc_51 rfl rfl (by decide) q465 (fun _ h9 => h9) dX9_readBoth_31 ?_
          refine a_Vv F hml hl.1 hA hP hD hS (As := []) (c_X10_readNext_1 l dC dI ad cA nF _  hR) (cs_RX9_45 (d := 3) F.2.2.1 (by decide)) tc_1 rfl rfl rfl rfl (Nat.le_of_ble_eq_true rfl) dX9_readBoth_34 ⟨Nat.le_refl 0, Nat.le_refl 0⟩ (fun u4 H locs hq hP hD hS => ?_)
          obtain ⟨hR, hF4⟩ := hq
          have hF := hF.tr hF4 (by decide)
          have hK_N4 := sp_fr sp_N4 hF4 (by decide) hK_N4
          refine lv_aload_n F.1 F.2.1 dX9_readBoth_37 rfl (lv_at hl 0 rfl) ?_
          refine lv_iload_n F.1 F.2.1 dX9_readBoth_38 rfl (lv_at hl 1 rfl) ?_
          refine a_Vi F hml hl.1 hA hP hD hS (As := [.int p0]) (c_X9_readOne_51_d6 l dC dI ad cA nF _ p0 hR (by omega) hK_N4) (cs_RX9_52 (d := 14) F.2.2.1 (by decide)) tc_51 rfl rfl rfl rfl (Nat.le_of_ble_eq_true rfl) dX9_readBoth_39 ⟨Nat.le_refl 0, Nat.le_refl 0⟩ (fun r5 u5 H locs hq hP hD hS => ?_)
          obtain ⟨hR, hF5, gr5⟩ := hq
          have hF := hF.tr hF5 (by decide)
          have hK_N4 := sp_fr sp_N4 hF5 (by decide) hK_N4
          refine z_ne F 47 dX9_readBoth_42 (by decide) rfl (fun c6 => ?_) (fun c6 => ?_)
          · refine lv_aload_n F.1 F.2.1 dX9_readBoth_47 rfl (lv_at hl 0 rfl) ?_
            refine a_getr F inX9 hP 51 2 tc_51 rfl rfl (by decide) q467 (fun _ h9 => h9) dX9_readBoth_48 ?_
            refine a_bp F (115 : Int32) dX9_readBoth_51 (by decide) ?_
            refine a_ic F (0 : Int32) dX9_readBoth_53 (by decide) ?_
            refine a_ic F (0 : Int32) dX9_readBoth_54 (by decide) ?_
            refine a_Vv F hml hl.1 hA hP hD hS (As := [.int (115 : Int32), .int (0 : Int32), .int (0 : Int32)]) (c_X8_add_47 l dC dI ad cA nF _ (115 : Int32) (0 : Int32) (0 : Int32) hR (by decide) (by decide)) (cs_RX9_48 (d := 1) F.2.2.1 (by decide)) tc_47 rfl rfl rfl rfl (Nat.le_of_ble_eq_true rfl) dX9_readBoth_55 ⟨Nat.le_refl 0, Nat.le_refl 0⟩ (fun u7 H locs hq hP hD hS => ?_)
            obtain ⟨hR, hF7⟩ := hq
            have hF := hF.tr hF7 (by decide)
            have hK_N4 := sp_fr sp_N4 hF7 (by decide) hK_N4
            refine a_iinc F (k := 2) (fun v8 => [(2, .int v8), (0, .ref (ad 51)), (1, .int p0)]) dX9_readBoth_58 hl rfl rfl (by decide) (by omega) (by decide) (fun _ => rfl) (fun v8 ls hv8 hl => ?_)
            refine lv_goto (tgt := 12) F.1 F.2.1 dX9_readBoth_61 (by decide) ?_
            exact ih12 v8 _ _ _ _ hR hF (by omega) hK_N4 (by omega) hP hD hS (lv_sub hl [1, 2, 0] rfl)
          · refine a_ic F (0 : Int32) dX9_readBoth_45 (by decide) ?_
            exact a_retz F hr hlocks hP hD hS dX9_readBoth_46 (Or.inl rfl) ⟨hR, hF, (by decide)⟩
  refine lv_aload_n F.1 F.2.1 dX9_readBoth_0 rfl (lv_at hl 0 rfl) ?_
  refine lv_iload_n F.1 F.2.1 dX9_readBoth_1 rfl (lv_at hl 1 rfl) ?_
  refine a_Vi F hml hl.1 hA hP hD hS (As := [.int p0]) (c_X9_readOne_51_d6 l dC dI ad cA nF _ p0 hR (by omega) hK_N4) (cs_RX9_52 (d := 14) F.2.2.1 (by decide)) tc_51 rfl rfl rfl rfl (Nat.le_of_ble_eq_true rfl) dX9_readBoth_2 ⟨Nat.le_refl 0, Nat.le_refl 0⟩ (fun r9 u9 H locs hq hP hD hS => ?_)
  obtain ⟨hR, hF9, gr9⟩ := hq
  have hF := hF.tr hF9 (by decide)
  have hK_N4 := sp_fr sp_N4 hF9 (by decide) hK_N4
  refine z_ne F 10 dX9_readBoth_5 (by decide) rfl (fun c10 => ?_) (fun c10 => ?_)
  · refine a_ic F (0 : Int32) dX9_readBoth_10 (by decide) ?_
    refine lv_istore_n (lv' := [(2, .int (0 : Int32)), (0, .ref (ad 51)), (1, .int p0)]) F.1 F.2.1 dX9_readBoth_11 rfl hl (by decide) rfl (fun ls hl => ?_)
    exact L12 22 (0 : Int32) _ _ _ _ hR hF (by decide) hK_N4 (by decide) hP hD hS (lv_sub hl [1, 2, 0] rfl)
  · refine a_ic F (0 : Int32) dX9_readBoth_8 (by decide) ?_
    exact a_retz F hr hlocks hP hD hS dX9_readBoth_9 (Or.inl rfl) ⟨hR, hF, (by decide)⟩
set_option maxHeartbeats 600000 in
set_option maxRecDepth 100000 in
theorem c_X9_readCond_51_d6 (l : Launch) (dC : Nat → ClassId) (dI : Nat → Nat → Nat) (ad : Nat → Nat) (cA : Nat → ClassId) (nF : Nat) (u0 : ac_U) (p0 : Int32) (hR : ac_R rg u0) (hp0 : (6 : Int) ≤ p0.toInt ∧ p0.toInt ≤ 6) (hK_N4 : nmI 11 12 u0) : ac_Mi l yX9_readCond (.code yX9_readCond cX9_readCond 3 (some .boolean) :: TB) 16 (dC, dI) vwCl (ac_ty cA) ad cA (TT nF) [.ref (ad 51), .int p0] u0 (fun (r : Int32) (u : ac_U) => ac_R rg u ∧ ac_Fr [(1, some 4), (1, some 5), (1, some 6), (1, some 8), (1, some 9), (1, some 10), (1, some 11), (47, some 3), (47, some 4), (48, none), (49, none), (50, none)] u0 u ∧ ((0 : Int) ≤ r.toInt ∧ r.toInt ≤ 1)) := by
  refine ac_Mi.of (cc := cX9_readCond) (maxL := 3) (ret := (some .boolean)) (by decide) rfl (Nat.le_of_ble_eq_true rfl) ?_
  intro p e s m below meth c A ls F hml hr hlocks hA hP hD hS hl
  have F : ac_X p s m [.ref (ad 51), .int p0].toArray c cX9_readCond RX9 TB (dC, dI) vwCl (ac_ty cA) := ⟨F.1, F.2.1, fun w h => F.2.2.1 w (List.mem_cons_of_mem _ h), F.2.2.2.1, F.2.2.2.2⟩
  have hl : lv_has ls 3 [(0, .ref (ad 51)), (1, .int p0)] := hl
  have hF : ac_Fr [(1, some 4), (1, some 5), (1, some 6), (1, some 8), (1, some 9), (1, some 10), (1, some 11), (47, some 3), (47, some 4), (48, none), (49, none), (50, none)] u0 u0 := ac_Fr.rf
  have L64 : ∀ (u : ac_U) (H : Heap) (locs : List Loc) (ls : Array Slot), ac_R rg u → ac_Fr [(1, some 4), (1, some 5), (1, some 6), (1, some 8), (1, some 9), (1, some 10), (1, some 11), (47, some 3), (47, some 4), (48, none), (49, none), (50, none)] u0 u → nmI 11 12 u → va_P (dC, dI) vwCl (ac_w ad cA (TT nF) u) H → va_D A (ac_w ad cA (TT nF) u) → va_S A s.heap H locs → lv_has ls 3 [] → W p l e (ac_rm 16) s m [.ref (ad 51), .int p0].toArray below meth c H locs 0 0 (MQ below (va_Qi (fun (r : Int32) (u : ac_U) => ac_R rg u ∧ ac_Fr [(1, some 4), (1, some 5), (1, some 6), (1, some 8), (1, some 9), (1, some 10), (1, some 11), (47, some 3), (47, some 4), (48, none), (49, none), (50, none)] u0 u ∧ ((0 : Int) ≤ r.toInt ∧ r.toInt ≤ 1)) (ac_B (dC, dI) vwCl (ac_ty cA) ad cA (TT nF) A) A) [.ref (ad 51), .int p0].toArray s 0 0 A) (F0 m 64 ls []) := by
    intro u H locs ls hR hF hK_N4 hP hD hS hl
    refine a_ic F (1 : Int32) dX9_readCond_64 (by decide) ?_
    exact a_retz F hr hlocks hP hD hS dX9_readCond_65 (Or.inr rfl) ⟨hR, hF, (by decide)⟩
  have L12 : ∀ (n12 : Nat) (x2 : Int32) (u : ac_U) (H : Heap) (locs : List Loc) (ls : Array Slot), ac_R rg u → ac_Fr [(1, some 4), (1, some 5), (1, some 6), (1, some 8), (1, some 9), (1, some 10), (1, some 11), (47, some 3), (47, some 4), (48, none), (49, none), (50, none)] u0 u → 20 - x2.toInt < (n12 : Int) → nmI 11 12 u → (0 : Int) ≤ x2.toInt ∧ x2.toInt ≤ 20 → va_P (dC, dI) vwCl (ac_w ad cA (TT nF) u) H → va_D A (ac_w ad cA (TT nF) u) → va_S A s.heap H locs → lv_has ls 3 [(0, .ref (ad 51)), (1, .int p0), (2, .int x2)] → W p l e (ac_rm 16) s m [.ref (ad 51), .int p0].toArray below meth c H locs 0 0 (MQ below (va_Qi (fun (r : Int32) (u : ac_U) => ac_R rg u ∧ ac_Fr [(1, some 4), (1, some 5), (1, some 6), (1, some 8), (1, some 9), (1, some 10), (1, some 11), (47, some 3), (47, some 4), (48, none), (49, none), (50, none)] u0 u ∧ ((0 : Int) ≤ r.toInt ∧ r.toInt ≤ 1)) (ac_B (dC, dI) vwCl (ac_ty cA) ad cA (TT nF) A) A) [.ref (ad 51), .int p0].toArray s 0 0 A) (F0 m 12 ls []) := by
    intro n12
    induction n12 with
    | zero => intro x2 u H locs ls hR hF hn12 hK_N4 f0 hP hD hS hl; exfalso; omega
    | succ n12 ih12 =>
      intro x2 u H locs ls hR hF hn12 hK_N4 f0 hP hD hS hl
      refine lv_iload_n F.1 F.2.1 dX9_readCond_12 rfl (lv_at hl 2 rfl) ?_
      refine a_bp F (20 : Int32) dX9_readCond_13 (by decide) ?_
      refine b_ge F 64 dX9_readCond_15 (by decide) rfl ic_20 (fun c1 => ?_) (fun c1 => ?_)
      · exact L64 _ _ _ _ hR hF hK_N4 hP hD hS (lv_sub hl [] rfl)
      · refine lv_aload_n F.1 F.2.1 dX9_readCond_18 rfl (lv_at hl 0 rfl) ?_
        refine a_getr F inX9 hP 51 0 tc_51 rfl rfl (by decide) q465 (fun _ h9 => h9) dX9_readCond_19 ?_
        have g2 : (-128 : Int) ≤ (u.1 1 6).toInt ∧ (u.1 1 6).toInt ≤ 127 := hR 1 6
        refine a_geti F inX10 hP 1 6 tc_1 rfl rfl (by decide) q103 (fun _ h9 => h9) (v := (u.1 1 6)) rfl dX9_readCond_22 ?_
        refine a_bp F (114 : Int32) dX9_readCond_25 (by decide) ?_
        refine b_ne F 64 dX9_readCond_27 (by decide) rfl ic_114 (fun c3 => ?_) (fun c3 => ?_)
        · exact L64 _ _ _ _ hR hF hK_N4 hP hD hS (lv_sub hl [] rfl)
        · refine lv_aload_n F.1 F.2.1 dX9_readCond_30 rfl (lv_at hl 0 rfl) ?_
          refine a_getr F inX9 hP 51 0 tc_51 rfl rfl (by decide) q465 (fun _ h9 => h9) dX9_readCond_31 ?_
          refine a_Vv F hml hl.1 hA hP hD hS (As := []) (c_X10_readNext_1 l dC dI ad cA nF _  hR) (cs_RX9_45 (d := 3) F.2.2.1 (by decide)) tc_1 rfl rfl rfl rfl (Nat.le_of_ble_eq_true rfl) dX9_readCond_34 ⟨Nat.le_refl 0, Nat.le_refl 0⟩ (fun u4 H locs hq hP hD hS => ?_)
          obtain ⟨hR, hF4⟩ := hq
          have hF := hF.tr hF4 (by decide)
          have hK_N4 := sp_fr sp_N4 hF4 (by decide) hK_N4
          refine lv_aload_n F.1 F.2.1 dX9_readCond_37 rfl (lv_at hl 0 rfl) ?_
          refine lv_iload_n F.1 F.2.1 dX9_readCond_38 rfl (lv_at hl 1 rfl) ?_
          refine a_Vi F hml hl.1 hA hP hD hS (As := [.int p0]) (c_X9_readBoth_51_d6 l dC dI ad cA nF _ p0 hR (by omega) hK_N4) (cs_RX9_42 (d := 15) F.2.2.1 (by decide)) tc_51 rfl rfl rfl rfl (Nat.le_of_ble_eq_true rfl) dX9_readCond_39 ⟨Nat.le_refl 0, Nat.le_refl 0⟩ (fun r5 u5 H locs hq hP hD hS => ?_)
          obtain ⟨hR, hF5, gr5⟩ := hq
          have hF := hF.tr hF5 (by decide)
          have hK_N4 := sp_fr sp_N4 hF5 (by decide) hK_N4
          refine z_ne F 47 dX9_readCond_42 (by decide) rfl (fun c6 => ?_) (fun c6 => ?_)
          · refine lv_aload_n F.1 F.2.1 dX9_readCond_47 rfl (lv_at hl 0 rfl) ?_
            refine a_getr F inX9 hP 51 2 tc_51 rfl rfl (by decide) q467 (fun _ h9 => h9) dX9_readCond_48 ?_
            refine a_bp F (114 : Int32) dX9_readCond_51 (by decide) ?_
            refine a_ic F (0 : Int32) dX9_readCond_53 (by decide) ?_
            refine a_ic F (0 : Int32) dX9_readCond_54 (by decide) ?_
            refine a_Vv F hml hl.1 hA hP hD hS (As := [.int (114 : Int32), .int (0 : Int32), .int (0 : Int32)]) (c_X8_add_47 l dC dI ad cA nF _ (114 : Int32) (0 : Int32) (0 : Int32) hR (by decide) (by decide)) (cs_RX9_48 (d := 1) F.2.2.1 (by decide)) tc_47 rfl rfl rfl rfl (Nat.le_of_ble_eq_true rfl) dX9_readCond_55 ⟨Nat.le_refl 0, Nat.le_refl 0⟩ (fun u7 H locs hq hP hD hS => ?_)
            obtain ⟨hR, hF7⟩ := hq
            have hF := hF.tr hF7 (by decide)
            have hK_N4 := sp_fr sp_N4 hF7 (by decide) hK_N4
            refine a_iinc F (k := 2) (fun v8 => [(2, .int v8), (0, .ref (ad 51)), (1, .int p0)]) dX9_readCond_58 hl rfl rfl (by decide) (by omega) (by decide) (fun _ => rfl) (fun v8 ls hv8 hl => ?_)
            refine lv_goto (tgt := 12) F.1 F.2.1 dX9_readCond_61 (by decide) ?_
            exact ih12 v8 _ _ _ _ hR hF (by omega) hK_N4 (by omega) hP hD hS (lv_sub hl [1, 2, 0] rfl)
          · refine a_ic F (0 : Int32) dX9_readCond_45 (by decide) ?_
            exact a_retz F hr hlocks hP hD hS dX9_readCond_46 (Or.inl rfl) ⟨hR, hF, (by decide)⟩
  refine lv_aload_n F.1 F.2.1 dX9_readCond_0 rfl (lv_at hl 0 rfl) ?_
  refine lv_iload_n F.1 F.2.1 dX9_readCond_1 rfl (lv_at hl 1 rfl) ?_
  refine a_Vi F hml hl.1 hA hP hD hS (As := [.int p0]) (c_X9_readBoth_51_d6 l dC dI ad cA nF _ p0 hR (by omega) hK_N4) (cs_RX9_42 (d := 15) F.2.2.1 (by decide)) tc_51 rfl rfl rfl rfl (Nat.le_of_ble_eq_true rfl) dX9_readCond_2 ⟨Nat.le_refl 0, Nat.le_refl 0⟩ (fun r9 u9 H locs hq hP hD hS => ?_)
  obtain ⟨hR, hF9, gr9⟩ := hq
  have hF := hF.tr hF9 (by decide)
  have hK_N4 := sp_fr sp_N4 hF9 (by decide) hK_N4
  refine z_ne F 10 dX9_readCond_5 (by decide) rfl (fun c10 => ?_) (fun c10 => ?_)
  · refine a_ic F (0 : Int32) dX9_readCond_10 (by decide) ?_
    refine lv_istore_n (lv' := [(2, .int (0 : Int32)), (0, .ref (ad 51)), (1, .int p0)]) F.1 F.2.1 dX9_readCond_11 rfl hl (by decide) rfl (fun ls hl => ?_)
    exact L12 22 (0 : Int32) _ _ _ _ hR hF (by decide) hK_N4 (by decide) hP hD hS (lv_sub hl [1, 2, 0] rfl)
  · refine a_ic F (0 : Int32) dX9_readCond_8 (by decide) ?_
    exact a_retz F hr hlocks hP hD hS dX9_readCond_9 (Or.inl rfl) ⟨hR, hF, (by decide)⟩
set_option maxHeartbeats 600000 in
set_option maxRecDepth 100000 in
theorem c_X9_readBracket_51_d5 (l : Launch) (dC : Nat → ClassId) (dI : Nat → Nat → Nat) (ad : Nat → Nat) (cA : Nat → ClassId) (nF : Nat) (u0 : ac_U) (p0 : Int32) (hR : ac_R rg u0) (hp0 : (5 : Int) ≤ p0.toInt ∧ p0.toInt ≤ 5) (hK_N4 : nmI 11 12 u0) : ac_Mi l yX9_readBracket (.code yX9_readBracket cX9_readBracket 2 (some .boolean) :: TB) 17 (dC, dI) vwCl (ac_ty cA) ad cA (TT nF) [.ref (ad 51), .int p0] u0 (fun (r : Int32) (u : ac_U) => ac_R rg u ∧ ac_Fr [(1, some 4), (1, some 5), (1, some 6), (1, some 8), (1, some 9), (1, some 10), (1, some 11), (47, some 3), (47, some 4), (48, none), (49, none), (50, none)] u0 u ∧ ((0 : Int) ≤ r.toInt ∧ r.toInt ≤ 1)) := by
  refine ac_Mi.of (cc := cX9_readBracket) (maxL := 2) (ret := (some .boolean)) (by decide) rfl (Nat.le_of_ble_eq_true rfl) ?_
  intro p e s m below meth c A ls F hml hr hlocks hA hP hD hS hl
  have F : ac_X p s m [.ref (ad 51), .int p0].toArray c cX9_readBracket RX9 TB (dC, dI) vwCl (ac_ty cA) := ⟨F.1, F.2.1, fun w h => F.2.2.1 w (List.mem_cons_of_mem _ h), F.2.2.2.1, F.2.2.2.2⟩
  have hl : lv_has ls 2 [(0, .ref (ad 51)), (1, .int p0)] := hl
  have hF : ac_Fr [(1, some 4), (1, some 5), (1, some 6), (1, some 8), (1, some 9), (1, some 10), (1, some 11), (47, some 3), (47, some 4), (48, none), (49, none), (50, none)] u0 u0 := ac_Fr.rf
  refine lv_aload_n F.1 F.2.1 dX9_readBracket_0 rfl (lv_at hl 0 rfl) ?_
  refine a_getr F inX9 hP 51 0 tc_51 rfl rfl (by decide) q465 (fun _ h9 => h9) dX9_readBracket_1 ?_
  refine a_Vv F hml hl.1 hA hP hD hS (As := []) (c_X10_readNext_1 l dC dI ad cA nF _  hR) (cs_RX9_45 (d := 3) F.2.2.1 (by decide)) tc_1 rfl rfl rfl rfl (Nat.le_of_ble_eq_true rfl) dX9_readBracket_4 ⟨Nat.le_refl 0, Nat.le_refl 0⟩ (fun u1 H locs hq hP hD hS => ?_)
  obtain ⟨hR, hF1⟩ := hq
  have hF := hF.tr hF1 (by decide)
  have hK_N4 := sp_fr sp_N4 hF1 (by decide) hK_N4
  refine lv_aload_n F.1 F.2.1 dX9_readBracket_7 rfl (lv_at hl 0 rfl) ?_
  refine lv_iload_n F.1 F.2.1 dX9_readBracket_8 rfl (lv_at hl 1 rfl) ?_
  refine a_ic F (1 : Int32) dX9_readBracket_9 (by decide) ?_
  refine a_iadd F dX9_readBracket_10 rfl ic_1 (by omega) (fun v2 hv2 => ?_)
  refine a_Vi F hml hl.1 hA hP hD hS (As := [.int v2]) (c_X9_readCond_51_d6 l dC dI ad cA nF _ v2 hR (by omega) hK_N4) (cs_RX9_74 (d := 16) F.2.2.1 (by decide)) tc_51 rfl rfl rfl rfl (Nat.le_of_ble_eq_true rfl) dX9_readBracket_11 ⟨Nat.le_refl 0, Nat.le_refl 0⟩ (fun r3 u3 H locs hq hP hD hS => ?_)
  obtain ⟨hR, hF3, gr3⟩ := hq
  have hF := hF.tr hF3 (by decide)
  have hK_N4 := sp_fr sp_N4 hF3 (by decide) hK_N4
  refine z_ne F 19 dX9_readBracket_14 (by decide) rfl (fun c4 => ?_) (fun c4 => ?_)
  · refine lv_aload_n F.1 F.2.1 dX9_readBracket_19 rfl (lv_at hl 0 rfl) ?_
    refine a_getr F inX9 hP 51 0 tc_51 rfl rfl (by decide) q465 (fun _ h9 => h9) dX9_readBracket_20 ?_
    have g5 : (-128 : Int) ≤ (u3.1 1 6).toInt ∧ (u3.1 1 6).toInt ≤ 127 := hR 1 6
    refine a_geti F inX10 hP 1 6 tc_1 rfl rfl (by decide) q103 (fun _ h9 => h9) (v := (u3.1 1 6)) rfl dX9_readBracket_23 ?_
    refine a_bp F (41 : Int32) dX9_readBracket_26 (by decide) ?_
    refine b_eq F 40 dX9_readBracket_28 (by decide) rfl ic_41 (fun c6 => ?_) (fun c6 => ?_)
    · refine lv_aload_n F.1 F.2.1 dX9_readBracket_40 rfl (lv_at hl 0 rfl) ?_
      refine a_getr F inX9 hP 51 0 tc_51 rfl rfl (by decide) q465 (fun _ h9 => h9) dX9_readBracket_41 ?_
      refine a_Vv F hml hl.1 hA hP hD hS (As := []) (c_X10_readNext_1 l dC dI ad cA nF _  hR) (cs_RX9_45 (d := 3) F.2.2.1 (by decide)) tc_1 rfl rfl rfl rfl (Nat.le_of_ble_eq_true rfl) dX9_readBracket_44 ⟨Nat.le_refl 0, Nat.le_refl 0⟩ (fun u7 H locs hq hP hD hS => ?_)
      obtain ⟨hR, hF7⟩ := hq
      have hF := hF.tr hF7 (by decide)
      have hK_N4 := sp_fr sp_N4 hF7 (by decide) hK_N4
      refine a_ic F (1 : Int32) dX9_readBracket_47 (by decide) ?_
      exact a_retz F hr hlocks hP hD hS dX9_readBracket_48 (Or.inr rfl) ⟨hR, hF, (by decide)⟩
    · refine lv_aload_n F.1 F.2.1 dX9_readBracket_31 rfl (lv_at hl 0 rfl) ?_
      refine a_getr F inX9 hP 51 0 tc_51 rfl rfl (by decide) q465 (fun _ h9 => h9) dX9_readBracket_32 ?_
      refine a_ic F (1 : Int32) dX9_readBracket_35 (by decide) ?_
      refine a_Vi F hml hl.1 hA hP hD hS (As := [.int (1 : Int32)]) (c_X10_fail_1 l dC dI ad cA nF _ (1 : Int32) hR (by decide)) (cs_RX9_38 (d := 1) F.2.2.1 (by decide)) tc_1 rfl rfl rfl rfl (Nat.le_of_ble_eq_true rfl) dX9_readBracket_36 ⟨Nat.le_refl 0, Nat.le_refl 0⟩ (fun r8 u8 H locs hq hP hD hS => ?_)
      obtain ⟨hR, hF8, gr8⟩ := hq
      have hF := hF.tr hF8 (by decide)
      have hK_N4 := sp_fr sp_N4 hF8 (by decide) hK_N4
      exact a_retz F hr hlocks hP hD hS dX9_readBracket_39 (i_01 (by omega)) ⟨hR, hF, (by omega : (0 : Int) ≤ r8.toInt ∧ r8.toInt ≤ 1)⟩
  · refine a_ic F (0 : Int32) dX9_readBracket_17 (by decide) ?_
    exact a_retz F hr hlocks hP hD hS dX9_readBracket_18 (Or.inl rfl) ⟨hR, hF, (by decide)⟩
set_option maxHeartbeats 600000 in
set_option maxRecDepth 100000 in
theorem c_X9_readNot_51_d5 (l : Launch) (dC : Nat → ClassId) (dI : Nat → Nat → Nat) (ad : Nat → Nat) (cA : Nat → ClassId) (nF : Nat) (u0 : ac_U) (p0 : Int32) (hR : ac_R rg u0) (hp0 : (5 : Int) ≤ p0.toInt ∧ p0.toInt ≤ 5) (hK_N4 : nmI 11 12 u0) : ac_Mi l yX9_readNot (.code yX9_readNot cX9_readNot 2 (some .boolean) :: TB) 15 (dC, dI) vwCl (ac_ty cA) ad cA (TT nF) [.ref (ad 51), .int p0] u0 (fun (r : Int32) (u : ac_U) => ac_R rg u ∧ ac_Fr [(1, some 4), (1, some 5), (1, some 6), (1, some 8), (1, some 9), (1, some 10), (1, some 11), (47, some 3), (47, some 4), (48, none), (49, none), (50, none)] u0 u ∧ ((0 : Int) ≤ r.toInt ∧ r.toInt ≤ 1)) := by
  refine ac_Mi.of (cc := cX9_readNot) (maxL := 2) (ret := (some .boolean)) (by decide) rfl (Nat.le_of_ble_eq_true rfl) ?_
  intro p e s m below meth c A ls F hml hr hlocks hA hP hD hS hl
  have F : ac_X p s m [.ref (ad 51), .int p0].toArray c cX9_readNot RX9 TB (dC, dI) vwCl (ac_ty cA) := ⟨F.1, F.2.1, fun w h => F.2.2.1 w (List.mem_cons_of_mem _ h), F.2.2.2.1, F.2.2.2.2⟩
  have hl : lv_has ls 2 [(0, .ref (ad 51)), (1, .int p0)] := hl
  have hF : ac_Fr [(1, some 4), (1, some 5), (1, some 6), (1, some 8), (1, some 9), (1, some 10), (1, some 11), (47, some 3), (47, some 4), (48, none), (49, none), (50, none)] u0 u0 := ac_Fr.rf
  refine lv_aload_n F.1 F.2.1 dX9_readNot_0 rfl (lv_at hl 0 rfl) ?_
  refine a_getr F inX9 hP 51 0 tc_51 rfl rfl (by decide) q465 (fun _ h9 => h9) dX9_readNot_1 ?_
  refine a_Vv F hml hl.1 hA hP hD hS (As := []) (c_X10_readNext_1 l dC dI ad cA nF _  hR) (cs_RX9_45 (d := 3) F.2.2.1 (by decide)) tc_1 rfl rfl rfl rfl (Nat.le_of_ble_eq_true rfl) dX9_readNot_4 ⟨Nat.le_refl 0, Nat.le_refl 0⟩ (fun u1 H locs hq hP hD hS => ?_)
  obtain ⟨hR, hF1⟩ := hq
  have hF := hF.tr hF1 (by decide)
  have hK_N4 := sp_fr sp_N4 hF1 (by decide) hK_N4
  refine lv_aload_n F.1 F.2.1 dX9_readNot_7 rfl (lv_at hl 0 rfl) ?_
  refine lv_iload_n F.1 F.2.1 dX9_readNot_8 rfl (lv_at hl 1 rfl) ?_
  refine a_ic F (1 : Int32) dX9_readNot_9 (by decide) ?_
  refine a_iadd F dX9_readNot_10 rfl ic_1 (by omega) (fun v2 hv2 => ?_)
  refine a_Vi F hml hl.1 hA hP hD hS (As := [.int v2]) (c_X9_readOne_51_d6 l dC dI ad cA nF _ v2 hR (by omega) hK_N4) (cs_RX9_52 (d := 14) F.2.2.1 (by decide)) tc_51 rfl rfl rfl rfl (Nat.le_of_ble_eq_true rfl) dX9_readNot_11 ⟨Nat.le_refl 0, Nat.le_refl 0⟩ (fun r3 u3 H locs hq hP hD hS => ?_)
  obtain ⟨hR, hF3, gr3⟩ := hq
  have hF := hF.tr hF3 (by decide)
  have hK_N4 := sp_fr sp_N4 hF3 (by decide) hK_N4
  refine z_ne F 19 dX9_readNot_14 (by decide) rfl (fun c4 => ?_) (fun c4 => ?_)
  · refine lv_aload_n F.1 F.2.1 dX9_readNot_19 rfl (lv_at hl 0 rfl) ?_
    refine a_getr F inX9 hP 51 2 tc_51 rfl rfl (by decide) q467 (fun _ h9 => h9) dX9_readNot_20 ?_
    refine a_bp F (116 : Int32) dX9_readNot_23 (by decide) ?_
    refine a_ic F (0 : Int32) dX9_readNot_25 (by decide) ?_
    refine a_ic F (0 : Int32) dX9_readNot_26 (by decide) ?_
    refine a_Vv F hml hl.1 hA hP hD hS (As := [.int (116 : Int32), .int (0 : Int32), .int (0 : Int32)]) (c_X8_add_47 l dC dI ad cA nF _ (116 : Int32) (0 : Int32) (0 : Int32) hR (by decide) (by decide)) (cs_RX9_48 (d := 1) F.2.2.1 (by decide)) tc_47 rfl rfl rfl rfl (Nat.le_of_ble_eq_true rfl) dX9_readNot_27 ⟨Nat.le_refl 0, Nat.le_refl 0⟩ (fun u5 H locs hq hP hD hS => ?_)
    obtain ⟨hR, hF5⟩ := hq
    have hF := hF.tr hF5 (by decide)
    have hK_N4 := sp_fr sp_N4 hF5 (by decide) hK_N4
    refine a_ic F (1 : Int32) dX9_readNot_30 (by decide) ?_
    exact a_retz F hr hlocks hP hD hS dX9_readNot_31 (Or.inr rfl) ⟨hR, hF, (by decide)⟩
  · refine a_ic F (0 : Int32) dX9_readNot_17 (by decide) ?_
    exact a_retz F hr hlocks hP hD hS dX9_readNot_18 (Or.inl rfl) ⟨hR, hF, (by decide)⟩
set_option maxHeartbeats 600000 in
set_option maxRecDepth 100000 in
theorem c_X9_readOne_51_d5 (l : Launch) (dC : Nat → ClassId) (dI : Nat → Nat → Nat) (ad : Nat → Nat) (cA : Nat → ClassId) (nF : Nat) (u0 : ac_U) (p0 : Int32) (hR : ac_R rg u0) (hp0 : (5 : Int) ≤ p0.toInt ∧ p0.toInt ≤ 5) (hK_N4 : nmI 11 12 u0) : ac_Mi l yX9_readOne (.code yX9_readOne cX9_readOne 3 (some .boolean) :: TB) 18 (dC, dI) vwCl (ac_ty cA) ad cA (TT nF) [.ref (ad 51), .int p0] u0 (fun (r : Int32) (u : ac_U) => ac_R rg u ∧ ac_Fr [(1, some 4), (1, some 5), (1, some 6), (1, some 8), (1, some 9), (1, some 10), (1, some 11), (47, some 3), (47, some 4), (48, none), (49, none), (50, none)] u0 u ∧ ((0 : Int) ≤ r.toInt ∧ r.toInt ≤ 1)) := by
  refine ac_Mi.of (cc := cX9_readOne) (maxL := 3) (ret := (some .boolean)) (by decide) rfl (Nat.le_of_ble_eq_true rfl) ?_
  intro p e s m below meth c A ls F hml hr hlocks hA hP hD hS hl
  have F : ac_X p s m [.ref (ad 51), .int p0].toArray c cX9_readOne RX9 TB (dC, dI) vwCl (ac_ty cA) := ⟨F.1, F.2.1, fun w h => F.2.2.1 w (List.mem_cons_of_mem _ h), F.2.2.2.1, F.2.2.2.2⟩
  have hl : lv_has ls 3 [(0, .ref (ad 51)), (1, .int p0)] := hl
  have hF : ac_Fr [(1, some 4), (1, some 5), (1, some 6), (1, some 8), (1, some 9), (1, some 10), (1, some 11), (47, some 3), (47, some 4), (48, none), (49, none), (50, none)] u0 u0 := ac_Fr.rf
  have L53 : ∀ (u : ac_U) (H : Heap) (locs : List Loc) (ls : Array Slot), ac_R rg u → ac_Fr [(1, some 4), (1, some 5), (1, some 6), (1, some 8), (1, some 9), (1, some 10), (1, some 11), (47, some 3), (47, some 4), (48, none), (49, none), (50, none)] u0 u → nmI 11 12 u → (40 : Int) ≤ (u.1 1 6).toInt ∧ (u.1 1 6).toInt ≤ 126 → (20 : Int) ≤ (u.1 47 4).toInt ∧ (u.1 47 4).toInt ≤ 20 → va_P (dC, dI) vwCl (ac_w ad cA (TT nF) u) H → va_D A (ac_w ad cA (TT nF) u) → va_S A s.heap H locs → lv_has ls 3 [(0, .ref (ad 51))] → W p l e (ac_rm 18) s m [.ref (ad 51), .int p0].toArray below meth c H locs 0 0 (MQ below (va_Qi (fun (r : Int32) (u : ac_U) => ac_R rg u ∧ ac_Fr [(1, some 4), (1, some 5), (1, some 6), (1, some 8), (1, some 9), (1, some 10), (1, some 11), (47, some 3), (47, some 4), (48, none), (49, none), (50, none)] u0 u ∧ ((0 : Int) ≤ r.toInt ∧ r.toInt ≤ 1)) (ac_B (dC, dI) vwCl (ac_ty cA) ad cA (TT nF) A) A) [.ref (ad 51), .int p0].toArray s 0 0 A) (F0 m 53 ls []) := by
    intro u H locs ls hR hF hK_N4 f0 f1 hP hD hS hl
    refine lv_aload_n F.1 F.2.1 dX9_readOne_53 rfl (lv_at hl 0 rfl) ?_
    refine a_getr F inX9 hP 51 0 tc_51 rfl rfl (by decide) q465 (fun _ h9 => h9) dX9_readOne_54 ?_
    refine a_ic F (4 : Int32) dX9_readOne_57 (by decide) ?_
    refine a_Vi F hml hl.1 hA hP hD hS (As := [.int (4 : Int32)]) (c_X10_fail_1 l dC dI ad cA nF _ (4 : Int32) hR (by decide)) (cs_RX9_38 (d := 1) F.2.2.1 (by decide)) tc_1 rfl rfl rfl rfl (Nat.le_of_ble_eq_true rfl) dX9_readOne_58 ⟨Nat.le_refl 0, Nat.le_refl 0⟩ (fun r1 u1 H locs hq hP hD hS => ?_)
    obtain ⟨hR, hF1, gr1⟩ := hq
    have hF := hF.tr hF1 (by decide)
    have hK_N4 := sp_fr sp_N4 hF1 (by decide) hK_N4
    exact a_retz F hr hlocks hP hD hS dX9_readOne_61 (i_01 (by omega)) ⟨hR, hF, (by omega : (0 : Int) ≤ r1.toInt ∧ r1.toInt ≤ 1)⟩
  have L35 : ∀ (x2 : Int32) (u : ac_U) (H : Heap) (locs : List Loc) (ls : Array Slot), ac_R rg u → ac_Fr [(1, some 4), (1, some 5), (1, some 6), (1, some 8), (1, some 9), (1, some 10), (1, some 11), (47, some 3), (47, some 4), (48, none), (49, none), (50, none)] u0 u → nmI 11 12 u → (40 : Int) ≤ x2.toInt ∧ x2.toInt ≤ 126 → (40 : Int) ≤ (u.1 1 6).toInt ∧ (u.1 1 6).toInt ≤ 126 → va_P (dC, dI) vwCl (ac_w ad cA (TT nF) u) H → va_D A (ac_w ad cA (TT nF) u) → va_S A s.heap H locs → lv_has ls 3 [(0, .ref (ad 51)), (1, .int p0), (2, .int x2)] → W p l e (ac_rm 18) s m [.ref (ad 51), .int p0].toArray below meth c H locs 0 0 (MQ below (va_Qi (fun (r : Int32) (u : ac_U) => ac_R rg u ∧ ac_Fr [(1, some 4), (1, some 5), (1, some 6), (1, some 8), (1, some 9), (1, some 10), (1, some 11), (47, some 3), (47, some 4), (48, none), (49, none), (50, none)] u0 u ∧ ((0 : Int) ≤ r.toInt ∧ r.toInt ≤ 1)) (ac_B (dC, dI) vwCl (ac_ty cA) ad cA (TT nF) A) A) [.ref (ad 51), .int p0].toArray s 0 0 A) (F0 m 35 ls []) := by
    intro x2 u H locs ls hR hF hK_N4 f0 f1 hP hD hS hl
    refine lv_aload_n F.1 F.2.1 dX9_readOne_35 rfl (lv_at hl 0 rfl) ?_
    refine a_getr F inX9 hP 51 2 tc_51 rfl rfl (by decide) q467 (fun _ h9 => h9) dX9_readOne_36 ?_
    have g2 : (0 : Int) ≤ (u.1 47 4).toInt ∧ (u.1 47 4).toInt ≤ 20 := hR 47 4
    refine a_geti F inX8 hP 47 4 tc_47 rfl rfl (by decide) q446 (fun _ h9 => h9) (v := (u.1 47 4)) rfl dX9_readOne_39 ?_
    refine a_bp F (20 : Int32) dX9_readOne_42 (by decide) ?_
    refine b_ge F 53 dX9_readOne_44 (by decide) rfl ic_20 (fun c3 => ?_) (fun c3 => ?_)
    · have g4 : (-128 : Int) ≤ (u.1 1 6).toInt ∧ (u.1 1 6).toInt ≤ 127 := hR 1 6
      exact L53 _ _ _ _ hR hF hK_N4 (by omega : (40 : Int) ≤ (u.1 1 6).toInt ∧ (u.1 1 6).toInt ≤ 126) (by omega : (20 : Int) ≤ (u.1 47 4).toInt ∧ (u.1 47 4).toInt ≤ 20) hP hD hS (lv_sub hl [0] rfl)
    · refine lv_iload_n F.1 F.2.1 dX9_readOne_47 rfl (lv_at hl 1 rfl) ?_
      refine a_bp F (8 : Int32) dX9_readOne_48 (by decide) ?_
      refine b_le F 62 dX9_readOne_50 (by decide) rfl ic_8 (fun c5 => ?_) (fun c5 => ?_)
      · refine lv_aload_n F.1 F.2.1 dX9_readOne_62 rfl (lv_at hl 0 rfl) ?_
        refine a_getr F inX9 hP 51 2 tc_51 rfl rfl (by decide) q467 (fun _ h9 => h9) dX9_readOne_63 ?_
        refine lv_dup F.1 F.2.1 dX9_readOne_66 rfl ?_
        refine a_geti F inX8 hP 47 4 tc_47 rfl rfl (by decide) q446 (fun _ h9 => h9) (v := (u.1 47 4)) (rfl) dX9_readOne_67 ?_
        refine a_ic F (1 : Int32) dX9_readOne_70 (by decide) ?_
        refine a_iadd F dX9_readOne_71 rfl ic_1 (by omega) (fun v6 hv6 => ?_)
        refine a_puti F inX8 tyX8 tyX8_ok nmX8 hP hD hS 47 4 tc_47 rfl rfl (by decide) q446 (fun _ h9 => h9) rfl (ty := .int) (tyX8_ok 4 (by decide)) rfl rfl dX9_readOne_72 (fun H locs hP hD hS => ?_)
        have hR := hR.si (c := 47) (k := 4) (v := v6) (by omega : (0 : Int) ≤ v6.toInt ∧ v6.toInt ≤ 20)
        have hF := hF.si (c := 47) (k := 4) (v := v6) rfl
        have hK_N4 := sp_sgD sp_N4 hD hK_N4 (by decide)
        refine lv_iload_n F.1 F.2.1 dX9_readOne_75 rfl (lv_at hl 2 rfl) ?_
        refine a_bp F (40 : Int32) dX9_readOne_76 (by decide) ?_
        refine b_ne F 87 dX9_readOne_78 (by decide) rfl ic_40 (fun c7 => ?_) (fun c7 => ?_)
        · refine lv_iload_n F.1 F.2.1 dX9_readOne_87 rfl (lv_at hl 2 rfl) ?_
          refine a_bp F (116 : Int32) dX9_readOne_88 (by decide) ?_
          refine b_ne F 99 dX9_readOne_90 (by decide) rfl ic_116 (fun c8 => ?_) (fun c8 => ?_)
          · refine lv_iload_n F.1 F.2.1 dX9_readOne_99 rfl (lv_at hl 2 rfl) ?_
            refine a_bp F (122 : Int32) dX9_readOne_100 (by decide) ?_
            refine b_ne F 110 dX9_readOne_102 (by decide) rfl ic_122 (fun c9 => ?_) (fun c9 => ?_)
            · refine lv_iload_n F.1 F.2.1 dX9_readOne_110 rfl (lv_at hl 2 rfl) ?_
              refine a_bp F (122 : Int32) dX9_readOne_111 (by decide) ?_
              refine b_le F 124 dX9_readOne_113 (by decide) rfl ic_122 (fun c10 => ?_) (fun c10 => ?_)
              · refine lv_aload_n F.1 F.2.1 dX9_readOne_124 rfl (lv_at hl 0 rfl) ?_
                refine lv_iload_n F.1 F.2.1 dX9_readOne_125 rfl (lv_at hl 2 rfl) ?_
                refine a_Vi F hml hl.1 hA hP hD hS (As := [.int x2]) (c_X9_readStatus_51 l dC dI ad cA nF _ x2 hR (by omega)) (cs_RX9_71 (d := 4) F.2.2.1 (by decide)) tc_51 rfl rfl rfl rfl (Nat.le_of_ble_eq_true rfl) dX9_readOne_126 ⟨Nat.le_refl 0, Nat.le_refl 0⟩ (fun r11 u11 H locs hq hP hD hS => ?_)
                obtain ⟨hR, hF11, gr11⟩ := hq
                have hF := hF.tr hF11 (by decide)
                have hK_N4 := sp_fr sp_N4 hF11 (by decide) hK_N4
                exact a_retz F hr hlocks hP hD hS dX9_readOne_129 (i_01 (by omega)) ⟨hR, hF, (by omega : (0 : Int) ≤ r11.toInt ∧ r11.toInt ≤ 1)⟩
              · refine lv_aload_n F.1 F.2.1 dX9_readOne_116 rfl (lv_at hl 0 rfl) ?_
                refine lv_iload_n F.1 F.2.1 dX9_readOne_117 rfl (lv_at hl 2 rfl) ?_
                refine a_Vi F hml hl.1 hA hP hD hS (As := [.int x2]) (c_X9_readCompare_51 l dC dI ad cA nF _ x2 hR (by omega)) (cs_RX9_68 (d := 4) F.2.2.1 (by decide)) tc_51 rfl rfl rfl rfl (Nat.le_of_ble_eq_true rfl) dX9_readOne_118 ⟨Nat.le_refl 0, Nat.le_refl 0⟩ (fun r12 u12 H locs hq hP hD hS => ?_)
                obtain ⟨hR, hF12, gr12⟩ := hq
                have hF := hF.tr hF12 (by decide)
                have hK_N4 := sp_fr sp_N4 hF12 (by decide) hK_N4
                refine lv_goto (tgt := 129) F.1 F.2.1 dX9_readOne_121 (by decide) ?_
                exact a_retz F hr hlocks hP hD hS dX9_readOne_129 (i_01 (by omega)) ⟨hR, hF, (by omega : (0 : Int) ≤ r12.toInt ∧ r12.toInt ≤ 1)⟩
            · refine lv_aload_n F.1 F.2.1 dX9_readOne_105 rfl (lv_at hl 0 rfl) ?_
              refine a_Vi F hml hl.1 hA hP hD hS (As := []) (c_X9_readOf_51 l dC dI ad cA nF _  hR hK_N4) (cs_RX9_64 (d := 4) F.2.2.1 (by decide)) tc_51 rfl rfl rfl rfl (Nat.le_of_ble_eq_true rfl) dX9_readOne_106 ⟨Nat.le_refl 0, Nat.le_refl 0⟩ (fun r13 u13 H locs hq hP hD hS => ?_)
              obtain ⟨hR, hF13, gr13⟩ := hq
              have hF := hF.tr hF13 (by decide)
              have hK_N4 := sp_fr sp_N4 hF13 (by decide) hK_N4
              exact a_retz F hr hlocks hP hD hS dX9_readOne_109 (i_01 (by omega)) ⟨hR, hF, (by omega : (0 : Int) ≤ r13.toInt ∧ r13.toInt ≤ 1)⟩
          · refine lv_aload_n F.1 F.2.1 dX9_readOne_93 rfl (lv_at hl 0 rfl) ?_
            refine lv_iload_n F.1 F.2.1 dX9_readOne_94 rfl (lv_at hl 1 rfl) ?_
            refine a_Vi F hml hl.1 hA hP hD hS (As := [.int p0]) (c_X9_readNot_51_d5 l dC dI ad cA nF _ p0 hR (by omega) hK_N4) (cs_RX9_61 (d := 15) F.2.2.1 (by decide)) tc_51 rfl rfl rfl rfl (Nat.le_of_ble_eq_true rfl) dX9_readOne_95 ⟨Nat.le_refl 0, Nat.le_refl 0⟩ (fun r14 u14 H locs hq hP hD hS => ?_)
            obtain ⟨hR, hF14, gr14⟩ := hq
            have hF := hF.tr hF14 (by decide)
            have hK_N4 := sp_fr sp_N4 hF14 (by decide) hK_N4
            exact a_retz F hr hlocks hP hD hS dX9_readOne_98 (i_01 (by omega)) ⟨hR, hF, (by omega : (0 : Int) ≤ r14.toInt ∧ r14.toInt ≤ 1)⟩
        · refine lv_aload_n F.1 F.2.1 dX9_readOne_81 rfl (lv_at hl 0 rfl) ?_
          refine lv_iload_n F.1 F.2.1 dX9_readOne_82 rfl (lv_at hl 1 rfl) ?_
          refine a_Vi F hml hl.1 hA hP hD hS (As := [.int p0]) (c_X9_readBracket_51_d5 l dC dI ad cA nF _ p0 hR (by omega) hK_N4) (cs_RX9_58 (d := 17) F.2.2.1 (by decide)) tc_51 rfl rfl rfl rfl (Nat.le_of_ble_eq_true rfl) dX9_readOne_83 ⟨Nat.le_refl 0, Nat.le_refl 0⟩ (fun r15 u15 H locs hq hP hD hS => ?_)
          obtain ⟨hR, hF15, gr15⟩ := hq
          have hF := hF.tr hF15 (by decide)
          have hK_N4 := sp_fr sp_N4 hF15 (by decide) hK_N4
          exact a_retz F hr hlocks hP hD hS dX9_readOne_86 (i_01 (by omega)) ⟨hR, hF, (by omega : (0 : Int) ≤ r15.toInt ∧ r15.toInt ≤ 1)⟩
      · exfalso; omega
  have L26 : ∀ (u : ac_U) (H : Heap) (locs : List Loc) (ls : Array Slot), ac_R rg u → ac_Fr [(1, some 4), (1, some 5), (1, some 6), (1, some 8), (1, some 9), (1, some 10), (1, some 11), (47, some 3), (47, some 4), (48, none), (49, none), (50, none)] u0 u → nmI 11 12 u → (-128 : Int) ≤ (u.1 1 6).toInt ∧ (u.1 1 6).toInt ≤ 127 → va_P (dC, dI) vwCl (ac_w ad cA (TT nF) u) H → va_D A (ac_w ad cA (TT nF) u) → va_S A s.heap H locs → lv_has ls 3 [(0, .ref (ad 51))] → W p l e (ac_rm 18) s m [.ref (ad 51), .int p0].toArray below meth c H locs 0 0 (MQ below (va_Qi (fun (r : Int32) (u : ac_U) => ac_R rg u ∧ ac_Fr [(1, some 4), (1, some 5), (1, some 6), (1, some 8), (1, some 9), (1, some 10), (1, some 11), (47, some 3), (47, some 4), (48, none), (49, none), (50, none)] u0 u ∧ ((0 : Int) ≤ r.toInt ∧ r.toInt ≤ 1)) (ac_B (dC, dI) vwCl (ac_ty cA) ad cA (TT nF) A) A) [.ref (ad 51), .int p0].toArray s 0 0 A) (F0 m 26 ls []) := by
    intro u H locs ls hR hF hK_N4 f0 hP hD hS hl
    refine lv_aload_n F.1 F.2.1 dX9_readOne_26 rfl (lv_at hl 0 rfl) ?_
    refine a_getr F inX9 hP 51 0 tc_51 rfl rfl (by decide) q465 (fun _ h9 => h9) dX9_readOne_27 ?_
    refine a_ic F (1 : Int32) dX9_readOne_30 (by decide) ?_
    refine a_Vi F hml hl.1 hA hP hD hS (As := [.int (1 : Int32)]) (c_X10_fail_1 l dC dI ad cA nF _ (1 : Int32) hR (by decide)) (cs_RX9_38 (d := 1) F.2.2.1 (by decide)) tc_1 rfl rfl rfl rfl (Nat.le_of_ble_eq_true rfl) dX9_readOne_31 ⟨Nat.le_refl 0, Nat.le_refl 0⟩ (fun r16 u16 H locs hq hP hD hS => ?_)
    obtain ⟨hR, hF16, gr16⟩ := hq
    have hF := hF.tr hF16 (by decide)
    have hK_N4 := sp_fr sp_N4 hF16 (by decide) hK_N4
    exact a_retz F hr hlocks hP hD hS dX9_readOne_34 (i_01 (by omega)) ⟨hR, hF, (by omega : (0 : Int) ≤ r16.toInt ∧ r16.toInt ≤ 1)⟩
  refine lv_aload_n F.1 F.2.1 dX9_readOne_0 rfl (lv_at hl 0 rfl) ?_
  refine a_getr F inX9 hP 51 0 tc_51 rfl rfl (by decide) q465 (fun _ h9 => h9) dX9_readOne_1 ?_
  have g17 : (-128 : Int) ≤ (u0.1 1 6).toInt ∧ (u0.1 1 6).toInt ≤ 127 := hR 1 6
  refine a_geti F inX10 hP 1 6 tc_1 rfl rfl (by decide) q103 (fun _ h9 => h9) (v := (u0.1 1 6)) rfl dX9_readOne_4 ?_
  refine lv_istore_n (lv' := [(2, .int (u0.1 1 6)), (0, .ref (ad 51)), (1, .int p0)]) F.1 F.2.1 dX9_readOne_7 rfl hl (by decide) rfl (fun ls hl => ?_)
  refine lv_iload_n F.1 F.2.1 dX9_readOne_8 rfl (lv_at hl 0 rfl) ?_
  refine a_bp F (40 : Int32) dX9_readOne_9 (by decide) ?_
  refine b_eq F 35 dX9_readOne_11 (by decide) rfl ic_40 (fun c18 => ?_) (fun c18 => ?_)
  · exact L35 (u0.1 1 6) _ _ _ _ hR hF hK_N4 (by omega) (by omega : (40 : Int) ≤ (u0.1 1 6).toInt ∧ (u0.1 1 6).toInt ≤ 126) hP hD hS (lv_sub hl [1, 2, 0] rfl)
  · refine lv_iload_n F.1 F.2.1 dX9_readOne_14 rfl (lv_at hl 0 rfl) ?_
    refine a_bp F (116 : Int32) dX9_readOne_15 (by decide) ?_
    refine b_lt F 26 dX9_readOne_17 (by decide) rfl ic_116 (fun c19 => ?_) (fun c19 => ?_)
    · exact L26 _ _ _ _ hR hF hK_N4 (by omega : (-128 : Int) ≤ (u0.1 1 6).toInt ∧ (u0.1 1 6).toInt ≤ 127) hP hD hS (lv_sub hl [1] rfl)
    · refine lv_iload_n F.1 F.2.1 dX9_readOne_20 rfl (lv_at hl 0 rfl) ?_
      refine a_bp F (126 : Int32) dX9_readOne_21 (by decide) ?_
      refine b_le F 35 dX9_readOne_23 (by decide) rfl ic_126 (fun c20 => ?_) (fun c20 => ?_)
      · exact L35 (u0.1 1 6) _ _ _ _ hR hF hK_N4 (by omega) (by omega : (40 : Int) ≤ (u0.1 1 6).toInt ∧ (u0.1 1 6).toInt ≤ 126) hP hD hS (lv_sub hl [1, 2, 0] rfl)
      · exact L26 _ _ _ _ hR hF hK_N4 (by omega : (-128 : Int) ≤ (u0.1 1 6).toInt ∧ (u0.1 1 6).toInt ≤ 127) hP hD hS (lv_sub hl [1] rfl)
set_option maxHeartbeats 600000 in
set_option maxRecDepth 100000 in
theorem c_X9_readBoth_51_d5 (l : Launch) (dC : Nat → ClassId) (dI : Nat → Nat → Nat) (ad : Nat → Nat) (cA : Nat → ClassId) (nF : Nat) (u0 : ac_U) (p0 : Int32) (hR : ac_R rg u0) (hp0 : (5 : Int) ≤ p0.toInt ∧ p0.toInt ≤ 5) (hK_N4 : nmI 11 12 u0) : ac_Mi l yX9_readBoth (.code yX9_readBoth cX9_readBoth 3 (some .boolean) :: TB) 19 (dC, dI) vwCl (ac_ty cA) ad cA (TT nF) [.ref (ad 51), .int p0] u0 (fun (r : Int32) (u : ac_U) => ac_R rg u ∧ ac_Fr [(1, some 4), (1, some 5), (1, some 6), (1, some 8), (1, some 9), (1, some 10), (1, some 11), (47, some 3), (47, some 4), (48, none), (49, none), (50, none)] u0 u ∧ ((0 : Int) ≤ r.toInt ∧ r.toInt ≤ 1)) := by
  refine ac_Mi.of (cc := cX9_readBoth) (maxL := 3) (ret := (some .boolean)) (by decide) rfl (Nat.le_of_ble_eq_true rfl) ?_
  intro p e s m below meth c A ls F hml hr hlocks hA hP hD hS hl
  have F : ac_X p s m [.ref (ad 51), .int p0].toArray c cX9_readBoth RX9 TB (dC, dI) vwCl (ac_ty cA) := ⟨F.1, F.2.1, fun w h => F.2.2.1 w (List.mem_cons_of_mem _ h), F.2.2.2.1, F.2.2.2.2⟩
  have hl : lv_has ls 3 [(0, .ref (ad 51)), (1, .int p0)] := hl
  have hF : ac_Fr [(1, some 4), (1, some 5), (1, some 6), (1, some 8), (1, some 9), (1, some 10), (1, some 11), (47, some 3), (47, some 4), (48, none), (49, none), (50, none)] u0 u0 := ac_Fr.rf
  have L64 : ∀ (u : ac_U) (H : Heap) (locs : List Loc) (ls : Array Slot), ac_R rg u → ac_Fr [(1, some 4), (1, some 5), (1, some 6), (1, some 8), (1, some 9), (1, some 10), (1, some 11), (47, some 3), (47, some 4), (48, none), (49, none), (50, none)] u0 u → nmI 11 12 u → va_P (dC, dI) vwCl (ac_w ad cA (TT nF) u) H → va_D A (ac_w ad cA (TT nF) u) → va_S A s.heap H locs → lv_has ls 3 [] → W p l e (ac_rm 19) s m [.ref (ad 51), .int p0].toArray below meth c H locs 0 0 (MQ below (va_Qi (fun (r : Int32) (u : ac_U) => ac_R rg u ∧ ac_Fr [(1, some 4), (1, some 5), (1, some 6), (1, some 8), (1, some 9), (1, some 10), (1, some 11), (47, some 3), (47, some 4), (48, none), (49, none), (50, none)] u0 u ∧ ((0 : Int) ≤ r.toInt ∧ r.toInt ≤ 1)) (ac_B (dC, dI) vwCl (ac_ty cA) ad cA (TT nF) A) A) [.ref (ad 51), .int p0].toArray s 0 0 A) (F0 m 64 ls []) := by
    intro u H locs ls hR hF hK_N4 hP hD hS hl
    refine a_ic F (1 : Int32) dX9_readBoth_64 (by decide) ?_
    exact a_retz F hr hlocks hP hD hS dX9_readBoth_65 (Or.inr rfl) ⟨hR, hF, (by decide)⟩
  have L12 : ∀ (n12 : Nat) (x2 : Int32) (u : ac_U) (H : Heap) (locs : List Loc) (ls : Array Slot), ac_R rg u → ac_Fr [(1, some 4), (1, some 5), (1, some 6), (1, some 8), (1, some 9), (1, some 10), (1, some 11), (47, some 3), (47, some 4), (48, none), (49, none), (50, none)] u0 u → 20 - x2.toInt < (n12 : Int) → nmI 11 12 u → (0 : Int) ≤ x2.toInt ∧ x2.toInt ≤ 20 → va_P (dC, dI) vwCl (ac_w ad cA (TT nF) u) H → va_D A (ac_w ad cA (TT nF) u) → va_S A s.heap H locs → lv_has ls 3 [(0, .ref (ad 51)), (1, .int p0), (2, .int x2)] → W p l e (ac_rm 19) s m [.ref (ad 51), .int p0].toArray below meth c H locs 0 0 (MQ below (va_Qi (fun (r : Int32) (u : ac_U) => ac_R rg u ∧ ac_Fr [(1, some 4), (1, some 5), (1, some 6), (1, some 8), (1, some 9), (1, some 10), (1, some 11), (47, some 3), (47, some 4), (48, none), (49, none), (50, none)] u0 u ∧ ((0 : Int) ≤ r.toInt ∧ r.toInt ≤ 1)) (ac_B (dC, dI) vwCl (ac_ty cA) ad cA (TT nF) A) A) [.ref (ad 51), .int p0].toArray s 0 0 A) (F0 m 12 ls []) := by
    intro n12
    induction n12 with
    | zero => intro x2 u H locs ls hR hF hn12 hK_N4 f0 hP hD hS hl; exfalso; omega
    | succ n12 ih12 =>
      intro x2 u H locs ls hR hF hn12 hK_N4 f0 hP hD hS hl
      refine lv_iload_n F.1 F.2.1 dX9_readBoth_12 rfl (lv_at hl 2 rfl) ?_
      refine a_bp F (20 : Int32) dX9_readBoth_13 (by decide) ?_
      refine b_ge F 64 dX9_readBoth_15 (by decide) rfl ic_20 (fun c1 => ?_) (fun c1 => ?_)
      · exact L64 _ _ _ _ hR hF hK_N4 hP hD hS (lv_sub hl [] rfl)
      · refine lv_aload_n F.1 F.2.1 dX9_readBoth_18 rfl (lv_at hl 0 rfl) ?_
        refine a_getr F inX9 hP 51 0 tc_51 rfl rfl (by decide) q465 (fun _ h9 => h9) dX9_readBoth_19 ?_
        have g2 : (-128 : Int) ≤ (u.1 1 6).toInt ∧ (u.1 1 6).toInt ≤ 127 := hR 1 6
        refine a_geti F inX10 hP 1 6 tc_1 rfl rfl (by decide) q103 (fun _ h9 => h9) (v := (u.1 1 6)) rfl dX9_readBoth_22 ?_
        refine a_bp F (115 : Int32) dX9_readBoth_25 (by decide) ?_
        refine b_ne F 64 dX9_readBoth_27 (by decide) rfl ic_115 (fun c3 => ?_) (fun c3 => ?_)
        · exact L64 _ _ _ _ hR hF hK_N4 hP hD hS (lv_sub hl [] rfl)
        · refine lv_aload_n F.1 F.2.1 dX9_readBoth_30 rfl (lv_at hl 0 rfl) ?_
          refine a_getr F inX9 hP 51 0 tc_51 rfl rfl (by decide) q465 (fun _ h9 => h9) dX9_readBoth_31 ?_
          refine a_Vv F hml hl.1 hA hP hD hS (As := []) (c_X10_readNext_1 l dC dI ad cA nF _  hR) (cs_RX9_45 (d := 3) F.2.2.1 (by decide)) tc_1 rfl rfl rfl rfl (Nat.le_of_ble_eq_true rfl) dX9_readBoth_34 ⟨Nat.le_refl 0, Nat.le_refl 0⟩ (fun u4 H locs hq hP hD hS => ?_)
          obtain ⟨hR, hF4⟩ := hq
          have hF := hF.tr hF4 (by decide)
          have hK_N4 := sp_fr sp_N4 hF4 (by decide) hK_N4
          refine lv_aload_n F.1 F.2.1 dX9_readBoth_37 rfl (lv_at hl 0 rfl) ?_
          refine lv_iload_n F.1 F.2.1 dX9_readBoth_38 rfl (lv_at hl 1 rfl) ?_
          refine a_Vi F hml hl.1 hA hP hD hS (As := [.int p0]) (c_X9_readOne_51_d5 l dC dI ad cA nF _ p0 hR (by omega) hK_N4) (cs_RX9_52 (d := 18) F.2.2.1 (by decide)) tc_51 rfl rfl rfl rfl (Nat.le_of_ble_eq_true rfl) dX9_readBoth_39 ⟨Nat.le_refl 0, Nat.le_refl 0⟩ (fun r5 u5 H locs hq hP hD hS => ?_)
          obtain ⟨hR, hF5, gr5⟩ := hq
          have hF := hF.tr hF5 (by decide)
          have hK_N4 := sp_fr sp_N4 hF5 (by decide) hK_N4
          refine z_ne F 47 dX9_readBoth_42 (by decide) rfl (fun c6 => ?_) (fun c6 => ?_)
          · refine lv_aload_n F.1 F.2.1 dX9_readBoth_47 rfl (lv_at hl 0 rfl) ?_
            refine a_getr F inX9 hP 51 2 tc_51 rfl rfl (by decide) q467 (fun _ h9 => h9) dX9_readBoth_48 ?_
            refine a_bp F (115 : Int32) dX9_readBoth_51 (by decide) ?_
            refine a_ic F (0 : Int32) dX9_readBoth_53 (by decide) ?_
            refine a_ic F (0 : Int32) dX9_readBoth_54 (by decide) ?_
            refine a_Vv F hml hl.1 hA hP hD hS (As := [.int (115 : Int32), .int (0 : Int32), .int (0 : Int32)]) (c_X8_add_47 l dC dI ad cA nF _ (115 : Int32) (0 : Int32) (0 : Int32) hR (by decide) (by decide)) (cs_RX9_48 (d := 1) F.2.2.1 (by decide)) tc_47 rfl rfl rfl rfl (Nat.le_of_ble_eq_true rfl) dX9_readBoth_55 ⟨Nat.le_refl 0, Nat.le_refl 0⟩ (fun u7 H locs hq hP hD hS => ?_)
            obtain ⟨hR, hF7⟩ := hq
            have hF := hF.tr hF7 (by decide)
            have hK_N4 := sp_fr sp_N4 hF7 (by decide) hK_N4
            refine a_iinc F (k := 2) (fun v8 => [(2, .int v8), (0, .ref (ad 51)), (1, .int p0)]) dX9_readBoth_58 hl rfl rfl (by decide) (by omega) (by decide) (fun _ => rfl) (fun v8 ls hv8 hl => ?_)
            refine lv_goto (tgt := 12) F.1 F.2.1 dX9_readBoth_61 (by decide) ?_
            exact ih12 v8 _ _ _ _ hR hF (by omega) hK_N4 (by omega) hP hD hS (lv_sub hl [1, 2, 0] rfl)
          · refine a_ic F (0 : Int32) dX9_readBoth_45 (by decide) ?_
            exact a_retz F hr hlocks hP hD hS dX9_readBoth_46 (Or.inl rfl) ⟨hR, hF, (by decide)⟩
  refine lv_aload_n F.1 F.2.1 dX9_readBoth_0 rfl (lv_at hl 0 rfl) ?_
  refine lv_iload_n F.1 F.2.1 dX9_readBoth_1 rfl (lv_at hl 1 rfl) ?_
  refine a_Vi F hml hl.1 hA hP hD hS (As := [.int p0]) (c_X9_readOne_51_d5 l dC dI ad cA nF _ p0 hR (by omega) hK_N4) (cs_RX9_52 (d := 18) F.2.2.1 (by decide)) tc_51 rfl rfl rfl rfl (Nat.le_of_ble_eq_true rfl) dX9_readBoth_2 ⟨Nat.le_refl 0, Nat.le_refl 0⟩ (fun r9 u9 H locs hq hP hD hS => ?_)
  obtain ⟨hR, hF9, gr9⟩ := hq
  have hF := hF.tr hF9 (by decide)
  have hK_N4 := sp_fr sp_N4 hF9 (by decide) hK_N4
  refine z_ne F 10 dX9_readBoth_5 (by decide) rfl (fun c10 => ?_) (fun c10 => ?_)
  · refine a_ic F (0 : Int32) dX9_readBoth_10 (by decide) ?_
    refine lv_istore_n (lv' := [(2, .int (0 : Int32)), (0, .ref (ad 51)), (1, .int p0)]) F.1 F.2.1 dX9_readBoth_11 rfl hl (by decide) rfl (fun ls hl => ?_)
    exact L12 22 (0 : Int32) _ _ _ _ hR hF (by decide) hK_N4 (by decide) hP hD hS (lv_sub hl [1, 2, 0] rfl)
  · refine a_ic F (0 : Int32) dX9_readBoth_8 (by decide) ?_
    exact a_retz F hr hlocks hP hD hS dX9_readBoth_9 (Or.inl rfl) ⟨hR, hF, (by decide)⟩

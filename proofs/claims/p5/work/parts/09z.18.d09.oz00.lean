def K_X2_nameIndex_4_2_b (B2 : Int64 → Int32 → Int32) (u0 : ac_U) (p0 : Int64) (w1 : Int64) (x3 : Int32) : Int32 := (if (u0.1 4 8).toInt ≤ x3.toInt then (-1 : Int32) else (vl (u0.2 10 x3.toNatClampNeg) (fun (w3 : Int64) => (vl (lg_cmp w3 w1) (fun (v4 : Int32) => (if v4.toInt ≠ 0 then (vl (x3 + Int32.ofInt (1)) (fun (v6 : Int32) => (B2 w1 v6))) else x3))))))
def K_X2_nameIndex_4_2 (u0 : ac_U) (p0 : Int64) : Nat → Int64 → Int32 → Int32
  | 0 => fun w1 x3 => 0
  | n + 1 => fun w1 x3 => K_X2_nameIndex_4_2_b (K_X2_nameIndex_4_2 u0 p0 n) u0 p0 w1 x3
def f_X2_nameIndex_4 (u0 : ac_U) (p0 : Int64) : Int32 := (K_X2_nameIndex_4_2 u0 p0 28 p0 (0 : Int32))
set_option maxHeartbeats 600000 in
set_option maxRecDepth 100000 in
theorem x_X2_nameIndex_4 (l : Launch) (dC : Nat → ClassId) (dI : Nat → Nat → Nat) (ad : Nat → Nat) (cA : Nat → ClassId) (nF : Nat) (u0 : ac_U) (p0 : Int64) (hR : ac_R rg u0) : ac_Mi l yX2_nameIndex (.code yX2_nameIndex cX2_nameIndex 4 (some .int) :: TB) 1 (dC, dI) vwCl (ac_ty cA) ad cA (TT nF) [.ref (ad 4), .long p0] u0 (fun (r : Int32) (u : ac_U) => u = u0 ∧ ((-1 : Int) ≤ r.toInt ∧ r.toInt ≤ 25) ∧ f_X2_nameIndex_4 u0 p0 = r) := by
  refine ac_Mi.of (cc := cX2_nameIndex) (maxL := 4) (ret := (some .int)) (by decide) rfl (Nat.le_of_ble_eq_true rfl) ?_
  intro p e s m below meth c A ls F hml hr hlocks hA hP hD hS hl
  have F : ac_X p s m [.ref (ad 4), .long p0].toArray c cX2_nameIndex RX2 TB (dC, dI) vwCl (ac_ty cA) := ⟨F.1, F.2.1, fun w h => F.2.2.1 w (List.mem_cons_of_mem _ h), F.2.2.2.1, F.2.2.2.2⟩
  have hl : lv_has ls 4 [(0, .ref (ad 4)), (1, .long p0)] := hl
  obtain ⟨RR, hRR⟩ : ∃ q, q = f_X2_nameIndex_4 u0 p0 := ⟨_, rfl⟩
  have L2 : ∀ (n2 : Nat) (w1 : Int64) (x3 : Int32) (H : Heap) (locs : List Loc) (ls : Array Slot), 26 - x3.toInt < (n2 : Int) → (0 : Int) ≤ x3.toInt ∧ x3.toInt ≤ 26 → RR = (K_X2_nameIndex_4_2 u0 p0 n2 w1 x3) → va_P (dC, dI) vwCl (ac_w ad cA (TT nF) u0) H → va_D A (ac_w ad cA (TT nF) u0) → va_S A s.heap H locs → lv_has ls 4 [(0, .ref (ad 4)), (1, .long w1), (3, .int x3)] → W p l e (ac_rm 1) s m [.ref (ad 4), .long p0].toArray below meth c H locs 0 0 (MQ below (va_Qi (fun (r : Int32) (u : ac_U) => u = u0 ∧ ((-1 : Int) ≤ r.toInt ∧ r.toInt ≤ 25) ∧ f_X2_nameIndex_4 u0 p0 = r) (ac_B (dC, dI) vwCl (ac_ty cA) ad cA (TT nF) A) A) [.ref (ad 4), .long p0].toArray s 0 0 A) (F0 m 2 ls []) := by
    intro n2
    induction n2 with
    | zero => intro w1 x3 H locs ls hn2 f0 hC hP hD hS hl; exfalso; omega
    | succ n2 ih2 =>
      intro w1 x3 H locs ls hn2 f0 hC hP hD hS hl
      have hC : RR = K_X2_nameIndex_4_2_b (K_X2_nameIndex_4_2 u0 p0 n2) u0 p0 w1 x3 := hC
      unfold K_X2_nameIndex_4_2_b at hC
      refine lv_iload_n F.1 F.2.1 dX2_nameIndex_2 rfl (lv_at hl 2 rfl) ?_
      refine lv_aload_n F.1 F.2.1 dX2_nameIndex_3 rfl (lv_at hl 0 rfl) ?_
      have g1 : (0 : Int) ≤ (u0.1 4 8).toInt ∧ (u0.1 4 8).toInt ≤ 26 := hR 4 8
      refine a_geti F inX2 hP 4 8 tc_4 rfl rfl (by decide) q188 (fun _ h9 => h9) (v := (u0.1 4 8)) rfl dX2_nameIndex_4 ?_
      refine b_ge F 29 dX2_nameIndex_7 (by decide) rfl rfl (fun c2 => ?_) (fun c2 => ?_)
      · have hC := hC.trans (if_pos c2)
        refine a_ic F (-1 : Int32) dX2_nameIndex_29 (by decide) ?_
        exact a_reti F hr hlocks hP hD hS dX2_nameIndex_30 ⟨rfl, (by decide), hRR.symm.trans hC⟩
      · have hC := hC.trans (if_neg (by omega))
        refine lv_aload_n F.1 F.2.1 dX2_nameIndex_10 rfl (lv_at hl 0 rfl) ?_
        refine a_getr F inX2 hP 4 14 tc_4 rfl rfl (by decide) q197 (fun _ h9 => h9) dX2_nameIndex_11 ?_
        refine lv_iload_n F.1 F.2.1 dX2_nameIndex_14 rfl (lv_at hl 2 rfl) ?_
        refine a_lald F hP 10 tc_10 rfl (i_in rfl (by omega)) dX2_nameIndex_15 (fun w3 ew3 => ?_)
        have hC := vl_eq hC ew3.symm
        refine lv_lload_n F.1 F.2.1 dX2_nameIndex_16 rfl (lv_at hl 1 rfl) ?_
        refine W.lcmp F.1 F.2.1 dX2_nameIndex_17 ?_
        refine lv_topi (fun v4 yv4 => ?_)
        have hC := vl_eq hC yv4
        refine z_ne F 23 dX2_nameIndex_18 (by decide) rfl (fun c5 => ?_) (fun c5 => ?_)
        · have hC := hC.trans (if_pos c5)
          refine a_iincX F (k := 2) (fun v6 => [(3, .int v6), (0, .ref (ad 4)), (1, .long w1)]) dX2_nameIndex_23 hl rfl rfl (by decide) (by omega) (by decide) (fun _ => rfl) (fun v6 ls hv6 yv6 hl => ?_)
          have hC := vl_eq hC yv6
          refine lv_goto (tgt := 2) F.1 F.2.1 dX2_nameIndex_26 (by decide) ?_
          exact ih2 w1 v6 _ _ _ (by omega) (by omega) hC hP hD hS (lv_sub hl [1, 2, 0] rfl)
        · have hC := hC.trans (if_neg (by omega))
          refine lv_iload_n F.1 F.2.1 dX2_nameIndex_21 rfl (lv_at hl 2 rfl) ?_
          exact a_reti F hr hlocks hP hD hS dX2_nameIndex_22 ⟨rfl, (by omega : (-1 : Int) ≤ x3.toInt ∧ x3.toInt ≤ 25), hRR.symm.trans hC⟩
  have hC : RR = f_X2_nameIndex_4 u0 p0 := hRR
  unfold f_X2_nameIndex_4 at hC
  refine a_ic F (0 : Int32) dX2_nameIndex_0 (by decide) ?_
  refine lv_istore_n (lv' := [(3, .int (0 : Int32)), (0, .ref (ad 4)), (1, .long p0)]) F.1 F.2.1 dX2_nameIndex_1 rfl hl (by decide) rfl (fun ls hl => ?_)
  exact L2 28 p0 (0 : Int32) _ _ _ (by decide) (by decide) hC hP hD hS (lv_sub hl [1, 2, 0] rfl)
def K_X10_isKnown_1_4_38 (u0 : ac_U) (p1 : Int32) (u : ac_U) : ac_U × Int32 := (bd (f_X10_fail_1 u (3 : Int32)) (fun (u1 : ac_U) (r1 : Int32) => (u1, r1)))
def f_X10_isKnown_1_4 (u0 : ac_U) (p1 : Int32) : ac_U × Int32 := (if (u0.1 1 6).toInt = (2 : Int) then (vl (f_X2_nameIndex_4 u0 (u0.2 1 7)) (fun (r5 : Int32) => (if r5.toInt = (-1 : Int) then (K_X10_isKnown_1_4_38 u0 p1 u0) else (vl (u0.1 11 r5.toNatClampNeg) (fun (v7 : Int32) => (if v7.toInt = p1.toInt then (vl (u0.1 12 r5.toNatClampNeg) (fun (v9 : Int32) => ((pI u0 1 9 v9), (1 : Int32)))) else (K_X10_isKnown_1_4_38 u0 p1 u0))))))) else (bd (f_X10_fail_1 u0 (1 : Int32)) (fun (u10 : ac_U) (r10 : Int32) => (u10, r10))))
set_option maxHeartbeats 600000 in
set_option maxRecDepth 100000 in
theorem x_X10_isKnown_1_4 (l : Launch) (dC : Nat → ClassId) (dI : Nat → Nat → Nat) (ad : Nat → Nat) (cA : Nat → ClassId) (nF : Nat) (u0 : ac_U) (p1 : Int32) (hR : ac_R rg u0) (hp1 : (0 : Int) ≤ p1.toInt ∧ p1.toInt ≤ 3) (hK_N4 : nmI 11 12 u0) : ac_Mi l yX10_isKnown (.code yX10_isKnown cX10_isKnown 4 (some .boolean) :: TB) 2 (dC, dI) vwCl (ac_ty cA) ad cA (TT nF) [.ref (ad 1), .ref (ad 4), .int p1] u0 (fun (r : Int32) (u : ac_U) => ac_R rg u ∧ ac_Fr [(1, some 9), (1, some 10), (1, some 11)] u0 u ∧ ((0 : Int) ≤ r.toInt ∧ r.toInt ≤ 1) ∧ (r.toInt ≠ 0 → p1.toInt = 1 → (u.1 1 9).toInt ≤ 3) ∧ f_X10_isKnown_1_4 u0 p1 = (u, r)) := by
  refine ac_Mi.of (cc := cX10_isKnown) (maxL := 4) (ret := (some .boolean)) (by decide) rfl (Nat.le_of_ble_eq_true rfl) ?_
  intro p e s m below meth c A ls F hml hr hlocks hA hP hD hS hl
  have F : ac_X p s m [.ref (ad 1), .ref (ad 4), .int p1].toArray c cX10_isKnown RX10 TB (dC, dI) vwCl (ac_ty cA) := ⟨F.1, F.2.1, fun w h => F.2.2.1 w (List.mem_cons_of_mem _ h), F.2.2.2.1, F.2.2.2.2⟩
  have hl : lv_has ls 4 [(0, .ref (ad 1)), (1, .ref (ad 4)), (2, .int p1)] := hl
  obtain ⟨RR, hRR⟩ : ∃ q, q = f_X10_isKnown_1_4 u0 p1 := ⟨_, rfl⟩
  have hF : ac_Fr [(1, some 9), (1, some 10), (1, some 11)] u0 u0 := ac_Fr.rf
  have L38 : ∀ (u : ac_U) (H : Heap) (locs : List Loc) (ls : Array Slot), ac_R rg u → ac_Fr [(1, some 9), (1, some 10), (1, some 11)] u0 u → nmI 11 12 u → (2 : Int) ≤ (u.1 1 6).toInt ∧ (u.1 1 6).toInt ≤ 2 → RR = (K_X10_isKnown_1_4_38 u0 p1 u) → va_P (dC, dI) vwCl (ac_w ad cA (TT nF) u) H → va_D A (ac_w ad cA (TT nF) u) → va_S A s.heap H locs → lv_has ls 4 [(0, .ref (ad 1))] → W p l e (ac_rm 2) s m [.ref (ad 1), .ref (ad 4), .int p1].toArray below meth c H locs 0 0 (MQ below (va_Qi (fun (r : Int32) (u : ac_U) => ac_R rg u ∧ ac_Fr [(1, some 9), (1, some 10), (1, some 11)] u0 u ∧ ((0 : Int) ≤ r.toInt ∧ r.toInt ≤ 1) ∧ (r.toInt ≠ 0 → p1.toInt = 1 → (u.1 1 9).toInt ≤ 3) ∧ f_X10_isKnown_1_4 u0 p1 = (u, r)) (ac_B (dC, dI) vwCl (ac_ty cA) ad cA (TT nF) A) A) [.ref (ad 1), .ref (ad 4), .int p1].toArray s 0 0 A) (F0 m 38 ls []) := by
    intro u H locs ls hR hF hK_N4 f0 hC hP hD hS hl
    unfold K_X10_isKnown_1_4_38 at hC
    refine lv_aload_n F.1 F.2.1 dX10_isKnown_38 rfl (lv_at hl 0 rfl) ?_
    refine a_ic F (3 : Int32) dX10_isKnown_39 (by decide) ?_
    refine a_Vi F hml hl.1 hA hP hD hS (As := [.int (3 : Int32)]) (x_X10_fail_1 l dC dI ad cA nF _ (3 : Int32) hR (by decide)) (cs_RX10_90 (d := 1) F.2.2.1 (by decide)) tc_1 rfl rfl rfl rfl (Nat.le_of_ble_eq_true rfl) dX10_isKnown_40 ⟨Nat.le_refl 0, Nat.le_refl 0⟩ (fun r1 u1 H locs hq hP hD hS => ?_)
    obtain ⟨hR, hF1, gr1, hz1⟩ := hq
    have hF := hF.tr hF1 (by decide)
    have hK_N4 := sp_fr sp_N4 hF1 (by decide) hK_N4
    have hC := bd_eq hC hz1
    have g2 : (0 : Int) ≤ (u1.1 1 9).toInt ∧ (u1.1 1 9).toInt ≤ 7 := hR 1 9
    exact a_retz F hr hlocks hP hD hS dX10_isKnown_43 (i_01 (by omega)) ⟨hR, hF, (by omega : (0 : Int) ≤ r1.toInt ∧ r1.toInt ≤ 1), (by omega : r1.toInt ≠ 0 → p1.toInt = 1 → (u1.1 1 9).toInt ≤ 3), hRR.symm.trans hC⟩
  have hC : RR = f_X10_isKnown_1_4 u0 p1 := hRR
  unfold f_X10_isKnown_1_4 at hC
  refine lv_aload_n F.1 F.2.1 dX10_isKnown_0 rfl (lv_at hl 0 rfl) ?_
  have g3 : (-128 : Int) ≤ (u0.1 1 6).toInt ∧ (u0.1 1 6).toInt ≤ 127 := hR 1 6
  refine a_geti F inX10 hP 1 6 tc_1 rfl rfl (by decide) q100 (fun _ h9 => h9) (v := (u0.1 1 6)) rfl dX10_isKnown_1 ?_
  refine a_ic F (2 : Int32) dX10_isKnown_4 (by decide) ?_
  refine b_eq F 14 dX10_isKnown_5 (by decide) rfl ic_2 (fun c4 => ?_) (fun c4 => ?_)
  · have hC := hC.trans (if_pos c4)
    refine lv_aload_n F.1 F.2.1 dX10_isKnown_14 rfl (lv_at hl 1 rfl) ?_
    refine lv_aload_n F.1 F.2.1 dX10_isKnown_15 rfl (lv_at hl 0 rfl) ?_
    refine a_getl F inX10 hP 1 7 tc_1 rfl rfl (by decide) q104 (fun _ h9 => h9) (v := (u0.2 1 7)) rfl dX10_isKnown_16 ?_
    refine a_Vi F hml hl.1 hA hP hD hS (As := [.long (u0.2 1 7)]) (x_X2_nameIndex_4 l dC dI ad cA nF _ (u0.2 1 7) hR) (cs_RX10_93 (d := 1) F.2.2.1 (by decide)) tc_4 rfl rfl rfl rfl (Nat.le_of_ble_eq_true rfl) dX10_isKnown_19 ⟨Nat.le_refl 0, Nat.le_refl 0⟩ (fun r5 uN5 H locs hq hP hD hS => ?_)
    obtain ⟨hu5, gr5, hz5⟩ := hq
    rw [hu5] at hP hD
    have hC := vl_eq hC hz5.symm
    refine lv_istore_n (lv' := [(3, .int r5), (0, .ref (ad 1)), (1, .ref (ad 4)), (2, .int p1)]) F.1 F.2.1 dX10_isKnown_22 rfl hl (by decide) rfl (fun ls hl => ?_)
    refine lv_iload_n F.1 F.2.1 dX10_isKnown_23 rfl (lv_at hl 0 rfl) ?_
    refine a_ic F (-1 : Int32) dX10_isKnown_24 (by decide) ?_
    refine b_eq F 38 dX10_isKnown_25 (by decide) rfl ic_m1 (fun c6 => ?_) (fun c6 => ?_)
    · have hC := hC.trans (if_pos c6)
      exact L38 _ _ _ _ hR hF hK_N4 (by omega : (2 : Int) ≤ (u0.1 1 6).toInt ∧ (u0.1 1 6).toInt ≤ 2) hC hP hD hS (lv_sub hl [1] rfl)
    · have hC := hC.trans (if_neg (by omega))
      refine lv_aload_n F.1 F.2.1 dX10_isKnown_28 rfl (lv_at hl 2 rfl) ?_
      refine a_getr F inX2 hP 4 15 tc_4 rfl rfl (by decide) q199 (fun _ h9 => h9) dX10_isKnown_29 ?_
      refine lv_iload_n F.1 F.2.1 dX10_isKnown_32 rfl (lv_at hl 0 rfl) ?_
      refine a_iald F hP 11 tc_11 rfl (i_in rfl (by omega)) dX10_isKnown_33 (fun v7 ev7 => ?_)
      have hC := vl_eq hC ev7.symm
      have hv7 : (0 : Int) ≤ v7.toInt ∧ v7.toInt ≤ 3 := ev7 ▸ hR 11 _
      refine lv_iload_n F.1 F.2.1 dX10_isKnown_34 rfl (lv_at hl 3 rfl) ?_
      refine b_eq F 44 dX10_isKnown_35 (by decide) rfl rfl (fun c8 => ?_) (fun c8 => ?_)
      · have hC := hC.trans (if_pos c8)
        refine lv_aload_n F.1 F.2.1 dX10_isKnown_44 rfl (lv_at hl 1 rfl) ?_
        refine lv_aload_n F.1 F.2.1 dX10_isKnown_45 rfl (lv_at hl 2 rfl) ?_
        refine a_getr F inX2 hP 4 16 tc_4 rfl rfl (by decide) q201 (fun _ h9 => h9) dX10_isKnown_46 ?_
        refine lv_iload_n F.1 F.2.1 dX10_isKnown_49 rfl (lv_at hl 0 rfl) ?_
        refine a_iald F hP 12 tc_12 rfl (i_in rfl (by omega)) dX10_isKnown_50 (fun v9 ev9 => ?_)
        have hC := vl_eq hC ev9.symm
        have hv9 : (0 : Int) ≤ v9.toInt ∧ v9.toInt ≤ 7 := ev9 ▸ hR 12 _
        have hm9 := nm_get hK_N4 (i := r5) (by omega) ev7 ev9
        refine a_puti F inX10 tyX10 tyX10_ok nmX10 hP hD hS 1 9 tc_1 rfl rfl (by decide) q110 (fun _ h9 => h9) rfl (ty := .int) (tyX10_ok 9 (by decide)) rfl rfl dX10_isKnown_51 (fun H locs hP hD hS => ?_)
        have hR := hR.si (c := 1) (k := 9) (v := v9) (by omega : (0 : Int) ≤ v9.toInt ∧ v9.toInt ≤ 7)
        have hF := hF.si (c := 1) (k := 9) (v := v9) rfl
        have hK_N4 := sp_sgD sp_N4 hD hK_N4 (by decide)
        refine a_ic F (1 : Int32) dX10_isKnown_54 (by decide) ?_
        exact a_retz F hr hlocks hP hD hS dX10_isKnown_55 (Or.inr rfl) ⟨hR, hF, (by decide), (by first | exact (by omega : (1 : Int) ≠ 0 → p1.toInt = 1 → v9.toInt ≤ 3) | (rw [ic_1]; exact (by omega : (1 : Int) ≠ 0 → p1.toInt = 1 → v9.toInt ≤ 3))), hRR.symm.trans hC⟩
      · have hC := hC.trans (if_neg (by omega))
        exact L38 _ _ _ _ hR hF hK_N4 (by omega : (2 : Int) ≤ (u0.1 1 6).toInt ∧ (u0.1 1 6).toInt ≤ 2) hC hP hD hS (lv_sub hl [1] rfl)
  · have hC := hC.trans (if_neg (by omega))
    refine lv_aload_n F.1 F.2.1 dX10_isKnown_8 rfl (lv_at hl 0 rfl) ?_
    refine a_ic F (1 : Int32) dX10_isKnown_9 (by decide) ?_
    refine a_Vi F hml hl.1 hA hP hD hS (As := [.int (1 : Int32)]) (x_X10_fail_1 l dC dI ad cA nF _ (1 : Int32) hR (by decide)) (cs_RX10_90 (d := 1) F.2.2.1 (by decide)) tc_1 rfl rfl rfl rfl (Nat.le_of_ble_eq_true rfl) dX10_isKnown_10 ⟨Nat.le_refl 0, Nat.le_refl 0⟩ (fun r10 u10 H locs hq hP hD hS => ?_)
    obtain ⟨hR, hF10, gr10, hz10⟩ := hq
    have hF := hF.tr hF10 (by decide)
    have hK_N4 := sp_fr sp_N4 hF10 (by decide) hK_N4
    have hC := bd_eq hC hz10
    have g11 : (0 : Int) ≤ (u10.1 1 9).toInt ∧ (u10.1 1 9).toInt ≤ 7 := hR 1 9
    exact a_retz F hr hlocks hP hD hS dX10_isKnown_13 (i_01 (by omega)) ⟨hR, hF, (by omega : (0 : Int) ≤ r10.toInt ∧ r10.toInt ≤ 1), (by omega : r10.toInt ≠ 0 → p1.toInt = 1 → (u10.1 1 9).toInt ≤ 3), hRR.symm.trans hC⟩

def f_X8_add_47 (u0 : ac_U) (p0 : Int32) (p1 : Int32) (p2 : Int32) : ac_U := (if (40 : Int) ≤ (u0.1 47 3).toInt then u0 else (vl ((u0.1 47 3) + (1 : Int32)) (fun (v3 : Int32) => (pI (pI (pI (pI u0 48 (u0.1 47 3).toNatClampNeg p0) 49 (u0.1 47 3).toNatClampNeg p1) 50 (u0.1 47 3).toNatClampNeg p2) 47 3 v3))))
set_option maxHeartbeats 600000 in
set_option maxRecDepth 100000 in
theorem x_X8_add_47 (l : Launch) (dC : Nat → ClassId) (dI : Nat → Nat → Nat) (ad : Nat → Nat) (cA : Nat → ClassId) (nF : Nat) (u0 : ac_U) (p0 : Int32) (p1 : Int32) (p2 : Int32) (hR : ac_R rg u0) (hp0 : (41 : Int) ≤ p0.toInt ∧ p0.toInt ≤ 126) (hp1 : (-128 : Int) ≤ p1.toInt ∧ p1.toInt ≤ 127) : ac_Mv l yX8_add (.code yX8_add cX8_add 4 none :: TB) 1 (dC, dI) vwCl (ac_ty cA) ad cA (TT nF) [.ref (ad 47), .int p0, .int p1, .int p2] u0 (fun (u : ac_U) => ac_R rg u ∧ ac_Fr [(47, some 3), (48, none), (49, none), (50, none)] u0 u ∧ f_X8_add_47 u0 p0 p1 p2 = u) := by
  refine ac_Mv.of (cc := cX8_add) (maxL := 4) (ret := none) (by decide) rfl (Nat.le_of_ble_eq_true rfl) ?_
  intro p e s m below meth c A ls F hml hr hlocks hA hP hD hS hl
  have F : ac_X p s m [.ref (ad 47), .int p0, .int p1, .int p2].toArray c cX8_add RX8 TB (dC, dI) vwCl (ac_ty cA) := ⟨F.1, F.2.1, fun w h => F.2.2.1 w (List.mem_cons_of_mem _ h), F.2.2.2.1, F.2.2.2.2⟩
  have hl : lv_has ls 4 [(0, .ref (ad 47)), (1, .int p0), (2, .int p1), (3, .int p2)] := hl
  obtain ⟨RR, hRR⟩ : ∃ q, q = f_X8_add_47 u0 p0 p1 p2 := ⟨_, rfl⟩
  have hF : ac_Fr [(47, some 3), (48, none), (49, none), (50, none)] u0 u0 := ac_Fr.rf
  have hC : RR = f_X8_add_47 u0 p0 p1 p2 := hRR
  unfold f_X8_add_47 at hC
  refine lv_aload_n F.1 F.2.1 dX8_add_0 rfl (lv_at hl 0 rfl) ?_
  have g1 : (0 : Int) ≤ (u0.1 47 3).toInt ∧ (u0.1 47 3).toInt ≤ 40 := hR 47 3
  refine a_geti F inX8 hP 47 3 tc_47 rfl rfl (by decide) q443 (fun _ h9 => h9) (v := (u0.1 47 3)) rfl dX8_add_1 ?_
  refine lv_aload_n F.1 F.2.1 dX8_add_4 rfl (lv_at hl 0 rfl) ?_
  refine a_getr F inX8 hP 47 0 tc_47 rfl rfl (by decide) q440 (fun _ h9 => h9) dX8_add_5 ?_
  refine va_alen (v := (40 : Int32)) F.1 F.2.1 F.2.2.2.2 hP 48 0 (ac_at tc_48) rfl rfl dX8_add_8 ?_
  refine b_ge F 52 dX8_add_9 (by decide) rfl ic_40 (fun c2 => ?_) (fun c2 => ?_)
  · have hC := hC.trans (if_pos c2)
    exact a_retv F hr hlocks hP hD hS dX8_add_52 ⟨hR, hF, hRR.symm.trans hC⟩
  · have hC := hC.trans (if_neg (by omega))
    refine lv_aload_n F.1 F.2.1 dX8_add_12 rfl (lv_at hl 0 rfl) ?_
    refine a_getr F inX8 hP 47 0 tc_47 rfl rfl (by decide) q440 (fun _ h9 => h9) dX8_add_13 ?_
    refine lv_aload_n F.1 F.2.1 dX8_add_16 rfl (lv_at hl 0 rfl) ?_
    refine a_geti F inX8 hP 47 3 tc_47 rfl rfl (by decide) q443 (fun _ h9 => h9) (v := (u0.1 47 3)) (rfl) dX8_add_17 ?_
    refine lv_iload_n F.1 F.2.1 dX8_add_20 rfl (lv_at hl 1 rfl) ?_
    refine a_iast F hP hD hS 48 tc_48 rfl (i_in rfl (by omega)) dX8_add_21 (fun H locs hP hD hS => ?_)
    have hR := hR.si (c := 48) (k := (u0.1 47 3).toNatClampNeg) (v := p0) ⟨i_lo _, i_hi _⟩
    have hF := hF.si (c := 48) (k := (u0.1 47 3).toNatClampNeg) (v := p0) rfl
    refine lv_aload_n F.1 F.2.1 dX8_add_22 rfl (lv_at hl 0 rfl) ?_
    refine a_getr F inX8 hP 47 1 tc_47 rfl rfl (by decide) q441 (fun _ h9 => h9) dX8_add_23 ?_
    refine lv_aload_n F.1 F.2.1 dX8_add_26 rfl (lv_at hl 0 rfl) ?_
    refine a_geti F inX8 hP 47 3 tc_47 rfl rfl (by decide) q443 (fun _ h9 => h9) (v := (u0.1 47 3)) (rfl) dX8_add_27 ?_
    refine lv_iload_n F.1 F.2.1 dX8_add_30 rfl (lv_at hl 2 rfl) ?_
    refine a_iast F hP hD hS 49 tc_49 rfl (i_in rfl (by omega)) dX8_add_31 (fun H locs hP hD hS => ?_)
    have hR := hR.si (c := 49) (k := (u0.1 47 3).toNatClampNeg) (v := p1) ⟨i_lo _, i_hi _⟩
    have hF := hF.si (c := 49) (k := (u0.1 47 3).toNatClampNeg) (v := p1) rfl
    refine lv_aload_n F.1 F.2.1 dX8_add_32 rfl (lv_at hl 0 rfl) ?_
    refine a_getr F inX8 hP 47 2 tc_47 rfl rfl (by decide) q442 (fun _ h9 => h9) dX8_add_33 ?_
    refine lv_aload_n F.1 F.2.1 dX8_add_36 rfl (lv_at hl 0 rfl) ?_
    refine a_geti F inX8 hP 47 3 tc_47 rfl rfl (by decide) q443 (fun _ h9 => h9) (v := (u0.1 47 3)) (rfl) dX8_add_37 ?_
    refine lv_iload_n F.1 F.2.1 dX8_add_40 rfl (lv_at hl 3 rfl) ?_
    refine a_iast F hP hD hS 50 tc_50 rfl (i_in rfl (by omega)) dX8_add_41 (fun H locs hP hD hS => ?_)
    have hR := hR.si (c := 50) (k := (u0.1 47 3).toNatClampNeg) (v := p2) ⟨i_lo _, i_hi _⟩
    have hF := hF.si (c := 50) (k := (u0.1 47 3).toNatClampNeg) (v := p2) rfl
    refine lv_aload_n F.1 F.2.1 dX8_add_42 rfl (lv_at hl 0 rfl) ?_
    refine lv_dup F.1 F.2.1 dX8_add_43 rfl ?_
    refine a_geti F inX8 hP 47 3 tc_47 rfl rfl (by decide) q443 (fun _ h9 => h9) (v := (u0.1 47 3)) (rfl) dX8_add_44 ?_
    refine a_ic F (1 : Int32) dX8_add_47 (by decide) ?_
    refine a_iaddX F dX8_add_48 rfl ic_1 (by omega) (fun v3 hv3 yv3 => ?_)
    have hC := vl_eq hC yv3
    refine a_puti F inX8 tyX8 tyX8_ok nmX8 hP hD hS 47 3 tc_47 rfl rfl (by decide) q443 (fun _ h9 => h9) rfl (ty := .int) (tyX8_ok 3 (by decide)) rfl rfl dX8_add_49 (fun H locs hP hD hS => ?_)
    have hR := hR.si (c := 47) (k := 3) (v := v3) (by omega : (0 : Int) ≤ v3.toInt ∧ v3.toInt ≤ 40)
    have hF := hF.si (c := 47) (k := 3) (v := v3) rfl
    exact a_retv F hr hlocks hP hD hS dX8_add_52 ⟨hR, hF, hRR.symm.trans hC⟩

def f_X8_clear_47 (u0 : ac_U) : ac_U := (pI (pI u0 47 3 (0 : Int32)) 47 4 (0 : Int32))
set_option maxHeartbeats 600000 in
set_option maxRecDepth 100000 in
theorem x_X8_clear_47 (l : Launch) (dC : Nat → ClassId) (dI : Nat → Nat → Nat) (ad : Nat → Nat) (cA : Nat → ClassId) (nF : Nat) (u0 : ac_U)  (hR : ac_R rg u0) : ac_Mv l yX8_clear (.code yX8_clear cX8_clear 1 none :: TB) 1 (dC, dI) vwCl (ac_ty cA) ad cA (TT nF) [.ref (ad 47)] u0 (fun (u : ac_U) => ac_R rg u ∧ ac_Fr [(47, some 3), (47, some 4)] u0 u ∧ f_X8_clear_47 u0 = u) := by
  refine ac_Mv.of (cc := cX8_clear) (maxL := 1) (ret := none) (by decide) rfl (Nat.le_of_ble_eq_true rfl) ?_
  intro p e s m below meth c A ls F hml hr hlocks hA hP hD hS hl
  have F : ac_X p s m [.ref (ad 47)].toArray c cX8_clear RX8 TB (dC, dI) vwCl (ac_ty cA) := ⟨F.1, F.2.1, fun w h => F.2.2.1 w (List.mem_cons_of_mem _ h), F.2.2.2.1, F.2.2.2.2⟩
  have hl : lv_has ls 1 [(0, .ref (ad 47))] := hl
  obtain ⟨RR, hRR⟩ : ∃ q, q = f_X8_clear_47 u0 := ⟨_, rfl⟩
  have hF : ac_Fr [(47, some 3), (47, some 4)] u0 u0 := ac_Fr.rf
  have hC : RR = f_X8_clear_47 u0 := hRR
  unfold f_X8_clear_47 at hC
  refine lv_aload_n F.1 F.2.1 dX8_clear_0 rfl (lv_at hl 0 rfl) ?_
  refine a_ic F (0 : Int32) dX8_clear_1 (by decide) ?_
  refine a_puti F inX8 tyX8 tyX8_ok nmX8 hP hD hS 47 3 tc_47 rfl rfl (by decide) q443 (fun _ h9 => h9) rfl (ty := .int) (tyX8_ok 3 (by decide)) rfl rfl dX8_clear_2 (fun H locs hP hD hS => ?_)
  have hR := hR.si (c := 47) (k := 3) (v := (0 : Int32)) (by rw [ic_0]; exact (by omega : (0 : Int) ≤ (0 : Int) ∧ (0 : Int) ≤ 40))
  have hF := hF.si (c := 47) (k := 3) (v := (0 : Int32)) rfl
  refine lv_aload_n F.1 F.2.1 dX8_clear_5 rfl (lv_at hl 0 rfl) ?_
  refine a_ic F (0 : Int32) dX8_clear_6 (by decide) ?_
  refine a_puti F inX8 tyX8 tyX8_ok nmX8 hP hD hS 47 4 tc_47 rfl rfl (by decide) q445 (fun _ h9 => h9) rfl (ty := .int) (tyX8_ok 4 (by decide)) rfl rfl dX8_clear_7 (fun H locs hP hD hS => ?_)
  have hR := hR.si (c := 47) (k := 4) (v := (0 : Int32)) (by rw [ic_0]; exact (by omega : (0 : Int) ≤ (0 : Int) ∧ (0 : Int) ≤ 20))
  have hF := hF.si (c := 47) (k := 4) (v := (0 : Int32)) rfl
  exact a_retv F hr hlocks hP hD hS dX8_clear_10 ⟨hR, hF, hRR.symm.trans hC⟩

def f_X8_copyFrom_43_47 (u0 : ac_U) : ac_U := (cpI (cpI (cpI (pI (pI u0 43 3 (u0.1 47 3)) 43 4 (u0.1 47 4)) 48 44 (0 : Int32).toNatClampNeg (0 : Int32).toNatClampNeg (40 : Int32).toNatClampNeg) 49 45 (0 : Int32).toNatClampNeg (0 : Int32).toNatClampNeg (40 : Int32).toNatClampNeg) 50 46 (0 : Int32).toNatClampNeg (0 : Int32).toNatClampNeg (40 : Int32).toNatClampNeg)
set_option maxHeartbeats 600000 in
set_option maxRecDepth 100000 in
theorem x_X8_copyFrom_43_47 (l : Launch) (dC : Nat → ClassId) (dI : Nat → Nat → Nat) (ad : Nat → Nat) (cA : Nat → ClassId) (nF : Nat) (u0 : ac_U)  (hR : ac_R rg u0) : ac_Mv l yX8_copyFrom (.code yX8_copyFrom cX8_copyFrom 2 none :: TB) 1 (dC, dI) vwCl (ac_ty cA) ad cA (TT nF) [.ref (ad 43), .ref (ad 47)] u0 (fun (u : ac_U) => ac_R rg u ∧ ac_Fr [(43, some 3), (43, some 4), (44, none), (45, none), (46, none)] u0 u ∧ f_X8_copyFrom_43_47 u0 = u) := by
  refine ac_Mv.of (cc := cX8_copyFrom) (maxL := 2) (ret := none) (by decide) rfl (Nat.le_of_ble_eq_true rfl) ?_
  intro p e s m below meth c A ls F hml hr hlocks hA hP hD hS hl
  have F : ac_X p s m [.ref (ad 43), .ref (ad 47)].toArray c cX8_copyFrom RX8 TB (dC, dI) vwCl (ac_ty cA) := ⟨F.1, F.2.1, fun w h => F.2.2.1 w (List.mem_cons_of_mem _ h), F.2.2.2.1, F.2.2.2.2⟩
  have hl : lv_has ls 2 [(0, .ref (ad 43)), (1, .ref (ad 47))] := hl
  obtain ⟨RR, hRR⟩ : ∃ q, q = f_X8_copyFrom_43_47 u0 := ⟨_, rfl⟩
  have hF : ac_Fr [(43, some 3), (43, some 4), (44, none), (45, none), (46, none)] u0 u0 := ac_Fr.rf
  have hC : RR = f_X8_copyFrom_43_47 u0 := hRR
  unfold f_X8_copyFrom_43_47 at hC
  refine lv_aload_n F.1 F.2.1 dX8_copyFrom_0 rfl (lv_at hl 0 rfl) ?_
  refine lv_aload_n F.1 F.2.1 dX8_copyFrom_1 rfl (lv_at hl 1 rfl) ?_
  have g1 : (0 : Int) ≤ (u0.1 47 3).toInt ∧ (u0.1 47 3).toInt ≤ 40 := hR 47 3
  refine a_geti F inX8 hP 47 3 tc_47 rfl rfl (by decide) q443 (fun _ h9 => h9) (v := (u0.1 47 3)) rfl dX8_copyFrom_2 ?_
  refine a_puti F inX8 tyX8 tyX8_ok nmX8 hP hD hS 43 3 tc_43 rfl rfl (by decide) q443 (fun _ h9 => h9) rfl (ty := .int) (tyX8_ok 3 (by decide)) rfl rfl dX8_copyFrom_5 (fun H locs hP hD hS => ?_)
  have hR := hR.si (c := 43) (k := 3) (v := (u0.1 47 3)) (by omega : (0 : Int) ≤ (u0.1 47 3).toInt ∧ (u0.1 47 3).toInt ≤ 40)
  have hF := hF.si (c := 43) (k := 3) (v := (u0.1 47 3)) rfl
  refine lv_aload_n F.1 F.2.1 dX8_copyFrom_8 rfl (lv_at hl 0 rfl) ?_
  refine lv_aload_n F.1 F.2.1 dX8_copyFrom_9 rfl (lv_at hl 1 rfl) ?_
  have g2 : (0 : Int) ≤ (u0.1 47 4).toInt ∧ (u0.1 47 4).toInt ≤ 20 := hR 47 4
  refine a_geti F inX8 hP 47 4 tc_47 rfl rfl (by decide) q445 (fun _ h9 => h9) (v := (u0.1 47 4)) rfl dX8_copyFrom_10 ?_
  refine a_puti F inX8 tyX8 tyX8_ok nmX8 hP hD hS 43 4 tc_43 rfl rfl (by decide) q445 (fun _ h9 => h9) rfl (ty := .int) (tyX8_ok 4 (by decide)) rfl rfl dX8_copyFrom_13 (fun H locs hP hD hS => ?_)
  have hR := hR.si (c := 43) (k := 4) (v := (u0.1 47 4)) (by omega : (0 : Int) ≤ (u0.1 47 4).toInt ∧ (u0.1 47 4).toInt ≤ 20)
  have hF := hF.si (c := 43) (k := 4) (v := (u0.1 47 4)) rfl
  refine lv_aload_n F.1 F.2.1 dX8_copyFrom_16 rfl (lv_at hl 1 rfl) ?_
  refine a_getr F inX8 hP 47 0 tc_47 rfl rfl (by decide) q440 (fun _ h9 => h9) dX8_copyFrom_17 ?_
  refine a_ic F (0 : Int32) dX8_copyFrom_20 (by decide) ?_
  refine lv_aload_n F.1 F.2.1 dX8_copyFrom_21 rfl (lv_at hl 0 rfl) ?_
  refine a_getr F inX8 hP 43 0 tc_43 rfl rfl (by decide) q440 (fun _ h9 => h9) dX8_copyFrom_22 ?_
  refine a_ic F (0 : Int32) dX8_copyFrom_25 (by decide) ?_
  refine lv_aload_n F.1 F.2.1 dX8_copyFrom_26 rfl (lv_at hl 0 rfl) ?_
  refine a_getr F inX8 hP 43 0 tc_43 rfl rfl (by decide) q440 (fun _ h9 => h9) dX8_copyFrom_27 ?_
  refine va_alen (v := (40 : Int32)) F.1 F.2.1 F.2.2.2.2 hP 44 0 (ac_at tc_44) rfl rfl dX8_copyFrom_30 ?_
  refine a_cpyi F (hml.trans hl.1.symm) q1313 q708 q707 q19 hP hD hS 48 44 tc_48 tc_44 rfl (by decide) (by decide) (by decide) (by simp only [ic_0, ic_40]; omega) (by simp only [ic_0, ic_40]; omega) (by decide) (by decide) dX8_copyFrom_31 (fun H locs hP hD hS => ?_)
  have hR := hR.cp (c0 := 48) (c1 := 44) (sp := (0 : Int32).toNatClampNeg) (dp := (0 : Int32).toNatClampNeg) (n := (40 : Int32).toNatClampNeg) (by decide +kernel)
  have hF := hF.cp (c0 := 48) (c1 := 44) (sp := (0 : Int32).toNatClampNeg) (dp := (0 : Int32).toNatClampNeg) (n := (40 : Int32).toNatClampNeg) (fun _ => rfl)
  refine lv_aload_n F.1 F.2.1 dX8_copyFrom_34 rfl (lv_at hl 1 rfl) ?_
  refine a_getr F inX8 hP 47 1 tc_47 rfl rfl (by decide) q441 (fun _ h9 => h9) dX8_copyFrom_35 ?_
  refine a_ic F (0 : Int32) dX8_copyFrom_38 (by decide) ?_
  refine lv_aload_n F.1 F.2.1 dX8_copyFrom_39 rfl (lv_at hl 0 rfl) ?_
  refine a_getr F inX8 hP 43 1 tc_43 rfl rfl (by decide) q441 (fun _ h9 => h9) dX8_copyFrom_40 ?_
  refine a_ic F (0 : Int32) dX8_copyFrom_43 (by decide) ?_
  refine lv_aload_n F.1 F.2.1 dX8_copyFrom_44 rfl (lv_at hl 0 rfl) ?_
  refine a_getr F inX8 hP 43 1 tc_43 rfl rfl (by decide) q441 (fun _ h9 => h9) dX8_copyFrom_45 ?_
  refine va_alen (v := (40 : Int32)) F.1 F.2.1 F.2.2.2.2 hP 45 0 (ac_at tc_45) rfl rfl dX8_copyFrom_48 ?_
  refine a_cpyi F (hml.trans hl.1.symm) q1313 q708 q707 q19 hP hD hS 49 45 tc_49 tc_45 rfl (by decide) (by decide) (by decide) (by simp only [ic_0, ic_40]; omega) (by simp only [ic_0, ic_40]; omega) (by decide) (by decide) dX8_copyFrom_49 (fun H locs hP hD hS => ?_)
  have hR := hR.cp (c0 := 49) (c1 := 45) (sp := (0 : Int32).toNatClampNeg) (dp := (0 : Int32).toNatClampNeg) (n := (40 : Int32).toNatClampNeg) (by decide +kernel)
  have hF := hF.cp (c0 := 49) (c1 := 45) (sp := (0 : Int32).toNatClampNeg) (dp := (0 : Int32).toNatClampNeg) (n := (40 : Int32).toNatClampNeg) (fun _ => rfl)
  refine lv_aload_n F.1 F.2.1 dX8_copyFrom_52 rfl (lv_at hl 1 rfl) ?_
  refine a_getr F inX8 hP 47 2 tc_47 rfl rfl (by decide) q442 (fun _ h9 => h9) dX8_copyFrom_53 ?_
  refine a_ic F (0 : Int32) dX8_copyFrom_56 (by decide) ?_
  refine lv_aload_n F.1 F.2.1 dX8_copyFrom_57 rfl (lv_at hl 0 rfl) ?_
  refine a_getr F inX8 hP 43 2 tc_43 rfl rfl (by decide) q442 (fun _ h9 => h9) dX8_copyFrom_58 ?_
  refine a_ic F (0 : Int32) dX8_copyFrom_61 (by decide) ?_
  refine lv_aload_n F.1 F.2.1 dX8_copyFrom_62 rfl (lv_at hl 0 rfl) ?_
  refine a_getr F inX8 hP 43 2 tc_43 rfl rfl (by decide) q442 (fun _ h9 => h9) dX8_copyFrom_63 ?_
  refine va_alen (v := (40 : Int32)) F.1 F.2.1 F.2.2.2.2 hP 46 0 (ac_at tc_46) rfl rfl dX8_copyFrom_66 ?_
  refine a_cpyi F (hml.trans hl.1.symm) q1313 q708 q707 q19 hP hD hS 50 46 tc_50 tc_46 rfl (by decide) (by decide) (by decide) (by simp only [ic_0, ic_40]; omega) (by simp only [ic_0, ic_40]; omega) (by decide) (by decide) dX8_copyFrom_67 (fun H locs hP hD hS => ?_)
  have hR := hR.cp (c0 := 50) (c1 := 46) (sp := (0 : Int32).toNatClampNeg) (dp := (0 : Int32).toNatClampNeg) (n := (40 : Int32).toNatClampNeg) (by decide +kernel)
  have hF := hF.cp (c0 := 50) (c1 := 46) (sp := (0 : Int32).toNatClampNeg) (dp := (0 : Int32).toNatClampNeg) (n := (40 : Int32).toNatClampNeg) (fun _ => rfl)
  exact a_retv F hr hlocks hP hD hS dX8_copyFrom_70 ⟨hR, hF, hRR.symm.trans hC⟩

def f_X9_begin_51 (u0 : ac_U) : ac_U := (vl (f_X8_clear_47 u0) (fun (u1 : ac_U) => (vl (f_X10_startReading_1 u1 (200 : Int32)) (fun (u2 : ac_U) => u2))))
set_option maxHeartbeats 600000 in
set_option maxRecDepth 100000 in
theorem x_X9_begin_51 (l : Launch) (dC : Nat → ClassId) (dI : Nat → Nat → Nat) (ad : Nat → Nat) (cA : Nat → ClassId) (nF : Nat) (u0 : ac_U)  (hR : ac_R rg u0) : ac_Mv l yX9_begin (.code yX9_begin cX9_begin 1 none :: TB) 5 (dC, dI) vwCl (ac_ty cA) ad cA (TT nF) [.ref (ad 51)] u0 (fun (u : ac_U) => ac_R rg u ∧ ac_Fr [(1, some 3), (1, some 4), (1, some 5), (1, some 6), (1, some 8), (1, some 10), (1, some 11), (47, some 3), (47, some 4)] u0 u ∧ f_X9_begin_51 u0 = u) := by
  refine ac_Mv.of (cc := cX9_begin) (maxL := 1) (ret := none) (by decide) rfl (Nat.le_of_ble_eq_true rfl) ?_
  intro p e s m below meth c A ls F hml hr hlocks hA hP hD hS hl
  have F : ac_X p s m [.ref (ad 51)].toArray c cX9_begin RX9 TB (dC, dI) vwCl (ac_ty cA) := ⟨F.1, F.2.1, fun w h => F.2.2.1 w (List.mem_cons_of_mem _ h), F.2.2.2.1, F.2.2.2.2⟩
  have hl : lv_has ls 1 [(0, .ref (ad 51))] := hl
  obtain ⟨RR, hRR⟩ : ∃ q, q = f_X9_begin_51 u0 := ⟨_, rfl⟩
  have hF : ac_Fr [(1, some 3), (1, some 4), (1, some 5), (1, some 6), (1, some 8), (1, some 10), (1, some 11), (47, some 3), (47, some 4)] u0 u0 := ac_Fr.rf
  have hC : RR = f_X9_begin_51 u0 := hRR
  unfold f_X9_begin_51 at hC
  refine lv_aload_n F.1 F.2.1 dX9_begin_0 rfl (lv_at hl 0 rfl) ?_
  refine a_getr F inX9 hP 51 2 tc_51 rfl rfl (by decide) q467 (fun _ h9 => h9) dX9_begin_1 ?_
  refine a_Vv F hml hl.1 hA hP hD hS (As := []) (x_X8_clear_47 l dC dI ad cA nF _  hR) (cs_RX9_23 (d := 1) F.2.2.1 (by decide)) tc_47 rfl rfl rfl rfl (Nat.le_of_ble_eq_true rfl) dX9_begin_4 ⟨Nat.le_refl 0, Nat.le_refl 0⟩ (fun u1 H locs hq hP hD hS => ?_)
  obtain ⟨hR, hF1, hz1⟩ := hq
  have hF := hF.tr hF1 (by decide)
  have hC := vl_eq hC hz1.symm
  refine lv_aload_n F.1 F.2.1 dX9_begin_7 rfl (lv_at hl 0 rfl) ?_
  refine a_getr F inX9 hP 51 0 tc_51 rfl rfl (by decide) q465 (fun _ h9 => h9) dX9_begin_8 ?_
  refine a_sp F (200 : Int32) dX9_begin_11 (by decide) ?_
  refine a_Vv F hml hl.1 hA hP hD hS (As := [.int (200 : Int32)]) (x_X10_startReading_1 l dC dI ad cA nF _ (200 : Int32) hR (by decide)) (cs_RX9_28 (d := 4) F.2.2.1 (by decide)) tc_1 rfl rfl rfl rfl (Nat.le_of_ble_eq_true rfl) dX9_begin_14 ⟨Nat.le_refl 0, Nat.le_refl 0⟩ (fun u2 H locs hq hP hD hS => ?_)
  obtain ⟨hR, hF2, hz2⟩ := hq
  have hF := hF.tr hF2 (by decide)
  have hC := vl_eq hC hz2.symm
  exact a_retv F hr hlocks hP hD hS dX9_begin_17 ⟨hR, hF, hRR.symm.trans hC⟩
def K_X9_isAtEnd_51_21 (u0 : ac_U) (u : ac_U) : ac_U × Int32 := (u, (1 : Int32))
def f_X9_isAtEnd_51 (u0 : ac_U) : ac_U × Int32 := (if (u0.1 1 6).toInt = 0 then (K_X9_isAtEnd_51_21 u0 u0) else (bd (f_X10_fail_1 u0 (1 : Int32)) (fun (u3 : ac_U) (r3 : Int32) => (if r3.toInt = 0 then (u3, (0 : Int32)) else (u3, 0)))))
set_option maxHeartbeats 600000 in
set_option maxRecDepth 100000 in
theorem x_X9_isAtEnd_51 (l : Launch) (dC : Nat → ClassId) (dI : Nat → Nat → Nat) (ad : Nat → Nat) (cA : Nat → ClassId) (nF : Nat) (u0 : ac_U)  (hR : ac_R rg u0) : ac_Mi l yX9_isAtEnd (.code yX9_isAtEnd cX9_isAtEnd 1 (some .boolean) :: TB) 2 (dC, dI) vwCl (ac_ty cA) ad cA (TT nF) [.ref (ad 51)] u0 (fun (r : Int32) (u : ac_U) => ac_R rg u ∧ ac_Fr [(1, some 10), (1, some 11)] u0 u ∧ ((0 : Int) ≤ r.toInt ∧ r.toInt ≤ 1) ∧ f_X9_isAtEnd_51 u0 = (u, r)) := by
  refine ac_Mi.of (cc := cX9_isAtEnd) (maxL := 1) (ret := (some .boolean)) (by decide) rfl (Nat.le_of_ble_eq_true rfl) ?_
  intro p e s m below meth c A ls F hml hr hlocks hA hP hD hS hl
  have F : ac_X p s m [.ref (ad 51)].toArray c cX9_isAtEnd RX9 TB (dC, dI) vwCl (ac_ty cA) := ⟨F.1, F.2.1, fun w h => F.2.2.1 w (List.mem_cons_of_mem _ h), F.2.2.2.1, F.2.2.2.2⟩
  have hl : lv_has ls 1 [(0, .ref (ad 51))] := hl
  obtain ⟨RR, hRR⟩ : ∃ q, q = f_X9_isAtEnd_51 u0 := ⟨_, rfl⟩
  have hF : ac_Fr [(1, some 10), (1, some 11)] u0 u0 := ac_Fr.rf
  have L21 : ∀ (u : ac_U) (H : Heap) (locs : List Loc) (ls : Array Slot), ac_R rg u → ac_Fr [(1, some 10), (1, some 11)] u0 u → (0 : Int) ≤ (u.1 1 6).toInt ∧ (u.1 1 6).toInt ≤ 0 → RR = (K_X9_isAtEnd_51_21 u0 u) → va_P (dC, dI) vwCl (ac_w ad cA (TT nF) u) H → va_D A (ac_w ad cA (TT nF) u) → va_S A s.heap H locs → lv_has ls 1 [] → W p l e (ac_rm 2) s m [.ref (ad 51)].toArray below meth c H locs 0 0 (MQ below (va_Qi (fun (r : Int32) (u : ac_U) => ac_R rg u ∧ ac_Fr [(1, some 10), (1, some 11)] u0 u ∧ ((0 : Int) ≤ r.toInt ∧ r.toInt ≤ 1) ∧ f_X9_isAtEnd_51 u0 = (u, r)) (ac_B (dC, dI) vwCl (ac_ty cA) ad cA (TT nF) A) A) [.ref (ad 51)].toArray s 0 0 A) (F0 m 21 ls []) := by
    intro u H locs ls hR hF f0 hC hP hD hS hl
    unfold K_X9_isAtEnd_51_21 at hC
    refine a_ic F (1 : Int32) dX9_isAtEnd_21 (by decide) ?_
    refine lv_goto (tgt := 26) F.1 F.2.1 dX9_isAtEnd_22 (by decide) ?_
    exact a_retz F hr hlocks hP hD hS dX9_isAtEnd_26 (Or.inr rfl) ⟨hR, hF, (by decide), hRR.symm.trans hC⟩
  have hC : RR = f_X9_isAtEnd_51 u0 := hRR
  unfold f_X9_isAtEnd_51 at hC
  refine lv_aload_n F.1 F.2.1 dX9_isAtEnd_0 rfl (lv_at hl 0 rfl) ?_
  refine a_getr F inX9 hP 51 0 tc_51 rfl rfl (by decide) q465 (fun _ h9 => h9) dX9_isAtEnd_1 ?_
  have g1 : (-128 : Int) ≤ (u0.1 1 6).toInt ∧ (u0.1 1 6).toInt ≤ 127 := hR 1 6
  refine a_geti F inX10 hP 1 6 tc_1 rfl rfl (by decide) q103 (fun _ h9 => h9) (v := (u0.1 1 6)) rfl dX9_isAtEnd_4 ?_
  refine z_eq F 21 dX9_isAtEnd_7 (by decide) rfl (fun c2 => ?_) (fun c2 => ?_)
  · have hC := hC.trans (if_pos c2)
    exact L21 _ _ _ _ hR hF (by omega : (0 : Int) ≤ (u0.1 1 6).toInt ∧ (u0.1 1 6).toInt ≤ 0) hC hP hD hS (lv_sub hl [] rfl)
  · have hC := hC.trans (if_neg (by omega))
    refine lv_aload_n F.1 F.2.1 dX9_isAtEnd_10 rfl (lv_at hl 0 rfl) ?_
    refine a_getr F inX9 hP 51 0 tc_51 rfl rfl (by decide) q465 (fun _ h9 => h9) dX9_isAtEnd_11 ?_
    refine a_ic F (1 : Int32) dX9_isAtEnd_14 (by decide) ?_
    refine a_Vi F hml hl.1 hA hP hD hS (As := [.int (1 : Int32)]) (x_X10_fail_1 l dC dI ad cA nF _ (1 : Int32) hR (by decide)) (cs_RX9_38 (d := 1) F.2.2.1 (by decide)) tc_1 rfl rfl rfl rfl (Nat.le_of_ble_eq_true rfl) dX9_isAtEnd_15 ⟨Nat.le_refl 0, Nat.le_refl 0⟩ (fun r3 u3 H locs hq hP hD hS => ?_)
    obtain ⟨hR, hF3, gr3, hz3⟩ := hq
    have hF := hF.tr hF3 (by decide)
    have hC := bd_eq hC hz3
    refine z_eq F 25 dX9_isAtEnd_18 (by decide) rfl (fun c4 => ?_) (fun c4 => ?_)
    · have hC := hC.trans (if_pos c4)
      refine a_ic F (0 : Int32) dX9_isAtEnd_25 (by decide) ?_
      exact a_retz F hr hlocks hP hD hS dX9_isAtEnd_26 (Or.inl rfl) ⟨hR, hF, (by decide), hRR.symm.trans hC⟩
    · exfalso; omega
def K_X9_readOne_51_d9_53 (u0 : ac_U) (p0 : Int32) (u : ac_U) : ac_U × Int32 := (bd (f_X10_fail_1 u (4 : Int32)) (fun (u1 : ac_U) (r1 : Int32) => (u1, r1)))
def K_X9_readOne_51_d9_35 (u0 : ac_U) (p0 : Int32) (u : ac_U) (x2 : Int32) : ac_U × Int32 := (if (20 : Int) ≤ (u.1 47 4).toInt then (K_X9_readOne_51_d9_53 u0 p0 u) else (if p0.toInt ≤ (8 : Int) then (u, 0) else (K_X9_readOne_51_d9_53 u0 p0 u)))
def K_X9_readOne_51_d9_26 (u0 : ac_U) (p0 : Int32) (u : ac_U) : ac_U × Int32 := (bd (f_X10_fail_1 u (1 : Int32)) (fun (u7 : ac_U) (r7 : Int32) => (u7, r7)))
def f_X9_readOne_51_d9 (u0 : ac_U) (p0 : Int32) : ac_U × Int32 := (if (u0.1 1 6).toInt = (40 : Int) then (K_X9_readOne_51_d9_35 u0 p0 u0 (u0.1 1 6)) else (if (u0.1 1 6).toInt < (116 : Int) then (K_X9_readOne_51_d9_26 u0 p0 u0) else (if (u0.1 1 6).toInt ≤ (126 : Int) then (K_X9_readOne_51_d9_35 u0 p0 u0 (u0.1 1 6)) else (K_X9_readOne_51_d9_26 u0 p0 u0))))
set_option maxHeartbeats 600000 in
set_option maxRecDepth 100000 in
theorem x_X9_readOne_51_d9 (l : Launch) (dC : Nat → ClassId) (dI : Nat → Nat → Nat) (ad : Nat → Nat) (cA : Nat → ClassId) (nF : Nat) (u0 : ac_U) (p0 : Int32) (hR : ac_R rg u0) (hp0 : (9 : Int) ≤ p0.toInt ∧ p0.toInt ≤ 9) (hK_N4 : nmI 11 12 u0) : ac_Mi l yX9_readOne (.code yX9_readOne cX9_readOne 3 (some .boolean) :: TB) 2 (dC, dI) vwCl (ac_ty cA) ad cA (TT nF) [.ref (ad 51), .int p0] u0 (fun (r : Int32) (u : ac_U) => ac_R rg u ∧ ac_Fr [(1, some 10), (1, some 11)] u0 u ∧ ((0 : Int) ≤ r.toInt ∧ r.toInt ≤ 0) ∧ f_X9_readOne_51_d9 u0 p0 = (u, r)) := by
  refine ac_Mi.of (cc := cX9_readOne) (maxL := 3) (ret := (some .boolean)) (by decide) rfl (Nat.le_of_ble_eq_true rfl) ?_
  intro p e s m below meth c A ls F hml hr hlocks hA hP hD hS hl
  have F : ac_X p s m [.ref (ad 51), .int p0].toArray c cX9_readOne RX9 TB (dC, dI) vwCl (ac_ty cA) := ⟨F.1, F.2.1, fun w h => F.2.2.1 w (List.mem_cons_of_mem _ h), F.2.2.2.1, F.2.2.2.2⟩
  have hl : lv_has ls 3 [(0, .ref (ad 51)), (1, .int p0)] := hl
  obtain ⟨RR, hRR⟩ : ∃ q, q = f_X9_readOne_51_d9 u0 p0 := ⟨_, rfl⟩
  have hF : ac_Fr [(1, some 10), (1, some 11)] u0 u0 := ac_Fr.rf
  have L53 : ∀ (u : ac_U) (H : Heap) (locs : List Loc) (ls : Array Slot), ac_R rg u → ac_Fr [(1, some 10), (1, some 11)] u0 u → nmI 11 12 u → (40 : Int) ≤ (u.1 1 6).toInt ∧ (u.1 1 6).toInt ≤ 126 → (0 : Int) ≤ (u.1 47 4).toInt ∧ (u.1 47 4).toInt ≤ 20 → RR = (K_X9_readOne_51_d9_53 u0 p0 u) → va_P (dC, dI) vwCl (ac_w ad cA (TT nF) u) H → va_D A (ac_w ad cA (TT nF) u) → va_S A s.heap H locs → lv_has ls 3 [(0, .ref (ad 51))] → W p l e (ac_rm 2) s m [.ref (ad 51), .int p0].toArray below meth c H locs 0 0 (MQ below (va_Qi (fun (r : Int32) (u : ac_U) => ac_R rg u ∧ ac_Fr [(1, some 10), (1, some 11)] u0 u ∧ ((0 : Int) ≤ r.toInt ∧ r.toInt ≤ 0) ∧ f_X9_readOne_51_d9 u0 p0 = (u, r)) (ac_B (dC, dI) vwCl (ac_ty cA) ad cA (TT nF) A) A) [.ref (ad 51), .int p0].toArray s 0 0 A) (F0 m 53 ls []) := by
    intro u H locs ls hR hF hK_N4 f0 f1 hC hP hD hS hl
    unfold K_X9_readOne_51_d9_53 at hC
    refine lv_aload_n F.1 F.2.1 dX9_readOne_53 rfl (lv_at hl 0 rfl) ?_
    refine a_getr F inX9 hP 51 0 tc_51 rfl rfl (by decide) q465 (fun _ h9 => h9) dX9_readOne_54 ?_
    refine a_ic F (4 : Int32) dX9_readOne_57 (by decide) ?_
    refine a_Vi F hml hl.1 hA hP hD hS (As := [.int (4 : Int32)]) (x_X10_fail_1 l dC dI ad cA nF _ (4 : Int32) hR (by decide)) (cs_RX9_38 (d := 1) F.2.2.1 (by decide)) tc_1 rfl rfl rfl rfl (Nat.le_of_ble_eq_true rfl) dX9_readOne_58 ⟨Nat.le_refl 0, Nat.le_refl 0⟩ (fun r1 u1 H locs hq hP hD hS => ?_)
    obtain ⟨hR, hF1, gr1, hz1⟩ := hq
    have hF := hF.tr hF1 (by decide)
    have hK_N4 := sp_fr sp_N4 hF1 (by decide) hK_N4
    have hC := bd_eq hC hz1
    exact a_retz F hr hlocks hP hD hS dX9_readOne_61 (i_01 (by omega)) ⟨hR, hF, (by omega : (0 : Int) ≤ r1.toInt ∧ r1.toInt ≤ 0), hRR.symm.trans hC⟩
  have L35 : ∀ (x2 : Int32) (u : ac_U) (H : Heap) (locs : List Loc) (ls : Array Slot), ac_R rg u → ac_Fr [(1, some 10), (1, some 11)] u0 u → nmI 11 12 u → (40 : Int) ≤ x2.toInt ∧ x2.toInt ≤ 126 → (40 : Int) ≤ (u.1 1 6).toInt ∧ (u.1 1 6).toInt ≤ 126 → RR = (K_X9_readOne_51_d9_35 u0 p0 u x2) → va_P (dC, dI) vwCl (ac_w ad cA (TT nF) u) H → va_D A (ac_w ad cA (TT nF) u) → va_S A s.heap H locs → lv_has ls 3 [(0, .ref (ad 51)), (1, .int p0), (2, .int x2)] → W p l e (ac_rm 2) s m [.ref (ad 51), .int p0].toArray below meth c H locs 0 0 (MQ below (va_Qi (fun (r : Int32) (u : ac_U) => ac_R rg u ∧ ac_Fr [(1, some 10), (1, some 11)] u0 u ∧ ((0 : Int) ≤ r.toInt ∧ r.toInt ≤ 0) ∧ f_X9_readOne_51_d9 u0 p0 = (u, r)) (ac_B (dC, dI) vwCl (ac_ty cA) ad cA (TT nF) A) A) [.ref (ad 51), .int p0].toArray s 0 0 A) (F0 m 35 ls []) := by
    intro x2 u H locs ls hR hF hK_N4 f0 f1 hC hP hD hS hl
    unfold K_X9_readOne_51_d9_35 at hC
    refine lv_aload_n F.1 F.2.1 dX9_readOne_35 rfl (lv_at hl 0 rfl) ?_
    refine a_getr F inX9 hP 51 2 tc_51 rfl rfl (by decide) q467 (fun _ h9 => h9) dX9_readOne_36 ?_
    have g2 : (0 : Int) ≤ (u.1 47 4).toInt ∧ (u.1 47 4).toInt ≤ 20 := hR 47 4
    refine a_geti F inX8 hP 47 4 tc_47 rfl rfl (by decide) q446 (fun _ h9 => h9) (v := (u.1 47 4)) rfl dX9_readOne_39 ?_
    refine a_bp F (20 : Int32) dX9_readOne_42 (by decide) ?_
    refine b_ge F 53 dX9_readOne_44 (by decide) rfl ic_20 (fun c3 => ?_) (fun c3 => ?_)
    · have hC := hC.trans (if_pos c3)
      have g4 : (-128 : Int) ≤ (u.1 1 6).toInt ∧ (u.1 1 6).toInt ≤ 127 := hR 1 6
      exact L53 _ _ _ _ hR hF hK_N4 (by omega : (40 : Int) ≤ (u.1 1 6).toInt ∧ (u.1 1 6).toInt ≤ 126) (by omega : (0 : Int) ≤ (u.1 47 4).toInt ∧ (u.1 47 4).toInt ≤ 20) hC hP hD hS (lv_sub hl [0] rfl)
    · have hC := hC.trans (if_neg (by omega))
      refine lv_iload_n F.1 F.2.1 dX9_readOne_47 rfl (lv_at hl 1 rfl) ?_
      refine a_bp F (8 : Int32) dX9_readOne_48 (by decide) ?_
      refine b_le F 62 dX9_readOne_50 (by decide) rfl ic_8 (fun c5 => ?_) (fun c5 => ?_)
      · exfalso; omega
      · have hC := hC.trans (if_neg (by omega))
        have g6 : (-128 : Int) ≤ (u.1 1 6).toInt ∧ (u.1 1 6).toInt ≤ 127 := hR 1 6
        exact L53 _ _ _ _ hR hF hK_N4 (by omega : (40 : Int) ≤ (u.1 1 6).toInt ∧ (u.1 1 6).toInt ≤ 126) (by omega : (0 : Int) ≤ (u.1 47 4).toInt ∧ (u.1 47 4).toInt ≤ 20) hC hP hD hS (lv_sub hl [0] rfl)
  have L26 : ∀ (u : ac_U) (H : Heap) (locs : List Loc) (ls : Array Slot), ac_R rg u → ac_Fr [(1, some 10), (1, some 11)] u0 u → nmI 11 12 u → (-128 : Int) ≤ (u.1 1 6).toInt ∧ (u.1 1 6).toInt ≤ 127 → RR = (K_X9_readOne_51_d9_26 u0 p0 u) → va_P (dC, dI) vwCl (ac_w ad cA (TT nF) u) H → va_D A (ac_w ad cA (TT nF) u) → va_S A s.heap H locs → lv_has ls 3 [(0, .ref (ad 51))] → W p l e (ac_rm 2) s m [.ref (ad 51), .int p0].toArray below meth c H locs 0 0 (MQ below (va_Qi (fun (r : Int32) (u : ac_U) => ac_R rg u ∧ ac_Fr [(1, some 10), (1, some 11)] u0 u ∧ ((0 : Int) ≤ r.toInt ∧ r.toInt ≤ 0) ∧ f_X9_readOne_51_d9 u0 p0 = (u, r)) (ac_B (dC, dI) vwCl (ac_ty cA) ad cA (TT nF) A) A) [.ref (ad 51), .int p0].toArray s 0 0 A) (F0 m 26 ls []) := by
    intro u H locs ls hR hF hK_N4 f0 hC hP hD hS hl
    unfold K_X9_readOne_51_d9_26 at hC
    refine lv_aload_n F.1 F.2.1 dX9_readOne_26 rfl (lv_at hl 0 rfl) ?_
    refine a_getr F inX9 hP 51 0 tc_51 rfl rfl (by decide) q465 (fun _ h9 => h9) dX9_readOne_27 ?_
    refine a_ic F (1 : Int32) dX9_readOne_30 (by decide) ?_
    refine a_Vi F hml hl.1 hA hP hD hS (As := [.int (1 : Int32)]) (x_X10_fail_1 l dC dI ad cA nF _ (1 : Int32) hR (by decide)) (cs_RX9_38 (d := 1) F.2.2.1 (by decide)) tc_1 rfl rfl rfl rfl (Nat.le_of_ble_eq_true rfl) dX9_readOne_31 ⟨Nat.le_refl 0, Nat.le_refl 0⟩ (fun r7 u7 H locs hq hP hD hS => ?_)
    obtain ⟨hR, hF7, gr7, hz7⟩ := hq
    have hF := hF.tr hF7 (by decide)
    have hK_N4 := sp_fr sp_N4 hF7 (by decide) hK_N4
    have hC := bd_eq hC hz7
    exact a_retz F hr hlocks hP hD hS dX9_readOne_34 (i_01 (by omega)) ⟨hR, hF, (by omega : (0 : Int) ≤ r7.toInt ∧ r7.toInt ≤ 0), hRR.symm.trans hC⟩
  have hC : RR = f_X9_readOne_51_d9 u0 p0 := hRR
  unfold f_X9_readOne_51_d9 at hC
  refine lv_aload_n F.1 F.2.1 dX9_readOne_0 rfl (lv_at hl 0 rfl) ?_
  refine a_getr F inX9 hP 51 0 tc_51 rfl rfl (by decide) q465 (fun _ h9 => h9) dX9_readOne_1 ?_
  have g8 : (-128 : Int) ≤ (u0.1 1 6).toInt ∧ (u0.1 1 6).toInt ≤ 127 := hR 1 6
  refine a_geti F inX10 hP 1 6 tc_1 rfl rfl (by decide) q103 (fun _ h9 => h9) (v := (u0.1 1 6)) rfl dX9_readOne_4 ?_
  refine lv_istore_n (lv' := [(2, .int (u0.1 1 6)), (0, .ref (ad 51)), (1, .int p0)]) F.1 F.2.1 dX9_readOne_7 rfl hl (by decide) rfl (fun ls hl => ?_)
  refine lv_iload_n F.1 F.2.1 dX9_readOne_8 rfl (lv_at hl 0 rfl) ?_
  refine a_bp F (40 : Int32) dX9_readOne_9 (by decide) ?_
  refine b_eq F 35 dX9_readOne_11 (by decide) rfl ic_40 (fun c9 => ?_) (fun c9 => ?_)
  · have hC := hC.trans (if_pos c9)
    exact L35 (u0.1 1 6) _ _ _ _ hR hF hK_N4 (by omega) (by omega : (40 : Int) ≤ (u0.1 1 6).toInt ∧ (u0.1 1 6).toInt ≤ 126) hC hP hD hS (lv_sub hl [1, 2, 0] rfl)
  · have hC := hC.trans (if_neg (by omega))
    refine lv_iload_n F.1 F.2.1 dX9_readOne_14 rfl (lv_at hl 0 rfl) ?_
    refine a_bp F (116 : Int32) dX9_readOne_15 (by decide) ?_
    refine b_lt F 26 dX9_readOne_17 (by decide) rfl ic_116 (fun c10 => ?_) (fun c10 => ?_)
    · have hC := hC.trans (if_pos c10)
      exact L26 _ _ _ _ hR hF hK_N4 (by omega : (-128 : Int) ≤ (u0.1 1 6).toInt ∧ (u0.1 1 6).toInt ≤ 127) hC hP hD hS (lv_sub hl [1] rfl)
    · have hC := hC.trans (if_neg (by omega))
      refine lv_iload_n F.1 F.2.1 dX9_readOne_20 rfl (lv_at hl 0 rfl) ?_
      refine a_bp F (126 : Int32) dX9_readOne_21 (by decide) ?_
      refine b_le F 35 dX9_readOne_23 (by decide) rfl ic_126 (fun c11 => ?_) (fun c11 => ?_)
      · have hC := hC.trans (if_pos c11)
        exact L35 (u0.1 1 6) _ _ _ _ hR hF hK_N4 (by omega) (by omega : (40 : Int) ≤ (u0.1 1 6).toInt ∧ (u0.1 1 6).toInt ≤ 126) hC hP hD hS (lv_sub hl [1, 2, 0] rfl)
      · have hC := hC.trans (if_neg (by omega))
        exact L26 _ _ _ _ hR hF hK_N4 (by omega : (-128 : Int) ≤ (u0.1 1 6).toInt ∧ (u0.1 1 6).toInt ≤ 127) hC hP hD hS (lv_sub hl [1] rfl)

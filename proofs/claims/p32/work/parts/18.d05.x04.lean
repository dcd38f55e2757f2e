def f_X2_isNear_13 (u0 : ac_U) (p0 : Int32) (p1 : Int32) : Int32 := (vl (u0.1 14 p0.toNatClampNeg) (fun (v1 : Int32) => (vl (v1 >>> (p1 &&& 31)) (fun (v2 : Int32) => (vl (v2 &&& (1 : Int32)) (fun (v3 : Int32) => (if v3.toInt ≠ (1 : Int) then (0 : Int32) else (1 : Int32))))))))
set_option maxHeartbeats 600000 in
set_option maxRecDepth 100000 in
theorem x_X2_isNear_13 (l : Launch) (dC : Nat → ClassId) (dI : Nat → Nat → Nat) (ad : Nat → Nat) (cA : Nat → ClassId) (nF : Nat) (u0 : ac_U) (p0 : Int32) (p1 : Int32) (hR : ac_R rg u0) (hp0 : (0 : Int) ≤ p0.toInt ∧ p0.toInt ≤ 7) : ac_Mi l yX2_isNear (.code yX2_isNear cX2_isNear 3 (some .boolean) :: TB) 1 (dC, dI) vwCl (ac_ty cA) ad cA (TT nF) [.ref (ad 13), .int p0, .int p1] u0 (fun (r : Int32) (u : ac_U) => u = u0 ∧ ((0 : Int) ≤ r.toInt ∧ r.toInt ≤ 1) ∧ f_X2_isNear_13 u0 p0 p1 = r) := by
  refine ac_Mi.of (cc := cX2_isNear) (maxL := 3) (ret := (some .boolean)) (by decide) rfl (Nat.le_of_ble_eq_true rfl) ?_
  intro p e s m below meth c A ls F hml hr hlocks hA hP hD hS hl
  have F : ac_X p s m [.ref (ad 13), .int p0, .int p1].toArray c cX2_isNear RX2 TB (dC, dI) vwCl (ac_ty cA) := ⟨F.1, F.2.1, fun w h => F.2.2.1 w (List.mem_cons_of_mem _ h), F.2.2.2.1, F.2.2.2.2⟩
  have hl : lv_has ls 3 [(0, .ref (ad 13)), (1, .int p0), (2, .int p1)] := hl
  obtain ⟨RR, hRR⟩ : ∃ q, q = f_X2_isNear_13 u0 p0 p1 := ⟨_, rfl⟩
  have hC : RR = f_X2_isNear_13 u0 p0 p1 := hRR
  unfold f_X2_isNear_13 at hC
  refine lv_aload_n F.1 F.2.1 dX2_isNear_0 rfl (lv_at hl 0 rfl) ?_
  refine a_getr F inX2 hP 13 9 tc_13 rfl rfl (by decide) q189 (fun _ h9 => h9) dX2_isNear_1 ?_
  refine lv_iload_n F.1 F.2.1 dX2_isNear_4 rfl (lv_at hl 1 rfl) ?_
  refine a_iald F hP 14 tc_14 rfl (i_in rfl (by omega)) dX2_isNear_5 (fun v1 ev1 => ?_)
  have hC := vl_eq hC ev1.symm
  refine lv_iload_n F.1 F.2.1 dX2_isNear_6 rfl (lv_at hl 2 rfl) ?_
  refine a_ishrUX F dX2_isNear_7 (fun v2 yv2 => ?_)
  have hC := vl_eq hC yv2
  refine a_ic F (1 : Int32) dX2_isNear_8 (by decide) ?_
  refine a_iandMX F dX2_isNear_9 ic_1 (by omega) (fun v3 hv3 yv3 => ?_)
  have hC := vl_eq hC yv3
  refine a_ic F (1 : Int32) dX2_isNear_10 (by decide) ?_
  refine b_ne F 18 dX2_isNear_11 (by decide) rfl ic_1 (fun c4 => ?_) (fun c4 => ?_)
  · have hC := hC.trans (if_pos c4)
    refine a_ic F (0 : Int32) dX2_isNear_18 (by decide) ?_
    exact a_retz F hr hlocks hP hD hS dX2_isNear_19 (Or.inl rfl) ⟨rfl, (by decide), hRR.symm.trans hC⟩
  · have hC := hC.trans (if_neg (by omega))
    refine a_ic F (1 : Int32) dX2_isNear_14 (by decide) ?_
    refine lv_goto (tgt := 19) F.1 F.2.1 dX2_isNear_15 (by decide) ?_
    exact a_retz F hr hlocks hP hD hS dX2_isNear_19 (Or.inr rfl) ⟨rfl, (by decide), hRR.symm.trans hC⟩
def f_X2_isVow_13 (u0 : ac_U) (p0 : Int32) (p1 : Int32) : Int32 := (vl (u0.1 18 p1.toNatClampNeg) (fun (v1 : Int32) => (vl (v1 >>> (p0 &&& 31)) (fun (v2 : Int32) => (vl (v2 &&& (1 : Int32)) (fun (v3 : Int32) => (if v3.toInt ≠ (1 : Int) then (0 : Int32) else (1 : Int32))))))))
set_option maxHeartbeats 600000 in
set_option maxRecDepth 100000 in
theorem x_X2_isVow_13 (l : Launch) (dC : Nat → ClassId) (dI : Nat → Nat → Nat) (ad : Nat → Nat) (cA : Nat → ClassId) (nF : Nat) (u0 : ac_U) (p0 : Int32) (p1 : Int32) (hR : ac_R rg u0) (hp0 : (0 : Int) ≤ p0.toInt ∧ p0.toInt ≤ 7) (hp1 : (0 : Int) ≤ p1.toInt ∧ p1.toInt ≤ 7) : ac_Mi l yX2_isVow (.code yX2_isVow cX2_isVow 3 (some .boolean) :: TB) 1 (dC, dI) vwCl (ac_ty cA) ad cA (TT nF) [.ref (ad 13), .int p0, .int p1] u0 (fun (r : Int32) (u : ac_U) => u = u0 ∧ ((0 : Int) ≤ r.toInt ∧ r.toInt ≤ 1) ∧ f_X2_isVow_13 u0 p0 p1 = r) := by
  refine ac_Mi.of (cc := cX2_isVow) (maxL := 3) (ret := (some .boolean)) (by decide) rfl (Nat.le_of_ble_eq_true rfl) ?_
  intro p e s m below meth c A ls F hml hr hlocks hA hP hD hS hl
  have F : ac_X p s m [.ref (ad 13), .int p0, .int p1].toArray c cX2_isVow RX2 TB (dC, dI) vwCl (ac_ty cA) := ⟨F.1, F.2.1, fun w h => F.2.2.1 w (List.mem_cons_of_mem _ h), F.2.2.2.1, F.2.2.2.2⟩
  have hl : lv_has ls 3 [(0, .ref (ad 13)), (1, .int p0), (2, .int p1)] := hl
  obtain ⟨RR, hRR⟩ : ∃ q, q = f_X2_isVow_13 u0 p0 p1 := ⟨_, rfl⟩
  have hC : RR = f_X2_isVow_13 u0 p0 p1 := hRR
  unfold f_X2_isVow_13 at hC
  refine lv_aload_n F.1 F.2.1 dX2_isVow_0 rfl (lv_at hl 0 rfl) ?_
  refine a_getr F inX2 hP 13 13 tc_13 rfl rfl (by decide) q196 (fun _ h9 => h9) dX2_isVow_1 ?_
  refine lv_iload_n F.1 F.2.1 dX2_isVow_4 rfl (lv_at hl 2 rfl) ?_
  refine a_iald F hP 18 tc_18 rfl (i_in rfl (by omega)) dX2_isVow_5 (fun v1 ev1 => ?_)
  have hC := vl_eq hC ev1.symm
  refine lv_iload_n F.1 F.2.1 dX2_isVow_6 rfl (lv_at hl 1 rfl) ?_
  refine a_ishrUX F dX2_isVow_7 (fun v2 yv2 => ?_)
  have hC := vl_eq hC yv2
  refine a_ic F (1 : Int32) dX2_isVow_8 (by decide) ?_
  refine a_iandMX F dX2_isVow_9 ic_1 (by omega) (fun v3 hv3 yv3 => ?_)
  have hC := vl_eq hC yv3
  refine a_ic F (1 : Int32) dX2_isVow_10 (by decide) ?_
  refine b_ne F 18 dX2_isVow_11 (by decide) rfl ic_1 (fun c4 => ?_) (fun c4 => ?_)
  · have hC := hC.trans (if_pos c4)
    refine a_ic F (0 : Int32) dX2_isVow_18 (by decide) ?_
    exact a_retz F hr hlocks hP hD hS dX2_isVow_19 (Or.inl rfl) ⟨rfl, (by decide), hRR.symm.trans hC⟩
  · have hC := hC.trans (if_neg (by omega))
    refine a_ic F (1 : Int32) dX2_isVow_14 (by decide) ?_
    refine lv_goto (tgt := 19) F.1 F.2.1 dX2_isVow_15 (by decide) ?_
    exact a_retz F hr hlocks hP hD hS dX2_isVow_19 (Or.inr rfl) ⟨rfl, (by decide), hRR.symm.trans hC⟩
def K_X2_nameIndex_13_2_b (B2 : Int64 → Int32 → Int32) (u0 : ac_U) (p0 : Int64) (w1 : Int64) (x3 : Int32) : Int32 := (if (u0.1 13 8).toInt ≤ x3.toInt then (-1 : Int32) else (vl (u0.2 19 x3.toNatClampNeg) (fun (w3 : Int64) => (vl (lg_cmp w3 w1) (fun (v4 : Int32) => (if v4.toInt ≠ 0 then (vl (x3 + Int32.ofInt (1)) (fun (v6 : Int32) => (B2 w1 v6))) else x3))))))
def K_X2_nameIndex_13_2 (u0 : ac_U) (p0 : Int64) : Nat → Int64 → Int32 → Int32
  | 0 => fun w1 x3 => 0
  | n + 1 => fun w1 x3 => K_X2_nameIndex_13_2_b (K_X2_nameIndex_13_2 u0 p0 n) u0 p0 w1 x3
def f_X2_nameIndex_13 (u0 : ac_U) (p0 : Int64) : Int32 := (K_X2_nameIndex_13_2 u0 p0 28 p0 (0 : Int32))
set_option maxHeartbeats 600000 in
set_option maxRecDepth 100000 in
theorem x_X2_nameIndex_13 (l : Launch) (dC : Nat → ClassId) (dI : Nat → Nat → Nat) (ad : Nat → Nat) (cA : Nat → ClassId) (nF : Nat) (u0 : ac_U) (p0 : Int64) (hR : ac_R rg u0) : ac_Mi l yX2_nameIndex (.code yX2_nameIndex cX2_nameIndex 4 (some .int) :: TB) 1 (dC, dI) vwCl (ac_ty cA) ad cA (TT nF) [.ref (ad 13), .long p0] u0 (fun (r : Int32) (u : ac_U) => u = u0 ∧ ((-1 : Int) ≤ r.toInt ∧ r.toInt ≤ 25) ∧ f_X2_nameIndex_13 u0 p0 = r) := by
  refine ac_Mi.of (cc := cX2_nameIndex) (maxL := 4) (ret := (some .int)) (by decide) rfl (Nat.le_of_ble_eq_true rfl) ?_
  intro p e s m below meth c A ls F hml hr hlocks hA hP hD hS hl
  have F : ac_X p s m [.ref (ad 13), .long p0].toArray c cX2_nameIndex RX2 TB (dC, dI) vwCl (ac_ty cA) := ⟨F.1, F.2.1, fun w h => F.2.2.1 w (List.mem_cons_of_mem _ h), F.2.2.2.1, F.2.2.2.2⟩
  have hl : lv_has ls 4 [(0, .ref (ad 13)), (1, .long p0)] := hl
  obtain ⟨RR, hRR⟩ : ∃ q, q = f_X2_nameIndex_13 u0 p0 := ⟨_, rfl⟩
  have L2 : ∀ (n2 : Nat) (w1 : Int64) (x3 : Int32) (H : Heap) (locs : List Loc) (ls : Array Slot), 26 - x3.toInt < (n2 : Int) → (0 : Int) ≤ x3.toInt ∧ x3.toInt ≤ 26 → RR = (K_X2_nameIndex_13_2 u0 p0 n2 w1 x3) → va_P (dC, dI) vwCl (ac_w ad cA (TT nF) u0) H → va_D A (ac_w ad cA (TT nF) u0) → va_S A s.heap H locs → lv_has ls 4 [(0, .ref (ad 13)), (1, .long w1), (3, .int x3)] → W p l e (ac_rm 1) s m [.ref (ad 13), .long p0].toArray below meth c H locs 0 0 (MQ below (va_Qi (fun (r : Int32) (u : ac_U) => u = u0 ∧ ((-1 : Int) ≤ r.toInt ∧ r.toInt ≤ 25) ∧ f_X2_nameIndex_13 u0 p0 = r) (ac_B (dC, dI) vwCl (ac_ty cA) ad cA (TT nF) A) A) [.ref (ad 13), .long p0].toArray s 0 0 A) (F0 m 2 ls []) := by
    intro n2
    induction n2 with
    | zero => intro w1 x3 H locs ls hn2 f0 hC hP hD hS hl; exfalso; omega
    | succ n2 ih2 =>
      intro w1 x3 H locs ls hn2 f0 hC hP hD hS hl
      have hC : RR = K_X2_nameIndex_13_2_b (K_X2_nameIndex_13_2 u0 p0 n2) u0 p0 w1 x3 := hC
      unfold K_X2_nameIndex_13_2_b at hC
      refine lv_iload_n F.1 F.2.1 dX2_nameIndex_2 rfl (lv_at hl 2 rfl) ?_
      refine lv_aload_n F.1 F.2.1 dX2_nameIndex_3 rfl (lv_at hl 0 rfl) ?_
      have g1 : (0 : Int) ≤ (u0.1 13 8).toInt ∧ (u0.1 13 8).toInt ≤ 26 := hR 13 8
      refine a_geti F inX2 hP 13 8 tc_13 rfl rfl (by decide) q188 (fun _ h9 => h9) (v := (u0.1 13 8)) rfl dX2_nameIndex_4 ?_
      refine b_ge F 29 dX2_nameIndex_7 (by decide) rfl rfl (fun c2 => ?_) (fun c2 => ?_)
      · have hC := hC.trans (if_pos c2)
        refine a_ic F (-1 : Int32) dX2_nameIndex_29 (by decide) ?_
        exact a_reti F hr hlocks hP hD hS dX2_nameIndex_30 ⟨rfl, (by decide), hRR.symm.trans hC⟩
      · have hC := hC.trans (if_neg (by omega))
        refine lv_aload_n F.1 F.2.1 dX2_nameIndex_10 rfl (lv_at hl 0 rfl) ?_
        refine a_getr F inX2 hP 13 14 tc_13 rfl rfl (by decide) q197 (fun _ h9 => h9) dX2_nameIndex_11 ?_
        refine lv_iload_n F.1 F.2.1 dX2_nameIndex_14 rfl (lv_at hl 2 rfl) ?_
        refine a_lald F hP 19 tc_19 rfl (i_in rfl (by omega)) dX2_nameIndex_15 (fun w3 ew3 => ?_)
        have hC := vl_eq hC ew3.symm
        refine lv_lload_n F.1 F.2.1 dX2_nameIndex_16 rfl (lv_at hl 1 rfl) ?_
        refine W.lcmp F.1 F.2.1 dX2_nameIndex_17 ?_
        refine lv_topi (fun v4 yv4 => ?_)
        have hC := vl_eq hC yv4
        refine z_ne F 23 dX2_nameIndex_18 (by decide) rfl (fun c5 => ?_) (fun c5 => ?_)
        · have hC := hC.trans (if_pos c5)
          refine a_iincX F (k := 2) (fun v6 => [(3, .int v6), (0, .ref (ad 13)), (1, .long w1)]) dX2_nameIndex_23 hl rfl rfl (by decide) (by omega) (by decide) (fun _ => rfl) (fun v6 ls hv6 yv6 hl => ?_)
          have hC := vl_eq hC yv6
          refine lv_goto (tgt := 2) F.1 F.2.1 dX2_nameIndex_26 (by decide) ?_
          exact ih2 w1 v6 _ _ _ (by omega) (by omega) hC hP hD hS (lv_sub hl [1, 2, 0] rfl)
        · have hC := hC.trans (if_neg (by omega))
          refine lv_iload_n F.1 F.2.1 dX2_nameIndex_21 rfl (lv_at hl 2 rfl) ?_
          exact a_reti F hr hlocks hP hD hS dX2_nameIndex_22 ⟨rfl, (by omega : (-1 : Int) ≤ x3.toInt ∧ x3.toInt ≤ 25), hRR.symm.trans hC⟩
  have hC : RR = f_X2_nameIndex_13 u0 p0 := hRR
  unfold f_X2_nameIndex_13 at hC
  refine a_ic F (0 : Int32) dX2_nameIndex_0 (by decide) ?_
  refine lv_istore_n (lv' := [(3, .int (0 : Int32)), (0, .ref (ad 13)), (1, .long p0)]) F.1 F.2.1 dX2_nameIndex_1 rfl hl (by decide) rfl (fun ls hl => ?_)
  exact L2 28 p0 (0 : Int32) _ _ _ (by decide) (by decide) hC hP hD hS (lv_sub hl [1, 2, 0] rfl)

def K_X12_find_85_2_b (B2 : Int32 → Int32) (u0 : ac_U) (p0 : Int32) (p1 : Int32) (x3 : Int32) : Int32 := (if p1.toInt ≤ x3.toInt then (-1 : Int32) else (vl (p0 + x3) (fun (v2 : Int32) => (vl (u0.2 90 v2.toNatClampNeg) (fun (w3 : Int64) => (vl (lg_cmp w3 (u0.2 85 17)) (fun (v4 : Int32) => (if v4.toInt ≠ 0 then (vl (x3 + Int32.ofInt (1)) (fun (v6 : Int32) => (B2 v6))) else x3))))))))
def K_X12_find_85_2 (u0 : ac_U) (p0 : Int32) (p1 : Int32) : Nat → Int32 → Int32
  | 0 => fun x3 => 0
  | n + 1 => fun x3 => K_X12_find_85_2_b (K_X12_find_85_2 u0 p0 p1 n) u0 p0 p1 x3
def f_X12_find_85 (u0 : ac_U) (p0 : Int32) (p1 : Int32) : Int32 := (K_X12_find_85_2 u0 p0 p1 14 (0 : Int32))
set_option maxHeartbeats 600000 in
set_option maxRecDepth 100000 in
theorem x_X12_find_85 (l : Launch) (dC : Nat → ClassId) (dI : Nat → Nat → Nat) (ad : Nat → Nat) (cA : Nat → ClassId) (nF : Nat) (u0 : ac_U) (p0 : Int32) (p1 : Int32) (hR : ac_R rg u0) (hp0 : (0 : Int) ≤ p0.toInt ∧ p0.toInt ≤ 44) (hp1 : (0 : Int) ≤ p1.toInt ∧ p1.toInt ≤ 12) (hh0 : p0.toInt + p1.toInt ≤ 52) : ac_Mi l yX12_find (.code yX12_find cX12_find 4 (some .int) :: TB) 1 (dC, dI) vwCl (ac_ty cA) ad cA (TT nF) [.ref (ad 85), .int p0, .int p1] u0 (fun (r : Int32) (u : ac_U) => u = u0 ∧ ((-1 : Int) ≤ r.toInt ∧ r.toInt ≤ 11) ∧ (-1 ≤ r.toInt ∧ r.toInt < p1.toInt ∨ r.toInt = -1) ∧ f_X12_find_85 u0 p0 p1 = r) := by
  refine ac_Mi.of (cc := cX12_find) (maxL := 4) (ret := (some .int)) (by decide) rfl (Nat.le_of_ble_eq_true rfl) ?_
  intro p e s m below meth c A ls F hml hr hlocks hA hP hD hS hl
  have F : ac_X p s m [.ref (ad 85), .int p0, .int p1].toArray c cX12_find RX12 TB (dC, dI) vwCl (ac_ty cA) := ⟨F.1, F.2.1, fun w h => F.2.2.1 w (List.mem_cons_of_mem _ h), F.2.2.2.1, F.2.2.2.2⟩
  have hl : lv_has ls 4 [(0, .ref (ad 85)), (1, .int p0), (2, .int p1)] := hl
  obtain ⟨RR, hRR⟩ : ∃ q, q = f_X12_find_85 u0 p0 p1 := ⟨_, rfl⟩
  have L2 : ∀ (n2 : Nat) (x3 : Int32) (H : Heap) (locs : List Loc) (ls : Array Slot), 12 - x3.toInt < (n2 : Int) → (0 : Int) ≤ x3.toInt ∧ x3.toInt ≤ 12 → RR = (K_X12_find_85_2 u0 p0 p1 n2 x3) → va_P (dC, dI) vwCl (ac_w ad cA (TT nF) u0) H → va_D A (ac_w ad cA (TT nF) u0) → va_S A s.heap H locs → lv_has ls 4 [(0, .ref (ad 85)), (1, .int p0), (2, .int p1), (3, .int x3)] → W p l e (ac_rm 1) s m [.ref (ad 85), .int p0, .int p1].toArray below meth c H locs 0 0 (MQ below (va_Qi (fun (r : Int32) (u : ac_U) => u = u0 ∧ ((-1 : Int) ≤ r.toInt ∧ r.toInt ≤ 11) ∧ (-1 ≤ r.toInt ∧ r.toInt < p1.toInt ∨ r.toInt = -1) ∧ f_X12_find_85 u0 p0 p1 = r) (ac_B (dC, dI) vwCl (ac_ty cA) ad cA (TT nF) A) A) [.ref (ad 85), .int p0, .int p1].toArray s 0 0 A) (F0 m 2 ls []) := by
    intro n2
    induction n2 with
    | zero => intro x3 H locs ls hn2 f0 hC hP hD hS hl; exfalso; omega
    | succ n2 ih2 =>
      intro x3 H locs ls hn2 f0 hC hP hD hS hl
      have hC : RR = K_X12_find_85_2_b (K_X12_find_85_2 u0 p0 p1 n2) u0 p0 p1 x3 := hC
      unfold K_X12_find_85_2_b at hC
      refine lv_iload_n F.1 F.2.1 dX12_find_2 rfl (lv_at hl 3 rfl) ?_
      refine lv_iload_n F.1 F.2.1 dX12_find_3 rfl (lv_at hl 2 rfl) ?_
      refine b_ge F 31 dX12_find_4 (by decide) rfl rfl (fun c1 => ?_) (fun c1 => ?_)
      · have hC := hC.trans (if_pos c1)
        refine a_ic F (-1 : Int32) dX12_find_31 (by decide) ?_
        exact a_reti F hr hlocks hP hD hS dX12_find_32 ⟨rfl, (by decide), (by first | exact (by omega : -1 ≤ (-1 : Int) ∧ (-1 : Int) < p1.toInt ∨ (-1 : Int) = -1) | (rw [ic_m1]; exact (by omega : -1 ≤ (-1 : Int) ∧ (-1 : Int) < p1.toInt ∨ (-1 : Int) = -1))), hRR.symm.trans hC⟩
      · have hC := hC.trans (if_neg (by omega))
        refine lv_aload_n F.1 F.2.1 dX12_find_7 rfl (lv_at hl 0 rfl) ?_
        refine a_getr F inX12 hP 85 9 tc_85 rfl rfl (by decide) q1480 (fun _ h9 => h9) dX12_find_8 ?_
        refine lv_iload_n F.1 F.2.1 dX12_find_11 rfl (lv_at hl 1 rfl) ?_
        refine lv_iload_n F.1 F.2.1 dX12_find_12 rfl (lv_at hl 3 rfl) ?_
        refine a_iaddX F dX12_find_13 rfl rfl (by omega) (fun v2 hv2 yv2 => ?_)
        have hC := vl_eq hC yv2
        refine a_lald F hP 90 tc_90 rfl (i_in rfl (by omega)) dX12_find_14 (fun w3 ew3 => ?_)
        have hC := vl_eq hC ew3.symm
        refine lv_aload_n F.1 F.2.1 dX12_find_15 rfl (lv_at hl 0 rfl) ?_
        refine a_getl F inX12 hP 85 17 tc_85 rfl rfl (by decide) q1488 (fun _ h9 => h9) (v := (u0.2 85 17)) rfl dX12_find_16 ?_
        refine W.lcmp F.1 F.2.1 dX12_find_19 ?_
        refine lv_topi (fun v4 yv4 => ?_)
        have hC := vl_eq hC yv4
        refine z_ne F 25 dX12_find_20 (by decide) rfl (fun c5 => ?_) (fun c5 => ?_)
        · have hC := hC.trans (if_pos c5)
          refine a_iincX F (k := 3) (fun v6 => [(3, .int v6), (0, .ref (ad 85)), (1, .int p0), (2, .int p1)]) dX12_find_25 hl rfl rfl (by decide) (by omega) (by decide) (fun _ => rfl) (fun v6 ls hv6 yv6 hl => ?_)
          have hC := vl_eq hC yv6
          refine lv_goto (tgt := 2) F.1 F.2.1 dX12_find_28 (by decide) ?_
          exact ih2 v6 _ _ _ (by omega) (by omega) hC hP hD hS (lv_sub hl [1, 2, 3, 0] rfl)
        · have hC := hC.trans (if_neg (by omega))
          refine lv_iload_n F.1 F.2.1 dX12_find_23 rfl (lv_at hl 3 rfl) ?_
          exact a_reti F hr hlocks hP hD hS dX12_find_24 ⟨rfl, (by omega : (-1 : Int) ≤ x3.toInt ∧ x3.toInt ≤ 11), (by omega : -1 ≤ x3.toInt ∧ x3.toInt < p1.toInt ∨ x3.toInt = -1), hRR.symm.trans hC⟩
  have hC : RR = f_X12_find_85 u0 p0 p1 := hRR
  unfold f_X12_find_85 at hC
  refine a_ic F (0 : Int32) dX12_find_0 (by decide) ?_
  refine lv_istore_n (lv' := [(3, .int (0 : Int32)), (0, .ref (ad 85)), (1, .int p0), (2, .int p1)]) F.1 F.2.1 dX12_find_1 rfl hl (by decide) rfl (fun ls hl => ?_)
  exact L2 14 (0 : Int32) _ _ _ (by decide) (by decide) hC hP hD hS (lv_sub hl [1, 2, 3, 0] rfl)
def K_X12_isName_85_45 (B16 : Int32 → Int32 → Int32) (u0 : ac_U) (x2 : Int32) (z0 : Int32) : Int32 := (vl (x2 + Int32.ofInt (1)) (fun (v1 : Int32) => (B16 z0 v1)))
def K_X12_isName_85_44 (B16 : Int32 → Int32 → Int32) (u0 : ac_U) (x2 : Int32) : Int32 := (K_X12_isName_85_45 B16 u0 x2 (0 : Int32))
def K_X12_isName_85_16_b (B16 : Int32 → Int32 → Int32) (u0 : ac_U) (x1 : Int32) (x2 : Int32) : Int32 := (if (27 : Int) ≤ x2.toInt then x1 else (if x1.toInt = 0 then (K_X12_isName_85_44 B16 u0 x2) else (vl (u0.2 91 x2.toNatClampNeg) (fun (w4 : Int64) => (vl (lg_cmp (u0.2 85 17) w4) (fun (v5 : Int32) => (if v5.toInt = 0 then (K_X12_isName_85_44 B16 u0 x2) else (K_X12_isName_85_45 B16 u0 x2 (1 : Int32)))))))))
def K_X12_isName_85_16 (u0 : ac_U) : Nat → Int32 → Int32 → Int32
  | 0 => fun x1 x2 => 0
  | n + 1 => fun x1 x2 => K_X12_isName_85_16_b (K_X12_isName_85_16 u0 n) u0 x1 x2
def K_X12_isName_85_13 (u0 : ac_U) (z0 : Int32) : Int32 := (K_X12_isName_85_16 u0 29 z0 (0 : Int32))
def f_X12_isName_85 (u0 : ac_U) : Int32 := (if (u0.1 85 11).toInt ≠ (1 : Int) then (K_X12_isName_85_13 u0 (0 : Int32)) else (K_X12_isName_85_13 u0 (1 : Int32)))
set_option maxHeartbeats 600000 in
set_option maxRecDepth 100000 in
theorem x_X12_isName_85 (l : Launch) (dC : Nat → ClassId) (dI : Nat → Nat → Nat) (ad : Nat → Nat) (cA : Nat → ClassId) (nF : Nat) (u0 : ac_U)  (hR : ac_R rg u0) : ac_Mi l yX12_isName (.code yX12_isName cX12_isName 3 (some .boolean) :: TB) 1 (dC, dI) vwCl (ac_ty cA) ad cA (TT nF) [.ref (ad 85)] u0 (fun (r : Int32) (u : ac_U) => u = u0 ∧ ((0 : Int) ≤ r.toInt ∧ r.toInt ≤ 1) ∧ f_X12_isName_85 u0 = r) := by
  refine ac_Mi.of (cc := cX12_isName) (maxL := 3) (ret := (some .boolean)) (by decide) rfl (Nat.le_of_ble_eq_true rfl) ?_
  intro p e s m below meth c A ls F hml hr hlocks hA hP hD hS hl
  have F : ac_X p s m [.ref (ad 85)].toArray c cX12_isName RX12 TB (dC, dI) vwCl (ac_ty cA) := ⟨F.1, F.2.1, fun w h => F.2.2.1 w (List.mem_cons_of_mem _ h), F.2.2.2.1, F.2.2.2.2⟩
  have hl : lv_has ls 3 [(0, .ref (ad 85))] := hl
  obtain ⟨RR, hRR⟩ : ∃ q, q = f_X12_isName_85 u0 := ⟨_, rfl⟩
  have L16 : ∀ (n16 : Nat) (x1 : Int32) (x2 : Int32) (H : Heap) (locs : List Loc) (ls : Array Slot), 27 - x2.toInt < (n16 : Int) → (0 : Int) ≤ x1.toInt ∧ x1.toInt ≤ 1 → (0 : Int) ≤ x2.toInt ∧ x2.toInt ≤ 27 → RR = (K_X12_isName_85_16 u0 n16 x1 x2) → va_P (dC, dI) vwCl (ac_w ad cA (TT nF) u0) H → va_D A (ac_w ad cA (TT nF) u0) → va_S A s.heap H locs → lv_has ls 3 [(0, .ref (ad 85)), (1, .int x1), (2, .int x2)] → W p l e (ac_rm 1) s m [.ref (ad 85)].toArray below meth c H locs 0 0 (MQ below (va_Qi (fun (r : Int32) (u : ac_U) => u = u0 ∧ ((0 : Int) ≤ r.toInt ∧ r.toInt ≤ 1) ∧ f_X12_isName_85 u0 = r) (ac_B (dC, dI) vwCl (ac_ty cA) ad cA (TT nF) A) A) [.ref (ad 85)].toArray s 0 0 A) (F0 m 16 ls []) := by
    intro n16
    induction n16 with
    | zero => intro x1 x2 H locs ls hn16 f0 f1 hC hP hD hS hl; exfalso; omega
    | succ n16 ih16 =>
      intro x1 x2 H locs ls hn16 f0 f1 hC hP hD hS hl
      have hC : RR = K_X12_isName_85_16_b (K_X12_isName_85_16 u0 n16) u0 x1 x2 := hC
      have L45 : ∀ (x2 : Int32) (z0 : Int32) (H : Heap) (locs : List Loc) (ls : Array Slot), (0 : Int) ≤ x2.toInt ∧ x2.toInt ≤ 26 → (0 : Int) ≤ z0.toInt ∧ z0.toInt ≤ 1 → 27 - x2.toInt + 0 < ((n16 : Nat) : Int) + 1 → RR = (K_X12_isName_85_45 (K_X12_isName_85_16 u0 n16) u0 x2 z0) → va_P (dC, dI) vwCl (ac_w ad cA (TT nF) u0) H → va_D A (ac_w ad cA (TT nF) u0) → va_S A s.heap H locs → lv_has ls 3 [(0, .ref (ad 85)), (2, .int x2)] → W p l e (ac_rm 1) s m [.ref (ad 85)].toArray below meth c H locs 0 0 (MQ below (va_Qi (fun (r : Int32) (u : ac_U) => u = u0 ∧ ((0 : Int) ≤ r.toInt ∧ r.toInt ≤ 1) ∧ f_X12_isName_85 u0 = r) (ac_B (dC, dI) vwCl (ac_ty cA) ad cA (TT nF) A) A) [.ref (ad 85)].toArray s 0 0 A) (F0 m 45 ls [.int z0]) := by
        intro x2 z0 H locs ls f0 f1 f2 hC hP hD hS hl
        unfold K_X12_isName_85_45 at hC
        refine lv_istore_n (lv' := [(1, .int z0), (0, .ref (ad 85)), (2, .int x2)]) F.1 F.2.1 dX12_isName_45 rfl hl (by decide) rfl (fun ls hl => ?_)
        refine a_iincX F (k := 2) (fun v1 => [(2, .int v1), (1, .int z0), (0, .ref (ad 85))]) dX12_isName_46 hl rfl rfl (by decide) (by omega) (by decide) (fun _ => rfl) (fun v1 ls hv1 yv1 hl => ?_)
        have hC := vl_eq hC yv1
        refine lv_goto (tgt := 16) F.1 F.2.1 dX12_isName_49 (by decide) ?_
        exact ih16 z0 v1 _ _ _ (by omega) (by omega) (by omega) hC hP hD hS (lv_sub hl [2, 1, 0] rfl)
      have L44 : ∀ (x2 : Int32) (H : Heap) (locs : List Loc) (ls : Array Slot), (0 : Int) ≤ x2.toInt ∧ x2.toInt ≤ 26 → 27 - x2.toInt + 0 < ((n16 : Nat) : Int) + 1 → RR = (K_X12_isName_85_44 (K_X12_isName_85_16 u0 n16) u0 x2) → va_P (dC, dI) vwCl (ac_w ad cA (TT nF) u0) H → va_D A (ac_w ad cA (TT nF) u0) → va_S A s.heap H locs → lv_has ls 3 [(0, .ref (ad 85)), (2, .int x2)] → W p l e (ac_rm 1) s m [.ref (ad 85)].toArray below meth c H locs 0 0 (MQ below (va_Qi (fun (r : Int32) (u : ac_U) => u = u0 ∧ ((0 : Int) ≤ r.toInt ∧ r.toInt ≤ 1) ∧ f_X12_isName_85 u0 = r) (ac_B (dC, dI) vwCl (ac_ty cA) ad cA (TT nF) A) A) [.ref (ad 85)].toArray s 0 0 A) (F0 m 44 ls []) := by
        intro x2 H locs ls f0 f1 hC hP hD hS hl
        unfold K_X12_isName_85_44 at hC
        refine a_ic F (0 : Int32) dX12_isName_44 (by decide) ?_
        exact L45 x2 (0 : Int32) _ _ _ (by omega) (by decide) (by omega) hC hP hD hS (lv_sub hl [0, 1] rfl)
      unfold K_X12_isName_85_16_b at hC
      refine lv_iload_n F.1 F.2.1 dX12_isName_16 rfl (lv_at hl 2 rfl) ?_
      refine a_bp F (27 : Int32) dX12_isName_17 (by decide) ?_
      refine b_ge F 52 dX12_isName_19 (by decide) rfl ic_27 (fun c2 => ?_) (fun c2 => ?_)
      · have hC := hC.trans (if_pos c2)
        refine lv_iload_n F.1 F.2.1 dX12_isName_52 rfl (lv_at hl 1 rfl) ?_
        exact a_retz F hr hlocks hP hD hS dX12_isName_53 (i_01 (by omega)) ⟨rfl, (by omega : (0 : Int) ≤ x1.toInt ∧ x1.toInt ≤ 1), hRR.symm.trans hC⟩
      · have hC := hC.trans (if_neg (by omega))
        refine lv_iload_n F.1 F.2.1 dX12_isName_22 rfl (lv_at hl 1 rfl) ?_
        refine z_eq F 44 dX12_isName_23 (by decide) rfl (fun c3 => ?_) (fun c3 => ?_)
        · have hC := hC.trans (if_pos c3)
          exact L44 x2 _ _ _ (by omega) (by omega) hC hP hD hS (lv_sub hl [0, 2] rfl)
        · have hC := hC.trans (if_neg (by omega))
          refine lv_aload_n F.1 F.2.1 dX12_isName_26 rfl (lv_at hl 0 rfl) ?_
          refine a_getl F inX12 hP 85 17 tc_85 rfl rfl (by decide) q1488 (fun _ h9 => h9) (v := (u0.2 85 17)) rfl dX12_isName_27 ?_
          refine lv_aload_n F.1 F.2.1 dX12_isName_30 rfl (lv_at hl 0 rfl) ?_
          refine a_getr F inX12 hP 85 10 tc_85 rfl rfl (by decide) q1481 (fun _ h9 => h9) dX12_isName_31 ?_
          refine lv_iload_n F.1 F.2.1 dX12_isName_34 rfl (lv_at hl 2 rfl) ?_
          refine a_lald F hP 91 tc_91 rfl (i_in rfl (by omega)) dX12_isName_35 (fun w4 ew4 => ?_)
          have hC := vl_eq hC ew4.symm
          refine W.lcmp F.1 F.2.1 dX12_isName_36 ?_
          refine lv_topi (fun v5 yv5 => ?_)
          have hC := vl_eq hC yv5
          refine z_eq F 44 dX12_isName_37 (by decide) rfl (fun c6 => ?_) (fun c6 => ?_)
          · have hC := hC.trans (if_pos c6)
            exact L44 x2 _ _ _ (by omega) (by omega) hC hP hD hS (lv_sub hl [0, 2] rfl)
          · have hC := hC.trans (if_neg (by omega))
            refine a_ic F (1 : Int32) dX12_isName_40 (by decide) ?_
            refine lv_goto (tgt := 45) F.1 F.2.1 dX12_isName_41 (by decide) ?_
            exact L45 x2 (1 : Int32) _ _ _ (by omega) (by decide) (by omega) hC hP hD hS (lv_sub hl [0, 2] rfl)
  have L13 : ∀ (z0 : Int32) (H : Heap) (locs : List Loc) (ls : Array Slot), (0 : Int) ≤ z0.toInt ∧ z0.toInt ≤ 1 → RR = (K_X12_isName_85_13 u0 z0) → va_P (dC, dI) vwCl (ac_w ad cA (TT nF) u0) H → va_D A (ac_w ad cA (TT nF) u0) → va_S A s.heap H locs → lv_has ls 3 [(0, .ref (ad 85))] → W p l e (ac_rm 1) s m [.ref (ad 85)].toArray below meth c H locs 0 0 (MQ below (va_Qi (fun (r : Int32) (u : ac_U) => u = u0 ∧ ((0 : Int) ≤ r.toInt ∧ r.toInt ≤ 1) ∧ f_X12_isName_85 u0 = r) (ac_B (dC, dI) vwCl (ac_ty cA) ad cA (TT nF) A) A) [.ref (ad 85)].toArray s 0 0 A) (F0 m 13 ls [.int z0]) := by
    intro z0 H locs ls f0 hC hP hD hS hl
    unfold K_X12_isName_85_13 at hC
    refine lv_istore_n (lv' := [(1, .int z0), (0, .ref (ad 85))]) F.1 F.2.1 dX12_isName_13 rfl hl (by decide) rfl (fun ls hl => ?_)
    refine a_ic F (0 : Int32) dX12_isName_14 (by decide) ?_
    refine lv_istore_n (lv' := [(2, .int (0 : Int32)), (1, .int z0), (0, .ref (ad 85))]) F.1 F.2.1 dX12_isName_15 rfl hl (by decide) rfl (fun ls hl => ?_)
    exact L16 29 z0 (0 : Int32) _ _ _ (by decide) (by omega) (by decide) hC hP hD hS (lv_sub hl [2, 1, 0] rfl)
  have hC : RR = f_X12_isName_85 u0 := hRR
  unfold f_X12_isName_85 at hC
  refine lv_aload_n F.1 F.2.1 dX12_isName_0 rfl (lv_at hl 0 rfl) ?_
  have g7 : (0 : Int) ≤ (u0.1 85 11).toInt ∧ (u0.1 85 11).toInt ≤ 4 := hR 85 11
  refine a_geti F inX12 hP 85 11 tc_85 rfl rfl (by decide) q1482 (fun _ h9 => h9) (v := (u0.1 85 11)) rfl dX12_isName_1 ?_
  refine a_ic F (1 : Int32) dX12_isName_4 (by decide) ?_
  refine b_ne F 12 dX12_isName_5 (by decide) rfl ic_1 (fun c8 => ?_) (fun c8 => ?_)
  · have hC := hC.trans (if_pos c8)
    refine a_ic F (0 : Int32) dX12_isName_12 (by decide) ?_
    exact L13 (0 : Int32) _ _ _ (by decide) hC hP hD hS (lv_sub hl [0] rfl)
  · have hC := hC.trans (if_neg (by omega))
    refine a_ic F (1 : Int32) dX12_isName_8 (by decide) ?_
    refine lv_goto (tgt := 13) F.1 F.2.1 dX12_isName_9 (by decide) ?_
    exact L13 (1 : Int32) _ _ _ (by decide) hC hP hD hS (lv_sub hl [0] rfl)

def f_X12_looksAt_85 (u0 : ac_U) (p0 : Int32) (p1 : Int32) : ac_U × Int32 := (vl (f_X12_isName_85 u0) (fun (r1 : Int32) => (if r1.toInt ≠ 0 then (vl (f_X12_find_85 u0 p0 p1) (fun (r3 : Int32) => (if 0 ≤ r3.toInt then ((pI u0 85 18 r3), (1 : Int32)) else (bd (f_X12_bad_85 (pI u0 85 18 r3) (3 : Int32)) (fun (u5 : ac_U) (r5 : Int32) => (if r5.toInt = 0 then (u5, (0 : Int32)) else (u5, 0))))))) else (bd (f_X12_bad_85 u0 (1 : Int32)) (fun (u8 : ac_U) (r8 : Int32) => (u8, r8))))))
set_option maxHeartbeats 600000 in
set_option maxRecDepth 100000 in
theorem x_X12_looksAt_85 (l : Launch) (dC : Nat → ClassId) (dI : Nat → Nat → Nat) (ad : Nat → Nat) (cA : Nat → ClassId) (nF : Nat) (u0 : ac_U) (p0 : Int32) (p1 : Int32) (hR : ac_R rg u0) (hp0 : (0 : Int) ≤ p0.toInt ∧ p0.toInt ≤ 44) (hp1 : (0 : Int) ≤ p1.toInt ∧ p1.toInt ≤ 12) (hh0 : p0.toInt + p1.toInt ≤ 52) : ac_Mi l yX12_looksAt (.code yX12_looksAt cX12_looksAt 3 (some .boolean) :: TB) 2 (dC, dI) vwCl (ac_ty cA) ad cA (TT nF) [.ref (ad 85), .int p0, .int p1] u0 (fun (r : Int32) (u : ac_U) => ac_R rg u ∧ ac_Fr [(85, some 15), (85, some 16), (85, some 18)] u0 u ∧ ((0 : Int) ≤ r.toInt ∧ r.toInt ≤ 1) ∧ (r.toInt ≠ 0 → 0 ≤ (u.1 85 18).toInt ∧ (u.1 85 18).toInt < p1.toInt) ∧ f_X12_looksAt_85 u0 p0 p1 = (u, r)) := by
  refine ac_Mi.of (cc := cX12_looksAt) (maxL := 3) (ret := (some .boolean)) (by decide) rfl (Nat.le_of_ble_eq_true rfl) ?_
  intro p e s m below meth c A ls F hml hr hlocks hA hP hD hS hl
  have F : ac_X p s m [.ref (ad 85), .int p0, .int p1].toArray c cX12_looksAt RX12 TB (dC, dI) vwCl (ac_ty cA) := ⟨F.1, F.2.1, fun w h => F.2.2.1 w (List.mem_cons_of_mem _ h), F.2.2.2.1, F.2.2.2.2⟩
  have hl : lv_has ls 3 [(0, .ref (ad 85)), (1, .int p0), (2, .int p1)] := hl
  obtain ⟨RR, hRR⟩ : ∃ q, q = f_X12_looksAt_85 u0 p0 p1 := ⟨_, rfl⟩
  have hF : ac_Fr [(85, some 15), (85, some 16), (85, some 18)] u0 u0 := ac_Fr.rf
  have hC : RR = f_X12_looksAt_85 u0 p0 p1 := hRR
  unfold f_X12_looksAt_85 at hC
  refine lv_aload_n F.1 F.2.1 dX12_looksAt_0 rfl (lv_at hl 0 rfl) ?_
  refine a_Vi F hml hl.1 hA hP hD hS (As := []) (x_X12_isName_85 l dC dI ad cA nF _  hR) (cs_RX12_194 (d := 1) F.2.2.1 (by decide)) tc_85 rfl rfl rfl rfl (Nat.le_of_ble_eq_true rfl) dX12_looksAt_1 ⟨Nat.le_refl 0, Nat.le_refl 0⟩ (fun r1 uN1 H locs hq hP hD hS => ?_)
  obtain ⟨hu1, gr1, hz1⟩ := hq
  rw [hu1] at hP hD
  have hC := vl_eq hC hz1.symm
  refine z_ne F 13 dX12_looksAt_4 (by decide) rfl (fun c2 => ?_) (fun c2 => ?_)
  · have hC := hC.trans (if_pos c2)
    refine lv_aload_n F.1 F.2.1 dX12_looksAt_13 rfl (lv_at hl 0 rfl) ?_
    refine lv_aload_n F.1 F.2.1 dX12_looksAt_14 rfl (lv_at hl 0 rfl) ?_
    refine lv_iload_n F.1 F.2.1 dX12_looksAt_15 rfl (lv_at hl 1 rfl) ?_
    refine lv_iload_n F.1 F.2.1 dX12_looksAt_16 rfl (lv_at hl 2 rfl) ?_
    refine a_Vi F hml hl.1 hA hP hD hS (As := [.int p0, .int p1]) (x_X12_find_85 l dC dI ad cA nF _ p0 p1 hR (by omega) (by omega) (by omega)) (cs_RX12_198 (d := 1) F.2.2.1 (by decide)) tc_85 rfl rfl rfl rfl (Nat.le_of_ble_eq_true rfl) dX12_looksAt_17 ⟨Nat.le_refl 0, Nat.le_refl 0⟩ (fun r3 uN3 H locs hq hP hD hS => ?_)
    obtain ⟨hu3, gr3, xr3, hz3⟩ := hq
    rw [hu3] at hP hD
    have xr3 : -1 ≤ r3.toInt ∧ r3.toInt < p1.toInt ∨ r3.toInt = -1 := xr3
    have hC := vl_eq hC hz3.symm
    refine a_puti F inX12 tyX12 tyX12_ok nmX12 hP hD hS 85 18 tc_85 rfl rfl (by decide) q1489 (fun _ h9 => h9) rfl (ty := .int) (tyX12_ok 18 (by decide)) rfl rfl dX12_looksAt_20 (fun H locs hP hD hS => ?_)
    have hR := hR.si (c := 85) (k := 18) (v := r3) ⟨i_lo _, i_hi _⟩
    have hF := hF.si (c := 85) (k := 18) (v := r3) rfl
    refine lv_aload_n F.1 F.2.1 dX12_looksAt_23 rfl (lv_at hl 0 rfl) ?_
    refine a_geti F inX12 hP 85 18 tc_85 rfl rfl (by decide) q1489 (fun _ h9 => h9) (v := r3) (rfl) dX12_looksAt_24 ?_
    refine z_ge F 38 dX12_looksAt_27 (by decide) rfl (fun c4 => ?_) (fun c4 => ?_)
    · have hC := hC.trans (if_pos c4)
      refine a_ic F (1 : Int32) dX12_looksAt_38 (by decide) ?_
      refine lv_goto (tgt := 43) F.1 F.2.1 dX12_looksAt_39 (by decide) ?_
      exact a_retz F hr hlocks hP hD hS dX12_looksAt_43 (Or.inr rfl) ⟨hR, hF, (by decide), (by first | exact (by omega : (1 : Int) ≠ 0 → 0 ≤ r3.toInt ∧ r3.toInt < p1.toInt) | (rw [ic_1]; exact (by omega : (1 : Int) ≠ 0 → 0 ≤ r3.toInt ∧ r3.toInt < p1.toInt))), hRR.symm.trans hC⟩
    · have hC := hC.trans (if_neg (by omega))
      refine lv_aload_n F.1 F.2.1 dX12_looksAt_30 rfl (lv_at hl 0 rfl) ?_
      refine a_ic F (3 : Int32) dX12_looksAt_31 (by decide) ?_
      refine a_Vi F hml hl.1 hA hP hD hS (As := [.int (3 : Int32)]) (x_X12_bad_85 l dC dI ad cA nF _ (3 : Int32) hR (by decide)) (cs_RX12_181 (d := 1) F.2.2.1 (by decide)) tc_85 rfl rfl rfl rfl (Nat.le_of_ble_eq_true rfl) dX12_looksAt_32 ⟨Nat.le_refl 0, Nat.le_refl 0⟩ (fun r5 u5 H locs hq hP hD hS => ?_)
      obtain ⟨hR, hF5, gr5, hz5⟩ := hq
      have hF := hF.tr hF5 (by decide)
      have hC := bd_eq hC hz5
      refine z_eq F 42 dX12_looksAt_35 (by decide) rfl (fun c6 => ?_) (fun c6 => ?_)
      · have hC := hC.trans (if_pos c6)
        refine a_ic F (0 : Int32) dX12_looksAt_42 (by decide) ?_
        have k7 : (u5.1 85 18).toInt = r3.toInt := congrArg Int32.toInt (show u5.1 85 18 = r3 from hF5 85 18 rfl)
        exact a_retz F hr hlocks hP hD hS dX12_looksAt_43 (Or.inl rfl) ⟨hR, hF, (by decide), (by first | exact (by omega : (0 : Int) ≠ 0 → 0 ≤ (u5.1 85 18).toInt ∧ (u5.1 85 18).toInt < p1.toInt) | (rw [ic_0]; exact (by omega : (0 : Int) ≠ 0 → 0 ≤ (u5.1 85 18).toInt ∧ (u5.1 85 18).toInt < p1.toInt))), hRR.symm.trans hC⟩
      · exfalso; omega
  · have hC := hC.trans (if_neg (by omega))
    refine lv_aload_n F.1 F.2.1 dX12_looksAt_7 rfl (lv_at hl 0 rfl) ?_
    refine a_ic F (1 : Int32) dX12_looksAt_8 (by decide) ?_
    refine a_Vi F hml hl.1 hA hP hD hS (As := [.int (1 : Int32)]) (x_X12_bad_85 l dC dI ad cA nF _ (1 : Int32) hR (by decide)) (cs_RX12_181 (d := 1) F.2.2.1 (by decide)) tc_85 rfl rfl rfl rfl (Nat.le_of_ble_eq_true rfl) dX12_looksAt_9 ⟨Nat.le_refl 0, Nat.le_refl 0⟩ (fun r8 u8 H locs hq hP hD hS => ?_)
    obtain ⟨hR, hF8, gr8, hz8⟩ := hq
    have hF := hF.tr hF8 (by decide)
    have hC := bd_eq hC hz8
    exact a_retz F hr hlocks hP hD hS dX12_looksAt_12 (i_01 (by omega)) ⟨hR, hF, (by omega : (0 : Int) ≤ r8.toInt ∧ r8.toInt ≤ 1), (by omega : r8.toInt ≠ 0 → 0 ≤ (u8.1 85 18).toInt ∧ (u8.1 85 18).toInt < p1.toInt), hRR.symm.trans hC⟩

def f_X12_takes_85 (u0 : ac_U) (p0 : Int32) (p1 : Int32) : ac_U × Int32 := (if (u0.1 85 11).toInt = (2 : Int) then (vl (f_X12_isIn u0 (u0.1 85 14) p0 p1) (fun (r3 : Int32) => (if r3.toInt ≠ 0 then (vl (f_X12_next_85 (pI u0 85 18 (u0.1 85 14))) (fun (u5 : ac_U) => (u5, (1 : Int32)))) else (bd (f_X12_bad_85 u0 (2 : Int32)) (fun (u7 : ac_U) (r7 : Int32) => (u7, r7)))))) else (bd (f_X12_bad_85 u0 (1 : Int32)) (fun (u8 : ac_U) (r8 : Int32) => (u8, r8))))
set_option maxHeartbeats 600000 in
set_option maxRecDepth 100000 in
theorem x_X12_takes_85 (l : Launch) (dC : Nat → ClassId) (dI : Nat → Nat → Nat) (ad : Nat → Nat) (cA : Nat → ClassId) (nF : Nat) (u0 : ac_U) (p0 : Int32) (p1 : Int32) (hR : ac_R rg u0) (hp1 : (3 : Int) ≤ p1.toInt ∧ p1.toInt ≤ 99) : ac_Mi l yX12_takes (.code yX12_takes cX12_takes 3 (some .boolean) :: TB) 3 (dC, dI) vwCl (ac_ty cA) ad cA (TT nF) [.ref (ad 85), .int p0, .int p1] u0 (fun (r : Int32) (u : ac_U) => ac_R rg u ∧ ac_Fr [(85, some 4), (85, some 11), (85, some 12), (85, some 13), (85, some 14), (85, some 15), (85, some 16), (85, some 18)] u0 u ∧ ((0 : Int) ≤ r.toInt ∧ r.toInt ≤ 1) ∧ (r.toInt ≠ 0 → p0.toInt ≤ (u.1 85 18).toInt ∧ (u.1 85 18).toInt ≤ p1.toInt) ∧ f_X12_takes_85 u0 p0 p1 = (u, r)) := by
  refine ac_Mi.of (cc := cX12_takes) (maxL := 3) (ret := (some .boolean)) (by decide) rfl (Nat.le_of_ble_eq_true rfl) ?_
  intro p e s m below meth c A ls F hml hr hlocks hA hP hD hS hl
  have F : ac_X p s m [.ref (ad 85), .int p0, .int p1].toArray c cX12_takes RX12 TB (dC, dI) vwCl (ac_ty cA) := ⟨F.1, F.2.1, fun w h => F.2.2.1 w (List.mem_cons_of_mem _ h), F.2.2.2.1, F.2.2.2.2⟩
  have hl : lv_has ls 3 [(0, .ref (ad 85)), (1, .int p0), (2, .int p1)] := hl
  obtain ⟨RR, hRR⟩ : ∃ q, q = f_X12_takes_85 u0 p0 p1 := ⟨_, rfl⟩
  have hF : ac_Fr [(85, some 4), (85, some 11), (85, some 12), (85, some 13), (85, some 14), (85, some 15), (85, some 16), (85, some 18)] u0 u0 := ac_Fr.rf
  have hC : RR = f_X12_takes_85 u0 p0 p1 := hRR
  unfold f_X12_takes_85 at hC
  refine lv_aload_n F.1 F.2.1 dX12_takes_0 rfl (lv_at hl 0 rfl) ?_
  have g1 : (0 : Int) ≤ (u0.1 85 11).toInt ∧ (u0.1 85 11).toInt ≤ 4 := hR 85 11
  refine a_geti F inX12 hP 85 11 tc_85 rfl rfl (by decide) q1482 (fun _ h9 => h9) (v := (u0.1 85 11)) rfl dX12_takes_1 ?_
  refine a_ic F (2 : Int32) dX12_takes_4 (by decide) ?_
  refine b_eq F 14 dX12_takes_5 (by decide) rfl ic_2 (fun c2 => ?_) (fun c2 => ?_)
  · have hC := hC.trans (if_pos c2)
    refine lv_aload_n F.1 F.2.1 dX12_takes_14 rfl (lv_at hl 0 rfl) ?_
    refine a_geti F inX12 hP 85 14 tc_85 rfl rfl (by decide) q1485 (fun _ h9 => h9) (v := (u0.1 85 14)) rfl dX12_takes_15 ?_
    refine lv_iload_n F.1 F.2.1 dX12_takes_18 rfl (lv_at hl 1 rfl) ?_
    refine lv_iload_n F.1 F.2.1 dX12_takes_19 rfl (lv_at hl 2 rfl) ?_
    refine a_Si F hml hl.1 hA hP hD hS (As := [.int (u0.1 85 14), .int p0, .int p1]) (x_X12_isIn l dC dI ad cA nF _ (u0.1 85 14) p0 p1 hR (by omega)) (cs_RX12_187 (d := 1) F.2.2.1 (by decide)) rfl rfl (Nat.le_of_ble_eq_true rfl) dX12_takes_20 ⟨Nat.le_refl 0, Nat.le_refl 0⟩ (fun r3 uN3 H locs hq hP hD hS => ?_)
    obtain ⟨hu3, gr3, xr3, hz3⟩ := hq
    rw [hu3] at hP hD
    have xr3 : r3.toInt ≠ 0 → p0.toInt ≤ (u0.1 85 14).toInt ∧ (u0.1 85 14).toInt ≤ p1.toInt := xr3
    have hC := vl_eq hC hz3.symm
    refine z_ne F 32 dX12_takes_23 (by decide) rfl (fun c4 => ?_) (fun c4 => ?_)
    · have hC := hC.trans (if_pos c4)
      refine lv_aload_n F.1 F.2.1 dX12_takes_32 rfl (lv_at hl 0 rfl) ?_
      refine lv_aload_n F.1 F.2.1 dX12_takes_33 rfl (lv_at hl 0 rfl) ?_
      refine a_geti F inX12 hP 85 14 tc_85 rfl rfl (by decide) q1485 (fun _ h9 => h9) (v := (u0.1 85 14)) (rfl) dX12_takes_34 ?_
      refine a_puti F inX12 tyX12 tyX12_ok nmX12 hP hD hS 85 18 tc_85 rfl rfl (by decide) q1489 (fun _ h9 => h9) rfl (ty := .int) (tyX12_ok 18 (by decide)) rfl rfl dX12_takes_37 (fun H locs hP hD hS => ?_)
      have hR := hR.si (c := 85) (k := 18) (v := (u0.1 85 14)) ⟨i_lo _, i_hi _⟩
      have hF := hF.si (c := 85) (k := 18) (v := (u0.1 85 14)) rfl
      refine lv_aload_n F.1 F.2.1 dX12_takes_40 rfl (lv_at hl 0 rfl) ?_
      refine a_Vv F hml hl.1 hA hP hD hS (As := []) (x_X12_next_85 l dC dI ad cA nF _  hR) (cs_RX12_184 (d := 2) F.2.2.1 (by decide)) tc_85 rfl rfl rfl rfl (Nat.le_of_ble_eq_true rfl) dX12_takes_41 ⟨Nat.le_refl 0, Nat.le_refl 0⟩ (fun u5 H locs hq hP hD hS => ?_)
      obtain ⟨hR, hF5, hz5⟩ := hq
      have hF := hF.tr hF5 (by decide)
      have hC := vl_eq hC hz5.symm
      refine a_ic F (1 : Int32) dX12_takes_44 (by decide) ?_
      have k6 : (u5.1 85 18).toInt = (u0.1 85 14).toInt := congrArg Int32.toInt (show u5.1 85 18 = (u0.1 85 14) from hF5 85 18 rfl)
      exact a_retz F hr hlocks hP hD hS dX12_takes_45 (Or.inr rfl) ⟨hR, hF, (by decide), (by first | exact (by omega : (1 : Int) ≠ 0 → p0.toInt ≤ (u5.1 85 18).toInt ∧ (u5.1 85 18).toInt ≤ p1.toInt) | (rw [ic_1]; exact (by omega : (1 : Int) ≠ 0 → p0.toInt ≤ (u5.1 85 18).toInt ∧ (u5.1 85 18).toInt ≤ p1.toInt))), hRR.symm.trans hC⟩
    · have hC := hC.trans (if_neg (by omega))
      refine lv_aload_n F.1 F.2.1 dX12_takes_26 rfl (lv_at hl 0 rfl) ?_
      refine a_ic F (2 : Int32) dX12_takes_27 (by decide) ?_
      refine a_Vi F hml hl.1 hA hP hD hS (As := [.int (2 : Int32)]) (x_X12_bad_85 l dC dI ad cA nF _ (2 : Int32) hR (by decide)) (cs_RX12_181 (d := 1) F.2.2.1 (by decide)) tc_85 rfl rfl rfl rfl (Nat.le_of_ble_eq_true rfl) dX12_takes_28 ⟨Nat.le_refl 0, Nat.le_refl 0⟩ (fun r7 u7 H locs hq hP hD hS => ?_)
      obtain ⟨hR, hF7, gr7, hz7⟩ := hq
      have hF := hF.tr hF7 (by decide)
      have hC := bd_eq hC hz7
      exact a_retz F hr hlocks hP hD hS dX12_takes_31 (i_01 (by omega)) ⟨hR, hF, (by omega : (0 : Int) ≤ r7.toInt ∧ r7.toInt ≤ 1), (by omega : r7.toInt ≠ 0 → p0.toInt ≤ (u7.1 85 18).toInt ∧ (u7.1 85 18).toInt ≤ p1.toInt), hRR.symm.trans hC⟩
  · have hC := hC.trans (if_neg (by omega))
    refine lv_aload_n F.1 F.2.1 dX12_takes_8 rfl (lv_at hl 0 rfl) ?_
    refine a_ic F (1 : Int32) dX12_takes_9 (by decide) ?_
    refine a_Vi F hml hl.1 hA hP hD hS (As := [.int (1 : Int32)]) (x_X12_bad_85 l dC dI ad cA nF _ (1 : Int32) hR (by decide)) (cs_RX12_181 (d := 1) F.2.2.1 (by decide)) tc_85 rfl rfl rfl rfl (Nat.le_of_ble_eq_true rfl) dX12_takes_10 ⟨Nat.le_refl 0, Nat.le_refl 0⟩ (fun r8 u8 H locs hq hP hD hS => ?_)
    obtain ⟨hR, hF8, gr8, hz8⟩ := hq
    have hF := hF.tr hF8 (by decide)
    have hC := bd_eq hC hz8
    exact a_retz F hr hlocks hP hD hS dX12_takes_13 (i_01 (by omega)) ⟨hR, hF, (by omega : (0 : Int) ≤ r8.toInt ∧ r8.toInt ≤ 1), (by omega : r8.toInt ≠ 0 → p0.toInt ≤ (u8.1 85 18).toInt ∧ (u8.1 85 18).toInt ≤ p1.toInt), hRR.symm.trans hC⟩

def f_X12_takesName_85 (u0 : ac_U) (p0 : Int32) (p1 : Int32) : ac_U × Int32 := (bd (f_X12_looksAt_85 u0 p0 p1) (fun (u1 : ac_U) (r1 : Int32) => (if r1.toInt ≠ 0 then (vl (f_X12_next_85 u1) (fun (u3 : ac_U) => (u3, (1 : Int32)))) else (u1, (0 : Int32)))))
set_option maxHeartbeats 600000 in
set_option maxRecDepth 100000 in
theorem x_X12_takesName_85 (l : Launch) (dC : Nat → ClassId) (dI : Nat → Nat → Nat) (ad : Nat → Nat) (cA : Nat → ClassId) (nF : Nat) (u0 : ac_U) (p0 : Int32) (p1 : Int32) (hR : ac_R rg u0) (hp0 : (0 : Int) ≤ p0.toInt ∧ p0.toInt ≤ 44) (hp1 : (0 : Int) ≤ p1.toInt ∧ p1.toInt ≤ 12) (hh0 : p0.toInt + p1.toInt ≤ 52) : ac_Mi l yX12_takesName (.code yX12_takesName cX12_takesName 3 (some .boolean) :: TB) 3 (dC, dI) vwCl (ac_ty cA) ad cA (TT nF) [.ref (ad 85), .int p0, .int p1] u0 (fun (r : Int32) (u : ac_U) => ac_R rg u ∧ ac_Fr [(85, some 4), (85, some 11), (85, some 12), (85, some 13), (85, some 14), (85, some 15), (85, some 16), (85, some 18)] u0 u ∧ ((0 : Int) ≤ r.toInt ∧ r.toInt ≤ 1) ∧ (r.toInt ≠ 0 → 0 ≤ (u.1 85 18).toInt ∧ (u.1 85 18).toInt < p1.toInt) ∧ f_X12_takesName_85 u0 p0 p1 = (u, r)) := by
  refine ac_Mi.of (cc := cX12_takesName) (maxL := 3) (ret := (some .boolean)) (by decide) rfl (Nat.le_of_ble_eq_true rfl) ?_
  intro p e s m below meth c A ls F hml hr hlocks hA hP hD hS hl
  have F : ac_X p s m [.ref (ad 85), .int p0, .int p1].toArray c cX12_takesName RX12 TB (dC, dI) vwCl (ac_ty cA) := ⟨F.1, F.2.1, fun w h => F.2.2.1 w (List.mem_cons_of_mem _ h), F.2.2.2.1, F.2.2.2.2⟩
  have hl : lv_has ls 3 [(0, .ref (ad 85)), (1, .int p0), (2, .int p1)] := hl
  obtain ⟨RR, hRR⟩ : ∃ q, q = f_X12_takesName_85 u0 p0 p1 := ⟨_, rfl⟩
  have hF : ac_Fr [(85, some 4), (85, some 11), (85, some 12), (85, some 13), (85, some 14), (85, some 15), (85, some 16), (85, some 18)] u0 u0 := ac_Fr.rf
  have hC : RR = f_X12_takesName_85 u0 p0 p1 := hRR
  unfold f_X12_takesName_85 at hC
  refine lv_aload_n F.1 F.2.1 dX12_takesName_0 rfl (lv_at hl 0 rfl) ?_
  refine lv_iload_n F.1 F.2.1 dX12_takesName_1 rfl (lv_at hl 1 rfl) ?_
  refine lv_iload_n F.1 F.2.1 dX12_takesName_2 rfl (lv_at hl 2 rfl) ?_
  refine a_Vi F hml hl.1 hA hP hD hS (As := [.int p0, .int p1]) (x_X12_looksAt_85 l dC dI ad cA nF _ p0 p1 hR (by omega) (by omega) (by omega)) (cs_RX12_202 (d := 2) F.2.2.1 (by decide)) tc_85 rfl rfl rfl rfl (Nat.le_of_ble_eq_true rfl) dX12_takesName_3 ⟨Nat.le_refl 0, Nat.le_refl 0⟩ (fun r1 u1 H locs hq hP hD hS => ?_)
  obtain ⟨hR, hF1, gr1, xr1, hz1⟩ := hq
  have hF := hF.tr hF1 (by decide)
  have xr1 : r1.toInt ≠ 0 → 0 ≤ (u1.1 85 18).toInt ∧ (u1.1 85 18).toInt < p1.toInt := xr1
  have hC := bd_eq hC hz1
  refine z_ne F 11 dX12_takesName_6 (by decide) rfl (fun c2 => ?_) (fun c2 => ?_)
  · have hC := hC.trans (if_pos c2)
    refine lv_aload_n F.1 F.2.1 dX12_takesName_11 rfl (lv_at hl 0 rfl) ?_
    refine a_Vv F hml hl.1 hA hP hD hS (As := []) (x_X12_next_85 l dC dI ad cA nF _  hR) (cs_RX12_184 (d := 2) F.2.2.1 (by decide)) tc_85 rfl rfl rfl rfl (Nat.le_of_ble_eq_true rfl) dX12_takesName_12 ⟨Nat.le_refl 0, Nat.le_refl 0⟩ (fun u3 H locs hq hP hD hS => ?_)
    obtain ⟨hR, hF3, hz3⟩ := hq
    have hF := hF.tr hF3 (by decide)
    have hC := vl_eq hC hz3.symm
    refine a_ic F (1 : Int32) dX12_takesName_15 (by decide) ?_
    have k4 : (u3.1 85 18).toInt = (u1.1 85 18).toInt := congrArg Int32.toInt (show u3.1 85 18 = (u1.1 85 18) from hF3 85 18 rfl)
    exact a_retz F hr hlocks hP hD hS dX12_takesName_16 (Or.inr rfl) ⟨hR, hF, (by decide), (by first | exact (by omega : (1 : Int) ≠ 0 → 0 ≤ (u3.1 85 18).toInt ∧ (u3.1 85 18).toInt < p1.toInt) | (rw [ic_1]; exact (by omega : (1 : Int) ≠ 0 → 0 ≤ (u3.1 85 18).toInt ∧ (u3.1 85 18).toInt < p1.toInt))), hRR.symm.trans hC⟩
  · have hC := hC.trans (if_neg (by omega))
    refine a_ic F (0 : Int32) dX12_takesName_9 (by decide) ?_
    exact a_retz F hr hlocks hP hD hS dX12_takesName_10 (Or.inl rfl) ⟨hR, hF, (by decide), (by first | exact (by omega : (0 : Int) ≠ 0 → 0 ≤ (u1.1 85 18).toInt ∧ (u1.1 85 18).toInt < p1.toInt) | (rw [ic_0]; exact (by omega : (0 : Int) ≠ 0 → 0 ≤ (u1.1 85 18).toInt ∧ (u1.1 85 18).toInt < p1.toInt))), hRR.symm.trans hC⟩

def f_X12_sign_85 (u0 : ac_U) (p0 : Int32) : ac_U × Int32 := (vl (f_X12_isSign_85 u0 p0) (fun (r1 : Int32) => (if r1.toInt ≠ 0 then (vl (f_X12_next_85 u0) (fun (u3 : ac_U) => (u3, (1 : Int32)))) else (bd (f_X12_bad_85 u0 (1 : Int32)) (fun (u4 : ac_U) (r4 : Int32) => (u4, r4))))))
set_option maxHeartbeats 600000 in
set_option maxRecDepth 100000 in
theorem x_X12_sign_85 (l : Launch) (dC : Nat → ClassId) (dI : Nat → Nat → Nat) (ad : Nat → Nat) (cA : Nat → ClassId) (nF : Nat) (u0 : ac_U) (p0 : Int32) (hR : ac_R rg u0) (hp0 : (59 : Int) ≤ p0.toInt ∧ p0.toInt ≤ 59) : ac_Mi l yX12_sign (.code yX12_sign cX12_sign 2 (some .boolean) :: TB) 3 (dC, dI) vwCl (ac_ty cA) ad cA (TT nF) [.ref (ad 85), .int p0] u0 (fun (r : Int32) (u : ac_U) => ac_R rg u ∧ ac_Fr [(85, some 4), (85, some 11), (85, some 12), (85, some 13), (85, some 14), (85, some 15), (85, some 16)] u0 u ∧ ((0 : Int) ≤ r.toInt ∧ r.toInt ≤ 1) ∧ f_X12_sign_85 u0 p0 = (u, r)) := by
  refine ac_Mi.of (cc := cX12_sign) (maxL := 2) (ret := (some .boolean)) (by decide) rfl (Nat.le_of_ble_eq_true rfl) ?_
  intro p e s m below meth c A ls F hml hr hlocks hA hP hD hS hl
  have F : ac_X p s m [.ref (ad 85), .int p0].toArray c cX12_sign RX12 TB (dC, dI) vwCl (ac_ty cA) := ⟨F.1, F.2.1, fun w h => F.2.2.1 w (List.mem_cons_of_mem _ h), F.2.2.2.1, F.2.2.2.2⟩
  have hl : lv_has ls 2 [(0, .ref (ad 85)), (1, .int p0)] := hl
  obtain ⟨RR, hRR⟩ : ∃ q, q = f_X12_sign_85 u0 p0 := ⟨_, rfl⟩
  have hF : ac_Fr [(85, some 4), (85, some 11), (85, some 12), (85, some 13), (85, some 14), (85, some 15), (85, some 16)] u0 u0 := ac_Fr.rf
  have hC : RR = f_X12_sign_85 u0 p0 := hRR
  unfold f_X12_sign_85 at hC
  refine lv_aload_n F.1 F.2.1 dX12_sign_0 rfl (lv_at hl 0 rfl) ?_
  refine lv_iload_n F.1 F.2.1 dX12_sign_1 rfl (lv_at hl 1 rfl) ?_
  refine a_Vi F hml hl.1 hA hP hD hS (As := [.int p0]) (x_X12_isSign_85 l dC dI ad cA nF _ p0 hR (by omega)) (cs_RX12_178 (d := 1) F.2.2.1 (by decide)) tc_85 rfl rfl rfl rfl (Nat.le_of_ble_eq_true rfl) dX12_sign_2 ⟨Nat.le_refl 0, Nat.le_refl 0⟩ (fun r1 uN1 H locs hq hP hD hS => ?_)
  obtain ⟨hu1, gr1, hz1⟩ := hq
  rw [hu1] at hP hD
  have hC := vl_eq hC hz1.symm
  refine z_ne F 14 dX12_sign_5 (by decide) rfl (fun c2 => ?_) (fun c2 => ?_)
  · have hC := hC.trans (if_pos c2)
    refine lv_aload_n F.1 F.2.1 dX12_sign_14 rfl (lv_at hl 0 rfl) ?_
    refine a_Vv F hml hl.1 hA hP hD hS (As := []) (x_X12_next_85 l dC dI ad cA nF _  hR) (cs_RX12_184 (d := 2) F.2.2.1 (by decide)) tc_85 rfl rfl rfl rfl (Nat.le_of_ble_eq_true rfl) dX12_sign_15 ⟨Nat.le_refl 0, Nat.le_refl 0⟩ (fun u3 H locs hq hP hD hS => ?_)
    obtain ⟨hR, hF3, hz3⟩ := hq
    have hF := hF.tr hF3 (by decide)
    have hC := vl_eq hC hz3.symm
    refine a_ic F (1 : Int32) dX12_sign_18 (by decide) ?_
    exact a_retz F hr hlocks hP hD hS dX12_sign_19 (Or.inr rfl) ⟨hR, hF, (by decide), hRR.symm.trans hC⟩
  · have hC := hC.trans (if_neg (by omega))
    refine lv_aload_n F.1 F.2.1 dX12_sign_8 rfl (lv_at hl 0 rfl) ?_
    refine a_ic F (1 : Int32) dX12_sign_9 (by decide) ?_
    refine a_Vi F hml hl.1 hA hP hD hS (As := [.int (1 : Int32)]) (x_X12_bad_85 l dC dI ad cA nF _ (1 : Int32) hR (by decide)) (cs_RX12_181 (d := 1) F.2.2.1 (by decide)) tc_85 rfl rfl rfl rfl (Nat.le_of_ble_eq_true rfl) dX12_sign_10 ⟨Nat.le_refl 0, Nat.le_refl 0⟩ (fun r4 u4 H locs hq hP hD hS => ?_)
    obtain ⟨hR, hF4, gr4, hz4⟩ := hq
    have hF := hF.tr hF4 (by decide)
    have hC := bd_eq hC hz4
    exact a_retz F hr hlocks hP hD hS dX12_sign_13 (i_01 (by omega)) ⟨hR, hF, (by omega : (0 : Int) ≤ r4.toInt ∧ r4.toInt ≤ 1), hRR.symm.trans hC⟩

def f_X12_taken_85 (u0 : ac_U) (p0 : Int32) : ac_U := (pI (pI (pI (pI u0 85 3 (u0.1 85 2)) 85 2 (0 : Int32)) 85 4 (0 : Int32)) 85 5 p0)
set_option maxHeartbeats 600000 in
set_option maxRecDepth 100000 in
theorem x_X12_taken_85 (l : Launch) (dC : Nat → ClassId) (dI : Nat → Nat → Nat) (ad : Nat → Nat) (cA : Nat → ClassId) (nF : Nat) (u0 : ac_U) (p0 : Int32) (hR : ac_R rg u0) (hp0 : (200 : Int) ≤ p0.toInt ∧ p0.toInt ≤ 900) : ac_Mv l yX12_taken (.code yX12_taken cX12_taken 2 none :: TB) 1 (dC, dI) vwCl (ac_ty cA) ad cA (TT nF) [.ref (ad 85), .int p0] u0 (fun (u : ac_U) => ac_R rg u ∧ ac_Fr [(85, some 2), (85, some 3), (85, some 4), (85, some 5)] u0 u ∧ (ln0 85) u ∧ f_X12_taken_85 u0 p0 = u) := by
  refine ac_Mv.of (cc := cX12_taken) (maxL := 2) (ret := none) (by decide) rfl (Nat.le_of_ble_eq_true rfl) ?_
  intro p e s m below meth c A ls F hml hr hlocks hA hP hD hS hl
  have F : ac_X p s m [.ref (ad 85), .int p0].toArray c cX12_taken RX12 TB (dC, dI) vwCl (ac_ty cA) := ⟨F.1, F.2.1, fun w h => F.2.2.1 w (List.mem_cons_of_mem _ h), F.2.2.2.1, F.2.2.2.2⟩
  have hl : lv_has ls 2 [(0, .ref (ad 85)), (1, .int p0)] := hl
  obtain ⟨RR, hRR⟩ : ∃ q, q = f_X12_taken_85 u0 p0 := ⟨_, rfl⟩
  have hF : ac_Fr [(85, some 2), (85, some 3), (85, some 4), (85, some 5)] u0 u0 := ac_Fr.rf
  have hC : RR = f_X12_taken_85 u0 p0 := hRR
  unfold f_X12_taken_85 at hC
  refine lv_aload_n F.1 F.2.1 dX12_taken_0 rfl (lv_at hl 0 rfl) ?_
  refine lv_aload_n F.1 F.2.1 dX12_taken_1 rfl (lv_at hl 0 rfl) ?_
  have g1 : (0 : Int) ≤ (u0.1 85 2).toInt ∧ (u0.1 85 2).toInt ≤ 940 := hR 85 2
  refine a_geti F inX12 hP 85 2 tc_85 rfl rfl (by decide) q1473 (fun _ h9 => h9) (v := (u0.1 85 2)) rfl dX12_taken_2 ?_
  refine a_puti F inX12 tyX12 tyX12_ok nmX12 hP hD hS 85 3 tc_85 rfl rfl (by decide) q1474 (fun _ h9 => h9) rfl (ty := .int) (tyX12_ok 3 (by decide)) rfl rfl dX12_taken_5 (fun H locs hP hD hS => ?_)
  have hR := hR.si (c := 85) (k := 3) (v := (u0.1 85 2)) (by omega : (0 : Int) ≤ (u0.1 85 2).toInt ∧ (u0.1 85 2).toInt ≤ 940)
  have hF := hF.si (c := 85) (k := 3) (v := (u0.1 85 2)) rfl
  refine lv_aload_n F.1 F.2.1 dX12_taken_8 rfl (lv_at hl 0 rfl) ?_
  refine a_ic F (0 : Int32) dX12_taken_9 (by decide) ?_
  refine a_puti F inX12 tyX12 tyX12_ok nmX12 hP hD hS 85 2 tc_85 rfl rfl (by decide) q1473 (fun _ h9 => h9) rfl (ty := .int) (tyX12_ok 2 (by decide)) rfl rfl dX12_taken_10 (fun H locs hP hD hS => ?_)
  have hR := hR.si (c := 85) (k := 2) (v := (0 : Int32)) (by rw [ic_0]; exact (by omega : (0 : Int) ≤ (0 : Int) ∧ (0 : Int) ≤ 940))
  have hF := hF.si (c := 85) (k := 2) (v := (0 : Int32)) rfl
  have hN_LR := ln0_D hD
  have hK_LR := hN_LR
  refine lv_aload_n F.1 F.2.1 dX12_taken_13 rfl (lv_at hl 0 rfl) ?_
  refine a_ic F (0 : Int32) dX12_taken_14 (by decide) ?_
  refine a_puti F inX12 tyX12 tyX12_ok nmX12 hP hD hS 85 4 tc_85 rfl rfl (by decide) q1475 (fun _ h9 => h9) rfl (ty := .int) (tyX12_ok 4 (by decide)) rfl rfl dX12_taken_15 (fun H locs hP hD hS => ?_)
  have hR := hR.si (c := 85) (k := 4) (v := (0 : Int32)) (by rw [ic_0]; exact (by omega : (0 : Int) ≤ (0 : Int) ∧ (0 : Int) ≤ 940))
  have hF := hF.si (c := 85) (k := 4) (v := (0 : Int32)) rfl
  have hK_LR := sp_si (sp_ln0 85) hK_LR (c := 85) (k := 4) (v := (0 : Int32)) (fun j9 h9 q9 => by rw [q9] at h9; exact absurd h9 (by decide))
  refine lv_aload_n F.1 F.2.1 dX12_taken_18 rfl (lv_at hl 0 rfl) ?_
  refine lv_iload_n F.1 F.2.1 dX12_taken_19 rfl (lv_at hl 1 rfl) ?_
  refine a_puti F inX12 tyX12 tyX12_ok nmX12 hP hD hS 85 5 tc_85 rfl rfl (by decide) q1476 (fun _ h9 => h9) rfl (ty := .int) (tyX12_ok 5 (by decide)) rfl rfl dX12_taken_20 (fun H locs hP hD hS => ?_)
  have hR := hR.si (c := 85) (k := 5) (v := p0) (by omega : (0 : Int) ≤ p0.toInt ∧ p0.toInt ≤ 900)
  have hF := hF.si (c := 85) (k := 5) (v := p0) rfl
  have hK_LR := sp_si (sp_ln0 85) hK_LR (c := 85) (k := 5) (v := p0) (fun j9 h9 q9 => by rw [q9] at h9; exact absurd h9 (by decide))
  exact a_retv F hr hlocks hP hD hS dX12_taken_23 ⟨hR, hF, hK_LR, hRR.symm.trans hC⟩
def K_X12_fresh_85_74 (u0 : ac_U) (p0 : Int32) (u : ac_U) : ac_U × Int32 := (bd (f_X12_bad_85 u (3 : Int32)) (fun (u1 : ac_U) (r1 : Int32) => (u1, r1)))
def f_X12_fresh_85 (u0 : ac_U) (p0 : Int32) : ac_U × Int32 := (vl (f_X12_isName_85 u0) (fun (r2 : Int32) => (if r2.toInt ≠ 0 then (vl (f_X12_find_85 u0 (26 : Int32) (u0.1 88 1)) (fun (r5 : Int32) => (if 0 ≤ r5.toInt then (K_X12_fresh_85_74 u0 p0 u0) else (vl (f_X12_find_85 u0 (34 : Int32) (u0.1 88 4)) (fun (r8 : Int32) => (if 0 ≤ r8.toInt then (K_X12_fresh_85_74 u0 p0 u0) else (vl (f_X12_find_85 u0 (38 : Int32) (u0.1 88 5)) (fun (r11 : Int32) => (if 0 ≤ r11.toInt then (K_X12_fresh_85_74 u0 p0 u0) else (vl (f_X12_find_85 u0 (44 : Int32) (u0.1 88 6)) (fun (r14 : Int32) => (if r14.toInt < 0 then (vl (f_X12_next_85 (pL u0 90 p0.toNatClampNeg (u0.2 85 17))) (fun (u16 : ac_U) => (u16, (1 : Int32)))) else (K_X12_fresh_85_74 u0 p0 u0))))))))))))) else (bd (f_X12_bad_85 u0 (1 : Int32)) (fun (u17 : ac_U) (r17 : Int32) => (u17, r17))))))
set_option maxHeartbeats 600000 in
set_option maxRecDepth 100000 in
theorem x_X12_fresh_85 (l : Launch) (dC : Nat → ClassId) (dI : Nat → Nat → Nat) (ad : Nat → Nat) (cA : Nat → ClassId) (nF : Nat) (u0 : ac_U) (p0 : Int32) (hR : ac_R rg u0) (hp0 : (26 : Int) ≤ p0.toInt ∧ p0.toInt ≤ 51) : ac_Mi l yX12_fresh (.code yX12_fresh cX12_fresh 2 (some .boolean) :: TB) 3 (dC, dI) vwCl (ac_ty cA) ad cA (TT nF) [.ref (ad 85), .int p0] u0 (fun (r : Int32) (u : ac_U) => ac_R rg u ∧ ac_Fr [(85, some 4), (85, some 11), (85, some 12), (85, some 13), (85, some 14), (85, some 15), (85, some 16)] u0 u ∧ ((0 : Int) ≤ r.toInt ∧ r.toInt ≤ 1) ∧ f_X12_fresh_85 u0 p0 = (u, r)) := by
  refine ac_Mi.of (cc := cX12_fresh) (maxL := 2) (ret := (some .boolean)) (by decide) rfl (Nat.le_of_ble_eq_true rfl) ?_
  intro p e s m below meth c A ls F hml hr hlocks hA hP hD hS hl
  have F : ac_X p s m [.ref (ad 85), .int p0].toArray c cX12_fresh RX12 TB (dC, dI) vwCl (ac_ty cA) := ⟨F.1, F.2.1, fun w h => F.2.2.1 w (List.mem_cons_of_mem _ h), F.2.2.2.1, F.2.2.2.2⟩
  have hl : lv_has ls 2 [(0, .ref (ad 85)), (1, .int p0)] := hl
  obtain ⟨RR, hRR⟩ : ∃ q, q = f_X12_fresh_85 u0 p0 := ⟨_, rfl⟩
  have hF : ac_Fr [(85, some 4), (85, some 11), (85, some 12), (85, some 13), (85, some 14), (85, some 15), (85, some 16)] u0 u0 := ac_Fr.rf
  have L74 : ∀ (u : ac_U) (H : Heap) (locs : List Loc) (ls : Array Slot), ac_R rg u → ac_Fr [(85, some 4), (85, some 11), (85, some 12), (85, some 13), (85, some 14), (85, some 15), (85, some 16)] u0 u → RR = (K_X12_fresh_85_74 u0 p0 u) → va_P (dC, dI) vwCl (ac_w ad cA (TT nF) u) H → va_D A (ac_w ad cA (TT nF) u) → va_S A s.heap H locs → lv_has ls 2 [(0, .ref (ad 85))] → W p l e (ac_rm 3) s m [.ref (ad 85), .int p0].toArray below meth c H locs 0 0 (MQ below (va_Qi (fun (r : Int32) (u : ac_U) => ac_R rg u ∧ ac_Fr [(85, some 4), (85, some 11), (85, some 12), (85, some 13), (85, some 14), (85, some 15), (85, some 16)] u0 u ∧ ((0 : Int) ≤ r.toInt ∧ r.toInt ≤ 1) ∧ f_X12_fresh_85 u0 p0 = (u, r)) (ac_B (dC, dI) vwCl (ac_ty cA) ad cA (TT nF) A) A) [.ref (ad 85), .int p0].toArray s 0 0 A) (F0 m 74 ls []) := by
    intro u H locs ls hR hF hC hP hD hS hl
    unfold K_X12_fresh_85_74 at hC
    refine lv_aload_n F.1 F.2.1 dX12_fresh_74 rfl (lv_at hl 0 rfl) ?_
    refine a_ic F (3 : Int32) dX12_fresh_75 (by decide) ?_
    refine a_Vi F hml hl.1 hA hP hD hS (As := [.int (3 : Int32)]) (x_X12_bad_85 l dC dI ad cA nF _ (3 : Int32) hR (by decide)) (cs_RX12_181 (d := 1) F.2.2.1 (by decide)) tc_85 rfl rfl rfl rfl (Nat.le_of_ble_eq_true rfl) dX12_fresh_76 ⟨Nat.le_refl 0, Nat.le_refl 0⟩ (fun r1 u1 H locs hq hP hD hS => ?_)
    obtain ⟨hR, hF1, gr1, hz1⟩ := hq
    have hF := hF.tr hF1 (by decide)
    have hC := bd_eq hC hz1
    exact a_retz F hr hlocks hP hD hS dX12_fresh_79 (i_01 (by omega)) ⟨hR, hF, (by omega : (0 : Int) ≤ r1.toInt ∧ r1.toInt ≤ 1), hRR.symm.trans hC⟩
  have hC : RR = f_X12_fresh_85 u0 p0 := hRR
  unfold f_X12_fresh_85 at hC
  refine lv_aload_n F.1 F.2.1 dX12_fresh_0 rfl (lv_at hl 0 rfl) ?_
  refine a_Vi F hml hl.1 hA hP hD hS (As := []) (x_X12_isName_85 l dC dI ad cA nF _  hR) (cs_RX12_194 (d := 1) F.2.2.1 (by decide)) tc_85 rfl rfl rfl rfl (Nat.le_of_ble_eq_true rfl) dX12_fresh_1 ⟨Nat.le_refl 0, Nat.le_refl 0⟩ (fun r2 uN2 H locs hq hP hD hS => ?_)
  obtain ⟨hu2, gr2, hz2⟩ := hq
  rw [hu2] at hP hD
  have hC := vl_eq hC hz2.symm
  refine z_ne F 13 dX12_fresh_4 (by decide) rfl (fun c3 => ?_) (fun c3 => ?_)
  · have hC := hC.trans (if_pos c3)
    refine lv_aload_n F.1 F.2.1 dX12_fresh_13 rfl (lv_at hl 0 rfl) ?_
    refine a_bp F (26 : Int32) dX12_fresh_14 (by decide) ?_
    refine lv_aload_n F.1 F.2.1 dX12_fresh_16 rfl (lv_at hl 0 rfl) ?_
    refine a_getr F inX12 hP 85 7 tc_85 rfl rfl (by decide) q1478 (fun _ h9 => h9) dX12_fresh_17 ?_
    refine a_ic F (1 : Int32) dX12_fresh_20 (by decide) ?_
    have g4 : (0 : Int) ≤ (u0.1 88 1).toInt ∧ (u0.1 88 1).toInt ≤ 8 := hR 88 1
    refine a_ialdK F hP 88 1 tc_88 rfl rfl (i_in ic_1 (by omega)) (v := (u0.1 88 1)) rfl dX12_fresh_21 ?_
    refine a_Vi F hml hl.1 hA hP hD hS (As := [.int (26 : Int32), .int (u0.1 88 1)]) (x_X12_find_85 l dC dI ad cA nF _ (26 : Int32) (u0.1 88 1) hR (by decide) (by omega) (by simp only [ic_26]; omega)) (cs_RX12_198 (d := 1) F.2.2.1 (by decide)) tc_85 rfl rfl rfl rfl (Nat.le_of_ble_eq_true rfl) dX12_fresh_22 ⟨Nat.le_refl 0, Nat.le_refl 0⟩ (fun r5 uN5 H locs hq hP hD hS => ?_)
    obtain ⟨hu5, gr5, xr5, hz5⟩ := hq
    rw [hu5] at hP hD
    have xr5 : -1 ≤ r5.toInt ∧ r5.toInt < (u0.1 88 1).toInt ∨ r5.toInt = -1 := xr5
    have hC := vl_eq hC hz5.symm
    refine z_ge F 74 dX12_fresh_25 (by decide) rfl (fun c6 => ?_) (fun c6 => ?_)
    · have hC := hC.trans (if_pos c6)
      exact L74 _ _ _ _ hR hF hC hP hD hS (lv_sub hl [0] rfl)
    · have hC := hC.trans (if_neg (by omega))
      refine lv_aload_n F.1 F.2.1 dX12_fresh_28 rfl (lv_at hl 0 rfl) ?_
      refine a_bp F (34 : Int32) dX12_fresh_29 (by decide) ?_
      refine lv_aload_n F.1 F.2.1 dX12_fresh_31 rfl (lv_at hl 0 rfl) ?_
      refine a_getr F inX12 hP 85 7 tc_85 rfl rfl (by decide) q1478 (fun _ h9 => h9) dX12_fresh_32 ?_
      refine a_ic F (4 : Int32) dX12_fresh_35 (by decide) ?_
      have g7 : (0 : Int) ≤ (u0.1 88 4).toInt ∧ (u0.1 88 4).toInt ≤ 4 := hR 88 4
      refine a_ialdK F hP 88 4 tc_88 rfl rfl (i_in ic_4 (by omega)) (v := (u0.1 88 4)) rfl dX12_fresh_36 ?_
      refine a_Vi F hml hl.1 hA hP hD hS (As := [.int (34 : Int32), .int (u0.1 88 4)]) (x_X12_find_85 l dC dI ad cA nF _ (34 : Int32) (u0.1 88 4) hR (by decide) (by omega) (by simp only [ic_34]; omega)) (cs_RX12_198 (d := 1) F.2.2.1 (by decide)) tc_85 rfl rfl rfl rfl (Nat.le_of_ble_eq_true rfl) dX12_fresh_37 ⟨Nat.le_refl 0, Nat.le_refl 0⟩ (fun r8 uN8 H locs hq hP hD hS => ?_)
      obtain ⟨hu8, gr8, xr8, hz8⟩ := hq
      rw [hu8] at hP hD
      have xr8 : -1 ≤ r8.toInt ∧ r8.toInt < (u0.1 88 4).toInt ∨ r8.toInt = -1 := xr8
      have hC := vl_eq hC hz8.symm
      refine z_ge F 74 dX12_fresh_40 (by decide) rfl (fun c9 => ?_) (fun c9 => ?_)
      · have hC := hC.trans (if_pos c9)
        exact L74 _ _ _ _ hR hF hC hP hD hS (lv_sub hl [0] rfl)
      · have hC := hC.trans (if_neg (by omega))
        refine lv_aload_n F.1 F.2.1 dX12_fresh_43 rfl (lv_at hl 0 rfl) ?_
        refine a_bp F (38 : Int32) dX12_fresh_44 (by decide) ?_
        refine lv_aload_n F.1 F.2.1 dX12_fresh_46 rfl (lv_at hl 0 rfl) ?_
        refine a_getr F inX12 hP 85 7 tc_85 rfl rfl (by decide) q1478 (fun _ h9 => h9) dX12_fresh_47 ?_
        refine a_ic F (5 : Int32) dX12_fresh_50 (by decide) ?_
        have g10 : (0 : Int) ≤ (u0.1 88 5).toInt ∧ (u0.1 88 5).toInt ≤ 6 := hR 88 5
        refine a_ialdK F hP 88 5 tc_88 rfl rfl (i_in ic_5 (by omega)) (v := (u0.1 88 5)) rfl dX12_fresh_51 ?_
        refine a_Vi F hml hl.1 hA hP hD hS (As := [.int (38 : Int32), .int (u0.1 88 5)]) (x_X12_find_85 l dC dI ad cA nF _ (38 : Int32) (u0.1 88 5) hR (by decide) (by omega) (by simp only [ic_38]; omega)) (cs_RX12_198 (d := 1) F.2.2.1 (by decide)) tc_85 rfl rfl rfl rfl (Nat.le_of_ble_eq_true rfl) dX12_fresh_52 ⟨Nat.le_refl 0, Nat.le_refl 0⟩ (fun r11 uN11 H locs hq hP hD hS => ?_)
        obtain ⟨hu11, gr11, xr11, hz11⟩ := hq
        rw [hu11] at hP hD
        have xr11 : -1 ≤ r11.toInt ∧ r11.toInt < (u0.1 88 5).toInt ∨ r11.toInt = -1 := xr11
        have hC := vl_eq hC hz11.symm
        refine z_ge F 74 dX12_fresh_55 (by decide) rfl (fun c12 => ?_) (fun c12 => ?_)
        · have hC := hC.trans (if_pos c12)
          exact L74 _ _ _ _ hR hF hC hP hD hS (lv_sub hl [0] rfl)
        · have hC := hC.trans (if_neg (by omega))
          refine lv_aload_n F.1 F.2.1 dX12_fresh_58 rfl (lv_at hl 0 rfl) ?_
          refine a_bp F (44 : Int32) dX12_fresh_59 (by decide) ?_
          refine lv_aload_n F.1 F.2.1 dX12_fresh_61 rfl (lv_at hl 0 rfl) ?_
          refine a_getr F inX12 hP 85 7 tc_85 rfl rfl (by decide) q1478 (fun _ h9 => h9) dX12_fresh_62 ?_
          refine a_bp F (6 : Int32) dX12_fresh_65 (by decide) ?_
          have g13 : (0 : Int) ≤ (u0.1 88 6).toInt ∧ (u0.1 88 6).toInt ≤ 8 := hR 88 6
          refine a_ialdK F hP 88 6 tc_88 rfl rfl (i_in ic_6 (by omega)) (v := (u0.1 88 6)) rfl dX12_fresh_67 ?_
          refine a_Vi F hml hl.1 hA hP hD hS (As := [.int (44 : Int32), .int (u0.1 88 6)]) (x_X12_find_85 l dC dI ad cA nF _ (44 : Int32) (u0.1 88 6) hR (by decide) (by omega) (by simp only [ic_44]; omega)) (cs_RX12_198 (d := 1) F.2.2.1 (by decide)) tc_85 rfl rfl rfl rfl (Nat.le_of_ble_eq_true rfl) dX12_fresh_68 ⟨Nat.le_refl 0, Nat.le_refl 0⟩ (fun r14 uN14 H locs hq hP hD hS => ?_)
          obtain ⟨hu14, gr14, xr14, hz14⟩ := hq
          rw [hu14] at hP hD
          have xr14 : -1 ≤ r14.toInt ∧ r14.toInt < (u0.1 88 6).toInt ∨ r14.toInt = -1 := xr14
          have hC := vl_eq hC hz14.symm
          refine z_lt F 80 dX12_fresh_71 (by decide) rfl (fun c15 => ?_) (fun c15 => ?_)
          · have hC := hC.trans (if_pos c15)
            refine lv_aload_n F.1 F.2.1 dX12_fresh_80 rfl (lv_at hl 0 rfl) ?_
            refine a_getr F inX12 hP 85 9 tc_85 rfl rfl (by decide) q1480 (fun _ h9 => h9) dX12_fresh_81 ?_
            refine lv_iload_n F.1 F.2.1 dX12_fresh_84 rfl (lv_at hl 1 rfl) ?_
            refine lv_aload_n F.1 F.2.1 dX12_fresh_85 rfl (lv_at hl 0 rfl) ?_
            refine a_getl F inX12 hP 85 17 tc_85 rfl rfl (by decide) q1488 (fun _ h9 => h9) (v := (u0.2 85 17)) rfl dX12_fresh_86 ?_
            refine a_last F hP hD hS 90 tc_90 rfl (i_in rfl (by omega)) dX12_fresh_89 (fun H locs hP hD hS => ?_)
            have hR := ac_slR hD hR
            have hF := ac_slF hD hF
            refine lv_aload_n F.1 F.2.1 dX12_fresh_90 rfl (lv_at hl 0 rfl) ?_
            refine a_Vv F hml hl.1 hA hP hD hS (As := []) (x_X12_next_85 l dC dI ad cA nF _  hR) (cs_RX12_184 (d := 2) F.2.2.1 (by decide)) tc_85 rfl rfl rfl rfl (Nat.le_of_ble_eq_true rfl) dX12_fresh_91 ⟨Nat.le_refl 0, Nat.le_refl 0⟩ (fun u16 H locs hq hP hD hS => ?_)
            obtain ⟨hR, hF16, hz16⟩ := hq
            have hF := hF.tr hF16 (by decide)
            have hC := vl_eq hC hz16.symm
            refine a_ic F (1 : Int32) dX12_fresh_94 (by decide) ?_
            exact a_retz F hr hlocks hP hD hS dX12_fresh_95 (Or.inr rfl) ⟨hR, hF, (by decide), hRR.symm.trans hC⟩
          · have hC := hC.trans (if_neg (by omega))
            exact L74 _ _ _ _ hR hF hC hP hD hS (lv_sub hl [0] rfl)
  · have hC := hC.trans (if_neg (by omega))
    refine lv_aload_n F.1 F.2.1 dX12_fresh_7 rfl (lv_at hl 0 rfl) ?_
    refine a_ic F (1 : Int32) dX12_fresh_8 (by decide) ?_
    refine a_Vi F hml hl.1 hA hP hD hS (As := [.int (1 : Int32)]) (x_X12_bad_85 l dC dI ad cA nF _ (1 : Int32) hR (by decide)) (cs_RX12_181 (d := 1) F.2.2.1 (by decide)) tc_85 rfl rfl rfl rfl (Nat.le_of_ble_eq_true rfl) dX12_fresh_9 ⟨Nat.le_refl 0, Nat.le_refl 0⟩ (fun r17 u17 H locs hq hP hD hS => ?_)
    obtain ⟨hR, hF17, gr17, hz17⟩ := hq
    have hF := hF.tr hF17 (by decide)
    have hC := bd_eq hC hz17
    exact a_retz F hr hlocks hP hD hS dX12_fresh_12 (i_01 (by omega)) ⟨hR, hF, (by omega : (0 : Int) ≤ r17.toInt ∧ r17.toInt ≤ 1), hRR.symm.trans hC⟩

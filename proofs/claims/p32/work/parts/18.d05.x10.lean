
def K_X12_isIn_14 (u0 : ac_U) (p0 : Int32) (p1 : Int32) (p2 : Int32) : Int32 := (0 : Int32)
def f_X12_isIn (u0 : ac_U) (p0 : Int32) (p1 : Int32) (p2 : Int32) : Int32 := (if p0.toInt < p1.toInt then (K_X12_isIn_14 u0 p0 p1 p2) else (if p2.toInt < p0.toInt then (K_X12_isIn_14 u0 p0 p1 p2) else (1 : Int32)))
set_option maxHeartbeats 600000 in
set_option maxRecDepth 100000 in
theorem x_X12_isIn (l : Launch) (dC : Nat → ClassId) (dI : Nat → Nat → Nat) (ad : Nat → Nat) (cA : Nat → ClassId) (nF : Nat) (u0 : ac_U) (p0 : Int32) (p1 : Int32) (p2 : Int32) (hR : ac_R rg u0) (hp2 : p2.toInt ≤ 1000) : ac_Mi l yX12_isIn (.code yX12_isIn cX12_isIn 3 (some .boolean) :: TB) 1 (dC, dI) vwCl (ac_ty cA) ad cA (TT nF) [.int p0, .int p1, .int p2] u0 (fun (r : Int32) (u : ac_U) => u = u0 ∧ ((0 : Int) ≤ r.toInt ∧ r.toInt ≤ 1) ∧ (r.toInt ≠ 0 → p1.toInt ≤ p0.toInt ∧ p0.toInt ≤ p2.toInt) ∧ f_X12_isIn u0 p0 p1 p2 = r) := by
  refine ac_Mi.of (cc := cX12_isIn) (maxL := 3) (ret := (some .boolean)) (by decide) rfl (Nat.le_of_ble_eq_true rfl) ?_
  intro p e s m below meth c A ls F hml hr hlocks hA hP hD hS hl
  have F : ac_X p s m [.int p0, .int p1, .int p2].toArray c cX12_isIn RX12 TB (dC, dI) vwCl (ac_ty cA) := ⟨F.1, F.2.1, fun w h => F.2.2.1 w (List.mem_cons_of_mem _ h), F.2.2.2.1, F.2.2.2.2⟩
  have hl : lv_has ls 3 [(0, .int p0), (1, .int p1), (2, .int p2)] := hl
  obtain ⟨RR, hRR⟩ : ∃ q, q = f_X12_isIn u0 p0 p1 p2 := ⟨_, rfl⟩
  have L14 : ∀ (H : Heap) (locs : List Loc) (ls : Array Slot), RR = (K_X12_isIn_14 u0 p0 p1 p2) → va_P (dC, dI) vwCl (ac_w ad cA (TT nF) u0) H → va_D A (ac_w ad cA (TT nF) u0) → va_S A s.heap H locs → lv_has ls 3 [] → W p l e (ac_rm 1) s m [.int p0, .int p1, .int p2].toArray below meth c H locs 0 0 (MQ below (va_Qi (fun (r : Int32) (u : ac_U) => u = u0 ∧ ((0 : Int) ≤ r.toInt ∧ r.toInt ≤ 1) ∧ (r.toInt ≠ 0 → p1.toInt ≤ p0.toInt ∧ p0.toInt ≤ p2.toInt) ∧ f_X12_isIn u0 p0 p1 p2 = r) (ac_B (dC, dI) vwCl (ac_ty cA) ad cA (TT nF) A) A) [.int p0, .int p1, .int p2].toArray s 0 0 A) (F0 m 14 ls []) := by
    intro H locs ls hC hP hD hS hl
    unfold K_X12_isIn_14 at hC
    refine a_ic F (0 : Int32) dX12_isIn_14 (by decide) ?_
    exact a_retz F hr hlocks hP hD hS dX12_isIn_15 (Or.inl rfl) ⟨rfl, (by decide), (by first | exact (by omega : (0 : Int) ≠ 0 → p1.toInt ≤ p0.toInt ∧ p0.toInt ≤ p2.toInt) | (rw [ic_0]; exact (by omega : (0 : Int) ≠ 0 → p1.toInt ≤ p0.toInt ∧ p0.toInt ≤ p2.toInt))), hRR.symm.trans hC⟩
  have hC : RR = f_X12_isIn u0 p0 p1 p2 := hRR
  unfold f_X12_isIn at hC
  refine lv_iload_n F.1 F.2.1 dX12_isIn_0 rfl (lv_at hl 0 rfl) ?_
  refine lv_iload_n F.1 F.2.1 dX12_isIn_1 rfl (lv_at hl 1 rfl) ?_
  refine b_lt F 14 dX12_isIn_2 (by decide) rfl rfl (fun c1 => ?_) (fun c1 => ?_)
  · have hC := hC.trans (if_pos c1)
    exact L14 _ _ _  hC hP hD hS (lv_sub hl [] rfl)
  · have hC := hC.trans (if_neg (by omega))
    refine lv_iload_n F.1 F.2.1 dX12_isIn_5 rfl (lv_at hl 0 rfl) ?_
    refine lv_iload_n F.1 F.2.1 dX12_isIn_6 rfl (lv_at hl 2 rfl) ?_
    refine b_gt F 14 dX12_isIn_7 (by decide) rfl rfl (fun c2 => ?_) (fun c2 => ?_)
    · have hC := hC.trans (if_pos c2)
      exact L14 _ _ _  hC hP hD hS (lv_sub hl [] rfl)
    · have hC := hC.trans (if_neg (by omega))
      refine a_ic F (1 : Int32) dX12_isIn_10 (by decide) ?_
      refine lv_goto (tgt := 15) F.1 F.2.1 dX12_isIn_11 (by decide) ?_
      exact a_retz F hr hlocks hP hD hS dX12_isIn_15 (Or.inr rfl) ⟨rfl, (by decide), (by first | exact (by omega : (1 : Int) ≠ 0 → p1.toInt ≤ p0.toInt ∧ p0.toInt ≤ p2.toInt) | (rw [ic_1]; exact (by omega : (1 : Int) ≠ 0 → p1.toInt ≤ p0.toInt ∧ p0.toInt ≤ p2.toInt))), hRR.symm.trans hC⟩

def f_X12_isIn_f (u0 : ac_U) (p0 : Int32) (p1 : Int32) (p2 : Int32) : Int32 := (if p0.toInt < p1.toInt then (0 : Int32) else (if p2.toInt < p0.toInt then (0 : Int32) else (1 : Int32)))
set_option maxHeartbeats 600000 in
set_option maxRecDepth 100000 in
theorem x_X12_isIn_f (l : Launch) (dC : Nat → ClassId) (dI : Nat → Nat → Nat) (ad : Nat → Nat) (cA : Nat → ClassId) (nF : Nat) (u0 : ac_U) (p0 : Int32) (p1 : Int32) (p2 : Int32) (hR : ac_R rg u0) (hp2 : p2.toInt ≤ 1000) : ac_Mi l yX12_isIn (.code yX12_isIn cX12_isIn 3 (some .boolean) :: TB) 1 (dC, dI) vwCl (ac_ty cA) ad cA (TT nF) [.int p0, .int p1, .int p2] u0 (fun (r : Int32) (u : ac_U) => u = u0 ∧ ((0 : Int) ≤ r.toInt ∧ r.toInt ≤ 1) ∧ ((r.toInt ≠ 0 → p1.toInt ≤ p0.toInt ∧ p0.toInt ≤ p2.toInt) ∧ (r.toInt = 0 → p0.toInt < p1.toInt ∨ p2.toInt < p0.toInt)) ∧ f_X12_isIn_f u0 p0 p1 p2 = r) := by
  refine ac_Mi.of (cc := cX12_isIn) (maxL := 3) (ret := (some .boolean)) (by decide) rfl (Nat.le_of_ble_eq_true rfl) ?_
  intro p e s m below meth c A ls F hml hr hlocks hA hP hD hS hl
  have F : ac_X p s m [.int p0, .int p1, .int p2].toArray c cX12_isIn RX12 TB (dC, dI) vwCl (ac_ty cA) := ⟨F.1, F.2.1, fun w h => F.2.2.1 w (List.mem_cons_of_mem _ h), F.2.2.2.1, F.2.2.2.2⟩
  have hl : lv_has ls 3 [(0, .int p0), (1, .int p1), (2, .int p2)] := hl
  obtain ⟨RR, hRR⟩ : ∃ q, q = f_X12_isIn_f u0 p0 p1 p2 := ⟨_, rfl⟩
  have hC : RR = f_X12_isIn_f u0 p0 p1 p2 := hRR
  unfold f_X12_isIn_f at hC
  refine lv_iload_n F.1 F.2.1 dX12_isIn_0 rfl (lv_at hl 0 rfl) ?_
  refine lv_iload_n F.1 F.2.1 dX12_isIn_1 rfl (lv_at hl 1 rfl) ?_
  refine b_lt F 14 dX12_isIn_2 (by decide) rfl rfl (fun c1 => ?_) (fun c1 => ?_)
  · have hC := hC.trans (if_pos c1)
    refine a_ic F (0 : Int32) dX12_isIn_14 (by decide) ?_
    exact a_retz F hr hlocks hP hD hS dX12_isIn_15 (Or.inl rfl) ⟨rfl, (by decide), (by first | exact (by omega : ((0 : Int) ≠ 0 → p1.toInt ≤ p0.toInt ∧ p0.toInt ≤ p2.toInt) ∧ ((0 : Int) = 0 → p0.toInt < p1.toInt ∨ p2.toInt < p0.toInt)) | (rw [ic_0]; exact (by omega : ((0 : Int) ≠ 0 → p1.toInt ≤ p0.toInt ∧ p0.toInt ≤ p2.toInt) ∧ ((0 : Int) = 0 → p0.toInt < p1.toInt ∨ p2.toInt < p0.toInt)))), hRR.symm.trans hC⟩
  · have hC := hC.trans (if_neg (by omega))
    refine lv_iload_n F.1 F.2.1 dX12_isIn_5 rfl (lv_at hl 0 rfl) ?_
    refine lv_iload_n F.1 F.2.1 dX12_isIn_6 rfl (lv_at hl 2 rfl) ?_
    refine b_gt F 14 dX12_isIn_7 (by decide) rfl rfl (fun c2 => ?_) (fun c2 => ?_)
    · have hC := hC.trans (if_pos c2)
      refine a_ic F (0 : Int32) dX12_isIn_14 (by decide) ?_
      exact a_retz F hr hlocks hP hD hS dX12_isIn_15 (Or.inl rfl) ⟨rfl, (by decide), (by first | exact (by omega : ((0 : Int) ≠ 0 → p1.toInt ≤ p0.toInt ∧ p0.toInt ≤ p2.toInt) ∧ ((0 : Int) = 0 → p0.toInt < p1.toInt ∨ p2.toInt < p0.toInt)) | (rw [ic_0]; exact (by omega : ((0 : Int) ≠ 0 → p1.toInt ≤ p0.toInt ∧ p0.toInt ≤ p2.toInt) ∧ ((0 : Int) = 0 → p0.toInt < p1.toInt ∨ p2.toInt < p0.toInt)))), hRR.symm.trans hC⟩
    · have hC := hC.trans (if_neg (by omega))
      refine a_ic F (1 : Int32) dX12_isIn_10 (by decide) ?_
      refine lv_goto (tgt := 15) F.1 F.2.1 dX12_isIn_11 (by decide) ?_
      exact a_retz F hr hlocks hP hD hS dX12_isIn_15 (Or.inr rfl) ⟨rfl, (by decide), (by first | exact (by omega : ((1 : Int) ≠ 0 → p1.toInt ≤ p0.toInt ∧ p0.toInt ≤ p2.toInt) ∧ ((1 : Int) = 0 → p0.toInt < p1.toInt ∨ p2.toInt < p0.toInt)) | (rw [ic_1]; exact (by omega : ((1 : Int) ≠ 0 → p1.toInt ≤ p0.toInt ∧ p0.toInt ≤ p2.toInt) ∧ ((1 : Int) = 0 → p0.toInt < p1.toInt ∨ p2.toInt < p0.toInt)))), hRR.symm.trans hC⟩

def f_X12_bitOf (u0 : ac_U) (p0 : Int32) (p1 : Int32) : Int32 := (vl (p0 >>> (p1 &&& 31)) (fun (v1 : Int32) => (vl (v1 &&& (1 : Int32)) (fun (v2 : Int32) => (if v2.toInt ≠ (1 : Int) then (0 : Int32) else (1 : Int32))))))
set_option maxHeartbeats 600000 in
set_option maxRecDepth 100000 in
theorem x_X12_bitOf (l : Launch) (dC : Nat → ClassId) (dI : Nat → Nat → Nat) (ad : Nat → Nat) (cA : Nat → ClassId) (nF : Nat) (u0 : ac_U) (p0 : Int32) (p1 : Int32) (hR : ac_R rg u0) : ac_Mi l yX12_bitOf (.code yX12_bitOf cX12_bitOf 2 (some .boolean) :: TB) 1 (dC, dI) vwCl (ac_ty cA) ad cA (TT nF) [.int p0, .int p1] u0 (fun (r : Int32) (u : ac_U) => u = u0 ∧ ((0 : Int) ≤ r.toInt ∧ r.toInt ≤ 1) ∧ f_X12_bitOf u0 p0 p1 = r) := by
  refine ac_Mi.of (cc := cX12_bitOf) (maxL := 2) (ret := (some .boolean)) (by decide) rfl (Nat.le_of_ble_eq_true rfl) ?_
  intro p e s m below meth c A ls F hml hr hlocks hA hP hD hS hl
  have F : ac_X p s m [.int p0, .int p1].toArray c cX12_bitOf RX12 TB (dC, dI) vwCl (ac_ty cA) := ⟨F.1, F.2.1, fun w h => F.2.2.1 w (List.mem_cons_of_mem _ h), F.2.2.2.1, F.2.2.2.2⟩
  have hl : lv_has ls 2 [(0, .int p0), (1, .int p1)] := hl
  obtain ⟨RR, hRR⟩ : ∃ q, q = f_X12_bitOf u0 p0 p1 := ⟨_, rfl⟩
  have hC : RR = f_X12_bitOf u0 p0 p1 := hRR
  unfold f_X12_bitOf at hC
  refine lv_iload_n F.1 F.2.1 dX12_bitOf_0 rfl (lv_at hl 0 rfl) ?_
  refine lv_iload_n F.1 F.2.1 dX12_bitOf_1 rfl (lv_at hl 1 rfl) ?_
  refine a_ishrUX F dX12_bitOf_2 (fun v1 yv1 => ?_)
  have hC := vl_eq hC yv1
  refine a_ic F (1 : Int32) dX12_bitOf_3 (by decide) ?_
  refine a_iandMX F dX12_bitOf_4 ic_1 (by omega) (fun v2 hv2 yv2 => ?_)
  have hC := vl_eq hC yv2
  refine a_ic F (1 : Int32) dX12_bitOf_5 (by decide) ?_
  refine b_ne F 13 dX12_bitOf_6 (by decide) rfl ic_1 (fun c3 => ?_) (fun c3 => ?_)
  · have hC := hC.trans (if_pos c3)
    refine a_ic F (0 : Int32) dX12_bitOf_13 (by decide) ?_
    exact a_retz F hr hlocks hP hD hS dX12_bitOf_14 (Or.inl rfl) ⟨rfl, (by decide), hRR.symm.trans hC⟩
  · have hC := hC.trans (if_neg (by omega))
    refine a_ic F (1 : Int32) dX12_bitOf_9 (by decide) ?_
    refine lv_goto (tgt := 14) F.1 F.2.1 dX12_bitOf_10 (by decide) ?_
    exact a_retz F hr hlocks hP hD hS dX12_bitOf_14 (Or.inr rfl) ⟨rfl, (by decide), hRR.symm.trans hC⟩

def f_X12_bad_85 (u0 : ac_U) (p0 : Int32) : ac_U × Int32 := ((pI (pI u0 85 15 p0) 85 16 (u0.1 85 12)), (0 : Int32))
set_option maxHeartbeats 600000 in
set_option maxRecDepth 100000 in
theorem x_X12_bad_85 (l : Launch) (dC : Nat → ClassId) (dI : Nat → Nat → Nat) (ad : Nat → Nat) (cA : Nat → ClassId) (nF : Nat) (u0 : ac_U) (p0 : Int32) (hR : ac_R rg u0) (hp0 : (1 : Int) ≤ p0.toInt ∧ p0.toInt ≤ 4) : ac_Mi l yX12_bad (.code yX12_bad cX12_bad 2 (some .boolean) :: TB) 1 (dC, dI) vwCl (ac_ty cA) ad cA (TT nF) [.ref (ad 85), .int p0] u0 (fun (r : Int32) (u : ac_U) => ac_R rg u ∧ ac_Fr [(85, some 15), (85, some 16)] u0 u ∧ ((0 : Int) ≤ r.toInt ∧ r.toInt ≤ 0) ∧ f_X12_bad_85 u0 p0 = (u, r)) := by
  refine ac_Mi.of (cc := cX12_bad) (maxL := 2) (ret := (some .boolean)) (by decide) rfl (Nat.le_of_ble_eq_true rfl) ?_
  intro p e s m below meth c A ls F hml hr hlocks hA hP hD hS hl
  have F : ac_X p s m [.ref (ad 85), .int p0].toArray c cX12_bad RX12 TB (dC, dI) vwCl (ac_ty cA) := ⟨F.1, F.2.1, fun w h => F.2.2.1 w (List.mem_cons_of_mem _ h), F.2.2.2.1, F.2.2.2.2⟩
  have hl : lv_has ls 2 [(0, .ref (ad 85)), (1, .int p0)] := hl
  obtain ⟨RR, hRR⟩ : ∃ q, q = f_X12_bad_85 u0 p0 := ⟨_, rfl⟩
  have hF : ac_Fr [(85, some 15), (85, some 16)] u0 u0 := ac_Fr.rf
  have hC : RR = f_X12_bad_85 u0 p0 := hRR
  unfold f_X12_bad_85 at hC
  refine lv_aload_n F.1 F.2.1 dX12_bad_0 rfl (lv_at hl 0 rfl) ?_
  refine lv_iload_n F.1 F.2.1 dX12_bad_1 rfl (lv_at hl 1 rfl) ?_
  refine a_puti F inX12 tyX12 tyX12_ok nmX12 hP hD hS 85 15 tc_85 rfl rfl (by decide) q1486 (fun _ h9 => h9) rfl (ty := .int) (tyX12_ok 15 (by decide)) rfl rfl dX12_bad_2 (fun H locs hP hD hS => ?_)
  have hR := hR.si (c := 85) (k := 15) (v := p0) ⟨i_lo _, i_hi _⟩
  have hF := hF.si (c := 85) (k := 15) (v := p0) rfl
  refine lv_aload_n F.1 F.2.1 dX12_bad_5 rfl (lv_at hl 0 rfl) ?_
  refine lv_aload_n F.1 F.2.1 dX12_bad_6 rfl (lv_at hl 0 rfl) ?_
  refine a_geti F inX12 hP 85 12 tc_85 rfl rfl (by decide) q1483 (fun _ h9 => h9) (v := (u0.1 85 12)) rfl dX12_bad_7 ?_
  refine a_puti F inX12 tyX12 tyX12_ok nmX12 hP hD hS 85 16 tc_85 rfl rfl (by decide) q1487 (fun _ h9 => h9) rfl (ty := .int) (tyX12_ok 16 (by decide)) rfl rfl dX12_bad_10 (fun H locs hP hD hS => ?_)
  have hR := hR.si (c := 85) (k := 16) (v := (u0.1 85 12)) ⟨i_lo _, i_hi _⟩
  have hF := hF.si (c := 85) (k := 16) (v := (u0.1 85 12)) rfl
  refine a_ic F (0 : Int32) dX12_bad_13 (by decide) ?_
  exact a_retz F hr hlocks hP hD hS dX12_bad_14 (Or.inl rfl) ⟨hR, hF, (by decide), hRR.symm.trans hC⟩

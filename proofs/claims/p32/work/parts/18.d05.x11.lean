def K_X12_isSign_85_20 (u0 : ac_U) (p0 : Int32) : Int32 := (0 : Int32)
def f_X12_isSign_85 (u0 : ac_U) (p0 : Int32) : Int32 := (if (u0.1 85 11).toInt ≠ (3 : Int) then (K_X12_isSign_85_20 u0 p0) else (if (u0.1 85 14).toInt ≠ p0.toInt then (K_X12_isSign_85_20 u0 p0) else (1 : Int32)))
set_option maxHeartbeats 600000 in
set_option maxRecDepth 100000 in
theorem x_X12_isSign_85 (l : Launch) (dC : Nat → ClassId) (dI : Nat → Nat → Nat) (ad : Nat → Nat) (cA : Nat → ClassId) (nF : Nat) (u0 : ac_U) (p0 : Int32) (hR : ac_R rg u0) (hp0 : (40 : Int) ≤ p0.toInt ∧ p0.toInt ≤ 59) : ac_Mi l yX12_isSign (.code yX12_isSign cX12_isSign 2 (some .boolean) :: TB) 1 (dC, dI) vwCl (ac_ty cA) ad cA (TT nF) [.ref (ad 85), .int p0] u0 (fun (r : Int32) (u : ac_U) => u = u0 ∧ ((0 : Int) ≤ r.toInt ∧ r.toInt ≤ 1) ∧ f_X12_isSign_85 u0 p0 = r) := by
  refine ac_Mi.of (cc := cX12_isSign) (maxL := 2) (ret := (some .boolean)) (by decide) rfl (Nat.le_of_ble_eq_true rfl) ?_
  intro p e s m below meth c A ls F hml hr hlocks hA hP hD hS hl
  have F : ac_X p s m [.ref (ad 85), .int p0].toArray c cX12_isSign RX12 TB (dC, dI) vwCl (ac_ty cA) := ⟨F.1, F.2.1, fun w h => F.2.2.1 w (List.mem_cons_of_mem _ h), F.2.2.2.1, F.2.2.2.2⟩
  have hl : lv_has ls 2 [(0, .ref (ad 85)), (1, .int p0)] := hl
  obtain ⟨RR, hRR⟩ : ∃ q, q = f_X12_isSign_85 u0 p0 := ⟨_, rfl⟩
  have L20 : ∀ (H : Heap) (locs : List Loc) (ls : Array Slot), RR = (K_X12_isSign_85_20 u0 p0) → va_P (dC, dI) vwCl (ac_w ad cA (TT nF) u0) H → va_D A (ac_w ad cA (TT nF) u0) → va_S A s.heap H locs → lv_has ls 2 [] → W p l e (ac_rm 1) s m [.ref (ad 85), .int p0].toArray below meth c H locs 0 0 (MQ below (va_Qi (fun (r : Int32) (u : ac_U) => u = u0 ∧ ((0 : Int) ≤ r.toInt ∧ r.toInt ≤ 1) ∧ f_X12_isSign_85 u0 p0 = r) (ac_B (dC, dI) vwCl (ac_ty cA) ad cA (TT nF) A) A) [.ref (ad 85), .int p0].toArray s 0 0 A) (F0 m 20 ls []) := by
    intro H locs ls hC hP hD hS hl
    unfold K_X12_isSign_85_20 at hC
    refine a_ic F (0 : Int32) dX12_isSign_20 (by decide) ?_
    exact a_retz F hr hlocks hP hD hS dX12_isSign_21 (Or.inl rfl) ⟨rfl, (by decide), hRR.symm.trans hC⟩
  have hC : RR = f_X12_isSign_85 u0 p0 := hRR
  unfold f_X12_isSign_85 at hC
  refine lv_aload_n F.1 F.2.1 dX12_isSign_0 rfl (lv_at hl 0 rfl) ?_
  have g1 : (0 : Int) ≤ (u0.1 85 11).toInt ∧ (u0.1 85 11).toInt ≤ 4 := hR 85 11
  refine a_geti F inX12 hP 85 11 tc_85 rfl rfl (by decide) q1482 (fun _ h9 => h9) (v := (u0.1 85 11)) rfl dX12_isSign_1 ?_
  refine a_ic F (3 : Int32) dX12_isSign_4 (by decide) ?_
  refine b_ne F 20 dX12_isSign_5 (by decide) rfl ic_3 (fun c2 => ?_) (fun c2 => ?_)
  · have hC := hC.trans (if_pos c2)
    exact L20 _ _ _  hC hP hD hS (lv_sub hl [] rfl)
  · have hC := hC.trans (if_neg (by omega))
    refine lv_aload_n F.1 F.2.1 dX12_isSign_8 rfl (lv_at hl 0 rfl) ?_
    refine a_geti F inX12 hP 85 14 tc_85 rfl rfl (by decide) q1485 (fun _ h9 => h9) (v := (u0.1 85 14)) rfl dX12_isSign_9 ?_
    refine lv_iload_n F.1 F.2.1 dX12_isSign_12 rfl (lv_at hl 1 rfl) ?_
    refine b_ne F 20 dX12_isSign_13 (by decide) rfl rfl (fun c3 => ?_) (fun c3 => ?_)
    · have hC := hC.trans (if_pos c3)
      exact L20 _ _ _  hC hP hD hS (lv_sub hl [] rfl)
    · have hC := hC.trans (if_neg (by omega))
      refine a_ic F (1 : Int32) dX12_isSign_16 (by decide) ?_
      refine lv_goto (tgt := 21) F.1 F.2.1 dX12_isSign_17 (by decide) ?_
      exact a_retz F hr hlocks hP hD hS dX12_isSign_21 (Or.inr rfl) ⟨rfl, (by decide), hRR.symm.trans hC⟩
def K_X12_isWord_85_21 (u0 : ac_U) (p0 : Int64) : Int32 := (0 : Int32)
def f_X12_isWord_85 (u0 : ac_U) (p0 : Int64) : Int32 := (if (u0.1 85 11).toInt ≠ (1 : Int) then (K_X12_isWord_85_21 u0 p0) else (vl (lg_cmp (u0.2 85 17) p0) (fun (v3 : Int32) => (if v3.toInt ≠ 0 then (K_X12_isWord_85_21 u0 p0) else (1 : Int32)))))
set_option maxHeartbeats 600000 in
set_option maxRecDepth 100000 in
theorem x_X12_isWord_85 (l : Launch) (dC : Nat → ClassId) (dI : Nat → Nat → Nat) (ad : Nat → Nat) (cA : Nat → ClassId) (nF : Nat) (u0 : ac_U) (p0 : Int64) (hR : ac_R rg u0) : ac_Mi l yX12_isWord (.code yX12_isWord cX12_isWord 3 (some .boolean) :: TB) 1 (dC, dI) vwCl (ac_ty cA) ad cA (TT nF) [.ref (ad 85), .long p0] u0 (fun (r : Int32) (u : ac_U) => u = u0 ∧ ((0 : Int) ≤ r.toInt ∧ r.toInt ≤ 1) ∧ f_X12_isWord_85 u0 p0 = r) := by
  refine ac_Mi.of (cc := cX12_isWord) (maxL := 3) (ret := (some .boolean)) (by decide) rfl (Nat.le_of_ble_eq_true rfl) ?_
  intro p e s m below meth c A ls F hml hr hlocks hA hP hD hS hl
  have F : ac_X p s m [.ref (ad 85), .long p0].toArray c cX12_isWord RX12 TB (dC, dI) vwCl (ac_ty cA) := ⟨F.1, F.2.1, fun w h => F.2.2.1 w (List.mem_cons_of_mem _ h), F.2.2.2.1, F.2.2.2.2⟩
  have hl : lv_has ls 3 [(0, .ref (ad 85)), (1, .long p0)] := hl
  obtain ⟨RR, hRR⟩ : ∃ q, q = f_X12_isWord_85 u0 p0 := ⟨_, rfl⟩
  have L21 : ∀ (H : Heap) (locs : List Loc) (ls : Array Slot), RR = (K_X12_isWord_85_21 u0 p0) → va_P (dC, dI) vwCl (ac_w ad cA (TT nF) u0) H → va_D A (ac_w ad cA (TT nF) u0) → va_S A s.heap H locs → lv_has ls 3 [] → W p l e (ac_rm 1) s m [.ref (ad 85), .long p0].toArray below meth c H locs 0 0 (MQ below (va_Qi (fun (r : Int32) (u : ac_U) => u = u0 ∧ ((0 : Int) ≤ r.toInt ∧ r.toInt ≤ 1) ∧ f_X12_isWord_85 u0 p0 = r) (ac_B (dC, dI) vwCl (ac_ty cA) ad cA (TT nF) A) A) [.ref (ad 85), .long p0].toArray s 0 0 A) (F0 m 21 ls []) := by
    intro H locs ls hC hP hD hS hl
    unfold K_X12_isWord_85_21 at hC
    refine a_ic F (0 : Int32) dX12_isWord_21 (by decide) ?_
    exact a_retz F hr hlocks hP hD hS dX12_isWord_22 (Or.inl rfl) ⟨rfl, (by decide), hRR.symm.trans hC⟩
  have hC : RR = f_X12_isWord_85 u0 p0 := hRR
  unfold f_X12_isWord_85 at hC
  refine lv_aload_n F.1 F.2.1 dX12_isWord_0 rfl (lv_at hl 0 rfl) ?_
  have g1 : (0 : Int) ≤ (u0.1 85 11).toInt ∧ (u0.1 85 11).toInt ≤ 4 := hR 85 11
  refine a_geti F inX12 hP 85 11 tc_85 rfl rfl (by decide) q1482 (fun _ h9 => h9) (v := (u0.1 85 11)) rfl dX12_isWord_1 ?_
  refine a_ic F (1 : Int32) dX12_isWord_4 (by decide) ?_
  refine b_ne F 21 dX12_isWord_5 (by decide) rfl ic_1 (fun c2 => ?_) (fun c2 => ?_)
  · have hC := hC.trans (if_pos c2)
    exact L21 _ _ _  hC hP hD hS (lv_sub hl [] rfl)
  · have hC := hC.trans (if_neg (by omega))
    refine lv_aload_n F.1 F.2.1 dX12_isWord_8 rfl (lv_at hl 0 rfl) ?_
    refine a_getl F inX12 hP 85 17 tc_85 rfl rfl (by decide) q1488 (fun _ h9 => h9) (v := (u0.2 85 17)) rfl dX12_isWord_9 ?_
    refine lv_lload_n F.1 F.2.1 dX12_isWord_12 rfl (lv_at hl 1 rfl) ?_
    refine W.lcmp F.1 F.2.1 dX12_isWord_13 ?_
    refine lv_topi (fun v3 yv3 => ?_)
    have hC := vl_eq hC yv3
    refine z_ne F 21 dX12_isWord_14 (by decide) rfl (fun c4 => ?_) (fun c4 => ?_)
    · have hC := hC.trans (if_pos c4)
      exact L21 _ _ _  hC hP hD hS (lv_sub hl [] rfl)
    · have hC := hC.trans (if_neg (by omega))
      refine a_ic F (1 : Int32) dX12_isWord_17 (by decide) ?_
      refine lv_goto (tgt := 22) F.1 F.2.1 dX12_isWord_18 (by decide) ?_
      exact a_retz F hr hlocks hP hD hS dX12_isWord_22 (Or.inr rfl) ⟨rfl, (by decide), hRR.symm.trans hC⟩
def K_X12_isDigit_16 (u0 : ac_U) (p0 : Int32) : Int32 := (0 : Int32)
def f_X12_isDigit (u0 : ac_U) (p0 : Int32) : Int32 := (if p0.toInt < (48 : Int) then (K_X12_isDigit_16 u0 p0) else (if (57 : Int) < p0.toInt then (K_X12_isDigit_16 u0 p0) else (1 : Int32)))
set_option maxHeartbeats 600000 in
set_option maxRecDepth 100000 in
theorem x_X12_isDigit (l : Launch) (dC : Nat → ClassId) (dI : Nat → Nat → Nat) (ad : Nat → Nat) (cA : Nat → ClassId) (nF : Nat) (u0 : ac_U) (p0 : Int32) (hR : ac_R rg u0) (hp0 : (-1 : Int) ≤ p0.toInt ∧ p0.toInt ≤ 255) : ac_Mi l yX12_isDigit (.code yX12_isDigit cX12_isDigit 1 (some .boolean) :: TB) 1 (dC, dI) vwCl (ac_ty cA) ad cA (TT nF) [.int p0] u0 (fun (r : Int32) (u : ac_U) => u = u0 ∧ ((0 : Int) ≤ r.toInt ∧ r.toInt ≤ 1) ∧ (r.toInt ≠ 0 → 48 ≤ p0.toInt ∧ p0.toInt ≤ 57) ∧ f_X12_isDigit u0 p0 = r) := by
  refine ac_Mi.of (cc := cX12_isDigit) (maxL := 1) (ret := (some .boolean)) (by decide) rfl (Nat.le_of_ble_eq_true rfl) ?_
  intro p e s m below meth c A ls F hml hr hlocks hA hP hD hS hl
  have F : ac_X p s m [.int p0].toArray c cX12_isDigit RX12 TB (dC, dI) vwCl (ac_ty cA) := ⟨F.1, F.2.1, fun w h => F.2.2.1 w (List.mem_cons_of_mem _ h), F.2.2.2.1, F.2.2.2.2⟩
  have hl : lv_has ls 1 [(0, .int p0)] := hl
  obtain ⟨RR, hRR⟩ : ∃ q, q = f_X12_isDigit u0 p0 := ⟨_, rfl⟩
  have L16 : ∀ (H : Heap) (locs : List Loc) (ls : Array Slot), RR = (K_X12_isDigit_16 u0 p0) → va_P (dC, dI) vwCl (ac_w ad cA (TT nF) u0) H → va_D A (ac_w ad cA (TT nF) u0) → va_S A s.heap H locs → lv_has ls 1 [] → W p l e (ac_rm 1) s m [.int p0].toArray below meth c H locs 0 0 (MQ below (va_Qi (fun (r : Int32) (u : ac_U) => u = u0 ∧ ((0 : Int) ≤ r.toInt ∧ r.toInt ≤ 1) ∧ (r.toInt ≠ 0 → 48 ≤ p0.toInt ∧ p0.toInt ≤ 57) ∧ f_X12_isDigit u0 p0 = r) (ac_B (dC, dI) vwCl (ac_ty cA) ad cA (TT nF) A) A) [.int p0].toArray s 0 0 A) (F0 m 16 ls []) := by
    intro H locs ls hC hP hD hS hl
    unfold K_X12_isDigit_16 at hC
    refine a_ic F (0 : Int32) dX12_isDigit_16 (by decide) ?_
    exact a_retz F hr hlocks hP hD hS dX12_isDigit_17 (Or.inl rfl) ⟨rfl, (by decide), (by first | exact (by omega : (0 : Int) ≠ 0 → 48 ≤ p0.toInt ∧ p0.toInt ≤ 57) | (rw [ic_0]; exact (by omega : (0 : Int) ≠ 0 → 48 ≤ p0.toInt ∧ p0.toInt ≤ 57))), hRR.symm.trans hC⟩
  have hC : RR = f_X12_isDigit u0 p0 := hRR
  unfold f_X12_isDigit at hC
  refine lv_iload_n F.1 F.2.1 dX12_isDigit_0 rfl (lv_at hl 0 rfl) ?_
  refine a_bp F (48 : Int32) dX12_isDigit_1 (by decide) ?_
  refine b_lt F 16 dX12_isDigit_3 (by decide) rfl ic_48 (fun c1 => ?_) (fun c1 => ?_)
  · have hC := hC.trans (if_pos c1)
    exact L16 _ _ _  hC hP hD hS (lv_sub hl [] rfl)
  · have hC := hC.trans (if_neg (by omega))
    refine lv_iload_n F.1 F.2.1 dX12_isDigit_6 rfl (lv_at hl 0 rfl) ?_
    refine a_bp F (57 : Int32) dX12_isDigit_7 (by decide) ?_
    refine b_gt F 16 dX12_isDigit_9 (by decide) rfl ic_57 (fun c2 => ?_) (fun c2 => ?_)
    · have hC := hC.trans (if_pos c2)
      exact L16 _ _ _  hC hP hD hS (lv_sub hl [] rfl)
    · have hC := hC.trans (if_neg (by omega))
      refine a_ic F (1 : Int32) dX12_isDigit_12 (by decide) ?_
      refine lv_goto (tgt := 17) F.1 F.2.1 dX12_isDigit_13 (by decide) ?_
      exact a_retz F hr hlocks hP hD hS dX12_isDigit_17 (Or.inr rfl) ⟨rfl, (by decide), (by first | exact (by omega : (1 : Int) ≠ 0 → 48 ≤ p0.toInt ∧ p0.toInt ≤ 57) | (rw [ic_1]; exact (by omega : (1 : Int) ≠ 0 → 48 ≤ p0.toInt ∧ p0.toInt ≤ 57))), hRR.symm.trans hC⟩
def K_X12_isSmall_16 (u0 : ac_U) (p0 : Int32) : Int32 := (0 : Int32)
def f_X12_isSmall (u0 : ac_U) (p0 : Int32) : Int32 := (if p0.toInt < (97 : Int) then (K_X12_isSmall_16 u0 p0) else (if (122 : Int) < p0.toInt then (K_X12_isSmall_16 u0 p0) else (1 : Int32)))
set_option maxHeartbeats 600000 in
set_option maxRecDepth 100000 in
theorem x_X12_isSmall (l : Launch) (dC : Nat → ClassId) (dI : Nat → Nat → Nat) (ad : Nat → Nat) (cA : Nat → ClassId) (nF : Nat) (u0 : ac_U) (p0 : Int32) (hR : ac_R rg u0) (hp0 : (-1 : Int) ≤ p0.toInt ∧ p0.toInt ≤ 255) : ac_Mi l yX12_isSmall (.code yX12_isSmall cX12_isSmall 1 (some .boolean) :: TB) 1 (dC, dI) vwCl (ac_ty cA) ad cA (TT nF) [.int p0] u0 (fun (r : Int32) (u : ac_U) => u = u0 ∧ ((0 : Int) ≤ r.toInt ∧ r.toInt ≤ 1) ∧ (r.toInt ≠ 0 → 97 ≤ p0.toInt ∧ p0.toInt ≤ 122) ∧ f_X12_isSmall u0 p0 = r) := by
  refine ac_Mi.of (cc := cX12_isSmall) (maxL := 1) (ret := (some .boolean)) (by decide) rfl (Nat.le_of_ble_eq_true rfl) ?_
  intro p e s m below meth c A ls F hml hr hlocks hA hP hD hS hl
  have F : ac_X p s m [.int p0].toArray c cX12_isSmall RX12 TB (dC, dI) vwCl (ac_ty cA) := ⟨F.1, F.2.1, fun w h => F.2.2.1 w (List.mem_cons_of_mem _ h), F.2.2.2.1, F.2.2.2.2⟩
  have hl : lv_has ls 1 [(0, .int p0)] := hl
  obtain ⟨RR, hRR⟩ : ∃ q, q = f_X12_isSmall u0 p0 := ⟨_, rfl⟩
  have L16 : ∀ (H : Heap) (locs : List Loc) (ls : Array Slot), RR = (K_X12_isSmall_16 u0 p0) → va_P (dC, dI) vwCl (ac_w ad cA (TT nF) u0) H → va_D A (ac_w ad cA (TT nF) u0) → va_S A s.heap H locs → lv_has ls 1 [] → W p l e (ac_rm 1) s m [.int p0].toArray below meth c H locs 0 0 (MQ below (va_Qi (fun (r : Int32) (u : ac_U) => u = u0 ∧ ((0 : Int) ≤ r.toInt ∧ r.toInt ≤ 1) ∧ (r.toInt ≠ 0 → 97 ≤ p0.toInt ∧ p0.toInt ≤ 122) ∧ f_X12_isSmall u0 p0 = r) (ac_B (dC, dI) vwCl (ac_ty cA) ad cA (TT nF) A) A) [.int p0].toArray s 0 0 A) (F0 m 16 ls []) := by
    intro H locs ls hC hP hD hS hl
    unfold K_X12_isSmall_16 at hC
    refine a_ic F (0 : Int32) dX12_isSmall_16 (by decide) ?_
    exact a_retz F hr hlocks hP hD hS dX12_isSmall_17 (Or.inl rfl) ⟨rfl, (by decide), (by first | exact (by omega : (0 : Int) ≠ 0 → 97 ≤ p0.toInt ∧ p0.toInt ≤ 122) | (rw [ic_0]; exact (by omega : (0 : Int) ≠ 0 → 97 ≤ p0.toInt ∧ p0.toInt ≤ 122))), hRR.symm.trans hC⟩
  have hC : RR = f_X12_isSmall u0 p0 := hRR
  unfold f_X12_isSmall at hC
  refine lv_iload_n F.1 F.2.1 dX12_isSmall_0 rfl (lv_at hl 0 rfl) ?_
  refine a_bp F (97 : Int32) dX12_isSmall_1 (by decide) ?_
  refine b_lt F 16 dX12_isSmall_3 (by decide) rfl ic_97 (fun c1 => ?_) (fun c1 => ?_)
  · have hC := hC.trans (if_pos c1)
    exact L16 _ _ _  hC hP hD hS (lv_sub hl [] rfl)
  · have hC := hC.trans (if_neg (by omega))
    refine lv_iload_n F.1 F.2.1 dX12_isSmall_6 rfl (lv_at hl 0 rfl) ?_
    refine a_bp F (122 : Int32) dX12_isSmall_7 (by decide) ?_
    refine b_gt F 16 dX12_isSmall_9 (by decide) rfl ic_122 (fun c2 => ?_) (fun c2 => ?_)
    · have hC := hC.trans (if_pos c2)
      exact L16 _ _ _  hC hP hD hS (lv_sub hl [] rfl)
    · have hC := hC.trans (if_neg (by omega))
      refine a_ic F (1 : Int32) dX12_isSmall_12 (by decide) ?_
      refine lv_goto (tgt := 17) F.1 F.2.1 dX12_isSmall_13 (by decide) ?_
      exact a_retz F hr hlocks hP hD hS dX12_isSmall_17 (Or.inr rfl) ⟨rfl, (by decide), (by first | exact (by omega : (1 : Int) ≠ 0 → 97 ≤ p0.toInt ∧ p0.toInt ≤ 122) | (rw [ic_1]; exact (by omega : (1 : Int) ≠ 0 → 97 ≤ p0.toInt ∧ p0.toInt ≤ 122))), hRR.symm.trans hC⟩

def f_X12_peek_85 (u0 : ac_U) : Int32 := (if (u0.1 85 3).toInt ≤ (u0.1 85 4).toInt then (-1 : Int32) else (vl (u0.1 86 (u0.1 85 4).toNatClampNeg) (fun (v4 : Int32) => (vl (v4 &&& (255 : Int32)) (fun (v5 : Int32) => v5)))))
set_option maxHeartbeats 600000 in
set_option maxRecDepth 100000 in
theorem x_X12_peek_85 (l : Launch) (dC : Nat → ClassId) (dI : Nat → Nat → Nat) (ad : Nat → Nat) (cA : Nat → ClassId) (nF : Nat) (u0 : ac_U)  (hR : ac_R rg u0) : ac_Mi l yX12_peek (.code yX12_peek cX12_peek 1 (some .int) :: TB) 1 (dC, dI) vwCl (ac_ty cA) ad cA (TT nF) [.ref (ad 85)] u0 (fun (r : Int32) (u : ac_U) => u = u0 ∧ ((-1 : Int) ≤ r.toInt ∧ r.toInt ≤ 255) ∧ (0 ≤ r.toInt → (u0.1 85 4).toInt < (u0.1 85 3).toInt) ∧ f_X12_peek_85 u0 = r) := by
  refine ac_Mi.of (cc := cX12_peek) (maxL := 1) (ret := (some .int)) (by decide) rfl (Nat.le_of_ble_eq_true rfl) ?_
  intro p e s m below meth c A ls F hml hr hlocks hA hP hD hS hl
  have F : ac_X p s m [.ref (ad 85)].toArray c cX12_peek RX12 TB (dC, dI) vwCl (ac_ty cA) := ⟨F.1, F.2.1, fun w h => F.2.2.1 w (List.mem_cons_of_mem _ h), F.2.2.2.1, F.2.2.2.2⟩
  have hl : lv_has ls 1 [(0, .ref (ad 85))] := hl
  obtain ⟨RR, hRR⟩ : ∃ q, q = f_X12_peek_85 u0 := ⟨_, rfl⟩
  have hC : RR = f_X12_peek_85 u0 := hRR
  unfold f_X12_peek_85 at hC
  refine lv_aload_n F.1 F.2.1 dX12_peek_0 rfl (lv_at hl 0 rfl) ?_
  have g1 : (0 : Int) ≤ (u0.1 85 4).toInt ∧ (u0.1 85 4).toInt ≤ 940 := hR 85 4
  refine a_geti F inX12 hP 85 4 tc_85 rfl rfl (by decide) q1475 (fun _ h9 => h9) (v := (u0.1 85 4)) rfl dX12_peek_1 ?_
  refine lv_aload_n F.1 F.2.1 dX12_peek_4 rfl (lv_at hl 0 rfl) ?_
  have g2 : (0 : Int) ≤ (u0.1 85 3).toInt ∧ (u0.1 85 3).toInt ≤ 940 := hR 85 3
  refine a_geti F inX12 hP 85 3 tc_85 rfl rfl (by decide) q1474 (fun _ h9 => h9) (v := (u0.1 85 3)) rfl dX12_peek_5 ?_
  refine b_ge F 27 dX12_peek_8 (by decide) rfl rfl (fun c3 => ?_) (fun c3 => ?_)
  · have hC := hC.trans (if_pos c3)
    refine a_ic F (-1 : Int32) dX12_peek_27 (by decide) ?_
    exact a_reti F hr hlocks hP hD hS dX12_peek_28 ⟨rfl, (by decide), (by first | exact (by omega : 0 ≤ (-1 : Int) → (u0.1 85 4).toInt < (u0.1 85 3).toInt) | (rw [ic_m1]; exact (by omega : 0 ≤ (-1 : Int) → (u0.1 85 4).toInt < (u0.1 85 3).toInt))), hRR.symm.trans hC⟩
  · have hC := hC.trans (if_neg (by omega))
    refine lv_aload_n F.1 F.2.1 dX12_peek_11 rfl (lv_at hl 0 rfl) ?_
    refine a_getr F inX12 hP 85 1 tc_85 rfl rfl (by decide) q1472 (fun _ h9 => h9) dX12_peek_12 ?_
    refine lv_aload_n F.1 F.2.1 dX12_peek_15 rfl (lv_at hl 0 rfl) ?_
    refine a_geti F inX12 hP 85 4 tc_85 rfl rfl (by decide) q1475 (fun _ h9 => h9) (v := (u0.1 85 4)) (rfl) dX12_peek_16 ?_
    refine a_bald F hP 86 tc_86 rfl (i_in rfl (by omega)) dX12_peek_19 (fun v4 ev4 => ?_)
    have hC := vl_eq hC ev4.symm
    have hv4 : (-128 : Int) ≤ v4.toInt ∧ v4.toInt ≤ 127 := ev4 ▸ hR 86 _
    refine a_sp F (255 : Int32) dX12_peek_20 (by decide) ?_
    refine a_iandMX F dX12_peek_23 ic_255 (by omega) (fun v5 hv5 yv5 => ?_)
    have hC := vl_eq hC yv5
    refine lv_goto (tgt := 28) F.1 F.2.1 dX12_peek_24 (by decide) ?_
    exact a_reti F hr hlocks hP hD hS dX12_peek_28 ⟨rfl, (by omega : (-1 : Int) ≤ v5.toInt ∧ v5.toInt ≤ 255), (by omega : 0 ≤ v5.toInt → (u0.1 85 4).toInt < (u0.1 85 3).toInt), hRR.symm.trans hC⟩
def K_X12_next_85_333 (u0 : ac_U) (u : ac_U) (z1 : Int32) : ac_U := (pI u 85 11 z1)
def K_X12_next_85_320 (u0 : ac_U) (u : ac_U) : ac_U := (K_X12_next_85_333 u0 u (4 : Int32))
def K_X12_next_85_317 (u0 : ac_U) (u : ac_U) (x2 : Int32) (z1 : Int32) (z2 : Int32) : ac_U := (if z1.toInt ≤ z2.toInt then (if x2.toInt = 0 then (K_X12_next_85_333 u0 u (2 : Int32)) else (K_X12_next_85_333 u0 u (1 : Int32))) else (K_X12_next_85_320 u0 u))
def K_X12_next_85_275 (B181 : ac_U → Int32 → Int32 → ac_U) (u0 : ac_U) (u : ac_U) (x2 : Int32) (x3 : Int32) : ac_U := (vl ((u.1 85 13) + (1 : Int32)) (fun (v3 : Int32) => (vl ((u.1 85 4) + (1 : Int32)) (fun (v5 : Int32) => (B181 (pI (pI u 85 13 v3) 85 4 v5) x2 x3)))))
def K_X12_next_85_248 (B181 : ac_U → Int32 → Int32 → ac_U) (u0 : ac_U) (u : ac_U) (x2 : Int32) (x3 : Int32) : ac_U := (if (3 : Int) ≤ (u.1 85 13).toInt then (K_X12_next_85_275 B181 u0 u x2 x3) else (vl ((10 : Int32) * (u.1 85 14)) (fun (v8 : Int32) => (vl (f_X12_peek_85 u) (fun (r9 : Int32) => (vl (v8 + r9) (fun (v12 : Int32) => (vl (v12 - (48 : Int32)) (fun (v13 : Int32) => (K_X12_next_85_275 B181 u0 (pI u 85 14 v13) x2 x3))))))))))
def K_X12_next_85_221 (B181 : ac_U → Int32 → Int32 → ac_U) (u0 : ac_U) (u : ac_U) (x2 : Int32) (z0 : Int32) : ac_U := (if (7 : Int) ≤ (u.1 85 13).toInt then (K_X12_next_85_248 B181 u0 u x2 z0) else (vl ((u.2 85 17) <<< (Int32.toInt64 (8 : Int32) &&& 63)) (fun (w16 : Int64) => (vl (f_X12_peek_85 u) (fun (r17 : Int32) => (vl ((r17).toInt64) (fun (w20 : Int64) => (vl (w16 ||| w20) (fun (w21 : Int64) => (K_X12_next_85_248 B181 u0 (pL u 85 17 w21) x2 z0))))))))))
def K_X12_next_85_220 (B181 : ac_U → Int32 → Int32 → ac_U) (u0 : ac_U) (u : ac_U) (x2 : Int32) : ac_U := (K_X12_next_85_221 B181 u0 u x2 (0 : Int32))
def K_X12_next_85_201 (B181 : ac_U → Int32 → Int32 → ac_U) (u0 : ac_U) (u : ac_U) (x2 : Int32) (x3 : Int32) : ac_U := (if x3.toInt = 0 then (K_X12_next_85_220 B181 u0 u x2) else (vl (f_X12_peek_85 u) (fun (r25 : Int32) => (vl (f_X12_isSmall u r25) (fun (r28 : Int32) => (if r28.toInt ≠ x2.toInt then (K_X12_next_85_220 B181 u0 u x2) else (K_X12_next_85_221 B181 u0 u x2 (1 : Int32))))))))
def K_X12_next_85_181_b (B181 : ac_U → Int32 → Int32 → ac_U) (u0 : ac_U) (u : ac_U) (x2 : Int32) (x3 : Int32) : ac_U := (vl (f_X12_peek_85 u) (fun (r30 : Int32) => (vl (f_X12_isSmall u r30) (fun (r33 : Int32) => (if r33.toInt ≠ 0 then (K_X12_next_85_201 B181 u0 u x2 x3) else (vl (f_X12_peek_85 u) (fun (r35 : Int32) => (vl (f_X12_isDigit u r35) (fun (r36 : Int32) => (if r36.toInt = 0 then (if x3.toInt = 0 then (K_X12_next_85_320 u0 u) else (if x2.toInt = 0 then (K_X12_next_85_317 u0 u x2 (u.1 85 13) (3 : Int32)) else (K_X12_next_85_317 u0 u x2 (u.1 85 13) (7 : Int32)))) else (K_X12_next_85_201 B181 u0 u x2 x3)))))))))))
def K_X12_next_85_181 (u0 : ac_U) : Nat → ac_U → Int32 → Int32 → ac_U
  | 0 => fun u x2 x3 => u
  | n + 1 => fun u x2 x3 => K_X12_next_85_181_b (K_X12_next_85_181 u0 n) u0 u x2 x3
def K_X12_next_85_164 (u0 : ac_U) (u : ac_U) (x1 : Int32) : ac_U := (vl (f_X12_isSmall u x1) (fun (r40 : Int32) => (K_X12_next_85_181 u0 942 (pI (pL u 85 17 (0 : Int64)) 85 14 (0 : Int32)) r40 (1 : Int32))))
def K_X12_next_85_145 (u0 : ac_U) (u : ac_U) (x1 : Int32) (z1 : Int32) : ac_U := (vl ((u.1 85 4) + (1 : Int32)) (fun (v43 : Int32) => (pI (pI (pI u 85 11 z1) 85 14 x1) 85 4 v43)))
def K_X12_next_85_144 (u0 : ac_U) (u : ac_U) (x1 : Int32) : ac_U := (K_X12_next_85_145 u0 u x1 (4 : Int32))
def K_X12_next_85_140 (u0 : ac_U) (u : ac_U) (x1 : Int32) : ac_U := (K_X12_next_85_145 u0 u x1 (3 : Int32))
def K_X12_next_85_80 (u0 : ac_U) (u : ac_U) : ac_U := (vl (f_X12_peek_85 u) (fun (r46 : Int32) => (if 0 ≤ r46.toInt then (vl (f_X12_isSmall u r46) (fun (r50 : Int32) => (if r50.toInt ≠ 0 then (K_X12_next_85_164 u0 u r46) else (vl (f_X12_isDigit u r46) (fun (r52 : Int32) => (if r52.toInt ≠ 0 then (K_X12_next_85_164 u0 u r46) else (if r46.toInt = (59 : Int) then (K_X12_next_85_140 u0 u r46) else (if r46.toInt = (40 : Int) then (K_X12_next_85_140 u0 u r46) else (if r46.toInt = (41 : Int) then (K_X12_next_85_140 u0 u r46) else (if r46.toInt < (60 : Int) then (K_X12_next_85_144 u0 u r46) else (if (62 : Int) < r46.toInt then (K_X12_next_85_144 u0 u r46) else (K_X12_next_85_140 u0 u r46)))))))))))) else (pI u 85 11 (0 : Int32)))))
def K_X12_next_85_18 (B0 : ac_U → ac_U) (u0 : ac_U) (u : ac_U) : ac_U := (vl ((u.1 85 4) + (1 : Int32)) (fun (v60 : Int32) => (B0 (pI u 85 4 v60))))
def K_X12_next_85_0_b (B0 : ac_U → ac_U) (u0 : ac_U) (u : ac_U) : ac_U := (vl (f_X12_peek_85 u) (fun (r61 : Int32) => (if r61.toInt = (32 : Int) then (K_X12_next_85_18 B0 u0 u) else (vl (f_X12_peek_85 u) (fun (r65 : Int32) => (if r65.toInt ≠ (10 : Int) then (if (u.1 85 3).toInt ≤ (u.1 85 5).toInt then (K_X12_next_85_80 u0 (pI (pI u 85 12 (u.1 85 4)) 85 13 (0 : Int32))) else (if (u.1 85 4).toInt < (u.1 85 5).toInt then (K_X12_next_85_80 u0 (pI (pI u 85 12 (u.1 85 4)) 85 13 (0 : Int32))) else (pI (pI (pI (pI u 85 12 (u.1 85 4)) 85 13 (0 : Int32)) 85 12 (u.1 85 5)) 85 11 (4 : Int32)))) else (K_X12_next_85_18 B0 u0 u)))))))
def K_X12_next_85_0 (u0 : ac_U) : Nat → ac_U → ac_U
  | 0 => fun u => u
  | n + 1 => fun u => K_X12_next_85_0_b (K_X12_next_85_0 u0 n) u0 u
def f_X12_next_85 (u0 : ac_U) : ac_U := (K_X12_next_85_0 u0 942 u0)
set_option maxHeartbeats 600000 in
set_option maxRecDepth 100000 in
theorem x_X12_next_85 (l : Launch) (dC : Nat → ClassId) (dI : Nat → Nat → Nat) (ad : Nat → Nat) (cA : Nat → ClassId) (nF : Nat) (u0 : ac_U)  (hR : ac_R rg u0) : ac_Mv l yX12_next (.code yX12_next cX12_next 4 none :: TB) 2 (dC, dI) vwCl (ac_ty cA) ad cA (TT nF) [.ref (ad 85)] u0 (fun (u : ac_U) => ac_R rg u ∧ ac_Fr [(85, some 4), (85, some 11), (85, some 12), (85, some 13), (85, some 14)] u0 u ∧ f_X12_next_85 u0 = u) := by
  refine ac_Mv.of (cc := cX12_next) (maxL := 4) (ret := none) (by decide) rfl (Nat.le_of_ble_eq_true rfl) ?_
  intro p e s m below meth c A ls F hml hr hlocks hA hP hD hS hl
  have F : ac_X p s m [.ref (ad 85)].toArray c cX12_next RX12 TB (dC, dI) vwCl (ac_ty cA) := ⟨F.1, F.2.1, fun w h => F.2.2.1 w (List.mem_cons_of_mem _ h), F.2.2.2.1, F.2.2.2.2⟩
  have hl : lv_has ls 4 [(0, .ref (ad 85))] := hl
  obtain ⟨RR, hRR⟩ : ∃ q, q = f_X12_next_85 u0 := ⟨_, rfl⟩
  have hF : ac_Fr [(85, some 4), (85, some 11), (85, some 12), (85, some 13), (85, some 14)] u0 u0 := ac_Fr.rf
  have L333 : ∀ (z1 : Int32) (u : ac_U) (H : Heap) (locs : List Loc) (ls : Array Slot), ac_R rg u → ac_Fr [(85, some 4), (85, some 11), (85, some 12), (85, some 13), (85, some 14)] u0 u → (1 : Int) ≤ z1.toInt ∧ z1.toInt ≤ 4 → (0 : Int) ≤ (u.1 85 12).toInt ∧ (u.1 85 12).toInt ≤ 940 → RR = (K_X12_next_85_333 u0 u z1) → va_P (dC, dI) vwCl (ac_w ad cA (TT nF) u) H → va_D A (ac_w ad cA (TT nF) u) → va_S A s.heap H locs → lv_has ls 4 [] → W p l e (ac_rm 2) s m [.ref (ad 85)].toArray below meth c H locs 0 0 (MQ below (va_Qv (fun (u : ac_U) => ac_R rg u ∧ ac_Fr [(85, some 4), (85, some 11), (85, some 12), (85, some 13), (85, some 14)] u0 u ∧ f_X12_next_85 u0 = u) (ac_B (dC, dI) vwCl (ac_ty cA) ad cA (TT nF) A) A) [.ref (ad 85)].toArray s 0 0 A) (F0 m 333 ls [.int z1, .ref (ad 85)]) := by
    intro z1 u H locs ls hR hF f0 f1 hC hP hD hS hl
    unfold K_X12_next_85_333 at hC
    refine a_puti F inX12 tyX12 tyX12_ok nmX12 hP hD hS 85 11 tc_85 rfl rfl (by decide) q1482 (fun _ h9 => h9) rfl (ty := .int) (tyX12_ok 11 (by decide)) rfl rfl dX12_next_333 (fun H locs hP hD hS => ?_)
    have hR := hR.si (c := 85) (k := 11) (v := z1) (by omega : (0 : Int) ≤ z1.toInt ∧ z1.toInt ≤ 4)
    have hF := hF.si (c := 85) (k := 11) (v := z1) rfl
    exact a_retv F hr hlocks hP hD hS dX12_next_336 ⟨hR, hF, hRR.symm.trans hC⟩
  have L320 : ∀ (u : ac_U) (H : Heap) (locs : List Loc) (ls : Array Slot), ac_R rg u → ac_Fr [(85, some 4), (85, some 11), (85, some 12), (85, some 13), (85, some 14)] u0 u → (0 : Int) ≤ (u.1 85 12).toInt ∧ (u.1 85 12).toInt ≤ 940 → RR = (K_X12_next_85_320 u0 u) → va_P (dC, dI) vwCl (ac_w ad cA (TT nF) u) H → va_D A (ac_w ad cA (TT nF) u) → va_S A s.heap H locs → lv_has ls 4 [] → W p l e (ac_rm 2) s m [.ref (ad 85)].toArray below meth c H locs 0 0 (MQ below (va_Qv (fun (u : ac_U) => ac_R rg u ∧ ac_Fr [(85, some 4), (85, some 11), (85, some 12), (85, some 13), (85, some 14)] u0 u ∧ f_X12_next_85 u0 = u) (ac_B (dC, dI) vwCl (ac_ty cA) ad cA (TT nF) A) A) [.ref (ad 85)].toArray s 0 0 A) (F0 m 320 ls [.ref (ad 85)]) := by
    intro u H locs ls hR hF f0 hC hP hD hS hl
    unfold K_X12_next_85_320 at hC
    refine a_ic F (4 : Int32) dX12_next_320 (by decide) ?_
    refine lv_goto (tgt := 333) F.1 F.2.1 dX12_next_321 (by decide) ?_
    exact L333 (4 : Int32) _ _ _ _ hR hF (by decide) (by omega : (0 : Int) ≤ (u.1 85 12).toInt ∧ (u.1 85 12).toInt ≤ 940) hC hP hD hS (lv_sub hl [] rfl)
  have L317 : ∀ (x2 : Int32) (z1 : Int32) (z2 : Int32) (u : ac_U) (H : Heap) (locs : List Loc) (ls : Array Slot), ac_R rg u → ac_Fr [(85, some 4), (85, some 11), (85, some 12), (85, some 13), (85, some 14)] u0 u → (0 : Int) ≤ x2.toInt ∧ x2.toInt ≤ 1 → (3 : Int) ≤ z2.toInt ∧ z2.toInt ≤ 7 → (0 : Int) ≤ (u.1 85 12).toInt ∧ (u.1 85 12).toInt ≤ 940 → RR = (K_X12_next_85_317 u0 u x2 z1 z2) → va_P (dC, dI) vwCl (ac_w ad cA (TT nF) u) H → va_D A (ac_w ad cA (TT nF) u) → va_S A s.heap H locs → lv_has ls 4 [(2, .int x2)] → W p l e (ac_rm 2) s m [.ref (ad 85)].toArray below meth c H locs 0 0 (MQ below (va_Qv (fun (u : ac_U) => ac_R rg u ∧ ac_Fr [(85, some 4), (85, some 11), (85, some 12), (85, some 13), (85, some 14)] u0 u ∧ f_X12_next_85 u0 = u) (ac_B (dC, dI) vwCl (ac_ty cA) ad cA (TT nF) A) A) [.ref (ad 85)].toArray s 0 0 A) (F0 m 317 ls [.int z2, .int z1, .ref (ad 85)]) := by
    intro x2 z1 z2 u H locs ls hR hF f0 f1 f2 hC hP hD hS hl
    unfold K_X12_next_85_317 at hC
    refine b_le F 324 dX12_next_317 (by decide) rfl rfl (fun c1 => ?_) (fun c1 => ?_)
    · have hC := hC.trans (if_pos c1)
      refine lv_iload_n F.1 F.2.1 dX12_next_324 rfl (lv_at hl 0 rfl) ?_
      refine z_eq F 332 dX12_next_325 (by decide) rfl (fun c2 => ?_) (fun c2 => ?_)
      · have hC := hC.trans (if_pos c2)
        refine a_ic F (2 : Int32) dX12_next_332 (by decide) ?_
        exact L333 (2 : Int32) _ _ _ _ hR hF (by decide) (by omega : (0 : Int) ≤ (u.1 85 12).toInt ∧ (u.1 85 12).toInt ≤ 940) hC hP hD hS (lv_sub hl [] rfl)
      · have hC := hC.trans (if_neg (by omega))
        refine a_ic F (1 : Int32) dX12_next_328 (by decide) ?_
        refine lv_goto (tgt := 333) F.1 F.2.1 dX12_next_329 (by decide) ?_
        exact L333 (1 : Int32) _ _ _ _ hR hF (by decide) (by omega : (0 : Int) ≤ (u.1 85 12).toInt ∧ (u.1 85 12).toInt ≤ 940) hC hP hD hS (lv_sub hl [] rfl)
    · have hC := hC.trans (if_neg (by omega))
      exact L320 _ _ _ _ hR hF (by omega : (0 : Int) ≤ (u.1 85 12).toInt ∧ (u.1 85 12).toInt ≤ 940) hC hP hD hS (lv_sub hl [] rfl)
  have L181 : ∀ (n181 : Nat) (x2 : Int32) (x3 : Int32) (u : ac_U) (H : Heap) (locs : List Loc) (ls : Array Slot), ac_R rg u → ac_Fr [(85, some 4), (85, some 11), (85, some 12), (85, some 13), (85, some 14)] u0 u → 940 - (u.1 85 4).toInt < (n181 : Int) → (0 : Int) ≤ x2.toInt ∧ x2.toInt ≤ 1 → (0 : Int) ≤ x3.toInt ∧ x3.toInt ≤ 1 → (0 : Int) ≤ (u.1 85 4).toInt ∧ (u.1 85 4).toInt ≤ 940 → (0 : Int) ≤ (u.1 85 12).toInt ∧ (u.1 85 12).toInt ≤ 940 → RR = (K_X12_next_85_181 u0 n181 u x2 x3) → va_P (dC, dI) vwCl (ac_w ad cA (TT nF) u) H → va_D A (ac_w ad cA (TT nF) u) → va_S A s.heap H locs → lv_has ls 4 [(0, .ref (ad 85)), (2, .int x2), (3, .int x3)] → W p l e (ac_rm 2) s m [.ref (ad 85)].toArray below meth c H locs 0 0 (MQ below (va_Qv (fun (u : ac_U) => ac_R rg u ∧ ac_Fr [(85, some 4), (85, some 11), (85, some 12), (85, some 13), (85, some 14)] u0 u ∧ f_X12_next_85 u0 = u) (ac_B (dC, dI) vwCl (ac_ty cA) ad cA (TT nF) A) A) [.ref (ad 85)].toArray s 0 0 A) (F0 m 181 ls []) := by
    intro n181
    induction n181 with
    | zero => intro x2 x3 u H locs ls hR hF hn181 f0 f1 f2 f3 hC hP hD hS hl; have gz0 : (0 : Int) ≤ (u.1 85 4).toInt ∧ (u.1 85 4).toInt ≤ 940 := hR 85 4; exfalso; omega
    | succ n181 ih181 =>
      intro x2 x3 u H locs ls hR hF hn181 f0 f1 f2 f3 hC hP hD hS hl
      have hC : RR = K_X12_next_85_181_b (K_X12_next_85_181 u0 n181) u0 u x2 x3 := hC
      have L275 : ∀ (x2 : Int32) (x3 : Int32) (u : ac_U) (H : Heap) (locs : List Loc) (ls : Array Slot), ac_R rg u → ac_Fr [(85, some 4), (85, some 11), (85, some 12), (85, some 13), (85, some 14)] u0 u → (0 : Int) ≤ x2.toInt ∧ x2.toInt ≤ 1 → (0 : Int) ≤ x3.toInt ∧ x3.toInt ≤ 1 → (0 : Int) ≤ (u.1 85 4).toInt ∧ (u.1 85 4).toInt ≤ 939 → (0 : Int) ≤ (u.1 85 12).toInt ∧ (u.1 85 12).toInt ≤ 940 → 940 - (u.1 85 4).toInt < ((n181 : Nat) : Int) + 1 → RR = (K_X12_next_85_275 (K_X12_next_85_181 u0 n181) u0 u x2 x3) → va_P (dC, dI) vwCl (ac_w ad cA (TT nF) u) H → va_D A (ac_w ad cA (TT nF) u) → va_S A s.heap H locs → lv_has ls 4 [(0, .ref (ad 85)), (2, .int x2), (3, .int x3)] → W p l e (ac_rm 2) s m [.ref (ad 85)].toArray below meth c H locs 0 0 (MQ below (va_Qv (fun (u : ac_U) => ac_R rg u ∧ ac_Fr [(85, some 4), (85, some 11), (85, some 12), (85, some 13), (85, some 14)] u0 u ∧ f_X12_next_85 u0 = u) (ac_B (dC, dI) vwCl (ac_ty cA) ad cA (TT nF) A) A) [.ref (ad 85)].toArray s 0 0 A) (F0 m 275 ls []) := by
        intro x2 x3 u H locs ls hR hF f0 f1 f2 f3 f4 hC hP hD hS hl
        unfold K_X12_next_85_275 at hC
        refine lv_aload_n F.1 F.2.1 dX12_next_275 rfl (lv_at hl 0 rfl) ?_
        refine lv_dup F.1 F.2.1 dX12_next_276 rfl ?_
        refine a_geti F inX12 hP 85 13 tc_85 rfl rfl (by decide) q1484 (fun _ h9 => h9) (v := (u.1 85 13)) rfl dX12_next_277 ?_
        refine a_ic F (1 : Int32) dX12_next_280 (by decide) ?_
        refine a_iaddUX F dX12_next_281 (fun v3 yv3 => ?_)
        have hC := vl_eq hC yv3
        refine a_puti F inX12 tyX12 tyX12_ok nmX12 hP hD hS 85 13 tc_85 rfl rfl (by decide) q1484 (fun _ h9 => h9) rfl (ty := .int) (tyX12_ok 13 (by decide)) rfl rfl dX12_next_282 (fun H locs hP hD hS => ?_)
        have hR := hR.si (c := 85) (k := 13) (v := v3) ⟨i_lo _, i_hi _⟩
        have hF := hF.si (c := 85) (k := 13) (v := v3) rfl
        refine lv_aload_n F.1 F.2.1 dX12_next_285 rfl (lv_at hl 0 rfl) ?_
        refine lv_dup F.1 F.2.1 dX12_next_286 rfl ?_
        have g4 : (0 : Int) ≤ (u.1 85 4).toInt ∧ (u.1 85 4).toInt ≤ 940 := hR 85 4
        refine a_geti F inX12 hP 85 4 tc_85 rfl rfl (by decide) q1475 (fun _ h9 => h9) (v := (u.1 85 4)) rfl dX12_next_287 ?_
        refine a_ic F (1 : Int32) dX12_next_290 (by decide) ?_
        refine a_iaddX F dX12_next_291 rfl ic_1 (by omega) (fun v5 hv5 yv5 => ?_)
        have hC := vl_eq hC yv5
        refine a_puti F inX12 tyX12 tyX12_ok nmX12 hP hD hS 85 4 tc_85 rfl rfl (by decide) q1475 (fun _ h9 => h9) rfl (ty := .int) (tyX12_ok 4 (by decide)) rfl rfl dX12_next_292 (fun H locs hP hD hS => ?_)
        have hR := hR.si (c := 85) (k := 4) (v := v5) (by omega : (0 : Int) ≤ v5.toInt ∧ v5.toInt ≤ 940)
        have hF := hF.si (c := 85) (k := 4) (v := v5) rfl
        refine lv_goto (tgt := 181) F.1 F.2.1 dX12_next_295 (by decide) ?_
        exact ih181 x2 x3 _ _ _ _ hR hF (by omega : 940 - v5.toInt < ((n181 : Nat) : Int)) (by omega) (by omega) (by omega : (0 : Int) ≤ v5.toInt ∧ v5.toInt ≤ 940) (by omega : (0 : Int) ≤ (u.1 85 12).toInt ∧ (u.1 85 12).toInt ≤ 940) hC hP hD hS (lv_sub hl [0, 1, 2] rfl)
      have L248 : ∀ (x2 : Int32) (x3 : Int32) (u : ac_U) (H : Heap) (locs : List Loc) (ls : Array Slot), ac_R rg u → ac_Fr [(85, some 4), (85, some 11), (85, some 12), (85, some 13), (85, some 14)] u0 u → (0 : Int) ≤ x2.toInt ∧ x2.toInt ≤ 1 → (0 : Int) ≤ x3.toInt ∧ x3.toInt ≤ 1 → (0 : Int) ≤ (u.1 85 4).toInt ∧ (u.1 85 4).toInt ≤ 939 → (0 : Int) ≤ (u.1 85 12).toInt ∧ (u.1 85 12).toInt ≤ 940 → 940 - (u.1 85 4).toInt < ((n181 : Nat) : Int) + 1 → RR = (K_X12_next_85_248 (K_X12_next_85_181 u0 n181) u0 u x2 x3) → va_P (dC, dI) vwCl (ac_w ad cA (TT nF) u) H → va_D A (ac_w ad cA (TT nF) u) → va_S A s.heap H locs → lv_has ls 4 [(0, .ref (ad 85)), (2, .int x2), (3, .int x3)] → W p l e (ac_rm 2) s m [.ref (ad 85)].toArray below meth c H locs 0 0 (MQ below (va_Qv (fun (u : ac_U) => ac_R rg u ∧ ac_Fr [(85, some 4), (85, some 11), (85, some 12), (85, some 13), (85, some 14)] u0 u ∧ f_X12_next_85 u0 = u) (ac_B (dC, dI) vwCl (ac_ty cA) ad cA (TT nF) A) A) [.ref (ad 85)].toArray s 0 0 A) (F0 m 248 ls []) := by
        intro x2 x3 u H locs ls hR hF f0 f1 f2 f3 f4 hC hP hD hS hl
        unfold K_X12_next_85_248 at hC
        refine lv_aload_n F.1 F.2.1 dX12_next_248 rfl (lv_at hl 0 rfl) ?_
        refine a_geti F inX12 hP 85 13 tc_85 rfl rfl (by decide) q1484 (fun _ h9 => h9) (v := (u.1 85 13)) rfl dX12_next_249 ?_
        refine a_ic F (3 : Int32) dX12_next_252 (by decide) ?_
        refine b_ge F 275 dX12_next_253 (by decide) rfl ic_3 (fun c6 => ?_) (fun c6 => ?_)
        · have hC := hC.trans (if_pos c6)
          have g7 : (0 : Int) ≤ (u.1 85 4).toInt ∧ (u.1 85 4).toInt ≤ 940 := hR 85 4
          exact L275 x2 x3 _ _ _ _ hR hF (by omega) (by omega) (by omega : (0 : Int) ≤ (u.1 85 4).toInt ∧ (u.1 85 4).toInt ≤ 939) (by omega : (0 : Int) ≤ (u.1 85 12).toInt ∧ (u.1 85 12).toInt ≤ 940) (by omega : 940 - (u.1 85 4).toInt < ((n181 : Nat) : Int) + 1) hC hP hD hS (lv_sub hl [0, 1, 2] rfl)
        · have hC := hC.trans (if_neg (by omega))
          refine lv_aload_n F.1 F.2.1 dX12_next_256 rfl (lv_at hl 0 rfl) ?_
          refine a_bp F (10 : Int32) dX12_next_257 (by decide) ?_
          refine lv_aload_n F.1 F.2.1 dX12_next_259 rfl (lv_at hl 0 rfl) ?_
          refine a_geti F inX12 hP 85 14 tc_85 rfl rfl (by decide) q1485 (fun _ h9 => h9) (v := (u.1 85 14)) rfl dX12_next_260 ?_
          refine a_imulUX F dX12_next_263 (fun v8 yv8 => ?_)
          have hC := vl_eq hC yv8
          refine lv_aload_n F.1 F.2.1 dX12_next_264 rfl (lv_at hl 0 rfl) ?_
          refine a_Vi F hml hl.1 hA hP hD hS (As := []) (x_X12_peek_85 l dC dI ad cA nF _  hR) (cs_RX12_145 (d := 1) F.2.2.1 (by decide)) tc_85 rfl rfl rfl rfl (Nat.le_of_ble_eq_true rfl) dX12_next_265 ⟨Nat.le_refl 0, Nat.le_refl 0⟩ (fun r9 uN9 H locs hq hP hD hS => ?_)
          obtain ⟨hu9, gr9, xr9, hz9⟩ := hq
          rw [hu9] at hP hD
          have g10 : (0 : Int) ≤ (u.1 85 4).toInt ∧ (u.1 85 4).toInt ≤ 940 := hR 85 4
          have g11 : (0 : Int) ≤ (u.1 85 3).toInt ∧ (u.1 85 3).toInt ≤ 940 := hR 85 3
          have xr9 : 0 ≤ r9.toInt → (u.1 85 4).toInt < (u.1 85 3).toInt := xr9
          have hC := vl_eq hC hz9.symm
          refine a_iaddUX F dX12_next_268 (fun v12 yv12 => ?_)
          have hC := vl_eq hC yv12
          refine a_bp F (48 : Int32) dX12_next_269 (by decide) ?_
          refine a_isubUX F dX12_next_271 (fun v13 yv13 => ?_)
          have hC := vl_eq hC yv13
          refine a_puti F inX12 tyX12 tyX12_ok nmX12 hP hD hS 85 14 tc_85 rfl rfl (by decide) q1485 (fun _ h9 => h9) rfl (ty := .int) (tyX12_ok 14 (by decide)) rfl rfl dX12_next_272 (fun H locs hP hD hS => ?_)
          have hR := hR.si (c := 85) (k := 14) (v := v13) ⟨i_lo _, i_hi _⟩
          have hF := hF.si (c := 85) (k := 14) (v := v13) rfl
          exact L275 x2 x3 _ _ _ _ hR hF (by omega) (by omega) (by omega : (0 : Int) ≤ (u.1 85 4).toInt ∧ (u.1 85 4).toInt ≤ 939) (by omega : (0 : Int) ≤ (u.1 85 12).toInt ∧ (u.1 85 12).toInt ≤ 940) (by omega : 940 - (u.1 85 4).toInt < ((n181 : Nat) : Int) + 1) hC hP hD hS (lv_sub hl [0, 1, 2] rfl)
      have L221 : ∀ (x2 : Int32) (z0 : Int32) (u : ac_U) (H : Heap) (locs : List Loc) (ls : Array Slot), ac_R rg u → ac_Fr [(85, some 4), (85, some 11), (85, some 12), (85, some 13), (85, some 14)] u0 u → (0 : Int) ≤ x2.toInt ∧ x2.toInt ≤ 1 → (0 : Int) ≤ z0.toInt ∧ z0.toInt ≤ 1 → (0 : Int) ≤ (u.1 85 4).toInt ∧ (u.1 85 4).toInt ≤ 939 → (0 : Int) ≤ (u.1 85 12).toInt ∧ (u.1 85 12).toInt ≤ 940 → 940 - (u.1 85 4).toInt < ((n181 : Nat) : Int) + 1 → RR = (K_X12_next_85_221 (K_X12_next_85_181 u0 n181) u0 u x2 z0) → va_P (dC, dI) vwCl (ac_w ad cA (TT nF) u) H → va_D A (ac_w ad cA (TT nF) u) → va_S A s.heap H locs → lv_has ls 4 [(0, .ref (ad 85)), (2, .int x2)] → W p l e (ac_rm 2) s m [.ref (ad 85)].toArray below meth c H locs 0 0 (MQ below (va_Qv (fun (u : ac_U) => ac_R rg u ∧ ac_Fr [(85, some 4), (85, some 11), (85, some 12), (85, some 13), (85, some 14)] u0 u ∧ f_X12_next_85 u0 = u) (ac_B (dC, dI) vwCl (ac_ty cA) ad cA (TT nF) A) A) [.ref (ad 85)].toArray s 0 0 A) (F0 m 221 ls [.int z0]) := by
        intro x2 z0 u H locs ls hR hF f0 f1 f2 f3 f4 hC hP hD hS hl
        unfold K_X12_next_85_221 at hC
        refine lv_istore_n (lv' := [(3, .int z0), (0, .ref (ad 85)), (2, .int x2)]) F.1 F.2.1 dX12_next_221 rfl hl (by decide) rfl (fun ls hl => ?_)
        refine lv_aload_n F.1 F.2.1 dX12_next_222 rfl (lv_at hl 1 rfl) ?_
        refine a_geti F inX12 hP 85 13 tc_85 rfl rfl (by decide) q1484 (fun _ h9 => h9) (v := (u.1 85 13)) rfl dX12_next_223 ?_
        refine a_bp F (7 : Int32) dX12_next_226 (by decide) ?_
        refine b_ge F 248 dX12_next_228 (by decide) rfl ic_7 (fun c14 => ?_) (fun c14 => ?_)
        · have hC := hC.trans (if_pos c14)
          have g15 : (0 : Int) ≤ (u.1 85 4).toInt ∧ (u.1 85 4).toInt ≤ 940 := hR 85 4
          exact L248 x2 z0 _ _ _ _ hR hF (by omega) (by omega) (by omega : (0 : Int) ≤ (u.1 85 4).toInt ∧ (u.1 85 4).toInt ≤ 939) (by omega : (0 : Int) ≤ (u.1 85 12).toInt ∧ (u.1 85 12).toInt ≤ 940) (by omega : 940 - (u.1 85 4).toInt < ((n181 : Nat) : Int) + 1) hC hP hD hS (lv_sub hl [1, 2, 0] rfl)
        · have hC := hC.trans (if_neg (by omega))
          refine lv_aload_n F.1 F.2.1 dX12_next_231 rfl (lv_at hl 1 rfl) ?_
          refine lv_aload_n F.1 F.2.1 dX12_next_232 rfl (lv_at hl 1 rfl) ?_
          refine a_getl F inX12 hP 85 17 tc_85 rfl rfl (by decide) q1488 (fun _ h9 => h9) (v := (u.2 85 17)) rfl dX12_next_233 ?_
          refine a_bp F (8 : Int32) dX12_next_236 (by decide) ?_
          refine lv_lshl F.1 F.2.1 dX12_next_238 rfl ?_
          refine lv_topl (fun w16 yw16 => ?_)
          have hC := vl_eq hC yw16
          refine lv_aload_n F.1 F.2.1 dX12_next_239 rfl (lv_at hl 1 rfl) ?_
          refine a_Vi F hml hl.1 hA hP hD hS (As := []) (x_X12_peek_85 l dC dI ad cA nF _  hR) (cs_RX12_145 (d := 1) F.2.2.1 (by decide)) tc_85 rfl rfl rfl rfl (Nat.le_of_ble_eq_true rfl) dX12_next_240 ⟨Nat.le_refl 0, Nat.le_refl 0⟩ (fun r17 uN17 H locs hq hP hD hS => ?_)
          obtain ⟨hu17, gr17, xr17, hz17⟩ := hq
          rw [hu17] at hP hD
          have g18 : (0 : Int) ≤ (u.1 85 4).toInt ∧ (u.1 85 4).toInt ≤ 940 := hR 85 4
          have g19 : (0 : Int) ≤ (u.1 85 3).toInt ∧ (u.1 85 3).toInt ≤ 940 := hR 85 3
          have xr17 : 0 ≤ r17.toInt → (u.1 85 4).toInt < (u.1 85 3).toInt := xr17
          have hC := vl_eq hC hz17.symm
          refine lv_i2l F.1 F.2.1 dX12_next_243 rfl ?_
          refine lv_topl (fun w20 yw20 => ?_)
          have hC := vl_eq hC yw20
          refine lv_lor F.1 F.2.1 dX12_next_244 ?_
          refine lv_topl (fun w21 yw21 => ?_)
          have hC := vl_eq hC yw21
          refine a_putl F inX12 tyX12 tyX12_ok nmX12 hP hD hS 85 17 tc_85 rfl rfl (by decide) q1488 (fun _ h9 => h9) rfl (tyX12_ok 17 (by decide)) dX12_next_245 (fun H locs hP hD hS => ?_)
          have hR := ac_slR hD hR
          have hF := ac_slF hD hF
          exact L248 x2 z0 _ _ _ _ hR hF (by omega) (by omega) (by omega : (0 : Int) ≤ (u.1 85 4).toInt ∧ (u.1 85 4).toInt ≤ 939) (by omega : (0 : Int) ≤ (u.1 85 12).toInt ∧ (u.1 85 12).toInt ≤ 940) (by omega : 940 - (u.1 85 4).toInt < ((n181 : Nat) : Int) + 1) hC hP hD hS (lv_sub hl [1, 2, 0] rfl)
      have L220 : ∀ (x2 : Int32) (u : ac_U) (H : Heap) (locs : List Loc) (ls : Array Slot), ac_R rg u → ac_Fr [(85, some 4), (85, some 11), (85, some 12), (85, some 13), (85, some 14)] u0 u → (0 : Int) ≤ x2.toInt ∧ x2.toInt ≤ 1 → (0 : Int) ≤ (u.1 85 4).toInt ∧ (u.1 85 4).toInt ≤ 939 → (0 : Int) ≤ (u.1 85 12).toInt ∧ (u.1 85 12).toInt ≤ 940 → 940 - (u.1 85 4).toInt < ((n181 : Nat) : Int) + 1 → RR = (K_X12_next_85_220 (K_X12_next_85_181 u0 n181) u0 u x2) → va_P (dC, dI) vwCl (ac_w ad cA (TT nF) u) H → va_D A (ac_w ad cA (TT nF) u) → va_S A s.heap H locs → lv_has ls 4 [(0, .ref (ad 85)), (2, .int x2)] → W p l e (ac_rm 2) s m [.ref (ad 85)].toArray below meth c H locs 0 0 (MQ below (va_Qv (fun (u : ac_U) => ac_R rg u ∧ ac_Fr [(85, some 4), (85, some 11), (85, some 12), (85, some 13), (85, some 14)] u0 u ∧ f_X12_next_85 u0 = u) (ac_B (dC, dI) vwCl (ac_ty cA) ad cA (TT nF) A) A) [.ref (ad 85)].toArray s 0 0 A) (F0 m 220 ls []) := by
        intro x2 u H locs ls hR hF f0 f1 f2 f3 hC hP hD hS hl
        unfold K_X12_next_85_220 at hC
        refine a_ic F (0 : Int32) dX12_next_220 (by decide) ?_
        have g22 : (0 : Int) ≤ (u.1 85 4).toInt ∧ (u.1 85 4).toInt ≤ 940 := hR 85 4
        exact L221 x2 (0 : Int32) _ _ _ _ hR hF (by omega) (by decide) (by omega : (0 : Int) ≤ (u.1 85 4).toInt ∧ (u.1 85 4).toInt ≤ 939) (by omega : (0 : Int) ≤ (u.1 85 12).toInt ∧ (u.1 85 12).toInt ≤ 940) (by omega : 940 - (u.1 85 4).toInt < ((n181 : Nat) : Int) + 1) hC hP hD hS (lv_sub hl [0, 1] rfl)
      have L201 : ∀ (x2 : Int32) (x3 : Int32) (u : ac_U) (H : Heap) (locs : List Loc) (ls : Array Slot), ac_R rg u → ac_Fr [(85, some 4), (85, some 11), (85, some 12), (85, some 13), (85, some 14)] u0 u → (0 : Int) ≤ x2.toInt ∧ x2.toInt ≤ 1 → (0 : Int) ≤ x3.toInt ∧ x3.toInt ≤ 1 → (0 : Int) ≤ (u.1 85 4).toInt ∧ (u.1 85 4).toInt ≤ 939 → (0 : Int) ≤ (u.1 85 12).toInt ∧ (u.1 85 12).toInt ≤ 940 → 940 - (u.1 85 4).toInt < ((n181 : Nat) : Int) + 1 → RR = (K_X12_next_85_201 (K_X12_next_85_181 u0 n181) u0 u x2 x3) → va_P (dC, dI) vwCl (ac_w ad cA (TT nF) u) H → va_D A (ac_w ad cA (TT nF) u) → va_S A s.heap H locs → lv_has ls 4 [(0, .ref (ad 85)), (2, .int x2), (3, .int x3)] → W p l e (ac_rm 2) s m [.ref (ad 85)].toArray below meth c H locs 0 0 (MQ below (va_Qv (fun (u : ac_U) => ac_R rg u ∧ ac_Fr [(85, some 4), (85, some 11), (85, some 12), (85, some 13), (85, some 14)] u0 u ∧ f_X12_next_85 u0 = u) (ac_B (dC, dI) vwCl (ac_ty cA) ad cA (TT nF) A) A) [.ref (ad 85)].toArray s 0 0 A) (F0 m 201 ls []) := by
        intro x2 x3 u H locs ls hR hF f0 f1 f2 f3 f4 hC hP hD hS hl
        unfold K_X12_next_85_201 at hC
        refine lv_iload_n F.1 F.2.1 dX12_next_201 rfl (lv_at hl 2 rfl) ?_
        refine z_eq F 220 dX12_next_202 (by decide) rfl (fun c23 => ?_) (fun c23 => ?_)
        · have hC := hC.trans (if_pos c23)
          have g24 : (0 : Int) ≤ (u.1 85 4).toInt ∧ (u.1 85 4).toInt ≤ 940 := hR 85 4
          exact L220 x2 _ _ _ _ hR hF (by omega) (by omega : (0 : Int) ≤ (u.1 85 4).toInt ∧ (u.1 85 4).toInt ≤ 939) (by omega : (0 : Int) ≤ (u.1 85 12).toInt ∧ (u.1 85 12).toInt ≤ 940) (by omega : 940 - (u.1 85 4).toInt < ((n181 : Nat) : Int) + 1) hC hP hD hS (lv_sub hl [0, 1] rfl)
        · have hC := hC.trans (if_neg (by omega))
          refine lv_aload_n F.1 F.2.1 dX12_next_205 rfl (lv_at hl 0 rfl) ?_
          refine a_Vi F hml hl.1 hA hP hD hS (As := []) (x_X12_peek_85 l dC dI ad cA nF _  hR) (cs_RX12_145 (d := 1) F.2.2.1 (by decide)) tc_85 rfl rfl rfl rfl (Nat.le_of_ble_eq_true rfl) dX12_next_206 ⟨Nat.le_refl 0, Nat.le_refl 0⟩ (fun r25 uN25 H locs hq hP hD hS => ?_)
          obtain ⟨hu25, gr25, xr25, hz25⟩ := hq
          rw [hu25] at hP hD
          have g26 : (0 : Int) ≤ (u.1 85 4).toInt ∧ (u.1 85 4).toInt ≤ 940 := hR 85 4
          have g27 : (0 : Int) ≤ (u.1 85 3).toInt ∧ (u.1 85 3).toInt ≤ 940 := hR 85 3
          have xr25 : 0 ≤ r25.toInt → (u.1 85 4).toInt < (u.1 85 3).toInt := xr25
          have hC := vl_eq hC hz25.symm
          refine a_Si F hml hl.1 hA hP hD hS (As := [.int r25]) (x_X12_isSmall l dC dI ad cA nF _ r25 hR (by omega)) (cs_RX12_158 (d := 1) F.2.2.1 (by decide)) rfl rfl (Nat.le_of_ble_eq_true rfl) dX12_next_209 ⟨Nat.le_refl 0, Nat.le_refl 0⟩ (fun r28 uN28 H locs hq hP hD hS => ?_)
          obtain ⟨hu28, gr28, xr28, hz28⟩ := hq
          rw [hu28] at hP hD
          have xr28 : r28.toInt ≠ 0 → 97 ≤ r25.toInt ∧ r25.toInt ≤ 122 := xr28
          have hC := vl_eq hC hz28.symm
          refine lv_iload_n F.1 F.2.1 dX12_next_212 rfl (lv_at hl 1 rfl) ?_
          refine b_ne F 220 dX12_next_213 (by decide) rfl rfl (fun c29 => ?_) (fun c29 => ?_)
          · have hC := hC.trans (if_pos c29)
            exact L220 x2 _ _ _ _ hR hF (by omega) (by omega : (0 : Int) ≤ (u.1 85 4).toInt ∧ (u.1 85 4).toInt ≤ 939) (by omega : (0 : Int) ≤ (u.1 85 12).toInt ∧ (u.1 85 12).toInt ≤ 940) (by omega : 940 - (u.1 85 4).toInt < ((n181 : Nat) : Int) + 1) hC hP hD hS (lv_sub hl [0, 1] rfl)
          · have hC := hC.trans (if_neg (by omega))
            refine a_ic F (1 : Int32) dX12_next_216 (by decide) ?_
            refine lv_goto (tgt := 221) F.1 F.2.1 dX12_next_217 (by decide) ?_
            exact L221 x2 (1 : Int32) _ _ _ _ hR hF (by omega) (by decide) (by omega : (0 : Int) ≤ (u.1 85 4).toInt ∧ (u.1 85 4).toInt ≤ 939) (by omega : (0 : Int) ≤ (u.1 85 12).toInt ∧ (u.1 85 12).toInt ≤ 940) (by omega : 940 - (u.1 85 4).toInt < ((n181 : Nat) : Int) + 1) hC hP hD hS (lv_sub hl [0, 1] rfl)
      unfold K_X12_next_85_181_b at hC
      refine lv_aload_n F.1 F.2.1 dX12_next_181 rfl (lv_at hl 0 rfl) ?_
      refine a_Vi F hml hl.1 hA hP hD hS (As := []) (x_X12_peek_85 l dC dI ad cA nF _  hR) (cs_RX12_145 (d := 1) F.2.2.1 (by decide)) tc_85 rfl rfl rfl rfl (Nat.le_of_ble_eq_true rfl) dX12_next_182 ⟨Nat.le_refl 0, Nat.le_refl 0⟩ (fun r30 uN30 H locs hq hP hD hS => ?_)
      obtain ⟨hu30, gr30, xr30, hz30⟩ := hq
      rw [hu30] at hP hD
      have g31 : (0 : Int) ≤ (u.1 85 4).toInt ∧ (u.1 85 4).toInt ≤ 940 := hR 85 4
      have g32 : (0 : Int) ≤ (u.1 85 3).toInt ∧ (u.1 85 3).toInt ≤ 940 := hR 85 3
      have xr30 : 0 ≤ r30.toInt → (u.1 85 4).toInt < (u.1 85 3).toInt := xr30
      have hC := vl_eq hC hz30.symm
      refine a_Si F hml hl.1 hA hP hD hS (As := [.int r30]) (x_X12_isSmall l dC dI ad cA nF _ r30 hR (by omega)) (cs_RX12_158 (d := 1) F.2.2.1 (by decide)) rfl rfl (Nat.le_of_ble_eq_true rfl) dX12_next_185 ⟨Nat.le_refl 0, Nat.le_refl 0⟩ (fun r33 uN33 H locs hq hP hD hS => ?_)
      obtain ⟨hu33, gr33, xr33, hz33⟩ := hq
      rw [hu33] at hP hD
      have xr33 : r33.toInt ≠ 0 → 97 ≤ r30.toInt ∧ r30.toInt ≤ 122 := xr33
      have hC := vl_eq hC hz33.symm
      refine z_ne F 201 dX12_next_188 (by decide) rfl (fun c34 => ?_) (fun c34 => ?_)
      · have hC := hC.trans (if_pos c34)
        exact L201 x2 x3 _ _ _ _ hR hF (by omega) (by omega) (by omega : (0 : Int) ≤ (u.1 85 4).toInt ∧ (u.1 85 4).toInt ≤ 939) (by omega : (0 : Int) ≤ (u.1 85 12).toInt ∧ (u.1 85 12).toInt ≤ 940) (by omega : 940 - (u.1 85 4).toInt < ((n181 : Nat) : Int) + 1) hC hP hD hS (lv_sub hl [0, 1, 2] rfl)
      · have hC := hC.trans (if_neg (by omega))
        refine lv_aload_n F.1 F.2.1 dX12_next_191 rfl (lv_at hl 0 rfl) ?_
        refine a_Vi F hml hl.1 hA hP hD hS (As := []) (x_X12_peek_85 l dC dI ad cA nF _  hR) (cs_RX12_145 (d := 1) F.2.2.1 (by decide)) tc_85 rfl rfl rfl rfl (Nat.le_of_ble_eq_true rfl) dX12_next_192 ⟨Nat.le_refl 0, Nat.le_refl 0⟩ (fun r35 uN35 H locs hq hP hD hS => ?_)
        obtain ⟨hu35, gr35, xr35, hz35⟩ := hq
        rw [hu35] at hP hD
        have xr35 : 0 ≤ r35.toInt → (u.1 85 4).toInt < (u.1 85 3).toInt := xr35
        have hC := vl_eq hC hz35.symm
        refine a_Si F hml hl.1 hA hP hD hS (As := [.int r35]) (x_X12_isDigit l dC dI ad cA nF _ r35 hR (by omega)) (cs_RX12_162 (d := 1) F.2.2.1 (by decide)) rfl rfl (Nat.le_of_ble_eq_true rfl) dX12_next_195 ⟨Nat.le_refl 0, Nat.le_refl 0⟩ (fun r36 uN36 H locs hq hP hD hS => ?_)
        obtain ⟨hu36, gr36, xr36, hz36⟩ := hq
        rw [hu36] at hP hD
        have xr36 : r36.toInt ≠ 0 → 48 ≤ r35.toInt ∧ r35.toInt ≤ 57 := xr36
        have hC := vl_eq hC hz36.symm
        refine z_eq F 298 dX12_next_198 (by decide) rfl (fun c37 => ?_) (fun c37 => ?_)
        · have hC := hC.trans (if_pos c37)
          refine lv_aload_n F.1 F.2.1 dX12_next_298 rfl (lv_at hl 0 rfl) ?_
          refine lv_iload_n F.1 F.2.1 dX12_next_299 rfl (lv_at hl 2 rfl) ?_
          refine z_eq F 320 dX12_next_300 (by decide) rfl (fun c38 => ?_) (fun c38 => ?_)
          · have hC := hC.trans (if_pos c38)
            exact L320 _ _ _ _ hR hF (by omega : (0 : Int) ≤ (u.1 85 12).toInt ∧ (u.1 85 12).toInt ≤ 940) hC hP hD hS (lv_sub hl [] rfl)
          · have hC := hC.trans (if_neg (by omega))
            refine lv_aload_n F.1 F.2.1 dX12_next_303 rfl (lv_at hl 0 rfl) ?_
            refine a_geti F inX12 hP 85 13 tc_85 rfl rfl (by decide) q1484 (fun _ h9 => h9) (v := (u.1 85 13)) rfl dX12_next_304 ?_
            refine lv_iload_n F.1 F.2.1 dX12_next_307 rfl (lv_at hl 1 rfl) ?_
            refine z_eq F 316 dX12_next_308 (by decide) rfl (fun c39 => ?_) (fun c39 => ?_)
            · have hC := hC.trans (if_pos c39)
              refine a_ic F (3 : Int32) dX12_next_316 (by decide) ?_
              exact L317 x2 (u.1 85 13) (3 : Int32) _ _ _ _ hR hF (by omega) (by decide) (by omega : (0 : Int) ≤ (u.1 85 12).toInt ∧ (u.1 85 12).toInt ≤ 940) hC hP hD hS (lv_sub hl [1] rfl)
            · have hC := hC.trans (if_neg (by omega))
              refine a_bp F (7 : Int32) dX12_next_311 (by decide) ?_
              refine lv_goto (tgt := 317) F.1 F.2.1 dX12_next_313 (by decide) ?_
              exact L317 x2 (u.1 85 13) (7 : Int32) _ _ _ _ hR hF (by omega) (by decide) (by omega : (0 : Int) ≤ (u.1 85 12).toInt ∧ (u.1 85 12).toInt ≤ 940) hC hP hD hS (lv_sub hl [1] rfl)
        · have hC := hC.trans (if_neg (by omega))
          exact L201 x2 x3 _ _ _ _ hR hF (by omega) (by omega) (by omega : (0 : Int) ≤ (u.1 85 4).toInt ∧ (u.1 85 4).toInt ≤ 939) (by omega : (0 : Int) ≤ (u.1 85 12).toInt ∧ (u.1 85 12).toInt ≤ 940) (by omega : 940 - (u.1 85 4).toInt < ((n181 : Nat) : Int) + 1) hC hP hD hS (lv_sub hl [0, 1, 2] rfl)
  have L164 : ∀ (x1 : Int32) (u : ac_U) (H : Heap) (locs : List Loc) (ls : Array Slot), ac_R rg u → ac_Fr [(85, some 4), (85, some 11), (85, some 12), (85, some 13), (85, some 14)] u0 u → (48 : Int) ≤ x1.toInt ∧ x1.toInt ≤ 122 → (0 : Int) ≤ (u.1 85 4).toInt ∧ (u.1 85 4).toInt ≤ 939 → (0 : Int) ≤ (u.1 85 12).toInt ∧ (u.1 85 12).toInt ≤ 940 → (0 : Int) ≤ (u.1 85 13).toInt ∧ (u.1 85 13).toInt ≤ 0 → RR = (K_X12_next_85_164 u0 u x1) → va_P (dC, dI) vwCl (ac_w ad cA (TT nF) u) H → va_D A (ac_w ad cA (TT nF) u) → va_S A s.heap H locs → lv_has ls 4 [(0, .ref (ad 85)), (1, .int x1)] → W p l e (ac_rm 2) s m [.ref (ad 85)].toArray below meth c H locs 0 0 (MQ below (va_Qv (fun (u : ac_U) => ac_R rg u ∧ ac_Fr [(85, some 4), (85, some 11), (85, some 12), (85, some 13), (85, some 14)] u0 u ∧ f_X12_next_85 u0 = u) (ac_B (dC, dI) vwCl (ac_ty cA) ad cA (TT nF) A) A) [.ref (ad 85)].toArray s 0 0 A) (F0 m 164 ls []) := by
    intro x1 u H locs ls hR hF f0 f1 f2 f3 hC hP hD hS hl
    unfold K_X12_next_85_164 at hC
    refine lv_iload_n F.1 F.2.1 dX12_next_164 rfl (lv_at hl 1 rfl) ?_
    refine a_Si F hml hl.1 hA hP hD hS (As := [.int x1]) (x_X12_isSmall l dC dI ad cA nF _ x1 hR (by omega)) (cs_RX12_158 (d := 1) F.2.2.1 (by decide)) rfl rfl (Nat.le_of_ble_eq_true rfl) dX12_next_165 ⟨Nat.le_refl 0, Nat.le_refl 0⟩ (fun r40 uN40 H locs hq hP hD hS => ?_)
    obtain ⟨hu40, gr40, xr40, hz40⟩ := hq
    rw [hu40] at hP hD
    have xr40 : r40.toInt ≠ 0 → 97 ≤ x1.toInt ∧ x1.toInt ≤ 122 := xr40
    have hC := vl_eq hC hz40.symm
    refine lv_istore_n (lv' := [(2, .int r40), (0, .ref (ad 85)), (1, .int x1)]) F.1 F.2.1 dX12_next_168 rfl hl (by decide) rfl (fun ls hl => ?_)
    refine a_ic F (1 : Int32) dX12_next_169 (by decide) ?_
    refine lv_istore_n (lv' := [(3, .int (1 : Int32)), (2, .int r40), (0, .ref (ad 85)), (1, .int x1)]) F.1 F.2.1 dX12_next_170 rfl hl (by decide) rfl (fun ls hl => ?_)
    refine lv_aload_n F.1 F.2.1 dX12_next_171 rfl (lv_at hl 2 rfl) ?_
    refine lv_lconst (v := (0 : Int64)) F.1 F.2.1 dX12_next_172 (by decide) ?_
    refine a_putl F inX12 tyX12 tyX12_ok nmX12 hP hD hS 85 17 tc_85 rfl rfl (by decide) q1488 (fun _ h9 => h9) rfl (tyX12_ok 17 (by decide)) dX12_next_173 (fun H locs hP hD hS => ?_)
    have hR := ac_slR hD hR
    have hF := ac_slF hD hF
    refine lv_aload_n F.1 F.2.1 dX12_next_176 rfl (lv_at hl 2 rfl) ?_
    refine a_ic F (0 : Int32) dX12_next_177 (by decide) ?_
    refine a_puti F inX12 tyX12 tyX12_ok nmX12 hP hD hS 85 14 tc_85 rfl rfl (by decide) q1485 (fun _ h9 => h9) rfl (ty := .int) (tyX12_ok 14 (by decide)) rfl rfl dX12_next_178 (fun H locs hP hD hS => ?_)
    have hR := hR.si (c := 85) (k := 14) (v := (0 : Int32)) ⟨i_lo _, i_hi _⟩
    have hF := hF.si (c := 85) (k := 14) (v := (0 : Int32)) rfl
    have g41 : (0 : Int) ≤ (u.1 85 4).toInt ∧ (u.1 85 4).toInt ≤ 940 := hR 85 4
    exact L181 942 r40 (1 : Int32) _ _ _ _ hR hF (by omega : 940 - (u.1 85 4).toInt < (942 : Int)) (by omega) (by decide) (by omega : (0 : Int) ≤ (u.1 85 4).toInt ∧ (u.1 85 4).toInt ≤ 940) (by omega : (0 : Int) ≤ (u.1 85 12).toInt ∧ (u.1 85 12).toInt ≤ 940) hC hP hD hS (lv_sub hl [2, 1, 0] rfl)
  have L145 : ∀ (x1 : Int32) (z1 : Int32) (u : ac_U) (H : Heap) (locs : List Loc) (ls : Array Slot), ac_R rg u → ac_Fr [(85, some 4), (85, some 11), (85, some 12), (85, some 13), (85, some 14)] u0 u → (0 : Int) ≤ x1.toInt ∧ x1.toInt ≤ 255 → (3 : Int) ≤ z1.toInt ∧ z1.toInt ≤ 4 → (0 : Int) ≤ (u.1 85 4).toInt ∧ (u.1 85 4).toInt ≤ 939 → (0 : Int) ≤ (u.1 85 12).toInt ∧ (u.1 85 12).toInt ≤ 940 → (0 : Int) ≤ (u.1 85 13).toInt ∧ (u.1 85 13).toInt ≤ 0 → RR = (K_X12_next_85_145 u0 u x1 z1) → va_P (dC, dI) vwCl (ac_w ad cA (TT nF) u) H → va_D A (ac_w ad cA (TT nF) u) → va_S A s.heap H locs → lv_has ls 4 [(0, .ref (ad 85)), (1, .int x1)] → W p l e (ac_rm 2) s m [.ref (ad 85)].toArray below meth c H locs 0 0 (MQ below (va_Qv (fun (u : ac_U) => ac_R rg u ∧ ac_Fr [(85, some 4), (85, some 11), (85, some 12), (85, some 13), (85, some 14)] u0 u ∧ f_X12_next_85 u0 = u) (ac_B (dC, dI) vwCl (ac_ty cA) ad cA (TT nF) A) A) [.ref (ad 85)].toArray s 0 0 A) (F0 m 145 ls [.int z1, .ref (ad 85)]) := by
    intro x1 z1 u H locs ls hR hF f0 f1 f2 f3 f4 hC hP hD hS hl
    unfold K_X12_next_85_145 at hC
    refine a_puti F inX12 tyX12 tyX12_ok nmX12 hP hD hS 85 11 tc_85 rfl rfl (by decide) q1482 (fun _ h9 => h9) rfl (ty := .int) (tyX12_ok 11 (by decide)) rfl rfl dX12_next_145 (fun H locs hP hD hS => ?_)
    have hR := hR.si (c := 85) (k := 11) (v := z1) (by omega : (0 : Int) ≤ z1.toInt ∧ z1.toInt ≤ 4)
    have hF := hF.si (c := 85) (k := 11) (v := z1) rfl
    refine lv_aload_n F.1 F.2.1 dX12_next_148 rfl (lv_at hl 0 rfl) ?_
    refine lv_iload_n F.1 F.2.1 dX12_next_149 rfl (lv_at hl 1 rfl) ?_
    refine a_puti F inX12 tyX12 tyX12_ok nmX12 hP hD hS 85 14 tc_85 rfl rfl (by decide) q1485 (fun _ h9 => h9) rfl (ty := .int) (tyX12_ok 14 (by decide)) rfl rfl dX12_next_150 (fun H locs hP hD hS => ?_)
    have hR := hR.si (c := 85) (k := 14) (v := x1) ⟨i_lo _, i_hi _⟩
    have hF := hF.si (c := 85) (k := 14) (v := x1) rfl
    refine lv_aload_n F.1 F.2.1 dX12_next_153 rfl (lv_at hl 0 rfl) ?_
    refine lv_dup F.1 F.2.1 dX12_next_154 rfl ?_
    have g42 : (0 : Int) ≤ (u.1 85 4).toInt ∧ (u.1 85 4).toInt ≤ 940 := hR 85 4
    refine a_geti F inX12 hP 85 4 tc_85 rfl rfl (by decide) q1475 (fun _ h9 => h9) (v := (u.1 85 4)) rfl dX12_next_155 ?_
    refine a_ic F (1 : Int32) dX12_next_158 (by decide) ?_
    refine a_iaddX F dX12_next_159 rfl ic_1 (by omega) (fun v43 hv43 yv43 => ?_)
    have hC := vl_eq hC yv43
    refine a_puti F inX12 tyX12 tyX12_ok nmX12 hP hD hS 85 4 tc_85 rfl rfl (by decide) q1475 (fun _ h9 => h9) rfl (ty := .int) (tyX12_ok 4 (by decide)) rfl rfl dX12_next_160 (fun H locs hP hD hS => ?_)
    have hR := hR.si (c := 85) (k := 4) (v := v43) (by omega : (0 : Int) ≤ v43.toInt ∧ v43.toInt ≤ 940)
    have hF := hF.si (c := 85) (k := 4) (v := v43) rfl
    exact a_retv F hr hlocks hP hD hS dX12_next_163 ⟨hR, hF, hRR.symm.trans hC⟩
  have L144 : ∀ (x1 : Int32) (u : ac_U) (H : Heap) (locs : List Loc) (ls : Array Slot), ac_R rg u → ac_Fr [(85, some 4), (85, some 11), (85, some 12), (85, some 13), (85, some 14)] u0 u → (0 : Int) ≤ x1.toInt ∧ x1.toInt ≤ 255 → (0 : Int) ≤ (u.1 85 4).toInt ∧ (u.1 85 4).toInt ≤ 939 → (0 : Int) ≤ (u.1 85 12).toInt ∧ (u.1 85 12).toInt ≤ 940 → (0 : Int) ≤ (u.1 85 13).toInt ∧ (u.1 85 13).toInt ≤ 0 → RR = (K_X12_next_85_144 u0 u x1) → va_P (dC, dI) vwCl (ac_w ad cA (TT nF) u) H → va_D A (ac_w ad cA (TT nF) u) → va_S A s.heap H locs → lv_has ls 4 [(0, .ref (ad 85)), (1, .int x1)] → W p l e (ac_rm 2) s m [.ref (ad 85)].toArray below meth c H locs 0 0 (MQ below (va_Qv (fun (u : ac_U) => ac_R rg u ∧ ac_Fr [(85, some 4), (85, some 11), (85, some 12), (85, some 13), (85, some 14)] u0 u ∧ f_X12_next_85 u0 = u) (ac_B (dC, dI) vwCl (ac_ty cA) ad cA (TT nF) A) A) [.ref (ad 85)].toArray s 0 0 A) (F0 m 144 ls [.ref (ad 85)]) := by
    intro x1 u H locs ls hR hF f0 f1 f2 f3 hC hP hD hS hl
    unfold K_X12_next_85_144 at hC
    refine a_ic F (4 : Int32) dX12_next_144 (by decide) ?_
    have g44 : (0 : Int) ≤ (u.1 85 4).toInt ∧ (u.1 85 4).toInt ≤ 940 := hR 85 4
    exact L145 x1 (4 : Int32) _ _ _ _ hR hF (by omega) (by decide) (by omega : (0 : Int) ≤ (u.1 85 4).toInt ∧ (u.1 85 4).toInt ≤ 939) (by omega : (0 : Int) ≤ (u.1 85 12).toInt ∧ (u.1 85 12).toInt ≤ 940) (by omega : (0 : Int) ≤ (u.1 85 13).toInt ∧ (u.1 85 13).toInt ≤ 0) hC hP hD hS (lv_sub hl [0, 1] rfl)
  have L140 : ∀ (x1 : Int32) (u : ac_U) (H : Heap) (locs : List Loc) (ls : Array Slot), ac_R rg u → ac_Fr [(85, some 4), (85, some 11), (85, some 12), (85, some 13), (85, some 14)] u0 u → (40 : Int) ≤ x1.toInt ∧ x1.toInt ≤ 62 → (0 : Int) ≤ (u.1 85 4).toInt ∧ (u.1 85 4).toInt ≤ 939 → (0 : Int) ≤ (u.1 85 12).toInt ∧ (u.1 85 12).toInt ≤ 940 → (0 : Int) ≤ (u.1 85 13).toInt ∧ (u.1 85 13).toInt ≤ 0 → RR = (K_X12_next_85_140 u0 u x1) → va_P (dC, dI) vwCl (ac_w ad cA (TT nF) u) H → va_D A (ac_w ad cA (TT nF) u) → va_S A s.heap H locs → lv_has ls 4 [(0, .ref (ad 85)), (1, .int x1)] → W p l e (ac_rm 2) s m [.ref (ad 85)].toArray below meth c H locs 0 0 (MQ below (va_Qv (fun (u : ac_U) => ac_R rg u ∧ ac_Fr [(85, some 4), (85, some 11), (85, some 12), (85, some 13), (85, some 14)] u0 u ∧ f_X12_next_85 u0 = u) (ac_B (dC, dI) vwCl (ac_ty cA) ad cA (TT nF) A) A) [.ref (ad 85)].toArray s 0 0 A) (F0 m 140 ls [.ref (ad 85)]) := by
    intro x1 u H locs ls hR hF f0 f1 f2 f3 hC hP hD hS hl
    unfold K_X12_next_85_140 at hC
    refine a_ic F (3 : Int32) dX12_next_140 (by decide) ?_
    refine lv_goto (tgt := 145) F.1 F.2.1 dX12_next_141 (by decide) ?_
    have g45 : (0 : Int) ≤ (u.1 85 4).toInt ∧ (u.1 85 4).toInt ≤ 940 := hR 85 4
    exact L145 x1 (3 : Int32) _ _ _ _ hR hF (by omega) (by decide) (by omega : (0 : Int) ≤ (u.1 85 4).toInt ∧ (u.1 85 4).toInt ≤ 939) (by omega : (0 : Int) ≤ (u.1 85 12).toInt ∧ (u.1 85 12).toInt ≤ 940) (by omega : (0 : Int) ≤ (u.1 85 13).toInt ∧ (u.1 85 13).toInt ≤ 0) hC hP hD hS (lv_sub hl [0, 1] rfl)
  have L80 : ∀ (u : ac_U) (H : Heap) (locs : List Loc) (ls : Array Slot), ac_R rg u → ac_Fr [(85, some 4), (85, some 11), (85, some 12), (85, some 13), (85, some 14)] u0 u → (0 : Int) ≤ (u.1 85 3).toInt ∧ (u.1 85 3).toInt ≤ 940 → (0 : Int) ≤ (u.1 85 12).toInt ∧ (u.1 85 12).toInt ≤ 940 → (0 : Int) ≤ (u.1 85 13).toInt ∧ (u.1 85 13).toInt ≤ 0 → RR = (K_X12_next_85_80 u0 u) → va_P (dC, dI) vwCl (ac_w ad cA (TT nF) u) H → va_D A (ac_w ad cA (TT nF) u) → va_S A s.heap H locs → lv_has ls 4 [(0, .ref (ad 85))] → W p l e (ac_rm 2) s m [.ref (ad 85)].toArray below meth c H locs 0 0 (MQ below (va_Qv (fun (u : ac_U) => ac_R rg u ∧ ac_Fr [(85, some 4), (85, some 11), (85, some 12), (85, some 13), (85, some 14)] u0 u ∧ f_X12_next_85 u0 = u) (ac_B (dC, dI) vwCl (ac_ty cA) ad cA (TT nF) A) A) [.ref (ad 85)].toArray s 0 0 A) (F0 m 80 ls []) := by
    intro u H locs ls hR hF f0 f1 f2 hC hP hD hS hl
    unfold K_X12_next_85_80 at hC
    refine lv_aload_n F.1 F.2.1 dX12_next_80 rfl (lv_at hl 0 rfl) ?_
    refine a_Vi F hml hl.1 hA hP hD hS (As := []) (x_X12_peek_85 l dC dI ad cA nF _  hR) (cs_RX12_145 (d := 1) F.2.2.1 (by decide)) tc_85 rfl rfl rfl rfl (Nat.le_of_ble_eq_true rfl) dX12_next_81 ⟨Nat.le_refl 0, Nat.le_refl 0⟩ (fun r46 uN46 H locs hq hP hD hS => ?_)
    obtain ⟨hu46, gr46, xr46, hz46⟩ := hq
    rw [hu46] at hP hD
    have g47 : (0 : Int) ≤ (u.1 85 4).toInt ∧ (u.1 85 4).toInt ≤ 940 := hR 85 4
    have g48 : (0 : Int) ≤ (u.1 85 3).toInt ∧ (u.1 85 3).toInt ≤ 940 := hR 85 3
    have xr46 : 0 ≤ r46.toInt → (u.1 85 4).toInt < (u.1 85 3).toInt := xr46
    have hC := vl_eq hC hz46.symm
    refine lv_istore_n (lv' := [(1, .int r46), (0, .ref (ad 85))]) F.1 F.2.1 dX12_next_84 rfl hl (by decide) rfl (fun ls hl => ?_)
    refine lv_iload_n F.1 F.2.1 dX12_next_85 rfl (lv_at hl 0 rfl) ?_
    refine z_ge F 95 dX12_next_86 (by decide) rfl (fun c49 => ?_) (fun c49 => ?_)
    · have hC := hC.trans (if_pos c49)
      refine lv_iload_n F.1 F.2.1 dX12_next_95 rfl (lv_at hl 0 rfl) ?_
      refine a_Si F hml hl.1 hA hP hD hS (As := [.int r46]) (x_X12_isSmall l dC dI ad cA nF _ r46 hR (by omega)) (cs_RX12_158 (d := 1) F.2.2.1 (by decide)) rfl rfl (Nat.le_of_ble_eq_true rfl) dX12_next_96 ⟨Nat.le_refl 0, Nat.le_refl 0⟩ (fun r50 uN50 H locs hq hP hD hS => ?_)
      obtain ⟨hu50, gr50, xr50, hz50⟩ := hq
      rw [hu50] at hP hD
      have xr50 : r50.toInt ≠ 0 → 97 ≤ r46.toInt ∧ r46.toInt ≤ 122 := xr50
      have hC := vl_eq hC hz50.symm
      refine z_ne F 164 dX12_next_99 (by decide) rfl (fun c51 => ?_) (fun c51 => ?_)
      · have hC := hC.trans (if_pos c51)
        exact L164 r46 _ _ _ _ hR hF (by omega) (by omega : (0 : Int) ≤ (u.1 85 4).toInt ∧ (u.1 85 4).toInt ≤ 939) (by omega : (0 : Int) ≤ (u.1 85 12).toInt ∧ (u.1 85 12).toInt ≤ 940) (by omega : (0 : Int) ≤ (u.1 85 13).toInt ∧ (u.1 85 13).toInt ≤ 0) hC hP hD hS (lv_sub hl [1, 0] rfl)
      · have hC := hC.trans (if_neg (by omega))
        refine lv_iload_n F.1 F.2.1 dX12_next_102 rfl (lv_at hl 0 rfl) ?_
        refine a_Si F hml hl.1 hA hP hD hS (As := [.int r46]) (x_X12_isDigit l dC dI ad cA nF _ r46 hR (by omega)) (cs_RX12_162 (d := 1) F.2.2.1 (by decide)) rfl rfl (Nat.le_of_ble_eq_true rfl) dX12_next_103 ⟨Nat.le_refl 0, Nat.le_refl 0⟩ (fun r52 uN52 H locs hq hP hD hS => ?_)
        obtain ⟨hu52, gr52, xr52, hz52⟩ := hq
        rw [hu52] at hP hD
        have xr52 : r52.toInt ≠ 0 → 48 ≤ r46.toInt ∧ r46.toInt ≤ 57 := xr52
        have hC := vl_eq hC hz52.symm
        refine z_ne F 164 dX12_next_106 (by decide) rfl (fun c53 => ?_) (fun c53 => ?_)
        · have hC := hC.trans (if_pos c53)
          exact L164 r46 _ _ _ _ hR hF (by omega) (by omega : (0 : Int) ≤ (u.1 85 4).toInt ∧ (u.1 85 4).toInt ≤ 939) (by omega : (0 : Int) ≤ (u.1 85 12).toInt ∧ (u.1 85 12).toInt ≤ 940) (by omega : (0 : Int) ≤ (u.1 85 13).toInt ∧ (u.1 85 13).toInt ≤ 0) hC hP hD hS (lv_sub hl [1, 0] rfl)
        · have hC := hC.trans (if_neg (by omega))
          refine lv_aload_n F.1 F.2.1 dX12_next_109 rfl (lv_at hl 1 rfl) ?_
          refine lv_iload_n F.1 F.2.1 dX12_next_110 rfl (lv_at hl 0 rfl) ?_
          refine a_bp F (59 : Int32) dX12_next_111 (by decide) ?_
          refine b_eq F 140 dX12_next_113 (by decide) rfl ic_59 (fun c54 => ?_) (fun c54 => ?_)
          · have hC := hC.trans (if_pos c54)
            exact L140 r46 _ _ _ _ hR hF (by omega) (by omega : (0 : Int) ≤ (u.1 85 4).toInt ∧ (u.1 85 4).toInt ≤ 939) (by omega : (0 : Int) ≤ (u.1 85 12).toInt ∧ (u.1 85 12).toInt ≤ 940) (by omega : (0 : Int) ≤ (u.1 85 13).toInt ∧ (u.1 85 13).toInt ≤ 0) hC hP hD hS (lv_sub hl [1, 0] rfl)
          · have hC := hC.trans (if_neg (by omega))
            refine lv_iload_n F.1 F.2.1 dX12_next_116 rfl (lv_at hl 0 rfl) ?_
            refine a_bp F (40 : Int32) dX12_next_117 (by decide) ?_
            refine b_eq F 140 dX12_next_119 (by decide) rfl ic_40 (fun c55 => ?_) (fun c55 => ?_)
            · have hC := hC.trans (if_pos c55)
              exact L140 r46 _ _ _ _ hR hF (by omega) (by omega : (0 : Int) ≤ (u.1 85 4).toInt ∧ (u.1 85 4).toInt ≤ 939) (by omega : (0 : Int) ≤ (u.1 85 12).toInt ∧ (u.1 85 12).toInt ≤ 940) (by omega : (0 : Int) ≤ (u.1 85 13).toInt ∧ (u.1 85 13).toInt ≤ 0) hC hP hD hS (lv_sub hl [1, 0] rfl)
            · have hC := hC.trans (if_neg (by omega))
              refine lv_iload_n F.1 F.2.1 dX12_next_122 rfl (lv_at hl 0 rfl) ?_
              refine a_bp F (41 : Int32) dX12_next_123 (by decide) ?_
              refine b_eq F 140 dX12_next_125 (by decide) rfl ic_41 (fun c56 => ?_) (fun c56 => ?_)
              · have hC := hC.trans (if_pos c56)
                exact L140 r46 _ _ _ _ hR hF (by omega) (by omega : (0 : Int) ≤ (u.1 85 4).toInt ∧ (u.1 85 4).toInt ≤ 939) (by omega : (0 : Int) ≤ (u.1 85 12).toInt ∧ (u.1 85 12).toInt ≤ 940) (by omega : (0 : Int) ≤ (u.1 85 13).toInt ∧ (u.1 85 13).toInt ≤ 0) hC hP hD hS (lv_sub hl [1, 0] rfl)
              · have hC := hC.trans (if_neg (by omega))
                refine lv_iload_n F.1 F.2.1 dX12_next_128 rfl (lv_at hl 0 rfl) ?_
                refine a_bp F (60 : Int32) dX12_next_129 (by decide) ?_
                refine b_lt F 144 dX12_next_131 (by decide) rfl ic_60 (fun c57 => ?_) (fun c57 => ?_)
                · have hC := hC.trans (if_pos c57)
                  exact L144 r46 _ _ _ _ hR hF (by omega) (by omega : (0 : Int) ≤ (u.1 85 4).toInt ∧ (u.1 85 4).toInt ≤ 939) (by omega : (0 : Int) ≤ (u.1 85 12).toInt ∧ (u.1 85 12).toInt ≤ 940) (by omega : (0 : Int) ≤ (u.1 85 13).toInt ∧ (u.1 85 13).toInt ≤ 0) hC hP hD hS (lv_sub hl [1, 0] rfl)
                · have hC := hC.trans (if_neg (by omega))
                  refine lv_iload_n F.1 F.2.1 dX12_next_134 rfl (lv_at hl 0 rfl) ?_
                  refine a_bp F (62 : Int32) dX12_next_135 (by decide) ?_
                  refine b_gt F 144 dX12_next_137 (by decide) rfl ic_62 (fun c58 => ?_) (fun c58 => ?_)
                  · have hC := hC.trans (if_pos c58)
                    exact L144 r46 _ _ _ _ hR hF (by omega) (by omega : (0 : Int) ≤ (u.1 85 4).toInt ∧ (u.1 85 4).toInt ≤ 939) (by omega : (0 : Int) ≤ (u.1 85 12).toInt ∧ (u.1 85 12).toInt ≤ 940) (by omega : (0 : Int) ≤ (u.1 85 13).toInt ∧ (u.1 85 13).toInt ≤ 0) hC hP hD hS (lv_sub hl [1, 0] rfl)
                  · have hC := hC.trans (if_neg (by omega))
                    exact L140 r46 _ _ _ _ hR hF (by omega) (by omega : (0 : Int) ≤ (u.1 85 4).toInt ∧ (u.1 85 4).toInt ≤ 939) (by omega : (0 : Int) ≤ (u.1 85 12).toInt ∧ (u.1 85 12).toInt ≤ 940) (by omega : (0 : Int) ≤ (u.1 85 13).toInt ∧ (u.1 85 13).toInt ≤ 0) hC hP hD hS (lv_sub hl [1, 0] rfl)
    · have hC := hC.trans (if_neg (by omega))
      refine lv_aload_n F.1 F.2.1 dX12_next_89 rfl (lv_at hl 1 rfl) ?_
      refine a_ic F (0 : Int32) dX12_next_90 (by decide) ?_
      refine a_puti F inX12 tyX12 tyX12_ok nmX12 hP hD hS 85 11 tc_85 rfl rfl (by decide) q1482 (fun _ h9 => h9) rfl (ty := .int) (tyX12_ok 11 (by decide)) rfl rfl dX12_next_91 (fun H locs hP hD hS => ?_)
      have hR := hR.si (c := 85) (k := 11) (v := (0 : Int32)) (by rw [ic_0]; exact (by omega : (0 : Int) ≤ (0 : Int) ∧ (0 : Int) ≤ 4))
      have hF := hF.si (c := 85) (k := 11) (v := (0 : Int32)) rfl
      exact a_retv F hr hlocks hP hD hS dX12_next_94 ⟨hR, hF, hRR.symm.trans hC⟩
  have L0 : ∀ (n0 : Nat) (u : ac_U) (H : Heap) (locs : List Loc) (ls : Array Slot), ac_R rg u → ac_Fr [(85, some 4), (85, some 11), (85, some 12), (85, some 13), (85, some 14)] u0 u → 940 - (u.1 85 4).toInt < (n0 : Int) → RR = (K_X12_next_85_0 u0 n0 u) → va_P (dC, dI) vwCl (ac_w ad cA (TT nF) u) H → va_D A (ac_w ad cA (TT nF) u) → va_S A s.heap H locs → lv_has ls 4 [(0, .ref (ad 85))] → W p l e (ac_rm 2) s m [.ref (ad 85)].toArray below meth c H locs 0 0 (MQ below (va_Qv (fun (u : ac_U) => ac_R rg u ∧ ac_Fr [(85, some 4), (85, some 11), (85, some 12), (85, some 13), (85, some 14)] u0 u ∧ f_X12_next_85 u0 = u) (ac_B (dC, dI) vwCl (ac_ty cA) ad cA (TT nF) A) A) [.ref (ad 85)].toArray s 0 0 A) (F0 m 0 ls []) := by
    intro n0
    induction n0 with
    | zero => intro u H locs ls hR hF hn0 hC hP hD hS hl; have gz0 : (0 : Int) ≤ (u.1 85 4).toInt ∧ (u.1 85 4).toInt ≤ 940 := hR 85 4; exfalso; omega
    | succ n0 ih0 =>
      intro u H locs ls hR hF hn0 hC hP hD hS hl
      have hC : RR = K_X12_next_85_0_b (K_X12_next_85_0 u0 n0) u0 u := hC
      have L18 : ∀ (u : ac_U) (H : Heap) (locs : List Loc) (ls : Array Slot), ac_R rg u → ac_Fr [(85, some 4), (85, some 11), (85, some 12), (85, some 13), (85, some 14)] u0 u → (0 : Int) ≤ (u.1 85 4).toInt ∧ (u.1 85 4).toInt ≤ 939 → 940 - (u.1 85 4).toInt < ((n0 : Nat) : Int) + 1 → RR = (K_X12_next_85_18 (K_X12_next_85_0 u0 n0) u0 u) → va_P (dC, dI) vwCl (ac_w ad cA (TT nF) u) H → va_D A (ac_w ad cA (TT nF) u) → va_S A s.heap H locs → lv_has ls 4 [(0, .ref (ad 85))] → W p l e (ac_rm 2) s m [.ref (ad 85)].toArray below meth c H locs 0 0 (MQ below (va_Qv (fun (u : ac_U) => ac_R rg u ∧ ac_Fr [(85, some 4), (85, some 11), (85, some 12), (85, some 13), (85, some 14)] u0 u ∧ f_X12_next_85 u0 = u) (ac_B (dC, dI) vwCl (ac_ty cA) ad cA (TT nF) A) A) [.ref (ad 85)].toArray s 0 0 A) (F0 m 18 ls []) := by
        intro u H locs ls hR hF f0 f1 hC hP hD hS hl
        unfold K_X12_next_85_18 at hC
        refine lv_aload_n F.1 F.2.1 dX12_next_18 rfl (lv_at hl 0 rfl) ?_
        refine lv_dup F.1 F.2.1 dX12_next_19 rfl ?_
        have g59 : (0 : Int) ≤ (u.1 85 4).toInt ∧ (u.1 85 4).toInt ≤ 940 := hR 85 4
        refine a_geti F inX12 hP 85 4 tc_85 rfl rfl (by decide) q1475 (fun _ h9 => h9) (v := (u.1 85 4)) rfl dX12_next_20 ?_
        refine a_ic F (1 : Int32) dX12_next_23 (by decide) ?_
        refine a_iaddX F dX12_next_24 rfl ic_1 (by omega) (fun v60 hv60 yv60 => ?_)
        have hC := vl_eq hC yv60
        refine a_puti F inX12 tyX12 tyX12_ok nmX12 hP hD hS 85 4 tc_85 rfl rfl (by decide) q1475 (fun _ h9 => h9) rfl (ty := .int) (tyX12_ok 4 (by decide)) rfl rfl dX12_next_25 (fun H locs hP hD hS => ?_)
        have hR := hR.si (c := 85) (k := 4) (v := v60) (by omega : (0 : Int) ≤ v60.toInt ∧ v60.toInt ≤ 940)
        have hF := hF.si (c := 85) (k := 4) (v := v60) rfl
        refine lv_goto (tgt := 0) F.1 F.2.1 dX12_next_28 (by decide) ?_
        exact ih0 _ _ _ _ hR hF (by omega : 940 - v60.toInt < ((n0 : Nat) : Int)) hC hP hD hS (lv_sub hl [0] rfl)
      unfold K_X12_next_85_0_b at hC
      refine lv_aload_n F.1 F.2.1 dX12_next_0 rfl (lv_at hl 0 rfl) ?_
      refine a_Vi F hml hl.1 hA hP hD hS (As := []) (x_X12_peek_85 l dC dI ad cA nF _  hR) (cs_RX12_145 (d := 1) F.2.2.1 (by decide)) tc_85 rfl rfl rfl rfl (Nat.le_of_ble_eq_true rfl) dX12_next_1 ⟨Nat.le_refl 0, Nat.le_refl 0⟩ (fun r61 uN61 H locs hq hP hD hS => ?_)
      obtain ⟨hu61, gr61, xr61, hz61⟩ := hq
      rw [hu61] at hP hD
      have g62 : (0 : Int) ≤ (u.1 85 4).toInt ∧ (u.1 85 4).toInt ≤ 940 := hR 85 4
      have g63 : (0 : Int) ≤ (u.1 85 3).toInt ∧ (u.1 85 3).toInt ≤ 940 := hR 85 3
      have xr61 : 0 ≤ r61.toInt → (u.1 85 4).toInt < (u.1 85 3).toInt := xr61
      have hC := vl_eq hC hz61.symm
      refine a_bp F (32 : Int32) dX12_next_4 (by decide) ?_
      refine b_eq F 18 dX12_next_6 (by decide) rfl ic_32 (fun c64 => ?_) (fun c64 => ?_)
      · have hC := hC.trans (if_pos c64)
        exact L18 _ _ _ _ hR hF (by omega : (0 : Int) ≤ (u.1 85 4).toInt ∧ (u.1 85 4).toInt ≤ 939) (by omega : 940 - (u.1 85 4).toInt < ((n0 : Nat) : Int) + 1) hC hP hD hS (lv_sub hl [0] rfl)
      · have hC := hC.trans (if_neg (by omega))
        refine lv_aload_n F.1 F.2.1 dX12_next_9 rfl (lv_at hl 0 rfl) ?_
        refine a_Vi F hml hl.1 hA hP hD hS (As := []) (x_X12_peek_85 l dC dI ad cA nF _  hR) (cs_RX12_145 (d := 1) F.2.2.1 (by decide)) tc_85 rfl rfl rfl rfl (Nat.le_of_ble_eq_true rfl) dX12_next_10 ⟨Nat.le_refl 0, Nat.le_refl 0⟩ (fun r65 uN65 H locs hq hP hD hS => ?_)
        obtain ⟨hu65, gr65, xr65, hz65⟩ := hq
        rw [hu65] at hP hD
        have xr65 : 0 ≤ r65.toInt → (u.1 85 4).toInt < (u.1 85 3).toInt := xr65
        have hC := vl_eq hC hz65.symm
        refine a_bp F (10 : Int32) dX12_next_13 (by decide) ?_
        refine b_ne F 31 dX12_next_15 (by decide) rfl ic_10 (fun c66 => ?_) (fun c66 => ?_)
        · have hC := hC.trans (if_pos c66)
          refine lv_aload_n F.1 F.2.1 dX12_next_31 rfl (lv_at hl 0 rfl) ?_
          refine lv_aload_n F.1 F.2.1 dX12_next_32 rfl (lv_at hl 0 rfl) ?_
          refine a_geti F inX12 hP 85 4 tc_85 rfl rfl (by decide) q1475 (fun _ h9 => h9) (v := (u.1 85 4)) (rfl) dX12_next_33 ?_
          refine a_puti F inX12 tyX12 tyX12_ok nmX12 hP hD hS 85 12 tc_85 rfl rfl (by decide) q1483 (fun _ h9 => h9) rfl (ty := .int) (tyX12_ok 12 (by decide)) rfl rfl dX12_next_36 (fun H locs hP hD hS => ?_)
          have hR := hR.si (c := 85) (k := 12) (v := (u.1 85 4)) ⟨i_lo _, i_hi _⟩
          have hF := hF.si (c := 85) (k := 12) (v := (u.1 85 4)) rfl
          refine lv_aload_n F.1 F.2.1 dX12_next_39 rfl (lv_at hl 0 rfl) ?_
          refine a_ic F (0 : Int32) dX12_next_40 (by decide) ?_
          refine a_puti F inX12 tyX12 tyX12_ok nmX12 hP hD hS 85 13 tc_85 rfl rfl (by decide) q1484 (fun _ h9 => h9) rfl (ty := .int) (tyX12_ok 13 (by decide)) rfl rfl dX12_next_41 (fun H locs hP hD hS => ?_)
          have hR := hR.si (c := 85) (k := 13) (v := (0 : Int32)) ⟨i_lo _, i_hi _⟩
          have hF := hF.si (c := 85) (k := 13) (v := (0 : Int32)) rfl
          refine lv_aload_n F.1 F.2.1 dX12_next_44 rfl (lv_at hl 0 rfl) ?_
          refine a_geti F inX12 hP 85 3 tc_85 rfl rfl (by decide) q1474 (fun _ h9 => h9) (v := (u.1 85 3)) (rfl) dX12_next_45 ?_
          refine lv_aload_n F.1 F.2.1 dX12_next_48 rfl (lv_at hl 0 rfl) ?_
          have g67 : (0 : Int) ≤ (u.1 85 5).toInt ∧ (u.1 85 5).toInt ≤ 900 := hR 85 5
          refine a_geti F inX12 hP 85 5 tc_85 rfl rfl (by decide) q1476 (fun _ h9 => h9) (v := (u.1 85 5)) rfl dX12_next_49 ?_
          refine b_le F 80 dX12_next_52 (by decide) rfl rfl (fun c68 => ?_) (fun c68 => ?_)
          · have hC := hC.trans (if_pos c68)
            exact L80 _ _ _ _ hR hF (by omega : (0 : Int) ≤ (u.1 85 3).toInt ∧ (u.1 85 3).toInt ≤ 940) (by omega : (0 : Int) ≤ (u.1 85 4).toInt ∧ (u.1 85 4).toInt ≤ 940) (by omega : (0 : Int) ≤ (0 : Int) ∧ (0 : Int) ≤ 0) hC hP hD hS (lv_sub hl [0] rfl)
          · have hC := hC.trans (if_neg (by omega))
            refine lv_aload_n F.1 F.2.1 dX12_next_55 rfl (lv_at hl 0 rfl) ?_
            refine a_geti F inX12 hP 85 4 tc_85 rfl rfl (by decide) q1475 (fun _ h9 => h9) (v := (u.1 85 4)) (rfl) dX12_next_56 ?_
            refine lv_aload_n F.1 F.2.1 dX12_next_59 rfl (lv_at hl 0 rfl) ?_
            refine a_geti F inX12 hP 85 5 tc_85 rfl rfl (by decide) q1476 (fun _ h9 => h9) (v := (u.1 85 5)) (rfl) dX12_next_60 ?_
            refine b_lt F 80 dX12_next_63 (by decide) rfl rfl (fun c69 => ?_) (fun c69 => ?_)
            · have hC := hC.trans (if_pos c69)
              exact L80 _ _ _ _ hR hF (by omega : (0 : Int) ≤ (u.1 85 3).toInt ∧ (u.1 85 3).toInt ≤ 940) (by omega : (0 : Int) ≤ (u.1 85 4).toInt ∧ (u.1 85 4).toInt ≤ 940) (by omega : (0 : Int) ≤ (0 : Int) ∧ (0 : Int) ≤ 0) hC hP hD hS (lv_sub hl [0] rfl)
            · have hC := hC.trans (if_neg (by omega))
              refine lv_aload_n F.1 F.2.1 dX12_next_66 rfl (lv_at hl 0 rfl) ?_
              refine lv_aload_n F.1 F.2.1 dX12_next_67 rfl (lv_at hl 0 rfl) ?_
              refine a_geti F inX12 hP 85 5 tc_85 rfl rfl (by decide) q1476 (fun _ h9 => h9) (v := (u.1 85 5)) (rfl) dX12_next_68 ?_
              refine a_puti F inX12 tyX12 tyX12_ok nmX12 hP hD hS 85 12 tc_85 rfl rfl (by decide) q1483 (fun _ h9 => h9) rfl (ty := .int) (tyX12_ok 12 (by decide)) rfl rfl dX12_next_71 (fun H locs hP hD hS => ?_)
              have hR := hR.si (c := 85) (k := 12) (v := (u.1 85 5)) ⟨i_lo _, i_hi _⟩
              have hF := hF.si (c := 85) (k := 12) (v := (u.1 85 5)) rfl
              refine lv_aload_n F.1 F.2.1 dX12_next_74 rfl (lv_at hl 0 rfl) ?_
              refine a_ic F (4 : Int32) dX12_next_75 (by decide) ?_
              refine a_puti F inX12 tyX12 tyX12_ok nmX12 hP hD hS 85 11 tc_85 rfl rfl (by decide) q1482 (fun _ h9 => h9) rfl (ty := .int) (tyX12_ok 11 (by decide)) rfl rfl dX12_next_76 (fun H locs hP hD hS => ?_)
              have hR := hR.si (c := 85) (k := 11) (v := (4 : Int32)) (by rw [ic_4]; exact (by omega : (0 : Int) ≤ (4 : Int) ∧ (4 : Int) ≤ 4))
              have hF := hF.si (c := 85) (k := 11) (v := (4 : Int32)) rfl
              exact a_retv F hr hlocks hP hD hS dX12_next_79 ⟨hR, hF, hRR.symm.trans hC⟩
        · have hC := hC.trans (if_neg (by omega))
          exact L18 _ _ _ _ hR hF (by omega : (0 : Int) ≤ (u.1 85 4).toInt ∧ (u.1 85 4).toInt ≤ 939) (by omega : 940 - (u.1 85 4).toInt < ((n0 : Nat) : Int) + 1) hC hP hD hS (lv_sub hl [0] rfl)
  have hC : RR = f_X12_next_85 u0 := hRR
  unfold f_X12_next_85 at hC
  have g70 : (0 : Int) ≤ (u0.1 85 4).toInt ∧ (u0.1 85 4).toInt ≤ 940 := hR 85 4
  exact L0 942 _ _ _ _ hR hF (by omega : 940 - (u0.1 85 4).toInt < (942 : Int)) hC hP hD hS (lv_sub hl [0] rfl)
def K_X12_find_85_2_b (B2 : Int32 → Int32) (u0 : ac_U) (p0 : Int32) (p1 : Int32) (x3 : Int32) : Int32 := (if p1.toInt ≤ x3.toInt then (-1 : Int32) else (vl (p0 + x3) (fun (v2 : Int32) => (vl (u0.2 90 v2.toNatClampNeg) (fun (w3 : Int64) => (vl (lg_cmp w3 (u0.2 85 17)) (fun (v4 : Int32) => (if v4.toInt ≠ 0 then (vl (x3 + Int32.ofInt (1)) (fun (v6 : Int32) => (B2 v6))) else x3))))))))
def K_X12_find_85_2 (u0 : ac_U) (p0 : Int32) (p1 : Int32) : Nat → Int32 → Int32
  | 0 => fun x3 => 0
  | n + 1 => fun x3 => K_X12_find_85_2_b (K_X12_find_85_2 u0 p0 p1 n) u0 p0 p1 x3
def f_X12_find_85 (u0 : ac_U) (p0 : Int32) (p1 : Int32) : Int32 := (K_X12_find_85_2 u0 p0 p1 14 (0 : Int32))
set_option maxHeartbeats 600000 in
set_option maxRecDepth 100000 in
theorem x_X12_find_85 (l : Launch) (dC : Nat → ClassId) (dI : Nat → Nat → Nat) (ad : Nat → Nat) (cA : Nat → ClassId) (nF : Nat) (u0 : ac_U) (p0 : Int32) (p1 : Int32) (hR : ac_R rg u0) (hp0 : (0 : Int) ≤ p0.toInt ∧ p0.toInt ≤ 44) (hp1 : (0 : Int) ≤ p1.toInt ∧ p1.toInt ≤ 12) (hh0 : p0.toInt + p1.toInt ≤ 52) : ac_Mi l yX12_find (.code yX12_find cX12_find 4 (some .int) :: TB) 1 (dC, dI) vwCl (ac_ty cA) ad cA (TT nF) [.ref (ad 85), .int p0, .int p1] u0 (fun (r : Int32) (u : ac_U) => u = u0 ∧ ((-1 : Int) ≤ r.toInt ∧ r.toInt ≤ 11) ∧ (-1 ≤ r.toInt ∧ r.toInt < p1.toInt ∨ r.toInt = -1) ∧ f_X12_find_85 u0 p0 p1 = r) := by
  refine ac_Mi.of (cc := cX12_find) (maxL := 4) (ret := (some .int)) (by decide) rfl (Nat.le_of_ble_eq_true rfl) ?_
  intro p e s m below meth c A ls F hml hr hlocks hA hP hD hS hl
  have F : ac_X p s m [.ref (ad 85), .int p0, .int p1].toArray c cX12_find RX12 TB (dC, dI) vwCl (ac_ty cA) := ⟨F.1, F.2.1, fun w h => F.2.2.1 w (List.mem_cons_of_mem _ h), F.2.2.2.1, F.2.2.2.2⟩
  have hl : lv_has ls 4 [(0, .ref (ad 85)), (1, .int p0), (2, .int p1)] := hl
  obtain ⟨RR, hRR⟩ : ∃ q, q = f_X12_find_85 u0 p0 p1 := ⟨_, rfl⟩
  have L2 : ∀ (n2 : Nat) (x3 : Int32) (H : Heap) (locs : List Loc) (ls : Array Slot), 12 - x3.toInt < (n2 : Int) → (0 : Int) ≤ x3.toInt ∧ x3.toInt ≤ 12 → RR = (K_X12_find_85_2 u0 p0 p1 n2 x3) → va_P (dC, dI) vwCl (ac_w ad cA (TT nF) u0) H → va_D A (ac_w ad cA (TT nF) u0) → va_S A s.heap H locs → lv_has ls 4 [(0, .ref (ad 85)), (1, .int p0), (2, .int p1), (3, .int x3)] → W p l e (ac_rm 1) s m [.ref (ad 85), .int p0, .int p1].toArray below meth c H locs 0 0 (MQ below (va_Qi (fun (r : Int32) (u : ac_U) => u = u0 ∧ ((-1 : Int) ≤ r.toInt ∧ r.toInt ≤ 11) ∧ (-1 ≤ r.toInt ∧ r.toInt < p1.toInt ∨ r.toInt = -1) ∧ f_X12_find_85 u0 p0 p1 = r) (ac_B (dC, dI) vwCl (ac_ty cA) ad cA (TT nF) A) A) [.ref (ad 85), .int p0, .int p1].toArray s 0 0 A) (F0 m 2 ls []) := by
    intro n2
    induction n2 with
    | zero => intro x3 H locs ls hn2 f0 hC hP hD hS hl; exfalso; omega
    | succ n2 ih2 =>
      intro x3 H locs ls hn2 f0 hC hP hD hS hl
      have hC : RR = K_X12_find_85_2_b (K_X12_find_85_2 u0 p0 p1 n2) u0 p0 p1 x3 := hC
      unfold K_X12_find_85_2_b at hC
      refine lv_iload_n F.1 F.2.1 dX12_find_2 rfl (lv_at hl 3 rfl) ?_
      refine lv_iload_n F.1 F.2.1 dX12_find_3 rfl (lv_at hl 2 rfl) ?_
      refine b_ge F 31 dX12_find_4 (by decide) rfl rfl (fun c1 => ?_) (fun c1 => ?_)
      · have hC := hC.trans (if_pos c1)
        refine a_ic F (-1 : Int32) dX12_find_31 (by decide) ?_
        exact a_reti F hr hlocks hP hD hS dX12_find_32 ⟨rfl, (by decide), (by first | exact (by omega : -1 ≤ (-1 : Int) ∧ (-1 : Int) < p1.toInt ∨ (-1 : Int) = -1) | (rw [ic_m1]; exact (by omega : -1 ≤ (-1 : Int) ∧ (-1 : Int) < p1.toInt ∨ (-1 : Int) = -1))), hRR.symm.trans hC⟩
      · have hC := hC.trans (if_neg (by omega))
        refine lv_aload_n F.1 F.2.1 dX12_find_7 rfl (lv_at hl 0 rfl) ?_
        refine a_getr F inX12 hP 85 9 tc_85 rfl rfl (by decide) q1480 (fun _ h9 => h9) dX12_find_8 ?_
        refine lv_iload_n F.1 F.2.1 dX12_find_11 rfl (lv_at hl 1 rfl) ?_
        refine lv_iload_n F.1 F.2.1 dX12_find_12 rfl (lv_at hl 3 rfl) ?_
        refine a_iaddX F dX12_find_13 rfl rfl (by omega) (fun v2 hv2 yv2 => ?_)
        have hC := vl_eq hC yv2
        refine a_lald F hP 90 tc_90 rfl (i_in rfl (by omega)) dX12_find_14 (fun w3 ew3 => ?_)
        have hC := vl_eq hC ew3.symm
        refine lv_aload_n F.1 F.2.1 dX12_find_15 rfl (lv_at hl 0 rfl) ?_
        refine a_getl F inX12 hP 85 17 tc_85 rfl rfl (by decide) q1488 (fun _ h9 => h9) (v := (u0.2 85 17)) rfl dX12_find_16 ?_
        refine W.lcmp F.1 F.2.1 dX12_find_19 ?_
        refine lv_topi (fun v4 yv4 => ?_)
        have hC := vl_eq hC yv4
        refine z_ne F 25 dX12_find_20 (by decide) rfl (fun c5 => ?_) (fun c5 => ?_)
        · have hC := hC.trans (if_pos c5)
          refine a_iincX F (k := 3) (fun v6 => [(3, .int v6), (0, .ref (ad 85)), (1, .int p0), (2, .int p1)]) dX12_find_25 hl rfl rfl (by decide) (by omega) (by decide) (fun _ => rfl) (fun v6 ls hv6 yv6 hl => ?_)
          have hC := vl_eq hC yv6
          refine lv_goto (tgt := 2) F.1 F.2.1 dX12_find_28 (by decide) ?_
          exact ih2 v6 _ _ _ (by omega) (by omega) hC hP hD hS (lv_sub hl [1, 2, 3, 0] rfl)
        · have hC := hC.trans (if_neg (by omega))
          refine lv_iload_n F.1 F.2.1 dX12_find_23 rfl (lv_at hl 3 rfl) ?_
          exact a_reti F hr hlocks hP hD hS dX12_find_24 ⟨rfl, (by omega : (-1 : Int) ≤ x3.toInt ∧ x3.toInt ≤ 11), (by omega : -1 ≤ x3.toInt ∧ x3.toInt < p1.toInt ∨ x3.toInt = -1), hRR.symm.trans hC⟩
  have hC : RR = f_X12_find_85 u0 p0 p1 := hRR
  unfold f_X12_find_85 at hC
  refine a_ic F (0 : Int32) dX12_find_0 (by decide) ?_
  refine lv_istore_n (lv' := [(3, .int (0 : Int32)), (0, .ref (ad 85)), (1, .int p0), (2, .int p1)]) F.1 F.2.1 dX12_find_1 rfl hl (by decide) rfl (fun ls hl => ?_)
  exact L2 14 (0 : Int32) _ _ _ (by decide) (by decide) hC hP hD hS (lv_sub hl [1, 2, 3, 0] rfl)
def K_X12_isName_85_45 (B16 : Int32 → Int32 → Int32) (u0 : ac_U) (x2 : Int32) (z0 : Int32) : Int32 := (vl (x2 + Int32.ofInt (1)) (fun (v1 : Int32) => (B16 z0 v1)))
def K_X12_isName_85_44 (B16 : Int32 → Int32 → Int32) (u0 : ac_U) (x2 : Int32) : Int32 := (K_X12_isName_85_45 B16 u0 x2 (0 : Int32))
def K_X12_isName_85_16_b (B16 : Int32 → Int32 → Int32) (u0 : ac_U) (x1 : Int32) (x2 : Int32) : Int32 := (if (27 : Int) ≤ x2.toInt then x1 else (if x1.toInt = 0 then (K_X12_isName_85_44 B16 u0 x2) else (vl (ctB x2.toNatClampNeg) (fun (w4 : Int64) => (vl (lg_cmp (u0.2 85 17) w4) (fun (v5 : Int32) => (if v5.toInt = 0 then (K_X12_isName_85_44 B16 u0 x2) else (K_X12_isName_85_45 B16 u0 x2 (1 : Int32)))))))))
def K_X12_isName_85_16 (u0 : ac_U) : Nat → Int32 → Int32 → Int32
  | 0 => fun x1 x2 => 0
  | n + 1 => fun x1 x2 => K_X12_isName_85_16_b (K_X12_isName_85_16 u0 n) u0 x1 x2
def K_X12_isName_85_13 (u0 : ac_U) (z0 : Int32) : Int32 := (K_X12_isName_85_16 u0 29 z0 (0 : Int32))
def f_X12_isName_85 (u0 : ac_U) : Int32 := (if (u0.1 85 11).toInt ≠ (1 : Int) then (K_X12_isName_85_13 u0 (0 : Int32)) else (K_X12_isName_85_13 u0 (1 : Int32)))
set_option maxHeartbeats 600000 in
set_option maxRecDepth 100000 in
theorem x_X12_isName_85 (l : Launch) (dC : Nat → ClassId) (dI : Nat → Nat → Nat) (ad : Nat → Nat) (cA : Nat → ClassId) (nF : Nat) (u0 : ac_U)  (hR : ac_R rg u0) : ac_Mi l yX12_isName (.code yX12_isName cX12_isName 3 (some .boolean) :: TB) 1 (dC, dI) vwCl (ac_ty cA) ad cA (TT nF) [.ref (ad 85)] u0 (fun (r : Int32) (u : ac_U) => u = u0 ∧ ((0 : Int) ≤ r.toInt ∧ r.toInt ≤ 1) ∧ f_X12_isName_85 u0 = r) := by
  refine ac_Mi.of (cc := cX12_isName) (maxL := 3) (ret := (some .boolean)) (by decide) rfl (Nat.le_of_ble_eq_true rfl) ?_
  intro p e s m below meth c A ls F hml hr hlocks hA hP hD hS hl
  have F : ac_X p s m [.ref (ad 85)].toArray c cX12_isName RX12 TB (dC, dI) vwCl (ac_ty cA) := ⟨F.1, F.2.1, fun w h => F.2.2.1 w (List.mem_cons_of_mem _ h), F.2.2.2.1, F.2.2.2.2⟩
  have hl : lv_has ls 3 [(0, .ref (ad 85))] := hl
  obtain ⟨RR, hRR⟩ : ∃ q, q = f_X12_isName_85 u0 := ⟨_, rfl⟩
  have L16 : ∀ (n16 : Nat) (x1 : Int32) (x2 : Int32) (H : Heap) (locs : List Loc) (ls : Array Slot), 27 - x2.toInt < (n16 : Int) → (0 : Int) ≤ x1.toInt ∧ x1.toInt ≤ 1 → (0 : Int) ≤ x2.toInt ∧ x2.toInt ≤ 27 → RR = (K_X12_isName_85_16 u0 n16 x1 x2) → va_P (dC, dI) vwCl (ac_w ad cA (TT nF) u0) H → va_D A (ac_w ad cA (TT nF) u0) → va_S A s.heap H locs → lv_has ls 3 [(0, .ref (ad 85)), (1, .int x1), (2, .int x2)] → W p l e (ac_rm 1) s m [.ref (ad 85)].toArray below meth c H locs 0 0 (MQ below (va_Qi (fun (r : Int32) (u : ac_U) => u = u0 ∧ ((0 : Int) ≤ r.toInt ∧ r.toInt ≤ 1) ∧ f_X12_isName_85 u0 = r) (ac_B (dC, dI) vwCl (ac_ty cA) ad cA (TT nF) A) A) [.ref (ad 85)].toArray s 0 0 A) (F0 m 16 ls []) := by
    intro n16
    induction n16 with
    | zero => intro x1 x2 H locs ls hn16 f0 f1 hC hP hD hS hl; exfalso; omega
    | succ n16 ih16 =>
      intro x1 x2 H locs ls hn16 f0 f1 hC hP hD hS hl
      have hC : RR = K_X12_isName_85_16_b (K_X12_isName_85_16 u0 n16) u0 x1 x2 := hC
      have L45 : ∀ (x2 : Int32) (z0 : Int32) (H : Heap) (locs : List Loc) (ls : Array Slot), (0 : Int) ≤ x2.toInt ∧ x2.toInt ≤ 26 → (0 : Int) ≤ z0.toInt ∧ z0.toInt ≤ 1 → 27 - x2.toInt + 0 < ((n16 : Nat) : Int) + 1 → RR = (K_X12_isName_85_45 (K_X12_isName_85_16 u0 n16) u0 x2 z0) → va_P (dC, dI) vwCl (ac_w ad cA (TT nF) u0) H → va_D A (ac_w ad cA (TT nF) u0) → va_S A s.heap H locs → lv_has ls 3 [(0, .ref (ad 85)), (2, .int x2)] → W p l e (ac_rm 1) s m [.ref (ad 85)].toArray below meth c H locs 0 0 (MQ below (va_Qi (fun (r : Int32) (u : ac_U) => u = u0 ∧ ((0 : Int) ≤ r.toInt ∧ r.toInt ≤ 1) ∧ f_X12_isName_85 u0 = r) (ac_B (dC, dI) vwCl (ac_ty cA) ad cA (TT nF) A) A) [.ref (ad 85)].toArray s 0 0 A) (F0 m 45 ls [.int z0]) := by
        intro x2 z0 H locs ls f0 f1 f2 hC hP hD hS hl
        unfold K_X12_isName_85_45 at hC
        refine lv_istore_n (lv' := [(1, .int z0), (0, .ref (ad 85)), (2, .int x2)]) F.1 F.2.1 dX12_isName_45 rfl hl (by decide) rfl (fun ls hl => ?_)
        refine a_iincX F (k := 2) (fun v1 => [(2, .int v1), (1, .int z0), (0, .ref (ad 85))]) dX12_isName_46 hl rfl rfl (by decide) (by omega) (by decide) (fun _ => rfl) (fun v1 ls hv1 yv1 hl => ?_)
        have hC := vl_eq hC yv1
        refine lv_goto (tgt := 16) F.1 F.2.1 dX12_isName_49 (by decide) ?_
        exact ih16 z0 v1 _ _ _ (by omega) (by omega) (by omega) hC hP hD hS (lv_sub hl [2, 1, 0] rfl)
      have L44 : ∀ (x2 : Int32) (H : Heap) (locs : List Loc) (ls : Array Slot), (0 : Int) ≤ x2.toInt ∧ x2.toInt ≤ 26 → 27 - x2.toInt + 0 < ((n16 : Nat) : Int) + 1 → RR = (K_X12_isName_85_44 (K_X12_isName_85_16 u0 n16) u0 x2) → va_P (dC, dI) vwCl (ac_w ad cA (TT nF) u0) H → va_D A (ac_w ad cA (TT nF) u0) → va_S A s.heap H locs → lv_has ls 3 [(0, .ref (ad 85)), (2, .int x2)] → W p l e (ac_rm 1) s m [.ref (ad 85)].toArray below meth c H locs 0 0 (MQ below (va_Qi (fun (r : Int32) (u : ac_U) => u = u0 ∧ ((0 : Int) ≤ r.toInt ∧ r.toInt ≤ 1) ∧ f_X12_isName_85 u0 = r) (ac_B (dC, dI) vwCl (ac_ty cA) ad cA (TT nF) A) A) [.ref (ad 85)].toArray s 0 0 A) (F0 m 44 ls []) := by
        intro x2 H locs ls f0 f1 hC hP hD hS hl
        unfold K_X12_isName_85_44 at hC
        refine a_ic F (0 : Int32) dX12_isName_44 (by decide) ?_
        exact L45 x2 (0 : Int32) _ _ _ (by omega) (by decide) (by omega) hC hP hD hS (lv_sub hl [0, 1] rfl)
      unfold K_X12_isName_85_16_b at hC
      refine lv_iload_n F.1 F.2.1 dX12_isName_16 rfl (lv_at hl 2 rfl) ?_
      refine a_bp F (27 : Int32) dX12_isName_17 (by decide) ?_
      refine b_ge F 52 dX12_isName_19 (by decide) rfl ic_27 (fun c2 => ?_) (fun c2 => ?_)
      · have hC := hC.trans (if_pos c2)
        refine lv_iload_n F.1 F.2.1 dX12_isName_52 rfl (lv_at hl 1 rfl) ?_
        exact a_retz F hr hlocks hP hD hS dX12_isName_53 (i_01 (by omega)) ⟨rfl, (by omega : (0 : Int) ≤ x1.toInt ∧ x1.toInt ≤ 1), hRR.symm.trans hC⟩
      · have hC := hC.trans (if_neg (by omega))
        refine lv_iload_n F.1 F.2.1 dX12_isName_22 rfl (lv_at hl 1 rfl) ?_
        refine z_eq F 44 dX12_isName_23 (by decide) rfl (fun c3 => ?_) (fun c3 => ?_)
        · have hC := hC.trans (if_pos c3)
          exact L44 x2 _ _ _ (by omega) (by omega) hC hP hD hS (lv_sub hl [0, 2] rfl)
        · have hC := hC.trans (if_neg (by omega))
          refine lv_aload_n F.1 F.2.1 dX12_isName_26 rfl (lv_at hl 0 rfl) ?_
          refine a_getl F inX12 hP 85 17 tc_85 rfl rfl (by decide) q1488 (fun _ h9 => h9) (v := (u0.2 85 17)) rfl dX12_isName_27 ?_
          refine lv_aload_n F.1 F.2.1 dX12_isName_30 rfl (lv_at hl 0 rfl) ?_
          refine a_getr F inX12 hP 85 10 tc_85 rfl rfl (by decide) q1481 (fun _ h9 => h9) dX12_isName_31 ?_
          refine lv_iload_n F.1 F.2.1 dX12_isName_34 rfl (lv_at hl 2 rfl) ?_
          refine a_laldB F hP 91 tc_91 rfl (i_in rfl (by omega)) dX12_isName_35 (fun w4 ew4 => ?_)
          have hC := vl_eq hC ew4.symm
          refine W.lcmp F.1 F.2.1 dX12_isName_36 ?_
          refine lv_topi (fun v5 yv5 => ?_)
          have hC := vl_eq hC yv5
          refine z_eq F 44 dX12_isName_37 (by decide) rfl (fun c6 => ?_) (fun c6 => ?_)
          · have hC := hC.trans (if_pos c6)
            exact L44 x2 _ _ _ (by omega) (by omega) hC hP hD hS (lv_sub hl [0, 2] rfl)
          · have hC := hC.trans (if_neg (by omega))
            refine a_ic F (1 : Int32) dX12_isName_40 (by decide) ?_
            refine lv_goto (tgt := 45) F.1 F.2.1 dX12_isName_41 (by decide) ?_
            exact L45 x2 (1 : Int32) _ _ _ (by omega) (by decide) (by omega) hC hP hD hS (lv_sub hl [0, 2] rfl)
  have L13 : ∀ (z0 : Int32) (H : Heap) (locs : List Loc) (ls : Array Slot), (0 : Int) ≤ z0.toInt ∧ z0.toInt ≤ 1 → RR = (K_X12_isName_85_13 u0 z0) → va_P (dC, dI) vwCl (ac_w ad cA (TT nF) u0) H → va_D A (ac_w ad cA (TT nF) u0) → va_S A s.heap H locs → lv_has ls 3 [(0, .ref (ad 85))] → W p l e (ac_rm 1) s m [.ref (ad 85)].toArray below meth c H locs 0 0 (MQ below (va_Qi (fun (r : Int32) (u : ac_U) => u = u0 ∧ ((0 : Int) ≤ r.toInt ∧ r.toInt ≤ 1) ∧ f_X12_isName_85 u0 = r) (ac_B (dC, dI) vwCl (ac_ty cA) ad cA (TT nF) A) A) [.ref (ad 85)].toArray s 0 0 A) (F0 m 13 ls [.int z0]) := by
    intro z0 H locs ls f0 hC hP hD hS hl
    unfold K_X12_isName_85_13 at hC
    refine lv_istore_n (lv' := [(1, .int z0), (0, .ref (ad 85))]) F.1 F.2.1 dX12_isName_13 rfl hl (by decide) rfl (fun ls hl => ?_)
    refine a_ic F (0 : Int32) dX12_isName_14 (by decide) ?_
    refine lv_istore_n (lv' := [(2, .int (0 : Int32)), (1, .int z0), (0, .ref (ad 85))]) F.1 F.2.1 dX12_isName_15 rfl hl (by decide) rfl (fun ls hl => ?_)
    exact L16 29 z0 (0 : Int32) _ _ _ (by decide) (by omega) (by decide) hC hP hD hS (lv_sub hl [2, 1, 0] rfl)
  have hC : RR = f_X12_isName_85 u0 := hRR
  unfold f_X12_isName_85 at hC
  refine lv_aload_n F.1 F.2.1 dX12_isName_0 rfl (lv_at hl 0 rfl) ?_
  have g7 : (0 : Int) ≤ (u0.1 85 11).toInt ∧ (u0.1 85 11).toInt ≤ 4 := hR 85 11
  refine a_geti F inX12 hP 85 11 tc_85 rfl rfl (by decide) q1482 (fun _ h9 => h9) (v := (u0.1 85 11)) rfl dX12_isName_1 ?_
  refine a_ic F (1 : Int32) dX12_isName_4 (by decide) ?_
  refine b_ne F 12 dX12_isName_5 (by decide) rfl ic_1 (fun c8 => ?_) (fun c8 => ?_)
  · have hC := hC.trans (if_pos c8)
    refine a_ic F (0 : Int32) dX12_isName_12 (by decide) ?_
    exact L13 (0 : Int32) _ _ _ (by decide) hC hP hD hS (lv_sub hl [0] rfl)
  · have hC := hC.trans (if_neg (by omega))
    refine a_ic F (1 : Int32) dX12_isName_8 (by decide) ?_
    refine lv_goto (tgt := 13) F.1 F.2.1 dX12_isName_9 (by decide) ?_
    exact L13 (1 : Int32) _ _ _ (by decide) hC hP hD hS (lv_sub hl [0] rfl)


def f_X10_fail_1 (u0 : ac_U) (p0 : Int32) : ac_U × Int32 := ((pI (pI u0 1 10 p0) 1 11 (u0.1 1 5)), (0 : Int32))
set_option maxHeartbeats 600000 in
set_option maxRecDepth 100000 in
theorem x_X10_fail_1 (l : Launch) (dC : Nat → ClassId) (dI : Nat → Nat → Nat) (ad : Nat → Nat) (cA : Nat → ClassId) (nF : Nat) (u0 : ac_U) (p0 : Int32) (hR : ac_R rg u0) (hp0 : (1 : Int) ≤ p0.toInt ∧ p0.toInt ≤ 4) : ac_Mi l yX10_fail (.code yX10_fail cX10_fail 2 (some .boolean) :: TB) 1 (dC, dI) vwCl (ac_ty cA) ad cA (TT nF) [.ref (ad 1), .int p0] u0 (fun (r : Int32) (u : ac_U) => ac_R rg u ∧ ac_Fr [(1, some 10), (1, some 11)] u0 u ∧ ((0 : Int) ≤ r.toInt ∧ r.toInt ≤ 0) ∧ f_X10_fail_1 u0 p0 = (u, r)) := by
  refine ac_Mi.of (cc := cX10_fail) (maxL := 2) (ret := (some .boolean)) (by decide) rfl (Nat.le_of_ble_eq_true rfl) ?_
  intro p e s m below meth c A ls F hml hr hlocks hA hP hD hS hl
  have F : ac_X p s m [.ref (ad 1), .int p0].toArray c cX10_fail RX10 TB (dC, dI) vwCl (ac_ty cA) := ⟨F.1, F.2.1, fun w h => F.2.2.1 w (List.mem_cons_of_mem _ h), F.2.2.2.1, F.2.2.2.2⟩
  have hl : lv_has ls 2 [(0, .ref (ad 1)), (1, .int p0)] := hl
  obtain ⟨RR, hRR⟩ : ∃ q, q = f_X10_fail_1 u0 p0 := ⟨_, rfl⟩
  have hF : ac_Fr [(1, some 10), (1, some 11)] u0 u0 := ac_Fr.rf
  have hC : RR = f_X10_fail_1 u0 p0 := hRR
  unfold f_X10_fail_1 at hC
  refine lv_aload_n F.1 F.2.1 dX10_fail_0 rfl (lv_at hl 0 rfl) ?_
  refine lv_iload_n F.1 F.2.1 dX10_fail_1 rfl (lv_at hl 1 rfl) ?_
  refine a_puti F inX10 tyX10 tyX10_ok nmX10 hP hD hS 1 10 tc_1 rfl rfl (by decide) q114 (fun _ h9 => h9) rfl (ty := .int) (tyX10_ok 10 (by decide)) rfl rfl dX10_fail_2 (fun H locs hP hD hS => ?_)
  have hR := hR.si (c := 1) (k := 10) (v := p0) (by omega : (0 : Int) ≤ p0.toInt ∧ p0.toInt ≤ 4)
  have hF := hF.si (c := 1) (k := 10) (v := p0) rfl
  refine lv_aload_n F.1 F.2.1 dX10_fail_5 rfl (lv_at hl 0 rfl) ?_
  refine lv_aload_n F.1 F.2.1 dX10_fail_6 rfl (lv_at hl 0 rfl) ?_
  have g1 : (0 : Int) ≤ (u0.1 1 5).toInt ∧ (u0.1 1 5).toInt ≤ 940 := hR 1 5
  refine a_geti F inX10 hP 1 5 tc_1 rfl rfl (by decide) q99 (fun _ h9 => h9) (v := (u0.1 1 5)) rfl dX10_fail_7 ?_
  refine a_puti F inX10 tyX10 tyX10_ok nmX10 hP hD hS 1 11 tc_1 rfl rfl (by decide) q116 (fun _ h9 => h9) rfl (ty := .int) (tyX10_ok 11 (by decide)) rfl rfl dX10_fail_10 (fun H locs hP hD hS => ?_)
  have hR := hR.si (c := 1) (k := 11) (v := (u0.1 1 5)) (by omega : (0 : Int) ≤ (u0.1 1 5).toInt ∧ (u0.1 1 5).toInt ≤ 940)
  have hF := hF.si (c := 1) (k := 11) (v := (u0.1 1 5)) rfl
  refine a_ic F (0 : Int32) dX10_fail_13 (by decide) ?_
  exact a_retz F hr hlocks hP hD hS dX10_fail_14 (Or.inl rfl) ⟨hR, hF, (by decide), hRR.symm.trans hC⟩
def K_X10_isDigit_16 (u0 : ac_U) (p0 : Int32) : Int32 := (0 : Int32)
def f_X10_isDigit (u0 : ac_U) (p0 : Int32) : Int32 := (if p0.toInt < (48 : Int) then (K_X10_isDigit_16 u0 p0) else (if (57 : Int) < p0.toInt then (K_X10_isDigit_16 u0 p0) else (1 : Int32)))
set_option maxHeartbeats 600000 in
set_option maxRecDepth 100000 in
theorem x_X10_isDigit (l : Launch) (dC : Nat → ClassId) (dI : Nat → Nat → Nat) (ad : Nat → Nat) (cA : Nat → ClassId) (nF : Nat) (u0 : ac_U) (p0 : Int32) (hR : ac_R rg u0) (hp0 : (-128 : Int) ≤ p0.toInt ∧ p0.toInt ≤ 127) : ac_Mi l yX10_isDigit (.code yX10_isDigit cX10_isDigit 1 (some .boolean) :: TB) 1 (dC, dI) vwCl (ac_ty cA) ad cA (TT nF) [.int p0] u0 (fun (r : Int32) (u : ac_U) => u = u0 ∧ ((0 : Int) ≤ r.toInt ∧ r.toInt ≤ 1) ∧ f_X10_isDigit u0 p0 = r) := by
  refine ac_Mi.of (cc := cX10_isDigit) (maxL := 1) (ret := (some .boolean)) (by decide) rfl (Nat.le_of_ble_eq_true rfl) ?_
  intro p e s m below meth c A ls F hml hr hlocks hA hP hD hS hl
  have F : ac_X p s m [.int p0].toArray c cX10_isDigit RX10 TB (dC, dI) vwCl (ac_ty cA) := ⟨F.1, F.2.1, fun w h => F.2.2.1 w (List.mem_cons_of_mem _ h), F.2.2.2.1, F.2.2.2.2⟩
  have hl : lv_has ls 1 [(0, .int p0)] := hl
  obtain ⟨RR, hRR⟩ : ∃ q, q = f_X10_isDigit u0 p0 := ⟨_, rfl⟩
  have L16 : ∀ (H : Heap) (locs : List Loc) (ls : Array Slot), RR = (K_X10_isDigit_16 u0 p0) → va_P (dC, dI) vwCl (ac_w ad cA (TT nF) u0) H → va_D A (ac_w ad cA (TT nF) u0) → va_S A s.heap H locs → lv_has ls 1 [] → W p l e (ac_rm 1) s m [.int p0].toArray below meth c H locs 0 0 (MQ below (va_Qi (fun (r : Int32) (u : ac_U) => u = u0 ∧ ((0 : Int) ≤ r.toInt ∧ r.toInt ≤ 1) ∧ f_X10_isDigit u0 p0 = r) (ac_B (dC, dI) vwCl (ac_ty cA) ad cA (TT nF) A) A) [.int p0].toArray s 0 0 A) (F0 m 16 ls []) := by
    intro H locs ls hC hP hD hS hl
    unfold K_X10_isDigit_16 at hC
    refine a_ic F (0 : Int32) dX10_isDigit_16 (by decide) ?_
    exact a_retz F hr hlocks hP hD hS dX10_isDigit_17 (Or.inl rfl) ⟨rfl, (by decide), hRR.symm.trans hC⟩
  have hC : RR = f_X10_isDigit u0 p0 := hRR
  unfold f_X10_isDigit at hC
  refine lv_iload_n F.1 F.2.1 dX10_isDigit_0 rfl (lv_at hl 0 rfl) ?_
  refine a_bp F (48 : Int32) dX10_isDigit_1 (by decide) ?_
  refine b_lt F 16 dX10_isDigit_3 (by decide) rfl ic_48 (fun c1 => ?_) (fun c1 => ?_)
  · have hC := hC.trans (if_pos c1)
    exact L16 _ _ _  hC hP hD hS (lv_sub hl [] rfl)
  · have hC := hC.trans (if_neg (by omega))
    refine lv_iload_n F.1 F.2.1 dX10_isDigit_6 rfl (lv_at hl 0 rfl) ?_
    refine a_bp F (57 : Int32) dX10_isDigit_7 (by decide) ?_
    refine b_gt F 16 dX10_isDigit_9 (by decide) rfl ic_57 (fun c2 => ?_) (fun c2 => ?_)
    · have hC := hC.trans (if_pos c2)
      exact L16 _ _ _  hC hP hD hS (lv_sub hl [] rfl)
    · have hC := hC.trans (if_neg (by omega))
      refine a_ic F (1 : Int32) dX10_isDigit_12 (by decide) ?_
      refine lv_goto (tgt := 17) F.1 F.2.1 dX10_isDigit_13 (by decide) ?_
      exact a_retz F hr hlocks hP hD hS dX10_isDigit_17 (Or.inr rfl) ⟨rfl, (by decide), hRR.symm.trans hC⟩
def K_X10_isLetter_16 (u0 : ac_U) (p0 : Int32) : Int32 := (0 : Int32)
def f_X10_isLetter (u0 : ac_U) (p0 : Int32) : Int32 := (if p0.toInt < (97 : Int) then (K_X10_isLetter_16 u0 p0) else (if (122 : Int) < p0.toInt then (K_X10_isLetter_16 u0 p0) else (1 : Int32)))
set_option maxHeartbeats 600000 in
set_option maxRecDepth 100000 in
theorem x_X10_isLetter (l : Launch) (dC : Nat → ClassId) (dI : Nat → Nat → Nat) (ad : Nat → Nat) (cA : Nat → ClassId) (nF : Nat) (u0 : ac_U) (p0 : Int32) (hR : ac_R rg u0) (hp0 : (-128 : Int) ≤ p0.toInt ∧ p0.toInt ≤ 127) : ac_Mi l yX10_isLetter (.code yX10_isLetter cX10_isLetter 1 (some .boolean) :: TB) 1 (dC, dI) vwCl (ac_ty cA) ad cA (TT nF) [.int p0] u0 (fun (r : Int32) (u : ac_U) => u = u0 ∧ ((0 : Int) ≤ r.toInt ∧ r.toInt ≤ 1) ∧ f_X10_isLetter u0 p0 = r) := by
  refine ac_Mi.of (cc := cX10_isLetter) (maxL := 1) (ret := (some .boolean)) (by decide) rfl (Nat.le_of_ble_eq_true rfl) ?_
  intro p e s m below meth c A ls F hml hr hlocks hA hP hD hS hl
  have F : ac_X p s m [.int p0].toArray c cX10_isLetter RX10 TB (dC, dI) vwCl (ac_ty cA) := ⟨F.1, F.2.1, fun w h => F.2.2.1 w (List.mem_cons_of_mem _ h), F.2.2.2.1, F.2.2.2.2⟩
  have hl : lv_has ls 1 [(0, .int p0)] := hl
  obtain ⟨RR, hRR⟩ : ∃ q, q = f_X10_isLetter u0 p0 := ⟨_, rfl⟩
  have L16 : ∀ (H : Heap) (locs : List Loc) (ls : Array Slot), RR = (K_X10_isLetter_16 u0 p0) → va_P (dC, dI) vwCl (ac_w ad cA (TT nF) u0) H → va_D A (ac_w ad cA (TT nF) u0) → va_S A s.heap H locs → lv_has ls 1 [] → W p l e (ac_rm 1) s m [.int p0].toArray below meth c H locs 0 0 (MQ below (va_Qi (fun (r : Int32) (u : ac_U) => u = u0 ∧ ((0 : Int) ≤ r.toInt ∧ r.toInt ≤ 1) ∧ f_X10_isLetter u0 p0 = r) (ac_B (dC, dI) vwCl (ac_ty cA) ad cA (TT nF) A) A) [.int p0].toArray s 0 0 A) (F0 m 16 ls []) := by
    intro H locs ls hC hP hD hS hl
    unfold K_X10_isLetter_16 at hC
    refine a_ic F (0 : Int32) dX10_isLetter_16 (by decide) ?_
    exact a_retz F hr hlocks hP hD hS dX10_isLetter_17 (Or.inl rfl) ⟨rfl, (by decide), hRR.symm.trans hC⟩
  have hC : RR = f_X10_isLetter u0 p0 := hRR
  unfold f_X10_isLetter at hC
  refine lv_iload_n F.1 F.2.1 dX10_isLetter_0 rfl (lv_at hl 0 rfl) ?_
  refine a_bp F (97 : Int32) dX10_isLetter_1 (by decide) ?_
  refine b_lt F 16 dX10_isLetter_3 (by decide) rfl ic_97 (fun c1 => ?_) (fun c1 => ?_)
  · have hC := hC.trans (if_pos c1)
    exact L16 _ _ _  hC hP hD hS (lv_sub hl [] rfl)
  · have hC := hC.trans (if_neg (by omega))
    refine lv_iload_n F.1 F.2.1 dX10_isLetter_6 rfl (lv_at hl 0 rfl) ?_
    refine a_bp F (122 : Int32) dX10_isLetter_7 (by decide) ?_
    refine b_gt F 16 dX10_isLetter_9 (by decide) rfl ic_122 (fun c2 => ?_) (fun c2 => ?_)
    · have hC := hC.trans (if_pos c2)
      exact L16 _ _ _  hC hP hD hS (lv_sub hl [] rfl)
    · have hC := hC.trans (if_neg (by omega))
      refine a_ic F (1 : Int32) dX10_isLetter_12 (by decide) ?_
      refine lv_goto (tgt := 17) F.1 F.2.1 dX10_isLetter_13 (by decide) ?_
      exact a_retz F hr hlocks hP hD hS dX10_isLetter_17 (Or.inr rfl) ⟨rfl, (by decide), hRR.symm.trans hC⟩
def K_X10_isCompare_18 (u0 : ac_U) (p0 : Int32) : Int32 := (1 : Int32)
def f_X10_isCompare (u0 : ac_U) (p0 : Int32) : Int32 := (if p0.toInt = (60 : Int) then (K_X10_isCompare_18 u0 p0) else (if p0.toInt = (61 : Int) then (K_X10_isCompare_18 u0 p0) else (if p0.toInt ≠ (62 : Int) then (0 : Int32) else (K_X10_isCompare_18 u0 p0))))
set_option maxHeartbeats 600000 in
set_option maxRecDepth 100000 in
theorem x_X10_isCompare (l : Launch) (dC : Nat → ClassId) (dI : Nat → Nat → Nat) (ad : Nat → Nat) (cA : Nat → ClassId) (nF : Nat) (u0 : ac_U) (p0 : Int32) (hR : ac_R rg u0) (hp0 : (-128 : Int) ≤ p0.toInt ∧ p0.toInt ≤ 127) : ac_Mi l yX10_isCompare (.code yX10_isCompare cX10_isCompare 1 (some .boolean) :: TB) 1 (dC, dI) vwCl (ac_ty cA) ad cA (TT nF) [.int p0] u0 (fun (r : Int32) (u : ac_U) => u = u0 ∧ ((0 : Int) ≤ r.toInt ∧ r.toInt ≤ 1) ∧ f_X10_isCompare u0 p0 = r) := by
  refine ac_Mi.of (cc := cX10_isCompare) (maxL := 1) (ret := (some .boolean)) (by decide) rfl (Nat.le_of_ble_eq_true rfl) ?_
  intro p e s m below meth c A ls F hml hr hlocks hA hP hD hS hl
  have F : ac_X p s m [.int p0].toArray c cX10_isCompare RX10 TB (dC, dI) vwCl (ac_ty cA) := ⟨F.1, F.2.1, fun w h => F.2.2.1 w (List.mem_cons_of_mem _ h), F.2.2.2.1, F.2.2.2.2⟩
  have hl : lv_has ls 1 [(0, .int p0)] := hl
  obtain ⟨RR, hRR⟩ : ∃ q, q = f_X10_isCompare u0 p0 := ⟨_, rfl⟩
  have L18 : ∀ (H : Heap) (locs : List Loc) (ls : Array Slot), RR = (K_X10_isCompare_18 u0 p0) → va_P (dC, dI) vwCl (ac_w ad cA (TT nF) u0) H → va_D A (ac_w ad cA (TT nF) u0) → va_S A s.heap H locs → lv_has ls 1 [] → W p l e (ac_rm 1) s m [.int p0].toArray below meth c H locs 0 0 (MQ below (va_Qi (fun (r : Int32) (u : ac_U) => u = u0 ∧ ((0 : Int) ≤ r.toInt ∧ r.toInt ≤ 1) ∧ f_X10_isCompare u0 p0 = r) (ac_B (dC, dI) vwCl (ac_ty cA) ad cA (TT nF) A) A) [.int p0].toArray s 0 0 A) (F0 m 18 ls []) := by
    intro H locs ls hC hP hD hS hl
    unfold K_X10_isCompare_18 at hC
    refine a_ic F (1 : Int32) dX10_isCompare_18 (by decide) ?_
    refine lv_goto (tgt := 23) F.1 F.2.1 dX10_isCompare_19 (by decide) ?_
    exact a_retz F hr hlocks hP hD hS dX10_isCompare_23 (Or.inr rfl) ⟨rfl, (by decide), hRR.symm.trans hC⟩
  have hC : RR = f_X10_isCompare u0 p0 := hRR
  unfold f_X10_isCompare at hC
  refine lv_iload_n F.1 F.2.1 dX10_isCompare_0 rfl (lv_at hl 0 rfl) ?_
  refine a_bp F (60 : Int32) dX10_isCompare_1 (by decide) ?_
  refine b_eq F 18 dX10_isCompare_3 (by decide) rfl ic_60 (fun c1 => ?_) (fun c1 => ?_)
  · have hC := hC.trans (if_pos c1)
    exact L18 _ _ _  hC hP hD hS (lv_sub hl [] rfl)
  · have hC := hC.trans (if_neg (by omega))
    refine lv_iload_n F.1 F.2.1 dX10_isCompare_6 rfl (lv_at hl 0 rfl) ?_
    refine a_bp F (61 : Int32) dX10_isCompare_7 (by decide) ?_
    refine b_eq F 18 dX10_isCompare_9 (by decide) rfl ic_61 (fun c2 => ?_) (fun c2 => ?_)
    · have hC := hC.trans (if_pos c2)
      exact L18 _ _ _  hC hP hD hS (lv_sub hl [] rfl)
    · have hC := hC.trans (if_neg (by omega))
      refine lv_iload_n F.1 F.2.1 dX10_isCompare_12 rfl (lv_at hl 0 rfl) ?_
      refine a_bp F (62 : Int32) dX10_isCompare_13 (by decide) ?_
      refine b_ne F 22 dX10_isCompare_15 (by decide) rfl ic_62 (fun c3 => ?_) (fun c3 => ?_)
      · have hC := hC.trans (if_pos c3)
        refine a_ic F (0 : Int32) dX10_isCompare_22 (by decide) ?_
        exact a_retz F hr hlocks hP hD hS dX10_isCompare_23 (Or.inl rfl) ⟨rfl, (by decide), hRR.symm.trans hC⟩
      · have hC := hC.trans (if_neg (by omega))
        exact L18 _ _ _  hC hP hD hS (lv_sub hl [] rfl)
def K_X10_isSign_25 (u0 : ac_U) (p0 : Int32) : Int32 := (1 : Int32)
def f_X10_isSign (u0 : ac_U) (p0 : Int32) : Int32 := (if p0.toInt = (59 : Int) then (K_X10_isSign_25 u0 p0) else (if p0.toInt = (40 : Int) then (K_X10_isSign_25 u0 p0) else (if p0.toInt = (41 : Int) then (K_X10_isSign_25 u0 p0) else (vl (f_X10_isCompare u0 p0) (fun (r4 : Int32) => (if r4.toInt = 0 then (0 : Int32) else (K_X10_isSign_25 u0 p0)))))))
set_option maxHeartbeats 600000 in
set_option maxRecDepth 100000 in
theorem x_X10_isSign (l : Launch) (dC : Nat → ClassId) (dI : Nat → Nat → Nat) (ad : Nat → Nat) (cA : Nat → ClassId) (nF : Nat) (u0 : ac_U) (p0 : Int32) (hR : ac_R rg u0) (hp0 : (-128 : Int) ≤ p0.toInt ∧ p0.toInt ≤ 127) : ac_Mi l yX10_isSign (.code yX10_isSign cX10_isSign 1 (some .boolean) :: TB) 2 (dC, dI) vwCl (ac_ty cA) ad cA (TT nF) [.int p0] u0 (fun (r : Int32) (u : ac_U) => u = u0 ∧ ((0 : Int) ≤ r.toInt ∧ r.toInt ≤ 1) ∧ f_X10_isSign u0 p0 = r) := by
  refine ac_Mi.of (cc := cX10_isSign) (maxL := 1) (ret := (some .boolean)) (by decide) rfl (Nat.le_of_ble_eq_true rfl) ?_
  intro p e s m below meth c A ls F hml hr hlocks hA hP hD hS hl
  have F : ac_X p s m [.int p0].toArray c cX10_isSign RX10 TB (dC, dI) vwCl (ac_ty cA) := ⟨F.1, F.2.1, fun w h => F.2.2.1 w (List.mem_cons_of_mem _ h), F.2.2.2.1, F.2.2.2.2⟩
  have hl : lv_has ls 1 [(0, .int p0)] := hl
  obtain ⟨RR, hRR⟩ : ∃ q, q = f_X10_isSign u0 p0 := ⟨_, rfl⟩
  have L25 : ∀ (H : Heap) (locs : List Loc) (ls : Array Slot), RR = (K_X10_isSign_25 u0 p0) → va_P (dC, dI) vwCl (ac_w ad cA (TT nF) u0) H → va_D A (ac_w ad cA (TT nF) u0) → va_S A s.heap H locs → lv_has ls 1 [] → W p l e (ac_rm 2) s m [.int p0].toArray below meth c H locs 0 0 (MQ below (va_Qi (fun (r : Int32) (u : ac_U) => u = u0 ∧ ((0 : Int) ≤ r.toInt ∧ r.toInt ≤ 1) ∧ f_X10_isSign u0 p0 = r) (ac_B (dC, dI) vwCl (ac_ty cA) ad cA (TT nF) A) A) [.int p0].toArray s 0 0 A) (F0 m 25 ls []) := by
    intro H locs ls hC hP hD hS hl
    unfold K_X10_isSign_25 at hC
    refine a_ic F (1 : Int32) dX10_isSign_25 (by decide) ?_
    refine lv_goto (tgt := 30) F.1 F.2.1 dX10_isSign_26 (by decide) ?_
    exact a_retz F hr hlocks hP hD hS dX10_isSign_30 (Or.inr rfl) ⟨rfl, (by decide), hRR.symm.trans hC⟩
  have hC : RR = f_X10_isSign u0 p0 := hRR
  unfold f_X10_isSign at hC
  refine lv_iload_n F.1 F.2.1 dX10_isSign_0 rfl (lv_at hl 0 rfl) ?_
  refine a_bp F (59 : Int32) dX10_isSign_1 (by decide) ?_
  refine b_eq F 25 dX10_isSign_3 (by decide) rfl ic_59 (fun c1 => ?_) (fun c1 => ?_)
  · have hC := hC.trans (if_pos c1)
    exact L25 _ _ _  hC hP hD hS (lv_sub hl [] rfl)
  · have hC := hC.trans (if_neg (by omega))
    refine lv_iload_n F.1 F.2.1 dX10_isSign_6 rfl (lv_at hl 0 rfl) ?_
    refine a_bp F (40 : Int32) dX10_isSign_7 (by decide) ?_
    refine b_eq F 25 dX10_isSign_9 (by decide) rfl ic_40 (fun c2 => ?_) (fun c2 => ?_)
    · have hC := hC.trans (if_pos c2)
      exact L25 _ _ _  hC hP hD hS (lv_sub hl [] rfl)
    · have hC := hC.trans (if_neg (by omega))
      refine lv_iload_n F.1 F.2.1 dX10_isSign_12 rfl (lv_at hl 0 rfl) ?_
      refine a_bp F (41 : Int32) dX10_isSign_13 (by decide) ?_
      refine b_eq F 25 dX10_isSign_15 (by decide) rfl ic_41 (fun c3 => ?_) (fun c3 => ?_)
      · have hC := hC.trans (if_pos c3)
        exact L25 _ _ _  hC hP hD hS (lv_sub hl [] rfl)
      · have hC := hC.trans (if_neg (by omega))
        refine lv_iload_n F.1 F.2.1 dX10_isSign_18 rfl (lv_at hl 0 rfl) ?_
        refine a_Si F hml hl.1 hA hP hD hS (As := [.int p0]) (x_X10_isCompare l dC dI ad cA nF _ p0 hR (by omega)) (cs_RX10_68 (d := 1) F.2.2.1 (by decide)) rfl rfl (Nat.le_of_ble_eq_true rfl) dX10_isSign_19 ⟨Nat.le_refl 0, Nat.le_refl 0⟩ (fun r4 uN4 H locs hq hP hD hS => ?_)
        obtain ⟨hu4, gr4, hz4⟩ := hq
        rw [hu4] at hP hD
        have hC := vl_eq hC hz4.symm
        refine z_eq F 29 dX10_isSign_22 (by decide) rfl (fun c5 => ?_) (fun c5 => ?_)
        · have hC := hC.trans (if_pos c5)
          refine a_ic F (0 : Int32) dX10_isSign_29 (by decide) ?_
          exact a_retz F hr hlocks hP hD hS dX10_isSign_30 (Or.inl rfl) ⟨rfl, (by decide), hRR.symm.trans hC⟩
        · have hC := hC.trans (if_neg (by omega))
          exact L25 _ _ _  hC hP hD hS (lv_sub hl [] rfl)
def K_X10_kindOfWord_1_2_b (B2 : Int32 → Int32) (u0 : ac_U) (x1 : Int32) : Int32 := (if (27 : Int) ≤ x1.toInt then (2 : Int32) else (vl (ctA x1.toNatClampNeg) (fun (w2 : Int64) => (vl (lg_cmp w2 (u0.2 1 7)) (fun (v3 : Int32) => (if v3.toInt ≠ 0 then (vl (x1 + Int32.ofInt (1)) (fun (v5 : Int32) => (B2 v5))) else (vl ((100 : Int32) + x1) (fun (v6 : Int32) => v6))))))))
def K_X10_kindOfWord_1_2 (u0 : ac_U) : Nat → Int32 → Int32
  | 0 => fun x1 => 0
  | n + 1 => fun x1 => K_X10_kindOfWord_1_2_b (K_X10_kindOfWord_1_2 u0 n) u0 x1
def f_X10_kindOfWord_1 (u0 : ac_U) : Int32 := (K_X10_kindOfWord_1_2 u0 29 (0 : Int32))
set_option maxHeartbeats 600000 in
set_option maxRecDepth 100000 in
theorem x_X10_kindOfWord_1 (l : Launch) (dC : Nat → ClassId) (dI : Nat → Nat → Nat) (ad : Nat → Nat) (cA : Nat → ClassId) (nF : Nat) (u0 : ac_U)  (hR : ac_R rg u0) : ac_Mi l yX10_kindOfWord (.code yX10_kindOfWord cX10_kindOfWord 2 (some .int) :: TB) 1 (dC, dI) vwCl (ac_ty cA) ad cA (TT nF) [.ref (ad 1)] u0 (fun (r : Int32) (u : ac_U) => u = u0 ∧ ((2 : Int) ≤ r.toInt ∧ r.toInt ≤ 126) ∧ f_X10_kindOfWord_1 u0 = r) := by
  refine ac_Mi.of (cc := cX10_kindOfWord) (maxL := 2) (ret := (some .int)) (by decide) rfl (Nat.le_of_ble_eq_true rfl) ?_
  intro p e s m below meth c A ls F hml hr hlocks hA hP hD hS hl
  have F : ac_X p s m [.ref (ad 1)].toArray c cX10_kindOfWord RX10 TB (dC, dI) vwCl (ac_ty cA) := ⟨F.1, F.2.1, fun w h => F.2.2.1 w (List.mem_cons_of_mem _ h), F.2.2.2.1, F.2.2.2.2⟩
  have hl : lv_has ls 2 [(0, .ref (ad 1))] := hl
  obtain ⟨RR, hRR⟩ : ∃ q, q = f_X10_kindOfWord_1 u0 := ⟨_, rfl⟩
  have L2 : ∀ (n2 : Nat) (x1 : Int32) (H : Heap) (locs : List Loc) (ls : Array Slot), 27 - x1.toInt < (n2 : Int) → (0 : Int) ≤ x1.toInt ∧ x1.toInt ≤ 27 → RR = (K_X10_kindOfWord_1_2 u0 n2 x1) → va_P (dC, dI) vwCl (ac_w ad cA (TT nF) u0) H → va_D A (ac_w ad cA (TT nF) u0) → va_S A s.heap H locs → lv_has ls 2 [(0, .ref (ad 1)), (1, .int x1)] → W p l e (ac_rm 1) s m [.ref (ad 1)].toArray below meth c H locs 0 0 (MQ below (va_Qi (fun (r : Int32) (u : ac_U) => u = u0 ∧ ((2 : Int) ≤ r.toInt ∧ r.toInt ≤ 126) ∧ f_X10_kindOfWord_1 u0 = r) (ac_B (dC, dI) vwCl (ac_ty cA) ad cA (TT nF) A) A) [.ref (ad 1)].toArray s 0 0 A) (F0 m 2 ls []) := by
    intro n2
    induction n2 with
    | zero => intro x1 H locs ls hn2 f0 hC hP hD hS hl; exfalso; omega
    | succ n2 ih2 =>
      intro x1 H locs ls hn2 f0 hC hP hD hS hl
      have hC : RR = K_X10_kindOfWord_1_2_b (K_X10_kindOfWord_1_2 u0 n2) u0 x1 := hC
      unfold K_X10_kindOfWord_1_2_b at hC
      refine lv_iload_n F.1 F.2.1 dX10_kindOfWord_2 rfl (lv_at hl 1 rfl) ?_
      refine a_bp F (27 : Int32) dX10_kindOfWord_3 (by decide) ?_
      refine b_ge F 33 dX10_kindOfWord_5 (by decide) rfl ic_27 (fun c1 => ?_) (fun c1 => ?_)
      · have hC := hC.trans (if_pos c1)
        refine a_ic F (2 : Int32) dX10_kindOfWord_33 (by decide) ?_
        exact a_reti F hr hlocks hP hD hS dX10_kindOfWord_34 ⟨rfl, (by decide), hRR.symm.trans hC⟩
      · have hC := hC.trans (if_neg (by omega))
        refine lv_aload_n F.1 F.2.1 dX10_kindOfWord_8 rfl (lv_at hl 0 rfl) ?_
        refine a_getr F inX10 hP 1 1 tc_1 rfl rfl (by decide) q94 (fun _ h9 => h9) dX10_kindOfWord_9 ?_
        refine lv_iload_n F.1 F.2.1 dX10_kindOfWord_12 rfl (lv_at hl 1 rfl) ?_
        refine a_laldA F hP 3 tc_3 rfl (i_in rfl (by omega)) dX10_kindOfWord_13 (fun w2 ew2 => ?_)
        have hC := vl_eq hC ew2.symm
        refine lv_aload_n F.1 F.2.1 dX10_kindOfWord_14 rfl (lv_at hl 0 rfl) ?_
        refine a_getl F inX10 hP 1 7 tc_1 rfl rfl (by decide) q104 (fun _ h9 => h9) (v := (u0.2 1 7)) rfl dX10_kindOfWord_15 ?_
        refine W.lcmp F.1 F.2.1 dX10_kindOfWord_18 ?_
        refine lv_topi (fun v3 yv3 => ?_)
        have hC := vl_eq hC yv3
        refine z_ne F 27 dX10_kindOfWord_19 (by decide) rfl (fun c4 => ?_) (fun c4 => ?_)
        · have hC := hC.trans (if_pos c4)
          refine a_iincX F (k := 1) (fun v5 => [(1, .int v5), (0, .ref (ad 1))]) dX10_kindOfWord_27 hl rfl rfl (by decide) (by omega) (by decide) (fun _ => rfl) (fun v5 ls hv5 yv5 hl => ?_)
          have hC := vl_eq hC yv5
          refine lv_goto (tgt := 2) F.1 F.2.1 dX10_kindOfWord_30 (by decide) ?_
          exact ih2 v5 _ _ _ (by omega) (by omega) hC hP hD hS (lv_sub hl [1, 0] rfl)
        · have hC := hC.trans (if_neg (by omega))
          refine a_bp F (100 : Int32) dX10_kindOfWord_22 (by decide) ?_
          refine lv_iload_n F.1 F.2.1 dX10_kindOfWord_24 rfl (lv_at hl 1 rfl) ?_
          refine a_iaddX F dX10_kindOfWord_25 ic_100 rfl (by omega) (fun v6 hv6 yv6 => ?_)
          have hC := vl_eq hC yv6
          exact a_reti F hr hlocks hP hD hS dX10_kindOfWord_26 ⟨rfl, (by omega : (2 : Int) ≤ v6.toInt ∧ v6.toInt ≤ 126), hRR.symm.trans hC⟩
  have hC : RR = f_X10_kindOfWord_1 u0 := hRR
  unfold f_X10_kindOfWord_1 at hC
  refine a_ic F (0 : Int32) dX10_kindOfWord_0 (by decide) ?_
  refine lv_istore_n (lv' := [(1, .int (0 : Int32)), (0, .ref (ad 1))]) F.1 F.2.1 dX10_kindOfWord_1 rfl hl (by decide) rfl (fun ls hl => ?_)
  exact L2 29 (0 : Int32) _ _ _ (by decide) (by decide) hC hP hD hS (lv_sub hl [1, 0] rfl)

def f_X10_withLetter (u0 : ac_U) (p0 : Int64) (p1 : Int32) : Int64 := (vl (p0 * (32 : Int64)) (fun (w1 : Int64) => (vl (p1 - (97 : Int32)) (fun (v2 : Int32) => (vl (v2 + (1 : Int32)) (fun (v3 : Int32) => (vl ((v3).toInt64) (fun (w4 : Int64) => (vl (w1 + w4) (fun (w5 : Int64) => w5))))))))))
set_option maxHeartbeats 600000 in
set_option maxRecDepth 100000 in
theorem x_X10_withLetter (l : Launch) (dC : Nat → ClassId) (dI : Nat → Nat → Nat) (ad : Nat → Nat) (cA : Nat → ClassId) (nF : Nat) (u0 : ac_U) (p0 : Int64) (p1 : Int32) (hR : ac_R rg u0) (hp1 : (-128 : Int) ≤ p1.toInt ∧ p1.toInt ≤ 127) : ac_Ml l yX10_withLetter (.code yX10_withLetter cX10_withLetter 3 (some .long) :: TB) 1 (dC, dI) vwCl (ac_ty cA) ad cA (TT nF) [.long p0, .int p1] u0 (fun (r : Int64) (u : ac_U) => u = u0 ∧ f_X10_withLetter u0 p0 p1 = r) := by
  refine ac_Ml.of (cc := cX10_withLetter) (maxL := 3) (ret := (some .long)) (by decide) rfl (Nat.le_of_ble_eq_true rfl) ?_
  intro p e s m below meth c A ls F hml hr hlocks hA hP hD hS hl
  have F : ac_X p s m [.long p0, .int p1].toArray c cX10_withLetter RX10 TB (dC, dI) vwCl (ac_ty cA) := ⟨F.1, F.2.1, fun w h => F.2.2.1 w (List.mem_cons_of_mem _ h), F.2.2.2.1, F.2.2.2.2⟩
  have hl : lv_has ls 3 [(0, .long p0), (2, .int p1)] := hl
  obtain ⟨RR, hRR⟩ : ∃ q, q = f_X10_withLetter u0 p0 p1 := ⟨_, rfl⟩
  have hC : RR = f_X10_withLetter u0 p0 p1 := hRR
  unfold f_X10_withLetter at hC
  refine lv_lload_n F.1 F.2.1 dX10_withLetter_0 rfl (lv_at hl 0 rfl) ?_
  refine lv_ldc2 (v := (32 : Int64)) F.1 F.2.1 F.2.2.2.1 (F.2.2.1 _ q92) dX10_withLetter_1 ?_
  refine lv_lmul F.1 F.2.1 dX10_withLetter_4 ?_
  refine lv_topl (fun w1 yw1 => ?_)
  have hC := vl_eq hC yw1
  refine lv_iload_n F.1 F.2.1 dX10_withLetter_5 rfl (lv_at hl 1 rfl) ?_
  refine a_bp F (97 : Int32) dX10_withLetter_6 (by decide) ?_
  refine a_isubX F dX10_withLetter_8 rfl ic_97 (by omega) (fun v2 hv2 yv2 => ?_)
  have hC := vl_eq hC yv2
  refine a_ic F (1 : Int32) dX10_withLetter_9 (by decide) ?_
  refine a_iaddX F dX10_withLetter_10 rfl ic_1 (by omega) (fun v3 hv3 yv3 => ?_)
  have hC := vl_eq hC yv3
  refine lv_i2l F.1 F.2.1 dX10_withLetter_11 rfl ?_
  refine lv_topl (fun w4 yw4 => ?_)
  have hC := vl_eq hC yw4
  refine lv_ladd F.1 F.2.1 dX10_withLetter_12 ?_
  refine lv_topl (fun w5 yw5 => ?_)
  have hC := vl_eq hC yw5
  exact a_retl F hr hlocks hP hD hS dX10_withLetter_13 ⟨rfl, hRR.symm.trans hC⟩
def K_X10_readRun_1_172 (u0 : ac_U) (u : ac_U) (z1 : Int32) : ac_U := (pI u 1 6 z1)
def K_X10_readRun_1_171 (u0 : ac_U) (u : ac_U) : ac_U := (K_X10_readRun_1_172 u0 u (1 : Int32))
def K_X10_readRun_1_157 (u0 : ac_U) (u : ac_U) (x1 : Int32) (x2 : Int32) : ac_U := (if x1.toInt ≠ 0 then (K_X10_readRun_1_171 u0 u) else (if (3 : Int) < x2.toInt then (K_X10_readRun_1_171 u0 u) else (K_X10_readRun_1_172 u0 u (3 : Int32))))
def K_X10_readRun_1_136 (u0 : ac_U) (u : ac_U) (x1 : Int32) (x2 : Int32) : ac_U := (if x2.toInt ≠ 0 then (K_X10_readRun_1_157 u0 u x1 x2) else (if (7 : Int) < x1.toInt then (K_X10_readRun_1_157 u0 u x1 x2) else (vl (f_X10_kindOfWord_1 u) (fun (r5 : Int32) => (pI u 1 6 r5)))))
def K_X10_readRun_1_123 (B14 : ac_U → Int32 → Int32 → ac_U) (u0 : ac_U) (u : ac_U) (x1 : Int32) (x2 : Int32) : ac_U := (vl ((u.1 1 4) + (1 : Int32)) (fun (v7 : Int32) => (B14 (pI u 1 4 v7) x1 x2)))
def K_X10_readRun_1_55 (B14 : ac_U → Int32 → Int32 → ac_U) (u0 : ac_U) (u : ac_U) (x1 : Int32) (x2 : Int32) : ac_U := (vl (u.1 2 (u.1 1 4).toNatClampNeg) (fun (v9 : Int32) => (vl (f_X10_isLetter u v9) (fun (r10 : Int32) => (if r10.toInt = 0 then (vl (x2 + Int32.ofInt (1)) (fun (v12 : Int32) => (vl ((u.1 1 8) * (10 : Int32)) (fun (v13 : Int32) => (vl (u.1 2 (u.1 1 4).toNatClampNeg) (fun (v14 : Int32) => (vl (v14 - (48 : Int32)) (fun (v15 : Int32) => (vl (v13 + v15) (fun (v16 : Int32) => (K_X10_readRun_1_123 B14 u0 (pI u 1 8 v16) x1 v12))))))))))) else (vl (x1 + Int32.ofInt (1)) (fun (v18 : Int32) => (vl (u.1 2 (u.1 1 4).toNatClampNeg) (fun (v19 : Int32) => (vl (f_X10_withLetter u (u.2 1 7) v19) (fun (r20 : Int64) => (K_X10_readRun_1_123 B14 u0 (pL u 1 7 r20) v18 x2))))))))))))
def K_X10_readRun_1_14_b (B14 : ac_U → Int32 → Int32 → ac_U) (u0 : ac_U) (u : ac_U) (x1 : Int32) (x2 : Int32) : ac_U := (if (u.1 1 2).toInt ≤ (u.1 1 4).toInt then (K_X10_readRun_1_136 u0 u x1 x2) else (vl (u.1 2 (u.1 1 4).toNatClampNeg) (fun (v25 : Int32) => (vl (f_X10_isLetter u v25) (fun (r26 : Int32) => (if r26.toInt ≠ 0 then (K_X10_readRun_1_55 B14 u0 u x1 x2) else (vl (u.1 2 (u.1 1 4).toNatClampNeg) (fun (v28 : Int32) => (vl (f_X10_isDigit u v28) (fun (r29 : Int32) => (if r29.toInt = 0 then (K_X10_readRun_1_136 u0 u x1 x2) else (K_X10_readRun_1_55 B14 u0 u x1 x2))))))))))))
def K_X10_readRun_1_14 (u0 : ac_U) : Nat → ac_U → Int32 → Int32 → ac_U
  | 0 => fun u x1 x2 => u
  | n + 1 => fun u x1 x2 => K_X10_readRun_1_14_b (K_X10_readRun_1_14 u0 n) u0 u x1 x2
def f_X10_readRun_1 (u0 : ac_U) : ac_U := (K_X10_readRun_1_14 u0 942 (pI (pL u0 1 7 (0 : Int64)) 1 8 (0 : Int32)) (0 : Int32) (0 : Int32))
set_option maxHeartbeats 600000 in
set_option maxRecDepth 100000 in
theorem x_X10_readRun_1 (l : Launch) (dC : Nat → ClassId) (dI : Nat → Nat → Nat) (ad : Nat → Nat) (cA : Nat → ClassId) (nF : Nat) (u0 : ac_U)  (hR : ac_R rg u0) : ac_Mv l yX10_readRun (.code yX10_readRun cX10_readRun 3 none :: TB) 2 (dC, dI) vwCl (ac_ty cA) ad cA (TT nF) [.ref (ad 1)] u0 (fun (u : ac_U) => ac_R rg u ∧ ac_Fr [(1, some 4), (1, some 6), (1, some 8)] u0 u ∧ f_X10_readRun_1 u0 = u) := by
  refine ac_Mv.of (cc := cX10_readRun) (maxL := 3) (ret := none) (by decide) rfl (Nat.le_of_ble_eq_true rfl) ?_
  intro p e s m below meth c A ls F hml hr hlocks hA hP hD hS hl
  have F : ac_X p s m [.ref (ad 1)].toArray c cX10_readRun RX10 TB (dC, dI) vwCl (ac_ty cA) := ⟨F.1, F.2.1, fun w h => F.2.2.1 w (List.mem_cons_of_mem _ h), F.2.2.2.1, F.2.2.2.2⟩
  have hl : lv_has ls 3 [(0, .ref (ad 1))] := hl
  obtain ⟨RR, hRR⟩ : ∃ q, q = f_X10_readRun_1 u0 := ⟨_, rfl⟩
  have hF : ac_Fr [(1, some 4), (1, some 6), (1, some 8)] u0 u0 := ac_Fr.rf
  have L172 : ∀ (z1 : Int32) (u : ac_U) (H : Heap) (locs : List Loc) (ls : Array Slot), ac_R rg u → ac_Fr [(1, some 4), (1, some 6), (1, some 8)] u0 u → (1 : Int) ≤ z1.toInt ∧ z1.toInt ≤ 3 → RR = (K_X10_readRun_1_172 u0 u z1) → va_P (dC, dI) vwCl (ac_w ad cA (TT nF) u) H → va_D A (ac_w ad cA (TT nF) u) → va_S A s.heap H locs → lv_has ls 3 [] → W p l e (ac_rm 2) s m [.ref (ad 1)].toArray below meth c H locs 0 0 (MQ below (va_Qv (fun (u : ac_U) => ac_R rg u ∧ ac_Fr [(1, some 4), (1, some 6), (1, some 8)] u0 u ∧ f_X10_readRun_1 u0 = u) (ac_B (dC, dI) vwCl (ac_ty cA) ad cA (TT nF) A) A) [.ref (ad 1)].toArray s 0 0 A) (F0 m 172 ls [.int z1, .ref (ad 1)]) := by
    intro z1 u H locs ls hR hF f0 hC hP hD hS hl
    unfold K_X10_readRun_1_172 at hC
    refine a_puti F inX10 tyX10 tyX10_ok nmX10 hP hD hS 1 6 tc_1 rfl rfl (by decide) q100 (fun _ h9 => h9) rfl (ty := .int) (tyX10_ok 6 (by decide)) rfl rfl dX10_readRun_172 (fun H locs hP hD hS => ?_)
    have hR := hR.si (c := 1) (k := 6) (v := z1) (by omega : (-128 : Int) ≤ z1.toInt ∧ z1.toInt ≤ 127)
    have hF := hF.si (c := 1) (k := 6) (v := z1) rfl
    exact a_retv F hr hlocks hP hD hS dX10_readRun_175 ⟨hR, hF, hRR.symm.trans hC⟩
  have L171 : ∀ (u : ac_U) (H : Heap) (locs : List Loc) (ls : Array Slot), ac_R rg u → ac_Fr [(1, some 4), (1, some 6), (1, some 8)] u0 u → RR = (K_X10_readRun_1_171 u0 u) → va_P (dC, dI) vwCl (ac_w ad cA (TT nF) u) H → va_D A (ac_w ad cA (TT nF) u) → va_S A s.heap H locs → lv_has ls 3 [] → W p l e (ac_rm 2) s m [.ref (ad 1)].toArray below meth c H locs 0 0 (MQ below (va_Qv (fun (u : ac_U) => ac_R rg u ∧ ac_Fr [(1, some 4), (1, some 6), (1, some 8)] u0 u ∧ f_X10_readRun_1 u0 = u) (ac_B (dC, dI) vwCl (ac_ty cA) ad cA (TT nF) A) A) [.ref (ad 1)].toArray s 0 0 A) (F0 m 171 ls [.ref (ad 1)]) := by
    intro u H locs ls hR hF hC hP hD hS hl
    unfold K_X10_readRun_1_171 at hC
    refine a_ic F (1 : Int32) dX10_readRun_171 (by decide) ?_
    exact L172 (1 : Int32) _ _ _ _ hR hF (by decide) hC hP hD hS (lv_sub hl [] rfl)
  have L157 : ∀ (x1 : Int32) (x2 : Int32) (u : ac_U) (H : Heap) (locs : List Loc) (ls : Array Slot), ac_R rg u → ac_Fr [(1, some 4), (1, some 6), (1, some 8)] u0 u → RR = (K_X10_readRun_1_157 u0 u x1 x2) → va_P (dC, dI) vwCl (ac_w ad cA (TT nF) u) H → va_D A (ac_w ad cA (TT nF) u) → va_S A s.heap H locs → lv_has ls 3 [(0, .ref (ad 1)), (1, .int x1), (2, .int x2)] → W p l e (ac_rm 2) s m [.ref (ad 1)].toArray below meth c H locs 0 0 (MQ below (va_Qv (fun (u : ac_U) => ac_R rg u ∧ ac_Fr [(1, some 4), (1, some 6), (1, some 8)] u0 u ∧ f_X10_readRun_1 u0 = u) (ac_B (dC, dI) vwCl (ac_ty cA) ad cA (TT nF) A) A) [.ref (ad 1)].toArray s 0 0 A) (F0 m 157 ls []) := by
    intro x1 x2 u H locs ls hR hF hC hP hD hS hl
    unfold K_X10_readRun_1_157 at hC
    refine lv_aload_n F.1 F.2.1 dX10_readRun_157 rfl (lv_at hl 0 rfl) ?_
    refine lv_iload_n F.1 F.2.1 dX10_readRun_158 rfl (lv_at hl 1 rfl) ?_
    refine z_ne F 171 dX10_readRun_159 (by decide) rfl (fun c1 => ?_) (fun c1 => ?_)
    · have hC := hC.trans (if_pos c1)
      exact L171 _ _ _ _ hR hF hC hP hD hS (lv_sub hl [] rfl)
    · have hC := hC.trans (if_neg (by omega))
      refine lv_iload_n F.1 F.2.1 dX10_readRun_162 rfl (lv_at hl 2 rfl) ?_
      refine a_ic F (3 : Int32) dX10_readRun_163 (by decide) ?_
      refine b_gt F 171 dX10_readRun_164 (by decide) rfl ic_3 (fun c2 => ?_) (fun c2 => ?_)
      · have hC := hC.trans (if_pos c2)
        exact L171 _ _ _ _ hR hF hC hP hD hS (lv_sub hl [] rfl)
      · have hC := hC.trans (if_neg (by omega))
        refine a_ic F (3 : Int32) dX10_readRun_167 (by decide) ?_
        refine lv_goto (tgt := 172) F.1 F.2.1 dX10_readRun_168 (by decide) ?_
        exact L172 (3 : Int32) _ _ _ _ hR hF (by decide) hC hP hD hS (lv_sub hl [] rfl)
  have L136 : ∀ (x1 : Int32) (x2 : Int32) (u : ac_U) (H : Heap) (locs : List Loc) (ls : Array Slot), ac_R rg u → ac_Fr [(1, some 4), (1, some 6), (1, some 8)] u0 u → RR = (K_X10_readRun_1_136 u0 u x1 x2) → va_P (dC, dI) vwCl (ac_w ad cA (TT nF) u) H → va_D A (ac_w ad cA (TT nF) u) → va_S A s.heap H locs → lv_has ls 3 [(0, .ref (ad 1)), (1, .int x1), (2, .int x2)] → W p l e (ac_rm 2) s m [.ref (ad 1)].toArray below meth c H locs 0 0 (MQ below (va_Qv (fun (u : ac_U) => ac_R rg u ∧ ac_Fr [(1, some 4), (1, some 6), (1, some 8)] u0 u ∧ f_X10_readRun_1 u0 = u) (ac_B (dC, dI) vwCl (ac_ty cA) ad cA (TT nF) A) A) [.ref (ad 1)].toArray s 0 0 A) (F0 m 136 ls []) := by
    intro x1 x2 u H locs ls hR hF hC hP hD hS hl
    unfold K_X10_readRun_1_136 at hC
    refine lv_iload_n F.1 F.2.1 dX10_readRun_136 rfl (lv_at hl 2 rfl) ?_
    refine z_ne F 157 dX10_readRun_137 (by decide) rfl (fun c3 => ?_) (fun c3 => ?_)
    · have hC := hC.trans (if_pos c3)
      exact L157 x1 x2 _ _ _ _ hR hF hC hP hD hS (lv_sub hl [0, 1, 2] rfl)
    · have hC := hC.trans (if_neg (by omega))
      refine lv_iload_n F.1 F.2.1 dX10_readRun_140 rfl (lv_at hl 1 rfl) ?_
      refine a_bp F (7 : Int32) dX10_readRun_141 (by decide) ?_
      refine b_gt F 157 dX10_readRun_143 (by decide) rfl ic_7 (fun c4 => ?_) (fun c4 => ?_)
      · have hC := hC.trans (if_pos c4)
        exact L157 x1 x2 _ _ _ _ hR hF hC hP hD hS (lv_sub hl [0, 1, 2] rfl)
      · have hC := hC.trans (if_neg (by omega))
        refine lv_aload_n F.1 F.2.1 dX10_readRun_146 rfl (lv_at hl 0 rfl) ?_
        refine lv_aload_n F.1 F.2.1 dX10_readRun_147 rfl (lv_at hl 0 rfl) ?_
        refine a_Vi F hml hl.1 hA hP hD hS (As := []) (x_X10_kindOfWord_1 l dC dI ad cA nF _  hR) (cs_RX10_87 (d := 1) F.2.2.1 (by decide)) tc_1 rfl rfl rfl rfl (Nat.le_of_ble_eq_true rfl) dX10_readRun_148 ⟨Nat.le_refl 0, Nat.le_refl 0⟩ (fun r5 uN5 H locs hq hP hD hS => ?_)
        obtain ⟨hu5, gr5, hz5⟩ := hq
        rw [hu5] at hP hD
        have hC := vl_eq hC hz5.symm
        refine a_puti F inX10 tyX10 tyX10_ok nmX10 hP hD hS 1 6 tc_1 rfl rfl (by decide) q100 (fun _ h9 => h9) rfl (ty := .int) (tyX10_ok 6 (by decide)) rfl rfl dX10_readRun_151 (fun H locs hP hD hS => ?_)
        have hR := hR.si (c := 1) (k := 6) (v := r5) (by omega : (-128 : Int) ≤ r5.toInt ∧ r5.toInt ≤ 127)
        have hF := hF.si (c := 1) (k := 6) (v := r5) rfl
        refine lv_goto (tgt := 175) F.1 F.2.1 dX10_readRun_154 (by decide) ?_
        exact a_retv F hr hlocks hP hD hS dX10_readRun_175 ⟨hR, hF, hRR.symm.trans hC⟩
  have L14 : ∀ (n14 : Nat) (x1 : Int32) (x2 : Int32) (u : ac_U) (H : Heap) (locs : List Loc) (ls : Array Slot), ac_R rg u → ac_Fr [(1, some 4), (1, some 6), (1, some 8)] u0 u → 940 - (u.1 1 4).toInt < (n14 : Int) → RR = (K_X10_readRun_1_14 u0 n14 u x1 x2) → va_P (dC, dI) vwCl (ac_w ad cA (TT nF) u) H → va_D A (ac_w ad cA (TT nF) u) → va_S A s.heap H locs → lv_has ls 3 [(0, .ref (ad 1)), (1, .int x1), (2, .int x2)] → W p l e (ac_rm 2) s m [.ref (ad 1)].toArray below meth c H locs 0 0 (MQ below (va_Qv (fun (u : ac_U) => ac_R rg u ∧ ac_Fr [(1, some 4), (1, some 6), (1, some 8)] u0 u ∧ f_X10_readRun_1 u0 = u) (ac_B (dC, dI) vwCl (ac_ty cA) ad cA (TT nF) A) A) [.ref (ad 1)].toArray s 0 0 A) (F0 m 14 ls []) := by
    intro n14
    induction n14 with
    | zero => intro x1 x2 u H locs ls hR hF hn14 hC hP hD hS hl; have gz0 : (0 : Int) ≤ (u.1 1 4).toInt ∧ (u.1 1 4).toInt ≤ 940 := hR 1 4; exfalso; omega
    | succ n14 ih14 =>
      intro x1 x2 u H locs ls hR hF hn14 hC hP hD hS hl
      have hC : RR = K_X10_readRun_1_14_b (K_X10_readRun_1_14 u0 n14) u0 u x1 x2 := hC
      have L123 : ∀ (x1 : Int32) (x2 : Int32) (u : ac_U) (H : Heap) (locs : List Loc) (ls : Array Slot), ac_R rg u → ac_Fr [(1, some 4), (1, some 6), (1, some 8)] u0 u → (1 : Int) ≤ (u.1 1 2).toInt ∧ (u.1 1 2).toInt ≤ 940 → (0 : Int) ≤ (u.1 1 4).toInt ∧ (u.1 1 4).toInt ≤ 939 → 940 - (u.1 1 4).toInt < ((n14 : Nat) : Int) + 1 → RR = (K_X10_readRun_1_123 (K_X10_readRun_1_14 u0 n14) u0 u x1 x2) → va_P (dC, dI) vwCl (ac_w ad cA (TT nF) u) H → va_D A (ac_w ad cA (TT nF) u) → va_S A s.heap H locs → lv_has ls 3 [(0, .ref (ad 1)), (1, .int x1), (2, .int x2)] → W p l e (ac_rm 2) s m [.ref (ad 1)].toArray below meth c H locs 0 0 (MQ below (va_Qv (fun (u : ac_U) => ac_R rg u ∧ ac_Fr [(1, some 4), (1, some 6), (1, some 8)] u0 u ∧ f_X10_readRun_1 u0 = u) (ac_B (dC, dI) vwCl (ac_ty cA) ad cA (TT nF) A) A) [.ref (ad 1)].toArray s 0 0 A) (F0 m 123 ls []) := by
        intro x1 x2 u H locs ls hR hF f0 f1 f2 hC hP hD hS hl
        unfold K_X10_readRun_1_123 at hC
        refine lv_aload_n F.1 F.2.1 dX10_readRun_123 rfl (lv_at hl 0 rfl) ?_
        refine lv_dup F.1 F.2.1 dX10_readRun_124 rfl ?_
        have g6 : (0 : Int) ≤ (u.1 1 4).toInt ∧ (u.1 1 4).toInt ≤ 940 := hR 1 4
        refine a_geti F inX10 hP 1 4 tc_1 rfl rfl (by decide) q98 (fun _ h9 => h9) (v := (u.1 1 4)) rfl dX10_readRun_125 ?_
        refine a_ic F (1 : Int32) dX10_readRun_128 (by decide) ?_
        refine a_iaddX F dX10_readRun_129 rfl ic_1 (by omega) (fun v7 hv7 yv7 => ?_)
        have hC := vl_eq hC yv7
        refine a_puti F inX10 tyX10 tyX10_ok nmX10 hP hD hS 1 4 tc_1 rfl rfl (by decide) q98 (fun _ h9 => h9) rfl (ty := .int) (tyX10_ok 4 (by decide)) rfl rfl dX10_readRun_130 (fun H locs hP hD hS => ?_)
        have hR := hR.si (c := 1) (k := 4) (v := v7) (by omega : (0 : Int) ≤ v7.toInt ∧ v7.toInt ≤ 940)
        have hF := hF.si (c := 1) (k := 4) (v := v7) rfl
        refine lv_goto (tgt := 14) F.1 F.2.1 dX10_readRun_133 (by decide) ?_
        exact ih14 x1 x2 _ _ _ _ hR hF (by omega : 940 - v7.toInt < ((n14 : Nat) : Int)) hC hP hD hS (lv_sub hl [0, 1, 2] rfl)
      have L55 : ∀ (x1 : Int32) (x2 : Int32) (u : ac_U) (H : Heap) (locs : List Loc) (ls : Array Slot), ac_R rg u → ac_Fr [(1, some 4), (1, some 6), (1, some 8)] u0 u → (1 : Int) ≤ (u.1 1 2).toInt ∧ (u.1 1 2).toInt ≤ 940 → (0 : Int) ≤ (u.1 1 4).toInt ∧ (u.1 1 4).toInt ≤ 939 → 940 - (u.1 1 4).toInt < ((n14 : Nat) : Int) + 1 → RR = (K_X10_readRun_1_55 (K_X10_readRun_1_14 u0 n14) u0 u x1 x2) → va_P (dC, dI) vwCl (ac_w ad cA (TT nF) u) H → va_D A (ac_w ad cA (TT nF) u) → va_S A s.heap H locs → lv_has ls 3 [(0, .ref (ad 1)), (1, .int x1), (2, .int x2)] → W p l e (ac_rm 2) s m [.ref (ad 1)].toArray below meth c H locs 0 0 (MQ below (va_Qv (fun (u : ac_U) => ac_R rg u ∧ ac_Fr [(1, some 4), (1, some 6), (1, some 8)] u0 u ∧ f_X10_readRun_1 u0 = u) (ac_B (dC, dI) vwCl (ac_ty cA) ad cA (TT nF) A) A) [.ref (ad 1)].toArray s 0 0 A) (F0 m 55 ls []) := by
        intro x1 x2 u H locs ls hR hF f0 f1 f2 hC hP hD hS hl
        unfold K_X10_readRun_1_55 at hC
        refine lv_aload_n F.1 F.2.1 dX10_readRun_55 rfl (lv_at hl 0 rfl) ?_
        refine a_getr F inX10 hP 1 0 tc_1 rfl rfl (by decide) q93 (fun _ h9 => h9) dX10_readRun_56 ?_
        refine lv_aload_n F.1 F.2.1 dX10_readRun_59 rfl (lv_at hl 0 rfl) ?_
        have g8 : (0 : Int) ≤ (u.1 1 4).toInt ∧ (u.1 1 4).toInt ≤ 940 := hR 1 4
        refine a_geti F inX10 hP 1 4 tc_1 rfl rfl (by decide) q98 (fun _ h9 => h9) (v := (u.1 1 4)) rfl dX10_readRun_60 ?_
        refine a_bald F hP 2 tc_2 rfl (i_in rfl (by omega)) dX10_readRun_63 (fun v9 ev9 => ?_)
        have hC := vl_eq hC ev9.symm
        have hv9 : (-128 : Int) ≤ v9.toInt ∧ v9.toInt ≤ 127 := ev9 ▸ hR 2 _
        refine a_Si F hml hl.1 hA hP hD hS (As := [.int v9]) (x_X10_isLetter l dC dI ad cA nF _ v9 hR (by omega)) (cs_RX10_75 (d := 1) F.2.2.1 (by decide)) rfl rfl (Nat.le_of_ble_eq_true rfl) dX10_readRun_64 ⟨Nat.le_refl 0, Nat.le_refl 0⟩ (fun r10 uN10 H locs hq hP hD hS => ?_)
        obtain ⟨hu10, gr10, hz10⟩ := hq
        rw [hu10] at hP hD
        have hC := vl_eq hC hz10.symm
        refine z_eq F 96 dX10_readRun_67 (by decide) rfl (fun c11 => ?_) (fun c11 => ?_)
        · have hC := hC.trans (if_pos c11)
          refine a_iincUX F (k := 2) (fun v12 => [(2, .int v12), (0, .ref (ad 1)), (1, .int x1)]) dX10_readRun_96 hl rfl (by decide) (fun _ => rfl) (fun v12 ls yv12 hl => ?_)
          have hC := vl_eq hC yv12
          refine lv_aload_n F.1 F.2.1 dX10_readRun_99 rfl (lv_at hl 1 rfl) ?_
          refine lv_aload_n F.1 F.2.1 dX10_readRun_100 rfl (lv_at hl 1 rfl) ?_
          refine a_geti F inX10 hP 1 8 tc_1 rfl rfl (by decide) q106 (fun _ h9 => h9) (v := (u.1 1 8)) rfl dX10_readRun_101 ?_
          refine a_bp F (10 : Int32) dX10_readRun_104 (by decide) ?_
          refine a_imulUX F dX10_readRun_106 (fun v13 yv13 => ?_)
          have hC := vl_eq hC yv13
          refine lv_aload_n F.1 F.2.1 dX10_readRun_107 rfl (lv_at hl 1 rfl) ?_
          refine a_getr F inX10 hP 1 0 tc_1 rfl rfl (by decide) q93 (fun _ h9 => h9) dX10_readRun_108 ?_
          refine lv_aload_n F.1 F.2.1 dX10_readRun_111 rfl (lv_at hl 1 rfl) ?_
          refine a_geti F inX10 hP 1 4 tc_1 rfl rfl (by decide) q98 (fun _ h9 => h9) (v := (u.1 1 4)) (rfl) dX10_readRun_112 ?_
          refine a_bald F hP 2 tc_2 rfl (i_in rfl (by omega)) dX10_readRun_115 (fun v14 ev14 => ?_)
          have hC := vl_eq hC ev14.symm
          have hv14 : (-128 : Int) ≤ v14.toInt ∧ v14.toInt ≤ 127 := ev14 ▸ hR 2 _
          refine a_bp F (48 : Int32) dX10_readRun_116 (by decide) ?_
          refine a_isubX F dX10_readRun_118 rfl ic_48 (by omega) (fun v15 hv15 yv15 => ?_)
          have hC := vl_eq hC yv15
          refine a_iaddUX F dX10_readRun_119 (fun v16 yv16 => ?_)
          have hC := vl_eq hC yv16
          refine a_puti F inX10 tyX10 tyX10_ok nmX10 hP hD hS 1 8 tc_1 rfl rfl (by decide) q106 (fun _ h9 => h9) rfl (ty := .int) (tyX10_ok 8 (by decide)) rfl rfl dX10_readRun_120 (fun H locs hP hD hS => ?_)
          have hR := hR.si (c := 1) (k := 8) (v := v16) ⟨i_lo _, i_hi _⟩
          have hF := hF.si (c := 1) (k := 8) (v := v16) rfl
          have g17 : (0 : Int) ≤ (u.1 1 2).toInt ∧ (u.1 1 2).toInt ≤ 940 := hR 1 2
          exact L123 x1 v12 _ _ _ _ hR hF (by omega : (1 : Int) ≤ (u.1 1 2).toInt ∧ (u.1 1 2).toInt ≤ 940) (by omega : (0 : Int) ≤ (u.1 1 4).toInt ∧ (u.1 1 4).toInt ≤ 939) (by omega : 940 - (u.1 1 4).toInt < ((n14 : Nat) : Int) + 1) hC hP hD hS (lv_sub hl [1, 2, 0] rfl)
        · have hC := hC.trans (if_neg (by omega))
          refine a_iincUX F (k := 1) (fun v18 => [(1, .int v18), (0, .ref (ad 1)), (2, .int x2)]) dX10_readRun_70 hl rfl (by decide) (fun _ => rfl) (fun v18 ls yv18 hl => ?_)
          have hC := vl_eq hC yv18
          refine lv_aload_n F.1 F.2.1 dX10_readRun_73 rfl (lv_at hl 1 rfl) ?_
          refine lv_aload_n F.1 F.2.1 dX10_readRun_74 rfl (lv_at hl 1 rfl) ?_
          refine a_getl F inX10 hP 1 7 tc_1 rfl rfl (by decide) q104 (fun _ h9 => h9) (v := (u.2 1 7)) rfl dX10_readRun_75 ?_
          refine lv_aload_n F.1 F.2.1 dX10_readRun_78 rfl (lv_at hl 1 rfl) ?_
          refine a_getr F inX10 hP 1 0 tc_1 rfl rfl (by decide) q93 (fun _ h9 => h9) dX10_readRun_79 ?_
          refine lv_aload_n F.1 F.2.1 dX10_readRun_82 rfl (lv_at hl 1 rfl) ?_
          refine a_geti F inX10 hP 1 4 tc_1 rfl rfl (by decide) q98 (fun _ h9 => h9) (v := (u.1 1 4)) (rfl) dX10_readRun_83 ?_
          refine a_bald F hP 2 tc_2 rfl (i_in rfl (by omega)) dX10_readRun_86 (fun v19 ev19 => ?_)
          have hC := vl_eq hC ev19.symm
          have hv19 : (-128 : Int) ≤ v19.toInt ∧ v19.toInt ≤ 127 := ev19 ▸ hR 2 _
          refine a_Sl F hml hl.1 hA hP hD hS (As := [.long (u.2 1 7), .int v19]) (x_X10_withLetter l dC dI ad cA nF _ (u.2 1 7) v19 hR (by omega)) (cs_RX10_62 (d := 1) F.2.2.1 (by decide)) rfl rfl (Nat.le_of_ble_eq_true rfl) dX10_readRun_87 ⟨Nat.le_refl 0, Nat.le_refl 0⟩ (fun r20 uN20 H locs hq hP hD hS => ?_)
          obtain ⟨hu20, hz20⟩ := hq
          rw [hu20] at hP hD
          have hC := vl_eq hC hz20.symm
          refine a_putl F inX10 tyX10 tyX10_ok nmX10 hP hD hS 1 7 tc_1 rfl rfl (by decide) q104 (fun _ h9 => h9) rfl (tyX10_ok 7 (by decide)) dX10_readRun_90 (fun H locs hP hD hS => ?_)
          have hR := ac_slR hD hR
          have hF := ac_slF hD hF
          refine lv_goto (tgt := 123) F.1 F.2.1 dX10_readRun_93 (by decide) ?_
          have g21 : (0 : Int) ≤ (u.1 1 2).toInt ∧ (u.1 1 2).toInt ≤ 940 := hR 1 2
          exact L123 v18 x2 _ _ _ _ hR hF (by omega : (1 : Int) ≤ (u.1 1 2).toInt ∧ (u.1 1 2).toInt ≤ 940) (by omega : (0 : Int) ≤ (u.1 1 4).toInt ∧ (u.1 1 4).toInt ≤ 939) (by omega : 940 - (u.1 1 4).toInt < ((n14 : Nat) : Int) + 1) hC hP hD hS (lv_sub hl [1, 0, 2] rfl)
      unfold K_X10_readRun_1_14_b at hC
      refine lv_aload_n F.1 F.2.1 dX10_readRun_14 rfl (lv_at hl 0 rfl) ?_
      have g22 : (0 : Int) ≤ (u.1 1 4).toInt ∧ (u.1 1 4).toInt ≤ 940 := hR 1 4
      refine a_geti F inX10 hP 1 4 tc_1 rfl rfl (by decide) q98 (fun _ h9 => h9) (v := (u.1 1 4)) rfl dX10_readRun_15 ?_
      refine lv_aload_n F.1 F.2.1 dX10_readRun_18 rfl (lv_at hl 0 rfl) ?_
      have g23 : (0 : Int) ≤ (u.1 1 2).toInt ∧ (u.1 1 2).toInt ≤ 940 := hR 1 2
      refine a_geti F inX10 hP 1 2 tc_1 rfl rfl (by decide) q95 (fun _ h9 => h9) (v := (u.1 1 2)) rfl dX10_readRun_19 ?_
      refine b_ge F 136 dX10_readRun_22 (by decide) rfl rfl (fun c24 => ?_) (fun c24 => ?_)
      · have hC := hC.trans (if_pos c24)
        exact L136 x1 x2 _ _ _ _ hR hF hC hP hD hS (lv_sub hl [0, 1, 2] rfl)
      · have hC := hC.trans (if_neg (by omega))
        refine lv_aload_n F.1 F.2.1 dX10_readRun_25 rfl (lv_at hl 0 rfl) ?_
        refine a_getr F inX10 hP 1 0 tc_1 rfl rfl (by decide) q93 (fun _ h9 => h9) dX10_readRun_26 ?_
        refine lv_aload_n F.1 F.2.1 dX10_readRun_29 rfl (lv_at hl 0 rfl) ?_
        refine a_geti F inX10 hP 1 4 tc_1 rfl rfl (by decide) q98 (fun _ h9 => h9) (v := (u.1 1 4)) (rfl) dX10_readRun_30 ?_
        refine a_bald F hP 2 tc_2 rfl (i_in rfl (by omega)) dX10_readRun_33 (fun v25 ev25 => ?_)
        have hC := vl_eq hC ev25.symm
        have hv25 : (-128 : Int) ≤ v25.toInt ∧ v25.toInt ≤ 127 := ev25 ▸ hR 2 _
        refine a_Si F hml hl.1 hA hP hD hS (As := [.int v25]) (x_X10_isLetter l dC dI ad cA nF _ v25 hR (by omega)) (cs_RX10_75 (d := 1) F.2.2.1 (by decide)) rfl rfl (Nat.le_of_ble_eq_true rfl) dX10_readRun_34 ⟨Nat.le_refl 0, Nat.le_refl 0⟩ (fun r26 uN26 H locs hq hP hD hS => ?_)
        obtain ⟨hu26, gr26, hz26⟩ := hq
        rw [hu26] at hP hD
        have hC := vl_eq hC hz26.symm
        refine z_ne F 55 dX10_readRun_37 (by decide) rfl (fun c27 => ?_) (fun c27 => ?_)
        · have hC := hC.trans (if_pos c27)
          exact L55 x1 x2 _ _ _ _ hR hF (by omega : (1 : Int) ≤ (u.1 1 2).toInt ∧ (u.1 1 2).toInt ≤ 940) (by omega : (0 : Int) ≤ (u.1 1 4).toInt ∧ (u.1 1 4).toInt ≤ 939) (by omega : 940 - (u.1 1 4).toInt < ((n14 : Nat) : Int) + 1) hC hP hD hS (lv_sub hl [0, 1, 2] rfl)
        · have hC := hC.trans (if_neg (by omega))
          refine lv_aload_n F.1 F.2.1 dX10_readRun_40 rfl (lv_at hl 0 rfl) ?_
          refine a_getr F inX10 hP 1 0 tc_1 rfl rfl (by decide) q93 (fun _ h9 => h9) dX10_readRun_41 ?_
          refine lv_aload_n F.1 F.2.1 dX10_readRun_44 rfl (lv_at hl 0 rfl) ?_
          refine a_geti F inX10 hP 1 4 tc_1 rfl rfl (by decide) q98 (fun _ h9 => h9) (v := (u.1 1 4)) (rfl) dX10_readRun_45 ?_
          refine a_bald F hP 2 tc_2 rfl (i_in rfl (by omega)) dX10_readRun_48 (fun v28 ev28 => ?_)
          have hC := vl_eq hC ev28.symm
          have hv28 : (-128 : Int) ≤ v28.toInt ∧ v28.toInt ≤ 127 := ev28 ▸ hR 2 _
          refine a_Si F hml hl.1 hA hP hD hS (As := [.int v28]) (x_X10_isDigit l dC dI ad cA nF _ v28 hR (by omega)) (cs_RX10_78 (d := 1) F.2.2.1 (by decide)) rfl rfl (Nat.le_of_ble_eq_true rfl) dX10_readRun_49 ⟨Nat.le_refl 0, Nat.le_refl 0⟩ (fun r29 uN29 H locs hq hP hD hS => ?_)
          obtain ⟨hu29, gr29, hz29⟩ := hq
          rw [hu29] at hP hD
          have hC := vl_eq hC hz29.symm
          refine z_eq F 136 dX10_readRun_52 (by decide) rfl (fun c30 => ?_) (fun c30 => ?_)
          · have hC := hC.trans (if_pos c30)
            exact L136 x1 x2 _ _ _ _ hR hF hC hP hD hS (lv_sub hl [0, 1, 2] rfl)
          · have hC := hC.trans (if_neg (by omega))
            exact L55 x1 x2 _ _ _ _ hR hF (by omega : (1 : Int) ≤ (u.1 1 2).toInt ∧ (u.1 1 2).toInt ≤ 940) (by omega : (0 : Int) ≤ (u.1 1 4).toInt ∧ (u.1 1 4).toInt ≤ 939) (by omega : 940 - (u.1 1 4).toInt < ((n14 : Nat) : Int) + 1) hC hP hD hS (lv_sub hl [0, 1, 2] rfl)
  have hC : RR = f_X10_readRun_1 u0 := hRR
  unfold f_X10_readRun_1 at hC
  refine a_ic F (0 : Int32) dX10_readRun_0 (by decide) ?_
  refine lv_istore_n (lv' := [(1, .int (0 : Int32)), (0, .ref (ad 1))]) F.1 F.2.1 dX10_readRun_1 rfl hl (by decide) rfl (fun ls hl => ?_)
  refine a_ic F (0 : Int32) dX10_readRun_2 (by decide) ?_
  refine lv_istore_n (lv' := [(2, .int (0 : Int32)), (1, .int (0 : Int32)), (0, .ref (ad 1))]) F.1 F.2.1 dX10_readRun_3 rfl hl (by decide) rfl (fun ls hl => ?_)
  refine lv_aload_n F.1 F.2.1 dX10_readRun_4 rfl (lv_at hl 2 rfl) ?_
  refine lv_lconst (v := (0 : Int64)) F.1 F.2.1 dX10_readRun_5 (by decide) ?_
  refine a_putl F inX10 tyX10 tyX10_ok nmX10 hP hD hS 1 7 tc_1 rfl rfl (by decide) q104 (fun _ h9 => h9) rfl (tyX10_ok 7 (by decide)) dX10_readRun_6 (fun H locs hP hD hS => ?_)
  have hR := ac_slR hD hR
  have hF := ac_slF hD hF
  refine lv_aload_n F.1 F.2.1 dX10_readRun_9 rfl (lv_at hl 2 rfl) ?_
  refine a_ic F (0 : Int32) dX10_readRun_10 (by decide) ?_
  refine a_puti F inX10 tyX10 tyX10_ok nmX10 hP hD hS 1 8 tc_1 rfl rfl (by decide) q106 (fun _ h9 => h9) rfl (ty := .int) (tyX10_ok 8 (by decide)) rfl rfl dX10_readRun_11 (fun H locs hP hD hS => ?_)
  have hR := hR.si (c := 1) (k := 8) (v := (0 : Int32)) ⟨i_lo _, i_hi _⟩
  have hF := hF.si (c := 1) (k := 8) (v := (0 : Int32)) rfl
  have g31 : (0 : Int) ≤ (u0.1 1 4).toInt ∧ (u0.1 1 4).toInt ≤ 940 := hR 1 4
  exact L14 942 (0 : Int32) (0 : Int32) _ _ _ _ hR hF (by omega : 940 - (u0.1 1 4).toInt < (942 : Int)) hC hP hD hS (lv_sub hl [2, 1, 0] rfl)

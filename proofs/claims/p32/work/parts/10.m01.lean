set_option maxHeartbeats 600000 in
set_option maxRecDepth 100000 in
theorem c_X2_isDeed_4 (l : Launch) (dC : Nat → ClassId) (dI : Nat → Nat → Nat) (ad : Nat → Nat) (cA : Nat → ClassId) (nF : Nat) (u0 : ac_U) (p0 : Int32) (hR : ac_R rg u0) : ac_Mi l yX2_isDeed (.code yX2_isDeed cX2_isDeed 2 (some .boolean) :: TB) 1 (dC, dI) vwCl (ac_ty cA) ad cA (TT nF) [.ref (ad 4), .int p0] u0 (fun (r : Int32) (u : ac_U) => u = u0 ∧ ((0 : Int) ≤ r.toInt ∧ r.toInt ≤ 1) ∧ (r.toInt ≠ 0 → 0 ≤ p0.toInt ∧ p0.toInt < (u0.1 4 5).toInt ∧ p0.toInt ≤ 5)) := by
  refine ac_Mi.of (cc := cX2_isDeed) (maxL := 2) (ret := (some .boolean)) (by decide) rfl (Nat.le_of_ble_eq_true rfl) ?_
  intro p e s m below meth c A ls F hml hr hlocks hA hP hD hS hl
  have F : ac_X p s m [.ref (ad 4), .int p0].toArray c cX2_isDeed RX2 TB (dC, dI) vwCl (ac_ty cA) := ⟨F.1, F.2.1, fun w h => F.2.2.1 w (List.mem_cons_of_mem _ h), F.2.2.2.1, F.2.2.2.2⟩
  have hl : lv_has ls 2 [(0, .ref (ad 4)), (1, .int p0)] := hl
  have L16 : ∀ (H : Heap) (locs : List Loc) (ls : Array Slot), va_P (dC, dI) vwCl (ac_w ad cA (TT nF) u0) H → va_D A (ac_w ad cA (TT nF) u0) → va_S A s.heap H locs → lv_has ls 2 [] → W p l e (ac_rm 1) s m [.ref (ad 4), .int p0].toArray below meth c H locs 0 0 (MQ below (va_Qi (fun (r : Int32) (u : ac_U) => u = u0 ∧ ((0 : Int) ≤ r.toInt ∧ r.toInt ≤ 1) ∧ (r.toInt ≠ 0 → 0 ≤ p0.toInt ∧ p0.toInt < (u0.1 4 5).toInt ∧ p0.toInt ≤ 5)) (ac_B (dC, dI) vwCl (ac_ty cA) ad cA (TT nF) A) A) [.ref (ad 4), .int p0].toArray s 0 0 A) (F0 m 16 ls []) := by
    intro H locs ls hP hD hS hl
    refine a_ic F (0 : Int32) dX2_isDeed_16 (by decide) ?_
    exact a_retz F hr hlocks hP hD hS dX2_isDeed_17 (Or.inl rfl) ⟨rfl, (by decide), (by first | exact (by omega : (0 : Int) ≠ 0 → 0 ≤ p0.toInt ∧ p0.toInt < (u0.1 4 5).toInt ∧ p0.toInt ≤ 5) | (rw [ic_0]; exact (by omega : (0 : Int) ≠ 0 → 0 ≤ p0.toInt ∧ p0.toInt < (u0.1 4 5).toInt ∧ p0.toInt ≤ 5)))⟩
  refine lv_iload_n F.1 F.2.1 dX2_isDeed_0 rfl (lv_at hl 1 rfl) ?_
  refine z_lt F 16 dX2_isDeed_1 (by decide) rfl (fun c1 => ?_) (fun c1 => ?_)
  · exact L16 _ _ _  hP hD hS (lv_sub hl [] rfl)
  · refine lv_iload_n F.1 F.2.1 dX2_isDeed_4 rfl (lv_at hl 1 rfl) ?_
    refine lv_aload_n F.1 F.2.1 dX2_isDeed_5 rfl (lv_at hl 0 rfl) ?_
    have g2 : (0 : Int) ≤ (u0.1 4 5).toInt ∧ (u0.1 4 5).toInt ≤ 6 := hR 4 5
    refine a_geti F inX2 hP 4 5 tc_4 rfl rfl (by decide) q173 (fun _ h9 => h9) (v := (u0.1 4 5)) rfl dX2_isDeed_6 ?_
    refine b_ge F 16 dX2_isDeed_9 (by decide) rfl rfl (fun c3 => ?_) (fun c3 => ?_)
    · exact L16 _ _ _  hP hD hS (lv_sub hl [] rfl)
    · refine a_ic F (1 : Int32) dX2_isDeed_12 (by decide) ?_
      refine lv_goto (tgt := 17) F.1 F.2.1 dX2_isDeed_13 (by decide) ?_
      exact a_retz F hr hlocks hP hD hS dX2_isDeed_17 (Or.inr rfl) ⟨rfl, (by decide), (by first | exact (by omega : (1 : Int) ≠ 0 → 0 ≤ p0.toInt ∧ p0.toInt < (u0.1 4 5).toInt ∧ p0.toInt ≤ 5) | (rw [ic_1]; exact (by omega : (1 : Int) ≠ 0 → 0 ≤ p0.toInt ∧ p0.toInt < (u0.1 4 5).toInt ∧ p0.toInt ≤ 5)))⟩
set_option maxHeartbeats 600000 in
set_option maxRecDepth 100000 in
theorem c_X2_isFrog_4 (l : Launch) (dC : Nat → ClassId) (dI : Nat → Nat → Nat) (ad : Nat → Nat) (cA : Nat → ClassId) (nF : Nat) (u0 : ac_U) (p0 : Int32) (hR : ac_R rg u0) : ac_Mi l yX2_isFrog (.code yX2_isFrog cX2_isFrog 2 (some .boolean) :: TB) 1 (dC, dI) vwCl (ac_ty cA) ad cA (TT nF) [.ref (ad 4), .int p0] u0 (fun (r : Int32) (u : ac_U) => u = u0 ∧ ((0 : Int) ≤ r.toInt ∧ r.toInt ≤ 1) ∧ (r.toInt ≠ 0 → 0 ≤ p0.toInt ∧ p0.toInt < (u0.1 4 3).toInt ∧ p0.toInt ≤ 5)) := by
  refine ac_Mi.of (cc := cX2_isFrog) (maxL := 2) (ret := (some .boolean)) (by decide) rfl (Nat.le_of_ble_eq_true rfl) ?_
  intro p e s m below meth c A ls F hml hr hlocks hA hP hD hS hl
  have F : ac_X p s m [.ref (ad 4), .int p0].toArray c cX2_isFrog RX2 TB (dC, dI) vwCl (ac_ty cA) := ⟨F.1, F.2.1, fun w h => F.2.2.1 w (List.mem_cons_of_mem _ h), F.2.2.2.1, F.2.2.2.2⟩
  have hl : lv_has ls 2 [(0, .ref (ad 4)), (1, .int p0)] := hl
  have L16 : ∀ (H : Heap) (locs : List Loc) (ls : Array Slot), va_P (dC, dI) vwCl (ac_w ad cA (TT nF) u0) H → va_D A (ac_w ad cA (TT nF) u0) → va_S A s.heap H locs → lv_has ls 2 [] → W p l e (ac_rm 1) s m [.ref (ad 4), .int p0].toArray below meth c H locs 0 0 (MQ below (va_Qi (fun (r : Int32) (u : ac_U) => u = u0 ∧ ((0 : Int) ≤ r.toInt ∧ r.toInt ≤ 1) ∧ (r.toInt ≠ 0 → 0 ≤ p0.toInt ∧ p0.toInt < (u0.1 4 3).toInt ∧ p0.toInt ≤ 5)) (ac_B (dC, dI) vwCl (ac_ty cA) ad cA (TT nF) A) A) [.ref (ad 4), .int p0].toArray s 0 0 A) (F0 m 16 ls []) := by
    intro H locs ls hP hD hS hl
    refine a_ic F (0 : Int32) dX2_isFrog_16 (by decide) ?_
    exact a_retz F hr hlocks hP hD hS dX2_isFrog_17 (Or.inl rfl) ⟨rfl, (by decide), (by first | exact (by omega : (0 : Int) ≠ 0 → 0 ≤ p0.toInt ∧ p0.toInt < (u0.1 4 3).toInt ∧ p0.toInt ≤ 5) | (rw [ic_0]; exact (by omega : (0 : Int) ≠ 0 → 0 ≤ p0.toInt ∧ p0.toInt < (u0.1 4 3).toInt ∧ p0.toInt ≤ 5)))⟩
  refine lv_iload_n F.1 F.2.1 dX2_isFrog_0 rfl (lv_at hl 1 rfl) ?_
  refine z_lt F 16 dX2_isFrog_1 (by decide) rfl (fun c1 => ?_) (fun c1 => ?_)
  · exact L16 _ _ _  hP hD hS (lv_sub hl [] rfl)
  · refine lv_iload_n F.1 F.2.1 dX2_isFrog_4 rfl (lv_at hl 1 rfl) ?_
    refine lv_aload_n F.1 F.2.1 dX2_isFrog_5 rfl (lv_at hl 0 rfl) ?_
    have g2 : (0 : Int) ≤ (u0.1 4 3).toInt ∧ (u0.1 4 3).toInt ≤ 6 := hR 4 3
    refine a_geti F inX2 hP 4 3 tc_4 rfl rfl (by decide) q165 (fun _ h9 => h9) (v := (u0.1 4 3)) rfl dX2_isFrog_6 ?_
    refine b_ge F 16 dX2_isFrog_9 (by decide) rfl rfl (fun c3 => ?_) (fun c3 => ?_)
    · exact L16 _ _ _  hP hD hS (lv_sub hl [] rfl)
    · refine a_ic F (1 : Int32) dX2_isFrog_12 (by decide) ?_
      refine lv_goto (tgt := 17) F.1 F.2.1 dX2_isFrog_13 (by decide) ?_
      exact a_retz F hr hlocks hP hD hS dX2_isFrog_17 (Or.inr rfl) ⟨rfl, (by decide), (by first | exact (by omega : (1 : Int) ≠ 0 → 0 ≤ p0.toInt ∧ p0.toInt < (u0.1 4 3).toInt ∧ p0.toInt ≤ 5) | (rw [ic_1]; exact (by omega : (1 : Int) ≠ 0 → 0 ≤ p0.toInt ∧ p0.toInt < (u0.1 4 3).toInt ∧ p0.toInt ≤ 5)))⟩
set_option maxHeartbeats 600000 in
set_option maxRecDepth 100000 in
theorem c_X2_isPerson_4 (l : Launch) (dC : Nat → ClassId) (dI : Nat → Nat → Nat) (ad : Nat → Nat) (cA : Nat → ClassId) (nF : Nat) (u0 : ac_U) (p0 : Int32) (hR : ac_R rg u0) : ac_Mi l yX2_isPerson (.code yX2_isPerson cX2_isPerson 2 (some .boolean) :: TB) 1 (dC, dI) vwCl (ac_ty cA) ad cA (TT nF) [.ref (ad 4), .int p0] u0 (fun (r : Int32) (u : ac_U) => u = u0 ∧ ((0 : Int) ≤ r.toInt ∧ r.toInt ≤ 1) ∧ (r.toInt ≠ 0 → 0 ≤ p0.toInt ∧ p0.toInt < (u0.1 4 4).toInt ∧ p0.toInt ≤ 3)) := by
  refine ac_Mi.of (cc := cX2_isPerson) (maxL := 2) (ret := (some .boolean)) (by decide) rfl (Nat.le_of_ble_eq_true rfl) ?_
  intro p e s m below meth c A ls F hml hr hlocks hA hP hD hS hl
  have F : ac_X p s m [.ref (ad 4), .int p0].toArray c cX2_isPerson RX2 TB (dC, dI) vwCl (ac_ty cA) := ⟨F.1, F.2.1, fun w h => F.2.2.1 w (List.mem_cons_of_mem _ h), F.2.2.2.1, F.2.2.2.2⟩
  have hl : lv_has ls 2 [(0, .ref (ad 4)), (1, .int p0)] := hl
  have L16 : ∀ (H : Heap) (locs : List Loc) (ls : Array Slot), va_P (dC, dI) vwCl (ac_w ad cA (TT nF) u0) H → va_D A (ac_w ad cA (TT nF) u0) → va_S A s.heap H locs → lv_has ls 2 [] → W p l e (ac_rm 1) s m [.ref (ad 4), .int p0].toArray below meth c H locs 0 0 (MQ below (va_Qi (fun (r : Int32) (u : ac_U) => u = u0 ∧ ((0 : Int) ≤ r.toInt ∧ r.toInt ≤ 1) ∧ (r.toInt ≠ 0 → 0 ≤ p0.toInt ∧ p0.toInt < (u0.1 4 4).toInt ∧ p0.toInt ≤ 3)) (ac_B (dC, dI) vwCl (ac_ty cA) ad cA (TT nF) A) A) [.ref (ad 4), .int p0].toArray s 0 0 A) (F0 m 16 ls []) := by
    intro H locs ls hP hD hS hl
    refine a_ic F (0 : Int32) dX2_isPerson_16 (by decide) ?_
    exact a_retz F hr hlocks hP hD hS dX2_isPerson_17 (Or.inl rfl) ⟨rfl, (by decide), (by first | exact (by omega : (0 : Int) ≠ 0 → 0 ≤ p0.toInt ∧ p0.toInt < (u0.1 4 4).toInt ∧ p0.toInt ≤ 3) | (rw [ic_0]; exact (by omega : (0 : Int) ≠ 0 → 0 ≤ p0.toInt ∧ p0.toInt < (u0.1 4 4).toInt ∧ p0.toInt ≤ 3)))⟩
  refine lv_iload_n F.1 F.2.1 dX2_isPerson_0 rfl (lv_at hl 1 rfl) ?_
  refine z_lt F 16 dX2_isPerson_1 (by decide) rfl (fun c1 => ?_) (fun c1 => ?_)
  · exact L16 _ _ _  hP hD hS (lv_sub hl [] rfl)
  · refine lv_iload_n F.1 F.2.1 dX2_isPerson_4 rfl (lv_at hl 1 rfl) ?_
    refine lv_aload_n F.1 F.2.1 dX2_isPerson_5 rfl (lv_at hl 0 rfl) ?_
    have g2 : (0 : Int) ≤ (u0.1 4 4).toInt ∧ (u0.1 4 4).toInt ≤ 4 := hR 4 4
    refine a_geti F inX2 hP 4 4 tc_4 rfl rfl (by decide) q169 (fun _ h9 => h9) (v := (u0.1 4 4)) rfl dX2_isPerson_6 ?_
    refine b_ge F 16 dX2_isPerson_9 (by decide) rfl rfl (fun c3 => ?_) (fun c3 => ?_)
    · exact L16 _ _ _  hP hD hS (lv_sub hl [] rfl)
    · refine a_ic F (1 : Int32) dX2_isPerson_12 (by decide) ?_
      refine lv_goto (tgt := 17) F.1 F.2.1 dX2_isPerson_13 (by decide) ?_
      exact a_retz F hr hlocks hP hD hS dX2_isPerson_17 (Or.inr rfl) ⟨rfl, (by decide), (by first | exact (by omega : (1 : Int) ≠ 0 → 0 ≤ p0.toInt ∧ p0.toInt < (u0.1 4 4).toInt ∧ p0.toInt ≤ 3) | (rw [ic_1]; exact (by omega : (1 : Int) ≠ 0 → 0 ≤ p0.toInt ∧ p0.toInt < (u0.1 4 4).toInt ∧ p0.toInt ≤ 3)))⟩
set_option maxHeartbeats 600000 in
set_option maxRecDepth 100000 in
theorem c_X2_isPlace_4 (l : Launch) (dC : Nat → ClassId) (dI : Nat → Nat → Nat) (ad : Nat → Nat) (cA : Nat → ClassId) (nF : Nat) (u0 : ac_U) (p0 : Int32) (hR : ac_R rg u0) : ac_Mi l yX2_isPlace (.code yX2_isPlace cX2_isPlace 2 (some .boolean) :: TB) 1 (dC, dI) vwCl (ac_ty cA) ad cA (TT nF) [.ref (ad 4), .int p0] u0 (fun (r : Int32) (u : ac_U) => u = u0 ∧ ((0 : Int) ≤ r.toInt ∧ r.toInt ≤ 1) ∧ (r.toInt ≠ 0 → 0 ≤ p0.toInt ∧ p0.toInt < (u0.1 4 1).toInt ∧ p0.toInt ≤ 7)) := by
  refine ac_Mi.of (cc := cX2_isPlace) (maxL := 2) (ret := (some .boolean)) (by decide) rfl (Nat.le_of_ble_eq_true rfl) ?_
  intro p e s m below meth c A ls F hml hr hlocks hA hP hD hS hl
  have F : ac_X p s m [.ref (ad 4), .int p0].toArray c cX2_isPlace RX2 TB (dC, dI) vwCl (ac_ty cA) := ⟨F.1, F.2.1, fun w h => F.2.2.1 w (List.mem_cons_of_mem _ h), F.2.2.2.1, F.2.2.2.2⟩
  have hl : lv_has ls 2 [(0, .ref (ad 4)), (1, .int p0)] := hl
  have L16 : ∀ (H : Heap) (locs : List Loc) (ls : Array Slot), va_P (dC, dI) vwCl (ac_w ad cA (TT nF) u0) H → va_D A (ac_w ad cA (TT nF) u0) → va_S A s.heap H locs → lv_has ls 2 [] → W p l e (ac_rm 1) s m [.ref (ad 4), .int p0].toArray below meth c H locs 0 0 (MQ below (va_Qi (fun (r : Int32) (u : ac_U) => u = u0 ∧ ((0 : Int) ≤ r.toInt ∧ r.toInt ≤ 1) ∧ (r.toInt ≠ 0 → 0 ≤ p0.toInt ∧ p0.toInt < (u0.1 4 1).toInt ∧ p0.toInt ≤ 7)) (ac_B (dC, dI) vwCl (ac_ty cA) ad cA (TT nF) A) A) [.ref (ad 4), .int p0].toArray s 0 0 A) (F0 m 16 ls []) := by
    intro H locs ls hP hD hS hl
    refine a_ic F (0 : Int32) dX2_isPlace_16 (by decide) ?_
    exact a_retz F hr hlocks hP hD hS dX2_isPlace_17 (Or.inl rfl) ⟨rfl, (by decide), (by first | exact (by omega : (0 : Int) ≠ 0 → 0 ≤ p0.toInt ∧ p0.toInt < (u0.1 4 1).toInt ∧ p0.toInt ≤ 7) | (rw [ic_0]; exact (by omega : (0 : Int) ≠ 0 → 0 ≤ p0.toInt ∧ p0.toInt < (u0.1 4 1).toInt ∧ p0.toInt ≤ 7)))⟩
  refine lv_iload_n F.1 F.2.1 dX2_isPlace_0 rfl (lv_at hl 1 rfl) ?_
  refine z_lt F 16 dX2_isPlace_1 (by decide) rfl (fun c1 => ?_) (fun c1 => ?_)
  · exact L16 _ _ _  hP hD hS (lv_sub hl [] rfl)
  · refine lv_iload_n F.1 F.2.1 dX2_isPlace_4 rfl (lv_at hl 1 rfl) ?_
    refine lv_aload_n F.1 F.2.1 dX2_isPlace_5 rfl (lv_at hl 0 rfl) ?_
    have g2 : (0 : Int) ≤ (u0.1 4 1).toInt ∧ (u0.1 4 1).toInt ≤ 8 := hR 4 1
    refine a_geti F inX2 hP 4 1 tc_4 rfl rfl (by decide) q157 (fun _ h9 => h9) (v := (u0.1 4 1)) rfl dX2_isPlace_6 ?_
    refine b_ge F 16 dX2_isPlace_9 (by decide) rfl rfl (fun c3 => ?_) (fun c3 => ?_)
    · exact L16 _ _ _  hP hD hS (lv_sub hl [] rfl)
    · refine a_ic F (1 : Int32) dX2_isPlace_12 (by decide) ?_
      refine lv_goto (tgt := 17) F.1 F.2.1 dX2_isPlace_13 (by decide) ?_
      exact a_retz F hr hlocks hP hD hS dX2_isPlace_17 (Or.inr rfl) ⟨rfl, (by decide), (by first | exact (by omega : (1 : Int) ≠ 0 → 0 ≤ p0.toInt ∧ p0.toInt < (u0.1 4 1).toInt ∧ p0.toInt ≤ 7) | (rw [ic_1]; exact (by omega : (1 : Int) ≠ 0 → 0 ≤ p0.toInt ∧ p0.toInt < (u0.1 4 1).toInt ∧ p0.toInt ≤ 7)))⟩
set_option maxHeartbeats 600000 in
set_option maxRecDepth 100000 in
theorem c_X2_isPromise_4 (l : Launch) (dC : Nat → ClassId) (dI : Nat → Nat → Nat) (ad : Nat → Nat) (cA : Nat → ClassId) (nF : Nat) (u0 : ac_U) (p0 : Int32) (hR : ac_R rg u0) : ac_Mi l yX2_isPromise (.code yX2_isPromise cX2_isPromise 2 (some .boolean) :: TB) 1 (dC, dI) vwCl (ac_ty cA) ad cA (TT nF) [.ref (ad 4), .int p0] u0 (fun (r : Int32) (u : ac_U) => u = u0 ∧ ((0 : Int) ≤ r.toInt ∧ r.toInt ≤ 1) ∧ (r.toInt ≠ 0 → 0 ≤ p0.toInt ∧ p0.toInt < (u0.1 4 6).toInt ∧ p0.toInt ≤ 7)) := by
  refine ac_Mi.of (cc := cX2_isPromise) (maxL := 2) (ret := (some .boolean)) (by decide) rfl (Nat.le_of_ble_eq_true rfl) ?_
  intro p e s m below meth c A ls F hml hr hlocks hA hP hD hS hl
  have F : ac_X p s m [.ref (ad 4), .int p0].toArray c cX2_isPromise RX2 TB (dC, dI) vwCl (ac_ty cA) := ⟨F.1, F.2.1, fun w h => F.2.2.1 w (List.mem_cons_of_mem _ h), F.2.2.2.1, F.2.2.2.2⟩
  have hl : lv_has ls 2 [(0, .ref (ad 4)), (1, .int p0)] := hl
  have L16 : ∀ (H : Heap) (locs : List Loc) (ls : Array Slot), va_P (dC, dI) vwCl (ac_w ad cA (TT nF) u0) H → va_D A (ac_w ad cA (TT nF) u0) → va_S A s.heap H locs → lv_has ls 2 [] → W p l e (ac_rm 1) s m [.ref (ad 4), .int p0].toArray below meth c H locs 0 0 (MQ below (va_Qi (fun (r : Int32) (u : ac_U) => u = u0 ∧ ((0 : Int) ≤ r.toInt ∧ r.toInt ≤ 1) ∧ (r.toInt ≠ 0 → 0 ≤ p0.toInt ∧ p0.toInt < (u0.1 4 6).toInt ∧ p0.toInt ≤ 7)) (ac_B (dC, dI) vwCl (ac_ty cA) ad cA (TT nF) A) A) [.ref (ad 4), .int p0].toArray s 0 0 A) (F0 m 16 ls []) := by
    intro H locs ls hP hD hS hl
    refine a_ic F (0 : Int32) dX2_isPromise_16 (by decide) ?_
    exact a_retz F hr hlocks hP hD hS dX2_isPromise_17 (Or.inl rfl) ⟨rfl, (by decide), (by first | exact (by omega : (0 : Int) ≠ 0 → 0 ≤ p0.toInt ∧ p0.toInt < (u0.1 4 6).toInt ∧ p0.toInt ≤ 7) | (rw [ic_0]; exact (by omega : (0 : Int) ≠ 0 → 0 ≤ p0.toInt ∧ p0.toInt < (u0.1 4 6).toInt ∧ p0.toInt ≤ 7)))⟩
  refine lv_iload_n F.1 F.2.1 dX2_isPromise_0 rfl (lv_at hl 1 rfl) ?_
  refine z_lt F 16 dX2_isPromise_1 (by decide) rfl (fun c1 => ?_) (fun c1 => ?_)
  · exact L16 _ _ _  hP hD hS (lv_sub hl [] rfl)
  · refine lv_iload_n F.1 F.2.1 dX2_isPromise_4 rfl (lv_at hl 1 rfl) ?_
    refine lv_aload_n F.1 F.2.1 dX2_isPromise_5 rfl (lv_at hl 0 rfl) ?_
    have g2 : (0 : Int) ≤ (u0.1 4 6).toInt ∧ (u0.1 4 6).toInt ≤ 8 := hR 4 6
    refine a_geti F inX2 hP 4 6 tc_4 rfl rfl (by decide) q178 (fun _ h9 => h9) (v := (u0.1 4 6)) rfl dX2_isPromise_6 ?_
    refine b_ge F 16 dX2_isPromise_9 (by decide) rfl rfl (fun c3 => ?_) (fun c3 => ?_)
    · exact L16 _ _ _  hP hD hS (lv_sub hl [] rfl)
    · refine a_ic F (1 : Int32) dX2_isPromise_12 (by decide) ?_
      refine lv_goto (tgt := 17) F.1 F.2.1 dX2_isPromise_13 (by decide) ?_
      exact a_retz F hr hlocks hP hD hS dX2_isPromise_17 (Or.inr rfl) ⟨rfl, (by decide), (by first | exact (by omega : (1 : Int) ≠ 0 → 0 ≤ p0.toInt ∧ p0.toInt < (u0.1 4 6).toInt ∧ p0.toInt ≤ 7) | (rw [ic_1]; exact (by omega : (1 : Int) ≠ 0 → 0 ≤ p0.toInt ∧ p0.toInt < (u0.1 4 6).toInt ∧ p0.toInt ≤ 7)))⟩
set_option maxHeartbeats 600000 in
set_option maxRecDepth 100000 in
theorem c_X2_ringBits_4 (l : Launch) (dC : Nat → ClassId) (dI : Nat → Nat → Nat) (ad : Nat → Nat) (cA : Nat → ClassId) (nF : Nat) (u0 : ac_U)  (hR : ac_R rg u0) : ac_Mi l yX2_ringBits (.code yX2_ringBits cX2_ringBits 3 (some .int) :: TB) 2 (dC, dI) vwCl (ac_ty cA) ad cA (TT nF) [.ref (ad 4)] u0 (fun (r : Int32) (u : ac_U) => u = u0 ∧ ((0 : Int) ≤ r.toInt ∧ r.toInt ≤ 255)) := by
  refine ac_Mi.of (cc := cX2_ringBits) (maxL := 3) (ret := (some .int)) (by decide) rfl (Nat.le_of_ble_eq_true rfl) ?_
  intro p e s m below meth c A ls F hml hr hlocks hA hP hD hS hl
  have F : ac_X p s m [.ref (ad 4)].toArray c cX2_ringBits RX2 TB (dC, dI) vwCl (ac_ty cA) := ⟨F.1, F.2.1, fun w h => F.2.2.1 w (List.mem_cons_of_mem _ h), F.2.2.2.1, F.2.2.2.2⟩
  have hl : lv_has ls 3 [(0, .ref (ad 4))] := hl
  have L4 : ∀ (n4 : Nat) (x1 : Int32) (x2 : Int32) (H : Heap) (locs : List Loc) (ls : Array Slot), 8 - x2.toInt < (n4 : Int) → (0 : Int) ≤ x1.toInt ∧ x1.toInt ≤ 255 → (0 : Int) ≤ x2.toInt ∧ x2.toInt ≤ 8 → va_P (dC, dI) vwCl (ac_w ad cA (TT nF) u0) H → va_D A (ac_w ad cA (TT nF) u0) → va_S A s.heap H locs → lv_has ls 3 [(0, .ref (ad 4)), (1, .int x1), (2, .int x2)] → W p l e (ac_rm 2) s m [.ref (ad 4)].toArray below meth c H locs 0 0 (MQ below (va_Qi (fun (r : Int32) (u : ac_U) => u = u0 ∧ ((0 : Int) ≤ r.toInt ∧ r.toInt ≤ 255)) (ac_B (dC, dI) vwCl (ac_ty cA) ad cA (TT nF) A) A) [.ref (ad 4)].toArray s 0 0 A) (F0 m 4 ls []) := by
    intro n4
    induction n4 with
    | zero => intro x1 x2 H locs ls hn4 f0 f1 hP hD hS hl; exfalso; omega
    | succ n4 ih4 =>
      intro x1 x2 H locs ls hn4 f0 f1 hP hD hS hl
      refine lv_iload_n F.1 F.2.1 dX2_ringBits_4 rfl (lv_at hl 2 rfl) ?_
      refine lv_aload_n F.1 F.2.1 dX2_ringBits_5 rfl (lv_at hl 0 rfl) ?_
      have g1 : (0 : Int) ≤ (u0.1 4 6).toInt ∧ (u0.1 4 6).toInt ≤ 8 := hR 4 6
      refine a_geti F inX2 hP 4 6 tc_4 rfl rfl (by decide) q178 (fun _ h9 => h9) (v := (u0.1 4 6)) rfl dX2_ringBits_6 ?_
      refine b_ge F 32 dX2_ringBits_9 (by decide) rfl rfl (fun c2 => ?_) (fun c2 => ?_)
      · refine lv_iload_n F.1 F.2.1 dX2_ringBits_32 rfl (lv_at hl 1 rfl) ?_
        exact a_reti F hr hlocks hP hD hS dX2_ringBits_33 ⟨rfl, (by omega : (0 : Int) ≤ x1.toInt ∧ x1.toInt ≤ 255)⟩
      · refine lv_iload_n F.1 F.2.1 dX2_ringBits_12 rfl (lv_at hl 1 rfl) ?_
        refine lv_aload_n F.1 F.2.1 dX2_ringBits_13 rfl (lv_at hl 0 rfl) ?_
        refine a_ic F (1 : Int32) dX2_ringBits_14 (by decide) ?_
        refine lv_iload_n F.1 F.2.1 dX2_ringBits_15 rfl (lv_at hl 2 rfl) ?_
        refine a_ishl1 F dX2_ringBits_16 rfl (lo := 0) (hi := 7) (by omega) (by decide) (fun v3 hv3 => ?_)
        have hv3 : (1 : Int) ≤ v3.toInt ∧ v3.toInt ≤ 128 := hv3
        refine a_Vi F hml hl.1 hA hP hD hS (As := [.int v3]) (c_X2_brokenWith_4 l dC dI ad cA nF _ v3 hR (by omega)) (cs_RX2_89 (d := 1) F.2.2.1 (by decide)) tc_4 rfl rfl rfl rfl (Nat.le_of_ble_eq_true rfl) dX2_ringBits_17 ⟨Nat.le_refl 0, Nat.le_refl 0⟩ (fun r4 uN4 H locs hq hP hD hS => ?_)
        have hu4 := hq
        rw [hu4] at hP hD
        refine a_ic F (1 : Int32) dX2_ringBits_20 (by decide) ?_
        refine lv_iload_n F.1 F.2.1 dX2_ringBits_21 rfl (lv_at hl 2 rfl) ?_
        refine a_ishl1 F dX2_ringBits_22 rfl (lo := 0) (hi := 7) (by omega) (by decide) (fun v5 hv5 => ?_)
        have hv5 : (1 : Int) ≤ v5.toInt ∧ v5.toInt ≤ 128 := hv5
        refine a_iandM F dX2_ringBits_23 rfl (by omega) (fun v6 hv6 => ?_)
        refine a_iorB F dX2_ringBits_24 rfl rfl (n := 8) (m' := 256) rfl (by decide) (by omega) (by omega) (fun v7 hv7 => ?_)
        refine lv_istore_n (lv' := [(1, .int v7), (0, .ref (ad 4)), (2, .int x2)]) F.1 F.2.1 dX2_ringBits_25 rfl hl (by decide) rfl (fun ls hl => ?_)
        refine a_iinc F (k := 2) (fun v8 => [(2, .int v8), (1, .int v7), (0, .ref (ad 4))]) dX2_ringBits_26 hl rfl rfl (by decide) (by omega) (by decide) (fun _ => rfl) (fun v8 ls hv8 hl => ?_)
        refine lv_goto (tgt := 4) F.1 F.2.1 dX2_ringBits_29 (by decide) ?_
        exact ih4 v7 v8 _ _ _ (by omega) (by omega) (by omega) hP hD hS (lv_sub hl [2, 1, 0] rfl)
  refine a_ic F (0 : Int32) dX2_ringBits_0 (by decide) ?_
  refine lv_istore_n (lv' := [(1, .int (0 : Int32)), (0, .ref (ad 4))]) F.1 F.2.1 dX2_ringBits_1 rfl hl (by decide) rfl (fun ls hl => ?_)
  refine a_ic F (0 : Int32) dX2_ringBits_2 (by decide) ?_
  refine lv_istore_n (lv' := [(2, .int (0 : Int32)), (1, .int (0 : Int32)), (0, .ref (ad 4))]) F.1 F.2.1 dX2_ringBits_3 rfl hl (by decide) rfl (fun ls hl => ?_)
  exact L4 10 (0 : Int32) (0 : Int32) _ _ _ (by decide) (by decide) (by decide) hP hD hS (lv_sub hl [2, 1, 0] rfl)
set_option maxHeartbeats 600000 in
set_option maxRecDepth 100000 in
theorem c_J6_bitCount_0f7a4 (l : Launch) (dC : Nat → ClassId) (dI : Nat → Nat → Nat) (ad : Nat → Nat) (cA : Nat → ClassId) (nF : Nat) (u0 : ac_U) (p0 : Int32) (hR : ac_R rg u0) (hp0 : (0 : Int) ≤ p0.toInt ∧ p0.toInt ≤ 255) : ac_Mi l yJ6_bitCount_0f7a4 (.code yJ6_bitCount_0f7a4 cJ6_bitCount_0f7a4 1 (some .int) :: TB) 1 (dC, dI) vwCl (ac_ty cA) ad cA (TT nF) [.int p0] u0 (fun (r : Int32) (u : ac_U) => u = u0 ∧ ((0 : Int) ≤ r.toInt ∧ r.toInt ≤ 63)) := by
  refine ac_Mi.of (cc := cJ6_bitCount_0f7a4) (maxL := 1) (ret := (some .int)) (by decide) rfl (Nat.le_of_ble_eq_true rfl) ?_
  intro p e s m below meth c A ls F hml hr hlocks hA hP hD hS hl
  have F : ac_X p s m [.int p0].toArray c cJ6_bitCount_0f7a4 RJ6 TB (dC, dI) vwCl (ac_ty cA) := ⟨F.1, F.2.1, fun w h => F.2.2.1 w (List.mem_cons_of_mem _ h), F.2.2.2.1, F.2.2.2.2⟩
  have hl : lv_has ls 1 [(0, .int p0)] := hl
  refine lv_iload_n F.1 F.2.1 dJ6_bitCount_0f7a4_0 rfl (lv_at hl 0 rfl) ?_
  refine lv_iload_n F.1 F.2.1 dJ6_bitCount_0f7a4_1 rfl (lv_at hl 0 rfl) ?_
  refine a_ic F (1 : Int32) dJ6_bitCount_0f7a4_2 (by decide) ?_
  refine a_iushrC F dJ6_bitCount_0f7a4_3 (n := 1) (by decide) (by decide) (fun v1 hv1 => ?_)
  have hv1 : (0 : Int) ≤ v1.toInt := hv1.1
  refine lv_ldcw (v := (1431655765 : Int32)) F.1 F.2.1 F.2.2.2.1 (F.2.2.1 _ q1081) dJ6_bitCount_0f7a4_4 ?_
  refine a_iandM F dJ6_bitCount_0f7a4_7 ic_1431655765 (by omega) (fun v2 hv2 => ?_)
  refine a_isub F dJ6_bitCount_0f7a4_8 rfl rfl (by omega) (fun v3 hv3 => ?_)
  refine lv_istore_n (lv' := [(0, .int v3)]) F.1 F.2.1 dJ6_bitCount_0f7a4_9 rfl hl (by decide) rfl (fun ls hl => ?_)
  refine lv_iload_n F.1 F.2.1 dJ6_bitCount_0f7a4_10 rfl (lv_at hl 0 rfl) ?_
  refine lv_ldcw (v := (858993459 : Int32)) F.1 F.2.1 F.2.2.2.1 (F.2.2.1 _ q1082) dJ6_bitCount_0f7a4_11 ?_
  refine a_iandM F dJ6_bitCount_0f7a4_14 ic_858993459 (by omega) (fun v4 hv4 => ?_)
  refine lv_iload_n F.1 F.2.1 dJ6_bitCount_0f7a4_15 rfl (lv_at hl 0 rfl) ?_
  refine a_ic F (2 : Int32) dJ6_bitCount_0f7a4_16 (by decide) ?_
  refine a_iushrC F dJ6_bitCount_0f7a4_17 (n := 2) (by decide) (by decide) (fun v5 hv5 => ?_)
  have hv5 : (0 : Int) ≤ v5.toInt ∧ v5.toInt ≤ 1073741823 := hv5
  refine lv_ldcw (v := (858993459 : Int32)) F.1 F.2.1 F.2.2.2.1 (F.2.2.1 _ q1082) dJ6_bitCount_0f7a4_18 ?_
  refine a_iandM F dJ6_bitCount_0f7a4_21 ic_858993459 (by omega) (fun v6 hv6 => ?_)
  refine a_iadd F dJ6_bitCount_0f7a4_22 rfl rfl (by omega) (fun v7 hv7 => ?_)
  refine lv_istore_n (lv' := [(0, .int v7)]) F.1 F.2.1 dJ6_bitCount_0f7a4_23 rfl hl (by decide) rfl (fun ls hl => ?_)
  refine lv_iload_n F.1 F.2.1 dJ6_bitCount_0f7a4_24 rfl (lv_at hl 0 rfl) ?_
  refine lv_iload_n F.1 F.2.1 dJ6_bitCount_0f7a4_25 rfl (lv_at hl 0 rfl) ?_
  refine a_ic F (4 : Int32) dJ6_bitCount_0f7a4_26 (by decide) ?_
  refine a_iushrC F dJ6_bitCount_0f7a4_27 (n := 4) (by decide) (by decide) (fun v8 hv8 => ?_)
  have hv8 : (0 : Int) ≤ v8.toInt ∧ v8.toInt ≤ 268435455 := hv8
  refine a_iadd F dJ6_bitCount_0f7a4_28 rfl rfl (by omega) (fun v9 hv9 => ?_)
  refine lv_ldcw (v := (252645135 : Int32)) F.1 F.2.1 F.2.2.2.1 (F.2.2.1 _ q1083) dJ6_bitCount_0f7a4_29 ?_
  refine a_iandM F dJ6_bitCount_0f7a4_32 ic_252645135 (by omega) (fun v10 hv10 => ?_)
  refine lv_istore_n (lv' := [(0, .int v10)]) F.1 F.2.1 dJ6_bitCount_0f7a4_33 rfl hl (by decide) rfl (fun ls hl => ?_)
  refine lv_iload_n F.1 F.2.1 dJ6_bitCount_0f7a4_34 rfl (lv_at hl 0 rfl) ?_
  refine lv_iload_n F.1 F.2.1 dJ6_bitCount_0f7a4_35 rfl (lv_at hl 0 rfl) ?_
  refine a_bp F (8 : Int32) dJ6_bitCount_0f7a4_36 (by decide) ?_
  refine a_iushrC F dJ6_bitCount_0f7a4_38 (n := 8) (by decide) (by decide) (fun v11 hv11 => ?_)
  have hv11 : (0 : Int) ≤ v11.toInt ∧ v11.toInt ≤ 16777215 := hv11
  refine a_iadd F dJ6_bitCount_0f7a4_39 rfl rfl (by omega) (fun v12 hv12 => ?_)
  refine lv_istore_n (lv' := [(0, .int v12)]) F.1 F.2.1 dJ6_bitCount_0f7a4_40 rfl hl (by decide) rfl (fun ls hl => ?_)
  refine lv_iload_n F.1 F.2.1 dJ6_bitCount_0f7a4_41 rfl (lv_at hl 0 rfl) ?_
  refine lv_iload_n F.1 F.2.1 dJ6_bitCount_0f7a4_42 rfl (lv_at hl 0 rfl) ?_
  refine a_bp F (16 : Int32) dJ6_bitCount_0f7a4_43 (by decide) ?_
  refine a_iushrC F dJ6_bitCount_0f7a4_45 (n := 16) (by decide) (by decide) (fun v13 hv13 => ?_)
  have hv13 : (0 : Int) ≤ v13.toInt ∧ v13.toInt ≤ 65535 := hv13
  refine a_iadd F dJ6_bitCount_0f7a4_46 rfl rfl (by omega) (fun v14 hv14 => ?_)
  refine lv_istore_n (lv' := [(0, .int v14)]) F.1 F.2.1 dJ6_bitCount_0f7a4_47 rfl hl (by decide) rfl (fun ls hl => ?_)
  refine lv_iload_n F.1 F.2.1 dJ6_bitCount_0f7a4_48 rfl (lv_at hl 0 rfl) ?_
  refine a_bp F (63 : Int32) dJ6_bitCount_0f7a4_49 (by decide) ?_
  refine a_iandM F dJ6_bitCount_0f7a4_51 ic_63 (by omega) (fun v15 hv15 => ?_)
  exact a_reti F hr hlocks hP hD hS dJ6_bitCount_0f7a4_52 ⟨rfl, (by omega : (0 : Int) ≤ v15.toInt ∧ v15.toInt ≤ 63)⟩
set_option maxHeartbeats 600000 in
set_option maxRecDepth 100000 in
theorem c_X2_rootBits_4 (l : Launch) (dC : Nat → ClassId) (dI : Nat → Nat → Nat) (ad : Nat → Nat) (cA : Nat → ClassId) (nF : Nat) (u0 : ac_U)  (hR : ac_R rg u0) : ac_Mi l yX2_rootBits (.code yX2_rootBits cX2_rootBits 4 (some .int) :: TB) 2 (dC, dI) vwCl (ac_ty cA) ad cA (TT nF) [.ref (ad 4)] u0 (fun (r : Int32) (u : ac_U) => u = u0 ∧ ((0 : Int) ≤ r.toInt ∧ r.toInt ≤ 255)) := by
  refine ac_Mi.of (cc := cX2_rootBits) (maxL := 4) (ret := (some .int)) (by decide) rfl (Nat.le_of_ble_eq_true rfl) ?_
  intro p e s m below meth c A ls F hml hr hlocks hA hP hD hS hl
  have F : ac_X p s m [.ref (ad 4)].toArray c cX2_rootBits RX2 TB (dC, dI) vwCl (ac_ty cA) := ⟨F.1, F.2.1, fun w h => F.2.2.1 w (List.mem_cons_of_mem _ h), F.2.2.2.1, F.2.2.2.2⟩
  have hl : lv_has ls 4 [(0, .ref (ad 4))] := hl
  have L13 : ∀ (n13 : Nat) (x1 : Int32) (x2 : Int32) (x3 : Int32) (H : Heap) (locs : List Loc) (ls : Array Slot), 256 - x3.toInt < (n13 : Int) → (0 : Int) ≤ x1.toInt ∧ x1.toInt ≤ 255 → (0 : Int) ≤ x2.toInt ∧ x2.toInt ≤ 255 → (0 : Int) ≤ x3.toInt ∧ x3.toInt ≤ 256 → va_P (dC, dI) vwCl (ac_w ad cA (TT nF) u0) H → va_D A (ac_w ad cA (TT nF) u0) → va_S A s.heap H locs → lv_has ls 4 [(0, .ref (ad 4)), (1, .int x1), (2, .int x2), (3, .int x3)] → W p l e (ac_rm 2) s m [.ref (ad 4)].toArray below meth c H locs 0 0 (MQ below (va_Qi (fun (r : Int32) (u : ac_U) => u = u0 ∧ ((0 : Int) ≤ r.toInt ∧ r.toInt ≤ 255)) (ac_B (dC, dI) vwCl (ac_ty cA) ad cA (TT nF) A) A) [.ref (ad 4)].toArray s 0 0 A) (F0 m 13 ls []) := by
    intro n13
    induction n13 with
    | zero => intro x1 x2 x3 H locs ls hn13 f0 f1 f2 hP hD hS hl; exfalso; omega
    | succ n13 ih13 =>
      intro x1 x2 x3 H locs ls hn13 f0 f1 f2 hP hD hS hl
      have L42 : ∀ (x1 : Int32) (x2 : Int32) (x3 : Int32) (H : Heap) (locs : List Loc) (ls : Array Slot), (0 : Int) ≤ x1.toInt ∧ x1.toInt ≤ 255 → (0 : Int) ≤ x2.toInt ∧ x2.toInt ≤ 255 → (0 : Int) ≤ x3.toInt ∧ x3.toInt ≤ 255 → 256 - x3.toInt + 0 < ((n13 : Nat) : Int) + 1 → va_P (dC, dI) vwCl (ac_w ad cA (TT nF) u0) H → va_D A (ac_w ad cA (TT nF) u0) → va_S A s.heap H locs → lv_has ls 4 [(0, .ref (ad 4)), (1, .int x1), (2, .int x2), (3, .int x3)] → W p l e (ac_rm 2) s m [.ref (ad 4)].toArray below meth c H locs 0 0 (MQ below (va_Qi (fun (r : Int32) (u : ac_U) => u = u0 ∧ ((0 : Int) ≤ r.toInt ∧ r.toInt ≤ 255)) (ac_B (dC, dI) vwCl (ac_ty cA) ad cA (TT nF) A) A) [.ref (ad 4)].toArray s 0 0 A) (F0 m 42 ls []) := by
        intro x1 x2 x3 H locs ls f0 f1 f2 f3 hP hD hS hl
        refine a_iinc F (k := 3) (fun v1 => [(3, .int v1), (0, .ref (ad 4)), (1, .int x1), (2, .int x2)]) dX2_rootBits_42 hl rfl rfl (by decide) (by omega) (by decide) (fun _ => rfl) (fun v1 ls hv1 hl => ?_)
        refine lv_goto (tgt := 13) F.1 F.2.1 dX2_rootBits_45 (by decide) ?_
        exact ih13 x1 x2 v1 _ _ _ (by omega) (by omega) (by omega) (by omega) hP hD hS (lv_sub hl [1, 2, 3, 0] rfl)
      refine lv_iload_n F.1 F.2.1 dX2_rootBits_13 rfl (lv_at hl 3 rfl) ?_
      refine lv_iload_n F.1 F.2.1 dX2_rootBits_14 rfl (lv_at hl 1 rfl) ?_
      refine b_gt F 48 dX2_rootBits_15 (by decide) rfl rfl (fun c2 => ?_) (fun c2 => ?_)
      · refine lv_iload_n F.1 F.2.1 dX2_rootBits_48 rfl (lv_at hl 2 rfl) ?_
        exact a_reti F hr hlocks hP hD hS dX2_rootBits_49 ⟨rfl, (by omega : (0 : Int) ≤ x2.toInt ∧ x2.toInt ≤ 255)⟩
      · refine lv_iload_n F.1 F.2.1 dX2_rootBits_18 rfl (lv_at hl 3 rfl) ?_
        refine a_Si F hml hl.1 hA hP hD hS (As := [.int x3]) (c_J6_bitCount_0f7a4 l dC dI ad cA nF _ x3 hR (by omega)) (cs_RX2_92 (d := 1) F.2.2.1 (by decide)) rfl rfl (Nat.le_of_ble_eq_true rfl) dX2_rootBits_19 ⟨Nat.le_refl 0, Nat.le_refl 0⟩ (fun r3 uN3 H locs hq hP hD hS => ?_)
        obtain ⟨hu3, gr3⟩ := hq
        rw [hu3] at hP hD
        refine lv_iload_n F.1 F.2.1 dX2_rootBits_22 rfl (lv_at hl 2 rfl) ?_
        refine a_Si F hml hl.1 hA hP hD hS (As := [.int x2]) (c_J6_bitCount_0f7a4 l dC dI ad cA nF _ x2 hR (by omega)) (cs_RX2_92 (d := 1) F.2.2.1 (by decide)) rfl rfl (Nat.le_of_ble_eq_true rfl) dX2_rootBits_23 ⟨Nat.le_refl 0, Nat.le_refl 0⟩ (fun r4 uN4 H locs hq hP hD hS => ?_)
        obtain ⟨hu4, gr4⟩ := hq
        rw [hu4] at hP hD
        refine b_ge F 42 dX2_rootBits_26 (by decide) rfl rfl (fun c5 => ?_) (fun c5 => ?_)
        · exact L42 x1 x2 x3 _ _ _ (by omega) (by omega) (by omega) (by omega) hP hD hS (lv_sub hl [0, 1, 2, 3] rfl)
        · refine lv_iload_n F.1 F.2.1 dX2_rootBits_29 rfl (lv_at hl 3 rfl) ?_
          refine lv_aload_n F.1 F.2.1 dX2_rootBits_30 rfl (lv_at hl 0 rfl) ?_
          refine lv_iload_n F.1 F.2.1 dX2_rootBits_31 rfl (lv_at hl 3 rfl) ?_
          refine a_Vi F hml hl.1 hA hP hD hS (As := [.int x3]) (c_X2_brokenWith_4 l dC dI ad cA nF _ x3 hR (by omega)) (cs_RX2_89 (d := 1) F.2.2.1 (by decide)) tc_4 rfl rfl rfl rfl (Nat.le_of_ble_eq_true rfl) dX2_rootBits_32 ⟨Nat.le_refl 0, Nat.le_refl 0⟩ (fun r6 uN6 H locs hq hP hD hS => ?_)
          have hu6 := hq
          rw [hu6] at hP hD
          refine a_iorU F dX2_rootBits_35 (fun v7 => ?_)
          refine lv_iload_n F.1 F.2.1 dX2_rootBits_36 rfl (lv_at hl 1 rfl) ?_
          refine b_ne F 42 dX2_rootBits_37 (by decide) rfl rfl (fun c8 => ?_) (fun c8 => ?_)
          · exact L42 x1 x2 x3 _ _ _ (by omega) (by omega) (by omega) (by omega) hP hD hS (lv_sub hl [0, 1, 2, 3] rfl)
          · refine lv_iload_n F.1 F.2.1 dX2_rootBits_40 rfl (lv_at hl 3 rfl) ?_
            refine lv_istore_n (lv' := [(2, .int x3), (0, .ref (ad 4)), (1, .int x1), (3, .int x3)]) F.1 F.2.1 dX2_rootBits_41 rfl hl (by decide) rfl (fun ls hl => ?_)
            exact L42 x1 x3 x3 _ _ _ (by omega) (by omega) (by omega) (by omega) hP hD hS (lv_sub hl [1, 2, 0, 3] rfl)
  refine a_ic F (1 : Int32) dX2_rootBits_0 (by decide) ?_
  refine lv_aload_n F.1 F.2.1 dX2_rootBits_1 rfl (lv_at hl 0 rfl) ?_
  have g9 : (0 : Int) ≤ (u0.1 4 6).toInt ∧ (u0.1 4 6).toInt ≤ 8 := hR 4 6
  refine a_geti F inX2 hP 4 6 tc_4 rfl rfl (by decide) q178 (fun _ h9 => h9) (v := (u0.1 4 6)) rfl dX2_rootBits_2 ?_
  refine a_ishl1 F dX2_rootBits_5 rfl (lo := 0) (hi := 8) (by omega) (by decide) (fun v10 hv10 => ?_)
  have hv10 : (1 : Int) ≤ v10.toInt ∧ v10.toInt ≤ 256 := hv10
  refine a_ic F (1 : Int32) dX2_rootBits_6 (by decide) ?_
  refine a_isub F dX2_rootBits_7 rfl ic_1 (by omega) (fun v11 hv11 => ?_)
  refine lv_istore_n (lv' := [(1, .int v11), (0, .ref (ad 4))]) F.1 F.2.1 dX2_rootBits_8 rfl hl (by decide) rfl (fun ls hl => ?_)
  refine lv_iload_n F.1 F.2.1 dX2_rootBits_9 rfl (lv_at hl 0 rfl) ?_
  refine lv_istore_n (lv' := [(2, .int v11), (1, .int v11), (0, .ref (ad 4))]) F.1 F.2.1 dX2_rootBits_10 rfl hl (by decide) rfl (fun ls hl => ?_)
  refine a_ic F (0 : Int32) dX2_rootBits_11 (by decide) ?_
  refine lv_istore_n (lv' := [(3, .int (0 : Int32)), (2, .int v11), (1, .int v11), (0, .ref (ad 4))]) F.1 F.2.1 dX2_rootBits_12 rfl hl (by decide) rfl (fun ls hl => ?_)
  exact L13 258 v11 v11 (0 : Int32) _ _ _ (by decide) (by omega) (by omega) (by decide) hP hD hS (lv_sub hl [3, 2, 1, 0] rfl)
set_option maxHeartbeats 600000 in
set_option maxRecDepth 100000 in
theorem c_X2_spread_4 (l : Launch) (dC : Nat → ClassId) (dI : Nat → Nat → Nat) (ad : Nat → Nat) (cA : Nat → ClassId) (nF : Nat) (u0 : ac_U) (p0 : Int32) (hR : ac_R rg u0) : ac_Mi l yX2_spread (.code yX2_spread cX2_spread 4 (some .int) :: TB) 1 (dC, dI) vwCl (ac_ty cA) ad cA (TT nF) [.ref (ad 4), .int p0] u0 (fun (r : Int32) (u : ac_U) => u = u0) := by
  refine ac_Mi.of (cc := cX2_spread) (maxL := 4) (ret := (some .int)) (by decide) rfl (Nat.le_of_ble_eq_true rfl) ?_
  intro p e s m below meth c A ls F hml hr hlocks hA hP hD hS hl
  have F : ac_X p s m [.ref (ad 4), .int p0].toArray c cX2_spread RX2 TB (dC, dI) vwCl (ac_ty cA) := ⟨F.1, F.2.1, fun w h => F.2.2.1 w (List.mem_cons_of_mem _ h), F.2.2.2.1, F.2.2.2.2⟩
  have hl : lv_has ls 4 [(0, .ref (ad 4)), (1, .int p0)] := hl
  have L4 : ∀ (n4 : Nat) (x2 : Int32) (x3 : Int32) (H : Heap) (locs : List Loc) (ls : Array Slot), 8 - x3.toInt < (n4 : Int) → (0 : Int) ≤ x3.toInt ∧ x3.toInt ≤ 8 → va_P (dC, dI) vwCl (ac_w ad cA (TT nF) u0) H → va_D A (ac_w ad cA (TT nF) u0) → va_S A s.heap H locs → lv_has ls 4 [(0, .ref (ad 4)), (1, .int p0), (2, .int x2), (3, .int x3)] → W p l e (ac_rm 1) s m [.ref (ad 4), .int p0].toArray below meth c H locs 0 0 (MQ below (va_Qi (fun (r : Int32) (u : ac_U) => u = u0) (ac_B (dC, dI) vwCl (ac_ty cA) ad cA (TT nF) A) A) [.ref (ad 4), .int p0].toArray s 0 0 A) (F0 m 4 ls []) := by
    intro n4
    induction n4 with
    | zero => intro x2 x3 H locs ls hn4 f0 hP hD hS hl; exfalso; omega
    | succ n4 ih4 =>
      intro x2 x3 H locs ls hn4 f0 hP hD hS hl
      have L30 : ∀ (x2 : Int32) (x3 : Int32) (H : Heap) (locs : List Loc) (ls : Array Slot), (0 : Int) ≤ x3.toInt ∧ x3.toInt ≤ 7 → (1 : Int) ≤ (u0.1 4 1).toInt ∧ (u0.1 4 1).toInt ≤ 8 → 8 - x3.toInt + 0 < ((n4 : Nat) : Int) + 1 → va_P (dC, dI) vwCl (ac_w ad cA (TT nF) u0) H → va_D A (ac_w ad cA (TT nF) u0) → va_S A s.heap H locs → lv_has ls 4 [(0, .ref (ad 4)), (1, .int p0), (2, .int x2), (3, .int x3)] → W p l e (ac_rm 1) s m [.ref (ad 4), .int p0].toArray below meth c H locs 0 0 (MQ below (va_Qi (fun (r : Int32) (u : ac_U) => u = u0) (ac_B (dC, dI) vwCl (ac_ty cA) ad cA (TT nF) A) A) [.ref (ad 4), .int p0].toArray s 0 0 A) (F0 m 30 ls []) := by
        intro x2 x3 H locs ls f0 f1 f2 hP hD hS hl
        refine a_iinc F (k := 3) (fun v1 => [(3, .int v1), (0, .ref (ad 4)), (1, .int p0), (2, .int x2)]) dX2_spread_30 hl rfl rfl (by decide) (by omega) (by decide) (fun _ => rfl) (fun v1 ls hv1 hl => ?_)
        refine lv_goto (tgt := 4) F.1 F.2.1 dX2_spread_33 (by decide) ?_
        exact ih4 x2 v1 _ _ _ (by omega) (by omega) hP hD hS (lv_sub hl [1, 2, 3, 0] rfl)
      refine lv_iload_n F.1 F.2.1 dX2_spread_4 rfl (lv_at hl 3 rfl) ?_
      refine lv_aload_n F.1 F.2.1 dX2_spread_5 rfl (lv_at hl 0 rfl) ?_
      have g2 : (0 : Int) ≤ (u0.1 4 1).toInt ∧ (u0.1 4 1).toInt ≤ 8 := hR 4 1
      refine a_geti F inX2 hP 4 1 tc_4 rfl rfl (by decide) q157 (fun _ h9 => h9) (v := (u0.1 4 1)) rfl dX2_spread_6 ?_
      refine b_ge F 36 dX2_spread_9 (by decide) rfl rfl (fun c3 => ?_) (fun c3 => ?_)
      · refine lv_iload_n F.1 F.2.1 dX2_spread_36 rfl (lv_at hl 2 rfl) ?_
        exact a_reti F hr hlocks hP hD hS dX2_spread_37 rfl
      · refine lv_iload_n F.1 F.2.1 dX2_spread_12 rfl (lv_at hl 1 rfl) ?_
        refine lv_iload_n F.1 F.2.1 dX2_spread_13 rfl (lv_at hl 3 rfl) ?_
        refine a_ishrU F dX2_spread_14 (fun v4 => ?_)
        refine a_ic F (1 : Int32) dX2_spread_15 (by decide) ?_
        refine a_iandM F dX2_spread_16 ic_1 (by omega) (fun v5 hv5 => ?_)
        refine a_ic F (1 : Int32) dX2_spread_17 (by decide) ?_
        refine b_ne F 30 dX2_spread_18 (by decide) rfl ic_1 (fun c6 => ?_) (fun c6 => ?_)
        · exact L30 x2 x3 _ _ _ (by omega) (by omega : (1 : Int) ≤ (u0.1 4 1).toInt ∧ (u0.1 4 1).toInt ≤ 8) (by omega) hP hD hS (lv_sub hl [0, 1, 2, 3] rfl)
        · refine lv_iload_n F.1 F.2.1 dX2_spread_21 rfl (lv_at hl 2 rfl) ?_
          refine lv_aload_n F.1 F.2.1 dX2_spread_22 rfl (lv_at hl 0 rfl) ?_
          refine a_getr F inX2 hP 4 9 tc_4 rfl rfl (by decide) q189 (fun _ h9 => h9) dX2_spread_23 ?_
          refine lv_iload_n F.1 F.2.1 dX2_spread_26 rfl (lv_at hl 3 rfl) ?_
          refine a_iald F hP 5 tc_5 rfl (i_in rfl (by omega)) dX2_spread_27 (fun v7 ev7 => ?_)
          refine a_iorU F dX2_spread_28 (fun v8 => ?_)
          refine lv_istore_n (lv' := [(2, .int v8), (0, .ref (ad 4)), (1, .int p0), (3, .int x3)]) F.1 F.2.1 dX2_spread_29 rfl hl (by decide) rfl (fun ls hl => ?_)
          exact L30 v8 x3 _ _ _ (by omega) (by omega : (1 : Int) ≤ (u0.1 4 1).toInt ∧ (u0.1 4 1).toInt ≤ 8) (by omega) hP hD hS (lv_sub hl [1, 2, 0, 3] rfl)
  refine lv_iload_n F.1 F.2.1 dX2_spread_0 rfl (lv_at hl 1 rfl) ?_
  refine lv_istore_n (lv' := [(2, .int p0), (0, .ref (ad 4)), (1, .int p0)]) F.1 F.2.1 dX2_spread_1 rfl hl (by decide) rfl (fun ls hl => ?_)
  refine a_ic F (0 : Int32) dX2_spread_2 (by decide) ?_
  refine lv_istore_n (lv' := [(3, .int (0 : Int32)), (2, .int p0), (0, .ref (ad 4)), (1, .int p0)]) F.1 F.2.1 dX2_spread_3 rfl hl (by decide) rfl (fun ls hl => ?_)
  exact L4 10 p0 (0 : Int32) _ _ _ (by decide) (by decide) hP hD hS (lv_sub hl [2, 3, 1, 0] rfl)
set_option maxHeartbeats 600000 in
set_option maxRecDepth 100000 in
theorem c_X2_stepsBetween_4 (l : Launch) (dC : Nat → ClassId) (dI : Nat → Nat → Nat) (ad : Nat → Nat) (cA : Nat → ClassId) (nF : Nat) (u0 : ac_U) (p0 : Int32) (p1 : Int32) (hR : ac_R rg u0) (hp0 : (0 : Int) ≤ p0.toInt ∧ p0.toInt ≤ 7) (hp1 : (0 : Int) ≤ p1.toInt ∧ p1.toInt ≤ 7) : ac_Mi l yX2_stepsBetween (.code yX2_stepsBetween cX2_stepsBetween 5 (some .int) :: TB) 2 (dC, dI) vwCl (ac_ty cA) ad cA (TT nF) [.ref (ad 4), .int p0, .int p1] u0 (fun (r : Int32) (u : ac_U) => u = u0 ∧ ((-1 : Int) ≤ r.toInt ∧ r.toInt ≤ 7)) := by
  refine ac_Mi.of (cc := cX2_stepsBetween) (maxL := 5) (ret := (some .int)) (by decide) rfl (Nat.le_of_ble_eq_true rfl) ?_
  intro p e s m below meth c A ls F hml hr hlocks hA hP hD hS hl
  have F : ac_X p s m [.ref (ad 4), .int p0, .int p1].toArray c cX2_stepsBetween RX2 TB (dC, dI) vwCl (ac_ty cA) := ⟨F.1, F.2.1, fun w h => F.2.2.1 w (List.mem_cons_of_mem _ h), F.2.2.2.1, F.2.2.2.2⟩
  have hl : lv_has ls 5 [(0, .ref (ad 4)), (1, .int p0), (2, .int p1)] := hl
  have L7 : ∀ (n7 : Nat) (x3 : Int32) (x4 : Int32) (H : Heap) (locs : List Loc) (ls : Array Slot), 8 - x4.toInt < (n7 : Int) → (0 : Int) ≤ x4.toInt ∧ x4.toInt ≤ 8 → va_P (dC, dI) vwCl (ac_w ad cA (TT nF) u0) H → va_D A (ac_w ad cA (TT nF) u0) → va_S A s.heap H locs → lv_has ls 5 [(0, .ref (ad 4)), (2, .int p1), (3, .int x3), (4, .int x4)] → W p l e (ac_rm 2) s m [.ref (ad 4), .int p0, .int p1].toArray below meth c H locs 0 0 (MQ below (va_Qi (fun (r : Int32) (u : ac_U) => u = u0 ∧ ((-1 : Int) ≤ r.toInt ∧ r.toInt ≤ 7)) (ac_B (dC, dI) vwCl (ac_ty cA) ad cA (TT nF) A) A) [.ref (ad 4), .int p0, .int p1].toArray s 0 0 A) (F0 m 7 ls []) := by
    intro n7
    induction n7 with
    | zero => intro x3 x4 H locs ls hn7 f0 hP hD hS hl; exfalso; omega
    | succ n7 ih7 =>
      intro x3 x4 H locs ls hn7 f0 hP hD hS hl
      refine lv_iload F.1 F.2.1 dX2_stepsBetween_7 (lv_at hl 3 rfl) ?_
      refine a_bp F (8 : Int32) dX2_stepsBetween_9 (by decide) ?_
      refine b_ge F 38 dX2_stepsBetween_11 (by decide) rfl ic_8 (fun c1 => ?_) (fun c1 => ?_)
      · refine a_ic F (-1 : Int32) dX2_stepsBetween_38 (by decide) ?_
        exact a_reti F hr hlocks hP hD hS dX2_stepsBetween_39 ⟨rfl, (by decide)⟩
      · refine lv_iload_n F.1 F.2.1 dX2_stepsBetween_14 rfl (lv_at hl 2 rfl) ?_
        refine lv_iload_n F.1 F.2.1 dX2_stepsBetween_15 rfl (lv_at hl 1 rfl) ?_
        refine a_ishrU F dX2_stepsBetween_16 (fun v2 => ?_)
        refine a_ic F (1 : Int32) dX2_stepsBetween_17 (by decide) ?_
        refine a_iandM F dX2_stepsBetween_18 ic_1 (by omega) (fun v3 hv3 => ?_)
        refine a_ic F (1 : Int32) dX2_stepsBetween_19 (by decide) ?_
        refine b_ne F 26 dX2_stepsBetween_20 (by decide) rfl ic_1 (fun c4 => ?_) (fun c4 => ?_)
        · refine lv_aload_n F.1 F.2.1 dX2_stepsBetween_26 rfl (lv_at hl 0 rfl) ?_
          refine lv_iload_n F.1 F.2.1 dX2_stepsBetween_27 rfl (lv_at hl 2 rfl) ?_
          refine a_Vi F hml hl.1 hA hP hD hS (As := [.int x3]) (c_X2_spread_4 l dC dI ad cA nF _ x3 hR) (cs_RX2_81 (d := 1) F.2.2.1 (by decide)) tc_4 rfl rfl rfl rfl (Nat.le_of_ble_eq_true rfl) dX2_stepsBetween_28 ⟨Nat.le_refl 0, Nat.le_refl 0⟩ (fun r5 uN5 H locs hq hP hD hS => ?_)
          have hu5 := hq
          rw [hu5] at hP hD
          refine lv_istore_n (lv' := [(3, .int r5), (0, .ref (ad 4)), (2, .int p1), (4, .int x4)]) F.1 F.2.1 dX2_stepsBetween_31 rfl hl (by decide) rfl (fun ls hl => ?_)
          refine a_iinc F (k := 3) (fun v6 => [(4, .int v6), (3, .int r5), (0, .ref (ad 4)), (2, .int p1)]) dX2_stepsBetween_32 hl rfl rfl (by decide) (by omega) (by decide) (fun _ => rfl) (fun v6 ls hv6 hl => ?_)
          refine lv_goto (tgt := 7) F.1 F.2.1 dX2_stepsBetween_35 (by decide) ?_
          exact ih7 r5 v6 _ _ _ (by omega) (by omega) hP hD hS (lv_sub hl [2, 3, 1, 0] rfl)
        · refine lv_iload F.1 F.2.1 dX2_stepsBetween_23 (lv_at hl 3 rfl) ?_
          exact a_reti F hr hlocks hP hD hS dX2_stepsBetween_25 ⟨rfl, (by omega : (-1 : Int) ≤ x4.toInt ∧ x4.toInt ≤ 7)⟩
  refine a_ic F (1 : Int32) dX2_stepsBetween_0 (by decide) ?_
  refine lv_iload_n F.1 F.2.1 dX2_stepsBetween_1 rfl (lv_at hl 1 rfl) ?_
  refine a_ishl1 F dX2_stepsBetween_2 rfl (lo := 0) (hi := 7) (by omega) (by decide) (fun v7 hv7 => ?_)
  have hv7 : (1 : Int) ≤ v7.toInt ∧ v7.toInt ≤ 128 := hv7
  refine lv_istore_n (lv' := [(3, .int v7), (0, .ref (ad 4)), (1, .int p0), (2, .int p1)]) F.1 F.2.1 dX2_stepsBetween_3 rfl hl (by decide) rfl (fun ls hl => ?_)
  refine a_ic F (0 : Int32) dX2_stepsBetween_4 (by decide) ?_
  refine lv_istore (lv' := [(4, .int (0 : Int32)), (3, .int v7), (0, .ref (ad 4)), (1, .int p0), (2, .int p1)]) F.1 F.2.1 dX2_stepsBetween_5 hl (by decide) rfl (fun ls hl => ?_)
  exact L7 10 v7 (0 : Int32) _ _ _ (by decide) (by decide) hP hD hS (lv_sub hl [2, 4, 1, 0] rfl)
set_option maxHeartbeats 600000 in
set_option maxRecDepth 100000 in
theorem c_X5_isThere_29 (l : Launch) (dC : Nat → ClassId) (dI : Nat → Nat → Nat) (ad : Nat → Nat) (cA : Nat → ClassId) (nF : Nat) (u0 : ac_U) (p0 : Int32) (p1 : Int32) (p2 : Int32) (hR : ac_R rg u0) (hp0 : (0 : Int) ≤ p0.toInt ∧ p0.toInt ≤ 7) (hp1 : (0 : Int) ≤ p1.toInt ∧ p1.toInt ≤ 7) : ac_Mi l yX5_isThere (.code yX5_isThere cX5_isThere 5 (some .boolean) :: TB) 2 (dC, dI) vwCl (ac_ty cA) ad cA (TT nF) [.ref (ad 29), .int p0, .int p1, .int p2] u0 (fun (r : Int32) (u : ac_U) => u = u0 ∧ ((0 : Int) ≤ r.toInt ∧ r.toInt ≤ 1)) := by
  refine ac_Mi.of (cc := cX5_isThere) (maxL := 5) (ret := (some .boolean)) (by decide) rfl (Nat.le_of_ble_eq_true rfl) ?_
  intro p e s m below meth c A ls F hml hr hlocks hA hP hD hS hl
  have F : ac_X p s m [.ref (ad 29), .int p0, .int p1, .int p2].toArray c cX5_isThere RX5 TB (dC, dI) vwCl (ac_ty cA) := ⟨F.1, F.2.1, fun w h => F.2.2.1 w (List.mem_cons_of_mem _ h), F.2.2.2.1, F.2.2.2.2⟩
  have hl : lv_has ls 5 [(0, .ref (ad 29)), (1, .int p0), (2, .int p1), (3, .int p2)] := hl
  have L40 : ∀ (H : Heap) (locs : List Loc) (ls : Array Slot), va_P (dC, dI) vwCl (ac_w ad cA (TT nF) u0) H → va_D A (ac_w ad cA (TT nF) u0) → va_S A s.heap H locs → lv_has ls 5 [] → W p l e (ac_rm 2) s m [.ref (ad 29), .int p0, .int p1, .int p2].toArray below meth c H locs 0 0 (MQ below (va_Qi (fun (r : Int32) (u : ac_U) => u = u0 ∧ ((0 : Int) ≤ r.toInt ∧ r.toInt ≤ 1)) (ac_B (dC, dI) vwCl (ac_ty cA) ad cA (TT nF) A) A) [.ref (ad 29), .int p0, .int p1, .int p2].toArray s 0 0 A) (F0 m 40 ls []) := by
    intro H locs ls hP hD hS hl
    refine a_ic F (0 : Int32) dX5_isThere_40 (by decide) ?_
    exact a_retz F hr hlocks hP hD hS dX5_isThere_41 (Or.inl rfl) ⟨rfl, (by decide)⟩
  have L36 : ∀ (H : Heap) (locs : List Loc) (ls : Array Slot), va_P (dC, dI) vwCl (ac_w ad cA (TT nF) u0) H → va_D A (ac_w ad cA (TT nF) u0) → va_S A s.heap H locs → lv_has ls 5 [] → W p l e (ac_rm 2) s m [.ref (ad 29), .int p0, .int p1, .int p2].toArray below meth c H locs 0 0 (MQ below (va_Qi (fun (r : Int32) (u : ac_U) => u = u0 ∧ ((0 : Int) ≤ r.toInt ∧ r.toInt ≤ 1)) (ac_B (dC, dI) vwCl (ac_ty cA) ad cA (TT nF) A) A) [.ref (ad 29), .int p0, .int p1, .int p2].toArray s 0 0 A) (F0 m 36 ls []) := by
    intro H locs ls hP hD hS hl
    refine a_ic F (1 : Int32) dX5_isThere_36 (by decide) ?_
    refine lv_goto (tgt := 41) F.1 F.2.1 dX5_isThere_37 (by decide) ?_
    exact a_retz F hr hlocks hP hD hS dX5_isThere_41 (Or.inr rfl) ⟨rfl, (by decide)⟩
  refine lv_aload_n F.1 F.2.1 dX5_isThere_0 rfl (lv_at hl 0 rfl) ?_
  refine a_getr F inX5 hP 29 0 tc_29 rfl rfl (by decide) q306 (fun _ h9 => h9) dX5_isThere_1 ?_
  refine lv_iload_n F.1 F.2.1 dX5_isThere_4 rfl (lv_at hl 1 rfl) ?_
  refine a_ic F (2 : Int32) dX5_isThere_5 (by decide) ?_
  refine a_Vi F hml hl.1 hA hP hD hS (As := [.int p0, .int (2 : Int32)]) (c_X2_term_4 l dC dI ad cA nF _ p0 (2 : Int32) hR (by omega) (by decide)) (cs_RX5_36 (d := 1) F.2.2.1 (by decide)) tc_4 rfl rfl rfl rfl (Nat.le_of_ble_eq_true rfl) dX5_isThere_6 ⟨Nat.le_refl 0, Nat.le_refl 0⟩ (fun r1 uN1 H locs hq hP hD hS => ?_)
  obtain ⟨hu1, xr1⟩ := hq
  rw [hu1] at hP hD
  have xr1 : ((2 : Int) = 2 → 0 ≤ r1.toInt ∧ r1.toInt ≤ 7) ∧ ((2 : Int) = 5 → 0 ≤ r1.toInt ∧ r1.toInt ≤ 3) := xr1
  refine lv_istore (lv' := [(4, .int r1), (0, .ref (ad 29)), (1, .int p0), (2, .int p1), (3, .int p2)]) F.1 F.2.1 dX5_isThere_9 hl (by decide) rfl (fun ls hl => ?_)
  refine lv_iload_n F.1 F.2.1 dX5_isThere_11 rfl (lv_at hl 4 rfl) ?_
  refine lv_iload F.1 F.2.1 dX5_isThere_12 (lv_at hl 0 rfl) ?_
  refine b_eq F 36 dX5_isThere_14 (by decide) rfl rfl (fun c2 => ?_) (fun c2 => ?_)
  · exact L36 _ _ _  hP hD hS (lv_sub hl [] rfl)
  · refine lv_iload_n F.1 F.2.1 dX5_isThere_17 rfl (lv_at hl 3 rfl) ?_
    refine a_ic F (4 : Int32) dX5_isThere_18 (by decide) ?_
    refine a_iandM F dX5_isThere_19 ic_4 (by omega) (fun v3 hv3 => ?_)
    refine z_eq F 40 dX5_isThere_20 (by decide) rfl (fun c4 => ?_) (fun c4 => ?_)
    · exact L40 _ _ _  hP hD hS (lv_sub hl [] rfl)
    · refine lv_aload_n F.1 F.2.1 dX5_isThere_23 rfl (lv_at hl 1 rfl) ?_
      refine a_getr F inX5 hP 29 0 tc_29 rfl rfl (by decide) q306 (fun _ h9 => h9) dX5_isThere_24 ?_
      refine lv_iload F.1 F.2.1 dX5_isThere_27 (lv_at hl 0 rfl) ?_
      refine lv_iload_n F.1 F.2.1 dX5_isThere_29 rfl (lv_at hl 4 rfl) ?_
      refine a_Vi F hml hl.1 hA hP hD hS (As := [.int r1, .int p2]) (c_X2_isNear_4 l dC dI ad cA nF _ r1 p2 hR (by omega)) (cs_RX5_79 (d := 1) F.2.2.1 (by decide)) tc_4 rfl rfl rfl rfl (Nat.le_of_ble_eq_true rfl) dX5_isThere_30 ⟨Nat.le_refl 0, Nat.le_refl 0⟩ (fun r5 uN5 H locs hq hP hD hS => ?_)
      obtain ⟨hu5, gr5⟩ := hq
      rw [hu5] at hP hD
      refine z_eq F 40 dX5_isThere_33 (by decide) rfl (fun c6 => ?_) (fun c6 => ?_)
      · exact L40 _ _ _  hP hD hS (lv_sub hl [] rfl)
      · exact L36 _ _ _  hP hD hS (lv_sub hl [] rfl)
set_option maxHeartbeats 600000 in
set_option maxRecDepth 100000 in
theorem c_X6_mark_24 (l : Launch) (dC : Nat → ClassId) (dI : Nat → Nat → Nat) (ad : Nat → Nat) (cA : Nat → ClassId) (nF : Nat) (u0 : ac_U) (p0 : Int32) (p1 : Int32) (hR : ac_R rg u0) (hp0 : (0 : Int) ≤ p0.toInt ∧ p0.toInt ≤ 79) (hp1 : (0 : Int) ≤ p1.toInt ∧ p1.toInt ≤ 3) : ac_Mi l yX6_mark (.code yX6_mark cX6_mark 3 (some .int) :: TB) 1 (dC, dI) vwCl (ac_ty cA) ad cA (TT nF) [.ref (ad 24), .int p0, .int p1] u0 (fun (r : Int32) (u : ac_U) => u = u0 ∧ (p1.toInt = 0 → 0 ≤ r.toInt ∧ r.toInt ≤ 480)) := by
  refine ac_Mi.of (cc := cX6_mark) (maxL := 3) (ret := (some .int)) (by decide) rfl (Nat.le_of_ble_eq_true rfl) ?_
  intro p e s m below meth c A ls F hml hr hlocks hA hP hD hS hl
  have F : ac_X p s m [.ref (ad 24), .int p0, .int p1].toArray c cX6_mark RX6 TB (dC, dI) vwCl (ac_ty cA) := ⟨F.1, F.2.1, fun w h => F.2.2.1 w (List.mem_cons_of_mem _ h), F.2.2.2.1, F.2.2.2.2⟩
  have hl : lv_has ls 3 [(0, .ref (ad 24)), (1, .int p0), (2, .int p1)] := hl
  refine lv_aload_n F.1 F.2.1 dX6_mark_0 rfl (lv_at hl 0 rfl) ?_
  refine a_getr F inX6 hP 24 2 tc_24 rfl rfl (by decide) q278 (fun _ h9 => h9) dX6_mark_1 ?_
  refine lv_iload_n F.1 F.2.1 dX6_mark_4 rfl (lv_at hl 1 rfl) ?_
  refine a_ic F (4 : Int32) dX6_mark_5 (by decide) ?_
  refine a_imul F dX6_mark_6 rfl ic_4 (by omega) (fun v1 hv1 => ?_)
  refine lv_iload_n F.1 F.2.1 dX6_mark_7 rfl (lv_at hl 2 rfl) ?_
  refine a_iadd F dX6_mark_8 rfl rfl (by omega) (fun v2 hv2 => ?_)
  refine a_iald F hP 26 tc_26 rfl (i_in rfl (by omega)) dX6_mark_9 (fun v3 ev3 => ?_)
  have hm : p1.toInt = 0 → 0 ≤ v3.toInt ∧ v3.toInt ≤ 480 := fun h => mk_when hR ev3 (q := p0.toInt) (by omega) (by omega)
  exact a_reti F hr hlocks hP hD hS dX6_mark_10 ⟨rfl, (by omega : p1.toInt = 0 → 0 ≤ v3.toInt ∧ v3.toInt ≤ 480)⟩
set_option maxHeartbeats 600000 in
set_option maxRecDepth 100000 in
theorem c_X5_weighDeed_29 (l : Launch) (dC : Nat → ClassId) (dI : Nat → Nat → Nat) (ad : Nat → Nat) (cA : Nat → ClassId) (nF : Nat) (u0 : ac_U) (p0 : Int32) (p1 : Int32) (p2 : Int32) (hR : ac_R rg u0) (hp0 : (0 : Int) ≤ p0.toInt ∧ p0.toInt ≤ 7) (hp1 : (0 : Int) ≤ p1.toInt ∧ p1.toInt ≤ 7) (hp2 : (0 : Int) ≤ p2.toInt ∧ p2.toInt ≤ 79) (hK_CTa : cntI p2.toInt u0) : ac_Mv l yX5_weighDeed (.code yX5_weighDeed cX5_weighDeed 8 none :: TB) 3 (dC, dI) vwCl (ac_ty cA) ad cA (TT nF) [.ref (ad 29), .int p0, .int p1, .int p2] u0 (fun (u : ac_U) => ac_R rg u ∧ ac_Fr [(29, some 4), (30, none)] u0 u ∧ cntI (p2.toInt + 1) u) := by
  refine ac_Mv.of (cc := cX5_weighDeed) (maxL := 8) (ret := none) (by decide) rfl (Nat.le_of_ble_eq_true rfl) ?_
  intro p e s m below meth c A ls F hml hr hlocks hA hP hD hS hl
  have F : ac_X p s m [.ref (ad 29), .int p0, .int p1, .int p2].toArray c cX5_weighDeed RX5 TB (dC, dI) vwCl (ac_ty cA) := ⟨F.1, F.2.1, fun w h => F.2.2.1 w (List.mem_cons_of_mem _ h), F.2.2.2.1, F.2.2.2.2⟩
  have hl : lv_has ls 8 [(0, .ref (ad 29)), (1, .int p0), (2, .int p1), (3, .int p2)] := hl
  have hF : ac_Fr [(29, some 4), (30, none)] u0 u0 := ac_Fr.rf
  have L169 : ∀ (x5 : Int32) (u : ac_U) (H : Heap) (locs : List Loc) (ls : Array Slot), ac_R rg u → ac_Fr [(29, some 4), (30, none)] u0 u → cntI (p2.toInt + 1) u → (0 : Int) ≤ x5.toInt ∧ x5.toInt ≤ 19 → va_P (dC, dI) vwCl (ac_w ad cA (TT nF) u) H → va_D A (ac_w ad cA (TT nF) u) → va_S A s.heap H locs → lv_has ls 8 [(0, .ref (ad 29)), (5, .int x5)] → W p l e (ac_rm 3) s m [.ref (ad 29), .int p0, .int p1, .int p2].toArray below meth c H locs 0 0 (MQ below (va_Qv (fun (u : ac_U) => ac_R rg u ∧ ac_Fr [(29, some 4), (30, none)] u0 u ∧ cntI (p2.toInt + 1) u) (ac_B (dC, dI) vwCl (ac_ty cA) ad cA (TT nF) A) A) [.ref (ad 29), .int p0, .int p1, .int p2].toArray s 0 0 A) (F0 m 169 ls []) := by
    intro x5 u H locs ls hR hF hK_CTb f0 hP hD hS hl
    refine lv_aload_n F.1 F.2.1 dX5_weighDeed_169 rfl (lv_at hl 0 rfl) ?_
    refine lv_dup F.1 F.2.1 dX5_weighDeed_170 rfl ?_
    refine a_geti F inX5 hP 29 4 tc_29 rfl rfl (by decide) q310 (fun _ h9 => h9) (v := (u.1 29 4)) rfl dX5_weighDeed_171 ?_
    refine a_ic F (1 : Int32) dX5_weighDeed_174 (by decide) ?_
    refine lv_iload F.1 F.2.1 dX5_weighDeed_175 (lv_at hl 1 rfl) ?_
    refine a_ishl1 F dX5_weighDeed_177 rfl (lo := 0) (hi := 19) (by omega) (by decide) (fun v1 hv1 => ?_)
    have hv1 : (1 : Int) ≤ v1.toInt ∧ v1.toInt ≤ 524288 := hv1
    refine a_iorU F dX5_weighDeed_178 (fun v2 => ?_)
    refine a_puti F inX5 tyX5 tyX5_ok nmX5 hP hD hS 29 4 tc_29 rfl rfl (by decide) q310 (fun _ h9 => h9) rfl (ty := .int) (tyX5_ok 4 (by decide)) rfl rfl dX5_weighDeed_179 (fun H locs hP hD hS => ?_)
    have hR := hR.si (c := 29) (k := 4) (v := v2) ⟨i_lo _, i_hi _⟩
    have hF := hF.si (c := 29) (k := 4) (v := v2) rfl
    have hK_CTb := sp_sgD (sp_cnt _) hD hK_CTb (by decide)
    exact a_retv F hr hlocks hP hD hS dX5_weighDeed_182 ⟨hR, hF, hK_CTb⟩
  have L143 : ∀ (x5 : Int32) (x6 : Int32) (x7 : Int32) (u : ac_U) (H : Heap) (locs : List Loc) (ls : Array Slot), ac_R rg u → ac_Fr [(29, some 4), (30, none)] u0 u → cntI (p2.toInt + 1) u → (0 : Int) ≤ x5.toInt ∧ x5.toInt ≤ 19 → (0 : Int) ≤ x6.toInt ∧ x6.toInt ≤ 1 → va_P (dC, dI) vwCl (ac_w ad cA (TT nF) u) H → va_D A (ac_w ad cA (TT nF) u) → va_S A s.heap H locs → lv_has ls 8 [(0, .ref (ad 29)), (1, .int p0), (2, .int p1), (5, .int x5), (6, .int x6), (7, .int x7)] → W p l e (ac_rm 3) s m [.ref (ad 29), .int p0, .int p1, .int p2].toArray below meth c H locs 0 0 (MQ below (va_Qv (fun (u : ac_U) => ac_R rg u ∧ ac_Fr [(29, some 4), (30, none)] u0 u ∧ cntI (p2.toInt + 1) u) (ac_B (dC, dI) vwCl (ac_ty cA) ad cA (TT nF) A) A) [.ref (ad 29), .int p0, .int p1, .int p2].toArray s 0 0 A) (F0 m 143 ls []) := by
    intro x5 x6 x7 u H locs ls hR hF hK_CTb f0 f1 hP hD hS hl
    refine lv_iload F.1 F.2.1 dX5_weighDeed_143 (lv_at hl 5 rfl) ?_
    refine lv_aload_n F.1 F.2.1 dX5_weighDeed_145 rfl (lv_at hl 0 rfl) ?_
    refine a_getr F inX5 hP 29 0 tc_29 rfl rfl (by decide) q306 (fun _ h9 => h9) dX5_weighDeed_146 ?_
    refine lv_iload_n F.1 F.2.1 dX5_weighDeed_149 rfl (lv_at hl 1 rfl) ?_
    refine a_bp F (7 : Int32) dX5_weighDeed_150 (by decide) ?_
    refine a_Vi F hml hl.1 hA hP hD hS (As := [.int p0, .int (7 : Int32)]) (c_X2_term_4 l dC dI ad cA nF _ p0 (7 : Int32) hR (by omega) (by decide)) (cs_RX5_36 (d := 1) F.2.2.1 (by decide)) tc_4 rfl rfl rfl rfl (Nat.le_of_ble_eq_true rfl) dX5_weighDeed_152 ⟨Nat.le_refl 0, Nat.le_refl 0⟩ (fun r3 uN3 H locs hq hP hD hS => ?_)
    obtain ⟨hu3, xr3⟩ := hq
    rw [hu3] at hP hD
    have xr3 : ((7 : Int) = 2 → 0 ≤ r3.toInt ∧ r3.toInt ≤ 7) ∧ ((7 : Int) = 5 → 0 ≤ r3.toInt ∧ r3.toInt ≤ 3) := xr3
    refine b_ne F 182 dX5_weighDeed_155 (by decide) rfl rfl (fun c4 => ?_) (fun c4 => ?_)
    · exact a_retv F hr hlocks hP hD hS dX5_weighDeed_182 ⟨hR, hF, hK_CTb⟩
    · refine lv_iload F.1 F.2.1 dX5_weighDeed_158 (lv_at hl 4 rfl) ?_
      refine z_ne F 169 dX5_weighDeed_160 (by decide) rfl (fun c5 => ?_) (fun c5 => ?_)
      · exact L169 x5 _ _ _ _ hR hF hK_CTb (by omega) hP hD hS (lv_sub hl [0, 3] rfl)
      · refine lv_iload_n F.1 F.2.1 dX5_weighDeed_163 rfl (lv_at hl 2 rfl) ?_
        refine a_ic F (2 : Int32) dX5_weighDeed_164 (by decide) ?_
        refine a_iandM F dX5_weighDeed_165 ic_2 (by omega) (fun v6 hv6 => ?_)
        refine z_ne F 182 dX5_weighDeed_166 (by decide) rfl (fun c7 => ?_) (fun c7 => ?_)
        · exact a_retv F hr hlocks hP hD hS dX5_weighDeed_182 ⟨hR, hF, hK_CTb⟩
        · exact L169 x5 _ _ _ _ hR hF hK_CTb (by omega) hP hD hS (lv_sub hl [0, 3] rfl)
  have L61 : ∀ (x4 : Int32) (x5 : Int32) (z0 : Int32) (u : ac_U) (H : Heap) (locs : List Loc) (ls : Array Slot), ac_R rg u → ac_Fr [(29, some 4), (30, none)] u0 u → cntI p2.toInt u → (0 : Int) ≤ x4.toInt ∧ x4.toInt ≤ 480 → (0 : Int) ≤ x5.toInt ∧ x5.toInt ≤ 19 → (0 : Int) ≤ z0.toInt ∧ z0.toInt ≤ 1 → va_P (dC, dI) vwCl (ac_w ad cA (TT nF) u) H → va_D A (ac_w ad cA (TT nF) u) → va_S A s.heap H locs → lv_has ls 8 [(0, .ref (ad 29)), (1, .int p0), (2, .int p1), (3, .int p2), (4, .int x4), (5, .int x5)] → W p l e (ac_rm 3) s m [.ref (ad 29), .int p0, .int p1, .int p2].toArray below meth c H locs 0 0 (MQ below (va_Qv (fun (u : ac_U) => ac_R rg u ∧ ac_Fr [(29, some 4), (30, none)] u0 u ∧ cntI (p2.toInt + 1) u) (ac_B (dC, dI) vwCl (ac_ty cA) ad cA (TT nF) A) A) [.ref (ad 29), .int p0, .int p1, .int p2].toArray s 0 0 A) (F0 m 61 ls [.int z0]) := by
    intro x4 x5 z0 u H locs ls hR hF hK_CTa f0 f1 f2 hP hD hS hl
    refine lv_istore (lv' := [(6, .int z0), (0, .ref (ad 29)), (1, .int p0), (2, .int p1), (3, .int p2), (4, .int x4), (5, .int x5)]) F.1 F.2.1 dX5_weighDeed_61 hl (by decide) rfl (fun ls hl => ?_)
    refine lv_aload_n F.1 F.2.1 dX5_weighDeed_63 rfl (lv_at hl 1 rfl) ?_
    refine a_getr F inX5 hP 29 1 tc_29 rfl rfl (by decide) q307 (fun _ h9 => h9) dX5_weighDeed_64 ?_
    refine lv_iload_n F.1 F.2.1 dX5_weighDeed_67 rfl (lv_at hl 4 rfl) ?_
    refine a_ic F (2 : Int32) dX5_weighDeed_68 (by decide) ?_
    refine a_Vi F hml hl.1 hA hP hD hS (As := [.int p2, .int (2 : Int32)]) (c_X6_mark_24 l dC dI ad cA nF _ p2 (2 : Int32) hR (by omega) (by decide)) (cs_RX5_68 (d := 1) F.2.2.1 (by decide)) tc_24 rfl rfl rfl rfl (Nat.le_of_ble_eq_true rfl) dX5_weighDeed_69 ⟨Nat.le_refl 0, Nat.le_refl 0⟩ (fun r8 uN8 H locs hq hP hD hS => ?_)
    obtain ⟨hu8, xr8⟩ := hq
    rw [hu8] at hP hD
    have xr8 : (2 : Int) = 0 → 0 ≤ r8.toInt ∧ r8.toInt ≤ 480 := xr8
    refine lv_istore (lv' := [(7, .int r8), (6, .int z0), (0, .ref (ad 29)), (1, .int p0), (2, .int p1), (3, .int p2), (4, .int x4), (5, .int x5)]) F.1 F.2.1 dX5_weighDeed_72 hl (by decide) rfl (fun ls hl => ?_)
    refine lv_iload F.1 F.2.1 dX5_weighDeed_74 (lv_at hl 1 rfl) ?_
    refine z_eq F 143 dX5_weighDeed_76 (by decide) rfl (fun c9 => ?_) (fun c9 => ?_)
    · exact L143 x5 z0 r8 _ _ _ _ hR hF (cnt_le hK_CTa (by omega)) (by omega) (by omega) hP hD hS (lv_sub hl [2, 3, 4, 7, 1, 0] rfl)
    · refine lv_iload F.1 F.2.1 dX5_weighDeed_79 (lv_at hl 0 rfl) ?_
      refine lv_aload_n F.1 F.2.1 dX5_weighDeed_81 rfl (lv_at hl 2 rfl) ?_
      refine a_getr F inX5 hP 29 0 tc_29 rfl rfl (by decide) q306 (fun _ h9 => h9) dX5_weighDeed_82 ?_
      refine lv_iload_n F.1 F.2.1 dX5_weighDeed_85 rfl (lv_at hl 3 rfl) ?_
      refine a_ic F (1 : Int32) dX5_weighDeed_86 (by decide) ?_
      refine a_Vi F hml hl.1 hA hP hD hS (As := [.int p0, .int (1 : Int32)]) (c_X2_term_4 l dC dI ad cA nF _ p0 (1 : Int32) hR (by omega) (by decide)) (cs_RX5_36 (d := 1) F.2.2.1 (by decide)) tc_4 rfl rfl rfl rfl (Nat.le_of_ble_eq_true rfl) dX5_weighDeed_87 ⟨Nat.le_refl 0, Nat.le_refl 0⟩ (fun r10 uN10 H locs hq hP hD hS => ?_)
      obtain ⟨hu10, xr10⟩ := hq
      rw [hu10] at hP hD
      have xr10 : ((1 : Int) = 2 → 0 ≤ r10.toInt ∧ r10.toInt ≤ 7) ∧ ((1 : Int) = 5 → 0 ≤ r10.toInt ∧ r10.toInt ≤ 3) := xr10
      refine b_ne F 143 dX5_weighDeed_90 (by decide) rfl rfl (fun c11 => ?_) (fun c11 => ?_)
      · exact L143 x5 z0 r8 _ _ _ _ hR hF (cnt_le hK_CTa (by omega)) (by omega) (by omega) hP hD hS (lv_sub hl [2, 3, 4, 7, 1, 0] rfl)
      · refine lv_aload_n F.1 F.2.1 dX5_weighDeed_93 rfl (lv_at hl 2 rfl) ?_
        refine a_getr F inX5 hP 29 0 tc_29 rfl rfl (by decide) q306 (fun _ h9 => h9) dX5_weighDeed_94 ?_
        refine lv_iload F.1 F.2.1 dX5_weighDeed_97 (lv_at hl 6 rfl) ?_
        refine a_Vi F hml hl.1 hA hP hD hS (As := [.int x4]) (c_X2_hourOf_4 l dC dI ad cA nF _ x4 hR (by omega)) (cs_RX5_59 (d := 1) F.2.2.1 (by decide)) tc_4 rfl rfl rfl rfl (Nat.le_of_ble_eq_true rfl) dX5_weighDeed_99 ⟨Nat.le_refl 0, Nat.le_refl 0⟩ (fun r12 uN12 H locs hq hP hD hS => ?_)
        obtain ⟨hu12, gr12, xr12⟩ := hq
        rw [hu12] at hP hD
        have xr12 : 0 ≤ x4.toInt → 0 ≤ r12.toInt := xr12
        refine lv_aload_n F.1 F.2.1 dX5_weighDeed_102 rfl (lv_at hl 2 rfl) ?_
        refine a_getr F inX5 hP 29 0 tc_29 rfl rfl (by decide) q306 (fun _ h9 => h9) dX5_weighDeed_103 ?_
        refine lv_iload_n F.1 F.2.1 dX5_weighDeed_106 rfl (lv_at hl 3 rfl) ?_
        refine a_ic F (3 : Int32) dX5_weighDeed_107 (by decide) ?_
        refine a_Vi F hml hl.1 hA hP hD hS (As := [.int p0, .int (3 : Int32)]) (c_X2_term_4 l dC dI ad cA nF _ p0 (3 : Int32) hR (by omega) (by decide)) (cs_RX5_36 (d := 1) F.2.2.1 (by decide)) tc_4 rfl rfl rfl rfl (Nat.le_of_ble_eq_true rfl) dX5_weighDeed_108 ⟨Nat.le_refl 0, Nat.le_refl 0⟩ (fun r13 uN13 H locs hq hP hD hS => ?_)
        obtain ⟨hu13, xr13⟩ := hq
        rw [hu13] at hP hD
        have xr13 : ((3 : Int) = 2 → 0 ≤ r13.toInt ∧ r13.toInt ≤ 7) ∧ ((3 : Int) = 5 → 0 ≤ r13.toInt ∧ r13.toInt ≤ 3) := xr13
        refine b_lt F 143 dX5_weighDeed_111 (by decide) rfl rfl (fun c14 => ?_) (fun c14 => ?_)
        · exact L143 x5 z0 r8 _ _ _ _ hR hF (cnt_le hK_CTa (by omega)) (by omega) (by omega) hP hD hS (lv_sub hl [2, 3, 4, 7, 1, 0] rfl)
        · refine lv_aload_n F.1 F.2.1 dX5_weighDeed_114 rfl (lv_at hl 2 rfl) ?_
          refine lv_iload_n F.1 F.2.1 dX5_weighDeed_115 rfl (lv_at hl 3 rfl) ?_
          refine lv_iload_n F.1 F.2.1 dX5_weighDeed_116 rfl (lv_at hl 4 rfl) ?_
          refine lv_aload_n F.1 F.2.1 dX5_weighDeed_117 rfl (lv_at hl 2 rfl) ?_
          refine a_getr F inX5 hP 29 1 tc_29 rfl rfl (by decide) q307 (fun _ h9 => h9) dX5_weighDeed_118 ?_
          refine lv_iload_n F.1 F.2.1 dX5_weighDeed_121 rfl (lv_at hl 5 rfl) ?_
          refine a_ic F (3 : Int32) dX5_weighDeed_122 (by decide) ?_
          refine a_Vi F hml hl.1 hA hP hD hS (As := [.int p2, .int (3 : Int32)]) (c_X6_mark_24 l dC dI ad cA nF _ p2 (3 : Int32) hR (by omega) (by decide)) (cs_RX5_68 (d := 1) F.2.2.1 (by decide)) tc_24 rfl rfl rfl rfl (Nat.le_of_ble_eq_true rfl) dX5_weighDeed_123 ⟨Nat.le_refl 0, Nat.le_refl 0⟩ (fun r15 uN15 H locs hq hP hD hS => ?_)
          obtain ⟨hu15, xr15⟩ := hq
          rw [hu15] at hP hD
          have xr15 : (3 : Int) = 0 → 0 ≤ r15.toInt ∧ r15.toInt ≤ 480 := xr15
          refine a_Vi F hml hl.1 hA hP hD hS (As := [.int p0, .int p1, .int r15]) (c_X5_isThere_29 l dC dI ad cA nF _ p0 p1 r15 hR (by omega) (by omega)) (cs_RX5_75 (d := 2) F.2.2.1 (by decide)) tc_29 rfl rfl rfl rfl (Nat.le_of_ble_eq_true rfl) dX5_weighDeed_126 ⟨Nat.le_refl 0, Nat.le_refl 0⟩ (fun r16 uN16 H locs hq hP hD hS => ?_)
          obtain ⟨hu16, gr16⟩ := hq
          rw [hu16] at hP hD
          refine z_eq F 143 dX5_weighDeed_129 (by decide) rfl (fun c17 => ?_) (fun c17 => ?_)
          · exact L143 x5 z0 r8 _ _ _ _ hR hF (cnt_le hK_CTa (by omega)) (by omega) (by omega) hP hD hS (lv_sub hl [2, 3, 4, 7, 1, 0] rfl)
          · refine lv_aload_n F.1 F.2.1 dX5_weighDeed_132 rfl (lv_at hl 2 rfl) ?_
            refine a_getr F inX5 hP 29 2 tc_29 rfl rfl (by decide) q308 (fun _ h9 => h9) dX5_weighDeed_133 ?_
            refine lv_iload F.1 F.2.1 dX5_weighDeed_136 (lv_at hl 7 rfl) ?_
            refine lv_dup2_11 F.1 F.2.1 dX5_weighDeed_138 rfl rfl ?_
            refine a_iald F hP 30 tc_30 rfl (i_in rfl (by omega)) dX5_weighDeed_139 (fun v18 ev18 => ?_)
            have hm8 := cnt_get hK_CTa (i := x5) (by omega) ev18
            refine a_ic F (1 : Int32) dX5_weighDeed_140 (by decide) ?_
            refine a_iadd F dX5_weighDeed_141 rfl ic_1 (by omega) (fun v19 hv19 => ?_)
            refine a_iast F hP hD hS 30 tc_30 rfl (i_in rfl (by omega)) dX5_weighDeed_142 (fun H locs hP hD hS => ?_)
            have hR := hR.si (c := 30) (k := x5.toNatClampNeg) (v := v19) ⟨i_lo _, i_hi _⟩
            have hF := hF.si (c := 30) (k := x5.toNatClampNeg) (v := v19) rfl
            have hN_CTb := cnt_inc hK_CTa (k := x5.toNatClampNeg) (x := v18) (v := v19) (by have q9 := i_cl (x := x5) (by omega); omega) ev18 (by omega)
            have hK_CTb := hN_CTb
            exact L143 x5 z0 r8 _ _ _ _ hR hF hK_CTb (by omega) (by omega) hP hD hS (lv_sub hl [2, 3, 4, 7, 1, 0] rfl)
  refine lv_aload_n F.1 F.2.1 dX5_weighDeed_0 rfl (lv_at hl 0 rfl) ?_
  refine a_getr F inX5 hP 29 1 tc_29 rfl rfl (by decide) q307 (fun _ h9 => h9) dX5_weighDeed_1 ?_
  refine lv_iload_n F.1 F.2.1 dX5_weighDeed_4 rfl (lv_at hl 3 rfl) ?_
  refine a_ic F (0 : Int32) dX5_weighDeed_5 (by decide) ?_
  refine a_Vi F hml hl.1 hA hP hD hS (As := [.int p2, .int (0 : Int32)]) (c_X6_mark_24 l dC dI ad cA nF _ p2 (0 : Int32) hR (by omega) (by decide)) (cs_RX5_68 (d := 1) F.2.2.1 (by decide)) tc_24 rfl rfl rfl rfl (Nat.le_of_ble_eq_true rfl) dX5_weighDeed_6 ⟨Nat.le_refl 0, Nat.le_refl 0⟩ (fun r20 uN20 H locs hq hP hD hS => ?_)
  obtain ⟨hu20, xr20⟩ := hq
  rw [hu20] at hP hD
  have xr20 : (0 : Int) = 0 → 0 ≤ r20.toInt ∧ r20.toInt ≤ 480 := xr20
  refine lv_istore (lv' := [(4, .int r20), (0, .ref (ad 29)), (1, .int p0), (2, .int p1), (3, .int p2)]) F.1 F.2.1 dX5_weighDeed_9 hl (by decide) rfl (fun ls hl => ?_)
  refine lv_aload_n F.1 F.2.1 dX5_weighDeed_11 rfl (lv_at hl 1 rfl) ?_
  refine a_getr F inX5 hP 29 0 tc_29 rfl rfl (by decide) q306 (fun _ h9 => h9) dX5_weighDeed_12 ?_
  refine lv_iload F.1 F.2.1 dX5_weighDeed_15 (lv_at hl 0 rfl) ?_
  refine a_Vi F hml hl.1 hA hP hD hS (As := [.int r20]) (c_X2_dayOf_4 l dC dI ad cA nF _ r20 hR (by omega)) (cs_RX5_55 (d := 1) F.2.2.1 (by decide)) tc_4 rfl rfl rfl rfl (Nat.le_of_ble_eq_true rfl) dX5_weighDeed_17 ⟨Nat.le_refl 0, Nat.le_refl 0⟩ (fun r21 uN21 H locs hq hP hD hS => ?_)
  obtain ⟨hu21, gr21, xr21⟩ := hq
  rw [hu21] at hP hD
  have g22 : (4 : Int) ≤ (u0.1 4 0).toInt ∧ (u0.1 4 0).toInt ≤ 24 := hR 4 0
  have xr21 : 0 ≤ r20.toInt → r20.toInt < 20 * (u0.1 4 0).toInt → r21.toInt < 20 := xr21
  refine lv_istore (lv' := [(5, .int r21), (4, .int r20), (0, .ref (ad 29)), (1, .int p0), (2, .int p1), (3, .int p2)]) F.1 F.2.1 dX5_weighDeed_20 hl (by decide) rfl (fun ls hl => ?_)
  refine lv_iload F.1 F.2.1 dX5_weighDeed_22 (lv_at hl 0 rfl) ?_
  refine z_lt F 34 dX5_weighDeed_24 (by decide) rfl (fun c23 => ?_) (fun c23 => ?_)
  · exfalso; omega
  · refine lv_iload F.1 F.2.1 dX5_weighDeed_27 (lv_at hl 0 rfl) ?_
    refine a_bp F (20 : Int32) dX5_weighDeed_29 (by decide) ?_
    refine b_lt F 35 dX5_weighDeed_31 (by decide) rfl ic_20 (fun c24 => ?_) (fun c24 => ?_)
    · refine lv_aload_n F.1 F.2.1 dX5_weighDeed_35 rfl (lv_at hl 2 rfl) ?_
      refine a_getr F inX5 hP 29 1 tc_29 rfl rfl (by decide) q307 (fun _ h9 => h9) dX5_weighDeed_36 ?_
      refine lv_iload_n F.1 F.2.1 dX5_weighDeed_39 rfl (lv_at hl 5 rfl) ?_
      refine a_ic F (1 : Int32) dX5_weighDeed_40 (by decide) ?_
      refine a_Vi F hml hl.1 hA hP hD hS (As := [.int p2, .int (1 : Int32)]) (c_X6_mark_24 l dC dI ad cA nF _ p2 (1 : Int32) hR (by omega) (by decide)) (cs_RX5_68 (d := 1) F.2.2.1 (by decide)) tc_24 rfl rfl rfl rfl (Nat.le_of_ble_eq_true rfl) dX5_weighDeed_41 ⟨Nat.le_refl 0, Nat.le_refl 0⟩ (fun r25 uN25 H locs hq hP hD hS => ?_)
      obtain ⟨hu25, xr25⟩ := hq
      rw [hu25] at hP hD
      have xr25 : (1 : Int) = 0 → 0 ≤ r25.toInt ∧ r25.toInt ≤ 480 := xr25
      refine lv_aload_n F.1 F.2.1 dX5_weighDeed_44 rfl (lv_at hl 2 rfl) ?_
      refine a_getr F inX5 hP 29 0 tc_29 rfl rfl (by decide) q306 (fun _ h9 => h9) dX5_weighDeed_45 ?_
      refine lv_iload_n F.1 F.2.1 dX5_weighDeed_48 rfl (lv_at hl 3 rfl) ?_
      refine a_ic F (0 : Int32) dX5_weighDeed_49 (by decide) ?_
      refine a_Vi F hml hl.1 hA hP hD hS (As := [.int p0, .int (0 : Int32)]) (c_X2_term_4 l dC dI ad cA nF _ p0 (0 : Int32) hR (by omega) (by decide)) (cs_RX5_36 (d := 1) F.2.2.1 (by decide)) tc_4 rfl rfl rfl rfl (Nat.le_of_ble_eq_true rfl) dX5_weighDeed_50 ⟨Nat.le_refl 0, Nat.le_refl 0⟩ (fun r26 uN26 H locs hq hP hD hS => ?_)
      obtain ⟨hu26, xr26⟩ := hq
      rw [hu26] at hP hD
      have xr26 : ((0 : Int) = 2 → 0 ≤ r26.toInt ∧ r26.toInt ≤ 7) ∧ ((0 : Int) = 5 → 0 ≤ r26.toInt ∧ r26.toInt ≤ 3) := xr26
      refine b_ne F 60 dX5_weighDeed_53 (by decide) rfl rfl (fun c27 => ?_) (fun c27 => ?_)
      · refine a_ic F (0 : Int32) dX5_weighDeed_60 (by decide) ?_
        exact L61 r20 r21 (0 : Int32) _ _ _ _ hR hF hK_CTa (by omega) (by omega) (by decide) hP hD hS (lv_sub hl [2, 3, 4, 5, 1, 0] rfl)
      · refine a_ic F (1 : Int32) dX5_weighDeed_56 (by decide) ?_
        refine lv_goto (tgt := 61) F.1 F.2.1 dX5_weighDeed_57 (by decide) ?_
        exact L61 r20 r21 (1 : Int32) _ _ _ _ hR hF hK_CTa (by omega) (by omega) (by decide) hP hD hS (lv_sub hl [2, 3, 4, 5, 1, 0] rfl)
    · exact a_retv F hr hlocks hP hD hS dX5_weighDeed_34 ⟨hR, hF, (cnt_le hK_CTa (by omega))⟩
set_option maxHeartbeats 600000 in
set_option maxRecDepth 100000 in
theorem c_J7_fill_53178_30 (l : Launch) (dC : Nat → ClassId) (dI : Nat → Nat → Nat) (ad : Nat → Nat) (cA : Nat → ClassId) (nF : Nat) (u0 : ac_U) (p1 : Int32) (hR : ac_R rg u0) (hp1 : (0 : Int) ≤ p1.toInt ∧ p1.toInt ≤ 0) : ac_Mv l yJ7_fill_53178 (.code yJ7_fill_53178 cJ7_fill_53178 4 none :: TB) 1 (dC, dI) vwCl (ac_ty cA) ad cA (TT nF) [.ref (ad 30), .int p1] u0 (fun (u : ac_U) => ac_R rg u ∧ ac_Fr [(30, none)] u0 u ∧ flI 30 20 p1 u) := by
  refine ac_Mv.of (cc := cJ7_fill_53178) (maxL := 4) (ret := none) (by decide) rfl (Nat.le_of_ble_eq_true rfl) ?_
  intro p e s m below meth c A ls F hml hr hlocks hA hP hD hS hl
  have F : ac_X p s m [.ref (ad 30), .int p1].toArray c cJ7_fill_53178 RJ7 TB (dC, dI) vwCl (ac_ty cA) := ⟨F.1, F.2.1, fun w h => F.2.2.1 w (List.mem_cons_of_mem _ h), F.2.2.2.1, F.2.2.2.2⟩
  have hl : lv_has ls 4 [(0, .ref (ad 30)), (1, .int p1)] := hl
  have hF : ac_Fr [(30, none)] u0 u0 := ac_Fr.rf
  have L5 : ∀ (n5 : Nat) (x2 : Int32) (x3 : Int32) (u : ac_U) (H : Heap) (locs : List Loc) (ls : Array Slot), ac_R rg u → ac_Fr [(30, none)] u0 u → 20 - x2.toInt < (n5 : Int) → flI 30 x2.toInt p1 u → (0 : Int) ≤ x2.toInt ∧ x2.toInt ≤ 20 → (20 : Int) ≤ x3.toInt ∧ x3.toInt ≤ 20 → va_P (dC, dI) vwCl (ac_w ad cA (TT nF) u) H → va_D A (ac_w ad cA (TT nF) u) → va_S A s.heap H locs → lv_has ls 4 [(0, .ref (ad 30)), (1, .int p1), (2, .int x2), (3, .int x3)] → W p l e (ac_rm 1) s m [.ref (ad 30), .int p1].toArray below meth c H locs 0 0 (MQ below (va_Qv (fun (u : ac_U) => ac_R rg u ∧ ac_Fr [(30, none)] u0 u ∧ flI 30 20 p1 u) (ac_B (dC, dI) vwCl (ac_ty cA) ad cA (TT nF) A) A) [.ref (ad 30), .int p1].toArray s 0 0 A) (F0 m 5 ls []) := by
    intro n5
    induction n5 with
    | zero => intro x2 x3 u H locs ls hR hF hn5 hK_FLx f0 f1 hP hD hS hl; exfalso; omega
    | succ n5 ih5 =>
      intro x2 x3 u H locs ls hR hF hn5 hK_FLx f0 f1 hP hD hS hl
      refine lv_iload_n F.1 F.2.1 dJ7_fill_53178_5 rfl (lv_at hl 2 rfl) ?_
      refine lv_iload_n F.1 F.2.1 dJ7_fill_53178_6 rfl (lv_at hl 3 rfl) ?_
      refine b_ge F 20 dJ7_fill_53178_7 (by decide) rfl rfl (fun c1 => ?_) (fun c1 => ?_)
      · exact a_retv F hr hlocks hP hD hS dJ7_fill_53178_20 ⟨hR, hF, (fl_le hK_FLx (by omega))⟩
      · refine lv_aload_n F.1 F.2.1 dJ7_fill_53178_10 rfl (lv_at hl 0 rfl) ?_
        refine lv_iload_n F.1 F.2.1 dJ7_fill_53178_11 rfl (lv_at hl 2 rfl) ?_
        refine lv_iload_n F.1 F.2.1 dJ7_fill_53178_12 rfl (lv_at hl 1 rfl) ?_
        refine a_iast F hP hD hS 30 tc_30 rfl (i_in rfl (by omega)) dJ7_fill_53178_13 (fun H locs hP hD hS => ?_)
        have hR := hR.si (c := 30) (k := x2.toNatClampNeg) (v := p1) ⟨i_lo _, i_hi _⟩
        have hF := hF.si (c := 30) (k := x2.toNatClampNeg) (v := p1) rfl
        have hK_FLx := fl_s hK_FLx (i := x2) (by omega) rfl
        refine a_iinc F (k := 2) (fun v2 => [(2, .int v2), (0, .ref (ad 30)), (1, .int p1), (3, .int x3)]) dJ7_fill_53178_14 hl rfl rfl (by decide) (by omega) (by decide) (fun _ => rfl) (fun v2 ls hv2 hl => ?_)
        refine lv_goto (tgt := 5) F.1 F.2.1 dJ7_fill_53178_17 (by decide) ?_
        exact ih5 v2 x3 _ _ _ _ hR hF (by omega) (fl_le hK_FLx (by omega)) (by omega) (by omega) hP hD hS (lv_sub hl [1, 2, 0, 3] rfl)
  refine a_ic F (0 : Int32) dJ7_fill_53178_0 (by decide) ?_
  refine lv_istore_n (lv' := [(2, .int (0 : Int32)), (0, .ref (ad 30)), (1, .int p1)]) F.1 F.2.1 dJ7_fill_53178_1 rfl hl (by decide) rfl (fun ls hl => ?_)
  refine lv_aload_n F.1 F.2.1 dJ7_fill_53178_2 rfl (lv_at hl 1 rfl) ?_
  refine va_alen (v := (20 : Int32)) F.1 F.2.1 F.2.2.2.2 hP 30 0 (ac_at tc_30) rfl rfl dJ7_fill_53178_3 ?_
  refine lv_istore_n (lv' := [(3, .int (20 : Int32)), (2, .int (0 : Int32)), (0, .ref (ad 30)), (1, .int p1)]) F.1 F.2.1 dJ7_fill_53178_4 rfl hl (by decide) rfl (fun ls hl => ?_)
  exact L5 22 (0 : Int32) (20 : Int32) _ _ _ _ hR hF (by decide) (fl_0 (by decide)) (by decide) (by decide) hP hD hS (lv_sub hl [2, 3, 1, 0] rfl)
set_option maxHeartbeats 600000 in
set_option maxRecDepth 100000 in
theorem c_X5_weigh_29 (l : Launch) (dC : Nat → ClassId) (dI : Nat → Nat → Nat) (ad : Nat → Nat) (cA : Nat → ClassId) (nF : Nat) (u0 : ac_U) (p0 : Int32) (p1 : Int32) (hR : ac_R rg u0) (hp0 : (0 : Int) ≤ p0.toInt ∧ p0.toInt ≤ 7) (hp1 : (0 : Int) ≤ p1.toInt ∧ p1.toInt ≤ 7) : ac_Mv l yX5_weigh (.code yX5_weigh cX5_weigh 7 none :: TB) 4 (dC, dI) vwCl (ac_ty cA) ad cA (TT nF) [.ref (ad 29), .int p0, .int p1] u0 (fun (u : ac_U) => ac_R rg u ∧ ac_Fr [(29, some 4), (29, some 5), (29, some 6), (30, none)] u0 u ∧ cntI 80 u) := by
  refine ac_Mv.of (cc := cX5_weigh) (maxL := 7) (ret := none) (by decide) rfl (Nat.le_of_ble_eq_true rfl) ?_
  intro p e s m below meth c A ls F hml hr hlocks hA hP hD hS hl
  have F : ac_X p s m [.ref (ad 29), .int p0, .int p1].toArray c cX5_weigh RX5 TB (dC, dI) vwCl (ac_ty cA) := ⟨F.1, F.2.1, fun w h => F.2.2.1 w (List.mem_cons_of_mem _ h), F.2.2.2.1, F.2.2.2.2⟩
  have hl : lv_has ls 7 [(0, .ref (ad 29)), (1, .int p0), (2, .int p1)] := hl
  have hF : ac_Fr [(29, some 4), (29, some 5), (29, some 6), (30, none)] u0 u0 := ac_Fr.rf
  have L104 : ∀ (n104 : Nat) (x4 : Int32) (x5 : Int32) (u : ac_U) (H : Heap) (locs : List Loc) (ls : Array Slot), ac_R rg u → ac_Fr [(29, some 4), (29, some 5), (29, some 6), (30, none)] u0 u → 80 - x5.toInt < (n104 : Int) → cntI x5.toInt u → (-1 : Int) ≤ x4.toInt ∧ x4.toInt ≤ 480 → (0 : Int) ≤ x5.toInt ∧ x5.toInt ≤ 80 → (u.1 29 5).toInt ≤ 23 → va_P (dC, dI) vwCl (ac_w ad cA (TT nF) u) H → va_D A (ac_w ad cA (TT nF) u) → va_S A s.heap H locs → lv_has ls 7 [(0, .ref (ad 29)), (1, .int p0), (2, .int p1), (4, .int x4), (5, .int x5)] → W p l e (ac_rm 4) s m [.ref (ad 29), .int p0, .int p1].toArray below meth c H locs 0 0 (MQ below (va_Qv (fun (u : ac_U) => ac_R rg u ∧ ac_Fr [(29, some 4), (29, some 5), (29, some 6), (30, none)] u0 u ∧ cntI 80 u) (ac_B (dC, dI) vwCl (ac_ty cA) ad cA (TT nF) A) A) [.ref (ad 29), .int p0, .int p1].toArray s 0 0 A) (F0 m 104 ls []) := by
    intro n104
    induction n104 with
    | zero => intro x4 x5 u H locs ls hR hF hn104 hK_CTx f0 f1 f2 hP hD hS hl; exfalso; omega
    | succ n104 ih104 =>
      intro x4 x5 u H locs ls hR hF hn104 hK_CTx f0 f1 f2 hP hD hS hl
      have L161 : ∀ (x4 : Int32) (x5 : Int32) (u : ac_U) (H : Heap) (locs : List Loc) (ls : Array Slot), ac_R rg u → ac_Fr [(29, some 4), (29, some 5), (29, some 6), (30, none)] u0 u → cntI (x5.toInt + 1) u → (-1 : Int) ≤ x4.toInt ∧ x4.toInt ≤ 480 → (0 : Int) ≤ x5.toInt ∧ x5.toInt ≤ 79 → (1 : Int) ≤ (u.1 25 2).toInt ∧ (u.1 25 2).toInt ≤ 80 → (u.1 29 5).toInt ≤ 23 → 80 - x5.toInt + 0 < ((n104 : Nat) : Int) + 1 → va_P (dC, dI) vwCl (ac_w ad cA (TT nF) u) H → va_D A (ac_w ad cA (TT nF) u) → va_S A s.heap H locs → lv_has ls 7 [(0, .ref (ad 29)), (1, .int p0), (2, .int p1), (4, .int x4), (5, .int x5)] → W p l e (ac_rm 4) s m [.ref (ad 29), .int p0, .int p1].toArray below meth c H locs 0 0 (MQ below (va_Qv (fun (u : ac_U) => ac_R rg u ∧ ac_Fr [(29, some 4), (29, some 5), (29, some 6), (30, none)] u0 u ∧ cntI 80 u) (ac_B (dC, dI) vwCl (ac_ty cA) ad cA (TT nF) A) A) [.ref (ad 29), .int p0, .int p1].toArray s 0 0 A) (F0 m 161 ls []) := by
        intro x4 x5 u H locs ls hR hF hK_CTy f0 f1 f2 f3 f4 hP hD hS hl
        refine a_iinc F (k := 4) (fun v1 => [(5, .int v1), (0, .ref (ad 29)), (1, .int p0), (2, .int p1), (4, .int x4)]) dX5_weigh_161 hl rfl rfl (by decide) (by omega) (by decide) (fun _ => rfl) (fun v1 ls hv1 hl => ?_)
        refine lv_goto (tgt := 104) F.1 F.2.1 dX5_weigh_164 (by decide) ?_
        exact ih104 x4 v1 _ _ _ _ hR hF (by omega) (cnt_le hK_CTy (by omega)) (by omega) (by omega) (by omega : (u.1 29 5).toInt ≤ 23) hP hD hS (lv_sub hl [1, 2, 3, 4, 0] rfl)
      refine lv_iload F.1 F.2.1 dX5_weigh_104 (lv_at hl 4 rfl) ?_
      refine lv_aload_n F.1 F.2.1 dX5_weigh_106 rfl (lv_at hl 0 rfl) ?_
      refine a_getr F inX5 hP 29 1 tc_29 rfl rfl (by decide) q307 (fun _ h9 => h9) dX5_weigh_107 ?_
      refine a_getr F inX6 hP 24 1 tc_24 rfl rfl (by decide) q274 (fun _ h9 => h9) dX5_weigh_110 ?_
      refine a_ic F (2 : Int32) dX5_weigh_113 (by decide) ?_
      have g2 : (0 : Int) ≤ (u.1 25 2).toInt ∧ (u.1 25 2).toInt ≤ 80 := hR 25 2
      refine a_ialdK F hP 25 2 tc_25 rfl rfl (i_in ic_2 (by omega)) (v := (u.1 25 2)) rfl dX5_weigh_114 ?_
      refine b_ge F 167 dX5_weigh_115 (by decide) rfl rfl (fun c3 => ?_) (fun c3 => ?_)
      · exact a_retv F hr hlocks hP hD hS dX5_weigh_167 ⟨hR, hF, (cnt_le hK_CTx (by omega))⟩
      · refine lv_aload_n F.1 F.2.1 dX5_weigh_118 rfl (lv_at hl 0 rfl) ?_
        refine a_getr F inX5 hP 29 1 tc_29 rfl rfl (by decide) q307 (fun _ h9 => h9) dX5_weigh_119 ?_
        refine lv_iload F.1 F.2.1 dX5_weigh_122 (lv_at hl 4 rfl) ?_
        refine a_ic F (0 : Int32) dX5_weigh_124 (by decide) ?_
        refine a_Vi F hml hl.1 hA hP hD hS (As := [.int x5, .int (0 : Int32)]) (c_X6_mark_24 l dC dI ad cA nF _ x5 (0 : Int32) hR (by omega) (by decide)) (cs_RX5_68 (d := 1) F.2.2.1 (by decide)) tc_24 rfl rfl rfl rfl (Nat.le_of_ble_eq_true rfl) dX5_weigh_125 ⟨Nat.le_refl 0, Nat.le_refl 0⟩ (fun r4 uN4 H locs hq hP hD hS => ?_)
        obtain ⟨hu4, xr4⟩ := hq
        rw [hu4] at hP hD
        have xr4 : (0 : Int) = 0 → 0 ≤ r4.toInt ∧ r4.toInt ≤ 480 := xr4
        refine lv_istore (lv' := [(6, .int r4), (0, .ref (ad 29)), (1, .int p0), (2, .int p1), (4, .int x4), (5, .int x5)]) F.1 F.2.1 dX5_weigh_128 hl (by decide) rfl (fun ls hl => ?_)
        refine lv_iload F.1 F.2.1 dX5_weigh_130 (lv_at hl 0 rfl) ?_
        refine lv_iload F.1 F.2.1 dX5_weigh_132 (lv_at hl 4 rfl) ?_
        refine b_lt F 161 dX5_weigh_134 (by decide) rfl rfl (fun c5 => ?_) (fun c5 => ?_)
        · exact L161 x4 x5 _ _ _ _ hR hF (cnt_le hK_CTx (by omega)) (by omega) (by omega) (by omega : (1 : Int) ≤ (u.1 25 2).toInt ∧ (u.1 25 2).toInt ≤ 80) (by omega : (u.1 29 5).toInt ≤ 23) (by omega) hP hD hS (lv_sub hl [1, 2, 3, 4, 5] rfl)
        · refine lv_aload_n F.1 F.2.1 dX5_weigh_137 rfl (lv_at hl 1 rfl) ?_
          refine a_getr F inX5 hP 29 0 tc_29 rfl rfl (by decide) q306 (fun _ h9 => h9) dX5_weigh_138 ?_
          refine lv_iload F.1 F.2.1 dX5_weigh_141 (lv_at hl 0 rfl) ?_
          refine a_Vi F hml hl.1 hA hP hD hS (As := [.int r4]) (c_X2_hourOf_4 l dC dI ad cA nF _ r4 hR (by omega)) (cs_RX5_59 (d := 1) F.2.2.1 (by decide)) tc_4 rfl rfl rfl rfl (Nat.le_of_ble_eq_true rfl) dX5_weigh_143 ⟨Nat.le_refl 0, Nat.le_refl 0⟩ (fun r6 uN6 H locs hq hP hD hS => ?_)
          obtain ⟨hu6, gr6, xr6⟩ := hq
          rw [hu6] at hP hD
          have xr6 : 0 ≤ r4.toInt → 0 ≤ r6.toInt := xr6
          refine lv_aload_n F.1 F.2.1 dX5_weigh_146 rfl (lv_at hl 1 rfl) ?_
          refine a_geti F inX5 hP 29 5 tc_29 rfl rfl (by decide) q311 (fun _ h9 => h9) (v := (u.1 29 5)) rfl dX5_weigh_147 ?_
          refine b_gt F 161 dX5_weigh_150 (by decide) rfl rfl (fun c7 => ?_) (fun c7 => ?_)
          · exact L161 x4 x5 _ _ _ _ hR hF (cnt_le hK_CTx (by omega)) (by omega) (by omega) (by omega : (1 : Int) ≤ (u.1 25 2).toInt ∧ (u.1 25 2).toInt ≤ 80) (by omega : (u.1 29 5).toInt ≤ 23) (by omega) hP hD hS (lv_sub hl [1, 2, 3, 4, 5] rfl)
          · refine lv_aload_n F.1 F.2.1 dX5_weigh_153 rfl (lv_at hl 1 rfl) ?_
            refine lv_iload_n F.1 F.2.1 dX5_weigh_154 rfl (lv_at hl 2 rfl) ?_
            refine lv_iload_n F.1 F.2.1 dX5_weigh_155 rfl (lv_at hl 3 rfl) ?_
            refine lv_iload F.1 F.2.1 dX5_weigh_156 (lv_at hl 5 rfl) ?_
            refine a_Vv F hml hl.1 hA hP hD hS (As := [.int p0, .int p1, .int x5]) (c_X5_weighDeed_29 l dC dI ad cA nF _ p0 p1 x5 hR (by omega) (by omega) (by omega) hK_CTx) (cs_RX5_71 (d := 3) F.2.2.1 (by decide)) tc_29 rfl rfl rfl rfl (Nat.le_of_ble_eq_true rfl) dX5_weigh_158 ⟨Nat.le_refl 0, Nat.le_refl 0⟩ (fun u8 H locs hq hP hD hS => ?_)
            obtain ⟨hR, hF8, hK_CTy⟩ := hq
            have hF := hF.tr hF8 (by decide)
            exact L161 x4 x5 _ _ _ _ hR hF hK_CTy (by omega) (by omega) (i_trB (hF8 25 2 rfl) (by omega : (1 : Int) ≤ (u.1 25 2).toInt ∧ (u.1 25 2).toInt ≤ 80)) (i_trH (hF8 29 5 rfl) (by omega : (u.1 29 5).toInt ≤ 23)) (by omega) hP hD hS (lv_sub hl [1, 2, 3, 4, 5] rfl)
  have L84 : ∀ (x4 : Int32) (z1 : Int32) (z2 : Int32) (u : ac_U) (H : Heap) (locs : List Loc) (ls : Array Slot), ac_R rg u → ac_Fr [(29, some 4), (29, some 5), (29, some 6), (30, none)] u0 u → (-1 : Int) ≤ x4.toInt ∧ x4.toInt ≤ 480 → (0 : Int) ≤ z1.toInt ∧ z1.toInt ≤ 120 → (0 : Int) ≤ z2.toInt ∧ z2.toInt ≤ 1 → (u.1 29 5).toInt ≤ 23 → va_P (dC, dI) vwCl (ac_w ad cA (TT nF) u) H → va_D A (ac_w ad cA (TT nF) u) → va_S A s.heap H locs → lv_has ls 7 [(0, .ref (ad 29)), (1, .int p0), (2, .int p1), (4, .int x4)] → W p l e (ac_rm 4) s m [.ref (ad 29), .int p0, .int p1].toArray below meth c H locs 0 0 (MQ below (va_Qv (fun (u : ac_U) => ac_R rg u ∧ ac_Fr [(29, some 4), (29, some 5), (29, some 6), (30, none)] u0 u ∧ cntI 80 u) (ac_B (dC, dI) vwCl (ac_ty cA) ad cA (TT nF) A) A) [.ref (ad 29), .int p0, .int p1].toArray s 0 0 A) (F0 m 84 ls [.int z2, .int z1, .ref (ad 29)]) := by
    intro x4 z1 z2 u H locs ls hR hF f0 f1 f2 f3 hP hD hS hl
    refine a_iadd F dX5_weigh_84 rfl rfl (by omega) (fun v9 hv9 => ?_)
    refine a_puti F inX5 tyX5 tyX5_ok nmX5 hP hD hS 29 6 tc_29 rfl rfl (by decide) q312 (fun _ h9 => h9) rfl (ty := .int) (tyX5_ok 6 (by decide)) rfl rfl dX5_weigh_85 (fun H locs hP hD hS => ?_)
    have hR := hR.si (c := 29) (k := 6) (v := v9) (by omega : (0 : Int) ≤ v9.toInt ∧ v9.toInt ≤ 121)
    have hF := hF.si (c := 29) (k := 6) (v := v9) rfl
    refine lv_aload_n F.1 F.2.1 dX5_weigh_88 rfl (lv_at hl 0 rfl) ?_
    refine a_ic F (0 : Int32) dX5_weigh_89 (by decide) ?_
    refine a_puti F inX5 tyX5 tyX5_ok nmX5 hP hD hS 29 4 tc_29 rfl rfl (by decide) q310 (fun _ h9 => h9) rfl (ty := .int) (tyX5_ok 4 (by decide)) rfl rfl dX5_weigh_90 (fun H locs hP hD hS => ?_)
    have hR := hR.si (c := 29) (k := 4) (v := (0 : Int32)) ⟨i_lo _, i_hi _⟩
    have hF := hF.si (c := 29) (k := 4) (v := (0 : Int32)) rfl
    refine lv_aload_n F.1 F.2.1 dX5_weigh_93 rfl (lv_at hl 0 rfl) ?_
    refine a_getr F inX5 hP 29 2 tc_29 rfl rfl (by decide) q308 (fun _ h9 => h9) dX5_weigh_94 ?_
    refine a_ic F (0 : Int32) dX5_weigh_97 (by decide) ?_
    refine a_Sv F hml hl.1 hA hP hD hS (As := [.ref (ad 30), .int (0 : Int32)]) (c_J7_fill_53178_30 l dC dI ad cA nF _ (0 : Int32) hR (by decide)) (cs_RX5_62 (d := 1) F.2.2.1 (by decide)) rfl rfl (Nat.le_of_ble_eq_true rfl) dX5_weigh_98 ⟨Nat.le_refl 0, Nat.le_refl 0⟩ (fun u10 H locs hq hP hD hS => ?_)
    obtain ⟨hR, hF10, hK_FLw⟩ := hq
    have hF := hF.tr hF10 (by decide)
    refine a_ic F (0 : Int32) dX5_weigh_101 (by decide) ?_
    refine lv_istore (lv' := [(5, .int (0 : Int32)), (0, .ref (ad 29)), (1, .int p0), (2, .int p1), (4, .int x4)]) F.1 F.2.1 dX5_weigh_102 hl (by decide) rfl (fun ls hl => ?_)
    exact L104 82 x4 (0 : Int32) _ _ _ _ hR hF (by decide) (cnt_le (fl_cnt hK_FLw (by decide)) (by decide)) (by omega) (by decide) (i_trH (hF10 29 5 rfl) (by omega : (u.1 29 5).toInt ≤ 23)) hP hD hS (lv_sub hl [1, 2, 3, 4, 0] rfl)
  have L11 : ∀ (z0 : Int32) (u : ac_U) (H : Heap) (locs : List Loc) (ls : Array Slot), ac_R rg u → ac_Fr [(29, some 4), (29, some 5), (29, some 6), (30, none)] u0 u → (0 : Int) ≤ z0.toInt ∧ z0.toInt ≤ 1 → va_P (dC, dI) vwCl (ac_w ad cA (TT nF) u) H → va_D A (ac_w ad cA (TT nF) u) → va_S A s.heap H locs → lv_has ls 7 [(0, .ref (ad 29)), (1, .int p0), (2, .int p1)] → W p l e (ac_rm 4) s m [.ref (ad 29), .int p0, .int p1].toArray below meth c H locs 0 0 (MQ below (va_Qv (fun (u : ac_U) => ac_R rg u ∧ ac_Fr [(29, some 4), (29, some 5), (29, some 6), (30, none)] u0 u ∧ cntI 80 u) (ac_B (dC, dI) vwCl (ac_ty cA) ad cA (TT nF) A) A) [.ref (ad 29), .int p0, .int p1].toArray s 0 0 A) (F0 m 11 ls [.int z0]) := by
    intro z0 u H locs ls hR hF f0 hP hD hS hl
    refine lv_istore_n (lv' := [(3, .int z0), (0, .ref (ad 29)), (1, .int p0), (2, .int p1)]) F.1 F.2.1 dX5_weigh_11 rfl hl (by decide) rfl (fun ls hl => ?_)
    refine lv_aload_n F.1 F.2.1 dX5_weigh_12 rfl (lv_at hl 1 rfl) ?_
    refine lv_aload_n F.1 F.2.1 dX5_weigh_13 rfl (lv_at hl 1 rfl) ?_
    refine a_getr F inX5 hP 29 0 tc_29 rfl rfl (by decide) q306 (fun _ h9 => h9) dX5_weigh_14 ?_
    refine lv_iload_n F.1 F.2.1 dX5_weigh_17 rfl (lv_at hl 2 rfl) ?_
    refine a_ic F (4 : Int32) dX5_weigh_18 (by decide) ?_
    refine a_Vi F hml hl.1 hA hP hD hS (As := [.int p0, .int (4 : Int32)]) (c_X2_term_4 l dC dI ad cA nF _ p0 (4 : Int32) hR (by omega) (by decide)) (cs_RX5_36 (d := 1) F.2.2.1 (by decide)) tc_4 rfl rfl rfl rfl (Nat.le_of_ble_eq_true rfl) dX5_weigh_19 ⟨Nat.le_refl 0, Nat.le_refl 0⟩ (fun r11 uN11 H locs hq hP hD hS => ?_)
    obtain ⟨hu11, xr11⟩ := hq
    rw [hu11] at hP hD
    have xr11 : ((4 : Int) = 2 → 0 ≤ r11.toInt ∧ r11.toInt ≤ 7) ∧ ((4 : Int) = 5 → 0 ≤ r11.toInt ∧ r11.toInt ≤ 3) := xr11
    refine lv_iload_n F.1 F.2.1 dX5_weigh_22 rfl (lv_at hl 0 rfl) ?_
    refine a_isubU F dX5_weigh_23 (fun v12 => ?_)
    refine lv_aload_n F.1 F.2.1 dX5_weigh_24 rfl (lv_at hl 1 rfl) ?_
    refine a_getr F inX5 hP 29 0 tc_29 rfl rfl (by decide) q306 (fun _ h9 => h9) dX5_weigh_25 ?_
    have g13 : (4 : Int) ≤ (u.1 4 0).toInt ∧ (u.1 4 0).toInt ≤ 24 := hR 4 0
    refine a_geti F inX2 hP 4 0 tc_4 rfl rfl (by decide) q152 (fun _ h9 => h9) (v := (u.1 4 0)) rfl dX5_weigh_28 ?_
    refine a_ic F (1 : Int32) dX5_weigh_31 (by decide) ?_
    refine a_isub F dX5_weigh_32 rfl ic_1 (by omega) (fun v14 hv14 => ?_)
    refine va_mmin F.1 F.2.1 (hml.trans hl.1.symm) F.2.2.2.1 (F.2.2.1 _ q824) (F.2.2.1 _ q825) (F.2.2.1 _ q24) (F.2.2.1 _ q826) (by decide) (Nat.le_of_ble_eq_true rfl) (Nat.le_refl 0) (Nat.le_refl 0) dX5_weigh_33 ?_
    refine lv_topi (fun v15 ev15 => ?_)
    have hv15 := i_min rfl rfl ev15
    refine a_puti F inX5 tyX5 tyX5_ok nmX5 hP hD hS 29 5 tc_29 rfl rfl (by decide) q311 (fun _ h9 => h9) rfl (ty := .int) (tyX5_ok 5 (by decide)) rfl rfl dX5_weigh_36 (fun H locs hP hD hS => ?_)
    have hR := hR.si (c := 29) (k := 5) (v := v15) ⟨i_lo _, i_hi _⟩
    have hF := hF.si (c := 29) (k := 5) (v := v15) rfl
    refine lv_aload_n F.1 F.2.1 dX5_weigh_39 rfl (lv_at hl 1 rfl) ?_
    refine a_getr F inX5 hP 29 1 tc_29 rfl rfl (by decide) q307 (fun _ h9 => h9) dX5_weigh_40 ?_
    refine a_getr F inX6 hP 24 1 tc_24 rfl rfl (by decide) q274 (fun _ h9 => h9) dX5_weigh_43 ?_
    refine a_bp F (15 : Int32) dX5_weigh_46 (by decide) ?_
    refine lv_iload_n F.1 F.2.1 dX5_weigh_48 rfl (lv_at hl 2 rfl) ?_
    refine a_iadd F dX5_weigh_49 ic_15 rfl (by omega) (fun v16 hv16 => ?_)
    refine a_iald F hP 25 tc_25 rfl (i_in rfl (by omega)) dX5_weigh_50 (fun v17 ev17 => ?_)
    have hv17 : (-1 : Int) ≤ v17.toInt ∧ v17.toInt ≤ 480 := rg_seg_25_15_22 hR ev17 (by omega)
    refine lv_istore (lv' := [(4, .int v17), (3, .int z0), (0, .ref (ad 29)), (1, .int p0), (2, .int p1)]) F.1 F.2.1 dX5_weigh_51 hl (by decide) rfl (fun ls hl => ?_)
    refine lv_aload_n F.1 F.2.1 dX5_weigh_53 rfl (lv_at hl 2 rfl) ?_
    refine lv_aload_n F.1 F.2.1 dX5_weigh_54 rfl (lv_at hl 2 rfl) ?_
    refine a_getr F inX5 hP 29 0 tc_29 rfl rfl (by decide) q306 (fun _ h9 => h9) dX5_weigh_55 ?_
    refine lv_iload F.1 F.2.1 dX5_weigh_58 (lv_at hl 0 rfl) ?_
    refine a_Vi F hml hl.1 hA hP hD hS (As := [.int v17]) (c_X2_dayOf_4 l dC dI ad cA nF _ v17 hR (by omega)) (cs_RX5_55 (d := 1) F.2.2.1 (by decide)) tc_4 rfl rfl rfl rfl (Nat.le_of_ble_eq_true rfl) dX5_weigh_60 ⟨Nat.le_refl 0, Nat.le_refl 0⟩ (fun r18 uN18 H locs hq hP hD hS => ?_)
    obtain ⟨hu18, gr18, xr18⟩ := hq
    rw [hu18] at hP hD
    have xr18 : 0 ≤ v17.toInt → v17.toInt < 20 * (u.1 4 0).toInt → r18.toInt < 20 := xr18
    refine lv_aload_n F.1 F.2.1 dX5_weigh_63 rfl (lv_at hl 2 rfl) ?_
    refine a_getr F inX5 hP 29 0 tc_29 rfl rfl (by decide) q306 (fun _ h9 => h9) dX5_weigh_64 ?_
    refine lv_iload F.1 F.2.1 dX5_weigh_67 (lv_at hl 0 rfl) ?_
    refine a_Vi F hml hl.1 hA hP hD hS (As := [.int v17]) (c_X2_hourOf_4 l dC dI ad cA nF _ v17 hR (by omega)) (cs_RX5_59 (d := 1) F.2.2.1 (by decide)) tc_4 rfl rfl rfl rfl (Nat.le_of_ble_eq_true rfl) dX5_weigh_69 ⟨Nat.le_refl 0, Nat.le_refl 0⟩ (fun r19 uN19 H locs hq hP hD hS => ?_)
    obtain ⟨hu19, gr19, xr19⟩ := hq
    rw [hu19] at hP hD
    have xr19 : 0 ≤ v17.toInt → 0 ≤ r19.toInt := xr19
    refine lv_aload_n F.1 F.2.1 dX5_weigh_72 rfl (lv_at hl 2 rfl) ?_
    refine a_geti F inX5 hP 29 5 tc_29 rfl rfl (by decide) q311 (fun _ h9 => h9) (v := v15) (rfl) dX5_weigh_73 ?_
    refine b_gt F 83 dX5_weigh_76 (by decide) rfl rfl (fun c20 => ?_) (fun c20 => ?_)
    · refine a_ic F (1 : Int32) dX5_weigh_83 (by decide) ?_
      exact L84 v17 r18 (1 : Int32) _ _ _ _ hR hF (by omega) (by omega) (by decide) (by omega : v15.toInt ≤ 23) hP hD hS (lv_sub hl [2, 3, 4, 0] rfl)
    · refine a_ic F (0 : Int32) dX5_weigh_79 (by decide) ?_
      refine lv_goto (tgt := 84) F.1 F.2.1 dX5_weigh_80 (by decide) ?_
      exact L84 v17 r18 (0 : Int32) _ _ _ _ hR hF (by omega) (by omega) (by decide) (by omega : v15.toInt ≤ 23) hP hD hS (lv_sub hl [2, 3, 4, 0] rfl)
  refine lv_iload_n F.1 F.2.1 dX5_weigh_0 rfl (lv_at hl 2 rfl) ?_
  refine a_ic F (1 : Int32) dX5_weigh_1 (by decide) ?_
  refine a_iandM F dX5_weigh_2 ic_1 (by omega) (fun v21 hv21 => ?_)
  refine z_eq F 10 dX5_weigh_3 (by decide) rfl (fun c22 => ?_) (fun c22 => ?_)
  · refine a_ic F (0 : Int32) dX5_weigh_10 (by decide) ?_
    exact L11 (0 : Int32) _ _ _ _ hR hF (by decide) hP hD hS (lv_sub hl [0, 1, 2] rfl)
  · refine a_ic F (1 : Int32) dX5_weigh_6 (by decide) ?_
    refine lv_goto (tgt := 11) F.1 F.2.1 dX5_weigh_7 (by decide) ?_
    exact L11 (1 : Int32) _ _ _ _ hR hF (by decide) hP hD hS (lv_sub hl [0, 1, 2] rfl)
set_option maxHeartbeats 600000 in
set_option maxRecDepth 100000 in
theorem c_X6_isSaid_24 (l : Launch) (dC : Nat → ClassId) (dI : Nat → Nat → Nat) (ad : Nat → Nat) (cA : Nat → ClassId) (nF : Nat) (u0 : ac_U) (p0 : Int32) (hR : ac_R rg u0) (hp0 : (0 : Int) ≤ p0.toInt ∧ p0.toInt ≤ 7) : ac_Mi l yX6_isSaid (.code yX6_isSaid cX6_isSaid 2 (some .boolean) :: TB) 1 (dC, dI) vwCl (ac_ty cA) ad cA (TT nF) [.ref (ad 24), .int p0] u0 (fun (r : Int32) (u : ac_U) => u = u0 ∧ ((0 : Int) ≤ r.toInt ∧ r.toInt ≤ 1)) := by
  refine ac_Mi.of (cc := cX6_isSaid) (maxL := 2) (ret := (some .boolean)) (by decide) rfl (Nat.le_of_ble_eq_true rfl) ?_
  intro p e s m below meth c A ls F hml hr hlocks hA hP hD hS hl
  have F : ac_X p s m [.ref (ad 24), .int p0].toArray c cX6_isSaid RX6 TB (dC, dI) vwCl (ac_ty cA) := ⟨F.1, F.2.1, fun w h => F.2.2.1 w (List.mem_cons_of_mem _ h), F.2.2.2.1, F.2.2.2.2⟩
  have hl : lv_has ls 2 [(0, .ref (ad 24)), (1, .int p0)] := hl
  refine lv_aload_n F.1 F.2.1 dX6_isSaid_0 rfl (lv_at hl 0 rfl) ?_
  refine a_getr F inX6 hP 24 1 tc_24 rfl rfl (by decide) q272 (fun _ h9 => h9) dX6_isSaid_1 ?_
  refine a_bp F (15 : Int32) dX6_isSaid_4 (by decide) ?_
  refine lv_iload_n F.1 F.2.1 dX6_isSaid_6 rfl (lv_at hl 1 rfl) ?_
  refine a_iadd F dX6_isSaid_7 ic_15 rfl (by omega) (fun v1 hv1 => ?_)
  refine a_iald F hP 25 tc_25 rfl (i_in rfl (by omega)) dX6_isSaid_8 (fun v2 ev2 => ?_)
  have hv2 : (-1 : Int) ≤ v2.toInt ∧ v2.toInt ≤ 480 := rg_seg_25_15_22 hR ev2 (by omega)
  refine a_ic F (-1 : Int32) dX6_isSaid_9 (by decide) ?_
  refine b_eq F 17 dX6_isSaid_10 (by decide) rfl ic_m1 (fun c3 => ?_) (fun c3 => ?_)
  · refine a_ic F (0 : Int32) dX6_isSaid_17 (by decide) ?_
    exact a_retz F hr hlocks hP hD hS dX6_isSaid_18 (Or.inl rfl) ⟨rfl, (by decide)⟩
  · refine a_ic F (1 : Int32) dX6_isSaid_13 (by decide) ?_
    refine lv_goto (tgt := 18) F.1 F.2.1 dX6_isSaid_14 (by decide) ?_
    exact a_retz F hr hlocks hP hD hS dX6_isSaid_18 (Or.inr rfl) ⟨rfl, (by decide)⟩
set_option maxHeartbeats 600000 in
set_option maxRecDepth 100000 in
theorem c_X6_isBound_24 (l : Launch) (dC : Nat → ClassId) (dI : Nat → Nat → Nat) (ad : Nat → Nat) (cA : Nat → ClassId) (nF : Nat) (u0 : ac_U) (p0 : Int32) (hR : ac_R rg u0) (hp0 : (0 : Int) ≤ p0.toInt ∧ p0.toInt ≤ 7) : ac_Mi l yX6_isBound (.code yX6_isBound cX6_isBound 2 (some .boolean) :: TB) 2 (dC, dI) vwCl (ac_ty cA) ad cA (TT nF) [.ref (ad 24), .int p0] u0 (fun (r : Int32) (u : ac_U) => u = u0 ∧ ((0 : Int) ≤ r.toInt ∧ r.toInt ≤ 1)) := by
  refine ac_Mi.of (cc := cX6_isBound) (maxL := 2) (ret := (some .boolean)) (by decide) rfl (Nat.le_of_ble_eq_true rfl) ?_
  intro p e s m below meth c A ls F hml hr hlocks hA hP hD hS hl
  have F : ac_X p s m [.ref (ad 24), .int p0].toArray c cX6_isBound RX6 TB (dC, dI) vwCl (ac_ty cA) := ⟨F.1, F.2.1, fun w h => F.2.2.1 w (List.mem_cons_of_mem _ h), F.2.2.2.1, F.2.2.2.2⟩
  have hl : lv_has ls 2 [(0, .ref (ad 24)), (1, .int p0)] := hl
  have L35 : ∀ (H : Heap) (locs : List Loc) (ls : Array Slot), va_P (dC, dI) vwCl (ac_w ad cA (TT nF) u0) H → va_D A (ac_w ad cA (TT nF) u0) → va_S A s.heap H locs → lv_has ls 2 [] → W p l e (ac_rm 2) s m [.ref (ad 24), .int p0].toArray below meth c H locs 0 0 (MQ below (va_Qi (fun (r : Int32) (u : ac_U) => u = u0 ∧ ((0 : Int) ≤ r.toInt ∧ r.toInt ≤ 1)) (ac_B (dC, dI) vwCl (ac_ty cA) ad cA (TT nF) A) A) [.ref (ad 24), .int p0].toArray s 0 0 A) (F0 m 35 ls []) := by
    intro H locs ls hP hD hS hl
    refine a_ic F (0 : Int32) dX6_isBound_35 (by decide) ?_
    exact a_retz F hr hlocks hP hD hS dX6_isBound_36 (Or.inl rfl) ⟨rfl, (by decide)⟩
  refine lv_aload_n F.1 F.2.1 dX6_isBound_0 rfl (lv_at hl 0 rfl) ?_
  refine lv_iload_n F.1 F.2.1 dX6_isBound_1 rfl (lv_at hl 1 rfl) ?_
  refine a_Vi F hml hl.1 hA hP hD hS (As := [.int p0]) (c_X6_isSaid_24 l dC dI ad cA nF _ p0 hR (by omega)) (cs_RX6_93 (d := 1) F.2.2.1 (by decide)) tc_24 rfl rfl rfl rfl (Nat.le_of_ble_eq_true rfl) dX6_isBound_2 ⟨Nat.le_refl 0, Nat.le_refl 0⟩ (fun r1 uN1 H locs hq hP hD hS => ?_)
  obtain ⟨hu1, gr1⟩ := hq
  rw [hu1] at hP hD
  refine z_eq F 35 dX6_isBound_5 (by decide) rfl (fun c2 => ?_) (fun c2 => ?_)
  · exact L35 _ _ _  hP hD hS (lv_sub hl [] rfl)
  · refine lv_aload_n F.1 F.2.1 dX6_isBound_8 rfl (lv_at hl 0 rfl) ?_
    refine a_getr F inX6 hP 24 0 tc_24 rfl rfl (by decide) q271 (fun _ h9 => h9) dX6_isBound_9 ?_
    refine a_Vi F hml hl.1 hA hP hD hS (As := []) (c_X2_frogPlaces_4 l dC dI ad cA nF _  hR) (cs_RX6_96 (d := 1) F.2.2.1 (by decide)) tc_4 rfl rfl rfl rfl (Nat.le_of_ble_eq_true rfl) dX6_isBound_12 ⟨Nat.le_refl 0, Nat.le_refl 0⟩ (fun r3 uN3 H locs hq hP hD hS => ?_)
    obtain ⟨hu3, gr3⟩ := hq
    rw [hu3] at hP hD
    refine lv_aload_n F.1 F.2.1 dX6_isBound_15 rfl (lv_at hl 0 rfl) ?_
    refine a_getr F inX6 hP 24 1 tc_24 rfl rfl (by decide) q272 (fun _ h9 => h9) dX6_isBound_16 ?_
    refine a_bp F (23 : Int32) dX6_isBound_19 (by decide) ?_
    refine lv_iload_n F.1 F.2.1 dX6_isBound_21 rfl (lv_at hl 1 rfl) ?_
    refine a_iadd F dX6_isBound_22 ic_23 rfl (by omega) (fun v4 hv4 => ?_)
    refine a_iald F hP 25 tc_25 rfl (i_in rfl (by omega)) dX6_isBound_23 (fun v5 ev5 => ?_)
    refine a_ishrU F dX6_isBound_24 (fun v6 => ?_)
    refine a_ic F (1 : Int32) dX6_isBound_25 (by decide) ?_
    refine a_iandM F dX6_isBound_26 ic_1 (by omega) (fun v7 hv7 => ?_)
    refine a_ic F (1 : Int32) dX6_isBound_27 (by decide) ?_
    refine b_ne F 35 dX6_isBound_28 (by decide) rfl ic_1 (fun c8 => ?_) (fun c8 => ?_)
    · exact L35 _ _ _  hP hD hS (lv_sub hl [] rfl)
    · refine a_ic F (1 : Int32) dX6_isBound_31 (by decide) ?_
      refine lv_goto (tgt := 36) F.1 F.2.1 dX6_isBound_32 (by decide) ?_
      exact a_retz F hr hlocks hP hD hS dX6_isBound_36 (Or.inr rfl) ⟨rfl, (by decide)⟩
set_option maxHeartbeats 600000 in
set_option maxRecDepth 100000 in
theorem c_X5_asksToday_29 (l : Launch) (dC : Nat → ClassId) (dI : Nat → Nat → Nat) (ad : Nat → Nat) (cA : Nat → ClassId) (nF : Nat) (u0 : ac_U) (p0 : Int32) (p1 : Int32) (hR : ac_R rg u0) (hp0 : (0 : Int) ≤ p0.toInt ∧ p0.toInt ≤ 7) (hp1 : (0 : Int) ≤ p1.toInt ∧ p1.toInt ≤ 7) : ac_Mi l yX5_asksToday (.code yX5_asksToday cX5_asksToday 4 (some .int) :: TB) 5 (dC, dI) vwCl (ac_ty cA) ad cA (TT nF) [.ref (ad 29), .int p0, .int p1] u0 (fun (r : Int32) (u : ac_U) => ac_R rg u ∧ ac_Fr [(29, some 4), (29, some 5), (29, some 6), (30, none)] u0 u ∧ ((-1 : Int) ≤ r.toInt ∧ r.toInt ≤ 3)) := by
  refine ac_Mi.of (cc := cX5_asksToday) (maxL := 4) (ret := (some .int)) (by decide) rfl (Nat.le_of_ble_eq_true rfl) ?_
  intro p e s m below meth c A ls F hml hr hlocks hA hP hD hS hl
  have F : ac_X p s m [.ref (ad 29), .int p0, .int p1].toArray c cX5_asksToday RX5 TB (dC, dI) vwCl (ac_ty cA) := ⟨F.1, F.2.1, fun w h => F.2.2.1 w (List.mem_cons_of_mem _ h), F.2.2.2.1, F.2.2.2.2⟩
  have hl : lv_has ls 4 [(0, .ref (ad 29)), (1, .int p0), (2, .int p1)] := hl
  have hF : ac_Fr [(29, some 4), (29, some 5), (29, some 6), (30, none)] u0 u0 := ac_Fr.rf
  have L77 : ∀ (x3 : Int32) (u : ac_U) (H : Heap) (locs : List Loc) (ls : Array Slot), ac_R rg u → ac_Fr [(29, some 4), (29, some 5), (29, some 6), (30, none)] u0 u → cntI 80 u → (0 : Int) ≤ x3.toInt ∧ x3.toInt ≤ 19 → (0 : Int) ≤ (u.1 29 6).toInt ∧ (u.1 29 6).toInt ≤ 120 → va_P (dC, dI) vwCl (ac_w ad cA (TT nF) u) H → va_D A (ac_w ad cA (TT nF) u) → va_S A s.heap H locs → lv_has ls 4 [(0, .ref (ad 29)), (1, .int p0), (3, .int x3)] → W p l e (ac_rm 5) s m [.ref (ad 29), .int p0, .int p1].toArray below meth c H locs 0 0 (MQ below (va_Qi (fun (r : Int32) (u : ac_U) => ac_R rg u ∧ ac_Fr [(29, some 4), (29, some 5), (29, some 6), (30, none)] u0 u ∧ ((-1 : Int) ≤ r.toInt ∧ r.toInt ≤ 3)) (ac_B (dC, dI) vwCl (ac_ty cA) ad cA (TT nF) A) A) [.ref (ad 29), .int p0, .int p1].toArray s 0 0 A) (F0 m 77 ls []) := by
    intro x3 u H locs ls hR hF hK_CT f0 f1 hP hD hS hl
    refine a_ic F (0 : Int32) dX5_asksToday_77 (by decide) ?_
    refine lv_aload_n F.1 F.2.1 dX5_asksToday_78 rfl (lv_at hl 0 rfl) ?_
    refine a_getr F inX5 hP 29 0 tc_29 rfl rfl (by decide) q306 (fun _ h9 => h9) dX5_asksToday_79 ?_
    refine lv_iload_n F.1 F.2.1 dX5_asksToday_82 rfl (lv_at hl 1 rfl) ?_
    refine a_ic F (5 : Int32) dX5_asksToday_83 (by decide) ?_
    refine a_Vi F hml hl.1 hA hP hD hS (As := [.int p0, .int (5 : Int32)]) (c_X2_term_4 l dC dI ad cA nF _ p0 (5 : Int32) hR (by omega) (by decide)) (cs_RX5_36 (d := 1) F.2.2.1 (by decide)) tc_4 rfl rfl rfl rfl (Nat.le_of_ble_eq_true rfl) dX5_asksToday_84 ⟨Nat.le_refl 0, Nat.le_refl 0⟩ (fun r1 uN1 H locs hq hP hD hS => ?_)
    obtain ⟨hu1, xr1⟩ := hq
    rw [hu1] at hP hD
    have xr1 : ((5 : Int) = 2 → 0 ≤ r1.toInt ∧ r1.toInt ≤ 7) ∧ ((5 : Int) = 5 → 0 ≤ r1.toInt ∧ r1.toInt ≤ 3) := xr1
    refine lv_aload_n F.1 F.2.1 dX5_asksToday_87 rfl (lv_at hl 0 rfl) ?_
    refine a_getr F inX5 hP 29 2 tc_29 rfl rfl (by decide) q308 (fun _ h9 => h9) dX5_asksToday_88 ?_
    refine lv_iload_n F.1 F.2.1 dX5_asksToday_91 rfl (lv_at hl 2 rfl) ?_
    refine a_iald F hP 30 tc_30 rfl (i_in rfl (by omega)) dX5_asksToday_92 (fun v2 ev2 => ?_)
    have hm9 := cnt_get hK_CT (i := x3) (by omega) ev2
    refine a_isub F dX5_asksToday_93 rfl rfl (by omega) (fun v3 hv3 => ?_)
    refine va_mmax F.1 F.2.1 (hml.trans hl.1.symm) F.2.2.2.1 (F.2.2.1 _ q977) (F.2.2.1 _ q978) (F.2.2.1 _ q24) (F.2.2.1 _ q979) (by decide) (Nat.le_of_ble_eq_true rfl) (Nat.le_refl 0) (Nat.le_refl 0) dX5_asksToday_94 ?_
    refine lv_topi (fun v4 ev4 => ?_)
    have hv4 := i_max ic_0 rfl ev4
    exact a_reti F hr hlocks hP hD hS dX5_asksToday_97 ⟨hR, hF, (by omega : (-1 : Int) ≤ v4.toInt ∧ v4.toInt ≤ 3)⟩
  have L75 : ∀ (u : ac_U) (H : Heap) (locs : List Loc) (ls : Array Slot), ac_R rg u → ac_Fr [(29, some 4), (29, some 5), (29, some 6), (30, none)] u0 u → (0 : Int) ≤ (u.1 29 6).toInt ∧ (u.1 29 6).toInt ≤ 121 → va_P (dC, dI) vwCl (ac_w ad cA (TT nF) u) H → va_D A (ac_w ad cA (TT nF) u) → va_S A s.heap H locs → lv_has ls 4 [] → W p l e (ac_rm 5) s m [.ref (ad 29), .int p0, .int p1].toArray below meth c H locs 0 0 (MQ below (va_Qi (fun (r : Int32) (u : ac_U) => ac_R rg u ∧ ac_Fr [(29, some 4), (29, some 5), (29, some 6), (30, none)] u0 u ∧ ((-1 : Int) ≤ r.toInt ∧ r.toInt ≤ 3)) (ac_B (dC, dI) vwCl (ac_ty cA) ad cA (TT nF) A) A) [.ref (ad 29), .int p0, .int p1].toArray s 0 0 A) (F0 m 75 ls []) := by
    intro u H locs ls hR hF f0 hP hD hS hl
    refine a_ic F (-1 : Int32) dX5_asksToday_75 (by decide) ?_
    exact a_reti F hr hlocks hP hD hS dX5_asksToday_76 ⟨hR, hF, (by decide)⟩
  have L21 : ∀ (u : ac_U) (H : Heap) (locs : List Loc) (ls : Array Slot), ac_R rg u → ac_Fr [(29, some 4), (29, some 5), (29, some 6), (30, none)] u0 u → va_P (dC, dI) vwCl (ac_w ad cA (TT nF) u) H → va_D A (ac_w ad cA (TT nF) u) → va_S A s.heap H locs → lv_has ls 4 [] → W p l e (ac_rm 5) s m [.ref (ad 29), .int p0, .int p1].toArray below meth c H locs 0 0 (MQ below (va_Qi (fun (r : Int32) (u : ac_U) => ac_R rg u ∧ ac_Fr [(29, some 4), (29, some 5), (29, some 6), (30, none)] u0 u ∧ ((-1 : Int) ≤ r.toInt ∧ r.toInt ≤ 3)) (ac_B (dC, dI) vwCl (ac_ty cA) ad cA (TT nF) A) A) [.ref (ad 29), .int p0, .int p1].toArray s 0 0 A) (F0 m 21 ls []) := by
    intro u H locs ls hR hF hP hD hS hl
    refine a_ic F (-1 : Int32) dX5_asksToday_21 (by decide) ?_
    exact a_reti F hr hlocks hP hD hS dX5_asksToday_22 ⟨hR, hF, (by decide)⟩
  refine lv_aload_n F.1 F.2.1 dX5_asksToday_0 rfl (lv_at hl 0 rfl) ?_
  refine a_getr F inX5 hP 29 1 tc_29 rfl rfl (by decide) q307 (fun _ h9 => h9) dX5_asksToday_1 ?_
  refine lv_iload_n F.1 F.2.1 dX5_asksToday_4 rfl (lv_at hl 1 rfl) ?_
  refine a_Vi F hml hl.1 hA hP hD hS (As := [.int p0]) (c_X6_isBound_24 l dC dI ad cA nF _ p0 hR (by omega)) (cs_RX5_83 (d := 2) F.2.2.1 (by decide)) tc_24 rfl rfl rfl rfl (Nat.le_of_ble_eq_true rfl) dX5_asksToday_5 ⟨Nat.le_refl 0, Nat.le_refl 0⟩ (fun r5 uN5 H locs hq hP hD hS => ?_)
  obtain ⟨hu5, gr5⟩ := hq
  rw [hu5] at hP hD
  refine z_eq F 21 dX5_asksToday_8 (by decide) rfl (fun c6 => ?_) (fun c6 => ?_)
  · exact L21 _ _ _ _ hR hF hP hD hS (lv_sub hl [] rfl)
  · refine lv_aload_n F.1 F.2.1 dX5_asksToday_11 rfl (lv_at hl 0 rfl) ?_
    refine a_getr F inX5 hP 29 1 tc_29 rfl rfl (by decide) q307 (fun _ h9 => h9) dX5_asksToday_12 ?_
    refine a_Vi F hml hl.1 hA hP hD hS (As := []) (c_X6_isOver_24 l dC dI ad cA nF _  hR) (cs_RX5_106 (d := 2) F.2.2.1 (by decide)) tc_24 rfl rfl rfl rfl (Nat.le_of_ble_eq_true rfl) dX5_asksToday_15 ⟨Nat.le_refl 0, Nat.le_refl 0⟩ (fun r7 uN7 H locs hq hP hD hS => ?_)
    obtain ⟨hu7, gr7, xr7⟩ := hq
    rw [hu7] at hP hD
    have g8 : (0 : Int) ≤ (u0.1 25 0).toInt ∧ (u0.1 25 0).toInt ≤ 480 := hR 25 0
    have g9 : (4 : Int) ≤ (u0.1 4 0).toInt ∧ (u0.1 4 0).toInt ≤ 24 := hR 4 0
    have xr7 : r7.toInt = 0 → (u0.1 25 0).toInt < 20 * (u0.1 4 0).toInt := xr7
    refine z_eq F 23 dX5_asksToday_18 (by decide) rfl (fun c10 => ?_) (fun c10 => ?_)
    · refine lv_aload_n F.1 F.2.1 dX5_asksToday_23 rfl (lv_at hl 0 rfl) ?_
      refine lv_iload_n F.1 F.2.1 dX5_asksToday_24 rfl (lv_at hl 1 rfl) ?_
      refine lv_iload_n F.1 F.2.1 dX5_asksToday_25 rfl (lv_at hl 2 rfl) ?_
      refine a_Vv F hml hl.1 hA hP hD hS (As := [.int p0, .int p1]) (c_X5_weigh_29 l dC dI ad cA nF _ p0 p1 hR (by omega) (by omega)) (cs_RX5_96 (d := 4) F.2.2.1 (by decide)) tc_29 rfl rfl rfl rfl (Nat.le_of_ble_eq_true rfl) dX5_asksToday_26 ⟨Nat.le_refl 0, Nat.le_refl 0⟩ (fun u11 H locs hq hP hD hS => ?_)
      obtain ⟨hR, hF11, hK_CT⟩ := hq
      have hF := hF.tr hF11 (by decide)
      refine lv_aload_n F.1 F.2.1 dX5_asksToday_29 rfl (lv_at hl 0 rfl) ?_
      refine a_getr F inX5 hP 29 0 tc_29 rfl rfl (by decide) q306 (fun _ h9 => h9) dX5_asksToday_30 ?_
      refine lv_aload_n F.1 F.2.1 dX5_asksToday_33 rfl (lv_at hl 0 rfl) ?_
      refine a_getr F inX5 hP 29 1 tc_29 rfl rfl (by decide) q307 (fun _ h9 => h9) dX5_asksToday_34 ?_
      refine a_getr F inX6 hP 24 1 tc_24 rfl rfl (by decide) q274 (fun _ h9 => h9) dX5_asksToday_37 ?_
      refine a_ic F (0 : Int32) dX5_asksToday_40 (by decide) ?_
      refine a_ialdK F hP 25 0 tc_25 rfl rfl (i_in ic_0 (by omega)) (v := (u0.1 25 0)) (hF11 25 0 rfl) dX5_asksToday_41 ?_
      refine a_Vi F hml hl.1 hA hP hD hS (As := [.int (u0.1 25 0)]) (c_X2_dayOf_4 l dC dI ad cA nF _ (u0.1 25 0) hR (by omega)) (cs_RX5_55 (d := 1) F.2.2.1 (by decide)) tc_4 rfl rfl rfl rfl (Nat.le_of_ble_eq_true rfl) dX5_asksToday_42 ⟨Nat.le_refl 0, Nat.le_refl 0⟩ (fun r12 uN12 H locs hq hP hD hS => ?_)
      obtain ⟨hu12, gr12, xr12⟩ := hq
      rw [hu12] at hP hD
      have k13 : (u11.1 4 0).toInt = (u0.1 4 0).toInt := congrArg Int32.toInt (show u11.1 4 0 = (u0.1 4 0) from hF11 4 0 rfl)
      have xr12 : 0 ≤ (u0.1 25 0).toInt → (u0.1 25 0).toInt < 20 * (u11.1 4 0).toInt → r12.toInt < 20 := xr12
      refine lv_istore_n (lv' := [(3, .int r12), (0, .ref (ad 29)), (1, .int p0), (2, .int p1)]) F.1 F.2.1 dX5_asksToday_45 rfl hl (by decide) rfl (fun ls hl => ?_)
      refine lv_iload_n F.1 F.2.1 dX5_asksToday_46 rfl (lv_at hl 0 rfl) ?_
      refine lv_aload_n F.1 F.2.1 dX5_asksToday_47 rfl (lv_at hl 1 rfl) ?_
      have g14 : (0 : Int) ≤ (u11.1 29 6).toInt ∧ (u11.1 29 6).toInt ≤ 121 := hR 29 6
      refine a_geti F inX5 hP 29 6 tc_29 rfl rfl (by decide) q312 (fun _ h9 => h9) (v := (u11.1 29 6)) rfl dX5_asksToday_48 ?_
      refine b_lt F 75 dX5_asksToday_51 (by decide) rfl rfl (fun c15 => ?_) (fun c15 => ?_)
      · exact L75 _ _ _ _ hR hF (by omega : (0 : Int) ≤ (u11.1 29 6).toInt ∧ (u11.1 29 6).toInt ≤ 121) hP hD hS (lv_sub hl [] rfl)
      · refine lv_iload_n F.1 F.2.1 dX5_asksToday_54 rfl (lv_at hl 0 rfl) ?_
        refine lv_aload_n F.1 F.2.1 dX5_asksToday_55 rfl (lv_at hl 1 rfl) ?_
        refine a_geti F inX5 hP 29 6 tc_29 rfl rfl (by decide) q312 (fun _ h9 => h9) (v := (u11.1 29 6)) (rfl) dX5_asksToday_56 ?_
        refine b_le F 77 dX5_asksToday_59 (by decide) rfl rfl (fun c16 => ?_) (fun c16 => ?_)
        · exact L77 r12 _ _ _ _ hR hF hK_CT (by omega) (by omega : (0 : Int) ≤ (u11.1 29 6).toInt ∧ (u11.1 29 6).toInt ≤ 120) hP hD hS (lv_sub hl [1, 2, 0] rfl)
        · refine lv_aload_n F.1 F.2.1 dX5_asksToday_62 rfl (lv_at hl 1 rfl) ?_
          refine a_getr F inX5 hP 29 0 tc_29 rfl rfl (by decide) q306 (fun _ h9 => h9) dX5_asksToday_63 ?_
          refine lv_iload_n F.1 F.2.1 dX5_asksToday_66 rfl (lv_at hl 2 rfl) ?_
          refine a_bp F (6 : Int32) dX5_asksToday_67 (by decide) ?_
          refine a_Vi F hml hl.1 hA hP hD hS (As := [.int p0, .int (6 : Int32)]) (c_X2_term_4 l dC dI ad cA nF _ p0 (6 : Int32) hR (by omega) (by decide)) (cs_RX5_36 (d := 1) F.2.2.1 (by decide)) tc_4 rfl rfl rfl rfl (Nat.le_of_ble_eq_true rfl) dX5_asksToday_69 ⟨Nat.le_refl 0, Nat.le_refl 0⟩ (fun r17 uN17 H locs hq hP hD hS => ?_)
          obtain ⟨hu17, xr17⟩ := hq
          rw [hu17] at hP hD
          have xr17 : ((6 : Int) = 2 → 0 ≤ r17.toInt ∧ r17.toInt ≤ 7) ∧ ((6 : Int) = 5 → 0 ≤ r17.toInt ∧ r17.toInt ≤ 3) := xr17
          refine z_ne F 77 dX5_asksToday_72 (by decide) rfl (fun c18 => ?_) (fun c18 => ?_)
          · exact L77 r12 _ _ _ _ hR hF hK_CT (by omega) (by omega : (0 : Int) ≤ (u11.1 29 6).toInt ∧ (u11.1 29 6).toInt ≤ 120) hP hD hS (lv_sub hl [1, 2, 0] rfl)
          · exact L75 _ _ _ _ hR hF (by omega : (0 : Int) ≤ (u11.1 29 6).toInt ∧ (u11.1 29 6).toInt ≤ 121) hP hD hS (lv_sub hl [] rfl)
    · exact L21 _ _ _ _ hR hF hP hD hS (lv_sub hl [] rfl)
set_option maxHeartbeats 600000 in
set_option maxRecDepth 100000 in
theorem c_X5_isKeptOn_29 (l : Launch) (dC : Nat → ClassId) (dI : Nat → Nat → Nat) (ad : Nat → Nat) (cA : Nat → ClassId) (nF : Nat) (u0 : ac_U) (p0 : Int32) (p1 : Int32) (hR : ac_R rg u0) (hp0 : (0 : Int) ≤ p0.toInt ∧ p0.toInt ≤ 7) (hp1 : (0 : Int) ≤ p1.toInt ∧ p1.toInt ≤ 121) : ac_Mi l yX5_isKeptOn (.code yX5_isKeptOn cX5_isKeptOn 3 (some .boolean) :: TB) 2 (dC, dI) vwCl (ac_ty cA) ad cA (TT nF) [.ref (ad 29), .int p0, .int p1] u0 (fun (r : Int32) (u : ac_U) => u = u0 ∧ ((0 : Int) ≤ r.toInt ∧ r.toInt ≤ 1)) := by
  refine ac_Mi.of (cc := cX5_isKeptOn) (maxL := 3) (ret := (some .boolean)) (by decide) rfl (Nat.le_of_ble_eq_true rfl) ?_
  intro p e s m below meth c A ls F hml hr hlocks hA hP hD hS hl
  have F : ac_X p s m [.ref (ad 29), .int p0, .int p1].toArray c cX5_isKeptOn RX5 TB (dC, dI) vwCl (ac_ty cA) := ⟨F.1, F.2.1, fun w h => F.2.2.1 w (List.mem_cons_of_mem _ h), F.2.2.2.1, F.2.2.2.2⟩
  have hl : lv_has ls 3 [(0, .ref (ad 29)), (1, .int p0), (2, .int p1)] := hl
  have L28 : ∀ (H : Heap) (locs : List Loc) (ls : Array Slot), va_P (dC, dI) vwCl (ac_w ad cA (TT nF) u0) H → va_D A (ac_w ad cA (TT nF) u0) → va_S A s.heap H locs → lv_has ls 3 [] → W p l e (ac_rm 2) s m [.ref (ad 29), .int p0, .int p1].toArray below meth c H locs 0 0 (MQ below (va_Qi (fun (r : Int32) (u : ac_U) => u = u0 ∧ ((0 : Int) ≤ r.toInt ∧ r.toInt ≤ 1)) (ac_B (dC, dI) vwCl (ac_ty cA) ad cA (TT nF) A) A) [.ref (ad 29), .int p0, .int p1].toArray s 0 0 A) (F0 m 28 ls []) := by
    intro H locs ls hP hD hS hl
    refine a_ic F (0 : Int32) dX5_isKeptOn_28 (by decide) ?_
    exact a_retz F hr hlocks hP hD hS dX5_isKeptOn_29 (Or.inl rfl) ⟨rfl, (by decide)⟩
  refine lv_iload_n F.1 F.2.1 dX5_isKeptOn_0 rfl (lv_at hl 2 rfl) ?_
  refine a_bp F (20 : Int32) dX5_isKeptOn_1 (by decide) ?_
  refine b_ge F 28 dX5_isKeptOn_3 (by decide) rfl ic_20 (fun c1 => ?_) (fun c1 => ?_)
  · exact L28 _ _ _  hP hD hS (lv_sub hl [] rfl)
  · refine lv_aload_n F.1 F.2.1 dX5_isKeptOn_6 rfl (lv_at hl 0 rfl) ?_
    refine a_getr F inX5 hP 29 2 tc_29 rfl rfl (by decide) q308 (fun _ h9 => h9) dX5_isKeptOn_7 ?_
    refine lv_iload_n F.1 F.2.1 dX5_isKeptOn_10 rfl (lv_at hl 2 rfl) ?_
    refine a_iald F hP 30 tc_30 rfl (i_in rfl (by omega)) dX5_isKeptOn_11 (fun v2 ev2 => ?_)
    refine lv_aload_n F.1 F.2.1 dX5_isKeptOn_12 rfl (lv_at hl 0 rfl) ?_
    refine a_getr F inX5 hP 29 0 tc_29 rfl rfl (by decide) q306 (fun _ h9 => h9) dX5_isKeptOn_13 ?_
    refine lv_iload_n F.1 F.2.1 dX5_isKeptOn_16 rfl (lv_at hl 1 rfl) ?_
    refine a_ic F (5 : Int32) dX5_isKeptOn_17 (by decide) ?_
    refine a_Vi F hml hl.1 hA hP hD hS (As := [.int p0, .int (5 : Int32)]) (c_X2_term_4 l dC dI ad cA nF _ p0 (5 : Int32) hR (by omega) (by decide)) (cs_RX5_36 (d := 1) F.2.2.1 (by decide)) tc_4 rfl rfl rfl rfl (Nat.le_of_ble_eq_true rfl) dX5_isKeptOn_18 ⟨Nat.le_refl 0, Nat.le_refl 0⟩ (fun r3 uN3 H locs hq hP hD hS => ?_)
    obtain ⟨hu3, xr3⟩ := hq
    rw [hu3] at hP hD
    have xr3 : ((5 : Int) = 2 → 0 ≤ r3.toInt ∧ r3.toInt ≤ 7) ∧ ((5 : Int) = 5 → 0 ≤ r3.toInt ∧ r3.toInt ≤ 3) := xr3
    refine b_lt F 28 dX5_isKeptOn_21 (by decide) rfl rfl (fun c4 => ?_) (fun c4 => ?_)
    · exact L28 _ _ _  hP hD hS (lv_sub hl [] rfl)
    · refine a_ic F (1 : Int32) dX5_isKeptOn_24 (by decide) ?_
      refine lv_goto (tgt := 29) F.1 F.2.1 dX5_isKeptOn_25 (by decide) ?_
      exact a_retz F hr hlocks hP hD hS dX5_isKeptOn_29 (Or.inr rfl) ⟨rfl, (by decide)⟩
set_option maxHeartbeats 600000 in
set_option maxRecDepth 100000 in
theorem c_X5_isOffOn_29 (l : Launch) (dC : Nat → ClassId) (dI : Nat → Nat → Nat) (ad : Nat → Nat) (cA : Nat → ClassId) (nF : Nat) (u0 : ac_U) (p0 : Int32) (hR : ac_R rg u0) (hp0 : (0 : Int) ≤ p0.toInt ∧ p0.toInt ≤ 121) : ac_Mi l yX5_isOffOn (.code yX5_isOffOn cX5_isOffOn 2 (some .boolean) :: TB) 1 (dC, dI) vwCl (ac_ty cA) ad cA (TT nF) [.ref (ad 29), .int p0] u0 (fun (r : Int32) (u : ac_U) => u = u0 ∧ ((0 : Int) ≤ r.toInt ∧ r.toInt ≤ 1)) := by
  refine ac_Mi.of (cc := cX5_isOffOn) (maxL := 2) (ret := (some .boolean)) (by decide) rfl (Nat.le_of_ble_eq_true rfl) ?_
  intro p e s m below meth c A ls F hml hr hlocks hA hP hD hS hl
  have F : ac_X p s m [.ref (ad 29), .int p0].toArray c cX5_isOffOn RX5 TB (dC, dI) vwCl (ac_ty cA) := ⟨F.1, F.2.1, fun w h => F.2.2.1 w (List.mem_cons_of_mem _ h), F.2.2.2.1, F.2.2.2.2⟩
  have hl : lv_has ls 2 [(0, .ref (ad 29)), (1, .int p0)] := hl
  have L22 : ∀ (H : Heap) (locs : List Loc) (ls : Array Slot), va_P (dC, dI) vwCl (ac_w ad cA (TT nF) u0) H → va_D A (ac_w ad cA (TT nF) u0) → va_S A s.heap H locs → lv_has ls 2 [] → W p l e (ac_rm 1) s m [.ref (ad 29), .int p0].toArray below meth c H locs 0 0 (MQ below (va_Qi (fun (r : Int32) (u : ac_U) => u = u0 ∧ ((0 : Int) ≤ r.toInt ∧ r.toInt ≤ 1)) (ac_B (dC, dI) vwCl (ac_ty cA) ad cA (TT nF) A) A) [.ref (ad 29), .int p0].toArray s 0 0 A) (F0 m 22 ls []) := by
    intro H locs ls hP hD hS hl
    refine a_ic F (0 : Int32) dX5_isOffOn_22 (by decide) ?_
    exact a_retz F hr hlocks hP hD hS dX5_isOffOn_23 (Or.inl rfl) ⟨rfl, (by decide)⟩
  refine lv_iload_n F.1 F.2.1 dX5_isOffOn_0 rfl (lv_at hl 1 rfl) ?_
  refine a_bp F (20 : Int32) dX5_isOffOn_1 (by decide) ?_
  refine b_ge F 22 dX5_isOffOn_3 (by decide) rfl ic_20 (fun c1 => ?_) (fun c1 => ?_)
  · exact L22 _ _ _  hP hD hS (lv_sub hl [] rfl)
  · refine lv_aload_n F.1 F.2.1 dX5_isOffOn_6 rfl (lv_at hl 0 rfl) ?_
    refine a_geti F inX5 hP 29 4 tc_29 rfl rfl (by decide) q310 (fun _ h9 => h9) (v := (u0.1 29 4)) rfl dX5_isOffOn_7 ?_
    refine lv_iload_n F.1 F.2.1 dX5_isOffOn_10 rfl (lv_at hl 1 rfl) ?_
    refine a_ishrU F dX5_isOffOn_11 (fun v2 => ?_)
    refine a_ic F (1 : Int32) dX5_isOffOn_12 (by decide) ?_
    refine a_iandM F dX5_isOffOn_13 ic_1 (by omega) (fun v3 hv3 => ?_)
    refine a_ic F (1 : Int32) dX5_isOffOn_14 (by decide) ?_
    refine b_ne F 22 dX5_isOffOn_15 (by decide) rfl ic_1 (fun c4 => ?_) (fun c4 => ?_)
    · exact L22 _ _ _  hP hD hS (lv_sub hl [] rfl)
    · refine a_ic F (1 : Int32) dX5_isOffOn_18 (by decide) ?_
      refine lv_goto (tgt := 23) F.1 F.2.1 dX5_isOffOn_19 (by decide) ?_
      exact a_retz F hr hlocks hP hD hS dX5_isOffOn_23 (Or.inr rfl) ⟨rfl, (by decide)⟩
set_option maxHeartbeats 600000 in
set_option maxRecDepth 100000 in
theorem c_X5_isWindowOver_29 (l : Launch) (dC : Nat → ClassId) (dI : Nat → Nat → Nat) (ad : Nat → Nat) (cA : Nat → ClassId) (nF : Nat) (u0 : ac_U) (p0 : Int32) (hR : ac_R rg u0) (hp0 : (0 : Int) ≤ p0.toInt ∧ p0.toInt ≤ 121) : ac_Mi l yX5_isWindowOver (.code yX5_isWindowOver cX5_isWindowOver 2 (some .boolean) :: TB) 1 (dC, dI) vwCl (ac_ty cA) ad cA (TT nF) [.ref (ad 29), .int p0] u0 (fun (r : Int32) (u : ac_U) => u = u0 ∧ ((0 : Int) ≤ r.toInt ∧ r.toInt ≤ 1)) := by
  refine ac_Mi.of (cc := cX5_isWindowOver) (maxL := 2) (ret := (some .boolean)) (by decide) rfl (Nat.le_of_ble_eq_true rfl) ?_
  intro p e s m below meth c A ls F hml hr hlocks hA hP hD hS hl
  have F : ac_X p s m [.ref (ad 29), .int p0].toArray c cX5_isWindowOver RX5 TB (dC, dI) vwCl (ac_ty cA) := ⟨F.1, F.2.1, fun w h => F.2.2.1 w (List.mem_cons_of_mem _ h), F.2.2.2.1, F.2.2.2.2⟩
  have hl : lv_has ls 2 [(0, .ref (ad 29)), (1, .int p0)] := hl
  have L36 : ∀ (H : Heap) (locs : List Loc) (ls : Array Slot), va_P (dC, dI) vwCl (ac_w ad cA (TT nF) u0) H → va_D A (ac_w ad cA (TT nF) u0) → va_S A s.heap H locs → lv_has ls 2 [] → W p l e (ac_rm 1) s m [.ref (ad 29), .int p0].toArray below meth c H locs 0 0 (MQ below (va_Qi (fun (r : Int32) (u : ac_U) => u = u0 ∧ ((0 : Int) ≤ r.toInt ∧ r.toInt ≤ 1)) (ac_B (dC, dI) vwCl (ac_ty cA) ad cA (TT nF) A) A) [.ref (ad 29), .int p0].toArray s 0 0 A) (F0 m 36 ls []) := by
    intro H locs ls hP hD hS hl
    refine a_ic F (0 : Int32) dX5_isWindowOver_36 (by decide) ?_
    exact a_retz F hr hlocks hP hD hS dX5_isWindowOver_37 (Or.inl rfl) ⟨rfl, (by decide)⟩
  refine lv_iload_n F.1 F.2.1 dX5_isWindowOver_0 rfl (lv_at hl 1 rfl) ?_
  refine a_bp F (20 : Int32) dX5_isWindowOver_1 (by decide) ?_
  refine b_ge F 36 dX5_isWindowOver_3 (by decide) rfl ic_20 (fun c1 => ?_) (fun c1 => ?_)
  · exact L36 _ _ _  hP hD hS (lv_sub hl [] rfl)
  · refine lv_aload_n F.1 F.2.1 dX5_isWindowOver_6 rfl (lv_at hl 0 rfl) ?_
    refine a_getr F inX5 hP 29 1 tc_29 rfl rfl (by decide) q307 (fun _ h9 => h9) dX5_isWindowOver_7 ?_
    refine a_getr F inX6 hP 24 1 tc_24 rfl rfl (by decide) q274 (fun _ h9 => h9) dX5_isWindowOver_10 ?_
    refine a_ic F (0 : Int32) dX5_isWindowOver_13 (by decide) ?_
    have g2 : (0 : Int) ≤ (u0.1 25 0).toInt ∧ (u0.1 25 0).toInt ≤ 480 := hR 25 0
    refine a_ialdK F hP 25 0 tc_25 rfl rfl (i_in ic_0 (by omega)) (v := (u0.1 25 0)) rfl dX5_isWindowOver_14 ?_
    refine lv_iload_n F.1 F.2.1 dX5_isWindowOver_15 rfl (lv_at hl 1 rfl) ?_
    refine lv_aload_n F.1 F.2.1 dX5_isWindowOver_16 rfl (lv_at hl 0 rfl) ?_
    refine a_getr F inX5 hP 29 0 tc_29 rfl rfl (by decide) q306 (fun _ h9 => h9) dX5_isWindowOver_17 ?_
    have g3 : (4 : Int) ≤ (u0.1 4 0).toInt ∧ (u0.1 4 0).toInt ≤ 24 := hR 4 0
    refine a_geti F inX2 hP 4 0 tc_4 rfl rfl (by decide) q152 (fun _ h9 => h9) (v := (u0.1 4 0)) rfl dX5_isWindowOver_20 ?_
    have kv4 := i_mulb (x := p0.toInt) (y := (u0.1 4 0).toInt) (a0 := 0) (a1 := 19) (b0 := 4) (b1 := 24) (by omega) (by omega) (by omega)
    refine a_imul F dX5_isWindowOver_23 rfl rfl (by omega) (fun v4 hv4 => ?_)
    refine lv_aload_n F.1 F.2.1 dX5_isWindowOver_24 rfl (lv_at hl 0 rfl) ?_
    refine a_geti F inX5 hP 29 5 tc_29 rfl rfl (by decide) q311 (fun _ h9 => h9) (v := (u0.1 29 5)) rfl dX5_isWindowOver_25 ?_
    refine a_iaddU F dX5_isWindowOver_28 (fun v5 => ?_)
    refine b_le F 36 dX5_isWindowOver_29 (by decide) rfl rfl (fun c6 => ?_) (fun c6 => ?_)
    · exact L36 _ _ _  hP hD hS (lv_sub hl [] rfl)
    · refine a_ic F (1 : Int32) dX5_isWindowOver_32 (by decide) ?_
      refine lv_goto (tgt := 37) F.1 F.2.1 dX5_isWindowOver_33 (by decide) ?_
      exact a_retz F hr hlocks hP hD hS dX5_isWindowOver_37 (Or.inr rfl) ⟨rfl, (by decide)⟩
set_option maxHeartbeats 600000 in
set_option maxRecDepth 100000 in
theorem c_X5_brokenDay_29 (l : Launch) (dC : Nat → ClassId) (dI : Nat → Nat → Nat) (ad : Nat → Nat) (cA : Nat → ClassId) (nF : Nat) (u0 : ac_U) (p0 : Int32) (p1 : Int32) (hR : ac_R rg u0) (hp0 : (0 : Int) ≤ p0.toInt ∧ p0.toInt ≤ 7) (hp1 : (0 : Int) ≤ p1.toInt ∧ p1.toInt ≤ 7) : ac_Mi l yX5_brokenDay (.code yX5_brokenDay cX5_brokenDay 5 (some .int) :: TB) 5 (dC, dI) vwCl (ac_ty cA) ad cA (TT nF) [.ref (ad 29), .int p0, .int p1] u0 (fun (r : Int32) (u : ac_U) => ac_R rg u ∧ ac_Fr [(29, some 4), (29, some 5), (29, some 6), (30, none)] u0 u ∧ ((-1 : Int) ≤ r.toInt ∧ r.toInt ≤ 121)) := by
  refine ac_Mi.of (cc := cX5_brokenDay) (maxL := 5) (ret := (some .int)) (by decide) rfl (Nat.le_of_ble_eq_true rfl) ?_
  intro p e s m below meth c A ls F hml hr hlocks hA hP hD hS hl
  have F : ac_X p s m [.ref (ad 29), .int p0, .int p1].toArray c cX5_brokenDay RX5 TB (dC, dI) vwCl (ac_ty cA) := ⟨F.1, F.2.1, fun w h => F.2.2.1 w (List.mem_cons_of_mem _ h), F.2.2.2.1, F.2.2.2.2⟩
  have hl : lv_has ls 5 [(0, .ref (ad 29)), (1, .int p0), (2, .int p1)] := hl
  have hF : ac_Fr [(29, some 4), (29, some 5), (29, some 6), (30, none)] u0 u0 := ac_Fr.rf
  have L92 : ∀ (u : ac_U) (H : Heap) (locs : List Loc) (ls : Array Slot), ac_R rg u → ac_Fr [(29, some 4), (29, some 5), (29, some 6), (30, none)] u0 u → va_P (dC, dI) vwCl (ac_w ad cA (TT nF) u) H → va_D A (ac_w ad cA (TT nF) u) → va_S A s.heap H locs → lv_has ls 5 [] → W p l e (ac_rm 5) s m [.ref (ad 29), .int p0, .int p1].toArray below meth c H locs 0 0 (MQ below (va_Qi (fun (r : Int32) (u : ac_U) => ac_R rg u ∧ ac_Fr [(29, some 4), (29, some 5), (29, some 6), (30, none)] u0 u ∧ ((-1 : Int) ≤ r.toInt ∧ r.toInt ≤ 121)) (ac_B (dC, dI) vwCl (ac_ty cA) ad cA (TT nF) A) A) [.ref (ad 29), .int p0, .int p1].toArray s 0 0 A) (F0 m 92 ls []) := by
    intro u H locs ls hR hF hP hD hS hl
    refine a_ic F (-1 : Int32) dX5_brokenDay_92 (by decide) ?_
    exact a_reti F hr hlocks hP hD hS dX5_brokenDay_93 ⟨hR, hF, (by decide)⟩
  have L49 : ∀ (n49 : Nat) (x3 : Int32) (x4 : Int32) (u : ac_U) (H : Heap) (locs : List Loc) (ls : Array Slot), ac_R rg u → ac_Fr [(29, some 4), (29, some 5), (29, some 6), (30, none)] u0 u → 122 - x4.toInt < (n49 : Int) → (0 : Int) ≤ x3.toInt ∧ x3.toInt ≤ 121 → (0 : Int) ≤ x4.toInt ∧ x4.toInt ≤ 122 → va_P (dC, dI) vwCl (ac_w ad cA (TT nF) u) H → va_D A (ac_w ad cA (TT nF) u) → va_S A s.heap H locs → lv_has ls 5 [(0, .ref (ad 29)), (1, .int p0), (3, .int x3), (4, .int x4)] → W p l e (ac_rm 5) s m [.ref (ad 29), .int p0, .int p1].toArray below meth c H locs 0 0 (MQ below (va_Qi (fun (r : Int32) (u : ac_U) => ac_R rg u ∧ ac_Fr [(29, some 4), (29, some 5), (29, some 6), (30, none)] u0 u ∧ ((-1 : Int) ≤ r.toInt ∧ r.toInt ≤ 121)) (ac_B (dC, dI) vwCl (ac_ty cA) ad cA (TT nF) A) A) [.ref (ad 29), .int p0, .int p1].toArray s 0 0 A) (F0 m 49 ls []) := by
    intro n49
    induction n49 with
    | zero => intro x3 x4 u H locs ls hR hF hn49 f0 f1 hP hD hS hl; exfalso; omega
    | succ n49 ih49 =>
      intro x3 x4 u H locs ls hR hF hn49 f0 f1 hP hD hS hl
      have L86 : ∀ (x3 : Int32) (x4 : Int32) (u : ac_U) (H : Heap) (locs : List Loc) (ls : Array Slot), ac_R rg u → ac_Fr [(29, some 4), (29, some 5), (29, some 6), (30, none)] u0 u → (0 : Int) ≤ x3.toInt ∧ x3.toInt ≤ 121 → (0 : Int) ≤ x4.toInt ∧ x4.toInt ≤ 121 → 122 - x4.toInt + 0 < ((n49 : Nat) : Int) + 1 → va_P (dC, dI) vwCl (ac_w ad cA (TT nF) u) H → va_D A (ac_w ad cA (TT nF) u) → va_S A s.heap H locs → lv_has ls 5 [(0, .ref (ad 29)), (1, .int p0), (3, .int x3), (4, .int x4)] → W p l e (ac_rm 5) s m [.ref (ad 29), .int p0, .int p1].toArray below meth c H locs 0 0 (MQ below (va_Qi (fun (r : Int32) (u : ac_U) => ac_R rg u ∧ ac_Fr [(29, some 4), (29, some 5), (29, some 6), (30, none)] u0 u ∧ ((-1 : Int) ≤ r.toInt ∧ r.toInt ≤ 121)) (ac_B (dC, dI) vwCl (ac_ty cA) ad cA (TT nF) A) A) [.ref (ad 29), .int p0, .int p1].toArray s 0 0 A) (F0 m 86 ls []) := by
        intro x3 x4 u H locs ls hR hF f0 f1 f2 hP hD hS hl
        refine a_iinc F (k := 3) (fun v1 => [(4, .int v1), (0, .ref (ad 29)), (1, .int p0), (3, .int x3)]) dX5_brokenDay_86 hl rfl rfl (by decide) (by omega) (by decide) (fun _ => rfl) (fun v1 ls hv1 hl => ?_)
        refine lv_goto (tgt := 49) F.1 F.2.1 dX5_brokenDay_89 (by decide) ?_
        exact ih49 x3 v1 _ _ _ _ hR hF (by omega) (by omega) (by omega) hP hD hS (lv_sub hl [1, 2, 3, 0] rfl)
      refine lv_iload F.1 F.2.1 dX5_brokenDay_49 (lv_at hl 3 rfl) ?_
      refine lv_iload_n F.1 F.2.1 dX5_brokenDay_51 rfl (lv_at hl 2 rfl) ?_
      refine b_gt F 92 dX5_brokenDay_52 (by decide) rfl rfl (fun c2 => ?_) (fun c2 => ?_)
      · exact L92 _ _ _ _ hR hF hP hD hS (lv_sub hl [] rfl)
      · refine lv_aload_n F.1 F.2.1 dX5_brokenDay_55 rfl (lv_at hl 0 rfl) ?_
        refine lv_iload F.1 F.2.1 dX5_brokenDay_56 (lv_at hl 3 rfl) ?_
        refine a_Vi F hml hl.1 hA hP hD hS (As := [.int x4]) (c_X5_isWindowOver_29 l dC dI ad cA nF _ x4 hR (by omega)) (cs_RX5_100 (d := 1) F.2.2.1 (by decide)) tc_29 rfl rfl rfl rfl (Nat.le_of_ble_eq_true rfl) dX5_brokenDay_58 ⟨Nat.le_refl 0, Nat.le_refl 0⟩ (fun r3 uN3 H locs hq hP hD hS => ?_)
        obtain ⟨hu3, gr3⟩ := hq
        rw [hu3] at hP hD
        refine z_eq F 92 dX5_brokenDay_61 (by decide) rfl (fun c4 => ?_) (fun c4 => ?_)
        · exact L92 _ _ _ _ hR hF hP hD hS (lv_sub hl [] rfl)
        · refine lv_aload_n F.1 F.2.1 dX5_brokenDay_64 rfl (lv_at hl 0 rfl) ?_
          refine lv_iload_n F.1 F.2.1 dX5_brokenDay_65 rfl (lv_at hl 1 rfl) ?_
          refine lv_iload F.1 F.2.1 dX5_brokenDay_66 (lv_at hl 3 rfl) ?_
          refine a_Vi F hml hl.1 hA hP hD hS (As := [.int p0, .int x4]) (c_X5_isKeptOn_29 l dC dI ad cA nF _ p0 x4 hR (by omega) (by omega)) (cs_RX5_90 (d := 2) F.2.2.1 (by decide)) tc_29 rfl rfl rfl rfl (Nat.le_of_ble_eq_true rfl) dX5_brokenDay_68 ⟨Nat.le_refl 0, Nat.le_refl 0⟩ (fun r5 uN5 H locs hq hP hD hS => ?_)
          obtain ⟨hu5, gr5⟩ := hq
          rw [hu5] at hP hD
          refine z_ne F 86 dX5_brokenDay_71 (by decide) rfl (fun c6 => ?_) (fun c6 => ?_)
          · exact L86 x3 x4 _ _ _ _ hR hF (by omega) (by omega) (by omega) hP hD hS (lv_sub hl [0, 1, 2, 3] rfl)
          · refine lv_aload_n F.1 F.2.1 dX5_brokenDay_74 rfl (lv_at hl 0 rfl) ?_
            refine lv_iload F.1 F.2.1 dX5_brokenDay_75 (lv_at hl 3 rfl) ?_
            refine a_Vi F hml hl.1 hA hP hD hS (As := [.int x4]) (c_X5_isOffOn_29 l dC dI ad cA nF _ x4 hR (by omega)) (cs_RX5_93 (d := 1) F.2.2.1 (by decide)) tc_29 rfl rfl rfl rfl (Nat.le_of_ble_eq_true rfl) dX5_brokenDay_77 ⟨Nat.le_refl 0, Nat.le_refl 0⟩ (fun r7 uN7 H locs hq hP hD hS => ?_)
            obtain ⟨hu7, gr7⟩ := hq
            rw [hu7] at hP hD
            refine z_ne F 86 dX5_brokenDay_80 (by decide) rfl (fun c8 => ?_) (fun c8 => ?_)
            · exact L86 x3 x4 _ _ _ _ hR hF (by omega) (by omega) (by omega) hP hD hS (lv_sub hl [0, 1, 2, 3] rfl)
            · refine lv_iload F.1 F.2.1 dX5_brokenDay_83 (lv_at hl 3 rfl) ?_
              exact a_reti F hr hlocks hP hD hS dX5_brokenDay_85 ⟨hR, hF, (by omega : (-1 : Int) ≤ x4.toInt ∧ x4.toInt ≤ 121)⟩
  have L42 : ∀ (z0 : Int32) (u : ac_U) (H : Heap) (locs : List Loc) (ls : Array Slot), ac_R rg u → ac_Fr [(29, some 4), (29, some 5), (29, some 6), (30, none)] u0 u → (0 : Int) ≤ z0.toInt ∧ z0.toInt ≤ 121 → va_P (dC, dI) vwCl (ac_w ad cA (TT nF) u) H → va_D A (ac_w ad cA (TT nF) u) → va_S A s.heap H locs → lv_has ls 5 [(0, .ref (ad 29)), (1, .int p0)] → W p l e (ac_rm 5) s m [.ref (ad 29), .int p0, .int p1].toArray below meth c H locs 0 0 (MQ below (va_Qi (fun (r : Int32) (u : ac_U) => ac_R rg u ∧ ac_Fr [(29, some 4), (29, some 5), (29, some 6), (30, none)] u0 u ∧ ((-1 : Int) ≤ r.toInt ∧ r.toInt ≤ 121)) (ac_B (dC, dI) vwCl (ac_ty cA) ad cA (TT nF) A) A) [.ref (ad 29), .int p0, .int p1].toArray s 0 0 A) (F0 m 42 ls [.int z0]) := by
    intro z0 u H locs ls hR hF f0 hP hD hS hl
    refine lv_istore_n (lv' := [(3, .int z0), (0, .ref (ad 29)), (1, .int p0)]) F.1 F.2.1 dX5_brokenDay_42 rfl hl (by decide) rfl (fun ls hl => ?_)
    refine lv_aload_n F.1 F.2.1 dX5_brokenDay_43 rfl (lv_at hl 1 rfl) ?_
    have g9 : (0 : Int) ≤ (u.1 29 6).toInt ∧ (u.1 29 6).toInt ≤ 121 := hR 29 6
    refine a_geti F inX5 hP 29 6 tc_29 rfl rfl (by decide) q312 (fun _ h9 => h9) (v := (u.1 29 6)) rfl dX5_brokenDay_44 ?_
    refine lv_istore (lv' := [(4, .int (u.1 29 6)), (3, .int z0), (0, .ref (ad 29)), (1, .int p0)]) F.1 F.2.1 dX5_brokenDay_47 hl (by decide) rfl (fun ls hl => ?_)
    exact L49 124 z0 (u.1 29 6) _ _ _ _ hR hF (by omega) (by omega) (by omega) hP hD hS (lv_sub hl [2, 3, 1, 0] rfl)
  refine lv_aload_n F.1 F.2.1 dX5_brokenDay_0 rfl (lv_at hl 0 rfl) ?_
  refine a_getr F inX5 hP 29 1 tc_29 rfl rfl (by decide) q307 (fun _ h9 => h9) dX5_brokenDay_1 ?_
  refine lv_iload_n F.1 F.2.1 dX5_brokenDay_4 rfl (lv_at hl 1 rfl) ?_
  refine a_Vi F hml hl.1 hA hP hD hS (As := [.int p0]) (c_X6_isBound_24 l dC dI ad cA nF _ p0 hR (by omega)) (cs_RX5_83 (d := 2) F.2.2.1 (by decide)) tc_24 rfl rfl rfl rfl (Nat.le_of_ble_eq_true rfl) dX5_brokenDay_5 ⟨Nat.le_refl 0, Nat.le_refl 0⟩ (fun r10 uN10 H locs hq hP hD hS => ?_)
  obtain ⟨hu10, gr10⟩ := hq
  rw [hu10] at hP hD
  refine z_ne F 13 dX5_brokenDay_8 (by decide) rfl (fun c11 => ?_) (fun c11 => ?_)
  · refine lv_aload_n F.1 F.2.1 dX5_brokenDay_13 rfl (lv_at hl 0 rfl) ?_
    refine lv_iload_n F.1 F.2.1 dX5_brokenDay_14 rfl (lv_at hl 1 rfl) ?_
    refine lv_iload_n F.1 F.2.1 dX5_brokenDay_15 rfl (lv_at hl 2 rfl) ?_
    refine a_Vv F hml hl.1 hA hP hD hS (As := [.int p0, .int p1]) (c_X5_weigh_29 l dC dI ad cA nF _ p0 p1 hR (by omega) (by omega)) (cs_RX5_96 (d := 4) F.2.2.1 (by decide)) tc_29 rfl rfl rfl rfl (Nat.le_of_ble_eq_true rfl) dX5_brokenDay_16 ⟨Nat.le_refl 0, Nat.le_refl 0⟩ (fun u12 H locs hq hP hD hS => ?_)
    obtain ⟨hR, hF12, hK_CT⟩ := hq
    have hF := hF.tr hF12 (by decide)
    refine lv_aload_n F.1 F.2.1 dX5_brokenDay_19 rfl (lv_at hl 0 rfl) ?_
    refine a_getr F inX5 hP 29 0 tc_29 rfl rfl (by decide) q306 (fun _ h9 => h9) dX5_brokenDay_20 ?_
    refine lv_iload_n F.1 F.2.1 dX5_brokenDay_23 rfl (lv_at hl 1 rfl) ?_
    refine a_bp F (6 : Int32) dX5_brokenDay_24 (by decide) ?_
    refine a_Vi F hml hl.1 hA hP hD hS (As := [.int p0, .int (6 : Int32)]) (c_X2_term_4 l dC dI ad cA nF _ p0 (6 : Int32) hR (by omega) (by decide)) (cs_RX5_36 (d := 1) F.2.2.1 (by decide)) tc_4 rfl rfl rfl rfl (Nat.le_of_ble_eq_true rfl) dX5_brokenDay_26 ⟨Nat.le_refl 0, Nat.le_refl 0⟩ (fun r13 uN13 H locs hq hP hD hS => ?_)
    obtain ⟨hu13, xr13⟩ := hq
    rw [hu13] at hP hD
    have xr13 : ((6 : Int) = 2 → 0 ≤ r13.toInt ∧ r13.toInt ≤ 7) ∧ ((6 : Int) = 5 → 0 ≤ r13.toInt ∧ r13.toInt ≤ 3) := xr13
    refine a_ic F (1 : Int32) dX5_brokenDay_29 (by decide) ?_
    refine b_ne F 38 dX5_brokenDay_30 (by decide) rfl ic_1 (fun c14 => ?_) (fun c14 => ?_)
    · refine lv_aload_n F.1 F.2.1 dX5_brokenDay_38 rfl (lv_at hl 0 rfl) ?_
      have g15 : (0 : Int) ≤ (u12.1 29 6).toInt ∧ (u12.1 29 6).toInt ≤ 121 := hR 29 6
      refine a_geti F inX5 hP 29 6 tc_29 rfl rfl (by decide) q312 (fun _ h9 => h9) (v := (u12.1 29 6)) rfl dX5_brokenDay_39 ?_
      exact L42 (u12.1 29 6) _ _ _ _ hR hF (by omega) hP hD hS (lv_sub hl [0, 1] rfl)
    · refine a_bp F (19 : Int32) dX5_brokenDay_33 (by decide) ?_
      refine lv_goto (tgt := 42) F.1 F.2.1 dX5_brokenDay_35 (by decide) ?_
      exact L42 (19 : Int32) _ _ _ _ hR hF (by decide) hP hD hS (lv_sub hl [0, 1] rfl)
  · refine a_ic F (-1 : Int32) dX5_brokenDay_11 (by decide) ?_
    exact a_reti F hr hlocks hP hD hS dX5_brokenDay_12 ⟨hR, hF, (by decide)⟩
set_option maxHeartbeats 600000 in
set_option maxRecDepth 100000 in
theorem c_X5_brokenByAll_29 (l : Launch) (dC : Nat → ClassId) (dI : Nat → Nat → Nat) (ad : Nat → Nat) (cA : Nat → ClassId) (nF : Nat) (u0 : ac_U) (p0 : Int32) (hR : ac_R rg u0) (hp0 : (0 : Int) ≤ p0.toInt ∧ p0.toInt ≤ 7) : ac_Mi l yX5_brokenByAll (.code yX5_brokenByAll cX5_brokenByAll 5 (some .int) :: TB) 6 (dC, dI) vwCl (ac_ty cA) ad cA (TT nF) [.ref (ad 29), .int p0] u0 (fun (r : Int32) (u : ac_U) => ac_R rg u ∧ ac_Fr [(29, some 4), (29, some 5), (29, some 6), (30, none)] u0 u ∧ ((-1 : Int) ≤ r.toInt ∧ r.toInt ≤ 121)) := by
  refine ac_Mi.of (cc := cX5_brokenByAll) (maxL := 5) (ret := (some .int)) (by decide) rfl (Nat.le_of_ble_eq_true rfl) ?_
  intro p e s m below meth c A ls F hml hr hlocks hA hP hD hS hl
  have F : ac_X p s m [.ref (ad 29), .int p0].toArray c cX5_brokenByAll RX5 TB (dC, dI) vwCl (ac_ty cA) := ⟨F.1, F.2.1, fun w h => F.2.2.1 w (List.mem_cons_of_mem _ h), F.2.2.2.1, F.2.2.2.2⟩
  have hl : lv_has ls 5 [(0, .ref (ad 29)), (1, .int p0)] := hl
  have hF : ac_Fr [(29, some 4), (29, some 5), (29, some 6), (30, none)] u0 u0 := ac_Fr.rf
  have L4 : ∀ (n4 : Nat) (x2 : Int32) (x3 : Int32) (u : ac_U) (H : Heap) (locs : List Loc) (ls : Array Slot), ac_R rg u → ac_Fr [(29, some 4), (29, some 5), (29, some 6), (30, none)] u0 u → 8 - x3.toInt < (n4 : Int) → (-1 : Int) ≤ x2.toInt ∧ x2.toInt ≤ 121 → (0 : Int) ≤ x3.toInt ∧ x3.toInt ≤ 8 → va_P (dC, dI) vwCl (ac_w ad cA (TT nF) u) H → va_D A (ac_w ad cA (TT nF) u) → va_S A s.heap H locs → lv_has ls 5 [(0, .ref (ad 29)), (1, .int p0), (2, .int x2), (3, .int x3)] → W p l e (ac_rm 6) s m [.ref (ad 29), .int p0].toArray below meth c H locs 0 0 (MQ below (va_Qi (fun (r : Int32) (u : ac_U) => ac_R rg u ∧ ac_Fr [(29, some 4), (29, some 5), (29, some 6), (30, none)] u0 u ∧ ((-1 : Int) ≤ r.toInt ∧ r.toInt ≤ 121)) (ac_B (dC, dI) vwCl (ac_ty cA) ad cA (TT nF) A) A) [.ref (ad 29), .int p0].toArray s 0 0 A) (F0 m 4 ls []) := by
    intro n4
    induction n4 with
    | zero => intro x2 x3 u H locs ls hR hF hn4 f0 f1 hP hD hS hl; exfalso; omega
    | succ n4 ih4 =>
      intro x2 x3 u H locs ls hR hF hn4 f0 f1 hP hD hS hl
      refine lv_iload_n F.1 F.2.1 dX5_brokenByAll_4 rfl (lv_at hl 3 rfl) ?_
      refine a_bp F (8 : Int32) dX5_brokenByAll_5 (by decide) ?_
      refine b_ge F 39 dX5_brokenByAll_7 (by decide) rfl ic_8 (fun c1 => ?_) (fun c1 => ?_)
      · refine lv_iload_n F.1 F.2.1 dX5_brokenByAll_39 rfl (lv_at hl 2 rfl) ?_
        exact a_reti F hr hlocks hP hD hS dX5_brokenByAll_40 ⟨hR, hF, (by omega : (-1 : Int) ≤ x2.toInt ∧ x2.toInt ≤ 121)⟩
      · refine lv_aload_n F.1 F.2.1 dX5_brokenByAll_10 rfl (lv_at hl 0 rfl) ?_
        refine lv_iload_n F.1 F.2.1 dX5_brokenByAll_11 rfl (lv_at hl 1 rfl) ?_
        refine lv_iload_n F.1 F.2.1 dX5_brokenByAll_12 rfl (lv_at hl 3 rfl) ?_
        refine a_Vi F hml hl.1 hA hP hD hS (As := [.int p0, .int x3]) (c_X5_brokenDay_29 l dC dI ad cA nF _ p0 x3 hR (by omega) (by omega)) (cs_RX5_87 (d := 5) F.2.2.1 (by decide)) tc_29 rfl rfl rfl rfl (Nat.le_of_ble_eq_true rfl) dX5_brokenByAll_13 ⟨Nat.le_refl 0, Nat.le_refl 0⟩ (fun r2 u2 H locs hq hP hD hS => ?_)
        obtain ⟨hR, hF2, gr2⟩ := hq
        have hF := hF.tr hF2 (by decide)
        refine lv_istore (lv' := [(4, .int r2), (0, .ref (ad 29)), (1, .int p0), (2, .int x2), (3, .int x3)]) F.1 F.2.1 dX5_brokenByAll_16 hl (by decide) rfl (fun ls hl => ?_)
        refine lv_iload F.1 F.2.1 dX5_brokenByAll_18 (lv_at hl 0 rfl) ?_
        refine a_ic F (-1 : Int32) dX5_brokenByAll_20 (by decide) ?_
        refine b_ne F 26 dX5_brokenByAll_21 (by decide) rfl ic_m1 (fun c3 => ?_) (fun c3 => ?_)
        · refine lv_iload_n F.1 F.2.1 dX5_brokenByAll_26 rfl (lv_at hl 3 rfl) ?_
          refine lv_iload F.1 F.2.1 dX5_brokenByAll_27 (lv_at hl 0 rfl) ?_
          refine va_mmax F.1 F.2.1 (hml.trans hl.1.symm) F.2.2.2.1 (F.2.2.1 _ q977) (F.2.2.1 _ q978) (F.2.2.1 _ q24) (F.2.2.1 _ q979) (by decide) (Nat.le_of_ble_eq_true rfl) (Nat.le_refl 0) (Nat.le_refl 0) dX5_brokenByAll_29 ?_
          refine lv_topi (fun v4 ev4 => ?_)
          have hv4 := i_max rfl rfl ev4
          refine lv_istore_n (lv' := [(2, .int v4), (4, .int r2), (0, .ref (ad 29)), (1, .int p0), (3, .int x3)]) F.1 F.2.1 dX5_brokenByAll_32 rfl hl (by decide) rfl (fun ls hl => ?_)
          refine a_iinc F (k := 4) (fun v5 => [(3, .int v5), (2, .int v4), (4, .int r2), (0, .ref (ad 29)), (1, .int p0)]) dX5_brokenByAll_33 hl rfl rfl (by decide) (by omega) (by decide) (fun _ => rfl) (fun v5 ls hv5 hl => ?_)
          refine lv_goto (tgt := 4) F.1 F.2.1 dX5_brokenByAll_36 (by decide) ?_
          exact ih4 v4 v5 _ _ _ _ hR hF (by omega) (by omega) (by omega) hP hD hS (lv_sub hl [3, 4, 1, 0] rfl)
        · refine a_ic F (-1 : Int32) dX5_brokenByAll_24 (by decide) ?_
          exact a_reti F hr hlocks hP hD hS dX5_brokenByAll_25 ⟨hR, hF, (by decide)⟩
  refine a_ic F (-1 : Int32) dX5_brokenByAll_0 (by decide) ?_
  refine lv_istore_n (lv' := [(2, .int (-1 : Int32)), (0, .ref (ad 29)), (1, .int p0)]) F.1 F.2.1 dX5_brokenByAll_1 rfl hl (by decide) rfl (fun ls hl => ?_)
  refine a_ic F (0 : Int32) dX5_brokenByAll_2 (by decide) ?_
  refine lv_istore_n (lv' := [(3, .int (0 : Int32)), (2, .int (-1 : Int32)), (0, .ref (ad 29)), (1, .int p0)]) F.1 F.2.1 dX5_brokenByAll_3 rfl hl (by decide) rfl (fun ls hl => ?_)
  exact L4 10 (-1 : Int32) (0 : Int32) _ _ _ _ hR hF (by decide) (by decide) (by decide) hP hD hS (lv_sub hl [2, 3, 1, 0] rfl)
set_option maxHeartbeats 600000 in
set_option maxRecDepth 100000 in
theorem c_X5_brokenBySome_29 (l : Launch) (dC : Nat → ClassId) (dI : Nat → Nat → Nat) (ad : Nat → Nat) (cA : Nat → ClassId) (nF : Nat) (u0 : ac_U) (p0 : Int32) (hR : ac_R rg u0) (hp0 : (0 : Int) ≤ p0.toInt ∧ p0.toInt ≤ 7) : ac_Mi l yX5_brokenBySome (.code yX5_brokenBySome cX5_brokenBySome 5 (some .int) :: TB) 6 (dC, dI) vwCl (ac_ty cA) ad cA (TT nF) [.ref (ad 29), .int p0] u0 (fun (r : Int32) (u : ac_U) => ac_R rg u ∧ ac_Fr [(29, some 4), (29, some 5), (29, some 6), (30, none)] u0 u ∧ ((-1 : Int) ≤ r.toInt ∧ r.toInt ≤ 121)) := by
  refine ac_Mi.of (cc := cX5_brokenBySome) (maxL := 5) (ret := (some .int)) (by decide) rfl (Nat.le_of_ble_eq_true rfl) ?_
  intro p e s m below meth c A ls F hml hr hlocks hA hP hD hS hl
  have F : ac_X p s m [.ref (ad 29), .int p0].toArray c cX5_brokenBySome RX5 TB (dC, dI) vwCl (ac_ty cA) := ⟨F.1, F.2.1, fun w h => F.2.2.1 w (List.mem_cons_of_mem _ h), F.2.2.2.1, F.2.2.2.2⟩
  have hl : lv_has ls 5 [(0, .ref (ad 29)), (1, .int p0)] := hl
  have hF : ac_Fr [(29, some 4), (29, some 5), (29, some 6), (30, none)] u0 u0 := ac_Fr.rf
  have L4 : ∀ (n4 : Nat) (x2 : Int32) (x3 : Int32) (u : ac_U) (H : Heap) (locs : List Loc) (ls : Array Slot), ac_R rg u → ac_Fr [(29, some 4), (29, some 5), (29, some 6), (30, none)] u0 u → 8 - x3.toInt < (n4 : Int) → (-1 : Int) ≤ x2.toInt ∧ x2.toInt ≤ 121 → (0 : Int) ≤ x3.toInt ∧ x3.toInt ≤ 8 → va_P (dC, dI) vwCl (ac_w ad cA (TT nF) u) H → va_D A (ac_w ad cA (TT nF) u) → va_S A s.heap H locs → lv_has ls 5 [(0, .ref (ad 29)), (1, .int p0), (2, .int x2), (3, .int x3)] → W p l e (ac_rm 6) s m [.ref (ad 29), .int p0].toArray below meth c H locs 0 0 (MQ below (va_Qi (fun (r : Int32) (u : ac_U) => ac_R rg u ∧ ac_Fr [(29, some 4), (29, some 5), (29, some 6), (30, none)] u0 u ∧ ((-1 : Int) ≤ r.toInt ∧ r.toInt ≤ 121)) (ac_B (dC, dI) vwCl (ac_ty cA) ad cA (TT nF) A) A) [.ref (ad 29), .int p0].toArray s 0 0 A) (F0 m 4 ls []) := by
    intro n4
    induction n4 with
    | zero => intro x2 x3 u H locs ls hR hF hn4 f0 f1 hP hD hS hl; exfalso; omega
    | succ n4 ih4 =>
      intro x2 x3 u H locs ls hR hF hn4 f0 f1 hP hD hS hl
      have L38 : ∀ (x2 : Int32) (x3 : Int32) (u : ac_U) (H : Heap) (locs : List Loc) (ls : Array Slot), ac_R rg u → ac_Fr [(29, some 4), (29, some 5), (29, some 6), (30, none)] u0 u → (-1 : Int) ≤ x2.toInt ∧ x2.toInt ≤ 121 → (0 : Int) ≤ x3.toInt ∧ x3.toInt ≤ 7 → 8 - x3.toInt + 0 < ((n4 : Nat) : Int) + 1 → va_P (dC, dI) vwCl (ac_w ad cA (TT nF) u) H → va_D A (ac_w ad cA (TT nF) u) → va_S A s.heap H locs → lv_has ls 5 [(0, .ref (ad 29)), (1, .int p0), (2, .int x2), (3, .int x3)] → W p l e (ac_rm 6) s m [.ref (ad 29), .int p0].toArray below meth c H locs 0 0 (MQ below (va_Qi (fun (r : Int32) (u : ac_U) => ac_R rg u ∧ ac_Fr [(29, some 4), (29, some 5), (29, some 6), (30, none)] u0 u ∧ ((-1 : Int) ≤ r.toInt ∧ r.toInt ≤ 121)) (ac_B (dC, dI) vwCl (ac_ty cA) ad cA (TT nF) A) A) [.ref (ad 29), .int p0].toArray s 0 0 A) (F0 m 38 ls []) := by
        intro x2 x3 u H locs ls hR hF f0 f1 f2 hP hD hS hl
        refine a_iinc F (k := 3) (fun v1 => [(3, .int v1), (0, .ref (ad 29)), (1, .int p0), (2, .int x2)]) dX5_brokenBySome_38 hl rfl rfl (by decide) (by omega) (by decide) (fun _ => rfl) (fun v1 ls hv1 hl => ?_)
        refine lv_goto (tgt := 4) F.1 F.2.1 dX5_brokenBySome_41 (by decide) ?_
        exact ih4 x2 v1 _ _ _ _ hR hF (by omega) (by omega) (by omega) hP hD hS (lv_sub hl [1, 2, 3, 0] rfl)
      have L35 : ∀ (x3 : Int32) (x4 : Int32) (u : ac_U) (H : Heap) (locs : List Loc) (ls : Array Slot), ac_R rg u → ac_Fr [(29, some 4), (29, some 5), (29, some 6), (30, none)] u0 u → (0 : Int) ≤ x3.toInt ∧ x3.toInt ≤ 7 → (0 : Int) ≤ x4.toInt ∧ x4.toInt ≤ 121 → 8 - x3.toInt + 0 < ((n4 : Nat) : Int) + 1 → va_P (dC, dI) vwCl (ac_w ad cA (TT nF) u) H → va_D A (ac_w ad cA (TT nF) u) → va_S A s.heap H locs → lv_has ls 5 [(0, .ref (ad 29)), (1, .int p0), (3, .int x3), (4, .int x4)] → W p l e (ac_rm 6) s m [.ref (ad 29), .int p0].toArray below meth c H locs 0 0 (MQ below (va_Qi (fun (r : Int32) (u : ac_U) => ac_R rg u ∧ ac_Fr [(29, some 4), (29, some 5), (29, some 6), (30, none)] u0 u ∧ ((-1 : Int) ≤ r.toInt ∧ r.toInt ≤ 121)) (ac_B (dC, dI) vwCl (ac_ty cA) ad cA (TT nF) A) A) [.ref (ad 29), .int p0].toArray s 0 0 A) (F0 m 35 ls []) := by
        intro x3 x4 u H locs ls hR hF f0 f1 f2 hP hD hS hl
        refine lv_iload F.1 F.2.1 dX5_brokenBySome_35 (lv_at hl 3 rfl) ?_
        refine lv_istore_n (lv' := [(2, .int x4), (0, .ref (ad 29)), (1, .int p0), (3, .int x3), (4, .int x4)]) F.1 F.2.1 dX5_brokenBySome_37 rfl hl (by decide) rfl (fun ls hl => ?_)
        exact L38 x4 x3 _ _ _ _ hR hF (by omega) (by omega) (by omega) hP hD hS (lv_sub hl [1, 2, 0, 3] rfl)
      refine lv_iload_n F.1 F.2.1 dX5_brokenBySome_4 rfl (lv_at hl 3 rfl) ?_
      refine a_bp F (8 : Int32) dX5_brokenBySome_5 (by decide) ?_
      refine b_ge F 44 dX5_brokenBySome_7 (by decide) rfl ic_8 (fun c2 => ?_) (fun c2 => ?_)
      · refine lv_iload_n F.1 F.2.1 dX5_brokenBySome_44 rfl (lv_at hl 2 rfl) ?_
        exact a_reti F hr hlocks hP hD hS dX5_brokenBySome_45 ⟨hR, hF, (by omega : (-1 : Int) ≤ x2.toInt ∧ x2.toInt ≤ 121)⟩
      · refine lv_aload_n F.1 F.2.1 dX5_brokenBySome_10 rfl (lv_at hl 0 rfl) ?_
        refine lv_iload_n F.1 F.2.1 dX5_brokenBySome_11 rfl (lv_at hl 1 rfl) ?_
        refine lv_iload_n F.1 F.2.1 dX5_brokenBySome_12 rfl (lv_at hl 3 rfl) ?_
        refine a_Vi F hml hl.1 hA hP hD hS (As := [.int p0, .int x3]) (c_X5_brokenDay_29 l dC dI ad cA nF _ p0 x3 hR (by omega) (by omega)) (cs_RX5_87 (d := 5) F.2.2.1 (by decide)) tc_29 rfl rfl rfl rfl (Nat.le_of_ble_eq_true rfl) dX5_brokenBySome_13 ⟨Nat.le_refl 0, Nat.le_refl 0⟩ (fun r3 u3 H locs hq hP hD hS => ?_)
        obtain ⟨hR, hF3, gr3⟩ := hq
        have hF := hF.tr hF3 (by decide)
        refine lv_istore (lv' := [(4, .int r3), (0, .ref (ad 29)), (1, .int p0), (2, .int x2), (3, .int x3)]) F.1 F.2.1 dX5_brokenBySome_16 hl (by decide) rfl (fun ls hl => ?_)
        refine lv_iload F.1 F.2.1 dX5_brokenBySome_18 (lv_at hl 0 rfl) ?_
        refine a_ic F (-1 : Int32) dX5_brokenBySome_20 (by decide) ?_
        refine b_eq F 38 dX5_brokenBySome_21 (by decide) rfl ic_m1 (fun c4 => ?_) (fun c4 => ?_)
        · exact L38 x2 x3 _ _ _ _ hR hF (by omega) (by omega) (by omega) hP hD hS (lv_sub hl [1, 2, 3, 4] rfl)
        · refine lv_iload_n F.1 F.2.1 dX5_brokenBySome_24 rfl (lv_at hl 3 rfl) ?_
          refine a_ic F (-1 : Int32) dX5_brokenBySome_25 (by decide) ?_
          refine b_eq F 35 dX5_brokenBySome_26 (by decide) rfl ic_m1 (fun c5 => ?_) (fun c5 => ?_)
          · exact L35 x3 r3 _ _ _ _ hR hF (by omega) (by omega) (by omega) hP hD hS (lv_sub hl [1, 2, 4, 0] rfl)
          · refine lv_iload F.1 F.2.1 dX5_brokenBySome_29 (lv_at hl 0 rfl) ?_
            refine lv_iload_n F.1 F.2.1 dX5_brokenBySome_31 rfl (lv_at hl 3 rfl) ?_
            refine b_ge F 38 dX5_brokenBySome_32 (by decide) rfl rfl (fun c6 => ?_) (fun c6 => ?_)
            · exact L38 x2 x3 _ _ _ _ hR hF (by omega) (by omega) (by omega) hP hD hS (lv_sub hl [1, 2, 3, 4] rfl)
            · exact L35 x3 r3 _ _ _ _ hR hF (by omega) (by omega) (by omega) hP hD hS (lv_sub hl [1, 2, 4, 0] rfl)
  refine a_ic F (-1 : Int32) dX5_brokenBySome_0 (by decide) ?_
  refine lv_istore_n (lv' := [(2, .int (-1 : Int32)), (0, .ref (ad 29)), (1, .int p0)]) F.1 F.2.1 dX5_brokenBySome_1 rfl hl (by decide) rfl (fun ls hl => ?_)
  refine a_ic F (0 : Int32) dX5_brokenBySome_2 (by decide) ?_
  refine lv_istore_n (lv' := [(3, .int (0 : Int32)), (2, .int (-1 : Int32)), (0, .ref (ad 29)), (1, .int p0)]) F.1 F.2.1 dX5_brokenBySome_3 rfl hl (by decide) rfl (fun ls hl => ?_)
  exact L4 10 (-1 : Int32) (0 : Int32) _ _ _ _ hR hF (by decide) (by decide) (by decide) hP hD hS (lv_sub hl [2, 3, 1, 0] rfl)
set_option maxHeartbeats 600000 in
set_option maxRecDepth 100000 in
theorem c_X5_brokenCount_29 (l : Launch) (dC : Nat → ClassId) (dI : Nat → Nat → Nat) (ad : Nat → Nat) (cA : Nat → ClassId) (nF : Nat) (u0 : ac_U)  (hR : ac_R rg u0) : ac_Mi l yX5_brokenCount (.code yX5_brokenCount cX5_brokenCount 3 (some .int) :: TB) 6 (dC, dI) vwCl (ac_ty cA) ad cA (TT nF) [.ref (ad 29)] u0 (fun (r : Int32) (u : ac_U) => ac_R rg u ∧ ac_Fr [(29, some 4), (29, some 5), (29, some 6), (30, none)] u0 u) := by
  refine ac_Mi.of (cc := cX5_brokenCount) (maxL := 3) (ret := (some .int)) (by decide) rfl (Nat.le_of_ble_eq_true rfl) ?_
  intro p e s m below meth c A ls F hml hr hlocks hA hP hD hS hl
  have F : ac_X p s m [.ref (ad 29)].toArray c cX5_brokenCount RX5 TB (dC, dI) vwCl (ac_ty cA) := ⟨F.1, F.2.1, fun w h => F.2.2.1 w (List.mem_cons_of_mem _ h), F.2.2.2.1, F.2.2.2.2⟩
  have hl : lv_has ls 3 [(0, .ref (ad 29))] := hl
  have hF : ac_Fr [(29, some 4), (29, some 5), (29, some 6), (30, none)] u0 u0 := ac_Fr.rf
  have L4 : ∀ (n4 : Nat) (x1 : Int32) (x2 : Int32) (u : ac_U) (H : Heap) (locs : List Loc) (ls : Array Slot), ac_R rg u → ac_Fr [(29, some 4), (29, some 5), (29, some 6), (30, none)] u0 u → 8 - x2.toInt < (n4 : Int) → (0 : Int) ≤ x2.toInt ∧ x2.toInt ≤ 8 → va_P (dC, dI) vwCl (ac_w ad cA (TT nF) u) H → va_D A (ac_w ad cA (TT nF) u) → va_S A s.heap H locs → lv_has ls 3 [(0, .ref (ad 29)), (1, .int x1), (2, .int x2)] → W p l e (ac_rm 6) s m [.ref (ad 29)].toArray below meth c H locs 0 0 (MQ below (va_Qi (fun (r : Int32) (u : ac_U) => ac_R rg u ∧ ac_Fr [(29, some 4), (29, some 5), (29, some 6), (30, none)] u0 u) (ac_B (dC, dI) vwCl (ac_ty cA) ad cA (TT nF) A) A) [.ref (ad 29)].toArray s 0 0 A) (F0 m 4 ls []) := by
    intro n4
    induction n4 with
    | zero => intro x1 x2 u H locs ls hR hF hn4 f0 hP hD hS hl; exfalso; omega
    | succ n4 ih4 =>
      intro x1 x2 u H locs ls hR hF hn4 f0 hP hD hS hl
      have L31 : ∀ (x2 : Int32) (z0 : Int32) (z1 : Int32) (u : ac_U) (H : Heap) (locs : List Loc) (ls : Array Slot), ac_R rg u → ac_Fr [(29, some 4), (29, some 5), (29, some 6), (30, none)] u0 u → (0 : Int) ≤ x2.toInt ∧ x2.toInt ≤ 7 → (0 : Int) ≤ z1.toInt ∧ z1.toInt ≤ 1 → (1 : Int) ≤ (u.1 4 6).toInt ∧ (u.1 4 6).toInt ≤ 8 → 8 - x2.toInt + 0 < ((n4 : Nat) : Int) + 1 → va_P (dC, dI) vwCl (ac_w ad cA (TT nF) u) H → va_D A (ac_w ad cA (TT nF) u) → va_S A s.heap H locs → lv_has ls 3 [(0, .ref (ad 29)), (2, .int x2)] → W p l e (ac_rm 6) s m [.ref (ad 29)].toArray below meth c H locs 0 0 (MQ below (va_Qi (fun (r : Int32) (u : ac_U) => ac_R rg u ∧ ac_Fr [(29, some 4), (29, some 5), (29, some 6), (30, none)] u0 u) (ac_B (dC, dI) vwCl (ac_ty cA) ad cA (TT nF) A) A) [.ref (ad 29)].toArray s 0 0 A) (F0 m 31 ls [.int z1, .int z0]) := by
        intro x2 z0 z1 u H locs ls hR hF f0 f1 f2 f3 hP hD hS hl
        refine a_iaddU F dX5_brokenCount_31 (fun v1 => ?_)
        refine lv_istore_n (lv' := [(1, .int v1), (0, .ref (ad 29)), (2, .int x2)]) F.1 F.2.1 dX5_brokenCount_32 rfl hl (by decide) rfl (fun ls hl => ?_)
        refine a_iinc F (k := 2) (fun v2 => [(2, .int v2), (1, .int v1), (0, .ref (ad 29))]) dX5_brokenCount_33 hl rfl rfl (by decide) (by omega) (by decide) (fun _ => rfl) (fun v2 ls hv2 hl => ?_)
        refine lv_goto (tgt := 4) F.1 F.2.1 dX5_brokenCount_36 (by decide) ?_
        exact ih4 v1 v2 _ _ _ _ hR hF (by omega) (by omega) hP hD hS (lv_sub hl [2, 1, 0] rfl)
      refine lv_iload_n F.1 F.2.1 dX5_brokenCount_4 rfl (lv_at hl 2 rfl) ?_
      refine lv_aload_n F.1 F.2.1 dX5_brokenCount_5 rfl (lv_at hl 0 rfl) ?_
      refine a_getr F inX5 hP 29 0 tc_29 rfl rfl (by decide) q306 (fun _ h9 => h9) dX5_brokenCount_6 ?_
      have g3 : (0 : Int) ≤ (u.1 4 6).toInt ∧ (u.1 4 6).toInt ≤ 8 := hR 4 6
      refine a_geti F inX2 hP 4 6 tc_4 rfl rfl (by decide) q182 (fun _ h9 => h9) (v := (u.1 4 6)) rfl dX5_brokenCount_9 ?_
      refine b_ge F 39 dX5_brokenCount_12 (by decide) rfl rfl (fun c4 => ?_) (fun c4 => ?_)
      · refine lv_iload_n F.1 F.2.1 dX5_brokenCount_39 rfl (lv_at hl 1 rfl) ?_
        exact a_reti F hr hlocks hP hD hS dX5_brokenCount_40 ⟨hR, hF⟩
      · refine lv_iload_n F.1 F.2.1 dX5_brokenCount_15 rfl (lv_at hl 1 rfl) ?_
        refine lv_aload_n F.1 F.2.1 dX5_brokenCount_16 rfl (lv_at hl 0 rfl) ?_
        refine lv_iload_n F.1 F.2.1 dX5_brokenCount_17 rfl (lv_at hl 2 rfl) ?_
        refine a_ic F (0 : Int32) dX5_brokenCount_18 (by decide) ?_
        refine a_Vi F hml hl.1 hA hP hD hS (As := [.int x2, .int (0 : Int32)]) (c_X5_brokenDay_29 l dC dI ad cA nF _ x2 (0 : Int32) hR (by omega) (by decide)) (cs_RX5_87 (d := 5) F.2.2.1 (by decide)) tc_29 rfl rfl rfl rfl (Nat.le_of_ble_eq_true rfl) dX5_brokenCount_19 ⟨Nat.le_refl 0, Nat.le_refl 0⟩ (fun r5 u5 H locs hq hP hD hS => ?_)
        obtain ⟨hR, hF5, gr5⟩ := hq
        have hF := hF.tr hF5 (by decide)
        refine a_ic F (-1 : Int32) dX5_brokenCount_22 (by decide) ?_
        refine b_eq F 30 dX5_brokenCount_23 (by decide) rfl ic_m1 (fun c6 => ?_) (fun c6 => ?_)
        · refine a_ic F (0 : Int32) dX5_brokenCount_30 (by decide) ?_
          exact L31 x2 x1 (0 : Int32) _ _ _ _ hR hF (by omega) (by decide) (i_trB (hF5 4 6 rfl) (by omega : (1 : Int) ≤ (u.1 4 6).toInt ∧ (u.1 4 6).toInt ≤ 8)) (by omega) hP hD hS (lv_sub hl [0, 2] rfl)
        · refine a_ic F (1 : Int32) dX5_brokenCount_26 (by decide) ?_
          refine lv_goto (tgt := 31) F.1 F.2.1 dX5_brokenCount_27 (by decide) ?_
          exact L31 x2 x1 (1 : Int32) _ _ _ _ hR hF (by omega) (by decide) (i_trB (hF5 4 6 rfl) (by omega : (1 : Int) ≤ (u.1 4 6).toInt ∧ (u.1 4 6).toInt ≤ 8)) (by omega) hP hD hS (lv_sub hl [0, 2] rfl)
  refine a_ic F (0 : Int32) dX5_brokenCount_0 (by decide) ?_
  refine lv_istore_n (lv' := [(1, .int (0 : Int32)), (0, .ref (ad 29))]) F.1 F.2.1 dX5_brokenCount_1 rfl hl (by decide) rfl (fun ls hl => ?_)
  refine a_ic F (0 : Int32) dX5_brokenCount_2 (by decide) ?_
  refine lv_istore_n (lv' := [(2, .int (0 : Int32)), (1, .int (0 : Int32)), (0, .ref (ad 29))]) F.1 F.2.1 dX5_brokenCount_3 rfl hl (by decide) rfl (fun ls hl => ?_)
  exact L4 10 (0 : Int32) (0 : Int32) _ _ _ _ hR hF (by decide) (by decide) hP hD hS (lv_sub hl [2, 1, 0] rfl)
set_option maxHeartbeats 600000 in
set_option maxRecDepth 100000 in
theorem c_J7_fill_53178_31 (l : Launch) (dC : Nat → ClassId) (dI : Nat → Nat → Nat) (ad : Nat → Nat) (cA : Nat → ClassId) (nF : Nat) (u0 : ac_U) (p1 : Int32) (hR : ac_R rg u0) (hp1 : (0 : Int) ≤ p1.toInt ∧ p1.toInt ≤ 0) : ac_Mv l yJ7_fill_53178 (.code yJ7_fill_53178 cJ7_fill_53178 4 none :: TB) 1 (dC, dI) vwCl (ac_ty cA) ad cA (TT nF) [.ref (ad 31), .int p1] u0 (fun (u : ac_U) => ac_R rg u ∧ ac_Fr [(31, none)] u0 u) := by
  refine ac_Mv.of (cc := cJ7_fill_53178) (maxL := 4) (ret := none) (by decide) rfl (Nat.le_of_ble_eq_true rfl) ?_
  intro p e s m below meth c A ls F hml hr hlocks hA hP hD hS hl
  have F : ac_X p s m [.ref (ad 31), .int p1].toArray c cJ7_fill_53178 RJ7 TB (dC, dI) vwCl (ac_ty cA) := ⟨F.1, F.2.1, fun w h => F.2.2.1 w (List.mem_cons_of_mem _ h), F.2.2.2.1, F.2.2.2.2⟩
  have hl : lv_has ls 4 [(0, .ref (ad 31)), (1, .int p1)] := hl
  have hF : ac_Fr [(31, none)] u0 u0 := ac_Fr.rf
  have L5 : ∀ (n5 : Nat) (x2 : Int32) (x3 : Int32) (u : ac_U) (H : Heap) (locs : List Loc) (ls : Array Slot), ac_R rg u → ac_Fr [(31, none)] u0 u → 20 - x2.toInt < (n5 : Int) → (0 : Int) ≤ x2.toInt ∧ x2.toInt ≤ 20 → (20 : Int) ≤ x3.toInt ∧ x3.toInt ≤ 20 → va_P (dC, dI) vwCl (ac_w ad cA (TT nF) u) H → va_D A (ac_w ad cA (TT nF) u) → va_S A s.heap H locs → lv_has ls 4 [(0, .ref (ad 31)), (1, .int p1), (2, .int x2), (3, .int x3)] → W p l e (ac_rm 1) s m [.ref (ad 31), .int p1].toArray below meth c H locs 0 0 (MQ below (va_Qv (fun (u : ac_U) => ac_R rg u ∧ ac_Fr [(31, none)] u0 u) (ac_B (dC, dI) vwCl (ac_ty cA) ad cA (TT nF) A) A) [.ref (ad 31), .int p1].toArray s 0 0 A) (F0 m 5 ls []) := by
    intro n5
    induction n5 with
    | zero => intro x2 x3 u H locs ls hR hF hn5 f0 f1 hP hD hS hl; exfalso; omega
    | succ n5 ih5 =>
      intro x2 x3 u H locs ls hR hF hn5 f0 f1 hP hD hS hl
      refine lv_iload_n F.1 F.2.1 dJ7_fill_53178_5 rfl (lv_at hl 2 rfl) ?_
      refine lv_iload_n F.1 F.2.1 dJ7_fill_53178_6 rfl (lv_at hl 3 rfl) ?_
      refine b_ge F 20 dJ7_fill_53178_7 (by decide) rfl rfl (fun c1 => ?_) (fun c1 => ?_)
      · exact a_retv F hr hlocks hP hD hS dJ7_fill_53178_20 ⟨hR, hF⟩
      · refine lv_aload_n F.1 F.2.1 dJ7_fill_53178_10 rfl (lv_at hl 0 rfl) ?_
        refine lv_iload_n F.1 F.2.1 dJ7_fill_53178_11 rfl (lv_at hl 2 rfl) ?_
        refine lv_iload_n F.1 F.2.1 dJ7_fill_53178_12 rfl (lv_at hl 1 rfl) ?_
        refine a_iast F hP hD hS 31 tc_31 rfl (i_in rfl (by omega)) dJ7_fill_53178_13 (fun H locs hP hD hS => ?_)
        have hR := hR.si (c := 31) (k := x2.toNatClampNeg) (v := p1) ⟨i_lo _, i_hi _⟩
        have hF := hF.si (c := 31) (k := x2.toNatClampNeg) (v := p1) rfl
        refine a_iinc F (k := 2) (fun v2 => [(2, .int v2), (0, .ref (ad 31)), (1, .int p1), (3, .int x3)]) dJ7_fill_53178_14 hl rfl rfl (by decide) (by omega) (by decide) (fun _ => rfl) (fun v2 ls hv2 hl => ?_)
        refine lv_goto (tgt := 5) F.1 F.2.1 dJ7_fill_53178_17 (by decide) ?_
        exact ih5 v2 x3 _ _ _ _ hR hF (by omega) (by omega) (by omega) hP hD hS (lv_sub hl [1, 2, 0, 3] rfl)
  refine a_ic F (0 : Int32) dJ7_fill_53178_0 (by decide) ?_
  refine lv_istore_n (lv' := [(2, .int (0 : Int32)), (0, .ref (ad 31)), (1, .int p1)]) F.1 F.2.1 dJ7_fill_53178_1 rfl hl (by decide) rfl (fun ls hl => ?_)
  refine lv_aload_n F.1 F.2.1 dJ7_fill_53178_2 rfl (lv_at hl 1 rfl) ?_
  refine va_alen (v := (20 : Int32)) F.1 F.2.1 F.2.2.2.2 hP 31 0 (ac_at tc_31) rfl rfl dJ7_fill_53178_3 ?_
  refine lv_istore_n (lv' := [(3, .int (20 : Int32)), (2, .int (0 : Int32)), (0, .ref (ad 31)), (1, .int p1)]) F.1 F.2.1 dJ7_fill_53178_4 rfl hl (by decide) rfl (fun ls hl => ?_)
  exact L5 22 (0 : Int32) (20 : Int32) _ _ _ _ hR hF (by decide) (by decide) (by decide) hP hD hS (lv_sub hl [2, 3, 1, 0] rfl)
set_option maxHeartbeats 600000 in
set_option maxRecDepth 100000 in
theorem c_X5_gatherHours_29 (l : Launch) (dC : Nat → ClassId) (dI : Nat → Nat → Nat) (ad : Nat → Nat) (cA : Nat → ClassId) (nF : Nat) (u0 : ac_U) (p0 : Int32) (p1 : Int32) (p2 : Int32) (hR : ac_R rg u0) (hp0 : (0 : Int) ≤ p0.toInt ∧ p0.toInt ≤ 3) (hp1 : (0 : Int) ≤ p1.toInt ∧ p1.toInt ≤ 5) (hp2 : (0 : Int) ≤ p2.toInt ∧ p2.toInt ≤ 7) : ac_Mv l yX5_gatherHours (.code yX5_gatherHours cX5_gatherHours 7 none :: TB) 2 (dC, dI) vwCl (ac_ty cA) ad cA (TT nF) [.ref (ad 29), .int p0, .int p1, .int p2] u0 (fun (u : ac_U) => ac_R rg u ∧ ac_Fr [(31, none)] u0 u) := by
  refine ac_Mv.of (cc := cX5_gatherHours) (maxL := 7) (ret := none) (by decide) rfl (Nat.le_of_ble_eq_true rfl) ?_
  intro p e s m below meth c A ls F hml hr hlocks hA hP hD hS hl
  have F : ac_X p s m [.ref (ad 29), .int p0, .int p1, .int p2].toArray c cX5_gatherHours RX5 TB (dC, dI) vwCl (ac_ty cA) := ⟨F.1, F.2.1, fun w h => F.2.2.1 w (List.mem_cons_of_mem _ h), F.2.2.2.1, F.2.2.2.2⟩
  have hl : lv_has ls 7 [(0, .ref (ad 29)), (1, .int p0), (2, .int p1), (3, .int p2)] := hl
  have hF : ac_Fr [(31, none)] u0 u0 := ac_Fr.rf
  have L11 : ∀ (n11 : Nat) (x4 : Int32) (u : ac_U) (H : Heap) (locs : List Loc) (ls : Array Slot), ac_R rg u → ac_Fr [(31, none)] u0 u → 80 - x4.toInt < (n11 : Int) → (0 : Int) ≤ x4.toInt ∧ x4.toInt ≤ 80 → va_P (dC, dI) vwCl (ac_w ad cA (TT nF) u) H → va_D A (ac_w ad cA (TT nF) u) → va_S A s.heap H locs → lv_has ls 7 [(0, .ref (ad 29)), (1, .int p0), (2, .int p1), (3, .int p2), (4, .int x4)] → W p l e (ac_rm 2) s m [.ref (ad 29), .int p0, .int p1, .int p2].toArray below meth c H locs 0 0 (MQ below (va_Qv (fun (u : ac_U) => ac_R rg u ∧ ac_Fr [(31, none)] u0 u) (ac_B (dC, dI) vwCl (ac_ty cA) ad cA (TT nF) A) A) [.ref (ad 29), .int p0, .int p1, .int p2].toArray s 0 0 A) (F0 m 11 ls []) := by
    intro n11
    induction n11 with
    | zero => intro x4 u H locs ls hR hF hn11 f0 hP hD hS hl; exfalso; omega
    | succ n11 ih11 =>
      intro x4 u H locs ls hR hF hn11 f0 hP hD hS hl
      have L123 : ∀ (x4 : Int32) (u : ac_U) (H : Heap) (locs : List Loc) (ls : Array Slot), ac_R rg u → ac_Fr [(31, none)] u0 u → (0 : Int) ≤ x4.toInt ∧ x4.toInt ≤ 79 → (1 : Int) ≤ (u.1 25 2).toInt ∧ (u.1 25 2).toInt ≤ 80 → 80 - x4.toInt + 0 < ((n11 : Nat) : Int) + 1 → va_P (dC, dI) vwCl (ac_w ad cA (TT nF) u) H → va_D A (ac_w ad cA (TT nF) u) → va_S A s.heap H locs → lv_has ls 7 [(0, .ref (ad 29)), (1, .int p0), (2, .int p1), (3, .int p2), (4, .int x4)] → W p l e (ac_rm 2) s m [.ref (ad 29), .int p0, .int p1, .int p2].toArray below meth c H locs 0 0 (MQ below (va_Qv (fun (u : ac_U) => ac_R rg u ∧ ac_Fr [(31, none)] u0 u) (ac_B (dC, dI) vwCl (ac_ty cA) ad cA (TT nF) A) A) [.ref (ad 29), .int p0, .int p1, .int p2].toArray s 0 0 A) (F0 m 123 ls []) := by
        intro x4 u H locs ls hR hF f0 f1 f2 hP hD hS hl
        refine a_iinc F (k := 4) (fun v1 => [(4, .int v1), (0, .ref (ad 29)), (1, .int p0), (2, .int p1), (3, .int p2)]) dX5_gatherHours_123 hl rfl rfl (by decide) (by omega) (by decide) (fun _ => rfl) (fun v1 ls hv1 hl => ?_)
        refine lv_goto (tgt := 11) F.1 F.2.1 dX5_gatherHours_126 (by decide) ?_
        exact ih11 v1 _ _ _ _ hR hF (by omega) (by omega) hP hD hS (lv_sub hl [1, 2, 3, 4, 0] rfl)
      refine lv_iload F.1 F.2.1 dX5_gatherHours_11 (lv_at hl 4 rfl) ?_
      refine lv_aload_n F.1 F.2.1 dX5_gatherHours_13 rfl (lv_at hl 0 rfl) ?_
      refine a_getr F inX5 hP 29 1 tc_29 rfl rfl (by decide) q307 (fun _ h9 => h9) dX5_gatherHours_14 ?_
      refine a_getr F inX6 hP 24 1 tc_24 rfl rfl (by decide) q274 (fun _ h9 => h9) dX5_gatherHours_17 ?_
      refine a_ic F (2 : Int32) dX5_gatherHours_20 (by decide) ?_
      have g2 : (0 : Int) ≤ (u.1 25 2).toInt ∧ (u.1 25 2).toInt ≤ 80 := hR 25 2
      refine a_ialdK F hP 25 2 tc_25 rfl rfl (i_in ic_2 (by omega)) (v := (u.1 25 2)) rfl dX5_gatherHours_21 ?_
      refine b_ge F 129 dX5_gatherHours_22 (by decide) rfl rfl (fun c3 => ?_) (fun c3 => ?_)
      · exact a_retv F hr hlocks hP hD hS dX5_gatherHours_129 ⟨hR, hF⟩
      · refine lv_aload_n F.1 F.2.1 dX5_gatherHours_25 rfl (lv_at hl 0 rfl) ?_
        refine a_getr F inX5 hP 29 1 tc_29 rfl rfl (by decide) q307 (fun _ h9 => h9) dX5_gatherHours_26 ?_
        refine lv_iload F.1 F.2.1 dX5_gatherHours_29 (lv_at hl 4 rfl) ?_
        refine a_ic F (0 : Int32) dX5_gatherHours_31 (by decide) ?_
        refine a_Vi F hml hl.1 hA hP hD hS (As := [.int x4, .int (0 : Int32)]) (c_X6_mark_24 l dC dI ad cA nF _ x4 (0 : Int32) hR (by omega) (by decide)) (cs_RX5_68 (d := 1) F.2.2.1 (by decide)) tc_24 rfl rfl rfl rfl (Nat.le_of_ble_eq_true rfl) dX5_gatherHours_32 ⟨Nat.le_refl 0, Nat.le_refl 0⟩ (fun r4 uN4 H locs hq hP hD hS => ?_)
        obtain ⟨hu4, xr4⟩ := hq
        rw [hu4] at hP hD
        have xr4 : (0 : Int) = 0 → 0 ≤ r4.toInt ∧ r4.toInt ≤ 480 := xr4
        refine lv_istore (lv' := [(5, .int r4), (0, .ref (ad 29)), (1, .int p0), (2, .int p1), (3, .int p2), (4, .int x4)]) F.1 F.2.1 dX5_gatherHours_35 hl (by decide) rfl (fun ls hl => ?_)
        refine lv_aload_n F.1 F.2.1 dX5_gatherHours_37 rfl (lv_at hl 1 rfl) ?_
        refine a_getr F inX5 hP 29 0 tc_29 rfl rfl (by decide) q306 (fun _ h9 => h9) dX5_gatherHours_38 ?_
        refine lv_iload F.1 F.2.1 dX5_gatherHours_41 (lv_at hl 0 rfl) ?_
        refine a_Vi F hml hl.1 hA hP hD hS (As := [.int r4]) (c_X2_dayOf_4 l dC dI ad cA nF _ r4 hR (by omega)) (cs_RX5_55 (d := 1) F.2.2.1 (by decide)) tc_4 rfl rfl rfl rfl (Nat.le_of_ble_eq_true rfl) dX5_gatherHours_43 ⟨Nat.le_refl 0, Nat.le_refl 0⟩ (fun r5 uN5 H locs hq hP hD hS => ?_)
        obtain ⟨hu5, gr5, xr5⟩ := hq
        rw [hu5] at hP hD
        have g6 : (4 : Int) ≤ (u.1 4 0).toInt ∧ (u.1 4 0).toInt ≤ 24 := hR 4 0
        have xr5 : 0 ≤ r4.toInt → r4.toInt < 20 * (u.1 4 0).toInt → r5.toInt < 20 := xr5
        refine lv_istore (lv' := [(6, .int r5), (5, .int r4), (0, .ref (ad 29)), (1, .int p0), (2, .int p1), (3, .int p2), (4, .int x4)]) F.1 F.2.1 dX5_gatherHours_46 hl (by decide) rfl (fun ls hl => ?_)
        refine lv_aload_n F.1 F.2.1 dX5_gatherHours_48 rfl (lv_at hl 2 rfl) ?_
        refine a_getr F inX5 hP 29 1 tc_29 rfl rfl (by decide) q307 (fun _ h9 => h9) dX5_gatherHours_49 ?_
        refine lv_iload F.1 F.2.1 dX5_gatherHours_52 (lv_at hl 6 rfl) ?_
        refine a_ic F (1 : Int32) dX5_gatherHours_54 (by decide) ?_
        refine a_Vi F hml hl.1 hA hP hD hS (As := [.int x4, .int (1 : Int32)]) (c_X6_mark_24 l dC dI ad cA nF _ x4 (1 : Int32) hR (by omega) (by decide)) (cs_RX5_68 (d := 1) F.2.2.1 (by decide)) tc_24 rfl rfl rfl rfl (Nat.le_of_ble_eq_true rfl) dX5_gatherHours_55 ⟨Nat.le_refl 0, Nat.le_refl 0⟩ (fun r7 uN7 H locs hq hP hD hS => ?_)
        obtain ⟨hu7, xr7⟩ := hq
        rw [hu7] at hP hD
        have xr7 : (1 : Int) = 0 → 0 ≤ r7.toInt ∧ r7.toInt ≤ 480 := xr7
        refine lv_iload_n F.1 F.2.1 dX5_gatherHours_58 rfl (lv_at hl 3 rfl) ?_
        refine b_ne F 123 dX5_gatherHours_59 (by decide) rfl rfl (fun c8 => ?_) (fun c8 => ?_)
        · exact L123 x4 _ _ _ _ hR hF (by omega) (by omega : (1 : Int) ≤ (u.1 25 2).toInt ∧ (u.1 25 2).toInt ≤ 80) (by omega) hP hD hS (lv_sub hl [2, 3, 4, 5, 6] rfl)
        · refine lv_aload_n F.1 F.2.1 dX5_gatherHours_62 rfl (lv_at hl 2 rfl) ?_
          refine a_getr F inX5 hP 29 1 tc_29 rfl rfl (by decide) q307 (fun _ h9 => h9) dX5_gatherHours_63 ?_
          refine lv_iload F.1 F.2.1 dX5_gatherHours_66 (lv_at hl 6 rfl) ?_
          refine a_ic F (2 : Int32) dX5_gatherHours_68 (by decide) ?_
          refine a_Vi F hml hl.1 hA hP hD hS (As := [.int x4, .int (2 : Int32)]) (c_X6_mark_24 l dC dI ad cA nF _ x4 (2 : Int32) hR (by omega) (by decide)) (cs_RX5_68 (d := 1) F.2.2.1 (by decide)) tc_24 rfl rfl rfl rfl (Nat.le_of_ble_eq_true rfl) dX5_gatherHours_69 ⟨Nat.le_refl 0, Nat.le_refl 0⟩ (fun r9 uN9 H locs hq hP hD hS => ?_)
          obtain ⟨hu9, xr9⟩ := hq
          rw [hu9] at hP hD
          have xr9 : (2 : Int) = 0 → 0 ≤ r9.toInt ∧ r9.toInt ≤ 480 := xr9
          refine lv_iload_n F.1 F.2.1 dX5_gatherHours_72 rfl (lv_at hl 4 rfl) ?_
          refine b_ne F 123 dX5_gatherHours_73 (by decide) rfl rfl (fun c10 => ?_) (fun c10 => ?_)
          · exact L123 x4 _ _ _ _ hR hF (by omega) (by omega : (1 : Int) ≤ (u.1 25 2).toInt ∧ (u.1 25 2).toInt ≤ 80) (by omega) hP hD hS (lv_sub hl [2, 3, 4, 5, 6] rfl)
          · refine lv_aload_n F.1 F.2.1 dX5_gatherHours_76 rfl (lv_at hl 2 rfl) ?_
            refine a_getr F inX5 hP 29 1 tc_29 rfl rfl (by decide) q307 (fun _ h9 => h9) dX5_gatherHours_77 ?_
            refine lv_iload F.1 F.2.1 dX5_gatherHours_80 (lv_at hl 6 rfl) ?_
            refine a_ic F (3 : Int32) dX5_gatherHours_82 (by decide) ?_
            refine a_Vi F hml hl.1 hA hP hD hS (As := [.int x4, .int (3 : Int32)]) (c_X6_mark_24 l dC dI ad cA nF _ x4 (3 : Int32) hR (by omega) (by decide)) (cs_RX5_68 (d := 1) F.2.2.1 (by decide)) tc_24 rfl rfl rfl rfl (Nat.le_of_ble_eq_true rfl) dX5_gatherHours_83 ⟨Nat.le_refl 0, Nat.le_refl 0⟩ (fun r11 uN11 H locs hq hP hD hS => ?_)
            obtain ⟨hu11, xr11⟩ := hq
            rw [hu11] at hP hD
            have xr11 : (3 : Int) = 0 → 0 ≤ r11.toInt ∧ r11.toInt ≤ 480 := xr11
            refine lv_iload_n F.1 F.2.1 dX5_gatherHours_86 rfl (lv_at hl 5 rfl) ?_
            refine b_ne F 123 dX5_gatherHours_87 (by decide) rfl rfl (fun c12 => ?_) (fun c12 => ?_)
            · exact L123 x4 _ _ _ _ hR hF (by omega) (by omega : (1 : Int) ≤ (u.1 25 2).toInt ∧ (u.1 25 2).toInt ≤ 80) (by omega) hP hD hS (lv_sub hl [2, 3, 4, 5, 6] rfl)
            · refine lv_iload F.1 F.2.1 dX5_gatherHours_90 (lv_at hl 0 rfl) ?_
              refine z_lt F 123 dX5_gatherHours_92 (by decide) rfl (fun c13 => ?_) (fun c13 => ?_)
              · exfalso; omega
              · refine lv_iload F.1 F.2.1 dX5_gatherHours_95 (lv_at hl 0 rfl) ?_
                refine a_bp F (20 : Int32) dX5_gatherHours_97 (by decide) ?_
                refine b_ge F 123 dX5_gatherHours_99 (by decide) rfl ic_20 (fun c14 => ?_) (fun c14 => ?_)
                · exact L123 x4 _ _ _ _ hR hF (by omega) (by omega : (1 : Int) ≤ (u.1 25 2).toInt ∧ (u.1 25 2).toInt ≤ 80) (by omega) hP hD hS (lv_sub hl [2, 3, 4, 5, 6] rfl)
                · refine lv_aload_n F.1 F.2.1 dX5_gatherHours_102 rfl (lv_at hl 2 rfl) ?_
                  refine a_getr F inX5 hP 29 3 tc_29 rfl rfl (by decide) q309 (fun _ h9 => h9) dX5_gatherHours_103 ?_
                  refine lv_iload F.1 F.2.1 dX5_gatherHours_106 (lv_at hl 0 rfl) ?_
                  refine lv_dup2_11 F.1 F.2.1 dX5_gatherHours_108 rfl rfl ?_
                  refine a_iald F hP 31 tc_31 rfl (i_in rfl (by omega)) dX5_gatherHours_109 (fun v15 ev15 => ?_)
                  refine a_ic F (1 : Int32) dX5_gatherHours_110 (by decide) ?_
                  refine lv_aload_n F.1 F.2.1 dX5_gatherHours_111 rfl (lv_at hl 2 rfl) ?_
                  refine a_getr F inX5 hP 29 0 tc_29 rfl rfl (by decide) q306 (fun _ h9 => h9) dX5_gatherHours_112 ?_
                  refine lv_iload F.1 F.2.1 dX5_gatherHours_115 (lv_at hl 1 rfl) ?_
                  refine a_Vi F hml hl.1 hA hP hD hS (As := [.int r4]) (c_X2_hourOf_4 l dC dI ad cA nF _ r4 hR (by omega)) (cs_RX5_59 (d := 1) F.2.2.1 (by decide)) tc_4 rfl rfl rfl rfl (Nat.le_of_ble_eq_true rfl) dX5_gatherHours_117 ⟨Nat.le_refl 0, Nat.le_refl 0⟩ (fun r16 uN16 H locs hq hP hD hS => ?_)
                  obtain ⟨hu16, gr16, xr16⟩ := hq
                  rw [hu16] at hP hD
                  have xr16 : 0 ≤ r4.toInt → 0 ≤ r16.toInt := xr16
                  refine a_ishl1 F dX5_gatherHours_120 rfl (lo := 0) (hi := 23) (by omega) (by decide) (fun v17 hv17 => ?_)
                  have hv17 : (1 : Int) ≤ v17.toInt ∧ v17.toInt ≤ 8388608 := hv17
                  refine a_iorU F dX5_gatherHours_121 (fun v18 => ?_)
                  refine a_iast F hP hD hS 31 tc_31 rfl (i_in rfl (by omega)) dX5_gatherHours_122 (fun H locs hP hD hS => ?_)
                  have hR := hR.si (c := 31) (k := r5.toNatClampNeg) (v := v18) ⟨i_lo _, i_hi _⟩
                  have hF := hF.si (c := 31) (k := r5.toNatClampNeg) (v := v18) rfl
                  exact L123 x4 _ _ _ _ hR hF (by omega) (by omega : (1 : Int) ≤ (u.1 25 2).toInt ∧ (u.1 25 2).toInt ≤ 80) (by omega) hP hD hS (lv_sub hl [2, 3, 4, 5, 6] rfl)
  refine lv_aload_n F.1 F.2.1 dX5_gatherHours_0 rfl (lv_at hl 0 rfl) ?_
  refine a_getr F inX5 hP 29 3 tc_29 rfl rfl (by decide) q309 (fun _ h9 => h9) dX5_gatherHours_1 ?_
  refine a_ic F (0 : Int32) dX5_gatherHours_4 (by decide) ?_
  refine a_Sv F hml hl.1 hA hP hD hS (As := [.ref (ad 31), .int (0 : Int32)]) (c_J7_fill_53178_31 l dC dI ad cA nF _ (0 : Int32) hR (by decide)) (cs_RX5_62 (d := 1) F.2.2.1 (by decide)) rfl rfl (Nat.le_of_ble_eq_true rfl) dX5_gatherHours_5 ⟨Nat.le_refl 0, Nat.le_refl 0⟩ (fun u19 H locs hq hP hD hS => ?_)
  obtain ⟨hR, hF19⟩ := hq
  have hF := hF.tr hF19 (by decide)
  refine a_ic F (0 : Int32) dX5_gatherHours_8 (by decide) ?_
  refine lv_istore (lv' := [(4, .int (0 : Int32)), (0, .ref (ad 29)), (1, .int p0), (2, .int p1), (3, .int p2)]) F.1 F.2.1 dX5_gatherHours_9 hl (by decide) rfl (fun ls hl => ?_)
  exact L11 82 (0 : Int32) _ _ _ _ hR hF (by decide) (by decide) hP hD hS (lv_sub hl [1, 2, 3, 4, 0] rfl)
set_option maxHeartbeats 600000 in
set_option maxRecDepth 100000 in
theorem c_X5_isFitting_29 (l : Launch) (dC : Nat → ClassId) (dI : Nat → Nat → Nat) (ad : Nat → Nat) (cA : Nat → ClassId) (nF : Nat) (u0 : ac_U) (p0 : Int32) (p1 : Int32) (hR : ac_R rg u0) (hp0 : (0 : Int) ≤ p0.toInt ∧ p0.toInt ≤ 24) (hp1 : (0 : Int) ≤ p1.toInt ∧ p1.toInt ≤ 79) : ac_Mi l yX5_isFitting (.code yX5_isFitting cX5_isFitting 6 (some .boolean) :: TB) 2 (dC, dI) vwCl (ac_ty cA) ad cA (TT nF) [.ref (ad 29), .int p0, .int p1] u0 (fun (r : Int32) (u : ac_U) => u = u0 ∧ ((0 : Int) ≤ r.toInt ∧ r.toInt ≤ 1)) := by
  refine ac_Mi.of (cc := cX5_isFitting) (maxL := 6) (ret := (some .boolean)) (by decide) rfl (Nat.le_of_ble_eq_true rfl) ?_
  intro p e s m below meth c A ls F hml hr hlocks hA hP hD hS hl
  have F : ac_X p s m [.ref (ad 29), .int p0, .int p1].toArray c cX5_isFitting RX5 TB (dC, dI) vwCl (ac_ty cA) := ⟨F.1, F.2.1, fun w h => F.2.2.1 w (List.mem_cons_of_mem _ h), F.2.2.2.1, F.2.2.2.2⟩
  have hl : lv_has ls 6 [(0, .ref (ad 29)), (1, .int p0), (2, .int p1)] := hl
  have L36 : ∀ (n36 : Nat) (x3 : Int32) (x4 : Int32) (x5 : Int32) (H : Heap) (locs : List Loc) (ls : Array Slot), 20 - x5.toInt < (n36 : Int) → (0 : Int) ≤ x4.toInt ∧ x4.toInt ≤ 20 → (0 : Int) ≤ x5.toInt ∧ x5.toInt ≤ 20 → va_P (dC, dI) vwCl (ac_w ad cA (TT nF) u0) H → va_D A (ac_w ad cA (TT nF) u0) → va_S A s.heap H locs → lv_has ls 6 [(0, .ref (ad 29)), (3, .int x3), (4, .int x4), (5, .int x5)] → W p l e (ac_rm 2) s m [.ref (ad 29), .int p0, .int p1].toArray below meth c H locs 0 0 (MQ below (va_Qi (fun (r : Int32) (u : ac_U) => u = u0 ∧ ((0 : Int) ≤ r.toInt ∧ r.toInt ≤ 1)) (ac_B (dC, dI) vwCl (ac_ty cA) ad cA (TT nF) A) A) [.ref (ad 29), .int p0, .int p1].toArray s 0 0 A) (F0 m 36 ls []) := by
    intro n36
    induction n36 with
    | zero => intro x3 x4 x5 H locs ls hn36 f0 f1 hP hD hS hl; exfalso; omega
    | succ n36 ih36 =>
      intro x3 x4 x5 H locs ls hn36 f0 f1 hP hD hS hl
      refine lv_iload F.1 F.2.1 dX5_isFitting_36 (lv_at hl 3 rfl) ?_
      refine lv_iload F.1 F.2.1 dX5_isFitting_38 (lv_at hl 2 rfl) ?_
      refine b_ge F 63 dX5_isFitting_40 (by decide) rfl rfl (fun c1 => ?_) (fun c1 => ?_)
      · refine a_ic F (1 : Int32) dX5_isFitting_63 (by decide) ?_
        exact a_retz F hr hlocks hP hD hS dX5_isFitting_64 (Or.inr rfl) ⟨rfl, (by decide)⟩
      · refine lv_aload_n F.1 F.2.1 dX5_isFitting_43 rfl (lv_at hl 0 rfl) ?_
        refine a_getr F inX5 hP 29 3 tc_29 rfl rfl (by decide) q309 (fun _ h9 => h9) dX5_isFitting_44 ?_
        refine lv_iload F.1 F.2.1 dX5_isFitting_47 (lv_at hl 3 rfl) ?_
        refine a_iald F hP 31 tc_31 rfl (i_in rfl (by omega)) dX5_isFitting_49 (fun v2 ev2 => ?_)
        refine lv_iload_n F.1 F.2.1 dX5_isFitting_50 rfl (lv_at hl 1 rfl) ?_
        refine a_iandU F dX5_isFitting_51 (fun v3 => ?_)
        refine z_ne F 57 dX5_isFitting_52 (by decide) rfl (fun c4 => ?_) (fun c4 => ?_)
        · refine a_iinc F (k := 3) (fun v5 => [(5, .int v5), (0, .ref (ad 29)), (3, .int x3), (4, .int x4)]) dX5_isFitting_57 hl rfl rfl (by decide) (by omega) (by decide) (fun _ => rfl) (fun v5 ls hv5 hl => ?_)
          refine lv_goto (tgt := 36) F.1 F.2.1 dX5_isFitting_60 (by decide) ?_
          exact ih36 x3 x4 v5 _ _ _ (by omega) (by omega) (by omega) hP hD hS (lv_sub hl [1, 2, 3, 0] rfl)
        · refine a_ic F (0 : Int32) dX5_isFitting_55 (by decide) ?_
          exact a_retz F hr hlocks hP hD hS dX5_isFitting_56 (Or.inl rfl) ⟨rfl, (by decide)⟩
  refine a_ic F (1 : Int32) dX5_isFitting_0 (by decide) ?_
  refine lv_iload_n F.1 F.2.1 dX5_isFitting_1 rfl (lv_at hl 2 rfl) ?_
  refine a_ic F (1 : Int32) dX5_isFitting_2 (by decide) ?_
  refine a_iadd F dX5_isFitting_3 rfl ic_1 (by omega) (fun v6 hv6 => ?_)
  refine a_ishlU F dX5_isFitting_4 (fun v7 => ?_)
  refine a_ic F (1 : Int32) dX5_isFitting_5 (by decide) ?_
  refine lv_iload_n F.1 F.2.1 dX5_isFitting_6 rfl (lv_at hl 1 rfl) ?_
  refine a_ishl1 F dX5_isFitting_7 rfl (lo := 0) (hi := 24) (by omega) (by decide) (fun v8 hv8 => ?_)
  have hv8 : (1 : Int) ≤ v8.toInt ∧ v8.toInt ≤ 16777216 := hv8
  refine a_isubU F dX5_isFitting_8 (fun v9 => ?_)
  refine lv_istore_n (lv' := [(3, .int v9), (0, .ref (ad 29)), (1, .int p0), (2, .int p1)]) F.1 F.2.1 dX5_isFitting_9 rfl hl (by decide) rfl (fun ls hl => ?_)
  refine a_bp F (20 : Int32) dX5_isFitting_10 (by decide) ?_
  refine lv_aload_n F.1 F.2.1 dX5_isFitting_12 rfl (lv_at hl 1 rfl) ?_
  refine a_getr F inX5 hP 29 0 tc_29 rfl rfl (by decide) q306 (fun _ h9 => h9) dX5_isFitting_13 ?_
  refine lv_aload_n F.1 F.2.1 dX5_isFitting_16 rfl (lv_at hl 1 rfl) ?_
  refine a_getr F inX5 hP 29 1 tc_29 rfl rfl (by decide) q307 (fun _ h9 => h9) dX5_isFitting_17 ?_
  refine a_getr F inX6 hP 24 1 tc_24 rfl rfl (by decide) q274 (fun _ h9 => h9) dX5_isFitting_20 ?_
  refine a_ic F (0 : Int32) dX5_isFitting_23 (by decide) ?_
  have g10 : (0 : Int) ≤ (u0.1 25 0).toInt ∧ (u0.1 25 0).toInt ≤ 480 := hR 25 0
  refine a_ialdK F hP 25 0 tc_25 rfl rfl (i_in ic_0 (by omega)) (v := (u0.1 25 0)) rfl dX5_isFitting_24 ?_
  refine a_Vi F hml hl.1 hA hP hD hS (As := [.int (u0.1 25 0)]) (c_X2_dayOf_4 l dC dI ad cA nF _ (u0.1 25 0) hR (by omega)) (cs_RX5_55 (d := 1) F.2.2.1 (by decide)) tc_4 rfl rfl rfl rfl (Nat.le_of_ble_eq_true rfl) dX5_isFitting_25 ⟨Nat.le_refl 0, Nat.le_refl 0⟩ (fun r11 uN11 H locs hq hP hD hS => ?_)
  obtain ⟨hu11, gr11, xr11⟩ := hq
  rw [hu11] at hP hD
  have g12 : (4 : Int) ≤ (u0.1 4 0).toInt ∧ (u0.1 4 0).toInt ≤ 24 := hR 4 0
  have xr11 : 0 ≤ (u0.1 25 0).toInt → (u0.1 25 0).toInt < 20 * (u0.1 4 0).toInt → r11.toInt < 20 := xr11
  refine va_mmin F.1 F.2.1 (hml.trans hl.1.symm) F.2.2.2.1 (F.2.2.1 _ q824) (F.2.2.1 _ q825) (F.2.2.1 _ q24) (F.2.2.1 _ q826) (by decide) (Nat.le_of_ble_eq_true rfl) (Nat.le_refl 0) (Nat.le_refl 0) dX5_isFitting_28 ?_
  refine lv_topi (fun v13 ev13 => ?_)
  have hv13 := i_min ic_20 rfl ev13
  refine lv_istore (lv' := [(4, .int v13), (3, .int v9), (0, .ref (ad 29)), (1, .int p0), (2, .int p1)]) F.1 F.2.1 dX5_isFitting_31 hl (by decide) rfl (fun ls hl => ?_)
  refine a_ic F (0 : Int32) dX5_isFitting_33 (by decide) ?_
  refine lv_istore (lv' := [(5, .int (0 : Int32)), (4, .int v13), (3, .int v9), (0, .ref (ad 29)), (1, .int p0), (2, .int p1)]) F.1 F.2.1 dX5_isFitting_34 hl (by decide) rfl (fun ls hl => ?_)
  exact L36 22 v9 v13 (0 : Int32) _ _ _ (by decide) (by omega) (by decide) hP hD hS (lv_sub hl [3, 2, 1, 0] rfl)
set_option maxHeartbeats 600000 in
set_option maxRecDepth 100000 in
theorem c_X5_fittingWindows_29 (l : Launch) (dC : Nat → ClassId) (dI : Nat → Nat → Nat) (ad : Nat → Nat) (cA : Nat → ClassId) (nF : Nat) (u0 : ac_U) (p0 : Int32) (p1 : Int32) (p2 : Int32) (hR : ac_R rg u0) (hp0 : (0 : Int) ≤ p0.toInt ∧ p0.toInt ≤ 3) (hp1 : (0 : Int) ≤ p1.toInt ∧ p1.toInt ≤ 5) (hp2 : (0 : Int) ≤ p2.toInt ∧ p2.toInt ≤ 7) : ac_Mi l yX5_fittingWindows (.code yX5_fittingWindows cX5_fittingWindows 7 (some .int) :: TB) 3 (dC, dI) vwCl (ac_ty cA) ad cA (TT nF) [.ref (ad 29), .int p0, .int p1, .int p2] u0 (fun (r : Int32) (u : ac_U) => ac_R rg u ∧ ac_Fr [(31, none)] u0 u) := by
  refine ac_Mi.of (cc := cX5_fittingWindows) (maxL := 7) (ret := (some .int)) (by decide) rfl (Nat.le_of_ble_eq_true rfl) ?_
  intro p e s m below meth c A ls F hml hr hlocks hA hP hD hS hl
  have F : ac_X p s m [.ref (ad 29), .int p0, .int p1, .int p2].toArray c cX5_fittingWindows RX5 TB (dC, dI) vwCl (ac_ty cA) := ⟨F.1, F.2.1, fun w h => F.2.2.1 w (List.mem_cons_of_mem _ h), F.2.2.2.1, F.2.2.2.2⟩
  have hl : lv_has ls 7 [(0, .ref (ad 29)), (1, .int p0), (2, .int p1), (3, .int p2)] := hl
  have hF : ac_Fr [(31, none)] u0 u0 := ac_Fr.rf
  have L13 : ∀ (n13 : Nat) (x4 : Int32) (x5 : Int32) (u : ac_U) (H : Heap) (locs : List Loc) (ls : Array Slot), ac_R rg u → ac_Fr [(31, none)] u0 u → 24 - x5.toInt < (n13 : Int) → (0 : Int) ≤ x5.toInt ∧ x5.toInt ≤ 24 → va_P (dC, dI) vwCl (ac_w ad cA (TT nF) u) H → va_D A (ac_w ad cA (TT nF) u) → va_S A s.heap H locs → lv_has ls 7 [(0, .ref (ad 29)), (4, .int x4), (5, .int x5)] → W p l e (ac_rm 3) s m [.ref (ad 29), .int p0, .int p1, .int p2].toArray below meth c H locs 0 0 (MQ below (va_Qi (fun (r : Int32) (u : ac_U) => ac_R rg u ∧ ac_Fr [(31, none)] u0 u) (ac_B (dC, dI) vwCl (ac_ty cA) ad cA (TT nF) A) A) [.ref (ad 29), .int p0, .int p1, .int p2].toArray s 0 0 A) (F0 m 13 ls []) := by
    intro n13
    induction n13 with
    | zero => intro x4 x5 u H locs ls hR hF hn13 f0 hP hD hS hl; exfalso; omega
    | succ n13 ih13 =>
      intro x4 x5 u H locs ls hR hF hn13 f0 hP hD hS hl
      have L29 : ∀ (n29 : Nat) (x4 : Int32) (x5 : Int32) (x6 : Int32) (u : ac_U) (H : Heap) (locs : List Loc) (ls : Array Slot), ac_R rg u → ac_Fr [(31, none)] u0 u → 24 - x6.toInt < (n29 : Int) → (0 : Int) ≤ x5.toInt ∧ x5.toInt ≤ 23 → (0 : Int) ≤ x6.toInt ∧ x6.toInt ≤ 24 → 24 - x5.toInt + 0 < ((n13 : Nat) : Int) + 1 → va_P (dC, dI) vwCl (ac_w ad cA (TT nF) u) H → va_D A (ac_w ad cA (TT nF) u) → va_S A s.heap H locs → lv_has ls 7 [(0, .ref (ad 29)), (4, .int x4), (5, .int x5), (6, .int x6)] → W p l e (ac_rm 3) s m [.ref (ad 29), .int p0, .int p1, .int p2].toArray below meth c H locs 0 0 (MQ below (va_Qi (fun (r : Int32) (u : ac_U) => ac_R rg u ∧ ac_Fr [(31, none)] u0 u) (ac_B (dC, dI) vwCl (ac_ty cA) ad cA (TT nF) A) A) [.ref (ad 29), .int p0, .int p1, .int p2].toArray s 0 0 A) (F0 m 29 ls []) := by
        intro n29
        induction n29 with
        | zero => intro x4 x5 x6 u H locs ls hR hF hn29 f0 f1 f2 hP hD hS hl; exfalso; omega
        | succ n29 ih29 =>
          intro x4 x5 x6 u H locs ls hR hF hn29 f0 f1 f2 hP hD hS hl
          have L59 : ∀ (x5 : Int32) (x6 : Int32) (z0 : Int32) (z1 : Int32) (u : ac_U) (H : Heap) (locs : List Loc) (ls : Array Slot), ac_R rg u → ac_Fr [(31, none)] u0 u → (0 : Int) ≤ x5.toInt ∧ x5.toInt ≤ 23 → (0 : Int) ≤ x6.toInt ∧ x6.toInt ≤ 23 → (0 : Int) ≤ z1.toInt ∧ z1.toInt ≤ 1 → 24 - x5.toInt + 0 < ((n13 : Nat) : Int) + 1 → 24 - x6.toInt + 0 < ((n29 : Nat) : Int) + 1 → va_P (dC, dI) vwCl (ac_w ad cA (TT nF) u) H → va_D A (ac_w ad cA (TT nF) u) → va_S A s.heap H locs → lv_has ls 7 [(0, .ref (ad 29)), (5, .int x5), (6, .int x6)] → W p l e (ac_rm 3) s m [.ref (ad 29), .int p0, .int p1, .int p2].toArray below meth c H locs 0 0 (MQ below (va_Qi (fun (r : Int32) (u : ac_U) => ac_R rg u ∧ ac_Fr [(31, none)] u0 u) (ac_B (dC, dI) vwCl (ac_ty cA) ad cA (TT nF) A) A) [.ref (ad 29), .int p0, .int p1, .int p2].toArray s 0 0 A) (F0 m 59 ls [.int z1, .int z0]) := by
            intro x5 x6 z0 z1 u H locs ls hR hF f0 f1 f2 f3 f4 hP hD hS hl
            refine a_iaddU F dX5_fittingWindows_59 (fun v1 => ?_)
            refine lv_istore (lv' := [(4, .int v1), (0, .ref (ad 29)), (5, .int x5), (6, .int x6)]) F.1 F.2.1 dX5_fittingWindows_60 hl (by decide) rfl (fun ls hl => ?_)
            refine a_iinc F (k := 3) (fun v2 => [(6, .int v2), (4, .int v1), (0, .ref (ad 29)), (5, .int x5)]) dX5_fittingWindows_62 hl rfl rfl (by decide) (by omega) (by decide) (fun _ => rfl) (fun v2 ls hv2 hl => ?_)
            refine lv_goto (tgt := 29) F.1 F.2.1 dX5_fittingWindows_65 (by decide) ?_
            exact ih29 v1 x5 v2 _ _ _ _ hR hF (by omega) (by omega) (by omega) (by omega) hP hD hS (lv_sub hl [2, 1, 3, 0] rfl)
          refine lv_iload F.1 F.2.1 dX5_fittingWindows_29 (lv_at hl 3 rfl) ?_
          refine lv_aload_n F.1 F.2.1 dX5_fittingWindows_31 rfl (lv_at hl 0 rfl) ?_
          refine a_getr F inX5 hP 29 0 tc_29 rfl rfl (by decide) q306 (fun _ h9 => h9) dX5_fittingWindows_32 ?_
          have g3 : (4 : Int) ≤ (u.1 4 0).toInt ∧ (u.1 4 0).toInt ≤ 24 := hR 4 0
          refine a_geti F inX2 hP 4 0 tc_4 rfl rfl (by decide) q152 (fun _ h9 => h9) (v := (u.1 4 0)) rfl dX5_fittingWindows_35 ?_
          refine b_ge F 68 dX5_fittingWindows_38 (by decide) rfl rfl (fun c4 => ?_) (fun c4 => ?_)
          · refine a_iinc F (k := 2) (fun v5 => [(5, .int v5), (0, .ref (ad 29)), (4, .int x4), (6, .int x6)]) dX5_fittingWindows_68 hl rfl rfl (by decide) (by omega) (by decide) (fun _ => rfl) (fun v5 ls hv5 hl => ?_)
            refine lv_goto (tgt := 13) F.1 F.2.1 dX5_fittingWindows_71 (by decide) ?_
            exact ih13 x4 v5 _ _ _ _ hR hF (by omega) (by omega) hP hD hS (lv_sub hl [1, 2, 0] rfl)
          · refine lv_iload F.1 F.2.1 dX5_fittingWindows_41 (lv_at hl 1 rfl) ?_
            refine lv_aload_n F.1 F.2.1 dX5_fittingWindows_43 rfl (lv_at hl 0 rfl) ?_
            refine lv_iload F.1 F.2.1 dX5_fittingWindows_44 (lv_at hl 2 rfl) ?_
            refine lv_iload F.1 F.2.1 dX5_fittingWindows_46 (lv_at hl 3 rfl) ?_
            refine a_Vi F hml hl.1 hA hP hD hS (As := [.int x5, .int x6]) (c_X5_isFitting_29 l dC dI ad cA nF _ x5 x6 hR (by omega) (by omega)) (cs_RX5_119 (d := 2) F.2.2.1 (by decide)) tc_29 rfl rfl rfl rfl (Nat.le_of_ble_eq_true rfl) dX5_fittingWindows_48 ⟨Nat.le_refl 0, Nat.le_refl 0⟩ (fun r6 uN6 H locs hq hP hD hS => ?_)
            obtain ⟨hu6, gr6⟩ := hq
            rw [hu6] at hP hD
            refine z_eq F 58 dX5_fittingWindows_51 (by decide) rfl (fun c7 => ?_) (fun c7 => ?_)
            · refine a_ic F (0 : Int32) dX5_fittingWindows_58 (by decide) ?_
              exact L59 x5 x6 x4 (0 : Int32) _ _ _ _ hR hF (by omega) (by omega) (by decide) (by omega) (by omega) hP hD hS (lv_sub hl [0, 2, 3] rfl)
            · refine a_ic F (1 : Int32) dX5_fittingWindows_54 (by decide) ?_
              refine lv_goto (tgt := 59) F.1 F.2.1 dX5_fittingWindows_55 (by decide) ?_
              exact L59 x5 x6 x4 (1 : Int32) _ _ _ _ hR hF (by omega) (by omega) (by decide) (by omega) (by omega) hP hD hS (lv_sub hl [0, 2, 3] rfl)
      refine lv_iload F.1 F.2.1 dX5_fittingWindows_13 (lv_at hl 2 rfl) ?_
      refine lv_aload_n F.1 F.2.1 dX5_fittingWindows_15 rfl (lv_at hl 0 rfl) ?_
      refine a_getr F inX5 hP 29 0 tc_29 rfl rfl (by decide) q306 (fun _ h9 => h9) dX5_fittingWindows_16 ?_
      have g8 : (4 : Int) ≤ (u.1 4 0).toInt ∧ (u.1 4 0).toInt ≤ 24 := hR 4 0
      refine a_geti F inX2 hP 4 0 tc_4 rfl rfl (by decide) q152 (fun _ h9 => h9) (v := (u.1 4 0)) rfl dX5_fittingWindows_19 ?_
      refine b_ge F 74 dX5_fittingWindows_22 (by decide) rfl rfl (fun c9 => ?_) (fun c9 => ?_)
      · refine lv_iload F.1 F.2.1 dX5_fittingWindows_74 (lv_at hl 1 rfl) ?_
        exact a_reti F hr hlocks hP hD hS dX5_fittingWindows_76 ⟨hR, hF⟩
      · refine lv_iload F.1 F.2.1 dX5_fittingWindows_25 (lv_at hl 2 rfl) ?_
        refine lv_istore (lv' := [(6, .int x5), (0, .ref (ad 29)), (4, .int x4), (5, .int x5)]) F.1 F.2.1 dX5_fittingWindows_27 hl (by decide) rfl (fun ls hl => ?_)
        exact L29 26 x4 x5 x5 _ _ _ _ hR hF (by omega) (by omega) (by omega) (by omega) hP hD hS (lv_sub hl [1, 2, 3, 0] rfl)
  refine lv_aload_n F.1 F.2.1 dX5_fittingWindows_0 rfl (lv_at hl 0 rfl) ?_
  refine lv_iload_n F.1 F.2.1 dX5_fittingWindows_1 rfl (lv_at hl 1 rfl) ?_
  refine lv_iload_n F.1 F.2.1 dX5_fittingWindows_2 rfl (lv_at hl 2 rfl) ?_
  refine lv_iload_n F.1 F.2.1 dX5_fittingWindows_3 rfl (lv_at hl 3 rfl) ?_
  refine a_Vv F hml hl.1 hA hP hD hS (As := [.int p0, .int p1, .int p2]) (c_X5_gatherHours_29 l dC dI ad cA nF _ p0 p1 p2 hR (by omega) (by omega) (by omega)) (cs_RX5_116 (d := 2) F.2.2.1 (by decide)) tc_29 rfl rfl rfl rfl (Nat.le_of_ble_eq_true rfl) dX5_fittingWindows_4 ⟨Nat.le_refl 0, Nat.le_refl 0⟩ (fun u10 H locs hq hP hD hS => ?_)
  obtain ⟨hR, hF10⟩ := hq
  have hF := hF.tr hF10 (by decide)
  refine a_ic F (0 : Int32) dX5_fittingWindows_7 (by decide) ?_
  refine lv_istore (lv' := [(4, .int (0 : Int32)), (0, .ref (ad 29)), (1, .int p0), (2, .int p1), (3, .int p2)]) F.1 F.2.1 dX5_fittingWindows_8 hl (by decide) rfl (fun ls hl => ?_)
  refine a_ic F (0 : Int32) dX5_fittingWindows_10 (by decide) ?_
  refine lv_istore (lv' := [(5, .int (0 : Int32)), (4, .int (0 : Int32)), (0, .ref (ad 29)), (1, .int p0), (2, .int p1), (3, .int p2)]) F.1 F.2.1 dX5_fittingWindows_11 hl (by decide) rfl (fun ls hl => ?_)
  exact L13 26 (0 : Int32) (0 : Int32) _ _ _ _ hR hF (by decide) (by decide) hP hD hS (lv_sub hl [2, 1, 0] rfl)
set_option maxHeartbeats 600000 in
set_option maxRecDepth 100000 in
theorem c_X5_statusOf_29 (l : Launch) (dC : Nat → ClassId) (dI : Nat → Nat → Nat) (ad : Nat → Nat) (cA : Nat → ClassId) (nF : Nat) (u0 : ac_U) (p0 : Int32) (p1 : Int32) (hR : ac_R rg u0) (hp0 : (0 : Int) ≤ p0.toInt ∧ p0.toInt ≤ 7) (hp1 : (0 : Int) ≤ p1.toInt ∧ p1.toInt ≤ 7) : ac_Mi l yX5_statusOf (.code yX5_statusOf cX5_statusOf 3 (some .int) :: TB) 6 (dC, dI) vwCl (ac_ty cA) ad cA (TT nF) [.ref (ad 29), .int p0, .int p1] u0 (fun (r : Int32) (u : ac_U) => ac_R rg u ∧ ac_Fr [(29, some 4), (29, some 5), (29, some 6), (30, none)] u0 u ∧ ((0 : Int) ≤ r.toInt ∧ r.toInt ≤ 4)) := by
  refine ac_Mi.of (cc := cX5_statusOf) (maxL := 3) (ret := (some .int)) (by decide) rfl (Nat.le_of_ble_eq_true rfl) ?_
  intro p e s m below meth c A ls F hml hr hlocks hA hP hD hS hl
  have F : ac_X p s m [.ref (ad 29), .int p0, .int p1].toArray c cX5_statusOf RX5 TB (dC, dI) vwCl (ac_ty cA) := ⟨F.1, F.2.1, fun w h => F.2.2.1 w (List.mem_cons_of_mem _ h), F.2.2.2.1, F.2.2.2.2⟩
  have hl : lv_has ls 3 [(0, .ref (ad 29)), (1, .int p0), (2, .int p1)] := hl
  have hF : ac_Fr [(29, some 4), (29, some 5), (29, some 6), (30, none)] u0 u0 := ac_Fr.rf
  refine lv_aload_n F.1 F.2.1 dX5_statusOf_0 rfl (lv_at hl 0 rfl) ?_
  refine a_getr F inX5 hP 29 1 tc_29 rfl rfl (by decide) q307 (fun _ h9 => h9) dX5_statusOf_1 ?_
  refine lv_iload_n F.1 F.2.1 dX5_statusOf_4 rfl (lv_at hl 1 rfl) ?_
  refine a_Vi F hml hl.1 hA hP hD hS (As := [.int p0]) (c_X6_isBound_24 l dC dI ad cA nF _ p0 hR (by omega)) (cs_RX5_83 (d := 2) F.2.2.1 (by decide)) tc_24 rfl rfl rfl rfl (Nat.le_of_ble_eq_true rfl) dX5_statusOf_5 ⟨Nat.le_refl 0, Nat.le_refl 0⟩ (fun r1 uN1 H locs hq hP hD hS => ?_)
  obtain ⟨hu1, gr1⟩ := hq
  rw [hu1] at hP hD
  refine z_ne F 13 dX5_statusOf_8 (by decide) rfl (fun c2 => ?_) (fun c2 => ?_)
  · refine lv_aload_n F.1 F.2.1 dX5_statusOf_13 rfl (lv_at hl 0 rfl) ?_
    refine lv_iload_n F.1 F.2.1 dX5_statusOf_14 rfl (lv_at hl 1 rfl) ?_
    refine lv_iload_n F.1 F.2.1 dX5_statusOf_15 rfl (lv_at hl 2 rfl) ?_
    refine a_Vi F hml hl.1 hA hP hD hS (As := [.int p0, .int p1]) (c_X5_brokenDay_29 l dC dI ad cA nF _ p0 p1 hR (by omega) (by omega)) (cs_RX5_87 (d := 5) F.2.2.1 (by decide)) tc_29 rfl rfl rfl rfl (Nat.le_of_ble_eq_true rfl) dX5_statusOf_16 ⟨Nat.le_refl 0, Nat.le_refl 0⟩ (fun r3 u3 H locs hq hP hD hS => ?_)
    obtain ⟨hR, hF3, gr3⟩ := hq
    have hF := hF.tr hF3 (by decide)
    refine a_ic F (-1 : Int32) dX5_statusOf_19 (by decide) ?_
    refine b_eq F 25 dX5_statusOf_20 (by decide) rfl ic_m1 (fun c4 => ?_) (fun c4 => ?_)
    · refine lv_aload_n F.1 F.2.1 dX5_statusOf_25 rfl (lv_at hl 0 rfl) ?_
      refine a_getr F inX5 hP 29 0 tc_29 rfl rfl (by decide) q306 (fun _ h9 => h9) dX5_statusOf_26 ?_
      refine lv_iload_n F.1 F.2.1 dX5_statusOf_29 rfl (lv_at hl 1 rfl) ?_
      refine a_bp F (6 : Int32) dX5_statusOf_30 (by decide) ?_
      refine a_Vi F hml hl.1 hA hP hD hS (As := [.int p0, .int (6 : Int32)]) (c_X2_term_4 l dC dI ad cA nF _ p0 (6 : Int32) hR (by omega) (by decide)) (cs_RX5_36 (d := 1) F.2.2.1 (by decide)) tc_4 rfl rfl rfl rfl (Nat.le_of_ble_eq_true rfl) dX5_statusOf_32 ⟨Nat.le_refl 0, Nat.le_refl 0⟩ (fun r5 uN5 H locs hq hP hD hS => ?_)
      obtain ⟨hu5, xr5⟩ := hq
      rw [hu5] at hP hD
      have xr5 : ((6 : Int) = 2 → 0 ≤ r5.toInt ∧ r5.toInt ≤ 7) ∧ ((6 : Int) = 5 → 0 ≤ r5.toInt ∧ r5.toInt ≤ 3) := xr5
      refine a_ic F (1 : Int32) dX5_statusOf_35 (by decide) ?_
      refine b_ne F 41 dX5_statusOf_36 (by decide) rfl ic_1 (fun c6 => ?_) (fun c6 => ?_)
      · refine lv_aload_n F.1 F.2.1 dX5_statusOf_41 rfl (lv_at hl 0 rfl) ?_
        refine lv_iload_n F.1 F.2.1 dX5_statusOf_42 rfl (lv_at hl 1 rfl) ?_
        refine lv_aload_n F.1 F.2.1 dX5_statusOf_43 rfl (lv_at hl 0 rfl) ?_
        have g7 : (0 : Int) ≤ (u3.1 29 6).toInt ∧ (u3.1 29 6).toInt ≤ 121 := hR 29 6
        refine a_geti F inX5 hP 29 6 tc_29 rfl rfl (by decide) q312 (fun _ h9 => h9) (v := (u3.1 29 6)) rfl dX5_statusOf_44 ?_
        refine a_Vi F hml hl.1 hA hP hD hS (As := [.int p0, .int (u3.1 29 6)]) (c_X5_isKeptOn_29 l dC dI ad cA nF _ p0 (u3.1 29 6) hR (by omega) (by omega)) (cs_RX5_90 (d := 2) F.2.2.1 (by decide)) tc_29 rfl rfl rfl rfl (Nat.le_of_ble_eq_true rfl) dX5_statusOf_47 ⟨Nat.le_refl 0, Nat.le_refl 0⟩ (fun r8 uN8 H locs hq hP hD hS => ?_)
        obtain ⟨hu8, gr8⟩ := hq
        rw [hu8] at hP hD
        refine z_eq F 55 dX5_statusOf_50 (by decide) rfl (fun c9 => ?_) (fun c9 => ?_)
        · refine lv_aload_n F.1 F.2.1 dX5_statusOf_55 rfl (lv_at hl 0 rfl) ?_
          refine lv_aload_n F.1 F.2.1 dX5_statusOf_56 rfl (lv_at hl 0 rfl) ?_
          refine a_geti F inX5 hP 29 6 tc_29 rfl rfl (by decide) q312 (fun _ h9 => h9) (v := (u3.1 29 6)) (rfl) dX5_statusOf_57 ?_
          refine a_Vi F hml hl.1 hA hP hD hS (As := [.int (u3.1 29 6)]) (c_X5_isOffOn_29 l dC dI ad cA nF _ (u3.1 29 6) hR (by omega)) (cs_RX5_93 (d := 1) F.2.2.1 (by decide)) tc_29 rfl rfl rfl rfl (Nat.le_of_ble_eq_true rfl) dX5_statusOf_60 ⟨Nat.le_refl 0, Nat.le_refl 0⟩ (fun r10 uN10 H locs hq hP hD hS => ?_)
          obtain ⟨hu10, gr10⟩ := hq
          rw [hu10] at hP hD
          refine z_eq F 70 dX5_statusOf_63 (by decide) rfl (fun c11 => ?_) (fun c11 => ?_)
          · refine a_ic F (1 : Int32) dX5_statusOf_70 (by decide) ?_
            exact a_reti F hr hlocks hP hD hS dX5_statusOf_71 ⟨hR, hF, (by decide)⟩
          · refine a_ic F (3 : Int32) dX5_statusOf_66 (by decide) ?_
            refine lv_goto (tgt := 71) F.1 F.2.1 dX5_statusOf_67 (by decide) ?_
            exact a_reti F hr hlocks hP hD hS dX5_statusOf_71 ⟨hR, hF, (by decide)⟩
        · refine a_ic F (2 : Int32) dX5_statusOf_53 (by decide) ?_
          exact a_reti F hr hlocks hP hD hS dX5_statusOf_54 ⟨hR, hF, (by decide)⟩
      · refine a_ic F (1 : Int32) dX5_statusOf_39 (by decide) ?_
        exact a_reti F hr hlocks hP hD hS dX5_statusOf_40 ⟨hR, hF, (by decide)⟩
    · refine a_ic F (4 : Int32) dX5_statusOf_23 (by decide) ?_
      exact a_reti F hr hlocks hP hD hS dX5_statusOf_24 ⟨hR, hF, (by decide)⟩
  · refine a_ic F (0 : Int32) dX5_statusOf_11 (by decide) ?_
    exact a_reti F hr hlocks hP hD hS dX5_statusOf_12 ⟨hR, hF, (by decide)⟩
set_option maxHeartbeats 600000 in
set_option maxRecDepth 100000 in
theorem c_X5_isLikePlain_29 (l : Launch) (dC : Nat → ClassId) (dI : Nat → Nat → Nat) (ad : Nat → Nat) (cA : Nat → ClassId) (nF : Nat) (u0 : ac_U) (p0 : Int32) (hR : ac_R rg u0) (hp0 : (0 : Int) ≤ p0.toInt ∧ p0.toInt ≤ 7) : ac_Mi l yX5_isLikePlain (.code yX5_isLikePlain cX5_isLikePlain 3 (some .boolean) :: TB) 7 (dC, dI) vwCl (ac_ty cA) ad cA (TT nF) [.ref (ad 29), .int p0] u0 (fun (r : Int32) (u : ac_U) => ac_R rg u ∧ ac_Fr [(29, some 4), (29, some 5), (29, some 6), (30, none)] u0 u ∧ ((0 : Int) ≤ r.toInt ∧ r.toInt ≤ 1)) := by
  refine ac_Mi.of (cc := cX5_isLikePlain) (maxL := 3) (ret := (some .boolean)) (by decide) rfl (Nat.le_of_ble_eq_true rfl) ?_
  intro p e s m below meth c A ls F hml hr hlocks hA hP hD hS hl
  have F : ac_X p s m [.ref (ad 29), .int p0].toArray c cX5_isLikePlain RX5 TB (dC, dI) vwCl (ac_ty cA) := ⟨F.1, F.2.1, fun w h => F.2.2.1 w (List.mem_cons_of_mem _ h), F.2.2.2.1, F.2.2.2.2⟩
  have hl : lv_has ls 3 [(0, .ref (ad 29)), (1, .int p0)] := hl
  have hF : ac_Fr [(29, some 4), (29, some 5), (29, some 6), (30, none)] u0 u0 := ac_Fr.rf
  have L2 : ∀ (n2 : Nat) (x2 : Int32) (u : ac_U) (H : Heap) (locs : List Loc) (ls : Array Slot), ac_R rg u → ac_Fr [(29, some 4), (29, some 5), (29, some 6), (30, none)] u0 u → 8 - x2.toInt < (n2 : Int) → (0 : Int) ≤ x2.toInt ∧ x2.toInt ≤ 8 → va_P (dC, dI) vwCl (ac_w ad cA (TT nF) u) H → va_D A (ac_w ad cA (TT nF) u) → va_S A s.heap H locs → lv_has ls 3 [(0, .ref (ad 29)), (1, .int p0), (2, .int x2)] → W p l e (ac_rm 7) s m [.ref (ad 29), .int p0].toArray below meth c H locs 0 0 (MQ below (va_Qi (fun (r : Int32) (u : ac_U) => ac_R rg u ∧ ac_Fr [(29, some 4), (29, some 5), (29, some 6), (30, none)] u0 u ∧ ((0 : Int) ≤ r.toInt ∧ r.toInt ≤ 1)) (ac_B (dC, dI) vwCl (ac_ty cA) ad cA (TT nF) A) A) [.ref (ad 29), .int p0].toArray s 0 0 A) (F0 m 2 ls []) := by
    intro n2
    induction n2 with
    | zero => intro x2 u H locs ls hR hF hn2 f0 hP hD hS hl; exfalso; omega
    | succ n2 ih2 =>
      intro x2 u H locs ls hR hF hn2 f0 hP hD hS hl
      refine lv_iload_n F.1 F.2.1 dX5_isLikePlain_2 rfl (lv_at hl 2 rfl) ?_
      refine lv_aload_n F.1 F.2.1 dX5_isLikePlain_3 rfl (lv_at hl 0 rfl) ?_
      refine a_getr F inX5 hP 29 0 tc_29 rfl rfl (by decide) q306 (fun _ h9 => h9) dX5_isLikePlain_4 ?_
      have g1 : (0 : Int) ≤ (u.1 4 6).toInt ∧ (u.1 4 6).toInt ≤ 8 := hR 4 6
      refine a_geti F inX2 hP 4 6 tc_4 rfl rfl (by decide) q182 (fun _ h9 => h9) (v := (u.1 4 6)) rfl dX5_isLikePlain_7 ?_
      refine b_ge F 36 dX5_isLikePlain_10 (by decide) rfl rfl (fun c2 => ?_) (fun c2 => ?_)
      · refine a_ic F (1 : Int32) dX5_isLikePlain_36 (by decide) ?_
        exact a_retz F hr hlocks hP hD hS dX5_isLikePlain_37 (Or.inr rfl) ⟨hR, hF, (by decide)⟩
      · refine lv_aload_n F.1 F.2.1 dX5_isLikePlain_13 rfl (lv_at hl 0 rfl) ?_
        refine lv_iload_n F.1 F.2.1 dX5_isLikePlain_14 rfl (lv_at hl 2 rfl) ?_
        refine lv_iload_n F.1 F.2.1 dX5_isLikePlain_15 rfl (lv_at hl 1 rfl) ?_
        refine a_Vi F hml hl.1 hA hP hD hS (As := [.int x2, .int p0]) (c_X5_statusOf_29 l dC dI ad cA nF _ x2 p0 hR (by omega) (by omega)) (cs_RX5_113 (d := 6) F.2.2.1 (by decide)) tc_29 rfl rfl rfl rfl (Nat.le_of_ble_eq_true rfl) dX5_isLikePlain_16 ⟨Nat.le_refl 0, Nat.le_refl 0⟩ (fun r3 u3 H locs hq hP hD hS => ?_)
        obtain ⟨hR, hF3, gr3⟩ := hq
        have hF := hF.tr hF3 (by decide)
        refine lv_aload_n F.1 F.2.1 dX5_isLikePlain_19 rfl (lv_at hl 0 rfl) ?_
        refine lv_iload_n F.1 F.2.1 dX5_isLikePlain_20 rfl (lv_at hl 2 rfl) ?_
        refine a_ic F (0 : Int32) dX5_isLikePlain_21 (by decide) ?_
        refine a_Vi F hml hl.1 hA hP hD hS (As := [.int x2, .int (0 : Int32)]) (c_X5_statusOf_29 l dC dI ad cA nF _ x2 (0 : Int32) hR (by omega) (by decide)) (cs_RX5_113 (d := 6) F.2.2.1 (by decide)) tc_29 rfl rfl rfl rfl (Nat.le_of_ble_eq_true rfl) dX5_isLikePlain_22 ⟨Nat.le_refl 0, Nat.le_refl 0⟩ (fun r4 u4 H locs hq hP hD hS => ?_)
        obtain ⟨hR, hF4, gr4⟩ := hq
        have hF := hF.tr hF4 (by decide)
        refine b_eq F 30 dX5_isLikePlain_25 (by decide) rfl rfl (fun c5 => ?_) (fun c5 => ?_)
        · refine a_iinc F (k := 2) (fun v6 => [(2, .int v6), (0, .ref (ad 29)), (1, .int p0)]) dX5_isLikePlain_30 hl rfl rfl (by decide) (by omega) (by decide) (fun _ => rfl) (fun v6 ls hv6 hl => ?_)
          refine lv_goto (tgt := 2) F.1 F.2.1 dX5_isLikePlain_33 (by decide) ?_
          exact ih2 v6 _ _ _ _ hR hF (by omega) (by omega) hP hD hS (lv_sub hl [1, 2, 0] rfl)
        · refine a_ic F (0 : Int32) dX5_isLikePlain_28 (by decide) ?_
          exact a_retz F hr hlocks hP hD hS dX5_isLikePlain_29 (Or.inl rfl) ⟨hR, hF, (by decide)⟩
  refine a_ic F (0 : Int32) dX5_isLikePlain_0 (by decide) ?_
  refine lv_istore_n (lv' := [(2, .int (0 : Int32)), (0, .ref (ad 29)), (1, .int p0)]) F.1 F.2.1 dX5_isLikePlain_1 rfl hl (by decide) rfl (fun ls hl => ?_)
  exact L2 10 (0 : Int32) _ _ _ _ hR hF (by decide) (by decide) hP hD hS (lv_sub hl [1, 2, 0] rfl)
set_option maxHeartbeats 600000 in
set_option maxRecDepth 100000 in
theorem c_X5_shortestWindow_29 (l : Launch) (dC : Nat → ClassId) (dI : Nat → Nat → Nat) (ad : Nat → Nat) (cA : Nat → ClassId) (nF : Nat) (u0 : ac_U) (p0 : Int32) (p1 : Int32) (p2 : Int32) (hR : ac_R rg u0) (hp0 : (0 : Int) ≤ p0.toInt ∧ p0.toInt ≤ 3) (hp1 : (0 : Int) ≤ p1.toInt ∧ p1.toInt ≤ 5) (hp2 : (0 : Int) ≤ p2.toInt ∧ p2.toInt ≤ 7) : ac_Mi l yX5_shortestWindow (.code yX5_shortestWindow cX5_shortestWindow 6 (some .int) :: TB) 3 (dC, dI) vwCl (ac_ty cA) ad cA (TT nF) [.ref (ad 29), .int p0, .int p1, .int p2] u0 (fun (r : Int32) (u : ac_U) => ac_R rg u ∧ ac_Fr [(31, none)] u0 u ∧ ((-1 : Int) ≤ r.toInt ∧ r.toInt ≤ 2447)) := by
  refine ac_Mi.of (cc := cX5_shortestWindow) (maxL := 6) (ret := (some .int)) (by decide) rfl (Nat.le_of_ble_eq_true rfl) ?_
  intro p e s m below meth c A ls F hml hr hlocks hA hP hD hS hl
  have F : ac_X p s m [.ref (ad 29), .int p0, .int p1, .int p2].toArray c cX5_shortestWindow RX5 TB (dC, dI) vwCl (ac_ty cA) := ⟨F.1, F.2.1, fun w h => F.2.2.1 w (List.mem_cons_of_mem _ h), F.2.2.2.1, F.2.2.2.2⟩
  have hl : lv_has ls 6 [(0, .ref (ad 29)), (1, .int p0), (2, .int p1), (3, .int p2)] := hl
  have hF : ac_Fr [(31, none)] u0 u0 := ac_Fr.rf
  have L10 : ∀ (n10 : Nat) (x4 : Int32) (u : ac_U) (H : Heap) (locs : List Loc) (ls : Array Slot), ac_R rg u → ac_Fr [(31, none)] u0 u → 24 - x4.toInt < (n10 : Int) → (0 : Int) ≤ x4.toInt ∧ x4.toInt ≤ 24 → va_P (dC, dI) vwCl (ac_w ad cA (TT nF) u) H → va_D A (ac_w ad cA (TT nF) u) → va_S A s.heap H locs → lv_has ls 6 [(0, .ref (ad 29)), (4, .int x4)] → W p l e (ac_rm 3) s m [.ref (ad 29), .int p0, .int p1, .int p2].toArray below meth c H locs 0 0 (MQ below (va_Qi (fun (r : Int32) (u : ac_U) => ac_R rg u ∧ ac_Fr [(31, none)] u0 u ∧ ((-1 : Int) ≤ r.toInt ∧ r.toInt ≤ 2447)) (ac_B (dC, dI) vwCl (ac_ty cA) ad cA (TT nF) A) A) [.ref (ad 29), .int p0, .int p1, .int p2].toArray s 0 0 A) (F0 m 10 ls []) := by
    intro n10
    induction n10 with
    | zero => intro x4 u H locs ls hR hF hn10 f0 hP hD hS hl; exfalso; omega
    | succ n10 ih10 =>
      intro x4 u H locs ls hR hF hn10 f0 hP hD hS hl
      have L25 : ∀ (n25 : Nat) (x4 : Int32) (x5 : Int32) (u : ac_U) (H : Heap) (locs : List Loc) (ls : Array Slot), ac_R rg u → ac_Fr [(31, none)] u0 u → 24 - x5.toInt < (n25 : Int) → (0 : Int) ≤ x4.toInt ∧ x4.toInt ≤ 23 → (0 : Int) ≤ x5.toInt ∧ x5.toInt ≤ 24 → 24 - x4.toInt + 0 < ((n10 : Nat) : Int) + 1 → va_P (dC, dI) vwCl (ac_w ad cA (TT nF) u) H → va_D A (ac_w ad cA (TT nF) u) → va_S A s.heap H locs → lv_has ls 6 [(0, .ref (ad 29)), (4, .int x4), (5, .int x5)] → W p l e (ac_rm 3) s m [.ref (ad 29), .int p0, .int p1, .int p2].toArray below meth c H locs 0 0 (MQ below (va_Qi (fun (r : Int32) (u : ac_U) => ac_R rg u ∧ ac_Fr [(31, none)] u0 u ∧ ((-1 : Int) ≤ r.toInt ∧ r.toInt ≤ 2447)) (ac_B (dC, dI) vwCl (ac_ty cA) ad cA (TT nF) A) A) [.ref (ad 29), .int p0, .int p1, .int p2].toArray s 0 0 A) (F0 m 25 ls []) := by
        intro n25
        induction n25 with
        | zero => intro x4 x5 u H locs ls hR hF hn25 f0 f1 f2 hP hD hS hl; exfalso; omega
        | succ n25 ih25 =>
          intro x4 x5 u H locs ls hR hF hn25 f0 f1 f2 hP hD hS hl
          refine lv_iload F.1 F.2.1 dX5_shortestWindow_25 (lv_at hl 2 rfl) ?_
          refine lv_iload F.1 F.2.1 dX5_shortestWindow_27 (lv_at hl 1 rfl) ?_
          refine a_iadd F dX5_shortestWindow_29 rfl rfl (by omega) (fun v1 hv1 => ?_)
          refine lv_aload_n F.1 F.2.1 dX5_shortestWindow_30 rfl (lv_at hl 0 rfl) ?_
          refine a_getr F inX5 hP 29 0 tc_29 rfl rfl (by decide) q306 (fun _ h9 => h9) dX5_shortestWindow_31 ?_
          have g2 : (4 : Int) ≤ (u.1 4 0).toInt ∧ (u.1 4 0).toInt ≤ 24 := hR 4 0
          refine a_geti F inX2 hP 4 0 tc_4 rfl rfl (by decide) q152 (fun _ h9 => h9) (v := (u.1 4 0)) rfl dX5_shortestWindow_34 ?_
          refine b_ge F 72 dX5_shortestWindow_37 (by decide) rfl rfl (fun c3 => ?_) (fun c3 => ?_)
          · refine a_iinc F (k := 1) (fun v4 => [(4, .int v4), (0, .ref (ad 29)), (5, .int x5)]) dX5_shortestWindow_72 hl rfl rfl (by decide) (by omega) (by decide) (fun _ => rfl) (fun v4 ls hv4 hl => ?_)
            refine lv_goto (tgt := 10) F.1 F.2.1 dX5_shortestWindow_75 (by decide) ?_
            exact ih10 v4 _ _ _ _ hR hF (by omega) (by omega) hP hD hS (lv_sub hl [1, 0] rfl)
          · refine lv_aload_n F.1 F.2.1 dX5_shortestWindow_40 rfl (lv_at hl 0 rfl) ?_
            refine lv_iload F.1 F.2.1 dX5_shortestWindow_41 (lv_at hl 2 rfl) ?_
            refine lv_iload F.1 F.2.1 dX5_shortestWindow_43 (lv_at hl 2 rfl) ?_
            refine lv_iload F.1 F.2.1 dX5_shortestWindow_45 (lv_at hl 1 rfl) ?_
            refine a_iadd F dX5_shortestWindow_47 rfl rfl (by omega) (fun v5 hv5 => ?_)
            refine a_Vi F hml hl.1 hA hP hD hS (As := [.int x5, .int v5]) (c_X5_isFitting_29 l dC dI ad cA nF _ x5 v5 hR (by omega) (by omega)) (cs_RX5_119 (d := 2) F.2.2.1 (by decide)) tc_29 rfl rfl rfl rfl (Nat.le_of_ble_eq_true rfl) dX5_shortestWindow_48 ⟨Nat.le_refl 0, Nat.le_refl 0⟩ (fun r6 uN6 H locs hq hP hD hS => ?_)
            obtain ⟨hu6, gr6⟩ := hq
            rw [hu6] at hP hD
            refine z_eq F 66 dX5_shortestWindow_51 (by decide) rfl (fun c7 => ?_) (fun c7 => ?_)
            · refine a_iinc F (k := 2) (fun v8 => [(5, .int v8), (0, .ref (ad 29)), (4, .int x4)]) dX5_shortestWindow_66 hl rfl rfl (by decide) (by omega) (by decide) (fun _ => rfl) (fun v8 ls hv8 hl => ?_)
              refine lv_goto (tgt := 25) F.1 F.2.1 dX5_shortestWindow_69 (by decide) ?_
              exact ih25 x4 v8 _ _ _ _ hR hF (by omega) (by omega) (by omega) (by omega) hP hD hS (lv_sub hl [1, 2, 0] rfl)
            · refine a_bp F (100 : Int32) dX5_shortestWindow_54 (by decide) ?_
              refine lv_iload F.1 F.2.1 dX5_shortestWindow_56 (lv_at hl 2 rfl) ?_
              refine a_imul F dX5_shortestWindow_58 ic_100 rfl (by omega) (fun v9 hv9 => ?_)
              refine lv_iload F.1 F.2.1 dX5_shortestWindow_59 (lv_at hl 2 rfl) ?_
              refine a_iadd F dX5_shortestWindow_61 rfl rfl (by omega) (fun v10 hv10 => ?_)
              refine lv_iload F.1 F.2.1 dX5_shortestWindow_62 (lv_at hl 1 rfl) ?_
              refine a_iadd F dX5_shortestWindow_64 rfl rfl (by omega) (fun v11 hv11 => ?_)
              exact a_reti F hr hlocks hP hD hS dX5_shortestWindow_65 ⟨hR, hF, (by omega : (-1 : Int) ≤ v11.toInt ∧ v11.toInt ≤ 2447)⟩
      refine lv_iload F.1 F.2.1 dX5_shortestWindow_10 (lv_at hl 1 rfl) ?_
      refine lv_aload_n F.1 F.2.1 dX5_shortestWindow_12 rfl (lv_at hl 0 rfl) ?_
      refine a_getr F inX5 hP 29 0 tc_29 rfl rfl (by decide) q306 (fun _ h9 => h9) dX5_shortestWindow_13 ?_
      have g12 : (4 : Int) ≤ (u.1 4 0).toInt ∧ (u.1 4 0).toInt ≤ 24 := hR 4 0
      refine a_geti F inX2 hP 4 0 tc_4 rfl rfl (by decide) q152 (fun _ h9 => h9) (v := (u.1 4 0)) rfl dX5_shortestWindow_16 ?_
      refine b_ge F 78 dX5_shortestWindow_19 (by decide) rfl rfl (fun c13 => ?_) (fun c13 => ?_)
      · refine a_ic F (-1 : Int32) dX5_shortestWindow_78 (by decide) ?_
        exact a_reti F hr hlocks hP hD hS dX5_shortestWindow_79 ⟨hR, hF, (by decide)⟩
      · refine a_ic F (0 : Int32) dX5_shortestWindow_22 (by decide) ?_
        refine lv_istore (lv' := [(5, .int (0 : Int32)), (0, .ref (ad 29)), (4, .int x4)]) F.1 F.2.1 dX5_shortestWindow_23 hl (by decide) rfl (fun ls hl => ?_)
        exact L25 26 x4 (0 : Int32) _ _ _ _ hR hF (by decide) (by omega) (by decide) (by omega) hP hD hS (lv_sub hl [1, 2, 0] rfl)
  refine lv_aload_n F.1 F.2.1 dX5_shortestWindow_0 rfl (lv_at hl 0 rfl) ?_
  refine lv_iload_n F.1 F.2.1 dX5_shortestWindow_1 rfl (lv_at hl 1 rfl) ?_
  refine lv_iload_n F.1 F.2.1 dX5_shortestWindow_2 rfl (lv_at hl 2 rfl) ?_
  refine lv_iload_n F.1 F.2.1 dX5_shortestWindow_3 rfl (lv_at hl 3 rfl) ?_
  refine a_Vv F hml hl.1 hA hP hD hS (As := [.int p0, .int p1, .int p2]) (c_X5_gatherHours_29 l dC dI ad cA nF _ p0 p1 p2 hR (by omega) (by omega) (by omega)) (cs_RX5_116 (d := 2) F.2.2.1 (by decide)) tc_29 rfl rfl rfl rfl (Nat.le_of_ble_eq_true rfl) dX5_shortestWindow_4 ⟨Nat.le_refl 0, Nat.le_refl 0⟩ (fun u14 H locs hq hP hD hS => ?_)
  obtain ⟨hR, hF14⟩ := hq
  have hF := hF.tr hF14 (by decide)
  refine a_ic F (0 : Int32) dX5_shortestWindow_7 (by decide) ?_
  refine lv_istore (lv' := [(4, .int (0 : Int32)), (0, .ref (ad 29)), (1, .int p0), (2, .int p1), (3, .int p2)]) F.1 F.2.1 dX5_shortestWindow_8 hl (by decide) rfl (fun ls hl => ?_)
  exact L10 26 (0 : Int32) _ _ _ _ hR hF (by decide) (by decide) hP hD hS (lv_sub hl [1, 0] rfl)

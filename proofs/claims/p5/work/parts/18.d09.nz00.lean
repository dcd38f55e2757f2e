
def f_X11_fault_0 (u0 : ac_U) : Int32 := (u0.1 1 10)
set_option maxHeartbeats 600000 in
set_option maxRecDepth 100000 in
theorem x_X11_fault_0 (l : Launch) (dC : Nat → ClassId) (dI : Nat → Nat → Nat) (ad : Nat → Nat) (cA : Nat → ClassId) (nF : Nat) (u0 : ac_U)  (hR : ac_R rg u0) : ac_Mi l yX11_fault (.code yX11_fault cX11_fault 1 (some .int) :: TB) 1 (dC, dI) vwCl (ac_ty cA) ad cA (TN nF) [.ref (ad 0)] u0 (fun (r : Int32) (u : ac_U) => u = u0 ∧ ((0 : Int) ≤ r.toInt ∧ r.toInt ≤ 4) ∧ f_X11_fault_0 u0 = r) := by
  refine ac_Mi.of (cc := cX11_fault) (maxL := 1) (ret := (some .int)) (by decide) rfl (Nat.le_of_ble_eq_true rfl) ?_
  intro p e s m below meth c A ls F hml hr hlocks hA hP hD hS hl
  have F : ac_X p s m [.ref (ad 0)].toArray c cX11_fault RX11 TB (dC, dI) vwCl (ac_ty cA) := ⟨F.1, F.2.1, fun w h => F.2.2.1 w (List.mem_cons_of_mem _ h), F.2.2.2.1, F.2.2.2.2⟩
  have hl : lv_has ls 1 [(0, .ref (ad 0))] := hl
  obtain ⟨RR, hRR⟩ : ∃ q, q = f_X11_fault_0 u0 := ⟨_, rfl⟩
  have hC : RR = f_X11_fault_0 u0 := hRR
  unfold f_X11_fault_0 at hC
  refine lv_aload_n F.1 F.2.1 dX11_fault_0 rfl (lv_at hl 0 rfl) ?_
  refine a_getr F inX11 hP 0 0 tn_0 rfl rfl (by decide) q503 (fun _ h9 => h9) dX11_fault_1 ?_
  have g1 : (0 : Int) ≤ (u0.1 1 10).toInt ∧ (u0.1 1 10).toInt ≤ 4 := hR 1 10
  refine a_geti F inX10 hP 1 10 tn_1 rfl rfl (by decide) q115 (fun _ h9 => h9) (v := (u0.1 1 10)) rfl dX11_fault_4 ?_
  exact a_reti F hr hlocks hP hD hS dX11_fault_7 ⟨rfl, (by omega : (0 : Int) ≤ (u0.1 1 10).toInt ∧ (u0.1 1 10).toInt ≤ 4), hRR.symm.trans hC⟩

def f_X12_fault_85 (u0 : ac_U) : ac_U × Int32 := ((pI u0 85 0 (0 : Int32)), (u0.1 85 15))
set_option maxHeartbeats 600000 in
set_option maxRecDepth 100000 in
theorem x_X12_fault_85 (l : Launch) (dC : Nat → ClassId) (dI : Nat → Nat → Nat) (ad : Nat → Nat) (cA : Nat → ClassId) (nF : Nat) (u0 : ac_U)  (hR : ac_R rg u0) : ac_Mi l yX12_fault (.code yX12_fault cX12_fault 1 (some .int) :: TB) 1 (dC, dI) vwCl (ac_ty cA) ad cA (TN nF) [.ref (ad 85)] u0 (fun (r : Int32) (u : ac_U) => ac_R rg u ∧ ac_Fr [(85, some 0)] u0 u ∧ f_X12_fault_85 u0 = (u, r)) := by
  refine ac_Mi.of (cc := cX12_fault) (maxL := 1) (ret := (some .int)) (by decide) rfl (Nat.le_of_ble_eq_true rfl) ?_
  intro p e s m below meth c A ls F hml hr hlocks hA hP hD hS hl
  have F : ac_X p s m [.ref (ad 85)].toArray c cX12_fault RX12 TB (dC, dI) vwCl (ac_ty cA) := ⟨F.1, F.2.1, fun w h => F.2.2.1 w (List.mem_cons_of_mem _ h), F.2.2.2.1, F.2.2.2.2⟩
  have hl : lv_has ls 1 [(0, .ref (ad 85))] := hl
  obtain ⟨RR, hRR⟩ : ∃ q, q = f_X12_fault_85 u0 := ⟨_, rfl⟩
  have hF : ac_Fr [(85, some 0)] u0 u0 := ac_Fr.rf
  have hC : RR = f_X12_fault_85 u0 := hRR
  unfold f_X12_fault_85 at hC
  refine lv_aload_n F.1 F.2.1 dX12_fault_0 rfl (lv_at hl 0 rfl) ?_
  refine a_ic F (0 : Int32) dX12_fault_1 (by decide) ?_
  refine a_puti F inX12 tyX12 tyX12_ok nmX12 hP hD hS 85 0 tn_85 rfl rfl (by decide) q1471 (fun _ h9 => h9) rfl (ty := .int) (tyX12_ok 0 (by decide)) rfl rfl dX12_fault_2 (fun H locs hP hD hS => ?_)
  have hR := hR.si (c := 85) (k := 0) (v := (0 : Int32)) (by rw [ic_0]; exact (by omega : (0 : Int) ≤ (0 : Int) ∧ (0 : Int) ≤ 1))
  have hF := hF.si (c := 85) (k := 0) (v := (0 : Int32)) rfl
  refine lv_aload_n F.1 F.2.1 dX12_fault_5 rfl (lv_at hl 0 rfl) ?_
  refine a_geti F inX12 hP 85 15 tn_85 rfl rfl (by decide) q1486 (fun _ h9 => h9) (v := (u0.1 85 15)) rfl dX12_fault_6 ?_
  exact a_reti F hr hlocks hP hD hS dX12_fault_9 ⟨hR, hF, hRR.symm.trans hC⟩

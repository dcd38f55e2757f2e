def K_X12_nots_85_0_b (B0 : ac_U → ac_U) (u0 : ac_U) (u : ac_U) : ac_U := (if (u.1 85 41).toInt ≤ 0 then u else (vl ((u.1 85 41) - (1 : Int32)) (fun (v4 : Int32) => (vl (u.1 100 v4.toNatClampNeg) (fun (v5 : Int32) => (if v5.toInt ≠ (20 : Int) then u else (vl ((u.1 85 41) - (1 : Int32)) (fun (v8 : Int32) => (vl ((u.1 85 42) - (1 : Int32)) (fun (v9 : Int32) => (vl (f_X12_code_85 (pI (pI u 85 41 v8) 85 42 v9) (20 : Int32) (0 : Int32) (0 : Int32)) (fun (u11 : ac_U) => (B0 u11)))))))))))))
def K_X12_nots_85_0 (u0 : ac_U) : Nat → ac_U → ac_U
  | 0 => fun u => u
  | n + 1 => fun u => K_X12_nots_85_0_b (K_X12_nots_85_0 u0 n) u0 u
def f_X12_nots_85 (u0 : ac_U) : ac_U := (K_X12_nots_85_0 u0 47 u0)
set_option maxHeartbeats 600000 in
set_option maxRecDepth 100000 in
theorem x_X12_nots_85 (l : Launch) (dC : Nat → ClassId) (dI : Nat → Nat → Nat) (ad : Nat → Nat) (cA : Nat → ClassId) (nF : Nat) (u0 : ac_U)  (hR : ac_R rg u0) (hr0 : (u0.1 85 39).toInt + (u0.1 85 41).toInt ≤ 44) (hK_SW1 : (swI 1) u0) : ac_Mv l yX12_nots (.code yX12_nots cX12_nots 1 none :: TB) 2 (dC, dI) vwCl (ac_ty cA) ad cA (TT nF) [.ref (ad 85)] u0 (fun (u : ac_U) => ac_R rg u ∧ ac_Fr [(85, some 39), (85, some 41), (85, some 42), (89, none)] u0 u ∧ ((u.1 85 39).toInt + (u.1 85 41).toInt = (u0.1 85 39).toInt + (u0.1 85 41).toInt ∧ (u.1 85 41).toInt ≤ (u0.1 85 41).toInt) ∧ (swI 1) u ∧ f_X12_nots_85 u0 = u) := by
  refine ac_Mv.of (cc := cX12_nots) (maxL := 1) (ret := none) (by decide) rfl (Nat.le_of_ble_eq_true rfl) ?_
  intro p e s m below meth c A ls F hml hr hlocks hA hP hD hS hl
  have F : ac_X p s m [.ref (ad 85)].toArray c cX12_nots RX12 TB (dC, dI) vwCl (ac_ty cA) := ⟨F.1, F.2.1, fun w h => F.2.2.1 w (List.mem_cons_of_mem _ h), F.2.2.2.1, F.2.2.2.2⟩
  have hl : lv_has ls 1 [(0, .ref (ad 85))] := hl
  obtain ⟨RR, hRR⟩ : ∃ q, q = f_X12_nots_85 u0 := ⟨_, rfl⟩
  have hF : ac_Fr [(85, some 39), (85, some 41), (85, some 42), (89, none)] u0 u0 := ac_Fr.rf
  have L0 : ∀ (n0 : Nat) (u : ac_U) (H : Heap) (locs : List Loc) (ls : Array Slot), ac_R rg u → ac_Fr [(85, some 39), (85, some 41), (85, some 42), (89, none)] u0 u → (u.1 85 41).toInt < (n0 : Int) → (swI 1) u → (u.1 85 39).toInt + (u.1 85 41).toInt = (u0.1 85 39).toInt + (u0.1 85 41).toInt → (u.1 85 41).toInt ≤ (u0.1 85 41).toInt → RR = (K_X12_nots_85_0 u0 n0 u) → va_P (dC, dI) vwCl (ac_w ad cA (TT nF) u) H → va_D A (ac_w ad cA (TT nF) u) → va_S A s.heap H locs → lv_has ls 1 [(0, .ref (ad 85))] → W p l e (ac_rm 2) s m [.ref (ad 85)].toArray below meth c H locs 0 0 (MQ below (va_Qv (fun (u : ac_U) => ac_R rg u ∧ ac_Fr [(85, some 39), (85, some 41), (85, some 42), (89, none)] u0 u ∧ ((u.1 85 39).toInt + (u.1 85 41).toInt = (u0.1 85 39).toInt + (u0.1 85 41).toInt ∧ (u.1 85 41).toInt ≤ (u0.1 85 41).toInt) ∧ (swI 1) u ∧ f_X12_nots_85 u0 = u) (ac_B (dC, dI) vwCl (ac_ty cA) ad cA (TT nF) A) A) [.ref (ad 85)].toArray s 0 0 A) (F0 m 0 ls []) := by
    intro n0
    induction n0 with
    | zero => intro u H locs ls hR hF hn0 hK_SW1 f0 f1 hC hP hD hS hl; have gz0 : (0 : Int) ≤ (u.1 85 41).toInt ∧ (u.1 85 41).toInt ≤ 45 := hR 85 41; exfalso; omega
    | succ n0 ih0 =>
      intro u H locs ls hR hF hn0 hK_SW1 f0 f1 hC hP hD hS hl
      have hC : RR = K_X12_nots_85_0_b (K_X12_nots_85_0 u0 n0) u0 u := hC
      unfold K_X12_nots_85_0_b at hC
      refine lv_aload_n F.1 F.2.1 dX12_nots_0 rfl (lv_at hl 0 rfl) ?_
      have g1 : (0 : Int) ≤ (u.1 85 41).toInt ∧ (u.1 85 41).toInt ≤ 45 := hR 85 41
      refine a_geti F inX12 hP 85 41 tc_85 rfl rfl (by decide) q1512 (fun _ h9 => h9) (v := (u.1 85 41)) rfl dX12_nots_1 ?_
      refine z_le F 54 dX12_nots_4 (by decide) rfl (fun c2 => ?_) (fun c2 => ?_)
      · have hC := hC.trans (if_pos c2)
        have g3 : (0 : Int) ≤ (u.1 85 39).toInt ∧ (u.1 85 39).toInt ≤ 45 := hR 85 39
        exact a_retv F hr hlocks hP hD hS dX12_nots_54 ⟨hR, hF, (by omega : (u.1 85 39).toInt + (u.1 85 41).toInt = (u0.1 85 39).toInt + (u0.1 85 41).toInt ∧ (u.1 85 41).toInt ≤ (u0.1 85 41).toInt), hK_SW1, hRR.symm.trans hC⟩
      · have hC := hC.trans (if_neg (by omega))
        refine lv_aload_n F.1 F.2.1 dX12_nots_7 rfl (lv_at hl 0 rfl) ?_
        refine a_getr F inX12 hP 85 38 tc_85 rfl rfl (by decide) q1509 (fun _ h9 => h9) dX12_nots_8 ?_
        refine lv_aload_n F.1 F.2.1 dX12_nots_11 rfl (lv_at hl 0 rfl) ?_
        refine a_geti F inX12 hP 85 41 tc_85 rfl rfl (by decide) q1512 (fun _ h9 => h9) (v := (u.1 85 41)) (rfl) dX12_nots_12 ?_
        refine a_ic F (1 : Int32) dX12_nots_15 (by decide) ?_
        refine a_isubX F dX12_nots_16 rfl ic_1 (by omega) (fun v4 hv4 yv4 => ?_)
        have hC := vl_eq hC yv4
        refine a_iald F hP 100 tc_100 rfl (i_in rfl (by omega)) dX12_nots_17 (fun v5 ev5 => ?_)
        have hC := vl_eq hC ev5.symm
        refine a_bp F (20 : Int32) dX12_nots_18 (by decide) ?_
        refine b_ne F 54 dX12_nots_20 (by decide) rfl ic_20 (fun c6 => ?_) (fun c6 => ?_)
        · have hC := hC.trans (if_pos c6)
          have g7 : (0 : Int) ≤ (u.1 85 39).toInt ∧ (u.1 85 39).toInt ≤ 45 := hR 85 39
          exact a_retv F hr hlocks hP hD hS dX12_nots_54 ⟨hR, hF, (by omega : (u.1 85 39).toInt + (u.1 85 41).toInt = (u0.1 85 39).toInt + (u0.1 85 41).toInt ∧ (u.1 85 41).toInt ≤ (u0.1 85 41).toInt), hK_SW1, hRR.symm.trans hC⟩
        · have hC := hC.trans (if_neg (by omega))
          refine lv_aload_n F.1 F.2.1 dX12_nots_23 rfl (lv_at hl 0 rfl) ?_
          refine lv_dup F.1 F.2.1 dX12_nots_24 rfl ?_
          refine a_geti F inX12 hP 85 41 tc_85 rfl rfl (by decide) q1512 (fun _ h9 => h9) (v := (u.1 85 41)) (rfl) dX12_nots_25 ?_
          refine a_ic F (1 : Int32) dX12_nots_28 (by decide) ?_
          refine a_isubX F dX12_nots_29 rfl ic_1 (by omega) (fun v8 hv8 yv8 => ?_)
          have hC := vl_eq hC yv8
          refine a_puti F inX12 tyX12 tyX12_ok nmX12 hP hD hS 85 41 tc_85 rfl rfl (by decide) q1512 (fun _ h9 => h9) rfl (ty := .int) (tyX12_ok 41 (by decide)) rfl rfl dX12_nots_30 (fun H locs hP hD hS => ?_)
          have hR := hR.si (c := 85) (k := 41) (v := v8) (by omega : (0 : Int) ≤ v8.toInt ∧ v8.toInt ≤ 45)
          have hF := hF.si (c := 85) (k := 41) (v := v8) rfl
          have hO_SW1 := hK_SW1
          have hK_SW1 := sw_pop0 hO_SW1 (t := (u.1 85 41)) (rfl) (i := v4) (v := v8) (by omega) (by omega) ev5 (by omega) (by omega)
          refine lv_aload_n F.1 F.2.1 dX12_nots_33 rfl (lv_at hl 0 rfl) ?_
          refine lv_dup F.1 F.2.1 dX12_nots_34 rfl ?_
          refine a_geti F inX12 hP 85 42 tc_85 rfl rfl (by decide) q1513 (fun _ h9 => h9) (v := (u.1 85 42)) rfl dX12_nots_35 ?_
          refine a_ic F (1 : Int32) dX12_nots_38 (by decide) ?_
          refine a_isubUX F dX12_nots_39 (fun v9 yv9 => ?_)
          have hC := vl_eq hC yv9
          refine a_puti F inX12 tyX12 tyX12_ok nmX12 hP hD hS 85 42 tc_85 rfl rfl (by decide) q1513 (fun _ h9 => h9) rfl (ty := .int) (tyX12_ok 42 (by decide)) rfl rfl dX12_nots_40 (fun H locs hP hD hS => ?_)
          have hR := hR.si (c := 85) (k := 42) (v := v9) ⟨i_lo _, i_hi _⟩
          have hF := hF.si (c := 85) (k := 42) (v := v9) rfl
          have hK_SW1 := sp_si (sp_sw _) hK_SW1 (c := 85) (k := 42) (v := v9) (fun j9 h9 q9 => by rw [q9] at h9; exact absurd h9 (by decide))
          refine lv_aload_n F.1 F.2.1 dX12_nots_43 rfl (lv_at hl 0 rfl) ?_
          refine a_bp F (20 : Int32) dX12_nots_44 (by decide) ?_
          refine a_ic F (0 : Int32) dX12_nots_46 (by decide) ?_
          refine a_ic F (0 : Int32) dX12_nots_47 (by decide) ?_
          have g10 : (0 : Int) ≤ (u.1 85 39).toInt ∧ (u.1 85 39).toInt ≤ 45 := hR 85 39
          have hP_SW1 := hK_SW1
          refine a_Vv F hml hl.1 hA hP hD hS (As := [.int (20 : Int32), .int (0 : Int32), .int (0 : Int32)]) (x_X12_code_85 l dC dI ad cA nF _ (20 : Int32) (0 : Int32) (0 : Int32) hR (by omega : (0 : Int) ≤ (u.1 85 39).toInt ∧ (u.1 85 39).toInt ≤ 44)) (cs_RX12_419 (d := 1) F.2.2.1 (by decide)) tc_85 rfl rfl rfl rfl (Nat.le_of_ble_eq_true rfl) dX12_nots_48 ⟨Nat.le_refl 0, Nat.le_refl 0⟩ (fun u11 H locs hq hP hD hS => ?_)
          obtain ⟨hR, hF11, xr11, hE_r11, hz11⟩ := hq
          have hF := hF.tr hF11 (by decide)
          have hK_SW1 := cd_not hE_r11 hP_SW1 (by decide)
          have g12 : (0 : Int) ≤ (u11.1 85 39).toInt ∧ (u11.1 85 39).toInt ≤ 45 := hR 85 39
          have xr11 : (u11.1 85 39).toInt = (u.1 85 39).toInt + 1 := xr11
          have hC := vl_eq hC hz11.symm
          refine lv_goto (tgt := 0) F.1 F.2.1 dX12_nots_51 (by decide) ?_
          exact ih0 _ _ _ _ hR hF (by show (u11.1 85 41).toInt < ((n0 : Nat) : Int); rw [hF11 85 41 rfl]; exact (by omega : v8.toInt < ((n0 : Nat) : Int))) hK_SW1 (by rw [hF11 85 41 rfl]; try exact (by omega : (u11.1 85 39).toInt + v8.toInt = (u0.1 85 39).toInt + (u0.1 85 41).toInt)) (by rw [hF11 85 41 rfl]; try exact (by omega : v8.toInt ≤ (u0.1 85 41).toInt)) hC hP hD hS (lv_sub hl [0] rfl)
  have hC : RR = f_X12_nots_85 u0 := hRR
  unfold f_X12_nots_85 at hC
  have g13 : (0 : Int) ≤ (u0.1 85 39).toInt ∧ (u0.1 85 39).toInt ≤ 45 := hR 85 39
  have g14 : (0 : Int) ≤ (u0.1 85 41).toInt ∧ (u0.1 85 41).toInt ≤ 45 := hR 85 41
  exact L0 47 _ _ _ _ hR hF (by omega : (u0.1 85 41).toInt < (47 : Int)) hK_SW1 (by omega : (u0.1 85 39).toInt + (u0.1 85 41).toInt = (u0.1 85 39).toInt + (u0.1 85 41).toInt) (by omega : (u0.1 85 41).toInt ≤ (u0.1 85 41).toInt) hC hP hD hS (lv_sub hl [0] rfl)
def K_X12_behind_85_114 (u0 : ac_U) (u : ac_U) : ac_U × Int32 := (bd (f_X12_bad_85 u (1 : Int32)) (fun (u1 : ac_U) (r1 : Int32) => (u1, r1)))
def K_X12_behind_85_24 (u0 : ac_U) (u : ac_U) : ac_U × Int32 := (vl (f_X12_isWord_85 u (6385252 : Int64)) (fun (r10 : Int32) => (if r10.toInt = 0 then (vl (f_X12_joins_85 u (22 : Int32)) (fun (u14 : ac_U) => (vl (f_X12_isWord_85 u14 (6385252 : Int64)) (fun (r19 : Int32) => (if r19.toInt = 0 then (vl ((u14.1 85 41) + (1 : Int32)) (fun (v21 : Int32) => (vl (f_X12_next_85 (pI (pI (pI u14 100 (u14.1 85 41).toNatClampNeg (22 : Int32)) 85 41 v21) 85 43 (0 : Int32))) (fun (u22 : ac_U) => (u22, (1 : Int32)))))) else (vl ((u14.1 85 41) + (1 : Int32)) (fun (v27 : Int32) => (vl (f_X12_next_85 (pI (pI (pI u14 100 (u14.1 85 41).toNatClampNeg (21 : Int32)) 85 41 v27) 85 43 (0 : Int32))) (fun (u28 : ac_U) => (u28, (1 : Int32))))))))))) else (vl (f_X12_joins_85 u (21 : Int32)) (fun (u35 : ac_U) => (vl (f_X12_isWord_85 u35 (6385252 : Int64)) (fun (r40 : Int32) => (if r40.toInt = 0 then (vl ((u35.1 85 41) + (1 : Int32)) (fun (v42 : Int32) => (vl (f_X12_next_85 (pI (pI (pI u35 100 (u35.1 85 41).toNatClampNeg (22 : Int32)) 85 41 v42) 85 43 (0 : Int32))) (fun (u43 : ac_U) => (u43, (1 : Int32)))))) else (vl ((u35.1 85 41) + (1 : Int32)) (fun (v48 : Int32) => (vl (f_X12_next_85 (pI (pI (pI u35 100 (u35.1 85 41).toNatClampNeg (21 : Int32)) 85 41 v48) 85 43 (0 : Int32))) (fun (u49 : ac_U) => (u49, (1 : Int32))))))))))))))
def f_X12_behind_85 (u0 : ac_U) : ac_U × Int32 := (vl (f_X12_nots_85 u0) (fun (u56 : ac_U) => (vl (f_X12_isWord_85 u56 (6385252 : Int64)) (fun (r61 : Int32) => (if r61.toInt ≠ 0 then (K_X12_behind_85_24 u0 u56) else (vl (f_X12_isWord_85 u56 (28530 : Int64)) (fun (r63 : Int32) => (if r63.toInt = 0 then (vl (f_X12_joins_85 u56 (22 : Int32)) (fun (u65 : ac_U) => (vl (f_X12_isSign_85 u65 (41 : Int32)) (fun (r68 : Int32) => (if r68.toInt = 0 then (K_X12_behind_85_114 u0 u65) else (if (u65.1 85 41).toInt ≠ 0 then (vl ((u65.1 85 41) - (1 : Int32)) (fun (v71 : Int32) => (vl ((u65.1 85 42) - (1 : Int32)) (fun (v72 : Int32) => (vl (f_X12_next_85 (pI (pI u65 85 41 v71) 85 42 v72)) (fun (u73 : ac_U) => (u73, (1 : Int32)))))))) else (K_X12_behind_85_114 u0 u65))))))) else (K_X12_behind_85_24 u0 u56)))))))))
set_option maxHeartbeats 600000 in
set_option maxRecDepth 100000 in
theorem x_X12_behind_85 (l : Launch) (dC : Nat → ClassId) (dI : Nat → Nat → Nat) (ad : Nat → Nat) (cA : Nat → ClassId) (nF : Nat) (u0 : ac_U)  (hR : ac_R rg u0) (hf_85_43 : (1 : Int) ≤ (u0.1 85 43).toInt ∧ (u0.1 85 43).toInt ≤ 1) (hr0 : (u0.1 85 39).toInt + (u0.1 85 41).toInt + 1 ≤ 2 * (u0.1 85 40).toInt) (hK_SW1 : (swI 1) u0) : ac_Mi l yX12_behind (.code yX12_behind cX12_behind 1 (some .boolean) :: TB) 3 (dC, dI) vwCl (ac_ty cA) ad cA (TT nF) [.ref (ad 85)] u0 (fun (r : Int32) (u : ac_U) => ac_R rg u ∧ ac_Fr [(85, some 4), (85, some 11), (85, some 12), (85, some 13), (85, some 14), (85, some 15), (85, some 16), (85, some 39), (85, some 41), (85, some 42), (85, some 43), (89, none), (100, none)] u0 u ∧ ((0 : Int) ≤ r.toInt ∧ r.toInt ≤ 1) ∧ (r.toInt ≠ 0 → (u.1 85 40).toInt = (u0.1 85 40).toInt ∧ (u.1 85 39).toInt + (u.1 85 41).toInt ≤ 2 * (u.1 85 40).toInt - (u.1 85 43).toInt ∧ (u.1 85 41).toInt + 2 * (u.1 85 43).toInt + 1 ≤ (u0.1 85 41).toInt + 2) ∧ (r.toInt ≠ 0 → swW u) ∧ f_X12_behind_85 u0 = (u, r)) := by
  refine ac_Mi.of (cc := cX12_behind) (maxL := 1) (ret := (some .boolean)) (by decide) rfl (Nat.le_of_ble_eq_true rfl) ?_
  intro p e s m below meth c A ls F hml hr hlocks hA hP hD hS hl
  have F : ac_X p s m [.ref (ad 85)].toArray c cX12_behind RX12 TB (dC, dI) vwCl (ac_ty cA) := ⟨F.1, F.2.1, fun w h => F.2.2.1 w (List.mem_cons_of_mem _ h), F.2.2.2.1, F.2.2.2.2⟩
  have hl : lv_has ls 1 [(0, .ref (ad 85))] := hl
  obtain ⟨RR, hRR⟩ : ∃ q, q = f_X12_behind_85 u0 := ⟨_, rfl⟩
  have hF : ac_Fr [(85, some 4), (85, some 11), (85, some 12), (85, some 13), (85, some 14), (85, some 15), (85, some 16), (85, some 39), (85, some 41), (85, some 42), (85, some 43), (89, none), (100, none)] u0 u0 := ac_Fr.rf
  have L114 : ∀ (u : ac_U) (H : Heap) (locs : List Loc) (ls : Array Slot), ac_R rg u → ac_Fr [(85, some 4), (85, some 11), (85, some 12), (85, some 13), (85, some 14), (85, some 15), (85, some 16), (85, some 39), (85, some 41), (85, some 42), (85, some 43), (89, none), (100, none)] u0 u → (1 : Int) ≤ (u.1 85 43).toInt ∧ (u.1 85 43).toInt ≤ 1 → RR = (K_X12_behind_85_114 u0 u) → va_P (dC, dI) vwCl (ac_w ad cA (TT nF) u) H → va_D A (ac_w ad cA (TT nF) u) → va_S A s.heap H locs → lv_has ls 1 [(0, .ref (ad 85))] → W p l e (ac_rm 3) s m [.ref (ad 85)].toArray below meth c H locs 0 0 (MQ below (va_Qi (fun (r : Int32) (u : ac_U) => ac_R rg u ∧ ac_Fr [(85, some 4), (85, some 11), (85, some 12), (85, some 13), (85, some 14), (85, some 15), (85, some 16), (85, some 39), (85, some 41), (85, some 42), (85, some 43), (89, none), (100, none)] u0 u ∧ ((0 : Int) ≤ r.toInt ∧ r.toInt ≤ 1) ∧ (r.toInt ≠ 0 → (u.1 85 40).toInt = (u0.1 85 40).toInt ∧ (u.1 85 39).toInt + (u.1 85 41).toInt ≤ 2 * (u.1 85 40).toInt - (u.1 85 43).toInt ∧ (u.1 85 41).toInt + 2 * (u.1 85 43).toInt + 1 ≤ (u0.1 85 41).toInt + 2) ∧ (r.toInt ≠ 0 → swW u) ∧ f_X12_behind_85 u0 = (u, r)) (ac_B (dC, dI) vwCl (ac_ty cA) ad cA (TT nF) A) A) [.ref (ad 85)].toArray s 0 0 A) (F0 m 114 ls []) := by
    intro u H locs ls hR hF f0 hC hP hD hS hl
    unfold K_X12_behind_85_114 at hC
    refine lv_aload_n F.1 F.2.1 dX12_behind_114 rfl (lv_at hl 0 rfl) ?_
    refine a_ic F (1 : Int32) dX12_behind_115 (by decide) ?_
    have g2 : (0 : Int) ≤ (u.1 85 39).toInt ∧ (u.1 85 39).toInt ≤ 45 := hR 85 39
    have g3 : (0 : Int) ≤ (u.1 85 41).toInt ∧ (u.1 85 41).toInt ≤ 45 := hR 85 41
    have g4 : (0 : Int) ≤ (u.1 85 40).toInt ∧ (u.1 85 40).toInt ≤ 20 := hR 85 40
    have g5 : (0 : Int) ≤ (u.1 85 43).toInt ∧ (u.1 85 43).toInt ≤ 1 := hR 85 43
    refine a_Vi F hml hl.1 hA hP hD hS (As := [.int (1 : Int32)]) (x_X12_bad_85 l dC dI ad cA nF _ (1 : Int32) hR (by decide)) (cs_RX12_181 (d := 1) F.2.2.1 (by decide)) tc_85 rfl rfl rfl rfl (Nat.le_of_ble_eq_true rfl) dX12_behind_116 ⟨Nat.le_refl 0, Nat.le_refl 0⟩ (fun r1 u1 H locs hq hP hD hS => ?_)
    obtain ⟨hR, hF1, gr1, hz1⟩ := hq
    have hF := hF.tr hF1 (by decide)
    have hC := bd_eq hC hz1
    have k6 : (u1.1 85 40).toInt = (u.1 85 40).toInt := congrArg Int32.toInt (show u1.1 85 40 = (u.1 85 40) from hF1 85 40 rfl)
    have k7 : (u1.1 85 39).toInt = (u.1 85 39).toInt := congrArg Int32.toInt (show u1.1 85 39 = (u.1 85 39) from hF1 85 39 rfl)
    have k8 : (u1.1 85 41).toInt = (u.1 85 41).toInt := congrArg Int32.toInt (show u1.1 85 41 = (u.1 85 41) from hF1 85 41 rfl)
    have k9 : (u1.1 85 43).toInt = (u.1 85 43).toInt := congrArg Int32.toInt (show u1.1 85 43 = (u.1 85 43) from hF1 85 43 rfl)
    exact a_retz F hr hlocks hP hD hS dX12_behind_119 (i_01 (by omega)) ⟨hR, hF, (by omega : (0 : Int) ≤ r1.toInt ∧ r1.toInt ≤ 1), (by omega : r1.toInt ≠ 0 → (u1.1 85 40).toInt = (u0.1 85 40).toInt ∧ (u1.1 85 39).toInt + (u1.1 85 41).toInt ≤ 2 * (u1.1 85 40).toInt - (u1.1 85 43).toInt ∧ (u1.1 85 41).toInt + 2 * (u1.1 85 43).toInt + 1 ≤ (u0.1 85 41).toInt + 2), (fun h9 => absurd (by omega : r1.toInt = 0) h9), hRR.symm.trans hC⟩
  have L24 : ∀ (u : ac_U) (H : Heap) (locs : List Loc) (ls : Array Slot), ac_R rg u → ac_Fr [(85, some 4), (85, some 11), (85, some 12), (85, some 13), (85, some 14), (85, some 15), (85, some 16), (85, some 39), (85, some 41), (85, some 42), (85, some 43), (89, none), (100, none)] u0 u → (swI 1) u → (1 : Int) ≤ (u.1 85 43).toInt ∧ (u.1 85 43).toInt ≤ 1 → (u.1 85 39).toInt + (u.1 85 41).toInt = (u0.1 85 39).toInt + (u0.1 85 41).toInt → (u.1 85 41).toInt ≤ (u0.1 85 41).toInt → (u.1 85 40).toInt = (u0.1 85 40).toInt → RR = (K_X12_behind_85_24 u0 u) → va_P (dC, dI) vwCl (ac_w ad cA (TT nF) u) H → va_D A (ac_w ad cA (TT nF) u) → va_S A s.heap H locs → lv_has ls 1 [(0, .ref (ad 85))] → W p l e (ac_rm 3) s m [.ref (ad 85)].toArray below meth c H locs 0 0 (MQ below (va_Qi (fun (r : Int32) (u : ac_U) => ac_R rg u ∧ ac_Fr [(85, some 4), (85, some 11), (85, some 12), (85, some 13), (85, some 14), (85, some 15), (85, some 16), (85, some 39), (85, some 41), (85, some 42), (85, some 43), (89, none), (100, none)] u0 u ∧ ((0 : Int) ≤ r.toInt ∧ r.toInt ≤ 1) ∧ (r.toInt ≠ 0 → (u.1 85 40).toInt = (u0.1 85 40).toInt ∧ (u.1 85 39).toInt + (u.1 85 41).toInt ≤ 2 * (u.1 85 40).toInt - (u.1 85 43).toInt ∧ (u.1 85 41).toInt + 2 * (u.1 85 43).toInt + 1 ≤ (u0.1 85 41).toInt + 2) ∧ (r.toInt ≠ 0 → swW u) ∧ f_X12_behind_85 u0 = (u, r)) (ac_B (dC, dI) vwCl (ac_ty cA) ad cA (TT nF) A) A) [.ref (ad 85)].toArray s 0 0 A) (F0 m 24 ls []) := by
    intro u H locs ls hR hF hK_SW1 f0 f1 f2 f3 hC hP hD hS hl
    unfold K_X12_behind_85_24 at hC
    refine lv_aload_n F.1 F.2.1 dX12_behind_24 rfl (lv_at hl 0 rfl) ?_
    refine lv_aload_n F.1 F.2.1 dX12_behind_25 rfl (lv_at hl 0 rfl) ?_
    refine lv_ldc2 (v := (6385252 : Int64)) F.1 F.2.1 F.2.2.2.1 (F.2.2.1 _ q1459) dX12_behind_26 ?_
    refine a_Vi F hml hl.1 hA hP hD hS (As := [.long (6385252 : Int64)]) (x_X12_isWord_85 l dC dI ad cA nF _ (6385252 : Int64) hR) (cs_RX12_206 (d := 1) F.2.2.1 (by decide)) tc_85 rfl rfl rfl rfl (Nat.le_of_ble_eq_true rfl) dX12_behind_29 ⟨Nat.le_refl 0, Nat.le_refl 0⟩ (fun r10 uN10 H locs hq hP hD hS => ?_)
    obtain ⟨hu10, gr10, hz10⟩ := hq
    rw [hu10] at hP hD
    have hC := vl_eq hC hz10.symm
    refine z_eq F 40 dX12_behind_32 (by decide) rfl (fun c11 => ?_) (fun c11 => ?_)
    · have hC := hC.trans (if_pos c11)
      refine a_bp F (22 : Int32) dX12_behind_40 (by decide) ?_
      have g12 : (0 : Int) ≤ (u.1 85 39).toInt ∧ (u.1 85 39).toInt ≤ 45 := hR 85 39
      have g13 : (0 : Int) ≤ (u.1 85 41).toInt ∧ (u.1 85 41).toInt ≤ 45 := hR 85 41
      have g15 : (0 : Int) ≤ (u.1 85 40).toInt ∧ (u.1 85 40).toInt ≤ 20 := hR 85 40
      have g16 : (0 : Int) ≤ (u.1 85 43).toInt ∧ (u.1 85 43).toInt ≤ 1 := hR 85 43
      refine a_Vv F hml hl.1 hA hP hD hS (As := [.int (22 : Int32)]) (x_X12_joins_85 l dC dI ad cA nF _ (22 : Int32) hR (by decide) (by omega : (u.1 85 39).toInt + (u.1 85 41).toInt ≤ 44) hK_SW1) (cs_RX12_438 (d := 2) F.2.2.1 (by decide)) tc_85 rfl rfl rfl rfl (Nat.le_of_ble_eq_true rfl) dX12_behind_42 ⟨Nat.le_refl 0, Nat.le_refl 0⟩ (fun u14 H locs hq hP hD hS => ?_)
      obtain ⟨hR, hF14, xr14, hK_SW1, hK_TB, hz14⟩ := hq
      have hF := hF.tr hF14 (by decide)
      have g17 : (0 : Int) ≤ (u14.1 85 39).toInt ∧ (u14.1 85 39).toInt ≤ 45 := hR 85 39
      have g18 : (0 : Int) ≤ (u14.1 85 41).toInt ∧ (u14.1 85 41).toInt ≤ 45 := hR 85 41
      have xr14 : (u14.1 85 39).toInt + (u14.1 85 41).toInt = (u.1 85 39).toInt + (u.1 85 41).toInt ∧ (u14.1 85 41).toInt ≤ (u.1 85 41).toInt := xr14
      have hC := vl_eq hC hz14.symm
      refine lv_aload_n F.1 F.2.1 dX12_behind_45 rfl (lv_at hl 0 rfl) ?_
      refine a_getr F inX12 hP 85 38 tc_85 rfl rfl (by decide) q1509 (fun _ h9 => h9) dX12_behind_46 ?_
      refine lv_aload_n F.1 F.2.1 dX12_behind_49 rfl (lv_at hl 0 rfl) ?_
      refine a_geti F inX12 hP 85 41 tc_85 rfl rfl (by decide) q1512 (fun _ h9 => h9) (v := (u14.1 85 41)) (rfl) dX12_behind_50 ?_
      refine lv_aload_n F.1 F.2.1 dX12_behind_53 rfl (lv_at hl 0 rfl) ?_
      refine lv_ldc2 (v := (6385252 : Int64)) F.1 F.2.1 F.2.2.2.1 (F.2.2.1 _ q1459) dX12_behind_54 ?_
      refine a_Vi F hml hl.1 hA hP hD hS (As := [.long (6385252 : Int64)]) (x_X12_isWord_85 l dC dI ad cA nF _ (6385252 : Int64) hR) (cs_RX12_206 (d := 1) F.2.2.1 (by decide)) tc_85 rfl rfl rfl rfl (Nat.le_of_ble_eq_true rfl) dX12_behind_57 ⟨Nat.le_refl 0, Nat.le_refl 0⟩ (fun r19 uN19 H locs hq hP hD hS => ?_)
      obtain ⟨hu19, gr19, hz19⟩ := hq
      rw [hu19] at hP hD
      have hC := vl_eq hC hz19.symm
      refine z_eq F 68 dX12_behind_60 (by decide) rfl (fun c20 => ?_) (fun c20 => ?_)
      · have hC := hC.trans (if_pos c20)
        refine a_bp F (22 : Int32) dX12_behind_68 (by decide) ?_
        refine a_iast F hP hD hS 100 tc_100 rfl (i_in rfl (by omega)) dX12_behind_70 (fun H locs hP hD hS => ?_)
        have hR := hR.si (c := 100) (k := (u14.1 85 41).toNatClampNeg) (v := (22 : Int32)) ⟨i_lo _, i_hi _⟩
        have hF := hF.si (c := 100) (k := (u14.1 85 41).toNatClampNeg) (v := (22 : Int32)) rfl
        have hO_SW1 := hK_SW1
        have hO_TB := hK_TB
        refine lv_aload_n F.1 F.2.1 dX12_behind_71 rfl (lv_at hl 0 rfl) ?_
        refine lv_dup F.1 F.2.1 dX12_behind_72 rfl ?_
        refine a_geti F inX12 hP 85 41 tc_85 rfl rfl (by decide) q1512 (fun _ h9 => h9) (v := (u14.1 85 41)) (rfl) dX12_behind_73 ?_
        refine a_ic F (1 : Int32) dX12_behind_76 (by decide) ?_
        refine a_iaddX F dX12_behind_77 rfl ic_1 (by omega) (fun v21 hv21 yv21 => ?_)
        have hC := vl_eq hC yv21
        refine a_puti F inX12 tyX12 tyX12_ok nmX12 hP hD hS 85 41 tc_85 rfl rfl (by decide) q1512 (fun _ h9 => h9) rfl (ty := .int) (tyX12_ok 41 (by decide)) rfl rfl dX12_behind_78 (fun H locs hP hD hS => ?_)
        have hR := hR.si (c := 85) (k := 41) (v := v21) (by omega : (0 : Int) ≤ v21.toInt ∧ v21.toInt ≤ 45)
        have hF := hF.si (c := 85) (k := 41) (v := v21) rfl
        have hO_SW1 := hK_SW1
        have hN_SW0 := sw_ps1 hK_SW1 (t := (u14.1 85 41)) (rfl) (i := (u14.1 85 41)) (x := (22 : Int32)) (v := v21) (by omega) (by omega) (by omega) (by decide) rfl rfl
        have hK_SW0 := hN_SW0
        refine lv_aload_n F.1 F.2.1 dX12_behind_81 rfl (lv_at hl 0 rfl) ?_
        refine a_ic F (0 : Int32) dX12_behind_82 (by decide) ?_
        refine a_puti F inX12 tyX12 tyX12_ok nmX12 hP hD hS 85 43 tc_85 rfl rfl (by decide) q1514 (fun _ h9 => h9) rfl (ty := .boolean) (tyX12_ok 43 (by decide)) (i_zn (Or.inl rfl)) (i_zf (Or.inl rfl)) dX12_behind_83 (fun H locs hP hD hS => ?_)
        have hR := hR.si (c := 85) (k := 43) (v := (0 : Int32)) (by rw [ic_0]; exact (by omega : (0 : Int) ≤ (0 : Int) ∧ (0 : Int) ≤ 1))
        have hF := hF.si (c := 85) (k := 43) (v := (0 : Int32)) rfl
        have hO_SW1 := hK_SW1
        have hO_SW0 := hK_SW0
        have hN_SWW := sw_putw hO_SW0 (v := (0 : Int32)) (by decide)
        have hK_SWW := hN_SWW
        refine lv_aload_n F.1 F.2.1 dX12_behind_86 rfl (lv_at hl 0 rfl) ?_
        refine a_Vv F hml hl.1 hA hP hD hS (As := []) (x_X12_next_85 l dC dI ad cA nF _  hR) (cs_RX12_184 (d := 2) F.2.2.1 (by decide)) tc_85 rfl rfl rfl rfl (Nat.le_of_ble_eq_true rfl) dX12_behind_87 ⟨Nat.le_refl 0, Nat.le_refl 0⟩ (fun u22 H locs hq hP hD hS => ?_)
        obtain ⟨hR, hF22, hz22⟩ := hq
        have hF := hF.tr hF22 (by decide)
        have hK_SWW := sp_fr sp_SWW hF22 (by decide) hK_SWW
        have hC := vl_eq hC hz22.symm
        refine a_ic F (1 : Int32) dX12_behind_90 (by decide) ?_
        have k23 : (u22.1 85 40).toInt = (u.1 85 40).toInt := congrArg Int32.toInt (show u22.1 85 40 = (u.1 85 40) from (hF22 85 40 rfl).trans (hF14 85 40 rfl))
        have k24 : (u22.1 85 39).toInt = (u14.1 85 39).toInt := congrArg Int32.toInt (show u22.1 85 39 = (u14.1 85 39) from hF22 85 39 rfl)
        have k25 : (u22.1 85 41).toInt = v21.toInt := congrArg Int32.toInt (show u22.1 85 41 = v21 from hF22 85 41 rfl)
        have k26 : (u22.1 85 43).toInt = (0 : Int32).toInt := congrArg Int32.toInt (show u22.1 85 43 = (0 : Int32) from hF22 85 43 rfl)
        rw [ic_0] at k26
        exact a_retz F hr hlocks hP hD hS dX12_behind_91 (Or.inr rfl) ⟨hR, hF, (by decide), (by first | exact (by omega : (1 : Int) ≠ 0 → (u22.1 85 40).toInt = (u0.1 85 40).toInt ∧ (u22.1 85 39).toInt + (u22.1 85 41).toInt ≤ 2 * (u22.1 85 40).toInt - (u22.1 85 43).toInt ∧ (u22.1 85 41).toInt + 2 * (u22.1 85 43).toInt + 1 ≤ (u0.1 85 41).toInt + 2) | (rw [ic_1]; exact (by omega : (1 : Int) ≠ 0 → (u22.1 85 40).toInt = (u0.1 85 40).toInt ∧ (u22.1 85 39).toInt + (u22.1 85 41).toInt ≤ 2 * (u22.1 85 40).toInt - (u22.1 85 43).toInt ∧ (u22.1 85 41).toInt + 2 * (u22.1 85 43).toInt + 1 ≤ (u0.1 85 41).toInt + 2))), (fun _ => hK_SWW), hRR.symm.trans hC⟩
      · have hC := hC.trans (if_neg (by omega))
        refine a_bp F (21 : Int32) dX12_behind_63 (by decide) ?_
        refine lv_goto (tgt := 70) F.1 F.2.1 dX12_behind_65 (by decide) ?_
        refine a_iast F hP hD hS 100 tc_100 rfl (i_in rfl (by omega)) dX12_behind_70 (fun H locs hP hD hS => ?_)
        have hR := hR.si (c := 100) (k := (u14.1 85 41).toNatClampNeg) (v := (21 : Int32)) ⟨i_lo _, i_hi _⟩
        have hF := hF.si (c := 100) (k := (u14.1 85 41).toNatClampNeg) (v := (21 : Int32)) rfl
        have hO_SW1 := hK_SW1
        have hO_TB := hK_TB
        refine lv_aload_n F.1 F.2.1 dX12_behind_71 rfl (lv_at hl 0 rfl) ?_
        refine lv_dup F.1 F.2.1 dX12_behind_72 rfl ?_
        refine a_geti F inX12 hP 85 41 tc_85 rfl rfl (by decide) q1512 (fun _ h9 => h9) (v := (u14.1 85 41)) (rfl) dX12_behind_73 ?_
        refine a_ic F (1 : Int32) dX12_behind_76 (by decide) ?_
        refine a_iaddX F dX12_behind_77 rfl ic_1 (by omega) (fun v27 hv27 yv27 => ?_)
        have hC := vl_eq hC yv27
        refine a_puti F inX12 tyX12 tyX12_ok nmX12 hP hD hS 85 41 tc_85 rfl rfl (by decide) q1512 (fun _ h9 => h9) rfl (ty := .int) (tyX12_ok 41 (by decide)) rfl rfl dX12_behind_78 (fun H locs hP hD hS => ?_)
        have hR := hR.si (c := 85) (k := 41) (v := v27) (by omega : (0 : Int) ≤ v27.toInt ∧ v27.toInt ≤ 45)
        have hF := hF.si (c := 85) (k := 41) (v := v27) rfl
        have hO_SW1 := hK_SW1
        have hN_SW0 := sw_ps1 hK_SW1 (t := (u14.1 85 41)) (rfl) (i := (u14.1 85 41)) (x := (21 : Int32)) (v := v27) (by omega) (by omega) (by omega) (by decide) rfl rfl
        have hK_SW0 := hN_SW0
        refine lv_aload_n F.1 F.2.1 dX12_behind_81 rfl (lv_at hl 0 rfl) ?_
        refine a_ic F (0 : Int32) dX12_behind_82 (by decide) ?_
        refine a_puti F inX12 tyX12 tyX12_ok nmX12 hP hD hS 85 43 tc_85 rfl rfl (by decide) q1514 (fun _ h9 => h9) rfl (ty := .boolean) (tyX12_ok 43 (by decide)) (i_zn (Or.inl rfl)) (i_zf (Or.inl rfl)) dX12_behind_83 (fun H locs hP hD hS => ?_)
        have hR := hR.si (c := 85) (k := 43) (v := (0 : Int32)) (by rw [ic_0]; exact (by omega : (0 : Int) ≤ (0 : Int) ∧ (0 : Int) ≤ 1))
        have hF := hF.si (c := 85) (k := 43) (v := (0 : Int32)) rfl
        have hO_SW1 := hK_SW1
        have hO_SW0 := hK_SW0
        have hN_SWW := sw_putw hO_SW0 (v := (0 : Int32)) (by decide)
        have hK_SWW := hN_SWW
        refine lv_aload_n F.1 F.2.1 dX12_behind_86 rfl (lv_at hl 0 rfl) ?_
        refine a_Vv F hml hl.1 hA hP hD hS (As := []) (x_X12_next_85 l dC dI ad cA nF _  hR) (cs_RX12_184 (d := 2) F.2.2.1 (by decide)) tc_85 rfl rfl rfl rfl (Nat.le_of_ble_eq_true rfl) dX12_behind_87 ⟨Nat.le_refl 0, Nat.le_refl 0⟩ (fun u28 H locs hq hP hD hS => ?_)
        obtain ⟨hR, hF28, hz28⟩ := hq
        have hF := hF.tr hF28 (by decide)
        have hK_SWW := sp_fr sp_SWW hF28 (by decide) hK_SWW
        have hC := vl_eq hC hz28.symm
        refine a_ic F (1 : Int32) dX12_behind_90 (by decide) ?_
        have k29 : (u28.1 85 40).toInt = (u.1 85 40).toInt := congrArg Int32.toInt (show u28.1 85 40 = (u.1 85 40) from (hF28 85 40 rfl).trans (hF14 85 40 rfl))
        have k30 : (u28.1 85 39).toInt = (u14.1 85 39).toInt := congrArg Int32.toInt (show u28.1 85 39 = (u14.1 85 39) from hF28 85 39 rfl)
        have k31 : (u28.1 85 41).toInt = v27.toInt := congrArg Int32.toInt (show u28.1 85 41 = v27 from hF28 85 41 rfl)
        have k32 : (u28.1 85 43).toInt = (0 : Int32).toInt := congrArg Int32.toInt (show u28.1 85 43 = (0 : Int32) from hF28 85 43 rfl)
        rw [ic_0] at k32
        exact a_retz F hr hlocks hP hD hS dX12_behind_91 (Or.inr rfl) ⟨hR, hF, (by decide), (by first | exact (by omega : (1 : Int) ≠ 0 → (u28.1 85 40).toInt = (u0.1 85 40).toInt ∧ (u28.1 85 39).toInt + (u28.1 85 41).toInt ≤ 2 * (u28.1 85 40).toInt - (u28.1 85 43).toInt ∧ (u28.1 85 41).toInt + 2 * (u28.1 85 43).toInt + 1 ≤ (u0.1 85 41).toInt + 2) | (rw [ic_1]; exact (by omega : (1 : Int) ≠ 0 → (u28.1 85 40).toInt = (u0.1 85 40).toInt ∧ (u28.1 85 39).toInt + (u28.1 85 41).toInt ≤ 2 * (u28.1 85 40).toInt - (u28.1 85 43).toInt ∧ (u28.1 85 41).toInt + 2 * (u28.1 85 43).toInt + 1 ≤ (u0.1 85 41).toInt + 2))), (fun _ => hK_SWW), hRR.symm.trans hC⟩
    · have hC := hC.trans (if_neg (by omega))
      refine a_bp F (21 : Int32) dX12_behind_35 (by decide) ?_
      refine lv_goto (tgt := 42) F.1 F.2.1 dX12_behind_37 (by decide) ?_
      have g33 : (0 : Int) ≤ (u.1 85 39).toInt ∧ (u.1 85 39).toInt ≤ 45 := hR 85 39
      have g34 : (0 : Int) ≤ (u.1 85 41).toInt ∧ (u.1 85 41).toInt ≤ 45 := hR 85 41
      have g36 : (0 : Int) ≤ (u.1 85 40).toInt ∧ (u.1 85 40).toInt ≤ 20 := hR 85 40
      have g37 : (0 : Int) ≤ (u.1 85 43).toInt ∧ (u.1 85 43).toInt ≤ 1 := hR 85 43
      refine a_Vv F hml hl.1 hA hP hD hS (As := [.int (21 : Int32)]) (x_X12_joins_85 l dC dI ad cA nF _ (21 : Int32) hR (by decide) (by omega : (u.1 85 39).toInt + (u.1 85 41).toInt ≤ 44) hK_SW1) (cs_RX12_438 (d := 2) F.2.2.1 (by decide)) tc_85 rfl rfl rfl rfl (Nat.le_of_ble_eq_true rfl) dX12_behind_42 ⟨Nat.le_refl 0, Nat.le_refl 0⟩ (fun u35 H locs hq hP hD hS => ?_)
      obtain ⟨hR, hF35, xr35, hK_SW1, hK_TB, hz35⟩ := hq
      have hF := hF.tr hF35 (by decide)
      have g38 : (0 : Int) ≤ (u35.1 85 39).toInt ∧ (u35.1 85 39).toInt ≤ 45 := hR 85 39
      have g39 : (0 : Int) ≤ (u35.1 85 41).toInt ∧ (u35.1 85 41).toInt ≤ 45 := hR 85 41
      have xr35 : (u35.1 85 39).toInt + (u35.1 85 41).toInt = (u.1 85 39).toInt + (u.1 85 41).toInt ∧ (u35.1 85 41).toInt ≤ (u.1 85 41).toInt := xr35
      have hC := vl_eq hC hz35.symm
      refine lv_aload_n F.1 F.2.1 dX12_behind_45 rfl (lv_at hl 0 rfl) ?_
      refine a_getr F inX12 hP 85 38 tc_85 rfl rfl (by decide) q1509 (fun _ h9 => h9) dX12_behind_46 ?_
      refine lv_aload_n F.1 F.2.1 dX12_behind_49 rfl (lv_at hl 0 rfl) ?_
      refine a_geti F inX12 hP 85 41 tc_85 rfl rfl (by decide) q1512 (fun _ h9 => h9) (v := (u35.1 85 41)) (rfl) dX12_behind_50 ?_
      refine lv_aload_n F.1 F.2.1 dX12_behind_53 rfl (lv_at hl 0 rfl) ?_
      refine lv_ldc2 (v := (6385252 : Int64)) F.1 F.2.1 F.2.2.2.1 (F.2.2.1 _ q1459) dX12_behind_54 ?_
      refine a_Vi F hml hl.1 hA hP hD hS (As := [.long (6385252 : Int64)]) (x_X12_isWord_85 l dC dI ad cA nF _ (6385252 : Int64) hR) (cs_RX12_206 (d := 1) F.2.2.1 (by decide)) tc_85 rfl rfl rfl rfl (Nat.le_of_ble_eq_true rfl) dX12_behind_57 ⟨Nat.le_refl 0, Nat.le_refl 0⟩ (fun r40 uN40 H locs hq hP hD hS => ?_)
      obtain ⟨hu40, gr40, hz40⟩ := hq
      rw [hu40] at hP hD
      have hC := vl_eq hC hz40.symm
      refine z_eq F 68 dX12_behind_60 (by decide) rfl (fun c41 => ?_) (fun c41 => ?_)
      · have hC := hC.trans (if_pos c41)
        refine a_bp F (22 : Int32) dX12_behind_68 (by decide) ?_
        refine a_iast F hP hD hS 100 tc_100 rfl (i_in rfl (by omega)) dX12_behind_70 (fun H locs hP hD hS => ?_)
        have hR := hR.si (c := 100) (k := (u35.1 85 41).toNatClampNeg) (v := (22 : Int32)) ⟨i_lo _, i_hi _⟩
        have hF := hF.si (c := 100) (k := (u35.1 85 41).toNatClampNeg) (v := (22 : Int32)) rfl
        have hO_SW1 := hK_SW1
        have hO_TB := hK_TB
        refine lv_aload_n F.1 F.2.1 dX12_behind_71 rfl (lv_at hl 0 rfl) ?_
        refine lv_dup F.1 F.2.1 dX12_behind_72 rfl ?_
        refine a_geti F inX12 hP 85 41 tc_85 rfl rfl (by decide) q1512 (fun _ h9 => h9) (v := (u35.1 85 41)) (rfl) dX12_behind_73 ?_
        refine a_ic F (1 : Int32) dX12_behind_76 (by decide) ?_
        refine a_iaddX F dX12_behind_77 rfl ic_1 (by omega) (fun v42 hv42 yv42 => ?_)
        have hC := vl_eq hC yv42
        refine a_puti F inX12 tyX12 tyX12_ok nmX12 hP hD hS 85 41 tc_85 rfl rfl (by decide) q1512 (fun _ h9 => h9) rfl (ty := .int) (tyX12_ok 41 (by decide)) rfl rfl dX12_behind_78 (fun H locs hP hD hS => ?_)
        have hR := hR.si (c := 85) (k := 41) (v := v42) (by omega : (0 : Int) ≤ v42.toInt ∧ v42.toInt ≤ 45)
        have hF := hF.si (c := 85) (k := 41) (v := v42) rfl
        have hO_SW1 := hK_SW1
        have hN_SW0 := sw_ps1 hK_SW1 (t := (u35.1 85 41)) (rfl) (i := (u35.1 85 41)) (x := (22 : Int32)) (v := v42) (by omega) (by omega) (by omega) (by decide) rfl rfl
        have hK_SW0 := hN_SW0
        refine lv_aload_n F.1 F.2.1 dX12_behind_81 rfl (lv_at hl 0 rfl) ?_
        refine a_ic F (0 : Int32) dX12_behind_82 (by decide) ?_
        refine a_puti F inX12 tyX12 tyX12_ok nmX12 hP hD hS 85 43 tc_85 rfl rfl (by decide) q1514 (fun _ h9 => h9) rfl (ty := .boolean) (tyX12_ok 43 (by decide)) (i_zn (Or.inl rfl)) (i_zf (Or.inl rfl)) dX12_behind_83 (fun H locs hP hD hS => ?_)
        have hR := hR.si (c := 85) (k := 43) (v := (0 : Int32)) (by rw [ic_0]; exact (by omega : (0 : Int) ≤ (0 : Int) ∧ (0 : Int) ≤ 1))
        have hF := hF.si (c := 85) (k := 43) (v := (0 : Int32)) rfl
        have hO_SW1 := hK_SW1
        have hO_SW0 := hK_SW0
        have hN_SWW := sw_putw hO_SW0 (v := (0 : Int32)) (by decide)
        have hK_SWW := hN_SWW
        refine lv_aload_n F.1 F.2.1 dX12_behind_86 rfl (lv_at hl 0 rfl) ?_
        refine a_Vv F hml hl.1 hA hP hD hS (As := []) (x_X12_next_85 l dC dI ad cA nF _  hR) (cs_RX12_184 (d := 2) F.2.2.1 (by decide)) tc_85 rfl rfl rfl rfl (Nat.le_of_ble_eq_true rfl) dX12_behind_87 ⟨Nat.le_refl 0, Nat.le_refl 0⟩ (fun u43 H locs hq hP hD hS => ?_)
        obtain ⟨hR, hF43, hz43⟩ := hq
        have hF := hF.tr hF43 (by decide)
        have hK_SWW := sp_fr sp_SWW hF43 (by decide) hK_SWW
        have hC := vl_eq hC hz43.symm
        refine a_ic F (1 : Int32) dX12_behind_90 (by decide) ?_
        have k44 : (u43.1 85 40).toInt = (u.1 85 40).toInt := congrArg Int32.toInt (show u43.1 85 40 = (u.1 85 40) from (hF43 85 40 rfl).trans (hF35 85 40 rfl))
        have k45 : (u43.1 85 39).toInt = (u35.1 85 39).toInt := congrArg Int32.toInt (show u43.1 85 39 = (u35.1 85 39) from hF43 85 39 rfl)
        have k46 : (u43.1 85 41).toInt = v42.toInt := congrArg Int32.toInt (show u43.1 85 41 = v42 from hF43 85 41 rfl)
        have k47 : (u43.1 85 43).toInt = (0 : Int32).toInt := congrArg Int32.toInt (show u43.1 85 43 = (0 : Int32) from hF43 85 43 rfl)
        rw [ic_0] at k47
        exact a_retz F hr hlocks hP hD hS dX12_behind_91 (Or.inr rfl) ⟨hR, hF, (by decide), (by first | exact (by omega : (1 : Int) ≠ 0 → (u43.1 85 40).toInt = (u0.1 85 40).toInt ∧ (u43.1 85 39).toInt + (u43.1 85 41).toInt ≤ 2 * (u43.1 85 40).toInt - (u43.1 85 43).toInt ∧ (u43.1 85 41).toInt + 2 * (u43.1 85 43).toInt + 1 ≤ (u0.1 85 41).toInt + 2) | (rw [ic_1]; exact (by omega : (1 : Int) ≠ 0 → (u43.1 85 40).toInt = (u0.1 85 40).toInt ∧ (u43.1 85 39).toInt + (u43.1 85 41).toInt ≤ 2 * (u43.1 85 40).toInt - (u43.1 85 43).toInt ∧ (u43.1 85 41).toInt + 2 * (u43.1 85 43).toInt + 1 ≤ (u0.1 85 41).toInt + 2))), (fun _ => hK_SWW), hRR.symm.trans hC⟩
      · have hC := hC.trans (if_neg (by omega))
        refine a_bp F (21 : Int32) dX12_behind_63 (by decide) ?_
        refine lv_goto (tgt := 70) F.1 F.2.1 dX12_behind_65 (by decide) ?_
        refine a_iast F hP hD hS 100 tc_100 rfl (i_in rfl (by omega)) dX12_behind_70 (fun H locs hP hD hS => ?_)
        have hR := hR.si (c := 100) (k := (u35.1 85 41).toNatClampNeg) (v := (21 : Int32)) ⟨i_lo _, i_hi _⟩
        have hF := hF.si (c := 100) (k := (u35.1 85 41).toNatClampNeg) (v := (21 : Int32)) rfl
        have hO_SW1 := hK_SW1
        have hO_TB := hK_TB
        refine lv_aload_n F.1 F.2.1 dX12_behind_71 rfl (lv_at hl 0 rfl) ?_
        refine lv_dup F.1 F.2.1 dX12_behind_72 rfl ?_
        refine a_geti F inX12 hP 85 41 tc_85 rfl rfl (by decide) q1512 (fun _ h9 => h9) (v := (u35.1 85 41)) (rfl) dX12_behind_73 ?_
        refine a_ic F (1 : Int32) dX12_behind_76 (by decide) ?_
        refine a_iaddX F dX12_behind_77 rfl ic_1 (by omega) (fun v48 hv48 yv48 => ?_)
        have hC := vl_eq hC yv48
        refine a_puti F inX12 tyX12 tyX12_ok nmX12 hP hD hS 85 41 tc_85 rfl rfl (by decide) q1512 (fun _ h9 => h9) rfl (ty := .int) (tyX12_ok 41 (by decide)) rfl rfl dX12_behind_78 (fun H locs hP hD hS => ?_)
        have hR := hR.si (c := 85) (k := 41) (v := v48) (by omega : (0 : Int) ≤ v48.toInt ∧ v48.toInt ≤ 45)
        have hF := hF.si (c := 85) (k := 41) (v := v48) rfl
        have hO_SW1 := hK_SW1
        have hN_SW0 := sw_ps1 hK_SW1 (t := (u35.1 85 41)) (rfl) (i := (u35.1 85 41)) (x := (21 : Int32)) (v := v48) (by omega) (by omega) (by omega) (by decide) rfl rfl
        have hK_SW0 := hN_SW0
        refine lv_aload_n F.1 F.2.1 dX12_behind_81 rfl (lv_at hl 0 rfl) ?_
        refine a_ic F (0 : Int32) dX12_behind_82 (by decide) ?_
        refine a_puti F inX12 tyX12 tyX12_ok nmX12 hP hD hS 85 43 tc_85 rfl rfl (by decide) q1514 (fun _ h9 => h9) rfl (ty := .boolean) (tyX12_ok 43 (by decide)) (i_zn (Or.inl rfl)) (i_zf (Or.inl rfl)) dX12_behind_83 (fun H locs hP hD hS => ?_)
        have hR := hR.si (c := 85) (k := 43) (v := (0 : Int32)) (by rw [ic_0]; exact (by omega : (0 : Int) ≤ (0 : Int) ∧ (0 : Int) ≤ 1))
        have hF := hF.si (c := 85) (k := 43) (v := (0 : Int32)) rfl
        have hO_SW1 := hK_SW1
        have hO_SW0 := hK_SW0
        have hN_SWW := sw_putw hO_SW0 (v := (0 : Int32)) (by decide)
        have hK_SWW := hN_SWW
        refine lv_aload_n F.1 F.2.1 dX12_behind_86 rfl (lv_at hl 0 rfl) ?_
        refine a_Vv F hml hl.1 hA hP hD hS (As := []) (x_X12_next_85 l dC dI ad cA nF _  hR) (cs_RX12_184 (d := 2) F.2.2.1 (by decide)) tc_85 rfl rfl rfl rfl (Nat.le_of_ble_eq_true rfl) dX12_behind_87 ⟨Nat.le_refl 0, Nat.le_refl 0⟩ (fun u49 H locs hq hP hD hS => ?_)
        obtain ⟨hR, hF49, hz49⟩ := hq
        have hF := hF.tr hF49 (by decide)
        have hK_SWW := sp_fr sp_SWW hF49 (by decide) hK_SWW
        have hC := vl_eq hC hz49.symm
        refine a_ic F (1 : Int32) dX12_behind_90 (by decide) ?_
        have k50 : (u49.1 85 40).toInt = (u.1 85 40).toInt := congrArg Int32.toInt (show u49.1 85 40 = (u.1 85 40) from (hF49 85 40 rfl).trans (hF35 85 40 rfl))
        have k51 : (u49.1 85 39).toInt = (u35.1 85 39).toInt := congrArg Int32.toInt (show u49.1 85 39 = (u35.1 85 39) from hF49 85 39 rfl)
        have k52 : (u49.1 85 41).toInt = v48.toInt := congrArg Int32.toInt (show u49.1 85 41 = v48 from hF49 85 41 rfl)
        have k53 : (u49.1 85 43).toInt = (0 : Int32).toInt := congrArg Int32.toInt (show u49.1 85 43 = (0 : Int32) from hF49 85 43 rfl)
        rw [ic_0] at k53
        exact a_retz F hr hlocks hP hD hS dX12_behind_91 (Or.inr rfl) ⟨hR, hF, (by decide), (by first | exact (by omega : (1 : Int) ≠ 0 → (u49.1 85 40).toInt = (u0.1 85 40).toInt ∧ (u49.1 85 39).toInt + (u49.1 85 41).toInt ≤ 2 * (u49.1 85 40).toInt - (u49.1 85 43).toInt ∧ (u49.1 85 41).toInt + 2 * (u49.1 85 43).toInt + 1 ≤ (u0.1 85 41).toInt + 2) | (rw [ic_1]; exact (by omega : (1 : Int) ≠ 0 → (u49.1 85 40).toInt = (u0.1 85 40).toInt ∧ (u49.1 85 39).toInt + (u49.1 85 41).toInt ≤ 2 * (u49.1 85 40).toInt - (u49.1 85 43).toInt ∧ (u49.1 85 41).toInt + 2 * (u49.1 85 43).toInt + 1 ≤ (u0.1 85 41).toInt + 2))), (fun _ => hK_SWW), hRR.symm.trans hC⟩
  have hC : RR = f_X12_behind_85 u0 := hRR
  unfold f_X12_behind_85 at hC
  refine lv_aload_n F.1 F.2.1 dX12_behind_0 rfl (lv_at hl 0 rfl) ?_
  have g54 : (0 : Int) ≤ (u0.1 85 39).toInt ∧ (u0.1 85 39).toInt ≤ 45 := hR 85 39
  have g55 : (0 : Int) ≤ (u0.1 85 41).toInt ∧ (u0.1 85 41).toInt ≤ 45 := hR 85 41
  have g57 : (0 : Int) ≤ (u0.1 85 40).toInt ∧ (u0.1 85 40).toInt ≤ 20 := hR 85 40
  have g58 : (0 : Int) ≤ (u0.1 85 43).toInt ∧ (u0.1 85 43).toInt ≤ 1 := hR 85 43
  refine a_Vv F hml hl.1 hA hP hD hS (As := []) (x_X12_nots_85 l dC dI ad cA nF _  hR (by omega : (u0.1 85 39).toInt + (u0.1 85 41).toInt ≤ 44) hK_SW1) (cs_RX12_435 (d := 2) F.2.2.1 (by decide)) tc_85 rfl rfl rfl rfl (Nat.le_of_ble_eq_true rfl) dX12_behind_1 ⟨Nat.le_refl 0, Nat.le_refl 0⟩ (fun u56 H locs hq hP hD hS => ?_)
  obtain ⟨hR, hF56, xr56, hK_SW1, hz56⟩ := hq
  have hF := hF.tr hF56 (by decide)
  have g59 : (0 : Int) ≤ (u56.1 85 39).toInt ∧ (u56.1 85 39).toInt ≤ 45 := hR 85 39
  have g60 : (0 : Int) ≤ (u56.1 85 41).toInt ∧ (u56.1 85 41).toInt ≤ 45 := hR 85 41
  have xr56 : (u56.1 85 39).toInt + (u56.1 85 41).toInt = (u0.1 85 39).toInt + (u0.1 85 41).toInt ∧ (u56.1 85 41).toInt ≤ (u0.1 85 41).toInt := xr56
  have hC := vl_eq hC hz56.symm
  refine lv_aload_n F.1 F.2.1 dX12_behind_4 rfl (lv_at hl 0 rfl) ?_
  refine lv_ldc2 (v := (6385252 : Int64)) F.1 F.2.1 F.2.2.2.1 (F.2.2.1 _ q1459) dX12_behind_5 ?_
  refine a_Vi F hml hl.1 hA hP hD hS (As := [.long (6385252 : Int64)]) (x_X12_isWord_85 l dC dI ad cA nF _ (6385252 : Int64) hR) (cs_RX12_206 (d := 1) F.2.2.1 (by decide)) tc_85 rfl rfl rfl rfl (Nat.le_of_ble_eq_true rfl) dX12_behind_8 ⟨Nat.le_refl 0, Nat.le_refl 0⟩ (fun r61 uN61 H locs hq hP hD hS => ?_)
  obtain ⟨hu61, gr61, hz61⟩ := hq
  rw [hu61] at hP hD
  have hC := vl_eq hC hz61.symm
  refine z_ne F 24 dX12_behind_11 (by decide) rfl (fun c62 => ?_) (fun c62 => ?_)
  · have hC := hC.trans (if_pos c62)
    exact L24 _ _ _ _ hR hF hK_SW1 (i_trB (hF56 85 43 rfl) (by omega : (1 : Int) ≤ (u0.1 85 43).toInt ∧ (u0.1 85 43).toInt ≤ 1)) (by omega : (u56.1 85 39).toInt + (u56.1 85 41).toInt = (u0.1 85 39).toInt + (u0.1 85 41).toInt) (by omega : (u56.1 85 41).toInt ≤ (u0.1 85 41).toInt) (by rw [hF56 85 40 rfl]; try exact (by omega : (u0.1 85 40).toInt = (u0.1 85 40).toInt)) hC hP hD hS (lv_sub hl [0] rfl)
  · have hC := hC.trans (if_neg (by omega))
    refine lv_aload_n F.1 F.2.1 dX12_behind_14 rfl (lv_at hl 0 rfl) ?_
    refine lv_ldc2 (v := (28530 : Int64)) F.1 F.2.1 F.2.2.2.1 (F.2.2.1 _ q1458) dX12_behind_15 ?_
    refine a_Vi F hml hl.1 hA hP hD hS (As := [.long (28530 : Int64)]) (x_X12_isWord_85 l dC dI ad cA nF _ (28530 : Int64) hR) (cs_RX12_206 (d := 1) F.2.2.1 (by decide)) tc_85 rfl rfl rfl rfl (Nat.le_of_ble_eq_true rfl) dX12_behind_18 ⟨Nat.le_refl 0, Nat.le_refl 0⟩ (fun r63 uN63 H locs hq hP hD hS => ?_)
    obtain ⟨hu63, gr63, hz63⟩ := hq
    rw [hu63] at hP hD
    have hC := vl_eq hC hz63.symm
    refine z_eq F 92 dX12_behind_21 (by decide) rfl (fun c64 => ?_) (fun c64 => ?_)
    · have hC := hC.trans (if_pos c64)
      refine lv_aload_n F.1 F.2.1 dX12_behind_92 rfl (lv_at hl 0 rfl) ?_
      refine a_bp F (22 : Int32) dX12_behind_93 (by decide) ?_
      refine a_Vv F hml hl.1 hA hP hD hS (As := [.int (22 : Int32)]) (x_X12_joins_85 l dC dI ad cA nF _ (22 : Int32) hR (by decide) (by omega : (u56.1 85 39).toInt + (u56.1 85 41).toInt ≤ 44) hK_SW1) (cs_RX12_438 (d := 2) F.2.2.1 (by decide)) tc_85 rfl rfl rfl rfl (Nat.le_of_ble_eq_true rfl) dX12_behind_95 ⟨Nat.le_refl 0, Nat.le_refl 0⟩ (fun u65 H locs hq hP hD hS => ?_)
      obtain ⟨hR, hF65, xr65, hK_SW1, hK_TB, hz65⟩ := hq
      have hF := hF.tr hF65 (by decide)
      have g66 : (0 : Int) ≤ (u65.1 85 39).toInt ∧ (u65.1 85 39).toInt ≤ 45 := hR 85 39
      have g67 : (0 : Int) ≤ (u65.1 85 41).toInt ∧ (u65.1 85 41).toInt ≤ 45 := hR 85 41
      have xr65 : (u65.1 85 39).toInt + (u65.1 85 41).toInt = (u56.1 85 39).toInt + (u56.1 85 41).toInt ∧ (u65.1 85 41).toInt ≤ (u56.1 85 41).toInt := xr65
      have hC := vl_eq hC hz65.symm
      refine lv_aload_n F.1 F.2.1 dX12_behind_98 rfl (lv_at hl 0 rfl) ?_
      refine a_bp F (41 : Int32) dX12_behind_99 (by decide) ?_
      refine a_Vi F hml hl.1 hA hP hD hS (As := [.int (41 : Int32)]) (x_X12_isSign_85 l dC dI ad cA nF _ (41 : Int32) hR (by decide)) (cs_RX12_178 (d := 1) F.2.2.1 (by decide)) tc_85 rfl rfl rfl rfl (Nat.le_of_ble_eq_true rfl) dX12_behind_101 ⟨Nat.le_refl 0, Nat.le_refl 0⟩ (fun r68 uN68 H locs hq hP hD hS => ?_)
      obtain ⟨hu68, gr68, hz68⟩ := hq
      rw [hu68] at hP hD
      have hC := vl_eq hC hz68.symm
      refine z_eq F 114 dX12_behind_104 (by decide) rfl (fun c69 => ?_) (fun c69 => ?_)
      · have hC := hC.trans (if_pos c69)
        exact L114 _ _ _ _ hR hF (i_trB ((hF65 85 43 rfl).trans (hF56 85 43 rfl)) (by omega : (1 : Int) ≤ (u0.1 85 43).toInt ∧ (u0.1 85 43).toInt ≤ 1)) hC hP hD hS (lv_sub hl [0] rfl)
      · have hC := hC.trans (if_neg (by omega))
        refine lv_aload_n F.1 F.2.1 dX12_behind_107 rfl (lv_at hl 0 rfl) ?_
        refine a_geti F inX12 hP 85 41 tc_85 rfl rfl (by decide) q1512 (fun _ h9 => h9) (v := (u65.1 85 41)) (rfl) dX12_behind_108 ?_
        refine z_ne F 120 dX12_behind_111 (by decide) rfl (fun c70 => ?_) (fun c70 => ?_)
        · have hC := hC.trans (if_pos c70)
          refine lv_aload_n F.1 F.2.1 dX12_behind_120 rfl (lv_at hl 0 rfl) ?_
          refine lv_dup F.1 F.2.1 dX12_behind_121 rfl ?_
          refine a_geti F inX12 hP 85 41 tc_85 rfl rfl (by decide) q1512 (fun _ h9 => h9) (v := (u65.1 85 41)) (rfl) dX12_behind_122 ?_
          refine a_ic F (1 : Int32) dX12_behind_125 (by decide) ?_
          refine a_isubX F dX12_behind_126 rfl ic_1 (by omega) (fun v71 hv71 yv71 => ?_)
          have hC := vl_eq hC yv71
          refine a_puti F inX12 tyX12 tyX12_ok nmX12 hP hD hS 85 41 tc_85 rfl rfl (by decide) q1512 (fun _ h9 => h9) rfl (ty := .int) (tyX12_ok 41 (by decide)) rfl rfl dX12_behind_127 (fun H locs hP hD hS => ?_)
          have hR := hR.si (c := 85) (k := 41) (v := v71) (by omega : (0 : Int) ≤ v71.toInt ∧ v71.toInt ≤ 45)
          have hF := hF.si (c := 85) (k := 41) (v := v71) rfl
          have hO_SW1 := hK_SW1
          have hO_TB := hK_TB
          have hK_SW1 := sw_popn hO_SW1 (hO_TB (by decide) (i_trH (rfl) (by omega))) (t := (u65.1 85 41)) (rfl) (v := v71) (by omega) (by omega)
          refine lv_aload_n F.1 F.2.1 dX12_behind_130 rfl (lv_at hl 0 rfl) ?_
          refine lv_dup F.1 F.2.1 dX12_behind_131 rfl ?_
          refine a_geti F inX12 hP 85 42 tc_85 rfl rfl (by decide) q1513 (fun _ h9 => h9) (v := (u65.1 85 42)) rfl dX12_behind_132 ?_
          refine a_ic F (1 : Int32) dX12_behind_135 (by decide) ?_
          refine a_isubUX F dX12_behind_136 (fun v72 yv72 => ?_)
          have hC := vl_eq hC yv72
          refine a_puti F inX12 tyX12 tyX12_ok nmX12 hP hD hS 85 42 tc_85 rfl rfl (by decide) q1513 (fun _ h9 => h9) rfl (ty := .int) (tyX12_ok 42 (by decide)) rfl rfl dX12_behind_137 (fun H locs hP hD hS => ?_)
          have hR := hR.si (c := 85) (k := 42) (v := v72) ⟨i_lo _, i_hi _⟩
          have hF := hF.si (c := 85) (k := 42) (v := v72) rfl
          have hK_SW1 := sp_si (sp_sw _) hK_SW1 (c := 85) (k := 42) (v := v72) (fun j9 h9 q9 => by rw [q9] at h9; exact absurd h9 (by decide))
          refine lv_aload_n F.1 F.2.1 dX12_behind_140 rfl (lv_at hl 0 rfl) ?_
          refine a_Vv F hml hl.1 hA hP hD hS (As := []) (x_X12_next_85 l dC dI ad cA nF _  hR) (cs_RX12_184 (d := 2) F.2.2.1 (by decide)) tc_85 rfl rfl rfl rfl (Nat.le_of_ble_eq_true rfl) dX12_behind_141 ⟨Nat.le_refl 0, Nat.le_refl 0⟩ (fun u73 H locs hq hP hD hS => ?_)
          obtain ⟨hR, hF73, hz73⟩ := hq
          have hF := hF.tr hF73 (by decide)
          have hK_SW1 := sp_fr (sp_sw _) hF73 (by decide) hK_SW1
          have hC := vl_eq hC hz73.symm
          refine a_ic F (1 : Int32) dX12_behind_144 (by decide) ?_
          have k74 : (u73.1 85 40).toInt = (u0.1 85 40).toInt := congrArg Int32.toInt (show u73.1 85 40 = (u0.1 85 40) from (hF73 85 40 rfl).trans ((hF65 85 40 rfl).trans (hF56 85 40 rfl)))
          have k75 : (u73.1 85 39).toInt = (u65.1 85 39).toInt := congrArg Int32.toInt (show u73.1 85 39 = (u65.1 85 39) from hF73 85 39 rfl)
          have k76 : (u73.1 85 41).toInt = v71.toInt := congrArg Int32.toInt (show u73.1 85 41 = v71 from hF73 85 41 rfl)
          have k77 : (u73.1 85 43).toInt = (u0.1 85 43).toInt := congrArg Int32.toInt (show u73.1 85 43 = (u0.1 85 43) from (hF73 85 43 rfl).trans ((hF65 85 43 rfl).trans (hF56 85 43 rfl)))
          exact a_retz F hr hlocks hP hD hS dX12_behind_145 (Or.inr rfl) ⟨hR, hF, (by decide), (by first | exact (by omega : (1 : Int) ≠ 0 → (u73.1 85 40).toInt = (u0.1 85 40).toInt ∧ (u73.1 85 39).toInt + (u73.1 85 41).toInt ≤ 2 * (u73.1 85 40).toInt - (u73.1 85 43).toInt ∧ (u73.1 85 41).toInt + 2 * (u73.1 85 43).toInt + 1 ≤ (u0.1 85 41).toInt + 2) | (rw [ic_1]; exact (by omega : (1 : Int) ≠ 0 → (u73.1 85 40).toInt = (u0.1 85 40).toInt ∧ (u73.1 85 39).toInt + (u73.1 85 41).toInt ≤ 2 * (u73.1 85 40).toInt - (u73.1 85 43).toInt ∧ (u73.1 85 41).toInt + 2 * (u73.1 85 43).toInt + 1 ≤ (u0.1 85 41).toInt + 2))), (fun _ => sw_toD hD hK_SW1 (t := (u0.1 85 43)) ((hF73 85 43 rfl).trans ((hF65 85 43 rfl).trans (hF56 85 43 rfl))) (by first | decide | omega)), hRR.symm.trans hC⟩
        · have hC := hC.trans (if_neg (by omega))
          exact L114 _ _ _ _ hR hF (i_trB ((hF65 85 43 rfl).trans (hF56 85 43 rfl)) (by omega : (1 : Int) ≤ (u0.1 85 43).toInt ∧ (u0.1 85 43).toInt ≤ 1)) hC hP hD hS (lv_sub hl [0] rfl)
    · have hC := hC.trans (if_neg (by omega))
      exact L24 _ _ _ _ hR hF hK_SW1 (i_trB (hF56 85 43 rfl) (by omega : (1 : Int) ≤ (u0.1 85 43).toInt ∧ (u0.1 85 43).toInt ≤ 1)) (by omega : (u56.1 85 39).toInt + (u56.1 85 41).toInt = (u0.1 85 39).toInt + (u0.1 85 41).toInt) (by omega : (u56.1 85 41).toInt ≤ (u0.1 85 41).toInt) (by rw [hF56 85 40 rfl]; try exact (by omega : (u0.1 85 40).toInt = (u0.1 85 40).toInt)) hC hP hD hS (lv_sub hl [0] rfl)

def f_X12_leafOf_85 (u0 : ac_U) : Int32 := (vl (f_X12_isWord_85 u0 (422776761956 : Int64)) (fun (r1 : Int32) => (if r1.toInt = 0 then (vl (f_X12_isWord_85 u0 (1869636974 : Int64)) (fun (r3 : Int32) => (if r3.toInt = 0 then (vl (f_X12_isWord_85 u0 (1801810036 : Int64)) (fun (r5 : Int32) => (if r5.toInt = 0 then (vl (f_X12_isWord_85 u0 (7300710 : Int64)) (fun (r7 : Int32) => (if r7.toInt = 0 then (vl (f_X12_isWord_85 u0 (108243635103086 : Int64)) (fun (r9 : Int32) => (if r9.toInt = 0 then (vl (f_X12_isWord_85 u0 (28518 : Int64)) (fun (r11 : Int32) => (if r11.toInt = 0 then (vl (f_X12_isWord_85 u0 (1718775661 : Int64)) (fun (r13 : Int32) => (if r13.toInt = 0 then (vl (f_X12_isWord_85 u0 (1953066092 : Int64)) (fun (r15 : Int32) => (if r15.toInt = 0 then (vl (f_X12_isWord_85 u0 (499984983411 : Int64)) (fun (r17 : Int32) => (if r17.toInt = 0 then (vl (f_X12_isWord_85 u0 (121450625394034 : Int64)) (fun (r19 : Int32) => (if r19.toInt = 0 then (-1 : Int32) else (9 : Int32)))) else (8 : Int32)))) else (7 : Int32)))) else (6 : Int32)))) else (5 : Int32)))) else (4 : Int32)))) else (3 : Int32)))) else (2 : Int32)))) else (1 : Int32)))) else (0 : Int32))))
set_option maxHeartbeats 600000 in
set_option maxRecDepth 100000 in
theorem x_X12_leafOf_85 (l : Launch) (dC : Nat → ClassId) (dI : Nat → Nat → Nat) (ad : Nat → Nat) (cA : Nat → ClassId) (nF : Nat) (u0 : ac_U)  (hR : ac_R rg u0) : ac_Mi l yX12_leafOf (.code yX12_leafOf cX12_leafOf 1 (some .int) :: TB) 2 (dC, dI) vwCl (ac_ty cA) ad cA (TT nF) [.ref (ad 85)] u0 (fun (r : Int32) (u : ac_U) => u = u0 ∧ ((-1 : Int) ≤ r.toInt ∧ r.toInt ≤ 9) ∧ f_X12_leafOf_85 u0 = r) := by
  refine ac_Mi.of (cc := cX12_leafOf) (maxL := 1) (ret := (some .int)) (by decide) rfl (Nat.le_of_ble_eq_true rfl) ?_
  intro p e s m below meth c A ls F hml hr hlocks hA hP hD hS hl
  have F : ac_X p s m [.ref (ad 85)].toArray c cX12_leafOf RX12 TB (dC, dI) vwCl (ac_ty cA) := ⟨F.1, F.2.1, fun w h => F.2.2.1 w (List.mem_cons_of_mem _ h), F.2.2.2.1, F.2.2.2.2⟩
  have hl : lv_has ls 1 [(0, .ref (ad 85))] := hl
  obtain ⟨RR, hRR⟩ : ∃ q, q = f_X12_leafOf_85 u0 := ⟨_, rfl⟩
  have hC : RR = f_X12_leafOf_85 u0 := hRR
  unfold f_X12_leafOf_85 at hC
  refine lv_aload_n F.1 F.2.1 dX12_leafOf_0 rfl (lv_at hl 0 rfl) ?_
  refine lv_ldc2 (v := (422776761956 : Int64)) F.1 F.2.1 F.2.2.2.1 (F.2.2.1 _ q1461) dX12_leafOf_1 ?_
  refine a_Vi F hml hl.1 hA hP hD hS (As := [.long (422776761956 : Int64)]) (x_X12_isWord_85 l dC dI ad cA nF _ (422776761956 : Int64) hR) (cs_RX12_206 (d := 1) F.2.2.1 (by decide)) tc_85 rfl rfl rfl rfl (Nat.le_of_ble_eq_true rfl) dX12_leafOf_4 ⟨Nat.le_refl 0, Nat.le_refl 0⟩ (fun r1 uN1 H locs hq hP hD hS => ?_)
  obtain ⟨hu1, gr1, hz1⟩ := hq
  rw [hu1] at hP hD
  have hC := vl_eq hC hz1.symm
  refine z_eq F 14 dX12_leafOf_7 (by decide) rfl (fun c2 => ?_) (fun c2 => ?_)
  · have hC := hC.trans (if_pos c2)
    refine lv_aload_n F.1 F.2.1 dX12_leafOf_14 rfl (lv_at hl 0 rfl) ?_
    refine lv_ldc2 (v := (1869636974 : Int64)) F.1 F.2.1 F.2.2.2.1 (F.2.2.1 _ q1462) dX12_leafOf_15 ?_
    refine a_Vi F hml hl.1 hA hP hD hS (As := [.long (1869636974 : Int64)]) (x_X12_isWord_85 l dC dI ad cA nF _ (1869636974 : Int64) hR) (cs_RX12_206 (d := 1) F.2.2.1 (by decide)) tc_85 rfl rfl rfl rfl (Nat.le_of_ble_eq_true rfl) dX12_leafOf_18 ⟨Nat.le_refl 0, Nat.le_refl 0⟩ (fun r3 uN3 H locs hq hP hD hS => ?_)
    obtain ⟨hu3, gr3, hz3⟩ := hq
    rw [hu3] at hP hD
    have hC := vl_eq hC hz3.symm
    refine z_eq F 28 dX12_leafOf_21 (by decide) rfl (fun c4 => ?_) (fun c4 => ?_)
    · have hC := hC.trans (if_pos c4)
      refine lv_aload_n F.1 F.2.1 dX12_leafOf_28 rfl (lv_at hl 0 rfl) ?_
      refine lv_ldc2 (v := (1801810036 : Int64)) F.1 F.2.1 F.2.2.2.1 (F.2.2.1 _ q1463) dX12_leafOf_29 ?_
      refine a_Vi F hml hl.1 hA hP hD hS (As := [.long (1801810036 : Int64)]) (x_X12_isWord_85 l dC dI ad cA nF _ (1801810036 : Int64) hR) (cs_RX12_206 (d := 1) F.2.2.1 (by decide)) tc_85 rfl rfl rfl rfl (Nat.le_of_ble_eq_true rfl) dX12_leafOf_32 ⟨Nat.le_refl 0, Nat.le_refl 0⟩ (fun r5 uN5 H locs hq hP hD hS => ?_)
      obtain ⟨hu5, gr5, hz5⟩ := hq
      rw [hu5] at hP hD
      have hC := vl_eq hC hz5.symm
      refine z_eq F 42 dX12_leafOf_35 (by decide) rfl (fun c6 => ?_) (fun c6 => ?_)
      · have hC := hC.trans (if_pos c6)
        refine lv_aload_n F.1 F.2.1 dX12_leafOf_42 rfl (lv_at hl 0 rfl) ?_
        refine lv_ldc2 (v := (7300710 : Int64)) F.1 F.2.1 F.2.2.2.1 (F.2.2.1 _ q1464) dX12_leafOf_43 ?_
        refine a_Vi F hml hl.1 hA hP hD hS (As := [.long (7300710 : Int64)]) (x_X12_isWord_85 l dC dI ad cA nF _ (7300710 : Int64) hR) (cs_RX12_206 (d := 1) F.2.2.1 (by decide)) tc_85 rfl rfl rfl rfl (Nat.le_of_ble_eq_true rfl) dX12_leafOf_46 ⟨Nat.le_refl 0, Nat.le_refl 0⟩ (fun r7 uN7 H locs hq hP hD hS => ?_)
        obtain ⟨hu7, gr7, hz7⟩ := hq
        rw [hu7] at hP hD
        have hC := vl_eq hC hz7.symm
        refine z_eq F 56 dX12_leafOf_49 (by decide) rfl (fun c8 => ?_) (fun c8 => ?_)
        · have hC := hC.trans (if_pos c8)
          refine lv_aload_n F.1 F.2.1 dX12_leafOf_56 rfl (lv_at hl 0 rfl) ?_
          refine lv_ldc2 (v := (108243635103086 : Int64)) F.1 F.2.1 F.2.2.2.1 (F.2.2.1 _ q1465) dX12_leafOf_57 ?_
          refine a_Vi F hml hl.1 hA hP hD hS (As := [.long (108243635103086 : Int64)]) (x_X12_isWord_85 l dC dI ad cA nF _ (108243635103086 : Int64) hR) (cs_RX12_206 (d := 1) F.2.2.1 (by decide)) tc_85 rfl rfl rfl rfl (Nat.le_of_ble_eq_true rfl) dX12_leafOf_60 ⟨Nat.le_refl 0, Nat.le_refl 0⟩ (fun r9 uN9 H locs hq hP hD hS => ?_)
          obtain ⟨hu9, gr9, hz9⟩ := hq
          rw [hu9] at hP hD
          have hC := vl_eq hC hz9.symm
          refine z_eq F 70 dX12_leafOf_63 (by decide) rfl (fun c10 => ?_) (fun c10 => ?_)
          · have hC := hC.trans (if_pos c10)
            refine lv_aload_n F.1 F.2.1 dX12_leafOf_70 rfl (lv_at hl 0 rfl) ?_
            refine lv_ldc2 (v := (28518 : Int64)) F.1 F.2.1 F.2.2.2.1 (F.2.2.1 _ q1466) dX12_leafOf_71 ?_
            refine a_Vi F hml hl.1 hA hP hD hS (As := [.long (28518 : Int64)]) (x_X12_isWord_85 l dC dI ad cA nF _ (28518 : Int64) hR) (cs_RX12_206 (d := 1) F.2.2.1 (by decide)) tc_85 rfl rfl rfl rfl (Nat.le_of_ble_eq_true rfl) dX12_leafOf_74 ⟨Nat.le_refl 0, Nat.le_refl 0⟩ (fun r11 uN11 H locs hq hP hD hS => ?_)
            obtain ⟨hu11, gr11, hz11⟩ := hq
            rw [hu11] at hP hD
            have hC := vl_eq hC hz11.symm
            refine z_eq F 84 dX12_leafOf_77 (by decide) rfl (fun c12 => ?_) (fun c12 => ?_)
            · have hC := hC.trans (if_pos c12)
              refine lv_aload_n F.1 F.2.1 dX12_leafOf_84 rfl (lv_at hl 0 rfl) ?_
              refine lv_ldc2 (v := (1718775661 : Int64)) F.1 F.2.1 F.2.2.2.1 (F.2.2.1 _ q1467) dX12_leafOf_85 ?_
              refine a_Vi F hml hl.1 hA hP hD hS (As := [.long (1718775661 : Int64)]) (x_X12_isWord_85 l dC dI ad cA nF _ (1718775661 : Int64) hR) (cs_RX12_206 (d := 1) F.2.2.1 (by decide)) tc_85 rfl rfl rfl rfl (Nat.le_of_ble_eq_true rfl) dX12_leafOf_88 ⟨Nat.le_refl 0, Nat.le_refl 0⟩ (fun r13 uN13 H locs hq hP hD hS => ?_)
              obtain ⟨hu13, gr13, hz13⟩ := hq
              rw [hu13] at hP hD
              have hC := vl_eq hC hz13.symm
              refine z_eq F 99 dX12_leafOf_91 (by decide) rfl (fun c14 => ?_) (fun c14 => ?_)
              · have hC := hC.trans (if_pos c14)
                refine lv_aload_n F.1 F.2.1 dX12_leafOf_99 rfl (lv_at hl 0 rfl) ?_
                refine lv_ldc2 (v := (1953066092 : Int64)) F.1 F.2.1 F.2.2.2.1 (F.2.2.1 _ q1468) dX12_leafOf_100 ?_
                refine a_Vi F hml hl.1 hA hP hD hS (As := [.long (1953066092 : Int64)]) (x_X12_isWord_85 l dC dI ad cA nF _ (1953066092 : Int64) hR) (cs_RX12_206 (d := 1) F.2.2.1 (by decide)) tc_85 rfl rfl rfl rfl (Nat.le_of_ble_eq_true rfl) dX12_leafOf_103 ⟨Nat.le_refl 0, Nat.le_refl 0⟩ (fun r15 uN15 H locs hq hP hD hS => ?_)
                obtain ⟨hu15, gr15, hz15⟩ := hq
                rw [hu15] at hP hD
                have hC := vl_eq hC hz15.symm
                refine z_eq F 114 dX12_leafOf_106 (by decide) rfl (fun c16 => ?_) (fun c16 => ?_)
                · have hC := hC.trans (if_pos c16)
                  refine lv_aload_n F.1 F.2.1 dX12_leafOf_114 rfl (lv_at hl 0 rfl) ?_
                  refine lv_ldc2 (v := (499984983411 : Int64)) F.1 F.2.1 F.2.2.2.1 (F.2.2.1 _ q1469) dX12_leafOf_115 ?_
                  refine a_Vi F hml hl.1 hA hP hD hS (As := [.long (499984983411 : Int64)]) (x_X12_isWord_85 l dC dI ad cA nF _ (499984983411 : Int64) hR) (cs_RX12_206 (d := 1) F.2.2.1 (by decide)) tc_85 rfl rfl rfl rfl (Nat.le_of_ble_eq_true rfl) dX12_leafOf_118 ⟨Nat.le_refl 0, Nat.le_refl 0⟩ (fun r17 uN17 H locs hq hP hD hS => ?_)
                  obtain ⟨hu17, gr17, hz17⟩ := hq
                  rw [hu17] at hP hD
                  have hC := vl_eq hC hz17.symm
                  refine z_eq F 129 dX12_leafOf_121 (by decide) rfl (fun c18 => ?_) (fun c18 => ?_)
                  · have hC := hC.trans (if_pos c18)
                    refine lv_aload_n F.1 F.2.1 dX12_leafOf_129 rfl (lv_at hl 0 rfl) ?_
                    refine lv_ldc2 (v := (121450625394034 : Int64)) F.1 F.2.1 F.2.2.2.1 (F.2.2.1 _ q1470) dX12_leafOf_130 ?_
                    refine a_Vi F hml hl.1 hA hP hD hS (As := [.long (121450625394034 : Int64)]) (x_X12_isWord_85 l dC dI ad cA nF _ (121450625394034 : Int64) hR) (cs_RX12_206 (d := 1) F.2.2.1 (by decide)) tc_85 rfl rfl rfl rfl (Nat.le_of_ble_eq_true rfl) dX12_leafOf_133 ⟨Nat.le_refl 0, Nat.le_refl 0⟩ (fun r19 uN19 H locs hq hP hD hS => ?_)
                    obtain ⟨hu19, gr19, hz19⟩ := hq
                    rw [hu19] at hP hD
                    have hC := vl_eq hC hz19.symm
                    refine z_eq F 144 dX12_leafOf_136 (by decide) rfl (fun c20 => ?_) (fun c20 => ?_)
                    · have hC := hC.trans (if_pos c20)
                      refine a_ic F (-1 : Int32) dX12_leafOf_144 (by decide) ?_
                      exact a_reti F hr hlocks hP hD hS dX12_leafOf_145 ⟨rfl, (by decide), hRR.symm.trans hC⟩
                    · have hC := hC.trans (if_neg (by omega))
                      refine a_bp F (9 : Int32) dX12_leafOf_139 (by decide) ?_
                      refine lv_goto (tgt := 145) F.1 F.2.1 dX12_leafOf_141 (by decide) ?_
                      exact a_reti F hr hlocks hP hD hS dX12_leafOf_145 ⟨rfl, (by decide), hRR.symm.trans hC⟩
                  · have hC := hC.trans (if_neg (by omega))
                    refine a_bp F (8 : Int32) dX12_leafOf_124 (by decide) ?_
                    refine lv_goto (tgt := 145) F.1 F.2.1 dX12_leafOf_126 (by decide) ?_
                    exact a_reti F hr hlocks hP hD hS dX12_leafOf_145 ⟨rfl, (by decide), hRR.symm.trans hC⟩
                · have hC := hC.trans (if_neg (by omega))
                  refine a_bp F (7 : Int32) dX12_leafOf_109 (by decide) ?_
                  refine lv_goto (tgt := 145) F.1 F.2.1 dX12_leafOf_111 (by decide) ?_
                  exact a_reti F hr hlocks hP hD hS dX12_leafOf_145 ⟨rfl, (by decide), hRR.symm.trans hC⟩
              · have hC := hC.trans (if_neg (by omega))
                refine a_bp F (6 : Int32) dX12_leafOf_94 (by decide) ?_
                refine lv_goto (tgt := 145) F.1 F.2.1 dX12_leafOf_96 (by decide) ?_
                exact a_reti F hr hlocks hP hD hS dX12_leafOf_145 ⟨rfl, (by decide), hRR.symm.trans hC⟩
            · have hC := hC.trans (if_neg (by omega))
              refine a_ic F (5 : Int32) dX12_leafOf_80 (by decide) ?_
              refine lv_goto (tgt := 145) F.1 F.2.1 dX12_leafOf_81 (by decide) ?_
              exact a_reti F hr hlocks hP hD hS dX12_leafOf_145 ⟨rfl, (by decide), hRR.symm.trans hC⟩
          · have hC := hC.trans (if_neg (by omega))
            refine a_ic F (4 : Int32) dX12_leafOf_66 (by decide) ?_
            refine lv_goto (tgt := 145) F.1 F.2.1 dX12_leafOf_67 (by decide) ?_
            exact a_reti F hr hlocks hP hD hS dX12_leafOf_145 ⟨rfl, (by decide), hRR.symm.trans hC⟩
        · have hC := hC.trans (if_neg (by omega))
          refine a_ic F (3 : Int32) dX12_leafOf_52 (by decide) ?_
          refine lv_goto (tgt := 145) F.1 F.2.1 dX12_leafOf_53 (by decide) ?_
          exact a_reti F hr hlocks hP hD hS dX12_leafOf_145 ⟨rfl, (by decide), hRR.symm.trans hC⟩
      · have hC := hC.trans (if_neg (by omega))
        refine a_ic F (2 : Int32) dX12_leafOf_38 (by decide) ?_
        refine lv_goto (tgt := 145) F.1 F.2.1 dX12_leafOf_39 (by decide) ?_
        exact a_reti F hr hlocks hP hD hS dX12_leafOf_145 ⟨rfl, (by decide), hRR.symm.trans hC⟩
    · have hC := hC.trans (if_neg (by omega))
      refine a_ic F (1 : Int32) dX12_leafOf_24 (by decide) ?_
      refine lv_goto (tgt := 145) F.1 F.2.1 dX12_leafOf_25 (by decide) ?_
      exact a_reti F hr hlocks hP hD hS dX12_leafOf_145 ⟨rfl, (by decide), hRR.symm.trans hC⟩
  · have hC := hC.trans (if_neg (by omega))
    refine a_ic F (0 : Int32) dX12_leafOf_10 (by decide) ?_
    refine lv_goto (tgt := 145) F.1 F.2.1 dX12_leafOf_11 (by decide) ?_
    exact a_reti F hr hlocks hP hD hS dX12_leafOf_145 ⟨rfl, (by decide), hRR.symm.trans hC⟩
def K_X12_operand_85_209 (u0 : ac_U) (u : ac_U) : ac_U × Int32 := (bd (f_X12_bad_85 u (1 : Int32)) (fun (u1 : ac_U) (r1 : Int32) => (u1, r1)))
def K_X12_operand_85_84 (u0 : ac_U) (u : ac_U) (x1 : Int32) : ac_U × Int32 := (if x1.toInt = 0 then (vl ((u.1 85 41) + (1 : Int32)) (fun (v13 : Int32) => (vl ((u.1 85 42) + (1 : Int32)) (fun (v14 : Int32) => ((pI (pI (pI u 100 (u.1 85 41).toNatClampNeg (23 : Int32)) 85 41 v13) 85 42 v14), (1 : Int32)))))) else (vl ((u.1 85 41) + (1 : Int32)) (fun (v18 : Int32) => (vl ((u.1 85 42) + (1 : Int32)) (fun (v19 : Int32) => ((pI (pI (pI u 100 (u.1 85 41).toNatClampNeg (20 : Int32)) 85 41 v18) 85 42 v19), (1 : Int32)))))))
def K_X12_operand_85_56 (u0 : ac_U) (u : ac_U) : ac_U × Int32 := (bd (f_X12_bad_85 u (4 : Int32)) (fun (u23 : ac_U) (r23 : Int32) => (u23, r23)))
def K_X12_operand_85_38 (u0 : ac_U) (u : ac_U) (x1 : Int32) (x2 : Int32) (x3 : Int32) : ac_U × Int32 := (if (u.1 85 40).toInt = (20 : Int) then (K_X12_operand_85_56 u0 u) else (if (u.1 85 42).toInt ≤ (8 : Int) then (vl ((u.1 85 40) + (1 : Int32)) (fun (v36 : Int32) => (vl (f_X12_next_85 (pI u 85 40 v36)) (fun (u37 : ac_U) => (if x1.toInt ≠ 0 then (K_X12_operand_85_84 u0 u37 x1) else (if x2.toInt = 0 then (if (5 : Int) ≤ x3.toInt then (if x3.toInt ≠ (5 : Int) then (if (u37.1 85 11).toInt ≠ (3 : Int) then (K_X12_operand_85_209 u0 (pI u37 85 43 (1 : Int32))) else (if (u37.1 85 14).toInt < (60 : Int) then (K_X12_operand_85_209 u0 (pI u37 85 43 (1 : Int32))) else (if (u37.1 85 14).toInt ≤ (62 : Int) then (vl (f_X12_next_85 (pI u37 85 43 (1 : Int32))) (fun (u53 : ac_U) => (if (u53.1 85 11).toInt = (2 : Int) then (vl (f_X12_code_85 u53 x3 (u37.1 85 14) (u53.1 85 14)) (fun (u56 : ac_U) => (vl (f_X12_next_85 u56) (fun (u59 : ac_U) => (u59, (1 : Int32)))))) else (bd (f_X12_bad_85 u53 (1 : Int32)) (fun (u64 : ac_U) (r64 : Int32) => (u64, r64)))))) else (K_X12_operand_85_209 u0 (pI u37 85 43 (1 : Int32)))))) else (bd (f_X12_looksAt_85 (pI u37 85 43 (1 : Int32)) (8 : Int32) (u37.1 87 4)) (fun (u70 : ac_U) (r70 : Int32) => (if r70.toInt ≠ 0 then (vl (f_X12_code_85 u70 x3 (0 : Int32) (u70.1 85 18)) (fun (u72 : ac_U) => (vl (f_X12_next_85 u72) (fun (u75 : ac_U) => (u75, (1 : Int32)))))) else (u70, (0 : Int32)))))) else (vl (f_X12_code_85 (pI u37 85 43 (1 : Int32)) x3 (0 : Int32) (0 : Int32)) (fun (u84 : ac_U) => (u84, (1 : Int32))))) else (K_X12_operand_85_84 u0 u37 x1))))))) else (K_X12_operand_85_56 u0 u)))
def f_X12_operand_85 (u0 : ac_U) : ac_U × Int32 := (vl (f_X12_isWord_85 u0 (7237492 : Int64)) (fun (r90 : Int32) => (vl (f_X12_isSign_85 u0 (40 : Int32)) (fun (r91 : Int32) => (vl (f_X12_leafOf_85 u0) (fun (r92 : Int32) => (if r90.toInt ≠ 0 then (K_X12_operand_85_38 u0 u0 r90 r91 r92) else (if r91.toInt ≠ 0 then (K_X12_operand_85_38 u0 u0 r90 r91 r92) else (if 0 ≤ r92.toInt then (K_X12_operand_85_38 u0 u0 r90 r91 r92) else (bd (f_X12_bad_85 u0 (1 : Int32)) (fun (u108 : ac_U) (r108 : Int32) => (u108, r108))))))))))))
set_option maxHeartbeats 600000 in
set_option maxRecDepth 100000 in
theorem x_X12_operand_85 (l : Launch) (dC : Nat → ClassId) (dI : Nat → Nat → Nat) (ad : Nat → Nat) (cA : Nat → ClassId) (nF : Nat) (u0 : ac_U)  (hR : ac_R rg u0) (hf_85_43 : (0 : Int) ≤ (u0.1 85 43).toInt ∧ (u0.1 85 43).toInt ≤ 0) (hr0 : (u0.1 85 39).toInt + (u0.1 85 41).toInt ≤ 2 * (u0.1 85 40).toInt) (hK_SW0 : (swI 0) u0) : ac_Mi l yX12_operand (.code yX12_operand cX12_operand 5 (some .boolean) :: TB) 3 (dC, dI) vwCl (ac_ty cA) ad cA (TT nF) [.ref (ad 85)] u0 (fun (r : Int32) (u : ac_U) => ac_R rg u ∧ ac_Fr [(85, some 4), (85, some 11), (85, some 12), (85, some 13), (85, some 14), (85, some 15), (85, some 16), (85, some 18), (85, some 39), (85, some 40), (85, some 41), (85, some 42), (85, some 43), (89, none), (100, none)] u0 u ∧ ((0 : Int) ≤ r.toInt ∧ r.toInt ≤ 1) ∧ (r.toInt ≠ 0 → (u.1 85 40).toInt = (u0.1 85 40).toInt + 1 ∧ (u.1 85 39).toInt + (u.1 85 41).toInt ≤ 2 * (u.1 85 40).toInt - (u.1 85 43).toInt ∧ (u.1 85 41).toInt + 2 * (u.1 85 43).toInt ≤ (u0.1 85 41).toInt + 2) ∧ (r.toInt ≠ 0 → swW u) ∧ f_X12_operand_85 u0 = (u, r)) := by
  refine ac_Mi.of (cc := cX12_operand) (maxL := 5) (ret := (some .boolean)) (by decide) rfl (Nat.le_of_ble_eq_true rfl) ?_
  intro p e s m below meth c A ls F hml hr hlocks hA hP hD hS hl
  have F : ac_X p s m [.ref (ad 85)].toArray c cX12_operand RX12 TB (dC, dI) vwCl (ac_ty cA) := ⟨F.1, F.2.1, fun w h => F.2.2.1 w (List.mem_cons_of_mem _ h), F.2.2.2.1, F.2.2.2.2⟩
  have hl : lv_has ls 5 [(0, .ref (ad 85))] := hl
  obtain ⟨RR, hRR⟩ : ∃ q, q = f_X12_operand_85 u0 := ⟨_, rfl⟩
  have hF : ac_Fr [(85, some 4), (85, some 11), (85, some 12), (85, some 13), (85, some 14), (85, some 15), (85, some 16), (85, some 18), (85, some 39), (85, some 40), (85, some 41), (85, some 42), (85, some 43), (89, none), (100, none)] u0 u0 := ac_Fr.rf
  have L209 : ∀ (u : ac_U) (H : Heap) (locs : List Loc) (ls : Array Slot), ac_R rg u → ac_Fr [(85, some 4), (85, some 11), (85, some 12), (85, some 13), (85, some 14), (85, some 15), (85, some 16), (85, some 18), (85, some 39), (85, some 40), (85, some 41), (85, some 42), (85, some 43), (89, none), (100, none)] u0 u → (1 : Int) ≤ (u.1 85 40).toInt ∧ (u.1 85 40).toInt ≤ 20 → (u.1 85 42).toInt ≤ 8 → (1 : Int) ≤ (u.1 85 43).toInt ∧ (u.1 85 43).toInt ≤ 1 → RR = (K_X12_operand_85_209 u0 u) → va_P (dC, dI) vwCl (ac_w ad cA (TT nF) u) H → va_D A (ac_w ad cA (TT nF) u) → va_S A s.heap H locs → lv_has ls 5 [(0, .ref (ad 85))] → W p l e (ac_rm 3) s m [.ref (ad 85)].toArray below meth c H locs 0 0 (MQ below (va_Qi (fun (r : Int32) (u : ac_U) => ac_R rg u ∧ ac_Fr [(85, some 4), (85, some 11), (85, some 12), (85, some 13), (85, some 14), (85, some 15), (85, some 16), (85, some 18), (85, some 39), (85, some 40), (85, some 41), (85, some 42), (85, some 43), (89, none), (100, none)] u0 u ∧ ((0 : Int) ≤ r.toInt ∧ r.toInt ≤ 1) ∧ (r.toInt ≠ 0 → (u.1 85 40).toInt = (u0.1 85 40).toInt + 1 ∧ (u.1 85 39).toInt + (u.1 85 41).toInt ≤ 2 * (u.1 85 40).toInt - (u.1 85 43).toInt ∧ (u.1 85 41).toInt + 2 * (u.1 85 43).toInt ≤ (u0.1 85 41).toInt + 2) ∧ (r.toInt ≠ 0 → swW u) ∧ f_X12_operand_85 u0 = (u, r)) (ac_B (dC, dI) vwCl (ac_ty cA) ad cA (TT nF) A) A) [.ref (ad 85)].toArray s 0 0 A) (F0 m 209 ls []) := by
    intro u H locs ls hR hF f0 f1 f2 hC hP hD hS hl
    unfold K_X12_operand_85_209 at hC
    refine lv_aload_n F.1 F.2.1 dX12_operand_209 rfl (lv_at hl 0 rfl) ?_
    refine a_ic F (1 : Int32) dX12_operand_210 (by decide) ?_
    have g2 : (0 : Int) ≤ (u.1 85 39).toInt ∧ (u.1 85 39).toInt ≤ 45 := hR 85 39
    have g3 : (0 : Int) ≤ (u.1 85 41).toInt ∧ (u.1 85 41).toInt ≤ 45 := hR 85 41
    have g4 : (0 : Int) ≤ (u.1 85 40).toInt ∧ (u.1 85 40).toInt ≤ 20 := hR 85 40
    have g5 : (0 : Int) ≤ (u.1 85 43).toInt ∧ (u.1 85 43).toInt ≤ 1 := hR 85 43
    refine a_Vi F hml hl.1 hA hP hD hS (As := [.int (1 : Int32)]) (x_X12_bad_85 l dC dI ad cA nF _ (1 : Int32) hR (by decide)) (cs_RX12_181 (d := 1) F.2.2.1 (by decide)) tc_85 rfl rfl rfl rfl (Nat.le_of_ble_eq_true rfl) dX12_operand_211 ⟨Nat.le_refl 0, Nat.le_refl 0⟩ (fun r1 u1 H locs hq hP hD hS => ?_)
    obtain ⟨hR, hF1, gr1, hz1⟩ := hq
    have hF := hF.tr hF1 (by decide)
    have hC := bd_eq hC hz1
    have k6 : (u1.1 85 40).toInt = (u.1 85 40).toInt := congrArg Int32.toInt (show u1.1 85 40 = (u.1 85 40) from hF1 85 40 rfl)
    have k7 : (u1.1 85 39).toInt = (u.1 85 39).toInt := congrArg Int32.toInt (show u1.1 85 39 = (u.1 85 39) from hF1 85 39 rfl)
    have k8 : (u1.1 85 41).toInt = (u.1 85 41).toInt := congrArg Int32.toInt (show u1.1 85 41 = (u.1 85 41) from hF1 85 41 rfl)
    have k9 : (u1.1 85 43).toInt = (u.1 85 43).toInt := congrArg Int32.toInt (show u1.1 85 43 = (u.1 85 43) from hF1 85 43 rfl)
    exact a_retz F hr hlocks hP hD hS dX12_operand_214 (i_01 (by omega)) ⟨hR, hF, (by omega : (0 : Int) ≤ r1.toInt ∧ r1.toInt ≤ 1), (by omega : r1.toInt ≠ 0 → (u1.1 85 40).toInt = (u0.1 85 40).toInt + 1 ∧ (u1.1 85 39).toInt + (u1.1 85 41).toInt ≤ 2 * (u1.1 85 40).toInt - (u1.1 85 43).toInt ∧ (u1.1 85 41).toInt + 2 * (u1.1 85 43).toInt ≤ (u0.1 85 41).toInt + 2), (fun h9 => absurd (by omega : r1.toInt = 0) h9), hRR.symm.trans hC⟩
  have L84 : ∀ (x1 : Int32) (u : ac_U) (H : Heap) (locs : List Loc) (ls : Array Slot), ac_R rg u → ac_Fr [(85, some 4), (85, some 11), (85, some 12), (85, some 13), (85, some 14), (85, some 15), (85, some 16), (85, some 18), (85, some 39), (85, some 40), (85, some 41), (85, some 42), (85, some 43), (89, none), (100, none)] u0 u → (swI 0) u → (0 : Int) ≤ x1.toInt ∧ x1.toInt ≤ 1 → (1 : Int) ≤ (u.1 85 40).toInt ∧ (u.1 85 40).toInt ≤ 20 → (u.1 85 42).toInt ≤ 8 → (0 : Int) ≤ (u.1 85 43).toInt ∧ (u.1 85 43).toInt ≤ 0 → (u.1 85 40).toInt = (u0.1 85 40).toInt + 1 → (u.1 85 39).toInt = (u0.1 85 39).toInt → (u.1 85 41).toInt = (u0.1 85 41).toInt → (u.1 85 43).toInt = 0 → RR = (K_X12_operand_85_84 u0 u x1) → va_P (dC, dI) vwCl (ac_w ad cA (TT nF) u) H → va_D A (ac_w ad cA (TT nF) u) → va_S A s.heap H locs → lv_has ls 5 [(0, .ref (ad 85)), (1, .int x1)] → W p l e (ac_rm 3) s m [.ref (ad 85)].toArray below meth c H locs 0 0 (MQ below (va_Qi (fun (r : Int32) (u : ac_U) => ac_R rg u ∧ ac_Fr [(85, some 4), (85, some 11), (85, some 12), (85, some 13), (85, some 14), (85, some 15), (85, some 16), (85, some 18), (85, some 39), (85, some 40), (85, some 41), (85, some 42), (85, some 43), (89, none), (100, none)] u0 u ∧ ((0 : Int) ≤ r.toInt ∧ r.toInt ≤ 1) ∧ (r.toInt ≠ 0 → (u.1 85 40).toInt = (u0.1 85 40).toInt + 1 ∧ (u.1 85 39).toInt + (u.1 85 41).toInt ≤ 2 * (u.1 85 40).toInt - (u.1 85 43).toInt ∧ (u.1 85 41).toInt + 2 * (u.1 85 43).toInt ≤ (u0.1 85 41).toInt + 2) ∧ (r.toInt ≠ 0 → swW u) ∧ f_X12_operand_85 u0 = (u, r)) (ac_B (dC, dI) vwCl (ac_ty cA) ad cA (TT nF) A) A) [.ref (ad 85)].toArray s 0 0 A) (F0 m 84 ls []) := by
    intro x1 u H locs ls hR hF hK_SW0 f0 f1 f2 f3 f4 f5 f6 f7 hC hP hD hS hl
    unfold K_X12_operand_85_84 at hC
    have hz10 : 0 ≤ (u.1 85 39).toInt ∧ (u.1 85 39).toInt ≤ 45 := hR 85 39
    have hy10 : 0 ≤ (u.1 85 41).toInt ∧ (u.1 85 41).toInt ≤ 45 := hR 85 41
    have hx10 : 0 ≤ (u.1 85 40).toInt ∧ (u.1 85 40).toInt ≤ 20 := hR 85 40
    refine lv_aload_n F.1 F.2.1 dX12_operand_84 rfl (lv_at hl 0 rfl) ?_
    refine a_getr F inX12 hP 85 38 tc_85 rfl rfl (by decide) q1509 (fun _ h9 => h9) dX12_operand_85 ?_
    refine lv_aload_n F.1 F.2.1 dX12_operand_88 rfl (lv_at hl 0 rfl) ?_
    have g11 : (0 : Int) ≤ (u.1 85 41).toInt ∧ (u.1 85 41).toInt ≤ 45 := hR 85 41
    refine a_geti F inX12 hP 85 41 tc_85 rfl rfl (by decide) q1512 (fun _ h9 => h9) (v := (u.1 85 41)) rfl dX12_operand_89 ?_
    refine lv_iload_n F.1 F.2.1 dX12_operand_92 rfl (lv_at hl 1 rfl) ?_
    refine z_eq F 101 dX12_operand_93 (by decide) rfl (fun c12 => ?_) (fun c12 => ?_)
    · have hC := hC.trans (if_pos c12)
      refine a_bp F (23 : Int32) dX12_operand_101 (by decide) ?_
      refine a_iast F hP hD hS 100 tc_100 rfl (i_in rfl (by omega)) dX12_operand_103 (fun H locs hP hD hS => ?_)
      have hR := hR.si (c := 100) (k := (u.1 85 41).toNatClampNeg) (v := (23 : Int32)) ⟨i_lo _, i_hi _⟩
      have hF := hF.si (c := 100) (k := (u.1 85 41).toNatClampNeg) (v := (23 : Int32)) rfl
      have hO_SW0 := hK_SW0
      refine lv_aload_n F.1 F.2.1 dX12_operand_104 rfl (lv_at hl 0 rfl) ?_
      refine lv_dup F.1 F.2.1 dX12_operand_105 rfl ?_
      refine a_geti F inX12 hP 85 41 tc_85 rfl rfl (by decide) q1512 (fun _ h9 => h9) (v := (u.1 85 41)) (rfl) dX12_operand_106 ?_
      refine a_ic F (1 : Int32) dX12_operand_109 (by decide) ?_
      refine a_iaddX F dX12_operand_110 rfl ic_1 (by omega) (fun v13 hv13 yv13 => ?_)
      have hC := vl_eq hC yv13
      refine a_puti F inX12 tyX12 tyX12_ok nmX12 hP hD hS 85 41 tc_85 rfl rfl (by decide) q1512 (fun _ h9 => h9) rfl (ty := .int) (tyX12_ok 41 (by decide)) rfl rfl dX12_operand_111 (fun H locs hP hD hS => ?_)
      have hR := hR.si (c := 85) (k := 41) (v := v13) (by omega : (0 : Int) ≤ v13.toInt ∧ v13.toInt ≤ 45)
      have hF := hF.si (c := 85) (k := 41) (v := v13) rfl
      have hO_SW0 := hK_SW0
      have hK_SW0 := sw_ps0 hK_SW0 (t := (u.1 85 41)) (rfl) (i := (u.1 85 41)) (x := (23 : Int32)) (v := v13) (by omega) (by omega) (by omega) (by decide) rfl rfl
      refine lv_aload_n F.1 F.2.1 dX12_operand_114 rfl (lv_at hl 0 rfl) ?_
      refine lv_dup F.1 F.2.1 dX12_operand_115 rfl ?_
      refine a_geti F inX12 hP 85 42 tc_85 rfl rfl (by decide) q1513 (fun _ h9 => h9) (v := (u.1 85 42)) rfl dX12_operand_116 ?_
      refine a_ic F (1 : Int32) dX12_operand_119 (by decide) ?_
      refine a_iaddX F dX12_operand_120 rfl ic_1 (by have q0 := i_lo (u.1 85 42); omega) (fun v14 hv14 yv14 => ?_)
      have hC := vl_eq hC yv14
      refine a_puti F inX12 tyX12 tyX12_ok nmX12 hP hD hS 85 42 tc_85 rfl rfl (by decide) q1513 (fun _ h9 => h9) rfl (ty := .int) (tyX12_ok 42 (by decide)) rfl rfl dX12_operand_121 (fun H locs hP hD hS => ?_)
      have hR := hR.si (c := 85) (k := 42) (v := v14) ⟨i_lo _, i_hi _⟩
      have hF := hF.si (c := 85) (k := 42) (v := v14) rfl
      have hK_SW0 := sp_si (sp_sw _) hK_SW0 (c := 85) (k := 42) (v := v14) (fun j9 h9 q9 => by rw [q9] at h9; exact absurd h9 (by decide))
      refine a_ic F (1 : Int32) dX12_operand_124 (by decide) ?_
      have g15 : (0 : Int) ≤ (u.1 85 40).toInt ∧ (u.1 85 40).toInt ≤ 20 := hR 85 40
      have g16 : (0 : Int) ≤ (u.1 85 39).toInt ∧ (u.1 85 39).toInt ≤ 45 := hR 85 39
      have g17 : (0 : Int) ≤ (u.1 85 43).toInt ∧ (u.1 85 43).toInt ≤ 1 := hR 85 43
      exact a_retz F hr hlocks hP hD hS dX12_operand_125 (Or.inr rfl) ⟨hR, hF, (by decide), (by first | exact (by omega : (1 : Int) ≠ 0 → (u.1 85 40).toInt = (u0.1 85 40).toInt + 1 ∧ (u.1 85 39).toInt + v13.toInt ≤ 2 * (u.1 85 40).toInt - (u.1 85 43).toInt ∧ v13.toInt + 2 * (u.1 85 43).toInt ≤ (u0.1 85 41).toInt + 2) | (rw [ic_1]; exact (by omega : (1 : Int) ≠ 0 → (u.1 85 40).toInt = (u0.1 85 40).toInt + 1 ∧ (u.1 85 39).toInt + v13.toInt ≤ 2 * (u.1 85 40).toInt - (u.1 85 43).toInt ∧ v13.toInt + 2 * (u.1 85 43).toInt ≤ (u0.1 85 41).toInt + 2))), (fun _ => sw_toD hD hK_SW0 (t := (u.1 85 43)) rfl (by first | decide | omega)), hRR.symm.trans hC⟩
    · have hC := hC.trans (if_neg (by omega))
      refine a_bp F (20 : Int32) dX12_operand_96 (by decide) ?_
      refine lv_goto (tgt := 103) F.1 F.2.1 dX12_operand_98 (by decide) ?_
      refine a_iast F hP hD hS 100 tc_100 rfl (i_in rfl (by omega)) dX12_operand_103 (fun H locs hP hD hS => ?_)
      have hR := hR.si (c := 100) (k := (u.1 85 41).toNatClampNeg) (v := (20 : Int32)) ⟨i_lo _, i_hi _⟩
      have hF := hF.si (c := 100) (k := (u.1 85 41).toNatClampNeg) (v := (20 : Int32)) rfl
      have hO_SW0 := hK_SW0
      refine lv_aload_n F.1 F.2.1 dX12_operand_104 rfl (lv_at hl 0 rfl) ?_
      refine lv_dup F.1 F.2.1 dX12_operand_105 rfl ?_
      refine a_geti F inX12 hP 85 41 tc_85 rfl rfl (by decide) q1512 (fun _ h9 => h9) (v := (u.1 85 41)) (rfl) dX12_operand_106 ?_
      refine a_ic F (1 : Int32) dX12_operand_109 (by decide) ?_
      refine a_iaddX F dX12_operand_110 rfl ic_1 (by omega) (fun v18 hv18 yv18 => ?_)
      have hC := vl_eq hC yv18
      refine a_puti F inX12 tyX12 tyX12_ok nmX12 hP hD hS 85 41 tc_85 rfl rfl (by decide) q1512 (fun _ h9 => h9) rfl (ty := .int) (tyX12_ok 41 (by decide)) rfl rfl dX12_operand_111 (fun H locs hP hD hS => ?_)
      have hR := hR.si (c := 85) (k := 41) (v := v18) (by omega : (0 : Int) ≤ v18.toInt ∧ v18.toInt ≤ 45)
      have hF := hF.si (c := 85) (k := 41) (v := v18) rfl
      have hO_SW0 := hK_SW0
      have hK_SW0 := sw_ps0 hK_SW0 (t := (u.1 85 41)) (rfl) (i := (u.1 85 41)) (x := (20 : Int32)) (v := v18) (by omega) (by omega) (by omega) (by decide) rfl rfl
      refine lv_aload_n F.1 F.2.1 dX12_operand_114 rfl (lv_at hl 0 rfl) ?_
      refine lv_dup F.1 F.2.1 dX12_operand_115 rfl ?_
      refine a_geti F inX12 hP 85 42 tc_85 rfl rfl (by decide) q1513 (fun _ h9 => h9) (v := (u.1 85 42)) rfl dX12_operand_116 ?_
      refine a_ic F (1 : Int32) dX12_operand_119 (by decide) ?_
      refine a_iaddX F dX12_operand_120 rfl ic_1 (by have q0 := i_lo (u.1 85 42); omega) (fun v19 hv19 yv19 => ?_)
      have hC := vl_eq hC yv19
      refine a_puti F inX12 tyX12 tyX12_ok nmX12 hP hD hS 85 42 tc_85 rfl rfl (by decide) q1513 (fun _ h9 => h9) rfl (ty := .int) (tyX12_ok 42 (by decide)) rfl rfl dX12_operand_121 (fun H locs hP hD hS => ?_)
      have hR := hR.si (c := 85) (k := 42) (v := v19) ⟨i_lo _, i_hi _⟩
      have hF := hF.si (c := 85) (k := 42) (v := v19) rfl
      have hK_SW0 := sp_si (sp_sw _) hK_SW0 (c := 85) (k := 42) (v := v19) (fun j9 h9 q9 => by rw [q9] at h9; exact absurd h9 (by decide))
      refine a_ic F (1 : Int32) dX12_operand_124 (by decide) ?_
      have g20 : (0 : Int) ≤ (u.1 85 40).toInt ∧ (u.1 85 40).toInt ≤ 20 := hR 85 40
      have g21 : (0 : Int) ≤ (u.1 85 39).toInt ∧ (u.1 85 39).toInt ≤ 45 := hR 85 39
      have g22 : (0 : Int) ≤ (u.1 85 43).toInt ∧ (u.1 85 43).toInt ≤ 1 := hR 85 43
      exact a_retz F hr hlocks hP hD hS dX12_operand_125 (Or.inr rfl) ⟨hR, hF, (by decide), (by first | exact (by omega : (1 : Int) ≠ 0 → (u.1 85 40).toInt = (u0.1 85 40).toInt + 1 ∧ (u.1 85 39).toInt + v18.toInt ≤ 2 * (u.1 85 40).toInt - (u.1 85 43).toInt ∧ v18.toInt + 2 * (u.1 85 43).toInt ≤ (u0.1 85 41).toInt + 2) | (rw [ic_1]; exact (by omega : (1 : Int) ≠ 0 → (u.1 85 40).toInt = (u0.1 85 40).toInt + 1 ∧ (u.1 85 39).toInt + v18.toInt ≤ 2 * (u.1 85 40).toInt - (u.1 85 43).toInt ∧ v18.toInt + 2 * (u.1 85 43).toInt ≤ (u0.1 85 41).toInt + 2))), (fun _ => sw_toD hD hK_SW0 (t := (u.1 85 43)) rfl (by first | decide | omega)), hRR.symm.trans hC⟩
  have L56 : ∀ (u : ac_U) (H : Heap) (locs : List Loc) (ls : Array Slot), ac_R rg u → ac_Fr [(85, some 4), (85, some 11), (85, some 12), (85, some 13), (85, some 14), (85, some 15), (85, some 16), (85, some 18), (85, some 39), (85, some 40), (85, some 41), (85, some 42), (85, some 43), (89, none), (100, none)] u0 u → (0 : Int) ≤ (u.1 85 40).toInt ∧ (u.1 85 40).toInt ≤ 20 → (0 : Int) ≤ (u.1 85 43).toInt ∧ (u.1 85 43).toInt ≤ 0 → RR = (K_X12_operand_85_56 u0 u) → va_P (dC, dI) vwCl (ac_w ad cA (TT nF) u) H → va_D A (ac_w ad cA (TT nF) u) → va_S A s.heap H locs → lv_has ls 5 [(0, .ref (ad 85))] → W p l e (ac_rm 3) s m [.ref (ad 85)].toArray below meth c H locs 0 0 (MQ below (va_Qi (fun (r : Int32) (u : ac_U) => ac_R rg u ∧ ac_Fr [(85, some 4), (85, some 11), (85, some 12), (85, some 13), (85, some 14), (85, some 15), (85, some 16), (85, some 18), (85, some 39), (85, some 40), (85, some 41), (85, some 42), (85, some 43), (89, none), (100, none)] u0 u ∧ ((0 : Int) ≤ r.toInt ∧ r.toInt ≤ 1) ∧ (r.toInt ≠ 0 → (u.1 85 40).toInt = (u0.1 85 40).toInt + 1 ∧ (u.1 85 39).toInt + (u.1 85 41).toInt ≤ 2 * (u.1 85 40).toInt - (u.1 85 43).toInt ∧ (u.1 85 41).toInt + 2 * (u.1 85 43).toInt ≤ (u0.1 85 41).toInt + 2) ∧ (r.toInt ≠ 0 → swW u) ∧ f_X12_operand_85 u0 = (u, r)) (ac_B (dC, dI) vwCl (ac_ty cA) ad cA (TT nF) A) A) [.ref (ad 85)].toArray s 0 0 A) (F0 m 56 ls []) := by
    intro u H locs ls hR hF f0 f1 hC hP hD hS hl
    unfold K_X12_operand_85_56 at hC
    refine lv_aload_n F.1 F.2.1 dX12_operand_56 rfl (lv_at hl 0 rfl) ?_
    refine a_ic F (4 : Int32) dX12_operand_57 (by decide) ?_
    have g24 : (0 : Int) ≤ (u.1 85 39).toInt ∧ (u.1 85 39).toInt ≤ 45 := hR 85 39
    have g25 : (0 : Int) ≤ (u.1 85 41).toInt ∧ (u.1 85 41).toInt ≤ 45 := hR 85 41
    have g26 : (0 : Int) ≤ (u.1 85 40).toInt ∧ (u.1 85 40).toInt ≤ 20 := hR 85 40
    have g27 : (0 : Int) ≤ (u.1 85 43).toInt ∧ (u.1 85 43).toInt ≤ 1 := hR 85 43
    refine a_Vi F hml hl.1 hA hP hD hS (As := [.int (4 : Int32)]) (x_X12_bad_85 l dC dI ad cA nF _ (4 : Int32) hR (by decide)) (cs_RX12_181 (d := 1) F.2.2.1 (by decide)) tc_85 rfl rfl rfl rfl (Nat.le_of_ble_eq_true rfl) dX12_operand_58 ⟨Nat.le_refl 0, Nat.le_refl 0⟩ (fun r23 u23 H locs hq hP hD hS => ?_)
    obtain ⟨hR, hF23, gr23, hz23⟩ := hq
    have hF := hF.tr hF23 (by decide)
    have hC := bd_eq hC hz23
    have k28 : (u23.1 85 40).toInt = (u.1 85 40).toInt := congrArg Int32.toInt (show u23.1 85 40 = (u.1 85 40) from hF23 85 40 rfl)
    have k29 : (u23.1 85 39).toInt = (u.1 85 39).toInt := congrArg Int32.toInt (show u23.1 85 39 = (u.1 85 39) from hF23 85 39 rfl)
    have k30 : (u23.1 85 41).toInt = (u.1 85 41).toInt := congrArg Int32.toInt (show u23.1 85 41 = (u.1 85 41) from hF23 85 41 rfl)
    have k31 : (u23.1 85 43).toInt = (u.1 85 43).toInt := congrArg Int32.toInt (show u23.1 85 43 = (u.1 85 43) from hF23 85 43 rfl)
    exact a_retz F hr hlocks hP hD hS dX12_operand_61 (i_01 (by omega)) ⟨hR, hF, (by omega : (0 : Int) ≤ r23.toInt ∧ r23.toInt ≤ 1), (by omega : r23.toInt ≠ 0 → (u23.1 85 40).toInt = (u0.1 85 40).toInt + 1 ∧ (u23.1 85 39).toInt + (u23.1 85 41).toInt ≤ 2 * (u23.1 85 40).toInt - (u23.1 85 43).toInt ∧ (u23.1 85 41).toInt + 2 * (u23.1 85 43).toInt ≤ (u0.1 85 41).toInt + 2), (fun h9 => absurd (by omega : r23.toInt = 0) h9), hRR.symm.trans hC⟩
  have L38 : ∀ (x1 : Int32) (x2 : Int32) (x3 : Int32) (u : ac_U) (H : Heap) (locs : List Loc) (ls : Array Slot), ac_R rg u → ac_Fr [(85, some 4), (85, some 11), (85, some 12), (85, some 13), (85, some 14), (85, some 15), (85, some 16), (85, some 18), (85, some 39), (85, some 40), (85, some 41), (85, some 42), (85, some 43), (89, none), (100, none)] u0 u → (swI 0) u → (0 : Int) ≤ x1.toInt ∧ x1.toInt ≤ 1 → (0 : Int) ≤ x2.toInt ∧ x2.toInt ≤ 1 → (-1 : Int) ≤ x3.toInt ∧ x3.toInt ≤ 9 → (0 : Int) ≤ (u.1 85 43).toInt ∧ (u.1 85 43).toInt ≤ 0 → (u.1 85 40).toInt = (u0.1 85 40).toInt → (u.1 85 39).toInt = (u0.1 85 39).toInt → (u.1 85 41).toInt = (u0.1 85 41).toInt → (u.1 85 43).toInt = 0 → RR = (K_X12_operand_85_38 u0 u x1 x2 x3) → va_P (dC, dI) vwCl (ac_w ad cA (TT nF) u) H → va_D A (ac_w ad cA (TT nF) u) → va_S A s.heap H locs → lv_has ls 5 [(0, .ref (ad 85)), (1, .int x1), (2, .int x2), (3, .int x3)] → W p l e (ac_rm 3) s m [.ref (ad 85)].toArray below meth c H locs 0 0 (MQ below (va_Qi (fun (r : Int32) (u : ac_U) => ac_R rg u ∧ ac_Fr [(85, some 4), (85, some 11), (85, some 12), (85, some 13), (85, some 14), (85, some 15), (85, some 16), (85, some 18), (85, some 39), (85, some 40), (85, some 41), (85, some 42), (85, some 43), (89, none), (100, none)] u0 u ∧ ((0 : Int) ≤ r.toInt ∧ r.toInt ≤ 1) ∧ (r.toInt ≠ 0 → (u.1 85 40).toInt = (u0.1 85 40).toInt + 1 ∧ (u.1 85 39).toInt + (u.1 85 41).toInt ≤ 2 * (u.1 85 40).toInt - (u.1 85 43).toInt ∧ (u.1 85 41).toInt + 2 * (u.1 85 43).toInt ≤ (u0.1 85 41).toInt + 2) ∧ (r.toInt ≠ 0 → swW u) ∧ f_X12_operand_85 u0 = (u, r)) (ac_B (dC, dI) vwCl (ac_ty cA) ad cA (TT nF) A) A) [.ref (ad 85)].toArray s 0 0 A) (F0 m 38 ls []) := by
    intro x1 x2 x3 u H locs ls hR hF hK_SW0 f0 f1 f2 f3 f4 f5 f6 f7 hC hP hD hS hl
    unfold K_X12_operand_85_38 at hC
    refine lv_aload_n F.1 F.2.1 dX12_operand_38 rfl (lv_at hl 0 rfl) ?_
    have g32 : (0 : Int) ≤ (u.1 85 40).toInt ∧ (u.1 85 40).toInt ≤ 20 := hR 85 40
    refine a_geti F inX12 hP 85 40 tc_85 rfl rfl (by decide) q1511 (fun _ h9 => h9) (v := (u.1 85 40)) rfl dX12_operand_39 ?_
    refine a_bp F (20 : Int32) dX12_operand_42 (by decide) ?_
    refine b_eq F 56 dX12_operand_44 (by decide) rfl ic_20 (fun c33 => ?_) (fun c33 => ?_)
    · have hC := hC.trans (if_pos c33)
      have g34 : (0 : Int) ≤ (u.1 85 43).toInt ∧ (u.1 85 43).toInt ≤ 1 := hR 85 43
      exact L56 _ _ _ _ hR hF (by omega : (0 : Int) ≤ (u.1 85 40).toInt ∧ (u.1 85 40).toInt ≤ 20) (by omega : (0 : Int) ≤ (u.1 85 43).toInt ∧ (u.1 85 43).toInt ≤ 0) hC hP hD hS (lv_sub hl [0] rfl)
    · have hC := hC.trans (if_neg (by omega))
      refine lv_aload_n F.1 F.2.1 dX12_operand_47 rfl (lv_at hl 0 rfl) ?_
      refine a_geti F inX12 hP 85 42 tc_85 rfl rfl (by decide) q1513 (fun _ h9 => h9) (v := (u.1 85 42)) rfl dX12_operand_48 ?_
      refine a_bp F (8 : Int32) dX12_operand_51 (by decide) ?_
      refine b_le F 62 dX12_operand_53 (by decide) rfl ic_8 (fun c35 => ?_) (fun c35 => ?_)
      · have hC := hC.trans (if_pos c35)
        refine lv_aload_n F.1 F.2.1 dX12_operand_62 rfl (lv_at hl 0 rfl) ?_
        refine lv_dup F.1 F.2.1 dX12_operand_63 rfl ?_
        refine a_geti F inX12 hP 85 40 tc_85 rfl rfl (by decide) q1511 (fun _ h9 => h9) (v := (u.1 85 40)) (rfl) dX12_operand_64 ?_
        refine a_ic F (1 : Int32) dX12_operand_67 (by decide) ?_
        refine a_iaddX F dX12_operand_68 rfl ic_1 (by omega) (fun v36 hv36 yv36 => ?_)
        have hC := vl_eq hC yv36
        refine a_puti F inX12 tyX12 tyX12_ok nmX12 hP hD hS 85 40 tc_85 rfl rfl (by decide) q1511 (fun _ h9 => h9) rfl (ty := .int) (tyX12_ok 40 (by decide)) rfl rfl dX12_operand_69 (fun H locs hP hD hS => ?_)
        have hR := hR.si (c := 85) (k := 40) (v := v36) (by omega : (0 : Int) ≤ v36.toInt ∧ v36.toInt ≤ 20)
        have hF := hF.si (c := 85) (k := 40) (v := v36) rfl
        have hK_SW0 := sp_si (sp_sw _) hK_SW0 (c := 85) (k := 40) (v := v36) (fun j9 h9 q9 => by rw [q9] at h9; exact absurd h9 (by decide))
        refine lv_aload_n F.1 F.2.1 dX12_operand_72 rfl (lv_at hl 0 rfl) ?_
        have g38 : (0 : Int) ≤ (u.1 85 39).toInt ∧ (u.1 85 39).toInt ≤ 45 := hR 85 39
        have g39 : (0 : Int) ≤ (u.1 85 41).toInt ∧ (u.1 85 41).toInt ≤ 45 := hR 85 41
        have g40 : (0 : Int) ≤ (u.1 85 43).toInt ∧ (u.1 85 43).toInt ≤ 1 := hR 85 43
        refine a_Vv F hml hl.1 hA hP hD hS (As := []) (x_X12_next_85 l dC dI ad cA nF _  hR) (cs_RX12_184 (d := 2) F.2.2.1 (by decide)) tc_85 rfl rfl rfl rfl (Nat.le_of_ble_eq_true rfl) dX12_operand_73 ⟨Nat.le_refl 0, Nat.le_refl 0⟩ (fun u37 H locs hq hP hD hS => ?_)
        obtain ⟨hR, hF37, hz37⟩ := hq
        have hF := hF.tr hF37 (by decide)
        have hK_SW0 := sp_fr (sp_sw _) hF37 (by decide) hK_SW0
        have hC := vl_eq hC hz37.symm
        refine lv_iload_n F.1 F.2.1 dX12_operand_76 rfl (lv_at hl 1 rfl) ?_
        refine z_ne F 84 dX12_operand_77 (by decide) rfl (fun c41 => ?_) (fun c41 => ?_)
        · have hC := hC.trans (if_pos c41)
          exact L84 x1 _ _ _ _ hR hF hK_SW0 (by omega) (i_trB (hF37 85 40 rfl) (by omega : (1 : Int) ≤ v36.toInt ∧ v36.toInt ≤ 20)) (i_trH (hF37 85 42 rfl) (by omega : (u.1 85 42).toInt ≤ 8)) (i_trB (hF37 85 43 rfl) (by omega : (0 : Int) ≤ (u.1 85 43).toInt ∧ (u.1 85 43).toInt ≤ 0)) (by rw [hF37 85 40 rfl]; try exact (by omega : v36.toInt = (u0.1 85 40).toInt + 1)) (by rw [hF37 85 39 rfl]; try exact (by omega : (u.1 85 39).toInt = (u0.1 85 39).toInt)) (by rw [hF37 85 41 rfl]; try exact (by omega : (u.1 85 41).toInt = (u0.1 85 41).toInt)) (by rw [hF37 85 43 rfl]; try exact (by omega : (u.1 85 43).toInt = 0)) hC hP hD hS (lv_sub hl [0, 1] rfl)
        · have hC := hC.trans (if_neg (by omega))
          refine lv_iload_n F.1 F.2.1 dX12_operand_80 rfl (lv_at hl 2 rfl) ?_
          refine z_eq F 126 dX12_operand_81 (by decide) rfl (fun c42 => ?_) (fun c42 => ?_)
          · have hC := hC.trans (if_pos c42)
            have k44 : (u37.1 85 39).toInt = (u.1 85 39).toInt := congrArg Int32.toInt (show u37.1 85 39 = (u.1 85 39) from hF37 85 39 rfl)
            have k45 : (u37.1 85 41).toInt = (u.1 85 41).toInt := congrArg Int32.toInt (show u37.1 85 41 = (u.1 85 41) from hF37 85 41 rfl)
            have k46 : (u37.1 85 40).toInt = v36.toInt := congrArg Int32.toInt (show u37.1 85 40 = v36 from hF37 85 40 rfl)
            have hz43 : 0 ≤ (u37.1 85 39).toInt ∧ (u37.1 85 39).toInt ≤ 45 := hR 85 39
            have hy43 : 0 ≤ (u37.1 85 41).toInt ∧ (u37.1 85 41).toInt ≤ 45 := hR 85 41
            have hx43 : 0 ≤ (u37.1 85 40).toInt ∧ (u37.1 85 40).toInt ≤ 20 := hR 85 40
            refine lv_aload_n F.1 F.2.1 dX12_operand_126 rfl (lv_at hl 0 rfl) ?_
            refine a_ic F (1 : Int32) dX12_operand_127 (by decide) ?_
            refine a_puti F inX12 tyX12 tyX12_ok nmX12 hP hD hS 85 43 tc_85 rfl rfl (by decide) q1514 (fun _ h9 => h9) rfl (ty := .boolean) (tyX12_ok 43 (by decide)) (i_zn (Or.inr rfl)) (i_zf (Or.inr rfl)) dX12_operand_128 (fun H locs hP hD hS => ?_)
            have hR := hR.si (c := 85) (k := 43) (v := (1 : Int32)) (by rw [ic_1]; exact (by omega : (0 : Int) ≤ (1 : Int) ∧ (1 : Int) ≤ 1))
            have hF := hF.si (c := 85) (k := 43) (v := (1 : Int32)) rfl
            have hK_SW0 := sp_si (sp_sw _) hK_SW0 (c := 85) (k := 43) (v := (1 : Int32)) (fun j9 h9 q9 => by rw [q9] at h9; exact absurd h9 (by decide))
            refine lv_iload_n F.1 F.2.1 dX12_operand_131 rfl (lv_at hl 3 rfl) ?_
            refine a_ic F (5 : Int32) dX12_operand_132 (by decide) ?_
            refine b_ge F 145 dX12_operand_133 (by decide) rfl ic_5 (fun c47 => ?_) (fun c47 => ?_)
            · have hC := hC.trans (if_pos c47)
              refine lv_iload_n F.1 F.2.1 dX12_operand_145 rfl (lv_at hl 3 rfl) ?_
              refine a_ic F (5 : Int32) dX12_operand_146 (by decide) ?_
              refine b_ne F 183 dX12_operand_147 (by decide) rfl ic_5 (fun c48 => ?_) (fun c48 => ?_)
              · have hC := hC.trans (if_pos c48)
                refine lv_aload_n F.1 F.2.1 dX12_operand_183 rfl (lv_at hl 0 rfl) ?_
                have g49 : (0 : Int) ≤ (u37.1 85 11).toInt ∧ (u37.1 85 11).toInt ≤ 4 := hR 85 11
                refine a_geti F inX12 hP 85 11 tc_85 rfl rfl (by decide) q1482 (fun _ h9 => h9) (v := (u37.1 85 11)) rfl dX12_operand_184 ?_
                refine a_ic F (3 : Int32) dX12_operand_187 (by decide) ?_
                refine b_ne F 209 dX12_operand_188 (by decide) rfl ic_3 (fun c50 => ?_) (fun c50 => ?_)
                · have hC := hC.trans (if_pos c50)
                  exact L209 _ _ _ _ hR hF (i_trB (hF37 85 40 rfl) (by omega : (1 : Int) ≤ v36.toInt ∧ v36.toInt ≤ 20)) (i_trH (hF37 85 42 rfl) (by omega : (u.1 85 42).toInt ≤ 8)) (by omega : (1 : Int) ≤ (1 : Int) ∧ (1 : Int) ≤ 1) hC hP hD hS (lv_sub hl [0] rfl)
                · have hC := hC.trans (if_neg (by omega))
                  refine lv_aload_n F.1 F.2.1 dX12_operand_191 rfl (lv_at hl 0 rfl) ?_
                  refine a_geti F inX12 hP 85 14 tc_85 rfl rfl (by decide) q1485 (fun _ h9 => h9) (v := (u37.1 85 14)) rfl dX12_operand_192 ?_
                  refine a_bp F (60 : Int32) dX12_operand_195 (by decide) ?_
                  refine b_lt F 209 dX12_operand_197 (by decide) rfl ic_60 (fun c51 => ?_) (fun c51 => ?_)
                  · have hC := hC.trans (if_pos c51)
                    exact L209 _ _ _ _ hR hF (i_trB (hF37 85 40 rfl) (by omega : (1 : Int) ≤ v36.toInt ∧ v36.toInt ≤ 20)) (i_trH (hF37 85 42 rfl) (by omega : (u.1 85 42).toInt ≤ 8)) (by omega : (1 : Int) ≤ (1 : Int) ∧ (1 : Int) ≤ 1) hC hP hD hS (lv_sub hl [0] rfl)
                  · have hC := hC.trans (if_neg (by omega))
                    refine lv_aload_n F.1 F.2.1 dX12_operand_200 rfl (lv_at hl 0 rfl) ?_
                    refine a_geti F inX12 hP 85 14 tc_85 rfl rfl (by decide) q1485 (fun _ h9 => h9) (v := (u37.1 85 14)) (rfl) dX12_operand_201 ?_
                    refine a_bp F (62 : Int32) dX12_operand_204 (by decide) ?_
                    refine b_le F 215 dX12_operand_206 (by decide) rfl ic_62 (fun c52 => ?_) (fun c52 => ?_)
                    · have hC := hC.trans (if_pos c52)
                      refine lv_aload_n F.1 F.2.1 dX12_operand_215 rfl (lv_at hl 0 rfl) ?_
                      refine a_geti F inX12 hP 85 14 tc_85 rfl rfl (by decide) q1485 (fun _ h9 => h9) (v := (u37.1 85 14)) (rfl) dX12_operand_216 ?_
                      refine lv_istore (lv' := [(4, .int (u37.1 85 14)), (0, .ref (ad 85)), (1, .int x1), (2, .int x2), (3, .int x3)]) F.1 F.2.1 dX12_operand_219 hl (by decide) rfl (fun ls hl => ?_)
                      refine lv_aload_n F.1 F.2.1 dX12_operand_221 rfl (lv_at hl 1 rfl) ?_
                      refine a_Vv F hml hl.1 hA hP hD hS (As := []) (x_X12_next_85 l dC dI ad cA nF _  hR) (cs_RX12_184 (d := 2) F.2.2.1 (by decide)) tc_85 rfl rfl rfl rfl (Nat.le_of_ble_eq_true rfl) dX12_operand_222 ⟨Nat.le_refl 0, Nat.le_refl 0⟩ (fun u53 H locs hq hP hD hS => ?_)
                      obtain ⟨hR, hF53, hz53⟩ := hq
                      have hF := hF.tr hF53 (by decide)
                      have hK_SW0 := sp_fr (sp_sw _) hF53 (by decide) hK_SW0
                      have hC := vl_eq hC hz53.symm
                      refine lv_aload_n F.1 F.2.1 dX12_operand_225 rfl (lv_at hl 1 rfl) ?_
                      have g54 : (0 : Int) ≤ (u53.1 85 11).toInt ∧ (u53.1 85 11).toInt ≤ 4 := hR 85 11
                      refine a_geti F inX12 hP 85 11 tc_85 rfl rfl (by decide) q1482 (fun _ h9 => h9) (v := (u53.1 85 11)) rfl dX12_operand_226 ?_
                      refine a_ic F (2 : Int32) dX12_operand_229 (by decide) ?_
                      refine b_eq F 239 dX12_operand_230 (by decide) rfl ic_2 (fun c55 => ?_) (fun c55 => ?_)
                      · have hC := hC.trans (if_pos c55)
                        refine lv_aload_n F.1 F.2.1 dX12_operand_239 rfl (lv_at hl 1 rfl) ?_
                        refine lv_iload_n F.1 F.2.1 dX12_operand_240 rfl (lv_at hl 4 rfl) ?_
                        refine lv_iload F.1 F.2.1 dX12_operand_241 (lv_at hl 0 rfl) ?_
                        refine lv_aload_n F.1 F.2.1 dX12_operand_243 rfl (lv_at hl 1 rfl) ?_
                        refine a_geti F inX12 hP 85 14 tc_85 rfl rfl (by decide) q1485 (fun _ h9 => h9) (v := (u53.1 85 14)) rfl dX12_operand_244 ?_
                        have hP_SW0 := hK_SW0
                        have k57 : (u53.1 85 39).toInt = (u.1 85 39).toInt := congrArg Int32.toInt (show u53.1 85 39 = (u.1 85 39) from (hF53 85 39 rfl).trans (hF37 85 39 rfl))
                        refine a_Vv F hml hl.1 hA hP hD hS (As := [.int x3, .int (u37.1 85 14), .int (u53.1 85 14)]) (x_X12_code_85 l dC dI ad cA nF _ x3 (u37.1 85 14) (u53.1 85 14) hR (i_trB ((hF53 85 39 rfl).trans (hF37 85 39 rfl)) (by omega : (0 : Int) ≤ (u.1 85 39).toInt ∧ (u.1 85 39).toInt ≤ 44))) (cs_RX12_419 (d := 1) F.2.2.1 (by decide)) tc_85 rfl rfl rfl rfl (Nat.le_of_ble_eq_true rfl) dX12_operand_247 ⟨Nat.le_refl 0, Nat.le_refl 0⟩ (fun u56 H locs hq hP hD hS => ?_)
                        obtain ⟨hR, hF56, xr56, hE_r56, hz56⟩ := hq
                        have hF := hF.tr hF56 (by decide)
                        have hK_SW1 := cd_leaf hE_r56 hK_SW0 (by omega)
                        have g58 : (0 : Int) ≤ (u56.1 85 39).toInt ∧ (u56.1 85 39).toInt ≤ 45 := hR 85 39
                        have xr56 : (u56.1 85 39).toInt = (u53.1 85 39).toInt + 1 := xr56
                        have hC := vl_eq hC hz56.symm
                        refine lv_aload_n F.1 F.2.1 dX12_operand_250 rfl (lv_at hl 1 rfl) ?_
                        refine a_Vv F hml hl.1 hA hP hD hS (As := []) (x_X12_next_85 l dC dI ad cA nF _  hR) (cs_RX12_184 (d := 2) F.2.2.1 (by decide)) tc_85 rfl rfl rfl rfl (Nat.le_of_ble_eq_true rfl) dX12_operand_251 ⟨Nat.le_refl 0, Nat.le_refl 0⟩ (fun u59 H locs hq hP hD hS => ?_)
                        obtain ⟨hR, hF59, hz59⟩ := hq
                        have hF := hF.tr hF59 (by decide)
                        have hK_SW1 := sp_fr (sp_sw _) hF59 (by decide) hK_SW1
                        have hC := vl_eq hC hz59.symm
                        refine a_ic F (1 : Int32) dX12_operand_254 (by decide) ?_
                        have k60 : (u59.1 85 40).toInt = v36.toInt := congrArg Int32.toInt (show u59.1 85 40 = v36 from (hF59 85 40 rfl).trans ((hF56 85 40 rfl).trans ((hF53 85 40 rfl).trans (hF37 85 40 rfl))))
                        have k61 : (u59.1 85 39).toInt = (u56.1 85 39).toInt := congrArg Int32.toInt (show u59.1 85 39 = (u56.1 85 39) from hF59 85 39 rfl)
                        have k62 : (u59.1 85 41).toInt = (u.1 85 41).toInt := congrArg Int32.toInt (show u59.1 85 41 = (u.1 85 41) from (hF59 85 41 rfl).trans ((hF56 85 41 rfl).trans ((hF53 85 41 rfl).trans (hF37 85 41 rfl))))
                        have k63 : (u59.1 85 43).toInt = (1 : Int32).toInt := congrArg Int32.toInt (show u59.1 85 43 = (1 : Int32) from (hF59 85 43 rfl).trans ((hF56 85 43 rfl).trans (hF53 85 43 rfl)))
                        rw [ic_1] at k63
                        exact a_retz F hr hlocks hP hD hS dX12_operand_255 (Or.inr rfl) ⟨hR, hF, (by decide), (by first | exact (by omega : (1 : Int) ≠ 0 → (u59.1 85 40).toInt = (u0.1 85 40).toInt + 1 ∧ (u59.1 85 39).toInt + (u59.1 85 41).toInt ≤ 2 * (u59.1 85 40).toInt - (u59.1 85 43).toInt ∧ (u59.1 85 41).toInt + 2 * (u59.1 85 43).toInt ≤ (u0.1 85 41).toInt + 2) | (rw [ic_1]; exact (by omega : (1 : Int) ≠ 0 → (u59.1 85 40).toInt = (u0.1 85 40).toInt + 1 ∧ (u59.1 85 39).toInt + (u59.1 85 41).toInt ≤ 2 * (u59.1 85 40).toInt - (u59.1 85 43).toInt ∧ (u59.1 85 41).toInt + 2 * (u59.1 85 43).toInt ≤ (u0.1 85 41).toInt + 2))), (fun _ => sw_toD hD hK_SW1 (t := (1 : Int32)) ((hF59 85 43 rfl).trans ((hF56 85 43 rfl).trans (hF53 85 43 rfl))) (by first | decide | omega)), hRR.symm.trans hC⟩
                      · have hC := hC.trans (if_neg (by omega))
                        refine lv_aload_n F.1 F.2.1 dX12_operand_233 rfl (lv_at hl 1 rfl) ?_
                        refine a_ic F (1 : Int32) dX12_operand_234 (by decide) ?_
                        refine a_Vi F hml hl.1 hA hP hD hS (As := [.int (1 : Int32)]) (x_X12_bad_85 l dC dI ad cA nF _ (1 : Int32) hR (by decide)) (cs_RX12_181 (d := 1) F.2.2.1 (by decide)) tc_85 rfl rfl rfl rfl (Nat.le_of_ble_eq_true rfl) dX12_operand_235 ⟨Nat.le_refl 0, Nat.le_refl 0⟩ (fun r64 u64 H locs hq hP hD hS => ?_)
                        obtain ⟨hR, hF64, gr64, hz64⟩ := hq
                        have hF := hF.tr hF64 (by decide)
                        have hK_SW0 := sp_fr (sp_sw _) hF64 (by decide) hK_SW0
                        have hC := bd_eq hC hz64
                        have k65 : (u64.1 85 40).toInt = v36.toInt := congrArg Int32.toInt (show u64.1 85 40 = v36 from (hF64 85 40 rfl).trans ((hF53 85 40 rfl).trans (hF37 85 40 rfl)))
                        have k66 : (u64.1 85 39).toInt = (u.1 85 39).toInt := congrArg Int32.toInt (show u64.1 85 39 = (u.1 85 39) from (hF64 85 39 rfl).trans ((hF53 85 39 rfl).trans (hF37 85 39 rfl)))
                        have k67 : (u64.1 85 41).toInt = (u.1 85 41).toInt := congrArg Int32.toInt (show u64.1 85 41 = (u.1 85 41) from (hF64 85 41 rfl).trans ((hF53 85 41 rfl).trans (hF37 85 41 rfl)))
                        have k68 : (u64.1 85 43).toInt = (1 : Int32).toInt := congrArg Int32.toInt (show u64.1 85 43 = (1 : Int32) from (hF64 85 43 rfl).trans (hF53 85 43 rfl))
                        rw [ic_1] at k68
                        exact a_retz F hr hlocks hP hD hS dX12_operand_238 (i_01 (by omega)) ⟨hR, hF, (by omega : (0 : Int) ≤ r64.toInt ∧ r64.toInt ≤ 1), (by omega : r64.toInt ≠ 0 → (u64.1 85 40).toInt = (u0.1 85 40).toInt + 1 ∧ (u64.1 85 39).toInt + (u64.1 85 41).toInt ≤ 2 * (u64.1 85 40).toInt - (u64.1 85 43).toInt ∧ (u64.1 85 41).toInt + 2 * (u64.1 85 43).toInt ≤ (u0.1 85 41).toInt + 2), (fun h9 => absurd (by omega : r64.toInt = 0) h9), hRR.symm.trans hC⟩
                    · have hC := hC.trans (if_neg (by omega))
                      exact L209 _ _ _ _ hR hF (i_trB (hF37 85 40 rfl) (by omega : (1 : Int) ≤ v36.toInt ∧ v36.toInt ≤ 20)) (i_trH (hF37 85 42 rfl) (by omega : (u.1 85 42).toInt ≤ 8)) (by omega : (1 : Int) ≤ (1 : Int) ∧ (1 : Int) ≤ 1) hC hP hD hS (lv_sub hl [0] rfl)
              · have hC := hC.trans (if_neg (by omega))
                refine lv_aload_n F.1 F.2.1 dX12_operand_150 rfl (lv_at hl 0 rfl) ?_
                refine a_bp F (8 : Int32) dX12_operand_151 (by decide) ?_
                refine lv_aload_n F.1 F.2.1 dX12_operand_153 rfl (lv_at hl 0 rfl) ?_
                refine a_getr F inX12 hP 85 6 tc_85 rfl rfl (by decide) q1477 (fun _ h9 => h9) dX12_operand_154 ?_
                refine a_ic F (4 : Int32) dX12_operand_157 (by decide) ?_
                have g69 : (0 : Int) ≤ (u37.1 87 4).toInt ∧ (u37.1 87 4).toInt ≤ 4 := hR 87 4
                refine a_ialdK F hP 87 4 tc_87 rfl rfl (i_in ic_4 (by omega)) (v := (u37.1 87 4)) rfl dX12_operand_158 ?_
                refine a_Vi F hml hl.1 hA hP hD hS (As := [.int (8 : Int32), .int (u37.1 87 4)]) (x_X12_looksAt_85 l dC dI ad cA nF _ (8 : Int32) (u37.1 87 4) hR (by decide) (by omega) (by simp only [ic_8]; omega)) (cs_RX12_202 (d := 2) F.2.2.1 (by decide)) tc_85 rfl rfl rfl rfl (Nat.le_of_ble_eq_true rfl) dX12_operand_159 ⟨Nat.le_refl 0, Nat.le_refl 0⟩ (fun r70 u70 H locs hq hP hD hS => ?_)
                obtain ⟨hR, hF70, gr70, xr70, hz70⟩ := hq
                have hF := hF.tr hF70 (by decide)
                have hK_SW0 := sp_fr (sp_sw _) hF70 (by decide) hK_SW0
                have xr70 : r70.toInt ≠ 0 → 0 ≤ (u70.1 85 18).toInt ∧ (u70.1 85 18).toInt < (u37.1 87 4).toInt := xr70
                have hC := bd_eq hC hz70
                refine z_ne F 167 dX12_operand_162 (by decide) rfl (fun c71 => ?_) (fun c71 => ?_)
                · have hC := hC.trans (if_pos c71)
                  refine lv_aload_n F.1 F.2.1 dX12_operand_167 rfl (lv_at hl 0 rfl) ?_
                  refine lv_iload_n F.1 F.2.1 dX12_operand_168 rfl (lv_at hl 3 rfl) ?_
                  refine a_ic F (0 : Int32) dX12_operand_169 (by decide) ?_
                  refine lv_aload_n F.1 F.2.1 dX12_operand_170 rfl (lv_at hl 0 rfl) ?_
                  refine a_geti F inX12 hP 85 18 tc_85 rfl rfl (by decide) q1489 (fun _ h9 => h9) (v := (u70.1 85 18)) (rfl) dX12_operand_171 ?_
                  have hP_SW0 := hK_SW0
                  have k73 : (u70.1 85 39).toInt = (u.1 85 39).toInt := congrArg Int32.toInt (show u70.1 85 39 = (u.1 85 39) from (hF70 85 39 rfl).trans (hF37 85 39 rfl))
                  refine a_Vv F hml hl.1 hA hP hD hS (As := [.int x3, .int (0 : Int32), .int (u70.1 85 18)]) (x_X12_code_85 l dC dI ad cA nF _ x3 (0 : Int32) (u70.1 85 18) hR (i_trB ((hF70 85 39 rfl).trans (hF37 85 39 rfl)) (by omega : (0 : Int) ≤ (u.1 85 39).toInt ∧ (u.1 85 39).toInt ≤ 44))) (cs_RX12_419 (d := 1) F.2.2.1 (by decide)) tc_85 rfl rfl rfl rfl (Nat.le_of_ble_eq_true rfl) dX12_operand_174 ⟨Nat.le_refl 0, Nat.le_refl 0⟩ (fun u72 H locs hq hP hD hS => ?_)
                  obtain ⟨hR, hF72, xr72, hE_r72, hz72⟩ := hq
                  have hF := hF.tr hF72 (by decide)
                  have hK_SW1 := cd_leaf hE_r72 hK_SW0 (by omega)
                  have g74 : (0 : Int) ≤ (u72.1 85 39).toInt ∧ (u72.1 85 39).toInt ≤ 45 := hR 85 39
                  have xr72 : (u72.1 85 39).toInt = (u70.1 85 39).toInt + 1 := xr72
                  have hC := vl_eq hC hz72.symm
                  refine lv_aload_n F.1 F.2.1 dX12_operand_177 rfl (lv_at hl 0 rfl) ?_
                  refine a_Vv F hml hl.1 hA hP hD hS (As := []) (x_X12_next_85 l dC dI ad cA nF _  hR) (cs_RX12_184 (d := 2) F.2.2.1 (by decide)) tc_85 rfl rfl rfl rfl (Nat.le_of_ble_eq_true rfl) dX12_operand_178 ⟨Nat.le_refl 0, Nat.le_refl 0⟩ (fun u75 H locs hq hP hD hS => ?_)
                  obtain ⟨hR, hF75, hz75⟩ := hq
                  have hF := hF.tr hF75 (by decide)
                  have hK_SW1 := sp_fr (sp_sw _) hF75 (by decide) hK_SW1
                  have hC := vl_eq hC hz75.symm
                  refine a_ic F (1 : Int32) dX12_operand_181 (by decide) ?_
                  have k76 : (u75.1 85 40).toInt = v36.toInt := congrArg Int32.toInt (show u75.1 85 40 = v36 from (hF75 85 40 rfl).trans ((hF72 85 40 rfl).trans ((hF70 85 40 rfl).trans (hF37 85 40 rfl))))
                  have k77 : (u75.1 85 39).toInt = (u72.1 85 39).toInt := congrArg Int32.toInt (show u75.1 85 39 = (u72.1 85 39) from hF75 85 39 rfl)
                  have k78 : (u75.1 85 41).toInt = (u.1 85 41).toInt := congrArg Int32.toInt (show u75.1 85 41 = (u.1 85 41) from (hF75 85 41 rfl).trans ((hF72 85 41 rfl).trans ((hF70 85 41 rfl).trans (hF37 85 41 rfl))))
                  have k79 : (u75.1 85 43).toInt = (1 : Int32).toInt := congrArg Int32.toInt (show u75.1 85 43 = (1 : Int32) from (hF75 85 43 rfl).trans ((hF72 85 43 rfl).trans (hF70 85 43 rfl)))
                  rw [ic_1] at k79
                  exact a_retz F hr hlocks hP hD hS dX12_operand_182 (Or.inr rfl) ⟨hR, hF, (by decide), (by first | exact (by omega : (1 : Int) ≠ 0 → (u75.1 85 40).toInt = (u0.1 85 40).toInt + 1 ∧ (u75.1 85 39).toInt + (u75.1 85 41).toInt ≤ 2 * (u75.1 85 40).toInt - (u75.1 85 43).toInt ∧ (u75.1 85 41).toInt + 2 * (u75.1 85 43).toInt ≤ (u0.1 85 41).toInt + 2) | (rw [ic_1]; exact (by omega : (1 : Int) ≠ 0 → (u75.1 85 40).toInt = (u0.1 85 40).toInt + 1 ∧ (u75.1 85 39).toInt + (u75.1 85 41).toInt ≤ 2 * (u75.1 85 40).toInt - (u75.1 85 43).toInt ∧ (u75.1 85 41).toInt + 2 * (u75.1 85 43).toInt ≤ (u0.1 85 41).toInt + 2))), (fun _ => sw_toD hD hK_SW1 (t := (1 : Int32)) ((hF75 85 43 rfl).trans ((hF72 85 43 rfl).trans (hF70 85 43 rfl))) (by first | decide | omega)), hRR.symm.trans hC⟩
                · have hC := hC.trans (if_neg (by omega))
                  refine a_ic F (0 : Int32) dX12_operand_165 (by decide) ?_
                  have k80 : (u70.1 85 40).toInt = v36.toInt := congrArg Int32.toInt (show u70.1 85 40 = v36 from (hF70 85 40 rfl).trans (hF37 85 40 rfl))
                  have k81 : (u70.1 85 39).toInt = (u.1 85 39).toInt := congrArg Int32.toInt (show u70.1 85 39 = (u.1 85 39) from (hF70 85 39 rfl).trans (hF37 85 39 rfl))
                  have k82 : (u70.1 85 41).toInt = (u.1 85 41).toInt := congrArg Int32.toInt (show u70.1 85 41 = (u.1 85 41) from (hF70 85 41 rfl).trans (hF37 85 41 rfl))
                  have k83 : (u70.1 85 43).toInt = (1 : Int32).toInt := congrArg Int32.toInt (show u70.1 85 43 = (1 : Int32) from hF70 85 43 rfl)
                  rw [ic_1] at k83
                  exact a_retz F hr hlocks hP hD hS dX12_operand_166 (Or.inl rfl) ⟨hR, hF, (by decide), (by first | exact (by omega : (0 : Int) ≠ 0 → (u70.1 85 40).toInt = (u0.1 85 40).toInt + 1 ∧ (u70.1 85 39).toInt + (u70.1 85 41).toInt ≤ 2 * (u70.1 85 40).toInt - (u70.1 85 43).toInt ∧ (u70.1 85 41).toInt + 2 * (u70.1 85 43).toInt ≤ (u0.1 85 41).toInt + 2) | (rw [ic_0]; exact (by omega : (0 : Int) ≠ 0 → (u70.1 85 40).toInt = (u0.1 85 40).toInt + 1 ∧ (u70.1 85 39).toInt + (u70.1 85 41).toInt ≤ 2 * (u70.1 85 40).toInt - (u70.1 85 43).toInt ∧ (u70.1 85 41).toInt + 2 * (u70.1 85 43).toInt ≤ (u0.1 85 41).toInt + 2))), (fun h9 => absurd (by decide) h9), hRR.symm.trans hC⟩
            · have hC := hC.trans (if_neg (by omega))
              refine lv_aload_n F.1 F.2.1 dX12_operand_136 rfl (lv_at hl 0 rfl) ?_
              refine lv_iload_n F.1 F.2.1 dX12_operand_137 rfl (lv_at hl 3 rfl) ?_
              refine a_ic F (0 : Int32) dX12_operand_138 (by decide) ?_
              refine a_ic F (0 : Int32) dX12_operand_139 (by decide) ?_
              have hP_SW0 := hK_SW0
              refine a_Vv F hml hl.1 hA hP hD hS (As := [.int x3, .int (0 : Int32), .int (0 : Int32)]) (x_X12_code_85 l dC dI ad cA nF _ x3 (0 : Int32) (0 : Int32) hR (i_trB (hF37 85 39 rfl) (by omega : (0 : Int) ≤ (u.1 85 39).toInt ∧ (u.1 85 39).toInt ≤ 44))) (cs_RX12_419 (d := 1) F.2.2.1 (by decide)) tc_85 rfl rfl rfl rfl (Nat.le_of_ble_eq_true rfl) dX12_operand_140 ⟨Nat.le_refl 0, Nat.le_refl 0⟩ (fun u84 H locs hq hP hD hS => ?_)
              obtain ⟨hR, hF84, xr84, hE_r84, hz84⟩ := hq
              have hF := hF.tr hF84 (by decide)
              have hK_SW1 := cd_leaf hE_r84 hK_SW0 (by omega)
              have g85 : (0 : Int) ≤ (u84.1 85 39).toInt ∧ (u84.1 85 39).toInt ≤ 45 := hR 85 39
              have xr84 : (u84.1 85 39).toInt = (u37.1 85 39).toInt + 1 := xr84
              have hC := vl_eq hC hz84.symm
              refine a_ic F (1 : Int32) dX12_operand_143 (by decide) ?_
              have k86 : (u84.1 85 40).toInt = v36.toInt := congrArg Int32.toInt (show u84.1 85 40 = v36 from (hF84 85 40 rfl).trans (hF37 85 40 rfl))
              have k87 : (u84.1 85 41).toInt = (u.1 85 41).toInt := congrArg Int32.toInt (show u84.1 85 41 = (u.1 85 41) from (hF84 85 41 rfl).trans (hF37 85 41 rfl))
              have k88 : (u84.1 85 43).toInt = (1 : Int32).toInt := congrArg Int32.toInt (show u84.1 85 43 = (1 : Int32) from hF84 85 43 rfl)
              rw [ic_1] at k88
              exact a_retz F hr hlocks hP hD hS dX12_operand_144 (Or.inr rfl) ⟨hR, hF, (by decide), (by first | exact (by omega : (1 : Int) ≠ 0 → (u84.1 85 40).toInt = (u0.1 85 40).toInt + 1 ∧ (u84.1 85 39).toInt + (u84.1 85 41).toInt ≤ 2 * (u84.1 85 40).toInt - (u84.1 85 43).toInt ∧ (u84.1 85 41).toInt + 2 * (u84.1 85 43).toInt ≤ (u0.1 85 41).toInt + 2) | (rw [ic_1]; exact (by omega : (1 : Int) ≠ 0 → (u84.1 85 40).toInt = (u0.1 85 40).toInt + 1 ∧ (u84.1 85 39).toInt + (u84.1 85 41).toInt ≤ 2 * (u84.1 85 40).toInt - (u84.1 85 43).toInt ∧ (u84.1 85 41).toInt + 2 * (u84.1 85 43).toInt ≤ (u0.1 85 41).toInt + 2))), (fun _ => sw_toD hD hK_SW1 (t := (1 : Int32)) (hF84 85 43 rfl) (by first | decide | omega)), hRR.symm.trans hC⟩
          · have hC := hC.trans (if_neg (by omega))
            exact L84 x1 _ _ _ _ hR hF hK_SW0 (by omega) (i_trB (hF37 85 40 rfl) (by omega : (1 : Int) ≤ v36.toInt ∧ v36.toInt ≤ 20)) (i_trH (hF37 85 42 rfl) (by omega : (u.1 85 42).toInt ≤ 8)) (i_trB (hF37 85 43 rfl) (by omega : (0 : Int) ≤ (u.1 85 43).toInt ∧ (u.1 85 43).toInt ≤ 0)) (by rw [hF37 85 40 rfl]; try exact (by omega : v36.toInt = (u0.1 85 40).toInt + 1)) (by rw [hF37 85 39 rfl]; try exact (by omega : (u.1 85 39).toInt = (u0.1 85 39).toInt)) (by rw [hF37 85 41 rfl]; try exact (by omega : (u.1 85 41).toInt = (u0.1 85 41).toInt)) (by rw [hF37 85 43 rfl]; try exact (by omega : (u.1 85 43).toInt = 0)) hC hP hD hS (lv_sub hl [0, 1] rfl)
      · have hC := hC.trans (if_neg (by omega))
        have g89 : (0 : Int) ≤ (u.1 85 43).toInt ∧ (u.1 85 43).toInt ≤ 1 := hR 85 43
        exact L56 _ _ _ _ hR hF (by omega : (0 : Int) ≤ (u.1 85 40).toInt ∧ (u.1 85 40).toInt ≤ 20) (by omega : (0 : Int) ≤ (u.1 85 43).toInt ∧ (u.1 85 43).toInt ≤ 0) hC hP hD hS (lv_sub hl [0] rfl)
  have hC : RR = f_X12_operand_85 u0 := hRR
  unfold f_X12_operand_85 at hC
  refine lv_aload_n F.1 F.2.1 dX12_operand_0 rfl (lv_at hl 0 rfl) ?_
  refine lv_ldc2 (v := (7237492 : Int64)) F.1 F.2.1 F.2.2.2.1 (F.2.2.1 _ q1460) dX12_operand_1 ?_
  refine a_Vi F hml hl.1 hA hP hD hS (As := [.long (7237492 : Int64)]) (x_X12_isWord_85 l dC dI ad cA nF _ (7237492 : Int64) hR) (cs_RX12_206 (d := 1) F.2.2.1 (by decide)) tc_85 rfl rfl rfl rfl (Nat.le_of_ble_eq_true rfl) dX12_operand_4 ⟨Nat.le_refl 0, Nat.le_refl 0⟩ (fun r90 uN90 H locs hq hP hD hS => ?_)
  obtain ⟨hu90, gr90, hz90⟩ := hq
  rw [hu90] at hP hD
  have hC := vl_eq hC hz90.symm
  refine lv_istore_n (lv' := [(1, .int r90), (0, .ref (ad 85))]) F.1 F.2.1 dX12_operand_7 rfl hl (by decide) rfl (fun ls hl => ?_)
  refine lv_aload_n F.1 F.2.1 dX12_operand_8 rfl (lv_at hl 1 rfl) ?_
  refine a_bp F (40 : Int32) dX12_operand_9 (by decide) ?_
  refine a_Vi F hml hl.1 hA hP hD hS (As := [.int (40 : Int32)]) (x_X12_isSign_85 l dC dI ad cA nF _ (40 : Int32) hR (by decide)) (cs_RX12_178 (d := 1) F.2.2.1 (by decide)) tc_85 rfl rfl rfl rfl (Nat.le_of_ble_eq_true rfl) dX12_operand_11 ⟨Nat.le_refl 0, Nat.le_refl 0⟩ (fun r91 uN91 H locs hq hP hD hS => ?_)
  obtain ⟨hu91, gr91, hz91⟩ := hq
  rw [hu91] at hP hD
  have hC := vl_eq hC hz91.symm
  refine lv_istore_n (lv' := [(2, .int r91), (1, .int r90), (0, .ref (ad 85))]) F.1 F.2.1 dX12_operand_14 rfl hl (by decide) rfl (fun ls hl => ?_)
  refine lv_aload_n F.1 F.2.1 dX12_operand_15 rfl (lv_at hl 2 rfl) ?_
  refine a_Vi F hml hl.1 hA hP hD hS (As := []) (x_X12_leafOf_85 l dC dI ad cA nF _  hR) (cs_RX12_426 (d := 2) F.2.2.1 (by decide)) tc_85 rfl rfl rfl rfl (Nat.le_of_ble_eq_true rfl) dX12_operand_16 ⟨Nat.le_refl 0, Nat.le_refl 0⟩ (fun r92 uN92 H locs hq hP hD hS => ?_)
  obtain ⟨hu92, gr92, hz92⟩ := hq
  rw [hu92] at hP hD
  have hC := vl_eq hC hz92.symm
  refine lv_istore_n (lv' := [(3, .int r92), (2, .int r91), (1, .int r90), (0, .ref (ad 85))]) F.1 F.2.1 dX12_operand_19 rfl hl (by decide) rfl (fun ls hl => ?_)
  refine lv_iload_n F.1 F.2.1 dX12_operand_20 rfl (lv_at hl 2 rfl) ?_
  refine z_ne F 38 dX12_operand_21 (by decide) rfl (fun c93 => ?_) (fun c93 => ?_)
  · have hC := hC.trans (if_pos c93)
    have g94 : (0 : Int) ≤ (u0.1 85 43).toInt ∧ (u0.1 85 43).toInt ≤ 1 := hR 85 43
    have g95 : (0 : Int) ≤ (u0.1 85 40).toInt ∧ (u0.1 85 40).toInt ≤ 20 := hR 85 40
    have g96 : (0 : Int) ≤ (u0.1 85 39).toInt ∧ (u0.1 85 39).toInt ≤ 45 := hR 85 39
    have g97 : (0 : Int) ≤ (u0.1 85 41).toInt ∧ (u0.1 85 41).toInt ≤ 45 := hR 85 41
    exact L38 r90 r91 r92 _ _ _ _ hR hF hK_SW0 (by omega) (by omega) (by omega) (by omega : (0 : Int) ≤ (u0.1 85 43).toInt ∧ (u0.1 85 43).toInt ≤ 0) (by omega : (u0.1 85 40).toInt = (u0.1 85 40).toInt) (by omega : (u0.1 85 39).toInt = (u0.1 85 39).toInt) (by omega : (u0.1 85 41).toInt = (u0.1 85 41).toInt) (by omega : (u0.1 85 43).toInt = 0) hC hP hD hS (lv_sub hl [3, 2, 1, 0] rfl)
  · have hC := hC.trans (if_neg (by omega))
    refine lv_iload_n F.1 F.2.1 dX12_operand_24 rfl (lv_at hl 1 rfl) ?_
    refine z_ne F 38 dX12_operand_25 (by decide) rfl (fun c98 => ?_) (fun c98 => ?_)
    · have hC := hC.trans (if_pos c98)
      have g99 : (0 : Int) ≤ (u0.1 85 43).toInt ∧ (u0.1 85 43).toInt ≤ 1 := hR 85 43
      have g100 : (0 : Int) ≤ (u0.1 85 40).toInt ∧ (u0.1 85 40).toInt ≤ 20 := hR 85 40
      have g101 : (0 : Int) ≤ (u0.1 85 39).toInt ∧ (u0.1 85 39).toInt ≤ 45 := hR 85 39
      have g102 : (0 : Int) ≤ (u0.1 85 41).toInt ∧ (u0.1 85 41).toInt ≤ 45 := hR 85 41
      exact L38 r90 r91 r92 _ _ _ _ hR hF hK_SW0 (by omega) (by omega) (by omega) (by omega : (0 : Int) ≤ (u0.1 85 43).toInt ∧ (u0.1 85 43).toInt ≤ 0) (by omega : (u0.1 85 40).toInt = (u0.1 85 40).toInt) (by omega : (u0.1 85 39).toInt = (u0.1 85 39).toInt) (by omega : (u0.1 85 41).toInt = (u0.1 85 41).toInt) (by omega : (u0.1 85 43).toInt = 0) hC hP hD hS (lv_sub hl [3, 2, 1, 0] rfl)
    · have hC := hC.trans (if_neg (by omega))
      refine lv_iload_n F.1 F.2.1 dX12_operand_28 rfl (lv_at hl 0 rfl) ?_
      refine z_ge F 38 dX12_operand_29 (by decide) rfl (fun c103 => ?_) (fun c103 => ?_)
      · have hC := hC.trans (if_pos c103)
        have g104 : (0 : Int) ≤ (u0.1 85 43).toInt ∧ (u0.1 85 43).toInt ≤ 1 := hR 85 43
        have g105 : (0 : Int) ≤ (u0.1 85 40).toInt ∧ (u0.1 85 40).toInt ≤ 20 := hR 85 40
        have g106 : (0 : Int) ≤ (u0.1 85 39).toInt ∧ (u0.1 85 39).toInt ≤ 45 := hR 85 39
        have g107 : (0 : Int) ≤ (u0.1 85 41).toInt ∧ (u0.1 85 41).toInt ≤ 45 := hR 85 41
        exact L38 r90 r91 r92 _ _ _ _ hR hF hK_SW0 (by omega) (by omega) (by omega) (by omega : (0 : Int) ≤ (u0.1 85 43).toInt ∧ (u0.1 85 43).toInt ≤ 0) (by omega : (u0.1 85 40).toInt = (u0.1 85 40).toInt) (by omega : (u0.1 85 39).toInt = (u0.1 85 39).toInt) (by omega : (u0.1 85 41).toInt = (u0.1 85 41).toInt) (by omega : (u0.1 85 43).toInt = 0) hC hP hD hS (lv_sub hl [3, 2, 1, 0] rfl)
      · have hC := hC.trans (if_neg (by omega))
        refine lv_aload_n F.1 F.2.1 dX12_operand_32 rfl (lv_at hl 3 rfl) ?_
        refine a_ic F (1 : Int32) dX12_operand_33 (by decide) ?_
        have g109 : (0 : Int) ≤ (u0.1 85 39).toInt ∧ (u0.1 85 39).toInt ≤ 45 := hR 85 39
        have g110 : (0 : Int) ≤ (u0.1 85 41).toInt ∧ (u0.1 85 41).toInt ≤ 45 := hR 85 41
        have g111 : (0 : Int) ≤ (u0.1 85 40).toInt ∧ (u0.1 85 40).toInt ≤ 20 := hR 85 40
        have g112 : (0 : Int) ≤ (u0.1 85 43).toInt ∧ (u0.1 85 43).toInt ≤ 1 := hR 85 43
        refine a_Vi F hml hl.1 hA hP hD hS (As := [.int (1 : Int32)]) (x_X12_bad_85 l dC dI ad cA nF _ (1 : Int32) hR (by decide)) (cs_RX12_181 (d := 1) F.2.2.1 (by decide)) tc_85 rfl rfl rfl rfl (Nat.le_of_ble_eq_true rfl) dX12_operand_34 ⟨Nat.le_refl 0, Nat.le_refl 0⟩ (fun r108 u108 H locs hq hP hD hS => ?_)
        obtain ⟨hR, hF108, gr108, hz108⟩ := hq
        have hF := hF.tr hF108 (by decide)
        have hK_SW0 := sp_fr (sp_sw _) hF108 (by decide) hK_SW0
        have hC := bd_eq hC hz108
        have k113 : (u108.1 85 40).toInt = (u0.1 85 40).toInt := congrArg Int32.toInt (show u108.1 85 40 = (u0.1 85 40) from hF108 85 40 rfl)
        have k114 : (u108.1 85 39).toInt = (u0.1 85 39).toInt := congrArg Int32.toInt (show u108.1 85 39 = (u0.1 85 39) from hF108 85 39 rfl)
        have k115 : (u108.1 85 41).toInt = (u0.1 85 41).toInt := congrArg Int32.toInt (show u108.1 85 41 = (u0.1 85 41) from hF108 85 41 rfl)
        have k116 : (u108.1 85 43).toInt = (u0.1 85 43).toInt := congrArg Int32.toInt (show u108.1 85 43 = (u0.1 85 43) from hF108 85 43 rfl)
        exact a_retz F hr hlocks hP hD hS dX12_operand_37 (i_01 (by omega)) ⟨hR, hF, (by omega : (0 : Int) ≤ r108.toInt ∧ r108.toInt ≤ 1), (by omega : r108.toInt ≠ 0 → (u108.1 85 40).toInt = (u0.1 85 40).toInt + 1 ∧ (u108.1 85 39).toInt + (u108.1 85 41).toInt ≤ 2 * (u108.1 85 40).toInt - (u108.1 85 43).toInt ∧ (u108.1 85 41).toInt + 2 * (u108.1 85 43).toInt ≤ (u0.1 85 41).toInt + 2), (fun h9 => absurd (by omega : r108.toInt = 0) h9), hRR.symm.trans hC⟩
def K_X12_sentence_85_146_b (B146 : ac_U → Int32 → ac_U × Int32) (u0 : ac_U) (u : ac_U) (x2 : Int32) : ac_U × Int32 := (vl ((3 : Int32) * (u.1 85 39)) (fun (v2 : Int32) => (if v2.toInt ≤ x2.toInt then (u, (u.1 85 40)) else (vl ((477 : Int32) + x2) (fun (v5 : Int32) => (vl (u.1 89 x2.toNatClampNeg) (fun (v6 : Int32) => (vl (x2 + Int32.ofInt (1)) (fun (v7 : Int32) => (B146 (pI u 87 v5.toNatClampNeg v6) v7))))))))))
def K_X12_sentence_85_146 (u0 : ac_U) : Nat → ac_U → Int32 → ac_U × Int32
  | 0 => fun u x2 => (u, 0)
  | n + 1 => fun u x2 => K_X12_sentence_85_146_b (K_X12_sentence_85_146 u0 n) u0 u x2
def K_X12_sentence_85_125 (u0 : ac_U) (u : ac_U) : ac_U × Int32 := (vl ((-1 : Int32) - (u.1 85 16)) (fun (v9 : Int32) => (u, v9)))
def K_X12_sentence_85_101 (B48 : ac_U → Int32 → ac_U × Int32) (u0 : ac_U) (u : ac_U) (x1 : Int32) : ac_U × Int32 := (if (u.1 85 43).toInt = 0 then (bd (f_X12_operand_85 u) (fun (u15 : ac_U) (r15 : Int32) => (if r15.toInt ≠ 0 then (B48 u15 x1) else (K_X12_sentence_85_125 u0 u15)))) else (bd (f_X12_behind_85 u) (fun (u24 : ac_U) (r24 : Int32) => (if r24.toInt ≠ 0 then (B48 u24 x1) else (K_X12_sentence_85_125 u0 u24)))))
def K_X12_sentence_85_48_b (B48 : ac_U → Int32 → ac_U × Int32) (u0 : ac_U) (u : ac_U) (x1 : Int32) : ac_U × Int32 := (if x1.toInt = 0 then (K_X12_sentence_85_146 u0 137 (pI u 87 476 (u.1 85 39)) (0 : Int32)) else (if (u.1 85 43).toInt = 0 then (K_X12_sentence_85_101 B48 u0 u x1) else (if (u.1 85 11).toInt ≠ 0 then (K_X12_sentence_85_101 B48 u0 u x1) else (vl (f_X12_nots_85 u) (fun (u47 : ac_U) => (vl (f_X12_joins_85 u47 (22 : Int32)) (fun (u51 : ac_U) => (if (u51.1 85 41).toInt ≤ 0 then (B48 u51 (0 : Int32)) else (bd (f_X12_bad_85 u51 (1 : Int32)) (fun (u55 : ac_U) (r55 : Int32) => (vl ((-1 : Int32) - (u55.1 85 16)) (fun (v56 : Int32) => (u55, v56)))))))))))))
def K_X12_sentence_85_48 (u0 : ac_U) : Nat → ac_U → Int32 → ac_U × Int32
  | 0 => fun u x1 => (u, 0)
  | n + 1 => fun u x1 => K_X12_sentence_85_48_b (K_X12_sentence_85_48 u0 n) u0 u x1
def f_X12_sentence_85 (u0 : ac_U) : ac_U × Int32 := (vl (f_X12_taken_85 (pI u0 85 0 (0 : Int32)) (200 : Int32)) (fun (u57 : ac_U) => (vl (f_X12_next_85 (pI (pI (pI (pI (pI (pI u57 85 15 (0 : Int32)) 85 39 (0 : Int32)) 85 40 (0 : Int32)) 85 41 (0 : Int32)) 85 42 (1 : Int32)) 85 43 (0 : Int32))) (fun (u62 : ac_U) => (K_X12_sentence_85_48 u0 140 u62 (1 : Int32))))))
set_option maxHeartbeats 600000 in
set_option maxRecDepth 100000 in
theorem x_X12_sentence_85 (l : Launch) (dC : Nat → ClassId) (dI : Nat → Nat → Nat) (ad : Nat → Nat) (cA : Nat → ClassId) (nF : Nat) (u0 : ac_U)  (hR : ac_R rg u0) (hK_MS : msI u0) (hK_UI : unI u0) (hK_CW : cdI u0) (hK_AP : apI u0) (hK_AU : auI u0) : ac_Mi l yX12_sentence (.code yX12_sentence cX12_sentence 3 (some .int) :: TB) 4 (dC, dI) vwCl (ac_ty cA) ad cA (TT nF) [.ref (ad 85)] u0 (fun (r : Int32) (u : ac_U) => ac_R rg u ∧ ac_Fr [(85, some 0), (85, some 2), (85, some 3), (85, some 4), (85, some 5), (85, some 11), (85, some 12), (85, some 13), (85, some 14), (85, some 15), (85, some 16), (85, some 18), (85, some 39), (85, some 40), (85, some 41), (85, some 42), (85, some 43), (87, none), (89, none), (100, none)] u0 u ∧ msI u ∧ unI u ∧ cdI u ∧ apI u ∧ auI u ∧ (ln0 85) u ∧ (hxI u0 → hxI u) ∧ f_X12_sentence_85 u0 = (u, r)) := by
  refine ac_Mi.of (cc := cX12_sentence) (maxL := 3) (ret := (some .int)) (by decide) rfl (Nat.le_of_ble_eq_true rfl) ?_
  intro p e s m below meth c A ls F hml hr hlocks hA hP hD hS hl
  have F : ac_X p s m [.ref (ad 85)].toArray c cX12_sentence RX12 TB (dC, dI) vwCl (ac_ty cA) := ⟨F.1, F.2.1, fun w h => F.2.2.1 w (List.mem_cons_of_mem _ h), F.2.2.2.1, F.2.2.2.2⟩
  have hl : lv_has ls 3 [(0, .ref (ad 85))] := hl
  obtain ⟨RR, hRR⟩ : ∃ q, q = f_X12_sentence_85 u0 := ⟨_, rfl⟩
  have hF : ac_Fr [(85, some 0), (85, some 2), (85, some 3), (85, some 4), (85, some 5), (85, some 11), (85, some 12), (85, some 13), (85, some 14), (85, some 15), (85, some 16), (85, some 18), (85, some 39), (85, some 40), (85, some 41), (85, some 42), (85, some 43), (87, none), (89, none), (100, none)] u0 u0 := ac_Fr.rf
  have hK_i_HX : (fun u => hxI u0 → hxI u) u0 := fun h => h
  have L146 : ∀ (n146 : Nat) (x2 : Int32) (u : ac_U) (H : Heap) (locs : List Loc) (ls : Array Slot), ac_R rg u → ac_Fr [(85, some 0), (85, some 2), (85, some 3), (85, some 4), (85, some 5), (85, some 11), (85, some 12), (85, some 13), (85, some 14), (85, some 15), (85, some 16), (85, some 18), (85, some 39), (85, some 40), (85, some 41), (85, some 42), (85, some 43), (87, none), (89, none), (100, none)] u0 u → 135 - x2.toInt < (n146 : Int) → msI u → unI u → swW u → scI x2.toInt u → apI u → auI u → (ln0 85) u → (fun u => hxI u0 → hxI u) u → (0 : Int) ≤ x2.toInt ∧ x2.toInt ≤ 135 → (0 : Int) ≤ (u.1 85 0).toInt ∧ (u.1 85 0).toInt ≤ 0 → RR = (K_X12_sentence_85_146 u0 n146 u x2) → va_P (dC, dI) vwCl (ac_w ad cA (TT nF) u) H → va_D A (ac_w ad cA (TT nF) u) → va_S A s.heap H locs → lv_has ls 3 [(0, .ref (ad 85)), (2, .int x2)] → W p l e (ac_rm 4) s m [.ref (ad 85)].toArray below meth c H locs 0 0 (MQ below (va_Qi (fun (r : Int32) (u : ac_U) => ac_R rg u ∧ ac_Fr [(85, some 0), (85, some 2), (85, some 3), (85, some 4), (85, some 5), (85, some 11), (85, some 12), (85, some 13), (85, some 14), (85, some 15), (85, some 16), (85, some 18), (85, some 39), (85, some 40), (85, some 41), (85, some 42), (85, some 43), (87, none), (89, none), (100, none)] u0 u ∧ msI u ∧ unI u ∧ cdI u ∧ apI u ∧ auI u ∧ (ln0 85) u ∧ (hxI u0 → hxI u) ∧ f_X12_sentence_85 u0 = (u, r)) (ac_B (dC, dI) vwCl (ac_ty cA) ad cA (TT nF) A) A) [.ref (ad 85)].toArray s 0 0 A) (F0 m 146 ls []) := by
    intro n146
    induction n146 with
    | zero => intro x2 u H locs ls hR hF hn146 hK_MS hK_UI hK_SWW hK_SCx hK_AP hK_AU hK_LR hK_i_HX f0 f1 hC hP hD hS hl; exfalso; omega
    | succ n146 ih146 =>
      intro x2 u H locs ls hR hF hn146 hK_MS hK_UI hK_SWW hK_SCx hK_AP hK_AU hK_LR hK_i_HX f0 f1 hC hP hD hS hl
      have hC : RR = K_X12_sentence_85_146_b (K_X12_sentence_85_146 u0 n146) u0 u x2 := hC
      unfold K_X12_sentence_85_146_b at hC
      refine lv_iload_n F.1 F.2.1 dX12_sentence_146 rfl (lv_at hl 1 rfl) ?_
      refine a_ic F (3 : Int32) dX12_sentence_147 (by decide) ?_
      refine lv_aload_n F.1 F.2.1 dX12_sentence_148 rfl (lv_at hl 0 rfl) ?_
      have g1 : (0 : Int) ≤ (u.1 85 39).toInt ∧ (u.1 85 39).toInt ≤ 45 := hR 85 39
      refine a_geti F inX12 hP 85 39 tc_85 rfl rfl (by decide) q1510 (fun _ h9 => h9) (v := (u.1 85 39)) rfl dX12_sentence_149 ?_
      refine a_imulX F dX12_sentence_152 ic_3 rfl (by omega) (fun v2 hv2 yv2 => ?_)
      have hC := vl_eq hC yv2
      refine b_ge F 178 dX12_sentence_153 (by decide) rfl rfl (fun c3 => ?_) (fun c3 => ?_)
      · have hC := hC.trans (if_pos c3)
        refine lv_aload_n F.1 F.2.1 dX12_sentence_178 rfl (lv_at hl 0 rfl) ?_
        have g4 : (0 : Int) ≤ (u.1 85 40).toInt ∧ (u.1 85 40).toInt ≤ 20 := hR 85 40
        refine a_geti F inX12 hP 85 40 tc_85 rfl rfl (by decide) q1511 (fun _ h9 => h9) (v := (u.1 85 40)) rfl dX12_sentence_179 ?_
        exact a_reti F hr hlocks hP hD hS dX12_sentence_182 ⟨hR, hF, hK_MS, hK_UI, (sc_cw hK_SWW hK_SCx (by omega) (by omega)), hK_AP, hK_AU, hK_LR, hK_i_HX, hRR.symm.trans hC⟩
      · have hC := hC.trans (if_neg (by omega))
        refine lv_aload_n F.1 F.2.1 dX12_sentence_156 rfl (lv_at hl 0 rfl) ?_
        refine a_getr F inX12 hP 85 6 tc_85 rfl rfl (by decide) q1477 (fun _ h9 => h9) dX12_sentence_157 ?_
        refine a_sp F (477 : Int32) dX12_sentence_160 (by decide) ?_
        refine lv_iload_n F.1 F.2.1 dX12_sentence_163 rfl (lv_at hl 1 rfl) ?_
        refine a_iaddX F dX12_sentence_164 ic_477 rfl (by omega) (fun v5 hv5 yv5 => ?_)
        have hC := vl_eq hC yv5
        refine lv_aload_n F.1 F.2.1 dX12_sentence_165 rfl (lv_at hl 0 rfl) ?_
        refine a_getr F inX12 hP 85 8 tc_85 rfl rfl (by decide) q1479 (fun _ h9 => h9) dX12_sentence_166 ?_
        refine lv_iload_n F.1 F.2.1 dX12_sentence_169 rfl (lv_at hl 1 rfl) ?_
        refine a_iald F hP 89 tc_89 rfl (i_in rfl (by omega)) dX12_sentence_170 (fun v6 ev6 => ?_)
        have hC := vl_eq hC ev6.symm
        refine a_iast F hP hD hS 87 tc_87 rfl (i_in rfl (by omega)) dX12_sentence_171 (fun H locs hP hD hS => ?_)
        have hR := hR.si (c := 87) (k := v5.toNatClampNeg) (v := v6) (rs_87_477_611 (by omega) ⟨i_lo _, i_hi _⟩)
        have hF := hF.si (c := 87) (k := v5.toNatClampNeg) (v := v6) rfl
        have hO_MS := hK_MS
        have hO_UI := hK_UI
        have hO_SWW := hK_SWW
        have hO_SCx := hK_SCx
        have hO_AP := hK_AP
        have hO_AU := hK_AU
        have hO_LR := hK_LR
        have hO_i_HX := hK_i_HX
        have hK_MS := sp_si sp_MS hK_MS (c := 87) (k := v5.toNatClampNeg) (v := v6) (fun j9 h9 => by have q8 := sp_mem h9; simp at q8; have q9 := i_cl (x := v5) (by omega); omega)
        have hK_UI := sp_si sp_UI hK_UI (c := 87) (k := v5.toNatClampNeg) (v := v6) (fun j9 h9 => by have q8 := sp_mem h9; simp at q8; have q9 := i_cl (x := v5) (by omega); omega)
        have hK_SWW := sp_sgD sp_SWW hD hK_SWW (by decide)
        have hK_SCx := sc_w hO_SCx (i := x2) (k := v5) (by omega) (by omega) ev6
        have hK_AP := sp_si sp_AP hK_AP (c := 87) (k := v5.toNatClampNeg) (v := v6) (fun j9 h9 => by have q8 := sp_mem h9; simp at q8; have q9 := i_cl (x := v5) (by omega); omega)
        have hK_AU := sp_si sp_AU hK_AU (c := 87) (k := v5.toNatClampNeg) (v := v6) (fun j9 h9 => by have q8 := sp_mem h9; simp at q8; have q9 := i_cl (x := v5) (by omega); omega)
        have hK_LR := sp_sgD (sp_ln0 85) hD hK_LR (by decide)
        have hK_i_HX := sp_si (sp_imp sp_HX) hK_i_HX (c := 87) (k := v5.toNatClampNeg) (v := v6) (fun j9 h9 => by have q8 := sp_mem h9; simp at q8; have q9 := i_cl (x := v5) (by omega); omega)
        refine a_iincX F (k := 1) (fun v7 => [(2, .int v7), (0, .ref (ad 85))]) dX12_sentence_172 hl rfl rfl (by decide) (by omega) (by decide) (fun _ => rfl) (fun v7 ls hv7 yv7 hl => ?_)
        have hC := vl_eq hC yv7
        refine lv_goto (tgt := 146) F.1 F.2.1 dX12_sentence_175 (by decide) ?_
        have g8 : (0 : Int) ≤ (u.1 85 0).toInt ∧ (u.1 85 0).toInt ≤ 1 := hR 85 0
        exact ih146 v7 _ _ _ _ hR hF (by omega) hK_MS hK_UI hK_SWW (sc_le hK_SCx (by omega)) hK_AP hK_AU hK_LR hK_i_HX (by omega) (by omega : (0 : Int) ≤ (u.1 85 0).toInt ∧ (u.1 85 0).toInt ≤ 0) hC hP hD hS (lv_sub hl [1, 0] rfl)
  have L125 : ∀ (u : ac_U) (H : Heap) (locs : List Loc) (ls : Array Slot), ac_R rg u → ac_Fr [(85, some 0), (85, some 2), (85, some 3), (85, some 4), (85, some 5), (85, some 11), (85, some 12), (85, some 13), (85, some 14), (85, some 15), (85, some 16), (85, some 18), (85, some 39), (85, some 40), (85, some 41), (85, some 42), (85, some 43), (87, none), (89, none), (100, none)] u0 u → msI u → unI u → cdI u → apI u → auI u → (ln0 85) u → (fun u => hxI u0 → hxI u) u → (0 : Int) ≤ (u.1 85 0).toInt ∧ (u.1 85 0).toInt ≤ 0 → RR = (K_X12_sentence_85_125 u0 u) → va_P (dC, dI) vwCl (ac_w ad cA (TT nF) u) H → va_D A (ac_w ad cA (TT nF) u) → va_S A s.heap H locs → lv_has ls 3 [(0, .ref (ad 85))] → W p l e (ac_rm 4) s m [.ref (ad 85)].toArray below meth c H locs 0 0 (MQ below (va_Qi (fun (r : Int32) (u : ac_U) => ac_R rg u ∧ ac_Fr [(85, some 0), (85, some 2), (85, some 3), (85, some 4), (85, some 5), (85, some 11), (85, some 12), (85, some 13), (85, some 14), (85, some 15), (85, some 16), (85, some 18), (85, some 39), (85, some 40), (85, some 41), (85, some 42), (85, some 43), (87, none), (89, none), (100, none)] u0 u ∧ msI u ∧ unI u ∧ cdI u ∧ apI u ∧ auI u ∧ (ln0 85) u ∧ (hxI u0 → hxI u) ∧ f_X12_sentence_85 u0 = (u, r)) (ac_B (dC, dI) vwCl (ac_ty cA) ad cA (TT nF) A) A) [.ref (ad 85)].toArray s 0 0 A) (F0 m 125 ls []) := by
    intro u H locs ls hR hF hK_MS hK_UI hK_CW hK_AP hK_AU hK_LR hK_i_HX f0 hC hP hD hS hl
    unfold K_X12_sentence_85_125 at hC
    refine a_ic F (-1 : Int32) dX12_sentence_125 (by decide) ?_
    refine lv_aload_n F.1 F.2.1 dX12_sentence_126 rfl (lv_at hl 0 rfl) ?_
    refine a_geti F inX12 hP 85 16 tc_85 rfl rfl (by decide) q1487 (fun _ h9 => h9) (v := (u.1 85 16)) rfl dX12_sentence_127 ?_
    refine a_isubX F dX12_sentence_130 ic_m1 rfl (by have q0 := i_lo (u.1 85 16); have q1 := i_hi (u.1 85 16); omega) (fun v9 hv9 yv9 => ?_)
    have hC := vl_eq hC yv9
    exact a_reti F hr hlocks hP hD hS dX12_sentence_131 ⟨hR, hF, hK_MS, hK_UI, hK_CW, hK_AP, hK_AU, hK_LR, hK_i_HX, hRR.symm.trans hC⟩
  have L48 : ∀ (n48 : Nat) (x1 : Int32) (u : ac_U) (H : Heap) (locs : List Loc) (ls : Array Slot), ac_R rg u → ac_Fr [(85, some 0), (85, some 2), (85, some 3), (85, some 4), (85, some 5), (85, some 11), (85, some 12), (85, some 13), (85, some 14), (85, some 15), (85, some 16), (85, some 18), (85, some 39), (85, some 40), (85, some 41), (85, some 42), (85, some 43), (87, none), (89, none), (100, none)] u0 u → 4 * (21 - (u.1 85 40).toInt) + (u.1 85 41).toInt + 2 * (u.1 85 43).toInt + x1.toInt < (n48 : Int) → msI u → unI u → cdI u → apI u → auI u → swW u → (ln0 85) u → (fun u => hxI u0 → hxI u) u → (0 : Int) ≤ x1.toInt ∧ x1.toInt ≤ 1 → (0 : Int) ≤ (u.1 85 0).toInt ∧ (u.1 85 0).toInt ≤ 0 → (u.1 85 39).toInt + (u.1 85 41).toInt ≤ 2 * (u.1 85 40).toInt - (u.1 85 43).toInt → RR = (K_X12_sentence_85_48 u0 n48 u x1) → va_P (dC, dI) vwCl (ac_w ad cA (TT nF) u) H → va_D A (ac_w ad cA (TT nF) u) → va_S A s.heap H locs → lv_has ls 3 [(0, .ref (ad 85)), (1, .int x1)] → W p l e (ac_rm 4) s m [.ref (ad 85)].toArray below meth c H locs 0 0 (MQ below (va_Qi (fun (r : Int32) (u : ac_U) => ac_R rg u ∧ ac_Fr [(85, some 0), (85, some 2), (85, some 3), (85, some 4), (85, some 5), (85, some 11), (85, some 12), (85, some 13), (85, some 14), (85, some 15), (85, some 16), (85, some 18), (85, some 39), (85, some 40), (85, some 41), (85, some 42), (85, some 43), (87, none), (89, none), (100, none)] u0 u ∧ msI u ∧ unI u ∧ cdI u ∧ apI u ∧ auI u ∧ (ln0 85) u ∧ (hxI u0 → hxI u) ∧ f_X12_sentence_85 u0 = (u, r)) (ac_B (dC, dI) vwCl (ac_ty cA) ad cA (TT nF) A) A) [.ref (ad 85)].toArray s 0 0 A) (F0 m 48 ls []) := by
    intro n48
    induction n48 with
    | zero => intro x1 u H locs ls hR hF hn48 hK_MS hK_UI hK_CW hK_AP hK_AU hK_SWW hK_LR hK_i_HX f0 f1 f2 hC hP hD hS hl; have gz0 : (0 : Int) ≤ (u.1 85 40).toInt ∧ (u.1 85 40).toInt ≤ 20 := hR 85 40; have gz1 : (0 : Int) ≤ (u.1 85 41).toInt ∧ (u.1 85 41).toInt ≤ 45 := hR 85 41; have gz2 : (0 : Int) ≤ (u.1 85 43).toInt ∧ (u.1 85 43).toInt ≤ 1 := hR 85 43; exfalso; omega
    | succ n48 ih48 =>
      intro x1 u H locs ls hR hF hn48 hK_MS hK_UI hK_CW hK_AP hK_AU hK_SWW hK_LR hK_i_HX f0 f1 f2 hC hP hD hS hl
      have hC : RR = K_X12_sentence_85_48_b (K_X12_sentence_85_48 u0 n48) u0 u x1 := hC
      have L101 : ∀ (x1 : Int32) (u : ac_U) (H : Heap) (locs : List Loc) (ls : Array Slot), ac_R rg u → ac_Fr [(85, some 0), (85, some 2), (85, some 3), (85, some 4), (85, some 5), (85, some 11), (85, some 12), (85, some 13), (85, some 14), (85, some 15), (85, some 16), (85, some 18), (85, some 39), (85, some 40), (85, some 41), (85, some 42), (85, some 43), (87, none), (89, none), (100, none)] u0 u → msI u → unI u → cdI u → apI u → auI u → swW u → (ln0 85) u → (fun u => hxI u0 → hxI u) u → (1 : Int) ≤ x1.toInt ∧ x1.toInt ≤ 1 → (0 : Int) ≤ (u.1 85 0).toInt ∧ (u.1 85 0).toInt ≤ 0 → (0 : Int) ≤ (u.1 85 43).toInt ∧ (u.1 85 43).toInt ≤ 1 → (u.1 85 39).toInt + (u.1 85 41).toInt ≤ 2 * (u.1 85 40).toInt - (u.1 85 43).toInt → 4 * (21 - (u.1 85 40).toInt) + (u.1 85 41).toInt + 2 * (u.1 85 43).toInt + x1.toInt < ((n48 : Nat) : Int) + 1 → RR = (K_X12_sentence_85_101 (K_X12_sentence_85_48 u0 n48) u0 u x1) → va_P (dC, dI) vwCl (ac_w ad cA (TT nF) u) H → va_D A (ac_w ad cA (TT nF) u) → va_S A s.heap H locs → lv_has ls 3 [(0, .ref (ad 85)), (1, .int x1)] → W p l e (ac_rm 4) s m [.ref (ad 85)].toArray below meth c H locs 0 0 (MQ below (va_Qi (fun (r : Int32) (u : ac_U) => ac_R rg u ∧ ac_Fr [(85, some 0), (85, some 2), (85, some 3), (85, some 4), (85, some 5), (85, some 11), (85, some 12), (85, some 13), (85, some 14), (85, some 15), (85, some 16), (85, some 18), (85, some 39), (85, some 40), (85, some 41), (85, some 42), (85, some 43), (87, none), (89, none), (100, none)] u0 u ∧ msI u ∧ unI u ∧ cdI u ∧ apI u ∧ auI u ∧ (ln0 85) u ∧ (hxI u0 → hxI u) ∧ f_X12_sentence_85 u0 = (u, r)) (ac_B (dC, dI) vwCl (ac_ty cA) ad cA (TT nF) A) A) [.ref (ad 85)].toArray s 0 0 A) (F0 m 101 ls []) := by
        intro x1 u H locs ls hR hF hK_MS hK_UI hK_CW hK_AP hK_AU hK_SWW hK_LR hK_i_HX f0 f1 f2 f3 f4 hC hP hD hS hl
        unfold K_X12_sentence_85_101 at hC
        refine lv_aload_n F.1 F.2.1 dX12_sentence_101 rfl (lv_at hl 0 rfl) ?_
        have g10 : (0 : Int) ≤ (u.1 85 43).toInt ∧ (u.1 85 43).toInt ≤ 1 := hR 85 43
        refine a_geti F inX12 hP 85 43 tc_85 rfl rfl (by decide) q1514 (fun _ h9 => h9) (v := (u.1 85 43)) rfl dX12_sentence_102 ?_
        refine z_eq F 118 dX12_sentence_105 (by decide) rfl (fun c11 => ?_) (fun c11 => ?_)
        · have hC := hC.trans (if_pos c11)
          refine lv_aload_n F.1 F.2.1 dX12_sentence_118 rfl (lv_at hl 0 rfl) ?_
          have g12 : (0 : Int) ≤ (u.1 85 39).toInt ∧ (u.1 85 39).toInt ≤ 45 := hR 85 39
          have g13 : (0 : Int) ≤ (u.1 85 41).toInt ∧ (u.1 85 41).toInt ≤ 45 := hR 85 41
          have g14 : (0 : Int) ≤ (u.1 85 40).toInt ∧ (u.1 85 40).toInt ≤ 20 := hR 85 40
          refine a_Vi F hml hl.1 hA hP hD hS (As := []) (x_X12_operand_85 l dC dI ad cA nF _  hR (by omega : (0 : Int) ≤ (u.1 85 43).toInt ∧ (u.1 85 43).toInt ≤ 0) (by omega : (u.1 85 39).toInt + (u.1 85 41).toInt ≤ 2 * (u.1 85 40).toInt) (sw_of hK_SWW (by omega))) (cs_RX12_444 (d := 3) F.2.2.1 (by decide)) tc_85 rfl rfl rfl rfl (Nat.le_of_ble_eq_true rfl) dX12_sentence_119 ⟨Nat.le_refl 0, Nat.le_refl 0⟩ (fun r15 u15 H locs hq hP hD hS => ?_)
          obtain ⟨hR, hF15, gr15, xr15, hK_r15_SWW, hz15⟩ := hq
          have hF := hF.tr hF15 (by decide)
          have hK_MS := sp_fr sp_MS hF15 (by decide) hK_MS
          have hK_UI := sp_fr sp_UI hF15 (by decide) hK_UI
          have hK_CW := sp_fr sp_CW hF15 (by decide) hK_CW
          have hK_AP := sp_fr sp_AP hF15 (by decide) hK_AP
          have hK_AU := sp_fr sp_AU hF15 (by decide) hK_AU
          have hK_LR := sp_fr (sp_ln0 85) hF15 (by decide) hK_LR
          have hK_i_HX := sp_fr (sp_imp sp_HX) hF15 (by decide) hK_i_HX
          have g16 : (0 : Int) ≤ (u15.1 85 40).toInt ∧ (u15.1 85 40).toInt ≤ 20 := hR 85 40
          have g17 : (0 : Int) ≤ (u15.1 85 39).toInt ∧ (u15.1 85 39).toInt ≤ 45 := hR 85 39
          have g18 : (0 : Int) ≤ (u15.1 85 41).toInt ∧ (u15.1 85 41).toInt ≤ 45 := hR 85 41
          have g19 : (0 : Int) ≤ (u15.1 85 43).toInt ∧ (u15.1 85 43).toInt ≤ 1 := hR 85 43
          have xr15 : r15.toInt ≠ 0 → (u15.1 85 40).toInt = (u.1 85 40).toInt + 1 ∧ (u15.1 85 39).toInt + (u15.1 85 41).toInt ≤ 2 * (u15.1 85 40).toInt - (u15.1 85 43).toInt ∧ (u15.1 85 41).toInt + 2 * (u15.1 85 43).toInt ≤ (u.1 85 41).toInt + 2 := xr15
          have hC := bd_eq hC hz15
          refine z_ne F 48 dX12_sentence_122 (by decide) rfl (fun c20 => ?_) (fun c20 => ?_)
          · have hC := hC.trans (if_pos c20)
            have hK_SWW := hK_r15_SWW (by omega)
            exact ih48 x1 _ _ _ _ hR hF (by omega : 4 * (21 - (u15.1 85 40).toInt) + (u15.1 85 41).toInt + 2 * (u15.1 85 43).toInt + x1.toInt < ((n48 : Nat) : Int)) hK_MS hK_UI hK_CW hK_AP hK_AU hK_SWW hK_LR hK_i_HX (by omega) (i_trB (hF15 85 0 rfl) (by omega : (0 : Int) ≤ (u.1 85 0).toInt ∧ (u.1 85 0).toInt ≤ 0)) (by omega : (u15.1 85 39).toInt + (u15.1 85 41).toInt ≤ 2 * (u15.1 85 40).toInt - (u15.1 85 43).toInt) hC hP hD hS (lv_sub hl [0, 1] rfl)
          · have hC := hC.trans (if_neg (by omega))
            exact L125 _ _ _ _ hR hF hK_MS hK_UI hK_CW hK_AP hK_AU hK_LR hK_i_HX (i_trB (hF15 85 0 rfl) (by omega : (0 : Int) ≤ (u.1 85 0).toInt ∧ (u.1 85 0).toInt ≤ 0)) hC hP hD hS (lv_sub hl [0] rfl)
        · have hC := hC.trans (if_neg (by omega))
          refine lv_aload_n F.1 F.2.1 dX12_sentence_108 rfl (lv_at hl 0 rfl) ?_
          have g21 : (0 : Int) ≤ (u.1 85 39).toInt ∧ (u.1 85 39).toInt ≤ 45 := hR 85 39
          have g22 : (0 : Int) ≤ (u.1 85 41).toInt ∧ (u.1 85 41).toInt ≤ 45 := hR 85 41
          have g23 : (0 : Int) ≤ (u.1 85 40).toInt ∧ (u.1 85 40).toInt ≤ 20 := hR 85 40
          refine a_Vi F hml hl.1 hA hP hD hS (As := []) (x_X12_behind_85 l dC dI ad cA nF _  hR (by omega : (1 : Int) ≤ (u.1 85 43).toInt ∧ (u.1 85 43).toInt ≤ 1) (by omega : (u.1 85 39).toInt + (u.1 85 41).toInt + 1 ≤ 2 * (u.1 85 40).toInt) (sw_of hK_SWW (by omega))) (cs_RX12_441 (d := 3) F.2.2.1 (by decide)) tc_85 rfl rfl rfl rfl (Nat.le_of_ble_eq_true rfl) dX12_sentence_109 ⟨Nat.le_refl 0, Nat.le_refl 0⟩ (fun r24 u24 H locs hq hP hD hS => ?_)
          obtain ⟨hR, hF24, gr24, xr24, hK_r24_SWW, hz24⟩ := hq
          have hF := hF.tr hF24 (by decide)
          have hK_MS := sp_fr sp_MS hF24 (by decide) hK_MS
          have hK_UI := sp_fr sp_UI hF24 (by decide) hK_UI
          have hK_CW := sp_fr sp_CW hF24 (by decide) hK_CW
          have hK_AP := sp_fr sp_AP hF24 (by decide) hK_AP
          have hK_AU := sp_fr sp_AU hF24 (by decide) hK_AU
          have hK_LR := sp_fr (sp_ln0 85) hF24 (by decide) hK_LR
          have hK_i_HX := sp_fr (sp_imp sp_HX) hF24 (by decide) hK_i_HX
          have k25 : (u24.1 85 40).toInt = (u.1 85 40).toInt := congrArg Int32.toInt (show u24.1 85 40 = (u.1 85 40) from hF24 85 40 rfl)
          have g26 : (0 : Int) ≤ (u24.1 85 39).toInt ∧ (u24.1 85 39).toInt ≤ 45 := hR 85 39
          have g27 : (0 : Int) ≤ (u24.1 85 41).toInt ∧ (u24.1 85 41).toInt ≤ 45 := hR 85 41
          have g28 : (0 : Int) ≤ (u24.1 85 43).toInt ∧ (u24.1 85 43).toInt ≤ 1 := hR 85 43
          have xr24 : r24.toInt ≠ 0 → (u24.1 85 40).toInt = (u.1 85 40).toInt ∧ (u24.1 85 39).toInt + (u24.1 85 41).toInt ≤ 2 * (u24.1 85 40).toInt - (u24.1 85 43).toInt ∧ (u24.1 85 41).toInt + 2 * (u24.1 85 43).toInt + 1 ≤ (u.1 85 41).toInt + 2 := xr24
          have hC := bd_eq hC hz24
          refine z_ne F 48 dX12_sentence_112 (by decide) rfl (fun c29 => ?_) (fun c29 => ?_)
          · have hC := hC.trans (if_pos c29)
            have hK_SWW := hK_r24_SWW (by omega)
            exact ih48 x1 _ _ _ _ hR hF (by show 4 * (21 - (u24.1 85 40).toInt) + (u24.1 85 41).toInt + 2 * (u24.1 85 43).toInt + x1.toInt < ((n48 : Nat) : Int); rw [hF24 85 40 rfl]; exact (by omega : 4 * (21 - (u.1 85 40).toInt) + (u24.1 85 41).toInt + 2 * (u24.1 85 43).toInt + x1.toInt < ((n48 : Nat) : Int))) hK_MS hK_UI hK_CW hK_AP hK_AU hK_SWW hK_LR hK_i_HX (by omega) (i_trB (hF24 85 0 rfl) (by omega : (0 : Int) ≤ (u.1 85 0).toInt ∧ (u.1 85 0).toInt ≤ 0)) (by rw [hF24 85 40 rfl]; try exact (by omega : (u24.1 85 39).toInt + (u24.1 85 41).toInt ≤ 2 * (u.1 85 40).toInt - (u24.1 85 43).toInt)) hC hP hD hS (lv_sub hl [0, 1] rfl)
          · have hC := hC.trans (if_neg (by omega))
            refine lv_goto (tgt := 125) F.1 F.2.1 dX12_sentence_115 (by decide) ?_
            exact L125 _ _ _ _ hR hF hK_MS hK_UI hK_CW hK_AP hK_AU hK_LR hK_i_HX (i_trB (hF24 85 0 rfl) (by omega : (0 : Int) ≤ (u.1 85 0).toInt ∧ (u.1 85 0).toInt ≤ 0)) hC hP hD hS (lv_sub hl [0] rfl)
      unfold K_X12_sentence_85_48_b at hC
      refine lv_iload_n F.1 F.2.1 dX12_sentence_48 rfl (lv_at hl 1 rfl) ?_
      refine z_eq F 132 dX12_sentence_49 (by decide) rfl (fun c30 => ?_) (fun c30 => ?_)
      · have hC := hC.trans (if_pos c30)
        refine lv_aload_n F.1 F.2.1 dX12_sentence_132 rfl (lv_at hl 0 rfl) ?_
        refine a_getr F inX12 hP 85 6 tc_85 rfl rfl (by decide) q1477 (fun _ h9 => h9) dX12_sentence_133 ?_
        refine a_sp F (476 : Int32) dX12_sentence_136 (by decide) ?_
        refine lv_aload_n F.1 F.2.1 dX12_sentence_139 rfl (lv_at hl 0 rfl) ?_
        have g31 : (0 : Int) ≤ (u.1 85 39).toInt ∧ (u.1 85 39).toInt ≤ 45 := hR 85 39
        refine a_geti F inX12 hP 85 39 tc_85 rfl rfl (by decide) q1510 (fun _ h9 => h9) (v := (u.1 85 39)) rfl dX12_sentence_140 ?_
        refine a_iastK F hP hD hS 87 476 tc_87 rfl rfl (i_in ic_476 (by omega)) dX12_sentence_143 (fun H locs hP hD hS => ?_)
        have hR := hR.si (c := 87) (k := 476) (v := (u.1 85 39)) (by omega : (0 : Int) ≤ (u.1 85 39).toInt ∧ (u.1 85 39).toInt ≤ 45)
        have hF := hF.si (c := 87) (k := 476) (v := (u.1 85 39)) rfl
        have hO_MS := hK_MS
        have hO_UI := hK_UI
        have hO_CW := hK_CW
        have hO_AP := hK_AP
        have hO_AU := hK_AU
        have hO_SWW := hK_SWW
        have hO_LR := hK_LR
        have hO_i_HX := hK_i_HX
        have hN_SCz := sc_0D (n := 0) hD (rfl) (by decide)
        have hK_MS := sp_si sp_MS hK_MS (c := 87) (k := 476) (v := (u.1 85 39)) (fun j9 h9 q9 => by rw [q9] at h9; exact absurd h9 (by decide))
        have hK_UI := sp_si sp_UI hK_UI (c := 87) (k := 476) (v := (u.1 85 39)) (fun j9 h9 q9 => by rw [q9] at h9; exact absurd h9 (by decide))
        have hK_AP := sp_si sp_AP hK_AP (c := 87) (k := 476) (v := (u.1 85 39)) (fun j9 h9 q9 => by rw [q9] at h9; exact absurd h9 (by decide))
        have hK_AU := sp_si sp_AU hK_AU (c := 87) (k := 476) (v := (u.1 85 39)) (fun j9 h9 q9 => by rw [q9] at h9; exact absurd h9 (by decide))
        have hK_SWW := sp_sgD sp_SWW hD hK_SWW (by decide)
        have hK_LR := sp_sgD (sp_ln0 85) hD hK_LR (by decide)
        have hK_i_HX := sp_si (sp_imp sp_HX) hK_i_HX (c := 87) (k := 476) (v := (u.1 85 39)) (fun j9 h9 q9 => by rw [q9] at h9; exact absurd h9 (by decide))
        have hK_SCz := hN_SCz
        refine a_ic F (0 : Int32) dX12_sentence_144 (by decide) ?_
        refine lv_istore_n (lv' := [(2, .int (0 : Int32)), (0, .ref (ad 85)), (1, .int x1)]) F.1 F.2.1 dX12_sentence_145 rfl hl (by decide) rfl (fun ls hl => ?_)
        have g32 : (0 : Int) ≤ (u.1 85 0).toInt ∧ (u.1 85 0).toInt ≤ 1 := hR 85 0
        exact L146 137 (0 : Int32) _ _ _ _ hR hF (by decide) hK_MS hK_UI hK_SWW (sc_le hK_SCz (by decide)) hK_AP hK_AU hK_LR hK_i_HX (by decide) (by omega : (0 : Int) ≤ (u.1 85 0).toInt ∧ (u.1 85 0).toInt ≤ 0) hC hP hD hS (lv_sub hl [1, 0] rfl)
      · have hC := hC.trans (if_neg (by omega))
        refine lv_aload_n F.1 F.2.1 dX12_sentence_52 rfl (lv_at hl 0 rfl) ?_
        have g33 : (0 : Int) ≤ (u.1 85 43).toInt ∧ (u.1 85 43).toInt ≤ 1 := hR 85 43
        refine a_geti F inX12 hP 85 43 tc_85 rfl rfl (by decide) q1514 (fun _ h9 => h9) (v := (u.1 85 43)) rfl dX12_sentence_53 ?_
        refine z_eq F 101 dX12_sentence_56 (by decide) rfl (fun c34 => ?_) (fun c34 => ?_)
        · have hC := hC.trans (if_pos c34)
          have g35 : (0 : Int) ≤ (u.1 85 0).toInt ∧ (u.1 85 0).toInt ≤ 1 := hR 85 0
          have g36 : (0 : Int) ≤ (u.1 85 39).toInt ∧ (u.1 85 39).toInt ≤ 45 := hR 85 39
          have g37 : (0 : Int) ≤ (u.1 85 41).toInt ∧ (u.1 85 41).toInt ≤ 45 := hR 85 41
          have g38 : (0 : Int) ≤ (u.1 85 40).toInt ∧ (u.1 85 40).toInt ≤ 20 := hR 85 40
          exact L101 x1 _ _ _ _ hR hF hK_MS hK_UI hK_CW hK_AP hK_AU hK_SWW hK_LR hK_i_HX (by omega) (by omega : (0 : Int) ≤ (u.1 85 0).toInt ∧ (u.1 85 0).toInt ≤ 0) (by omega : (0 : Int) ≤ (u.1 85 43).toInt ∧ (u.1 85 43).toInt ≤ 1) (by omega : (u.1 85 39).toInt + (u.1 85 41).toInt ≤ 2 * (u.1 85 40).toInt - (u.1 85 43).toInt) (by omega : 4 * (21 - (u.1 85 40).toInt) + (u.1 85 41).toInt + 2 * (u.1 85 43).toInt + x1.toInt < ((n48 : Nat) : Int) + 1) hC hP hD hS (lv_sub hl [0, 1] rfl)
        · have hC := hC.trans (if_neg (by omega))
          refine lv_aload_n F.1 F.2.1 dX12_sentence_59 rfl (lv_at hl 0 rfl) ?_
          have g39 : (0 : Int) ≤ (u.1 85 11).toInt ∧ (u.1 85 11).toInt ≤ 4 := hR 85 11
          refine a_geti F inX12 hP 85 11 tc_85 rfl rfl (by decide) q1482 (fun _ h9 => h9) (v := (u.1 85 11)) rfl dX12_sentence_60 ?_
          refine z_ne F 101 dX12_sentence_63 (by decide) rfl (fun c40 => ?_) (fun c40 => ?_)
          · have hC := hC.trans (if_pos c40)
            have g41 : (0 : Int) ≤ (u.1 85 0).toInt ∧ (u.1 85 0).toInt ≤ 1 := hR 85 0
            have g42 : (0 : Int) ≤ (u.1 85 39).toInt ∧ (u.1 85 39).toInt ≤ 45 := hR 85 39
            have g43 : (0 : Int) ≤ (u.1 85 41).toInt ∧ (u.1 85 41).toInt ≤ 45 := hR 85 41
            have g44 : (0 : Int) ≤ (u.1 85 40).toInt ∧ (u.1 85 40).toInt ≤ 20 := hR 85 40
            exact L101 x1 _ _ _ _ hR hF hK_MS hK_UI hK_CW hK_AP hK_AU hK_SWW hK_LR hK_i_HX (by omega) (by omega : (0 : Int) ≤ (u.1 85 0).toInt ∧ (u.1 85 0).toInt ≤ 0) (by omega : (0 : Int) ≤ (u.1 85 43).toInt ∧ (u.1 85 43).toInt ≤ 1) (by omega : (u.1 85 39).toInt + (u.1 85 41).toInt ≤ 2 * (u.1 85 40).toInt - (u.1 85 43).toInt) (by omega : 4 * (21 - (u.1 85 40).toInt) + (u.1 85 41).toInt + 2 * (u.1 85 43).toInt + x1.toInt < ((n48 : Nat) : Int) + 1) hC hP hD hS (lv_sub hl [0, 1] rfl)
          · have hC := hC.trans (if_neg (by omega))
            refine lv_aload_n F.1 F.2.1 dX12_sentence_66 rfl (lv_at hl 0 rfl) ?_
            have g45 : (0 : Int) ≤ (u.1 85 39).toInt ∧ (u.1 85 39).toInt ≤ 45 := hR 85 39
            have g46 : (0 : Int) ≤ (u.1 85 41).toInt ∧ (u.1 85 41).toInt ≤ 45 := hR 85 41
            have g48 : (0 : Int) ≤ (u.1 85 40).toInt ∧ (u.1 85 40).toInt ≤ 20 := hR 85 40
            refine a_Vv F hml hl.1 hA hP hD hS (As := []) (x_X12_nots_85 l dC dI ad cA nF _  hR (by omega : (u.1 85 39).toInt + (u.1 85 41).toInt ≤ 44) (sw_of hK_SWW (by omega))) (cs_RX12_435 (d := 2) F.2.2.1 (by decide)) tc_85 rfl rfl rfl rfl (Nat.le_of_ble_eq_true rfl) dX12_sentence_67 ⟨Nat.le_refl 0, Nat.le_refl 0⟩ (fun u47 H locs hq hP hD hS => ?_)
            obtain ⟨hR, hF47, xr47, hK_SW1, hz47⟩ := hq
            have hF := hF.tr hF47 (by decide)
            have hK_MS := sp_fr sp_MS hF47 (by decide) hK_MS
            have hK_UI := sp_fr sp_UI hF47 (by decide) hK_UI
            have hK_CW := sp_fr sp_CW hF47 (by decide) hK_CW
            have hK_AP := sp_fr sp_AP hF47 (by decide) hK_AP
            have hK_AU := sp_fr sp_AU hF47 (by decide) hK_AU
            have hK_LR := sp_fr (sp_ln0 85) hF47 (by decide) hK_LR
            have hK_i_HX := sp_fr (sp_imp sp_HX) hF47 (by decide) hK_i_HX
            have g49 : (0 : Int) ≤ (u47.1 85 39).toInt ∧ (u47.1 85 39).toInt ≤ 45 := hR 85 39
            have g50 : (0 : Int) ≤ (u47.1 85 41).toInt ∧ (u47.1 85 41).toInt ≤ 45 := hR 85 41
            have xr47 : (u47.1 85 39).toInt + (u47.1 85 41).toInt = (u.1 85 39).toInt + (u.1 85 41).toInt ∧ (u47.1 85 41).toInt ≤ (u.1 85 41).toInt := xr47
            have hC := vl_eq hC hz47.symm
            refine lv_aload_n F.1 F.2.1 dX12_sentence_70 rfl (lv_at hl 0 rfl) ?_
            refine a_bp F (22 : Int32) dX12_sentence_71 (by decide) ?_
            refine a_Vv F hml hl.1 hA hP hD hS (As := [.int (22 : Int32)]) (x_X12_joins_85 l dC dI ad cA nF _ (22 : Int32) hR (by decide) (by omega : (u47.1 85 39).toInt + (u47.1 85 41).toInt ≤ 44) hK_SW1) (cs_RX12_438 (d := 2) F.2.2.1 (by decide)) tc_85 rfl rfl rfl rfl (Nat.le_of_ble_eq_true rfl) dX12_sentence_73 ⟨Nat.le_refl 0, Nat.le_refl 0⟩ (fun u51 H locs hq hP hD hS => ?_)
            obtain ⟨hR, hF51, xr51, hK_SW1, hK_TB, hz51⟩ := hq
            have hF := hF.tr hF51 (by decide)
            have hK_MS := sp_fr sp_MS hF51 (by decide) hK_MS
            have hK_UI := sp_fr sp_UI hF51 (by decide) hK_UI
            have hK_CW := sp_fr sp_CW hF51 (by decide) hK_CW
            have hK_AP := sp_fr sp_AP hF51 (by decide) hK_AP
            have hK_AU := sp_fr sp_AU hF51 (by decide) hK_AU
            have hK_LR := sp_fr (sp_ln0 85) hF51 (by decide) hK_LR
            have hK_i_HX := sp_fr (sp_imp sp_HX) hF51 (by decide) hK_i_HX
            have g52 : (0 : Int) ≤ (u51.1 85 39).toInt ∧ (u51.1 85 39).toInt ≤ 45 := hR 85 39
            have g53 : (0 : Int) ≤ (u51.1 85 41).toInt ∧ (u51.1 85 41).toInt ≤ 45 := hR 85 41
            have xr51 : (u51.1 85 39).toInt + (u51.1 85 41).toInt = (u47.1 85 39).toInt + (u47.1 85 41).toInt ∧ (u51.1 85 41).toInt ≤ (u47.1 85 41).toInt := xr51
            have hC := vl_eq hC hz51.symm
            refine lv_aload_n F.1 F.2.1 dX12_sentence_76 rfl (lv_at hl 0 rfl) ?_
            refine a_geti F inX12 hP 85 41 tc_85 rfl rfl (by decide) q1512 (fun _ h9 => h9) (v := (u51.1 85 41)) (rfl) dX12_sentence_77 ?_
            refine z_le F 96 dX12_sentence_80 (by decide) rfl (fun c54 => ?_) (fun c54 => ?_)
            · have hC := hC.trans (if_pos c54)
              refine a_ic F (0 : Int32) dX12_sentence_96 (by decide) ?_
              refine lv_istore_n (lv' := [(1, .int (0 : Int32)), (0, .ref (ad 85))]) F.1 F.2.1 dX12_sentence_97 rfl hl (by decide) rfl (fun ls hl => ?_)
              refine lv_goto (tgt := 48) F.1 F.2.1 dX12_sentence_98 (by decide) ?_
              exact ih48 (0 : Int32) _ _ _ _ hR hF (by show 4 * (21 - (u51.1 85 40).toInt) + (u51.1 85 41).toInt + 2 * (u51.1 85 43).toInt + (0 : Int) < ((n48 : Nat) : Int); rw [(hF51 85 40 rfl).trans (hF47 85 40 rfl), (hF51 85 43 rfl).trans (hF47 85 43 rfl)]; exact (by omega : 4 * (21 - (u.1 85 40).toInt) + (u51.1 85 41).toInt + 2 * (u.1 85 43).toInt + (0 : Int) < ((n48 : Nat) : Int))) hK_MS hK_UI hK_CW hK_AP hK_AU (sw_toD hD hK_SW1 (t := (u.1 85 43)) ((hF51 85 43 rfl).trans (hF47 85 43 rfl)) (by first | decide | omega)) hK_LR hK_i_HX (by decide) (i_trB ((hF51 85 0 rfl).trans (hF47 85 0 rfl)) (by omega : (0 : Int) ≤ (u.1 85 0).toInt ∧ (u.1 85 0).toInt ≤ 0)) (by rw [(hF51 85 40 rfl).trans (hF47 85 40 rfl), (hF51 85 43 rfl).trans (hF47 85 43 rfl)]; try exact (by omega : (u51.1 85 39).toInt + (u51.1 85 41).toInt ≤ 2 * (u.1 85 40).toInt - (u.1 85 43).toInt)) hC hP hD hS (lv_sub hl [1, 0] rfl)
            · have hC := hC.trans (if_neg (by omega))
              refine lv_aload_n F.1 F.2.1 dX12_sentence_83 rfl (lv_at hl 0 rfl) ?_
              refine a_ic F (1 : Int32) dX12_sentence_84 (by decide) ?_
              refine a_Vi F hml hl.1 hA hP hD hS (As := [.int (1 : Int32)]) (x_X12_bad_85 l dC dI ad cA nF _ (1 : Int32) hR (by decide)) (cs_RX12_181 (d := 1) F.2.2.1 (by decide)) tc_85 rfl rfl rfl rfl (Nat.le_of_ble_eq_true rfl) dX12_sentence_85 ⟨Nat.le_refl 0, Nat.le_refl 0⟩ (fun r55 u55 H locs hq hP hD hS => ?_)
              obtain ⟨hR, hF55, gr55, hz55⟩ := hq
              have hF := hF.tr hF55 (by decide)
              have hK_MS := sp_fr sp_MS hF55 (by decide) hK_MS
              have hK_UI := sp_fr sp_UI hF55 (by decide) hK_UI
              have hK_CW := sp_fr sp_CW hF55 (by decide) hK_CW
              have hK_AP := sp_fr sp_AP hF55 (by decide) hK_AP
              have hK_AU := sp_fr sp_AU hF55 (by decide) hK_AU
              have hK_LR := sp_fr (sp_ln0 85) hF55 (by decide) hK_LR
              have hK_i_HX := sp_fr (sp_imp sp_HX) hF55 (by decide) hK_i_HX
              have hK_SW1 := sp_fr (sp_sw _) hF55 (by decide) hK_SW1
              have hK_TB := sp_fr sp_TB hF55 (by decide) hK_TB
              have hC := bd_eq hC hz55
              refine lv_pop F.1 F.2.1 dX12_sentence_88 rfl ?_
              refine a_ic F (-1 : Int32) dX12_sentence_89 (by decide) ?_
              refine lv_aload_n F.1 F.2.1 dX12_sentence_90 rfl (lv_at hl 0 rfl) ?_
              refine a_geti F inX12 hP 85 16 tc_85 rfl rfl (by decide) q1487 (fun _ h9 => h9) (v := (u55.1 85 16)) rfl dX12_sentence_91 ?_
              refine a_isubX F dX12_sentence_94 ic_m1 rfl (by have q0 := i_lo (u55.1 85 16); have q1 := i_hi (u55.1 85 16); omega) (fun v56 hv56 yv56 => ?_)
              have hC := vl_eq hC yv56
              exact a_reti F hr hlocks hP hD hS dX12_sentence_95 ⟨hR, hF, hK_MS, hK_UI, hK_CW, hK_AP, hK_AU, hK_LR, hK_i_HX, hRR.symm.trans hC⟩
  have hC : RR = f_X12_sentence_85 u0 := hRR
  unfold f_X12_sentence_85 at hC
  refine lv_aload_n F.1 F.2.1 dX12_sentence_0 rfl (lv_at hl 0 rfl) ?_
  refine a_ic F (0 : Int32) dX12_sentence_1 (by decide) ?_
  refine a_puti F inX12 tyX12 tyX12_ok nmX12 hP hD hS 85 0 tc_85 rfl rfl (by decide) q1471 (fun _ h9 => h9) rfl (ty := .int) (tyX12_ok 0 (by decide)) rfl rfl dX12_sentence_2 (fun H locs hP hD hS => ?_)
  have hR := hR.si (c := 85) (k := 0) (v := (0 : Int32)) (by rw [ic_0]; exact (by omega : (0 : Int) ≤ (0 : Int) ∧ (0 : Int) ≤ 1))
  have hF := hF.si (c := 85) (k := 0) (v := (0 : Int32)) rfl
  have hK_MS := sp_sgD sp_MS hD hK_MS (by decide)
  have hK_UI := sp_si sp_UI hK_UI (c := 85) (k := 0) (v := (0 : Int32)) (fun j9 h9 q9 => by rw [q9] at h9; exact absurd h9 (by decide))
  have hK_CW := sp_sgD sp_CW hD hK_CW (by decide)
  have hK_AP := sp_sgD sp_AP hD hK_AP (by decide)
  have hK_AU := sp_si sp_AU hK_AU (c := 85) (k := 0) (v := (0 : Int32)) (fun j9 h9 q9 => by rw [q9] at h9; exact absurd h9 (by decide))
  have hK_i_HX := sp_sgD (sp_imp sp_HX) hD hK_i_HX (by decide)
  refine lv_aload_n F.1 F.2.1 dX12_sentence_5 rfl (lv_at hl 0 rfl) ?_
  refine a_sp F (200 : Int32) dX12_sentence_6 (by decide) ?_
  have g58 : (0 : Int) ≤ (u0.1 85 39).toInt ∧ (u0.1 85 39).toInt ≤ 45 := hR 85 39
  have g59 : (0 : Int) ≤ (u0.1 85 41).toInt ∧ (u0.1 85 41).toInt ≤ 45 := hR 85 41
  have g60 : (0 : Int) ≤ (u0.1 85 40).toInt ∧ (u0.1 85 40).toInt ≤ 20 := hR 85 40
  have g61 : (0 : Int) ≤ (u0.1 85 43).toInt ∧ (u0.1 85 43).toInt ≤ 1 := hR 85 43
  refine a_Vv F hml hl.1 hA hP hD hS (As := [.int (200 : Int32)]) (x_X12_taken_85 l dC dI ad cA nF _ (200 : Int32) hR (by decide)) (cs_RX12_229 (d := 1) F.2.2.1 (by decide)) tc_85 rfl rfl rfl rfl (Nat.le_of_ble_eq_true rfl) dX12_sentence_9 ⟨Nat.le_refl 0, Nat.le_refl 0⟩ (fun u57 H locs hq hP hD hS => ?_)
  obtain ⟨hR, hF57, hK_LR, hz57⟩ := hq
  have hF := hF.tr hF57 (by decide)
  have hK_MS := sp_fr sp_MS hF57 (by decide) hK_MS
  have hK_UI := sp_fr sp_UI hF57 (by decide) hK_UI
  have hK_CW := sp_fr sp_CW hF57 (by decide) hK_CW
  have hK_AP := sp_fr sp_AP hF57 (by decide) hK_AP
  have hK_AU := sp_fr sp_AU hF57 (by decide) hK_AU
  have hK_i_HX := sp_fr (sp_imp sp_HX) hF57 (by decide) hK_i_HX
  have hC := vl_eq hC hz57.symm
  refine lv_aload_n F.1 F.2.1 dX12_sentence_12 rfl (lv_at hl 0 rfl) ?_
  refine a_ic F (0 : Int32) dX12_sentence_13 (by decide) ?_
  refine a_puti F inX12 tyX12 tyX12_ok nmX12 hP hD hS 85 15 tc_85 rfl rfl (by decide) q1486 (fun _ h9 => h9) rfl (ty := .int) (tyX12_ok 15 (by decide)) rfl rfl dX12_sentence_14 (fun H locs hP hD hS => ?_)
  have hR := hR.si (c := 85) (k := 15) (v := (0 : Int32)) ⟨i_lo _, i_hi _⟩
  have hF := hF.si (c := 85) (k := 15) (v := (0 : Int32)) rfl
  have hK_MS := sp_sgD sp_MS hD hK_MS (by decide)
  have hK_UI := sp_si sp_UI hK_UI (c := 85) (k := 15) (v := (0 : Int32)) (fun j9 h9 q9 => by rw [q9] at h9; exact absurd h9 (by decide))
  have hK_CW := sp_sgD sp_CW hD hK_CW (by decide)
  have hK_AP := sp_sgD sp_AP hD hK_AP (by decide)
  have hK_AU := sp_si sp_AU hK_AU (c := 85) (k := 15) (v := (0 : Int32)) (fun j9 h9 q9 => by rw [q9] at h9; exact absurd h9 (by decide))
  have hK_i_HX := sp_sgD (sp_imp sp_HX) hD hK_i_HX (by decide)
  have hK_LR := sp_si (sp_ln0 85) hK_LR (c := 85) (k := 15) (v := (0 : Int32)) (fun j9 h9 q9 => by rw [q9] at h9; exact absurd h9 (by decide))
  refine lv_aload_n F.1 F.2.1 dX12_sentence_17 rfl (lv_at hl 0 rfl) ?_
  refine a_ic F (0 : Int32) dX12_sentence_18 (by decide) ?_
  refine a_puti F inX12 tyX12 tyX12_ok nmX12 hP hD hS 85 39 tc_85 rfl rfl (by decide) q1510 (fun _ h9 => h9) rfl (ty := .int) (tyX12_ok 39 (by decide)) rfl rfl dX12_sentence_19 (fun H locs hP hD hS => ?_)
  have hR := hR.si (c := 85) (k := 39) (v := (0 : Int32)) (by rw [ic_0]; exact (by omega : (0 : Int) ≤ (0 : Int) ∧ (0 : Int) ≤ 45))
  have hF := hF.si (c := 85) (k := 39) (v := (0 : Int32)) rfl
  have hK_MS := sp_sgD sp_MS hD hK_MS (by decide)
  have hK_UI := sp_si sp_UI hK_UI (c := 85) (k := 39) (v := (0 : Int32)) (fun j9 h9 q9 => by rw [q9] at h9; exact absurd h9 (by decide))
  have hK_CW := sp_sgD sp_CW hD hK_CW (by decide)
  have hK_AP := sp_sgD sp_AP hD hK_AP (by decide)
  have hK_AU := sp_si sp_AU hK_AU (c := 85) (k := 39) (v := (0 : Int32)) (fun j9 h9 q9 => by rw [q9] at h9; exact absurd h9 (by decide))
  have hK_i_HX := sp_sgD (sp_imp sp_HX) hD hK_i_HX (by decide)
  have hK_LR := sp_si (sp_ln0 85) hK_LR (c := 85) (k := 39) (v := (0 : Int32)) (fun j9 h9 q9 => by rw [q9] at h9; exact absurd h9 (by decide))
  refine lv_aload_n F.1 F.2.1 dX12_sentence_22 rfl (lv_at hl 0 rfl) ?_
  refine a_ic F (0 : Int32) dX12_sentence_23 (by decide) ?_
  refine a_puti F inX12 tyX12 tyX12_ok nmX12 hP hD hS 85 40 tc_85 rfl rfl (by decide) q1511 (fun _ h9 => h9) rfl (ty := .int) (tyX12_ok 40 (by decide)) rfl rfl dX12_sentence_24 (fun H locs hP hD hS => ?_)
  have hR := hR.si (c := 85) (k := 40) (v := (0 : Int32)) (by rw [ic_0]; exact (by omega : (0 : Int) ≤ (0 : Int) ∧ (0 : Int) ≤ 20))
  have hF := hF.si (c := 85) (k := 40) (v := (0 : Int32)) rfl
  have hK_MS := sp_sgD sp_MS hD hK_MS (by decide)
  have hK_UI := sp_si sp_UI hK_UI (c := 85) (k := 40) (v := (0 : Int32)) (fun j9 h9 q9 => by rw [q9] at h9; exact absurd h9 (by decide))
  have hK_CW := sp_sgD sp_CW hD hK_CW (by decide)
  have hK_AP := sp_sgD sp_AP hD hK_AP (by decide)
  have hK_AU := sp_si sp_AU hK_AU (c := 85) (k := 40) (v := (0 : Int32)) (fun j9 h9 q9 => by rw [q9] at h9; exact absurd h9 (by decide))
  have hK_i_HX := sp_sgD (sp_imp sp_HX) hD hK_i_HX (by decide)
  have hK_LR := sp_si (sp_ln0 85) hK_LR (c := 85) (k := 40) (v := (0 : Int32)) (fun j9 h9 q9 => by rw [q9] at h9; exact absurd h9 (by decide))
  refine lv_aload_n F.1 F.2.1 dX12_sentence_27 rfl (lv_at hl 0 rfl) ?_
  refine a_ic F (0 : Int32) dX12_sentence_28 (by decide) ?_
  refine a_puti F inX12 tyX12 tyX12_ok nmX12 hP hD hS 85 41 tc_85 rfl rfl (by decide) q1512 (fun _ h9 => h9) rfl (ty := .int) (tyX12_ok 41 (by decide)) rfl rfl dX12_sentence_29 (fun H locs hP hD hS => ?_)
  have hR := hR.si (c := 85) (k := 41) (v := (0 : Int32)) (by rw [ic_0]; exact (by omega : (0 : Int) ≤ (0 : Int) ∧ (0 : Int) ≤ 45))
  have hF := hF.si (c := 85) (k := 41) (v := (0 : Int32)) rfl
  have hK_MS := sp_sgD sp_MS hD hK_MS (by decide)
  have hK_UI := sp_si sp_UI hK_UI (c := 85) (k := 41) (v := (0 : Int32)) (fun j9 h9 q9 => by rw [q9] at h9; exact absurd h9 (by decide))
  have hK_CW := sp_sgD sp_CW hD hK_CW (by decide)
  have hK_AP := sp_sgD sp_AP hD hK_AP (by decide)
  have hK_AU := sp_si sp_AU hK_AU (c := 85) (k := 41) (v := (0 : Int32)) (fun j9 h9 q9 => by rw [q9] at h9; exact absurd h9 (by decide))
  have hK_i_HX := sp_sgD (sp_imp sp_HX) hD hK_i_HX (by decide)
  have hK_LR := sp_si (sp_ln0 85) hK_LR (c := 85) (k := 41) (v := (0 : Int32)) (fun j9 h9 q9 => by rw [q9] at h9; exact absurd h9 (by decide))
  refine lv_aload_n F.1 F.2.1 dX12_sentence_32 rfl (lv_at hl 0 rfl) ?_
  refine a_ic F (1 : Int32) dX12_sentence_33 (by decide) ?_
  refine a_puti F inX12 tyX12 tyX12_ok nmX12 hP hD hS 85 42 tc_85 rfl rfl (by decide) q1513 (fun _ h9 => h9) rfl (ty := .int) (tyX12_ok 42 (by decide)) rfl rfl dX12_sentence_34 (fun H locs hP hD hS => ?_)
  have hR := hR.si (c := 85) (k := 42) (v := (1 : Int32)) ⟨i_lo _, i_hi _⟩
  have hF := hF.si (c := 85) (k := 42) (v := (1 : Int32)) rfl
  have hK_MS := sp_sgD sp_MS hD hK_MS (by decide)
  have hK_UI := sp_si sp_UI hK_UI (c := 85) (k := 42) (v := (1 : Int32)) (fun j9 h9 q9 => by rw [q9] at h9; exact absurd h9 (by decide))
  have hK_CW := sp_sgD sp_CW hD hK_CW (by decide)
  have hK_AP := sp_sgD sp_AP hD hK_AP (by decide)
  have hK_AU := sp_si sp_AU hK_AU (c := 85) (k := 42) (v := (1 : Int32)) (fun j9 h9 q9 => by rw [q9] at h9; exact absurd h9 (by decide))
  have hK_i_HX := sp_sgD (sp_imp sp_HX) hD hK_i_HX (by decide)
  have hK_LR := sp_si (sp_ln0 85) hK_LR (c := 85) (k := 42) (v := (1 : Int32)) (fun j9 h9 q9 => by rw [q9] at h9; exact absurd h9 (by decide))
  refine lv_aload_n F.1 F.2.1 dX12_sentence_37 rfl (lv_at hl 0 rfl) ?_
  refine a_ic F (0 : Int32) dX12_sentence_38 (by decide) ?_
  refine a_puti F inX12 tyX12 tyX12_ok nmX12 hP hD hS 85 43 tc_85 rfl rfl (by decide) q1514 (fun _ h9 => h9) rfl (ty := .boolean) (tyX12_ok 43 (by decide)) (i_zn (Or.inl rfl)) (i_zf (Or.inl rfl)) dX12_sentence_39 (fun H locs hP hD hS => ?_)
  have hR := hR.si (c := 85) (k := 43) (v := (0 : Int32)) (by rw [ic_0]; exact (by omega : (0 : Int) ≤ (0 : Int) ∧ (0 : Int) ≤ 1))
  have hF := hF.si (c := 85) (k := 43) (v := (0 : Int32)) rfl
  have hN_SWW := sw_0D hD (a := (0 : Int32)) (b := (0 : Int32)) (c := (0 : Int32)) rfl rfl rfl (by decide) (by decide) (by decide)
  have hK_MS := sp_sgD sp_MS hD hK_MS (by decide)
  have hK_UI := sp_si sp_UI hK_UI (c := 85) (k := 43) (v := (0 : Int32)) (fun j9 h9 q9 => by rw [q9] at h9; exact absurd h9 (by decide))
  have hK_CW := sp_sgD sp_CW hD hK_CW (by decide)
  have hK_AP := sp_sgD sp_AP hD hK_AP (by decide)
  have hK_AU := sp_si sp_AU hK_AU (c := 85) (k := 43) (v := (0 : Int32)) (fun j9 h9 q9 => by rw [q9] at h9; exact absurd h9 (by decide))
  have hK_i_HX := sp_sgD (sp_imp sp_HX) hD hK_i_HX (by decide)
  have hK_LR := sp_si (sp_ln0 85) hK_LR (c := 85) (k := 43) (v := (0 : Int32)) (fun j9 h9 q9 => by rw [q9] at h9; exact absurd h9 (by decide))
  have hK_SWW := hN_SWW
  refine lv_aload_n F.1 F.2.1 dX12_sentence_42 rfl (lv_at hl 0 rfl) ?_
  refine a_Vv F hml hl.1 hA hP hD hS (As := []) (x_X12_next_85 l dC dI ad cA nF _  hR) (cs_RX12_184 (d := 2) F.2.2.1 (by decide)) tc_85 rfl rfl rfl rfl (Nat.le_of_ble_eq_true rfl) dX12_sentence_43 ⟨Nat.le_refl 0, Nat.le_refl 0⟩ (fun u62 H locs hq hP hD hS => ?_)
  obtain ⟨hR, hF62, hz62⟩ := hq
  have hF := hF.tr hF62 (by decide)
  have hK_MS := sp_fr sp_MS hF62 (by decide) hK_MS
  have hK_UI := sp_fr sp_UI hF62 (by decide) hK_UI
  have hK_CW := sp_fr sp_CW hF62 (by decide) hK_CW
  have hK_AP := sp_fr sp_AP hF62 (by decide) hK_AP
  have hK_AU := sp_fr sp_AU hF62 (by decide) hK_AU
  have hK_i_HX := sp_fr (sp_imp sp_HX) hF62 (by decide) hK_i_HX
  have hK_LR := sp_fr (sp_ln0 85) hF62 (by decide) hK_LR
  have hK_SWW := sp_fr sp_SWW hF62 (by decide) hK_SWW
  have hC := vl_eq hC hz62.symm
  refine a_ic F (1 : Int32) dX12_sentence_46 (by decide) ?_
  refine lv_istore_n (lv' := [(1, .int (1 : Int32)), (0, .ref (ad 85))]) F.1 F.2.1 dX12_sentence_47 rfl hl (by decide) rfl (fun ls hl => ?_)
  exact L48 140 (1 : Int32) _ _ _ _ hR hF (by show 4 * (21 - (u62.1 85 40).toInt) + (u62.1 85 41).toInt + 2 * (u62.1 85 43).toInt + (1 : Int) < (140 : Int); rw [hF62 85 40 rfl, hF62 85 41 rfl, hF62 85 43 rfl]; exact (by omega : 4 * (21 - (0 : Int)) + (0 : Int) + 2 * (0 : Int) + (1 : Int) < (140 : Int))) hK_MS hK_UI hK_CW hK_AP hK_AU hK_SWW hK_LR hK_i_HX (by decide) (i_trB ((hF62 85 0 rfl).trans (hF57 85 0 rfl)) (by omega : (0 : Int) ≤ (0 : Int) ∧ (0 : Int) ≤ 0)) (by rw [hF62 85 39 rfl, hF62 85 41 rfl, hF62 85 40 rfl, hF62 85 43 rfl]; try exact (by omega : (0 : Int) + (0 : Int) ≤ 2 * (0 : Int) - (0 : Int))) hC hP hD hS (lv_sub hl [1, 0] rfl)

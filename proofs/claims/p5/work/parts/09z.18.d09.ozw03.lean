
def f_X6_mark_24 (u0 : ac_U) (p0 : Int32) (p1 : Int32) : Int32 := (vl (p0 * (4 : Int32)) (fun (v1 : Int32) => (vl (v1 + p1) (fun (v2 : Int32) => (vl (u0.1 26 v2.toNatClampNeg) (fun (v3 : Int32) => v3))))))
set_option maxHeartbeats 600000 in
set_option maxRecDepth 100000 in
theorem x_X6_mark_24 (l : Launch) (dC : Nat → ClassId) (dI : Nat → Nat → Nat) (ad : Nat → Nat) (cA : Nat → ClassId) (nF : Nat) (u0 : ac_U) (p0 : Int32) (p1 : Int32) (hR : ac_R rg u0) (hp0 : (0 : Int) ≤ p0.toInt ∧ p0.toInt ≤ 79) (hp1 : (0 : Int) ≤ p1.toInt ∧ p1.toInt ≤ 3) : ac_Mi l yX6_mark (.code yX6_mark cX6_mark 3 (some .int) :: TB) 1 (dC, dI) vwCl (ac_ty cA) ad cA (TT nF) [.ref (ad 24), .int p0, .int p1] u0 (fun (r : Int32) (u : ac_U) => u = u0 ∧ (p1.toInt = 0 → 0 ≤ r.toInt ∧ r.toInt ≤ 480) ∧ f_X6_mark_24 u0 p0 p1 = r) := by
  refine ac_Mi.of (cc := cX6_mark) (maxL := 3) (ret := (some .int)) (by decide) rfl (Nat.le_of_ble_eq_true rfl) ?_
  intro p e s m below meth c A ls F hml hr hlocks hA hP hD hS hl
  have F : ac_X p s m [.ref (ad 24), .int p0, .int p1].toArray c cX6_mark RX6 TB (dC, dI) vwCl (ac_ty cA) := ⟨F.1, F.2.1, fun w h => F.2.2.1 w (List.mem_cons_of_mem _ h), F.2.2.2.1, F.2.2.2.2⟩
  have hl : lv_has ls 3 [(0, .ref (ad 24)), (1, .int p0), (2, .int p1)] := hl
  obtain ⟨RR, hRR⟩ : ∃ q, q = f_X6_mark_24 u0 p0 p1 := ⟨_, rfl⟩
  have hC : RR = f_X6_mark_24 u0 p0 p1 := hRR
  unfold f_X6_mark_24 at hC
  refine lv_aload_n F.1 F.2.1 dX6_mark_0 rfl (lv_at hl 0 rfl) ?_
  refine a_getr F inX6 hP 24 2 tc_24 rfl rfl (by decide) q278 (fun _ h9 => h9) dX6_mark_1 ?_
  refine lv_iload_n F.1 F.2.1 dX6_mark_4 rfl (lv_at hl 1 rfl) ?_
  refine a_ic F (4 : Int32) dX6_mark_5 (by decide) ?_
  refine a_imulX F dX6_mark_6 rfl ic_4 (by omega) (fun v1 hv1 yv1 => ?_)
  have hC := vl_eq hC yv1
  refine lv_iload_n F.1 F.2.1 dX6_mark_7 rfl (lv_at hl 2 rfl) ?_
  refine a_iaddX F dX6_mark_8 rfl rfl (by omega) (fun v2 hv2 yv2 => ?_)
  have hC := vl_eq hC yv2
  refine a_iald F hP 26 tc_26 rfl (i_in rfl (by omega)) dX6_mark_9 (fun v3 ev3 => ?_)
  have hC := vl_eq hC ev3.symm
  have hm : p1.toInt = 0 → 0 ≤ v3.toInt ∧ v3.toInt ≤ 480 := fun h => mk_when hR ev3 (q := p0.toInt) (by omega) (by omega)
  exact a_reti F hr hlocks hP hD hS dX6_mark_10 ⟨rfl, (by omega : p1.toInt = 0 → 0 ≤ v3.toInt ∧ v3.toInt ≤ 480), hRR.symm.trans hC⟩
def K_X5_weighDeed_29_169 (u0 : ac_U) (p0 : Int32) (p1 : Int32) (p2 : Int32) (u : ac_U) (x5 : Int32) : ac_U := (vl ((1 : Int32) <<< (x5 &&& 31)) (fun (v1 : Int32) => (vl ((u.1 29 4) ||| v1) (fun (v2 : Int32) => (pI u 29 4 v2)))))
def K_X5_weighDeed_29_143 (u0 : ac_U) (p0 : Int32) (p1 : Int32) (p2 : Int32) (u : ac_U) (x5 : Int32) (x6 : Int32) (x7 : Int32) : ac_U := (vl (f_X2_term_4 u p0 (7 : Int32)) (fun (r3 : Int32) => (if x7.toInt ≠ r3.toInt then u else (if x6.toInt ≠ 0 then (K_X5_weighDeed_29_169 u0 p0 p1 p2 u x5) else (vl (p1 &&& (2 : Int32)) (fun (v6 : Int32) => (if v6.toInt ≠ 0 then u else (K_X5_weighDeed_29_169 u0 p0 p1 p2 u x5))))))))
def K_X5_weighDeed_29_61 (u0 : ac_U) (p0 : Int32) (p1 : Int32) (p2 : Int32) (u : ac_U) (x4 : Int32) (x5 : Int32) (z0 : Int32) : ac_U := (vl (f_X6_mark_24 u p2 (2 : Int32)) (fun (r8 : Int32) => (if z0.toInt = 0 then (K_X5_weighDeed_29_143 u0 p0 p1 p2 u x5 z0 r8) else (vl (f_X2_term_4 u p0 (1 : Int32)) (fun (r10 : Int32) => (if r8.toInt ≠ r10.toInt then (K_X5_weighDeed_29_143 u0 p0 p1 p2 u x5 z0 r8) else (vl (f_X2_hourOf_4 u x4) (fun (r12 : Int32) => (vl (f_X2_term_4 u p0 (3 : Int32)) (fun (r13 : Int32) => (if r12.toInt < r13.toInt then (K_X5_weighDeed_29_143 u0 p0 p1 p2 u x5 z0 r8) else (vl (f_X6_mark_24 u p2 (3 : Int32)) (fun (r15 : Int32) => (vl (f_X5_isThere_29 u p0 p1 r15) (fun (r16 : Int32) => (if r16.toInt = 0 then (K_X5_weighDeed_29_143 u0 p0 p1 p2 u x5 z0 r8) else (vl (u.1 30 x5.toNatClampNeg) (fun (v18 : Int32) => (vl (v18 + (1 : Int32)) (fun (v19 : Int32) => (K_X5_weighDeed_29_143 u0 p0 p1 p2 (pI u 30 x5.toNatClampNeg v19) x5 z0 r8)))))))))))))))))))))
def f_X5_weighDeed_29 (u0 : ac_U) (p0 : Int32) (p1 : Int32) (p2 : Int32) : ac_U := (vl (f_X6_mark_24 u0 p2 (0 : Int32)) (fun (r20 : Int32) => (vl (f_X2_dayOf_4 u0 r20) (fun (r21 : Int32) => (if r21.toInt < 0 then u0 else (if r21.toInt < (20 : Int) then (vl (f_X6_mark_24 u0 p2 (1 : Int32)) (fun (r25 : Int32) => (vl (f_X2_term_4 u0 p0 (0 : Int32)) (fun (r26 : Int32) => (if r25.toInt ≠ r26.toInt then (K_X5_weighDeed_29_61 u0 p0 p1 p2 u0 r20 r21 (0 : Int32)) else (K_X5_weighDeed_29_61 u0 p0 p1 p2 u0 r20 r21 (1 : Int32))))))) else u0))))))
set_option maxHeartbeats 600000 in
set_option maxRecDepth 100000 in
theorem x_X5_weighDeed_29 (l : Launch) (dC : Nat → ClassId) (dI : Nat → Nat → Nat) (ad : Nat → Nat) (cA : Nat → ClassId) (nF : Nat) (u0 : ac_U) (p0 : Int32) (p1 : Int32) (p2 : Int32) (hR : ac_R rg u0) (hp0 : (0 : Int) ≤ p0.toInt ∧ p0.toInt ≤ 7) (hp1 : (0 : Int) ≤ p1.toInt ∧ p1.toInt ≤ 7) (hp2 : (0 : Int) ≤ p2.toInt ∧ p2.toInt ≤ 79) (hK_CTa : cntI p2.toInt u0) : ac_Mv l yX5_weighDeed (.code yX5_weighDeed cX5_weighDeed 8 none :: TB) 3 (dC, dI) vwCl (ac_ty cA) ad cA (TT nF) [.ref (ad 29), .int p0, .int p1, .int p2] u0 (fun (u : ac_U) => ac_R rg u ∧ ac_Fr [(29, some 4), (30, none)] u0 u ∧ cntI (p2.toInt + 1) u ∧ f_X5_weighDeed_29 u0 p0 p1 p2 = u) := by
  refine ac_Mv.of (cc := cX5_weighDeed) (maxL := 8) (ret := none) (by decide) rfl (Nat.le_of_ble_eq_true rfl) ?_
  intro p e s m below meth c A ls F hml hr hlocks hA hP hD hS hl
  have F : ac_X p s m [.ref (ad 29), .int p0, .int p1, .int p2].toArray c cX5_weighDeed RX5 TB (dC, dI) vwCl (ac_ty cA) := ⟨F.1, F.2.1, fun w h => F.2.2.1 w (List.mem_cons_of_mem _ h), F.2.2.2.1, F.2.2.2.2⟩
  have hl : lv_has ls 8 [(0, .ref (ad 29)), (1, .int p0), (2, .int p1), (3, .int p2)] := hl
  obtain ⟨RR, hRR⟩ : ∃ q, q = f_X5_weighDeed_29 u0 p0 p1 p2 := ⟨_, rfl⟩
  have hF : ac_Fr [(29, some 4), (30, none)] u0 u0 := ac_Fr.rf
  have L169 : ∀ (x5 : Int32) (u : ac_U) (H : Heap) (locs : List Loc) (ls : Array Slot), ac_R rg u → ac_Fr [(29, some 4), (30, none)] u0 u → cntI (p2.toInt + 1) u → (0 : Int) ≤ x5.toInt ∧ x5.toInt ≤ 19 → RR = (K_X5_weighDeed_29_169 u0 p0 p1 p2 u x5) → va_P (dC, dI) vwCl (ac_w ad cA (TT nF) u) H → va_D A (ac_w ad cA (TT nF) u) → va_S A s.heap H locs → lv_has ls 8 [(0, .ref (ad 29)), (5, .int x5)] → W p l e (ac_rm 3) s m [.ref (ad 29), .int p0, .int p1, .int p2].toArray below meth c H locs 0 0 (MQ below (va_Qv (fun (u : ac_U) => ac_R rg u ∧ ac_Fr [(29, some 4), (30, none)] u0 u ∧ cntI (p2.toInt + 1) u ∧ f_X5_weighDeed_29 u0 p0 p1 p2 = u) (ac_B (dC, dI) vwCl (ac_ty cA) ad cA (TT nF) A) A) [.ref (ad 29), .int p0, .int p1, .int p2].toArray s 0 0 A) (F0 m 169 ls []) := by
    intro x5 u H locs ls hR hF hK_CTb f0 hC hP hD hS hl
    unfold K_X5_weighDeed_29_169 at hC
    refine lv_aload_n F.1 F.2.1 dX5_weighDeed_169 rfl (lv_at hl 0 rfl) ?_
    refine lv_dup F.1 F.2.1 dX5_weighDeed_170 rfl ?_
    refine a_geti F inX5 hP 29 4 tc_29 rfl rfl (by decide) q310 (fun _ h9 => h9) (v := (u.1 29 4)) rfl dX5_weighDeed_171 ?_
    refine a_ic F (1 : Int32) dX5_weighDeed_174 (by decide) ?_
    refine lv_iload F.1 F.2.1 dX5_weighDeed_175 (lv_at hl 1 rfl) ?_
    refine a_ishl1X F dX5_weighDeed_177 rfl (lo := 0) (hi := 19) (by omega) (by decide) (fun v1 hv1 yv1 => ?_)
    have hv1 : (1 : Int) ≤ v1.toInt ∧ v1.toInt ≤ 524288 := hv1
    have hC := vl_eq hC yv1
    refine a_iorUX F dX5_weighDeed_178 (fun v2 yv2 => ?_)
    have hC := vl_eq hC yv2
    refine a_puti F inX5 tyX5 tyX5_ok nmX5 hP hD hS 29 4 tc_29 rfl rfl (by decide) q310 (fun _ h9 => h9) rfl (ty := .int) (tyX5_ok 4 (by decide)) rfl rfl dX5_weighDeed_179 (fun H locs hP hD hS => ?_)
    have hR := hR.si (c := 29) (k := 4) (v := v2) ⟨i_lo _, i_hi _⟩
    have hF := hF.si (c := 29) (k := 4) (v := v2) rfl
    have hK_CTb := sp_sgD (sp_cnt _) hD hK_CTb (by decide)
    exact a_retv F hr hlocks hP hD hS dX5_weighDeed_182 ⟨hR, hF, hK_CTb, hRR.symm.trans hC⟩
  have L143 : ∀ (x5 : Int32) (x6 : Int32) (x7 : Int32) (u : ac_U) (H : Heap) (locs : List Loc) (ls : Array Slot), ac_R rg u → ac_Fr [(29, some 4), (30, none)] u0 u → cntI (p2.toInt + 1) u → (0 : Int) ≤ x5.toInt ∧ x5.toInt ≤ 19 → (0 : Int) ≤ x6.toInt ∧ x6.toInt ≤ 1 → RR = (K_X5_weighDeed_29_143 u0 p0 p1 p2 u x5 x6 x7) → va_P (dC, dI) vwCl (ac_w ad cA (TT nF) u) H → va_D A (ac_w ad cA (TT nF) u) → va_S A s.heap H locs → lv_has ls 8 [(0, .ref (ad 29)), (1, .int p0), (2, .int p1), (5, .int x5), (6, .int x6), (7, .int x7)] → W p l e (ac_rm 3) s m [.ref (ad 29), .int p0, .int p1, .int p2].toArray below meth c H locs 0 0 (MQ below (va_Qv (fun (u : ac_U) => ac_R rg u ∧ ac_Fr [(29, some 4), (30, none)] u0 u ∧ cntI (p2.toInt + 1) u ∧ f_X5_weighDeed_29 u0 p0 p1 p2 = u) (ac_B (dC, dI) vwCl (ac_ty cA) ad cA (TT nF) A) A) [.ref (ad 29), .int p0, .int p1, .int p2].toArray s 0 0 A) (F0 m 143 ls []) := by
    intro x5 x6 x7 u H locs ls hR hF hK_CTb f0 f1 hC hP hD hS hl
    unfold K_X5_weighDeed_29_143 at hC
    refine lv_iload F.1 F.2.1 dX5_weighDeed_143 (lv_at hl 5 rfl) ?_
    refine lv_aload_n F.1 F.2.1 dX5_weighDeed_145 rfl (lv_at hl 0 rfl) ?_
    refine a_getr F inX5 hP 29 0 tc_29 rfl rfl (by decide) q306 (fun _ h9 => h9) dX5_weighDeed_146 ?_
    refine lv_iload_n F.1 F.2.1 dX5_weighDeed_149 rfl (lv_at hl 1 rfl) ?_
    refine a_bp F (7 : Int32) dX5_weighDeed_150 (by decide) ?_
    refine a_Vi F hml hl.1 hA hP hD hS (As := [.int p0, .int (7 : Int32)]) (x_X2_term_4 l dC dI ad cA nF _ p0 (7 : Int32) hR (by omega) (by decide)) (cs_RX5_36 (d := 1) F.2.2.1 (by decide)) tc_4 rfl rfl rfl rfl (Nat.le_of_ble_eq_true rfl) dX5_weighDeed_152 ⟨Nat.le_refl 0, Nat.le_refl 0⟩ (fun r3 uN3 H locs hq hP hD hS => ?_)
    obtain ⟨hu3, xr3, hz3⟩ := hq
    rw [hu3] at hP hD
    have xr3 : ((7 : Int) = 2 → 0 ≤ r3.toInt ∧ r3.toInt ≤ 7) ∧ ((7 : Int) = 5 → 0 ≤ r3.toInt ∧ r3.toInt ≤ 3) := xr3
    have hC := vl_eq hC hz3.symm
    refine b_ne F 182 dX5_weighDeed_155 (by decide) rfl rfl (fun c4 => ?_) (fun c4 => ?_)
    · have hC := hC.trans (if_pos c4)
      exact a_retv F hr hlocks hP hD hS dX5_weighDeed_182 ⟨hR, hF, hK_CTb, hRR.symm.trans hC⟩
    · have hC := hC.trans (if_neg (by omega))
      refine lv_iload F.1 F.2.1 dX5_weighDeed_158 (lv_at hl 4 rfl) ?_
      refine z_ne F 169 dX5_weighDeed_160 (by decide) rfl (fun c5 => ?_) (fun c5 => ?_)
      · have hC := hC.trans (if_pos c5)
        exact L169 x5 _ _ _ _ hR hF hK_CTb (by omega) hC hP hD hS (lv_sub hl [0, 3] rfl)
      · have hC := hC.trans (if_neg (by omega))
        refine lv_iload_n F.1 F.2.1 dX5_weighDeed_163 rfl (lv_at hl 2 rfl) ?_
        refine a_ic F (2 : Int32) dX5_weighDeed_164 (by decide) ?_
        refine a_iandMX F dX5_weighDeed_165 ic_2 (by omega) (fun v6 hv6 yv6 => ?_)
        have hC := vl_eq hC yv6
        refine z_ne F 182 dX5_weighDeed_166 (by decide) rfl (fun c7 => ?_) (fun c7 => ?_)
        · have hC := hC.trans (if_pos c7)
          exact a_retv F hr hlocks hP hD hS dX5_weighDeed_182 ⟨hR, hF, hK_CTb, hRR.symm.trans hC⟩
        · have hC := hC.trans (if_neg (by omega))
          exact L169 x5 _ _ _ _ hR hF hK_CTb (by omega) hC hP hD hS (lv_sub hl [0, 3] rfl)
  have L61 : ∀ (x4 : Int32) (x5 : Int32) (z0 : Int32) (u : ac_U) (H : Heap) (locs : List Loc) (ls : Array Slot), ac_R rg u → ac_Fr [(29, some 4), (30, none)] u0 u → cntI p2.toInt u → (0 : Int) ≤ x4.toInt ∧ x4.toInt ≤ 480 → (0 : Int) ≤ x5.toInt ∧ x5.toInt ≤ 19 → (0 : Int) ≤ z0.toInt ∧ z0.toInt ≤ 1 → RR = (K_X5_weighDeed_29_61 u0 p0 p1 p2 u x4 x5 z0) → va_P (dC, dI) vwCl (ac_w ad cA (TT nF) u) H → va_D A (ac_w ad cA (TT nF) u) → va_S A s.heap H locs → lv_has ls 8 [(0, .ref (ad 29)), (1, .int p0), (2, .int p1), (3, .int p2), (4, .int x4), (5, .int x5)] → W p l e (ac_rm 3) s m [.ref (ad 29), .int p0, .int p1, .int p2].toArray below meth c H locs 0 0 (MQ below (va_Qv (fun (u : ac_U) => ac_R rg u ∧ ac_Fr [(29, some 4), (30, none)] u0 u ∧ cntI (p2.toInt + 1) u ∧ f_X5_weighDeed_29 u0 p0 p1 p2 = u) (ac_B (dC, dI) vwCl (ac_ty cA) ad cA (TT nF) A) A) [.ref (ad 29), .int p0, .int p1, .int p2].toArray s 0 0 A) (F0 m 61 ls [.int z0]) := by
    intro x4 x5 z0 u H locs ls hR hF hK_CTa f0 f1 f2 hC hP hD hS hl
    unfold K_X5_weighDeed_29_61 at hC
    refine lv_istore (lv' := [(6, .int z0), (0, .ref (ad 29)), (1, .int p0), (2, .int p1), (3, .int p2), (4, .int x4), (5, .int x5)]) F.1 F.2.1 dX5_weighDeed_61 hl (by decide) rfl (fun ls hl => ?_)
    refine lv_aload_n F.1 F.2.1 dX5_weighDeed_63 rfl (lv_at hl 1 rfl) ?_
    refine a_getr F inX5 hP 29 1 tc_29 rfl rfl (by decide) q307 (fun _ h9 => h9) dX5_weighDeed_64 ?_
    refine lv_iload_n F.1 F.2.1 dX5_weighDeed_67 rfl (lv_at hl 4 rfl) ?_
    refine a_ic F (2 : Int32) dX5_weighDeed_68 (by decide) ?_
    refine a_Vi F hml hl.1 hA hP hD hS (As := [.int p2, .int (2 : Int32)]) (x_X6_mark_24 l dC dI ad cA nF _ p2 (2 : Int32) hR (by omega) (by decide)) (cs_RX5_68 (d := 1) F.2.2.1 (by decide)) tc_24 rfl rfl rfl rfl (Nat.le_of_ble_eq_true rfl) dX5_weighDeed_69 ⟨Nat.le_refl 0, Nat.le_refl 0⟩ (fun r8 uN8 H locs hq hP hD hS => ?_)
    obtain ⟨hu8, xr8, hz8⟩ := hq
    rw [hu8] at hP hD
    have xr8 : (2 : Int) = 0 → 0 ≤ r8.toInt ∧ r8.toInt ≤ 480 := xr8
    have hC := vl_eq hC hz8.symm
    refine lv_istore (lv' := [(7, .int r8), (6, .int z0), (0, .ref (ad 29)), (1, .int p0), (2, .int p1), (3, .int p2), (4, .int x4), (5, .int x5)]) F.1 F.2.1 dX5_weighDeed_72 hl (by decide) rfl (fun ls hl => ?_)
    refine lv_iload F.1 F.2.1 dX5_weighDeed_74 (lv_at hl 1 rfl) ?_
    refine z_eq F 143 dX5_weighDeed_76 (by decide) rfl (fun c9 => ?_) (fun c9 => ?_)
    · have hC := hC.trans (if_pos c9)
      exact L143 x5 z0 r8 _ _ _ _ hR hF (cnt_le hK_CTa (by omega)) (by omega) (by omega) hC hP hD hS (lv_sub hl [2, 3, 4, 7, 1, 0] rfl)
    · have hC := hC.trans (if_neg (by omega))
      refine lv_iload F.1 F.2.1 dX5_weighDeed_79 (lv_at hl 0 rfl) ?_
      refine lv_aload_n F.1 F.2.1 dX5_weighDeed_81 rfl (lv_at hl 2 rfl) ?_
      refine a_getr F inX5 hP 29 0 tc_29 rfl rfl (by decide) q306 (fun _ h9 => h9) dX5_weighDeed_82 ?_
      refine lv_iload_n F.1 F.2.1 dX5_weighDeed_85 rfl (lv_at hl 3 rfl) ?_
      refine a_ic F (1 : Int32) dX5_weighDeed_86 (by decide) ?_
      refine a_Vi F hml hl.1 hA hP hD hS (As := [.int p0, .int (1 : Int32)]) (x_X2_term_4 l dC dI ad cA nF _ p0 (1 : Int32) hR (by omega) (by decide)) (cs_RX5_36 (d := 1) F.2.2.1 (by decide)) tc_4 rfl rfl rfl rfl (Nat.le_of_ble_eq_true rfl) dX5_weighDeed_87 ⟨Nat.le_refl 0, Nat.le_refl 0⟩ (fun r10 uN10 H locs hq hP hD hS => ?_)
      obtain ⟨hu10, xr10, hz10⟩ := hq
      rw [hu10] at hP hD
      have xr10 : ((1 : Int) = 2 → 0 ≤ r10.toInt ∧ r10.toInt ≤ 7) ∧ ((1 : Int) = 5 → 0 ≤ r10.toInt ∧ r10.toInt ≤ 3) := xr10
      have hC := vl_eq hC hz10.symm
      refine b_ne F 143 dX5_weighDeed_90 (by decide) rfl rfl (fun c11 => ?_) (fun c11 => ?_)
      · have hC := hC.trans (if_pos c11)
        exact L143 x5 z0 r8 _ _ _ _ hR hF (cnt_le hK_CTa (by omega)) (by omega) (by omega) hC hP hD hS (lv_sub hl [2, 3, 4, 7, 1, 0] rfl)
      · have hC := hC.trans (if_neg (by omega))
        refine lv_aload_n F.1 F.2.1 dX5_weighDeed_93 rfl (lv_at hl 2 rfl) ?_
        refine a_getr F inX5 hP 29 0 tc_29 rfl rfl (by decide) q306 (fun _ h9 => h9) dX5_weighDeed_94 ?_
        refine lv_iload F.1 F.2.1 dX5_weighDeed_97 (lv_at hl 6 rfl) ?_
        refine a_Vi F hml hl.1 hA hP hD hS (As := [.int x4]) (x_X2_hourOf_4 l dC dI ad cA nF _ x4 hR (by omega)) (cs_RX5_59 (d := 1) F.2.2.1 (by decide)) tc_4 rfl rfl rfl rfl (Nat.le_of_ble_eq_true rfl) dX5_weighDeed_99 ⟨Nat.le_refl 0, Nat.le_refl 0⟩ (fun r12 uN12 H locs hq hP hD hS => ?_)
        obtain ⟨hu12, gr12, xr12, hz12⟩ := hq
        rw [hu12] at hP hD
        have xr12 : 0 ≤ x4.toInt → 0 ≤ r12.toInt := xr12
        have hC := vl_eq hC hz12.symm
        refine lv_aload_n F.1 F.2.1 dX5_weighDeed_102 rfl (lv_at hl 2 rfl) ?_
        refine a_getr F inX5 hP 29 0 tc_29 rfl rfl (by decide) q306 (fun _ h9 => h9) dX5_weighDeed_103 ?_
        refine lv_iload_n F.1 F.2.1 dX5_weighDeed_106 rfl (lv_at hl 3 rfl) ?_
        refine a_ic F (3 : Int32) dX5_weighDeed_107 (by decide) ?_
        refine a_Vi F hml hl.1 hA hP hD hS (As := [.int p0, .int (3 : Int32)]) (x_X2_term_4 l dC dI ad cA nF _ p0 (3 : Int32) hR (by omega) (by decide)) (cs_RX5_36 (d := 1) F.2.2.1 (by decide)) tc_4 rfl rfl rfl rfl (Nat.le_of_ble_eq_true rfl) dX5_weighDeed_108 ⟨Nat.le_refl 0, Nat.le_refl 0⟩ (fun r13 uN13 H locs hq hP hD hS => ?_)
        obtain ⟨hu13, xr13, hz13⟩ := hq
        rw [hu13] at hP hD
        have xr13 : ((3 : Int) = 2 → 0 ≤ r13.toInt ∧ r13.toInt ≤ 7) ∧ ((3 : Int) = 5 → 0 ≤ r13.toInt ∧ r13.toInt ≤ 3) := xr13
        have hC := vl_eq hC hz13.symm
        refine b_lt F 143 dX5_weighDeed_111 (by decide) rfl rfl (fun c14 => ?_) (fun c14 => ?_)
        · have hC := hC.trans (if_pos c14)
          exact L143 x5 z0 r8 _ _ _ _ hR hF (cnt_le hK_CTa (by omega)) (by omega) (by omega) hC hP hD hS (lv_sub hl [2, 3, 4, 7, 1, 0] rfl)
        · have hC := hC.trans (if_neg (by omega))
          refine lv_aload_n F.1 F.2.1 dX5_weighDeed_114 rfl (lv_at hl 2 rfl) ?_
          refine lv_iload_n F.1 F.2.1 dX5_weighDeed_115 rfl (lv_at hl 3 rfl) ?_
          refine lv_iload_n F.1 F.2.1 dX5_weighDeed_116 rfl (lv_at hl 4 rfl) ?_
          refine lv_aload_n F.1 F.2.1 dX5_weighDeed_117 rfl (lv_at hl 2 rfl) ?_
          refine a_getr F inX5 hP 29 1 tc_29 rfl rfl (by decide) q307 (fun _ h9 => h9) dX5_weighDeed_118 ?_
          refine lv_iload_n F.1 F.2.1 dX5_weighDeed_121 rfl (lv_at hl 5 rfl) ?_
          refine a_ic F (3 : Int32) dX5_weighDeed_122 (by decide) ?_
          refine a_Vi F hml hl.1 hA hP hD hS (As := [.int p2, .int (3 : Int32)]) (x_X6_mark_24 l dC dI ad cA nF _ p2 (3 : Int32) hR (by omega) (by decide)) (cs_RX5_68 (d := 1) F.2.2.1 (by decide)) tc_24 rfl rfl rfl rfl (Nat.le_of_ble_eq_true rfl) dX5_weighDeed_123 ⟨Nat.le_refl 0, Nat.le_refl 0⟩ (fun r15 uN15 H locs hq hP hD hS => ?_)
          obtain ⟨hu15, xr15, hz15⟩ := hq
          rw [hu15] at hP hD
          have xr15 : (3 : Int) = 0 → 0 ≤ r15.toInt ∧ r15.toInt ≤ 480 := xr15
          have hC := vl_eq hC hz15.symm
          refine a_Vi F hml hl.1 hA hP hD hS (As := [.int p0, .int p1, .int r15]) (x_X5_isThere_29 l dC dI ad cA nF _ p0 p1 r15 hR (by omega) (by omega)) (cs_RX5_75 (d := 2) F.2.2.1 (by decide)) tc_29 rfl rfl rfl rfl (Nat.le_of_ble_eq_true rfl) dX5_weighDeed_126 ⟨Nat.le_refl 0, Nat.le_refl 0⟩ (fun r16 uN16 H locs hq hP hD hS => ?_)
          obtain ⟨hu16, gr16, hz16⟩ := hq
          rw [hu16] at hP hD
          have hC := vl_eq hC hz16.symm
          refine z_eq F 143 dX5_weighDeed_129 (by decide) rfl (fun c17 => ?_) (fun c17 => ?_)
          · have hC := hC.trans (if_pos c17)
            exact L143 x5 z0 r8 _ _ _ _ hR hF (cnt_le hK_CTa (by omega)) (by omega) (by omega) hC hP hD hS (lv_sub hl [2, 3, 4, 7, 1, 0] rfl)
          · have hC := hC.trans (if_neg (by omega))
            refine lv_aload_n F.1 F.2.1 dX5_weighDeed_132 rfl (lv_at hl 2 rfl) ?_
            refine a_getr F inX5 hP 29 2 tc_29 rfl rfl (by decide) q308 (fun _ h9 => h9) dX5_weighDeed_133 ?_
            refine lv_iload F.1 F.2.1 dX5_weighDeed_136 (lv_at hl 7 rfl) ?_
            refine lv_dup2_11 F.1 F.2.1 dX5_weighDeed_138 rfl rfl ?_
            refine a_iald F hP 30 tc_30 rfl (i_in rfl (by omega)) dX5_weighDeed_139 (fun v18 ev18 => ?_)
            have hC := vl_eq hC ev18.symm
            have hm8 := cnt_get hK_CTa (i := x5) (by omega) ev18
            refine a_ic F (1 : Int32) dX5_weighDeed_140 (by decide) ?_
            refine a_iaddX F dX5_weighDeed_141 rfl ic_1 (by omega) (fun v19 hv19 yv19 => ?_)
            have hC := vl_eq hC yv19
            refine a_iast F hP hD hS 30 tc_30 rfl (i_in rfl (by omega)) dX5_weighDeed_142 (fun H locs hP hD hS => ?_)
            have hR := hR.si (c := 30) (k := x5.toNatClampNeg) (v := v19) ⟨i_lo _, i_hi _⟩
            have hF := hF.si (c := 30) (k := x5.toNatClampNeg) (v := v19) rfl
            have hN_CTb := cnt_inc hK_CTa (k := x5.toNatClampNeg) (x := v18) (v := v19) (by have q9 := i_cl (x := x5) (by omega); omega) ev18 (by omega)
            have hK_CTb := hN_CTb
            exact L143 x5 z0 r8 _ _ _ _ hR hF hK_CTb (by omega) (by omega) hC hP hD hS (lv_sub hl [2, 3, 4, 7, 1, 0] rfl)
  have hC : RR = f_X5_weighDeed_29 u0 p0 p1 p2 := hRR
  unfold f_X5_weighDeed_29 at hC
  refine lv_aload_n F.1 F.2.1 dX5_weighDeed_0 rfl (lv_at hl 0 rfl) ?_
  refine a_getr F inX5 hP 29 1 tc_29 rfl rfl (by decide) q307 (fun _ h9 => h9) dX5_weighDeed_1 ?_
  refine lv_iload_n F.1 F.2.1 dX5_weighDeed_4 rfl (lv_at hl 3 rfl) ?_
  refine a_ic F (0 : Int32) dX5_weighDeed_5 (by decide) ?_
  refine a_Vi F hml hl.1 hA hP hD hS (As := [.int p2, .int (0 : Int32)]) (x_X6_mark_24 l dC dI ad cA nF _ p2 (0 : Int32) hR (by omega) (by decide)) (cs_RX5_68 (d := 1) F.2.2.1 (by decide)) tc_24 rfl rfl rfl rfl (Nat.le_of_ble_eq_true rfl) dX5_weighDeed_6 ⟨Nat.le_refl 0, Nat.le_refl 0⟩ (fun r20 uN20 H locs hq hP hD hS => ?_)
  obtain ⟨hu20, xr20, hz20⟩ := hq
  rw [hu20] at hP hD
  have xr20 : (0 : Int) = 0 → 0 ≤ r20.toInt ∧ r20.toInt ≤ 480 := xr20
  have hC := vl_eq hC hz20.symm
  refine lv_istore (lv' := [(4, .int r20), (0, .ref (ad 29)), (1, .int p0), (2, .int p1), (3, .int p2)]) F.1 F.2.1 dX5_weighDeed_9 hl (by decide) rfl (fun ls hl => ?_)
  refine lv_aload_n F.1 F.2.1 dX5_weighDeed_11 rfl (lv_at hl 1 rfl) ?_
  refine a_getr F inX5 hP 29 0 tc_29 rfl rfl (by decide) q306 (fun _ h9 => h9) dX5_weighDeed_12 ?_
  refine lv_iload F.1 F.2.1 dX5_weighDeed_15 (lv_at hl 0 rfl) ?_
  refine a_Vi F hml hl.1 hA hP hD hS (As := [.int r20]) (x_X2_dayOf_4 l dC dI ad cA nF _ r20 hR (by omega)) (cs_RX5_55 (d := 1) F.2.2.1 (by decide)) tc_4 rfl rfl rfl rfl (Nat.le_of_ble_eq_true rfl) dX5_weighDeed_17 ⟨Nat.le_refl 0, Nat.le_refl 0⟩ (fun r21 uN21 H locs hq hP hD hS => ?_)
  obtain ⟨hu21, gr21, xr21, hz21⟩ := hq
  rw [hu21] at hP hD
  have g22 : (4 : Int) ≤ (u0.1 4 0).toInt ∧ (u0.1 4 0).toInt ≤ 24 := hR 4 0
  have xr21 : 0 ≤ r20.toInt → r20.toInt < 20 * (u0.1 4 0).toInt → r21.toInt < 20 := xr21
  have hC := vl_eq hC hz21.symm
  refine lv_istore (lv' := [(5, .int r21), (4, .int r20), (0, .ref (ad 29)), (1, .int p0), (2, .int p1), (3, .int p2)]) F.1 F.2.1 dX5_weighDeed_20 hl (by decide) rfl (fun ls hl => ?_)
  refine lv_iload F.1 F.2.1 dX5_weighDeed_22 (lv_at hl 0 rfl) ?_
  refine z_lt F 34 dX5_weighDeed_24 (by decide) rfl (fun c23 => ?_) (fun c23 => ?_)
  · exfalso; omega
  · have hC := hC.trans (if_neg (by omega))
    refine lv_iload F.1 F.2.1 dX5_weighDeed_27 (lv_at hl 0 rfl) ?_
    refine a_bp F (20 : Int32) dX5_weighDeed_29 (by decide) ?_
    refine b_lt F 35 dX5_weighDeed_31 (by decide) rfl ic_20 (fun c24 => ?_) (fun c24 => ?_)
    · have hC := hC.trans (if_pos c24)
      refine lv_aload_n F.1 F.2.1 dX5_weighDeed_35 rfl (lv_at hl 2 rfl) ?_
      refine a_getr F inX5 hP 29 1 tc_29 rfl rfl (by decide) q307 (fun _ h9 => h9) dX5_weighDeed_36 ?_
      refine lv_iload_n F.1 F.2.1 dX5_weighDeed_39 rfl (lv_at hl 5 rfl) ?_
      refine a_ic F (1 : Int32) dX5_weighDeed_40 (by decide) ?_
      refine a_Vi F hml hl.1 hA hP hD hS (As := [.int p2, .int (1 : Int32)]) (x_X6_mark_24 l dC dI ad cA nF _ p2 (1 : Int32) hR (by omega) (by decide)) (cs_RX5_68 (d := 1) F.2.2.1 (by decide)) tc_24 rfl rfl rfl rfl (Nat.le_of_ble_eq_true rfl) dX5_weighDeed_41 ⟨Nat.le_refl 0, Nat.le_refl 0⟩ (fun r25 uN25 H locs hq hP hD hS => ?_)
      obtain ⟨hu25, xr25, hz25⟩ := hq
      rw [hu25] at hP hD
      have xr25 : (1 : Int) = 0 → 0 ≤ r25.toInt ∧ r25.toInt ≤ 480 := xr25
      have hC := vl_eq hC hz25.symm
      refine lv_aload_n F.1 F.2.1 dX5_weighDeed_44 rfl (lv_at hl 2 rfl) ?_
      refine a_getr F inX5 hP 29 0 tc_29 rfl rfl (by decide) q306 (fun _ h9 => h9) dX5_weighDeed_45 ?_
      refine lv_iload_n F.1 F.2.1 dX5_weighDeed_48 rfl (lv_at hl 3 rfl) ?_
      refine a_ic F (0 : Int32) dX5_weighDeed_49 (by decide) ?_
      refine a_Vi F hml hl.1 hA hP hD hS (As := [.int p0, .int (0 : Int32)]) (x_X2_term_4 l dC dI ad cA nF _ p0 (0 : Int32) hR (by omega) (by decide)) (cs_RX5_36 (d := 1) F.2.2.1 (by decide)) tc_4 rfl rfl rfl rfl (Nat.le_of_ble_eq_true rfl) dX5_weighDeed_50 ⟨Nat.le_refl 0, Nat.le_refl 0⟩ (fun r26 uN26 H locs hq hP hD hS => ?_)
      obtain ⟨hu26, xr26, hz26⟩ := hq
      rw [hu26] at hP hD
      have xr26 : ((0 : Int) = 2 → 0 ≤ r26.toInt ∧ r26.toInt ≤ 7) ∧ ((0 : Int) = 5 → 0 ≤ r26.toInt ∧ r26.toInt ≤ 3) := xr26
      have hC := vl_eq hC hz26.symm
      refine b_ne F 60 dX5_weighDeed_53 (by decide) rfl rfl (fun c27 => ?_) (fun c27 => ?_)
      · have hC := hC.trans (if_pos c27)
        refine a_ic F (0 : Int32) dX5_weighDeed_60 (by decide) ?_
        exact L61 r20 r21 (0 : Int32) _ _ _ _ hR hF hK_CTa (by omega) (by omega) (by decide) hC hP hD hS (lv_sub hl [2, 3, 4, 5, 1, 0] rfl)
      · have hC := hC.trans (if_neg (by omega))
        refine a_ic F (1 : Int32) dX5_weighDeed_56 (by decide) ?_
        refine lv_goto (tgt := 61) F.1 F.2.1 dX5_weighDeed_57 (by decide) ?_
        exact L61 r20 r21 (1 : Int32) _ _ _ _ hR hF hK_CTa (by omega) (by omega) (by decide) hC hP hD hS (lv_sub hl [2, 3, 4, 5, 1, 0] rfl)
    · have hC := hC.trans (if_neg (by omega))
      exact a_retv F hr hlocks hP hD hS dX5_weighDeed_34 ⟨hR, hF, (cnt_le hK_CTa (by omega)), hRR.symm.trans hC⟩
def K_J7_fill_53178_30_5_b (B5 : ac_U → Int32 → Int32 → ac_U) (u0 : ac_U) (p1 : Int32) (u : ac_U) (x2 : Int32) (x3 : Int32) : ac_U := (if x3.toInt ≤ x2.toInt then u else (vl (x2 + Int32.ofInt (1)) (fun (v2 : Int32) => (B5 (pI u 30 x2.toNatClampNeg p1) v2 x3))))
def K_J7_fill_53178_30_5 (u0 : ac_U) (p1 : Int32) : Nat → ac_U → Int32 → Int32 → ac_U
  | 0 => fun u x2 x3 => u
  | n + 1 => fun u x2 x3 => K_J7_fill_53178_30_5_b (K_J7_fill_53178_30_5 u0 p1 n) u0 p1 u x2 x3
def f_J7_fill_53178_30 (u0 : ac_U) (p1 : Int32) : ac_U := (K_J7_fill_53178_30_5 u0 p1 22 u0 (0 : Int32) (20 : Int32))
set_option maxHeartbeats 600000 in
set_option maxRecDepth 100000 in
theorem x_J7_fill_53178_30 (l : Launch) (dC : Nat → ClassId) (dI : Nat → Nat → Nat) (ad : Nat → Nat) (cA : Nat → ClassId) (nF : Nat) (u0 : ac_U) (p1 : Int32) (hR : ac_R rg u0) (hp1 : (0 : Int) ≤ p1.toInt ∧ p1.toInt ≤ 0) : ac_Mv l yJ7_fill_53178 (.code yJ7_fill_53178 cJ7_fill_53178 4 none :: TB) 1 (dC, dI) vwCl (ac_ty cA) ad cA (TT nF) [.ref (ad 30), .int p1] u0 (fun (u : ac_U) => ac_R rg u ∧ ac_Fr [(30, none)] u0 u ∧ flI 30 20 p1 u ∧ f_J7_fill_53178_30 u0 p1 = u) := by
  refine ac_Mv.of (cc := cJ7_fill_53178) (maxL := 4) (ret := none) (by decide) rfl (Nat.le_of_ble_eq_true rfl) ?_
  intro p e s m below meth c A ls F hml hr hlocks hA hP hD hS hl
  have F : ac_X p s m [.ref (ad 30), .int p1].toArray c cJ7_fill_53178 RJ7 TB (dC, dI) vwCl (ac_ty cA) := ⟨F.1, F.2.1, fun w h => F.2.2.1 w (List.mem_cons_of_mem _ h), F.2.2.2.1, F.2.2.2.2⟩
  have hl : lv_has ls 4 [(0, .ref (ad 30)), (1, .int p1)] := hl
  obtain ⟨RR, hRR⟩ : ∃ q, q = f_J7_fill_53178_30 u0 p1 := ⟨_, rfl⟩
  have hF : ac_Fr [(30, none)] u0 u0 := ac_Fr.rf
  have L5 : ∀ (n5 : Nat) (x2 : Int32) (x3 : Int32) (u : ac_U) (H : Heap) (locs : List Loc) (ls : Array Slot), ac_R rg u → ac_Fr [(30, none)] u0 u → 20 - x2.toInt < (n5 : Int) → flI 30 x2.toInt p1 u → (0 : Int) ≤ x2.toInt ∧ x2.toInt ≤ 20 → (20 : Int) ≤ x3.toInt ∧ x3.toInt ≤ 20 → RR = (K_J7_fill_53178_30_5 u0 p1 n5 u x2 x3) → va_P (dC, dI) vwCl (ac_w ad cA (TT nF) u) H → va_D A (ac_w ad cA (TT nF) u) → va_S A s.heap H locs → lv_has ls 4 [(0, .ref (ad 30)), (1, .int p1), (2, .int x2), (3, .int x3)] → W p l e (ac_rm 1) s m [.ref (ad 30), .int p1].toArray below meth c H locs 0 0 (MQ below (va_Qv (fun (u : ac_U) => ac_R rg u ∧ ac_Fr [(30, none)] u0 u ∧ flI 30 20 p1 u ∧ f_J7_fill_53178_30 u0 p1 = u) (ac_B (dC, dI) vwCl (ac_ty cA) ad cA (TT nF) A) A) [.ref (ad 30), .int p1].toArray s 0 0 A) (F0 m 5 ls []) := by
    intro n5
    induction n5 with
    | zero => intro x2 x3 u H locs ls hR hF hn5 hK_FLx f0 f1 hC hP hD hS hl; exfalso; omega
    | succ n5 ih5 =>
      intro x2 x3 u H locs ls hR hF hn5 hK_FLx f0 f1 hC hP hD hS hl
      have hC : RR = K_J7_fill_53178_30_5_b (K_J7_fill_53178_30_5 u0 p1 n5) u0 p1 u x2 x3 := hC
      unfold K_J7_fill_53178_30_5_b at hC
      refine lv_iload_n F.1 F.2.1 dJ7_fill_53178_5 rfl (lv_at hl 2 rfl) ?_
      refine lv_iload_n F.1 F.2.1 dJ7_fill_53178_6 rfl (lv_at hl 3 rfl) ?_
      refine b_ge F 20 dJ7_fill_53178_7 (by decide) rfl rfl (fun c1 => ?_) (fun c1 => ?_)
      · have hC := hC.trans (if_pos c1)
        exact a_retv F hr hlocks hP hD hS dJ7_fill_53178_20 ⟨hR, hF, (fl_le hK_FLx (by omega)), hRR.symm.trans hC⟩
      · have hC := hC.trans (if_neg (by omega))
        refine lv_aload_n F.1 F.2.1 dJ7_fill_53178_10 rfl (lv_at hl 0 rfl) ?_
        refine lv_iload_n F.1 F.2.1 dJ7_fill_53178_11 rfl (lv_at hl 2 rfl) ?_
        refine lv_iload_n F.1 F.2.1 dJ7_fill_53178_12 rfl (lv_at hl 1 rfl) ?_
        refine a_iast F hP hD hS 30 tc_30 rfl (i_in rfl (by omega)) dJ7_fill_53178_13 (fun H locs hP hD hS => ?_)
        have hR := hR.si (c := 30) (k := x2.toNatClampNeg) (v := p1) ⟨i_lo _, i_hi _⟩
        have hF := hF.si (c := 30) (k := x2.toNatClampNeg) (v := p1) rfl
        have hK_FLx := fl_s hK_FLx (i := x2) (by omega) rfl
        refine a_iincX F (k := 2) (fun v2 => [(2, .int v2), (0, .ref (ad 30)), (1, .int p1), (3, .int x3)]) dJ7_fill_53178_14 hl rfl rfl (by decide) (by omega) (by decide) (fun _ => rfl) (fun v2 ls hv2 yv2 hl => ?_)
        have hC := vl_eq hC yv2
        refine lv_goto (tgt := 5) F.1 F.2.1 dJ7_fill_53178_17 (by decide) ?_
        exact ih5 v2 x3 _ _ _ _ hR hF (by omega) (fl_le hK_FLx (by omega)) (by omega) (by omega) hC hP hD hS (lv_sub hl [1, 2, 0, 3] rfl)
  have hC : RR = f_J7_fill_53178_30 u0 p1 := hRR
  unfold f_J7_fill_53178_30 at hC
  refine a_ic F (0 : Int32) dJ7_fill_53178_0 (by decide) ?_
  refine lv_istore_n (lv' := [(2, .int (0 : Int32)), (0, .ref (ad 30)), (1, .int p1)]) F.1 F.2.1 dJ7_fill_53178_1 rfl hl (by decide) rfl (fun ls hl => ?_)
  refine lv_aload_n F.1 F.2.1 dJ7_fill_53178_2 rfl (lv_at hl 1 rfl) ?_
  refine va_alen (v := (20 : Int32)) F.1 F.2.1 F.2.2.2.2 hP 30 0 (ac_at tc_30) rfl rfl dJ7_fill_53178_3 ?_
  refine lv_istore_n (lv' := [(3, .int (20 : Int32)), (2, .int (0 : Int32)), (0, .ref (ad 30)), (1, .int p1)]) F.1 F.2.1 dJ7_fill_53178_4 rfl hl (by decide) rfl (fun ls hl => ?_)
  exact L5 22 (0 : Int32) (20 : Int32) _ _ _ _ hR hF (by decide) (fl_0 (by decide)) (by decide) (by decide) hC hP hD hS (lv_sub hl [2, 3, 1, 0] rfl)
def K_X5_weigh_29_161 (B104 : ac_U → Int32 → Int32 → ac_U) (u0 : ac_U) (p0 : Int32) (p1 : Int32) (u : ac_U) (x4 : Int32) (x5 : Int32) : ac_U := (vl (x5 + Int32.ofInt (1)) (fun (v1 : Int32) => (B104 u x4 v1)))
def K_X5_weigh_29_104_b (B104 : ac_U → Int32 → Int32 → ac_U) (u0 : ac_U) (p0 : Int32) (p1 : Int32) (u : ac_U) (x4 : Int32) (x5 : Int32) : ac_U := (if (u.1 25 2).toInt ≤ x5.toInt then u else (vl (f_X6_mark_24 u x5 (0 : Int32)) (fun (r4 : Int32) => (if r4.toInt < x4.toInt then (K_X5_weigh_29_161 B104 u0 p0 p1 u x4 x5) else (vl (f_X2_hourOf_4 u r4) (fun (r6 : Int32) => (if (u.1 29 5).toInt < r6.toInt then (K_X5_weigh_29_161 B104 u0 p0 p1 u x4 x5) else (vl (f_X5_weighDeed_29 u p0 p1 x5) (fun (u8 : ac_U) => (K_X5_weigh_29_161 B104 u0 p0 p1 u8 x4 x5))))))))))
def K_X5_weigh_29_104 (u0 : ac_U) (p0 : Int32) (p1 : Int32) : Nat → ac_U → Int32 → Int32 → ac_U
  | 0 => fun u x4 x5 => u
  | n + 1 => fun u x4 x5 => K_X5_weigh_29_104_b (K_X5_weigh_29_104 u0 p0 p1 n) u0 p0 p1 u x4 x5
def K_X5_weigh_29_84 (u0 : ac_U) (p0 : Int32) (p1 : Int32) (u : ac_U) (x4 : Int32) (z1 : Int32) (z2 : Int32) : ac_U := (vl (z1 + z2) (fun (v9 : Int32) => (vl (f_J7_fill_53178_30 (pI (pI u 29 6 v9) 29 4 (0 : Int32)) (0 : Int32)) (fun (u10 : ac_U) => (K_X5_weigh_29_104 u0 p0 p1 82 u10 x4 (0 : Int32))))))
def K_X5_weigh_29_11 (u0 : ac_U) (p0 : Int32) (p1 : Int32) (u : ac_U) (z0 : Int32) : ac_U := (vl (f_X2_term_4 u p0 (4 : Int32)) (fun (r11 : Int32) => (vl (r11 - z0) (fun (v12 : Int32) => (vl ((u.1 4 0) - (1 : Int32)) (fun (v14 : Int32) => (vl (if v14 < v12 then v14 else v12) (fun (v15 : Int32) => (vl ((15 : Int32) + p0) (fun (v16 : Int32) => (vl ((pI u 29 5 v15).1 25 v16.toNatClampNeg) (fun (v17 : Int32) => (vl (f_X2_dayOf_4 (pI u 29 5 v15) v17) (fun (r18 : Int32) => (vl (f_X2_hourOf_4 (pI u 29 5 v15) v17) (fun (r19 : Int32) => (if v15.toInt < r19.toInt then (K_X5_weigh_29_84 u0 p0 p1 (pI u 29 5 v15) v17 r18 (1 : Int32)) else (K_X5_weigh_29_84 u0 p0 p1 (pI u 29 5 v15) v17 r18 (0 : Int32)))))))))))))))))))
def f_X5_weigh_29 (u0 : ac_U) (p0 : Int32) (p1 : Int32) : ac_U := (vl (p1 &&& (1 : Int32)) (fun (v21 : Int32) => (if v21.toInt = 0 then (K_X5_weigh_29_11 u0 p0 p1 u0 (0 : Int32)) else (K_X5_weigh_29_11 u0 p0 p1 u0 (1 : Int32)))))
set_option maxHeartbeats 600000 in
set_option maxRecDepth 100000 in
theorem x_X5_weigh_29 (l : Launch) (dC : Nat → ClassId) (dI : Nat → Nat → Nat) (ad : Nat → Nat) (cA : Nat → ClassId) (nF : Nat) (u0 : ac_U) (p0 : Int32) (p1 : Int32) (hR : ac_R rg u0) (hp0 : (0 : Int) ≤ p0.toInt ∧ p0.toInt ≤ 7) (hp1 : (0 : Int) ≤ p1.toInt ∧ p1.toInt ≤ 7) : ac_Mv l yX5_weigh (.code yX5_weigh cX5_weigh 7 none :: TB) 4 (dC, dI) vwCl (ac_ty cA) ad cA (TT nF) [.ref (ad 29), .int p0, .int p1] u0 (fun (u : ac_U) => ac_R rg u ∧ ac_Fr [(29, some 4), (29, some 5), (29, some 6), (30, none)] u0 u ∧ cntI 80 u ∧ f_X5_weigh_29 u0 p0 p1 = u) := by
  refine ac_Mv.of (cc := cX5_weigh) (maxL := 7) (ret := none) (by decide) rfl (Nat.le_of_ble_eq_true rfl) ?_
  intro p e s m below meth c A ls F hml hr hlocks hA hP hD hS hl
  have F : ac_X p s m [.ref (ad 29), .int p0, .int p1].toArray c cX5_weigh RX5 TB (dC, dI) vwCl (ac_ty cA) := ⟨F.1, F.2.1, fun w h => F.2.2.1 w (List.mem_cons_of_mem _ h), F.2.2.2.1, F.2.2.2.2⟩
  have hl : lv_has ls 7 [(0, .ref (ad 29)), (1, .int p0), (2, .int p1)] := hl
  obtain ⟨RR, hRR⟩ : ∃ q, q = f_X5_weigh_29 u0 p0 p1 := ⟨_, rfl⟩
  have hF : ac_Fr [(29, some 4), (29, some 5), (29, some 6), (30, none)] u0 u0 := ac_Fr.rf
  have L104 : ∀ (n104 : Nat) (x4 : Int32) (x5 : Int32) (u : ac_U) (H : Heap) (locs : List Loc) (ls : Array Slot), ac_R rg u → ac_Fr [(29, some 4), (29, some 5), (29, some 6), (30, none)] u0 u → 80 - x5.toInt < (n104 : Int) → cntI x5.toInt u → (-1 : Int) ≤ x4.toInt ∧ x4.toInt ≤ 480 → (0 : Int) ≤ x5.toInt ∧ x5.toInt ≤ 80 → (u.1 29 5).toInt ≤ 23 → RR = (K_X5_weigh_29_104 u0 p0 p1 n104 u x4 x5) → va_P (dC, dI) vwCl (ac_w ad cA (TT nF) u) H → va_D A (ac_w ad cA (TT nF) u) → va_S A s.heap H locs → lv_has ls 7 [(0, .ref (ad 29)), (1, .int p0), (2, .int p1), (4, .int x4), (5, .int x5)] → W p l e (ac_rm 4) s m [.ref (ad 29), .int p0, .int p1].toArray below meth c H locs 0 0 (MQ below (va_Qv (fun (u : ac_U) => ac_R rg u ∧ ac_Fr [(29, some 4), (29, some 5), (29, some 6), (30, none)] u0 u ∧ cntI 80 u ∧ f_X5_weigh_29 u0 p0 p1 = u) (ac_B (dC, dI) vwCl (ac_ty cA) ad cA (TT nF) A) A) [.ref (ad 29), .int p0, .int p1].toArray s 0 0 A) (F0 m 104 ls []) := by
    intro n104
    induction n104 with
    | zero => intro x4 x5 u H locs ls hR hF hn104 hK_CTx f0 f1 f2 hC hP hD hS hl; exfalso; omega
    | succ n104 ih104 =>
      intro x4 x5 u H locs ls hR hF hn104 hK_CTx f0 f1 f2 hC hP hD hS hl
      have hC : RR = K_X5_weigh_29_104_b (K_X5_weigh_29_104 u0 p0 p1 n104) u0 p0 p1 u x4 x5 := hC
      have L161 : ∀ (x4 : Int32) (x5 : Int32) (u : ac_U) (H : Heap) (locs : List Loc) (ls : Array Slot), ac_R rg u → ac_Fr [(29, some 4), (29, some 5), (29, some 6), (30, none)] u0 u → cntI (x5.toInt + 1) u → (-1 : Int) ≤ x4.toInt ∧ x4.toInt ≤ 480 → (0 : Int) ≤ x5.toInt ∧ x5.toInt ≤ 79 → (1 : Int) ≤ (u.1 25 2).toInt ∧ (u.1 25 2).toInt ≤ 80 → (u.1 29 5).toInt ≤ 23 → 80 - x5.toInt + 0 < ((n104 : Nat) : Int) + 1 → RR = (K_X5_weigh_29_161 (K_X5_weigh_29_104 u0 p0 p1 n104) u0 p0 p1 u x4 x5) → va_P (dC, dI) vwCl (ac_w ad cA (TT nF) u) H → va_D A (ac_w ad cA (TT nF) u) → va_S A s.heap H locs → lv_has ls 7 [(0, .ref (ad 29)), (1, .int p0), (2, .int p1), (4, .int x4), (5, .int x5)] → W p l e (ac_rm 4) s m [.ref (ad 29), .int p0, .int p1].toArray below meth c H locs 0 0 (MQ below (va_Qv (fun (u : ac_U) => ac_R rg u ∧ ac_Fr [(29, some 4), (29, some 5), (29, some 6), (30, none)] u0 u ∧ cntI 80 u ∧ f_X5_weigh_29 u0 p0 p1 = u) (ac_B (dC, dI) vwCl (ac_ty cA) ad cA (TT nF) A) A) [.ref (ad 29), .int p0, .int p1].toArray s 0 0 A) (F0 m 161 ls []) := by
        intro x4 x5 u H locs ls hR hF hK_CTy f0 f1 f2 f3 f4 hC hP hD hS hl
        unfold K_X5_weigh_29_161 at hC
        refine a_iincX F (k := 4) (fun v1 => [(5, .int v1), (0, .ref (ad 29)), (1, .int p0), (2, .int p1), (4, .int x4)]) dX5_weigh_161 hl rfl rfl (by decide) (by omega) (by decide) (fun _ => rfl) (fun v1 ls hv1 yv1 hl => ?_)
        have hC := vl_eq hC yv1
        refine lv_goto (tgt := 104) F.1 F.2.1 dX5_weigh_164 (by decide) ?_
        exact ih104 x4 v1 _ _ _ _ hR hF (by omega) (cnt_le hK_CTy (by omega)) (by omega) (by omega) (by omega : (u.1 29 5).toInt ≤ 23) hC hP hD hS (lv_sub hl [1, 2, 3, 4, 0] rfl)
      unfold K_X5_weigh_29_104_b at hC
      refine lv_iload F.1 F.2.1 dX5_weigh_104 (lv_at hl 4 rfl) ?_
      refine lv_aload_n F.1 F.2.1 dX5_weigh_106 rfl (lv_at hl 0 rfl) ?_
      refine a_getr F inX5 hP 29 1 tc_29 rfl rfl (by decide) q307 (fun _ h9 => h9) dX5_weigh_107 ?_
      refine a_getr F inX6 hP 24 1 tc_24 rfl rfl (by decide) q274 (fun _ h9 => h9) dX5_weigh_110 ?_
      refine a_ic F (2 : Int32) dX5_weigh_113 (by decide) ?_
      have g2 : (0 : Int) ≤ (u.1 25 2).toInt ∧ (u.1 25 2).toInt ≤ 80 := hR 25 2
      refine a_ialdK F hP 25 2 tc_25 rfl rfl (i_in ic_2 (by omega)) (v := (u.1 25 2)) rfl dX5_weigh_114 ?_
      refine b_ge F 167 dX5_weigh_115 (by decide) rfl rfl (fun c3 => ?_) (fun c3 => ?_)
      · have hC := hC.trans (if_pos c3)
        exact a_retv F hr hlocks hP hD hS dX5_weigh_167 ⟨hR, hF, (cnt_le hK_CTx (by omega)), hRR.symm.trans hC⟩
      · have hC := hC.trans (if_neg (by omega))
        refine lv_aload_n F.1 F.2.1 dX5_weigh_118 rfl (lv_at hl 0 rfl) ?_
        refine a_getr F inX5 hP 29 1 tc_29 rfl rfl (by decide) q307 (fun _ h9 => h9) dX5_weigh_119 ?_
        refine lv_iload F.1 F.2.1 dX5_weigh_122 (lv_at hl 4 rfl) ?_
        refine a_ic F (0 : Int32) dX5_weigh_124 (by decide) ?_
        refine a_Vi F hml hl.1 hA hP hD hS (As := [.int x5, .int (0 : Int32)]) (x_X6_mark_24 l dC dI ad cA nF _ x5 (0 : Int32) hR (by omega) (by decide)) (cs_RX5_68 (d := 1) F.2.2.1 (by decide)) tc_24 rfl rfl rfl rfl (Nat.le_of_ble_eq_true rfl) dX5_weigh_125 ⟨Nat.le_refl 0, Nat.le_refl 0⟩ (fun r4 uN4 H locs hq hP hD hS => ?_)
        obtain ⟨hu4, xr4, hz4⟩ := hq
        rw [hu4] at hP hD
        have xr4 : (0 : Int) = 0 → 0 ≤ r4.toInt ∧ r4.toInt ≤ 480 := xr4
        have hC := vl_eq hC hz4.symm
        refine lv_istore (lv' := [(6, .int r4), (0, .ref (ad 29)), (1, .int p0), (2, .int p1), (4, .int x4), (5, .int x5)]) F.1 F.2.1 dX5_weigh_128 hl (by decide) rfl (fun ls hl => ?_)
        refine lv_iload F.1 F.2.1 dX5_weigh_130 (lv_at hl 0 rfl) ?_
        refine lv_iload F.1 F.2.1 dX5_weigh_132 (lv_at hl 4 rfl) ?_
        refine b_lt F 161 dX5_weigh_134 (by decide) rfl rfl (fun c5 => ?_) (fun c5 => ?_)
        · have hC := hC.trans (if_pos c5)
          exact L161 x4 x5 _ _ _ _ hR hF (cnt_le hK_CTx (by omega)) (by omega) (by omega) (by omega : (1 : Int) ≤ (u.1 25 2).toInt ∧ (u.1 25 2).toInt ≤ 80) (by omega : (u.1 29 5).toInt ≤ 23) (by omega) hC hP hD hS (lv_sub hl [1, 2, 3, 4, 5] rfl)
        · have hC := hC.trans (if_neg (by omega))
          refine lv_aload_n F.1 F.2.1 dX5_weigh_137 rfl (lv_at hl 1 rfl) ?_
          refine a_getr F inX5 hP 29 0 tc_29 rfl rfl (by decide) q306 (fun _ h9 => h9) dX5_weigh_138 ?_
          refine lv_iload F.1 F.2.1 dX5_weigh_141 (lv_at hl 0 rfl) ?_
          refine a_Vi F hml hl.1 hA hP hD hS (As := [.int r4]) (x_X2_hourOf_4 l dC dI ad cA nF _ r4 hR (by omega)) (cs_RX5_59 (d := 1) F.2.2.1 (by decide)) tc_4 rfl rfl rfl rfl (Nat.le_of_ble_eq_true rfl) dX5_weigh_143 ⟨Nat.le_refl 0, Nat.le_refl 0⟩ (fun r6 uN6 H locs hq hP hD hS => ?_)
          obtain ⟨hu6, gr6, xr6, hz6⟩ := hq
          rw [hu6] at hP hD
          have xr6 : 0 ≤ r4.toInt → 0 ≤ r6.toInt := xr6
          have hC := vl_eq hC hz6.symm
          refine lv_aload_n F.1 F.2.1 dX5_weigh_146 rfl (lv_at hl 1 rfl) ?_
          refine a_geti F inX5 hP 29 5 tc_29 rfl rfl (by decide) q311 (fun _ h9 => h9) (v := (u.1 29 5)) rfl dX5_weigh_147 ?_
          refine b_gt F 161 dX5_weigh_150 (by decide) rfl rfl (fun c7 => ?_) (fun c7 => ?_)
          · have hC := hC.trans (if_pos c7)
            exact L161 x4 x5 _ _ _ _ hR hF (cnt_le hK_CTx (by omega)) (by omega) (by omega) (by omega : (1 : Int) ≤ (u.1 25 2).toInt ∧ (u.1 25 2).toInt ≤ 80) (by omega : (u.1 29 5).toInt ≤ 23) (by omega) hC hP hD hS (lv_sub hl [1, 2, 3, 4, 5] rfl)
          · have hC := hC.trans (if_neg (by omega))
            refine lv_aload_n F.1 F.2.1 dX5_weigh_153 rfl (lv_at hl 1 rfl) ?_
            refine lv_iload_n F.1 F.2.1 dX5_weigh_154 rfl (lv_at hl 2 rfl) ?_
            refine lv_iload_n F.1 F.2.1 dX5_weigh_155 rfl (lv_at hl 3 rfl) ?_
            refine lv_iload F.1 F.2.1 dX5_weigh_156 (lv_at hl 5 rfl) ?_
            refine a_Vv F hml hl.1 hA hP hD hS (As := [.int p0, .int p1, .int x5]) (x_X5_weighDeed_29 l dC dI ad cA nF _ p0 p1 x5 hR (by omega) (by omega) (by omega) hK_CTx) (cs_RX5_71 (d := 3) F.2.2.1 (by decide)) tc_29 rfl rfl rfl rfl (Nat.le_of_ble_eq_true rfl) dX5_weigh_158 ⟨Nat.le_refl 0, Nat.le_refl 0⟩ (fun u8 H locs hq hP hD hS => ?_)
            obtain ⟨hR, hF8, hK_CTy, hz8⟩ := hq
            have hF := hF.tr hF8 (by decide)
            have hC := vl_eq hC hz8.symm
            exact L161 x4 x5 _ _ _ _ hR hF hK_CTy (by omega) (by omega) (i_trB (hF8 25 2 rfl) (by omega : (1 : Int) ≤ (u.1 25 2).toInt ∧ (u.1 25 2).toInt ≤ 80)) (i_trH (hF8 29 5 rfl) (by omega : (u.1 29 5).toInt ≤ 23)) (by omega) hC hP hD hS (lv_sub hl [1, 2, 3, 4, 5] rfl)
  have L84 : ∀ (x4 : Int32) (z1 : Int32) (z2 : Int32) (u : ac_U) (H : Heap) (locs : List Loc) (ls : Array Slot), ac_R rg u → ac_Fr [(29, some 4), (29, some 5), (29, some 6), (30, none)] u0 u → (-1 : Int) ≤ x4.toInt ∧ x4.toInt ≤ 480 → (0 : Int) ≤ z1.toInt ∧ z1.toInt ≤ 120 → (0 : Int) ≤ z2.toInt ∧ z2.toInt ≤ 1 → (u.1 29 5).toInt ≤ 23 → RR = (K_X5_weigh_29_84 u0 p0 p1 u x4 z1 z2) → va_P (dC, dI) vwCl (ac_w ad cA (TT nF) u) H → va_D A (ac_w ad cA (TT nF) u) → va_S A s.heap H locs → lv_has ls 7 [(0, .ref (ad 29)), (1, .int p0), (2, .int p1), (4, .int x4)] → W p l e (ac_rm 4) s m [.ref (ad 29), .int p0, .int p1].toArray below meth c H locs 0 0 (MQ below (va_Qv (fun (u : ac_U) => ac_R rg u ∧ ac_Fr [(29, some 4), (29, some 5), (29, some 6), (30, none)] u0 u ∧ cntI 80 u ∧ f_X5_weigh_29 u0 p0 p1 = u) (ac_B (dC, dI) vwCl (ac_ty cA) ad cA (TT nF) A) A) [.ref (ad 29), .int p0, .int p1].toArray s 0 0 A) (F0 m 84 ls [.int z2, .int z1, .ref (ad 29)]) := by
    intro x4 z1 z2 u H locs ls hR hF f0 f1 f2 f3 hC hP hD hS hl
    unfold K_X5_weigh_29_84 at hC
    refine a_iaddX F dX5_weigh_84 rfl rfl (by omega) (fun v9 hv9 yv9 => ?_)
    have hC := vl_eq hC yv9
    refine a_puti F inX5 tyX5 tyX5_ok nmX5 hP hD hS 29 6 tc_29 rfl rfl (by decide) q312 (fun _ h9 => h9) rfl (ty := .int) (tyX5_ok 6 (by decide)) rfl rfl dX5_weigh_85 (fun H locs hP hD hS => ?_)
    have hR := hR.si (c := 29) (k := 6) (v := v9) (by omega : (0 : Int) ≤ v9.toInt ∧ v9.toInt ≤ 121)
    have hF := hF.si (c := 29) (k := 6) (v := v9) rfl
    refine lv_aload_n F.1 F.2.1 dX5_weigh_88 rfl (lv_at hl 0 rfl) ?_
    refine a_ic F (0 : Int32) dX5_weigh_89 (by decide) ?_
    refine a_puti F inX5 tyX5 tyX5_ok nmX5 hP hD hS 29 4 tc_29 rfl rfl (by decide) q310 (fun _ h9 => h9) rfl (ty := .int) (tyX5_ok 4 (by decide)) rfl rfl dX5_weigh_90 (fun H locs hP hD hS => ?_)
    have hR := hR.si (c := 29) (k := 4) (v := (0 : Int32)) ⟨i_lo _, i_hi _⟩
    have hF := hF.si (c := 29) (k := 4) (v := (0 : Int32)) rfl
    refine lv_aload_n F.1 F.2.1 dX5_weigh_93 rfl (lv_at hl 0 rfl) ?_
    refine a_getr F inX5 hP 29 2 tc_29 rfl rfl (by decide) q308 (fun _ h9 => h9) dX5_weigh_94 ?_
    refine a_ic F (0 : Int32) dX5_weigh_97 (by decide) ?_
    refine a_Sv F hml hl.1 hA hP hD hS (As := [.ref (ad 30), .int (0 : Int32)]) (x_J7_fill_53178_30 l dC dI ad cA nF _ (0 : Int32) hR (by decide)) (cs_RX5_62 (d := 1) F.2.2.1 (by decide)) rfl rfl (Nat.le_of_ble_eq_true rfl) dX5_weigh_98 ⟨Nat.le_refl 0, Nat.le_refl 0⟩ (fun u10 H locs hq hP hD hS => ?_)
    obtain ⟨hR, hF10, hK_FLw, hz10⟩ := hq
    have hF := hF.tr hF10 (by decide)
    have hC := vl_eq hC hz10.symm
    refine a_ic F (0 : Int32) dX5_weigh_101 (by decide) ?_
    refine lv_istore (lv' := [(5, .int (0 : Int32)), (0, .ref (ad 29)), (1, .int p0), (2, .int p1), (4, .int x4)]) F.1 F.2.1 dX5_weigh_102 hl (by decide) rfl (fun ls hl => ?_)
    exact L104 82 x4 (0 : Int32) _ _ _ _ hR hF (by decide) (cnt_le (fl_cnt hK_FLw (by decide)) (by decide)) (by omega) (by decide) (i_trH (hF10 29 5 rfl) (by omega : (u.1 29 5).toInt ≤ 23)) hC hP hD hS (lv_sub hl [1, 2, 3, 4, 0] rfl)
  have L11 : ∀ (z0 : Int32) (u : ac_U) (H : Heap) (locs : List Loc) (ls : Array Slot), ac_R rg u → ac_Fr [(29, some 4), (29, some 5), (29, some 6), (30, none)] u0 u → (0 : Int) ≤ z0.toInt ∧ z0.toInt ≤ 1 → RR = (K_X5_weigh_29_11 u0 p0 p1 u z0) → va_P (dC, dI) vwCl (ac_w ad cA (TT nF) u) H → va_D A (ac_w ad cA (TT nF) u) → va_S A s.heap H locs → lv_has ls 7 [(0, .ref (ad 29)), (1, .int p0), (2, .int p1)] → W p l e (ac_rm 4) s m [.ref (ad 29), .int p0, .int p1].toArray below meth c H locs 0 0 (MQ below (va_Qv (fun (u : ac_U) => ac_R rg u ∧ ac_Fr [(29, some 4), (29, some 5), (29, some 6), (30, none)] u0 u ∧ cntI 80 u ∧ f_X5_weigh_29 u0 p0 p1 = u) (ac_B (dC, dI) vwCl (ac_ty cA) ad cA (TT nF) A) A) [.ref (ad 29), .int p0, .int p1].toArray s 0 0 A) (F0 m 11 ls [.int z0]) := by
    intro z0 u H locs ls hR hF f0 hC hP hD hS hl
    unfold K_X5_weigh_29_11 at hC
    refine lv_istore_n (lv' := [(3, .int z0), (0, .ref (ad 29)), (1, .int p0), (2, .int p1)]) F.1 F.2.1 dX5_weigh_11 rfl hl (by decide) rfl (fun ls hl => ?_)
    refine lv_aload_n F.1 F.2.1 dX5_weigh_12 rfl (lv_at hl 1 rfl) ?_
    refine lv_aload_n F.1 F.2.1 dX5_weigh_13 rfl (lv_at hl 1 rfl) ?_
    refine a_getr F inX5 hP 29 0 tc_29 rfl rfl (by decide) q306 (fun _ h9 => h9) dX5_weigh_14 ?_
    refine lv_iload_n F.1 F.2.1 dX5_weigh_17 rfl (lv_at hl 2 rfl) ?_
    refine a_ic F (4 : Int32) dX5_weigh_18 (by decide) ?_
    refine a_Vi F hml hl.1 hA hP hD hS (As := [.int p0, .int (4 : Int32)]) (x_X2_term_4 l dC dI ad cA nF _ p0 (4 : Int32) hR (by omega) (by decide)) (cs_RX5_36 (d := 1) F.2.2.1 (by decide)) tc_4 rfl rfl rfl rfl (Nat.le_of_ble_eq_true rfl) dX5_weigh_19 ⟨Nat.le_refl 0, Nat.le_refl 0⟩ (fun r11 uN11 H locs hq hP hD hS => ?_)
    obtain ⟨hu11, xr11, hz11⟩ := hq
    rw [hu11] at hP hD
    have xr11 : ((4 : Int) = 2 → 0 ≤ r11.toInt ∧ r11.toInt ≤ 7) ∧ ((4 : Int) = 5 → 0 ≤ r11.toInt ∧ r11.toInt ≤ 3) := xr11
    have hC := vl_eq hC hz11.symm
    refine lv_iload_n F.1 F.2.1 dX5_weigh_22 rfl (lv_at hl 0 rfl) ?_
    refine a_isubUX F dX5_weigh_23 (fun v12 yv12 => ?_)
    have hC := vl_eq hC yv12
    refine lv_aload_n F.1 F.2.1 dX5_weigh_24 rfl (lv_at hl 1 rfl) ?_
    refine a_getr F inX5 hP 29 0 tc_29 rfl rfl (by decide) q306 (fun _ h9 => h9) dX5_weigh_25 ?_
    have g13 : (4 : Int) ≤ (u.1 4 0).toInt ∧ (u.1 4 0).toInt ≤ 24 := hR 4 0
    refine a_geti F inX2 hP 4 0 tc_4 rfl rfl (by decide) q152 (fun _ h9 => h9) (v := (u.1 4 0)) rfl dX5_weigh_28 ?_
    refine a_ic F (1 : Int32) dX5_weigh_31 (by decide) ?_
    refine a_isubX F dX5_weigh_32 rfl ic_1 (by omega) (fun v14 hv14 yv14 => ?_)
    have hC := vl_eq hC yv14
    refine va_mmin F.1 F.2.1 (hml.trans hl.1.symm) F.2.2.2.1 (F.2.2.1 _ q824) (F.2.2.1 _ q825) (F.2.2.1 _ q24) (F.2.2.1 _ q826) (by decide) (Nat.le_of_ble_eq_true rfl) (Nat.le_refl 0) (Nat.le_refl 0) dX5_weigh_33 ?_
    refine lv_topi (fun v15 ev15 => ?_)
    have hv15 := i_min rfl rfl ev15
    have hC := vl_eq hC ev15
    refine a_puti F inX5 tyX5 tyX5_ok nmX5 hP hD hS 29 5 tc_29 rfl rfl (by decide) q311 (fun _ h9 => h9) rfl (ty := .int) (tyX5_ok 5 (by decide)) rfl rfl dX5_weigh_36 (fun H locs hP hD hS => ?_)
    have hR := hR.si (c := 29) (k := 5) (v := v15) ⟨i_lo _, i_hi _⟩
    have hF := hF.si (c := 29) (k := 5) (v := v15) rfl
    refine lv_aload_n F.1 F.2.1 dX5_weigh_39 rfl (lv_at hl 1 rfl) ?_
    refine a_getr F inX5 hP 29 1 tc_29 rfl rfl (by decide) q307 (fun _ h9 => h9) dX5_weigh_40 ?_
    refine a_getr F inX6 hP 24 1 tc_24 rfl rfl (by decide) q274 (fun _ h9 => h9) dX5_weigh_43 ?_
    refine a_bp F (15 : Int32) dX5_weigh_46 (by decide) ?_
    refine lv_iload_n F.1 F.2.1 dX5_weigh_48 rfl (lv_at hl 2 rfl) ?_
    refine a_iaddX F dX5_weigh_49 ic_15 rfl (by omega) (fun v16 hv16 yv16 => ?_)
    have hC := vl_eq hC yv16
    refine a_iald F hP 25 tc_25 rfl (i_in rfl (by omega)) dX5_weigh_50 (fun v17 ev17 => ?_)
    have hC := vl_eq hC ev17.symm
    have hv17 : (-1 : Int) ≤ v17.toInt ∧ v17.toInt ≤ 480 := rg_seg_25_15_22 hR ev17 (by omega)
    refine lv_istore (lv' := [(4, .int v17), (3, .int z0), (0, .ref (ad 29)), (1, .int p0), (2, .int p1)]) F.1 F.2.1 dX5_weigh_51 hl (by decide) rfl (fun ls hl => ?_)
    refine lv_aload_n F.1 F.2.1 dX5_weigh_53 rfl (lv_at hl 2 rfl) ?_
    refine lv_aload_n F.1 F.2.1 dX5_weigh_54 rfl (lv_at hl 2 rfl) ?_
    refine a_getr F inX5 hP 29 0 tc_29 rfl rfl (by decide) q306 (fun _ h9 => h9) dX5_weigh_55 ?_
    refine lv_iload F.1 F.2.1 dX5_weigh_58 (lv_at hl 0 rfl) ?_
    refine a_Vi F hml hl.1 hA hP hD hS (As := [.int v17]) (x_X2_dayOf_4 l dC dI ad cA nF _ v17 hR (by omega)) (cs_RX5_55 (d := 1) F.2.2.1 (by decide)) tc_4 rfl rfl rfl rfl (Nat.le_of_ble_eq_true rfl) dX5_weigh_60 ⟨Nat.le_refl 0, Nat.le_refl 0⟩ (fun r18 uN18 H locs hq hP hD hS => ?_)
    obtain ⟨hu18, gr18, xr18, hz18⟩ := hq
    rw [hu18] at hP hD
    have xr18 : 0 ≤ v17.toInt → v17.toInt < 20 * (u.1 4 0).toInt → r18.toInt < 20 := xr18
    have hC := vl_eq hC hz18.symm
    refine lv_aload_n F.1 F.2.1 dX5_weigh_63 rfl (lv_at hl 2 rfl) ?_
    refine a_getr F inX5 hP 29 0 tc_29 rfl rfl (by decide) q306 (fun _ h9 => h9) dX5_weigh_64 ?_
    refine lv_iload F.1 F.2.1 dX5_weigh_67 (lv_at hl 0 rfl) ?_
    refine a_Vi F hml hl.1 hA hP hD hS (As := [.int v17]) (x_X2_hourOf_4 l dC dI ad cA nF _ v17 hR (by omega)) (cs_RX5_59 (d := 1) F.2.2.1 (by decide)) tc_4 rfl rfl rfl rfl (Nat.le_of_ble_eq_true rfl) dX5_weigh_69 ⟨Nat.le_refl 0, Nat.le_refl 0⟩ (fun r19 uN19 H locs hq hP hD hS => ?_)
    obtain ⟨hu19, gr19, xr19, hz19⟩ := hq
    rw [hu19] at hP hD
    have xr19 : 0 ≤ v17.toInt → 0 ≤ r19.toInt := xr19
    have hC := vl_eq hC hz19.symm
    refine lv_aload_n F.1 F.2.1 dX5_weigh_72 rfl (lv_at hl 2 rfl) ?_
    refine a_geti F inX5 hP 29 5 tc_29 rfl rfl (by decide) q311 (fun _ h9 => h9) (v := v15) (rfl) dX5_weigh_73 ?_
    refine b_gt F 83 dX5_weigh_76 (by decide) rfl rfl (fun c20 => ?_) (fun c20 => ?_)
    · have hC := hC.trans (if_pos c20)
      refine a_ic F (1 : Int32) dX5_weigh_83 (by decide) ?_
      exact L84 v17 r18 (1 : Int32) _ _ _ _ hR hF (by omega) (by omega) (by decide) (by omega : v15.toInt ≤ 23) hC hP hD hS (lv_sub hl [2, 3, 4, 0] rfl)
    · have hC := hC.trans (if_neg (by omega))
      refine a_ic F (0 : Int32) dX5_weigh_79 (by decide) ?_
      refine lv_goto (tgt := 84) F.1 F.2.1 dX5_weigh_80 (by decide) ?_
      exact L84 v17 r18 (0 : Int32) _ _ _ _ hR hF (by omega) (by omega) (by decide) (by omega : v15.toInt ≤ 23) hC hP hD hS (lv_sub hl [2, 3, 4, 0] rfl)
  have hC : RR = f_X5_weigh_29 u0 p0 p1 := hRR
  unfold f_X5_weigh_29 at hC
  refine lv_iload_n F.1 F.2.1 dX5_weigh_0 rfl (lv_at hl 2 rfl) ?_
  refine a_ic F (1 : Int32) dX5_weigh_1 (by decide) ?_
  refine a_iandMX F dX5_weigh_2 ic_1 (by omega) (fun v21 hv21 yv21 => ?_)
  have hC := vl_eq hC yv21
  refine z_eq F 10 dX5_weigh_3 (by decide) rfl (fun c22 => ?_) (fun c22 => ?_)
  · have hC := hC.trans (if_pos c22)
    refine a_ic F (0 : Int32) dX5_weigh_10 (by decide) ?_
    exact L11 (0 : Int32) _ _ _ _ hR hF (by decide) hC hP hD hS (lv_sub hl [0, 1, 2] rfl)
  · have hC := hC.trans (if_neg (by omega))
    refine a_ic F (1 : Int32) dX5_weigh_6 (by decide) ?_
    refine lv_goto (tgt := 11) F.1 F.2.1 dX5_weigh_7 (by decide) ?_
    exact L11 (1 : Int32) _ _ _ _ hR hF (by decide) hC hP hD hS (lv_sub hl [0, 1, 2] rfl)

def f_X6_isSaid_24 (u0 : ac_U) (p0 : Int32) : Int32 := (vl ((15 : Int32) + p0) (fun (v1 : Int32) => (vl (u0.1 25 v1.toNatClampNeg) (fun (v2 : Int32) => (if v2.toInt = (-1 : Int) then (0 : Int32) else (1 : Int32))))))
set_option maxHeartbeats 600000 in
set_option maxRecDepth 100000 in
theorem x_X6_isSaid_24 (l : Launch) (dC : Nat → ClassId) (dI : Nat → Nat → Nat) (ad : Nat → Nat) (cA : Nat → ClassId) (nF : Nat) (u0 : ac_U) (p0 : Int32) (hR : ac_R rg u0) (hp0 : (0 : Int) ≤ p0.toInt ∧ p0.toInt ≤ 7) : ac_Mi l yX6_isSaid (.code yX6_isSaid cX6_isSaid 2 (some .boolean) :: TB) 1 (dC, dI) vwCl (ac_ty cA) ad cA (TT nF) [.ref (ad 24), .int p0] u0 (fun (r : Int32) (u : ac_U) => u = u0 ∧ ((0 : Int) ≤ r.toInt ∧ r.toInt ≤ 1) ∧ f_X6_isSaid_24 u0 p0 = r) := by
  refine ac_Mi.of (cc := cX6_isSaid) (maxL := 2) (ret := (some .boolean)) (by decide) rfl (Nat.le_of_ble_eq_true rfl) ?_
  intro p e s m below meth c A ls F hml hr hlocks hA hP hD hS hl
  have F : ac_X p s m [.ref (ad 24), .int p0].toArray c cX6_isSaid RX6 TB (dC, dI) vwCl (ac_ty cA) := ⟨F.1, F.2.1, fun w h => F.2.2.1 w (List.mem_cons_of_mem _ h), F.2.2.2.1, F.2.2.2.2⟩
  have hl : lv_has ls 2 [(0, .ref (ad 24)), (1, .int p0)] := hl
  obtain ⟨RR, hRR⟩ : ∃ q, q = f_X6_isSaid_24 u0 p0 := ⟨_, rfl⟩
  have hC : RR = f_X6_isSaid_24 u0 p0 := hRR
  unfold f_X6_isSaid_24 at hC
  refine lv_aload_n F.1 F.2.1 dX6_isSaid_0 rfl (lv_at hl 0 rfl) ?_
  refine a_getr F inX6 hP 24 1 tc_24 rfl rfl (by decide) q272 (fun _ h9 => h9) dX6_isSaid_1 ?_
  refine a_bp F (15 : Int32) dX6_isSaid_4 (by decide) ?_
  refine lv_iload_n F.1 F.2.1 dX6_isSaid_6 rfl (lv_at hl 1 rfl) ?_
  refine a_iaddX F dX6_isSaid_7 ic_15 rfl (by omega) (fun v1 hv1 yv1 => ?_)
  have hC := vl_eq hC yv1
  refine a_iald F hP 25 tc_25 rfl (i_in rfl (by omega)) dX6_isSaid_8 (fun v2 ev2 => ?_)
  have hC := vl_eq hC ev2.symm
  have hv2 : (-1 : Int) ≤ v2.toInt ∧ v2.toInt ≤ 480 := rg_seg_25_15_22 hR ev2 (by omega)
  refine a_ic F (-1 : Int32) dX6_isSaid_9 (by decide) ?_
  refine b_eq F 17 dX6_isSaid_10 (by decide) rfl ic_m1 (fun c3 => ?_) (fun c3 => ?_)
  · have hC := hC.trans (if_pos c3)
    refine a_ic F (0 : Int32) dX6_isSaid_17 (by decide) ?_
    exact a_retz F hr hlocks hP hD hS dX6_isSaid_18 (Or.inl rfl) ⟨rfl, (by decide), hRR.symm.trans hC⟩
  · have hC := hC.trans (if_neg (by omega))
    refine a_ic F (1 : Int32) dX6_isSaid_13 (by decide) ?_
    refine lv_goto (tgt := 18) F.1 F.2.1 dX6_isSaid_14 (by decide) ?_
    exact a_retz F hr hlocks hP hD hS dX6_isSaid_18 (Or.inr rfl) ⟨rfl, (by decide), hRR.symm.trans hC⟩
def K_X6_isBound_24_35 (u0 : ac_U) (p0 : Int32) : Int32 := (0 : Int32)
def f_X6_isBound_24 (u0 : ac_U) (p0 : Int32) : Int32 := (vl (f_X6_isSaid_24 u0 p0) (fun (r1 : Int32) => (if r1.toInt = 0 then (K_X6_isBound_24_35 u0 p0) else (vl (f_X2_frogPlaces_4 u0) (fun (r3 : Int32) => (vl ((23 : Int32) + p0) (fun (v4 : Int32) => (vl (u0.1 25 v4.toNatClampNeg) (fun (v5 : Int32) => (vl (r3 >>> (v5 &&& 31)) (fun (v6 : Int32) => (vl (v6 &&& (1 : Int32)) (fun (v7 : Int32) => (if v7.toInt ≠ (1 : Int) then (K_X6_isBound_24_35 u0 p0) else (1 : Int32)))))))))))))))
set_option maxHeartbeats 600000 in
set_option maxRecDepth 100000 in
theorem x_X6_isBound_24 (l : Launch) (dC : Nat → ClassId) (dI : Nat → Nat → Nat) (ad : Nat → Nat) (cA : Nat → ClassId) (nF : Nat) (u0 : ac_U) (p0 : Int32) (hR : ac_R rg u0) (hp0 : (0 : Int) ≤ p0.toInt ∧ p0.toInt ≤ 7) : ac_Mi l yX6_isBound (.code yX6_isBound cX6_isBound 2 (some .boolean) :: TB) 2 (dC, dI) vwCl (ac_ty cA) ad cA (TT nF) [.ref (ad 24), .int p0] u0 (fun (r : Int32) (u : ac_U) => u = u0 ∧ ((0 : Int) ≤ r.toInt ∧ r.toInt ≤ 1) ∧ f_X6_isBound_24 u0 p0 = r) := by
  refine ac_Mi.of (cc := cX6_isBound) (maxL := 2) (ret := (some .boolean)) (by decide) rfl (Nat.le_of_ble_eq_true rfl) ?_
  intro p e s m below meth c A ls F hml hr hlocks hA hP hD hS hl
  have F : ac_X p s m [.ref (ad 24), .int p0].toArray c cX6_isBound RX6 TB (dC, dI) vwCl (ac_ty cA) := ⟨F.1, F.2.1, fun w h => F.2.2.1 w (List.mem_cons_of_mem _ h), F.2.2.2.1, F.2.2.2.2⟩
  have hl : lv_has ls 2 [(0, .ref (ad 24)), (1, .int p0)] := hl
  obtain ⟨RR, hRR⟩ : ∃ q, q = f_X6_isBound_24 u0 p0 := ⟨_, rfl⟩
  have L35 : ∀ (H : Heap) (locs : List Loc) (ls : Array Slot), RR = (K_X6_isBound_24_35 u0 p0) → va_P (dC, dI) vwCl (ac_w ad cA (TT nF) u0) H → va_D A (ac_w ad cA (TT nF) u0) → va_S A s.heap H locs → lv_has ls 2 [] → W p l e (ac_rm 2) s m [.ref (ad 24), .int p0].toArray below meth c H locs 0 0 (MQ below (va_Qi (fun (r : Int32) (u : ac_U) => u = u0 ∧ ((0 : Int) ≤ r.toInt ∧ r.toInt ≤ 1) ∧ f_X6_isBound_24 u0 p0 = r) (ac_B (dC, dI) vwCl (ac_ty cA) ad cA (TT nF) A) A) [.ref (ad 24), .int p0].toArray s 0 0 A) (F0 m 35 ls []) := by
    intro H locs ls hC hP hD hS hl
    unfold K_X6_isBound_24_35 at hC
    refine a_ic F (0 : Int32) dX6_isBound_35 (by decide) ?_
    exact a_retz F hr hlocks hP hD hS dX6_isBound_36 (Or.inl rfl) ⟨rfl, (by decide), hRR.symm.trans hC⟩
  have hC : RR = f_X6_isBound_24 u0 p0 := hRR
  unfold f_X6_isBound_24 at hC
  refine lv_aload_n F.1 F.2.1 dX6_isBound_0 rfl (lv_at hl 0 rfl) ?_
  refine lv_iload_n F.1 F.2.1 dX6_isBound_1 rfl (lv_at hl 1 rfl) ?_
  refine a_Vi F hml hl.1 hA hP hD hS (As := [.int p0]) (x_X6_isSaid_24 l dC dI ad cA nF _ p0 hR (by omega)) (cs_RX6_93 (d := 1) F.2.2.1 (by decide)) tc_24 rfl rfl rfl rfl (Nat.le_of_ble_eq_true rfl) dX6_isBound_2 ⟨Nat.le_refl 0, Nat.le_refl 0⟩ (fun r1 uN1 H locs hq hP hD hS => ?_)
  obtain ⟨hu1, gr1, hz1⟩ := hq
  rw [hu1] at hP hD
  have hC := vl_eq hC hz1.symm
  refine z_eq F 35 dX6_isBound_5 (by decide) rfl (fun c2 => ?_) (fun c2 => ?_)
  · have hC := hC.trans (if_pos c2)
    exact L35 _ _ _  hC hP hD hS (lv_sub hl [] rfl)
  · have hC := hC.trans (if_neg (by omega))
    refine lv_aload_n F.1 F.2.1 dX6_isBound_8 rfl (lv_at hl 0 rfl) ?_
    refine a_getr F inX6 hP 24 0 tc_24 rfl rfl (by decide) q271 (fun _ h9 => h9) dX6_isBound_9 ?_
    refine a_Vi F hml hl.1 hA hP hD hS (As := []) (x_X2_frogPlaces_4 l dC dI ad cA nF _  hR) (cs_RX6_96 (d := 1) F.2.2.1 (by decide)) tc_4 rfl rfl rfl rfl (Nat.le_of_ble_eq_true rfl) dX6_isBound_12 ⟨Nat.le_refl 0, Nat.le_refl 0⟩ (fun r3 uN3 H locs hq hP hD hS => ?_)
    obtain ⟨hu3, gr3, hz3⟩ := hq
    rw [hu3] at hP hD
    have hC := vl_eq hC hz3.symm
    refine lv_aload_n F.1 F.2.1 dX6_isBound_15 rfl (lv_at hl 0 rfl) ?_
    refine a_getr F inX6 hP 24 1 tc_24 rfl rfl (by decide) q272 (fun _ h9 => h9) dX6_isBound_16 ?_
    refine a_bp F (23 : Int32) dX6_isBound_19 (by decide) ?_
    refine lv_iload_n F.1 F.2.1 dX6_isBound_21 rfl (lv_at hl 1 rfl) ?_
    refine a_iaddX F dX6_isBound_22 ic_23 rfl (by omega) (fun v4 hv4 yv4 => ?_)
    have hC := vl_eq hC yv4
    refine a_iald F hP 25 tc_25 rfl (i_in rfl (by omega)) dX6_isBound_23 (fun v5 ev5 => ?_)
    have hC := vl_eq hC ev5.symm
    refine a_ishrUX F dX6_isBound_24 (fun v6 yv6 => ?_)
    have hC := vl_eq hC yv6
    refine a_ic F (1 : Int32) dX6_isBound_25 (by decide) ?_
    refine a_iandMX F dX6_isBound_26 ic_1 (by omega) (fun v7 hv7 yv7 => ?_)
    have hC := vl_eq hC yv7
    refine a_ic F (1 : Int32) dX6_isBound_27 (by decide) ?_
    refine b_ne F 35 dX6_isBound_28 (by decide) rfl ic_1 (fun c8 => ?_) (fun c8 => ?_)
    · have hC := hC.trans (if_pos c8)
      exact L35 _ _ _  hC hP hD hS (lv_sub hl [] rfl)
    · have hC := hC.trans (if_neg (by omega))
      refine a_ic F (1 : Int32) dX6_isBound_31 (by decide) ?_
      refine lv_goto (tgt := 36) F.1 F.2.1 dX6_isBound_32 (by decide) ?_
      exact a_retz F hr hlocks hP hD hS dX6_isBound_36 (Or.inr rfl) ⟨rfl, (by decide), hRR.symm.trans hC⟩
def K_X5_isKeptOn_29_28 (u0 : ac_U) (p0 : Int32) (p1 : Int32) : Int32 := (0 : Int32)
def f_X5_isKeptOn_29 (u0 : ac_U) (p0 : Int32) (p1 : Int32) : Int32 := (if (20 : Int) ≤ p1.toInt then (K_X5_isKeptOn_29_28 u0 p0 p1) else (vl (u0.1 30 p1.toNatClampNeg) (fun (v2 : Int32) => (vl (f_X2_term_4 u0 p0 (5 : Int32)) (fun (r3 : Int32) => (if v2.toInt < r3.toInt then (K_X5_isKeptOn_29_28 u0 p0 p1) else (1 : Int32)))))))
set_option maxHeartbeats 600000 in
set_option maxRecDepth 100000 in
theorem x_X5_isKeptOn_29 (l : Launch) (dC : Nat → ClassId) (dI : Nat → Nat → Nat) (ad : Nat → Nat) (cA : Nat → ClassId) (nF : Nat) (u0 : ac_U) (p0 : Int32) (p1 : Int32) (hR : ac_R rg u0) (hp0 : (0 : Int) ≤ p0.toInt ∧ p0.toInt ≤ 7) (hp1 : (0 : Int) ≤ p1.toInt ∧ p1.toInt ≤ 121) : ac_Mi l yX5_isKeptOn (.code yX5_isKeptOn cX5_isKeptOn 3 (some .boolean) :: TB) 2 (dC, dI) vwCl (ac_ty cA) ad cA (TT nF) [.ref (ad 29), .int p0, .int p1] u0 (fun (r : Int32) (u : ac_U) => u = u0 ∧ ((0 : Int) ≤ r.toInt ∧ r.toInt ≤ 1) ∧ f_X5_isKeptOn_29 u0 p0 p1 = r) := by
  refine ac_Mi.of (cc := cX5_isKeptOn) (maxL := 3) (ret := (some .boolean)) (by decide) rfl (Nat.le_of_ble_eq_true rfl) ?_
  intro p e s m below meth c A ls F hml hr hlocks hA hP hD hS hl
  have F : ac_X p s m [.ref (ad 29), .int p0, .int p1].toArray c cX5_isKeptOn RX5 TB (dC, dI) vwCl (ac_ty cA) := ⟨F.1, F.2.1, fun w h => F.2.2.1 w (List.mem_cons_of_mem _ h), F.2.2.2.1, F.2.2.2.2⟩
  have hl : lv_has ls 3 [(0, .ref (ad 29)), (1, .int p0), (2, .int p1)] := hl
  obtain ⟨RR, hRR⟩ : ∃ q, q = f_X5_isKeptOn_29 u0 p0 p1 := ⟨_, rfl⟩
  have L28 : ∀ (H : Heap) (locs : List Loc) (ls : Array Slot), RR = (K_X5_isKeptOn_29_28 u0 p0 p1) → va_P (dC, dI) vwCl (ac_w ad cA (TT nF) u0) H → va_D A (ac_w ad cA (TT nF) u0) → va_S A s.heap H locs → lv_has ls 3 [] → W p l e (ac_rm 2) s m [.ref (ad 29), .int p0, .int p1].toArray below meth c H locs 0 0 (MQ below (va_Qi (fun (r : Int32) (u : ac_U) => u = u0 ∧ ((0 : Int) ≤ r.toInt ∧ r.toInt ≤ 1) ∧ f_X5_isKeptOn_29 u0 p0 p1 = r) (ac_B (dC, dI) vwCl (ac_ty cA) ad cA (TT nF) A) A) [.ref (ad 29), .int p0, .int p1].toArray s 0 0 A) (F0 m 28 ls []) := by
    intro H locs ls hC hP hD hS hl
    unfold K_X5_isKeptOn_29_28 at hC
    refine a_ic F (0 : Int32) dX5_isKeptOn_28 (by decide) ?_
    exact a_retz F hr hlocks hP hD hS dX5_isKeptOn_29 (Or.inl rfl) ⟨rfl, (by decide), hRR.symm.trans hC⟩
  have hC : RR = f_X5_isKeptOn_29 u0 p0 p1 := hRR
  unfold f_X5_isKeptOn_29 at hC
  refine lv_iload_n F.1 F.2.1 dX5_isKeptOn_0 rfl (lv_at hl 2 rfl) ?_
  refine a_bp F (20 : Int32) dX5_isKeptOn_1 (by decide) ?_
  refine b_ge F 28 dX5_isKeptOn_3 (by decide) rfl ic_20 (fun c1 => ?_) (fun c1 => ?_)
  · have hC := hC.trans (if_pos c1)
    exact L28 _ _ _  hC hP hD hS (lv_sub hl [] rfl)
  · have hC := hC.trans (if_neg (by omega))
    refine lv_aload_n F.1 F.2.1 dX5_isKeptOn_6 rfl (lv_at hl 0 rfl) ?_
    refine a_getr F inX5 hP 29 2 tc_29 rfl rfl (by decide) q308 (fun _ h9 => h9) dX5_isKeptOn_7 ?_
    refine lv_iload_n F.1 F.2.1 dX5_isKeptOn_10 rfl (lv_at hl 2 rfl) ?_
    refine a_iald F hP 30 tc_30 rfl (i_in rfl (by omega)) dX5_isKeptOn_11 (fun v2 ev2 => ?_)
    have hC := vl_eq hC ev2.symm
    refine lv_aload_n F.1 F.2.1 dX5_isKeptOn_12 rfl (lv_at hl 0 rfl) ?_
    refine a_getr F inX5 hP 29 0 tc_29 rfl rfl (by decide) q306 (fun _ h9 => h9) dX5_isKeptOn_13 ?_
    refine lv_iload_n F.1 F.2.1 dX5_isKeptOn_16 rfl (lv_at hl 1 rfl) ?_
    refine a_ic F (5 : Int32) dX5_isKeptOn_17 (by decide) ?_
    refine a_Vi F hml hl.1 hA hP hD hS (As := [.int p0, .int (5 : Int32)]) (x_X2_term_4 l dC dI ad cA nF _ p0 (5 : Int32) hR (by omega) (by decide)) (cs_RX5_36 (d := 1) F.2.2.1 (by decide)) tc_4 rfl rfl rfl rfl (Nat.le_of_ble_eq_true rfl) dX5_isKeptOn_18 ⟨Nat.le_refl 0, Nat.le_refl 0⟩ (fun r3 uN3 H locs hq hP hD hS => ?_)
    obtain ⟨hu3, xr3, hz3⟩ := hq
    rw [hu3] at hP hD
    have xr3 : ((5 : Int) = 2 → 0 ≤ r3.toInt ∧ r3.toInt ≤ 7) ∧ ((5 : Int) = 5 → 0 ≤ r3.toInt ∧ r3.toInt ≤ 3) := xr3
    have hC := vl_eq hC hz3.symm
    refine b_lt F 28 dX5_isKeptOn_21 (by decide) rfl rfl (fun c4 => ?_) (fun c4 => ?_)
    · have hC := hC.trans (if_pos c4)
      exact L28 _ _ _  hC hP hD hS (lv_sub hl [] rfl)
    · have hC := hC.trans (if_neg (by omega))
      refine a_ic F (1 : Int32) dX5_isKeptOn_24 (by decide) ?_
      refine lv_goto (tgt := 29) F.1 F.2.1 dX5_isKeptOn_25 (by decide) ?_
      exact a_retz F hr hlocks hP hD hS dX5_isKeptOn_29 (Or.inr rfl) ⟨rfl, (by decide), hRR.symm.trans hC⟩
def K_X5_isOffOn_29_22 (u0 : ac_U) (p0 : Int32) : Int32 := (0 : Int32)
def f_X5_isOffOn_29 (u0 : ac_U) (p0 : Int32) : Int32 := (if (20 : Int) ≤ p0.toInt then (K_X5_isOffOn_29_22 u0 p0) else (vl ((u0.1 29 4) >>> (p0 &&& 31)) (fun (v2 : Int32) => (vl (v2 &&& (1 : Int32)) (fun (v3 : Int32) => (if v3.toInt ≠ (1 : Int) then (K_X5_isOffOn_29_22 u0 p0) else (1 : Int32)))))))
set_option maxHeartbeats 600000 in
set_option maxRecDepth 100000 in
theorem x_X5_isOffOn_29 (l : Launch) (dC : Nat → ClassId) (dI : Nat → Nat → Nat) (ad : Nat → Nat) (cA : Nat → ClassId) (nF : Nat) (u0 : ac_U) (p0 : Int32) (hR : ac_R rg u0) (hp0 : (0 : Int) ≤ p0.toInt ∧ p0.toInt ≤ 121) : ac_Mi l yX5_isOffOn (.code yX5_isOffOn cX5_isOffOn 2 (some .boolean) :: TB) 1 (dC, dI) vwCl (ac_ty cA) ad cA (TT nF) [.ref (ad 29), .int p0] u0 (fun (r : Int32) (u : ac_U) => u = u0 ∧ ((0 : Int) ≤ r.toInt ∧ r.toInt ≤ 1) ∧ f_X5_isOffOn_29 u0 p0 = r) := by
  refine ac_Mi.of (cc := cX5_isOffOn) (maxL := 2) (ret := (some .boolean)) (by decide) rfl (Nat.le_of_ble_eq_true rfl) ?_
  intro p e s m below meth c A ls F hml hr hlocks hA hP hD hS hl
  have F : ac_X p s m [.ref (ad 29), .int p0].toArray c cX5_isOffOn RX5 TB (dC, dI) vwCl (ac_ty cA) := ⟨F.1, F.2.1, fun w h => F.2.2.1 w (List.mem_cons_of_mem _ h), F.2.2.2.1, F.2.2.2.2⟩
  have hl : lv_has ls 2 [(0, .ref (ad 29)), (1, .int p0)] := hl
  obtain ⟨RR, hRR⟩ : ∃ q, q = f_X5_isOffOn_29 u0 p0 := ⟨_, rfl⟩
  have L22 : ∀ (H : Heap) (locs : List Loc) (ls : Array Slot), RR = (K_X5_isOffOn_29_22 u0 p0) → va_P (dC, dI) vwCl (ac_w ad cA (TT nF) u0) H → va_D A (ac_w ad cA (TT nF) u0) → va_S A s.heap H locs → lv_has ls 2 [] → W p l e (ac_rm 1) s m [.ref (ad 29), .int p0].toArray below meth c H locs 0 0 (MQ below (va_Qi (fun (r : Int32) (u : ac_U) => u = u0 ∧ ((0 : Int) ≤ r.toInt ∧ r.toInt ≤ 1) ∧ f_X5_isOffOn_29 u0 p0 = r) (ac_B (dC, dI) vwCl (ac_ty cA) ad cA (TT nF) A) A) [.ref (ad 29), .int p0].toArray s 0 0 A) (F0 m 22 ls []) := by
    intro H locs ls hC hP hD hS hl
    unfold K_X5_isOffOn_29_22 at hC
    refine a_ic F (0 : Int32) dX5_isOffOn_22 (by decide) ?_
    exact a_retz F hr hlocks hP hD hS dX5_isOffOn_23 (Or.inl rfl) ⟨rfl, (by decide), hRR.symm.trans hC⟩
  have hC : RR = f_X5_isOffOn_29 u0 p0 := hRR
  unfold f_X5_isOffOn_29 at hC
  refine lv_iload_n F.1 F.2.1 dX5_isOffOn_0 rfl (lv_at hl 1 rfl) ?_
  refine a_bp F (20 : Int32) dX5_isOffOn_1 (by decide) ?_
  refine b_ge F 22 dX5_isOffOn_3 (by decide) rfl ic_20 (fun c1 => ?_) (fun c1 => ?_)
  · have hC := hC.trans (if_pos c1)
    exact L22 _ _ _  hC hP hD hS (lv_sub hl [] rfl)
  · have hC := hC.trans (if_neg (by omega))
    refine lv_aload_n F.1 F.2.1 dX5_isOffOn_6 rfl (lv_at hl 0 rfl) ?_
    refine a_geti F inX5 hP 29 4 tc_29 rfl rfl (by decide) q310 (fun _ h9 => h9) (v := (u0.1 29 4)) rfl dX5_isOffOn_7 ?_
    refine lv_iload_n F.1 F.2.1 dX5_isOffOn_10 rfl (lv_at hl 1 rfl) ?_
    refine a_ishrUX F dX5_isOffOn_11 (fun v2 yv2 => ?_)
    have hC := vl_eq hC yv2
    refine a_ic F (1 : Int32) dX5_isOffOn_12 (by decide) ?_
    refine a_iandMX F dX5_isOffOn_13 ic_1 (by omega) (fun v3 hv3 yv3 => ?_)
    have hC := vl_eq hC yv3
    refine a_ic F (1 : Int32) dX5_isOffOn_14 (by decide) ?_
    refine b_ne F 22 dX5_isOffOn_15 (by decide) rfl ic_1 (fun c4 => ?_) (fun c4 => ?_)
    · have hC := hC.trans (if_pos c4)
      exact L22 _ _ _  hC hP hD hS (lv_sub hl [] rfl)
    · have hC := hC.trans (if_neg (by omega))
      refine a_ic F (1 : Int32) dX5_isOffOn_18 (by decide) ?_
      refine lv_goto (tgt := 23) F.1 F.2.1 dX5_isOffOn_19 (by decide) ?_
      exact a_retz F hr hlocks hP hD hS dX5_isOffOn_23 (Or.inr rfl) ⟨rfl, (by decide), hRR.symm.trans hC⟩

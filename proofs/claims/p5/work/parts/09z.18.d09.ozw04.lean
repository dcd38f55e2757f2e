def K_X5_isWindowOver_29_36 (u0 : ac_U) (p0 : Int32) : Int32 := (0 : Int32)
def f_X5_isWindowOver_29 (u0 : ac_U) (p0 : Int32) : Int32 := (if (20 : Int) ≤ p0.toInt then (K_X5_isWindowOver_29_36 u0 p0) else (vl (p0 * (u0.1 4 0)) (fun (v4 : Int32) => (vl (v4 + (u0.1 29 5)) (fun (v5 : Int32) => (if (u0.1 25 0).toInt ≤ v5.toInt then (K_X5_isWindowOver_29_36 u0 p0) else (1 : Int32)))))))
set_option maxHeartbeats 600000 in
set_option maxRecDepth 100000 in
theorem x_X5_isWindowOver_29 (l : Launch) (dC : Nat → ClassId) (dI : Nat → Nat → Nat) (ad : Nat → Nat) (cA : Nat → ClassId) (nF : Nat) (u0 : ac_U) (p0 : Int32) (hR : ac_R rg u0) (hp0 : (0 : Int) ≤ p0.toInt ∧ p0.toInt ≤ 121) : ac_Mi l yX5_isWindowOver (.code yX5_isWindowOver cX5_isWindowOver 2 (some .boolean) :: TB) 1 (dC, dI) vwCl (ac_ty cA) ad cA (TT nF) [.ref (ad 29), .int p0] u0 (fun (r : Int32) (u : ac_U) => u = u0 ∧ ((0 : Int) ≤ r.toInt ∧ r.toInt ≤ 1) ∧ f_X5_isWindowOver_29 u0 p0 = r) := by
  refine ac_Mi.of (cc := cX5_isWindowOver) (maxL := 2) (ret := (some .boolean)) (by decide) rfl (Nat.le_of_ble_eq_true rfl) ?_
  intro p e s m below meth c A ls F hml hr hlocks hA hP hD hS hl
  have F : ac_X p s m [.ref (ad 29), .int p0].toArray c cX5_isWindowOver RX5 TB (dC, dI) vwCl (ac_ty cA) := ⟨F.1, F.2.1, fun w h => F.2.2.1 w (List.mem_cons_of_mem _ h), F.2.2.2.1, F.2.2.2.2⟩
  have hl : lv_has ls 2 [(0, .ref (ad 29)), (1, .int p0)] := hl
  obtain ⟨RR, hRR⟩ : ∃ q, q = f_X5_isWindowOver_29 u0 p0 := ⟨_, rfl⟩
  have L36 : ∀ (H : Heap) (locs : List Loc) (ls : Array Slot), RR = (K_X5_isWindowOver_29_36 u0 p0) → va_P (dC, dI) vwCl (ac_w ad cA (TT nF) u0) H → va_D A (ac_w ad cA (TT nF) u0) → va_S A s.heap H locs → lv_has ls 2 [] → W p l e (ac_rm 1) s m [.ref (ad 29), .int p0].toArray below meth c H locs 0 0 (MQ below (va_Qi (fun (r : Int32) (u : ac_U) => u = u0 ∧ ((0 : Int) ≤ r.toInt ∧ r.toInt ≤ 1) ∧ f_X5_isWindowOver_29 u0 p0 = r) (ac_B (dC, dI) vwCl (ac_ty cA) ad cA (TT nF) A) A) [.ref (ad 29), .int p0].toArray s 0 0 A) (F0 m 36 ls []) := by
    intro H locs ls hC hP hD hS hl
    unfold K_X5_isWindowOver_29_36 at hC
    refine a_ic F (0 : Int32) dX5_isWindowOver_36 (by decide) ?_
    exact a_retz F hr hlocks hP hD hS dX5_isWindowOver_37 (Or.inl rfl) ⟨rfl, (by decide), hRR.symm.trans hC⟩
  have hC : RR = f_X5_isWindowOver_29 u0 p0 := hRR
  unfold f_X5_isWindowOver_29 at hC
  refine lv_iload_n F.1 F.2.1 dX5_isWindowOver_0 rfl (lv_at hl 1 rfl) ?_
  refine a_bp F (20 : Int32) dX5_isWindowOver_1 (by decide) ?_
  refine b_ge F 36 dX5_isWindowOver_3 (by decide) rfl ic_20 (fun c1 => ?_) (fun c1 => ?_)
  · have hC := hC.trans (if_pos c1)
    exact L36 _ _ _  hC hP hD hS (lv_sub hl [] rfl)
  · have hC := hC.trans (if_neg (by omega))
    refine lv_aload_n F.1 F.2.1 dX5_isWindowOver_6 rfl (lv_at hl 0 rfl) ?_
    refine a_getr F inX5 hP 29 1 tc_29 rfl rfl (by decide) q307 (fun _ h9 => h9) dX5_isWindowOver_7 ?_
    refine a_getr F inX6 hP 24 1 tc_24 rfl rfl (by decide) q274 (fun _ h9 => h9) dX5_isWindowOver_10 ?_
    refine a_ic F (0 : Int32) dX5_isWindowOver_13 (by decide) ?_
    have g2 : (0 : Int) ≤ (u0.1 25 0).toInt ∧ (u0.1 25 0).toInt ≤ 480 := hR 25 0
    refine a_ialdK F hP 25 0 tc_25 rfl rfl (i_in ic_0 (by omega)) (v := (u0.1 25 0)) rfl dX5_isWindowOver_14 ?_
    refine lv_iload_n F.1 F.2.1 dX5_isWindowOver_15 rfl (lv_at hl 1 rfl) ?_
    refine lv_aload_n F.1 F.2.1 dX5_isWindowOver_16 rfl (lv_at hl 0 rfl) ?_
    refine a_getr F inX5 hP 29 0 tc_29 rfl rfl (by decide) q306 (fun _ h9 => h9) dX5_isWindowOver_17 ?_
    have g3 : (4 : Int) ≤ (u0.1 4 0).toInt ∧ (u0.1 4 0).toInt ≤ 24 := hR 4 0
    refine a_geti F inX2 hP 4 0 tc_4 rfl rfl (by decide) q152 (fun _ h9 => h9) (v := (u0.1 4 0)) rfl dX5_isWindowOver_20 ?_
    have kv4 := i_mulb (x := p0.toInt) (y := (u0.1 4 0).toInt) (a0 := 0) (a1 := 19) (b0 := 4) (b1 := 24) (by omega) (by omega) (by omega)
    refine a_imulX F dX5_isWindowOver_23 rfl rfl (by omega) (fun v4 hv4 yv4 => ?_)
    have hC := vl_eq hC yv4
    refine lv_aload_n F.1 F.2.1 dX5_isWindowOver_24 rfl (lv_at hl 0 rfl) ?_
    refine a_geti F inX5 hP 29 5 tc_29 rfl rfl (by decide) q311 (fun _ h9 => h9) (v := (u0.1 29 5)) rfl dX5_isWindowOver_25 ?_
    refine a_iaddUX F dX5_isWindowOver_28 (fun v5 yv5 => ?_)
    have hC := vl_eq hC yv5
    refine b_le F 36 dX5_isWindowOver_29 (by decide) rfl rfl (fun c6 => ?_) (fun c6 => ?_)
    · have hC := hC.trans (if_pos c6)
      exact L36 _ _ _  hC hP hD hS (lv_sub hl [] rfl)
    · have hC := hC.trans (if_neg (by omega))
      refine a_ic F (1 : Int32) dX5_isWindowOver_32 (by decide) ?_
      refine lv_goto (tgt := 37) F.1 F.2.1 dX5_isWindowOver_33 (by decide) ?_
      exact a_retz F hr hlocks hP hD hS dX5_isWindowOver_37 (Or.inr rfl) ⟨rfl, (by decide), hRR.symm.trans hC⟩
def K_X5_brokenDay_29_92 (u0 : ac_U) (p0 : Int32) (p1 : Int32) (u : ac_U) : ac_U × Int32 := (u, (-1 : Int32))
def K_X5_brokenDay_29_86 (B49 : ac_U → Int32 → Int32 → ac_U × Int32) (u0 : ac_U) (p0 : Int32) (p1 : Int32) (u : ac_U) (x3 : Int32) (x4 : Int32) : ac_U × Int32 := (vl (x4 + Int32.ofInt (1)) (fun (v1 : Int32) => (B49 u x3 v1)))
def K_X5_brokenDay_29_49_b (B49 : ac_U → Int32 → Int32 → ac_U × Int32) (u0 : ac_U) (p0 : Int32) (p1 : Int32) (u : ac_U) (x3 : Int32) (x4 : Int32) : ac_U × Int32 := (if x3.toInt < x4.toInt then (K_X5_brokenDay_29_92 u0 p0 p1 u) else (vl (f_X5_isWindowOver_29 u x4) (fun (r3 : Int32) => (if r3.toInt = 0 then (K_X5_brokenDay_29_92 u0 p0 p1 u) else (vl (f_X5_isKeptOn_29 u p0 x4) (fun (r5 : Int32) => (if r5.toInt ≠ 0 then (K_X5_brokenDay_29_86 B49 u0 p0 p1 u x3 x4) else (vl (f_X5_isOffOn_29 u x4) (fun (r7 : Int32) => (if r7.toInt ≠ 0 then (K_X5_brokenDay_29_86 B49 u0 p0 p1 u x3 x4) else (u, x4)))))))))))
def K_X5_brokenDay_29_49 (u0 : ac_U) (p0 : Int32) (p1 : Int32) : Nat → ac_U → Int32 → Int32 → ac_U × Int32
  | 0 => fun u x3 x4 => (u, 0)
  | n + 1 => fun u x3 x4 => K_X5_brokenDay_29_49_b (K_X5_brokenDay_29_49 u0 p0 p1 n) u0 p0 p1 u x3 x4
def K_X5_brokenDay_29_42 (u0 : ac_U) (p0 : Int32) (p1 : Int32) (u : ac_U) (z0 : Int32) : ac_U × Int32 := (K_X5_brokenDay_29_49 u0 p0 p1 124 u z0 (u.1 29 6))
def f_X5_brokenDay_29 (u0 : ac_U) (p0 : Int32) (p1 : Int32) : ac_U × Int32 := (vl (f_X6_isBound_24 u0 p0) (fun (r10 : Int32) => (if r10.toInt ≠ 0 then (vl (f_X5_weigh_29 u0 p0 p1) (fun (u12 : ac_U) => (vl (f_X2_term_4 u12 p0 (6 : Int32)) (fun (r13 : Int32) => (if r13.toInt ≠ (1 : Int) then (K_X5_brokenDay_29_42 u0 p0 p1 u12 (u12.1 29 6)) else (K_X5_brokenDay_29_42 u0 p0 p1 u12 (19 : Int32))))))) else (u0, (-1 : Int32)))))
set_option maxHeartbeats 600000 in
set_option maxRecDepth 100000 in
theorem x_X5_brokenDay_29 (l : Launch) (dC : Nat → ClassId) (dI : Nat → Nat → Nat) (ad : Nat → Nat) (cA : Nat → ClassId) (nF : Nat) (u0 : ac_U) (p0 : Int32) (p1 : Int32) (hR : ac_R rg u0) (hp0 : (0 : Int) ≤ p0.toInt ∧ p0.toInt ≤ 7) (hp1 : (0 : Int) ≤ p1.toInt ∧ p1.toInt ≤ 7) : ac_Mi l yX5_brokenDay (.code yX5_brokenDay cX5_brokenDay 5 (some .int) :: TB) 5 (dC, dI) vwCl (ac_ty cA) ad cA (TT nF) [.ref (ad 29), .int p0, .int p1] u0 (fun (r : Int32) (u : ac_U) => ac_R rg u ∧ ac_Fr [(29, some 4), (29, some 5), (29, some 6), (30, none)] u0 u ∧ ((-1 : Int) ≤ r.toInt ∧ r.toInt ≤ 121) ∧ f_X5_brokenDay_29 u0 p0 p1 = (u, r)) := by
  refine ac_Mi.of (cc := cX5_brokenDay) (maxL := 5) (ret := (some .int)) (by decide) rfl (Nat.le_of_ble_eq_true rfl) ?_
  intro p e s m below meth c A ls F hml hr hlocks hA hP hD hS hl
  have F : ac_X p s m [.ref (ad 29), .int p0, .int p1].toArray c cX5_brokenDay RX5 TB (dC, dI) vwCl (ac_ty cA) := ⟨F.1, F.2.1, fun w h => F.2.2.1 w (List.mem_cons_of_mem _ h), F.2.2.2.1, F.2.2.2.2⟩
  have hl : lv_has ls 5 [(0, .ref (ad 29)), (1, .int p0), (2, .int p1)] := hl
  obtain ⟨RR, hRR⟩ : ∃ q, q = f_X5_brokenDay_29 u0 p0 p1 := ⟨_, rfl⟩
  have hF : ac_Fr [(29, some 4), (29, some 5), (29, some 6), (30, none)] u0 u0 := ac_Fr.rf
  have L92 : ∀ (u : ac_U) (H : Heap) (locs : List Loc) (ls : Array Slot), ac_R rg u → ac_Fr [(29, some 4), (29, some 5), (29, some 6), (30, none)] u0 u → RR = (K_X5_brokenDay_29_92 u0 p0 p1 u) → va_P (dC, dI) vwCl (ac_w ad cA (TT nF) u) H → va_D A (ac_w ad cA (TT nF) u) → va_S A s.heap H locs → lv_has ls 5 [] → W p l e (ac_rm 5) s m [.ref (ad 29), .int p0, .int p1].toArray below meth c H locs 0 0 (MQ below (va_Qi (fun (r : Int32) (u : ac_U) => ac_R rg u ∧ ac_Fr [(29, some 4), (29, some 5), (29, some 6), (30, none)] u0 u ∧ ((-1 : Int) ≤ r.toInt ∧ r.toInt ≤ 121) ∧ f_X5_brokenDay_29 u0 p0 p1 = (u, r)) (ac_B (dC, dI) vwCl (ac_ty cA) ad cA (TT nF) A) A) [.ref (ad 29), .int p0, .int p1].toArray s 0 0 A) (F0 m 92 ls []) := by
    intro u H locs ls hR hF hC hP hD hS hl
    unfold K_X5_brokenDay_29_92 at hC
    refine a_ic F (-1 : Int32) dX5_brokenDay_92 (by decide) ?_
    exact a_reti F hr hlocks hP hD hS dX5_brokenDay_93 ⟨hR, hF, (by decide), hRR.symm.trans hC⟩
  have L49 : ∀ (n49 : Nat) (x3 : Int32) (x4 : Int32) (u : ac_U) (H : Heap) (locs : List Loc) (ls : Array Slot), ac_R rg u → ac_Fr [(29, some 4), (29, some 5), (29, some 6), (30, none)] u0 u → 122 - x4.toInt < (n49 : Int) → (0 : Int) ≤ x3.toInt ∧ x3.toInt ≤ 121 → (0 : Int) ≤ x4.toInt ∧ x4.toInt ≤ 122 → RR = (K_X5_brokenDay_29_49 u0 p0 p1 n49 u x3 x4) → va_P (dC, dI) vwCl (ac_w ad cA (TT nF) u) H → va_D A (ac_w ad cA (TT nF) u) → va_S A s.heap H locs → lv_has ls 5 [(0, .ref (ad 29)), (1, .int p0), (3, .int x3), (4, .int x4)] → W p l e (ac_rm 5) s m [.ref (ad 29), .int p0, .int p1].toArray below meth c H locs 0 0 (MQ below (va_Qi (fun (r : Int32) (u : ac_U) => ac_R rg u ∧ ac_Fr [(29, some 4), (29, some 5), (29, some 6), (30, none)] u0 u ∧ ((-1 : Int) ≤ r.toInt ∧ r.toInt ≤ 121) ∧ f_X5_brokenDay_29 u0 p0 p1 = (u, r)) (ac_B (dC, dI) vwCl (ac_ty cA) ad cA (TT nF) A) A) [.ref (ad 29), .int p0, .int p1].toArray s 0 0 A) (F0 m 49 ls []) := by
    intro n49
    induction n49 with
    | zero => intro x3 x4 u H locs ls hR hF hn49 f0 f1 hC hP hD hS hl; exfalso; omega
    | succ n49 ih49 =>
      intro x3 x4 u H locs ls hR hF hn49 f0 f1 hC hP hD hS hl
      have hC : RR = K_X5_brokenDay_29_49_b (K_X5_brokenDay_29_49 u0 p0 p1 n49) u0 p0 p1 u x3 x4 := hC
      have L86 : ∀ (x3 : Int32) (x4 : Int32) (u : ac_U) (H : Heap) (locs : List Loc) (ls : Array Slot), ac_R rg u → ac_Fr [(29, some 4), (29, some 5), (29, some 6), (30, none)] u0 u → (0 : Int) ≤ x3.toInt ∧ x3.toInt ≤ 121 → (0 : Int) ≤ x4.toInt ∧ x4.toInt ≤ 121 → 122 - x4.toInt + 0 < ((n49 : Nat) : Int) + 1 → RR = (K_X5_brokenDay_29_86 (K_X5_brokenDay_29_49 u0 p0 p1 n49) u0 p0 p1 u x3 x4) → va_P (dC, dI) vwCl (ac_w ad cA (TT nF) u) H → va_D A (ac_w ad cA (TT nF) u) → va_S A s.heap H locs → lv_has ls 5 [(0, .ref (ad 29)), (1, .int p0), (3, .int x3), (4, .int x4)] → W p l e (ac_rm 5) s m [.ref (ad 29), .int p0, .int p1].toArray below meth c H locs 0 0 (MQ below (va_Qi (fun (r : Int32) (u : ac_U) => ac_R rg u ∧ ac_Fr [(29, some 4), (29, some 5), (29, some 6), (30, none)] u0 u ∧ ((-1 : Int) ≤ r.toInt ∧ r.toInt ≤ 121) ∧ f_X5_brokenDay_29 u0 p0 p1 = (u, r)) (ac_B (dC, dI) vwCl (ac_ty cA) ad cA (TT nF) A) A) [.ref (ad 29), .int p0, .int p1].toArray s 0 0 A) (F0 m 86 ls []) := by
        intro x3 x4 u H locs ls hR hF f0 f1 f2 hC hP hD hS hl
        unfold K_X5_brokenDay_29_86 at hC
        refine a_iincX F (k := 3) (fun v1 => [(4, .int v1), (0, .ref (ad 29)), (1, .int p0), (3, .int x3)]) dX5_brokenDay_86 hl rfl rfl (by decide) (by omega) (by decide) (fun _ => rfl) (fun v1 ls hv1 yv1 hl => ?_)
        have hC := vl_eq hC yv1
        refine lv_goto (tgt := 49) F.1 F.2.1 dX5_brokenDay_89 (by decide) ?_
        exact ih49 x3 v1 _ _ _ _ hR hF (by omega) (by omega) (by omega) hC hP hD hS (lv_sub hl [1, 2, 3, 0] rfl)
      unfold K_X5_brokenDay_29_49_b at hC
      refine lv_iload F.1 F.2.1 dX5_brokenDay_49 (lv_at hl 3 rfl) ?_
      refine lv_iload_n F.1 F.2.1 dX5_brokenDay_51 rfl (lv_at hl 2 rfl) ?_
      refine b_gt F 92 dX5_brokenDay_52 (by decide) rfl rfl (fun c2 => ?_) (fun c2 => ?_)
      · have hC := hC.trans (if_pos c2)
        exact L92 _ _ _ _ hR hF hC hP hD hS (lv_sub hl [] rfl)
      · have hC := hC.trans (if_neg (by omega))
        refine lv_aload_n F.1 F.2.1 dX5_brokenDay_55 rfl (lv_at hl 0 rfl) ?_
        refine lv_iload F.1 F.2.1 dX5_brokenDay_56 (lv_at hl 3 rfl) ?_
        refine a_Vi F hml hl.1 hA hP hD hS (As := [.int x4]) (x_X5_isWindowOver_29 l dC dI ad cA nF _ x4 hR (by omega)) (cs_RX5_100 (d := 1) F.2.2.1 (by decide)) tc_29 rfl rfl rfl rfl (Nat.le_of_ble_eq_true rfl) dX5_brokenDay_58 ⟨Nat.le_refl 0, Nat.le_refl 0⟩ (fun r3 uN3 H locs hq hP hD hS => ?_)
        obtain ⟨hu3, gr3, hz3⟩ := hq
        rw [hu3] at hP hD
        have hC := vl_eq hC hz3.symm
        refine z_eq F 92 dX5_brokenDay_61 (by decide) rfl (fun c4 => ?_) (fun c4 => ?_)
        · have hC := hC.trans (if_pos c4)
          exact L92 _ _ _ _ hR hF hC hP hD hS (lv_sub hl [] rfl)
        · have hC := hC.trans (if_neg (by omega))
          refine lv_aload_n F.1 F.2.1 dX5_brokenDay_64 rfl (lv_at hl 0 rfl) ?_
          refine lv_iload_n F.1 F.2.1 dX5_brokenDay_65 rfl (lv_at hl 1 rfl) ?_
          refine lv_iload F.1 F.2.1 dX5_brokenDay_66 (lv_at hl 3 rfl) ?_
          refine a_Vi F hml hl.1 hA hP hD hS (As := [.int p0, .int x4]) (x_X5_isKeptOn_29 l dC dI ad cA nF _ p0 x4 hR (by omega) (by omega)) (cs_RX5_90 (d := 2) F.2.2.1 (by decide)) tc_29 rfl rfl rfl rfl (Nat.le_of_ble_eq_true rfl) dX5_brokenDay_68 ⟨Nat.le_refl 0, Nat.le_refl 0⟩ (fun r5 uN5 H locs hq hP hD hS => ?_)
          obtain ⟨hu5, gr5, hz5⟩ := hq
          rw [hu5] at hP hD
          have hC := vl_eq hC hz5.symm
          refine z_ne F 86 dX5_brokenDay_71 (by decide) rfl (fun c6 => ?_) (fun c6 => ?_)
          · have hC := hC.trans (if_pos c6)
            exact L86 x3 x4 _ _ _ _ hR hF (by omega) (by omega) (by omega) hC hP hD hS (lv_sub hl [0, 1, 2, 3] rfl)
          · have hC := hC.trans (if_neg (by omega))
            refine lv_aload_n F.1 F.2.1 dX5_brokenDay_74 rfl (lv_at hl 0 rfl) ?_
            refine lv_iload F.1 F.2.1 dX5_brokenDay_75 (lv_at hl 3 rfl) ?_
            refine a_Vi F hml hl.1 hA hP hD hS (As := [.int x4]) (x_X5_isOffOn_29 l dC dI ad cA nF _ x4 hR (by omega)) (cs_RX5_93 (d := 1) F.2.2.1 (by decide)) tc_29 rfl rfl rfl rfl (Nat.le_of_ble_eq_true rfl) dX5_brokenDay_77 ⟨Nat.le_refl 0, Nat.le_refl 0⟩ (fun r7 uN7 H locs hq hP hD hS => ?_)
            obtain ⟨hu7, gr7, hz7⟩ := hq
            rw [hu7] at hP hD
            have hC := vl_eq hC hz7.symm
            refine z_ne F 86 dX5_brokenDay_80 (by decide) rfl (fun c8 => ?_) (fun c8 => ?_)
            · have hC := hC.trans (if_pos c8)
              exact L86 x3 x4 _ _ _ _ hR hF (by omega) (by omega) (by omega) hC hP hD hS (lv_sub hl [0, 1, 2, 3] rfl)
            · have hC := hC.trans (if_neg (by omega))
              refine lv_iload F.1 F.2.1 dX5_brokenDay_83 (lv_at hl 3 rfl) ?_
              exact a_reti F hr hlocks hP hD hS dX5_brokenDay_85 ⟨hR, hF, (by omega : (-1 : Int) ≤ x4.toInt ∧ x4.toInt ≤ 121), hRR.symm.trans hC⟩
  have L42 : ∀ (z0 : Int32) (u : ac_U) (H : Heap) (locs : List Loc) (ls : Array Slot), ac_R rg u → ac_Fr [(29, some 4), (29, some 5), (29, some 6), (30, none)] u0 u → (0 : Int) ≤ z0.toInt ∧ z0.toInt ≤ 121 → RR = (K_X5_brokenDay_29_42 u0 p0 p1 u z0) → va_P (dC, dI) vwCl (ac_w ad cA (TT nF) u) H → va_D A (ac_w ad cA (TT nF) u) → va_S A s.heap H locs → lv_has ls 5 [(0, .ref (ad 29)), (1, .int p0)] → W p l e (ac_rm 5) s m [.ref (ad 29), .int p0, .int p1].toArray below meth c H locs 0 0 (MQ below (va_Qi (fun (r : Int32) (u : ac_U) => ac_R rg u ∧ ac_Fr [(29, some 4), (29, some 5), (29, some 6), (30, none)] u0 u ∧ ((-1 : Int) ≤ r.toInt ∧ r.toInt ≤ 121) ∧ f_X5_brokenDay_29 u0 p0 p1 = (u, r)) (ac_B (dC, dI) vwCl (ac_ty cA) ad cA (TT nF) A) A) [.ref (ad 29), .int p0, .int p1].toArray s 0 0 A) (F0 m 42 ls [.int z0]) := by
    intro z0 u H locs ls hR hF f0 hC hP hD hS hl
    unfold K_X5_brokenDay_29_42 at hC
    refine lv_istore_n (lv' := [(3, .int z0), (0, .ref (ad 29)), (1, .int p0)]) F.1 F.2.1 dX5_brokenDay_42 rfl hl (by decide) rfl (fun ls hl => ?_)
    refine lv_aload_n F.1 F.2.1 dX5_brokenDay_43 rfl (lv_at hl 1 rfl) ?_
    have g9 : (0 : Int) ≤ (u.1 29 6).toInt ∧ (u.1 29 6).toInt ≤ 121 := hR 29 6
    refine a_geti F inX5 hP 29 6 tc_29 rfl rfl (by decide) q312 (fun _ h9 => h9) (v := (u.1 29 6)) rfl dX5_brokenDay_44 ?_
    refine lv_istore (lv' := [(4, .int (u.1 29 6)), (3, .int z0), (0, .ref (ad 29)), (1, .int p0)]) F.1 F.2.1 dX5_brokenDay_47 hl (by decide) rfl (fun ls hl => ?_)
    exact L49 124 z0 (u.1 29 6) _ _ _ _ hR hF (by omega) (by omega) (by omega) hC hP hD hS (lv_sub hl [2, 3, 1, 0] rfl)
  have hC : RR = f_X5_brokenDay_29 u0 p0 p1 := hRR
  unfold f_X5_brokenDay_29 at hC
  refine lv_aload_n F.1 F.2.1 dX5_brokenDay_0 rfl (lv_at hl 0 rfl) ?_
  refine a_getr F inX5 hP 29 1 tc_29 rfl rfl (by decide) q307 (fun _ h9 => h9) dX5_brokenDay_1 ?_
  refine lv_iload_n F.1 F.2.1 dX5_brokenDay_4 rfl (lv_at hl 1 rfl) ?_
  refine a_Vi F hml hl.1 hA hP hD hS (As := [.int p0]) (x_X6_isBound_24 l dC dI ad cA nF _ p0 hR (by omega)) (cs_RX5_83 (d := 2) F.2.2.1 (by decide)) tc_24 rfl rfl rfl rfl (Nat.le_of_ble_eq_true rfl) dX5_brokenDay_5 ⟨Nat.le_refl 0, Nat.le_refl 0⟩ (fun r10 uN10 H locs hq hP hD hS => ?_)
  obtain ⟨hu10, gr10, hz10⟩ := hq
  rw [hu10] at hP hD
  have hC := vl_eq hC hz10.symm
  refine z_ne F 13 dX5_brokenDay_8 (by decide) rfl (fun c11 => ?_) (fun c11 => ?_)
  · have hC := hC.trans (if_pos c11)
    refine lv_aload_n F.1 F.2.1 dX5_brokenDay_13 rfl (lv_at hl 0 rfl) ?_
    refine lv_iload_n F.1 F.2.1 dX5_brokenDay_14 rfl (lv_at hl 1 rfl) ?_
    refine lv_iload_n F.1 F.2.1 dX5_brokenDay_15 rfl (lv_at hl 2 rfl) ?_
    refine a_Vv F hml hl.1 hA hP hD hS (As := [.int p0, .int p1]) (x_X5_weigh_29 l dC dI ad cA nF _ p0 p1 hR (by omega) (by omega)) (cs_RX5_96 (d := 4) F.2.2.1 (by decide)) tc_29 rfl rfl rfl rfl (Nat.le_of_ble_eq_true rfl) dX5_brokenDay_16 ⟨Nat.le_refl 0, Nat.le_refl 0⟩ (fun u12 H locs hq hP hD hS => ?_)
    obtain ⟨hR, hF12, hK_CT, hz12⟩ := hq
    have hF := hF.tr hF12 (by decide)
    have hC := vl_eq hC hz12.symm
    refine lv_aload_n F.1 F.2.1 dX5_brokenDay_19 rfl (lv_at hl 0 rfl) ?_
    refine a_getr F inX5 hP 29 0 tc_29 rfl rfl (by decide) q306 (fun _ h9 => h9) dX5_brokenDay_20 ?_
    refine lv_iload_n F.1 F.2.1 dX5_brokenDay_23 rfl (lv_at hl 1 rfl) ?_
    refine a_bp F (6 : Int32) dX5_brokenDay_24 (by decide) ?_
    refine a_Vi F hml hl.1 hA hP hD hS (As := [.int p0, .int (6 : Int32)]) (x_X2_term_4 l dC dI ad cA nF _ p0 (6 : Int32) hR (by omega) (by decide)) (cs_RX5_36 (d := 1) F.2.2.1 (by decide)) tc_4 rfl rfl rfl rfl (Nat.le_of_ble_eq_true rfl) dX5_brokenDay_26 ⟨Nat.le_refl 0, Nat.le_refl 0⟩ (fun r13 uN13 H locs hq hP hD hS => ?_)
    obtain ⟨hu13, xr13, hz13⟩ := hq
    rw [hu13] at hP hD
    have xr13 : ((6 : Int) = 2 → 0 ≤ r13.toInt ∧ r13.toInt ≤ 7) ∧ ((6 : Int) = 5 → 0 ≤ r13.toInt ∧ r13.toInt ≤ 3) := xr13
    have hC := vl_eq hC hz13.symm
    refine a_ic F (1 : Int32) dX5_brokenDay_29 (by decide) ?_
    refine b_ne F 38 dX5_brokenDay_30 (by decide) rfl ic_1 (fun c14 => ?_) (fun c14 => ?_)
    · have hC := hC.trans (if_pos c14)
      refine lv_aload_n F.1 F.2.1 dX5_brokenDay_38 rfl (lv_at hl 0 rfl) ?_
      have g15 : (0 : Int) ≤ (u12.1 29 6).toInt ∧ (u12.1 29 6).toInt ≤ 121 := hR 29 6
      refine a_geti F inX5 hP 29 6 tc_29 rfl rfl (by decide) q312 (fun _ h9 => h9) (v := (u12.1 29 6)) rfl dX5_brokenDay_39 ?_
      exact L42 (u12.1 29 6) _ _ _ _ hR hF (by omega) hC hP hD hS (lv_sub hl [0, 1] rfl)
    · have hC := hC.trans (if_neg (by omega))
      refine a_bp F (19 : Int32) dX5_brokenDay_33 (by decide) ?_
      refine lv_goto (tgt := 42) F.1 F.2.1 dX5_brokenDay_35 (by decide) ?_
      exact L42 (19 : Int32) _ _ _ _ hR hF (by decide) hC hP hD hS (lv_sub hl [0, 1] rfl)
  · have hC := hC.trans (if_neg (by omega))
    refine a_ic F (-1 : Int32) dX5_brokenDay_11 (by decide) ?_
    exact a_reti F hr hlocks hP hD hS dX5_brokenDay_12 ⟨hR, hF, (by decide), hRR.symm.trans hC⟩
def K_X5_brokenCount_29_31 (B4 : ac_U → Int32 → Int32 → ac_U × Int32) (u0 : ac_U) (u : ac_U) (x2 : Int32) (z0 : Int32) (z1 : Int32) : ac_U × Int32 := (vl (z0 + z1) (fun (v1 : Int32) => (vl (x2 + Int32.ofInt (1)) (fun (v2 : Int32) => (B4 u v1 v2)))))
def K_X5_brokenCount_29_4_b (B4 : ac_U → Int32 → Int32 → ac_U × Int32) (u0 : ac_U) (u : ac_U) (x1 : Int32) (x2 : Int32) : ac_U × Int32 := (if (u.1 4 6).toInt ≤ x2.toInt then (u, x1) else (bd (f_X5_brokenDay_29 u x2 (0 : Int32)) (fun (u5 : ac_U) (r5 : Int32) => (if r5.toInt = (-1 : Int) then (K_X5_brokenCount_29_31 B4 u0 u5 x2 x1 (0 : Int32)) else (K_X5_brokenCount_29_31 B4 u0 u5 x2 x1 (1 : Int32))))))
def K_X5_brokenCount_29_4 (u0 : ac_U) : Nat → ac_U → Int32 → Int32 → ac_U × Int32
  | 0 => fun u x1 x2 => (u, 0)
  | n + 1 => fun u x1 x2 => K_X5_brokenCount_29_4_b (K_X5_brokenCount_29_4 u0 n) u0 u x1 x2
def f_X5_brokenCount_29 (u0 : ac_U) : ac_U × Int32 := (K_X5_brokenCount_29_4 u0 10 u0 (0 : Int32) (0 : Int32))
set_option maxHeartbeats 600000 in
set_option maxRecDepth 100000 in
theorem x_X5_brokenCount_29 (l : Launch) (dC : Nat → ClassId) (dI : Nat → Nat → Nat) (ad : Nat → Nat) (cA : Nat → ClassId) (nF : Nat) (u0 : ac_U)  (hR : ac_R rg u0) : ac_Mi l yX5_brokenCount (.code yX5_brokenCount cX5_brokenCount 3 (some .int) :: TB) 6 (dC, dI) vwCl (ac_ty cA) ad cA (TT nF) [.ref (ad 29)] u0 (fun (r : Int32) (u : ac_U) => ac_R rg u ∧ ac_Fr [(29, some 4), (29, some 5), (29, some 6), (30, none)] u0 u ∧ f_X5_brokenCount_29 u0 = (u, r)) := by
  refine ac_Mi.of (cc := cX5_brokenCount) (maxL := 3) (ret := (some .int)) (by decide) rfl (Nat.le_of_ble_eq_true rfl) ?_
  intro p e s m below meth c A ls F hml hr hlocks hA hP hD hS hl
  have F : ac_X p s m [.ref (ad 29)].toArray c cX5_brokenCount RX5 TB (dC, dI) vwCl (ac_ty cA) := ⟨F.1, F.2.1, fun w h => F.2.2.1 w (List.mem_cons_of_mem _ h), F.2.2.2.1, F.2.2.2.2⟩
  have hl : lv_has ls 3 [(0, .ref (ad 29))] := hl
  obtain ⟨RR, hRR⟩ : ∃ q, q = f_X5_brokenCount_29 u0 := ⟨_, rfl⟩
  have hF : ac_Fr [(29, some 4), (29, some 5), (29, some 6), (30, none)] u0 u0 := ac_Fr.rf
  have L4 : ∀ (n4 : Nat) (x1 : Int32) (x2 : Int32) (u : ac_U) (H : Heap) (locs : List Loc) (ls : Array Slot), ac_R rg u → ac_Fr [(29, some 4), (29, some 5), (29, some 6), (30, none)] u0 u → 8 - x2.toInt < (n4 : Int) → (0 : Int) ≤ x2.toInt ∧ x2.toInt ≤ 8 → RR = (K_X5_brokenCount_29_4 u0 n4 u x1 x2) → va_P (dC, dI) vwCl (ac_w ad cA (TT nF) u) H → va_D A (ac_w ad cA (TT nF) u) → va_S A s.heap H locs → lv_has ls 3 [(0, .ref (ad 29)), (1, .int x1), (2, .int x2)] → W p l e (ac_rm 6) s m [.ref (ad 29)].toArray below meth c H locs 0 0 (MQ below (va_Qi (fun (r : Int32) (u : ac_U) => ac_R rg u ∧ ac_Fr [(29, some 4), (29, some 5), (29, some 6), (30, none)] u0 u ∧ f_X5_brokenCount_29 u0 = (u, r)) (ac_B (dC, dI) vwCl (ac_ty cA) ad cA (TT nF) A) A) [.ref (ad 29)].toArray s 0 0 A) (F0 m 4 ls []) := by
    intro n4
    induction n4 with
    | zero => intro x1 x2 u H locs ls hR hF hn4 f0 hC hP hD hS hl; exfalso; omega
    | succ n4 ih4 =>
      intro x1 x2 u H locs ls hR hF hn4 f0 hC hP hD hS hl
      have hC : RR = K_X5_brokenCount_29_4_b (K_X5_brokenCount_29_4 u0 n4) u0 u x1 x2 := hC
      have L31 : ∀ (x2 : Int32) (z0 : Int32) (z1 : Int32) (u : ac_U) (H : Heap) (locs : List Loc) (ls : Array Slot), ac_R rg u → ac_Fr [(29, some 4), (29, some 5), (29, some 6), (30, none)] u0 u → (0 : Int) ≤ x2.toInt ∧ x2.toInt ≤ 7 → (0 : Int) ≤ z1.toInt ∧ z1.toInt ≤ 1 → (1 : Int) ≤ (u.1 4 6).toInt ∧ (u.1 4 6).toInt ≤ 8 → 8 - x2.toInt + 0 < ((n4 : Nat) : Int) + 1 → RR = (K_X5_brokenCount_29_31 (K_X5_brokenCount_29_4 u0 n4) u0 u x2 z0 z1) → va_P (dC, dI) vwCl (ac_w ad cA (TT nF) u) H → va_D A (ac_w ad cA (TT nF) u) → va_S A s.heap H locs → lv_has ls 3 [(0, .ref (ad 29)), (2, .int x2)] → W p l e (ac_rm 6) s m [.ref (ad 29)].toArray below meth c H locs 0 0 (MQ below (va_Qi (fun (r : Int32) (u : ac_U) => ac_R rg u ∧ ac_Fr [(29, some 4), (29, some 5), (29, some 6), (30, none)] u0 u ∧ f_X5_brokenCount_29 u0 = (u, r)) (ac_B (dC, dI) vwCl (ac_ty cA) ad cA (TT nF) A) A) [.ref (ad 29)].toArray s 0 0 A) (F0 m 31 ls [.int z1, .int z0]) := by
        intro x2 z0 z1 u H locs ls hR hF f0 f1 f2 f3 hC hP hD hS hl
        unfold K_X5_brokenCount_29_31 at hC
        refine a_iaddUX F dX5_brokenCount_31 (fun v1 yv1 => ?_)
        have hC := vl_eq hC yv1
        refine lv_istore_n (lv' := [(1, .int v1), (0, .ref (ad 29)), (2, .int x2)]) F.1 F.2.1 dX5_brokenCount_32 rfl hl (by decide) rfl (fun ls hl => ?_)
        refine a_iincX F (k := 2) (fun v2 => [(2, .int v2), (1, .int v1), (0, .ref (ad 29))]) dX5_brokenCount_33 hl rfl rfl (by decide) (by omega) (by decide) (fun _ => rfl) (fun v2 ls hv2 yv2 hl => ?_)
        have hC := vl_eq hC yv2
        refine lv_goto (tgt := 4) F.1 F.2.1 dX5_brokenCount_36 (by decide) ?_
        exact ih4 v1 v2 _ _ _ _ hR hF (by omega) (by omega) hC hP hD hS (lv_sub hl [2, 1, 0] rfl)
      unfold K_X5_brokenCount_29_4_b at hC
      refine lv_iload_n F.1 F.2.1 dX5_brokenCount_4 rfl (lv_at hl 2 rfl) ?_
      refine lv_aload_n F.1 F.2.1 dX5_brokenCount_5 rfl (lv_at hl 0 rfl) ?_
      refine a_getr F inX5 hP 29 0 tc_29 rfl rfl (by decide) q306 (fun _ h9 => h9) dX5_brokenCount_6 ?_
      have g3 : (0 : Int) ≤ (u.1 4 6).toInt ∧ (u.1 4 6).toInt ≤ 8 := hR 4 6
      refine a_geti F inX2 hP 4 6 tc_4 rfl rfl (by decide) q182 (fun _ h9 => h9) (v := (u.1 4 6)) rfl dX5_brokenCount_9 ?_
      refine b_ge F 39 dX5_brokenCount_12 (by decide) rfl rfl (fun c4 => ?_) (fun c4 => ?_)
      · have hC := hC.trans (if_pos c4)
        refine lv_iload_n F.1 F.2.1 dX5_brokenCount_39 rfl (lv_at hl 1 rfl) ?_
        exact a_reti F hr hlocks hP hD hS dX5_brokenCount_40 ⟨hR, hF, hRR.symm.trans hC⟩
      · have hC := hC.trans (if_neg (by omega))
        refine lv_iload_n F.1 F.2.1 dX5_brokenCount_15 rfl (lv_at hl 1 rfl) ?_
        refine lv_aload_n F.1 F.2.1 dX5_brokenCount_16 rfl (lv_at hl 0 rfl) ?_
        refine lv_iload_n F.1 F.2.1 dX5_brokenCount_17 rfl (lv_at hl 2 rfl) ?_
        refine a_ic F (0 : Int32) dX5_brokenCount_18 (by decide) ?_
        refine a_Vi F hml hl.1 hA hP hD hS (As := [.int x2, .int (0 : Int32)]) (x_X5_brokenDay_29 l dC dI ad cA nF _ x2 (0 : Int32) hR (by omega) (by decide)) (cs_RX5_87 (d := 5) F.2.2.1 (by decide)) tc_29 rfl rfl rfl rfl (Nat.le_of_ble_eq_true rfl) dX5_brokenCount_19 ⟨Nat.le_refl 0, Nat.le_refl 0⟩ (fun r5 u5 H locs hq hP hD hS => ?_)
        obtain ⟨hR, hF5, gr5, hz5⟩ := hq
        have hF := hF.tr hF5 (by decide)
        have hC := bd_eq hC hz5
        refine a_ic F (-1 : Int32) dX5_brokenCount_22 (by decide) ?_
        refine b_eq F 30 dX5_brokenCount_23 (by decide) rfl ic_m1 (fun c6 => ?_) (fun c6 => ?_)
        · have hC := hC.trans (if_pos c6)
          refine a_ic F (0 : Int32) dX5_brokenCount_30 (by decide) ?_
          exact L31 x2 x1 (0 : Int32) _ _ _ _ hR hF (by omega) (by decide) (i_trB (hF5 4 6 rfl) (by omega : (1 : Int) ≤ (u.1 4 6).toInt ∧ (u.1 4 6).toInt ≤ 8)) (by omega) hC hP hD hS (lv_sub hl [0, 2] rfl)
        · have hC := hC.trans (if_neg (by omega))
          refine a_ic F (1 : Int32) dX5_brokenCount_26 (by decide) ?_
          refine lv_goto (tgt := 31) F.1 F.2.1 dX5_brokenCount_27 (by decide) ?_
          exact L31 x2 x1 (1 : Int32) _ _ _ _ hR hF (by omega) (by decide) (i_trB (hF5 4 6 rfl) (by omega : (1 : Int) ≤ (u.1 4 6).toInt ∧ (u.1 4 6).toInt ≤ 8)) (by omega) hC hP hD hS (lv_sub hl [0, 2] rfl)
  have hC : RR = f_X5_brokenCount_29 u0 := hRR
  unfold f_X5_brokenCount_29 at hC
  refine a_ic F (0 : Int32) dX5_brokenCount_0 (by decide) ?_
  refine lv_istore_n (lv' := [(1, .int (0 : Int32)), (0, .ref (ad 29))]) F.1 F.2.1 dX5_brokenCount_1 rfl hl (by decide) rfl (fun ls hl => ?_)
  refine a_ic F (0 : Int32) dX5_brokenCount_2 (by decide) ?_
  refine lv_istore_n (lv' := [(2, .int (0 : Int32)), (1, .int (0 : Int32)), (0, .ref (ad 29))]) F.1 F.2.1 dX5_brokenCount_3 rfl hl (by decide) rfl (fun ls hl => ?_)
  exact L4 10 (0 : Int32) (0 : Int32) _ _ _ _ hR hF (by decide) (by decide) hC hP hD hS (lv_sub hl [2, 1, 0] rfl)

def f_X6_remember_24 (u0 : ac_U) : ac_U := (vl ((u0.1 24 6) * (31 : Int32)) (fun (v2 : Int32) => (vl ((u0.1 24 6) + (1 : Int32)) (fun (v3 : Int32) => (vl (v3 - v3 / (8 : Int32) * (8 : Int32)) (fun (v4 : Int32) => (vl ((u0.1 24 5) + (1 : Int32)) (fun (v6 : Int32) => (vl (if (8 : Int32) < v6 then (8 : Int32) else v6) (fun (v7 : Int32) => (pI (pI (cpI u0 25 28 (0 : Int32).toNatClampNeg v2.toNatClampNeg (31 : Int32).toNatClampNeg) 24 6 v4) 24 5 v7)))))))))))
set_option maxHeartbeats 600000 in
set_option maxRecDepth 100000 in
theorem x_X6_remember_24 (l : Launch) (dC : Nat → ClassId) (dI : Nat → Nat → Nat) (ad : Nat → Nat) (cA : Nat → ClassId) (nF : Nat) (u0 : ac_U)  (hR : ac_R rg u0) : ac_Mv l yX6_remember (.code yX6_remember cX6_remember 1 none :: TB) 1 (dC, dI) vwCl (ac_ty cA) ad cA (TT nF) [.ref (ad 24)] u0 (fun (u : ac_U) => ac_R rg u ∧ ac_Fr [(24, some 5), (24, some 6), (28, none)] u0 u ∧ f_X6_remember_24 u0 = u) := by
  refine ac_Mv.of (cc := cX6_remember) (maxL := 1) (ret := none) (by decide) rfl (Nat.le_of_ble_eq_true rfl) ?_
  intro p e s m below meth c A ls F hml hr hlocks hA hP hD hS hl
  have F : ac_X p s m [.ref (ad 24)].toArray c cX6_remember RX6 TB (dC, dI) vwCl (ac_ty cA) := ⟨F.1, F.2.1, fun w h => F.2.2.1 w (List.mem_cons_of_mem _ h), F.2.2.2.1, F.2.2.2.2⟩
  have hl : lv_has ls 1 [(0, .ref (ad 24))] := hl
  obtain ⟨RR, hRR⟩ : ∃ q, q = f_X6_remember_24 u0 := ⟨_, rfl⟩
  have hF : ac_Fr [(24, some 5), (24, some 6), (28, none)] u0 u0 := ac_Fr.rf
  have hC : RR = f_X6_remember_24 u0 := hRR
  unfold f_X6_remember_24 at hC
  refine lv_aload_n F.1 F.2.1 dX6_remember_0 rfl (lv_at hl 0 rfl) ?_
  refine a_getr F inX6 hP 24 1 tc_24 rfl rfl (by decide) q272 (fun _ h9 => h9) dX6_remember_1 ?_
  refine a_ic F (0 : Int32) dX6_remember_4 (by decide) ?_
  refine lv_aload_n F.1 F.2.1 dX6_remember_5 rfl (lv_at hl 0 rfl) ?_
  refine a_getr F inX6 hP 24 4 tc_24 rfl rfl (by decide) q281 (fun _ h9 => h9) dX6_remember_6 ?_
  refine lv_aload_n F.1 F.2.1 dX6_remember_9 rfl (lv_at hl 0 rfl) ?_
  have g1 : (0 : Int) ≤ (u0.1 24 6).toInt ∧ (u0.1 24 6).toInt ≤ 7 := hR 24 6
  refine a_geti F inX6 hP 24 6 tc_24 rfl rfl (by decide) q284 (fun _ h9 => h9) (v := (u0.1 24 6)) rfl dX6_remember_10 ?_
  refine a_bp F (31 : Int32) dX6_remember_13 (by decide) ?_
  refine a_imulX F dX6_remember_15 rfl ic_31 (by omega) (fun v2 hv2 yv2 => ?_)
  have hC := vl_eq hC yv2
  refine a_bp F (31 : Int32) dX6_remember_16 (by decide) ?_
  refine a_cpyi F (hml.trans hl.1.symm) q730 q708 q707 q19 hP hD hS 25 28 tc_25 tc_28 rfl (by decide) (by omega) (by decide) (by simp only [ic_0, ic_31]; omega) (by simp only [ic_0, ic_31]; omega) (by decide) (by decide) dX6_remember_18 (fun H locs hP hD hS => ?_)
  have hR := hR.cp (c0 := 25) (c1 := 28) (sp := (0 : Int32).toNatClampNeg) (dp := v2.toNatClampNeg) (n := (31 : Int32).toNatClampNeg) (cp_past1 (q := (u0.1 24 6).toInt) (by omega) (by omega))
  have hF := hF.cp (c0 := 25) (c1 := 28) (sp := (0 : Int32).toNatClampNeg) (dp := v2.toNatClampNeg) (n := (31 : Int32).toNatClampNeg) (fun _ => rfl)
  refine lv_aload_n F.1 F.2.1 dX6_remember_21 rfl (lv_at hl 0 rfl) ?_
  refine lv_aload_n F.1 F.2.1 dX6_remember_22 rfl (lv_at hl 0 rfl) ?_
  refine a_geti F inX6 hP 24 6 tc_24 rfl rfl (by decide) q284 (fun _ h9 => h9) (v := (u0.1 24 6)) (rfl) dX6_remember_23 ?_
  refine a_ic F (1 : Int32) dX6_remember_26 (by decide) ?_
  refine a_iaddX F dX6_remember_27 rfl ic_1 (by omega) (fun v3 hv3 yv3 => ?_)
  have hC := vl_eq hC yv3
  refine a_bp F (8 : Int32) dX6_remember_28 (by decide) ?_
  refine a_iremX F dX6_remember_30 rfl ic_8 (by omega) (fun v4 hv4 yv4 => ?_)
  have hC := vl_eq hC yv4
  refine a_puti F inX6 tyX6 tyX6_ok nmX6 hP hD hS 24 6 tc_24 rfl rfl (by decide) q284 (fun _ h9 => h9) rfl (ty := .int) (tyX6_ok 6 (by decide)) rfl rfl dX6_remember_31 (fun H locs hP hD hS => ?_)
  have hR := hR.si (c := 24) (k := 6) (v := v4) (by omega : (0 : Int) ≤ v4.toInt ∧ v4.toInt ≤ 7)
  have hF := hF.si (c := 24) (k := 6) (v := v4) rfl
  refine lv_aload_n F.1 F.2.1 dX6_remember_34 rfl (lv_at hl 0 rfl) ?_
  refine lv_aload_n F.1 F.2.1 dX6_remember_35 rfl (lv_at hl 0 rfl) ?_
  have g5 : (0 : Int) ≤ (u0.1 24 5).toInt ∧ (u0.1 24 5).toInt ≤ 8 := hR 24 5
  refine a_geti F inX6 hP 24 5 tc_24 rfl rfl (by decide) q282 (fun _ h9 => h9) (v := (u0.1 24 5)) rfl dX6_remember_36 ?_
  refine a_ic F (1 : Int32) dX6_remember_39 (by decide) ?_
  refine a_iaddX F dX6_remember_40 rfl ic_1 (by omega) (fun v6 hv6 yv6 => ?_)
  have hC := vl_eq hC yv6
  refine a_bp F (8 : Int32) dX6_remember_41 (by decide) ?_
  refine va_mmin F.1 F.2.1 (hml.trans hl.1.symm) F.2.2.2.1 (F.2.2.1 _ q882) (F.2.2.1 _ q825) (F.2.2.1 _ q24) (F.2.2.1 _ q826) (by decide) (Nat.le_of_ble_eq_true rfl) (Nat.le_refl 0) (Nat.le_refl 0) dX6_remember_43 ?_
  refine lv_topi (fun v7 ev7 => ?_)
  have hv7 := i_min rfl ic_8 ev7
  have hC := vl_eq hC ev7
  refine a_puti F inX6 tyX6 tyX6_ok nmX6 hP hD hS 24 5 tc_24 rfl rfl (by decide) q282 (fun _ h9 => h9) rfl (ty := .int) (tyX6_ok 5 (by decide)) rfl rfl dX6_remember_46 (fun H locs hP hD hS => ?_)
  have hR := hR.si (c := 24) (k := 5) (v := v7) (by omega : (0 : Int) ≤ v7.toInt ∧ v7.toInt ≤ 8)
  have hF := hF.si (c := 24) (k := 5) (v := v7) rfl
  exact a_retv F hr hlocks hP hD hS dX6_remember_49 ⟨hR, hF, hRR.symm.trans hC⟩

def f_X6_setAside_24 (u0 : ac_U) : ac_U := (cpI u0 25 27 (0 : Int32).toNatClampNeg (0 : Int32).toNatClampNeg (31 : Int32).toNatClampNeg)
set_option maxHeartbeats 600000 in
set_option maxRecDepth 100000 in
theorem x_X6_setAside_24 (l : Launch) (dC : Nat → ClassId) (dI : Nat → Nat → Nat) (ad : Nat → Nat) (cA : Nat → ClassId) (nF : Nat) (u0 : ac_U)  (hR : ac_R rg u0) : ac_Mv l yX6_setAside (.code yX6_setAside cX6_setAside 1 none :: TB) 1 (dC, dI) vwCl (ac_ty cA) ad cA (TT nF) [.ref (ad 24)] u0 (fun (u : ac_U) => ac_R rg u ∧ ac_Fr [(27, none)] u0 u ∧ f_X6_setAside_24 u0 = u) := by
  refine ac_Mv.of (cc := cX6_setAside) (maxL := 1) (ret := none) (by decide) rfl (Nat.le_of_ble_eq_true rfl) ?_
  intro p e s m below meth c A ls F hml hr hlocks hA hP hD hS hl
  have F : ac_X p s m [.ref (ad 24)].toArray c cX6_setAside RX6 TB (dC, dI) vwCl (ac_ty cA) := ⟨F.1, F.2.1, fun w h => F.2.2.1 w (List.mem_cons_of_mem _ h), F.2.2.2.1, F.2.2.2.2⟩
  have hl : lv_has ls 1 [(0, .ref (ad 24))] := hl
  obtain ⟨RR, hRR⟩ : ∃ q, q = f_X6_setAside_24 u0 := ⟨_, rfl⟩
  have hF : ac_Fr [(27, none)] u0 u0 := ac_Fr.rf
  have hC : RR = f_X6_setAside_24 u0 := hRR
  unfold f_X6_setAside_24 at hC
  refine lv_aload_n F.1 F.2.1 dX6_setAside_0 rfl (lv_at hl 0 rfl) ?_
  refine a_getr F inX6 hP 24 1 tc_24 rfl rfl (by decide) q272 (fun _ h9 => h9) dX6_setAside_1 ?_
  refine a_ic F (0 : Int32) dX6_setAside_4 (by decide) ?_
  refine lv_aload_n F.1 F.2.1 dX6_setAside_5 rfl (lv_at hl 0 rfl) ?_
  refine a_getr F inX6 hP 24 3 tc_24 rfl rfl (by decide) q280 (fun _ h9 => h9) dX6_setAside_6 ?_
  refine a_ic F (0 : Int32) dX6_setAside_9 (by decide) ?_
  refine a_bp F (31 : Int32) dX6_setAside_10 (by decide) ?_
  refine a_cpyi F (hml.trans hl.1.symm) q730 q708 q707 q19 hP hD hS 25 27 tc_25 tc_27 rfl (by decide) (by decide) (by decide) (by simp only [ic_0, ic_31]; omega) (by simp only [ic_0, ic_31]; omega) (by decide) (by decide) dX6_setAside_12 (fun H locs hP hD hS => ?_)
  have hR := hR.cp (c0 := 25) (c1 := 27) (sp := (0 : Int32).toNatClampNeg) (dp := (0 : Int32).toNatClampNeg) (n := (31 : Int32).toNatClampNeg) (by decide +kernel)
  have hF := hF.cp (c0 := 25) (c1 := 27) (sp := (0 : Int32).toNatClampNeg) (dp := (0 : Int32).toNatClampNeg) (n := (31 : Int32).toNatClampNeg) (fun _ => rfl)
  exact a_retv F hr hlocks hP hD hS dX6_setAside_15 ⟨hR, hF, hRR.symm.trans hC⟩

def f_X6_takeBack_24 (u0 : ac_U) : ac_U := (cpI u0 27 25 (0 : Int32).toNatClampNeg (0 : Int32).toNatClampNeg (31 : Int32).toNatClampNeg)
set_option maxHeartbeats 600000 in
set_option maxRecDepth 100000 in
theorem x_X6_takeBack_24 (l : Launch) (dC : Nat → ClassId) (dI : Nat → Nat → Nat) (ad : Nat → Nat) (cA : Nat → ClassId) (nF : Nat) (u0 : ac_U)  (hR : ac_R rg u0) : ac_Mv l yX6_takeBack (.code yX6_takeBack cX6_takeBack 1 none :: TB) 1 (dC, dI) vwCl (ac_ty cA) ad cA (TT nF) [.ref (ad 24)] u0 (fun (u : ac_U) => ac_R rg u ∧ ac_Fr [(25, none)] u0 u ∧ f_X6_takeBack_24 u0 = u) := by
  refine ac_Mv.of (cc := cX6_takeBack) (maxL := 1) (ret := none) (by decide) rfl (Nat.le_of_ble_eq_true rfl) ?_
  intro p e s m below meth c A ls F hml hr hlocks hA hP hD hS hl
  have F : ac_X p s m [.ref (ad 24)].toArray c cX6_takeBack RX6 TB (dC, dI) vwCl (ac_ty cA) := ⟨F.1, F.2.1, fun w h => F.2.2.1 w (List.mem_cons_of_mem _ h), F.2.2.2.1, F.2.2.2.2⟩
  have hl : lv_has ls 1 [(0, .ref (ad 24))] := hl
  obtain ⟨RR, hRR⟩ : ∃ q, q = f_X6_takeBack_24 u0 := ⟨_, rfl⟩
  have hF : ac_Fr [(25, none)] u0 u0 := ac_Fr.rf
  have hC : RR = f_X6_takeBack_24 u0 := hRR
  unfold f_X6_takeBack_24 at hC
  refine lv_aload_n F.1 F.2.1 dX6_takeBack_0 rfl (lv_at hl 0 rfl) ?_
  refine a_getr F inX6 hP 24 3 tc_24 rfl rfl (by decide) q280 (fun _ h9 => h9) dX6_takeBack_1 ?_
  refine a_ic F (0 : Int32) dX6_takeBack_4 (by decide) ?_
  refine lv_aload_n F.1 F.2.1 dX6_takeBack_5 rfl (lv_at hl 0 rfl) ?_
  refine a_getr F inX6 hP 24 1 tc_24 rfl rfl (by decide) q272 (fun _ h9 => h9) dX6_takeBack_6 ?_
  refine a_ic F (0 : Int32) dX6_takeBack_9 (by decide) ?_
  refine a_bp F (31 : Int32) dX6_takeBack_10 (by decide) ?_
  refine a_cpyi F (hml.trans hl.1.symm) q730 q708 q707 q19 hP hD hS 27 25 tc_27 tc_25 rfl (by decide) (by decide) (by decide) (by simp only [ic_0, ic_31]; omega) (by simp only [ic_0, ic_31]; omega) (by decide) (by decide) dX6_takeBack_12 (fun H locs hP hD hS => ?_)
  have hR := hR.cp (c0 := 27) (c1 := 25) (sp := (0 : Int32).toNatClampNeg) (dp := (0 : Int32).toNatClampNeg) (n := (31 : Int32).toNatClampNeg) (by decide +kernel)
  have hF := hF.cp (c0 := 27) (c1 := 25) (sp := (0 : Int32).toNatClampNeg) (dp := (0 : Int32).toNatClampNeg) (n := (31 : Int32).toNatClampNeg) (fun _ => rfl)
  exact a_retv F hr hlocks hP hD hS dX6_takeBack_15 ⟨hR, hF, hRR.symm.trans hC⟩
def K_X11_daybook_0_97 (u0 : ac_U) (p0 : Int32) (u : ac_U) : ac_U × Int32 := (if (u.1 39 6).toInt ≤ (u.1 39 8).toInt then (u, (-1 : Int32)) else (u, (u.1 39 8)))
def K_X11_daybook_0_56 (u0 : ac_U) (p0 : Int32) (u : ac_U) : ac_U × Int32 := (vl (f_X6_setAside_24 u) (fun (u3 : ac_U) => (vl (f_X0_live_39 u3) (fun (u4 : ac_U) => (bd (f_X5_brokenCount_29 u4) (fun (u5 : ac_U) (r5 : Int32) => (if p0.toInt ≠ 0 then (K_X11_daybook_0_97 u0 p0 (pI (pI u5 0 13 r5) 0 14 (1 : Int32))) else (vl (f_X6_takeBack_24 (pI (pI u5 0 13 r5) 0 14 (1 : Int32))) (fun (u7 : ac_U) => (K_X11_daybook_0_97 u0 p0 u7))))))))))
def K_X11_daybook_0_13 (u0 : ac_U) (p0 : Int32) (u : ac_U) : ac_U × Int32 := (bd (f_X0_readWhole_39 u) (fun (u8 : ac_U) (r8 : Int32) => (if r8.toInt ≠ 0 then (if p0.toInt ≠ (1 : Int) then (K_X11_daybook_0_56 u0 p0 (pI u8 1 2 (0 : Int32))) else (vl (f_X6_remember_24 (pI u8 1 2 (0 : Int32))) (fun (u11 : ac_U) => (K_X11_daybook_0_56 u0 p0 u11)))) else (vl ((-2 : Int32) - (u8.1 1 11)) (fun (v13 : Int32) => ((pI u8 1 2 (0 : Int32)), v13))))))
def f_X11_daybook_0 (u0 : ac_U) (p0 : Int32) : ac_U × Int32 := (if p0.toInt = 0 then (K_X11_daybook_0_13 u0 p0 u0) else (if p0.toInt = (1 : Int) then (K_X11_daybook_0_13 u0 p0 u0) else (u0, (-1000 : Int32))))
set_option maxHeartbeats 600000 in
set_option maxRecDepth 100000 in
theorem x_X11_daybook_0 (l : Launch) (dC : Nat → ClassId) (dI : Nat → Nat → Nat) (ad : Nat → Nat) (cA : Nat → ClassId) (nF : Nat) (u0 : ac_U) (p0 : Int32) (hR : ac_R rg u0) (hK_N4 : nmI 11 12 u0) : ac_Mi l yX11_daybook (.code yX11_daybook cX11_daybook 3 (some .int) :: TB) 8 (dC, dI) vwCl (ac_ty cA) ad cA (TT nF) [.ref (ad 0), .int p0] u0 (fun (r : Int32) (u : ac_U) => ac_R rg u ∧ ac_Fr [(0, some 13), (0, some 14), (1, some 2), (1, some 3), (1, some 4), (1, some 5), (1, some 6), (1, some 8), (1, some 9), (1, some 10), (1, some 11), (24, some 5), (24, some 6), (25, none), (26, none), (27, none), (28, none), (29, some 4), (29, some 5), (29, some 6), (30, none), (39, some 6), (39, some 7), (39, some 8), (39, some 9), (40, none), (41, none), (42, none)] u0 u ∧ (r.toInt ≤ 39) ∧ (dlI 1 u0 p0.toInt) u ∧ f_X11_daybook_0 u0 p0 = (u, r)) := by
  refine ac_Mi.of (cc := cX11_daybook) (maxL := 3) (ret := (some .int)) (by decide) rfl (Nat.le_of_ble_eq_true rfl) ?_
  intro p e s m below meth c A ls F hml hr hlocks hA hP hD hS hl
  have F : ac_X p s m [.ref (ad 0), .int p0].toArray c cX11_daybook RX11 TB (dC, dI) vwCl (ac_ty cA) := ⟨F.1, F.2.1, fun w h => F.2.2.1 w (List.mem_cons_of_mem _ h), F.2.2.2.1, F.2.2.2.2⟩
  have hl : lv_has ls 3 [(0, .ref (ad 0)), (1, .int p0)] := hl
  obtain ⟨RR, hRR⟩ : ∃ q, q = f_X11_daybook_0 u0 p0 := ⟨_, rfl⟩
  have hF : ac_Fr [(0, some 13), (0, some 14), (1, some 2), (1, some 3), (1, some 4), (1, some 5), (1, some 6), (1, some 8), (1, some 9), (1, some 10), (1, some 11), (24, some 5), (24, some 6), (25, none), (26, none), (27, none), (28, none), (29, some 4), (29, some 5), (29, some 6), (30, none), (39, some 6), (39, some 7), (39, some 8), (39, some 9), (40, none), (41, none), (42, none)] u0 u0 := ac_Fr.rf
  have L97 : ∀ (u : ac_U) (H : Heap) (locs : List Loc) (ls : Array Slot), ac_R rg u → ac_Fr [(0, some 13), (0, some 14), (1, some 2), (1, some 3), (1, some 4), (1, some 5), (1, some 6), (1, some 8), (1, some 9), (1, some 10), (1, some 11), (24, some 5), (24, some 6), (25, none), (26, none), (27, none), (28, none), (29, some 4), (29, some 5), (29, some 6), (30, none), (39, some 6), (39, some 7), (39, some 8), (39, some 9), (40, none), (41, none), (42, none)] u0 u → (dlI 1 u0 p0.toInt) u → (1 : Int) ≤ (u.1 0 14).toInt ∧ (u.1 0 14).toInt ≤ 1 → (0 : Int) ≤ (u.1 1 2).toInt ∧ (u.1 1 2).toInt ≤ 0 → RR = (K_X11_daybook_0_97 u0 p0 u) → va_P (dC, dI) vwCl (ac_w ad cA (TT nF) u) H → va_D A (ac_w ad cA (TT nF) u) → va_S A s.heap H locs → lv_has ls 3 [(0, .ref (ad 0))] → W p l e (ac_rm 8) s m [.ref (ad 0), .int p0].toArray below meth c H locs 0 0 (MQ below (va_Qi (fun (r : Int32) (u : ac_U) => ac_R rg u ∧ ac_Fr [(0, some 13), (0, some 14), (1, some 2), (1, some 3), (1, some 4), (1, some 5), (1, some 6), (1, some 8), (1, some 9), (1, some 10), (1, some 11), (24, some 5), (24, some 6), (25, none), (26, none), (27, none), (28, none), (29, some 4), (29, some 5), (29, some 6), (30, none), (39, some 6), (39, some 7), (39, some 8), (39, some 9), (40, none), (41, none), (42, none)] u0 u ∧ (r.toInt ≤ 39) ∧ (dlI 1 u0 p0.toInt) u ∧ f_X11_daybook_0 u0 p0 = (u, r)) (ac_B (dC, dI) vwCl (ac_ty cA) ad cA (TT nF) A) A) [.ref (ad 0), .int p0].toArray s 0 0 A) (F0 m 97 ls []) := by
    intro u H locs ls hR hF hK_DC f0 f1 hC hP hD hS hl
    unfold K_X11_daybook_0_97 at hC
    refine lv_aload_n F.1 F.2.1 dX11_daybook_97 rfl (lv_at hl 0 rfl) ?_
    refine a_getr F inX11 hP 0 8 tc_0 rfl rfl (by decide) q511 (fun _ h9 => h9) dX11_daybook_98 ?_
    refine a_geti F inX0 hP 39 8 tc_39 rfl rfl (by decide) q410 (fun _ h9 => h9) (v := (u.1 39 8)) rfl dX11_daybook_101 ?_
    refine lv_aload_n F.1 F.2.1 dX11_daybook_104 rfl (lv_at hl 0 rfl) ?_
    refine a_getr F inX11 hP 0 8 tc_0 rfl rfl (by decide) q511 (fun _ h9 => h9) dX11_daybook_105 ?_
    have g1 : (0 : Int) ≤ (u.1 39 6).toInt ∧ (u.1 39 6).toInt ≤ 40 := hR 39 6
    refine a_geti F inX0 hP 39 6 tc_39 rfl rfl (by decide) q406 (fun _ h9 => h9) (v := (u.1 39 6)) rfl dX11_daybook_108 ?_
    refine b_ge F 124 dX11_daybook_111 (by decide) rfl rfl (fun c2 => ?_) (fun c2 => ?_)
    · have hC := hC.trans (if_pos c2)
      refine a_ic F (-1 : Int32) dX11_daybook_124 (by decide) ?_
      exact a_reti F hr hlocks hP hD hS dX11_daybook_125 ⟨hR, hF, (by decide), hK_DC, hRR.symm.trans hC⟩
    · have hC := hC.trans (if_neg (by omega))
      refine lv_aload_n F.1 F.2.1 dX11_daybook_114 rfl (lv_at hl 0 rfl) ?_
      refine a_getr F inX11 hP 0 8 tc_0 rfl rfl (by decide) q511 (fun _ h9 => h9) dX11_daybook_115 ?_
      refine a_geti F inX0 hP 39 8 tc_39 rfl rfl (by decide) q410 (fun _ h9 => h9) (v := (u.1 39 8)) (rfl) dX11_daybook_118 ?_
      refine lv_goto (tgt := 125) F.1 F.2.1 dX11_daybook_121 (by decide) ?_
      exact a_reti F hr hlocks hP hD hS dX11_daybook_125 ⟨hR, hF, (by omega : (u.1 39 8).toInt ≤ 39), hK_DC, hRR.symm.trans hC⟩
  have L56 : ∀ (u : ac_U) (H : Heap) (locs : List Loc) (ls : Array Slot), ac_R rg u → ac_Fr [(0, some 13), (0, some 14), (1, some 2), (1, some 3), (1, some 4), (1, some 5), (1, some 6), (1, some 8), (1, some 9), (1, some 10), (1, some 11), (24, some 5), (24, some 6), (25, none), (26, none), (27, none), (28, none), (29, some 4), (29, some 5), (29, some 6), (30, none), (39, some 6), (39, some 7), (39, some 8), (39, some 9), (40, none), (41, none), (42, none)] u0 u → nmI 11 12 u → dbI u → (dlI 1 u0 p0.toInt) u → (0 : Int) ≤ p0.toInt ∧ p0.toInt ≤ 1 → (0 : Int) ≤ (u.1 1 2).toInt ∧ (u.1 1 2).toInt ≤ 0 → RR = (K_X11_daybook_0_56 u0 p0 u) → va_P (dC, dI) vwCl (ac_w ad cA (TT nF) u) H → va_D A (ac_w ad cA (TT nF) u) → va_S A s.heap H locs → lv_has ls 3 [(0, .ref (ad 0)), (1, .int p0)] → W p l e (ac_rm 8) s m [.ref (ad 0), .int p0].toArray below meth c H locs 0 0 (MQ below (va_Qi (fun (r : Int32) (u : ac_U) => ac_R rg u ∧ ac_Fr [(0, some 13), (0, some 14), (1, some 2), (1, some 3), (1, some 4), (1, some 5), (1, some 6), (1, some 8), (1, some 9), (1, some 10), (1, some 11), (24, some 5), (24, some 6), (25, none), (26, none), (27, none), (28, none), (29, some 4), (29, some 5), (29, some 6), (30, none), (39, some 6), (39, some 7), (39, some 8), (39, some 9), (40, none), (41, none), (42, none)] u0 u ∧ (r.toInt ≤ 39) ∧ (dlI 1 u0 p0.toInt) u ∧ f_X11_daybook_0 u0 p0 = (u, r)) (ac_B (dC, dI) vwCl (ac_ty cA) ad cA (TT nF) A) A) [.ref (ad 0), .int p0].toArray s 0 0 A) (F0 m 56 ls []) := by
    intro u H locs ls hR hF hK_N4 hK_DBI hK_DC f0 f1 hC hP hD hS hl
    unfold K_X11_daybook_0_56 at hC
    refine lv_aload_n F.1 F.2.1 dX11_daybook_56 rfl (lv_at hl 0 rfl) ?_
    refine a_getr F inX11 hP 0 4 tc_0 rfl rfl (by decide) q507 (fun _ h9 => h9) dX11_daybook_57 ?_
    refine a_Vv F hml hl.1 hA hP hD hS (As := []) (x_X6_setAside_24 l dC dI ad cA nF _  hR) (cs_RX11_294 (d := 1) F.2.2.1 (by decide)) tc_24 rfl rfl rfl rfl (Nat.le_of_ble_eq_true rfl) dX11_daybook_60 ⟨Nat.le_refl 0, Nat.le_refl 0⟩ (fun u3 H locs hq hP hD hS => ?_)
    obtain ⟨hR, hF3, hz3⟩ := hq
    have hF := hF.tr hF3 (by decide)
    have hK_N4 := sp_fr sp_N4 hF3 (by decide) hK_N4
    have hK_DBI := sp_fr sp_DBI hF3 (by decide) hK_DBI
    have hK_DC := sp_fr (sp_dl 1 _ _) hF3 (by decide) hK_DC
    have hC := vl_eq hC hz3.symm
    refine lv_aload_n F.1 F.2.1 dX11_daybook_63 rfl (lv_at hl 0 rfl) ?_
    refine a_getr F inX11 hP 0 8 tc_0 rfl rfl (by decide) q511 (fun _ h9 => h9) dX11_daybook_64 ?_
    refine a_Vv F hml hl.1 hA hP hD hS (As := []) (x_X0_live_39 l dC dI ad cA nF _  hR hK_DBI) (cs_RX11_304 (d := 6) F.2.2.1 (by decide)) tc_39 rfl rfl rfl rfl (Nat.le_of_ble_eq_true rfl) dX11_daybook_67 ⟨Nat.le_refl 0, Nat.le_refl 0⟩ (fun u4 H locs hq hP hD hS => ?_)
    obtain ⟨hR, hF4, hz4⟩ := hq
    have hF := hF.tr hF4 (by decide)
    have hK_N4 := sp_fr sp_N4 hF4 (by decide) hK_N4
    have hK_DBI := sp_fr sp_DBI hF4 (by decide) hK_DBI
    have hK_DC := sp_fr (sp_dl 1 _ _) hF4 (by decide) hK_DC
    have hC := vl_eq hC hz4.symm
    refine lv_aload_n F.1 F.2.1 dX11_daybook_70 rfl (lv_at hl 0 rfl) ?_
    refine lv_aload_n F.1 F.2.1 dX11_daybook_71 rfl (lv_at hl 0 rfl) ?_
    refine a_getr F inX11 hP 0 5 tc_0 rfl rfl (by decide) q508 (fun _ h9 => h9) dX11_daybook_72 ?_
    refine a_Vi F hml hl.1 hA hP hD hS (As := []) (x_X5_brokenCount_29 l dC dI ad cA nF _  hR) (cs_RX11_191 (d := 6) F.2.2.1 (by decide)) tc_29 rfl rfl rfl rfl (Nat.le_of_ble_eq_true rfl) dX11_daybook_75 ⟨Nat.le_refl 0, Nat.le_refl 0⟩ (fun r5 u5 H locs hq hP hD hS => ?_)
    obtain ⟨hR, hF5, hz5⟩ := hq
    have hF := hF.tr hF5 (by decide)
    have hK_N4 := sp_fr sp_N4 hF5 (by decide) hK_N4
    have hK_DBI := sp_fr sp_DBI hF5 (by decide) hK_DBI
    have hK_DC := sp_fr (sp_dl 1 _ _) hF5 (by decide) hK_DC
    have hC := bd_eq hC hz5
    refine a_puti F inX11 tyX11 tyX11_ok nmX11 hP hD hS 0 13 tc_0 rfl rfl (by decide) q516 (fun _ h9 => h9) rfl (ty := .int) (tyX11_ok 13 (by decide)) rfl rfl dX11_daybook_78 (fun H locs hP hD hS => ?_)
    have hR := hR.si (c := 0) (k := 13) (v := r5) ⟨i_lo _, i_hi _⟩
    have hF := hF.si (c := 0) (k := 13) (v := r5) rfl
    have hK_N4 := sp_sgD sp_N4 hD hK_N4 (by decide)
    have hK_DBI := sp_sgD sp_DBI hD hK_DBI (by decide)
    have hK_DC := sp_sgD (sp_dl 1 _ _) hD hK_DC (by decide)
    refine lv_aload_n F.1 F.2.1 dX11_daybook_81 rfl (lv_at hl 0 rfl) ?_
    refine a_ic F (1 : Int32) dX11_daybook_82 (by decide) ?_
    refine a_puti F inX11 tyX11 tyX11_ok nmX11 hP hD hS 0 14 tc_0 rfl rfl (by decide) q517 (fun _ h9 => h9) rfl (ty := .boolean) (tyX11_ok 14 (by decide)) (i_zn (Or.inr rfl)) (i_zf (Or.inr rfl)) dX11_daybook_83 (fun H locs hP hD hS => ?_)
    have hR := hR.si (c := 0) (k := 14) (v := (1 : Int32)) (by rw [ic_1]; exact (by omega : (0 : Int) ≤ (1 : Int) ∧ (1 : Int) ≤ 1))
    have hF := hF.si (c := 0) (k := 14) (v := (1 : Int32)) rfl
    have hK_N4 := sp_sgD sp_N4 hD hK_N4 (by decide)
    have hK_DBI := sp_sgD sp_DBI hD hK_DBI (by decide)
    have hK_DC := sp_sgD (sp_dl 1 _ _) hD hK_DC (by decide)
    refine lv_iload_n F.1 F.2.1 dX11_daybook_86 rfl (lv_at hl 1 rfl) ?_
    refine z_ne F 97 dX11_daybook_87 (by decide) rfl (fun c6 => ?_) (fun c6 => ?_)
    · have hC := hC.trans (if_pos c6)
      exact L97 _ _ _ _ hR hF hK_DC (by omega : (1 : Int) ≤ (1 : Int) ∧ (1 : Int) ≤ 1) (i_trB ((hF5 1 2 rfl).trans ((hF4 1 2 rfl).trans (hF3 1 2 rfl))) (by omega : (0 : Int) ≤ (u.1 1 2).toInt ∧ (u.1 1 2).toInt ≤ 0)) hC hP hD hS (lv_sub hl [0] rfl)
    · have hC := hC.trans (if_neg (by omega))
      refine lv_aload_n F.1 F.2.1 dX11_daybook_90 rfl (lv_at hl 0 rfl) ?_
      refine a_getr F inX11 hP 0 4 tc_0 rfl rfl (by decide) q507 (fun _ h9 => h9) dX11_daybook_91 ?_
      refine a_Vv F hml hl.1 hA hP hD hS (As := []) (x_X6_takeBack_24 l dC dI ad cA nF _  hR) (cs_RX11_300 (d := 1) F.2.2.1 (by decide)) tc_24 rfl rfl rfl rfl (Nat.le_of_ble_eq_true rfl) dX11_daybook_94 ⟨Nat.le_refl 0, Nat.le_refl 0⟩ (fun u7 H locs hq hP hD hS => ?_)
      obtain ⟨hR, hF7, hz7⟩ := hq
      have hF := hF.tr hF7 (by decide)
      have hK_N4 := sp_fr sp_N4 hF7 (by decide) hK_N4
      have hK_DBI := sp_fr sp_DBI hF7 (by decide) hK_DBI
      have hK_DC := sp_fr (sp_dl 1 _ _) hF7 (by decide) hK_DC
      have hC := vl_eq hC hz7.symm
      exact L97 _ _ _ _ hR hF hK_DC (i_trB (hF7 0 14 rfl) (by omega : (1 : Int) ≤ (1 : Int) ∧ (1 : Int) ≤ 1)) (i_trB ((hF7 1 2 rfl).trans ((hF5 1 2 rfl).trans ((hF4 1 2 rfl).trans (hF3 1 2 rfl)))) (by omega : (0 : Int) ≤ (u.1 1 2).toInt ∧ (u.1 1 2).toInt ≤ 0)) hC hP hD hS (lv_sub hl [0] rfl)
  have L13 : ∀ (u : ac_U) (H : Heap) (locs : List Loc) (ls : Array Slot), ac_R rg u → ac_Fr [(0, some 13), (0, some 14), (1, some 2), (1, some 3), (1, some 4), (1, some 5), (1, some 6), (1, some 8), (1, some 9), (1, some 10), (1, some 11), (24, some 5), (24, some 6), (25, none), (26, none), (27, none), (28, none), (29, some 4), (29, some 5), (29, some 6), (30, none), (39, some 6), (39, some 7), (39, some 8), (39, some 9), (40, none), (41, none), (42, none)] u0 u → nmI 11 12 u → (0 : Int) ≤ p0.toInt ∧ p0.toInt ≤ 1 → RR = (K_X11_daybook_0_13 u0 p0 u) → va_P (dC, dI) vwCl (ac_w ad cA (TT nF) u) H → va_D A (ac_w ad cA (TT nF) u) → va_S A s.heap H locs → lv_has ls 3 [(0, .ref (ad 0)), (1, .int p0)] → W p l e (ac_rm 8) s m [.ref (ad 0), .int p0].toArray below meth c H locs 0 0 (MQ below (va_Qi (fun (r : Int32) (u : ac_U) => ac_R rg u ∧ ac_Fr [(0, some 13), (0, some 14), (1, some 2), (1, some 3), (1, some 4), (1, some 5), (1, some 6), (1, some 8), (1, some 9), (1, some 10), (1, some 11), (24, some 5), (24, some 6), (25, none), (26, none), (27, none), (28, none), (29, some 4), (29, some 5), (29, some 6), (30, none), (39, some 6), (39, some 7), (39, some 8), (39, some 9), (40, none), (41, none), (42, none)] u0 u ∧ (r.toInt ≤ 39) ∧ (dlI 1 u0 p0.toInt) u ∧ f_X11_daybook_0 u0 p0 = (u, r)) (ac_B (dC, dI) vwCl (ac_ty cA) ad cA (TT nF) A) A) [.ref (ad 0), .int p0].toArray s 0 0 A) (F0 m 13 ls []) := by
    intro u H locs ls hR hF hK_N4 f0 hC hP hD hS hl
    unfold K_X11_daybook_0_13 at hC
    refine lv_aload_n F.1 F.2.1 dX11_daybook_13 rfl (lv_at hl 0 rfl) ?_
    refine a_getr F inX11 hP 0 8 tc_0 rfl rfl (by decide) q511 (fun _ h9 => h9) dX11_daybook_14 ?_
    refine a_Vi F hml hl.1 hA hP hD hS (As := []) (x_X0_readWhole_39 l dC dI ad cA nF _  hR hK_N4) (cs_RX11_303 (d := 7) F.2.2.1 (by decide)) tc_39 rfl rfl rfl rfl (Nat.le_of_ble_eq_true rfl) dX11_daybook_17 ⟨Nat.le_refl 0, Nat.le_refl 0⟩ (fun r8 u8 H locs hq hP hD hS => ?_)
    obtain ⟨hR, hF8, gr8, hK_r8_DBI, hz8⟩ := hq
    have hF := hF.tr hF8 (by decide)
    have hK_N4 := sp_fr sp_N4 hF8 (by decide) hK_N4
    have hC := bd_eq hC hz8
    refine lv_istore_n (lv' := [(2, .int r8), (0, .ref (ad 0)), (1, .int p0)]) F.1 F.2.1 dX11_daybook_20 rfl hl (by decide) rfl (fun ls hl => ?_)
    refine lv_aload_n F.1 F.2.1 dX11_daybook_21 rfl (lv_at hl 1 rfl) ?_
    refine a_getr F inX11 hP 0 0 tc_0 rfl rfl (by decide) q503 (fun _ h9 => h9) dX11_daybook_22 ?_
    refine a_ic F (0 : Int32) dX11_daybook_25 (by decide) ?_
    refine a_puti F inX10 tyX10 tyX10_ok nmX10 hP hD hS 1 2 tc_1 rfl rfl (by decide) q96 (fun _ h9 => h9) rfl (ty := .int) (tyX10_ok 2 (by decide)) rfl rfl dX11_daybook_26 (fun H locs hP hD hS => ?_)
    have hR := hR.si (c := 1) (k := 2) (v := (0 : Int32)) (by rw [ic_0]; exact (by omega : (0 : Int) ≤ (0 : Int) ∧ (0 : Int) ≤ 940))
    have hF := hF.si (c := 1) (k := 2) (v := (0 : Int32)) rfl
    have hN_DC := dl_D (p := p0.toInt) (u0 := u0) (by omega) hD
    have hK_N4 := sp_sgD sp_N4 hD hK_N4 (by decide)
    have hK_r8_DBI := sp_sgD (sp_imp sp_DBI) hD hK_r8_DBI (by decide)
    have hK_DC := hN_DC
    refine lv_iload_n F.1 F.2.1 dX11_daybook_29 rfl (lv_at hl 0 rfl) ?_
    refine z_ne F 44 dX11_daybook_30 (by decide) rfl (fun c9 => ?_) (fun c9 => ?_)
    · have hC := hC.trans (if_pos c9)
      have hK_DBI := hK_r8_DBI (by omega)
      refine lv_iload_n F.1 F.2.1 dX11_daybook_44 rfl (lv_at hl 2 rfl) ?_
      refine a_ic F (1 : Int32) dX11_daybook_45 (by decide) ?_
      refine b_ne F 56 dX11_daybook_46 (by decide) rfl ic_1 (fun c10 => ?_) (fun c10 => ?_)
      · have hC := hC.trans (if_pos c10)
        exact L56 _ _ _ _ hR hF hK_N4 hK_DBI hK_DC (by omega) (by omega : (0 : Int) ≤ (0 : Int) ∧ (0 : Int) ≤ 0) hC hP hD hS (lv_sub hl [1, 2] rfl)
      · have hC := hC.trans (if_neg (by omega))
        refine lv_aload_n F.1 F.2.1 dX11_daybook_49 rfl (lv_at hl 1 rfl) ?_
        refine a_getr F inX11 hP 0 4 tc_0 rfl rfl (by decide) q507 (fun _ h9 => h9) dX11_daybook_50 ?_
        refine a_Vv F hml hl.1 hA hP hD hS (As := []) (x_X6_remember_24 l dC dI ad cA nF _  hR) (cs_RX11_200 (d := 1) F.2.2.1 (by decide)) tc_24 rfl rfl rfl rfl (Nat.le_of_ble_eq_true rfl) dX11_daybook_53 ⟨Nat.le_refl 0, Nat.le_refl 0⟩ (fun u11 H locs hq hP hD hS => ?_)
        obtain ⟨hR, hF11, hz11⟩ := hq
        have hF := hF.tr hF11 (by decide)
        have hK_N4 := sp_fr sp_N4 hF11 (by decide) hK_N4
        have hK_r8_DBI := sp_fr (sp_imp sp_DBI) hF11 (by decide) hK_r8_DBI
        have hK_DC := sp_fr (sp_dl 1 _ _) hF11 (by decide) hK_DC
        have hK_DBI := sp_fr sp_DBI hF11 (by decide) hK_DBI
        have hC := vl_eq hC hz11.symm
        exact L56 _ _ _ _ hR hF hK_N4 hK_DBI hK_DC (by omega) (i_trB (hF11 1 2 rfl) (by omega : (0 : Int) ≤ (0 : Int) ∧ (0 : Int) ≤ 0)) hC hP hD hS (lv_sub hl [1, 2] rfl)
    · have hC := hC.trans (if_neg (by omega))
      refine a_bp F (-2 : Int32) dX11_daybook_33 (by decide) ?_
      refine lv_aload_n F.1 F.2.1 dX11_daybook_35 rfl (lv_at hl 1 rfl) ?_
      refine a_getr F inX11 hP 0 0 tc_0 rfl rfl (by decide) q503 (fun _ h9 => h9) dX11_daybook_36 ?_
      have g12 : (0 : Int) ≤ (u8.1 1 11).toInt ∧ (u8.1 1 11).toInt ≤ 940 := hR 1 11
      refine a_geti F inX10 hP 1 11 tc_1 rfl rfl (by decide) q117 (fun _ h9 => h9) (v := (u8.1 1 11)) rfl dX11_daybook_39 ?_
      refine a_isubX F dX11_daybook_42 ic_m2 rfl (by omega) (fun v13 hv13 yv13 => ?_)
      have hC := vl_eq hC yv13
      exact a_reti F hr hlocks hP hD hS dX11_daybook_43 ⟨hR, hF, (by omega : v13.toInt ≤ 39), hK_DC, hRR.symm.trans hC⟩
  have hC : RR = f_X11_daybook_0 u0 p0 := hRR
  unfold f_X11_daybook_0 at hC
  refine lv_iload_n F.1 F.2.1 dX11_daybook_0 rfl (lv_at hl 1 rfl) ?_
  refine z_eq F 13 dX11_daybook_1 (by decide) rfl (fun c14 => ?_) (fun c14 => ?_)
  · have hC := hC.trans (if_pos c14)
    exact L13 _ _ _ _ hR hF hK_N4 (by omega) hC hP hD hS (lv_sub hl [0, 1] rfl)
  · have hC := hC.trans (if_neg (by omega))
    refine lv_iload_n F.1 F.2.1 dX11_daybook_4 rfl (lv_at hl 1 rfl) ?_
    refine a_ic F (1 : Int32) dX11_daybook_5 (by decide) ?_
    refine b_eq F 13 dX11_daybook_6 (by decide) rfl ic_1 (fun c15 => ?_) (fun c15 => ?_)
    · have hC := hC.trans (if_pos c15)
      exact L13 _ _ _ _ hR hF hK_N4 (by omega) hC hP hD hS (lv_sub hl [0, 1] rfl)
    · have hC := hC.trans (if_neg (by omega))
      refine a_sp F (-1000 : Int32) dX11_daybook_9 (by decide) ?_
      exact a_reti F hr hlocks hP hD hS dX11_daybook_12 ⟨hR, hF, (by decide), (dl_k (by omega) (by omega) rfl), hRR.symm.trans hC⟩

def f_X12_does_85 (u0 : ac_U) (p0 : Int32) (p1 : Int32) : ac_U := (vl ((4 : Int32) * (u0.1 87 123)) (fun (v2 : Int32) => (vl ((148 : Int32) + v2) (fun (v3 : Int32) => (vl (v3 + (1 : Int32)) (fun (v5 : Int32) => (vl (v3 + (2 : Int32)) (fun (v6 : Int32) => (vl (v3 + (3 : Int32)) (fun (v7 : Int32) => (vl ((107 : Int32) + p0) (fun (v8 : Int32) => (vl ((pI (pI (pI u0 87 v3.toNatClampNeg (u0.1 87 106)) 87 v5.toNatClampNeg p0) 87 v6.toNatClampNeg p1).1 87 v8.toNatClampNeg) (fun (v9 : Int32) => (vl ((u0.1 87 123) + (1 : Int32)) (fun (v10 : Int32) => (vl ((111 : Int32) + p0) (fun (v11 : Int32) => (vl ((115 : Int32) + p0) (fun (v12 : Int32) => (vl ((pI (pI (pI (pI (pI (pI u0 87 v3.toNatClampNeg (u0.1 87 106)) 87 v5.toNatClampNeg p0) 87 v6.toNatClampNeg p1) 87 v7.toNatClampNeg v9) 87 123 v10) 87 v11.toNatClampNeg (1 : Int32)).1 87 v12.toNatClampNeg) (fun (v13 : Int32) => (vl (v13 + (1 : Int32)) (fun (v14 : Int32) => (pI (pI (pI (pI (pI (pI (pI u0 87 v3.toNatClampNeg (u0.1 87 106)) 87 v5.toNatClampNeg p0) 87 v6.toNatClampNeg p1) 87 v7.toNatClampNeg v9) 87 123 v10) 87 v11.toNatClampNeg (1 : Int32)) 87 v12.toNatClampNeg v14)))))))))))))))))))))))))
set_option maxHeartbeats 600000 in
set_option maxRecDepth 100000 in
theorem x_X12_does_85 (l : Launch) (dC : Nat → ClassId) (dI : Nat → Nat → Nat) (ad : Nat → Nat) (cA : Nat → ClassId) (nF : Nat) (u0 : ac_U) (p0 : Int32) (p1 : Int32) (hR : ac_R rg u0) (hp0 : (0 : Int) ≤ p0.toInt ∧ p0.toInt ≤ 3) (hf_87_123 : (0 : Int) ≤ (u0.1 87 123).toInt ∧ (u0.1 87 123).toInt ≤ 79) : ac_Mv l yX12_does (.code yX12_does cX12_does 4 none :: TB) 1 (dC, dI) vwCl (ac_ty cA) ad cA (TT nF) [.ref (ad 85), .int p0, .int p1] u0 (fun (u : ac_U) => ac_R rg u ∧ ac_Fr [(87, none)] u0 u ∧ ((u.1 87 106).toInt = (u0.1 87 106).toInt ∧ (u.1 87 0).toInt = (u0.1 87 0).toInt) ∧ (msI u0 → msI u) ∧ (cdI u0 → cdI u) ∧ (unI u0 → unI u) ∧ (bfI u0 → bfI u) ∧ (apI u0 → apI u) ∧ (auI u0 → auI u) ∧ (abI u0 → abI u) ∧ (bgI u0 → bgI u) ∧ (hxI u0 → hxI u) ∧ f_X12_does_85 u0 p0 p1 = u) := by
  refine ac_Mv.of (cc := cX12_does) (maxL := 4) (ret := none) (by decide) rfl (Nat.le_of_ble_eq_true rfl) ?_
  intro p e s m below meth c A ls F hml hr hlocks hA hP hD hS hl
  have F : ac_X p s m [.ref (ad 85), .int p0, .int p1].toArray c cX12_does RX12 TB (dC, dI) vwCl (ac_ty cA) := ⟨F.1, F.2.1, fun w h => F.2.2.1 w (List.mem_cons_of_mem _ h), F.2.2.2.1, F.2.2.2.2⟩
  have hl : lv_has ls 4 [(0, .ref (ad 85)), (1, .int p0), (2, .int p1)] := hl
  obtain ⟨RR, hRR⟩ : ∃ q, q = f_X12_does_85 u0 p0 p1 := ⟨_, rfl⟩
  have hF : ac_Fr [(87, none)] u0 u0 := ac_Fr.rf
  have hK_TM : (tmI u0) u0 := ⟨rfl, rfl⟩
  have hK_i_MS : (fun u => msI u0 → msI u) u0 := fun h => h
  have hK_i_CW : (fun u => cdI u0 → cdI u) u0 := fun h => h
  have hK_i_UI : (fun u => unI u0 → unI u) u0 := fun h => h
  have hK_i_BI : (fun u => bfI u0 → bfI u) u0 := fun h => h
  have hK_i_AP : (fun u => apI u0 → apI u) u0 := fun h => h
  have hK_i_AU : (fun u => auI u0 → auI u) u0 := fun h => h
  have hK_i_AB : (fun u => abI u0 → abI u) u0 := fun h => h
  have hK_i_BG : (fun u => bgI u0 → bgI u) u0 := fun h => h
  have hK_i_HX : (fun u => hxI u0 → hxI u) u0 := fun h => h
  have hC : RR = f_X12_does_85 u0 p0 p1 := hRR
  unfold f_X12_does_85 at hC
  refine a_sp F (148 : Int32) dX12_does_0 (by decide) ?_
  refine a_ic F (4 : Int32) dX12_does_3 (by decide) ?_
  refine lv_aload_n F.1 F.2.1 dX12_does_4 rfl (lv_at hl 0 rfl) ?_
  refine a_getr F inX12 hP 85 6 tc_85 rfl rfl (by decide) q1477 (fun _ h9 => h9) dX12_does_5 ?_
  refine a_bp F (123 : Int32) dX12_does_8 (by decide) ?_
  have g1 : (0 : Int) ≤ (u0.1 87 123).toInt ∧ (u0.1 87 123).toInt ≤ 80 := hR 87 123
  refine a_ialdK F hP 87 123 tc_87 rfl rfl (i_in ic_123 (by omega)) (v := (u0.1 87 123)) rfl dX12_does_10 ?_
  refine a_imulX F dX12_does_11 ic_4 rfl (by omega) (fun v2 hv2 yv2 => ?_)
  have hC := vl_eq hC yv2
  refine a_iaddX F dX12_does_12 ic_148 rfl (by omega) (fun v3 hv3 yv3 => ?_)
  have hC := vl_eq hC yv3
  refine lv_istore_n (lv' := [(3, .int v3), (0, .ref (ad 85)), (1, .int p0), (2, .int p1)]) F.1 F.2.1 dX12_does_13 rfl hl (by decide) rfl (fun ls hl => ?_)
  refine lv_aload_n F.1 F.2.1 dX12_does_14 rfl (lv_at hl 1 rfl) ?_
  refine a_getr F inX12 hP 85 6 tc_85 rfl rfl (by decide) q1477 (fun _ h9 => h9) dX12_does_15 ?_
  refine lv_iload_n F.1 F.2.1 dX12_does_18 rfl (lv_at hl 0 rfl) ?_
  refine lv_aload_n F.1 F.2.1 dX12_does_19 rfl (lv_at hl 1 rfl) ?_
  refine a_getr F inX12 hP 85 6 tc_85 rfl rfl (by decide) q1477 (fun _ h9 => h9) dX12_does_20 ?_
  refine a_bp F (106 : Int32) dX12_does_23 (by decide) ?_
  have g4 : (0 : Int) ≤ (u0.1 87 106).toInt ∧ (u0.1 87 106).toInt ≤ 480 := hR 87 106
  refine a_ialdK F hP 87 106 tc_87 rfl rfl (i_in ic_106 (by omega)) (v := (u0.1 87 106)) rfl dX12_does_25 ?_
  refine a_iast F hP hD hS 87 tc_87 rfl (i_in rfl (by omega)) dX12_does_26 (fun H locs hP hD hS => ?_)
  have hR := hR.si (c := 87) (k := v3.toNatClampNeg) (v := (u0.1 87 106)) (rs_87_148_464 (by omega) ⟨i_lo _, i_hi _⟩)
  have hF := hF.si (c := 87) (k := v3.toNatClampNeg) (v := (u0.1 87 106)) rfl
  have hK_TM := sp_si (sp_tm _) hK_TM (c := 87) (k := v3.toNatClampNeg) (v := (u0.1 87 106)) (fun j9 h9 => by have q8 := sp_mem h9; simp at q8; have q9 := i_cl (x := v3) (by omega); omega)
  have hK_i_MS := sp_si (sp_imp sp_MS) hK_i_MS (c := 87) (k := v3.toNatClampNeg) (v := (u0.1 87 106)) (fun j9 h9 => by have q8 := sp_mem h9; simp at q8; have q9 := i_cl (x := v3) (by omega); omega)
  have hK_i_CW := sp_si (sp_imp sp_CW) hK_i_CW (c := 87) (k := v3.toNatClampNeg) (v := (u0.1 87 106)) (fun j9 h9 => by have q8 := sp_mem h9; simp at q8; have q9 := i_cl (x := v3) (by omega); omega)
  have hK_i_UI := sp_si (sp_imp sp_UI) hK_i_UI (c := 87) (k := v3.toNatClampNeg) (v := (u0.1 87 106)) (fun j9 h9 => by have q8 := sp_mem h9; simp at q8; have q9 := i_cl (x := v3) (by omega); omega)
  have hK_i_BI := sp_si (sp_imp sp_BI) hK_i_BI (c := 87) (k := v3.toNatClampNeg) (v := (u0.1 87 106)) (fun j9 h9 => by have q8 := sp_mem h9; simp at q8; have q9 := i_cl (x := v3) (by omega); omega)
  have hK_i_AP := sp_si (sp_imp sp_AP) hK_i_AP (c := 87) (k := v3.toNatClampNeg) (v := (u0.1 87 106)) (fun j9 h9 => by have q8 := sp_mem h9; simp at q8; have q9 := i_cl (x := v3) (by omega); omega)
  have hK_i_AU := sp_si (sp_imp sp_AU) hK_i_AU (c := 87) (k := v3.toNatClampNeg) (v := (u0.1 87 106)) (fun j9 h9 => by have q8 := sp_mem h9; simp at q8; have q9 := i_cl (x := v3) (by omega); omega)
  have hK_i_AB := sp_si (sp_imp sp_AB) hK_i_AB (c := 87) (k := v3.toNatClampNeg) (v := (u0.1 87 106)) (fun j9 h9 => by have q8 := sp_mem h9; simp at q8; have q9 := i_cl (x := v3) (by omega); omega)
  have hK_i_BG := sp_si (sp_imp sp_BG) hK_i_BG (c := 87) (k := v3.toNatClampNeg) (v := (u0.1 87 106)) (fun j9 h9 => by have q8 := sp_mem h9; simp at q8; have q9 := i_cl (x := v3) (by omega); omega)
  have hK_i_HX := sp_si (sp_imp sp_HX) hK_i_HX (c := 87) (k := v3.toNatClampNeg) (v := (u0.1 87 106)) (fun j9 h9 => by have q8 := sp_mem h9; simp at q8; have q9 := i_cl (x := v3) (by omega); omega)
  refine lv_aload_n F.1 F.2.1 dX12_does_27 rfl (lv_at hl 1 rfl) ?_
  refine a_getr F inX12 hP 85 6 tc_85 rfl rfl (by decide) q1477 (fun _ h9 => h9) dX12_does_28 ?_
  refine lv_iload_n F.1 F.2.1 dX12_does_31 rfl (lv_at hl 0 rfl) ?_
  refine a_ic F (1 : Int32) dX12_does_32 (by decide) ?_
  refine a_iaddX F dX12_does_33 rfl ic_1 (by omega) (fun v5 hv5 yv5 => ?_)
  have hC := vl_eq hC yv5
  refine lv_iload_n F.1 F.2.1 dX12_does_34 rfl (lv_at hl 2 rfl) ?_
  refine a_iast F hP hD hS 87 tc_87 rfl (i_in rfl (by omega)) dX12_does_35 (fun H locs hP hD hS => ?_)
  have hR := hR.si (c := 87) (k := v5.toNatClampNeg) (v := p0) (rs_87_149_465 (by omega) ⟨i_lo _, i_hi _⟩)
  have hF := hF.si (c := 87) (k := v5.toNatClampNeg) (v := p0) rfl
  have hK_TM := sp_si (sp_tm _) hK_TM (c := 87) (k := v5.toNatClampNeg) (v := p0) (fun j9 h9 => by have q8 := sp_mem h9; simp at q8; have q9 := i_cl (x := v5) (by omega); omega)
  have hK_i_MS := sp_si (sp_imp sp_MS) hK_i_MS (c := 87) (k := v5.toNatClampNeg) (v := p0) (fun j9 h9 => by have q8 := sp_mem h9; simp at q8; have q9 := i_cl (x := v5) (by omega); omega)
  have hK_i_CW := sp_si (sp_imp sp_CW) hK_i_CW (c := 87) (k := v5.toNatClampNeg) (v := p0) (fun j9 h9 => by have q8 := sp_mem h9; simp at q8; have q9 := i_cl (x := v5) (by omega); omega)
  have hK_i_UI := sp_si (sp_imp sp_UI) hK_i_UI (c := 87) (k := v5.toNatClampNeg) (v := p0) (fun j9 h9 => by have q8 := sp_mem h9; simp at q8; have q9 := i_cl (x := v5) (by omega); omega)
  have hK_i_BI := sp_si (sp_imp sp_BI) hK_i_BI (c := 87) (k := v5.toNatClampNeg) (v := p0) (fun j9 h9 => by have q8 := sp_mem h9; simp at q8; have q9 := i_cl (x := v5) (by omega); omega)
  have hK_i_AP := sp_si (sp_imp sp_AP) hK_i_AP (c := 87) (k := v5.toNatClampNeg) (v := p0) (fun j9 h9 => by have q8 := sp_mem h9; simp at q8; have q9 := i_cl (x := v5) (by omega); omega)
  have hK_i_AU := sp_si (sp_imp sp_AU) hK_i_AU (c := 87) (k := v5.toNatClampNeg) (v := p0) (fun j9 h9 => by have q8 := sp_mem h9; simp at q8; have q9 := i_cl (x := v5) (by omega); omega)
  have hK_i_AB := sp_si (sp_imp sp_AB) hK_i_AB (c := 87) (k := v5.toNatClampNeg) (v := p0) (fun j9 h9 => by have q8 := sp_mem h9; simp at q8; have q9 := i_cl (x := v5) (by omega); omega)
  have hK_i_BG := sp_si (sp_imp sp_BG) hK_i_BG (c := 87) (k := v5.toNatClampNeg) (v := p0) (fun j9 h9 => by have q8 := sp_mem h9; simp at q8; have q9 := i_cl (x := v5) (by omega); omega)
  have hK_i_HX := sp_si (sp_imp sp_HX) hK_i_HX (c := 87) (k := v5.toNatClampNeg) (v := p0) (fun j9 h9 => by have q8 := sp_mem h9; simp at q8; have q9 := i_cl (x := v5) (by omega); omega)
  refine lv_aload_n F.1 F.2.1 dX12_does_36 rfl (lv_at hl 1 rfl) ?_
  refine a_getr F inX12 hP 85 6 tc_85 rfl rfl (by decide) q1477 (fun _ h9 => h9) dX12_does_37 ?_
  refine lv_iload_n F.1 F.2.1 dX12_does_40 rfl (lv_at hl 0 rfl) ?_
  refine a_ic F (2 : Int32) dX12_does_41 (by decide) ?_
  refine a_iaddX F dX12_does_42 rfl ic_2 (by omega) (fun v6 hv6 yv6 => ?_)
  have hC := vl_eq hC yv6
  refine lv_iload_n F.1 F.2.1 dX12_does_43 rfl (lv_at hl 3 rfl) ?_
  refine a_iast F hP hD hS 87 tc_87 rfl (i_in rfl (by omega)) dX12_does_44 (fun H locs hP hD hS => ?_)
  have hR := hR.si (c := 87) (k := v6.toNatClampNeg) (v := p1) (rs_87_150_466 (by omega) ⟨i_lo _, i_hi _⟩)
  have hF := hF.si (c := 87) (k := v6.toNatClampNeg) (v := p1) rfl
  have hK_TM := sp_si (sp_tm _) hK_TM (c := 87) (k := v6.toNatClampNeg) (v := p1) (fun j9 h9 => by have q8 := sp_mem h9; simp at q8; have q9 := i_cl (x := v6) (by omega); omega)
  have hK_i_MS := sp_si (sp_imp sp_MS) hK_i_MS (c := 87) (k := v6.toNatClampNeg) (v := p1) (fun j9 h9 => by have q8 := sp_mem h9; simp at q8; have q9 := i_cl (x := v6) (by omega); omega)
  have hK_i_CW := sp_si (sp_imp sp_CW) hK_i_CW (c := 87) (k := v6.toNatClampNeg) (v := p1) (fun j9 h9 => by have q8 := sp_mem h9; simp at q8; have q9 := i_cl (x := v6) (by omega); omega)
  have hK_i_UI := sp_si (sp_imp sp_UI) hK_i_UI (c := 87) (k := v6.toNatClampNeg) (v := p1) (fun j9 h9 => by have q8 := sp_mem h9; simp at q8; have q9 := i_cl (x := v6) (by omega); omega)
  have hK_i_BI := sp_si (sp_imp sp_BI) hK_i_BI (c := 87) (k := v6.toNatClampNeg) (v := p1) (fun j9 h9 => by have q8 := sp_mem h9; simp at q8; have q9 := i_cl (x := v6) (by omega); omega)
  have hK_i_AP := sp_si (sp_imp sp_AP) hK_i_AP (c := 87) (k := v6.toNatClampNeg) (v := p1) (fun j9 h9 => by have q8 := sp_mem h9; simp at q8; have q9 := i_cl (x := v6) (by omega); omega)
  have hK_i_AU := sp_si (sp_imp sp_AU) hK_i_AU (c := 87) (k := v6.toNatClampNeg) (v := p1) (fun j9 h9 => by have q8 := sp_mem h9; simp at q8; have q9 := i_cl (x := v6) (by omega); omega)
  have hK_i_AB := sp_si (sp_imp sp_AB) hK_i_AB (c := 87) (k := v6.toNatClampNeg) (v := p1) (fun j9 h9 => by have q8 := sp_mem h9; simp at q8; have q9 := i_cl (x := v6) (by omega); omega)
  have hK_i_BG := sp_si (sp_imp sp_BG) hK_i_BG (c := 87) (k := v6.toNatClampNeg) (v := p1) (fun j9 h9 => by have q8 := sp_mem h9; simp at q8; have q9 := i_cl (x := v6) (by omega); omega)
  have hK_i_HX := sp_si (sp_imp sp_HX) hK_i_HX (c := 87) (k := v6.toNatClampNeg) (v := p1) (fun j9 h9 => by have q8 := sp_mem h9; simp at q8; have q9 := i_cl (x := v6) (by omega); omega)
  refine lv_aload_n F.1 F.2.1 dX12_does_45 rfl (lv_at hl 1 rfl) ?_
  refine a_getr F inX12 hP 85 6 tc_85 rfl rfl (by decide) q1477 (fun _ h9 => h9) dX12_does_46 ?_
  refine lv_iload_n F.1 F.2.1 dX12_does_49 rfl (lv_at hl 0 rfl) ?_
  refine a_ic F (3 : Int32) dX12_does_50 (by decide) ?_
  refine a_iaddX F dX12_does_51 rfl ic_3 (by omega) (fun v7 hv7 yv7 => ?_)
  have hC := vl_eq hC yv7
  refine lv_aload_n F.1 F.2.1 dX12_does_52 rfl (lv_at hl 1 rfl) ?_
  refine a_getr F inX12 hP 85 6 tc_85 rfl rfl (by decide) q1477 (fun _ h9 => h9) dX12_does_53 ?_
  refine a_bp F (107 : Int32) dX12_does_56 (by decide) ?_
  refine lv_iload_n F.1 F.2.1 dX12_does_58 rfl (lv_at hl 2 rfl) ?_
  refine a_iaddX F dX12_does_59 ic_107 rfl (by omega) (fun v8 hv8 yv8 => ?_)
  have hC := vl_eq hC yv8
  refine a_iald F hP 87 tc_87 rfl (i_in rfl (by omega)) dX12_does_60 (fun v9 ev9 => ?_)
  have hC := vl_eq hC ev9.symm
  have hv9 : (0 : Int) ≤ v9.toInt ∧ v9.toInt ≤ 7 := rg_seg_87_107_110 hR ev9 (by omega)
  refine a_iast F hP hD hS 87 tc_87 rfl (i_in rfl (by omega)) dX12_does_61 (fun H locs hP hD hS => ?_)
  have hR := hR.si (c := 87) (k := v7.toNatClampNeg) (v := v9) (rs_87_151_467 (by omega) ⟨i_lo _, i_hi _⟩)
  have hF := hF.si (c := 87) (k := v7.toNatClampNeg) (v := v9) rfl
  have hK_TM := sp_si (sp_tm _) hK_TM (c := 87) (k := v7.toNatClampNeg) (v := v9) (fun j9 h9 => by have q8 := sp_mem h9; simp at q8; have q9 := i_cl (x := v7) (by omega); omega)
  have hK_i_MS := sp_si (sp_imp sp_MS) hK_i_MS (c := 87) (k := v7.toNatClampNeg) (v := v9) (fun j9 h9 => by have q8 := sp_mem h9; simp at q8; have q9 := i_cl (x := v7) (by omega); omega)
  have hK_i_CW := sp_si (sp_imp sp_CW) hK_i_CW (c := 87) (k := v7.toNatClampNeg) (v := v9) (fun j9 h9 => by have q8 := sp_mem h9; simp at q8; have q9 := i_cl (x := v7) (by omega); omega)
  have hK_i_UI := sp_si (sp_imp sp_UI) hK_i_UI (c := 87) (k := v7.toNatClampNeg) (v := v9) (fun j9 h9 => by have q8 := sp_mem h9; simp at q8; have q9 := i_cl (x := v7) (by omega); omega)
  have hK_i_BI := sp_si (sp_imp sp_BI) hK_i_BI (c := 87) (k := v7.toNatClampNeg) (v := v9) (fun j9 h9 => by have q8 := sp_mem h9; simp at q8; have q9 := i_cl (x := v7) (by omega); omega)
  have hK_i_AP := sp_si (sp_imp sp_AP) hK_i_AP (c := 87) (k := v7.toNatClampNeg) (v := v9) (fun j9 h9 => by have q8 := sp_mem h9; simp at q8; have q9 := i_cl (x := v7) (by omega); omega)
  have hK_i_AU := sp_si (sp_imp sp_AU) hK_i_AU (c := 87) (k := v7.toNatClampNeg) (v := v9) (fun j9 h9 => by have q8 := sp_mem h9; simp at q8; have q9 := i_cl (x := v7) (by omega); omega)
  have hK_i_AB := sp_si (sp_imp sp_AB) hK_i_AB (c := 87) (k := v7.toNatClampNeg) (v := v9) (fun j9 h9 => by have q8 := sp_mem h9; simp at q8; have q9 := i_cl (x := v7) (by omega); omega)
  have hK_i_BG := sp_si (sp_imp sp_BG) hK_i_BG (c := 87) (k := v7.toNatClampNeg) (v := v9) (fun j9 h9 => by have q8 := sp_mem h9; simp at q8; have q9 := i_cl (x := v7) (by omega); omega)
  have hK_i_HX := sp_si (sp_imp sp_HX) hK_i_HX (c := 87) (k := v7.toNatClampNeg) (v := v9) (fun j9 h9 => by have q8 := sp_mem h9; simp at q8; have q9 := i_cl (x := v7) (by omega); omega)
  refine lv_aload_n F.1 F.2.1 dX12_does_62 rfl (lv_at hl 1 rfl) ?_
  refine a_getr F inX12 hP 85 6 tc_85 rfl rfl (by decide) q1477 (fun _ h9 => h9) dX12_does_63 ?_
  refine a_bp F (123 : Int32) dX12_does_66 (by decide) ?_
  refine lv_dup2_11 F.1 F.2.1 dX12_does_68 rfl rfl ?_
  refine a_ialdK F hP 87 123 tc_87 rfl rfl (i_in ic_123 (by omega)) (v := (u0.1 87 123)) ((ac_ne (c := 87) (k := 123) (i := v7) (by have q9 := i_cl (x := v7) (by omega); omega)).trans ((ac_ne (c := 87) (k := 123) (i := v6) (by have q9 := i_cl (x := v6) (by omega); omega)).trans ((ac_ne (c := 87) (k := 123) (i := v5) (by have q9 := i_cl (x := v5) (by omega); omega)).trans (ac_ne (c := 87) (k := 123) (i := v3) (by have q9 := i_cl (x := v3) (by omega); omega))))) dX12_does_69 ?_
  refine a_ic F (1 : Int32) dX12_does_70 (by decide) ?_
  refine a_iaddX F dX12_does_71 rfl ic_1 (by omega) (fun v10 hv10 yv10 => ?_)
  have hC := vl_eq hC yv10
  refine a_iastK F hP hD hS 87 123 tc_87 rfl rfl (i_in ic_123 (by omega)) dX12_does_72 (fun H locs hP hD hS => ?_)
  have hR := hR.si (c := 87) (k := 123) (v := v10) (by omega : (0 : Int) ≤ v10.toInt ∧ v10.toInt ≤ 80)
  have hF := hF.si (c := 87) (k := 123) (v := v10) rfl
  have hK_TM := sp_si (sp_tm _) hK_TM (c := 87) (k := 123) (v := v10) (fun j9 h9 q9 => by rw [q9] at h9; exact absurd h9 (by decide))
  have hK_i_MS := sp_si (sp_imp sp_MS) hK_i_MS (c := 87) (k := 123) (v := v10) (fun j9 h9 q9 => by rw [q9] at h9; exact absurd h9 (by decide))
  have hK_i_CW := sp_si (sp_imp sp_CW) hK_i_CW (c := 87) (k := 123) (v := v10) (fun j9 h9 q9 => by rw [q9] at h9; exact absurd h9 (by decide))
  have hK_i_UI := sp_si (sp_imp sp_UI) hK_i_UI (c := 87) (k := 123) (v := v10) (fun j9 h9 q9 => by rw [q9] at h9; exact absurd h9 (by decide))
  have hK_i_BI := sp_si (sp_imp sp_BI) hK_i_BI (c := 87) (k := 123) (v := v10) (fun j9 h9 q9 => by rw [q9] at h9; exact absurd h9 (by decide))
  have hK_i_AP := sp_si (sp_imp sp_AP) hK_i_AP (c := 87) (k := 123) (v := v10) (fun j9 h9 q9 => by rw [q9] at h9; exact absurd h9 (by decide))
  have hK_i_AU := sp_si (sp_imp sp_AU) hK_i_AU (c := 87) (k := 123) (v := v10) (fun j9 h9 q9 => by rw [q9] at h9; exact absurd h9 (by decide))
  have hK_i_AB := sp_si (sp_imp sp_AB) hK_i_AB (c := 87) (k := 123) (v := v10) (fun j9 h9 q9 => by rw [q9] at h9; exact absurd h9 (by decide))
  have hK_i_BG := sp_si (sp_imp sp_BG) hK_i_BG (c := 87) (k := 123) (v := v10) (fun j9 h9 q9 => by rw [q9] at h9; exact absurd h9 (by decide))
  have hK_i_HX := sp_si (sp_imp sp_HX) hK_i_HX (c := 87) (k := 123) (v := v10) (fun j9 h9 q9 => by rw [q9] at h9; exact absurd h9 (by decide))
  refine lv_aload_n F.1 F.2.1 dX12_does_73 rfl (lv_at hl 1 rfl) ?_
  refine a_getr F inX12 hP 85 6 tc_85 rfl rfl (by decide) q1477 (fun _ h9 => h9) dX12_does_74 ?_
  refine a_bp F (111 : Int32) dX12_does_77 (by decide) ?_
  refine lv_iload_n F.1 F.2.1 dX12_does_79 rfl (lv_at hl 2 rfl) ?_
  refine a_iaddX F dX12_does_80 ic_111 rfl (by omega) (fun v11 hv11 yv11 => ?_)
  have hC := vl_eq hC yv11
  refine a_ic F (1 : Int32) dX12_does_81 (by decide) ?_
  refine a_iast F hP hD hS 87 tc_87 rfl (i_in rfl (by omega)) dX12_does_82 (fun H locs hP hD hS => ?_)
  have hR := hR.si (c := 87) (k := v11.toNatClampNeg) (v := (1 : Int32)) (rs_87_111_114 (by omega) ⟨i_lo _, i_hi _⟩)
  have hF := hF.si (c := 87) (k := v11.toNatClampNeg) (v := (1 : Int32)) rfl
  have hK_TM := sp_si (sp_tm _) hK_TM (c := 87) (k := v11.toNatClampNeg) (v := (1 : Int32)) (fun j9 h9 => by have q8 := sp_mem h9; simp at q8; have q9 := i_cl (x := v11) (by omega); omega)
  have hK_i_MS := sp_si (sp_imp sp_MS) hK_i_MS (c := 87) (k := v11.toNatClampNeg) (v := (1 : Int32)) (fun j9 h9 => by have q8 := sp_mem h9; simp at q8; have q9 := i_cl (x := v11) (by omega); omega)
  have hK_i_CW := sp_si (sp_imp sp_CW) hK_i_CW (c := 87) (k := v11.toNatClampNeg) (v := (1 : Int32)) (fun j9 h9 => by have q8 := sp_mem h9; simp at q8; have q9 := i_cl (x := v11) (by omega); omega)
  have hK_i_UI := sp_si (sp_imp sp_UI) hK_i_UI (c := 87) (k := v11.toNatClampNeg) (v := (1 : Int32)) (fun j9 h9 => by have q8 := sp_mem h9; simp at q8; have q9 := i_cl (x := v11) (by omega); omega)
  have hK_i_BI := sp_si (sp_imp sp_BI) hK_i_BI (c := 87) (k := v11.toNatClampNeg) (v := (1 : Int32)) (fun j9 h9 => by have q8 := sp_mem h9; simp at q8; have q9 := i_cl (x := v11) (by omega); omega)
  have hK_i_AP := sp_si (sp_imp sp_AP) hK_i_AP (c := 87) (k := v11.toNatClampNeg) (v := (1 : Int32)) (fun j9 h9 => by have q8 := sp_mem h9; simp at q8; have q9 := i_cl (x := v11) (by omega); omega)
  have hK_i_AU := sp_si (sp_imp sp_AU) hK_i_AU (c := 87) (k := v11.toNatClampNeg) (v := (1 : Int32)) (fun j9 h9 => by have q8 := sp_mem h9; simp at q8; have q9 := i_cl (x := v11) (by omega); omega)
  have hK_i_AB := sp_si (sp_imp sp_AB) hK_i_AB (c := 87) (k := v11.toNatClampNeg) (v := (1 : Int32)) (fun j9 h9 => by have q8 := sp_mem h9; simp at q8; have q9 := i_cl (x := v11) (by omega); omega)
  have hK_i_BG := sp_si (sp_imp sp_BG) hK_i_BG (c := 87) (k := v11.toNatClampNeg) (v := (1 : Int32)) (fun j9 h9 => by have q8 := sp_mem h9; simp at q8; have q9 := i_cl (x := v11) (by omega); omega)
  have hK_i_HX := sp_si (sp_imp sp_HX) hK_i_HX (c := 87) (k := v11.toNatClampNeg) (v := (1 : Int32)) (fun j9 h9 => by have q8 := sp_mem h9; simp at q8; have q9 := i_cl (x := v11) (by omega); omega)
  refine lv_aload_n F.1 F.2.1 dX12_does_83 rfl (lv_at hl 1 rfl) ?_
  refine a_getr F inX12 hP 85 6 tc_85 rfl rfl (by decide) q1477 (fun _ h9 => h9) dX12_does_84 ?_
  refine a_bp F (115 : Int32) dX12_does_87 (by decide) ?_
  refine lv_iload_n F.1 F.2.1 dX12_does_89 rfl (lv_at hl 2 rfl) ?_
  refine a_iaddX F dX12_does_90 ic_115 rfl (by omega) (fun v12 hv12 yv12 => ?_)
  have hC := vl_eq hC yv12
  refine lv_dup2_11 F.1 F.2.1 dX12_does_91 rfl rfl ?_
  refine a_iald F hP 87 tc_87 rfl (i_in rfl (by omega)) dX12_does_92 (fun v13 ev13 => ?_)
  have hC := vl_eq hC ev13.symm
  refine a_ic F (1 : Int32) dX12_does_93 (by decide) ?_
  refine a_iaddUX F dX12_does_94 (fun v14 yv14 => ?_)
  have hC := vl_eq hC yv14
  refine a_iast F hP hD hS 87 tc_87 rfl (i_in rfl (by omega)) dX12_does_95 (fun H locs hP hD hS => ?_)
  have hR := hR.si (c := 87) (k := v12.toNatClampNeg) (v := v14) (rs_87_115_118 (by omega) ⟨i_lo _, i_hi _⟩)
  have hF := hF.si (c := 87) (k := v12.toNatClampNeg) (v := v14) rfl
  have hK_TM := sp_si (sp_tm _) hK_TM (c := 87) (k := v12.toNatClampNeg) (v := v14) (fun j9 h9 => by have q8 := sp_mem h9; simp at q8; have q9 := i_cl (x := v12) (by omega); omega)
  have hK_i_MS := sp_si (sp_imp sp_MS) hK_i_MS (c := 87) (k := v12.toNatClampNeg) (v := v14) (fun j9 h9 => by have q8 := sp_mem h9; simp at q8; have q9 := i_cl (x := v12) (by omega); omega)
  have hK_i_CW := sp_si (sp_imp sp_CW) hK_i_CW (c := 87) (k := v12.toNatClampNeg) (v := v14) (fun j9 h9 => by have q8 := sp_mem h9; simp at q8; have q9 := i_cl (x := v12) (by omega); omega)
  have hK_i_UI := sp_si (sp_imp sp_UI) hK_i_UI (c := 87) (k := v12.toNatClampNeg) (v := v14) (fun j9 h9 => by have q8 := sp_mem h9; simp at q8; have q9 := i_cl (x := v12) (by omega); omega)
  have hK_i_BI := sp_si (sp_imp sp_BI) hK_i_BI (c := 87) (k := v12.toNatClampNeg) (v := v14) (fun j9 h9 => by have q8 := sp_mem h9; simp at q8; have q9 := i_cl (x := v12) (by omega); omega)
  have hK_i_AP := sp_si (sp_imp sp_AP) hK_i_AP (c := 87) (k := v12.toNatClampNeg) (v := v14) (fun j9 h9 => by have q8 := sp_mem h9; simp at q8; have q9 := i_cl (x := v12) (by omega); omega)
  have hK_i_AU := sp_si (sp_imp sp_AU) hK_i_AU (c := 87) (k := v12.toNatClampNeg) (v := v14) (fun j9 h9 => by have q8 := sp_mem h9; simp at q8; have q9 := i_cl (x := v12) (by omega); omega)
  have hK_i_AB := sp_si (sp_imp sp_AB) hK_i_AB (c := 87) (k := v12.toNatClampNeg) (v := v14) (fun j9 h9 => by have q8 := sp_mem h9; simp at q8; have q9 := i_cl (x := v12) (by omega); omega)
  have hK_i_BG := sp_si (sp_imp sp_BG) hK_i_BG (c := 87) (k := v12.toNatClampNeg) (v := v14) (fun j9 h9 => by have q8 := sp_mem h9; simp at q8; have q9 := i_cl (x := v12) (by omega); omega)
  have hK_i_HX := sp_si (sp_imp sp_HX) hK_i_HX (c := 87) (k := v12.toNatClampNeg) (v := v14) (fun j9 h9 => by have q8 := sp_mem h9; simp at q8; have q9 := i_cl (x := v12) (by omega); omega)
  exact a_retv F hr hlocks hP hD hS dX12_does_96 ⟨hR, hF, ⟨congrArg Int32.toInt hK_TM.1, congrArg Int32.toInt hK_TM.2⟩, hK_i_MS, hK_i_CW, hK_i_UI, hK_i_BI, hK_i_AP, hK_i_AU, hK_i_AB, hK_i_BG, hK_i_HX, hRR.symm.trans hC⟩

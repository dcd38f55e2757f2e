def K_X12_bits_4_b (B4 : Int32 → Int32 → Int32) (u0 : ac_U) (p0 : Int32) (x1 : Int32) (x2 : Int32) : Int32 := (if x2.toInt = 0 then x1 else (vl (x1 + Int32.ofInt (1)) (fun (v2 : Int32) => (B4 v2 (x2 &&& (x2 - (1 : Int32)))))))
def K_X12_bits_4 (u0 : ac_U) (p0 : Int32) : Nat → Int32 → Int32 → Int32
  | 0 => fun x1 x2 => 0
  | n + 1 => fun x1 x2 => K_X12_bits_4_b (K_X12_bits_4 u0 p0 n) u0 p0 x1 x2
def f_X12_bits (u0 : ac_U) (p0 : Int32) : Int32 := (K_X12_bits_4 u0 p0 4294967297 (0 : Int32) p0)
set_option maxHeartbeats 600000 in
set_option maxRecDepth 100000 in
theorem x_X12_bits (l : Launch) (dC : Nat → ClassId) (dI : Nat → Nat → Nat) (ad : Nat → Nat) (cA : Nat → ClassId) (nF : Nat) (u0 : ac_U) (p0 : Int32) (hR : ac_R rg u0) (hp0 : (0 : Int) ≤ p0.toInt ∧ p0.toInt ≤ 255) : ac_Mi l yX12_bits (.code yX12_bits cX12_bits 3 (some .int) :: TB) 1 (dC, dI) vwCl (ac_ty cA) ad cA (TT nF) [.int p0] u0 (fun (r : Int32) (u : ac_U) => u = u0 ∧ f_X12_bits u0 p0 = r) := by
  refine ac_Mi.of (cc := cX12_bits) (maxL := 3) (ret := (some .int)) (by decide) rfl (Nat.le_of_ble_eq_true rfl) ?_
  intro p e s m below meth c A ls F hml hr hlocks hA hP hD hS hl
  have F : ac_X p s m [.int p0].toArray c cX12_bits RX12 TB (dC, dI) vwCl (ac_ty cA) := ⟨F.1, F.2.1, fun w h => F.2.2.1 w (List.mem_cons_of_mem _ h), F.2.2.2.1, F.2.2.2.2⟩
  have hl : lv_has ls 3 [(0, .int p0)] := hl
  obtain ⟨RR, hRR⟩ : ∃ q, q = f_X12_bits u0 p0 := ⟨_, rfl⟩
  have L4 : ∀ (n4 : Nat) (x1 : Int32) (x2 : Int32) (H : Heap) (locs : List Loc) (ls : Array Slot), (x2.toBitVec.toNat : Int) < (n4 : Int) → (0 : Int) ≤ x2.toInt ∧ x2.toInt ≤ 255 → RR = (K_X12_bits_4 u0 p0 n4 x1 x2) → va_P (dC, dI) vwCl (ac_w ad cA (TT nF) u0) H → va_D A (ac_w ad cA (TT nF) u0) → va_S A s.heap H locs → lv_has ls 3 [(1, .int x1), (2, .int x2)] → W p l e (ac_rm 1) s m [.int p0].toArray below meth c H locs 0 0 (MQ below (va_Qi (fun (r : Int32) (u : ac_U) => u = u0 ∧ f_X12_bits u0 p0 = r) (ac_B (dC, dI) vwCl (ac_ty cA) ad cA (TT nF) A) A) [.int p0].toArray s 0 0 A) (F0 m 4 ls []) := by
    intro n4
    induction n4 with
    | zero => intro x1 x2 H locs ls hn4 f0 hC hP hD hS hl; exfalso; omega
    | succ n4 ih4 =>
      intro x1 x2 H locs ls hn4 f0 hC hP hD hS hl
      have hC : RR = K_X12_bits_4_b (K_X12_bits_4 u0 p0 n4) u0 p0 x1 x2 := hC
      unfold K_X12_bits_4_b at hC
      refine lv_iload_n F.1 F.2.1 dX12_bits_4 rfl (lv_at hl 1 rfl) ?_
      refine z_eq F 20 dX12_bits_5 (by decide) rfl (fun c1 => ?_) (fun c1 => ?_)
      · have hC := hC.trans (if_pos c1)
        refine lv_iload_n F.1 F.2.1 dX12_bits_20 rfl (lv_at hl 0 rfl) ?_
        exact a_reti F hr hlocks hP hD hS dX12_bits_21 ⟨rfl, hRR.symm.trans hC⟩
      · have hC := hC.trans (if_neg (by omega))
        refine a_iincUX F (k := 0) (fun v2 => [(1, .int v2), (2, .int x2)]) dX12_bits_8 hl rfl (by decide) (fun _ => rfl) (fun v2 ls yv2 hl => ?_)
        have hC := vl_eq hC yv2
        refine lv_iload_n F.1 F.2.1 dX12_bits_11 rfl (lv_at hl 1 rfl) ?_
        refine lv_iload_n F.1 F.2.1 dX12_bits_12 rfl (lv_at hl 1 rfl) ?_
        refine a_ic F (1 : Int32) dX12_bits_13 (by decide) ?_
        refine lv_isub F.1 F.2.1 dX12_bits_14 ?_
        refine lv_iand F.1 F.2.1 dX12_bits_15 ?_
        have hb9 : 0 ≤ (x2 &&& (x2 - (1 : Int32))).toInt ∧ (x2 &&& (x2 - (1 : Int32))).toInt ≤ x2.toInt := by rw [Int32.and_comm]; exact i_and rfl (by omega)
        refine lv_istore_n (lv' := [(2, .int (x2 &&& (x2 - (1 : Int32)))), (1, .int v2)]) F.1 F.2.1 dX12_bits_16 rfl hl (by decide) rfl (fun ls hl => ?_)
        refine lv_goto (tgt := 4) F.1 F.2.1 dX12_bits_17 (by decide) ?_
        exact ih4 v2 (x2 &&& (x2 - (1 : Int32))) _ _ _ (by have q := bits_dec (x := x2) (by omega); omega) (by omega) hC hP hD hS (lv_sub hl [1, 0] rfl)
  have hC : RR = f_X12_bits u0 p0 := hRR
  unfold f_X12_bits at hC
  refine a_ic F (0 : Int32) dX12_bits_0 (by decide) ?_
  refine lv_istore_n (lv' := [(1, .int (0 : Int32)), (0, .int p0)]) F.1 F.2.1 dX12_bits_1 rfl hl (by decide) rfl (fun ls hl => ?_)
  refine lv_iload_n F.1 F.2.1 dX12_bits_2 rfl (lv_at hl 1 rfl) ?_
  refine lv_istore_n (lv' := [(2, .int p0), (1, .int (0 : Int32)), (0, .int p0)]) F.1 F.2.1 dX12_bits_3 rfl hl (by decide) rfl (fun ls hl => ?_)
  exact L4 4294967297 (0 : Int32) p0 _ _ _ (by have q := p0.toBitVec.isLt; omega) (by omega) hC hP hD hS (lv_sub hl [1, 0] rfl)
def K_X12_roots_85_99 (B9 : ac_U → Int32 → Int32 → ac_U × Int32) (u0 : ac_U) (u : ac_U) (x1 : Int32) (x2 : Int32) : ac_U × Int32 := (vl (x2 + Int32.ofInt (1)) (fun (v1 : Int32) => (B9 u x1 v1)))
def K_X12_roots_85_97 (B9 : ac_U → Int32 → Int32 → ac_U × Int32) (u0 : ac_U) (u : ac_U) (x2 : Int32) : ac_U × Int32 := (K_X12_roots_85_99 B9 u0 u x2 x2)
def K_X12_roots_85_59 (B9 : ac_U → Int32 → Int32 → ac_U × Int32) (B27 : ac_U → Int32 → Int32 → Int32 → Int32 → ac_U × Int32) (u0 : ac_U) (u : ac_U) (x1 : Int32) (x2 : Int32) (x4 : Int32) (z0 : Int32) (z1 : Int32) : ac_U × Int32 := (vl (z0 ||| z1) (fun (v4 : Int32) => (vl (x4 + Int32.ofInt (1)) (fun (v5 : Int32) => (B27 u x1 x2 v4 v5)))))
def K_X12_roots_85_27_b (B9 : ac_U → Int32 → Int32 → ac_U × Int32) (B27 : ac_U → Int32 → Int32 → Int32 → Int32 → ac_U × Int32) (u0 : ac_U) (u : ac_U) (x1 : Int32) (x2 : Int32) (x3 : Int32) (x4 : Int32) : ac_U × Int32 := (if (u.1 87 6).toInt ≤ x4.toInt then (vl ((1 : Int32) <<< ((u.1 87 6) &&& 31)) (fun (v9 : Int32) => (vl (v9 - (1 : Int32)) (fun (v10 : Int32) => (if x3.toInt ≠ v10.toInt then (K_X12_roots_85_99 B9 u0 u x1 x2) else (if x1.toInt < 0 then (K_X12_roots_85_97 B9 u0 u x2) else (vl (f_X12_bits u x2) (fun (r15 : Int32) => (vl (f_X12_bits u x1) (fun (r16 : Int32) => (if r16.toInt ≤ r15.toInt then (K_X12_roots_85_99 B9 u0 u x1 x2) else (K_X12_roots_85_97 B9 u0 u x2)))))))))))) else (vl (f_X12_bitOf u x2 x4) (fun (r20 : Int32) => (if r20.toInt = 0 then (K_X12_roots_85_59 B9 B27 u0 u x1 x2 x4 x3 (0 : Int32)) else (vl (f_X12_chainOf_85 u x4) (fun (r23 : Int32) => (K_X12_roots_85_59 B9 B27 u0 u x1 x2 x4 x3 r23)))))))
def K_X12_roots_85_27 (B9 : ac_U → Int32 → Int32 → ac_U × Int32) (u0 : ac_U) : Nat → ac_U → Int32 → Int32 → Int32 → Int32 → ac_U × Int32
  | 0 => fun u x1 x2 x3 x4 => (u, 0)
  | n + 1 => fun u x1 x2 x3 x4 => K_X12_roots_85_27_b B9 (K_X12_roots_85_27 B9 u0 n) u0 u x1 x2 x3 x4
def K_X12_roots_85_9_b (B9 : ac_U → Int32 → Int32 → ac_U × Int32) (u0 : ac_U) (u : ac_U) (x1 : Int32) (x2 : Int32) : ac_U × Int32 := (vl ((1 : Int32) <<< ((u.1 87 6) &&& 31)) (fun (v26 : Int32) => (if v26.toInt ≤ x2.toInt then (u, x1) else (K_X12_roots_85_27 B9 u0 10 u x1 x2 (0 : Int32) (0 : Int32)))))
def K_X12_roots_85_9 (u0 : ac_U) : Nat → ac_U → Int32 → Int32 → ac_U × Int32
  | 0 => fun u x1 x2 => (u, 0)
  | n + 1 => fun u x1 x2 => K_X12_roots_85_9_b (K_X12_roots_85_9 u0 n) u0 u x1 x2
def f_X12_roots_85 (u0 : ac_U) : ac_U × Int32 := (K_X12_roots_85_9 u0 258 (pI u0 85 0 (0 : Int32)) (-1 : Int32) (0 : Int32))
set_option maxHeartbeats 600000 in
set_option maxRecDepth 100000 in
theorem x_X12_roots_85 (l : Launch) (dC : Nat → ClassId) (dI : Nat → Nat → Nat) (ad : Nat → Nat) (cA : Nat → ClassId) (nF : Nat) (u0 : ac_U)  (hR : ac_R rg u0) : ac_Mi l yX12_roots (.code yX12_roots cX12_roots 5 (some .int) :: TB) 3 (dC, dI) vwCl (ac_ty cA) ad cA (TT nF) [.ref (ad 85)] u0 (fun (r : Int32) (u : ac_U) => ac_R rg u ∧ ac_Fr [(85, some 0)] u0 u ∧ ((-1 : Int) ≤ r.toInt ∧ r.toInt ≤ 255) ∧ f_X12_roots_85 u0 = (u, r)) := by
  refine ac_Mi.of (cc := cX12_roots) (maxL := 5) (ret := (some .int)) (by decide) rfl (Nat.le_of_ble_eq_true rfl) ?_
  intro p e s m below meth c A ls F hml hr hlocks hA hP hD hS hl
  have F : ac_X p s m [.ref (ad 85)].toArray c cX12_roots RX12 TB (dC, dI) vwCl (ac_ty cA) := ⟨F.1, F.2.1, fun w h => F.2.2.1 w (List.mem_cons_of_mem _ h), F.2.2.2.1, F.2.2.2.2⟩
  have hl : lv_has ls 5 [(0, .ref (ad 85))] := hl
  obtain ⟨RR, hRR⟩ : ∃ q, q = f_X12_roots_85 u0 := ⟨_, rfl⟩
  have hF : ac_Fr [(85, some 0)] u0 u0 := ac_Fr.rf
  have L9 : ∀ (n9 : Nat) (x1 : Int32) (x2 : Int32) (u : ac_U) (H : Heap) (locs : List Loc) (ls : Array Slot), ac_R rg u → ac_Fr [(85, some 0)] u0 u → 256 - x2.toInt < (n9 : Int) → (-1 : Int) ≤ x1.toInt ∧ x1.toInt ≤ 255 → (0 : Int) ≤ x2.toInt ∧ x2.toInt ≤ 256 → (0 : Int) ≤ (u.1 85 0).toInt ∧ (u.1 85 0).toInt ≤ 0 → RR = (K_X12_roots_85_9 u0 n9 u x1 x2) → va_P (dC, dI) vwCl (ac_w ad cA (TT nF) u) H → va_D A (ac_w ad cA (TT nF) u) → va_S A s.heap H locs → lv_has ls 5 [(0, .ref (ad 85)), (1, .int x1), (2, .int x2)] → W p l e (ac_rm 3) s m [.ref (ad 85)].toArray below meth c H locs 0 0 (MQ below (va_Qi (fun (r : Int32) (u : ac_U) => ac_R rg u ∧ ac_Fr [(85, some 0)] u0 u ∧ ((-1 : Int) ≤ r.toInt ∧ r.toInt ≤ 255) ∧ f_X12_roots_85 u0 = (u, r)) (ac_B (dC, dI) vwCl (ac_ty cA) ad cA (TT nF) A) A) [.ref (ad 85)].toArray s 0 0 A) (F0 m 9 ls []) := by
    intro n9
    induction n9 with
    | zero => intro x1 x2 u H locs ls hR hF hn9 f0 f1 f2 hC hP hD hS hl; exfalso; omega
    | succ n9 ih9 =>
      intro x1 x2 u H locs ls hR hF hn9 f0 f1 f2 hC hP hD hS hl
      have hC : RR = K_X12_roots_85_9_b (K_X12_roots_85_9 u0 n9) u0 u x1 x2 := hC
      have L99 : ∀ (x1 : Int32) (x2 : Int32) (u : ac_U) (H : Heap) (locs : List Loc) (ls : Array Slot), ac_R rg u → ac_Fr [(85, some 0)] u0 u → (-1 : Int) ≤ x1.toInt ∧ x1.toInt ≤ 255 → (0 : Int) ≤ x2.toInt ∧ x2.toInt ≤ 255 → (0 : Int) ≤ (u.1 85 0).toInt ∧ (u.1 85 0).toInt ≤ 0 → 256 - x2.toInt + 0 < ((n9 : Nat) : Int) + 1 → RR = (K_X12_roots_85_99 (K_X12_roots_85_9 u0 n9) u0 u x1 x2) → va_P (dC, dI) vwCl (ac_w ad cA (TT nF) u) H → va_D A (ac_w ad cA (TT nF) u) → va_S A s.heap H locs → lv_has ls 5 [(0, .ref (ad 85)), (1, .int x1), (2, .int x2)] → W p l e (ac_rm 3) s m [.ref (ad 85)].toArray below meth c H locs 0 0 (MQ below (va_Qi (fun (r : Int32) (u : ac_U) => ac_R rg u ∧ ac_Fr [(85, some 0)] u0 u ∧ ((-1 : Int) ≤ r.toInt ∧ r.toInt ≤ 255) ∧ f_X12_roots_85 u0 = (u, r)) (ac_B (dC, dI) vwCl (ac_ty cA) ad cA (TT nF) A) A) [.ref (ad 85)].toArray s 0 0 A) (F0 m 99 ls []) := by
        intro x1 x2 u H locs ls hR hF f0 f1 f2 f3 hC hP hD hS hl
        unfold K_X12_roots_85_99 at hC
        refine a_iincX F (k := 2) (fun v1 => [(2, .int v1), (0, .ref (ad 85)), (1, .int x1)]) dX12_roots_99 hl rfl rfl (by decide) (by omega) (by decide) (fun _ => rfl) (fun v1 ls hv1 yv1 hl => ?_)
        have hC := vl_eq hC yv1
        refine lv_goto (tgt := 9) F.1 F.2.1 dX12_roots_102 (by decide) ?_
        have g2 : (0 : Int) ≤ (u.1 85 0).toInt ∧ (u.1 85 0).toInt ≤ 1 := hR 85 0
        exact ih9 x1 v1 _ _ _ _ hR hF (by omega) (by omega) (by omega) (by omega : (0 : Int) ≤ (u.1 85 0).toInt ∧ (u.1 85 0).toInt ≤ 0) hC hP hD hS (lv_sub hl [1, 2, 0] rfl)
      have L97 : ∀ (x2 : Int32) (u : ac_U) (H : Heap) (locs : List Loc) (ls : Array Slot), ac_R rg u → ac_Fr [(85, some 0)] u0 u → (0 : Int) ≤ x2.toInt ∧ x2.toInt ≤ 255 → (0 : Int) ≤ (u.1 85 0).toInt ∧ (u.1 85 0).toInt ≤ 0 → 256 - x2.toInt + 0 < ((n9 : Nat) : Int) + 1 → RR = (K_X12_roots_85_97 (K_X12_roots_85_9 u0 n9) u0 u x2) → va_P (dC, dI) vwCl (ac_w ad cA (TT nF) u) H → va_D A (ac_w ad cA (TT nF) u) → va_S A s.heap H locs → lv_has ls 5 [(0, .ref (ad 85)), (2, .int x2)] → W p l e (ac_rm 3) s m [.ref (ad 85)].toArray below meth c H locs 0 0 (MQ below (va_Qi (fun (r : Int32) (u : ac_U) => ac_R rg u ∧ ac_Fr [(85, some 0)] u0 u ∧ ((-1 : Int) ≤ r.toInt ∧ r.toInt ≤ 255) ∧ f_X12_roots_85 u0 = (u, r)) (ac_B (dC, dI) vwCl (ac_ty cA) ad cA (TT nF) A) A) [.ref (ad 85)].toArray s 0 0 A) (F0 m 97 ls []) := by
        intro x2 u H locs ls hR hF f0 f1 f2 hC hP hD hS hl
        unfold K_X12_roots_85_97 at hC
        refine lv_iload_n F.1 F.2.1 dX12_roots_97 rfl (lv_at hl 1 rfl) ?_
        refine lv_istore_n (lv' := [(1, .int x2), (0, .ref (ad 85)), (2, .int x2)]) F.1 F.2.1 dX12_roots_98 rfl hl (by decide) rfl (fun ls hl => ?_)
        have g3 : (0 : Int) ≤ (u.1 85 0).toInt ∧ (u.1 85 0).toInt ≤ 1 := hR 85 0
        exact L99 x2 x2 _ _ _ _ hR hF (by omega) (by omega) (by omega : (0 : Int) ≤ (u.1 85 0).toInt ∧ (u.1 85 0).toInt ≤ 0) (by omega) hC hP hD hS (lv_sub hl [1, 0, 2] rfl)
      have L27 : ∀ (n27 : Nat) (x1 : Int32) (x2 : Int32) (x3 : Int32) (x4 : Int32) (u : ac_U) (H : Heap) (locs : List Loc) (ls : Array Slot), ac_R rg u → ac_Fr [(85, some 0)] u0 u → 8 - x4.toInt < (n27 : Int) → (-1 : Int) ≤ x1.toInt ∧ x1.toInt ≤ 255 → (0 : Int) ≤ x2.toInt ∧ x2.toInt ≤ 255 → (0 : Int) ≤ x4.toInt ∧ x4.toInt ≤ 8 → (0 : Int) ≤ (u.1 85 0).toInt ∧ (u.1 85 0).toInt ≤ 0 → 256 - x2.toInt + 0 < ((n9 : Nat) : Int) + 1 → RR = (K_X12_roots_85_27 (K_X12_roots_85_9 u0 n9) u0 n27 u x1 x2 x3 x4) → va_P (dC, dI) vwCl (ac_w ad cA (TT nF) u) H → va_D A (ac_w ad cA (TT nF) u) → va_S A s.heap H locs → lv_has ls 5 [(0, .ref (ad 85)), (1, .int x1), (2, .int x2), (3, .int x3), (4, .int x4)] → W p l e (ac_rm 3) s m [.ref (ad 85)].toArray below meth c H locs 0 0 (MQ below (va_Qi (fun (r : Int32) (u : ac_U) => ac_R rg u ∧ ac_Fr [(85, some 0)] u0 u ∧ ((-1 : Int) ≤ r.toInt ∧ r.toInt ≤ 255) ∧ f_X12_roots_85 u0 = (u, r)) (ac_B (dC, dI) vwCl (ac_ty cA) ad cA (TT nF) A) A) [.ref (ad 85)].toArray s 0 0 A) (F0 m 27 ls []) := by
        intro n27
        induction n27 with
        | zero => intro x1 x2 x3 x4 u H locs ls hR hF hn27 f0 f1 f2 f3 f4 hC hP hD hS hl; exfalso; omega
        | succ n27 ih27 =>
          intro x1 x2 x3 x4 u H locs ls hR hF hn27 f0 f1 f2 f3 f4 hC hP hD hS hl
          have hC : RR = K_X12_roots_85_27_b (K_X12_roots_85_9 u0 n9) (K_X12_roots_85_27 (K_X12_roots_85_9 u0 n9) u0 n27) u0 u x1 x2 x3 x4 := hC
          have L59 : ∀ (x1 : Int32) (x2 : Int32) (x4 : Int32) (z0 : Int32) (z1 : Int32) (u : ac_U) (H : Heap) (locs : List Loc) (ls : Array Slot), ac_R rg u → ac_Fr [(85, some 0)] u0 u → (-1 : Int) ≤ x1.toInt ∧ x1.toInt ≤ 255 → (0 : Int) ≤ x2.toInt ∧ x2.toInt ≤ 255 → (0 : Int) ≤ x4.toInt ∧ x4.toInt ≤ 7 → (0 : Int) ≤ (u.1 85 0).toInt ∧ (u.1 85 0).toInt ≤ 0 → (1 : Int) ≤ (u.1 87 6).toInt ∧ (u.1 87 6).toInt ≤ 8 → 256 - x2.toInt + 0 < ((n9 : Nat) : Int) + 1 → 8 - x4.toInt + 0 < ((n27 : Nat) : Int) + 1 → RR = (K_X12_roots_85_59 (K_X12_roots_85_9 u0 n9) (K_X12_roots_85_27 (K_X12_roots_85_9 u0 n9) u0 n27) u0 u x1 x2 x4 z0 z1) → va_P (dC, dI) vwCl (ac_w ad cA (TT nF) u) H → va_D A (ac_w ad cA (TT nF) u) → va_S A s.heap H locs → lv_has ls 5 [(0, .ref (ad 85)), (1, .int x1), (2, .int x2), (4, .int x4)] → W p l e (ac_rm 3) s m [.ref (ad 85)].toArray below meth c H locs 0 0 (MQ below (va_Qi (fun (r : Int32) (u : ac_U) => ac_R rg u ∧ ac_Fr [(85, some 0)] u0 u ∧ ((-1 : Int) ≤ r.toInt ∧ r.toInt ≤ 255) ∧ f_X12_roots_85 u0 = (u, r)) (ac_B (dC, dI) vwCl (ac_ty cA) ad cA (TT nF) A) A) [.ref (ad 85)].toArray s 0 0 A) (F0 m 59 ls [.int z1, .int z0]) := by
            intro x1 x2 x4 z0 z1 u H locs ls hR hF f0 f1 f2 f3 f4 f5 f6 hC hP hD hS hl
            unfold K_X12_roots_85_59 at hC
            refine a_iorUX F dX12_roots_59 (fun v4 yv4 => ?_)
            have hC := vl_eq hC yv4
            refine lv_istore_n (lv' := [(3, .int v4), (0, .ref (ad 85)), (1, .int x1), (2, .int x2), (4, .int x4)]) F.1 F.2.1 dX12_roots_60 rfl hl (by decide) rfl (fun ls hl => ?_)
            refine a_iincX F (k := 4) (fun v5 => [(4, .int v5), (3, .int v4), (0, .ref (ad 85)), (1, .int x1), (2, .int x2)]) dX12_roots_61 hl rfl rfl (by decide) (by omega) (by decide) (fun _ => rfl) (fun v5 ls hv5 yv5 hl => ?_)
            have hC := vl_eq hC yv5
            refine lv_goto (tgt := 27) F.1 F.2.1 dX12_roots_64 (by decide) ?_
            have g6 : (0 : Int) ≤ (u.1 85 0).toInt ∧ (u.1 85 0).toInt ≤ 1 := hR 85 0
            exact ih27 x1 x2 v4 v5 _ _ _ _ hR hF (by omega) (by omega) (by omega) (by omega) (by omega : (0 : Int) ≤ (u.1 85 0).toInt ∧ (u.1 85 0).toInt ≤ 0) (by omega) hC hP hD hS (lv_sub hl [2, 3, 4, 1, 0] rfl)
          unfold K_X12_roots_85_27_b at hC
          refine lv_iload F.1 F.2.1 dX12_roots_27 (lv_at hl 4 rfl) ?_
          refine lv_aload_n F.1 F.2.1 dX12_roots_29 rfl (lv_at hl 0 rfl) ?_
          refine a_getr F inX12 hP 85 6 tc_85 rfl rfl (by decide) q1477 (fun _ h9 => h9) dX12_roots_30 ?_
          refine a_bp F (6 : Int32) dX12_roots_33 (by decide) ?_
          have g7 : (0 : Int) ≤ (u.1 87 6).toInt ∧ (u.1 87 6).toInt ≤ 8 := hR 87 6
          refine a_ialdK F hP 87 6 tc_87 rfl rfl (i_in ic_6 (by omega)) (v := (u.1 87 6)) rfl dX12_roots_35 ?_
          refine b_ge F 67 dX12_roots_36 (by decide) rfl rfl (fun c8 => ?_) (fun c8 => ?_)
          · have hC := hC.trans (if_pos c8)
            refine lv_iload_n F.1 F.2.1 dX12_roots_67 rfl (lv_at hl 3 rfl) ?_
            refine a_ic F (1 : Int32) dX12_roots_68 (by decide) ?_
            refine lv_aload_n F.1 F.2.1 dX12_roots_69 rfl (lv_at hl 0 rfl) ?_
            refine a_getr F inX12 hP 85 6 tc_85 rfl rfl (by decide) q1477 (fun _ h9 => h9) dX12_roots_70 ?_
            refine a_bp F (6 : Int32) dX12_roots_73 (by decide) ?_
            refine a_ialdK F hP 87 6 tc_87 rfl rfl (i_in ic_6 (by omega)) (v := (u.1 87 6)) (rfl) dX12_roots_75 ?_
            refine a_ishl1X F dX12_roots_76 rfl (lo := 0) (hi := 8) (by omega) (by decide) (fun v9 hv9 yv9 => ?_)
            have hv9 : (1 : Int) ≤ v9.toInt ∧ v9.toInt ≤ 256 := hv9
            have hC := vl_eq hC yv9
            refine a_ic F (1 : Int32) dX12_roots_77 (by decide) ?_
            refine a_isubX F dX12_roots_78 rfl ic_1 (by omega) (fun v10 hv10 yv10 => ?_)
            have hC := vl_eq hC yv10
            refine b_ne F 99 dX12_roots_79 (by decide) rfl rfl (fun c11 => ?_) (fun c11 => ?_)
            · have hC := hC.trans (if_pos c11)
              have g12 : (0 : Int) ≤ (u.1 85 0).toInt ∧ (u.1 85 0).toInt ≤ 1 := hR 85 0
              exact L99 x1 x2 _ _ _ _ hR hF (by omega) (by omega) (by omega : (0 : Int) ≤ (u.1 85 0).toInt ∧ (u.1 85 0).toInt ≤ 0) (by omega) hC hP hD hS (lv_sub hl [0, 1, 2] rfl)
            · have hC := hC.trans (if_neg (by omega))
              refine lv_iload_n F.1 F.2.1 dX12_roots_82 rfl (lv_at hl 1 rfl) ?_
              refine z_lt F 97 dX12_roots_83 (by decide) rfl (fun c13 => ?_) (fun c13 => ?_)
              · have hC := hC.trans (if_pos c13)
                have g14 : (0 : Int) ≤ (u.1 85 0).toInt ∧ (u.1 85 0).toInt ≤ 1 := hR 85 0
                exact L97 x2 _ _ _ _ hR hF (by omega) (by omega : (0 : Int) ≤ (u.1 85 0).toInt ∧ (u.1 85 0).toInt ≤ 0) (by omega) hC hP hD hS (lv_sub hl [0, 2] rfl)
              · have hC := hC.trans (if_neg (by omega))
                refine lv_iload_n F.1 F.2.1 dX12_roots_86 rfl (lv_at hl 2 rfl) ?_
                refine a_Si F hml hl.1 hA hP hD hS (As := [.int x2]) (x_X12_bits l dC dI ad cA nF _ x2 hR (by omega)) (cs_RX12_348 (d := 1) F.2.2.1 (by decide)) rfl rfl (Nat.le_of_ble_eq_true rfl) dX12_roots_87 ⟨Nat.le_refl 0, Nat.le_refl 0⟩ (fun r15 uN15 H locs hq hP hD hS => ?_)
                obtain ⟨hu15, hz15⟩ := hq
                rw [hu15] at hP hD
                have hC := vl_eq hC hz15.symm
                refine lv_iload_n F.1 F.2.1 dX12_roots_90 rfl (lv_at hl 1 rfl) ?_
                refine a_Si F hml hl.1 hA hP hD hS (As := [.int x1]) (x_X12_bits l dC dI ad cA nF _ x1 hR (by omega)) (cs_RX12_348 (d := 1) F.2.2.1 (by decide)) rfl rfl (Nat.le_of_ble_eq_true rfl) dX12_roots_91 ⟨Nat.le_refl 0, Nat.le_refl 0⟩ (fun r16 uN16 H locs hq hP hD hS => ?_)
                obtain ⟨hu16, hz16⟩ := hq
                rw [hu16] at hP hD
                have hC := vl_eq hC hz16.symm
                refine b_ge F 99 dX12_roots_94 (by decide) rfl rfl (fun c17 => ?_) (fun c17 => ?_)
                · have hC := hC.trans (if_pos c17)
                  have g18 : (0 : Int) ≤ (u.1 85 0).toInt ∧ (u.1 85 0).toInt ≤ 1 := hR 85 0
                  exact L99 x1 x2 _ _ _ _ hR hF (by omega) (by omega) (by omega : (0 : Int) ≤ (u.1 85 0).toInt ∧ (u.1 85 0).toInt ≤ 0) (by omega) hC hP hD hS (lv_sub hl [0, 1, 2] rfl)
                · have hC := hC.trans (if_neg (by omega))
                  have g19 : (0 : Int) ≤ (u.1 85 0).toInt ∧ (u.1 85 0).toInt ≤ 1 := hR 85 0
                  exact L97 x2 _ _ _ _ hR hF (by omega) (by omega : (0 : Int) ≤ (u.1 85 0).toInt ∧ (u.1 85 0).toInt ≤ 0) (by omega) hC hP hD hS (lv_sub hl [0, 2] rfl)
          · have hC := hC.trans (if_neg (by omega))
            refine lv_iload_n F.1 F.2.1 dX12_roots_39 rfl (lv_at hl 3 rfl) ?_
            refine lv_iload_n F.1 F.2.1 dX12_roots_40 rfl (lv_at hl 2 rfl) ?_
            refine lv_iload F.1 F.2.1 dX12_roots_41 (lv_at hl 4 rfl) ?_
            refine a_Si F hml hl.1 hA hP hD hS (As := [.int x2, .int x4]) (x_X12_bitOf l dC dI ad cA nF _ x2 x4 hR) (cs_RX12_223 (d := 1) F.2.2.1 (by decide)) rfl rfl (Nat.le_of_ble_eq_true rfl) dX12_roots_43 ⟨Nat.le_refl 0, Nat.le_refl 0⟩ (fun r20 uN20 H locs hq hP hD hS => ?_)
            obtain ⟨hu20, gr20, hz20⟩ := hq
            rw [hu20] at hP hD
            have hC := vl_eq hC hz20.symm
            refine z_eq F 58 dX12_roots_46 (by decide) rfl (fun c21 => ?_) (fun c21 => ?_)
            · have hC := hC.trans (if_pos c21)
              refine a_ic F (0 : Int32) dX12_roots_58 (by decide) ?_
              have g22 : (0 : Int) ≤ (u.1 85 0).toInt ∧ (u.1 85 0).toInt ≤ 1 := hR 85 0
              exact L59 x1 x2 x4 x3 (0 : Int32) _ _ _ _ hR hF (by omega) (by omega) (by omega) (by omega : (0 : Int) ≤ (u.1 85 0).toInt ∧ (u.1 85 0).toInt ≤ 0) (by omega : (1 : Int) ≤ (u.1 87 6).toInt ∧ (u.1 87 6).toInt ≤ 8) (by omega) (by omega) hC hP hD hS (lv_sub hl [0, 1, 2, 4] rfl)
            · have hC := hC.trans (if_neg (by omega))
              refine lv_aload_n F.1 F.2.1 dX12_roots_49 rfl (lv_at hl 0 rfl) ?_
              refine lv_iload F.1 F.2.1 dX12_roots_50 (lv_at hl 4 rfl) ?_
              refine a_Vi F hml hl.1 hA hP hD hS (As := [.int x4]) (x_X12_chainOf_85 l dC dI ad cA nF _ x4 hR) (cs_RX12_363 (d := 2) F.2.2.1 (by decide)) tc_85 rfl rfl rfl rfl (Nat.le_of_ble_eq_true rfl) dX12_roots_52 ⟨Nat.le_refl 0, Nat.le_refl 0⟩ (fun r23 uN23 H locs hq hP hD hS => ?_)
              obtain ⟨hu23, hz23⟩ := hq
              rw [hu23] at hP hD
              have hC := vl_eq hC hz23.symm
              refine lv_goto (tgt := 59) F.1 F.2.1 dX12_roots_55 (by decide) ?_
              have g24 : (0 : Int) ≤ (u.1 85 0).toInt ∧ (u.1 85 0).toInt ≤ 1 := hR 85 0
              exact L59 x1 x2 x4 x3 r23 _ _ _ _ hR hF (by omega) (by omega) (by omega) (by omega : (0 : Int) ≤ (u.1 85 0).toInt ∧ (u.1 85 0).toInt ≤ 0) (by omega : (1 : Int) ≤ (u.1 87 6).toInt ∧ (u.1 87 6).toInt ≤ 8) (by omega) (by omega) hC hP hD hS (lv_sub hl [0, 1, 2, 4] rfl)
      unfold K_X12_roots_85_9_b at hC
      refine lv_iload_n F.1 F.2.1 dX12_roots_9 rfl (lv_at hl 2 rfl) ?_
      refine a_ic F (1 : Int32) dX12_roots_10 (by decide) ?_
      refine lv_aload_n F.1 F.2.1 dX12_roots_11 rfl (lv_at hl 0 rfl) ?_
      refine a_getr F inX12 hP 85 6 tc_85 rfl rfl (by decide) q1477 (fun _ h9 => h9) dX12_roots_12 ?_
      refine a_bp F (6 : Int32) dX12_roots_15 (by decide) ?_
      have g25 : (0 : Int) ≤ (u.1 87 6).toInt ∧ (u.1 87 6).toInt ≤ 8 := hR 87 6
      refine a_ialdK F hP 87 6 tc_87 rfl rfl (i_in ic_6 (by omega)) (v := (u.1 87 6)) rfl dX12_roots_17 ?_
      refine a_ishl1X F dX12_roots_18 rfl (lo := 0) (hi := 8) (by omega) (by decide) (fun v26 hv26 yv26 => ?_)
      have hv26 : (1 : Int) ≤ v26.toInt ∧ v26.toInt ≤ 256 := hv26
      have hC := vl_eq hC yv26
      refine b_ge F 105 dX12_roots_19 (by decide) rfl rfl (fun c27 => ?_) (fun c27 => ?_)
      · have hC := hC.trans (if_pos c27)
        refine lv_iload_n F.1 F.2.1 dX12_roots_105 rfl (lv_at hl 1 rfl) ?_
        exact a_reti F hr hlocks hP hD hS dX12_roots_106 ⟨hR, hF, (by omega : (-1 : Int) ≤ x1.toInt ∧ x1.toInt ≤ 255), hRR.symm.trans hC⟩
      · have hC := hC.trans (if_neg (by omega))
        refine a_ic F (0 : Int32) dX12_roots_22 (by decide) ?_
        refine lv_istore_n (lv' := [(3, .int (0 : Int32)), (0, .ref (ad 85)), (1, .int x1), (2, .int x2)]) F.1 F.2.1 dX12_roots_23 rfl hl (by decide) rfl (fun ls hl => ?_)
        refine a_ic F (0 : Int32) dX12_roots_24 (by decide) ?_
        refine lv_istore (lv' := [(4, .int (0 : Int32)), (3, .int (0 : Int32)), (0, .ref (ad 85)), (1, .int x1), (2, .int x2)]) F.1 F.2.1 dX12_roots_25 hl (by decide) rfl (fun ls hl => ?_)
        have g28 : (0 : Int) ≤ (u.1 85 0).toInt ∧ (u.1 85 0).toInt ≤ 1 := hR 85 0
        exact L27 10 x1 x2 (0 : Int32) (0 : Int32) _ _ _ _ hR hF (by decide) (by omega) (by omega) (by decide) (by omega : (0 : Int) ≤ (u.1 85 0).toInt ∧ (u.1 85 0).toInt ≤ 0) (by omega) hC hP hD hS (lv_sub hl [2, 3, 4, 1, 0] rfl)
  have hC : RR = f_X12_roots_85 u0 := hRR
  unfold f_X12_roots_85 at hC
  refine lv_aload_n F.1 F.2.1 dX12_roots_0 rfl (lv_at hl 0 rfl) ?_
  refine a_ic F (0 : Int32) dX12_roots_1 (by decide) ?_
  refine a_puti F inX12 tyX12 tyX12_ok nmX12 hP hD hS 85 0 tc_85 rfl rfl (by decide) q1471 (fun _ h9 => h9) rfl (ty := .int) (tyX12_ok 0 (by decide)) rfl rfl dX12_roots_2 (fun H locs hP hD hS => ?_)
  have hR := hR.si (c := 85) (k := 0) (v := (0 : Int32)) (by rw [ic_0]; exact (by omega : (0 : Int) ≤ (0 : Int) ∧ (0 : Int) ≤ 1))
  have hF := hF.si (c := 85) (k := 0) (v := (0 : Int32)) rfl
  refine a_ic F (-1 : Int32) dX12_roots_5 (by decide) ?_
  refine lv_istore_n (lv' := [(1, .int (-1 : Int32)), (0, .ref (ad 85))]) F.1 F.2.1 dX12_roots_6 rfl hl (by decide) rfl (fun ls hl => ?_)
  refine a_ic F (0 : Int32) dX12_roots_7 (by decide) ?_
  refine lv_istore_n (lv' := [(2, .int (0 : Int32)), (1, .int (-1 : Int32)), (0, .ref (ad 85))]) F.1 F.2.1 dX12_roots_8 rfl hl (by decide) rfl (fun ls hl => ?_)
  exact L9 258 (-1 : Int32) (0 : Int32) _ _ _ _ hR hF (by decide) (by decide) (by decide) (by omega : (0 : Int) ≤ (0 : Int) ∧ (0 : Int) ≤ 0) hC hP hD hS (lv_sub hl [2, 1, 0] rfl)

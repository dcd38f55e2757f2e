def K_X12_house_85_171_b (B171 : ac_U → Int32 → ac_U × Int32) (u0 : ac_U) (u : ac_U) (x1 : Int32) : ac_U × Int32 := (if (4 : Int) ≤ x1.toInt then ((pI u 85 24 (0 : Int32)), (u.1 85 19)) else (vl ((107 : Int32) + x1) (fun (v2 : Int32) => (vl ((22 : Int32) + x1) (fun (v3 : Int32) => (vl (u.1 87 v3.toNatClampNeg) (fun (v4 : Int32) => (vl (x1 + Int32.ofInt (1)) (fun (v5 : Int32) => (B171 (pI u 87 v2.toNatClampNeg v4) v5))))))))))
def K_X12_house_85_171 (u0 : ac_U) : Nat → ac_U → Int32 → ac_U × Int32
  | 0 => fun u x1 => (u, 0)
  | n + 1 => fun u x1 => K_X12_house_85_171_b (K_X12_house_85_171 u0 n) u0 u x1
def K_X12_house_85_142_b (B142 : ac_U → Int32 → ac_U × Int32) (u0 : ac_U) (u : ac_U) (x1 : Int32) : ac_U × Int32 := (if (26 : Int) ≤ x1.toInt then (K_X12_house_85_171 u0 6 u (0 : Int32)) else (vl ((26 : Int32) + x1) (fun (v11 : Int32) => (vl (u.2 90 v11.toNatClampNeg) (fun (w12 : Int64) => (vl (x1 + Int32.ofInt (1)) (fun (v13 : Int32) => (B142 (pL u 90 x1.toNatClampNeg w12) v13))))))))
def K_X12_house_85_142 (u0 : ac_U) : Nat → ac_U → Int32 → ac_U × Int32
  | 0 => fun u x1 => (u, 0)
  | n + 1 => fun u x1 => K_X12_house_85_142_b (K_X12_house_85_142 u0 n) u0 u x1
def K_X12_house_85_105_b (B105 : ac_U → Int32 → ac_U × Int32) (u0 : ac_U) (u : ac_U) (x1 : Int32) : ac_U × Int32 := (if (657 : Int) ≤ x1.toInt then (K_X12_house_85_142 u0 28 u (0 : Int32)) else (if (106 : Int) ≤ x1.toInt then (vl (x1 + Int32.ofInt (1)) (fun (v20 : Int32) => (B105 (pI u 87 x1.toNatClampNeg (0 : Int32)) v20))) else (vl (u.1 88 x1.toNatClampNeg) (fun (v23 : Int32) => (vl (x1 + Int32.ofInt (1)) (fun (v24 : Int32) => (B105 (pI u 87 x1.toNatClampNeg v23) v24)))))))
def K_X12_house_85_105 (u0 : ac_U) : Nat → ac_U → Int32 → ac_U × Int32
  | 0 => fun u x1 => (u, 0)
  | n + 1 => fun u x1 => K_X12_house_85_105_b (K_X12_house_85_105 u0 n) u0 u x1
def K_X12_house_85_83 (u0 : ac_U) (u : ac_U) : ac_U × Int32 := (vl ((-1 : Int32) - (u.1 85 16)) (fun (v27 : Int32) => (u, v27)))
def K_X12_house_85_60_b (B60 : ac_U → ac_U × Int32) (u0 : ac_U) (u : ac_U) : ac_U × Int32 := (if (u.1 85 11).toInt = 0 then (K_X12_house_85_105 u0 659 u (0 : Int32)) else (bd (f_X12_line_85 u) (fun (u31 : ac_U) (r31 : Int32) => (if r31.toInt = 0 then (K_X12_house_85_83 u0 u31) else (bd (f_X12_sign_85 u31 (59 : Int32)) (fun (u42 : ac_U) (r42 : Int32) => (if r42.toInt ≠ 0 then (vl ((u42.1 85 19) + (1 : Int32)) (fun (v52 : Int32) => (B60 (pI u42 85 19 v52)))) else (K_X12_house_85_83 u0 u42))))))))
def K_X12_house_85_60 (u0 : ac_U) : Nat → ac_U → ac_U × Int32
  | 0 => fun u => (u, 0)
  | n + 1 => fun u => K_X12_house_85_60_b (K_X12_house_85_60 u0 n) u0 u
def K_X12_house_85_29_b (B29 : ac_U → Int32 → ac_U × Int32) (u0 : ac_U) (u : ac_U) (x1 : Int32) : ac_U × Int32 := (if (106 : Int) ≤ x1.toInt then (vl (f_X12_next_85 (pI u 88 0 (24 : Int32))) (fun (u54 : ac_U) => (K_X12_house_85_60 u0 56 u54))) else (vl (x1 + Int32.ofInt (1)) (fun (v70 : Int32) => (B29 (pI u 88 x1.toNatClampNeg (0 : Int32)) v70))))
def K_X12_house_85_29 (u0 : ac_U) : Nat → ac_U → Int32 → ac_U × Int32
  | 0 => fun u x1 => (u, 0)
  | n + 1 => fun u x1 => K_X12_house_85_29_b (K_X12_house_85_29 u0 n) u0 u x1
def f_X12_house_85 (u0 : ac_U) : ac_U × Int32 := (vl (f_X12_taken_85 (pI u0 85 0 (0 : Int32)) (900 : Int32)) (fun (u73 : ac_U) => (K_X12_house_85_29 u0 108 (pI (pI (pI u73 85 15 (0 : Int32)) 85 19 (0 : Int32)) 85 20 (0 : Int32)) (0 : Int32))))
set_option maxHeartbeats 600000 in
set_option maxRecDepth 100000 in
theorem x_X12_house_85 (l : Launch) (dC : Nat → ClassId) (dI : Nat → Nat → Nat) (ad : Nat → Nat) (cA : Nat → ClassId) (nF : Nat) (u0 : ac_U)  (hR : ac_R rg u0) (hK_MS : msI u0) (hK_UI : unI u0) (hK_CW : cdI u0) (hK_AP : apI u0) (hK_AU : auI u0) : ac_Mi l yX12_house (.code yX12_house cX12_house 2 (some .int) :: TB) 6 (dC, dI) vwCl (ac_ty cA) ad cA (TT nF) [.ref (ad 85)] u0 (fun (r : Int32) (u : ac_U) => ac_R rg u ∧ ac_Fr [(85, some 0), (85, some 2), (85, some 3), (85, some 4), (85, some 5), (85, some 11), (85, some 12), (85, some 13), (85, some 14), (85, some 15), (85, some 16), (85, some 18), (85, some 19), (85, some 20), (85, some 24), (87, none), (88, none)] u0 u ∧ msI u ∧ unI u ∧ cdI u ∧ apI u ∧ auI u ∧ (ln0 85) u ∧ f_X12_house_85 u0 = (u, r)) := by
  refine ac_Mi.of (cc := cX12_house) (maxL := 2) (ret := (some .int)) (by decide) rfl (Nat.le_of_ble_eq_true rfl) ?_
  intro p e s m below meth c A ls F hml hr hlocks hA hP hD hS hl
  have F : ac_X p s m [.ref (ad 85)].toArray c cX12_house RX12 TB (dC, dI) vwCl (ac_ty cA) := ⟨F.1, F.2.1, fun w h => F.2.2.1 w (List.mem_cons_of_mem _ h), F.2.2.2.1, F.2.2.2.2⟩
  have hl : lv_has ls 2 [(0, .ref (ad 85))] := hl
  obtain ⟨RR, hRR⟩ : ∃ q, q = f_X12_house_85 u0 := ⟨_, rfl⟩
  have hF : ac_Fr [(85, some 0), (85, some 2), (85, some 3), (85, some 4), (85, some 5), (85, some 11), (85, some 12), (85, some 13), (85, some 14), (85, some 15), (85, some 16), (85, some 18), (85, some 19), (85, some 20), (85, some 24), (87, none), (88, none)] u0 u0 := ac_Fr.rf
  have L171 : ∀ (n171 : Nat) (x1 : Int32) (u : ac_U) (H : Heap) (locs : List Loc) (ls : Array Slot), ac_R rg u → ac_Fr [(85, some 0), (85, some 2), (85, some 3), (85, some 4), (85, some 5), (85, some 11), (85, some 12), (85, some 13), (85, some 14), (85, some 15), (85, some 16), (85, some 18), (85, some 19), (85, some 20), (85, some 24), (87, none), (88, none)] u0 u → 4 - x1.toInt < (n171 : Int) → msI u → cdI u → apI u → asI u → (ln0 85) u → (0 : Int) ≤ x1.toInt ∧ x1.toInt ≤ 4 → (0 : Int) ≤ (u.1 85 0).toInt ∧ (u.1 85 0).toInt ≤ 0 → (0 : Int) ≤ (u.1 85 11).toInt ∧ (u.1 85 11).toInt ≤ 0 → RR = (K_X12_house_85_171 u0 n171 u x1) → va_P (dC, dI) vwCl (ac_w ad cA (TT nF) u) H → va_D A (ac_w ad cA (TT nF) u) → va_S A s.heap H locs → lv_has ls 2 [(0, .ref (ad 85)), (1, .int x1)] → W p l e (ac_rm 6) s m [.ref (ad 85)].toArray below meth c H locs 0 0 (MQ below (va_Qi (fun (r : Int32) (u : ac_U) => ac_R rg u ∧ ac_Fr [(85, some 0), (85, some 2), (85, some 3), (85, some 4), (85, some 5), (85, some 11), (85, some 12), (85, some 13), (85, some 14), (85, some 15), (85, some 16), (85, some 18), (85, some 19), (85, some 20), (85, some 24), (87, none), (88, none)] u0 u ∧ msI u ∧ unI u ∧ cdI u ∧ apI u ∧ auI u ∧ (ln0 85) u ∧ f_X12_house_85 u0 = (u, r)) (ac_B (dC, dI) vwCl (ac_ty cA) ad cA (TT nF) A) A) [.ref (ad 85)].toArray s 0 0 A) (F0 m 171 ls []) := by
    intro n171
    induction n171 with
    | zero => intro x1 u H locs ls hR hF hn171 hK_MS hK_CW hK_AP hK_AS hK_LR f0 f1 f2 hC hP hD hS hl; exfalso; omega
    | succ n171 ih171 =>
      intro x1 u H locs ls hR hF hn171 hK_MS hK_CW hK_AP hK_AS hK_LR f0 f1 f2 hC hP hD hS hl
      have hC : RR = K_X12_house_85_171_b (K_X12_house_85_171 u0 n171) u0 u x1 := hC
      unfold K_X12_house_85_171_b at hC
      refine lv_iload_n F.1 F.2.1 dX12_house_171 rfl (lv_at hl 1 rfl) ?_
      refine a_ic F (4 : Int32) dX12_house_172 (by decide) ?_
      refine b_ge F 200 dX12_house_173 (by decide) rfl ic_4 (fun c1 => ?_) (fun c1 => ?_)
      · have hC := hC.trans (if_pos c1)
        refine lv_aload_n F.1 F.2.1 dX12_house_200 rfl (lv_at hl 0 rfl) ?_
        refine a_ic F (0 : Int32) dX12_house_201 (by decide) ?_
        refine a_puti F inX12 tyX12 tyX12_ok nmX12 hP hD hS 85 24 tc_85 rfl rfl (by decide) q1495 (fun _ h9 => h9) rfl (ty := .int) (tyX12_ok 24 (by decide)) rfl rfl dX12_house_202 (fun H locs hP hD hS => ?_)
        have hR := hR.si (c := 85) (k := 24) (v := (0 : Int32)) (by rw [ic_0]; exact (by omega : (0 : Int) ≤ (0 : Int) ∧ (0 : Int) ≤ 8))
        have hF := hF.si (c := 85) (k := 24) (v := (0 : Int32)) rfl
        have hN_UI := un_0D hD (by decide)
        have hN_AU := au_0D hD (by decide)
        have hK_MS := sp_sgD sp_MS hD hK_MS (by decide)
        have hK_CW := sp_sgD sp_CW hD hK_CW (by decide)
        have hK_AP := sp_sgD sp_AP hD hK_AP (by decide)
        have hK_AS := sp_sgD sp_AS hD hK_AS (by decide)
        have hK_LR := sp_si (sp_ln0 85) hK_LR (c := 85) (k := 24) (v := (0 : Int32)) (fun j9 h9 q9 => by rw [q9] at h9; exact absurd h9 (by decide))
        have hK_UI := hN_UI
        have hK_AU := hN_AU
        refine lv_aload_n F.1 F.2.1 dX12_house_205 rfl (lv_at hl 0 rfl) ?_
        refine a_geti F inX12 hP 85 19 tc_85 rfl rfl (by decide) q1490 (fun _ h9 => h9) (v := (u.1 85 19)) rfl dX12_house_206 ?_
        exact a_reti F hr hlocks hP hD hS dX12_house_209 ⟨hR, hF, hK_MS, hK_UI, hK_CW, hK_AP, hK_AU, hK_LR, hRR.symm.trans hC⟩
      · have hC := hC.trans (if_neg (by omega))
        refine lv_aload_n F.1 F.2.1 dX12_house_176 rfl (lv_at hl 0 rfl) ?_
        refine a_getr F inX12 hP 85 6 tc_85 rfl rfl (by decide) q1477 (fun _ h9 => h9) dX12_house_177 ?_
        refine a_bp F (107 : Int32) dX12_house_180 (by decide) ?_
        refine lv_iload_n F.1 F.2.1 dX12_house_182 rfl (lv_at hl 1 rfl) ?_
        refine a_iaddX F dX12_house_183 ic_107 rfl (by omega) (fun v2 hv2 yv2 => ?_)
        have hC := vl_eq hC yv2
        refine lv_aload_n F.1 F.2.1 dX12_house_184 rfl (lv_at hl 0 rfl) ?_
        refine a_getr F inX12 hP 85 6 tc_85 rfl rfl (by decide) q1477 (fun _ h9 => h9) dX12_house_185 ?_
        refine a_bp F (22 : Int32) dX12_house_188 (by decide) ?_
        refine lv_iload_n F.1 F.2.1 dX12_house_190 rfl (lv_at hl 1 rfl) ?_
        refine a_iaddX F dX12_house_191 ic_22 rfl (by omega) (fun v3 hv3 yv3 => ?_)
        have hC := vl_eq hC yv3
        refine a_iald F hP 87 tc_87 rfl (i_in rfl (by omega)) dX12_house_192 (fun v4 ev4 => ?_)
        have hC := vl_eq hC ev4.symm
        have hv4 : (0 : Int) ≤ v4.toInt ∧ v4.toInt ≤ 7 := rg_seg_87_22_25 hR ev4 (by omega)
        refine a_iast F hP hD hS 87 tc_87 rfl (i_in rfl (by omega)) dX12_house_193 (fun H locs hP hD hS => ?_)
        have hR := hR.si (c := 87) (k := v2.toNatClampNeg) (v := v4) (rs_87_107_110 (by omega) (by omega : (0 : Int) ≤ v4.toInt ∧ v4.toInt ≤ 7))
        have hF := hF.si (c := 87) (k := v2.toNatClampNeg) (v := v4) rfl
        have hO_MS := hK_MS
        have hO_CW := hK_CW
        have hO_AP := hK_AP
        have hO_AS := hK_AS
        have hO_LR := hK_LR
        have hK_MS := sp_si sp_MS hK_MS (c := 87) (k := v2.toNatClampNeg) (v := v4) (fun j9 h9 => by have q8 := sp_mem h9; simp at q8; have q9 := i_cl (x := v2) (by omega); omega)
        have hK_CW := sp_si sp_CW hK_CW (c := 87) (k := v2.toNatClampNeg) (v := v4) (fun j9 h9 => by have q8 := sp_mem h9; simp at q8; have q9 := i_cl (x := v2) (by omega); omega)
        have hK_AP := ap_w hO_AP (i := v2) (v := v4) (by omega) (fun _ => as_get hO_AS ev4 (by omega))
        have hK_AS := sp_si sp_AS hK_AS (c := 87) (k := v2.toNatClampNeg) (v := v4) (fun j9 h9 => by have q8 := sp_mem h9; simp at q8; have q9 := i_cl (x := v2) (by omega); omega)
        have hK_LR := sp_sgD (sp_ln0 85) hD hK_LR (by decide)
        refine a_iincX F (k := 1) (fun v5 => [(1, .int v5), (0, .ref (ad 85))]) dX12_house_194 hl rfl rfl (by decide) (by omega) (by decide) (fun _ => rfl) (fun v5 ls hv5 yv5 hl => ?_)
        have hC := vl_eq hC yv5
        refine lv_goto (tgt := 171) F.1 F.2.1 dX12_house_197 (by decide) ?_
        have g6 : (0 : Int) ≤ (u.1 85 0).toInt ∧ (u.1 85 0).toInt ≤ 1 := hR 85 0
        have g7 : (0 : Int) ≤ (u.1 85 11).toInt ∧ (u.1 85 11).toInt ≤ 4 := hR 85 11
        exact ih171 v5 _ _ _ _ hR hF (by omega) hK_MS hK_CW hK_AP hK_AS hK_LR (by omega) (by omega : (0 : Int) ≤ (u.1 85 0).toInt ∧ (u.1 85 0).toInt ≤ 0) (by omega : (0 : Int) ≤ (u.1 85 11).toInt ∧ (u.1 85 11).toInt ≤ 0) hC hP hD hS (lv_sub hl [1, 0] rfl)
  have L142 : ∀ (n142 : Nat) (x1 : Int32) (u : ac_U) (H : Heap) (locs : List Loc) (ls : Array Slot), ac_R rg u → ac_Fr [(85, some 0), (85, some 2), (85, some 3), (85, some 4), (85, some 5), (85, some 11), (85, some 12), (85, some 13), (85, some 14), (85, some 15), (85, some 16), (85, some 18), (85, some 19), (85, some 20), (85, some 24), (87, none), (88, none)] u0 u → 26 - x1.toInt < (n142 : Int) → msI u → cdI u → apI u → asI u → (ln0 85) u → (0 : Int) ≤ x1.toInt ∧ x1.toInt ≤ 26 → (0 : Int) ≤ (u.1 85 0).toInt ∧ (u.1 85 0).toInt ≤ 0 → (0 : Int) ≤ (u.1 85 11).toInt ∧ (u.1 85 11).toInt ≤ 0 → RR = (K_X12_house_85_142 u0 n142 u x1) → va_P (dC, dI) vwCl (ac_w ad cA (TT nF) u) H → va_D A (ac_w ad cA (TT nF) u) → va_S A s.heap H locs → lv_has ls 2 [(0, .ref (ad 85)), (1, .int x1)] → W p l e (ac_rm 6) s m [.ref (ad 85)].toArray below meth c H locs 0 0 (MQ below (va_Qi (fun (r : Int32) (u : ac_U) => ac_R rg u ∧ ac_Fr [(85, some 0), (85, some 2), (85, some 3), (85, some 4), (85, some 5), (85, some 11), (85, some 12), (85, some 13), (85, some 14), (85, some 15), (85, some 16), (85, some 18), (85, some 19), (85, some 20), (85, some 24), (87, none), (88, none)] u0 u ∧ msI u ∧ unI u ∧ cdI u ∧ apI u ∧ auI u ∧ (ln0 85) u ∧ f_X12_house_85 u0 = (u, r)) (ac_B (dC, dI) vwCl (ac_ty cA) ad cA (TT nF) A) A) [.ref (ad 85)].toArray s 0 0 A) (F0 m 142 ls []) := by
    intro n142
    induction n142 with
    | zero => intro x1 u H locs ls hR hF hn142 hK_MS hK_CW hK_AP hK_AS hK_LR f0 f1 f2 hC hP hD hS hl; exfalso; omega
    | succ n142 ih142 =>
      intro x1 u H locs ls hR hF hn142 hK_MS hK_CW hK_AP hK_AS hK_LR f0 f1 f2 hC hP hD hS hl
      have hC : RR = K_X12_house_85_142_b (K_X12_house_85_142 u0 n142) u0 u x1 := hC
      unfold K_X12_house_85_142_b at hC
      refine lv_iload_n F.1 F.2.1 dX12_house_142 rfl (lv_at hl 1 rfl) ?_
      refine a_bp F (26 : Int32) dX12_house_143 (by decide) ?_
      refine b_ge F 169 dX12_house_145 (by decide) rfl ic_26 (fun c8 => ?_) (fun c8 => ?_)
      · have hC := hC.trans (if_pos c8)
        refine a_ic F (0 : Int32) dX12_house_169 (by decide) ?_
        refine lv_istore_n (lv' := [(1, .int (0 : Int32)), (0, .ref (ad 85))]) F.1 F.2.1 dX12_house_170 rfl hl (by decide) rfl (fun ls hl => ?_)
        have g9 : (0 : Int) ≤ (u.1 85 0).toInt ∧ (u.1 85 0).toInt ≤ 1 := hR 85 0
        have g10 : (0 : Int) ≤ (u.1 85 11).toInt ∧ (u.1 85 11).toInt ≤ 4 := hR 85 11
        exact L171 6 (0 : Int32) _ _ _ _ hR hF (by decide) hK_MS hK_CW hK_AP hK_AS hK_LR (by decide) (by omega : (0 : Int) ≤ (u.1 85 0).toInt ∧ (u.1 85 0).toInt ≤ 0) (by omega : (0 : Int) ≤ (u.1 85 11).toInt ∧ (u.1 85 11).toInt ≤ 0) hC hP hD hS (lv_sub hl [1, 0] rfl)
      · have hC := hC.trans (if_neg (by omega))
        refine lv_aload_n F.1 F.2.1 dX12_house_148 rfl (lv_at hl 0 rfl) ?_
        refine a_getr F inX12 hP 85 9 tc_85 rfl rfl (by decide) q1480 (fun _ h9 => h9) dX12_house_149 ?_
        refine lv_iload_n F.1 F.2.1 dX12_house_152 rfl (lv_at hl 1 rfl) ?_
        refine lv_aload_n F.1 F.2.1 dX12_house_153 rfl (lv_at hl 0 rfl) ?_
        refine a_getr F inX12 hP 85 9 tc_85 rfl rfl (by decide) q1480 (fun _ h9 => h9) dX12_house_154 ?_
        refine a_bp F (26 : Int32) dX12_house_157 (by decide) ?_
        refine lv_iload_n F.1 F.2.1 dX12_house_159 rfl (lv_at hl 1 rfl) ?_
        refine a_iaddX F dX12_house_160 ic_26 rfl (by omega) (fun v11 hv11 yv11 => ?_)
        have hC := vl_eq hC yv11
        refine a_lald F hP 90 tc_90 rfl (i_in rfl (by omega)) dX12_house_161 (fun w12 ew12 => ?_)
        have hC := vl_eq hC ew12.symm
        refine a_last F hP hD hS 90 tc_90 rfl (i_in rfl (by omega)) dX12_house_162 (fun H locs hP hD hS => ?_)
        have hR := ac_slR hD hR
        have hF := ac_slF hD hF
        have hK_MS := sp_sl sp_MS hD hK_MS
        have hK_CW := sp_sl sp_CW hD hK_CW
        have hK_AP := sp_sl sp_AP hD hK_AP
        have hK_AS := sp_sl sp_AS hD hK_AS
        have hK_LR := sp_sl (sp_ln0 85) hD hK_LR
        refine a_iincX F (k := 1) (fun v13 => [(1, .int v13), (0, .ref (ad 85))]) dX12_house_163 hl rfl rfl (by decide) (by omega) (by decide) (fun _ => rfl) (fun v13 ls hv13 yv13 hl => ?_)
        have hC := vl_eq hC yv13
        refine lv_goto (tgt := 142) F.1 F.2.1 dX12_house_166 (by decide) ?_
        have g14 : (0 : Int) ≤ (u.1 85 0).toInt ∧ (u.1 85 0).toInt ≤ 1 := hR 85 0
        have g15 : (0 : Int) ≤ (u.1 85 11).toInt ∧ (u.1 85 11).toInt ≤ 4 := hR 85 11
        exact ih142 v13 _ _ _ _ hR hF (by omega) hK_MS hK_CW hK_AP hK_AS hK_LR (by omega) (by omega : (0 : Int) ≤ (u.1 85 0).toInt ∧ (u.1 85 0).toInt ≤ 0) (by omega : (0 : Int) ≤ (u.1 85 11).toInt ∧ (u.1 85 11).toInt ≤ 0) hC hP hD hS (lv_sub hl [1, 0] rfl)
  have L105 : ∀ (n105 : Nat) (x1 : Int32) (u : ac_U) (H : Heap) (locs : List Loc) (ls : Array Slot), ac_R rg u → ac_Fr [(85, some 0), (85, some 2), (85, some 3), (85, some 4), (85, some 5), (85, some 11), (85, some 12), (85, some 13), (85, some 14), (85, some 15), (85, some 16), (85, some 18), (85, some 19), (85, some 20), (85, some 24), (87, none), (88, none)] u0 u → 657 - x1.toInt < (n105 : Int) → hsI u → hcI x1.toInt u → ahI u → (ln0 85) u → (0 : Int) ≤ x1.toInt ∧ x1.toInt ≤ 657 → (0 : Int) ≤ (u.1 85 0).toInt ∧ (u.1 85 0).toInt ≤ 0 → (0 : Int) ≤ (u.1 85 11).toInt ∧ (u.1 85 11).toInt ≤ 0 → RR = (K_X12_house_85_105 u0 n105 u x1) → va_P (dC, dI) vwCl (ac_w ad cA (TT nF) u) H → va_D A (ac_w ad cA (TT nF) u) → va_S A s.heap H locs → lv_has ls 2 [(0, .ref (ad 85)), (1, .int x1)] → W p l e (ac_rm 6) s m [.ref (ad 85)].toArray below meth c H locs 0 0 (MQ below (va_Qi (fun (r : Int32) (u : ac_U) => ac_R rg u ∧ ac_Fr [(85, some 0), (85, some 2), (85, some 3), (85, some 4), (85, some 5), (85, some 11), (85, some 12), (85, some 13), (85, some 14), (85, some 15), (85, some 16), (85, some 18), (85, some 19), (85, some 20), (85, some 24), (87, none), (88, none)] u0 u ∧ msI u ∧ unI u ∧ cdI u ∧ apI u ∧ auI u ∧ (ln0 85) u ∧ f_X12_house_85 u0 = (u, r)) (ac_B (dC, dI) vwCl (ac_ty cA) ad cA (TT nF) A) A) [.ref (ad 85)].toArray s 0 0 A) (F0 m 105 ls []) := by
    intro n105
    induction n105 with
    | zero => intro x1 u H locs ls hR hF hn105 hK_HI hK_CPx hK_AH hK_LR f0 f1 f2 hC hP hD hS hl; exfalso; omega
    | succ n105 ih105 =>
      intro x1 u H locs ls hR hF hn105 hK_HI hK_CPx hK_AH hK_LR f0 f1 f2 hC hP hD hS hl
      have hC : RR = K_X12_house_85_105_b (K_X12_house_85_105 u0 n105) u0 u x1 := hC
      unfold K_X12_house_85_105_b at hC
      refine lv_iload_n F.1 F.2.1 dX12_house_105 rfl (lv_at hl 1 rfl) ?_
      refine a_sp F (657 : Int32) dX12_house_106 (by decide) ?_
      refine b_ge F 140 dX12_house_109 (by decide) rfl ic_657 (fun c16 => ?_) (fun c16 => ?_)
      · have hC := hC.trans (if_pos c16)
        refine a_ic F (0 : Int32) dX12_house_140 (by decide) ?_
        refine lv_istore_n (lv' := [(1, .int (0 : Int32)), (0, .ref (ad 85))]) F.1 F.2.1 dX12_house_141 rfl hl (by decide) rfl (fun ls hl => ?_)
        have g17 : (0 : Int) ≤ (u.1 85 0).toInt ∧ (u.1 85 0).toInt ≤ 1 := hR 85 0
        have g18 : (0 : Int) ≤ (u.1 85 11).toInt ∧ (u.1 85 11).toInt ≤ 4 := hR 85 11
        exact L142 28 (0 : Int32) _ _ _ _ hR hF (by decide) (hc_ms hK_HI hK_CPx (by omega)) (hc_cw hK_CPx (by omega)) (hc_ap hK_CPx (by omega)) (hc_as hK_AH hK_CPx (by omega)) hK_LR (by decide) (by omega : (0 : Int) ≤ (u.1 85 0).toInt ∧ (u.1 85 0).toInt ≤ 0) (by omega : (0 : Int) ≤ (u.1 85 11).toInt ∧ (u.1 85 11).toInt ≤ 0) hC hP hD hS (lv_sub hl [1, 0] rfl)
      · have hC := hC.trans (if_neg (by omega))
        refine lv_aload_n F.1 F.2.1 dX12_house_112 rfl (lv_at hl 0 rfl) ?_
        refine a_getr F inX12 hP 85 6 tc_85 rfl rfl (by decide) q1477 (fun _ h9 => h9) dX12_house_113 ?_
        refine lv_iload_n F.1 F.2.1 dX12_house_116 rfl (lv_at hl 1 rfl) ?_
        refine lv_iload_n F.1 F.2.1 dX12_house_117 rfl (lv_at hl 1 rfl) ?_
        refine a_bp F (106 : Int32) dX12_house_118 (by decide) ?_
        refine b_ge F 132 dX12_house_120 (by decide) rfl ic_106 (fun c19 => ?_) (fun c19 => ?_)
        · have hC := hC.trans (if_pos c19)
          refine a_ic F (0 : Int32) dX12_house_132 (by decide) ?_
          refine a_iast F hP hD hS 87 tc_87 rfl (i_in rfl (by omega)) dX12_house_133 (fun H locs hP hD hS => ?_)
          have hR := hR.si (c := 87) (k := x1.toNatClampNeg) (v := (0 : Int32)) (hc_rg0 (by omega))
          have hF := hF.si (c := 87) (k := x1.toNatClampNeg) (v := (0 : Int32)) rfl
          have hO_HI := hK_HI
          have hO_CPx := hK_CPx
          have hO_AH := hK_AH
          have hO_LR := hK_LR
          have hK_HI := sp_sgD sp_HI hD hK_HI (by decide)
          have hK_CPx := hc_w0 hO_CPx (i := x1) (by omega)
          have hK_AH := sp_sgD sp_AH hD hK_AH (by decide)
          have hK_LR := sp_sgD (sp_ln0 85) hD hK_LR (by decide)
          refine a_iincX F (k := 1) (fun v20 => [(1, .int v20), (0, .ref (ad 85))]) dX12_house_134 hl rfl rfl (by decide) (by omega) (by decide) (fun _ => rfl) (fun v20 ls hv20 yv20 hl => ?_)
          have hC := vl_eq hC yv20
          refine lv_goto (tgt := 105) F.1 F.2.1 dX12_house_137 (by decide) ?_
          have g21 : (0 : Int) ≤ (u.1 85 0).toInt ∧ (u.1 85 0).toInt ≤ 1 := hR 85 0
          have g22 : (0 : Int) ≤ (u.1 85 11).toInt ∧ (u.1 85 11).toInt ≤ 4 := hR 85 11
          exact ih105 v20 _ _ _ _ hR hF (by omega) hK_HI (hc_eq hK_CPx (by omega)) hK_AH hK_LR (by omega) (by omega : (0 : Int) ≤ (u.1 85 0).toInt ∧ (u.1 85 0).toInt ≤ 0) (by omega : (0 : Int) ≤ (u.1 85 11).toInt ∧ (u.1 85 11).toInt ≤ 0) hC hP hD hS (lv_sub hl [1, 0] rfl)
        · have hC := hC.trans (if_neg (by omega))
          refine lv_aload_n F.1 F.2.1 dX12_house_123 rfl (lv_at hl 0 rfl) ?_
          refine a_getr F inX12 hP 85 7 tc_85 rfl rfl (by decide) q1478 (fun _ h9 => h9) dX12_house_124 ?_
          refine lv_iload_n F.1 F.2.1 dX12_house_127 rfl (lv_at hl 1 rfl) ?_
          refine a_iald F hP 88 tc_88 rfl (i_in rfl (by omega)) dX12_house_128 (fun v23 ev23 => ?_)
          have hC := vl_eq hC ev23.symm
          refine lv_goto (tgt := 133) F.1 F.2.1 dX12_house_129 (by decide) ?_
          refine a_iast F hP hD hS 87 tc_87 rfl (i_in rfl (by omega)) dX12_house_133 (fun H locs hP hD hS => ?_)
          have hR := hR.si (c := 87) (k := x1.toNatClampNeg) (v := v23) (hc_rg1 hR hK_HI (by omega) ev23)
          have hF := hF.si (c := 87) (k := x1.toNatClampNeg) (v := v23) rfl
          have hO_HI := hK_HI
          have hO_CPx := hK_CPx
          have hO_AH := hK_AH
          have hO_LR := hK_LR
          have hK_HI := sp_sgD sp_HI hD hK_HI (by decide)
          have hK_CPx := hc_w1 hO_CPx (i := x1) (by omega) ev23
          have hK_AH := sp_sgD sp_AH hD hK_AH (by decide)
          have hK_LR := sp_sgD (sp_ln0 85) hD hK_LR (by decide)
          refine a_iincX F (k := 1) (fun v24 => [(1, .int v24), (0, .ref (ad 85))]) dX12_house_134 hl rfl rfl (by decide) (by omega) (by decide) (fun _ => rfl) (fun v24 ls hv24 yv24 hl => ?_)
          have hC := vl_eq hC yv24
          refine lv_goto (tgt := 105) F.1 F.2.1 dX12_house_137 (by decide) ?_
          have g25 : (0 : Int) ≤ (u.1 85 0).toInt ∧ (u.1 85 0).toInt ≤ 1 := hR 85 0
          have g26 : (0 : Int) ≤ (u.1 85 11).toInt ∧ (u.1 85 11).toInt ≤ 4 := hR 85 11
          exact ih105 v24 _ _ _ _ hR hF (by omega) hK_HI (hc_eq hK_CPx (by omega)) hK_AH hK_LR (by omega) (by omega : (0 : Int) ≤ (u.1 85 0).toInt ∧ (u.1 85 0).toInt ≤ 0) (by omega : (0 : Int) ≤ (u.1 85 11).toInt ∧ (u.1 85 11).toInt ≤ 0) hC hP hD hS (lv_sub hl [1, 0] rfl)
  have L83 : ∀ (u : ac_U) (H : Heap) (locs : List Loc) (ls : Array Slot), ac_R rg u → ac_Fr [(85, some 0), (85, some 2), (85, some 3), (85, some 4), (85, some 5), (85, some 11), (85, some 12), (85, some 13), (85, some 14), (85, some 15), (85, some 16), (85, some 18), (85, some 19), (85, some 20), (85, some 24), (87, none), (88, none)] u0 u → msI u → unI u → cdI u → apI u → auI u → (ln0 85) u → (0 : Int) ≤ (u.1 85 0).toInt ∧ (u.1 85 0).toInt ≤ 0 → RR = (K_X12_house_85_83 u0 u) → va_P (dC, dI) vwCl (ac_w ad cA (TT nF) u) H → va_D A (ac_w ad cA (TT nF) u) → va_S A s.heap H locs → lv_has ls 2 [(0, .ref (ad 85))] → W p l e (ac_rm 6) s m [.ref (ad 85)].toArray below meth c H locs 0 0 (MQ below (va_Qi (fun (r : Int32) (u : ac_U) => ac_R rg u ∧ ac_Fr [(85, some 0), (85, some 2), (85, some 3), (85, some 4), (85, some 5), (85, some 11), (85, some 12), (85, some 13), (85, some 14), (85, some 15), (85, some 16), (85, some 18), (85, some 19), (85, some 20), (85, some 24), (87, none), (88, none)] u0 u ∧ msI u ∧ unI u ∧ cdI u ∧ apI u ∧ auI u ∧ (ln0 85) u ∧ f_X12_house_85 u0 = (u, r)) (ac_B (dC, dI) vwCl (ac_ty cA) ad cA (TT nF) A) A) [.ref (ad 85)].toArray s 0 0 A) (F0 m 83 ls []) := by
    intro u H locs ls hR hF hK_MS hK_UI hK_CW hK_AP hK_AU hK_LR f0 hC hP hD hS hl
    unfold K_X12_house_85_83 at hC
    refine a_ic F (-1 : Int32) dX12_house_83 (by decide) ?_
    refine lv_aload_n F.1 F.2.1 dX12_house_84 rfl (lv_at hl 0 rfl) ?_
    refine a_geti F inX12 hP 85 16 tc_85 rfl rfl (by decide) q1487 (fun _ h9 => h9) (v := (u.1 85 16)) rfl dX12_house_85 ?_
    refine a_isubX F dX12_house_88 ic_m1 rfl (by have q0 := i_lo (u.1 85 16); have q1 := i_hi (u.1 85 16); omega) (fun v27 hv27 yv27 => ?_)
    have hC := vl_eq hC yv27
    exact a_reti F hr hlocks hP hD hS dX12_house_89 ⟨hR, hF, hK_MS, hK_UI, hK_CW, hK_AP, hK_AU, hK_LR, hRR.symm.trans hC⟩
  have L60 : ∀ (n60 : Nat) (u : ac_U) (H : Heap) (locs : List Loc) (ls : Array Slot), ac_R rg u → ac_Fr [(85, some 0), (85, some 2), (85, some 3), (85, some 4), (85, some 5), (85, some 11), (85, some 12), (85, some 13), (85, some 14), (85, some 15), (85, some 16), (85, some 18), (85, some 19), (85, some 20), (85, some 24), (87, none), (88, none)] u0 u → 54 - ((u.1 88 1).toInt + (u.1 88 2).toInt + (u.1 88 3).toInt + (u.1 88 4).toInt + (u.1 88 5).toInt + (u.1 88 6).toInt + (u.1 88 7).toInt + (u.1 85 20).toInt) < (n60 : Int) → msI u → unI u → cdI u → hsI u → apI u → auI u → ahI u → (ln0 85) u → (0 : Int) ≤ (u.1 85 0).toInt ∧ (u.1 85 0).toInt ≤ 0 → RR = (K_X12_house_85_60 u0 n60 u) → va_P (dC, dI) vwCl (ac_w ad cA (TT nF) u) H → va_D A (ac_w ad cA (TT nF) u) → va_S A s.heap H locs → lv_has ls 2 [(0, .ref (ad 85))] → W p l e (ac_rm 6) s m [.ref (ad 85)].toArray below meth c H locs 0 0 (MQ below (va_Qi (fun (r : Int32) (u : ac_U) => ac_R rg u ∧ ac_Fr [(85, some 0), (85, some 2), (85, some 3), (85, some 4), (85, some 5), (85, some 11), (85, some 12), (85, some 13), (85, some 14), (85, some 15), (85, some 16), (85, some 18), (85, some 19), (85, some 20), (85, some 24), (87, none), (88, none)] u0 u ∧ msI u ∧ unI u ∧ cdI u ∧ apI u ∧ auI u ∧ (ln0 85) u ∧ f_X12_house_85 u0 = (u, r)) (ac_B (dC, dI) vwCl (ac_ty cA) ad cA (TT nF) A) A) [.ref (ad 85)].toArray s 0 0 A) (F0 m 60 ls []) := by
    intro n60
    induction n60 with
    | zero => intro u H locs ls hR hF hn60 hK_MS hK_UI hK_CW hK_HI hK_AP hK_AU hK_AH hK_LR f0 hC hP hD hS hl; have gz0 : (0 : Int) ≤ (u.1 88 1).toInt ∧ (u.1 88 1).toInt ≤ 8 := hR 88 1; have gz1 : (0 : Int) ≤ (u.1 88 2).toInt ∧ (u.1 88 2).toInt ≤ 12 := hR 88 2; have gz2 : (0 : Int) ≤ (u.1 88 3).toInt ∧ (u.1 88 3).toInt ≤ 6 := hR 88 3; have gz3 : (0 : Int) ≤ (u.1 88 4).toInt ∧ (u.1 88 4).toInt ≤ 4 := hR 88 4; have gz4 : (0 : Int) ≤ (u.1 88 5).toInt ∧ (u.1 88 5).toInt ≤ 6 := hR 88 5; have gz5 : (0 : Int) ≤ (u.1 88 6).toInt ∧ (u.1 88 6).toInt ≤ 8 := hR 88 6; have gz6 : (0 : Int) ≤ (u.1 88 7).toInt ∧ (u.1 88 7).toInt ≤ 8 := hR 88 7; have gz7 : (0 : Int) ≤ (u.1 85 20).toInt ∧ (u.1 85 20).toInt ≤ 1 := hR 85 20; exfalso; omega
    | succ n60 ih60 =>
      intro u H locs ls hR hF hn60 hK_MS hK_UI hK_CW hK_HI hK_AP hK_AU hK_AH hK_LR f0 hC hP hD hS hl
      have hC : RR = K_X12_house_85_60_b (K_X12_house_85_60 u0 n60) u0 u := hC
      unfold K_X12_house_85_60_b at hC
      refine lv_aload_n F.1 F.2.1 dX12_house_60 rfl (lv_at hl 0 rfl) ?_
      have g28 : (0 : Int) ≤ (u.1 85 11).toInt ∧ (u.1 85 11).toInt ≤ 4 := hR 85 11
      refine a_geti F inX12 hP 85 11 tc_85 rfl rfl (by decide) q1482 (fun _ h9 => h9) (v := (u.1 85 11)) rfl dX12_house_61 ?_
      refine z_eq F 103 dX12_house_64 (by decide) rfl (fun c29 => ?_) (fun c29 => ?_)
      · have hC := hC.trans (if_pos c29)
        refine a_ic F (0 : Int32) dX12_house_103 (by decide) ?_
        refine lv_istore_n (lv' := [(1, .int (0 : Int32)), (0, .ref (ad 85))]) F.1 F.2.1 dX12_house_104 rfl hl (by decide) rfl (fun ls hl => ?_)
        have g30 : (0 : Int) ≤ (u.1 85 0).toInt ∧ (u.1 85 0).toInt ≤ 1 := hR 85 0
        exact L105 659 (0 : Int32) _ _ _ _ hR hF (by decide) hK_HI (hc_0 (by decide)) hK_AH hK_LR (by decide) (by omega : (0 : Int) ≤ (u.1 85 0).toInt ∧ (u.1 85 0).toInt ≤ 0) (by omega : (0 : Int) ≤ (u.1 85 11).toInt ∧ (u.1 85 11).toInt ≤ 0) hC hP hD hS (lv_sub hl [1, 0] rfl)
      · have hC := hC.trans (if_neg (by omega))
        refine lv_aload_n F.1 F.2.1 dX12_house_67 rfl (lv_at hl 0 rfl) ?_
        have g32 : (0 : Int) ≤ (u.1 88 1).toInt ∧ (u.1 88 1).toInt ≤ 8 := hR 88 1
        have g33 : (0 : Int) ≤ (u.1 88 2).toInt ∧ (u.1 88 2).toInt ≤ 12 := hR 88 2
        have g34 : (0 : Int) ≤ (u.1 88 3).toInt ∧ (u.1 88 3).toInt ≤ 6 := hR 88 3
        have g35 : (0 : Int) ≤ (u.1 88 4).toInt ∧ (u.1 88 4).toInt ≤ 4 := hR 88 4
        have g36 : (0 : Int) ≤ (u.1 88 5).toInt ∧ (u.1 88 5).toInt ≤ 6 := hR 88 5
        have g37 : (0 : Int) ≤ (u.1 88 6).toInt ∧ (u.1 88 6).toInt ≤ 8 := hR 88 6
        have g38 : (0 : Int) ≤ (u.1 88 7).toInt ∧ (u.1 88 7).toInt ≤ 8 := hR 88 7
        have g39 : (0 : Int) ≤ (u.1 85 20).toInt ∧ (u.1 85 20).toInt ≤ 1 := hR 85 20
        refine a_Vi F hml hl.1 hA hP hD hS (As := []) (x_X12_line_85 l dC dI ad cA nF _  hR hK_HI hK_AH) (cs_RX12_235 (d := 5) F.2.2.1 (by decide)) tc_85 rfl rfl rfl rfl (Nat.le_of_ble_eq_true rfl) dX12_house_68 ⟨Nat.le_refl 0, Nat.le_refl 0⟩ (fun r31 u31 H locs hq hP hD hS => ?_)
        obtain ⟨hR, hF31, gr31, hK_HI, hK_AH, hK_r31_S7p, hz31⟩ := hq
        have hF := hF.tr hF31 (by decide)
        have hK_MS := sp_fr sp_MS hF31 (by decide) hK_MS
        have hK_UI := sp_fr sp_UI hF31 (by decide) hK_UI
        have hK_CW := sp_fr sp_CW hF31 (by decide) hK_CW
        have hK_AP := sp_fr sp_AP hF31 (by decide) hK_AP
        have hK_AU := sp_fr sp_AU hF31 (by decide) hK_AU
        have hK_LR := sp_fr (sp_ln0 85) hF31 (by decide) hK_LR
        have hC := bd_eq hC hz31
        refine z_eq F 83 dX12_house_71 (by decide) rfl (fun c40 => ?_) (fun c40 => ?_)
        · have hC := hC.trans (if_pos c40)
          exact L83 _ _ _ _ hR hF hK_MS hK_UI hK_CW hK_AP hK_AU hK_LR (i_trB (hF31 85 0 rfl) (by omega : (0 : Int) ≤ (u.1 85 0).toInt ∧ (u.1 85 0).toInt ≤ 0)) hC hP hD hS (lv_sub hl [0] rfl)
        · have hC := hC.trans (if_neg (by omega))
          have hK_S7p := hK_r31_S7p (by omega)
          have hs9 : (u31.1 88 1).toInt + (u31.1 88 2).toInt + (u31.1 88 3).toInt + (u31.1 88 4).toInt + (u31.1 88 5).toInt + (u31.1 88 6).toInt + (u31.1 88 7).toInt + (u31.1 85 20).toInt = (u.1 88 1).toInt + (u.1 88 2).toInt + (u.1 88 3).toInt + (u.1 88 4).toInt + (u.1 88 5).toInt + (u.1 88 6).toInt + (u.1 88 7).toInt + (u.1 85 20).toInt + 1 := hK_S7p
          refine lv_aload_n F.1 F.2.1 dX12_house_74 rfl (lv_at hl 0 rfl) ?_
          refine a_bp F (59 : Int32) dX12_house_75 (by decide) ?_
          have g43 : (0 : Int) ≤ (u31.1 88 1).toInt ∧ (u31.1 88 1).toInt ≤ 8 := hR 88 1
          have g44 : (0 : Int) ≤ (u31.1 88 2).toInt ∧ (u31.1 88 2).toInt ≤ 12 := hR 88 2
          have g45 : (0 : Int) ≤ (u31.1 88 3).toInt ∧ (u31.1 88 3).toInt ≤ 6 := hR 88 3
          have g46 : (0 : Int) ≤ (u31.1 88 4).toInt ∧ (u31.1 88 4).toInt ≤ 4 := hR 88 4
          have g47 : (0 : Int) ≤ (u31.1 88 5).toInt ∧ (u31.1 88 5).toInt ≤ 6 := hR 88 5
          have g48 : (0 : Int) ≤ (u31.1 88 6).toInt ∧ (u31.1 88 6).toInt ≤ 8 := hR 88 6
          have g49 : (0 : Int) ≤ (u31.1 88 7).toInt ∧ (u31.1 88 7).toInt ≤ 8 := hR 88 7
          have g50 : (0 : Int) ≤ (u31.1 85 20).toInt ∧ (u31.1 85 20).toInt ≤ 1 := hR 85 20
          refine a_Vi F hml hl.1 hA hP hD hS (As := [.int (59 : Int32)]) (x_X12_sign_85 l dC dI ad cA nF _ (59 : Int32) hR (by decide)) (cs_RX12_238 (d := 3) F.2.2.1 (by decide)) tc_85 rfl rfl rfl rfl (Nat.le_of_ble_eq_true rfl) dX12_house_77 ⟨Nat.le_refl 0, Nat.le_refl 0⟩ (fun r42 u42 H locs hq hP hD hS => ?_)
          obtain ⟨hR, hF42, gr42, hz42⟩ := hq
          have hF := hF.tr hF42 (by decide)
          have hK_MS := sp_fr sp_MS hF42 (by decide) hK_MS
          have hK_UI := sp_fr sp_UI hF42 (by decide) hK_UI
          have hK_CW := sp_fr sp_CW hF42 (by decide) hK_CW
          have hK_HI := sp_fr sp_HI hF42 (by decide) hK_HI
          have hK_AP := sp_fr sp_AP hF42 (by decide) hK_AP
          have hK_AU := sp_fr sp_AU hF42 (by decide) hK_AU
          have hK_AH := sp_fr sp_AH hF42 (by decide) hK_AH
          have hK_LR := sp_fr (sp_ln0 85) hF42 (by decide) hK_LR
          have hK_r31_S7p := sp_fr (sp_imp (sp_s7p _)) hF42 (by decide) hK_r31_S7p
          have hK_S7p := sp_fr (sp_s7p _) hF42 (by decide) hK_S7p
          have hC := bd_eq hC hz42
          refine z_ne F 90 dX12_house_80 (by decide) rfl (fun c51 => ?_) (fun c51 => ?_)
          · have hC := hC.trans (if_pos c51)
            refine lv_aload_n F.1 F.2.1 dX12_house_90 rfl (lv_at hl 0 rfl) ?_
            refine lv_dup F.1 F.2.1 dX12_house_91 rfl ?_
            refine a_geti F inX12 hP 85 19 tc_85 rfl rfl (by decide) q1490 (fun _ h9 => h9) (v := (u42.1 85 19)) rfl dX12_house_92 ?_
            refine a_ic F (1 : Int32) dX12_house_95 (by decide) ?_
            refine a_iaddUX F dX12_house_96 (fun v52 yv52 => ?_)
            have hC := vl_eq hC yv52
            refine a_puti F inX12 tyX12 tyX12_ok nmX12 hP hD hS 85 19 tc_85 rfl rfl (by decide) q1490 (fun _ h9 => h9) rfl (ty := .int) (tyX12_ok 19 (by decide)) rfl rfl dX12_house_97 (fun H locs hP hD hS => ?_)
            have hR := hR.si (c := 85) (k := 19) (v := v52) ⟨i_lo _, i_hi _⟩
            have hF := hF.si (c := 85) (k := 19) (v := v52) rfl
            have hK_MS := sp_sgD sp_MS hD hK_MS (by decide)
            have hK_UI := sp_si sp_UI hK_UI (c := 85) (k := 19) (v := v52) (fun j9 h9 q9 => by rw [q9] at h9; exact absurd h9 (by decide))
            have hK_CW := sp_sgD sp_CW hD hK_CW (by decide)
            have hK_HI := sp_sgD sp_HI hD hK_HI (by decide)
            have hK_AP := sp_sgD sp_AP hD hK_AP (by decide)
            have hK_AU := sp_si sp_AU hK_AU (c := 85) (k := 19) (v := v52) (fun j9 h9 q9 => by rw [q9] at h9; exact absurd h9 (by decide))
            have hK_AH := sp_sgD sp_AH hD hK_AH (by decide)
            have hK_LR := sp_si (sp_ln0 85) hK_LR (c := 85) (k := 19) (v := v52) (fun j9 h9 q9 => by rw [q9] at h9; exact absurd h9 (by decide))
            have hK_r31_S7p := sp_si (sp_imp (sp_s7p _)) hK_r31_S7p (c := 85) (k := 19) (v := v52) (fun j9 h9 q9 => by rw [q9] at h9; exact absurd h9 (by decide))
            have hK_S7p := sp_si (sp_s7p _) hK_S7p (c := 85) (k := 19) (v := v52) (fun j9 h9 q9 => by rw [q9] at h9; exact absurd h9 (by decide))
            refine lv_goto (tgt := 60) F.1 F.2.1 dX12_house_100 (by decide) ?_
            exact ih60 _ _ _ _ hR hF (by show 54 - ((u42.1 88 1).toInt + (u42.1 88 2).toInt + (u42.1 88 3).toInt + (u42.1 88 4).toInt + (u42.1 88 5).toInt + (u42.1 88 6).toInt + (u42.1 88 7).toInt + (u42.1 85 20).toInt) < ((n60 : Nat) : Int); rw [hF42 88 1 rfl, hF42 88 2 rfl, hF42 88 3 rfl, hF42 88 4 rfl, hF42 88 5 rfl, hF42 88 6 rfl, hF42 88 7 rfl, hF42 85 20 rfl]; exact (by omega : 54 - ((u31.1 88 1).toInt + (u31.1 88 2).toInt + (u31.1 88 3).toInt + (u31.1 88 4).toInt + (u31.1 88 5).toInt + (u31.1 88 6).toInt + (u31.1 88 7).toInt + (u31.1 85 20).toInt) < ((n60 : Nat) : Int))) hK_MS hK_UI hK_CW hK_HI hK_AP hK_AU hK_AH hK_LR (i_trB ((hF42 85 0 rfl).trans (hF31 85 0 rfl)) (by omega : (0 : Int) ≤ (u.1 85 0).toInt ∧ (u.1 85 0).toInt ≤ 0)) hC hP hD hS (lv_sub hl [0] rfl)
          · have hC := hC.trans (if_neg (by omega))
            exact L83 _ _ _ _ hR hF hK_MS hK_UI hK_CW hK_AP hK_AU hK_LR (i_trB ((hF42 85 0 rfl).trans (hF31 85 0 rfl)) (by omega : (0 : Int) ≤ (u.1 85 0).toInt ∧ (u.1 85 0).toInt ≤ 0)) hC hP hD hS (lv_sub hl [0] rfl)
  have L29 : ∀ (n29 : Nat) (x1 : Int32) (u : ac_U) (H : Heap) (locs : List Loc) (ls : Array Slot), ac_R rg u → ac_Fr [(85, some 0), (85, some 2), (85, some 3), (85, some 4), (85, some 5), (85, some 11), (85, some 12), (85, some 13), (85, some 14), (85, some 15), (85, some 16), (85, some 18), (85, some 19), (85, some 20), (85, some 24), (87, none), (88, none)] u0 u → 106 - x1.toInt < (n29 : Int) → msI u → unI u → cdI u → flI 88 x1.toInt (0 : Int32) u → apI u → auI u → (ln0 85) u → (0 : Int) ≤ x1.toInt ∧ x1.toInt ≤ 106 → (0 : Int) ≤ (u.1 85 0).toInt ∧ (u.1 85 0).toInt ≤ 0 → (0 : Int) ≤ (u.1 85 15).toInt ∧ (u.1 85 15).toInt ≤ 0 → (0 : Int) ≤ (u.1 85 19).toInt ∧ (u.1 85 19).toInt ≤ 0 → (0 : Int) ≤ (u.1 85 20).toInt ∧ (u.1 85 20).toInt ≤ 0 → RR = (K_X12_house_85_29 u0 n29 u x1) → va_P (dC, dI) vwCl (ac_w ad cA (TT nF) u) H → va_D A (ac_w ad cA (TT nF) u) → va_S A s.heap H locs → lv_has ls 2 [(0, .ref (ad 85)), (1, .int x1)] → W p l e (ac_rm 6) s m [.ref (ad 85)].toArray below meth c H locs 0 0 (MQ below (va_Qi (fun (r : Int32) (u : ac_U) => ac_R rg u ∧ ac_Fr [(85, some 0), (85, some 2), (85, some 3), (85, some 4), (85, some 5), (85, some 11), (85, some 12), (85, some 13), (85, some 14), (85, some 15), (85, some 16), (85, some 18), (85, some 19), (85, some 20), (85, some 24), (87, none), (88, none)] u0 u ∧ msI u ∧ unI u ∧ cdI u ∧ apI u ∧ auI u ∧ (ln0 85) u ∧ f_X12_house_85 u0 = (u, r)) (ac_B (dC, dI) vwCl (ac_ty cA) ad cA (TT nF) A) A) [.ref (ad 85)].toArray s 0 0 A) (F0 m 29 ls []) := by
    intro n29
    induction n29 with
    | zero => intro x1 u H locs ls hR hF hn29 hK_MS hK_UI hK_CW hK_HZx hK_AP hK_AU hK_LR f0 f1 f2 f3 f4 hC hP hD hS hl; exfalso; omega
    | succ n29 ih29 =>
      intro x1 u H locs ls hR hF hn29 hK_MS hK_UI hK_CW hK_HZx hK_AP hK_AU hK_LR f0 f1 f2 f3 f4 hC hP hD hS hl
      have hC : RR = K_X12_house_85_29_b (K_X12_house_85_29 u0 n29) u0 u x1 := hC
      unfold K_X12_house_85_29_b at hC
      refine lv_iload_n F.1 F.2.1 dX12_house_29 rfl (lv_at hl 1 rfl) ?_
      refine a_bp F (106 : Int32) dX12_house_30 (by decide) ?_
      refine b_ge F 48 dX12_house_32 (by decide) rfl ic_106 (fun c53 => ?_) (fun c53 => ?_)
      · have hC := hC.trans (if_pos c53)
        refine lv_aload_n F.1 F.2.1 dX12_house_48 rfl (lv_at hl 0 rfl) ?_
        refine a_getr F inX12 hP 85 7 tc_85 rfl rfl (by decide) q1478 (fun _ h9 => h9) dX12_house_49 ?_
        refine a_ic F (0 : Int32) dX12_house_52 (by decide) ?_
        refine a_bp F (24 : Int32) dX12_house_53 (by decide) ?_
        refine a_iastK F hP hD hS 88 0 tc_88 rfl rfl (i_in ic_0 (by omega)) dX12_house_55 (fun H locs hP hD hS => ?_)
        have hR := hR.si (c := 88) (k := 0) (v := (24 : Int32)) (by rw [ic_24]; exact (by omega : (0 : Int) ≤ (24 : Int) ∧ (24 : Int) ≤ 24))
        have hF := hF.si (c := 88) (k := 0) (v := (24 : Int32)) rfl
        have hO_MS := hK_MS
        have hO_UI := hK_UI
        have hO_CW := hK_CW
        have hO_HZx := hK_HZx
        have hO_AP := hK_AP
        have hO_AU := hK_AU
        have hO_LR := hK_LR
        have hN_HI := hs_0 hO_HZx (v := (24 : Int32)) (by decide) (by omega) (by decide)
        have hN_AH := ah_0 hO_HZx (v := (24 : Int32)) (by decide) (by omega)
        have hK_MS := sp_sgD sp_MS hD hK_MS (by decide)
        have hK_UI := sp_sgD sp_UI hD hK_UI (by decide)
        have hK_CW := sp_sgD sp_CW hD hK_CW (by decide)
        have hK_AP := sp_sgD sp_AP hD hK_AP (by decide)
        have hK_AU := sp_sgD sp_AU hD hK_AU (by decide)
        have hK_LR := sp_sgD (sp_ln0 85) hD hK_LR (by decide)
        have hK_HI := hN_HI
        have hK_AH := hN_AH
        refine lv_aload_n F.1 F.2.1 dX12_house_56 rfl (lv_at hl 0 rfl) ?_
        have g55 : (0 : Int) ≤ (u.1 88 1).toInt ∧ (u.1 88 1).toInt ≤ 8 := hR 88 1
        have g56 : (0 : Int) ≤ (u.1 88 2).toInt ∧ (u.1 88 2).toInt ≤ 12 := hR 88 2
        have g57 : (0 : Int) ≤ (u.1 88 3).toInt ∧ (u.1 88 3).toInt ≤ 6 := hR 88 3
        have g58 : (0 : Int) ≤ (u.1 88 4).toInt ∧ (u.1 88 4).toInt ≤ 4 := hR 88 4
        have g59 : (0 : Int) ≤ (u.1 88 5).toInt ∧ (u.1 88 5).toInt ≤ 6 := hR 88 5
        have g60 : (0 : Int) ≤ (u.1 88 6).toInt ∧ (u.1 88 6).toInt ≤ 8 := hR 88 6
        have g61 : (0 : Int) ≤ (u.1 88 7).toInt ∧ (u.1 88 7).toInt ≤ 8 := hR 88 7
        have g62 : (0 : Int) ≤ (u.1 85 20).toInt ∧ (u.1 85 20).toInt ≤ 1 := hR 85 20
        refine a_Vv F hml hl.1 hA hP hD hS (As := []) (x_X12_next_85 l dC dI ad cA nF _  hR) (cs_RX12_184 (d := 2) F.2.2.1 (by decide)) tc_85 rfl rfl rfl rfl (Nat.le_of_ble_eq_true rfl) dX12_house_57 ⟨Nat.le_refl 0, Nat.le_refl 0⟩ (fun u54 H locs hq hP hD hS => ?_)
        obtain ⟨hR, hF54, hz54⟩ := hq
        have hF := hF.tr hF54 (by decide)
        have hK_MS := sp_fr sp_MS hF54 (by decide) hK_MS
        have hK_UI := sp_fr sp_UI hF54 (by decide) hK_UI
        have hK_CW := sp_fr sp_CW hF54 (by decide) hK_CW
        have hK_AP := sp_fr sp_AP hF54 (by decide) hK_AP
        have hK_AU := sp_fr sp_AU hF54 (by decide) hK_AU
        have hK_LR := sp_fr (sp_ln0 85) hF54 (by decide) hK_LR
        have hK_HI := sp_fr sp_HI hF54 (by decide) hK_HI
        have hK_AH := sp_fr sp_AH hF54 (by decide) hK_AH
        have hC := vl_eq hC hz54.symm
        exact L60 56 _ _ _ _ hR hF (by show 54 - ((u54.1 88 1).toInt + (u54.1 88 2).toInt + (u54.1 88 3).toInt + (u54.1 88 4).toInt + (u54.1 88 5).toInt + (u54.1 88 6).toInt + (u54.1 88 7).toInt + (u54.1 85 20).toInt) < (56 : Int); rw [hF54 88 1 rfl, hF54 88 2 rfl, hF54 88 3 rfl, hF54 88 4 rfl, hF54 88 5 rfl, hF54 88 6 rfl, hF54 88 7 rfl, hF54 85 20 rfl]; exact (by omega : 54 - ((u.1 88 1).toInt + (u.1 88 2).toInt + (u.1 88 3).toInt + (u.1 88 4).toInt + (u.1 88 5).toInt + (u.1 88 6).toInt + (u.1 88 7).toInt + (u.1 85 20).toInt) < (56 : Int))) hK_MS hK_UI hK_CW hK_HI hK_AP hK_AU hK_AH hK_LR (i_trB (hF54 85 0 rfl) (by omega : (0 : Int) ≤ (u.1 85 0).toInt ∧ (u.1 85 0).toInt ≤ 0)) hC hP hD hS (lv_sub hl [0] rfl)
      · have hC := hC.trans (if_neg (by omega))
        refine lv_aload_n F.1 F.2.1 dX12_house_35 rfl (lv_at hl 0 rfl) ?_
        refine a_getr F inX12 hP 85 7 tc_85 rfl rfl (by decide) q1478 (fun _ h9 => h9) dX12_house_36 ?_
        refine lv_iload_n F.1 F.2.1 dX12_house_39 rfl (lv_at hl 1 rfl) ?_
        refine a_ic F (0 : Int32) dX12_house_40 (by decide) ?_
        have g63 : (0 : Int) ≤ (u.1 88 1).toInt ∧ (u.1 88 1).toInt ≤ 8 := hR 88 1
        have g64 : (0 : Int) ≤ (u.1 88 2).toInt ∧ (u.1 88 2).toInt ≤ 12 := hR 88 2
        have g65 : (0 : Int) ≤ (u.1 88 3).toInt ∧ (u.1 88 3).toInt ≤ 6 := hR 88 3
        have g66 : (0 : Int) ≤ (u.1 88 4).toInt ∧ (u.1 88 4).toInt ≤ 4 := hR 88 4
        have g67 : (0 : Int) ≤ (u.1 88 5).toInt ∧ (u.1 88 5).toInt ≤ 6 := hR 88 5
        have g68 : (0 : Int) ≤ (u.1 88 6).toInt ∧ (u.1 88 6).toInt ≤ 8 := hR 88 6
        have g69 : (0 : Int) ≤ (u.1 88 7).toInt ∧ (u.1 88 7).toInt ≤ 8 := hR 88 7
        refine a_iast F hP hD hS 88 tc_88 rfl (i_in rfl (by omega)) dX12_house_41 (fun H locs hP hD hS => ?_)
        have hR := hR.si (c := 88) (k := x1.toNatClampNeg) (v := (0 : Int32)) (rs_88_0_105 (by omega) (by omega : (0 : Int) ≤ (0 : Int) ∧ (0 : Int) ≤ 3))
        have hF := hF.si (c := 88) (k := x1.toNatClampNeg) (v := (0 : Int32)) rfl
        have hK_MS := sp_sgD sp_MS hD hK_MS (by decide)
        have hK_UI := sp_sgD sp_UI hD hK_UI (by decide)
        have hK_CW := sp_sgD sp_CW hD hK_CW (by decide)
        have hK_HZx := fl_s hK_HZx (i := x1) (by omega) rfl
        have hK_AP := sp_sgD sp_AP hD hK_AP (by decide)
        have hK_AU := sp_sgD sp_AU hD hK_AU (by decide)
        have hK_LR := sp_sgD (sp_ln0 85) hD hK_LR (by decide)
        refine a_iincX F (k := 1) (fun v70 => [(1, .int v70), (0, .ref (ad 85))]) dX12_house_42 hl rfl rfl (by decide) (by omega) (by decide) (fun _ => rfl) (fun v70 ls hv70 yv70 hl => ?_)
        have hC := vl_eq hC yv70
        refine lv_goto (tgt := 29) F.1 F.2.1 dX12_house_45 (by decide) ?_
        have g71 : (0 : Int) ≤ (u.1 85 0).toInt ∧ (u.1 85 0).toInt ≤ 1 := hR 85 0
        have g72 : (0 : Int) ≤ (u.1 85 20).toInt ∧ (u.1 85 20).toInt ≤ 1 := hR 85 20
        exact ih29 v70 _ _ _ _ hR hF (by omega) hK_MS hK_UI hK_CW (fl_le hK_HZx (by omega)) hK_AP hK_AU hK_LR (by omega) (by omega : (0 : Int) ≤ (u.1 85 0).toInt ∧ (u.1 85 0).toInt ≤ 0) (by omega : (0 : Int) ≤ (u.1 85 15).toInt ∧ (u.1 85 15).toInt ≤ 0) (by omega : (0 : Int) ≤ (u.1 85 19).toInt ∧ (u.1 85 19).toInt ≤ 0) (by omega : (0 : Int) ≤ (u.1 85 20).toInt ∧ (u.1 85 20).toInt ≤ 0) hC hP hD hS (lv_sub hl [1, 0] rfl)
  have hC : RR = f_X12_house_85 u0 := hRR
  unfold f_X12_house_85 at hC
  refine lv_aload_n F.1 F.2.1 dX12_house_0 rfl (lv_at hl 0 rfl) ?_
  refine a_ic F (0 : Int32) dX12_house_1 (by decide) ?_
  refine a_puti F inX12 tyX12 tyX12_ok nmX12 hP hD hS 85 0 tc_85 rfl rfl (by decide) q1471 (fun _ h9 => h9) rfl (ty := .int) (tyX12_ok 0 (by decide)) rfl rfl dX12_house_2 (fun H locs hP hD hS => ?_)
  have hR := hR.si (c := 85) (k := 0) (v := (0 : Int32)) (by rw [ic_0]; exact (by omega : (0 : Int) ≤ (0 : Int) ∧ (0 : Int) ≤ 1))
  have hF := hF.si (c := 85) (k := 0) (v := (0 : Int32)) rfl
  have hK_MS := sp_sgD sp_MS hD hK_MS (by decide)
  have hK_UI := sp_si sp_UI hK_UI (c := 85) (k := 0) (v := (0 : Int32)) (fun j9 h9 q9 => by rw [q9] at h9; exact absurd h9 (by decide))
  have hK_CW := sp_sgD sp_CW hD hK_CW (by decide)
  have hK_AP := sp_sgD sp_AP hD hK_AP (by decide)
  have hK_AU := sp_si sp_AU hK_AU (c := 85) (k := 0) (v := (0 : Int32)) (fun j9 h9 q9 => by rw [q9] at h9; exact absurd h9 (by decide))
  refine lv_aload_n F.1 F.2.1 dX12_house_5 rfl (lv_at hl 0 rfl) ?_
  refine a_sp F (900 : Int32) dX12_house_6 (by decide) ?_
  have g74 : (0 : Int) ≤ (u0.1 88 1).toInt ∧ (u0.1 88 1).toInt ≤ 8 := hR 88 1
  have g75 : (0 : Int) ≤ (u0.1 88 2).toInt ∧ (u0.1 88 2).toInt ≤ 12 := hR 88 2
  have g76 : (0 : Int) ≤ (u0.1 88 3).toInt ∧ (u0.1 88 3).toInt ≤ 6 := hR 88 3
  have g77 : (0 : Int) ≤ (u0.1 88 4).toInt ∧ (u0.1 88 4).toInt ≤ 4 := hR 88 4
  have g78 : (0 : Int) ≤ (u0.1 88 5).toInt ∧ (u0.1 88 5).toInt ≤ 6 := hR 88 5
  have g79 : (0 : Int) ≤ (u0.1 88 6).toInt ∧ (u0.1 88 6).toInt ≤ 8 := hR 88 6
  have g80 : (0 : Int) ≤ (u0.1 88 7).toInt ∧ (u0.1 88 7).toInt ≤ 8 := hR 88 7
  have g81 : (0 : Int) ≤ (u0.1 85 20).toInt ∧ (u0.1 85 20).toInt ≤ 1 := hR 85 20
  refine a_Vv F hml hl.1 hA hP hD hS (As := [.int (900 : Int32)]) (x_X12_taken_85 l dC dI ad cA nF _ (900 : Int32) hR (by decide)) (cs_RX12_229 (d := 1) F.2.2.1 (by decide)) tc_85 rfl rfl rfl rfl (Nat.le_of_ble_eq_true rfl) dX12_house_9 ⟨Nat.le_refl 0, Nat.le_refl 0⟩ (fun u73 H locs hq hP hD hS => ?_)
  obtain ⟨hR, hF73, hK_LR, hz73⟩ := hq
  have hF := hF.tr hF73 (by decide)
  have hK_MS := sp_fr sp_MS hF73 (by decide) hK_MS
  have hK_UI := sp_fr sp_UI hF73 (by decide) hK_UI
  have hK_CW := sp_fr sp_CW hF73 (by decide) hK_CW
  have hK_AP := sp_fr sp_AP hF73 (by decide) hK_AP
  have hK_AU := sp_fr sp_AU hF73 (by decide) hK_AU
  have hC := vl_eq hC hz73.symm
  refine lv_aload_n F.1 F.2.1 dX12_house_12 rfl (lv_at hl 0 rfl) ?_
  refine a_ic F (0 : Int32) dX12_house_13 (by decide) ?_
  refine a_puti F inX12 tyX12 tyX12_ok nmX12 hP hD hS 85 15 tc_85 rfl rfl (by decide) q1486 (fun _ h9 => h9) rfl (ty := .int) (tyX12_ok 15 (by decide)) rfl rfl dX12_house_14 (fun H locs hP hD hS => ?_)
  have hR := hR.si (c := 85) (k := 15) (v := (0 : Int32)) ⟨i_lo _, i_hi _⟩
  have hF := hF.si (c := 85) (k := 15) (v := (0 : Int32)) rfl
  have hK_MS := sp_sgD sp_MS hD hK_MS (by decide)
  have hK_UI := sp_si sp_UI hK_UI (c := 85) (k := 15) (v := (0 : Int32)) (fun j9 h9 q9 => by rw [q9] at h9; exact absurd h9 (by decide))
  have hK_CW := sp_sgD sp_CW hD hK_CW (by decide)
  have hK_AP := sp_sgD sp_AP hD hK_AP (by decide)
  have hK_AU := sp_si sp_AU hK_AU (c := 85) (k := 15) (v := (0 : Int32)) (fun j9 h9 q9 => by rw [q9] at h9; exact absurd h9 (by decide))
  have hK_LR := sp_si (sp_ln0 85) hK_LR (c := 85) (k := 15) (v := (0 : Int32)) (fun j9 h9 q9 => by rw [q9] at h9; exact absurd h9 (by decide))
  refine lv_aload_n F.1 F.2.1 dX12_house_17 rfl (lv_at hl 0 rfl) ?_
  refine a_ic F (0 : Int32) dX12_house_18 (by decide) ?_
  refine a_puti F inX12 tyX12 tyX12_ok nmX12 hP hD hS 85 19 tc_85 rfl rfl (by decide) q1490 (fun _ h9 => h9) rfl (ty := .int) (tyX12_ok 19 (by decide)) rfl rfl dX12_house_19 (fun H locs hP hD hS => ?_)
  have hR := hR.si (c := 85) (k := 19) (v := (0 : Int32)) ⟨i_lo _, i_hi _⟩
  have hF := hF.si (c := 85) (k := 19) (v := (0 : Int32)) rfl
  have hK_MS := sp_sgD sp_MS hD hK_MS (by decide)
  have hK_UI := sp_si sp_UI hK_UI (c := 85) (k := 19) (v := (0 : Int32)) (fun j9 h9 q9 => by rw [q9] at h9; exact absurd h9 (by decide))
  have hK_CW := sp_sgD sp_CW hD hK_CW (by decide)
  have hK_AP := sp_sgD sp_AP hD hK_AP (by decide)
  have hK_AU := sp_si sp_AU hK_AU (c := 85) (k := 19) (v := (0 : Int32)) (fun j9 h9 q9 => by rw [q9] at h9; exact absurd h9 (by decide))
  have hK_LR := sp_si (sp_ln0 85) hK_LR (c := 85) (k := 19) (v := (0 : Int32)) (fun j9 h9 q9 => by rw [q9] at h9; exact absurd h9 (by decide))
  refine lv_aload_n F.1 F.2.1 dX12_house_22 rfl (lv_at hl 0 rfl) ?_
  refine a_ic F (0 : Int32) dX12_house_23 (by decide) ?_
  refine a_puti F inX12 tyX12 tyX12_ok nmX12 hP hD hS 85 20 tc_85 rfl rfl (by decide) q1491 (fun _ h9 => h9) rfl (ty := .boolean) (tyX12_ok 20 (by decide)) (i_zn (Or.inl rfl)) (i_zf (Or.inl rfl)) dX12_house_24 (fun H locs hP hD hS => ?_)
  have hR := hR.si (c := 85) (k := 20) (v := (0 : Int32)) (by rw [ic_0]; exact (by omega : (0 : Int) ≤ (0 : Int) ∧ (0 : Int) ≤ 1))
  have hF := hF.si (c := 85) (k := 20) (v := (0 : Int32)) rfl
  have hK_MS := sp_sgD sp_MS hD hK_MS (by decide)
  have hK_UI := sp_si sp_UI hK_UI (c := 85) (k := 20) (v := (0 : Int32)) (fun j9 h9 q9 => by rw [q9] at h9; exact absurd h9 (by decide))
  have hK_CW := sp_sgD sp_CW hD hK_CW (by decide)
  have hK_AP := sp_sgD sp_AP hD hK_AP (by decide)
  have hK_AU := sp_si sp_AU hK_AU (c := 85) (k := 20) (v := (0 : Int32)) (fun j9 h9 q9 => by rw [q9] at h9; exact absurd h9 (by decide))
  have hK_LR := sp_si (sp_ln0 85) hK_LR (c := 85) (k := 20) (v := (0 : Int32)) (fun j9 h9 q9 => by rw [q9] at h9; exact absurd h9 (by decide))
  refine a_ic F (0 : Int32) dX12_house_27 (by decide) ?_
  refine lv_istore_n (lv' := [(1, .int (0 : Int32)), (0, .ref (ad 85))]) F.1 F.2.1 dX12_house_28 rfl hl (by decide) rfl (fun ls hl => ?_)
  exact L29 108 (0 : Int32) _ _ _ _ hR hF (by decide) hK_MS hK_UI hK_CW (fl_0 (by decide)) hK_AP hK_AU hK_LR (by decide) (i_trB (hF73 85 0 rfl) (by omega : (0 : Int) ≤ (0 : Int) ∧ (0 : Int) ≤ 0)) (by omega : (0 : Int) ≤ (0 : Int) ∧ (0 : Int) ≤ 0) (by omega : (0 : Int) ≤ (0 : Int) ∧ (0 : Int) ≤ 0) (by omega : (0 : Int) ≤ (0 : Int) ∧ (0 : Int) ≤ 0) hC hP hD hS (lv_sub hl [1, 0] rfl)
def K_X12_image_85_51_b (B51 : ac_U → Int32 → ac_U × Int32) (u0 : ac_U) (p0 : Int32) (u : ac_U) (x2 : Int32) : ac_U × Int32 := (if (26 : Int) ≤ x2.toInt then ((pI u 104 p0.toNatClampNeg (1 : Int32)), (1 : Int32)) else (vl ((26 : Int32) * p0) (fun (v2 : Int32) => (vl (v2 + x2) (fun (v3 : Int32) => (vl (u.2 90 x2.toNatClampNeg) (fun (w4 : Int64) => (vl (x2 + Int32.ofInt (1)) (fun (v5 : Int32) => (B51 (pL u 103 v3.toNatClampNeg w4) v5))))))))))
def K_X12_image_85_51 (u0 : ac_U) (p0 : Int32) : Nat → ac_U → Int32 → ac_U × Int32
  | 0 => fun u x2 => (u, 0)
  | n + 1 => fun u x2 => K_X12_image_85_51_b (K_X12_image_85_51 u0 p0 n) u0 p0 u x2
def K_X12_image_85_18_b (B18 : ac_U → Int32 → ac_U × Int32) (u0 : ac_U) (p0 : Int32) (u : ac_U) (x2 : Int32) : ac_U × Int32 := (if (657 : Int) ≤ x2.toInt then (K_X12_image_85_51 u0 p0 28 u (0 : Int32)) else (vl ((657 : Int32) * p0) (fun (v9 : Int32) => (vl (v9 + x2) (fun (v10 : Int32) => (vl (u.1 87 x2.toNatClampNeg) (fun (v11 : Int32) => (vl (x2 + Int32.ofInt (1)) (fun (v12 : Int32) => (B18 (pI u 102 v10.toNatClampNeg v11) v12))))))))))
def K_X12_image_85_18 (u0 : ac_U) (p0 : Int32) : Nat → ac_U → Int32 → ac_U × Int32
  | 0 => fun u x2 => (u, 0)
  | n + 1 => fun u x2 => K_X12_image_85_18_b (K_X12_image_85_18 u0 p0 n) u0 p0 u x2
def f_X12_image_85 (u0 : ac_U) (p0 : Int32) : ac_U × Int32 := (vl (f_X12_isIn_f (pI u0 85 0 (0 : Int32)) p0 (0 : Int32) (1 : Int32)) (fun (r14 : Int32) => (if r14.toInt ≠ 0 then (K_X12_image_85_18 u0 p0 659 (pI u0 85 0 (0 : Int32)) (0 : Int32)) else ((pI u0 85 0 (0 : Int32)), (0 : Int32)))))
set_option maxHeartbeats 600000 in
set_option maxRecDepth 100000 in
theorem x_X12_image_85 (l : Launch) (dC : Nat → ClassId) (dI : Nat → Nat → Nat) (ad : Nat → Nat) (cA : Nat → ClassId) (nF : Nat) (u0 : ac_U) (p0 : Int32) (hR : ac_R rg u0) (hK_KI : kpI u0) (hK_AK : akI u0) (hK_MS : msI u0) (hK_CW : cdI u0) (hK_AP : apI u0) : ac_Mi l yX12_image (.code yX12_image cX12_image 3 (some .boolean) :: TB) 2 (dC, dI) vwCl (ac_ty cA) ad cA (TT nF) [.ref (ad 85), .int p0] u0 (fun (r : Int32) (u : ac_U) => ac_R rg u ∧ ac_Fr [(85, some 0), (102, none), (104, none)] u0 u ∧ ((0 : Int) ≤ r.toInt ∧ r.toInt ≤ 1) ∧ ((r.toInt ≠ 0 → 0 ≤ p0.toInt ∧ p0.toInt ≤ 1) ∧ (r.toInt = 0 → p0.toInt < 0 ∨ 1 < p0.toInt)) ∧ kpI u ∧ akI u ∧ (kfI u0 p0.toInt) u ∧ f_X12_image_85 u0 p0 = (u, r)) := by
  refine ac_Mi.of (cc := cX12_image) (maxL := 3) (ret := (some .boolean)) (by decide) rfl (Nat.le_of_ble_eq_true rfl) ?_
  intro p e s m below meth c A ls F hml hr hlocks hA hP hD hS hl
  have F : ac_X p s m [.ref (ad 85), .int p0].toArray c cX12_image RX12 TB (dC, dI) vwCl (ac_ty cA) := ⟨F.1, F.2.1, fun w h => F.2.2.1 w (List.mem_cons_of_mem _ h), F.2.2.2.1, F.2.2.2.2⟩
  have hl : lv_has ls 3 [(0, .ref (ad 85)), (1, .int p0)] := hl
  obtain ⟨RR, hRR⟩ : ∃ q, q = f_X12_image_85 u0 p0 := ⟨_, rfl⟩
  have hF : ac_Fr [(85, some 0), (102, none), (104, none)] u0 u0 := ac_Fr.rf
  have hK_K4 : (k4I u0) u0 := ⟨rfl, rfl⟩
  have L51 : ∀ (n51 : Nat) (x2 : Int32) (u : ac_U) (H : Heap) (locs : List Loc) (ls : Array Slot), ac_R rg u → ac_Fr [(85, some 0), (102, none), (104, none)] u0 u → 26 - x2.toInt < (n51 : Int) → koI p0.toInt u → kgI p0.toInt u → aoI p0.toInt u → agI p0.toInt u → (k4I u0) u → (0 : Int) ≤ p0.toInt ∧ p0.toInt ≤ 1 → (0 : Int) ≤ x2.toInt ∧ x2.toInt ≤ 26 → (0 : Int) ≤ (u.1 85 0).toInt ∧ (u.1 85 0).toInt ≤ 0 → RR = (K_X12_image_85_51 u0 p0 n51 u x2) → va_P (dC, dI) vwCl (ac_w ad cA (TT nF) u) H → va_D A (ac_w ad cA (TT nF) u) → va_S A s.heap H locs → lv_has ls 3 [(0, .ref (ad 85)), (1, .int p0), (2, .int x2)] → W p l e (ac_rm 2) s m [.ref (ad 85), .int p0].toArray below meth c H locs 0 0 (MQ below (va_Qi (fun (r : Int32) (u : ac_U) => ac_R rg u ∧ ac_Fr [(85, some 0), (102, none), (104, none)] u0 u ∧ ((0 : Int) ≤ r.toInt ∧ r.toInt ≤ 1) ∧ ((r.toInt ≠ 0 → 0 ≤ p0.toInt ∧ p0.toInt ≤ 1) ∧ (r.toInt = 0 → p0.toInt < 0 ∨ 1 < p0.toInt)) ∧ kpI u ∧ akI u ∧ (kfI u0 p0.toInt) u ∧ f_X12_image_85 u0 p0 = (u, r)) (ac_B (dC, dI) vwCl (ac_ty cA) ad cA (TT nF) A) A) [.ref (ad 85), .int p0].toArray s 0 0 A) (F0 m 51 ls []) := by
    intro n51
    induction n51 with
    | zero => intro x2 u H locs ls hR hF hn51 hK_KO hK_KG hK_AO hK_AG hK_K4 f0 f1 f2 hC hP hD hS hl; exfalso; omega
    | succ n51 ih51 =>
      intro x2 u H locs ls hR hF hn51 hK_KO hK_KG hK_AO hK_AG hK_K4 f0 f1 f2 hC hP hD hS hl
      have hC : RR = K_X12_image_85_51_b (K_X12_image_85_51 u0 p0 n51) u0 p0 u x2 := hC
      unfold K_X12_image_85_51_b at hC
      refine lv_iload_n F.1 F.2.1 dX12_image_51 rfl (lv_at hl 2 rfl) ?_
      refine a_bp F (26 : Int32) dX12_image_52 (by decide) ?_
      refine b_ge F 80 dX12_image_54 (by decide) rfl ic_26 (fun c1 => ?_) (fun c1 => ?_)
      · have hC := hC.trans (if_pos c1)
        refine lv_aload_n F.1 F.2.1 dX12_image_80 rfl (lv_at hl 0 rfl) ?_
        refine a_getr F inX12 hP 85 47 tc_85 rfl rfl (by decide) q1518 (fun _ h9 => h9) dX12_image_81 ?_
        refine lv_iload_n F.1 F.2.1 dX12_image_84 rfl (lv_at hl 1 rfl) ?_
        refine a_ic F (1 : Int32) dX12_image_85 (by decide) ?_
        refine a_zast F hP hD hS 104 tc_104 rfl (i_in rfl (by omega)) dX12_image_86 (fun H locs hP hD hS => ?_)
        rw [i_znar (Or.inr rfl)] at hP hD
        have hR := hR.si (c := 104) (k := p0.toNatClampNeg) (v := (1 : Int32)) (by rw [ic_1]; exact (by omega : (0 : Int) ≤ (1 : Int) ∧ (1 : Int) ≤ 1))
        have hF := hF.si (c := 104) (k := p0.toNatClampNeg) (v := (1 : Int32)) rfl
        have hO_KO := hK_KO
        have hO_KG := hK_KG
        have hO_AO := hK_AO
        have hO_AG := hK_AG
        have hO_K4 := hK_K4
        have hN_KI := ki_new (v := (1 : Int32)) hO_KO hO_KG (by omega)
        have hN_AK := ak_new (v := (1 : Int32)) hO_AO hO_AG (by omega)
        have hN_KF := kf_w hO_K4 (i := p0) (by omega) hD
        have hK_KI := hN_KI
        have hK_AK := hN_AK
        have hK_KF := hN_KF
        refine a_ic F (1 : Int32) dX12_image_87 (by decide) ?_
        exact a_retz F hr hlocks hP hD hS dX12_image_88 (Or.inr rfl) ⟨hR, hF, (by decide), (by first | exact (by omega : ((1 : Int) ≠ 0 → 0 ≤ p0.toInt ∧ p0.toInt ≤ 1) ∧ ((1 : Int) = 0 → p0.toInt < 0 ∨ 1 < p0.toInt)) | (rw [ic_1]; exact (by omega : ((1 : Int) ≠ 0 → 0 ≤ p0.toInt ∧ p0.toInt ≤ 1) ∧ ((1 : Int) = 0 → p0.toInt < 0 ∨ 1 < p0.toInt)))), hK_KI, hK_AK, hK_KF, hRR.symm.trans hC⟩
      · have hC := hC.trans (if_neg (by omega))
        refine lv_aload_n F.1 F.2.1 dX12_image_57 rfl (lv_at hl 0 rfl) ?_
        refine a_getr F inX12 hP 85 46 tc_85 rfl rfl (by decide) q1517 (fun _ h9 => h9) dX12_image_58 ?_
        refine a_bp F (26 : Int32) dX12_image_61 (by decide) ?_
        refine lv_iload_n F.1 F.2.1 dX12_image_63 rfl (lv_at hl 1 rfl) ?_
        refine a_imulX F dX12_image_64 ic_26 rfl (by omega) (fun v2 hv2 yv2 => ?_)
        have hC := vl_eq hC yv2
        refine lv_iload_n F.1 F.2.1 dX12_image_65 rfl (lv_at hl 2 rfl) ?_
        refine a_iaddX F dX12_image_66 rfl rfl (by omega) (fun v3 hv3 yv3 => ?_)
        have hC := vl_eq hC yv3
        refine lv_aload_n F.1 F.2.1 dX12_image_67 rfl (lv_at hl 0 rfl) ?_
        refine a_getr F inX12 hP 85 9 tc_85 rfl rfl (by decide) q1480 (fun _ h9 => h9) dX12_image_68 ?_
        refine lv_iload_n F.1 F.2.1 dX12_image_71 rfl (lv_at hl 2 rfl) ?_
        refine a_lald F hP 90 tc_90 rfl (i_in rfl (by omega)) dX12_image_72 (fun w4 ew4 => ?_)
        have hC := vl_eq hC ew4.symm
        refine a_last F hP hD hS 103 tc_103 rfl (i_in rfl (by omega)) dX12_image_73 (fun H locs hP hD hS => ?_)
        have hR := ac_slR hD hR
        have hF := ac_slF hD hF
        have hK_KO := sp_sl (sp_KO _) hD hK_KO
        have hK_KG := sp_sl (sp_KG _) hD hK_KG
        have hK_AO := sp_sl (sp_AO _) hD hK_AO
        have hK_AG := sp_sl (sp_AG _) hD hK_AG
        have hK_K4 := sp_sl (sp_k4 _) hD hK_K4
        refine a_iincX F (k := 2) (fun v5 => [(2, .int v5), (0, .ref (ad 85)), (1, .int p0)]) dX12_image_74 hl rfl rfl (by decide) (by omega) (by decide) (fun _ => rfl) (fun v5 ls hv5 yv5 hl => ?_)
        have hC := vl_eq hC yv5
        refine lv_goto (tgt := 51) F.1 F.2.1 dX12_image_77 (by decide) ?_
        have g6 : (0 : Int) ≤ (u.1 85 0).toInt ∧ (u.1 85 0).toInt ≤ 1 := hR 85 0
        exact ih51 v5 _ _ _ _ hR hF (by omega) hK_KO hK_KG hK_AO hK_AG hK_K4 (by omega) (by omega) (by omega : (0 : Int) ≤ (u.1 85 0).toInt ∧ (u.1 85 0).toInt ≤ 0) hC hP hD hS (lv_sub hl [1, 2, 0] rfl)
  have L18 : ∀ (n18 : Nat) (x2 : Int32) (u : ac_U) (H : Heap) (locs : List Loc) (ls : Array Slot), ac_R rg u → ac_Fr [(85, some 0), (102, none), (104, none)] u0 u → 657 - x2.toInt < (n18 : Int) → msI u → cdI u → koI p0.toInt u → icI p0.toInt x2.toInt u → apI u → aoI p0.toInt u → (k4I u0) u → (0 : Int) ≤ p0.toInt ∧ p0.toInt ≤ 1 → (0 : Int) ≤ x2.toInt ∧ x2.toInt ≤ 657 → (0 : Int) ≤ (u.1 85 0).toInt ∧ (u.1 85 0).toInt ≤ 0 → RR = (K_X12_image_85_18 u0 p0 n18 u x2) → va_P (dC, dI) vwCl (ac_w ad cA (TT nF) u) H → va_D A (ac_w ad cA (TT nF) u) → va_S A s.heap H locs → lv_has ls 3 [(0, .ref (ad 85)), (1, .int p0), (2, .int x2)] → W p l e (ac_rm 2) s m [.ref (ad 85), .int p0].toArray below meth c H locs 0 0 (MQ below (va_Qi (fun (r : Int32) (u : ac_U) => ac_R rg u ∧ ac_Fr [(85, some 0), (102, none), (104, none)] u0 u ∧ ((0 : Int) ≤ r.toInt ∧ r.toInt ≤ 1) ∧ ((r.toInt ≠ 0 → 0 ≤ p0.toInt ∧ p0.toInt ≤ 1) ∧ (r.toInt = 0 → p0.toInt < 0 ∨ 1 < p0.toInt)) ∧ kpI u ∧ akI u ∧ (kfI u0 p0.toInt) u ∧ f_X12_image_85 u0 p0 = (u, r)) (ac_B (dC, dI) vwCl (ac_ty cA) ad cA (TT nF) A) A) [.ref (ad 85), .int p0].toArray s 0 0 A) (F0 m 18 ls []) := by
    intro n18
    induction n18 with
    | zero => intro x2 u H locs ls hR hF hn18 hK_MS hK_CW hK_KO hK_ICx hK_AP hK_AO hK_K4 f0 f1 f2 hC hP hD hS hl; exfalso; omega
    | succ n18 ih18 =>
      intro x2 u H locs ls hR hF hn18 hK_MS hK_CW hK_KO hK_ICx hK_AP hK_AO hK_K4 f0 f1 f2 hC hP hD hS hl
      have hC : RR = K_X12_image_85_18_b (K_X12_image_85_18 u0 p0 n18) u0 p0 u x2 := hC
      unfold K_X12_image_85_18_b at hC
      refine lv_iload_n F.1 F.2.1 dX12_image_18 rfl (lv_at hl 2 rfl) ?_
      refine a_sp F (657 : Int32) dX12_image_19 (by decide) ?_
      refine b_ge F 49 dX12_image_22 (by decide) rfl ic_657 (fun c7 => ?_) (fun c7 => ?_)
      · have hC := hC.trans (if_pos c7)
        refine a_ic F (0 : Int32) dX12_image_49 (by decide) ?_
        refine lv_istore_n (lv' := [(2, .int (0 : Int32)), (0, .ref (ad 85)), (1, .int p0)]) F.1 F.2.1 dX12_image_50 rfl hl (by decide) rfl (fun ls hl => ?_)
        have g8 : (0 : Int) ≤ (u.1 85 0).toInt ∧ (u.1 85 0).toInt ≤ 1 := hR 85 0
        exact L51 28 (0 : Int32) _ _ _ _ hR hF (by decide) hK_KO (ic_kg hK_ICx hK_MS hK_CW hR (by omega)) hK_AO (ic_ag hK_ICx hK_AP (by omega)) hK_K4 (by omega) (by decide) (by omega : (0 : Int) ≤ (u.1 85 0).toInt ∧ (u.1 85 0).toInt ≤ 0) hC hP hD hS (lv_sub hl [1, 2, 0] rfl)
      · have hC := hC.trans (if_neg (by omega))
        refine lv_aload_n F.1 F.2.1 dX12_image_25 rfl (lv_at hl 0 rfl) ?_
        refine a_getr F inX12 hP 85 45 tc_85 rfl rfl (by decide) q1516 (fun _ h9 => h9) dX12_image_26 ?_
        refine a_sp F (657 : Int32) dX12_image_29 (by decide) ?_
        refine lv_iload_n F.1 F.2.1 dX12_image_32 rfl (lv_at hl 1 rfl) ?_
        refine a_imulX F dX12_image_33 ic_657 rfl (by omega) (fun v9 hv9 yv9 => ?_)
        have hC := vl_eq hC yv9
        refine lv_iload_n F.1 F.2.1 dX12_image_34 rfl (lv_at hl 2 rfl) ?_
        refine a_iaddX F dX12_image_35 rfl rfl (by omega) (fun v10 hv10 yv10 => ?_)
        have hC := vl_eq hC yv10
        refine lv_aload_n F.1 F.2.1 dX12_image_36 rfl (lv_at hl 0 rfl) ?_
        refine a_getr F inX12 hP 85 6 tc_85 rfl rfl (by decide) q1477 (fun _ h9 => h9) dX12_image_37 ?_
        refine lv_iload_n F.1 F.2.1 dX12_image_40 rfl (lv_at hl 2 rfl) ?_
        refine a_iald F hP 87 tc_87 rfl (i_in rfl (by omega)) dX12_image_41 (fun v11 ev11 => ?_)
        have hC := vl_eq hC ev11.symm
        refine a_iast F hP hD hS 102 tc_102 rfl (i_in rfl (by omega)) dX12_image_42 (fun H locs hP hD hS => ?_)
        have hR := hR.si (c := 102) (k := v10.toNatClampNeg) (v := v11) (cp_el hR ev11 (rg_u4 (m := p0.toInt) (by omega) (by omega) (by omega)))
        have hF := hF.si (c := 102) (k := v10.toNatClampNeg) (v := v11) rfl
        have hO_MS := hK_MS
        have hO_CW := hK_CW
        have hO_KO := hK_KO
        have hO_ICx := hK_ICx
        have hO_AP := hK_AP
        have hO_AO := hK_AO
        have hO_K4 := hK_K4
        have hK_MS := sp_sgD sp_MS hD hK_MS (by decide)
        have hK_CW := sp_sgD sp_CW hD hK_CW (by decide)
        have hK_KO := ko_w hO_KO (k := v10) (v := v11) (x := x2.toInt) (by omega) (by omega) (by omega)
        have hK_ICx := ic_w hO_ICx (by omega) (i := x2) (k := v10) (by omega) (by omega) ev11
        have hK_AP := sp_sgD sp_AP hD hK_AP (by decide)
        have hK_AO := ao_w hO_AO (k := v10) (v := v11) (x := x2.toInt) (by omega) (by omega) (by omega)
        have hK_K4 := sp_sgD (sp_k4 _) hD hK_K4 (by decide)
        refine a_iincX F (k := 2) (fun v12 => [(2, .int v12), (0, .ref (ad 85)), (1, .int p0)]) dX12_image_43 hl rfl rfl (by decide) (by omega) (by decide) (fun _ => rfl) (fun v12 ls hv12 yv12 hl => ?_)
        have hC := vl_eq hC yv12
        refine lv_goto (tgt := 18) F.1 F.2.1 dX12_image_46 (by decide) ?_
        have g13 : (0 : Int) ≤ (u.1 85 0).toInt ∧ (u.1 85 0).toInt ≤ 1 := hR 85 0
        exact ih18 v12 _ _ _ _ hR hF (by omega) hK_MS hK_CW hK_KO (ic_eq hK_ICx (by omega)) hK_AP hK_AO hK_K4 (by omega) (by omega) (by omega : (0 : Int) ≤ (u.1 85 0).toInt ∧ (u.1 85 0).toInt ≤ 0) hC hP hD hS (lv_sub hl [1, 2, 0] rfl)
  have hC : RR = f_X12_image_85 u0 p0 := hRR
  unfold f_X12_image_85 at hC
  refine lv_aload_n F.1 F.2.1 dX12_image_0 rfl (lv_at hl 0 rfl) ?_
  refine a_ic F (0 : Int32) dX12_image_1 (by decide) ?_
  refine a_puti F inX12 tyX12 tyX12_ok nmX12 hP hD hS 85 0 tc_85 rfl rfl (by decide) q1471 (fun _ h9 => h9) rfl (ty := .int) (tyX12_ok 0 (by decide)) rfl rfl dX12_image_2 (fun H locs hP hD hS => ?_)
  have hR := hR.si (c := 85) (k := 0) (v := (0 : Int32)) (by rw [ic_0]; exact (by omega : (0 : Int) ≤ (0 : Int) ∧ (0 : Int) ≤ 1))
  have hF := hF.si (c := 85) (k := 0) (v := (0 : Int32)) rfl
  have hK_KI := sp_sgD sp_KI hD hK_KI (by decide)
  have hK_AK := sp_sgD sp_AK hD hK_AK (by decide)
  have hK_MS := sp_sgD sp_MS hD hK_MS (by decide)
  have hK_CW := sp_sgD sp_CW hD hK_CW (by decide)
  have hK_AP := sp_sgD sp_AP hD hK_AP (by decide)
  have hK_K4 := sp_sgD (sp_k4 _) hD hK_K4 (by decide)
  refine lv_iload_n F.1 F.2.1 dX12_image_5 rfl (lv_at hl 1 rfl) ?_
  refine a_ic F (0 : Int32) dX12_image_6 (by decide) ?_
  refine a_ic F (1 : Int32) dX12_image_7 (by decide) ?_
  refine a_Si F hml hl.1 hA hP hD hS (As := [.int p0, .int (0 : Int32), .int (1 : Int32)]) (x_X12_isIn_f l dC dI ad cA nF _ p0 (0 : Int32) (1 : Int32) hR (by decide)) (cs_RX12_187 (d := 1) F.2.2.1 (by decide)) rfl rfl (Nat.le_of_ble_eq_true rfl) dX12_image_8 ⟨Nat.le_refl 0, Nat.le_refl 0⟩ (fun r14 uN14 H locs hq hP hD hS => ?_)
  obtain ⟨hu14, gr14, xr14, hz14⟩ := hq
  rw [hu14] at hP hD
  have xr14 : (r14.toInt ≠ 0 → (0 : Int) ≤ p0.toInt ∧ p0.toInt ≤ (1 : Int)) ∧ (r14.toInt = 0 → p0.toInt < (0 : Int) ∨ (1 : Int) < p0.toInt) := xr14
  have hC := vl_eq hC hz14.symm
  refine z_ne F 16 dX12_image_11 (by decide) rfl (fun c15 => ?_) (fun c15 => ?_)
  · have hC := hC.trans (if_pos c15)
    refine a_ic F (0 : Int32) dX12_image_16 (by decide) ?_
    refine lv_istore_n (lv' := [(2, .int (0 : Int32)), (0, .ref (ad 85)), (1, .int p0)]) F.1 F.2.1 dX12_image_17 rfl hl (by decide) rfl (fun ls hl => ?_)
    exact L18 659 (0 : Int32) _ _ _ _ hR hF (by decide) hK_MS hK_CW (kp_ko hK_KI) (im_0 (by decide)) hK_AP (ak_ao hK_AK) hK_K4 (by omega) (by decide) (by omega : (0 : Int) ≤ (0 : Int) ∧ (0 : Int) ≤ 0) hC hP hD hS (lv_sub hl [1, 2, 0] rfl)
  · have hC := hC.trans (if_neg (by omega))
    refine a_ic F (0 : Int32) dX12_image_14 (by decide) ?_
    exact a_retz F hr hlocks hP hD hS dX12_image_15 (Or.inl rfl) ⟨hR, hF, (by decide), (by first | exact (by omega : ((0 : Int) ≠ 0 → 0 ≤ p0.toInt ∧ p0.toInt ≤ 1) ∧ ((0 : Int) = 0 → p0.toInt < 0 ∨ 1 < p0.toInt)) | (rw [ic_0]; exact (by omega : ((0 : Int) ≠ 0 → 0 ≤ p0.toInt ∧ p0.toInt ≤ 1) ∧ ((0 : Int) = 0 → p0.toInt < 0 ∨ 1 < p0.toInt)))), hK_KI, hK_AK, (kf_0 hK_K4 (by omega)), hRR.symm.trans hC⟩

def K_X12_restore_85_60_b (B60 : ac_U → Int32 → ac_U × Int32) (u0 : ac_U) (p0 : Int32) (u : ac_U) (x2 : Int32) : ac_U × Int32 := (if (26 : Int) ≤ x2.toInt then ((pI u 85 24 (0 : Int32)), (1 : Int32)) else (vl ((26 : Int32) * p0) (fun (v2 : Int32) => (vl (v2 + x2) (fun (v3 : Int32) => (vl (u.2 103 v3.toNatClampNeg) (fun (w4 : Int64) => (vl (x2 + Int32.ofInt (1)) (fun (v5 : Int32) => (B60 (pL u 90 x2.toNatClampNeg w4) v5))))))))))
def K_X12_restore_85_60 (u0 : ac_U) (p0 : Int32) : Nat → ac_U → Int32 → ac_U × Int32
  | 0 => fun u x2 => (u, 0)
  | n + 1 => fun u x2 => K_X12_restore_85_60_b (K_X12_restore_85_60 u0 p0 n) u0 p0 u x2
def K_X12_restore_85_27_b (B27 : ac_U → Int32 → ac_U × Int32) (u0 : ac_U) (p0 : Int32) (u : ac_U) (x2 : Int32) : ac_U × Int32 := (if (657 : Int) ≤ x2.toInt then (K_X12_restore_85_60 u0 p0 28 u (0 : Int32)) else (vl ((657 : Int32) * p0) (fun (v9 : Int32) => (vl (v9 + x2) (fun (v10 : Int32) => (vl (u.1 102 v10.toNatClampNeg) (fun (v11 : Int32) => (vl (x2 + Int32.ofInt (1)) (fun (v12 : Int32) => (B27 (pI u 87 x2.toNatClampNeg v11) v12))))))))))
def K_X12_restore_85_27 (u0 : ac_U) (p0 : Int32) : Nat → ac_U → Int32 → ac_U × Int32
  | 0 => fun u x2 => (u, 0)
  | n + 1 => fun u x2 => K_X12_restore_85_27_b (K_X12_restore_85_27 u0 p0 n) u0 p0 u x2
def f_X12_restore_85 (u0 : ac_U) (p0 : Int32) : ac_U × Int32 := (vl (f_X12_isIn_f (pI u0 85 0 (0 : Int32)) p0 (0 : Int32) (1 : Int32)) (fun (r14 : Int32) => (if r14.toInt = 0 then ((pI u0 85 0 (0 : Int32)), (0 : Int32)) else (vl ((pI u0 85 0 (0 : Int32)).1 104 p0.toNatClampNeg) (fun (v16 : Int32) => (if v16.toInt ≠ 0 then (K_X12_restore_85_27 u0 p0 659 (pI u0 85 0 (0 : Int32)) (0 : Int32)) else ((pI u0 85 0 (0 : Int32)), (0 : Int32))))))))
set_option maxHeartbeats 600000 in
set_option maxRecDepth 100000 in
theorem x_X12_restore_85 (l : Launch) (dC : Nat → ClassId) (dI : Nat → Nat → Nat) (ad : Nat → Nat) (cA : Nat → ClassId) (nF : Nat) (u0 : ac_U) (p0 : Int32) (hR : ac_R rg u0) (hK_MS : msI u0) (hK_UI : unI u0) (hK_CW : cdI u0) (hK_AP : apI u0) (hK_AU : auI u0) (hK_KI : kpI u0) (hK_AK : akI u0) : ac_Mi l yX12_restore (.code yX12_restore cX12_restore 3 (some .boolean) :: TB) 2 (dC, dI) vwCl (ac_ty cA) ad cA (TT nF) [.ref (ad 85), .int p0] u0 (fun (r : Int32) (u : ac_U) => ac_R rg u ∧ ac_Fr [(85, some 0), (85, some 24), (87, none)] u0 u ∧ ((0 : Int) ≤ r.toInt ∧ r.toInt ≤ 1) ∧ ((r.toInt ≠ 0 → (p0.toInt = 0 ∧ (u0.1 104 0).toInt ≠ 0) ∨ (p0.toInt = 1 ∧ (u0.1 104 1).toInt ≠ 0)) ∧ (r.toInt = 0 → (p0.toInt = 0 → (u0.1 104 0).toInt = 0) ∧ (p0.toInt = 1 → (u0.1 104 1).toInt = 0))) ∧ msI u ∧ unI u ∧ cdI u ∧ apI u ∧ auI u ∧ f_X12_restore_85 u0 p0 = (u, r)) := by
  refine ac_Mi.of (cc := cX12_restore) (maxL := 3) (ret := (some .boolean)) (by decide) rfl (Nat.le_of_ble_eq_true rfl) ?_
  intro p e s m below meth c A ls F hml hr hlocks hA hP hD hS hl
  have F : ac_X p s m [.ref (ad 85), .int p0].toArray c cX12_restore RX12 TB (dC, dI) vwCl (ac_ty cA) := ⟨F.1, F.2.1, fun w h => F.2.2.1 w (List.mem_cons_of_mem _ h), F.2.2.2.1, F.2.2.2.2⟩
  have hl : lv_has ls 3 [(0, .ref (ad 85)), (1, .int p0)] := hl
  obtain ⟨RR, hRR⟩ : ∃ q, q = f_X12_restore_85 u0 p0 := ⟨_, rfl⟩
  have hF : ac_Fr [(85, some 0), (85, some 24), (87, none)] u0 u0 := ac_Fr.rf
  have L60 : ∀ (n60 : Nat) (x2 : Int32) (u : ac_U) (H : Heap) (locs : List Loc) (ls : Array Slot), ac_R rg u → ac_Fr [(85, some 0), (85, some 24), (87, none)] u0 u → 26 - x2.toInt < (n60 : Int) → msI u → cdI u → apI u → (0 : Int) ≤ p0.toInt ∧ p0.toInt ≤ 1 → (0 : Int) ≤ x2.toInt ∧ x2.toInt ≤ 26 → (0 : Int) ≤ (u.1 85 0).toInt ∧ (u.1 85 0).toInt ≤ 0 → ((p0.toInt = 0 → (u0.1 104 0).toInt ≠ 0) ∧ (p0.toInt = 1 → (u0.1 104 1).toInt ≠ 0)) → RR = (K_X12_restore_85_60 u0 p0 n60 u x2) → va_P (dC, dI) vwCl (ac_w ad cA (TT nF) u) H → va_D A (ac_w ad cA (TT nF) u) → va_S A s.heap H locs → lv_has ls 3 [(0, .ref (ad 85)), (1, .int p0), (2, .int x2)] → W p l e (ac_rm 2) s m [.ref (ad 85), .int p0].toArray below meth c H locs 0 0 (MQ below (va_Qi (fun (r : Int32) (u : ac_U) => ac_R rg u ∧ ac_Fr [(85, some 0), (85, some 24), (87, none)] u0 u ∧ ((0 : Int) ≤ r.toInt ∧ r.toInt ≤ 1) ∧ ((r.toInt ≠ 0 → (p0.toInt = 0 ∧ (u0.1 104 0).toInt ≠ 0) ∨ (p0.toInt = 1 ∧ (u0.1 104 1).toInt ≠ 0)) ∧ (r.toInt = 0 → (p0.toInt = 0 → (u0.1 104 0).toInt = 0) ∧ (p0.toInt = 1 → (u0.1 104 1).toInt = 0))) ∧ msI u ∧ unI u ∧ cdI u ∧ apI u ∧ auI u ∧ f_X12_restore_85 u0 p0 = (u, r)) (ac_B (dC, dI) vwCl (ac_ty cA) ad cA (TT nF) A) A) [.ref (ad 85), .int p0].toArray s 0 0 A) (F0 m 60 ls []) := by
    intro n60
    induction n60 with
    | zero => intro x2 u H locs ls hR hF hn60 hK_MS hK_CW hK_AP f0 f1 f2 f3 hC hP hD hS hl; exfalso; omega
    | succ n60 ih60 =>
      intro x2 u H locs ls hR hF hn60 hK_MS hK_CW hK_AP f0 f1 f2 f3 hC hP hD hS hl
      have hC : RR = K_X12_restore_85_60_b (K_X12_restore_85_60 u0 p0 n60) u0 p0 u x2 := hC
      unfold K_X12_restore_85_60_b at hC
      refine lv_iload_n F.1 F.2.1 dX12_restore_60 rfl (lv_at hl 2 rfl) ?_
      refine a_bp F (26 : Int32) dX12_restore_61 (by decide) ?_
      refine b_ge F 89 dX12_restore_63 (by decide) rfl ic_26 (fun c1 => ?_) (fun c1 => ?_)
      · have hC := hC.trans (if_pos c1)
        refine lv_aload_n F.1 F.2.1 dX12_restore_89 rfl (lv_at hl 0 rfl) ?_
        refine a_ic F (0 : Int32) dX12_restore_90 (by decide) ?_
        refine a_puti F inX12 tyX12 tyX12_ok nmX12 hP hD hS 85 24 tc_85 rfl rfl (by decide) q1495 (fun _ h9 => h9) rfl (ty := .int) (tyX12_ok 24 (by decide)) rfl rfl dX12_restore_91 (fun H locs hP hD hS => ?_)
        have hR := hR.si (c := 85) (k := 24) (v := (0 : Int32)) (by rw [ic_0]; exact (by omega : (0 : Int) ≤ (0 : Int) ∧ (0 : Int) ≤ 8))
        have hF := hF.si (c := 85) (k := 24) (v := (0 : Int32)) rfl
        have hN_UI := un_0D hD (by decide)
        have hN_AU := au_0D hD (by decide)
        have hK_MS := sp_sgD sp_MS hD hK_MS (by decide)
        have hK_CW := sp_sgD sp_CW hD hK_CW (by decide)
        have hK_AP := sp_sgD sp_AP hD hK_AP (by decide)
        have hK_UI := hN_UI
        have hK_AU := hN_AU
        refine a_ic F (1 : Int32) dX12_restore_94 (by decide) ?_
        exact a_retz F hr hlocks hP hD hS dX12_restore_95 (Or.inr rfl) ⟨hR, hF, (by decide), (by first | exact (by omega : ((1 : Int) ≠ 0 → (p0.toInt = 0 ∧ (u0.1 104 0).toInt ≠ 0) ∨ (p0.toInt = 1 ∧ (u0.1 104 1).toInt ≠ 0)) ∧ ((1 : Int) = 0 → (p0.toInt = 0 → (u0.1 104 0).toInt = 0) ∧ (p0.toInt = 1 → (u0.1 104 1).toInt = 0))) | (rw [ic_1]; exact (by omega : ((1 : Int) ≠ 0 → (p0.toInt = 0 ∧ (u0.1 104 0).toInt ≠ 0) ∨ (p0.toInt = 1 ∧ (u0.1 104 1).toInt ≠ 0)) ∧ ((1 : Int) = 0 → (p0.toInt = 0 → (u0.1 104 0).toInt = 0) ∧ (p0.toInt = 1 → (u0.1 104 1).toInt = 0))))), hK_MS, hK_UI, hK_CW, hK_AP, hK_AU, hRR.symm.trans hC⟩
      · have hC := hC.trans (if_neg (by omega))
        refine lv_aload_n F.1 F.2.1 dX12_restore_66 rfl (lv_at hl 0 rfl) ?_
        refine a_getr F inX12 hP 85 9 tc_85 rfl rfl (by decide) q1480 (fun _ h9 => h9) dX12_restore_67 ?_
        refine lv_iload_n F.1 F.2.1 dX12_restore_70 rfl (lv_at hl 2 rfl) ?_
        refine lv_aload_n F.1 F.2.1 dX12_restore_71 rfl (lv_at hl 0 rfl) ?_
        refine a_getr F inX12 hP 85 46 tc_85 rfl rfl (by decide) q1517 (fun _ h9 => h9) dX12_restore_72 ?_
        refine a_bp F (26 : Int32) dX12_restore_75 (by decide) ?_
        refine lv_iload_n F.1 F.2.1 dX12_restore_77 rfl (lv_at hl 1 rfl) ?_
        refine a_imulX F dX12_restore_78 ic_26 rfl (by omega) (fun v2 hv2 yv2 => ?_)
        have hC := vl_eq hC yv2
        refine lv_iload_n F.1 F.2.1 dX12_restore_79 rfl (lv_at hl 2 rfl) ?_
        refine a_iaddX F dX12_restore_80 rfl rfl (by omega) (fun v3 hv3 yv3 => ?_)
        have hC := vl_eq hC yv3
        refine a_lald F hP 103 tc_103 rfl (i_in rfl (by omega)) dX12_restore_81 (fun w4 ew4 => ?_)
        have hC := vl_eq hC ew4.symm
        refine a_last F hP hD hS 90 tc_90 rfl (i_in rfl (by omega)) dX12_restore_82 (fun H locs hP hD hS => ?_)
        have hR := ac_slR hD hR
        have hF := ac_slF hD hF
        have hK_MS := sp_sl sp_MS hD hK_MS
        have hK_CW := sp_sl sp_CW hD hK_CW
        have hK_AP := sp_sl sp_AP hD hK_AP
        refine a_iincX F (k := 2) (fun v5 => [(2, .int v5), (0, .ref (ad 85)), (1, .int p0)]) dX12_restore_83 hl rfl rfl (by decide) (by omega) (by decide) (fun _ => rfl) (fun v5 ls hv5 yv5 hl => ?_)
        have hC := vl_eq hC yv5
        refine lv_goto (tgt := 60) F.1 F.2.1 dX12_restore_86 (by decide) ?_
        have g6 : (0 : Int) ≤ (u.1 85 0).toInt ∧ (u.1 85 0).toInt ≤ 1 := hR 85 0
        exact ih60 v5 _ _ _ _ hR hF (by omega) hK_MS hK_CW hK_AP (by omega) (by omega) (by omega : (0 : Int) ≤ (u.1 85 0).toInt ∧ (u.1 85 0).toInt ≤ 0) (by omega : (p0.toInt = 0 → (u0.1 104 0).toInt ≠ 0) ∧ (p0.toInt = 1 → (u0.1 104 1).toInt ≠ 0)) hC hP hD hS (lv_sub hl [1, 2, 0] rfl)
  have L27 : ∀ (n27 : Nat) (x2 : Int32) (u : ac_U) (H : Heap) (locs : List Loc) (ls : Array Slot), ac_R rg u → ac_Fr [(85, some 0), (85, some 24), (87, none)] u0 u → 657 - x2.toInt < (n27 : Int) → kgI p0.toInt u → rcI p0.toInt x2.toInt u → agI p0.toInt u → (0 : Int) ≤ p0.toInt ∧ p0.toInt ≤ 1 → (0 : Int) ≤ x2.toInt ∧ x2.toInt ≤ 657 → (0 : Int) ≤ (u.1 85 0).toInt ∧ (u.1 85 0).toInt ≤ 0 → ((p0.toInt = 0 → (u0.1 104 0).toInt ≠ 0) ∧ (p0.toInt = 1 → (u0.1 104 1).toInt ≠ 0)) → RR = (K_X12_restore_85_27 u0 p0 n27 u x2) → va_P (dC, dI) vwCl (ac_w ad cA (TT nF) u) H → va_D A (ac_w ad cA (TT nF) u) → va_S A s.heap H locs → lv_has ls 3 [(0, .ref (ad 85)), (1, .int p0), (2, .int x2)] → W p l e (ac_rm 2) s m [.ref (ad 85), .int p0].toArray below meth c H locs 0 0 (MQ below (va_Qi (fun (r : Int32) (u : ac_U) => ac_R rg u ∧ ac_Fr [(85, some 0), (85, some 24), (87, none)] u0 u ∧ ((0 : Int) ≤ r.toInt ∧ r.toInt ≤ 1) ∧ ((r.toInt ≠ 0 → (p0.toInt = 0 ∧ (u0.1 104 0).toInt ≠ 0) ∨ (p0.toInt = 1 ∧ (u0.1 104 1).toInt ≠ 0)) ∧ (r.toInt = 0 → (p0.toInt = 0 → (u0.1 104 0).toInt = 0) ∧ (p0.toInt = 1 → (u0.1 104 1).toInt = 0))) ∧ msI u ∧ unI u ∧ cdI u ∧ apI u ∧ auI u ∧ f_X12_restore_85 u0 p0 = (u, r)) (ac_B (dC, dI) vwCl (ac_ty cA) ad cA (TT nF) A) A) [.ref (ad 85), .int p0].toArray s 0 0 A) (F0 m 27 ls []) := by
    intro n27
    induction n27 with
    | zero => intro x2 u H locs ls hR hF hn27 hK_KG hK_RCx hK_AG f0 f1 f2 f3 hC hP hD hS hl; exfalso; omega
    | succ n27 ih27 =>
      intro x2 u H locs ls hR hF hn27 hK_KG hK_RCx hK_AG f0 f1 f2 f3 hC hP hD hS hl
      have hC : RR = K_X12_restore_85_27_b (K_X12_restore_85_27 u0 p0 n27) u0 p0 u x2 := hC
      unfold K_X12_restore_85_27_b at hC
      refine lv_iload_n F.1 F.2.1 dX12_restore_27 rfl (lv_at hl 2 rfl) ?_
      refine a_sp F (657 : Int32) dX12_restore_28 (by decide) ?_
      refine b_ge F 58 dX12_restore_31 (by decide) rfl ic_657 (fun c7 => ?_) (fun c7 => ?_)
      · have hC := hC.trans (if_pos c7)
        refine a_ic F (0 : Int32) dX12_restore_58 (by decide) ?_
        refine lv_istore_n (lv' := [(2, .int (0 : Int32)), (0, .ref (ad 85)), (1, .int p0)]) F.1 F.2.1 dX12_restore_59 rfl hl (by decide) rfl (fun ls hl => ?_)
        have g8 : (0 : Int) ≤ (u.1 85 0).toInt ∧ (u.1 85 0).toInt ≤ 1 := hR 85 0
        exact L60 28 (0 : Int32) _ _ _ _ hR hF (by decide) (rc_ms hK_KG hK_RCx (by omega) (by omega)) (rc_cw hK_KG hK_RCx (by omega) (by omega)) (rc_ap hK_AG hK_RCx (by omega) (by omega)) (by omega) (by decide) (by omega : (0 : Int) ≤ (u.1 85 0).toInt ∧ (u.1 85 0).toInt ≤ 0) (by omega : (p0.toInt = 0 → (u0.1 104 0).toInt ≠ 0) ∧ (p0.toInt = 1 → (u0.1 104 1).toInt ≠ 0)) hC hP hD hS (lv_sub hl [1, 2, 0] rfl)
      · have hC := hC.trans (if_neg (by omega))
        refine lv_aload_n F.1 F.2.1 dX12_restore_34 rfl (lv_at hl 0 rfl) ?_
        refine a_getr F inX12 hP 85 6 tc_85 rfl rfl (by decide) q1477 (fun _ h9 => h9) dX12_restore_35 ?_
        refine lv_iload_n F.1 F.2.1 dX12_restore_38 rfl (lv_at hl 2 rfl) ?_
        refine lv_aload_n F.1 F.2.1 dX12_restore_39 rfl (lv_at hl 0 rfl) ?_
        refine a_getr F inX12 hP 85 45 tc_85 rfl rfl (by decide) q1516 (fun _ h9 => h9) dX12_restore_40 ?_
        refine a_sp F (657 : Int32) dX12_restore_43 (by decide) ?_
        refine lv_iload_n F.1 F.2.1 dX12_restore_46 rfl (lv_at hl 1 rfl) ?_
        refine a_imulX F dX12_restore_47 ic_657 rfl (by omega) (fun v9 hv9 yv9 => ?_)
        have hC := vl_eq hC yv9
        refine lv_iload_n F.1 F.2.1 dX12_restore_48 rfl (lv_at hl 2 rfl) ?_
        refine a_iaddX F dX12_restore_49 rfl rfl (by omega) (fun v10 hv10 yv10 => ?_)
        have hC := vl_eq hC yv10
        refine a_iald F hP 102 tc_102 rfl (i_in rfl (by omega)) dX12_restore_50 (fun v11 ev11 => ?_)
        have hC := vl_eq hC ev11.symm
        refine a_iast F hP hD hS 87 tc_87 rfl (i_in rfl (by omega)) dX12_restore_51 (fun H locs hP hD hS => ?_)
        have hR := hR.si (c := 87) (k := x2.toNatClampNeg) (v := v11) (rc_rg hR hK_KG (by omega) (k := v10) (by omega) (by omega) ev11)
        have hF := hF.si (c := 87) (k := x2.toNatClampNeg) (v := v11) rfl
        have hO_KG := hK_KG
        have hO_RCx := hK_RCx
        have hO_AG := hK_AG
        have hK_KG := sp_sgD (sp_KG _) hD hK_KG (by decide)
        have hK_RCx := rc_w hO_RCx (by omega) (i := x2) (k := v10) (by omega) (by omega) ev11
        have hK_AG := sp_sgD (sp_AG _) hD hK_AG (by decide)
        refine a_iincX F (k := 2) (fun v12 => [(2, .int v12), (0, .ref (ad 85)), (1, .int p0)]) dX12_restore_52 hl rfl rfl (by decide) (by omega) (by decide) (fun _ => rfl) (fun v12 ls hv12 yv12 hl => ?_)
        have hC := vl_eq hC yv12
        refine lv_goto (tgt := 27) F.1 F.2.1 dX12_restore_55 (by decide) ?_
        have g13 : (0 : Int) ≤ (u.1 85 0).toInt ∧ (u.1 85 0).toInt ≤ 1 := hR 85 0
        exact ih27 v12 _ _ _ _ hR hF (by omega) hK_KG (rc_eq hK_RCx (by omega)) hK_AG (by omega) (by omega) (by omega : (0 : Int) ≤ (u.1 85 0).toInt ∧ (u.1 85 0).toInt ≤ 0) (by omega : (p0.toInt = 0 → (u0.1 104 0).toInt ≠ 0) ∧ (p0.toInt = 1 → (u0.1 104 1).toInt ≠ 0)) hC hP hD hS (lv_sub hl [1, 2, 0] rfl)
  have hC : RR = f_X12_restore_85 u0 p0 := hRR
  unfold f_X12_restore_85 at hC
  refine lv_aload_n F.1 F.2.1 dX12_restore_0 rfl (lv_at hl 0 rfl) ?_
  refine a_ic F (0 : Int32) dX12_restore_1 (by decide) ?_
  refine a_puti F inX12 tyX12 tyX12_ok nmX12 hP hD hS 85 0 tc_85 rfl rfl (by decide) q1471 (fun _ h9 => h9) rfl (ty := .int) (tyX12_ok 0 (by decide)) rfl rfl dX12_restore_2 (fun H locs hP hD hS => ?_)
  have hR := hR.si (c := 85) (k := 0) (v := (0 : Int32)) (by rw [ic_0]; exact (by omega : (0 : Int) ≤ (0 : Int) ∧ (0 : Int) ≤ 1))
  have hF := hF.si (c := 85) (k := 0) (v := (0 : Int32)) rfl
  have hK_MS := sp_sgD sp_MS hD hK_MS (by decide)
  have hK_UI := sp_si sp_UI hK_UI (c := 85) (k := 0) (v := (0 : Int32)) (fun j9 h9 q9 => by rw [q9] at h9; exact absurd h9 (by decide))
  have hK_CW := sp_sgD sp_CW hD hK_CW (by decide)
  have hK_AP := sp_sgD sp_AP hD hK_AP (by decide)
  have hK_AU := sp_si sp_AU hK_AU (c := 85) (k := 0) (v := (0 : Int32)) (fun j9 h9 q9 => by rw [q9] at h9; exact absurd h9 (by decide))
  have hK_KI := sp_sgD sp_KI hD hK_KI (by decide)
  have hK_AK := sp_sgD sp_AK hD hK_AK (by decide)
  refine lv_iload_n F.1 F.2.1 dX12_restore_5 rfl (lv_at hl 1 rfl) ?_
  refine a_ic F (0 : Int32) dX12_restore_6 (by decide) ?_
  refine a_ic F (1 : Int32) dX12_restore_7 (by decide) ?_
  refine a_Si F hml hl.1 hA hP hD hS (As := [.int p0, .int (0 : Int32), .int (1 : Int32)]) (x_X12_isIn_f l dC dI ad cA nF _ p0 (0 : Int32) (1 : Int32) hR (by decide)) (cs_RX12_187 (d := 1) F.2.2.1 (by decide)) rfl rfl (Nat.le_of_ble_eq_true rfl) dX12_restore_8 ⟨Nat.le_refl 0, Nat.le_refl 0⟩ (fun r14 uN14 H locs hq hP hD hS => ?_)
  obtain ⟨hu14, gr14, xr14, hz14⟩ := hq
  rw [hu14] at hP hD
  have xr14 : (r14.toInt ≠ 0 → (0 : Int) ≤ p0.toInt ∧ p0.toInt ≤ (1 : Int)) ∧ (r14.toInt = 0 → p0.toInt < (0 : Int) ∨ (1 : Int) < p0.toInt) := xr14
  have hC := vl_eq hC hz14.symm
  refine z_eq F 23 dX12_restore_11 (by decide) rfl (fun c15 => ?_) (fun c15 => ?_)
  · have hC := hC.trans (if_pos c15)
    refine a_ic F (0 : Int32) dX12_restore_23 (by decide) ?_
    exact a_retz F hr hlocks hP hD hS dX12_restore_24 (Or.inl rfl) ⟨hR, hF, (by decide), (by first | exact (by omega : ((0 : Int) ≠ 0 → (p0.toInt = 0 ∧ (u0.1 104 0).toInt ≠ 0) ∨ (p0.toInt = 1 ∧ (u0.1 104 1).toInt ≠ 0)) ∧ ((0 : Int) = 0 → (p0.toInt = 0 → (u0.1 104 0).toInt = 0) ∧ (p0.toInt = 1 → (u0.1 104 1).toInt = 0))) | (rw [ic_0]; exact (by omega : ((0 : Int) ≠ 0 → (p0.toInt = 0 ∧ (u0.1 104 0).toInt ≠ 0) ∨ (p0.toInt = 1 ∧ (u0.1 104 1).toInt ≠ 0)) ∧ ((0 : Int) = 0 → (p0.toInt = 0 → (u0.1 104 0).toInt = 0) ∧ (p0.toInt = 1 → (u0.1 104 1).toInt = 0))))), hK_MS, hK_UI, hK_CW, hK_AP, hK_AU, hRR.symm.trans hC⟩
  · have hC := hC.trans (if_neg (by omega))
    refine lv_aload_n F.1 F.2.1 dX12_restore_14 rfl (lv_at hl 0 rfl) ?_
    refine a_getr F inX12 hP 85 47 tc_85 rfl rfl (by decide) q1518 (fun _ h9 => h9) dX12_restore_15 ?_
    refine lv_iload_n F.1 F.2.1 dX12_restore_18 rfl (lv_at hl 1 rfl) ?_
    refine a_zald F hP 104 tc_104 rfl (i_in rfl (by omega)) dX12_restore_19 (fun v16 ev16 => ?_)
    have hC := vl_eq hC ev16.symm
    have hv16 : (0 : Int) ≤ v16.toInt ∧ v16.toInt ≤ 1 := ev16 ▸ hR 104 _
    have hav16 := ar_01 hF rfl rfl (i := p0) ev16
    refine z_ne F 25 dX12_restore_20 (by decide) rfl (fun c17 => ?_) (fun c17 => ?_)
    · have hC := hC.trans (if_pos c17)
      refine a_ic F (0 : Int32) dX12_restore_25 (by decide) ?_
      refine lv_istore_n (lv' := [(2, .int (0 : Int32)), (0, .ref (ad 85)), (1, .int p0)]) F.1 F.2.1 dX12_restore_26 rfl hl (by decide) rfl (fun ls hl => ?_)
      exact L27 659 (0 : Int32) _ _ _ _ hR hF (by decide) (kp_get hK_KI (i := p0) (by omega) ev16 (by omega)) (rc_0 (by decide)) (ak_get hK_AK (i := p0) (by omega) ev16 (by omega)) (by omega) (by decide) (by omega : (0 : Int) ≤ (0 : Int) ∧ (0 : Int) ≤ 0) (by omega : (p0.toInt = 0 → (u0.1 104 0).toInt ≠ 0) ∧ (p0.toInt = 1 → (u0.1 104 1).toInt ≠ 0)) hC hP hD hS (lv_sub hl [1, 2, 0] rfl)
    · have hC := hC.trans (if_neg (by omega))
      refine a_ic F (0 : Int32) dX12_restore_23 (by decide) ?_
      exact a_retz F hr hlocks hP hD hS dX12_restore_24 (Or.inl rfl) ⟨hR, hF, (by decide), (by first | exact (by omega : ((0 : Int) ≠ 0 → (p0.toInt = 0 ∧ (u0.1 104 0).toInt ≠ 0) ∨ (p0.toInt = 1 ∧ (u0.1 104 1).toInt ≠ 0)) ∧ ((0 : Int) = 0 → (p0.toInt = 0 → (u0.1 104 0).toInt = 0) ∧ (p0.toInt = 1 → (u0.1 104 1).toInt = 0))) | (rw [ic_0]; exact (by omega : ((0 : Int) ≠ 0 → (p0.toInt = 0 ∧ (u0.1 104 0).toInt ≠ 0) ∨ (p0.toInt = 1 ∧ (u0.1 104 1).toInt ≠ 0)) ∧ ((0 : Int) = 0 → (p0.toInt = 0 → (u0.1 104 0).toInt = 0) ∧ (p0.toInt = 1 → (u0.1 104 1).toInt = 0))))), hK_MS, hK_UI, hK_CW, hK_AP, hK_AU, hRR.symm.trans hC⟩

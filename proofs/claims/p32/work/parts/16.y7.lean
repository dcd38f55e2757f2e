def ac_rmG (d : Nat) : Room := { frames := d, cells := 1, slots := 51200, locals := 100 * d }
set_option maxHeartbeats 600000 in
set_option maxRecDepth 100000 in
theorem k_X7_fewestGoings_32_18 (l : Launch) (dC : Nat → ClassId) (dI : Nat → Nat → Nat) (ad : Nat → Nat) (cA : Nat → ClassId) (nF : Nat) (u0 : ac_U) (p0 : Int32)  (hR : ac_R rg u0) (hp0 : (0 : Int) ≤ p0.toInt ∧ p0.toInt ≤ 15) (hnF : nF = 51200) {p : Program} {e : Env} {s : State} {m : MethodId} {av : Array Value} {below : List Frame} {meth : Method} {c : Code} {A : Nat → Prop} {ls : Array Slot} {H : Heap} {locs : List Loc} {Q : State → Prop} (F : ac_X p s m av c cX7_fewestGoings RX7 TB (dC, dI) vwCl (ac_ty cA)) (hml : c.maxLocals = 4) (hA : ∀ q : Nat, s.heap.size ≤ q → A q) (hP : va_P (dC, dI) vwCl (ac_w ad cA (TT nF) u0) H) (hD : va_D A (ac_w ad cA (TT nF) u0)) (hS : va_S A s.heap H locs) (hl : lv_has ls 4 [(0, .ref (ad 32)), (1, .int p0)]) (kk : ∀ (r : Int32) (u : ac_U) (H : Heap) (locs : List Loc) (ls : Array Slot) (pc : Nat), decode cX7_fewestGoings pc = .ok (.ireturn, 1) → (ac_R rg u ∧ ac_Fr [(32, some 9), (35, none), (37, none)] u0 u ∧ ((-128 : Int) ≤ r.toInt ∧ r.toInt ≤ 98) ∧ (1 ≤ (u.1 32 9).toInt)) → va_P (dC, dI) vwCl (ac_w ad cA (TT nF) u) H → va_D A (ac_w ad cA (TT nF) u) → va_S A s.heap H locs → W p l e (ac_rmG 4) s m av below meth c H locs 1 51200 Q (F0 m pc ls [.int r])) : W p l e (ac_rmG 4) s m av below meth c H locs 1 51200 Q (F0 m 18 ls []) := by
  have hF : ac_Fr [(32, some 9), (35, none), (37, none)] u0 u0 := ac_Fr.rf
  have L106 : ∀ (n106 : Nat) (x2 : Int32) (u : ac_U) (H : Heap) (locs : List Loc) (ls : Array Slot), ac_R rg u → ac_Fr [(32, some 9), (35, none), (37, none)] u0 u → x2.toInt + 1 < (n106 : Int) → (-1 : Int) ≤ x2.toInt ∧ x2.toInt ≤ 23 → (1 : Int) ≤ (u.1 32 9).toInt ∧ (u.1 32 9).toInt ≤ 256 → va_P (dC, dI) vwCl (ac_w ad cA (TT nF) u) H → va_D A (ac_w ad cA (TT nF) u) → va_S A s.heap H locs → lv_has ls 4 [(0, .ref (ad 32)), (2, .int x2)] → W p l e (ac_rmG 4) s m av below meth c H locs 1 51200 Q (F0 m 106 ls []) := by
    intro n106
    induction n106 with
    | zero => intro x2 u H locs ls hR hF hn106 f0 f1 hP hD hS hl; exfalso; omega
    | succ n106 ih106 =>
      intro x2 u H locs ls hR hF hn106 f0 f1 hP hD hS hl
      have L116 : ∀ (n116 : Nat) (x2 : Int32) (x3 : Int32) (u : ac_U) (H : Heap) (locs : List Loc) (ls : Array Slot), ac_R rg u → ac_Fr [(32, some 9), (35, none), (37, none)] u0 u → 8 - x3.toInt < (n116 : Int) → (0 : Int) ≤ x2.toInt ∧ x2.toInt ≤ 23 → (0 : Int) ≤ x3.toInt ∧ x3.toInt ≤ 8 → (1 : Int) ≤ (u.1 32 9).toInt ∧ (u.1 32 9).toInt ≤ 256 → x2.toInt - (-1) - (0) < ((n106 : Nat) : Int) + 1 → va_P (dC, dI) vwCl (ac_w ad cA (TT nF) u) H → va_D A (ac_w ad cA (TT nF) u) → va_S A s.heap H locs → lv_has ls 4 [(0, .ref (ad 32)), (2, .int x2), (3, .int x3)] → W p l e (ac_rmG 4) s m av below meth c H locs 1 51200 Q (F0 m 116 ls []) := by
        intro n116
        induction n116 with
        | zero => intro x2 x3 u H locs ls hR hF hn116 f0 f1 f2 f3 hP hD hS hl; exfalso; omega
        | succ n116 ih116 =>
          intro x2 x3 u H locs ls hR hF hn116 f0 f1 f2 f3 hP hD hS hl
          refine lv_iload_n F.1 F.2.1 dX7_fewestGoings_116 rfl (lv_at hl 2 rfl) ?_
          refine lv_aload_n F.1 F.2.1 dX7_fewestGoings_117 rfl (lv_at hl 0 rfl) ?_
          refine a_getr F inX7 hP 32 0 tc_32 rfl rfl (by decide) q334 (fun _ h9 => h9) dX7_fewestGoings_118 ?_
          have g1 : (0 : Int) ≤ (u.1 4 1).toInt ∧ (u.1 4 1).toInt ≤ 8 := hR 4 1
          refine a_geti F inX2 hP 4 1 tc_4 rfl rfl (by decide) q160 (fun _ h9 => h9) (v := (u.1 4 1)) rfl dX7_fewestGoings_121 ?_
          refine b_ge F 139 dX7_fewestGoings_124 (by decide) rfl rfl (fun c2 => ?_) (fun c2 => ?_)
          · refine a_iinc F (k := 1) (fun v3 => [(2, .int v3), (0, .ref (ad 32)), (3, .int x3)]) dX7_fewestGoings_139 hl rfl rfl (by decide) (by omega) (by decide) (fun _ => rfl) (fun v3 ls hv3 hl => ?_)
            refine lv_goto (tgt := 106) F.1 F.2.1 dX7_fewestGoings_142 (by decide) ?_
            have g4 : (0 : Int) ≤ (u.1 32 9).toInt ∧ (u.1 32 9).toInt ≤ 256 := hR 32 9
            exact ih106 v3 _ _ _ _ hR hF (by omega) (by omega) (by omega : (1 : Int) ≤ (u.1 32 9).toInt ∧ (u.1 32 9).toInt ≤ 256) hP hD hS (lv_sub hl [1, 0] rfl)
          · refine lv_aload_n F.1 F.2.1 dX7_fewestGoings_127 rfl (lv_at hl 0 rfl) ?_
            refine lv_iload_n F.1 F.2.1 dX7_fewestGoings_128 rfl (lv_at hl 1 rfl) ?_
            refine lv_iload_n F.1 F.2.1 dX7_fewestGoings_129 rfl (lv_at hl 2 rfl) ?_
            refine a_Vv F hml hl.1 hA hP hD hS (As := [.int x2, .int x3]) (c_X7_fillPlace_32 l dC dI ad cA nF _ x2 x3 hR (by omega) (by omega) hnF) (cs_RX7_115 (d := 3) F.2.2.1 (by decide)) tc_32 rfl rfl rfl rfl (Nat.le_of_ble_eq_true rfl) dX7_fewestGoings_130 ⟨Nat.le_refl 1, Nat.le_refl 51200⟩ (fun u5 H locs hq hP hD hS => ?_)
            obtain ⟨hR, hF5⟩ := hq
            have hF := hF.tr hF5 (by decide)
            refine a_iinc F (k := 2) (fun v6 => [(3, .int v6), (0, .ref (ad 32)), (2, .int x2)]) dX7_fewestGoings_133 hl rfl rfl (by decide) (by omega) (by decide) (fun _ => rfl) (fun v6 ls hv6 hl => ?_)
            refine lv_goto (tgt := 116) F.1 F.2.1 dX7_fewestGoings_136 (by decide) ?_
            exact ih116 x2 v6 _ _ _ _ hR hF (by omega) (by omega) (by omega) (i_trB (hF5 32 9 rfl) (by omega : (1 : Int) ≤ (u.1 32 9).toInt ∧ (u.1 32 9).toInt ≤ 256)) (by omega) hP hD hS (lv_sub hl [1, 2, 0] rfl)
      refine lv_iload_n F.1 F.2.1 dX7_fewestGoings_106 rfl (lv_at hl 1 rfl) ?_
      refine lv_aload_n F.1 F.2.1 dX7_fewestGoings_107 rfl (lv_at hl 0 rfl) ?_
      have g7 : (0 : Int) ≤ (u.1 32 11).toInt ∧ (u.1 32 11).toInt ≤ 23 := hR 32 11
      refine a_geti F inX7 hP 32 11 tc_32 rfl rfl (by decide) q345 (fun _ h9 => h9) (v := (u.1 32 11)) rfl dX7_fewestGoings_108 ?_
      refine b_lt F 145 dX7_fewestGoings_111 (by decide) rfl rfl (fun c8 => ?_) (fun c8 => ?_)
      · refine lv_aload_n F.1 F.2.1 dX7_fewestGoings_145 rfl (lv_at hl 0 rfl) ?_
        refine a_getr F inX7 hP 32 7 tc_32 rfl rfl (by decide) q341 (fun _ h9 => h9) dX7_fewestGoings_146 ?_
        refine lv_aload_n F.1 F.2.1 dX7_fewestGoings_149 rfl (lv_at hl 0 rfl) ?_
        refine a_geti F inX7 hP 32 11 tc_32 rfl rfl (by decide) q345 (fun _ h9 => h9) (v := (u.1 32 11)) (rfl) dX7_fewestGoings_150 ?_
        refine lv_aload_n F.1 F.2.1 dX7_fewestGoings_153 rfl (lv_at hl 0 rfl) ?_
        refine a_getr F inX7 hP 32 1 tc_32 rfl rfl (by decide) q335 (fun _ h9 => h9) dX7_fewestGoings_154 ?_
        refine a_getr F inX6 hP 24 1 tc_24 rfl rfl (by decide) q275 (fun _ h9 => h9) dX7_fewestGoings_157 ?_
        refine a_ic F (3 : Int32) dX7_fewestGoings_160 (by decide) ?_
        refine lv_aload_n F.1 F.2.1 dX7_fewestGoings_161 rfl (lv_at hl 0 rfl) ?_
        have g9 : (0 : Int) ≤ (u.1 32 10).toInt ∧ (u.1 32 10).toInt ≤ 3 := hR 32 10
        refine a_geti F inX7 hP 32 10 tc_32 rfl rfl (by decide) q344 (fun _ h9 => h9) (v := (u.1 32 10)) rfl dX7_fewestGoings_162 ?_
        refine a_iadd F dX7_fewestGoings_165 ic_3 rfl (by omega) (fun v10 hv10 => ?_)
        refine a_iald F hP 25 tc_25 rfl (i_in rfl (by omega)) dX7_fewestGoings_166 (fun v11 ev11 => ?_)
        have hv11 : (0 : Int) ≤ v11.toInt ∧ v11.toInt ≤ 7 := rg_seg_25_3_6 hR ev11 (by omega)
        refine lv_aload_n F.1 F.2.1 dX7_fewestGoings_167 rfl (lv_at hl 0 rfl) ?_
        refine a_getr F inX7 hP 32 5 tc_32 rfl rfl (by decide) q339 (fun _ h9 => h9) dX7_fewestGoings_168 ?_
        refine lv_aload_n F.1 F.2.1 dX7_fewestGoings_171 rfl (lv_at hl 0 rfl) ?_
        have g12 : (0 : Int) ≤ (u.1 32 9).toInt ∧ (u.1 32 9).toInt ≤ 256 := hR 32 9
        refine a_geti F inX7 hP 32 9 tc_32 rfl rfl (by decide) q343 (fun _ h9 => h9) (v := (u.1 32 9)) rfl dX7_fewestGoings_172 ?_
        refine a_ic F (1 : Int32) dX7_fewestGoings_175 (by decide) ?_
        refine a_isub F dX7_fewestGoings_176 rfl ic_1 (by omega) (fun v13 hv13 => ?_)
        refine a_iald F hP 35 tc_35 rfl (i_in rfl (by omega)) dX7_fewestGoings_177 (fun v14 ev14 => ?_)
        have hv14 : (0 : Int) ≤ v14.toInt ∧ v14.toInt ≤ 255 := ev14 ▸ hR 35 _
        refine a_Si F hml hl.1 hA hP hD hS (As := [.int (u.1 32 11), .int v11, .int v14]) (c_X7_cell l dC dI ad cA nF _ (u.1 32 11) v11 v14 hR (by omega) (by omega) (by omega)) (cs_RX7_111 (d := 1) F.2.2.1 (by decide)) rfl rfl (Nat.le_of_ble_eq_true rfl) dX7_fewestGoings_178 ⟨Nat.le_refl 1, Nat.le_refl 51200⟩ (fun r15 uN15 H locs hq hP hD hS => ?_)
        obtain ⟨hu15, gr15, xr15⟩ := hq
        rw [hu15] at hP hD
        have xr15 : r15.toInt = 2048 * (u.1 32 11).toInt + 256 * v11.toInt + v14.toInt := xr15
        refine a_bald F hP 37 tc_37 rfl (i_in rfl (by omega)) dX7_fewestGoings_181 (fun v16 ev16 => ?_)
        have hv16 : (-128 : Int) ≤ v16.toInt ∧ v16.toInt ≤ 127 := ev16 ▸ hR 37 _
        refine lv_istore_n (lv' := [(2, .int v16), (0, .ref (ad 32))]) F.1 F.2.1 dX7_fewestGoings_182 rfl hl (by decide) rfl (fun ls hl => ?_)
        refine lv_iload_n F.1 F.2.1 dX7_fewestGoings_183 rfl (lv_at hl 0 rfl) ?_
        refine a_bp F (99 : Int32) dX7_fewestGoings_184 (by decide) ?_
        refine b_ge F 193 dX7_fewestGoings_186 (by decide) rfl ic_99 (fun c17 => ?_) (fun c17 => ?_)
        · refine a_ic F (-1 : Int32) dX7_fewestGoings_193 (by decide) ?_
          exact kk _ _ _ _ _ _ dX7_fewestGoings_194 ⟨hR, hF, (by decide), (by first | exact (by omega : 1 ≤ (u.1 32 9).toInt) | (rw [ic_m1]; exact (by omega : 1 ≤ (u.1 32 9).toInt)))⟩ hP hD hS
        · refine lv_iload_n F.1 F.2.1 dX7_fewestGoings_189 rfl (lv_at hl 0 rfl) ?_
          refine lv_goto (tgt := 194) F.1 F.2.1 dX7_fewestGoings_190 (by decide) ?_
          exact kk _ _ _ _ _ _ dX7_fewestGoings_194 ⟨hR, hF, (by omega : (-128 : Int) ≤ v16.toInt ∧ v16.toInt ≤ 98), (by omega : 1 ≤ (u.1 32 9).toInt)⟩ hP hD hS
      · refine a_ic F (0 : Int32) dX7_fewestGoings_114 (by decide) ?_
        refine lv_istore_n (lv' := [(3, .int (0 : Int32)), (0, .ref (ad 32)), (2, .int x2)]) F.1 F.2.1 dX7_fewestGoings_115 rfl hl (by decide) rfl (fun ls hl => ?_)
        have g18 : (0 : Int) ≤ (u.1 32 9).toInt ∧ (u.1 32 9).toInt ≤ 256 := hR 32 9
        exact L116 10 x2 (0 : Int32) _ _ _ _ hR hF (by decide) (by omega) (by decide) (by omega : (1 : Int) ≤ (u.1 32 9).toInt ∧ (u.1 32 9).toInt ≤ 256) (by omega) hP hD hS (lv_sub hl [1, 2, 0] rfl)
  have L25 : ∀ (n25 : Nat) (x2 : Int32) (u : ac_U) (H : Heap) (locs : List Loc) (ls : Array Slot), ac_R rg u → ac_Fr [(32, some 9), (35, none), (37, none)] u0 u → 8 - x2.toInt < (n25 : Int) → (0 : Int) ≤ x2.toInt ∧ x2.toInt ≤ 8 → (1 : Int) ≤ (u.1 32 9).toInt ∧ (u.1 32 9).toInt ≤ 256 → va_P (dC, dI) vwCl (ac_w ad cA (TT nF) u) H → va_D A (ac_w ad cA (TT nF) u) → va_S A s.heap H locs → lv_has ls 4 [(0, .ref (ad 32)), (2, .int x2)] → W p l e (ac_rmG 4) s m av below meth c H locs 1 51200 Q (F0 m 25 ls []) := by
    intro n25
    induction n25 with
    | zero => intro x2 u H locs ls hR hF hn25 f0 f1 hP hD hS hl; exfalso; omega
    | succ n25 ih25 =>
      intro x2 u H locs ls hR hF hn25 f0 f1 hP hD hS hl
      have L38 : ∀ (n38 : Nat) (x2 : Int32) (x3 : Int32) (u : ac_U) (H : Heap) (locs : List Loc) (ls : Array Slot), ac_R rg u → ac_Fr [(32, some 9), (35, none), (37, none)] u0 u → 256 - x3.toInt < (n38 : Int) → (0 : Int) ≤ x2.toInt ∧ x2.toInt ≤ 7 → (0 : Int) ≤ x3.toInt ∧ x3.toInt ≤ 256 → (1 : Int) ≤ (u.1 4 1).toInt ∧ (u.1 4 1).toInt ≤ 8 → (1 : Int) ≤ (u.1 32 9).toInt ∧ (u.1 32 9).toInt ≤ 256 → 8 - x2.toInt + 0 < ((n25 : Nat) : Int) + 1 → va_P (dC, dI) vwCl (ac_w ad cA (TT nF) u) H → va_D A (ac_w ad cA (TT nF) u) → va_S A s.heap H locs → lv_has ls 4 [(0, .ref (ad 32)), (2, .int x2), (3, .int x3)] → W p l e (ac_rmG 4) s m av below meth c H locs 1 51200 Q (F0 m 38 ls []) := by
        intro n38
        induction n38 with
        | zero => intro x2 x3 u H locs ls hR hF hn38 f0 f1 f2 f3 f4 hP hD hS hl; exfalso; omega
        | succ n38 ih38 =>
          intro x2 x3 u H locs ls hR hF hn38 f0 f1 f2 f3 f4 hP hD hS hl
          have L82 : ∀ (x2 : Int32) (x3 : Int32) (z1 : Int32) (z2 : Int32) (u : ac_U) (H : Heap) (locs : List Loc) (ls : Array Slot), ac_R rg u → ac_Fr [(32, some 9), (35, none), (37, none)] u0 u → (0 : Int) ≤ x2.toInt ∧ x2.toInt ≤ 7 → (0 : Int) ≤ x3.toInt ∧ x3.toInt ≤ 255 → (8192 : Int) ≤ z1.toInt ∧ z1.toInt ≤ 51199 → (0 : Int) ≤ z2.toInt ∧ z2.toInt ≤ 99 → (1 : Int) ≤ (u.1 4 1).toInt ∧ (u.1 4 1).toInt ≤ 8 → (1 : Int) ≤ (u.1 32 9).toInt ∧ (u.1 32 9).toInt ≤ 256 → 8 - x2.toInt + 0 < ((n25 : Nat) : Int) + 1 → 256 - x3.toInt + 0 < ((n38 : Nat) : Int) + 1 → va_P (dC, dI) vwCl (ac_w ad cA (TT nF) u) H → va_D A (ac_w ad cA (TT nF) u) → va_S A s.heap H locs → lv_has ls 4 [(0, .ref (ad 32)), (2, .int x2), (3, .int x3)] → W p l e (ac_rmG 4) s m av below meth c H locs 1 51200 Q (F0 m 82 ls [.int z2, .int z1, .ref (ad 37)]) := by
            intro x2 x3 z1 z2 u H locs ls hR hF f0 f1 f2 f3 f4 f5 f6 f7 hP hD hS hl
            refine a_i2b F dX7_fewestGoings_82 (fun v19 bv19 hv19 => ?_)
            refine a_bast F hP hD hS 37 tc_37 rfl (i_in rfl (by omega)) dX7_fewestGoings_83 (fun H locs hP hD hS => ?_)
            rw [bv19] at hP hD
            have hR := hR.si (c := 37) (k := z1.toNatClampNeg) (v := v19) (by omega : (-128 : Int) ≤ v19.toInt ∧ v19.toInt ≤ 127)
            have hF := hF.si (c := 37) (k := z1.toNatClampNeg) (v := v19) rfl
            refine a_iinc F (k := 2) (fun v20 => [(3, .int v20), (0, .ref (ad 32)), (2, .int x2)]) dX7_fewestGoings_84 hl rfl rfl (by decide) (by omega) (by decide) (fun _ => rfl) (fun v20 ls hv20 hl => ?_)
            refine lv_goto (tgt := 38) F.1 F.2.1 dX7_fewestGoings_87 (by decide) ?_
            have g21 : (0 : Int) ≤ (u.1 4 1).toInt ∧ (u.1 4 1).toInt ≤ 8 := hR 4 1
            have g22 : (0 : Int) ≤ (u.1 32 9).toInt ∧ (u.1 32 9).toInt ≤ 256 := hR 32 9
            exact ih38 x2 v20 _ _ _ _ hR hF (by omega) (by omega) (by omega) (by omega : (1 : Int) ≤ (u.1 4 1).toInt ∧ (u.1 4 1).toInt ≤ 8) (by omega : (1 : Int) ≤ (u.1 32 9).toInt ∧ (u.1 32 9).toInt ≤ 256) (by omega) hP hD hS (lv_sub hl [1, 2, 0] rfl)
          refine lv_iload_n F.1 F.2.1 dX7_fewestGoings_38 rfl (lv_at hl 2 rfl) ?_
          refine lv_aload_n F.1 F.2.1 dX7_fewestGoings_39 rfl (lv_at hl 0 rfl) ?_
          have g23 : (0 : Int) ≤ (u.1 32 9).toInt ∧ (u.1 32 9).toInt ≤ 256 := hR 32 9
          refine a_geti F inX7 hP 32 9 tc_32 rfl rfl (by decide) q343 (fun _ h9 => h9) (v := (u.1 32 9)) rfl dX7_fewestGoings_40 ?_
          refine b_ge F 90 dX7_fewestGoings_43 (by decide) rfl rfl (fun c24 => ?_) (fun c24 => ?_)
          · refine a_iinc F (k := 1) (fun v25 => [(2, .int v25), (0, .ref (ad 32)), (3, .int x3)]) dX7_fewestGoings_90 hl rfl rfl (by decide) (by omega) (by decide) (fun _ => rfl) (fun v25 ls hv25 hl => ?_)
            refine lv_goto (tgt := 25) F.1 F.2.1 dX7_fewestGoings_93 (by decide) ?_
            exact ih25 v25 _ _ _ _ hR hF (by omega) (by omega) (by omega : (1 : Int) ≤ (u.1 32 9).toInt ∧ (u.1 32 9).toInt ≤ 256) hP hD hS (lv_sub hl [1, 0] rfl)
          · refine lv_aload_n F.1 F.2.1 dX7_fewestGoings_46 rfl (lv_at hl 0 rfl) ?_
            refine a_getr F inX7 hP 32 7 tc_32 rfl rfl (by decide) q341 (fun _ h9 => h9) dX7_fewestGoings_47 ?_
            refine lv_aload_n F.1 F.2.1 dX7_fewestGoings_50 rfl (lv_at hl 0 rfl) ?_
            refine a_getr F inX7 hP 32 0 tc_32 rfl rfl (by decide) q334 (fun _ h9 => h9) dX7_fewestGoings_51 ?_
            have g26 : (4 : Int) ≤ (u.1 4 0).toInt ∧ (u.1 4 0).toInt ≤ 24 := hR 4 0
            refine a_geti F inX2 hP 4 0 tc_4 rfl rfl (by decide) q155 (fun _ h9 => h9) (v := (u.1 4 0)) rfl dX7_fewestGoings_54 ?_
            refine lv_iload_n F.1 F.2.1 dX7_fewestGoings_57 rfl (lv_at hl 1 rfl) ?_
            refine lv_aload_n F.1 F.2.1 dX7_fewestGoings_58 rfl (lv_at hl 0 rfl) ?_
            refine a_getr F inX7 hP 32 5 tc_32 rfl rfl (by decide) q339 (fun _ h9 => h9) dX7_fewestGoings_59 ?_
            refine lv_iload_n F.1 F.2.1 dX7_fewestGoings_62 rfl (lv_at hl 2 rfl) ?_
            refine a_iald F hP 35 tc_35 rfl (i_in rfl (by omega)) dX7_fewestGoings_63 (fun v27 ev27 => ?_)
            have hv27 : (0 : Int) ≤ v27.toInt ∧ v27.toInt ≤ 255 := ev27 ▸ hR 35 _
            refine a_Si F hml hl.1 hA hP hD hS (As := [.int (u.1 4 0), .int x2, .int v27]) (c_X7_cell l dC dI ad cA nF _ (u.1 4 0) x2 v27 hR (by omega) (by omega) (by omega)) (cs_RX7_111 (d := 1) F.2.2.1 (by decide)) rfl rfl (Nat.le_of_ble_eq_true rfl) dX7_fewestGoings_64 ⟨Nat.le_refl 1, Nat.le_refl 51200⟩ (fun r28 uN28 H locs hq hP hD hS => ?_)
            obtain ⟨hu28, gr28, xr28⟩ := hq
            rw [hu28] at hP hD
            have xr28 : r28.toInt = 2048 * (u.1 4 0).toInt + 256 * x2.toInt + v27.toInt := xr28
            refine lv_aload_n F.1 F.2.1 dX7_fewestGoings_67 rfl (lv_at hl 0 rfl) ?_
            refine a_getr F inX7 hP 32 5 tc_32 rfl rfl (by decide) q339 (fun _ h9 => h9) dX7_fewestGoings_68 ?_
            refine lv_iload_n F.1 F.2.1 dX7_fewestGoings_71 rfl (lv_at hl 2 rfl) ?_
            refine a_iald F hP 35 tc_35 rfl (i_in rfl (by omega)) dX7_fewestGoings_72 (fun v29 ev29 => ?_)
            have hv29 : (0 : Int) ≤ v29.toInt ∧ v29.toInt ≤ 255 := ev29 ▸ hR 35 _
            refine z_ne F 80 dX7_fewestGoings_73 (by decide) rfl (fun c30 => ?_) (fun c30 => ?_)
            · refine a_bp F (99 : Int32) dX7_fewestGoings_80 (by decide) ?_
              have g31 : (0 : Int) ≤ (u.1 4 1).toInt ∧ (u.1 4 1).toInt ≤ 8 := hR 4 1
              exact L82 x2 x3 r28 (99 : Int32) _ _ _ _ hR hF (by omega) (by omega) (by omega) (by decide) (by omega : (1 : Int) ≤ (u.1 4 1).toInt ∧ (u.1 4 1).toInt ≤ 8) (by omega : (1 : Int) ≤ (u.1 32 9).toInt ∧ (u.1 32 9).toInt ≤ 256) (by omega) (by omega) hP hD hS (lv_sub hl [0, 1, 2] rfl)
            · refine a_ic F (0 : Int32) dX7_fewestGoings_76 (by decide) ?_
              refine lv_goto (tgt := 82) F.1 F.2.1 dX7_fewestGoings_77 (by decide) ?_
              have g32 : (0 : Int) ≤ (u.1 4 1).toInt ∧ (u.1 4 1).toInt ≤ 8 := hR 4 1
              exact L82 x2 x3 r28 (0 : Int32) _ _ _ _ hR hF (by omega) (by omega) (by omega) (by decide) (by omega : (1 : Int) ≤ (u.1 4 1).toInt ∧ (u.1 4 1).toInt ≤ 8) (by omega : (1 : Int) ≤ (u.1 32 9).toInt ∧ (u.1 32 9).toInt ≤ 256) (by omega) (by omega) hP hD hS (lv_sub hl [0, 1, 2] rfl)
      refine lv_iload_n F.1 F.2.1 dX7_fewestGoings_25 rfl (lv_at hl 1 rfl) ?_
      refine lv_aload_n F.1 F.2.1 dX7_fewestGoings_26 rfl (lv_at hl 0 rfl) ?_
      refine a_getr F inX7 hP 32 0 tc_32 rfl rfl (by decide) q334 (fun _ h9 => h9) dX7_fewestGoings_27 ?_
      have g33 : (0 : Int) ≤ (u.1 4 1).toInt ∧ (u.1 4 1).toInt ≤ 8 := hR 4 1
      refine a_geti F inX2 hP 4 1 tc_4 rfl rfl (by decide) q160 (fun _ h9 => h9) (v := (u.1 4 1)) rfl dX7_fewestGoings_30 ?_
      refine b_ge F 96 dX7_fewestGoings_33 (by decide) rfl rfl (fun c34 => ?_) (fun c34 => ?_)
      · refine lv_aload_n F.1 F.2.1 dX7_fewestGoings_96 rfl (lv_at hl 0 rfl) ?_
        refine a_getr F inX7 hP 32 0 tc_32 rfl rfl (by decide) q334 (fun _ h9 => h9) dX7_fewestGoings_97 ?_
        have g35 : (4 : Int) ≤ (u.1 4 0).toInt ∧ (u.1 4 0).toInt ≤ 24 := hR 4 0
        refine a_geti F inX2 hP 4 0 tc_4 rfl rfl (by decide) q155 (fun _ h9 => h9) (v := (u.1 4 0)) rfl dX7_fewestGoings_100 ?_
        refine a_ic F (1 : Int32) dX7_fewestGoings_103 (by decide) ?_
        refine a_isub F dX7_fewestGoings_104 rfl ic_1 (by omega) (fun v36 hv36 => ?_)
        refine lv_istore_n (lv' := [(2, .int v36), (0, .ref (ad 32))]) F.1 F.2.1 dX7_fewestGoings_105 rfl hl (by decide) rfl (fun ls hl => ?_)
        have g37 : (0 : Int) ≤ (u.1 32 9).toInt ∧ (u.1 32 9).toInt ≤ 256 := hR 32 9
        exact L106 26 v36 _ _ _ _ hR hF (by omega) (by omega) (by omega : (1 : Int) ≤ (u.1 32 9).toInt ∧ (u.1 32 9).toInt ≤ 256) hP hD hS (lv_sub hl [1, 0] rfl)
      · refine a_ic F (0 : Int32) dX7_fewestGoings_36 (by decide) ?_
        refine lv_istore_n (lv' := [(3, .int (0 : Int32)), (0, .ref (ad 32)), (2, .int x2)]) F.1 F.2.1 dX7_fewestGoings_37 rfl hl (by decide) rfl (fun ls hl => ?_)
        have g38 : (0 : Int) ≤ (u.1 32 9).toInt ∧ (u.1 32 9).toInt ≤ 256 := hR 32 9
        exact L38 258 x2 (0 : Int32) _ _ _ _ hR hF (by decide) (by omega) (by decide) (by omega : (1 : Int) ≤ (u.1 4 1).toInt ∧ (u.1 4 1).toInt ≤ 8) (by omega : (1 : Int) ≤ (u.1 32 9).toInt ∧ (u.1 32 9).toInt ≤ 256) (by omega) hP hD hS (lv_sub hl [1, 2, 0] rfl)
  have L18 : ∀ (u : ac_U) (H : Heap) (locs : List Loc) (ls : Array Slot), ac_R rg u → ac_Fr [(32, some 9), (35, none), (37, none)] u0 u → va_P (dC, dI) vwCl (ac_w ad cA (TT nF) u) H → va_D A (ac_w ad cA (TT nF) u) → va_S A s.heap H locs → lv_has ls 4 [(0, .ref (ad 32)), (1, .int p0)] → W p l e (ac_rmG 4) s m av below meth c H locs 1 51200 Q (F0 m 18 ls []) := by
    intro u H locs ls hR hF hP hD hS hl
    refine lv_aload_n F.1 F.2.1 dX7_fewestGoings_18 rfl (lv_at hl 0 rfl) ?_
    refine lv_iload_n F.1 F.2.1 dX7_fewestGoings_19 rfl (lv_at hl 1 rfl) ?_
    refine a_Vv F hml hl.1 hA hP hD hS (As := [.int p0]) (c_X7_gatherStates_32 l dC dI ad cA nF _ p0 hR (by omega)) (cs_RX7_102 (d := 2) F.2.2.1 (by decide)) tc_32 rfl rfl rfl rfl (Nat.le_of_ble_eq_true rfl) dX7_fewestGoings_20 ⟨Nat.le_refl 1, Nat.le_refl 51200⟩ (fun u39 H locs hq hP hD hS => ?_)
    obtain ⟨hR, hF39, xr39⟩ := hq
    have hF := hF.tr hF39 (by decide)
    have g40 : (0 : Int) ≤ (u39.1 32 9).toInt ∧ (u39.1 32 9).toInt ≤ 256 := hR 32 9
    have xr39 : 1 ≤ (u39.1 32 9).toInt := xr39
    refine a_ic F (0 : Int32) dX7_fewestGoings_23 (by decide) ?_
    refine lv_istore_n (lv' := [(2, .int (0 : Int32)), (0, .ref (ad 32)), (1, .int p0)]) F.1 F.2.1 dX7_fewestGoings_24 rfl hl (by decide) rfl (fun ls hl => ?_)
    exact L25 10 (0 : Int32) _ _ _ _ hR hF (by decide) (by decide) (by omega : (1 : Int) ≤ (u39.1 32 9).toInt ∧ (u39.1 32 9).toInt ≤ 256) hP hD hS (lv_sub hl [1, 0] rfl)
  exact L18 _ _ _ _ hR hF hP hD hS (lv_sub hl [0, 1] rfl)
set_option maxHeartbeats 600000 in
set_option maxRecDepth 100000 in
theorem k_X7_quarrelOf_32_32 (l : Launch) (dC : Nat → ClassId) (dI : Nat → Nat → Nat) (ad : Nat → Nat) (cA : Nat → ClassId) (nF : Nat) (u0 : ac_U) (p0 : Int32) (x2 : Int32) (x3 : Int32) (hR : ac_R rg u0) (hp0 : (0 : Int) ≤ p0.toInt ∧ p0.toInt ≤ 3) (hnF : nF = 51200) (f0 : (0 : Int) ≤ x2.toInt ∧ x2.toInt ≤ 15) (f1 : (1 : Int) ≤ x3.toInt ∧ x3.toInt ≤ 4) (f2 : (1 : Int) ≤ (u0.1 32 9).toInt ∧ (u0.1 32 9).toInt ≤ 256) {p : Program} {e : Env} {s : State} {m : MethodId} {av : Array Value} {below : List Frame} {meth : Method} {c : Code} {A : Nat → Prop} {ls : Array Slot} {H : Heap} {locs : List Loc} {Q : State → Prop} (F : ac_X p s m av c cX7_quarrelOf RX7 TB (dC, dI) vwCl (ac_ty cA)) (hml : c.maxLocals = 5) (hA : ∀ q : Nat, s.heap.size ≤ q → A q) (hP : va_P (dC, dI) vwCl (ac_w ad cA (TT nF) u0) H) (hD : va_D A (ac_w ad cA (TT nF) u0)) (hS : va_S A s.heap H locs) (hl : lv_has ls 5 [(0, .ref (ad 32)), (2, .int x2), (3, .int x3)]) (kk : ∀ (r : Int32) (u : ac_U) (H : Heap) (locs : List Loc) (ls : Array Slot) (pc : Nat), decode cX7_quarrelOf pc = .ok (.ireturn, 1) → (ac_R rg u ∧ ac_Fr [(29, some 4), (29, some 5), (29, some 6), (30, none), (32, some 8), (32, some 9), (32, some 10), (32, some 11), (33, none), (34, none), (35, none), (37, none)] u0 u ∧ ((-1 : Int) ≤ r.toInt ∧ r.toInt ≤ 255)) → va_P (dC, dI) vwCl (ac_w ad cA (TT nF) u) H → va_D A (ac_w ad cA (TT nF) u) → va_S A s.heap H locs → W p l e (ac_rmG 7) s m av below meth c H locs 1 51200 Q (F0 m pc ls [.int r])) : W p l e (ac_rmG 7) s m av below meth c H locs 1 51200 Q (F0 m 32 ls []) := by
  have hF : ac_Fr [(29, some 4), (29, some 5), (29, some 6), (30, none), (32, some 8), (32, some 9), (32, some 10), (32, some 11), (33, none), (34, none), (35, none), (37, none)] u0 u0 := ac_Fr.rf
  have L32 : ∀ (n32 : Nat) (x2 : Int32) (x3 : Int32) (u : ac_U) (H : Heap) (locs : List Loc) (ls : Array Slot), ac_R rg u → ac_Fr [(29, some 4), (29, some 5), (29, some 6), (30, none), (32, some 8), (32, some 9), (32, some 10), (32, some 11), (33, none), (34, none), (35, none), (37, none)] u0 u → 4 - x3.toInt < (n32 : Int) → (0 : Int) ≤ x2.toInt ∧ x2.toInt ≤ 15 → (1 : Int) ≤ x3.toInt ∧ x3.toInt ≤ 4 → (1 : Int) ≤ (u.1 32 9).toInt ∧ (u.1 32 9).toInt ≤ 256 → va_P (dC, dI) vwCl (ac_w ad cA (TT nF) u) H → va_D A (ac_w ad cA (TT nF) u) → va_S A s.heap H locs → lv_has ls 5 [(0, .ref (ad 32)), (2, .int x2), (3, .int x3)] → W p l e (ac_rmG 7) s m av below meth c H locs 1 51200 Q (F0 m 32 ls []) := by
    intro n32
    induction n32 with
    | zero => intro x2 x3 u H locs ls hR hF hn32 f0 f1 f2 hP hD hS hl; exfalso; omega
    | succ n32 ih32 =>
      intro x2 x3 u H locs ls hR hF hn32 f0 f1 f2 hP hD hS hl
      have L43 : ∀ (n43 : Nat) (x2 : Int32) (x3 : Int32) (x4 : Int32) (u : ac_U) (H : Heap) (locs : List Loc) (ls : Array Slot), ac_R rg u → ac_Fr [(29, some 4), (29, some 5), (29, some 6), (30, none), (32, some 8), (32, some 9), (32, some 10), (32, some 11), (33, none), (34, none), (35, none), (37, none)] u0 u → 15 - x4.toInt < (n43 : Int) → (0 : Int) ≤ x2.toInt ∧ x2.toInt ≤ 15 → (1 : Int) ≤ x3.toInt ∧ x3.toInt ≤ 3 → (1 : Int) ≤ x4.toInt ∧ x4.toInt ≤ 15 → (2 : Int) ≤ (u.1 32 8).toInt ∧ (u.1 32 8).toInt ≤ 4 → (1 : Int) ≤ (u.1 32 9).toInt ∧ (u.1 32 9).toInt ≤ 256 → 4 - x3.toInt + 0 < ((n32 : Nat) : Int) + 1 → va_P (dC, dI) vwCl (ac_w ad cA (TT nF) u) H → va_D A (ac_w ad cA (TT nF) u) → va_S A s.heap H locs → lv_has ls 5 [(0, .ref (ad 32)), (2, .int x2), (3, .int x3), (4, .int x4)] → W p l e (ac_rmG 7) s m av below meth c H locs 1 51200 Q (F0 m 43 ls []) := by
        intro n43
        induction n43 with
        | zero => intro x2 x3 x4 u H locs ls hR hF hn43 f0 f1 f2 f3 f4 f5 hP hD hS hl; exfalso; omega
        | succ n43 ih43 =>
          intro x2 x3 x4 u H locs ls hR hF hn43 f0 f1 f2 f3 f4 f5 hP hD hS hl
          have L75 : ∀ (x2 : Int32) (x3 : Int32) (x4 : Int32) (u : ac_U) (H : Heap) (locs : List Loc) (ls : Array Slot), ac_R rg u → ac_Fr [(29, some 4), (29, some 5), (29, some 6), (30, none), (32, some 8), (32, some 9), (32, some 10), (32, some 11), (33, none), (34, none), (35, none), (37, none)] u0 u → (2 : Int) ≤ x2.toInt ∧ x2.toInt ≤ 15 → (1 : Int) ≤ x3.toInt ∧ x3.toInt ≤ 3 → (1 : Int) ≤ x4.toInt ∧ x4.toInt ≤ 14 → (2 : Int) ≤ (u.1 32 8).toInt ∧ (u.1 32 8).toInt ≤ 4 → (1 : Int) ≤ (u.1 32 9).toInt ∧ (u.1 32 9).toInt ≤ 256 → 4 - x3.toInt + 0 < ((n32 : Nat) : Int) + 1 → 15 - x4.toInt + 0 < ((n43 : Nat) : Int) + 1 → va_P (dC, dI) vwCl (ac_w ad cA (TT nF) u) H → va_D A (ac_w ad cA (TT nF) u) → va_S A s.heap H locs → lv_has ls 5 [(0, .ref (ad 32)), (2, .int x2), (3, .int x3), (4, .int x4)] → W p l e (ac_rmG 7) s m av below meth c H locs 1 51200 Q (F0 m 75 ls []) := by
            intro x2 x3 x4 u H locs ls hR hF f0 f1 f2 f3 f4 f5 f6 hP hD hS hl
            refine a_iinc F (k := 3) (fun v1 => [(4, .int v1), (0, .ref (ad 32)), (2, .int x2), (3, .int x3)]) dX7_quarrelOf_75 hl rfl rfl (by decide) (by omega) (by decide) (fun _ => rfl) (fun v1 ls hv1 hl => ?_)
            refine lv_goto (tgt := 43) F.1 F.2.1 dX7_quarrelOf_78 (by decide) ?_
            have g2 : (0 : Int) ≤ (u.1 32 8).toInt ∧ (u.1 32 8).toInt ≤ 4 := hR 32 8
            have g3 : (0 : Int) ≤ (u.1 32 9).toInt ∧ (u.1 32 9).toInt ≤ 256 := hR 32 9
            exact ih43 x2 x3 v1 _ _ _ _ hR hF (by omega) (by omega) (by omega) (by omega) (by omega : (2 : Int) ≤ (u.1 32 8).toInt ∧ (u.1 32 8).toInt ≤ 4) (by omega : (1 : Int) ≤ (u.1 32 9).toInt ∧ (u.1 32 9).toInt ≤ 256) (by omega) hP hD hS (lv_sub hl [1, 2, 3, 0] rfl)
          refine lv_iload F.1 F.2.1 dX7_quarrelOf_43 (lv_at hl 3 rfl) ?_
          refine lv_iload_n F.1 F.2.1 dX7_quarrelOf_45 rfl (lv_at hl 1 rfl) ?_
          refine b_ge F 81 dX7_quarrelOf_46 (by decide) rfl rfl (fun c4 => ?_) (fun c4 => ?_)
          · refine a_iinc F (k := 2) (fun v5 => [(3, .int v5), (0, .ref (ad 32)), (2, .int x2), (4, .int x4)]) dX7_quarrelOf_81 hl rfl rfl (by decide) (by omega) (by decide) (fun _ => rfl) (fun v5 ls hv5 hl => ?_)
            refine lv_goto (tgt := 32) F.1 F.2.1 dX7_quarrelOf_84 (by decide) ?_
            have g6 : (0 : Int) ≤ (u.1 32 9).toInt ∧ (u.1 32 9).toInt ≤ 256 := hR 32 9
            exact ih32 x2 v5 _ _ _ _ hR hF (by omega) (by omega) (by omega) (by omega : (1 : Int) ≤ (u.1 32 9).toInt ∧ (u.1 32 9).toInt ≤ 256) hP hD hS (lv_sub hl [1, 2, 0] rfl)
          · refine lv_iload F.1 F.2.1 dX7_quarrelOf_49 (lv_at hl 3 rfl) ?_
            refine a_Si F hml hl.1 hA hP hD hS (As := [.int x4]) (c_J6_bitCount_0f7a4 l dC dI ad cA nF _ x4 hR (by omega)) (cs_RX7_71 (d := 1) F.2.2.1 (by decide)) rfl rfl (Nat.le_of_ble_eq_true rfl) dX7_quarrelOf_51 ⟨Nat.le_refl 1, Nat.le_refl 51200⟩ (fun r7 uN7 H locs hq hP hD hS => ?_)
            obtain ⟨hu7, gr7⟩ := hq
            rw [hu7] at hP hD
            refine lv_iload_n F.1 F.2.1 dX7_quarrelOf_54 rfl (lv_at hl 2 rfl) ?_
            refine b_ne F 75 dX7_quarrelOf_55 (by decide) rfl rfl (fun c8 => ?_) (fun c8 => ?_)
            · have g9 : (0 : Int) ≤ (u.1 32 8).toInt ∧ (u.1 32 8).toInt ≤ 4 := hR 32 8
              have g10 : (0 : Int) ≤ (u.1 32 9).toInt ∧ (u.1 32 9).toInt ≤ 256 := hR 32 9
              exact L75 x2 x3 x4 _ _ _ _ hR hF (by omega) (by omega) (by omega) (by omega : (2 : Int) ≤ (u.1 32 8).toInt ∧ (u.1 32 8).toInt ≤ 4) (by omega : (1 : Int) ≤ (u.1 32 9).toInt ∧ (u.1 32 9).toInt ≤ 256) (by omega) (by omega) hP hD hS (lv_sub hl [0, 1, 2, 3] rfl)
            · refine lv_aload_n F.1 F.2.1 dX7_quarrelOf_58 rfl (lv_at hl 0 rfl) ?_
              refine lv_iload F.1 F.2.1 dX7_quarrelOf_59 (lv_at hl 3 rfl) ?_
              refine a_Vi F hml hl.1 hA hP hD hS (As := [.int x4]) (c_X7_fewestGoings_32 l dC dI ad cA nF _ x4 hR (by omega) hnF) (cs_RX7_63 (d := 4) F.2.2.1 (by decide)) tc_32 rfl rfl rfl rfl (Nat.le_of_ble_eq_true rfl) dX7_quarrelOf_61 ⟨Nat.le_refl 1, Nat.le_refl 51200⟩ (fun r11 u11 H locs hq hP hD hS => ?_)
              obtain ⟨hR, hF11, gr11, xr11⟩ := hq
              have hF := hF.tr hF11 (by decide)
              have g12 : (0 : Int) ≤ (u11.1 32 9).toInt ∧ (u11.1 32 9).toInt ≤ 256 := hR 32 9
              have xr11 : 1 ≤ (u11.1 32 9).toInt := xr11
              refine a_ic F (-1 : Int32) dX7_quarrelOf_64 (by decide) ?_
              refine b_ne F 75 dX7_quarrelOf_65 (by decide) rfl ic_m1 (fun c13 => ?_) (fun c13 => ?_)
              · exact L75 x2 x3 x4 _ _ _ _ hR hF (by omega) (by omega) (by omega) (i_trB (hF11 32 8 rfl) (by omega : (2 : Int) ≤ (u.1 32 8).toInt ∧ (u.1 32 8).toInt ≤ 4)) (by omega : (1 : Int) ≤ (u11.1 32 9).toInt ∧ (u11.1 32 9).toInt ≤ 256) (by omega) (by omega) hP hD hS (lv_sub hl [0, 1, 2, 3] rfl)
              · refine lv_aload_n F.1 F.2.1 dX7_quarrelOf_68 rfl (lv_at hl 0 rfl) ?_
                refine lv_iload F.1 F.2.1 dX7_quarrelOf_69 (lv_at hl 3 rfl) ?_
                refine a_Vi F hml hl.1 hA hP hD hS (As := [.int x4]) (c_X7_promiseBits_32 l dC dI ad cA nF _ x4 hR (by omega)) (cs_RX7_76 (d := 1) F.2.2.1 (by decide)) tc_32 rfl rfl rfl rfl (Nat.le_of_ble_eq_true rfl) dX7_quarrelOf_71 ⟨Nat.le_refl 1, Nat.le_refl 51200⟩ (fun r14 uN14 H locs hq hP hD hS => ?_)
                obtain ⟨hu14, gr14⟩ := hq
                rw [hu14] at hP hD
                exact kk _ _ _ _ _ _ dX7_quarrelOf_74 ⟨hR, hF, (by omega : (-1 : Int) ≤ r14.toInt ∧ r14.toInt ≤ 255)⟩ hP hD hS
      refine lv_iload_n F.1 F.2.1 dX7_quarrelOf_32 rfl (lv_at hl 2 rfl) ?_
      refine lv_aload_n F.1 F.2.1 dX7_quarrelOf_33 rfl (lv_at hl 0 rfl) ?_
      have g15 : (0 : Int) ≤ (u.1 32 8).toInt ∧ (u.1 32 8).toInt ≤ 4 := hR 32 8
      refine a_geti F inX7 hP 32 8 tc_32 rfl rfl (by decide) q342 (fun _ h9 => h9) (v := (u.1 32 8)) rfl dX7_quarrelOf_34 ?_
      refine b_ge F 87 dX7_quarrelOf_37 (by decide) rfl rfl (fun c16 => ?_) (fun c16 => ?_)
      · refine lv_aload_n F.1 F.2.1 dX7_quarrelOf_87 rfl (lv_at hl 0 rfl) ?_
        refine lv_iload_n F.1 F.2.1 dX7_quarrelOf_88 rfl (lv_at hl 1 rfl) ?_
        refine a_Vi F hml hl.1 hA hP hD hS (As := [.int x2]) (c_X7_promiseBits_32 l dC dI ad cA nF _ x2 hR (by omega)) (cs_RX7_76 (d := 1) F.2.2.1 (by decide)) tc_32 rfl rfl rfl rfl (Nat.le_of_ble_eq_true rfl) dX7_quarrelOf_89 ⟨Nat.le_refl 1, Nat.le_refl 51200⟩ (fun r17 uN17 H locs hq hP hD hS => ?_)
        obtain ⟨hu17, gr17⟩ := hq
        rw [hu17] at hP hD
        exact kk _ _ _ _ _ _ dX7_quarrelOf_92 ⟨hR, hF, (by omega : (-1 : Int) ≤ r17.toInt ∧ r17.toInt ≤ 255)⟩ hP hD hS
      · refine a_ic F (1 : Int32) dX7_quarrelOf_40 (by decide) ?_
        refine lv_istore (lv' := [(4, .int (1 : Int32)), (0, .ref (ad 32)), (2, .int x2), (3, .int x3)]) F.1 F.2.1 dX7_quarrelOf_41 hl (by decide) rfl (fun ls hl => ?_)
        have g18 : (0 : Int) ≤ (u.1 32 9).toInt ∧ (u.1 32 9).toInt ≤ 256 := hR 32 9
        exact L43 16 x2 x3 (1 : Int32) _ _ _ _ hR hF (by decide) (by omega) (by omega) (by decide) (by omega : (2 : Int) ≤ (u.1 32 8).toInt ∧ (u.1 32 8).toInt ≤ 4) (by omega : (1 : Int) ≤ (u.1 32 9).toInt ∧ (u.1 32 9).toInt ≤ 256) (by omega) hP hD hS (lv_sub hl [1, 2, 3, 0] rfl)
  have g19 : (0 : Int) ≤ (u0.1 32 9).toInt ∧ (u0.1 32 9).toInt ≤ 256 := hR 32 9
  exact L32 5 x2 x3 _ _ _ _ hR hF (by omega) (by omega) (by omega) (by omega : (1 : Int) ≤ (u0.1 32 9).toInt ∧ (u0.1 32 9).toInt ≤ 256) hP hD hS (lv_sub hl [0, 1, 2] rfl)

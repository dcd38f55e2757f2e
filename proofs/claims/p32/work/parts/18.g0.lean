theorem qz1875 : Cond.code yX12_plan cX12_plan 9 (some .int) ∈ TB := tb_of (List.mem_append_right _ (List.mem_append_right _ (List.mem_append_right _ (List.mem_append_right _ (List.mem_append_right _ (List.mem_append_right _ (List.mem_append_right _ (List.mem_append_right _ (List.mem_append_left _ (List.mem_of_getElem? (i := 195) rfl)))))))))) (by decide +kernel)
theorem qz1872 : Cond.methodLink RL 116 yX12_plan ∈ TB := tb_of (List.mem_append_right _ (List.mem_append_right _ (List.mem_append_right _ (List.mem_append_right _ (List.mem_append_right _ (List.mem_append_right _ (List.mem_append_right _ (List.mem_append_right _ (List.mem_append_left _ (List.mem_of_getElem? (i := 192) rfl)))))))))) (by decide +kernel)
theorem qz1873 : Cond.instanceMethod yX12_plan ∈ TB := tb_of (List.mem_append_right _ (List.mem_append_right _ (List.mem_append_right _ (List.mem_append_right _ (List.mem_append_right _ (List.mem_append_right _ (List.mem_append_right _ (List.mem_append_right _ (List.mem_append_left _ (List.mem_of_getElem? (i := 193) rfl)))))))))) (by decide +kernel)
theorem qz1874 : Cond.selects RX12 yX12_plan yX12_plan ∈ TB := tb_of (List.mem_append_right _ (List.mem_append_right _ (List.mem_append_right _ (List.mem_append_right _ (List.mem_append_right _ (List.mem_append_right _ (List.mem_append_right _ (List.mem_append_right _ (List.mem_append_left _ (List.mem_of_getElem? (i := 194) rfl)))))))))) (by decide +kernel)
theorem qz1001 : Cond.code yX11_plan cX11_plan 2 (some .int) ∈ TB := tb_of (List.mem_append_right _ (List.mem_append_right _ (List.mem_append_right _ (List.mem_append_right _ (List.mem_append_right _ (List.mem_append_left _ (List.mem_of_getElem? (i := 41) rfl))))))) (by decide +kernel)
theorem qz998 : Cond.methodLink RL 113 yX11_plan ∈ TB := tb_of (List.mem_append_right _ (List.mem_append_right _ (List.mem_append_right _ (List.mem_append_right _ (List.mem_append_right _ (List.mem_append_left _ (List.mem_of_getElem? (i := 38) rfl))))))) (by decide +kernel)
theorem qz999 : Cond.instanceMethod yX11_plan ∈ TB := tb_of (List.mem_append_right _ (List.mem_append_right _ (List.mem_append_right _ (List.mem_append_right _ (List.mem_append_right _ (List.mem_append_left _ (List.mem_of_getElem? (i := 39) rfl))))))) (by decide +kernel)
theorem qz1000 : Cond.selects RX11 yX11_plan yX11_plan ∈ TB := tb_of (List.mem_append_right _ (List.mem_append_right _ (List.mem_append_right _ (List.mem_append_right _ (List.mem_append_right _ (List.mem_append_left _ (List.mem_of_getElem? (i := 40) rfl))))))) (by decide +kernel)
theorem qz1917 : Cond.code yX12_quarrel cX12_quarrel 5 (some .int) ∈ TB := tb_of (List.mem_append_right _ (List.mem_append_right _ (List.mem_append_right _ (List.mem_append_right _ (List.mem_append_right _ (List.mem_append_right _ (List.mem_append_right _ (List.mem_append_right _ (List.mem_append_left _ (List.mem_of_getElem? (i := 237) rfl)))))))))) (by decide +kernel)
theorem qz1914 : Cond.methodLink RL 124 yX12_quarrel ∈ TB := tb_of (List.mem_append_right _ (List.mem_append_right _ (List.mem_append_right _ (List.mem_append_right _ (List.mem_append_right _ (List.mem_append_right _ (List.mem_append_right _ (List.mem_append_right _ (List.mem_append_left _ (List.mem_of_getElem? (i := 234) rfl)))))))))) (by decide +kernel)
theorem qz1915 : Cond.instanceMethod yX12_quarrel ∈ TB := tb_of (List.mem_append_right _ (List.mem_append_right _ (List.mem_append_right _ (List.mem_append_right _ (List.mem_append_right _ (List.mem_append_right _ (List.mem_append_right _ (List.mem_append_right _ (List.mem_append_left _ (List.mem_of_getElem? (i := 235) rfl)))))))))) (by decide +kernel)
theorem qz1916 : Cond.selects RX12 yX12_quarrel yX12_quarrel ∈ TB := tb_of (List.mem_append_right _ (List.mem_append_right _ (List.mem_append_right _ (List.mem_append_right _ (List.mem_append_right _ (List.mem_append_right _ (List.mem_append_right _ (List.mem_append_right _ (List.mem_append_left _ (List.mem_of_getElem? (i := 236) rfl)))))))))) (by decide +kernel)
theorem qz1073 : Cond.code yX11_quarrel cX11_quarrel 2 (some .int) ∈ TB := tb_of (List.mem_append_right _ (List.mem_append_right _ (List.mem_append_right _ (List.mem_append_right _ (List.mem_append_right _ (List.mem_append_left _ (List.mem_of_getElem? (i := 113) rfl))))))) (by decide +kernel)
theorem qz1070 : Cond.methodLink RL 121 yX11_quarrel ∈ TB := tb_of (List.mem_append_right _ (List.mem_append_right _ (List.mem_append_right _ (List.mem_append_right _ (List.mem_append_right _ (List.mem_append_left _ (List.mem_of_getElem? (i := 110) rfl))))))) (by decide +kernel)
theorem qz1071 : Cond.instanceMethod yX11_quarrel ∈ TB := tb_of (List.mem_append_right _ (List.mem_append_right _ (List.mem_append_right _ (List.mem_append_right _ (List.mem_append_right _ (List.mem_append_left _ (List.mem_of_getElem? (i := 111) rfl))))))) (by decide +kernel)
theorem qz1072 : Cond.selects RX11 yX11_quarrel yX11_quarrel ∈ TB := tb_of (List.mem_append_right _ (List.mem_append_right _ (List.mem_append_right _ (List.mem_append_right _ (List.mem_append_right _ (List.mem_append_left _ (List.mem_of_getElem? (i := 112) rfl))))))) (by decide +kernel)
set_option maxHeartbeats 1000000 in
theorem law_d22 {p : Program} {l : Launch} {e : Env} {s : State} {m : MethodId} {below : List Frame} {meth : Method} {c : Code} {dC : Nat → ClassId} {dI : Nat → Nat → Nat} {cA : Nat → ClassId} {b L ax bm o j nF : Nat} {xs : Nat → Int32} {i : Int32} {ad : Nat → Nat} {u : ac_U} {H : Heap} {locs : List Loc} {ls : Array Slot} {Q : State → Prop} (F : ac_X p s m #[.ref b] c cL_law RL TB (dC, dI) vwCl (ac_ty cA)) (hml : c.maxLocals = 7) (hX : va_X b L xs s s.heap) (hbl : b < s.heap.size) (hL : L ≤ 3072) (hi : i.toInt = 6 * (j : Int)) (hj : 6 * j + 6 ≤ L) (hG : lw_I (dC, dI) cA ax bm o (fun q => s.heap.size ≤ q) nF ad u H) (hS : va_S (fun q => s.heap.size ≤ q) s.heap H locs) (hl : lv_has ls 7 [(4, .int i), (3, .ref o), (2, .ref bm), (1, .ref ax), (0, .ref b)])
    (KK : ∀ (nF : Nat) (ad : Nat → Nat) (u : ac_U) (H : Heap) (locs : List Loc) (ls : Array Slot), lw_I (dC, dI) cA ax bm o (fun q => s.heap.size ≤ q) nF ad u H → va_S (fun q => s.heap.size ≤ q) s.heap H locs → lv_has ls 7 [(4, .int i), (3, .ref o), (2, .ref bm), (1, .ref ax), (0, .ref b)] → W p l e room_1 s m #[.ref b] below meth c H locs (cN nF (j + 1)) (sN nF (j + 1)) Q (F0 m 1481 ls [])) : W p l e room_1 s m #[.ref b] below meth c H locs (cN nF j) (sN nF j) Q (F0 m 944 ls []) := by
  obtain ⟨hn, rfl, rfl, hN, ⟨hI, hE, hH, hT, hM⟩, hP, hD, fo, hO⟩ := hG
  have hA : ∀ q : Nat, s.heap.size ≤ q → (fun q : Nat => s.heap.size ≤ q) q := fun _ h => h
  have hbA : ¬ (fun q : Nat => s.heap.size ≤ q) b := Nat.not_le.mpr hbl
  have hf : cN nF j ≤ room_1.cells ∧ sN nF j ≤ room_1.slots := by
    have := cN_le (nF := nF) (j := j) hn (by omega)
    omega
  refine lv_aload_n F.1 F.2.1 dL_law_944 rfl (lv_at hl 2 rfl) ?_
  refine lv_aload_n F.1 F.2.1 dL_law_945 rfl (lv_at hl 4 rfl) ?_
  refine lv_iload F.1 F.2.1 dL_law_946 (lv_at hl 0 rfl) ?_
  refine a_ic F (1 : Int32) dL_law_948 (by decide) ?_
  refine a_iadd F dL_law_949 hi ic_1 (by omega) (fun v1 hv1 => ?_)
  refine va_sld F.1 F.2.1 hX hbl hbA hS (i_in hv1 (by omega)) dL_law_950 ?_
  refine lw_Vi (o := o) (c0 := 85) F hml hl.1 hA hP hD hO hN hS (As := [.int (xs v1.toNatClampNeg)]) (c_X12_plan_85 l dC dI ad cA nF u (xs v1.toNatClampNeg) hI.1 hI.2.2.2.2.2.1 hI.2.2.2.2.2.2.2.2.2.1) ⟨callB_of 1 F.2.2.1 (tb_good qz1875) rfl rfl rfl (F.2.2.1 _ qz17) (F.2.2.1 _ qz1872) (by decide +kernel) (by decide), F.2.2.1 _ qz1873, F.2.2.1 _ qz1874⟩ tc_85 rfl rfl rfl rfl (Nat.le_of_ble_eq_true rfl) dL_law_951 hf (fun r1 u1 H locs hw hP hD hO hS => ?_)
  have hH : hxI u1 := sp_fr sp_HX hw.2.1 (by decide) hH
  have hT : byI u1 := by_fr hw.2.1 rfl rfl hT
  have hM : imI u1 := sp_fr sp_IM hw.2.1 (by decide) hM
  have hE : eqv u1 := sp_fr sp_eqv hw.2.1 (by decide) hE
  have hI : inv0 u1 := ⟨hw.1, sp_fr (sp_nm 11 12) (hw.2.1) (by decide) (hI.2.1), sp_fr (sp_nm 20 21) (hw.2.1) (by decide) (hI.2.2.1), sp_fr (sp_nm 62 63) (hw.2.1) (by decide) (hI.2.2.2.1), sp_fr (sp_nm 71 72) (hw.2.1) (by decide) (hI.2.2.2.2.1), sp_fr (sp_MS) (hw.2.1) (by decide) (hI.2.2.2.2.2.1), sp_fr (sp_UI) (hw.2.1) (by decide) (hI.2.2.2.2.2.2.1), sp_fr (sp_CW) (hw.2.1) (by decide) (hI.2.2.2.2.2.2.2.1), sp_fr (sp_KI) (hw.2.1) (by decide) (hI.2.2.2.2.2.2.2.2.1), sp_fr (sp_AP) (hw.2.1) (by decide) (hI.2.2.2.2.2.2.2.2.2.1), sp_fr (sp_AU) (hw.2.1) (by decide) (hI.2.2.2.2.2.2.2.2.2.2.1), sp_fr (sp_AK) (hw.2.1) (by decide) (hI.2.2.2.2.2.2.2.2.2.2.2)⟩
  clear hw
  refine lv_pop F.1 F.2.1 dL_law_954 rfl ?_
  refine lv_goto (tgt := 1481) F.1 F.2.1 dL_law_955 (by decide) ?_
  exact W.widen cN_up.1 cN_up.2 (KK nF ad _ H locs ls ⟨hn, rfl, rfl, hN, ⟨hI, hE, hH, hT, hM⟩, hP, hD, fo, hO⟩ hS hl)
set_option maxHeartbeats 1000000 in
theorem law_c22 {p : Program} {l : Launch} {e : Env} {s : State} {m : MethodId} {below : List Frame} {meth : Method} {c : Code} {dC : Nat → ClassId} {dI : Nat → Nat → Nat} {cA : Nat → ClassId} {b L ax bm o j nF : Nat} {xs : Nat → Int32} {i : Int32} {ad : Nat → Nat} {u : ac_U} {H : Heap} {locs : List Loc} {ls : Array Slot} {Q : State → Prop} (F : ac_X p s m #[.ref b] c cL_law RL TB (dC, dI) vwCl (ac_ty cA)) (hml : c.maxLocals = 7) (hX : va_X b L xs s s.heap) (hbl : b < s.heap.size) (hL : L ≤ 3072) (hi : i.toInt = 6 * (j : Int)) (hj : 6 * j + 6 ≤ L) (hG : lw_I (dC, dI) cA ax bm o (fun q => s.heap.size ≤ q) nF ad u H) (hS : va_S (fun q => s.heap.size ≤ q) s.heap H locs) (hl : lv_has ls 7 [(4, .int i), (3, .ref o), (2, .ref bm), (1, .ref ax), (0, .ref b)])
    (KK : ∀ (nF : Nat) (ad : Nat → Nat) (u : ac_U) (H : Heap) (locs : List Loc) (ls : Array Slot), lw_I (dC, dI) cA ax bm o (fun q => s.heap.size ≤ q) nF ad u H → va_S (fun q => s.heap.size ≤ q) s.heap H locs → lv_has ls 7 [(4, .int i), (3, .ref o), (2, .ref bm), (1, .ref ax), (0, .ref b)] → W p l e room_1 s m #[.ref b] below meth c H locs (cN nF (j + 1)) (sN nF (j + 1)) Q (F0 m 1481 ls [])) : W p l e room_1 s m #[.ref b] below meth c H locs (cN nF j) (sN nF j) Q (F0 m 933 ls []) := by
  obtain ⟨hn, rfl, rfl, hN, ⟨hI, hE, hH, hT, hM⟩, hP, hD, fo, hO⟩ := hG
  have hA : ∀ q : Nat, s.heap.size ≤ q → (fun q : Nat => s.heap.size ≤ q) q := fun _ h => h
  have hbA : ¬ (fun q : Nat => s.heap.size ≤ q) b := Nat.not_le.mpr hbl
  have hf : cN nF j ≤ room_1.cells ∧ sN nF j ≤ room_1.slots := by
    have := cN_le (nF := nF) (j := j) hn (by omega)
    omega
  refine lv_aload_n F.1 F.2.1 dL_law_933 rfl (lv_at hl 3 rfl) ?_
  refine lv_aload_n F.1 F.2.1 dL_law_934 rfl (lv_at hl 4 rfl) ?_
  refine lv_iload F.1 F.2.1 dL_law_935 (lv_at hl 0 rfl) ?_
  refine a_ic F (1 : Int32) dL_law_937 (by decide) ?_
  refine a_iadd F dL_law_938 hi ic_1 (by omega) (fun v1 hv1 => ?_)
  refine va_sld F.1 F.2.1 hX hbl hbA hS (i_in hv1 (by omega)) dL_law_939 ?_
  rcases hn with rfl | rfl
  · have hf2 := cN_le (nF := 0) (j := j) (Or.inl rfl) (by omega)
    have ho := hO.lt
    refine g_Vi (c0 := 0) F hml hl.1 hA hP hD hS (As := [.int (xs v1.toNatClampNeg)]) (g_X11_plan_0 l dC dI ad cA u (xs v1.toNatClampNeg) hI.1) ⟨callB_of 1 F.2.2.1 (tb_good qz1001) rfl rfl rfl (F.2.2.1 _ qz1) (F.2.2.1 _ qz998) (by decide +kernel) (by decide), F.2.2.1 _ qz999, F.2.2.1 _ qz1000⟩ tc_0 rfl rfl rfl rfl (Nat.le_of_ble_eq_true rfl) dL_law_940 hf2 (fun r1 u1 H1 locs hw hk hP hD hS => ?_) (fun r1 u1 ad1 H1 locs hw had hk hP hD hin hS => ?_)
    · have hE : eqv u1 := sp_fr sp_eqv hw.2 (by decide) hE
      have hH : hxI u1 := sp_fr sp_HX hw.2 (by decide) hH
      have hT : byI u1 := by_fr hw.2 rfl rfl hT
      have hM : imI u1 := sp_fr sp_IM hw.2 (by decide) hM
      have hI : inv0 u1 := ⟨hw.1, sp_fr (sp_nm 11 12) hw.2 (by decide) (hI.2.1), sp_fr (sp_nm 20 21) hw.2 (by decide) (hI.2.2.1), sp_fr (sp_nm 62 63) hw.2 (by decide) (hI.2.2.2.1), sp_fr (sp_nm 71 72) hw.2 (by decide) (hI.2.2.2.2.1), sp_fr (sp_MS) hw.2 (by decide) (hI.2.2.2.2.2.1), sp_fr (sp_UI) hw.2 (by decide) (hI.2.2.2.2.2.2.1), sp_fr (sp_CW) hw.2 (by decide) (hI.2.2.2.2.2.2.2.1), sp_fr (sp_KI) hw.2 (by decide) (hI.2.2.2.2.2.2.2.2.1), sp_fr (sp_AP) hw.2 (by decide) (hI.2.2.2.2.2.2.2.2.2.1), sp_fr (sp_AU) hw.2 (by decide) (hI.2.2.2.2.2.2.2.2.2.2.1), sp_fr (sp_AK) hw.2 (by decide) (hI.2.2.2.2.2.2.2.2.2.2.2)⟩
      refine lv_pop F.1 F.2.1 dL_law_943 rfl ?_
      exact law_d22 F hml hX hbl hL hi hj ⟨Or.inl rfl, rfl, rfl, hN, ⟨hI, hE, hH, hT, hM⟩, hP, hD, fo, va_at.kept hO (hk o ho (lw_no hN ho))⟩ hS hl KK
    · have hE : eqv u1 := sp_fr sp_eqv hw.2 (by decide) hE
      have hH : hxI u1 := sp_fr sp_HX hw.2 (by decide) hH
      have hT : byI u1 := by_fr hw.2 rfl rfl hT
      have hM : imI u1 := sp_fr sp_IM hw.2 (by decide) hM
      have hI : inv0 u1 := ⟨hw.1, sp_fr (sp_nm 11 12) hw.2 (by decide) (hI.2.1), sp_fr (sp_nm 20 21) hw.2 (by decide) (hI.2.2.1), sp_fr (sp_nm 62 63) hw.2 (by decide) (hI.2.2.2.1), sp_fr (sp_nm 71 72) hw.2 (by decide) (hI.2.2.2.2.1), sp_fr (sp_MS) hw.2 (by decide) (hI.2.2.2.2.2.1), sp_fr (sp_UI) hw.2 (by decide) (hI.2.2.2.2.2.2.1), sp_fr (sp_CW) hw.2 (by decide) (hI.2.2.2.2.2.2.2.1), sp_fr (sp_KI) hw.2 (by decide) (hI.2.2.2.2.2.2.2.2.1), sp_fr (sp_AP) hw.2 (by decide) (hI.2.2.2.2.2.2.2.2.2.1), sp_fr (sp_AU) hw.2 (by decide) (hI.2.2.2.2.2.2.2.2.2.2.1), sp_fr (sp_AK) hw.2 (by decide) (hI.2.2.2.2.2.2.2.2.2.2.2)⟩
      have hN1 : ∀ z, z < 105 → ad1 z ≠ o := fun z hz he => by
        have hz1 : z < (TT 51200).length := hz
        have h1 := hin z _ (ac_at (ad := ad1) (cA := cA) (u := u1) (List.getElem?_eq_getElem hz1))
        rw [he] at h1
        exact lw_no (T := TT 0) (ad := ad) (cA := cA) (u := u) hN ho h1
      refine W.widen (k := cN 51200 j) (n := sN 51200 j) (by unfold cN; simp) (by unfold sN; omega) ?_
      refine lv_pop F.1 F.2.1 dL_law_943 rfl ?_
      exact law_d22 F hml hX hbl hL hi hj ⟨Or.inr rfl, had 0 (by decide), had 85 (by decide), hN1, ⟨hI, hE, hH, hT, hM⟩, hP, hD, fo, va_at.kept hO (hk o ho (lw_no hN ho))⟩ hS hl KK
  · refine lw_Vi (o := o) (c0 := 0) F hml hl.1 hA hP hD hO hN hS (As := [.int (xs v1.toNatClampNeg)]) (c_X11_plan_0 l dC dI ad cA 51200 u (xs v1.toNatClampNeg) hI.1 rfl) ⟨callB_of 1 F.2.2.1 (tb_good qz1001) rfl rfl rfl (F.2.2.1 _ qz1) (F.2.2.1 _ qz998) (by decide +kernel) (by decide), F.2.2.1 _ qz999, F.2.2.1 _ qz1000⟩ tc_0 rfl rfl rfl rfl (Nat.le_of_ble_eq_true rfl) dL_law_940 hf (fun r1 u1 H locs hw hP hD hO hS => ?_)
    have hH : hxI u1 := sp_fr sp_HX hw.2.1 (by decide) hH
    have hT : byI u1 := by_fr hw.2.1 rfl rfl hT
    have hM : imI u1 := sp_fr sp_IM hw.2.1 (by decide) hM
    have hE : eqv u1 := sp_fr sp_eqv hw.2.1 (by decide) hE
    have hI : inv0 u1 := ⟨hw.1, sp_fr (sp_nm 11 12) (hw.2.1) (by decide) (hI.2.1), sp_fr (sp_nm 20 21) (hw.2.1) (by decide) (hI.2.2.1), sp_fr (sp_nm 62 63) (hw.2.1) (by decide) (hI.2.2.2.1), sp_fr (sp_nm 71 72) (hw.2.1) (by decide) (hI.2.2.2.2.1), sp_fr (sp_MS) (hw.2.1) (by decide) (hI.2.2.2.2.2.1), sp_fr (sp_UI) (hw.2.1) (by decide) (hI.2.2.2.2.2.2.1), sp_fr (sp_CW) (hw.2.1) (by decide) (hI.2.2.2.2.2.2.2.1), sp_fr (sp_KI) (hw.2.1) (by decide) (hI.2.2.2.2.2.2.2.2.1), sp_fr (sp_AP) (hw.2.1) (by decide) (hI.2.2.2.2.2.2.2.2.2.1), sp_fr (sp_AU) (hw.2.1) (by decide) (hI.2.2.2.2.2.2.2.2.2.2.1), sp_fr (sp_AK) (hw.2.1) (by decide) (hI.2.2.2.2.2.2.2.2.2.2.2)⟩
    refine lv_pop F.1 F.2.1 dL_law_943 rfl ?_
    exact law_d22 F hml hX hbl hL hi hj ⟨Or.inr rfl, rfl, rfl, hN, ⟨hI, hE, hH, hT, hM⟩, hP, hD, fo, hO⟩ hS hl KK
set_option maxHeartbeats 1000000 in
theorem law_d24 {p : Program} {l : Launch} {e : Env} {s : State} {m : MethodId} {below : List Frame} {meth : Method} {c : Code} {dC : Nat → ClassId} {dI : Nat → Nat → Nat} {cA : Nat → ClassId} {b L ax bm o j nF : Nat} {xs : Nat → Int32} {i : Int32} {ad : Nat → Nat} {u : ac_U} {H : Heap} {locs : List Loc} {ls : Array Slot} {Q : State → Prop} (F : ac_X p s m #[.ref b] c cL_law RL TB (dC, dI) vwCl (ac_ty cA)) (hml : c.maxLocals = 7) (hX : va_X b L xs s s.heap) (hbl : b < s.heap.size) (hL : L ≤ 3072) (hi : i.toInt = 6 * (j : Int)) (hj : 6 * j + 6 ≤ L) (hG : lw_I (dC, dI) cA ax bm o (fun q => s.heap.size ≤ q) nF ad u H) (hS : va_S (fun q => s.heap.size ≤ q) s.heap H locs) (hl : lv_has ls 7 [(4, .int i), (3, .ref o), (2, .ref bm), (1, .ref ax), (0, .ref b)])
    (KK : ∀ (nF : Nat) (ad : Nat → Nat) (u : ac_U) (H : Heap) (locs : List Loc) (ls : Array Slot), lw_I (dC, dI) cA ax bm o (fun q => s.heap.size ≤ q) nF ad u H → va_S (fun q => s.heap.size ≤ q) s.heap H locs → lv_has ls 7 [(4, .int i), (3, .ref o), (2, .ref bm), (1, .ref ax), (0, .ref b)] → W p l e room_1 s m #[.ref b] below meth c H locs (cN nF (j + 1)) (sN nF (j + 1)) Q (F0 m 1481 ls [])) : W p l e room_1 s m #[.ref b] below meth c H locs (cN nF j) (sN nF j) Q (F0 m 994 ls []) := by
  obtain ⟨hn, rfl, rfl, hN, ⟨hI, hE, hH, hT, hM⟩, hP, hD, fo, hO⟩ := hG
  have hA : ∀ q : Nat, s.heap.size ≤ q → (fun q : Nat => s.heap.size ≤ q) q := fun _ h => h
  have hbA : ¬ (fun q : Nat => s.heap.size ≤ q) b := Nat.not_le.mpr hbl
  have hf : cN nF j ≤ room_1.cells ∧ sN nF j ≤ room_1.slots := by
    have := cN_le (nF := nF) (j := j) hn (by omega)
    omega
  refine lv_aload_n F.1 F.2.1 dL_law_994 rfl (lv_at hl 2 rfl) ?_
  refine lv_aload_n F.1 F.2.1 dL_law_995 rfl (lv_at hl 4 rfl) ?_
  refine lv_iload F.1 F.2.1 dL_law_996 (lv_at hl 0 rfl) ?_
  refine a_ic F (1 : Int32) dL_law_998 (by decide) ?_
  refine a_iadd F dL_law_999 hi ic_1 (by omega) (fun v1 hv1 => ?_)
  refine va_sld F.1 F.2.1 hX hbl hbA hS (i_in hv1 (by omega)) dL_law_1000 ?_
  refine lw_Vi (o := o) (c0 := 85) F hml hl.1 hA hP hD hO hN hS (As := [.int (xs v1.toNatClampNeg)]) (c_X12_quarrel_85 l dC dI ad cA nF u (xs v1.toNatClampNeg) hI.1 ) ⟨callB_of 1 F.2.2.1 (tb_good qz1917) rfl rfl rfl (F.2.2.1 _ qz17) (F.2.2.1 _ qz1914) (by decide +kernel) (by decide), F.2.2.1 _ qz1915, F.2.2.1 _ qz1916⟩ tc_85 rfl rfl rfl rfl (Nat.le_of_ble_eq_true rfl) dL_law_1001 hf (fun r1 u1 H locs hw hP hD hO hS => ?_)
  have hH : hxI u1 := sp_fr sp_HX hw.2.1 (by decide) hH
  have hT : byI u1 := by_fr hw.2.1 rfl rfl hT
  have hM : imI u1 := sp_fr sp_IM hw.2.1 (by decide) hM
  have hE : eqv u1 := sp_fr sp_eqv hw.2.1 (by decide) hE
  have hI : inv0 u1 := ⟨hw.1, sp_fr (sp_nm 11 12) (hw.2.1) (by decide) (hI.2.1), sp_fr (sp_nm 20 21) (hw.2.1) (by decide) (hI.2.2.1), sp_fr (sp_nm 62 63) (hw.2.1) (by decide) (hI.2.2.2.1), sp_fr (sp_nm 71 72) (hw.2.1) (by decide) (hI.2.2.2.2.1), sp_fr (sp_MS) (hw.2.1) (by decide) (hI.2.2.2.2.2.1), sp_fr (sp_UI) (hw.2.1) (by decide) (hI.2.2.2.2.2.2.1), sp_fr (sp_CW) (hw.2.1) (by decide) (hI.2.2.2.2.2.2.2.1), sp_fr (sp_KI) (hw.2.1) (by decide) (hI.2.2.2.2.2.2.2.2.1), sp_fr (sp_AP) (hw.2.1) (by decide) (hI.2.2.2.2.2.2.2.2.2.1), sp_fr (sp_AU) (hw.2.1) (by decide) (hI.2.2.2.2.2.2.2.2.2.2.1), sp_fr (sp_AK) (hw.2.1) (by decide) (hI.2.2.2.2.2.2.2.2.2.2.2)⟩
  clear hw
  refine lv_pop F.1 F.2.1 dL_law_1004 rfl ?_
  refine lv_goto (tgt := 1481) F.1 F.2.1 dL_law_1005 (by decide) ?_
  exact W.widen cN_up.1 cN_up.2 (KK nF ad _ H locs ls ⟨hn, rfl, rfl, hN, ⟨hI, hE, hH, hT, hM⟩, hP, hD, fo, hO⟩ hS hl)
set_option maxHeartbeats 1000000 in
theorem law_c24 {p : Program} {l : Launch} {e : Env} {s : State} {m : MethodId} {below : List Frame} {meth : Method} {c : Code} {dC : Nat → ClassId} {dI : Nat → Nat → Nat} {cA : Nat → ClassId} {b L ax bm o j nF : Nat} {xs : Nat → Int32} {i : Int32} {ad : Nat → Nat} {u : ac_U} {H : Heap} {locs : List Loc} {ls : Array Slot} {Q : State → Prop} (F : ac_X p s m #[.ref b] c cL_law RL TB (dC, dI) vwCl (ac_ty cA)) (hml : c.maxLocals = 7) (hX : va_X b L xs s s.heap) (hbl : b < s.heap.size) (hL : L ≤ 3072) (hi : i.toInt = 6 * (j : Int)) (hj : 6 * j + 6 ≤ L) (hG : lw_I (dC, dI) cA ax bm o (fun q => s.heap.size ≤ q) nF ad u H) (hS : va_S (fun q => s.heap.size ≤ q) s.heap H locs) (hl : lv_has ls 7 [(4, .int i), (3, .ref o), (2, .ref bm), (1, .ref ax), (0, .ref b)])
    (KK : ∀ (nF : Nat) (ad : Nat → Nat) (u : ac_U) (H : Heap) (locs : List Loc) (ls : Array Slot), lw_I (dC, dI) cA ax bm o (fun q => s.heap.size ≤ q) nF ad u H → va_S (fun q => s.heap.size ≤ q) s.heap H locs → lv_has ls 7 [(4, .int i), (3, .ref o), (2, .ref bm), (1, .ref ax), (0, .ref b)] → W p l e room_1 s m #[.ref b] below meth c H locs (cN nF (j + 1)) (sN nF (j + 1)) Q (F0 m 1481 ls [])) : W p l e room_1 s m #[.ref b] below meth c H locs (cN nF j) (sN nF j) Q (F0 m 983 ls []) := by
  obtain ⟨hn, rfl, rfl, hN, ⟨hI, hE, hH, hT, hM⟩, hP, hD, fo, hO⟩ := hG
  have hA : ∀ q : Nat, s.heap.size ≤ q → (fun q : Nat => s.heap.size ≤ q) q := fun _ h => h
  have hbA : ¬ (fun q : Nat => s.heap.size ≤ q) b := Nat.not_le.mpr hbl
  have hf : cN nF j ≤ room_1.cells ∧ sN nF j ≤ room_1.slots := by
    have := cN_le (nF := nF) (j := j) hn (by omega)
    omega
  refine lv_aload_n F.1 F.2.1 dL_law_983 rfl (lv_at hl 3 rfl) ?_
  refine lv_aload_n F.1 F.2.1 dL_law_984 rfl (lv_at hl 4 rfl) ?_
  refine lv_iload F.1 F.2.1 dL_law_985 (lv_at hl 0 rfl) ?_
  refine a_ic F (1 : Int32) dL_law_987 (by decide) ?_
  refine a_iadd F dL_law_988 hi ic_1 (by omega) (fun v1 hv1 => ?_)
  refine va_sld F.1 F.2.1 hX hbl hbA hS (i_in hv1 (by omega)) dL_law_989 ?_
  rcases hn with rfl | rfl
  · have hf2 := cN_le (nF := 0) (j := j) (Or.inl rfl) (by omega)
    have ho := hO.lt
    refine g_Vi (c0 := 0) F hml hl.1 hA hP hD hS (As := [.int (xs v1.toNatClampNeg)]) (g_X11_quarrel_0 l dC dI ad cA u (xs v1.toNatClampNeg) hI.1) ⟨callB_of 1 F.2.2.1 (tb_good qz1073) rfl rfl rfl (F.2.2.1 _ qz1) (F.2.2.1 _ qz1070) (by decide +kernel) (by decide), F.2.2.1 _ qz1071, F.2.2.1 _ qz1072⟩ tc_0 rfl rfl rfl rfl (Nat.le_of_ble_eq_true rfl) dL_law_990 hf2 (fun r1 u1 H1 locs hw hk hP hD hS => ?_) (fun r1 u1 ad1 H1 locs hw had hk hP hD hin hS => ?_)
    · have hE : eqv u1 := sp_fr sp_eqv hw.2 (by decide) hE
      have hH : hxI u1 := sp_fr sp_HX hw.2 (by decide) hH
      have hT : byI u1 := by_fr hw.2 rfl rfl hT
      have hM : imI u1 := sp_fr sp_IM hw.2 (by decide) hM
      have hI : inv0 u1 := ⟨hw.1, sp_fr (sp_nm 11 12) hw.2 (by decide) (hI.2.1), sp_fr (sp_nm 20 21) hw.2 (by decide) (hI.2.2.1), sp_fr (sp_nm 62 63) hw.2 (by decide) (hI.2.2.2.1), sp_fr (sp_nm 71 72) hw.2 (by decide) (hI.2.2.2.2.1), sp_fr (sp_MS) hw.2 (by decide) (hI.2.2.2.2.2.1), sp_fr (sp_UI) hw.2 (by decide) (hI.2.2.2.2.2.2.1), sp_fr (sp_CW) hw.2 (by decide) (hI.2.2.2.2.2.2.2.1), sp_fr (sp_KI) hw.2 (by decide) (hI.2.2.2.2.2.2.2.2.1), sp_fr (sp_AP) hw.2 (by decide) (hI.2.2.2.2.2.2.2.2.2.1), sp_fr (sp_AU) hw.2 (by decide) (hI.2.2.2.2.2.2.2.2.2.2.1), sp_fr (sp_AK) hw.2 (by decide) (hI.2.2.2.2.2.2.2.2.2.2.2)⟩
      refine lv_pop F.1 F.2.1 dL_law_993 rfl ?_
      exact law_d24 F hml hX hbl hL hi hj ⟨Or.inl rfl, rfl, rfl, hN, ⟨hI, hE, hH, hT, hM⟩, hP, hD, fo, va_at.kept hO (hk o ho (lw_no hN ho))⟩ hS hl KK
    · have hE : eqv u1 := sp_fr sp_eqv hw.2 (by decide) hE
      have hH : hxI u1 := sp_fr sp_HX hw.2 (by decide) hH
      have hT : byI u1 := by_fr hw.2 rfl rfl hT
      have hM : imI u1 := sp_fr sp_IM hw.2 (by decide) hM
      have hI : inv0 u1 := ⟨hw.1, sp_fr (sp_nm 11 12) hw.2 (by decide) (hI.2.1), sp_fr (sp_nm 20 21) hw.2 (by decide) (hI.2.2.1), sp_fr (sp_nm 62 63) hw.2 (by decide) (hI.2.2.2.1), sp_fr (sp_nm 71 72) hw.2 (by decide) (hI.2.2.2.2.1), sp_fr (sp_MS) hw.2 (by decide) (hI.2.2.2.2.2.1), sp_fr (sp_UI) hw.2 (by decide) (hI.2.2.2.2.2.2.1), sp_fr (sp_CW) hw.2 (by decide) (hI.2.2.2.2.2.2.2.1), sp_fr (sp_KI) hw.2 (by decide) (hI.2.2.2.2.2.2.2.2.1), sp_fr (sp_AP) hw.2 (by decide) (hI.2.2.2.2.2.2.2.2.2.1), sp_fr (sp_AU) hw.2 (by decide) (hI.2.2.2.2.2.2.2.2.2.2.1), sp_fr (sp_AK) hw.2 (by decide) (hI.2.2.2.2.2.2.2.2.2.2.2)⟩
      have hN1 : ∀ z, z < 105 → ad1 z ≠ o := fun z hz he => by
        have hz1 : z < (TT 51200).length := hz
        have h1 := hin z _ (ac_at (ad := ad1) (cA := cA) (u := u1) (List.getElem?_eq_getElem hz1))
        rw [he] at h1
        exact lw_no (T := TT 0) (ad := ad) (cA := cA) (u := u) hN ho h1
      refine W.widen (k := cN 51200 j) (n := sN 51200 j) (by unfold cN; simp) (by unfold sN; omega) ?_
      refine lv_pop F.1 F.2.1 dL_law_993 rfl ?_
      exact law_d24 F hml hX hbl hL hi hj ⟨Or.inr rfl, had 0 (by decide), had 85 (by decide), hN1, ⟨hI, hE, hH, hT, hM⟩, hP, hD, fo, va_at.kept hO (hk o ho (lw_no hN ho))⟩ hS hl KK
  · refine lw_Vi (o := o) (c0 := 0) F hml hl.1 hA hP hD hO hN hS (As := [.int (xs v1.toNatClampNeg)]) (c_X11_quarrel_0 l dC dI ad cA 51200 u (xs v1.toNatClampNeg) hI.1 rfl) ⟨callB_of 1 F.2.2.1 (tb_good qz1073) rfl rfl rfl (F.2.2.1 _ qz1) (F.2.2.1 _ qz1070) (by decide +kernel) (by decide), F.2.2.1 _ qz1071, F.2.2.1 _ qz1072⟩ tc_0 rfl rfl rfl rfl (Nat.le_of_ble_eq_true rfl) dL_law_990 hf (fun r1 u1 H locs hw hP hD hO hS => ?_)
    have hH : hxI u1 := sp_fr sp_HX hw.2.1 (by decide) hH
    have hT : byI u1 := by_fr hw.2.1 rfl rfl hT
    have hM : imI u1 := sp_fr sp_IM hw.2.1 (by decide) hM
    have hE : eqv u1 := sp_fr sp_eqv hw.2.1 (by decide) hE
    have hI : inv0 u1 := ⟨hw.1, sp_fr (sp_nm 11 12) (hw.2.1) (by decide) (hI.2.1), sp_fr (sp_nm 20 21) (hw.2.1) (by decide) (hI.2.2.1), sp_fr (sp_nm 62 63) (hw.2.1) (by decide) (hI.2.2.2.1), sp_fr (sp_nm 71 72) (hw.2.1) (by decide) (hI.2.2.2.2.1), sp_fr (sp_MS) (hw.2.1) (by decide) (hI.2.2.2.2.2.1), sp_fr (sp_UI) (hw.2.1) (by decide) (hI.2.2.2.2.2.2.1), sp_fr (sp_CW) (hw.2.1) (by decide) (hI.2.2.2.2.2.2.2.1), sp_fr (sp_KI) (hw.2.1) (by decide) (hI.2.2.2.2.2.2.2.2.1), sp_fr (sp_AP) (hw.2.1) (by decide) (hI.2.2.2.2.2.2.2.2.2.1), sp_fr (sp_AU) (hw.2.1) (by decide) (hI.2.2.2.2.2.2.2.2.2.2.1), sp_fr (sp_AK) (hw.2.1) (by decide) (hI.2.2.2.2.2.2.2.2.2.2.2)⟩
    refine lv_pop F.1 F.2.1 dL_law_993 rfl ?_
    exact law_d24 F hml hX hbl hL hi hj ⟨Or.inr rfl, rfl, rfl, hN, ⟨hI, hE, hH, hT, hM⟩, hP, hD, fo, hO⟩ hS hl KK

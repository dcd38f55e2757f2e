theorem qz1354 : Cond.methodLink RL 38 yL_promise ∈ TB := tb_of (List.mem_append_right _ (List.mem_append_right _ (List.mem_append_right _ (List.mem_append_right _ (List.mem_append_right _ (List.mem_append_right _ (List.mem_append_left _ (List.mem_of_getElem? (i := 154) rfl)))))))) (by decide +kernel)
theorem qz1355 : Cond.static yL_promise ∈ TB := tb_of (List.mem_append_right _ (List.mem_append_right _ (List.mem_append_right _ (List.mem_append_right _ (List.mem_append_right _ (List.mem_append_right _ (List.mem_append_left _ (List.mem_of_getElem? (i := 155) rfl)))))))) (by decide +kernel)
theorem qz0 : Cond.initialized RL ∈ TB := tb_of (List.mem_append_right _ (List.mem_append_left _ (List.mem_of_getElem? (i := 0) rfl))) (by decide +kernel)
theorem qz1356 : Cond.codeWith yL_promise cL_promise 5 (some .int) [(0, 10, 13, 13)] ∈ TB := tb_of (List.mem_append_right _ (List.mem_append_right _ (List.mem_append_right _ (List.mem_append_right _ (List.mem_append_right _ (List.mem_append_right _ (List.mem_append_left _ (List.mem_of_getElem? (i := 156) rfl)))))))) (by decide +kernel)
theorem qz1700 : Cond.code yX12_promise cX12_promise 3 (some .int) ∈ TB := tb_of (List.mem_append_right _ (List.mem_append_right _ (List.mem_append_right _ (List.mem_append_right _ (List.mem_append_right _ (List.mem_append_right _ (List.mem_append_right _ (List.mem_append_right _ (List.mem_append_left _ (List.mem_of_getElem? (i := 20) rfl)))))))))) (by decide +kernel)
theorem qz1697 : Cond.methodLink RL 43 yX12_promise ∈ TB := tb_of (List.mem_append_right _ (List.mem_append_right _ (List.mem_append_right _ (List.mem_append_right _ (List.mem_append_right _ (List.mem_append_right _ (List.mem_append_right _ (List.mem_append_right _ (List.mem_append_left _ (List.mem_of_getElem? (i := 17) rfl)))))))))) (by decide +kernel)
theorem qz1698 : Cond.instanceMethod yX12_promise ∈ TB := tb_of (List.mem_append_right _ (List.mem_append_right _ (List.mem_append_right _ (List.mem_append_right _ (List.mem_append_right _ (List.mem_append_right _ (List.mem_append_right _ (List.mem_append_right _ (List.mem_append_left _ (List.mem_of_getElem? (i := 18) rfl)))))))))) (by decide +kernel)
theorem qz1699 : Cond.selects RX12 yX12_promise yX12_promise ∈ TB := tb_of (List.mem_append_right _ (List.mem_append_right _ (List.mem_append_right _ (List.mem_append_right _ (List.mem_append_right _ (List.mem_append_right _ (List.mem_append_right _ (List.mem_append_right _ (List.mem_append_left _ (List.mem_of_getElem? (i := 19) rfl)))))))))) (by decide +kernel)
theorem lp_good : GoodIn TB (va_wsS RL 38 yL_promise (.codeWith yL_promise cL_promise 5 (some .int) [(0, 10, 13, 13)] :: TB)) := by
  intro w hw
  have hm : w ∈ TB := by
    unfold va_wsS at hw
    rcases List.mem_append.mp hw with h | h
    · rcases List.mem_cons.mp h with rfl | h
      · exact qz1354
      · rcases List.mem_cons.mp h with rfl | h
        · exact qz1355
        · rcases List.mem_cons.mp h with rfl | h
          · exact qz0
          · exact absurd h List.not_mem_nil
    · rcases List.mem_cons.mp h with rfl | h
      · exact qz1356
      · exact h
  exact ⟨hm, good_of_word (List.mem_filter.mp hm).2⟩
set_option maxHeartbeats 1000000 in
theorem law_c4 {p : Program} {l : Launch} {e : Env} {s : State} {m : MethodId} {below : List Frame} {meth : Method} {c : Code} {dC : Nat → ClassId} {dI : Nat → Nat → Nat} {cA : Nat → ClassId} {b L ax bm o j nF : Nat} {xs : Nat → Int32} {i : Int32} {ad : Nat → Nat} {u : ac_U} {H : Heap} {locs : List Loc} {ls : Array Slot} {Q : State → Prop} (F : ac_X p s m #[.ref b] c cL_law RL TB (dC, dI) vwCl (ac_ty cA)) (hoA : s.heap.size ≤ o) (hfl : l.stackTraces = false) (hTh : thS (fun q => s.heap.size ≤ q) s s.heap) (hml : c.maxLocals = 7) (hX : va_X b L xs s s.heap) (hbl : b < s.heap.size) (hL : L ≤ 3072) (hi : i.toInt = 6 * (j : Int)) (hj : 6 * j + 6 ≤ L) (hG : lw_I (dC, dI) cA ax bm o (fun q => s.heap.size ≤ q) nF ad u H) (hS : va_S (fun q => s.heap.size ≤ q) s.heap H locs) (hl : lv_has ls 7 [(4, .int i), (3, .ref o), (2, .ref bm), (1, .ref ax), (0, .ref b)])
    (KK : ∀ (nF : Nat) (ad : Nat → Nat) (u : ac_U) (H : Heap) (locs : List Loc) (ls : Array Slot), lw_I (dC, dI) cA ax bm o (fun q => s.heap.size ≤ q) nF ad u H → va_S (fun q => s.heap.size ≤ q) s.heap H locs → lv_has ls 7 [(4, .int i), (3, .ref o), (2, .ref bm), (1, .ref ax), (0, .ref b)] → W p l e room_1 s m #[.ref b] below meth c H locs (cN nF (j + 1)) (sN nF (j + 1)) Q (F0 m 1481 ls [])) : W p l e room_1 s m #[.ref b] below meth c H locs (cN nF j) (sN nF j) Q (F0 m 348 ls []) := by
  obtain ⟨hn, rfl, rfl, hN, ⟨hI, hE, hH, hT, hM⟩, hP, hD, fo, hO⟩ := hG
  have hA : ∀ q : Nat, s.heap.size ≤ q → (fun q : Nat => s.heap.size ≤ q) q := fun _ h => h
  have hbA : ¬ (fun q : Nat => s.heap.size ≤ q) b := Nat.not_le.mpr hbl
  have hf : cN nF j ≤ room_1.cells ∧ sN nF j ≤ room_1.slots := by
    have := cN_le (nF := nF) (j := j) hn (by omega)
    omega
  refine lv_aload_n F.1 F.2.1 dL_law_348 rfl (lv_at hl 3 rfl) ?_
  refine lv_aload_n F.1 F.2.1 dL_law_349 rfl (lv_at hl 4 rfl) ?_
  refine lv_iload F.1 F.2.1 dL_law_350 (lv_at hl 0 rfl) ?_
  refine a_ic F (1 : Int32) dL_law_352 (by decide) ?_
  refine a_iadd F dL_law_353 hi ic_1 (by omega) (fun v1 hv1 => ?_)
  refine va_sld F.1 F.2.1 hX hbl hbA hS (i_in hv1 (by omega)) dL_law_354 ?_
  refine lv_aload_n F.1 F.2.1 dL_law_355 rfl (lv_at hl 4 rfl) ?_
  refine lv_iload F.1 F.2.1 dL_law_356 (lv_at hl 0 rfl) ?_
  refine a_ic F (2 : Int32) dL_law_358 (by decide) ?_
  refine a_iadd F dL_law_359 hi ic_2 (by omega) (fun v2 hv2 => ?_)
  refine va_sld F.1 F.2.1 hX hbl hbA hS (i_in hv2 (by omega)) dL_law_360 ?_
  refine lv_aload_n F.1 F.2.1 dL_law_361 rfl (lv_at hl 1 rfl) ?_
  have ho := hO.lt
  have hin : ∀ q, lp_A cA nF ad u o H.size q → s.heap.size ≤ q := fun q h => by
    rcases h with h | rfl
    · exact ac_in hD hS hA q h
    · exact hoA
  have hf4 := cN_le (nF := nF) (j := j) hn (by omega)
  refine va_calli (vx_runSW (hh := [(0, 10, 13, 13)]) (As := [.ref (ad 0), .int (xs v1.toNatClampNeg), .int (xs v2.toNatClampNeg), .ref o]) (rest := []) (n := 4) ⟨F.1, F.2.1, hml, F.2.2.2.1, F.2.2.1⟩ (lp_M l hfl dC dI cA nF ad u o fo (xs v1.toNatClampNeg) (xs v2.toNatClampNeg) hI.1 H.size) (vx_cwSW 4 F.2.2.1 lp_good rfl rfl rfl (by decide +kernel) (by decide)) ⟨lp_blind, fun U hU hW => ⟨rfl, by rw [hU], by rw [hU]; exact hP, va_K.moved hW.alike F.2.2.2.2, hD.weaken (fun _ _ _ _ => trivial), by rw [hU]; exact thS.to hTh hW hS.2.1 hin, by rw [hU]; exact hO, hN⟩⟩ rfl rfl hl.1 rfl (lv_room (Nat.le_of_ble_eq_true rfl)) dL_law_362 ⟨hf4.1, by omega⟩) hS (fun q _ h => hin q h) hin (fun r f1 t H1 locs1 ht _ hw hB _ hk hS => ?_)
  obtain ⟨hP1, hO1⟩ := hB
  rw [ht] at hP1 hO1
  refine W.widen (k := cN nF (j + 1)) (n := sN nF (j + 1)) (by unfold cN; omega) (by unfold sN; omega) ?_
  have hf : cN nF (j + 1) ≤ room_1.cells ∧ sN nF (j + 1) ≤ room_1.slots := by
    have := cN_le (nF := nF) (j := j + 1) hn (by omega)
    omega
  refine lv_istore (lv' := [(5, .int r), (4, .int i), (3, .ref o), (2, .ref (ad 85)), (1, .ref (ad 0)), (0, .ref b)]) F.1 F.2.1 dL_law_365 hl (by decide) rfl (fun ls hl => ?_)
  refine lv_aload_n F.1 F.2.1 dL_law_367 rfl (lv_at hl 3 rfl) ?_
  refine lv_aload_n F.1 F.2.1 dL_law_368 rfl (lv_at hl 5 rfl) ?_
  refine lv_iload F.1 F.2.1 dL_law_369 (lv_at hl 1 rfl) ?_
  refine a_ic F (1 : Int32) dL_law_371 (by decide) ?_
  refine a_iadd F dL_law_372 hi ic_1 (by omega) (fun v3 hv3 => ?_)
  refine va_sld F.1 F.2.1 hX hbl hbA hS (i_in hv3 (by omega)) dL_law_373 ?_
  refine lv_aload_n F.1 F.2.1 dL_law_374 rfl (lv_at hl 5 rfl) ?_
  refine lv_iload F.1 F.2.1 dL_law_375 (lv_at hl 1 rfl) ?_
  refine a_ic F (2 : Int32) dL_law_377 (by decide) ?_
  refine a_iadd F dL_law_378 hi ic_2 (by omega) (fun v4 hv4 => ?_)
  refine va_sld F.1 F.2.1 hX hbl hbA hS (i_in hv4 (by omega)) dL_law_379 ?_
  refine lw_Vi (o := o) (c0 := 85) F hml hl.1 hA hP1 hD hO1 hN hS (As := [.int (xs v3.toNatClampNeg), .int (xs v4.toNatClampNeg)]) (c_X12_promise_85 l dC dI ad cA nF u (xs v3.toNatClampNeg) (xs v4.toNatClampNeg) hI.1 ) ⟨callB_of 2 F.2.2.1 (tb_good qz1700) rfl rfl rfl (F.2.2.1 _ qz17) (F.2.2.1 _ qz1697) (by decide +kernel) (by decide), F.2.2.1 _ qz1698, F.2.2.1 _ qz1699⟩ tc_85 rfl rfl rfl rfl (Nat.le_of_ble_eq_true rfl) dL_law_380 hf (fun r2 u2 H locs hw hP hD hO hS => ?_)
  have hH : hxI u2 := sp_fr sp_HX hw.2 (by decide) hH
  have hT : byI u2 := by_fr hw.2 rfl rfl hT
  have hM : imI u2 := sp_fr sp_IM hw.2 (by decide) hM
  have hE : eqv u2 := sp_fr sp_eqv hw.2 (by decide) hE
  have hI : inv0 u2 := ⟨hw.1, sp_fr (sp_nm 11 12) (hw.2) (by decide) (hI.2.1), sp_fr (sp_nm 20 21) (hw.2) (by decide) (hI.2.2.1), sp_fr (sp_nm 62 63) (hw.2) (by decide) (hI.2.2.2.1), sp_fr (sp_nm 71 72) (hw.2) (by decide) (hI.2.2.2.2.1), sp_fr (sp_MS) (hw.2) (by decide) (hI.2.2.2.2.2.1), sp_fr (sp_UI) (hw.2) (by decide) (hI.2.2.2.2.2.2.1), sp_fr (sp_CW) (hw.2) (by decide) (hI.2.2.2.2.2.2.2.1), sp_fr (sp_KI) (hw.2) (by decide) (hI.2.2.2.2.2.2.2.2.1), sp_fr (sp_AP) (hw.2) (by decide) (hI.2.2.2.2.2.2.2.2.2.1), sp_fr (sp_AU) (hw.2) (by decide) (hI.2.2.2.2.2.2.2.2.2.2.1), sp_fr (sp_AK) (hw.2) (by decide) (hI.2.2.2.2.2.2.2.2.2.2.2)⟩
  refine lv_istore (lv' := [(6, .int r2), (5, .int r), (4, .int i), (3, .ref o), (2, .ref (ad 85)), (1, .ref (ad 0)), (0, .ref b)]) F.1 F.2.1 dL_law_383 hl (by decide) rfl (fun ls hl => ?_)
  refine lv_goto (tgt := 1481) F.1 F.2.1 dL_law_385 (by decide) ?_
  exact KK nF ad _ H locs ls ⟨hn, rfl, rfl, hN, ⟨hI, hE, hH, hT, hM⟩, hP, hD, f1, hO⟩ hS (lv_sub hl [2, 3, 4, 5, 6] rfl)
set_option maxHeartbeats 4000000 in
theorem law_loop {p : Program} {l : Launch} {e : Env} {s : State} {m : MethodId} {below : List Frame} {meth : Method} {c : Code} {dC : Nat → ClassId} {dI : Nat → Nat → Nat} {cA : Nat → ClassId} {b L ax bm o : Nat} {xs : Nat → Int32} {Q : State → Prop} (F : ac_X p s m #[.ref b] c cL_law RL TB (dC, dI) vwCl (ac_ty cA)) (hoA : s.heap.size ≤ o) (hfl : l.stackTraces = false) (hTh : thS (fun q => s.heap.size ≤ q) s s.heap) (hml : c.maxLocals = 7) (hX : va_X b L xs s s.heap) (hbl : b < s.heap.size) (hL : L ≤ 3072)
    (KE : ∀ (nF j : Nat) (H : Heap) (locs : List Loc) (ls : Array Slot), (nF = 0 ∨ nF = 51200) → j ≤ 512 → va_S (fun q => s.heap.size ≤ q) s.heap H locs → W p l e room_1 s m #[.ref b] below meth c H locs (cN nF j) (sN nF j) Q (F0 m 1488 ls [.int 1])) :
    ∀ (n j nF : Nat) (ad : Nat → Nat) (u : ac_U) (i : Int32) (H : Heap) (locs : List Loc) (ls : Array Slot), L + 6 < 6 * j + 6 * n → 6 * j ≤ L → i.toInt = 6 * (j : Int) → lw_I (dC, dI) cA ax bm o (fun q => s.heap.size ≤ q) nF ad u H → va_S (fun q => s.heap.size ≤ q) s.heap H locs → lv_has ls 7 [(4, .int i), (3, .ref o), (2, .ref bm), (1, .ref ax), (0, .ref b)] → W p l e room_1 s m #[.ref b] below meth c H locs (cN nF j) (sN nF j) Q (F0 m 23 ls []) := by
  have hbA : ¬ (fun q : Nat => s.heap.size ≤ q) b := Nat.not_le.mpr hbl
  have hLi : (Int32.ofNat L).toInt = (L : Int) := Int32.toInt_ofNat_of_lt (by omega)
  intro n
  induction n with
  | zero => intro j nF ad u i H locs ls h1 h2; exfalso; omega
  | succ n ih =>
    intro j nF ad u i H locs ls hn6 hj6 hi hG hS hl
    refine lv_iload F.1 F.2.1 dL_law_23 (lv_at hl 0 rfl) ?_
    refine lv_aload_n F.1 F.2.1 dL_law_25 rfl (lv_at hl 4 rfl) ?_
    refine va_slen F.1 F.2.1 hX hbl hbA hS dL_law_26 ?_
    refine a_bp F (6 : Int32) dL_law_27 (by decide) ?_
    refine a_isub F dL_law_29 hLi ic_6 (by omega) (fun v hv => ?_)
    refine b_gt F 1487 dL_law_30 (by decide) hi hv (fun c1 => ?_) (fun c1 => ?_)
    · refine a_ic F (1 : Int32) dL_law_1487 (by decide) ?_
      exact KE nF j H locs ls hG.1 (by omega) hS
    · have hj : 6 * j + 6 ≤ L := by omega
      have KK : ∀ (nF : Nat) (ad : Nat → Nat) (u : ac_U) (H : Heap) (locs : List Loc) (ls : Array Slot), lw_I (dC, dI) cA ax bm o (fun q => s.heap.size ≤ q) nF ad u H → va_S (fun q => s.heap.size ≤ q) s.heap H locs → lv_has ls 7 [(4, .int i), (3, .ref o), (2, .ref bm), (1, .ref ax), (0, .ref b)] → W p l e room_1 s m #[.ref b] below meth c H locs (cN nF (j + 1)) (sN nF (j + 1)) Q (F0 m 1481 ls []) := by
        intro nF ad u H locs ls hG hS hl
        refine a_iinc F (k := 0) (fun z => [(4, .int z), (3, .ref o), (2, .ref bm), (1, .ref ax), (0, .ref b)]) dL_law_1481 hl rfl hi (by decide) (by omega) (by decide) (fun _ => rfl) (fun z ls hz hl => ?_)
        refine lv_goto (tgt := 23) F.1 F.2.1 dL_law_1484 (by decide) ?_
        exact ih (j + 1) nF ad u z H locs ls (by omega) (by omega) (by omega) hG hS hl
      refine lv_aload_n F.1 F.2.1 dL_law_33 rfl (lv_at hl 4 rfl) ?_
      refine lv_iload F.1 F.2.1 dL_law_34 (lv_at hl 0 rfl) ?_
      refine va_sld F.1 F.2.1 hX hbl hbA hS (i_in hi (by omega)) dL_law_36 ?_
      refine a_bp F (63 : Int32) dL_law_37 (by decide) ?_
      refine lv_iand F.1 F.2.1 dL_law_39 ?_
      generalize (xs i.toNatClampNeg) &&& (63 : Int32) = w
      by_cases k0 : w.toInt = 0
      · exact lv_tableIn (tgt := 224) F.1 F.2.1 dL_law_40 (by omega) (by omega) (by rw [k0]; rfl) (by decide) (law_c0 F hml hX hbl hL hi hj hG hS hl KK)
      by_cases k1 : w.toInt = 1
      · exact lv_tableIn (tgt := 297) F.1 F.2.1 dL_law_40 (by omega) (by omega) (by rw [k1]; rfl) (by decide) (law_c1 F hml hX hbl hL hi hj hG hS hl KK)
      by_cases k2 : w.toInt = 2
      · exact lv_tableIn (tgt := 322) F.1 F.2.1 dL_law_40 (by omega) (by omega) (by rw [k2]; rfl) (by decide) (law_c2 F hml hX hbl hL hi hj hG hS hl KK)
      by_cases k3 : w.toInt = 3
      · exact lv_tableIn (tgt := 335) F.1 F.2.1 dL_law_40 (by omega) (by omega) (by rw [k3]; rfl) (by decide) (law_c3 F hml hX hbl hL hi hj hG hS hl KK)
      by_cases k4 : w.toInt = 4
      · exact lv_tableIn (tgt := 348) F.1 F.2.1 dL_law_40 (by omega) (by omega) (by rw [k4]; rfl) (by decide) (law_c4 F hoA hfl hTh hml hX hbl hL hi hj hG hS hl KK)
      by_cases k5 : w.toInt = 5
      · exact lv_tableIn (tgt := 388) F.1 F.2.1 dL_law_40 (by omega) (by omega) (by rw [k5]; rfl) (by decide) (law_c5 F hml hX hbl hL hi hj hG hS hl KK)
      by_cases k6 : w.toInt = 6
      · exact lv_tableIn (tgt := 425) F.1 F.2.1 dL_law_40 (by omega) (by omega) (by rw [k6]; rfl) (by decide) (law_c6 F hml hX hbl hL hi hj hG hS hl KK)
      by_cases k7 : w.toInt = 7
      · exact lv_tableIn (tgt := 462) F.1 F.2.1 dL_law_40 (by omega) (by omega) (by rw [k7]; rfl) (by decide) (law_c7 F hml hX hbl hL hi hj hG hS hl KK)
      by_cases k8 : w.toInt = 8
      · exact lv_tableIn (tgt := 487) F.1 F.2.1 dL_law_40 (by omega) (by omega) (by rw [k8]; rfl) (by decide) (law_c8 F hml hX hbl hL hi hj hG hS hl KK)
      by_cases k9 : w.toInt = 9
      · exact lv_tableIn (tgt := 512) F.1 F.2.1 dL_law_40 (by omega) (by omega) (by rw [k9]; rfl) (by decide) (law_c9 F hml hX hbl hL hi hj hG hS hl KK)
      by_cases k10 : w.toInt = 10
      · exact lv_tableIn (tgt := 549) F.1 F.2.1 dL_law_40 (by omega) (by omega) (by rw [k10]; rfl) (by decide) (law_c10 F hml hX hbl hL hi hj hG hS hl KK)
      by_cases k11 : w.toInt = 11
      · exact lv_tableIn (tgt := 586) F.1 F.2.1 dL_law_40 (by omega) (by omega) (by rw [k11]; rfl) (by decide) (law_c11 F hml hX hbl hL hi hj hG hS hl KK)
      by_cases k12 : w.toInt = 12
      · exact lv_tableIn (tgt := 623) F.1 F.2.1 dL_law_40 (by omega) (by omega) (by rw [k12]; rfl) (by decide) (law_c12 F hml hX hbl hL hi hj hG hS hl KK)
      by_cases k13 : w.toInt = 13
      · exact lv_tableIn (tgt := 660) F.1 F.2.1 dL_law_40 (by omega) (by omega) (by rw [k13]; rfl) (by decide) (law_c13 F hml hX hbl hL hi hj hG hS hl KK)
      by_cases k14 : w.toInt = 14
      · exact lv_tableIn (tgt := 685) F.1 F.2.1 dL_law_40 (by omega) (by omega) (by rw [k14]; rfl) (by decide) (law_c14 F hml hX hbl hL hi hj hG hS hl KK)
      by_cases k15 : w.toInt = 15
      · exact lv_tableIn (tgt := 722) F.1 F.2.1 dL_law_40 (by omega) (by omega) (by rw [k15]; rfl) (by decide) (law_c15 F hml hX hbl hL hi hj hG hS hl KK)
      by_cases k16 : w.toInt = 16
      · exact lv_tableIn (tgt := 735) F.1 F.2.1 dL_law_40 (by omega) (by omega) (by rw [k16]; rfl) (by decide) (law_c16 F hml hX hbl hL hi hj hG hS hl KK)
      by_cases k17 : w.toInt = 17
      · exact lv_tableIn (tgt := 772) F.1 F.2.1 dL_law_40 (by omega) (by omega) (by rw [k17]; rfl) (by decide) (law_c17 F hml hX hbl hL hi hj hG hS hl KK)
      by_cases k18 : w.toInt = 18
      · exact lv_tableIn (tgt := 809) F.1 F.2.1 dL_law_40 (by omega) (by omega) (by rw [k18]; rfl) (by decide) (law_c18 F hml hX hbl hL hi hj hG hS hl KK)
      by_cases k19 : w.toInt = 19
      · exact lv_tableIn (tgt := 846) F.1 F.2.1 dL_law_40 (by omega) (by omega) (by rw [k19]; rfl) (by decide) (law_c19 F hml hX hbl hL hi hj hG hS hl KK)
      by_cases k20 : w.toInt = 20
      · exact lv_tableIn (tgt := 883) F.1 F.2.1 dL_law_40 (by omega) (by omega) (by rw [k20]; rfl) (by decide) (law_c20 F hml hX hbl hL hi hj hG hS hl KK)
      by_cases k21 : w.toInt = 21
      · exact lv_tableIn (tgt := 920) F.1 F.2.1 dL_law_40 (by omega) (by omega) (by rw [k21]; rfl) (by decide) (law_c21 F hml hX hbl hL hi hj hG hS hl KK)
      by_cases k22 : w.toInt = 22
      · exact lv_tableIn (tgt := 933) F.1 F.2.1 dL_law_40 (by omega) (by omega) (by rw [k22]; rfl) (by decide) (law_c22 F hml hX hbl hL hi hj hG hS hl KK)
      by_cases k23 : w.toInt = 23
      · exact lv_tableIn (tgt := 958) F.1 F.2.1 dL_law_40 (by omega) (by omega) (by rw [k23]; rfl) (by decide) (law_c23 F hml hX hbl hL hi hj hG hS hl KK)
      by_cases k24 : w.toInt = 24
      · exact lv_tableIn (tgt := 983) F.1 F.2.1 dL_law_40 (by omega) (by omega) (by rw [k24]; rfl) (by decide) (law_c24 F hml hX hbl hL hi hj hG hS hl KK)
      by_cases k25 : w.toInt = 25
      · exact lv_tableIn (tgt := 1008) F.1 F.2.1 dL_law_40 (by omega) (by omega) (by rw [k25]; rfl) (by decide) (law_c25 F hml hX hbl hL hi hj hG hS hl KK)
      by_cases k26 : w.toInt = 26
      · exact lv_tableIn (tgt := 1033) F.1 F.2.1 dL_law_40 (by omega) (by omega) (by rw [k26]; rfl) (by decide) (law_c26 F hml hX hbl hL hi hj hG hS hl KK)
      by_cases k27 : w.toInt = 27
      · exact lv_tableIn (tgt := 1046) F.1 F.2.1 dL_law_40 (by omega) (by omega) (by rw [k27]; rfl) (by decide) (law_c27 F hml hX hbl hL hi hj hG hS hl KK)
      by_cases k28 : w.toInt = 28
      · exact lv_tableIn (tgt := 1059) F.1 F.2.1 dL_law_40 (by omega) (by omega) (by rw [k28]; rfl) (by decide) (law_c28 F hml hX hbl hL hi hj hG hS hl KK)
      by_cases k29 : w.toInt = 29
      · exact lv_tableIn (tgt := 1096) F.1 F.2.1 dL_law_40 (by omega) (by omega) (by rw [k29]; rfl) (by decide) (law_c29 F hml hX hbl hL hi hj hG hS hl KK)
      by_cases k30 : w.toInt = 30
      · exact lv_tableIn (tgt := 1121) F.1 F.2.1 dL_law_40 (by omega) (by omega) (by rw [k30]; rfl) (by decide) (law_c30 F hml hX hbl hL hi hj hG hS hl KK)
      by_cases k31 : w.toInt = 31
      · exact lv_tableIn (tgt := 1134) F.1 F.2.1 dL_law_40 (by omega) (by omega) (by rw [k31]; rfl) (by decide) (law_c31 F hml hX hbl hL hi hj hG hS hl KK)
      by_cases k32 : w.toInt = 32
      · exact lv_tableIn (tgt := 1183) F.1 F.2.1 dL_law_40 (by omega) (by omega) (by rw [k32]; rfl) (by decide) (law_c32 F hml hX hbl hL hi hj hG hS hl KK)
      by_cases k33 : w.toInt = 33
      · exact lv_tableIn (tgt := 1232) F.1 F.2.1 dL_law_40 (by omega) (by omega) (by rw [k33]; rfl) (by decide) (law_c33 F hml hX hbl hL hi hj hG hS hl KK)
      by_cases k34 : w.toInt = 34
      · exact lv_tableIn (tgt := 1269) F.1 F.2.1 dL_law_40 (by omega) (by omega) (by rw [k34]; rfl) (by decide) (law_c34 F hml hX hbl hL hi hj hG hS hl KK)
      by_cases k35 : w.toInt = 35
      · exact lv_tableIn (tgt := 1318) F.1 F.2.1 dL_law_40 (by omega) (by omega) (by rw [k35]; rfl) (by decide) (law_c35 F hml hX hbl hL hi hj hG hS hl KK)
      by_cases k36 : w.toInt = 36
      · exact lv_tableIn (tgt := 1343) F.1 F.2.1 dL_law_40 (by omega) (by omega) (by rw [k36]; rfl) (by decide) (law_c36 F hml hX hbl hL hi hj hG hS hl KK)
      by_cases k37 : w.toInt = 37
      · exact lv_tableIn (tgt := 1368) F.1 F.2.1 dL_law_40 (by omega) (by omega) (by rw [k37]; rfl) (by decide) (law_c37 F hml hX hbl hL hi hj hG hS hl KK)
      by_cases k38 : w.toInt = 38
      · exact lv_tableIn (tgt := 1381) F.1 F.2.1 dL_law_40 (by omega) (by omega) (by rw [k38]; rfl) (by decide) (law_c38 F hml hX hbl hL hi hj hG hS hl KK)
      by_cases k39 : w.toInt = 39
      · exact lv_tableIn (tgt := 1406) F.1 F.2.1 dL_law_40 (by omega) (by omega) (by rw [k39]; rfl) (by decide) (law_c39 F hml hX hbl hL hi hj hG hS hl KK)
      by_cases k40 : w.toInt = 40
      · exact lv_tableIn (tgt := 1431) F.1 F.2.1 dL_law_40 (by omega) (by omega) (by rw [k40]; rfl) (by decide) (law_c40 F hml hX hbl hL hi hj hG hS hl KK)
      by_cases k41 : w.toInt = 41
      · exact lv_tableIn (tgt := 1456) F.1 F.2.1 dL_law_40 (by omega) (by omega) (by rw [k41]; rfl) (by decide) (law_c41 F hml hX hbl hL hi hj hG hS hl KK)
      refine lv_tableOut (tgt := 1481) F.1 F.2.1 dL_law_40 (by omega) (by decide) ?_
      exact W.widen cN_up.1 cN_up.2 (KK nF ad u H locs ls hG hS hl)

theorem qz266 : Cond.methodLink RX6 3 objectInit ∈ TB := tb_of (List.mem_append_right _ (List.mem_append_right _ (List.mem_append_left _ (List.mem_of_getElem? (i := 26) rfl)))) (by decide +kernel)
theorem qz272 : Cond.fieldLink RX6 9 "WellPromises$Life" "so" "[I" ∈ TB := tb_of (List.mem_append_right _ (List.mem_append_right _ (List.mem_append_left _ (List.mem_of_getElem? (i := 32) rfl)))) (by decide +kernel)
theorem qz278 : Cond.fieldLink RX6 15 "WellPromises$Life" "marks" "[I" ∈ TB := tb_of (List.mem_append_right _ (List.mem_append_right _ (List.mem_append_left _ (List.mem_of_getElem? (i := 38) rfl)))) (by decide +kernel)
theorem qz280 : Cond.fieldLink RX6 18 "WellPromises$Life" "aside" "[I" ∈ TB := tb_of (List.mem_append_right _ (List.mem_append_right _ (List.mem_append_left _ (List.mem_of_getElem? (i := 40) rfl)))) (by decide +kernel)
theorem qz281 : Cond.fieldLink RX6 21 "WellPromises$Life" "past" "[I" ∈ TB := tb_of (List.mem_append_right _ (List.mem_append_right _ (List.mem_append_left _ (List.mem_of_getElem? (i := 41) rfl)))) (by decide +kernel)
theorem qz282 : Cond.fieldLink RX6 24 "WellPromises$Life" "pastCount" "I" ∈ TB := tb_of (List.mem_append_right _ (List.mem_append_right _ (List.mem_append_left _ (List.mem_of_getElem? (i := 42) rfl)))) (by decide +kernel)
theorem qz284 : Cond.fieldLink RX6 28 "WellPromises$Life" "pastNext" "I" ∈ TB := tb_of (List.mem_append_right _ (List.mem_append_right _ (List.mem_append_left _ (List.mem_of_getElem? (i := 44) rfl)))) (by decide +kernel)
theorem qz271 : Cond.fieldLink RX6 31 "WellPromises$Life" "house" "LWellPromises$House;" ∈ TB := tb_of (List.mem_append_right _ (List.mem_append_right _ (List.mem_append_left _ (List.mem_of_getElem? (i := 31) rfl)))) (by decide +kernel)
theorem qz270 : Cond.code yX6_unsayAll cX6_unsayAll 2 none ∈ TB := tb_of (List.mem_append_right _ (List.mem_append_right _ (List.mem_append_left _ (List.mem_of_getElem? (i := 30) rfl)))) (by decide +kernel)
theorem qz9 : Cond.initialized RX6 ∈ TB := tb_of (List.mem_append_right _ (List.mem_append_left _ (List.mem_of_getElem? (i := 9) rfl))) (by decide +kernel)
theorem qz267 : Cond.methodLink RX6 35 yX6_unsayAll ∈ TB := tb_of (List.mem_append_right _ (List.mem_append_right _ (List.mem_append_left _ (List.mem_of_getElem? (i := 27) rfl)))) (by decide +kernel)
theorem qz269 : Cond.instanceMethod yX6_unsayAll ∈ TB := tb_of (List.mem_append_right _ (List.mem_append_right _ (List.mem_append_left _ (List.mem_of_getElem? (i := 29) rfl)))) (by decide +kernel)
theorem qs_unsay : Cond.selects RX6 yX6_unsayAll yX6_unsayAll ∈ TB := qs0
def soF : Nat → Int32 := fun k => if 15 ≤ k ∧ k < 23 then -1 else 0
def soN (n : Nat) : Nat → Int32 := fun k => if 15 ≤ k ∧ k < 15 + n then -1 else 0
def aS (cA : Nat → ClassId) : va_E := .inl (cA 0, 31, .inl soF)
theorem so_up {n : Nat} : upd (soN n) (15 + n) (-1 : Int32) = soN (n + 1) := by
  funext k
  unfold upd soN
  by_cases h : k = 15 + n
  · rw [if_pos h, if_pos (by omega)]
  · rw [if_neg h]
    by_cases h2 : 15 ≤ k ∧ k < 15 + n
    · rw [if_pos h2, if_pos (by omega)]
    · rw [if_neg h2, if_neg (by omega)]
theorem so_0 : soN 0 = fun _ => 0 := by
  funext k
  unfold soN
  rw [if_neg (by omega)]
section CT1
variable {p : Program} {l : Launch} {e : Env} {R : Room} {s : State} {m : MethodId} {args : Array Value} {below : List Frame} {meth : Method} {c : Code} {H : Heap} {locs : List Loc} {cells slots : Nat} {Q : State → Prop}
variable {cc : ByteArray} {pc : Nat} {ls : Array Slot} {rest st0 As : List Value} {D : va_G} {A : Nat → Prop} {cA : Nat → ClassId} {wr w0 : va_W}
variable {own C : String} {index nL maxL n d mc ms : Nat} {Ts ws1 ws' : List Cond} {y : MethodName} {bytes : ByteArray}
/-- a void method of an object, whose world stands first -/
theorem ct_callV {S : Type} {w1 : S → va_W} {a ci : Nat} {fs : List Value} {q : vw_C} (F : ac_X p s m args c cc own TB D vwCl (ac_ty cA)) (hml : c.maxLocals = nL) (hsz : ls.size = nL) (hA : ∀ q : Nat, s.heap.size ≤ q → A q) (hP : va_P D vwCl (w0 ++ wr) H) (hD : va_D A (w0 ++ wr)) (hS : va_S A s.heap H locs)
    (hM : ct_M l y ws1 d mc ms D cA (fun _ _ => True) (.ref a :: As) w0 w1) (cw : CallW R s args own C index y bytes maxL none ws1 (ct_rm d mc ms) mc ms n) (he : w0[0]? = some (a, .inr (ci, fs))) (hc : vwCl[ci]? = some q) (hq : q.1 = C) (hn : As.length = n) (hst : st0 = As.reverse ++ .ref a :: rest) (hW : (rest.map fun v => v.category).sum ≤ 8) (hdg : decode cc pc = .ok (.invokevirtual index, 3)) (hf : cells + mc ≤ R.cells ∧ slots + ms ≤ R.slots)
    (kk : ∀ (σ : S) (H1 : Heap) (locs1 : List Loc), va_P D vwCl (w1 σ ++ wr) H1 → va_D A (w1 σ ++ wr) → va_S A s.heap H1 locs1 → W p l e R s m args below meth c H1 locs1 (cells + mc) (slots + ms) Q (F0 m (pc + 3) ls rest)) : W p l e R s m args below meth c H locs cells slots Q (F0 m pc ls st0) := by
  subst hst
  have up : ∀ {k : Nat} {x : Nat × va_E}, w0[k]? = some x → (w0 ++ wr)[k]? = some x := fun {k x} h => by
    rw [List.getElem?_append_left (List.getElem?_eq_some_iff.mp h).1]; exact h
  have dn : ∀ {k : Nat} {x : Nat × va_E}, wr[k]? = some x → (w0 ++ wr)[w0.length + k]? = some x := fun {k x} h => by
    rw [List.getElem?_append_right (by omega), show w0.length + k - w0.length = k by omega]; exact h
  have hPx : va_P D vwCl w0 H := fun k x hk => hP k x (up hk)
  have hDx : va_D (fun _ => True) w0 := ⟨fun i j p q hi hj h => hD.1 i j p q (up hi) (up hj) h, fun _ _ _ => trivial⟩
  have hin : ∀ q, va_A w0 H.size q → A q := by
    intro q h
    rcases h with ⟨k, e, h⟩ | h
    · exact hD.2 k _ (up h)
    · exact hA q (Nat.le_trans hS.1 h)
  have apart : ∀ (k : Nat) (q : Nat × va_E), wr[k]? = some q → q.1 < H.size ∧ ¬ va_A w0 H.size q.1 := by
    intro k q hq
    have hlt := (hP _ q (dn hq)).lt
    refine ⟨hlt, fun h => ?_⟩
    rcases h with ⟨k2, e, h⟩ | h
    · have hij := hD.1 _ k2 q (q.1, e) (dn hq) (up h) rfl
      have := (List.getElem?_eq_some_iff.mp h).1
      omega
    · omega
  refine va_callv (va_runV (As := As) (rest := rest) (n := n) ⟨F.1, F.2.1, hml, F.2.2.2.1, F.2.2.1⟩ (hM H.size) cw ⟨ct_blind (fun _ _ _ _ _ h => h), ?_, fun U hU hW => ⟨rfl, by rw [hU], trivial, by rw [hU]; exact hPx, va_K.moved hW.alike F.2.2.2.2, hDx⟩⟩ rfl hn hsz rfl (lv_room hW) hdg hf) hS (fun q _ h => hin q h) hin (fun σ t H1 locs1 ht _ _ hB _ hk hS => ?_)
  · have := va_recv F.2.2.2.2 hPx hc he
    rw [hq] at this
    exact this
  obtain ⟨hP1, -, hD1⟩ := hB
  rw [ht] at hP1
  refine kk σ H1 locs1 (va_P.app hP1 (fun k q hq => ?_)) (va_D.app (hD1.weaken (fun k q _ h => hin q.1 h)) ⟨fun i j p q hi hj hpq => ?_, fun k q hq => ?_⟩ (fun i j p q hi hj hpq => ?_)) hS
  · obtain ⟨g1, g2⟩ := apart k q hq
    exact (hP _ q (dn hq)).kept (hk q.1 g1 g2)
  · have := hD.1 _ _ p q (dn hi) (dn hj) hpq
    omega
  · exact hD.2 _ q (dn hq)
  · exact (apart j q hj).2 (by rw [← hpq]; exact hD1.2 i p hi)
end CT1
set_option maxHeartbeats 1000000 in
set_option maxRecDepth 100000 in
theorem t_X6_unsayAll (l : Launch) (dC : Nat → ClassId) (dI : Nat → Nat → Nat) (cA : Nat → ClassId) (a r1 q1 q2 q3 q4 : Nat) : ct_M l yX6_unsayAll (.code yX6_unsayAll cX6_unsayAll 2 none :: TB) 1 0 0 (dC, dI) cA (fun _ _ => True) [.ref a] [(a, .inr (6, [.ref r1, .ref q1, .ref q2, .ref q3, .ref q4, .int (0 : Int32), .int (0 : Int32)])), (q1, aI cA 31)] (fun _ : Unit => [(a, .inr (6, [.ref r1, .ref q1, .ref q2, .ref q3, .ref q4, .int (0 : Int32), .int (0 : Int32)])), (q1, aS cA)]) := by
  refine ct_M.of (cc := cX6_unsayAll) (maxL := 2) (by decide) rfl (Nat.le_of_ble_eq_true rfl) ?_
  intro p e s m below meth c A ls F hml hr hlocks hin _ hA hP hD hS hl
  have F : ac_X p s m [.ref a].toArray c cX6_unsayAll RX6 TB (dC, dI) vwCl (ac_ty cA) := ⟨F.1, F.2.1, fun w h => F.2.2.1 w (List.mem_cons_of_mem _ h), F.2.2.2.1, F.2.2.2.2⟩
  have hl : lv_has ls 2 [(0, .ref a)] := hl
  have L2 : ∀ (k n : Nat) (x : Int32) (H : Heap) (locs : List Loc) (ls : Array Slot), n + k = 8 → x.toInt = n → va_P (dC, dI) vwCl [(a, .inr (6, [.ref r1, .ref q1, .ref q2, .ref q3, .ref q4, .int (0 : Int32), .int (0 : Int32)])), (q1, .inl (cA 0, 31, .inl (soN n)))] H → va_D A [(a, .inr (6, [.ref r1, .ref q1, .ref q2, .ref q3, .ref q4, .int (0 : Int32), .int (0 : Int32)])), (q1, .inl (cA 0, 31, .inl (soN n)))] → va_S A s.heap H locs → lv_has ls 2 [(1, .int x), (0, .ref a)] → W p l e (ct_rm 1 0 0) s m [.ref a].toArray below meth c H locs 0 0 (MQ below (va_Qv (fun _ => True) (ct_B (dC, dI) cA A (fun _ : Unit => [(a, .inr (6, [.ref r1, .ref q1, .ref q2, .ref q3, .ref q4, .int (0 : Int32), .int (0 : Int32)])), (q1, aS cA)])) A) [.ref a].toArray s 0 0 A) (F0 m 2 ls []) := by
    intro k
    induction k with
    | zero =>
      intro n x H locs ls hn hx hP hD hS hl
      have hn8 : n = 8 := by omega
      subst hn8
      refine lv_iload_n F.1 F.2.1 dX6_unsayAll_2 rfl (lv_at hl 0 rfl) ?_
      refine a_bp F (8 : Int32) dX6_unsayAll_3 (by decide) ?_
      refine b_ge F 24 dX6_unsayAll_5 (by decide) rfl ic_8 (fun c1 => ?_) (fun c1 => ?_)
      · exact ct_ret () F hr hlocks hP hD hS rfl (Nat.le_refl _) (Nat.le_refl _) dX6_unsayAll_24
      · exfalso; omega
    | succ k ih =>
      intro n x H locs ls hn hx hP hD hS hl
      refine lv_iload_n F.1 F.2.1 dX6_unsayAll_2 rfl (lv_at hl 0 rfl) ?_
      refine a_bp F (8 : Int32) dX6_unsayAll_3 (by decide) ?_
      refine b_ge F 24 dX6_unsayAll_5 (by decide) rfl ic_8 (fun c1 => ?_) (fun c1 => ?_)
      · exfalso; omega
      · refine lv_aload_n F.1 F.2.1 dX6_unsayAll_8 rfl (lv_at hl 1 rfl) ?_
        refine va_get (ci := 6) (C := RX6) (T := TX6) (N := 7) F.1 F.2.1 F.2.2.1 inX6 F.2.2.2.1 F.2.2.2.2 hP 0 rfl rfl 1 (by decide) (F.2.2.1 _ qz272) (fun _ h9 => h9) (v := .ref q1) rfl dX6_unsayAll_9 ?_
        refine a_bp F (15 : Int32) dX6_unsayAll_12 (by decide) ?_
        refine lv_iload_n F.1 F.2.1 dX6_unsayAll_14 rfl (lv_at hl 0 rfl) ?_
        refine a_iadd F dX6_unsayAll_15 ic_15 rfl (by omega) (fun v hv => ?_)
        refine a_ic F (-1 : Int32) dX6_unsayAll_16 (by decide) ?_
        refine va_iast F.1 F.2.1 F.2.2.2.2 hP hD hS 1 0 rfl rfl (i_in rfl (by omega)) dX6_unsayAll_17 (fun H locs hP hD hS => ?_)
        have hv2 : v.toNatClampNeg = 15 + n := by
          have := i_cl (x := v) (by omega)
          omega
        have hP : va_P (dC, dI) vwCl [(a, .inr (6, [.ref r1, .ref q1, .ref q2, .ref q3, .ref q4, .int (0 : Int32), .int (0 : Int32)])), (q1, .inl (cA 0, 31, .inl (upd (soN n) v.toNatClampNeg (-1 : Int32))))] H := hP
        have hD : va_D A [(a, .inr (6, [.ref r1, .ref q1, .ref q2, .ref q3, .ref q4, .int (0 : Int32), .int (0 : Int32)])), (q1, .inl (cA 0, 31, .inl (upd (soN n) v.toNatClampNeg (-1 : Int32))))] := hD
        rw [hv2, so_up] at hP hD
        refine a_iinc F (k := 0) (fun z => [(1, .int z), (0, .ref a)]) dX6_unsayAll_18 hl rfl rfl (by decide) (by omega) (by decide) (fun _ => rfl) (fun z ls hz hl => ?_)
        refine lv_goto (tgt := 2) F.1 F.2.1 dX6_unsayAll_21 (by decide) ?_
        exact ih (n + 1) z H locs ls (by omega) (by omega) hP hD hS hl
  refine a_ic F (0 : Int32) dX6_unsayAll_0 (by decide) ?_
  refine lv_istore_n (lv' := [(1, .int (0 : Int32)), (0, .ref a)]) F.1 F.2.1 dX6_unsayAll_1 rfl hl (by decide) rfl (fun ls hl => ?_)
  refine L2 8 0 (0 : Int32) _ _ _ rfl ic_0 ?_ ?_ hS hl
  · rw [so_0]; exact hP
  · rw [so_0]; exact hD
def w_X6_init (cA : Nat → ClassId) (a : Nat) (r1 : Nat) (q : Nat → Nat) : va_W := (a, .inr (6, [.ref r1, .ref (q 0), .ref (q 1), .ref (q 2), .ref (q 3), .int (0 : Int32), .int (0 : Int32)])) :: ((([(q 0, aS cA)] ++ [(q 1, aI cA 320)]) ++ [(q 2, aI cA 31)]) ++ [(q 3, aI cA 248)])
set_option maxHeartbeats 1000000 in
set_option maxRecDepth 100000 in
theorem t_X6_init (l : Launch) (dC : Nat → ClassId) (dI : Nat → Nat → Nat) (cA : Nat → ClassId) (a : Nat) (r1 : Nat) : ct_M l yX6_init (.code yX6_init cX6_init 2 none :: TB) 3 4 630 (dC, dI) cA (fun _ _ => True) [.ref a, .ref r1] [(a, .inr (6, [.null, .null, .null, .null, .null, .int 0, .int 0]))] (w_X6_init cA a r1) := by
  refine ct_M.of (cc := cX6_init) (maxL := 2) (by decide) rfl (Nat.le_of_ble_eq_true rfl) ?_
  intro p e s m below meth c A ls F hml hr hlocks hin _ hA hP hD hS hl
  have F : ac_X p s m [.ref a, .ref r1].toArray c cX6_init RX6 TB (dC, dI) vwCl (ac_ty cA) := ⟨F.1, F.2.1, fun w h => F.2.2.1 w (List.mem_cons_of_mem _ h), F.2.2.2.1, F.2.2.2.2⟩
  have hl : lv_has ls 2 [(0, .ref a), (1, .ref r1)] := hl
  refine lv_aload_n F.1 F.2.1 dX6_init_0 rfl (lv_at hl 0 rfl) ?_
  refine ct_obj F hml hl.1 qz266 qz32 qz33 dX6_init_1 (Nat.le_of_ble_eq_true rfl) (Nat.le_of_ble_eq_true rfl) ?_
  refine lv_aload_n F.1 F.2.1 dX6_init_4 rfl (lv_at hl 0 rfl) ?_
  refine a_bp F (31 : Int32) dX6_init_5 (by decide) ?_
  refine ct_newI F hA hP hD hS 31 (by decide) (by decide) (Nat.le_of_ble_eq_true rfl) (Nat.le_of_ble_eq_true rfl) (Nat.le_of_ble_eq_true rfl) dX6_init_7 (fun q1 H hP hD hS => ?_)
  have hP : va_P (dC, dI) vwCl ((a, .inr (6, [.null, .null, .null, .null, .null, .int 0, .int 0])) :: [(q1, aI cA 31)]) H := hP
  have hD : va_D A ((a, .inr (6, [.null, .null, .null, .null, .null, .int 0, .int 0])) :: [(q1, aI cA 31)]) := hD
  refine va_putF (ci := 6) (v := .ref q1) (C := RX6) (T := TX6) (N := 7) F.1 F.2.1 F.2.2.1 inX6 tyX6 tyX6_ok nmX6 F.2.2.2.1 F.2.2.2.2 hP hD hS 0 rfl rfl 1 (by decide) (F.2.2.1 _ qz272) (fun _ h9 => h9) rfl hin rfl (tyX6_ok 1 (by decide)) rfl rfl (Nat.le_of_ble_eq_true rfl) dX6_init_9 (fun H locs hP hD hS => ?_)
  have hP : va_P (dC, dI) vwCl ((a, .inr (6, [.null, .ref q1, .null, .null, .null, .int 0, .int 0])) :: [(q1, aI cA 31)]) H := hP
  have hD : va_D A ((a, .inr (6, [.null, .ref q1, .null, .null, .null, .int 0, .int 0])) :: [(q1, aI cA 31)]) := hD
  refine lv_aload_n F.1 F.2.1 dX6_init_12 rfl (lv_at hl 0 rfl) ?_
  refine a_sp F (320 : Int32) dX6_init_13 (by decide) ?_
  refine ct_newI F hA hP hD hS 320 (by decide) (by decide) (Nat.le_of_ble_eq_true rfl) (Nat.le_of_ble_eq_true rfl) (Nat.le_of_ble_eq_true rfl) dX6_init_16 (fun q2 H hP hD hS => ?_)
  have hP : va_P (dC, dI) vwCl ((a, .inr (6, [.null, .ref q1, .null, .null, .null, .int 0, .int 0])) :: ([(q1, aI cA 31)] ++ [(q2, aI cA 320)])) H := hP
  have hD : va_D A ((a, .inr (6, [.null, .ref q1, .null, .null, .null, .int 0, .int 0])) :: ([(q1, aI cA 31)] ++ [(q2, aI cA 320)])) := hD
  refine va_putF (ci := 6) (v := .ref q2) (C := RX6) (T := TX6) (N := 7) F.1 F.2.1 F.2.2.1 inX6 tyX6 tyX6_ok nmX6 F.2.2.2.1 F.2.2.2.2 hP hD hS 0 rfl rfl 2 (by decide) (F.2.2.1 _ qz278) (fun _ h9 => h9) rfl hin rfl (tyX6_ok 2 (by decide)) rfl rfl (Nat.le_of_ble_eq_true rfl) dX6_init_18 (fun H locs hP hD hS => ?_)
  have hP : va_P (dC, dI) vwCl ((a, .inr (6, [.null, .ref q1, .ref q2, .null, .null, .int 0, .int 0])) :: ([(q1, aI cA 31)] ++ [(q2, aI cA 320)])) H := hP
  have hD : va_D A ((a, .inr (6, [.null, .ref q1, .ref q2, .null, .null, .int 0, .int 0])) :: ([(q1, aI cA 31)] ++ [(q2, aI cA 320)])) := hD
  refine lv_aload_n F.1 F.2.1 dX6_init_21 rfl (lv_at hl 0 rfl) ?_
  refine a_bp F (31 : Int32) dX6_init_22 (by decide) ?_
  refine ct_newI F hA hP hD hS 31 (by decide) (by decide) (Nat.le_of_ble_eq_true rfl) (Nat.le_of_ble_eq_true rfl) (Nat.le_of_ble_eq_true rfl) dX6_init_24 (fun q3 H hP hD hS => ?_)
  have hP : va_P (dC, dI) vwCl ((a, .inr (6, [.null, .ref q1, .ref q2, .null, .null, .int 0, .int 0])) :: (([(q1, aI cA 31)] ++ [(q2, aI cA 320)]) ++ [(q3, aI cA 31)])) H := hP
  have hD : va_D A ((a, .inr (6, [.null, .ref q1, .ref q2, .null, .null, .int 0, .int 0])) :: (([(q1, aI cA 31)] ++ [(q2, aI cA 320)]) ++ [(q3, aI cA 31)])) := hD
  refine va_putF (ci := 6) (v := .ref q3) (C := RX6) (T := TX6) (N := 7) F.1 F.2.1 F.2.2.1 inX6 tyX6 tyX6_ok nmX6 F.2.2.2.1 F.2.2.2.2 hP hD hS 0 rfl rfl 3 (by decide) (F.2.2.1 _ qz280) (fun _ h9 => h9) rfl hin rfl (tyX6_ok 3 (by decide)) rfl rfl (Nat.le_of_ble_eq_true rfl) dX6_init_26 (fun H locs hP hD hS => ?_)
  have hP : va_P (dC, dI) vwCl ((a, .inr (6, [.null, .ref q1, .ref q2, .ref q3, .null, .int 0, .int 0])) :: (([(q1, aI cA 31)] ++ [(q2, aI cA 320)]) ++ [(q3, aI cA 31)])) H := hP
  have hD : va_D A ((a, .inr (6, [.null, .ref q1, .ref q2, .ref q3, .null, .int 0, .int 0])) :: (([(q1, aI cA 31)] ++ [(q2, aI cA 320)]) ++ [(q3, aI cA 31)])) := hD
  refine lv_aload_n F.1 F.2.1 dX6_init_29 rfl (lv_at hl 0 rfl) ?_
  refine a_sp F (248 : Int32) dX6_init_30 (by decide) ?_
  refine ct_newI F hA hP hD hS 248 (by decide) (by decide) (Nat.le_of_ble_eq_true rfl) (Nat.le_of_ble_eq_true rfl) (Nat.le_of_ble_eq_true rfl) dX6_init_33 (fun q4 H hP hD hS => ?_)
  have hP : va_P (dC, dI) vwCl ((a, .inr (6, [.null, .ref q1, .ref q2, .ref q3, .null, .int 0, .int 0])) :: ((([(q1, aI cA 31)] ++ [(q2, aI cA 320)]) ++ [(q3, aI cA 31)]) ++ [(q4, aI cA 248)])) H := hP
  have hD : va_D A ((a, .inr (6, [.null, .ref q1, .ref q2, .ref q3, .null, .int 0, .int 0])) :: ((([(q1, aI cA 31)] ++ [(q2, aI cA 320)]) ++ [(q3, aI cA 31)]) ++ [(q4, aI cA 248)])) := hD
  refine va_putF (ci := 6) (v := .ref q4) (C := RX6) (T := TX6) (N := 7) F.1 F.2.1 F.2.2.1 inX6 tyX6 tyX6_ok nmX6 F.2.2.2.1 F.2.2.2.2 hP hD hS 0 rfl rfl 4 (by decide) (F.2.2.1 _ qz281) (fun _ h9 => h9) rfl hin rfl (tyX6_ok 4 (by decide)) rfl rfl (Nat.le_of_ble_eq_true rfl) dX6_init_35 (fun H locs hP hD hS => ?_)
  have hP : va_P (dC, dI) vwCl ((a, .inr (6, [.null, .ref q1, .ref q2, .ref q3, .ref q4, .int 0, .int 0])) :: ((([(q1, aI cA 31)] ++ [(q2, aI cA 320)]) ++ [(q3, aI cA 31)]) ++ [(q4, aI cA 248)])) H := hP
  have hD : va_D A ((a, .inr (6, [.null, .ref q1, .ref q2, .ref q3, .ref q4, .int 0, .int 0])) :: ((([(q1, aI cA 31)] ++ [(q2, aI cA 320)]) ++ [(q3, aI cA 31)]) ++ [(q4, aI cA 248)])) := hD
  refine lv_aload_n F.1 F.2.1 dX6_init_38 rfl (lv_at hl 0 rfl) ?_
  refine a_ic F (0 : Int32) dX6_init_39 (by decide) ?_
  refine va_put (ci := 6) (v := .int (0 : Int32)) (C := RX6) (T := TX6) (N := 7) F.1 F.2.1 F.2.2.1 inX6 tyX6 tyX6_ok nmX6 F.2.2.2.1 F.2.2.2.2 hP hD hS 0 rfl rfl 5 (by decide) (F.2.2.1 _ qz282) (fun _ h9 => h9) rfl (tyX6_ok 5 (by decide)) rfl rfl (Nat.le_of_ble_eq_true rfl) dX6_init_40 (fun H locs hP hD hS => ?_)
  have hP : va_P (dC, dI) vwCl ((a, .inr (6, [.null, .ref q1, .ref q2, .ref q3, .ref q4, .int (0 : Int32), .int 0])) :: ((([(q1, aI cA 31)] ++ [(q2, aI cA 320)]) ++ [(q3, aI cA 31)]) ++ [(q4, aI cA 248)])) H := hP
  have hD : va_D A ((a, .inr (6, [.null, .ref q1, .ref q2, .ref q3, .ref q4, .int (0 : Int32), .int 0])) :: ((([(q1, aI cA 31)] ++ [(q2, aI cA 320)]) ++ [(q3, aI cA 31)]) ++ [(q4, aI cA 248)])) := hD
  refine lv_aload_n F.1 F.2.1 dX6_init_43 rfl (lv_at hl 0 rfl) ?_
  refine a_ic F (0 : Int32) dX6_init_44 (by decide) ?_
  refine va_put (ci := 6) (v := .int (0 : Int32)) (C := RX6) (T := TX6) (N := 7) F.1 F.2.1 F.2.2.1 inX6 tyX6 tyX6_ok nmX6 F.2.2.2.1 F.2.2.2.2 hP hD hS 0 rfl rfl 6 (by decide) (F.2.2.1 _ qz284) (fun _ h9 => h9) rfl (tyX6_ok 6 (by decide)) rfl rfl (Nat.le_of_ble_eq_true rfl) dX6_init_45 (fun H locs hP hD hS => ?_)
  have hP : va_P (dC, dI) vwCl ((a, .inr (6, [.null, .ref q1, .ref q2, .ref q3, .ref q4, .int (0 : Int32), .int (0 : Int32)])) :: ((([(q1, aI cA 31)] ++ [(q2, aI cA 320)]) ++ [(q3, aI cA 31)]) ++ [(q4, aI cA 248)])) H := hP
  have hD : va_D A ((a, .inr (6, [.null, .ref q1, .ref q2, .ref q3, .ref q4, .int (0 : Int32), .int (0 : Int32)])) :: ((([(q1, aI cA 31)] ++ [(q2, aI cA 320)]) ++ [(q3, aI cA 31)]) ++ [(q4, aI cA 248)])) := hD
  refine lv_aload_n F.1 F.2.1 dX6_init_48 rfl (lv_at hl 0 rfl) ?_
  refine lv_aload_n F.1 F.2.1 dX6_init_49 rfl (lv_at hl 1 rfl) ?_
  refine va_putF (ci := 6) (v := .ref r1) (C := RX6) (T := TX6) (N := 7) F.1 F.2.1 F.2.2.1 inX6 tyX6 tyX6_ok nmX6 F.2.2.2.1 F.2.2.2.2 hP hD hS 0 rfl rfl 0 (by decide) (F.2.2.1 _ qz271) (fun _ h9 => h9) rfl hin rfl (tyX6_ok 0 (by decide)) rfl rfl (Nat.le_of_ble_eq_true rfl) dX6_init_50 (fun H locs hP hD hS => ?_)
  have hP : va_P (dC, dI) vwCl ((a, .inr (6, [.ref r1, .ref q1, .ref q2, .ref q3, .ref q4, .int (0 : Int32), .int (0 : Int32)])) :: ((([(q1, aI cA 31)] ++ [(q2, aI cA 320)]) ++ [(q3, aI cA 31)]) ++ [(q4, aI cA 248)])) H := hP
  have hD : va_D A ((a, .inr (6, [.ref r1, .ref q1, .ref q2, .ref q3, .ref q4, .int (0 : Int32), .int (0 : Int32)])) :: ((([(q1, aI cA 31)] ++ [(q2, aI cA 320)]) ++ [(q3, aI cA 31)]) ++ [(q4, aI cA 248)])) := hD
  refine lv_aload_n F.1 F.2.1 dX6_init_53 rfl (lv_at hl 0 rfl) ?_
  refine ct_callV F hml hl.1 hA (w0 := [(a, .inr (6, [.ref r1, .ref q1, .ref q2, .ref q3, .ref q4, .int (0 : Int32), .int (0 : Int32)])), (q1, aI cA 31)]) (wr := [(q2, aI cA 320)] ++ [(q3, aI cA 31)] ++ [(q4, aI cA 248)]) hP hD hS (As := []) (t_X6_unsayAll l dC dI cA a r1 q1 q2 q3 q4 ) ⟨callB_of 0 F.2.2.1 (tb_good qz270) rfl rfl rfl (F.2.2.1 _ qz9) (F.2.2.1 _ qz267) (by decide +kernel) (by decide), F.2.2.1 _ qz269, F.2.2.1 _ qs_unsay⟩ (ci := 6) rfl rfl rfl rfl rfl (Nat.le_of_ble_eq_true rfl) dX6_init_54 ⟨(Nat.le_of_ble_eq_true rfl), (Nat.le_of_ble_eq_true rfl)⟩ (fun σ9 H locs hP hD hS => ?_)
  have hP : va_P (dC, dI) vwCl ((a, .inr (6, [.ref r1, .ref q1, .ref q2, .ref q3, .ref q4, .int (0 : Int32), .int (0 : Int32)])) :: ((([(q1, aS cA)] ++ [(q2, aI cA 320)]) ++ [(q3, aI cA 31)]) ++ [(q4, aI cA 248)])) H := hP
  have hD : va_D A ((a, .inr (6, [.ref r1, .ref q1, .ref q2, .ref q3, .ref q4, .int (0 : Int32), .int (0 : Int32)])) :: ((([(q1, aS cA)] ++ [(q2, aI cA 320)]) ++ [(q3, aI cA 31)]) ++ [(q4, aI cA 248)])) := hD
  exact ct_ret (fun i => ([q1, q2, q3, q4] : List Nat).getD i 0) F hr hlocks hP hD hS rfl (Nat.le_of_ble_eq_true rfl) (Nat.le_of_ble_eq_true rfl) dX6_init_57

theorem qz1361 : Cond.code yX11_promise cX11_promise 3 (some .int) ∈ TB := tb_of (List.mem_append_right _ (List.mem_append_right _ (List.mem_append_right _ (List.mem_append_right _ (List.mem_append_right _ (List.mem_append_right _ (List.mem_append_left _ (List.mem_of_getElem? (i := 161) rfl)))))))) (by decide +kernel)
theorem qz1358 : Cond.methodLink RL 7 yX11_promise ∈ TB := tb_of (List.mem_append_right _ (List.mem_append_right _ (List.mem_append_right _ (List.mem_append_right _ (List.mem_append_right _ (List.mem_append_right _ (List.mem_append_left _ (List.mem_of_getElem? (i := 158) rfl)))))))) (by decide +kernel)
theorem qz1359 : Cond.instanceMethod yX11_promise ∈ TB := tb_of (List.mem_append_right _ (List.mem_append_right _ (List.mem_append_right _ (List.mem_append_right _ (List.mem_append_right _ (List.mem_append_right _ (List.mem_append_left _ (List.mem_of_getElem? (i := 159) rfl)))))))) (by decide +kernel)
theorem qz1360 : Cond.selects RX11 yX11_promise yX11_promise ∈ TB := tb_of (List.mem_append_right _ (List.mem_append_right _ (List.mem_append_right _ (List.mem_append_right _ (List.mem_append_right _ (List.mem_append_right _ (List.mem_append_left _ (List.mem_of_getElem? (i := 160) rfl)))))))) (by decide +kernel)
theorem qz1357 : Cond.classLink RL 13 "java/util/NoSuchElementException" ∈ TB := tb_of (List.mem_append_right _ (List.mem_append_right _ (List.mem_append_right _ (List.mem_append_right _ (List.mem_append_right _ (List.mem_append_right _ (List.mem_append_left _ (List.mem_of_getElem? (i := 157) rfl)))))))) (by decide +kernel)
/-! The law's promise(): x.promise's answer into 'out', or 1 where it threw. -/
def lp_A (cA : Nat → ClassId) (nF : Nat) (ad : Nat → Nat) (u : ac_U) (o sz : Nat) : Nat → Prop := fun q => va_A (ac_w ad cA (TT nF) u) sz q ∨ q = o
def lp_P (D : va_G) (cA : Nat → ClassId) (nF : Nat) (ad : Nat → Nat) (u : ac_U) (o : Nat) (f : Nat → Int64) (av : List Value) (sz : Nat) : Array Value → State → Prop := va_Pc av (fun U => U.heap.size = sz ∧ va_P D vwCl (ac_w ad cA (TT nF) u) U.heap ∧ va_K D vwCl (ac_ty cA) U ∧ va_D (fun _ => True) (ac_w ad cA (TT nF) u) ∧ thS (lp_A cA nF ad u o sz) U U.heap ∧ va_at D vwCl (o, oE cA f) U.heap ∧ ∀ k, k < 105 → ad k ≠ o)
theorem lp_blind {D : va_G} {cA : Nat → ClassId} {nF : Nat} {ad : Nat → Nat} {u : ac_U} {o : Nat} {f : Nat → Int64} {av : List Value} {sz : Nat} : FrameBlind (lp_P D cA nF ad u o f av sz) := by
  intro a U g mk q
  obtain ⟨q0, q1, qP, qK, qD, qT, q2⟩ := q
  exact ⟨q0, q1, qP, va_K.moved (u := U) (U := U.calling g mk a) (Vm.Alike.refl U.vm) qK, qD, thS.call (U := U) (V := U.calling g mk a) rfl qT, q2⟩
def lp_B (D : va_G) (cA : Nat → ClassId) (nF : Nat) (ad : Nat → Nat) (u : ac_U) (o : Nat) (f : Nat → Int64) (t : State) : Prop := va_P D vwCl (ac_w ad cA (TT nF) u) t.heap ∧ va_at D vwCl (o, oE cA f) t.heap
theorem lp_ofW {l : Launch} {y : MethodName} {ws ws' : List Cond} {rm : Room} {Pc : Array Value → State → Prop} {Qc : Array Value → State → Outcome → State → Prop} {mc ms : Nat} {free : Addr → Prop} {cc : ByteArray} {maxL : Nat} {ret : Option FieldType} {hh : List (Nat × Nat × Nat × Nat)}
    (hy : plainName y.cls = true) (hw : ws = Cond.codeWith y cc maxL ret hh :: ws')
    (body : ∀ p e s m args below meth c s₁, BodyLoose p l y (headSpec ws rm) cc maxL ret e s m args below meth c s₁ → c.maxLocals = maxL → Pc args s →
      W p l e (headSpec ws rm).room s m args below meth c s.heap [] 0 0 (MQ below Qc args s mc ms free) (entryFrame m args maxL)) : Met l y ws rm Pc Qc mc ms free := by
  refine MetFree.of_bodyS (code := cc) (maxLocals := maxL) (ret := ret) hy ?_ ?_
  · intro args s m h hn
    obtain ⟨m9, meth, c, hn9, h1, h2, h3, h4, -, h5, h6, -⟩ := Cond.codeWith_spec (atoms_spec (ws := ws) h _ (by rw [hw]; exact List.mem_cons_self))
    cases hn.symm.trans hn9
    exact ⟨meth, c, h1, h2, h3, h4, h5, h6⟩
  · intro p e s m args below meth c s₁ B hml hP _
    have hh0 : s₁.heap = s.heap := by rw [B.state]; rfl
    obtain ⟨t, a1, o, b1, b2, b3⟩ := body p e s m args below meth c s₁ B hml hP s₁ hh0 (Stand.of_body B)
    exact ⟨t, o, a1, b1, b2, b3⟩
theorem lp_last {p : Program} {l : Launch} {e : Env} {R : Room} {s : State} {m : MethodId} {args : Array Value} {below : List Frame} {meth : Method} {c : Code} {H : Heap} {locs : List Loc} {cells slots : Nat} {Q : State → Prop} {cc : ByteArray} {pc : Nat} {ls : Array Slot} {rest : List Value} {D : va_G} {A : Nat → Prop} {cA : Nat → ClassId} {own : String} {Ts : List Cond} {wr : va_W} {b : Nat} {f : Nat → Int64} {i : Int32} {x : Int64} (F : ac_X p s m args c cc own Ts D vwCl (ac_ty cA)) (hP : va_P D vwCl wr H) (hD : va_D A wr) (hO : va_at D vwCl (b, oE cA f) H) (hb : A b) (hN : ∀ (k : Nat) (q : Nat × va_E), wr[k]? = some q → q.1 ≠ b) (hS : va_S A s.heap H locs) (hin : vp_in i 1) (hdg : decode cc pc = .ok (.lastore, 1))
    (kk : ∀ (f1 : Nat → Int64) (H1 : Heap) (locs1 : List Loc), va_P D vwCl wr H1 → va_at D vwCl (b, oE cA f1) H1 → va_S A s.heap H1 locs1 → W p l e R s m args below meth c H1 locs1 cells slots Q (F0 m (pc + 1) ls rest)) : W p l e R s m args below meth c H locs cells slots Q (F0 m pc ls (.long x :: .int i :: .ref b :: rest)) := by
  have hPO : va_P D vwCl (wr ++ [(b, oE cA f)]) H := va_P.app hP (fun k q hk => by
    have hk0 : k = 0 := by
      have := (List.getElem?_eq_some_iff.mp hk).1
      simp at this
      exact this
    subst hk0
    cases hk
    exact hO)
  have hDO : va_D A (wr ++ [(b, oE cA f)]) := va_D.app hD ⟨fun i j p q hi hj _ => by
    have h1 := (List.getElem?_eq_some_iff.mp hi).1
    have h2 := (List.getElem?_eq_some_iff.mp hj).1
    simp at h1 h2
    omega, fun k q hk => by
    have hk0 : k = 0 := by
      have := (List.getElem?_eq_some_iff.mp hk).1
      simp at this
      exact this
    subst hk0
    cases hk
    exact hb⟩ (fun i j p q hi hj => by
    have hj0 : j = 0 := by
      have := (List.getElem?_eq_some_iff.mp hj).1
      simp at this
      exact this
    subst hj0
    cases hj
    exact hN i p hi)
  refine va_last F.1 F.2.1 F.2.2.2.2 hPO hDO hS wr.length 2 (cA := cA 2) (n := 1) (f := f) (by rw [List.getElem?_append_right (Nat.le_refl _), Nat.sub_self]; rfl) rfl hin hdg (fun H1 locs1 hP1 hD1 hS1 => ?_)
  have he : ∀ y : Nat × va_E, (wr ++ [(b, oE cA f)]).set wr.length y = wr ++ [y] := fun y => by
    rw [List.set_append_right _ _ (Nat.le_refl _), Nat.sub_self]; rfl
  rw [he] at hP1
  refine kk _ H1 locs1 (fun k q hk => hP1 k q ?_) (hP1 wr.length _ (by rw [List.getElem?_append_right (Nat.le_refl _), Nat.sub_self]; rfl)) hS1
  rw [List.getElem?_append_left (List.getElem?_eq_some_iff.mp hk).1]
  exact hk
theorem lp_tab : tableOf [(0, 10, 13, 13)] = [⟨0, 10, 13, 13⟩] := rfl
set_option maxHeartbeats 4000000 in
theorem lp_M (l : Launch) (hfl : l.stackTraces = false) (dC : Nat → ClassId) (dI : Nat → Nat → Nat) (cA : Nat → ClassId) (nF : Nat) (ad : Nat → Nat) (u0 : ac_U) (o : Nat) (f : Nat → Int64) (p0 p1 : Int32) (hR : ac_R rg u0) (sz : Nat) : Met l yL_promise (.codeWith yL_promise cL_promise 5 (some .int) [(0, 10, 13, 13)] :: TB) (rmP 11) (lp_P (dC, dI) cA nF ad u0 o f [.ref (ad 0), .int p0, .int p1, .ref o] sz) (va_Qi (fun (_ : Int32) (_ : Nat → Int64) => True) (lp_B (dC, dI) cA nF ad u0 o) (lp_A cA nF ad u0 o sz)) 1 6 (lp_A cA nF ad u0 o sz) := by
  refine lp_ofW (cc := cL_promise) (maxL := 5) (ret := some .int) (hh := [(0, 10, 13, 13)]) (by decide) rfl ?_
  intro p e s m args below meth c s₁ B hml hv
  obtain ⟨rfl, hsz, hP, hK, hD0, hT, hO, hN⟩ := hv
  subst hsz
  have hl := lv_entry ([.ref (ad 0), .int p0, .int p1, .ref o]) (n := 5) (Nat.le_of_ble_eq_true rfl)
  rw [lg_entry_eq]
  generalize (lg_sl ([.ref (ad 0), .int p0, .int p1, .ref o]) ++ List.replicate (5 - (lg_sl ([.ref (ad 0), .int p0, .int p1, .ref o])).length) Slot.unset).toArray = ls at hl ⊢
  have hl : lv_has ls 5 [(0, .ref (ad 0)), (1, .int p0), (2, .int p1), (3, .ref o)] := hl
  have hts := atoms_spec (ws := (.codeWith yL_promise cL_promise 5 (some .int) [(0, 10, 13, 13)] :: TB)) B.pre
  have F : ac_X p s m [.ref (ad 0), .int p0, .int p1, .ref o].toArray c cL_promise RL TB (dC, dI) vwCl (ac_ty cA) := ⟨B.exec, B.bytes, fun w h => hts w (List.mem_cons_of_mem _ h), findClass_of_methodNamed B.named, hK⟩
  have htab : c.exceptionTable.toList = [⟨0, 10, 13, 13⟩] := (vx_table (x := yL_promise) B (hts _ List.mem_cons_self)).trans lp_tab
  have hr := B.returns
  have hlocks := B.notSynchronized
  have hA : ∀ q : Nat, s.heap.size ≤ q → lp_A cA nF ad u0 o s.heap.size q := fun q h => Or.inl (Or.inr h)
  have hD : va_D (lp_A cA nF ad u0 o s.heap.size) (ac_w ad cA (TT nF) u0) := (hD0.self (sz := s.heap.size)).weaken (fun _ _ _ h => Or.inl h)
  have hS : va_S (lp_A cA nF ad u0 o s.heap.size) s.heap s.heap [] := va_S.rf
  have hNw : ∀ (k : Nat) (q : Nat × va_E), (ac_w ad cA (TT nF) u0)[k]? = some q → q.1 ≠ o := fun k q hk => by
    obtain ⟨t, h1, h2⟩ := ac_atx hk
    rw [h2]
    exact hN k (List.getElem?_eq_some_iff.mp h1).1
  have ho := hO.lt
  have RT : ∀ (f1 : Nat → Int64) (H : Heap) (locs : List Loc) (ls : Array Slot) (pc : Nat) (r : Int32), decode cL_promise pc = .ok (.ireturn, 1) → va_P (dC, dI) vwCl (ac_w ad cA (TT nF) u0) H → va_at (dC, dI) vwCl (o, oE cA f1) H → va_S (lp_A cA nF ad u0 o s.heap.size) s.heap H locs → W p l e (rmP 11) s m [.ref (ad 0), .int p0, .int p1, .ref o].toArray below meth c H locs (0 + 1) (0 + 6) (MQ below (va_Qi (fun (_ : Int32) (_ : Nat → Int64) => True) (lp_B (dC, dI) cA nF ad u0 o) (lp_A cA nF ad u0 o s.heap.size)) [.ref (ad 0), .int p0, .int p1, .ref o].toArray s 1 6 (lp_A cA nF ad u0 o s.heap.size)) (F0 m pc ls [.int r]) := by
    intro f1 H locs ls pc r hd hP hO hS
    exact W.iret F.1 F.2.1 hr (fun t ht hW => ⟨⟨r, f1, rfl, trivial, by rw [ht]; exact hP, by rw [ht]; exact hO⟩, hS.F ht⟩) hS.2.2 hd hlocks
  refine lv_aload_n F.1 F.2.1 dL_promise_0 rfl (lv_at hl 3 rfl) ?_
  refine a_ic F (0 : Int32) dL_promise_1 (by decide) ?_
  refine lv_aload_n F.1 F.2.1 dL_promise_2 rfl (lv_at hl 0 rfl) ?_
  refine lv_iload_n F.1 F.2.1 dL_promise_3 rfl (lv_at hl 1 rfl) ?_
  refine lv_iload_n F.1 F.2.1 dL_promise_4 rfl (lv_at hl 2 rfl) ?_
  have hsub : ∀ q, va_A (ac_w ad cA (TT nF) u0) s.heap.size q → lp_A cA nF ad u0 o s.heap.size q := fun q h => Or.inl h
  refine vx_calli (vx_runV (As := [.int p0, .int p1]) (rest := [.int (0 : Int32), .ref o]) (n := 2) ⟨F.1, F.2.1, hml, F.2.2.2.1, F.2.2.1⟩ (xp_M l hfl dC dI cA nF ad u0 p0 p1 hR s.heap.size) ⟨callB_of 2 F.2.2.1 (tb_good qz1361) rfl rfl rfl (F.2.2.1 _ qz1) (F.2.2.1 _ qz1358) (by decide +kernel) (by decide), F.2.2.1 _ qz1359, F.2.2.1 _ qz1360⟩ ⟨xp_blind, ?_, fun U hU hW => ⟨rfl, by rw [hU], by rw [hU]; exact hP, va_K.moved hW.alike F.2.2.2.2, hD0, by rw [hU]; exact thS.to hT hW (fun _ _ _ => rfl) hsub⟩⟩ rfl rfl hl.1 rfl (lv_room (Nat.le_of_ble_eq_true rfl)) dL_promise_5 ⟨Nat.le_of_ble_eq_true rfl, Nat.le_of_ble_eq_true rfl⟩) hS (fun q _ h => hsub q h) hsub (fun q _ h => hsub q h) (fun E ce q9 u t H1 locs1 ht hvm hp hB hz1 hk1 hS hce hcv hcl => ?_) (fun r u t H1 locs1 ht hvm hp hB hz1 hk1 hS => ?_)
  · have := va_recv F.2.2.2.2 hP (ci := 11) rfl (ac_at tc_0)
    exact this
  · subst hp
    obtain ⟨rfl, hP1, -, -⟩ := hB
    rw [ht] at hP1
    have hO1 : va_at (dC, dI) vwCl (o, oE cA f) H1 := va_at.kept hO (hk1 o ho (lw_no hN ho))
    refine vx_catch1 (own := RL) (name := nsE) (E := nsE) (x := ⟨0, 10, 13, 13⟩) F.2.2.2.1 htab (by decide) (by decide) (F.2.2.1 _ qz1357) (va_Nw.use rfl hT.1.2.2.2) hce hcv hcl ?_
    refine lv_astore (lv' := [(4, .ref q9), (0, .ref (ad 0)), (1, .int p0), (2, .int p1), (3, .ref o)]) F.1 F.2.1 dL_promise_13 hl (by decide) rfl (fun ls hl => ?_)
    refine a_ic F (1 : Int32) dL_promise_15 (by decide) ?_
    exact RT f H1 locs1 ls 16 _ dL_promise_16 hP1 hO1 hS
  · subst hp
    obtain ⟨hP1, -, -⟩ := hB
    rw [ht] at hP1
    have hO1 : va_at (dC, dI) vwCl (o, oE cA f) H1 := va_at.kept hO (hk1 o ho (lw_no hN ho))
    refine lv_i2l F.1 F.2.1 dL_promise_8 rfl ?_
    refine lp_last F hP1 hD hO1 (Or.inr rfl) hNw hS (i_in ic_0 (by omega)) dL_promise_9 (fun f1 H2 locs2 hP2 hO2 hS2 => ?_)
    refine lv_goto (tgt := 17) F.1 F.2.1 dL_promise_10 (by decide) ?_
    refine a_ic F (0 : Int32) dL_promise_17 (by decide) ?_
    exact RT f1 H2 locs2 ls 18 _ dL_promise_18 hP2 hO2 hS2

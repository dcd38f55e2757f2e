/-! Contracts over such worlds: all cells are the callee's too, so no cell is cut out at a call; what stays is said of the state. -/
section AC2
def ac_Pc (D : va_G) (cl : List vw_C) (tys : List (ClassId × FieldType)) (ad : Nat → Nat) (cA : Nat → ClassId) (T : List ac_T) (av : List Value) (u : ac_U) (sz : Nat) : Array Value → State → Prop := va_Pc av (fun U => U.heap.size = sz ∧ va_P D cl (ac_w ad cA T u) U.heap ∧ va_K D cl tys U ∧ va_D (fun _ => True) (ac_w ad cA T u))
def ac_B (D : va_G) (cl : List vw_C) (tys : List (ClassId × FieldType)) (ad : Nat → Nat) (cA : Nat → ClassId) (T : List ac_T) (A : Nat → Prop) (u : ac_U) (t : State) : Prop := va_P D cl (ac_w ad cA T u) t.heap ∧ va_K D cl tys t ∧ va_D A (ac_w ad cA T u)
def ac_rm (d : Nat) : Room := { frames := d, cells := 0, slots := 0, locals := 100 * d }
def ac_Mi (l : Launch) (y : MethodName) (ws : List Cond) (d : Nat) (D : va_G) (cl : List vw_C) (tys : List (ClassId × FieldType)) (ad : Nat → Nat) (cA : Nat → ClassId) (T : List ac_T) (av : List Value) (u : ac_U) (post : Int32 → ac_U → Prop) : Prop :=
  ∀ sz : Nat, Met l y ws (ac_rm d) (ac_Pc D cl tys ad cA T av u sz) (va_Qi post (ac_B D cl tys ad cA T (va_A (ac_w ad cA T u) sz)) (va_A (ac_w ad cA T u) sz)) 0 0 (va_A (ac_w ad cA T u) sz)
def ac_Ml (l : Launch) (y : MethodName) (ws : List Cond) (d : Nat) (D : va_G) (cl : List vw_C) (tys : List (ClassId × FieldType)) (ad : Nat → Nat) (cA : Nat → ClassId) (T : List ac_T) (av : List Value) (u : ac_U) (post : Int64 → ac_U → Prop) : Prop :=
  ∀ sz : Nat, Met l y ws (ac_rm d) (ac_Pc D cl tys ad cA T av u sz) (va_Ql post (ac_B D cl tys ad cA T (va_A (ac_w ad cA T u) sz)) (va_A (ac_w ad cA T u) sz)) 0 0 (va_A (ac_w ad cA T u) sz)
def ac_Mv (l : Launch) (y : MethodName) (ws : List Cond) (d : Nat) (D : va_G) (cl : List vw_C) (tys : List (ClassId × FieldType)) (ad : Nat → Nat) (cA : Nat → ClassId) (T : List ac_T) (av : List Value) (u : ac_U) (post : ac_U → Prop) : Prop :=
  ∀ sz : Nat, Met l y ws (ac_rm d) (ac_Pc D cl tys ad cA T av u sz) (va_Qv post (ac_B D cl tys ad cA T (va_A (ac_w ad cA T u) sz)) (va_A (ac_w ad cA T u) sz)) 0 0 (va_A (ac_w ad cA T u) sz)
theorem ac_blind {D : va_G} {cl : List vw_C} {tys : List (ClassId × FieldType)} {ad : Nat → Nat} {cA : Nat → ClassId} {T : List ac_T} {av : List Value} {u : ac_U} {sz : Nat} : FrameBlind (ac_Pc D cl tys ad cA T av u sz) := by
  intro a U g mk q
  obtain ⟨q0, q1, qP, qK, qD⟩ := q
  exact ⟨q0, q1, qP, va_K.moved (u := U) (U := U.calling g mk a) (Vm.Alike.refl U.vm) qK, qD⟩
end AC2
section AC3
variable {p : Program} {l : Launch} {e : Env} {R : Room} {s : State} {m : MethodId} {args : Array Value} {below : List Frame} {meth : Method} {c : Code} {H : Heap} {locs : List Loc} {cells slots : Nat} {Q : State → Prop}
variable {cc : ByteArray} {pc : Nat} {ls : Array Slot} {rest st0 As : List Value} {D : va_G} {cl : List vw_C} {A : Nat → Prop} {tys : List (ClassId × FieldType)} {ad : Nat → Nat} {cA : Nat → ClassId} {T : List ac_T} {u : ac_U}
variable {own C : String} {ci index nL maxL n d : Nat} {Ts ws ws' : List Cond} {y : MethodName} {bytes : ByteArray} {ret : Option FieldType} {av : List Value}
theorem ac_pre (F : ac_X p s m args c cc own Ts D cl tys) (hP : va_P D cl (ac_w ad cA T u) H) (hD : va_D A (ac_w ad cA T u)) : ∀ U : State, U.heap = H → s.WarmedH U.vm → ac_Pc D cl tys ad cA T av u H.size av.toArray U :=
  fun U hU hW => ⟨rfl, by rw [hU], by rw [hU]; exact hP, va_K.moved hW.alike F.2.2.2.2, hD.weaken (fun _ _ _ _ => trivial)⟩
theorem ac_in (hD : va_D A (ac_w ad cA T u)) (hS : va_S A s.heap H locs) (hA : ∀ q : Nat, s.heap.size ≤ q → A q) : ∀ q, va_A (ac_w ad cA T u) H.size q → A q := by
  intro q h
  rcases h with ⟨k, e, h⟩ | h
  · exact hD.2 k (q, e) h
  · exact hA q (Nat.le_trans hS.1 h)
theorem ac_Mi.of {post : Int32 → ac_U → Prop} (hy : plainName y.cls = true) (hw : ws = Cond.code y cc maxL ret :: ws') (hn : (lg_sl av).length ≤ maxL)
    (body : ∀ (p : Program) (e : Env) (s : State) (m : MethodId) (below : List Frame) (meth : Method) (c : Code) (A : Nat → Prop) (ls : Array Slot), ac_X p s m av.toArray c cc y.cls ws D cl tys → c.maxLocals = maxL → meth.sig.returnType = ret → meth.locks = false → (∀ q : Nat, s.heap.size ≤ q → A q) → va_P D cl (ac_w ad cA T u) s.heap → va_D A (ac_w ad cA T u) → va_S A s.heap s.heap [] → lv_has ls maxL (lv_args 0 av) →
      W p l e (ac_rm d) s m av.toArray below meth c s.heap [] 0 0 (MQ below (va_Qi post (ac_B D cl tys ad cA T A) A) av.toArray s 0 0 A) (F0 m 0 ls [])) : ac_Mi l y ws d D cl tys ad cA T av u post := by
  intro sz
  refine Met.ofW (cc := cc) (maxL := maxL) (ret := ret) hy hw ?_
  intro p e s m args below meth c s₁ B hml hv
  obtain ⟨rfl, hsz, hP, hK, hD0⟩ := hv
  subst hsz
  have hl := lv_entry av (n := maxL) hn
  rw [lg_entry_eq]
  exact body p e s m below meth c _ _ ⟨B.exec, B.bytes, atoms_spec (ws := ws) B.pre, findClass_of_methodNamed B.named, hK⟩ hml B.returns B.notSynchronized (fun q h => Or.inr h) hP hD0.self va_S.rf hl
theorem ac_Ml.of {post : Int64 → ac_U → Prop} (hy : plainName y.cls = true) (hw : ws = Cond.code y cc maxL ret :: ws') (hn : (lg_sl av).length ≤ maxL)
    (body : ∀ (p : Program) (e : Env) (s : State) (m : MethodId) (below : List Frame) (meth : Method) (c : Code) (A : Nat → Prop) (ls : Array Slot), ac_X p s m av.toArray c cc y.cls ws D cl tys → c.maxLocals = maxL → meth.sig.returnType = ret → meth.locks = false → (∀ q : Nat, s.heap.size ≤ q → A q) → va_P D cl (ac_w ad cA T u) s.heap → va_D A (ac_w ad cA T u) → va_S A s.heap s.heap [] → lv_has ls maxL (lv_args 0 av) →
      W p l e (ac_rm d) s m av.toArray below meth c s.heap [] 0 0 (MQ below (va_Ql post (ac_B D cl tys ad cA T A) A) av.toArray s 0 0 A) (F0 m 0 ls [])) : ac_Ml l y ws d D cl tys ad cA T av u post := by
  intro sz
  refine Met.ofW (cc := cc) (maxL := maxL) (ret := ret) hy hw ?_
  intro p e s m args below meth c s₁ B hml hv
  obtain ⟨rfl, hsz, hP, hK, hD0⟩ := hv
  subst hsz
  have hl := lv_entry av (n := maxL) hn
  rw [lg_entry_eq]
  exact body p e s m below meth c _ _ ⟨B.exec, B.bytes, atoms_spec (ws := ws) B.pre, findClass_of_methodNamed B.named, hK⟩ hml B.returns B.notSynchronized (fun q h => Or.inr h) hP hD0.self va_S.rf hl
theorem ac_Mv.of {post : ac_U → Prop} (hy : plainName y.cls = true) (hw : ws = Cond.code y cc maxL ret :: ws') (hn : (lg_sl av).length ≤ maxL)
    (body : ∀ (p : Program) (e : Env) (s : State) (m : MethodId) (below : List Frame) (meth : Method) (c : Code) (A : Nat → Prop) (ls : Array Slot), ac_X p s m av.toArray c cc y.cls ws D cl tys → c.maxLocals = maxL → meth.sig.returnType = ret → meth.locks = false → (∀ q : Nat, s.heap.size ≤ q → A q) → va_P D cl (ac_w ad cA T u) s.heap → va_D A (ac_w ad cA T u) → va_S A s.heap s.heap [] → lv_has ls maxL (lv_args 0 av) →
      W p l e (ac_rm d) s m av.toArray below meth c s.heap [] 0 0 (MQ below (va_Qv post (ac_B D cl tys ad cA T A) A) av.toArray s 0 0 A) (F0 m 0 ls [])) : ac_Mv l y ws d D cl tys ad cA T av u post := by
  intro sz
  refine Met.ofW (cc := cc) (maxL := maxL) (ret := ret) hy hw ?_
  intro p e s m args below meth c s₁ B hml hv
  obtain ⟨rfl, hsz, hP, hK, hD0⟩ := hv
  subst hsz
  have hl := lv_entry av (n := maxL) hn
  rw [lg_entry_eq]
  exact body p e s m below meth c _ _ ⟨B.exec, B.bytes, atoms_spec (ws := ws) B.pre, findClass_of_methodNamed B.named, hK⟩ hml B.returns B.notSynchronized (fun q h => Or.inr h) hP hD0.self va_S.rf hl
theorem a_reti {post : Int32 → ac_U → Prop} {v : Int32} (F : ac_X p s m args c cc own Ts D cl tys) (hr : meth.sig.returnType = some .int) (hlocks : meth.locks = false) (hP : va_P D cl (ac_w ad cA T u) H) (hD : va_D A (ac_w ad cA T u)) (hS : va_S A s.heap H locs) (hdg : decode cc pc = .ok (.ireturn, 1)) (hpost : post v u) :
    W p l e R s m args below meth c H locs cells slots (MQ below (va_Qi post (ac_B D cl tys ad cA T A) A) args s cells slots A) (F0 m pc ls [.int v]) :=
  W.iret F.1 F.2.1 hr (fun t ht hW => ⟨⟨v, u, rfl, hpost, by rw [ht]; exact hP, va_K.moved hW.alike F.2.2.2.2, hD⟩, hS.F ht⟩) hS.2.2 hdg hlocks
theorem a_retz {post : Int32 → ac_U → Prop} {v : Int32} (F : ac_X p s m args c cc own Ts D cl tys) (hr : meth.sig.returnType = some .boolean) (hlocks : meth.locks = false) (hP : va_P D cl (ac_w ad cA T u) H) (hD : va_D A (ac_w ad cA T u)) (hS : va_S A s.heap H locs) (hdg : decode cc pc = .ok (.ireturn, 1)) (hz : v = 0 ∨ v = 1) (hpost : post v u) :
    W p l e R s m args below meth c H locs cells slots (MQ below (va_Qi post (ac_B D cl tys ad cA T A) A) args s cells slots A) (F0 m pc ls [.int v]) :=
  W.zret F.1 F.2.1 hr (by rcases hz with h | h <;> rw [h] <;> rfl) (fun t ht hW => ⟨⟨v, u, rfl, hpost, by rw [ht]; exact hP, va_K.moved hW.alike F.2.2.2.2, hD⟩, hS.F ht⟩) hS.2.2 hdg hlocks
theorem a_retl {post : Int64 → ac_U → Prop} {v : Int64} (F : ac_X p s m args c cc own Ts D cl tys) (hr : meth.sig.returnType = some .long) (hlocks : meth.locks = false) (hP : va_P D cl (ac_w ad cA T u) H) (hD : va_D A (ac_w ad cA T u)) (hS : va_S A s.heap H locs) (hdg : decode cc pc = .ok (.lreturn, 1)) (hpost : post v u) :
    W p l e R s m args below meth c H locs cells slots (MQ below (va_Ql post (ac_B D cl tys ad cA T A) A) args s cells slots A) (F0 m pc ls [.long v]) :=
  W.lret F.1 F.2.1 hr (fun t ht hW => ⟨⟨v, u, rfl, hpost, by rw [ht]; exact hP, va_K.moved hW.alike F.2.2.2.2, hD⟩, hS.F ht⟩) hS.2.2 hdg hlocks
theorem a_retv {post : ac_U → Prop} (F : ac_X p s m args c cc own Ts D cl tys) (hr : meth.sig.returnType = none) (hlocks : meth.locks = false) (hP : va_P D cl (ac_w ad cA T u) H) (hD : va_D A (ac_w ad cA T u)) (hS : va_S A s.heap H locs) (hdg : decode cc pc = .ok (.return_, 1)) (hpost : post u) :
    W p l e R s m args below meth c H locs cells slots (MQ below (va_Qv post (ac_B D cl tys ad cA T A) A) args s cells slots A) (F0 m pc ls []) :=
  W.vret F.1 F.2.1 hr (fun t ht hW => ⟨⟨u, rfl, hpost, by rw [ht]; exact hP, va_K.moved hW.alike F.2.2.2.2, hD⟩, hS.F ht⟩) hS.2.2 hdg hlocks
theorem ac_back {u' : ac_U} {sz : Nat} {t : State} {H1 : Heap} (hin : ∀ q, va_A (ac_w ad cA T u) sz q → A q) (ht : t.heap = H1) (hB : ac_B D cl tys ad cA T (va_A (ac_w ad cA T u) sz) u' t) : va_P D cl (ac_w ad cA T u') H1 ∧ va_D A (ac_w ad cA T u') :=
  ⟨ht ▸ hB.1, hB.2.2.weaken (fun _ _ _ h => hin _ h)⟩
theorem a_Vi {post : Int32 → ac_U → Prop} {d' c0 : Nat} {fs : List ac_F} {q : vw_C} (F : ac_X p s m args c cc own Ts D cl tys) (hml : c.maxLocals = nL) (hsz : ls.size = nL) (hA : ∀ q : Nat, s.heap.size ≤ q → A q) (hP : va_P D cl (ac_w ad cA T u) H) (hD : va_D A (ac_w ad cA T u)) (hS : va_S A s.heap H locs)
    (hM : ac_Mi l y ws d' D cl tys ad cA T (.ref (ad c0) :: As) u post) (cw : CallW R s args own C index y bytes maxL ret ws (ac_rm d') 0 0 n) (hT : T[c0]? = some (.inl (ci, fs))) (hc : cl[ci]? = some q) (hq : q.1 = C) (hn : As.length = n) (hst : st0 = As.reverse ++ .ref (ad c0) :: rest) (hW : (rest.map fun v => v.category).sum ≤ 8) (hdg : decode cc pc = .ok (.invokevirtual index, 3)) (hf : cells ≤ R.cells ∧ slots ≤ R.slots)
    (kk : ∀ (r : Int32) (u' : ac_U) (H1 : Heap) (locs1 : List Loc), post r u' → va_P D cl (ac_w ad cA T u') H1 → va_D A (ac_w ad cA T u') → va_S A s.heap H1 locs1 → W p l e R s m args below meth c H1 locs1 cells slots Q (F0 m (pc + 3) ls (.int r :: rest))) : W p l e R s m args below meth c H locs cells slots Q (F0 m pc ls st0) := by
  subst hst
  have hin := ac_in hD hS hA
  refine va_calli (va_runV (As := As) (rest := rest) (n := n) ⟨F.1, F.2.1, hml, F.2.2.2.1, F.2.2.1⟩ (hM H.size) cw ⟨ac_blind, ?_, ac_pre F hP hD⟩ rfl hn hsz rfl (lv_room hW) hdg hf) hS (fun q _ h => hin q h) hin (fun r u' t H1 locs1 ht _ hw hB _ _ hS => ?_)
  · have := va_recv F.2.2.2.2 hP hc (ac_at hT)
    rw [hq] at this
    exact this
  · obtain ⟨h1, h2⟩ := ac_back hin ht hB
    exact kk r u' H1 locs1 hw h1 h2 hS
theorem a_Vv {post : ac_U → Prop} {d' c0 : Nat} {fs : List ac_F} {q : vw_C} (F : ac_X p s m args c cc own Ts D cl tys) (hml : c.maxLocals = nL) (hsz : ls.size = nL) (hA : ∀ q : Nat, s.heap.size ≤ q → A q) (hP : va_P D cl (ac_w ad cA T u) H) (hD : va_D A (ac_w ad cA T u)) (hS : va_S A s.heap H locs)
    (hM : ac_Mv l y ws d' D cl tys ad cA T (.ref (ad c0) :: As) u post) (cw : CallW R s args own C index y bytes maxL ret ws (ac_rm d') 0 0 n) (hT : T[c0]? = some (.inl (ci, fs))) (hc : cl[ci]? = some q) (hq : q.1 = C) (hn : As.length = n) (hst : st0 = As.reverse ++ .ref (ad c0) :: rest) (hW : (rest.map fun v => v.category).sum ≤ 8) (hdg : decode cc pc = .ok (.invokevirtual index, 3)) (hf : cells ≤ R.cells ∧ slots ≤ R.slots)
    (kk : ∀ (u' : ac_U) (H1 : Heap) (locs1 : List Loc), post u' → va_P D cl (ac_w ad cA T u') H1 → va_D A (ac_w ad cA T u') → va_S A s.heap H1 locs1 → W p l e R s m args below meth c H1 locs1 cells slots Q (F0 m (pc + 3) ls rest)) : W p l e R s m args below meth c H locs cells slots Q (F0 m pc ls st0) := by
  subst hst
  have hin := ac_in hD hS hA
  refine va_callv (va_runV (As := As) (rest := rest) (n := n) ⟨F.1, F.2.1, hml, F.2.2.2.1, F.2.2.1⟩ (hM H.size) cw ⟨ac_blind, ?_, ac_pre F hP hD⟩ rfl hn hsz rfl (lv_room hW) hdg hf) hS (fun q _ h => hin q h) hin (fun u' t H1 locs1 ht _ hw hB _ _ hS => ?_)
  · have := va_recv F.2.2.2.2 hP hc (ac_at hT)
    rw [hq] at this
    exact this
  · obtain ⟨h1, h2⟩ := ac_back hin ht hB
    exact kk u' H1 locs1 hw h1 h2 hS
theorem a_Si {post : Int32 → ac_U → Prop} {d' : Nat} (F : ac_X p s m args c cc own Ts D cl tys) (hml : c.maxLocals = nL) (hsz : ls.size = nL) (hA : ∀ q : Nat, s.heap.size ≤ q → A q) (hP : va_P D cl (ac_w ad cA T u) H) (hD : va_D A (ac_w ad cA T u)) (hS : va_S A s.heap H locs)
    (hM : ac_Mi l y ws d' D cl tys ad cA T As u post) (cw : CallB R s args own index y bytes maxL ret ws (ac_rm d') 0 0 n ∧ (Cond.static y).before args s = true) (hn : As.length = n) (hst : st0 = As.reverse ++ rest) (hW : (rest.map fun v => v.category).sum ≤ 8) (hdg : decode cc pc = .ok (.invokestatic index, 3)) (hf : cells ≤ R.cells ∧ slots ≤ R.slots)
    (kk : ∀ (r : Int32) (u' : ac_U) (H1 : Heap) (locs1 : List Loc), post r u' → va_P D cl (ac_w ad cA T u') H1 → va_D A (ac_w ad cA T u') → va_S A s.heap H1 locs1 → W p l e R s m args below meth c H1 locs1 cells slots Q (F0 m (pc + 3) ls (.int r :: rest))) : W p l e R s m args below meth c H locs cells slots Q (F0 m pc ls st0) := by
  subst hst
  have hin := ac_in hD hS hA
  refine va_calli (va_runS (As := As) (rest := rest) (n := n) ⟨F.1, F.2.1, hml, F.2.2.2.1, F.2.2.1⟩ (hM H.size) cw ⟨ac_blind, ac_pre F hP hD⟩ rfl hn hsz rfl (lv_room hW) hdg hf) hS (fun q _ h => hin q h) hin (fun r u' t H1 locs1 ht _ hw hB _ _ hS => ?_)
  obtain ⟨h1, h2⟩ := ac_back hin ht hB
  exact kk r u' H1 locs1 hw h1 h2 hS
theorem a_Sl {post : Int64 → ac_U → Prop} {d' : Nat} (F : ac_X p s m args c cc own Ts D cl tys) (hml : c.maxLocals = nL) (hsz : ls.size = nL) (hA : ∀ q : Nat, s.heap.size ≤ q → A q) (hP : va_P D cl (ac_w ad cA T u) H) (hD : va_D A (ac_w ad cA T u)) (hS : va_S A s.heap H locs)
    (hM : ac_Ml l y ws d' D cl tys ad cA T As u post) (cw : CallB R s args own index y bytes maxL ret ws (ac_rm d') 0 0 n ∧ (Cond.static y).before args s = true) (hn : As.length = n) (hst : st0 = As.reverse ++ rest) (hW : (rest.map fun v => v.category).sum ≤ 8) (hdg : decode cc pc = .ok (.invokestatic index, 3)) (hf : cells ≤ R.cells ∧ slots ≤ R.slots)
    (kk : ∀ (r : Int64) (u' : ac_U) (H1 : Heap) (locs1 : List Loc), post r u' → va_P D cl (ac_w ad cA T u') H1 → va_D A (ac_w ad cA T u') → va_S A s.heap H1 locs1 → W p l e R s m args below meth c H1 locs1 cells slots Q (F0 m (pc + 3) ls (.long r :: rest))) : W p l e R s m args below meth c H locs cells slots Q (F0 m pc ls st0) := by
  subst hst
  have hin := ac_in hD hS hA
  refine va_calll (va_runS (As := As) (rest := rest) (n := n) ⟨F.1, F.2.1, hml, F.2.2.2.1, F.2.2.1⟩ (hM H.size) cw ⟨ac_blind, ac_pre F hP hD⟩ rfl hn hsz rfl (lv_room hW) hdg hf) hS (fun q _ h => hin q h) hin (fun r u' t H1 locs1 ht _ hw hB _ _ hS => ?_)
  obtain ⟨h1, h2⟩ := ac_back hin ht hB
  exact kk r u' H1 locs1 hw h1 h2 hS
end AC3

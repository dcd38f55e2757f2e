theorem qz49 : Cond.fieldLink RJ0 38 "java/lang/String" "COMPACT_STRINGS" "Z" ∈ TB := tb_of (List.mem_append_right _ (List.mem_append_left _ (List.mem_of_getElem? (i := 49) rfl))) (by decide +kernel)
theorem qz2078 : Cond.fieldLink RJ0 15 "java/lang/String" "coder" "B" ∈ TB := tb_of (List.mem_append_right _ (List.mem_append_right _ (List.mem_append_right _ (List.mem_append_right _ (List.mem_append_right _ (List.mem_append_right _ (List.mem_append_right _ (List.mem_append_right _ (List.mem_append_right _ (List.mem_of_getElem? (i := 158) rfl)))))))))) (by decide +kernel)
theorem qz2077 : Cond.fieldLink RJ0 9 "java/lang/String" "value" "[B" ∈ TB := tb_of (List.mem_append_right _ (List.mem_append_right _ (List.mem_append_right _ (List.mem_append_right _ (List.mem_append_right _ (List.mem_append_right _ (List.mem_append_right _ (List.mem_append_right _ (List.mem_append_right _ (List.mem_of_getElem? (i := 157) rfl)))))))))) (by decide +kernel)
theorem qz65 : Cond.fieldLink RJ0 1053 "jdk/internal/util/Preconditions" "SIOOBE_FORMATTER" "Ljava/util/function/BiFunction;" ∈ TB := tb_of (List.mem_append_right _ (List.mem_append_left _ (List.mem_of_getElem? (i := 65) rfl))) (by decide +kernel)
theorem qz48 : Cond.code yJ0_coder_7d493 cJ0_coder_7d493 1 (some .byte) ∈ TB := tb_of (List.mem_append_right _ (List.mem_append_left _ (List.mem_of_getElem? (i := 48) rfl))) (by decide +kernel)
theorem qz3 : Cond.initialized RJ0 ∈ TB := tb_of (List.mem_append_right _ (List.mem_append_left _ (List.mem_of_getElem? (i := 3) rfl))) (by decide +kernel)
theorem qz5 : Cond.initialized RJ3 ∈ TB := tb_of (List.mem_append_right _ (List.mem_append_left _ (List.mem_of_getElem? (i := 5) rfl))) (by decide +kernel)
theorem qz4 : Cond.initialized RJ1 ∈ TB := tb_of (List.mem_append_right _ (List.mem_append_left _ (List.mem_of_getElem? (i := 4) rfl))) (by decide +kernel)
theorem qz45 : Cond.methodLink RJ0 335 yJ0_coder_7d493 ∈ TB := tb_of (List.mem_append_right _ (List.mem_append_left _ (List.mem_of_getElem? (i := 45) rfl))) (by decide +kernel)
theorem qz46 : Cond.instanceMethod yJ0_coder_7d493 ∈ TB := tb_of (List.mem_append_right _ (List.mem_append_left _ (List.mem_of_getElem? (i := 46) rfl))) (by decide +kernel)
theorem qz47 : Cond.selects RJ0 yJ0_coder_7d493 yJ0_coder_7d493 ∈ TB := tb_of (List.mem_append_right _ (List.mem_append_left _ (List.mem_of_getElem? (i := 47) rfl))) (by decide +kernel)
theorem qz58 : Cond.code yJ0_isLatin1_aae02 cJ0_isLatin1_aae02 1 (some .boolean) ∈ TB := tb_of (List.mem_append_right _ (List.mem_append_left _ (List.mem_of_getElem? (i := 58) rfl))) (by decide +kernel)
theorem qz55 : Cond.methodLink RJ0 492 yJ0_isLatin1_aae02 ∈ TB := tb_of (List.mem_append_right _ (List.mem_append_left _ (List.mem_of_getElem? (i := 55) rfl))) (by decide +kernel)
theorem qz56 : Cond.instanceMethod yJ0_isLatin1_aae02 ∈ TB := tb_of (List.mem_append_right _ (List.mem_append_left _ (List.mem_of_getElem? (i := 56) rfl))) (by decide +kernel)
theorem qz57 : Cond.selects RJ0 yJ0_isLatin1_aae02 yJ0_isLatin1_aae02 ∈ TB := tb_of (List.mem_append_right _ (List.mem_append_left _ (List.mem_of_getElem? (i := 57) rfl))) (by decide +kernel)
theorem qz69 : Cond.code yJ3_checkIndex_8e157 cJ3_checkIndex_8e157 3 (some .int) ∈ TB := tb_of (List.mem_append_right _ (List.mem_append_left _ (List.mem_of_getElem? (i := 69) rfl))) (by decide +kernel)
theorem qz67 : Cond.methodLink RJ0 1059 yJ3_checkIndex_8e157 ∈ TB := tb_of (List.mem_append_right _ (List.mem_append_left _ (List.mem_of_getElem? (i := 67) rfl))) (by decide +kernel)
theorem qz68 : Cond.static yJ3_checkIndex_8e157 ∈ TB := tb_of (List.mem_append_right _ (List.mem_append_left _ (List.mem_of_getElem? (i := 68) rfl))) (by decide +kernel)
theorem qz64 : Cond.code yJ0_checkIndex_df160 cJ0_checkIndex_df160 2 none ∈ TB := tb_of (List.mem_append_right _ (List.mem_append_left _ (List.mem_of_getElem? (i := 64) rfl))) (by decide +kernel)
theorem qz62 : Cond.methodLink RJ1 9 yJ0_checkIndex_df160 ∈ TB := tb_of (List.mem_append_right _ (List.mem_append_left _ (List.mem_of_getElem? (i := 62) rfl))) (by decide +kernel)
theorem qz63 : Cond.static yJ0_checkIndex_df160 ∈ TB := tb_of (List.mem_append_right _ (List.mem_append_left _ (List.mem_of_getElem? (i := 63) rfl))) (by decide +kernel)
theorem qz61 : Cond.code yJ1_charAt_3b067 cJ1_charAt_3b067 2 (some .char) ∈ TB := tb_of (List.mem_append_right _ (List.mem_append_left _ (List.mem_of_getElem? (i := 61) rfl))) (by decide +kernel)
theorem qz59 : Cond.methodLink RJ0 495 yJ1_charAt_3b067 ∈ TB := tb_of (List.mem_append_right _ (List.mem_append_left _ (List.mem_of_getElem? (i := 59) rfl))) (by decide +kernel)
theorem qz60 : Cond.static yJ1_charAt_3b067 ∈ TB := tb_of (List.mem_append_right _ (List.mem_append_left _ (List.mem_of_getElem? (i := 60) rfl))) (by decide +kernel)
/-! The words of the tape: a String constant, its length and chars. -/
def stD (a v : Nat) (f : Nat → Int32) (A : Nat → Prop) (U : State) (H : Heap) : Prop :=
  vk_R RX10 51 "hours place way frog person deed promise each unless vow goes does says hour or and not bound open kept off broken of from till times number " a U ∧ va_O "java/lang/String" a A U H ∧ va_OF "java/lang/String" "coder" "B" (.int 0) a A U H ∧ va_OF "java/lang/String" "value" "[B" (.ref v) a A U H ∧ va_T .byte v 141 (fun j => .int (f j)) A U H ∧ va_Z "java/lang/String" "COMPACT_STRINGS" "Z" (.int 1) A U H ∧ va_Zq "jdk/internal/util/Preconditions" "SIOOBE_FORMATTER" "Ljava/util/function/BiFunction;" A U H
theorem stD.to {a v : Nat} {f : Nat → Int32} {A B : Nat → Prop} {s U : State} {H : Heap} (h : stD a v f A s s.heap) (hW : s.WarmedH U.vm) (hq : ∀ a : Nat, a < s.heap.size → ¬ A a → H[a]? = s.heap[a]?) (hAB : ∀ q, B q → A q) : stD a v f B U H := by
  obtain ⟨h1, h2, h3, h4, h5, h6, h7⟩ := h
  exact ⟨vk_R.warm hW h1, va_O.moved hW.alike ((h2.kept hq).narrow hAB), va_OF.moved hW.alike ((h3.kept hq).narrow hAB), va_OF.moved hW.alike ((h4.kept hq).narrow hAB), va_T.moved hW.alike ((h5.kept hq).narrow hAB), va_Z.moved hW.alike ((h6.kept hq).narrow hAB), va_Zq.moved hW.alike ((h7.kept hq).narrow hAB)⟩
def js_P (a v : Nat) (f : Nat → Int32) (av : List Value) (sz : Nat) : Array Value → State → Prop := va_Pc av (fun U => U.heap.size = sz ∧ stD a v f (fun q => sz ≤ q) U U.heap)
def js_M (l : Launch) (y : MethodName) (ws : List Cond) (d a v : Nat) (f : Nat → Int32) (av : List Value) (post : Int32 → Prop) : Prop :=
  ∀ sz : Nat, Met l y ws (ct_rm d 0 0) (js_P a v f av sz) (va_Qi (fun r (_ : Unit) => post r) (fun _ _ => True) (fun q => sz ≤ q)) 0 0 (fun q => sz ≤ q)
def js_V0 (l : Launch) (y : MethodName) (ws : List Cond) (d a v : Nat) (f : Nat → Int32) (av : List Value) : Prop :=
  ∀ sz : Nat, Met l y ws (ct_rm d 0 0) (js_P a v f av sz) (va_Qv (fun (_ : Unit) => True) (fun _ _ => True) (fun q => sz ≤ q)) 0 0 (fun q => sz ≤ q)
theorem js_blind {a v : Nat} {f : Nat → Int32} {av : List Value} {sz : Nat} : FrameBlind (js_P a v f av sz) := by
  intro b U g mk q
  obtain ⟨q0, q1, q2⟩ := q
  refine ⟨q0, q1, ?_⟩
  obtain ⟨h1, h2, h3, h4, h5, h6, h7⟩ := q2
  have hv : U.vm.Alike (U.calling g mk b).vm := Vm.Alike.refl U.vm
  exact ⟨vk_R.same rfl h1, va_O.moved hv h2, va_OF.moved hv h3, va_OF.moved hv h4, va_T.moved hv h5, va_Z.moved hv h6, va_Zq.moved hv h7⟩
theorem va_K0 {D : va_G} {s : State} : va_K D [] [] s := ⟨fun _ _ h => (by simp at h), fun _ _ h => (by simp at h)⟩
section JS0
variable {p : Program} {l : Launch} {e : Env} {R : Room} {s : State} {m : MethodId} {args : Array Value} {below : List Frame} {meth : Method} {c : Code} {H : Heap} {locs : List Loc} {cells slots : Nat} {Q : State → Prop}
variable {cc : ByteArray} {pc : Nat} {ls : Array Slot} {rest st0 As : List Value} {D : va_G} {cl : List vw_C} {tys : List (ClassId × FieldType)} {A : Nat → Prop} {a v : Nat} {f : Nat → Int32}
variable {own C : String} {index nL maxL n d : Nat} {ws ws' : List Cond} {y : MethodName} {bytes : ByteArray} {ret : Option FieldType} {av : List Value} {post : Int32 → Prop}
theorem js_M.of (hy : plainName y.cls = true) (hw : ws = Cond.code y cc maxL ret :: ws') (hn : (lg_sl av).length ≤ maxL)
    (body : ∀ (p : Program) (e : Env) (s : State) (m : MethodId) (below : List Frame) (meth : Method) (c : Code) (ls : Array Slot), ac_X p s m av.toArray c cc y.cls ws ((fun _ => default, fun _ _ => 0) : va_G) [] [] → c.maxLocals = maxL → meth.sig.returnType = ret → meth.locks = false → stD a v f (fun q => s.heap.size ≤ q) s s.heap → lv_has ls maxL (lv_args 0 av) →
      W p l e (ct_rm d 0 0) s m av.toArray below meth c s.heap [] 0 0 (MQ below (va_Qi (fun r (_ : Unit) => post r) (fun _ _ => True) (fun q => s.heap.size ≤ q)) av.toArray s 0 0 (fun q => s.heap.size ≤ q)) (F0 m 0 ls [])) : js_M l y ws d a v f av post := by
  intro sz
  refine Met.ofW (cc := cc) (maxL := maxL) (ret := ret) hy hw ?_
  intro p e s m args below meth c s₁ B hml hv
  obtain ⟨rfl, hsz, hst⟩ := hv
  subst hsz
  have hl := lv_entry av (n := maxL) hn
  rw [lg_entry_eq]
  exact body p e s m below meth c _ ⟨B.exec, B.bytes, atoms_spec (ws := ws) B.pre, findClass_of_methodNamed B.named, va_K0⟩ hml B.returns B.notSynchronized hst hl
theorem js_V0.of (hy : plainName y.cls = true) (hw : ws = Cond.code y cc maxL ret :: ws') (hn : (lg_sl av).length ≤ maxL)
    (body : ∀ (p : Program) (e : Env) (s : State) (m : MethodId) (below : List Frame) (meth : Method) (c : Code) (ls : Array Slot), ac_X p s m av.toArray c cc y.cls ws ((fun _ => default, fun _ _ => 0) : va_G) [] [] → c.maxLocals = maxL → meth.sig.returnType = ret → meth.locks = false → stD a v f (fun q => s.heap.size ≤ q) s s.heap → lv_has ls maxL (lv_args 0 av) →
      W p l e (ct_rm d 0 0) s m av.toArray below meth c s.heap [] 0 0 (MQ below (va_Qv (fun (_ : Unit) => True) (fun _ _ => True) (fun q => s.heap.size ≤ q)) av.toArray s 0 0 (fun q => s.heap.size ≤ q)) (F0 m 0 ls [])) : js_V0 l y ws d a v f av := by
  intro sz
  refine Met.ofW (cc := cc) (maxL := maxL) (ret := ret) hy hw ?_
  intro p e s m args below meth c s₁ B hml hv
  obtain ⟨rfl, hsz, hst⟩ := hv
  subst hsz
  have hl := lv_entry av (n := maxL) hn
  rw [lg_entry_eq]
  exact body p e s m below meth c _ ⟨B.exec, B.bytes, atoms_spec (ws := ws) B.pre, findClass_of_methodNamed B.named, va_K0⟩ hml B.returns B.notSynchronized hst hl
theorem js_ret {x : Int32} {ty : FieldType} (F : ac_X p s m args c cc own TB D cl tys) (hr : meth.sig.returnType = some ty) (hn : narrow ty (.int x) = .int x) (hlocks : meth.locks = false) (hS : va_S (fun q => s.heap.size ≤ q) s.heap H locs) (hdg : decode cc pc = .ok (.ireturn, 1)) (hp : post x) :
    W p l e R s m args below meth c H locs 0 0 (MQ below (va_Qi (fun r (_ : Unit) => post r) (fun _ _ => True) (fun q => s.heap.size ≤ q)) args s 0 0 (fun q => s.heap.size ≤ q)) (F0 m pc ls [.int x]) :=
  W.zret F.1 F.2.1 hr hn (fun t ht hW => ⟨⟨x, (), rfl, hp, trivial⟩, hS.F ht⟩) hS.2.2 hdg hlocks
theorem js_retv (F : ac_X p s m args c cc own TB D cl tys) (hr : meth.sig.returnType = none) (hlocks : meth.locks = false) (hS : va_S (fun q => s.heap.size ≤ q) s.heap H locs) (hdg : decode cc pc = .ok (.return_, 1)) :
    W p l e R s m args below meth c H locs 0 0 (MQ below (va_Qv (fun (_ : Unit) => True) (fun _ _ => True) (fun q => s.heap.size ≤ q)) args s 0 0 (fun q => s.heap.size ≤ q)) (F0 m pc ls []) :=
  W.vret F.1 F.2.1 hr (fun t ht hW => ⟨⟨(), rfl, trivial, trivial⟩, hS.F ht⟩) hS.2.2 hdg hlocks
theorem js_callV (F : ac_X p s m args c cc own TB D cl tys) (hml : c.maxLocals = nL) (hsz : ls.size = nL) (hst0 : stD a v f A s s.heap) (hA : ∀ q : Nat, s.heap.size ≤ q → A q) (hS : va_S A s.heap H locs)
    (hM : js_M l y ws d a v f (.ref a :: As) post) (cw : CallW R s args own "java/lang/String" index y bytes maxL ret ws (ct_rm d 0 0) 0 0 n) (hn : As.length = n) (hst : st0 = As.reverse ++ .ref a :: rest) (hW : (rest.map fun v => v.category).sum ≤ 8) (hdg : decode cc pc = .ok (.invokevirtual index, 3)) (hf : cells ≤ R.cells ∧ slots ≤ R.slots)
    (kk : ∀ (r : Int32) (H1 : Heap) (locs1 : List Loc), post r → (∀ q : Nat, q < H.size → H1[q]? = H[q]?) → va_S A s.heap H1 locs1 → W p l e R s m args below meth c H1 locs1 cells slots Q (F0 m (pc + 3) ls (.int r :: rest))) : W p l e R s m args below meth c H locs cells slots Q (F0 m pc ls st0) := by
  subst hst
  have hin : ∀ q : Nat, H.size ≤ q → A q := fun q h => hA q (Nat.le_trans hS.1 h)
  refine va_calli (va_runV (As := As) (rest := rest) (n := n) ⟨F.1, F.2.1, hml, F.2.2.2.1, F.2.2.1⟩ (hM H.size) cw ⟨js_blind, ?_, fun U hU hW => ⟨rfl, by rw [hU], by rw [hU]; exact hst0.to hW hS.2.1 hin⟩⟩ rfl hn hsz rfl (lv_room hW) hdg hf) hS (fun q _ h => hin q h) hin (fun r u' t H1 locs1 ht _ hw _ _ hk hS => ?_)
  · obtain ⟨cell, h1, h2, h3, -⟩ := hst0.2.1.kept hS.2.1
    exact ⟨cell, h1, h2, h3⟩
  · exact kk r H1 locs1 hw (fun q hq => hk q hq (by omega)) hS
theorem js_callS (F : ac_X p s m args c cc own TB D cl tys) (hml : c.maxLocals = nL) (hsz : ls.size = nL) (hst0 : stD a v f A s s.heap) (hA : ∀ q : Nat, s.heap.size ≤ q → A q) (hS : va_S A s.heap H locs)
    (hM : js_M l y ws d a v f As post) (cw : CallB R s args own index y bytes maxL ret ws (ct_rm d 0 0) 0 0 n ∧ (Cond.static y).before args s = true) (hn : As.length = n) (hst : st0 = As.reverse ++ rest) (hW : (rest.map fun v => v.category).sum ≤ 8) (hdg : decode cc pc = .ok (.invokestatic index, 3)) (hf : cells ≤ R.cells ∧ slots ≤ R.slots)
    (kk : ∀ (r : Int32) (H1 : Heap) (locs1 : List Loc), post r → (∀ q : Nat, q < H.size → H1[q]? = H[q]?) → va_S A s.heap H1 locs1 → W p l e R s m args below meth c H1 locs1 cells slots Q (F0 m (pc + 3) ls (.int r :: rest))) : W p l e R s m args below meth c H locs cells slots Q (F0 m pc ls st0) := by
  subst hst
  have hin : ∀ q : Nat, H.size ≤ q → A q := fun q h => hA q (Nat.le_trans hS.1 h)
  refine va_calli (va_runS (As := As) (rest := rest) (n := n) ⟨F.1, F.2.1, hml, F.2.2.2.1, F.2.2.1⟩ (hM H.size) cw ⟨js_blind, fun U hU hW => ⟨rfl, by rw [hU], by rw [hU]; exact hst0.to hW hS.2.1 hin⟩⟩ rfl hn hsz rfl (lv_room hW) hdg hf) hS (fun q _ h => hin q h) hin (fun r u' t H1 locs1 ht _ hw _ _ hk hS => ?_)
  exact kk r H1 locs1 hw (fun q hq => hk q hq (by omega)) hS
theorem js_callSv (F : ac_X p s m args c cc own TB D cl tys) (hml : c.maxLocals = nL) (hsz : ls.size = nL) (hst0 : stD a v f A s s.heap) (hA : ∀ q : Nat, s.heap.size ≤ q → A q) (hS : va_S A s.heap H locs)
    (hM : js_V0 l y ws d a v f As) (cw : CallB R s args own index y bytes maxL ret ws (ct_rm d 0 0) 0 0 n ∧ (Cond.static y).before args s = true) (hn : As.length = n) (hst : st0 = As.reverse ++ rest) (hW : (rest.map fun v => v.category).sum ≤ 8) (hdg : decode cc pc = .ok (.invokestatic index, 3)) (hf : cells ≤ R.cells ∧ slots ≤ R.slots)
    (kk : ∀ (H1 : Heap) (locs1 : List Loc), (∀ q : Nat, q < H.size → H1[q]? = H[q]?) → va_S A s.heap H1 locs1 → W p l e R s m args below meth c H1 locs1 cells slots Q (F0 m (pc + 3) ls rest)) : W p l e R s m args below meth c H locs cells slots Q (F0 m pc ls st0) := by
  subst hst
  have hin : ∀ q : Nat, H.size ≤ q → A q := fun q h => hA q (Nat.le_trans hS.1 h)
  refine va_callv (va_runS (As := As) (rest := rest) (n := n) ⟨F.1, F.2.1, hml, F.2.2.2.1, F.2.2.1⟩ (hM H.size) cw ⟨js_blind, fun U hU hW => ⟨rfl, by rw [hU], by rw [hU]; exact hst0.to hW hS.2.1 hin⟩⟩ rfl hn hsz rfl (lv_room hW) hdg hf) hS (fun q _ h => hin q h) hin (fun u' t H1 locs1 ht _ hw _ _ hk hS => ?_)
  exact kk H1 locs1 (fun q hq => hk q hq (by omega)) hS
end JS0
abbrev jsF (p : Program) (s : State) (m : MethodId) (av : List Value) (c : Code) (cc : ByteArray) (own : String) : Prop := ac_X p s m av.toArray c cc own TB ((fun _ => default, fun _ _ => 0) : va_G) [] []
set_option maxHeartbeats 1000000 in
theorem j_coder (l : Launch) (a v : Nat) (f : Nat → Int32) : js_M l yJ0_coder_7d493 (.code yJ0_coder_7d493 cJ0_coder_7d493 1 (some .byte) :: TB) 1 a v f [.ref a] (fun r => r = 0) := by
  refine js_M.of (cc := cJ0_coder_7d493) (maxL := 1) (ret := some .byte) (by decide) rfl (Nat.le_of_ble_eq_true rfl) ?_
  intro p e s m below meth c ls F hml hr hlocks hst hl
  have F : jsF p s m [.ref a] c cJ0_coder_7d493 RJ0 := ⟨F.1, F.2.1, fun w h => F.2.2.1 w (List.mem_cons_of_mem _ h), F.2.2.2.1, F.2.2.2.2⟩
  have hl : lv_has ls 1 [(0, .ref a)] := hl
  have hS : va_S (fun q => s.heap.size ≤ q) s.heap s.heap [] := va_S.rf
  refine va_gets F.1 F.2.1 hst.2.2.2.2.2.1 hS F.2.2.2.1 (F.2.2.1 _ qz49) (fun _ h => h) dJ0_coder_7d493_0 ?_
  refine z_eq F 13 dJ0_coder_7d493_3 (by decide) ic_1 (fun h => absurd h (by decide)) (fun _ => ?_)
  refine lv_aload_n F.1 F.2.1 dJ0_coder_7d493_6 rfl (lv_at hl 0 rfl) ?_
  refine vk_getf F.1 F.2.1 hst.2.2.1 hS F.2.2.2.1 (F.2.2.1 _ qz2078) (fun _ h => h) dJ0_coder_7d493_7 ?_
  refine lv_goto (tgt := 14) F.1 F.2.1 dJ0_coder_7d493_10 (by decide) ?_
  exact js_ret F hr rfl hlocks hS dJ0_coder_7d493_14 rfl
set_option maxHeartbeats 1000000 in
theorem j_isLatin1 (l : Launch) (a v : Nat) (f : Nat → Int32) : js_M l yJ0_isLatin1_aae02 (.code yJ0_isLatin1_aae02 cJ0_isLatin1_aae02 1 (some .boolean) :: TB) 1 a v f [.ref a] (fun r => r = 1) := by
  refine js_M.of (cc := cJ0_isLatin1_aae02) (maxL := 1) (ret := some .boolean) (by decide) rfl (Nat.le_of_ble_eq_true rfl) ?_
  intro p e s m below meth c ls F hml hr hlocks hst hl
  have F : jsF p s m [.ref a] c cJ0_isLatin1_aae02 RJ0 := ⟨F.1, F.2.1, fun w h => F.2.2.1 w (List.mem_cons_of_mem _ h), F.2.2.2.1, F.2.2.2.2⟩
  have hl : lv_has ls 1 [(0, .ref a)] := hl
  have hS : va_S (fun q => s.heap.size ≤ q) s.heap s.heap [] := va_S.rf
  refine va_gets F.1 F.2.1 hst.2.2.2.2.2.1 hS F.2.2.2.1 (F.2.2.1 _ qz49) (fun _ h => h) dJ0_isLatin1_aae02_0 ?_
  refine z_eq F 17 dJ0_isLatin1_aae02_3 (by decide) ic_1 (fun h => absurd h (by decide)) (fun _ => ?_)
  refine lv_aload_n F.1 F.2.1 dJ0_isLatin1_aae02_6 rfl (lv_at hl 0 rfl) ?_
  refine vk_getf F.1 F.2.1 hst.2.2.1 hS F.2.2.2.1 (F.2.2.1 _ qz2078) (fun _ h => h) dJ0_isLatin1_aae02_7 ?_
  refine z_ne F 17 dJ0_isLatin1_aae02_10 (by decide) ic_0 (fun h => absurd rfl h) (fun _ => ?_)
  refine a_ic F (1 : Int32) dJ0_isLatin1_aae02_13 (by decide) ?_
  refine lv_goto (tgt := 18) F.1 F.2.1 dJ0_isLatin1_aae02_14 (by decide) ?_
  exact js_ret F hr rfl hlocks hS dJ0_isLatin1_aae02_18 rfl
set_option maxHeartbeats 1000000 in
theorem j_length (l : Launch) (a v : Nat) (f : Nat → Int32) : js_M l yJ0_length_8abf5 (.code yJ0_length_8abf5 cJ0_length_8abf5 1 (some .int) :: TB) 2 a v f [.ref a] (fun r => r = 141) := by
  refine js_M.of (cc := cJ0_length_8abf5) (maxL := 1) (ret := some .int) (by decide) rfl (Nat.le_of_ble_eq_true rfl) ?_
  intro p e s m below meth c ls F hml hr hlocks hst hl
  have F : jsF p s m [.ref a] c cJ0_length_8abf5 RJ0 := ⟨F.1, F.2.1, fun w h => F.2.2.1 w (List.mem_cons_of_mem _ h), F.2.2.2.1, F.2.2.2.2⟩
  have hl : lv_has ls 1 [(0, .ref a)] := hl
  have hS : va_S (fun q => s.heap.size ≤ q) s.heap s.heap [] := va_S.rf
  refine lv_aload_n F.1 F.2.1 dJ0_length_8abf5_0 rfl (lv_at hl 0 rfl) ?_
  refine vk_getf F.1 F.2.1 hst.2.2.2.1 hS F.2.2.2.1 (F.2.2.1 _ qz2077) (fun _ h => h) dJ0_length_8abf5_1 ?_
  refine va_tlen F.1 F.2.1 hst.2.2.2.2.1 hS (v := (141 : Int32)) rfl dJ0_length_8abf5_4 ?_
  refine lv_aload_n F.1 F.2.1 dJ0_length_8abf5_5 rfl (lv_at hl 0 rfl) ?_
  refine js_callV F hml hl.1 hst (fun _ h => h) hS (As := []) (j_coder l a v f) ⟨callB_of 0 F.2.2.1 (tb_good qz48) rfl rfl rfl (F.2.2.1 _ qz3) (F.2.2.1 _ qz45) (by decide +kernel) (by decide), F.2.2.1 _ qz46, F.2.2.1 _ qz47⟩ rfl rfl (Nat.le_of_ble_eq_true rfl) dJ0_length_8abf5_6 ⟨Nat.le_refl 0, Nat.le_refl 0⟩ (fun r H locs hr0 _ hS => ?_)
  subst hr0
  refine lv_ishr F.1 F.2.1 dJ0_length_8abf5_9 ?_
  exact js_ret F hr rfl hlocks hS dJ0_length_8abf5_10 rfl
set_option maxHeartbeats 1000000 in
theorem j_pre (l : Launch) (a v : Nat) (f : Nat → Int32) (i : Int32) (x : Value) (hx : x = .null ∨ ∃ t, x = .ref t) (hi : 0 ≤ i.toInt ∧ i.toInt < 141) : js_M l yJ3_checkIndex_8e157 (.code yJ3_checkIndex_8e157 cJ3_checkIndex_8e157 3 (some .int) :: TB) 1 a v f [.int i, .int (141 : Int32), x] (fun r => r = i) := by
  have hcat : x.category = 1 := by rcases hx with h | ⟨t, h⟩ <;> rw [h] <;> rfl
  have hlen : (lg_sl [.int i, .int (141 : Int32), x]).length ≤ 3 := by rcases hx with h | ⟨t, h⟩ <;> rw [h] <;> exact Nat.le_of_ble_eq_true rfl
  refine js_M.of (cc := cJ3_checkIndex_8e157) (maxL := 3) (ret := some .int) (by decide) rfl hlen ?_
  intro p e s m below meth c ls F hml hr hlocks hst hl
  have F : jsF p s m [.int i, .int (141 : Int32), x] c cJ3_checkIndex_8e157 RJ3 := ⟨F.1, F.2.1, fun w h => F.2.2.1 w (List.mem_cons_of_mem _ h), F.2.2.2.1, F.2.2.2.2⟩
  have hl : lv_has ls 3 [(0, .int i), (1, .int (141 : Int32)), (2, x)] := hl
  have hS : va_S (fun q => s.heap.size ≤ q) s.heap s.heap [] := va_S.rf
  refine lv_iload_n F.1 F.2.1 dJ3_checkIndex_8e157_0 rfl (lv_at hl 0 rfl) ?_
  refine z_lt F 9 dJ3_checkIndex_8e157_1 (by decide) rfl (fun h => absurd h (by omega)) (fun _ => ?_)
  refine lv_iload_n F.1 F.2.1 dJ3_checkIndex_8e157_4 rfl (lv_at hl 0 rfl) ?_
  refine lv_iload_n F.1 F.2.1 dJ3_checkIndex_8e157_5 rfl (lv_at hl 1 rfl) ?_
  refine b_lt F 16 dJ3_checkIndex_8e157_6 (by decide) rfl (show (141 : Int32).toInt = 141 from rfl) (fun _ => ?_) (fun h => absurd h (by omega))
  refine lv_iload_n F.1 F.2.1 dJ3_checkIndex_8e157_16 rfl (lv_at hl 0 rfl) ?_
  exact js_ret F hr rfl hlocks hS dJ3_checkIndex_8e157_17 rfl
set_option maxHeartbeats 1000000 in
theorem j_check (l : Launch) (a v : Nat) (f : Nat → Int32) (i : Int32) (hi : 0 ≤ i.toInt ∧ i.toInt < 141) : js_V0 l yJ0_checkIndex_df160 (.code yJ0_checkIndex_df160 cJ0_checkIndex_df160 2 none :: TB) 2 a v f [.int i, .int (141 : Int32)] := by
  refine js_V0.of (cc := cJ0_checkIndex_df160) (maxL := 2) (ret := none) (by decide) rfl (Nat.le_of_ble_eq_true rfl) ?_
  intro p e s m below meth c ls F hml hr hlocks hst hl
  have F : jsF p s m [.int i, .int (141 : Int32)] c cJ0_checkIndex_df160 RJ0 := ⟨F.1, F.2.1, fun w h => F.2.2.1 w (List.mem_cons_of_mem _ h), F.2.2.2.1, F.2.2.2.2⟩
  have hl : lv_has ls 2 [(0, .int i), (1, .int (141 : Int32))] := hl
  have hS : va_S (fun q => s.heap.size ≤ q) s.heap s.heap [] := va_S.rf
  have key : ∀ x : Value, (x = .null ∨ ∃ t, x = .ref t) → W p l e (ct_rm 2 0 0) s m [.int i, .int (141 : Int32)].toArray below meth c s.heap [] 0 0 (MQ below (va_Qv (fun (_ : Unit) => True) (fun _ _ => True) (fun q => s.heap.size ≤ q)) [.int i, .int (141 : Int32)].toArray s 0 0 (fun q => s.heap.size ≤ q)) (F0 m 5 ls [x, .int (141 : Int32), .int i]) := by
    intro x hx
    refine js_callS F hml hl.1 hst (fun _ h => h) hS (As := [.int i, .int (141 : Int32), x]) (j_pre l a v f i x hx hi) ⟨callB_of 3 F.2.2.1 (tb_good qz69) rfl rfl rfl (F.2.2.1 _ qz5) (F.2.2.1 _ qz67) (by decide +kernel) (by decide), F.2.2.1 _ qz68⟩ rfl rfl (Nat.le_of_ble_eq_true rfl) dJ0_checkIndex_df160_5 ⟨Nat.le_refl 0, Nat.le_refl 0⟩ (fun r H locs hr0 _ hS => ?_)
    refine lv_pop F.1 F.2.1 dJ0_checkIndex_df160_8 rfl ?_
    exact js_retv F hr hlocks hS dJ0_checkIndex_df160_9
  refine lv_iload_n F.1 F.2.1 dJ0_checkIndex_df160_0 rfl (lv_at hl 0 rfl) ?_
  refine lv_iload_n F.1 F.2.1 dJ0_checkIndex_df160_1 rfl (lv_at hl 1 rfl) ?_
  rcases hst.2.2.2.2.2.2 with hz | ⟨t, hz⟩
  · exact va_gets F.1 F.2.1 hz hS F.2.2.2.1 (F.2.2.1 _ qz65) (fun _ h => h) dJ0_checkIndex_df160_2 (key .null (Or.inl rfl))
  · exact va_gets F.1 F.2.1 hz hS F.2.2.2.1 (F.2.2.1 _ qz65) (fun _ h => h) dJ0_checkIndex_df160_2 (key (.ref t) (Or.inr ⟨t, rfl⟩))
/-- a byte of a String as a char -/
def jch (x : Int32) : Int32 := ((x &&& 255).toUInt32 % 65536).toInt32
set_option maxHeartbeats 1000000 in
theorem j_latin (l : Launch) (a v : Nat) (f : Nat → Int32) (i : Int32) (hi : 0 ≤ i.toInt ∧ i.toInt < 141) : js_M l yJ1_charAt_3b067 (.code yJ1_charAt_3b067 cJ1_charAt_3b067 2 (some .char) :: TB) 3 a v f [.ref v, .int i] (fun r => narrow .char (.int r) = .int r ∧ r = jch (f i.toNatClampNeg)) := by
  refine js_M.of (cc := cJ1_charAt_3b067) (maxL := 2) (ret := some .char) (by decide) rfl (Nat.le_of_ble_eq_true rfl) ?_
  intro p e s m below meth c ls F hml hr hlocks hst hl
  have F : jsF p s m [.ref v, .int i] c cJ1_charAt_3b067 RJ1 := ⟨F.1, F.2.1, fun w h => F.2.2.1 w (List.mem_cons_of_mem _ h), F.2.2.2.1, F.2.2.2.2⟩
  have hl : lv_has ls 2 [(0, .ref v), (1, .int i)] := hl
  have hS : va_S (fun q => s.heap.size ≤ q) s.heap s.heap [] := va_S.rf
  refine lv_iload_n F.1 F.2.1 dJ1_charAt_3b067_0 rfl (lv_at hl 1 rfl) ?_
  refine lv_aload_n F.1 F.2.1 dJ1_charAt_3b067_1 rfl (lv_at hl 0 rfl) ?_
  refine va_tlen F.1 F.2.1 hst.2.2.2.2.1 hS (v := (141 : Int32)) rfl dJ1_charAt_3b067_2 ?_
  refine js_callSv F hml hl.1 hst (fun _ h => h) hS (As := [.int i, .int (141 : Int32)]) (j_check l a v f i hi) ⟨callB_of 2 F.2.2.1 (tb_good qz64) rfl rfl rfl (F.2.2.1 _ qz3) (F.2.2.1 _ qz62) (by decide +kernel) (by decide), F.2.2.1 _ qz63⟩ rfl rfl (Nat.le_of_ble_eq_true rfl) dJ1_charAt_3b067_3 ⟨Nat.le_refl 0, Nat.le_refl 0⟩ (fun H locs _ hS => ?_)
  refine lv_aload_n F.1 F.2.1 dJ1_charAt_3b067_6 rfl (lv_at hl 0 rfl) ?_
  refine lv_iload_n F.1 F.2.1 dJ1_charAt_3b067_7 rfl (lv_at hl 1 rfl) ?_
  refine va_tb F.1 F.2.1 hst.2.2.2.2.1 hS (i_in rfl (by omega)) (v := .int (f i.toNatClampNeg)) rfl dJ1_charAt_3b067_8 ?_
  refine a_sp F (255 : Int32) dJ1_charAt_3b067_9 (by decide) ?_
  refine lv_iand F.1 F.2.1 dJ1_charAt_3b067_12 ?_
  refine lv_i2c F.1 F.2.1 dJ1_charAt_3b067_13 rfl ?_
  exact js_ret F hr (pk_nc _) hlocks hS dJ1_charAt_3b067_14 ⟨pk_nc _, rfl⟩
set_option maxHeartbeats 1000000 in
theorem j_charAt (l : Launch) (a v : Nat) (f : Nat → Int32) (i : Int32) (hi : 0 ≤ i.toInt ∧ i.toInt < 141) : js_M l yJ0_charAt_5068e (.code yJ0_charAt_5068e cJ0_charAt_5068e 2 (some .char) :: TB) 4 a v f [.ref a, .int i] (fun r => r = jch (f i.toNatClampNeg)) := by
  refine js_M.of (cc := cJ0_charAt_5068e) (maxL := 2) (ret := some .char) (by decide) rfl (Nat.le_of_ble_eq_true rfl) ?_
  intro p e s m below meth c ls F hml hr hlocks hst hl
  have F : jsF p s m [.ref a, .int i] c cJ0_charAt_5068e RJ0 := ⟨F.1, F.2.1, fun w h => F.2.2.1 w (List.mem_cons_of_mem _ h), F.2.2.2.1, F.2.2.2.2⟩
  have hl : lv_has ls 2 [(0, .ref a), (1, .int i)] := hl
  have hS : va_S (fun q => s.heap.size ≤ q) s.heap s.heap [] := va_S.rf
  refine lv_aload_n F.1 F.2.1 dJ0_charAt_5068e_0 rfl (lv_at hl 0 rfl) ?_
  refine js_callV F hml hl.1 hst (fun _ h => h) hS (As := []) (j_isLatin1 l a v f) ⟨callB_of 0 F.2.2.1 (tb_good qz58) rfl rfl rfl (F.2.2.1 _ qz3) (F.2.2.1 _ qz55) (by decide +kernel) (by decide), F.2.2.1 _ qz56, F.2.2.1 _ qz57⟩ rfl rfl (Nat.le_of_ble_eq_true rfl) dJ0_charAt_5068e_1 ⟨Nat.le_refl 0, Nat.le_refl 0⟩ (fun r H locs hr0 _ hS => ?_)
  subst hr0
  refine z_eq F 16 dJ0_charAt_5068e_4 (by decide) ic_1 (fun h => absurd h (by decide)) (fun _ => ?_)
  refine lv_aload_n F.1 F.2.1 dJ0_charAt_5068e_7 rfl (lv_at hl 0 rfl) ?_
  refine vk_getf F.1 F.2.1 hst.2.2.2.1 hS F.2.2.2.1 (F.2.2.1 _ qz2077) (fun _ h => h) dJ0_charAt_5068e_8 ?_
  refine lv_iload_n F.1 F.2.1 dJ0_charAt_5068e_11 rfl (lv_at hl 1 rfl) ?_
  refine js_callS F hml hl.1 hst (fun _ h => h) hS (As := [.ref v, .int i]) (j_latin l a v f i hi) ⟨callB_of 2 F.2.2.1 (tb_good qz61) rfl rfl rfl (F.2.2.1 _ qz4) (F.2.2.1 _ qz59) (by decide +kernel) (by decide), F.2.2.1 _ qz60⟩ rfl rfl (Nat.le_of_ble_eq_true rfl) dJ0_charAt_5068e_12 ⟨Nat.le_refl 0, Nat.le_refl 0⟩ (fun r H locs hr0 _ hS => ?_)
  exact js_ret F hr hr0.1 hlocks hS dJ0_charAt_5068e_15 hr0.2

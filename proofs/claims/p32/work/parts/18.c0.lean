/-! Constructors: a new object, its rows; the world behind it. -/
def ct_rm (d mc ms : Nat) : Room := { frames := d, cells := mc, slots := ms, locals := 100 * d }
def aI (cA : Nat → ClassId) (n : Nat) : va_E := .inl (cA 0, n, .inl (fun _ => 0))
def aB (cA : Nat → ClassId) (n : Nat) : va_E := .inl (cA 1, n, .inl (fun _ => 0))
def aZ (cA : Nat → ClassId) (n : Nat) : va_E := .inl (cA 3, n, .inl (fun _ => 0))
def aL (cA : Nat → ClassId) (n : Nat) : va_E := .inl (cA 2, n, .inr (.inl (fun _ => 0)))
def ct_Pc (D : va_G) (cA : Nat → ClassId) (K : (Nat → Prop) → State → Prop) (av : List Value) (w0 : va_W) (sz : Nat) : Array Value → State → Prop := va_Pc av (fun U => U.heap.size = sz ∧ K (va_A w0 sz) U ∧ va_P D vwCl w0 U.heap ∧ va_K D vwCl (ac_ty cA) U ∧ va_D (fun _ => True) w0)
def ct_B {S : Type} (D : va_G) (cA : Nat → ClassId) (A : Nat → Prop) (w1 : S → va_W) (q : S) (t : State) : Prop := va_P D vwCl (w1 q) t.heap ∧ va_K D vwCl (ac_ty cA) t ∧ va_D A (w1 q)
def ct_M {S : Type} (l : Launch) (y : MethodName) (ws : List Cond) (d mc ms : Nat) (D : va_G) (cA : Nat → ClassId) (K : (Nat → Prop) → State → Prop) (av : List Value) (w0 : va_W) (w1 : S → va_W) : Prop :=
  ∀ sz : Nat, Met l y ws (ct_rm d mc ms) (ct_Pc D cA K av w0 sz) (va_Qv (fun _ => True) (ct_B D cA (va_A w0 sz) w1) (va_A w0 sz)) mc ms (va_A w0 sz)
def ct_KB (K : (Nat → Prop) → State → Prop) : Prop := ∀ (A : Nat → Prop) (U V : State), V.vm = U.vm → V.heap = U.heap → K A U → K A V
theorem ct_blind {D : va_G} {cA : Nat → ClassId} {K : (Nat → Prop) → State → Prop} {av : List Value} {w0 : va_W} {sz : Nat} (hK : ct_KB K) : FrameBlind (ct_Pc D cA K av w0 sz) := by
  intro a U g mk q
  obtain ⟨q0, q1, q2, qP, qK, qD⟩ := q
  exact ⟨q0, q1, hK _ U _ rfl rfl q2, qP, va_K.moved (u := U) (U := U.calling g mk a) (Vm.Alike.refl U.vm) qK, qD⟩
section CT0
variable {p : Program} {l : Launch} {e : Env} {R : Room} {s : State} {m : MethodId} {args : Array Value} {below : List Frame} {meth : Method} {c : Code} {H : Heap} {locs : List Loc} {cells slots : Nat} {Q : State → Prop}
variable {cc : ByteArray} {pc : Nat} {ls : Array Slot} {rest st0 As : List Value} {D : va_G} {A : Nat → Prop} {cA : Nat → ClassId} {ws wr : va_W} {x : Nat × va_E}
variable {own : String} {index nL maxL n d mc ms : Nat} {K : (Nat → Prop) → State → Prop} {Ts ws1 ws' : List Cond} {y : MethodName} {bytes : ByteArray} {av : List Value} {w0 : va_W}
theorem ct_M.of {S : Type} {w1 : S → va_W} (hy : plainName y.cls = true) (hw : ws1 = Cond.code y cc maxL none :: ws') (hn : (lg_sl av).length ≤ maxL)
    (body : ∀ (p : Program) (e : Env) (s : State) (m : MethodId) (below : List Frame) (meth : Method) (c : Code) (A : Nat → Prop) (ls : Array Slot), ac_X p s m av.toArray c cc y.cls ws1 D vwCl (ac_ty cA) → c.maxLocals = maxL → meth.sig.returnType = none → meth.locks = false → meth.name = y.name → K A s → (∀ q : Nat, s.heap.size ≤ q → A q) → va_P D vwCl w0 s.heap → va_D A w0 → va_S A s.heap s.heap [] → lv_has ls maxL (lv_args 0 av) →
      W p l e (ct_rm d mc ms) s m av.toArray below meth c s.heap [] 0 0 (MQ below (va_Qv (fun _ => True) (ct_B D cA A w1) A) av.toArray s mc ms A) (F0 m 0 ls [])) : ct_M l y ws1 d mc ms D cA K av w0 w1 := by
  intro sz
  refine Met.ofW (cc := cc) (maxL := maxL) (ret := none) hy hw ?_
  intro p e s m args below meth c s₁ B hml hv
  obtain ⟨rfl, hsz, hk, hP, hK, hD0⟩ := hv
  subst hsz
  have hl := lv_entry av (n := maxL) hn
  rw [lg_entry_eq]
  exact body p e s m below meth c _ _ ⟨B.exec, B.bytes, atoms_spec (ws := ws1) B.pre, findClass_of_methodNamed B.named, hK⟩ hml B.returns B.notSynchronized (name_of_methodNamed B.named B.method).1 hk (fun q h => Or.inr h) hP hD0.self va_S.rf hl
theorem ct_ret {S : Type} {w1 : S → va_W} (q : S) (F : ac_X p s m args c cc own Ts D vwCl (ac_ty cA)) (hr : meth.sig.returnType = none) (hlocks : meth.locks = false) (hP : va_P D vwCl ws H) (hD : va_D A ws) (hS : va_S A s.heap H locs) (hw : ws = w1 q) (hc : cells ≤ mc) (hs : slots ≤ ms) (hdg : decode cc pc = .ok (.return_, 1)) :
    W p l e R s m args below meth c H locs cells slots (MQ below (va_Qv (fun _ => True) (ct_B D cA A w1) A) args s mc ms A) (F0 m pc ls []) := by
  subst hw
  refine W.widen (k := mc) (n := ms) hc hs ?_
  exact W.vret F.1 F.2.1 hr (fun t ht hW => ⟨⟨q, rfl, trivial, by rw [ht]; exact hP, va_K.moved hW.alike F.2.2.2.2, hD⟩, hS.F ht⟩) hS.2.2 hdg hlocks
theorem ct_obj (F : ac_X p s m args c cc own TB D vwCl (ac_ty cA)) (hml : c.maxLocals = nL) (hsz : ls.size = nL) (hlink : Cond.methodLink own index objectInit ∈ TB) (hi : Cond.instanceMethod objectInit ∈ TB) (hco : Cond.code objectInit ⟨#[0xb1]⟩ 1 none ∈ TB) {a : Nat} (hdg : decode cc pc = .ok (.invokespecial index, 3)) (hfr : 1 ≤ R.frames) (hlo : (rest.map fun v => v.category).sum + 12 ≤ R.locals)
    (kk : W p l e R s m args below meth c H locs cells slots Q (F0 m (pc + 3) ls rest)) : W p l e R s m args below meth c H locs cells slots Q (F0 m pc ls (.ref a :: rest)) := by
  refine W.objInit F.1 F.2.1 F.2.2.2.1 (F.2.2.1 _ hlink) (F.2.2.1 _ hi) (F.2.2.1 _ hco) rfl (by rw [hml]; exact hsz) rfl hdg hfr (by show 2 * 0 + _ + 12 ≤ _; omega) ?_
  exact W.eq (g2 := F0 m (pc + 3) ls rest) rfl kk
theorem ct_ca {cA9 : ClassId} {k : Nat} {ty : FieldType} (F : ac_X p s m args c cc own TB D vwCl (ac_ty cA)) (hK1 : va_K D vwCl (ac_ty cA ++ [(cA9, ty)]) s) (hk : (ac_ty cA)[k]? = some (cA k, ty)) (hn : ∀ (U : State) (x y : ClassId), va_RA U x ty → va_RA U y ty → x = y) : cA9 = cA k := by
  have h1 := (hK1.2 5 (cA9, ty) rfl).2
  have h2 := (F.2.2.2.2.2 k (cA k, ty) hk).2
  exact hn s _ _ h1 h2
theorem ct_newI (F : ac_X p s m args c cc own TB D vwCl (ac_ty cA)) (hA : ∀ q : Nat, s.heap.size ≤ q → A q) (hP : va_P D vwCl ws H) (hD : va_D A ws) (hS : va_S A s.heap H locs) (N : Nat) {i : Int32} (hn : ¬ i < 0) (hN : i.toNatClampNeg = N) (hb : N * 4 ≤ 536870912) (hcells : cells + 1 ≤ R.cells) (hslots : slots + N ≤ R.slots) (hdg : decode cc pc = .ok (.newarray .int, 2))
    (kk : ∀ (q : Nat) (H1 : Heap), va_P D vwCl (ws ++ [(q, aI cA N)]) H1 → va_D A (ws ++ [(q, aI cA N)]) → va_S A s.heap H1 locs → W p l e R s m args below meth c H1 locs (cells + 1) (slots + N) Q (F0 m (pc + 2) ls (.ref q :: rest))) : W p l e R s m args below meth c H locs cells slots Q (F0 m pc ls (.int i :: rest)) := by
  refine va_newa F.1 F.2.1 (atype := .int) (F.2.2.1 _ qa_int) (ty := .int) rfl F.2.2.2.2 hP hD hS hA (n := i) (N' := N) (a0 := (N, .inl (fun _ => (0 : Int32)))) (fun _ => rfl) hn hN hb hcells hslots hdg (fun q cA9 H1 hK1 hP1 hD1 hS1 => ?_)
  have e9 : cA9 = cA 0 := ct_ca F hK1 rfl (fun U x y h1 h2 => Option.some.inj (h1.symm.trans h2))
  subst e9
  exact kk q H1 hP1 hD1 hS1
theorem ct_newB (F : ac_X p s m args c cc own TB D vwCl (ac_ty cA)) (hA : ∀ q : Nat, s.heap.size ≤ q → A q) (hP : va_P D vwCl ws H) (hD : va_D A ws) (hS : va_S A s.heap H locs) (N : Nat) {i : Int32} (hn : ¬ i < 0) (hN : i.toNatClampNeg = N) (hb : N * 1 ≤ 536870912) (hcells : cells + 1 ≤ R.cells) (hslots : slots + N ≤ R.slots) (hdg : decode cc pc = .ok (.newarray .byte, 2))
    (kk : ∀ (q : Nat) (H1 : Heap), va_P D vwCl (ws ++ [(q, aB cA N)]) H1 → va_D A (ws ++ [(q, aB cA N)]) → va_S A s.heap H1 locs → W p l e R s m args below meth c H1 locs (cells + 1) (slots + N) Q (F0 m (pc + 2) ls (.ref q :: rest))) : W p l e R s m args below meth c H locs cells slots Q (F0 m pc ls (.int i :: rest)) := by
  refine va_newa F.1 F.2.1 (atype := .byte) (F.2.2.1 _ qa_byte) (ty := .byte) rfl F.2.2.2.2 hP hD hS hA (n := i) (N' := N) (a0 := (N, .inl (fun _ => (0 : Int32)))) (fun _ => rfl) hn hN hb hcells hslots hdg (fun q cA9 H1 hK1 hP1 hD1 hS1 => ?_)
  have e9 : cA9 = cA 1 := ct_ca F hK1 rfl (fun U x y h1 h2 => Option.some.inj (h1.symm.trans h2))
  subst e9
  exact kk q H1 hP1 hD1 hS1
theorem ct_newZ (F : ac_X p s m args c cc own TB D vwCl (ac_ty cA)) (hA : ∀ q : Nat, s.heap.size ≤ q → A q) (hP : va_P D vwCl ws H) (hD : va_D A ws) (hS : va_S A s.heap H locs) (N : Nat) {i : Int32} (hn : ¬ i < 0) (hN : i.toNatClampNeg = N) (hb : N * 1 ≤ 536870912) (hcells : cells + 1 ≤ R.cells) (hslots : slots + N ≤ R.slots) (hdg : decode cc pc = .ok (.newarray .boolean, 2))
    (kk : ∀ (q : Nat) (H1 : Heap), va_P D vwCl (ws ++ [(q, aZ cA N)]) H1 → va_D A (ws ++ [(q, aZ cA N)]) → va_S A s.heap H1 locs → W p l e R s m args below meth c H1 locs (cells + 1) (slots + N) Q (F0 m (pc + 2) ls (.ref q :: rest))) : W p l e R s m args below meth c H locs cells slots Q (F0 m pc ls (.int i :: rest)) := by
  refine va_newa F.1 F.2.1 (atype := .boolean) (F.2.2.1 _ qa_boolean) (ty := .boolean) rfl F.2.2.2.2 hP hD hS hA (n := i) (N' := N) (a0 := (N, .inl (fun _ => (0 : Int32)))) (fun _ => rfl) hn hN hb hcells hslots hdg (fun q cA9 H1 hK1 hP1 hD1 hS1 => ?_)
  have e9 : cA9 = cA 3 := ct_ca F hK1 rfl (fun U x y h1 h2 => Option.some.inj (h1.symm.trans h2))
  subst e9
  exact kk q H1 hP1 hD1 hS1
theorem ct_newL (F : ac_X p s m args c cc own TB D vwCl (ac_ty cA)) (hA : ∀ q : Nat, s.heap.size ≤ q → A q) (hP : va_P D vwCl ws H) (hD : va_D A ws) (hS : va_S A s.heap H locs) (N : Nat) {i : Int32} (hn : ¬ i < 0) (hN : i.toNatClampNeg = N) (hb : N * 8 ≤ 536870912) (hcells : cells + 1 ≤ R.cells) (hslots : slots + N ≤ R.slots) (hdg : decode cc pc = .ok (.newarray .long, 2))
    (kk : ∀ (q : Nat) (H1 : Heap), va_P D vwCl (ws ++ [(q, aL cA N)]) H1 → va_D A (ws ++ [(q, aL cA N)]) → va_S A s.heap H1 locs → W p l e R s m args below meth c H1 locs (cells + 1) (slots + N) Q (F0 m (pc + 2) ls (.ref q :: rest))) : W p l e R s m args below meth c H locs cells slots Q (F0 m pc ls (.int i :: rest)) := by
  refine va_newa F.1 F.2.1 (atype := .long) (F.2.2.1 _ qa_long) (ty := .long) rfl F.2.2.2.2 hP hD hS hA (n := i) (N' := N) (a0 := (N, .inr (.inl (fun _ => (0 : Int64))))) (fun _ => rfl) hn hN hb hcells hslots hdg (fun q cA9 H1 hK1 hP1 hD1 hS1 => ?_)
  have e9 : cA9 = cA 2 := ct_ca F hK1 rfl (fun U x y h1 h2 => Option.some.inj (h1.symm.trans h2))
  subst e9
  exact kk q H1 hP1 hD1 hS1
/-- a constructor's call on the object that was made last -/
theorem ct_call {S : Type} {w1 : S → va_W} (F : ac_X p s m args c cc own TB D vwCl (ac_ty cA)) (hml : c.maxLocals = nL) (hsz : ls.size = nL) (hA : ∀ q : Nat, s.heap.size ≤ q → A q) (hP : va_P D vwCl (wr ++ [x]) H) (hD : va_D A (wr ++ [x])) (hS : va_S A s.heap H locs)
    (hKB : ct_KB K) (hKK : ∀ (A1 : Nat → Prop), (∀ q, A1 q → A q) → ∀ U : State, U.heap = H → s.WarmedH U.vm → K A1 U) (hM : ct_M l y ws1 d mc ms D cA K (.ref x.1 :: As) [x] w1) {host : String} (cw : (CallB R s args own index y bytes maxL none ws1 (ct_rm d mc ms) mc ms n ∨ va_CN R s args own index y host bytes maxL none ws1 (ct_rm d mc ms) mc ms n) ∧ y.name = "<init>" ∧ (Cond.instanceMethod y).before args s = true) (hn : As.length = n) (hst : st0 = As.reverse ++ .ref x.1 :: rest) (hW : (rest.map fun v => v.category).sum ≤ 8) (hdg : decode cc pc = .ok (.invokespecial index, 3)) (hf : cells + mc ≤ R.cells ∧ slots + ms ≤ R.slots)
    (kk : ∀ (σ : S) (H1 : Heap) (locs1 : List Loc), va_P D vwCl (wr ++ w1 σ) H1 → va_D A (wr ++ w1 σ) → va_S A s.heap H1 locs1 → W p l e R s m args below meth c H1 locs1 (cells + mc) (slots + ms) Q (F0 m (pc + 3) ls rest)) : W p l e R s m args below meth c H locs cells slots Q (F0 m pc ls st0) := by
  subst hst
  have hx0 : (wr ++ [x])[wr.length]? = some x := by simp
  have hPx : va_P D vwCl [x] H := fun k q hk => by
    have hk0 : k = 0 := by
      have := (List.getElem?_eq_some_iff.mp hk).1
      simp at this
      exact this
    subst hk0
    cases hk
    exact hP _ _ hx0
  have hDx : va_D (fun _ => True) [x] := ⟨fun i j p q hi hj _ => by
    have h1 := (List.getElem?_eq_some_iff.mp hi).1
    have h2 := (List.getElem?_eq_some_iff.mp hj).1
    simp at h1 h2
    omega, fun _ _ _ => trivial⟩
  have hin : ∀ q, va_A [x] H.size q → A q := by
    intro q h
    rcases h with ⟨k, e, h⟩ | h
    · have hk0 : k = 0 := by
        have := (List.getElem?_eq_some_iff.mp h).1
        simp at this
        exact this
      subst hk0
      cases h
      exact hD.2 _ _ hx0
    · exact hA q (Nat.le_trans hS.1 h)
  have apart : ∀ (k : Nat) (q : Nat × va_E), wr[k]? = some q → q.1 < H.size ∧ ¬ va_A [x] H.size q.1 := by
    intro k q hq
    have hl := (List.getElem?_eq_some_iff.mp hq).1
    have hq1 : (wr ++ [x])[k]? = some q := by rw [List.getElem?_append_left hl]; exact hq
    have hlt := (hP k q hq1).lt
    refine ⟨hlt, fun h => ?_⟩
    rcases h with ⟨k2, e, h⟩ | h
    · have hk0 : k2 = 0 := by
        have := (List.getElem?_eq_some_iff.mp h).1
        simp at this
        exact this
      subst hk0
      have hxe : x = (q.1, e) := Option.some.inj h
      have hij := hD.1 k wr.length q x hq1 hx0 (by rw [hxe])
      omega
    · omega
  have hPS : PreS s H (ct_Pc D cA K (.ref x.1 :: As) [x] H.size) (.ref x.1 :: As) := ⟨ct_blind hKB, fun U hU hW => ⟨rfl, by rw [hU], hKK _ hin U hU hW, by rw [hU]; exact hPx, va_K.moved hW.alike F.2.2.2.2, hDx⟩⟩
  have hrun : va_Run p l e R s m args below meth c H locs cells slots mc ms (F0 m pc ls (As.reverse ++ .ref x.1 :: rest)) rest ((va_Qv (fun _ => True) (ct_B D cA (va_A [x] H.size) w1) (va_A [x] H.size)) (Value.ref x.1 :: As).toArray) (va_A [x] H.size) := by
    obtain ⟨cw1, cw2⟩ := cw
    rcases cw1 with cw1 | cw1
    · exact va_runI (As := As) (rest := rest) (n := n) ⟨F.1, F.2.1, hml, F.2.2.2.1, F.2.2.1⟩ (hM H.size) ⟨cw1, cw2⟩ hPS rfl hn hsz rfl (lv_room hW) hdg hf
    · exact va_runIN (As := As) (rest := rest) (n := n) ⟨F.1, F.2.1, hml, F.2.2.2.1, F.2.2.1⟩ (hM H.size) ⟨cw1, cw2⟩ hPS rfl hn hsz rfl (lv_room hW) hdg hf
  refine va_callv hrun hS (fun q _ h => hin q h) hin (fun σ t H1 locs1 ht _ _ hB _ hk hS => ?_)
  obtain ⟨hP1, -, hD1⟩ := hB
  rw [ht] at hP1
  refine kk σ H1 locs1 (va_P.app (fun k q hq => ?_) hP1) (va_D.app ⟨fun i j p q hi hj hpq => ?_, fun k q hq => ?_⟩ (hD1.weaken (fun k q _ h => hin q.1 h)) (fun i j p q hi hj hpq => ?_)) hS
  · have hl := (List.getElem?_eq_some_iff.mp hq).1
    obtain ⟨g1, g2⟩ := apart k q hq
    exact (hP k q (by rw [List.getElem?_append_left hl]; exact hq)).kept (hk q.1 g1 g2)
  · have h1 := (List.getElem?_eq_some_iff.mp hi).1
    have h2 := (List.getElem?_eq_some_iff.mp hj).1
    exact hD.1 i j p q (by rw [List.getElem?_append_left h1]; exact hi) (by rw [List.getElem?_append_left h2]; exact hj) hpq
  · have hl := (List.getElem?_eq_some_iff.mp hq).1
    exact hD.2 k q (by rw [List.getElem?_append_left hl]; exact hq)
  · exact (apart i p hi).2 (by rw [hpq]; exact hD1.2 j q hj)
end CT0

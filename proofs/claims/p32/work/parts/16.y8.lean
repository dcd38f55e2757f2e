/-! Worlds that grow: the table of the plans is made once. -/
theorem qa_byte : Cond.arrayClass .byte ∈ TB := tb_of (List.mem_append_right _ (List.mem_append_left _ (List.mem_of_getElem? (i := 143) rfl))) (by decide +kernel)
theorem qa_int : Cond.arrayClass .int ∈ TB := tb_of (List.mem_append_right _ (List.mem_append_left _ (List.mem_of_getElem? (i := 237) rfl))) (by decide +kernel)
theorem qa_long : Cond.arrayClass .long ∈ TB := tb_of (List.mem_append_right _ (List.mem_append_left _ (List.mem_of_getElem? (i := 144) rfl))) (by decide +kernel)
theorem qa_boolean : Cond.arrayClass .boolean ∈ TB := tb_of (List.mem_append_right _ (List.mem_append_right _ (List.mem_append_right _ (List.mem_append_right _ (List.mem_append_right _ (List.mem_append_right _ (List.mem_append_right _ (List.mem_append_left _ (List.mem_of_getElem? (i := 176) rfl))))))))) (by decide +kernel)
theorem cg_RX7_63 {R : Room} {d : Nat} {s : State} {args : Array Value} (hts : ∀ w ∈ TB, w.before args s = true) (hR : (ac_rmG d).frames + 1 ≤ R.frames ∧ 8 + (4 + 11) + (ac_rmG d).locals ≤ R.locals) : CallW R s args RX7 RX7 63 yX7_fewestGoings cX7_fewestGoings 4 (some .int) (.code yX7_fewestGoings cX7_fewestGoings 4 (some .int) :: TB) (ac_rmG d) 1 51200 1 := ⟨callB_of 1 hts (tb_good q1016) rfl rfl rfl (hts _ q11) (hts _ q1013) (by decide +kernel) hR, hts _ q1015, hts _ qs21⟩
theorem cg_RX11_254 {R : Room} {d : Nat} {s : State} {args : Array Value} (hts : ∀ w ∈ TB, w.before args s = true) (hR : (ac_rmG d).frames + 1 ≤ R.frames ∧ 8 + (3 + 11) + (ac_rmG d).locals ≤ R.locals) : CallW R s args RX11 RX7 254 yX7_planFor cX7_planFor 3 (some .int) (.code yX7_planFor cX7_planFor 3 (some .int) :: TB) (ac_rmG d) 1 51200 1 := ⟨callB_of 1 hts (tb_good q1005) rfl rfl rfl (hts _ q11) (hts _ q1002) (by decide +kernel) hR, hts _ q1003, hts _ q1004⟩
theorem cg_RX11_260 {R : Room} {d : Nat} {s : State} {args : Array Value} (hts : ∀ w ∈ TB, w.before args s = true) (hR : (ac_rmG d).frames + 1 ≤ R.frames ∧ 8 + (5 + 11) + (ac_rmG d).locals ≤ R.locals) : CallW R s args RX11 RX7 260 yX7_quarrelOf cX7_quarrelOf 5 (some .int) (.code yX7_quarrelOf cX7_quarrelOf 5 (some .int) :: TB) (ac_rmG d) 1 51200 1 := ⟨callB_of 1 hts (tb_good q1077) rfl rfl rfl (hts _ q11) (hts _ q1074) (by decide +kernel) hR, hts _ q1075, hts _ q1076⟩
def hz (H : Heap) : List Nat := H.toList.map (fun c => c.slots.size)
section GR0
variable {p : Program} {l : Launch} {e : Env} {R : Room} {s : State} {m : MethodId} {args : Array Value} {below : List Frame} {meth : Method} {c : Code} {H H1 : Heap} {locs : List Loc} {cells slots : Nat} {Q : State → Prop} {g : JFrame}
theorem W_know (kk : H.size ≤ s.heap.size + cells → ((hz H).drop s.heap.size).sum ≤ slots → (∀ (a : Nat) (c : Cell), s.heap[a]? = some c → ∃ c', H[a]? = some c' ∧ c'.slots.size = c.slots.size) → W p l e R s m args below meth c H locs cells slots Q g) : W p l e R s m args below meth c H locs cells slots Q g := by
  intro T hT X
  have h1 : T.heap.size ≤ s.heap.size + cells := X.heapSize
  have h2 : ((T.heap.toList.drop s.heap.size).map (·.slots.size)).sum ≤ slots := X.same.2.2.2.2.1
  have h3 := X.same.2.2.2.2.2
  rw [hT] at h1 h2
  refine kk h1 ?_ (fun a c h => ?_) T hT X
  · unfold hz
    rw [← List.map_drop]
    exact h2
  · obtain ⟨c', q1, q2, q3, q4⟩ := h3 a c h
    have q5 : T.heap[a]? = some c' := q1
    rw [hT] at q5
    exact ⟨c', q5, q3⟩
theorem W_tight {k n : Nat} (h1 : H.size ≤ s.heap.size + cells) (h2 : ((hz H).drop s.heap.size).sum ≤ slots) (kk : W p l e R s m args below meth c H locs cells slots Q g) : W p l e R s m args below meth c H locs k n Q g := by
  intro T hT X
  obtain ⟨q1, q2, q3, q4, q5, q6⟩ := X.same
  refine kk T hT { X with same := ⟨q1, q2, ?_, q4, ?_, q6⟩ }
  · show T.heap.size ≤ s.heap.size + cells
    rw [hT]
    exact h1
  · show ((T.heap.toList.drop s.heap.size).map (·.slots.size)).sum ≤ slots
    rw [hT, List.map_drop]
    exact h2
theorem hz_len : (hz H).length = H.size := by unfold hz; simp
theorem hz_same (h1 : H1.size ≤ H.size) (h : ∀ (a : Nat) (c : Cell), H[a]? = some c → ∃ c', H1[a]? = some c' ∧ c'.slots.size = c.slots.size) : hz H1 = hz H := by
  apply List.ext_getElem?
  intro a
  unfold hz
  rw [List.getElem?_map, List.getElem?_map, Array.getElem?_toList, Array.getElem?_toList]
  cases q : H[a]? with
  | some c =>
    obtain ⟨c', q1, q2⟩ := h a c q
    rw [q1]
    simp [q2]
  | none =>
    have q3 : H.size ≤ a := Array.getElem?_eq_none_iff.mp q
    rw [Array.getElem?_eq_none_iff.mpr (by omega)]
end GR0
abbrev ag_S : Type := Nat × (Nat → Nat) × ac_U
def ag_Pc (D : va_G) (cl : List vw_C) (tys : List (ClassId × FieldType)) (ad : Nat → Nat) (cA : Nat → ClassId) (av : List Value) (u : ac_U) (zs : List Nat) : Array Value → State → Prop := va_Pc av (fun U => hz U.heap = zs ∧ va_P D cl (ac_w ad cA (TT 0) u) U.heap ∧ va_K D cl tys U ∧ va_D (fun _ => True) (ac_w ad cA (TT 0) u))
def ag_B (D : va_G) (cl : List vw_C) (tys : List (ClassId × FieldType)) (ad : Nat → Nat) (cA : Nat → ClassId) (A : Nat → Prop) (zs : List Nat) (q : ag_S) (t : State) : Prop := va_P D cl (ac_w q.2.1 cA (TT q.1) q.2.2) t.heap ∧ va_K D cl tys t ∧ va_D A (ac_w q.2.1 cA (TT q.1) q.2.2) ∧ ((q.1 = 0 ∧ q.2.1 = ad ∧ hz t.heap = zs) ∨ (q.1 = 51200 ∧ ∀ c, c ≠ 37 → q.2.1 c = ad c))
def ag_M (l : Launch) (y : MethodName) (ws : List Cond) (d : Nat) (D : va_G) (cl : List vw_C) (tys : List (ClassId × FieldType)) (ad : Nat → Nat) (cA : Nat → ClassId) (av : List Value) (u : ac_U) (post : Int32 → Nat → ac_U → Prop) : Prop :=
  ∀ zs : List Nat, Met l y ws (ac_rmG d) (ag_Pc D cl tys ad cA av u zs) (va_Qi (fun r (q : ag_S) => post r q.1 q.2.2) (ag_B D cl tys ad cA (va_A (ac_w ad cA (TT 0) u) zs.length) zs) (va_A (ac_w ad cA (TT 0) u) zs.length)) 1 51200 (va_A (ac_w ad cA (TT 0) u) zs.length)
theorem ag_blind {D : va_G} {cl : List vw_C} {tys : List (ClassId × FieldType)} {ad : Nat → Nat} {cA : Nat → ClassId} {av : List Value} {u : ac_U} {zs : List Nat} : FrameBlind (ag_Pc D cl tys ad cA av u zs) := by
  intro a U g mk q
  obtain ⟨q0, q1, qP, qK, qD⟩ := q
  exact ⟨q0, q1, qP, va_K.moved (u := U) (U := U.calling g mk a) (Vm.Alike.refl U.vm) qK, qD⟩
section GR1
variable {p : Program} {l : Launch} {e : Env} {R : Room} {s : State} {m : MethodId} {args : Array Value} {below : List Frame} {meth : Method} {c : Code} {H : Heap} {locs : List Loc} {cells slots : Nat} {Q : State → Prop}
variable {cc : ByteArray} {pc : Nat} {ls : Array Slot} {rest st0 As : List Value} {D : va_G} {cl : List vw_C} {A : Nat → Prop} {tys : List (ClassId × FieldType)} {ad : Nat → Nat} {cA : Nat → ClassId} {u : ac_U}
variable {own C : String} {ci index nL maxL n d : Nat} {Ts ws ws' : List Cond} {y : MethodName} {bytes : ByteArray} {ret : Option FieldType} {av : List Value}
theorem ag_M.of {post : Int32 → Nat → ac_U → Prop} (hy : plainName y.cls = true) (hw : ws = Cond.code y cc maxL ret :: ws') (hn : (lg_sl av).length ≤ maxL)
    (body : ∀ (p : Program) (e : Env) (s : State) (m : MethodId) (below : List Frame) (meth : Method) (c : Code) (A : Nat → Prop) (ls : Array Slot), ac_X p s m av.toArray c cc y.cls ws D cl tys → c.maxLocals = maxL → meth.sig.returnType = ret → meth.locks = false → (∀ q : Nat, s.heap.size ≤ q → A q) → va_P D cl (ac_w ad cA (TT 0) u) s.heap → va_D A (ac_w ad cA (TT 0) u) → va_S A s.heap s.heap [] → lv_has ls maxL (lv_args 0 av) →
      W p l e (ac_rmG d) s m av.toArray below meth c s.heap [] 0 0 (MQ below (va_Qi (fun r (q : ag_S) => post r q.1 q.2.2) (ag_B D cl tys ad cA A (hz s.heap)) A) av.toArray s 1 51200 A) (F0 m 0 ls [])) : ag_M l y ws d D cl tys ad cA av u post := by
  intro zs
  refine Met.ofW (cc := cc) (maxL := maxL) (ret := ret) hy hw ?_
  intro p e s m args below meth c s₁ B hml hv
  obtain ⟨rfl, hsz, hP, hK, hD0⟩ := hv
  subst hsz
  have hl := lv_entry av (n := maxL) hn
  rw [lg_entry_eq]
  refine body p e s m below meth c _ _ ⟨B.exec, B.bytes, atoms_spec (ws := ws) B.pre, findClass_of_methodNamed B.named, hK⟩ hml B.returns B.notSynchronized (fun q h => Or.inr ?_) hP hD0.self va_S.rf hl
  rw [hz_len]
  exact h
/-- an end without a new cell -/
theorem g_ret0 {post : Int32 → Nat → ac_U → Prop} {v : Int32} (F : ac_X p s m args c cc own Ts D cl tys) (hr : meth.sig.returnType = some .int) (hlocks : meth.locks = false) (hP : va_P D cl (ac_w ad cA (TT 0) u) H) (hD : va_D A (ac_w ad cA (TT 0) u)) (hS : va_S A s.heap H locs) (hdg : decode cc pc = .ok (.ireturn, 1)) (hpost : post v 0 u) :
    W p l e R s m args below meth c H locs 0 0 (MQ below (va_Qi (fun r (q : ag_S) => post r q.1 q.2.2) (ag_B D cl tys ad cA A (hz s.heap)) A) args s 1 51200 A) (F0 m pc ls [.int v]) := by
  refine W_know (fun h1 _ h3 => ?_)
  refine W.widen (k := 1) (n := 51200) (Nat.zero_le _) (Nat.zero_le _) ?_
  have hz9 : hz H = hz s.heap := hz_same (by omega) h3
  exact W.iret F.1 F.2.1 hr (fun t ht hW => ⟨⟨v, (0, ad, u), rfl, hpost, by rw [ht]; exact hP, va_K.moved hW.alike F.2.2.2.2, hD, Or.inl ⟨rfl, rfl, by rw [ht]; exact hz9⟩⟩, hS.F ht⟩) hS.2.2 hdg hlocks
/-- an end behind the making -/
theorem g_ret1 {post : Int32 → Nat → ac_U → Prop} {v : Int32} {ad' : Nat → Nat} (F : ac_X p s m args c cc own Ts D cl tys) (hr : meth.sig.returnType = some .int) (hlocks : meth.locks = false) (had : ∀ c, c ≠ 37 → ad' c = ad c) (hP : va_P D cl (ac_w ad' cA (TT 51200) u) H) (hD : va_D A (ac_w ad' cA (TT 51200) u)) (hS : va_S A s.heap H locs) (hdg : decode cc pc = .ok (.ireturn, 1)) (hpost : post v 51200 u) :
    W p l e R s m args below meth c H locs 1 51200 (MQ below (va_Qi (fun r (q : ag_S) => post r q.1 q.2.2) (ag_B D cl tys ad cA A (hz s.heap)) A) args s 1 51200 A) (F0 m pc ls [.int v]) :=
  W.iret F.1 F.2.1 hr (fun t ht hW => ⟨⟨v, (51200, ad', u), rfl, hpost, by rw [ht]; exact hP, va_K.moved hW.alike F.2.2.2.2, hD, Or.inr ⟨rfl, had⟩⟩, hS.F ht⟩) hS.2.2 hdg hlocks
theorem ag_pre (F : ac_X p s m args c cc own Ts D cl tys) (hP : va_P D cl (ac_w ad cA (TT 0) u) H) (hD : va_D A (ac_w ad cA (TT 0) u)) : ∀ U : State, U.heap = H → s.WarmedH U.vm → ag_Pc D cl tys ad cA av u (hz H) av.toArray U :=
  fun U hU hW => ⟨rfl, by rw [hU], by rw [hU]; exact hP, va_K.moved hW.alike F.2.2.2.2, hD.weaken (fun _ _ _ _ => trivial)⟩
/-- a call of a method that may make the table -/
theorem g_Vi {post : Int32 → Nat → ac_U → Prop} {d' c0 : Nat} {fs : List ac_F} {q : vw_C} (F : ac_X p s m args c cc own Ts D cl tys) (hml : c.maxLocals = nL) (hsz : ls.size = nL) (hA : ∀ q : Nat, s.heap.size ≤ q → A q) (hP : va_P D cl (ac_w ad cA (TT 0) u) H) (hD : va_D A (ac_w ad cA (TT 0) u)) (hS : va_S A s.heap H locs)
    (hM : ag_M l y ws d' D cl tys ad cA (.ref (ad c0) :: As) u post) (cw : CallW R s args own C index y bytes maxL ret ws (ac_rmG d') 1 51200 n) (hT : (TT 0)[c0]? = some (.inl (ci, fs))) (hc : cl[ci]? = some q) (hq : q.1 = C) (hn : As.length = n) (hst : st0 = As.reverse ++ .ref (ad c0) :: rest) (hW : (rest.map fun v => v.category).sum ≤ 8) (hdg : decode cc pc = .ok (.invokevirtual index, 3)) (hf : cells + 1 ≤ R.cells ∧ slots + 51200 ≤ R.slots)
    (k0 : ∀ (r : Int32) (u' : ac_U) (H1 : Heap) (locs1 : List Loc), post r 0 u' → (∀ q : Nat, q < H.size → ¬ va_A (ac_w ad cA (TT 0) u) H.size q → H1[q]? = H[q]?) → va_P D cl (ac_w ad cA (TT 0) u') H1 → va_D A (ac_w ad cA (TT 0) u') → va_S A s.heap H1 locs1 → W p l e R s m args below meth c H1 locs1 cells slots Q (F0 m (pc + 3) ls (.int r :: rest)))
    (k1 : ∀ (r : Int32) (u' : ac_U) (ad' : Nat → Nat) (H1 : Heap) (locs1 : List Loc), post r 51200 u' → (∀ c, c ≠ 37 → ad' c = ad c) → (∀ q : Nat, q < H.size → ¬ va_A (ac_w ad cA (TT 0) u) H.size q → H1[q]? = H[q]?) → va_P D cl (ac_w ad' cA (TT 51200) u') H1 → va_D A (ac_w ad' cA (TT 51200) u') → (∀ (j : Nat) (e : Nat × va_E), (ac_w ad' cA (TT 51200) u')[j]? = some e → va_A (ac_w ad cA (TT 0) u) H.size e.1) → va_S A s.heap H1 locs1 → W p l e R s m args below meth c H1 locs1 (cells + 1) (slots + 51200) Q (F0 m (pc + 3) ls (.int r :: rest))) : W p l e R s m args below meth c H locs cells slots Q (F0 m pc ls st0) := by
  subst hst
  have hin := ac_in hD hS hA
  refine W_know (fun w1 w2 _ => ?_)
  have hl9 : (hz H).length = H.size := hz_len
  have hM9 := hM (hz H)
  rw [hl9] at hM9
  refine va_calli (va_runV (As := As) (rest := rest) (n := n) ⟨F.1, F.2.1, hml, F.2.2.2.1, F.2.2.1⟩ hM9 cw ⟨ag_blind, ?_, ag_pre F hP hD⟩ rfl hn hsz rfl (lv_room hW) hdg hf) hS (fun q _ h => hin q h) hin (fun r u' t H1 locs1 ht _ hw hB hx1 hx2 hS => ?_)
  · have := va_recv F.2.2.2.2 hP hc (ac_at hT)
    rw [hq] at this
    exact this
  · obtain ⟨n1, ad1, u1⟩ := u'
    obtain ⟨b1, b2, b3, b4⟩ := hB
    rcases b4 with ⟨e1, e2, e3⟩ | ⟨e1, e2⟩
    · simp only at e1 e2 b1 b3 hw
      subst e1
      subst e2
      rw [ht] at b1 e3
      refine W_tight (cells := cells) (slots := slots) ?_ (by rw [e3]; exact w2) (k0 r u1 H1 locs1 hw hx2 b1 (b3.weaken (fun _ _ _ h => hin _ h)) hS)
      have := congrArg List.length e3
      rw [hz_len, hz_len] at this
      omega
    · simp only at e1 e2 b1 b3 hw
      subst e1
      rw [ht] at b1
      exact k1 r u1 ad1 H1 locs1 hw e2 hx2 b1 (b3.weaken (fun _ _ _ h => hin _ h)) (fun j e h => b3.2 j e h) hS
end GR1
/-- a template that doesn't name the table -/
def okT (t : ac_T) : Bool := match t with
  | .inl o => o.2.all (fun f => !(f.1 == 2) || !(f.2 == 37))
  | .inr r => r.2.2 == 0 || r.2.2 == 1 || r.2.2 == 2 || r.2.2 == 3 || decide (41 < r.2.2)
theorem ac_e_up {ad ad' : Nat → Nat} (had : ∀ c, c ≠ 37 → ad' c = ad c) {cA : Nat → ClassId} {i : Nat → Int32} {j : Nat → Int64} {t : ac_T} (h : okT t = true) : ac_e ad' cA i j t = ac_e ad cA i j t := by
  cases t with
  | inl o =>
    obtain ⟨o1, o2⟩ := o
    have h1 : ∀ f ∈ o2, f.1 = 2 → f.2 ≠ 37 := by
      intro f hf e1 e2
      have h2 := List.all_eq_true.mp h f hf
      rw [e1, e2] at h2
      exact absurd h2 (by decide)
    show Sum.inr (o1, o2.mapIdx (ac_f ad' i j)) = Sum.inr (o1, o2.mapIdx (ac_f ad i j))
    congr 2
    apply List.ext_getElem?
    intro n
    simp only [List.getElem?_mapIdx]
    cases q : o2[n]? with
    | none => rfl
    | some f =>
      have h2 := h1 f (List.mem_of_getElem? q)
      obtain ⟨f1, f2⟩ := f
      simp only [Option.map_some]
      congr 1
      unfold ac_f
      match f1 with
      | 0 => rfl
      | 1 => rfl
      | 2 => simp only; rw [had f2 (h2 rfl)]
      | n + 3 => rfl
  | inr r =>
    obtain ⟨r1, r2, r3⟩ := r
    show Sum.inl (cA r1, r2, ac_r ad' i j r3) = Sum.inl (cA r1, r2, ac_r ad i j r3)
    congr 3
    match r3 with
    | 0 => rfl
    | 1 => rfl
    | 2 => rfl
    | 3 => rfl
    | b + 4 =>
      have h2 : 41 < b + 4 := by
        simp only [okT, Bool.or_eq_true, beq_iff_eq, decide_eq_true_eq] at h
        omega
      unfold ac_r
      simp only
      congr 4
      funext z
      rw [had (b + z) (by omega)]
theorem tt_set : TT 51200 = (TT 0).set 37 (.inr (1, 51200, 0)) := rfl
theorem tt_ok : ∀ k, k < 105 → k ≠ 32 → k ≠ 37 → ((TT 0)[k]?.map okT) = some true := by decide +kernel
theorem tt_up (k : Nat) (h : k < 105) (h1 : k ≠ 32) (h2 : k ≠ 37) : (TT 51200)[k]? = (TT 0)[k]? ∧ ((TT 0)[k]?.map okT) = some true := ⟨by rw [tt_set, List.getElem?_set_ne (fun q => h2 q.symm)], tt_ok k h h1 h2⟩
def nwE (cA : Nat → ClassId) : va_E := .inl (cA 1, 51200, .inl (fun _ => 0))
theorem tt_len : (TT 51200).length = 105 := by decide +kernel
section GR2
variable {p : Program} {l : Launch} {e : Env} {R : Room} {s : State} {m : MethodId} {args : Array Value} {below : List Frame} {meth : Method} {c : Code} {H : Heap} {locs : List Loc} {cells slots : Nat} {Q : State → Prop}
variable {cc : ByteArray} {pc : Nat} {ls : Array Slot} {rest : List Value} {D : va_G} {A : Nat → Prop} {ad : Nat → Nat} {cA : Nat → ClassId} {u : ac_U} {own : String} {index : Nat}
theorem ac_atx {T : List ac_T} {k : Nat} {x : Nat × va_E} (h : (ac_w ad cA T u)[k]? = some x) : ∃ t, T[k]? = some t ∧ x = (ad k, ac_e ad cA (u.1 k) (u.2 k) t) := by
  simp only [ac_w, List.getElem?_mapIdx] at h
  cases q : T[k]? with
  | none => rw [q] at h; cases h
  | some t => rw [q] at h; exact ⟨t, rfl, (Option.some.inj h).symm⟩
def fs7 : List ac_F := [(2, 4), (2, 24), (2, 29), (2, 33), (2, 34), (2, 35), (2, 36), (2, 37), (0, 0), (0, 0), (0, 0), (0, 0), (0, 0), (0, 0)]
theorem fs7_ok : ∀ n, n < 14 → n ≠ 7 → ((fs7[n]?.map (fun f => !(f.1 == 2) || !(f.2 == 37))) = some true) := by decide
theorem fs7_set {ad ad' : Nat → Nat} (had : ∀ c, c ≠ 37 → ad' c = ad c) {i : Nat → Int32} {j : Nat → Int64} : (fs7.mapIdx (ac_f ad i j)).set 7 (.ref (ad' 37)) = fs7.mapIdx (ac_f ad' i j) := by
  apply List.ext_getElem?
  intro n
  by_cases hn : n = 7
  · subst hn
    rw [List.getElem?_set_self (by rw [List.length_mapIdx]; decide), List.getElem?_mapIdx]
    rfl
  · rw [List.getElem?_set_ne (fun q => hn q.symm), List.getElem?_mapIdx, List.getElem?_mapIdx]
    cases q : fs7[n]? with
    | none => rfl
    | some f =>
      have hl : n < 14 := (List.getElem?_eq_some_iff.mp q).1
      have h2 := fs7_ok n hl hn
      rw [q] at h2
      obtain ⟨f1, f2⟩ := f
      simp only [Option.map_some, Option.some.injEq, Bool.or_eq_true, Bool.not_eq_true', beq_eq_false_iff_ne] at h2
      simp only [Option.map_some]
      congr 1
      unfold ac_f
      match f1, h2 with
      | 0, _ => rfl
      | 1, _ => rfl
      | 2, h2 =>
        simp only
        rw [had f2 (by rcases h2 with h2 | h2; exact absurd rfl h2; exact h2)]
      | n + 3, _ => rfl
set_option maxHeartbeats 4000000 in
/-- the world with the new table -/
theorem ac_grown {q : Nat} {H : Heap} {fs : List Value} (hfs : fs = fs7.mapIdx (ac_f ad (u.1 32) (u.2 32)))
    (hP : va_P D vwCl ((ac_w ad cA (TT 0) u ++ [(q, nwE cA)]).set 32 (ad 32, (Sum.inr (7, fs.set 7 (.ref q)) : va_E))) H) (hD : va_D A ((ac_w ad cA (TT 0) u ++ [(q, nwE cA)]).set 32 (ad 32, (Sum.inr (7, fs.set 7 (.ref q)) : va_E)))) :
    va_P D vwCl (ac_w (fun c => if c = 37 then q else ad c) cA (TT 51200) (ac_si u 37 (fun _ => 0))) H ∧ va_D A (ac_w (fun c => if c = 37 then q else ad c) cA (TT 51200) (ac_si u 37 (fun _ => 0))) := by
  have hlen : (ac_w ad cA (TT 0) u).length = 105 := by
    unfold ac_w
    rw [List.length_mapIdx]
    decide +kernel
  have key : ∀ (k : Nat) (x : Nat × va_E), (ac_w (fun c => if c = 37 then q else ad c) cA (TT 51200) (ac_si u 37 (fun _ => 0)))[k]? = some x → ((ac_w ad cA (TT 0) u ++ [(q, nwE cA)]).set 32 (ad 32, (Sum.inr (7, fs.set 7 (.ref q)) : va_E)))[if k = 37 then 105 else k]? = some x := by
    intro k x hk
    obtain ⟨t, ht, hx⟩ := ac_atx hk
    have hk105 : k < 105 := by
      have := (List.getElem?_eq_some_iff.mp ht).1
      rw [tt_len] at this
      exact this
    by_cases e1 : k = 37
    · subst e1
      rw [if_pos rfl, List.getElem?_set_ne (by decide), List.getElem?_append_right (by omega), hlen]
      rw [tc_37] at ht
      cases ht
      rw [hx, ac_si_s]
      rfl
    · rw [if_neg e1]
      by_cases e2 : k = 32
      · subst e2
        rw [List.getElem?_set_self (by simp [hlen])]
        have ht2 : t = .inl (7, fs7) := (Option.some.inj ((tc_32 (nF := 51200)).symm.trans ht)).symm
        have h9 := fs7_set (ad := ad) (ad' := fun c => if c = 37 then q else ad c) (fun c hc => if_neg hc) (i := u.1 32) (j := u.2 32)
        rw [if_pos rfl] at h9
        rw [hx, (ac_si_o 32 (by decide)).1, ht2, hfs, h9]
        rfl
      · rw [List.getElem?_set_ne (fun z => e2 z.symm), List.getElem?_append_left (by omega)]
        obtain ⟨h1, h2⟩ := tt_up k hk105 e2 e1
        rw [ht] at h1
        rw [← h1] at h2
        have h5 : ac_e (fun c => if c = 37 then q else ad c) cA (u.1 k) (u.2 k) t = ac_e ad cA (u.1 k) (u.2 k) t := ac_e_up (fun c hc => if_neg hc) (Option.some.inj h2)
        have h6 : x = (ad k, ac_e ad cA (u.1 k) (u.2 k) t) := by
          rw [hx, (ac_si_o k e1).1, ← h5]
          simp only [if_neg e1]
          rfl
        rw [ac_at h1.symm, h6]
  refine ⟨fun k x hk => hP _ x (key k x hk), fun i j x y hi hj hxy => ?_, fun k x hk => hD.2 _ x (key k x hk)⟩
  have h1 := hD.1 _ _ x y (key i x hi) (key j y hj) hxy
  have hb : ∀ {k : Nat} {x : Nat × va_E}, (ac_w (fun c => if c = 37 then q else ad c) cA (TT 51200) (ac_si u 37 (fun _ => 0)))[k]? = some x → k < 105 := by
    intro k x hk
    obtain ⟨t, ht, -⟩ := ac_atx hk
    have := (List.getElem?_eq_some_iff.mp ht).1
    rw [tt_len] at this
    exact this
  have i1 := hb hi
  have j1 := hb hj
  clear hi hj key hP hD
  by_cases q1 : i = 37
  · rw [if_pos q1] at h1
    by_cases q2 : j = 37
    · omega
    · rw [if_neg q2] at h1
      omega
  · rw [if_neg q1] at h1
    by_cases q2 : j = 37
    · rw [if_pos q2] at h1
      omega
    · rw [if_neg q2] at h1
      exact h1
theorem a_grow (F : ac_X p s m args c cc own TB D vwCl (ac_ty cA)) (hA : ∀ q : Nat, s.heap.size ≤ q → A q) (hP : va_P D vwCl (ac_w ad cA (TT 0) u) H) (hD : va_D A (ac_w ad cA (TT 0) u)) (hS : va_S A s.heap H locs) (hlink : (Cond.fieldLink own index RX7 (TX7 7).2.1 (TX7 7).2.2.1) ∈ TB) (hcells : cells + 1 ≤ R.cells) (hslots : slots + 51200 ≤ R.slots) (d13 : decode cc pc = .ok (.newarray .byte, 2)) (d15 : decode cc (pc + 2) = .ok (.putfield index, 3))
    (kk : ∀ (q : Nat) (H1 : Heap) (locs1 : List Loc), va_P D vwCl (ac_w (fun c => if c = 37 then q else ad c) cA (TT 51200) (ac_si u 37 (fun _ => 0))) H1 → va_D A (ac_w (fun c => if c = 37 then q else ad c) cA (TT 51200) (ac_si u 37 (fun _ => 0))) → va_S A s.heap H1 locs1 → W p l e R s m args below meth c H1 locs1 (cells + 1) (slots + 51200) Q (F0 m (pc + 5) ls rest)) : W p l e R s m args below meth c H locs cells slots Q (F0 m pc ls (.int (51200 : Int32) :: .ref (ad 32) :: rest)) := by
  refine va_newa F.1 F.2.1 (atype := .byte) (F.2.2.1 _ qa_byte) (ty := .byte) rfl F.2.2.2.2 hP hD hS hA (n := (51200 : Int32)) (N' := 51200) (a0 := (51200, .inl (fun _ => (0 : Int32)))) (fun _ => rfl) (by decide) (by decide) (by decide) hcells hslots d13 (fun q cA9 H1 hK1 hP1 hD1 hS1 => ?_)
  have e9 : cA9 = cA 1 := by
    have h1 := (hK1.2 5 (cA9, .byte) rfl).2
    have h2 := (F.2.2.2.2.2 1 (cA 1, .byte) rfl).2
    exact Option.some.inj (h1.symm.trans h2)
  subst e9
  have h32 : (ac_w ad cA (TT 0) u ++ [(q, nwE cA)])[32]? = some (ad 32, ac_e ad cA (u.1 32) (u.2 32) (.inl (7, [(2, 4), (2, 24), (2, 29), (2, 33), (2, 34), (2, 35), (2, 36), (2, 37), (0, 0), (0, 0), (0, 0), (0, 0), (0, 0), (0, 0)]))) := by
    have := ac_at (ad := ad) (cA := cA) (u := u) (tc_32 (nF := 0))
    rw [List.getElem?_append_left (List.getElem?_eq_some_iff.mp this).1]
    exact this
  refine va_put (C := RX7) (T := TX7) (N := 14) (ci := 7) F.1 F.2.1 F.2.2.1 inX7 tyX7 tyX7_ok nmX7 F.2.2.2.1 F.2.2.2.2 hP1 hD1 hS1 32 h32 rfl 7 (by decide) (F.2.2.1 _ hlink) (fun _ h9 => h9) rfl (v := .ref q) (tyX7_ok 7 (by decide)) rfl rfl (by simp) d15 (fun H2 locs2 hP2 hD2 hS2 => ?_)
  obtain ⟨g1, g2⟩ := ac_grown rfl hP2 hD2
  exact kk q H2 locs2 g1 g2 hS2
end GR2

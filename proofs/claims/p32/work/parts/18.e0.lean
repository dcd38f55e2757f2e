/-! The law: the rows of its loop. -/
def oE (cA : Nat → ClassId) (f : Nat → Int64) : va_E := .inl (cA 2, 1, .inr (.inl f))
def cN (nF j : Nat) : Nat := 106 + j + (if nF = 0 then 0 else 1)
def sN (nF j : Nat) : Nat := 62083 + 6 * j + nF
/-- what holds at the head of the loop -/
def lw_I (D : va_G) (cA : Nat → ClassId) (ax bm o : Nat) (A : Nat → Prop) (nF : Nat) (ad : Nat → Nat) (u : ac_U) (H : Heap) : Prop :=
  (nF = 0 ∨ nF = 51200) ∧ ad 0 = ax ∧ ad 85 = bm ∧ (∀ k, k < 105 → ad k ≠ o) ∧ inv u ∧ va_P D vwCl (ac_w ad cA (TT nF) u) H ∧ va_D A (ac_w ad cA (TT nF) u) ∧ ∃ f, va_at D vwCl (o, oE cA f) H
section LW0
variable {p : Program} {l : Launch} {e : Env} {R : Room} {s : State} {m : MethodId} {args : Array Value} {below : List Frame} {meth : Method} {c : Code} {H : Heap} {locs : List Loc} {cells slots : Nat} {Q : State → Prop}
variable {cc : ByteArray} {pc : Nat} {ls : Array Slot} {rest st0 As : List Value} {D : va_G} {cl : List vw_C} {tys : List (ClassId × FieldType)} {A : Nat → Prop} {ad : Nat → Nat} {cA : Nat → ClassId} {T : List ac_T} {u : ac_U}
variable {own C : String} {index nL maxL n ci : Nat} {Ts ws : List Cond} {y : MethodName} {bytes : ByteArray} {ret : Option FieldType}
theorem lw_no {o sz : Nat} (hN : ∀ k, k < T.length → ad k ≠ o) (ho : o < sz) : ¬ va_A (ac_w ad cA T u) sz o := by
  intro h
  rcases h with ⟨k, e, h⟩ | h
  · obtain ⟨t, h1, h2⟩ := ac_atx h
    exact hN k (List.getElem?_eq_some_iff.mp h1).1 (congrArg Prod.fst h2).symm
  · omega
/-- a call of a method of the class or of the reference; the cell 'out' stays -/
theorem lw_Vi {post : Int32 → ac_U → Prop} {d' c0 o : Nat} {eo : va_E} {fs : List ac_F} {q : vw_C} (F : ac_X p s m args c cc own Ts D cl tys) (hml : c.maxLocals = nL) (hsz : ls.size = nL) (hA : ∀ q : Nat, s.heap.size ≤ q → A q) (hP : va_P D cl (ac_w ad cA T u) H) (hD : va_D A (ac_w ad cA T u)) (hO : va_at D cl (o, eo) H) (hN : ∀ k, k < T.length → ad k ≠ o) (hS : va_S A s.heap H locs)
    (hM : ac_Mi l y ws d' D cl tys ad cA T (.ref (ad c0) :: As) u post) (cw : CallW R s args own C index y bytes maxL ret ws (ac_rm d') 0 0 n) (hT : T[c0]? = some (.inl (ci, fs))) (hc : cl[ci]? = some q) (hq : q.1 = C) (hn : As.length = n) (hst : st0 = As.reverse ++ .ref (ad c0) :: rest) (hW : (rest.map fun v => v.category).sum ≤ 8) (hdg : decode cc pc = .ok (.invokevirtual index, 3)) (hf : cells ≤ R.cells ∧ slots ≤ R.slots)
    (kk : ∀ (r : Int32) (u' : ac_U) (H1 : Heap) (locs1 : List Loc), post r u' → va_P D cl (ac_w ad cA T u') H1 → va_D A (ac_w ad cA T u') → va_at D cl (o, eo) H1 → va_S A s.heap H1 locs1 → W p l e R s m args below meth c H1 locs1 cells slots Q (F0 m (pc + 3) ls (.int r :: rest))) : W p l e R s m args below meth c H locs cells slots Q (F0 m pc ls st0) := by
  subst hst
  have hin := ac_in hD hS hA
  refine va_calli (va_runV (As := As) (rest := rest) (n := n) ⟨F.1, F.2.1, hml, F.2.2.2.1, F.2.2.1⟩ (hM H.size) cw ⟨ac_blind, ?_, ac_pre F hP hD⟩ rfl hn hsz rfl (lv_room hW) hdg hf) hS (fun q _ h => hin q h) hin (fun r u' t H1 locs1 ht _ hw hB _ hk hS => ?_)
  · have := va_recv F.2.2.2.2 hP hc (ac_at hT)
    rw [hq] at this
    exact this
  · obtain ⟨h1, h2⟩ := ac_back hin ht hB
    exact kk r u' H1 locs1 hw h1 h2 (va_at.kept hO (hk o hO.lt (lw_no hN hO.lt))) hS
end LW0
theorem cN_le {nF j : Nat} (h : nF = 0 ∨ nF = 51200) (hj : j ≤ 513) : cN nF j + 1 ≤ room_1.cells ∧ sN nF j + 51200 ≤ room_1.slots := by
  show 106 + j + (if nF = 0 then 0 else 1) + 1 ≤ 601024 ∧ 62083 + 6 * j + nF + 51200 ≤ 7293034
  rcases h with rfl | rfl
  · exact ⟨by simp; omega, by omega⟩
  · exact ⟨by simp; omega, by omega⟩
theorem cN_up {nF j : Nat} : cN nF j ≤ cN nF (j + 1) ∧ sN nF j ≤ sN nF (j + 1) := by
  unfold cN sN
  constructor <;> omega

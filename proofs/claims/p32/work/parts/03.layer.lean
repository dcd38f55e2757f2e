/-! Cells by numbers: a world of cells whose shapes are fixed (a template T), whose whole numbers are a state u : u.1 c k is the int at place k of cell c (a field or an element), u.2 c k the long there. -/
section AC0
abbrev ac_F : Type := Nat × Nat
abbrev ac_T : Type := (Nat × List ac_F) ⊕ (Nat × Nat × Nat)
abbrev ac_U : Type := (Nat → Nat → Int32) × (Nat → Nat → Int64)
def ac_f (ad : Nat → Nat) (i : Nat → Int32) (j : Nat → Int64) (k : Nat) (f : ac_F) : Value := match f.1 with
  | 0 => .int (i k)
  | 1 => .long (j k)
  | 2 => .ref (ad f.2)
  | _ => .null
def ac_r (ad : Nat → Nat) (i : Nat → Int32) (j : Nat → Int64) (n : Nat) : (Nat → Int32) ⊕ (Nat → Int64) ⊕ (Nat → UInt32) ⊕ (Nat → UInt64) ⊕ (Nat → Option Nat) := match n with
  | 0 => .inl i
  | 1 => .inr (.inl j)
  | 2 => .inr (.inl ctA)
  | 3 => .inr (.inl ctB)
  | b + 4 => .inr (.inr (.inr (.inr (fun z => some (ad (b + z))))))
def ac_e (ad : Nat → Nat) (cA : Nat → ClassId) (i : Nat → Int32) (j : Nat → Int64) (t : ac_T) : va_E := match t with
  | .inl o => .inr (o.1, o.2.mapIdx (ac_f ad i j))
  | .inr r => .inl (cA r.1, r.2.1, ac_r ad i j r.2.2)
def ac_w (ad : Nat → Nat) (cA : Nat → ClassId) (T : List ac_T) (u : ac_U) : va_W := T.mapIdx (fun c t => (ad c, ac_e ad cA (u.1 c) (u.2 c) t))
def ac_si (u : ac_U) (c : Nat) (g : Nat → Int32) : ac_U := (fun d => if d = c then g else u.1 d, u.2)
def ac_sl (u : ac_U) (c : Nat) (g : Nat → Int64) : ac_U := (u.1, fun d => if d = c then g else u.2 d)
theorem ac_at {ad : Nat → Nat} {cA : Nat → ClassId} {T : List ac_T} {u : ac_U} {c : Nat} {t : ac_T} (h : T[c]? = some t) : (ac_w ad cA T u)[c]? = some (ad c, ac_e ad cA (u.1 c) (u.2 c) t) := by
  simp [ac_w, List.getElem?_mapIdx, h]
theorem ac_set {ad : Nat → Nat} {cA : Nat → ClassId} {T : List ac_T} {u u' : ac_U} {c : Nat} {t : ac_T} {e : va_E} (h : T[c]? = some t) (ho : ∀ d, d ≠ c → u'.1 d = u.1 d ∧ u'.2 d = u.2 d) (he : e = ac_e ad cA (u'.1 c) (u'.2 c) t) :
    (ac_w ad cA T u).set c (ad c, e) = ac_w ad cA T u' := by
  apply List.ext_getElem?
  intro j
  rw [List.getElem?_set]
  by_cases hj : c = j
  · subst hj
    have hl : c < (ac_w ad cA T u).length := by
      have := (List.getElem?_eq_some_iff.mp h).1
      simpa [ac_w] using this
    simp only [if_true, hl]
    rw [ac_at h, he]
  · rw [if_neg hj]
    obtain ⟨h1, h2⟩ := ho j (fun q => hj q.symm)
    simp only [ac_w, List.getElem?_mapIdx, h1, h2]
theorem ac_fi {ad : Nat → Nat} {i : Nat → Int32} {j : Nat → Int64} {fs : List ac_F} {k z : Nat} (hf : fs[k]? = some (0, z)) (v : Int32) : (fs.mapIdx (ac_f ad i j)).set k (.int v) = fs.mapIdx (ac_f ad (upd i k v) j) := by
  apply List.ext_getElem?
  intro n
  rw [List.getElem?_set]
  by_cases hn : k = n
  · subst hn
    have hl : k < (fs.mapIdx (ac_f ad i j)).length := by
      have := (List.getElem?_eq_some_iff.mp hf).1
      simpa using this
    simp only [if_true, hl]
    simp [List.getElem?_mapIdx, hf, ac_f, upd]
  · rw [if_neg hn]
    simp only [List.getElem?_mapIdx]
    cases fs[n]? with
    | none => rfl
    | some f =>
      have : upd i k v n = i n := if_neg (fun q => hn (Eq.symm q))
      obtain ⟨f1, f2⟩ := f
      simp only [Option.map_some, ac_f, this]
theorem ac_fl {ad : Nat → Nat} {i : Nat → Int32} {j : Nat → Int64} {fs : List ac_F} {k z : Nat} (hf : fs[k]? = some (1, z)) (v : Int64) : (fs.mapIdx (ac_f ad i j)).set k (.long v) = fs.mapIdx (ac_f ad i (vp_updL j k v)) := by
  apply List.ext_getElem?
  intro n
  rw [List.getElem?_set]
  by_cases hn : k = n
  · subst hn
    have hl : k < (fs.mapIdx (ac_f ad i j)).length := by
      have := (List.getElem?_eq_some_iff.mp hf).1
      simpa using this
    simp only [if_true, hl]
    simp [List.getElem?_mapIdx, hf, ac_f, vp_updL]
  · rw [if_neg hn]
    simp only [List.getElem?_mapIdx]
    cases fs[n]? with
    | none => rfl
    | some f =>
      have : vp_updL j k v n = j n := if_neg (fun q => hn (Eq.symm q))
      obtain ⟨f1, f2⟩ := f
      simp only [Option.map_some, ac_f, this]
theorem ac_si_o {u : ac_U} {c : Nat} {g : Nat → Int32} : ∀ d, d ≠ c → (ac_si u c g).1 d = u.1 d ∧ (ac_si u c g).2 d = u.2 d := fun d h => ⟨by simp [ac_si, h], rfl⟩
theorem ac_sl_o {u : ac_U} {c : Nat} {g : Nat → Int64} : ∀ d, d ≠ c → (ac_sl u c g).1 d = u.1 d ∧ (ac_sl u c g).2 d = u.2 d := fun d h => ⟨rfl, by simp [ac_sl, h]⟩
theorem ac_si_s {u : ac_U} {c : Nat} {g : Nat → Int32} : (ac_si u c g).1 c = g := by simp [ac_si]
theorem ac_sl_s {u : ac_U} {c : Nat} {g : Nat → Int64} : (ac_sl u c g).2 c = g := by simp [ac_sl]
/-- what a walk stands on: the machine, the code, the words, its class, the tables -/
def ac_X (p : Program) (s : State) (m : MethodId) (args : Array Value) (c : Code) (cc : ByteArray) (own : String) (Ts : List Cond) (D : va_G) (cl : List vw_C) (tys : List (ClassId × FieldType)) : Prop :=
  p.tables.exec = Jvm.exec ∧ c.code = cc ∧ (∀ w ∈ Ts, w.before args s = true) ∧ s.vm.findClass own = some m.cls ∧ va_K D cl tys s
end AC0
section AC1
variable {p : Program} {l : Launch} {e : Env} {R : Room} {s : State} {m : MethodId} {args : Array Value} {below : List Frame} {meth : Method} {c : Code} {H : Heap} {locs : List Loc} {cells slots : Nat} {Q : State → Prop}
variable {cc : ByteArray} {pc : Nat} {ls : Array Slot} {rest : List Value} {D : va_G} {cl : List vw_C} {A : Nat → Prop} {tys : List (ClassId × FieldType)} {H0 : Heap} {ad : Nat → Nat} {cA : Nat → ClassId} {T : List ac_T} {u : ac_U}
variable {own ref C : String} {Tt : u_T} {N ci index : Nat} {Ts : List Cond}
theorem a_geti (F : ac_X p s m args c cc own Ts D cl tys) (hin : ∀ w ∈ u_ws C Tt N, w ∈ Ts) (hP : va_P D cl (ac_w ad cA T u) H) (c0 k : Nat) {fs : List ac_F} {z : Nat} (hT : T[c0]? = some (.inl (ci, fs))) (hf : fs[k]? = some (0, z)) (hc : cl[ci]? = some (C, Tt, N)) (hk : k < N) (hlink : (Cond.fieldLink own index ref (Tt k).2.1 (Tt k).2.2.1) ∈ Ts) (hsame : ∀ x, s.fieldFound? (Tt k).1 (Tt k).2.1 (Tt k).2.2.1 = some x → s.fieldFound? ref (Tt k).2.1 (Tt k).2.2.1 = some x) {v : Int32} (hv : u.1 c0 k = v) (hdg : decode cc pc = .ok (.getfield index, 3))
    (kk : W p l e R s m args below meth c H locs cells slots Q (F0 m (pc + 3) ls (.int v :: rest))) : W p l e R s m args below meth c H locs cells slots Q (F0 m pc ls (.ref (ad c0) :: rest)) :=
  va_get F.1 F.2.1 F.2.2.1 hin F.2.2.2.1 F.2.2.2.2 hP c0 (ac_at hT) hc k hk (F.2.2.1 _ hlink) hsame (v := .int v) (by simp [List.getElem?_mapIdx, hf, ac_f, hv]) hdg kk
theorem a_getl (F : ac_X p s m args c cc own Ts D cl tys) (hin : ∀ w ∈ u_ws C Tt N, w ∈ Ts) (hP : va_P D cl (ac_w ad cA T u) H) (c0 k : Nat) {fs : List ac_F} {z : Nat} (hT : T[c0]? = some (.inl (ci, fs))) (hf : fs[k]? = some (1, z)) (hc : cl[ci]? = some (C, Tt, N)) (hk : k < N) (hlink : (Cond.fieldLink own index ref (Tt k).2.1 (Tt k).2.2.1) ∈ Ts) (hsame : ∀ x, s.fieldFound? (Tt k).1 (Tt k).2.1 (Tt k).2.2.1 = some x → s.fieldFound? ref (Tt k).2.1 (Tt k).2.2.1 = some x) {v : Int64} (hv : u.2 c0 k = v) (hdg : decode cc pc = .ok (.getfield index, 3))
    (kk : W p l e R s m args below meth c H locs cells slots Q (F0 m (pc + 3) ls (.long v :: rest))) : W p l e R s m args below meth c H locs cells slots Q (F0 m pc ls (.ref (ad c0) :: rest)) :=
  va_get F.1 F.2.1 F.2.2.1 hin F.2.2.2.1 F.2.2.2.2 hP c0 (ac_at hT) hc k hk (F.2.2.1 _ hlink) hsame (v := .long v) (by simp [List.getElem?_mapIdx, hf, ac_f, hv]) hdg kk
theorem a_getr (F : ac_X p s m args c cc own Ts D cl tys) (hin : ∀ w ∈ u_ws C Tt N, w ∈ Ts) (hP : va_P D cl (ac_w ad cA T u) H) (c0 k : Nat) {fs : List ac_F} {z : Nat} (hT : T[c0]? = some (.inl (ci, fs))) (hf : fs[k]? = some (2, z)) (hc : cl[ci]? = some (C, Tt, N)) (hk : k < N) (hlink : (Cond.fieldLink own index ref (Tt k).2.1 (Tt k).2.2.1) ∈ Ts) (hsame : ∀ x, s.fieldFound? (Tt k).1 (Tt k).2.1 (Tt k).2.2.1 = some x → s.fieldFound? ref (Tt k).2.1 (Tt k).2.2.1 = some x) (hdg : decode cc pc = .ok (.getfield index, 3))
    (kk : W p l e R s m args below meth c H locs cells slots Q (F0 m (pc + 3) ls (.ref (ad z) :: rest))) : W p l e R s m args below meth c H locs cells slots Q (F0 m pc ls (.ref (ad c0) :: rest)) :=
  va_get F.1 F.2.1 F.2.2.1 hin F.2.2.2.1 F.2.2.2.2 hP c0 (ac_at hT) hc k hk (F.2.2.1 _ hlink) hsame (v := .ref (ad z)) (by simp [List.getElem?_mapIdx, hf, ac_f]) hdg kk
theorem a_puti (F : ac_X p s m args c cc own Ts D cl tys) (hin : ∀ w ∈ u_ws C Tt N, w ∈ Ts) (ty0 : Nat → FieldType) (hty : ∀ k, k < N → parseFieldDescriptor (Tt k).2.2.1 = some (ty0 k)) (hnm : ∀ a, a < N → ∀ b, b < N → a ≠ b → (Tt a).2.1 ≠ (Tt b).2.1) (hP : va_P D cl (ac_w ad cA T u) H) (hD : va_D A (ac_w ad cA T u)) (hS : va_S A H0 H locs) (c0 k : Nat) {fs : List ac_F} {z : Nat} (hT : T[c0]? = some (.inl (ci, fs))) (hf : fs[k]? = some (0, z)) (hc : cl[ci]? = some (C, Tt, N)) (hk : k < N) (hlink : (Cond.fieldLink own index ref (Tt k).2.1 (Tt k).2.2.1) ∈ Ts) (hsame : ∀ x, s.fieldFound? (Tt k).1 (Tt k).2.1 (Tt k).2.2.1 = some x → s.fieldFound? ref (Tt k).2.1 (Tt k).2.2.1 = some x) (hfin : (Tt k).2.2.2 = false) {ty : FieldType} {v : Int32} (hd : parseFieldDescriptor (Tt k).2.2.1 = some ty) (hn : narrow ty (.int v) = .int v) (hfit : fits ty (.int v) = true) (hdg : decode cc pc = .ok (.putfield index, 3))
    (kk : ∀ (H1 : Heap) (locs1 : List Loc), va_P D cl (ac_w ad cA T (ac_si u c0 (upd (u.1 c0) k v))) H1 → va_D A (ac_w ad cA T (ac_si u c0 (upd (u.1 c0) k v))) → va_S A H0 H1 locs1 → W p l e R s m args below meth c H1 locs1 cells slots Q (F0 m (pc + 3) ls rest)) : W p l e R s m args below meth c H locs cells slots Q (F0 m pc ls (.int v :: .ref (ad c0) :: rest)) := by
  have hq : (ac_w ad cA T u).set c0 (ad c0, .inr (ci, (fs.mapIdx (ac_f ad (u.1 c0) (u.2 c0))).set k (.int v))) = ac_w ad cA T (ac_si u c0 (upd (u.1 c0) k v)) := by
    refine ac_set hT ac_si_o ?_
    rw [ac_fi hf, ac_si_s]
    rfl
  refine va_put F.1 F.2.1 F.2.2.1 hin ty0 hty hnm F.2.2.2.1 F.2.2.2.2 hP hD hS c0 (ac_at hT) hc k hk (F.2.2.1 _ hlink) hsame hfin hd hn hfit ?_ hdg (fun H1 locs1 h1 h2 h3 => ?_)
  · have := (List.getElem?_eq_some_iff.mp hf).1
    simpa using this
  · exact kk H1 locs1 (hq ▸ h1) (hq ▸ h2) h3
theorem a_putl (F : ac_X p s m args c cc own Ts D cl tys) (hin : ∀ w ∈ u_ws C Tt N, w ∈ Ts) (ty0 : Nat → FieldType) (hty : ∀ k, k < N → parseFieldDescriptor (Tt k).2.2.1 = some (ty0 k)) (hnm : ∀ a, a < N → ∀ b, b < N → a ≠ b → (Tt a).2.1 ≠ (Tt b).2.1) (hP : va_P D cl (ac_w ad cA T u) H) (hD : va_D A (ac_w ad cA T u)) (hS : va_S A H0 H locs) (c0 k : Nat) {fs : List ac_F} {z : Nat} (hT : T[c0]? = some (.inl (ci, fs))) (hf : fs[k]? = some (1, z)) (hc : cl[ci]? = some (C, Tt, N)) (hk : k < N) (hlink : (Cond.fieldLink own index ref (Tt k).2.1 (Tt k).2.2.1) ∈ Ts) (hsame : ∀ x, s.fieldFound? (Tt k).1 (Tt k).2.1 (Tt k).2.2.1 = some x → s.fieldFound? ref (Tt k).2.1 (Tt k).2.2.1 = some x) (hfin : (Tt k).2.2.2 = false) {v : Int64} (hd : parseFieldDescriptor (Tt k).2.2.1 = some .long) (hdg : decode cc pc = .ok (.putfield index, 3))
    (kk : ∀ (H1 : Heap) (locs1 : List Loc), va_P D cl (ac_w ad cA T (ac_sl u c0 (vp_updL (u.2 c0) k v))) H1 → va_D A (ac_w ad cA T (ac_sl u c0 (vp_updL (u.2 c0) k v))) → va_S A H0 H1 locs1 → W p l e R s m args below meth c H1 locs1 cells slots Q (F0 m (pc + 3) ls rest)) : W p l e R s m args below meth c H locs cells slots Q (F0 m pc ls (.long v :: .ref (ad c0) :: rest)) := by
  have hq : (ac_w ad cA T u).set c0 (ad c0, .inr (ci, (fs.mapIdx (ac_f ad (u.1 c0) (u.2 c0))).set k (.long v))) = ac_w ad cA T (ac_sl u c0 (vp_updL (u.2 c0) k v)) := by
    refine ac_set hT ac_sl_o ?_
    rw [ac_fl hf, ac_sl_s]
    rfl
  refine va_put F.1 F.2.1 F.2.2.1 hin ty0 hty hnm F.2.2.2.1 F.2.2.2.2 hP hD hS c0 (ac_at hT) hc k hk (F.2.2.1 _ hlink) hsame hfin hd rfl rfl ?_ hdg (fun H1 locs1 h1 h2 h3 => ?_)
  · have := (List.getElem?_eq_some_iff.mp hf).1
    simpa using this
  · exact kk H1 locs1 (hq ▸ h1) (hq ▸ h2) h3
theorem a_iald (F : ac_X p s m args c cc own Ts D cl tys) (hP : va_P D cl (ac_w ad cA T u) H) (c0 : Nat) {t0 n : Nat} (hT : T[c0]? = some (.inr (t0, n, 0))) (ht : tys[t0]? = some (cA t0, .int)) {i : Int32} (hin : vp_in i n) (hdg : decode cc pc = .ok (.iaload, 1))
    (kk : ∀ v : Int32, u.1 c0 i.toNatClampNeg = v → W p l e R s m args below meth c H locs cells slots Q (F0 m (pc + 1) ls (.int v :: rest))) : W p l e R s m args below meth c H locs cells slots Q (F0 m pc ls (.int i :: .ref (ad c0) :: rest)) :=
  va_iald F.1 F.2.1 F.2.2.2.2 hP c0 t0 (ac_at hT) ht hin hdg (kk _ rfl)
theorem a_bald (F : ac_X p s m args c cc own Ts D cl tys) (hP : va_P D cl (ac_w ad cA T u) H) (c0 : Nat) {t0 n : Nat} (hT : T[c0]? = some (.inr (t0, n, 0))) (ht : tys[t0]? = some (cA t0, .byte)) {i : Int32} (hin : vp_in i n) (hdg : decode cc pc = .ok (.baload, 1))
    (kk : ∀ v : Int32, u.1 c0 i.toNatClampNeg = v → W p l e R s m args below meth c H locs cells slots Q (F0 m (pc + 1) ls (.int v :: rest))) : W p l e R s m args below meth c H locs cells slots Q (F0 m pc ls (.int i :: .ref (ad c0) :: rest)) :=
  va_bald F.1 F.2.1 F.2.2.2.2 hP c0 t0 (ac_at hT) ht hin hdg (kk _ rfl)
theorem a_zald (F : ac_X p s m args c cc own Ts D cl tys) (hP : va_P D cl (ac_w ad cA T u) H) (c0 : Nat) {t0 n : Nat} (hT : T[c0]? = some (.inr (t0, n, 0))) (ht : tys[t0]? = some (cA t0, .boolean)) {i : Int32} (hin : vp_in i n) (hdg : decode cc pc = .ok (.baload, 1))
    (kk : ∀ v : Int32, u.1 c0 i.toNatClampNeg = v → W p l e R s m args below meth c H locs cells slots Q (F0 m (pc + 1) ls (.int v :: rest))) : W p l e R s m args below meth c H locs cells slots Q (F0 m pc ls (.int i :: .ref (ad c0) :: rest)) :=
  va_zald F.1 F.2.1 F.2.2.2.2 hP c0 t0 (ac_at hT) ht hin hdg (kk _ rfl)
theorem a_lald (F : ac_X p s m args c cc own Ts D cl tys) (hP : va_P D cl (ac_w ad cA T u) H) (c0 : Nat) {t0 n : Nat} (hT : T[c0]? = some (.inr (t0, n, 1))) (ht : tys[t0]? = some (cA t0, .long)) {i : Int32} (hin : vp_in i n) (hdg : decode cc pc = .ok (.laload, 1))
    (kk : ∀ v : Int64, u.2 c0 i.toNatClampNeg = v → W p l e R s m args below meth c H locs cells slots Q (F0 m (pc + 1) ls (.long v :: rest))) : W p l e R s m args below meth c H locs cells slots Q (F0 m pc ls (.int i :: .ref (ad c0) :: rest)) :=
  va_lald F.1 F.2.1 F.2.2.2.2 hP c0 t0 (ac_at hT) ht hin hdg (kk _ rfl)
theorem a_laldA (F : ac_X p s m args c cc own Ts D cl tys) (hP : va_P D cl (ac_w ad cA T u) H) (c0 : Nat) {t0 n : Nat} (hT : T[c0]? = some (.inr (t0, n, 2))) (ht : tys[t0]? = some (cA t0, .long)) {i : Int32} (hin : vp_in i n) (hdg : decode cc pc = .ok (.laload, 1))
    (kk : ∀ v : Int64, ctA i.toNatClampNeg = v → W p l e R s m args below meth c H locs cells slots Q (F0 m (pc + 1) ls (.long v :: rest))) : W p l e R s m args below meth c H locs cells slots Q (F0 m pc ls (.int i :: .ref (ad c0) :: rest)) :=
  va_lald F.1 F.2.1 F.2.2.2.2 hP c0 t0 (ac_at hT) ht hin hdg (kk _ rfl)
theorem a_laldB (F : ac_X p s m args c cc own Ts D cl tys) (hP : va_P D cl (ac_w ad cA T u) H) (c0 : Nat) {t0 n : Nat} (hT : T[c0]? = some (.inr (t0, n, 3))) (ht : tys[t0]? = some (cA t0, .long)) {i : Int32} (hin : vp_in i n) (hdg : decode cc pc = .ok (.laload, 1))
    (kk : ∀ v : Int64, ctB i.toNatClampNeg = v → W p l e R s m args below meth c H locs cells slots Q (F0 m (pc + 1) ls (.long v :: rest))) : W p l e R s m args below meth c H locs cells slots Q (F0 m pc ls (.int i :: .ref (ad c0) :: rest)) :=
  va_lald F.1 F.2.1 F.2.2.2.2 hP c0 t0 (ac_at hT) ht hin hdg (kk _ rfl)
theorem ac_ari {c0 t0 n : Nat} (hT : T[c0]? = some (.inr (t0, n, 0))) (g : Nat → Int32) : (ac_w ad cA T u).set c0 (ad c0, .inl (cA t0, n, .inl g)) = ac_w ad cA T (ac_si u c0 g) := by
  refine ac_set hT ac_si_o ?_
  rw [ac_si_s]
  rfl
theorem ac_arl {c0 t0 n : Nat} (hT : T[c0]? = some (.inr (t0, n, 1))) (g : Nat → Int64) : (ac_w ad cA T u).set c0 (ad c0, .inl (cA t0, n, .inr (.inl g))) = ac_w ad cA T (ac_sl u c0 g) := by
  refine ac_set hT ac_sl_o ?_
  rw [ac_sl_s]
  rfl
theorem a_iast (F : ac_X p s m args c cc own Ts D cl tys) (hP : va_P D cl (ac_w ad cA T u) H) (hD : va_D A (ac_w ad cA T u)) (hS : va_S A H0 H locs) (c0 : Nat) {t0 n : Nat} (hT : T[c0]? = some (.inr (t0, n, 0))) (ht : tys[t0]? = some (cA t0, .int)) {i x : Int32} (hin : vp_in i n) (hdg : decode cc pc = .ok (.iastore, 1))
    (kk : ∀ (H1 : Heap) (locs1 : List Loc), va_P D cl (ac_w ad cA T (ac_si u c0 (upd (u.1 c0) i.toNatClampNeg x))) H1 → va_D A (ac_w ad cA T (ac_si u c0 (upd (u.1 c0) i.toNatClampNeg x))) → va_S A H0 H1 locs1 → W p l e R s m args below meth c H1 locs1 cells slots Q (F0 m (pc + 1) ls rest)) : W p l e R s m args below meth c H locs cells slots Q (F0 m pc ls (.int x :: .int i :: .ref (ad c0) :: rest)) :=
  va_iast F.1 F.2.1 F.2.2.2.2 hP hD hS c0 t0 (ac_at hT) ht hin hdg (fun H1 locs1 h1 h2 h3 => kk H1 locs1 (ac_ari hT _ ▸ h1) (ac_ari hT _ ▸ h2) h3)
theorem a_bast (F : ac_X p s m args c cc own Ts D cl tys) (hP : va_P D cl (ac_w ad cA T u) H) (hD : va_D A (ac_w ad cA T u)) (hS : va_S A H0 H locs) (c0 : Nat) {t0 n : Nat} (hT : T[c0]? = some (.inr (t0, n, 0))) (ht : tys[t0]? = some (cA t0, .byte)) {i x : Int32} (hin : vp_in i n) (hdg : decode cc pc = .ok (.bastore, 1))
    (kk : ∀ (H1 : Heap) (locs1 : List Loc), va_P D cl (ac_w ad cA T (ac_si u c0 (upd (u.1 c0) i.toNatClampNeg (vp_nar .byte x)))) H1 → va_D A (ac_w ad cA T (ac_si u c0 (upd (u.1 c0) i.toNatClampNeg (vp_nar .byte x)))) → va_S A H0 H1 locs1 → W p l e R s m args below meth c H1 locs1 cells slots Q (F0 m (pc + 1) ls rest)) : W p l e R s m args below meth c H locs cells slots Q (F0 m pc ls (.int x :: .int i :: .ref (ad c0) :: rest)) :=
  va_bast F.1 F.2.1 F.2.2.2.2 hP hD hS c0 t0 (ac_at hT) ht hin hdg (fun H1 locs1 h1 h2 h3 => kk H1 locs1 (ac_ari hT _ ▸ h1) (ac_ari hT _ ▸ h2) h3)
theorem a_zast (F : ac_X p s m args c cc own Ts D cl tys) (hP : va_P D cl (ac_w ad cA T u) H) (hD : va_D A (ac_w ad cA T u)) (hS : va_S A H0 H locs) (c0 : Nat) {t0 n : Nat} (hT : T[c0]? = some (.inr (t0, n, 0))) (ht : tys[t0]? = some (cA t0, .boolean)) {i x : Int32} (hin : vp_in i n) (hdg : decode cc pc = .ok (.bastore, 1))
    (kk : ∀ (H1 : Heap) (locs1 : List Loc), va_P D cl (ac_w ad cA T (ac_si u c0 (upd (u.1 c0) i.toNatClampNeg (vp_nar .boolean x)))) H1 → va_D A (ac_w ad cA T (ac_si u c0 (upd (u.1 c0) i.toNatClampNeg (vp_nar .boolean x)))) → va_S A H0 H1 locs1 → W p l e R s m args below meth c H1 locs1 cells slots Q (F0 m (pc + 1) ls rest)) : W p l e R s m args below meth c H locs cells slots Q (F0 m pc ls (.int x :: .int i :: .ref (ad c0) :: rest)) :=
  va_zast F.1 F.2.1 F.2.2.2.2 hP hD hS c0 t0 (ac_at hT) ht hin hdg (fun H1 locs1 h1 h2 h3 => kk H1 locs1 (ac_ari hT _ ▸ h1) (ac_ari hT _ ▸ h2) h3)
theorem a_last (F : ac_X p s m args c cc own Ts D cl tys) (hP : va_P D cl (ac_w ad cA T u) H) (hD : va_D A (ac_w ad cA T u)) (hS : va_S A H0 H locs) (c0 : Nat) {t0 n : Nat} (hT : T[c0]? = some (.inr (t0, n, 1))) (ht : tys[t0]? = some (cA t0, .long)) {i : Int32} {x : Int64} (hin : vp_in i n) (hdg : decode cc pc = .ok (.lastore, 1))
    (kk : ∀ (H1 : Heap) (locs1 : List Loc), va_P D cl (ac_w ad cA T (ac_sl u c0 (vp_updL (u.2 c0) i.toNatClampNeg x))) H1 → va_D A (ac_w ad cA T (ac_sl u c0 (vp_updL (u.2 c0) i.toNatClampNeg x))) → va_S A H0 H1 locs1 → W p l e R s m args below meth c H1 locs1 cells slots Q (F0 m (pc + 1) ls rest)) : W p l e R s m args below meth c H locs cells slots Q (F0 m pc ls (.long x :: .int i :: .ref (ad c0) :: rest)) :=
  va_last F.1 F.2.1 F.2.2.2.2 hP hD hS c0 t0 (ac_at hT) ht hin hdg (fun H1 locs1 h1 h2 h3 => kk H1 locs1 (ac_arl hT _ ▸ h1) (ac_arl hT _ ▸ h2) h3)
end AC1

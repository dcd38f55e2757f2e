/-! The class's reader of a sentence, a level at a time. -/
def oneX (rn rb : ac_U → Int32 → ac_U × Int32) (u : ac_U) (p0 x2 : Int32) : ac_U × Int32 := if (20 : Int) ≤ (u.1 47 4).toInt then f_X10_fail_1 u (4 : Int32) else if p0.toInt ≤ (8 : Int) then (if x2.toInt ≠ (40 : Int) then (if x2.toInt ≠ (116 : Int) then (if x2.toInt ≠ (122 : Int) then (if x2.toInt ≤ (122 : Int) then f_X9_readStatus_51 (pI u 47 4 (u.1 47 4 + 1)) x2 else f_X9_readCompare_51 (pI u 47 4 (u.1 47 4 + 1)) x2) else f_X9_readOf_51 (pI u 47 4 (u.1 47 4 + 1))) else rn (pI u 47 4 (u.1 47 4 + 1)) p0) else rb (pI u 47 4 (u.1 47 4 + 1)) p0) else (u, 0)
def oneB (rn rb : ac_U → Int32 → ac_U × Int32) (u : ac_U) (p0 : Int32) : ac_U × Int32 := if (u.1 1 6).toInt = (40 : Int) then oneX rn rb u p0 (u.1 1 6) else if (u.1 1 6).toInt < (116 : Int) then f_X10_fail_1 u (1 : Int32) else if (u.1 1 6).toInt ≤ (126 : Int) then oneX rn rb u p0 (u.1 1 6) else f_X10_fail_1 u (1 : Int32)
def notB (one : ac_U → Int32 → ac_U × Int32) (u : ac_U) (p0 : Int32) : ac_U × Int32 := bd (one (f_X10_readNext_1 u) (p0 + 1)) (fun u3 r3 => if r3.toInt ≠ 0 then (f_X8_add_47 u3 (116 : Int32) (0 : Int32) (0 : Int32), 1) else (u3, 0))
def not8 (one : ac_U → Int32 → ac_U × Int32) (u : ac_U) (p0 : Int32) : ac_U × Int32 := bd (one (f_X10_readNext_1 u) (p0 + 1)) (fun u3 r3 => if r3.toInt ≠ 0 then (u3, 0) else (u3, 0))
def brkB (cond : ac_U → Int32 → ac_U × Int32) (u : ac_U) (p0 : Int32) : ac_U × Int32 := bd (cond (f_X10_readNext_1 u) (p0 + 1)) (fun u3 r3 => if r3.toInt ≠ 0 then (if (u3.1 1 6).toInt = (41 : Int) then (f_X10_readNext_1 u3, 1) else f_X10_fail_1 u3 (1 : Int32)) else (u3, 0))
def bothK (one : ac_U → Int32 → ac_U × Int32) (p0 : Int32) : Nat → ac_U → Int32 → ac_U × Int32
  | 0 => fun u _ => (u, 0)
  | n + 1 => fun u x2 => if (20 : Int) ≤ x2.toInt then (u, 1) else if (u.1 1 6).toInt ≠ (115 : Int) then (u, 1) else if (one (f_X10_readNext_1 u) p0).2.toInt ≠ 0 then bothK one p0 n (f_X8_add_47 (one (f_X10_readNext_1 u) p0).1 (115 : Int32) (0 : Int32) (0 : Int32)) (x2 + Int32.ofInt (1)) else ((one (f_X10_readNext_1 u) p0).1, 0)
def bothB (one : ac_U → Int32 → ac_U × Int32) (u : ac_U) (p0 : Int32) : ac_U × Int32 := if (one u p0).2.toInt ≠ 0 then bothK one p0 22 (one u p0).1 (0 : Int32) else ((one u p0).1, 0)
def condK (both : ac_U → Int32 → ac_U × Int32) (p0 : Int32) : Nat → ac_U → Int32 → ac_U × Int32
  | 0 => fun u _ => (u, 0)
  | n + 1 => fun u x2 => if (20 : Int) ≤ x2.toInt then (u, 1) else if (u.1 1 6).toInt ≠ (114 : Int) then (u, 1) else if (both (f_X10_readNext_1 u) p0).2.toInt ≠ 0 then condK both p0 n (f_X8_add_47 (both (f_X10_readNext_1 u) p0).1 (114 : Int32) (0 : Int32) (0 : Int32)) (x2 + Int32.ofInt (1)) else ((both (f_X10_readNext_1 u) p0).1, 0)
def condB (both : ac_U → Int32 → ac_U × Int32) (u : ac_U) (p0 : Int32) : ac_U × Int32 := if (both u p0).2.toInt ≠ 0 then condK both p0 22 (both u p0).1 (0 : Int32) else ((both u p0).1, 0)
/-! What each of them does beside the reference's loop. -/
def OneOK (d : Nat) (one : ac_U → Int32 → ac_U × Int32) : Prop := ∀ (u w w0 : ac_U) (σ : List Nat) (p : Int32), p.toInt = (d : Int) → OS u w σ d → ((one u p).2 = 1 ∧ d ≤ 8 ∧ (u.1 47 4).toInt + 1 ≤ ((one u p).1.1 47 4).toInt ∧ ∃ (w' : ac_U) (k : Nat), Rc w0 w w' ∧ WS (one u p).1 w' (List.replicate k 20 ++ σ) (d + k)) ∨ ((one u p).2 = 0 ∧ Fl w0 w (one u p).1)
def NotOK (d : Nat) (rn : ac_U → Int32 → ac_U × Int32) : Prop := ∀ (u w w0 : ac_U) (σ : List Nat) (p : Int32), p.toInt = (d : Int) → OS (f_X10_readNext_1 u) w (20 :: σ) (d + 1) → ((rn u p).2 = 1 ∧ d ≤ 7 ∧ ((f_X10_readNext_1 u).1 47 4).toInt ≤ ((rn u p).1.1 47 4).toInt ∧ ∃ (w' : ac_U) (k : Nat), Rc w0 w w' ∧ WS (rn u p).1 w' (List.replicate k 20 ++ 20 :: σ) (d + 1 + k)) ∨ ((rn u p).2 = 0 ∧ Fl w0 w (rn u p).1)
def BrkOK (d : Nat) (rb : ac_U → Int32 → ac_U × Int32) : Prop := ∀ (u w w0 : ac_U) (σ : List Nat) (p : Int32), p.toInt = (d : Int) → OS (f_X10_readNext_1 u) w (23 :: σ) (d + 1) → ((rb u p).2 = 1 ∧ d ≤ 7 ∧ ((f_X10_readNext_1 u).1 47 4).toInt ≤ ((rb u p).1.1 47 4).toInt ∧ ∃ w' : ac_U, Rc w0 w w' ∧ WS (rb u p).1 w' σ d) ∨ ((rb u p).2 = 0 ∧ Fl w0 w (rb u p).1)
def BthS (d : Nat) (w0 w : ac_U) (σ : List Nat) (q : ac_U × Int32) (o : Int) : Prop := (q.2 = 1 ∧ d ≤ 8 ∧ o ≤ (q.1.1 47 4).toInt ∧ (q.1.1 1 6).toInt ≠ 115 ∧ ∃ (w' : ac_U) (k : Nat) (a : List Nat), (a = [] ∨ a = [21]) ∧ Rc w0 w w' ∧ WS q.1 w' (List.replicate k 20 ++ (a ++ σ)) (d + k)) ∨ (q.2 = 0 ∧ Fl w0 w q.1)
def BothOK (d : Nat) (both : ac_U → Int32 → ac_U × Int32) : Prop := ∀ (u w w0 : ac_U) (σ : List Nat) (p : Int32), p.toInt = (d : Int) → OS u w σ d → σ.head? ≠ some 20 → σ.head? ≠ some 21 → BthS d w0 w σ (both u p) ((u.1 47 4).toInt + 1)
def CndS (d : Nat) (w0 w : ac_U) (σ : List Nat) (q : ac_U × Int32) (o : Int) : Prop := (q.2 = 1 ∧ d ≤ 8 ∧ o ≤ (q.1.1 47 4).toInt ∧ (q.1.1 1 6).toInt ≠ 115 ∧ (q.1.1 1 6).toInt ≠ 114 ∧ ∃ (w' : ac_U) (k : Nat) (a : List Nat), (∀ x, x ∈ a → x = 21 ∨ x = 22) ∧ Rc w0 w w' ∧ WS q.1 w' (List.replicate k 20 ++ (a ++ σ)) (d + k)) ∨ (q.2 = 0 ∧ Fl w0 w q.1)
def CondOK (d : Nat) (cond : ac_U → Int32 → ac_U × Int32) : Prop := ∀ (u w w0 : ac_U) (σ : List Nat) (p : Int32), p.toInt = (d : Int) → OS u w σ d → σ.head? ≠ some 20 → σ.head? ≠ some 21 → σ.head? ≠ some 22 → CndS d w0 w σ (cond u p) ((u.1 47 4).toInt + 1)
/-! Steps of the reference. -/
theorem RF.sk {w w' : ac_U} (r : RF w w') {σ : List Nat} (h : Sk w σ) : Sk w' σ := ⟨by rw [r.1 85 41 (by omega)]; exact h.1, stP_cg σ (fun i _ => r.1 100 i (by omega)) h.2⟩
theorem RF.cd {w w' : ac_U} (r : RF w w') {σ : List Nat} : Cd w' σ = Cd w σ := by unfold Cd; rw [r.1 85 39 (by omega)]
theorem CF.o {u u' : ac_U} (r : CF u u') : u'.1 47 4 = u.1 47 4 := r.1 47 4 (by omega)
theorem ms_O {u w : ac_U} {σ : List Nat} {d : Nat} (h : OS u w σ d) : Ms w = 4 * (21 - (u.1 47 4).toInt) + (σ.length : Int) := by
  obtain ⟨h1, h2, h3, -⟩ := h
  unfold Ms
  rw [← h1.2.1.1, h2.1, h3, t0i]
  omega
theorem ms_W {u w : ac_U} {σ : List Nat} {d : Nat} (h : WS u w σ d) : Ms w = 4 * (21 - (u.1 47 4).toInt) + (σ.length : Int) + 2 := by
  obtain ⟨h1, h2, h3, -⟩ := h
  unfold Ms
  rw [← h1.2.1.1, h2.1, h3, t1i]
  omega
theorem WS.pops {u w : ac_U} {k d : Nat} {a τ : List Nat} {p : Int32} (h : WS u w (List.replicate k 20 ++ (a ++ τ)) (d + k)) (hd : d ≤ 9) (h0 : τ.head? ≠ some 20) (h1 : τ.head? ≠ some 21) (h2 : p.toInt = 22 → τ.head? ≠ some 22) (ha : ∀ x, x ∈ a → x = 21 ∨ (x = 22 ∧ p.toInt = 22)) : ∃ w1 w2, f_X12_nots_85 w = w1 ∧ f_X12_joins_85 w1 p = w2 ∧ Sq u w1 ∧ WS u w2 τ d := by
  obtain ⟨s1, s2, s3, s4, s5, s6⟩ := h
  have o20 := s1.2.1.2.2
  have hh : (a ++ τ).head? ≠ some 20 := by
    cases a with
    | nil => exact h0
    | cons x a =>
      intro q
      have q : x = 20 := Option.some.inj q
      rcases ha x (by simp) with z | ⟨z, -⟩ <;> omega
  obtain ⟨w1, y1, y2, y3, y4, y5, y6, y7⟩ := nots_sp (d := d) hh s2 s4 hd s5 (by omega)
  obtain ⟨w2, z1, z2, z3, z4, z5, z6, z7⟩ := joins_sp (p := p) h1 h2 ha y3 y6 (by omega)
  refine ⟨w1, w2, y1, z1, s1.r y2, s1.r (y2.tr z2), z3, ?_, ?_, z6, by omega⟩
  · rw [z5, y5]; exact s3
  · rw [z4]; exact y4
theorem psh_top {v : ac_U} {σ : List Nat} (h : Sk v σ) (hl : (σ.length : Int) ≤ 100) : (v.1 85 41).toNatClampNeg = σ.length ∧ (v.1 85 41 + 1).toInt = ((σ.length + 1 : Nat) : Int) := by
  have h1 := h.1
  have h2 := i_cl (x := v.1 85 41) (by omega)
  have h3 := inc_i (x := v.1 85 41) (by omega)
  exact ⟨by omega, by omega⟩
theorem Cd_len {w : ac_U} {σ : List Nat} (h : 0 ≤ (w.1 85 39).toInt) : (σ.length : Int) ≤ Cd w σ := by unfold Cd; omega
theorem WS.push {u w : ac_U} {σ : List Nat} {d x' : Nat} {x : Int32} (h : WS u w σ d) (hx : x.toInt = (x' : Int)) : OS (f_X10_readNext_1 u) (f_X12_next_85 (pshB w x)) (x' :: σ) d := by
  obtain ⟨s1, s2, s3, s4, s5, s6⟩ := h
  have o20 := s1.2.1.2.2
  have hl := Cd_len (σ := σ) s5
  obtain ⟨t1, t2⟩ := psh_top s2 (by omega)
  have hrs : RS w (pshB w x) := (RS.rf.q.p (by omega)).p (by omega)
  have k41 : (pshB w x).1 85 41 = w.1 85 41 + 1 := by unfold pshB; rw [pI_k (by decide), pI_s]
  have k43 : (pshB w x).1 85 43 = 0 := by unfold pshB; rw [pI_s]
  have k42 : (pshB w x).1 85 42 = w.1 85 42 := by unfold pshB; rw [pI_k (by decide), pI_k (by decide), pI_c (by decide)]
  have k39 : (pshB w x).1 85 39 = w.1 85 39 := by unfold pshB; rw [pI_k (by decide), pI_k (by decide), pI_c (by decide)]
  have k100 : (pshB w x).1 100 σ.length = x := by unfold pshB; rw [pI_c (by decide), pI_c (by decide), t1, pI_s]
  have j100 : ∀ i, i < σ.length → (pshB w x).1 100 i = w.1 100 i := fun i hi => by unfold pshB; rw [pI_c (by decide), pI_c (by decide), pI_k (by omega)]
  have hSk : Sk (pshB w x) (x' :: σ) := ⟨by rw [k41, t2, List.length_cons], by rw [k100]; exact hx, stP_cg σ j100 s2.2⟩
  obtain ⟨n1, n2, n3⟩ := (s1.r hrs).nx
  refine ⟨n1, n3.sk hSk, ?_, ?_, ?_, ?_⟩
  · rw [n3.1 85 43 (by omega)]; exact k43
  · rw [n3.1 85 42 (by omega), k42]; exact s4
  · rw [n3.1 85 39 (by omega), k39]; exact s5
  · rw [n3.cd, n2.o]
    unfold Cd at s6 ⊢
    rw [k39, List.length_cons]
    omega
theorem Tk.st {u w : ac_U} (h : Tk u w) : (w.1 85 11).toInt = 0 ↔ (u.1 1 6).toInt = 0 := by
  obtain ⟨-, h | h | h | h | h⟩ := h
  · omega
  · omega
  · omega
  · have h1 := h.1; unfold isSg at h1; omega
  · obtain ⟨h1, n, -, d1, d2⟩ := h
    refine ⟨fun q => by omega, fun q => ?_⟩
    exfalso
    by_cases hall : ∀ j : Nat, j < 27 → n ≠ toldN j
    · have := d2 hall; omega
    · obtain ⟨j, hj⟩ := Classical.not_forall.mp hall
      have hj1 : j < 27 := Classical.byContradiction (fun a => hj (fun b => absurd b a))
      have hj2 : n = toldN j := Classical.byContradiction (fun a => hj (fun _ => a))
      have := d1 j hj1 hj2
      omega
/-- AND behind an operand -/
theorem ws_and {u w w0 : ac_U} {k d : Nat} {a σ : List Nat} (h : WS u w (List.replicate k 20 ++ (a ++ σ)) (d + k)) (hd : d ≤ 9) (ha : a = [] ∨ a = [21]) (h0 : σ.head? ≠ some 20) (h1 : σ.head? ≠ some 21) (ht : (u.1 1 6).toInt = 115) : ∃ w4, Rc w0 w w4 ∧ OS (f_X10_readNext_1 u) w4 (21 :: σ) d := by
  obtain ⟨w1, w2, e1, e2, q1, q2⟩ := h.pops (p := (21 : Int32)) hd h0 h1 (fun q => absurd q (by decide)) (fun x hx => by
    rcases ha with z | z <;> subst z
    · simp at hx
    · simp at hx; exact Or.inl hx)
  have hT1 := q1.1.2.2.2
  have hT2 := q2.1.1.2.2.2
  have hT := h.1.1.2.2.2
  have e := bh_and (w := w) (by rw [e1]; exact (ws15 hT1).1 ht) (by rw [e1, e2]; exact (ws15 hT2).1 ht)
  rw [e1, e2] at e
  have hO := q2.push (x := (21 : Int32)) (x' := 21) (by decide)
  have hst : ¬ (w.1 85 11).toInt = 0 := fun z => by have := (hT.st).mp z; omega
  refine ⟨_, rc_bh h.2.2.1 hst e ?_, hO⟩
  have m1 := ms_W h
  have m2 := ms_O hO
  have hn := (q2.1.nx).2.1.o
  have hl : (List.replicate k 20 ++ (a ++ σ)).length = k + (a.length + σ.length) := by simp
  rw [hl] at m1
  rw [hn, List.length_cons] at m2
  omega
/-- OR behind an operand -/
theorem ws_or {u w w0 : ac_U} {k d : Nat} {a σ : List Nat} (h : WS u w (List.replicate k 20 ++ (a ++ σ)) (d + k)) (hd : d ≤ 9) (ha : ∀ x, x ∈ a → x = 21 ∨ x = 22) (h0 : σ.head? ≠ some 20) (h1 : σ.head? ≠ some 21) (h2 : σ.head? ≠ some 22) (ht : (u.1 1 6).toInt = 114) : ∃ w4, Rc w0 w w4 ∧ OS (f_X10_readNext_1 u) w4 (22 :: σ) d := by
  obtain ⟨w1, w2, e1, e2, q1, q2⟩ := h.pops (p := (22 : Int32)) hd h0 h1 (fun _ => h2) (fun x hx => (ha x hx).imp id (fun z => ⟨z, by decide⟩))
  have hT1 := q1.1.2.2.2
  have hT2 := q2.1.1.2.2.2
  have hT := h.1.1.2.2.2
  have e := bh_or (w := w) (by rw [e1]; exact (ws15 hT1).2 (by omega)) (by rw [e1]; exact (ws14 hT1).1 ht) (by rw [e1, e2]; exact (ws15 hT2).2 (by omega))
  rw [e1, e2] at e
  have hO := q2.push (x := (22 : Int32)) (x' := 22) (by decide)
  have hst : ¬ (w.1 85 11).toInt = 0 := fun z => by have := (hT.st).mp z; omega
  refine ⟨_, rc_bh h.2.2.1 hst e ?_, hO⟩
  have m1 := ms_W h
  have m2 := ms_O hO
  have hn := (q2.1.nx).2.1.o
  have hl : (List.replicate k 20 ++ (a ++ σ)).length = k + (a.length + σ.length) := by simp
  rw [hl] at m1
  rw [hn, List.length_cons] at m2
  omega
theorem fail_Ft {u w : ac_U} {p : Int32} (hT : Tk u w) : Ft (f_X10_fail_1 u p).1 (f_X12_bad_85 w p).1 := ft_mk hT.1
/-- neither AND nor OR: the bracket is closed, or both find the fault -/
theorem ws_end {u w w0 : ac_U} {k d : Nat} {a σ : List Nat} (h : WS u w (List.replicate k 20 ++ (a ++ 23 :: σ)) (d + 1 + k)) (hd : d ≤ 8) (ha : ∀ x, x ∈ a → x = 21 ∨ x = 22) (ht1 : (u.1 1 6).toInt ≠ 115) (ht2 : (u.1 1 6).toInt ≠ 114) : ((u.1 1 6).toInt = 41 → ∃ w4, Rc w0 w w4 ∧ WS (f_X10_readNext_1 u) w4 σ d) ∧ ((u.1 1 6).toInt ≠ 41 → Fl w0 w (f_X10_fail_1 u (1 : Int32)).1) := by
  obtain ⟨w1, w2, e1, e2, q1, q2⟩ := h.pops (d := d + 1) (p := (22 : Int32)) (by omega) (by simp) (by simp) (fun _ => by simp) (fun x hx => (ha x hx).imp id (fun z => ⟨z, by decide⟩))
  have hT1 := q1.1.2.2.2
  have hT2 := q2.1.1.2.2.2
  have hT := h.1.1.2.2.2
  have a41 : (41 : Int32).toInt = 41 := by decide
  have hsg := sg_k hT2 (41 : Int32) (by unfold isSg; omega)
  have e := bh_no (w := w) (by rw [e1]; exact (ws15 hT1).2 ht1) (by rw [e1]; exact (ws14 hT1).2 ht2)
  rw [e1, e2] at e
  have m1 := ms_W h
  have o20 := h.1.2.1.2.2
  have hl : (List.replicate k 20 ++ (a ++ 23 :: σ)).length = k + (a.length + (σ.length + 1)) := by simp
  rw [hl] at m1
  obtain ⟨s1, s2, s3, s4, s5, s6⟩ := q2
  have hlen := Cd_len (σ := 23 :: σ) s5
  rw [List.length_cons] at hlen
  have htop := s2.1
  rw [List.length_cons] at htop
  refine ⟨fun ht => ?_, fun ht => ?_⟩
  · rw [hsg.1 (by omega), if_neg n1', if_pos (by omega)] at e
    have hst : ¬ (w.1 85 11).toInt = 0 := fun z => by have := (hT.st).mp z; omega
    obtain ⟨t1, t2⟩ := top_1 htop (by omega)
    have hd1 : (w2.1 85 42 - 1).toInt = (d : Int) := by rw [i_sub s4 (by decide : (1 : Int32).toInt = 1) (by omega)]; omega
    have hrs : RS w2 (pI (pI w2 85 41 (w2.1 85 41 - 1)) 85 42 (w2.1 85 42 - 1)) := (RS.rf.p (by omega)).p (by omega)
    have k41 : (pI (pI w2 85 41 (w2.1 85 41 - 1)) 85 42 (w2.1 85 42 - 1)).1 85 41 = w2.1 85 41 - 1 := by rw [pI_k (by decide), pI_s]
    have k42 : (pI (pI w2 85 41 (w2.1 85 41 - 1)) 85 42 (w2.1 85 42 - 1)).1 85 42 = w2.1 85 42 - 1 := pI_s
    have k43 : (pI (pI w2 85 41 (w2.1 85 41 - 1)) 85 42 (w2.1 85 42 - 1)).1 85 43 = w2.1 85 43 := by rw [pI_k (by decide), pI_k (by decide)]
    have k39 : (pI (pI w2 85 41 (w2.1 85 41 - 1)) 85 42 (w2.1 85 42 - 1)).1 85 39 = w2.1 85 39 := by rw [pI_k (by decide), pI_k (by decide)]
    have k100 : ∀ i, (pI (pI w2 85 41 (w2.1 85 41 - 1)) 85 42 (w2.1 85 42 - 1)).1 100 i = w2.1 100 i := fun i => by rw [pI_c (by decide), pI_c (by decide)]
    generalize pI (pI w2 85 41 (w2.1 85 41 - 1)) 85 42 (w2.1 85 42 - 1) = v at *
    obtain ⟨n1, n2, n3⟩ := (s1.r hrs).nx
    have hW : WS (f_X10_readNext_1 u) (f_X12_next_85 v) σ d := by
      refine ⟨n1, n3.sk ⟨by rw [k41]; exact t1, stP_cg σ (fun i _ => k100 i) s2.2.2⟩, ?_, ?_, ?_, ?_⟩
      · rw [n3.1 85 43 (by omega), k43]; exact s3
      · rw [n3.1 85 42 (by omega), k42]; exact hd1
      · rw [n3.1 85 39 (by omega), k39]; exact s5
      · rw [n3.cd, n2.o]
        unfold Cd at s6 ⊢
        rw [List.length_cons] at s6
        rw [k39]
        omega
    refine ⟨_, rc_bh h.2.2.1 hst e ?_, hW⟩
    have m2 := ms_W hW
    rw [n2.o] at m2
    omega
  · rw [hsg.2 (by omega), if_pos t0i] at e
    by_cases hst : (w.1 85 11).toInt = 0
    · refine ⟨1, (f_X12_bad_85 w2 (1 : Int32)).1, by omega, fun n => ?_, fail_Ft hT2⟩
      rw [lp_st h.2.2.1 hst, e1, e2]
      exact if_neg (by omega)
    · exact fl_bh h.2.2.1 hst e (by omega) (fail_Ft hT2)

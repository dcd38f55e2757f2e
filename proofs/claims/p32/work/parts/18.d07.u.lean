/-! Pure: house() of the class and of the reference. -/
theorem cp_o {u : ac_U} {c0 c1 a b n c : Nat} (h : c ≠ c1) : (cpI u c0 c1 a b n).1 c = u.1 c := by
  show (if c = c1 then _ else u.1 c) = _
  rw [if_neg h]
theorem cp_s {u : ac_U} {c0 c1 n k : Nat} (hk : k < n) : (cpI u c0 c1 0 0 n).1 c1 k = u.1 c0 k := by
  show (if c1 = c1 then va_cpy (u.1 c0) (u.1 c1) 0 0 n else u.1 c1) k = _
  rw [if_pos rfl]
  show (if 0 ≤ k ∧ k < 0 + n then u.1 c0 (0 + (k - 0)) else u.1 c1 k) = _
  rw [if_pos (by omega), Nat.zero_add, Nat.sub_zero]
theorem N0 : (0 : Int32).toNatClampNeg = 0 := by decide
theorem N8 : (8 : Int32).toNatClampNeg = 8 := by decide
theorem N6 : (6 : Int32).toNatClampNeg = 6 := by decide
theorem N4 : (4 : Int32).toNatClampNeg = 4 := by decide
theorem N64 : (64 : Int32).toNatClampNeg = 64 := by decide
theorem N26 : (26 : Int32).toNatClampNeg = 26 := by decide
theorem copyC (x : ac_U) : (∀ j, j < 8 → (f_X2_copyFrom_4_13 x).1 4 j = x.1 13 j) ∧ (∀ k, k < 8 → (f_X2_copyFrom_4_13 x).1 5 k = x.1 14 k) ∧ (∀ k, k < 6 → (f_X2_copyFrom_4_13 x).1 6 k = x.1 15 k) ∧ (∀ k, k < 8 → (f_X2_copyFrom_4_13 x).1 9 k = x.1 18 k) := by
  obtain ⟨Y, hY⟩ : ∃ Y, Y = pI (pI (pI (pI (pI (pI (pI (pI (pI x 4 0 (x.1 13 0)) 4 1 (x.1 13 1)) 4 2 (x.1 13 2)) 4 3 (x.1 13 3)) 4 4 (x.1 13 4)) 4 5 (x.1 13 5)) 4 6 (x.1 13 6)) 4 7 (x.1 13 7)) 4 8 (x.1 13 8) := ⟨_, rfl⟩
  have e : f_X2_copyFrom_4_13 x = cpI (cpI (cpL (cpI (cpI (cpI (cpI (cpI Y 14 5 0 0 8) 15 6 0 0 6) 16 7 0 0 4) 17 8 0 0 64) 18 9 0 0 8) 19 10 0 0 26) 20 11 0 0 26) 21 12 0 0 26 := by
    rw [hY]
    unfold f_X2_copyFrom_4_13
    rw [N0, N8, N6, N4, N64, N26]
  have y : ∀ c, c ≠ 4 → Y.1 c = x.1 c := fun c hc => by
    rw [hY]
    funext k
    rw [pI_c hc, pI_c hc, pI_c hc, pI_c hc, pI_c hc, pI_c hc, pI_c hc, pI_c hc, pI_c hc]
  rw [e]
  refine ⟨fun j hj => ?_, fun k hk => ?_, fun k hk => ?_, fun k hk => ?_⟩
  · rw [cp_o (by decide), cp_o (by decide)]
    show (cpI (cpI (cpI (cpI (cpI Y 14 5 0 0 8) 15 6 0 0 6) 16 7 0 0 4) 17 8 0 0 64) 18 9 0 0 8).1 4 j = _
    rw [cp_o (by decide), cp_o (by decide), cp_o (by decide), cp_o (by decide), cp_o (by decide), hY]
    rcases (show j = 0 ∨ j = 1 ∨ j = 2 ∨ j = 3 ∨ j = 4 ∨ j = 5 ∨ j = 6 ∨ j = 7 by omega) with q | q | q | q | q | q | q | q <;> subst q
    · rw [pI_k (by decide), pI_k (by decide), pI_k (by decide), pI_k (by decide), pI_k (by decide), pI_k (by decide), pI_k (by decide), pI_k (by decide), pI_s]
    · rw [pI_k (by decide), pI_k (by decide), pI_k (by decide), pI_k (by decide), pI_k (by decide), pI_k (by decide), pI_k (by decide), pI_s]
    · rw [pI_k (by decide), pI_k (by decide), pI_k (by decide), pI_k (by decide), pI_k (by decide), pI_k (by decide), pI_s]
    · rw [pI_k (by decide), pI_k (by decide), pI_k (by decide), pI_k (by decide), pI_k (by decide), pI_s]
    · rw [pI_k (by decide), pI_k (by decide), pI_k (by decide), pI_k (by decide), pI_s]
    · rw [pI_k (by decide), pI_k (by decide), pI_k (by decide), pI_s]
    · rw [pI_k (by decide), pI_k (by decide), pI_s]
    · rw [pI_k (by decide), pI_s]
  · rw [cp_o (by decide), cp_o (by decide)]
    show (cpI (cpI (cpI (cpI (cpI Y 14 5 0 0 8) 15 6 0 0 6) 16 7 0 0 4) 17 8 0 0 64) 18 9 0 0 8).1 5 k = _
    rw [cp_o (by decide), cp_o (by decide), cp_o (by decide), cp_o (by decide), cp_s hk, y 14 (by decide)]
  · rw [cp_o (by decide), cp_o (by decide)]
    show (cpI (cpI (cpI (cpI (cpI Y 14 5 0 0 8) 15 6 0 0 6) 16 7 0 0 4) 17 8 0 0 64) 18 9 0 0 8).1 6 k = _
    rw [cp_o (by decide), cp_o (by decide), cp_o (by decide), cp_s hk, cp_o (by decide), y 15 (by decide)]
  · rw [cp_o (by decide), cp_o (by decide)]
    show (cpI (cpI (cpI (cpI (cpI Y 14 5 0 0 8) 15 6 0 0 6) 16 7 0 0 4) 17 8 0 0 64) 18 9 0 0 8).1 9 k = _
    rw [cp_s hk, cp_o (by decide), cp_o (by decide), cp_o (by decide), cp_o (by decide), y 18 (by decide)]
/-- the house of the class and that of the reference -/
def HE (u w : ac_U) : Prop := (∀ j, j < 8 → u.1 4 j = w.1 87 j) ∧ (∀ k, k < 8 → u.1 5 k = w.1 87 (8 + k)) ∧ (∀ f : Nat, (f : Int) < (u.1 4 3).toInt → u.1 6 f = w.1 87 (16 + f)) ∧ (∀ a b : Int32, 0 ≤ a.toInt → a.toInt < 8 → 0 ≤ b.toInt → b.toInt < 8 → (vbit (u.1 9 b.toNatClampNeg) a ↔ ∃ i : Nat, (i : Int) < (u.1 4 7).toInt ∧ w.1 87 (90 + i) = a ∧ w.1 87 (98 + i) = b))
theorem S0.l22 {u w : ac_U} (h : S0 u w) {x : Int32} : S0 (pI u 22 3 x) w :=
  h.mk2 (h.1.mk2 rfl rfl rfl rfl rfl rfl (h.1.2.2.2.2.to rfl rfl rfl rfl rfl rfl (pI_k (by decide)) rfl rfl rfl rfl)) rfl rfl rfl rfl
/-- both readers stand before the first token of a house -/
def uA (u : ac_U) : ac_U := pI (pI (pI (pI (pI (pI (f_X2_clear_13 u) 22 4 (0 : Int32)) 1 3 (900 : Int32)) 1 4 (0 : Int32)) 1 5 (0 : Int32)) 1 10 (0 : Int32)) 1 11 (0 : Int32)
def wA (w : ac_U) : ac_U := pI (pI (pI (f_X12_taken_85 (pI w 85 0 (0 : Int32)) (900 : Int32)) 85 15 (0 : Int32)) 85 19 (0 : Int32)) 85 20 (0 : Int32)
theorem rw_eq (u : ac_U) : f_X3_readWhole_22 u = K_X3_readWhole_22_29 u 943 (pI (f_X10_readNext_1 (uA u)) 22 3 (0 : Int32)) (1 : Int32) := rfl
theorem hs_eq (w : ac_U) : f_X12_house_85 w = K_X12_house_85_29 w 108 (wA w) (0 : Int32) := rfl
theorem begin_sim {u w v : ac_U} (hb : ∀ k, u.1 2 k = w.1 86 k) (hl : u.1 1 2 = w.1 85 2) (hr : InR u) (hA : TdA u) (hB : RsB w) (v2 : ∀ k : Nat, k < 106 → v.1 88 k = 0) (v4 : ∀ c k, c ≠ 88 → v.1 c k = (wA w).1 c k) (v5 : v.2 = (wA w).2) : S0 (f_X10_readNext_1 (uA u)) (f_X12_next_85 (pI v 88 0 (24 : Int32))) ∧ RF (pI v 88 0 (24 : Int32)) (f_X12_next_85 (pI v 88 0 (24 : Int32))) ∧ CF (uA u) (f_X10_readNext_1 (uA u)) := by
  obtain ⟨c0, c1, c2, c3, c4⟩ := clear_sp u
  have fr := q_X2_clear_13 u
  have x13 : (uA u).1 13 = (f_X2_clear_13 u).1 13 := rfl
  have x14 : (uA u).1 14 = (f_X2_clear_13 u).1 14 := rfl
  have x18 : (uA u).1 18 = (f_X2_clear_13 u).1 18 := rfl
  have x224 : (uA u).1 22 4 = 0 := rfl
  have xb : ∀ k, (uA u).1 2 k = u.1 2 k := fun k => fr 2 k rfl
  have xl : (uA u).1 1 2 = u.1 1 2 := fr 1 2 rfl
  have x13' : (uA u).1 1 3 = 900 := rfl
  have x14' : (uA u).1 1 4 = 0 := rfl
  have w85 : ∀ k, (pI v 88 0 (24 : Int32)).1 85 k = (wA w).1 85 k := fun k => (pI_c (by decide)).trans (v4 85 k (by decide))
  have w3 : (wA w).1 85 3 = w.1 85 2 := rfl
  have w5 : (wA w).1 85 5 = 900 := rfl
  have w4 : (wA w).1 85 4 = 0 := rfl
  have w20 : (wA w).1 85 20 = 0 := rfl
  have w86 : ∀ k, (pI v 88 0 (24 : Int32)).1 86 k = w.1 86 k := fun k => (pI_c (by decide)).trans ((v4 86 k (by decide)).trans rfl)
  have z13 : ∀ j, 1 ≤ j → j ≤ 8 → (uA u).1 13 j = 0 := fun j h1 h2 => by rw [x13]; exact c1 j h1 h2
  have hSm : Sm (uA u) (pI v 88 0 (24 : Int32)) := by
    refine ⟨⟨?_, ?_, fun k => ?_⟩, ⟨?_, fun k => ?_⟩, fun k hk => ?_, fun k hk => ?_, ?_, ?_, fun k hk => ?_, fun f hf => ?_, fun a b a1 a2 b1 b2 => ?_, ⟨fun _ _ => 0, fun s hs i hi => ?_, fun k hk => ?_, fun s s' i i' hs hs' hi => ?_⟩, ?_, Or.inl x224⟩
    · rw [xl, w85, w3]; exact hl
    · rw [x13', w85, w5]
    · rw [xb, w86]; exact hb k
    · rw [xl]; exact hr.1
    · rw [xb]; exact hr.2 k
    · exact hA k hk
    · exact hB k hk
    · intro j hj
      by_cases e : j = 0
      · subst e; rw [x13, c0, pI_s]
      · rw [z13 j (by omega) (by omega), pI_k e, v2 j (by omega)]
    · unfold Cp
      rw [z13 1 (by decide) (by decide), z13 2 (by decide) (by decide), z13 3 (by decide) (by decide), z13 4 (by decide) (by decide), z13 5 (by decide) (by decide), z13 6 (by decide) (by decide), z13 7 (by decide) (by decide), z13 8 (by decide) (by decide), t0i]
      omega
    · rw [x14, c2 k hk, pI_k (by omega), v2 _ (by omega)]
    · rw [z13 3 (by decide) (by decide), t0i] at hf
      omega
    · rw [z13 7 (by decide) (by decide), t0i]
      have hB2 := i_cl (x := b) b1
      rw [x18, c3 _ (by omega)]
      refine ⟨fun q => ?_, fun ⟨i, q, _⟩ => by omega⟩
      have hz : ∀ a : Nat, a < 8 → ¬ vbit (0 : Int32) (nI a) := by unfold vbit; decide +kernel
      have hA2 := i_cl (x := a) a1
      have := hz a.toNatClampNeg (by omega)
      rw [← nI_oI a1] at this
      exact absurd q this
    · have := cp_k hs
      rw [z13 (cp s) (by omega) (by omega), t0i] at hi
      omega
    · rw [z13 8 (by decide) (by decide), t0i] at hk
      omega
    · have := cp_k hs
      rw [z13 (cp s) (by omega) (by omega), t0i] at hi
      omega
    · rw [x224, w85, w20]
  have hAt : At (uA u) (pI v 88 0 (24 : Int32)) := by
    unfold At
    rw [x14', w85, w4, t0i]
    exact ⟨rfl, by omega, by omega⟩
  obtain ⟨f1, f2, f3, f4⟩ := lex hSm.2.2.1 ⟨hSm.1, hSm.2.1, hAt⟩
  exact ⟨⟨hSm.to f1.g f2.g, f3, f4⟩, f2, f1⟩
set_option maxHeartbeats 4000000 in
theorem house_sim {u w : ac_U} (hb : ∀ k, u.1 2 k = w.1 86 k) (hl : u.1 1 2 = w.1 85 2) (hr : InR u) (hA : TdA u) (hB : RsB w) (hE : HE u w) : (f_X11_house_0 u).2 = (f_X12_house_85 w).2 ∧ HE (f_X11_house_0 u).1 (f_X12_house_85 w).1 := by
  obtain ⟨v, v1, v2, -, v4, v5⟩ := zero_sp w 106 108 (wA w) (0 : Int32) (by decide) (by decide) (by decide)
  have v2 : ∀ k : Nat, k < 106 → v.1 88 k = 0 := fun k hk => v2 k (by omega) hk
  obtain ⟨s0, s1, s2⟩ := begin_sim hb hl hr hA hB v2 v4 v5
  have hrf : f_X12_house_85 w = K_X12_house_85_60 w 56 (f_X12_next_85 (pI v 88 0 (24 : Int32))) := (hs_eq w).trans v1
  have hz : ∀ j, 1 ≤ j → j ≤ 8 → (f_X10_readNext_1 (uA u)).1 13 j = 0 := fun j h1 h2 => by
    rw [s2.1 13 j (by omega)]; exact (clear_sp u).2.1 j h1 h2
  have hz22 : (f_X10_readNext_1 (uA u)).1 22 4 = 0 := (s2.1 22 4 (by omega)).trans rfl
  have g13 : ∀ k, (pI (f_X10_readNext_1 (uA u)) 22 3 (0 : Int32)).1 13 k = (f_X10_readNext_1 (uA u)).1 13 k := fun k => pI_c (by decide)
  have g22 : (pI (f_X10_readNext_1 (uA u)) 22 3 (0 : Int32)).1 22 4 = (f_X10_readNext_1 (uA u)).1 22 4 := pI_k (by decide)
  have htol : tol (pI (f_X10_readNext_1 (uA u)) 22 3 (0 : Int32)) = 0 := by
    unfold tol
    rw [g13 1, g13 2, g13 3, g13 4, g13 5, g13 6, g13 7, g22, hz 1 (by decide) (by decide), hz 2 (by decide) (by decide), hz 3 (by decide) (by decide), hz 4 (by decide) (by decide), hz 5 (by decide) (by decide), hz 6 (by decide) (by decide), hz 7 (by decide) (by decide), hz22, t0i]
    omega
  have hl3 : (pI (f_X10_readNext_1 (uA u)) 22 3 (0 : Int32)).1 22 3 = (f_X12_next_85 (pI v 88 0 (24 : Int32))).1 85 19 := by
    rw [pI_s, s1.1 85 19 (by omega), pI_c (by decide), v4 85 19 (by decide)]; rfl
  have hlp := loop_sim u w 56 943 (pI (f_X10_readNext_1 (uA u)) 22 3 (0 : Int32)) _ s0.l22 hl3 (by rw [htol, pI_s, t0i]) (by rw [htol]; decide) (by decide)
  rw [← rw_eq, ← hrf] at hlp
  have h87 : ∀ k, (f_X12_next_85 (pI v 88 0 (24 : Int32))).1 87 k = w.1 87 k := fun k => by
    rw [s1.1 87 k (by omega), pI_c (by decide), v4 87 k (by decide)]; rfl
  have hfr := q_X3_readWhole_22 u
  have hcl : f_X11_house_0 u = if (f_X3_readWhole_22 u).2.toInt ≠ 0 then (f_X8_clear_43 (f_X6_begin_24 (f_X2_copyFrom_4_13 (pI (f_X3_readWhole_22 u).1 1 2 (0 : Int32)))), (f_X8_clear_43 (f_X6_begin_24 (f_X2_copyFrom_4_13 (pI (f_X3_readWhole_22 u).1 1 2 (0 : Int32))))).1 22 3) else (pI (f_X3_readWhole_22 u).1 1 2 (0 : Int32), (-1 : Int32) - (f_X3_readWhole_22 u).1.1 1 11) := rfl
  rw [hcl]
  generalize f_X3_readWhole_22 u = q at hlp hfr ⊢
  generalize f_X12_house_85 w = r at hlp ⊢
  rcases hlp with ⟨p1, w', p2, p3, p4, p5⟩ | ⟨p1, w', p2, p3, p4, p5⟩
  · rw [p1, if_pos n1]
    obtain ⟨x, x1, x2, -, x4, -⟩ := copy_sp w 657 659 w' (0 : Int32) (by decide) (by decide) (by decide)
    obtain ⟨y, y1, y2⟩ := names_sp w 26 28 x (0 : Int32) (by decide) (by decide) (by decide)
    obtain ⟨z, z1, z2⟩ := at_sp w 4 6 y (0 : Int32) (by decide) (by decide) (by decide)
    rw [p5, x1, y1, z1]
    have e87 : ∀ k : Nat, k < 106 → z.1 87 k = w'.1 88 k := fun k hk => by rw [z2 k hk, y2, x2 k (by omega) hk]
    obtain ⟨k1, k2, k3, k4⟩ := copyC (pI q.1 1 2 (0 : Int32))
    have g : ∀ c k, c = 4 ∨ c = 5 ∨ c = 6 ∨ c = 9 ∨ c = 22 → (f_X8_clear_43 (f_X6_begin_24 (f_X2_copyFrom_4_13 (pI q.1 1 2 (0 : Int32))))).1 c k = (f_X2_copyFrom_4_13 (pI q.1 1 2 (0 : Int32))).1 c k := fun c k hc => by
      rcases hc with e | e | e | e | e <;> subst e
      · exact (q_X8_clear_43 _ 4 k rfl).trans (q_X6_begin_24 _ 4 k rfl)
      · exact (q_X8_clear_43 _ 5 k rfl).trans (q_X6_begin_24 _ 5 k rfl)
      · exact (q_X8_clear_43 _ 6 k rfl).trans (q_X6_begin_24 _ 6 k rfl)
      · exact (q_X8_clear_43 _ 9 k rfl).trans (q_X6_begin_24 _ 9 k rfl)
      · exact (q_X8_clear_43 _ 22 k rfl).trans (q_X6_begin_24 _ 22 k rfl)
    have hd := p2.1.2.2.2.2
    have hcp := hd.2.1
    unfold Cp at hcp
    have E4 : ∀ j, j < 8 → (f_X8_clear_43 (f_X6_begin_24 (f_X2_copyFrom_4_13 (pI q.1 1 2 (0 : Int32))))).1 4 j = q.1.1 13 j := fun j hj => by rw [g 4 j (by omega), k1 j hj, pI_c (by decide)]
    have E5 : ∀ k, k < 8 → (f_X8_clear_43 (f_X6_begin_24 (f_X2_copyFrom_4_13 (pI q.1 1 2 (0 : Int32))))).1 5 k = q.1.1 14 k := fun k hk => by rw [g 5 k (by omega), k2 k hk, pI_c (by decide)]
    have E6 : ∀ k, k < 6 → (f_X8_clear_43 (f_X6_begin_24 (f_X2_copyFrom_4_13 (pI q.1 1 2 (0 : Int32))))).1 6 k = q.1.1 15 k := fun k hk => by rw [g 6 k (by omega), k3 k hk, pI_c (by decide)]
    have E9 : ∀ k, k < 8 → (f_X8_clear_43 (f_X6_begin_24 (f_X2_copyFrom_4_13 (pI q.1 1 2 (0 : Int32))))).1 9 k = q.1.1 18 k := fun k hk => by rw [g 9 k (by omega), k4 k hk, pI_c (by decide)]
    have E22 : (f_X8_clear_43 (f_X6_begin_24 (f_X2_copyFrom_4_13 (pI q.1 1 2 (0 : Int32))))).1 22 3 = q.1.1 22 3 := by rw [g 22 3 (by omega), q_X2_copyFrom_4_13 _ 22 3 rfl, pI_c (by decide)]
    clear g k1 k2 k3 k4
    generalize f_X8_clear_43 (f_X6_begin_24 (f_X2_copyFrom_4_13 (pI q.1 1 2 (0 : Int32)))) = V at *
    refine ⟨?_, fun j hj => ?_, fun k hk => ?_, fun f hf => ?_, fun a b a1 a2 b1 b2 => ?_⟩
    · show V.1 22 3 = y.1 85 19
      rw [E22, p3, y2, x4 85 19 (by decide)]
    · show V.1 4 j = z.1 87 j
      rw [E4 j hj, e87 j (by omega)]
      exact hd.1 j hj
    · show V.1 5 k = z.1 87 (8 + k)
      rw [E5 k hk, e87 _ (by omega)]
      exact hd.2.2.1 k hk
    · have hf : (f : Int) < (V.1 4 3).toInt := hf
      rw [E4 3 (by decide)] at hf
      show V.1 6 f = z.1 87 (16 + f)
      rw [E6 f (by omega), e87 _ (by omega)]
      exact hd.2.2.2.1 f hf
    · have hB' := i_cl (x := b) b1
      show vbit (V.1 9 b.toNatClampNeg) a ↔ ∃ i : Nat, (i : Int) < (V.1 4 7).toInt ∧ z.1 87 (90 + i) = a ∧ z.1 87 (98 + i) = b
      rw [E9 _ (by omega), E4 7 (by decide)]
      refine (hd.2.2.2.2.1 a b a1 a2 b1 b2).trans ⟨fun ⟨i, i1, i2, i3⟩ => ⟨i, i1, ?_, ?_⟩, fun ⟨i, i1, i2, i3⟩ => ⟨i, i1, ?_, ?_⟩⟩
      · rw [e87 _ (by omega)]; exact i2
      · rw [e87 _ (by omega)]; exact i3
      · rw [e87 _ (by omega)] at i2; exact i2
      · rw [e87 _ (by omega)] at i3; exact i3
  · rw [p1, if_neg n0, p5]
    have hc : ∀ c k, c = 4 ∨ c = 5 ∨ c = 6 ∨ c = 9 → (pI q.1 1 2 (0 : Int32)).1 c k = u.1 c k := fun c k hc => by
      rw [pI_c (by omega)]
      rcases hc with e | e | e | e <;> subst e
      · exact hfr 4 k rfl
      · exact hfr 5 k rfl
      · exact hfr 6 k rfl
      · exact hfr 9 k rfl
    have hw : ∀ k, w'.1 87 k = w.1 87 k := fun k => (p4 k).trans (h87 k)
    refine ⟨?_, fun j hj => ?_, fun k hk => ?_, fun f hf => ?_, fun a b a1 a2 b1 b2 => ?_⟩
    · show (-1 : Int32) - q.1.1 1 11 = (-1 : Int32) - w'.1 85 16
      rw [p3]
    · show (pI q.1 1 2 (0 : Int32)).1 4 j = w'.1 87 j
      rw [hc 4 j (by omega), hw]; exact hE.1 j hj
    · show (pI q.1 1 2 (0 : Int32)).1 5 k = w'.1 87 (8 + k)
      rw [hc 5 k (by omega), hw]; exact hE.2.1 k hk
    · have hf : (f : Int) < ((pI q.1 1 2 (0 : Int32)).1 4 3).toInt := hf
      rw [hc 4 3 (by omega)] at hf
      show (pI q.1 1 2 (0 : Int32)).1 6 f = w'.1 87 (16 + f)
      rw [hc 6 f (by omega), hw]; exact hE.2.2.1 f hf
    · show vbit ((pI q.1 1 2 (0 : Int32)).1 9 b.toNatClampNeg) a ↔ ∃ i : Nat, (i : Int) < ((pI q.1 1 2 (0 : Int32)).1 4 7).toInt ∧ w'.1 87 (90 + i) = a ∧ w'.1 87 (98 + i) = b
      rw [hc 9 _ (by omega), hc 4 7 (by omega)]
      simp only [hw]
      exact hE.2.2.2 a b a1 a2 b1 b2

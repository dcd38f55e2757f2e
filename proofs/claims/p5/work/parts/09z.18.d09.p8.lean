/-! The kinds of the faults behind house(): alike. -/
theorem at_15 (w0 : ac_U) : ∀ (m fuel : Nat) (u : ac_U) (x : Int32), x.toInt = 4 - (m : Int) → m ≤ 4 → m < fuel → ∃ v, K_X12_house_85_171 w0 fuel u x = (v, u.1 85 19) ∧ v.1 85 15 = u.1 85 15 := by
  intro m
  induction m with
  | zero =>
    intro fuel u x hx _ hf
    obtain ⟨f, rfl⟩ : ∃ f, fuel = f + 1 := ⟨fuel - 1, by omega⟩
    refine ⟨pI u 85 24 (0 : Int32), ?_, pI_k (by decide)⟩
    show K_X12_house_85_171_b (K_X12_house_85_171 w0 f) w0 u x = _
    unfold K_X12_house_85_171_b
    rw [if_pos (by omega)]
  | succ m ih =>
    intro fuel u x hx hm hf
    obtain ⟨f, rfl⟩ : ∃ f, fuel = f + 1 := ⟨fuel - 1, by omega⟩
    have hx1 : (x + Int32.ofInt 1).toInt = 4 - (m : Int) := by
      rw [i_add rfl (by decide : (Int32.ofInt 1).toInt = 1) (by omega)]
      omega
    obtain ⟨v, v1, v2⟩ := ih f (pI u 87 (107 + x).toNatClampNeg (u.1 87 (22 + x).toNatClampNeg)) (x + Int32.ofInt 1) hx1 (by omega) (by omega)
    refine ⟨v, ?_, v2.trans (pI_c (by decide))⟩
    have e : K_X12_house_85_171 w0 (f + 1) u x = K_X12_house_85_171 w0 f (pI u 87 (107 + x).toNatClampNeg (u.1 87 (22 + x).toNatClampNeg)) (x + Int32.ofInt 1) := by
      show K_X12_house_85_171_b (K_X12_house_85_171 w0 f) w0 u x = _
      unfold K_X12_house_85_171_b
      rw [if_neg (by omega)]
    rw [e, v1, pI_c (by decide)]
set_option maxHeartbeats 4000000 in
theorem house_ft {u w : ac_U} (hb : ∀ k, u.1 2 k = w.1 86 k) (hl : u.1 1 2 = w.1 85 2) (hr : InR u) (hA : TdA u) (hB : RsB w) : (f_X11_house_0 u).1.1 1 10 = (f_X12_house_85 w).1.1 85 15 := by
  obtain ⟨v, v1, v2, -, v4, v5⟩ := zero_sp w 106 108 (wA w) (0 : Int32) (by decide) (by decide) (by decide)
  have v2 : ∀ k : Nat, k < 106 → v.1 88 k = 0 := fun k hk => v2 k (by omega) hk
  obtain ⟨s0, s1, s2⟩ := begin_sim hb hl hr hA hB v2 v4 v5
  have hrf : f_X12_house_85 w = K_X12_house_85_60 w 56 (f_X12_next_85 (pI v 88 0 (24 : Int32))) := (hs_eq w).trans v1
  have hz : ∀ j, 1 ≤ j → j ≤ 8 → (f_X10_readNext_1 (uA u)).1 13 j = 0 := fun j h1 h2 => by
    rw [s2.1 13 j (by omega)]; exact (clear_sp u).2.1 j h1 h2
  have hz22 : (f_X10_readNext_1 (uA u)).1 22 4 = 0 := (s2.1 22 4 (by omega)).trans rfl
  have g13 : ∀ k, (pI (f_X10_readNext_1 (uA u)) 22 3 (0 : Int32)).1 13 k = (f_X10_readNext_1 (uA u)).1 13 k := fun k => pI_c (by decide)
  have g22 : (pI (f_X10_readNext_1 (uA u)) 22 3 (0 : Int32)).1 22 4 = (f_X10_readNext_1 (uA u)).1 22 4 := pI_k (by decide)
  have htol : tol (pI (f_X10_readNext_1 (uA u)) 22 3 (0 : Int32)) = 0 := by
    unfold tol
    rw [g13 1, g13 2, g13 3, g13 4, g13 5, g13 6, g13 7, g22, hz 1 (by decide) (by decide), hz 2 (by decide) (by decide), hz 3 (by decide) (by decide), hz 4 (by decide) (by decide), hz 5 (by decide) (by decide), hz 6 (by decide) (by decide), hz 7 (by decide) (by decide), hz22, t0i]
    omega
  have hl3 : (pI (f_X10_readNext_1 (uA u)) 22 3 (0 : Int32)).1 22 3 = (f_X12_next_85 (pI v 88 0 (24 : Int32))).1 85 19 := by
    rw [pI_s, s1.1 85 19 (by omega), pI_c (by decide), v4 85 19 (by decide)]; rfl
  have hlp := loop_sim u w 56 943 (pI (f_X10_readNext_1 (uA u)) 22 3 (0 : Int32)) _ s0.l22 hl3 (by rw [htol, pI_s, t0i]) (by rw [htol]; decide) (by decide)
  rw [← rw_eq, ← hrf] at hlp
  have hcl : f_X11_house_0 u = if (f_X3_readWhole_22 u).2.toInt ≠ 0 then (f_X8_clear_43 (f_X6_begin_24 (f_X2_copyFrom_4_13 (pI (f_X3_readWhole_22 u).1 1 2 (0 : Int32)))), (f_X8_clear_43 (f_X6_begin_24 (f_X2_copyFrom_4_13 (pI (f_X3_readWhole_22 u).1 1 2 (0 : Int32))))).1 22 3) else (pI (f_X3_readWhole_22 u).1 1 2 (0 : Int32), (-1 : Int32) - (f_X3_readWhole_22 u).1.1 1 11) := rfl
  rw [hcl]
  generalize f_X3_readWhole_22 u = q at hlp ⊢
  generalize f_X12_house_85 w = r at hlp ⊢
  rcases hlp with ⟨p1, w', p2, p3, p4, p5⟩ | ⟨p1, w', p2, p3, p4, p5⟩
  · rw [p1, if_pos n1]
    obtain ⟨x, x1, -, -, x4, -⟩ := copy_sp w 657 659 w' (0 : Int32) (by decide) (by decide) (by decide)
    obtain ⟨y, y1, y2⟩ := names_sp w 26 28 x (0 : Int32) (by decide) (by decide) (by decide)
    obtain ⟨z, z1, z2⟩ := at_15 w 4 6 y (0 : Int32) (by decide) (by decide) (by decide)
    rw [p5, x1, y1, z1]
    show (f_X8_clear_43 (f_X6_begin_24 (f_X2_copyFrom_4_13 (pI q.1 1 2 (0 : Int32))))).1 1 10 = z.1 85 15
    rw [z2, y2, x4 85 15 (by decide), q_X8_clear_43 _ 1 10 rfl, q_X6_begin_24 _ 1 10 rfl, q_X2_copyFrom_4_13 _ 1 10 rfl, pI_k (by decide)]
    exact p2.1.1.2.2.2
  · rw [p1, if_neg n0, p5]
    show (pI q.1 1 2 (0 : Int32)).1 1 10 = w'.1 85 15
    rw [pI_k (by decide)]
    exact p2
/-! The kinds of the faults at the law. -/
def ftI (u : ac_U) : Prop := u.1 1 10 = u.1 85 15
theorem ft_fr {u u' : ac_U} {L : List (Nat × Option Nat)} (hF : ac_Fr L u u') (h1 : ac_cv L 1 10 = false) (h2 : ac_cv L 85 15 = false) (h : ftI u) : ftI u' := by
  unfold ftI
  rw [hF 1 10 h1, hF 85 15 h2]
  exact h
theorem tw_house_ft {u u1 u2 : ac_U} {L1 L2 : List (Nat × Option Nat)} {r1 r2 : Int32} (hF1 : ac_Fr L1 u u1) (hF2 : ac_Fr L2 u1 u2) (h1 : L1.all (fun e => decide (e.1 < 85)) = true) (h2 : L2.all (fun e => decide (85 ≤ e.1)) = true) (x1 : f_X11_house_0 u = (u1, r1)) (x2 : f_X12_house_85 u1 = (u2, r2)) (hR : ac_R rg u) (hl : (u.1 1 2).toInt = (u.1 85 2).toInt) (hB : byI u) : ftI u2 := by
  have h := house_ft (u := u) (w := u1) (fun k => by rw [kC hF1 h1 (by decide)]; exact hB k) (by rw [kC hF1 h1 (by decide)]; exact Int32.toInt_inj.mp hl) ⟨hR 1 2, fun k => hR 2 k⟩ (fun _ _ => rfl) (fun _ _ => rfl)
  rw [x1, x2] at h
  unfold ftI
  rw [kR hF2 h2 (by decide)]
  exact h
theorem tw_sentence_ft {u1 u2 : ac_U} {L2 : List (Nat × Option Nat)} (hF2 : ac_Fr L2 u1 u2) (h2 : L2.all (fun e => decide (85 ≤ e.1)) = true) (h : u1.1 1 10 = u2.1 85 15) : ftI u2 := by
  unfold ftI
  rw [kR hF2 h2 (by decide)]
  exact h
theorem tw_daybook_ft {u u1 u2 : ac_U} {L1 L2 : List (Nat × Option Nat)} {p r1 r2 : Int32} (hF1 : ac_Fr L1 u u1) (hF2 : ac_Fr L2 u1 u2) (h1 : L1.all (fun e => decide (e.1 < 85)) = true) (h2 : L2.all (fun e => decide (85 ≤ e.1)) = true) (x1 : f_X11_daybook_0 u p = (u1, r1)) (x2 : f_X12_daybook_85 u1 p = (u2, r2)) (hR : ac_R rg u) (hl : (u.1 1 2).toInt = (u.1 85 2).toInt) (hB : byI u) (hZ : nnI u) (hH : hxI u) (hft : ftI u) (s1 : ac_Fl u u1) : ftI u2 := by
  have l90 : u1.2 90 = u.2 90 := funext fun k => s1 90 k rfl
  have hb8 : ∀ s : Nat, s < 4 → 0 ≤ (u.1 4 (cp s)).toInt ∧ (u.1 4 (cp s)).toInt ≤ 8 := fun s hs => by
    have g1 := hR 4 1
    have g4 := hR 4 4
    have g5 := hR 4 5
    have g6 := hR 4 6
    rcases (show s = 0 ∨ s = 1 ∨ s = 2 ∨ s = 3 by omega) with e | e | e | e <;> subst e
    · exact g1
    · exact ⟨g4.1, Int.le_trans g4.2 (by decide)⟩
    · exact ⟨g5.1, Int.le_trans g5.2 (by decide)⟩
    · exact g6
  have h := daybook_ft (u := u) (w := u1) p (fun k => by rw [kC hF1 h1 (by decide)]; exact hB k) (by rw [kC hF1 h1 (by decide)]; exact Int32.toInt_inj.mp hl) ⟨hR 1 2, fun k => hR 2 k⟩ ⟨by rw [l90]; exact hZ.1.1, hb8, hR 4 8⟩ (fun s hs => by rw [kC hF1 h1 (by decide)]; exact hH.1.1 (cp s) (by have := cp_k hs; omega)) (by rw [kC hF1 h1 (by decide)]; exact hft)
  rw [x1, x2] at h
  unfold ftI
  rw [kR hF2 h2 (by decide)]
  exact h
def nfI (u : ac_U) : Prop := nnI u ∧ ftI u
theorem sp_NF (ad : Nat → Nat) : ac_Sp [(4, 0, 8), (11, 0, 25), (12, 0, 25), (53, 4, 4), (54, 4, 4), (55, 0, 8), (62, 0, 25), (63, 0, 25), (64, 0, 8), (71, 0, 25), (72, 0, 25), (1, 10, 10), (85, 15, 15)] (fun u => nfI (st ad u)) := fun u u' h q => by
  have k3 := h 53 4 (sp_of (a := 4) (b := 4) (by simp) (by omega) (by omega))
  have k4 := h 54 4 (sp_of (a := 4) (b := 4) (by simp) (by omega) (by omega))
  have j4 : ∀ j, j ≤ 8 → u'.1 4 j = u.1 4 j := fun j hj => h 4 j (sp_of (a := 0) (b := 8) (by simp) (by omega) (by omega))
  have j11 : ∀ j, j < 26 → u'.1 11 j = u.1 11 j := fun j hj => h 11 j (sp_of (a := 0) (b := 25) (by simp) (by omega) (by omega))
  have j12 : ∀ j, j < 26 → u'.1 12 j = u.1 12 j := fun j hj => h 12 j (sp_of (a := 0) (b := 25) (by simp) (by omega) (by omega))
  have j55 : ∀ j, j ≤ 8 → u'.1 55 j = u.1 55 j := fun j hj => h 55 j (sp_of (a := 0) (b := 8) (by simp) (by omega) (by omega))
  have j62 : ∀ j, j < 26 → u'.1 62 j = u.1 62 j := fun j hj => h 62 j (sp_of (a := 0) (b := 25) (by simp) (by omega) (by omega))
  have j63 : ∀ j, j < 26 → u'.1 63 j = u.1 63 j := fun j hj => h 63 j (sp_of (a := 0) (b := 25) (by simp) (by omega) (by omega))
  have j64 : ∀ j, j ≤ 8 → u'.1 64 j = u.1 64 j := fun j hj => h 64 j (sp_of (a := 0) (b := 8) (by simp) (by omega) (by omega))
  have j71 : ∀ j, j < 26 → u'.1 71 j = u.1 71 j := fun j hj => h 71 j (sp_of (a := 0) (b := 25) (by simp) (by omega) (by omega))
  have j72 : ∀ j, j < 26 → u'.1 72 j = u.1 72 j := fun j hj => h 72 j (sp_of (a := 0) (b := 25) (by simp) (by omega) (by omega))
  have e1 := h 1 10 (sp_of (a := 10) (b := 10) (by simp) (by omega) (by omega))
  have e2 := h 85 15 (sp_of (a := 15) (b := 15) (by simp) (by omega) (by omega))
  obtain ⟨⟨q1, q2, q3⟩, q4⟩ := q
  have q4 : u.1 1 10 = u.1 85 15 := q4
  have hf : ftI (st ad u') := by
    show u'.1 1 10 = u'.1 85 15
    rw [e1, e2]
    exact q4
  refine ⟨⟨NY.cg q1 j4 (fun _ _ => rfl) j11 j12 (fun _ _ => rfl), fun z => NY.cg (q2 ?_) j55 (fun _ _ => rfl) j62 j63 (fun _ _ => rfl), fun z => NY.cg (q3 ?_) j64 (fun _ _ => rfl) j71 j72 (fun _ _ => rfl)⟩, hf⟩
  · show (u.1 53 4).toInt ≠ 0
    rw [← k3]
    exact z
  · show (u.1 54 4).toInt ≠ 0
    rw [← k4]
    exact z

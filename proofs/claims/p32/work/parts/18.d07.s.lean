/-! Pure: the lines of a house are read alike. -/
theorem tol_le {u w : ac_U} (h : Sm u w) : 0 ≤ tol u ∧ tol u ≤ 53 := by
  have hcp := h.2.2.2.2.2.1
  have h7 := h.2.2.2.2.2.2.2.2.2.2.2
  unfold Cp at hcp
  unfold tol
  have h8 : (u.1 22 4).toInt = 0 ∨ (u.1 22 4).toInt = 1 := h7.imp (fun e => by rw [e]; rfl) (fun e => by rw [e]; rfl)
  omega
/-- a line that begins with no word of a line -/
theorem none_sim {u w : ac_U} (h : S0 u w) (hk : (u.1 1 6).toInt < 100 ∨ 109 < (u.1 1 6).toInt ∨ (u.1 1 6).toInt = 107 ∨ (u.1 1 6).toInt = 108) : Tw (f_X10_fail_1 u (1 : Int32)) (lineS w) (LnP u w) := by
  have hw := wk h.2.2
  have hl : f_X12_line_85 w = f_X12_bad_85 w (1 : Int32) := by
    simp only [f_X12_line_85, vl, bd]
    rw [hw.2.1 (by omega), if_pos t0i, hw.2.2.2.1 (by omega), if_pos t0i, hw.2.2.2.2.2.1 (by omega), if_pos t0i, hw.2.2.2.2.2.2.2.1 (by omega), if_pos t0i, hw.2.2.2.2.2.2.2.2.2.1 (by omega), if_pos t0i, hw.2.2.2.2.2.2.2.2.2.2.2.1 (by omega), if_pos t0i, hw.2.2.2.2.2.2.2.2.2.2.2.2.2.1 (by omega), if_pos t0i, hw.2.2.2.2.2.2.2.2.2.2.2.2.2.2.2 (by omega), if_neg n0]
  rw [lineS_0 hl t0i]
  exact Or.inr ⟨rfl, rfl, ft_mk h.2.2.1⟩
/-- the class's line by its first word -/
def lineC (u : ac_U) : ac_U × Int32 := if (u.1 1 6).toInt < 100 ∨ 109 < (u.1 1 6).toInt then f_X10_fail_1 u (1 : Int32) else if (u.1 1 6).toInt = 100 then f_X3_readHours_22 u else if (u.1 1 6).toInt = 101 then f_X3_readPlace_22 u else if (u.1 1 6).toInt = 102 then f_X3_readWay_22 u else if (u.1 1 6).toInt = 103 then f_X3_readFrog_22 u else if (u.1 1 6).toInt = 104 then f_X3_readPerson_22 u else if (u.1 1 6).toInt = 105 then f_X3_readDeed_22 u else if (u.1 1 6).toInt = 106 then f_X3_readPromise_22 u else if (u.1 1 6).toInt = 107 then f_X10_fail_1 u (1 : Int32) else if (u.1 1 6).toInt = 108 then f_X10_fail_1 u (1 : Int32) else f_X3_readVow_22 u
theorem line_sim {u w : ac_U} (h : S0 u w) : Tw (lineC u) (lineS w) (LnP u w) := by
  unfold lineC
  by_cases h0 : (u.1 1 6).toInt < 100 ∨ 109 < (u.1 1 6).toInt
  · rw [if_pos h0]; exact none_sim h (by omega)
  rw [if_neg h0]
  by_cases h1 : (u.1 1 6).toInt = 100
  · rw [if_pos h1]; exact hours_sim h h1
  rw [if_neg h1]
  by_cases h2 : (u.1 1 6).toInt = 101
  · rw [if_pos h2]; exact place_sim h h2
  rw [if_neg h2]
  by_cases h3 : (u.1 1 6).toInt = 102
  · rw [if_pos h3]; exact way_sim h h3
  rw [if_neg h3]
  by_cases h4 : (u.1 1 6).toInt = 103
  · rw [if_pos h4]; exact frog_sim h h4
  rw [if_neg h4]
  by_cases h5 : (u.1 1 6).toInt = 104
  · rw [if_pos h5]; exact person_sim h h5
  rw [if_neg h5]
  by_cases h6 : (u.1 1 6).toInt = 105
  · rw [if_pos h6]; exact deed_sim h h6
  rw [if_neg h6]
  by_cases h7 : (u.1 1 6).toInt = 106
  · rw [if_pos h7]; exact promise_sim h h7
  rw [if_neg h7]
  by_cases h8 : (u.1 1 6).toInt = 107
  · rw [if_pos h8]; exact none_sim h (by omega)
  rw [if_neg h8]
  by_cases h9 : (u.1 1 6).toInt = 108
  · rw [if_pos h9]; exact none_sim h (by omega)
  rw [if_neg h9]
  exact vow_sim h (by omega)
/-- one turn of the class's loop -/
theorem clK {u0 u : ac_U} {f : Nat} (h1 : ¬ (940 : Int) ≤ (u.1 22 3).toInt) (h2 : (u.1 1 6).toInt ≠ 0) : K_X3_readWhole_22_29 u0 (f + 1) u (1 : Int32) = K_X3_readWhole_22_29 u0 f (pI (f_X10_readNext_1 (lineC u).1) 22 3 ((lineC u).1.1 22 3 + 1)) (lineC u).2 := by
  show K_X3_readWhole_22_29_b (K_X3_readWhole_22_29 u0 f) u0 u (1 : Int32) = _
  simp only [K_X3_readWhole_22_29_b, K_X3_readWhole_22_189, vl, bd]
  rw [if_neg h1, if_neg n1', if_neg h2]
  unfold lineC
  repeat (first | rfl | split)
theorem clE {u0 u : ac_U} {f : Nat} {x : Int32} (h : x.toInt = 0 ∨ (u.1 1 6).toInt = 0) : K_X3_readWhole_22_29 u0 (f + 1) u x = (u, x) := by
  show K_X3_readWhole_22_29_b (K_X3_readWhole_22_29 u0 f) u0 u x = _
  simp only [K_X3_readWhole_22_29_b, K_X3_readWhole_22_209]
  by_cases h1 : (940 : Int) ≤ (u.1 22 3).toInt
  · rw [if_pos h1]
  rw [if_neg h1]
  by_cases h2 : x.toInt = 0
  · rw [if_pos h2]
  rw [if_neg h2, if_pos (h.resolve_left h2)]
/-- one turn of the reference's loop -/
theorem rfK {w0 w : ac_U} {f : Nat} (h : (w.1 85 11).toInt ≠ 0) : K_X12_house_85_60 w0 (f + 1) w = if (lineS w).2.toInt ≠ 0 then K_X12_house_85_60 w0 f (pI (lineS w).1 85 19 ((lineS w).1.1 85 19 + 1)) else K_X12_house_85_83 w0 (lineS w).1 := by
  show K_X12_house_85_60_b (K_X12_house_85_60 w0 f) w0 w = _
  simp only [K_X12_house_85_60_b, vl, bd]
  rw [if_neg h]
  by_cases q : (f_X12_line_85 w).2.toInt = 0
  · have e : lineS w = ((f_X12_line_85 w).1, 0) := by unfold lineS; exact if_pos q
    rw [if_pos q, e, if_neg n0]
  · have e : lineS w = f_X12_sign_85 (f_X12_line_85 w).1 (59 : Int32) := by unfold lineS; exact if_neg q
    rw [if_neg q, e]
theorem rfE {w0 w : ac_U} {f : Nat} (h : (w.1 85 11).toInt = 0) : K_X12_house_85_60 w0 (f + 1) w = K_X12_house_85_105 w0 659 w (0 : Int32) := by
  show K_X12_house_85_60_b (K_X12_house_85_60 w0 f) w0 w = _
  simp only [K_X12_house_85_60_b, vl, bd]
  rw [if_pos h]
theorem Tk.end_ {u w : ac_U} (h : Tk u w) : (u.1 1 6).toInt = 0 ↔ (w.1 85 11).toInt = 0 := by
  obtain ⟨-, h | h | h | h | h⟩ := h
  · omega
  · omega
  · omega
  · have h1 := h.1; unfold isSg at h1; omega
  · obtain ⟨h1, n, -, d1, d2⟩ := h
    refine ⟨fun q => ?_, fun q => by omega⟩
    exfalso
    by_cases hall : ∀ j : Nat, j < 27 → n ≠ toldN j
    · have := d2 hall; omega
    · obtain ⟨j, hj⟩ := Classical.not_forall.mp hall
      have hj1 : j < 27 := Classical.byContradiction (fun a => hj (fun b => absurd b a))
      have hj2 : n = toldN j := Classical.byContradiction (fun a => hj (fun _ => a))
      have := d1 j hj1 hj2
      omega
theorem lineS_87 (w : ac_U) (k : Nat) : (lineS w).1.1 87 k = w.1 87 k := by
  have h1 := q_X12_line_85 w 87 k rfl
  unfold lineS
  split
  · exact h1
  · exact (q_X12_sign_85 (f_X12_line_85 w).1 (59 : Int32) 87 k rfl).trans h1
/-- both read the lines: to the end, or to the same fault -/
def HsP (w0 wb : ac_U) (q : ac_U × Int32) (r : ac_U × Int32) : Prop := (q.2 = 1 ∧ ∃ w, S0 q.1 w ∧ q.1.1 22 3 = w.1 85 19 ∧ (∀ k, w.1 87 k = wb.1 87 k) ∧ r = K_X12_house_85_105 w0 659 w (0 : Int32)) ∨ (q.2 = 0 ∧ ∃ w, q.1.1 1 10 = w.1 85 15 ∧ q.1.1 1 11 = w.1 85 16 ∧ (∀ k, w.1 87 k = wb.1 87 k) ∧ r = K_X12_house_85_83 w0 w)
theorem HsP.of {w0 wb wc : ac_U} {q r : ac_U × Int32} (h : HsP w0 wb q r) (e : ∀ k, wb.1 87 k = wc.1 87 k) : HsP w0 wc q r := by
  rcases h with ⟨h1, w, h2, h3, h4, h5⟩ | ⟨h1, w, h2, h3, h4, h5⟩
  · exact Or.inl ⟨h1, w, h2, h3, fun k => (h4 k).trans (e k), h5⟩
  · exact Or.inr ⟨h1, w, h2, h3, fun k => (h4 k).trans (e k), h5⟩
theorem loop_sim (u0 w0 : ac_U) : ∀ (n N : Nat) (u w : ac_U), S0 u w → u.1 22 3 = w.1 85 19 → (u.1 22 3).toInt = tol u → 53 - tol u < (n : Int) → n + 1 ≤ N → HsP w0 w (K_X3_readWhole_22_29 u0 N u (1 : Int32)) (K_X12_house_85_60 w0 n w) := by
  intro n
  induction n with
  | zero =>
    intro N u w h _ _ h4
    have := tol_le h.1
    exfalso
    omega
  | succ n ih =>
    intro N u w h h2 h3 h4 h5
    have ht := tol_le h.1
    obtain ⟨M, rfl⟩ : ∃ M, N = M + 1 := ⟨N - 1, by omega⟩
    have he := h.2.2.end_
    by_cases q : (u.1 1 6).toInt = 0
    · rw [clE (Or.inr q), rfE (he.mp q)]
      exact Or.inl ⟨rfl, w, h, h2, fun _ => rfl, rfl⟩
    · rw [clK (by omega) q, rfK (fun z => q (he.mpr z))]
      have hl := line_sim h
      have h87 := lineS_87 w
      generalize lineC u = a at hl ⊢
      generalize lineS w = b at hl h87 ⊢
      rcases hl with ⟨l1, l2, l3, l4, l5, l6⟩ | ⟨l1, l2, l3⟩
      · rw [l1, l2, if_pos n1]
        obtain ⟨r1, r2⟩ := l3.read
        have hS : S0 (pI (f_X10_readNext_1 a.1) 22 3 (a.1.1 22 3 + 1)) (pI b.1 85 19 (b.1.1 85 19 + 1)) := by
          obtain ⟨m1, m2, m3⟩ := r1
          refine ⟨⟨⟨?_, ?_, m1.1.2.2⟩, m1.2.1, m1.2.2.1, m1.2.2.2.1, ?_⟩, ?_, ?_⟩
          · rw [pI_k (show 3 ≠ 19 by decide)]; exact m1.1.1
          · rw [pI_k (show 5 ≠ 19 by decide)]; exact m1.1.2.1
          · refine m1.2.2.2.2.to rfl rfl rfl rfl rfl rfl (pI_k (by decide)) rfl rfl (pI_k (by decide)) rfl
          · unfold At; rw [pI_c (show 1 ≠ 22 by decide), pI_k (show 4 ≠ 19 by decide)]; exact m2
          · have e4 : (pI b.1 85 19 (b.1.1 85 19 + 1)).1 85 12 = b.1.1 85 12 := pI_k (by decide)
            have e5 : (pI b.1 85 19 (b.1.1 85 19 + 1)).1 85 11 = b.1.1 85 11 := pI_k (by decide)
            have e6 : (pI b.1 85 19 (b.1.1 85 19 + 1)).1 85 14 = b.1.1 85 14 := pI_k (by decide)
            unfold Tk
            rw [e4, e5, e6]
            exact m3
        have ht2 : tol (pI (f_X10_readNext_1 a.1) 22 3 (a.1.1 22 3 + 1)) = tol u + 1 := by
          rw [← l6]
          have g13 : ∀ k, (pI (f_X10_readNext_1 a.1) 22 3 (a.1.1 22 3 + 1)).1 13 k = a.1.1 13 k := fun k => (pI_c (by decide)).trans (r2.1 13 k (by omega))
          have g22 : (pI (f_X10_readNext_1 a.1) 22 3 (a.1.1 22 3 + 1)).1 22 4 = a.1.1 22 4 := (pI_k (by decide)).trans (r2.1 22 4 (by omega))
          unfold tol
          rw [g13 1, g13 2, g13 3, g13 4, g13 5, g13 6, g13 7, g22]
        refine (ih M _ _ hS ?_ ?_ (by omega) (by omega)).of (fun k => (pI_c (by decide)).trans (h87 k))
        · rw [pI_s, pI_s, l4, l5, h2]
        · rw [pI_s, ht2, l4, inc_i (by omega), h3]
      · rw [l1, l2, if_neg n0]
        obtain ⟨M', rfl⟩ : ∃ M', M = M' + 1 := ⟨M - 1, by omega⟩
        rw [clE (Or.inl t0i)]
        refine Or.inr ⟨rfl, b.1, ?_, ?_, h87, rfl⟩
        · show (pI (f_X10_readNext_1 a.1) 22 3 (a.1.1 22 3 + 1)).1 1 10 = _
          rw [pI_c (by decide), q_X10_readNext_1 a.1 1 10 rfl]; exact l3.1
        · show (pI (f_X10_readNext_1 a.1) 22 3 (a.1.1 22 3 + 1)).1 1 11 = _
          rw [pI_c (by decide), q_X10_readNext_1 a.1 1 11 rfl]; exact l3.2

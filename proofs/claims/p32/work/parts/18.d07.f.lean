/-! Pure: what is read so far is alike in the draft and in the row h; the takings of tokens go alike. -/
def bs (s : Nat) : Nat := ([26, 34, 38, 44] : List Nat).getD s 0
def cp (s : Nat) : Nat := ([1, 4, 5, 6] : List Nat).getD s 0
def Nm (u w : ac_U) : Prop := ∃ g : Nat → Nat → Nat,
  (∀ s : Nat, s < 4 → ∀ i : Nat, (i : Int) < (u.1 13 (cp s)).toInt → g s i < 32 ^ 7 ∧ w.2 90 (bs s + i) = Int64.ofNat (ph 8 (g s i)) ∧ ∃ k : Nat, (k : Int) < (u.1 13 8).toInt ∧ u.2 19 k = Int64.ofNat (g s i)) ∧
  (∀ k : Nat, (k : Int) < (u.1 13 8).toInt → ∃ s i : Nat, s < 4 ∧ (i : Int) < (u.1 13 (cp s)).toInt ∧ (u.1 20 k).toInt = s ∧ (u.1 21 k).toInt = i ∧ u.2 19 k = Int64.ofNat (g s i)) ∧
  (∀ s s' i i' : Nat, s < 4 → s' < 4 → (i : Int) < (u.1 13 (cp s)).toInt → (i' : Int) < (u.1 13 (cp s')).toInt → g s i = g s' i' → s = s' ∧ i = i')
def Cp (u : ac_U) : Prop := (0 ≤ (u.1 13 1).toInt ∧ (u.1 13 1).toInt ≤ 8) ∧ (0 ≤ (u.1 13 2).toInt ∧ (u.1 13 2).toInt ≤ 12) ∧ (0 ≤ (u.1 13 3).toInt ∧ (u.1 13 3).toInt ≤ 6) ∧ (0 ≤ (u.1 13 4).toInt ∧ (u.1 13 4).toInt ≤ 4) ∧ (0 ≤ (u.1 13 5).toInt ∧ (u.1 13 5).toInt ≤ 6) ∧ (0 ≤ (u.1 13 6).toInt ∧ (u.1 13 6).toInt ≤ 8) ∧ (0 ≤ (u.1 13 7).toInt ∧ (u.1 13 7).toInt ≤ 8) ∧ (u.1 13 8).toInt = (u.1 13 1).toInt + (u.1 13 4).toInt + (u.1 13 5).toInt + (u.1 13 6).toInt
/-- the bit that isVow looks at -/
def vbit (x a : Int32) : Prop := ((x >>> (a &&& 31)) &&& 1).toInt = 1
def Vw (u w : ac_U) : Prop := ∀ a b : Int32, 0 ≤ a.toInt → a.toInt < 8 → 0 ≤ b.toInt → b.toInt < 8 → (vbit (u.1 18 b.toNatClampNeg) a ↔ ∃ i : Nat, (i : Int) < (u.1 13 7).toInt ∧ w.1 88 (90 + i) = a ∧ w.1 88 (98 + i) = b)
def Dr (u w : ac_U) : Prop := (∀ j, j < 8 → u.1 13 j = w.1 88 j) ∧ Cp u ∧ (∀ k, k < 8 → u.1 14 k = w.1 88 (8 + k)) ∧ (∀ f : Nat, (f : Int) < (u.1 13 3).toInt → u.1 15 f = w.1 88 (16 + f)) ∧ Vw u w ∧ Nm u w ∧ (u.1 22 4 = w.1 85 20 ∧ (u.1 22 4 = 0 ∨ u.1 22 4 = 1))
theorem Dr.to {u w u' w' : ac_U} (h : Dr u w) (a13 : u'.1 13 = u.1 13) (a14 : u'.1 14 = u.1 14) (a15 : u'.1 15 = u.1 15) (a18 : u'.1 18 = u.1 18) (a20 : u'.1 20 = u.1 20) (a21 : u'.1 21 = u.1 21) (a22 : u'.1 22 4 = u.1 22 4) (l19 : u'.2 19 = u.2 19) (b88 : w'.1 88 = w.1 88) (b85 : w'.1 85 20 = w.1 85 20) (l90 : w'.2 90 = w.2 90) : Dr u' w' := by
  unfold Dr Cp Vw Nm
  rw [a13, a14, a15, a18, a20, a21, a22, l19, b88, b85, l90]
  exact h
def Sm (u w : ac_U) : Prop := InE u w ∧ InR u ∧ TdA u ∧ RsB w ∧ Dr u w
def CG (u u' : ac_U) : Prop := (∀ c k, ¬ (c = 1 ∧ 4 ≤ k ∧ k ≤ 11) → u'.1 c k = u.1 c k) ∧ (∀ c k, ¬ (c = 1 ∧ k = 7) → u'.2 c k = u.2 c k)
def RG (w w' : ac_U) : Prop := (∀ c k, ¬ (c = 85 ∧ (k = 4 ∨ (11 ≤ k ∧ k ≤ 18))) → w'.1 c k = w.1 c k) ∧ (∀ c k, ¬ (c = 85 ∧ k = 17) → w'.2 c k = w.2 c k)
theorem CF.g {u u' : ac_U} (h : CF u u') : CG u u' := ⟨fun c k q => h.1 c k (by omega), h.2⟩
theorem RF.g {u u' : ac_U} (h : RF u u') : RG u u' := ⟨fun c k q => h.1 c k (by omega), h.2⟩
theorem CG.rf {u : ac_U} : CG u u := ⟨fun _ _ _ => rfl, fun _ _ _ => rfl⟩
theorem RG.rf {u : ac_U} : RG u u := ⟨fun _ _ _ => rfl, fun _ _ _ => rfl⟩
theorem CG.tr {u v w : ac_U} (h : CG u v) (g : CG v w) : CG u w := ⟨fun c k q => (g.1 c k q).trans (h.1 c k q), fun c k q => (g.2 c k q).trans (h.2 c k q)⟩
theorem RG.tr {u v w : ac_U} (h : RG u v) (g : RG v w) : RG u w := ⟨fun c k q => (g.1 c k q).trans (h.1 c k q), fun c k q => (g.2 c k q).trans (h.2 c k q)⟩
theorem CG.pI {u v : ac_U} (h : CG u v) {j : Nat} {x : Int32} (hj : 4 ≤ j ∧ j ≤ 11) : CG u (pI v 1 j x) := ⟨fun c k q => by
  by_cases e : c = 1
  · rw [pI_k (by omega)]; exact h.1 c k q
  · rw [pI_c e]; exact h.1 c k q, h.2⟩
theorem RG.pI {u v : ac_U} (h : RG u v) {j : Nat} {x : Int32} (hj : j = 4 ∨ (11 ≤ j ∧ j ≤ 18)) : RG u (pI v 85 j x) := ⟨fun c k q => by
  by_cases e : c = 85
  · rw [pI_k (by omega)]; exact h.1 c k q
  · rw [pI_c e]; exact h.1 c k q, h.2⟩
theorem Sm.to {u w u' w' : ac_U} (h : Sm u w) (hc : CG u u') (hr : RG w w') : Sm u' w' := by
  obtain ⟨h1, h2, h3, h4, h5⟩ := h
  refine ⟨⟨?_, ?_, fun k => ?_⟩, ⟨?_, fun k => ?_⟩, fun k hk => ?_, fun k hk => ?_, ?_⟩
  · rw [hc.1 1 2 (by omega), hr.1 85 3 (by omega)]; exact h1.1
  · rw [hc.1 1 3 (by omega), hr.1 85 5 (by omega)]; exact h1.2.1
  · rw [hc.1 2 k (by omega), hr.1 86 k (by omega)]; exact h1.2.2 k
  · rw [hc.1 1 2 (by omega)]; exact h2.1
  · rw [hc.1 2 k (by omega)]; exact h2.2 k
  · exact h3 k hk
  · exact h4 k hk
  · exact h5.to (funext fun k => hc.1 13 k (by omega)) (funext fun k => hc.1 14 k (by omega)) (funext fun k => hc.1 15 k (by omega)) (funext fun k => hc.1 18 k (by omega)) (funext fun k => hc.1 20 k (by omega)) (funext fun k => hc.1 21 k (by omega)) (hc.1 22 4 (by omega)) (funext fun k => hc.2 19 k (by omega)) (funext fun k => hr.1 88 k (by omega)) (hr.1 85 20 (by omega)) (funext fun k => hr.2 90 k (by omega))
def S0 (u w : ac_U) : Prop := Sm u w ∧ At u w ∧ Tk u w
/-- the reference's reader has gone on from where it stood with the class's -/
def LA (a b : ac_U) : Prop := (∀ k, (k = 3 ∨ k = 4 ∨ k = 5 ∨ (11 ≤ k ∧ k ≤ 14)) → b.1 85 k = a.1 85 k) ∧ b.2 85 17 = a.2 85 17
def S1 (u w : ac_U) : Prop := Sm u w ∧ ∃ wp, Lx u wp ∧ LA (f_X12_next_85 wp) w
theorem S0.next {u w : ac_U} (h : S0 u w) : S1 u (f_X12_next_85 w) ∧ RF w (f_X12_next_85 w) := by
  obtain ⟨h1, h2, h3⟩ := h
  have hl := lex h1.2.2.1 ⟨h1.1, h1.2.1, h2⟩
  exact ⟨⟨h1.to CG.rf hl.2.1.g, w, ⟨h1.1, h1.2.1, h2⟩, fun _ _ => rfl, rfl⟩, hl.2.1⟩
theorem S1.read {u w : ac_U} (h : S1 u w) : S0 (f_X10_readNext_1 u) w ∧ CF u (f_X10_readNext_1 u) := by
  obtain ⟨h1, wp, h2, h3, h4⟩ := h
  obtain ⟨f1, f2, f3, f4⟩ := lex h1.2.2.1 h2
  refine ⟨⟨h1.to f1.g RG.rf, ?_, ?_⟩, f1⟩
  · unfold At; rw [h3 4 (by omega)]; exact f3
  · unfold Tk Wd; rw [h3 12 (by omega), h3 11 (by omega), h3 14 (by omega), h4]; exact f4
theorem S1.to {u w u' w' : ac_U} (h : S1 u w) (hs : Sm u' w') (a2 : u'.1 1 2 = u.1 1 2) (a3 : u'.1 1 3 = u.1 1 3) (a4 : u'.1 1 4 = u.1 1 4) (ab : u'.1 2 = u.1 2) (hw : ∀ k, (k = 3 ∨ k = 4 ∨ k = 5 ∨ (11 ≤ k ∧ k ≤ 14)) → w'.1 85 k = w.1 85 k) (hl : w'.2 85 17 = w.2 85 17) : S1 u' w' := by
  obtain ⟨h1, wp, ⟨⟨i1, i2, i3⟩, ⟨j1, j2⟩, at1⟩, h3, h4⟩ := h
  refine ⟨hs, wp, ⟨⟨by rw [a2]; exact i1, by rw [a3]; exact i2, fun k => by rw [ab]; exact i3 k⟩, ⟨by rw [a2]; exact j1, fun k => by rw [ab]; exact j2 k⟩, ?_⟩, fun k hk => (hw k hk).trans (h3 k hk), hl.trans h4⟩
  unfold At; rw [a4]; exact at1
/-- class and reference have the same fault -/
def Ft (u w : ac_U) : Prop := u.1 1 10 = w.1 85 15 ∧ u.1 1 11 = w.1 85 16
theorem ft_mk {u w : ac_U} {p : Int32} (h : u.1 1 5 = w.1 85 12) : Ft (pI (pI u 1 10 p) 1 11 (u.1 1 5)) (pI (pI w 85 15 p) 85 16 (w.1 85 12)) := by
  unfold Ft
  rw [pI_k (show 10 ≠ 11 by decide), pI_s, pI_k (show 15 ≠ 16 by decide), pI_s, pI_s, pI_s]
  exact ⟨rfl, h⟩
/-- the answer of a taking: both take (and P holds), or both fail with the same fault -/
def Tw (q : ac_U × Int32) (r : ac_U × Int32) (P : ac_U → ac_U → Prop) : Prop := (q.2 = 1 ∧ r.2 = 1 ∧ P q.1 r.1) ∨ (q.2 = 0 ∧ r.2 = 0 ∧ Ft q.1 r.1)
theorem Tw.bad {u w : ac_U} {p : Int32} {P : ac_U → ac_U → Prop} (h : u.1 1 5 = w.1 85 12) : Tw (f_X10_fail_1 u p) (f_X12_bad_85 w p) P := Or.inr ⟨rfl, rfl, ft_mk h⟩
theorem cp_names {u w : ac_U} (h : Dr u w) : 0 ≤ (u.1 13 8).toInt ∧ (u.1 13 8).toInt ≤ 26 := by
  obtain ⟨-, ⟨h1, h2, h3, h4, h5, h6, h7, h8⟩, -⟩ := h
  omega
theorem cp_cnt {u w : ac_U} (h : Dr u w) {s : Nat} (hs : s < 4) : 0 ≤ (u.1 13 (cp s)).toInt ∧ (u.1 13 (cp s)).toInt ≤ 8 := by
  obtain ⟨-, ⟨h1, h2, h3, h4, h5, h6, h7, h8⟩, -⟩ := h
  rcases (show s = 0 ∨ s = 1 ∨ s = 2 ∨ s = 3 by omega) with e | e | e | e <;> subst e
  · exact h1
  · exact ⟨h4.1, by have := h4.2; show (u.1 13 4).toInt ≤ 8; omega⟩
  · exact ⟨h5.1, by have := h5.2; show (u.1 13 5).toInt ≤ 8; omega⟩
  · exact h6
theorem bs_60 {s : Nat} (hs : s < 4) : 26 ≤ bs s ∧ bs s ≤ 44 := by
  rcases (show s = 0 ∨ s = 1 ∨ s = 2 ∨ s = 3 by omega) with e | e | e | e <;> subst e <;> decide
/-- a word known as of the sort s, or not, by both -/
theorem kn_sp {u w : ac_U} {n s : Nat} {p0 : Int32} (hD : Dr u w) (hn : n < 32 ^ 7) (hu : u.2 1 7 = Int64.ofNat n) (hw : w.2 85 17 = Int64.ofNat (ph 8 n)) (hs : s < 4) (hp0 : p0.toInt = bs s) : (∃ i : Nat, (i : Int) < (u.1 13 (cp s)).toInt ∧ 0 ≤ (f_X2_nameIndex_13 u (u.2 1 7)).toInt ∧ (u.1 20 (f_X2_nameIndex_13 u (u.2 1 7)).toNatClampNeg).toInt = s ∧ (u.1 21 (f_X2_nameIndex_13 u (u.2 1 7)).toNatClampNeg).toInt = i ∧ (f_X12_find_85 w p0 (u.1 13 (cp s))).toInt = i) ∨ (((f_X2_nameIndex_13 u (u.2 1 7)).toInt = -1 ∨ (0 ≤ (f_X2_nameIndex_13 u (u.2 1 7)).toInt ∧ (u.1 20 (f_X2_nameIndex_13 u (u.2 1 7)).toNatClampNeg).toInt ≠ s)) ∧ (f_X12_find_85 w p0 (u.1 13 (cp s))).toInt = -1) := by
  obtain ⟨g, g1, g2, g3⟩ := hD.2.2.2.2.2.1
  have hc := cp_cnt hD hs
  have hb := bs_60 hs
  have hb0 : p0.toNatClampNeg = bs s := by have := i_cl (x := p0) (by omega); omega
  have hf := fi_sp (w := w) (p0 := p0) (p1 := u.1 13 (cp s)) (by omega) (by omega)
  rw [hb0, hw] at hf
  have hi := ni_sp (u := u) (X := u.2 1 7) (cp_names hD)
  rw [hu] at hi ⊢
  generalize f_X2_nameIndex_13 u (Int64.ofNat n) = r at hi ⊢
  generalize f_X12_find_85 w p0 (u.1 13 (cp s)) = q at hf ⊢
  -- found i by the reference: the word is g s i
  have hfound : ∀ i : Nat, (i : Int) < (u.1 13 (cp s)).toInt → w.2 90 (bs s + i) = Int64.ofNat (ph 8 n) → g s i = n := by
    intro i h1 h2
    obtain ⟨a1, a2, -⟩ := g1 s hs i h1
    rw [a2] at h2
    exact (wd_eq a1 hn).mp h2
  rcases hi with ⟨k, k1, k2, k3⟩ | ⟨k1, k2⟩
  · obtain ⟨s', i', b1, b2, b3, b4, b5⟩ := g2 k k1
    have hk : r.toNatClampNeg = k := by have := i_cl (x := r) (by omega); omega
    have e : g s' i' = n := by
      rw [b5] at k2
      exact (wd_eq2 (g1 s' b1 i' b2).1 hn).mp k2
    rw [hk]
    by_cases es : s' = s
    · subst es
      refine Or.inl ⟨i', b2, by omega, b3, b4, ?_⟩
      rcases hf with ⟨j, j1, j2, j3⟩ | ⟨j1, -⟩
      · have := (g3 s' s' j i' hs hs j1 b2 ((hfound j j1 j2).trans e.symm)).2
        rw [j3, this]
      · exact absurd (by rw [(g1 s' hs i' b2).2.1, e]) (j1 i' b2)
    · refine Or.inr ⟨Or.inr ⟨by omega, by rw [b3]; omega⟩, ?_⟩
      rcases hf with ⟨j, j1, j2, -⟩ | ⟨-, j2⟩
      · exact absurd (g3 s s' j i' hs b1 j1 b2 ((hfound j j1 j2).trans e.symm)).1.symm es
      · exact j2
  · refine Or.inr ⟨Or.inl k2, ?_⟩
    rcases hf with ⟨j, j1, j2, -⟩ | ⟨-, j2⟩
    · obtain ⟨a1, -, k, a3, a4⟩ := g1 s hs j j1
      rw [hfound j j1 j2] at a4
      exact absurd a4 (k1 k a3)
    · exact j2
theorem Tk.name {u w : ac_U} (h : Tk u w) (hk : (u.1 1 6).toInt = 2) : ∃ n, n < 32 ^ 7 ∧ u.2 1 7 = Int64.ofNat n ∧ w.2 85 17 = Int64.ofNat (ph 8 n) := by
  obtain ⟨-, h | h | h | h | h⟩ := h
  · omega
  · omega
  · omega
  · have h1 := h.1; unfold isSg at h1; omega
  · obtain ⟨-, n, ⟨a, b, c⟩, -⟩ := h
    exact ⟨n, a, b, c⟩
/-- a known name, seen by both; it isn't gone behind yet -/
theorem known_sim {u w : ac_U} {s : Nat} {p0 p1 : Int32} (h : S0 u w) (hs : s < 4) (hp1 : p1.toInt = s) (hp0 : p0.toInt = bs s) : Tw (f_X10_isKnown_1_13 u p1) (f_X12_looksAt_85 w p0 (u.1 13 (cp s))) (fun u' w' => S0 u' w' ∧ CG u u' ∧ RG w w' ∧ u'.1 1 9 = w'.1 85 18 ∧ 0 ≤ (u'.1 1 9).toInt ∧ (u'.1 1 9).toInt < (u.1 13 (cp s)).toInt) := by
  obtain ⟨h1, h2, h3⟩ := h
  have hn := isName_k h3 h1.2.2.2.1
  have hbeg := h3.1
  simp only [f_X10_isKnown_1_13, K_X10_isKnown_1_13_38, f_X12_looksAt_85, vl, bd]
  by_cases hk : (u.1 1 6).toInt = 2
  · rw [if_pos hk, hn.1 hk, if_pos (show (1 : Int32).toInt ≠ 0 by decide)]
    obtain ⟨n, n1, n2, n3⟩ := h3.name hk
    have hsp := kn_sp h1.2.2.2.2 n1 n2 n3 hs hp0
    have hcnt := cp_cnt h1.2.2.2.2 hs
    generalize f_X2_nameIndex_13 u (u.2 1 7) = r at hsp ⊢
    generalize f_X12_find_85 w p0 (u.1 13 (cp s)) = q at hsp ⊢
    have hbad : Tw (f_X10_fail_1 u (3 : Int32)) (pI (pI (pI w 85 18 q) 85 15 (3 : Int32)) 85 16 ((pI w 85 18 q).1 85 12), 0) (fun u' w' => S0 u' w' ∧ CG u u' ∧ RG w w' ∧ u'.1 1 9 = w'.1 85 18 ∧ 0 ≤ (u'.1 1 9).toInt ∧ (u'.1 1 9).toInt < (u.1 13 (cp s)).toInt) := by
      have hb2 : u.1 1 5 = (pI w 85 18 q).1 85 12 := by rw [pI_k (by decide)]; exact hbeg
      exact Or.inr ⟨rfl, rfl, ft_mk hb2⟩
    rcases hsp with ⟨i, i1, i2, i3, i4, i5⟩ | ⟨i1, i2⟩
    · rw [if_neg (show ¬ r.toInt = -1 by omega), if_pos (show (u.1 20 r.toNatClampNeg).toInt = p1.toInt by omega), if_pos (show 0 ≤ q.toInt by omega)]
      have hc : CG u (pI u 1 9 (u.1 21 r.toNatClampNeg)) := CG.rf.pI (by omega)
      have hr : RG w (pI w 85 18 q) := RG.rf.pI (by omega)
      refine Or.inl ⟨rfl, rfl, ⟨h1.to hc hr, ?_, ?_⟩, hc, hr, ?_, ?_⟩
      · unfold At; rw [pI_k (show 4 ≠ 9 by decide), pI_k (show 4 ≠ 18 by decide)]; exact h2
      · have e1 : (pI u 1 9 (u.1 21 r.toNatClampNeg)).1 1 5 = u.1 1 5 := pI_k (by decide)
        have e2 : (pI u 1 9 (u.1 21 r.toNatClampNeg)).1 1 6 = u.1 1 6 := pI_k (by decide)
        have e3 : (pI u 1 9 (u.1 21 r.toNatClampNeg)).1 1 8 = u.1 1 8 := pI_k (by decide)
        have e4 : (pI w 85 18 q).1 85 12 = w.1 85 12 := pI_k (by decide)
        have e5 : (pI w 85 18 q).1 85 11 = w.1 85 11 := pI_k (by decide)
        have e6 : (pI w 85 18 q).1 85 14 = w.1 85 14 := pI_k (by decide)
        show Tk (pI u 1 9 (u.1 21 r.toNatClampNeg)) (pI w 85 18 q)
        unfold Tk
        rw [e1, e2, e3, e4, e5, e6]
        exact h3
      · show (pI u 1 9 (u.1 21 r.toNatClampNeg)).1 1 9 = (pI w 85 18 q).1 85 18
        rw [pI_s, pI_s]
        exact Int32.toInt_inj.mp (by omega)
      · show 0 ≤ ((pI u 1 9 (u.1 21 r.toNatClampNeg)).1 1 9).toInt ∧ ((pI u 1 9 (u.1 21 r.toNatClampNeg)).1 1 9).toInt < _
        rw [pI_s]
        omega
    · rw [if_neg (show ¬ 0 ≤ q.toInt by omega)]
      have e0 : ∀ x : ac_U, (if (f_X12_bad_85 x (3 : Int32)).2.toInt = 0 then ((f_X12_bad_85 x (3 : Int32)).1, (0 : Int32)) else ((f_X12_bad_85 x (3 : Int32)).1, 0)) = (pI (pI x 85 15 (3 : Int32)) 85 16 (x.1 85 12), 0) := fun x => if_pos t0i
      rw [e0]
      rcases i1 with i1 | i1
      · rw [if_pos i1]; exact hbad
      · rw [if_neg (show ¬ r.toInt = -1 by omega), if_neg (show ¬ (u.1 20 r.toNatClampNeg).toInt = p1.toInt by omega)]; exact hbad
  · rw [if_neg hk, hn.2 hk, if_neg (show ¬ (0 : Int32).toInt ≠ 0 by decide)]
    exact Tw.bad hbeg

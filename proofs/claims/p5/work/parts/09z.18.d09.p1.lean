/-! Names of the house that stands: alike on both sides. -/
def bh (s : Nat) : Nat := ([0, 8, 12, 18] : List Nat).getD s 0
theorem bh_60 {s : Nat} (hs : s < 4) : bh s ≤ 18 := by
  rcases (show s = 0 ∨ s = 1 ∨ s = 2 ∨ s = 3 by omega) with e | e | e | e <;> subst e <;> decide
def NX (a4 : Nat → Int32) (l10 : Nat → Int64) (a11 a12 : Nat → Int32) (l90 : Nat → Int64) : Prop := ∃ g : Nat → Nat → Nat,
  (∀ s : Nat, s < 4 → ∀ i : Nat, (i : Int) < (a4 (cp s)).toInt → g s i < 32 ^ 7 ∧ l90 (bh s + i) = Int64.ofNat (ph 8 (g s i)) ∧ ∃ k : Nat, (k : Int) < (a4 8).toInt ∧ l10 k = Int64.ofNat (g s i)) ∧
  (∀ k : Nat, (k : Int) < (a4 8).toInt → ∃ s i : Nat, s < 4 ∧ (i : Int) < (a4 (cp s)).toInt ∧ (a11 k).toInt = s ∧ (a12 k).toInt = i ∧ l10 k = Int64.ofNat (g s i)) ∧
  (∀ s s' i i' : Nat, s < 4 → s' < 4 → (i : Int) < (a4 (cp s)).toInt → (i' : Int) < (a4 (cp s')).toInt → g s i = g s' i' → s = s' ∧ i = i')
def Nq (u w : ac_U) : Prop := NX (u.1 4) (u.2 10) (u.1 11) (u.1 12) (w.2 90) ∧ (∀ s : Nat, s < 4 → 0 ≤ (u.1 4 (cp s)).toInt ∧ (u.1 4 (cp s)).toInt ≤ 8) ∧ (0 ≤ (u.1 4 8).toInt ∧ (u.1 4 8).toInt ≤ 26)
theorem Nq.to {u w u' w' : ac_U} (h : Nq u w) (a4 : u'.1 4 = u.1 4) (l10 : u'.2 10 = u.2 10) (a11 : u'.1 11 = u.1 11) (a12 : u'.1 12 = u.1 12) (l90 : w'.2 90 = w.2 90) : Nq u' w' := by
  unfold Nq
  rw [a4, l10, a11, a12, l90]
  exact h
theorem ni4_loop {u : ac_U} {X : Int64} {p0 : Int64} : ∀ (m fuel : Nat) (x : Int32), x.toInt = (u.1 4 8).toInt - (m : Int) → 0 ≤ x.toInt → (u.1 4 8).toInt ≤ 26 → m < fuel → (∃ k : Nat, x.toInt ≤ k ∧ (k : Int) < (u.1 4 8).toInt ∧ u.2 10 k = X ∧ (K_X2_nameIndex_4_2 u p0 fuel X x).toInt = k) ∨ ((∀ k : Nat, x.toInt ≤ k → (k : Int) < (u.1 4 8).toInt → u.2 10 k ≠ X) ∧ (K_X2_nameIndex_4_2 u p0 fuel X x).toInt = -1) := by
  intro m
  induction m with
  | zero =>
    intro fuel x hx h0 h26 hf
    obtain ⟨f, rfl⟩ : ∃ f, fuel = f + 1 := ⟨fuel - 1, by omega⟩
    refine Or.inr ⟨fun k h1 h2 => by omega, ?_⟩
    show (K_X2_nameIndex_4_2_b (K_X2_nameIndex_4_2 u p0 f) u p0 X x).toInt = -1
    unfold K_X2_nameIndex_4_2_b
    rw [if_pos (by omega)]
    decide
  | succ m ih =>
    intro fuel x hx h0 h26 hf
    obtain ⟨f, rfl⟩ : ∃ f, fuel = f + 1 := ⟨fuel - 1, by omega⟩
    have hk := i_cl (x := x) h0
    have hstep : K_X2_nameIndex_4_2 u p0 (f + 1) X x = if (lg_cmp (u.2 10 x.toNatClampNeg) X).toInt ≠ 0 then K_X2_nameIndex_4_2 u p0 f X (x + Int32.ofInt 1) else x := by
      show K_X2_nameIndex_4_2_b (K_X2_nameIndex_4_2 u p0 f) u p0 X x = _
      simp only [K_X2_nameIndex_4_2_b, vl]
      rw [if_neg (by omega)]
    rw [hstep]
    by_cases e : u.2 10 x.toNatClampNeg = X
    · rw [if_neg (fun q => q ((lgc _ _).mpr e))]
      exact Or.inl ⟨x.toNatClampNeg, by omega, by omega, e, by omega⟩
    · rw [if_pos (fun q => e ((lgc _ _).mp q))]
      have hx1 : (x + Int32.ofInt 1).toInt = x.toInt + 1 := i_add rfl (by decide : (Int32.ofInt 1).toInt = 1) (by omega)
      rcases ih f (x + Int32.ofInt 1) (by omega) (by omega) h26 (by omega) with ⟨k, h1, h2, h3, h4⟩ | ⟨h1, h2⟩
      · exact Or.inl ⟨k, by omega, h2, h3, h4⟩
      · refine Or.inr ⟨fun k q1 q2 => ?_, h2⟩
        by_cases e2 : k = x.toNatClampNeg
        · rw [e2]; exact e
        · exact h1 k (by omega) q2
theorem ni4_sp {u : ac_U} {X : Int64} (h0 : 0 ≤ (u.1 4 8).toInt ∧ (u.1 4 8).toInt ≤ 26) : (∃ k : Nat, (k : Int) < (u.1 4 8).toInt ∧ u.2 10 k = X ∧ (f_X2_nameIndex_4 u X).toInt = k) ∨ ((∀ k : Nat, (k : Int) < (u.1 4 8).toInt → u.2 10 k ≠ X) ∧ (f_X2_nameIndex_4 u X).toInt = -1) := by
  have h := ni4_loop (u := u) (X := X) (p0 := X) (u.1 4 8).toInt.toNat 28 (0 : Int32) (by rw [t0i]; omega) (by rw [t0i]; omega) h0.2 (by omega)
  rcases h with ⟨k, h1, h2, h3, h4⟩ | ⟨h1, h2⟩
  · exact Or.inl ⟨k, h2, h3, h4⟩
  · exact Or.inr ⟨fun k q => h1 k (by rw [t0i]; omega) q, h2⟩
theorem kn4_sp {u w : ac_U} {n s : Nat} {p0 : Int32} (hD : Nq u w) (hn : n < 32 ^ 7) (hu : u.2 1 7 = Int64.ofNat n) (hw : w.2 85 17 = Int64.ofNat (ph 8 n)) (hs : s < 4) (hp0 : p0.toInt = bh s) : (∃ i : Nat, (i : Int) < (u.1 4 (cp s)).toInt ∧ 0 ≤ (f_X2_nameIndex_4 u (u.2 1 7)).toInt ∧ (u.1 11 (f_X2_nameIndex_4 u (u.2 1 7)).toNatClampNeg).toInt = s ∧ (u.1 12 (f_X2_nameIndex_4 u (u.2 1 7)).toNatClampNeg).toInt = i ∧ (f_X12_find_85 w p0 (u.1 4 (cp s))).toInt = i) ∨ (((f_X2_nameIndex_4 u (u.2 1 7)).toInt = -1 ∨ (0 ≤ (f_X2_nameIndex_4 u (u.2 1 7)).toInt ∧ (u.1 11 (f_X2_nameIndex_4 u (u.2 1 7)).toNatClampNeg).toInt ≠ s)) ∧ (f_X12_find_85 w p0 (u.1 4 (cp s))).toInt = -1) := by
  obtain ⟨g, g1, g2, g3⟩ := hD.1
  have hc := hD.2.1 s hs
  have hb := bh_60 hs
  have hb0 : p0.toNatClampNeg = bh s := by have := i_cl (x := p0) (by omega); omega
  have hf := fi_sp (w := w) (p0 := p0) (p1 := u.1 4 (cp s)) (by omega) (by omega)
  rw [hb0, hw] at hf
  have hi := ni4_sp (u := u) (X := u.2 1 7) (hD.2.2)
  rw [hu] at hi ⊢
  generalize f_X2_nameIndex_4 u (Int64.ofNat n) = r at hi ⊢
  generalize f_X12_find_85 w p0 (u.1 4 (cp s)) = q at hf ⊢
  -- found i by the reference: the word is g s i
  have hfound : ∀ i : Nat, (i : Int) < (u.1 4 (cp s)).toInt → w.2 90 (bh s + i) = Int64.ofNat (ph 8 n) → g s i = n := by
    intro i h1 h2
    obtain ⟨a1, a2, -⟩ := g1 s hs i h1
    rw [a2] at h2
    exact (wd_eq a1 hn).mp h2
  rcases hi with ⟨k, k1, k2, k3⟩ | ⟨k1, k2⟩
  · obtain ⟨s', i', b1, b2, b3, b4, b5⟩ := g2 k k1
    have hk : r.toNatClampNeg = k := by have := i_cl (x := r) (by omega); omega
    have e : g s' i' = n := by
      rw [b5] at k2
      exact (wd_eq2 (g1 s' b1 i' b2).1 hn).mp k2
    rw [hk]
    by_cases es : s' = s
    · subst es
      refine Or.inl ⟨i', b2, by omega, b3, b4, ?_⟩
      rcases hf with ⟨j, j1, j2, j3⟩ | ⟨j1, -⟩
      · have := (g3 s' s' j i' hs hs j1 b2 ((hfound j j1 j2).trans e.symm)).2
        rw [j3, this]
      · exact absurd (by rw [(g1 s' hs i' b2).2.1, e]) (j1 i' b2)
    · refine Or.inr ⟨Or.inr ⟨by omega, by rw [b3]; omega⟩, ?_⟩
      rcases hf with ⟨j, j1, j2, -⟩ | ⟨-, j2⟩
      · exact absurd (g3 s s' j i' hs b1 j1 b2 ((hfound j j1 j2).trans e.symm)).1.symm es
      · exact j2
  · refine Or.inr ⟨Or.inl k2, ?_⟩
    rcases hf with ⟨j, j1, j2, -⟩ | ⟨-, j2⟩
    · obtain ⟨a1, -, k, a3, a4⟩ := g1 s hs j j1
      rw [hfound j j1 j2] at a4
      exact absurd a4 (k1 k a3)
    · exact j2
/-- a known name, seen by both; it isn't gone behind yet -/
theorem known4_sim {u w : ac_U} {s : Nat} {p0 p1 : Int32} (h3 : Tk u w) (hN : Nq u w) (hs : s < 4) (hp1 : p1.toInt = s) (hp0 : p0.toInt = bh s) : Tw (f_X10_isKnown_1_4 u p1) (f_X12_looksAt_85 w p0 (u.1 4 (cp s))) (fun u' w' => ∃ v : Int32, u' = pI u 1 9 v ∧ w' = pI w 85 18 v ∧ 0 ≤ v.toInt ∧ v.toInt < (u.1 4 (cp s)).toInt) := by
  have hn := isName_k h3 (fun _ _ => rfl)
  have hbeg := h3.1
  simp only [f_X10_isKnown_1_4, K_X10_isKnown_1_4_38, f_X12_looksAt_85, vl, bd]
  by_cases hk : (u.1 1 6).toInt = 2
  · rw [if_pos hk, hn.1 hk, if_pos (show (1 : Int32).toInt ≠ 0 by decide)]
    obtain ⟨n, n1, n2, n3⟩ := h3.name hk
    have hsp := kn4_sp hN n1 n2 n3 hs hp0
    have hcnt := hN.2.1 s hs
    generalize f_X2_nameIndex_4 u (u.2 1 7) = r at hsp ⊢
    generalize f_X12_find_85 w p0 (u.1 4 (cp s)) = q at hsp ⊢
    have hbad : Tw (f_X10_fail_1 u (3 : Int32)) (pI (pI (pI w 85 18 q) 85 15 (3 : Int32)) 85 16 ((pI w 85 18 q).1 85 12), 0) (fun u' w' => ∃ v : Int32, u' = pI u 1 9 v ∧ w' = pI w 85 18 v ∧ 0 ≤ v.toInt ∧ v.toInt < (u.1 4 (cp s)).toInt) := by
      have hb2 : u.1 1 5 = (pI w 85 18 q).1 85 12 := by rw [pI_k (by decide)]; exact hbeg
      exact Or.inr ⟨rfl, rfl, ft_mk hb2⟩
    rcases hsp with ⟨i, i1, i2, i3, i4, i5⟩ | ⟨i1, i2⟩
    · rw [if_neg (show ¬ r.toInt = -1 by omega), if_pos (show (u.1 11 r.toNatClampNeg).toInt = p1.toInt by omega), if_pos (show 0 ≤ q.toInt by omega)]
      have e : u.1 12 r.toNatClampNeg = q := Int32.toInt_inj.mp (by omega)
      refine Or.inl ⟨rfl, rfl, q, ?_, rfl, by omega, by omega⟩
      show pI u 1 9 (u.1 12 r.toNatClampNeg) = pI u 1 9 q
      rw [e]
    · rw [if_neg (show ¬ 0 ≤ q.toInt by omega)]
      have e0 : ∀ x : ac_U, (if (f_X12_bad_85 x (3 : Int32)).2.toInt = 0 then ((f_X12_bad_85 x (3 : Int32)).1, (0 : Int32)) else ((f_X12_bad_85 x (3 : Int32)).1, 0)) = (pI (pI x 85 15 (3 : Int32)) 85 16 (x.1 85 12), 0) := fun x => if_pos t0i
      rw [e0]
      rcases i1 with i1 | i1
      · rw [if_pos i1]; exact hbad
      · rw [if_neg (show ¬ r.toInt = -1 by omega), if_neg (show ¬ (u.1 11 r.toNatClampNeg).toInt = p1.toInt by omega)]; exact hbad
  · rw [if_neg hk, hn.2 hk, if_neg (show ¬ (0 : Int32).toInt ≠ 0 by decide)]
    exact Tw.bad hbeg

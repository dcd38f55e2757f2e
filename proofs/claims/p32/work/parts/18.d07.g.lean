/-! Pure: numbers, signs, known and new names are taken alike. -/
theorem takeKnown_sim {u w : ac_U} {s : Nat} {p0 p1 : Int32} (h : S1 u w) (hs : s < 4) (hp1 : p1.toInt = s) (hp0 : p0.toInt = bs s) : Tw (f_X10_takeKnown_1_13 u p1) (f_X12_takesName_85 w p0 (u.1 13 (cp s))) (fun u' w' => S1 u' w' ∧ CG u u' ∧ RG w w' ∧ u'.1 1 9 = w'.1 85 18 ∧ 0 ≤ (u'.1 1 9).toInt ∧ (u'.1 1 9).toInt < (u.1 13 (cp s)).toInt) := by
  obtain ⟨h0, hc⟩ := h.read
  have e13 : (f_X10_readNext_1 u).1 13 (cp s) = u.1 13 (cp s) := hc.1 13 _ (by omega)
  have hk := known_sim h0 hs hp1 hp0
  rw [e13] at hk
  simp only [f_X10_takeKnown_1_13, f_X12_takesName_85, vl, bd]
  rcases hk with ⟨k1, k2, k3, k4, k5, k6, k7⟩ | ⟨k1, k2, k3⟩
  · rw [k2, if_pos (show (1 : Int32).toInt ≠ 0 by decide)]
    obtain ⟨n1, n2⟩ := k3.next
    refine Or.inl ⟨k1, rfl, n1, hc.g.tr k4, k5.tr n2.g, ?_, k7⟩
    rw [n2.1 85 18 (by omega)]
    exact k6
  · rw [k2, if_neg (show ¬ (0 : Int32).toInt ≠ 0 by decide)]
    exact Or.inr ⟨k1, rfl, k3⟩
/-- the second name of a line: seen by both, not gone behind -/
theorem takeLook_sim {u w : ac_U} {s : Nat} {p0 p1 : Int32} (h : S1 u w) (hs : s < 4) (hp1 : p1.toInt = s) (hp0 : p0.toInt = bs s) : Tw (f_X10_takeKnown_1_13 u p1) (f_X12_looksAt_85 w p0 (u.1 13 (cp s))) (fun u' w' => S0 u' w' ∧ CG u u' ∧ RG w w' ∧ u'.1 1 9 = w'.1 85 18 ∧ 0 ≤ (u'.1 1 9).toInt ∧ (u'.1 1 9).toInt < (u.1 13 (cp s)).toInt) := by
  obtain ⟨h0, hc⟩ := h.read
  have e13 : (f_X10_readNext_1 u).1 13 (cp s) = u.1 13 (cp s) := hc.1 13 _ (by omega)
  have hk := known_sim h0 hs hp1 hp0
  rw [e13] at hk
  simp only [f_X10_takeKnown_1_13, vl, bd]
  rcases hk with ⟨k1, k2, k3, k4, k5, k6, k7⟩ | ⟨k1, k2, k3⟩
  · exact Or.inl ⟨k1, k2, k3, hc.g.tr k4, k5, k6, k7⟩
  · exact Or.inr ⟨k1, k2, k3⟩
theorem in1 {u : ac_U} {v a b : Int32} (h : a.toInt ≤ v.toInt ∧ v.toInt ≤ b.toInt) : f_X12_isIn u v a b = 1 := by
  unfold f_X12_isIn; rw [if_neg (by omega), if_neg (by omega)]
theorem in0 {u : ac_U} {v a b : Int32} (h : ¬ (a.toInt ≤ v.toInt ∧ v.toInt ≤ b.toInt)) : f_X12_isIn u v a b = 0 := by
  unfold f_X12_isIn K_X12_isIn_14
  by_cases h1 : v.toInt < a.toInt
  · rw [if_pos h1]
  · rw [if_neg h1, if_pos (by omega)]
theorem takeNumber_sim {u w : ac_U} {p0 p1 q0 : Int32} (h : S1 u w) (hq : q0 = p0) : Tw (f_X10_takeNumber_1 u p0 p1) (f_X12_takes_85 w q0 p1) (fun u' w' => S1 u' w' ∧ CG u u' ∧ RG w w' ∧ u'.1 1 8 = w'.1 85 18 ∧ p0.toInt ≤ (u'.1 1 8).toInt ∧ (u'.1 1 8).toInt ≤ p1.toInt) := by
  subst hq
  obtain ⟨h0, hc⟩ := h.read
  obtain ⟨h1, h2, h3⟩ := h0
  have hbeg := h3.1
  simp only [f_X10_takeNumber_1, K_X10_takeNumber_1_34, f_X12_takes_85, vl, bd]
  generalize f_X10_readNext_1 u = u1 at h1 h2 h3 hc hbeg ⊢
  have e0 : ∀ x : ac_U, (if (f_X10_fail_1 x (2 : Int32)).2.toInt = 0 then ((f_X10_fail_1 x (2 : Int32)).1, (0 : Int32)) else ((f_X10_fail_1 x (2 : Int32)).1, 0)) = f_X10_fail_1 x (2 : Int32) := fun x => if_pos t0i
  rw [e0]
  by_cases hk : (u1.1 1 6).toInt = 3
  · have hn : (w.1 85 11).toInt = 2 ∧ u1.1 1 8 = w.1 85 14 := by
      obtain ⟨-, h | h | h | h | h⟩ := h3
      · omega
      · omega
      · exact h.2
      · have h4 := h.1; unfold isSg at h4; omega
      · obtain ⟨-, n, -, d1, d2⟩ := h
        exfalso
        by_cases hall : ∀ j : Nat, j < 27 → n ≠ toldN j
        · have := d2 hall; omega
        · obtain ⟨j, hj⟩ := Classical.not_forall.mp hall
          have hj1 : j < 27 := Classical.byContradiction (fun a => hj (fun b => absurd b a))
          have hj2 : n = toldN j := Classical.byContradiction (fun a => hj (fun _ => a))
          have := d1 j hj1 hj2
          omega
    rw [if_pos hk, if_pos hn.1, ← hn.2]
    by_cases a1 : (u1.1 1 8).toInt < q0.toInt
    · rw [if_pos a1, in0 (by omega), if_neg n0]
      exact Tw.bad hbeg
    · rw [if_neg a1]
      by_cases a2 : (u1.1 1 8).toInt ≤ p1.toInt
      · rw [if_pos a2, in1 (by omega), if_pos n1]
        have hr : RG w (pI w 85 18 (u1.1 1 8)) := RG.rf.pI (by omega)
        have hS : S0 u1 (pI w 85 18 (u1.1 1 8)) := by
          refine ⟨h1.to CG.rf hr, ?_, ?_⟩
          · unfold At; rw [pI_k (show 4 ≠ 18 by decide)]; exact h2
          · have e4 : (pI w 85 18 (u1.1 1 8)).1 85 12 = w.1 85 12 := pI_k (by decide)
            have e5 : (pI w 85 18 (u1.1 1 8)).1 85 11 = w.1 85 11 := pI_k (by decide)
            have e6 : (pI w 85 18 (u1.1 1 8)).1 85 14 = w.1 85 14 := pI_k (by decide)
            unfold Tk
            rw [e4, e5, e6]
            exact h3
        obtain ⟨n1, n2⟩ := hS.next
        refine Or.inl ⟨rfl, rfl, n1, hc.g, hr.tr n2.g, ?_, (show q0.toInt ≤ (u1.1 1 8).toInt by omega), a2⟩
        show u1.1 1 8 = (f_X12_next_85 (pI w 85 18 (u1.1 1 8))).1 85 18
        rw [n2.1 85 18 (by omega), pI_s]
      · rw [if_neg a2, in0 (by omega), if_neg n0]
        exact Tw.bad hbeg
  · have hn : (w.1 85 11).toInt ≠ 2 := by
      obtain ⟨-, h | h | h | h | h⟩ := h3
      · omega
      · omega
      · exact absurd h.1 hk
      · omega
      · omega
    rw [if_neg hk, if_neg hn]
    exact Tw.bad hbeg
theorem isSign_k {u w : ac_U} (h3 : Tk u w) : ((u.1 1 6).toInt = 59 → f_X12_isSign_85 w (59 : Int32) = 1) ∧ ((u.1 1 6).toInt ≠ 59 → f_X12_isSign_85 w (59 : Int32) = 0) := by
  have a59 : (59 : Int32).toInt = 59 := by decide
  have h0 : (w.1 85 11).toInt ≠ 3 → f_X12_isSign_85 w (59 : Int32) = 0 := fun q => by
    unfold f_X12_isSign_85 K_X12_isSign_85_20; rw [if_pos q]
  obtain ⟨-, h | h | h | h | h⟩ := h3
  · exact ⟨fun q => by omega, fun _ => h0 (by omega)⟩
  · exact ⟨fun q => by omega, fun _ => h0 (by omega)⟩
  · exact ⟨fun q => by omega, fun _ => h0 (by omega)⟩
  · obtain ⟨h1, h2, h4⟩ := h
    unfold f_X12_isSign_85 K_X12_isSign_85_20
    rw [if_neg (fun q => q h2), h4, a59]
    by_cases q : (u.1 1 6).toInt = 59
    · rw [if_neg (fun z => z q)]
      exact ⟨fun _ => rfl, fun z => absurd q z⟩
    · rw [if_pos q]
      exact ⟨fun z => absurd z q, fun _ => rfl⟩
  · obtain ⟨h1, n, -, d1, d2⟩ := h
    refine ⟨fun q => ?_, fun _ => h0 (by omega)⟩
    exfalso
    by_cases hall : ∀ j : Nat, j < 27 → n ≠ toldN j
    · have := d2 hall; omega
    · obtain ⟨j, hj⟩ := Classical.not_forall.mp hall
      have hj1 : j < 27 := Classical.byContradiction (fun a => hj (fun b => absurd b a))
      have hj2 : n = toldN j := Classical.byContradiction (fun a => hj (fun _ => a))
      have := d1 j hj1 hj2
      omega
/-- both stand before the sign that ends a line -/
theorem sign_sim {u w : ac_U} (h0 : S0 u w) : Tw (if (u.1 1 6).toInt = 59 then (u, 1) else f_X10_fail_1 u (1 : Int32)) (f_X12_sign_85 w (59 : Int32)) (fun u' w' => S1 u' w' ∧ CG u u' ∧ RG w w') := by
  have hs := isSign_k h0.2.2
  simp only [f_X12_sign_85, vl, bd]
  by_cases q : (u.1 1 6).toInt = 59
  · rw [if_pos q, hs.1 q, if_pos (show (1 : Int32).toInt ≠ 0 by decide)]
    obtain ⟨n1, n2⟩ := h0.next
    exact Or.inl ⟨rfl, rfl, n1, CG.rf, n2.g⟩
  · rw [if_neg q, hs.2 q, if_neg (show ¬ (0 : Int32).toInt ≠ 0 by decide)]
    exact Tw.bad h0.2.2.1
theorem takeSign_sim {u w : ac_U} (h : S1 u w) : Tw (f_X10_takeSign_1 u (59 : Int32)) (f_X12_sign_85 w (59 : Int32)) (fun u' w' => S1 u' w' ∧ CG u u' ∧ RG w w') := by
  obtain ⟨h0, hc⟩ := h.read
  have hk := sign_sim h0
  have e : f_X10_takeSign_1 u (59 : Int32) = if ((f_X10_readNext_1 u).1 1 6).toInt = 59 then (f_X10_readNext_1 u, 1) else f_X10_fail_1 (f_X10_readNext_1 u) (1 : Int32) := by
    simp only [f_X10_takeSign_1, K_X10_takeSign_1_20, vl, bd]
    have a59 : (59 : Int32).toInt = 59 := by decide
    rw [a59]
    by_cases q : ((f_X10_readNext_1 u).1 1 6).toInt = 59
    · rw [if_pos q, if_pos q]
    · rw [if_neg q, if_neg q]
      exact if_pos t0i
  rw [e]
  rcases hk with ⟨k1, k2, k3, k4, k5⟩ | k
  · exact Or.inl ⟨k1, k2, k3, hc.g.tr k4, k5⟩
  · exact Or.inr k
/-- a word that is new to both -/
theorem nw_sp {u w : ac_U} {n : Nat} (hD : Dr u w) (hn : n < 32 ^ 7) (hu : u.2 1 7 = Int64.ofNat n) (hw : w.2 85 17 = Int64.ofNat (ph 8 n)) : ((f_X2_nameIndex_13 u (u.2 1 7)).toInt = -1 ∧ (∀ k : Nat, (k : Int) < (u.1 13 8).toInt → u.2 19 k ≠ Int64.ofNat n) ∧ (f_X12_find_85 w (26 : Int32) (u.1 13 1)).toInt = -1 ∧ (f_X12_find_85 w (34 : Int32) (u.1 13 4)).toInt = -1 ∧ (f_X12_find_85 w (38 : Int32) (u.1 13 5)).toInt = -1 ∧ (f_X12_find_85 w (44 : Int32) (u.1 13 6)).toInt = -1) ∨ ((f_X2_nameIndex_13 u (u.2 1 7)).toInt ≠ -1 ∧ (0 ≤ (f_X12_find_85 w (26 : Int32) (u.1 13 1)).toInt ∨ 0 ≤ (f_X12_find_85 w (34 : Int32) (u.1 13 4)).toInt ∨ 0 ≤ (f_X12_find_85 w (38 : Int32) (u.1 13 5)).toInt ∨ 0 ≤ (f_X12_find_85 w (44 : Int32) (u.1 13 6)).toInt)) := by
  have k0 := kn_sp (s := 0) (p0 := (26 : Int32)) hD hn hu hw (by decide) (by decide)
  have k1 := kn_sp (s := 1) (p0 := (34 : Int32)) hD hn hu hw (by decide) (by decide)
  have k2 := kn_sp (s := 2) (p0 := (38 : Int32)) hD hn hu hw (by decide) (by decide)
  have k3 := kn_sp (s := 3) (p0 := (44 : Int32)) hD hn hu hw (by decide) (by decide)
  have c0 : cp 0 = 1 := rfl
  have c1 : cp 1 = 4 := rfl
  have c2 : cp 2 = 5 := rfl
  have c3 : cp 3 = 6 := rfl
  rw [c0] at k0
  rw [c1] at k1
  rw [c2] at k2
  rw [c3] at k3
  have hi := ni_sp (u := u) (X := u.2 1 7) (cp_names hD)
  generalize f_X12_find_85 w (26 : Int32) (u.1 13 1) = q0 at k0 ⊢
  generalize f_X12_find_85 w (34 : Int32) (u.1 13 4) = q1 at k1 ⊢
  generalize f_X12_find_85 w (38 : Int32) (u.1 13 5) = q2 at k2 ⊢
  generalize f_X12_find_85 w (44 : Int32) (u.1 13 6) = q3 at k3 ⊢
  generalize f_X2_nameIndex_13 u (u.2 1 7) = r at k0 k1 k2 k3 hi ⊢
  rcases hi with ⟨k, a1, a2, a3⟩ | ⟨a1, a2⟩
  · right
    refine ⟨by omega, ?_⟩
    obtain ⟨g, -, g2, -⟩ := hD.2.2.2.2.2.1
    obtain ⟨s, i, b1, b2, b3, b4, b5⟩ := g2 k a1
    have hk : r.toNatClampNeg = k := by have := i_cl (x := r) (by omega); omega
    rw [hk] at k0 k1 k2 k3
    rcases (show s = 0 ∨ s = 1 ∨ s = 2 ∨ s = 3 by omega) with e | e | e | e <;> subst e
    · rcases k0 with ⟨j, -, -, -, -, z⟩ | ⟨z, -⟩ <;> omega
    · rcases k1 with ⟨j, -, -, -, -, z⟩ | ⟨z, -⟩ <;> omega
    · rcases k2 with ⟨j, -, -, -, -, z⟩ | ⟨z, -⟩ <;> omega
    · rcases k3 with ⟨j, -, -, -, -, z⟩ | ⟨z, -⟩ <;> omega
  · left
    refine ⟨a2, fun k hk => by rw [← hu]; exact a1 k hk, ?_, ?_, ?_, ?_⟩
    · rcases k0 with ⟨j, -, z, -⟩ | ⟨-, z⟩ <;> omega
    · rcases k1 with ⟨j, -, z, -⟩ | ⟨-, z⟩ <;> omega
    · rcases k2 with ⟨j, -, z, -⟩ | ⟨-, z⟩ <;> omega
    · rcases k3 with ⟨j, -, z, -⟩ | ⟨-, z⟩ <;> omega
/-- a new name; the reference has laid it at the place t, behind the names of its sort -/
def NwP (u w : ac_U) (t : Nat) (u' w' : ac_U) : Prop := S1 u' w' ∧ CG u u' ∧ (∀ c k, ¬ (c = 85 ∧ (k = 4 ∨ (11 ≤ k ∧ k ≤ 18))) → w'.1 c k = w.1 c k) ∧ ∃ n, n < 32 ^ 7 ∧ u'.2 1 7 = Int64.ofNat n ∧ w'.2 90 t = Int64.ofNat (ph 8 n) ∧ ∀ k : Nat, (k : Int) < (u'.1 13 8).toInt → u'.2 19 k ≠ Int64.ofNat n
theorem takeNew_sim {u w : ac_U} {s : Nat} {p0 : Int32} (h : S1 u w) (hs : s < 4) (hp0 : p0.toInt = bs s + (u.1 13 (cp s)).toInt) (hcap : bs s + (u.1 13 (cp s)).toInt < bs (s + 1) ∨ s = 3) : Tw (f_X10_takeNew_1_13 u) (f_X12_fresh_85 w p0) (NwP u w p0.toNatClampNeg) := by
  obtain ⟨h0, hc⟩ := h.read
  obtain ⟨h1, h2, h3⟩ := h0
  have hbeg := h3.1
  have hn := isName_k h3 h1.2.2.2.1
  have hc0 := cp_cnt h1.2.2.2.2 hs
  have hb0 := bs_60 hs
  have e13s : (f_X10_readNext_1 u).1 13 = u.1 13 := funext fun k => hc.1 13 k (by omega)
  simp only [f_X10_takeNew_1_13, K_X10_takeNew_1_13_38, f_X12_fresh_85, K_X12_fresh_85_74, vl, bd]
  generalize f_X10_readNext_1 u = u1 at h1 h2 h3 hc hbeg hn hc0 e13s ⊢
  have e0 : ∀ x : ac_U, (if (f_X10_fail_1 x (3 : Int32)).2.toInt = 0 then ((f_X10_fail_1 x (3 : Int32)).1, (0 : Int32)) else ((f_X10_fail_1 x (3 : Int32)).1, 0)) = f_X10_fail_1 x (3 : Int32) := fun x => if_pos t0i
  rw [e0]
  rw [e13s] at hc0
  by_cases hk : (u1.1 1 6).toInt = 2
  · rw [if_pos hk, hn.1 hk, if_pos (show (1 : Int32).toInt ≠ 0 by decide)]
    obtain ⟨n, n1, n2, n3⟩ := h3.name hk
    have hsp := nw_sp h1.2.2.2.2 n1 n2 n3
    have d := h1.2.2.2.2.1
    rw [← d 1 (by decide), ← d 4 (by decide), ← d 5 (by decide), ← d 6 (by decide)]
    generalize f_X2_nameIndex_13 u1 (u1.2 1 7) = r at hsp ⊢
    generalize f_X12_find_85 w (26 : Int32) (u1.1 13 1) = q0 at hsp ⊢
    generalize f_X12_find_85 w (34 : Int32) (u1.1 13 4) = q1 at hsp ⊢
    generalize f_X12_find_85 w (38 : Int32) (u1.1 13 5) = q2 at hsp ⊢
    generalize f_X12_find_85 w (44 : Int32) (u1.1 13 6) = q3 at hsp ⊢
    rcases hsp with ⟨a1, a2, a3, a4, a5, a6⟩ | ⟨a1, a2⟩
    · rw [if_pos a1, if_neg (show ¬ 0 ≤ q0.toInt by omega), if_neg (show ¬ 0 ≤ q1.toInt by omega), if_neg (show ¬ 0 ≤ q2.toInt by omega), if_pos (show q3.toInt < 0 by omega)]
      have hpc := i_cl (x := p0) (by omega)
      -- the place is none of the told names'
      have hSm : Sm u1 (pL w 90 p0.toNatClampNeg (w.2 85 17)) := by
        obtain ⟨m1, m2, m3, m4, m5⟩ := h1
        refine ⟨m1, m2, m3, fun k hk2 => ?_, ?_⟩
        · exact m4 k hk2
        · obtain ⟨d1, d2, d3, d4, d5, ⟨g, g1, g2, g3⟩, d7⟩ := m5
          refine ⟨d1, d2, d3, d4, d5, ⟨g, fun s' hs' i hi => ?_, g2, g3⟩, d7⟩
          obtain ⟨b1, b2, b3⟩ := g1 s' hs' i hi
          refine ⟨b1, ?_, b3⟩
          rw [pL_k, b2]
          have hcc := cp_cnt (u := u1) (w := w) ⟨d1, d2, d3, d4, d5, ⟨g, g1, g2, g3⟩, d7⟩ hs'
          obtain ⟨c1, c2, c3, c4, c5, c6, c7, c8⟩ := d2
          rw [e13s] at hi c1 c4 c5 c6
          intro hq
          have hq2 : (bs s' : Int) + i = bs s + (u.1 13 (cp s)).toInt := by omega
          rcases (show s = 0 ∨ s = 1 ∨ s = 2 ∨ s = 3 by omega) with e | e | e | e <;> subst e <;> rcases (show s' = 0 ∨ s' = 1 ∨ s' = 2 ∨ s' = 3 by omega) with e' | e' | e' | e' <;> subst e' <;> simp [bs, cp] at hq2 hi hcap <;> omega
      have hS0 : S0 u1 (pL w 90 p0.toNatClampNeg (w.2 85 17)) := by
        refine ⟨hSm, h2, ?_⟩
        unfold Tk Wd
        rw [pL_c (show 85 ≠ 90 by decide)]
        exact h3
      obtain ⟨z1, z2⟩ := hS0.next
      refine Or.inl ⟨rfl, rfl, z1, hc.g, fun c k q => ?_, n, n1, n2, ?_, a2⟩
      · rw [z2.1 c k (by omega)]
        rfl
      · rw [z2.2 90 _ (by omega), pL_s]
        exact n3
    · rw [if_neg a1]
      have hb : Tw (f_X10_fail_1 u1 (3 : Int32)) (f_X12_bad_85 w (3 : Int32)) (NwP u w p0.toNatClampNeg) := Tw.bad hbeg
      by_cases b0 : 0 ≤ q0.toInt
      · rw [if_pos b0]; exact hb
      · rw [if_neg b0]
        by_cases b1 : 0 ≤ q1.toInt
        · rw [if_pos b1]; exact hb
        · rw [if_neg b1]
          by_cases b2 : 0 ≤ q2.toInt
          · rw [if_pos b2]; exact hb
          · rw [if_neg b2, if_neg (show ¬ q3.toInt < 0 by omega)]
            exact hb
  · rw [if_neg hk, hn.2 hk, if_neg (show ¬ (0 : Int32).toInt ≠ 0 by decide)]
    exact Tw.bad hbeg

/-! The calls two by two: what is alike before is alike behind. -/
theorem tw_feed {u u1 u2 : ac_U} {L1 L2 : List (Nat × Option Nat)} {a b c d e r1 r2 : Int32} (hF1 : ac_Fr L1 u u1) (hF2 : ac_Fr L2 u1 u2) (h1 : L1.all (fun e => decide (e.1 < 85)) = true) (h2 : L2.all (fun e => decide (85 ≤ e.1)) = true) (x1 : f_X11_feed_0 u a b c d e = (u1, r1)) (x2 : f_X12_feed_85 u1 a b c d e = (u2, r2)) (hR : ac_R rg u) (hl : (u.1 1 2).toInt = (u.1 85 2).toInt) (hB : byI u) : r1 = r2 ∧ byI u2 := by
  have hb : BE u u1 := ⟨by rw [kC hF1 h1 (by decide)]; exact Int32.toInt_inj.mp hl, fun k => by rw [kC hF1 h1 (by decide)]; exact hB k⟩
  have h := feed_sim (a := a) (b := b) (c := c) (d := d) (e := e) hb (hR 1 2)
  rw [x1, x2] at h
  exact ⟨h.1, fun k => by rw [kR hF2 h2 (by decide)]; exact h.2.2 k⟩
theorem tw_house {u u1 u2 : ac_U} {L1 L2 : List (Nat × Option Nat)} {r1 r2 : Int32} (hF1 : ac_Fr L1 u u1) (hF2 : ac_Fr L2 u1 u2) (h1 : L1.all (fun e => decide (e.1 < 85)) = true) (h2 : L2.all (fun e => decide (85 ≤ e.1)) = true) (x1 : f_X11_house_0 u = (u1, r1)) (x2 : f_X12_house_85 u1 = (u2, r2)) (hR : ac_R rg u) (hR2 : ac_R rg u2) (hl : (u.1 1 2).toInt = (u.1 85 2).toInt) (hB : byI u) (hX : hxI u) : r1 = r2 ∧ hxI u2 := by
  have e87 : u1.1 87 = u.1 87 := funext fun k => kC hF1 h1 (by decide)
  have hE : HE u u1 := by
    unfold HE
    rw [e87]
    exact hX.1
  have h := house_sim (u := u) (w := u1) (fun k => by rw [kC hF1 h1 (by decide)]; exact hB k) (by rw [kC hF1 h1 (by decide)]; exact Int32.toInt_inj.mp hl) ⟨hR 1 2, fun k => hR 2 k⟩ (fun _ _ => rfl) (fun _ _ => rfl) hE
  rw [x1, x2] at h
  have f : ∀ c, c < 85 → u2.1 c = u1.1 c := fun c hc => funext fun k => kR hF2 h2 hc
  refine ⟨h.1, ?_, (hR2 4 3).2, (hR2 4 7).2⟩
  rw [f 4 (by decide), f 5 (by decide), f 6 (by decide), f 9 (by decide)]
  exact h.2
theorem tw_image {u u1 u2 : ac_U} {L1 L2 : List (Nat × Option Nat)} {p r1 r2 : Int32} (hF1 : ac_Fr L1 u u1) (hF2 : ac_Fr L2 u1 u2) (h1 : L1.all (fun e => decide (e.1 < 85)) = true) (h2 : L2.all (fun e => decide (85 ≤ e.1)) = true) (x1 : f_X11_image_0 u p = (u1, r1)) (x2 : f_X12_image_85 u1 p = (u2, r2)) (hX : hxI u) (hM : imI u) : imI u2 := by
  have f : ∀ c, c < 85 → u2.1 c = u1.1 c := fun c hc => funext fun k => kR hF2 h2 hc
  have g : ∀ c k, 85 ≤ c → u1.1 c k = u.1 c k := fun c k hc => kC hF1 h1 hc
  have hs := image_sp u1 p
  rw [x2] at hs
  unfold imI hyI hzI
  rw [f 53 (by decide), f 54 (by decide), f 55 (by decide), f 56 (by decide), f 57 (by decide), f 60 (by decide), f 64 (by decide), f 65 (by decide), f 66 (by decide), f 69 (by decide)]
  by_cases hp : p.toInt < 0 ∨ 1 < p.toInt
  · have e1 : u1 = u := by
      unfold f_X11_image_0 at x1
      rcases hp with q | q
      · rw [if_pos q] at x1
        exact (congrArg Prod.fst x1).symm
      · rw [if_neg (by omega), if_neg (by omega)] at x1
        exact (congrArg Prod.fst x1).symm
    have e102 : u2.1 102 = u.1 102 := funext fun k => (hs.2 hp k).trans (g 102 k (by decide))
    rw [e1, e102]
    exact hM
  · have hp' : p.toInt = 0 ∨ p.toInt = 1 := by omega
    rcases hp' with q | q
    · have e1 : u1 = f_X4_take_53_4_24_43 u := by
        unfold f_X11_image_0 at x1
        rw [if_neg (by omega), if_pos (by omega), if_pos q] at x1
        exact (congrArg Prod.fst x1).symm
      obtain ⟨s1, s2⟩ := hs.1 0 (by omega) (by decide)
      obtain ⟨k1, k2, k3, k4⟩ := sp_take_53 u
      have fr := q_X4_take_53_4_24_43 u
      rw [← e1] at k1 k2 k3 k4 fr
      refine ⟨fun _ => HX.cg hX k1 k2 k3 k4 (fun k hk => ?_), fun z => HX.cg (hM.2 ?_) (fun j _ => fr 64 j rfl) (fun j _ => fr 65 j rfl) (fun j _ => fr 66 j rfl) (fun j _ => fr 69 j rfl) (fun k hk => ?_)⟩
      · have := s1 k (by omega)
        rw [Nat.mul_zero, Nat.zero_add] at this
        rw [this, g 87 k (by decide)]
      · rw [← fr 54 4 rfl]; exact z
      · show u2.1 102 (657 + k) = u.1 102 (657 + k)
        rw [s2 _ (by omega), g 102 _ (by decide)]
    · have e1 : u1 = f_X4_take_54_4_24_43 u := by
        unfold f_X11_image_0 at x1
        rw [if_neg (by omega), if_pos (by omega), if_neg (by omega)] at x1
        exact (congrArg Prod.fst x1).symm
      obtain ⟨s1, s2⟩ := hs.1 1 (by omega) (by decide)
      obtain ⟨k1, k2, k3, k4⟩ := sp_take_54 u
      have fr := q_X4_take_54_4_24_43 u
      rw [← e1] at k1 k2 k3 k4 fr
      refine ⟨fun z => HX.cg (hM.1 ?_) (fun j _ => fr 55 j rfl) (fun j _ => fr 56 j rfl) (fun j _ => fr 57 j rfl) (fun j _ => fr 60 j rfl) (fun k hk => ?_), fun _ => HX.cg hX k1 k2 k3 k4 (fun k hk => ?_)⟩
      · rw [← fr 53 4 rfl]; exact z
      · rw [s2 _ (by omega), g 102 _ (by decide)]
      · have := s1 k (by omega)
        rw [Nat.mul_one] at this
        show u2.1 102 (657 + k) = _
        rw [this, g 87 k (by decide)]
theorem tw_restore {u u1 u2 : ac_U} {L1 L2 : List (Nat × Option Nat)} {p r1 r2 : Int32} (hF1 : ac_Fr L1 u u1) (hF2 : ac_Fr L2 u1 u2) (h1 : L1.all (fun e => decide (e.1 < 85)) = true) (h2 : L2.all (fun e => decide (85 ≤ e.1)) = true) (x1 : f_X11_restore_0 u p = (u1, r1)) (x2 : f_X12_restore_85 u1 p = (u2, r2)) (hg0 : (u.1 53 4).toInt = (u.1 104 0).toInt) (hg1 : (u.1 54 4).toInt = (u.1 104 1).toInt) (hX : hxI u) (hM : imI u) : hxI u2 := by
  have f : ∀ c, c < 85 → u2.1 c = u1.1 c := fun c hc => funext fun k => kR hF2 h2 hc
  have g : ∀ c k, 85 ≤ c → u1.1 c k = u.1 c k := fun c k hc => kC hF1 h1 hc
  obtain ⟨t1, t2, t3⟩ := restore_sp u1 p
  rw [x2] at t1 t2 t3
  unfold hxI
  rw [f 4 (by decide), f 5 (by decide), f 6 (by decide), f 9 (by decide)]
  have same : u1 = u → (∀ k, u2.1 87 k = u1.1 87 k) → HX (u1.1 4) (u1.1 5) (u1.1 6) (u1.1 9) (u2.1 87) := fun e h => by
    subst e
    exact HX.cg hX (fun _ _ => rfl) (fun _ _ => rfl) (fun _ _ => rfl) (fun _ _ => rfl) (fun k _ => h k)
  unfold f_X11_restore_0 at x1
  by_cases hp : p.toInt < 0 ∨ 1 < p.toInt
  · refine same ?_ (t3 hp).2
    rcases hp with q | q
    · rw [if_pos q] at x1
      exact (congrArg Prod.fst x1).symm
    · rw [if_neg (by omega), if_pos (by omega)] at x1
      exact (congrArg Prod.fst x1).symm
  · rw [if_neg (by omega), if_neg (by omega)] at x1
    by_cases q : p.toInt = 0
    · rw [if_pos q] at x1
      by_cases z : (u.1 53 4).toInt ≠ 0
      · rw [if_pos z, if_pos q] at x1
        have e1 : u1 = f_X4_give_53_4_24_43 u := (congrArg Prod.fst x1).symm
        obtain ⟨k1, k2, k3, k4⟩ := sp_give_53 u
        rw [← e1] at k1 k2 k3 k4
        have hs := (t1 0 (by omega) (by decide) (by rw [g 104 0 (by decide)]; omega)).2
        refine HX.cg (hM.1 z) k1 k2 k3 k4 (fun k hk => ?_)
        have := hs k (by omega)
        rw [Nat.mul_zero, Nat.zero_add] at this
        exact this.trans (g 102 k (by decide))
      · rw [if_neg z] at x1
        refine same (congrArg Prod.fst x1).symm ?_
        exact (t2 0 (by omega) (by decide) (by rw [g 104 0 (by decide)]; omega)).2
    · rw [if_neg q] at x1
      by_cases z : (u.1 54 4).toInt ≠ 0
      · rw [if_pos z, if_neg q] at x1
        have e1 : u1 = f_X4_give_54_4_24_43 u := (congrArg Prod.fst x1).symm
        obtain ⟨k1, k2, k3, k4⟩ := sp_give_54 u
        rw [← e1] at k1 k2 k3 k4
        have hs := (t1 1 (by omega) (by decide) (by rw [g 104 1 (by decide)]; omega)).2
        refine HX.cg (hM.2 z) k1 k2 k3 k4 (fun k hk => ?_)
        have := hs k (by omega)
        rw [Nat.mul_one] at this
        exact this.trans (g 102 _ (by decide))
      · rw [if_neg z] at x1
        refine same (congrArg Prod.fst x1).symm ?_
        exact (t2 1 (by omega) (by decide) (by rw [g 104 1 (by decide)]; omega)).2

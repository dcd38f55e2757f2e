/-! rings() alike. -/
theorem rb_loop {u : ac_U} (hP : 0 ≤ (u.1 4 6).toInt ∧ (u.1 4 6).toInt ≤ 8) (hz : Dz (u.1 4) (u.1 5) (u.1 9)) : ∀ (m fuel : Nat) (x1 x2 : Int32), x2.toInt = (u.1 4 6).toInt - (m : Int) → (m : Int) ≤ (u.1 4 6).toInt → m < fuel → (0 ≤ x1.toInt ∧ x1.toInt ≤ 255) → (0 ≤ (K_X2_ringBits_4_4 u fuel x1 x2).toInt ∧ (K_X2_ringBits_4_4 u fuel x1 x2).toInt ≤ 255) ∧ ∀ i, i < 8 → (vb (K_X2_ringBits_4_4 u fuel x1 x2) i ↔ (vb x1 i ∨ (x2.toInt ≤ i ∧ (i : Int) < (u.1 4 6).toInt ∧ vb (f_X2_brokenWith_4 u ((1 : Int32) <<< (nI i &&& 31))) i))) := by
  intro m
  induction m with
  | zero =>
    intro fuel x1 x2 hx _ hf h1
    obtain ⟨f, rfl⟩ : ∃ f, fuel = f + 1 := ⟨fuel - 1, by omega⟩
    have e : K_X2_ringBits_4_4 u (f + 1) x1 x2 = x1 := by
      show K_X2_ringBits_4_4_b (K_X2_ringBits_4_4 u f) u x1 x2 = x1
      unfold K_X2_ringBits_4_4_b
      rw [if_pos (by omega)]
    rw [e]
    refine ⟨h1, fun i hi => ⟨Or.inl, fun q => ?_⟩⟩
    rcases q with q | ⟨q1, q2, _⟩
    · exact q
    · omega
  | succ m ih =>
    intro fuel x1 x2 hx hm hf h1
    obtain ⟨f, rfl⟩ : ∃ f, fuel = f + 1 := ⟨fuel - 1, by omega⟩
    have hk := i_cl (x := x2) (by omega)
    have hn := nI_oI (x := x2) (by omega)
    have hx1 := step_1 hx hm (by omega)
    have e : K_X2_ringBits_4_4 u (f + 1) x1 x2 = K_X2_ringBits_4_4 u f (x1 ||| (f_X2_brokenWith_4 u ((1 : Int32) <<< (x2 &&& 31)) &&& (1 : Int32) <<< (x2 &&& 31))) (x2 + Int32.ofInt 1) := by
      show K_X2_ringBits_4_4_b (K_X2_ringBits_4_4 u f) u x1 x2 = _
      unfold K_X2_ringBits_4_4_b
      rw [if_neg (by omega)]
    have h1k : 0 ≤ ((1 : Int32) <<< (x2 &&& 31)).toInt ∧ ((1 : Int32) <<< (x2 &&& 31)).toInt ≤ 255 := by
      rw [hn]; exact one_255 (by omega)
    obtain ⟨i1, i2⟩ := ih f (x1 ||| (f_X2_brokenWith_4 u ((1 : Int32) <<< (x2 &&& 31)) &&& (1 : Int32) <<< (x2 &&& 31))) (x2 + Int32.ofInt 1) hx1 (by omega) (by omega) (or_255 h1 (and_255 h1k))
    rw [e]
    refine ⟨i1, fun i hi => (i2 i hi).trans ?_⟩
    have hb : vb ((1 : Int32) <<< (x2 &&& 31)) i ↔ i = x2.toNatClampNeg := by
      have := vb_1 (f := x2.toNatClampNeg) (i := i) (by omega) hi
      rw [← hn] at this
      exact this
    rw [vb_or, vb_and, hb]
    refine ⟨fun q => ?_, fun q => ?_⟩
    · rcases q with (q | ⟨q1, q2⟩) | ⟨q1, q2, q3⟩
      · exact Or.inl q
      · subst q2
        rw [← hn]
        exact Or.inr ⟨by omega, by omega, q1⟩
      · exact Or.inr ⟨by omega, q2, q3⟩
    · rcases q with q | ⟨q1, q2, q3⟩
      · exact Or.inl (Or.inl q)
      · by_cases z : i = x2.toNatClampNeg
        · subst z
          rw [← hn] at q3
          exact Or.inl (Or.inr ⟨q3, rfl⟩)
        · exact Or.inr ⟨by omega, q2, q3⟩
theorem rr_loop {u w w0 : ac_U} (hE : HE u w) (hV : 0 ≤ (w.1 87 7).toInt ∧ (w.1 87 7).toInt ≤ 8) (hv : Vr w) : ∀ (m fuel : Nat) (x1 x2 : Int32), x2.toInt = (w.1 87 7).toInt - (m : Int) → (m : Int) ≤ (w.1 87 7).toInt → m < fuel → (0 ≤ x1.toInt ∧ x1.toInt ≤ 255) → ∃ y, K_X12_rings_85_9 w0 fuel w x1 x2 = (w, y) ∧ (0 ≤ y.toInt ∧ y.toInt ≤ 255) ∧ ∀ i, i < 8 → (vb y i ↔ (vb x1 i ∨ ∃ v : Nat, x2.toInt ≤ v ∧ (v : Int) < (w.1 87 7).toInt ∧ bl (Eg u) (fun i => i = (w.1 87 (90 + v)).toNatClampNeg) 8 (w.1 87 (98 + v)).toNatClampNeg ∧ (i = (w.1 87 (90 + v)).toNatClampNeg ∨ i = (w.1 87 (98 + v)).toNatClampNeg))) := by
  intro m
  induction m with
  | zero =>
    intro fuel x1 x2 hx _ hf h1
    obtain ⟨f, rfl⟩ : ∃ f, fuel = f + 1 := ⟨fuel - 1, by omega⟩
    refine ⟨x1, ?_, h1, fun i hi => ⟨Or.inl, fun q => ?_⟩⟩
    · show K_X12_rings_85_9_b (K_X12_rings_85_9 w0 f) w0 w x1 x2 = _
      unfold K_X12_rings_85_9_b
      rw [if_pos (by omega)]
    · rcases q with q | ⟨v, q1, q2, _⟩
      · exact q
      · omega
  | succ m ih =>
    intro fuel x1 x2 hx hm hf h1
    obtain ⟨f, rfl⟩ : ∃ f, fuel = f + 1 := ⟨fuel - 1, by omega⟩
    have hk := i_cl (x := x2) (by omega)
    have hx1 := step_1 hx hm (by omega)
    have o98 : (98 + x2).toNatClampNeg = 98 + x2.toNatClampNeg := off_n (by decide) (by omega) (by decide)
    have o90 : (90 + x2).toNatClampNeg = 90 + x2.toNatClampNeg := off_n (by decide) (by omega) (by decide)
    obtain ⟨⟨a1, a2⟩, b1, b2⟩ := hv x2.toNatClampNeg (by omega)
    have ca := i_cl (x := w.1 87 (90 + x2.toNatClampNeg)) a1
    have cb := i_cl (x := w.1 87 (98 + x2.toNatClampNeg)) b1
    have na := nI_oI a1
    have nb := nI_oI b1
    have hch : vbit (f_X12_chainOf_85 w (w.1 87 (90 + x2.toNatClampNeg))) (w.1 87 (98 + x2.toNatClampNeg)) ↔ bl (Eg u) (fun i => i = (w.1 87 (90 + x2.toNatClampNeg)).toNatClampNeg) 8 (w.1 87 (98 + x2.toNatClampNeg)).toNatClampNeg := by
      have := (rc_sp (u := u) (w := w) (k := (w.1 87 (90 + x2.toNatClampNeg)).toNatClampNeg) (by omega) hE hV hv).2 (w.1 87 (98 + x2.toNatClampNeg)).toNatClampNeg (by omega)
      rw [← na] at this
      exact (vbn b1).trans this
    by_cases q : vbit (f_X12_chainOf_85 w (w.1 87 (90 + x2.toNatClampNeg))) (w.1 87 (98 + x2.toNatClampNeg))
    · have oa : 0 ≤ ((1 : Int32) <<< (w.1 87 (90 + x2.toNatClampNeg) &&& 31)).toInt ∧ ((1 : Int32) <<< (w.1 87 (90 + x2.toNatClampNeg) &&& 31)).toInt ≤ 255 := by rw [na]; exact one_255 (by omega)
      have ob : 0 ≤ ((1 : Int32) <<< (w.1 87 (98 + x2.toNatClampNeg) &&& 31)).toInt ∧ ((1 : Int32) <<< (w.1 87 (98 + x2.toNatClampNeg) &&& 31)).toInt ≤ 255 := by rw [nb]; exact one_255 (by omega)
      have va : ∀ i, i < 8 → (vb ((1 : Int32) <<< (w.1 87 (90 + x2.toNatClampNeg) &&& 31)) i ↔ i = (w.1 87 (90 + x2.toNatClampNeg)).toNatClampNeg) := fun i hi => by
        have := vb_1 (f := (w.1 87 (90 + x2.toNatClampNeg)).toNatClampNeg) (i := i) (by omega) hi
        rw [← na] at this
        exact this
      have vbb : ∀ i, i < 8 → (vb ((1 : Int32) <<< (w.1 87 (98 + x2.toNatClampNeg) &&& 31)) i ↔ i = (w.1 87 (98 + x2.toNatClampNeg)).toNatClampNeg) := fun i hi => by
        have := vb_1 (f := (w.1 87 (98 + x2.toNatClampNeg)).toNatClampNeg) (i := i) (by omega) hi
        rw [← nb] at this
        exact this
      obtain ⟨y, y1, y2, y3⟩ := ih f (x1 ||| ((1 : Int32) <<< (w.1 87 (90 + x2.toNatClampNeg) &&& 31) ||| (1 : Int32) <<< (w.1 87 (98 + x2.toNatClampNeg) &&& 31))) (x2 + Int32.ofInt 1) hx1 (by omega) (by omega) (or_255 h1 (or_255 oa ob))
      refine ⟨y, ?_, y2, fun i hi => (y3 i hi).trans ?_⟩
      · rw [← y1]
        show K_X12_rings_85_9_b (K_X12_rings_85_9 w0 f) w0 w x1 x2 = _
        unfold K_X12_rings_85_9_b
        simp only [vl]
        rw [if_neg (by omega), o98, o90, bo_1 q, if_neg n1']
        rfl
      · rw [vb_or, vb_or, va i hi, vbb i hi]
        refine ⟨fun z => ?_, fun z => ?_⟩
        · rcases z with (z | z) | ⟨v, z1, z2⟩
          · exact Or.inl z
          · exact Or.inr ⟨x2.toNatClampNeg, by omega, by omega, hch.mp q, z⟩
          · exact Or.inr ⟨v, by omega, z2⟩
        · rcases z with z | ⟨v, z1, z2, z3, z4⟩
          · exact Or.inl (Or.inl z)
          · by_cases e : v = x2.toNatClampNeg
            · subst e; exact Or.inl (Or.inr z4)
            · exact Or.inr ⟨v, by omega, z2, z3, z4⟩
    · obtain ⟨y, y1, y2, y3⟩ := ih f x1 (x2 + Int32.ofInt 1) hx1 (by omega) (by omega) h1
      refine ⟨y, ?_, y2, fun i hi => (y3 i hi).trans ?_⟩
      · rw [← y1]
        show K_X12_rings_85_9_b (K_X12_rings_85_9 w0 f) w0 w x1 x2 = _
        unfold K_X12_rings_85_9_b
        simp only [vl]
        rw [if_neg (by omega), o98, o90, bo_0 q, if_pos t0i]
        rfl
      · refine ⟨fun z => ?_, fun z => ?_⟩
        · rcases z with z | ⟨v, z1, z2⟩
          · exact Or.inl z
          · exact Or.inr ⟨v, by omega, z2⟩
        · rcases z with z | ⟨v, z1, z2, z3, z4⟩
          · exact Or.inl z
          · by_cases e : v = x2.toNatClampNeg
            · subst e; exact absurd (hch.mpr z3) q
            · exact Or.inr ⟨v, by omega, z2, z3, z4⟩
theorem rings_sim {u w : ac_U} (hE : HE u w) (hP : 0 ≤ (u.1 4 6).toInt ∧ (u.1 4 6).toInt ≤ 8) (hV : 0 ≤ (w.1 87 7).toInt ∧ (w.1 87 7).toInt ≤ 8) (hz : Dz (u.1 4) (u.1 5) (u.1 9)) (hv : Vr w) : f_X11_rings_0 u = (f_X12_rings_85 w).2 := by
  have hp : (((u.1 4 6).toInt.toNat : Nat) : Int) = (u.1 4 6).toInt := Int.toNat_of_nonneg hP.1
  have hq : (((w.1 87 7).toInt.toNat : Nat) : Int) = (w.1 87 7).toInt := Int.toNat_of_nonneg hV.1
  obtain ⟨c1, c2⟩ := rb_loop hP hz (u.1 4 6).toInt.toNat 10 (0 : Int32) (0 : Int32) (by rw [t0i]; omega) (by omega) (by omega) (by decide)
  obtain ⟨y, y1, y2, y3⟩ := rr_loop (u := u) (w := pI w 85 0 (0 : Int32)) (w0 := w) hE hV hv (w.1 87 7).toInt.toNat 10 (0 : Int32) (0 : Int32) (show _ = (w.1 87 7).toInt - _ by rw [t0i]; omega) (show _ ≤ (w.1 87 7).toInt by omega) (by omega) (by decide)
  have h1 : f_X11_rings_0 u = K_X2_ringBits_4_4 u 10 (0 : Int32) (0 : Int32) := rfl
  have h2 : f_X12_rings_85 w = K_X12_rings_85_9 w 10 (pI w 85 0 (0 : Int32)) (0 : Int32) (0 : Int32) := rfl
  rw [h1, h2, y1]
  refine ext255 c1 y2 (fun i hi => (c2 i hi).trans (Iff.trans ?_ (y3 i hi).symm))
  have hS : ∀ k, k < 8 → ∀ i, St ((1 : Int32) <<< (nI k &&& 31)) i ↔ i = k := fun k hk i => ⟨fun q => (vb_1 hk q.1).mp q.2, fun q => by subst q; exact ⟨hk, (vb_1 hk hk).mpr rfl⟩⟩
  have hbw := (bw_sp (u := u) (p0 := (1 : Int32) <<< (nI i &&& 31)) hP hz).2 i hi
  refine ⟨fun q => ?_, fun q => ?_⟩
  · rcases q with q | ⟨_, q2, q3⟩
    · exact absurd q (vb_0 hi)
    · obtain ⟨j, j1, j2, j3⟩ := hbw.mp q3
      obtain ⟨v, v1, v2, v3⟩ := (eg_vow hE hv).mp j3
      refine Or.inr ⟨v, by rw [t0i]; omega, v1, ?_, Or.inl v2.symm⟩
      show bl (Eg u) (fun i => i = (w.1 87 (90 + v)).toNatClampNeg) 8 (w.1 87 (98 + v)).toNatClampNeg
      rw [v2, v3]
      exact bl_le (by decide) (bl_mono (fun a b => (hS i hi a).mp b) 7 j j2)
  · rcases q with q | ⟨v, _, v1, v2, v3⟩
    · exact absurd q (vb_0 hi)
    · have v1 : (v : Int) < (w.1 87 7).toInt := v1
      have v2 : bl (Eg u) (fun i => i = (w.1 87 (90 + v)).toNatClampNeg) 8 (w.1 87 (98 + v)).toNatClampNeg := v2
      have v3 : i = (w.1 87 (90 + v)).toNatClampNeg ∨ i = (w.1 87 (98 + v)).toNatClampNeg := v3
      have g := (eg_vow (u := u) hE hv (j := (w.1 87 (98 + v)).toNatClampNeg) (i := (w.1 87 (90 + v)).toNatClampNeg)).mpr ⟨v, v1, rfl, rfl⟩
      generalize (w.1 87 (90 + v)).toNatClampNeg = F at v2 v3 g
      generalize (w.1 87 (98 + v)).toNatClampNeg = S at v2 v3 g
      have gp := (hz.2 S g.1).2 F g.2.1 g.2.2
      have key : ∃ j, j < 8 ∧ bl (Eg u) (fun a => a = i) 7 j ∧ Eg u j i := by
        rcases v3 with z | z
        · subst z
          exact ⟨S, g.1, bl_7 (E := Eg u) (S := fun a => a = i) Eg8 (fun a q => by have q : a = i := q; subst q; exact g.2.1) (k := i) rfl v2, g⟩
        · subst z
          rcases (bl_un 8 i).mp v2 with q | ⟨t, t1, j, j1, j2, j3⟩
          · have q : i = F := q
            subst q
            exact ⟨i, g.1, bl_le (Nat.zero_le 7) (show bl (Eg u) (fun a => a = i) 0 i from rfl), g⟩
          · refine ⟨j, j1, bl_7 (E := Eg u) (S := fun a => a = i) Eg8 (fun a q => by have q : a = i := q; subst q; exact g.1) (k := i) rfl (bl_tr (n := 1) (S := fun a => a = i) (T := fun a => a = F) (fun a q => ?_) t j j2), j3⟩
            have q : a = F := q
            subst q
            exact Or.inr ⟨i, g.1, rfl, g⟩
      obtain ⟨j, j1, j2, j3⟩ := key
      refine Or.inr ⟨by rw [t0i]; omega, ?_, hbw.mpr ⟨j, j1, bl_mono (fun a b => (hS i hi a).mpr b) 7 j j2, j3⟩⟩
      rcases v3 with z | z
      · rw [z]; exact gp.1
      · rw [z]; exact gp.2

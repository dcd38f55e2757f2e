/-! chain() and rings() of the reference. -/
def Vr (w : ac_U) : Prop := ∀ v : Nat, (v : Int) < (w.1 87 7).toInt → (0 ≤ (w.1 87 (90 + v)).toInt ∧ (w.1 87 (90 + v)).toInt < 8) ∧ (0 ≤ (w.1 87 (98 + v)).toInt ∧ (w.1 87 (98 + v)).toInt < 8)
theorem bo_1 {u : ac_U} {x y : Int32} (h : vbit x y) : f_X12_bitOf u x y = 1 := by
  unfold vbit at h
  show (if ((x >>> (y &&& 31)) &&& 1).toInt ≠ 1 then (0 : Int32) else 1) = 1
  rw [if_neg (fun z => z h)]
theorem bo_0 {u : ac_U} {x y : Int32} (h : ¬ vbit x y) : f_X12_bitOf u x y = 0 := by
  unfold vbit at h
  show (if ((x >>> (y &&& 31)) &&& 1).toInt ≠ 1 then (0 : Int32) else 1) = 0
  rw [if_pos h]
theorem vbn {x y : Int32} (h : 0 ≤ y.toInt) : vbit x y ↔ vb x y.toNatClampNeg := by
  unfold vb
  rw [← nI_oI h]
/-- the vows are the steps -/
theorem eg_vow {u w : ac_U} (hE : HE u w) (hv : Vr w) {j i : Nat} : Eg u j i ↔ ∃ v : Nat, (v : Int) < (w.1 87 7).toInt ∧ (w.1 87 (90 + v)).toNatClampNeg = i ∧ (w.1 87 (98 + v)).toNatClampNeg = j := by
  have e7 : u.1 4 7 = w.1 87 7 := hE.1 7 (by decide)
  refine ⟨fun ⟨j8, i8, q⟩ => ?_, fun ⟨v, v1, v2, v3⟩ => ?_⟩
  · have hni : (nI i).toInt = i := nI_toInt (by omega)
    have hnj : (nI j).toInt = j := nI_toInt (by omega)
    have cj := i_cl (x := nI j) (by omega)
    have ci := i_cl (x := nI i) (by omega)
    have hx := hE.2.2.2 (nI i) (nI j) (by omega) (by omega) (by omega) (by omega)
    rw [show (nI j).toNatClampNeg = j by omega] at hx
    obtain ⟨v, v1, v2, v3⟩ := hx.mp q
    rw [e7] at v1
    exact ⟨v, v1, by rw [v2]; omega, by rw [v3]; omega⟩
  · obtain ⟨⟨a1, a2⟩, b1, b2⟩ := hv v v1
    have ca := i_cl (x := w.1 87 (90 + v)) a1
    have cb := i_cl (x := w.1 87 (98 + v)) b1
    have hx := hE.2.2.2 (w.1 87 (90 + v)) (w.1 87 (98 + v)) a1 a2 b1 b2
    have := hx.mpr ⟨v, by rw [e7]; exact v1, rfl, rfl⟩
    rw [vbn a1, v3, v2] at this
    exact ⟨by omega, by omega, this⟩
theorem rc_in {w : ac_U} {p0 : Int32} (B6 : Int32 → Int32 → Int32) (x3 : Int32) (hV : 0 ≤ (w.1 87 7).toInt ∧ (w.1 87 7).toInt ≤ 8) (hv : Vr w) (C : Nat → Prop) (hC : ∀ v : Nat, (v : Int) < (w.1 87 7).toInt → C (w.1 87 (98 + v)).toNatClampNeg → C (w.1 87 (90 + v)).toNatClampNeg) : ∀ (m fuel : Nat) (x2 x4 : Int32), x4.toInt = (w.1 87 7).toInt - (m : Int) → (m : Int) ≤ (w.1 87 7).toInt → m < fuel → (0 ≤ x2.toInt ∧ x2.toInt ≤ 255) → (∀ i, i < 8 → vb x2 i → C i) → ∃ y, K_X12_chainOf_85_15 B6 w p0 fuel x2 x3 x4 = B6 y (x3 + Int32.ofInt 1) ∧ (0 ≤ y.toInt ∧ y.toInt ≤ 255) ∧ (∀ i, i < 8 → vb y i → C i) ∧ (∀ i, i < 8 → vb x2 i → vb y i) ∧ (∀ v : Nat, x4.toInt ≤ v → (v : Int) < (w.1 87 7).toInt → vb x2 (w.1 87 (98 + v)).toNatClampNeg → vb y (w.1 87 (90 + v)).toNatClampNeg) := by
  intro m
  induction m with
  | zero =>
    intro fuel x2 x4 hx _ hf h2 h
    obtain ⟨f, rfl⟩ : ∃ f, fuel = f + 1 := ⟨fuel - 1, by omega⟩
    refine ⟨x2, ?_, h2, h, fun _ _ q => q, fun v v1 v2 => by omega⟩
    show K_X12_chainOf_85_15_b B6 (K_X12_chainOf_85_15 B6 w p0 f) w p0 x2 x3 x4 = _
    unfold K_X12_chainOf_85_15_b
    rw [if_pos (by omega)]
  | succ m ih =>
    intro fuel x2 x4 hx hm hf h2 h
    obtain ⟨f, rfl⟩ : ∃ f, fuel = f + 1 := ⟨fuel - 1, by omega⟩
    have hk := i_cl (x := x4) (by omega)
    have hx1 := step_1 hx hm (by omega)
    have o98 : (98 + x4).toNatClampNeg = 98 + x4.toNatClampNeg := off_n (by decide) (by omega) (by decide)
    have o90 : (90 + x4).toNatClampNeg = 90 + x4.toNatClampNeg := off_n (by decide) (by omega) (by decide)
    obtain ⟨⟨a1, a2⟩, b1, b2⟩ := hv x4.toNatClampNeg (by omega)
    have ca := i_cl (x := w.1 87 (90 + x4.toNatClampNeg)) a1
    have cb := i_cl (x := w.1 87 (98 + x4.toNatClampNeg)) b1
    by_cases q : vbit x2 (w.1 87 (98 + x4.toNatClampNeg))
    · have q' := (vbn b1).mp q
      have hna := nI_oI a1
      obtain ⟨y, y1, y2, y3, y4, y5⟩ := ih f (x2 ||| (1 : Int32) <<< (w.1 87 (90 + x4.toNatClampNeg) &&& 31)) (x4 + Int32.ofInt 1) hx1 (by omega) (by omega) (or_255 h2 (by rw [hna]; exact one_255 (by omega))) (fun i hi z => by
        rcases vb_or.mp z with z | z
        · exact h i hi z
        · rw [hna, vb_1 (by omega) hi] at z
          subst z
          exact hC _ (by omega) (h _ (by omega) q'))
      refine ⟨y, ?_, y2, y3, fun i hi z => y4 i hi (vb_or.mpr (Or.inl z)), fun v v1 v2 v3 => ?_⟩
      · rw [← y1]
        show K_X12_chainOf_85_15_b B6 (K_X12_chainOf_85_15 B6 w p0 f) w p0 x2 x3 x4 = _
        unfold K_X12_chainOf_85_15_b
        simp only [vl]
        rw [if_neg (by omega), o98, o90, bo_1 q, if_neg n1']
        rfl
      · by_cases e : v = x4.toNatClampNeg
        · subst e
          refine y4 _ (by omega) (vb_or.mpr (Or.inr ?_))
          rw [hna]
          have := (vb_1 (f := (w.1 87 (90 + x4.toNatClampNeg)).toNatClampNeg) (i := (w.1 87 (90 + x4.toNatClampNeg)).toNatClampNeg) (by omega) (by omega)).mpr rfl
          rw [← hna]
          rw [← hna] at this
          exact this
        · obtain ⟨⟨_, _⟩, d1, d2⟩ := hv v v2
          have cd := i_cl (x := w.1 87 (98 + v)) d1
          exact y5 v (by omega) v2 (vb_or.mpr (Or.inl v3))
    · obtain ⟨y, y1, y2, y3, y4, y5⟩ := ih f x2 (x4 + Int32.ofInt 1) hx1 (by omega) (by omega) h2 h
      refine ⟨y, ?_, y2, y3, y4, fun v v1 v2 v3 => ?_⟩
      · rw [← y1]
        show K_X12_chainOf_85_15_b B6 (K_X12_chainOf_85_15 B6 w p0 f) w p0 x2 x3 x4 = _
        unfold K_X12_chainOf_85_15_b
        simp only [vl]
        rw [if_neg (by omega), o98, bo_0 q, if_pos t0i]
        rfl
      · by_cases e : v = x4.toNatClampNeg
        · subst e
          exact absurd ((vbn b1).mpr v3) q
        · exact y5 v (by omega) v2 v3
theorem rc_out {u w : ac_U} {p0 : Int32} {k : Nat} (hk : k < 8) (hE : HE u w) (hV : 0 ≤ (w.1 87 7).toInt ∧ (w.1 87 7).toInt ≤ 8) (hv : Vr w) : ∀ (m fuel : Nat) (x2 x3 : Int32), x3.toInt = 8 - (m : Int) → m ≤ 8 → m < fuel → (0 ≤ x2.toInt ∧ x2.toInt ≤ 255) → (∀ i, i < 8 → vb x2 i → bl (Eg u) (fun i => i = k) 8 i) → (∀ i, i < 8 → bl (Eg u) (fun i => i = k) (8 - m) i → vb x2 i) → (0 ≤ (K_X12_chainOf_85_6 w p0 fuel x2 x3).toInt ∧ (K_X12_chainOf_85_6 w p0 fuel x2 x3).toInt ≤ 255) ∧ ∀ i, i < 8 → (vb (K_X12_chainOf_85_6 w p0 fuel x2 x3) i ↔ bl (Eg u) (fun i => i = k) 8 i) := by
  intro m
  induction m with
  | zero =>
    intro fuel x2 x3 hx _ hf h2 h h'
    obtain ⟨f, rfl⟩ : ∃ f, fuel = f + 1 := ⟨fuel - 1, by omega⟩
    have e : K_X12_chainOf_85_6 w p0 (f + 1) x2 x3 = x2 := by
      show K_X12_chainOf_85_6_b (K_X12_chainOf_85_6 w p0 f) w p0 x2 x3 = x2
      unfold K_X12_chainOf_85_6_b
      rw [if_pos (by omega)]
    rw [e]
    exact ⟨h2, fun i hi => ⟨h i hi, h' i hi⟩⟩
  | succ m ih =>
    intro fuel x2 x3 hx hm hf h2 h h'
    obtain ⟨f, rfl⟩ : ∃ f, fuel = f + 1 := ⟨fuel - 1, by omega⟩
    have hc : (((w.1 87 7).toInt.toNat : Nat) : Int) = (w.1 87 7).toInt := Int.toNat_of_nonneg hV.1
    have hC : ∀ v : Nat, (v : Int) < (w.1 87 7).toInt → bl (Eg u) (fun i => i = k) 8 (w.1 87 (98 + v)).toNatClampNeg → bl (Eg u) (fun i => i = k) 8 (w.1 87 (90 + v)).toNatClampNeg := fun v v1 q => by
      have g : Eg u (w.1 87 (98 + v)).toNatClampNeg (w.1 87 (90 + v)).toNatClampNeg := (eg_vow hE hv).mpr ⟨v, v1, rfl, rfl⟩
      exact bl_8 Eg8 (fun i q => by subst q; exact hk) (show bl (Eg u) (fun i => i = k) 9 _ from Or.inr ⟨_, g.1, q, g⟩)
    obtain ⟨y, y1, y2, y3, y4, y5⟩ := rc_in (w := w) (p0 := p0) (K_X12_chainOf_85_6 w p0 f) x3 hV hv _ hC (w.1 87 7).toInt.toNat 10 x2 (0 : Int32) (by rw [t0i]; omega) (by omega) (by omega) h2 h
    have e : K_X12_chainOf_85_6 w p0 (f + 1) x2 x3 = K_X12_chainOf_85_6 w p0 f y (x3 + Int32.ofInt 1) := by
      rw [← y1]
      show K_X12_chainOf_85_6_b (K_X12_chainOf_85_6 w p0 f) w p0 x2 x3 = _
      unfold K_X12_chainOf_85_6_b
      rw [if_neg (by omega)]
    rw [e]
    refine ih f y (x3 + Int32.ofInt 1) (step_1 (P := 8) (by omega) (by omega) (by omega)) (by omega) (by omega) y2 y3 (fun i hi q => ?_)
    rw [show 8 - m = (8 - (m + 1)) + 1 by omega] at q
    rcases q with q | ⟨j, j1, j2, j3⟩
    · exact y4 i hi (h' i hi q)
    · obtain ⟨v, v1, v2, v3⟩ := (eg_vow hE hv).mp j3
      have := y5 v (by rw [t0i]; omega) v1 (by rw [v3]; exact h' j j1 j2)
      rw [v2] at this
      exact this
theorem rc_sp {u w : ac_U} {k : Nat} (hk : k < 8) (hE : HE u w) (hV : 0 ≤ (w.1 87 7).toInt ∧ (w.1 87 7).toInt ≤ 8) (hv : Vr w) : (0 ≤ (f_X12_chainOf_85 w (nI k)).toInt ∧ (f_X12_chainOf_85 w (nI k)).toInt ≤ 255) ∧ ∀ i, i < 8 → (vb (f_X12_chainOf_85 w (nI k)) i ↔ bl (Eg u) (fun i => i = k) 8 i) :=
  rc_out (u := u) (w := w) (p0 := nI k) hk hE hV hv 8 10 ((1 : Int32) <<< (nI k &&& 31)) (0 : Int32) (by decide) (by decide) (by decide) (one_255 hk) (fun i hi q => bl_le (Nat.zero_le 8) (show bl (Eg u) (fun i => i = k) 0 i from (vb_1 hk hi).mp q)) (fun i hi q => (vb_1 hk hi).mpr q)

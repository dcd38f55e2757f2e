/-! way() alike. -/
def Wg (u : ac_U) (j i : Nat) : Prop := j < 8 ∧ i < 8 ∧ vb (u.1 5 j) i
theorem Wg8 {u : ac_U} (i j : Nat) (h : Wg u i j) : j < 8 := h.2.1
theorem sp_loop {u : ac_U} {p0 : Int32} (hP : 0 ≤ (u.1 4 1).toInt ∧ (u.1 4 1).toInt ≤ 8) : ∀ (m fuel : Nat) (x2 x3 : Int32), x3.toInt = (u.1 4 1).toInt - (m : Int) → (m : Int) ≤ (u.1 4 1).toInt → m < fuel → ∀ i, i < 8 → (vb (K_X2_spread_4_4 u p0 fuel x2 x3) i ↔ (vb x2 i ∨ ∃ j : Nat, x3.toInt ≤ j ∧ (j : Int) < (u.1 4 1).toInt ∧ vb p0 j ∧ vb (u.1 5 j) i)) := by
  intro m
  induction m with
  | zero =>
    intro fuel x2 x3 hx _ hf i hi
    obtain ⟨f, rfl⟩ : ∃ f, fuel = f + 1 := ⟨fuel - 1, by omega⟩
    have e : K_X2_spread_4_4 u p0 (f + 1) x2 x3 = x2 := by
      show K_X2_spread_4_4_b (K_X2_spread_4_4 u p0 f) u p0 x2 x3 = x2
      unfold K_X2_spread_4_4_b
      rw [if_pos (by omega)]
    rw [e]
    refine ⟨Or.inl, fun q => ?_⟩
    rcases q with q | ⟨j, j1, j2, _⟩
    · exact q
    · omega
  | succ m ih =>
    intro fuel x2 x3 hx hm hf i hi
    obtain ⟨f, rfl⟩ : ∃ f, fuel = f + 1 := ⟨fuel - 1, by omega⟩
    have hk := i_cl (x := x3) (by omega)
    have hx1 := step_1 hx hm (by omega)
    have e3 : x3 = nI x3.toNatClampNeg := nI_oI (by omega)
    by_cases q : vb p0 x3.toNatClampNeg
    · have e : K_X2_spread_4_4 u p0 (f + 1) x2 x3 = K_X2_spread_4_4 u p0 f (x2 ||| u.1 5 x3.toNatClampNeg) (x3 + Int32.ofInt 1) := by
        have hv : ((p0 >>> (x3 &&& 31)) &&& 1).toInt = 1 := by
          unfold vb vbit at q
          rw [← e3] at q
          exact q
        show K_X2_spread_4_4_b (K_X2_spread_4_4 u p0 f) u p0 x2 x3 = _
        unfold K_X2_spread_4_4_b
        rw [if_neg (by omega)]
        show (if ((p0 >>> (x3 &&& 31)) &&& 1).toInt ≠ 1 then _ else _) = _
        rw [if_neg (fun z => z hv)]
        rfl
      rw [e]
      refine (ih f (x2 ||| u.1 5 x3.toNatClampNeg) (x3 + Int32.ofInt 1) hx1 (by omega) (by omega) i hi).trans ⟨fun z => ?_, fun z => ?_⟩
      · rcases z with z | ⟨j, j1, j2, j3, j4⟩
        · rcases vb_or.mp z with z | z
          · exact Or.inl z
          · exact Or.inr ⟨x3.toNatClampNeg, by omega, by omega, q, z⟩
        · exact Or.inr ⟨j, by omega, j2, j3, j4⟩
      · rcases z with z | ⟨j, j1, j2, j3, j4⟩
        · exact Or.inl (vb_or.mpr (Or.inl z))
        · by_cases e : j = x3.toNatClampNeg
          · subst e; exact Or.inl (vb_or.mpr (Or.inr j4))
          · exact Or.inr ⟨j, by omega, j2, j3, j4⟩
    · have e : K_X2_spread_4_4 u p0 (f + 1) x2 x3 = K_X2_spread_4_4 u p0 f x2 (x3 + Int32.ofInt 1) := by
        have hv : ((p0 >>> (x3 &&& 31)) &&& 1).toInt ≠ 1 := fun z => q (by
          unfold vb vbit
          rw [← e3]
          exact z)
        show K_X2_spread_4_4_b (K_X2_spread_4_4 u p0 f) u p0 x2 x3 = _
        unfold K_X2_spread_4_4_b
        rw [if_neg (by omega)]
        show (if ((p0 >>> (x3 &&& 31)) &&& 1).toInt ≠ 1 then _ else _) = _
        rw [if_pos hv]
        rfl
      rw [e]
      refine (ih f x2 (x3 + Int32.ofInt 1) hx1 (by omega) (by omega) i hi).trans ⟨fun z => ?_, fun z => ?_⟩
      · rcases z with z | ⟨j, j1, j2, j3, j4⟩
        · exact Or.inl z
        · exact Or.inr ⟨j, by omega, j2, j3, j4⟩
      · rcases z with z | ⟨j, j1, j2, j3, j4⟩
        · exact Or.inl z
        · by_cases e : j = x3.toNatClampNeg
          · subst e; exact absurd j3 q
          · exact Or.inr ⟨j, by omega, j2, j3, j4⟩
theorem spread_sp {u : ac_U} {x : Int32} (hP : 0 ≤ (u.1 4 1).toInt ∧ (u.1 4 1).toInt ≤ 8) (hz : Dz (u.1 4) (u.1 5) (u.1 9)) {S : Nat → Prop} {r : Nat} (h : ∀ i, i < 8 → (vb x i ↔ bl (Wg u) S r i)) : ∀ i, i < 8 → (vb (f_X2_spread_4 u x) i ↔ bl (Wg u) S (r + 1) i) := by
  intro i hi
  have hc : (((u.1 4 1).toInt.toNat : Nat) : Int) = (u.1 4 1).toInt := Int.toNat_of_nonneg hP.1
  refine (sp_loop (u := u) (p0 := x) hP (u.1 4 1).toInt.toNat 10 x (0 : Int32) (by rw [t0i]; omega) (by omega) (by omega) i hi).trans ⟨fun q => ?_, fun q => ?_⟩
  · rcases q with q | ⟨j, j1, j2, j3, j4⟩
    · exact Or.inl ((h i hi).mp q)
    · exact Or.inr ⟨j, by omega, (h j (by omega)).mp j3, by omega, hi, j4⟩
  · rcases q with q | ⟨j, j1, j2, j3⟩
    · exact Or.inl ((h i hi).mpr q)
    · refine Or.inr ⟨j, by rw [t0i]; omega, ?_, (h j j1).mpr j2, j3.2.2⟩
      apply Classical.byContradiction
      intro z
      have := hz.1 j j1 (by omega)
      have j4 := j3.2.2
      rw [this] at j4
      exact vb_0 hi j4
/-- the fewest steps, or none -/
def Fw (E : Nat → Nat → Prop) (a b : Nat) (r : Int) : Prop := (r = -1 ∧ ∀ n, ¬ bl E (fun i => i = a) n b) ∨ (∃ n : Nat, r = n ∧ n ≤ 7 ∧ bl E (fun i => i = a) n b ∧ ∀ t, t < n → ¬ bl E (fun i => i = a) t b)
theorem Fw.uniq {E : Nat → Nat → Prop} {a b : Nat} {r s : Int} (h : Fw E a b r) (g : Fw E a b s) : r = s := by
  rcases h with ⟨h1, h2⟩ | ⟨n, h1, _, h2, h3⟩ <;> rcases g with ⟨g1, g2⟩ | ⟨m, g1, _, g2, g3⟩
  · rw [h1, g1]
  · exact absurd g2 (h2 m)
  · exact absurd h2 (g2 n)
  · have : ¬ n < m := fun q => g3 n q h2
    have : ¬ m < n := fun q => h3 m q g2
    omega
theorem sb_loop {u : ac_U} {p0 p1 : Int32} {a : Nat} (ha : a < 8) (hb : 0 ≤ p1.toInt ∧ p1.toInt < 8) (hP : 0 ≤ (u.1 4 1).toInt ∧ (u.1 4 1).toInt ≤ 8) (hz : Dz (u.1 4) (u.1 5) (u.1 9)) : ∀ (m fuel : Nat) (x3 x4 : Int32), x4.toInt = 8 - (m : Int) → m ≤ 8 → m < fuel → (∀ i, i < 8 → (vb x3 i ↔ bl (Wg u) (fun i => i = a) (8 - m) i)) → (∀ t, t < 8 - m → ¬ bl (Wg u) (fun i => i = a) t p1.toNatClampNeg) → Fw (Wg u) a p1.toNatClampNeg (K_X2_stepsBetween_4_7 u p0 p1 fuel x3 x4).toInt := by
  intro m
  have hc := i_cl (x := p1) hb.1
  have hn := nI_oI hb.1
  induction m with
  | zero =>
    intro fuel x3 x4 hx _ hf h h'
    obtain ⟨f, rfl⟩ : ∃ f, fuel = f + 1 := ⟨fuel - 1, by omega⟩
    have e : K_X2_stepsBetween_4_7 u p0 p1 (f + 1) x3 x4 = -1 := by
      show K_X2_stepsBetween_4_7_b (K_X2_stepsBetween_4_7 u p0 p1 f) u p0 p1 x3 x4 = _
      unfold K_X2_stepsBetween_4_7_b
      rw [if_pos (by omega)]
    rw [e]
    refine Or.inl ⟨by decide, fun n q => ?_⟩
    have := bl_7 (E := Wg u) (S := fun i => i = a) Wg8 (fun i q => by have q : i = a := q; subst q; exact ha) (k := a) rfl q
    exact h' 7 (by decide) this
  | succ m ih =>
    intro fuel x3 x4 hx hm hf h h'
    obtain ⟨f, rfl⟩ : ∃ f, fuel = f + 1 := ⟨fuel - 1, by omega⟩
    by_cases q : vb x3 p1.toNatClampNeg
    · have e : K_X2_stepsBetween_4_7 u p0 p1 (f + 1) x3 x4 = x4 := by
        have hv : ((x3 >>> (p1 &&& 31)) &&& 1).toInt = 1 := by
          unfold vb vbit at q
          rw [← hn] at q
          exact q
        show K_X2_stepsBetween_4_7_b (K_X2_stepsBetween_4_7 u p0 p1 f) u p0 p1 x3 x4 = _
        unfold K_X2_stepsBetween_4_7_b
        rw [if_neg (by omega)]
        show (if ((x3 >>> (p1 &&& 31)) &&& 1).toInt ≠ 1 then _ else _) = _
        rw [if_neg (fun z => z hv)]
      rw [e]
      exact Or.inr ⟨8 - (m + 1), by omega, by omega, (h _ (by omega)).mp q, h'⟩
    · have e : K_X2_stepsBetween_4_7 u p0 p1 (f + 1) x3 x4 = K_X2_stepsBetween_4_7 u p0 p1 f (f_X2_spread_4 u x3) (x4 + Int32.ofInt 1) := by
        have hv : ((x3 >>> (p1 &&& 31)) &&& 1).toInt ≠ 1 := fun z => q (by
          unfold vb vbit
          rw [← hn]
          exact z)
        show K_X2_stepsBetween_4_7_b (K_X2_stepsBetween_4_7 u p0 p1 f) u p0 p1 x3 x4 = _
        unfold K_X2_stepsBetween_4_7_b
        rw [if_neg (by omega)]
        show (if ((x3 >>> (p1 &&& 31)) &&& 1).toInt ≠ 1 then _ else _) = _
        rw [if_pos hv]
      rw [e]
      have hs := spread_sp (u := u) (x := x3) hP hz h
      rw [show 8 - (m + 1) + 1 = 8 - m by omega] at hs
      refine ih f (f_X2_spread_4 u x3) (x4 + Int32.ofInt 1) (step_1 (P := 8) (by omega) (by omega) (by omega)) (by omega) (by omega) hs (fun t ht z => ?_)
      by_cases y : t < 8 - (m + 1)
      · exact h' t y z
      · rw [show t = 8 - (m + 1) by omega] at z
        exact q ((h _ (by omega)).mpr z)
theorem sb_sp {u : ac_U} {p0 p1 : Int32} (ha : 0 ≤ p0.toInt ∧ p0.toInt < 8) (hb : 0 ≤ p1.toInt ∧ p1.toInt < 8) (hP : 0 ≤ (u.1 4 1).toInt ∧ (u.1 4 1).toInt ≤ 8) (hz : Dz (u.1 4) (u.1 5) (u.1 9)) : Fw (Wg u) p0.toNatClampNeg p1.toNatClampNeg (f_X2_stepsBetween_4 u p0 p1).toInt := by
  have hc := i_cl (x := p0) ha.1
  have hn := nI_oI ha.1
  refine sb_loop (u := u) (p0 := p0) (p1 := p1) (a := p0.toNatClampNeg) (by omega) hb hP hz 8 10 ((1 : Int32) <<< (p0 &&& 31)) (0 : Int32) (by decide) (by decide) (by decide) (fun i hi => ?_) (fun t ht => absurd ht (by omega))
  have := vb_1 (f := p0.toNatClampNeg) (i := i) (by omega) hi
  rw [← hn] at this
  exact this
/-! The reference: nearer and nearer. -/
def FS (E : Nat → Nat → Prop) (a : Nat) (v : ac_U) : Prop := ∀ q : Nat, q < 8 → (0 ≤ (v.1 92 q).toInt ∧ (v.1 92 q).toInt ≤ 1000) ∧ ((v.1 92 q).toInt < 1000 → bl E (fun i => i = a) (v.1 92 q).toInt.toNat q)
theorem w76 {u w w0 : ac_U} {p0 p1 : Int32} {a : Nat} (hE : HE u w) (B57 : ac_U → Int32 → ac_U × Int32) (B66 : ac_U → Int32 → Int32 → ac_U × Int32) (x3 x4 : Int32) (h4 : 0 ≤ x4.toInt ∧ x4.toInt < 8) : ∀ (m fuel : Nat) (v : ac_U) (x5 : Int32), x5.toInt = 8 - (m : Int) → m ≤ 8 → m < fuel → FS (Wg u) a v → (∀ k, v.1 87 k = w.1 87 k) → ∃ v', K_X12_way_85_76 B57 B66 w0 p0 p1 fuel v x3 x4 x5 = B66 v' x3 (x4 + Int32.ofInt 1) ∧ FS (Wg u) a v' ∧ (∀ k, v'.1 87 k = w.1 87 k) ∧ (∀ q, q < 8 → (v'.1 92 q).toInt ≤ (v.1 92 q).toInt) ∧ (∀ q : Nat, x5.toInt ≤ q → q < 8 → vb (u.1 5 x4.toNatClampNeg) q → (v'.1 92 q).toInt ≤ (v.1 92 x4.toNatClampNeg).toInt + 1) := by
  intro m
  have c4 := i_cl (x := x4) h4.1
  have o8 : (8 + x4).toNatClampNeg = 8 + x4.toNatClampNeg := off_n (by decide) (by omega) (by decide)
  induction m with
  | zero =>
    intro fuel v x5 hx _ hf hF h87
    obtain ⟨f, rfl⟩ : ∃ f, fuel = f + 1 := ⟨fuel - 1, by omega⟩
    refine ⟨v, ?_, hF, h87, fun _ _ => Int.le_refl _, fun q h1 h2 => by omega⟩
    show K_X12_way_85_76_b B57 B66 (K_X12_way_85_76 B57 B66 w0 p0 p1 f) w0 p0 p1 v x3 x4 x5 = _
    unfold K_X12_way_85_76_b
    rw [if_pos (by omega)]
  | succ m ih =>
    intro fuel v x5 hx hm hf hF h87
    obtain ⟨f, rfl⟩ : ∃ f, fuel = f + 1 := ⟨fuel - 1, by omega⟩
    have c5 := i_cl (x := x5) (by omega)
    have n5 := nI_oI (x := x5) (by omega)
    have hx1 : (x5 + Int32.ofInt 1).toInt = 8 - (m : Int) := step_1 (P := 8) (by omega) (by omega) (by omega)
    have hrow : v.1 87 (8 + x4).toNatClampNeg = u.1 5 x4.toNatClampNeg := by
      rw [o8, h87]
      exact (hE.2.1 _ (by omega)).symm
    obtain ⟨⟨f1, f2⟩, f3⟩ := hF x4.toNatClampNeg (by omega)
    obtain ⟨⟨g1, g2⟩, g3⟩ := hF x5.toNatClampNeg (by omega)
    have h12 : (v.1 92 x4.toNatClampNeg + 1).toInt = (v.1 92 x4.toNatClampNeg).toInt + 1 := inc_i (by omega)
    -- no change here
    have skip : K_X12_way_85_76 B57 B66 w0 p0 p1 (f + 1) v x3 x4 x5 = K_X12_way_85_76 B57 B66 w0 p0 p1 f v x3 x4 (x5 + Int32.ofInt 1) → (vb (u.1 5 x4.toNatClampNeg) x5.toNatClampNeg → (v.1 92 x5.toNatClampNeg).toInt ≤ (v.1 92 x4.toNatClampNeg).toInt + 1) → ∃ v', K_X12_way_85_76 B57 B66 w0 p0 p1 (f + 1) v x3 x4 x5 = B66 v' x3 (x4 + Int32.ofInt 1) ∧ FS (Wg u) a v' ∧ (∀ k, v'.1 87 k = w.1 87 k) ∧ (∀ q, q < 8 → (v'.1 92 q).toInt ≤ (v.1 92 q).toInt) ∧ (∀ q : Nat, x5.toInt ≤ q → q < 8 → vb (u.1 5 x4.toNatClampNeg) q → (v'.1 92 q).toInt ≤ (v.1 92 x4.toNatClampNeg).toInt + 1) := fun e hs => by
      obtain ⟨v', y1, y2, y3, y4, y5⟩ := ih f v (x5 + Int32.ofInt 1) hx1 (by omega) (by omega) hF h87
      refine ⟨v', e.trans y1, y2, y3, y4, fun q q1 q2 q3 => ?_⟩
      by_cases z : q = x5.toNatClampNeg
      · subst z
        have := y4 _ q2
        have := hs q3
        omega
      · exact y5 q (by omega) q2 q3
    by_cases q : vb (u.1 5 x4.toNatClampNeg) x5.toNatClampNeg
    · have hq : vbit (u.1 5 x4.toNatClampNeg) x5 := (vbn (by omega)).mpr q
      by_cases z : (v.1 92 x5.toNatClampNeg).toInt ≤ (v.1 92 x4.toNatClampNeg + 1).toInt
      · refine skip ?_ (fun _ => by omega)
        show K_X12_way_85_76_b B57 B66 (K_X12_way_85_76 B57 B66 w0 p0 p1 f) w0 p0 p1 v x3 x4 x5 = _
        unfold K_X12_way_85_76_b
        simp only [vl]
        rw [if_neg (by omega), hrow, bo_1 hq, if_neg n1', if_pos z]
        rfl
      · have e : K_X12_way_85_76 B57 B66 w0 p0 p1 (f + 1) v x3 x4 x5 = K_X12_way_85_76 B57 B66 w0 p0 p1 f (pI v 92 x5.toNatClampNeg (v.1 92 x4.toNatClampNeg + 1)) x3 x4 (x5 + Int32.ofInt 1) := by
          show K_X12_way_85_76_b B57 B66 (K_X12_way_85_76 B57 B66 w0 p0 p1 f) w0 p0 p1 v x3 x4 x5 = _
          unfold K_X12_way_85_76_b
          simp only [vl]
          rw [if_neg (by omega), hrow, bo_1 hq, if_neg n1', if_neg z]
          rfl
        have hne : x4.toNatClampNeg ≠ x5.toNatClampNeg := fun y => by
          rw [← y] at z
          omega
        have hF' : FS (Wg u) a (pI v 92 x5.toNatClampNeg (v.1 92 x4.toNatClampNeg + 1)) := fun t ht => by
          by_cases y : t = x5.toNatClampNeg
          · subst y
            rw [pI_s, h12]
            refine ⟨by omega, fun _ => ?_⟩
            rw [show ((v.1 92 x4.toNatClampNeg).toInt + 1).toNat = (v.1 92 x4.toNatClampNeg).toInt.toNat + 1 by omega]
            exact Or.inr ⟨x4.toNatClampNeg, by omega, f3 (by omega), by omega, by omega, q⟩
          · rw [pI_k y]
            exact hF t ht
        obtain ⟨v', y1, y2, y3, y4, y5⟩ := ih f (pI v 92 x5.toNatClampNeg (v.1 92 x4.toNatClampNeg + 1)) (x5 + Int32.ofInt 1) hx1 (by omega) (by omega) hF' (fun k => (pI_c (by decide)).trans (h87 k))
        refine ⟨v', e.trans y1, y2, y3, fun t ht => ?_, fun t t1 t2 t3 => ?_⟩
        · have := y4 t ht
          by_cases y : t = x5.toNatClampNeg
          · subst y
            rw [pI_s] at this
            omega
          · rw [pI_k y] at this
            exact this
        · by_cases y : t = x5.toNatClampNeg
          · subst y
            have := y4 _ t2
            rw [pI_s, h12] at this
            exact this
          · have := y5 t (by omega) t2 t3
            rw [pI_k hne] at this
            exact this
    · have hq : ¬ vbit (u.1 5 x4.toNatClampNeg) x5 := fun z => q ((vbn (by omega)).mp z)
      refine skip ?_ (fun z => absurd z q)
      show K_X12_way_85_76_b B57 B66 (K_X12_way_85_76 B57 B66 w0 p0 p1 f) w0 p0 p1 v x3 x4 x5 = _
      unfold K_X12_way_85_76_b
      simp only [vl]
      rw [if_neg (by omega), hrow, bo_0 hq, if_pos t0i]
      rfl
theorem w66 {u w w0 : ac_U} {p0 p1 : Int32} {a : Nat} (hE : HE u w) (B57 : ac_U → Int32 → ac_U × Int32) (x3 : Int32) : ∀ (m fuel : Nat) (v : ac_U) (x4 : Int32), x4.toInt = 8 - (m : Int) → m ≤ 8 → m < fuel → FS (Wg u) a v → (∀ k, v.1 87 k = w.1 87 k) → ∃ v', K_X12_way_85_66 B57 w0 p0 p1 fuel v x3 x4 = B57 v' (x3 + Int32.ofInt 1) ∧ FS (Wg u) a v' ∧ (∀ k, v'.1 87 k = w.1 87 k) ∧ (∀ q, q < 8 → (v'.1 92 q).toInt ≤ (v.1 92 q).toInt) ∧ (∀ k q : Nat, x4.toInt ≤ k → Wg u k q → (v'.1 92 q).toInt ≤ (v.1 92 k).toInt + 1) := by
  intro m
  induction m with
  | zero =>
    intro fuel v x4 hx _ hf hF h87
    obtain ⟨f, rfl⟩ : ∃ f, fuel = f + 1 := ⟨fuel - 1, by omega⟩
    refine ⟨v, ?_, hF, h87, fun _ _ => Int.le_refl _, fun k q h1 h2 => by have := h2.1; omega⟩
    show K_X12_way_85_66_b B57 (K_X12_way_85_66 B57 w0 p0 p1 f) w0 p0 p1 v x3 x4 = _
    unfold K_X12_way_85_66_b
    rw [if_pos (by omega)]
  | succ m ih =>
    intro fuel v x4 hx hm hf hF h87
    obtain ⟨f, rfl⟩ : ∃ f, fuel = f + 1 := ⟨fuel - 1, by omega⟩
    have c4 := i_cl (x := x4) (by omega)
    have hx1 : (x4 + Int32.ofInt 1).toInt = 8 - (m : Int) := step_1 (P := 8) (by omega) (by omega) (by omega)
    obtain ⟨v1, a1, a2, a3, a4, a5⟩ := w76 (u := u) (w := w) (w0 := w0) (p0 := p0) (p1 := p1) (a := a) hE B57 (K_X12_way_85_66 B57 w0 p0 p1 f) x3 x4 (by omega) 8 10 v (0 : Int32) (by decide) (by decide) (by decide) hF h87
    have e : K_X12_way_85_66 B57 w0 p0 p1 (f + 1) v x3 x4 = K_X12_way_85_66 B57 w0 p0 p1 f v1 x3 (x4 + Int32.ofInt 1) := by
      rw [← a1]
      show K_X12_way_85_66_b B57 (K_X12_way_85_66 B57 w0 p0 p1 f) w0 p0 p1 v x3 x4 = _
      unfold K_X12_way_85_66_b
      rw [if_neg (by omega)]
    obtain ⟨v', y1, y2, y3, y4, y5⟩ := ih f v1 (x4 + Int32.ofInt 1) hx1 (by omega) (by omega) a2 a3
    refine ⟨v', e.trans y1, y2, y3, fun q hq => Int.le_trans (y4 q hq) (a4 q hq), fun k q k1 k2 => ?_⟩
    by_cases z : k = x4.toNatClampNeg
    · subst z
      have g1 := a5 q (by rw [t0i]; omega) k2.2.1 k2.2.2
      have g2 := y4 q k2.2.1
      omega
    · have g1 := y5 k q (by omega) k2
      have g2 := a4 k k2.1
      omega
theorem w57 {u w w0 : ac_U} {p0 p1 : Int32} {a : Nat} (ha : a < 8) (hb : 0 ≤ p1.toInt ∧ p1.toInt < 8) (hE : HE u w) : ∀ (m fuel : Nat) (v : ac_U) (x3 : Int32), x3.toInt = 8 - (m : Int) → m ≤ 8 → m < fuel → FS (Wg u) a v → (∀ k, v.1 87 k = w.1 87 k) → (∀ t q, t ≤ 8 - m → q < 8 → bl (Wg u) (fun i => i = a) t q → (v.1 92 q).toInt ≤ t) → Fw (Wg u) a p1.toNatClampNeg (K_X12_way_85_57 w0 p0 p1 fuel v x3).2.toInt := by
  intro m
  have cb := i_cl (x := p1) hb.1
  induction m with
  | zero =>
    intro fuel v x3 hx _ hf hF h87 hc
    obtain ⟨f, rfl⟩ : ∃ f, fuel = f + 1 := ⟨fuel - 1, by omega⟩
    obtain ⟨⟨f1, f2⟩, f3⟩ := hF p1.toNatClampNeg (by omega)
    have e : K_X12_way_85_57 w0 p0 p1 (f + 1) v x3 = if (1000 : Int) ≤ (v.1 92 p1.toNatClampNeg).toInt then (v, (-1 : Int32)) else (v, v.1 92 p1.toNatClampNeg) := by
      show K_X12_way_85_57_b (K_X12_way_85_57 w0 p0 p1 f) w0 p0 p1 v x3 = _
      unfold K_X12_way_85_57_b
      rw [if_pos (by omega)]
    have h7 : ∀ n, bl (Wg u) (fun i => i = a) n p1.toNatClampNeg → bl (Wg u) (fun i => i = a) 7 p1.toNatClampNeg := fun n q => bl_7 (E := Wg u) (S := fun i => i = a) Wg8 (fun i q => by have q : i = a := q; subst q; exact ha) (k := a) rfl q
    rw [e]
    by_cases z : (1000 : Int) ≤ (v.1 92 p1.toNatClampNeg).toInt
    · rw [if_pos z]
      refine Or.inl ⟨show ((-1 : Int32)).toInt = -1 by decide, fun n q => ?_⟩
      have := hc 7 p1.toNatClampNeg (by decide) (by omega) (h7 n q)
      omega
    · rw [if_neg z]
      have h1 := f3 (by omega)
      have h2 := hc 7 p1.toNatClampNeg (by decide) (by omega) (h7 _ h1)
      refine Or.inr ⟨(v.1 92 p1.toNatClampNeg).toInt.toNat, ?_, by omega, h1, fun t ht q => ?_⟩
      · show (v.1 92 p1.toNatClampNeg).toInt = _
        omega
      · have := hc t p1.toNatClampNeg (by omega) (by omega) q
        omega
  | succ m ih =>
    intro fuel v x3 hx hm hf hF h87 hc
    obtain ⟨f, rfl⟩ : ∃ f, fuel = f + 1 := ⟨fuel - 1, by omega⟩
    obtain ⟨v1, a1, a2, a3, a4, a5⟩ := w66 (u := u) (w := w) (w0 := w0) (p0 := p0) (p1 := p1) (a := a) hE (K_X12_way_85_57 w0 p0 p1 f) x3 8 10 v (0 : Int32) (by decide) (by decide) (by decide) hF h87
    have e : K_X12_way_85_57 w0 p0 p1 (f + 1) v x3 = K_X12_way_85_57 w0 p0 p1 f v1 (x3 + Int32.ofInt 1) := by
      rw [← a1]
      show K_X12_way_85_57_b (K_X12_way_85_57 w0 p0 p1 f) w0 p0 p1 v x3 = _
      unfold K_X12_way_85_57_b
      rw [if_neg (by omega)]
    rw [e]
    refine ih f v1 (x3 + Int32.ofInt 1) (step_1 (P := 8) (by omega) (by omega) (by omega)) (by omega) (by omega) a2 a3 (fun t q ht hq hbl => ?_)
    by_cases z : t ≤ 8 - (m + 1)
    · have := hc t q z hq hbl
      have := a4 q hq
      omega
    · have ht' : t = (8 - (m + 1)) + 1 := by omega
      rw [ht'] at hbl
      rcases hbl with hbl | ⟨j, j1, j2, j3⟩
      · have := hc _ q (Nat.le_refl _) hq hbl
        have := a4 q hq
        omega
      · have := hc _ j (Nat.le_refl _) j1 j2
        have := a5 j q (by rw [t0i]; omega) j3
        omega
theorem w25 {w0 : ac_U} {p0 p1 : Int32} : ∀ (m fuel : Nat) (v : ac_U) (x3 : Int32), x3.toInt = 8 - (m : Int) → m ≤ 8 → m < fuel → ∃ v', K_X12_way_85_25 w0 p0 p1 fuel v x3 = K_X12_way_85_57 w0 p0 p1 10 v' (0 : Int32) ∧ (∀ k, v'.1 87 k = v.1 87 k) ∧ (∀ q : Nat, 8 - m ≤ q → q < 8 → v'.1 92 q = if (q : Int) = p0.toInt then 0 else 1000) ∧ (∀ q : Nat, q < 8 - m → v'.1 92 q = v.1 92 q) := by
  intro m
  induction m with
  | zero =>
    intro fuel v x3 hx _ hf
    obtain ⟨f, rfl⟩ : ∃ f, fuel = f + 1 := ⟨fuel - 1, by omega⟩
    refine ⟨v, ?_, fun _ => rfl, fun q h1 h2 => by omega, fun _ _ => rfl⟩
    show K_X12_way_85_25_b (K_X12_way_85_25 w0 p0 p1 f) w0 p0 p1 v x3 = _
    unfold K_X12_way_85_25_b
    rw [if_pos (by omega)]
  | succ m ih =>
    intro fuel v x3 hx hm hf
    obtain ⟨f, rfl⟩ : ∃ f, fuel = f + 1 := ⟨fuel - 1, by omega⟩
    have c3 := i_cl (x := x3) (by omega)
    have hx1 : (x3 + Int32.ofInt 1).toInt = 8 - (m : Int) := step_1 (P := 8) (by omega) (by omega) (by omega)
    obtain ⟨z, z1, z2⟩ : ∃ z : Int32, K_X12_way_85_25 w0 p0 p1 (f + 1) v x3 = K_X12_way_85_25 w0 p0 p1 f (pI v 92 x3.toNatClampNeg z) (x3 + Int32.ofInt 1) ∧ z = if ((x3.toNatClampNeg : Nat) : Int) = p0.toInt then 0 else 1000 := by
      by_cases q : x3.toInt ≠ p0.toInt
      · refine ⟨1000, ?_, by rw [if_neg (by omega)]⟩
        show K_X12_way_85_25_b (K_X12_way_85_25 w0 p0 p1 f) w0 p0 p1 v x3 = _
        unfold K_X12_way_85_25_b
        rw [if_neg (by omega), if_pos q]
        rfl
      · refine ⟨0, ?_, by rw [if_pos (by omega)]⟩
        show K_X12_way_85_25_b (K_X12_way_85_25 w0 p0 p1 f) w0 p0 p1 v x3 = _
        unfold K_X12_way_85_25_b
        rw [if_neg (by omega), if_neg q]
        rfl
    obtain ⟨v', y1, y2, y3, y4⟩ := ih f (pI v 92 x3.toNatClampNeg z) (x3 + Int32.ofInt 1) hx1 (by omega) (by omega)
    refine ⟨v', z1.trans y1, fun k => (y2 k).trans (pI_c (by decide)), fun q h1 h2 => ?_, fun q h1 => ?_⟩
    · by_cases y : q = x3.toNatClampNeg
      · rw [y4 q (by omega), y, pI_s, z2]
      · exact y3 q (by omega) h2
    · rw [y4 q (by omega), pI_k (by omega)]
theorem way_sim2 {u w : ac_U} {p0 p1 : Int32} (hE : HE u w) (hP : 0 ≤ (u.1 4 1).toInt ∧ (u.1 4 1).toInt ≤ 8) (hz : Dz (u.1 4) (u.1 5) (u.1 9)) : f_X11_way_0 u p0 p1 = (f_X12_way_85 w p0 p1).2 := by
  have e1 : w.1 87 1 = u.1 4 1 := (hE.1 1 (by decide)).symm
  have hm : (w.1 87 1 - 1).toInt = (u.1 4 1).toInt - 1 := by rw [e1]; exact i_sub rfl (by decide) (by omega)
  have pc : ∀ p : Int32, (0 ≤ p.toInt ∧ p.toInt < (u.1 4 1).toInt → f_X2_isPlace_4 u p = 1 ∧ f_X12_isPlace_85 (pI w 85 0 (0 : Int32)) p = 1) ∧ (¬ (0 ≤ p.toInt ∧ p.toInt < (u.1 4 1).toInt) → f_X2_isPlace_4 u p = 0 ∧ f_X12_isPlace_85 (pI w 85 0 (0 : Int32)) p = 0) := fun p => by
    refine ⟨fun h => ⟨?_, ?_⟩, fun h => ⟨?_, ?_⟩⟩
    · unfold f_X2_isPlace_4
      rw [if_neg (by omega), if_neg (by omega)]
    · show f_X12_isIn (pI w 85 0 (0 : Int32)) p (0 : Int32) (w.1 87 1 - 1) = 1
      exact in1 (by rw [t0i, hm]; omega)
    · unfold f_X2_isPlace_4 K_X2_isPlace_4_16
      by_cases q : p.toInt < 0
      · rw [if_pos q]
      · rw [if_neg q, if_pos (by omega)]
    · show f_X12_isIn (pI w 85 0 (0 : Int32)) p (0 : Int32) (w.1 87 1 - 1) = 0
      exact in0 (by rw [t0i, hm]; omega)
  have h1 : f_X11_way_0 u p0 p1 = if (f_X2_isPlace_4 u p0).toInt = 0 then (-1 : Int32) else (if (f_X2_isPlace_4 u p1).toInt ≠ 0 then f_X2_stepsBetween_4 u p0 p1 else (-1 : Int32)) := rfl
  have h2 : f_X12_way_85 w p0 p1 = if (f_X12_isPlace_85 (pI w 85 0 (0 : Int32)) p0).toInt = 0 then (pI w 85 0 (0 : Int32), (-1 : Int32)) else (if (f_X12_isPlace_85 (pI w 85 0 (0 : Int32)) p1).toInt ≠ 0 then K_X12_way_85_25 w p0 p1 10 (pI w 85 0 (0 : Int32)) (0 : Int32) else (pI w 85 0 (0 : Int32), (-1 : Int32))) := rfl
  rw [h1, h2]
  by_cases q0 : 0 ≤ p0.toInt ∧ p0.toInt < (u.1 4 1).toInt
  · rw [((pc p0).1 q0).1, ((pc p0).1 q0).2, if_neg n1', if_neg n1']
    by_cases q1 : 0 ≤ p1.toInt ∧ p1.toInt < (u.1 4 1).toInt
    · rw [((pc p1).1 q1).1, ((pc p1).1 q1).2, if_pos n1, if_pos n1]
      have c0 := i_cl (x := p0) q0.1
      obtain ⟨v, v1, v2, v3, _⟩ := w25 (w0 := w) (p0 := p0) (p1 := p1) 8 10 (pI w 85 0 (0 : Int32)) (0 : Int32) (by decide) (by decide) (by decide)
      rw [v1]
      have i0 : (0 : Int32).toInt = 0 := by decide
      have i1000 : (1000 : Int32).toInt = 1000 := by decide
      refine Int32.toInt_inj.mp (Fw.uniq (sb_sp (by omega) (by omega) hP hz) (w57 (u := u) (w := w) (w0 := w) (p0 := p0) (p1 := p1) (a := p0.toNatClampNeg) (by omega) (by omega) hE 8 10 v (0 : Int32) (by decide) (by decide) (by decide) (fun q hq => ?_) (fun k => (v2 k).trans (pI_c (by decide))) (fun t q ht hq hbl => ?_)))
      · rw [v3 q (by omega) hq]
        by_cases z : (q : Int) = p0.toInt
        · rw [if_pos z, i0]
          refine ⟨by omega, fun _ => ?_⟩
          show q = p0.toNatClampNeg
          omega
        · rw [if_neg z, i1000]
          exact ⟨by omega, fun y => by omega⟩
      · have ht0 : t = 0 := by omega
        subst ht0
        have hbl : q = p0.toNatClampNeg := hbl
        rw [v3 q (by omega) hq, if_pos (by omega), i0]
        exact Int.le_refl _
    · rw [((pc p1).2 q1).1, ((pc p1).2 q1).2, if_neg n0, if_neg n0]
  · rw [((pc p0).2 q0).1, ((pc p0).2 q0).2, if_pos t0i, if_pos t0i]

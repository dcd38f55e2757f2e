/-! chain() and rings() alike. -/
def gb (x : Int32) (i : Nat) : Nat := if ((x >>> (nI i &&& 31)) &&& 1).toInt = 1 then 2 ^ i else 0
theorem gb_all : ∀ z, z < 256 → z = gb (nI z) 0 + gb (nI z) 1 + gb (nI z) 2 + gb (nI z) 3 + gb (nI z) 4 + gb (nI z) 5 + gb (nI z) 6 + gb (nI z) 7 := by decide +kernel
theorem gb_cg {x y : Int32} {i : Nat} (h : vb x i ↔ vb y i) : gb x i = gb y i := by
  unfold gb
  unfold vb vbit at h
  by_cases q : ((x >>> (nI i &&& 31)) &&& 1).toInt = 1
  · rw [if_pos q, if_pos (h.mp q)]
  · rw [if_neg q, if_neg (fun z => q (h.mpr z))]
theorem ext255 {x y : Int32} (hx : 0 ≤ x.toInt ∧ x.toInt ≤ 255) (hy : 0 ≤ y.toInt ∧ y.toInt ≤ 255) (h : ∀ i, i < 8 → (vb x i ↔ vb y i)) : x = y := by
  have ex := nI_oI hx.1
  have ey := nI_oI hy.1
  have cx := i_cl (x := x) hx.1
  have cy := i_cl (x := y) hy.1
  have gx := gb_all x.toNatClampNeg (by omega)
  have gy := gb_all y.toNatClampNeg (by omega)
  rw [← ex] at gx
  rw [← ey] at gy
  rw [gb_cg (h 0 (by decide)), gb_cg (h 1 (by decide)), gb_cg (h 2 (by decide)), gb_cg (h 3 (by decide)), gb_cg (h 4 (by decide)), gb_cg (h 5 (by decide)), gb_cg (h 6 (by decide)), gb_cg (h 7 (by decide)), ← gy] at gx
  rw [ex, ey, gx]
theorem vb_and {x y : Int32} {i : Nat} : vb (x &&& y) i ↔ (vb x i ∧ vb y i) := by
  unfold vb vbit
  have e : ((x &&& y) >>> (nI i &&& 31)) &&& 1 = ((x >>> (nI i &&& 31)) &&& 1) &&& ((y >>> (nI i &&& 31)) &&& 1) := by
    rw [Int32.shiftRight_and]
    apply Int32.toBitVec_inj.mp
    simp only [Int32.toBitVec_and]
    rw [BitVec.and_assoc, BitVec.and_assoc]
    congr 1
    rw [← BitVec.and_assoc, BitVec.and_comm (1 : Int32).toBitVec, BitVec.and_assoc, BitVec.and_self]
  rw [e]
  have hp := bit_01 (x >>> (nI i &&& 31))
  have hq := bit_01 (y >>> (nI i &&& 31))
  generalize (x >>> (nI i &&& 31)) &&& 1 = p at hp ⊢
  generalize (y >>> (nI i &&& 31)) &&& 1 = q at hq ⊢
  have hp2 : p = 0 ∨ p = 1 := hp.imp (fun q => Int32.toInt_inj.mp (q.trans t0i.symm)) (fun q => Int32.toInt_inj.mp (q.trans t1i.symm))
  have hq2 : q = 0 ∨ q = 1 := hq.imp (fun q => Int32.toInt_inj.mp (q.trans t0i.symm)) (fun q => Int32.toInt_inj.mp (q.trans t1i.symm))
  rcases hp2 with rfl | rfl <;> rcases hq2 with rfl | rfl <;> decide
theorem and_255 {x y : Int32} (hy : 0 ≤ y.toInt ∧ y.toInt ≤ 255) : 0 ≤ (x &&& y).toInt ∧ (x &&& y).toInt ≤ 255 := by
  have := i_and (x := x) (y := y) (b := y.toInt) rfl hy.1
  omega
def Eg (u : ac_U) (j i : Nat) : Prop := j < 8 ∧ i < 8 ∧ vb (u.1 9 j) i
theorem Eg8 {u : ac_U} (i j : Nat) (h : Eg u i j) : j < 8 := h.2.1
def St (x : Int32) (i : Nat) : Prop := i < 8 ∧ vb x i
theorem step_1 {x : Int32} {P : Int} {m : Nat} (hx : x.toInt = P - ((m + 1 : Nat) : Int)) (hm : ((m + 1 : Nat) : Int) ≤ P) (hP : P ≤ 1000) : (x + Int32.ofInt 1).toInt = P - (m : Int) := by
  rw [i_add rfl (by decide : (Int32.ofInt 1).toInt = 1) (by omega)]
  omega
theorem bw_in {u : ac_U} {p0 : Int32} (B4 : Int32 → Int32 → Int32) (x3 x4 : Int32) (hP : 0 ≤ (u.1 4 6).toInt ∧ (u.1 4 6).toInt ≤ 8) (h9 : ∀ b : Nat, b < 8 → 0 ≤ (u.1 9 b).toInt ∧ (u.1 9 b).toInt ≤ 255) : ∀ (m fuel : Nat) (x2 x5 : Int32), x5.toInt = (u.1 4 6).toInt - (m : Int) → (m : Int) ≤ (u.1 4 6).toInt → m < fuel → (0 ≤ x2.toInt ∧ x2.toInt ≤ 255) → ∃ y, K_X2_brokenWith_4_18 B4 u p0 fuel x2 x3 x4 x5 = B4 y (x3 + Int32.ofInt 1) ∧ (0 ≤ y.toInt ∧ y.toInt ≤ 255) ∧ ∀ i, i < 8 → (vb y i ↔ (vb x2 i ∨ ∃ j : Nat, x5.toInt ≤ j ∧ (j : Int) < (u.1 4 6).toInt ∧ vb x4 j ∧ vb (u.1 9 j) i)) := by
  intro m
  induction m with
  | zero =>
    intro fuel x2 x5 hx _ hf h2
    obtain ⟨f, rfl⟩ : ∃ f, fuel = f + 1 := ⟨fuel - 1, by omega⟩
    refine ⟨x2, ?_, h2, fun i hi => ⟨Or.inl, fun q => ?_⟩⟩
    · show K_X2_brokenWith_4_18_b B4 (K_X2_brokenWith_4_18 B4 u p0 f) u p0 x2 x3 x4 x5 = _
      unfold K_X2_brokenWith_4_18_b
      rw [if_pos (by omega)]
    · rcases q with q | ⟨j, j1, j2, _⟩
      · exact q
      · omega
  | succ m ih =>
    intro fuel x2 x5 hx hm hf h2
    obtain ⟨f, rfl⟩ : ∃ f, fuel = f + 1 := ⟨fuel - 1, by omega⟩
    have hk := i_cl (x := x5) (by omega)
    have hx1 := step_1 hx hm (by omega)
    have e5 : x5 = nI x5.toNatClampNeg := nI_oI (by omega)
    by_cases q : vb x4 x5.toNatClampNeg
    · obtain ⟨y, y1, y2, y3⟩ := ih f (x2 ||| u.1 9 x5.toNatClampNeg) (x5 + Int32.ofInt 1) hx1 (by omega) (by omega) (or_255 h2 (h9 _ (by omega)))
      refine ⟨y, ?_, y2, fun i hi => (y3 i hi).trans ⟨fun z => ?_, fun z => ?_⟩⟩
      · rw [← y1]
        show K_X2_brokenWith_4_18_b B4 (K_X2_brokenWith_4_18 B4 u p0 f) u p0 x2 x3 x4 x5 = _
        unfold K_X2_brokenWith_4_18_b
        have hv : ((x4 >>> (x5 &&& 31)) &&& 1).toInt = 1 := by
          unfold vb vbit at q
          rw [← e5] at q
          exact q
        rw [if_neg (by omega)]
        show (if ((x4 >>> (x5 &&& 31)) &&& 1).toInt ≠ 1 then _ else _) = _
        rw [if_neg (fun z => z hv)]
        rfl
      · rcases z with z | ⟨j, j1, j2, j3, j4⟩
        · rcases vb_or.mp z with z | z
          · exact Or.inl z
          · exact Or.inr ⟨x5.toNatClampNeg, by omega, by omega, q, z⟩
        · exact Or.inr ⟨j, by omega, j2, j3, j4⟩
      · rcases z with z | ⟨j, j1, j2, j3, j4⟩
        · exact Or.inl (vb_or.mpr (Or.inl z))
        · by_cases e : j = x5.toNatClampNeg
          · subst e; exact Or.inl (vb_or.mpr (Or.inr j4))
          · exact Or.inr ⟨j, by omega, j2, j3, j4⟩
    · obtain ⟨y, y1, y2, y3⟩ := ih f x2 (x5 + Int32.ofInt 1) hx1 (by omega) (by omega) h2
      refine ⟨y, ?_, y2, fun i hi => (y3 i hi).trans ⟨fun z => ?_, fun z => ?_⟩⟩
      · rw [← y1]
        show K_X2_brokenWith_4_18_b B4 (K_X2_brokenWith_4_18 B4 u p0 f) u p0 x2 x3 x4 x5 = _
        unfold K_X2_brokenWith_4_18_b
        have hv : ((x4 >>> (x5 &&& 31)) &&& 1).toInt ≠ 1 := fun z => q (by
          unfold vb vbit
          rw [← e5]
          exact z)
        rw [if_neg (by omega)]
        show (if ((x4 >>> (x5 &&& 31)) &&& 1).toInt ≠ 1 then _ else _) = _
        rw [if_pos hv]
        rfl
      · rcases z with z | ⟨j, j1, j2, j3, j4⟩
        · exact Or.inl z
        · exact Or.inr ⟨j, by omega, j2, j3, j4⟩
      · rcases z with z | ⟨j, j1, j2, j3, j4⟩
        · exact Or.inl z
        · by_cases e : j = x5.toNatClampNeg
          · subst e; exact absurd j3 q
          · exact Or.inr ⟨j, by omega, j2, j3, j4⟩
theorem bl_un {E : Nat → Nat → Prop} {S : Nat → Prop} : ∀ r i, bl E S r i ↔ (S i ∨ ∃ t, t < r ∧ ∃ j, j < 8 ∧ bl E S t j ∧ E j i) := by
  intro r
  induction r with
  | zero => exact fun i => ⟨Or.inl, fun q => q.elim id (fun ⟨t, ht, _⟩ => absurd ht (Nat.not_lt_zero t))⟩
  | succ r ih =>
    intro i
    refine ⟨fun q => ?_, fun q => ?_⟩
    · rcases q with q | ⟨j, j1, j2, j3⟩
      · rcases (ih i).mp q with q | ⟨t, t1, t2⟩
        · exact Or.inl q
        · exact Or.inr ⟨t, by omega, t2⟩
      · exact Or.inr ⟨r, by omega, j, j1, j2, j3⟩
    · rcases q with q | ⟨t, t1, j, j1, j2, j3⟩
      · exact Or.inl ((ih i).mpr (Or.inl q))
      · exact Or.inr ⟨j, j1, bl_le (by omega) j2, j3⟩
theorem bw_out {u : ac_U} {p0 : Int32} (hP : 0 ≤ (u.1 4 6).toInt ∧ (u.1 4 6).toInt ≤ 8) (hz : Dz (u.1 4) (u.1 5) (u.1 9)) : ∀ (m fuel : Nat) (x2 x3 : Int32), x3.toInt = 8 - (m : Int) → m ≤ 8 → m < fuel → (0 ≤ x2.toInt ∧ x2.toInt ≤ 255) → (∀ i, i < 8 → (vb x2 i ↔ ∃ t, t < 8 - m ∧ ∃ j, j < 8 ∧ bl (Eg u) (St p0) t j ∧ Eg u j i)) → (0 ≤ (K_X2_brokenWith_4_4 u p0 fuel x2 x3).toInt ∧ (K_X2_brokenWith_4_4 u p0 fuel x2 x3).toInt ≤ 255) ∧ ∀ i, i < 8 → (vb (K_X2_brokenWith_4_4 u p0 fuel x2 x3) i ↔ ∃ t, t < 8 ∧ ∃ j, j < 8 ∧ bl (Eg u) (St p0) t j ∧ Eg u j i) := by
  intro m
  induction m with
  | zero =>
    intro fuel x2 x3 hx _ hf h2 h
    obtain ⟨f, rfl⟩ : ∃ f, fuel = f + 1 := ⟨fuel - 1, by omega⟩
    have e : K_X2_brokenWith_4_4 u p0 (f + 1) x2 x3 = x2 := by
      show K_X2_brokenWith_4_4_b (K_X2_brokenWith_4_4 u p0 f) u p0 x2 x3 = x2
      unfold K_X2_brokenWith_4_4_b
      rw [if_pos (by omega)]
    rw [e]
    exact ⟨h2, h⟩
  | succ m ih =>
    intro fuel x2 x3 hx hm hf h2 h
    obtain ⟨f, rfl⟩ : ∃ f, fuel = f + 1 := ⟨fuel - 1, by omega⟩
    have hk : (((u.1 4 6).toInt.toNat : Nat) : Int) = (u.1 4 6).toInt := Int.toNat_of_nonneg hP.1
    obtain ⟨y, y1, y2, y3⟩ := bw_in (u := u) (p0 := p0) (K_X2_brokenWith_4_4 u p0 f) x3 (p0 ||| x2) hP (fun b hb => (hz.2 b hb).1) (u.1 4 6).toInt.toNat 10 x2 (0 : Int32) (by rw [t0i]; omega) (by omega) (by omega) h2
    have e : K_X2_brokenWith_4_4 u p0 (f + 1) x2 x3 = K_X2_brokenWith_4_4 u p0 f y (x3 + Int32.ofInt 1) := by
      rw [← y1]
      show K_X2_brokenWith_4_4_b (K_X2_brokenWith_4_4 u p0 f) u p0 x2 x3 = _
      unfold K_X2_brokenWith_4_4_b
      rw [if_neg (by omega)]
    rw [e]
    refine ih f y (x3 + Int32.ofInt 1) (step_1 (P := 8) (by omega) (by omega) (by omega)) (by omega) (by omega) y2 (fun i hi => (y3 i hi).trans ?_)
    have hS : ∀ j, j < 8 → (vb (p0 ||| x2) j ↔ bl (Eg u) (St p0) (8 - (m + 1)) j) := fun j hj => by
      rw [vb_or, h j hj, bl_un (8 - (m + 1)) j]
      exact ⟨fun q => q.imp (fun z => ⟨hj, z⟩) id, fun q => q.imp (fun z => z.2) id⟩
    refine ⟨fun q => ?_, fun q => ?_⟩
    · rcases q with q | ⟨j, j1, j2, j3, j4⟩
      · obtain ⟨t, t1, t2⟩ := (h i hi).mp q
        exact ⟨t, by omega, t2⟩
      · exact ⟨8 - (m + 1), by omega, j, by omega, (hS j (by omega)).mp j3, by omega, hi, j4⟩
    · obtain ⟨t, t1, j, j1, j2, j3⟩ := q
      refine Or.inr ⟨j, by rw [t0i]; omega, ((hz.2 j j1).2 i hi j3.2.2).2, (hS j j1).mpr (bl_le (by omega) j2), j3.2.2⟩
/-- what is broken with a set of promises -/
theorem bw_sp {u : ac_U} {p0 : Int32} (hP : 0 ≤ (u.1 4 6).toInt ∧ (u.1 4 6).toInt ≤ 8) (hz : Dz (u.1 4) (u.1 5) (u.1 9)) : (0 ≤ (f_X2_brokenWith_4 u p0).toInt ∧ (f_X2_brokenWith_4 u p0).toInt ≤ 255) ∧ ∀ i, i < 8 → (vb (f_X2_brokenWith_4 u p0) i ↔ ∃ j, j < 8 ∧ bl (Eg u) (St p0) 7 j ∧ Eg u j i) := by
  have h := bw_out (u := u) (p0 := p0) hP hz 8 10 (0 : Int32) (0 : Int32) (by decide) (by decide) (by decide) (by decide) (fun i hi => ⟨fun q => absurd q (vb_0 hi), fun ⟨t, t1, _⟩ => absurd t1 (by omega)⟩)
  refine ⟨h.1, fun i hi => (h.2 i hi).trans ⟨fun ⟨t, t1, j, j1, j2, j3⟩ => ⟨j, j1, bl_le (by omega) j2, j3⟩, fun ⟨j, j1, j2, j3⟩ => ⟨7, by decide, j, j1, j2, j3⟩⟩⟩

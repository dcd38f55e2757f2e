/-! roots() alike. -/
theorem bl_one {E : Nat → Nat → Prop} {S : Nat → Prop} : ∀ n i, bl E S n i ↔ ∃ k, S k ∧ bl E (fun a => a = k) n i := by
  intro n
  induction n with
  | zero => exact fun i => ⟨fun q => ⟨i, q, rfl⟩, fun ⟨k, k1, k2⟩ => by have k2 : i = k := k2; subst k2; exact k1⟩
  | succ n ih =>
    intro i
    refine ⟨fun q => ?_, fun ⟨k, k1, k2⟩ => ?_⟩
    · rcases q with q | ⟨j, j1, j2, j3⟩
      · obtain ⟨k, k1, k2⟩ := (ih i).mp q
        exact ⟨k, k1, Or.inl k2⟩
      · obtain ⟨k, k1, k2⟩ := (ih j).mp j2
        exact ⟨k, k1, Or.inr ⟨j, j1, k2, j3⟩⟩
    · rcases k2 with k2 | ⟨j, j1, j2, j3⟩
      · exact Or.inl ((ih i).mpr ⟨k, k1, k2⟩)
      · exact Or.inr ⟨j, j1, (ih j).mpr ⟨k, k1, j2⟩, j3⟩
def uZ : ac_U := (fun _ _ => 0, fun _ _ => 0)
theorem bits_u (u u' : ac_U) (p p' : Int32) : ∀ (n : Nat) (x1 x2 : Int32), K_X12_bits_4 u p n x1 x2 = K_X12_bits_4 u' p' n x1 x2 := by
  intro n
  induction n with
  | zero => exact fun _ _ => rfl
  | succ n ih =>
    intro x1 x2
    show K_X12_bits_4_b (K_X12_bits_4 u p n) u p x1 x2 = K_X12_bits_4_b (K_X12_bits_4 u' p' n) u' p' x1 x2
    unfold K_X12_bits_4_b
    by_cases q : x2.toInt = 0
    · rw [if_pos q, if_pos q]
    · rw [if_neg q, if_neg q]
      exact ih _ _
/-- with nine turns the count of a byte is through -/
theorem bits_9 : ∀ z, z < 256 → K_X12_bits_4 uZ 0 10 0 (nI z) = f_J6_bitCount_0f7a4 uZ (nI z) ∧ (K_X12_bits_4 uZ 0 9 0 (nI z) = K_X12_bits_4 uZ 0 10 0 (nI z)) := by decide +kernel
def bsF : Nat → Int32 → Int32
  | 0, x => x
  | n + 1, x => bsF n (x &&& (x - 1))
theorem bits_st (u : ac_U) (p : Int32) : ∀ (n k : Nat) (x1 x2 : Int32), (bsF n x2).toInt = 0 → K_X12_bits_4 u p (n + 1 + k) x1 x2 = K_X12_bits_4 u p (n + 1) x1 x2 := by
  intro n
  induction n with
  | zero =>
    intro k x1 x2 h
    have h : x2.toInt = 0 := h
    rw [show 0 + 1 + k = k + 1 by omega]
    show K_X12_bits_4_b (K_X12_bits_4 u p k) u p x1 x2 = K_X12_bits_4_b (K_X12_bits_4 u p 0) u p x1 x2
    unfold K_X12_bits_4_b
    rw [if_pos h, if_pos h]
  | succ n ih =>
    intro k x1 x2 h
    rw [show n + 1 + 1 + k = (n + 1 + k) + 1 by omega]
    show K_X12_bits_4_b (K_X12_bits_4 u p (n + 1 + k)) u p x1 x2 = K_X12_bits_4_b (K_X12_bits_4 u p (n + 1)) u p x1 x2
    unfold K_X12_bits_4_b
    by_cases q : x2.toInt = 0
    · rw [if_pos q, if_pos q]
    · rw [if_neg q, if_neg q]
      exact ih k _ _ h
theorem bsF_8 : ∀ z, z < 256 → (bsF 8 (nI z)).toInt = 0 := by decide +kernel
theorem bits_eq (u w : ac_U) {x : Int32} (hx : 0 ≤ x.toInt ∧ x.toInt ≤ 255) : f_X12_bits w x = f_J6_bitCount_0f7a4 u x := by
  have hc := i_cl (x := x) hx.1
  have hn := nI_oI hx.1
  have h1 := bits_9 x.toNatClampNeg (by omega)
  have h2 := bsF_8 x.toNatClampNeg (by omega)
  rw [← hn] at h1 h2
  have h3 := bits_st w x 8 4294967288 0 x h2
  rw [show 8 + 1 + 4294967288 = 4294967297 by decide] at h3
  have h4 : f_X12_bits w x = K_X12_bits_4 w x 4294967297 (0 : Int32) x := rfl
  rw [h4, h3, bits_u w uZ x 0, h1.2, h1.1]
  rfl
theorem bc_lt : ∀ P, P < 9 → ∀ z, z < 2 ^ P - 1 → (f_J6_bitCount_0f7a4 uZ (nI z)).toInt < (f_J6_bitCount_0f7a4 uZ (nI (2 ^ P - 1))).toInt := by decide +kernel
theorem gb_le : ∀ z, z < 256 → ∀ k, k < 8 → (((nI z) >>> (nI k &&& 31)) &&& 1).toInt = 1 → 2 ^ k ≤ z := by decide +kernel
theorem wh_b : ∀ P, P < 9 → ∀ k, k < 8 → ((((nI (2 ^ P - 1)) >>> (nI k &&& 31)) &&& 1).toInt = 1 ↔ k < P) := by decide +kernel
def finR (B9 : ac_U → Int32 → Int32 → ac_U × Int32) (w : ac_U) (x1 x2 y : Int32) : ac_U × Int32 := if y.toInt ≠ ((1 : Int32) <<< (w.1 87 6 &&& 31) - 1).toInt then B9 w x1 (x2 + Int32.ofInt 1) else if x1.toInt < 0 then B9 w x2 (x2 + Int32.ofInt 1) else if (f_X12_bits w x1).toInt ≤ (f_X12_bits w x2).toInt then B9 w x1 (x2 + Int32.ofInt 1) else B9 w x2 (x2 + Int32.ofInt 1)
theorem ra_loop {u w w0 : ac_U} (hE : HE u w) (hP : 0 ≤ (w.1 87 6).toInt ∧ (w.1 87 6).toInt ≤ 8) (hV : 0 ≤ (w.1 87 7).toInt ∧ (w.1 87 7).toInt ≤ 8) (hv : Vr w) (B9 : ac_U → Int32 → Int32 → ac_U × Int32) (x1 x2 : Int32) : ∀ (m fuel : Nat) (x3 x4 : Int32), x4.toInt = (w.1 87 6).toInt - (m : Int) → (m : Int) ≤ (w.1 87 6).toInt → m < fuel → (0 ≤ x3.toInt ∧ x3.toInt ≤ 255) → ∃ y, K_X12_roots_85_27 B9 w0 fuel w x1 x2 x3 x4 = finR B9 w x1 x2 y ∧ (0 ≤ y.toInt ∧ y.toInt ≤ 255) ∧ ∀ i, i < 8 → (vb y i ↔ (vb x3 i ∨ ∃ k : Nat, x4.toInt ≤ k ∧ (k : Int) < (w.1 87 6).toInt ∧ vb x2 k ∧ bl (Eg u) (fun a => a = k) 8 i)) := by
  intro m
  induction m with
  | zero =>
    intro fuel x3 x4 hx _ hf h3
    obtain ⟨f, rfl⟩ : ∃ f, fuel = f + 1 := ⟨fuel - 1, by omega⟩
    refine ⟨x3, ?_, h3, fun i hi => ⟨Or.inl, fun q => ?_⟩⟩
    · show K_X12_roots_85_27_b B9 (K_X12_roots_85_27 B9 w0 f) w0 w x1 x2 x3 x4 = _
      unfold K_X12_roots_85_27_b
      rw [if_pos (by omega)]
      rfl
    · rcases q with q | ⟨k, k1, k2, _⟩
      · exact q
      · omega
  | succ m ih =>
    intro fuel x3 x4 hx hm hf h3
    obtain ⟨f, rfl⟩ : ∃ f, fuel = f + 1 := ⟨fuel - 1, by omega⟩
    have hk := i_cl (x := x4) (by omega)
    have hn := nI_oI (x := x4) (by omega)
    have hx1 := step_1 hx hm (by omega)
    obtain ⟨c1, c2⟩ := rc_sp (u := u) (w := w) (k := x4.toNatClampNeg) (by omega) hE hV hv
    rw [← hn] at c1 c2
    by_cases q : vbit x2 x4
    · have q' := (vbn (by omega)).mp q
      obtain ⟨y, y1, y2, y3⟩ := ih f (x3 ||| f_X12_chainOf_85 w x4) (x4 + Int32.ofInt 1) hx1 (by omega) (by omega) (or_255 h3 c1)
      refine ⟨y, ?_, y2, fun i hi => (y3 i hi).trans ⟨fun z => ?_, fun z => ?_⟩⟩
      · rw [← y1]
        show K_X12_roots_85_27_b B9 (K_X12_roots_85_27 B9 w0 f) w0 w x1 x2 x3 x4 = _
        unfold K_X12_roots_85_27_b
        simp only [vl]
        rw [if_neg (by omega), bo_1 q, if_neg n1']
        rfl
      · rcases z with z | ⟨k, k1, k2⟩
        · rcases vb_or.mp z with z | z
          · exact Or.inl z
          · exact Or.inr ⟨x4.toNatClampNeg, by omega, by omega, q', (c2 i hi).mp z⟩
        · exact Or.inr ⟨k, by omega, k2⟩
      · rcases z with z | ⟨k, k1, k2, k3, k4⟩
        · exact Or.inl (vb_or.mpr (Or.inl z))
        · by_cases e : k = x4.toNatClampNeg
          · subst e; exact Or.inl (vb_or.mpr (Or.inr ((c2 i hi).mpr k4)))
          · exact Or.inr ⟨k, by omega, k2, k3, k4⟩
    · obtain ⟨y, y1, y2, y3⟩ := ih f (x3 ||| 0) (x4 + Int32.ofInt 1) hx1 (by omega) (by omega) (or_255 h3 (by decide))
      refine ⟨y, ?_, y2, fun i hi => (y3 i hi).trans ⟨fun z => ?_, fun z => ?_⟩⟩
      · rw [← y1]
        show K_X12_roots_85_27_b B9 (K_X12_roots_85_27 B9 w0 f) w0 w x1 x2 x3 x4 = _
        unfold K_X12_roots_85_27_b
        simp only [vl]
        rw [if_neg (by omega), bo_0 q, if_pos t0i]
        rfl
      · rcases z with z | ⟨k, k1, k2⟩
        · rcases vb_or.mp z with z | z
          · exact Or.inl z
          · exact absurd z (vb_0 hi)
        · exact Or.inr ⟨k, by omega, k2⟩
      · rcases z with z | ⟨k, k1, k2, k3, k4⟩
        · exact Or.inl (vb_or.mpr (Or.inl z))
        · by_cases e : k = x4.toNatClampNeg
          · subst e; exact absurd ((vbn (by omega)).mpr k3) q
          · exact Or.inr ⟨k, by omega, k2, k3, k4⟩
/-- what is covered by a set: the same on both sides -/
theorem cov_eq {u w : ac_U} (hE : HE u w) (hP : 0 ≤ (u.1 4 6).toInt ∧ (u.1 4 6).toInt ≤ 8) (hz : Dz (u.1 4) (u.1 5) (u.1 9)) {x y : Int32} (hx : 0 ≤ x.toInt ∧ x.toInt < 2 ^ (u.1 4 6).toInt.toNat) (hy : 0 ≤ y.toInt ∧ y.toInt ≤ 255) (h : ∀ i, i < 8 → (vb y i ↔ (vb (0 : Int32) i ∨ ∃ k : Nat, (0 : Int) ≤ k ∧ (k : Int) < (u.1 4 6).toInt ∧ vb x k ∧ bl (Eg u) (fun a => a = k) 8 i))) : x ||| f_X2_brokenWith_4 u x = y := by
  have hp : (((u.1 4 6).toInt.toNat : Nat) : Int) = (u.1 4 6).toInt := Int.toNat_of_nonneg hP.1
  have h256 : (2 : Int) ^ (u.1 4 6).toInt.toNat ≤ 256 := by
    have : (2 : Nat) ^ (u.1 4 6).toInt.toNat ≤ 2 ^ 8 := Nat.pow_le_pow_right (by decide) (by omega)
    have e : ((2 ^ (u.1 4 6).toInt.toNat : Nat) : Int) = (2 : Int) ^ (u.1 4 6).toInt.toNat := by exact_mod_cast rfl
    omega
  obtain ⟨b1, b2⟩ := bw_sp (u := u) (p0 := x) hP hz
  have hx2 : 0 ≤ x.toInt ∧ x.toInt ≤ 255 := by omega
  have hlow : ∀ k, k < 8 → vb x k → (k : Int) < (u.1 4 6).toInt := fun k hk q => by
    have hc := i_cl (x := x) hx.1
    have hn := nI_oI hx.1
    unfold vb vbit at q
    rw [hn] at q
    have h1 := gb_le x.toNatClampNeg (by omega) k hk q
    apply Classical.byContradiction
    intro z
    have h2 : (2 : Nat) ^ (u.1 4 6).toInt.toNat ≤ 2 ^ k := Nat.pow_le_pow_right (by decide) (by omega)
    have e : ((2 ^ (u.1 4 6).toInt.toNat : Nat) : Int) = (2 : Int) ^ (u.1 4 6).toInt.toNat := by exact_mod_cast rfl
    omega
  refine ext255 (or_255 hx2 b1) hy (fun i hi => Iff.trans ?_ (h i hi).symm)
  rw [vb_or, b2 i hi]
  refine ⟨fun q => ?_, fun q => ?_⟩
  · have q : bl (Eg u) (St x) 8 i := by
      rcases q with q | ⟨j, j1, j2, j3⟩
      · exact bl_le (Nat.zero_le 8) (show bl (Eg u) (St x) 0 i from ⟨hi, q⟩)
      · exact Or.inr ⟨j, j1, j2, j3⟩
    obtain ⟨k, k1, k2⟩ := (bl_one 8 i).mp q
    exact Or.inr ⟨k, by omega, hlow k k1.1 k1.2, k1.2, k2⟩
  · rcases q with q | ⟨k, k1, k2, k3, k4⟩
    · exact absurd q (vb_0 hi)
    · have q := (bl_one (S := St x) 8 i).mpr ⟨k, ⟨by omega, k3⟩, k4⟩
      rcases (bl_un 8 i).mp q with q | ⟨t, t1, j, j1, j2, j3⟩
      · exact Or.inl q.2
      · exact Or.inr ⟨j, j1, bl_le (by omega) j2, j3⟩

theorem wh_i {x : Int32} {P : Nat} (hx : x.toInt = P) (hP : P < 9) : ((1 : Int32) <<< (x &&& 31) - 1).toInt = 2 ^ P - 1 := by
  have h1 : x = nI P := Int32.toInt_inj.mp (by rw [nI_toInt (by omega), hx])
  have h2 := i_shl1 P (by omega)
  rw [← h1] at h2
  have h3 : (2 : Nat) ^ P ≤ 2 ^ 8 := Nat.pow_le_pow_right (by decide) (by omega)
  have h4 : (1 : Nat) ≤ 2 ^ P := Nat.one_le_two_pow
  have e : ((2 ^ P : Nat) : Int) = (2 : Int) ^ P := by exact_mod_cast rfl
  rw [i_sub h2 (by decide : (1 : Int32).toInt = 1) (by omega)]
def RcR (W : Int) (c r : Int32) : Prop := (r.toInt < 0 ∧ c.toInt = W) ∨ (0 ≤ r.toInt ∧ c = r ∧ c.toInt < W)
theorem roots_loop {u w w0 : ac_U} {P : Nat} {wh : Int32} (hE : HE u w) (hp : (u.1 4 6).toInt = P) (hP : P < 9) (hwh : wh = (1 : Int32) <<< (u.1 4 6 &&& 31) - 1) (hV : 0 ≤ (w.1 87 7).toInt ∧ (w.1 87 7).toInt ≤ 8) (hz : Dz (u.1 4) (u.1 5) (u.1 9)) (hv : Vr w) : ∀ (m f1 f2 : Nat) (c r s : Int32), s.toInt = (2 ^ P - 1) - (m : Int) → (m : Int) ≤ 2 ^ P - 1 → m + 1 < f1 → m + 1 < f2 → RcR (2 ^ P - 1) c r → r.toInt < s.toInt → K_X2_rootBits_4_13 u f1 wh c s = (K_X12_roots_85_9 w0 f2 w r s).2 := by
  have e6 : w.1 87 6 = u.1 4 6 := (hE.1 6 (by decide)).symm
  have hW : wh.toInt = 2 ^ P - 1 := by rw [hwh]; exact wh_i hp hP
  have h3 : (2 : Nat) ^ P ≤ 2 ^ 8 := Nat.pow_le_pow_right (by decide) (by omega)
  have h4 : (1 : Nat) ≤ 2 ^ P := Nat.one_le_two_pow
  have e : ((2 ^ P : Nat) : Int) = (2 : Int) ^ P := by exact_mod_cast rfl
  have h256 : (2 : Int) ^ P ≤ 256 := by omega
  have h1 : (1 : Int) ≤ 2 ^ P := by omega
  have hsh : ((1 : Int32) <<< (w.1 87 6 &&& 31)).toInt = 2 ^ P := by
    have g1 : w.1 87 6 = nI P := Int32.toInt_inj.mp (by rw [nI_toInt (by omega), e6, hp])
    rw [g1]
    exact i_shl1 P (by omega)
  have hwn : wh = nI (2 ^ P - 1) := Int32.toInt_inj.mp (by rw [nI_toInt (by omega), hW]; omega)
  have hbc : ∀ x : Int32, 0 ≤ x.toInt → x.toInt < 2 ^ P - 1 → (f_J6_bitCount_0f7a4 u x).toInt < (f_J6_bitCount_0f7a4 u wh).toInt := fun x x0 x1 => by
    have hc := i_cl (x := x) x0
    have := bc_lt P hP x.toNatClampNeg (by omega)
    rw [← nI_oI x0, ← hwn] at this
    exact this
  -- one turn of the reference
  have turn : ∀ (f : Nat) (r s : Int32), 0 ≤ s.toInt → s.toInt ≤ 2 ^ P - 1 → K_X12_roots_85_9 w0 (f + 1) w r s = finR (K_X12_roots_85_9 w0 f) w r s (s ||| f_X2_brokenWith_4 u s) := fun f r s s0 s1 => by
    obtain ⟨y, y1, y2, y3⟩ := ra_loop (u := u) (w := w) (w0 := w0) hE (by rw [e6, hp]; omega) hV hv (K_X12_roots_85_9 w0 f) r s P 10 (0 : Int32) (0 : Int32) (by rw [e6, hp, t0i]; omega) (by rw [e6, hp]; omega) (by omega) (by decide)
    have hy : s ||| f_X2_brokenWith_4 u s = y := by
      refine cov_eq (u := u) (w := w) hE (by omega) hz ⟨s0, ?_⟩ y2 (fun i hi => ?_)
      · rw [hp]
        show s.toInt < 2 ^ P
        omega
      · have := y3 i hi
        rw [e6, t0i] at this
        exact this
    rw [hy, ← y1]
    show K_X12_roots_85_9_b (K_X12_roots_85_9 w0 f) w0 w r s = _
    unfold K_X12_roots_85_9_b
    exact if_neg (by rw [hsh]; omega)
  have hfin : ∀ (B9 : ac_U → Int32 → Int32 → ac_U × Int32) (r s y : Int32), finR B9 w r s y = if y.toInt ≠ wh.toInt then B9 w r (s + Int32.ofInt 1) else if r.toInt < 0 then B9 w s (s + Int32.ofInt 1) else if (f_X12_bits w r).toInt ≤ (f_X12_bits w s).toInt then B9 w r (s + Int32.ofInt 1) else B9 w s (s + Int32.ofInt 1) := fun B9 r s y => by
    unfold finR
    rw [e6, ← hwh]
  have tC : ∀ (f : Nat) (c s : Int32), s.toInt ≤ wh.toInt → K_X2_rootBits_4_13 u (f + 1) wh c s = if (f_J6_bitCount_0f7a4 u c).toInt ≤ (f_J6_bitCount_0f7a4 u s).toInt then K_X2_rootBits_4_13 u f wh c (s + Int32.ofInt 1) else if (s ||| f_X2_brokenWith_4 u s).toInt ≠ wh.toInt then K_X2_rootBits_4_13 u f wh c (s + Int32.ofInt 1) else K_X2_rootBits_4_13 u f wh s (s + Int32.ofInt 1) := fun f c s hs => by
    show K_X2_rootBits_4_13_b (K_X2_rootBits_4_13 u f) u wh c s = _
    unfold K_X2_rootBits_4_13_b
    exact if_neg (by omega)
  intro m
  induction m with
  | zero =>
    intro f1 f2 c r s hs _ hf1 hf2 hR hrs
    obtain ⟨g1, rfl⟩ : ∃ g1, f1 = g1 + 1 + 1 := ⟨f1 - 2, by omega⟩
    obtain ⟨g2, rfl⟩ : ∃ g2, f2 = g2 + 1 + 1 := ⟨f2 - 2, by omega⟩
    have hsw : s = wh := Int32.toInt_inj.mp (by rw [hW]; omega)
    have hs1 : (s + Int32.ofInt 1).toInt = 2 ^ P := by
      rw [i_add rfl (by decide : (Int32.ofInt 1).toInt = 1) (by omega)]
      omega
    have eC : ∀ c, K_X2_rootBits_4_13 u (g1 + 1) wh c (s + Int32.ofInt 1) = c := fun c => by
      show K_X2_rootBits_4_13_b (K_X2_rootBits_4_13 u g1) u wh c (s + Int32.ofInt 1) = c
      unfold K_X2_rootBits_4_13_b
      exact if_pos (by omega)
    have eR : ∀ r, K_X12_roots_85_9 w0 (g2 + 1) w r (s + Int32.ofInt 1) = (w, r) := fun r => by
      show K_X12_roots_85_9_b (K_X12_roots_85_9 w0 g2) w0 w r (s + Int32.ofInt 1) = (w, r)
      unfold K_X12_roots_85_9_b
      exact if_pos (by rw [hsh]; omega)
    -- the whole covers the whole
    have hcov : (s ||| f_X2_brokenWith_4 u s).toInt = wh.toInt := by
      have hPi : 0 ≤ (u.1 4 6).toInt ∧ (u.1 4 6).toInt ≤ 8 := by omega
      obtain ⟨b1, b2⟩ := bw_sp (u := u) (p0 := s) hPi hz
      have : s ||| f_X2_brokenWith_4 u s = wh := by
        refine ext255 (or_255 (by omega) b1) (by omega) (fun i hi => ?_)
        have hb : vb wh i ↔ i < P := by
          unfold vb vbit
          rw [hwn]
          exact wh_b P hP i hi
        rw [vb_or, hsw, hb]
        refine ⟨fun q => ?_, Or.inl⟩
        rcases q with q | q
        · exact q
        · rw [← hsw] at q
          obtain ⟨j, j1, j2, j3⟩ := (b2 i hi).mp q
          have := ((hz.2 j j3.1).2 i hi j3.2.2).1
          omega
      rw [this]
    have hnc : ¬ ((s ||| f_X2_brokenWith_4 u s).toInt ≠ wh.toInt) := fun z => z hcov
    rw [turn (g2 + 1) r s (by omega) (by omega), hfin, tC (g1 + 1) c s (by omega), if_neg hnc, if_neg hnc]
    rw [eC, eC, eR, eR]
    rcases hR with ⟨r1, r2⟩ | ⟨r1, r2, r3⟩
    · have hcw : c = wh := Int32.toInt_inj.mp (by rw [hW]; omega)
      rw [if_pos r1, hcw, hsw, if_pos (Int.le_refl _)]
    · have hb1 := hbc r r1 (by rw [← r2]; exact r3)
      rw [if_neg (show ¬ r.toInt < 0 by omega), r2, bits_eq u w (x := r) (by rw [r2] at r3; omega), bits_eq u w (x := s) (by omega), hsw]
      have hle : (f_J6_bitCount_0f7a4 u r).toInt ≤ (f_J6_bitCount_0f7a4 u wh).toInt := by omega
      rw [if_pos hle, if_pos hle]
  | succ m ih =>
    intro f1 f2 c r s hs hm hf1 hf2 hR hrs
    obtain ⟨g1, rfl⟩ : ∃ g1, f1 = g1 + 1 := ⟨f1 - 1, by omega⟩
    obtain ⟨g2, rfl⟩ : ∃ g2, f2 = g2 + 1 := ⟨f2 - 1, by omega⟩
    have hs0 : 0 ≤ s.toInt := by omega
    have hs1 : (s + Int32.ofInt 1).toInt = s.toInt + 1 := i_add rfl (by decide : (Int32.ofInt 1).toInt = 1) (by omega)
    have hsm : (s + Int32.ofInt 1).toInt = (2 ^ P - 1) - (m : Int) := by omega
    rw [turn g2 r s hs0 (by omega), hfin, tC g1 c s (by omega)]
    by_cases hcov : (s ||| f_X2_brokenWith_4 u s).toInt ≠ wh.toInt
    · rw [if_pos hcov, if_pos hcov]
      have hi := ih g1 g2 c r (s + Int32.ofInt 1) hsm (by omega) (by omega) (by omega) hR (by omega)
      by_cases q : (f_J6_bitCount_0f7a4 u c).toInt ≤ (f_J6_bitCount_0f7a4 u s).toInt
      · rw [if_pos q]; exact hi
      · rw [if_neg q]; exact hi
    · rw [if_neg hcov, if_neg hcov]
      have his := ih g1 g2 s s (s + Int32.ofInt 1) hsm (by omega) (by omega) (by omega) (Or.inr ⟨hs0, rfl, by omega⟩) (by omega)
      have hR0 := hR
      rcases hR with ⟨r1, r2⟩ | ⟨r1, r2, r3⟩
      · have hcw : c = wh := Int32.toInt_inj.mp (by rw [hW]; omega)
        have hlt := hbc s hs0 (by omega)
        rw [if_neg (show ¬ (f_J6_bitCount_0f7a4 u c).toInt ≤ (f_J6_bitCount_0f7a4 u s).toInt by rw [hcw]; omega), if_pos r1]
        exact his
      · have hir := ih g1 g2 c r (s + Int32.ofInt 1) hsm (by omega) (by omega) (by omega) hR0 (by omega)
        rw [r2] at hir r3 ⊢
        rw [if_neg (show ¬ r.toInt < 0 by omega), bits_eq u w (x := r) (by omega), bits_eq u w (x := s) (by omega)]
        by_cases q : (f_J6_bitCount_0f7a4 u r).toInt ≤ (f_J6_bitCount_0f7a4 u s).toInt
        · rw [if_pos q, if_pos q]; exact hir
        · rw [if_neg q, if_neg q]; exact his
theorem roots_sim {u w : ac_U} (hE : HE u w) (hP : 0 ≤ (u.1 4 6).toInt ∧ (u.1 4 6).toInt ≤ 8) (hV : 0 ≤ (w.1 87 7).toInt ∧ (w.1 87 7).toInt ≤ 8) (hz : Dz (u.1 4) (u.1 5) (u.1 9)) (hv : Vr w) : f_X11_roots_0 u = (f_X12_roots_85 w).2 := by
  have hp : (u.1 4 6).toInt = (((u.1 4 6).toInt.toNat : Nat) : Int) := (Int.toNat_of_nonneg hP.1).symm
  have h1 : f_X11_roots_0 u = K_X2_rootBits_4_13 u 258 ((1 : Int32) <<< (u.1 4 6 &&& 31) - 1) ((1 : Int32) <<< (u.1 4 6 &&& 31) - 1) (0 : Int32) := rfl
  have h2 : f_X12_roots_85 w = K_X12_roots_85_9 w 258 (pI w 85 0 (0 : Int32)) (-1 : Int32) (0 : Int32) := rfl
  have h3 : (2 : Nat) ^ (u.1 4 6).toInt.toNat ≤ 2 ^ 8 := Nat.pow_le_pow_right (by decide) (by omega)
  have h4 : (1 : Nat) ≤ 2 ^ (u.1 4 6).toInt.toNat := Nat.one_le_two_pow
  have e : ((2 ^ (u.1 4 6).toInt.toNat : Nat) : Int) = (2 : Int) ^ (u.1 4 6).toInt.toNat := by exact_mod_cast rfl
  rw [h1, h2]
  refine roots_loop (u := u) (w := pI w 85 0 (0 : Int32)) (w0 := w) (P := (u.1 4 6).toInt.toNat) hE hp (by omega) rfl hV hz hv (2 ^ (u.1 4 6).toInt.toNat - 1) 258 258 _ (-1 : Int32) (0 : Int32) ?_ ?_ (by omega) (by omega) (Or.inl ⟨by decide, wh_i hp (by omega)⟩) (by decide)
  · rw [t0i]; omega
  · omega

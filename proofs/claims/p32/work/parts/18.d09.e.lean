/-! dry() alike. -/
theorem m1_bit (i : Nat) (hi : i < 32) : ((-1 : Int32).toBitVec).getLsbD i = true := by
  have h : (-1 : Int32).toBitVec = BitVec.allOnes 32 := by decide
  rw [h, BitVec.getLsbD_allOnes, decide_eq_true hi]
theorem nand_or (M a b : Int32) : (M &&& (a ^^^ -1)) &&& (b ^^^ -1) = M &&& ((a ||| b) ^^^ -1) := by
  apply Int32.toBitVec_inj.mp
  simp only [Int32.toBitVec_and, Int32.toBitVec_xor, Int32.toBitVec_or]
  apply BitVec.eq_of_getLsbD_eq
  intro i hi
  simp only [BitVec.getLsbD_and, BitVec.getLsbD_xor, BitVec.getLsbD_or, m1_bit i hi]
  cases M.toBitVec.getLsbD i <;> cases a.toBitVec.getLsbD i <;> cases b.toBitVec.getLsbD i <;> rfl
theorem nand_0 (M : Int32) : M &&& ((0 : Int32) ^^^ -1) = M := by
  rw [show (0 : Int32) ^^^ -1 = -1 by decide]
  apply Int32.toBitVec_inj.mp
  simp only [Int32.toBitVec_and]
  apply BitVec.eq_of_getLsbD_eq
  intro i hi
  simp only [BitVec.getLsbD_and, m1_bit i hi, Bool.and_true]
theorem dry_loop {u w w0 : ac_U} {M : Int32} (hE : HE u w) (hr : 0 ≤ (u.1 4 3).toInt ∧ (u.1 4 3).toInt ≤ 6) : ∀ (m fuel : Nat) (v : ac_U) (a x : Int32), x.toInt = (u.1 4 3).toInt - (m : Int) → (m : Int) ≤ (u.1 4 3).toInt → m < fuel → (∀ k, v.1 87 k = w.1 87 k) → K_X12_dry_85_18 w0 fuel v (M &&& (a ^^^ -1)) x = (v, M &&& (K_X2_frogPlaces_4_4 u fuel a x ^^^ -1)) := by
  intro m
  induction m with
  | zero =>
    intro fuel v a x hx _ hf hv
    obtain ⟨f, rfl⟩ : ∃ f, fuel = f + 1 := ⟨fuel - 1, by omega⟩
    have e3 : v.1 87 3 = u.1 4 3 := (hv 3).trans (hE.1 3 (by decide)).symm
    show K_X12_dry_85_18_b (K_X12_dry_85_18 w0 f) w0 v _ x = (v, M &&& (K_X2_frogPlaces_4_4_b (K_X2_frogPlaces_4_4 u f) u a x ^^^ -1))
    unfold K_X12_dry_85_18_b K_X2_frogPlaces_4_4_b
    rw [e3, if_pos (by omega), if_pos (by omega)]
  | succ m ih =>
    intro fuel v a x hx hm hf hv
    obtain ⟨f, rfl⟩ : ∃ f, fuel = f + 1 := ⟨fuel - 1, by omega⟩
    have e3 : v.1 87 3 = u.1 4 3 := (hv 3).trans (hE.1 3 (by decide)).symm
    have hk := i_cl (x := x) (by omega)
    have hx1 : (x + Int32.ofInt 1).toInt = (u.1 4 3).toInt - (m : Int) := by
      rw [i_add rfl (by decide : (Int32.ofInt 1).toInt = 1) (by omega)]
      omega
    have e6 : v.1 87 (16 + x).toNatClampNeg = u.1 6 x.toNatClampNeg := by
      rw [off_n (x := x) (c := (16 : Int32)) (n := 16) (by decide) (by omega) (by decide), hv]
      exact (hE.2.2.1 _ (by omega)).symm
    have h1 := ih f v (a ||| (1 : Int32) <<< (u.1 6 x.toNatClampNeg &&& 31)) (x + Int32.ofInt 1) hx1 (by omega) (by omega) hv
    show K_X12_dry_85_18_b (K_X12_dry_85_18 w0 f) w0 v _ x = (v, M &&& (K_X2_frogPlaces_4_4_b (K_X2_frogPlaces_4_4 u f) u a x ^^^ -1))
    unfold K_X12_dry_85_18_b K_X2_frogPlaces_4_4_b
    rw [e3, if_neg (by omega), if_neg (by omega)]
    show K_X12_dry_85_18 w0 f v ((M &&& (a ^^^ -1)) &&& ((1 : Int32) <<< (v.1 87 (16 + x).toNatClampNeg &&& 31) ^^^ -1)) (x + Int32.ofInt 1) = _
    rw [e6, nand_or]
    exact h1
theorem dry_sim {u w : ac_U} (hE : HE u w) (hr : 0 ≤ (u.1 4 3).toInt ∧ (u.1 4 3).toInt ≤ 6) : f_X11_dry_0 u = (f_X12_dry_85 w).2 := by
  have e1 : w.1 87 1 = u.1 4 1 := (hE.1 1 (by decide)).symm
  have hc : f_X12_dry_85 w = K_X12_dry_85_18 w 8 (pI w 85 0 (0 : Int32)) ((1 : Int32) <<< (w.1 87 1 &&& 31) - 1) (0 : Int32) := rfl
  have hf : f_X11_dry_0 u = ((1 : Int32) <<< (u.1 4 1 &&& 31) - 1) &&& (K_X2_frogPlaces_4_4 u 8 (0 : Int32) (0 : Int32) ^^^ -1) := rfl
  have hz : (((u.1 4 3).toInt.toNat : Nat) : Int) = (u.1 4 3).toInt := Int.toNat_of_nonneg hr.1
  have h := dry_loop (u := u) (w := w) (w0 := w) (M := (1 : Int32) <<< (u.1 4 1 &&& 31) - 1) hE hr (u.1 4 3).toInt.toNat 8 (pI w 85 0 (0 : Int32)) 0 0 (by rw [t0i]; omega) (by omega) (by omega) (fun k => pI_c (by decide))
  rw [nand_0] at h
  rw [hc, hf, e1, h]
theorem cm_dry {u u1 u2 : ac_U} {r1 r2 : Int32} (e : u1 = u) (x1 : f_X11_dry_0 u = r1) (x2 : f_X12_dry_85 u1 = (u2, r2)) (hR : ac_R rg u) (_ : (u.1 1 2).toInt = (u.1 85 2).toInt) (hH : hxI u) : r1 = r2 := by
  subst e
  have h := dry_sim (u := u1) (w := u1) hH.1 (hR 4 3)
  rw [x1, x2] at h
  exact h

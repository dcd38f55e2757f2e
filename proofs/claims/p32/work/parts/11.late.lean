/-! Words and ranges that came later. -/
theorem rg_seg_87_22_25 {u : ac_U} {i v : Int32} (h : ac_R rg u) (e : u.1 87 i.toNatClampNeg = v) (hi : (22 : Int) ≤ i.toInt ∧ i.toInt ≤ 25) : (0 : Int) ≤ v.toInt ∧ v.toInt ≤ 7 := by
  have h1 : ∀ k, k < 26 → 22 ≤ k → (0 : Int) ≤ (rg 87 k).1 ∧ (rg 87 k).2 ≤ 7 := by decide +kernel
  have h2 := i_cl (x := i) (by omega)
  have h3 := h1 i.toNatClampNeg (by omega) (by omega)
  have h4 := h 87 i.toNatClampNeg
  rw [e] at h4
  omega
theorem rs_88_0_105 {i v : Int32} (hi : (0 : Int) ≤ i.toInt ∧ i.toInt ≤ 105) (hv : (0 : Int) ≤ v.toInt ∧ v.toInt ≤ 3) : (rg 88 i.toNatClampNeg).1 ≤ v.toInt ∧ v.toInt ≤ (rg 88 i.toNatClampNeg).2 := by
  have h1 : ∀ k, k < 106 → 0 ≤ k → (rg 88 k).1 ≤ (0 : Int) ∧ (3 : Int) ≤ (rg 88 k).2 := by decide +kernel
  have h2 := i_cl (x := i) (by omega)
  have h3 := h1 i.toNatClampNeg (by omega) (by omega)
  omega

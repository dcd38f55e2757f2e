theorem rg_seg_25_3_6 {u : ac_U} {i v : Int32} (h : ac_R rg u) (e : u.1 25 i.toNatClampNeg = v) (hi : (3 : Int) ≤ i.toInt ∧ i.toInt ≤ 6) : (0 : Int) ≤ v.toInt ∧ v.toInt ≤ 7 := by
  have h1 : ∀ k, k < 7 → 3 ≤ k → (0 : Int) ≤ (rg 25 k).1 ∧ (rg 25 k).2 ≤ 7 := by decide +kernel
  have h2 := i_cl (x := i) (by omega)
  have h3 := h1 i.toNatClampNeg (by omega) (by omega)
  have h4 := h 25 i.toNatClampNeg
  rw [e] at h4
  omega
theorem rg_seg_25_15_22 {u : ac_U} {i v : Int32} (h : ac_R rg u) (e : u.1 25 i.toNatClampNeg = v) (hi : (15 : Int) ≤ i.toInt ∧ i.toInt ≤ 22) : (-1 : Int) ≤ v.toInt ∧ v.toInt ≤ 480 := by
  have h1 : ∀ k, k < 23 → 15 ≤ k → (-1 : Int) ≤ (rg 25 k).1 ∧ (rg 25 k).2 ≤ 480 := by decide +kernel
  have h2 := i_cl (x := i) (by omega)
  have h3 := h1 i.toNatClampNeg (by omega) (by omega)
  have h4 := h 25 i.toNatClampNeg
  rw [e] at h4
  omega
theorem rg_seg_87_0_7 {u : ac_U} {i v : Int32} (h : ac_R rg u) (e : u.1 87 i.toNatClampNeg = v) (hi : (0 : Int) ≤ i.toInt ∧ i.toInt ≤ 7) : (0 : Int) ≤ v.toInt ∧ v.toInt ≤ 24 := by
  have h1 : ∀ k, k < 8 → 0 ≤ k → (0 : Int) ≤ (rg 87 k).1 ∧ (rg 87 k).2 ≤ 24 := by decide +kernel
  have h2 := i_cl (x := i) (by omega)
  have h3 := h1 i.toNatClampNeg (by omega) (by omega)
  have h4 := h 87 i.toNatClampNeg
  rw [e] at h4
  omega
theorem rg_seg_87_16_21 {u : ac_U} {i v : Int32} (h : ac_R rg u) (e : u.1 87 i.toNatClampNeg = v) (hi : (16 : Int) ≤ i.toInt ∧ i.toInt ≤ 21) : (0 : Int) ≤ v.toInt ∧ v.toInt ≤ 7 := by
  have h1 : ∀ k, k < 22 → 16 ≤ k → (0 : Int) ≤ (rg 87 k).1 ∧ (rg 87 k).2 ≤ 7 := by decide +kernel
  have h2 := i_cl (x := i) (by omega)
  have h3 := h1 i.toNatClampNeg (by omega) (by omega)
  have h4 := h 87 i.toNatClampNeg
  rw [e] at h4
  omega
theorem rg_seg_87_42_49 {u : ac_U} {i v : Int32} (h : ac_R rg u) (e : u.1 87 i.toNatClampNeg = v) (hi : (42 : Int) ≤ i.toInt ∧ i.toInt ≤ 49) : (0 : Int) ≤ v.toInt ∧ v.toInt ≤ 7 := by
  have h1 : ∀ k, k < 50 → 42 ≤ k → (0 : Int) ≤ (rg 87 k).1 ∧ (rg 87 k).2 ≤ 7 := by decide +kernel
  have h2 := i_cl (x := i) (by omega)
  have h3 := h1 i.toNatClampNeg (by omega) (by omega)
  have h4 := h 87 i.toNatClampNeg
  rw [e] at h4
  omega
theorem rg_seg_87_66_73 {u : ac_U} {i v : Int32} (h : ac_R rg u) (e : u.1 87 i.toNatClampNeg = v) (hi : (66 : Int) ≤ i.toInt ∧ i.toInt ≤ 73) : (0 : Int) ≤ v.toInt ∧ v.toInt ≤ 3 := by
  have h1 : ∀ k, k < 74 → 66 ≤ k → (0 : Int) ≤ (rg 87 k).1 ∧ (rg 87 k).2 ≤ 3 := by decide +kernel
  have h2 := i_cl (x := i) (by omega)
  have h3 := h1 i.toNatClampNeg (by omega) (by omega)
  have h4 := h 87 i.toNatClampNeg
  rw [e] at h4
  omega
theorem rg_seg_87_107_110 {u : ac_U} {i v : Int32} (h : ac_R rg u) (e : u.1 87 i.toNatClampNeg = v) (hi : (107 : Int) ≤ i.toInt ∧ i.toInt ≤ 110) : (0 : Int) ≤ v.toInt ∧ v.toInt ≤ 7 := by
  have h1 : ∀ k, k < 111 → 107 ≤ k → (0 : Int) ≤ (rg 87 k).1 ∧ (rg 87 k).2 ≤ 7 := by decide +kernel
  have h2 := i_cl (x := i) (by omega)
  have h3 := h1 i.toNatClampNeg (by omega) (by omega)
  have h4 := h 87 i.toNatClampNeg
  rw [e] at h4
  omega
theorem rg_seg_87_124_131 {u : ac_U} {i v : Int32} (h : ac_R rg u) (e : u.1 87 i.toNatClampNeg = v) (hi : (124 : Int) ≤ i.toInt ∧ i.toInt ≤ 131) : (0 : Int) ≤ v.toInt ∧ v.toInt ≤ 481 := by
  have h1 : ∀ k, k < 132 → 124 ≤ k → (0 : Int) ≤ (rg 87 k).1 ∧ (rg 87 k).2 ≤ 481 := by decide +kernel
  have h2 := i_cl (x := i) (by omega)
  have h3 := h1 i.toNatClampNeg (by omega) (by omega)
  have h4 := h 87 i.toNatClampNeg
  rw [e] at h4
  omega
theorem rs_25_0_30 {i v : Int32} (hi : (0 : Int) ≤ i.toInt ∧ i.toInt ≤ 30) (hv : (0 : Int) ≤ v.toInt ∧ v.toInt ≤ 7) : (rg 25 i.toNatClampNeg).1 ≤ v.toInt ∧ v.toInt ≤ (rg 25 i.toNatClampNeg).2 := by
  have h1 : ∀ k, k < 31 → 0 ≤ k → (rg 25 k).1 ≤ (0 : Int) ∧ (7 : Int) ≤ (rg 25 k).2 := by decide +kernel
  have h2 := i_cl (x := i) (by omega)
  have h3 := h1 i.toNatClampNeg (by omega) (by omega)
  omega
theorem rs_25_3_6 {i v : Int32} (hi : (3 : Int) ≤ i.toInt ∧ i.toInt ≤ 6) (hv : (0 : Int) ≤ v.toInt ∧ v.toInt ≤ 7) : (rg 25 i.toNatClampNeg).1 ≤ v.toInt ∧ v.toInt ≤ (rg 25 i.toNatClampNeg).2 := by
  have h1 : ∀ k, k < 7 → 3 ≤ k → (rg 25 k).1 ≤ (0 : Int) ∧ (7 : Int) ≤ (rg 25 k).2 := by decide +kernel
  have h2 := i_cl (x := i) (by omega)
  have h3 := h1 i.toNatClampNeg (by omega) (by omega)
  omega
theorem rs_25_7_10 {i v : Int32} (hi : (7 : Int) ≤ i.toInt ∧ i.toInt ≤ 10) (hv : (-2147483648 : Int) ≤ v.toInt ∧ v.toInt ≤ 2147483647) : (rg 25 i.toNatClampNeg).1 ≤ v.toInt ∧ v.toInt ≤ (rg 25 i.toNatClampNeg).2 := by
  have h1 : ∀ k, k < 11 → 7 ≤ k → (rg 25 k).1 ≤ (-2147483648 : Int) ∧ (2147483647 : Int) ≤ (rg 25 k).2 := by decide +kernel
  have h2 := i_cl (x := i) (by omega)
  have h3 := h1 i.toNatClampNeg (by omega) (by omega)
  omega
theorem rs_25_11_14 {i v : Int32} (hi : (11 : Int) ≤ i.toInt ∧ i.toInt ≤ 14) (hv : (-2147483648 : Int) ≤ v.toInt ∧ v.toInt ≤ 2147483647) : (rg 25 i.toNatClampNeg).1 ≤ v.toInt ∧ v.toInt ≤ (rg 25 i.toNatClampNeg).2 := by
  have h1 : ∀ k, k < 15 → 11 ≤ k → (rg 25 k).1 ≤ (-2147483648 : Int) ∧ (2147483647 : Int) ≤ (rg 25 k).2 := by decide +kernel
  have h2 := i_cl (x := i) (by omega)
  have h3 := h1 i.toNatClampNeg (by omega) (by omega)
  omega
theorem rs_25_15_22 {i v : Int32} (hi : (15 : Int) ≤ i.toInt ∧ i.toInt ≤ 22) (hv : (-1 : Int) ≤ v.toInt ∧ v.toInt ≤ 480) : (rg 25 i.toNatClampNeg).1 ≤ v.toInt ∧ v.toInt ≤ (rg 25 i.toNatClampNeg).2 := by
  have h1 : ∀ k, k < 23 → 15 ≤ k → (rg 25 k).1 ≤ (-1 : Int) ∧ (480 : Int) ≤ (rg 25 k).2 := by decide +kernel
  have h2 := i_cl (x := i) (by omega)
  have h3 := h1 i.toNatClampNeg (by omega) (by omega)
  omega
theorem rs_25_23_30 {i v : Int32} (hi : (23 : Int) ≤ i.toInt ∧ i.toInt ≤ 30) (hv : (-2147483648 : Int) ≤ v.toInt ∧ v.toInt ≤ 2147483647) : (rg 25 i.toNatClampNeg).1 ≤ v.toInt ∧ v.toInt ≤ (rg 25 i.toNatClampNeg).2 := by
  have h1 : ∀ k, k < 31 → 23 ≤ k → (rg 25 k).1 ≤ (-2147483648 : Int) ∧ (2147483647 : Int) ≤ (rg 25 k).2 := by decide +kernel
  have h2 := i_cl (x := i) (by omega)
  have h3 := h1 i.toNatClampNeg (by omega) (by omega)
  omega
theorem rs_26_0_316 {i v : Int32} (hi : (0 : Int) ≤ i.toInt ∧ i.toInt ≤ 316) (hv : (0 : Int) ≤ v.toInt ∧ v.toInt ≤ 480) : (rg 26 i.toNatClampNeg).1 ≤ v.toInt ∧ v.toInt ≤ (rg 26 i.toNatClampNeg).2 := by
  have h1 : ∀ k, k < 317 → 0 ≤ k → (rg 26 k).1 ≤ (0 : Int) ∧ (480 : Int) ≤ (rg 26 k).2 := by decide +kernel
  have h2 := i_cl (x := i) (by omega)
  have h3 := h1 i.toNatClampNeg (by omega) (by omega)
  omega
theorem rs_26_3_319 {i v : Int32} (hi : (3 : Int) ≤ i.toInt ∧ i.toInt ≤ 319) (hv : (0 : Int) ≤ v.toInt ∧ v.toInt ≤ 480) : (rg 26 i.toNatClampNeg).1 ≤ v.toInt ∧ v.toInt ≤ (rg 26 i.toNatClampNeg).2 := by
  have h1 : ∀ k, k < 320 → 3 ≤ k → (rg 26 k).1 ≤ (0 : Int) ∧ (480 : Int) ≤ (rg 26 k).2 := by decide +kernel
  have h2 := i_cl (x := i) (by omega)
  have h3 := h1 i.toNatClampNeg (by omega) (by omega)
  omega
theorem rs_87_107_110 {i v : Int32} (hi : (107 : Int) ≤ i.toInt ∧ i.toInt ≤ 110) (hv : (0 : Int) ≤ v.toInt ∧ v.toInt ≤ 7) : (rg 87 i.toNatClampNeg).1 ≤ v.toInt ∧ v.toInt ≤ (rg 87 i.toNatClampNeg).2 := by
  have h1 : ∀ k, k < 111 → 107 ≤ k → (rg 87 k).1 ≤ (0 : Int) ∧ (7 : Int) ≤ (rg 87 k).2 := by decide +kernel
  have h2 := i_cl (x := i) (by omega)
  have h3 := h1 i.toNatClampNeg (by omega) (by omega)
  omega
theorem rs_87_111_114 {i v : Int32} (hi : (111 : Int) ≤ i.toInt ∧ i.toInt ≤ 114) (hv : (-2147483648 : Int) ≤ v.toInt ∧ v.toInt ≤ 2147483647) : (rg 87 i.toNatClampNeg).1 ≤ v.toInt ∧ v.toInt ≤ (rg 87 i.toNatClampNeg).2 := by
  have h1 : ∀ k, k < 115 → 111 ≤ k → (rg 87 k).1 ≤ (-2147483648 : Int) ∧ (2147483647 : Int) ≤ (rg 87 k).2 := by decide +kernel
  have h2 := i_cl (x := i) (by omega)
  have h3 := h1 i.toNatClampNeg (by omega) (by omega)
  omega
theorem rs_87_115_118 {i v : Int32} (hi : (115 : Int) ≤ i.toInt ∧ i.toInt ≤ 118) (hv : (-2147483648 : Int) ≤ v.toInt ∧ v.toInt ≤ 2147483647) : (rg 87 i.toNatClampNeg).1 ≤ v.toInt ∧ v.toInt ≤ (rg 87 i.toNatClampNeg).2 := by
  have h1 : ∀ k, k < 119 → 115 ≤ k → (rg 87 k).1 ≤ (-2147483648 : Int) ∧ (2147483647 : Int) ≤ (rg 87 k).2 := by decide +kernel
  have h2 := i_cl (x := i) (by omega)
  have h3 := h1 i.toNatClampNeg (by omega) (by omega)
  omega
theorem rs_87_119_122 {i v : Int32} (hi : (119 : Int) ≤ i.toInt ∧ i.toInt ≤ 122) (hv : (-2147483648 : Int) ≤ v.toInt ∧ v.toInt ≤ 2147483647) : (rg 87 i.toNatClampNeg).1 ≤ v.toInt ∧ v.toInt ≤ (rg 87 i.toNatClampNeg).2 := by
  have h1 : ∀ k, k < 123 → 119 ≤ k → (rg 87 k).1 ≤ (-2147483648 : Int) ∧ (2147483647 : Int) ≤ (rg 87 k).2 := by decide +kernel
  have h2 := i_cl (x := i) (by omega)
  have h3 := h1 i.toNatClampNeg (by omega) (by omega)
  omega
theorem rs_87_124_131 {i v : Int32} (hi : (124 : Int) ≤ i.toInt ∧ i.toInt ≤ 131) (hv : (0 : Int) ≤ v.toInt ∧ v.toInt ≤ 481) : (rg 87 i.toNatClampNeg).1 ≤ v.toInt ∧ v.toInt ≤ (rg 87 i.toNatClampNeg).2 := by
  have h1 : ∀ k, k < 132 → 124 ≤ k → (rg 87 k).1 ≤ (0 : Int) ∧ (481 : Int) ≤ (rg 87 k).2 := by decide +kernel
  have h2 := i_cl (x := i) (by omega)
  have h3 := h1 i.toNatClampNeg (by omega) (by omega)
  omega
theorem rs_87_132_139 {i v : Int32} (hi : (132 : Int) ≤ i.toInt ∧ i.toInt ≤ 139) (hv : (-2147483648 : Int) ≤ v.toInt ∧ v.toInt ≤ 2147483647) : (rg 87 i.toNatClampNeg).1 ≤ v.toInt ∧ v.toInt ≤ (rg 87 i.toNatClampNeg).2 := by
  have h1 : ∀ k, k < 140 → 132 ≤ k → (rg 87 k).1 ≤ (-2147483648 : Int) ∧ (2147483647 : Int) ≤ (rg 87 k).2 := by decide +kernel
  have h2 := i_cl (x := i) (by omega)
  have h3 := h1 i.toNatClampNeg (by omega) (by omega)
  omega
theorem rs_87_140_147 {i v : Int32} (hi : (140 : Int) ≤ i.toInt ∧ i.toInt ≤ 147) (hv : (-2147483648 : Int) ≤ v.toInt ∧ v.toInt ≤ 2147483647) : (rg 87 i.toNatClampNeg).1 ≤ v.toInt ∧ v.toInt ≤ (rg 87 i.toNatClampNeg).2 := by
  have h1 : ∀ k, k < 148 → 140 ≤ k → (rg 87 k).1 ≤ (-2147483648 : Int) ∧ (2147483647 : Int) ≤ (rg 87 k).2 := by decide +kernel
  have h2 := i_cl (x := i) (by omega)
  have h3 := h1 i.toNatClampNeg (by omega) (by omega)
  omega
theorem rs_87_148_464 {i v : Int32} (hi : (148 : Int) ≤ i.toInt ∧ i.toInt ≤ 464) (hv : (-2147483648 : Int) ≤ v.toInt ∧ v.toInt ≤ 2147483647) : (rg 87 i.toNatClampNeg).1 ≤ v.toInt ∧ v.toInt ≤ (rg 87 i.toNatClampNeg).2 := by
  have h1 : ∀ k, k < 465 → 148 ≤ k → (rg 87 k).1 ≤ (-2147483648 : Int) ∧ (2147483647 : Int) ≤ (rg 87 k).2 := by decide +kernel
  have h2 := i_cl (x := i) (by omega)
  have h3 := h1 i.toNatClampNeg (by omega) (by omega)
  omega
theorem rs_87_149_465 {i v : Int32} (hi : (149 : Int) ≤ i.toInt ∧ i.toInt ≤ 465) (hv : (-2147483648 : Int) ≤ v.toInt ∧ v.toInt ≤ 2147483647) : (rg 87 i.toNatClampNeg).1 ≤ v.toInt ∧ v.toInt ≤ (rg 87 i.toNatClampNeg).2 := by
  have h1 : ∀ k, k < 466 → 149 ≤ k → (rg 87 k).1 ≤ (-2147483648 : Int) ∧ (2147483647 : Int) ≤ (rg 87 k).2 := by decide +kernel
  have h2 := i_cl (x := i) (by omega)
  have h3 := h1 i.toNatClampNeg (by omega) (by omega)
  omega
theorem rs_87_150_466 {i v : Int32} (hi : (150 : Int) ≤ i.toInt ∧ i.toInt ≤ 466) (hv : (-2147483648 : Int) ≤ v.toInt ∧ v.toInt ≤ 2147483647) : (rg 87 i.toNatClampNeg).1 ≤ v.toInt ∧ v.toInt ≤ (rg 87 i.toNatClampNeg).2 := by
  have h1 : ∀ k, k < 467 → 150 ≤ k → (rg 87 k).1 ≤ (-2147483648 : Int) ∧ (2147483647 : Int) ≤ (rg 87 k).2 := by decide +kernel
  have h2 := i_cl (x := i) (by omega)
  have h3 := h1 i.toNatClampNeg (by omega) (by omega)
  omega
theorem rs_87_151_467 {i v : Int32} (hi : (151 : Int) ≤ i.toInt ∧ i.toInt ≤ 467) (hv : (-2147483648 : Int) ≤ v.toInt ∧ v.toInt ≤ 2147483647) : (rg 87 i.toNatClampNeg).1 ≤ v.toInt ∧ v.toInt ≤ (rg 87 i.toNatClampNeg).2 := by
  have h1 : ∀ k, k < 468 → 151 ≤ k → (rg 87 k).1 ≤ (-2147483648 : Int) ∧ (2147483647 : Int) ≤ (rg 87 k).2 := by decide +kernel
  have h2 := i_cl (x := i) (by omega)
  have h3 := h1 i.toNatClampNeg (by omega) (by omega)
  omega
theorem rs_87_477_611 {i v : Int32} (hi : (477 : Int) ≤ i.toInt ∧ i.toInt ≤ 611) (hv : (-2147483648 : Int) ≤ v.toInt ∧ v.toInt ≤ 2147483647) : (rg 87 i.toNatClampNeg).1 ≤ v.toInt ∧ v.toInt ≤ (rg 87 i.toNatClampNeg).2 := by
  have h1 : ∀ k, k < 612 → 477 ≤ k → (rg 87 k).1 ≤ (-2147483648 : Int) ∧ (2147483647 : Int) ≤ (rg 87 k).2 := by decide +kernel
  have h2 := i_cl (x := i) (by omega)
  have h3 := h1 i.toNatClampNeg (by omega) (by omega)
  omega
theorem rs_88_8_15 {i v : Int32} (hi : (8 : Int) ≤ i.toInt ∧ i.toInt ≤ 15) (hv : (-2147483648 : Int) ≤ v.toInt ∧ v.toInt ≤ 2147483647) : (rg 88 i.toNatClampNeg).1 ≤ v.toInt ∧ v.toInt ≤ (rg 88 i.toNatClampNeg).2 := by
  have h1 : ∀ k, k < 16 → 8 ≤ k → (rg 88 k).1 ≤ (-2147483648 : Int) ∧ (2147483647 : Int) ≤ (rg 88 k).2 := by decide +kernel
  have h2 := i_cl (x := i) (by omega)
  have h3 := h1 i.toNatClampNeg (by omega) (by omega)
  omega
theorem rs_88_16_21 {i v : Int32} (hi : (16 : Int) ≤ i.toInt ∧ i.toInt ≤ 21) (hv : (0 : Int) ≤ v.toInt ∧ v.toInt ≤ 7) : (rg 88 i.toNatClampNeg).1 ≤ v.toInt ∧ v.toInt ≤ (rg 88 i.toNatClampNeg).2 := by
  have h1 : ∀ k, k < 22 → 16 ≤ k → (rg 88 k).1 ≤ (0 : Int) ∧ (7 : Int) ≤ (rg 88 k).2 := by decide +kernel
  have h2 := i_cl (x := i) (by omega)
  have h3 := h1 i.toNatClampNeg (by omega) (by omega)
  omega
theorem rs_88_22_25 {i v : Int32} (hi : (22 : Int) ≤ i.toInt ∧ i.toInt ≤ 25) (hv : (0 : Int) ≤ v.toInt ∧ v.toInt ≤ 7) : (rg 88 i.toNatClampNeg).1 ≤ v.toInt ∧ v.toInt ≤ (rg 88 i.toNatClampNeg).2 := by
  have h1 : ∀ k, k < 26 → 22 ≤ k → (rg 88 k).1 ≤ (0 : Int) ∧ (7 : Int) ≤ (rg 88 k).2 := by decide +kernel
  have h2 := i_cl (x := i) (by omega)
  have h3 := h1 i.toNatClampNeg (by omega) (by omega)
  omega
theorem rs_88_26_33 {i v : Int32} (hi : (26 : Int) ≤ i.toInt ∧ i.toInt ≤ 33) (hv : (-2147483648 : Int) ≤ v.toInt ∧ v.toInt ≤ 2147483647) : (rg 88 i.toNatClampNeg).1 ≤ v.toInt ∧ v.toInt ≤ (rg 88 i.toNatClampNeg).2 := by
  have h1 : ∀ k, k < 34 → 26 ≤ k → (rg 88 k).1 ≤ (-2147483648 : Int) ∧ (2147483647 : Int) ≤ (rg 88 k).2 := by decide +kernel
  have h2 := i_cl (x := i) (by omega)
  have h3 := h1 i.toNatClampNeg (by omega) (by omega)
  omega
theorem rs_88_34_41 {i v : Int32} (hi : (34 : Int) ≤ i.toInt ∧ i.toInt ≤ 41) (hv : (-2147483648 : Int) ≤ v.toInt ∧ v.toInt ≤ 2147483647) : (rg 88 i.toNatClampNeg).1 ≤ v.toInt ∧ v.toInt ≤ (rg 88 i.toNatClampNeg).2 := by
  have h1 : ∀ k, k < 42 → 34 ≤ k → (rg 88 k).1 ≤ (-2147483648 : Int) ∧ (2147483647 : Int) ≤ (rg 88 k).2 := by decide +kernel
  have h2 := i_cl (x := i) (by omega)
  have h3 := h1 i.toNatClampNeg (by omega) (by omega)
  omega
theorem rs_88_42_49 {i v : Int32} (hi : (42 : Int) ≤ i.toInt ∧ i.toInt ≤ 49) (hv : (0 : Int) ≤ v.toInt ∧ v.toInt ≤ 7) : (rg 88 i.toNatClampNeg).1 ≤ v.toInt ∧ v.toInt ≤ (rg 88 i.toNatClampNeg).2 := by
  have h1 : ∀ k, k < 50 → 42 ≤ k → (rg 88 k).1 ≤ (0 : Int) ∧ (7 : Int) ≤ (rg 88 k).2 := by decide +kernel
  have h2 := i_cl (x := i) (by omega)
  have h3 := h1 i.toNatClampNeg (by omega) (by omega)
  omega
theorem rs_88_50_57 {i v : Int32} (hi : (50 : Int) ≤ i.toInt ∧ i.toInt ≤ 57) (hv : (-2147483648 : Int) ≤ v.toInt ∧ v.toInt ≤ 2147483647) : (rg 88 i.toNatClampNeg).1 ≤ v.toInt ∧ v.toInt ≤ (rg 88 i.toNatClampNeg).2 := by
  have h1 : ∀ k, k < 58 → 50 ≤ k → (rg 88 k).1 ≤ (-2147483648 : Int) ∧ (2147483647 : Int) ≤ (rg 88 k).2 := by decide +kernel
  have h2 := i_cl (x := i) (by omega)
  have h3 := h1 i.toNatClampNeg (by omega) (by omega)
  omega
theorem rs_88_58_65 {i v : Int32} (hi : (58 : Int) ≤ i.toInt ∧ i.toInt ≤ 65) (hv : (-2147483648 : Int) ≤ v.toInt ∧ v.toInt ≤ 2147483647) : (rg 88 i.toNatClampNeg).1 ≤ v.toInt ∧ v.toInt ≤ (rg 88 i.toNatClampNeg).2 := by
  have h1 : ∀ k, k < 66 → 58 ≤ k → (rg 88 k).1 ≤ (-2147483648 : Int) ∧ (2147483647 : Int) ≤ (rg 88 k).2 := by decide +kernel
  have h2 := i_cl (x := i) (by omega)
  have h3 := h1 i.toNatClampNeg (by omega) (by omega)
  omega
theorem rs_88_66_73 {i v : Int32} (hi : (66 : Int) ≤ i.toInt ∧ i.toInt ≤ 73) (hv : (0 : Int) ≤ v.toInt ∧ v.toInt ≤ 3) : (rg 88 i.toNatClampNeg).1 ≤ v.toInt ∧ v.toInt ≤ (rg 88 i.toNatClampNeg).2 := by
  have h1 : ∀ k, k < 74 → 66 ≤ k → (rg 88 k).1 ≤ (0 : Int) ∧ (3 : Int) ≤ (rg 88 k).2 := by decide +kernel
  have h2 := i_cl (x := i) (by omega)
  have h3 := h1 i.toNatClampNeg (by omega) (by omega)
  omega
theorem rs_88_74_81 {i v : Int32} (hi : (74 : Int) ≤ i.toInt ∧ i.toInt ≤ 81) (hv : (-2147483648 : Int) ≤ v.toInt ∧ v.toInt ≤ 2147483647) : (rg 88 i.toNatClampNeg).1 ≤ v.toInt ∧ v.toInt ≤ (rg 88 i.toNatClampNeg).2 := by
  have h1 : ∀ k, k < 82 → 74 ≤ k → (rg 88 k).1 ≤ (-2147483648 : Int) ∧ (2147483647 : Int) ≤ (rg 88 k).2 := by decide +kernel
  have h2 := i_cl (x := i) (by omega)
  have h3 := h1 i.toNatClampNeg (by omega) (by omega)
  omega
theorem rs_88_82_89 {i v : Int32} (hi : (82 : Int) ≤ i.toInt ∧ i.toInt ≤ 89) (hv : (-2147483648 : Int) ≤ v.toInt ∧ v.toInt ≤ 2147483647) : (rg 88 i.toNatClampNeg).1 ≤ v.toInt ∧ v.toInt ≤ (rg 88 i.toNatClampNeg).2 := by
  have h1 : ∀ k, k < 90 → 82 ≤ k → (rg 88 k).1 ≤ (-2147483648 : Int) ∧ (2147483647 : Int) ≤ (rg 88 k).2 := by decide +kernel
  have h2 := i_cl (x := i) (by omega)
  have h3 := h1 i.toNatClampNeg (by omega) (by omega)
  omega
theorem rs_88_90_97 {i v : Int32} (hi : (90 : Int) ≤ i.toInt ∧ i.toInt ≤ 97) (hv : (-2147483648 : Int) ≤ v.toInt ∧ v.toInt ≤ 2147483647) : (rg 88 i.toNatClampNeg).1 ≤ v.toInt ∧ v.toInt ≤ (rg 88 i.toNatClampNeg).2 := by
  have h1 : ∀ k, k < 98 → 90 ≤ k → (rg 88 k).1 ≤ (-2147483648 : Int) ∧ (2147483647 : Int) ≤ (rg 88 k).2 := by decide +kernel
  have h2 := i_cl (x := i) (by omega)
  have h3 := h1 i.toNatClampNeg (by omega) (by omega)
  omega
theorem rs_88_98_105 {i v : Int32} (hi : (98 : Int) ≤ i.toInt ∧ i.toInt ≤ 105) (hv : (-2147483648 : Int) ≤ v.toInt ∧ v.toInt ≤ 2147483647) : (rg 88 i.toNatClampNeg).1 ≤ v.toInt ∧ v.toInt ≤ (rg 88 i.toNatClampNeg).2 := by
  have h1 : ∀ k, k < 106 → 98 ≤ k → (rg 88 k).1 ≤ (-2147483648 : Int) ∧ (2147483647 : Int) ≤ (rg 88 k).2 := by decide +kernel
  have h2 := i_cl (x := i) (by omega)
  have h3 := h1 i.toNatClampNeg (by omega) (by omega)
  omega

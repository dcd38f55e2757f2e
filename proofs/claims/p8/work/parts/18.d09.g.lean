/-! chain() and rings() of the reference. -/
theorem bo_1 {u : ac_U} {x y : Int32} (h : vbit x y) : f_X12_bitOf u x y = 1 := by
  unfold vbit at h
  show (if ((x >>> (y &&& 31)) &&& 1).toInt ≠ 1 then (0 : Int32) else 1) = 1
  rw [if_neg (fun z => z h)]
theorem bo_0 {u : ac_U} {x y : Int32} (h : ¬ vbit x y) : f_X12_bitOf u x y = 0 := by
  unfold vbit at h
  show (if ((x >>> (y &&& 31)) &&& 1).toInt ≠ 1 then (0 : Int32) else 1) = 0
  rw [if_pos h]
theorem vbn {x y : Int32} (h : 0 ≤ y.toInt) : vbit x y ↔ vb x y.toNatClampNeg := by
  unfold vb
  rw [← nI_oI h]

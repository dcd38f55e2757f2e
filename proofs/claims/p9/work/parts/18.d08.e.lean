/-! Pure: count and frog answer alike where the houses are alike. -/
theorem frog_sim2 {u w : ac_U} {p : Int32} (hE : HE u w) (hr : 0 ≤ (u.1 4 3).toInt ∧ (u.1 4 3).toInt ≤ 6) : f_X11_frog_0 u p = (f_X12_frog_85 w p).2 := by
  have e3 : w.1 87 3 = u.1 4 3 := (hE.1 3 (by decide)).symm
  have hm : (u.1 4 3 - 1).toInt = (u.1 4 3).toInt - 1 := i_sub rfl (by decide) (by omega)
  have hc : f_X12_frog_85 w p = if (f_X12_isIn (pI w 85 0 (0 : Int32)) p (0 : Int32) (w.1 87 3 - 1)).toInt = 0 then (pI w 85 0 (0 : Int32), (-1 : Int32)) else (pI w 85 0 (0 : Int32), (pI w 85 0 (0 : Int32)).1 87 (16 + p).toNatClampNeg) := rfl
  have hf : f_X11_frog_0 u p = if (f_X2_isFrog_4 u p).toInt = 0 then (-1 : Int32) else u.1 6 p.toNatClampNeg := rfl
  rw [hc, hf, e3]
  by_cases q : 0 ≤ p.toInt ∧ p.toInt < (u.1 4 3).toInt
  · have h1 : f_X2_isFrog_4 u p = 1 := by
      unfold f_X2_isFrog_4
      rw [if_neg (by omega), if_neg (by omega)]
    have hp := i_cl (x := p) q.1
    rw [h1, if_neg n1', in1 (by rw [t0i, hm]; omega), if_neg n1']
    show _ = (pI w 85 0 (0 : Int32)).1 87 (16 + p).toNatClampNeg
    rw [pI_c (by decide), off_n (x := p) (c := (16 : Int32)) (n := 16) (by decide) (by omega) (by decide)]
    exact hE.2.2.1 _ (by omega)
  · have h0 : f_X2_isFrog_4 u p = 0 := by
      unfold f_X2_isFrog_4 K_X2_isFrog_4_16
      by_cases z : p.toInt < 0
      · rw [if_pos z]
      · rw [if_neg z, if_pos (by omega)]
    rw [h0, if_pos t0i, in0 (by rw [t0i, hm]; omega), if_pos t0i]

/-! way(), chain(), rings(), roots(): answers alike. -/
theorem vrI {u : ac_U} (hH : hxI u) : Vr u := fun v hv => hH.2.2.2.1 v (by
  have e : u.1 4 7 = u.1 87 7 := hH.1.1 7 (by decide)
  rw [e]
  exact hv)
theorem v7I {u : ac_U} (hR : ac_R rg u) (hH : hxI u) : 0 ≤ (u.1 87 7).toInt ∧ (u.1 87 7).toInt ≤ 8 := by
  have e : u.1 4 7 = u.1 87 7 := hH.1.1 7 (by decide)
  rw [← e]
  exact hR 4 7
theorem cm_rings {u u1 u2 : ac_U} {r1 r2 : Int32} (e : u1 = u) (x1 : f_X11_rings_0 u = r1) (x2 : f_X12_rings_85 u1 = (u2, r2)) (hR : ac_R rg u) (_ : (u.1 1 2).toInt = (u.1 85 2).toInt) (hH : hxI u) : r1 = r2 := by
  subst e
  have h := rings_sim (u := u1) (w := u1) hH.1 (hR 4 6) (v7I hR hH) hH.2.2.2.2 (vrI hH)
  rw [x1, x2] at h
  exact h

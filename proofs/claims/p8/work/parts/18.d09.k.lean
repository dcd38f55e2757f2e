/-! way(), chain(), rings(), roots(): answers alike. -/
theorem cm_way {u u1 u2 : ac_U} {p0 p1 r1 r2 : Int32} (e : u1 = u) (x1 : f_X11_way_0 u p0 p1 = r1) (x2 : f_X12_way_85 u1 p0 p1 = (u2, r2)) (hR : ac_R rg u) (_ : (u.1 1 2).toInt = (u.1 85 2).toInt) (hH : hxI u) : r1 = r2 := by
  subst e
  have h := way_sim2 (u := u1) (w := u1) (p0 := p0) (p1 := p1) hH.1 (hR 4 1) hH.2.2.2.2
  rw [x1, x2] at h
  exact h

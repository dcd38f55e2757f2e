/-! Answers alike. -/
theorem cm_frog {u u1 u2 : ac_U} {p r1 r2 : Int32} (e : u1 = u) (x1 : f_X11_frog_0 u p = r1) (x2 : f_X12_frog_85 u1 p = (u2, r2)) (hR : ac_R rg u) (_ : (u.1 1 2).toInt = (u.1 85 2).toInt) (hH : hxI u) : r1 = r2 := by
  subst e
  have h := frog_sim2 (u := u1) (w := u1) (p := p) hH.1 (hR 4 3)
  rw [x1, x2] at h
  exact h

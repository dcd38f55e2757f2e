/-! fault() alike. -/
theorem cm_fault {u u1 u2 : ac_U} {r1 r2 : Int32} (e : u1 = u) (x1 : f_X11_fault_0 u = r1) (x2 : f_X12_fault_85 u1 = (u2, r2)) (h : ftI u) : r1 = r2 := by
  subst e
  have h1 : f_X11_fault_0 u1 = u1.1 1 10 := rfl
  have h2 : (f_X12_fault_85 u1).2 = u1.1 85 15 := rfl
  rw [← x1, h1]
  rw [x2] at h2
  rw [show r2 = u1.1 85 15 from h2]
  exact h

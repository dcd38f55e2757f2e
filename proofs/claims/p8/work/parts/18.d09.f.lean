/-! chain() and rings() alike. -/
theorem step_1 {x : Int32} {P : Int} {m : Nat} (hx : x.toInt = P - ((m + 1 : Nat) : Int)) (hm : ((m + 1 : Nat) : Int) ≤ P) (hP : P ≤ 1000) : (x + Int32.ofInt 1).toInt = P - (m : Int) := by
  rw [i_add rfl (by decide : (Int32.ofInt 1).toInt = 1) (by omega)]
  omega

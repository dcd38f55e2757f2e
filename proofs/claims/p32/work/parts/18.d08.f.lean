/-! Pure: feed leaves the tapes alike. -/
def BE (u w : ac_U) : Prop := u.1 1 2 = w.1 85 2 ∧ ∀ k, u.1 2 k = w.1 86 k
theorem app_sim {u0 w0 : ac_U} {p : Int32} : ∀ (m fuel : Nat) (u w : ac_U) (x : Int32), x.toInt = 8 * (m : Int) - 8 → m ≤ 4 → m < fuel → BE u w → 0 ≤ (u.1 1 2).toInt → (u.1 1 2).toInt + m ≤ 940 → BE (K_X10_append_1_3 u0 p fuel u x) (K_X12_four_85_3 w0 p fuel w x) ∧ ((K_X10_append_1_3 u0 p fuel u x).1 1 2).toInt = (u.1 1 2).toInt + m := by
  intro m
  induction m with
  | zero =>
    intro fuel u w x hx _ hf hB h0 h1
    obtain ⟨f, rfl⟩ : ∃ f, fuel = f + 1 := ⟨fuel - 1, by omega⟩
    have e1 : K_X10_append_1_3 u0 p (f + 1) u x = u := by
      show K_X10_append_1_3_b (K_X10_append_1_3 u0 p f) u0 p u x = u
      unfold K_X10_append_1_3_b
      rw [if_pos (by omega)]
    have e2 : K_X12_four_85_3 w0 p (f + 1) w x = w := by
      show K_X12_four_85_3_b (K_X12_four_85_3 w0 p f) w0 p w x = w
      unfold K_X12_four_85_3_b
      rw [if_pos (by omega)]
    rw [e1, e2]
    exact ⟨hB, by omega⟩
  | succ m ih =>
    intro fuel u w x hx hm hf hB h0 h1
    obtain ⟨f, rfl⟩ : ∃ f, fuel = f + 1 := ⟨fuel - 1, by omega⟩
    have hxc := i_cl (x := x) (by omega)
    have hx8 : (x + Int32.ofInt (-8)).toInt = 8 * (m : Int) - 8 := by
      rw [i_add rfl (by decide : (Int32.ofInt (-8)).toInt = -8) (by omega)]
      omega
    have hsh : (jushr p x).toInt8 = (p >>> (x &&& 31)).toInt8 := by
      have := sh_eq p x.toNatClampNeg (by omega)
      rw [← nI_oI (x := x) (by omega)] at this
      exact this
    have hl := inc_i (x := u.1 1 2) (by omega)
    have e1 : K_X10_append_1_3 u0 p (f + 1) u x = K_X10_append_1_3 u0 p f (pI (pI u 2 (u.1 1 2).toNatClampNeg (jushr p x).toInt8.toInt32) 1 2 (u.1 1 2 + 1)) (x + Int32.ofInt (-8)) := by
      show K_X10_append_1_3_b (K_X10_append_1_3 u0 p f) u0 p u x = _
      unfold K_X10_append_1_3_b
      rw [if_neg (by omega), if_neg (by omega)]
    have e2 : K_X12_four_85_3 w0 p (f + 1) w x = K_X12_four_85_3 w0 p f (pI (pI w 86 (w.1 85 2).toNatClampNeg (p >>> (x &&& 31)).toInt8.toInt32) 85 2 (w.1 85 2 + 1)) (x + Int32.ofInt (-8)) := by
      show K_X12_four_85_3_b (K_X12_four_85_3 w0 p f) w0 p w x = _
      unfold K_X12_four_85_3_b
      rw [if_neg (by omega)]
    rw [e1, e2]
    have l2 : (pI (pI u 2 (u.1 1 2).toNatClampNeg (jushr p x).toInt8.toInt32) 1 2 (u.1 1 2 + 1)).1 1 2 = u.1 1 2 + 1 := pI_s
    have hi := ih f (pI (pI u 2 (u.1 1 2).toNatClampNeg (jushr p x).toInt8.toInt32) 1 2 (u.1 1 2 + 1)) (pI (pI w 86 (w.1 85 2).toNatClampNeg (p >>> (x &&& 31)).toInt8.toInt32) 85 2 (w.1 85 2 + 1)) (x + Int32.ofInt (-8)) hx8 (by omega) (by omega) ⟨by rw [pI_s, pI_s, hB.1], fun k => by
        rw [pI_c (show 2 ≠ 1 by decide), pI_c (show 86 ≠ 85 by decide), hsh, ← hB.1]
        by_cases e : k = (u.1 1 2).toNatClampNeg
        · subst e; rw [pI_s, pI_s]
        · rw [pI_k e, pI_k e]; exact hB.2 k⟩ (by rw [l2, hl]; omega) (by rw [l2, hl]; omega)
    rw [l2, hl] at hi
    exact ⟨hi.1, by rw [hi.2]; omega⟩
theorem four_sim {u w : ac_U} {p : Int32} (hB : BE u w) (h0 : 0 ≤ (u.1 1 2).toInt) (h1 : (u.1 1 2).toInt + 4 ≤ 940) : BE (f_X10_append_1 u p) (f_X12_four_85 w p) ∧ ((f_X10_append_1 u p).1 1 2).toInt = (u.1 1 2).toInt + 4 :=
  app_sim (u0 := u) (w0 := w) 4 34 u w (24 : Int32) (by decide) (by decide) (by decide) hB h0 h1
theorem feed_fin {x y : ac_U} (h : BE x y) : ((x, x.1 1 2) : ac_U × Int32).2 = ((y, y.1 85 2) : ac_U × Int32).2 ∧ BE ((x, x.1 1 2) : ac_U × Int32).1 ((y, y.1 85 2) : ac_U × Int32).1 := ⟨h.1, h⟩
theorem feed_sim {u w : ac_U} {a b c d e : Int32} (hB : BE u w) (h0 : 0 ≤ (u.1 1 2).toInt ∧ (u.1 1 2).toInt ≤ 940) : (f_X11_feed_0 u a b c d e).2 = (f_X12_feed_85 w a b c d e).2 ∧ BE (f_X11_feed_0 u a b c d e).1 (f_X12_feed_85 w a b c d e).1 := by
  have hv : (u.1 1 2 + 20).toInt = (u.1 1 2).toInt + 20 := i_add rfl (by decide) (by omega)
  have hB' : BE u (pI w 85 0 (0 : Int32)) := ⟨hB.1, hB.2⟩
  have e1 : f_X11_feed_0 u a b c d e = if (u.1 1 2 + 20).toInt ≤ 940 then (f_X10_append_1 (f_X10_append_1 (f_X10_append_1 (f_X10_append_1 (f_X10_append_1 u a) b) c) d) e, (f_X10_append_1 (f_X10_append_1 (f_X10_append_1 (f_X10_append_1 (f_X10_append_1 u a) b) c) d) e).1 1 2) else (u, -1) := rfl
  have e2 : f_X12_feed_85 w a b c d e = if (w.1 85 2 + 20).toInt ≤ 940 then (f_X12_four_85 (f_X12_four_85 (f_X12_four_85 (f_X12_four_85 (f_X12_four_85 (pI w 85 0 (0 : Int32)) a) b) c) d) e, (f_X12_four_85 (f_X12_four_85 (f_X12_four_85 (f_X12_four_85 (f_X12_four_85 (pI w 85 0 (0 : Int32)) a) b) c) d) e).1 85 2) else (pI w 85 0 (0 : Int32), -1) := rfl
  rw [e1, e2, ← hB.1]
  by_cases q : (u.1 1 2 + 20).toInt ≤ 940
  · rw [if_pos q, if_pos q]
    obtain ⟨b1, l1⟩ := four_sim (p := a) hB' h0.1 (by omega)
    obtain ⟨b2, l2⟩ := four_sim (p := b) b1 (by omega) (by omega)
    obtain ⟨b3, l3⟩ := four_sim (p := c) b2 (by omega) (by omega)
    obtain ⟨b4, l4⟩ := four_sim (p := d) b3 (by omega) (by omega)
    obtain ⟨b5, l5⟩ := four_sim (p := e) b4 (by omega) (by omega)
    exact feed_fin b5
  · rw [if_neg q, if_neg q]
    exact ⟨rfl, hB'⟩

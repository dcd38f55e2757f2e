/-! Pure: the beginning and the end of house(). -/
theorem fill14 (u0 : ac_U) (p : Int32) : ∀ (m fuel : Nat) (u : ac_U) (x : Int32), x.toInt = 8 - (m : Int) → m ≤ 8 → m < fuel → (∀ k : Nat, 8 - m ≤ k → k < 8 → (K_J7_fill_53178_14_5 u0 p fuel u x (8 : Int32)).1 14 k = p) ∧ (∀ k : Nat, k < 8 - m → (K_J7_fill_53178_14_5 u0 p fuel u x (8 : Int32)).1 14 k = u.1 14 k) ∧ (K_J7_fill_53178_14_5 u0 p fuel u x (8 : Int32)).2 = u.2 := by
  have a8 : (8 : Int32).toInt = 8 := by decide
  intro m
  induction m with
  | zero =>
    intro fuel u x hx _ hf
    obtain ⟨f, rfl⟩ : ∃ f, fuel = f + 1 := ⟨fuel - 1, by omega⟩
    have e : K_J7_fill_53178_14_5 u0 p (f + 1) u x (8 : Int32) = u := by
      show K_J7_fill_53178_14_5_b (K_J7_fill_53178_14_5 u0 p f) u0 p u x (8 : Int32) = u
      unfold K_J7_fill_53178_14_5_b
      rw [if_pos (by omega)]
    rw [e]
    exact ⟨fun k h1 h2 => by omega, fun _ _ => rfl, rfl⟩
  | succ m ih =>
    intro fuel u x hx hm hf
    obtain ⟨f, rfl⟩ : ∃ f, fuel = f + 1 := ⟨fuel - 1, by omega⟩
    have hk := i_cl (x := x) (by omega)
    have hk2 : x.toNatClampNeg = 8 - (m + 1) := by omega
    have hx1 : (x + Int32.ofInt 1).toInt = 8 - (m : Int) := by
      rw [i_add rfl (by decide : (Int32.ofInt 1).toInt = 1) (by omega)]
      omega
    have e : K_J7_fill_53178_14_5 u0 p (f + 1) u x (8 : Int32) = K_J7_fill_53178_14_5 u0 p f (pI u 14 (8 - (m + 1)) p) (x + Int32.ofInt 1) (8 : Int32) := by
      show K_J7_fill_53178_14_5_b (K_J7_fill_53178_14_5 u0 p f) u0 p u x (8 : Int32) = _
      unfold K_J7_fill_53178_14_5_b
      rw [if_neg (by omega), hk2]
    rw [e]
    obtain ⟨i1, i2, i3⟩ := ih f (pI u 14 (8 - (m + 1)) p) (x + Int32.ofInt 1) hx1 (by omega) (by omega)
    refine ⟨fun k h1 h2 => ?_, fun k h1 => ?_, i3⟩
    · by_cases q : k = 8 - (m + 1)
      · rw [i2 k (by omega), q, pI_s]
      · exact i1 k (by omega) h2
    · rw [i2 k (by omega), pI_k (by omega)]
theorem fill18 (u0 : ac_U) (p : Int32) : ∀ (m fuel : Nat) (u : ac_U) (x : Int32), x.toInt = 8 - (m : Int) → m ≤ 8 → m < fuel → (∀ k : Nat, 8 - m ≤ k → k < 8 → (K_J7_fill_53178_18_5 u0 p fuel u x (8 : Int32)).1 18 k = p) ∧ (∀ k : Nat, k < 8 - m → (K_J7_fill_53178_18_5 u0 p fuel u x (8 : Int32)).1 18 k = u.1 18 k) ∧ (K_J7_fill_53178_18_5 u0 p fuel u x (8 : Int32)).2 = u.2 := by
  have a8 : (8 : Int32).toInt = 8 := by decide
  intro m
  induction m with
  | zero =>
    intro fuel u x hx _ hf
    obtain ⟨f, rfl⟩ : ∃ f, fuel = f + 1 := ⟨fuel - 1, by omega⟩
    have e : K_J7_fill_53178_18_5 u0 p (f + 1) u x (8 : Int32) = u := by
      show K_J7_fill_53178_18_5_b (K_J7_fill_53178_18_5 u0 p f) u0 p u x (8 : Int32) = u
      unfold K_J7_fill_53178_18_5_b
      rw [if_pos (by omega)]
    rw [e]
    exact ⟨fun k h1 h2 => by omega, fun _ _ => rfl, rfl⟩
  | succ m ih =>
    intro fuel u x hx hm hf
    obtain ⟨f, rfl⟩ : ∃ f, fuel = f + 1 := ⟨fuel - 1, by omega⟩
    have hk := i_cl (x := x) (by omega)
    have hk2 : x.toNatClampNeg = 8 - (m + 1) := by omega
    have hx1 : (x + Int32.ofInt 1).toInt = 8 - (m : Int) := by
      rw [i_add rfl (by decide : (Int32.ofInt 1).toInt = 1) (by omega)]
      omega
    have e : K_J7_fill_53178_18_5 u0 p (f + 1) u x (8 : Int32) = K_J7_fill_53178_18_5 u0 p f (pI u 18 (8 - (m + 1)) p) (x + Int32.ofInt 1) (8 : Int32) := by
      show K_J7_fill_53178_18_5_b (K_J7_fill_53178_18_5 u0 p f) u0 p u x (8 : Int32) = _
      unfold K_J7_fill_53178_18_5_b
      rw [if_neg (by omega), hk2]
    rw [e]
    obtain ⟨i1, i2, i3⟩ := ih f (pI u 18 (8 - (m + 1)) p) (x + Int32.ofInt 1) hx1 (by omega) (by omega)
    refine ⟨fun k h1 h2 => ?_, fun k h1 => ?_, i3⟩
    · by_cases q : k = 8 - (m + 1)
      · rw [i2 k (by omega), q, pI_s]
      · exact i1 k (by omega) h2
    · rw [i2 k (by omega), pI_k (by omega)]
theorem clear_sp (u : ac_U) : (f_X2_clear_13 u).1 13 0 = 24 ∧ (∀ j, 1 ≤ j → j ≤ 8 → (f_X2_clear_13 u).1 13 j = 0) ∧ (∀ k, k < 8 → (f_X2_clear_13 u).1 14 k = 0) ∧ (∀ k, k < 8 → (f_X2_clear_13 u).1 18 k = 0) ∧ (f_X2_clear_13 u).2 = u.2 := by
  obtain ⟨U, hU⟩ : ∃ U, U = pI (pI (pI (pI (pI (pI (pI (pI (pI u 13 0 (24 : Int32)) 13 1 (0 : Int32)) 13 2 (0 : Int32)) 13 3 (0 : Int32)) 13 4 (0 : Int32)) 13 5 (0 : Int32)) 13 6 (0 : Int32)) 13 7 (0 : Int32)) 13 8 (0 : Int32) := ⟨_, rfl⟩
  have e : f_X2_clear_13 u = f_J7_fill_53178_18 (f_J7_fill_53178_14 U (0 : Int32)) (0 : Int32) := by rw [hU]; rfl
  rw [e]
  have g13 : ∀ k, (f_J7_fill_53178_18 (f_J7_fill_53178_14 U (0 : Int32)) (0 : Int32)).1 13 k = U.1 13 k := fun k => (q_J7_fill_53178_18 _ _ 13 k rfl).trans (q_J7_fill_53178_14 _ _ 13 k rfl)
  have f14 := fill14 U 0 8 10 U (0 : Int32) (by decide) (by decide) (by decide)
  have e14 : K_J7_fill_53178_14_5 U 0 10 U (0 : Int32) (8 : Int32) = f_J7_fill_53178_14 U (0 : Int32) := rfl
  rw [e14] at f14
  have f18 := fill18 (f_J7_fill_53178_14 U (0 : Int32)) 0 8 10 (f_J7_fill_53178_14 U (0 : Int32)) (0 : Int32) (by decide) (by decide) (by decide)
  have e18 : K_J7_fill_53178_18_5 (f_J7_fill_53178_14 U (0 : Int32)) 0 10 (f_J7_fill_53178_14 U (0 : Int32)) (0 : Int32) (8 : Int32) = f_J7_fill_53178_18 (f_J7_fill_53178_14 U (0 : Int32)) (0 : Int32) := rfl
  rw [e18] at f18
  refine ⟨?_, fun j h1 h2 => ?_, fun k hk => ?_, fun k hk => f18.1 k (by omega) hk, ?_⟩
  · rw [g13, hU, pI_k (by decide), pI_k (by decide), pI_k (by decide), pI_k (by decide), pI_k (by decide), pI_k (by decide), pI_k (by decide), pI_k (by decide), pI_s]
  · rw [g13, hU]
    rcases (show j = 1 ∨ j = 2 ∨ j = 3 ∨ j = 4 ∨ j = 5 ∨ j = 6 ∨ j = 7 ∨ j = 8 by omega) with q | q | q | q | q | q | q | q <;> subst q
    · rw [pI_k (by decide), pI_k (by decide), pI_k (by decide), pI_k (by decide), pI_k (by decide), pI_k (by decide), pI_k (by decide), pI_s]
    · rw [pI_k (by decide), pI_k (by decide), pI_k (by decide), pI_k (by decide), pI_k (by decide), pI_k (by decide), pI_s]
    · rw [pI_k (by decide), pI_k (by decide), pI_k (by decide), pI_k (by decide), pI_k (by decide), pI_s]
    · rw [pI_k (by decide), pI_k (by decide), pI_k (by decide), pI_k (by decide), pI_s]
    · rw [pI_k (by decide), pI_k (by decide), pI_k (by decide), pI_s]
    · rw [pI_k (by decide), pI_k (by decide), pI_s]
    · rw [pI_k (by decide), pI_s]
    · rw [pI_s]
  · rw [q_J7_fill_53178_18 _ _ 14 k rfl]; exact f14.1 k (by omega) hk
  · rw [f18.2.2, f14.2.2, hU]; rfl
theorem zero_sp (w0 : ac_U) : ∀ (m fuel : Nat) (u : ac_U) (x : Int32), x.toInt = 106 - (m : Int) → m ≤ 106 → m < fuel → ∃ v, K_X12_house_85_29 w0 fuel u x = K_X12_house_85_60 w0 56 (f_X12_next_85 (pI v 88 0 (24 : Int32))) ∧ (∀ k : Nat, 106 - m ≤ k → k < 106 → v.1 88 k = 0) ∧ (∀ k : Nat, k < 106 - m → v.1 88 k = u.1 88 k) ∧ (∀ c k, c ≠ 88 → v.1 c k = u.1 c k) ∧ v.2 = u.2 := by
  intro m
  induction m with
  | zero =>
    intro fuel u x hx _ hf
    obtain ⟨f, rfl⟩ : ∃ f, fuel = f + 1 := ⟨fuel - 1, by omega⟩
    refine ⟨u, ?_, fun k h1 h2 => by omega, fun _ _ => rfl, fun _ _ _ => rfl, rfl⟩
    show K_X12_house_85_29_b (K_X12_house_85_29 w0 f) w0 u x = _
    unfold K_X12_house_85_29_b
    rw [if_pos (by omega)]
  | succ m ih =>
    intro fuel u x hx hm hf
    obtain ⟨f, rfl⟩ : ∃ f, fuel = f + 1 := ⟨fuel - 1, by omega⟩
    have hk := i_cl (x := x) (by omega)
    have hk2 : x.toNatClampNeg = 106 - (m + 1) := by omega
    have hx1 : (x + Int32.ofInt 1).toInt = 106 - (m : Int) := by
      rw [i_add rfl (by decide : (Int32.ofInt 1).toInt = 1) (by omega)]
      omega
    obtain ⟨v, v1, v2, v3, v4, v5⟩ := ih f (pI u 88 (106 - (m + 1)) 0) (x + Int32.ofInt 1) hx1 (by omega) (by omega)
    refine ⟨v, ?_, fun k h1 h2 => ?_, fun k h1 => ?_, fun c k hc => ?_, v5⟩
    · rw [← v1]
      show K_X12_house_85_29_b (K_X12_house_85_29 w0 f) w0 u x = _
      unfold K_X12_house_85_29_b
      rw [if_neg (by omega), hk2]
    · by_cases q : k = 106 - (m + 1)
      · rw [v3 k (by omega), q, pI_s]
      · exact v2 k (by omega) h2
    · rw [v3 k (by omega), pI_k (by omega)]
    · rw [v4 c k hc, pI_c hc]
theorem copy_sp (w0 : ac_U) : ∀ (m fuel : Nat) (u : ac_U) (x : Int32), x.toInt = 657 - (m : Int) → m ≤ 657 → m < fuel → ∃ v, K_X12_house_85_105 w0 fuel u x = K_X12_house_85_142 w0 28 v (0 : Int32) ∧ (∀ k : Nat, 657 - m ≤ k → k < 106 → v.1 87 k = u.1 88 k) ∧ (∀ k : Nat, k < 657 - m → v.1 87 k = u.1 87 k) ∧ (∀ c k, c ≠ 87 → v.1 c k = u.1 c k) ∧ v.2 = u.2 := by
  intro m
  induction m with
  | zero =>
    intro fuel u x hx _ hf
    obtain ⟨f, rfl⟩ : ∃ f, fuel = f + 1 := ⟨fuel - 1, by omega⟩
    refine ⟨u, ?_, fun k h1 h2 => by omega, fun _ _ => rfl, fun _ _ _ => rfl, rfl⟩
    show K_X12_house_85_105_b (K_X12_house_85_105 w0 f) w0 u x = _
    unfold K_X12_house_85_105_b
    rw [if_pos (by omega)]
  | succ m ih =>
    intro fuel u x hx hm hf
    obtain ⟨f, rfl⟩ : ∃ f, fuel = f + 1 := ⟨fuel - 1, by omega⟩
    have hk := i_cl (x := x) (by omega)
    have hk2 : x.toNatClampNeg = 657 - (m + 1) := by omega
    have hx1 : (x + Int32.ofInt 1).toInt = 657 - (m : Int) := by
      rw [i_add rfl (by decide : (Int32.ofInt 1).toInt = 1) (by omega)]
      omega
    obtain ⟨z, hz1, hz2⟩ : ∃ z : Int32, K_X12_house_85_105 w0 (f + 1) u x = K_X12_house_85_105 w0 f (pI u 87 (657 - (m + 1)) z) (x + Int32.ofInt 1) ∧ (657 - (m + 1) < 106 → z = u.1 88 (657 - (m + 1))) := by
      by_cases q : (106 : Int) ≤ x.toInt
      · refine ⟨0, ?_, fun _ => by omega⟩
        show K_X12_house_85_105_b (K_X12_house_85_105 w0 f) w0 u x = _
        unfold K_X12_house_85_105_b
        rw [if_neg (by omega), if_pos q, hk2]
      · refine ⟨u.1 88 (657 - (m + 1)), ?_, fun _ => rfl⟩
        show K_X12_house_85_105_b (K_X12_house_85_105 w0 f) w0 u x = _
        unfold K_X12_house_85_105_b
        rw [if_neg (by omega), if_neg q, hk2]
    obtain ⟨v, v1, v2, v3, v4, v5⟩ := ih f (pI u 87 (657 - (m + 1)) z) (x + Int32.ofInt 1) hx1 (by omega) (by omega)
    refine ⟨v, hz1.trans v1, fun k h1 h2 => ?_, fun k h1 => ?_, fun c k hc => ?_, v5⟩
    · by_cases q : k = 657 - (m + 1)
      · rw [v3 k (by omega), q, pI_s, hz2 (by omega)]
      · rw [v2 k (by omega) h2, pI_c (by decide)]
    · rw [v3 k (by omega), pI_k (by omega)]
    · rw [v4 c k hc, pI_c hc]
theorem names_sp (w0 : ac_U) : ∀ (m fuel : Nat) (u : ac_U) (x : Int32), x.toInt = 26 - (m : Int) → m ≤ 26 → m < fuel → ∃ v, K_X12_house_85_142 w0 fuel u x = K_X12_house_85_171 w0 6 v (0 : Int32) ∧ v.1 = u.1 := by
  intro m
  induction m with
  | zero =>
    intro fuel u x hx _ hf
    obtain ⟨f, rfl⟩ : ∃ f, fuel = f + 1 := ⟨fuel - 1, by omega⟩
    refine ⟨u, ?_, rfl⟩
    show K_X12_house_85_142_b (K_X12_house_85_142 w0 f) w0 u x = _
    unfold K_X12_house_85_142_b
    rw [if_pos (by omega)]
  | succ m ih =>
    intro fuel u x hx hm hf
    obtain ⟨f, rfl⟩ : ∃ f, fuel = f + 1 := ⟨fuel - 1, by omega⟩
    have hx1 : (x + Int32.ofInt 1).toInt = 26 - (m : Int) := by
      rw [i_add rfl (by decide : (Int32.ofInt 1).toInt = 1) (by omega)]
      omega
    obtain ⟨v, v1, v2⟩ := ih f (pL u 90 x.toNatClampNeg (u.2 90 (26 + x).toNatClampNeg)) (x + Int32.ofInt 1) hx1 (by omega) (by omega)
    refine ⟨v, ?_, v2⟩
    rw [← v1]
    show K_X12_house_85_142_b (K_X12_house_85_142 w0 f) w0 u x = _
    unfold K_X12_house_85_142_b
    rw [if_neg (by omega)]
theorem at_sp (w0 : ac_U) : ∀ (m fuel : Nat) (u : ac_U) (x : Int32), x.toInt = 4 - (m : Int) → m ≤ 4 → m < fuel → ∃ v, K_X12_house_85_171 w0 fuel u x = (v, u.1 85 19) ∧ (∀ k : Nat, k < 106 → v.1 87 k = u.1 87 k) := by
  intro m
  induction m with
  | zero =>
    intro fuel u x hx _ hf
    obtain ⟨f, rfl⟩ : ∃ f, fuel = f + 1 := ⟨fuel - 1, by omega⟩
    refine ⟨pI u 85 24 (0 : Int32), ?_, fun k _ => pI_c (by decide)⟩
    show K_X12_house_85_171_b (K_X12_house_85_171 w0 f) w0 u x = _
    unfold K_X12_house_85_171_b
    rw [if_pos (by omega)]
  | succ m ih =>
    intro fuel u x hx hm hf
    obtain ⟨f, rfl⟩ : ∃ f, fuel = f + 1 := ⟨fuel - 1, by omega⟩
    have hx1 : (x + Int32.ofInt 1).toInt = 4 - (m : Int) := by
      rw [i_add rfl (by decide : (Int32.ofInt 1).toInt = 1) (by omega)]
      omega
    have ho : (107 + x).toNatClampNeg = 107 + x.toNatClampNeg := off_n (by decide) (by omega) (by decide)
    obtain ⟨v, v1, v2⟩ := ih f (pI u 87 (107 + x).toNatClampNeg (u.1 87 (22 + x).toNatClampNeg)) (x + Int32.ofInt 1) hx1 (by omega) (by omega)
    refine ⟨v, ?_, fun k hk => ?_⟩
    · have e : K_X12_house_85_171 w0 (f + 1) u x = K_X12_house_85_171 w0 f (pI u 87 (107 + x).toNatClampNeg (u.1 87 (22 + x).toNatClampNeg)) (x + Int32.ofInt 1) := by
        show K_X12_house_85_171_b (K_X12_house_85_171 w0 f) w0 u x = _
        unfold K_X12_house_85_171_b
        rw [if_neg (by omega)]
      rw [e, v1, pI_c (by decide)]
    · rw [v2 k hk, pI_k (by omega)]

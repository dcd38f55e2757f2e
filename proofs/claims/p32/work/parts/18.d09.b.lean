/-! Images taken and given back alike. -/
theorem if1 {u : ac_U} {v a b : Int32} (h : a.toInt ≤ v.toInt ∧ v.toInt ≤ b.toInt) : f_X12_isIn_f u v a b = 1 := in1 (u := u) h
theorem if0 {u : ac_U} {v a b : Int32} (h : ¬ (a.toInt ≤ v.toInt ∧ v.toInt ≤ b.toInt)) : f_X12_isIn_f u v a b = 0 := in0 (u := u) h
theorem copy_55_4 (x : ac_U) : (∀ j, j < 8 → (f_X2_copyFrom_55_4 x).1 55 j = x.1 4 j) ∧ (∀ k, k < 8 → (f_X2_copyFrom_55_4 x).1 56 k = x.1 5 k) ∧ (∀ k, k < 6 → (f_X2_copyFrom_55_4 x).1 57 k = x.1 6 k) ∧ (∀ k, k < 8 → (f_X2_copyFrom_55_4 x).1 60 k = x.1 9 k) := by
  obtain ⟨Y, hY⟩ : ∃ Y, Y = pI (pI (pI (pI (pI (pI (pI (pI (pI x 55 0 (x.1 4 0)) 55 1 (x.1 4 1)) 55 2 (x.1 4 2)) 55 3 (x.1 4 3)) 55 4 (x.1 4 4)) 55 5 (x.1 4 5)) 55 6 (x.1 4 6)) 55 7 (x.1 4 7)) 55 8 (x.1 4 8) := ⟨_, rfl⟩
  have e : f_X2_copyFrom_55_4 x = cpI (cpI (cpL (cpI (cpI (cpI (cpI (cpI Y 5 56 0 0 8) 6 57 0 0 6) 7 58 0 0 4) 8 59 0 0 64) 9 60 0 0 8) 10 61 0 0 26) 11 62 0 0 26) 12 63 0 0 26 := by
    rw [hY]
    unfold f_X2_copyFrom_55_4
    rw [N0, N8, N6, N4, N64, N26]
  have y : ∀ c, c ≠ 55 → Y.1 c = x.1 c := fun c hc => by
    rw [hY]
    funext k
    rw [pI_c hc, pI_c hc, pI_c hc, pI_c hc, pI_c hc, pI_c hc, pI_c hc, pI_c hc, pI_c hc]
  rw [e]
  refine ⟨fun j hj => ?_, fun k hk => ?_, fun k hk => ?_, fun k hk => ?_⟩
  · rw [cp_o (by decide), cp_o (by decide)]
    show (cpI (cpI (cpI (cpI (cpI Y 5 56 0 0 8) 6 57 0 0 6) 7 58 0 0 4) 8 59 0 0 64) 9 60 0 0 8).1 55 j = _
    rw [cp_o (by decide), cp_o (by decide), cp_o (by decide), cp_o (by decide), cp_o (by decide), hY]
    rcases (show j = 0 ∨ j = 1 ∨ j = 2 ∨ j = 3 ∨ j = 4 ∨ j = 5 ∨ j = 6 ∨ j = 7 by omega) with q | q | q | q | q | q | q | q <;> subst q
    · rw [pI_k (by decide), pI_k (by decide), pI_k (by decide), pI_k (by decide), pI_k (by decide), pI_k (by decide), pI_k (by decide), pI_k (by decide), pI_s]
    · rw [pI_k (by decide), pI_k (by decide), pI_k (by decide), pI_k (by decide), pI_k (by decide), pI_k (by decide), pI_k (by decide), pI_s]
    · rw [pI_k (by decide), pI_k (by decide), pI_k (by decide), pI_k (by decide), pI_k (by decide), pI_k (by decide), pI_s]
    · rw [pI_k (by decide), pI_k (by decide), pI_k (by decide), pI_k (by decide), pI_k (by decide), pI_s]
    · rw [pI_k (by decide), pI_k (by decide), pI_k (by decide), pI_k (by decide), pI_s]
    · rw [pI_k (by decide), pI_k (by decide), pI_k (by decide), pI_s]
    · rw [pI_k (by decide), pI_k (by decide), pI_s]
    · rw [pI_k (by decide), pI_s]
  · rw [cp_o (by decide), cp_o (by decide)]
    show (cpI (cpI (cpI (cpI (cpI Y 5 56 0 0 8) 6 57 0 0 6) 7 58 0 0 4) 8 59 0 0 64) 9 60 0 0 8).1 56 k = _
    rw [cp_o (by decide), cp_o (by decide), cp_o (by decide), cp_o (by decide), cp_s hk, y 5 (by decide)]
  · rw [cp_o (by decide), cp_o (by decide)]
    show (cpI (cpI (cpI (cpI (cpI Y 5 56 0 0 8) 6 57 0 0 6) 7 58 0 0 4) 8 59 0 0 64) 9 60 0 0 8).1 57 k = _
    rw [cp_o (by decide), cp_o (by decide), cp_o (by decide), cp_s hk, cp_o (by decide), y 6 (by decide)]
  · rw [cp_o (by decide), cp_o (by decide)]
    show (cpI (cpI (cpI (cpI (cpI Y 5 56 0 0 8) 6 57 0 0 6) 7 58 0 0 4) 8 59 0 0 64) 9 60 0 0 8).1 60 k = _
    rw [cp_s hk, cp_o (by decide), cp_o (by decide), cp_o (by decide), cp_o (by decide), y 9 (by decide)]
theorem copy_64_4 (x : ac_U) : (∀ j, j < 8 → (f_X2_copyFrom_64_4 x).1 64 j = x.1 4 j) ∧ (∀ k, k < 8 → (f_X2_copyFrom_64_4 x).1 65 k = x.1 5 k) ∧ (∀ k, k < 6 → (f_X2_copyFrom_64_4 x).1 66 k = x.1 6 k) ∧ (∀ k, k < 8 → (f_X2_copyFrom_64_4 x).1 69 k = x.1 9 k) := by
  obtain ⟨Y, hY⟩ : ∃ Y, Y = pI (pI (pI (pI (pI (pI (pI (pI (pI x 64 0 (x.1 4 0)) 64 1 (x.1 4 1)) 64 2 (x.1 4 2)) 64 3 (x.1 4 3)) 64 4 (x.1 4 4)) 64 5 (x.1 4 5)) 64 6 (x.1 4 6)) 64 7 (x.1 4 7)) 64 8 (x.1 4 8) := ⟨_, rfl⟩
  have e : f_X2_copyFrom_64_4 x = cpI (cpI (cpL (cpI (cpI (cpI (cpI (cpI Y 5 65 0 0 8) 6 66 0 0 6) 7 67 0 0 4) 8 68 0 0 64) 9 69 0 0 8) 10 70 0 0 26) 11 71 0 0 26) 12 72 0 0 26 := by
    rw [hY]
    unfold f_X2_copyFrom_64_4
    rw [N0, N8, N6, N4, N64, N26]
  have y : ∀ c, c ≠ 64 → Y.1 c = x.1 c := fun c hc => by
    rw [hY]
    funext k
    rw [pI_c hc, pI_c hc, pI_c hc, pI_c hc, pI_c hc, pI_c hc, pI_c hc, pI_c hc, pI_c hc]
  rw [e]
  refine ⟨fun j hj => ?_, fun k hk => ?_, fun k hk => ?_, fun k hk => ?_⟩
  · rw [cp_o (by decide), cp_o (by decide)]
    show (cpI (cpI (cpI (cpI (cpI Y 5 65 0 0 8) 6 66 0 0 6) 7 67 0 0 4) 8 68 0 0 64) 9 69 0 0 8).1 64 j = _
    rw [cp_o (by decide), cp_o (by decide), cp_o (by decide), cp_o (by decide), cp_o (by decide), hY]
    rcases (show j = 0 ∨ j = 1 ∨ j = 2 ∨ j = 3 ∨ j = 4 ∨ j = 5 ∨ j = 6 ∨ j = 7 by omega) with q | q | q | q | q | q | q | q <;> subst q
    · rw [pI_k (by decide), pI_k (by decide), pI_k (by decide), pI_k (by decide), pI_k (by decide), pI_k (by decide), pI_k (by decide), pI_k (by decide), pI_s]
    · rw [pI_k (by decide), pI_k (by decide), pI_k (by decide), pI_k (by decide), pI_k (by decide), pI_k (by decide), pI_k (by decide), pI_s]
    · rw [pI_k (by decide), pI_k (by decide), pI_k (by decide), pI_k (by decide), pI_k (by decide), pI_k (by decide), pI_s]
    · rw [pI_k (by decide), pI_k (by decide), pI_k (by decide), pI_k (by decide), pI_k (by decide), pI_s]
    · rw [pI_k (by decide), pI_k (by decide), pI_k (by decide), pI_k (by decide), pI_s]
    · rw [pI_k (by decide), pI_k (by decide), pI_k (by decide), pI_s]
    · rw [pI_k (by decide), pI_k (by decide), pI_s]
    · rw [pI_k (by decide), pI_s]
  · rw [cp_o (by decide), cp_o (by decide)]
    show (cpI (cpI (cpI (cpI (cpI Y 5 65 0 0 8) 6 66 0 0 6) 7 67 0 0 4) 8 68 0 0 64) 9 69 0 0 8).1 65 k = _
    rw [cp_o (by decide), cp_o (by decide), cp_o (by decide), cp_o (by decide), cp_s hk, y 5 (by decide)]
  · rw [cp_o (by decide), cp_o (by decide)]
    show (cpI (cpI (cpI (cpI (cpI Y 5 65 0 0 8) 6 66 0 0 6) 7 67 0 0 4) 8 68 0 0 64) 9 69 0 0 8).1 66 k = _
    rw [cp_o (by decide), cp_o (by decide), cp_o (by decide), cp_s hk, cp_o (by decide), y 6 (by decide)]
  · rw [cp_o (by decide), cp_o (by decide)]
    show (cpI (cpI (cpI (cpI (cpI Y 5 65 0 0 8) 6 66 0 0 6) 7 67 0 0 4) 8 68 0 0 64) 9 69 0 0 8).1 69 k = _
    rw [cp_s hk, cp_o (by decide), cp_o (by decide), cp_o (by decide), cp_o (by decide), y 9 (by decide)]
theorem copy_4_55 (x : ac_U) : (∀ j, j < 8 → (f_X2_copyFrom_4_55 x).1 4 j = x.1 55 j) ∧ (∀ k, k < 8 → (f_X2_copyFrom_4_55 x).1 5 k = x.1 56 k) ∧ (∀ k, k < 6 → (f_X2_copyFrom_4_55 x).1 6 k = x.1 57 k) ∧ (∀ k, k < 8 → (f_X2_copyFrom_4_55 x).1 9 k = x.1 60 k) := by
  obtain ⟨Y, hY⟩ : ∃ Y, Y = pI (pI (pI (pI (pI (pI (pI (pI (pI x 4 0 (x.1 55 0)) 4 1 (x.1 55 1)) 4 2 (x.1 55 2)) 4 3 (x.1 55 3)) 4 4 (x.1 55 4)) 4 5 (x.1 55 5)) 4 6 (x.1 55 6)) 4 7 (x.1 55 7)) 4 8 (x.1 55 8) := ⟨_, rfl⟩
  have e : f_X2_copyFrom_4_55 x = cpI (cpI (cpL (cpI (cpI (cpI (cpI (cpI Y 56 5 0 0 8) 57 6 0 0 6) 58 7 0 0 4) 59 8 0 0 64) 60 9 0 0 8) 61 10 0 0 26) 62 11 0 0 26) 63 12 0 0 26 := by
    rw [hY]
    unfold f_X2_copyFrom_4_55
    rw [N0, N8, N6, N4, N64, N26]
  have y : ∀ c, c ≠ 4 → Y.1 c = x.1 c := fun c hc => by
    rw [hY]
    funext k
    rw [pI_c hc, pI_c hc, pI_c hc, pI_c hc, pI_c hc, pI_c hc, pI_c hc, pI_c hc, pI_c hc]
  rw [e]
  refine ⟨fun j hj => ?_, fun k hk => ?_, fun k hk => ?_, fun k hk => ?_⟩
  · rw [cp_o (by decide), cp_o (by decide)]
    show (cpI (cpI (cpI (cpI (cpI Y 56 5 0 0 8) 57 6 0 0 6) 58 7 0 0 4) 59 8 0 0 64) 60 9 0 0 8).1 4 j = _
    rw [cp_o (by decide), cp_o (by decide), cp_o (by decide), cp_o (by decide), cp_o (by decide), hY]
    rcases (show j = 0 ∨ j = 1 ∨ j = 2 ∨ j = 3 ∨ j = 4 ∨ j = 5 ∨ j = 6 ∨ j = 7 by omega) with q | q | q | q | q | q | q | q <;> subst q
    · rw [pI_k (by decide), pI_k (by decide), pI_k (by decide), pI_k (by decide), pI_k (by decide), pI_k (by decide), pI_k (by decide), pI_k (by decide), pI_s]
    · rw [pI_k (by decide), pI_k (by decide), pI_k (by decide), pI_k (by decide), pI_k (by decide), pI_k (by decide), pI_k (by decide), pI_s]
    · rw [pI_k (by decide), pI_k (by decide), pI_k (by decide), pI_k (by decide), pI_k (by decide), pI_k (by decide), pI_s]
    · rw [pI_k (by decide), pI_k (by decide), pI_k (by decide), pI_k (by decide), pI_k (by decide), pI_s]
    · rw [pI_k (by decide), pI_k (by decide), pI_k (by decide), pI_k (by decide), pI_s]
    · rw [pI_k (by decide), pI_k (by decide), pI_k (by decide), pI_s]
    · rw [pI_k (by decide), pI_k (by decide), pI_s]
    · rw [pI_k (by decide), pI_s]
  · rw [cp_o (by decide), cp_o (by decide)]
    show (cpI (cpI (cpI (cpI (cpI Y 56 5 0 0 8) 57 6 0 0 6) 58 7 0 0 4) 59 8 0 0 64) 60 9 0 0 8).1 5 k = _
    rw [cp_o (by decide), cp_o (by decide), cp_o (by decide), cp_o (by decide), cp_s hk, y 56 (by decide)]
  · rw [cp_o (by decide), cp_o (by decide)]
    show (cpI (cpI (cpI (cpI (cpI Y 56 5 0 0 8) 57 6 0 0 6) 58 7 0 0 4) 59 8 0 0 64) 60 9 0 0 8).1 6 k = _
    rw [cp_o (by decide), cp_o (by decide), cp_o (by decide), cp_s hk, cp_o (by decide), y 57 (by decide)]
  · rw [cp_o (by decide), cp_o (by decide)]
    show (cpI (cpI (cpI (cpI (cpI Y 56 5 0 0 8) 57 6 0 0 6) 58 7 0 0 4) 59 8 0 0 64) 60 9 0 0 8).1 9 k = _
    rw [cp_s hk, cp_o (by decide), cp_o (by decide), cp_o (by decide), cp_o (by decide), y 60 (by decide)]
theorem copy_4_64 (x : ac_U) : (∀ j, j < 8 → (f_X2_copyFrom_4_64 x).1 4 j = x.1 64 j) ∧ (∀ k, k < 8 → (f_X2_copyFrom_4_64 x).1 5 k = x.1 65 k) ∧ (∀ k, k < 6 → (f_X2_copyFrom_4_64 x).1 6 k = x.1 66 k) ∧ (∀ k, k < 8 → (f_X2_copyFrom_4_64 x).1 9 k = x.1 69 k) := by
  obtain ⟨Y, hY⟩ : ∃ Y, Y = pI (pI (pI (pI (pI (pI (pI (pI (pI x 4 0 (x.1 64 0)) 4 1 (x.1 64 1)) 4 2 (x.1 64 2)) 4 3 (x.1 64 3)) 4 4 (x.1 64 4)) 4 5 (x.1 64 5)) 4 6 (x.1 64 6)) 4 7 (x.1 64 7)) 4 8 (x.1 64 8) := ⟨_, rfl⟩
  have e : f_X2_copyFrom_4_64 x = cpI (cpI (cpL (cpI (cpI (cpI (cpI (cpI Y 65 5 0 0 8) 66 6 0 0 6) 67 7 0 0 4) 68 8 0 0 64) 69 9 0 0 8) 70 10 0 0 26) 71 11 0 0 26) 72 12 0 0 26 := by
    rw [hY]
    unfold f_X2_copyFrom_4_64
    rw [N0, N8, N6, N4, N64, N26]
  have y : ∀ c, c ≠ 4 → Y.1 c = x.1 c := fun c hc => by
    rw [hY]
    funext k
    rw [pI_c hc, pI_c hc, pI_c hc, pI_c hc, pI_c hc, pI_c hc, pI_c hc, pI_c hc, pI_c hc]
  rw [e]
  refine ⟨fun j hj => ?_, fun k hk => ?_, fun k hk => ?_, fun k hk => ?_⟩
  · rw [cp_o (by decide), cp_o (by decide)]
    show (cpI (cpI (cpI (cpI (cpI Y 65 5 0 0 8) 66 6 0 0 6) 67 7 0 0 4) 68 8 0 0 64) 69 9 0 0 8).1 4 j = _
    rw [cp_o (by decide), cp_o (by decide), cp_o (by decide), cp_o (by decide), cp_o (by decide), hY]
    rcases (show j = 0 ∨ j = 1 ∨ j = 2 ∨ j = 3 ∨ j = 4 ∨ j = 5 ∨ j = 6 ∨ j = 7 by omega) with q | q | q | q | q | q | q | q <;> subst q
    · rw [pI_k (by decide), pI_k (by decide), pI_k (by decide), pI_k (by decide), pI_k (by decide), pI_k (by decide), pI_k (by decide), pI_k (by decide), pI_s]
    · rw [pI_k (by decide), pI_k (by decide), pI_k (by decide), pI_k (by decide), pI_k (by decide), pI_k (by decide), pI_k (by decide), pI_s]
    · rw [pI_k (by decide), pI_k (by decide), pI_k (by decide), pI_k (by decide), pI_k (by decide), pI_k (by decide), pI_s]
    · rw [pI_k (by decide), pI_k (by decide), pI_k (by decide), pI_k (by decide), pI_k (by decide), pI_s]
    · rw [pI_k (by decide), pI_k (by decide), pI_k (by decide), pI_k (by decide), pI_s]
    · rw [pI_k (by decide), pI_k (by decide), pI_k (by decide), pI_s]
    · rw [pI_k (by decide), pI_k (by decide), pI_s]
    · rw [pI_k (by decide), pI_s]
  · rw [cp_o (by decide), cp_o (by decide)]
    show (cpI (cpI (cpI (cpI (cpI Y 65 5 0 0 8) 66 6 0 0 6) 67 7 0 0 4) 68 8 0 0 64) 69 9 0 0 8).1 5 k = _
    rw [cp_o (by decide), cp_o (by decide), cp_o (by decide), cp_o (by decide), cp_s hk, y 65 (by decide)]
  · rw [cp_o (by decide), cp_o (by decide)]
    show (cpI (cpI (cpI (cpI (cpI Y 65 5 0 0 8) 66 6 0 0 6) 67 7 0 0 4) 68 8 0 0 64) 69 9 0 0 8).1 6 k = _
    rw [cp_o (by decide), cp_o (by decide), cp_o (by decide), cp_s hk, cp_o (by decide), y 66 (by decide)]
  · rw [cp_o (by decide), cp_o (by decide)]
    show (cpI (cpI (cpI (cpI (cpI Y 65 5 0 0 8) 66 6 0 0 6) 67 7 0 0 4) 68 8 0 0 64) 69 9 0 0 8).1 9 k = _
    rw [cp_s hk, cp_o (by decide), cp_o (by decide), cp_o (by decide), cp_o (by decide), y 69 (by decide)]
theorem sp_take_53 (x : ac_U) : (∀ j, j < 8 → (f_X4_take_53_4_24_43 x).1 55 j = x.1 4 j) ∧ (∀ k, k < 8 → (f_X4_take_53_4_24_43 x).1 56 k = x.1 5 k) ∧ (∀ k, k < 6 → (f_X4_take_53_4_24_43 x).1 57 k = x.1 6 k) ∧ (∀ k, k < 8 → (f_X4_take_53_4_24_43 x).1 60 k = x.1 9 k) := by
  obtain ⟨k1, k2, k3, k4⟩ := copy_55_4 x
  have g : ∀ c k, c = 55 ∨ c = 56 ∨ c = 57 ∨ c = 60 → (f_X4_take_53_4_24_43 x).1 c k = (f_X2_copyFrom_55_4 x).1 c k := fun c k hc => by
    unfold f_X4_take_53_4_24_43
    rw [pI_c (by omega), cp_o (by omega), cp_o (by omega)]
    rcases hc with e | e | e | e <;> subst e
    · exact q_X8_copyFrom_73_43 _ 55 k rfl
    · exact q_X8_copyFrom_73_43 _ 56 k rfl
    · exact q_X8_copyFrom_73_43 _ 57 k rfl
    · exact q_X8_copyFrom_73_43 _ 60 k rfl
  exact ⟨fun j hj => (g 55 j (by omega)).trans (k1 j hj), fun j hj => (g 56 j (by omega)).trans (k2 j hj), fun j hj => (g 57 j (by omega)).trans (k3 j hj), fun j hj => (g 60 j (by omega)).trans (k4 j hj)⟩
theorem sp_take_54 (x : ac_U) : (∀ j, j < 8 → (f_X4_take_54_4_24_43 x).1 64 j = x.1 4 j) ∧ (∀ k, k < 8 → (f_X4_take_54_4_24_43 x).1 65 k = x.1 5 k) ∧ (∀ k, k < 6 → (f_X4_take_54_4_24_43 x).1 66 k = x.1 6 k) ∧ (∀ k, k < 8 → (f_X4_take_54_4_24_43 x).1 69 k = x.1 9 k) := by
  obtain ⟨k1, k2, k3, k4⟩ := copy_64_4 x
  have g : ∀ c k, c = 64 ∨ c = 65 ∨ c = 66 ∨ c = 69 → (f_X4_take_54_4_24_43 x).1 c k = (f_X2_copyFrom_64_4 x).1 c k := fun c k hc => by
    unfold f_X4_take_54_4_24_43
    rw [pI_c (by omega), cp_o (by omega), cp_o (by omega)]
    rcases hc with e | e | e | e <;> subst e
    · exact q_X8_copyFrom_77_43 _ 64 k rfl
    · exact q_X8_copyFrom_77_43 _ 65 k rfl
    · exact q_X8_copyFrom_77_43 _ 66 k rfl
    · exact q_X8_copyFrom_77_43 _ 69 k rfl
  exact ⟨fun j hj => (g 64 j (by omega)).trans (k1 j hj), fun j hj => (g 65 j (by omega)).trans (k2 j hj), fun j hj => (g 66 j (by omega)).trans (k3 j hj), fun j hj => (g 69 j (by omega)).trans (k4 j hj)⟩
theorem sp_give_53 (x : ac_U) : (∀ j, j < 8 → (f_X4_give_53_4_24_43 x).1 4 j = x.1 55 j) ∧ (∀ k, k < 8 → (f_X4_give_53_4_24_43 x).1 5 k = x.1 56 k) ∧ (∀ k, k < 6 → (f_X4_give_53_4_24_43 x).1 6 k = x.1 57 k) ∧ (∀ k, k < 8 → (f_X4_give_53_4_24_43 x).1 9 k = x.1 60 k) := by
  obtain ⟨k1, k2, k3, k4⟩ := copy_4_55 x
  have g : ∀ c k, c = 4 ∨ c = 5 ∨ c = 6 ∨ c = 9 → (f_X4_give_53_4_24_43 x).1 c k = (f_X2_copyFrom_4_55 x).1 c k := fun c k hc => by
    unfold f_X4_give_53_4_24_43
    rw [pI_c (by omega), cp_o (by omega), cp_o (by omega)]
    rcases hc with e | e | e | e <;> subst e
    · exact q_X8_copyFrom_43_73 _ 4 k rfl
    · exact q_X8_copyFrom_43_73 _ 5 k rfl
    · exact q_X8_copyFrom_43_73 _ 6 k rfl
    · exact q_X8_copyFrom_43_73 _ 9 k rfl
  exact ⟨fun j hj => (g 4 j (by omega)).trans (k1 j hj), fun j hj => (g 5 j (by omega)).trans (k2 j hj), fun j hj => (g 6 j (by omega)).trans (k3 j hj), fun j hj => (g 9 j (by omega)).trans (k4 j hj)⟩
theorem sp_give_54 (x : ac_U) : (∀ j, j < 8 → (f_X4_give_54_4_24_43 x).1 4 j = x.1 64 j) ∧ (∀ k, k < 8 → (f_X4_give_54_4_24_43 x).1 5 k = x.1 65 k) ∧ (∀ k, k < 6 → (f_X4_give_54_4_24_43 x).1 6 k = x.1 66 k) ∧ (∀ k, k < 8 → (f_X4_give_54_4_24_43 x).1 9 k = x.1 69 k) := by
  obtain ⟨k1, k2, k3, k4⟩ := copy_4_64 x
  have g : ∀ c k, c = 4 ∨ c = 5 ∨ c = 6 ∨ c = 9 → (f_X4_give_54_4_24_43 x).1 c k = (f_X2_copyFrom_4_64 x).1 c k := fun c k hc => by
    unfold f_X4_give_54_4_24_43
    rw [pI_c (by omega), cp_o (by omega), cp_o (by omega)]
    rcases hc with e | e | e | e <;> subst e
    · exact q_X8_copyFrom_43_77 _ 4 k rfl
    · exact q_X8_copyFrom_43_77 _ 5 k rfl
    · exact q_X8_copyFrom_43_77 _ 6 k rfl
    · exact q_X8_copyFrom_43_77 _ 9 k rfl
  exact ⟨fun j hj => (g 4 j (by omega)).trans (k1 j hj), fun j hj => (g 5 j (by omega)).trans (k2 j hj), fun j hj => (g 6 j (by omega)).trans (k3 j hj), fun j hj => (g 9 j (by omega)).trans (k4 j hj)⟩
theorem image_nm (w0 : ac_U) (p : Int32) : ∀ (m fuel : Nat) (u : ac_U) (x : Int32), x.toInt = 26 - (m : Int) → m ≤ 26 → m < fuel → ∃ v : ac_U, v.1 = u.1 ∧ K_X12_image_85_51 w0 p fuel u x = (pI v 104 p.toNatClampNeg (1 : Int32), (1 : Int32)) := by
  intro m
  induction m with
  | zero =>
    intro fuel u x hx _ hf
    obtain ⟨f, rfl⟩ : ∃ f, fuel = f + 1 := ⟨fuel - 1, by omega⟩
    refine ⟨u, rfl, ?_⟩
    show K_X12_image_85_51_b (K_X12_image_85_51 w0 p f) w0 p u x = _
    unfold K_X12_image_85_51_b
    rw [if_pos (by omega)]
  | succ m ih =>
    intro fuel u x hx hm hf
    obtain ⟨f, rfl⟩ : ∃ f, fuel = f + 1 := ⟨fuel - 1, by omega⟩
    have hx1 : (x + Int32.ofInt 1).toInt = 26 - (m : Int) := by
      rw [i_add rfl (by decide : (Int32.ofInt 1).toInt = 1) (by omega)]
      omega
    have hs : ∃ q : ac_U, q.1 = u.1 ∧ K_X12_image_85_51 w0 p (f + 1) u x = K_X12_image_85_51 w0 p f q (x + Int32.ofInt 1) := by
      refine ⟨pL u 103 ((26 : Int32) * p + x).toNatClampNeg (u.2 90 x.toNatClampNeg), rfl, ?_⟩
      show K_X12_image_85_51_b (K_X12_image_85_51 w0 p f) w0 p u x = _
      unfold K_X12_image_85_51_b
      rw [if_neg (by omega)]
    obtain ⟨q, q1, q2⟩ := hs
    obtain ⟨v, v1, v2⟩ := ih f q (x + Int32.ofInt 1) hx1 (by omega) (by omega)
    exact ⟨v, v1.trans q1, q2.trans v2⟩
theorem restore_nm (w0 : ac_U) (p : Int32) : ∀ (m fuel : Nat) (u : ac_U) (x : Int32), x.toInt = 26 - (m : Int) → m ≤ 26 → m < fuel → ∃ v : ac_U, v.1 = u.1 ∧ K_X12_restore_85_60 w0 p fuel u x = (pI v 85 24 (0 : Int32), (1 : Int32)) := by
  intro m
  induction m with
  | zero =>
    intro fuel u x hx _ hf
    obtain ⟨f, rfl⟩ : ∃ f, fuel = f + 1 := ⟨fuel - 1, by omega⟩
    refine ⟨u, rfl, ?_⟩
    show K_X12_restore_85_60_b (K_X12_restore_85_60 w0 p f) w0 p u x = _
    unfold K_X12_restore_85_60_b
    rw [if_pos (by omega)]
  | succ m ih =>
    intro fuel u x hx hm hf
    obtain ⟨f, rfl⟩ : ∃ f, fuel = f + 1 := ⟨fuel - 1, by omega⟩
    have hx1 : (x + Int32.ofInt 1).toInt = 26 - (m : Int) := by
      rw [i_add rfl (by decide : (Int32.ofInt 1).toInt = 1) (by omega)]
      omega
    have hs : ∃ q : ac_U, q.1 = u.1 ∧ K_X12_restore_85_60 w0 p (f + 1) u x = K_X12_restore_85_60 w0 p f q (x + Int32.ofInt 1) := by
      refine ⟨pL u 90 x.toNatClampNeg (u.2 103 ((26 : Int32) * p + x).toNatClampNeg), rfl, ?_⟩
      show K_X12_restore_85_60_b (K_X12_restore_85_60 w0 p f) w0 p u x = _
      unfold K_X12_restore_85_60_b
      rw [if_neg (by omega)]
    obtain ⟨q, q1, q2⟩ := hs
    obtain ⟨v, v1, v2⟩ := ih f q (x + Int32.ofInt 1) hx1 (by omega) (by omega)
    exact ⟨v, v1.trans q1, q2.trans v2⟩
theorem ix_n {p x : Int32} {P : Nat} (hp : p.toInt = P) (hP : P ≤ 1) (hx : 0 ≤ x.toInt ∧ x.toInt ≤ 656) : ((657 : Int32) * p + x).toNatClampNeg = 657 * P + x.toNatClampNeg := by
  have h1 : ((657 : Int32) * p).toInt = 657 * (P : Int) := i_mul (by decide : (657 : Int32).toInt = 657) hp (by omega)
  have h2 : ((657 : Int32) * p + x).toInt = 657 * (P : Int) + x.toInt := i_add h1 rfl (by omega)
  have h3 := i_cl (x := (657 : Int32) * p + x) (by omega)
  have h4 := i_cl (x := x) hx.1
  omega
theorem image_cp (w0 : ac_U) (p : Int32) {P : Nat} (hp : p.toInt = P) (hP : P ≤ 1) : ∀ (m fuel : Nat) (u : ac_U) (x : Int32), x.toInt = 657 - (m : Int) → m ≤ 657 → m < fuel → ∃ v, K_X12_image_85_18 w0 p fuel u x = K_X12_image_85_51 w0 p 28 v (0 : Int32) ∧ (∀ k : Nat, 657 - m ≤ k → k < 657 → v.1 102 (657 * P + k) = u.1 87 k) ∧ (∀ k : Nat, k < 657 * P + (657 - m) ∨ 657 * P + 657 ≤ k → v.1 102 k = u.1 102 k) ∧ (∀ c k, c ≠ 102 → v.1 c k = u.1 c k) := by
  intro m
  induction m with
  | zero =>
    intro fuel u x hx _ hf
    obtain ⟨f, rfl⟩ : ∃ f, fuel = f + 1 := ⟨fuel - 1, by omega⟩
    refine ⟨u, ?_, fun k h1 h2 => by omega, fun _ _ => rfl, fun _ _ _ => rfl⟩
    show K_X12_image_85_18_b (K_X12_image_85_18 w0 p f) w0 p u x = _
    unfold K_X12_image_85_18_b
    rw [if_pos (by omega)]
  | succ m ih =>
    intro fuel u x hx hm hf
    obtain ⟨f, rfl⟩ : ∃ f, fuel = f + 1 := ⟨fuel - 1, by omega⟩
    have hk := i_cl (x := x) (by omega)
    have hk2 : x.toNatClampNeg = 657 - (m + 1) := by omega
    have hx1 : (x + Int32.ofInt 1).toInt = 657 - (m : Int) := by
      rw [i_add rfl (by decide : (Int32.ofInt 1).toInt = 1) (by omega)]
      omega
    have hi := ix_n (x := x) hp hP (by omega)
    rw [hk2] at hi
    have hs : K_X12_image_85_18 w0 p (f + 1) u x = K_X12_image_85_18 w0 p f (pI u 102 (657 * P + (657 - (m + 1))) (u.1 87 (657 - (m + 1)))) (x + Int32.ofInt 1) := by
      show K_X12_image_85_18_b (K_X12_image_85_18 w0 p f) w0 p u x = _
      unfold K_X12_image_85_18_b
      rw [if_neg (by omega)]
      show K_X12_image_85_18 w0 p f (pI u 102 ((657 : Int32) * p + x).toNatClampNeg (u.1 87 x.toNatClampNeg)) (x + Int32.ofInt 1) = _
      rw [hi, hk2]
    obtain ⟨v, v1, v2, v3, v4⟩ := ih f (pI u 102 (657 * P + (657 - (m + 1))) (u.1 87 (657 - (m + 1)))) (x + Int32.ofInt 1) hx1 (by omega) (by omega)
    refine ⟨v, hs.trans v1, fun k h1 h2 => ?_, fun k h1 => ?_, fun c k hc => ?_⟩
    · by_cases q : k = 657 - (m + 1)
      · rw [v3 _ (by omega), q, pI_s]
      · rw [v2 k (by omega) h2, pI_c (by decide)]
    · rw [v3 k (by omega), pI_k (by omega)]
    · rw [v4 c k hc, pI_c hc]
theorem restore_cp (w0 : ac_U) (p : Int32) {P : Nat} (hp : p.toInt = P) (hP : P ≤ 1) : ∀ (m fuel : Nat) (u : ac_U) (x : Int32), x.toInt = 657 - (m : Int) → m ≤ 657 → m < fuel → ∃ v, K_X12_restore_85_27 w0 p fuel u x = K_X12_restore_85_60 w0 p 28 v (0 : Int32) ∧ (∀ k : Nat, 657 - m ≤ k → k < 657 → v.1 87 k = u.1 102 (657 * P + k)) ∧ (∀ k : Nat, k < 657 - m → v.1 87 k = u.1 87 k) ∧ (∀ c k, c ≠ 87 → v.1 c k = u.1 c k) := by
  intro m
  induction m with
  | zero =>
    intro fuel u x hx _ hf
    obtain ⟨f, rfl⟩ : ∃ f, fuel = f + 1 := ⟨fuel - 1, by omega⟩
    refine ⟨u, ?_, fun k h1 h2 => by omega, fun _ _ => rfl, fun _ _ _ => rfl⟩
    show K_X12_restore_85_27_b (K_X12_restore_85_27 w0 p f) w0 p u x = _
    unfold K_X12_restore_85_27_b
    rw [if_pos (by omega)]
  | succ m ih =>
    intro fuel u x hx hm hf
    obtain ⟨f, rfl⟩ : ∃ f, fuel = f + 1 := ⟨fuel - 1, by omega⟩
    have hk := i_cl (x := x) (by omega)
    have hk2 : x.toNatClampNeg = 657 - (m + 1) := by omega
    have hx1 : (x + Int32.ofInt 1).toInt = 657 - (m : Int) := by
      rw [i_add rfl (by decide : (Int32.ofInt 1).toInt = 1) (by omega)]
      omega
    have hi := ix_n (x := x) hp hP (by omega)
    rw [hk2] at hi
    have hs : K_X12_restore_85_27 w0 p (f + 1) u x = K_X12_restore_85_27 w0 p f (pI u 87 (657 - (m + 1)) (u.1 102 (657 * P + (657 - (m + 1))))) (x + Int32.ofInt 1) := by
      show K_X12_restore_85_27_b (K_X12_restore_85_27 w0 p f) w0 p u x = _
      unfold K_X12_restore_85_27_b
      rw [if_neg (by omega)]
      show K_X12_restore_85_27 w0 p f (pI u 87 x.toNatClampNeg (u.1 102 ((657 : Int32) * p + x).toNatClampNeg)) (x + Int32.ofInt 1) = _
      rw [hi, hk2]
    obtain ⟨v, v1, v2, v3, v4⟩ := ih f (pI u 87 (657 - (m + 1)) (u.1 102 (657 * P + (657 - (m + 1))))) (x + Int32.ofInt 1) hx1 (by omega) (by omega)
    refine ⟨v, hs.trans v1, fun k h1 h2 => ?_, fun k h1 => ?_, fun c k hc => ?_⟩
    · by_cases q : k = 657 - (m + 1)
      · rw [v3 _ (by omega), q, pI_s]
      · rw [v2 k (by omega) h2, pI_c (by decide)]
    · rw [v3 k (by omega), pI_k (by omega)]
    · rw [v4 c k hc, pI_c hc]
theorem image_sp (w : ac_U) (p : Int32) : (∀ P : Nat, p.toInt = P → P ≤ 1 → (∀ k, k < 657 → (f_X12_image_85 w p).1.1 102 (657 * P + k) = w.1 87 k) ∧ (∀ k, k < 657 * P ∨ 657 * P + 657 ≤ k → (f_X12_image_85 w p).1.1 102 k = w.1 102 k)) ∧ (p.toInt < 0 ∨ 1 < p.toInt → ∀ k, (f_X12_image_85 w p).1.1 102 k = w.1 102 k) := by
  have hc : f_X12_image_85 w p = if (f_X12_isIn_f (pI w 85 0 (0 : Int32)) p (0 : Int32) (1 : Int32)).toInt ≠ 0 then K_X12_image_85_18 w p 659 (pI w 85 0 (0 : Int32)) (0 : Int32) else (pI w 85 0 (0 : Int32), (0 : Int32)) := rfl
  refine ⟨fun P hp hP => ?_, fun hp k => ?_⟩
  · rw [hc, if1 (by rw [t0i, t1i]; omega), if_pos n1]
    obtain ⟨v, v1, v2, v3, v4⟩ := image_cp w p hp hP 657 659 (pI w 85 0 (0 : Int32)) (0 : Int32) (by decide) (by decide) (by decide)
    obtain ⟨z, z1, z2⟩ := image_nm w p 26 28 v (0 : Int32) (by decide) (by decide) (by decide)
    rw [v1, z2]
    refine ⟨fun k hk => ?_, fun k hk => ?_⟩
    · show (pI z 104 p.toNatClampNeg (1 : Int32)).1 102 (657 * P + k) = _
      rw [pI_c (by decide), z1, v2 k (by omega) hk, pI_c (by decide)]
    · show (pI z 104 p.toNatClampNeg (1 : Int32)).1 102 k = _
      rw [pI_c (by decide), z1, v3 k (by omega), pI_c (by decide)]
  · rw [hc, if0 (by rw [t0i, t1i]; omega), if_neg n0]
    show (pI w 85 0 (0 : Int32)).1 102 k = _
    rw [pI_c (by decide)]
theorem restore_sp (w : ac_U) (p : Int32) : (∀ P : Nat, p.toInt = P → P ≤ 1 → (w.1 104 P).toInt ≠ 0 → (f_X12_restore_85 w p).2 = 1 ∧ ∀ k, k < 657 → (f_X12_restore_85 w p).1.1 87 k = w.1 102 (657 * P + k)) ∧ (∀ P : Nat, p.toInt = P → P ≤ 1 → (w.1 104 P).toInt = 0 → (f_X12_restore_85 w p).2 = 0 ∧ ∀ k, (f_X12_restore_85 w p).1.1 87 k = w.1 87 k) ∧ (p.toInt < 0 ∨ 1 < p.toInt → (f_X12_restore_85 w p).2 = 0 ∧ ∀ k, (f_X12_restore_85 w p).1.1 87 k = w.1 87 k) := by
  have hc : f_X12_restore_85 w p = if (f_X12_isIn_f (pI w 85 0 (0 : Int32)) p (0 : Int32) (1 : Int32)).toInt = 0 then (pI w 85 0 (0 : Int32), (0 : Int32)) else (if ((pI w 85 0 (0 : Int32)).1 104 p.toNatClampNeg).toInt ≠ 0 then K_X12_restore_85_27 w p 659 (pI w 85 0 (0 : Int32)) (0 : Int32) else (pI w 85 0 (0 : Int32), (0 : Int32))) := rfl
  refine ⟨fun P hp hP hk => ?_, fun P hp hP hk => ?_, fun hp => ?_⟩
  · have hP2 := i_cl (x := p) (by omega)
    have e : (pI w 85 0 (0 : Int32)).1 104 p.toNatClampNeg = w.1 104 P := by rw [pI_c (by decide), show p.toNatClampNeg = P by omega]
    rw [hc, if1 (by rw [t0i, t1i]; omega), if_neg n1', e, if_pos hk]
    obtain ⟨v, v1, v2, v3, v4⟩ := restore_cp w p hp hP 657 659 (pI w 85 0 (0 : Int32)) (0 : Int32) (by decide) (by decide) (by decide)
    obtain ⟨z, z1, z2⟩ := restore_nm w p 26 28 v (0 : Int32) (by decide) (by decide) (by decide)
    rw [v1, z2]
    refine ⟨rfl, fun k hk => ?_⟩
    show (pI z 85 24 (0 : Int32)).1 87 k = _
    rw [pI_c (by decide), z1, v2 k (by omega) hk, pI_c (by decide)]
  · have hP2 := i_cl (x := p) (by omega)
    have e : (pI w 85 0 (0 : Int32)).1 104 p.toNatClampNeg = w.1 104 P := by rw [pI_c (by decide), show p.toNatClampNeg = P by omega]
    rw [hc, if1 (by rw [t0i, t1i]; omega), if_neg n1', e, if_neg (fun z => z hk)]
    refine ⟨rfl, fun k => ?_⟩
    show (pI w 85 0 (0 : Int32)).1 87 k = _
    rw [pI_c (by decide)]
  · rw [hc, if0 (by rw [t0i, t1i]; omega), if_pos t0i]
    refine ⟨rfl, fun k => ?_⟩
    show (pI w 85 0 (0 : Int32)).1 87 k = _
    rw [pI_c (by decide)]

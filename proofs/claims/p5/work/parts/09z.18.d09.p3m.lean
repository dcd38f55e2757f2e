/-! Names at house(), image() and restore(). -/
theorem cpL_s {u : ac_U} {c0 c1 n k : Nat} (hk : k < n) : (cpL u c0 c1 0 0 n).2 c1 k = u.2 c0 k := by
  show (if c1 = c1 then va_cpy (u.2 c0) (u.2 c1) 0 0 n else u.2 c1) k = _
  rw [if_pos rfl]
  show (if 0 ≤ k ∧ k < 0 + n then u.2 c0 (0 + (k - 0)) else u.2 c1 k) = _
  rw [if_pos (by omega), Nat.zero_add, Nat.sub_zero]
def cmx (s : Nat) : Nat := ([8, 4, 6, 8] : List Nat).getD s 0
theorem bh_26 {s i : Nat} (hs : s < 4) (hi : i < cmx s) : bh s + i < 26 := by
  rcases (show s = 0 ∨ s = 1 ∨ s = 2 ∨ s = 3 by omega) with e | e | e | e <;> subst e <;> simp [bh, cmx] at hi ⊢ <;> omega
theorem bs_bh {s : Nat} (hs : s < 4) (i : Nat) : bs s + i = 26 + (bh s + i) := by
  rcases (show s = 0 ∨ s = 1 ∨ s = 2 ∨ s = 3 by omega) with e | e | e | e <;> subst e <;> simp [bh, bs] <;> omega
theorem NX.cg {a4 : Nat → Int32} {l10 : Nat → Int64} {a11 a12 : Nat → Int32} {l90 : Nat → Int64} {b4 : Nat → Int32} {m10 : Nat → Int64} {b11 b12 : Nat → Int32} {m90 : Nat → Int64} (h : NX a4 l10 a11 a12 l90) (hC : ∀ s, s < 4 → (a4 (cp s)).toInt ≤ (cmx s : Int)) (h8 : (a4 8).toInt ≤ 26) (e4 : ∀ j, j ≤ 8 → b4 j = a4 j) (e10 : ∀ k, k < 26 → m10 k = l10 k) (e11 : ∀ k, k < 26 → b11 k = a11 k) (e12 : ∀ k, k < 26 → b12 k = a12 k) (e90 : ∀ k, k < 26 → m90 k = l90 k) : NX b4 m10 b11 b12 m90 := by
  obtain ⟨g, g1, g2, g3⟩ := h
  have ec : ∀ s, s < 4 → b4 (cp s) = a4 (cp s) := fun s hs => e4 _ (by have := cp_k hs; omega)
  have e8 : b4 8 = a4 8 := e4 8 (by decide)
  refine ⟨g, fun s hs i hi => ?_, fun k hk => ?_, fun s s' i i' hs hs' hi hi' q => ?_⟩
  · rw [ec s hs] at hi
    have hc := hC s hs
    obtain ⟨x1, x2, k, x3, x4⟩ := g1 s hs i hi
    exact ⟨x1, by rw [e90 _ (bh_26 hs (by omega))]; exact x2, k, by rw [e8]; exact x3, by rw [e10 k (by omega)]; exact x4⟩
  · rw [e8] at hk
    obtain ⟨s, i, x1, x2, x3, x4, x5⟩ := g2 k hk
    exact ⟨s, i, x1, by rw [ec s x1]; exact x2, by rw [e11 k (by omega)]; exact x3, by rw [e12 k (by omega)]; exact x4, by rw [e10 k (by omega)]; exact x5⟩
  · rw [ec s hs] at hi
    rw [ec s' hs'] at hi'
    exact g3 s s' i i' hs hs' hi hi' q
def NY (a4 : Nat → Int32) (l10 : Nat → Int64) (a11 a12 : Nat → Int32) (l90 : Nat → Int64) : Prop := NX a4 l10 a11 a12 l90 ∧ (∀ s, s < 4 → (a4 (cp s)).toInt ≤ (cmx s : Int)) ∧ (a4 8).toInt ≤ 26
theorem NY.cg {a4 : Nat → Int32} {l10 : Nat → Int64} {a11 a12 : Nat → Int32} {l90 : Nat → Int64} {b4 : Nat → Int32} {m10 : Nat → Int64} {b11 b12 : Nat → Int32} {m90 : Nat → Int64} (h : NY a4 l10 a11 a12 l90) (e4 : ∀ j, j ≤ 8 → b4 j = a4 j) (e10 : ∀ k, k < 26 → m10 k = l10 k) (e11 : ∀ k, k < 26 → b11 k = a11 k) (e12 : ∀ k, k < 26 → b12 k = a12 k) (e90 : ∀ k, k < 26 → m90 k = l90 k) : NY b4 m10 b11 b12 m90 := by
  refine ⟨h.1.cg h.2.1 h.2.2 e4 e10 e11 e12 e90, fun s hs => ?_, ?_⟩
  · rw [e4 (cp s) (by have := cp_k hs; omega)]
    exact h.2.1 s hs
  · rw [e4 8 (by decide)]
    exact h.2.2
theorem Nm.nx {u w : ac_U} (h : Nm u w) : NX (u.1 13) (u.2 19) (u.1 20) (u.1 21) (fun k => w.2 90 (26 + k)) := by
  obtain ⟨g, g1, g2, g3⟩ := h
  refine ⟨g, fun s hs i hi => ?_, g2, g3⟩
  obtain ⟨x1, x2, x3⟩ := g1 s hs i hi
  refine ⟨x1, ?_, x3⟩
  show w.2 90 (26 + (bh s + i)) = _
  rw [← bs_bh hs i]
  exact x2
theorem cn_4_13 (x : ac_U) : (∀ j, j ≤ 8 → (f_X2_copyFrom_4_13 x).1 4 j = x.1 13 j) ∧ (∀ k, k < 26 → (f_X2_copyFrom_4_13 x).2 10 k = x.2 19 k) ∧ (∀ k, k < 26 → (f_X2_copyFrom_4_13 x).1 11 k = x.1 20 k) ∧ (∀ k, k < 26 → (f_X2_copyFrom_4_13 x).1 12 k = x.1 21 k) := by
  obtain ⟨Y, hY⟩ : ∃ Y, Y = pI (pI (pI (pI (pI (pI (pI (pI (pI x 4 0 (x.1 13 0)) 4 1 (x.1 13 1)) 4 2 (x.1 13 2)) 4 3 (x.1 13 3)) 4 4 (x.1 13 4)) 4 5 (x.1 13 5)) 4 6 (x.1 13 6)) 4 7 (x.1 13 7)) 4 8 (x.1 13 8) := ⟨_, rfl⟩
  have e : f_X2_copyFrom_4_13 x = cpI (cpI (cpL (cpI (cpI (cpI (cpI (cpI Y 14 5 0 0 8) 15 6 0 0 6) 16 7 0 0 4) 17 8 0 0 64) 18 9 0 0 8) 19 10 0 0 26) 20 11 0 0 26) 21 12 0 0 26 := by
    rw [hY]
    unfold f_X2_copyFrom_4_13
    rw [N0, N8, N6, N4, N64, N26]
  have y : ∀ c, c ≠ 4 → Y.1 c = x.1 c := fun c hc => by
    rw [hY]
    funext k
    rw [pI_c hc, pI_c hc, pI_c hc, pI_c hc, pI_c hc, pI_c hc, pI_c hc, pI_c hc, pI_c hc]
  rw [e]
  refine ⟨fun j hj => ?_, fun k hk => ?_, fun k hk => ?_, fun k hk => ?_⟩
  · rw [cp_o (by decide), cp_o (by decide)]
    show (cpI (cpI (cpI (cpI (cpI Y 14 5 0 0 8) 15 6 0 0 6) 16 7 0 0 4) 17 8 0 0 64) 18 9 0 0 8).1 4 j = _
    rw [cp_o (by decide), cp_o (by decide), cp_o (by decide), cp_o (by decide), cp_o (by decide), hY]
    rcases (show j = 0 ∨ j = 1 ∨ j = 2 ∨ j = 3 ∨ j = 4 ∨ j = 5 ∨ j = 6 ∨ j = 7 ∨ j = 8 by omega) with q | q | q | q | q | q | q | q | q <;> subst q
    · rw [pI_k (by decide), pI_k (by decide), pI_k (by decide), pI_k (by decide), pI_k (by decide), pI_k (by decide), pI_k (by decide), pI_k (by decide), pI_s]
    · rw [pI_k (by decide), pI_k (by decide), pI_k (by decide), pI_k (by decide), pI_k (by decide), pI_k (by decide), pI_k (by decide), pI_s]
    · rw [pI_k (by decide), pI_k (by decide), pI_k (by decide), pI_k (by decide), pI_k (by decide), pI_k (by decide), pI_s]
    · rw [pI_k (by decide), pI_k (by decide), pI_k (by decide), pI_k (by decide), pI_k (by decide), pI_s]
    · rw [pI_k (by decide), pI_k (by decide), pI_k (by decide), pI_k (by decide), pI_s]
    · rw [pI_k (by decide), pI_k (by decide), pI_k (by decide), pI_s]
    · rw [pI_k (by decide), pI_k (by decide), pI_s]
    · rw [pI_k (by decide), pI_s]
    · rw [pI_s]
  · show (cpL (cpI (cpI (cpI (cpI (cpI Y 14 5 0 0 8) 15 6 0 0 6) 16 7 0 0 4) 17 8 0 0 64) 18 9 0 0 8) 19 10 0 0 26).2 10 k = _
    rw [cpL_s hk]
    show Y.2 19 k = _
    rw [hY]
    rfl
  · rw [cp_o (by decide), cp_s hk]
    show (cpI (cpI (cpI (cpI (cpI Y 14 5 0 0 8) 15 6 0 0 6) 16 7 0 0 4) 17 8 0 0 64) 18 9 0 0 8).1 20 k = _
    rw [cp_o (by decide), cp_o (by decide), cp_o (by decide), cp_o (by decide), cp_o (by decide), y 20 (by decide)]
  · rw [cp_s hk, cp_o (by decide)]
    show (cpI (cpI (cpI (cpI (cpI Y 14 5 0 0 8) 15 6 0 0 6) 16 7 0 0 4) 17 8 0 0 64) 18 9 0 0 8).1 21 k = _
    rw [cp_o (by decide), cp_o (by decide), cp_o (by decide), cp_o (by decide), cp_o (by decide), y 21 (by decide)]
theorem cn_55_4 (x : ac_U) : (∀ j, j ≤ 8 → (f_X2_copyFrom_55_4 x).1 55 j = x.1 4 j) ∧ (∀ k, k < 26 → (f_X2_copyFrom_55_4 x).2 61 k = x.2 10 k) ∧ (∀ k, k < 26 → (f_X2_copyFrom_55_4 x).1 62 k = x.1 11 k) ∧ (∀ k, k < 26 → (f_X2_copyFrom_55_4 x).1 63 k = x.1 12 k) := by
  obtain ⟨Y, hY⟩ : ∃ Y, Y = pI (pI (pI (pI (pI (pI (pI (pI (pI x 55 0 (x.1 4 0)) 55 1 (x.1 4 1)) 55 2 (x.1 4 2)) 55 3 (x.1 4 3)) 55 4 (x.1 4 4)) 55 5 (x.1 4 5)) 55 6 (x.1 4 6)) 55 7 (x.1 4 7)) 55 8 (x.1 4 8) := ⟨_, rfl⟩
  have e : f_X2_copyFrom_55_4 x = cpI (cpI (cpL (cpI (cpI (cpI (cpI (cpI Y 5 56 0 0 8) 6 57 0 0 6) 7 58 0 0 4) 8 59 0 0 64) 9 60 0 0 8) 10 61 0 0 26) 11 62 0 0 26) 12 63 0 0 26 := by
    rw [hY]
    unfold f_X2_copyFrom_55_4
    rw [N0, N8, N6, N4, N64, N26]
  have y : ∀ c, c ≠ 55 → Y.1 c = x.1 c := fun c hc => by
    rw [hY]
    funext k
    rw [pI_c hc, pI_c hc, pI_c hc, pI_c hc, pI_c hc, pI_c hc, pI_c hc, pI_c hc, pI_c hc]
  rw [e]
  refine ⟨fun j hj => ?_, fun k hk => ?_, fun k hk => ?_, fun k hk => ?_⟩
  · rw [cp_o (by decide), cp_o (by decide)]
    show (cpI (cpI (cpI (cpI (cpI Y 5 56 0 0 8) 6 57 0 0 6) 7 58 0 0 4) 8 59 0 0 64) 9 60 0 0 8).1 55 j = _
    rw [cp_o (by decide), cp_o (by decide), cp_o (by decide), cp_o (by decide), cp_o (by decide), hY]
    rcases (show j = 0 ∨ j = 1 ∨ j = 2 ∨ j = 3 ∨ j = 4 ∨ j = 5 ∨ j = 6 ∨ j = 7 ∨ j = 8 by omega) with q | q | q | q | q | q | q | q | q <;> subst q
    · rw [pI_k (by decide), pI_k (by decide), pI_k (by decide), pI_k (by decide), pI_k (by decide), pI_k (by decide), pI_k (by decide), pI_k (by decide), pI_s]
    · rw [pI_k (by decide), pI_k (by decide), pI_k (by decide), pI_k (by decide), pI_k (by decide), pI_k (by decide), pI_k (by decide), pI_s]
    · rw [pI_k (by decide), pI_k (by decide), pI_k (by decide), pI_k (by decide), pI_k (by decide), pI_k (by decide), pI_s]
    · rw [pI_k (by decide), pI_k (by decide), pI_k (by decide), pI_k (by decide), pI_k (by decide), pI_s]
    · rw [pI_k (by decide), pI_k (by decide), pI_k (by decide), pI_k (by decide), pI_s]
    · rw [pI_k (by decide), pI_k (by decide), pI_k (by decide), pI_s]
    · rw [pI_k (by decide), pI_k (by decide), pI_s]
    · rw [pI_k (by decide), pI_s]
    · rw [pI_s]
  · show (cpL (cpI (cpI (cpI (cpI (cpI Y 5 56 0 0 8) 6 57 0 0 6) 7 58 0 0 4) 8 59 0 0 64) 9 60 0 0 8) 10 61 0 0 26).2 61 k = _
    rw [cpL_s hk]
    show Y.2 10 k = _
    rw [hY]
    rfl
  · rw [cp_o (by decide), cp_s hk]
    show (cpI (cpI (cpI (cpI (cpI Y 5 56 0 0 8) 6 57 0 0 6) 7 58 0 0 4) 8 59 0 0 64) 9 60 0 0 8).1 11 k = _
    rw [cp_o (by decide), cp_o (by decide), cp_o (by decide), cp_o (by decide), cp_o (by decide), y 11 (by decide)]
  · rw [cp_s hk, cp_o (by decide)]
    show (cpI (cpI (cpI (cpI (cpI Y 5 56 0 0 8) 6 57 0 0 6) 7 58 0 0 4) 8 59 0 0 64) 9 60 0 0 8).1 12 k = _
    rw [cp_o (by decide), cp_o (by decide), cp_o (by decide), cp_o (by decide), cp_o (by decide), y 12 (by decide)]
theorem cn_64_4 (x : ac_U) : (∀ j, j ≤ 8 → (f_X2_copyFrom_64_4 x).1 64 j = x.1 4 j) ∧ (∀ k, k < 26 → (f_X2_copyFrom_64_4 x).2 70 k = x.2 10 k) ∧ (∀ k, k < 26 → (f_X2_copyFrom_64_4 x).1 71 k = x.1 11 k) ∧ (∀ k, k < 26 → (f_X2_copyFrom_64_4 x).1 72 k = x.1 12 k) := by
  obtain ⟨Y, hY⟩ : ∃ Y, Y = pI (pI (pI (pI (pI (pI (pI (pI (pI x 64 0 (x.1 4 0)) 64 1 (x.1 4 1)) 64 2 (x.1 4 2)) 64 3 (x.1 4 3)) 64 4 (x.1 4 4)) 64 5 (x.1 4 5)) 64 6 (x.1 4 6)) 64 7 (x.1 4 7)) 64 8 (x.1 4 8) := ⟨_, rfl⟩
  have e : f_X2_copyFrom_64_4 x = cpI (cpI (cpL (cpI (cpI (cpI (cpI (cpI Y 5 65 0 0 8) 6 66 0 0 6) 7 67 0 0 4) 8 68 0 0 64) 9 69 0 0 8) 10 70 0 0 26) 11 71 0 0 26) 12 72 0 0 26 := by
    rw [hY]
    unfold f_X2_copyFrom_64_4
    rw [N0, N8, N6, N4, N64, N26]
  have y : ∀ c, c ≠ 64 → Y.1 c = x.1 c := fun c hc => by
    rw [hY]
    funext k
    rw [pI_c hc, pI_c hc, pI_c hc, pI_c hc, pI_c hc, pI_c hc, pI_c hc, pI_c hc, pI_c hc]
  rw [e]
  refine ⟨fun j hj => ?_, fun k hk => ?_, fun k hk => ?_, fun k hk => ?_⟩
  · rw [cp_o (by decide), cp_o (by decide)]
    show (cpI (cpI (cpI (cpI (cpI Y 5 65 0 0 8) 6 66 0 0 6) 7 67 0 0 4) 8 68 0 0 64) 9 69 0 0 8).1 64 j = _
    rw [cp_o (by decide), cp_o (by decide), cp_o (by decide), cp_o (by decide), cp_o (by decide), hY]
    rcases (show j = 0 ∨ j = 1 ∨ j = 2 ∨ j = 3 ∨ j = 4 ∨ j = 5 ∨ j = 6 ∨ j = 7 ∨ j = 8 by omega) with q | q | q | q | q | q | q | q | q <;> subst q
    · rw [pI_k (by decide), pI_k (by decide), pI_k (by decide), pI_k (by decide), pI_k (by decide), pI_k (by decide), pI_k (by decide), pI_k (by decide), pI_s]
    · rw [pI_k (by decide), pI_k (by decide), pI_k (by decide), pI_k (by decide), pI_k (by decide), pI_k (by decide), pI_k (by decide), pI_s]
    · rw [pI_k (by decide), pI_k (by decide), pI_k (by decide), pI_k (by decide), pI_k (by decide), pI_k (by decide), pI_s]
    · rw [pI_k (by decide), pI_k (by decide), pI_k (by decide), pI_k (by decide), pI_k (by decide), pI_s]
    · rw [pI_k (by decide), pI_k (by decide), pI_k (by decide), pI_k (by decide), pI_s]
    · rw [pI_k (by decide), pI_k (by decide), pI_k (by decide), pI_s]
    · rw [pI_k (by decide), pI_k (by decide), pI_s]
    · rw [pI_k (by decide), pI_s]
    · rw [pI_s]
  · show (cpL (cpI (cpI (cpI (cpI (cpI Y 5 65 0 0 8) 6 66 0 0 6) 7 67 0 0 4) 8 68 0 0 64) 9 69 0 0 8) 10 70 0 0 26).2 70 k = _
    rw [cpL_s hk]
    show Y.2 10 k = _
    rw [hY]
    rfl
  · rw [cp_o (by decide), cp_s hk]
    show (cpI (cpI (cpI (cpI (cpI Y 5 65 0 0 8) 6 66 0 0 6) 7 67 0 0 4) 8 68 0 0 64) 9 69 0 0 8).1 11 k = _
    rw [cp_o (by decide), cp_o (by decide), cp_o (by decide), cp_o (by decide), cp_o (by decide), y 11 (by decide)]
  · rw [cp_s hk, cp_o (by decide)]
    show (cpI (cpI (cpI (cpI (cpI Y 5 65 0 0 8) 6 66 0 0 6) 7 67 0 0 4) 8 68 0 0 64) 9 69 0 0 8).1 12 k = _
    rw [cp_o (by decide), cp_o (by decide), cp_o (by decide), cp_o (by decide), cp_o (by decide), y 12 (by decide)]
theorem cn_4_55 (x : ac_U) : (∀ j, j ≤ 8 → (f_X2_copyFrom_4_55 x).1 4 j = x.1 55 j) ∧ (∀ k, k < 26 → (f_X2_copyFrom_4_55 x).2 10 k = x.2 61 k) ∧ (∀ k, k < 26 → (f_X2_copyFrom_4_55 x).1 11 k = x.1 62 k) ∧ (∀ k, k < 26 → (f_X2_copyFrom_4_55 x).1 12 k = x.1 63 k) := by
  obtain ⟨Y, hY⟩ : ∃ Y, Y = pI (pI (pI (pI (pI (pI (pI (pI (pI x 4 0 (x.1 55 0)) 4 1 (x.1 55 1)) 4 2 (x.1 55 2)) 4 3 (x.1 55 3)) 4 4 (x.1 55 4)) 4 5 (x.1 55 5)) 4 6 (x.1 55 6)) 4 7 (x.1 55 7)) 4 8 (x.1 55 8) := ⟨_, rfl⟩
  have e : f_X2_copyFrom_4_55 x = cpI (cpI (cpL (cpI (cpI (cpI (cpI (cpI Y 56 5 0 0 8) 57 6 0 0 6) 58 7 0 0 4) 59 8 0 0 64) 60 9 0 0 8) 61 10 0 0 26) 62 11 0 0 26) 63 12 0 0 26 := by
    rw [hY]
    unfold f_X2_copyFrom_4_55
    rw [N0, N8, N6, N4, N64, N26]
  have y : ∀ c, c ≠ 4 → Y.1 c = x.1 c := fun c hc => by
    rw [hY]
    funext k
    rw [pI_c hc, pI_c hc, pI_c hc, pI_c hc, pI_c hc, pI_c hc, pI_c hc, pI_c hc, pI_c hc]
  rw [e]
  refine ⟨fun j hj => ?_, fun k hk => ?_, fun k hk => ?_, fun k hk => ?_⟩
  · rw [cp_o (by decide), cp_o (by decide)]
    show (cpI (cpI (cpI (cpI (cpI Y 56 5 0 0 8) 57 6 0 0 6) 58 7 0 0 4) 59 8 0 0 64) 60 9 0 0 8).1 4 j = _
    rw [cp_o (by decide), cp_o (by decide), cp_o (by decide), cp_o (by decide), cp_o (by decide), hY]
    rcases (show j = 0 ∨ j = 1 ∨ j = 2 ∨ j = 3 ∨ j = 4 ∨ j = 5 ∨ j = 6 ∨ j = 7 ∨ j = 8 by omega) with q | q | q | q | q | q | q | q | q <;> subst q
    · rw [pI_k (by decide), pI_k (by decide), pI_k (by decide), pI_k (by decide), pI_k (by decide), pI_k (by decide), pI_k (by decide), pI_k (by decide), pI_s]
    · rw [pI_k (by decide), pI_k (by decide), pI_k (by decide), pI_k (by decide), pI_k (by decide), pI_k (by decide), pI_k (by decide), pI_s]
    · rw [pI_k (by decide), pI_k (by decide), pI_k (by decide), pI_k (by decide), pI_k (by decide), pI_k (by decide), pI_s]
    · rw [pI_k (by decide), pI_k (by decide), pI_k (by decide), pI_k (by decide), pI_k (by decide), pI_s]
    · rw [pI_k (by decide), pI_k (by decide), pI_k (by decide), pI_k (by decide), pI_s]
    · rw [pI_k (by decide), pI_k (by decide), pI_k (by decide), pI_s]
    · rw [pI_k (by decide), pI_k (by decide), pI_s]
    · rw [pI_k (by decide), pI_s]
    · rw [pI_s]
  · show (cpL (cpI (cpI (cpI (cpI (cpI Y 56 5 0 0 8) 57 6 0 0 6) 58 7 0 0 4) 59 8 0 0 64) 60 9 0 0 8) 61 10 0 0 26).2 10 k = _
    rw [cpL_s hk]
    show Y.2 61 k = _
    rw [hY]
    rfl
  · rw [cp_o (by decide), cp_s hk]
    show (cpI (cpI (cpI (cpI (cpI Y 56 5 0 0 8) 57 6 0 0 6) 58 7 0 0 4) 59 8 0 0 64) 60 9 0 0 8).1 62 k = _
    rw [cp_o (by decide), cp_o (by decide), cp_o (by decide), cp_o (by decide), cp_o (by decide), y 62 (by decide)]
  · rw [cp_s hk, cp_o (by decide)]
    show (cpI (cpI (cpI (cpI (cpI Y 56 5 0 0 8) 57 6 0 0 6) 58 7 0 0 4) 59 8 0 0 64) 60 9 0 0 8).1 63 k = _
    rw [cp_o (by decide), cp_o (by decide), cp_o (by decide), cp_o (by decide), cp_o (by decide), y 63 (by decide)]
theorem cn_4_64 (x : ac_U) : (∀ j, j ≤ 8 → (f_X2_copyFrom_4_64 x).1 4 j = x.1 64 j) ∧ (∀ k, k < 26 → (f_X2_copyFrom_4_64 x).2 10 k = x.2 70 k) ∧ (∀ k, k < 26 → (f_X2_copyFrom_4_64 x).1 11 k = x.1 71 k) ∧ (∀ k, k < 26 → (f_X2_copyFrom_4_64 x).1 12 k = x.1 72 k) := by
  obtain ⟨Y, hY⟩ : ∃ Y, Y = pI (pI (pI (pI (pI (pI (pI (pI (pI x 4 0 (x.1 64 0)) 4 1 (x.1 64 1)) 4 2 (x.1 64 2)) 4 3 (x.1 64 3)) 4 4 (x.1 64 4)) 4 5 (x.1 64 5)) 4 6 (x.1 64 6)) 4 7 (x.1 64 7)) 4 8 (x.1 64 8) := ⟨_, rfl⟩
  have e : f_X2_copyFrom_4_64 x = cpI (cpI (cpL (cpI (cpI (cpI (cpI (cpI Y 65 5 0 0 8) 66 6 0 0 6) 67 7 0 0 4) 68 8 0 0 64) 69 9 0 0 8) 70 10 0 0 26) 71 11 0 0 26) 72 12 0 0 26 := by
    rw [hY]
    unfold f_X2_copyFrom_4_64
    rw [N0, N8, N6, N4, N64, N26]
  have y : ∀ c, c ≠ 4 → Y.1 c = x.1 c := fun c hc => by
    rw [hY]
    funext k
    rw [pI_c hc, pI_c hc, pI_c hc, pI_c hc, pI_c hc, pI_c hc, pI_c hc, pI_c hc, pI_c hc]
  rw [e]
  refine ⟨fun j hj => ?_, fun k hk => ?_, fun k hk => ?_, fun k hk => ?_⟩
  · rw [cp_o (by decide), cp_o (by decide)]
    show (cpI (cpI (cpI (cpI (cpI Y 65 5 0 0 8) 66 6 0 0 6) 67 7 0 0 4) 68 8 0 0 64) 69 9 0 0 8).1 4 j = _
    rw [cp_o (by decide), cp_o (by decide), cp_o (by decide), cp_o (by decide), cp_o (by decide), hY]
    rcases (show j = 0 ∨ j = 1 ∨ j = 2 ∨ j = 3 ∨ j = 4 ∨ j = 5 ∨ j = 6 ∨ j = 7 ∨ j = 8 by omega) with q | q | q | q | q | q | q | q | q <;> subst q
    · rw [pI_k (by decide), pI_k (by decide), pI_k (by decide), pI_k (by decide), pI_k (by decide), pI_k (by decide), pI_k (by decide), pI_k (by decide), pI_s]
    · rw [pI_k (by decide), pI_k (by decide), pI_k (by decide), pI_k (by decide), pI_k (by decide), pI_k (by decide), pI_k (by decide), pI_s]
    · rw [pI_k (by decide), pI_k (by decide), pI_k (by decide), pI_k (by decide), pI_k (by decide), pI_k (by decide), pI_s]
    · rw [pI_k (by decide), pI_k (by decide), pI_k (by decide), pI_k (by decide), pI_k (by decide), pI_s]
    · rw [pI_k (by decide), pI_k (by decide), pI_k (by decide), pI_k (by decide), pI_s]
    · rw [pI_k (by decide), pI_k (by decide), pI_k (by decide), pI_s]
    · rw [pI_k (by decide), pI_k (by decide), pI_s]
    · rw [pI_k (by decide), pI_s]
    · rw [pI_s]
  · show (cpL (cpI (cpI (cpI (cpI (cpI Y 65 5 0 0 8) 66 6 0 0 6) 67 7 0 0 4) 68 8 0 0 64) 69 9 0 0 8) 70 10 0 0 26).2 10 k = _
    rw [cpL_s hk]
    show Y.2 70 k = _
    rw [hY]
    rfl
  · rw [cp_o (by decide), cp_s hk]
    show (cpI (cpI (cpI (cpI (cpI Y 65 5 0 0 8) 66 6 0 0 6) 67 7 0 0 4) 68 8 0 0 64) 69 9 0 0 8).1 71 k = _
    rw [cp_o (by decide), cp_o (by decide), cp_o (by decide), cp_o (by decide), cp_o (by decide), y 71 (by decide)]
  · rw [cp_s hk, cp_o (by decide)]
    show (cpI (cpI (cpI (cpI (cpI Y 65 5 0 0 8) 66 6 0 0 6) 67 7 0 0 4) 68 8 0 0 64) 69 9 0 0 8).1 72 k = _
    rw [cp_o (by decide), cp_o (by decide), cp_o (by decide), cp_o (by decide), cp_o (by decide), y 72 (by decide)]
theorem names_L (w0 : ac_U) : ∀ (m fuel : Nat) (u : ac_U) (x : Int32), x.toInt = 26 - (m : Int) → m ≤ 26 → m < fuel → ∃ v, K_X12_house_85_142 w0 fuel u x = K_X12_house_85_171 w0 6 v (0 : Int32) ∧ (∀ k, 26 - m ≤ k → k < 26 → v.2 90 k = u.2 90 (26 + k)) ∧ (∀ k, k < 26 - m → v.2 90 k = u.2 90 k) := by
  intro m
  induction m with
  | zero =>
    intro fuel u x hx _ hf
    obtain ⟨f, rfl⟩ : ∃ f, fuel = f + 1 := ⟨fuel - 1, by omega⟩
    refine ⟨u, ?_, fun k h1 h2 => by omega, fun _ _ => rfl⟩
    show K_X12_house_85_142_b (K_X12_house_85_142 w0 f) w0 u x = _
    unfold K_X12_house_85_142_b
    rw [if_pos (by omega)]
  | succ m ih =>
    intro fuel u x hx hm hf
    obtain ⟨f, rfl⟩ : ∃ f, fuel = f + 1 := ⟨fuel - 1, by omega⟩
    have hx1 : (x + Int32.ofInt 1).toInt = 26 - (m : Int) := by
      rw [i_add rfl (by decide : (Int32.ofInt 1).toInt = 1) (by omega)]
      omega
    have hk := i_cl (x := x) (by omega)
    have ho : (26 + x).toNatClampNeg = 26 + x.toNatClampNeg := off_n (by decide) (by omega) (by decide)
    obtain ⟨v, v1, v2, v3⟩ := ih f (pL u 90 x.toNatClampNeg (u.2 90 (26 + x).toNatClampNeg)) (x + Int32.ofInt 1) hx1 (by omega) (by omega)
    refine ⟨v, ?_, fun k h1 h2 => ?_, fun k h1 => ?_⟩
    · rw [← v1]
      show K_X12_house_85_142_b (K_X12_house_85_142 w0 f) w0 u x = _
      unfold K_X12_house_85_142_b
      rw [if_neg (by omega)]
    · by_cases q : k = x.toNatClampNeg
      · rw [v3 k (by omega), q, pL_s, ho]
      · rw [v2 k (by omega) h2, pL_k (by omega)]
    · rw [v3 k (by omega), pL_k (by omega)]
theorem at_L (w0 : ac_U) : ∀ (m fuel : Nat) (u : ac_U) (x : Int32), x.toInt = 4 - (m : Int) → m ≤ 4 → m < fuel → ∃ v, K_X12_house_85_171 w0 fuel u x = (v, u.1 85 19) ∧ v.2 = u.2 := by
  intro m
  induction m with
  | zero =>
    intro fuel u x hx _ hf
    obtain ⟨f, rfl⟩ : ∃ f, fuel = f + 1 := ⟨fuel - 1, by omega⟩
    refine ⟨pI u 85 24 (0 : Int32), ?_, rfl⟩
    show K_X12_house_85_171_b (K_X12_house_85_171 w0 f) w0 u x = _
    unfold K_X12_house_85_171_b
    rw [if_pos (by omega)]
  | succ m ih =>
    intro fuel u x hx hm hf
    obtain ⟨f, rfl⟩ : ∃ f, fuel = f + 1 := ⟨fuel - 1, by omega⟩
    have hx1 : (x + Int32.ofInt 1).toInt = 4 - (m : Int) := by
      rw [i_add rfl (by decide : (Int32.ofInt 1).toInt = 1) (by omega)]
      omega
    obtain ⟨v, v1, v2⟩ := ih f (pI u 87 (107 + x).toNatClampNeg (u.1 87 (22 + x).toNatClampNeg)) (x + Int32.ofInt 1) hx1 (by omega) (by omega)
    refine ⟨v, ?_, v2⟩
    have e : K_X12_house_85_171 w0 (f + 1) u x = K_X12_house_85_171 w0 f (pI u 87 (107 + x).toNatClampNeg (u.1 87 (22 + x).toNatClampNeg)) (x + Int32.ofInt 1) := by
      show K_X12_house_85_171_b (K_X12_house_85_171 w0 f) w0 u x = _
      unfold K_X12_house_85_171_b
      rw [if_neg (by omega)]
    rw [e, v1, pI_c (by decide)]
theorem lineS_9 {u w : ac_U} (h : S0 u w) : ac_F9 w (lineS w).1 := by
  have d1 := h.1.2.2.2.2.1
  obtain ⟨c1, c2, c3, c4, c5, c6, c7, c8⟩ := h.1.2.2.2.2.2.1
  have hh : ∀ j, j = 1 ∨ j = 4 ∨ j = 5 ∨ j = 6 → 0 ≤ (w.1 88 j).toInt ∧ (w.1 88 j).toInt ≤ 8 := fun j hj => by
    rcases hj with e | e | e | e <;> subst e
    · rw [← d1 1 (by decide)]; omega
    · rw [← d1 4 (by decide)]; omega
    · rw [← d1 5 (by decide)]; omega
    · rw [← d1 6 (by decide)]; omega
  have h1 := q9_X12_line_85 w hh
  unfold lineS
  split
  · exact h1
  · exact h1.tr (ql_X12_sign_85 (f_X12_line_85 w).1 (59 : Int32)) rfl
theorem k83 (w0 x : ac_U) : (K_X12_house_85_83 w0 x).1 = x := rfl
theorem loop_9 (u0 w0 : ac_U) : ∀ (n N : Nat) (u w : ac_U), S0 u w → u.1 22 3 = w.1 85 19 → (u.1 22 3).toInt = tol u → 53 - tol u < (n : Int) → n + 1 ≤ N → (K_X3_readWhole_22_29 u0 N u (1 : Int32)).2 = 0 → ac_F9 w (K_X12_house_85_60 w0 n w).1 := by
  intro n
  induction n with
  | zero =>
    intro N u w h _ _ h4
    have := tol_le h.1
    exfalso
    omega
  | succ n ih =>
    intro N u w h h2 h3 h4 h5
    have ht := tol_le h.1
    obtain ⟨M, rfl⟩ : ∃ M, N = M + 1 := ⟨N - 1, by omega⟩
    by_cases q : (u.1 1 6).toInt = 0
    · rw [clE (Or.inr q)]
      exact fun y => absurd (show (1 : Int32) = 0 from y) (by decide)
    · rw [clK (by omega) q, rfK (fun z => q ((Tk.end_ h.2.2).mpr z))]
      have hl := line_sim h
      have h9 := lineS_9 h
      generalize lineC u = a at hl ⊢
      generalize lineS w = b at hl h9 ⊢
      rcases hl with ⟨l1, l2, l3, l4, l5, l6⟩ | ⟨l1, l2, l3⟩
      · rw [l1, l2, if_pos n1]
        obtain ⟨r1, r2⟩ := l3.read
        have hS : S0 (pI (f_X10_readNext_1 a.1) 22 3 (a.1.1 22 3 + 1)) (pI b.1 85 19 (b.1.1 85 19 + 1)) := by
          obtain ⟨m1, m2, m3⟩ := r1
          refine ⟨⟨⟨?_, ?_, m1.1.2.2⟩, m1.2.1, m1.2.2.1, m1.2.2.2.1, ?_⟩, ?_, ?_⟩
          · rw [pI_k (show 3 ≠ 19 by decide)]; exact m1.1.1
          · rw [pI_k (show 5 ≠ 19 by decide)]; exact m1.1.2.1
          · refine m1.2.2.2.2.to rfl rfl rfl rfl rfl rfl (pI_k (by decide)) rfl rfl (pI_k (by decide)) rfl
          · unfold At; rw [pI_c (show 1 ≠ 22 by decide), pI_k (show 4 ≠ 19 by decide)]; exact m2
          · have e4 : (pI b.1 85 19 (b.1.1 85 19 + 1)).1 85 12 = b.1.1 85 12 := pI_k (by decide)
            have e5 : (pI b.1 85 19 (b.1.1 85 19 + 1)).1 85 11 = b.1.1 85 11 := pI_k (by decide)
            have e6 : (pI b.1 85 19 (b.1.1 85 19 + 1)).1 85 14 = b.1.1 85 14 := pI_k (by decide)
            unfold Tk
            rw [e4, e5, e6]
            exact m3
        have g13 : ∀ k, (pI (f_X10_readNext_1 a.1) 22 3 (a.1.1 22 3 + 1)).1 13 k = a.1.1 13 k := fun k => (pI_c (by decide)).trans (r2.1 13 k (by omega))
        have g22 : (pI (f_X10_readNext_1 a.1) 22 3 (a.1.1 22 3 + 1)).1 22 4 = a.1.1 22 4 := (pI_k (by decide)).trans (r2.1 22 4 (by omega))
        have ht2 : tol (pI (f_X10_readNext_1 a.1) 22 3 (a.1.1 22 3 + 1)) = tol u + 1 := by
          rw [← l6]
          unfold tol
          rw [g13 1, g13 2, g13 3, g13 4, g13 5, g13 6, g13 7, g22]
        intro hz
        have hi := ih M _ _ hS (by rw [pI_s, pI_s, l4, l5, h2]) (by rw [pI_s, ht2, l4, inc_i (by omega), h3]) (by omega) (by omega) hz
        exact h9.tr9 hi rfl
      · rw [l1, l2, if_neg n0]
        rw [k83]
        exact fun _ => h9
set_option maxHeartbeats 4000000 in
theorem house_nm {u w : ac_U} (hb : ∀ k, u.1 2 k = w.1 86 k) (hl : u.1 1 2 = w.1 85 2) (hr : InR u) (hA : TdA u) (hB : RsB w) (hN : NX (u.1 4) (u.2 10) (u.1 11) (u.1 12) (w.2 90)) (hC : ∀ s, s < 4 → (u.1 4 (cp s)).toInt ≤ (cmx s : Int)) (h8 : (u.1 4 8).toInt ≤ 26) : NX ((f_X11_house_0 u).1.1 4) ((f_X11_house_0 u).1.2 10) ((f_X11_house_0 u).1.1 11) ((f_X11_house_0 u).1.1 12) ((f_X12_house_85 w).1.2 90) := by
  obtain ⟨v, v1, v2, -, v4, v5⟩ := zero_sp w 106 108 (wA w) (0 : Int32) (by decide) (by decide) (by decide)
  have v2 : ∀ k : Nat, k < 106 → v.1 88 k = 0 := fun k hk => v2 k (by omega) hk
  obtain ⟨s0, s1, s2⟩ := begin_sim hb hl hr hA hB v2 v4 v5
  have hrf : f_X12_house_85 w = K_X12_house_85_60 w 56 (f_X12_next_85 (pI v 88 0 (24 : Int32))) := (hs_eq w).trans v1
  have hz : ∀ j, 1 ≤ j → j ≤ 8 → (f_X10_readNext_1 (uA u)).1 13 j = 0 := fun j h1 h2 => by
    rw [s2.1 13 j (by omega)]; exact (clear_sp u).2.1 j h1 h2
  have hz22 : (f_X10_readNext_1 (uA u)).1 22 4 = 0 := (s2.1 22 4 (by omega)).trans rfl
  have g13 : ∀ k, (pI (f_X10_readNext_1 (uA u)) 22 3 (0 : Int32)).1 13 k = (f_X10_readNext_1 (uA u)).1 13 k := fun k => pI_c (by decide)
  have g22 : (pI (f_X10_readNext_1 (uA u)) 22 3 (0 : Int32)).1 22 4 = (f_X10_readNext_1 (uA u)).1 22 4 := pI_k (by decide)
  have htol : tol (pI (f_X10_readNext_1 (uA u)) 22 3 (0 : Int32)) = 0 := by
    unfold tol
    rw [g13 1, g13 2, g13 3, g13 4, g13 5, g13 6, g13 7, g22, hz 1 (by decide) (by decide), hz 2 (by decide) (by decide), hz 3 (by decide) (by decide), hz 4 (by decide) (by decide), hz 5 (by decide) (by decide), hz 6 (by decide) (by decide), hz 7 (by decide) (by decide), hz22, t0i]
    omega
  have hl3 : (pI (f_X10_readNext_1 (uA u)) 22 3 (0 : Int32)).1 22 3 = (f_X12_next_85 (pI v 88 0 (24 : Int32))).1 85 19 := by
    rw [pI_s, s1.1 85 19 (by omega), pI_c (by decide), v4 85 19 (by decide)]; rfl
  have hlp := loop_sim u w 56 943 (pI (f_X10_readNext_1 (uA u)) 22 3 (0 : Int32)) _ s0.l22 hl3 (by rw [htol, pI_s, t0i]) (by rw [htol]; decide) (by decide)
  have hl9 := loop_9 u w 56 943 (pI (f_X10_readNext_1 (uA u)) 22 3 (0 : Int32)) _ s0.l22 hl3 (by rw [htol, pI_s, t0i]) (by rw [htol]; decide) (by decide)
  rw [← rw_eq, ← hrf] at hlp hl9
  have hn9 : ∀ k, (f_X12_next_85 (pI v 88 0 (24 : Int32))).2 90 k = w.2 90 k := fun k => by
    rw [s1.2 90 k (by omega)]
    show v.2 90 k = _
    rw [v5]
    rfl
  have hfr := q_X3_readWhole_22 u
  have hfl := ql_X3_readWhole_22 u
  have hcl : f_X11_house_0 u = if (f_X3_readWhole_22 u).2.toInt ≠ 0 then (f_X8_clear_43 (f_X6_begin_24 (f_X2_copyFrom_4_13 (pI (f_X3_readWhole_22 u).1 1 2 (0 : Int32)))), (f_X8_clear_43 (f_X6_begin_24 (f_X2_copyFrom_4_13 (pI (f_X3_readWhole_22 u).1 1 2 (0 : Int32))))).1 22 3) else (pI (f_X3_readWhole_22 u).1 1 2 (0 : Int32), (-1 : Int32) - (f_X3_readWhole_22 u).1.1 1 11) := rfl
  rw [hcl]
  generalize f_X3_readWhole_22 u = q at hlp hl9 hfr hfl ⊢
  generalize f_X12_house_85 w = r at hlp hl9 ⊢
  rcases hlp with ⟨p1, w', p2, p3, p4, p5⟩ | ⟨p1, w', p2, p3, p4, p5⟩
  · rw [p1, if_pos n1]
    obtain ⟨x, x1, -, -, -, x5⟩ := copy_sp w 657 659 w' (0 : Int32) (by decide) (by decide) (by decide)
    obtain ⟨y, y1, y2, -⟩ := names_L w 26 28 x (0 : Int32) (by decide) (by decide) (by decide)
    obtain ⟨z, z1, z2⟩ := at_L w 4 6 y (0 : Int32) (by decide) (by decide) (by decide)
    rw [p5, x1, y1, z1]
    have hd := p2.1.2.2.2.2
    have hcp := hd.2.1
    unfold Cp at hcp
    obtain ⟨k1, k2, k3, k4⟩ := cn_4_13 (pI q.1 1 2 (0 : Int32))
    have g : ∀ c k, c = 4 ∨ c = 11 ∨ c = 12 → (f_X8_clear_43 (f_X6_begin_24 (f_X2_copyFrom_4_13 (pI q.1 1 2 (0 : Int32))))).1 c k = (f_X2_copyFrom_4_13 (pI q.1 1 2 (0 : Int32))).1 c k := fun c k hc => by
      rcases hc with e | e | e <;> subst e
      · exact (q_X8_clear_43 _ 4 k rfl).trans (q_X6_begin_24 _ 4 k rfl)
      · exact (q_X8_clear_43 _ 11 k rfl).trans (q_X6_begin_24 _ 11 k rfl)
      · exact (q_X8_clear_43 _ 12 k rfl).trans (q_X6_begin_24 _ 12 k rfl)
    have gl : ∀ k, (f_X8_clear_43 (f_X6_begin_24 (f_X2_copyFrom_4_13 (pI q.1 1 2 (0 : Int32))))).2 10 k = (f_X2_copyFrom_4_13 (pI q.1 1 2 (0 : Int32))).2 10 k := fun k => (ql_X8_clear_43 _ 10 k rfl).trans (ql_X6_begin_24 _ 10 k rfl)
    have hnm := (Nm.nx hd.2.2.2.2.2.1)
    refine hnm.cg (fun s hs => ?_) (by omega) (fun j hj => ?_) (fun k hk => ?_) (fun k hk => ?_) (fun k hk => ?_) (fun k hk => ?_)
    · rcases (show s = 0 ∨ s = 1 ∨ s = 2 ∨ s = 3 by omega) with e | e | e | e <;> subst e
      · show (q.1.1 13 1).toInt ≤ 8; omega
      · show (q.1.1 13 4).toInt ≤ 4; omega
      · show (q.1.1 13 5).toInt ≤ 6; omega
      · show (q.1.1 13 6).toInt ≤ 8; omega
    · exact (g 4 j (by omega)).trans ((k1 j hj).trans (pI_c (by decide)))
    · exact (gl k).trans (k2 k hk)
    · exact (g 11 k (by omega)).trans ((k3 k hk).trans (pI_c (by decide)))
    · exact (g 12 k (by omega)).trans ((k4 k hk).trans (pI_c (by decide)))
    · show z.2 90 k = w'.2 90 (26 + k)
      rw [z2, y2 k (by omega) hk, x5]
  · have h9 := hl9 p1
    rw [p1, if_neg n0]
    have hc : ∀ c k, c = 4 ∨ c = 11 ∨ c = 12 → (pI q.1 1 2 (0 : Int32)).1 c k = u.1 c k := fun c k hc => by
      rw [pI_c (by omega)]
      rcases hc with e | e | e <;> subst e
      · exact hfr 4 k rfl
      · exact hfr 11 k rfl
      · exact hfr 12 k rfl
    exact hN.cg hC h8 (fun j _ => hc 4 j (by omega)) (fun k _ => hfl 10 k rfl) (fun k _ => hc 11 k (by omega)) (fun k _ => hc 12 k (by omega)) (fun k hk => (h9 k hk).trans (hn9 k))

/-! Pure: words and names are known alike. -/
theorem wd_eq {n m : Nat} (hn : n < 32 ^ 7) (hm : m < 32 ^ 7) : Int64.ofNat (ph 8 n) = Int64.ofNat (ph 8 m) ↔ n = m := by
  refine ⟨fun h => ?_, fun h => by rw [h]⟩
  have p1 : ph 8 n = ph 7 n := ph_stab 7 n hn
  have p2 : ph 8 m = ph 7 m := ph_stab 7 m hm
  have q1 := ph_lt 7 n
  have q2 := ph_lt 7 m
  exact ph_inj 8 n m (by omega) (by omega) (l_inj (by omega) (by omega) h)
theorem wd_eq2 {n m : Nat} (hn : n < 32 ^ 7) (hm : m < 32 ^ 7) : Int64.ofNat n = Int64.ofNat m ↔ n = m :=
  ⟨fun h => l_inj (by omega) (by omega) h, fun h => by rw [h]⟩
theorem isWord_0 {w : ac_U} {C : Int64} (h : (w.1 85 11).toInt ≠ 1) : f_X12_isWord_85 w C = 0 := by
  unfold f_X12_isWord_85 K_X12_isWord_85_21; rw [if_pos h]
theorem isWord_k {u w : ac_U} (hT : Tk u w) (k : Nat) (hk : k < 27) : ((u.1 1 6).toInt = 100 + k → f_X12_isWord_85 w (Int64.ofNat (ph 8 (toldN k))) = 1) ∧ ((u.1 1 6).toInt ≠ 100 + k → f_X12_isWord_85 w (Int64.ofNat (ph 8 (toldN k))) = 0) := by
  obtain ⟨-, h | h | h | h | h⟩ := hT
  · exact ⟨fun q => by omega, fun _ => isWord_0 (by omega)⟩
  · exact ⟨fun q => by omega, fun _ => isWord_0 (by omega)⟩
  · exact ⟨fun q => by omega, fun _ => isWord_0 (by omega)⟩
  · obtain ⟨h1, h2, -⟩ := h
    unfold isSg at h1
    exact ⟨fun q => by omega, fun _ => isWord_0 (by omega)⟩
  · obtain ⟨h1, n, ⟨n1, n2, n3⟩, d1, d2⟩ := h
    have e : f_X12_isWord_85 w (Int64.ofNat (ph 8 (toldN k))) = if (lg_cmp (Int64.ofNat (ph 8 n)) (Int64.ofNat (ph 8 (toldN k)))).toInt ≠ 0 then 0 else 1 := by
      simp only [f_X12_isWord_85, K_X12_isWord_85_21, vl]
      rw [if_neg (fun q => q h1), n3]
    rw [e]
    by_cases q : n = toldN k
    · rw [if_neg (fun z => z ((lgc _ _).mpr (by rw [q])))]
      exact ⟨fun _ => rfl, fun z => absurd (d1 k hk q) z⟩
    · rw [if_pos (fun z => q ((wd_eq n1 (told_lt k hk)).mp ((lgc _ _).mp z)))]
      refine ⟨fun z => ?_, fun _ => rfl⟩
      exfalso
      by_cases hall : ∀ j : Nat, j < 27 → n ≠ toldN j
      · have := d2 hall; omega
      · obtain ⟨j, hj⟩ := Classical.not_forall.mp hall
        have hj1 : j < 27 := Classical.byContradiction (fun a => hj (fun b => absurd b a))
        have hj2 : n = toldN j := Classical.byContradiction (fun a => hj (fun _ => a))
        have := d1 j hj1 hj2
        have e3 : j = k := by omega
        rw [e3] at hj2
        exact q hj2
def pmI (k : Nat) : Nat := if k = 9 then 7 else if k = 7 then 8 else if k = 8 then 9 else k
theorem pm_lt : ∀ k, k < 27 → pmR k < 27 ∧ pmI k < 27 ∧ pmR (pmI k) = k := by decide +kernel
def RsB (_ : ac_U) : Prop := ∀ k, k < 27 → ctB k = Int64.ofNat (ph 8 (toldN (pmR k)))
theorem in_loop {w : ac_U} : ∀ (m fuel : Nat) (a x : Int32), x.toInt = 27 - (m : Int) → m ≤ 27 → m < fuel → (a = 0 ∨ a = 1) → ((a = 1 ∧ ∀ k : Nat, 27 - m ≤ k → k < 27 → w.2 85 17 ≠ ctB k) → K_X12_isName_85_16 w fuel a x = 1) ∧ ((a = 0 ∨ ∃ k : Nat, 27 - m ≤ k ∧ k < 27 ∧ w.2 85 17 = ctB k) → K_X12_isName_85_16 w fuel a x = 0) := by
  intro m
  induction m with
  | zero =>
    intro fuel a x hx _ hf ha
    obtain ⟨f, rfl⟩ : ∃ f, fuel = f + 1 := ⟨fuel - 1, by omega⟩
    have e : K_X12_isName_85_16 w (f + 1) a x = a := by
      show K_X12_isName_85_16_b (K_X12_isName_85_16 w f) w a x = a
      unfold K_X12_isName_85_16_b
      rw [if_pos (by omega)]
    rw [e]
    refine ⟨fun h => h.1, fun h => ?_⟩
    rcases h with h | ⟨k, h1, h2, -⟩
    · exact h
    · omega
  | succ m ih =>
    intro fuel a x hx hm hf ha
    obtain ⟨f, rfl⟩ : ∃ f, fuel = f + 1 := ⟨fuel - 1, by omega⟩
    have hk := i_cl (x := x) (by omega)
    have hk2 : x.toNatClampNeg = 27 - (m + 1) := by omega
    have hx1 : (x + Int32.ofInt 1).toInt = 27 - (m : Int) := by
      rw [i_add rfl (by decide : (Int32.ofInt 1).toInt = 1) (by omega)]
      omega
    have e0 : a = 0 → K_X12_isName_85_16 w (f + 1) a x = K_X12_isName_85_16 w f 0 (x + Int32.ofInt 1) := by
      intro q
      show K_X12_isName_85_16_b (K_X12_isName_85_16 w f) w a x = _
      simp only [K_X12_isName_85_16_b, K_X12_isName_85_44, K_X12_isName_85_45, vl]
      rw [if_neg (by omega), if_pos (by rw [q]; decide)]
    have e1 : a = 1 → K_X12_isName_85_16 w (f + 1) a x = if (lg_cmp (w.2 85 17) (ctB (27 - (m + 1)))).toInt = 0 then K_X12_isName_85_16 w f 0 (x + Int32.ofInt 1) else K_X12_isName_85_16 w f 1 (x + Int32.ofInt 1) := by
      intro q
      show K_X12_isName_85_16_b (K_X12_isName_85_16 w f) w a x = _
      simp only [K_X12_isName_85_16_b, K_X12_isName_85_44, K_X12_isName_85_45, vl]
      rw [if_neg (by omega), if_neg (by rw [q]; decide), hk2]
    have i0 := ih f 0 (x + Int32.ofInt 1) hx1 (by omega) (by omega) (Or.inl rfl)
    have i1 := ih f 1 (x + Int32.ofInt 1) hx1 (by omega) (by omega) (Or.inr rfl)
    rcases ha with ha | ha
    · rw [e0 ha]
      refine ⟨fun h => absurd (h.1.symm.trans ha) (by decide), fun _ => i0.2 (Or.inl rfl)⟩
    · rw [e1 ha]
      by_cases q : w.2 85 17 = ctB (27 - (m + 1))
      · rw [if_pos ((lgc _ _).mpr q)]
        exact ⟨fun h => absurd q (h.2 _ (by omega) (by omega)), fun _ => i0.2 (Or.inl rfl)⟩
      · rw [if_neg (fun z => q ((lgc _ _).mp z))]
        refine ⟨fun h => i1.1 ⟨rfl, fun k h1 h2 => h.2 k (by omega) h2⟩, fun h => i1.2 ?_⟩
        rcases h with h | ⟨k, h1, h2, h3⟩
        · exact absurd (h.symm.trans ha) (by decide)
        · refine Or.inr ⟨k, ?_, h2, h3⟩
          rcases (show k = 27 - (m + 1) ∨ 27 - m ≤ k by omega) with z | z
          · rw [z] at h3; exact absurd h3 q
          · exact z
theorem isName_k {u w : ac_U} (hT : Tk u w) (hB : RsB w) : ((u.1 1 6).toInt = 2 → f_X12_isName_85 w = 1) ∧ ((u.1 1 6).toInt ≠ 2 → f_X12_isName_85 w = 0) := by
  have z0 := in_loop (w := w) 27 29 0 (0 : Int32) (by decide) (by decide) (by decide) (Or.inl rfl)
  have z1 := in_loop (w := w) 27 29 1 (0 : Int32) (by decide) (by decide) (by decide) (Or.inr rfl)
  have h0 : (w.1 85 11).toInt ≠ 1 → f_X12_isName_85 w = 0 := by
    intro q
    unfold f_X12_isName_85 K_X12_isName_85_13
    rw [if_pos q]
    exact z0.2 (Or.inl rfl)
  obtain ⟨-, h | h | h | h | h⟩ := hT
  · exact ⟨fun q => by omega, fun _ => h0 (by omega)⟩
  · exact ⟨fun q => by omega, fun _ => h0 (by omega)⟩
  · exact ⟨fun q => by omega, fun _ => h0 (by omega)⟩
  · obtain ⟨h1, h2, -⟩ := h
    unfold isSg at h1
    exact ⟨fun q => by omega, fun _ => h0 (by omega)⟩
  · obtain ⟨h1, n, ⟨n1, n2, n3⟩, d1, d2⟩ := h
    have e : f_X12_isName_85 w = K_X12_isName_85_16 w 29 1 (0 : Int32) := by
      unfold f_X12_isName_85 K_X12_isName_85_13
      rw [if_neg (fun q => q h1)]
    rw [e]
    by_cases hall : ∀ j : Nat, j < 27 → n ≠ toldN j
    · refine ⟨fun _ => z1.1 ⟨rfl, fun k _ hk q => ?_⟩, fun q => absurd (d2 hall) q⟩
      rw [n3, hB k hk] at q
      exact hall (pmR k) (pm_lt k hk).1 ((wd_eq n1 (told_lt (pmR k) (pm_lt k hk).1)).mp q)
    · obtain ⟨j, hj⟩ := Classical.not_forall.mp hall
      have hj1 : j < 27 := Classical.byContradiction (fun a => hj (fun b => absurd b a))
      have hj2 : n = toldN j := Classical.byContradiction (fun a => hj (fun _ => a))
      have := d1 j hj1 hj2
      refine ⟨fun q => by omega, fun _ => z1.2 (Or.inr ⟨pmI j, by omega, (pm_lt j hj1).2.1, ?_⟩)⟩
      rw [n3, hB (pmI j) (pm_lt j hj1).2.1, (pm_lt j hj1).2.2, hj2]
theorem ni_loop {u : ac_U} {X : Int64} {p0 : Int64} : ∀ (m fuel : Nat) (x : Int32), x.toInt = (u.1 13 8).toInt - (m : Int) → 0 ≤ x.toInt → (u.1 13 8).toInt ≤ 26 → m < fuel → (∃ k : Nat, x.toInt ≤ k ∧ (k : Int) < (u.1 13 8).toInt ∧ u.2 19 k = X ∧ (K_X2_nameIndex_13_2 u p0 fuel X x).toInt = k) ∨ ((∀ k : Nat, x.toInt ≤ k → (k : Int) < (u.1 13 8).toInt → u.2 19 k ≠ X) ∧ (K_X2_nameIndex_13_2 u p0 fuel X x).toInt = -1) := by
  intro m
  induction m with
  | zero =>
    intro fuel x hx h0 h26 hf
    obtain ⟨f, rfl⟩ : ∃ f, fuel = f + 1 := ⟨fuel - 1, by omega⟩
    refine Or.inr ⟨fun k h1 h2 => by omega, ?_⟩
    show (K_X2_nameIndex_13_2_b (K_X2_nameIndex_13_2 u p0 f) u p0 X x).toInt = -1
    unfold K_X2_nameIndex_13_2_b
    rw [if_pos (by omega)]
    decide
  | succ m ih =>
    intro fuel x hx h0 h26 hf
    obtain ⟨f, rfl⟩ : ∃ f, fuel = f + 1 := ⟨fuel - 1, by omega⟩
    have hk := i_cl (x := x) h0
    have hstep : K_X2_nameIndex_13_2 u p0 (f + 1) X x = if (lg_cmp (u.2 19 x.toNatClampNeg) X).toInt ≠ 0 then K_X2_nameIndex_13_2 u p0 f X (x + Int32.ofInt 1) else x := by
      show K_X2_nameIndex_13_2_b (K_X2_nameIndex_13_2 u p0 f) u p0 X x = _
      simp only [K_X2_nameIndex_13_2_b, vl]
      rw [if_neg (by omega)]
    rw [hstep]
    by_cases e : u.2 19 x.toNatClampNeg = X
    · rw [if_neg (fun q => q ((lgc _ _).mpr e))]
      exact Or.inl ⟨x.toNatClampNeg, by omega, by omega, e, by omega⟩
    · rw [if_pos (fun q => e ((lgc _ _).mp q))]
      have hx1 : (x + Int32.ofInt 1).toInt = x.toInt + 1 := i_add rfl (by decide : (Int32.ofInt 1).toInt = 1) (by omega)
      rcases ih f (x + Int32.ofInt 1) (by omega) (by omega) h26 (by omega) with ⟨k, h1, h2, h3, h4⟩ | ⟨h1, h2⟩
      · exact Or.inl ⟨k, by omega, h2, h3, h4⟩
      · refine Or.inr ⟨fun k q1 q2 => ?_, h2⟩
        by_cases e2 : k = x.toNatClampNeg
        · rw [e2]; exact e
        · exact h1 k (by omega) q2
theorem ni_sp {u : ac_U} {X : Int64} (h0 : 0 ≤ (u.1 13 8).toInt ∧ (u.1 13 8).toInt ≤ 26) : (∃ k : Nat, (k : Int) < (u.1 13 8).toInt ∧ u.2 19 k = X ∧ (f_X2_nameIndex_13 u X).toInt = k) ∨ ((∀ k : Nat, (k : Int) < (u.1 13 8).toInt → u.2 19 k ≠ X) ∧ (f_X2_nameIndex_13 u X).toInt = -1) := by
  have h := ni_loop (u := u) (X := X) (p0 := X) (u.1 13 8).toInt.toNat 28 (0 : Int32) (by rw [t0i]; omega) (by rw [t0i]; omega) h0.2 (by omega)
  rcases h with ⟨k, h1, h2, h3, h4⟩ | ⟨h1, h2⟩
  · exact Or.inl ⟨k, h2, h3, h4⟩
  · exact Or.inr ⟨fun k q => h1 k (by rw [t0i]; omega) q, h2⟩
theorem fi_loop {w : ac_U} {p0 p1 : Int32} (hp : 0 ≤ p0.toInt ∧ p0.toInt ≤ 60) (hq : p1.toInt ≤ 12) : ∀ (m fuel : Nat) (x : Int32), x.toInt = p1.toInt - (m : Int) → 0 ≤ x.toInt → m < fuel → (∃ k : Nat, x.toInt ≤ k ∧ (k : Int) < p1.toInt ∧ w.2 90 (p0.toNatClampNeg + k) = w.2 85 17 ∧ (K_X12_find_85_2 w p0 p1 fuel x).toInt = k) ∨ ((∀ k : Nat, x.toInt ≤ k → (k : Int) < p1.toInt → w.2 90 (p0.toNatClampNeg + k) ≠ w.2 85 17) ∧ (K_X12_find_85_2 w p0 p1 fuel x).toInt = -1) := by
  intro m
  induction m with
  | zero =>
    intro fuel x hx h0 hf
    obtain ⟨f, rfl⟩ : ∃ f, fuel = f + 1 := ⟨fuel - 1, by omega⟩
    refine Or.inr ⟨fun k h1 h2 => by omega, ?_⟩
    show (K_X12_find_85_2_b (K_X12_find_85_2 w p0 p1 f) w p0 p1 x).toInt = -1
    unfold K_X12_find_85_2_b
    rw [if_pos (by omega)]
    decide
  | succ m ih =>
    intro fuel x hx h0 hf
    obtain ⟨f, rfl⟩ : ∃ f, fuel = f + 1 := ⟨fuel - 1, by omega⟩
    have hk := i_cl (x := x) h0
    have hk0 := i_cl (x := p0) hp.1
    have ha : (p0 + x).toInt = p0.toInt + x.toInt := i_add rfl rfl (by omega)
    have hka := i_cl (x := p0 + x) (by omega)
    have hka2 : (p0 + x).toNatClampNeg = p0.toNatClampNeg + x.toNatClampNeg := by omega
    have hstep : K_X12_find_85_2 w p0 p1 (f + 1) x = if (lg_cmp (w.2 90 (p0.toNatClampNeg + x.toNatClampNeg)) (w.2 85 17)).toInt ≠ 0 then K_X12_find_85_2 w p0 p1 f (x + Int32.ofInt 1) else x := by
      show K_X12_find_85_2_b (K_X12_find_85_2 w p0 p1 f) w p0 p1 x = _
      simp only [K_X12_find_85_2_b, vl]
      rw [if_neg (by omega), hka2]
    rw [hstep]
    by_cases e : w.2 90 (p0.toNatClampNeg + x.toNatClampNeg) = w.2 85 17
    · rw [if_neg (fun q => q ((lgc _ _).mpr e))]
      exact Or.inl ⟨x.toNatClampNeg, by omega, by omega, e, by omega⟩
    · rw [if_pos (fun q => e ((lgc _ _).mp q))]
      have hx1 : (x + Int32.ofInt 1).toInt = x.toInt + 1 := i_add rfl (by decide : (Int32.ofInt 1).toInt = 1) (by omega)
      rcases ih f (x + Int32.ofInt 1) (by omega) (by omega) (by omega) with ⟨k, h1, h2, h3, h4⟩ | ⟨h1, h2⟩
      · exact Or.inl ⟨k, by omega, h2, h3, h4⟩
      · refine Or.inr ⟨fun k q1 q2 => ?_, h2⟩
        by_cases e2 : k = x.toNatClampNeg
        · rw [e2]; exact e
        · exact h1 k (by omega) q2
theorem fi_sp {w : ac_U} {p0 p1 : Int32} (hp : 0 ≤ p0.toInt ∧ p0.toInt ≤ 60) (hq : 0 ≤ p1.toInt ∧ p1.toInt ≤ 12) : (∃ k : Nat, (k : Int) < p1.toInt ∧ w.2 90 (p0.toNatClampNeg + k) = w.2 85 17 ∧ (f_X12_find_85 w p0 p1).toInt = k) ∨ ((∀ k : Nat, (k : Int) < p1.toInt → w.2 90 (p0.toNatClampNeg + k) ≠ w.2 85 17) ∧ (f_X12_find_85 w p0 p1).toInt = -1) := by
  have h := fi_loop (w := w) hp hq.2 p1.toInt.toNat 14 (0 : Int32) (by rw [t0i]; omega) (by rw [t0i]; omega) (by omega)
  rcases h with ⟨k, h1, h2, h3, h4⟩ | ⟨h1, h2⟩
  · exact Or.inl ⟨k, h2, h3, h4⟩
  · exact Or.inr ⟨fun k q => h1 k (by rw [t0i]; omega) q, h2⟩

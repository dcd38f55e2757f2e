/-! The reference's stack of what is begun. -/
def stP (f : Nat → Int32) : List Nat → Prop
  | [] => True
  | x :: σ => (f σ.length).toInt = (x : Int) ∧ stP f σ
theorem stP_cg {f g : Nat → Int32} : ∀ (σ : List Nat), (∀ i, i < σ.length → g i = f i) → stP f σ → stP g σ
  | [], _, _ => trivial
  | x :: σ, h, q => ⟨by rw [h σ.length (by simp only [List.length_cons]; omega)]; exact q.1, stP_cg σ (fun i hi => h i (by simp only [List.length_cons]; omega)) q.2⟩
def Sk (w : ac_U) (σ : List Nat) : Prop := (w.1 85 41).toInt = (σ.length : Int) ∧ stP (w.1 100) σ
/-- how many codes there are and will be of what is begun -/
def Cd (w : ac_U) (σ : List Nat) : Int := (w.1 85 39).toInt + (σ.length : Int)
/-- what the sentence's own rows leave -/
def RS (w w' : ac_U) : Prop := (∀ c k, ¬ (c = 89 ∨ c = 100 ∨ (c = 85 ∧ (k = 18 ∨ k = 39 ∨ k = 41 ∨ k = 42 ∨ k = 43))) → w'.1 c k = w.1 c k) ∧ w'.2 = w.2
theorem RS.rf {w : ac_U} : RS w w := ⟨fun _ _ _ => rfl, rfl⟩
theorem RS.tr {u v w : ac_U} (h : RS u v) (g : RS v w) : RS u w := ⟨fun c k q => (g.1 c k q).trans (h.1 c k q), g.2.trans h.2⟩
theorem RS.p {w v : ac_U} (h : RS w v) {k : Nat} {x : Int32} (hk : k = 18 ∨ k = 39 ∨ k = 41 ∨ k = 42 ∨ k = 43) : RS w (pI v 85 k x) := ⟨fun c j q => by
  by_cases e : c = 85
  · rw [pI_k (by omega)]; exact h.1 c j q
  · rw [pI_c e]; exact h.1 c j q, h.2⟩
theorem RS.q {w v : ac_U} (h : RS w v) {k : Nat} {x : Int32} : RS w (pI v 100 k x) := ⟨fun c j q => by
  rw [pI_c (by omega)]; exact h.1 c j q, h.2⟩
theorem code_S {w : ac_U} {a b c : Int32} : (∀ d k, ¬ (d = 89 ∨ (d = 85 ∧ k = 39)) → (f_X12_code_85 w a b c).1 d k = w.1 d k) ∧ (f_X12_code_85 w a b c).2 = w.2 ∧ (f_X12_code_85 w a b c).1 85 39 = w.1 85 39 + 1 := by
  obtain ⟨v2, v4, v6, e⟩ : ∃ v2 v4 v6, f_X12_code_85 w a b c = pI (pI (pI (pI w 89 v2 a) 89 v4 b) 89 v6 c) 85 39 (w.1 85 39 + 1) := ⟨_, _, _, rfl⟩
  rw [e]
  refine ⟨fun d k h => ?_, rfl, pI_s⟩
  by_cases q : d = 85
  · rw [pI_k (by omega), pI_c (by omega), pI_c (by omega), pI_c (by omega)]
  · rw [pI_c q, pI_c (by omega), pI_c (by omega), pI_c (by omega)]
theorem RS.code {w v : ac_U} (h : RS w v) {a b c : Int32} : RS w (f_X12_code_85 v a b c) := ⟨fun d k q => (code_S.1 d k (by omega)).trans (h.1 d k q), code_S.2.1.trans h.2⟩
theorem top_1 {x : Int32} {l : Nat} (h : x.toInt = ((l + 1 : Nat) : Int)) (hl : l ≤ 100) : (x - 1).toInt = (l : Int) ∧ (x - 1).toNatClampNeg = l := by
  have h1 : (x - 1).toInt = x.toInt - 1 := i_sub rfl (by decide) (by omega)
  have h2 := i_cl (x := x - 1) (by omega)
  exact ⟨by omega, by omega⟩
theorem nots_K {w0 : ac_U} {τ : List Nat} (hτ : τ.head? ≠ some 20) : ∀ (k n : Nat) (w : ac_U) (d : Int), Sk w (List.replicate k 20 ++ τ) → (List.replicate k 20 ++ τ).length ≤ 60 → k < n → (w.1 85 42).toInt = d → 0 ≤ (w.1 85 39).toInt → (w.1 85 39).toInt ≤ 60 - (k : Int) → 0 ≤ d → d ≤ 200 → (k : Int) ≤ d → ∃ w', K_X12_nots_85_0 w0 n w = w' ∧ RS w w' ∧ Sk w' τ ∧ (w'.1 85 42).toInt = d - k ∧ w'.1 85 43 = w.1 85 43 ∧ (w'.1 85 39).toInt = (w.1 85 39).toInt + k := by
  intro k
  induction k with
  | zero =>
    intro n w d h hl hn hd _ _ _ _ _
    obtain ⟨m, rfl⟩ : ∃ m, n = m + 1 := ⟨n - 1, by omega⟩
    have h : Sk w τ := h
    have hl : τ.length ≤ 60 := hl
    refine ⟨w, ?_, RS.rf, h, by omega, rfl, by omega⟩
    show K_X12_nots_85_0_b (K_X12_nots_85_0 w0 m) w0 w = w
    simp only [K_X12_nots_85_0_b, vl]
    obtain ⟨h1, h2⟩ := h
    cases τ with
    | nil => rw [if_pos (by rw [h1]; simp)]
    | cons x τ =>
      obtain ⟨t1, t2⟩ := top_1 (x := w.1 85 41) (l := τ.length) (by rw [h1]; simp) (by simp only [List.length_cons] at hl; omega)
      have hx : x ≠ 20 := fun q => hτ (by rw [q]; rfl)
      have hx2 := h2.1
      rw [if_neg (by rw [h1]; simp only [List.length_cons]; omega), t2, if_pos (by omega)]
  | succ k ih =>
    intro n w d h hl hn hd hc hc2 h0 h9 hkd
    obtain ⟨m, rfl⟩ : ∃ m, n = m + 1 := ⟨n - 1, by omega⟩
    have h : Sk w (20 :: (List.replicate k 20 ++ τ)) := h
    have hl : (20 :: (List.replicate k 20 ++ τ)).length ≤ 60 := hl
    obtain ⟨h1, h2⟩ := h
    rw [List.length_cons] at hl h1
    obtain ⟨t1, t2⟩ := top_1 (l := (List.replicate k 20 ++ τ).length) h1 (by omega)
    have hx := h2.1
    have hd1 : (w.1 85 42 - 1).toInt = d - 1 := by rw [i_sub hd (by decide : (1 : Int32).toInt = 1) (by omega)]
    have e : K_X12_nots_85_0 w0 (m + 1) w = K_X12_nots_85_0 w0 m (f_X12_code_85 (pI (pI w 85 41 (w.1 85 41 - 1)) 85 42 (w.1 85 42 - 1)) (20 : Int32) (0 : Int32) (0 : Int32)) := by
      show K_X12_nots_85_0_b (K_X12_nots_85_0 w0 m) w0 w = _
      simp only [K_X12_nots_85_0_b, vl]
      rw [if_neg (by rw [h1]; omega), t2, if_neg (fun z => z (by rw [hx]; rfl))]
    obtain ⟨c1, c2, c3⟩ := code_S (w := pI (pI w 85 41 (w.1 85 41 - 1)) 85 42 (w.1 85 42 - 1)) (a := (20 : Int32)) (b := (0 : Int32)) (c := (0 : Int32))
    have hrs : RS w (f_X12_code_85 (pI (pI w 85 41 (w.1 85 41 - 1)) 85 42 (w.1 85 42 - 1)) (20 : Int32) (0 : Int32) (0 : Int32)) := ((RS.rf.p (by omega)).p (by omega)).code
    have k39 : (pI (pI w 85 41 (w.1 85 41 - 1)) 85 42 (w.1 85 42 - 1)).1 85 39 = w.1 85 39 := by rw [pI_k (by decide), pI_k (by decide)]
    rw [k39] at c3
    have g39 : (w.1 85 39 + 1).toInt = (w.1 85 39).toInt + 1 := inc_i (by omega)
    have k41 := c1 85 41 (by omega)
    rw [pI_k (by decide), pI_s] at k41
    have k42 := c1 85 42 (by omega)
    rw [pI_s] at k42
    have k43 := c1 85 43 (by omega)
    rw [pI_k (by decide), pI_k (by decide)] at k43
    have k100 : ∀ i, (f_X12_code_85 (pI (pI w 85 41 (w.1 85 41 - 1)) 85 42 (w.1 85 42 - 1)) (20 : Int32) (0 : Int32) (0 : Int32)).1 100 i = w.1 100 i := fun i => by rw [c1 100 i (by omega), pI_c (by decide), pI_c (by decide)]
    rw [e]
    generalize f_X12_code_85 (pI (pI w 85 41 (w.1 85 41 - 1)) 85 42 (w.1 85 42 - 1)) (20 : Int32) (0 : Int32) (0 : Int32) = v at *
    obtain ⟨w', y1, y2, y3, y4, y5, y6⟩ := ih m v (d - 1) ⟨by rw [k41]; exact t1, stP_cg _ (fun i _ => k100 i) h2.2⟩ (by omega) (by omega) (by rw [k42]; exact hd1) (by rw [c3]; omega) (by rw [c3]; omega) (by omega) (by omega) (by omega)
    refine ⟨w', y1, hrs.tr y2, y3, by omega, y5.trans k43, ?_⟩
    rw [y6, c3]
    omega
theorem nots_sp {w : ac_U} {k d : Nat} {τ : List Nat} (hτ : τ.head? ≠ some 20) (h : Sk w (List.replicate k 20 ++ τ)) (hd : (w.1 85 42).toInt = ((d + k : Nat) : Int)) (hd9 : d ≤ 9) (hc : 0 ≤ (w.1 85 39).toInt) (hC : Cd w (List.replicate k 20 ++ τ) ≤ 40) : ∃ w', f_X12_nots_85 w = w' ∧ RS w w' ∧ Sk w' τ ∧ (w'.1 85 42).toInt = d ∧ w'.1 85 43 = w.1 85 43 ∧ 0 ≤ (w'.1 85 39).toInt ∧ Cd w' τ = Cd w (List.replicate k 20 ++ τ) := by
  have hlen : (List.replicate k 20 ++ τ).length = k + τ.length := by simp
  unfold Cd at hC ⊢
  rw [hlen] at hC ⊢
  obtain ⟨w', y1, y2, y3, y4, y5, y6⟩ := nots_K (w0 := w) hτ k 47 w _ h (by rw [hlen]; omega) (by omega) hd hc (by omega) (by omega) (by omega) (by omega)
  exact ⟨w', y1, y2, y3, by omega, y5, by omega, by omega⟩
theorem joins_K {w0 : ac_U} {p : Int32} {τ : List Nat} (h1τ : τ.head? ≠ some 21) (h2τ : p.toInt = 22 → τ.head? ≠ some 22) : ∀ (a : List Nat) (n : Nat) (w : ac_U), (∀ x, x ∈ a → x = 21 ∨ (x = 22 ∧ p.toInt = 22)) → Sk w (a ++ τ) → (a ++ τ).length ≤ 60 → a.length < n → 0 ≤ (w.1 85 39).toInt → (w.1 85 39).toInt ≤ 60 - (a.length : Int) → ∃ w', K_X12_joins_85_0 w0 p n w = w' ∧ RS w w' ∧ Sk w' τ ∧ w'.1 85 42 = w.1 85 42 ∧ w'.1 85 43 = w.1 85 43 ∧ (w'.1 85 39).toInt = (w.1 85 39).toInt + (a.length : Int) := by
  intro a
  induction a with
  | nil =>
    intro n w _ h hl hn _ _
    obtain ⟨m, rfl⟩ : ∃ m, n = m + 1 := ⟨n - 1, by omega⟩
    have h : Sk w τ := h
    have hl : τ.length ≤ 60 := hl
    refine ⟨w, ?_, RS.rf, h, rfl, rfl, by simp⟩
    show K_X12_joins_85_0_b (K_X12_joins_85_0 w0 p m) w0 p w = w
    simp only [K_X12_joins_85_0_b, vl]
    obtain ⟨h1, h2⟩ := h
    cases τ with
    | nil => rw [if_pos (by rw [h1]; simp)]
    | cons x τ =>
      obtain ⟨t1, t2⟩ := top_1 (x := w.1 85 41) (l := τ.length) (by rw [h1]; simp) (by simp only [List.length_cons] at hl; omega)
      have hx : x ≠ 21 := fun q => h1τ (by rw [q]; rfl)
      have hx2 := h2.1
      rw [if_neg (by rw [h1]; simp only [List.length_cons]; omega), t2, if_neg (by omega)]
      by_cases q : x = 22
      · have hp : p.toInt ≠ 22 := fun z => h2τ z (by rw [q]; rfl)
        rw [if_neg (fun z => z (by omega)), if_pos hp]
      · rw [if_pos (by omega)]
  | cons x a ih =>
    intro n w ha h hl hn hc hc2
    obtain ⟨m, rfl⟩ : ∃ m, n = m + 1 := ⟨n - 1, by omega⟩
    have h : Sk w (x :: (a ++ τ)) := h
    have hl : (x :: (a ++ τ)).length ≤ 60 := hl
    obtain ⟨h1, h2⟩ := h
    rw [List.length_cons] at hl h1 hc2 hn
    obtain ⟨t1, t2⟩ := top_1 (l := (a ++ τ).length) h1 (by omega)
    have hx := h2.1
    obtain ⟨z, e⟩ : ∃ z : Int32, K_X12_joins_85_0 w0 p (m + 1) w = K_X12_joins_85_0 w0 p m (f_X12_code_85 (pI w 85 41 (w.1 85 41 - 1)) z (0 : Int32) (0 : Int32)) := by
      refine ⟨(pI w 85 41 (w.1 85 41 - 1)).1 100 (a ++ τ).length, ?_⟩
      show K_X12_joins_85_0_b (K_X12_joins_85_0 w0 p m) w0 p w = _
      simp only [K_X12_joins_85_0_b, vl]
      rcases ha x (by simp) with q | ⟨q, hp⟩
      · rw [if_neg (by rw [h1]; omega), t2, if_pos (by omega)]
      · rw [if_neg (by rw [h1]; omega), t2, if_neg (by omega), if_neg (fun y => y (by omega)), if_neg (fun y => y hp)]
    obtain ⟨c1, c2, c3⟩ := code_S (w := pI w 85 41 (w.1 85 41 - 1)) (a := z) (b := (0 : Int32)) (c := (0 : Int32))
    have hrs : RS w (f_X12_code_85 (pI w 85 41 (w.1 85 41 - 1)) z (0 : Int32) (0 : Int32)) := (RS.rf.p (by omega)).code
    rw [pI_k (show 39 ≠ 41 by decide)] at c3
    have g39 : (w.1 85 39 + 1).toInt = (w.1 85 39).toInt + 1 := inc_i (by omega)
    have k41 := c1 85 41 (by omega)
    rw [pI_s] at k41
    have k42 := c1 85 42 (by omega)
    rw [pI_k (by decide)] at k42
    have k43 := c1 85 43 (by omega)
    rw [pI_k (by decide)] at k43
    have k100 : ∀ i, (f_X12_code_85 (pI w 85 41 (w.1 85 41 - 1)) z (0 : Int32) (0 : Int32)).1 100 i = w.1 100 i := fun i => by rw [c1 100 i (by omega), pI_c (by decide)]
    rw [e]
    generalize f_X12_code_85 (pI w 85 41 (w.1 85 41 - 1)) z (0 : Int32) (0 : Int32) = v at *
    obtain ⟨w', y1, y2, y3, y4, y5, y6⟩ := ih m v (fun y hy => ha y (by simp [hy])) ⟨by rw [k41]; exact t1, stP_cg _ (fun i _ => k100 i) h2.2⟩ (by omega) (by omega) (by rw [c3]; omega) (by rw [c3]; omega)
    refine ⟨w', y1, hrs.tr y2, y3, y4.trans k42, y5.trans k43, ?_⟩
    rw [y6, c3, List.length_cons]
    omega
theorem joins_sp {w : ac_U} {p : Int32} {a τ : List Nat} (h1τ : τ.head? ≠ some 21) (h2τ : p.toInt = 22 → τ.head? ≠ some 22) (ha : ∀ x, x ∈ a → x = 21 ∨ (x = 22 ∧ p.toInt = 22)) (h : Sk w (a ++ τ)) (hc : 0 ≤ (w.1 85 39).toInt) (hC : Cd w (a ++ τ) ≤ 40) : ∃ w', f_X12_joins_85 w p = w' ∧ RS w w' ∧ Sk w' τ ∧ w'.1 85 42 = w.1 85 42 ∧ w'.1 85 43 = w.1 85 43 ∧ 0 ≤ (w'.1 85 39).toInt ∧ Cd w' τ = Cd w (a ++ τ) := by
  have hlen : (a ++ τ).length = a.length + τ.length := by simp
  unfold Cd at hC ⊢
  rw [hlen] at hC ⊢
  obtain ⟨w', y1, y2, y3, y4, y5, y6⟩ := joins_K (w0 := w) h1τ h2τ a 47 w ha h (by rw [hlen]; omega) (by omega) hc (by omega)
  exact ⟨w', y1, y2, y3, y4, y5, by omega, by omega⟩

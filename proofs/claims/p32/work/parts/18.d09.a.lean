/-! The two houses alike, told or kept in an image; the tapes alike. -/
def HX (a4 a5 a6 a9 b : Nat → Int32) : Prop := ((∀ j, j < 8 → a4 j = b j) ∧ (∀ k, k < 8 → a5 k = b (8 + k)) ∧ (∀ f : Nat, (f : Int) < (a4 3).toInt → a6 f = b (16 + f)) ∧ (∀ x y : Int32, 0 ≤ x.toInt → x.toInt < 8 → 0 ≤ y.toInt → y.toInt < 8 → (vbit (a9 y.toNatClampNeg) x ↔ ∃ i : Nat, (i : Int) < (a4 7).toInt ∧ b (90 + i) = x ∧ b (98 + i) = y))) ∧ (a4 3).toInt ≤ 6 ∧ (a4 7).toInt ≤ 8
theorem HX.cg {a4 a5 a6 a9 b c4 c5 c6 c9 d : Nat → Int32} (h : HX a4 a5 a6 a9 b) (e4 : ∀ j, j < 8 → c4 j = a4 j) (e5 : ∀ k, k < 8 → c5 k = a5 k) (e6 : ∀ k, k < 6 → c6 k = a6 k) (e9 : ∀ k, k < 8 → c9 k = a9 k) (eb : ∀ k, k < 106 → d k = b k) : HX c4 c5 c6 c9 d := by
  obtain ⟨⟨h1, h2, h3, h4⟩, h5, h6⟩ := h
  have m3 := e4 3 (by decide)
  have m7 := e4 7 (by decide)
  refine ⟨⟨fun j hj => ?_, fun k hk => ?_, fun f hf => ?_, fun x y x1 x2 y1 y2 => ?_⟩, by rw [m3]; exact h5, by rw [m7]; exact h6⟩
  · rw [e4 j hj, eb j (by omega)]; exact h1 j hj
  · rw [e5 k hk, eb _ (by omega)]; exact h2 k hk
  · rw [m3] at hf
    rw [e6 f (by omega), eb _ (by omega)]
    exact h3 f hf
  · have hy := i_cl (x := y) y1
    rw [e9 _ (by omega), m7]
    refine (h4 x y x1 x2 y1 y2).trans ⟨fun ⟨i, i1, i2, i3⟩ => ⟨i, i1, ?_, ?_⟩, fun ⟨i, i1, i2, i3⟩ => ⟨i, i1, ?_, ?_⟩⟩
    · rw [eb _ (by omega)]; exact i2
    · rw [eb _ (by omega)]; exact i3
    · rw [eb _ (by omega)] at i2; exact i2
    · rw [eb _ (by omega)] at i3; exact i3
def hxI (u : ac_U) : Prop := HX (u.1 4) (u.1 5) (u.1 6) (u.1 9) (u.1 87)
def hyI (u : ac_U) : Prop := HX (u.1 55) (u.1 56) (u.1 57) (u.1 60) (u.1 102)
def hzI (u : ac_U) : Prop := HX (u.1 64) (u.1 65) (u.1 66) (u.1 69) (fun k => u.1 102 (657 + k))
theorem sp_HX : ac_Sp [(4, 0, 7), (5, 0, 7), (6, 0, 5), (9, 0, 7), (87, 0, 105)] hxI := fun u u' h q => by
  refine HX.cg q (fun j hj => h 4 j ?_) (fun j hj => h 5 j ?_) (fun j hj => h 6 j ?_) (fun j hj => h 9 j ?_) (fun j hj => h 87 j ?_)
  · exact sp_of (a := 0) (b := 7) (by simp) (by omega) (by omega)
  · exact sp_of (a := 0) (b := 7) (by simp) (by omega) (by omega)
  · exact sp_of (a := 0) (b := 5) (by simp) (by omega) (by omega)
  · exact sp_of (a := 0) (b := 7) (by simp) (by omega) (by omega)
  · exact sp_of (a := 0) (b := 105) (by simp) (by omega) (by omega)
/-- what is kept in the two images is alike, where it is kept -/
def imI (u : ac_U) : Prop := ((u.1 53 4).toInt ≠ 0 → hyI u) ∧ ((u.1 54 4).toInt ≠ 0 → hzI u)
theorem sp_IM : ac_Sp [(53, 4, 4), (54, 4, 4), (55, 0, 7), (56, 0, 7), (57, 0, 5), (60, 0, 7), (64, 0, 7), (65, 0, 7), (66, 0, 5), (69, 0, 7), (102, 0, 1313)] imI := fun u u' h q => by
  have k3 := h 53 4 (sp_of (a := 4) (b := 4) (by simp) (by omega) (by omega))
  have k4 := h 54 4 (sp_of (a := 4) (b := 4) (by simp) (by omega) (by omega))
  refine ⟨fun z => ?_, fun z => ?_⟩
  · rw [k3] at z
    refine HX.cg (q.1 z) (fun j hj => h 55 j ?_) (fun j hj => h 56 j ?_) (fun j hj => h 57 j ?_) (fun j hj => h 60 j ?_) (fun j hj => h 102 j ?_)
    · exact sp_of (a := 0) (b := 7) (by simp) (by omega) (by omega)
    · exact sp_of (a := 0) (b := 7) (by simp) (by omega) (by omega)
    · exact sp_of (a := 0) (b := 5) (by simp) (by omega) (by omega)
    · exact sp_of (a := 0) (b := 7) (by simp) (by omega) (by omega)
    · exact sp_of (a := 0) (b := 1313) (by simp) (by omega) (by omega)
  · rw [k4] at z
    refine HX.cg (q.2 z) (fun j hj => h 64 j ?_) (fun j hj => h 65 j ?_) (fun j hj => h 66 j ?_) (fun j hj => h 69 j ?_) (fun j hj => h 102 (657 + j) ?_)
    · exact sp_of (a := 0) (b := 7) (by simp) (by omega) (by omega)
    · exact sp_of (a := 0) (b := 7) (by simp) (by omega) (by omega)
    · exact sp_of (a := 0) (b := 5) (by simp) (by omega) (by omega)
    · exact sp_of (a := 0) (b := 7) (by simp) (by omega) (by omega)
    · exact sp_of (a := 0) (b := 1313) (by simp) (by omega) (by omega)
/-- the bytes of the two tapes -/
def byI (u : ac_U) : Prop := ∀ k, u.1 2 k = u.1 86 k
theorem cv_no {L : List (Nat × Option Nat)} {c k : Nat} (h : L.all (fun e => !(e.1 == c)) = true) : ac_cv L c k = false := by
  cases hq : ac_cv L c k with
  | false => rfl
  | true =>
    obtain ⟨e, h1, h2⟩ := List.any_eq_true.mp hq
    have h3 := List.all_eq_true.mp h e h1
    simp only [Bool.and_eq_true] at h2
    rw [h2.1] at h3
    cases h3
theorem by_fr {L : List (Nat × Option Nat)} {u u' : ac_U} (hF : ac_Fr L u u') (h1 : L.all (fun e => !(e.1 == 2)) = true) (h2 : L.all (fun e => !(e.1 == 86)) = true) (h : byI u) : byI u' := fun k => by
  rw [hF 2 k (cv_no h1), hF 86 k (cv_no h2)]
  exact h k
/-- a call of the class leaves the reference's cells, a call of the reference the class's -/
theorem kC {L : List (Nat × Option Nat)} {u u' : ac_U} (hF : ac_Fr L u u') (h : L.all (fun e => decide (e.1 < 85)) = true) {c k : Nat} (hc : 85 ≤ c) : u'.1 c k = u.1 c k := by
  refine hF c k (cv_no (List.all_eq_true.mpr (fun e he => ?_)))
  have := List.all_eq_true.mp h e he
  simp only [decide_eq_true_eq] at this
  simp only [Bool.not_eq_true', beq_eq_false_iff_ne, ne_eq]
  omega
theorem kR {L : List (Nat × Option Nat)} {u u' : ac_U} (hF : ac_Fr L u u') (h : L.all (fun e => decide (85 ≤ e.1)) = true) {c k : Nat} (hc : c < 85) : u'.1 c k = u.1 c k := by
  refine hF c k (cv_no (List.all_eq_true.mpr (fun e he => ?_)))
  have := List.all_eq_true.mp h e he
  simp only [decide_eq_true_eq] at this
  simp only [Bool.not_eq_true', beq_eq_false_iff_ne, ne_eq]
  omega

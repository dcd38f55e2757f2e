/-! Ranges and frames of a state; ints by their values; branches that hand over comparisons of values. -/
section AC4
variable {rg : Nat → Nat → Int × Int} {u u' u'' : ac_U} {L L2 : List (Nat × Option Nat)}
def ac_R (rg : Nat → Nat → Int × Int) (u : ac_U) : Prop := ∀ c k, (rg c k).1 ≤ (u.1 c k).toInt ∧ (u.1 c k).toInt ≤ (rg c k).2
theorem ac_R.si (h : ac_R rg u) {c k : Nat} {v : Int32} (hv : (rg c k).1 ≤ v.toInt ∧ v.toInt ≤ (rg c k).2) : ac_R rg (ac_si u c (upd (u.1 c) k v)) := by
  intro d j
  by_cases hd : d = c
  · subst hd
    rw [ac_si_s]
    by_cases hj : j = k
    · subst hj
      simpa [upd] using hv
    · simpa [upd, hj] using h d j
  · rw [(ac_si_o d hd).1]
    exact h d j
theorem ac_R.sg (h : ac_R rg u) {c : Nat} {g : Nat → Int32} (hg : ∀ k, (rg c k).1 ≤ (g k).toInt ∧ (g k).toInt ≤ (rg c k).2) : ac_R rg (ac_si u c g) := by
  intro d j
  by_cases hd : d = c
  · subst hd
    rw [ac_si_s]
    exact hg j
  · rw [(ac_si_o d hd).1]
    exact h d j
def ac_cv (L : List (Nat × Option Nat)) (c k : Nat) : Bool := L.any (fun e => e.1 == c && (match e.2 with | none => true | some j => j == k))
def ac_Fr (L : List (Nat × Option Nat)) (u u' : ac_U) : Prop := ∀ c k, ac_cv L c k = false → u'.1 c k = u.1 c k
theorem ac_Fr.rf : ac_Fr L u u := fun _ _ _ => rfl
theorem ac_Fr.si (h : ac_Fr L u u') {c k : Nat} {v : Int32} (hc : ac_cv L c k = true) : ac_Fr L u (ac_si u' c (upd (u'.1 c) k v)) := by
  intro d j hj
  by_cases hd : d = c
  · subst hd
    rw [ac_si_s]
    have hk : j ≠ k := fun q => by subst q; rw [hc] at hj; cases hj
    simp only [upd, hk, if_false]
    exact h d j hj
  · rw [(ac_si_o d hd).1]
    exact h d j hj
theorem ac_Fr.sg (h : ac_Fr L u u') {c : Nat} {g : Nat → Int32} (hc : ∀ k, ac_cv L c k = true) : ac_Fr L u (ac_si u' c g) := by
  intro d j hj
  by_cases hd : d = c
  · subst hd
    rw [hc] at hj
    cases hj
  · rw [(ac_si_o d hd).1]
    exact h d j hj
def ac_sub (L2 L : List (Nat × Option Nat)) : Bool := L2.all (fun e => L.any (fun f => f.1 == e.1 && (f.2 == none || f.2 == e.2)))
theorem ac_sub_cv (hs : ac_sub L2 L = true) {c k : Nat} (h : ac_cv L c k = false) : ac_cv L2 c k = false := by
  cases hq : ac_cv L2 c k with
  | false => rfl
  | true =>
    exfalso
    obtain ⟨e, he, h2⟩ := List.any_eq_true.mp hq
    have h3 := List.all_eq_true.mp hs e he
    obtain ⟨f, hf, h4⟩ := List.any_eq_true.mp h3
    have h5 : ac_cv L c k = true := by
      refine List.any_eq_true.mpr ⟨f, hf, ?_⟩
      simp only [Bool.and_eq_true, beq_iff_eq, Bool.or_eq_true] at h2 h4 ⊢
      refine ⟨h4.1.trans h2.1, ?_⟩
      rcases h4.2 with h | h
      · rw [h]
      · rw [h]; exact h2.2
    rw [h] at h5
    cases h5
theorem ac_Fr.tr (h : ac_Fr L u u') (h2 : ac_Fr L2 u' u'') (hs : ac_sub L2 L = true) : ac_Fr L u u'' :=
  fun c k hc => (h2 c k (ac_sub_cv hs hc)).trans (h c k hc)
theorem i_bm {z : Int} (h1 : -2147483648 ≤ z) (h2 : z ≤ 2147483647) : z.bmod (2 ^ 32) = z := by
  have e : ((2 ^ 32 : Nat) : Int) = 4294967296 := by decide
  unfold Int.bmod
  simp only [e]
  split <;> omega
variable {x y : Int32} {a b : Int}
theorem i_lo (x : Int32) : -2147483648 ≤ x.toInt := Int32.le_toInt x
theorem i_hi (x : Int32) : x.toInt ≤ 2147483647 := by have := Int32.toInt_lt x; omega
theorem i_add (hx : x.toInt = a) (hy : y.toInt = b) (h : -2147483648 ≤ a + b ∧ a + b ≤ 2147483647) : (x + y).toInt = a + b := by
  rw [Int32.toInt_add, hx, hy]; exact i_bm h.1 h.2
theorem i_sub (hx : x.toInt = a) (hy : y.toInt = b) (h : -2147483648 ≤ a - b ∧ a - b ≤ 2147483647) : (x - y).toInt = a - b := by
  rw [Int32.toInt_sub, hx, hy]; exact i_bm h.1 h.2
theorem i_mul (hx : x.toInt = a) (hy : y.toInt = b) (h : -2147483648 ≤ a * b ∧ a * b ≤ 2147483647) : (x * y).toInt = a * b := by
  rw [Int32.toInt_mul, hx, hy]; exact i_bm h.1 h.2
theorem i_lt (hx : x.toInt = a) (hy : y.toInt = b) : x < y ↔ a < b := by rw [Int32.lt_iff_toInt_lt, hx, hy]
theorem i_le (hx : x.toInt = a) (hy : y.toInt = b) : x ≤ y ↔ a ≤ b := by rw [Int32.le_iff_toInt_le, hx, hy]
theorem i_eq (hx : x.toInt = a) (hy : y.toInt = b) : x = y ↔ a = b := by rw [← Int32.toInt_inj, hx, hy]
theorem i_in {n : Nat} (hx : x.toInt = a) (h : 0 ≤ a ∧ a < n) : vp_in x n := vp_in_iff.mpr (by rw [hx]; exact h)
theorem i_nn {n : Nat} (hx : x.toInt = a) (h : a = n) : x.toNatClampNeg = n := by
  have e : x.toNatClampNeg = x.toInt.toNat := rfl
  rw [e, hx, h]
  simp
theorem i_cl (h : 0 ≤ x.toInt) : (x.toNatClampNeg : Int) = x.toInt := by
  have : x.toNatClampNeg = x.toInt.toNat := rfl
  rw [this, Int.toNat_of_nonneg h]
end AC4

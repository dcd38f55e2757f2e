/-! Steps in a small graph: what is reached in eight steps is all that is reached. -/
def bl (E : Nat → Nat → Prop) (S : Nat → Prop) : Nat → Nat → Prop
  | 0 => S
  | r + 1 => fun i => bl E S r i ∨ ∃ j, j < 8 ∧ bl E S r j ∧ E j i
theorem bl_up {E : Nat → Nat → Prop} {S : Nat → Prop} {r i : Nat} (h : bl E S r i) : ∀ n, bl E S (r + n) i := by
  intro n
  induction n with
  | zero => exact h
  | succ n ih => exact Or.inl ih
theorem bl_le {E : Nat → Nat → Prop} {S : Nat → Prop} {r n i : Nat} (hn : r ≤ n) (h : bl E S r i) : bl E S n i := by
  have := bl_up h (n - r)
  rw [show r + (n - r) = n by omega] at this
  exact this
theorem bl_st {E : Nat → Nat → Prop} {S : Nat → Prop} {r : Nat} (hE : ∀ i j, E i j → j < 8) (hS : ∀ i, S i → i < 8) (h : ∀ i, i < 8 → bl E S (r + 1) i → bl E S r i) : ∀ n i, bl E S (r + n) i → bl E S r i := by
  have h8 : ∀ n i, bl E S n i → i < 8 := by
    intro n
    induction n with
    | zero => exact hS
    | succ n ih => intro i q; rcases q with q | ⟨j, _, _, q⟩; exact ih i q; exact hE _ _ q
  intro n
  induction n with
  | zero => exact fun _ q => q
  | succ n ih =>
    intro i q
    have hi := h8 _ _ q
    rcases q with q | ⟨j, j1, j2, j3⟩
    · exact ih i q
    · exact h i hi (Or.inr ⟨j, j1, ih j j2, j3⟩)
noncomputable def b1 (p : Prop) : Nat := by
  classical
  exact if p then 1 else 0
theorem b1_le (p : Prop) : b1 p ≤ 1 := by
  unfold b1
  split <;> decide
theorem b1_mono {p q : Prop} (h : p → q) : b1 p ≤ b1 q := by
  unfold b1
  by_cases hp : p
  · rw [if_pos hp, if_pos (h hp)]; exact Nat.le_refl 1
  · rw [if_neg hp]; exact Nat.zero_le _
theorem b1_lt {p q : Prop} (h : ¬ p) (hq : q) : b1 p < b1 q := by
  unfold b1
  rw [if_neg h, if_pos hq]
  decide
theorem b1_p {p : Prop} (h : p) : b1 p = 1 := by
  unfold b1
  rw [if_pos h]
noncomputable def cd8 (S : Nat → Prop) : Nat := b1 (S 0) + b1 (S 1) + b1 (S 2) + b1 (S 3) + b1 (S 4) + b1 (S 5) + b1 (S 6) + b1 (S 7)
theorem cd8_le (S : Nat → Prop) : cd8 S ≤ 8 := by
  have h := fun i => b1_le (S i)
  have := h 0; have := h 1; have := h 2; have := h 3; have := h 4; have := h 5; have := h 6; have := h 7
  unfold cd8
  omega
theorem cd8_lt {S T : Nat → Prop} (h : ∀ i, S i → T i) {k : Nat} (hk : k < 8) (h1 : ¬ S k) (h2 : T k) : cd8 S < cd8 T := by
  have m := fun i => b1_mono (h i)
  have := m 0; have := m 1; have := m 2; have := m 3; have := m 4; have := m 5; have := m 6; have := m 7
  have l := b1_lt h1 h2
  unfold cd8
  rcases (show k = 0 ∨ k = 1 ∨ k = 2 ∨ k = 3 ∨ k = 4 ∨ k = 5 ∨ k = 6 ∨ k = 7 by omega) with q | q | q | q | q | q | q | q <;> subst q <;> omega
theorem cd8_pos {S : Nat → Prop} {k : Nat} (hk : k < 8) (h : S k) : 1 ≤ cd8 S := by
  have l := b1_p h
  unfold cd8
  rcases (show k = 0 ∨ k = 1 ∨ k = 2 ∨ k = 3 ∨ k = 4 ∨ k = 5 ∨ k = 6 ∨ k = 7 by omega) with q | q | q | q | q | q | q | q <;> subst q <;> omega
theorem bl_grow (E : Nat → Nat → Prop) (S : Nat → Prop) (b : Nat) (hb : b ≤ cd8 S) : ∀ r, (∃ t, t < r ∧ ∀ i, i < 8 → bl E S (t + 1) i → bl E S t i) ∨ b + r ≤ cd8 (bl E S r) := by
  intro r
  induction r with
  | zero => exact Or.inr hb
  | succ r ih =>
    rcases ih with ⟨t, t1, t2⟩ | ih
    · exact Or.inl ⟨t, by omega, t2⟩
    · by_cases q : ∀ i, i < 8 → bl E S (r + 1) i → bl E S r i
      · exact Or.inl ⟨r, by omega, q⟩
      · refine Or.inr ?_
        have : ∃ i, i < 8 ∧ bl E S (r + 1) i ∧ ¬ bl E S r i := Classical.byContradiction fun z => q fun i hi h => Classical.byContradiction fun y => z ⟨i, hi, h, y⟩
        obtain ⟨i, i1, i2, i3⟩ := this
        have := cd8_lt (S := bl E S r) (T := bl E S (r + 1)) (fun i h => Or.inl h) i1 i3 i2
        omega
/-- all that is reached is reached in eight steps -/
theorem bl_8 {E : Nat → Nat → Prop} {S : Nat → Prop} (hE : ∀ i j, E i j → j < 8) (hS : ∀ i, S i → i < 8) {n i : Nat} (h : bl E S n i) : bl E S 8 i := by
  rcases bl_grow E S 0 (Nat.zero_le _) 9 with ⟨t, t1, t2⟩ | q
  · have h1 := bl_st hE hS t2 n i (bl_le (by omega) h)
    exact bl_le (by omega) h1
  · have := cd8_le (bl E S 9)
    omega
/-- from one place in seven -/
theorem bl_7 {E : Nat → Nat → Prop} {S : Nat → Prop} (hE : ∀ i j, E i j → j < 8) (hS : ∀ i, S i → i < 8) {k : Nat} (hk : S k) {n i : Nat} (h : bl E S n i) : bl E S 7 i := by
  rcases bl_grow E S 1 (cd8_pos (hS k hk) hk) 8 with ⟨t, t1, t2⟩ | q
  · have h1 := bl_st hE hS t2 n i (bl_le (by omega) h)
    exact bl_le (by omega) h1
  · have := cd8_le (bl E S 8)
    omega
theorem bl_tr {E : Nat → Nat → Prop} {S T : Nat → Prop} {n : Nat} (hT : ∀ i, T i → bl E S n i) : ∀ m i, bl E T m i → bl E S (n + m) i := by
  intro m
  induction m with
  | zero => exact hT
  | succ m ih =>
    intro i q
    rcases q with q | ⟨j, j1, j2, j3⟩
    · exact Or.inl (ih i q)
    · exact Or.inr ⟨j, j1, ih j j2, j3⟩
theorem bl_mono {E : Nat → Nat → Prop} {S T : Nat → Prop} (h : ∀ i, S i → T i) : ∀ n i, bl E S n i → bl E T n i := by
  intro n
  induction n with
  | zero => exact h
  | succ n ih =>
    intro i q
    rcases q with q | ⟨j, j1, j2, j3⟩
    · exact Or.inl (ih i q)
    · exact Or.inr ⟨j, j1, ih j j2, j3⟩

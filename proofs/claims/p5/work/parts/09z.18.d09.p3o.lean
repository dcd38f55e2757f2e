/-! Names at image() and restore(), two by two. -/
theorem tk_53 (x : ac_U) : (∀ j, j ≤ 8 → (f_X4_take_53_4_24_43 x).1 55 j = x.1 4 j) ∧ (∀ k, k < 26 → (f_X4_take_53_4_24_43 x).2 61 k = x.2 10 k) ∧ (∀ k, k < 26 → (f_X4_take_53_4_24_43 x).1 62 k = x.1 11 k) ∧ (∀ k, k < 26 → (f_X4_take_53_4_24_43 x).1 63 k = x.1 12 k) := by
  obtain ⟨k1, k2, k3, k4⟩ := cn_55_4 x
  have g : ∀ c k, c = 55 ∨ c = 62 ∨ c = 63 → (f_X4_take_53_4_24_43 x).1 c k = (f_X2_copyFrom_55_4 x).1 c k := fun c k hc => by
    unfold f_X4_take_53_4_24_43
    rw [pI_c (by omega), cp_o (by omega), cp_o (by omega)]
    rcases hc with e | e | e <;> subst e
    · exact q_X8_copyFrom_73_43 _ 55 k rfl
    · exact q_X8_copyFrom_73_43 _ 62 k rfl
    · exact q_X8_copyFrom_73_43 _ 63 k rfl
  have gl : ∀ k, (f_X4_take_53_4_24_43 x).2 61 k = (f_X2_copyFrom_55_4 x).2 61 k := fun k => ql_X8_copyFrom_73_43 _ 61 k rfl
  exact ⟨fun j hj => (g 55 j (by omega)).trans (k1 j hj), fun k hk => (gl k).trans (k2 k hk), fun k hk => (g 62 k (by omega)).trans (k3 k hk), fun k hk => (g 63 k (by omega)).trans (k4 k hk)⟩
theorem gv_53 (x : ac_U) : (∀ j, j ≤ 8 → (f_X4_give_53_4_24_43 x).1 4 j = x.1 55 j) ∧ (∀ k, k < 26 → (f_X4_give_53_4_24_43 x).2 10 k = x.2 61 k) ∧ (∀ k, k < 26 → (f_X4_give_53_4_24_43 x).1 11 k = x.1 62 k) ∧ (∀ k, k < 26 → (f_X4_give_53_4_24_43 x).1 12 k = x.1 63 k) := by
  obtain ⟨k1, k2, k3, k4⟩ := cn_4_55 x
  have g : ∀ c k, c = 4 ∨ c = 11 ∨ c = 12 → (f_X4_give_53_4_24_43 x).1 c k = (f_X2_copyFrom_4_55 x).1 c k := fun c k hc => by
    unfold f_X4_give_53_4_24_43
    rw [pI_c (by omega), cp_o (by omega), cp_o (by omega)]
    rcases hc with e | e | e <;> subst e
    · exact q_X8_copyFrom_43_73 _ 4 k rfl
    · exact q_X8_copyFrom_43_73 _ 11 k rfl
    · exact q_X8_copyFrom_43_73 _ 12 k rfl
  have gl : ∀ k, (f_X4_give_53_4_24_43 x).2 10 k = (f_X2_copyFrom_4_55 x).2 10 k := fun k => ql_X8_copyFrom_43_73 _ 10 k rfl
  exact ⟨fun j hj => (g 4 j (by omega)).trans (k1 j hj), fun k hk => (gl k).trans (k2 k hk), fun k hk => (g 11 k (by omega)).trans (k3 k hk), fun k hk => (g 12 k (by omega)).trans (k4 k hk)⟩
theorem tk_54 (x : ac_U) : (∀ j, j ≤ 8 → (f_X4_take_54_4_24_43 x).1 64 j = x.1 4 j) ∧ (∀ k, k < 26 → (f_X4_take_54_4_24_43 x).2 70 k = x.2 10 k) ∧ (∀ k, k < 26 → (f_X4_take_54_4_24_43 x).1 71 k = x.1 11 k) ∧ (∀ k, k < 26 → (f_X4_take_54_4_24_43 x).1 72 k = x.1 12 k) := by
  obtain ⟨k1, k2, k3, k4⟩ := cn_64_4 x
  have g : ∀ c k, c = 64 ∨ c = 71 ∨ c = 72 → (f_X4_take_54_4_24_43 x).1 c k = (f_X2_copyFrom_64_4 x).1 c k := fun c k hc => by
    unfold f_X4_take_54_4_24_43
    rw [pI_c (by omega), cp_o (by omega), cp_o (by omega)]
    rcases hc with e | e | e <;> subst e
    · exact q_X8_copyFrom_77_43 _ 64 k rfl
    · exact q_X8_copyFrom_77_43 _ 71 k rfl
    · exact q_X8_copyFrom_77_43 _ 72 k rfl
  have gl : ∀ k, (f_X4_take_54_4_24_43 x).2 70 k = (f_X2_copyFrom_64_4 x).2 70 k := fun k => ql_X8_copyFrom_77_43 _ 70 k rfl
  exact ⟨fun j hj => (g 64 j (by omega)).trans (k1 j hj), fun k hk => (gl k).trans (k2 k hk), fun k hk => (g 71 k (by omega)).trans (k3 k hk), fun k hk => (g 72 k (by omega)).trans (k4 k hk)⟩
theorem gv_54 (x : ac_U) : (∀ j, j ≤ 8 → (f_X4_give_54_4_24_43 x).1 4 j = x.1 64 j) ∧ (∀ k, k < 26 → (f_X4_give_54_4_24_43 x).2 10 k = x.2 70 k) ∧ (∀ k, k < 26 → (f_X4_give_54_4_24_43 x).1 11 k = x.1 71 k) ∧ (∀ k, k < 26 → (f_X4_give_54_4_24_43 x).1 12 k = x.1 72 k) := by
  obtain ⟨k1, k2, k3, k4⟩ := cn_4_64 x
  have g : ∀ c k, c = 4 ∨ c = 11 ∨ c = 12 → (f_X4_give_54_4_24_43 x).1 c k = (f_X2_copyFrom_4_64 x).1 c k := fun c k hc => by
    unfold f_X4_give_54_4_24_43
    rw [pI_c (by omega), cp_o (by omega), cp_o (by omega)]
    rcases hc with e | e | e <;> subst e
    · exact q_X8_copyFrom_43_77 _ 4 k rfl
    · exact q_X8_copyFrom_43_77 _ 11 k rfl
    · exact q_X8_copyFrom_43_77 _ 12 k rfl
  have gl : ∀ k, (f_X4_give_54_4_24_43 x).2 10 k = (f_X2_copyFrom_4_64 x).2 10 k := fun k => ql_X8_copyFrom_43_77 _ 10 k rfl
  exact ⟨fun j hj => (g 4 j (by omega)).trans (k1 j hj), fun k hk => (gl k).trans (k2 k hk), fun k hk => (g 11 k (by omega)).trans (k3 k hk), fun k hk => (g 12 k (by omega)).trans (k4 k hk)⟩
theorem tw_image_nm {u u1 u2 : ac_U} {L2 : List (Nat × Option Nat)} {p r1 r2 : Int32} (hF2 : ac_Fr L2 u1 u2) (h2 : L2.all (fun e => decide (85 ≤ e.1)) = true) (x1 : f_X11_image_0 u p = (u1, r1)) (x2 : f_X12_image_85 u1 p = (u2, r2)) (hZ : nnI u) : nnI u2 := by
  have f : ∀ c, c < 85 → u2.1 c = u1.1 c := fun c hc => funext fun k => kR hF2 h2 hc
  have s1 := qs_X11_image_0 u p
  rw [x1] at s1
  have s2 := qs_X12_image_85 u1 p
  rw [x2] at s2
  have hL := image_L u1 p
  rw [x2] at hL
  have l10 : u2.2 10 = u.2 10 := funext fun k => (s2 10 k rfl rfl).trans (s1 10 k rfl rfl)
  have l90 : u1.2 90 = u.2 90 := funext fun k => s1 90 k rfl rfl
  have m90 : u2.2 90 = u.2 90 := funext fun k => (s2 90 k rfl rfl).trans (s1 90 k rfl rfl)
  have l103 : u1.2 103 = u.2 103 := funext fun k => s1 103 k rfl rfl
  have l61 : u2.2 61 = u1.2 61 := funext fun k => s2 61 k rfl rfl
  have l70 : u2.2 70 = u1.2 70 := funext fun k => s2 70 k rfl rfl
  unfold nnI NA NB NC
  rw [f 4 (by decide), f 11 (by decide), f 12 (by decide), f 53 (by decide), f 54 (by decide), f 55 (by decide), f 62 (by decide), f 63 (by decide), f 64 (by decide), f 71 (by decide), f 72 (by decide), l10, m90, l61, l70]
  by_cases hp : p.toInt < 0 ∨ 1 < p.toInt
  · have e1 : u1 = u := by
      unfold f_X11_image_0 at x1
      rcases hp with q | q
      · rw [if_pos q] at x1
        exact (congrArg Prod.fst x1).symm
      · rw [if_neg (by omega), if_neg (by omega)] at x1
        exact (congrArg Prod.fst x1).symm
    rw [hL.2 hp, e1]
    exact hZ
  · have hp' : p.toInt = 0 ∨ p.toInt = 1 := by omega
    rcases hp' with q | q
    · have e1 : u1 = f_X4_take_53_4_24_43 u := by
        unfold f_X11_image_0 at x1
        rw [if_neg (by omega), if_pos (by omega), if_pos q] at x1
        exact (congrArg Prod.fst x1).symm
      obtain ⟨t1, t2⟩ := hL.1 0 (by omega) (by decide)
      obtain ⟨k1, k2, k3, k4⟩ := tk_53 u
      have fr := q_X4_take_53_4_24_43 u
      have fl := qs_X4_take_53_4_24_43 u
      rw [← e1] at k1 k2 k3 k4 fr fl
      have a4 : u1.1 4 = u.1 4 := funext fun k => fr 4 k rfl
      have a11 : u1.1 11 = u.1 11 := funext fun k => fr 11 k rfl
      have a12 : u1.1 12 = u.1 12 := funext fun k => fr 12 k rfl
      have a64 : u1.1 64 = u.1 64 := funext fun k => fr 64 k rfl
      have a71 : u1.1 71 = u.1 71 := funext fun k => fr 71 k rfl
      have a72 : u1.1 72 = u.1 72 := funext fun k => fr 72 k rfl
      have a70 : u1.2 70 = u.2 70 := funext fun k => fl 70 k rfl rfl
      refine ⟨?_, fun _ => hZ.1.cg k1 k2 k3 k4 (fun k hk => ?_), fun z => ?_⟩
      · rw [a4, a11, a12]; exact hZ.1
      · have := t1 k hk
        rw [Nat.mul_zero, Nat.zero_add] at this
        rw [this, l90]
      · rw [fr 54 4 rfl] at z
        have e : (fun k => u2.2 103 (26 + k)) = (fun k => u.2 103 (26 + k)) := funext fun k => by rw [t2 _ (by omega), l103]
        rw [a64, a71, a72, a70, e]
        exact hZ.2.2 z
    · have e1 : u1 = f_X4_take_54_4_24_43 u := by
        unfold f_X11_image_0 at x1
        rw [if_neg (by omega), if_pos (by omega), if_neg (by omega)] at x1
        exact (congrArg Prod.fst x1).symm
      obtain ⟨t1, t2⟩ := hL.1 1 (by omega) (by decide)
      obtain ⟨k1, k2, k3, k4⟩ := tk_54 u
      have fr := q_X4_take_54_4_24_43 u
      have fl := qs_X4_take_54_4_24_43 u
      rw [← e1] at k1 k2 k3 k4 fr fl
      have a4 : u1.1 4 = u.1 4 := funext fun k => fr 4 k rfl
      have a11 : u1.1 11 = u.1 11 := funext fun k => fr 11 k rfl
      have a12 : u1.1 12 = u.1 12 := funext fun k => fr 12 k rfl
      refine ⟨?_, fun z => ?_, fun _ => hZ.1.cg k1 k2 k3 k4 (fun k hk => ?_)⟩
      · rw [a4, a11, a12]; exact hZ.1
      · rw [fr 53 4 rfl] at z
        refine (hZ.2.1 z).cg (fun j _ => fr 55 j rfl) (fun k _ => fl 61 k rfl rfl) (fun k _ => fr 62 k rfl) (fun k _ => fr 63 k rfl) (fun k hk => ?_)
        rw [t2 k (by omega), l103]
      · have := t1 k hk
        rw [Nat.mul_one] at this
        show u2.2 103 (26 + k) = _
        rw [this, l90]
theorem tw_restore_nm {u u1 u2 : ac_U} {L1 L2 : List (Nat × Option Nat)} {p r1 r2 : Int32} (hF1 : ac_Fr L1 u u1) (hF2 : ac_Fr L2 u1 u2) (h1 : L1.all (fun e => decide (e.1 < 85)) = true) (h2 : L2.all (fun e => decide (85 ≤ e.1)) = true) (h1' : L1.all (fun e => !(e.1 == 53) && !(e.1 == 54) && !(e.1 == 55) && !(e.1 == 62) && !(e.1 == 63) && !(e.1 == 64) && !(e.1 == 71) && !(e.1 == 72)) = true) (x1 : f_X11_restore_0 u p = (u1, r1)) (x2 : f_X12_restore_85 u1 p = (u2, r2)) (hg0 : (u.1 53 4).toInt = (u.1 104 0).toInt) (hg1 : (u.1 54 4).toInt = (u.1 104 1).toInt) (hZ : nnI u) : nnI u2 := by
  have f : ∀ c, c < 85 → u2.1 c = u1.1 c := fun c hc => funext fun k => kR hF2 h2 hc
  have g : ∀ c k, 85 ≤ c → u1.1 c k = u.1 c k := fun c k hc => kC hF1 h1 hc
  have gg : ∀ c, (c = 53 ∨ c = 54 ∨ c = 55 ∨ c = 62 ∨ c = 63 ∨ c = 64 ∨ c = 71 ∨ c = 72) → u1.1 c = u.1 c := fun c hc => funext fun k => by
    refine hF1 c k (cv_no (List.all_eq_true.mpr (fun e he => ?_)))
    have q := List.all_eq_true.mp h1' e he
    simp only [Bool.and_eq_true, Bool.not_eq_true', beq_eq_false_iff_ne, ne_eq] at q ⊢
    omega
  have s1 := qs_X11_restore_0 u p
  rw [x1] at s1
  have s2 := qs_X12_restore_85 u1 p
  rw [x2] at s2
  obtain ⟨t1, t2, t3⟩ := restore_L u1 p
  rw [x2] at t1 t2 t3
  have l10 : u2.2 10 = u1.2 10 := funext fun k => s2 10 k rfl rfl
  have l90 : u1.2 90 = u.2 90 := funext fun k => s1 90 k rfl rfl
  have l61 : u2.2 61 = u.2 61 := funext fun k => (s2 61 k rfl rfl).trans (s1 61 k rfl rfl)
  have l70 : u2.2 70 = u.2 70 := funext fun k => (s2 70 k rfl rfl).trans (s1 70 k rfl rfl)
  have l103 : u2.2 103 = u.2 103 := funext fun k => (s2 103 k rfl rfl).trans (s1 103 k rfl rfl)
  have m103 : u1.2 103 = u.2 103 := funext fun k => s1 103 k rfl rfl
  unfold nnI NB NC
  rw [f 53 (by decide), f 54 (by decide), f 55 (by decide), f 62 (by decide), f 63 (by decide), f 64 (by decide), f 71 (by decide), f 72 (by decide), gg 53 (by omega), gg 54 (by omega), gg 55 (by omega), gg 62 (by omega), gg 63 (by omega), gg 64 (by omega), gg 71 (by omega), gg 72 (by omega), l61, l70, l103]
  refine ⟨?_, hZ.2.1, hZ.2.2⟩
  unfold NA
  rw [f 4 (by decide), f 11 (by decide), f 12 (by decide), l10]
  have same : u1 = u → u2.2 90 = u1.2 90 → NY (u1.1 4) (u1.2 10) (u1.1 11) (u1.1 12) (u2.2 90) := fun e h => by
    rw [h, e]
    exact hZ.1
  unfold f_X11_restore_0 at x1
  by_cases hp : p.toInt < 0 ∨ 1 < p.toInt
  · refine same ?_ (t3 hp)
    rcases hp with q | q
    · rw [if_pos q] at x1
      exact (congrArg Prod.fst x1).symm
    · rw [if_neg (by omega), if_pos (by omega)] at x1
      exact (congrArg Prod.fst x1).symm
  · rw [if_neg (by omega), if_neg (by omega)] at x1
    by_cases q : p.toInt = 0
    · rw [if_pos q] at x1
      by_cases z : (u.1 53 4).toInt ≠ 0
      · rw [if_pos z, if_pos q] at x1
        have e1 : u1 = f_X4_give_53_4_24_43 u := (congrArg Prod.fst x1).symm
        obtain ⟨k1, k2, k3, k4⟩ := gv_53 u
        rw [← e1] at k1 k2 k3 k4
        refine (hZ.2.1 z).cg k1 k2 k3 k4 (fun k hk => ?_)
        have := t1 0 (by omega) (by decide) (by rw [g 104 0 (by decide)]; omega) k hk
        rw [Nat.mul_zero, Nat.zero_add] at this
        rw [this, m103]
      · rw [if_neg z] at x1
        exact same (congrArg Prod.fst x1).symm (t2 0 (by omega) (by decide) (by rw [g 104 0 (by decide)]; omega))
    · rw [if_neg q] at x1
      by_cases z : (u.1 54 4).toInt ≠ 0
      · rw [if_pos z, if_neg q] at x1
        have e1 : u1 = f_X4_give_54_4_24_43 u := (congrArg Prod.fst x1).symm
        obtain ⟨k1, k2, k3, k4⟩ := gv_54 u
        rw [← e1] at k1 k2 k3 k4
        refine (hZ.2.2 z).cg k1 k2 k3 k4 (fun k hk => ?_)
        have := t1 1 (by omega) (by decide) (by rw [g 104 1 (by decide)]; omega) k hk
        rw [Nat.mul_one] at this
        rw [this, m103]
      · rw [if_neg z] at x1
        exact same (congrArg Prod.fst x1).symm (t2 1 (by omega) (by decide) (by rw [g 104 1 (by decide)]; omega))

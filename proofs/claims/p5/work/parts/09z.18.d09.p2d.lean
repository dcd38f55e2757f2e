/-! The words of a sentence, seen by both readers. -/
theorem ws14 {u w : ac_U} (hT : Tk u w) : ((u.1 1 6).toInt = 114 → f_X12_isWord_85 w (28530 : Int64) = 1) ∧ ((u.1 1 6).toInt ≠ 114 → f_X12_isWord_85 w (28530 : Int64) = 0) := by
  rw [show (28530 : Int64) = Int64.ofNat (ph 8 (toldN 14)) by decide +kernel]
  exact ⟨fun h => (isWord_k hT 14 (by decide)).1 (by omega), fun h => (isWord_k hT 14 (by decide)).2 (by omega)⟩
theorem ws15 {u w : ac_U} (hT : Tk u w) : ((u.1 1 6).toInt = 115 → f_X12_isWord_85 w (6385252 : Int64) = 1) ∧ ((u.1 1 6).toInt ≠ 115 → f_X12_isWord_85 w (6385252 : Int64) = 0) := by
  rw [show (6385252 : Int64) = Int64.ofNat (ph 8 (toldN 15)) by decide +kernel]
  exact ⟨fun h => (isWord_k hT 15 (by decide)).1 (by omega), fun h => (isWord_k hT 15 (by decide)).2 (by omega)⟩
theorem ws16 {u w : ac_U} (hT : Tk u w) : ((u.1 1 6).toInt = 116 → f_X12_isWord_85 w (7237492 : Int64) = 1) ∧ ((u.1 1 6).toInt ≠ 116 → f_X12_isWord_85 w (7237492 : Int64) = 0) := by
  rw [show (7237492 : Int64) = Int64.ofNat (ph 8 (toldN 16)) by decide +kernel]
  exact ⟨fun h => (isWord_k hT 16 (by decide)).1 (by omega), fun h => (isWord_k hT 16 (by decide)).2 (by omega)⟩
theorem ws17 {u w : ac_U} (hT : Tk u w) : ((u.1 1 6).toInt = 117 → f_X12_isWord_85 w (422776761956 : Int64) = 1) ∧ ((u.1 1 6).toInt ≠ 117 → f_X12_isWord_85 w (422776761956 : Int64) = 0) := by
  rw [show (422776761956 : Int64) = Int64.ofNat (ph 8 (toldN 17)) by decide +kernel]
  exact ⟨fun h => (isWord_k hT 17 (by decide)).1 (by omega), fun h => (isWord_k hT 17 (by decide)).2 (by omega)⟩
theorem ws18 {u w : ac_U} (hT : Tk u w) : ((u.1 1 6).toInt = 118 → f_X12_isWord_85 w (1869636974 : Int64) = 1) ∧ ((u.1 1 6).toInt ≠ 118 → f_X12_isWord_85 w (1869636974 : Int64) = 0) := by
  rw [show (1869636974 : Int64) = Int64.ofNat (ph 8 (toldN 18)) by decide +kernel]
  exact ⟨fun h => (isWord_k hT 18 (by decide)).1 (by omega), fun h => (isWord_k hT 18 (by decide)).2 (by omega)⟩
theorem ws19 {u w : ac_U} (hT : Tk u w) : ((u.1 1 6).toInt = 119 → f_X12_isWord_85 w (1801810036 : Int64) = 1) ∧ ((u.1 1 6).toInt ≠ 119 → f_X12_isWord_85 w (1801810036 : Int64) = 0) := by
  rw [show (1801810036 : Int64) = Int64.ofNat (ph 8 (toldN 19)) by decide +kernel]
  exact ⟨fun h => (isWord_k hT 19 (by decide)).1 (by omega), fun h => (isWord_k hT 19 (by decide)).2 (by omega)⟩
theorem ws20 {u w : ac_U} (hT : Tk u w) : ((u.1 1 6).toInt = 120 → f_X12_isWord_85 w (7300710 : Int64) = 1) ∧ ((u.1 1 6).toInt ≠ 120 → f_X12_isWord_85 w (7300710 : Int64) = 0) := by
  rw [show (7300710 : Int64) = Int64.ofNat (ph 8 (toldN 20)) by decide +kernel]
  exact ⟨fun h => (isWord_k hT 20 (by decide)).1 (by omega), fun h => (isWord_k hT 20 (by decide)).2 (by omega)⟩
theorem ws21 {u w : ac_U} (hT : Tk u w) : ((u.1 1 6).toInt = 121 → f_X12_isWord_85 w (108243635103086 : Int64) = 1) ∧ ((u.1 1 6).toInt ≠ 121 → f_X12_isWord_85 w (108243635103086 : Int64) = 0) := by
  rw [show (108243635103086 : Int64) = Int64.ofNat (ph 8 (toldN 21)) by decide +kernel]
  exact ⟨fun h => (isWord_k hT 21 (by decide)).1 (by omega), fun h => (isWord_k hT 21 (by decide)).2 (by omega)⟩
theorem ws22 {u w : ac_U} (hT : Tk u w) : ((u.1 1 6).toInt = 122 → f_X12_isWord_85 w (28518 : Int64) = 1) ∧ ((u.1 1 6).toInt ≠ 122 → f_X12_isWord_85 w (28518 : Int64) = 0) := by
  rw [show (28518 : Int64) = Int64.ofNat (ph 8 (toldN 22)) by decide +kernel]
  exact ⟨fun h => (isWord_k hT 22 (by decide)).1 (by omega), fun h => (isWord_k hT 22 (by decide)).2 (by omega)⟩
theorem ws23 {u w : ac_U} (hT : Tk u w) : ((u.1 1 6).toInt = 123 → f_X12_isWord_85 w (1718775661 : Int64) = 1) ∧ ((u.1 1 6).toInt ≠ 123 → f_X12_isWord_85 w (1718775661 : Int64) = 0) := by
  rw [show (1718775661 : Int64) = Int64.ofNat (ph 8 (toldN 23)) by decide +kernel]
  exact ⟨fun h => (isWord_k hT 23 (by decide)).1 (by omega), fun h => (isWord_k hT 23 (by decide)).2 (by omega)⟩
theorem ws24 {u w : ac_U} (hT : Tk u w) : ((u.1 1 6).toInt = 124 → f_X12_isWord_85 w (1953066092 : Int64) = 1) ∧ ((u.1 1 6).toInt ≠ 124 → f_X12_isWord_85 w (1953066092 : Int64) = 0) := by
  rw [show (1953066092 : Int64) = Int64.ofNat (ph 8 (toldN 24)) by decide +kernel]
  exact ⟨fun h => (isWord_k hT 24 (by decide)).1 (by omega), fun h => (isWord_k hT 24 (by decide)).2 (by omega)⟩
theorem ws25 {u w : ac_U} (hT : Tk u w) : ((u.1 1 6).toInt = 125 → f_X12_isWord_85 w (499984983411 : Int64) = 1) ∧ ((u.1 1 6).toInt ≠ 125 → f_X12_isWord_85 w (499984983411 : Int64) = 0) := by
  rw [show (499984983411 : Int64) = Int64.ofNat (ph 8 (toldN 25)) by decide +kernel]
  exact ⟨fun h => (isWord_k hT 25 (by decide)).1 (by omega), fun h => (isWord_k hT 25 (by decide)).2 (by omega)⟩
theorem ws26 {u w : ac_U} (hT : Tk u w) : ((u.1 1 6).toInt = 126 → f_X12_isWord_85 w (121450625394034 : Int64) = 1) ∧ ((u.1 1 6).toInt ≠ 126 → f_X12_isWord_85 w (121450625394034 : Int64) = 0) := by
  rw [show (121450625394034 : Int64) = Int64.ofNat (ph 8 (toldN 26)) by decide +kernel]
  exact ⟨fun h => (isWord_k hT 26 (by decide)).1 (by omega), fun h => (isWord_k hT 26 (by decide)).2 (by omega)⟩
theorem sg_k {u w : ac_U} (h3 : Tk u w) (c : Int32) (hc : isSg c.toInt) : ((u.1 1 6).toInt = c.toInt → f_X12_isSign_85 w c = 1) ∧ ((u.1 1 6).toInt ≠ c.toInt → f_X12_isSign_85 w c = 0) := by
  unfold isSg at hc
  have h0 : (w.1 85 11).toInt ≠ 3 → f_X12_isSign_85 w c = 0 := fun q => by
    unfold f_X12_isSign_85 K_X12_isSign_85_20; rw [if_pos q]
  obtain ⟨-, h | h | h | h | h⟩ := h3
  · exact ⟨fun q => by omega, fun _ => h0 (by omega)⟩
  · exact ⟨fun q => by omega, fun _ => h0 (by omega)⟩
  · exact ⟨fun q => by omega, fun _ => h0 (by omega)⟩
  · obtain ⟨h1, h2, h4⟩ := h
    unfold f_X12_isSign_85 K_X12_isSign_85_20
    rw [if_neg (fun q => q h2), h4]
    by_cases q : (u.1 1 6).toInt = c.toInt
    · rw [if_neg (fun z => z q)]
      exact ⟨fun _ => rfl, fun z => absurd q z⟩
    · rw [if_pos q]
      exact ⟨fun z => absurd z q, fun _ => rfl⟩
  · obtain ⟨h1, n, -, d1, d2⟩ := h
    refine ⟨fun q => ?_, fun _ => h0 (by omega)⟩
    exfalso
    by_cases hall : ∀ j : Nat, j < 27 → n ≠ toldN j
    · have := d2 hall; omega
    · obtain ⟨j, hj⟩ := Classical.not_forall.mp hall
      have hj1 : j < 27 := Classical.byContradiction (fun a => hj (fun b => absurd b a))
      have hj2 : n = toldN j := Classical.byContradiction (fun a => hj (fun _ => a))
      have := d1 j hj1 hj2
      omega
theorem leaf_v {u w : ac_U} (hT : Tk u w) : (∃ L : Int32, f_X12_leafOf_85 w = L ∧ 117 ≤ (u.1 1 6).toInt ∧ (u.1 1 6).toInt ≤ 126 ∧ L.toInt = (u.1 1 6).toInt - 117) ∨ (((u.1 1 6).toInt < 117 ∨ 126 < (u.1 1 6).toInt) ∧ f_X12_leafOf_85 w = -1) := by
  unfold f_X12_leafOf_85
  simp only [vl]
  by_cases h0 : (u.1 1 6).toInt = 117
  · rw [(ws17 hT).1 h0, if_neg n1']
    exact Or.inl ⟨(0 : Int32), rfl, by omega, by omega, by rw [h0]; decide⟩
  rw [(ws17 hT).2 h0, if_pos t0i]
  by_cases h1 : (u.1 1 6).toInt = 118
  · rw [(ws18 hT).1 h1, if_neg n1']
    exact Or.inl ⟨(1 : Int32), rfl, by omega, by omega, by rw [h1]; decide⟩
  rw [(ws18 hT).2 h1, if_pos t0i]
  by_cases h2 : (u.1 1 6).toInt = 119
  · rw [(ws19 hT).1 h2, if_neg n1']
    exact Or.inl ⟨(2 : Int32), rfl, by omega, by omega, by rw [h2]; decide⟩
  rw [(ws19 hT).2 h2, if_pos t0i]
  by_cases h3 : (u.1 1 6).toInt = 120
  · rw [(ws20 hT).1 h3, if_neg n1']
    exact Or.inl ⟨(3 : Int32), rfl, by omega, by omega, by rw [h3]; decide⟩
  rw [(ws20 hT).2 h3, if_pos t0i]
  by_cases h4 : (u.1 1 6).toInt = 121
  · rw [(ws21 hT).1 h4, if_neg n1']
    exact Or.inl ⟨(4 : Int32), rfl, by omega, by omega, by rw [h4]; decide⟩
  rw [(ws21 hT).2 h4, if_pos t0i]
  by_cases h5 : (u.1 1 6).toInt = 122
  · rw [(ws22 hT).1 h5, if_neg n1']
    exact Or.inl ⟨(5 : Int32), rfl, by omega, by omega, by rw [h5]; decide⟩
  rw [(ws22 hT).2 h5, if_pos t0i]
  by_cases h6 : (u.1 1 6).toInt = 123
  · rw [(ws23 hT).1 h6, if_neg n1']
    exact Or.inl ⟨(6 : Int32), rfl, by omega, by omega, by rw [h6]; decide⟩
  rw [(ws23 hT).2 h6, if_pos t0i]
  by_cases h7 : (u.1 1 6).toInt = 124
  · rw [(ws24 hT).1 h7, if_neg n1']
    exact Or.inl ⟨(7 : Int32), rfl, by omega, by omega, by rw [h7]; decide⟩
  rw [(ws24 hT).2 h7, if_pos t0i]
  by_cases h8 : (u.1 1 6).toInt = 125
  · rw [(ws25 hT).1 h8, if_neg n1']
    exact Or.inl ⟨(8 : Int32), rfl, by omega, by omega, by rw [h8]; decide⟩
  rw [(ws25 hT).2 h8, if_pos t0i]
  by_cases h9 : (u.1 1 6).toInt = 126
  · rw [(ws26 hT).1 h9, if_neg n1']
    exact Or.inl ⟨(9 : Int32), rfl, by omega, by omega, by rw [h9]; decide⟩
  rw [(ws26 hT).2 h9, if_pos t0i]
  exact Or.inr ⟨by omega, rfl⟩
/-! The reference's operand. -/
theorem op_bad {u w : ac_U} (hT : Tk u w) (ht : (u.1 1 6).toInt ≠ 40 ∧ ((u.1 1 6).toInt < 116 ∨ 126 < (u.1 1 6).toInt)) : f_X12_operand_85 w = f_X12_bad_85 w (1 : Int32) := by
  have a40 : (40 : Int32).toInt = 40 := by decide
  have hs := (sg_k hT (40 : Int32) (by unfold isSg; omega)).2 (by omega)
  have hl : f_X12_leafOf_85 w = -1 := by
    rcases leaf_v hT with ⟨L, _, h1, h2, _⟩ | ⟨_, h⟩
    · omega
    · exact h
  simp only [f_X12_operand_85, vl, bd]
  rw [(ws16 hT).2 (by omega), if_neg n0, hs, if_neg n0, hl, if_neg (show ¬ (0 : Int) ≤ (-1 : Int32).toInt by decide)]
theorem op_many {u w : ac_U} (hT : Tk u w) (ht : (u.1 1 6).toInt = 40 ∨ (116 ≤ (u.1 1 6).toInt ∧ (u.1 1 6).toInt ≤ 126)) (hm : (w.1 85 40).toInt = 20 ∨ ¬ (w.1 85 42).toInt ≤ 8) : f_X12_operand_85 w = f_X12_bad_85 w (4 : Int32) := by
  have a40 : (40 : Int32).toInt = 40 := by decide
  have hK : ∀ x1 x2 x3 : Int32, K_X12_operand_85_38 w w x1 x2 x3 = f_X12_bad_85 w (4 : Int32) := fun x1 x2 x3 => by
    simp only [K_X12_operand_85_38, K_X12_operand_85_56, vl, bd]
    rcases hm with q | q
    · rw [if_pos q]
    · by_cases z : (w.1 85 40).toInt = 20
      · rw [if_pos z]
      · rw [if_neg z, if_neg q]
  simp only [f_X12_operand_85, vl, bd]
  by_cases h16 : (u.1 1 6).toInt = 116
  · rw [(ws16 hT).1 h16, if_pos n1, hK]
  · rw [(ws16 hT).2 h16, if_neg n0]
    by_cases h40 : (u.1 1 6).toInt = 40
    · rw [(sg_k hT (40 : Int32) (by unfold isSg; omega)).1 (by omega), if_pos n1, hK]
    · rw [(sg_k hT (40 : Int32) (by unfold isSg; omega)).2 (by omega), if_neg n0]
      rcases leaf_v hT with ⟨L, e, h1, h2, h3⟩ | ⟨h1, _⟩
      · rw [e, if_pos (by omega), hK]
      · omega
/-- the push of a sign x -/
def psh (v : ac_U) (x : Int32) : ac_U := pI (pI (pI v 100 (v.1 85 41).toNatClampNeg x) 85 41 (v.1 85 41 + 1)) 85 42 (v.1 85 42 + 1)
theorem op_not {u w : ac_U} (hT : Tk u w) (ht : (u.1 1 6).toInt = 116) (h20 : ¬ (w.1 85 40).toInt = 20) (h8 : (w.1 85 42).toInt ≤ 8) : f_X12_operand_85 w = (psh (f_X12_next_85 (pI w 85 40 (w.1 85 40 + 1))) (20 : Int32), 1) := by
  simp only [f_X12_operand_85, K_X12_operand_85_38, K_X12_operand_85_84, vl, bd]
  rw [(ws16 hT).1 ht, if_pos n1, if_neg h20, if_pos h8, if_pos n1, if_neg n1']
  rfl
theorem op_open {u w : ac_U} (hT : Tk u w) (ht : (u.1 1 6).toInt = 40) (h20 : ¬ (w.1 85 40).toInt = 20) (h8 : (w.1 85 42).toInt ≤ 8) : f_X12_operand_85 w = (psh (f_X12_next_85 (pI w 85 40 (w.1 85 40 + 1))) (23 : Int32), 1) := by
  have a40 : (40 : Int32).toInt = 40 := by decide
  simp only [f_X12_operand_85, K_X12_operand_85_38, K_X12_operand_85_84, vl, bd]
  rw [(ws16 hT).2 (by omega), if_neg n0, (sg_k hT (40 : Int32) (by unfold isSg; omega)).1 (by omega), if_pos n1, if_neg h20, if_pos h8, if_neg n0, if_neg n1', if_pos t0i]
  rfl
/-- behind the word of a ONE without more -/
def opl (v : ac_U) : ac_U := pI v 85 43 (1 : Int32)
theorem op_leaf {u w : ac_U} (hT : Tk u w) (ht : 117 ≤ (u.1 1 6).toInt ∧ (u.1 1 6).toInt ≤ 121) (h20 : ¬ (w.1 85 40).toInt = 20) (h8 : (w.1 85 42).toInt ≤ 8) : ∃ L : Int32, f_X12_operand_85 w = (f_X12_code_85 (opl (f_X12_next_85 (pI w 85 40 (w.1 85 40 + 1)))) L (0 : Int32) (0 : Int32), 1) := by
  have a40 : (40 : Int32).toInt = 40 := by decide
  rcases leaf_v hT with ⟨L, e, h1, h2, h3⟩ | ⟨h1, _⟩
  · refine ⟨L, ?_⟩
    simp only [f_X12_operand_85, K_X12_operand_85_38, vl, bd]
    rw [(ws16 hT).2 (by omega), if_neg n0, (sg_k hT (40 : Int32) (by unfold isSg; omega)).2 (by omega), if_neg n0, e, if_pos (by omega), if_neg h20, if_pos h8, if_neg n0, if_pos t0i, if_neg (by omega)]
    rfl
  · omega
theorem op_of {u w : ac_U} (hT : Tk u w) (ht : (u.1 1 6).toInt = 122) (h20 : ¬ (w.1 85 40).toInt = 20) (h8 : (w.1 85 42).toInt ≤ 8) : ∃ L : Int32, f_X12_operand_85 w = if (f_X12_looksAt_85 (opl (f_X12_next_85 (pI w 85 40 (w.1 85 40 + 1)))) (8 : Int32) ((f_X12_next_85 (pI w 85 40 (w.1 85 40 + 1))).1 87 4)).2.toInt ≠ 0 then (f_X12_next_85 (f_X12_code_85 (f_X12_looksAt_85 (opl (f_X12_next_85 (pI w 85 40 (w.1 85 40 + 1)))) (8 : Int32) ((f_X12_next_85 (pI w 85 40 (w.1 85 40 + 1))).1 87 4)).1 L (0 : Int32) ((f_X12_looksAt_85 (opl (f_X12_next_85 (pI w 85 40 (w.1 85 40 + 1)))) (8 : Int32) ((f_X12_next_85 (pI w 85 40 (w.1 85 40 + 1))).1 87 4)).1.1 85 18)), 1) else ((f_X12_looksAt_85 (opl (f_X12_next_85 (pI w 85 40 (w.1 85 40 + 1)))) (8 : Int32) ((f_X12_next_85 (pI w 85 40 (w.1 85 40 + 1))).1 87 4)).1, 0) := by
  have a40 : (40 : Int32).toInt = 40 := by decide
  rcases leaf_v hT with ⟨L, e, h1, h2, h3⟩ | ⟨h1, _⟩
  · refine ⟨L, ?_⟩
    simp only [f_X12_operand_85, K_X12_operand_85_38, vl, bd]
    rw [(ws16 hT).2 (by omega), if_neg n0, (sg_k hT (40 : Int32) (by unfold isSg; omega)).2 (by omega), if_neg n0, e, if_pos (by omega), if_neg h20, if_pos h8, if_neg n0, if_pos t0i, if_pos (by omega), if_neg (fun z => z (by omega))]
    rfl
  · omega
theorem op_cmp {u w : ac_U} (hT : Tk u w) (ht : 123 ≤ (u.1 1 6).toInt ∧ (u.1 1 6).toInt ≤ 126) (h20 : ¬ (w.1 85 40).toInt = 20) (h8 : (w.1 85 42).toInt ≤ 8) : ∃ L : Int32, f_X12_operand_85 w = (let v := f_X12_next_85 (pI w 85 40 (w.1 85 40 + 1)); if (v.1 85 11).toInt ≠ (3 : Int) then f_X12_bad_85 (opl v) (1 : Int32) else if (v.1 85 14).toInt < (60 : Int) then f_X12_bad_85 (opl v) (1 : Int32) else if (v.1 85 14).toInt ≤ (62 : Int) then (let y := f_X12_next_85 (opl v); if (y.1 85 11).toInt = (2 : Int) then (f_X12_next_85 (f_X12_code_85 y L (v.1 85 14) (y.1 85 14)), 1) else f_X12_bad_85 y (1 : Int32)) else f_X12_bad_85 (opl v) (1 : Int32)) := by
  have a40 : (40 : Int32).toInt = 40 := by decide
  rcases leaf_v hT with ⟨L, e, h1, h2, h3⟩ | ⟨h1, _⟩
  · refine ⟨L, ?_⟩
    simp only [f_X12_operand_85, K_X12_operand_85_38, K_X12_operand_85_209, vl, bd]
    rw [(ws16 hT).2 (by omega), if_neg n0, (sg_k hT (40 : Int32) (by unfold isSg; omega)).2 (by omega), if_neg n0, e, if_pos (by omega), if_neg h20, if_pos h8, if_neg n0, if_pos t0i, if_pos (by omega), if_pos (by omega)]
    rfl
  · omega
/-! What comes behind an operand. -/
/-- the push of AND, OR -/
def pshB (v : ac_U) (x : Int32) : ac_U := pI (pI (pI v 100 (v.1 85 41).toNatClampNeg x) 85 41 (v.1 85 41 + 1)) 85 43 (0 : Int32)
theorem bh_and {w : ac_U} (h1 : f_X12_isWord_85 (f_X12_nots_85 w) (6385252 : Int64) = 1) (h2 : f_X12_isWord_85 (f_X12_joins_85 (f_X12_nots_85 w) (21 : Int32)) (6385252 : Int64) = 1) : f_X12_behind_85 w = (f_X12_next_85 (pshB (f_X12_joins_85 (f_X12_nots_85 w) (21 : Int32)) (21 : Int32)), 1) := by
  simp only [f_X12_behind_85, K_X12_behind_85_24, vl, bd]
  rw [h1, if_pos n1, if_neg n1', h2, if_neg n1']
  rfl
theorem bh_or {w : ac_U} (h1 : f_X12_isWord_85 (f_X12_nots_85 w) (6385252 : Int64) = 0) (h3 : f_X12_isWord_85 (f_X12_nots_85 w) (28530 : Int64) = 1) (h2 : f_X12_isWord_85 (f_X12_joins_85 (f_X12_nots_85 w) (22 : Int32)) (6385252 : Int64) = 0) : f_X12_behind_85 w = (f_X12_next_85 (pshB (f_X12_joins_85 (f_X12_nots_85 w) (22 : Int32)) (22 : Int32)), 1) := by
  simp only [f_X12_behind_85, K_X12_behind_85_24, vl, bd]
  rw [h1, if_neg n0, h3, if_neg n1', if_pos t0i, h2, if_pos t0i]
  rfl
theorem bh_no {w : ac_U} (h1 : f_X12_isWord_85 (f_X12_nots_85 w) (6385252 : Int64) = 0) (h3 : f_X12_isWord_85 (f_X12_nots_85 w) (28530 : Int64) = 0) : f_X12_behind_85 w = if (f_X12_isSign_85 (f_X12_joins_85 (f_X12_nots_85 w) (22 : Int32)) (41 : Int32)).toInt = 0 then f_X12_bad_85 (f_X12_joins_85 (f_X12_nots_85 w) (22 : Int32)) (1 : Int32) else if ((f_X12_joins_85 (f_X12_nots_85 w) (22 : Int32)).1 85 41).toInt ≠ 0 then (f_X12_next_85 (pI (pI (f_X12_joins_85 (f_X12_nots_85 w) (22 : Int32)) 85 41 ((f_X12_joins_85 (f_X12_nots_85 w) (22 : Int32)).1 85 41 - 1)) 85 42 ((f_X12_joins_85 (f_X12_nots_85 w) (22 : Int32)).1 85 42 - 1)), 1) else f_X12_bad_85 (f_X12_joins_85 (f_X12_nots_85 w) (22 : Int32)) (1 : Int32) := by
  simp only [f_X12_behind_85, K_X12_behind_85_114, vl, bd]
  rw [h1, if_neg n0, h3, if_pos t0i]

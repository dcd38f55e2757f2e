/-! Both readers of a sentence stand before the same token. -/
def Sq (u w : ac_U) : Prop := (InE u w ∧ InR u ∧ At u w ∧ Tk u w) ∧ (u.1 47 4 = w.1 85 40 ∧ 0 ≤ (u.1 47 4).toInt ∧ (u.1 47 4).toInt ≤ 20) ∧ Nq u w ∧ u.1 4 4 = w.1 87 4 ∧ u.1 1 10 = w.1 85 15
theorem Sq.mk2 {u w u' w' : ac_U} (h : Sq u w) (c1 : ∀ k, k ≠ 9 → u'.1 1 k = u.1 1 k) (c2 : u'.1 2 = u.1 2) (c4 : u'.1 4 = u.1 4) (c11 : u'.1 11 = u.1 11) (c12 : u'.1 12 = u.1 12) (l : u'.2 = u.2) (c47 : u'.1 47 4 = u.1 47 4) (r : RS w w') : Sq u' w' := by
  obtain ⟨⟨h1, h2, h3, h4⟩, ⟨h5, h6, h7⟩, h8, h9, h10⟩ := h
  have r85 : ∀ k, ¬ (k = 18 ∨ k = 39 ∨ k = 41 ∨ k = 42 ∨ k = 43) → w'.1 85 k = w.1 85 k := fun k hk => r.1 85 k (by omega)
  have r86 : w'.1 86 = w.1 86 := funext fun k => r.1 86 k (by omega)
  refine ⟨⟨?_, ?_, ?_, ?_⟩, ⟨?_, ?_, ?_⟩, ?_, ?_, ?_⟩
  · unfold InE; rw [c1 2 (by decide), c1 3 (by decide), c1 10 (by decide), c2, r85 3 (by omega), r85 5 (by omega), r85 15 (by omega), r86]; exact h1
  · unfold InR; rw [c1 2 (by decide), c2]; exact h2
  · unfold At; rw [c1 4 (by decide), r85 4 (by omega)]; exact h3
  · unfold Tk Wd; rw [c1 5 (by decide), c1 6 (by decide), c1 8 (by decide), r85 12 (by omega), r85 11 (by omega), r85 14 (by omega), l, r.2]; exact h4
  · rw [c47, r85 40 (by omega)]; exact h5
  · rw [c47]; exact h6
  · rw [c47]; exact h7
  · exact h8.to c4 (by rw [l]) c11 c12 (by rw [r.2])
  · rw [c4, r.1 87 4 (by omega)]; exact h9
  · rw [c1 10 (by decide), r85 15 (by omega)]; exact h10
theorem Sq.r {u w w' : ac_U} (h : Sq u w) (r : RS w w') : Sq u w' := h.mk2 (fun _ _ => rfl) rfl rfl rfl rfl rfl rfl r
theorem Sq.nx {u w : ac_U} (h : Sq u w) : Sq (f_X10_readNext_1 u) (f_X12_next_85 w) ∧ CF u (f_X10_readNext_1 u) ∧ RF w (f_X12_next_85 w) := by
  obtain ⟨⟨h1, h2, h3, h4⟩, ⟨h5, h6, h7⟩, h8, h9, h10⟩ := h
  obtain ⟨f1, f2, f3, f4⟩ := lex (fun _ _ => rfl) ⟨h1, h2, h3⟩
  refine ⟨⟨⟨h1.to f1 f2, h2.to f1, f3, f4⟩, ⟨?_, ?_, ?_⟩, ?_, ?_, ?_⟩, f1, f2⟩
  · rw [f1.1 47 4 (by omega), f2.1 85 40 (by omega)]; exact h5
  · rw [f1.1 47 4 (by omega)]; exact h6
  · rw [f1.1 47 4 (by omega)]; exact h7
  · exact h8.to (funext fun k => f1.1 4 k (by omega)) (funext fun k => f1.2 10 k (by omega)) (funext fun k => f1.1 11 k (by omega)) (funext fun k => f1.1 12 k (by omega)) (funext fun k => f2.2 90 k (by omega))
  · rw [f1.1 4 4 (by omega), f2.1 87 4 (by omega)]; exact h9
  · rw [f1.1 1 10 (by omega), f2.1 85 15 (by omega)]; exact h10
/-- a word more in the class's row of words -/
theorem add_S {u : ac_U} {a b c : Int32} : (∀ d k, ¬ (d = 48 ∨ d = 49 ∨ d = 50 ∨ (d = 47 ∧ k = 3)) → (f_X8_add_47 u a b c).1 d k = u.1 d k) ∧ (f_X8_add_47 u a b c).2 = u.2 := by
  unfold f_X8_add_47
  by_cases q : (40 : Int) ≤ (u.1 47 3).toInt
  · rw [if_pos q]
    exact ⟨fun _ _ _ => rfl, rfl⟩
  · rw [if_neg q]
    simp only [vl]
    refine ⟨fun d k h => ?_, rfl⟩
    by_cases e : d = 47
    · rw [pI_k (by omega), pI_c (by omega), pI_c (by omega), pI_c (by omega)]
    · rw [pI_c e, pI_c (by omega), pI_c (by omega), pI_c (by omega)]
theorem Sq.add {u w : ac_U} (h : Sq u w) {a b c : Int32} : Sq (f_X8_add_47 u a b c) w := by
  obtain ⟨a1, a2⟩ := add_S (u := u) (a := a) (b := b) (c := c)
  exact h.mk2 (fun k _ => a1 1 k (by omega)) (funext fun k => a1 2 k (by omega)) (funext fun k => a1 4 k (by omega)) (funext fun k => a1 11 k (by omega)) (funext fun k => a1 12 k (by omega)) a2 (a1 47 4 (by omega)) RS.rf
/-- one more ONE on both sides -/
theorem Sq.one {u w : ac_U} (h : Sq u w) (h20 : (u.1 47 4).toInt < 20) : Sq (pI u 47 4 (u.1 47 4 + 1)) (pI w 85 40 (w.1 85 40 + 1)) ∧ (u.1 47 4 + 1).toInt = (u.1 47 4).toInt + 1 := by
  obtain ⟨⟨h1, h2, h3, h4⟩, ⟨h5, h6, h7⟩, h8, h9, h10⟩ := h
  have hi : (u.1 47 4 + 1).toInt = (u.1 47 4).toInt + 1 := inc_i (by omega)
  have e1 : ∀ k, (pI u 47 4 (u.1 47 4 + 1)).1 1 k = u.1 1 k := fun k => pI_c (by decide)
  have e85 : ∀ k, k ≠ 40 → (pI w 85 40 (w.1 85 40 + 1)).1 85 k = w.1 85 k := fun k hk => pI_k hk
  refine ⟨⟨⟨?_, ?_, ?_, ?_⟩, ⟨?_, ?_, ?_⟩, ?_, ?_, ?_⟩, hi⟩
  · unfold InE
    rw [e1, e1, e1, e85 3 (by decide), e85 5 (by decide), e85 15 (by decide)]
    exact ⟨h1.1, h1.2.1, fun k => by rw [pI_c (show 2 ≠ 47 by decide), pI_c (show 86 ≠ 85 by decide)]; exact h1.2.2.1 k, h1.2.2.2⟩
  · unfold InR
    rw [e1]
    exact ⟨h2.1, fun k => by rw [pI_c (show 2 ≠ 47 by decide)]; exact h2.2 k⟩
  · unfold At; rw [e1, e85 4 (by decide)]; exact h3
  · unfold Tk Wd; rw [e1, e1, e1, e85 12 (by decide), e85 11 (by decide), e85 14 (by decide)]; exact h4
  · rw [pI_s, pI_s, h5]
  · rw [pI_s]; omega
  · rw [pI_s]; omega
  · exact h8.to rfl rfl rfl rfl rfl
  · exact h9
  · rw [e1, e85 15 (by decide)]; exact h10
/-- before an operand; behind one -/
def OS (u w : ac_U) (σ : List Nat) (d : Nat) : Prop := Sq u w ∧ Sk w σ ∧ w.1 85 43 = 0 ∧ (w.1 85 42).toInt = (d : Int) ∧ 0 ≤ (w.1 85 39).toInt ∧ Cd w σ ≤ 2 * (u.1 47 4).toInt
def WS (u w : ac_U) (σ : List Nat) (d : Nat) : Prop := Sq u w ∧ Sk w σ ∧ w.1 85 43 = 1 ∧ (w.1 85 42).toInt = (d : Int) ∧ 0 ≤ (w.1 85 39).toInt ∧ Cd w σ + 1 ≤ 2 * (u.1 47 4).toInt
theorem WS.add {u w : ac_U} {σ : List Nat} {d : Nat} (h : WS u w σ d) {a b c : Int32} : WS (f_X8_add_47 u a b c) w σ d := by
  obtain ⟨h1, h2, h3, h4, h5, h6⟩ := h
  refine ⟨h1.add, h2, h3, h4, h5, ?_⟩
  rw [add_S.1 47 4 (by omega)]
  exact h6
/-- the reference's loop -/
abbrev LPs (w0 : ac_U) (n : Nat) (w : ac_U) : ac_U × Int32 := K_X12_sentence_85_48 w0 n w (1 : Int32)
def Ms (w : ac_U) : Int := 4 * (21 - (w.1 85 40).toInt) + (w.1 85 41).toInt + 2 * (w.1 85 43).toInt
def Rc (w0 w w' : ac_U) : Prop := ∃ k : Nat, (k : Int) + Ms w' ≤ Ms w ∧ ∀ n, LPs w0 (n + k) w = LPs w0 n w'
theorem Rc.rf {w0 w : ac_U} : Rc w0 w w := ⟨0, by omega, fun _ => rfl⟩
theorem Rc.tr {w0 u v w : ac_U} (h : Rc w0 u v) (g : Rc w0 v w) : Rc w0 u w := by
  obtain ⟨k, h1, h2⟩ := h
  obtain ⟨j, g1, g2⟩ := g
  refine ⟨k + j, by omega, fun n => ?_⟩
  rw [show n + (k + j) = (n + j) + k by omega, h2, g2]
/-- the reference ends with the class's fault -/
def Fl (w0 w u' : ac_U) : Prop := ∃ (k : Nat) (w' : ac_U), (k : Int) ≤ Ms w + 2 ∧ (∀ n, LPs w0 (n + k) w = (w', (-1 : Int32) - w'.1 85 16)) ∧ Ft u' w'
theorem Rc.fl {w0 w v u' : ac_U} (h : Rc w0 w v) (g : Fl w0 v u') : Fl w0 w u' := by
  obtain ⟨k, h1, h2⟩ := h
  obtain ⟨j, w', g1, g2, g3⟩ := g
  refine ⟨k + j, w', by omega, fun n => ?_, g3⟩
  rw [show n + (k + j) = (n + j) + k by omega, h2, g2]
theorem lp_op {w0 w : ac_U} {n : Nat} (h43 : w.1 85 43 = 0) : LPs w0 (n + 1) w = if (f_X12_operand_85 w).2.toInt ≠ 0 then LPs w0 n (f_X12_operand_85 w).1 else ((f_X12_operand_85 w).1, (-1 : Int32) - (f_X12_operand_85 w).1.1 85 16) := by
  show K_X12_sentence_85_48_b (K_X12_sentence_85_48 w0 n) w0 w (1 : Int32) = _
  simp only [K_X12_sentence_85_48_b, K_X12_sentence_85_101, K_X12_sentence_85_125, vl, bd]
  rw [if_neg n1', h43, if_pos t0i, if_pos t0i]
theorem lp_bh {w0 w : ac_U} {n : Nat} (h43 : w.1 85 43 = 1) (ht : (w.1 85 11).toInt ≠ 0) : LPs w0 (n + 1) w = if (f_X12_behind_85 w).2.toInt ≠ 0 then LPs w0 n (f_X12_behind_85 w).1 else ((f_X12_behind_85 w).1, (-1 : Int32) - (f_X12_behind_85 w).1.1 85 16) := by
  show K_X12_sentence_85_48_b (K_X12_sentence_85_48 w0 n) w0 w (1 : Int32) = _
  simp only [K_X12_sentence_85_48_b, K_X12_sentence_85_101, K_X12_sentence_85_125, vl, bd]
  rw [if_neg n1', h43, if_neg n1', if_pos ht, if_neg n1']
theorem lp_st {w0 w : ac_U} {n : Nat} (h43 : w.1 85 43 = 1) (ht : (w.1 85 11).toInt = 0) : LPs w0 (n + 1) w = if ((f_X12_joins_85 (f_X12_nots_85 w) (22 : Int32)).1 85 41).toInt ≤ 0 then K_X12_sentence_85_48 w0 n (f_X12_joins_85 (f_X12_nots_85 w) (22 : Int32)) (0 : Int32) else ((f_X12_bad_85 (f_X12_joins_85 (f_X12_nots_85 w) (22 : Int32)) (1 : Int32)).1, (-1 : Int32) - (f_X12_bad_85 (f_X12_joins_85 (f_X12_nots_85 w) (22 : Int32)) (1 : Int32)).1.1 85 16) := by
  show K_X12_sentence_85_48_b (K_X12_sentence_85_48 w0 n) w0 w (1 : Int32) = _
  simp only [K_X12_sentence_85_48_b, vl, bd]
  rw [if_neg n1', h43, if_neg n1', if_neg (fun z => z ht)]
/-- an operand that fails on both sides -/
theorem fl_op {w0 w w' u' : ac_U} (h43 : w.1 85 43 = 0) (e : f_X12_operand_85 w = (w', 0)) (hM : 0 ≤ Ms w + 1) (hf : Ft u' w') : Fl w0 w u' := by
  refine ⟨1, w', by omega, fun n => ?_, hf⟩
  rw [lp_op h43, e]
  exact if_neg n0
theorem rc_op {w0 w w' : ac_U} (h43 : w.1 85 43 = 0) (e : f_X12_operand_85 w = (w', 1)) (hM : 1 + Ms w' ≤ Ms w) : Rc w0 w w' := by
  refine ⟨1, by omega, fun n => ?_⟩
  rw [lp_op h43, e]
  exact if_pos n1
theorem fl_bh {w0 w w' u' : ac_U} (h43 : w.1 85 43 = 1) (ht : (w.1 85 11).toInt ≠ 0) (e : f_X12_behind_85 w = (w', 0)) (hM : 0 ≤ Ms w + 1) (hf : Ft u' w') : Fl w0 w u' := by
  refine ⟨1, w', by omega, fun n => ?_, hf⟩
  rw [lp_bh h43 ht, e]
  exact if_neg n0
theorem rc_bh {w0 w w' : ac_U} (h43 : w.1 85 43 = 1) (ht : (w.1 85 11).toInt ≠ 0) (e : f_X12_behind_85 w = (w', 1)) (hM : 1 + Ms w' ≤ Ms w) : Rc w0 w w' := by
  refine ⟨1, by omega, fun n => ?_⟩
  rw [lp_bh h43 ht, e]
  exact if_pos n1

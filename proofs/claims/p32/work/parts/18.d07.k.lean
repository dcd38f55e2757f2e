/-! Pure: vows. -/
theorem bit_d : ∀ f, f < 8 → ∀ a, a < 8 → (((1 : Int32) <<< (nI f &&& 31)) >>> (nI a &&& 31)) &&& 1 = if a = f then 1 else 0 := by decide +kernel
theorem bit_01 (x : Int32) : (x &&& 1).toInt = 0 ∨ (x &&& 1).toInt = 1 := by
  have h := i_and (x := x) (y := 1) (b := 1) (by decide) (by decide)
  omega
theorem nI_oI {x : Int32} (h : 0 ≤ x.toInt) : x = nI x.toNatClampNeg := by
  apply Int32.toInt_inj.mp
  have h1 := i_cl (x := x) h
  have h2 := i_hi x
  rw [nI_toInt (by omega), h1]
theorem vbit_or {x a f : Int32} (ha : 0 ≤ a.toInt ∧ a.toInt < 8) (hf : 0 ≤ f.toInt ∧ f.toInt < 8) : vbit (x ||| (1 : Int32) <<< (f &&& 31)) a ↔ (vbit x a ∨ a = f) := by
  unfold vbit
  have h1 := i_cl (x := a) ha.1
  have h2 := i_cl (x := f) hf.1
  have e : ((x ||| (1 : Int32) <<< (f &&& 31)) >>> (a &&& 31)) &&& 1 = ((x >>> (a &&& 31)) &&& 1) ||| ((((1 : Int32) <<< (f &&& 31)) >>> (a &&& 31)) &&& 1) := by
    rw [Int32.shiftRight_or]
    apply Int32.toBitVec_inj.mp
    simp [BitVec.and_or_distrib_right]
  have e2 : (((1 : Int32) <<< (f &&& 31)) >>> (a &&& 31)) &&& 1 = if a.toNatClampNeg = f.toNatClampNeg then 1 else 0 := by
    have := bit_d f.toNatClampNeg (by omega) a.toNatClampNeg (by omega)
    rw [← nI_oI hf.1, ← nI_oI ha.1] at this
    exact this
  rw [e, e2]
  have hp := bit_01 (x >>> (a &&& 31))
  generalize (x >>> (a &&& 31)) &&& 1 = p at hp ⊢
  have hp2 : p = 0 ∨ p = 1 := hp.imp (fun q => Int32.toInt_inj.mp (q.trans t0i.symm)) (fun q => Int32.toInt_inj.mp (q.trans t1i.symm))
  by_cases q : a.toNatClampNeg = f.toNatClampNeg
  · rw [if_pos q]
    have haf : a = f := Int32.toInt_inj.mp (by omega)
    refine ⟨fun _ => Or.inr haf, fun _ => ?_⟩
    rcases hp2 with z | z <;> rw [z] <;> decide
  · rw [if_neg q]
    have haf : a ≠ f := fun z => q (by rw [z])
    rcases hp2 with z | z <;> rw [z]
    · exact ⟨fun y => absurd y (by decide), fun y => y.elim (fun t => absurd t (by decide)) (fun t => absurd t haf)⟩
    · exact ⟨fun _ => Or.inl (by decide), fun _ => by decide⟩
theorem isVow_k {u : ac_U} {a b : Int32} : (vbit (u.1 18 b.toNatClampNeg) a → f_X2_isVow_13 u a b = 1) ∧ (¬ vbit (u.1 18 b.toNatClampNeg) a → f_X2_isVow_13 u a b = 0) := by
  unfold vbit
  simp only [f_X2_isVow_13, vl]
  refine ⟨fun h => if_neg (fun q => q h), fun h => if_pos h⟩
theorem vw_loop {w0 w : ac_U} {x1 : Int32} (h8 : 0 ≤ (w.1 88 7).toInt ∧ (w.1 88 7).toInt ≤ 8) : ∀ (m fuel : Nat) (x2 x3 : Int32), x3.toInt = (w.1 88 7).toInt - (m : Int) → 0 ≤ x3.toInt → m < fuel → (x2 = 0 ∨ x2 = 1) → ((x2 = 1 ∧ ∀ k : Nat, x3.toInt ≤ k → (k : Int) < (w.1 88 7).toInt → ¬ (w.1 88 (90 + k) = x1 ∧ w.1 88 (98 + k) = w.1 85 18)) → K_X12_line_85_614 w0 fuel w x1 x2 x3 = (f_X12_next_85 (pI (pI (pI w 88 (90 + (w.1 88 7).toNatClampNeg) x1) 88 (98 + (w.1 88 7).toNatClampNeg) (w.1 85 18)) 88 7 (w.1 88 7 + 1)), 1)) ∧ ((x2 = 0 ∨ ∃ k : Nat, x3.toInt ≤ k ∧ (k : Int) < (w.1 88 7).toInt ∧ w.1 88 (90 + k) = x1 ∧ w.1 88 (98 + k) = w.1 85 18) → K_X12_line_85_614 w0 fuel w x1 x2 x3 = f_X12_bad_85 w (3 : Int32)) := by
  intro m
  induction m with
  | zero =>
    intro fuel x2 x3 hx h0 hf hx2
    obtain ⟨f, rfl⟩ : ∃ f, fuel = f + 1 := ⟨fuel - 1, by omega⟩
    have o1 : (90 + w.1 88 7).toNatClampNeg = 90 + (w.1 88 7).toNatClampNeg := off_n (by decide) (by omega) (by decide)
    have o2 : (98 + w.1 88 7).toNatClampNeg = 98 + (w.1 88 7).toNatClampNeg := off_n (by decide) (by omega) (by decide)
    have e : K_X12_line_85_614 w0 (f + 1) w x1 x2 x3 = if x2.toInt ≠ 0 then (f_X12_next_85 (pI (pI (pI w 88 (90 + (w.1 88 7).toNatClampNeg) x1) 88 (98 + (w.1 88 7).toNatClampNeg) (w.1 85 18)) 88 7 (w.1 88 7 + 1)), 1) else f_X12_bad_85 w (3 : Int32) := by
      show K_X12_line_85_614_b (K_X12_line_85_614 w0 f) w0 w x1 x2 x3 = _
      simp only [K_X12_line_85_614_b, vl, bd]
      rw [if_pos (by omega), o1, o2]
    rw [e]
    refine ⟨fun q => by rw [q.1, if_pos n1], fun q => ?_⟩
    rcases q with q | ⟨k, q1, q2, -⟩
    · rw [q, if_neg n0]
    · omega
  | succ m ih =>
    intro fuel x2 x3 hx h0 hf hx2
    obtain ⟨f, rfl⟩ : ∃ f, fuel = f + 1 := ⟨fuel - 1, by omega⟩
    have hk := i_cl (x := x3) h0
    have o1 : (90 + x3).toNatClampNeg = 90 + x3.toNatClampNeg := off_n (by decide) (by omega) (by decide)
    have o2 : (98 + x3).toNatClampNeg = 98 + x3.toNatClampNeg := off_n (by decide) (by omega) (by decide)
    have hx1 : (x3 + Int32.ofInt 1).toInt = x3.toInt + 1 := i_add rfl (by decide : (Int32.ofInt 1).toInt = 1) (by omega)
    have i0 := ih f 0 (x3 + Int32.ofInt 1) (by omega) (by omega) (by omega) (Or.inl rfl)
    have i1 := ih f 1 (x3 + Int32.ofInt 1) (by omega) (by omega) (by omega) (Or.inr rfl)
    have e0 : x2 = 0 → K_X12_line_85_614 w0 (f + 1) w x1 x2 x3 = K_X12_line_85_614 w0 f w x1 0 (x3 + Int32.ofInt 1) := by
      intro q
      show K_X12_line_85_614_b (K_X12_line_85_614 w0 f) w0 w x1 x2 x3 = _
      simp only [K_X12_line_85_614_b, K_X12_line_85_662, K_X12_line_85_663, vl, bd]
      rw [if_neg (by omega), if_pos (by rw [q]; decide)]
    have e1 : x2 = 1 → K_X12_line_85_614 w0 (f + 1) w x1 x2 x3 = if (w.1 88 (90 + x3.toNatClampNeg)).toInt ≠ x1.toInt then K_X12_line_85_614 w0 f w x1 1 (x3 + Int32.ofInt 1) else if (w.1 88 (98 + x3.toNatClampNeg)).toInt = (w.1 85 18).toInt then K_X12_line_85_614 w0 f w x1 0 (x3 + Int32.ofInt 1) else K_X12_line_85_614 w0 f w x1 1 (x3 + Int32.ofInt 1) := by
      intro q
      show K_X12_line_85_614_b (K_X12_line_85_614 w0 f) w0 w x1 x2 x3 = _
      simp only [K_X12_line_85_614_b, K_X12_line_85_662, K_X12_line_85_658, K_X12_line_85_663, vl, bd]
      rw [if_neg (by omega), if_neg (by rw [q]; decide), o1, o2]
    rcases hx2 with hx2 | hx2
    · rw [e0 hx2]
      exact ⟨fun q => absurd (q.1.symm.trans hx2) (by decide), fun _ => i0.2 (Or.inl rfl)⟩
    · rw [e1 hx2]
      by_cases a1 : w.1 88 (90 + x3.toNatClampNeg) = x1
      · rw [if_neg (fun q => q (by rw [a1]))]
        by_cases a2 : w.1 88 (98 + x3.toNatClampNeg) = w.1 85 18
        · rw [if_pos (by rw [a2])]
          exact ⟨fun q => absurd ⟨a1, a2⟩ (q.2 x3.toNatClampNeg (by omega) (by omega)), fun _ => i0.2 (Or.inl rfl)⟩
        · rw [if_neg (fun q => a2 (Int32.toInt_inj.mp q))]
          refine ⟨fun q => i1.1 ⟨rfl, fun k q1 q2 => q.2 k (by omega) q2⟩, fun q => i1.2 ?_⟩
          rcases q with q | ⟨k, q1, q2, q3, q4⟩
          · exact absurd (q.symm.trans hx2) (by decide)
          · refine Or.inr ⟨k, ?_, q2, q3, q4⟩
            rcases (show k = x3.toNatClampNeg ∨ x3.toInt + 1 ≤ k by omega) with z | z
            · rw [z] at q4; exact absurd q4 a2
            · omega
      · rw [if_pos (fun q => a1 (Int32.toInt_inj.mp q))]
        refine ⟨fun q => i1.1 ⟨rfl, fun k q1 q2 => q.2 k (by omega) q2⟩, fun q => i1.2 ?_⟩
        rcases q with q | ⟨k, q1, q2, q3, q4⟩
        · exact absurd (q.symm.trans hx2) (by decide)
        · refine Or.inr ⟨k, ?_, q2, q3, q4⟩
          rcases (show k = x3.toNatClampNeg ∨ x3.toInt + 1 ≤ k by omega) with z | z
          · rw [z] at q3; exact absurd q3 a1
          · omega
theorem upd_vow {u w : ac_U} (h : Sm u w) {a b : Int32} (ha : 0 ≤ a.toInt ∧ a.toInt < 8) (hb : 0 ≤ b.toInt ∧ b.toInt < 8) (hy : (u.1 13 7).toInt < 8) : Sm (pI (pI u 18 b.toNatClampNeg (u.1 18 b.toNatClampNeg ||| (1 : Int32) <<< (a &&& 31))) 13 7 (u.1 13 7 + 1)) (pI (pI (pI w 88 (90 + (u.1 13 7).toNatClampNeg) a) 88 (98 + (u.1 13 7).toNatClampNeg) b) 88 7 (u.1 13 7 + 1)) := by
  obtain ⟨d1, d2, d3, d4, d5, d6, d7⟩ := h.2.2.2.2
  have c7 := d2.2.2.2.2.2.2.1
  have hi := inc_i (x := u.1 13 7) (by omega)
  have hV := i_cl (x := u.1 13 7) c7.1
  have hB := i_cl (x := b) hb.1
  have e13 : ∀ k, k ≠ 7 → (pI (pI u 18 b.toNatClampNeg (u.1 18 b.toNatClampNeg ||| (1 : Int32) <<< (a &&& 31))) 13 7 (u.1 13 7 + 1)).1 13 k = u.1 13 k := fun k hk => by rw [pI_k hk, pI_c (by decide)]
  have e137 : (pI (pI u 18 b.toNatClampNeg (u.1 18 b.toNatClampNeg ||| (1 : Int32) <<< (a &&& 31))) 13 7 (u.1 13 7 + 1)).1 13 7 = u.1 13 7 + 1 := pI_s
  generalize hn : (u.1 13 7).toNatClampNeg = n at *
  have e88 : ∀ k, k ≠ 7 → k ≠ 90 + n → k ≠ 98 + n → (pI (pI (pI w 88 (90 + n) a) 88 (98 + n) b) 88 7 (u.1 13 7 + 1)).1 88 k = w.1 88 k := fun k h1 h2 h3 => by rw [pI_k h1, pI_k h3, pI_k h2]
  refine h.mk2 rfl rfl rfl rfl rfl rfl ⟨fun j hj => ?_, ?_, fun k hk => ?_, fun f hf2 => ?_, fun a' b' a1 a2 b1 b2 => ?_, d6.to (fun k hk => e13 k (by omega)) rfl rfl rfl rfl, d7⟩
  · by_cases e : j = 7
    · subst e; rw [e137, pI_s]
    · rw [e13 j e, e88 j e (by omega) (by omega)]; exact d1 j hj
  · unfold Cp
    rw [e13 1 (by decide), e13 2 (by decide), e13 3 (by decide), e13 4 (by decide), e13 5 (by decide), e13 6 (by decide), e137, e13 8 (by decide), hi]
    exact ⟨d2.1, d2.2.1, d2.2.2.1, d2.2.2.2.1, d2.2.2.2.2.1, d2.2.2.2.2.2.1, by omega, d2.2.2.2.2.2.2.2⟩
  · rw [pI_c (show 14 ≠ 13 by decide), pI_c (show 14 ≠ 18 by decide), e88 _ (by omega) (by omega) (by omega)]; exact d3 k hk
  · rw [e13 3 (by decide)] at hf2
    have hc3 := d2.2.2.1
    rw [pI_c (show 15 ≠ 13 by decide), pI_c (show 15 ≠ 18 by decide), e88 _ (by omega) (by omega) (by omega)]
    exact d4 f hf2
  · rw [e137, hi, pI_c (show 18 ≠ 13 by decide)]
    have hB' := i_cl (x := b') b1
    -- the reference's rows
    have hR : (∃ i : Nat, (i : Int) < (u.1 13 7).toInt + 1 ∧ (pI (pI (pI w 88 (90 + n) a) 88 (98 + n) b) 88 7 (u.1 13 7 + 1)).1 88 (90 + i) = a' ∧ (pI (pI (pI w 88 (90 + n) a) 88 (98 + n) b) 88 7 (u.1 13 7 + 1)).1 88 (98 + i) = b') ↔ ((∃ i : Nat, (i : Int) < (u.1 13 7).toInt ∧ w.1 88 (90 + i) = a' ∧ w.1 88 (98 + i) = b') ∨ (a = a' ∧ b = b')) := by
      have k1 : (pI (pI (pI w 88 (90 + n) a) 88 (98 + n) b) 88 7 (u.1 13 7 + 1)).1 88 (90 + n) = a := by rw [pI_k (by omega), pI_k (by omega), pI_s]
      have k2 : (pI (pI (pI w 88 (90 + n) a) 88 (98 + n) b) 88 7 (u.1 13 7 + 1)).1 88 (98 + n) = b := by rw [pI_k (by omega), pI_s]
      have k3 : ∀ i : Nat, (i : Int) < (u.1 13 7).toInt → (pI (pI (pI w 88 (90 + n) a) 88 (98 + n) b) 88 7 (u.1 13 7 + 1)).1 88 (90 + i) = w.1 88 (90 + i) := fun i hi2 => e88 _ (by omega) (by omega) (by omega)
      have k4 : ∀ i : Nat, (i : Int) < (u.1 13 7).toInt → (pI (pI (pI w 88 (90 + n) a) 88 (98 + n) b) 88 7 (u.1 13 7 + 1)).1 88 (98 + i) = w.1 88 (98 + i) := fun i hi2 => e88 _ (by omega) (by omega) (by omega)
      refine ⟨fun ⟨i, q1, q2, q3⟩ => ?_, fun q => ?_⟩
      · by_cases e : i = n
        · subst e
          rw [k1] at q2
          rw [k2] at q3
          exact Or.inr ⟨q2, q3⟩
        · have hi2 : (i : Int) < (u.1 13 7).toInt := by omega
          rw [k3 i hi2] at q2
          rw [k4 i hi2] at q3
          exact Or.inl ⟨i, hi2, q2, q3⟩
      · rcases q with ⟨i, q1, q2, q3⟩ | ⟨q1, q2⟩
        · exact ⟨i, by omega, by rw [k3 i q1]; exact q2, by rw [k4 i q1]; exact q3⟩
        · exact ⟨n, by omega, k1.trans q1, k2.trans q2⟩
    rw [hR]
    by_cases e : b'.toNatClampNeg = b.toNatClampNeg
    · have hbb : b' = b := Int32.toInt_inj.mp (by omega)
      rw [e, pI_s]
      rw [vbit_or ⟨a1, a2⟩ ha]
      have := d5 a' b' a1 a2 b1 b2
      rw [e] at this
      rw [this]
      refine ⟨fun q => q.imp id (fun z => ⟨z.symm, hbb.symm⟩), fun q => q.imp id (fun z => z.1.symm)⟩
    · rw [pI_k e]
      rw [d5 a' b' a1 a2 b1 b2]
      refine ⟨Or.inl, fun q => q.elim id (fun z => absurd (by rw [z.2]) e)⟩

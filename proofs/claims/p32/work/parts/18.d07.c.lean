/-! Pure: a run of letters and digits is read alike. -/
theorem lgc (x y : Int64) : (lg_cmp x y).toInt = 0 ↔ x = y := by
  unfold lg_cmp
  have a1 : (1 : Int32).toInt = 1 := by decide
  have a2 : (0 : Int32).toInt = 0 := by decide
  have a3 : (-1 : Int32).toInt = -1 := by decide
  by_cases h1 : x > y
  · rw [if_pos h1, a1]
    have h2 := Int64.lt_iff_toInt_lt.mp h1
    exact ⟨fun q => absurd q (by decide), fun q => by rw [q] at h2; omega⟩
  · rw [if_neg h1]
    by_cases h3 : x = y
    · rw [if_pos h3, a2]
      exact ⟨fun _ => h3, fun _ => rfl⟩
    · rw [if_neg h3, a3]
      exact ⟨fun q => absurd q (by decide), fun q => absurd q h3⟩
theorem told_lt : ∀ k, k < 27 → toldN k < 32 ^ 7 := by decide +kernel
theorem told_ne : ∀ i, i < 27 → ∀ j, j < 27 → toldN i = toldN j → i = j := by decide +kernel
def TdA (_ : ac_U) : Prop := ∀ k, k < 27 → ctA k = Int64.ofNat (toldN k)
theorem kw_loop {u : ac_U} {n : Nat} (hA : TdA u) (hw : u.2 1 7 = Int64.ofNat n) (hn : n < 32 ^ 7) : ∀ (m fuel : Nat) (x : Int32), x.toInt = 27 - (m : Int) → m ≤ 27 → m < fuel → (∃ k : Nat, 27 - m ≤ k ∧ k < 27 ∧ n = toldN k ∧ (K_X10_kindOfWord_1_2 u fuel x).toInt = 100 + k) ∨ ((∀ k : Nat, 27 - m ≤ k → k < 27 → n ≠ toldN k) ∧ (K_X10_kindOfWord_1_2 u fuel x).toInt = 2) := by
  intro m
  induction m with
  | zero =>
    intro fuel x hx _ hf
    obtain ⟨f, rfl⟩ : ∃ f, fuel = f + 1 := ⟨fuel - 1, by omega⟩
    refine Or.inr ⟨fun k h1 h2 => by omega, ?_⟩
    show (K_X10_kindOfWord_1_2_b (K_X10_kindOfWord_1_2 u f) u x).toInt = 2
    unfold K_X10_kindOfWord_1_2_b
    rw [if_pos (by omega)]
    decide
  | succ m ih =>
    intro fuel x hx hm hf
    obtain ⟨f, rfl⟩ : ∃ f, fuel = f + 1 := ⟨fuel - 1, by omega⟩
    have hk := i_cl (x := x) (by omega)
    have hk2 : x.toNatClampNeg = 27 - (m + 1) := by omega
    have hstep : K_X10_kindOfWord_1_2 u (f + 1) x = if (lg_cmp (Int64.ofNat (toldN (27 - (m + 1)))) (Int64.ofNat n)).toInt ≠ 0 then K_X10_kindOfWord_1_2 u f (x + Int32.ofInt 1) else 100 + x := by
      show K_X10_kindOfWord_1_2_b (K_X10_kindOfWord_1_2 u f) u x = _
      simp only [K_X10_kindOfWord_1_2_b, vl]
      rw [if_neg (by omega), hk2, hA _ (by omega), hw]
    rw [hstep]
    by_cases e : toldN (27 - (m + 1)) = n
    · rw [if_neg (fun q => q ((lgc _ _).mpr (by rw [e])))]
      refine Or.inl ⟨27 - (m + 1), by omega, by omega, e.symm, ?_⟩
      rw [i_add (by decide : (100 : Int32).toInt = 100) rfl (by omega)]
      omega
    · rw [if_pos (fun q => e (l_inj (by have := told_lt (27 - (m + 1)) (by omega); omega) (by omega) ((lgc _ _).mp q)))]
      have hx1 : (x + Int32.ofInt 1).toInt = 27 - (m : Int) := by
        rw [i_add rfl (by decide : (Int32.ofInt 1).toInt = 1) (by omega)]
        omega
      rcases ih f (x + Int32.ofInt 1) hx1 (by omega) (by omega) with ⟨k, h1, h2, h3, h4⟩ | ⟨h1, h2⟩
      · exact Or.inl ⟨k, by omega, h2, h3, h4⟩
      · refine Or.inr ⟨fun k q1 q2 => ?_, h2⟩
        by_cases e2 : k = 27 - (m + 1)
        · rw [e2]; exact fun q => e q.symm
        · exact h1 k (by omega) q2
theorem kw_Kd {u : ac_U} {n : Nat} (hA : TdA u) (hw : u.2 1 7 = Int64.ofNat n) (hn : n < 32 ^ 7) : Kd (f_X10_kindOfWord_1 u).toInt n := by
  have h := kw_loop hA hw hn 27 29 (0 : Int32) (by decide) (by decide) (by decide)
  have e : f_X10_kindOfWord_1 u = K_X10_kindOfWord_1_2 u 29 (0 : Int32) := rfl
  rw [← e] at h
  rcases h with ⟨k, h1, h2, h3, h4⟩ | ⟨h1, h2⟩
  · refine ⟨fun j hj q => ?_, fun q => absurd h3 (q k h2)⟩
    rw [told_ne j hj k h2 (q.symm.trans h3)]
    exact h4
  · exact ⟨fun j hj q => absurd q (h1 j (by omega) hj), fun _ => h2⟩
theorem fin_mk {u w : ac_U} {a b : Int32} (hat : At u w) (hb : u.1 1 5 = w.1 85 12) (ht : (a.toInt = 0 ∧ b.toInt = 0) ∨ (a.toInt = 1 ∧ b.toInt = 4) ∨ (a.toInt = 3 ∧ b.toInt = 2 ∧ u.1 1 8 = w.1 85 14) ∨ (isSg a.toInt ∧ b.toInt = 3 ∧ (w.1 85 14).toInt = a.toInt) ∨ (b.toInt = 1 ∧ ∃ n, Wd u w n ∧ Kd a.toInt n)) : Fin2 u w (pI u 1 6 a) (pI w 85 11 b) := by
  have e1 : (pI u 1 6 a).1 1 5 = u.1 1 5 := pI_k (by decide)
  have e2 : (pI w 85 11 b).1 85 12 = w.1 85 12 := pI_k (by decide)
  have e3 : (pI u 1 6 a).1 1 8 = u.1 1 8 := pI_k (by decide)
  have e4 : (pI w 85 11 b).1 85 14 = w.1 85 14 := pI_k (by decide)
  have e5 : (pI u 1 6 a).1 1 4 = u.1 1 4 := pI_k (by decide)
  have e6 : (pI w 85 11 b).1 85 4 = w.1 85 4 := pI_k (by decide)
  refine ⟨CF.rf.pI (by omega), RF.rf.pI (by omega), ?_, ?_⟩
  · unfold At; rw [e5, e6]; exact hat
  · unfold Tk; rw [e1, e2, e3, e4, pI_s, pI_s]
    exact ⟨hb, ht⟩
theorem Fin2.of {u w u1 w1 u' w' : ac_U} (hc : CF u u1) (hr : RF w w1) (h : Fin2 u1 w1 u' w') : Fin2 u w u' w' := ⟨hc.tr h.1, hr.tr h.2.1, h.2.2⟩
def HWd (u w : ac_U) (x1 x2 : Int32) : Prop := x2.toInt = 0 → x1.toInt ≤ 7 → ∃ n, n < 32 ^ x1.toInt.toNat ∧ u.2 1 7 = Int64.ofNat n ∧ w.2 85 17 = Int64.ofNat (ph 8 n)
def RunI (u w : ac_U) (x1 x2 y2 y3 : Int32) : Prop :=
  u.1 1 5 = w.1 85 12 ∧ (0 ≤ x1.toInt ∧ 0 ≤ x2.toInt ∧ x1.toInt + x2.toInt = (w.1 85 13).toInt ∧ (w.1 85 13).toInt ≤ (u.1 1 4).toInt) ∧ (y2.toInt = 0 ∨ y2.toInt = 1) ∧ ((y3.toInt = 0 ∨ y3.toInt = 1) ∧ (y3.toInt = 1 ↔ ((y2.toInt = 1 ∧ x2.toInt = 0) ∨ (y2.toInt = 0 ∧ x1.toInt = 0)))) ∧
  HWd u w x1 x2 ∧ (x1.toInt = 0 → x2.toInt ≤ 3 → u.1 1 8 = w.1 85 14) ∧
  (1 ≤ x1.toInt + x2.toInt → (y2.toInt = 1 → 1 ≤ x1.toInt) ∧ (y2.toInt = 0 → 1 ≤ x2.toInt)) ∧ (x1.toInt + x2.toInt = 0 → (¬ (u.1 1 2).toInt ≤ (u.1 1 4).toInt) ∧ ((isLt (u.1 2 (u.1 1 4).toNatClampNeg) ∧ y2.toInt = 1) ∨ (isDg (u.1 2 (u.1 1 4).toNatClampNeg) ∧ y2.toInt = 0)))
theorem run_end {u0 w0 u w : ac_U} {x1 x2 y2 y3 : Int32} (hA : TdA u) (hat : At u w) (hI : RunI u w x1 x2 y2 y3) (hne : 1 ≤ x1.toInt + x2.toInt) : Fin2 u w (K_X10_readRun_1_136 u0 u x1 x2) (endR w0 w y2 y3) := by
  obtain ⟨hb, ⟨g1, g2, g3, g4⟩, hy2, ⟨hy3, hy3'⟩, hw, hnum, hty, -⟩ := hI
  obtain ⟨t1, t2⟩ := hty hne
  simp only [K_X10_readRun_1_136, K_X10_readRun_1_157, K_X10_readRun_1_171, K_X10_readRun_1_172, endR, K_X12_next_85_320, K_X12_next_85_317, K_X12_next_85_333, vl]
  have a3 : (3 : Int32).toInt = 3 := by decide
  have a7 : (7 : Int32).toInt = 7 := by decide
  have a4 : (4 : Int32).toInt = 4 := by decide
  have a2 : (2 : Int32).toInt = 2 := by decide
  by_cases h2 : x2.toInt = 0
  · rw [if_neg (show ¬ x2.toInt ≠ 0 from fun q => q h2)]
    have y1 : y2.toInt = 1 := by omega
    have y31 : y3.toInt = 1 := hy3'.mpr (Or.inl ⟨y1, h2⟩)
    rw [if_neg (show ¬ y3.toInt = 0 by omega), if_neg (show ¬ y2.toInt = 0 by omega)]
    by_cases h7 : (7 : Int) < x1.toInt
    · rw [if_pos h7, if_pos (show x1.toInt ≠ 0 by omega), if_neg (show ¬ (w.1 85 13).toInt ≤ (7 : Int32).toInt by omega)]
      exact fin_mk hat hb (Or.inr (Or.inl ⟨t1i, a4⟩))
    · rw [if_neg h7, if_pos (show (w.1 85 13).toInt ≤ (7 : Int32).toInt by omega), if_neg (show ¬ y2.toInt = 0 by omega)]
      obtain ⟨n, n1, n2, n3⟩ := hw h2 (by omega)
      have n4 : n < 32 ^ 7 := Nat.lt_of_lt_of_le n1 (Nat.pow_le_pow_right (by decide) (by omega))
      exact fin_mk hat hb (Or.inr (Or.inr (Or.inr (Or.inr ⟨t1i, n, ⟨n4, n2, n3⟩, kw_Kd hA n2 n4⟩))))
  · rw [if_pos h2]
    by_cases h1 : x1.toInt = 0
    · have y1 : y2.toInt = 0 := by omega
      have y31 : y3.toInt = 1 := hy3'.mpr (Or.inr ⟨y1, h1⟩)
      rw [if_neg (show ¬ x1.toInt ≠ 0 from fun q => q h1), if_neg (show ¬ y3.toInt = 0 by omega), if_pos y1]
      by_cases h3 : (3 : Int) < x2.toInt
      · rw [if_pos h3, if_neg (show ¬ (w.1 85 13).toInt ≤ (3 : Int32).toInt by omega)]
        exact fin_mk hat hb (Or.inr (Or.inl ⟨t1i, a4⟩))
      · rw [if_neg h3, if_pos (show (w.1 85 13).toInt ≤ (3 : Int32).toInt by omega), if_pos y1]
        exact fin_mk hat hb (Or.inr (Or.inr (Or.inl ⟨a3, a2, hnum h1 (by omega)⟩)))
    · rw [if_pos h1, if_pos (show y3.toInt = 0 by omega)]
      exact fin_mk hat hb (Or.inr (Or.inl ⟨t1i, a4⟩))
theorem pk_b {u w : ac_U} (hL : Lx u w) (hn : ¬ (u.1 1 2).toInt ≤ (u.1 1 4).toInt) : f_X12_peek_85 w = u.1 2 (u.1 1 4).toNatClampNeg &&& 255 := by
  obtain ⟨⟨e1, -, e3⟩, -, e4, -⟩ := hL
  rw [pk_inn (by rw [← e1, ← e4]; exact hn), ← e4, ← e3]
theorem run_sim (u0 w0 : ac_U) : ∀ (fuel : Nat) (u w : ac_U) (x1 x2 y2 y3 : Int32), TdA u → Lx u w → RunI u w x1 x2 y2 y3 → 941 - (u.1 1 4).toInt < fuel → Fin2 u w (K_X10_readRun_1_14 u0 fuel u x1 x2) (K_X12_next_85_181 w0 fuel w y2 y3) := by
  intro fuel
  induction fuel with
  | zero => intro u w x1 x2 y2 y3 _ hL _ hf; have := hL.2.2.2.2; exfalso; omega
  | succ fuel ih =>
    intro u w x1 x2 y2 y3 hA hL hI hf
    show Fin2 u w (K_X10_readRun_1_14_b (K_X10_readRun_1_14 u0 fuel) u0 u x1 x2) (K_X12_next_85_181_b (K_X12_next_85_181 w0 fuel) w0 w y2 y3)
    have hat := hL.2.2
    have hne : ((u.1 1 2).toInt ≤ (u.1 1 4).toInt ∨ (¬ isLt (u.1 2 (u.1 1 4).toNatClampNeg) ∧ ¬ isDg (u.1 2 (u.1 1 4).toNatClampNeg))) → 1 ≤ x1.toInt + x2.toInt := by
      intro q
      obtain ⟨-, ⟨g1, g2, -, -⟩, -, -, -, -, -, hs⟩ := hI
      rcases (show x1.toInt + x2.toInt = 0 ∨ 1 ≤ x1.toInt + x2.toInt by omega) with z | z
      · obtain ⟨s1, s2⟩ := hs z
        rcases q with q | q
        · exact absurd q s1
        · rcases s2 with s2 | s2
          · exact absurd s2.1 q.1
          · exact absurd s2.1 q.2
      · exact z
    have hm1 : (-1 : Int32).toInt = -1 := by decide
    by_cases hend : (u.1 1 2).toInt ≤ (u.1 1 4).toInt
    · have hp : f_X12_peek_85 w = -1 := pk_end (by rw [← hL.1.1, ← hat.1]; exact hend)
      rw [stepE (Or.inl hend), stepRE hp (by unfold isLt; rw [hm1]; omega) (by unfold isDg; rw [hm1]; omega)]
      exact run_end hA hat hI (hne (Or.inl hend))
    · have hp := pk_b hL hend
      obtain ⟨b, hbq⟩ : ∃ b, u.1 2 (u.1 1 4).toNatClampNeg = b := ⟨_, rfl⟩
      have hrb := hL.2.1.2 (u.1 1 4).toNatClampNeg
      rw [hbq] at hp hrb hne
      have h255 := and255 hrb
      have hcat : isLt b ∨ isDg b → b &&& 255 = b := fun q => h255.1 (by
        rcases q with q | q
        · unfold isLt at q; omega
        · unfold isDg at q; omega)
      have hn940 := hL.2.1.1
      obtain ⟨hb5, ⟨g1, g2, g3, g4⟩, hy2, ⟨hy3, hy3'⟩, hw, hnum, hty, hs⟩ := hI
      have hs0 := hs
      rw [hbq] at hs
      have hp1 : (u.1 1 4 + 1).toInt = (u.1 1 4).toInt + 1 := i_add rfl (by decide) (by omega)
      have hs1 : (w.1 85 13 + 1).toInt = (w.1 85 13).toInt + 1 := i_add rfl (by decide) (by omega)
      have hone : (Int32.ofInt 1).toInt = 1 := by decide
      by_cases hl : isLt b
      · rw [stepL hend hbq hl]
        obtain ⟨w2, z, e1, e2, e3, e4, e5, e6, e7, e8, e9⟩ := stepR (B := K_X12_next_85_181 w0 fuel) (w0 := w0) (w := w) (y2 := y2) (y3 := y3) (c := b) (by rw [hp, hcat (Or.inl hl)]) (Or.inl hl) hy2
        rw [e1]
        have hc : CF u (pI (pL u 1 7 (f_X10_withLetter u (u.2 1 7) b)) 1 4 (u.1 1 4 + 1)) := CF.rf.pL.pI (by omega)
        have hx1 : (x1 + Int32.ofInt (1)).toInt = x1.toInt + 1 := i_add rfl hone (by omega)
        have at2 : (pI (pL u 1 7 (f_X10_withLetter u (u.2 1 7) b)) 1 4 (u.1 1 4 + 1)).1 1 4 = u.1 1 4 + 1 := pI_s
        have e9' : z.toInt = 1 ↔ (y3.toInt ≠ 0 ∧ y2.toInt = 1) := ⟨fun q => ⟨(e9.mp q).1, (e9.mp q).2.mp hl⟩, fun q => e9.mpr ⟨q.1, ⟨fun _ => q.2, fun _ => hl⟩⟩⟩
        have hdd : ¬ isDg b := by unfold isLt at hl; unfold isDg; omega
        refine Fin2.of hc e2 (ih _ w2 _ _ _ _ (fun k hk => ?_) ⟨hL.1.to hc e2, hL.2.1.to hc, ?_⟩ ⟨?_, ?_, hy2, ⟨e8, ?_⟩, ?_, ?_, ?_, ?_⟩ ?_)
        · exact hA k hk
        · refine ⟨?_, ?_⟩
          · rw [at2, e5, hat.1]
          · rw [at2, hp1]; omega
        · rw [pI_k (by decide), e3]; exact hb5
        · rw [at2, hp1, e4, hs1, hx1]; omega
        · rw [hx1]; omega
        · intro q1 q2
          rw [hx1] at q2
          obtain ⟨n, n1, n2, n3⟩ := hw q1 (by omega)
          have n6 : n < 32 ^ 6 := Nat.lt_of_lt_of_le n1 (Nat.pow_le_pow_right (by decide) (by omega))
          have hlb : 97 ≤ b.toInt ∧ b.toInt ≤ 122 := hl
          have p1 : ph 8 n = ph 6 n := by rw [ph_stab 7 n (by omega), ph_stab 6 n n6]
          have p2 := ph_lt 6 n
          refine ⟨n * 32 + (b.toInt - 96).toNat, ?_, ?_, ?_⟩
          · rw [hx1, show (x1.toInt + 1).toNat = x1.toInt.toNat + 1 by omega, Nat.pow_succ]
            omega
          · rw [pI_2, pL_s, n2, wl_step hl]
          · rw [e6 (by omega), n3, i2l_nat (v := b) (n := b.toInt.toNat) (by omega), wr_step (by omega) (by omega), ph_step (by omega) (by omega)]
            congr 1
            omega
        · intro q; rw [hx1] at q; omega
        · rw [hx1]
          intro q
          refine ⟨fun _ => by omega, fun q2 => ?_⟩
          rcases (show x1.toInt + x2.toInt = 0 ∨ 1 ≤ x1.toInt + x2.toInt by omega) with z0 | z0
          · rcases (hs z0).2 with q3 | q3
            · omega
            · exact absurd q3.1 hdd
          · exact (hty z0).2 q2
        · rw [hx1]; intro q; omega
        · rw [at2, hp1]; omega
      · by_cases hd : isDg b
        · rw [stepD hend hbq hl hd]
          obtain ⟨w2, z, e1, e2, e3, e4, e5, e6, e7, e8, e9⟩ := stepR (B := K_X12_next_85_181 w0 fuel) (w0 := w0) (w := w) (y2 := y2) (y3 := y3) (c := b) (by rw [hp, hcat (Or.inr hd)]) (Or.inr hd) hy2
          rw [e1]
          have hc : CF u (pI (pI u 1 8 (u.1 1 8 * 10 + (b - 48))) 1 4 (u.1 1 4 + 1)) := (CF.rf.pI (by omega)).pI (by omega)
          have hx2 : (x2 + Int32.ofInt (1)).toInt = x2.toInt + 1 := i_add rfl hone (by omega)
          have at2 : (pI (pI u 1 8 (u.1 1 8 * 10 + (b - 48))) 1 4 (u.1 1 4 + 1)).1 1 4 = u.1 1 4 + 1 := pI_s
          have e9' : z.toInt = 1 ↔ (y3.toInt ≠ 0 ∧ y2.toInt ≠ 1) := ⟨fun q => ⟨(e9.mp q).1, fun q2 => hl ((e9.mp q).2.mpr q2)⟩, fun q => e9.mpr ⟨q.1, ⟨fun q2 => absurd q2 hl, fun q2 => absurd q2 q.2⟩⟩⟩
          refine Fin2.of hc e2 (ih _ w2 _ _ _ _ (fun k hk => ?_) ⟨hL.1.to hc e2, hL.2.1.to hc, ?_⟩ ⟨?_, ?_, hy2, ⟨e8, ?_⟩, ?_, ?_, ?_, ?_⟩ ?_)
          · exact hA k hk
          · refine ⟨?_, ?_⟩
            · rw [at2, e5, hat.1]
            · rw [at2, hp1]; omega
          · rw [pI_k (by decide), pI_k (by decide), e3]; exact hb5
          · rw [at2, hp1, e4, hs1, hx2]; omega
          · rw [hx2]; omega
          · intro q; rw [hx2] at q; omega
          · intro q1 q2
            rw [hx2] at q2
            rw [pI_k (by decide), pI_s, e7 (by omega), hnum q1 (by omega), Int32.mul_comm, Int32.sub_eq_add_neg, Int32.sub_eq_add_neg, Int32.add_assoc]
          · rw [hx2]
            intro q
            refine ⟨fun q2 => ?_, fun _ => by omega⟩
            rcases (show x1.toInt + x2.toInt = 0 ∨ 1 ≤ x1.toInt + x2.toInt by omega) with z0 | z0
            · rcases (hs z0).2 with q3 | q3
              · exact absurd q3.1 hl
              · omega
            · exact (hty z0).1 q2
          · rw [hx2]; intro q; omega
          · rw [at2, hp1]; omega
        · have hcl : ¬ isLt (b &&& 255) ∧ ¬ isDg (b &&& 255) := by
            rcases (show 0 ≤ b.toInt ∨ b.toInt < 0 by omega) with q | q
            · rw [h255.1 q]; exact ⟨hl, hd⟩
            · have := h255.2 q
              unfold isLt isDg
              omega
          have hq : (u.1 1 2).toInt ≤ (u.1 1 4).toInt ∨ (¬ isLt (u.1 2 (u.1 1 4).toNatClampNeg) ∧ ¬ isDg (u.1 2 (u.1 1 4).toNatClampNeg)) := by rw [hbq]; exact Or.inr ⟨hl, hd⟩
          rw [stepE hq, stepRE hp hcl.1 hcl.2]
          exact run_end hA hat ⟨hb5, ⟨g1, g2, g3, g4⟩, hy2, ⟨hy3, hy3'⟩, hw, hnum, hty, hs0⟩ (hne (Or.inr ⟨hl, hd⟩))

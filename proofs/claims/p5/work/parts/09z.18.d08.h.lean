/-! What a house of the class holds of itself: rows of places that aren't told are empty, vows are of told promises. -/
theorem cv_no {L : List (Nat × Option Nat)} {c k : Nat} (h : L.all (fun e => !(e.1 == c)) = true) : ac_cv L c k = false := by
  cases hq : ac_cv L c k with
  | false => rfl
  | true =>
    obtain ⟨e, h1, h2⟩ := List.any_eq_true.mp hq
    have h3 := List.all_eq_true.mp h e h1
    simp only [Bool.and_eq_true] at h2
    rw [h2.1] at h3
    cases h3
def vb (x : Int32) (i : Nat) : Prop := vbit x (nI i)
theorem vb_or {x y : Int32} {i : Nat} : vb (x ||| y) i ↔ (vb x i ∨ vb y i) := by
  unfold vb vbit
  have e : ((x ||| y) >>> (nI i &&& 31)) &&& 1 = ((x >>> (nI i &&& 31)) &&& 1) ||| ((y >>> (nI i &&& 31)) &&& 1) := by
    rw [Int32.shiftRight_or]
    apply Int32.toBitVec_inj.mp
    simp [BitVec.and_or_distrib_right]
  rw [e]
  have hp := bit_01 (x >>> (nI i &&& 31))
  have hq := bit_01 (y >>> (nI i &&& 31))
  generalize (x >>> (nI i &&& 31)) &&& 1 = p at hp ⊢
  generalize (y >>> (nI i &&& 31)) &&& 1 = q at hq ⊢
  have hp2 : p = 0 ∨ p = 1 := hp.imp (fun q => Int32.toInt_inj.mp (q.trans t0i.symm)) (fun q => Int32.toInt_inj.mp (q.trans t1i.symm))
  have hq2 : q = 0 ∨ q = 1 := hq.imp (fun q => Int32.toInt_inj.mp (q.trans t0i.symm)) (fun q => Int32.toInt_inj.mp (q.trans t1i.symm))
  rcases hp2 with rfl | rfl <;> rcases hq2 with rfl | rfl <;> decide
theorem vb_1 {f i : Nat} (hf : f < 8) (hi : i < 8) : vb ((1 : Int32) <<< (nI f &&& 31)) i ↔ i = f := by
  unfold vb vbit
  rw [bit_d f hf i hi]
  by_cases q : i = f
  · rw [if_pos q]; exact ⟨fun _ => q, fun _ => t1i⟩
  · rw [if_neg q, t0i]; exact ⟨fun z => absurd z (by decide), fun z => absurd z q⟩
theorem vb_0 {i : Nat} (hi : i < 8) : ¬ vb (0 : Int32) i := by
  have hz : ∀ a : Nat, a < 8 → ¬ vbit (0 : Int32) (nI a) := by unfold vbit; decide +kernel
  exact hz i hi
theorem or_255 {x y : Int32} (hx : 0 ≤ x.toInt ∧ x.toInt ≤ 255) (hy : 0 ≤ y.toInt ∧ y.toInt ≤ 255) : 0 ≤ (x ||| y).toInt ∧ (x ||| y).toInt ≤ 255 := by
  have := i_or (x := x) (y := y) (n := 8) (m := 256) rfl rfl (by decide) (by decide) (by omega) (by omega)
  omega
theorem one_255 {f : Nat} (hf : f < 8) : 0 ≤ ((1 : Int32) <<< (nI f &&& 31)).toInt ∧ ((1 : Int32) <<< (nI f &&& 31)).toInt ≤ 255 := by
  have h : ∀ f, f < 8 → 0 ≤ ((1 : Int32) <<< (nI f &&& 31)).toInt ∧ ((1 : Int32) <<< (nI f &&& 31)).toInt ≤ 255 := by decide +kernel
  exact h f hf
def Dz (a4 a5 a9 : Nat → Int32) : Prop := (∀ k : Nat, k < 8 → (a4 1).toInt ≤ k → a5 k = 0) ∧ (∀ b : Nat, b < 8 → (0 ≤ (a9 b).toInt ∧ (a9 b).toInt ≤ 255) ∧ ∀ i : Nat, i < 8 → vb (a9 b) i → (i : Int) < (a4 6).toInt ∧ (b : Int) < (a4 6).toInt)
theorem Dz.cg {a4 a5 a9 c4 c5 c9 : Nat → Int32} (h : Dz a4 a5 a9) (e1 : (a4 1).toInt ≤ (c4 1).toInt) (e6 : (a4 6).toInt ≤ (c4 6).toInt) (e5 : ∀ k, k < 8 → c5 k = a5 k) (e9 : ∀ k, k < 8 → c9 k = a9 k) : Dz c4 c5 c9 := by
  refine ⟨fun k hk q => ?_, fun b hb => ?_⟩
  · rw [e5 k hk]; exact h.1 k hk (by omega)
  · rw [e9 b hb]
    refine ⟨(h.2 b hb).1, fun i hi q => ?_⟩
    have := (h.2 b hb).2 i hi q
    omega
def Dd (u : ac_U) : Prop := Dz (u.1 13) (u.1 14) (u.1 18)
theorem Dd.fr {L : List (Nat × Option Nat)} {u u' : ac_U} (h : Dd u) (hF : ac_Fr L u u') (h1 : ac_cv L 13 1 = false) (h6 : ac_cv L 13 6 = false) (h14 : L.all (fun e => !(e.1 == 14)) = true) (h18 : L.all (fun e => !(e.1 == 18)) = true) : Dd u' :=
  Dz.cg h (by rw [hF 13 1 h1]; exact Int.le_refl _) (by rw [hF 13 6 h6]; exact Int.le_refl _) (fun k _ => hF 14 k (cv_no h14)) (fun k _ => hF 18 k (cv_no h18))
theorem Dd.way {x : ac_U} (h : Dd x) {p q : Int32} (hp : 0 ≤ p.toInt ∧ p.toInt < (x.1 13 1).toInt) (hq : 0 ≤ q.toInt ∧ q.toInt < (x.1 13 1).toInt) : Dd (f_X2_addWay_13 x p q) := by
  have hp' := i_cl (x := p) hp.1
  have hq' := i_cl (x := q) hq.1
  obtain ⟨v3, v6, v8, e⟩ : ∃ v3 v6 v8, f_X2_addWay_13 x p q = pI (pI (pI x 14 p.toNatClampNeg v3) 14 q.toNatClampNeg v6) 13 2 v8 := ⟨_, _, _, rfl⟩
  rw [e]
  have e1 : (pI (pI (pI x 14 p.toNatClampNeg v3) 14 q.toNatClampNeg v6) 13 2 v8).1 13 1 = x.1 13 1 := by rw [pI_k (by decide), pI_c (by decide), pI_c (by decide)]
  have e6 : (pI (pI (pI x 14 p.toNatClampNeg v3) 14 q.toNatClampNeg v6) 13 2 v8).1 13 6 = x.1 13 6 := by rw [pI_k (by decide), pI_c (by decide), pI_c (by decide)]
  refine ⟨fun k hk z => ?_, fun b hb => ?_⟩
  · rw [e1] at z
    rw [pI_c (by decide), pI_k (by omega), pI_k (by omega)]
    exact h.1 k hk z
  · rw [e6, pI_c (by decide), pI_c (by decide), pI_c (by decide)]
    exact h.2 b hb
theorem Dd.vow {x : ac_U} (h : Dd x) (h8 : (x.1 13 6).toInt ≤ 8) {p q : Int32} (hp : 0 ≤ p.toInt ∧ p.toInt < (x.1 13 6).toInt) (hq : 0 ≤ q.toInt ∧ q.toInt < (x.1 13 6).toInt) : Dd (f_X2_addVow_13 x p q) := by
  have hp' := i_cl (x := p) hp.1
  have hq' := i_cl (x := q) hq.1
  obtain ⟨v5, e⟩ : ∃ v5, f_X2_addVow_13 x p q = pI (pI x 18 q.toNatClampNeg (x.1 18 q.toNatClampNeg ||| (1 : Int32) <<< (p &&& 31))) 13 7 v5 := ⟨_, rfl⟩
  rw [e]
  have e1 : (pI (pI x 18 q.toNatClampNeg (x.1 18 q.toNatClampNeg ||| (1 : Int32) <<< (p &&& 31))) 13 7 v5).1 13 1 = x.1 13 1 := by rw [pI_k (by decide), pI_c (by decide)]
  have e6 : (pI (pI x 18 q.toNatClampNeg (x.1 18 q.toNatClampNeg ||| (1 : Int32) <<< (p &&& 31))) 13 7 v5).1 13 6 = x.1 13 6 := by rw [pI_k (by decide), pI_c (by decide)]
  refine ⟨fun k hk z => ?_, fun b hb => ?_⟩
  · rw [e1] at z
    rw [pI_c (by decide), pI_c (by decide)]
    exact h.1 k hk z
  · rw [e6, pI_c (by decide)]
    by_cases z : b = q.toNatClampNeg
    · subst z
      rw [pI_s]
      have hpn : p = nI p.toNatClampNeg := nI_oI hp.1
      rw [hpn]
      refine ⟨or_255 (h.2 _ hb).1 (one_255 (by omega)), fun i hi y => ?_⟩
      rcases vb_or.mp y with y | y
      · exact (h.2 _ hb).2 i hi y
      · have := (vb_1 (by omega) hi).mp y
        omega
    · rw [pI_k z]
      exact h.2 b hb
theorem no01 : ¬ (0 : Int32) = 1 := by decide
theorem dz_way {u w : ac_U} (h : S0 u w) (hz : Dd u) (h1 : (f_X3_readWay_22 u).2 = 1) : Dd (f_X3_readWay_22 u).1 := by
  obtain ⟨s1, s2⟩ := h.next
  have ht := takeKnown_sim (s := 0) (p0 := (26 : Int32)) (p1 := (0 : Int32)) s1 (by decide) (by decide) (by decide)
  have fa := q_X10_takeKnown_1_13 u (0 : Int32)
  revert h1
  simp only [f_X3_readWay_22, K_X3_readWay_22_88, vl, bd]
  by_cases q : (u.1 13 2).toInt < 12
  · rw [if_pos q]
    generalize f_X10_takeKnown_1_13 u (0 : Int32) = a at ht fa ⊢
    rcases ht with ⟨t1, t2, t3, t4, t5, t6, t7, t8⟩ | ⟨t1, t2, t3⟩
    · rw [t1, if_pos n1]
      have hza := hz.fr fa rfl rfl rfl rfl
      have ht2 := takeLook_sim (s := 0) (p0 := (26 : Int32)) (p1 := (0 : Int32)) t3 (by decide) (by decide) (by decide)
      have fb := q_X10_takeKnown_1_13 a.1 (0 : Int32)
      generalize f_X10_takeKnown_1_13 a.1 (0 : Int32) = b at ht2 fb ⊢
      rcases ht2 with ⟨r1, r2, r3, r4, r5, r6, r7, r8⟩ | ⟨r1, r2, r3⟩
      · rw [r1, if_pos n1]
        have hzb := hza.fr fb rfl rfl rfl rfl
        have a13 : a.1.1 13 1 = u.1 13 1 := fa 13 1 rfl
        have b13 : b.1.1 13 1 = u.1 13 1 := (fb 13 1 rfl).trans a13
        have hcp : cp 0 = 1 := rfl
        rw [hcp] at t8 r8
        rw [a13] at r8
        by_cases z1 : (a.1.1 1 9).toInt = (b.1.1 1 9).toInt
        · rw [if_pos z1]
          exact fun y => absurd y no01
        · rw [if_neg z1]
          by_cases z2 : (f_X2_isNear_13 b.1 (a.1.1 1 9) (b.1.1 1 9)).toInt = 0
          · rw [if_pos z2]
            intro _
            exact (hzb.way (p := a.1.1 1 9) (q := b.1.1 1 9) (by rw [b13]; exact ⟨t7, t8⟩) (by rw [b13]; exact ⟨r7, r8⟩)).fr (q_X10_takeSign_1 _ (59 : Int32)) rfl rfl rfl rfl
          · rw [if_neg z2]
            exact fun y => absurd y no01
      · rw [r1, if_neg n0]
        exact fun y => absurd y no01
    · rw [t1, if_neg n0]
      exact fun y => absurd y no01
  · rw [if_neg q]
    exact fun y => absurd y no01
theorem dz_vow {u w : ac_U} (h : S0 u w) (hz : Dd u) (h1 : (f_X3_readVow_22 u).2 = 1) : Dd (f_X3_readVow_22 u).1 := by
  have cp6 := h.1.2.2.2.2.2.1.2.2.2.2.2.1
  obtain ⟨s1, s2⟩ := h.next
  have ht := takeKnown_sim (s := 3) (p0 := (44 : Int32)) (p1 := (3 : Int32)) s1 (by decide) (by decide) (by decide)
  have fa := q_X10_takeKnown_1_13 u (3 : Int32)
  revert h1
  simp only [f_X3_readVow_22, K_X3_readVow_22_88, vl, bd]
  by_cases q : (u.1 13 7).toInt < 8
  · rw [if_pos q]
    generalize f_X10_takeKnown_1_13 u (3 : Int32) = a at ht fa ⊢
    rcases ht with ⟨t1, t2, t3, t4, t5, t6, t7, t8⟩ | ⟨t1, t2, t3⟩
    · rw [t1, if_pos n1]
      have hza := hz.fr fa rfl rfl rfl rfl
      have ht2 := takeLook_sim (s := 3) (p0 := (44 : Int32)) (p1 := (3 : Int32)) t3 (by decide) (by decide) (by decide)
      have fb := q_X10_takeKnown_1_13 a.1 (3 : Int32)
      generalize f_X10_takeKnown_1_13 a.1 (3 : Int32) = b at ht2 fb ⊢
      rcases ht2 with ⟨r1, r2, r3, r4, r5, r6, r7, r8⟩ | ⟨r1, r2, r3⟩
      · rw [r1, if_pos n1]
        have hzb := hza.fr fb rfl rfl rfl rfl
        have a13 : a.1.1 13 6 = u.1 13 6 := fa 13 6 rfl
        have b13 : b.1.1 13 6 = u.1 13 6 := (fb 13 6 rfl).trans a13
        have hcp : cp 3 = 6 := rfl
        rw [hcp] at t8 r8
        rw [a13] at r8
        by_cases z1 : (a.1.1 1 9).toInt = (b.1.1 1 9).toInt
        · rw [if_pos z1]
          exact fun y => absurd y no01
        · rw [if_neg z1]
          by_cases z2 : (f_X2_isVow_13 b.1 (a.1.1 1 9) (b.1.1 1 9)).toInt = 0
          · rw [if_pos z2]
            intro _
            exact (hzb.vow (p := a.1.1 1 9) (q := b.1.1 1 9) (by rw [b13]; exact cp6.2) (by rw [b13]; exact ⟨t7, t8⟩) (by rw [b13]; exact ⟨r7, r8⟩)).fr (q_X10_takeSign_1 _ (59 : Int32)) rfl rfl rfl rfl
          · rw [if_neg z2]
            exact fun y => absurd y no01
      · rw [r1, if_neg n0]
        exact fun y => absurd y no01
    · rw [t1, if_neg n0]
      exact fun y => absurd y no01
  · rw [if_neg q]
    exact fun y => absurd y no01
theorem dz_place {u : ac_U} (hz : Dd u) (ht : tol (f_X3_readPlace_22 u).1 = tol u + 1) : Dd (f_X3_readPlace_22 u).1 := by
  have f := q_X3_readPlace_22 u
  unfold tol at ht
  rw [f 13 2 rfl, f 13 3 rfl, f 13 4 rfl, f 13 5 rfl, f 13 6 rfl, f 13 7 rfl, f 22 4 rfl] at ht
  exact Dz.cg hz (by omega) (by rw [f 13 6 rfl]; exact Int.le_refl _) (fun k _ => f 14 k rfl) (fun k _ => f 18 k rfl)
theorem dz_promise {u : ac_U} (hz : Dd u) (ht : tol (f_X3_readPromise_22 u).1 = tol u + 1) : Dd (f_X3_readPromise_22 u).1 := by
  have f := q_X3_readPromise_22 u
  unfold tol at ht
  rw [f 13 1 rfl, f 13 2 rfl, f 13 3 rfl, f 13 4 rfl, f 13 5 rfl, f 13 7 rfl, f 22 4 rfl] at ht
  exact Dz.cg hz (by rw [f 13 1 rfl]; exact Int.le_refl _) (by omega) (fun k _ => f 14 k rfl) (fun k _ => f 18 k rfl)
theorem dz_line {u w : ac_U} (h : S0 u w) (hz : Dd u) (h1 : (lineC u).2 = 1) : Dd (lineC u).1 := by
  have ht : tol (lineC u).1 = tol u + 1 := by
    rcases line_sim h with ⟨_, _, l⟩ | ⟨l, _, _⟩
    · exact l.2.2.2
    · rw [h1] at l; exact absurd l (by decide)
  revert h1 ht
  unfold lineC
  by_cases h0 : (u.1 1 6).toInt < 100 ∨ 109 < (u.1 1 6).toInt
  · rw [if_pos h0]; exact fun y _ => absurd y no01
  rw [if_neg h0]
  by_cases h1 : (u.1 1 6).toInt = 100
  · rw [if_pos h1]; exact fun _ _ => hz.fr (q_X3_readHours_22 u) rfl rfl rfl rfl
  rw [if_neg h1]
  by_cases h2 : (u.1 1 6).toInt = 101
  · rw [if_pos h2]; exact fun _ y => dz_place hz y
  rw [if_neg h2]
  by_cases h3 : (u.1 1 6).toInt = 102
  · rw [if_pos h3]; exact fun y _ => dz_way h hz y
  rw [if_neg h3]
  by_cases h4 : (u.1 1 6).toInt = 103
  · rw [if_pos h4]; exact fun _ _ => hz.fr (q_X3_readFrog_22 u) rfl rfl rfl rfl
  rw [if_neg h4]
  by_cases h5 : (u.1 1 6).toInt = 104
  · rw [if_pos h5]; exact fun _ _ => hz.fr (q_X3_readPerson_22 u) rfl rfl rfl rfl
  rw [if_neg h5]
  by_cases h6 : (u.1 1 6).toInt = 105
  · rw [if_pos h6]; exact fun _ _ => hz.fr (q_X3_readDeed_22 u) rfl rfl rfl rfl
  rw [if_neg h6]
  by_cases h7 : (u.1 1 6).toInt = 106
  · rw [if_pos h7]; exact fun _ y => dz_promise hz y
  rw [if_neg h7]
  by_cases h8 : (u.1 1 6).toInt = 107
  · rw [if_pos h8]; exact fun y _ => absurd y no01
  rw [if_neg h8]
  by_cases h9 : (u.1 1 6).toInt = 108
  · rw [if_pos h9]; exact fun y _ => absurd y no01
  rw [if_neg h9]
  exact fun y _ => dz_vow h hz y
theorem loop_dz (u0 : ac_U) : ∀ (n N : Nat) (u w : ac_U), S0 u w → u.1 22 3 = w.1 85 19 → (u.1 22 3).toInt = tol u → 53 - tol u < (n : Int) → n + 1 ≤ N → Dd u → (K_X3_readWhole_22_29 u0 N u (1 : Int32)).2 = 1 → Dd (K_X3_readWhole_22_29 u0 N u (1 : Int32)).1 := by
  intro n
  induction n with
  | zero =>
    intro N u w h _ _ h4
    have := tol_le h.1
    exfalso
    omega
  | succ n ih =>
    intro N u w h h2 h3 h4 h5 hz
    have ht := tol_le h.1
    obtain ⟨M, rfl⟩ : ∃ M, N = M + 1 := ⟨N - 1, by omega⟩
    by_cases q : (u.1 1 6).toInt = 0
    · rw [clE (Or.inr q)]
      exact fun _ => hz
    · rw [clK (by omega) q]
      have hl := line_sim h
      have hd := dz_line h hz
      generalize lineC u = a at hl hd ⊢
      generalize lineS w = b at hl
      rcases hl with ⟨l1, l2, l3, l4, l5, l6⟩ | ⟨l1, l2, l3⟩
      · rw [l1]
        obtain ⟨r1, r2⟩ := l3.read
        have hS : S0 (pI (f_X10_readNext_1 a.1) 22 3 (a.1.1 22 3 + 1)) (pI b.1 85 19 (b.1.1 85 19 + 1)) := by
          obtain ⟨m1, m2, m3⟩ := r1
          refine ⟨⟨⟨?_, ?_, m1.1.2.2⟩, m1.2.1, m1.2.2.1, m1.2.2.2.1, ?_⟩, ?_, ?_⟩
          · rw [pI_k (show 3 ≠ 19 by decide)]; exact m1.1.1
          · rw [pI_k (show 5 ≠ 19 by decide)]; exact m1.1.2.1
          · refine m1.2.2.2.2.to rfl rfl rfl rfl rfl rfl (pI_k (by decide)) rfl rfl (pI_k (by decide)) rfl
          · unfold At; rw [pI_c (show 1 ≠ 22 by decide), pI_k (show 4 ≠ 19 by decide)]; exact m2
          · have e4 : (pI b.1 85 19 (b.1.1 85 19 + 1)).1 85 12 = b.1.1 85 12 := pI_k (by decide)
            have e5 : (pI b.1 85 19 (b.1.1 85 19 + 1)).1 85 11 = b.1.1 85 11 := pI_k (by decide)
            have e6 : (pI b.1 85 19 (b.1.1 85 19 + 1)).1 85 14 = b.1.1 85 14 := pI_k (by decide)
            unfold Tk
            rw [e4, e5, e6]
            exact m3
        have g13 : ∀ k, (pI (f_X10_readNext_1 a.1) 22 3 (a.1.1 22 3 + 1)).1 13 k = a.1.1 13 k := fun k => (pI_c (by decide)).trans (r2.1 13 k (by omega))
        have g22 : (pI (f_X10_readNext_1 a.1) 22 3 (a.1.1 22 3 + 1)).1 22 4 = a.1.1 22 4 := (pI_k (by decide)).trans (r2.1 22 4 (by omega))
        have ht2 : tol (pI (f_X10_readNext_1 a.1) 22 3 (a.1.1 22 3 + 1)) = tol u + 1 := by
          rw [← l6]
          unfold tol
          rw [g13 1, g13 2, g13 3, g13 4, g13 5, g13 6, g13 7, g22]
        have hda := hd l1
        have hdz : Dd (pI (f_X10_readNext_1 a.1) 22 3 (a.1.1 22 3 + 1)) := Dz.cg hda (by rw [g13]; exact Int.le_refl _) (by rw [g13]; exact Int.le_refl _) (fun k _ => (pI_c (by decide)).trans (r2.1 14 k (by omega))) (fun k _ => (pI_c (by decide)).trans (r2.1 18 k (by omega)))
        refine ih M _ _ hS ?_ ?_ (by omega) (by omega) hdz
        · rw [pI_s, pI_s, l4, l5, h2]
        · rw [pI_s, ht2, l4, inc_i (by omega), h3]
      · rw [l1]
        obtain ⟨M', rfl⟩ : ∃ M', M = M' + 1 := ⟨M - 1, by omega⟩
        rw [clE (Or.inl t0i)]
        exact fun y => absurd y no01
set_option maxHeartbeats 4000000 in
theorem dz_house {u w : ac_U} (hb : ∀ k, u.1 2 k = w.1 86 k) (hl : u.1 1 2 = w.1 85 2) (hr : InR u) (hA : TdA u) (hB : RsB w) (hz0 : Dz (u.1 4) (u.1 5) (u.1 9)) : Dz ((f_X11_house_0 u).1.1 4) ((f_X11_house_0 u).1.1 5) ((f_X11_house_0 u).1.1 9) := by
  obtain ⟨v, v1, v2, -, v4, v5⟩ := zero_sp w 106 108 (wA w) (0 : Int32) (by decide) (by decide) (by decide)
  have v2 : ∀ k : Nat, k < 106 → v.1 88 k = 0 := fun k hk => v2 k (by omega) hk
  obtain ⟨s0, s1, s2⟩ := begin_sim hb hl hr hA hB v2 v4 v5
  obtain ⟨c0, c1, c2, c3, c4⟩ := clear_sp u
  have hz : ∀ j, 1 ≤ j → j ≤ 8 → (f_X10_readNext_1 (uA u)).1 13 j = 0 := fun j h1 h2 => by
    rw [s2.1 13 j (by omega)]; exact c1 j h1 h2
  have hz22 : (f_X10_readNext_1 (uA u)).1 22 4 = 0 := (s2.1 22 4 (by omega)).trans rfl
  have g13 : ∀ k, (pI (f_X10_readNext_1 (uA u)) 22 3 (0 : Int32)).1 13 k = (f_X10_readNext_1 (uA u)).1 13 k := fun k => pI_c (by decide)
  have g22 : (pI (f_X10_readNext_1 (uA u)) 22 3 (0 : Int32)).1 22 4 = (f_X10_readNext_1 (uA u)).1 22 4 := pI_k (by decide)
  have htol : tol (pI (f_X10_readNext_1 (uA u)) 22 3 (0 : Int32)) = 0 := by
    unfold tol
    rw [g13 1, g13 2, g13 3, g13 4, g13 5, g13 6, g13 7, g22, hz 1 (by decide) (by decide), hz 2 (by decide) (by decide), hz 3 (by decide) (by decide), hz 4 (by decide) (by decide), hz 5 (by decide) (by decide), hz 6 (by decide) (by decide), hz 7 (by decide) (by decide), hz22, t0i]
    omega
  have hl3 : (pI (f_X10_readNext_1 (uA u)) 22 3 (0 : Int32)).1 22 3 = (f_X12_next_85 (pI v 88 0 (24 : Int32))).1 85 19 := by
    rw [pI_s, s1.1 85 19 (by omega), pI_c (by decide), v4 85 19 (by decide)]; rfl
  have hd0 : Dd (pI (f_X10_readNext_1 (uA u)) 22 3 (0 : Int32)) := by
    refine ⟨fun k hk _ => ?_, fun b hb => ?_⟩
    · rw [pI_c (by decide), s2.1 14 k (by omega)]; exact c2 k hk
    · have e : (pI (f_X10_readNext_1 (uA u)) 22 3 (0 : Int32)).1 18 b = 0 := by rw [pI_c (by decide), s2.1 18 b (by omega)]; exact c3 b hb
      rw [e]
      exact ⟨by decide, fun i hi q => absurd q (vb_0 hi)⟩
  have hlp := loop_sim u w 56 943 (pI (f_X10_readNext_1 (uA u)) 22 3 (0 : Int32)) _ s0.l22 hl3 (by rw [htol, pI_s, t0i]) (by rw [htol]; decide) (by decide)
  have hdz := loop_dz u 56 943 (pI (f_X10_readNext_1 (uA u)) 22 3 (0 : Int32)) _ s0.l22 hl3 (by rw [htol, pI_s, t0i]) (by rw [htol]; decide) (by decide) hd0
  rw [← rw_eq] at hlp hdz
  have hfr := q_X3_readWhole_22 u
  have hcl : f_X11_house_0 u = if (f_X3_readWhole_22 u).2.toInt ≠ 0 then (f_X8_clear_43 (f_X6_begin_24 (f_X2_copyFrom_4_13 (pI (f_X3_readWhole_22 u).1 1 2 (0 : Int32)))), (f_X8_clear_43 (f_X6_begin_24 (f_X2_copyFrom_4_13 (pI (f_X3_readWhole_22 u).1 1 2 (0 : Int32))))).1 22 3) else (pI (f_X3_readWhole_22 u).1 1 2 (0 : Int32), (-1 : Int32) - (f_X3_readWhole_22 u).1.1 1 11) := rfl
  rw [hcl]
  generalize f_X3_readWhole_22 u = q at hlp hdz hfr ⊢
  rcases hlp with ⟨p1, _⟩ | ⟨p1, _⟩
  · have hd := hdz p1
    rw [p1, if_pos n1]
    obtain ⟨k1, k2, k3, k4⟩ := copyC (pI q.1 1 2 (0 : Int32))
    have g : ∀ c k, c = 4 ∨ c = 5 ∨ c = 9 → (f_X8_clear_43 (f_X6_begin_24 (f_X2_copyFrom_4_13 (pI q.1 1 2 (0 : Int32))))).1 c k = (f_X2_copyFrom_4_13 (pI q.1 1 2 (0 : Int32))).1 c k := fun c k hc => by
      rcases hc with e | e | e <;> subst e
      · exact (q_X8_clear_43 _ 4 k rfl).trans (q_X6_begin_24 _ 4 k rfl)
      · exact (q_X8_clear_43 _ 5 k rfl).trans (q_X6_begin_24 _ 5 k rfl)
      · exact (q_X8_clear_43 _ 9 k rfl).trans (q_X6_begin_24 _ 9 k rfl)
    have E4 : ∀ j, j < 8 → (f_X8_clear_43 (f_X6_begin_24 (f_X2_copyFrom_4_13 (pI q.1 1 2 (0 : Int32))))).1 4 j = q.1.1 13 j := fun j hj => by rw [g 4 j (by omega), k1 j hj, pI_c (by decide)]
    have E5 : ∀ k, k < 8 → (f_X8_clear_43 (f_X6_begin_24 (f_X2_copyFrom_4_13 (pI q.1 1 2 (0 : Int32))))).1 5 k = q.1.1 14 k := fun k hk => by rw [g 5 k (by omega), k2 k hk, pI_c (by decide)]
    have E9 : ∀ k, k < 8 → (f_X8_clear_43 (f_X6_begin_24 (f_X2_copyFrom_4_13 (pI q.1 1 2 (0 : Int32))))).1 9 k = q.1.1 18 k := fun k hk => by rw [g 9 k (by omega), k4 k hk, pI_c (by decide)]
    clear g k1 k2 k3 k4
    generalize f_X8_clear_43 (f_X6_begin_24 (f_X2_copyFrom_4_13 (pI q.1 1 2 (0 : Int32)))) = V at *
    exact Dz.cg hd (by rw [E4 1 (by decide)]; exact Int.le_refl _) (by rw [E4 6 (by decide)]; exact Int.le_refl _) E5 E9
  · rw [p1, if_neg n0]
    have hc : ∀ c k, c = 4 ∨ c = 5 ∨ c = 9 → (pI q.1 1 2 (0 : Int32)).1 c k = u.1 c k := fun c k hc => by
      rw [pI_c (by omega)]
      rcases hc with e | e | e <;> subst e
      · exact hfr 4 k rfl
      · exact hfr 5 k rfl
      · exact hfr 9 k rfl
    exact Dz.cg hz0 (by rw [hc 4 1 (by omega)]; exact Int.le_refl _) (by rw [hc 4 6 (by omega)]; exact Int.le_refl _) (fun k _ => hc 5 k (by omega)) (fun k _ => hc 9 k (by omega))

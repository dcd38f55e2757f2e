/-! Pure: the two readers of tokens go alike. -/
def CF (u u' : ac_U) : Prop := (∀ c k, ¬ (c = 1 ∧ 4 ≤ k ∧ k ≤ 8) → u'.1 c k = u.1 c k) ∧ (∀ c k, ¬ (c = 1 ∧ k = 7) → u'.2 c k = u.2 c k)
def RF (w w' : ac_U) : Prop := (∀ c k, ¬ (c = 85 ∧ (k = 4 ∨ (11 ≤ k ∧ k ≤ 14))) → w'.1 c k = w.1 c k) ∧ (∀ c k, ¬ (c = 85 ∧ k = 17) → w'.2 c k = w.2 c k)
theorem CF.rf {u : ac_U} : CF u u := ⟨fun _ _ _ => rfl, fun _ _ _ => rfl⟩
theorem RF.rf {u : ac_U} : RF u u := ⟨fun _ _ _ => rfl, fun _ _ _ => rfl⟩
theorem CF.tr {u v w : ac_U} (h : CF u v) (g : CF v w) : CF u w := ⟨fun c k q => (g.1 c k q).trans (h.1 c k q), fun c k q => (g.2 c k q).trans (h.2 c k q)⟩
theorem RF.tr {u v w : ac_U} (h : RF u v) (g : RF v w) : RF u w := ⟨fun c k q => (g.1 c k q).trans (h.1 c k q), fun c k q => (g.2 c k q).trans (h.2 c k q)⟩
theorem CF.pI {u v : ac_U} (h : CF u v) {j : Nat} {x : Int32} (hj : 4 ≤ j ∧ j ≤ 8) : CF u (pI v 1 j x) := ⟨fun c k q => by
  by_cases e : c = 1
  · rw [pI_k (by omega)]; exact h.1 c k q
  · rw [pI_c e]; exact h.1 c k q, h.2⟩
theorem CF.pL {u v : ac_U} (h : CF u v) {x : Int64} : CF u (pL v 1 7 x) := ⟨h.1, fun c k q => by
  by_cases e : c = 1
  · rw [pL_k (by omega)]; exact h.2 c k q
  · rw [pL_c e]; exact h.2 c k q⟩
theorem RF.pI {u v : ac_U} (h : RF u v) {j : Nat} {x : Int32} (hj : j = 4 ∨ (11 ≤ j ∧ j ≤ 14)) : RF u (pI v 85 j x) := ⟨fun c k q => by
  by_cases e : c = 85
  · rw [pI_k (by omega)]; exact h.1 c k q
  · rw [pI_c e]; exact h.1 c k q, h.2⟩
theorem RF.pL {u v : ac_U} (h : RF u v) {x : Int64} : RF u (pL v 85 17 x) := ⟨h.1, fun c k q => by
  by_cases e : c = 85
  · rw [pL_k (by omega)]; exact h.2 c k q
  · rw [pL_c e]; exact h.2 c k q⟩
def InE (u w : ac_U) : Prop := u.1 1 2 = w.1 85 3 ∧ u.1 1 3 = w.1 85 5 ∧ ∀ k, u.1 2 k = w.1 86 k
def InR (u : ac_U) : Prop := (0 ≤ (u.1 1 2).toInt ∧ (u.1 1 2).toInt ≤ 940) ∧ ∀ k, -128 ≤ (u.1 2 k).toInt ∧ (u.1 2 k).toInt ≤ 127
def At (u w : ac_U) : Prop := u.1 1 4 = w.1 85 4 ∧ 0 ≤ (u.1 1 4).toInt ∧ (u.1 1 4).toInt ≤ 940
def Lx (u w : ac_U) : Prop := InE u w ∧ InR u ∧ At u w
theorem InE.to {u w u' w' : ac_U} (h : InE u w) (hc : CF u u') (hr : RF w w') : InE u' w' := by
  refine ⟨?_, ?_, fun k => ?_⟩
  · rw [hc.1 1 2 (by omega), hr.1 85 3 (by omega)]; exact h.1
  · rw [hc.1 1 3 (by omega), hr.1 85 5 (by omega)]; exact h.2.1
  · rw [hc.1 2 k (by omega), hr.1 86 k (by omega)]; exact h.2.2 k
theorem InR.to {u u' : ac_U} (h : InR u) (hc : CF u u') : InR u' := by
  refine ⟨?_, fun k => ?_⟩
  · rw [hc.1 1 2 (by omega)]; exact h.1
  · rw [hc.1 2 k (by omega)]; exact h.2 k
def isSg (z : Int) : Prop := z = 59 ∨ z = 40 ∨ z = 41 ∨ z = 60 ∨ z = 61 ∨ z = 62
def Wd (u w : ac_U) (n : Nat) : Prop := n < 32 ^ 7 ∧ u.2 1 7 = Int64.ofNat n ∧ w.2 85 17 = Int64.ofNat (ph 8 n)
def Kd (x : Int) (n : Nat) : Prop := (∀ k : Nat, k < 27 → n = toldN k → x = 100 + k) ∧ ((∀ k : Nat, k < 27 → n ≠ toldN k) → x = 2)
def Tk (u w : ac_U) : Prop := u.1 1 5 = w.1 85 12 ∧ (((u.1 1 6).toInt = 0 ∧ (w.1 85 11).toInt = 0) ∨ ((u.1 1 6).toInt = 1 ∧ (w.1 85 11).toInt = 4) ∨ ((u.1 1 6).toInt = 3 ∧ (w.1 85 11).toInt = 2 ∧ u.1 1 8 = w.1 85 14) ∨ (isSg (u.1 1 6).toInt ∧ (w.1 85 11).toInt = 3 ∧ (w.1 85 14).toInt = (u.1 1 6).toInt) ∨ ((w.1 85 11).toInt = 1 ∧ ∃ n, Wd u w n ∧ Kd (u.1 1 6).toInt n))
def Fin2 (u w u' w' : ac_U) : Prop := CF u u' ∧ RF w w' ∧ At u' w' ∧ Tk u' w'
theorem stepR {B : ac_U → Int32 → Int32 → ac_U} {w0 w : ac_U} {y2 y3 c : Int32} (hc : f_X12_peek_85 w = c) (hs : isLt c ∨ isDg c) (hy : y2.toInt = 0 ∨ y2.toInt = 1) : ∃ (w2 : ac_U) (z : Int32), K_X12_next_85_181_b B w0 w y2 y3 = B w2 y2 z ∧ RF w w2 ∧ w2.1 85 12 = w.1 85 12 ∧ w2.1 85 13 = w.1 85 13 + 1 ∧ w2.1 85 4 = w.1 85 4 + 1 ∧ ((w.1 85 13).toInt < 7 → w2.2 85 17 = ((w.2 85 17) <<< (Int32.toInt64 (8 : Int32) &&& 63)) ||| c.toInt64) ∧ ((w.1 85 13).toInt < 3 → w2.1 85 14 = 10 * (w.1 85 14) + c - 48) ∧ (z.toInt = 0 ∨ z.toInt = 1) ∧ (z.toInt = 1 ↔ (y3.toInt ≠ 0 ∧ (isLt c ↔ y2.toInt = 1))) := by
  have h1 : K_X12_next_85_181_b B w0 w y2 y3 = K_X12_next_85_201 B w0 w y2 y3 := by
    simp only [K_X12_next_85_181_b, vl, hc]
    by_cases hl : isLt c
    · rw [gL1 hl, if_pos (by decide)]
    · rw [gL0 hl, if_neg (by decide), gD1 (hs.resolve_left hl), if_neg (by decide)]
  have h2 : ∃ z : Int32, K_X12_next_85_201 B w0 w y2 y3 = K_X12_next_85_221 B w0 w y2 z ∧ (z.toInt = 0 ∨ z.toInt = 1) ∧ (z.toInt = 1 ↔ (y3.toInt ≠ 0 ∧ (isLt c ↔ y2.toInt = 1))) := by
    simp only [K_X12_next_85_201, K_X12_next_85_220, vl, hc]
    by_cases h3 : y3.toInt = 0
    · exact ⟨0, by rw [if_pos h3], Or.inl t0i, ⟨fun q => absurd q (by decide), fun q => absurd h3 q.1⟩⟩
    · by_cases hl : isLt c
      · by_cases h4 : y2.toInt = 1
        · exact ⟨1, by rw [if_neg h3, gL1 hl, if_neg (by rw [h4]; decide)], Or.inr t1i, ⟨fun _ => ⟨h3, ⟨fun _ => h4, fun _ => hl⟩⟩, fun _ => t1i⟩⟩
        · exact ⟨0, by rw [if_neg h3, gL1 hl, if_pos (fun q => h4 (q.symm.trans t1i))], Or.inl t0i, ⟨fun q => absurd q (by decide), fun q => absurd (q.2.mp hl) h4⟩⟩
      · by_cases h4 : y2.toInt = 1
        · exact ⟨0, by rw [if_neg h3, gL0 hl, if_pos (by rw [h4]; decide)], Or.inl t0i, ⟨fun q => absurd q (by decide), fun q => absurd (q.2.mpr h4) hl⟩⟩
        · exact ⟨1, by rw [if_neg h3, gL0 hl, if_neg (fun q => q (t0i.trans (hy.resolve_right h4).symm))], Or.inr t1i, ⟨fun _ => ⟨h3, ⟨fun q => absurd q hl, fun q => absurd q h4⟩⟩, fun _ => t1i⟩⟩
  obtain ⟨z, h2, h3, h4⟩ := h2
  rw [h1, h2]
  have hp : ∀ x : Int64, f_X12_peek_85 (pL w 85 17 x) = f_X12_peek_85 w := fun _ => rfl
  by_cases a7 : (7 : Int) ≤ (w.1 85 13).toInt
  · refine ⟨pI (pI w 85 13 (w.1 85 13 + 1)) 85 4 (w.1 85 4 + 1), z, ?_, (RF.rf.pI (by omega)).pI (by omega), ?_, ?_, ?_, fun q => by omega, fun q => by omega, h3, h4⟩
    · simp only [K_X12_next_85_221, K_X12_next_85_248, K_X12_next_85_275, vl]
      rw [if_pos a7, if_pos (by omega)]
    · rw [pI_k (by decide), pI_k (by decide)]
    · rw [pI_k (by decide), pI_s]
    · rw [pI_s]
  · by_cases a3 : (3 : Int) ≤ (w.1 85 13).toInt
    · refine ⟨pI (pI (pL w 85 17 (((w.2 85 17) <<< (Int32.toInt64 (8 : Int32) &&& 63)) ||| c.toInt64)) 85 13 (w.1 85 13 + 1)) 85 4 (w.1 85 4 + 1), z, ?_, (RF.rf.pL.pI (by omega)).pI (by omega), ?_, ?_, ?_, fun _ => ?_, fun q => by omega, h3, h4⟩
      · simp only [K_X12_next_85_221, K_X12_next_85_248, K_X12_next_85_275, vl, hc]
        rw [if_neg a7, if_pos (show (3 : Int) ≤ ((pL w 85 17 (((w.2 85 17) <<< (Int32.toInt64 (8 : Int32) &&& 63)) ||| c.toInt64)).1 85 13).toInt from a3)]
        rfl
      · rw [pI_k (by decide), pI_k (by decide)]
        rfl
      · rw [pI_k (by decide), pI_s]
      · rw [pI_s]
      · rw [pI_2, pI_2, pL_s]
    · refine ⟨pI (pI (pI (pL w 85 17 (((w.2 85 17) <<< (Int32.toInt64 (8 : Int32) &&& 63)) ||| c.toInt64)) 85 14 (10 * (w.1 85 14) + c - 48)) 85 13 (w.1 85 13 + 1)) 85 4 (w.1 85 4 + 1), z, ?_, ((RF.rf.pL.pI (by omega)).pI (by omega)).pI (by omega), ?_, ?_, ?_, fun _ => ?_, fun _ => ?_, h3, h4⟩
      · simp only [K_X12_next_85_221, K_X12_next_85_248, K_X12_next_85_275, vl, hc]
        rw [if_neg a7, if_neg (show ¬ (3 : Int) ≤ ((pL w 85 17 (((w.2 85 17) <<< (Int32.toInt64 (8 : Int32) &&& 63)) ||| c.toInt64)).1 85 13).toInt from a3), hp, hc]
        rfl
      · rw [pI_k (by decide), pI_k (by decide), pI_k (by decide)]
        rfl
      · rw [pI_k (by decide), pI_s]
      · rw [pI_s]
      · rw [pI_2, pI_2, pI_2, pL_s]
      · rw [pI_k (by decide), pI_k (by decide), pI_s]
theorem stepL {B : ac_U → Int32 → Int32 → ac_U} {u0 u : ac_U} {x1 x2 b : Int32} (hn : ¬ (u.1 1 2).toInt ≤ (u.1 1 4).toInt) (hb : u.1 2 (u.1 1 4).toNatClampNeg = b) (hl : isLt b) : K_X10_readRun_1_14_b B u0 u x1 x2 = B (pI (pL u 1 7 (f_X10_withLetter u (u.2 1 7) b)) 1 4 (u.1 1 4 + 1)) (x1 + Int32.ofInt (1)) x2 := by
  simp only [K_X10_readRun_1_14_b, K_X10_readRun_1_55, K_X10_readRun_1_123, vl, hb]
  rw [if_neg hn, fL1 hl, if_pos (by decide), if_neg (by decide)]
  rfl
theorem stepD {B : ac_U → Int32 → Int32 → ac_U} {u0 u : ac_U} {x1 x2 b : Int32} (hn : ¬ (u.1 1 2).toInt ≤ (u.1 1 4).toInt) (hb : u.1 2 (u.1 1 4).toNatClampNeg = b) (hl : ¬ isLt b) (hd : isDg b) : K_X10_readRun_1_14_b B u0 u x1 x2 = B (pI (pI u 1 8 (u.1 1 8 * 10 + (b - 48))) 1 4 (u.1 1 4 + 1)) x1 (x2 + Int32.ofInt (1)) := by
  simp only [K_X10_readRun_1_14_b, K_X10_readRun_1_55, K_X10_readRun_1_123, vl, hb]
  rw [if_neg hn, fL0 hl, if_neg (by decide), fD1 hd, if_neg (by decide), if_pos (by decide)]
  rfl
theorem stepE {B : ac_U → Int32 → Int32 → ac_U} {u0 u : ac_U} {x1 x2 : Int32} (h : (u.1 1 2).toInt ≤ (u.1 1 4).toInt ∨ (¬ isLt (u.1 2 (u.1 1 4).toNatClampNeg) ∧ ¬ isDg (u.1 2 (u.1 1 4).toNatClampNeg))) : K_X10_readRun_1_14_b B u0 u x1 x2 = K_X10_readRun_1_136 u0 u x1 x2 := by
  simp only [K_X10_readRun_1_14_b, vl]
  by_cases h1 : (u.1 1 2).toInt ≤ (u.1 1 4).toInt
  · rw [if_pos h1]
  · obtain ⟨h2, h3⟩ := h.resolve_left h1
    rw [if_neg h1, fL0 h2, if_neg (by decide), fD0 h3, if_pos (by decide)]
def endR (w0 w : ac_U) (y2 y3 : Int32) : ac_U := if y3.toInt = 0 then K_X12_next_85_320 w0 w else if y2.toInt = 0 then K_X12_next_85_317 w0 w y2 (w.1 85 13) (3 : Int32) else K_X12_next_85_317 w0 w y2 (w.1 85 13) (7 : Int32)
theorem stepRE {B : ac_U → Int32 → Int32 → ac_U} {w0 w : ac_U} {y2 y3 c : Int32} (hc : f_X12_peek_85 w = c) (h1 : ¬ isLt c) (h2 : ¬ isDg c) : K_X12_next_85_181_b B w0 w y2 y3 = endR w0 w y2 y3 := by
  simp only [K_X12_next_85_181_b, vl, hc]
  rw [gL0 h1, if_neg (by decide), gD0 h2, if_pos (by decide)]
  rfl

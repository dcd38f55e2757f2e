/-! Pure: places of a state; bytes; words by their numbers. -/
theorem si1 (u : ac_U) (c d : Nat) (g : Nat → Int32) : (ac_si u c g).1 d = if d = c then g else u.1 d := rfl
theorem sl2 (u : ac_U) (c d : Nat) (g : Nat → Int64) : (ac_sl u c g).2 d = if d = c then g else u.2 d := rfl
theorem up1 (f : Nat → Int32) (k j : Nat) (v : Int32) : upd f k v j = if j = k then v else f j := rfl
theorem up2 (f : Nat → Int64) (k j : Nat) (v : Int64) : vp_updL f k v j = if j = k then v else f j := rfl
theorem pI_s {u : ac_U} {c k : Nat} {v : Int32} : (pI u c k v).1 c k = v := by simp [si1, up1]
theorem pI_c {u : ac_U} {c k d j : Nat} {v : Int32} (h : d ≠ c) : (pI u c k v).1 d j = u.1 d j := by simp [si1, h]
theorem pI_k {u : ac_U} {c k d j : Nat} {v : Int32} (h : j ≠ k) : (pI u c k v).1 d j = u.1 d j := by
  rw [si1]
  by_cases e : d = c
  · rw [if_pos e, up1, if_neg h, e]
  · rw [if_neg e]
theorem pI_2 {u : ac_U} {c k : Nat} {v : Int32} : (pI u c k v).2 = u.2 := rfl
theorem pL_1 {u : ac_U} {c k : Nat} {v : Int64} : (pL u c k v).1 = u.1 := rfl
theorem pL_s {u : ac_U} {c k : Nat} {v : Int64} : (pL u c k v).2 c k = v := by simp [sl2, up2]
theorem pL_c {u : ac_U} {c k d j : Nat} {v : Int64} (h : d ≠ c) : (pL u c k v).2 d j = u.2 d j := by simp [sl2, h]
theorem pL_k {u : ac_U} {c k d j : Nat} {v : Int64} (h : j ≠ k) : (pL u c k v).2 d j = u.2 d j := by
  rw [sl2]
  by_cases e : d = c
  · rw [if_pos e, up2, if_neg h, e]
  · rw [if_neg e]
theorem t1i : (1 : Int32).toInt = 1 := by decide
theorem t0i : (0 : Int32).toInt = 0 := by decide
theorem n0 : ¬ (0 : Int32).toInt ≠ 0 := by decide
theorem n1 : (1 : Int32).toInt ≠ 0 := by decide
theorem n1' : ¬ (1 : Int32).toInt = 0 := by decide
theorem b_all : ∀ z : Nat, z < 256 → (128 ≤ z → (Int32.ofInt ((z : Int) - 128)) &&& 255 = Int32.ofInt ((z : Int) - 128)) ∧ (z < 128 → 128 ≤ ((Int32.ofInt ((z : Int) - 128)) &&& 255).toInt ∧ ((Int32.ofInt ((z : Int) - 128)) &&& 255).toInt ≤ 255) := by decide +kernel
theorem and255 {v : Int32} (h : -128 ≤ v.toInt ∧ v.toInt ≤ 127) : (0 ≤ v.toInt → v &&& 255 = v) ∧ (v.toInt < 0 → 128 ≤ (v &&& 255).toInt ∧ (v &&& 255).toInt ≤ 255) := by
  have e : v = Int32.ofInt (((v.toInt + 128).toNat : Int) - 128) := by
    rw [show (((v.toInt + 128).toNat : Int) - 128) = v.toInt by omega, Int32.ofInt_toInt]
  have h1 := b_all (v.toInt + 128).toNat (by omega)
  rw [← e] at h1
  exact ⟨fun q => h1.1 (by omega), fun q => h1.2 (by omega)⟩
def isLt (v : Int32) : Prop := 97 ≤ v.toInt ∧ v.toInt ≤ 122
def isDg (v : Int32) : Prop := 48 ≤ v.toInt ∧ v.toInt ≤ 57
theorem fL1 {u : ac_U} {v : Int32} (h : isLt v) : f_X10_isLetter u v = 1 := by
  unfold isLt at h; unfold f_X10_isLetter; rw [if_neg (by omega), if_neg (by omega)]
theorem fL0 {u : ac_U} {v : Int32} (h : ¬ isLt v) : f_X10_isLetter u v = 0 := by
  unfold isLt at h; unfold f_X10_isLetter K_X10_isLetter_16
  by_cases h1 : v.toInt < 97
  · rw [if_pos h1]
  · rw [if_neg h1, if_pos (by omega)]
theorem fD1 {u : ac_U} {v : Int32} (h : isDg v) : f_X10_isDigit u v = 1 := by
  unfold isDg at h; unfold f_X10_isDigit; rw [if_neg (by omega), if_neg (by omega)]
theorem fD0 {u : ac_U} {v : Int32} (h : ¬ isDg v) : f_X10_isDigit u v = 0 := by
  unfold isDg at h; unfold f_X10_isDigit K_X10_isDigit_16
  by_cases h1 : v.toInt < 48
  · rw [if_pos h1]
  · rw [if_neg h1, if_pos (by omega)]
theorem gL1 {u : ac_U} {v : Int32} (h : isLt v) : f_X12_isSmall u v = 1 := by
  unfold isLt at h; unfold f_X12_isSmall; rw [if_neg (by omega), if_neg (by omega)]
theorem gL0 {u : ac_U} {v : Int32} (h : ¬ isLt v) : f_X12_isSmall u v = 0 := by
  unfold isLt at h; unfold f_X12_isSmall K_X12_isSmall_16
  by_cases h1 : v.toInt < 97
  · rw [if_pos h1]
  · rw [if_neg h1, if_pos (by omega)]
theorem gD1 {u : ac_U} {v : Int32} (h : isDg v) : f_X12_isDigit u v = 1 := by
  unfold isDg at h; unfold f_X12_isDigit; rw [if_neg (by omega), if_neg (by omega)]
theorem gD0 {u : ac_U} {v : Int32} (h : ¬ isDg v) : f_X12_isDigit u v = 0 := by
  unfold isDg at h; unfold f_X12_isDigit K_X12_isDigit_16
  by_cases h1 : v.toInt < 48
  · rw [if_pos h1]
  · rw [if_neg h1, if_pos (by omega)]
theorem pk_end {w : ac_U} (h : (w.1 85 3).toInt ≤ (w.1 85 4).toInt) : f_X12_peek_85 w = -1 := by
  unfold f_X12_peek_85; rw [if_pos h]
theorem pk_inn {w : ac_U} (h : ¬ (w.1 85 3).toInt ≤ (w.1 85 4).toInt) : f_X12_peek_85 w = w.1 86 (w.1 85 4).toNatClampNeg &&& 255 := by
  unfold f_X12_peek_85; rw [if_neg h]
theorem ph_stab : ∀ k n, n < 32 ^ k → ph (k + 1) n = ph k n := by
  intro k
  induction k with
  | zero =>
    intro n h
    have e : n = 0 := by simpa using h
    subst e
    rfl
  | succ k ih =>
    intro n h
    show (if n = 0 then 0 else ph (k + 1) (n / 32) * 256 + (n % 32 + 96)) = (if n = 0 then 0 else ph k (n / 32) * 256 + (n % 32 + 96))
    rw [ih (n / 32) (by rw [Nat.pow_succ] at h; omega)]
theorem ph_step {n q : Nat} (hn : n < 32 ^ 7) (hq : 1 ≤ q ∧ q ≤ 31) : ph 8 (n * 32 + q) = ph 8 n * 256 + (q + 96) := by
  show (if n * 32 + q = 0 then 0 else ph 7 ((n * 32 + q) / 32) * 256 + ((n * 32 + q) % 32 + 96)) = _
  rw [if_neg (by omega), show (n * 32 + q) / 32 = n by omega, show (n * 32 + q) % 32 = q by omega, ph_stab 7 n hn]
theorem ph_inj : ∀ k n m, n < 32 ^ k → m < 32 ^ k → ph k n = ph k m → n = m := by
  intro k
  induction k with
  | zero =>
    intro n m h1 h2 _
    have e1 : n = 0 := by simpa using h1
    have e2 : m = 0 := by simpa using h2
    rw [e1, e2]
  | succ k ih =>
    intro n m h1 h2 h
    have h : (if n = 0 then 0 else ph k (n / 32) * 256 + (n % 32 + 96)) = (if m = 0 then 0 else ph k (m / 32) * 256 + (m % 32 + 96)) := h
    rw [Nat.pow_succ] at h1 h2
    by_cases e1 : n = 0
    · by_cases e2 : m = 0
      · rw [e1, e2]
      · rw [if_pos e1, if_neg e2] at h; omega
    · by_cases e2 : m = 0
      · rw [if_neg e1, if_pos e2] at h; omega
      · rw [if_neg e1, if_neg e2] at h
        have h3 : n % 32 < 32 := Nat.mod_lt _ (by decide)
        have h4 : m % 32 < 32 := Nat.mod_lt _ (by decide)
        have h5 := ih (n / 32) (m / 32) (by omega) (by omega) (by omega)
        omega
theorem ph_lt : ∀ k n, ph k n < 256 ^ k := by
  intro k
  induction k with
  | zero => intro n; exact Nat.one_pos
  | succ k ih =>
    intro n
    show (if n = 0 then 0 else ph k (n / 32) * 256 + (n % 32 + 96)) < _
    have h1 := ih (n / 32)
    have h3 : n % 32 < 32 := Nat.mod_lt _ (by decide)
    have h4 : 0 < 256 ^ (k + 1) := Nat.pow_pos (by decide)
    rw [Nat.pow_succ] at h4 ⊢
    by_cases e : n = 0
    · rw [if_pos e]; exact h4
    · rw [if_neg e]; omega
theorem l_inj {n m : Nat} (h1 : n < 2 ^ 63) (h2 : m < 2 ^ 63) (h : Int64.ofNat n = Int64.ofNat m) : n = m := by
  have e1 : (Int64.ofNat n).toInt = (n : Int) := Int64.toInt_ofNat_of_lt h1
  have e2 : (Int64.ofNat m).toInt = (m : Int) := Int64.toInt_ofNat_of_lt h2
  rw [h, e2] at e1
  omega
theorem i2l_nat {v : Int32} {n : Nat} (h : v.toInt = (n : Int)) : v.toInt64 = Int64.ofNat n := by
  apply Int64.toInt_inj.mp
  have h1 := i_hi v
  rw [Int64.toInt_ofNat_of_lt (by omega), Int32.toInt_toInt64, h]
/-- the class's word with one letter more -/
theorem wl_step {u : ac_U} {n : Nat} {v : Int32} (hv : isLt v) : f_X10_withLetter u (Int64.ofNat n) v = Int64.ofNat (n * 32 + (v.toInt - 96).toNat) := by
  unfold isLt at hv
  show Int64.ofNat n * 32 + (v - 97 + 1).toInt64 = _
  have h1 : (v - 97).toInt = v.toInt - 97 := i_sub rfl (by decide) (by omega)
  have h2 : (v - 97 + 1).toInt = v.toInt - 97 + 1 := i_add h1 (by decide) (by omega)
  rw [i2l_nat (n := (v.toInt - 96).toNat) (by omega), Int64.ofNat_add, Int64.ofNat_mul]
  rfl
/-- the reference's word with one letter more -/
theorem wr_step {m c : Nat} (hm : m < 2 ^ 55) (hc : c < 256) : (Int64.ofNat m <<< (Int32.toInt64 (8 : Int32) &&& 63)) ||| Int64.ofNat c = Int64.ofNat (m * 256 + c) := by
  apply Int64.toBitVec_inj.mp
  apply BitVec.eq_of_toNat_eq
  rw [Int64.toBitVec_or, BitVec.toNat_or, Int64.toBitVec_shiftLeft]
  have e : (Int32.toInt64 (8 : Int32) &&& 63).toBitVec.smod 64 = 8#64 := by decide
  rw [e]
  have e2 : ∀ q : Nat, (Int64.ofNat q).toBitVec = BitVec.ofNat 64 q := fun _ => rfl
  rw [e2, e2, e2]
  have e3 : (BitVec.ofNat 64 m <<< 8#64).toNat = m * 256 := by
    rw [BitVec.shiftLeft_eq', BitVec.toNat_shiftLeft, BitVec.toNat_ofNat, show (8#64).toNat = 8 from rfl, Nat.shiftLeft_eq, Nat.mod_eq_of_lt (show m < 2 ^ 64 by omega)]
    exact Nat.mod_eq_of_lt (show m * 2 ^ 8 < 2 ^ 64 by omega)
  rw [e3, BitVec.toNat_ofNat, BitVec.toNat_ofNat, Nat.mod_eq_of_lt (show c < 2 ^ 64 by omega), Nat.mod_eq_of_lt (show m * 256 + c < 2 ^ 64 by omega)]
  have h := Nat.shiftLeft_add_eq_or_of_lt (i := 8) (b := c) (by omega) m
  rw [Nat.shiftLeft_eq] at h
  exact h.symm

def ctA (k : Nat) : Int64 := Int64.ofNat (toldN k)
def ctB (k : Nat) : Int64 := Int64.ofNat (ph 8 (toldN (pmR k)))
def jch (x : Int32) : Int32 := ((x &&& 255).toUInt32 % 65536).toInt32
def tapeZ : List Int32 := [104, 111, 117, 114, 115, 32, 112, 108, 97, 99, 101, 32, 119, 97, 121, 32, 102, 114, 111, 103, 32, 112, 101, 114, 115, 111, 110, 32, 100, 101, 101, 100, 32, 112, 114, 111, 109, 105, 115, 101, 32, 101, 97, 99, 104, 32, 117, 110, 108, 101, 115, 115, 32, 118, 111, 119, 32, 103, 111, 101, 115, 32, 100, 111, 101, 115, 32, 115, 97, 121, 115, 32, 104, 111, 117, 114, 32, 111, 114, 32, 97, 110, 100, 32, 110, 111, 116, 32, 98, 111, 117, 110, 100, 32, 111, 112, 101, 110, 32, 107, 101, 112, 116, 32, 111, 102, 102, 32, 98, 114, 111, 107, 101, 110, 32, 111, 102, 32, 102, 114, 111, 109, 32, 116, 105, 108, 108, 32, 116, 105, 109, 101, 115, 32, 110, 117, 109, 98, 101, 114, 32]
def tpK (i : Nat) : Nat := ([0, 0, 0, 0, 0, 0, 1, 1, 1, 1, 1, 1, 2, 2, 2, 2, 3, 3, 3, 3, 3, 4, 4, 4, 4, 4, 4, 4, 5, 5, 5, 5, 5, 6, 6, 6, 6, 6, 6, 6, 6, 7, 7, 7, 7, 7, 8, 8, 8, 8, 8, 8, 8, 9, 9, 9, 9, 10, 10, 10, 10, 10, 11, 11, 11, 11, 11, 12, 12, 12, 12, 12, 13, 13, 13, 13, 13, 14, 14, 14, 15, 15, 15, 15, 16, 16, 16, 16, 17, 17, 17, 17, 17, 17, 18, 18, 18, 18, 18, 19, 19, 19, 19, 19, 20, 20, 20, 20, 21, 21, 21, 21, 21, 21, 21, 22, 22, 22, 23, 23, 23, 23, 23, 24, 24, 24, 24, 24, 25, 25, 25, 25, 25, 25, 26, 26, 26, 26, 26, 26, 26, 27] : List Nat).getD i 0
def tpW (i : Nat) : Nat := ([0, 8, 271, 8693, 278194, 8902227, 0, 16, 524, 16769, 536611, 17171557, 0, 23, 737, 23609, 0, 6, 210, 6735, 215527, 0, 16, 517, 16562, 530003, 16960111, 542723566, 0, 4, 133, 4261, 136356, 0, 16, 530, 16975, 543213, 17382825, 556250419, 17800013413, 0, 5, 161, 5155, 164968, 0, 21, 686, 21964, 702853, 22491315, 719722099, 0, 22, 719, 23031, 0, 7, 239, 7653, 244915, 0, 4, 143, 4581, 146611, 0, 19, 609, 19513, 624435, 0, 8, 271, 8693, 278194, 0, 15, 498, 0, 1, 46, 1476, 0, 14, 463, 14836, 0, 2, 79, 2549, 81582, 2610628, 0, 15, 496, 15877, 508078, 0, 11, 357, 11440, 366100, 0, 15, 486, 15558, 0, 2, 82, 2639, 84459, 2702693, 86486190, 0, 15, 486, 0, 6, 210, 6735, 215533, 0, 20, 649, 20780, 664972, 0, 20, 649, 20781, 664997, 21279923, 0, 14, 469, 15021, 480674, 15381573, 492210354, 0] : List Nat).getD i 0
def gK (k : Nat) : Nat → Int64 := fun j => if j < k then Int64.ofNat (toldN j) else 0
/-- where the loop over the letters stands -/
def tpI (i : Nat) (k : Int32) (w : Int64) (g : Nat → Int64) : Prop := k.toInt = tpK i ∧ w = Int64.ofNat (tpW i) ∧ g = gK (tpK i)
theorem tp_all : ∀ i, i < 141 → ((tapeZ.getD i 0).toInt = 32 → tpW i = toldN (tpK i) ∧ tpK (i + 1) = tpK i + 1 ∧ tpW (i + 1) = 0) ∧ ((tapeZ.getD i 0).toInt ≠ 32 → (97 ≤ (tapeZ.getD i 0).toInt ∧ (tapeZ.getD i 0).toInt ≤ 122) ∧ tpK (i + 1) = tpK i ∧ tpW (i + 1) = tpW i * 32 + ((tapeZ.getD i 0).toInt - 96).toNat) := by decide +kernel
theorem tp_26 : ∀ i, i < 141 → tpK i ≤ 26 := by decide +kernel
theorem tp_ch : ∀ i, i < 141 → jch (tapeZ.getD i 0) = tapeZ.getD i 0 := by decide +kernel
theorem tpz_0 : tpI (0 : Int32).toNatClampNeg (0 : Int32) (0 : Int64) (fun _ => 0) := ⟨by decide, by decide, by funext j; rfl⟩
theorem tp_end {i : Nat} {k : Int32} {w : Int64} {g : Nat → Int64} (h : tpI i k w g) (hi : i = 141) : g = ctA := by
  subst hi
  rw [h.2.2]
  funext j
  show (if j < 27 then Int64.ofNat (toldN j) else 0) = Int64.ofNat (toldN j)
  by_cases q : j < 27
  · rw [if_pos q]
  · rw [if_neg q]
    unfold toldN
    rw [List.getD_eq_getElem?_getD, List.getElem?_eq_none (by simpa using q)]
    rfl
theorem tp_l {w : Nat} {r : Int32} (h : 97 ≤ r.toInt ∧ r.toInt ≤ 122) : Int64.ofNat w * 32 + (r - 97 + 1).toInt64 = Int64.ofNat (w * 32 + (r.toInt - 96).toNat) := by
  have h1 : (r - 97).toInt = r.toInt - 97 := i_sub rfl (by decide) (by omega)
  have h2 : (r - 97 + 1).toInt = r.toInt - 97 + 1 := i_add h1 (by decide) (by omega)
  have h3 : (r - 97 + 1).toInt64 = Int64.ofNat (r.toInt - 96).toNat := by
    apply Int64.toInt_inj.mp
    rw [Int64.toInt_ofNat_of_lt (by omega), Int32.toInt_toInt64]
    omega
  rw [h3, Int64.ofNat_add, Int64.ofNat_mul]
  rfl
theorem tp_let {i : Nat} {k r : Int32} {w w2 : Int64} {g : Nat → Int64} (h : tpI i k w g) (hi : i < 141) (hr : r = tapeZ.getD i 0) (hc : r.toInt ≠ 32) (h2 : w2 = w * 32 + (r - 97 + 1).toInt64) : tpI (i + 1) k w2 g := by
  obtain ⟨a, b, c⟩ := (tp_all i hi).2 (by rw [← hr]; exact hc)
  refine ⟨by rw [b]; exact h.1, ?_, by rw [b]; exact h.2.2⟩
  rw [h2, h.2.1, c, ← hr]
  rw [← hr] at a
  exact tp_l a
theorem tp_spc {i : Nat} {k r z : Int32} {w : Int64} {g : Nat → Int64} (h : tpI i k w g) (hi : i < 141) (hr : r = tapeZ.getD i 0) (hc : r.toInt = 32) (hz : z.toInt = k.toInt + 1) : tpI (i + 1) z (0 : Int64) (vp_updL g k.toNatClampNeg w) := by
  obtain ⟨a, b, c⟩ := (tp_all i hi).1 (by rw [← hr]; exact hc)
  have hk := i_cl (x := k) (by rw [h.1]; omega)
  have hkk : k.toNatClampNeg = tpK i := by have := h.1; omega
  refine ⟨by rw [b, hz, h.1]; omega, by rw [c]; rfl, ?_⟩
  rw [b, h.2.2, h.2.1, hkk, a]
  funext j
  show (if j = tpK i then Int64.ofNat (toldN (tpK i)) else (if j < tpK i then Int64.ofNat (toldN j) else 0)) = (if j < tpK i + 1 then Int64.ofNat (toldN j) else 0)
  by_cases q : j = tpK i
  · rw [if_pos q, if_pos (by omega), q]
  · rw [if_neg q]
    by_cases q2 : j < tpK i
    · rw [if_pos q2, if_pos (by omega)]
    · rw [if_neg q2, if_neg (by omega)]

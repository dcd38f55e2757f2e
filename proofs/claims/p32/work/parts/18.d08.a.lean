/-! Pure: bytes are fed alike. -/
theorem sh_eq (p : Int32) (s : Nat) (hs : s ≤ 24) : (jushr p (nI s)).toInt8 = (p >>> (nI s &&& 31)).toInt8 := by
  have e1 : ∀ t, t < 32 → ((nI t).toUInt32 &&& Int32.toUInt32 31).toBitVec.toNat % 32 = t := by decide +kernel
  have e2 : ∀ t, t < 32 → ((nI t &&& 31).toBitVec.smod 32).toNat = t := by decide +kernel
  have h1 := e1 s (by omega)
  have h2 := e2 s (by omega)
  apply Int8.toBitVec_inj.mp
  apply BitVec.eq_of_getLsbD_eq
  intro i hi
  have a1 : (jushr p (nI s)).toInt8.toBitVec = (jushr p (nI s)).toBitVec.signExtend 8 := rfl
  have a2 : (p >>> (nI s &&& 31)).toInt8.toBitVec = (p >>> (nI s &&& 31)).toBitVec.signExtend 8 := rfl
  have b1 : (jushr p (nI s)).toBitVec = p.toBitVec >>> s := by
    show (p.toUInt32 >>> ((nI s).toUInt32 &&& Int32.toUInt32 31)).toBitVec = _
    rw [UInt32.toBitVec_shiftRight]
    show p.toBitVec >>> (((nI s).toUInt32 &&& Int32.toUInt32 31).toBitVec % 32) = _
    rw [BitVec.ushiftRight_eq', BitVec.toNat_umod]
    show p.toBitVec >>> (((nI s).toUInt32 &&& Int32.toUInt32 31).toBitVec.toNat % 32) = _
    rw [h1]
  have b2 : (p >>> (nI s &&& 31)).toBitVec = p.toBitVec.sshiftRight s := by
    rw [Int32.toBitVec_shiftRight, BitVec.sshiftRight_eq', h2]
  rw [a1, a2, b1, b2, BitVec.signExtend_eq_setWidth_of_le _ (by decide), BitVec.signExtend_eq_setWidth_of_le _ (by decide), BitVec.getLsbD_setWidth, BitVec.getLsbD_setWidth, BitVec.getLsbD_ushiftRight, BitVec.getLsbD_sshiftRight]
  have c1 : ¬ 32 ≤ i := by omega
  have c2 : s + i < 32 := by omega
  simp only [c1, c2, decide_true, decide_false, if_true, Bool.true_and, Bool.not_false]

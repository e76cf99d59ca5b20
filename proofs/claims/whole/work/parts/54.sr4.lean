/-! shifts that keep the sign, under a mask -/
theorem sh_s : ∀ k, k < 25 → ((nI k &&& 31).toBitVec.smod 32).toNat = k := by decide +kernel
theorem ash_eq (x mk : Int32) {k : Nat} (hk : k < 25) (hm : un mk < 256) : (x >>> (nI k &&& 31)) &&& mk = (x.toUInt32 >>> ((nI k).toUInt32 &&& Int32.toUInt32 31)).toInt32 &&& mk := by
  apply Int32.toBitVec_inj.1
  apply BitVec.eq_of_getLsbD_eq
  intro i hi
  rw [Int32.toBitVec_and, Int32.toBitVec_and, BitVec.getLsbD_and, BitVec.getLsbD_and]
  by_cases h8 : i < 8
  · congr 1
    rw [Int32.toBitVec_shiftRight]
    have e1 : (x.toBitVec.sshiftRight' ((nI k &&& 31).toBitVec.smod 32)).getLsbD i = (x.toBitVec.sshiftRight k).getLsbD i := by
      show (x.toBitVec.sshiftRight ((nI k &&& 31).toBitVec.smod 32).toNat).getLsbD i = _
      rw [sh_s k hk]
    have e2 : (x.toUInt32 >>> ((nI k).toUInt32 &&& Int32.toUInt32 31)).toInt32.toBitVec.getLsbD i = (x.toBitVec >>> k).getLsbD i := by
      show (x.toUInt32 >>> ((nI k).toUInt32 &&& Int32.toUInt32 31)).toBitVec.getLsbD i = _
      rw [UInt32.toBitVec_shiftRight]
      show (x.toBitVec >>> (((nI k).toUInt32 &&& Int32.toUInt32 31).toBitVec % 32).toNat).getLsbD i = _
      rw [sh_un k (by omega)]
    rw [e1, e2, BitVec.getLsbD_sshiftRight, BitVec.getLsbD_ushiftRight]
    simp [hi, show k + i < 32 by omega]
  · have : mk.toBitVec.getLsbD i = false := Nat.testBit_lt_two_pow (Nat.lt_of_lt_of_le hm (Nat.pow_le_pow_right (n := 2) (i := 8) (by omega) (by omega)))
    rw [this, Bool.and_false, Bool.and_false]
theorem ash1 (x : Int32) {k : Nat} (hk : k < 25) : (x >>> (nI k &&& 31)) &&& 1 = nI (un x / 2 ^ k % 2) := by
  rw [ash_eq x 1 hk (by decide), ush_un x (by omega)]
theorem ash255 (x : Int32) {k : Nat} (hk : k < 4) : (x >>> (nI (24 - 8 * k) &&& 31)) &&& 255 = byt x k := by
  rw [ash_eq x 255 (by omega) (by decide)]
  rfl

/-! bits of a word shifted down -/
theorem ush_n : ∀ s, s < 64 → ((nI s).toInt64.toUInt64 &&& Int64.toUInt64 63).toBitVec % 64 = BitVec.ofNat 64 s := by decide +kernel
theorem ushr_bit {x : Int64} {s i : Nat} (hs : s < 64) : ((x.toUInt64 >>> ((nI s).toInt64.toUInt64 &&& Int64.toUInt64 63)).toInt64).toBitVec.getLsbD i = x.toBitVec.getLsbD (s + i) := by
  have e : ((x.toUInt64 >>> ((nI s).toInt64.toUInt64 &&& Int64.toUInt64 63)).toInt64).toBitVec = x.toBitVec >>> s := by
    show (x.toUInt64 >>> ((nI s).toInt64.toUInt64 &&& Int64.toUInt64 63)).toBitVec = _
    rw [UInt64.toBitVec_shiftRight, ush_n s hs]
    show x.toBitVec >>> (BitVec.ofNat 64 s) = _
    rw [BitVec.ushiftRight_eq', BitVec.toNat_ofNat, Nat.mod_eq_of_lt (by omega)]
  rw [e, BitVec.getLsbD_ushiftRight]
theorem neg_shr6 {b : Nat} (h : b < 2 ^ 31) : (-nI b) >>> ((6 : Int32) &&& 31) = -nI ((b + 63) / 64) := by
  apply Int32.toInt_inj.mp
  rw [show ((6 : Int32) &&& 31) = 6 by decide, sb_negT (by omega)]
  have e : ((-nI b) >>> (6 : Int32)).toBitVec = (-nI b).toBitVec.sshiftRight 6 := by
    rw [Int32.toBitVec_shiftRight]
    rfl
  show ((-nI b) >>> (6 : Int32)).toBitVec.toInt = _
  rw [e, BitVec.toInt_sshiftRight]
  show (-nI b).toInt >>> 6 = _
  rw [sb_negT h, Int.shiftRight_eq_div_pow]
  omega
theorem neg_and63 {b : Nat} (h : b < 2 ^ 31) : (-nI b) &&& 63 = nI ((64 - b % 64) % 64) := by
  rw [pk_and (-nI b) 6 (by decide)]
  congr 1
  have e : (-nI b).toBitVec.toNat = (2 ^ 32 - b) % 2 ^ 32 := by
    rw [Int32.toBitVec_neg, BitVec.toNat_neg, pk_tn (by omega)]
  rw [e]
  omega

theorem nI_shr6 {n : Nat} (h : n < 2 ^ 31) : nI n >>> ((6 : Int32) &&& 31) = nI (n / 64) := by
  apply Int32.toInt_inj.mp
  rw [show ((6 : Int32) &&& 31) = 6 by decide, nI_toInt (by omega)]
  have e : (nI n >>> (6 : Int32)).toBitVec = (nI n).toBitVec.sshiftRight 6 := by
    rw [Int32.toBitVec_shiftRight]
    rfl
  show (nI n >>> (6 : Int32)).toBitVec.toInt = _
  rw [e, BitVec.toInt_sshiftRight]
  show (nI n).toInt >>> 6 = _
  rw [nI_toInt h, Int.shiftRight_eq_div_pow]
  omega
/-! rows of longs as sets of numbers: bit k lies in word k / 64 -/
def gb (f : Nat → Int64) (k : Nat) : Bool := (f (k / 64)).toBitVec.getLsbD (k % 64)
theorem lsh_n : ∀ s, s < 64 → ((nI s).toInt64 &&& 63).toBitVec.smod 64 = BitVec.ofNat 64 s := by decide +kernel
theorem shl_bit {x : Int64} {s i : Nat} (hs : s < 64) (hi : i < 64) : (x <<< ((nI s).toInt64 &&& 63)).toBitVec.getLsbD i = (decide (s ≤ i) && x.toBitVec.getLsbD (i - s)) := by
  rw [Int64.toBitVec_shiftLeft, lsh_n s hs, BitVec.shiftLeft_eq', BitVec.getLsbD_shiftLeft, BitVec.toNat_ofNat, Nat.mod_eq_of_lt (by omega : s < 2 ^ 64)]
  by_cases h : s ≤ i
  · simp [h, hi, Nat.not_lt.mpr h]
  · simp [h, hi, Nat.lt_of_not_le h]
theorem ones_bit : ∀ m, m < 64 → ∀ i, i < 64 → (((1 : Int64) <<< ((nI m).toInt64 &&& 63)) - 1).toBitVec.getLsbD i = decide (i < m) := by decide +kernel
theorem all_bit : ∀ i, i < 64 → (-1 : Int64).toBitVec.getLsbD i = true := by decide +kernel
theorem or_bit (x y : Int64) (i : Nat) : (x ||| y).toBitVec.getLsbD i = (x.toBitVec.getLsbD i || y.toBitVec.getLsbD i) := by
  rw [Int64.toBitVec_or, BitVec.getLsbD_or]
theorem and_bit (x y : Int64) (i : Nat) : (x &&& y).toBitVec.getLsbD i = (x.toBitVec.getLsbD i && y.toBitVec.getLsbD i) := by
  rw [Int64.toBitVec_and, BitVec.getLsbD_and]
theorem zero_bit (i : Nat) : (0 : Int64).toBitVec.getLsbD i = false := by
  show (0#64).getLsbD i = false
  exact BitVec.getLsbD_zero
theorem gb_up {f : Nat → Int64} {w k : Nat} {x : Int64} : gb (va_up f w x) k = if k / 64 = w then x.toBitVec.getLsbD (k % 64) else gb f k := by
  unfold gb
  rw [up_is]
  by_cases h : k / 64 = w
  · rw [if_pos h, if_pos h]
  · rw [if_neg h, if_neg h]
theorem eq_gb {f g : Nat → Int64} {w : Nat} (h : ∀ k, k / 64 = w → gb f k = gb g k) : f w = g w := by
  apply Int64.toBitVec_inj.mp
  apply BitVec.eq_of_getLsbD_eq
  intro i hi
  have := h (64 * w + i) (by omega)
  unfold gb at this
  rw [show (64 * w + i) / 64 = w by omega, show (64 * w + i) % 64 = i by omega] at this
  exact this

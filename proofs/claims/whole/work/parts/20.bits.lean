/-! BITS: what the shifts and masks of longs are on numbers that aren't negative -/
theorem l_nat {a : Int} (h : 0 ≤ a) (h2 : a < 9223372036854775808) : (Int64.ofInt a).toUInt64.toNat = a.toNat := by
  have e : (Int64.ofInt a).toInt = a := ofL_toInt ⟨by omega, h2⟩
  have := Int64.toInt_toBitVec (Int64.ofInt a)
  have h3 : (Int64.ofInt a).toBitVec.toNat = (Int64.ofInt a).toUInt64.toNat := rfl
  rw [← h3]
  rw [e, BitVec.toInt_eq_toNat_cond] at this
  split at this <;> omega
theorem l_int {x : UInt64} (h : x.toNat < 9223372036854775808) : x.toInt64.toInt = x.toNat := by
  have e : x.toInt64.toBitVec = x.toBitVec := rfl
  have := Int64.toInt_toBitVec x.toInt64
  rw [e, BitVec.toInt_eq_toNat_cond] at this
  have h3 : x.toBitVec.toNat = x.toNat := rfl
  rw [h3] at this
  split at this <;> omega
theorem sh_amt {b : Int} (h : 0 ≤ b) (h2 : b < 64) : ((Int32.ofInt b).toInt64.toUInt64 &&& Int64.toUInt64 63).toNat = b.toNat := by
  have e : (Int32.ofInt b).toInt64 = Int64.ofInt b := by
    rw [← Int64.toInt_inj, Int32.toInt_toInt64, ofI_toInt ⟨by omega, by omega⟩, ofL_toInt ⟨by omega, by omega⟩]
  rw [e, UInt64.toNat_and, l_nat h (by omega)]
  have : (Int64.toUInt64 63).toNat = 2 ^ 6 - 1 := by decide
  rw [this, Nat.and_two_pow_sub_one_eq_mod]
  omega
theorem lUshr_div {a b : Int} (h : 0 ≤ a) (h2 : a < 9223372036854775808) (hb : 0 ≤ b) (hb2 : b < 64) : lUshr a b = ((a.toNat / 2 ^ b.toNat : Nat) : Int) := by
  unfold lUshr
  have e : ((Int64.ofInt a).toUInt64 >>> ((Int32.ofInt b).toInt64.toUInt64 &&& Int64.toUInt64 63)).toNat = a.toNat / 2 ^ b.toNat := by
    rw [UInt64.toNat_shiftRight, sh_amt hb hb2, l_nat h h2, Nat.mod_eq_of_lt (by omega), Nat.shiftRight_eq_div_pow]
  rw [l_int, e]
  rw [e]
  have : a.toNat / 2 ^ b.toNat ≤ a.toNat := Nat.div_le_self _ _
  omega

/-! BITS: what the shifts and masks of longs are on numbers that aren't negative -/
theorem l_nat {a : Int} (h : 0 ≤ a) (h2 : a < 9223372036854775808) : (Int64.ofInt a).toUInt64.toNat = a.toNat := by
  have e : (Int64.ofInt a).toInt = a := ofL_toInt ⟨by omega, h2⟩
  have := Int64.toInt_toBitVec (Int64.ofInt a)
  have h3 : (Int64.ofInt a).toBitVec.toNat = (Int64.ofInt a).toUInt64.toNat := rfl
  rw [← h3]
  rw [e, BitVec.toInt_eq_toNat_cond] at this
  split at this <;> omega
theorem l_int {x : UInt64} (h : x.toNat < 9223372036854775808) : x.toInt64.toInt = x.toNat := by
  have e : x.toInt64.toBitVec = x.toBitVec := rfl
  have := Int64.toInt_toBitVec x.toInt64
  rw [e, BitVec.toInt_eq_toNat_cond] at this
  have h3 : x.toBitVec.toNat = x.toNat := rfl
  rw [h3] at this
  split at this <;> omega
theorem sh_amt {b : Int} (h : 0 ≤ b) (h2 : b < 64) : ((Int32.ofInt b).toInt64.toUInt64 &&& Int64.toUInt64 63).toNat = b.toNat := by
  have e : (Int32.ofInt b).toInt64 = Int64.ofInt b := by
    rw [← Int64.toInt_inj, Int32.toInt_toInt64, ofI_toInt ⟨by omega, by omega⟩, ofL_toInt ⟨by omega, by omega⟩]
  rw [e, UInt64.toNat_and, l_nat h (by omega)]
  have : (Int64.toUInt64 63).toNat = 2 ^ 6 - 1 := by decide
  rw [this, Nat.and_two_pow_sub_one_eq_mod]
  omega
theorem lUshr_div {a b : Int} (h : 0 ≤ a) (h2 : a < 9223372036854775808) (hb : 0 ≤ b) (hb2 : b < 64) : lUshr a b = ((a.toNat / 2 ^ b.toNat : Nat) : Int) := by
  unfold lUshr
  have e : ((Int64.ofInt a).toUInt64 >>> ((Int32.ofInt b).toInt64.toUInt64 &&& Int64.toUInt64 63)).toNat = a.toNat / 2 ^ b.toNat := by
    rw [UInt64.toNat_shiftRight, sh_amt hb hb2, l_nat h h2, Nat.mod_eq_of_lt (by omega), Nat.shiftRight_eq_div_pow]
  rw [l_int, e]
  rw [e]
  have : a.toNat / 2 ^ b.toNat ≤ a.toNat := Nat.div_le_self _ _
  omega
theorem l_of_u {z : Int64} (h : z.toUInt64.toNat < 9223372036854775808) : z.toInt = z.toUInt64.toNat := l_int (x := z.toUInt64) h
theorem lAnd_nat {a b : Int} (h : 0 ≤ a) (h2 : a < 9223372036854775808) (hb : 0 ≤ b) (hb2 : b < 9223372036854775808) : lAnd a b = ((a.toNat &&& b.toNat : Nat) : Int) := by
  unfold lAnd
  have e : (Int64.ofInt a &&& Int64.ofInt b).toUInt64.toNat = a.toNat &&& b.toNat := by
    show ((Int64.ofInt a).toUInt64 &&& (Int64.ofInt b).toUInt64).toNat = _
    rw [UInt64.toNat_and, l_nat h h2, l_nat hb hb2]
  have : a.toNat &&& b.toNat ≤ a.toNat := Nat.and_le_left
  rw [l_of_u (by rw [e]; omega), e]
theorem lOr_nat {a b : Int} (h : 0 ≤ a) (h2 : a < 9223372036854775808) (hb : 0 ≤ b) (hb2 : b < 9223372036854775808) : lOr a b = ((a.toNat ||| b.toNat : Nat) : Int) := by
  unfold lOr
  have e : (Int64.ofInt a ||| Int64.ofInt b).toUInt64.toNat = a.toNat ||| b.toNat := by
    show ((Int64.ofInt a).toUInt64 ||| (Int64.ofInt b).toUInt64).toNat = _
    rw [UInt64.toNat_or, l_nat h h2, l_nat hb hb2]
  have : a.toNat ||| b.toNat < 2 ^ 63 := Nat.or_lt_two_pow (by omega) (by omega)
  rw [l_of_u (by rw [e]; omega), e]
theorem lShl_mul {a b : Int} (h : 0 ≤ a) (hb : 0 ≤ b) (hb2 : b < 64) (h2 : a.toNat * 2 ^ b.toNat < 9223372036854775808) : lShl a b = ((a.toNat * 2 ^ b.toNat : Nat) : Int) := by
  unfold lShl
  have ha : a < 9223372036854775808 := by
    have : a.toNat * 1 ≤ a.toNat * 2 ^ b.toNat := Nat.mul_le_mul_left _ (Nat.one_le_two_pow)
    omega
  have hy : ((Int32.ofInt b).toInt64 &&& 63).toUInt64.toNat = b.toNat := by
    show ((Int32.ofInt b).toInt64.toUInt64 &&& Int64.toUInt64 63).toNat = _
    exact sh_amt hb hb2
  have hyi : ((Int32.ofInt b).toInt64 &&& 63).toInt = b := by
    rw [l_of_u (by rw [hy]; omega), hy]
    omega
  have hs : (((Int32.ofInt b).toInt64 &&& 63).toBitVec.smod 64#64).toNat = b.toNat := by
    have h1 : (((Int32.ofInt b).toInt64 &&& 63).toBitVec.smod 64#64).toInt = b := by
      rw [BitVec.toInt_smod, Int64.toInt_toBitVec, hyi]
      show b.fmod 64 = b
      rw [Int.fmod_eq_emod_of_nonneg _ (by omega)]
      omega
    rw [BitVec.toInt_eq_toNat_cond] at h1
    split at h1 <;> omega
  have e : (Int64.ofInt a <<< ((Int32.ofInt b).toInt64 &&& 63)).toUInt64.toNat = a.toNat * 2 ^ b.toNat := by
    show ((Int64.ofInt a).toBitVec <<< (((Int32.ofInt b).toInt64 &&& 63).toBitVec.smod 64#64)).toNat = _
    rw [BitVec.shiftLeft_eq', BitVec.toNat_shiftLeft, hs]
    have : (Int64.ofInt a).toBitVec.toNat = a.toNat := l_nat h ha
    rw [this, Nat.shiftLeft_eq, Nat.mod_eq_of_lt (by omega)]
  rw [l_of_u (by rw [e]; exact h2), e]

/-! Longs modulo 32003; max and min; quotients -/
/-- a long as a number -/
def zL (x : Int64) : zp := zo (x.toInt % 32003).toNat
theorem l64_of (x : Int64) : Int64.ofInt x.toInt = x := Int64.ofInt_toInt x
theorem l64_lo (x : Int64) : -9223372036854775808 ≤ x.toInt := Int64.le_toInt x
theorem l64_hi (x : Int64) : x.toInt < 9223372036854775808 := Int64.toInt_lt x
theorem l64_in {i : Int} (h1 : -9223372036854775808 ≤ i) (h2 : i < 9223372036854775808) : (Int64.ofInt i).toInt = i := Int64.toInt_ofInt_of_le h1 h2
theorem l64_tdiv (x : Int64) : x / (32003 : Int64) = Int64.ofInt (x.toInt.tdiv 32003) := by
  have h1 := l64_lo x
  have h2 := l64_hi x
  have e := Int64.toInt_div x (32003 : Int64)
  rw [show (32003 : Int64).toInt = 32003 from rfl] at e
  rw [← l64_of (x / 32003), e]
  apply Int64.toInt_inj.mp
  rw [Int64.toInt_ofInt, Int64.toInt_ofInt]
  exact Int.bmod_bmod
theorem l64_rem (x : Int64) : x - x / (32003 : Int64) * (32003 : Int64) = Int64.ofInt (x.toInt.tmod 32003) := by
  rw [l64_tdiv, Int.tmod_def, Int64.ofInt_sub, Int64.ofInt_mul, l64_of, Int64.mul_comm]
  rfl
theorem l64_remI (x : Int64) : (x - x / (32003 : Int64) * (32003 : Int64)).toInt = x.toInt.tmod 32003 := by
  rw [l64_rem]
  have h1 : x.toInt.tmod 32003 < 32003 := Int.tmod_lt_of_pos _ (by decide)
  have h2 : -32003 < x.toInt.tmod 32003 := Int.neg_lt_tmod _ (by decide)
  exact l64_in (by omega) (by omega)
theorem l64_emod (x : Int) : x % 32003 = if x.tmod 32003 < 0 then x.tmod 32003 + 32003 else x.tmod 32003 := by
  have h1 : x.tmod 32003 < 32003 := Int.tmod_lt_of_pos _ (by decide)
  have h2 : -32003 < x.tmod 32003 := Int.neg_lt_tmod _ (by decide)
  have h3 := Int.mul_tdiv_add_tmod x 32003
  split <;> omega
theorem zL_val (x : Int64) : ((zL x).val : Int) = x.toInt % 32003 := by
  unfold zL
  rw [zo_val]
  have h1 := Int.emod_nonneg x.toInt (show (32003 : Int) ≠ 0 by decide)
  have h2 := Int.emod_lt_of_pos x.toInt (show (0 : Int) < 32003 by decide)
  omega
theorem zL_neg {x : Int64} (h : (x - x / (32003 : Int64) * (32003 : Int64)).toInt < 0) : (x - x / (32003 : Int64) * (32003 : Int64) + (32003 : Int64)).toInt32 = nI (zL x).val := by
  have e := l64_remI x
  rw [e] at h
  have hz := zL_val x
  rw [l64_emod, if_pos h] at hz
  have : x - x / (32003 : Int64) * (32003 : Int64) + (32003 : Int64) = lN (zL x).val := by
    rw [l64_rem, show (32003 : Int64) = Int64.ofInt 32003 from rfl, ← Int64.ofInt_add, ← hz]
    exact Int64.ofInt_natCast _
  rw [this, lN_i]
theorem zL_pos {x : Int64} (h : 0 ≤ (x - x / (32003 : Int64) * (32003 : Int64)).toInt) : (x - x / (32003 : Int64) * (32003 : Int64)).toInt32 = nI (zL x).val := by
  have e := l64_remI x
  rw [e] at h
  have hz := zL_val x
  rw [l64_emod, if_neg (by omega)] at hz
  have : x - x / (32003 : Int64) * (32003 : Int64) = lN (zL x).val := by
    rw [l64_rem, ← hz]
    exact Int64.ofInt_natCast _
  rw [this, lN_i]

section SPC
/-! ### longs that stay small are numbers -/
theorem sp_lN_bv (a : Nat) : (lN a).toBitVec = BitVec.ofNat 64 a := by simp [lN]
theorem sp_lmul {a b : Nat} (h : a * b < 18446744073709551616) : (lN a * lN b).toBitVec.toNat = a * b := by
  rw [Int64.toBitVec_mul, sp_lN_bv, sp_lN_bv, BitVec.toNat_mul, BitVec.toNat_ofNat, BitVec.toNat_ofNat, ← Nat.mul_mod]
  exact Nat.mod_eq_of_lt h
theorem sp_ladd {a b : Nat} (h : a + b < 18446744073709551616) : (lN a + lN b).toBitVec.toNat = a + b := by
  rw [Int64.toBitVec_add, sp_lN_bv, sp_lN_bv, BitVec.toNat_add, BitVec.toNat_ofNat, BitVec.toNat_ofNat, ← Nat.add_mod]
  exact Nat.mod_eq_of_lt h
theorem sp_lsub {a b : Nat} (h : b ≤ a) (ha : a < 18446744073709551616) : (lN a - lN b).toBitVec.toNat = a - b := by
  rw [Int64.toBitVec_sub, sp_lN_bv, sp_lN_bv, BitVec.toNat_sub, BitVec.toNat_ofNat, BitVec.toNat_ofNat]
  have h1 : a % 2 ^ 64 = a := Nat.mod_eq_of_lt ha
  have h2 : b % 2 ^ 64 = b := Nat.mod_eq_of_lt (by first | decide | omega)
  rw [h1, h2]
  omega
theorem sp_i2l {x : Nat} (h : x < 2147483648) : (nI x).toInt64.toBitVec.toNat = x := by
  have h1 := gx_i2l h
  rw [en_lN_tn] at h1
  have h4 := Int64.toInt_toBitVec (nI x).toInt64
  rw [BitVec.toInt_eq_toNat_cond] at h4
  have h5 := (nI x).toInt64.toBitVec.isLt
  split at h4 <;> omega
end SPC

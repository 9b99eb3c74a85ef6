theorem n64_iff (r : UInt64) : vf_n64 r ↔ FP.Core.dIsNaN r = false := by
  have h1 : (r &&& 0x7fffffffffffffff).toNat = r.toNat % 2 ^ 63 := by
    rw [UInt64.toNat_and]
    exact Nat.and_two_pow_sub_one_eq_mod _ 63
  have h2 := FP.Core.isNaN_bits r
  rw [vf_n64, UInt64.le_iff_toNat_le, h1, show (0x7ff0000000000000 : UInt64).toNat = 9218868437227405312 from rfl]
  constructor
  · intro h
    cases hh : FP.Core.dIsNaN r with
    | false => rfl
    | true => have := h2.mp hh; omega
  · intro h
    rcases Nat.lt_or_ge 9218868437227405312 (r.toNat % 2 ^ 63) with h3 | h3
    · rw [h2.mpr h3] at h; cases h
    · exact h3
theorem n32_iff (r : UInt32) : vf_n32 r ↔ FP.Core.fIsNaN r = false := by
  have h1 : (r &&& 0x7fffffff).toNat = r.toNat % 2 ^ 31 := by
    rw [UInt32.toNat_and]
    exact Nat.and_two_pow_sub_one_eq_mod _ 31
  have h2 := FP.Core.isNaN_bits32 r
  rw [vf_n32, UInt32.le_iff_toNat_le, h1, show (0x7f800000 : UInt32).toNat = 2139095040 from rfl]
  constructor
  · intro h
    cases hh : FP.Core.fIsNaN r with
    | false => rfl
    | true => have := h2.mp hh; omega
  · intro h
    rcases Nat.lt_or_ge 2139095040 (r.toNat % 2 ^ 31) with h3 | h3
    · rw [h2.mpr h3] at h; cases h
    · exact h3

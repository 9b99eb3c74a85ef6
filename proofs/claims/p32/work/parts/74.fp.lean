/-- a double between 0 and 2, its digits and exponent -/
def Nm (v : UInt64) (c : Nat) (q : Int) : Prop := FP.Core.val64 v = .fin false c q ∧ 4503599627370496 ≤ c ∧ c < 9007199254740992 ∧ -1000 ≤ q ∧ q ≤ -52
theorem qmin64 : FP.Core.b64.qmin = -1074 := by decide
theorem qmax64 : FP.Core.b64.qmax = 971 := by decide
theorem tails64 : FP.Core.b64.tails = 4503599627370496 := by decide
theorem p64 : 2 ^ FP.Core.b64.p = 9007199254740992 := by decide
theorem v_one : FP.Core.val64 FP.dconst1 = .fin false 4503599627370496 (-52) := by decide +kernel
theorem v_zero : FP.Core.val64 FP.dconst0 = .fin false 0 (-1074) := by decide +kernel
theorem fits64 {c : Nat} {q : Int} (h1 : 4503599627370496 ≤ c) (h2 : c < 9007199254740992) (h3 : -1074 ≤ q) (h4 : q ≤ 971) : FP.Core.fits FP.Core.b64 (.fin false c q) := by
  refine ⟨by rw [p64]; exact h2, by rw [qmin64]; exact h3, by rw [qmax64]; exact h4, Or.inr (by rw [tails64]; exact h1)⟩
theorem dcmp_val (a b : UInt64) : FP.dcmp a b = FP.Core.order (FP.Core.val64 a) (FP.Core.val64 b) := rfl
theorem Nm_lt1 {v : UInt64} {c : Nat} {q : Int} (h : Nm v c q) (hq : q ≤ -53) : FP.dcmp v FP.dconst1 = some .lt := by
  obtain ⟨h1, h2, h3, h4, h5⟩ := h
  rw [dcmp_val, h1, v_one]
  show some (compare (((c * 2 ^ (q - min q (-52)).toNat : Nat)) : Int) ((4503599627370496 * 2 ^ (-52 - min q (-52)).toNat : Nat) : Int)) = _
  rw [show (q - min q (-52)).toNat = 0 by omega]
  obtain ⟨k, hk⟩ : ∃ k, (-52 - min q (-52)).toNat = k + 1 := ⟨(-52 - min q (-52)).toNat - 1, by omega⟩
  rw [hk, Nat.pow_succ]
  have hp : 1 ≤ 2 ^ k := Nat.one_le_two_pow
  have : c * 2 ^ 0 < 4503599627370496 * (2 ^ k * 2) := by omega
  exact congrArg some (Std.compare_eq_lt.mpr (by omega))
theorem Nm_ge1 {v : UInt64} {c : Nat} (h : Nm v c (-52)) : 0 ≤ Op.cmpValue (FP.dcmp v FP.dconst1) .g := by
  obtain ⟨h1, h2, h3, h4, h5⟩ := h
  rw [dcmp_val, h1, v_one]
  show 0 ≤ Op.cmpValue (some (compare (((c * 2 ^ 0 : Nat)) : Int) ((4503599627370496 * 2 ^ 0 : Nat) : Int))) .g
  rcases Nat.lt_or_ge 4503599627370496 c with z | z
  · rw [show compare (((c * 2 ^ 0 : Nat)) : Int) ((4503599627370496 * 2 ^ 0 : Nat) : Int) = .gt from Std.compare_eq_gt.mpr (by omega)]
    decide
  · obtain rfl : c = 4503599627370496 := by omega
    decide
theorem Nm_pos {v : UInt64} {c : Nat} {q : Int} (h : Nm v c q) : 0 < Op.cmpValue (FP.dcmp v FP.dconst0) .g := by
  obtain ⟨h1, h2, h3, h4, h5⟩ := h
  rw [dcmp_val, h1, v_zero]
  show 0 < Op.cmpValue (some (compare (((c * 2 ^ (q - min q (-1074)).toNat : Nat)) : Int) ((0 * 2 ^ (-1074 - min q (-1074)).toNat : Nat) : Int))) .g
  have hp : 1 ≤ 2 ^ (q - min q (-1074)).toNat := Nat.one_le_two_pow
  have : 1 * 1 ≤ c * 2 ^ (q - min q (-1074)).toNat := Nat.mul_le_mul (by omega) hp
  rw [show compare (((c * 2 ^ (q - min q (-1074)).toNat : Nat)) : Int) ((0 * 2 ^ (-1074 - min q (-1074)).toNat : Nat) : Int) = .gt from Std.compare_eq_gt.mpr (by rw [Nat.zero_mul]; omega)]
  decide
theorem fits_nat (a : Nat) (h1 : 1 ≤ a) (h2 : a < 2 ^ 20) : ∃ (c : Nat) (k : Nat), k ≤ 52 ∧ FP.Core.val64 (FP.i2d (nI a)) = .fin false c (-(k : Int)) ∧ c = a * 2 ^ k := by
  obtain ⟨l, hl⟩ : ∃ l, l = a.log2 := ⟨_, rfl⟩
  have a1 : 2 ^ l ≤ a := by rw [hl]; exact Nat.log2_self_le (by omega)
  have a2 : a < 2 ^ (l + 1) := by rw [hl]; exact Nat.lt_log2_self
  have hl20 : l < 20 := by
    rcases Nat.lt_or_ge l 20 with z | z
    · exact z
    · have := Nat.pow_le_pow_right (n := 2) (by decide) z
      omega
  refine ⟨a * 2 ^ (52 - l), 52 - l, by omega, ?_, rfl⟩
  have e := FP.Core.val64_i2d (nI a)
  rw [nI_toInt (by omega)] at e
  have e : FP.Core.val64 (FP.i2d (nI a)) = _ := e
  rw [e]
  show FP.Core.roundRatio FP.Core.b64 (decide ((a : Int) < 0)) (a : Int).natAbs 1 0 = _
  rw [decide_eq_false (by omega), Int.natAbs_natCast]
  have p1 : 2 ^ l * 2 ^ (52 - l) = 4503599627370496 := by rw [← Nat.pow_add, show l + (52 - l) = 52 by omega]
  have p2 : 2 ^ (l + 1) * 2 ^ (52 - l) = 9007199254740992 := by rw [← Nat.pow_add, show l + 1 + (52 - l) = 53 by omega]
  have q1 : 2 ^ l * 2 ^ (52 - l) ≤ a * 2 ^ (52 - l) := Nat.mul_le_mul_right _ a1
  have q2 : a * 2 ^ (52 - l) < 2 ^ (l + 1) * 2 ^ (52 - l) := Nat.mul_lt_mul_of_pos_right a2 (Nat.two_pow_pos _)
  refine FP.Core.roundRatio_exact FP.Core.good_b64 (by decide) (fits64 (by omega) (by omega) (by omega) (by omega)) ?_
  rw [show (0 - -((52 - l : Nat) : Int)).toNat = 52 - l by omega, show (-((52 - l : Nat) : Int) - 0).toNat = 0 by omega]
  omega
/-- a share: its digits and exponent -/
theorem share_Nm (a m : Nat) (h1 : 1 ≤ a) (h2 : a ≤ m) (h3 : m < 2 ^ 20) : ∃ c j : Nat, j ≤ 20 ∧ Nm (FP.ddiv (FP.i2d (nI a)) (FP.i2d (nI m))) c (-52 - (j : Int)) := by
  obtain ⟨c1, k1, hk1, e1, f1⟩ := fits_nat a h1 (by omega)
  obtain ⟨c2, k2, hk2, e2, f2⟩ := fits_nat m (by omega) h3
  have hc2 : 1 ≤ c2 := by rw [f2]; exact Nat.mul_pos (by omega) (Nat.two_pow_pos _)
  have e := FP.Core.val64_ddiv (FP.i2d (nI a)) (FP.i2d (nI m))
  rw [e1, e2] at e
  have e : FP.Core.val64 (FP.ddiv (FP.i2d (nI a)) (FP.i2d (nI m))) = FP.Core.roundRatio FP.Core.b64 false a m 0 := by
    rw [e]
    show (if c2 = 0 then _ else FP.Core.roundRatio FP.Core.b64 (false != false) c1 c2 (-(k1 : Int) - -(k2 : Int))) = _
    rw [if_neg (by omega)]
    refine FP.Core.roundRatio_congr (by omega) (by omega) ?_
    rw [f1, f2]
    rcases Nat.le_total k1 k2 with z | z
    · rw [show (-(k1 : Int) - -(k2 : Int) - 0).toNat = k2 - k1 by omega, show (0 - (-(k1 : Int) - -(k2 : Int))).toNat = 0 by omega, Nat.pow_zero, Nat.mul_one]
      calc a * 2 ^ k1 * m * 2 ^ (k2 - k1) = a * m * (2 ^ k1 * 2 ^ (k2 - k1)) := by ac_rfl
        _ = a * m * 2 ^ k2 := by rw [← Nat.pow_add, show k1 + (k2 - k1) = k2 by omega]
        _ = a * (m * 2 ^ k2) := by ac_rfl
    · rw [show (-(k1 : Int) - -(k2 : Int) - 0).toNat = 0 by omega, show (0 - (-(k1 : Int) - -(k2 : Int))).toNat = k1 - k2 by omega, Nat.pow_zero, Nat.mul_one]
      calc a * 2 ^ k1 * m = a * m * 2 ^ k1 := by ac_rfl
        _ = a * m * (2 ^ k2 * 2 ^ (k1 - k2)) := by rw [← Nat.pow_add, show k2 + (k1 - k2) = k1 by omega]
        _ = a * (m * 2 ^ k2) * 2 ^ (k1 - k2) := by ac_rfl
  obtain ⟨l1, l2⟩ := FP.Core.leading_spec (A := a) (B := m) (by omega) (by omega)
  have hup : FP.Core.leading a m < 1 := FP.Core.lt_of_below l1 (by
    show a * 2 ^ 0 < m * 2 ^ 1
    omega)
  have hlo : -20 < FP.Core.leading a m + 1 := FP.Core.lt_of_below (A := a) (B := m) (by
    show ¬ a * 2 ^ 20 < m * 2 ^ 0
    omega) l2
  obtain ⟨l, hl⟩ : ∃ l : Nat, FP.Core.leading a m = -(l : Int) := ⟨(-(FP.Core.leading a m)).toNat, by omega⟩
  rw [hl] at l1 l2 hlo
  have hq : FP.Core.quantum FP.Core.b64 a m 0 = -52 - (l : Int) := by
    rw [FP.Core.quantum, hl, qmin64, show ((FP.Core.b64.p : Int)) = 53 from rfl]
    omega
  have b1 : m ≤ a * 2 ^ l := by
    have := l1
    rw [FP.Core.Below, show (-(-(l : Int))).toNat = l by omega, show (-(l : Int)).toNat = 0 by omega] at this
    omega
  obtain ⟨N, hN⟩ : ∃ N, N = FP.Core.nearest (a * 2 ^ (52 + l)) m := ⟨_, rfl⟩
  have hpl : 2 ^ (52 + l) = 2 ^ l * 4503599627370496 := by rw [Nat.add_comm, Nat.pow_add]
  have n1 : 4503599627370496 ≤ N := by
    rw [hN]
    refine FP.Core.nearest_ge (by omega) ?_
    rw [hpl, ← Nat.mul_assoc]
    omega
  have n2 : N ≤ 9007199254740992 ∧ (N = 9007199254740992 → 1 ≤ l) := by
    rcases Nat.eq_zero_or_pos l with z | z
    · subst z
      have ham : a = m := by omega
      subst ham
      have : N = 4503599627370496 := by
        rw [hN, hpl, Nat.pow_zero, Nat.one_mul, Nat.mul_comm]
        exact FP.Core.nearest_exact _ (by omega)
      omega
    · have b2 : a * 2 ^ (l - 1) < m := by
        have := l2
        rw [FP.Core.Below, show (-(-(l : Int) + 1)).toNat = l - 1 by omega, show (-(l : Int) + 1).toNat = 0 by omega] at this
        omega
      refine ⟨?_, fun _ => z⟩
      rw [hN]
      refine FP.Core.nearest_le (by omega) ?_
      have hp2 : 2 ^ (52 + l) = 2 ^ (l - 1) * 9007199254740992 := by rw [show 52 + l = l - 1 + 53 by omega, Nat.pow_add]
      rw [hp2, ← Nat.mul_assoc]
      omega
  have hr : FP.Core.val64 (FP.ddiv (FP.i2d (nI a)) (FP.i2d (nI m))) = FP.Core.settle FP.Core.b64 false N (-52 - (l : Int)) := by
    rw [e, FP.Core.roundRatio, if_neg (by omega), hq, FP.Core.roundAt, FP.Core.unitsNum, FP.Core.unitsDen, show (0 - (-52 - (l : Int))).toNat = 52 + l by omega, show (-52 - (l : Int) - 0).toNat = 0 by omega, Nat.pow_zero, Nat.mul_one, hN]
  rw [FP.Core.settle, p64] at hr
  by_cases hN2 : N < 9007199254740992
  · rw [if_pos hN2, FP.Core.bound, qmax64, if_pos (by omega)] at hr
    exact ⟨N, l, by omega, hr, n1, hN2, by omega, by omega⟩
  · have h1l := n2.2 (by omega)
    rw [if_neg hN2, FP.Core.bound, qmax64, if_pos (by omega), tails64] at hr
    refine ⟨4503599627370496, l - 1, by omega, ?_, by omega, by omega, by omega, by omega⟩
    rw [hr]
    congr 1
    omega


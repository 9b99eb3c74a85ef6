/-! isAhead: the share of the pictures that are allowed -/
/-- a share: its digits and exponent; one that is less than 1 has a smaller one -/
theorem share_Nm2 (a m : Nat) (h1 : 1 ≤ a) (h2 : a ≤ m) (h3 : m < 2 ^ 20) : ∃ c j : Nat, j ≤ 20 ∧ (a < m → 1 ≤ j) ∧ Nm (FP.ddiv (FP.i2d (nI a)) (FP.i2d (nI m))) c (-52 - (j : Int)) := by
  obtain ⟨c1, k1, hk1, e1, f1⟩ := fits_nat a h1 (by omega)
  obtain ⟨c2, k2, hk2, e2, f2⟩ := fits_nat m (by omega) h3
  have hc2 : 1 ≤ c2 := by rw [f2]; exact Nat.mul_pos (by omega) (Nat.two_pow_pos _)
  have e := FP.Core.val64_ddiv (FP.i2d (nI a)) (FP.i2d (nI m))
  rw [e1, e2] at e
  have e : FP.Core.val64 (FP.ddiv (FP.i2d (nI a)) (FP.i2d (nI m))) = FP.Core.roundRatio FP.Core.b64 false a m 0 := by
    rw [e]
    show (if c2 = 0 then _ else FP.Core.roundRatio FP.Core.b64 (false != false) c1 c2 (-(k1 : Int) - -(k2 : Int))) = _
    rw [if_neg (by omega)]
    refine FP.Core.roundRatio_congr (by omega) (by omega) ?_
    rw [f1, f2]
    rcases Nat.le_total k1 k2 with z | z
    · rw [show (-(k1 : Int) - -(k2 : Int) - 0).toNat = k2 - k1 by omega, show (0 - (-(k1 : Int) - -(k2 : Int))).toNat = 0 by omega, Nat.pow_zero, Nat.mul_one]
      calc a * 2 ^ k1 * m * 2 ^ (k2 - k1) = a * m * (2 ^ k1 * 2 ^ (k2 - k1)) := by ac_rfl
        _ = a * m * 2 ^ k2 := by rw [← Nat.pow_add, show k1 + (k2 - k1) = k2 by omega]
        _ = a * (m * 2 ^ k2) := by ac_rfl
    · rw [show (-(k1 : Int) - -(k2 : Int) - 0).toNat = 0 by omega, show (0 - (-(k1 : Int) - -(k2 : Int))).toNat = k1 - k2 by omega, Nat.pow_zero, Nat.mul_one]
      calc a * 2 ^ k1 * m = a * m * 2 ^ k1 := by ac_rfl
        _ = a * m * (2 ^ k2 * 2 ^ (k1 - k2)) := by rw [← Nat.pow_add, show k2 + (k1 - k2) = k1 by omega]
        _ = a * (m * 2 ^ k2) * 2 ^ (k1 - k2) := by ac_rfl
  obtain ⟨l1, l2⟩ := FP.Core.leading_spec (A := a) (B := m) (by omega) (by omega)
  have hup : FP.Core.leading a m < 1 := FP.Core.lt_of_below l1 (by
    show a * 2 ^ 0 < m * 2 ^ 1
    omega)
  have hlo : -20 < FP.Core.leading a m + 1 := FP.Core.lt_of_below (A := a) (B := m) (by
    show ¬ a * 2 ^ 20 < m * 2 ^ 0
    omega) l2
  obtain ⟨l, hl⟩ : ∃ l : Nat, FP.Core.leading a m = -(l : Int) := ⟨(-(FP.Core.leading a m)).toNat, by omega⟩
  rw [hl] at l1 l2 hlo
  have hq : FP.Core.quantum FP.Core.b64 a m 0 = -52 - (l : Int) := by
    rw [FP.Core.quantum, hl, qmin64, show ((FP.Core.b64.p : Int)) = 53 from rfl]
    omega
  have b1 : m ≤ a * 2 ^ l := by
    have := l1
    rw [FP.Core.Below, show (-(-(l : Int))).toNat = l by omega, show (-(l : Int)).toNat = 0 by omega] at this
    omega
  obtain ⟨N, hN⟩ : ∃ N, N = FP.Core.nearest (a * 2 ^ (52 + l)) m := ⟨_, rfl⟩
  have hpl : 2 ^ (52 + l) = 2 ^ l * 4503599627370496 := by rw [Nat.add_comm, Nat.pow_add]
  have n1 : 4503599627370496 ≤ N := by
    rw [hN]
    refine FP.Core.nearest_ge (by omega) ?_
    rw [hpl, ← Nat.mul_assoc]
    omega
  have n2 : N ≤ 9007199254740992 ∧ (N = 9007199254740992 → 1 ≤ l) := by
    rcases Nat.eq_zero_or_pos l with z | z
    · subst z
      have ham : a = m := by omega
      subst ham
      have : N = 4503599627370496 := by
        rw [hN, hpl, Nat.pow_zero, Nat.one_mul, Nat.mul_comm]
        exact FP.Core.nearest_exact _ (by omega)
      omega
    · have b2 : a * 2 ^ (l - 1) < m := by
        have := l2
        rw [FP.Core.Below, show (-(-(l : Int) + 1)).toNat = l - 1 by omega, show (-(l : Int) + 1).toNat = 0 by omega] at this
        omega
      refine ⟨?_, fun _ => z⟩
      rw [hN]
      refine FP.Core.nearest_le (by omega) ?_
      have hp2 : 2 ^ (52 + l) = 2 ^ (l - 1) * 9007199254740992 := by rw [show 52 + l = l - 1 + 53 by omega, Nat.pow_add]
      rw [hp2, ← Nat.mul_assoc]
      omega
  have b0 : a < m → 1 ≤ l := fun z => by
    rcases Nat.eq_zero_or_pos l with y | y
    · subst y; omega
    · exact y
  have n3 : a < m → l = 1 → N ≤ 9007199254740991 := fun z y => by
    subst y
    rw [hN]
    refine FP.Core.nearest_le (by omega) ?_
    rw [show 2 ^ (52 + 1) = 9007199254740992 from rfl]
    omega
  have hr : FP.Core.val64 (FP.ddiv (FP.i2d (nI a)) (FP.i2d (nI m))) = FP.Core.settle FP.Core.b64 false N (-52 - (l : Int)) := by
    rw [e, FP.Core.roundRatio, if_neg (by omega), hq, FP.Core.roundAt, FP.Core.unitsNum, FP.Core.unitsDen, show (0 - (-52 - (l : Int))).toNat = 52 + l by omega, show (-52 - (l : Int) - 0).toNat = 0 by omega, Nat.pow_zero, Nat.mul_one, hN]
  rw [FP.Core.settle, p64] at hr
  by_cases hN2 : N < 9007199254740992
  · rw [if_pos hN2, FP.Core.bound, qmax64, if_pos (by omega)] at hr
    exact ⟨N, l, by omega, b0, hr, n1, hN2, by omega, by omega⟩
  · have h1l := n2.2 (by omega)
    rw [if_neg hN2, FP.Core.bound, qmax64, if_pos (by omega), tails64] at hr
    refine ⟨4503599627370496, l - 1, by omega, fun z => ?_, ?_, by omega, by omega, by omega, by omega⟩
    · have h8 := b0 z
      rcases Nat.lt_or_ge 1 l with y | y
      · omega
      · have := n3 z (by omega)
        omega
    · rw [hr]
      congr 1
      omega
theorem share_1 (a : Nat) (h1 : 1 ≤ a) (h3 : a < 2 ^ 20) : FP.Core.val64 (FP.ddiv (FP.i2d (nI a)) (FP.i2d (nI a))) = .fin false 4503599627370496 (-52) := by
  obtain ⟨c1, k1, hk1, e1, f1⟩ := fits_nat a h1 h3
  have hc1 : 1 ≤ c1 := by rw [f1]; exact Nat.mul_pos (by omega) (Nat.two_pow_pos _)
  have e := FP.Core.val64_ddiv (FP.i2d (nI a)) (FP.i2d (nI a))
  rw [e1] at e
  rw [e]
  show (if c1 = 0 then _ else FP.Core.roundRatio FP.Core.b64 (false != false) c1 c1 (-(k1 : Int) - -(k1 : Int))) = _
  rw [if_neg (by omega)]
  refine FP.Core.roundRatio_exact FP.Core.good_b64 (by omega) (fits64 (by omega) (by omega) (by omega) (by omega)) ?_
  rw [show (-(k1 : Int) - -(k1 : Int) - -52).toNat = 52 by omega, show (-52 - (-(k1 : Int) - -(k1 : Int))).toNat = 0 by omega]
  omega
theorem dcmp_refl {v u : UInt64} {c : Nat} {q : Int} (h : FP.Core.val64 v = .fin false c q) (h2 : FP.Core.val64 u = .fin false c q) : FP.dcmp v u = some .eq := by
  rw [dcmp_val, h, h2]
  show some (compare ((c * 2 ^ (q - min q q).toNat : Nat) : Int) ((c * 2 ^ (q - min q q).toNat : Nat) : Int)) = some .eq
  exact congrArg some (Std.compare_eq_iff_eq.mpr rfl)
theorem Nm_pos2 {v : UInt64} {c : Nat} {q : Int} (h : Nm v c q) : FP.dcmp v FP.dconst0 = some .gt := by
  obtain ⟨h1, h2, h3, h4, h5⟩ := h
  rw [dcmp_val, h1, v_zero]
  show some (compare (((c * 2 ^ (q - min q (-1074)).toNat : Nat)) : Int) ((0 * 2 ^ (-1074 - min q (-1074)).toNat : Nat) : Int)) = some .gt
  have hp : 1 ≤ 2 ^ (q - min q (-1074)).toNat := Nat.one_le_two_pow
  have : 1 * 1 ≤ c * 2 ^ (q - min q (-1074)).toNat := Nat.mul_le_mul (by omega) hp
  exact congrArg some (Std.compare_eq_gt.mpr (by rw [Nat.zero_mul]; omega))
theorem nm_n64 {v : UInt64} {c : Nat} {q : Int} (h : Nm v c q) : vf_n64 v := by
  rw [n64_iff]
  have h1 : FP.Core.decode FP.Core.b64 v.toNat = .fin false c q := h.1
  rw [FP.Core.dIsNaN, FP.Core.isNaN, h1]
  exact decide_eq_false (fun z => by cases z)
/-- how many of the first pictures are allowed -/
theorem sumA_all (d : SD) : ∀ r : Nat, ∃ a : Nat, sumA d r = nI a ∧ a ≤ r ∧ (a = r ↔ ∀ j, j < r → fltB (sTe d) (sTo d) (sLo d) (sHe d) (nI j) (sSe d) = 0)
  | 0 => ⟨0, rfl, by omega, ⟨fun _ j hj => absurd hj (Nat.not_lt_zero _), fun _ => rfl⟩⟩
  | r + 1 => by
    obtain ⟨a, a1, a2, a3⟩ := sumA_all d r
    have e : sumA d (r + 1) = sumA d r + (if fltB (sTe d) (sTo d) (sLo d) (sHe d) (nI r) (sSe d) = 0 then 1 else 0) := rfl
    by_cases c : fltB (sTe d) (sTo d) (sLo d) (sHe d) (nI r) (sSe d) = 0
    · refine ⟨a + 1, by rw [e, if_pos c, a1, nI_1], by omega, ⟨fun z j hj => ?_, fun z => ?_⟩⟩
      · by_cases hjr : j = r
        · rw [hjr]; exact c
        · exact a3.mp (by omega) j (by omega)
      · have := a3.mpr (fun j hj => z j (by omega))
        omega
    · refine ⟨a, by rw [e, if_neg c, a1, Int32.add_zero], by omega, ⟨fun z => by omega, fun z => absurd (z r (by omega)) c⟩⟩
/-- all pictures of a round -/
def allA (d : SD) : Prop := ∀ j, j < rN (sTe d) (sLo d) 5 → fltB (sTe d) (sTo d) (sLo d) (sHe d) (nI j) (sSe d) = 0
theorem share_cmp {b : Nat} {d : SD} (h : GOk b d) : vf_n64 (shD d) ∧ FP.dcmp (shD d) FP.dconst0 = some .gt ∧ (allA d → FP.dcmp (shD d) FP.dconst1 = some .eq) ∧ (¬ allA d → FP.dcmp (shD d) FP.dconst1 = some .lt) := by
  obtain ⟨r1, r2⟩ := rN_lt (sLo d) h.1.1.te
  obtain ⟨a, a1, a2, a3⟩ := sumA_all d (rN (sTe d) (sLo d) 5)
  obtain ⟨a', e1, e2, e3⟩ := sumA_rng h.2.2.1 (rN (sTe d) (sLo d) 5) (by omega)
  have haa : a = a' := by rw [a1] at e3; exact (nI_eq (by omega) (by omega)).mp e3
  have ha1 : 1 ≤ a := by rw [haa]; exact e2 r1
  have es : shD d = FP.ddiv (FP.i2d (nI a)) (FP.i2d (nI (rN (sTe d) (sLo d) 5))) := by rw [shD, a1]
  obtain ⟨c, j, hj, hj1, hN⟩ := share_Nm2 a (rN (sTe d) (sLo d) 5) ha1 a2 (by omega)
  rw [← es] at hN
  refine ⟨nm_n64 hN, Nm_pos2 hN, fun z => ?_, fun z => ?_⟩
  · have hz := a3.mpr z
    rw [es, hz]
    exact dcmp_refl (share_1 _ r1 (by omega)) v_one
  · have hz : a < rN (sTe d) (sLo d) 5 := by
      rcases Nat.lt_or_ge a (rN (sTe d) (sLo d) 5) with y | y
      · exact y
      · exact absurd (a3.mp (by omega)) z
    have := hj1 hz
    exact Nm_lt1 hN (by omega)
/-! the round -/
theorem rN_div {te : Nat → Int32} {lo : Nat → Bool} (h : teOk te) : ∀ k, k ≤ 5 → rN te lo k ∣ 27720
  | 0, _ => by rw [rN]; exact Nat.one_dvd _
  | k + 1, hk => by
    obtain ⟨m, h3, h4, h5⟩ := h k (by omega)
    have ih := rN_div (lo := lo) h k (by omega)
    rw [rN]
    split
    · rw [h5, cl5 m (by omega)]
      refine Nat.lcm_dvd ih ?_
      rcases (by omega : m = 1 ∨ m = 2 ∨ m = 3 ∨ m = 4 ∨ m = 5 ∨ m = 6 ∨ m = 7 ∨ m = 8 ∨ m = 9 ∨ m = 10 ∨ m = 11 ∨ m = 12) with rfl | rfl | rfl | rfl | rfl | rfl | rfl | rfl | rfl | rfl | rfl | rfl <;> decide
    · exact ih
theorem te_div {te : Nat → Int32} {lo : Nat → Bool} {w : Nat} (hl : lo w = true) : ∀ k, w < k → (te w).toNatClampNeg ∣ rN te lo k
  | 0, h => absurd h (Nat.not_lt_zero _)
  | k + 1, h => by
    rw [rN]
    by_cases e : w = k
    · subst e
      rw [if_pos hl]
      exact Nat.dvd_lcm_right _ _
    · have ih := te_div (te := te) hl k (by omega)
      split
      · exact Nat.dvd_trans ih (Nat.dvd_lcm_left _ _)
      · exact ih
theorem rN_le {te : Nat → Int32} {lo : Nat → Bool} (h : teOk te) : 1 ≤ rN te lo 5 ∧ rN te lo 5 ≤ 27720 := ⟨(rN_lt lo h).1, Nat.le_of_dvd (by decide) (rN_div h 5 (by omega))⟩
/-- the height of a wheel repeats itself -/
theorem hB_cong {d : SD} (hO : SOk d) {w : Nat} (hw : w < 5) {x y : Int32} (hx1 : -2 ^ 29 ≤ x.toInt) (hx2 : x.toInt ≤ 2 ^ 29) (hy1 : -2 ^ 29 ≤ y.toInt) (hy2 : y.toInt ≤ 2 ^ 29) (h : ((rN (sTe d) (sLo d) 5 : Nat) : Int) ∣ x.toInt - y.toInt) : hB (sTe d) (sTo d) (sLo d) (sHe d) (nI w) x = hB (sTe d) (sTo d) (sLo d) (sHe d) (nI w) y := by
  obtain ⟨T, bb, q1, q2, q3, q4, q5⟩ := hO.1 w hw
  rw [hB, hB, tpB, tpB, cl5 w (by omega)]
  cases hl : sLo d w
  · rw [if_neg (by decide), if_neg (by decide)]
  · rw [if_pos rfl, if_pos rfl]
    have hd := te_div (te := sTe d) hl 5 hw
    rw [q3, cl5 T (by omega)] at hd
    have hT : (sTe d w).toInt = T := by rw [q3, nI_toInt (by omega)]
    have hB : (sTo d w).toInt = bb := by rw [q5, nI_toInt (by omega)]
    have hd2 : (T : Int) ∣ x.toInt - y.toInt := Int.dvd_trans (Int.natCast_dvd_natCast.mpr hd) h
    congr 1
    rw [← Int32.toInt_inj, md_toInt (by omega), md_toInt (by omega), add_toInt (by omega) (by omega), add_toInt (by omega) (by omega), hT, hB]
    obtain ⟨q, hq⟩ := hd2
    rw [show (bb : Int) + x.toInt = bb + y.toInt + T * q by omega, Int.add_mul_emod_self_left]
theorem flt_cong {d : SD} (hO : SOk d) {x y : Int32} (hx1 : -2 ^ 29 ≤ x.toInt) (hx2 : x.toInt ≤ 2 ^ 29) (hy1 : -2 ^ 29 ≤ y.toInt) (hy2 : y.toInt ≤ 2 ^ 29) (h : ((rN (sTe d) (sLo d) 5 : Nat) : Int) ∣ x.toInt - y.toInt) : fltB (sTe d) (sTo d) (sLo d) (sHe d) x (sSe d) = fltB (sTe d) (sTo d) (sLo d) (sHe d) y (sSe d) := by
  have e := fun w hw => hB_cong hO (w := w) hw hx1 hx2 hy1 hy2 h
  have e0 : hB (sTe d) (sTo d) (sLo d) (sHe d) 0 x = hB (sTe d) (sTo d) (sLo d) (sHe d) 0 y := e 0 (by omega)
  have e1 : hB (sTe d) (sTo d) (sLo d) (sHe d) 1 x = hB (sTe d) (sTo d) (sLo d) (sHe d) 1 y := e 1 (by omega)
  have e2 : hB (sTe d) (sTo d) (sLo d) (sHe d) 2 x = hB (sTe d) (sTo d) (sLo d) (sHe d) 2 y := e 2 (by omega)
  have e3 : hB (sTe d) (sTo d) (sLo d) (sHe d) 3 x = hB (sTe d) (sTo d) (sLo d) (sHe d) 3 y := e 3 (by omega)
  have e4 : hB (sTe d) (sTo d) (sLo d) (sHe d) 4 x = hB (sTe d) (sTo d) (sLo d) (sHe d) 4 y := e 4 (by omega)
  rw [fltB, fltB, e0, e1, e2, e3, e4]
theorem jam_spec (d : SD) (x : Int32) : ∀ m k : Nat, 1 ≤ k → (jamG d x m k = -1 ∧ ∀ j, k ≤ j → j < k + m → fltB (sTe d) (sTo d) (sLo d) (sHe d) (x * nI j) (sSe d) = 0) ∨ ∃ j, k ≤ j ∧ j < k + m ∧ jamG d x m k = nI (j - 1) ∧ ¬ fltB (sTe d) (sTo d) (sLo d) (sHe d) (x * nI j) (sSe d) = 0
  | 0, k, _ => Or.inl ⟨rfl, fun j h1 h2 => by omega⟩
  | m + 1, k, hk => by
    rw [jamG]
    by_cases h : fltB (sTe d) (sTo d) (sLo d) (sHe d) (x * nI k) (sSe d) = 0
    · rw [if_pos h]
      rcases jam_spec d x m (k + 1) (by omega) with ⟨i1, i2⟩ | ⟨j, i1, i2, i3, i4⟩
      · refine Or.inl ⟨i1, fun j h1 h2 => ?_⟩
        by_cases e : j = k
        · rw [e]; exact h
        · exact i2 j (by omega) (by omega)
      · exact Or.inr ⟨j, by omega, by omega, i3, i4⟩
    · rw [if_neg h]
      refine Or.inr ⟨k, by omega, by omega, ?_, h⟩
      obtain ⟨q, rfl⟩ : ∃ q, k = q + 1 := ⟨k - 1, by omega⟩
      rw [nI_pred, Nat.add_sub_cancel]
/-- the jam that is told, and the pictures of the round -/
theorem jam_all {b : Nat} {d : SD} (hd : GOk b d) {y : Int32} (hy : y = 1 ∨ y = -1) : (jamG d y (rN (sTe d) (sLo d) 5) 1 = -1 ∧ allA d) ∨ ∃ j, j < rN (sTe d) (sLo d) 5 ∧ jamG d y (rN (sTe d) (sLo d) 5) 1 = nI j ∧ ¬ allA d := by
  obtain ⟨r1, r2⟩ := rN_le (lo := sLo d) hd.1.1.te
  have hO := hd.1
  have hdv : ∀ j i : Nat, ∀ x : Int32, (x.toInt - (nI i).toInt = (rN (sTe d) (sLo d) 5 : Nat) * (j : Int) ∨ x.toInt - (nI i).toInt = -((rN (sTe d) (sLo d) 5 : Nat) * (j : Int))) → ((rN (sTe d) (sLo d) 5 : Nat) : Int) ∣ x.toInt - (nI i).toInt := fun j i x h => by
    rcases h with h | h
    · exact ⟨j, h⟩
    · exact ⟨-(j : Int), by rw [h, Int.mul_neg]⟩
  have hrel : ∀ j, 1 ≤ j → j ≤ rN (sTe d) (sLo d) 5 → ∃ i, i < rN (sTe d) (sLo d) 5 ∧ fltB (sTe d) (sTo d) (sLo d) (sHe d) (y * nI j) (sSe d) = fltB (sTe d) (sTo d) (sLo d) (sHe d) (nI i) (sSe d) := by
    intro j j1 j2
    rcases hy with rfl | rfl
    · by_cases e : j = rN (sTe d) (sLo d) 5
      · refine ⟨0, by omega, ?_⟩
        have hx : ((1 : Int32) * nI j).toInt = j := by rw [Int32.one_mul, nI_toInt (by omega)]
        refine flt_cong hO (by omega) (by omega) (by decide) (by decide) (hdv 1 0 _ (Or.inl ?_))
        rw [hx, show (nI 0).toInt = 0 from rfl]
        omega
      · exact ⟨j, by omega, by rw [Int32.one_mul]⟩
    · have hx : ((-1 : Int32) * nI j).toInt = -(j : Int) := by rw [Int32.neg_mul, Int32.one_mul, nI_neg (by omega)]
      have hi := nI_toInt (n := rN (sTe d) (sLo d) 5 - j) (by omega)
      refine ⟨rN (sTe d) (sLo d) 5 - j, by omega, flt_cong hO (by omega) (by omega) (by omega) (by omega) (hdv 1 _ _ (Or.inr ?_))⟩
      rw [hx, hi]
      omega
  have hrel2 : ∀ i, i < rN (sTe d) (sLo d) 5 → ∃ j, 1 ≤ j ∧ j ≤ rN (sTe d) (sLo d) 5 ∧ fltB (sTe d) (sTo d) (sLo d) (sHe d) (nI i) (sSe d) = fltB (sTe d) (sTo d) (sLo d) (sHe d) (y * nI j) (sSe d) := by
    intro i hi
    have hi2 := nI_toInt (n := i) (by omega)
    rcases hy with rfl | rfl
    · by_cases e : i = 0
      · subst e
        have hx : ((1 : Int32) * nI (rN (sTe d) (sLo d) 5)).toInt = (rN (sTe d) (sLo d) 5 : Nat) := by rw [Int32.one_mul, nI_toInt (by omega)]
        refine ⟨rN (sTe d) (sLo d) 5, r1, Nat.le_refl _, (flt_cong hO (by omega) (by omega) (by decide) (by decide) (hdv 1 0 _ (Or.inl ?_))).symm⟩
        rw [hx, show (nI 0).toInt = 0 from rfl]
        omega
      · exact ⟨i, by omega, by omega, by rw [Int32.one_mul]⟩
    · have hx : ((-1 : Int32) * nI (rN (sTe d) (sLo d) 5 - i)).toInt = -((rN (sTe d) (sLo d) 5 - i : Nat) : Int) := by rw [Int32.neg_mul, Int32.one_mul, nI_neg (by omega)]
      refine ⟨rN (sTe d) (sLo d) 5 - i, by omega, by omega, (flt_cong hO (by omega) (by omega) (by omega) (by omega) (hdv 1 _ _ (Or.inr ?_))).symm⟩
      rw [hx, hi2]
      omega
  rcases jam_spec d y (rN (sTe d) (sLo d) 5) 1 (Nat.le_refl _) with ⟨i1, i2⟩ | ⟨j, i1, i2, i3, i4⟩
  · refine Or.inl ⟨i1, fun i hi => ?_⟩
    obtain ⟨j, j1, j2, j3⟩ := hrel2 i hi
    rw [j3]
    exact i2 j j1 (by omega)
  · refine Or.inr ⟨j - 1, by omega, i3, fun z => ?_⟩
    obtain ⟨i, hi, hi2⟩ := hrel j i1 (by omega)
    exact i4 (hi2.trans (z i hi))
theorem nI_lt0 {n : Nat} (h : n < 2 ^ 31) : ¬ nI n < 0 := nI_pos h
/-- a jam at once -/
theorem jam_0 {b : Nat} {d : SD} (hd : GOk b d) {y : Int32} (hy : y = 1 ∨ y = -1) : jamG d y (rN (sTe d) (sLo d) 5) 1 = 0 ↔ ¬ fltB (sTe d) (sTo d) (sLo d) (sHe d) y (sSe d) = 0 := by
  obtain ⟨r1, r2⟩ := rN_le (lo := sLo d) hd.1.1.te
  obtain ⟨q, hq⟩ : ∃ q, rN (sTe d) (sLo d) 5 = q + 1 := ⟨rN (sTe d) (sLo d) 5 - 1, by omega⟩
  have e : y * nI 1 = y := by rw [show nI 1 = 1 from rfl, Int32.mul_one]
  rw [hq, jamG, e]
  by_cases h : fltB (sTe d) (sTo d) (sLo d) (sHe d) y (sSe d) = 0
  · rw [if_pos h]
    refine ⟨fun z => ?_, fun z => absurd h z⟩
    rcases jam_spec d y q (1 + 1) (by omega) with ⟨i1, -⟩ | ⟨j, i1, i2, i3, -⟩
    · rw [i1] at z; exact absurd z (by decide)
    · rw [i3] at z
      exact absurd z (nI_ne0 (by omega) (by omega))
  · rw [if_neg h]
    exact ⟨fun _ => h, fun _ => by decide⟩
theorem flt_12 (a b c d e s : Int32) : fltOf a b c d e s = 0 ∨ fltOf a b c d e s = 1 ∨ fltOf a b c d e s = 2 := by
  rw [fltOf]
  split
  · exact Or.inr (Or.inl rfl)
  · split
    · exact Or.inr (Or.inr rfl)
    · exact Or.inl rfl
theorem why_12 {d : SD} {y : Int32} : (whyD d y = 1 ∨ whyD d y = 2) ↔ ¬ fltB (sTe d) (sTo d) (sLo d) (sHe d) y (sSe d) = 0 := by
  rw [whyD, whyS]
  by_cases h : fltB (sTe d) (sTo d) (sLo d) (sHe d) y (sSe d) = 0
  · rw [if_neg (fun z => z h)]
    refine ⟨fun z => ?_, fun z => absurd h z⟩
    split at z
    · exact absurd z (by decide)
    · split at z
      · exact absurd z (by decide)
      · exact absurd z (by decide)
  · rw [if_pos h]
    exact ⟨fun _ => h, fun _ => (flt_12 _ _ _ _ _ _).resolve_left h⟩
/-- the wheel that would free the crank -/
theorem freG_spec (d : SD) (y : Int32) : ∀ m k : Nat, k + m ≤ 5 → freG d y m k = -1 ∨ ∃ w, w < 5 ∧ freG d y m k = nI w ∧ sLo d w = true ∧ whyF d w y = 0
  | 0, k, _ => Or.inl rfl
  | m + 1, k, h => by
    rw [freG]
    by_cases hl : sLo d k = true
    · rw [if_pos hl]
      by_cases hw : whyF d k y = 0
      · rw [if_pos hw]; exact Or.inr ⟨k, by omega, rfl, hl, hw⟩
      · rw [if_neg hw]; exact freG_spec d y m (k + 1) (by omega)
    · rw [if_neg hl]; exact freG_spec d y m (k + 1) (by omega)
theorem fre_spec (d : SD) (y : Int32) : freD d y = -1 ∨ ∃ w, w < 5 ∧ freD d y = nI w ∧ sLo d w = true ∧ whyD (kD d w) y = 0 ∧ (whyD d y = 1 ∨ whyD d y = 2) := by
  rw [freD]
  by_cases h : whyD d y = 0
  · rw [if_pos h]; exact Or.inl rfl
  · rw [if_neg h]
    rcases freG_spec d y 5 0 (by omega) with q | ⟨w, q1, q2, q3, q4⟩
    · exact Or.inl q
    · refine Or.inr ⟨w, q1, q2, q3, q4, why_12.mpr (fun z => h ?_)⟩
      obtain ⟨-, c2, c3⟩ := whyS_0 q4
      rw [whyD, whyS, if_neg (fun y => y z), c2, if_neg (by decide), if_neg c3]
/-- the scene that is found again -/
theorem unt_spec (d : SD) (a : Int32) : ∀ m k : Nat, untG d a m k = -1 ∨ ∃ j, k ≤ j ∧ j < k + m ∧ untG d a m k = nI j ∧ asSc (sTe d) (sTo d) (sLo d) (sHe d) (sScn d) a (nI j) = true
  | 0, k => Or.inl rfl
  | m + 1, k => by
    rw [untG]
    by_cases h : asSc (sTe d) (sTo d) (sLo d) (sHe d) (sScn d) a (nI k) = true
    · rw [if_pos h]; exact Or.inr ⟨k, by omega, by omega, rfl, h⟩
    · rw [if_neg h]
      rcases unt_spec d a m (k + 1) with q | ⟨j, q1, q2, q3, q4⟩
      · exact Or.inl q
      · exact Or.inr ⟨j, by omega, by omega, q3, q4⟩
theorem unt_0 {b : Nat} {d : SD} (hd : GOk b d) (a : Int32) : untG d a (rN (sTe d) (sLo d) 5) 0 = 0 ↔ asSc (sTe d) (sTo d) (sLo d) (sHe d) (sScn d) a 0 = true := by
  obtain ⟨r1, r2⟩ := rN_le (lo := sLo d) hd.1.1.te
  obtain ⟨q, hq⟩ : ∃ q, rN (sTe d) (sLo d) 5 = q + 1 := ⟨rN (sTe d) (sLo d) 5 - 1, by omega⟩
  rw [hq, untG, show nI 0 = 0 from rfl]
  by_cases h : asSc (sTe d) (sTo d) (sLo d) (sHe d) (sScn d) a 0 = true
  · rw [if_pos h]; exact ⟨fun _ => h, fun _ => rfl⟩
  · rw [if_neg h]
    refine ⟨fun z => ?_, fun z => absurd z h⟩
    rcases unt_spec d a q (0 + 1) with i | ⟨j, i1, i2, i3, -⟩
    · rw [i] at z; exact absurd z (by decide)
    · rw [i3] at z
      exact absurd z (nI_ne0 (by omega) (by omega))


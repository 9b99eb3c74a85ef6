theorem sumA_rng {d : SD} (h : alD d = true) : ∀ r : Nat, r < 2 ^ 30 → ∃ a : Nat, a ≤ r ∧ (1 ≤ r → 1 ≤ a) ∧ sumA d r = nI a
  | 0, _ => ⟨0, by omega, by omega, rfl⟩
  | r + 1, hr => by
    obtain ⟨a, a1, a2, a3⟩ := sumA_rng h r (by omega)
    have e : sumA d (r + 1) = sumA d r + (if fltB (sTe d) (sTo d) (sLo d) (sHe d) (nI r) (sSe d) = 0 then 1 else 0) := rfl
    by_cases c : fltB (sTe d) (sTo d) (sLo d) (sHe d) (nI r) (sSe d) = 0
    · exact ⟨a + 1, by omega, by omega, by rw [e, if_pos c, a3, nI_1]⟩
    · refine ⟨a, by omega, fun _ => ?_, by rw [e, if_neg c, a3, Int32.add_zero]⟩
      rcases Nat.eq_zero_or_pos r with z | z
      · subst z
        exact absurd (al_iff.mp h) c
      · exact a2 z
/-- the share of a state -/
theorem sh_Nm {b : Nat} {d : SD} (h : GOk b d) : ∃ c j : Nat, j ≤ 20 ∧ Nm (shD d) c (-52 - (j : Int)) := by
  obtain ⟨r1, r2⟩ := rN_lt (sLo d) h.1.1.te
  obtain ⟨a, a1, a2, a3⟩ := sumA_rng h.2.2.1 (rN (sTe d) (sLo d) 5) (by omega)
  obtain ⟨c, j, hj, hN⟩ := share_Nm a (rN (sTe d) (sLo d) 5) (a2 r1) a1 (by omega)
  refine ⟨c, j, hj, ?_⟩
  rw [shD, a3]
  exact hN
/-- the mean's bits, checked -/
def mV (s : Nat) : UInt32 := FP.fdiv (FP.i2f (nI s)) 1084227584
theorem n32d {x : UInt32} (h : decide (x &&& 0x7fffffff ≤ 0x7f800000) = true) : vf_n32 x := by
  have h2 := of_decide_eq_true h
  exact h2
theorem hB_rng {b : Nat} {d : SD} (h : GOk b d) (w x : Int32) : ∃ m : Nat, m ≤ 9 ∧ hB (sTe d) (sTo d) (sLo d) (sHe d) w x = nI m := hAt_rng h.2.2.2.1 w _
theorem sumH_rng {b : Nat} {d : SD} (h : GOk b d) : ∃ s : Nat, s ≤ 45 ∧ sumH d = nI s := by
  have all : ∀ k : Nat, k ≤ 5 → ∃ s : Nat, s ≤ 9 * k ∧ sumf (fun j => hB (sTe d) (sTo d) (sLo d) (sHe d) (nI j) 0) k = nI s := by
    intro k
    induction k with
    | zero => intro _; exact ⟨0, by omega, rfl⟩
    | succ k ih =>
      intro hk
      obtain ⟨s, s1, s2⟩ := ih (by omega)
      obtain ⟨m, m1, m2⟩ := hB_rng h (nI k) 0
      exact ⟨s + m, by omega, by rw [sumf, s2, m2, nI_add]⟩
  obtain ⟨s, s1, s2⟩ := all 5 (by omega)
  exact ⟨s, s1, s2⟩
theorem mn_V {b : Nat} {d : SD} (h : GOk b d) : ∃ s : Nat, s ≤ 45 ∧ mnD d = mV s := by
  obtain ⟨s, s1, s2⟩ := sumH_rng h
  exact ⟨s, s1, by rw [mnD, s2, mV]⟩


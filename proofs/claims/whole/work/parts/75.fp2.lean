theorem sumA_rng {d : SD} (h : alD d = true) : ∀ r : Nat, r < 2 ^ 30 → ∃ a : Nat, a ≤ r ∧ (1 ≤ r → 1 ≤ a) ∧ sumA d r = nI a
  | 0, _ => ⟨0, by omega, by omega, rfl⟩
  | r + 1, hr => by
    obtain ⟨a, a1, a2, a3⟩ := sumA_rng h r (by omega)
    have e : sumA d (r + 1) = sumA d r + (if fltB (sTe d) (sTo d) (sLo d) (sHe d) (nI r) (sSe d) = 0 then 1 else 0) := rfl
    by_cases c : fltB (sTe d) (sTo d) (sLo d) (sHe d) (nI r) (sSe d) = 0
    · exact ⟨a + 1, by omega, by omega, by rw [e, if_pos c, a3, nI_1]⟩
    · refine ⟨a, by omega, fun _ => ?_, by rw [e, if_neg c, a3, Int32.add_zero]⟩
      rcases Nat.eq_zero_or_pos r with z | z
      · subst z
        exact absurd (al_iff.mp h) c
      · exact a2 z
theorem nm_n64 {v : UInt64} {c : Nat} {q : Int} (h : Nm v c q) : vf_n64 v := by
  rw [n64_iff]
  have h1 : FP.Core.decode FP.Core.b64 v.toNat = .fin false c q := h.1
  rw [FP.Core.dIsNaN, FP.Core.isNaN, h1]
  exact decide_eq_false (fun z => by cases z)
/-- the share of a state -/
theorem sh_Nm {b : Nat} {d : SD} (h : GOk b d) : ∃ c j : Nat, j ≤ 20 ∧ Nm (shD d) c (-52 - (j : Int)) := by
  obtain ⟨r1, r2⟩ := rN_lt (sLo d) h.1.1.te
  obtain ⟨a, a1, a2, a3⟩ := sumA_rng h.2.2.1 (rN (sTe d) (sLo d) 5) (by omega)
  obtain ⟨c, j, hj, hN⟩ := share_Nm a (rN (sTe d) (sLo d) 5) (a2 r1) a1 (by omega)
  refine ⟨c, j, hj, ?_⟩
  rw [shD, a3]
  exact hN
theorem sh_n {b : Nat} {d : SD} (h : GOk b d) : vf_n64 (shD d) := by
  obtain ⟨c, j, -, hN⟩ := sh_Nm h
  exact nm_n64 hN
/-- the mean's bits, checked -/
def mV (s : Nat) : UInt32 := FP.fdiv (FP.i2f (nI s)) 1084227584
def chkF (s : Nat) : Bool := decide (mV s &&& 0x7fffffff ≤ 0x7f800000) && (decide (FP.f2d (mV s) &&& 0x7fffffffffffffff ≤ 0x7ff0000000000000) && (if Op.cmpValue (FP.fcmp (mV s) FP.fconst0) .l = 0 then decide (bitG (FP.f2d (mV s)) 23 127 = 0) else
  match fdnO 20 (mV s) 127 with
  | none => false
  | some (v1, x1) => match fupO 20 v1 x1 with
    | none => false
    | some (v2, x2) => decide (FP.fsub v2 FP.fconst1 &&& 0x7fffffff ≤ 0x7f800000) && (decide (FP.fmul (FP.fsub v2 FP.fconst1) 1258291200 &&& 0x7fffffff ≤ 0x7f800000) && decide (bitG (FP.f2d (mV s)) 23 127 = (x2 * 8388608 + FP.f2i (FP.fmul (FP.fsub v2 FP.fconst1) 1258291200)).toInt64))))
set_option maxRecDepth 100000 in
theorem chkF_all : ∀ s : Fin 46, chkF s.val = true := by decide +kernel
theorem n32d {x : UInt32} (h : decide (x &&& 0x7fffffff ≤ 0x7f800000) = true) : vf_n32 x := by
  have h2 := of_decide_eq_true h
  exact h2
theorem n64d {x : UInt64} (h : decide (x &&& 0x7fffffffffffffff ≤ 0x7ff0000000000000) = true) : vf_n64 x := by
  have h2 := of_decide_eq_true h
  exact h2
theorem mean_all (s : Nat) (hs : s ≤ 45) : vf_n32 (mV s) ∧ vf_n64 (FP.f2d (mV s)) ∧ ((Op.cmpValue (FP.fcmp (mV s) FP.fconst0) .l = 0 ∧ bitG (FP.f2d (mV s)) 23 127 = 0) ∨ (¬ Op.cmpValue (FP.fcmp (mV s) FP.fconst0) .l = 0 ∧ ∃ (v1 v2 : UInt32) (x1 x2 : Int32), fdnO 20 (mV s) 127 = some (v1, x1) ∧ fupO 20 v1 x1 = some (v2, x2) ∧ vf_n32 (FP.fsub v2 FP.fconst1) ∧ vf_n32 (FP.fmul (FP.fsub v2 FP.fconst1) 1258291200) ∧ bitG (FP.f2d (mV s)) 23 127 = (x2 * 8388608 + FP.f2i (FP.fmul (FP.fsub v2 FP.fconst1) 1258291200)).toInt64)) := by
  have h := chkF_all ⟨s, by omega⟩
  simp only at h
  rw [chkF, Bool.and_eq_true, Bool.and_eq_true] at h
  obtain ⟨h1, h2, h3⟩ := h
  refine ⟨n32d h1, n64d h2, ?_⟩
  by_cases c : Op.cmpValue (FP.fcmp (mV s) FP.fconst0) .l = 0
  · rw [if_pos c] at h3
    exact Or.inl ⟨c, of_decide_eq_true h3⟩
  · rw [if_neg c] at h3
    refine Or.inr ⟨c, ?_⟩
    cases e1 : fdnO 20 (mV s) 127 with
    | none => rw [e1] at h3; cases h3
    | some q =>
      obtain ⟨v1, x1⟩ := q
      rw [e1] at h3
      simp only at h3
      cases e2 : fupO 20 v1 x1 with
      | none => rw [e2] at h3; cases h3
      | some q2 =>
        obtain ⟨v2, x2⟩ := q2
        rw [e2] at h3
        simp only at h3
        rw [Bool.and_eq_true, Bool.and_eq_true] at h3
        exact ⟨v1, v2, x1, x2, rfl, e2, n32d h3.1, n32d h3.2.1, of_decide_eq_true h3.2.2⟩
theorem hB_rng {b : Nat} {d : SD} (h : GOk b d) (w x : Int32) : ∃ m : Nat, m ≤ 9 ∧ hB (sTe d) (sTo d) (sLo d) (sHe d) w x = nI m := hAt_rng h.2.2.2.1 w _
theorem sumH_rng {b : Nat} {d : SD} (h : GOk b d) : ∃ s : Nat, s ≤ 45 ∧ sumH d = nI s := by
  have all : ∀ k : Nat, k ≤ 5 → ∃ s : Nat, s ≤ 9 * k ∧ sumf (fun j => hB (sTe d) (sTo d) (sLo d) (sHe d) (nI j) 0) k = nI s := by
    intro k
    induction k with
    | zero => intro _; exact ⟨0, by omega, rfl⟩
    | succ k ih =>
      intro hk
      obtain ⟨s, s1, s2⟩ := ih (by omega)
      obtain ⟨m, m1, m2⟩ := hB_rng h (nI k) 0
      exact ⟨s + m, by omega, by rw [sumf, s2, m2, nI_add]⟩
  obtain ⟨s, s1, s2⟩ := all 5 (by omega)
  exact ⟨s, s1, s2⟩
theorem mn_V {b : Nat} {d : SD} (h : GOk b d) : ∃ s : Nat, s ≤ 45 ∧ mnD d = mV s := by
  obtain ⟨s, s1, s2⟩ := sumH_rng h
  exact ⟨s, s1, by rw [mnD, s2, mV]⟩


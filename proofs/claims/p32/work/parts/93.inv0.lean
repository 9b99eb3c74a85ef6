theorem all5 {P : Nat → Prop} (h0 : P 0) (h1 : P 1) (h2 : P 2) (h3 : P 3) (h4 : P 4) : ∀ w, w < 5 → P w := by
  intro w hw
  have : w = 0 ∨ w = 1 ∨ w = 2 ∨ w = 3 ∨ w = 4 := by omega
  rcases this with rfl | rfl | rfl | rfl | rfl <;> assumption
theorem sok0 : SOk D0 := by
  refine ⟨?_, 0, by omega, rfl⟩
  refine all5 ?_ ?_ ?_ ?_ ?_
  · exact ⟨4, 0, by decide⟩
  · exact ⟨6, 0, by decide⟩
  · exact ⟨8, 0, by decide⟩
  · exact ⟨9, 0, by decide⟩
  · exact ⟨12, 0, by decide⟩
theorem dok0 : DOk D0 := by
  refine all5 ?_ ?_ ?_ ?_ ?_ <;> decide
theorem al0 : alD D0 = true := by decide +kernel
theorem hg0 : hgO D0 := by
  intro i hi
  show ∃ m : Nat, m ≤ 9 ∧ lt0 he0 60 i = nI m
  unfold lt0
  rw [if_pos hi]
  show ∃ m : Nat, m ≤ 9 ∧ fst0 (i / 12) (i % 12) = nI m
  unfold fst0
  split
  · unfold moon0
    exact ⟨_, by split <;> omega, rfl⟩
  · split
    · exact ⟨9, by omega, rfl⟩
    · exact ⟨0, by omega, rfl⟩
theorem gok0 : GOk 0 D0 := ⟨sok0, dok0, al0, hg0, ⟨4, by omega, rfl⟩, all5 (by decide) (by decide) (by decide) (by decide) (by decide)⟩

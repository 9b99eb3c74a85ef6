theorem s0_row (j : Nat) (h : j < 5) : sI 12 5 true j = teeth0 j := by unfold sI; rw [if_pos h]
theorem all5 {P : Nat → Prop} (h0 : P 0) (h1 : P 1) (h2 : P 2) (h3 : P 3) (h4 : P 4) : ∀ w, w < 5 → P w := by
  intro w hw
  have : w = 0 ∨ w = 1 ∨ w = 2 ∨ w = 3 ∨ w = 4 := by omega
  rcases this with rfl | rfl | rfl | rfl | rfl <;> assumption
theorem rp0 : Rp (sI 12 5 true) D0 := by
  refine ⟨all5 rfl rfl rfl rfl rfl, all5 rfl rfl rfl rfl rfl, all5 rfl rfl rfl rfl rfl, fun w hw k hk => ?_, rfl, rfl, rfl, rfl, rfl, rfl, rfl, fun k hk => absurd hk (by show ¬ k < 5 * 0; omega), fun k hk => ?_⟩
  · have hk12 : k < 12 := by
      revert hk
      revert w
      refine all5 ?_ ?_ ?_ ?_ ?_
      · intro h; have h : k < 4 := h; omega
      · intro h; have h : k < 6 := h; omega
      · intro h; have h : k < 8 := h; omega
      · intro h; have h : k < 9 := h; omega
      · intro h; exact h
    show sI 12 5 true (15 + 12 * w + k) = lt0 he0 60 (12 * w + k)
    unfold lt0 sI
    rw [if_pos (show 12 * w + k < 60 by omega), if_neg (by omega), if_neg (by omega)]
    show _ = fst0 ((12 * w + k) / 12) ((12 * w + k) % 12)
    rw [show (12 * w + k) / 12 = w by omega, show (12 * w + k) % 12 = k by omega]
    unfold fst0
    by_cases h4 : w = 4
    · subst h4
      rw [if_pos rfl, if_neg (by omega), if_neg (by omega), if_pos (by omega), show 15 + 12 * 4 + k - 63 = k by omega]
    · rw [if_neg h4]
      by_cases h2 : w < 2
      · rw [if_pos h2]
        by_cases h0 : w = 0
        · rw [if_pos (by omega)]
        · rw [if_neg (by omega), if_pos (by omega)]
      · rw [if_neg h2, if_neg (by omega), if_neg (by omega), if_neg (by omega), if_neg (by omega)]
  · show sI 12 5 true (112 + k) = 0
    unfold sI
    rw [if_neg (by omega), if_neg (by omega), if_neg (by omega), if_neg (by omega), if_neg (by omega), if_neg (by intro h; omega)]
theorem sok0 : SOk D0 := by
  refine ⟨?_, 0, by omega, rfl⟩
  refine all5 ?_ ?_ ?_ ?_ ?_
  · exact ⟨4, 0, by decide⟩
  · exact ⟨6, 0, by decide⟩
  · exact ⟨8, 0, by decide⟩
  · exact ⟨9, 0, by decide⟩
  · exact ⟨12, 0, by decide⟩
theorem dok0 : DOk D0 := by
  refine all5 ?_ ?_ ?_ ?_ ?_ <;> decide
theorem al0 : alD D0 = true := by decide +kernel
theorem hg0 : hgO D0 := by
  intro i hi
  show ∃ m : Nat, m ≤ 9 ∧ lt0 he0 60 i = nI m
  unfold lt0
  rw [if_pos hi]
  show ∃ m : Nat, m ≤ 9 ∧ fst0 (i / 12) (i % 12) = nI m
  unfold fst0
  split
  · unfold moon0
    exact ⟨_, by split <;> omega, rfl⟩
  · split
    · exact ⟨9, by omega, rfl⟩
    · exact ⟨0, by omega, rfl⟩
theorem gok0 : GOk 0 D0 := ⟨sok0, dok0, al0, hg0, ⟨4, by omega, rfl⟩, all5 (by decide) (by decide) (by decide) (by decide) (by decide)⟩
theorem stt0 : Stt 0 (sI 12 5 true) D0 D0 false 0 rmz (fun _ => D0) :=
  ⟨rp0, gok0, ⟨rmz_lt, fun i j hi hj h => by
    unfold rmz at h
    rw [if_pos hi, if_pos hj] at h
    exact h, by omega, fun j hj => absurd hj (by omega)⟩, fun h => absurd h (by decide)⟩
theorem inv0 : Inv 0 CW0 (MW0 12 5 true) := inv_z stt0 (fun j hj => absurd hj (by omega))


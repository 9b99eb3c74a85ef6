/-- so many steps at most, up to the first that can not be made -/
def tuG (x : Int32) : Nat → SD → Nat × SD
  | 0, d => (0, d)
  | m + 1, d => if whyD d x = 0 then ((tuG x m (stepD d x)).1 + 1, (tuG x m (stepD d x)).2) else (0, d)
theorem tuG_le (x : Int32) : ∀ (m : Nat) (d : SD), (tuG x m d).1 ≤ m
  | 0, d => Nat.le_refl _
  | m + 1, d => by
    rw [tuG]
    split
    · have := tuG_le x m (stepD d x)
      simp only; omega
    · exact Nat.zero_le _


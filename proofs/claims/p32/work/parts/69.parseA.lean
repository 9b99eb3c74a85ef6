theorem btw_iff {x : Int32} {A B : Int32} {a b : Int} (hA : A.toInt = a) (hB : B.toInt = b) : btw x A B = true ↔ a ≤ x.toInt ∧ x.toInt ≤ b := by
  rw [btw, decide_eq_true_iff, leIc hA, leIc2 hB]

section
variable {b : Nat} {kp : Bool} {d0 d1 : SD} {k : Nat} {rm : Nat → Nat} {R : Nat → SD} {cod : Nat → Int32} {n : Nat} {aw op fig pop pmk pen : Int32} {psts ptd : Nat → Nat} {t : WD} {th at9 pt nm oq : Int32} {hs : Int64} {s bg tm : Nat → Int32}
end
theorem puM_ok {k : Nat} {rm : Nat → Nat} (h : ∀ j, rm j < 6) : ∀ j, puM k rm j < 6 := by
  intro j
  rw [puM]
  split
  · exact h j
  · exact rotr_ok h j
theorem wh_of {x : Int32} (h : iswh x = true) : ∃ w : Nat, w < 5 ∧ x = nI w := vp_in_of (iswh_iff.mp h) (by omega)
section
variable {b : Nat} {w0 m0 : List va_E} {z : Nat → Int64}
end


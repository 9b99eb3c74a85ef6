/-- the buffer's cells -/
abbrev TW (cod : Nat → Int32) (len aw op fig : Int32) : List va_E := [.inr (3, [.ref 1, .int len, .int aw, .int op, .int fig]), .inl (0, 60, .inl cod)]
def btw (x a b : Int32) : Bool := decide (a ≤ x ∧ x ≤ b)

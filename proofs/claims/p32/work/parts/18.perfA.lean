/-- the performer's cells -/
abbrev PW (op mk en : Int32) (sts td : Nat → Nat) : List va_E := [.inr (1, [.ref 1, .ref 2, .int op, .int mk, .int en]), .inl (0, 3, .inl (fun j => nI (sts j))), .inl (0, 3, .inl (fun j => nI (td j)))]

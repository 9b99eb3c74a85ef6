theorem clW_mono {n m : Nat} (h : n ≤ m) : ∀ {w : List va_E}, clW n w → clW m w
  | [], _ => trivial
  | _ :: t, hc => ⟨clE_mono h hc.1, clW_mono h (w := t) hc.2⟩

theorem hAt_at (he : Nat → Int32) (w j : Nat) (h5 : w < 5) (hj : j < 12) : hAt he (nI w) (nI j) = he (12 * w + j) := by
  have e1 : nI w * 12 + nI j = nI (12 * w + j) := by rw [show (12 : Int32) = nI 12 from rfl, pk_mul, nI_add, Nat.mul_comm]
  rw [hAt, e1, if_neg (nI_pos (by omega)), if_neg (show ¬ (60 : Int32) ≤ nI (12 * w + j) from nI_geF (n := 60) rfl (by omega) (by omega)), nI_clamp (by omega)]
/-- the tooth at the top is where the deeds put it -/
def DOk (d : SD) : Prop := ∀ w, w < 5 → md (sCra d w + sHa d w) (sTe d w) = sTo d w
theorem SOk.te {d : SD} (h : SOk d) : teOk (sTe d) := h.1.te
section
variable (th sv ln at9 pt nm op : Int32) (kp : Bool) (hs : Int64) (s tx bg tm : Nat → Int32)
end


theorem ix12 (w t : Nat) : nI w * 12 + nI t = nI (12 * w + t) := by rw [show (12 : Int32) = nI 12 from rfl, pk_mul, nI_add]; congr 1; omega
theorem putH_at (he : Nat → Int32) (w t : Nat) (h : Int32) (hw : w < 5) (ht : t < 12) : putH he (nI w) (nI t) h = upd he (12 * w + t) h := by
  have h0 : ¬ nI (12 * w + t) < 0 := nI_pos (by omega)
  have h1 : ¬ 60 ≤ nI (12 * w + t) := nI_geF (n := 60) rfl (by omega) (by omega)
  rw [putH, ix12, if_neg h0, if_neg h1, cl5 _ (by omega)]
theorem putN_at (he : Nat → Int32) (w : Nat) (h : Int32) (hw : w < 5) : ∀ m : Nat, m ≤ 12 → putN he (nI w) h m = fun i => if 12 * w ≤ i ∧ i < 12 * w + m then h else he i
  | 0, _ => by funext i; rw [putN, if_neg (by omega)]
  | m + 1, hm => by
    rw [putN, putN_at he w h hw m (by omega), putH_at _ w m h hw (by omega)]
    funext i
    by_cases e : i = 12 * w + m
    · subst e; rw [upd_eq, if_pos (by omega)]
    · rw [upd_ne e]
      by_cases e2 : 12 * w ≤ i ∧ i < 12 * w + m
      · rw [if_pos e2, if_pos (by omega)]
      · rw [if_neg e2, if_neg (by omega)]

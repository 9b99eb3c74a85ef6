/-! isTurned: what a turn does -/
theorem md_add {v x n : Int32} (hn : 1 ≤ n.toInt) (h1 : -2 ^ 29 ≤ v.toInt) (h2 : v.toInt ≤ 2 ^ 29) (h3 : -2 ^ 29 ≤ x.toInt) (h4 : x.toInt ≤ 2 ^ 29) (hn2 : n.toInt ≤ 2 ^ 29) : md (md v n + x) n = md (v + x) n := by
  have e := md_toInt (v := v) hn
  have e0 := Int.emod_nonneg v.toInt (show n.toInt ≠ 0 by omega)
  have e1 := Int.emod_lt_of_pos v.toInt (show 0 < n.toInt by omega)
  rw [← Int32.toInt_inj, md_toInt hn, md_toInt hn, add_toInt (by omega) (by omega), add_toInt (by omega) (by omega), e, Int.emod_add_emod]
/-- the tops behind so many steps -/
def toX (d : SD) (x : Int32) (w : Nat) : Int32 := if sLo d w = true then md (sTo d w + x) (sTe d w) else sTo d w
theorem mul_pm {y : Int32} (hy : y = 1 ∨ y = -1) {n : Nat} (hn : n < 2 ^ 29) : -(n : Int) ≤ (y * nI n).toInt ∧ (y * nI n).toInt ≤ n := by
  rcases hy with rfl | rfl
  · rw [Int32.one_mul, nI_toInt (by omega)]; omega
  · rw [show (-1 : Int32) * nI n = -(nI n) by rw [Int32.neg_mul, Int32.one_mul], nI_neg (by omega)]; omega
theorem mul_s (y : Int32) (n : Nat) : y + y * nI n = y * nI (n + 1) := by
  rw [← nI_1, Int32.mul_add, Int32.mul_one, Int32.add_comm]
theorem tu_to {y : Int32} (hy : y = 1 ∨ y = -1) : ∀ (m : Nat) (d : SD), m ≤ 100 → SOk d → (∀ w, w < 5 → sTo (tuG y m d).2 w = toX d (y * nI (tuG y m d).1) w) ∧ sTe (tuG y m d).2 = sTe d ∧ sLo (tuG y m d).2 = sLo d ∧ sHe (tuG y m d).2 = sHe d ∧ sCr (tuG y m d).2 = sCr d + y * nI (tuG y m d).1
  | 0, d, _, hO => by
    have z : y * nI 0 = 0 := by rw [show nI 0 = 0 from rfl, Int32.mul_zero]
    refine ⟨fun w hw => ?_, rfl, rfl, rfl, ?_⟩
    · show sTo d w = toX d (y * nI 0) w
      obtain ⟨T, bb, q1, q2, q3, q4, q5⟩ := hO.1 w hw
      rw [z, toX, Int32.add_zero, q5, q3, md_id q4 q2]
      split <;> rfl
    · show sCr d = sCr d + y * nI 0
      rw [z, Int32.add_zero]
  | m + 1, d, hm, hO => by
    have z : y * nI 0 = 0 := by rw [show nI 0 = 0 from rfl, Int32.mul_zero]
    rw [tuG]
    by_cases hw : whyD d y = 0
    · rw [if_pos hw]
      have hle := tuG_le y m (stepD d y)
      obtain ⟨i1, i2, i3, i4, i5⟩ := tu_to hy m (stepD d y) (by omega) (SOk_step hO y)
      refine ⟨fun w h5 => ?_, i2, i3, i4, ?_⟩
      · have h1 := i1 w h5
        show sTo (tuG y m (stepD d y)).2 w = toX d (y * nI ((tuG y m (stepD d y)).1 + 1)) w
        rw [h1]
        show (if sLo d w = true then md (tLk (sTe d) (sTo d) (sLo d) y w + y * nI (tuG y m (stepD d y)).1) (sTe d w) else tLk (sTe d) (sTo d) (sLo d) y w) = _
        obtain ⟨T, bb, q1, q2, q3, q4, q5⟩ := hO.1 w h5
        rw [toX, tLk]
        cases hl : sLo d w
        · rw [if_neg (by decide), if_neg (by decide), if_neg (by decide)]
        · rw [if_pos rfl, if_pos rfl, if_pos rfl]
          have hb := mul_pm hy (n := (tuG y m (stepD d y)).1) (by omega)
          have hy1 := mul_pm hy (n := 1) (by omega)
          have hT : (sTe d w).toInt = T := by rw [q3, nI_toInt (by omega)]
          have hB : (sTo d w).toInt = bb := by rw [q5, nI_toInt (by omega)]
          have e1 : y * nI 1 = y := by rw [show nI 1 = 1 from rfl, Int32.mul_one]
          rw [e1] at hy1
          rw [md_add (by omega) (by rw [add_toInt (by omega) (by omega)]; omega) (by rw [add_toInt (by omega) (by omega)]; omega) (by omega) (by omega) (by omega), Int32.add_assoc, mul_s]
      · show sCr (tuG y m (stepD d y)).2 = _
        rw [i5]
        show sCr d + y + y * nI (tuG y m (stepD d y)).1 = _
        rw [Int32.add_assoc, mul_s]
    · rw [if_neg hw]
      refine ⟨fun w h5 => ?_, rfl, rfl, rfl, ?_⟩
      · show sTo d w = toX d (y * nI 0) w
        obtain ⟨T, bb, q1, q2, q3, q4, q5⟩ := hO.1 w h5
        rw [z, toX, Int32.add_zero, q5, q3, md_id q4 q2]
        split <;> rfl
      · show sCr d = sCr d + y * nI 0
        rw [z, Int32.add_zero]
theorem tu_end (y : Int32) (m : Nat) : ∀ d : SD, (tuG y m d).1 < m → ¬ whyD (tuG y m d).2 y = 0 := by
  induction m with
  | zero => intro d h; exact (Nat.not_lt_zero _ h).elim
  | succ m ih =>
    intro d h
    rw [tuG] at h ⊢
    by_cases hw : whyD d y = 0
    · rw [if_pos hw] at h ⊢
      have h2 : (tuG y m (stepD d y)).1 + 1 < m + 1 := h
      exact ih (stepD d y) (by omega)
    · rw [if_neg hw]; exact hw
theorem tu_0 (y : Int32) {m : Nat} (hm : 1 ≤ m) (d : SD) : (tuG y m d).1 = 0 ↔ ¬ whyD d y = 0 := by
  obtain ⟨q, rfl⟩ : ∃ q, m = q + 1 := ⟨m - 1, by omega⟩
  rw [tuG]
  by_cases hw : whyD d y = 0
  · rw [if_pos hw]
    exact ⟨fun z => absurd (show (tuG y q (stepD d y)).1 + 1 = 0 from z) (by omega), fun z => absurd hw z⟩
  · rw [if_neg hw]; exact ⟨fun _ => hw, fun _ => rfl⟩
/-- the heights behind a turn are those told ahead -/
theorem tu_h {y : Int32} (hy : y = 1 ∨ y = -1) {m : Nat} {d : SD} (hm : m ≤ 100) (hO : SOk d) {w : Nat} (hw : w < 5) : hB (sTe (tuG y m d).2) (sTo (tuG y m d).2) (sLo (tuG y m d).2) (sHe (tuG y m d).2) (nI w) 0 = hB (sTe d) (sTo d) (sLo d) (sHe d) (nI w) (y * nI (tuG y m d).1) := by
  obtain ⟨i1, i2, i3, i4, -⟩ := tu_to hy m d hm hO
  rw [i2, i3, i4, hB, hB, tpB, tpB, cl5 w (by omega), i1 w hw, toX]
  obtain ⟨T, bb, q1, q2, q3, q4, q5⟩ := hO.1 w hw
  have e : (if sLo d w = true then (0 : Int32) else 0) = 0 := by split <;> rfl
  rw [e, Int32.add_zero]
  cases hl : sLo d w
  · rw [if_neg (by decide), if_neg (by decide), Int32.add_zero]
  · rw [if_pos rfl, if_pos rfl, md_md (by rw [q3, nI_toInt (by omega)]; omega)]
/-- a step and one back -/
theorem back_to {d : SD} (hO : SOk d) {w : Nat} (hw : w < 5) : tLk (sTe d) (tLk (sTe d) (sTo d) (sLo d) 1) (sLo d) (-1) w = sTo d w := by
  obtain ⟨T, bb, q1, q2, q3, q4, q5⟩ := hO.1 w hw
  rw [tLk, tLk]
  cases hl : sLo d w
  · rw [if_neg (by decide), if_neg (by decide)]
  · rw [if_pos rfl, if_pos rfl]
    have hT : (sTe d w).toInt = T := by rw [q3, nI_toInt (by omega)]
    have hB : (sTo d w).toInt = bb := by rw [q5, nI_toInt (by omega)]
    have h1 : (1 : Int32).toInt = 1 := rfl
    have h2 : (-1 : Int32).toInt = -1 := rfl
    rw [md_add (by omega) (by rw [add_toInt (by omega) (by omega)]; omega) (by rw [add_toInt (by omega) (by omega)]; omega) (by omega) (by omega) (by omega), Int32.add_assoc, show (1 : Int32) + -1 = 0 by decide, Int32.add_zero, q5, q3, md_id q4 q2]
/-- a deed saves, the next undo brings back -/
theorem psh {b c k : Nat} {rm : Nat → Nat} {R : Nat → SD} {d : SD} (h : Hs b k rm R) (hbc : b ≤ c) (hd : GP c d) : ∃ (K : Nat) (rm' : Nat → Nat) (R' : Nat → SD), (puK k = K + 1 ∧ puM k rm = rm' ∧ puR k rm R d = R') ∧ Hs c (K + 1) rm' R' ∧ R' (rm' K) = d ∧ Hs c K rm' R' ∧ ∀ e, Tp k rm R 1 e → ∃ K2, K = K2 + 1 ∧ R' (rm' K2) = e := by
  obtain ⟨h1, h2, h3⟩ := h.push hbc hd
  have hk := puK_1 k
  obtain ⟨K, hK⟩ : ∃ K, puK k = K + 1 := ⟨puK k - 1, by omega⟩
  refine ⟨K, _, _, ⟨hK, rfl, rfl⟩, ?_⟩
  rw [hK] at h1 h2 h3
  obtain ⟨p1, p2, p3, p4⟩ := h1.pop
  refine ⟨h1, p3 d h2, p1, fun e he => ?_⟩
  obtain ⟨t1, t2, t3⟩ := p4 1 e (by omega) (h3 1 e (by omega) he)
  obtain ⟨K2, rfl⟩ : ∃ K2, K = K2 + 1 := ⟨K - 1, by omega⟩
  exact ⟨K2, rfl, t3⟩
theorem nd97 : va_nd (List.range 97) = true := by decide +kernel
theorem fr2 {y : MethodName} {cc : ByteArray} {nL : Nat} {ret : Option FieldType} {rm : Room} {a0 : List Value} {w0 : List va_E} {r : Option Value} {w1 : List va_E} {f g : Nat → Int32} (h : QC 95 y cc nL ret rm a0 w0 r w1) (ha : a0.all (clv 95) = true := by rfl) (hr : refless r = true := by rfl) : QC 97 y cc nL ret rm a0 (w0 ++ [EA f, EA g]) r (w1 ++ [EA f, EA g]) := h.frame nd95 (E := [EA f, EA g]) rfl ⟨trivial, trivial, trivial⟩ ha hr
theorem wy_at0 {w : List va_E} {e e2 : va_E} (h : w.length = 95) : (w ++ [e, e2])[95]? = some e := by rw [List.getElem?_append_right (by omega), h]; rfl
theorem wy_at1 {w : List va_E} {e e2 : va_E} (h : w.length = 95) : (w ++ [e, e2])[96]? = some e2 := by rw [List.getElem?_append_right (by omega), h]; rfl
theorem wy_set0 {w : List va_E} {e e2 e3 : va_E} (h : w.length = 95) : (w ++ [e, e2]).set 95 e3 = w ++ [e3, e2] := by rw [List.set_append_right _ _ (by omega), h]; rfl
theorem wy_set1 {w : List va_E} {e e2 e3 : va_E} (h : w.length = 95) : (w ++ [e, e2]).set 96 e3 = w ++ [e, e3] := by rw [List.set_append_right _ _ (by omega), h]; rfl
/-- the direction of a turn -/
def Dir (y x bk : Int32) (s : Nat) : Prop := (y = 1 ∧ x = nI s ∧ bk = 0) ∨ (y = -1 ∧ x = -(nI s) ∧ bk = 1)
theorem Dir.pm {y x bk : Int32} {s : Nat} (h : Dir y x bk s) : y = 1 ∨ y = -1 := by
  rcases h with h | h
  · exact Or.inl h.1
  · exact Or.inr h.1
theorem Dir.mul {y x bk : Int32} {s : Nat} (h : Dir y x bk s) : y * nI s = x := by
  rcases h with ⟨rfl, rfl, -⟩ | ⟨rfl, rfl, -⟩
  · rw [Int32.one_mul]
  · rw [Int32.neg_mul, Int32.one_mul]
theorem Dir.le {y x bk : Int32} {s : Nat} (h : Dir y x bk s) (h1 : 1 ≤ s) (h6 : s ≤ 60) : (y = 1 ∧ ¬ x ≤ 0 ∧ x = nI s ∧ bk = 0) ∨ (y = -1 ∧ x ≤ 0 ∧ -x = nI s ∧ bk = 1) := by
  rcases h with ⟨rfl, rfl, rfl⟩ | ⟨rfl, rfl, rfl⟩
  · exact Or.inl ⟨rfl, nI_nle (by omega) (by omega), rfl, rfl⟩
  · exact Or.inr ⟨rfl, (leIc2 (n := 0) rfl).mpr (by rw [nI_neg (by omega)]; omega), Int32.neg_neg, rfl⟩
theorem Dir.tu {y x bk : Int32} {s : Nat} (h : Dir y x bk s) (h1 : 1 ≤ s) (h6 : s ≤ 60) : ¬ x = 0 ∧ ¬ x < -60 ∧ x ≤ 60 ∧ y = (if 0 < x then 1 else -1) ∧ (if 0 < x then x else -x) = nI s := by
  rcases h with ⟨rfl, rfl, rfl⟩ | ⟨rfl, rfl, rfl⟩
  · exact tuP h1 h6
  · exact tuN h1 h6
theorem Dir.rng {y x bk : Int32} {s : Nat} (h : Dir y x bk s) (h6 : s ≤ 60) : -9999 ≤ x.toInt ∧ x.toInt ≤ 9999 := by
  rcases h with ⟨rfl, rfl, rfl⟩ | ⟨rfl, rfl, rfl⟩
  · rw [nI_toInt (by omega)]; omega
  · rw [nI_neg (by omega)]; omega


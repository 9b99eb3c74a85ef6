/-! STATES OF A RUN, THE SAVED STATES -/
def CkO (d : SD) : Prop := (-9999 ≤ (sCr d).toInt ∧ (sCr d).toInt ≤ 9999) ∧ sCr d = sSf d - sSb d
def GP (b : Nat) (d : SD) : Prop := GOk b d ∧ CkO d
theorem GP.more {b c : Nat} {d : SD} (h : GP b d) (hbc : b ≤ c) : GP c d := ⟨h.1.more hbc, h.2⟩
theorem whyS_0 {f : Int32} {ca : Bool} {cr x : Int32} (h : whyS f ca cr x = 0) : f = 0 ∧ ca = false ∧ ¬ (9999 < cr + x ∨ cr + x < -9999) := by
  rw [whyS] at h
  by_cases h1 : f = 0
  · rw [if_neg (by simp [h1])] at h
    cases hc : ca with
    | true => rw [hc, if_pos rfl] at h; exact absurd h (by decide)
    | false =>
      rw [hc, if_neg (by decide)] at h
      refine ⟨h1, rfl, fun z => ?_⟩
      rw [if_pos z] at h
      exact absurd h (by decide)
  · rw [if_pos h1] at h; exact absurd h h1
theorem CkO_step {d : SD} {x : Int32} (h : CkO d) (hx : x = 1 ∨ x = -1) (hw : whyD d x = 0) : CkO (stepD d x) := by
  obtain ⟨-, -, h3⟩ := whyS_0 hw
  obtain ⟨⟨h1, h2⟩, h4⟩ := h
  refine ⟨?_, ?_⟩
  · show -9999 ≤ (sCr d + x).toInt ∧ (sCr d + x).toInt ≤ 9999
    have a := ltIc (x := sCr d + x) (N := 9999) (n := 9999) rfl
    have b := ltIc2 (x := sCr d + x) (N := -9999) (n := -9999) rfl
    rw [a, b] at h3
    omega
  · show sCr d + x = (if 0 < x then sSf d + 1 else sSf d) - (if 0 < x then sSb d else sSb d + 1)
    rw [h4]
    rcases hx with rfl | rfl
    · rw [if_pos (by decide), if_pos (by decide)]
      rw [Int32.sub_eq_add_neg, Int32.sub_eq_add_neg, Int32.add_assoc, Int32.add_assoc, Int32.add_comm (-sSb d) 1]
    · rw [if_neg (by decide), if_neg (by decide)]
      simp only [Int32.sub_eq_add_neg, Int32.neg_add, Int32.add_assoc]
theorem GP_tu {x : Int32} (hx : x = 1 ∨ x = -1) : ∀ (m b : Nat) (d : SD), b + m ≤ 2 ^ 29 → GP b d → GP (b + (tuG x m d).1) (tuG x m d).2
  | 0, b, d, _, h => h
  | m + 1, b, d, hb, h => by
    rw [tuG]
    by_cases hw : whyD d x = 0
    · rw [if_pos hw]
      have := GP_tu hx m (b + 1) (stepD d x) (by omega) ⟨GOk_step (by omega) h.1 hx hw, CkO_step h.2 hx hw⟩
      rw [show b + 1 + (tuG x m (stepD d x)).1 = b + ((tuG x m (stepD d x)).1 + 1) by omega] at this
      exact this
    · rw [if_neg hw]; exact h
/-- the saved state at a depth -/
def Tp (k : Nat) (rm : Nat → Nat) (R : Nat → SD) (j : Nat) (d : SD) : Prop := 1 ≤ j ∧ j ≤ k ∧ R (rm (k - j)) = d
def Hs (b : Nat) (k : Nat) (rm : Nat → Nat) (R : Nat → SD) : Prop := (∀ j, rm j < 6) ∧ (∀ i j, i < 6 → j < 6 → rm i = rm j → i = j) ∧ k ≤ 6 ∧ ∀ j, j < k → GP b (R (rm j))
theorem Hs.more {b c k : Nat} {rm : Nat → Nat} {R : Nat → SD} (h : Hs b k rm R) (hbc : b ≤ c) : Hs c k rm R := ⟨h.1, h.2.1, h.2.2.1, fun j hj => (h.2.2.2 j hj).more hbc⟩
theorem puK_1 (k : Nat) : 1 ≤ puK k := by unfold puK; split <;> omega
theorem puK_6 {k : Nat} (h : k ≤ 6) : puK k ≤ 6 := by unfold puK; split <;> omega
theorem rotr_inj {rm : Nat → Nat} (h : ∀ i j, i < 6 → j < 6 → rm i = rm j → i = j) : ∀ i j, i < 6 → j < 6 → rotr rm i = rotr rm j → i = j := by
  intro i j hi hj e
  unfold rotr at e
  by_cases a : i = 5 <;> by_cases b : j = 5
  · omega
  · rw [if_pos a, if_neg b, if_pos (by omega)] at e
    have := h _ _ (by omega) (by omega) e
    omega
  · rw [if_neg a, if_pos b, if_pos (by omega)] at e
    have := h _ _ (by omega) (by omega) e
    omega
  · rw [if_neg a, if_neg b, if_pos (by omega), if_pos (by omega)] at e
    have := h _ _ (by omega) (by omega) e
    omega
theorem vup_at {R : Nat → SD} {i : Nat} {d : SD} : va_up R i d i = d := if_pos rfl
theorem vup_ne {R : Nat → SD} {i j : Nat} {d : SD} (h : j ≠ i) : va_up R i d j = R j := if_neg h
theorem Hs.push {b c k : Nat} {rm : Nat → Nat} {R : Nat → SD} {d : SD} (h : Hs b k rm R) (hbc : b ≤ c) (hd : GP c d) : Hs c (puK k) (puM k rm) (puR k rm R d) ∧ Tp (puK k) (puM k rm) (puR k rm R d) 1 d ∧ ∀ j e, j < 6 → Tp k rm R j e → Tp (puK k) (puM k rm) (puR k rm R d) (j + 1) e := by
  obtain ⟨h1, h2, h3, h4⟩ := h
  by_cases hk : k < 6
  · have eK : puK k = k + 1 := if_pos hk
    have eM : puM k rm = rm := if_pos hk
    have eR : puR k rm R d = va_up R (rm k) d := if_pos hk
    rw [eK, eM, eR]
    refine ⟨⟨h1, h2, by omega, fun j hj => ?_⟩, ⟨by omega, by omega, ?_⟩, fun j e hj ht => ?_⟩
    · by_cases e : j = k
      · rw [e, vup_at]; exact hd
      · rw [vup_ne (fun z => e (h2 _ _ (by omega) (by omega) z))]; exact (h4 j (by omega)).more hbc
    · rw [Nat.add_sub_cancel, vup_at]
    · obtain ⟨t1, t2, t3⟩ := ht
      refine ⟨by omega, by omega, ?_⟩
      rw [show k + 1 - (j + 1) = k - j by omega, vup_ne (fun z => by have := h2 _ _ (by omega) (by omega) z; omega)]
      exact t3
  · obtain rfl : k = 6 := by omega
    have eK : puK 6 = 6 := rfl
    have eM : puM 6 rm = rotr rm := rfl
    have eR : puR 6 rm R d = va_up R (rm 0) d := rfl
    rw [eK, eM, eR]
    have e5 : rotr rm 5 = rm 0 := rfl
    have ej : ∀ j, j < 5 → rotr rm j = rm (j + 1) := fun j hj => by unfold rotr; rw [if_neg (by omega), if_pos hj]
    refine ⟨⟨rotr_ok h1, rotr_inj h2, by omega, fun j hj => ?_⟩, ⟨by omega, by omega, ?_⟩, fun j e hj ht => ?_⟩
    · by_cases e : j = 5
      · rw [e, e5, vup_at]; exact hd
      · rw [ej j (by omega), vup_ne (fun z => by have := h2 _ _ (by omega) (by omega) z; omega)]; exact (h4 (j + 1) (by omega)).more hbc
    · show va_up R (rm 0) d (rotr rm 5) = d
      rw [e5, vup_at]
    · obtain ⟨t1, t2, t3⟩ := ht
      refine ⟨by omega, by omega, ?_⟩
      rw [ej _ (by omega), vup_ne (fun z => by have := h2 _ _ (by omega) (by omega) z; omega), show 6 - (j + 1) + 1 = 6 - j by omega]
      exact t3
theorem Hs.pop {b k : Nat} {rm : Nat → Nat} {R : Nat → SD} (h : Hs b (k + 1) rm R) : Hs b k rm R ∧ GP b (R (rm k)) ∧ (∀ d, Tp (k + 1) rm R 1 d → R (rm k) = d) ∧ ∀ j e, 1 ≤ j → Tp (k + 1) rm R (j + 1) e → Tp k rm R j e := by
  obtain ⟨h1, h2, h3, h4⟩ := h
  refine ⟨⟨h1, h2, by omega, fun j hj => h4 j (by omega)⟩, h4 k (by omega), fun d ht => ?_, fun j e hj ht => ?_⟩
  · exact ht.2.2
  · obtain ⟨t1, t2, t3⟩ := ht
    refine ⟨hj, by omega, ?_⟩
    rw [← t3]
    congr 2
    omega


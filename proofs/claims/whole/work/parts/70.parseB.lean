/-- where the class's reader stands between two parts -/
def bdy (cod : Nat → Int32) (n a : Nat) (e : Bool) (aw fig : Int32) : Prop := (e = true ∧ aw = 0) ∨ (e = false ∧ aw = 3) ∨ (e = false ∧ aw = 2 ∧ ∃ f : Nat, 1 ≤ f ∧ f ≤ 9 ∧ fig = nI f ∧ ¬ ∃ g : Nat, g ≤ 9 ∧ cT cod n a = 48 + (g : Int) ∧ 10 * f + g ≤ 60)
theorem tn60 (f g : Nat) (hf : f ≤ 9) (hg : g ≤ 9) (x : Int32) (hx : x.toInt = 48 + (g : Int)) : nI f * 10 + x - 48 ≤ 60 ↔ 10 * f + g ≤ 60 := by
  have e : x = nI (48 + g) := by rw [← Int32.toInt_inj, hx, nI_toInt (by omega)]; omega
  have e2 : nI f * 10 + nI (48 + g) - 48 = nI (10 * f + g) := by
    rw [show (10 : Int32) = nI 10 from rfl, pk_mul, nI_add, show f * 10 + (48 + g) = 10 * f + g + 48 by omega, ← nI_add, show nI 48 = 48 from rfl, Int32.add_sub_cancel]
  rw [e, e2]
  constructor
  · intro h
    rw [Int32.le_iff_toInt_le, nI_toInt (by omega), show (60 : Int32).toInt = 60 from rfl] at h
    omega
  · intro h
    rw [Int32.le_iff_toInt_le, nI_toInt (by omega), show (60 : Int32).toInt = 60 from rfl]
    omega
theorem inPt_open (o : Nat) (ho : o ≤ 3) : inPt (nI o) 40 = (if o < 3 then 0 else 6, nI (o + 1)) := by
  rw [inPt, if_pos rfl, nI_1]
  by_cases h : o < 3
  · rw [if_pos h, if_neg (show ¬ 3 < nI (o + 1) from fun z => by have := (nI_ltI (a := 3) (by omega) (by omega)).mp z; omega)]
  · rw [if_neg h, if_pos (show 3 < nI (o + 1) from nI_lt (a := 3) (by omega) (by omega))]
/-- what the reader does between two parts -/
theorem bdy_step {cod : Nat → Int32} {n a : Nat} {e : Bool} {aw fig : Int32} (hb : bdy cod n a e aw fig) (ha : a < n) (o : Nat) (ho : o ≤ 3) :
    (cT cod n a = 40 → awB aw (nI o) fig (cod a) = (if o < 3 then 0 else 6, nI (o + 1), fig)) ∧
    (cT cod n a = 41 → 0 < o → e = false → awB aw (nI o) fig (cod a) = (5, nI (o - 1), fig)) ∧
    (cT cod n a = 41 → ¬ (0 < o ∧ e = false) → (awB aw (nI o) fig (cod a)).1 = 6) ∧
    (cT cod n a = 43 ∨ cT cod n a = 45 → awB aw (nI o) fig (cod a) = (1, nI o, fig)) ∧
    (cT cod n a = 107 → awB aw (nI o) fig (cod a) = (4, nI o, fig)) ∧
    (cT cod n a = 108 → awB aw (nI o) fig (cod a) = (3, nI o, fig)) ∧
    (¬ cT cod n a = 40 → ¬ cT cod n a = 41 → ¬ cT cod n a = 43 → ¬ cT cod n a = 45 → ¬ cT cod n a = 107 → ¬ cT cod n a = 108 → (awB aw (nI o) fig (cod a)).1 = 6) := by
  have hcd : cdA cod n a = cod a := by rw [cdA, if_pos ha]
  have hT : cT cod n a = (cod a).toInt := by rw [cT, hcd]
  have q : ∀ {N : Int32} {c : Int}, N.toInt = c → (cod a = N ↔ cT cod n a = c) := fun hN => by rw [← hcd]; exact cd_eq hN
  have q40 := q (N := 40) (c := 40) rfl
  have q41 := q (N := 41) (c := 41) rfl
  have q43 := q (N := 43) (c := 43) rfl
  have q45 := q (N := 45) (c := 45) rfl
  have q107 := q (N := 107) (c := 107) rfl
  have q108 := q (N := 108) (c := 108) rfl
  have inP : ∀ (P : Prop) (Y : Int32 × Int32 × Int32), (awB aw (nI o) fig (cod a) = ((inPt (nI o) (cod a)).1, (inPt (nI o) (cod a)).2, fig)) →
      (cT cod n a = 40 → awB aw (nI o) fig (cod a) = (if o < 3 then 0 else 6, nI (o + 1), fig)) ∧
      (cT cod n a = 41 → (awB aw (nI o) fig (cod a)).1 = 6) ∧
      (cT cod n a = 43 ∨ cT cod n a = 45 → awB aw (nI o) fig (cod a) = (1, nI o, fig)) ∧
      (cT cod n a = 107 → awB aw (nI o) fig (cod a) = (4, nI o, fig)) ∧
      (cT cod n a = 108 → awB aw (nI o) fig (cod a) = (3, nI o, fig)) ∧
      (¬ cT cod n a = 40 → ¬ cT cod n a = 43 → ¬ cT cod n a = 45 → ¬ cT cod n a = 107 → ¬ cT cod n a = 108 → (awB aw (nI o) fig (cod a)).1 = 6) := by
    intro P Y h
    rw [h]
    refine ⟨fun c => ?_, fun c => ?_, fun c => ?_, fun c => ?_, fun c => ?_, fun c0 c3 c5 c7 c8 => ?_⟩
    · rw [q40.mpr c, inPt_open o ho]
    · rw [q41.mpr c]; rfl
    · rcases c with c | c
      · rw [q43.mpr c]; rfl
      · rw [q45.mpr c]; rfl
    · rw [q107.mpr c]; rfl
    · rw [q108.mpr c]; rfl
    · rw [inPt, if_neg (fun z => c0 (q40.mp z)), if_neg (fun z => z.elim (fun z => c3 (q43.mp z)) (fun z => c5 (q45.mp z))), if_neg (fun z => c7 (q107.mp z)), if_neg (fun z => c8 (q108.mp z))]
  have beh : e = false → awB aw (nI o) fig (cod a) = ((behP (nI o) (cod a)).1, (behP (nI o) (cod a)).2, fig) →
      (cT cod n a = 40 → awB aw (nI o) fig (cod a) = (if o < 3 then 0 else 6, nI (o + 1), fig)) ∧
      (cT cod n a = 41 → 0 < o → e = false → awB aw (nI o) fig (cod a) = (5, nI (o - 1), fig)) ∧
      (cT cod n a = 41 → ¬ (0 < o ∧ e = false) → (awB aw (nI o) fig (cod a)).1 = 6) ∧
      (cT cod n a = 43 ∨ cT cod n a = 45 → awB aw (nI o) fig (cod a) = (1, nI o, fig)) ∧
      (cT cod n a = 107 → awB aw (nI o) fig (cod a) = (4, nI o, fig)) ∧
      (cT cod n a = 108 → awB aw (nI o) fig (cod a) = (3, nI o, fig)) ∧
      (¬ cT cod n a = 40 → ¬ cT cod n a = 41 → ¬ cT cod n a = 43 → ¬ cT cod n a = 45 → ¬ cT cod n a = 107 → ¬ cT cod n a = 108 → (awB aw (nI o) fig (cod a)).1 = 6) := by
    intro he h
    by_cases c1 : cT cod n a = 41
    · have h2 := h
      rw [behP, if_pos (q41.mpr c1)] at h2
      have hne : ∀ k : Int, k ≠ 41 → ¬ cT cod n a = k := fun k hk z => hk (by omega)
      refine ⟨fun c => absurd c (hne 40 (by decide)), fun _ h0 _ => ?_, fun _ h0 => ?_, fun c => c.elim (fun c => absurd c (hne 43 (by decide))) (fun c => absurd c (hne 45 (by decide))), fun c => absurd c (hne 107 (by decide)), fun c => absurd c (hne 108 (by decide)), fun _ c => absurd c1 c⟩
      · obtain ⟨o', rfl⟩ : ∃ o', o = o' + 1 := ⟨o - 1, by omega⟩
        rw [h2, if_pos (show 1 ≤ nI (o' + 1) from nI_le (a := 1) (by omega) (by omega)), nI_pred, Nat.add_sub_cancel]
      · have ho0 : o = 0 := by
          rcases Nat.eq_zero_or_pos o with z | z
          · exact z
          · exact absurd ⟨z, he⟩ h0
        subst ho0
        rw [h2, if_neg (by decide)]
    · have h2 : awB aw (nI o) fig (cod a) = ((inPt (nI o) (cod a)).1, (inPt (nI o) (cod a)).2, fig) := by
        rw [h, behP, if_neg (fun z => c1 (q41.mp z))]
      obtain ⟨r1, r2, r3, r4, r5, r6⟩ := inP True (0, 0, 0) h2
      exact ⟨r1, fun c => absurd c c1, fun c => absurd c c1, r3, r4, r5, fun c0 _ c3 c5 c7 c8 => r6 c0 c3 c5 c7 c8⟩
  rcases hb with ⟨rfl, rfl⟩ | ⟨he, rfl⟩ | ⟨he, rfl, f, f1, f2, rfl, f3⟩
  · obtain ⟨r1, r2, r3, r4, r5, r6⟩ := inP True (0, 0, 0) rfl
    exact ⟨r1, (fun _ _ c => by cases c), fun c _ => r2 c, r3, r4, r5, fun c0 _ c3 c5 c7 c8 => r6 c0 c3 c5 c7 c8⟩
  · exact beh he rfl
  · by_cases hd : btw (cod a) 48 57 = true
    · have hd2 := (btw_iff (A := 48) (B := 57) (a := 48) (b := 57) rfl rfl).mp hd
      have e6 : (awB 2 (nI o) (nI f) (cod a)).1 = 6 := by
        rw [awB, if_neg (by decide), if_pos rfl, if_pos hd]
        have hn : ¬ nI f * 10 + cod a - 48 ≤ 60 := fun z => f3 ⟨((cod a).toInt - 48).toNat, by omega, by rw [hT]; omega, (tn60 f _ f2 (by omega) (cod a) (by omega)).mp z⟩
        rw [if_neg hn]
      have hne : ∀ k : Int, (k < 48 ∨ 57 < k) → ¬ cT cod n a = k := fun k hk z => by rw [hT] at z; omega
      exact ⟨fun c => absurd c (hne 40 (by decide)), fun c => absurd c (hne 41 (by decide)), fun c => absurd c (hne 41 (by decide)), fun c => c.elim (fun c => absurd c (hne 43 (by decide))) (fun c => absurd c (hne 45 (by decide))), fun c => absurd c (hne 107 (by decide)), fun c => absurd c (hne 108 (by decide)), fun _ _ _ _ _ _ => e6⟩
    · exact beh he (by rw [awB, if_neg (by decide), if_pos rfl, if_neg hd])


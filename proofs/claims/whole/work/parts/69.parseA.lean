theorem RD_step (cod : Nat → Int32) (n a : Nat) (s : Int32 × Int32 × Int32) (h : a < n) : rdN cod (n - a) a s = if (awB s.1 s.2.1 s.2.2 (cod a)).1 = 6 then (a, awB s.1 s.2.1 s.2.2 (cod a)) else rdN cod (n - (a + 1)) (a + 1) (awB s.1 s.2.1 s.2.2 (cod a)) := by
  obtain ⟨m, hm⟩ : ∃ m, n - a = m + 1 := ⟨n - a - 1, by omega⟩
  rw [hm, rdN, show n - (a + 1) = m by omega]
theorem RD_end (cod : Nat → Int32) (n : Nat) (s : Int32 × Int32 × Int32) : rdN cod (n - n) n s = (n, s) := by rw [Nat.sub_self, rdN]
theorem btw_iff {x : Int32} {A B : Int32} {a b : Int} (hA : A.toInt = a) (hB : B.toInt = b) : btw x A B = true ↔ a ≤ x.toInt ∧ x.toInt ≤ b := by
  rw [btw, decide_eq_true_iff, leIc hA, leIc2 hB]
/-- the code at a place, as a number -/
def cT (tx : Nat → Int32) (n a : Nat) : Int := (cdA tx n a).toInt
theorem cd_eq {tx : Nat → Int32} {n a : Nat} {N : Int32} {c : Int} (hN : N.toInt = c) : cdA tx n a = N ↔ cT tx n a = c := by rw [cT, ← hN, Int32.toInt_inj]
theorem sub48 {x : Int32} (h : 0 ≤ x.toInt) : (x - 48).toInt = x.toInt - 48 := by
  have h2 := Int32.toInt_lt x
  rw [Int32.toInt_sub, show (48 : Int32).toInt = 48 from rfl, Int.bmod_eq_of_le (by omega) (by omega)]
/-- a figure as a number -/
theorem fgM_spec (tx : Nat → Int32) (n a : Nat) (l h : Nat) (hl : l ≤ 9) (hh : h ≤ 9) : (fgM tx n a (nI l) (nI h) = -1 ∧ ¬ (48 + (l : Int) ≤ cT tx n a ∧ cT tx n a ≤ 48 + h) ∧ fgP tx n a (nI l) (nI h) = a) ∨ (∃ k : Nat, l ≤ k ∧ k ≤ h ∧ cT tx n a = 48 + (k : Int) ∧ fgM tx n a (nI l) (nI h) = nI k ∧ fgP tx n a (nI l) (nI h) = a + 1) := by
  have eL : ((48 : Int32) + nI l).toInt = 48 + (l : Int) := by rw [show (48 : Int32) = nI 48 from rfl, nI_add, nI_toInt (by omega)]; omega
  have eH : ((48 : Int32) + nI h).toInt = 48 + (h : Int) := by rw [show (48 : Int32) = nI 48 from rfl, nI_add, nI_toInt (by omega)]; omega
  have hb := btw_iff (x := cdA tx n a) eL eH
  by_cases c : btw (cdA tx n a) (48 + nI l) (48 + nI h) = true
  · have c2 := hb.mp c
    refine Or.inr ⟨((cdA tx n a).toInt - 48).toNat, by omega, by omega, by rw [cT]; omega, ?_⟩
    have e : cdA tx n a - 48 = nI ((cdA tx n a).toInt - 48).toNat := by
      rw [← Int32.toInt_inj, sub48 (by omega), nI_toInt (by omega)]; omega
    have hne : ¬ cdA tx n a - 48 = -1 := by
      rw [← Int32.toInt_inj, sub48 (by omega), show (-1 : Int32).toInt = -1 from rfl]; omega
    have e2 : fgM tx n a (nI l) (nI h) = cdA tx n a - 48 := by rw [fgM, if_pos c]
    exact ⟨by rw [e2, e], by rw [fgP, e2, if_neg hne]⟩
  · have e2 : fgM tx n a (nI l) (nI h) = -1 := by rw [fgM, if_neg c]
    exact Or.inl ⟨e2, fun z => c (hb.mpr z), by rw [fgP, e2, if_pos rfl]⟩
theorem fgA_spec (x : Int32) : (fgA x = -1 ∧ ¬ (48 ≤ x.toInt ∧ x.toInt ≤ 57)) ∨ (∃ k : Nat, k ≤ 9 ∧ x.toInt = 48 + (k : Int) ∧ fgA x = nI k) := by
  have hb := btw_iff (x := x) (A := 48) (B := 57) (a := 48) (b := 57) rfl rfl
  rw [fgA]
  by_cases c : btw x 48 57 = true
  · have c2 := hb.mp c
    rw [if_pos c]
    refine Or.inr ⟨(x.toInt - 48).toNat, by omega, by omega, ?_⟩
    rw [← Int32.toInt_inj, sub48 (by omega), nI_toInt (by omega)]; omega
  · rw [if_neg c]
    exact Or.inl ⟨rfl, fun z => c (hb.mpr z)⟩
theorem ne_m1 (k : Nat) (h : k ≤ 100) : ¬ nI k = -1 := by
  intro e
  have := congrArg Int32.toInt e
  rw [nI_toInt (by omega), show (-1 : Int32).toInt = -1 from rfl] at this
  omega
theorem tn10 (f g : Nat) (hf : f ≤ 9) (hg : g ≤ 9) : 10 * nI f + nI g = nI (10 * f + g) := by
  rw [show (10 : Int32) = nI 10 from rfl, pk_mul, nI_add]
/-- a part read: what it is, where it ends, its number -/
theorem rpM_spec (tx : Nat → Int32) (n a : Nat) (nm : Int32) :
    (cT tx n a = 108 ∧ rpM tx n a nm = (true, a + 1, nm)) ∨
    (cT tx n a = 107 ∧ ((¬ (48 ≤ cT tx n (a + 1) ∧ cT tx n (a + 1) ≤ 52) ∧ rpM tx n a nm = (false, a + 1, -1)) ∨ ∃ k : Nat, k < 5 ∧ cT tx n (a + 1) = 48 + (k : Int) ∧ rpM tx n a nm = (true, a + 2, nI k))) ∨
    ((cT tx n a = 43 ∨ cT tx n a = 45) ∧ ((¬ (49 ≤ cT tx n (a + 1) ∧ cT tx n (a + 1) ≤ 57) ∧ rpM tx n a nm = (false, a + 1, -1)) ∨ ∃ f : Nat, 1 ≤ f ∧ f ≤ 9 ∧ cT tx n (a + 1) = 48 + (f : Int) ∧
      ((¬ (∃ g : Nat, g ≤ 9 ∧ cT tx n (a + 2) = 48 + (g : Int) ∧ 10 * f + g ≤ 60) ∧ rpM tx n a nm = (true, a + 2, nI f)) ∨ (∃ g : Nat, g ≤ 9 ∧ cT tx n (a + 2) = 48 + (g : Int) ∧ 10 * f + g ≤ 60 ∧ rpM tx n a nm = (true, a + 3, nI (10 * f + g)))))) ∨
    ((¬ cT tx n a = 108 ∧ ¬ cT tx n a = 107 ∧ ¬ cT tx n a = 43 ∧ ¬ cT tx n a = 45) ∧ rpM tx n a nm = (false, a, -1)) := by
  have e8 := cd_eq (tx := tx) (n := n) (a := a) (N := 108) (c := 108) rfl
  have e7 := cd_eq (tx := tx) (n := n) (a := a) (N := 107) (c := 107) rfl
  have e3 := cd_eq (tx := tx) (n := n) (a := a) (N := 43) (c := 43) rfl
  have e5 := cd_eq (tx := tx) (n := n) (a := a) (N := 45) (c := 45) rfl
  rw [rpM]
  by_cases h8 : cdA tx n a = 108
  · rw [if_pos h8]; exact Or.inl ⟨e8.mp h8, rfl⟩
  rw [if_neg h8]
  by_cases h7 : cdA tx n a = 107
  · rw [if_pos h7]
    refine Or.inr (Or.inl ⟨e7.mp h7, ?_⟩)
    rcases fgM_spec tx n (a + 1) 0 4 (by omega) (by omega) with ⟨f1, f2, f3⟩ | ⟨k, k1, k2, k3, k4, k5⟩
    · rw [show nI 0 = 0 from rfl, show nI 4 = 4 from rfl] at f1 f3
      refine Or.inl ⟨fun z => f2 (by omega), ?_⟩
      rw [f1, f3]; rfl
    · rw [show nI 0 = 0 from rfl, show nI 4 = 4 from rfl] at k4 k5
      refine Or.inr ⟨k, by omega, k3, ?_⟩
      rw [k4, k5, decide_eq_false (ne_m1 k (by omega))]; rfl
  rw [if_neg h7]
  by_cases h3 : cdA tx n a = 43 ∨ cdA tx n a = 45
  · rw [if_pos h3]
    refine Or.inr (Or.inr (Or.inl ⟨h3.imp e3.mp e5.mp, ?_⟩))
    rcases fgM_spec tx n (a + 1) 1 9 (by omega) (by omega) with ⟨f1, f2, f3⟩ | ⟨f, k1, k2, k3, k4, k5⟩
    · rw [show nI 1 = 1 from rfl, show nI 9 = 9 from rfl] at f1 f3
      refine Or.inl ⟨fun z => f2 (by omega), ?_⟩
      rw [f1, f3, rpG, rpQ, if_pos (Or.inl rfl), if_pos (Or.inl rfl)]; rfl
    · rw [show nI 1 = 1 from rfl, show nI 9 = 9 from rfl] at k4 k5
      refine Or.inr ⟨f, k1, k2, k3, ?_⟩
      rw [k4, k5, show a + 1 + 1 = a + 2 from rfl]
      by_cases h6 : 6 < f
      · have h6' : (6 : Int32) < nI f := nI_lt (a := 6) h6 (by omega)
        refine Or.inl ⟨fun ⟨g, g1, g2, g3⟩ => by omega, ?_⟩
        rw [rpG, rpQ, if_pos (Or.inr h6'), if_pos (Or.inr h6'), rpW, if_pos rfl, decide_eq_false (ne_m1 f (by omega))]; rfl
      · have h6' : ¬ (nI f = -1 ∨ (6 : Int32) < nI f) := fun z => z.elim (ne_m1 f (by omega)) (fun q => absurd ((nI_ltI (a := 6) (b := f) (by omega) (by omega)).mp q) h6)
        rw [rpG, rpQ, if_neg h6', if_neg h6']
        have key : ∀ h : Nat, h ≤ 9 → (∀ g : Nat, g ≤ 9 → (g ≤ h ↔ 10 * f + g ≤ 60)) → ((¬ (∃ g : Nat, g ≤ 9 ∧ cT tx n (a + 2) = 48 + (g : Int) ∧ 10 * f + g ≤ 60) ∧ (!decide (rpW (nI f) (fgM tx n (a + 2) 0 (nI h)) = -1), fgP tx n (a + 2) 0 (nI h), rpW (nI f) (fgM tx n (a + 2) 0 (nI h))) = (true, a + 2, nI f)) ∨ (∃ g : Nat, g ≤ 9 ∧ cT tx n (a + 2) = 48 + (g : Int) ∧ 10 * f + g ≤ 60 ∧ (!decide (rpW (nI f) (fgM tx n (a + 2) 0 (nI h)) = -1), fgP tx n (a + 2) 0 (nI h), rpW (nI f) (fgM tx n (a + 2) 0 (nI h))) = (true, a + 3, nI (10 * f + g)))) := by
          intro h hh hg
          rcases fgM_spec tx n (a + 2) 0 h (by omega) hh with ⟨f1, f2, f3⟩ | ⟨g, g1, g2, g3, g4, g5⟩
          · rw [show nI 0 = 0 from rfl] at f1 f3
            refine Or.inl ⟨fun ⟨g, g1, g2, g3⟩ => f2 (by have := (hg g g1).mpr g3; omega), ?_⟩
            rw [f1, f3, rpW, if_pos rfl, decide_eq_false (ne_m1 f (by omega))]; rfl
          · rw [show nI 0 = 0 from rfl] at g4 g5
            refine Or.inr ⟨g, by omega, g3, (hg g (by omega)).mp g2, ?_⟩
            rw [g4, g5, rpW, if_neg (ne_m1 g (by omega)), tn10 f g k2 (by omega), decide_eq_false (ne_m1 _ (by omega))]; rfl
        by_cases h66 : f = 6
        · subst h66
          rw [if_pos (show nI 6 = 6 from rfl)]
          exact key 0 (by omega) (fun g hg => by omega)
        · rw [if_neg (show ¬ nI f = 6 from fun z => h66 ((nI_eq (b := 6) (by omega) (by omega)).mp z))]
          exact key 9 (by omega) (fun g hg => by omega)
  · rw [if_neg h3]
    exact Or.inr (Or.inr (Or.inr ⟨⟨fun z => h8 (e8.mpr z), fun z => h7 (e7.mpr z), fun z => h3 (Or.inl (e3.mpr z)), fun z => h3 (Or.inr (e5.mpr z))⟩, rfl⟩))


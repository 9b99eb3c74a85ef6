section
variable (tx : Nat → Int32) (n : Nat)
/-- what is still to be done behind the brackets that are open -/
def Ev (sts td : Nat → Nat) : Nat → Nat
  | 0 => 0
  | j + 1 => 1 + (fgN tx n (cP tx n (sts j) + 1) - td j - 1) * (cK tx n (sts j) + 1) + cK tx n (cP tx n (sts j) + 2) + Ev sts td j
theorem Ev_congr (sts td sts2 td2 : Nat → Nat) : ∀ o : Nat, (∀ j, j < o → sts2 j = sts j ∧ td2 j = td j) → Ev tx n sts2 td2 o = Ev tx n sts td o
  | 0, _ => rfl
  | o + 1, h => by
    rw [Ev, Ev, (h o (by omega)).1, (h o (by omega)).2, Ev_congr sts td sts2 td2 o (fun j hj => h j (by omega))]
/-- the performer's measure -/
def muW (p : PSt) : Nat := cK tx n p.1 + Ev tx n p.2.2.1 p.2.2.2.1 p.2.1
/-- what holds while a work is done -/
def IW (p : PSt) : Prop := p.1 ≤ n ∧ p.2.1 ≤ 3 ∧ (∃ e, gd tx n p.1 p.2.1 e) ∧ (∀ j, j < p.2.1 → gd tx n (p.2.2.1 j) (j + 1) true ∧ p.2.2.1 j ≤ n ∧ p.2.2.2.1 j < fgN tx n (cP tx n (p.2.2.1 j) + 1)) ∧
  (0 < p.2.1 → cP tx n p.1 = cP tx n (p.2.2.1 (p.2.1 - 1))) ∧ (∀ j, j + 1 < p.2.1 → cP tx n (cP tx n (p.2.2.1 (j + 1)) + 2) = cP tx n (p.2.2.1 j))
theorem tx_eq {a : Nat} (ha : a < n) {N : Int32} {c : Int} (hN : N.toInt = c) : tx a = N ↔ cT tx n a = c := by
  rw [← cd_eq hN, cdA, if_pos ha]
theorem IW_1 (hc : ∀ j, j < n → 33 ≤ (tx j).toInt) (hn60 : n ≤ 60) (p : PSt) (hI : IW tx n p) (hg : pfGo n p = true) : pfOk tx n p ∧ mwOk tx n p ∧ IW tx n (pf1 tx n p) ∧ muW tx n (pf1 tx n p) < muW tx n p := by
  obtain ⟨a, o, sts, td, z, en, d⟩ := p
  rw [pfGo, decide_eq_true_iff] at hg
  obtain ⟨h1, h2, ⟨e, h3⟩, h4, h5, h6⟩ := hI
  simp only at h1 h2 h3 h4 h5 h6 hg
  obtain ⟨ha, -⟩ := hg
  have t40 := tx_eq tx n ha (N := 40) (c := 40) rfl
  have t41 := tx_eq tx n ha (N := 41) (c := 41) rfl
  have t43 := tx_eq tx n ha (N := 43) (c := 43) rfl
  have t45 := tx_eq tx n ha (N := 45) (c := 45) rfl
  have t107 := tx_eq tx n ha (N := 107) (c := 107) rfl
  have t108 := tx_eq tx n ha (N := 108) (c := 108) rfl
  rcases gd_cases tx n hc h1 h2 h3 with ⟨q, -, -⟩ | ⟨-, c40, ho3, hgd⟩ | ⟨-, c41, ho0, he, ⟨t, t1, t2, t3⟩, hle, hgd⟩ | ⟨-, cp, hr1, hl, hle, hgd⟩
  · omega
  · -- a bracket opens
    have n43 : ¬ tx a = 43 := fun q => by have := t43.mp q; omega
    have n45 : ¬ tx a = 45 := fun q => by have := t45.mp q; omega
    have n41 : ¬ tx a = 41 := fun q => by have := t41.mp q; omega
    have n107 : ¬ tx a = 107 := fun q => by have := t107.mp q; omega
    have n108 : ¬ tx a = 108 := fun q => by have := t108.mp q; omega
    have y40 := t40.mpr c40
    have ep : pf1 tx n (a, o, sts, td, z, en, d) = (a + 1, o + 1, va_up sts o (a + 1), va_up td o 0, z, en, d) := by
      simp only [pf1]
      rw [if_neg (fun q => q.elim n43 n45), if_neg n107, if_neg n108, if_pos y40]
    obtain ⟨-, i2, -⟩ := gd_P tx n hc n (a + 1) (o + 1) true (by omega) (by omega) (by omega) hgd
    obtain ⟨p1, p2, p3⟩ := i2 (by omega)
    obtain ⟨s1, s2⟩ := c_open9 tx n ha c40
    have htt : ∃ t : Nat, 2 ≤ t ∧ fgN tx n (cP tx n (a + 1) + 1) = t := by
      rcases gd_cases tx n hc (Nat.le_of_lt p1) (by omega) p3 with ⟨q, -, -⟩ | ⟨-, q, -⟩ | ⟨-, -, -, -, ⟨t, t1, t2, t3⟩, q2, q3⟩ | ⟨-, q, -⟩
      · omega
      · omega
      · exact ⟨t, t1, (fgN_of tx n t2 t3).2⟩
      · omega
    obtain ⟨t, ht1, ht2⟩ := htt
    have u1 : ∀ (f : Nat → Nat) (x j : Nat), j < o → va_up f o x j = f j := fun f x j hj => by
      have : j ≠ o := by omega
      simp [va_up, this]
    have u2 : ∀ (f : Nat → Nat) (x : Nat), va_up f o x o = x := fun f x => by simp [va_up]
    refine ⟨⟨fun q => absurd q (fun q => q.elim n43 n45), fun q => absurd q n107, fun _ => ho3, fun _ _ _ q => absurd y40 q⟩, ⟨fun _ => ho3, fun q => absurd q n41, fun q => absurd q n107, fun q => absurd q (fun q => q.elim n43 n45), Or.inl y40⟩, ?_, ?_⟩
    · rw [ep]
      refine ⟨by simp only; omega, by simp only; omega, ⟨true, hgd⟩, fun j hj => ?_, fun _ => ?_, fun j hj => ?_⟩
      · simp only at hj ⊢
        by_cases hjo : j = o
        · subst hjo
          rw [u2, u2, ht2]
          exact ⟨hgd, by omega, by omega⟩
        · rw [u1 _ _ j (by omega), u1 _ _ j (by omega)]
          exact h4 j (by omega)
      · simp only
        rw [Nat.add_sub_cancel, u2]
      · simp only at hj ⊢
        by_cases hjo : j + 1 = o
        · rw [hjo, u2, u1 _ _ j (by omega), ← s2, h5 (by omega)]
          congr 1
          rw [← hjo, Nat.add_sub_cancel]
        · rw [u1 _ _ (j + 1) (by omega), u1 _ _ j (by omega)]
          exact h6 j (by omega)
    · rw [ep, muW, muW]
      simp only
      rw [Ev, u2, u2, Ev_congr tx n sts td _ _ o (fun j hj => ⟨u1 _ _ j hj, u1 _ _ j hj⟩), s1, ht2]
      obtain ⟨t', rfl⟩ : ∃ t', t = t' + 1 := ⟨t - 1, by omega⟩
      rw [show t' + 1 - 0 - 1 = t' by omega, Nat.add_mul, Nat.one_mul]
      omega
  · -- a bracket closes
    have n43 : ¬ tx a = 43 := fun q => by have := t43.mp q; omega
    have n45 : ¬ tx a = 45 := fun q => by have := t45.mp q; omega
    have n40 : ¬ tx a = 40 := fun q => by have := t40.mp q; omega
    have n107 : ¬ tx a = 107 := fun q => by have := t107.mp q; omega
    have n108 : ¬ tx a = 108 := fun q => by have := t108.mp q; omega
    have y41 := t41.mpr c41
    obtain ⟨o', rfl⟩ : ∃ o', o = o' + 1 := ⟨o - 1, by omega⟩
    rw [Nat.add_sub_cancel] at h5 hgd
    obtain ⟨s1, s2⟩ := c_stop9 tx n (a := a) (Or.inr c41)
    have hP := h5 (by omega)
    rw [s2] at hP
    obtain ⟨g1, g2, g3⟩ := h4 o' (by omega)
    rw [← hP] at g3
    obtain ⟨f1, f2⟩ := fgN_of tx n t2 t3
    rw [f2] at g3
    have hsle := cP_ge tx n (sts o')
    have hslt : sts o' < a := by
      rcases Nat.lt_or_ge (sts o') a with q | q
      · exact q
      · have hsa : sts o' = a := by omega
        rw [hsa] at g1
        rcases gd_cases tx n hc h1 h2 g1 with ⟨q, -, -⟩ | ⟨-, q, -⟩ | ⟨-, -, -, q, -⟩ | ⟨-, q, -⟩
        · omega
        · omega
        · cases q
        · omega
    have hfm : fgM tx n (a + 1) 2 9 = nI t ∧ fgP tx n (a + 1) 2 9 = a + 2 := by
      have hf := fgM_spec tx n (a + 1) 2 9 (by omega) (by omega)
      rw [show nI 2 = 2 from rfl, show nI 9 = 9 from rfl] at hf
      rcases hf with ⟨-, q, -⟩ | ⟨k, -, -, k3, k4, k5⟩
      · exact absurd ⟨by omega, by omega⟩ q
      · have : k = t := by omega
        subst this
        exact ⟨k4, k5⟩
    have u1 : ∀ (f : Nat → Nat) (x j : Nat), j < o' → va_up f o' x j = f j := fun f x j hj => by
      have : j ≠ o' := by omega
      simp [va_up, this]
    have u2 : ∀ (f : Nat → Nat) (x : Nat), va_up f o' x o' = x := fun f x => by simp [va_up]
    refine ⟨⟨fun q => absurd q (fun q => q.elim n43 n45), fun q => absurd q n107, fun q => absurd q n40, fun _ _ _ _ => ?_⟩, ⟨fun q => absurd q n40, fun _ => ?_, fun q => absurd q n107, fun q => absurd q (fun q => q.elim n43 n45), Or.inr (Or.inl y41)⟩, ?_⟩
    · simp only
      rw [Nat.add_sub_cancel]
      exact ⟨by omega, h2, by omega, by omega, t, by omega, f1⟩
    · simp only
      rw [Nat.add_sub_cancel, f2]
      exact ⟨by omega, by omega, hslt, by omega, hfm.1, by omega, hfm.2⟩
    · by_cases hlt : td o' + 1 < t
      · have ep : pf1 tx n (a, o' + 1, sts, td, z, en, d) = (sts o', o' + 1, sts, va_up td o' (td o' + 1), z, en, d) := by
          simp only [pf1]
          rw [if_neg (fun q => q.elim n43 n45), if_neg n107, if_neg n108, if_neg n40, f2, Nat.add_sub_cancel, if_pos hlt]
        rw [ep]
        refine ⟨⟨g2, h2, ⟨true, g1⟩, fun j hj => ?_, fun _ => ?_, h6⟩, ?_⟩
        · simp only at hj ⊢
          by_cases hjo : j = o'
          · subst hjo
            rw [u2, ← hP, f2]
            exact ⟨g1, g2, hlt⟩
          · rw [u1 _ _ j (by omega)]
            exact h4 j hj
        · simp only
          rw [Nat.add_sub_cancel]
        · rw [muW, muW]
          simp only
          rw [Ev, Ev, u2, ← hP, f2, s1, Ev_congr tx n sts td sts _ o' (fun j hj => ⟨rfl, u1 _ _ j hj⟩)]
          obtain ⟨r, hr⟩ : ∃ r, t - td o' - 1 = r + 1 := ⟨t - td o' - 2, by omega⟩
          rw [hr, show t - (td o' + 1) - 1 = r by omega, Nat.add_mul r 1, Nat.one_mul]
          omega
      · have ep : pf1 tx n (a, o' + 1, sts, td, z, en, d) = (a + 2, o', sts, va_up td o' (td o' + 1), z, en, d) := by
          simp only [pf1]
          rw [if_neg (fun q => q.elim n43 n45), if_neg n107, if_neg n108, if_neg n40, f2, Nat.add_sub_cancel, if_neg hlt]
        rw [ep]
        refine ⟨⟨hle, by simp only; omega, ⟨false, hgd⟩, fun j hj => ?_, fun h0 => ?_, fun j hj => h6 j (by simp only at hj ⊢; omega)⟩, ?_⟩
        · simp only at hj ⊢
          rw [u1 _ _ j (by omega)]
          exact h4 j (by omega)
        · simp only at h0 ⊢
          have h66 := h6 (o' - 1) (by omega)
          rw [show o' - 1 + 1 = o' by omega, ← hP] at h66
          exact h66
        · rw [muW, muW]
          simp only
          rw [Ev, ← hP, f2, s1, Ev_congr tx n sts td sts _ o' (fun j hj => ⟨rfl, u1 _ _ j hj⟩), show t - td o' - 1 = 0 by omega, Nat.zero_mul]
          omega
  · -- another part
    have n40 : ¬ tx a = 40 := fun q => by have := t40.mp q; omega
    have n41 : ¬ tx a = 41 := fun q => by have := t41.mp q; omega
    obtain ⟨s1, s2⟩ := c_part9 tx n ha (by omega) (by omega) hl
    -- the place behind the part is the performer's
    have fin : (pf1 tx n (a, o, sts, td, z, en, d)).1 = (rpM tx n a 0).2.1 ∧ (pf1 tx n (a, o, sts, td, z, en, d)).2.1 = o ∧ (pf1 tx n (a, o, sts, td, z, en, d)).2.2.1 = sts ∧ (pf1 tx n (a, o, sts, td, z, en, d)).2.2.2.1 = td → IW tx n (pf1 tx n (a, o, sts, td, z, en, d)) ∧ muW tx n (pf1 tx n (a, o, sts, td, z, en, d)) < muW tx n (a, o, sts, td, z, en, d) := by
      intro ⟨k1, k2, k3, k4⟩
      rw [IW, muW, muW, k1, k2, k3, k4]
      refine ⟨⟨hle, h2, ⟨false, hgd⟩, h4, fun h0 => ?_, h6⟩, ?_⟩
      · rw [← s2]; exact h5 h0
      · simp only
        rw [s1]
        omega
    rcases cp with c8 | c7 | c3
    · have y := t108.mpr c8
      have n43 : ¬ tx a = 43 := fun q => by have := t43.mp q; omega
      have n45 : ¬ tx a = 45 := fun q => by have := t45.mp q; omega
      have n107 : ¬ tx a = 107 := fun q => by have := t107.mp q; omega
      have hr : rpM tx n a 0 = (true, a + 1, 0) := by
        rcases rpM_spec tx n a 0 with ⟨-, q⟩ | ⟨q, -⟩ | ⟨q, -⟩ | ⟨q, -⟩
        · exact q
        · omega
        · omega
        · exact absurd c8 q.1
      refine ⟨⟨fun q => absurd q (fun q => q.elim n43 n45), fun q => absurd q n107, fun q => absurd q n40, fun _ _ q => absurd y q⟩, ⟨fun q => absurd q n40, fun q => absurd q n41, fun q => absurd q n107, fun q => absurd q (fun q => q.elim n43 n45), Or.inr (Or.inr (Or.inr (Or.inl y)))⟩, ?_⟩
      have ep : pf1 tx n (a, o, sts, td, z, en, d) = (a + 1, o, sts, td, z, en, liD d true) := by
        simp only [pf1]
        rw [if_neg (fun q => q.elim n43 n45), if_neg n107, if_pos y]
      exact fin (by rw [ep, hr]; exact ⟨rfl, rfl, rfl, rfl⟩)
    · have y := t107.mpr c7
      have n43 : ¬ tx a = 43 := fun q => by have := t43.mp q; omega
      have n45 : ¬ tx a = 45 := fun q => by have := t45.mp q; omega
      have n108 : ¬ tx a = 108 := fun q => by have := t108.mp q; omega
      have hr : ∃ k : Nat, k < 5 ∧ cT tx n (a + 1) = 48 + (k : Int) ∧ ∀ nm, rpM tx n a nm = (true, a + 2, nI k) := by
        have one : ∀ nm, ∃ k : Nat, k < 5 ∧ cT tx n (a + 1) = 48 + (k : Int) ∧ rpM tx n a nm = (true, a + 2, nI k) := by
          intro nm
          have hnm := (rpM_nm tx n a nm).1
          rcases rpM_spec tx n a nm with ⟨q, -⟩ | ⟨-, q | q⟩ | ⟨q, -⟩ | ⟨q, -⟩
          · omega
          · rw [q.2, hr1] at hnm; cases hnm
          · exact q
          · omega
          · exact absurd c7 q.2.1
        obtain ⟨k, k1, k2, -⟩ := one 0
        refine ⟨k, k1, k2, fun nm => ?_⟩
        obtain ⟨k', q1, q2, q3⟩ := one nm
        have : k' = k := by omega
        subst this
        exact q3
      obtain ⟨k, k1, k2, hr⟩ := hr
      obtain ⟨f1, f2⟩ := fgN_of tx n (by omega) k2
      refine ⟨⟨fun q => absurd q (fun q => q.elim n43 n45), fun _ => by simp only; rw [f1]; exact nI5 k k1, fun q => absurd q n40, fun _ q => absurd y q⟩, ⟨fun q => absurd q n40, fun q => absurd q n41, fun _ => ⟨by simp only; rw [f2]; exact k1, fun nm => by simp only; rw [f2, hr nm]⟩, fun q => absurd q (fun q => q.elim n43 n45), Or.inr (Or.inr (Or.inl y))⟩, ?_⟩
      have ep : pf1 tx n (a, o, sts, td, z, en, d) = (a + 2, o, sts, td, z, en, kD d (fgN tx n (a + 1))) := by
        simp only [pf1]
        rw [if_neg (fun q => q.elim n43 n45), if_pos y]
      exact fin (by rw [ep, hr 0]; exact ⟨rfl, rfl, rfl, rfl⟩)
    · have y : tx a = 43 ∨ tx a = 45 := c3.imp t43.mpr t45.mpr
      have n107 : ¬ tx a = 107 := fun q => by have := t107.mp q; omega
      have n108 : ¬ tx a = 108 := fun q => by have := t108.mp q; omega
      have hr : ∃ w : Nat, w < 100 ∧ wNI tx n a = nI w ∧ ∀ nm, rpM tx n a nm = (true, if fgA (cdA tx n (a + 2)) = -1 then a + 2 else a + 3, nI w) := by
        have one : ∀ nm, ∃ w : Nat, w < 100 ∧ wNI tx n a = nI w ∧ rpM tx n a nm = (true, if fgA (cdA tx n (a + 2)) = -1 then a + 2 else a + 3, nI w) := by
          intro nm
          have hnm := rpM_nm tx n a nm
          rcases rpM_spec tx n a nm with ⟨q, -⟩ | ⟨q, -⟩ | ⟨-, q | ⟨f, f1, f2, f3, q⟩⟩ | ⟨q, -⟩
          · omega
          · omega
          · have h9 := hnm.1
            rw [q.2, hr1] at h9; cases h9
          · have ff := fgN_of tx n f2 f3
            rcases q with ⟨q1, q2⟩ | ⟨g, g1, g2, g3, q2⟩
            · have h9 := hnm.2
              rw [q2] at h9
              simp only at h9
              have hA : fgA (cdA tx n (a + 2)) = -1 := by
                rcases fgA_spec (cdA tx n (a + 2)) with ⟨q, -⟩ | ⟨k, hk9, k2, -⟩
                · exact q
                · rw [← h9] at hgd hle
                  have k2 : cT tx n (a + 2) = 48 + (k : Int) := k2
                  rcases gd_cases tx n hc hle h2 hgd with ⟨r, -, -⟩ | ⟨-, r, -⟩ | ⟨-, r, -⟩ | ⟨-, r, -⟩
                  · have := cT_end (cod := tx) (n := n) (a := a + 2) (by omega); omega
                  · omega
                  · omega
                  · omega
              refine ⟨f, by omega, ?_, ?_⟩
              · rw [wNI, if_pos hA]; exact ff.1
              · rw [q2, if_pos hA]
            · have gg := fgN_of tx n g1 g2
              have hA : ¬ fgA (cdA tx n (a + 2)) = -1 := by rw [gg.1]; exact ne_m1 g (by omega)
              refine ⟨10 * f + g, by omega, ?_, ?_⟩
              · rw [wNI, if_neg hA, ff.1, gg.1, show (10 : Int32) = nI 10 from rfl, pk_mul, nI_add, Nat.mul_comm]
              · rw [q2, if_neg hA]
          · exact absurd c3 (fun q2 => q2.elim q.2.2.1 q.2.2.2)
        obtain ⟨w, w1, w2, -⟩ := one 0
        refine ⟨w, w1, w2, fun nm => ?_⟩
        obtain ⟨w', q1, q2, q3⟩ := one nm
        have : w' = w := (nI_eq (by omega) (by omega)).mp (q2.symm.trans w2)
        subst this
        exact q3
      obtain ⟨w, w1, w2, hr⟩ := hr
      refine ⟨⟨fun _ => ⟨w, w1, w2⟩, fun q => absurd q n107, fun q => absurd q n40, fun q => absurd y q⟩, ⟨fun q => absurd q n40, fun q => absurd q n41, fun q => absurd q n107, fun _ => ⟨⟨w, w1, w2⟩, fun nm => by simp only; rw [hr nm, w2]⟩, Or.inr (Or.inr (Or.inr (Or.inr y)))⟩, ?_⟩
      exact fin (by
        simp only [pf1]
        rw [if_pos y, hr 0]
        exact ⟨rfl, rfl, rfl, rfl⟩)
/-- at the beginning of a work -/
theorem IW_0 (hc : ∀ j, j < n → 33 ≤ (tx j).toInt) (hn60 : n ≤ 60) (pt nm : Int32) (hw : (iwG tx n pt nm).1 = true) (sts td : Nat → Nat) (d : SD) : IW tx n (0, 0, sts, td, 0, 0, d) ∧ muW tx n (0, 0, sts, td, 0, 0, d) ≤ 50000 := by
  have hg : gd tx n 0 0 true := by
    rw [gd, iwN_fuel tx n (n + 1) (n + 1) 0 0 true 0 0 pt nm (by omega) (by omega) (by omega)]
    exact hw
  refine ⟨⟨Nat.zero_le _, by simp only; omega, ⟨true, hg⟩, fun j hj => by simp only at hj; omega, fun h => by simp only at h; omega, fun j hj => by simp only at hj; omega⟩, ?_⟩
  obtain ⟨i1, -, i3⟩ := gd_P tx n hc n 0 0 true (by omega) (by omega) (by omega) hg
  rw [i1 rfl] at i3
  rw [muW, Ev]
  simp only
  have : (n - 0) * 9 ^ (3 - 0) ≤ 60 * 729 := Nat.mul_le_mul (by omega) (by decide)
  omega
end


section
variable (tx : Nat → Int32) (n : Nat)
theorem rpM_nm (a : Nat) (nm : Int32) : (rpM tx n a nm).1 = (rpM tx n a 0).1 ∧ (rpM tx n a nm).2.1 = (rpM tx n a 0).2.1 := by
  rw [rpM, rpM]
  split
  · exact ⟨rfl, rfl⟩
  · split
    · exact ⟨rfl, rfl⟩
    · split <;> exact ⟨rfl, rfl⟩
/-- the reader's answer doesn't hang on its fuel, nor on the latest part -/
theorem iwN_fuel : ∀ (m m' a o : Nat) (e : Bool) (pt nm pt' nm' : Int32), a ≤ n → n < a + m → n < a + m' → (iwN tx n m a o e pt nm).1 = (iwN tx n m' a o e pt' nm').1 := by
  intro m
  induction m with
  | zero => intro m' a o e pt nm pt' nm' h1 h2; omega
  | succ m ih =>
    intro m' a o e pt nm pt' nm' h1 h2 h3
    obtain ⟨k, rfl⟩ : ∃ k, m' = k + 1 := by
      rcases m' with _ | k
      · omega
      · exact ⟨k, rfl⟩
    rw [iwN, iwN]
    by_cases c0 : o < 3 ∧ cdA tx n a = 40
    · rw [if_pos c0, if_pos c0]
      have := cd_lt (tx := tx) (n := n) (a := a) (by rw [c0.2]; decide)
      exact ih k (a + 1) (o + 1) true pt nm pt' nm' (by omega) (by omega) (by omega)
    · rw [if_neg c0, if_neg c0]
      by_cases c1 : 0 < o ∧ e = false ∧ cdA tx n a = 41
      · rw [if_pos c1, if_pos c1]
        by_cases c2 : fgM tx n (a + 1) 2 9 = -1
        · rw [if_pos c2, if_pos c2]
        · rw [if_neg c2, if_neg c2]
          have := cd_lt (tx := tx) (n := n) (a := a) (by rw [c1.2.2]; decide)
          have hp := fgP_n (tx := tx) (n := n) (a := a + 1) (lo := 2) (hi := 9) (by decide) (by omega)
          exact ih k _ (o - 1) e pt nm pt' nm' hp.2 (by omega) (by omega)
      · rw [if_neg c1, if_neg c1]
        by_cases c3 : cdA tx n a = 0
        · rw [if_pos c3, if_pos c3]
        · rw [if_neg c3, if_neg c3]
          have e1 := rpM_nm tx n a nm
          have e2 := rpM_nm tx n a nm'
          by_cases c4 : (rpM tx n a 0).1 = true
          · rw [if_pos (by rw [e1.1]; exact c4), if_pos (by rw [e2.1]; exact c4), e1.2, e2.2]
            have hq := rpM_n tx n a 0 h1
            have h9 := hq.2 c4
            exact ih k _ o false _ _ _ _ hq.1 (by omega) (by omega)
          · rw [if_neg (by rw [e1.1]; exact c4), if_neg (by rw [e2.1]; exact c4)]
/-- from here on the text is a work -/
def gd (a o : Nat) (e : Bool) : Prop := (iwN tx n (n + 1) a o e 0 0).1 = true
theorem gd_cases (hc : ∀ j, j < n → 33 ≤ (tx j).toInt) {a o : Nat} {e : Bool} (ha : a ≤ n) (ho : o ≤ 3) (h : gd tx n a o e) :
    (a = n ∧ e = false ∧ o = 0) ∨ (a < n ∧ cT tx n a = 40 ∧ o < 3 ∧ gd tx n (a + 1) (o + 1) true) ∨
    (a < n ∧ cT tx n a = 41 ∧ 0 < o ∧ e = false ∧ (∃ t : Nat, 2 ≤ t ∧ t ≤ 9 ∧ cT tx n (a + 1) = 48 + (t : Int)) ∧ a + 2 ≤ n ∧ gd tx n (a + 2) (o - 1) false) ∨
    (a < n ∧ (cT tx n a = 108 ∨ cT tx n a = 107 ∨ cT tx n a = 43 ∨ cT tx n a = 45) ∧ (rpM tx n a 0).1 = true ∧ a < (rpM tx n a 0).2.1 ∧ (rpM tx n a 0).2.1 ≤ n ∧ gd tx n (rpM tx n a 0).2.1 o false) := by
  have e0 := cd_eq (tx := tx) (n := n) (a := a) (N := 0) (c := 0) rfl
  have e40 := cd_eq (tx := tx) (n := n) (a := a) (N := 40) (c := 40) rfl
  have e41 := cd_eq (tx := tx) (n := n) (a := a) (N := 41) (c := 41) rfl
  rw [gd, iwN] at h
  by_cases hn : a < n
  · have hcT := cT_in (cod := tx) (n := n) hn
    have h33 := hc a hn
    have n0 : ¬ cdA tx n a = 0 := fun z => by have := e0.mp z; omega
    by_cases c0 : o < 3 ∧ cdA tx n a = 40
    · rw [if_pos c0] at h
      refine Or.inr (Or.inl ⟨hn, e40.mp c0.2, c0.1, ?_⟩)
      rw [gd, iwN_fuel tx n (n + 1) n (a + 1) (o + 1) true 0 0 0 0 (by omega) (by omega) (by omega)]
      exact h
    rw [if_neg c0] at h
    by_cases c1 : 0 < o ∧ e = false ∧ cdA tx n a = 41
    · rw [if_pos c1] at h
      have hf := fgM_spec tx n (a + 1) 2 9 (by omega) (by omega)
      rw [show nI 2 = 2 from rfl, show nI 9 = 9 from rfl] at hf
      rcases hf with ⟨f1, -, -⟩ | ⟨t, k1, k2, k3, k4, k5⟩
      · rw [f1, if_pos rfl] at h; cases h
      · rw [k4, if_neg (ne_m1 t (by omega)), k5, c1.2.1] at h
        have hl : a + 1 < n := by
          rcases Nat.lt_or_ge (a + 1) n with z | z
          · exact z
          · have := cT_end (cod := tx) z; omega
        refine Or.inr (Or.inr (Or.inl ⟨hn, e41.mp c1.2.2, c1.1, c1.2.1, ⟨t, k1, k2, k3⟩, by omega, ?_⟩))
        rw [gd, iwN_fuel tx n (n + 1) n (a + 2) (o - 1) false 0 0 0 0 (by omega) (by omega) (by omega)]
        exact h
    rw [if_neg c1, if_neg n0] at h
    by_cases c4 : (rpM tx n a 0).1 = true
    · rw [if_pos c4] at h
      have hq := rpM_n tx n a 0 ha
      have h9 := hq.2 c4
      refine Or.inr (Or.inr (Or.inr ⟨hn, ?_, c4, h9, hq.1, ?_⟩))
      · rcases rpM_spec tx n a 0 with ⟨z, -⟩ | ⟨z, -⟩ | ⟨z, -⟩ | ⟨-, z⟩
        · exact Or.inl z
        · exact Or.inr (Or.inl z)
        · exact Or.inr (Or.inr z)
        · rw [z] at c4; cases c4
      · rw [gd, iwN_fuel tx n (n + 1) n _ o false 0 0 (cdA tx n a) (rpM tx n a 0).2.2 hq.1 (by omega) (by omega)]
        exact h
    · rw [if_neg c4] at h; cases h
  · obtain rfl : n = a := by omega
    have hz := cT_end (cod := tx) (n := n) (a := n) (Nat.le_refl _)
    rw [if_neg (fun z => by have := e40.mp z.2; omega), if_neg (fun z => by have := e41.mp z.2.2; omega), if_pos (e0.mpr hz)] at h
    have h2 := of_decide_eq_true h
    exact Or.inl ⟨rfl, h2.1, h2.2⟩
/-- what is to be done from a place up to the bracket that closes there, and that place -/
def cst : Nat → Nat → Nat × Nat
  | 0, a => (0, a)
  | m + 1, a => if n ≤ a ∨ cdA tx n a = 41 then (0, a)
    else if cdA tx n a = 40 then (1 + fgN tx n ((cst m (a + 1)).2 + 1) * ((cst m (a + 1)).1 + 1) + (cst m ((cst m (a + 1)).2 + 2)).1, (cst m ((cst m (a + 1)).2 + 2)).2)
    else (1 + (cst m (max (a + 1) (rpM tx n a 0).2.1)).1, (cst m (max (a + 1) (rpM tx n a 0).2.1)).2)
theorem cst_ge : ∀ (m a : Nat), a ≤ (cst tx n m a).2
  | 0, a => Nat.le_refl _
  | m + 1, a => by
    rw [cst]
    split
    · exact Nat.le_refl _
    · split
      · have h1 := cst_ge m (a + 1)
        have h2 := cst_ge m ((cst tx n m (a + 1)).2 + 2)
        simp only; omega
      · have h1 := cst_ge m (max (a + 1) (rpM tx n a 0).2.1)
        simp only; omega
theorem cst_fuel : ∀ (m m' a : Nat), n < a + m → n < a + m' → cst tx n m a = cst tx n m' a := by
  intro m
  induction m with
  | zero =>
    intro m' a h1 h2
    rcases m' with _ | k
    · rfl
    · rw [cst, cst, if_pos (Or.inl (by omega))]
  | succ m ih =>
    intro m' a h1 h2
    rcases m' with _ | k
    · rw [cst, cst, if_pos (Or.inl (by omega))]
    · rw [cst, cst]
      by_cases c1 : n ≤ a ∨ cdA tx n a = 41
      · rw [if_pos c1, if_pos c1]
      · rw [if_neg c1, if_neg c1]
        have ha : a < n := by
          rcases Nat.lt_or_ge a n with z | z
          · exact z
          · exact absurd (Or.inl z) c1
        have i1 := ih k (a + 1) (by omega) (by omega)
        have g1 := cst_ge tx n k (a + 1)
        have i2 := ih k ((cst tx n k (a + 1)).2 + 2) (by omega) (by omega)
        have i3 := ih k (max (a + 1) (rpM tx n a 0).2.1) (by omega) (by omega)
        rw [i1, i2, i3]
def cK (a : Nat) : Nat := (cst tx n (n + 1) a).1
def cP (a : Nat) : Nat := (cst tx n (n + 1) a).2
theorem cP_ge (a : Nat) : a ≤ cP tx n a := cst_ge tx n _ _
theorem c_stop9 {a : Nat} (h : n ≤ a ∨ cT tx n a = 41) : cK tx n a = 0 ∧ cP tx n a = a := by
  have e41 := cd_eq (tx := tx) (n := n) (a := a) (N := 41) (c := 41) rfl
  rw [cK, cP, cst, if_pos (h.imp id e41.mpr)]
  exact ⟨rfl, rfl⟩
theorem c_open9 {a : Nat} (ha : a < n) (h : cT tx n a = 40) : cK tx n a = 1 + fgN tx n (cP tx n (a + 1) + 1) * (cK tx n (a + 1) + 1) + cK tx n (cP tx n (a + 1) + 2) ∧ cP tx n a = cP tx n (cP tx n (a + 1) + 2) := by
  have e41 := cd_eq (tx := tx) (n := n) (a := a) (N := 41) (c := 41) rfl
  have e40 := cd_eq (tx := tx) (n := n) (a := a) (N := 40) (c := 40) rfl
  have hs : cst tx n (n + 1) a = (1 + fgN tx n ((cst tx n n (a + 1)).2 + 1) * ((cst tx n n (a + 1)).1 + 1) + (cst tx n n ((cst tx n n (a + 1)).2 + 2)).1, (cst tx n n ((cst tx n n (a + 1)).2 + 2)).2) := by
    rw [cst, if_neg (fun z => z.elim (fun z => by omega) (fun z => by have := e41.mp z; omega)), if_pos (e40.mpr h)]
  have f1 := cst_fuel tx n n (n + 1) (a + 1) (by omega) (by omega)
  have f2 := cst_fuel tx n n (n + 1) ((cst tx n (n + 1) (a + 1)).2 + 2) (by have := cst_ge tx n (n + 1) (a + 1); omega) (by have := cst_ge tx n (n + 1) (a + 1); omega)
  rw [f1, f2] at hs
  have a1 := congrArg Prod.fst hs
  have a2 := congrArg Prod.snd hs
  exact ⟨a1, a2⟩
theorem c_part9 {a : Nat} (ha : a < n) (h0 : ¬ cT tx n a = 40) (h1 : ¬ cT tx n a = 41) (hl : a < (rpM tx n a 0).2.1) : cK tx n a = 1 + cK tx n (rpM tx n a 0).2.1 ∧ cP tx n a = cP tx n (rpM tx n a 0).2.1 := by
  have e41 := cd_eq (tx := tx) (n := n) (a := a) (N := 41) (c := 41) rfl
  have e40 := cd_eq (tx := tx) (n := n) (a := a) (N := 40) (c := 40) rfl
  have hm : max (a + 1) (rpM tx n a 0).2.1 = (rpM tx n a 0).2.1 := by omega
  have hs : cst tx n (n + 1) a = (1 + (cst tx n n (rpM tx n a 0).2.1).1, (cst tx n n (rpM tx n a 0).2.1).2) := by
    rw [cst, if_neg (fun z => z.elim (fun z => by omega) (fun z => h1 (e41.mp z))), if_neg (fun z => h0 (e40.mp z)), hm]
  have f1 := cst_fuel tx n n (n + 1) (rpM tx n a 0).2.1 (by omega) (by omega)
  rw [f1] at hs
  have a1 := congrArg Prod.fst hs
  have a2 := congrArg Prod.snd hs
  exact ⟨a1, a2⟩
theorem fgN_of {b t : Nat} (ht : t ≤ 9) (h : cT tx n b = 48 + (t : Int)) : fgA (cdA tx n b) = nI t ∧ fgN tx n b = t := by
  rcases fgA_spec (cdA tx n b) with ⟨-, z⟩ | ⟨k, k1, k2, k3⟩
  · exact absurd ⟨by rw [show (cdA tx n b).toInt = cT tx n b from rfl, h]; omega, by rw [show (cdA tx n b).toInt = cT tx n b from rfl, h]; omega⟩ z
  · have : k = t := by
      have h9 : (cdA tx n b).toInt = 48 + (t : Int) := h
      omega
    subst this
    exact ⟨k3, by rw [fgN, k3, nI_clamp (by omega)]⟩
/-- where a work's brackets close, and what is to be done up to there -/
theorem gd_P (hc : ∀ j, j < n → 33 ≤ (tx j).toInt) : ∀ (k a o : Nat) (e : Bool), n - a ≤ k → a ≤ n → o ≤ 3 → gd tx n a o e →
    (o = 0 → cP tx n a = n) ∧ (0 < o → cP tx n a < n ∧ cT tx n (cP tx n a) = 41 ∧ gd tx n (cP tx n a) o false) ∧ cK tx n a ≤ (cP tx n a - a) * 9 ^ (3 - o) := by
  intro k
  induction k with
  | zero =>
    intro a o e hk ha ho h
    obtain rfl : n = a := by omega
    obtain ⟨s1, s2⟩ := c_stop9 tx n (a := n) (Or.inl (Nat.le_refl _))
    rcases gd_cases tx n hc ha ho h with ⟨-, -, z⟩ | ⟨z, -⟩ | ⟨z, -⟩ | ⟨z, -⟩
    · exact ⟨fun _ => s2, fun q => by omega, by rw [s1]; omega⟩
    · omega
    · omega
    · omega
  | succ k ih =>
    intro a o e hk ha ho h
    have pw : 1 ≤ 9 ^ (3 - o) := Nat.one_le_pow _ _ (by omega)
    rcases gd_cases tx n hc ha ho h with ⟨z, -, z2⟩ | ⟨hn, c40, ho3, h2⟩ | ⟨hn, c41, ho0, he, -, -, -⟩ | ⟨hn, cp, -, hl, hle, h2⟩
    · subst z
      obtain ⟨s1, s2⟩ := c_stop9 tx a (a := a) (Or.inl (Nat.le_refl _))
      exact ⟨fun _ => s2, fun q => by omega, by rw [s1]; omega⟩
    · obtain ⟨s1, s2⟩ := c_open9 tx n hn c40
      obtain ⟨-, i2, i3⟩ := ih (a + 1) (o + 1) true (by omega) (by omega) (by omega) h2
      obtain ⟨p1, p2, p3⟩ := i2 (by omega)
      have pg := cP_ge tx n (a + 1)
      rcases gd_cases tx n hc (Nat.le_of_lt p1) (by omega) p3 with ⟨z, -, -⟩ | ⟨-, z, -⟩ | ⟨-, -, -, -, ⟨t, t1, t2, t3⟩, q2, q3⟩ | ⟨-, z, -⟩
      · omega
      · omega
      · rw [Nat.add_sub_cancel] at q3
        obtain ⟨j1, j2, j3⟩ := ih (cP tx n (a + 1) + 2) o false (by omega) q2 ho q3
        have pg2 := cP_ge tx n (cP tx n (a + 1) + 2)
        rw [s2]
        refine ⟨j1, j2, ?_⟩
        rw [s1, (fgN_of tx n t2 t3).2]
        obtain ⟨B, hB⟩ : ∃ B, B = 9 ^ (3 - (o + 1)) := ⟨_, rfl⟩
        have hB9 : 9 ^ (3 - o) = 9 * B := by rw [hB, show 3 - o = 3 - (o + 1) + 1 by omega, Nat.pow_succ, Nat.mul_comm]
        have hB1 : 1 ≤ B := by rw [hB]; exact Nat.one_le_pow _ _ (by omega)
        rw [← hB] at i3
        rw [hB9] at j3 ⊢
        obtain ⟨X, hX⟩ : ∃ X, cP tx n (a + 1) = a + 1 + X := ⟨cP tx n (a + 1) - (a + 1), by omega⟩
        obtain ⟨Y, hY⟩ : ∃ Y, cP tx n (cP tx n (a + 1) + 2) = cP tx n (a + 1) + 2 + Y := ⟨cP tx n (cP tx n (a + 1) + 2) - (cP tx n (a + 1) + 2), by omega⟩
        rw [show cP tx n (a + 1) - (a + 1) = X by omega] at i3
        rw [show cP tx n (cP tx n (a + 1) + 2) - (cP tx n (a + 1) + 2) = Y by omega] at j3
        rw [show cP tx n (cP tx n (a + 1) + 2) - a = X + Y + 3 by omega]
        have k1 : t * (cK tx n (a + 1) + 1) ≤ 9 * (X * B + 1) := Nat.mul_le_mul t2 (by omega)
        have k2 : (X + Y + 3) * (9 * B) = 9 * (X * B) + Y * (9 * B) + 27 * B := by
          rw [Nat.add_mul, Nat.add_mul, Nat.mul_left_comm X 9 B]
          omega
        omega
      · omega
    · obtain ⟨s1, s2⟩ := c_stop9 tx n (a := a) (Or.inr c41)
      rw [s2]
      exact ⟨fun q => by omega, fun _ => ⟨hn, c41, by rw [he] at h; exact h⟩, by rw [s1]; omega⟩
    · obtain ⟨s1, s2⟩ := c_part9 tx n hn (by omega) (by omega) hl
      obtain ⟨j1, j2, j3⟩ := ih (rpM tx n a 0).2.1 o false (by omega) hle ho h2
      have pg := cP_ge tx n (rpM tx n a 0).2.1
      rw [s2]
      refine ⟨j1, j2, ?_⟩
      rw [s1]
      obtain ⟨Y, hY⟩ : ∃ Y, cP tx n (rpM tx n a 0).2.1 - a = Y + (cP tx n (rpM tx n a 0).2.1 - (rpM tx n a 0).2.1) ∧ 1 ≤ Y := ⟨(rpM tx n a 0).2.1 - a, by omega⟩
      rw [hY.1, Nat.add_mul]
      have k1 : 1 * 1 ≤ Y * 9 ^ (3 - o) := Nat.mul_le_mul hY.2 pw
      omega
end


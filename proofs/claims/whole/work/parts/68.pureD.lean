/-- the model at work: its state, the states' bounds, what lies behind -/
def mAll (b : Nat) (s0 : Nat → Int32) (p : PSt) (q : MSt) : Prop := mRel p q ∧ (∃ u : Nat, u ≤ 2000 ∧ p.2.2.2.2.1 = nI u ∧ GOk (b + u) p.2.2.2.2.2.2) ∧ sHi s0 q.2.2.2.2
theorem mAll_1 (tx : Nat → Int32) (n b : Nat) (s0 : Nat → Int32) (p : PSt) (q : MSt) (hb : b ≤ 2 ^ 28) (hr : mAll b s0 p q) (hok : mwOk tx n p) (hg : pfGo n p = true) : mAll b s0 (pf1 tx n p) (mw1 tx n p q) := by
  refine ⟨mRel_1 tx n p q hr.1 hok hg, ?_⟩
  obtain ⟨-, ⟨u, hu, hz, hG⟩, hH⟩ := hr
  obtain ⟨a, o, sts, td, z, en, d⟩ := p
  obtain ⟨bg, tm, pt, nm, s⟩ := q
  obtain ⟨h40, h41, h107, h43, hall⟩ := hok
  simp only at hu hz hG hH h40 h41 h107 h43 hall
  subst hz
  simp only [pf1, mw1]
  by_cases c3 : tx a = 43 ∨ tx a = 45
  · have n40 : ¬ tx a = 40 := fun e => by rw [e] at c3; exact absurd c3 (by decide)
    have n41 : ¬ tx a = 41 := fun e => by rw [e] at c3; exact absurd c3 (by decide)
    have n108 : ¬ tx a = 108 := fun e => by rw [e] at c3; exact absurd c3 (by decide)
    have n107 : ¬ tx a = 107 := fun e => by rw [e] at c3; exact absurd c3 (by decide)
    rw [if_pos c3, if_neg n40, if_neg n41, if_neg n108, if_neg n107]
    obtain ⟨⟨w, hw, hwe⟩, -⟩ := h43 c3
    have cu : (nI u).toNatClampNeg = u := nI_clamp (by omega)
    have cw : (nI w).toNatClampNeg = w := nI_clamp (by omega)
    rw [hwe, cw, cu, tnG_tuG _ w u d hu]
    have hy : (if tx a = 43 then (1 : Int32) else -1) = 1 ∨ (if tx a = 43 then (1 : Int32) else -1) = -1 := by split; exact Or.inl rfl; exact Or.inr rfl
    generalize (if tx a = 43 then (1 : Int32) else -1) = y at hy ⊢
    have hle := tuG_le y (if w < 2000 - u then w else 2000 - u) d
    have hk : (if w < 2000 - u then w else 2000 - u) ≤ 2000 - u := by split <;> omega
    generalize (if w < 2000 - u then w else 2000 - u) = k at hle hk ⊢
    have hT := GOk_tu hy k (b + u) d (by omega) hG
    exact ⟨⟨u + (tuG y k d).1, by omega, rfl, by rw [← Nat.add_assoc]; exact hT⟩, sHi_upd (sHi_it y _ _ _ hH) (by omega) _⟩
  rw [if_neg c3]
  by_cases c7 : tx a = 107
  · have n40 : ¬ tx a = 40 := fun e => by rw [e] at c7; exact absurd c7 (by decide)
    have n41 : ¬ tx a = 41 := fun e => by rw [e] at c7; exact absurd c7 (by decide)
    have n108 : ¬ tx a = 108 := fun e => by rw [e] at c7; exact absurd c7 (by decide)
    rw [if_pos c7, if_neg n40, if_neg n41, if_neg n108, if_pos c7]
    have h5 := (h107 c7).1
    exact ⟨⟨u, hu, rfl, GOk_k hG _⟩, sHi_upd hH (by omega) _⟩
  rw [if_neg c7]
  by_cases c8 : tx a = 108
  · have n40 : ¬ tx a = 40 := fun e => by rw [e] at c8; exact absurd c8 (by decide)
    have n41 : ¬ tx a = 41 := fun e => by rw [e] at c8; exact absurd c8 (by decide)
    rw [if_pos c8, if_neg n40, if_neg n41, if_pos c8]
    exact ⟨⟨u, hu, rfl, GOk_li hG _⟩, sHi_upd hH (by omega) _⟩
  rw [if_neg c8]
  by_cases c0 : tx a = 40
  · rw [if_pos c0, if_pos c0]
    exact ⟨⟨u, hu, rfl, hG⟩, hH⟩
  rw [if_neg c0, if_neg c0]
  have c1 : tx a = 41 := by rcases hall with h | h | h | h | h | h <;> (first | exact h | exact absurd h c0 | exact absurd h c7 | exact absurd h c8 | exact absurd (Or.inl h) c3 | exact absurd (Or.inr h) c3)
  rw [if_pos c1]
  split
  · exact ⟨⟨u, hu, rfl, hG⟩, hH⟩
  · exact ⟨⟨u, hu, rfl, hG⟩, hH⟩
theorem mAll_N (tx : Nat → Int32) (n b : Nat) (s0 : Nat → Int32) (hb : b ≤ 2 ^ 28) (I : PSt → Prop) (hI : ∀ p, I p → pfGo n p = true → mwOk tx n p ∧ I (pf1 tx n p)) : ∀ (m : Nat) (p : PSt) (q : MSt), I p → mAll b s0 p q → mAll b s0 (mwN tx n m p q).1 (mwN tx n m p q).2
  | 0, p, q, _, h => h
  | m + 1, p, q, hi, h => by
    rw [mwN]
    cases hg : pfGo n p with
    | false => rw [if_neg (by decide)]; exact h
    | true =>
      rw [if_pos rfl]
      obtain ⟨h1, h2⟩ := hI p hi hg
      exact mAll_N tx n b s0 hb I hI m _ _ h2 (mAll_1 tx n b s0 p q hb h h1 hg)


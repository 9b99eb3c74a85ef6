theorem cT_end {cod : Nat → Int32} {n a : Nat} (h : n ≤ a) : cT cod n a = 0 := by rw [cT, cdA, if_neg (by omega)]; rfl
theorem cT_in {cod : Nat → Int32} {n a : Nat} (h : a < n) : cT cod n a = (cod a).toInt := by rw [cT, cdA, if_pos h]
theorem cmpl_no {n : Nat} {r : Nat × Int32 × Int32 × Int32} (h : r.1 ≠ n ∨ ¬ (r.2.1 = 3 ∨ r.2.1 = 2)) : cmpl n r = false := by
  rw [cmpl, decide_eq_false_iff_not]
  exact fun z => h.elim (fun h => h z.1) (fun h => h z.2.2)
/-- both readers read alike -/
theorem rd_iw (cod : Nat → Int32) (n : Nat) (hc : ∀ j, j < n → 33 ≤ (cod j).toInt) : ∀ (m a o : Nat) (e : Bool) (pt nm aw fig : Int32), a ≤ n → n < a + m → o ≤ 3 → bdy cod n a e aw fig → (iwN cod n m a o e pt nm).2.1 = (rdN cod (n - a) a (aw, nI o, fig)).1 ∧ (iwN cod n m a o e pt nm).1 = cmpl n (rdN cod (n - a) a (aw, nI o, fig)) := by
  intro m
  induction m with
  | zero => intro a o e pt nm aw fig h1 h2; omega
  | succ m ih =>
    intro a o e pt nm aw fig h1 h2 ho hb
    rw [iwN]
    have e0 := cd_eq (tx := cod) (n := n) (a := a) (N := 0) (c := 0) rfl
    have e40 := cd_eq (tx := cod) (n := n) (a := a) (N := 40) (c := 40) rfl
    have e41 := cd_eq (tx := cod) (n := n) (a := a) (N := 41) (c := 41) rfl
    by_cases ha : a < n
    · have hcT := cT_in (cod := cod) (n := n) ha
      have h33 := hc a ha
      obtain ⟨b40, b41, b41n, b43, b107, b108, bx⟩ := bdy_step hb ha o ho
      rw [RD_step cod n a _ ha]
      simp only
      have n0 : ¬ cdA cod n a = 0 := fun z => by have := e0.mp z; omega
      by_cases c40 : cT cod n a = 40
      · rw [b40 c40]
        by_cases h3 : o < 3
        · rw [if_pos ⟨h3, e40.mpr c40⟩, if_pos h3, if_neg (show ¬ (0 : Int32) = 6 by decide)]
          exact ih (a + 1) (o + 1) true pt nm 0 fig (by omega) (by omega) (by omega) (Or.inl ⟨rfl, rfl⟩)
        · have n41 : ¬ cdA cod n a = 41 := fun z => by have := e41.mp z; omega
          rw [if_neg (fun z => h3 z.1), if_neg (fun z => n41 z.2.2), if_neg n0, if_neg h3, if_pos rfl]
          have hr : rpM cod n a nm = (false, a, -1) := by
            rcases rpM_spec cod n a nm with ⟨z, -⟩ | ⟨z, -⟩ | ⟨z, -⟩ | ⟨-, z⟩
            · omega
            · omega
            · omega
            · exact z
          rw [hr, if_neg (show ¬ (false, a, (-1 : Int32)).1 = true from fun z => by cases z)]
          exact ⟨rfl, (cmpl_no (Or.inl (by simp only; omega))).symm⟩
      rw [if_neg (fun z => c40 (e40.mp z.2))]
      by_cases c41 : cT cod n a = 41
      · by_cases hq : 0 < o ∧ e = false
        · rw [if_pos ⟨hq.1, hq.2, e41.mpr c41⟩, b41 c41 hq.1 hq.2, if_neg (show ¬ (5 : Int32) = 6 by decide)]
          have hf := fgM_spec cod n (a + 1) 2 9 (by omega) (by omega)
          rw [show nI 2 = 2 from rfl, show nI 9 = 9 from rfl] at hf
          by_cases hn : a + 1 < n
          · rw [RD_step cod n (a + 1) _ hn]
            simp only
            have hw : awB 5 (nI (o - 1)) fig (cod (a + 1)) = (if btw (cod (a + 1)) 50 57 = true then 3 else 6, nI (o - 1), fig) := rfl
            rw [hw]
            have hbt := btw_iff (x := cod (a + 1)) (A := 50) (B := 57) (a := 50) (b := 57) rfl rfl
            rw [← cT_in (cod := cod) hn] at hbt
            rcases hf with ⟨f1, f2, f3⟩ | ⟨k, k1, k2, k3, k4, k5⟩
            · rw [f1, f3, if_pos rfl, if_neg (show ¬ btw (cod (a + 1)) 50 57 = true from fun z => f2 (by have := hbt.mp z; omega)), if_pos rfl]
              exact ⟨rfl, (cmpl_no (Or.inl (by simp only; omega))).symm⟩
            · rw [k4, k5, if_neg (ne_m1 k (by omega)), if_pos (hbt.mpr (by omega)), if_neg (show ¬ (3 : Int32) = 6 by decide)]
              have hi := ih (a + 1 + 1) (o - 1) e pt nm 3 fig (by omega) (by omega) (by omega) (Or.inr (Or.inl ⟨hq.2, rfl⟩))
              exact hi
          · obtain rfl : n = a + 1 := by omega
            rw [RD_end]
            have hz := cT_end (cod := cod) (n := a + 1) (a := a + 1) (Nat.le_refl _)
            rcases hf with ⟨f1, f2, f3⟩ | ⟨k, k1, k2, k3, k4, k5⟩
            · rw [f1, f3, if_pos rfl]
              exact ⟨rfl, (cmpl_no (Or.inr (by simp only; decide))).symm⟩
            · omega
        · have hx := b41n c41 hq
          rw [if_neg (fun z => hq ⟨z.1, z.2.1⟩), if_neg n0, if_pos hx]
          have hr : rpM cod n a nm = (false, a, -1) := by
            rcases rpM_spec cod n a nm with ⟨z, -⟩ | ⟨z, -⟩ | ⟨z, -⟩ | ⟨-, z⟩
            · omega
            · omega
            · omega
            · exact z
          rw [hr, if_neg (show ¬ (false, a, (-1 : Int32)).1 = true from fun z => by cases z)]
          exact ⟨rfl, (cmpl_no (Or.inl (by simp only; omega))).symm⟩
      rw [if_neg (fun z => c41 (e41.mp z.2.2)), if_neg n0]
      rcases rpM_spec cod n a nm with ⟨c8, hr⟩ | ⟨c7, hr⟩ | ⟨c3, hr⟩ | ⟨⟨c8, c7, c3, c5⟩, hr⟩
      · rw [hr, b108 c8, if_pos rfl, if_neg (show ¬ (3 : Int32) = 6 by decide)]
        exact ih (a + 1) o false _ _ 3 fig (by omega) (by omega) ho (Or.inr (Or.inl ⟨rfl, rfl⟩))
      · rw [b107 c7, if_neg (show ¬ (4 : Int32) = 6 by decide)]
        by_cases hn : a + 1 < n
        · rw [RD_step cod n (a + 1) _ hn]
          simp only
          have hw : awB 4 (nI o) fig (cod (a + 1)) = (if btw (cod (a + 1)) 48 52 = true then 3 else 6, nI o, fig) := rfl
          rw [hw]
          have hbt := btw_iff (x := cod (a + 1)) (A := 48) (B := 52) (a := 48) (b := 52) rfl rfl
          rw [← cT_in (cod := cod) hn] at hbt
          rcases hr with ⟨f2, hr⟩ | ⟨k, k1, k2, hr⟩
          · rw [hr, if_neg (show ¬ (false, a + 1, (-1 : Int32)).1 = true from fun z => by cases z), if_neg (fun z => f2 (hbt.mp z)), if_pos rfl]
            exact ⟨rfl, (cmpl_no (Or.inl (by simp only; omega))).symm⟩
          · rw [hr, if_pos rfl, if_pos (hbt.mpr (by omega)), if_neg (show ¬ (3 : Int32) = 6 by decide)]
            exact ih (a + 2) o false _ _ 3 fig (by omega) (by omega) ho (Or.inr (Or.inl ⟨rfl, rfl⟩))
        · obtain rfl : n = a + 1 := by omega
          rw [RD_end]
          have hz := cT_end (cod := cod) (n := a + 1) (a := a + 1) (Nat.le_refl _)
          rcases hr with ⟨f2, hr⟩ | ⟨k, k1, k2, hr⟩
          · rw [hr, if_neg (show ¬ (false, a + 1, (-1 : Int32)).1 = true from fun z => by cases z)]
            exact ⟨rfl, (cmpl_no (Or.inr (by simp only; decide))).symm⟩
          · omega
      · rw [b43 c3, if_neg (show ¬ (1 : Int32) = 6 by decide)]
        by_cases hn : a + 1 < n
        · rw [RD_step cod n (a + 1) _ hn]
          simp only
          have hw : awB 1 (nI o) fig (cod (a + 1)) = (if btw (cod (a + 1)) 49 57 = true then 2 else 6, nI o, cod (a + 1) - 48) := rfl
          rw [hw]
          have hbt := btw_iff (x := cod (a + 1)) (A := 49) (B := 57) (a := 49) (b := 57) rfl rfl
          rw [← cT_in (cod := cod) hn] at hbt
          rcases hr with ⟨f2, hr⟩ | ⟨f, f1, f2, f3, hr⟩
          · rw [hr, if_neg (show ¬ (false, a + 1, (-1 : Int32)).1 = true from fun z => by cases z), if_neg (fun z => f2 (hbt.mp z)), if_pos rfl]
            exact ⟨rfl, (cmpl_no (Or.inl (by simp only; omega))).symm⟩
          · have hfi : cod (a + 1) - 48 = nI f := by
              rw [cT_in hn] at f3
              rw [← Int32.toInt_inj, sub48 (by omega), nI_toInt (by omega)]; omega
            rw [if_pos (hbt.mpr (by omega)), if_neg (show ¬ (2 : Int32) = 6 by decide), hfi]
            rcases hr with ⟨g1, hr⟩ | ⟨g, g1, g2, g3, hr⟩
            · rw [hr, if_pos rfl]
              exact ih (a + 2) o false _ _ 2 (nI f) (by omega) (by omega) ho (Or.inr (Or.inr ⟨rfl, rfl, f, f1, f2, rfl, g1⟩))
            · have hn2 : a + 1 + 1 < n := by
                rcases Nat.lt_or_ge (a + 2) n with z | z
                · exact z
                · have := cT_end (cod := cod) z; omega
              rw [hr, if_pos rfl, RD_step cod n (a + 1 + 1) _ hn2]
              simp only
              have g2' : (cod (a + 1 + 1)).toInt = 48 + (g : Int) := by rw [← cT_in (cod := cod) hn2]; exact g2
              have hw2 : awB 2 (nI o) (nI f) (cod (a + 1 + 1)) = (3, nI o, nI f) := by
                rw [awB, if_neg (by decide), if_pos rfl, if_pos ((btw_iff (A := 48) (B := 57) (a := 48) (b := 57) rfl rfl).mpr (by omega)), if_pos ((tn60 f g f2 g1 _ g2').mpr g3)]
              rw [hw2, if_neg (show ¬ (3 : Int32) = 6 by decide)]
              exact ih (a + 3) o false _ _ 3 (nI f) (by omega) (by omega) ho (Or.inr (Or.inl ⟨rfl, rfl⟩))
        · obtain rfl : n = a + 1 := by omega
          rw [RD_end]
          have hz := cT_end (cod := cod) (n := a + 1) (a := a + 1) (Nat.le_refl _)
          rcases hr with ⟨f2, hr⟩ | ⟨f, f1, f2, f3, hr⟩
          · rw [hr, if_neg (show ¬ (false, a + 1, (-1 : Int32)).1 = true from fun z => by cases z)]
            exact ⟨rfl, (cmpl_no (Or.inr (by simp only; decide))).symm⟩
          · omega
      · have hx := bx c40 c41 c3 c5 c7 c8
        rw [hr, if_pos hx, if_neg (show ¬ (false, a, (-1 : Int32)).1 = true from fun z => by cases z)]
        exact ⟨rfl, (cmpl_no (Or.inl (by simp only; omega))).symm⟩
    · obtain rfl : n = a := by omega
      have hz := cT_end (cod := cod) (n := n) (a := n) (Nat.le_refl _)
      rw [if_neg (fun z => by have := e40.mp z.2; omega), if_neg (fun z => by have := e41.mp z.2.2; omega), if_pos (e0.mpr hz), RD_end]
      refine ⟨rfl, ?_⟩
      rw [cmpl]
      simp only
      have ho0 : nI o = 0 ↔ o = 0 := by rw [show (0 : Int32) = nI 0 from rfl]; exact nI_eq (by omega) (by omega)
      rcases hb with ⟨rfl, rfl⟩ | ⟨rfl, rfl⟩ | ⟨rfl, rfl, -⟩
      · rw [decide_eq_false (fun z => by cases z.1), decide_eq_false (fun z => by have := z.2.2; revert this; decide)]
      · rw [decide_eq_decide]
        exact ⟨fun z => ⟨trivial, ho0.mpr z.2, Or.inl rfl⟩, fun z => ⟨rfl, ho0.mp z.2.1⟩⟩
      · rw [decide_eq_decide]
        exact ⟨fun z => ⟨trivial, ho0.mpr z.2, Or.inr rfl⟩, fun z => ⟨rfl, ho0.mp z.2.1⟩⟩
/-- the first error and whether the text is a work: the same for both -/
theorem rd_iwG (cod : Nat → Int32) (n : Nat) (hc : ∀ j, j < n → 33 ≤ (cod j).toInt) (pt nm fig : Int32) : (iwG cod n pt nm).2.1 = (rdN cod n 0 (0, 0, fig)).1 ∧ (iwG cod n pt nm).1 = cmpl n (rdN cod n 0 (0, 0, fig)) := by
  have := rd_iw cod n hc (n + 1) 0 0 true pt nm 0 fig (by omega) (by omega) (by omega) (Or.inl ⟨rfl, rfl⟩)
  exact this


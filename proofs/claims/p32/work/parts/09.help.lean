def mixf {α : Type} (k : Nat) (g f : Nat → α) : Nat → α := fun j => if j < k then g j else f j
theorem mixf_0 {α : Type} (g f : Nat → α) : mixf 0 g f = f := by funext j; simp [mixf]
theorem mixf_at {α : Type} (k : Nat) (g f : Nat → α) : mixf k g f k = f k := by simp [mixf]
theorem mixf_in {α : Type} {k j : Nat} (g f : Nat → α) (h : j < k) : mixf k g f j = g j := by simp [mixf, h]
theorem mixf_up {α : Type} (k : Nat) (g f : Nat → α) : (fun j => if j = k then g k else mixf k g f j) = mixf (k + 1) g f := by
  funext j
  simp only [mixf]
  by_cases h : j = k
  · subst h; simp
  · by_cases h2 : j < k
    · rw [if_neg h, if_pos h2, if_pos (by omega)]
    · rw [if_neg h, if_neg h2, if_neg (by omega)]
theorem mixf_upd (k : Nat) (g f : Nat → Int32) : upd (mixf k g f) k (g k) = mixf (k + 1) g f := by
  rw [← mixf_up]; rfl
theorem mixf_upd2 {k : Nat} {g f : Nat → Int32} {v : Int32} (h : v = g k) : upd (mixf k g f) k v = mixf (k + 1) g f := by
  rw [h, mixf_upd]
theorem mixf_skip {α : Type} {k : Nat} {g f : Nat → α} (h : g k = f k) : mixf (k + 1) g f = mixf k g f := by
  funext j
  simp only [mixf]
  by_cases h1 : j = k
  · subst h1; simp [h]
  · by_cases h2 : j < k
    · rw [if_pos h2, if_pos (by omega)]
    · rw [if_neg h2, if_neg (by omega)]
theorem mixf_b2i (k : Nat) (g f : Nat → Bool) : upd (fun j => b2i (mixf k g f j)) k (b2i (g k)) = fun j => b2i (mixf (k + 1) g f j) := by
  rw [b2i_upd, ← mixf_up]; rfl
def sumf (f : Nat → Int32) : Nat → Int32
  | 0 => 0
  | n + 1 => sumf f n + f n
theorem lvs_n {lv : List (Nat × Value)} : lvs lv [] := trivial
theorem lvs_c {lv t : List (Nat × Value)} {q : Nat × Value} (h : lgf lv q.1 = some q.2) (k : lvs lv t) : lvs lv (q :: t) := ⟨h, k⟩
theorem nI_geF {N : Int32} {n k : Nat} (hN : N = nI n) (h : k < n) (hb : n < 2 ^ 31) : ¬ N ≤ nI k := by rw [hN]; exact nI_ge h hb
theorem nI_geT {N : Int32} {n k : Nat} (hN : N = nI n) (h : n ≤ k) (hb : k < 2 ^ 31) : N ≤ nI k := by rw [hN]; exact nI_le h hb
theorem arr_eq (cA : ClassId) (n : Nat) {f g : Nat → Int32} (h : ∀ j, j < n → f j = g j) : vp_cell cA (n, .inl f) = vp_cell cA (n, .inl g) := by
  rw [vp_cell_i, vp_cell_i]
  simp only [arrV]
  congr 1
  apply Array.ext
  · simp
  · intro i h1 h2
    simp only [Array.getElem_ofFn]
    rw [h i (by simpa using h1)]
/-- an array of whole numbers is what it holds in its range -/
theorem r_arr {own : String} {cc : ByteArray} {nL : Nat} {ret : Option FieldType} {rm : Room} {r : Option Value} {w1 : List va_E} {B : KT} (M : MF own cc nL ret rm r w1 B) {pc : Nat} {lv : List (Nat × Value)} {st : List Value} {w : List va_E} (q : Nat) {t n : Nat} {f : Nat → Int32} (g : Nat → Int32) (he : w[q]? = some (.inl (t, n, .inl f))) (h : ∀ j, j < n → f j = g j) (k : B pc lv st (w.set q (.inl (t, n, .inl g)))) : B pc lv st w := by
  obtain ⟨p, l, e, s, m, args, below, meth, c, D, dA, ad, A, rfl, hx, hb, hml, hr, hts, hown, hlocks, hK, hA⟩ := M
  intro H locs ls hl hP hD hS
  have hw : (nw dA ad w).set q (ad q, .inl (dA t, n, .inl g)) = nw dA ad (w.set q (.inl (t, n, .inl g))) := by
    rw [← nw_set]; rfl
  have h1 := nw_get (dA := dA) (ad := ad) he
  refine k H locs ls hl (by rw [← hw]; exact hP.set hD h1 (by have h2 := hP q _ h1; simp only [va_at] at h2 ⊢; rw [← arr_eq _ n h]; exact h2) (fun _ _ => rfl)) (by rw [← hw]; exact hD.set h1) hS


theorem Rp_la {s : Nat → Int32} {d : SD} (hO : SOk d) (hR : Rp s d) (v : Int32) : Rp (upd s 80 v) (laD d v) := by
  obtain ⟨r1, r2, r3, r4, r5, r6, r7, r8, r9, r10, r11, r12, r13⟩ := hR
  obtain ⟨c, hc, hc2⟩ := hO.2
  refine ⟨fun j h5 => ?_, fun j h5 => ?_, fun j h5 => ?_, fun j h5 k hk => ?_, ?_, ?_, ?_, ?_, ?_, ?_, ?_, fun k hk => ?_, fun k hk => ?_⟩
  · rw [upd_ne (by omega)]; exact r1 j h5
  · rw [upd_ne (by omega)]; exact r2 j h5
  · rw [upd_ne (by omega)]; exact r3 j h5
  · obtain ⟨m, b, h1, h2, h3, -⟩ := hO.1 j h5
    have hk2 : k < (sTe d j).toNatClampNeg := hk
    rw [h3, cl5 m (by omega)] at hk2
    rw [upd_ne (by omega)]; exact r4 j h5 k hk
  · rw [upd_ne (by omega)]; exact r5
  · rw [upd_ne (by omega)]; exact r6
  · rw [upd_ne (by omega)]; exact r7
  · rw [upd_ne (by omega)]; exact r8
  · rw [upd_ne (by omega)]; exact r9
  · rw [upd_eq]; rfl
  · rw [upd_ne (by omega)]; exact r11
  · have hk2 : k < 5 * (sSc d).toNatClampNeg := hk
    rw [hc2, cl5 c (by omega)] at hk2
    rw [upd_ne (by omega)]; exact r12 k hk
  · rw [upd_ne (by omega)]; exact r13 k hk
theorem Rp_li {s : Nat → Int32} {d : SD} (hO : SOk d) (hR : Rp s d) (b : Bool) : Rp (upd s 77 (b2i b)) (liD d b) := by
  obtain ⟨r1, r2, r3, r4, r5, r6, r7, r8, r9, r10, r11, r12, r13⟩ := hR
  obtain ⟨c, hc, hc2⟩ := hO.2
  refine ⟨fun j h5 => ?_, fun j h5 => ?_, fun j h5 => ?_, fun j h5 k hk => ?_, ?_, ?_, ?_, ?_, ?_, ?_, ?_, fun k hk => ?_, fun k hk => ?_⟩
  · rw [upd_ne (by omega)]; exact r1 j h5
  · rw [upd_ne (by omega)]; exact r2 j h5
  · rw [upd_ne (by omega)]; exact r3 j h5
  · obtain ⟨m, b, h1, h2, h3, -⟩ := hO.1 j h5
    have hk2 : k < (sTe d j).toNatClampNeg := hk
    rw [h3, cl5 m (by omega)] at hk2
    rw [upd_ne (by omega)]; exact r4 j h5 k hk
  · rw [upd_ne (by omega)]; exact r5
  · rw [upd_ne (by omega)]; exact r6
  · rw [upd_eq]; rfl
  · rw [upd_ne (by omega)]; exact r8
  · rw [upd_ne (by omega)]; exact r9
  · rw [upd_ne (by omega)]; exact r10
  · rw [upd_ne (by omega)]; exact r11
  · have hk2 : k < 5 * (sSc d).toNatClampNeg := hk
    rw [hc2, cl5 c (by omega)] at hk2
    rw [upd_ne (by omega)]; exact r12 k hk
  · rw [upd_ne (by omega)]; exact r13 k hk
theorem Rp_k {s : Nat → Int32} {d : SD} (hO : SOk d) (hR : Rp s d) (w : Nat) (hw : w < 5) : Rp (upd s (10 + w) (1 - s (10 + w))) (kD d w) := by
  obtain ⟨r1, r2, r3, r4, r5, r6, r7, r8, r9, r10, r11, r12, r13⟩ := hR
  obtain ⟨c, hc, hc2⟩ := hO.2
  refine ⟨fun j h5 => ?_, fun j h5 => ?_, fun j h5 => ?_, fun j h5 k hk => ?_, ?_, ?_, ?_, ?_, ?_, ?_, ?_, fun k hk => ?_, fun k hk => ?_⟩
  · rw [upd_ne (by omega)]; exact r1 j h5
  · rw [upd_ne (by omega)]; exact r2 j h5
  · by_cases e : j = w
    · subst e
      show upd s (10 + j) (1 - s (10 + j)) (10 + j) = b2i (va_up (sLo d) j (!(sLo d) j) j)
      rw [upd_eq, r3 j h5, show va_up (sLo d) j (!(sLo d) j) j = !(sLo d) j from by simp [va_up]]
      cases sLo d j <;> rfl
    · show _ = b2i (va_up (sLo d) w (!(sLo d) w) j)
      rw [upd_ne (by omega), show va_up (sLo d) w (!(sLo d) w) j = sLo d j from by simp [va_up, e]]
      exact r3 j h5
  · obtain ⟨m, b, h1, h2, h3, -⟩ := hO.1 j h5
    have hk2 : k < (sTe d j).toNatClampNeg := hk
    rw [h3, cl5 m (by omega)] at hk2
    rw [upd_ne (by omega)]; exact r4 j h5 k hk
  · rw [upd_ne (by omega)]; exact r5
  · rw [upd_ne (by omega)]; exact r6
  · rw [upd_ne (by omega)]; exact r7
  · rw [upd_ne (by omega)]; exact r8
  · rw [upd_ne (by omega)]; exact r9
  · rw [upd_ne (by omega)]; exact r10
  · rw [upd_ne (by omega)]; exact r11
  · have hk2 : k < 5 * (sSc d).toNatClampNeg := hk
    rw [hc2, cl5 c (by omega)] at hk2
    rw [upd_ne (by omega)]; exact r12 k hk
  · rw [upd_ne (by omega)]; exact r13 k hk
theorem tuG_la (y v : Int32) : ∀ (m : Nat) (d : SD), tuG y m (laD d v) = ((tuG y m d).1, laD (tuG y m d).2 v)
  | 0, d => rfl
  | m + 1, d => by
    rw [tuG, tuG]
    by_cases h : whyD d y = 0
    · rw [if_pos h, if_pos (show whyD (laD d v) y = 0 from h), show stepD (laD d v) y = laD (stepD d y) v from rfl, tuG_la y v m (stepD d y)]
    · rw [if_neg h, if_neg (show ¬ whyD (laD d v) y = 0 from h)]
/-- the class's steps of a part are the model's -/
theorem tnG_tuG (y : Int32) : ∀ (w u : Nat) (d : SD), u ≤ 2000 → tnG y w d (nI u) = ((tuG y (if w < 2000 - u then w else 2000 - u) d).2, nI (u + (tuG y (if w < 2000 - u then w else 2000 - u) d).1), latD y w (2000 - u) d)
  | 0, u, d, hu => by
    rw [tnG, latD]
    have e : (if 0 < 2000 - u then 0 else 2000 - u) = 0 := by split <;> omega
    rw [e, tuG, if_pos rfl]; rfl
  | w + 1, u, d, hu => by
    rw [tnG]
    by_cases hl : u < 2000
    · rw [if_pos (show nI u < 2000 from (nI_ltI (b := 2000) (by omega) (by omega)).mpr hl)]
      obtain ⟨l, hl2⟩ : ∃ l, 2000 - u = l + 1 := ⟨2000 - u - 1, by omega⟩
      have e : (if w + 1 < 2000 - u then w + 1 else 2000 - u) = (if w < 2000 - (u + 1) then w else 2000 - (u + 1)) + 1 := by split <;> split <;> omega
      rw [latD, e, tuG]
      by_cases h : whyD d y = 0
      · rw [if_pos h, if_pos h, show nI u + 1 = nI (u + 1) from nI_1 u, tnG_tuG y w (u + 1) (stepD d y) (by omega)]
        simp only
        rw [latD]
        have a1 : u + 1 + (tuG y (if w < 2000 - (u + 1) then w else 2000 - (u + 1)) (stepD d y)).1 = u + ((tuG y (if w < 2000 - (u + 1) then w else 2000 - (u + 1)) (stepD d y)).1 + 1) := by omega
        rw [a1]
        generalize tuG y (if w < 2000 - (u + 1) then w else 2000 - (u + 1)) (stepD d y) = q
        have a2 : (if q.1 + 1 = w + 1 then (0 : Int32) else if q.1 + 1 = 2000 - u then 5 else whyD q.2 y) = (if q.1 = w then 0 else if q.1 = 2000 - (u + 1) then 5 else whyD q.2 y) := by
          by_cases b1 : q.1 = w
          · rw [if_pos b1, if_pos (by omega)]
          · rw [if_neg b1, if_neg (by omega)]
            by_cases b2 : q.1 = 2000 - (u + 1)
            · rw [if_pos b2, if_pos (by omega)]
            · rw [if_neg b2, if_neg (by omega)]
        rw [a2]
      · rw [if_neg h, if_neg h]
        simp only
        rw [if_neg (show ¬ 0 = w + 1 by omega), if_neg (show ¬ 0 = 2000 - u by omega)]; rfl
    · obtain rfl : u = 2000 := by omega
      rw [if_neg (show ¬ nI 2000 < 2000 by decide), if_neg (show ¬ (5 : Int32) = 0 by decide), latD, if_neg (show ¬ w + 1 < 2000 - 2000 by omega), show 2000 - 2000 = 0 from rfl, tuG, if_neg (show ¬ 0 = w + 1 by omega), if_pos rfl]; rfl
/-- the rest of the model's state while it works: begins, times, part, number, row -/
abbrev MSt : Type := (Nat → Int32) × (Nat → Int32) × Int32 × Int32 × (Nat → Int32)
/-- one part done by the model -/
def mw1 (tx : Nat → Int32) (n : Nat) (p : PSt) (q : MSt) : MSt :=
  if tx p.1 = 40 then (upd q.1 p.2.1 (nI (p.1 + 1)), upd q.2.1 p.2.1 0, q.2.2)
  else if tx p.1 = 41 then (q.1, upd q.2.1 (p.2.1 - 1) (q.2.1 (p.2.1 - 1) + 1), q.2.2)
  else if tx p.1 = 108 then (q.1, q.2.1, 108, q.2.2.2.1, upd q.2.2.2.2 77 1)
  else if tx p.1 = 107 then (q.1, q.2.1, 107, nI (fgN tx n (p.1 + 1)), upd q.2.2.2.2 (10 + fgN tx n (p.1 + 1)) (1 - q.2.2.2.2 (10 + fgN tx n (p.1 + 1))))
  else (q.1, q.2.1, tx p.1, wNI tx n p.1, upd (stIt (if tx p.1 = 43 then 1 else -1) (tuG (if tx p.1 = 43 then 1 else -1) (if (wNI tx n p.1).toNatClampNeg < 2000 - p.2.2.2.2.1.toNatClampNeg then (wNI tx n p.1).toNatClampNeg else 2000 - p.2.2.2.2.1.toNatClampNeg) p.2.2.2.2.2.2).1 q.2.2.2.2) 80 (latD (if tx p.1 = 43 then 1 else -1) (wNI tx n p.1).toNatClampNeg (2000 - p.2.2.2.2.1.toNatClampNeg) p.2.2.2.2.2.2))
/-- so many parts at most -/
def mwN (tx : Nat → Int32) (n : Nat) : Nat → PSt → MSt → PSt × MSt
  | 0, p, q => (p, q)
  | m + 1, p, q => if pfGo n p = true then mwN tx n m (pf1 tx n p) (mw1 tx n p q) else (p, q)
theorem mwN_1 (tx : Nat → Int32) (n : Nat) : ∀ (m : Nat) (p : PSt) (q : MSt), (mwN tx n m p q).1 = pfN tx n m p
  | 0, p, q => rfl
  | m + 1, p, q => by
    rw [mwN, pfN]
    split
    · exact mwN_1 tx n m _ _
    · rfl
/-- the model's state is the performer's -/
def mRel (p : PSt) (q : MSt) : Prop := (∀ j, j < p.2.1 → q.1 j = nI (p.2.2.1 j) ∧ q.2.1 j = nI (p.2.2.2.1 j)) ∧ p.2.1 ≤ 3 ∧ Rp q.2.2.2.2 (laD p.2.2.2.2.2.2 p.2.2.2.2.2.1) ∧ SOk p.2.2.2.2.2.2 ∧ ∃ u : Nat, u ≤ 2000 ∧ p.2.2.2.2.1 = nI u
/-- what must hold for the model to do the part at a place -/
def mwOk (tx : Nat → Int32) (n : Nat) (p : PSt) : Prop :=
  (tx p.1 = 40 → p.2.1 < 3) ∧
  (tx p.1 = 41 → 1 ≤ p.2.1 ∧ p.2.2.1 (p.2.1 - 1) < 100 ∧ p.2.2.1 (p.2.1 - 1) < p.1 ∧ p.2.2.2.1 (p.2.1 - 1) < 100 ∧ fgM tx n (p.1 + 1) 2 9 = nI (fgN tx n (p.1 + 1)) ∧ fgN tx n (p.1 + 1) < 100 ∧ fgP tx n (p.1 + 1) 2 9 = p.1 + 2) ∧
  (tx p.1 = 107 → fgN tx n (p.1 + 1) < 5 ∧ ∀ nm, (rpM tx n p.1 nm).2 = (p.1 + 2, nI (fgN tx n (p.1 + 1)))) ∧
  (tx p.1 = 43 ∨ tx p.1 = 45 → (∃ w : Nat, w < 100 ∧ wNI tx n p.1 = nI w) ∧ ∀ nm, (rpM tx n p.1 nm).2 = (if fgA (cdA tx n (p.1 + 2)) = -1 then p.1 + 2 else p.1 + 3, wNI tx n p.1)) ∧
  (tx p.1 = 40 ∨ tx p.1 = 41 ∨ tx p.1 = 107 ∨ tx p.1 = 108 ∨ tx p.1 = 43 ∨ tx p.1 = 45)
theorem mRel_1 (tx : Nat → Int32) (n : Nat) (p : PSt) (q : MSt) (hr : mRel p q) (hok : mwOk tx n p) (hg : pfGo n p = true) : mRel (pf1 tx n p) (mw1 tx n p q) := by
  obtain ⟨a, o, sts, td, z, en, d⟩ := p
  obtain ⟨bg, tm, pt, nm, s⟩ := q
  obtain ⟨hb, ho, hR, hO, u, hu, hz⟩ := hr
  obtain ⟨h40, h41, h107, h43, hall⟩ := hok
  rw [pfGo, decide_eq_true_iff] at hg
  simp only at hb ho hR hO hu hz h40 h41 h107 h43 hall hg
  obtain ⟨han, rfl⟩ := hg
  subst hz
  have hO2 : SOk (laD d 0) := hO
  simp only [pf1, mw1]
  by_cases c3 : tx a = 43 ∨ tx a = 45
  · have n40 : ¬ tx a = 40 := fun e => by rw [e] at c3; exact absurd c3 (by decide)
    have n41 : ¬ tx a = 41 := fun e => by rw [e] at c3; exact absurd c3 (by decide)
    have n108 : ¬ tx a = 108 := fun e => by rw [e] at c3; exact absurd c3 (by decide)
    have n107 : ¬ tx a = 107 := fun e => by rw [e] at c3; exact absurd c3 (by decide)
    rw [if_pos c3, if_neg n40, if_neg n41, if_neg n108, if_neg n107]
    obtain ⟨⟨w, hw, hwe⟩, -⟩ := h43 c3
    have cu : (nI u).toNatClampNeg = u := nI_clamp (by omega)
    have cw : (nI w).toNatClampNeg = w := nI_clamp (by omega)
    rw [hwe, cw, cu, tnG_tuG _ w u d hu]
    generalize (if tx a = 43 then (1 : Int32) else -1) = y
    have hle := tuG_le y (if w < 2000 - u then w else 2000 - u) d
    have hI := Rp_its (x := y) (if w < 2000 - u then w else 2000 - u) s (laD d 0) hR hO
    rw [tuG_la] at hI
    generalize hq : (if w < 2000 - u then w else 2000 - u) = k at hI hle ⊢
    have hk : k ≤ 2000 - u := by rw [← hq]; split <;> omega
    refine ⟨hb, ho, ?_, hI.2, u + (tuG y k d).1, by omega, rfl⟩
    exact Rp_la (d := laD (tuG y k d).2 0) hI.2 hI.1 (latD y w (2000 - u) d)
  rw [if_neg c3]
  by_cases c7 : tx a = 107
  · have n40 : ¬ tx a = 40 := fun e => by rw [e] at c7; exact absurd c7 (by decide)
    have n41 : ¬ tx a = 41 := fun e => by rw [e] at c7; exact absurd c7 (by decide)
    have n108 : ¬ tx a = 108 := fun e => by rw [e] at c7; exact absurd c7 (by decide)
    rw [if_pos c7, if_neg n40, if_neg n41, if_neg n108, if_pos c7]
    exact ⟨hb, ho, Rp_k (d := laD d 0) hO2 hR _ (h107 c7).1, hO, u, hu, rfl⟩
  rw [if_neg c7]
  by_cases c8 : tx a = 108
  · have n40 : ¬ tx a = 40 := fun e => by rw [e] at c8; exact absurd c8 (by decide)
    have n41 : ¬ tx a = 41 := fun e => by rw [e] at c8; exact absurd c8 (by decide)
    rw [if_pos c8, if_neg n40, if_neg n41, if_pos c8]
    exact ⟨hb, ho, Rp_li (d := laD d 0) hO2 hR true, hO, u, hu, rfl⟩
  rw [if_neg c8]
  by_cases c0 : tx a = 40
  · rw [if_pos c0, if_pos c0]
    have hlt := h40 c0
    refine ⟨fun j hj => ?_, by simp only; omega, hR, hO, u, hu, rfl⟩
    simp only at hj ⊢
    by_cases e : j = o
    · subst e
      rw [upd_eq, upd_eq, show va_up sts j (a + 1) j = a + 1 from by simp [va_up], show va_up td j 0 j = 0 from by simp [va_up]]
      exact ⟨rfl, rfl⟩
    · rw [upd_ne e, upd_ne e, show va_up sts o (a + 1) j = sts j from by simp [va_up, e], show va_up td o 0 j = td j from by simp [va_up, e]]
      exact hb j (by omega)
  rw [if_neg c0, if_neg c0]
  have c1 : tx a = 41 := by rcases hall with h | h | h | h | h | h <;> (first | exact h | exact absurd h c0 | exact absurd h c7 | exact absurd h c8 | exact absurd (Or.inl h) c3 | exact absurd (Or.inr h) c3)
  rw [if_pos c1]
  obtain ⟨k1, k2, k3, k4, k5, k6, k7⟩ := h41 c1
  have main : ∀ j, j < o → bg j = nI (sts j) ∧ upd tm (o - 1) (tm (o - 1) + 1) j = nI (va_up td (o - 1) (td (o - 1) + 1) j) := fun j hj => by
    refine ⟨(hb j hj).1, ?_⟩
    by_cases e : j = o - 1
    · subst e
      rw [upd_eq, (hb _ hj).2, show va_up td (o - 1) (td (o - 1) + 1) (o - 1) = td (o - 1) + 1 from by simp [va_up]]
      exact nI_1 _
    · rw [upd_ne e, show va_up td (o - 1) (td (o - 1) + 1) j = td j from by simp [va_up, e]]
      exact (hb j hj).2
  split
  · exact ⟨main, ho, hR, hO, u, hu, rfl⟩
  · exact ⟨fun j hj => main j (by simp only at hj; omega), by simp only; omega, hR, hO, u, hu, rfl⟩


theorem add_toInt {a b : Int32} (h1 : -2 ^ 31 ≤ a.toInt + b.toInt) (h2 : a.toInt + b.toInt < 2 ^ 31) : (a + b).toInt = a.toInt + b.toInt := by
  rw [Int32.toInt_add, Int.bmod_eq_of_le (by omega) (by omega)]
/-- the heights that are there -/
def hgO (d : SD) : Prop := ∀ i, i < 60 → ∃ m : Nat, m ≤ 9 ∧ sHe d i = nI m
/-- deeds are small -/
def dbO (b : Nat) (d : SD) : Prop := ∀ w, w < 5 → (-(b : Int) ≤ (sCra d w).toInt ∧ (sCra d w).toInt ≤ b) ∧ (-(b : Int) ≤ (sHa d w).toInt ∧ (sHa d w).toInt ≤ b)
/-- a state as a run leaves it -/
def GOk (b : Nat) (d : SD) : Prop := SOk d ∧ DOk d ∧ alD d = true ∧ hgO d ∧ (∃ m : Nat, m ≤ 9 ∧ sSe d = nI m) ∧ dbO b d
theorem GOk.more {b c : Nat} {d : SD} (h : GOk b d) (hbc : b ≤ c) : GOk c d := by
  obtain ⟨h1, h2, h3, h4, h5, h6⟩ := h
  exact ⟨h1, h2, h3, h4, h5, fun w hw => by have := h6 w hw; omega⟩
theorem hB0_lo (te to : Nat → Int32) (lo lo2 : Nat → Bool) (he : Nat → Int32) (w : Int32) : hB te to lo he w 0 = hB te to lo2 he w 0 := by
  have e : ∀ l : Nat → Bool, (if l w.toNatClampNeg = true then (0 : Int32) else 0) = 0 := fun l => by split <;> rfl
  rw [hB, hB, tpB, tpB, e, e]
theorem fltB_lo (te to : Nat → Int32) (lo lo2 : Nat → Bool) (he : Nat → Int32) (se : Int32) : fltB te to lo he 0 se = fltB te to lo2 he 0 se := by
  rw [fltB, fltB, hB0_lo te to lo lo2, hB0_lo te to lo lo2, hB0_lo te to lo lo2, hB0_lo te to lo lo2, hB0_lo te to lo lo2]
theorem md_md {v d : Int32} (hd : 1 ≤ d.toInt) : md (md v d) d = md v d := by
  rw [← Int32.toInt_inj, md_toInt hd, md_toInt hd, Int.emod_emod_of_dvd _ (Int.dvd_refl _)]
theorem md_id {b m : Nat} (hb : b < m) (hm : m ≤ 12) : md (nI b) (nI m) = nI b := by
  rw [md_nat b m (by omega) (by omega) (by omega), Nat.mod_eq_of_lt hb]
theorem hB_step {te to : Nat → Int32} (lo : Nat → Bool) (he : Nat → Int32) (x : Int32) (hw : whOk te to) (w : Nat) (h5 : w < 5) : hB te (tLk te to lo x) lo he (nI w) 0 = hB te to lo he (nI w) x := by
  obtain ⟨m, b, h1, h2, h3, h4, h6⟩ := hw w h5
  have e : (if lo w = true then (0 : Int32) else 0) = 0 := by split <;> rfl
  have hm : 1 ≤ (nI m).toInt := by rw [nI_toInt (by omega)]; omega
  rw [hB, hB, tpB, tpB, cl5 w (by omega), e, Int32.add_zero, tLk]
  cases hl : lo w
  · rw [if_neg (by decide), if_neg (by decide), Int32.add_zero]
  · rw [if_pos rfl, if_pos rfl, h3, md_md hm]
theorem fltB_step {te to : Nat → Int32} (lo : Nat → Bool) (he : Nat → Int32) (x se : Int32) (hw : whOk te to) : fltB te (tLk te to lo x) lo he 0 se = fltB te to lo he x se := by
  have h : ∀ w, w < 5 → hB te (tLk te to lo x) lo he (nI w) 0 = hB te to lo he (nI w) x := fun w h5 => hB_step lo he x hw w h5
  rw [fltB, fltB]
  have h0 := h 0 (by omega)
  have h1 := h 1 (by omega)
  have h2 := h 2 (by omega)
  have h3 := h 3 (by omega)
  have h4 := h 4 (by omega)
  rw [show nI 0 = 0 from rfl] at h0
  rw [show nI 1 = 1 from rfl] at h1
  rw [show nI 2 = 2 from rfl] at h2
  rw [show nI 3 = 3 from rfl] at h3
  rw [show nI 4 = 4 from rfl] at h4
  rw [h0, h1, h2, h3, h4]
theorem whyD_al {d : SD} {x : Int32} (h : whyD d x = 0) : fltB (sTe d) (sTo d) (sLo d) (sHe d) x (sSe d) = 0 := by
  rw [whyD, whyS] at h
  by_cases e : fltB (sTe d) (sTo d) (sLo d) (sHe d) x (sSe d) = 0
  · exact e
  · rw [if_pos e] at h; exact h
theorem al_iff {d : SD} : alD d = true ↔ fltB (sTe d) (sTo d) (sLo d) (sHe d) 0 (sSe d) = 0 := by rw [alD, decide_eq_true_iff]
theorem GOk_step {b : Nat} {d : SD} {x : Int32} (hb : b ≤ 2 ^ 29) (h : GOk b d) (hx : x = 1 ∨ x = -1) (hw : whyD d x = 0) : GOk (b + 1) (stepD d x) := by
  obtain ⟨h1, h2, h3, h4, h5, h6⟩ := h
  have hxi : x.toInt = 1 ∨ x.toInt = -1 := by rcases hx with rfl | rfl; exact Or.inl (by decide); exact Or.inr (by decide)
  refine ⟨SOk_step h1 x, fun w hw5 => ?_, ?_, h4, h5, fun w hw5 => ?_⟩
  · show md (cLk (sLo d) (sCra d) x w + sHa d w) (sTe d w) = tLk (sTe d) (sTo d) (sLo d) x w
    have hd := h2 w hw5
    obtain ⟨⟨q1, q2⟩, q3, q4⟩ := h6 w hw5
    obtain ⟨m, b', m1, m2, m3, m4, m6⟩ := h1.1 w hw5
    rw [cLk, tLk]
    cases hl : sLo d w
    · rw [if_neg (by decide), if_neg (by decide)]; exact hd
    · rw [if_pos rfl, if_pos rfl]
      have hm : 1 ≤ (sTe d w).toInt := by rw [m3, nI_toInt (by omega)]; omega
      rw [← Int32.toInt_inj, md_toInt hm] at hd
      have t0 : (sTo d w).toInt = (b' : Int) := by rw [m6, nI_toInt (by omega)]
      have a1 : (sCra d w + x).toInt = (sCra d w).toInt + x.toInt := add_toInt (by omega) (by omega)
      have a2 : (sCra d w + x + sHa d w).toInt = (sCra d w + x).toInt + (sHa d w).toInt := add_toInt (by rw [a1]; omega) (by rw [a1]; omega)
      have a3 : (sCra d w + sHa d w).toInt = (sCra d w).toInt + (sHa d w).toInt := add_toInt (by omega) (by omega)
      have a4 : (sTo d w + x).toInt = (sTo d w).toInt + x.toInt := add_toInt (by omega) (by omega)
      rw [← Int32.toInt_inj, md_toInt hm, md_toInt hm, a2, a1, a4, ← hd, a3, Int.emod_add_emod]
      congr 1
      omega
  · rw [al_iff]
    show fltB (sTe d) (tLk (sTe d) (sTo d) (sLo d) x) (sLo d) (sHe d) 0 (sSe d) = 0
    rw [fltB_step (sLo d) (sHe d) x (sSe d) h1.1]
    exact whyD_al hw
  · show (-((b + 1 : Nat) : Int) ≤ (cLk (sLo d) (sCra d) x w).toInt ∧ (cLk (sLo d) (sCra d) x w).toInt ≤ (b + 1 : Nat)) ∧ (-((b + 1 : Nat) : Int) ≤ (sHa d w).toInt ∧ (sHa d w).toInt ≤ (b + 1 : Nat))
    obtain ⟨⟨q1, q2⟩, q3, q4⟩ := h6 w hw5
    rw [cLk]
    cases hl : sLo d w
    · rw [if_neg (by decide)]; omega
    · rw [if_pos rfl]
      have a1 : (sCra d w + x).toInt = (sCra d w).toInt + x.toInt := add_toInt (by omega) (by omega)
      rw [a1]
      omega
theorem GOk_tu {x : Int32} (hx : x = 1 ∨ x = -1) : ∀ (m b : Nat) (d : SD), b + m ≤ 2 ^ 29 → GOk b d → GOk (b + (tuG x m d).1) (tuG x m d).2
  | 0, b, d, _, h => h
  | m + 1, b, d, hb, h => by
    rw [tuG]
    by_cases hw : whyD d x = 0
    · rw [if_pos hw]
      have := GOk_tu hx m (b + 1) (stepD d x) (by omega) (GOk_step (by omega) h hx hw)
      rw [show b + 1 + (tuG x m (stepD d x)).1 = b + ((tuG x m (stepD d x)).1 + 1) by omega] at this
      exact this
    · rw [if_neg hw]; exact h
theorem GOk_li {b : Nat} {d : SD} (h : GOk b d) (x : Bool) : GOk b (liD d x) := h
theorem GOk_la {b : Nat} {d : SD} (h : GOk b d) (x : Int32) : GOk b (laD d x) := h
theorem GOk_st {b : Nat} {d : SD} (h : GOk b d) (j : Nat) : GOk b (stD d j) := h
theorem GOk_k {b : Nat} {d : SD} (h : GOk b d) (w : Nat) : GOk b (kD d w) := by
  obtain ⟨h1, h2, h3, h4, h5, h6⟩ := h
  refine ⟨h1, h2, ?_, h4, h5, h6⟩
  rw [al_iff] at h3 ⊢
  show fltB (sTe d) (sTo d) (va_up (sLo d) w (!(sLo d) w)) (sHe d) 0 (sSe d) = 0
  exact (fltB_lo (sTe d) (sTo d) _ (sLo d) (sHe d) (sSe d)).trans h3
theorem GOk_set {b : Nat} {d : SD} (h : GOk b d) {m : Nat} (hm : m ≤ 9) (hf : alD (seD d (nI m)) = true) : GOk b (seD d (nI m)) := by
  obtain ⟨h1, h2, h3, h4, h5, h6⟩ := h
  exact ⟨h1, h2, hf, h4, ⟨m, hm, rfl⟩, h6⟩
theorem GOk_hand {b : Nat} {d : SD} (hb : b ≤ 2 ^ 29) (h : GOk b d) {w : Nat} (hw5 : w < 5) {y : Int32} (hy1 : 1 ≤ y.toInt) (hy2 : y.toInt ≤ 11) (hf : alD (haD d w y) = true) : GOk (b + 11) (haD d w y) := by
  obtain ⟨h1, h2, h3, h4, h5, h6⟩ := h
  have hW : ∀ j, j < 5 → ∃ m b' : Nat, 2 ≤ m ∧ m ≤ 12 ∧ sTe d j = nI m ∧ b' < m ∧ toH d w y j = nI b' := fun j hj => by
    obtain ⟨m, b', m1, m2, m3, m4, m6⟩ := h1.1 j hj
    by_cases e : j = w
    · subst e
      obtain ⟨t, ht, het⟩ := vp_in_of (md_in (v := sTo d j + y) (d := sTe d j) (n := m) (by rw [m3, nI_toInt (by omega)]) (by omega)) (by omega)
      exact ⟨m, t, m1, m2, m3, ht, by rw [toH, upd_eq, het]⟩
    · exact ⟨m, b', m1, m2, m3, m4, by rw [toH, upd_ne e]; exact m6⟩
  refine ⟨⟨hW, h1.2⟩, fun j hj => ?_, hf, h4, h5, fun j hj => ?_⟩
  · show md (sCra d j + upd (sHa d) w (sHa d w + y) j) (sTe d j) = toH d w y j
    have hd := h2 j hj
    by_cases e : j = w
    · subst e
      obtain ⟨⟨q1, q2⟩, q3, q4⟩ := h6 j hj
      obtain ⟨m, b', m1, m2, m3, m4, m6⟩ := h1.1 j hj
      have hm : 1 ≤ (sTe d j).toInt := by rw [m3, nI_toInt (by omega)]; omega
      have t0 : (sTo d j).toInt = (b' : Int) := by rw [m6, nI_toInt (by omega)]
      rw [toH, upd_eq, upd_eq]
      rw [← Int32.toInt_inj, md_toInt hm] at hd
      have a1 : (sHa d j + y).toInt = (sHa d j).toInt + y.toInt := add_toInt (by omega) (by omega)
      have a2 : (sCra d j + (sHa d j + y)).toInt = (sCra d j).toInt + (sHa d j + y).toInt := add_toInt (by rw [a1]; omega) (by rw [a1]; omega)
      have a3 : (sCra d j + sHa d j).toInt = (sCra d j).toInt + (sHa d j).toInt := add_toInt (by omega) (by omega)
      have a4 : (sTo d j + y).toInt = (sTo d j).toInt + y.toInt := add_toInt (by omega) (by omega)
      rw [← Int32.toInt_inj, md_toInt hm, md_toInt hm, a2, a1, a4, ← hd, a3, Int.emod_add_emod]
      congr 1
      omega
    · rw [toH, upd_ne e, upd_ne e]; exact hd
  · show (-((b + 11 : Nat) : Int) ≤ (sCra d j).toInt ∧ (sCra d j).toInt ≤ (b + 11 : Nat)) ∧ (-((b + 11 : Nat) : Int) ≤ (upd (sHa d) w (sHa d w + y) j).toInt ∧ (upd (sHa d) w (sHa d w + y) j).toInt ≤ (b + 11 : Nat))
    have hj6 := h6 j hj
    by_cases e : j = w
    · subst e
      have a1 : (sHa d j + y).toInt = (sHa d j).toInt + y.toInt := add_toInt (by omega) (by omega)
      rw [upd_eq, a1]
      omega
    · rw [upd_ne e]; omega
theorem GOk_file {b : Nat} {d : SD} (h : GOk b d) {w t m : Nat} (hw5 : w < 5) (ht : t < 12) (hm : m ≤ 9) (hf : alD (fiD d w t (nI m)) = true) : GOk b (fiD d w t (nI m)) := by
  obtain ⟨h1, h2, h3, h4, h5, h6⟩ := h
  refine ⟨h1, h2, hf, fun i hi => ?_, h5, h6⟩
  show ∃ m9 : Nat, m9 ≤ 9 ∧ putH (sHe d) (nI w) (nI t) (nI m) i = nI m9
  rw [putH_at _ w t _ hw5 ht]
  by_cases e : i = 12 * w + t
  · subst e; exact ⟨m, hm, upd_eq⟩
  · rw [upd_ne e]; exact h4 i hi
theorem hAt_rng {d : SD} (h : hgO d) (w t : Int32) : ∃ m : Nat, m ≤ 9 ∧ hAt (sHe d) w t = nI m := by
  rw [hAt]
  by_cases h1 : w * 12 + t < 0
  · rw [if_pos h1]; exact ⟨0, by omega, rfl⟩
  · rw [if_neg h1]
    by_cases h2 : 60 ≤ w * 12 + t
    · rw [if_pos h2]; exact ⟨0, by omega, rfl⟩
    · rw [if_neg h2]
      obtain ⟨j, hj, e⟩ := vp_in_of (x := w * 12 + t) (n := 60) (by rw [vp_in_iff]; rw [ltI0] at h1; rw [leIc (n := 60) rfl] at h2; omega) (by omega)
      rw [e, cl5 j (by omega)]
      exact h j hj
theorem hB_0 (te to : Nat → Int32) (lo : Nat → Bool) (he : Nat → Int32) {j b m : Nat} (hj : j < 5) (h3 : te j = nI m) (h6 : to j = nI b) (hb : b < m) (hm : m ≤ 12) : hB te to lo he (nI j) 0 = he (12 * j + b) := by
  have ez : ∀ l : Bool, (if l = true then (0 : Int32) else 0) = 0 := fun l => by cases l <;> rfl
  rw [hB, tpB, cl5 j (by omega), ez, Int32.add_zero, h3, h6, md_id hb hm, hAt_at he j b hj (by omega)]
theorem GOk_ch {b : Nat} {d : SD} (h : GOk b d) {w m : Nat} (hw5 : w < 5) (hm2 : 2 ≤ m) (hm : m ≤ 12) : GOk b (chD d w m) := by
  obtain ⟨h1, h2, h3, h4, h5, h6⟩ := h
  obtain ⟨v, hv, hve⟩ := hAt_rng h4 (nI w) (tpB (sTe d) (sTo d) (sLo d) (nI w) 0)
  have hve : hB (sTe d) (sTo d) (sLo d) (sHe d) (nI w) 0 = nI v := hve
  have pw := putN_at (sHe d) w (hB (sTe d) (sTo d) (sLo d) (sHe d) (nI w) 0) hw5 m hm
  refine ⟨⟨fun j hj => ?_, h1.2⟩, fun j hj => ?_, ?_, fun i hi => ?_, h5, fun j hj => ?_⟩
  · show ∃ m9 b9 : Nat, 2 ≤ m9 ∧ m9 ≤ 12 ∧ upd (sTe d) w (nI m) j = nI m9 ∧ b9 < m9 ∧ upd (sTo d) w 0 j = nI b9
    by_cases e : j = w
    · subst e; exact ⟨m, 0, hm2, hm, upd_eq, by omega, upd_eq⟩
    · rw [upd_ne e, upd_ne e]; exact h1.1 j hj
  · show md (upd (sCra d) w 0 j + upd (sHa d) w 0 j) (upd (sTe d) w (nI m) j) = upd (sTo d) w 0 j
    by_cases e : j = w
    · subst e
      rw [upd_eq, upd_eq, upd_eq, upd_eq]
      exact md_id (b := 0) (m := m) (by omega) hm
    · rw [upd_ne e, upd_ne e, upd_ne e, upd_ne e]; exact h2 j hj
  · rw [al_iff] at h3 ⊢
    refine Eq.trans ?_ h3
    show fltB (upd (sTe d) w (nI m)) (upd (sTo d) w 0) (sLo d) (putN (sHe d) (nI w) (hB (sTe d) (sTo d) (sLo d) (sHe d) (nI w) 0) m) 0 (sSe d) = fltB (sTe d) (sTo d) (sLo d) (sHe d) 0 (sSe d)
    have key : ∀ j, j < 5 → hB (upd (sTe d) w (nI m)) (upd (sTo d) w 0) (sLo d) (putN (sHe d) (nI w) (hB (sTe d) (sTo d) (sLo d) (sHe d) (nI w) 0) m) (nI j) 0 = hB (sTe d) (sTo d) (sLo d) (sHe d) (nI j) 0 := by
      intro j hj
      obtain ⟨m9, b9, q1, q2, q3, q4, q6⟩ := h1.1 j hj
      by_cases e : j = w
      · subst e
        rw [hB_0 (upd (sTe d) j (nI m)) (upd (sTo d) j 0) (sLo d) _ (b := 0) hj upd_eq upd_eq (by omega) hm, pw]
        dsimp only
        rw [if_pos (by omega)]
      · rw [hB_0 (upd (sTe d) w (nI m)) (upd (sTo d) w 0) (sLo d) _ hj (by rw [upd_ne e]; exact q3) (by rw [upd_ne e]; exact q6) q4 q2, hB_0 (sTe d) (sTo d) (sLo d) (sHe d) hj q3 q6 q4 q2, pw]
        dsimp only
        rw [if_neg (by omega)]
    have k0 := key 0 (by omega)
    have k1 := key 1 (by omega)
    have k2 := key 2 (by omega)
    have k3 := key 3 (by omega)
    have k4 := key 4 (by omega)
    rw [show nI 0 = 0 from rfl] at k0
    rw [show nI 1 = 1 from rfl] at k1
    rw [show nI 2 = 2 from rfl] at k2
    rw [show nI 3 = 3 from rfl] at k3
    rw [show nI 4 = 4 from rfl] at k4
    rw [fltB, fltB, k0, k1, k2, k3, k4]
  · show ∃ m9 : Nat, m9 ≤ 9 ∧ putN (sHe d) (nI w) (hB (sTe d) (sTo d) (sLo d) (sHe d) (nI w) 0) m i = nI m9
    rw [pw]
    dsimp only
    split
    · exact ⟨v, hv, hve⟩
    · exact h4 i hi
  · show (-(b : Int) ≤ (upd (sCra d) w 0 j).toInt ∧ (upd (sCra d) w 0 j).toInt ≤ b) ∧ (-(b : Int) ≤ (upd (sHa d) w 0 j).toInt ∧ (upd (sHa d) w 0 j).toInt ≤ b)
    by_cases e : j = w
    · subst e
      rw [upd_eq, upd_eq, show (0 : Int32).toInt = 0 from rfl]
      omega
    · rw [upd_ne e, upd_ne e]; exact h6 j hj
theorem GOk_re {b : Nat} {d : SD} (h : GOk b d) {c : Nat} (hc : c < 6) (hsc : sSc d = nI c) : GOk b (reD d c) := by
  obtain ⟨h1, h2, h3, h4, h5, h6⟩ := h
  exact ⟨⟨h1.1, c + 1, by omega, by show sSc d + 1 = _; rw [hsc, nI_1]⟩, h2, h3, h4, h5, h6⟩
theorem GOk_fo {b : Nat} {d : SD} (h : GOk b d) {i c : Nat} (hc : c < 6) (hsc : sSc d = nI (c + 1)) : GOk b (foD d i (c + 1)) := by
  obtain ⟨h1, h2, h3, h4, h5, h6⟩ := h
  exact ⟨⟨h1.1, c, by omega, by show sSc d - 1 = _; rw [hsc, nI_pred]⟩, h2, h3, h4, h5, h6⟩


theorem te_nat {d : SD} (h : SOk d) {w : Nat} (hw : w < 5) : ∃ m : Nat, 2 ≤ m ∧ m ≤ 12 ∧ sTe d w = nI m := by
  obtain ⟨m, b, h1, h2, h3, -⟩ := h.1 w hw
  exact ⟨m, h1, h2, h3⟩
theorem tth_btw {d : SD} (h : SOk d) (x y : Int32) : (if btw x 0 4 = true then btw y 0 (sTe d x.toNatClampNeg - 1) else false) = isTth d x y := by
  rw [wh_btw, isTth]
  cases hc : iswh x with
  | false => rfl
  | true =>
    obtain ⟨w, hw, rfl⟩ := wh_of hc
    obtain ⟨m, m1, m2, m3⟩ := te_nat h hw
    rw [if_pos rfl, cl5 w (by omega), m3, Bool.true_and]
    obtain ⟨m', rfl⟩ : ∃ m', m = m' + 1 := ⟨m - 1, by omega⟩
    rw [nI_pred]
    have h1 := btw_iff (x := y) (A := 0) (B := nI m') (a := 0) (b := (m' : Int)) rfl (nI_toInt (by omega))
    have h2 : y < nI (m' + 1) ↔ y.toInt < ((m' + 1 : Nat) : Int) := ltIc2 (nI_toInt (by omega))
    cases hb : btw y 0 (nI m') with
    | true => rw [eq_comm, decide_eq_true_iff, h2]; have := h1.mp hb; omega
    | false =>
      rw [eq_comm, decide_eq_false_iff_not, h2]
      intro q
      have := h1.mpr (by omega)
      rw [hb] at this; cases this
theorem tth_of {d : SD} (h : SOk d) {x y : Int32} (hc : isTth d x y = true) : ∃ w t : Nat, w < 5 ∧ t < 12 ∧ x = nI w ∧ y = nI t ∧ t < (sTe d w).toNatClampNeg := by
  rw [isTth, Bool.and_eq_true, decide_eq_true_iff] at hc
  obtain ⟨w, hw, rfl⟩ := wh_of hc.1
  obtain ⟨m, m1, m2, m3⟩ := te_nat h hw
  have h2 := hc.2
  rw [cl5 w (by omega), m3, ltIc2 (n := (m : Int)) (nI_toInt (by omega))] at h2
  exact ⟨w, y.toInt.toNat, hw, by omega, rfl, by rw [← Int32.toInt_inj, nI_toInt (by omega)]; omega, by rw [m3, cl5 m (by omega)]; omega⟩
theorem scn_btw {d : SD} {c : Nat} (hsc : sSc d = nI c) (hc : c ≤ 6) (x : Int32) : btw x 0 (sSc d - 1) = false ↔ ¬ (0 ≤ x.toInt ∧ x < sSc d) := by
  have h2 : x < nI c ↔ x.toInt < (c : Int) := ltIc2 (nI_toInt (by omega))
  have h1 : (nI c - 1).toInt = (c : Int) - 1 := by
    rw [Int32.toInt_sub, nI_toInt (by omega), show (1 : Int32).toInt = 1 from rfl, Int.bmod_eq_of_le (by omega) (by omega)]
  have h3 := btw_iff (x := x) (A := 0) (B := nI c - 1) (a := 0) (b := (c : Int) - 1) rfl h1
  rw [hsc, h2]
  cases hb : btw x 0 (nI c - 1) with
  | true => have := h3.mp hb; exact ⟨(fun q => by cases q), fun q => absurd (by omega) q⟩
  | false => exact ⟨(fun _ q => by have := h3.mpr (by omega); rw [hb] at this; cases this), fun _ => rfl⟩
theorem scn_of {d : SD} {c : Nat} (hsc : sSc d = nI c) (hc : c ≤ 6) {x : Int32} (hx : 0 ≤ x.toInt ∧ x < sSc d) : ∃ i : Nat, i < c ∧ x = nI i := by
  obtain ⟨h1, h2⟩ := hx
  rw [hsc, ltIc2 (n := (c : Int)) (nI_toInt (by omega))] at h2
  exact ⟨x.toInt.toNat, by omega, by rw [← Int32.toInt_inj, nI_toInt (by omega)]; omega⟩
section
variable {b : Nat} {w0 m0 : List va_E} {z : Nat → Int64}
theorem s_hand (h : Inv b w0 m0) (hb : b + 2000 ≤ 2 ^ 28) (x y : Int32) : ∃ (k9 mb : Int32) (w1 m1 : List va_E) (z1 : Nat → Int64), ConW yL_hand cL_hand 5 (some .int) [(0, 10, 13, 18), (0, 10, 17, 13), (0, 10, 21, 27)] (rmt 7 172) [.ref 0, .int x, .int y, .ref 95] (w0 ++ [OUT z]) (some (.int k9)) (w1 ++ [OUT z1]) ∧ Con yX6_hand cX6_hand 4 (some .int) (rmk 5 115) [.ref 0, .int x, .int y] m0 (some (.int mb)) m1 ∧ Con yX6_thrown cX6_thrown 1 (some .int) (rmk 0 0) [.ref 0] m1 (some (.int k9)) m1 ∧ (k9 = 0 → z1 0 = mb.toInt64) ∧ Inv (b + 2000) w1 m1 := by
  obtain ⟨kp, d0, d1, k, rm, R, cod, n, aw, op, fig, pop, pmk, pen, psts, ptd, t, th, at9, pt, nm, oq, hs, s, bg, tm, rfl, rfl, hS, hn, hch⟩ := h
  have hrm := hS.2.2.1.1
  have hk := hS.2.2.1.2.2.1
  cases hc : iswh x with
  | false => exact ⟨1, 0, _, _, z, w_hand_1 cwL (cwC hrm) (cwC hrm) rfl (t_hand1 _ _ _ _ _ _ _ _ _ _ _ _ _ _ _ _ _ x y hc), by apply c_mHandF _ _ _ _ _ _ _ _ _ _ _ _ _ 1 (by decide) x y; exact Or.inl ⟨by rw [wh_btw]; exact hc, rfl⟩, by apply c_thrown, fun q => absurd q (by decide), inv_i (hS.more (by omega)) hn hch⟩
  | true =>
    cases hy : btw y 1 11 with
    | false => exact ⟨2, 0, _, _, z, w_hand_2 cwL (cwC hrm) (cwC hrm) rfl (t_hand2 _ _ _ _ _ _ _ _ _ _ _ _ _ _ _ _ _ x y hc (btw_F (a := 1) (b := 11) rfl rfl hy)), by apply c_mHandF _ _ _ _ _ _ _ _ _ _ _ _ _ 2 (by decide) x y; exact Or.inr ⟨by rw [wh_btw]; exact hc, hy, rfl⟩, by apply c_thrown, fun q => absurd q (by decide), inv_i (hS.more (by omega)) hn hch⟩
    | true =>
      obtain ⟨w, hw, rfl⟩ := wh_of hc
      obtain ⟨y1, y2⟩ := btw_T (a := 1) (b := 11) rfl rfl hy
      have y3 := (btw_iff (a := 1) (b := 11) rfl rfl).mp hy
      have hR2 := Rp_hand hS.2.1.1 hS.1 w hw y
      have hO2 : SOk (haD d0 w y) := by
        refine ⟨fun j hj => ?_, hS.2.1.1.2⟩
        obtain ⟨m, b', m1, m2, m3, m4, m6⟩ := hS.2.1.1.1 j hj
        by_cases e : j = w
        · subst e
          obtain ⟨t9, ht, het⟩ := vp_in_of (md_in (v := sTo d0 j + y) (d := sTe d0 j) (n := m) (by rw [m3, nI_toInt (by omega)]) (by omega)) (by omega)
          exact ⟨m, t9, m1, m2, m3, ht, by show toH d0 j y j = _; rw [toH, upd_eq, het]⟩
        · exact ⟨m, b', m1, m2, m3, m4, by show toH d0 w y j = _; rw [toH, upd_ne e]; exact m6⟩
      have hM := c_mHand th (nI n) at9 pt nm oq kp hs s cod bg tm k hk w hw y hy hS.1 hS.2.1.1 hR2 hO2
      cases hl : sLo d0 w with
      | true => exact ⟨3, 0, _, _, z, w_hand_3 cwL (cwC hrm) (cwC hrm) rfl (t_hand3 _ _ _ _ _ _ _ _ _ _ _ _ _ _ _ _ _ w hw y y1 y2 hl), hM.2 (Or.inl hl), by apply c_thrown, fun q => absurd q (by decide), inv_i (hS.more (by omega)) hn hch⟩
      | false =>
        cases ha : alD (haD d0 w y) with
        | false => exact ⟨3, 0, _, _, z, w_hand_3 cwL (cwC hrm) (cwC hrm) rfl (t_hand4 _ _ _ _ _ _ _ _ _ _ _ _ _ _ _ _ _ w hw y y1 y2 hl (of_decide_eq_false ha)), hM.2 (Or.inr ha), by apply c_thrown, fun q => absurd q (by decide), inv_i (hS.more (by omega)) hn hch⟩
        | true =>
          refine ⟨0, _, _, _, _, w_hand cwL (cwC hrm) (cwC (puM_ok hrm)) rfl (c_hand _ _ _ _ _ _ _ _ _ _ _ _ _ _ _ _ _ hrm hk w hw y y1 y2 hl (of_decide_eq_true ha)), hM.1 ⟨hl, ha⟩, by apply c_thrown, fun _ => ?_, inv_i (hS.push (by omega) (sHi_upd (sHi_rf _) (by omega) _) (Rp_svu hO2 hR2 k) ((GOk_hand (by omega) hS.2.1 hw y3.1 y3.2 ha).more (by omega))) hn hch⟩
          rw [updL0, toH, upd_eq]
theorem s_file (h : Inv b w0 m0) (hb : b + 2000 ≤ 2 ^ 28) (x y v : Int32) : ∃ (k9 mb : Int32) (w1 m1 : List va_E) (z1 : Nat → Int64), ConW yL_file cL_file 6 (some .int) [(0, 12, 15, 18), (0, 12, 19, 13), (0, 12, 23, 27)] (rmt 7 174) [.ref 0, .int x, .int y, .int v, .ref 95] (w0 ++ [OUT z]) (some (.int k9)) (w1 ++ [OUT z1]) ∧ Con yX6_file cX6_file 5 (some .int) (rmk 5 115) [.ref 0, .int x, .int y, .int v] m0 (some (.int mb)) m1 ∧ Con yX6_thrown cX6_thrown 1 (some .int) (rmk 0 0) [.ref 0] m1 (some (.int k9)) m1 ∧ (k9 = 0 → z1 0 = mb.toInt64) ∧ Inv (b + 2000) w1 m1 := by
  obtain ⟨kp, d0, d1, k, rm, R, cod, n, aw, op, fig, pop, pmk, pen, psts, ptd, t, th, at9, pt, nm, oq, hs, s, bg, tm, rfl, rfl, hS, hn, hch⟩ := h
  have hrm := hS.2.2.1.1
  have hk := hS.2.2.1.2.2.1
  have hT : (if btw x 0 4 = true then btw y 0 (sTe d0 x.toNatClampNeg - 1) else false) = isTth d0 x y := tth_btw hS.2.1.1 x y
  cases hc : isTth d0 x y with
  | false => exact ⟨1, 0, _, _, z, w_file_1 cwL (cwC hrm) (cwC hrm) rfl (t_file1 _ _ _ _ _ _ _ _ _ _ _ _ _ _ _ _ _ x y v hc), by apply c_mFileF _ _ _ _ _ _ _ _ _ _ _ _ _ 1 (by decide) x y v hS.1; exact Or.inl ⟨by rw [hT]; exact hc, rfl⟩, by apply c_thrown, fun q => absurd q (by decide), inv_i (hS.more (by omega)) hn hch⟩
  | true =>
    cases hy : btw v 0 9 with
    | false => exact ⟨2, 0, _, _, z, w_file_2 cwL (cwC hrm) (cwC hrm) rfl (t_file2 _ _ _ _ _ _ _ _ _ _ _ _ _ _ _ _ _ x y v hc (fun q => by have := (btw_iff (x := v) (A := 0) (B := 9) (a := 0) (b := 9) rfl rfl).mpr q; rw [hy] at this; cases this)), by apply c_mFileF _ _ _ _ _ _ _ _ _ _ _ _ _ 2 (by decide) x y v hS.1; exact Or.inr ⟨by rw [hT]; exact hc, hy, rfl⟩, by apply c_thrown, fun q => absurd q (by decide), inv_i (hS.more (by omega)) hn hch⟩
    | true =>
      obtain ⟨w, t9, hw, ht, rfl, rfl, hlt⟩ := tth_of hS.2.1.1 hc
      obtain ⟨g, -, hg, rfl⟩ := btw_nat (a := 0) (b := 9) rfl rfl (by omega) hy
      have hR2 := Rp_file hS.2.1.1 hS.1 w t9 hw ht (nI g)
      have hO2 : SOk (fiD d0 w t9 (nI g)) := hS.2.1.1
      have ht1 : btw (nI t9) 0 (sTe d0 w - 1) = true := by
        rw [hc, if_pos (by rw [wh_btw]; exact iswh_iff.mpr (nI5 w hw)), cl5 w (by omega)] at hT
        exact hT
      have hM := c_mFile th (nI n) at9 pt nm oq kp hs s cod bg tm k hk w t9 hw (nI g) hy hS.1 ht1 ht hR2 hO2
      cases ha : alD (fiD d0 w t9 (nI g)) with
      | false => exact ⟨3, 0, _, _, z, w_file_3 cwL (cwC hrm) (cwC hrm) rfl (t_file3 _ _ _ _ _ _ _ _ _ _ _ _ _ _ _ _ _ w t9 (nI g) hc ((btw_iff (a := 0) (b := 9) rfl rfl).mp hy) (of_decide_eq_false ha)), hM.2 ha, by apply c_thrown, fun q => absurd q (by decide), inv_i (hS.more (by omega)) hn hch⟩
      | true =>
        refine ⟨0, _, _, _, _, w_file cwL (cwC hrm) (cwC (puM_ok hrm)) rfl (c_file _ _ _ _ _ _ _ _ _ _ _ _ _ _ _ _ _ hrm hk w t9 (nI g) hc ((btw_iff (a := 0) (b := 9) rfl rfl).mp hy) (of_decide_eq_true ha)), hM.1 ha, by apply c_thrown, fun _ => ?_, inv_i (hS.push (by omega) (sHi_upd (sHi_rf _) (by omega) _) (Rp_svu hO2 hR2 k) ((GOk_file hS.2.1 hw ht hg ha).more (by omega))) hn hch⟩
        rw [updL0, hAt_at _ w t9 hw ht, hS.1.2.2.2.1 w hw t9 hlt]
theorem s_change (h : Inv b w0 m0) (hb : b + 2000 ≤ 2 ^ 28) (x y : Int32) : ∃ (k9 mb : Int32) (w1 m1 : List va_E) (z1 : Nat → Int64), ConW yL_change cL_change 5 (some .int) [(0, 10, 13, 18), (0, 10, 17, 13)] (rmt 7 173) [.ref 0, .int x, .int y, .ref 95] (w0 ++ [OUT z]) (some (.int k9)) (w1 ++ [OUT z1]) ∧ Con yX6_change cX6_change 6 (some .int) (rmk 3 67) [.ref 0, .int x, .int y] m0 (some (.int mb)) m1 ∧ Con yX6_thrown cX6_thrown 1 (some .int) (rmk 0 0) [.ref 0] m1 (some (.int k9)) m1 ∧ (k9 = 0 → z1 0 = mb.toInt64) ∧ Inv (b + 2000) w1 m1 := by
  obtain ⟨kp, d0, d1, k, rm, R, cod, n, aw, op, fig, pop, pmk, pen, psts, ptd, t, th, at9, pt, nm, oq, hs, s, bg, tm, rfl, rfl, hS, hn, hch⟩ := h
  have hrm := hS.2.2.1.1
  have hk := hS.2.2.1.2.2.1
  cases hc : iswh x with
  | false => exact ⟨1, 0, _, _, z, w_change_1 cwL (cwC hrm) (cwC hrm) rfl (t_change1 _ _ _ _ _ _ _ _ _ _ _ _ _ _ _ _ _ x y hc), by apply c_mChangeF _ _ _ _ _ _ _ _ _ _ _ _ _ 1 (by decide) x y; exact Or.inl ⟨by rw [wh_btw]; exact hc, rfl⟩, by apply c_thrown, fun q => absurd q (by decide), inv_i (hS.more (by omega)) hn hch⟩
  | true =>
    cases hy : btw y 2 12 with
    | false => exact ⟨2, 0, _, _, z, w_change_2 cwL (cwC hrm) (cwC hrm) rfl (t_change2 _ _ _ _ _ _ _ _ _ _ _ _ _ _ _ _ _ x y hc (btw_F (a := 2) (b := 12) rfl rfl hy)), by apply c_mChangeF _ _ _ _ _ _ _ _ _ _ _ _ _ 2 (by decide) x y; exact Or.inr ⟨by rw [wh_btw]; exact hc, hy, rfl⟩, by apply c_thrown, fun q => absurd q (by decide), inv_i (hS.more (by omega)) hn hch⟩
    | true =>
      obtain ⟨w, hw, rfl⟩ := wh_of hc
      obtain ⟨m, hm2, hm, rfl⟩ := btw_nat (a := 2) (b := 12) rfl rfl (by omega) hy
      have hR2 := Rp_ch hS.2.1.1 (Rp_sv hS.2.1.1 hS.1 k) w m hw hm2 hm
      exact ⟨0, _, _, _, _, w_change cwL (cwC hrm) (cwC (puM_ok hrm)) rfl (c_change _ _ _ _ _ _ _ _ _ _ _ _ _ _ _ _ _ hrm hk w hw m hm2 hm), c_mChange _ _ _ _ _ _ _ _ _ _ _ _ _ hk w hw (nI m) hy hS.1 hS.2.1.1, by apply c_thrown, fun _ => updL0 _ _, inv_i (hS.push (by omega) (sHi_fi (sHi_upd (sHi_upd (sHi_rf _) (by omega) _) (by omega) _) (by omega) _) hR2 ((GOk_ch hS.2.1 hw hm2 hm).more (by omega))) hn hch⟩
theorem s_set (h : Inv b w0 m0) (hb : b + 2000 ≤ 2 ^ 28) (x : Int32) : ∃ (k9 mb : Int32) (w1 m1 : List va_E) (z1 : Nat → Int64), ConW yL_set cL_set 4 (some .int) [(0, 9, 12, 13), (0, 9, 15, 27)] (rmt 7 172) [.ref 0, .int x, .ref 95] (w0 ++ [OUT z]) (some (.int k9)) (w1 ++ [OUT z1]) ∧ Con yX6_set cX6_set 3 (some .int) (rmk 5 115) [.ref 0, .int x] m0 (some (.int mb)) m1 ∧ Con yX6_thrown cX6_thrown 1 (some .int) (rmk 0 0) [.ref 0] m1 (some (.int k9)) m1 ∧ (k9 = 0 → z1 0 = mb.toInt64) ∧ Inv (b + 2000) w1 m1 := by
  obtain ⟨kp, d0, d1, k, rm, R, cod, n, aw, op, fig, pop, pmk, pen, psts, ptd, t, th, at9, pt, nm, oq, hs, s, bg, tm, rfl, rfl, hS, hn, hch⟩ := h
  have hrm := hS.2.2.1.1
  have hk := hS.2.2.1.2.2.1
  cases hy : btw x 0 9 with
  | false => exact ⟨1, 0, _, _, z, w_set_1 cwL (cwC hrm) (cwC hrm) rfl (t_set1 _ _ _ _ _ _ _ _ _ _ _ _ _ _ _ _ _ x (fun q => by have := (btw_iff (x := x) (A := 0) (B := 9) (a := 0) (b := 9) rfl rfl).mpr q; rw [hy] at this; cases this)), by apply c_mSetF; exact hy, by apply c_thrown, fun q => absurd q (by decide), inv_i (hS.more (by omega)) hn hch⟩
  | true =>
    obtain ⟨g, -, hg, rfl⟩ := btw_nat (a := 0) (b := 9) rfl rfl (by omega) hy
    have hR2 := Rp_set hS.2.1.1 hS.1 (nI g)
    have hO2 : SOk (seD d0 (nI g)) := hS.2.1.1
    have hM := c_mSet th (nI n) at9 pt nm oq kp hs s cod bg tm k hk (nI g) hy hR2 hO2
    cases ha : alD (seD d0 (nI g)) with
    | false => exact ⟨2, 0, _, _, z, w_set_2 cwL (cwC hrm) (cwC hrm) rfl (t_set2 _ _ _ _ _ _ _ _ _ _ _ _ _ _ _ _ _ (nI g) ((btw_iff (a := 0) (b := 9) rfl rfl).mp hy) (of_decide_eq_false ha)), hM.2 ha, by apply c_thrown, fun q => absurd q (by decide), inv_i (hS.more (by omega)) hn hch⟩
    | true =>
      refine ⟨0, _, _, _, _, w_set cwL (cwC hrm) (cwC (puM_ok hrm)) rfl (c_set _ _ _ _ _ _ _ _ _ _ _ _ _ _ _ _ _ hrm hk (nI g) ((btw_iff (a := 0) (b := 9) rfl rfl).mp hy) (of_decide_eq_true ha)), hM.1 ha, by apply c_thrown, fun _ => ?_, inv_i (hS.push (by omega) (sHi_upd (sHi_rf _) (by omega) _) (Rp_svu hO2 hR2 k) ((GOk_set hS.2.1 hg ha).more (by omega))) hn hch⟩
      rw [updL0, hS.1.2.2.2.2.1]
theorem s_remember (h : Inv b w0 m0) (hb : b + 2000 ≤ 2 ^ 28)  : ∃ (k9 mb : Int32) (w1 m1 : List va_E) (z1 : Nat → Int64), ConW yL_remember cL_remember 3 (some .int) [(0, 8, 11, 27)] (rmt 7 170) [.ref 0, .ref 95] (w0 ++ [OUT z]) (some (.int k9)) (w1 ++ [OUT z1]) ∧ Con yX6_remember cX6_remember 2 (some .int) (rmk 3 67) [.ref 0] m0 (some (.int mb)) m1 ∧ Con yX6_thrown cX6_thrown 1 (some .int) (rmk 0 0) [.ref 0] m1 (some (.int k9)) m1 ∧ (k9 = 0 → z1 0 = mb.toInt64) ∧ Inv (b + 2000) w1 m1 := by
  obtain ⟨kp, d0, d1, k, rm, R, cod, n, aw, op, fig, pop, pmk, pen, psts, ptd, t, th, at9, pt, nm, oq, hs, s, bg, tm, rfl, rfl, hS, hn, hch⟩ := h
  have hrm := hS.2.2.1.1
  have hk := hS.2.2.1.2.2.1
  obtain ⟨c, hc6, hsc⟩ := hS.2.1.1.2
  by_cases h6 : c < 6
  · have hR2 := Rp_re hS.2.1.1 (Rp_sv hS.2.1.1 hS.1 k) c h6 hsc
    refine ⟨0, _, _, _, _, w_remember cwL (cwC hrm) (cwC (puM_ok hrm)) rfl (c_remember _ _ _ _ _ _ _ _ _ _ _ _ _ _ _ _ _ hrm hk c h6 hsc), c_mRem _ _ _ _ _ _ _ _ _ _ _ _ _ hk hS.1 hS.2.1.1 c hsc h6, by apply c_thrown, fun _ => ?_, inv_i (hS.push (by omega) (sHi_upd (sHi_fi (sHi_rf _) (by omega) _) (by omega) _) hR2 ((GOk_re hS.2.1 h6 hsc).more (by omega))) hn hch⟩
    rw [updL0, hsc]
  · have e6 : sSc d0 = 6 := by rw [hsc, show c = 6 by omega]; rfl
    exact ⟨1, 0, _, _, z, w_remember_1 cwL (cwC hrm) (cwC hrm) rfl (t_remember _ _ _ _ _ _ _ _ _ _ _ _ _ _ _ _ _ (by rw [e6]; decide)), by apply c_mRemF _ _ _ _ _ _ _ _ _ _ _ _ _ hS.1; exact e6, by apply c_thrown, fun q => absurd q (by decide), inv_i (hS.more (by omega)) hn hch⟩
theorem s_forget (h : Inv b w0 m0) (hb : b + 2000 ≤ 2 ^ 28) (x : Int32) : ∃ (k9 mb : Int32) (w1 m1 : List va_E) (z1 : Nat → Int64), ConW yL_forget cL_forget 4 (some .int) [(0, 9, 12, 18)] (rmt 7 171) [.ref 0, .int x, .ref 95] (w0 ++ [OUT z]) (some (.int k9)) (w1 ++ [OUT z1]) ∧ Con yX6_forget cX6_forget 3 (some .int) (rmk 2 44) [.ref 0, .int x] m0 (some (.int mb)) m1 ∧ Con yX6_thrown cX6_thrown 1 (some .int) (rmk 0 0) [.ref 0] m1 (some (.int k9)) m1 ∧ (k9 = 0 → z1 0 = mb.toInt64) ∧ Inv (b + 2000) w1 m1 := by
  obtain ⟨kp, d0, d1, k, rm, R, cod, n, aw, op, fig, pop, pmk, pen, psts, ptd, t, th, at9, pt, nm, oq, hs, s, bg, tm, rfl, rfl, hS, hn, hch⟩ := h
  have hrm := hS.2.2.1.1
  have hk := hS.2.2.1.2.2.1
  obtain ⟨c, hc6, hsc⟩ := hS.2.1.1.2
  have hq := scn_btw hsc hc6 x
  by_cases hx : 0 ≤ x.toInt ∧ x < sSc d0
  · obtain ⟨i, hi, rfl⟩ := scn_of hsc hc6 hx
    obtain ⟨c', rfl⟩ : ∃ c', c = c' + 1 := ⟨c - 1, by omega⟩
    have hR2 := Rp_fo hS.2.1.1 (Rp_sv hS.2.1.1 hS.1 k) i c' (by omega) (by omega) hsc (fun j => s (82 + 5 * i + j + 5)) (fun j hj => (svS_lo s k (by omega)).symm)
    exact ⟨0, _, _, _, _, w_forget cwL (cwC hrm) (cwC (puM_ok hrm)) rfl (c_forget _ _ _ _ _ _ _ _ _ _ _ _ _ _ _ _ _ hrm hk i c' (by omega) hsc (by omega)), c_mFor _ _ _ _ _ _ _ _ _ _ _ _ _ hk hS.1 hS.2.1.1 c' i hsc (by omega) (by omega), by apply c_thrown, fun _ => updL0 _ _, inv_i (hS.push (by omega) (sHi_fi (sHi_upd (sHi_rf _) (by omega) _) (by omega) _) hR2 ((GOk_fo hS.2.1 (by omega) hsc).more (by omega))) hn hch⟩
  · exact ⟨1, 0, _, _, z, w_forget_1 cwL (cwC hrm) (cwC hrm) rfl (t_forget _ _ _ _ _ _ _ _ _ _ _ _ _ _ _ _ _ x hx), by apply c_mForF _ _ _ _ _ _ _ _ _ _ _ _ _ x hS.1; exact hq.mpr hx, by apply c_thrown, fun q => absurd q (by decide), inv_i (hS.more (by omega)) hn hch⟩
theorem s_append (h : Inv b w0 m0) (hb : b + 2000 ≤ 2 ^ 28) (x : Int32) : ∃ (k9 mb : Int32) (w1 m1 : List va_E) (z1 : Nat → Int64), ConW yL_append cL_append 4 (some .int) [(0, 9, 12, 13), (0, 9, 15, 27)] (rmt 7 171) [.ref 0, .int x, .ref 95] (w0 ++ [OUT z]) (some (.int k9)) (w1 ++ [OUT z1]) ∧ Con yX6_append cX6_append 2 (some .int) (rmk 1 22) [.ref 0, .int x] m0 (some (.int mb)) m1 ∧ Con yX6_thrown cX6_thrown 1 (some .int) (rmk 0 0) [.ref 0] m1 (some (.int k9)) m1 ∧ (k9 = 0 → z1 0 = mb.toInt64) ∧ Inv (b + 2000) w1 m1 := by
  obtain ⟨kp, d0, d1, k, rm, R, cod, n, aw, op, fig, pop, pmk, pen, psts, ptd, t, th, at9, pt, nm, oq, hs, s, bg, tm, rfl, rfl, hS, hn, hch⟩ := h
  have hrm := hS.2.2.1.1
  have hk := hS.2.2.1.2.2.1
  cases hy : btw x 33 126 with
  | false => exact ⟨1, 0, _, _, z, w_append_1 cwL (cwC hrm) (cwC hrm) rfl (t_append1 _ _ _ _ _ _ _ _ _ _ _ _ _ _ _ _ _ x (btw_F (a := 33) (b := 126) rfl rfl hy)), by apply c_mAppendF _ _ _ _ _ _ _ _ _ _ _ _ _ 1 (by decide) x; exact Or.inl ⟨hy, rfl⟩, by apply c_thrown, fun q => absurd q (by decide), inv_i (hS.more (by omega)) hn hch⟩
  | true =>
    obtain ⟨y1, y2⟩ := btw_T (a := 33) (b := 126) rfl rfl hy
    have y3 := (btw_iff (x := x) (a := 33) (b := 126) rfl rfl).mp hy
    by_cases h60 : n < 60
    · refine ⟨0, _, _, _, _, w_append cwL (cwC hrm) (cwC hrm) rfl (c_append _ _ _ _ _ _ _ _ _ _ _ _ _ _ _ _ n h60 x y3), c_mAppend _ _ _ _ _ _ _ _ _ _ _ _ n h60 x hy, by apply c_thrown, fun _ => updL0 _ _, inv_i (hS.more (by omega)) (by omega) (fun j hj => ?_)⟩
      by_cases e : j = n
      · subst e; rw [upd_eq]; exact y3.1
      · rw [upd_ne e]; exact hch j (by omega)
    · have e60 : nI n = 60 := by rw [show n = 60 by omega]; rfl
      exact ⟨2, 0, _, _, z, w_append_2 cwL (cwC hrm) (cwC hrm) rfl (t_append2 _ _ _ _ _ _ _ _ _ _ _ _ _ _ _ _ _ x y1 y2 (by rw [e60]; decide)), by apply c_mAppendF _ _ _ _ _ _ _ _ _ _ _ _ _ 2 (by decide) x; exact Or.inr ⟨hy, e60, rfl⟩, by apply c_thrown, fun q => absurd q (by decide), inv_i (hS.more (by omega)) hn hch⟩
theorem s_goBack (h : Inv b w0 m0) (hb : b + 2000 ≤ 2 ^ 28)  : ∃ (k9 mb : Int32) (w1 m1 : List va_E) (z1 : Nat → Int64), ConW yL_goBack cL_goBack 3 (some .int) [(0, 8, 11, 27)] (rmt 7 170) [.ref 0, .ref 95] (w0 ++ [OUT z]) (some (.int k9)) (w1 ++ [OUT z1]) ∧ Con yX6_goBack cX6_goBack 1 (some .int) (rmk 2 44) [.ref 0] m0 (some (.int mb)) m1 ∧ Con yX6_thrown cX6_thrown 1 (some .int) (rmk 0 0) [.ref 0] m1 (some (.int k9)) m1 ∧ (k9 = 0 → z1 0 = mb.toInt64) ∧ Inv (b + 2000) w1 m1 := by
  obtain ⟨kp, d0, d1, k, rm, R, cod, n, aw, op, fig, pop, pmk, pen, psts, ptd, t, th, at9, pt, nm, oq, hs, s, bg, tm, rfl, rfl, hS, hn, hch⟩ := h
  have hrm := hS.2.2.1.1
  have hk := hS.2.2.1.2.2.1
  cases kp with
  | false => exact ⟨1, 0, _, _, z, w_goBack_1 cwL (cwC hrm) (cwC hrm) rfl (t_goBack _ _ _ _ _ _ _ _ _ _ _ _ _ _ _ _ ), by apply c_mGoBackF, by apply c_thrown, fun q => absurd q (by decide), inv_i (hS.more (by omega)) hn hch⟩
  | true =>
    refine ⟨0, _, _, _, _, w_goBack cwL (cwC hrm) (cwC (puM_ok hrm)) rfl (c_goBack _ _ _ _ _ _ _ _ _ _ _ _ _ _ _ _ hrm hk), c_mGoBack _ _ _ _ _ _ _ _ _ _ _ _ hk, by apply c_thrown, fun _ => ?_, inv_i (hS.goBack.more (by omega)) hn hch⟩
    rw [updL0]
    exact congrArg Int32.toInt64 (((hS.2.2.2 rfl).1.2.2.2.2.2.2.2.2.2.2.1).symm)
theorem s_undo (h : Inv b w0 m0) (hb : b + 2000 ≤ 2 ^ 28)  : ∃ (k9 mb : Int32) (w1 m1 : List va_E) (z1 : Nat → Int64), ConW yL_undo cL_undo 3 (some .int) [(0, 8, 11, 27)] (rmt 7 170) [.ref 0, .ref 95] (w0 ++ [OUT z]) (some (.int k9)) (w1 ++ [OUT z1]) ∧ Con yX6_undo cX6_undo 1 (some .int) (rmk 1 23) [.ref 0] m0 (some (.int mb)) m1 ∧ Con yX6_thrown cX6_thrown 1 (some .int) (rmk 0 0) [.ref 0] m1 (some (.int k9)) m1 ∧ (k9 = 0 → z1 0 = mb.toInt64) ∧ Inv (b + 2000) w1 m1 := by
  obtain ⟨kp, d0, d1, k, rm, R, cod, n, aw, op, fig, pop, pmk, pen, psts, ptd, t, th, at9, pt, nm, oq, hs, s, bg, tm, rfl, rfl, hS, hn, hch⟩ := h
  have hrm := hS.2.2.1.1
  have hk := hS.2.2.1.2.2.1
  rcases k with _ | k
  · exact ⟨1, 0, _, _, z, w_undo_1 cwL (cwC hrm) (cwC hrm) rfl (t_undo _ _ _ _ _ _ _ _ _ _ _ _ _ _ _ _ ), by apply c_mUndoF, by apply c_thrown, fun q => absurd q (by decide), inv_i (hS.more (by omega)) hn hch⟩
  · exact ⟨0, _, _, _, _, w_undo cwL (cwC hrm) (cwC hrm) rfl (c_undo _ _ _ _ _ _ _ _ _ _ _ _ _ _ _ _ hrm k (by omega)), c_mUndo _ _ _ _ _ _ _ _ _ _ _ _ _ (by omega), by apply c_thrown, fun _ => updL0 _ _, inv_i (hS.undo.more (by omega)) hn hch⟩
end


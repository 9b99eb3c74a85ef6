def CL19 : List Nat := [0, 1, 2, 3, 4, 5, 6, 7, 8, 9, 10, 21, 88, 89, 90, 91, 92, 93, 94]
section
variable {kp : Bool} {d0 d1 : SD} {k : Nat} {rm : Nat → Nat} {R : Nat → SD} {cod : Nat → Int32} {len aw op fig pop pmk pen : Int32} {psts ptd : Nat → Nat} {t t2 : WD}
theorem rwF {y : MethodName} {cc : ByteArray} {nL : Nat} {ret : Option FieldType} {rm9 : Room} {a : List Value} {r : Option Value} (hc : Con y cc nL ret rm9 a (RW (.ref 30) (.ref 102) (.ref 104) (.ref 41) kp (nI k) d0 t) r (RW (.ref 30) (.ref 102) (.ref 104) (.ref 41) kp (nI k) d0 t2)) (ha : a.map (nv (inn CL19)) = a) (hr : r.map (nv (out CL19)) = r) : Con y cc nL ret rm9 a (CW kp d0 d1 k rm R cod len aw op fig pop pmk pen psts ptd t) r (CW kp d0 d1 k rm R cod len aw op fig pop pmk pen psts ptd t2) := hc.frame CL19 ha (by decide +kernel) rfl hr rfl
theorem rwT {y : MethodName} {cc : ByteArray} {nL : Nat} {ret : Option FieldType} {rm9 : Room} {a : List Value} {E : String} (hc : ConT y cc nL ret rm9 a (RW (.ref 30) (.ref 102) (.ref 104) (.ref 41) kp (nI k) d0 t) E (RW (.ref 30) (.ref 102) (.ref 104) (.ref 41) kp (nI k) d0 t2)) (ha : a.map (nv (inn CL19)) = a) : ConT y cc nL ret rm9 a (CW kp d0 d1 k rm R cod len aw op fig pop pmk pen psts ptd t) E (CW kp d0 d1 k rm R cod len aw op fig pop pmk pen psts ptd t2) := hc.frame CL19 ha (by decide +kernel) rfl rfl
end
theorem dir_btw (x : Int32) : btw x 0 1 = true ↔ (x = 0 ∨ x = 1) := by
  rw [btw_iff (a := 0) (b := 1) rfl rfl, ← Int32.toInt_inj, ← Int32.toInt_inj, show (0 : Int32).toInt = 0 from rfl, show (1 : Int32).toInt = 1 from rfl]
  omega
theorem btw_no {x A B : Int32} (h : ¬ btw x A B = true) : btw x A B = false := by
  cases hb : btw x A B with
  | true => exact absurd hb h
  | false => rfl
section
variable {b : Nat} {w0 m0 : List va_E} {z : Nat → Int64}
theorem s_work (h : Inv b w0 m0) (hb : b + 2000 ≤ 2 ^ 28)  : ∃ (k9 mb : Int32) (w1 m1 : List va_E) (z1 : Nat → Int64), ConW yL_work cL_work 3 (some .int) [(0, 8, 11, 13)] (rmt 7 171) [.ref 0, .ref 95] (w0 ++ [OUT z]) (some (.int k9)) (w1 ++ [OUT z1]) ∧ Con yX6_work cX6_work 3 (some .int) (rmk 6 141) [.ref 0] m0 (some (.int mb)) m1 ∧ Con yX6_thrown cX6_thrown 1 (some .int) (rmk 0 0) [.ref 0] m1 (some (.int k9)) m1 ∧ (k9 = 0 → z1 0 = mb.toInt64) ∧ Inv (b + 2000) w1 m1 := by
  obtain ⟨kp, d0, d1, k, rm, R, cod, n, aw, op, fig, pop, pmk, pen, psts, ptd, t, th, at9, pt, nm, oq, hs, s, bg, tm, rfl, rfl, hS, hn, hch⟩ := h
  have hrm := hS.2.2.1.1
  have hk := hS.2.2.1.2.2.1
  have hR := hS.1
  have hO := hS.2.1.1
  have hD := hS.2.1.2.1
  have hte := hO.1.te
  obtain ⟨q1, q2⟩ := rd_iwG cod n hch pt nm fig
  cases hc : (iwG cod n pt nm).1 with
  | false =>
    rw [hc] at q2
    exact ⟨1, 0, _, _, z, w_work_1 cwL (cwC hrm) (cwC hrm) rfl (t_work _ _ _ _ _ _ _ _ _ _ _ _ _ _ _ _ n hn q2.symm), c_mWorkF _ _ _ _ _ _ _ _ _ _ _ _ _ hn hc, by apply c_thrown, fun q => absurd q (by decide), inv_i (hS.more (by omega)) hn hch⟩
  | true =>
    rw [hc] at q2
    obtain ⟨i1, i2⟩ := IW_0 cod n hch hn pt nm hc psts ptd d0
    obtain ⟨W, hW⟩ : ∃ W, mwN cod n 50000 (0, 0, psts, ptd, 0, 0, d0) (bg, tm, (iwG cod n pt nm).2.2.2.1, (iwG cod n pt nm).2.2.2.2, upd (svS s k) 80 0) = W := ⟨_, rfl⟩
    have hP : pfN cod n 50000 (0, 0, psts, ptd, 0, 0, d0) = W.1 := by rw [← hW, mwN_1]
    have hR2 := Rp_sv hO hR k
    have hA := mAll_N cod n b (svS s k) (by omega) (IW cod n) (fun p hp hg => ⟨(IW_1 cod n hch hn p hp hg).2.1, (IW_1 cod n hch hn p hp hg).2.2.1⟩) 50000 (0, 0, psts, ptd, 0, 0, d0) (bg, tm, (iwG cod n pt nm).2.2.2.1, (iwG cod n pt nm).2.2.2.2, upd (svS s k) 80 0) i1
      ⟨⟨fun j hj => absurd hj (by simp), by simp, Rp_la hO hR2 0, hO, 0, by omega, rfl⟩, ⟨0, by omega, rfl, hS.2.1⟩, sHi_upd (sHi_rf _) (by omega) _⟩
    rw [hW] at hA
    obtain ⟨⟨-, -, a1, a2, -⟩, ⟨u, u1, u2, u3⟩, a4⟩ := hA
    have hG : GOk (b + 2000) (laD W.1.2.2.2.2.2.2 W.1.2.2.2.2.2.1) := (GOk_la u3 _).more (by omega)
    exact ⟨0, _, _, _, _, w_work cwL (cwC hrm) (cwC (puM_ok hrm)) rfl (c_work _ _ _ _ _ _ _ _ _ _ _ _ _ _ _ _ hrm hk n hn q2.symm (IW cod n) (muW cod n) 50000 (by omega) i1 i2 (fun p hp => ⟨Nat.le_trans hp.1 hn, fun hg => ⟨(IW_1 cod n hch hn p hp hg).1, (IW_1 cod n hch hn p hp hg).2.2⟩⟩) W.1 hP), c_mWork _ _ _ _ _ _ _ _ _ _ _ _ _ hn hk hc psts ptd hR hO (IW cod n) (muW cod n) 50000 i1 i2 (fun p hp => ⟨hp.1, fun hg => (IW_1 cod n hch hn p hp hg).2⟩) W hW, by apply c_thrown, fun _ => updL0 _ _, inv_z (hS.push (by omega) a4 a1 hG) (fun j hj => by omega)⟩
theorem s_wheel (h : Inv b w0 m0) (hb : b + 2000 ≤ 2 ^ 28) (x y : Int32) : ∃ (k9 mb : Int32) (w1 m1 : List va_E) (z1 : Nat → Int64), ConW yL_wheel cL_wheel 5 (some .int) [(0, 10, 13, 18), (0, 10, 17, 13)] (rmt 7 172) [.ref 0, .int x, .int y, .ref 95] (w0 ++ [OUT z]) (some (.int k9)) (w1 ++ [OUT z1]) ∧ Con yX6_wheel cX6_wheel 3 (some .int) (rmk 4 91) [.ref 0, .int x, .int y] m0 (some (.int mb)) m1 ∧ Con yX6_thrown cX6_thrown 1 (some .int) (rmk 0 0) [.ref 0] m1 (some (.int k9)) m1 ∧ (k9 = 0 → z1 0 = mb.toInt64) ∧ Inv (b + 2000) w1 m1 := by
  obtain ⟨kp, d0, d1, k, rm, R, cod, n, aw, op, fig, pop, pmk, pen, psts, ptd, t, th, at9, pt, nm, oq, hs, s, bg, tm, rfl, rfl, hS, hn, hch⟩ := h
  have hrm := hS.2.2.1.1
  have hk := hS.2.2.1.2.2.1
  have hR := hS.1
  have hO := hS.2.1.1
  have hD := hS.2.1.2.1
  have hte := hO.1.te
  cases hc : iswh x with
  | false => exact ⟨1, 0, _, _, z, w_wheel_1 cwL (cwC hrm) (cwC hrm) rfl (rwT (t_wheel1 (.ref 30) (.ref 102) (.ref 104) (.ref 41) kp (nI k) d0 t x y hc) rfl), by apply c_mWheelF _ _ _ _ _ _ _ _ _ _ _ _ _ 1 (by decide) x y; exact Or.inl ⟨by rw [wh_btw]; exact hc, rfl⟩, by apply c_thrown, fun q => absurd q (by decide), inv_i (hS.more (by omega)) hn hch⟩
  | true =>
    cases hy : btw y 0 6 with
    | false => exact ⟨2, 0, _, _, z, w_wheel_2 cwL (cwC hrm) (cwC hrm) rfl (rwT (t_wheel2 (.ref 30) (.ref 102) (.ref 104) (.ref 41) kp (nI k) d0 t x y hc (btw_F (a := 0) (b := 6) rfl rfl hy)) rfl), by apply c_mWheelF _ _ _ _ _ _ _ _ _ _ _ _ _ 2 (by decide) x y; exact Or.inr ⟨by rw [wh_btw]; exact hc, hy, rfl⟩, by apply c_thrown, fun q => absurd q (by decide), inv_i (hS.more (by omega)) hn hch⟩
    | true =>
      obtain ⟨w, hw, rfl⟩ := wh_of hc
      obtain ⟨g, -, hg, rfl⟩ := btw_nat (a := 0) (b := 6) rfl rfl (by omega) hy
      exact ⟨0, _, _, _, _, w_wheel cwL (cwC hrm) (cwC hrm) rfl (rwF (c_wheel (.ref 30) (.ref 102) (.ref 104) (.ref 41) kp (nI k) d0 t (nI w) (nI5 w hw) hte g hg) rfl rfl), c_mWheel _ _ _ _ _ _ _ _ _ _ _ _ _ hR hO hD w hw g hg, by apply c_thrown, fun _ => updL0 _ _, inv_i (hS.more (by omega)) hn hch⟩
theorem s_tooth (h : Inv b w0 m0) (hb : b + 2000 ≤ 2 ^ 28) (x y : Int32) : ∃ (k9 mb : Int32) (w1 m1 : List va_E) (z1 : Nat → Int64), ConW yL_tooth cL_tooth 5 (some .int) [(0, 10, 13, 18)] (rmt 7 172) [.ref 0, .int x, .int y, .ref 95] (w0 ++ [OUT z]) (some (.int k9)) (w1 ++ [OUT z1]) ∧ Con yX6_tooth cX6_tooth 3 (some .int) (rmk 3 64) [.ref 0, .int x, .int y] m0 (some (.int mb)) m1 ∧ Con yX6_thrown cX6_thrown 1 (some .int) (rmk 0 0) [.ref 0] m1 (some (.int k9)) m1 ∧ (k9 = 0 → z1 0 = mb.toInt64) ∧ Inv (b + 2000) w1 m1 := by
  obtain ⟨kp, d0, d1, k, rm, R, cod, n, aw, op, fig, pop, pmk, pen, psts, ptd, t, th, at9, pt, nm, oq, hs, s, bg, tm, rfl, rfl, hS, hn, hch⟩ := h
  have hrm := hS.2.2.1.1
  have hk := hS.2.2.1.2.2.1
  have hR := hS.1
  have hO := hS.2.1.1
  have hD := hS.2.1.2.1
  have hte := hO.1.te
  have hT := tth_btw hO x y
  cases hc : isTth d0 x y with
  | false => exact ⟨1, 0, _, _, z, w_tooth_1 cwL (cwC hrm) (cwC hrm) rfl (rwT (t_tooth (.ref 30) (.ref 102) (.ref 104) (.ref 41) kp (nI k) d0 t x y hc) rfl), by apply c_mToothF; exact hR; rw [hT]; exact hc, by apply c_thrown, fun q => absurd q (by decide), inv_i (hS.more (by omega)) hn hch⟩
  | true =>
    obtain ⟨w, t9, hw, ht, rfl, rfl, hlt⟩ := tth_of hO hc
    have ht1 : btw (nI t9) 0 (sTe d0 w - 1) = true := by
      rw [hc, if_pos (by rw [wh_btw]; exact iswh_iff.mpr (nI5 w hw)), cl5 w (by omega)] at hT
      exact hT
    exact ⟨0, _, _, _, _, w_tooth cwL (cwC hrm) (cwC hrm) rfl (rwF (c_tooth (.ref 30) (.ref 102) (.ref 104) (.ref 41) kp (nI k) d0 t (nI w) (nI t9) hc) rfl rfl), c_mTooth _ _ _ _ _ _ _ _ _ _ _ _ _ w t9 hw ht hR ht1 hlt, by apply c_thrown, fun _ => updL0 _ _, inv_i (hS.more (by omega)) hn hch⟩
theorem s_scene (h : Inv b w0 m0) (hb : b + 2000 ≤ 2 ^ 28) (x y : Int32) : ∃ (k9 mb : Int32) (w1 m1 : List va_E) (z1 : Nat → Int64), ConW yL_scene cL_scene 5 (some .int) [(0, 10, 13, 18), (0, 10, 17, 13)] (rmt 7 172) [.ref 0, .int x, .int y, .ref 95] (w0 ++ [OUT z]) (some (.int k9)) (w1 ++ [OUT z1]) ∧ Con yX6_scene cX6_scene 3 (some .int) (rmk 5 115) [.ref 0, .int x, .int y] m0 (some (.int mb)) m1 ∧ Con yX6_thrown cX6_thrown 1 (some .int) (rmk 0 0) [.ref 0] m1 (some (.int k9)) m1 ∧ (k9 = 0 → z1 0 = mb.toInt64) ∧ Inv (b + 2000) w1 m1 := by
  obtain ⟨kp, d0, d1, k, rm, R, cod, n, aw, op, fig, pop, pmk, pen, psts, ptd, t, th, at9, pt, nm, oq, hs, s, bg, tm, rfl, rfl, hS, hn, hch⟩ := h
  have hrm := hS.2.2.1.1
  have hk := hS.2.2.1.2.2.1
  have hR := hS.1
  have hO := hS.2.1.1
  have hD := hS.2.1.2.1
  have hte := hO.1.te
  obtain ⟨c, hc6, hsc⟩ := hO.2
  have hq := scn_btw hsc hc6 x
  by_cases hx : 0 ≤ x.toInt ∧ x < sSc d0
  · cases hy : btw y 0 7 with
    | false => exact ⟨2, 0, _, _, z, w_scene_2 cwL (cwC hrm) (cwC hrm) rfl (rwT (t_scene2 (.ref 30) (.ref 102) (.ref 104) (.ref 41) kp (nI k) d0 t x y hx (btw_F (a := 0) (b := 7) rfl rfl hy)) rfl), by apply c_mSceneF _ _ _ _ _ _ _ _ _ _ _ _ _ 2 (by decide) x y hR; exact Or.inr ⟨by cases hb9 : btw x 0 (sSc d0 - 1) with | true => rfl | false => exact absurd hx (hq.mp hb9), hy, rfl⟩, by apply c_thrown, fun q => absurd q (by decide), inv_i (hS.more (by omega)) hn hch⟩
    | true =>
      obtain ⟨i, hi, rfl⟩ := scn_of hsc hc6 hx
      obtain ⟨g, -, hg, rfl⟩ := btw_nat (a := 0) (b := 7) rfl rfl (by omega) hy
      exact ⟨0, _, _, _, _, w_scene cwL (cwC hrm) (cwC hrm) rfl (rwF (c_scene (.ref 30) (.ref 102) (.ref 104) (.ref 41) kp (nI k) d0 t (nI i) hx hte g hg) rfl rfl), c_mScene _ _ _ _ _ _ _ _ _ _ _ _ _ hR hO c i hsc hc6 hi g hg, by apply c_thrown, fun _ => updL0 _ _, inv_i (hS.more (by omega)) hn hch⟩
  · exact ⟨1, 0, _, _, z, w_scene_1 cwL (cwC hrm) (cwC hrm) rfl (rwT (t_scene1 (.ref 30) (.ref 102) (.ref 104) (.ref 41) kp (nI k) d0 t x y hx) rfl), by apply c_mSceneF _ _ _ _ _ _ _ _ _ _ _ _ _ 1 (by decide) x y hR; exact Or.inl ⟨hq.mpr hx, rfl⟩, by apply c_thrown, fun q => absurd q (by decide), inv_i (hS.more (by omega)) hn hch⟩
theorem s_count (h : Inv b w0 m0) (hb : b + 2000 ≤ 2 ^ 28) (y : Int32) : ∃ (k9 mb : Int32) (w1 m1 : List va_E) (z1 : Nat → Int64), ConW yL_count cL_count 4 (some .int) [(0, 9, 12, 13)] (rmt 7 171) [.ref 0, .int y, .ref 95] (w0 ++ [OUT z]) (some (.int k9)) (w1 ++ [OUT z1]) ∧ Con yX6_count cX6_count 2 (some .int) (rmk 6 135) [.ref 0, .int y] m0 (some (.int mb)) m1 ∧ Con yX6_thrown cX6_thrown 1 (some .int) (rmk 0 0) [.ref 0] m1 (some (.int k9)) m1 ∧ (k9 = 0 → z1 0 = mb.toInt64) ∧ Inv (b + 2000) w1 m1 := by
  obtain ⟨kp, d0, d1, k, rm, R, cod, n, aw, op, fig, pop, pmk, pen, psts, ptd, t, th, at9, pt, nm, oq, hs, s, bg, tm, rfl, rfl, hS, hn, hch⟩ := h
  have hrm := hS.2.2.1.1
  have hk := hS.2.2.1.2.2.1
  have hR := hS.1
  have hO := hS.2.1.1
  have hD := hS.2.1.2.1
  have hte := hO.1.te
  cases hy : btw y 0 12 with
  | false => exact ⟨1, 0, _, _, z, w_count_1 cwL (cwC hrm) (cwC hrm) rfl (rwT (t_count (.ref 30) (.ref 102) (.ref 104) (.ref 41) kp (nI k) d0 t y (btw_F (a := 0) (b := 12) rfl rfl hy)) rfl), by apply c_mCountF; exact hy, by apply c_thrown, fun q => absurd q (by decide), inv_i (hS.more (by omega)) hn hch⟩
  | true =>
    obtain ⟨g, -, hg, rfl⟩ := btw_nat (a := 0) (b := 12) rfl rfl (by omega) hy
    exact ⟨0, _, _, _, _, w_count cwL (cwC hrm) (cwC hrm) rfl (rwF (c_count (.ref 30) (.ref 102) (.ref 104) (.ref 41) kp (nI k) d0 t g hg) rfl rfl), c_mCount _ _ _ _ _ _ _ _ _ _ _ _ _ hR hO hD g hg, by apply c_thrown, fun _ => updL0 _ _, inv_i (hS.more (by omega)) hn hch⟩
theorem s_why (h : Inv b w0 m0) (hb : b + 2000 ≤ 2 ^ 28) (y : Int32) : ∃ (k9 mb : Int32) (w1 m1 : List va_E) (z1 : Nat → Int64), ConW yL_why cL_why 4 (some .int) [(0, 9, 12, 13)] (rmt 7 171) [.ref 0, .int y, .ref 95] (w0 ++ [OUT z]) (some (.int k9)) (w1 ++ [OUT z1]) ∧ Con yX6_why cX6_why 2 (some .int) (rmk 4 94) [.ref 0, .int y] m0 (some (.int mb)) m1 ∧ Con yX6_thrown cX6_thrown 1 (some .int) (rmk 0 0) [.ref 0] m1 (some (.int k9)) m1 ∧ (k9 = 0 → z1 0 = mb.toInt64) ∧ Inv (b + 2000) w1 m1 := by
  obtain ⟨kp, d0, d1, k, rm, R, cod, n, aw, op, fig, pop, pmk, pen, psts, ptd, t, th, at9, pt, nm, oq, hs, s, bg, tm, rfl, rfl, hS, hn, hch⟩ := h
  have hrm := hS.2.2.1.1
  have hk := hS.2.2.1.2.2.1
  have hR := hS.1
  have hO := hS.2.1.1
  have hD := hS.2.1.2.1
  have hte := hO.1.te
  by_cases hx : y = 0 ∨ y = 1
  · exact ⟨0, _, _, _, _, w_why cwL (cwC hrm) (cwC hrm) rfl (rwF (c_why (.ref 30) (.ref 102) (.ref 104) (.ref 41) kp (nI k) d0 t y hx) rfl rfl), c_mWhy _ _ _ _ _ _ _ _ _ _ _ _ _ hR hO y hx, by apply c_thrown, fun _ => updL0 _ _, inv_i (hS.more (by omega)) hn hch⟩
  · exact ⟨1, 0, _, _, z, w_why_1 cwL (cwC hrm) (cwC hrm) rfl (rwT (t_why (.ref 30) (.ref 102) (.ref 104) (.ref 41) kp (nI k) d0 t y hx) rfl), by apply c_mwhyF; exact btw_no (fun q => hx ((dir_btw y).mp q)), by apply c_thrown, fun q => absurd q (by decide), inv_i (hS.more (by omega)) hn hch⟩
theorem s_jamsIn (h : Inv b w0 m0) (hb : b + 2000 ≤ 2 ^ 28) (y : Int32) : ∃ (k9 mb : Int32) (w1 m1 : List va_E) (z1 : Nat → Int64), ConW yL_jamsIn cL_jamsIn 4 (some .int) [(0, 9, 12, 13)] (rmt 7 174) [.ref 0, .int y, .ref 95] (w0 ++ [OUT z]) (some (.int k9)) (w1 ++ [OUT z1]) ∧ Con yX6_jamsIn cX6_jamsIn 2 (some .int) (rmk 4 94) [.ref 0, .int y] m0 (some (.int mb)) m1 ∧ Con yX6_thrown cX6_thrown 1 (some .int) (rmk 0 0) [.ref 0] m1 (some (.int k9)) m1 ∧ (k9 = 0 → z1 0 = mb.toInt64) ∧ Inv (b + 2000) w1 m1 := by
  obtain ⟨kp, d0, d1, k, rm, R, cod, n, aw, op, fig, pop, pmk, pen, psts, ptd, t, th, at9, pt, nm, oq, hs, s, bg, tm, rfl, rfl, hS, hn, hch⟩ := h
  have hrm := hS.2.2.1.1
  have hk := hS.2.2.1.2.2.1
  have hR := hS.1
  have hO := hS.2.1.1
  have hD := hS.2.1.2.1
  have hte := hO.1.te
  by_cases hx : y = 0 ∨ y = 1
  · exact ⟨0, _, _, _, _, w_jamsIn cwL (cwC hrm) (cwC hrm) rfl (rwF (c_jamsIn (.ref 30) (.ref 102) (.ref 104) (.ref 41) kp (nI k) d0 t y hx hte) rfl rfl), c_mJamsIn _ _ _ _ _ _ _ _ _ _ _ _ _ hR hO y hx, by apply c_thrown, fun _ => updL0 _ _, inv_i (hS.more (by omega)) hn hch⟩
  · exact ⟨1, 0, _, _, z, w_jamsIn_1 cwL (cwC hrm) (cwC hrm) rfl (rwT (t_jamsIn (.ref 30) (.ref 102) (.ref 104) (.ref 41) kp (nI k) d0 t y hx) rfl), by apply c_mjamsInF; exact btw_no (fun q => hx ((dir_btw y).mp q)), by apply c_thrown, fun q => absurd q (by decide), inv_i (hS.more (by omega)) hn hch⟩
theorem s_frees (h : Inv b w0 m0) (hb : b + 2000 ≤ 2 ^ 28) (y : Int32) : ∃ (k9 mb : Int32) (w1 m1 : List va_E) (z1 : Nat → Int64), ConW yL_frees cL_frees 4 (some .int) [(0, 9, 12, 13)] (rmt 7 173) [.ref 0, .int y, .ref 95] (w0 ++ [OUT z]) (some (.int k9)) (w1 ++ [OUT z1]) ∧ Con yX6_frees cX6_frees 2 (some .int) (rmk 5 117) [.ref 0, .int y] m0 (some (.int mb)) m1 ∧ Con yX6_thrown cX6_thrown 1 (some .int) (rmk 0 0) [.ref 0] m1 (some (.int k9)) m1 ∧ (k9 = 0 → z1 0 = mb.toInt64) ∧ Inv (b + 2000) w1 m1 := by
  obtain ⟨kp, d0, d1, k, rm, R, cod, n, aw, op, fig, pop, pmk, pen, psts, ptd, t, th, at9, pt, nm, oq, hs, s, bg, tm, rfl, rfl, hS, hn, hch⟩ := h
  have hrm := hS.2.2.1.1
  have hk := hS.2.2.1.2.2.1
  have hR := hS.1
  have hO := hS.2.1.1
  have hD := hS.2.1.2.1
  have hte := hO.1.te
  by_cases hx : y = 0 ∨ y = 1
  · exact ⟨0, _, _, _, _, w_frees cwL (cwC hrm) (cwC hrm) rfl (rwF (c_frees (.ref 30) (.ref 102) (.ref 104) (.ref 41) kp (nI k) d0 t y hx) rfl rfl), c_mFrees _ _ _ _ _ _ _ _ _ _ _ _ _ hR hO y hx, by apply c_thrown, fun _ => updL0 _ _, inv_i (hS.more (by omega)) hn hch⟩
  · exact ⟨1, 0, _, _, z, w_frees_1 cwL (cwC hrm) (cwC hrm) rfl (rwT (t_frees (.ref 30) (.ref 102) (.ref 104) (.ref 41) kp (nI k) d0 t y hx) rfl), by apply c_mfreesF; exact btw_no (fun q => hx ((dir_btw y).mp q)), by apply c_thrown, fun q => absurd q (by decide), inv_i (hS.more (by omega)) hn hch⟩
theorem s_round (h : Inv b w0 m0) (hb : b + 2000 ≤ 2 ^ 28) (y : Int32) : ∃ (k9 mb : Int32) (w1 m1 : List va_E) (z1 : Nat → Int64), ConW yL_round cL_round 4 (some .int) [(0, 9, 12, 13)] (rmt 7 171) [.ref 0, .int y, .ref 95] (w0 ++ [OUT z]) (some (.int k9)) (w1 ++ [OUT z1]) ∧ Con yX6_round cX6_round 2 (some .int) (rmk 2 42) [.ref 0, .int y] m0 (some (.int mb)) m1 ∧ Con yX6_thrown cX6_thrown 1 (some .int) (rmk 0 0) [.ref 0] m1 (some (.int k9)) m1 ∧ (k9 = 0 → z1 0 = mb.toInt64) ∧ Inv (b + 2000) w1 m1 := by
  obtain ⟨kp, d0, d1, k, rm, R, cod, n, aw, op, fig, pop, pmk, pen, psts, ptd, t, th, at9, pt, nm, oq, hs, s, bg, tm, rfl, rfl, hS, hn, hch⟩ := h
  have hrm := hS.2.2.1.1
  have hk := hS.2.2.1.2.2.1
  have hR := hS.1
  have hO := hS.2.1.1
  have hD := hS.2.1.2.1
  have hte := hO.1.te
  by_cases hx : y = 0 ∨ y = 1
  · have hM := c_mRound th (nI k) (nI n) at9 pt nm oq kp hs s cod bg tm hR hO y hx
    rcases hx with rfl | rfl
    · exact ⟨0, _, _, _, _, w_round cwL (cwC hrm) (cwC hrm) rfl (rwF (c_round0 (.ref 30) (.ref 102) (.ref 104) (.ref 41) kp (nI k) d0 t hO.1) rfl rfl), hM, by apply c_thrown, fun _ => updL0 _ _, inv_i (hS.more (by omega)) hn hch⟩
    · exact ⟨0, _, _, _, _, w_round cwL (cwC hrm) (cwC hrm) rfl (rwF (c_round1 (.ref 30) (.ref 102) (.ref 104) (.ref 41) kp (nI k) d0 t hte) rfl rfl), hM, by apply c_thrown, fun _ => updL0 _ _, inv_i (hS.more (by omega)) hn hch⟩
  · have hy := btw_no (fun q => hx ((dir_btw y).mp q))
    exact ⟨1, 0, _, _, z, w_round_1 cwL (cwC hrm) (cwC hrm) rfl (rwT (t_round (.ref 30) (.ref 102) (.ref 104) (.ref 41) kp (nI k) d0 t y (btw_F (a := 0) (b := 1) rfl rfl hy)) rfl), by apply c_mroundF; exact hy, by apply c_thrown, fun q => absurd q (by decide), inv_i (hS.more (by omega)) hn hch⟩
theorem s_ahead (h : Inv b w0 m0) (hb : b + 2000 ≤ 2 ^ 28) (x y : Int32) : ∃ (k9 mb : Int32) (w1 m1 : List va_E) (z1 : Nat → Int64), ConW yL_ahead cL_ahead 5 (some .int) [(0, 10, 13, 18), (0, 10, 17, 13)] (rmt 7 172) [.ref 0, .int x, .int y, .ref 95] (w0 ++ [OUT z]) (some (.int k9)) (w1 ++ [OUT z1]) ∧ Con yX6_ahead cX6_ahead 3 (some .int) (rmk 2 46) [.ref 0, .int x, .int y] m0 (some (.int mb)) m1 ∧ Con yX6_thrown cX6_thrown 1 (some .int) (rmk 0 0) [.ref 0] m1 (some (.int k9)) m1 ∧ (k9 = 0 → z1 0 = mb.toInt64) ∧ Inv (b + 2000) w1 m1 := by
  obtain ⟨kp, d0, d1, k, rm, R, cod, n, aw, op, fig, pop, pmk, pen, psts, ptd, t, th, at9, pt, nm, oq, hs, s, bg, tm, rfl, rfl, hS, hn, hch⟩ := h
  have hrm := hS.2.2.1.1
  have hk := hS.2.2.1.2.2.1
  have hR := hS.1
  have hO := hS.2.1.1
  have hD := hS.2.1.2.1
  have hte := hO.1.te
  cases hc : iswh y with
  | false => exact ⟨1, 0, _, _, z, w_ahead_1 cwL (cwC hrm) (cwC hrm) rfl (rwT (t_ahead1 (.ref 30) (.ref 102) (.ref 104) (.ref 41) kp (nI k) d0 t x y hc) rfl), by apply c_mAheadF _ _ _ _ _ _ _ _ _ _ _ _ _ 1 (by decide) x y; exact Or.inl ⟨by rw [wh_btw]; exact hc, rfl⟩, by apply c_thrown, fun q => absurd q (by decide), inv_i (hS.more (by omega)) hn hch⟩
  | true =>
    cases hy : btw x (-9999) 9999 with
    | false => exact ⟨2, 0, _, _, z, w_ahead_2 cwL (cwC hrm) (cwC hrm) rfl (rwT (t_ahead2 (.ref 30) (.ref 102) (.ref 104) (.ref 41) kp (nI k) d0 t x y hc (btw_F (a := -9999) (b := 9999) rfl rfl hy)) rfl), by apply c_mAheadF _ _ _ _ _ _ _ _ _ _ _ _ _ 2 (by decide) x y; exact Or.inr ⟨by rw [wh_btw]; exact hc, hy, rfl⟩, by apply c_thrown, fun q => absurd q (by decide), inv_i (hS.more (by omega)) hn hch⟩
    | true =>
      obtain ⟨w, hw, rfl⟩ := wh_of hc
      exact ⟨0, _, _, _, _, w_ahead cwL (cwC hrm) (cwC hrm) rfl (rwF (c_ahead (.ref 30) (.ref 102) (.ref 104) (.ref 41) kp (nI k) d0 t x (nI w) (nI5 w hw) ((btw_iff (a := -9999) (b := 9999) rfl rfl).mp hy)) rfl rfl), c_mAhead _ _ _ _ _ _ _ _ _ _ _ _ _ hR hO w hw x hy, by apply c_thrown, fun _ => updL0 _ _, inv_i (hS.more (by omega)) hn hch⟩
theorem s_lift (h : Inv b w0 m0) (hb : b + 2000 ≤ 2 ^ 28) : ∃ (v : Int32) (w1 m1 : List va_E), Con yX5_lift cX5_lift 2 (some .int) (rmk 4 105) [.ref 0] w0 (some (.int v)) w1 ∧ Con yX6_lift cX6_lift 2 (some .int) (rmk 3 62) [.ref 0] m0 (some (.int v)) m1 ∧ Inv (b + 2000) w1 m1 := by
  obtain ⟨kp, d0, d1, k, rm, R, cod, n, aw, op, fig, pop, pmk, pen, psts, ptd, t, th, at9, pt, nm, oq, hs, s, bg, tm, rfl, rfl, hS, hn, hch⟩ := h
  have hrm := hS.2.2.1.1
  have hk := hS.2.2.1.2.2.1
  have hR := hS.1
  have hO := hS.2.1.1
  have hD := hS.2.1.2.1
  have hte := hO.1.te
  have hR2 : Rp (upd (svS s k) 77 1) (liD d0 true) := Rp_li hO (Rp_sv hO hR k) true
  exact ⟨_, _, _, c_lift _ _ _ _ _ _ _ _ _ _ _ _ _ _ _ _ _ hrm hk, c_mLift _ _ _ _ _ _ _ _ _ _ _ _ _ hk hR hO, inv_i (hS.push (by omega) (sHi_upd (sHi_rf _) (by omega) _) hR2 ((GOk_li hS.2.1 true).more (by omega))) hn hch⟩
theorem s_clearBuffer (h : Inv b w0 m0) (hb : b + 2000 ≤ 2 ^ 28) : ∃ (v : Int32) (w1 m1 : List va_E), Con yX5_clearBuffer cX5_clearBuffer 2 (some .int) (rmk 0 0) [.ref 0] w0 (some (.int v)) w1 ∧ Con yX6_clearBuffer cX6_clearBuffer 2 (some .int) (rmk 0 0) [.ref 0] m0 (some (.int v)) m1 ∧ Inv (b + 2000) w1 m1 := by
  obtain ⟨kp, d0, d1, k, rm, R, cod, n, aw, op, fig, pop, pmk, pen, psts, ptd, t, th, at9, pt, nm, oq, hs, s, bg, tm, rfl, rfl, hS, hn, hch⟩ := h
  have hrm := hS.2.2.1.1
  have hk := hS.2.2.1.2.2.1
  have hR := hS.1
  have hO := hS.2.1.1
  have hD := hS.2.1.2.1
  have hte := hO.1.te
  exact ⟨_, _, _, by apply c_clearBuffer, by apply c_mClear, inv_z (hS.more (by omega)) (fun j hj => by omega)⟩
theorem s_firstError (h : Inv b w0 m0) (hb : b + 2000 ≤ 2 ^ 28) : ∃ (v : Int32) (w1 m1 : List va_E), Con yX5_firstError cX5_firstError 1 (some .int) (rmk 4 84) [.ref 0] w0 (some (.int v)) w1 ∧ Con yX6_firstError cX6_firstError 1 (some .int) (rmk 4 87) [.ref 0] m0 (some (.int v)) m1 ∧ Inv (b + 2000) w1 m1 := by
  obtain ⟨kp, d0, d1, k, rm, R, cod, n, aw, op, fig, pop, pmk, pen, psts, ptd, t, th, at9, pt, nm, oq, hs, s, bg, tm, rfl, rfl, hS, hn, hch⟩ := h
  have hrm := hS.2.2.1.1
  have hk := hS.2.2.1.2.2.1
  have hR := hS.1
  have hO := hS.2.1.1
  have hD := hS.2.1.2.1
  have hte := hO.1.te
  obtain ⟨q1, -⟩ := rd_iwG cod n hch pt nm fig
  have hM := c_mFirstError th (nI k) at9 pt nm oq kp hs s cod bg tm n hn
  rw [q1] at hM
  exact ⟨_, _, _, by apply c_firstError; exact hn, hM, inv_i (hS.more (by omega)) hn hch⟩
theorem s_keep (h : Inv b w0 m0) (hb : b + 2000 ≤ 2 ^ 28) : ∃ (v : Int32) (w1 m1 : List va_E), Con yX5_keep cX5_keep 1 (some .int) (rmk 3 84) [.ref 0] w0 (some (.int v)) w1 ∧ Con yX6_keep cX6_keep 1 (some .int) (rmk 1 23) [.ref 0] m0 (some (.int v)) m1 ∧ Inv (b + 2000) w1 m1 := by
  obtain ⟨kp, d0, d1, k, rm, R, cod, n, aw, op, fig, pop, pmk, pen, psts, ptd, t, th, at9, pt, nm, oq, hs, s, bg, tm, rfl, rfl, hS, hn, hch⟩ := h
  have hrm := hS.2.2.1.1
  have hk := hS.2.2.1.2.2.1
  have hR := hS.1
  have hO := hS.2.1.1
  have hD := hS.2.1.2.1
  have hte := hO.1.te
  exact ⟨_, _, _, by apply c_keep, by apply c_mKeep; exact hR, inv_i (hS.keep.more (by omega)) hn hch⟩
theorem s_allowedShare (h : Inv b w0 m0) (hb : b + 2000 ≤ 2 ^ 28) : ∃ (v : UInt64) (w1 m1 : List va_E), Con yX5_allowedShare cX5_allowedShare 4 (some .double) (rmk 3 68) [.ref 0] w0 (some (.double v)) w1 ∧ Con yX6_allowedShare cX6_allowedShare 1 (some .double) (rmk 4 94) [.ref 0] m0 (some (.double v)) m1 ∧ Inv (b + 2000) w1 m1 := by
  obtain ⟨kp, d0, d1, k, rm, R, cod, n, aw, op, fig, pop, pmk, pen, psts, ptd, t, th, at9, pt, nm, oq, hs, s, bg, tm, rfl, rfl, hS, hn, hch⟩ := h
  have hrm := hS.2.2.1.1
  have hk := hS.2.2.1.2.2.1
  have hR := hS.1
  have hO := hS.2.1.1
  have hD := hS.2.1.2.1
  have hte := hO.1.te
  have hnn := sh_n hS.2.1
  exact ⟨shD d0, _, _, rwF (c_allowedShare (.ref 30) (.ref 102) (.ref 104) (.ref 41) kp (nI k) d0 t hte hnn) rfl rfl, c_mAllowedShare _ _ _ _ _ _ _ _ _ _ _ _ _ hR hO hnn, inv_i (hS.more (by omega)) hn hch⟩
theorem s_meanHeight (h : Inv b w0 m0) (hb : b + 2000 ≤ 2 ^ 28) : ∃ (v : UInt32) (w1 m1 : List va_E), vf_n64 (FP.f2d v) ∧ Con yX5_meanHeight cX5_meanHeight 3 (some .float) (rmk 2 46) [.ref 0] w0 (some (.float v)) w1 ∧ Con yX6_meanHeight cX6_meanHeight 1 (some .float) (rmk 6 134) [.ref 0] m0 (some (.float v)) m1 ∧ Inv (b + 2000) w1 m1 := by
  obtain ⟨kp, d0, d1, k, rm, R, cod, n, aw, op, fig, pop, pmk, pen, psts, ptd, t, th, at9, pt, nm, oq, hs, s, bg, tm, rfl, rfl, hS, hn, hch⟩ := h
  have hrm := hS.2.2.1.1
  have hk := hS.2.2.1.2.2.1
  have hR := hS.1
  have hO := hS.2.1.1
  have hD := hS.2.1.2.1
  have hte := hO.1.te
  obtain ⟨v9, v1, v2⟩ := mn_V hS.2.1
  have hnn : vf_n32 (mnD d0) := by rw [v2]; exact (mean_all v9 v1).1
  exact ⟨mnD d0, _, _, by rw [v2]; exact (mean_all v9 v1).2.1, rwF (c_meanHeight (.ref 30) (.ref 102) (.ref 104) (.ref 41) kp (nI k) d0 t hnn) rfl rfl, c_mMeanHeight _ _ _ _ _ _ _ _ _ _ _ _ _ hR hO hD hnn, inv_i (hS.more (by omega)) hn hch⟩
theorem cl_dig (d : SD) (c : Nat) (sv : Int32) (kp : Bool) (n : Nat) (tx : Nat → Int32) (zb : Int64) (zf : Int32) (h1 : bitG (shD d) 52 1023 = zb) (h2 : bitG (FP.f2d (mnD d)) 23 127 = zf.toInt64) : digM d c sv kp n tx zb zf = clD d c sv kp n tx := by
  have e : (if kp = true then (1 : Int64) else 0) = (b2i kp).toInt64 := by cases kp <;> rfl
  rw [digM, clD, digC, digB, mxW, h1, h2, e]
theorem s_digest (h : Inv b w0 m0) (hb : b + 2000 ≤ 2 ^ 28) : ∃ (v : Int64) (w1 m1 : List va_E), Con yX5_digest cX5_digest 4 (some .long) (rmk 8 199) [.ref 0] w0 (some (.long v)) w1 ∧ Con yX6_digest cX6_digest 2 (some .long) (rmk 6 137) [.ref 0] m0 (some (.long v)) m1 ∧ Inv (b + 2000) w1 m1 := by
  obtain ⟨kp, d0, d1, k, rm, R, cod, n, aw, op, fig, pop, pmk, pen, psts, ptd, t, th, at9, pt, nm, oq, hs, s, bg, tm, rfl, rfl, hS, hn, hch⟩ := h
  have hrm := hS.2.2.1.1
  have hk := hS.2.2.1.2.2.1
  have hR := hS.1
  have hO := hS.2.1.1
  have hD := hS.2.1.2.1
  have hte := hO.1.te
  obtain ⟨c, hc6, hsc⟩ := hO.2
  have hnn := sh_n hS.2.1
  obtain ⟨v9, v1, v2⟩ := mn_V hS.2.1
  obtain ⟨n1, n2, n3⟩ := mean_all v9 v1
  rw [← v2] at n1 n2 n3
  obtain ⟨sc, sj, sj20, sN⟩ := sh_Nm hS.2.1
  obtain ⟨bv, bx, b1, b2⟩ := share_bits sN sj20
  have kb := c_bits (shD d0) bv bx hnn b1
  have hK := c_digest kp d0 d1 k rm R cod aw op fig pop pmk pen psts ptd t n hn hO.1 hte c hc6 hsc hnn n1 n2 _ rfl
  have fin : ∀ zf : Int32, bitG (FP.f2d (mnD d0)) 23 127 = zf.toInt64 → Con yX6_floatBits cX6_floatBits 3 (some .int) (rmk 0 0) [.float (mnD d0)] [] (some (.int zf)) [] → ∃ (v : Int64) (w1 m1 : List va_E), Con yX5_digest cX5_digest 4 (some .long) (rmk 8 199) [.ref 0] (CW kp d0 d1 k rm R cod (nI n) aw op fig pop pmk pen psts ptd t) (some (.long v)) w1 ∧ Con yX6_digest cX6_digest 2 (some .long) (rmk 6 137) [.ref 0] (MW th (nI k) (nI n) at9 pt nm oq kp hs s cod bg tm) (some (.long v)) m1 ∧ Inv (b + 2000) w1 m1 := by
    intro zf e kf
    have hM := c_mDigest th at9 pt nm oq kp s cod bg tm (nI k) hs n hn hR hO hD c hsc hc6 hnn n1 _ zf kb kf
    rw [cl_dig d0 c (nI k) kp n cod _ zf b2 e] at hM
    exact ⟨_, _, _, hK, hM, inv_i (hS.more (by omega)) hn hch⟩
  rcases n3 with ⟨z1, z2⟩ | ⟨z1, v3, v4, x3, x4, f1, f2, f3, f4, f5⟩
  · exact fin 0 (by rw [z2]; rfl) (c_floatBits0 (mnD d0) z1)
  · exact fin _ f5 (c_floatBits (mnD d0) v3 v4 x3 x4 z1 f1 f2 f3 f4)
end


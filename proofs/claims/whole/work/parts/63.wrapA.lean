abbrev OUT (z : Nat → Int64) : va_E := .inl (2, 1, .inr (.inl z))
theorem w_at {w1 : List va_E} {e : va_E} (h : w1.length = 95) : (w1 ++ [e])[95]? = some e := by rw [List.getElem?_append_right (by omega), h]; rfl
theorem w_sat {w1 : List va_E} {e e2 : va_E} (h : w1.length = 95) : (w1 ++ [e]).set 95 e2 = w1 ++ [e2] := by rw [List.set_append_right _ _ (by omega), h]; rfl
theorem w_len {w0 w1 : List va_E} {e e2 : va_E} (h0 : w0.length = 95) (h1 : w1.length = 95) : (w1 ++ [e]).length = (w0 ++ [e2]).length := by rw [List.length_append, List.length_append, h0, h1]; rfl
theorem w_turn {w0 w1 : List va_E} {v : Int32} {z : Nat → Int64} {p0 : Int32} {fs : List Value} (h0 : w0.length = 95) (c0 : clW 95 w0) (c1 : clW 95 w1) (hh : w0[0]? = some (.inr (5, fs))) (hc : Con yX5_turn cX5_turn 5 (some .int) (rmk 6 150) [.ref 0, .int p0] w0 (some (.int v)) w1) : ConW yL_turn cL_turn 4 (some .int) [(0, 9, 12, 13)] (rmt 7 174) [.ref 0, .int p0, .ref 95] (w0 ++ [OUT z]) (some (.int 0)) (w1 ++ [OUT (vp_updL z 0 v.toInt64)]) := by
  have h1 : w1.length = 95 := by rw [hc.1, h0]
  refine ConW.of (by decide) rfl (Nat.le_of_ble_eq_true rfl) (w_len h0 h1) (fun B M => ?_)
  refine g_aload_n M dL_turn_0 rfl ?_
  refine g_iconst M 0 dL_turn_1 (by decide) ?_
  refine g_aload_n M dL_turn_2 rfl ?_
  refine g_iload_n M dL_turn_3 rfl ?_
  refine g_V1iu (w' := w1 ++ [OUT z]) M hc lk_L_7 dL_turn_4 (by decide +kernel) ⟨Nat.le_of_ble_eq_true rfl, Nat.le_of_ble_eq_true rfl⟩ ⟨rfl, rfl⟩ (List.range 95) (by rw [List.getElem?_append_left (by omega)]; exact hh) rfl rfl nd95 (sel_pre nd95 h0 c0) (Nat.le_of_ble_eq_true rfl) (put_pre nd95 h0 h1 c1) ?_
  refine g_i2l M dL_turn_7 ?_
  refine g_last M dL_turn_8 (w_at h1) (show vp_in (nI 0) 1 from vp_in_nI (by omega) (by omega)) ?_
  rw [w_sat h1]
  refine g_goto M 15 dL_turn_9 (by decide) ?_
  refine g_iconst M 0 dL_turn_15 (by decide) ?_
  exact g_wret M dL_turn_16 rfl rfl rfl
theorem w_turn_1 {w0 w1 : List va_E} {z : Nat → Int64} {p0 : Int32} {fs : List Value} (h0 : w0.length = 95) (c0 : clW 95 w0) (c1 : clW 95 w1) (hh : w0[0]? = some (.inr (5, fs))) (hc : ConT yX5_turn cX5_turn 5 (some .int) (rmt 6 150) [.ref 0, .int p0] w0 xIA w1) : ConW yL_turn cL_turn 4 (some .int) [(0, 9, 12, 13)] (rmt 7 174) [.ref 0, .int p0, .ref 95] (w0 ++ [OUT z]) (some (.int 1)) (w1 ++ [OUT z]) := by
  have h1 : w1.length = 95 := by rw [hc.1, h0]
  refine ConW.of (by decide) rfl (Nat.le_of_ble_eq_true rfl) (w_len h0 h1) (fun B M => ?_)
  refine g_aload_n M dL_turn_0 rfl ?_
  refine g_iconst M 0 dL_turn_1 (by decide) ?_
  refine g_aload_n M dL_turn_2 rfl ?_
  refine g_iload_n M dL_turn_3 rfl ?_
  refine g_callT (n := 1) (As := [.int p0]) (h := 12) (h2 := 13) M hc lk_L_7 dL_turn_4 (by decide +kernel) ⟨Nat.le_of_ble_eq_true rfl, Nat.le_of_ble_eq_true rfl⟩ ⟨rfl, rfl⟩ (List.range 95) (by rw [List.getElem?_append_left (by omega)]; exact hh) rfl rfl rfl nd95 (sel_pre nd95 h0 c0) (Nat.le_of_ble_eq_true rfl) (⟨[], ⟨0, 9, 12, 13⟩, [], rfl, (fun z hz => nomatch hz), by decide, by decide, gw1 591 (by decide +kernel) (by decide +kernel), rfl, fun _ _ _ h => h.2.2.1.1⟩) (Or.inl ⟨3, dL_turn_12, by decide, rfl⟩) (fun B M => ?_)
  rw [put_pre nd95 h0 h1 c1]
  refine g_iconst M 1 dL_turn_13 (by decide) ?_
  exact g_wret M dL_turn_14 rfl rfl rfl
theorem lw_turn : GoodIn GW (va_wsS RL 89 yL_turn (wsh yL_turn cL_turn 4 (some .int) [(0, 9, 12, 13)])) := gok (cd := Cond.codeWith yL_turn cL_turn 4 (some .int) [(0, 9, 12, 13)]) (l := [Cond.methodLink RL 89 yL_turn, Cond.static yL_turn, Cond.initialized yL_turn.cls]) (gws _ [588, 589, 53, 590] (by decide +kernel) (by decide +kernel))
theorem w_stop {w0 w1 : List va_E} {v : Int32} {z : Nat → Int64} {p0 : Int32} {fs : List Value} (h0 : w0.length = 95) (c0 : clW 95 w0) (c1 : clW 95 w1) (hh : w0[0]? = some (.inr (5, fs))) (hc : Con yX5_stop cX5_stop 2 (some .int) (rmk 6 150) [.ref 0, .int p0] w0 (some (.int v)) w1) : ConW yL_stop cL_stop 4 (some .int) [(0, 9, 12, 18)] (rmt 7 171) [.ref 0, .int p0, .ref 95] (w0 ++ [OUT z]) (some (.int 0)) (w1 ++ [OUT (vp_updL z 0 v.toInt64)]) := by
  have h1 : w1.length = 95 := by rw [hc.1, h0]
  refine ConW.of (by decide) rfl (Nat.le_of_ble_eq_true rfl) (w_len h0 h1) (fun B M => ?_)
  refine g_aload_n M dL_stop_0 rfl ?_
  refine g_iconst M 0 dL_stop_1 (by decide) ?_
  refine g_aload_n M dL_stop_2 rfl ?_
  refine g_iload_n M dL_stop_3 rfl ?_
  refine g_V1iu (w' := w1 ++ [OUT z]) M hc lk_L_15 dL_stop_4 (by decide +kernel) ⟨Nat.le_of_ble_eq_true rfl, Nat.le_of_ble_eq_true rfl⟩ ⟨rfl, rfl⟩ (List.range 95) (by rw [List.getElem?_append_left (by omega)]; exact hh) rfl rfl nd95 (sel_pre nd95 h0 c0) (Nat.le_of_ble_eq_true rfl) (put_pre nd95 h0 h1 c1) ?_
  refine g_i2l M dL_stop_7 ?_
  refine g_last M dL_stop_8 (w_at h1) (show vp_in (nI 0) 1 from vp_in_nI (by omega) (by omega)) ?_
  rw [w_sat h1]
  refine g_goto M 15 dL_stop_9 (by decide) ?_
  refine g_iconst M 0 dL_stop_15 (by decide) ?_
  exact g_wret M dL_stop_16 rfl rfl rfl
theorem w_stop_1 {w0 w1 : List va_E} {z : Nat → Int64} {p0 : Int32} {fs : List Value} (h0 : w0.length = 95) (c0 : clW 95 w0) (c1 : clW 95 w1) (hh : w0[0]? = some (.inr (5, fs))) (hc : ConT yX5_stop cX5_stop 2 (some .int) (rmt 6 150) [.ref 0, .int p0] w0 xIB w1) : ConW yL_stop cL_stop 4 (some .int) [(0, 9, 12, 18)] (rmt 7 171) [.ref 0, .int p0, .ref 95] (w0 ++ [OUT z]) (some (.int 1)) (w1 ++ [OUT z]) := by
  have h1 : w1.length = 95 := by rw [hc.1, h0]
  refine ConW.of (by decide) rfl (Nat.le_of_ble_eq_true rfl) (w_len h0 h1) (fun B M => ?_)
  refine g_aload_n M dL_stop_0 rfl ?_
  refine g_iconst M 0 dL_stop_1 (by decide) ?_
  refine g_aload_n M dL_stop_2 rfl ?_
  refine g_iload_n M dL_stop_3 rfl ?_
  refine g_callT (n := 1) (As := [.int p0]) (h := 12) (h2 := 13) M hc lk_L_15 dL_stop_4 (by decide +kernel) ⟨Nat.le_of_ble_eq_true rfl, Nat.le_of_ble_eq_true rfl⟩ ⟨rfl, rfl⟩ (List.range 95) (by rw [List.getElem?_append_left (by omega)]; exact hh) rfl rfl rfl nd95 (sel_pre nd95 h0 c0) (Nat.le_of_ble_eq_true rfl) (⟨[], ⟨0, 9, 12, 18⟩, [], rfl, (fun z hz => nomatch hz), by decide, by decide, gw1 605 (by decide +kernel) (by decide +kernel), rfl, fun _ _ _ h => h.2.2.1.2.1⟩) (Or.inl ⟨3, dL_stop_12, by decide, rfl⟩) (fun B M => ?_)
  rw [put_pre nd95 h0 h1 c1]
  refine g_iconst M 1 dL_stop_13 (by decide) ?_
  exact g_wret M dL_stop_14 rfl rfl rfl
theorem lw_stop : GoodIn GW (va_wsS RL 102 yL_stop (wsh yL_stop cL_stop 4 (some .int) [(0, 9, 12, 18)])) := gok (cd := Cond.codeWith yL_stop cL_stop 4 (some .int) [(0, 9, 12, 18)]) (l := [Cond.methodLink RL 102 yL_stop, Cond.static yL_stop, Cond.initialized yL_stop.cls]) (gws _ [602, 603, 53, 604] (by decide +kernel) (by decide +kernel))
theorem w_clutch {w0 w1 : List va_E} {v : Int32} {z : Nat → Int64} {p0 : Int32} {fs : List Value} (h0 : w0.length = 95) (c0 : clW 95 w0) (c1 : clW 95 w1) (hh : w0[0]? = some (.inr (5, fs))) (hc : Con yX5_clutch cX5_clutch 2 (some .int) (rmk 6 150) [.ref 0, .int p0] w0 (some (.int v)) w1) : ConW yL_clutch cL_clutch 4 (some .int) [(0, 9, 12, 18)] (rmt 7 171) [.ref 0, .int p0, .ref 95] (w0 ++ [OUT z]) (some (.int 0)) (w1 ++ [OUT (vp_updL z 0 v.toInt64)]) := by
  have h1 : w1.length = 95 := by rw [hc.1, h0]
  refine ConW.of (by decide) rfl (Nat.le_of_ble_eq_true rfl) (w_len h0 h1) (fun B M => ?_)
  refine g_aload_n M dL_clutch_0 rfl ?_
  refine g_iconst M 0 dL_clutch_1 (by decide) ?_
  refine g_aload_n M dL_clutch_2 rfl ?_
  refine g_iload_n M dL_clutch_3 rfl ?_
  refine g_V1iu (w' := w1 ++ [OUT z]) M hc lk_L_20 dL_clutch_4 (by decide +kernel) ⟨Nat.le_of_ble_eq_true rfl, Nat.le_of_ble_eq_true rfl⟩ ⟨rfl, rfl⟩ (List.range 95) (by rw [List.getElem?_append_left (by omega)]; exact hh) rfl rfl nd95 (sel_pre nd95 h0 c0) (Nat.le_of_ble_eq_true rfl) (put_pre nd95 h0 h1 c1) ?_
  refine g_i2l M dL_clutch_7 ?_
  refine g_last M dL_clutch_8 (w_at h1) (show vp_in (nI 0) 1 from vp_in_nI (by omega) (by omega)) ?_
  rw [w_sat h1]
  refine g_goto M 15 dL_clutch_9 (by decide) ?_
  refine g_iconst M 0 dL_clutch_15 (by decide) ?_
  exact g_wret M dL_clutch_16 rfl rfl rfl
theorem w_clutch_1 {w0 w1 : List va_E} {z : Nat → Int64} {p0 : Int32} {fs : List Value} (h0 : w0.length = 95) (c0 : clW 95 w0) (c1 : clW 95 w1) (hh : w0[0]? = some (.inr (5, fs))) (hc : ConT yX5_clutch cX5_clutch 2 (some .int) (rmt 6 150) [.ref 0, .int p0] w0 xIB w1) : ConW yL_clutch cL_clutch 4 (some .int) [(0, 9, 12, 18)] (rmt 7 171) [.ref 0, .int p0, .ref 95] (w0 ++ [OUT z]) (some (.int 1)) (w1 ++ [OUT z]) := by
  have h1 : w1.length = 95 := by rw [hc.1, h0]
  refine ConW.of (by decide) rfl (Nat.le_of_ble_eq_true rfl) (w_len h0 h1) (fun B M => ?_)
  refine g_aload_n M dL_clutch_0 rfl ?_
  refine g_iconst M 0 dL_clutch_1 (by decide) ?_
  refine g_aload_n M dL_clutch_2 rfl ?_
  refine g_iload_n M dL_clutch_3 rfl ?_
  refine g_callT (n := 1) (As := [.int p0]) (h := 12) (h2 := 13) M hc lk_L_20 dL_clutch_4 (by decide +kernel) ⟨Nat.le_of_ble_eq_true rfl, Nat.le_of_ble_eq_true rfl⟩ ⟨rfl, rfl⟩ (List.range 95) (by rw [List.getElem?_append_left (by omega)]; exact hh) rfl rfl rfl nd95 (sel_pre nd95 h0 c0) (Nat.le_of_ble_eq_true rfl) (⟨[], ⟨0, 9, 12, 18⟩, [], rfl, (fun z hz => nomatch hz), by decide, by decide, gw1 605 (by decide +kernel) (by decide +kernel), rfl, fun _ _ _ h => h.2.2.1.2.1⟩) (Or.inl ⟨3, dL_clutch_12, by decide, rfl⟩) (fun B M => ?_)
  rw [put_pre nd95 h0 h1 c1]
  refine g_iconst M 1 dL_clutch_13 (by decide) ?_
  exact g_wret M dL_clutch_14 rfl rfl rfl
theorem lw_clutch : GoodIn GW (va_wsS RL 105 yL_clutch (wsh yL_clutch cL_clutch 4 (some .int) [(0, 9, 12, 18)])) := gok (cd := Cond.codeWith yL_clutch cL_clutch 4 (some .int) [(0, 9, 12, 18)]) (l := [Cond.methodLink RL 105 yL_clutch, Cond.static yL_clutch, Cond.initialized yL_clutch.cls]) (gws _ [611, 612, 53, 613] (by decide +kernel) (by decide +kernel))
theorem w_hand {w0 w1 : List va_E} {v : Int32} {z : Nat → Int64} {p0 p1 : Int32} {fs : List Value} (h0 : w0.length = 95) (c0 : clW 95 w0) (c1 : clW 95 w1) (hh : w0[0]? = some (.inr (5, fs))) (hc : Con yX5_hand cX5_hand 3 (some .int) (rmk 6 150) [.ref 0, .int p0, .int p1] w0 (some (.int v)) w1) : ConW yL_hand cL_hand 5 (some .int) [(0, 10, 13, 18), (0, 10, 17, 13), (0, 10, 21, 27)] (rmt 7 172) [.ref 0, .int p0, .int p1, .ref 95] (w0 ++ [OUT z]) (some (.int 0)) (w1 ++ [OUT (vp_updL z 0 v.toInt64)]) := by
  have h1 : w1.length = 95 := by rw [hc.1, h0]
  refine ConW.of (by decide) rfl (Nat.le_of_ble_eq_true rfl) (w_len h0 h1) (fun B M => ?_)
  refine g_aload_n M dL_hand_0 rfl ?_
  refine g_iconst M 0 dL_hand_1 (by decide) ?_
  refine g_aload_n M dL_hand_2 rfl ?_
  refine g_iload_n M dL_hand_3 rfl ?_
  refine g_iload_n M dL_hand_4 rfl ?_
  refine g_V2iu (w' := w1 ++ [OUT z]) M hc lk_L_23 dL_hand_5 (by decide +kernel) ⟨Nat.le_of_ble_eq_true rfl, Nat.le_of_ble_eq_true rfl⟩ ⟨rfl, rfl⟩ (List.range 95) (by rw [List.getElem?_append_left (by omega)]; exact hh) rfl rfl nd95 (sel_pre nd95 h0 c0) (Nat.le_of_ble_eq_true rfl) (put_pre nd95 h0 h1 c1) ?_
  refine g_i2l M dL_hand_8 ?_
  refine g_last M dL_hand_9 (w_at h1) (show vp_in (nI 0) 1 from vp_in_nI (by omega) (by omega)) ?_
  rw [w_sat h1]
  refine g_goto M 25 dL_hand_10 (by decide) ?_
  refine g_iconst M 0 dL_hand_25 (by decide) ?_
  exact g_wret M dL_hand_26 rfl rfl rfl
theorem w_hand_1 {w0 w1 : List va_E} {z : Nat → Int64} {p0 p1 : Int32} {fs : List Value} (h0 : w0.length = 95) (c0 : clW 95 w0) (c1 : clW 95 w1) (hh : w0[0]? = some (.inr (5, fs))) (hc : ConT yX5_hand cX5_hand 3 (some .int) (rmt 6 150) [.ref 0, .int p0, .int p1] w0 xIB w1) : ConW yL_hand cL_hand 5 (some .int) [(0, 10, 13, 18), (0, 10, 17, 13), (0, 10, 21, 27)] (rmt 7 172) [.ref 0, .int p0, .int p1, .ref 95] (w0 ++ [OUT z]) (some (.int 1)) (w1 ++ [OUT z]) := by
  have h1 : w1.length = 95 := by rw [hc.1, h0]
  refine ConW.of (by decide) rfl (Nat.le_of_ble_eq_true rfl) (w_len h0 h1) (fun B M => ?_)
  refine g_aload_n M dL_hand_0 rfl ?_
  refine g_iconst M 0 dL_hand_1 (by decide) ?_
  refine g_aload_n M dL_hand_2 rfl ?_
  refine g_iload_n M dL_hand_3 rfl ?_
  refine g_iload_n M dL_hand_4 rfl ?_
  refine g_callT (n := 2) (As := [.int p0, .int p1]) (h := 13) (h2 := 15) M hc lk_L_23 dL_hand_5 (by decide +kernel) ⟨Nat.le_of_ble_eq_true rfl, Nat.le_of_ble_eq_true rfl⟩ ⟨rfl, rfl⟩ (List.range 95) (by rw [List.getElem?_append_left (by omega)]; exact hh) rfl rfl rfl nd95 (sel_pre nd95 h0 c0) (Nat.le_of_ble_eq_true rfl) (⟨[], ⟨0, 10, 13, 18⟩, [⟨0, 10, 17, 13⟩, ⟨0, 10, 21, 27⟩], rfl, (fun z hz => nomatch hz), by decide, by decide, gw1 605 (by decide +kernel) (by decide +kernel), rfl, fun _ _ _ h => h.2.2.1.2.1⟩) (Or.inr ⟨4, dL_hand_13, by decide, rfl⟩) (fun B M => ?_)
  rw [put_pre nd95 h0 h1 c1]
  refine g_iconst M 1 dL_hand_15 (by decide) ?_
  exact g_wret M dL_hand_16 rfl rfl rfl
theorem w_hand_2 {w0 w1 : List va_E} {z : Nat → Int64} {p0 p1 : Int32} {fs : List Value} (h0 : w0.length = 95) (c0 : clW 95 w0) (c1 : clW 95 w1) (hh : w0[0]? = some (.inr (5, fs))) (hc : ConT yX5_hand cX5_hand 3 (some .int) (rmt 6 150) [.ref 0, .int p0, .int p1] w0 xIA w1) : ConW yL_hand cL_hand 5 (some .int) [(0, 10, 13, 18), (0, 10, 17, 13), (0, 10, 21, 27)] (rmt 7 172) [.ref 0, .int p0, .int p1, .ref 95] (w0 ++ [OUT z]) (some (.int 2)) (w1 ++ [OUT z]) := by
  have h1 : w1.length = 95 := by rw [hc.1, h0]
  refine ConW.of (by decide) rfl (Nat.le_of_ble_eq_true rfl) (w_len h0 h1) (fun B M => ?_)
  refine g_aload_n M dL_hand_0 rfl ?_
  refine g_iconst M 0 dL_hand_1 (by decide) ?_
  refine g_aload_n M dL_hand_2 rfl ?_
  refine g_iload_n M dL_hand_3 rfl ?_
  refine g_iload_n M dL_hand_4 rfl ?_
  refine g_callT (n := 2) (As := [.int p0, .int p1]) (h := 17) (h2 := 19) M hc lk_L_23 dL_hand_5 (by decide +kernel) ⟨Nat.le_of_ble_eq_true rfl, Nat.le_of_ble_eq_true rfl⟩ ⟨rfl, rfl⟩ (List.range 95) (by rw [List.getElem?_append_left (by omega)]; exact hh) rfl rfl rfl nd95 (sel_pre nd95 h0 c0) (Nat.le_of_ble_eq_true rfl) (⟨[⟨0, 10, 13, 18⟩], ⟨0, 10, 17, 13⟩, [⟨0, 10, 21, 27⟩], rfl, (fun z hz => by rw [List.mem_singleton.mp hz]; exact ⟨by decide, xIB, gw1 605 (by decide +kernel) (by decide +kernel), fun _ _ _ h => h.2.2.2.1.1⟩), by decide, by decide, gw1 591 (by decide +kernel) (by decide +kernel), rfl, fun _ _ _ h => h.2.2.1.1⟩) (Or.inr ⟨4, dL_hand_17, by decide, rfl⟩) (fun B M => ?_)
  rw [put_pre nd95 h0 h1 c1]
  refine g_iconst M 2 dL_hand_19 (by decide) ?_
  exact g_wret M dL_hand_20 rfl rfl rfl
theorem w_hand_3 {w0 w1 : List va_E} {z : Nat → Int64} {p0 p1 : Int32} {fs : List Value} (h0 : w0.length = 95) (c0 : clW 95 w0) (c1 : clW 95 w1) (hh : w0[0]? = some (.inr (5, fs))) (hc : ConT yX5_hand cX5_hand 3 (some .int) (rmt 6 150) [.ref 0, .int p0, .int p1] w0 xIS w1) : ConW yL_hand cL_hand 5 (some .int) [(0, 10, 13, 18), (0, 10, 17, 13), (0, 10, 21, 27)] (rmt 7 172) [.ref 0, .int p0, .int p1, .ref 95] (w0 ++ [OUT z]) (some (.int 3)) (w1 ++ [OUT z]) := by
  have h1 : w1.length = 95 := by rw [hc.1, h0]
  refine ConW.of (by decide) rfl (Nat.le_of_ble_eq_true rfl) (w_len h0 h1) (fun B M => ?_)
  refine g_aload_n M dL_hand_0 rfl ?_
  refine g_iconst M 0 dL_hand_1 (by decide) ?_
  refine g_aload_n M dL_hand_2 rfl ?_
  refine g_iload_n M dL_hand_3 rfl ?_
  refine g_iload_n M dL_hand_4 rfl ?_
  refine g_callT (n := 2) (As := [.int p0, .int p1]) (h := 21) (h2 := 23) M hc lk_L_23 dL_hand_5 (by decide +kernel) ⟨Nat.le_of_ble_eq_true rfl, Nat.le_of_ble_eq_true rfl⟩ ⟨rfl, rfl⟩ (List.range 95) (by rw [List.getElem?_append_left (by omega)]; exact hh) rfl rfl rfl nd95 (sel_pre nd95 h0 c0) (Nat.le_of_ble_eq_true rfl) (⟨[⟨0, 10, 13, 18⟩, ⟨0, 10, 17, 13⟩], ⟨0, 10, 21, 27⟩, [], rfl, (fun z hz => (List.mem_cons.mp hz).elim (fun q => by rw [q]; exact ⟨by decide, xIB, gw1 605 (by decide +kernel) (by decide +kernel), fun _ _ _ h => h.2.2.2.1.2.1⟩) (fun hz => by rw [List.mem_singleton.mp hz]; exact ⟨by decide, xIA, gw1 591 (by decide +kernel) (by decide +kernel), fun _ _ _ h => h.2.2.2.1.2.2⟩)), by decide, by decide, gw1 621 (by decide +kernel) (by decide +kernel), rfl, fun _ _ _ h => h.2.2.1.2.2⟩) (Or.inr ⟨4, dL_hand_21, by decide, rfl⟩) (fun B M => ?_)
  rw [put_pre nd95 h0 h1 c1]
  refine g_iconst M 3 dL_hand_23 (by decide) ?_
  exact g_wret M dL_hand_24 rfl rfl rfl
theorem lw_hand : GoodIn GW (va_wsS RL 108 yL_hand (wsh yL_hand cL_hand 5 (some .int) [(0, 10, 13, 18), (0, 10, 17, 13), (0, 10, 21, 27)])) := gok (cd := Cond.codeWith yL_hand cL_hand 5 (some .int) [(0, 10, 13, 18), (0, 10, 17, 13), (0, 10, 21, 27)]) (l := [Cond.methodLink RL 108 yL_hand, Cond.static yL_hand, Cond.initialized yL_hand.cls]) (gws _ [618, 619, 53, 620] (by decide +kernel) (by decide +kernel))
theorem w_file {w0 w1 : List va_E} {v : Int32} {z : Nat → Int64} {p0 p1 p2 : Int32} {fs : List Value} (h0 : w0.length = 95) (c0 : clW 95 w0) (c1 : clW 95 w1) (hh : w0[0]? = some (.inr (5, fs))) (hc : Con yX5_file cX5_file 5 (some .int) (rmk 6 150) [.ref 0, .int p0, .int p1, .int p2] w0 (some (.int v)) w1) : ConW yL_file cL_file 6 (some .int) [(0, 12, 15, 18), (0, 12, 19, 13), (0, 12, 23, 27)] (rmt 7 174) [.ref 0, .int p0, .int p1, .int p2, .ref 95] (w0 ++ [OUT z]) (some (.int 0)) (w1 ++ [OUT (vp_updL z 0 v.toInt64)]) := by
  have h1 : w1.length = 95 := by rw [hc.1, h0]
  refine ConW.of (by decide) rfl (Nat.le_of_ble_eq_true rfl) (w_len h0 h1) (fun B M => ?_)
  refine g_aload M dL_file_0 rfl ?_
  refine g_iconst M 0 dL_file_2 (by decide) ?_
  refine g_aload_n M dL_file_3 rfl ?_
  refine g_iload_n M dL_file_4 rfl ?_
  refine g_iload_n M dL_file_5 rfl ?_
  refine g_iload_n M dL_file_6 rfl ?_
  refine g_V3iu (w' := w1 ++ [OUT z]) M hc lk_L_29 dL_file_7 (by decide +kernel) ⟨Nat.le_of_ble_eq_true rfl, Nat.le_of_ble_eq_true rfl⟩ ⟨rfl, rfl⟩ (List.range 95) (by rw [List.getElem?_append_left (by omega)]; exact hh) rfl rfl nd95 (sel_pre nd95 h0 c0) (Nat.le_of_ble_eq_true rfl) (put_pre nd95 h0 h1 c1) ?_
  refine g_i2l M dL_file_10 ?_
  refine g_last M dL_file_11 (w_at h1) (show vp_in (nI 0) 1 from vp_in_nI (by omega) (by omega)) ?_
  rw [w_sat h1]
  refine g_goto M 27 dL_file_12 (by decide) ?_
  refine g_iconst M 0 dL_file_27 (by decide) ?_
  exact g_wret M dL_file_28 rfl rfl rfl
theorem w_file_1 {w0 w1 : List va_E} {z : Nat → Int64} {p0 p1 p2 : Int32} {fs : List Value} (h0 : w0.length = 95) (c0 : clW 95 w0) (c1 : clW 95 w1) (hh : w0[0]? = some (.inr (5, fs))) (hc : ConT yX5_file cX5_file 5 (some .int) (rmt 6 150) [.ref 0, .int p0, .int p1, .int p2] w0 xIB w1) : ConW yL_file cL_file 6 (some .int) [(0, 12, 15, 18), (0, 12, 19, 13), (0, 12, 23, 27)] (rmt 7 174) [.ref 0, .int p0, .int p1, .int p2, .ref 95] (w0 ++ [OUT z]) (some (.int 1)) (w1 ++ [OUT z]) := by
  have h1 : w1.length = 95 := by rw [hc.1, h0]
  refine ConW.of (by decide) rfl (Nat.le_of_ble_eq_true rfl) (w_len h0 h1) (fun B M => ?_)
  refine g_aload M dL_file_0 rfl ?_
  refine g_iconst M 0 dL_file_2 (by decide) ?_
  refine g_aload_n M dL_file_3 rfl ?_
  refine g_iload_n M dL_file_4 rfl ?_
  refine g_iload_n M dL_file_5 rfl ?_
  refine g_iload_n M dL_file_6 rfl ?_
  refine g_callT (n := 3) (As := [.int p0, .int p1, .int p2]) (h := 15) (h2 := 17) M hc lk_L_29 dL_file_7 (by decide +kernel) ⟨Nat.le_of_ble_eq_true rfl, Nat.le_of_ble_eq_true rfl⟩ ⟨rfl, rfl⟩ (List.range 95) (by rw [List.getElem?_append_left (by omega)]; exact hh) rfl rfl rfl nd95 (sel_pre nd95 h0 c0) (Nat.le_of_ble_eq_true rfl) (⟨[], ⟨0, 12, 15, 18⟩, [⟨0, 12, 19, 13⟩, ⟨0, 12, 23, 27⟩], rfl, (fun z hz => nomatch hz), by decide, by decide, gw1 605 (by decide +kernel) (by decide +kernel), rfl, fun _ _ _ h => h.2.2.1.2.1⟩) (Or.inr ⟨5, dL_file_15, by decide, rfl⟩) (fun B M => ?_)
  rw [put_pre nd95 h0 h1 c1]
  refine g_iconst M 1 dL_file_17 (by decide) ?_
  exact g_wret M dL_file_18 rfl rfl rfl
theorem w_file_2 {w0 w1 : List va_E} {z : Nat → Int64} {p0 p1 p2 : Int32} {fs : List Value} (h0 : w0.length = 95) (c0 : clW 95 w0) (c1 : clW 95 w1) (hh : w0[0]? = some (.inr (5, fs))) (hc : ConT yX5_file cX5_file 5 (some .int) (rmt 6 150) [.ref 0, .int p0, .int p1, .int p2] w0 xIA w1) : ConW yL_file cL_file 6 (some .int) [(0, 12, 15, 18), (0, 12, 19, 13), (0, 12, 23, 27)] (rmt 7 174) [.ref 0, .int p0, .int p1, .int p2, .ref 95] (w0 ++ [OUT z]) (some (.int 2)) (w1 ++ [OUT z]) := by
  have h1 : w1.length = 95 := by rw [hc.1, h0]
  refine ConW.of (by decide) rfl (Nat.le_of_ble_eq_true rfl) (w_len h0 h1) (fun B M => ?_)
  refine g_aload M dL_file_0 rfl ?_
  refine g_iconst M 0 dL_file_2 (by decide) ?_
  refine g_aload_n M dL_file_3 rfl ?_
  refine g_iload_n M dL_file_4 rfl ?_
  refine g_iload_n M dL_file_5 rfl ?_
  refine g_iload_n M dL_file_6 rfl ?_
  refine g_callT (n := 3) (As := [.int p0, .int p1, .int p2]) (h := 19) (h2 := 21) M hc lk_L_29 dL_file_7 (by decide +kernel) ⟨Nat.le_of_ble_eq_true rfl, Nat.le_of_ble_eq_true rfl⟩ ⟨rfl, rfl⟩ (List.range 95) (by rw [List.getElem?_append_left (by omega)]; exact hh) rfl rfl rfl nd95 (sel_pre nd95 h0 c0) (Nat.le_of_ble_eq_true rfl) (⟨[⟨0, 12, 15, 18⟩], ⟨0, 12, 19, 13⟩, [⟨0, 12, 23, 27⟩], rfl, (fun z hz => by rw [List.mem_singleton.mp hz]; exact ⟨by decide, xIB, gw1 605 (by decide +kernel) (by decide +kernel), fun _ _ _ h => h.2.2.2.1.1⟩), by decide, by decide, gw1 591 (by decide +kernel) (by decide +kernel), rfl, fun _ _ _ h => h.2.2.1.1⟩) (Or.inr ⟨5, dL_file_19, by decide, rfl⟩) (fun B M => ?_)
  rw [put_pre nd95 h0 h1 c1]
  refine g_iconst M 2 dL_file_21 (by decide) ?_
  exact g_wret M dL_file_22 rfl rfl rfl
theorem w_file_3 {w0 w1 : List va_E} {z : Nat → Int64} {p0 p1 p2 : Int32} {fs : List Value} (h0 : w0.length = 95) (c0 : clW 95 w0) (c1 : clW 95 w1) (hh : w0[0]? = some (.inr (5, fs))) (hc : ConT yX5_file cX5_file 5 (some .int) (rmt 6 150) [.ref 0, .int p0, .int p1, .int p2] w0 xIS w1) : ConW yL_file cL_file 6 (some .int) [(0, 12, 15, 18), (0, 12, 19, 13), (0, 12, 23, 27)] (rmt 7 174) [.ref 0, .int p0, .int p1, .int p2, .ref 95] (w0 ++ [OUT z]) (some (.int 3)) (w1 ++ [OUT z]) := by
  have h1 : w1.length = 95 := by rw [hc.1, h0]
  refine ConW.of (by decide) rfl (Nat.le_of_ble_eq_true rfl) (w_len h0 h1) (fun B M => ?_)
  refine g_aload M dL_file_0 rfl ?_
  refine g_iconst M 0 dL_file_2 (by decide) ?_
  refine g_aload_n M dL_file_3 rfl ?_
  refine g_iload_n M dL_file_4 rfl ?_
  refine g_iload_n M dL_file_5 rfl ?_
  refine g_iload_n M dL_file_6 rfl ?_
  refine g_callT (n := 3) (As := [.int p0, .int p1, .int p2]) (h := 23) (h2 := 25) M hc lk_L_29 dL_file_7 (by decide +kernel) ⟨Nat.le_of_ble_eq_true rfl, Nat.le_of_ble_eq_true rfl⟩ ⟨rfl, rfl⟩ (List.range 95) (by rw [List.getElem?_append_left (by omega)]; exact hh) rfl rfl rfl nd95 (sel_pre nd95 h0 c0) (Nat.le_of_ble_eq_true rfl) (⟨[⟨0, 12, 15, 18⟩, ⟨0, 12, 19, 13⟩], ⟨0, 12, 23, 27⟩, [], rfl, (fun z hz => (List.mem_cons.mp hz).elim (fun q => by rw [q]; exact ⟨by decide, xIB, gw1 605 (by decide +kernel) (by decide +kernel), fun _ _ _ h => h.2.2.2.1.2.1⟩) (fun hz => by rw [List.mem_singleton.mp hz]; exact ⟨by decide, xIA, gw1 591 (by decide +kernel) (by decide +kernel), fun _ _ _ h => h.2.2.2.1.2.2⟩)), by decide, by decide, gw1 621 (by decide +kernel) (by decide +kernel), rfl, fun _ _ _ h => h.2.2.1.2.2⟩) (Or.inr ⟨5, dL_file_23, by decide, rfl⟩) (fun B M => ?_)
  rw [put_pre nd95 h0 h1 c1]
  refine g_iconst M 3 dL_file_25 (by decide) ?_
  exact g_wret M dL_file_26 rfl rfl rfl
theorem lw_file : GoodIn GW (va_wsS RL 112 yL_file (wsh yL_file cL_file 6 (some .int) [(0, 12, 15, 18), (0, 12, 19, 13), (0, 12, 23, 27)])) := gok (cd := Cond.codeWith yL_file cL_file 6 (some .int) [(0, 12, 15, 18), (0, 12, 19, 13), (0, 12, 23, 27)]) (l := [Cond.methodLink RL 112 yL_file, Cond.static yL_file, Cond.initialized yL_file.cls]) (gws _ [648, 649, 53, 650] (by decide +kernel) (by decide +kernel))
theorem w_change {w0 w1 : List va_E} {v : Int32} {z : Nat → Int64} {p0 p1 : Int32} {fs : List Value} (h0 : w0.length = 95) (c0 : clW 95 w0) (c1 : clW 95 w1) (hh : w0[0]? = some (.inr (5, fs))) (hc : Con yX5_change cX5_change 4 (some .int) (rmk 6 150) [.ref 0, .int p0, .int p1] w0 (some (.int v)) w1) : ConW yL_change cL_change 5 (some .int) [(0, 10, 13, 18), (0, 10, 17, 13)] (rmt 7 173) [.ref 0, .int p0, .int p1, .ref 95] (w0 ++ [OUT z]) (some (.int 0)) (w1 ++ [OUT (vp_updL z 0 v.toInt64)]) := by
  have h1 : w1.length = 95 := by rw [hc.1, h0]
  refine ConW.of (by decide) rfl (Nat.le_of_ble_eq_true rfl) (w_len h0 h1) (fun B M => ?_)
  refine g_aload_n M dL_change_0 rfl ?_
  refine g_iconst M 0 dL_change_1 (by decide) ?_
  refine g_aload_n M dL_change_2 rfl ?_
  refine g_iload_n M dL_change_3 rfl ?_
  refine g_iload_n M dL_change_4 rfl ?_
  refine g_V2iu (w' := w1 ++ [OUT z]) M hc lk_L_33 dL_change_5 (by decide +kernel) ⟨Nat.le_of_ble_eq_true rfl, Nat.le_of_ble_eq_true rfl⟩ ⟨rfl, rfl⟩ (List.range 95) (by rw [List.getElem?_append_left (by omega)]; exact hh) rfl rfl nd95 (sel_pre nd95 h0 c0) (Nat.le_of_ble_eq_true rfl) (put_pre nd95 h0 h1 c1) ?_
  refine g_i2l M dL_change_8 ?_
  refine g_last M dL_change_9 (w_at h1) (show vp_in (nI 0) 1 from vp_in_nI (by omega) (by omega)) ?_
  rw [w_sat h1]
  refine g_goto M 21 dL_change_10 (by decide) ?_
  refine g_iconst M 0 dL_change_21 (by decide) ?_
  exact g_wret M dL_change_22 rfl rfl rfl
theorem w_change_1 {w0 w1 : List va_E} {z : Nat → Int64} {p0 p1 : Int32} {fs : List Value} (h0 : w0.length = 95) (c0 : clW 95 w0) (c1 : clW 95 w1) (hh : w0[0]? = some (.inr (5, fs))) (hc : ConT yX5_change cX5_change 4 (some .int) (rmt 6 150) [.ref 0, .int p0, .int p1] w0 xIB w1) : ConW yL_change cL_change 5 (some .int) [(0, 10, 13, 18), (0, 10, 17, 13)] (rmt 7 173) [.ref 0, .int p0, .int p1, .ref 95] (w0 ++ [OUT z]) (some (.int 1)) (w1 ++ [OUT z]) := by
  have h1 : w1.length = 95 := by rw [hc.1, h0]
  refine ConW.of (by decide) rfl (Nat.le_of_ble_eq_true rfl) (w_len h0 h1) (fun B M => ?_)
  refine g_aload_n M dL_change_0 rfl ?_
  refine g_iconst M 0 dL_change_1 (by decide) ?_
  refine g_aload_n M dL_change_2 rfl ?_
  refine g_iload_n M dL_change_3 rfl ?_
  refine g_iload_n M dL_change_4 rfl ?_
  refine g_callT (n := 2) (As := [.int p0, .int p1]) (h := 13) (h2 := 15) M hc lk_L_33 dL_change_5 (by decide +kernel) ⟨Nat.le_of_ble_eq_true rfl, Nat.le_of_ble_eq_true rfl⟩ ⟨rfl, rfl⟩ (List.range 95) (by rw [List.getElem?_append_left (by omega)]; exact hh) rfl rfl rfl nd95 (sel_pre nd95 h0 c0) (Nat.le_of_ble_eq_true rfl) (⟨[], ⟨0, 10, 13, 18⟩, [⟨0, 10, 17, 13⟩], rfl, (fun z hz => nomatch hz), by decide, by decide, gw1 605 (by decide +kernel) (by decide +kernel), rfl, fun _ _ _ h => h.2.2.1.2.1⟩) (Or.inr ⟨4, dL_change_13, by decide, rfl⟩) (fun B M => ?_)
  rw [put_pre nd95 h0 h1 c1]
  refine g_iconst M 1 dL_change_15 (by decide) ?_
  exact g_wret M dL_change_16 rfl rfl rfl
theorem w_change_2 {w0 w1 : List va_E} {z : Nat → Int64} {p0 p1 : Int32} {fs : List Value} (h0 : w0.length = 95) (c0 : clW 95 w0) (c1 : clW 95 w1) (hh : w0[0]? = some (.inr (5, fs))) (hc : ConT yX5_change cX5_change 4 (some .int) (rmt 6 150) [.ref 0, .int p0, .int p1] w0 xIA w1) : ConW yL_change cL_change 5 (some .int) [(0, 10, 13, 18), (0, 10, 17, 13)] (rmt 7 173) [.ref 0, .int p0, .int p1, .ref 95] (w0 ++ [OUT z]) (some (.int 2)) (w1 ++ [OUT z]) := by
  have h1 : w1.length = 95 := by rw [hc.1, h0]
  refine ConW.of (by decide) rfl (Nat.le_of_ble_eq_true rfl) (w_len h0 h1) (fun B M => ?_)
  refine g_aload_n M dL_change_0 rfl ?_
  refine g_iconst M 0 dL_change_1 (by decide) ?_
  refine g_aload_n M dL_change_2 rfl ?_
  refine g_iload_n M dL_change_3 rfl ?_
  refine g_iload_n M dL_change_4 rfl ?_
  refine g_callT (n := 2) (As := [.int p0, .int p1]) (h := 17) (h2 := 19) M hc lk_L_33 dL_change_5 (by decide +kernel) ⟨Nat.le_of_ble_eq_true rfl, Nat.le_of_ble_eq_true rfl⟩ ⟨rfl, rfl⟩ (List.range 95) (by rw [List.getElem?_append_left (by omega)]; exact hh) rfl rfl rfl nd95 (sel_pre nd95 h0 c0) (Nat.le_of_ble_eq_true rfl) (⟨[⟨0, 10, 13, 18⟩], ⟨0, 10, 17, 13⟩, [], rfl, (fun z hz => by rw [List.mem_singleton.mp hz]; exact ⟨by decide, xIB, gw1 605 (by decide +kernel) (by decide +kernel), fun _ _ _ h => h.2.2.2.1.1⟩), by decide, by decide, gw1 591 (by decide +kernel) (by decide +kernel), rfl, fun _ _ _ h => h.2.2.1.1⟩) (Or.inr ⟨4, dL_change_17, by decide, rfl⟩) (fun B M => ?_)
  rw [put_pre nd95 h0 h1 c1]
  refine g_iconst M 2 dL_change_19 (by decide) ?_
  exact g_wret M dL_change_20 rfl rfl rfl
theorem lw_change : GoodIn GW (va_wsS RL 116 yL_change (wsh yL_change cL_change 5 (some .int) [(0, 10, 13, 18), (0, 10, 17, 13)])) := gok (cd := Cond.codeWith yL_change cL_change 5 (some .int) [(0, 10, 13, 18), (0, 10, 17, 13)]) (l := [Cond.methodLink RL 116 yL_change, Cond.static yL_change, Cond.initialized yL_change.cls]) (gws _ [668, 669, 53, 670] (by decide +kernel) (by decide +kernel))
theorem w_set {w0 w1 : List va_E} {v : Int32} {z : Nat → Int64} {p0 : Int32} {fs : List Value} (h0 : w0.length = 95) (c0 : clW 95 w0) (c1 : clW 95 w1) (hh : w0[0]? = some (.inr (5, fs))) (hc : Con yX5_set cX5_set 3 (some .int) (rmk 6 150) [.ref 0, .int p0] w0 (some (.int v)) w1) : ConW yL_set cL_set 4 (some .int) [(0, 9, 12, 13), (0, 9, 15, 27)] (rmt 7 172) [.ref 0, .int p0, .ref 95] (w0 ++ [OUT z]) (some (.int 0)) (w1 ++ [OUT (vp_updL z 0 v.toInt64)]) := by
  have h1 : w1.length = 95 := by rw [hc.1, h0]
  refine ConW.of (by decide) rfl (Nat.le_of_ble_eq_true rfl) (w_len h0 h1) (fun B M => ?_)
  refine g_aload_n M dL_set_0 rfl ?_
  refine g_iconst M 0 dL_set_1 (by decide) ?_
  refine g_aload_n M dL_set_2 rfl ?_
  refine g_iload_n M dL_set_3 rfl ?_
  refine g_V1iu (w' := w1 ++ [OUT z]) M hc lk_L_36 dL_set_4 (by decide +kernel) ⟨Nat.le_of_ble_eq_true rfl, Nat.le_of_ble_eq_true rfl⟩ ⟨rfl, rfl⟩ (List.range 95) (by rw [List.getElem?_append_left (by omega)]; exact hh) rfl rfl nd95 (sel_pre nd95 h0 c0) (Nat.le_of_ble_eq_true rfl) (put_pre nd95 h0 h1 c1) ?_
  refine g_i2l M dL_set_7 ?_
  refine g_last M dL_set_8 (w_at h1) (show vp_in (nI 0) 1 from vp_in_nI (by omega) (by omega)) ?_
  rw [w_sat h1]
  refine g_goto M 18 dL_set_9 (by decide) ?_
  refine g_iconst M 0 dL_set_18 (by decide) ?_
  exact g_wret M dL_set_19 rfl rfl rfl
theorem w_set_1 {w0 w1 : List va_E} {z : Nat → Int64} {p0 : Int32} {fs : List Value} (h0 : w0.length = 95) (c0 : clW 95 w0) (c1 : clW 95 w1) (hh : w0[0]? = some (.inr (5, fs))) (hc : ConT yX5_set cX5_set 3 (some .int) (rmt 6 150) [.ref 0, .int p0] w0 xIA w1) : ConW yL_set cL_set 4 (some .int) [(0, 9, 12, 13), (0, 9, 15, 27)] (rmt 7 172) [.ref 0, .int p0, .ref 95] (w0 ++ [OUT z]) (some (.int 1)) (w1 ++ [OUT z]) := by
  have h1 : w1.length = 95 := by rw [hc.1, h0]
  refine ConW.of (by decide) rfl (Nat.le_of_ble_eq_true rfl) (w_len h0 h1) (fun B M => ?_)
  refine g_aload_n M dL_set_0 rfl ?_
  refine g_iconst M 0 dL_set_1 (by decide) ?_
  refine g_aload_n M dL_set_2 rfl ?_
  refine g_iload_n M dL_set_3 rfl ?_
  refine g_callT (n := 1) (As := [.int p0]) (h := 12) (h2 := 13) M hc lk_L_36 dL_set_4 (by decide +kernel) ⟨Nat.le_of_ble_eq_true rfl, Nat.le_of_ble_eq_true rfl⟩ ⟨rfl, rfl⟩ (List.range 95) (by rw [List.getElem?_append_left (by omega)]; exact hh) rfl rfl rfl nd95 (sel_pre nd95 h0 c0) (Nat.le_of_ble_eq_true rfl) (⟨[], ⟨0, 9, 12, 13⟩, [⟨0, 9, 15, 27⟩], rfl, (fun z hz => nomatch hz), by decide, by decide, gw1 591 (by decide +kernel) (by decide +kernel), rfl, fun _ _ _ h => h.2.2.1.1⟩) (Or.inl ⟨3, dL_set_12, by decide, rfl⟩) (fun B M => ?_)
  rw [put_pre nd95 h0 h1 c1]
  refine g_iconst M 1 dL_set_13 (by decide) ?_
  exact g_wret M dL_set_14 rfl rfl rfl
theorem w_set_2 {w0 w1 : List va_E} {z : Nat → Int64} {p0 : Int32} {fs : List Value} (h0 : w0.length = 95) (c0 : clW 95 w0) (c1 : clW 95 w1) (hh : w0[0]? = some (.inr (5, fs))) (hc : ConT yX5_set cX5_set 3 (some .int) (rmt 6 150) [.ref 0, .int p0] w0 xIS w1) : ConW yL_set cL_set 4 (some .int) [(0, 9, 12, 13), (0, 9, 15, 27)] (rmt 7 172) [.ref 0, .int p0, .ref 95] (w0 ++ [OUT z]) (some (.int 2)) (w1 ++ [OUT z]) := by
  have h1 : w1.length = 95 := by rw [hc.1, h0]
  refine ConW.of (by decide) rfl (Nat.le_of_ble_eq_true rfl) (w_len h0 h1) (fun B M => ?_)
  refine g_aload_n M dL_set_0 rfl ?_
  refine g_iconst M 0 dL_set_1 (by decide) ?_
  refine g_aload_n M dL_set_2 rfl ?_
  refine g_iload_n M dL_set_3 rfl ?_
  refine g_callT (n := 1) (As := [.int p0]) (h := 15) (h2 := 16) M hc lk_L_36 dL_set_4 (by decide +kernel) ⟨Nat.le_of_ble_eq_true rfl, Nat.le_of_ble_eq_true rfl⟩ ⟨rfl, rfl⟩ (List.range 95) (by rw [List.getElem?_append_left (by omega)]; exact hh) rfl rfl rfl nd95 (sel_pre nd95 h0 c0) (Nat.le_of_ble_eq_true rfl) (⟨[⟨0, 9, 12, 13⟩], ⟨0, 9, 15, 27⟩, [], rfl, (fun z hz => by rw [List.mem_singleton.mp hz]; exact ⟨by decide, xIA, gw1 591 (by decide +kernel) (by decide +kernel), fun _ _ _ h => h.2.2.2.1.2.2⟩), by decide, by decide, gw1 621 (by decide +kernel) (by decide +kernel), rfl, fun _ _ _ h => h.2.2.1.2.2⟩) (Or.inl ⟨3, dL_set_15, by decide, rfl⟩) (fun B M => ?_)
  rw [put_pre nd95 h0 h1 c1]
  refine g_iconst M 2 dL_set_16 (by decide) ?_
  exact g_wret M dL_set_17 rfl rfl rfl
theorem lw_set : GoodIn GW (va_wsS RL 119 yL_set (wsh yL_set cL_set 4 (some .int) [(0, 9, 12, 13), (0, 9, 15, 27)])) := gok (cd := Cond.codeWith yL_set cL_set 4 (some .int) [(0, 9, 12, 13), (0, 9, 15, 27)]) (l := [Cond.methodLink RL 119 yL_set, Cond.static yL_set, Cond.initialized yL_set.cls]) (gws _ [681, 682, 53, 683] (by decide +kernel) (by decide +kernel))
theorem w_remember {w0 w1 : List va_E} {v : Int32} {z : Nat → Int64} {fs : List Value} (h0 : w0.length = 95) (c0 : clW 95 w0) (c1 : clW 95 w1) (hh : w0[0]? = some (.inr (5, fs))) (hc : Con yX5_remember cX5_remember 1 (some .int) (rmk 6 150) [.ref 0] w0 (some (.int v)) w1) : ConW yL_remember cL_remember 3 (some .int) [(0, 8, 11, 27)] (rmt 7 170) [.ref 0, .ref 95] (w0 ++ [OUT z]) (some (.int 0)) (w1 ++ [OUT (vp_updL z 0 v.toInt64)]) := by
  have h1 : w1.length = 95 := by rw [hc.1, h0]
  refine ConW.of (by decide) rfl (Nat.le_of_ble_eq_true rfl) (w_len h0 h1) (fun B M => ?_)
  refine g_aload_n M dL_remember_0 rfl ?_
  refine g_iconst M 0 dL_remember_1 (by decide) ?_
  refine g_aload_n M dL_remember_2 rfl ?_
  refine g_V0iu (w' := w1 ++ [OUT z]) M hc lk_L_39 dL_remember_3 (by decide +kernel) ⟨Nat.le_of_ble_eq_true rfl, Nat.le_of_ble_eq_true rfl⟩ ⟨rfl, rfl⟩ (List.range 95) (by rw [List.getElem?_append_left (by omega)]; exact hh) rfl rfl nd95 (sel_pre nd95 h0 c0) (Nat.le_of_ble_eq_true rfl) (put_pre nd95 h0 h1 c1) ?_
  refine g_i2l M dL_remember_6 ?_
  refine g_last M dL_remember_7 (w_at h1) (show vp_in (nI 0) 1 from vp_in_nI (by omega) (by omega)) ?_
  rw [w_sat h1]
  refine g_goto M 14 dL_remember_8 (by decide) ?_
  refine g_iconst M 0 dL_remember_14 (by decide) ?_
  exact g_wret M dL_remember_15 rfl rfl rfl
theorem w_remember_1 {w0 w1 : List va_E} {z : Nat → Int64} {fs : List Value} (h0 : w0.length = 95) (c0 : clW 95 w0) (c1 : clW 95 w1) (hh : w0[0]? = some (.inr (5, fs))) (hc : ConT yX5_remember cX5_remember 1 (some .int) (rmt 6 150) [.ref 0] w0 xIS w1) : ConW yL_remember cL_remember 3 (some .int) [(0, 8, 11, 27)] (rmt 7 170) [.ref 0, .ref 95] (w0 ++ [OUT z]) (some (.int 1)) (w1 ++ [OUT z]) := by
  have h1 : w1.length = 95 := by rw [hc.1, h0]
  refine ConW.of (by decide) rfl (Nat.le_of_ble_eq_true rfl) (w_len h0 h1) (fun B M => ?_)
  refine g_aload_n M dL_remember_0 rfl ?_
  refine g_iconst M 0 dL_remember_1 (by decide) ?_
  refine g_aload_n M dL_remember_2 rfl ?_
  refine g_callT (n := 0) (As := []) (h := 11) (h2 := 12) M hc lk_L_39 dL_remember_3 (by decide +kernel) ⟨Nat.le_of_ble_eq_true rfl, Nat.le_of_ble_eq_true rfl⟩ ⟨rfl, rfl⟩ (List.range 95) (by rw [List.getElem?_append_left (by omega)]; exact hh) rfl rfl rfl nd95 (sel_pre nd95 h0 c0) (Nat.le_of_ble_eq_true rfl) (⟨[], ⟨0, 8, 11, 27⟩, [], rfl, (fun z hz => nomatch hz), by decide, by decide, gw1 621 (by decide +kernel) (by decide +kernel), rfl, fun _ _ _ h => h.2.2.1.2.2⟩) (Or.inl ⟨2, dL_remember_11, by decide, rfl⟩) (fun B M => ?_)
  rw [put_pre nd95 h0 h1 c1]
  refine g_iconst M 1 dL_remember_12 (by decide) ?_
  exact g_wret M dL_remember_13 rfl rfl rfl
theorem lw_remember : GoodIn GW (va_wsS RL 122 yL_remember (wsh yL_remember cL_remember 3 (some .int) [(0, 8, 11, 27)])) := gok (cd := Cond.codeWith yL_remember cL_remember 3 (some .int) [(0, 8, 11, 27)]) (l := [Cond.methodLink RL 122 yL_remember, Cond.static yL_remember, Cond.initialized yL_remember.cls]) (gws _ [688, 689, 53, 690] (by decide +kernel) (by decide +kernel))
theorem w_forget {w0 w1 : List va_E} {v : Int32} {z : Nat → Int64} {p0 : Int32} {fs : List Value} (h0 : w0.length = 95) (c0 : clW 95 w0) (c1 : clW 95 w1) (hh : w0[0]? = some (.inr (5, fs))) (hc : Con yX5_forget cX5_forget 2 (some .int) (rmk 6 150) [.ref 0, .int p0] w0 (some (.int v)) w1) : ConW yL_forget cL_forget 4 (some .int) [(0, 9, 12, 18)] (rmt 7 171) [.ref 0, .int p0, .ref 95] (w0 ++ [OUT z]) (some (.int 0)) (w1 ++ [OUT (vp_updL z 0 v.toInt64)]) := by
  have h1 : w1.length = 95 := by rw [hc.1, h0]
  refine ConW.of (by decide) rfl (Nat.le_of_ble_eq_true rfl) (w_len h0 h1) (fun B M => ?_)
  refine g_aload_n M dL_forget_0 rfl ?_
  refine g_iconst M 0 dL_forget_1 (by decide) ?_
  refine g_aload_n M dL_forget_2 rfl ?_
  refine g_iload_n M dL_forget_3 rfl ?_
  refine g_V1iu (w' := w1 ++ [OUT z]) M hc lk_L_43 dL_forget_4 (by decide +kernel) ⟨Nat.le_of_ble_eq_true rfl, Nat.le_of_ble_eq_true rfl⟩ ⟨rfl, rfl⟩ (List.range 95) (by rw [List.getElem?_append_left (by omega)]; exact hh) rfl rfl nd95 (sel_pre nd95 h0 c0) (Nat.le_of_ble_eq_true rfl) (put_pre nd95 h0 h1 c1) ?_
  refine g_i2l M dL_forget_7 ?_
  refine g_last M dL_forget_8 (w_at h1) (show vp_in (nI 0) 1 from vp_in_nI (by omega) (by omega)) ?_
  rw [w_sat h1]
  refine g_goto M 15 dL_forget_9 (by decide) ?_
  refine g_iconst M 0 dL_forget_15 (by decide) ?_
  exact g_wret M dL_forget_16 rfl rfl rfl
theorem w_forget_1 {w0 w1 : List va_E} {z : Nat → Int64} {p0 : Int32} {fs : List Value} (h0 : w0.length = 95) (c0 : clW 95 w0) (c1 : clW 95 w1) (hh : w0[0]? = some (.inr (5, fs))) (hc : ConT yX5_forget cX5_forget 2 (some .int) (rmt 6 150) [.ref 0, .int p0] w0 xIB w1) : ConW yL_forget cL_forget 4 (some .int) [(0, 9, 12, 18)] (rmt 7 171) [.ref 0, .int p0, .ref 95] (w0 ++ [OUT z]) (some (.int 1)) (w1 ++ [OUT z]) := by
  have h1 : w1.length = 95 := by rw [hc.1, h0]
  refine ConW.of (by decide) rfl (Nat.le_of_ble_eq_true rfl) (w_len h0 h1) (fun B M => ?_)
  refine g_aload_n M dL_forget_0 rfl ?_
  refine g_iconst M 0 dL_forget_1 (by decide) ?_
  refine g_aload_n M dL_forget_2 rfl ?_
  refine g_iload_n M dL_forget_3 rfl ?_
  refine g_callT (n := 1) (As := [.int p0]) (h := 12) (h2 := 13) M hc lk_L_43 dL_forget_4 (by decide +kernel) ⟨Nat.le_of_ble_eq_true rfl, Nat.le_of_ble_eq_true rfl⟩ ⟨rfl, rfl⟩ (List.range 95) (by rw [List.getElem?_append_left (by omega)]; exact hh) rfl rfl rfl nd95 (sel_pre nd95 h0 c0) (Nat.le_of_ble_eq_true rfl) (⟨[], ⟨0, 9, 12, 18⟩, [], rfl, (fun z hz => nomatch hz), by decide, by decide, gw1 605 (by decide +kernel) (by decide +kernel), rfl, fun _ _ _ h => h.2.2.1.2.1⟩) (Or.inl ⟨3, dL_forget_12, by decide, rfl⟩) (fun B M => ?_)
  rw [put_pre nd95 h0 h1 c1]
  refine g_iconst M 1 dL_forget_13 (by decide) ?_
  exact g_wret M dL_forget_14 rfl rfl rfl
theorem lw_forget : GoodIn GW (va_wsS RL 126 yL_forget (wsh yL_forget cL_forget 4 (some .int) [(0, 9, 12, 18)])) := gok (cd := Cond.codeWith yL_forget cL_forget 4 (some .int) [(0, 9, 12, 18)]) (l := [Cond.methodLink RL 126 yL_forget, Cond.static yL_forget, Cond.initialized yL_forget.cls]) (gws _ [700, 701, 53, 702] (by decide +kernel) (by decide +kernel))
theorem w_append {w0 w1 : List va_E} {v : Int32} {z : Nat → Int64} {p0 : Int32} {fs : List Value} (h0 : w0.length = 95) (c0 : clW 95 w0) (c1 : clW 95 w1) (hh : w0[0]? = some (.inr (5, fs))) (hc : Con yX5_append cX5_append 2 (some .int) (rmk 6 150) [.ref 0, .int p0] w0 (some (.int v)) w1) : ConW yL_append cL_append 4 (some .int) [(0, 9, 12, 13), (0, 9, 15, 27)] (rmt 7 171) [.ref 0, .int p0, .ref 95] (w0 ++ [OUT z]) (some (.int 0)) (w1 ++ [OUT (vp_updL z 0 v.toInt64)]) := by
  have h1 : w1.length = 95 := by rw [hc.1, h0]
  refine ConW.of (by decide) rfl (Nat.le_of_ble_eq_true rfl) (w_len h0 h1) (fun B M => ?_)
  refine g_aload_n M dL_append_0 rfl ?_
  refine g_iconst M 0 dL_append_1 (by decide) ?_
  refine g_aload_n M dL_append_2 rfl ?_
  refine g_iload_n M dL_append_3 rfl ?_
  refine g_V1iu (w' := w1 ++ [OUT z]) M hc lk_L_46 dL_append_4 (by decide +kernel) ⟨Nat.le_of_ble_eq_true rfl, Nat.le_of_ble_eq_true rfl⟩ ⟨rfl, rfl⟩ (List.range 95) (by rw [List.getElem?_append_left (by omega)]; exact hh) rfl rfl nd95 (sel_pre nd95 h0 c0) (Nat.le_of_ble_eq_true rfl) (put_pre nd95 h0 h1 c1) ?_
  refine g_i2l M dL_append_7 ?_
  refine g_last M dL_append_8 (w_at h1) (show vp_in (nI 0) 1 from vp_in_nI (by omega) (by omega)) ?_
  rw [w_sat h1]
  refine g_goto M 18 dL_append_9 (by decide) ?_
  refine g_iconst M 0 dL_append_18 (by decide) ?_
  exact g_wret M dL_append_19 rfl rfl rfl
theorem w_append_1 {w0 w1 : List va_E} {z : Nat → Int64} {p0 : Int32} {fs : List Value} (h0 : w0.length = 95) (c0 : clW 95 w0) (c1 : clW 95 w1) (hh : w0[0]? = some (.inr (5, fs))) (hc : ConT yX5_append cX5_append 2 (some .int) (rmt 6 150) [.ref 0, .int p0] w0 xIA w1) : ConW yL_append cL_append 4 (some .int) [(0, 9, 12, 13), (0, 9, 15, 27)] (rmt 7 171) [.ref 0, .int p0, .ref 95] (w0 ++ [OUT z]) (some (.int 1)) (w1 ++ [OUT z]) := by
  have h1 : w1.length = 95 := by rw [hc.1, h0]
  refine ConW.of (by decide) rfl (Nat.le_of_ble_eq_true rfl) (w_len h0 h1) (fun B M => ?_)
  refine g_aload_n M dL_append_0 rfl ?_
  refine g_iconst M 0 dL_append_1 (by decide) ?_
  refine g_aload_n M dL_append_2 rfl ?_
  refine g_iload_n M dL_append_3 rfl ?_
  refine g_callT (n := 1) (As := [.int p0]) (h := 12) (h2 := 13) M hc lk_L_46 dL_append_4 (by decide +kernel) ⟨Nat.le_of_ble_eq_true rfl, Nat.le_of_ble_eq_true rfl⟩ ⟨rfl, rfl⟩ (List.range 95) (by rw [List.getElem?_append_left (by omega)]; exact hh) rfl rfl rfl nd95 (sel_pre nd95 h0 c0) (Nat.le_of_ble_eq_true rfl) (⟨[], ⟨0, 9, 12, 13⟩, [⟨0, 9, 15, 27⟩], rfl, (fun z hz => nomatch hz), by decide, by decide, gw1 591 (by decide +kernel) (by decide +kernel), rfl, fun _ _ _ h => h.2.2.1.1⟩) (Or.inl ⟨3, dL_append_12, by decide, rfl⟩) (fun B M => ?_)
  rw [put_pre nd95 h0 h1 c1]
  refine g_iconst M 1 dL_append_13 (by decide) ?_
  exact g_wret M dL_append_14 rfl rfl rfl
theorem w_append_2 {w0 w1 : List va_E} {z : Nat → Int64} {p0 : Int32} {fs : List Value} (h0 : w0.length = 95) (c0 : clW 95 w0) (c1 : clW 95 w1) (hh : w0[0]? = some (.inr (5, fs))) (hc : ConT yX5_append cX5_append 2 (some .int) (rmt 6 150) [.ref 0, .int p0] w0 xIS w1) : ConW yL_append cL_append 4 (some .int) [(0, 9, 12, 13), (0, 9, 15, 27)] (rmt 7 171) [.ref 0, .int p0, .ref 95] (w0 ++ [OUT z]) (some (.int 2)) (w1 ++ [OUT z]) := by
  have h1 : w1.length = 95 := by rw [hc.1, h0]
  refine ConW.of (by decide) rfl (Nat.le_of_ble_eq_true rfl) (w_len h0 h1) (fun B M => ?_)
  refine g_aload_n M dL_append_0 rfl ?_
  refine g_iconst M 0 dL_append_1 (by decide) ?_
  refine g_aload_n M dL_append_2 rfl ?_
  refine g_iload_n M dL_append_3 rfl ?_
  refine g_callT (n := 1) (As := [.int p0]) (h := 15) (h2 := 16) M hc lk_L_46 dL_append_4 (by decide +kernel) ⟨Nat.le_of_ble_eq_true rfl, Nat.le_of_ble_eq_true rfl⟩ ⟨rfl, rfl⟩ (List.range 95) (by rw [List.getElem?_append_left (by omega)]; exact hh) rfl rfl rfl nd95 (sel_pre nd95 h0 c0) (Nat.le_of_ble_eq_true rfl) (⟨[⟨0, 9, 12, 13⟩], ⟨0, 9, 15, 27⟩, [], rfl, (fun z hz => by rw [List.mem_singleton.mp hz]; exact ⟨by decide, xIA, gw1 591 (by decide +kernel) (by decide +kernel), fun _ _ _ h => h.2.2.2.1.2.2⟩), by decide, by decide, gw1 621 (by decide +kernel) (by decide +kernel), rfl, fun _ _ _ h => h.2.2.1.2.2⟩) (Or.inl ⟨3, dL_append_15, by decide, rfl⟩) (fun B M => ?_)
  rw [put_pre nd95 h0 h1 c1]
  refine g_iconst M 2 dL_append_16 (by decide) ?_
  exact g_wret M dL_append_17 rfl rfl rfl
theorem lw_append : GoodIn GW (va_wsS RL 129 yL_append (wsh yL_append cL_append 4 (some .int) [(0, 9, 12, 13), (0, 9, 15, 27)])) := gok (cd := Cond.codeWith yL_append cL_append 4 (some .int) [(0, 9, 12, 13), (0, 9, 15, 27)]) (l := [Cond.methodLink RL 129 yL_append, Cond.static yL_append, Cond.initialized yL_append.cls]) (gws _ [711, 712, 53, 713] (by decide +kernel) (by decide +kernel))
theorem w_work {w0 w1 : List va_E} {v : Int32} {z : Nat → Int64} {fs : List Value} (h0 : w0.length = 95) (c0 : clW 95 w0) (c1 : clW 95 w1) (hh : w0[0]? = some (.inr (5, fs))) (hc : Con yX5_work cX5_work 2 (some .int) (rmk 6 150) [.ref 0] w0 (some (.int v)) w1) : ConW yL_work cL_work 3 (some .int) [(0, 8, 11, 13)] (rmt 7 171) [.ref 0, .ref 95] (w0 ++ [OUT z]) (some (.int 0)) (w1 ++ [OUT (vp_updL z 0 v.toInt64)]) := by
  have h1 : w1.length = 95 := by rw [hc.1, h0]
  refine ConW.of (by decide) rfl (Nat.le_of_ble_eq_true rfl) (w_len h0 h1) (fun B M => ?_)
  refine g_aload_n M dL_work_0 rfl ?_
  refine g_iconst M 0 dL_work_1 (by decide) ?_
  refine g_aload_n M dL_work_2 rfl ?_
  refine g_V0iu (w' := w1 ++ [OUT z]) M hc lk_L_49 dL_work_3 (by decide +kernel) ⟨Nat.le_of_ble_eq_true rfl, Nat.le_of_ble_eq_true rfl⟩ ⟨rfl, rfl⟩ (List.range 95) (by rw [List.getElem?_append_left (by omega)]; exact hh) rfl rfl nd95 (sel_pre nd95 h0 c0) (Nat.le_of_ble_eq_true rfl) (put_pre nd95 h0 h1 c1) ?_
  refine g_i2l M dL_work_6 ?_
  refine g_last M dL_work_7 (w_at h1) (show vp_in (nI 0) 1 from vp_in_nI (by omega) (by omega)) ?_
  rw [w_sat h1]
  refine g_goto M 14 dL_work_8 (by decide) ?_
  refine g_iconst M 0 dL_work_14 (by decide) ?_
  exact g_wret M dL_work_15 rfl rfl rfl
theorem w_work_1 {w0 w1 : List va_E} {z : Nat → Int64} {fs : List Value} (h0 : w0.length = 95) (c0 : clW 95 w0) (c1 : clW 95 w1) (hh : w0[0]? = some (.inr (5, fs))) (hc : ConT yX5_work cX5_work 2 (some .int) (rmt 6 150) [.ref 0] w0 xIA w1) : ConW yL_work cL_work 3 (some .int) [(0, 8, 11, 13)] (rmt 7 171) [.ref 0, .ref 95] (w0 ++ [OUT z]) (some (.int 1)) (w1 ++ [OUT z]) := by
  have h1 : w1.length = 95 := by rw [hc.1, h0]
  refine ConW.of (by decide) rfl (Nat.le_of_ble_eq_true rfl) (w_len h0 h1) (fun B M => ?_)
  refine g_aload_n M dL_work_0 rfl ?_
  refine g_iconst M 0 dL_work_1 (by decide) ?_
  refine g_aload_n M dL_work_2 rfl ?_
  refine g_callT (n := 0) (As := []) (h := 11) (h2 := 12) M hc lk_L_49 dL_work_3 (by decide +kernel) ⟨Nat.le_of_ble_eq_true rfl, Nat.le_of_ble_eq_true rfl⟩ ⟨rfl, rfl⟩ (List.range 95) (by rw [List.getElem?_append_left (by omega)]; exact hh) rfl rfl rfl nd95 (sel_pre nd95 h0 c0) (Nat.le_of_ble_eq_true rfl) (⟨[], ⟨0, 8, 11, 13⟩, [], rfl, (fun z hz => nomatch hz), by decide, by decide, gw1 591 (by decide +kernel) (by decide +kernel), rfl, fun _ _ _ h => h.2.2.1.1⟩) (Or.inl ⟨2, dL_work_11, by decide, rfl⟩) (fun B M => ?_)
  rw [put_pre nd95 h0 h1 c1]
  refine g_iconst M 1 dL_work_12 (by decide) ?_
  exact g_wret M dL_work_13 rfl rfl rfl
theorem lw_work : GoodIn GW (va_wsS RL 140 yL_work (wsh yL_work cL_work 3 (some .int) [(0, 8, 11, 13)])) := gok (cd := Cond.codeWith yL_work cL_work 3 (some .int) [(0, 8, 11, 13)]) (l := [Cond.methodLink RL 140 yL_work, Cond.static yL_work, Cond.initialized yL_work.cls]) (gws _ [724, 725, 53, 726] (by decide +kernel) (by decide +kernel))
theorem w_goBack {w0 w1 : List va_E} {v : Int32} {z : Nat → Int64} {fs : List Value} (h0 : w0.length = 95) (c0 : clW 95 w0) (c1 : clW 95 w1) (hh : w0[0]? = some (.inr (5, fs))) (hc : Con yX5_goBack cX5_goBack 1 (some .int) (rmk 6 150) [.ref 0] w0 (some (.int v)) w1) : ConW yL_goBack cL_goBack 3 (some .int) [(0, 8, 11, 27)] (rmt 7 170) [.ref 0, .ref 95] (w0 ++ [OUT z]) (some (.int 0)) (w1 ++ [OUT (vp_updL z 0 v.toInt64)]) := by
  have h1 : w1.length = 95 := by rw [hc.1, h0]
  refine ConW.of (by decide) rfl (Nat.le_of_ble_eq_true rfl) (w_len h0 h1) (fun B M => ?_)
  refine g_aload_n M dL_goBack_0 rfl ?_
  refine g_iconst M 0 dL_goBack_1 (by decide) ?_
  refine g_aload_n M dL_goBack_2 rfl ?_
  refine g_V0iu (w' := w1 ++ [OUT z]) M hc lk_L_52 dL_goBack_3 (by decide +kernel) ⟨Nat.le_of_ble_eq_true rfl, Nat.le_of_ble_eq_true rfl⟩ ⟨rfl, rfl⟩ (List.range 95) (by rw [List.getElem?_append_left (by omega)]; exact hh) rfl rfl nd95 (sel_pre nd95 h0 c0) (Nat.le_of_ble_eq_true rfl) (put_pre nd95 h0 h1 c1) ?_
  refine g_i2l M dL_goBack_6 ?_
  refine g_last M dL_goBack_7 (w_at h1) (show vp_in (nI 0) 1 from vp_in_nI (by omega) (by omega)) ?_
  rw [w_sat h1]
  refine g_goto M 14 dL_goBack_8 (by decide) ?_
  refine g_iconst M 0 dL_goBack_14 (by decide) ?_
  exact g_wret M dL_goBack_15 rfl rfl rfl
theorem w_goBack_1 {w0 w1 : List va_E} {z : Nat → Int64} {fs : List Value} (h0 : w0.length = 95) (c0 : clW 95 w0) (c1 : clW 95 w1) (hh : w0[0]? = some (.inr (5, fs))) (hc : ConT yX5_goBack cX5_goBack 1 (some .int) (rmt 6 150) [.ref 0] w0 xIS w1) : ConW yL_goBack cL_goBack 3 (some .int) [(0, 8, 11, 27)] (rmt 7 170) [.ref 0, .ref 95] (w0 ++ [OUT z]) (some (.int 1)) (w1 ++ [OUT z]) := by
  have h1 : w1.length = 95 := by rw [hc.1, h0]
  refine ConW.of (by decide) rfl (Nat.le_of_ble_eq_true rfl) (w_len h0 h1) (fun B M => ?_)
  refine g_aload_n M dL_goBack_0 rfl ?_
  refine g_iconst M 0 dL_goBack_1 (by decide) ?_
  refine g_aload_n M dL_goBack_2 rfl ?_
  refine g_callT (n := 0) (As := []) (h := 11) (h2 := 12) M hc lk_L_52 dL_goBack_3 (by decide +kernel) ⟨Nat.le_of_ble_eq_true rfl, Nat.le_of_ble_eq_true rfl⟩ ⟨rfl, rfl⟩ (List.range 95) (by rw [List.getElem?_append_left (by omega)]; exact hh) rfl rfl rfl nd95 (sel_pre nd95 h0 c0) (Nat.le_of_ble_eq_true rfl) (⟨[], ⟨0, 8, 11, 27⟩, [], rfl, (fun z hz => nomatch hz), by decide, by decide, gw1 621 (by decide +kernel) (by decide +kernel), rfl, fun _ _ _ h => h.2.2.1.2.2⟩) (Or.inl ⟨2, dL_goBack_11, by decide, rfl⟩) (fun B M => ?_)
  rw [put_pre nd95 h0 h1 c1]
  refine g_iconst M 1 dL_goBack_12 (by decide) ?_
  exact g_wret M dL_goBack_13 rfl rfl rfl
theorem lw_goBack : GoodIn GW (va_wsS RL 147 yL_goBack (wsh yL_goBack cL_goBack 3 (some .int) [(0, 8, 11, 27)])) := gok (cd := Cond.codeWith yL_goBack cL_goBack 3 (some .int) [(0, 8, 11, 27)]) (l := [Cond.methodLink RL 147 yL_goBack, Cond.static yL_goBack, Cond.initialized yL_goBack.cls]) (gws _ [766, 767, 53, 768] (by decide +kernel) (by decide +kernel))


theorem w_undo {w0 w1 : List va_E} {v : Int32} {z : Nat → Int64} {fs : List Value} (h0 : w0.length = 95) (c0 : clW 95 w0) (c1 : clW 95 w1) (hh : w0[0]? = some (.inr (5, fs))) (hc : Con yX5_undo cX5_undo 1 (some .int) (rmk 6 150) [.ref 0] w0 (some (.int v)) w1) : ConW yL_undo cL_undo 3 (some .int) [(0, 8, 11, 27)] (rmt 7 170) [.ref 0, .ref 95] (w0 ++ [OUT z]) (some (.int 0)) (w1 ++ [OUT (vp_updL z 0 v.toInt64)]) := by
  have h1 : w1.length = 95 := by rw [hc.1, h0]
  refine ConW.of (by decide) rfl (Nat.le_of_ble_eq_true rfl) (w_len h0 h1) (fun B M => ?_)
  refine g_aload_n M dL_undo_0 rfl ?_
  refine g_iconst M 0 dL_undo_1 (by decide) ?_
  refine g_aload_n M dL_undo_2 rfl ?_
  refine g_V0iu (w' := w1 ++ [OUT z]) M hc lk_L_55 dL_undo_3 (by decide +kernel) ⟨Nat.le_of_ble_eq_true rfl, Nat.le_of_ble_eq_true rfl⟩ ⟨rfl, rfl⟩ (List.range 95) (by rw [List.getElem?_append_left (by omega)]; exact hh) rfl rfl nd95 (sel_pre nd95 h0 c0) (Nat.le_of_ble_eq_true rfl) (put_pre nd95 h0 h1 c1) ?_
  refine g_i2l M dL_undo_6 ?_
  refine g_last M dL_undo_7 (w_at h1) (show vp_in (nI 0) 1 from vp_in_nI (by omega) (by omega)) ?_
  rw [w_sat h1]
  refine g_goto M 14 dL_undo_8 (by decide) ?_
  refine g_iconst M 0 dL_undo_14 (by decide) ?_
  exact g_wret M dL_undo_15 rfl rfl rfl
theorem w_undo_1 {w0 w1 : List va_E} {z : Nat → Int64} {fs : List Value} (h0 : w0.length = 95) (c0 : clW 95 w0) (c1 : clW 95 w1) (hh : w0[0]? = some (.inr (5, fs))) (hc : ConT yX5_undo cX5_undo 1 (some .int) (rmt 6 150) [.ref 0] w0 xIS w1) : ConW yL_undo cL_undo 3 (some .int) [(0, 8, 11, 27)] (rmt 7 170) [.ref 0, .ref 95] (w0 ++ [OUT z]) (some (.int 1)) (w1 ++ [OUT z]) := by
  have h1 : w1.length = 95 := by rw [hc.1, h0]
  refine ConW.of (by decide) rfl (Nat.le_of_ble_eq_true rfl) (w_len h0 h1) (fun B M => ?_)
  refine g_aload_n M dL_undo_0 rfl ?_
  refine g_iconst M 0 dL_undo_1 (by decide) ?_
  refine g_aload_n M dL_undo_2 rfl ?_
  refine g_callT (n := 0) (As := []) (h := 11) (h2 := 12) M hc lk_L_55 dL_undo_3 (by decide +kernel) ⟨Nat.le_of_ble_eq_true rfl, Nat.le_of_ble_eq_true rfl⟩ ⟨rfl, rfl⟩ (List.range 95) (by rw [List.getElem?_append_left (by omega)]; exact hh) rfl rfl rfl nd95 (sel_pre nd95 h0 c0) (Nat.le_of_ble_eq_true rfl) (⟨[], ⟨0, 8, 11, 27⟩, [], rfl, (fun z hz => nomatch hz), by decide, by decide, gw1 621 (by decide +kernel) (by decide +kernel), rfl, fun _ _ _ h => h.2.2.1.2.2⟩) (Or.inl ⟨2, dL_undo_11, by decide, rfl⟩) (fun B M => ?_)
  rw [put_pre nd95 h0 h1 c1]
  refine g_iconst M 1 dL_undo_12 (by decide) ?_
  exact g_wret M dL_undo_13 rfl rfl rfl
theorem lw_undo : GoodIn GW (va_wsS RL 150 yL_undo (wsh yL_undo cL_undo 3 (some .int) [(0, 8, 11, 27)])) := gok (cd := Cond.codeWith yL_undo cL_undo 3 (some .int) [(0, 8, 11, 27)]) (l := [Cond.methodLink RL 150 yL_undo, Cond.static yL_undo, Cond.initialized yL_undo.cls]) (gws _ [774, 775, 53, 776] (by decide +kernel) (by decide +kernel))
theorem w_wheel {w0 w1 : List va_E} {v : Int32} {z : Nat → Int64} {p0 p1 : Int32} {fs : List Value} (h0 : w0.length = 95) (c0 : clW 95 w0) (c1 : clW 95 w1) (hh : w0[0]? = some (.inr (5, fs))) (hc : Con yX5_wheel cX5_wheel 3 (some .int) (rmk 6 150) [.ref 0, .int p0, .int p1] w0 (some (.int v)) w1) : ConW yL_wheel cL_wheel 5 (some .int) [(0, 10, 13, 18), (0, 10, 17, 13)] (rmt 7 172) [.ref 0, .int p0, .int p1, .ref 95] (w0 ++ [OUT z]) (some (.int 0)) (w1 ++ [OUT (vp_updL z 0 v.toInt64)]) := by
  have h1 : w1.length = 95 := by rw [hc.1, h0]
  refine ConW.of (by decide) rfl (Nat.le_of_ble_eq_true rfl) (w_len h0 h1) (fun B M => ?_)
  refine g_aload_n M dL_wheel_0 rfl ?_
  refine g_iconst M 0 dL_wheel_1 (by decide) ?_
  refine g_aload_n M dL_wheel_2 rfl ?_
  refine g_iload_n M dL_wheel_3 rfl ?_
  refine g_iload_n M dL_wheel_4 rfl ?_
  refine g_V2iu (w' := w1 ++ [OUT z]) M hc lk_L_58 dL_wheel_5 (by decide +kernel) ⟨Nat.le_of_ble_eq_true rfl, Nat.le_of_ble_eq_true rfl⟩ ⟨rfl, rfl⟩ (List.range 95) (by rw [List.getElem?_append_left (by omega)]; exact hh) rfl rfl nd95 (sel_pre nd95 h0 c0) (Nat.le_of_ble_eq_true rfl) (put_pre nd95 h0 h1 c1) ?_
  refine g_i2l M dL_wheel_8 ?_
  refine g_last M dL_wheel_9 (w_at h1) (show vp_in (nI 0) 1 from vp_in_nI (by omega) (by omega)) ?_
  rw [w_sat h1]
  refine g_goto M 21 dL_wheel_10 (by decide) ?_
  refine g_iconst M 0 dL_wheel_21 (by decide) ?_
  exact g_wret M dL_wheel_22 rfl rfl rfl
theorem w_wheel_1 {w0 w1 : List va_E} {z : Nat → Int64} {p0 p1 : Int32} {fs : List Value} (h0 : w0.length = 95) (c0 : clW 95 w0) (c1 : clW 95 w1) (hh : w0[0]? = some (.inr (5, fs))) (hc : ConT yX5_wheel cX5_wheel 3 (some .int) (rmt 6 150) [.ref 0, .int p0, .int p1] w0 xIB w1) : ConW yL_wheel cL_wheel 5 (some .int) [(0, 10, 13, 18), (0, 10, 17, 13)] (rmt 7 172) [.ref 0, .int p0, .int p1, .ref 95] (w0 ++ [OUT z]) (some (.int 1)) (w1 ++ [OUT z]) := by
  have h1 : w1.length = 95 := by rw [hc.1, h0]
  refine ConW.of (by decide) rfl (Nat.le_of_ble_eq_true rfl) (w_len h0 h1) (fun B M => ?_)
  refine g_aload_n M dL_wheel_0 rfl ?_
  refine g_iconst M 0 dL_wheel_1 (by decide) ?_
  refine g_aload_n M dL_wheel_2 rfl ?_
  refine g_iload_n M dL_wheel_3 rfl ?_
  refine g_iload_n M dL_wheel_4 rfl ?_
  refine g_callT (n := 2) (As := [.int p0, .int p1]) (h := 13) (h2 := 15) M hc lk_L_58 dL_wheel_5 (by decide +kernel) ⟨Nat.le_of_ble_eq_true rfl, Nat.le_of_ble_eq_true rfl⟩ ⟨rfl, rfl⟩ (List.range 95) (by rw [List.getElem?_append_left (by omega)]; exact hh) rfl rfl rfl nd95 (sel_pre nd95 h0 c0) (Nat.le_of_ble_eq_true rfl) (⟨[], ⟨0, 10, 13, 18⟩, [⟨0, 10, 17, 13⟩], rfl, (fun z hz => nomatch hz), by decide, by decide, gw1 605 (by decide +kernel) (by decide +kernel), rfl, fun _ _ _ h => h.2.2.1.2.1⟩) (Or.inr ⟨4, dL_wheel_13, by decide, rfl⟩) (fun B M => ?_)
  rw [put_pre nd95 h0 h1 c1]
  refine g_iconst M 1 dL_wheel_15 (by decide) ?_
  exact g_wret M dL_wheel_16 rfl rfl rfl
theorem w_wheel_2 {w0 w1 : List va_E} {z : Nat → Int64} {p0 p1 : Int32} {fs : List Value} (h0 : w0.length = 95) (c0 : clW 95 w0) (c1 : clW 95 w1) (hh : w0[0]? = some (.inr (5, fs))) (hc : ConT yX5_wheel cX5_wheel 3 (some .int) (rmt 6 150) [.ref 0, .int p0, .int p1] w0 xIA w1) : ConW yL_wheel cL_wheel 5 (some .int) [(0, 10, 13, 18), (0, 10, 17, 13)] (rmt 7 172) [.ref 0, .int p0, .int p1, .ref 95] (w0 ++ [OUT z]) (some (.int 2)) (w1 ++ [OUT z]) := by
  have h1 : w1.length = 95 := by rw [hc.1, h0]
  refine ConW.of (by decide) rfl (Nat.le_of_ble_eq_true rfl) (w_len h0 h1) (fun B M => ?_)
  refine g_aload_n M dL_wheel_0 rfl ?_
  refine g_iconst M 0 dL_wheel_1 (by decide) ?_
  refine g_aload_n M dL_wheel_2 rfl ?_
  refine g_iload_n M dL_wheel_3 rfl ?_
  refine g_iload_n M dL_wheel_4 rfl ?_
  refine g_callT (n := 2) (As := [.int p0, .int p1]) (h := 17) (h2 := 19) M hc lk_L_58 dL_wheel_5 (by decide +kernel) ⟨Nat.le_of_ble_eq_true rfl, Nat.le_of_ble_eq_true rfl⟩ ⟨rfl, rfl⟩ (List.range 95) (by rw [List.getElem?_append_left (by omega)]; exact hh) rfl rfl rfl nd95 (sel_pre nd95 h0 c0) (Nat.le_of_ble_eq_true rfl) (⟨[⟨0, 10, 13, 18⟩], ⟨0, 10, 17, 13⟩, [], rfl, (fun z hz => by rw [List.mem_singleton.mp hz]; exact ⟨by decide, xIB, gw1 605 (by decide +kernel) (by decide +kernel), fun _ _ _ h => h.2.2.2.1.1⟩), by decide, by decide, gw1 591 (by decide +kernel) (by decide +kernel), rfl, fun _ _ _ h => h.2.2.1.1⟩) (Or.inr ⟨4, dL_wheel_17, by decide, rfl⟩) (fun B M => ?_)
  rw [put_pre nd95 h0 h1 c1]
  refine g_iconst M 2 dL_wheel_19 (by decide) ?_
  exact g_wret M dL_wheel_20 rfl rfl rfl
theorem lw_wheel : GoodIn GW (va_wsS RL 153 yL_wheel (wsh yL_wheel cL_wheel 5 (some .int) [(0, 10, 13, 18), (0, 10, 17, 13)])) := gok (cd := Cond.codeWith yL_wheel cL_wheel 5 (some .int) [(0, 10, 13, 18), (0, 10, 17, 13)]) (l := [Cond.methodLink RL 153 yL_wheel, Cond.static yL_wheel, Cond.initialized yL_wheel.cls]) (gws _ [786, 787, 53, 788] (by decide +kernel) (by decide +kernel))
theorem w_tooth {w0 w1 : List va_E} {v : Int32} {z : Nat → Int64} {p0 p1 : Int32} {fs : List Value} (h0 : w0.length = 95) (c0 : clW 95 w0) (c1 : clW 95 w1) (hh : w0[0]? = some (.inr (5, fs))) (hc : Con yX5_tooth cX5_tooth 3 (some .int) (rmk 6 150) [.ref 0, .int p0, .int p1] w0 (some (.int v)) w1) : ConW yL_tooth cL_tooth 5 (some .int) [(0, 10, 13, 18)] (rmt 7 172) [.ref 0, .int p0, .int p1, .ref 95] (w0 ++ [OUT z]) (some (.int 0)) (w1 ++ [OUT (vp_updL z 0 v.toInt64)]) := by
  have h1 : w1.length = 95 := by rw [hc.1, h0]
  refine ConW.of (by decide) rfl (Nat.le_of_ble_eq_true rfl) (w_len h0 h1) (fun B M => ?_)
  refine g_aload_n M dL_tooth_0 rfl ?_
  refine g_iconst M 0 dL_tooth_1 (by decide) ?_
  refine g_aload_n M dL_tooth_2 rfl ?_
  refine g_iload_n M dL_tooth_3 rfl ?_
  refine g_iload_n M dL_tooth_4 rfl ?_
  refine g_V2iu (w' := w1 ++ [OUT z]) M hc lk_L_61 dL_tooth_5 (by decide +kernel) ⟨Nat.le_of_ble_eq_true rfl, Nat.le_of_ble_eq_true rfl⟩ ⟨rfl, rfl⟩ (List.range 95) (by rw [List.getElem?_append_left (by omega)]; exact hh) rfl rfl nd95 (sel_pre nd95 h0 c0) (Nat.le_of_ble_eq_true rfl) (put_pre nd95 h0 h1 c1) ?_
  refine g_i2l M dL_tooth_8 ?_
  refine g_last M dL_tooth_9 (w_at h1) (show vp_in (nI 0) 1 from vp_in_nI (by omega) (by omega)) ?_
  rw [w_sat h1]
  refine g_goto M 17 dL_tooth_10 (by decide) ?_
  refine g_iconst M 0 dL_tooth_17 (by decide) ?_
  exact g_wret M dL_tooth_18 rfl rfl rfl
theorem w_tooth_1 {w0 w1 : List va_E} {z : Nat → Int64} {p0 p1 : Int32} {fs : List Value} (h0 : w0.length = 95) (c0 : clW 95 w0) (c1 : clW 95 w1) (hh : w0[0]? = some (.inr (5, fs))) (hc : ConT yX5_tooth cX5_tooth 3 (some .int) (rmt 6 150) [.ref 0, .int p0, .int p1] w0 xIB w1) : ConW yL_tooth cL_tooth 5 (some .int) [(0, 10, 13, 18)] (rmt 7 172) [.ref 0, .int p0, .int p1, .ref 95] (w0 ++ [OUT z]) (some (.int 1)) (w1 ++ [OUT z]) := by
  have h1 : w1.length = 95 := by rw [hc.1, h0]
  refine ConW.of (by decide) rfl (Nat.le_of_ble_eq_true rfl) (w_len h0 h1) (fun B M => ?_)
  refine g_aload_n M dL_tooth_0 rfl ?_
  refine g_iconst M 0 dL_tooth_1 (by decide) ?_
  refine g_aload_n M dL_tooth_2 rfl ?_
  refine g_iload_n M dL_tooth_3 rfl ?_
  refine g_iload_n M dL_tooth_4 rfl ?_
  refine g_callT (n := 2) (As := [.int p0, .int p1]) (h := 13) (h2 := 15) M hc lk_L_61 dL_tooth_5 (by decide +kernel) ⟨Nat.le_of_ble_eq_true rfl, Nat.le_of_ble_eq_true rfl⟩ ⟨rfl, rfl⟩ (List.range 95) (by rw [List.getElem?_append_left (by omega)]; exact hh) rfl rfl rfl nd95 (sel_pre nd95 h0 c0) (Nat.le_of_ble_eq_true rfl) (⟨[], ⟨0, 10, 13, 18⟩, [], rfl, (fun z hz => nomatch hz), by decide, by decide, gw1 605 (by decide +kernel) (by decide +kernel), rfl, fun _ _ _ h => h.2.2.1.2.1⟩) (Or.inr ⟨4, dL_tooth_13, by decide, rfl⟩) (fun B M => ?_)
  rw [put_pre nd95 h0 h1 c1]
  refine g_iconst M 1 dL_tooth_15 (by decide) ?_
  exact g_wret M dL_tooth_16 rfl rfl rfl
theorem lw_tooth : GoodIn GW (va_wsS RL 156 yL_tooth (wsh yL_tooth cL_tooth 5 (some .int) [(0, 10, 13, 18)])) := gok (cd := Cond.codeWith yL_tooth cL_tooth 5 (some .int) [(0, 10, 13, 18)]) (l := [Cond.methodLink RL 156 yL_tooth, Cond.static yL_tooth, Cond.initialized yL_tooth.cls]) (gws _ [790, 791, 53, 792] (by decide +kernel) (by decide +kernel))
theorem w_scene {w0 w1 : List va_E} {v : Int32} {z : Nat → Int64} {p0 p1 : Int32} {fs : List Value} (h0 : w0.length = 95) (c0 : clW 95 w0) (c1 : clW 95 w1) (hh : w0[0]? = some (.inr (5, fs))) (hc : Con yX5_scene cX5_scene 3 (some .int) (rmk 6 150) [.ref 0, .int p0, .int p1] w0 (some (.int v)) w1) : ConW yL_scene cL_scene 5 (some .int) [(0, 10, 13, 18), (0, 10, 17, 13)] (rmt 7 172) [.ref 0, .int p0, .int p1, .ref 95] (w0 ++ [OUT z]) (some (.int 0)) (w1 ++ [OUT (vp_updL z 0 v.toInt64)]) := by
  have h1 : w1.length = 95 := by rw [hc.1, h0]
  refine ConW.of (by decide) rfl (Nat.le_of_ble_eq_true rfl) (w_len h0 h1) (fun B M => ?_)
  refine g_aload_n M dL_scene_0 rfl ?_
  refine g_iconst M 0 dL_scene_1 (by decide) ?_
  refine g_aload_n M dL_scene_2 rfl ?_
  refine g_iload_n M dL_scene_3 rfl ?_
  refine g_iload_n M dL_scene_4 rfl ?_
  refine g_V2iu (w' := w1 ++ [OUT z]) M hc lk_L_64 dL_scene_5 (by decide +kernel) ⟨Nat.le_of_ble_eq_true rfl, Nat.le_of_ble_eq_true rfl⟩ ⟨rfl, rfl⟩ (List.range 95) (by rw [List.getElem?_append_left (by omega)]; exact hh) rfl rfl nd95 (sel_pre nd95 h0 c0) (Nat.le_of_ble_eq_true rfl) (put_pre nd95 h0 h1 c1) ?_
  refine g_i2l M dL_scene_8 ?_
  refine g_last M dL_scene_9 (w_at h1) (show vp_in (nI 0) 1 from vp_in_nI (by omega) (by omega)) ?_
  rw [w_sat h1]
  refine g_goto M 21 dL_scene_10 (by decide) ?_
  refine g_iconst M 0 dL_scene_21 (by decide) ?_
  exact g_wret M dL_scene_22 rfl rfl rfl
theorem w_scene_1 {w0 w1 : List va_E} {z : Nat → Int64} {p0 p1 : Int32} {fs : List Value} (h0 : w0.length = 95) (c0 : clW 95 w0) (c1 : clW 95 w1) (hh : w0[0]? = some (.inr (5, fs))) (hc : ConT yX5_scene cX5_scene 3 (some .int) (rmt 6 150) [.ref 0, .int p0, .int p1] w0 xIB w1) : ConW yL_scene cL_scene 5 (some .int) [(0, 10, 13, 18), (0, 10, 17, 13)] (rmt 7 172) [.ref 0, .int p0, .int p1, .ref 95] (w0 ++ [OUT z]) (some (.int 1)) (w1 ++ [OUT z]) := by
  have h1 : w1.length = 95 := by rw [hc.1, h0]
  refine ConW.of (by decide) rfl (Nat.le_of_ble_eq_true rfl) (w_len h0 h1) (fun B M => ?_)
  refine g_aload_n M dL_scene_0 rfl ?_
  refine g_iconst M 0 dL_scene_1 (by decide) ?_
  refine g_aload_n M dL_scene_2 rfl ?_
  refine g_iload_n M dL_scene_3 rfl ?_
  refine g_iload_n M dL_scene_4 rfl ?_
  refine g_callT (n := 2) (As := [.int p0, .int p1]) (h := 13) (h2 := 15) M hc lk_L_64 dL_scene_5 (by decide +kernel) ⟨Nat.le_of_ble_eq_true rfl, Nat.le_of_ble_eq_true rfl⟩ ⟨rfl, rfl⟩ (List.range 95) (by rw [List.getElem?_append_left (by omega)]; exact hh) rfl rfl rfl nd95 (sel_pre nd95 h0 c0) (Nat.le_of_ble_eq_true rfl) (⟨[], ⟨0, 10, 13, 18⟩, [⟨0, 10, 17, 13⟩], rfl, (fun z hz => nomatch hz), by decide, by decide, gw1 605 (by decide +kernel) (by decide +kernel), rfl, fun _ _ _ h => h.2.2.1.2.1⟩) (Or.inr ⟨4, dL_scene_13, by decide, rfl⟩) (fun B M => ?_)
  rw [put_pre nd95 h0 h1 c1]
  refine g_iconst M 1 dL_scene_15 (by decide) ?_
  exact g_wret M dL_scene_16 rfl rfl rfl
theorem w_scene_2 {w0 w1 : List va_E} {z : Nat → Int64} {p0 p1 : Int32} {fs : List Value} (h0 : w0.length = 95) (c0 : clW 95 w0) (c1 : clW 95 w1) (hh : w0[0]? = some (.inr (5, fs))) (hc : ConT yX5_scene cX5_scene 3 (some .int) (rmt 6 150) [.ref 0, .int p0, .int p1] w0 xIA w1) : ConW yL_scene cL_scene 5 (some .int) [(0, 10, 13, 18), (0, 10, 17, 13)] (rmt 7 172) [.ref 0, .int p0, .int p1, .ref 95] (w0 ++ [OUT z]) (some (.int 2)) (w1 ++ [OUT z]) := by
  have h1 : w1.length = 95 := by rw [hc.1, h0]
  refine ConW.of (by decide) rfl (Nat.le_of_ble_eq_true rfl) (w_len h0 h1) (fun B M => ?_)
  refine g_aload_n M dL_scene_0 rfl ?_
  refine g_iconst M 0 dL_scene_1 (by decide) ?_
  refine g_aload_n M dL_scene_2 rfl ?_
  refine g_iload_n M dL_scene_3 rfl ?_
  refine g_iload_n M dL_scene_4 rfl ?_
  refine g_callT (n := 2) (As := [.int p0, .int p1]) (h := 17) (h2 := 19) M hc lk_L_64 dL_scene_5 (by decide +kernel) ⟨Nat.le_of_ble_eq_true rfl, Nat.le_of_ble_eq_true rfl⟩ ⟨rfl, rfl⟩ (List.range 95) (by rw [List.getElem?_append_left (by omega)]; exact hh) rfl rfl rfl nd95 (sel_pre nd95 h0 c0) (Nat.le_of_ble_eq_true rfl) (⟨[⟨0, 10, 13, 18⟩], ⟨0, 10, 17, 13⟩, [], rfl, (fun z hz => by rw [List.mem_singleton.mp hz]; exact ⟨by decide, xIB, gw1 605 (by decide +kernel) (by decide +kernel), fun _ _ _ h => h.2.2.2.1.1⟩), by decide, by decide, gw1 591 (by decide +kernel) (by decide +kernel), rfl, fun _ _ _ h => h.2.2.1.1⟩) (Or.inr ⟨4, dL_scene_17, by decide, rfl⟩) (fun B M => ?_)
  rw [put_pre nd95 h0 h1 c1]
  refine g_iconst M 2 dL_scene_19 (by decide) ?_
  exact g_wret M dL_scene_20 rfl rfl rfl
theorem lw_scene : GoodIn GW (va_wsS RL 159 yL_scene (wsh yL_scene cL_scene 5 (some .int) [(0, 10, 13, 18), (0, 10, 17, 13)])) := gok (cd := Cond.codeWith yL_scene cL_scene 5 (some .int) [(0, 10, 13, 18), (0, 10, 17, 13)]) (l := [Cond.methodLink RL 159 yL_scene, Cond.static yL_scene, Cond.initialized yL_scene.cls]) (gws _ [797, 798, 53, 799] (by decide +kernel) (by decide +kernel))
theorem w_count {w0 w1 : List va_E} {v : Int32} {z : Nat → Int64} {p0 : Int32} {fs : List Value} (h0 : w0.length = 95) (c0 : clW 95 w0) (c1 : clW 95 w1) (hh : w0[0]? = some (.inr (5, fs))) (hc : Con yX5_count cX5_count 2 (some .int) (rmk 6 150) [.ref 0, .int p0] w0 (some (.int v)) w1) : ConW yL_count cL_count 4 (some .int) [(0, 9, 12, 13)] (rmt 7 171) [.ref 0, .int p0, .ref 95] (w0 ++ [OUT z]) (some (.int 0)) (w1 ++ [OUT (vp_updL z 0 v.toInt64)]) := by
  have h1 : w1.length = 95 := by rw [hc.1, h0]
  refine ConW.of (by decide) rfl (Nat.le_of_ble_eq_true rfl) (w_len h0 h1) (fun B M => ?_)
  refine g_aload_n M dL_count_0 rfl ?_
  refine g_iconst M 0 dL_count_1 (by decide) ?_
  refine g_aload_n M dL_count_2 rfl ?_
  refine g_iload_n M dL_count_3 rfl ?_
  refine g_V1iu (w' := w1 ++ [OUT z]) M hc lk_L_67 dL_count_4 (by decide +kernel) ⟨Nat.le_of_ble_eq_true rfl, Nat.le_of_ble_eq_true rfl⟩ ⟨rfl, rfl⟩ (List.range 95) (by rw [List.getElem?_append_left (by omega)]; exact hh) rfl rfl nd95 (sel_pre nd95 h0 c0) (Nat.le_of_ble_eq_true rfl) (put_pre nd95 h0 h1 c1) ?_
  refine g_i2l M dL_count_7 ?_
  refine g_last M dL_count_8 (w_at h1) (show vp_in (nI 0) 1 from vp_in_nI (by omega) (by omega)) ?_
  rw [w_sat h1]
  refine g_goto M 15 dL_count_9 (by decide) ?_
  refine g_iconst M 0 dL_count_15 (by decide) ?_
  exact g_wret M dL_count_16 rfl rfl rfl
theorem w_count_1 {w0 w1 : List va_E} {z : Nat → Int64} {p0 : Int32} {fs : List Value} (h0 : w0.length = 95) (c0 : clW 95 w0) (c1 : clW 95 w1) (hh : w0[0]? = some (.inr (5, fs))) (hc : ConT yX5_count cX5_count 2 (some .int) (rmt 6 150) [.ref 0, .int p0] w0 xIA w1) : ConW yL_count cL_count 4 (some .int) [(0, 9, 12, 13)] (rmt 7 171) [.ref 0, .int p0, .ref 95] (w0 ++ [OUT z]) (some (.int 1)) (w1 ++ [OUT z]) := by
  have h1 : w1.length = 95 := by rw [hc.1, h0]
  refine ConW.of (by decide) rfl (Nat.le_of_ble_eq_true rfl) (w_len h0 h1) (fun B M => ?_)
  refine g_aload_n M dL_count_0 rfl ?_
  refine g_iconst M 0 dL_count_1 (by decide) ?_
  refine g_aload_n M dL_count_2 rfl ?_
  refine g_iload_n M dL_count_3 rfl ?_
  refine g_callT (n := 1) (As := [.int p0]) (h := 12) (h2 := 13) M hc lk_L_67 dL_count_4 (by decide +kernel) ⟨Nat.le_of_ble_eq_true rfl, Nat.le_of_ble_eq_true rfl⟩ ⟨rfl, rfl⟩ (List.range 95) (by rw [List.getElem?_append_left (by omega)]; exact hh) rfl rfl rfl nd95 (sel_pre nd95 h0 c0) (Nat.le_of_ble_eq_true rfl) (⟨[], ⟨0, 9, 12, 13⟩, [], rfl, (fun z hz => nomatch hz), by decide, by decide, gw1 591 (by decide +kernel) (by decide +kernel), rfl, fun _ _ _ h => h.2.2.1.1⟩) (Or.inl ⟨3, dL_count_12, by decide, rfl⟩) (fun B M => ?_)
  rw [put_pre nd95 h0 h1 c1]
  refine g_iconst M 1 dL_count_13 (by decide) ?_
  exact g_wret M dL_count_14 rfl rfl rfl
theorem lw_count : GoodIn GW (va_wsS RL 162 yL_count (wsh yL_count cL_count 4 (some .int) [(0, 9, 12, 13)])) := gok (cd := Cond.codeWith yL_count cL_count 4 (some .int) [(0, 9, 12, 13)]) (l := [Cond.methodLink RL 162 yL_count, Cond.static yL_count, Cond.initialized yL_count.cls]) (gws _ [801, 802, 53, 803] (by decide +kernel) (by decide +kernel))
theorem w_why {w0 w1 : List va_E} {v : Int32} {z : Nat → Int64} {p0 : Int32} {fs : List Value} (h0 : w0.length = 95) (c0 : clW 95 w0) (c1 : clW 95 w1) (hh : w0[0]? = some (.inr (5, fs))) (hc : Con yX5_why cX5_why 2 (some .int) (rmk 6 150) [.ref 0, .int p0] w0 (some (.int v)) w1) : ConW yL_why cL_why 4 (some .int) [(0, 9, 12, 13)] (rmt 7 171) [.ref 0, .int p0, .ref 95] (w0 ++ [OUT z]) (some (.int 0)) (w1 ++ [OUT (vp_updL z 0 v.toInt64)]) := by
  have h1 : w1.length = 95 := by rw [hc.1, h0]
  refine ConW.of (by decide) rfl (Nat.le_of_ble_eq_true rfl) (w_len h0 h1) (fun B M => ?_)
  refine g_aload_n M dL_why_0 rfl ?_
  refine g_iconst M 0 dL_why_1 (by decide) ?_
  refine g_aload_n M dL_why_2 rfl ?_
  refine g_iload_n M dL_why_3 rfl ?_
  refine g_V1iu (w' := w1 ++ [OUT z]) M hc lk_L_70 dL_why_4 (by decide +kernel) ⟨Nat.le_of_ble_eq_true rfl, Nat.le_of_ble_eq_true rfl⟩ ⟨rfl, rfl⟩ (List.range 95) (by rw [List.getElem?_append_left (by omega)]; exact hh) rfl rfl nd95 (sel_pre nd95 h0 c0) (Nat.le_of_ble_eq_true rfl) (put_pre nd95 h0 h1 c1) ?_
  refine g_i2l M dL_why_7 ?_
  refine g_last M dL_why_8 (w_at h1) (show vp_in (nI 0) 1 from vp_in_nI (by omega) (by omega)) ?_
  rw [w_sat h1]
  refine g_goto M 15 dL_why_9 (by decide) ?_
  refine g_iconst M 0 dL_why_15 (by decide) ?_
  exact g_wret M dL_why_16 rfl rfl rfl
theorem w_why_1 {w0 w1 : List va_E} {z : Nat → Int64} {p0 : Int32} {fs : List Value} (h0 : w0.length = 95) (c0 : clW 95 w0) (c1 : clW 95 w1) (hh : w0[0]? = some (.inr (5, fs))) (hc : ConT yX5_why cX5_why 2 (some .int) (rmt 6 150) [.ref 0, .int p0] w0 xIA w1) : ConW yL_why cL_why 4 (some .int) [(0, 9, 12, 13)] (rmt 7 171) [.ref 0, .int p0, .ref 95] (w0 ++ [OUT z]) (some (.int 1)) (w1 ++ [OUT z]) := by
  have h1 : w1.length = 95 := by rw [hc.1, h0]
  refine ConW.of (by decide) rfl (Nat.le_of_ble_eq_true rfl) (w_len h0 h1) (fun B M => ?_)
  refine g_aload_n M dL_why_0 rfl ?_
  refine g_iconst M 0 dL_why_1 (by decide) ?_
  refine g_aload_n M dL_why_2 rfl ?_
  refine g_iload_n M dL_why_3 rfl ?_
  refine g_callT (n := 1) (As := [.int p0]) (h := 12) (h2 := 13) M hc lk_L_70 dL_why_4 (by decide +kernel) ⟨Nat.le_of_ble_eq_true rfl, Nat.le_of_ble_eq_true rfl⟩ ⟨rfl, rfl⟩ (List.range 95) (by rw [List.getElem?_append_left (by omega)]; exact hh) rfl rfl rfl nd95 (sel_pre nd95 h0 c0) (Nat.le_of_ble_eq_true rfl) (⟨[], ⟨0, 9, 12, 13⟩, [], rfl, (fun z hz => nomatch hz), by decide, by decide, gw1 591 (by decide +kernel) (by decide +kernel), rfl, fun _ _ _ h => h.2.2.1.1⟩) (Or.inl ⟨3, dL_why_12, by decide, rfl⟩) (fun B M => ?_)
  rw [put_pre nd95 h0 h1 c1]
  refine g_iconst M 1 dL_why_13 (by decide) ?_
  exact g_wret M dL_why_14 rfl rfl rfl
theorem lw_why : GoodIn GW (va_wsS RL 165 yL_why (wsh yL_why cL_why 4 (some .int) [(0, 9, 12, 13)])) := gok (cd := Cond.codeWith yL_why cL_why 4 (some .int) [(0, 9, 12, 13)]) (l := [Cond.methodLink RL 165 yL_why, Cond.static yL_why, Cond.initialized yL_why.cls]) (gws _ [805, 806, 53, 807] (by decide +kernel) (by decide +kernel))
theorem w_round {w0 w1 : List va_E} {v : Int32} {z : Nat → Int64} {p0 : Int32} {fs : List Value} (h0 : w0.length = 95) (c0 : clW 95 w0) (c1 : clW 95 w1) (hh : w0[0]? = some (.inr (5, fs))) (hc : Con yX5_round cX5_round 2 (some .int) (rmk 6 150) [.ref 0, .int p0] w0 (some (.int v)) w1) : ConW yL_round cL_round 4 (some .int) [(0, 9, 12, 13)] (rmt 7 171) [.ref 0, .int p0, .ref 95] (w0 ++ [OUT z]) (some (.int 0)) (w1 ++ [OUT (vp_updL z 0 v.toInt64)]) := by
  have h1 : w1.length = 95 := by rw [hc.1, h0]
  refine ConW.of (by decide) rfl (Nat.le_of_ble_eq_true rfl) (w_len h0 h1) (fun B M => ?_)
  refine g_aload_n M dL_round_0 rfl ?_
  refine g_iconst M 0 dL_round_1 (by decide) ?_
  refine g_aload_n M dL_round_2 rfl ?_
  refine g_iload_n M dL_round_3 rfl ?_
  refine g_V1iu (w' := w1 ++ [OUT z]) M hc lk_L_73 dL_round_4 (by decide +kernel) ⟨Nat.le_of_ble_eq_true rfl, Nat.le_of_ble_eq_true rfl⟩ ⟨rfl, rfl⟩ (List.range 95) (by rw [List.getElem?_append_left (by omega)]; exact hh) rfl rfl nd95 (sel_pre nd95 h0 c0) (Nat.le_of_ble_eq_true rfl) (put_pre nd95 h0 h1 c1) ?_
  refine g_i2l M dL_round_7 ?_
  refine g_last M dL_round_8 (w_at h1) (show vp_in (nI 0) 1 from vp_in_nI (by omega) (by omega)) ?_
  rw [w_sat h1]
  refine g_goto M 15 dL_round_9 (by decide) ?_
  refine g_iconst M 0 dL_round_15 (by decide) ?_
  exact g_wret M dL_round_16 rfl rfl rfl
theorem w_round_1 {w0 w1 : List va_E} {z : Nat → Int64} {p0 : Int32} {fs : List Value} (h0 : w0.length = 95) (c0 : clW 95 w0) (c1 : clW 95 w1) (hh : w0[0]? = some (.inr (5, fs))) (hc : ConT yX5_round cX5_round 2 (some .int) (rmt 6 150) [.ref 0, .int p0] w0 xIA w1) : ConW yL_round cL_round 4 (some .int) [(0, 9, 12, 13)] (rmt 7 171) [.ref 0, .int p0, .ref 95] (w0 ++ [OUT z]) (some (.int 1)) (w1 ++ [OUT z]) := by
  have h1 : w1.length = 95 := by rw [hc.1, h0]
  refine ConW.of (by decide) rfl (Nat.le_of_ble_eq_true rfl) (w_len h0 h1) (fun B M => ?_)
  refine g_aload_n M dL_round_0 rfl ?_
  refine g_iconst M 0 dL_round_1 (by decide) ?_
  refine g_aload_n M dL_round_2 rfl ?_
  refine g_iload_n M dL_round_3 rfl ?_
  refine g_callT (n := 1) (As := [.int p0]) (h := 12) (h2 := 13) M hc lk_L_73 dL_round_4 (by decide +kernel) ⟨Nat.le_of_ble_eq_true rfl, Nat.le_of_ble_eq_true rfl⟩ ⟨rfl, rfl⟩ (List.range 95) (by rw [List.getElem?_append_left (by omega)]; exact hh) rfl rfl rfl nd95 (sel_pre nd95 h0 c0) (Nat.le_of_ble_eq_true rfl) (⟨[], ⟨0, 9, 12, 13⟩, [], rfl, (fun z hz => nomatch hz), by decide, by decide, gw1 591 (by decide +kernel) (by decide +kernel), rfl, fun _ _ _ h => h.2.2.1.1⟩) (Or.inl ⟨3, dL_round_12, by decide, rfl⟩) (fun B M => ?_)
  rw [put_pre nd95 h0 h1 c1]
  refine g_iconst M 1 dL_round_13 (by decide) ?_
  exact g_wret M dL_round_14 rfl rfl rfl
theorem lw_round : GoodIn GW (va_wsS RL 168 yL_round (wsh yL_round cL_round 4 (some .int) [(0, 9, 12, 13)])) := gok (cd := Cond.codeWith yL_round cL_round 4 (some .int) [(0, 9, 12, 13)]) (l := [Cond.methodLink RL 168 yL_round, Cond.static yL_round, Cond.initialized yL_round.cls]) (gws _ [809, 810, 53, 811] (by decide +kernel) (by decide +kernel))
theorem w_jamsIn {w0 w1 : List va_E} {v : Int32} {z : Nat → Int64} {p0 : Int32} {fs : List Value} (h0 : w0.length = 95) (c0 : clW 95 w0) (c1 : clW 95 w1) (hh : w0[0]? = some (.inr (5, fs))) (hc : Con yX5_jamsIn cX5_jamsIn 5 (some .int) (rmk 6 150) [.ref 0, .int p0] w0 (some (.int v)) w1) : ConW yL_jamsIn cL_jamsIn 4 (some .int) [(0, 9, 12, 13)] (rmt 7 174) [.ref 0, .int p0, .ref 95] (w0 ++ [OUT z]) (some (.int 0)) (w1 ++ [OUT (vp_updL z 0 v.toInt64)]) := by
  have h1 : w1.length = 95 := by rw [hc.1, h0]
  refine ConW.of (by decide) rfl (Nat.le_of_ble_eq_true rfl) (w_len h0 h1) (fun B M => ?_)
  refine g_aload_n M dL_jamsIn_0 rfl ?_
  refine g_iconst M 0 dL_jamsIn_1 (by decide) ?_
  refine g_aload_n M dL_jamsIn_2 rfl ?_
  refine g_iload_n M dL_jamsIn_3 rfl ?_
  refine g_V1iu (w' := w1 ++ [OUT z]) M hc lk_L_76 dL_jamsIn_4 (by decide +kernel) ⟨Nat.le_of_ble_eq_true rfl, Nat.le_of_ble_eq_true rfl⟩ ⟨rfl, rfl⟩ (List.range 95) (by rw [List.getElem?_append_left (by omega)]; exact hh) rfl rfl nd95 (sel_pre nd95 h0 c0) (Nat.le_of_ble_eq_true rfl) (put_pre nd95 h0 h1 c1) ?_
  refine g_i2l M dL_jamsIn_7 ?_
  refine g_last M dL_jamsIn_8 (w_at h1) (show vp_in (nI 0) 1 from vp_in_nI (by omega) (by omega)) ?_
  rw [w_sat h1]
  refine g_goto M 15 dL_jamsIn_9 (by decide) ?_
  refine g_iconst M 0 dL_jamsIn_15 (by decide) ?_
  exact g_wret M dL_jamsIn_16 rfl rfl rfl
theorem w_jamsIn_1 {w0 w1 : List va_E} {z : Nat → Int64} {p0 : Int32} {fs : List Value} (h0 : w0.length = 95) (c0 : clW 95 w0) (c1 : clW 95 w1) (hh : w0[0]? = some (.inr (5, fs))) (hc : ConT yX5_jamsIn cX5_jamsIn 5 (some .int) (rmt 6 150) [.ref 0, .int p0] w0 xIA w1) : ConW yL_jamsIn cL_jamsIn 4 (some .int) [(0, 9, 12, 13)] (rmt 7 174) [.ref 0, .int p0, .ref 95] (w0 ++ [OUT z]) (some (.int 1)) (w1 ++ [OUT z]) := by
  have h1 : w1.length = 95 := by rw [hc.1, h0]
  refine ConW.of (by decide) rfl (Nat.le_of_ble_eq_true rfl) (w_len h0 h1) (fun B M => ?_)
  refine g_aload_n M dL_jamsIn_0 rfl ?_
  refine g_iconst M 0 dL_jamsIn_1 (by decide) ?_
  refine g_aload_n M dL_jamsIn_2 rfl ?_
  refine g_iload_n M dL_jamsIn_3 rfl ?_
  refine g_callT (n := 1) (As := [.int p0]) (h := 12) (h2 := 13) M hc lk_L_76 dL_jamsIn_4 (by decide +kernel) ⟨Nat.le_of_ble_eq_true rfl, Nat.le_of_ble_eq_true rfl⟩ ⟨rfl, rfl⟩ (List.range 95) (by rw [List.getElem?_append_left (by omega)]; exact hh) rfl rfl rfl nd95 (sel_pre nd95 h0 c0) (Nat.le_of_ble_eq_true rfl) (⟨[], ⟨0, 9, 12, 13⟩, [], rfl, (fun z hz => nomatch hz), by decide, by decide, gw1 591 (by decide +kernel) (by decide +kernel), rfl, fun _ _ _ h => h.2.2.1.1⟩) (Or.inl ⟨3, dL_jamsIn_12, by decide, rfl⟩) (fun B M => ?_)
  rw [put_pre nd95 h0 h1 c1]
  refine g_iconst M 1 dL_jamsIn_13 (by decide) ?_
  exact g_wret M dL_jamsIn_14 rfl rfl rfl
theorem lw_jamsIn : GoodIn GW (va_wsS RL 171 yL_jamsIn (wsh yL_jamsIn cL_jamsIn 4 (some .int) [(0, 9, 12, 13)])) := gok (cd := Cond.codeWith yL_jamsIn cL_jamsIn 4 (some .int) [(0, 9, 12, 13)]) (l := [Cond.methodLink RL 171 yL_jamsIn, Cond.static yL_jamsIn, Cond.initialized yL_jamsIn.cls]) (gws _ [813, 814, 53, 815] (by decide +kernel) (by decide +kernel))
theorem w_ahead {w0 w1 : List va_E} {v : Int32} {z : Nat → Int64} {p0 p1 : Int32} {fs : List Value} (h0 : w0.length = 95) (c0 : clW 95 w0) (c1 : clW 95 w1) (hh : w0[0]? = some (.inr (5, fs))) (hc : Con yX5_ahead cX5_ahead 3 (some .int) (rmk 6 150) [.ref 0, .int p0, .int p1] w0 (some (.int v)) w1) : ConW yL_ahead cL_ahead 5 (some .int) [(0, 10, 13, 18), (0, 10, 17, 13)] (rmt 7 172) [.ref 0, .int p0, .int p1, .ref 95] (w0 ++ [OUT z]) (some (.int 0)) (w1 ++ [OUT (vp_updL z 0 v.toInt64)]) := by
  have h1 : w1.length = 95 := by rw [hc.1, h0]
  refine ConW.of (by decide) rfl (Nat.le_of_ble_eq_true rfl) (w_len h0 h1) (fun B M => ?_)
  refine g_aload_n M dL_ahead_0 rfl ?_
  refine g_iconst M 0 dL_ahead_1 (by decide) ?_
  refine g_aload_n M dL_ahead_2 rfl ?_
  refine g_iload_n M dL_ahead_3 rfl ?_
  refine g_iload_n M dL_ahead_4 rfl ?_
  refine g_V2iu (w' := w1 ++ [OUT z]) M hc lk_L_79 dL_ahead_5 (by decide +kernel) ⟨Nat.le_of_ble_eq_true rfl, Nat.le_of_ble_eq_true rfl⟩ ⟨rfl, rfl⟩ (List.range 95) (by rw [List.getElem?_append_left (by omega)]; exact hh) rfl rfl nd95 (sel_pre nd95 h0 c0) (Nat.le_of_ble_eq_true rfl) (put_pre nd95 h0 h1 c1) ?_
  refine g_i2l M dL_ahead_8 ?_
  refine g_last M dL_ahead_9 (w_at h1) (show vp_in (nI 0) 1 from vp_in_nI (by omega) (by omega)) ?_
  rw [w_sat h1]
  refine g_goto M 21 dL_ahead_10 (by decide) ?_
  refine g_iconst M 0 dL_ahead_21 (by decide) ?_
  exact g_wret M dL_ahead_22 rfl rfl rfl
theorem w_ahead_1 {w0 w1 : List va_E} {z : Nat → Int64} {p0 p1 : Int32} {fs : List Value} (h0 : w0.length = 95) (c0 : clW 95 w0) (c1 : clW 95 w1) (hh : w0[0]? = some (.inr (5, fs))) (hc : ConT yX5_ahead cX5_ahead 3 (some .int) (rmt 6 150) [.ref 0, .int p0, .int p1] w0 xIB w1) : ConW yL_ahead cL_ahead 5 (some .int) [(0, 10, 13, 18), (0, 10, 17, 13)] (rmt 7 172) [.ref 0, .int p0, .int p1, .ref 95] (w0 ++ [OUT z]) (some (.int 1)) (w1 ++ [OUT z]) := by
  have h1 : w1.length = 95 := by rw [hc.1, h0]
  refine ConW.of (by decide) rfl (Nat.le_of_ble_eq_true rfl) (w_len h0 h1) (fun B M => ?_)
  refine g_aload_n M dL_ahead_0 rfl ?_
  refine g_iconst M 0 dL_ahead_1 (by decide) ?_
  refine g_aload_n M dL_ahead_2 rfl ?_
  refine g_iload_n M dL_ahead_3 rfl ?_
  refine g_iload_n M dL_ahead_4 rfl ?_
  refine g_callT (n := 2) (As := [.int p0, .int p1]) (h := 13) (h2 := 15) M hc lk_L_79 dL_ahead_5 (by decide +kernel) ⟨Nat.le_of_ble_eq_true rfl, Nat.le_of_ble_eq_true rfl⟩ ⟨rfl, rfl⟩ (List.range 95) (by rw [List.getElem?_append_left (by omega)]; exact hh) rfl rfl rfl nd95 (sel_pre nd95 h0 c0) (Nat.le_of_ble_eq_true rfl) (⟨[], ⟨0, 10, 13, 18⟩, [⟨0, 10, 17, 13⟩], rfl, (fun z hz => nomatch hz), by decide, by decide, gw1 605 (by decide +kernel) (by decide +kernel), rfl, fun _ _ _ h => h.2.2.1.2.1⟩) (Or.inr ⟨4, dL_ahead_13, by decide, rfl⟩) (fun B M => ?_)
  rw [put_pre nd95 h0 h1 c1]
  refine g_iconst M 1 dL_ahead_15 (by decide) ?_
  exact g_wret M dL_ahead_16 rfl rfl rfl
theorem w_ahead_2 {w0 w1 : List va_E} {z : Nat → Int64} {p0 p1 : Int32} {fs : List Value} (h0 : w0.length = 95) (c0 : clW 95 w0) (c1 : clW 95 w1) (hh : w0[0]? = some (.inr (5, fs))) (hc : ConT yX5_ahead cX5_ahead 3 (some .int) (rmt 6 150) [.ref 0, .int p0, .int p1] w0 xIA w1) : ConW yL_ahead cL_ahead 5 (some .int) [(0, 10, 13, 18), (0, 10, 17, 13)] (rmt 7 172) [.ref 0, .int p0, .int p1, .ref 95] (w0 ++ [OUT z]) (some (.int 2)) (w1 ++ [OUT z]) := by
  have h1 : w1.length = 95 := by rw [hc.1, h0]
  refine ConW.of (by decide) rfl (Nat.le_of_ble_eq_true rfl) (w_len h0 h1) (fun B M => ?_)
  refine g_aload_n M dL_ahead_0 rfl ?_
  refine g_iconst M 0 dL_ahead_1 (by decide) ?_
  refine g_aload_n M dL_ahead_2 rfl ?_
  refine g_iload_n M dL_ahead_3 rfl ?_
  refine g_iload_n M dL_ahead_4 rfl ?_
  refine g_callT (n := 2) (As := [.int p0, .int p1]) (h := 17) (h2 := 19) M hc lk_L_79 dL_ahead_5 (by decide +kernel) ⟨Nat.le_of_ble_eq_true rfl, Nat.le_of_ble_eq_true rfl⟩ ⟨rfl, rfl⟩ (List.range 95) (by rw [List.getElem?_append_left (by omega)]; exact hh) rfl rfl rfl nd95 (sel_pre nd95 h0 c0) (Nat.le_of_ble_eq_true rfl) (⟨[⟨0, 10, 13, 18⟩], ⟨0, 10, 17, 13⟩, [], rfl, (fun z hz => by rw [List.mem_singleton.mp hz]; exact ⟨by decide, xIB, gw1 605 (by decide +kernel) (by decide +kernel), fun _ _ _ h => h.2.2.2.1.1⟩), by decide, by decide, gw1 591 (by decide +kernel) (by decide +kernel), rfl, fun _ _ _ h => h.2.2.1.1⟩) (Or.inr ⟨4, dL_ahead_17, by decide, rfl⟩) (fun B M => ?_)
  rw [put_pre nd95 h0 h1 c1]
  refine g_iconst M 2 dL_ahead_19 (by decide) ?_
  exact g_wret M dL_ahead_20 rfl rfl rfl
theorem lw_ahead : GoodIn GW (va_wsS RL 174 yL_ahead (wsh yL_ahead cL_ahead 5 (some .int) [(0, 10, 13, 18), (0, 10, 17, 13)])) := gok (cd := Cond.codeWith yL_ahead cL_ahead 5 (some .int) [(0, 10, 13, 18), (0, 10, 17, 13)]) (l := [Cond.methodLink RL 174 yL_ahead, Cond.static yL_ahead, Cond.initialized yL_ahead.cls]) (gws _ [817, 818, 53, 819] (by decide +kernel) (by decide +kernel))
theorem w_frees {w0 w1 : List va_E} {v : Int32} {z : Nat → Int64} {p0 : Int32} {fs : List Value} (h0 : w0.length = 95) (c0 : clW 95 w0) (c1 : clW 95 w1) (hh : w0[0]? = some (.inr (5, fs))) (hc : Con yX5_frees cX5_frees 4 (some .int) (rmk 6 150) [.ref 0, .int p0] w0 (some (.int v)) w1) : ConW yL_frees cL_frees 4 (some .int) [(0, 9, 12, 13)] (rmt 7 173) [.ref 0, .int p0, .ref 95] (w0 ++ [OUT z]) (some (.int 0)) (w1 ++ [OUT (vp_updL z 0 v.toInt64)]) := by
  have h1 : w1.length = 95 := by rw [hc.1, h0]
  refine ConW.of (by decide) rfl (Nat.le_of_ble_eq_true rfl) (w_len h0 h1) (fun B M => ?_)
  refine g_aload_n M dL_frees_0 rfl ?_
  refine g_iconst M 0 dL_frees_1 (by decide) ?_
  refine g_aload_n M dL_frees_2 rfl ?_
  refine g_iload_n M dL_frees_3 rfl ?_
  refine g_V1iu (w' := w1 ++ [OUT z]) M hc lk_L_82 dL_frees_4 (by decide +kernel) ⟨Nat.le_of_ble_eq_true rfl, Nat.le_of_ble_eq_true rfl⟩ ⟨rfl, rfl⟩ (List.range 95) (by rw [List.getElem?_append_left (by omega)]; exact hh) rfl rfl nd95 (sel_pre nd95 h0 c0) (Nat.le_of_ble_eq_true rfl) (put_pre nd95 h0 h1 c1) ?_
  refine g_i2l M dL_frees_7 ?_
  refine g_last M dL_frees_8 (w_at h1) (show vp_in (nI 0) 1 from vp_in_nI (by omega) (by omega)) ?_
  rw [w_sat h1]
  refine g_goto M 15 dL_frees_9 (by decide) ?_
  refine g_iconst M 0 dL_frees_15 (by decide) ?_
  exact g_wret M dL_frees_16 rfl rfl rfl
theorem w_frees_1 {w0 w1 : List va_E} {z : Nat → Int64} {p0 : Int32} {fs : List Value} (h0 : w0.length = 95) (c0 : clW 95 w0) (c1 : clW 95 w1) (hh : w0[0]? = some (.inr (5, fs))) (hc : ConT yX5_frees cX5_frees 4 (some .int) (rmt 6 150) [.ref 0, .int p0] w0 xIA w1) : ConW yL_frees cL_frees 4 (some .int) [(0, 9, 12, 13)] (rmt 7 173) [.ref 0, .int p0, .ref 95] (w0 ++ [OUT z]) (some (.int 1)) (w1 ++ [OUT z]) := by
  have h1 : w1.length = 95 := by rw [hc.1, h0]
  refine ConW.of (by decide) rfl (Nat.le_of_ble_eq_true rfl) (w_len h0 h1) (fun B M => ?_)
  refine g_aload_n M dL_frees_0 rfl ?_
  refine g_iconst M 0 dL_frees_1 (by decide) ?_
  refine g_aload_n M dL_frees_2 rfl ?_
  refine g_iload_n M dL_frees_3 rfl ?_
  refine g_callT (n := 1) (As := [.int p0]) (h := 12) (h2 := 13) M hc lk_L_82 dL_frees_4 (by decide +kernel) ⟨Nat.le_of_ble_eq_true rfl, Nat.le_of_ble_eq_true rfl⟩ ⟨rfl, rfl⟩ (List.range 95) (by rw [List.getElem?_append_left (by omega)]; exact hh) rfl rfl rfl nd95 (sel_pre nd95 h0 c0) (Nat.le_of_ble_eq_true rfl) (⟨[], ⟨0, 9, 12, 13⟩, [], rfl, (fun z hz => nomatch hz), by decide, by decide, gw1 591 (by decide +kernel) (by decide +kernel), rfl, fun _ _ _ h => h.2.2.1.1⟩) (Or.inl ⟨3, dL_frees_12, by decide, rfl⟩) (fun B M => ?_)
  rw [put_pre nd95 h0 h1 c1]
  refine g_iconst M 1 dL_frees_13 (by decide) ?_
  exact g_wret M dL_frees_14 rfl rfl rfl
theorem lw_frees : GoodIn GW (va_wsS RL 177 yL_frees (wsh yL_frees cL_frees 4 (some .int) [(0, 9, 12, 13)])) := gok (cd := Cond.codeWith yL_frees cL_frees 4 (some .int) [(0, 9, 12, 13)]) (l := [Cond.methodLink RL 177 yL_frees, Cond.static yL_frees, Cond.initialized yL_frees.cls]) (gws _ [821, 822, 53, 823] (by decide +kernel) (by decide +kernel))


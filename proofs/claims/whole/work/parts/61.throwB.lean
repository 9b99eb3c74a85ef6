section
variable (kp : Bool) (d0 d1 : SD) (k : Nat) (rm : Nat → Nat) (R : Nat → SD) (cod : Nat → Int32) (len aw op fig pop pmk pen : Int32) (psts ptd : Nat → Nat) (t : WD)
theorem t_remember (h : ¬ sSc d0 < 6) : ConT yX5_remember cX5_remember 1 (some .int) (rmt 6 150) [.ref 0] (CW kp d0 d1 k rm R cod len aw op fig pop pmk pen psts ptd t) xIS (CW kp d0 d1 k rm R cod len aw op fig pop pmk pen psts ptd t) := by
  refine ConT.of (by decide) rfl (Nat.le_of_ble_eq_true rfl) (Eq.trans (b := 95) rfl rfl) (fun B M => ?_)
  refine g_aload_n M dX5_remember_0 rfl ?_
  refine g_get M fl_X5_10 dX5_remember_1 rfl rfl ?_
  refine g_getN M fn_X5_164 dX5_remember_4 rfl rfl ?_
  refine g_bipush M 6 dX5_remember_7 (by decide) ?_
  refine g_icmp_lt M 22 dX5_remember_9 (by decide) (fun h9 => absurd h9 h) (fun _ => ?_)
  exact g_throw M tsIS (List.mem_of_getElem? (i := 9) rfl) rfl dX5_remember_12 dX5_remember_15 dX5_remember_16 dX5_remember_18 dX5_remember_21 ⟨Nat.le_of_ble_eq_true rfl, Nat.le_of_ble_eq_true rfl⟩ ⟨Nat.le_of_ble_eq_true rfl, Nat.le_of_ble_eq_true rfl⟩
theorem t_forget (x : Int32) (h : ¬ (0 ≤ x.toInt ∧ x < sSc d0)) : ConT yX5_forget cX5_forget 2 (some .int) (rmt 6 150) [.ref 0, .int x] (CW kp d0 d1 k rm R cod len aw op fig pop pmk pen psts ptd t) xIB (CW kp d0 d1 k rm R cod len aw op fig pop pmk pen psts ptd t) := by
  refine ConT.of (by decide) rfl (Nat.le_of_ble_eq_true rfl) (Eq.trans (b := 95) rfl rfl) (fun B M => ?_)
  refine g_aload_n M dX5_forget_0 rfl ?_
  refine g_iload_n M dX5_forget_1 rfl ?_
  refine g_V1ik M (c_isScene (.ref 30) (.ref 102) (.ref 104) (.ref 41) kp (nI k) d0 t x) lk_X5_172 dX5_forget_2 (by decide +kernel) ⟨Nat.le_of_ble_eq_true rfl, Nat.le_of_ble_eq_true rfl⟩ ⟨rfl, rfl⟩ [0, 1, 2, 3, 4, 5, 6, 7, 8, 9, 10, 21, 88, 89, 90, 91, 92, 93, 94] rfl rfl rfl (by decide +kernel) rfl (Nat.le_of_ble_eq_true rfl) ?_
  rw [decide_eq_false h]
  refine g_if_ne M 18 dX5_forget_5 (by decide) (fun h9 => absurd (by decide) h9) (fun _ => ?_)
  exact g_throw M tsIB (List.mem_of_getElem? (i := 10) rfl) rfl dX5_forget_8 dX5_forget_11 dX5_forget_12 dX5_forget_14 dX5_forget_17 ⟨Nat.le_of_ble_eq_true rfl, Nat.le_of_ble_eq_true rfl⟩ ⟨Nat.le_of_ble_eq_true rfl, Nat.le_of_ble_eq_true rfl⟩
theorem t_append1 (x : Int32) (h : x < 33 ∨ ¬ x ≤ 126) : ConT yX5_append cX5_append 2 (some .int) (rmt 6 150) [.ref 0, .int x] (CW kp d0 d1 k rm R cod len aw op fig pop pmk pen psts ptd t) xIA (CW kp d0 d1 k rm R cod len aw op fig pop pmk pen psts ptd t) := by
  refine ConT.of (by decide) rfl (Nat.le_of_ble_eq_true rfl) (Eq.trans (b := 95) rfl rfl) (fun B M => ?_)
  refine g_iload_n M dX5_append_0 rfl ?_
  refine g_bipush M 33 dX5_append_1 (by decide) ?_
  by_cases h0 : x < 33
  · refine g_icmp_lt M 12 dX5_append_3 (by decide) (fun _ => ?_) (fun h9 => absurd h0 h9)
    exact g_throw M tsIA (List.mem_of_getElem? (i := 11) rfl) rfl dX5_append_12 dX5_append_15 dX5_append_16 dX5_append_18 dX5_append_21 ⟨Nat.le_of_ble_eq_true rfl, Nat.le_of_ble_eq_true rfl⟩ ⟨Nat.le_of_ble_eq_true rfl, Nat.le_of_ble_eq_true rfl⟩
  · refine g_icmp_lt M 12 dX5_append_3 (by decide) (fun h9 => absurd h9 h0) (fun _ => ?_)
    refine g_iload_n M dX5_append_6 rfl ?_
    refine g_bipush M 126 dX5_append_7 (by decide) ?_
    refine g_icmp_le M 22 dX5_append_9 (by decide) (fun h9 => absurd h9 (h.resolve_left h0)) (fun _ => ?_)
    exact g_throw M tsIA (List.mem_of_getElem? (i := 11) rfl) rfl dX5_append_12 dX5_append_15 dX5_append_16 dX5_append_18 dX5_append_21 ⟨Nat.le_of_ble_eq_true rfl, Nat.le_of_ble_eq_true rfl⟩ ⟨Nat.le_of_ble_eq_true rfl, Nat.le_of_ble_eq_true rfl⟩
theorem t_append2 (x : Int32) (h1 : ¬ x < 33) (h2 : x ≤ 126) (h : ¬ len < 60) : ConT yX5_append cX5_append 2 (some .int) (rmt 6 150) [.ref 0, .int x] (CW kp d0 d1 k rm R cod len aw op fig pop pmk pen psts ptd t) xIS (CW kp d0 d1 k rm R cod len aw op fig pop pmk pen psts ptd t) := by
  refine ConT.of (by decide) rfl (Nat.le_of_ble_eq_true rfl) (Eq.trans (b := 95) rfl rfl) (fun B M => ?_)
  refine g_iload_n M dX5_append_0 rfl ?_
  refine g_bipush M 33 dX5_append_1 (by decide) ?_
  refine g_icmp_lt M 12 dX5_append_3 (by decide) (fun h9 => absurd h9 h1) (fun _ => ?_)
  refine g_iload_n M dX5_append_6 rfl ?_
  refine g_bipush M 126 dX5_append_7 (by decide) ?_
  refine g_icmp_le M 22 dX5_append_9 (by decide) (fun _ => ?_) (fun h9 => absurd h2 h9)
  refine g_aload_n M dX5_append_22 rfl ?_
  refine g_get M fl_X5_33 dX5_append_23 rfl rfl ?_
  refine g_getN M fn_X5_182 dX5_append_26 rfl rfl ?_
  refine g_bipush M 60 dX5_append_29 (by decide) ?_
  refine g_icmp_lt M 44 dX5_append_31 (by decide) (fun h9 => absurd h9 h) (fun _ => ?_)
  exact g_throw M tsIS (List.mem_of_getElem? (i := 12) rfl) rfl dX5_append_34 dX5_append_37 dX5_append_38 dX5_append_40 dX5_append_43 ⟨Nat.le_of_ble_eq_true rfl, Nat.le_of_ble_eq_true rfl⟩ ⟨Nat.le_of_ble_eq_true rfl, Nat.le_of_ble_eq_true rfl⟩
theorem t_work (n : Nat) (hn : n ≤ 60) (hcm : cmpl n (rdN cod n 0 (0, 0, fig)) = false) : ConT yX5_work cX5_work 2 (some .int) (rmt 6 150) [.ref 0] (CW kp d0 d1 k rm R cod (nI n) aw op fig pop pmk pen psts ptd t) xIA (CW kp d0 d1 k rm R cod (nI n) (rdN cod n 0 (0, 0, fig)).2.1 (rdN cod n 0 (0, 0, fig)).2.2.1 (rdN cod n 0 (0, 0, fig)).2.2.2 pop pmk pen psts ptd t) := by
  refine ConT.of (by decide) rfl (Nat.le_of_ble_eq_true rfl) (Eq.trans (b := 95) rfl rfl) (fun B M => ?_)
  have hc := c_isComplete cod n aw op fig hn
  rw [hcm] at hc
  generalize rdN cod n 0 (0, 0, fig) = q at M hc
  refine g_aload_n M dX5_work_0 rfl ?_
  refine g_get M fl_X5_33 dX5_work_1 rfl rfl ?_
  refine g_V0iu (w' :=  CW kp d0 d1 k rm R cod (nI n) q.2.1 q.2.2.1 q.2.2.2 pop pmk pen psts ptd t) M hc lk_X5_193 dX5_work_4 (by decide +kernel) ⟨Nat.le_of_ble_eq_true rfl, Nat.le_of_ble_eq_true rfl⟩ ⟨rfl, rfl⟩ [83, 84] rfl rfl rfl (by decide +kernel) rfl (Nat.le_of_ble_eq_true rfl) rfl ?_
  refine g_if_ne M 20 dX5_work_7 (by decide) (fun h9 => absurd (by decide) h9) (fun _ => ?_)
  exact g_throw M tsIA (List.mem_of_getElem? (i := 13) rfl) rfl dX5_work_10 dX5_work_13 dX5_work_14 dX5_work_16 dX5_work_19 ⟨Nat.le_of_ble_eq_true rfl, Nat.le_of_ble_eq_true rfl⟩ ⟨Nat.le_of_ble_eq_true rfl, Nat.le_of_ble_eq_true rfl⟩
theorem t_goBack : ConT yX5_goBack cX5_goBack 1 (some .int) (rmt 6 150) [.ref 0] (CW false d0 d1 k rm R cod len aw op fig pop pmk pen psts ptd t) xIS (CW false d0 d1 k rm R cod len aw op fig pop pmk pen psts ptd t) := by
  refine ConT.of (by decide) rfl (Nat.le_of_ble_eq_true rfl) (Eq.trans (b := 95) rfl rfl) (fun B M => ?_)
  refine g_aload_n M dX5_goBack_0 rfl ?_
  refine g_get M fl_X5_19 dX5_goBack_1 rfl rfl ?_
  refine g_if_ne M 17 dX5_goBack_4 (by decide) (fun h9 => absurd (by decide) h9) (fun _ => ?_)
  exact g_throw M tsIS (List.mem_of_getElem? (i := 14) rfl) rfl dX5_goBack_7 dX5_goBack_10 dX5_goBack_11 dX5_goBack_13 dX5_goBack_16 ⟨Nat.le_of_ble_eq_true rfl, Nat.le_of_ble_eq_true rfl⟩ ⟨Nat.le_of_ble_eq_true rfl, Nat.le_of_ble_eq_true rfl⟩
theorem t_undo : ConT yX5_undo cX5_undo 1 (some .int) (rmt 6 150) [.ref 0] (CW kp d0 d1 0 rm R cod len aw op fig pop pmk pen psts ptd t) xIS (CW kp d0 d1 0 rm R cod len aw op fig pop pmk pen psts ptd t) := by
  refine ConT.of (by decide) rfl (Nat.le_of_ble_eq_true rfl) (Eq.trans (b := 95) rfl rfl) (fun B M => ?_)
  refine g_aload_n M dX5_undo_0 rfl ?_
  refine g_get M fl_X5_26 dX5_undo_1 rfl rfl ?_
  refine g_getN M fn_X5_206 dX5_undo_4 rfl rfl ?_
  refine g_if_ne M 20 dX5_undo_7 (by decide) (fun h9 => absurd (by decide) h9) (fun _ => ?_)
  exact g_throw M tsIS (List.mem_of_getElem? (i := 15) rfl) rfl dX5_undo_10 dX5_undo_13 dX5_undo_14 dX5_undo_16 dX5_undo_19 ⟨Nat.le_of_ble_eq_true rfl, Nat.le_of_ble_eq_true rfl⟩ ⟨Nat.le_of_ble_eq_true rfl, Nat.le_of_ble_eq_true rfl⟩
end
section
variable (fsn ftx fpf frm : Value) (kp : Bool) (n : Int32) (d : SD) (t : WD)
theorem t_wheel1 (x y : Int32) (h : iswh x = false) : ConT yX5_wheel cX5_wheel 3 (some .int) (rmt 6 150) [.ref 0, .int x, .int y] (RW fsn ftx fpf frm kp n d t) xIB (RW fsn ftx fpf frm kp n d t) := by
  refine ConT.of (by decide) rfl (Nat.le_of_ble_eq_true rfl) rfl (fun B M => ?_)
  refine g_iload_n M dX5_wheel_0 rfl ?_
  refine g_S1ik M (c_isWheel _) lk_X5_97 dX5_wheel_1 (by decide +kernel) ⟨Nat.le_of_ble_eq_true rfl, Nat.le_of_ble_eq_true rfl⟩ ⟨rfl, rfl⟩ [] rfl (by decide +kernel) rfl (Nat.le_of_ble_eq_true rfl) ?_
  rw [h]
  refine g_if_ne M 17 dX5_wheel_4 (by decide) (fun h9 => absurd (by decide) h9) (fun _ => ?_)
  exact g_throw M tsIB (List.mem_of_getElem? (i := 2) rfl) rfl dX5_wheel_7 dX5_wheel_10 dX5_wheel_11 dX5_wheel_13 dX5_wheel_16 ⟨Nat.le_of_ble_eq_true rfl, Nat.le_of_ble_eq_true rfl⟩ ⟨Nat.le_of_ble_eq_true rfl, Nat.le_of_ble_eq_true rfl⟩
theorem t_wheel2 (x y : Int32) (h : iswh x = true) (hy : y < 0 ∨ ¬ y ≤ 6) : ConT yX5_wheel cX5_wheel 3 (some .int) (rmt 6 150) [.ref 0, .int x, .int y] (RW fsn ftx fpf frm kp n d t) xIA (RW fsn ftx fpf frm kp n d t) := by
  refine ConT.of (by decide) rfl (Nat.le_of_ble_eq_true rfl) rfl (fun B M => ?_)
  refine g_iload_n M dX5_wheel_0 rfl ?_
  refine g_S1ik M (c_isWheel _) lk_X5_97 dX5_wheel_1 (by decide +kernel) ⟨Nat.le_of_ble_eq_true rfl, Nat.le_of_ble_eq_true rfl⟩ ⟨rfl, rfl⟩ [] rfl (by decide +kernel) rfl (Nat.le_of_ble_eq_true rfl) ?_
  rw [h]
  refine g_if_ne M 17 dX5_wheel_4 (by decide) (fun _ => ?_) (fun h9 => absurd h9 (by decide))
  refine g_iload_n M dX5_wheel_17 rfl ?_
  by_cases h0 : y < 0
  · refine g_if_lt M 27 dX5_wheel_18 (by decide) (fun _ => ?_) (fun h9 => absurd h0 h9)
    exact g_throw M tsIA (List.mem_of_getElem? (i := 16) rfl) rfl dX5_wheel_27 dX5_wheel_30 dX5_wheel_31 dX5_wheel_33 dX5_wheel_36 ⟨Nat.le_of_ble_eq_true rfl, Nat.le_of_ble_eq_true rfl⟩ ⟨Nat.le_of_ble_eq_true rfl, Nat.le_of_ble_eq_true rfl⟩
  · refine g_if_lt M 27 dX5_wheel_18 (by decide) (fun h9 => absurd h9 h0) (fun _ => ?_)
    refine g_iload_n M dX5_wheel_21 rfl ?_
    refine g_bipush M 6 dX5_wheel_22 (by decide) ?_
    refine g_icmp_le M 37 dX5_wheel_24 (by decide) (fun h9 => absurd h9 (hy.resolve_left h0)) (fun _ => ?_)
    exact g_throw M tsIA (List.mem_of_getElem? (i := 16) rfl) rfl dX5_wheel_27 dX5_wheel_30 dX5_wheel_31 dX5_wheel_33 dX5_wheel_36 ⟨Nat.le_of_ble_eq_true rfl, Nat.le_of_ble_eq_true rfl⟩ ⟨Nat.le_of_ble_eq_true rfl, Nat.le_of_ble_eq_true rfl⟩
theorem t_tooth (x y : Int32) (h : isTth d x y = false) : ConT yX5_tooth cX5_tooth 3 (some .int) (rmt 6 150) [.ref 0, .int x, .int y] (RW fsn ftx fpf frm kp n d t) xIB (RW fsn ftx fpf frm kp n d t) := by
  refine ConT.of (by decide) rfl (Nat.le_of_ble_eq_true rfl) rfl (fun B M => ?_)
  refine g_aload_n M dX5_tooth_0 rfl ?_
  refine g_iload_n M dX5_tooth_1 rfl ?_
  refine g_iload_n M dX5_tooth_2 rfl ?_
  refine g_V2ik M (c_isTooth _ _ _ _ kp n d t x y) lk_X5_138 dX5_tooth_3 (by decide +kernel) ⟨Nat.le_of_ble_eq_true rfl, Nat.le_of_ble_eq_true rfl⟩ ⟨rfl, rfl⟩ [0, 1, 2, 3, 4, 5, 6, 7, 8, 9, 10, 11, 12, 13, 14, 15, 16, 17, 18] rfl rfl rfl (by decide +kernel) rfl (Nat.le_of_ble_eq_true rfl) ?_
  rw [h]
  refine g_if_ne M 19 dX5_tooth_6 (by decide) (fun h9 => absurd (by decide) h9) (fun _ => ?_)
  exact g_throw M tsIB (List.mem_of_getElem? (i := 6) rfl) rfl dX5_tooth_9 dX5_tooth_12 dX5_tooth_13 dX5_tooth_15 dX5_tooth_18 ⟨Nat.le_of_ble_eq_true rfl, Nat.le_of_ble_eq_true rfl⟩ ⟨Nat.le_of_ble_eq_true rfl, Nat.le_of_ble_eq_true rfl⟩
theorem t_scene1 (x y : Int32) (h : ¬ (0 ≤ x.toInt ∧ x < sSc d)) : ConT yX5_scene cX5_scene 3 (some .int) (rmt 6 150) [.ref 0, .int x, .int y] (RW fsn ftx fpf frm kp n d t) xIB (RW fsn ftx fpf frm kp n d t) := by
  refine ConT.of (by decide) rfl (Nat.le_of_ble_eq_true rfl) rfl (fun B M => ?_)
  refine g_aload_n M dX5_scene_0 rfl ?_
  refine g_iload_n M dX5_scene_1 rfl ?_
  refine g_V1ik M (c_isScene _ _ _ _ kp n d t x) lk_X5_172 dX5_scene_2 (by decide +kernel) ⟨Nat.le_of_ble_eq_true rfl, Nat.le_of_ble_eq_true rfl⟩ ⟨rfl, rfl⟩ [0, 1, 2, 3, 4, 5, 6, 7, 8, 9, 10, 11, 12, 13, 14, 15, 16, 17, 18] rfl rfl rfl (by decide +kernel) rfl (Nat.le_of_ble_eq_true rfl) ?_
  rw [decide_eq_false h]
  refine g_if_ne M 18 dX5_scene_5 (by decide) (fun h9 => absurd (by decide) h9) (fun _ => ?_)
  exact g_throw M tsIB (List.mem_of_getElem? (i := 10) rfl) rfl dX5_scene_8 dX5_scene_11 dX5_scene_12 dX5_scene_14 dX5_scene_17 ⟨Nat.le_of_ble_eq_true rfl, Nat.le_of_ble_eq_true rfl⟩ ⟨Nat.le_of_ble_eq_true rfl, Nat.le_of_ble_eq_true rfl⟩
theorem t_scene2 (x y : Int32) (h : 0 ≤ x.toInt ∧ x < sSc d) (hy : y < 0 ∨ ¬ y ≤ 7) : ConT yX5_scene cX5_scene 3 (some .int) (rmt 6 150) [.ref 0, .int x, .int y] (RW fsn ftx fpf frm kp n d t) xIA (RW fsn ftx fpf frm kp n d t) := by
  refine ConT.of (by decide) rfl (Nat.le_of_ble_eq_true rfl) rfl (fun B M => ?_)
  refine g_aload_n M dX5_scene_0 rfl ?_
  refine g_iload_n M dX5_scene_1 rfl ?_
  refine g_V1ik M (c_isScene _ _ _ _ kp n d t x) lk_X5_172 dX5_scene_2 (by decide +kernel) ⟨Nat.le_of_ble_eq_true rfl, Nat.le_of_ble_eq_true rfl⟩ ⟨rfl, rfl⟩ [0, 1, 2, 3, 4, 5, 6, 7, 8, 9, 10, 11, 12, 13, 14, 15, 16, 17, 18] rfl rfl rfl (by decide +kernel) rfl (Nat.le_of_ble_eq_true rfl) ?_
  rw [decide_eq_true h]
  refine g_if_ne M 18 dX5_scene_5 (by decide) (fun _ => ?_) (fun h9 => absurd h9 (by decide))
  refine g_iload_n M dX5_scene_18 rfl ?_
  by_cases h0 : y < 0
  · refine g_if_lt M 28 dX5_scene_19 (by decide) (fun _ => ?_) (fun h9 => absurd h0 h9)
    exact g_throw M tsIA (List.mem_of_getElem? (i := 17) rfl) rfl dX5_scene_28 dX5_scene_31 dX5_scene_32 dX5_scene_34 dX5_scene_37 ⟨Nat.le_of_ble_eq_true rfl, Nat.le_of_ble_eq_true rfl⟩ ⟨Nat.le_of_ble_eq_true rfl, Nat.le_of_ble_eq_true rfl⟩
  · refine g_if_lt M 28 dX5_scene_19 (by decide) (fun h9 => absurd h9 h0) (fun _ => ?_)
    refine g_iload_n M dX5_scene_22 rfl ?_
    refine g_bipush M 7 dX5_scene_23 (by decide) ?_
    refine g_icmp_le M 38 dX5_scene_25 (by decide) (fun h9 => absurd h9 (hy.resolve_left h0)) (fun _ => ?_)
    exact g_throw M tsIA (List.mem_of_getElem? (i := 17) rfl) rfl dX5_scene_28 dX5_scene_31 dX5_scene_32 dX5_scene_34 dX5_scene_37 ⟨Nat.le_of_ble_eq_true rfl, Nat.le_of_ble_eq_true rfl⟩ ⟨Nat.le_of_ble_eq_true rfl, Nat.le_of_ble_eq_true rfl⟩
theorem t_count (y : Int32) (hy : y < 0 ∨ ¬ y ≤ 12) : ConT yX5_count cX5_count 2 (some .int) (rmt 6 150) [.ref 0, .int y] (RW fsn ftx fpf frm kp n d t) xIA (RW fsn ftx fpf frm kp n d t) := by
  refine ConT.of (by decide) rfl (Nat.le_of_ble_eq_true rfl) rfl (fun B M => ?_)
  refine g_iload_n M dX5_count_0 rfl ?_
  by_cases h0 : y < 0
  · refine g_if_lt M 10 dX5_count_1 (by decide) (fun _ => ?_) (fun h9 => absurd h0 h9)
    exact g_throw M tsIA (List.mem_of_getElem? (i := 18) rfl) rfl dX5_count_10 dX5_count_13 dX5_count_14 dX5_count_16 dX5_count_19 ⟨Nat.le_of_ble_eq_true rfl, Nat.le_of_ble_eq_true rfl⟩ ⟨Nat.le_of_ble_eq_true rfl, Nat.le_of_ble_eq_true rfl⟩
  · refine g_if_lt M 10 dX5_count_1 (by decide) (fun h9 => absurd h9 h0) (fun _ => ?_)
    refine g_iload_n M dX5_count_4 rfl ?_
    refine g_bipush M 12 dX5_count_5 (by decide) ?_
    refine g_icmp_le M 20 dX5_count_7 (by decide) (fun h9 => absurd h9 (hy.resolve_left h0)) (fun _ => ?_)
    exact g_throw M tsIA (List.mem_of_getElem? (i := 18) rfl) rfl dX5_count_10 dX5_count_13 dX5_count_14 dX5_count_16 dX5_count_19 ⟨Nat.le_of_ble_eq_true rfl, Nat.le_of_ble_eq_true rfl⟩ ⟨Nat.le_of_ble_eq_true rfl, Nat.le_of_ble_eq_true rfl⟩
theorem t_round (y : Int32) (hy : y < 0 ∨ ¬ y ≤ 1) : ConT yX5_round cX5_round 2 (some .int) (rmt 6 150) [.ref 0, .int y] (RW fsn ftx fpf frm kp n d t) xIA (RW fsn ftx fpf frm kp n d t) := by
  refine ConT.of (by decide) rfl (Nat.le_of_ble_eq_true rfl) rfl (fun B M => ?_)
  refine g_iload_n M dX5_round_0 rfl ?_
  by_cases h0 : y < 0
  · refine g_if_lt M 9 dX5_round_1 (by decide) (fun _ => ?_) (fun h9 => absurd h0 h9)
    exact g_throwW M tsIA (List.mem_of_getElem? (i := 20) rfl) rfl dX5_round_9 dX5_round_12 dX5_round_13 dX5_round_16 dX5_round_19 ⟨Nat.le_of_ble_eq_true rfl, Nat.le_of_ble_eq_true rfl⟩ ⟨Nat.le_of_ble_eq_true rfl, Nat.le_of_ble_eq_true rfl⟩
  · refine g_if_lt M 9 dX5_round_1 (by decide) (fun h9 => absurd h9 h0) (fun _ => ?_)
    refine g_iload_n M dX5_round_4 rfl ?_
    refine g_iconst M 1 dX5_round_5 (by decide) ?_
    refine g_icmp_le M 20 dX5_round_6 (by decide) (fun h9 => absurd h9 (hy.resolve_left h0)) (fun _ => ?_)
    exact g_throwW M tsIA (List.mem_of_getElem? (i := 20) rfl) rfl dX5_round_9 dX5_round_12 dX5_round_13 dX5_round_16 dX5_round_19 ⟨Nat.le_of_ble_eq_true rfl, Nat.le_of_ble_eq_true rfl⟩ ⟨Nat.le_of_ble_eq_true rfl, Nat.le_of_ble_eq_true rfl⟩
theorem t_why (y : Int32) (hy : ¬ (y = 0 ∨ y = 1)) : ConT yX5_why cX5_why 2 (some .int) (rmt 6 150) [.ref 0, .int y] (RW fsn ftx fpf frm kp n d t) xIA (RW fsn ftx fpf frm kp n d t) := by
  refine ConT.of (by decide) rfl (Nat.le_of_ble_eq_true rfl) rfl (fun B M => ?_)
  refine g_iload_n M dX5_why_0 rfl ?_
  refine g_S1ik M (c_isDirection _) lk_X5_263 dX5_why_1 (by decide +kernel) ⟨Nat.le_of_ble_eq_true rfl, Nat.le_of_ble_eq_true rfl⟩ ⟨rfl, rfl⟩ [] rfl (by decide +kernel) rfl (Nat.le_of_ble_eq_true rfl) ?_
  rw [decide_eq_false hy]
  refine g_if_ne M 18 dX5_why_4 (by decide) (fun h9 => absurd (by decide) h9) (fun _ => ?_)
  exact g_throwW M tsIA (List.mem_of_getElem? (i := 19) rfl) rfl dX5_why_7 dX5_why_10 dX5_why_11 dX5_why_14 dX5_why_17 ⟨Nat.le_of_ble_eq_true rfl, Nat.le_of_ble_eq_true rfl⟩ ⟨Nat.le_of_ble_eq_true rfl, Nat.le_of_ble_eq_true rfl⟩
theorem t_jamsIn (y : Int32) (hy : ¬ (y = 0 ∨ y = 1)) : ConT yX5_jamsIn cX5_jamsIn 5 (some .int) (rmt 6 150) [.ref 0, .int y] (RW fsn ftx fpf frm kp n d t) xIA (RW fsn ftx fpf frm kp n d t) := by
  refine ConT.of (by decide) rfl (Nat.le_of_ble_eq_true rfl) rfl (fun B M => ?_)
  refine g_iload_n M dX5_jamsIn_0 rfl ?_
  refine g_S1ik M (c_isDirection _) lk_X5_263 dX5_jamsIn_1 (by decide +kernel) ⟨Nat.le_of_ble_eq_true rfl, Nat.le_of_ble_eq_true rfl⟩ ⟨rfl, rfl⟩ [] rfl (by decide +kernel) rfl (Nat.le_of_ble_eq_true rfl) ?_
  rw [decide_eq_false hy]
  refine g_if_ne M 18 dX5_jamsIn_4 (by decide) (fun h9 => absurd (by decide) h9) (fun _ => ?_)
  exact g_throwW M tsIA (List.mem_of_getElem? (i := 19) rfl) rfl dX5_jamsIn_7 dX5_jamsIn_10 dX5_jamsIn_11 dX5_jamsIn_14 dX5_jamsIn_17 ⟨Nat.le_of_ble_eq_true rfl, Nat.le_of_ble_eq_true rfl⟩ ⟨Nat.le_of_ble_eq_true rfl, Nat.le_of_ble_eq_true rfl⟩
theorem t_frees (y : Int32) (hy : ¬ (y = 0 ∨ y = 1)) : ConT yX5_frees cX5_frees 4 (some .int) (rmt 6 150) [.ref 0, .int y] (RW fsn ftx fpf frm kp n d t) xIA (RW fsn ftx fpf frm kp n d t) := by
  refine ConT.of (by decide) rfl (Nat.le_of_ble_eq_true rfl) rfl (fun B M => ?_)
  refine g_iload_n M dX5_frees_0 rfl ?_
  refine g_S1ik M (c_isDirection _) lk_X5_263 dX5_frees_1 (by decide +kernel) ⟨Nat.le_of_ble_eq_true rfl, Nat.le_of_ble_eq_true rfl⟩ ⟨rfl, rfl⟩ [] rfl (by decide +kernel) rfl (Nat.le_of_ble_eq_true rfl) ?_
  rw [decide_eq_false hy]
  refine g_if_ne M 18 dX5_frees_4 (by decide) (fun h9 => absurd (by decide) h9) (fun _ => ?_)
  exact g_throwW M tsIA (List.mem_of_getElem? (i := 19) rfl) rfl dX5_frees_7 dX5_frees_10 dX5_frees_11 dX5_frees_14 dX5_frees_17 ⟨Nat.le_of_ble_eq_true rfl, Nat.le_of_ble_eq_true rfl⟩ ⟨Nat.le_of_ble_eq_true rfl, Nat.le_of_ble_eq_true rfl⟩
theorem t_ahead1 (x y : Int32) (h : iswh y = false) : ConT yX5_ahead cX5_ahead 3 (some .int) (rmt 6 150) [.ref 0, .int x, .int y] (RW fsn ftx fpf frm kp n d t) xIB (RW fsn ftx fpf frm kp n d t) := by
  refine ConT.of (by decide) rfl (Nat.le_of_ble_eq_true rfl) rfl (fun B M => ?_)
  refine g_iload_n M dX5_ahead_0 rfl ?_
  refine g_S1ik M (c_isWheel _) lk_X5_97 dX5_ahead_1 (by decide +kernel) ⟨Nat.le_of_ble_eq_true rfl, Nat.le_of_ble_eq_true rfl⟩ ⟨rfl, rfl⟩ [] rfl (by decide +kernel) rfl (Nat.le_of_ble_eq_true rfl) ?_
  rw [h]
  refine g_if_ne M 17 dX5_ahead_4 (by decide) (fun h9 => absurd (by decide) h9) (fun _ => ?_)
  exact g_throw M tsIB (List.mem_of_getElem? (i := 2) rfl) rfl dX5_ahead_7 dX5_ahead_10 dX5_ahead_11 dX5_ahead_13 dX5_ahead_16 ⟨Nat.le_of_ble_eq_true rfl, Nat.le_of_ble_eq_true rfl⟩ ⟨Nat.le_of_ble_eq_true rfl, Nat.le_of_ble_eq_true rfl⟩
theorem t_ahead2 (x y : Int32) (h : iswh y = true) (hx : x < -9999 ∨ ¬ x ≤ 9999) : ConT yX5_ahead cX5_ahead 3 (some .int) (rmt 6 150) [.ref 0, .int x, .int y] (RW fsn ftx fpf frm kp n d t) xIA (RW fsn ftx fpf frm kp n d t) := by
  refine ConT.of (by decide) rfl (Nat.le_of_ble_eq_true rfl) rfl (fun B M => ?_)
  refine g_iload_n M dX5_ahead_0 rfl ?_
  refine g_S1ik M (c_isWheel _) lk_X5_97 dX5_ahead_1 (by decide +kernel) ⟨Nat.le_of_ble_eq_true rfl, Nat.le_of_ble_eq_true rfl⟩ ⟨rfl, rfl⟩ [] rfl (by decide +kernel) rfl (Nat.le_of_ble_eq_true rfl) ?_
  rw [h]
  refine g_if_ne M 17 dX5_ahead_4 (by decide) (fun _ => ?_) (fun h9 => absurd h9 (by decide))
  refine g_iload_n M dX5_ahead_17 rfl ?_
  refine g_sipush M (-9999) dX5_ahead_18 (by decide) ?_
  by_cases h0 : x < -9999
  · refine g_icmp_lt M 31 dX5_ahead_21 (by decide) (fun _ => ?_) (fun h9 => absurd h0 h9)
    exact g_throwW M tsIA (List.mem_of_getElem? (i := 21) rfl) rfl dX5_ahead_31 dX5_ahead_34 dX5_ahead_35 dX5_ahead_38 dX5_ahead_41 ⟨Nat.le_of_ble_eq_true rfl, Nat.le_of_ble_eq_true rfl⟩ ⟨Nat.le_of_ble_eq_true rfl, Nat.le_of_ble_eq_true rfl⟩
  · refine g_icmp_lt M 31 dX5_ahead_21 (by decide) (fun h9 => absurd h9 h0) (fun _ => ?_)
    refine g_iload_n M dX5_ahead_24 rfl ?_
    refine g_sipush M 9999 dX5_ahead_25 (by decide) ?_
    refine g_icmp_le M 42 dX5_ahead_28 (by decide) (fun h9 => absurd h9 (hx.resolve_left h0)) (fun _ => ?_)
    exact g_throwW M tsIA (List.mem_of_getElem? (i := 21) rfl) rfl dX5_ahead_31 dX5_ahead_34 dX5_ahead_35 dX5_ahead_38 dX5_ahead_41 ⟨Nat.le_of_ble_eq_true rfl, Nat.le_of_ble_eq_true rfl⟩ ⟨Nat.le_of_ble_eq_true rfl, Nat.le_of_ble_eq_true rfl⟩
end


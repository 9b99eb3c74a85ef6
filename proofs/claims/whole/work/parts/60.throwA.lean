section
variable (kp : Bool) (d0 d1 : SD) (k : Nat) (rm : Nat → Nat) (R : Nat → SD) (cod : Nat → Int32) (len aw op fig pop pmk pen : Int32) (psts ptd : Nat → Nat) (t : WD)
theorem t_turn (x : Int32) (h : x = 0 ∨ x < -60 ∨ ¬ x ≤ 60) : ConT yX5_turn cX5_turn 5 (some .int) (rmt 6 150) [.ref 0, .int x] (CW kp d0 d1 k rm R cod len aw op fig pop pmk pen psts ptd t) xIA (CW kp d0 d1 k rm R cod len aw op fig pop pmk pen psts ptd t) := by
  refine ConT.of (by decide) rfl (Nat.le_of_ble_eq_true rfl) (Eq.trans (b := 95) rfl rfl) (fun B M => ?_)
  refine g_iload_n M dX5_turn_0 rfl ?_
  by_cases h0 : x = 0
  · refine g_if_eq M 16 dX5_turn_1 (by decide) (fun _ => ?_) (fun h9 => absurd h0 h9)
    exact g_throw M tsIA (List.mem_of_getElem? (i := 0) rfl) rfl dX5_turn_16 dX5_turn_19 dX5_turn_20 dX5_turn_22 dX5_turn_25 ⟨Nat.le_of_ble_eq_true rfl, Nat.le_of_ble_eq_true rfl⟩ ⟨Nat.le_of_ble_eq_true rfl, Nat.le_of_ble_eq_true rfl⟩
  · refine g_if_eq M 16 dX5_turn_1 (by decide) (fun h9 => absurd h9 h0) (fun _ => ?_)
    refine g_iload_n M dX5_turn_4 rfl ?_
    refine g_bipush M (-60) dX5_turn_5 (by decide) ?_
    by_cases h1 : x < -60
    · refine g_icmp_lt M 16 dX5_turn_7 (by decide) (fun _ => ?_) (fun h9 => absurd h1 h9)
      exact g_throw M tsIA (List.mem_of_getElem? (i := 0) rfl) rfl dX5_turn_16 dX5_turn_19 dX5_turn_20 dX5_turn_22 dX5_turn_25 ⟨Nat.le_of_ble_eq_true rfl, Nat.le_of_ble_eq_true rfl⟩ ⟨Nat.le_of_ble_eq_true rfl, Nat.le_of_ble_eq_true rfl⟩
    · refine g_icmp_lt M 16 dX5_turn_7 (by decide) (fun h9 => absurd h9 h1) (fun _ => ?_)
      refine g_iload_n M dX5_turn_10 rfl ?_
      refine g_bipush M 60 dX5_turn_11 (by decide) ?_
      refine g_icmp_le M 26 dX5_turn_13 (by decide) (fun h9 => absurd h9 ((h.resolve_left h0).resolve_left h1)) (fun _ => ?_)
      exact g_throw M tsIA (List.mem_of_getElem? (i := 0) rfl) rfl dX5_turn_16 dX5_turn_19 dX5_turn_20 dX5_turn_22 dX5_turn_25 ⟨Nat.le_of_ble_eq_true rfl, Nat.le_of_ble_eq_true rfl⟩ ⟨Nat.le_of_ble_eq_true rfl, Nat.le_of_ble_eq_true rfl⟩
theorem t_stop (x : Int32) (h : x < 0 ∨ ¬ x < 60) : ConT yX5_stop cX5_stop 2 (some .int) (rmt 6 150) [.ref 0, .int x] (CW kp d0 d1 k rm R cod len aw op fig pop pmk pen psts ptd t) xIB (CW kp d0 d1 k rm R cod len aw op fig pop pmk pen psts ptd t) := by
  refine ConT.of (by decide) rfl (Nat.le_of_ble_eq_true rfl) (Eq.trans (b := 95) rfl rfl) (fun B M => ?_)
  refine g_iload_n M dX5_stop_0 rfl ?_
  by_cases h0 : x < 0
  · refine g_if_lt M 10 dX5_stop_1 (by decide) (fun _ => ?_) (fun h9 => absurd h0 h9)
    exact g_throw M tsIB (List.mem_of_getElem? (i := 1) rfl) rfl dX5_stop_10 dX5_stop_13 dX5_stop_14 dX5_stop_16 dX5_stop_19 ⟨Nat.le_of_ble_eq_true rfl, Nat.le_of_ble_eq_true rfl⟩ ⟨Nat.le_of_ble_eq_true rfl, Nat.le_of_ble_eq_true rfl⟩
  · refine g_if_lt M 10 dX5_stop_1 (by decide) (fun h9 => absurd h9 h0) (fun _ => ?_)
    refine g_iload_n M dX5_stop_4 rfl ?_
    refine g_bipush M 60 dX5_stop_5 (by decide) ?_
    refine g_icmp_lt M 20 dX5_stop_7 (by decide) (fun h9 => absurd h9 (h.resolve_left h0)) (fun _ => ?_)
    exact g_throw M tsIB (List.mem_of_getElem? (i := 1) rfl) rfl dX5_stop_10 dX5_stop_13 dX5_stop_14 dX5_stop_16 dX5_stop_19 ⟨Nat.le_of_ble_eq_true rfl, Nat.le_of_ble_eq_true rfl⟩ ⟨Nat.le_of_ble_eq_true rfl, Nat.le_of_ble_eq_true rfl⟩
theorem t_clutch (x : Int32) (h : iswh x = false) : ConT yX5_clutch cX5_clutch 2 (some .int) (rmt 6 150) [.ref 0, .int x] (CW kp d0 d1 k rm R cod len aw op fig pop pmk pen psts ptd t) xIB (CW kp d0 d1 k rm R cod len aw op fig pop pmk pen psts ptd t) := by
  refine ConT.of (by decide) rfl (Nat.le_of_ble_eq_true rfl) (Eq.trans (b := 95) rfl rfl) (fun B M => ?_)
  refine g_iload_n M dX5_clutch_0 rfl ?_
  refine g_S1ik M (c_isWheel _) lk_X5_97 dX5_clutch_1 (by decide +kernel) ⟨Nat.le_of_ble_eq_true rfl, Nat.le_of_ble_eq_true rfl⟩ ⟨rfl, rfl⟩ [] rfl (by decide +kernel) rfl (Nat.le_of_ble_eq_true rfl) ?_
  rw [h]
  refine g_if_ne M 17 dX5_clutch_4 (by decide) (fun h9 => absurd (by decide) h9) (fun _ => ?_)
  exact g_throw M tsIB (List.mem_of_getElem? (i := 2) rfl) rfl dX5_clutch_7 dX5_clutch_10 dX5_clutch_11 dX5_clutch_13 dX5_clutch_16 ⟨Nat.le_of_ble_eq_true rfl, Nat.le_of_ble_eq_true rfl⟩ ⟨Nat.le_of_ble_eq_true rfl, Nat.le_of_ble_eq_true rfl⟩
theorem t_hand1 (x y : Int32) (h : iswh x = false) : ConT yX5_hand cX5_hand 3 (some .int) (rmt 6 150) [.ref 0, .int x, .int y] (CW kp d0 d1 k rm R cod len aw op fig pop pmk pen psts ptd t) xIB (CW kp d0 d1 k rm R cod len aw op fig pop pmk pen psts ptd t) := by
  refine ConT.of (by decide) rfl (Nat.le_of_ble_eq_true rfl) (Eq.trans (b := 95) rfl rfl) (fun B M => ?_)
  refine g_iload_n M dX5_hand_0 rfl ?_
  refine g_S1ik M (c_isWheel _) lk_X5_97 dX5_hand_1 (by decide +kernel) ⟨Nat.le_of_ble_eq_true rfl, Nat.le_of_ble_eq_true rfl⟩ ⟨rfl, rfl⟩ [] rfl (by decide +kernel) rfl (Nat.le_of_ble_eq_true rfl) ?_
  rw [h]
  refine g_if_ne M 17 dX5_hand_4 (by decide) (fun h9 => absurd (by decide) h9) (fun _ => ?_)
  exact g_throw M tsIB (List.mem_of_getElem? (i := 2) rfl) rfl dX5_hand_7 dX5_hand_10 dX5_hand_11 dX5_hand_13 dX5_hand_16 ⟨Nat.le_of_ble_eq_true rfl, Nat.le_of_ble_eq_true rfl⟩ ⟨Nat.le_of_ble_eq_true rfl, Nat.le_of_ble_eq_true rfl⟩
theorem t_hand2 (x y : Int32) (h : iswh x = true) (hy : y < 1 ∨ ¬ y ≤ 11) : ConT yX5_hand cX5_hand 3 (some .int) (rmt 6 150) [.ref 0, .int x, .int y] (CW kp d0 d1 k rm R cod len aw op fig pop pmk pen psts ptd t) xIA (CW kp d0 d1 k rm R cod len aw op fig pop pmk pen psts ptd t) := by
  refine ConT.of (by decide) rfl (Nat.le_of_ble_eq_true rfl) (Eq.trans (b := 95) rfl rfl) (fun B M => ?_)
  refine g_iload_n M dX5_hand_0 rfl ?_
  refine g_S1ik M (c_isWheel _) lk_X5_97 dX5_hand_1 (by decide +kernel) ⟨Nat.le_of_ble_eq_true rfl, Nat.le_of_ble_eq_true rfl⟩ ⟨rfl, rfl⟩ [] rfl (by decide +kernel) rfl (Nat.le_of_ble_eq_true rfl) ?_
  rw [h]
  refine g_if_ne M 17 dX5_hand_4 (by decide) (fun _ => ?_) (fun h9 => absurd h9 (by decide))
  refine g_iload_n M dX5_hand_17 rfl ?_
  refine g_iconst M 1 dX5_hand_18 (by decide) ?_
  by_cases h0 : y < 1
  · refine g_icmp_lt M 28 dX5_hand_19 (by decide) (fun _ => ?_) (fun h9 => absurd h0 h9)
    exact g_throw M tsIA (List.mem_of_getElem? (i := 3) rfl) rfl dX5_hand_28 dX5_hand_31 dX5_hand_32 dX5_hand_34 dX5_hand_37 ⟨Nat.le_of_ble_eq_true rfl, Nat.le_of_ble_eq_true rfl⟩ ⟨Nat.le_of_ble_eq_true rfl, Nat.le_of_ble_eq_true rfl⟩
  · refine g_icmp_lt M 28 dX5_hand_19 (by decide) (fun h9 => absurd h9 h0) (fun _ => ?_)
    refine g_iload_n M dX5_hand_22 rfl ?_
    refine g_bipush M 11 dX5_hand_23 (by decide) ?_
    refine g_icmp_le M 38 dX5_hand_25 (by decide) (fun h9 => absurd h9 (hy.resolve_left h0)) (fun _ => ?_)
    exact g_throw M tsIA (List.mem_of_getElem? (i := 3) rfl) rfl dX5_hand_28 dX5_hand_31 dX5_hand_32 dX5_hand_34 dX5_hand_37 ⟨Nat.le_of_ble_eq_true rfl, Nat.le_of_ble_eq_true rfl⟩ ⟨Nat.le_of_ble_eq_true rfl, Nat.le_of_ble_eq_true rfl⟩
theorem t_hand3 (w : Nat) (h5 : w < 5) (y : Int32) (hy1 : ¬ y < 1) (hy2 : y ≤ 11) (hlo : sLo d0 w = true) : ConT yX5_hand cX5_hand 3 (some .int) (rmt 6 150) [.ref 0, .int (nI w), .int y] (CW kp d0 d1 k rm R cod len aw op fig pop pmk pen psts ptd t) xIS (CW kp d0 d1 k rm R cod len aw op fig pop pmk pen psts ptd t) := by
  refine ConT.of (by decide) rfl (Nat.le_of_ble_eq_true rfl) (Eq.trans (b := 95) rfl rfl) (fun B M => ?_)
  have hv := nI5 w h5
  refine g_iload_n M dX5_hand_0 rfl ?_
  refine g_S1ik M (c_isWheel _) lk_X5_97 dX5_hand_1 (by decide +kernel) ⟨Nat.le_of_ble_eq_true rfl, Nat.le_of_ble_eq_true rfl⟩ ⟨rfl, rfl⟩ [] rfl (by decide +kernel) rfl (Nat.le_of_ble_eq_true rfl) ?_
  refine g_if_ne M 17 dX5_hand_4 (by decide) (fun _ => ?_) (fun h9 => absurd h9 (by rw [iswh_iff.mpr hv]; decide))
  refine g_iload_n M dX5_hand_17 rfl ?_
  refine g_iconst M 1 dX5_hand_18 (by decide) ?_
  refine g_icmp_lt M 28 dX5_hand_19 (by decide) (fun h9 => absurd h9 hy1) (fun _ => ?_)
  refine g_iload_n M dX5_hand_22 rfl ?_
  refine g_bipush M 11 dX5_hand_23 (by decide) ?_
  refine g_icmp_le M 38 dX5_hand_25 (by decide) (fun _ => ?_) (fun h9 => absurd hy2 h9)
  refine g_aload_n M dX5_hand_38 rfl ?_
  refine g_get M fl_X5_10 dX5_hand_39 rfl rfl ?_
  refine g_getN M fn_X5_62 dX5_hand_42 rfl rfl ?_
  refine g_getN M fn_X5_106 dX5_hand_45 rfl rfl ?_
  refine g_iload_n M dX5_hand_48 rfl ?_
  refine g_zald M dX5_hand_49 rfl hv ?_
  rw [cl5 w (by omega)]
  refine g_if_eq M 63 dX5_hand_50 (by decide) (fun h9 => absurd h9 (show ¬ b2i (sLo d0 w) = 0 by rw [hlo]; decide)) (fun _ => ?_)
  exact g_throw M tsIS (List.mem_of_getElem? (i := 4) rfl) rfl dX5_hand_53 dX5_hand_56 dX5_hand_57 dX5_hand_59 dX5_hand_62 ⟨Nat.le_of_ble_eq_true rfl, Nat.le_of_ble_eq_true rfl⟩ ⟨Nat.le_of_ble_eq_true rfl, Nat.le_of_ble_eq_true rfl⟩
theorem t_hand4 (w : Nat) (h5 : w < 5) (y : Int32) (hy1 : ¬ y < 1) (hy2 : y ≤ 11) (hlo : sLo d0 w = false) (hf : ¬ fltB (sTe d0) (toH d0 w y) (sLo d0) (sHe d0) 0 (sSe d0) = 0) : ConT yX5_hand cX5_hand 3 (some .int) (rmt 6 150) [.ref 0, .int (nI w), .int y] (CW kp d0 d1 k rm R cod len aw op fig pop pmk pen psts ptd t) xIS (CW kp d0 d1 k rm R cod len aw op fig pop pmk pen psts ptd (haW d0 w y)) := by
  refine ConT.of (by decide) rfl (Nat.le_of_ble_eq_true rfl) (Eq.trans (b := 95) rfl rfl) (fun B M => ?_)
  have hv := nI5 w h5
  have hc := cl5 w (by omega)
  have hs := c_turnByHand (sTe d0) (sTo d0) (sLo d0) (sCra d0) (sHa d0) (sHe d0) (nI w) y hv
  rw [hc] at hs
  change Con _ _ _ _ _ _ _ _ (WW (sTe d0) (toH d0 w y) (sLo d0) (sCra d0) (upd (sHa d0) w (sHa d0 w + y)) (sHe d0)) at hs
  rw [haW] at M
  generalize toH d0 w y = to2 at M hs hf
  generalize upd (sHa d0) w (sHa d0 w + y) = ha2 at M hs
  refine g_iload_n M dX5_hand_0 rfl ?_
  refine g_S1ik M (c_isWheel _) lk_X5_97 dX5_hand_1 (by decide +kernel) ⟨Nat.le_of_ble_eq_true rfl, Nat.le_of_ble_eq_true rfl⟩ ⟨rfl, rfl⟩ [] rfl (by decide +kernel) rfl (Nat.le_of_ble_eq_true rfl) ?_
  refine g_if_ne M 17 dX5_hand_4 (by decide) (fun _ => ?_) (fun h9 => absurd h9 (by rw [iswh_iff.mpr hv]; decide))
  refine g_iload_n M dX5_hand_17 rfl ?_
  refine g_iconst M 1 dX5_hand_18 (by decide) ?_
  refine g_icmp_lt M 28 dX5_hand_19 (by decide) (fun h9 => absurd h9 hy1) (fun _ => ?_)
  refine g_iload_n M dX5_hand_22 rfl ?_
  refine g_bipush M 11 dX5_hand_23 (by decide) ?_
  refine g_icmp_le M 38 dX5_hand_25 (by decide) (fun _ => ?_) (fun h9 => absurd hy2 h9)
  refine g_aload_n M dX5_hand_38 rfl ?_
  refine g_get M fl_X5_10 dX5_hand_39 rfl rfl ?_
  refine g_getN M fn_X5_62 dX5_hand_42 rfl rfl ?_
  refine g_getN M fn_X5_106 dX5_hand_45 rfl rfl ?_
  refine g_iload_n M dX5_hand_48 rfl ?_
  refine g_zald M dX5_hand_49 rfl hv ?_
  rw [hc]
  refine g_if_eq M 63 dX5_hand_50 (by decide) (fun _ => ?_) (fun h9 => absurd (show b2i (sLo d0 w) = 0 by rw [hlo]; rfl) h9)
  refine g_aload_n M dX5_hand_63 rfl ?_
  refine g_get M fl_X5_47 dX5_hand_64 rfl rfl ?_
  refine g_aload_n M dX5_hand_67 rfl ?_
  refine g_get M fl_X5_10 dX5_hand_68 rfl rfl ?_
  refine g_getN M fn_X5_62 dX5_hand_71 rfl rfl ?_
  refine g_V1vu (w' :=  CW kp d0 d1 k rm R cod len aw op fig pop pmk pen psts ptd (sTe d0, sTo d0, sLo d0, sCra d0, sHa d0, sHe d0)) M (c_wcopy t.1 t.2.1 t.2.2.1 t.2.2.2.1 t.2.2.2.2.1 t.2.2.2.2.2 (sTe d0) (sTo d0) (sLo d0) (sCra d0) (sHa d0) (sHe d0)) lk_X5_116 dX5_hand_74 (by decide +kernel) ⟨Nat.le_of_ble_eq_true rfl, Nat.le_of_ble_eq_true rfl⟩ ⟨rfl, rfl⟩ [88, 89, 90, 91, 92, 93, 94, 4, 5, 6, 7, 8, 9, 10] rfl rfl rfl (by decide +kernel) rfl (Nat.le_of_ble_eq_true rfl) rfl ?_
  refine g_aload_n M dX5_hand_77 rfl ?_
  refine g_get M fl_X5_47 dX5_hand_78 rfl rfl ?_
  refine g_iload_n M dX5_hand_81 rfl ?_
  refine g_iload_n M dX5_hand_82 rfl ?_
  refine g_V2vu (w' :=  CW kp d0 d1 k rm R cod len aw op fig pop pmk pen psts ptd (sTe d0, to2, sLo d0, sCra d0, ha2, sHe d0)) M hs lk_X5_120 dX5_hand_83 (by decide +kernel) ⟨Nat.le_of_ble_eq_true rfl, Nat.le_of_ble_eq_true rfl⟩ ⟨rfl, rfl⟩ [88, 89, 90, 91, 92, 93, 94] rfl rfl rfl (by decide +kernel) rfl (Nat.le_of_ble_eq_true rfl) rfl ?_
  refine g_aload_n M dX5_hand_86 rfl ?_
  refine g_get M fl_X5_47 dX5_hand_87 rfl rfl ?_
  refine g_iconst M 0 dX5_hand_90 (by decide) ?_
  refine g_aload_n M dX5_hand_91 rfl ?_
  refine g_get M fl_X5_10 dX5_hand_92 rfl rfl ?_
  refine g_getN M fn_X5_124 dX5_hand_95 rfl rfl ?_
  refine g_V2ik M (c_faultBehind (sTe d0) to2 (sLo d0) (sCra d0) ha2 (sHe d0) 0 (sSe d0)) lk_X5_128 dX5_hand_98 (by decide +kernel) ⟨Nat.le_of_ble_eq_true rfl, Nat.le_of_ble_eq_true rfl⟩ ⟨rfl, rfl⟩ [88, 89, 90, 91, 92, 93, 94] rfl rfl rfl (by decide +kernel) rfl (Nat.le_of_ble_eq_true rfl) ?_
  refine g_if_eq M 114 dX5_hand_101 (by decide) (fun h9 => absurd h9 hf) (fun _ => ?_)
  exact g_throw M tsIS (List.mem_of_getElem? (i := 5) rfl) rfl dX5_hand_104 dX5_hand_107 dX5_hand_108 dX5_hand_110 dX5_hand_113 ⟨Nat.le_of_ble_eq_true rfl, Nat.le_of_ble_eq_true rfl⟩ ⟨Nat.le_of_ble_eq_true rfl, Nat.le_of_ble_eq_true rfl⟩
theorem t_file1 (x y z : Int32) (h : isTth d0 x y = false) : ConT yX5_file cX5_file 5 (some .int) (rmt 6 150) [.ref 0, .int x, .int y, .int z] (CW kp d0 d1 k rm R cod len aw op fig pop pmk pen psts ptd t) xIB (CW kp d0 d1 k rm R cod len aw op fig pop pmk pen psts ptd t) := by
  refine ConT.of (by decide) rfl (Nat.le_of_ble_eq_true rfl) (Eq.trans (b := 95) rfl rfl) (fun B M => ?_)
  refine g_aload_n M dX5_file_0 rfl ?_
  refine g_iload_n M dX5_file_1 rfl ?_
  refine g_iload_n M dX5_file_2 rfl ?_
  refine g_V2ik M (c_isTooth (.ref 30) (.ref 102) (.ref 104) (.ref 41) kp (nI k) d0 t x y) lk_X5_138 dX5_file_3 (by decide +kernel) ⟨Nat.le_of_ble_eq_true rfl, Nat.le_of_ble_eq_true rfl⟩ ⟨rfl, rfl⟩ [0, 1, 2, 3, 4, 5, 6, 7, 8, 9, 10, 21, 88, 89, 90, 91, 92, 93, 94] rfl rfl rfl (by decide +kernel) rfl (Nat.le_of_ble_eq_true rfl) ?_
  rw [h]
  refine g_if_ne M 19 dX5_file_6 (by decide) (fun h9 => absurd (by decide) h9) (fun _ => ?_)
  exact g_throw M tsIB (List.mem_of_getElem? (i := 6) rfl) rfl dX5_file_9 dX5_file_12 dX5_file_13 dX5_file_15 dX5_file_18 ⟨Nat.le_of_ble_eq_true rfl, Nat.le_of_ble_eq_true rfl⟩ ⟨Nat.le_of_ble_eq_true rfl, Nat.le_of_ble_eq_true rfl⟩
theorem t_file2 (x y z : Int32) (h : isTth d0 x y = true) (hz : ¬ (0 ≤ z.toInt ∧ z.toInt ≤ 9)) : ConT yX5_file cX5_file 5 (some .int) (rmt 6 150) [.ref 0, .int x, .int y, .int z] (CW kp d0 d1 k rm R cod len aw op fig pop pmk pen psts ptd t) xIA (CW kp d0 d1 k rm R cod len aw op fig pop pmk pen psts ptd t) := by
  refine ConT.of (by decide) rfl (Nat.le_of_ble_eq_true rfl) (Eq.trans (b := 95) rfl rfl) (fun B M => ?_)
  refine g_aload_n M dX5_file_0 rfl ?_
  refine g_iload_n M dX5_file_1 rfl ?_
  refine g_iload_n M dX5_file_2 rfl ?_
  refine g_V2ik M (c_isTooth (.ref 30) (.ref 102) (.ref 104) (.ref 41) kp (nI k) d0 t x y) lk_X5_138 dX5_file_3 (by decide +kernel) ⟨Nat.le_of_ble_eq_true rfl, Nat.le_of_ble_eq_true rfl⟩ ⟨rfl, rfl⟩ [0, 1, 2, 3, 4, 5, 6, 7, 8, 9, 10, 21, 88, 89, 90, 91, 92, 93, 94] rfl rfl rfl (by decide +kernel) rfl (Nat.le_of_ble_eq_true rfl) ?_
  rw [h]
  refine g_if_ne M 19 dX5_file_6 (by decide) (fun _ => ?_) (fun h9 => absurd h9 (by decide))
  refine g_iload_n M dX5_file_19 rfl ?_
  refine g_S1ik M (c_isHeight _) lk_X5_144 dX5_file_20 (by decide +kernel) ⟨Nat.le_of_ble_eq_true rfl, Nat.le_of_ble_eq_true rfl⟩ ⟨rfl, rfl⟩ [] rfl (by decide +kernel) rfl (Nat.le_of_ble_eq_true rfl) ?_
  rw [decide_eq_false hz]
  refine g_if_ne M 36 dX5_file_23 (by decide) (fun h9 => absurd (by decide) h9) (fun _ => ?_)
  exact g_throw M tsIA (List.mem_of_getElem? (i := 7) rfl) rfl dX5_file_26 dX5_file_29 dX5_file_30 dX5_file_32 dX5_file_35 ⟨Nat.le_of_ble_eq_true rfl, Nat.le_of_ble_eq_true rfl⟩ ⟨Nat.le_of_ble_eq_true rfl, Nat.le_of_ble_eq_true rfl⟩
theorem t_file3 (w tt : Nat) (y : Int32) (ht : isTth d0 (nI w) (nI tt) = true) (hy : 0 ≤ y.toInt ∧ y.toInt ≤ 9) (hf : ¬ fltB (sTe d0) (sTo d0) (sLo d0) (putH (sHe d0) (nI w) (nI tt) y) 0 (sSe d0) = 0) : ConT yX5_file cX5_file 5 (some .int) (rmt 6 150) [.ref 0, .int (nI w), .int (nI tt), .int y] (CW kp d0 d1 k rm R cod len aw op fig pop pmk pen psts ptd t) xIS (CW kp d0 d1 k rm R cod len aw op fig pop pmk pen psts ptd (fiW d0 w tt y)) := by
  refine ConT.of (by decide) rfl (Nat.le_of_ble_eq_true rfl) (Eq.trans (b := 95) rfl rfl) (fun B M => ?_)
  have hs := c_putHeight (sTe d0) (sTo d0) (sLo d0) (sCra d0) (sHa d0) (sHe d0) (nI w) (nI tt) y
  rw [fiW] at M
  generalize putH (sHe d0) (nI w) (nI tt) y = he2 at M hs hf
  refine g_aload_n M dX5_file_0 rfl ?_
  refine g_iload_n M dX5_file_1 rfl ?_
  refine g_iload_n M dX5_file_2 rfl ?_
  refine g_V2ik M (c_isTooth (.ref 30) (.ref 102) (.ref 104) (.ref 41) kp (nI k) d0 t (nI w) (nI tt)) lk_X5_138 dX5_file_3 (by decide +kernel) ⟨Nat.le_of_ble_eq_true rfl, Nat.le_of_ble_eq_true rfl⟩ ⟨rfl, rfl⟩ [0, 1, 2, 3, 4, 5, 6, 7, 8, 9, 10, 21, 88, 89, 90, 91, 92, 93, 94] rfl rfl rfl (by decide +kernel) rfl (Nat.le_of_ble_eq_true rfl) ?_
  rw [ht]
  refine g_if_ne M 19 dX5_file_6 (by decide) (fun _ => ?_) (fun h9 => absurd h9 (by decide))
  refine g_iload_n M dX5_file_19 rfl ?_
  refine g_S1ik M (c_isHeight _) lk_X5_144 dX5_file_20 (by decide +kernel) ⟨Nat.le_of_ble_eq_true rfl, Nat.le_of_ble_eq_true rfl⟩ ⟨rfl, rfl⟩ [] rfl (by decide +kernel) rfl (Nat.le_of_ble_eq_true rfl) ?_
  refine g_if_ne M 36 dX5_file_23 (by decide) (fun _ => ?_) (fun h9 => absurd h9 (by rw [decide_eq_true hy]; decide))
  refine g_aload_n M dX5_file_36 rfl ?_
  refine g_get M fl_X5_47 dX5_file_37 rfl rfl ?_
  refine g_aload_n M dX5_file_40 rfl ?_
  refine g_get M fl_X5_10 dX5_file_41 rfl rfl ?_
  refine g_getN M fn_X5_62 dX5_file_44 rfl rfl ?_
  refine g_V1vu (w' :=  CW kp d0 d1 k rm R cod len aw op fig pop pmk pen psts ptd (sTe d0, sTo d0, sLo d0, sCra d0, sHa d0, sHe d0)) M (c_wcopy t.1 t.2.1 t.2.2.1 t.2.2.2.1 t.2.2.2.2.1 t.2.2.2.2.2 (sTe d0) (sTo d0) (sLo d0) (sCra d0) (sHa d0) (sHe d0)) lk_X5_116 dX5_file_47 (by decide +kernel) ⟨Nat.le_of_ble_eq_true rfl, Nat.le_of_ble_eq_true rfl⟩ ⟨rfl, rfl⟩ [88, 89, 90, 91, 92, 93, 94, 4, 5, 6, 7, 8, 9, 10] rfl rfl rfl (by decide +kernel) rfl (Nat.le_of_ble_eq_true rfl) rfl ?_
  refine g_aload_n M dX5_file_50 rfl ?_
  refine g_get M fl_X5_47 dX5_file_51 rfl rfl ?_
  refine g_iload_n M dX5_file_54 rfl ?_
  refine g_iload_n M dX5_file_55 rfl ?_
  refine g_iload_n M dX5_file_56 rfl ?_
  refine g_V3vu (w' :=  CW kp d0 d1 k rm R cod len aw op fig pop pmk pen psts ptd (sTe d0, sTo d0, sLo d0, sCra d0, sHa d0, he2)) M hs lk_X5_149 dX5_file_57 (by decide +kernel) ⟨Nat.le_of_ble_eq_true rfl, Nat.le_of_ble_eq_true rfl⟩ ⟨rfl, rfl⟩ [88, 89, 90, 91, 92, 93, 94] rfl rfl rfl (by decide +kernel) rfl (Nat.le_of_ble_eq_true rfl) rfl ?_
  refine g_aload_n M dX5_file_60 rfl ?_
  refine g_get M fl_X5_47 dX5_file_61 rfl rfl ?_
  refine g_iconst M 0 dX5_file_64 (by decide) ?_
  refine g_aload_n M dX5_file_65 rfl ?_
  refine g_get M fl_X5_10 dX5_file_66 rfl rfl ?_
  refine g_getN M fn_X5_124 dX5_file_69 rfl rfl ?_
  refine g_V2ik M (c_faultBehind (sTe d0) (sTo d0) (sLo d0) (sCra d0) (sHa d0) he2 0 (sSe d0)) lk_X5_128 dX5_file_72 (by decide +kernel) ⟨Nat.le_of_ble_eq_true rfl, Nat.le_of_ble_eq_true rfl⟩ ⟨rfl, rfl⟩ [88, 89, 90, 91, 92, 93, 94] rfl rfl rfl (by decide +kernel) rfl (Nat.le_of_ble_eq_true rfl) ?_
  refine g_if_eq M 88 dX5_file_75 (by decide) (fun h9 => absurd h9 hf) (fun _ => ?_)
  exact g_throw M tsIS (List.mem_of_getElem? (i := 5) rfl) rfl dX5_file_78 dX5_file_81 dX5_file_82 dX5_file_84 dX5_file_87 ⟨Nat.le_of_ble_eq_true rfl, Nat.le_of_ble_eq_true rfl⟩ ⟨Nat.le_of_ble_eq_true rfl, Nat.le_of_ble_eq_true rfl⟩
theorem t_change1 (x y : Int32) (h : iswh x = false) : ConT yX5_change cX5_change 4 (some .int) (rmt 6 150) [.ref 0, .int x, .int y] (CW kp d0 d1 k rm R cod len aw op fig pop pmk pen psts ptd t) xIB (CW kp d0 d1 k rm R cod len aw op fig pop pmk pen psts ptd t) := by
  refine ConT.of (by decide) rfl (Nat.le_of_ble_eq_true rfl) (Eq.trans (b := 95) rfl rfl) (fun B M => ?_)
  refine g_iload_n M dX5_change_0 rfl ?_
  refine g_S1ik M (c_isWheel _) lk_X5_97 dX5_change_1 (by decide +kernel) ⟨Nat.le_of_ble_eq_true rfl, Nat.le_of_ble_eq_true rfl⟩ ⟨rfl, rfl⟩ [] rfl (by decide +kernel) rfl (Nat.le_of_ble_eq_true rfl) ?_
  rw [h]
  refine g_if_ne M 17 dX5_change_4 (by decide) (fun h9 => absurd (by decide) h9) (fun _ => ?_)
  exact g_throw M tsIB (List.mem_of_getElem? (i := 2) rfl) rfl dX5_change_7 dX5_change_10 dX5_change_11 dX5_change_13 dX5_change_16 ⟨Nat.le_of_ble_eq_true rfl, Nat.le_of_ble_eq_true rfl⟩ ⟨Nat.le_of_ble_eq_true rfl, Nat.le_of_ble_eq_true rfl⟩
theorem t_change2 (x y : Int32) (h : iswh x = true) (hy : y < 2 ∨ ¬ y ≤ 12) : ConT yX5_change cX5_change 4 (some .int) (rmt 6 150) [.ref 0, .int x, .int y] (CW kp d0 d1 k rm R cod len aw op fig pop pmk pen psts ptd t) xIA (CW kp d0 d1 k rm R cod len aw op fig pop pmk pen psts ptd t) := by
  refine ConT.of (by decide) rfl (Nat.le_of_ble_eq_true rfl) (Eq.trans (b := 95) rfl rfl) (fun B M => ?_)
  refine g_iload_n M dX5_change_0 rfl ?_
  refine g_S1ik M (c_isWheel _) lk_X5_97 dX5_change_1 (by decide +kernel) ⟨Nat.le_of_ble_eq_true rfl, Nat.le_of_ble_eq_true rfl⟩ ⟨rfl, rfl⟩ [] rfl (by decide +kernel) rfl (Nat.le_of_ble_eq_true rfl) ?_
  rw [h]
  refine g_if_ne M 17 dX5_change_4 (by decide) (fun _ => ?_) (fun h9 => absurd h9 (by decide))
  refine g_iload_n M dX5_change_17 rfl ?_
  refine g_iconst M 2 dX5_change_18 (by decide) ?_
  by_cases h0 : y < 2
  · refine g_icmp_lt M 28 dX5_change_19 (by decide) (fun _ => ?_) (fun h9 => absurd h0 h9)
    exact g_throw M tsIA (List.mem_of_getElem? (i := 8) rfl) rfl dX5_change_28 dX5_change_31 dX5_change_32 dX5_change_34 dX5_change_37 ⟨Nat.le_of_ble_eq_true rfl, Nat.le_of_ble_eq_true rfl⟩ ⟨Nat.le_of_ble_eq_true rfl, Nat.le_of_ble_eq_true rfl⟩
  · refine g_icmp_lt M 28 dX5_change_19 (by decide) (fun h9 => absurd h9 h0) (fun _ => ?_)
    refine g_iload_n M dX5_change_22 rfl ?_
    refine g_bipush M 12 dX5_change_23 (by decide) ?_
    refine g_icmp_le M 38 dX5_change_25 (by decide) (fun h9 => absurd h9 (hy.resolve_left h0)) (fun _ => ?_)
    exact g_throw M tsIA (List.mem_of_getElem? (i := 8) rfl) rfl dX5_change_28 dX5_change_31 dX5_change_32 dX5_change_34 dX5_change_37 ⟨Nat.le_of_ble_eq_true rfl, Nat.le_of_ble_eq_true rfl⟩ ⟨Nat.le_of_ble_eq_true rfl, Nat.le_of_ble_eq_true rfl⟩
theorem t_set1 (z : Int32) (hz : ¬ (0 ≤ z.toInt ∧ z.toInt ≤ 9)) : ConT yX5_set cX5_set 3 (some .int) (rmt 6 150) [.ref 0, .int z] (CW kp d0 d1 k rm R cod len aw op fig pop pmk pen psts ptd t) xIA (CW kp d0 d1 k rm R cod len aw op fig pop pmk pen psts ptd t) := by
  refine ConT.of (by decide) rfl (Nat.le_of_ble_eq_true rfl) (Eq.trans (b := 95) rfl rfl) (fun B M => ?_)
  refine g_iload_n M dX5_set_0 rfl ?_
  refine g_S1ik M (c_isHeight _) lk_X5_144 dX5_set_1 (by decide +kernel) ⟨Nat.le_of_ble_eq_true rfl, Nat.le_of_ble_eq_true rfl⟩ ⟨rfl, rfl⟩ [] rfl (by decide +kernel) rfl (Nat.le_of_ble_eq_true rfl) ?_
  rw [decide_eq_false hz]
  refine g_if_ne M 17 dX5_set_4 (by decide) (fun h9 => absurd (by decide) h9) (fun _ => ?_)
  exact g_throw M tsIA (List.mem_of_getElem? (i := 7) rfl) rfl dX5_set_7 dX5_set_10 dX5_set_11 dX5_set_13 dX5_set_16 ⟨Nat.le_of_ble_eq_true rfl, Nat.le_of_ble_eq_true rfl⟩ ⟨Nat.le_of_ble_eq_true rfl, Nat.le_of_ble_eq_true rfl⟩
theorem t_set2 (z : Int32) (hz : 0 ≤ z.toInt ∧ z.toInt ≤ 9) (hf : ¬ fltB (sTe d0) (sTo d0) (sLo d0) (sHe d0) 0 z = 0) : ConT yX5_set cX5_set 3 (some .int) (rmt 6 150) [.ref 0, .int z] (CW kp d0 d1 k rm R cod len aw op fig pop pmk pen psts ptd t) xIS (CW kp d0 d1 k rm R cod len aw op fig pop pmk pen psts ptd t) := by
  refine ConT.of (by decide) rfl (Nat.le_of_ble_eq_true rfl) (Eq.trans (b := 95) rfl rfl) (fun B M => ?_)
  refine g_iload_n M dX5_set_0 rfl ?_
  refine g_S1ik M (c_isHeight _) lk_X5_144 dX5_set_1 (by decide +kernel) ⟨Nat.le_of_ble_eq_true rfl, Nat.le_of_ble_eq_true rfl⟩ ⟨rfl, rfl⟩ [] rfl (by decide +kernel) rfl (Nat.le_of_ble_eq_true rfl) ?_
  refine g_if_ne M 17 dX5_set_4 (by decide) (fun _ => ?_) (fun h9 => absurd h9 (by rw [decide_eq_true hz]; decide))
  refine g_aload_n M dX5_set_17 rfl ?_
  refine g_get M fl_X5_10 dX5_set_18 rfl rfl ?_
  refine g_getN M fn_X5_62 dX5_set_21 rfl rfl ?_
  refine g_iconst M 0 dX5_set_24 (by decide) ?_
  refine g_iload_n M dX5_set_25 rfl ?_
  refine g_V2ik M (c_faultBehind (sTe d0) (sTo d0) (sLo d0) (sCra d0) (sHa d0) (sHe d0) _ _) lk_X5_128 dX5_set_26 (by decide +kernel) ⟨Nat.le_of_ble_eq_true rfl, Nat.le_of_ble_eq_true rfl⟩ ⟨rfl, rfl⟩ [4, 5, 6, 7, 8, 9, 10] rfl rfl rfl (by decide +kernel) rfl (Nat.le_of_ble_eq_true rfl) ?_
  refine g_if_eq M 42 dX5_set_29 (by decide) (fun h9 => absurd h9 hf) (fun _ => ?_)
  exact g_throw M tsIS (List.mem_of_getElem? (i := 5) rfl) rfl dX5_set_32 dX5_set_35 dX5_set_36 dX5_set_38 dX5_set_41 ⟨Nat.le_of_ble_eq_true rfl, Nat.le_of_ble_eq_true rfl⟩ ⟨Nat.le_of_ble_eq_true rfl, Nat.le_of_ble_eq_true rfl⟩
end


section
variable (kp : Bool) (d0 d1 : SD) (k : Nat) (rm : Nat → Nat) (R : Nat → SD) (cod : Nat → Int32) (len aw op fig pop pmk pen : Int32) (psts ptd : Nat → Nat) (t : WD)
theorem c_forget (hrm : ∀ j, rm j < 6) (hk : k ≤ 6) (i c : Nat) (hc6 : c < 6) (hsc : sSc d0 = nI (c + 1)) (hi : i ≤ c) : Con yX5_forget cX5_forget 2 (some .int) (rmk 6 150) [.ref 0, .int (nI i)] (CW kp d0 d1 k rm R cod len aw op fig pop pmk pen psts ptd t) (some (.int (nI c))) (CW kp (foD d0 i (c + 1)) d1 (puK k) (puM k rm) (puR k rm R d0) cod len aw op fig pop pmk pen psts ptd t) := by
  refine Con.of (own := RX5) (by decide) rfl (Nat.le_of_ble_eq_true rfl) (Eq.trans (b := 95) rfl rfl) (fun B M => ?_)
  have hs := c_dropScene (sSc d0) (sCr d0) (sLi d0) (sSf d0) (sSb d0) (sSe d0) (sLa d0) (sSt d0) (sScn d0) (sTe d0) (sTo d0) (sLo d0) (sCra d0) (sHa d0) (sHe d0) i (c + 1) (by omega) (by omega) hsc
  rw [foD] at M
  generalize dropK (sScn d0) i (c + 1) = sc2 at M hs
  refine r_aload_n M dX5_forget_0 rfl ?_
  refine r_iload_n M dX5_forget_1 rfl ?_
  refine r_V1ik M (c_isScene (.ref 30) (.ref 102) (.ref 104) (.ref 41) kp (nI k) d0 t (nI i)) lk_X5_172 dX5_forget_2 (by decide +kernel) ⟨Nat.le_of_ble_eq_true rfl, Nat.le_of_ble_eq_true rfl⟩ ⟨rfl, rfl⟩ [0, 1, 2, 3, 4, 5, 6, 7, 8, 9, 10, 21, 88, 89, 90, 91, 92, 93, 94] rfl rfl rfl (by decide +kernel) rfl (Nat.le_of_ble_eq_true rfl) ?_
  rw [hsc, decide_eq_true (p := 0 ≤ (nI i).toInt ∧ nI i < nI (c + 1)) ⟨by rw [nI_toInt (by omega)]; omega, nI_lt (by omega) (by omega)⟩]
  refine r_if_ne M 18 dX5_forget_5 (by decide) (fun _ => ?_) (fun h9 => absurd h9 (by decide))
  refine r_aload_n M dX5_forget_18 rfl ?_
  refine r_get M fl_X5_26 dX5_forget_19 rfl rfl ?_
  refine r_aload_n M dX5_forget_22 rfl ?_
  refine r_get M fl_X5_10 dX5_forget_23 rfl rfl ?_
  refine push_r kp d0 d1 rm R cod len aw op fig pop pmk pen psts ptd t M dX5_forget_26 ⟨Nat.le_of_ble_eq_true rfl, Nat.le_of_ble_eq_true rfl⟩ (Nat.le_of_ble_eq_true rfl) hrm k hk ?_
  generalize puK k = k2 at M ⊢
  generalize puM k rm = m2 at M ⊢
  generalize puR k rm R d0 = R2 at M ⊢
  refine r_aload_n M dX5_forget_29 rfl ?_
  refine r_get M fl_X5_10 dX5_forget_30 rfl rfl ?_
  refine r_iload_n M dX5_forget_33 rfl ?_
  refine r_V1vu (w' :=  CW kp (sTe d0, sTo d0, sLo d0, sCra d0, sHa d0, sHe d0, sSt d0, sc2, sSc d0 - 1, sCr d0, sLi d0, sSf d0, sSb d0, sSe d0, sLa d0) d1 k2 m2 R2 cod len aw op fig pop pmk pen psts ptd t) M hs lk_X5_177 dX5_forget_34 (by decide +kernel) ⟨Nat.le_of_ble_eq_true rfl, Nat.le_of_ble_eq_true rfl⟩ ⟨rfl, rfl⟩ [1, 2, 3, 4, 5, 6, 7, 8, 9, 10] rfl rfl rfl (by decide +kernel) rfl (Nat.le_of_ble_eq_true rfl) rfl ?_
  refine r_aload_n M dX5_forget_37 rfl ?_
  refine r_get M fl_X5_10 dX5_forget_38 rfl rfl ?_
  refine r_getN M fn_X5_164 dX5_forget_41 rfl rfl ?_
  exact r_iret M dX5_forget_44 rfl (by rw [hsc, nI_pred]) rfl
/-- a wheel turned by hand -/
def toH (d : SD) (w : Nat) (y : Int32) : Nat → Int32 := upd (sTo d) w (md (sTo d w + y) (sTe d w))
def haD (d : SD) (w : Nat) (y : Int32) : SD := (sTe d, toH d w y, sLo d, sCra d, upd (sHa d) w (sHa d w + y), sHe d, sSt d, sScn d, sSc d, sCr d, sLi d, sSf d, sSb d, sSe d, sLa d)
def haW (d : SD) (w : Nat) (y : Int32) : WD := (sTe d, toH d w y, sLo d, sCra d, upd (sHa d) w (sHa d w + y), sHe d)
theorem c_hand (hrm : ∀ j, rm j < 6) (hk : k ≤ 6) (w : Nat) (h5 : w < 5) (y : Int32) (hy1 : ¬ y < 1) (hy2 : y ≤ 11) (hlo : sLo d0 w = false) (hf : fltB (sTe d0) (toH d0 w y) (sLo d0) (sHe d0) 0 (sSe d0) = 0) : Con yX5_hand cX5_hand 3 (some .int) (rmk 6 150) [.ref 0, .int (nI w), .int y] (CW kp d0 d1 k rm R cod len aw op fig pop pmk pen psts ptd t) (some (.int (toH d0 w y w))) (CW kp (haD d0 w y) d1 (puK k) (puM k rm) (puR k rm R d0) cod len aw op fig pop pmk pen psts ptd (haW d0 w y)) := by
  refine Con.of (own := RX5) (by decide) rfl (Nat.le_of_ble_eq_true rfl) (Eq.trans (b := 95) rfl rfl) (fun B M => ?_)
  have hv := nI5 w h5
  have hc := cl5 w (by omega)
  have hs := c_turnByHand (sTe d0) (sTo d0) (sLo d0) (sCra d0) (sHa d0) (sHe d0) (nI w) y hv
  rw [hc] at hs
  change Con _ _ _ _ _ _ _ _ (WW (sTe d0) (toH d0 w y) (sLo d0) (sCra d0) (upd (sHa d0) w (sHa d0 w + y)) (sHe d0)) at hs
  rw [haD, haW] at M
  generalize toH d0 w y = to2 at M hs hf
  generalize upd (sHa d0) w (sHa d0 w + y) = ha2 at M hs
  refine r_iload_n M dX5_hand_0 rfl ?_
  refine r_S1ik M (c_isWheel _) lk_X5_97 dX5_hand_1 (by decide +kernel) ⟨Nat.le_of_ble_eq_true rfl, Nat.le_of_ble_eq_true rfl⟩ ⟨rfl, rfl⟩ [] rfl (by decide +kernel) rfl (Nat.le_of_ble_eq_true rfl) ?_
  refine r_if_ne M 17 dX5_hand_4 (by decide) (fun _ => ?_) (fun h9 => absurd h9 (by rw [iswh_iff.mpr hv]; decide))
  refine r_iload_n M dX5_hand_17 rfl ?_
  refine r_iconst M 1 dX5_hand_18 (by decide) ?_
  refine r_icmp_lt M 28 dX5_hand_19 (by decide) (fun h9 => absurd h9 hy1) (fun _ => ?_)
  refine r_iload_n M dX5_hand_22 rfl ?_
  refine r_bipush M 11 dX5_hand_23 (by decide) ?_
  refine r_icmp_le M 38 dX5_hand_25 (by decide) (fun _ => ?_) (fun h9 => absurd hy2 h9)
  refine r_aload_n M dX5_hand_38 rfl ?_
  refine r_get M fl_X5_10 dX5_hand_39 rfl rfl ?_
  refine r_getN M fn_X5_62 dX5_hand_42 rfl rfl ?_
  refine r_getN M fn_X5_106 dX5_hand_45 rfl rfl ?_
  refine r_iload_n M dX5_hand_48 rfl ?_
  refine r_zald M dX5_hand_49 rfl hv ?_
  rw [hc]
  refine r_if_eq M 63 dX5_hand_50 (by decide) (fun _ => ?_) (fun h9 => absurd (show b2i (sLo d0 w) = 0 by rw [hlo]; rfl) h9)
  refine r_aload_n M dX5_hand_63 rfl ?_
  refine r_get M fl_X5_47 dX5_hand_64 rfl rfl ?_
  refine r_aload_n M dX5_hand_67 rfl ?_
  refine r_get M fl_X5_10 dX5_hand_68 rfl rfl ?_
  refine r_getN M fn_X5_62 dX5_hand_71 rfl rfl ?_
  refine r_V1vu (w' :=  CW kp d0 d1 k rm R cod len aw op fig pop pmk pen psts ptd (sTe d0, sTo d0, sLo d0, sCra d0, sHa d0, sHe d0)) M (c_wcopy t.1 t.2.1 t.2.2.1 t.2.2.2.1 t.2.2.2.2.1 t.2.2.2.2.2 (sTe d0) (sTo d0) (sLo d0) (sCra d0) (sHa d0) (sHe d0)) lk_X5_116 dX5_hand_74 (by decide +kernel) ⟨Nat.le_of_ble_eq_true rfl, Nat.le_of_ble_eq_true rfl⟩ ⟨rfl, rfl⟩ [88, 89, 90, 91, 92, 93, 94, 4, 5, 6, 7, 8, 9, 10] rfl rfl rfl (by decide +kernel) rfl (Nat.le_of_ble_eq_true rfl) rfl ?_
  refine r_aload_n M dX5_hand_77 rfl ?_
  refine r_get M fl_X5_47 dX5_hand_78 rfl rfl ?_
  refine r_iload_n M dX5_hand_81 rfl ?_
  refine r_iload_n M dX5_hand_82 rfl ?_
  refine r_V2vu (w' :=  CW kp d0 d1 k rm R cod len aw op fig pop pmk pen psts ptd (sTe d0, to2, sLo d0, sCra d0, ha2, sHe d0)) M hs lk_X5_120 dX5_hand_83 (by decide +kernel) ⟨Nat.le_of_ble_eq_true rfl, Nat.le_of_ble_eq_true rfl⟩ ⟨rfl, rfl⟩ [88, 89, 90, 91, 92, 93, 94] rfl rfl rfl (by decide +kernel) rfl (Nat.le_of_ble_eq_true rfl) rfl ?_
  refine r_aload_n M dX5_hand_86 rfl ?_
  refine r_get M fl_X5_47 dX5_hand_87 rfl rfl ?_
  refine r_iconst M 0 dX5_hand_90 (by decide) ?_
  refine r_aload_n M dX5_hand_91 rfl ?_
  refine r_get M fl_X5_10 dX5_hand_92 rfl rfl ?_
  refine r_getN M fn_X5_124 dX5_hand_95 rfl rfl ?_
  refine r_V2ik M (c_faultBehind (sTe d0) to2 (sLo d0) (sCra d0) ha2 (sHe d0) 0 (sSe d0)) lk_X5_128 dX5_hand_98 (by decide +kernel) ⟨Nat.le_of_ble_eq_true rfl, Nat.le_of_ble_eq_true rfl⟩ ⟨rfl, rfl⟩ [88, 89, 90, 91, 92, 93, 94] rfl rfl rfl (by decide +kernel) rfl (Nat.le_of_ble_eq_true rfl) ?_
  refine r_if_eq M 114 dX5_hand_101 (by decide) (fun _ => ?_) (fun h9 => absurd hf h9)
  refine r_aload_n M dX5_hand_114 rfl ?_
  refine r_get M fl_X5_26 dX5_hand_115 rfl rfl ?_
  refine r_aload_n M dX5_hand_118 rfl ?_
  refine r_get M fl_X5_10 dX5_hand_119 rfl rfl ?_
  refine push_r kp d0 d1 rm R cod len aw op fig pop pmk pen psts ptd (sTe d0, to2, sLo d0, sCra d0, ha2, sHe d0) M dX5_hand_122 ⟨Nat.le_of_ble_eq_true rfl, Nat.le_of_ble_eq_true rfl⟩ (Nat.le_of_ble_eq_true rfl) hrm k hk ?_
  generalize puK k = k2 at M ⊢
  generalize puM k rm = m2 at M ⊢
  generalize puR k rm R d0 = R2 at M ⊢
  refine r_aload_n M dX5_hand_125 rfl ?_
  refine r_get M fl_X5_10 dX5_hand_126 rfl rfl ?_
  refine r_getN M fn_X5_62 dX5_hand_129 rfl rfl ?_
  refine r_iload_n M dX5_hand_132 rfl ?_
  refine r_iload_n M dX5_hand_133 rfl ?_
  refine r_V2vu (w' :=  CW kp (sTe d0, to2, sLo d0, sCra d0, ha2, sHe d0, sSt d0, sScn d0, sSc d0, sCr d0, sLi d0, sSf d0, sSb d0, sSe d0, sLa d0) d1 k2 m2 R2 cod len aw op fig pop pmk pen psts ptd (sTe d0, to2, sLo d0, sCra d0, ha2, sHe d0)) M hs lk_X5_120 dX5_hand_134 (by decide +kernel) ⟨Nat.le_of_ble_eq_true rfl, Nat.le_of_ble_eq_true rfl⟩ ⟨rfl, rfl⟩ [4, 5, 6, 7, 8, 9, 10] rfl rfl rfl (by decide +kernel) rfl (Nat.le_of_ble_eq_true rfl) rfl ?_
  refine r_aload_n M dX5_hand_137 rfl ?_
  refine r_get M fl_X5_10 dX5_hand_138 rfl rfl ?_
  refine r_getN M fn_X5_62 dX5_hand_141 rfl rfl ?_
  refine r_getN M fn_X5_134 dX5_hand_144 rfl rfl ?_
  refine r_iload_n M dX5_hand_147 rfl ?_
  refine r_iald M dX5_hand_148 rfl hv ?_
  rw [hc]
  exact r_iret M dX5_hand_149 rfl rfl rfl
def fiD (d : SD) (w tt : Nat) (y : Int32) : SD := (sTe d, sTo d, sLo d, sCra d, sHa d, putH (sHe d) (nI w) (nI tt) y, sSt d, sScn d, sSc d, sCr d, sLi d, sSf d, sSb d, sSe d, sLa d)
def fiW (d : SD) (w tt : Nat) (y : Int32) : WD := (sTe d, sTo d, sLo d, sCra d, sHa d, putH (sHe d) (nI w) (nI tt) y)
theorem c_file (hrm : ∀ j, rm j < 6) (hk : k ≤ 6) (w tt : Nat) (y : Int32) (ht : isTth d0 (nI w) (nI tt) = true) (hy : 0 ≤ y.toInt ∧ y.toInt ≤ 9) (hf : fltB (sTe d0) (sTo d0) (sLo d0) (putH (sHe d0) (nI w) (nI tt) y) 0 (sSe d0) = 0) : Con yX5_file cX5_file 5 (some .int) (rmk 6 150) [.ref 0, .int (nI w), .int (nI tt), .int y] (CW kp d0 d1 k rm R cod len aw op fig pop pmk pen psts ptd t) (some (.int (hAt (sHe d0) (nI w) (nI tt)))) (CW kp (fiD d0 w tt y) d1 (puK k) (puM k rm) (puR k rm R d0) cod len aw op fig pop pmk pen psts ptd (fiW d0 w tt y)) := by
  refine Con.of (own := RX5) (by decide) rfl (Nat.le_of_ble_eq_true rfl) (Eq.trans (b := 95) rfl rfl) (fun B M => ?_)
  have hs := c_putHeight (sTe d0) (sTo d0) (sLo d0) (sCra d0) (sHa d0) (sHe d0) (nI w) (nI tt) y
  rw [fiD, fiW] at M
  generalize putH (sHe d0) (nI w) (nI tt) y = he2 at M hs hf
  refine r_aload_n M dX5_file_0 rfl ?_
  refine r_iload_n M dX5_file_1 rfl ?_
  refine r_iload_n M dX5_file_2 rfl ?_
  refine r_V2ik M (c_isTooth (.ref 30) (.ref 102) (.ref 104) (.ref 41) kp (nI k) d0 t (nI w) (nI tt)) lk_X5_138 dX5_file_3 (by decide +kernel) ⟨Nat.le_of_ble_eq_true rfl, Nat.le_of_ble_eq_true rfl⟩ ⟨rfl, rfl⟩ [0, 1, 2, 3, 4, 5, 6, 7, 8, 9, 10, 21, 88, 89, 90, 91, 92, 93, 94] rfl rfl rfl (by decide +kernel) rfl (Nat.le_of_ble_eq_true rfl) ?_
  rw [ht]
  refine r_if_ne M 19 dX5_file_6 (by decide) (fun _ => ?_) (fun h9 => absurd h9 (by decide))
  refine r_iload_n M dX5_file_19 rfl ?_
  refine r_S1ik M (c_isHeight _) lk_X5_144 dX5_file_20 (by decide +kernel) ⟨Nat.le_of_ble_eq_true rfl, Nat.le_of_ble_eq_true rfl⟩ ⟨rfl, rfl⟩ [] rfl (by decide +kernel) rfl (Nat.le_of_ble_eq_true rfl) ?_
  refine r_if_ne M 36 dX5_file_23 (by decide) (fun _ => ?_) (fun h9 => absurd h9 (by rw [decide_eq_true hy]; decide))
  refine r_aload_n M dX5_file_36 rfl ?_
  refine r_get M fl_X5_47 dX5_file_37 rfl rfl ?_
  refine r_aload_n M dX5_file_40 rfl ?_
  refine r_get M fl_X5_10 dX5_file_41 rfl rfl ?_
  refine r_getN M fn_X5_62 dX5_file_44 rfl rfl ?_
  refine r_V1vu (w' :=  CW kp d0 d1 k rm R cod len aw op fig pop pmk pen psts ptd (sTe d0, sTo d0, sLo d0, sCra d0, sHa d0, sHe d0)) M (c_wcopy t.1 t.2.1 t.2.2.1 t.2.2.2.1 t.2.2.2.2.1 t.2.2.2.2.2 (sTe d0) (sTo d0) (sLo d0) (sCra d0) (sHa d0) (sHe d0)) lk_X5_116 dX5_file_47 (by decide +kernel) ⟨Nat.le_of_ble_eq_true rfl, Nat.le_of_ble_eq_true rfl⟩ ⟨rfl, rfl⟩ [88, 89, 90, 91, 92, 93, 94, 4, 5, 6, 7, 8, 9, 10] rfl rfl rfl (by decide +kernel) rfl (Nat.le_of_ble_eq_true rfl) rfl ?_
  refine r_aload_n M dX5_file_50 rfl ?_
  refine r_get M fl_X5_47 dX5_file_51 rfl rfl ?_
  refine r_iload_n M dX5_file_54 rfl ?_
  refine r_iload_n M dX5_file_55 rfl ?_
  refine r_iload_n M dX5_file_56 rfl ?_
  refine r_V3vu (w' :=  CW kp d0 d1 k rm R cod len aw op fig pop pmk pen psts ptd (sTe d0, sTo d0, sLo d0, sCra d0, sHa d0, he2)) M hs lk_X5_149 dX5_file_57 (by decide +kernel) ⟨Nat.le_of_ble_eq_true rfl, Nat.le_of_ble_eq_true rfl⟩ ⟨rfl, rfl⟩ [88, 89, 90, 91, 92, 93, 94] rfl rfl rfl (by decide +kernel) rfl (Nat.le_of_ble_eq_true rfl) rfl ?_
  refine r_aload_n M dX5_file_60 rfl ?_
  refine r_get M fl_X5_47 dX5_file_61 rfl rfl ?_
  refine r_iconst M 0 dX5_file_64 (by decide) ?_
  refine r_aload_n M dX5_file_65 rfl ?_
  refine r_get M fl_X5_10 dX5_file_66 rfl rfl ?_
  refine r_getN M fn_X5_124 dX5_file_69 rfl rfl ?_
  refine r_V2ik M (c_faultBehind (sTe d0) (sTo d0) (sLo d0) (sCra d0) (sHa d0) he2 0 (sSe d0)) lk_X5_128 dX5_file_72 (by decide +kernel) ⟨Nat.le_of_ble_eq_true rfl, Nat.le_of_ble_eq_true rfl⟩ ⟨rfl, rfl⟩ [88, 89, 90, 91, 92, 93, 94] rfl rfl rfl (by decide +kernel) rfl (Nat.le_of_ble_eq_true rfl) ?_
  refine r_if_eq M 88 dX5_file_75 (by decide) (fun _ => ?_) (fun h9 => absurd hf h9)
  refine r_aload_n M dX5_file_88 rfl ?_
  refine r_get M fl_X5_26 dX5_file_89 rfl rfl ?_
  refine r_aload_n M dX5_file_92 rfl ?_
  refine r_get M fl_X5_10 dX5_file_93 rfl rfl ?_
  refine push_r kp d0 d1 rm R cod len aw op fig pop pmk pen psts ptd (sTe d0, sTo d0, sLo d0, sCra d0, sHa d0, he2) M dX5_file_96 ⟨Nat.le_of_ble_eq_true rfl, Nat.le_of_ble_eq_true rfl⟩ (Nat.le_of_ble_eq_true rfl) hrm k hk ?_
  generalize puK k = k2 at M ⊢
  generalize puM k rm = m2 at M ⊢
  generalize puR k rm R d0 = R2 at M ⊢
  refine r_aload_n M dX5_file_99 rfl ?_
  refine r_get M fl_X5_10 dX5_file_100 rfl rfl ?_
  refine r_getN M fn_X5_62 dX5_file_103 rfl rfl ?_
  refine r_iload_n M dX5_file_106 rfl ?_
  refine r_iload_n M dX5_file_107 rfl ?_
  refine r_V2ik M (c_heightAt (sTe d0) (sTo d0) (sLo d0) (sCra d0) (sHa d0) (sHe d0) (nI w) (nI tt)) lk_X5_153 dX5_file_108 (by decide +kernel) ⟨Nat.le_of_ble_eq_true rfl, Nat.le_of_ble_eq_true rfl⟩ ⟨rfl, rfl⟩ [4, 5, 6, 7, 8, 9, 10] rfl rfl rfl (by decide +kernel) rfl (Nat.le_of_ble_eq_true rfl) ?_
  refine r_istore M dX5_file_111 (by decide) ?_
  refine r_aload_n M dX5_file_113 rfl ?_
  refine r_get M fl_X5_10 dX5_file_114 rfl rfl ?_
  refine r_getN M fn_X5_62 dX5_file_117 rfl rfl ?_
  refine r_iload_n M dX5_file_120 rfl ?_
  refine r_iload_n M dX5_file_121 rfl ?_
  refine r_iload_n M dX5_file_122 rfl ?_
  refine r_V3vu (w' :=  CW kp (sTe d0, sTo d0, sLo d0, sCra d0, sHa d0, he2, sSt d0, sScn d0, sSc d0, sCr d0, sLi d0, sSf d0, sSb d0, sSe d0, sLa d0) d1 k2 m2 R2 cod len aw op fig pop pmk pen psts ptd (sTe d0, sTo d0, sLo d0, sCra d0, sHa d0, he2)) M hs lk_X5_149 dX5_file_123 (by decide +kernel) ⟨Nat.le_of_ble_eq_true rfl, Nat.le_of_ble_eq_true rfl⟩ ⟨rfl, rfl⟩ [4, 5, 6, 7, 8, 9, 10] rfl rfl rfl (by decide +kernel) rfl (Nat.le_of_ble_eq_true rfl) rfl ?_
  refine r_iload M dX5_file_126 rfl ?_
  exact r_iret M dX5_file_128 rfl rfl rfl
theorem c_goBack (hrm : ∀ j, rm j < 6) (hk : k ≤ 6) : Con yX5_goBack cX5_goBack 1 (some .int) (rmk 6 150) [.ref 0] (CW true d0 d1 k rm R cod len aw op fig pop pmk pen psts ptd t) (some (.int (sSc d1))) (CW true d1 d1 (puK k) (puM k rm) (puR k rm R d0) cod len aw op fig pop pmk pen psts ptd t) := by
  refine Con.of (own := RX5) (by decide) rfl (Nat.le_of_ble_eq_true rfl) (Eq.trans (b := 95) rfl rfl) (fun B M => ?_)
  refine r_aload_n M dX5_goBack_0 rfl ?_
  refine r_get M fl_X5_19 dX5_goBack_1 rfl rfl ?_
  refine r_if_ne M 17 dX5_goBack_4 (by decide) (fun _ => ?_) (fun h9 => absurd h9 (by decide))
  refine r_aload_n M dX5_goBack_17 rfl ?_
  refine r_get M fl_X5_26 dX5_goBack_18 rfl rfl ?_
  refine r_aload_n M dX5_goBack_21 rfl ?_
  refine r_get M fl_X5_10 dX5_goBack_22 rfl rfl ?_
  refine push_r true d0 d1 rm R cod len aw op fig pop pmk pen psts ptd t M dX5_goBack_25 ⟨Nat.le_of_ble_eq_true rfl, Nat.le_of_ble_eq_true rfl⟩ (Nat.le_of_ble_eq_true rfl) hrm k hk ?_
  generalize puK k = k2 at M ⊢
  generalize puM k rm = m2 at M ⊢
  generalize puR k rm R d0 = R2 at M ⊢
  refine r_aload_n M dX5_goBack_28 rfl ?_
  refine r_get M fl_X5_10 dX5_goBack_29 rfl rfl ?_
  refine r_aload_n M dX5_goBack_32 rfl ?_
  refine r_get M fl_X5_16 dX5_goBack_33 rfl rfl ?_
  refine r_V1vu (w' :=  CW true d1 d1 k2 m2 R2 cod len aw op fig pop pmk pen psts ptd t) M (c_scopy d0 d1) lk_X5_202 dX5_goBack_36 (by decide +kernel) ⟨Nat.le_of_ble_eq_true rfl, Nat.le_of_ble_eq_true rfl⟩ ⟨rfl, rfl⟩ [1, 2, 3, 4, 5, 6, 7, 8, 9, 10, 11, 12, 13, 14, 15, 16, 17, 18, 19, 20] rfl rfl rfl (by decide +kernel) rfl (Nat.le_of_ble_eq_true rfl) rfl ?_
  refine r_aload_n M dX5_goBack_39 rfl ?_
  refine r_get M fl_X5_10 dX5_goBack_40 rfl rfl ?_
  refine r_getN M fn_X5_164 dX5_goBack_43 rfl rfl ?_
  exact r_iret M dX5_goBack_46 rfl rfl rfl
end
section
variable (kp : Bool) (d0 d1 : SD) (rm : Nat → Nat) (R : Nat → SD) (cod : Nat → Int32) (len aw op fig pop pmk pen : Int32) (psts ptd : Nat → Nat) (t : WD)
set_option maxRecDepth 100000 in
set_option maxHeartbeats 8000000 in
theorem pop_r {cc : ByteArray} {nL : Nat} {ret : Option FieldType} {rmm : Room} {r : Option Value} {w1 : List va_E} {B : KT} (M : MF RX5 cc nL ret rmm r w1 B) {pc : Nat} {lv : List (Nat × Value)} {st : List Value} (hd : decode cc pc = .ok (.invokevirtual 211, 3)) (hR : 3 + 1 ≤ rmm.frames ∧ 8 + (3 + 11) + 84 ≤ rmm.locals) (hst : (st.map (fun v => v.category)).sum ≤ 8)
    (hrm : ∀ j, rm j < 6) (k : Nat) (hk : k < 6) (kk : B (pc + 3) lv st (CW kp (R (rm k)) d1 k rm R cod len aw op fig pop pmk pen psts ptd t)) : B pc lv (.ref 1 :: .ref 21 :: st) (CW kp d0 d1 (k + 1) rm R cod len aw op fig pop pmk pen psts ptd t) := by
  have hc := c_pop (fun j => (some (23 + 10 * rm j)).map (inn PSH)) R d0 k (rm k) hk (hrm k) (by simp only [Option.map_some, psh_m _ (hrm k)])
  refine r_V1vu (q := 21) (w' := CW kp (R (rm k)) d1 k rm R cod len aw op fig pop pmk pen psts ptd t) M hc lk_X5_211 hd (by decide +kernel) hR ⟨rfl, rfl⟩ PSH rfl rfl rfl (by decide +kernel) rfl hst ?_ kk
  rw [putw_mix ([0] ++ rg 62 10) PSH (w0 := HW (nI (k + 1)) (fun j => (some (23 + 10 * rm j)).map (inn PSH)) R ++ SWd 62 d0) rfl (Eq.trans (b := 72) rfl rfl) rfl]
  rfl
theorem c_undo (hrm : ∀ j, rm j < 6) (k : Nat) (hk : k < 6) : Con yX5_undo cX5_undo 1 (some .int) (rmk 6 150) [.ref 0] (CW kp d0 d1 (k + 1) rm R cod len aw op fig pop pmk pen psts ptd t) (some (.int (nI k))) (CW kp (R (rm k)) d1 k rm R cod len aw op fig pop pmk pen psts ptd t) := by
  refine Con.of (own := RX5) (by decide) rfl (Nat.le_of_ble_eq_true rfl) (Eq.trans (b := 95) rfl rfl) (fun B M => ?_)
  refine r_aload_n M dX5_undo_0 rfl ?_
  refine r_get M fl_X5_26 dX5_undo_1 rfl rfl ?_
  refine r_getN M fn_X5_206 dX5_undo_4 rfl rfl ?_
  refine r_if_ne M 20 dX5_undo_7 (by decide) (fun _ => ?_) (fun h9 => absurd h9 (fun z => by rw [show (0 : Int32) = nI 0 from rfl] at z; have := (nI_eq (by omega) (by omega)).mp z; omega))
  refine r_aload_n M dX5_undo_20 rfl ?_
  refine r_get M fl_X5_26 dX5_undo_21 rfl rfl ?_
  refine r_aload_n M dX5_undo_24 rfl ?_
  refine r_get M fl_X5_10 dX5_undo_25 rfl rfl ?_
  refine pop_r kp d0 d1 rm R cod len aw op fig pop pmk pen psts ptd t M dX5_undo_28 ⟨Nat.le_of_ble_eq_true rfl, Nat.le_of_ble_eq_true rfl⟩ (Nat.le_of_ble_eq_true rfl) hrm k hk ?_
  generalize R (rm k) = d9 at M ⊢
  refine r_aload_n M dX5_undo_31 rfl ?_
  refine r_get M fl_X5_26 dX5_undo_32 rfl rfl ?_
  refine r_getN M fn_X5_206 dX5_undo_35 rfl rfl ?_
  exact r_iret M dX5_undo_38 rfl rfl rfl
end


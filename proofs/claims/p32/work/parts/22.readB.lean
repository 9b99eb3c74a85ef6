section
variable (fsn ftx fpf frm : Value) (kp : Bool) (n : Int32) (d : SD) (t : WD)
/-- what count tells -/
def cntD (d : SD) (n x : Int32) : Int32 :=
  if x = 0 then sCr d else if x = 1 then md (sCr d) 60 else if x = 2 then b2i (cau (sSt d) (sCr d) (sLi d)) else if x = 3 then sSf d else if x = 4 then sSb d
  else if x = 5 then sumf (fun j => b2i (sLo d j)) 5 else if x = 6 then sumf (fun j => b2i (sSt d j)) 60 else if x = 7 then sSc d else if x = 8 then sumf (fun j => outI (hB (sTe d) (sTo d) (sLo d) (sHe d) (nI j) 0)) 5
  else if x = 9 then sSe d else if x = 10 then sLa d else if x = 11 then b2i (sLi d) else n
theorem c_count (x : Nat) (hx : x ≤ 12) : Con yX5_count cX5_count 2 (some .int) (rmk 6 150) [.ref 0, .int (nI x)] (RW fsn ftx fpf frm kp n d t) (some (.int (cntD d n (nI x)))) (RW fsn ftx fpf frm kp n d t) := by
  refine Con.of (own := RX5) (by decide) rfl (Nat.le_of_ble_eq_true rfl) rfl (fun B M => ?_)
  refine r_iload_n M dX5_count_0 rfl ?_
  refine r_if_lt M 10 dX5_count_1 (by decide) (fun h9 => absurd h9 (nI_pos (by omega))) (fun _ => ?_)
  refine r_iload_n M dX5_count_4 rfl ?_
  refine r_bipush M 12 dX5_count_5 (by decide) ?_
  refine r_icmp_le M 20 dX5_count_7 (by decide) (fun _ => ?_) (fun h9 => absurd (nI_le (b := 12) hx (by omega)) h9)
  refine r_iload_n M dX5_count_20 rfl ?_
  rcases (show x = 0 ∨ x = 1 ∨ x = 2 ∨ x = 3 ∨ x = 4 ∨ x = 5 ∨ x = 6 ∨ x = 7 ∨ x = 8 ∨ x = 9 ∨ x = 10 ∨ x = 11 ∨ x = 12 by omega) with rfl | rfl | rfl | rfl | rfl | rfl | rfl | rfl | rfl | rfl | rfl | rfl | rfl
  · refine r_tabIn M 84 dX5_count_21 (by decide) (by decide) (off := 63) (by decide) (by decide) ?_
    refine r_aload_n M dX5_count_84 rfl ?_
    refine r_get M fl_X5_10 dX5_count_85 rfl rfl ?_
    refine r_getN M fn_X5_242 dX5_count_88 rfl rfl ?_
    exact r_iret M dX5_count_91 rfl rfl rfl
  · refine r_tabIn M 92 dX5_count_21 (by decide) (by decide) (off := 71) (by decide) (by decide) ?_
    refine r_aload_n M dX5_count_92 rfl ?_
    refine r_get M fl_X5_10 dX5_count_93 rfl rfl ?_
    refine r_V0ik M (c_place _ _ _ (sSc d) (sCr d) (sLi d) (sSf d) (sSb d) (sSe d) (sLa d)) lk_X5_245 dX5_count_96 (by decide +kernel) ⟨Nat.le_of_ble_eq_true rfl, Nat.le_of_ble_eq_true rfl⟩ ⟨rfl, rfl⟩ [1] rfl rfl rfl (by decide +kernel) rfl (Nat.le_of_ble_eq_true rfl) ?_
    exact r_iret M dX5_count_99 rfl rfl rfl
  · refine r_tabIn M 100 dX5_count_21 (by decide) (by decide) (off := 79) (by decide) (by decide) ?_
    refine r_aload_n M dX5_count_100 rfl ?_
    refine r_get M fl_X5_10 dX5_count_101 rfl rfl ?_
    refine r_V0ik M (c_isCaught _ _ (sSc d) (sCr d) (sLi d) (sSf d) (sSb d) (sSe d) (sLa d) (sSt d)) lk_X5_73 dX5_count_104 (by decide +kernel) ⟨Nat.le_of_ble_eq_true rfl, Nat.le_of_ble_eq_true rfl⟩ ⟨rfl, rfl⟩ [1, 2] rfl rfl rfl (by decide +kernel) rfl (Nat.le_of_ble_eq_true rfl) ?_
    refine r_S1ik M (c_toNumber _) lk_X5_77 dX5_count_107 (by decide +kernel) ⟨Nat.le_of_ble_eq_true rfl, Nat.le_of_ble_eq_true rfl⟩ ⟨rfl, rfl⟩ [] rfl (by decide +kernel) rfl (Nat.le_of_ble_eq_true rfl) ?_
    exact r_iret M dX5_count_110 rfl rfl rfl
  · refine r_tabIn M 111 dX5_count_21 (by decide) (by decide) (off := 90) (by decide) (by decide) ?_
    refine r_aload_n M dX5_count_111 rfl ?_
    refine r_get M fl_X5_10 dX5_count_112 rfl rfl ?_
    refine r_getN M fn_X5_248 dX5_count_115 rfl rfl ?_
    exact r_iret M dX5_count_118 rfl rfl rfl
  · refine r_tabIn M 119 dX5_count_21 (by decide) (by decide) (off := 98) (by decide) (by decide) ?_
    refine r_aload_n M dX5_count_119 rfl ?_
    refine r_get M fl_X5_10 dX5_count_120 rfl rfl ?_
    refine r_getN M fn_X5_251 dX5_count_123 rfl rfl ?_
    exact r_iret M dX5_count_126 rfl rfl rfl
  · refine r_tabIn M 127 dX5_count_21 (by decide) (by decide) (off := 106) (by decide) (by decide) ?_
    refine r_aload_n M dX5_count_127 rfl ?_
    refine r_get M fl_X5_10 dX5_count_128 rfl rfl ?_
    refine r_getN M fn_X5_62 dX5_count_131 rfl rfl ?_
    refine r_V0ik M (c_countLocked (sTe d) (sTo d) (sLo d) (sCra d) (sHa d) (sHe d)) lk_X5_254 dX5_count_134 (by decide +kernel) ⟨Nat.le_of_ble_eq_true rfl, Nat.le_of_ble_eq_true rfl⟩ ⟨rfl, rfl⟩ [4, 5, 6, 7, 8, 9, 10] rfl rfl rfl (by decide +kernel) rfl (Nat.le_of_ble_eq_true rfl) ?_
    exact r_iret M dX5_count_137 rfl rfl rfl
  · refine r_tabIn M 138 dX5_count_21 (by decide) (by decide) (off := 117) (by decide) (by decide) ?_
    refine r_aload_n M dX5_count_138 rfl ?_
    refine r_get M fl_X5_10 dX5_count_139 rfl rfl ?_
    refine r_V0ik M (c_countStops _ _ (sSc d) (sCr d) (sLi d) (sSf d) (sSb d) (sSe d) (sLa d) (sSt d)) lk_X5_93 dX5_count_142 (by decide +kernel) ⟨Nat.le_of_ble_eq_true rfl, Nat.le_of_ble_eq_true rfl⟩ ⟨rfl, rfl⟩ [1, 2] rfl rfl rfl (by decide +kernel) rfl (Nat.le_of_ble_eq_true rfl) ?_
    exact r_iret M dX5_count_145 rfl rfl rfl
  · refine r_tabIn M 146 dX5_count_21 (by decide) (by decide) (off := 125) (by decide) (by decide) ?_
    refine r_aload_n M dX5_count_146 rfl ?_
    refine r_get M fl_X5_10 dX5_count_147 rfl rfl ?_
    refine r_getN M fn_X5_164 dX5_count_150 rfl rfl ?_
    exact r_iret M dX5_count_153 rfl rfl rfl
  · refine r_tabIn M 154 dX5_count_21 (by decide) (by decide) (off := 133) (by decide) (by decide) ?_
    refine r_aload_n M dX5_count_154 rfl ?_
    refine r_get M fl_X5_10 dX5_count_155 rfl rfl ?_
    refine r_getN M fn_X5_62 dX5_count_158 rfl rfl ?_
    refine r_V0ik M (c_countOut (sTe d) (sTo d) (sLo d) (sCra d) (sHa d) (sHe d)) lk_X5_257 dX5_count_161 (by decide +kernel) ⟨Nat.le_of_ble_eq_true rfl, Nat.le_of_ble_eq_true rfl⟩ ⟨rfl, rfl⟩ [4, 5, 6, 7, 8, 9, 10] rfl rfl rfl (by decide +kernel) rfl (Nat.le_of_ble_eq_true rfl) ?_
    exact r_iret M dX5_count_164 rfl rfl rfl
  · refine r_tabIn M 165 dX5_count_21 (by decide) (by decide) (off := 144) (by decide) (by decide) ?_
    refine r_aload_n M dX5_count_165 rfl ?_
    refine r_get M fl_X5_10 dX5_count_166 rfl rfl ?_
    refine r_getN M fn_X5_124 dX5_count_169 rfl rfl ?_
    exact r_iret M dX5_count_172 rfl rfl rfl
  · refine r_tabIn M 173 dX5_count_21 (by decide) (by decide) (off := 152) (by decide) (by decide) ?_
    refine r_aload_n M dX5_count_173 rfl ?_
    refine r_get M fl_X5_10 dX5_count_174 rfl rfl ?_
    refine r_getN M fn_X5_260 dX5_count_177 rfl rfl ?_
    exact r_iret M dX5_count_180 rfl rfl rfl
  · refine r_tabIn M 181 dX5_count_21 (by decide) (by decide) (off := 160) (by decide) (by decide) ?_
    refine r_aload_n M dX5_count_181 rfl ?_
    refine r_get M fl_X5_10 dX5_count_182 rfl rfl ?_
    refine r_getN M fn_X5_81 dX5_count_185 rfl rfl ?_
    refine r_S1ik M (c_toNumber _) lk_X5_77 dX5_count_188 (by decide +kernel) ⟨Nat.le_of_ble_eq_true rfl, Nat.le_of_ble_eq_true rfl⟩ ⟨rfl, rfl⟩ [] rfl (by decide +kernel) rfl (Nat.le_of_ble_eq_true rfl) ?_
    exact r_iret M dX5_count_191 rfl rfl rfl
  · refine r_tabOut M 192 dX5_count_21 (by decide) (by decide) ?_
    refine r_aload_n M dX5_count_192 rfl ?_
    refine r_get M fl_X5_26 dX5_count_193 rfl rfl ?_
    refine r_getN M fn_X5_206 dX5_count_196 rfl rfl ?_
    exact r_iret M dX5_count_199 rfl rfl rfl
/-- what wheel tells -/
def whlD (d : SD) (w x : Int32) : Int32 :=
  if x = 0 then sTe d w.toNatClampNeg else if x = 1 then sTo d w.toNatClampNeg else if x = 2 then md (sCra d w.toNatClampNeg + sHa d w.toNatClampNeg) (sTe d w.toNatClampNeg)
  else if x = 3 then hB (sTe d) (sTo d) (sLo d) (sHe d) w 0 else if x = 4 then b2i (sLo d w.toNatClampNeg) else if x = 5 then outI (hB (sTe d) (sTo d) (sLo d) (sHe d) w 0)
  else sumf (fun j => outI (hAt (sHe d) w (nI j))) (sTe d w.toNatClampNeg).toNatClampNeg
theorem c_wheel (w : Int32) (hw : vp_in w 5) (hte : teOk (sTe d)) (x : Nat) (hx : x ≤ 6) : Con yX5_wheel cX5_wheel 3 (some .int) (rmk 6 150) [.ref 0, .int w, .int (nI x)] (RW fsn ftx fpf frm kp n d t) (some (.int (whlD d w (nI x)))) (RW fsn ftx fpf frm kp n d t) := by
  refine Con.of (own := RX5) (by decide) rfl (Nat.le_of_ble_eq_true rfl) rfl (fun B M => ?_)
  have hw5 : w.toNatClampNeg < 5 := by
    obtain ⟨j, hj, rfl⟩ := vp_in_of hw (by omega)
    rw [nI_clamp (by omega)]; exact hj
  refine r_iload_n M dX5_wheel_0 rfl ?_
  refine r_S1ik M (c_isWheel _) lk_X5_97 dX5_wheel_1 (by decide +kernel) ⟨Nat.le_of_ble_eq_true rfl, Nat.le_of_ble_eq_true rfl⟩ ⟨rfl, rfl⟩ [] rfl (by decide +kernel) rfl (Nat.le_of_ble_eq_true rfl) ?_
  refine r_if_ne M 17 dX5_wheel_4 (by decide) (fun _ => ?_) (fun h9 => absurd h9 (by rw [iswh_iff.mpr hw]; decide))
  refine r_iload_n M dX5_wheel_17 rfl ?_
  refine r_if_lt M 27 dX5_wheel_18 (by decide) (fun h9 => absurd h9 (nI_pos (by omega))) (fun _ => ?_)
  refine r_iload_n M dX5_wheel_21 rfl ?_
  refine r_bipush M 6 dX5_wheel_22 (by decide) ?_
  refine r_icmp_le M 37 dX5_wheel_24 (by decide) (fun _ => ?_) (fun h9 => absurd (nI_le (b := 6) hx (by omega)) h9)
  refine r_iload_n M dX5_wheel_37 rfl ?_
  rcases (show x = 0 ∨ x = 1 ∨ x = 2 ∨ x = 3 ∨ x = 4 ∨ x = 5 ∨ x = 6 by omega) with rfl | rfl | rfl | rfl | rfl | rfl | rfl
  · refine r_tabIn M 76 dX5_wheel_38 (by decide) (by decide) (off := 38) (by decide) (by decide) ?_
    refine r_aload_n M dX5_wheel_76 rfl ?_
    refine r_get M fl_X5_10 dX5_wheel_77 rfl rfl ?_
    refine r_getN M fn_X5_62 dX5_wheel_80 rfl rfl ?_
    refine r_getN M fn_X5_158 dX5_wheel_83 rfl rfl ?_
    refine r_iload_n M dX5_wheel_86 rfl ?_
    refine r_iald M dX5_wheel_87 rfl hw ?_
    exact r_iret M dX5_wheel_88 rfl rfl rfl
  · refine r_tabIn M 89 dX5_wheel_38 (by decide) (by decide) (off := 51) (by decide) (by decide) ?_
    refine r_aload_n M dX5_wheel_89 rfl ?_
    refine r_get M fl_X5_10 dX5_wheel_90 rfl rfl ?_
    refine r_getN M fn_X5_62 dX5_wheel_93 rfl rfl ?_
    refine r_getN M fn_X5_134 dX5_wheel_96 rfl rfl ?_
    refine r_iload_n M dX5_wheel_99 rfl ?_
    refine r_iald M dX5_wheel_100 rfl hw ?_
    exact r_iret M dX5_wheel_101 rfl rfl rfl
  · refine r_tabIn M 102 dX5_wheel_38 (by decide) (by decide) (off := 64) (by decide) (by decide) ?_
    refine r_aload_n M dX5_wheel_102 rfl ?_
    refine r_get M fl_X5_10 dX5_wheel_103 rfl rfl ?_
    refine r_getN M fn_X5_62 dX5_wheel_106 rfl rfl ?_
    refine r_iload_n M dX5_wheel_109 rfl ?_
    refine r_V1ik M (c_topByDeeds (sTe d) (sTo d) (sLo d) (sCra d) (sHa d) (sHe d) _ hw) lk_X5_216 dX5_wheel_110 (by decide +kernel) ⟨Nat.le_of_ble_eq_true rfl, Nat.le_of_ble_eq_true rfl⟩ ⟨rfl, rfl⟩ [4, 5, 6, 7, 8, 9, 10] rfl rfl rfl (by decide +kernel) rfl (Nat.le_of_ble_eq_true rfl) ?_
    exact r_iret M dX5_wheel_113 rfl rfl rfl
  · refine r_tabIn M 114 dX5_wheel_38 (by decide) (by decide) (off := 76) (by decide) (by decide) ?_
    refine r_aload_n M dX5_wheel_114 rfl ?_
    refine r_get M fl_X5_10 dX5_wheel_115 rfl rfl ?_
    refine r_getN M fn_X5_62 dX5_wheel_118 rfl rfl ?_
    refine r_iload_n M dX5_wheel_121 rfl ?_
    refine r_iconst M 0 dX5_wheel_122 (by decide) ?_
    refine r_V2ik M (c_heightBehind (sTe d) (sTo d) (sLo d) (sCra d) (sHa d) (sHe d) _ _ hw) lk_X5_220 dX5_wheel_123 (by decide +kernel) ⟨Nat.le_of_ble_eq_true rfl, Nat.le_of_ble_eq_true rfl⟩ ⟨rfl, rfl⟩ [4, 5, 6, 7, 8, 9, 10] rfl rfl rfl (by decide +kernel) rfl (Nat.le_of_ble_eq_true rfl) ?_
    exact r_iret M dX5_wheel_126 rfl rfl rfl
  · refine r_tabIn M 127 dX5_wheel_38 (by decide) (by decide) (off := 89) (by decide) (by decide) ?_
    refine r_aload_n M dX5_wheel_127 rfl ?_
    refine r_get M fl_X5_10 dX5_wheel_128 rfl rfl ?_
    refine r_getN M fn_X5_62 dX5_wheel_131 rfl rfl ?_
    refine r_getN M fn_X5_106 dX5_wheel_134 rfl rfl ?_
    refine r_iload_n M dX5_wheel_137 rfl ?_
    refine r_zald M dX5_wheel_138 rfl hw ?_
    refine r_S1ik M (c_toNumber _) lk_X5_77 dX5_wheel_139 (by decide +kernel) ⟨Nat.le_of_ble_eq_true rfl, Nat.le_of_ble_eq_true rfl⟩ ⟨rfl, rfl⟩ [] rfl (by decide +kernel) rfl (Nat.le_of_ble_eq_true rfl) ?_
    exact r_iret M dX5_wheel_142 rfl rfl rfl
  · have go : ∀ b : Bool, b = decide (5 ≤ hB (sTe d) (sTo d) (sLo d) (sHe d) w 0) → B 164 [(0, .ref 0), (1, .int w), (2, .int (nI 5))] [.int (b2i b)] (RW fsn ftx fpf frm kp n d t) := by
      intro b hb
      refine r_S1ik M (c_toNumber _) lk_X5_77 dX5_wheel_164 (by decide +kernel) ⟨Nat.le_of_ble_eq_true rfl, Nat.le_of_ble_eq_true rfl⟩ ⟨rfl, rfl⟩ [] rfl (by decide +kernel) rfl (Nat.le_of_ble_eq_true rfl) ?_
      exact r_iret M dX5_wheel_167 rfl (by rw [hb]; rfl) rfl
    refine r_tabIn M 143 dX5_wheel_38 (by decide) (by decide) (off := 105) (by decide) (by decide) ?_
    refine r_aload_n M dX5_wheel_143 rfl ?_
    refine r_get M fl_X5_10 dX5_wheel_144 rfl rfl ?_
    refine r_getN M fn_X5_62 dX5_wheel_147 rfl rfl ?_
    refine r_iload_n M dX5_wheel_150 rfl ?_
    refine r_iconst M 0 dX5_wheel_151 (by decide) ?_
    refine r_V2ik M (c_heightBehind (sTe d) (sTo d) (sLo d) (sCra d) (sHa d) (sHe d) _ _ hw) lk_X5_220 dX5_wheel_152 (by decide +kernel) ⟨Nat.le_of_ble_eq_true rfl, Nat.le_of_ble_eq_true rfl⟩ ⟨rfl, rfl⟩ [4, 5, 6, 7, 8, 9, 10] rfl rfl rfl (by decide +kernel) rfl (Nat.le_of_ble_eq_true rfl) ?_
    refine r_iconst M 5 dX5_wheel_155 (by decide) ?_
    refine r_icmp_lt M 163 dX5_wheel_156 (by decide) (fun h => ?_) (fun h => ?_)
    · refine r_iconst M 0 dX5_wheel_163 (by decide) ?_
      exact go false (by rw [decide_eq_false (nle5.mp h)])
    · refine r_iconst M 1 dX5_wheel_159 (by decide) ?_
      refine r_goto M 164 dX5_wheel_160 (by decide) ?_
      exact go true (by rw [nle5, Decidable.not_not] at h; rw [decide_eq_true h])
  · obtain ⟨m, h1, h2, h3⟩ := hte _ hw5
    refine r_tabOut M 168 dX5_wheel_38 (by decide) (by decide) ?_
    refine r_aload_n M dX5_wheel_168 rfl ?_
    refine r_get M fl_X5_10 dX5_wheel_169 rfl rfl ?_
    refine r_getN M fn_X5_62 dX5_wheel_172 rfl rfl ?_
    refine r_iload_n M dX5_wheel_175 rfl ?_
    refine r_V1ik M (c_countHighTeeth (sTe d) (sTo d) (sLo d) (sCra d) (sHa d) (sHe d) _ hw m h2 h3) lk_X5_223 dX5_wheel_176 (by decide +kernel) ⟨Nat.le_of_ble_eq_true rfl, Nat.le_of_ble_eq_true rfl⟩ ⟨rfl, rfl⟩ [4, 5, 6, 7, 8, 9, 10] rfl rfl rfl (by decide +kernel) rfl (Nat.le_of_ble_eq_true rfl) ?_
    exact r_iret M dX5_wheel_179 rfl (by simp only [whlD]; rw [if_neg (by decide), if_neg (by decide), if_neg (by decide), if_neg (by decide), if_neg (by decide), if_neg (by decide), h3, nI_clamp (by omega)]) rfl
/-- what scene tells -/
def scnD (d : SD) (a x : Int32) : Int32 :=
  if x = 5 then b2i (asSc (sTe d) (sTo d) (sLo d) (sHe d) (sScn d) a 0) else if x = 6 then b2i (decide (fltOf (hSc (sScn d) a 0) (hSc (sScn d) a 1) (hSc (sScn d) a 2) (hSc (sScn d) a 3) (hSc (sScn d) a 4) (sSe d) = 0))
  else if x = 7 then untG d a (rN (sTe d) (sLo d) 5) 0 else hSc (sScn d) a x
theorem c_scene (a : Int32) (hok : 0 ≤ a.toInt ∧ a < sSc d) (hte : teOk (sTe d)) (x : Nat) (hx : x ≤ 7) : Con yX5_scene cX5_scene 3 (some .int) (rmk 6 150) [.ref 0, .int a, .int (nI x)] (RW fsn ftx fpf frm kp n d t) (some (.int (scnD d a (nI x)))) (RW fsn ftx fpf frm kp n d t) := by
  refine Con.of (own := RX5) (by decide) rfl (Nat.le_of_ble_eq_true rfl) rfl (fun B M => ?_)
  refine r_aload_n M dX5_scene_0 rfl ?_
  refine r_iload_n M dX5_scene_1 rfl ?_
  refine r_V1ik M (c_isScene _ _ _ _ kp n d t a) lk_X5_172 dX5_scene_2 (by decide +kernel) ⟨Nat.le_of_ble_eq_true rfl, Nat.le_of_ble_eq_true rfl⟩ ⟨rfl, rfl⟩ [0, 1, 2, 3, 4, 5, 6, 7, 8, 9, 10, 11, 12, 13, 14, 15, 16, 17, 18] rfl rfl rfl (by decide +kernel) rfl (Nat.le_of_ble_eq_true rfl) ?_
  refine r_if_ne M 18 dX5_scene_5 (by decide) (fun _ => ?_) (fun h9 => absurd h9 (by rw [decide_eq_true hok]; decide))
  refine r_iload_n M dX5_scene_18 rfl ?_
  refine r_if_lt M 28 dX5_scene_19 (by decide) (fun h9 => absurd h9 (nI_pos (by omega))) (fun _ => ?_)
  refine r_iload_n M dX5_scene_22 rfl ?_
  refine r_bipush M 7 dX5_scene_23 (by decide) ?_
  refine r_icmp_le M 38 dX5_scene_25 (by decide) (fun _ => ?_) (fun h9 => absurd (nI_le (b := 7) hx (by omega)) h9)
  refine r_iload_n M dX5_scene_38 rfl ?_
  have other : x < 5 → B 103 [(0, .ref 0), (1, .int a), (2, .int (nI x))] [] (RW fsn ftx fpf frm kp n d t) := by
    intro h5
    refine r_aload_n M dX5_scene_103 rfl ?_
    refine r_get M fl_X5_10 dX5_scene_104 rfl rfl ?_
    refine r_iload_n M dX5_scene_107 rfl ?_
    refine r_iload_n M dX5_scene_108 rfl ?_
    refine r_V2ik M (c_heightInScene _ _ (sSc d) (sCr d) (sLi d) (sSf d) (sSb d) (sSe d) (sLa d) (sScn d) _ _) lk_X5_237 dX5_scene_109 (by decide +kernel) ⟨Nat.le_of_ble_eq_true rfl, Nat.le_of_ble_eq_true rfl⟩ ⟨rfl, rfl⟩ [1, 3] rfl rfl rfl (by decide +kernel) rfl (Nat.le_of_ble_eq_true rfl) ?_
    exact r_iret M dX5_scene_112 rfl (by rcases (show x = 0 ∨ x = 1 ∨ x = 2 ∨ x = 3 ∨ x = 4 by omega) with rfl | rfl | rfl | rfl | rfl <;> rfl) rfl
  rcases (show x < 5 ∨ x = 5 ∨ x = 6 ∨ x = 7 by omega) with h5 | rfl | rfl | rfl
  · refine r_tabOut M 103 dX5_scene_39 (Or.inl (by rw [nI_toInt (by omega)]; omega)) (by decide) ?_
    exact other h5
  · refine r_tabIn M 64 dX5_scene_39 (by decide) (by decide) (off := 25) (by decide) (by decide) ?_
    refine r_aload_n M dX5_scene_64 rfl ?_
    refine r_get M fl_X5_10 dX5_scene_65 rfl rfl ?_
    refine r_iload_n M dX5_scene_68 rfl ?_
    refine r_iconst M 0 dX5_scene_69 (by decide) ?_
    refine r_V2ik M (c_isSceneBehind _ (sSc d) (sCr d) (sLi d) (sSf d) (sSb d) (sSe d) (sLa d) (sScn d) (sTe d) (sTo d) (sLo d) (sCra d) (sHa d) (sHe d) _ _) lk_X5_228 dX5_scene_70 (by decide +kernel) ⟨Nat.le_of_ble_eq_true rfl, Nat.le_of_ble_eq_true rfl⟩ ⟨rfl, rfl⟩ [1, 3, 4, 5, 6, 7, 8, 9, 10] rfl rfl rfl (by decide +kernel) rfl (Nat.le_of_ble_eq_true rfl) ?_
    refine r_S1ik M (c_toNumber _) lk_X5_77 dX5_scene_73 (by decide +kernel) ⟨Nat.le_of_ble_eq_true rfl, Nat.le_of_ble_eq_true rfl⟩ ⟨rfl, rfl⟩ [] rfl (by decide +kernel) rfl (Nat.le_of_ble_eq_true rfl) ?_
    exact r_iret M dX5_scene_76 rfl rfl rfl
  · have go : ∀ b : Bool, b = decide (fltOf (hSc (sScn d) a 0) (hSc (sScn d) a 1) (hSc (sScn d) a 2) (hSc (sScn d) a 3) (hSc (sScn d) a 4) (sSe d) = 0) → B 93 [(0, .ref 0), (1, .int a), (2, .int (nI 6))] [.int (b2i b)] (RW fsn ftx fpf frm kp n d t) := by
      intro b hb
      refine r_S1ik M (c_toNumber _) lk_X5_77 dX5_scene_93 (by decide +kernel) ⟨Nat.le_of_ble_eq_true rfl, Nat.le_of_ble_eq_true rfl⟩ ⟨rfl, rfl⟩ [] rfl (by decide +kernel) rfl (Nat.le_of_ble_eq_true rfl) ?_
      exact r_iret M dX5_scene_96 rfl (by rw [hb]; rfl) rfl
    refine r_tabIn M 77 dX5_scene_39 (by decide) (by decide) (off := 38) (by decide) (by decide) ?_
    refine r_aload_n M dX5_scene_77 rfl ?_
    refine r_get M fl_X5_10 dX5_scene_78 rfl rfl ?_
    refine r_iload_n M dX5_scene_81 rfl ?_
    refine r_V1ik M (c_faultOfScene _ _ (sSc d) (sCr d) (sLi d) (sSf d) (sSb d) (sSe d) (sLa d) (sScn d) _) lk_X5_231 dX5_scene_82 (by decide +kernel) ⟨Nat.le_of_ble_eq_true rfl, Nat.le_of_ble_eq_true rfl⟩ ⟨rfl, rfl⟩ [1, 3] rfl rfl rfl (by decide +kernel) rfl (Nat.le_of_ble_eq_true rfl) ?_
    refine r_if_ne M 92 dX5_scene_85 (by decide) (fun h => ?_) (fun h => ?_)
    · refine r_iconst M 0 dX5_scene_92 (by decide) ?_
      exact go false (by rw [decide_eq_false h])
    · refine r_iconst M 1 dX5_scene_88 (by decide) ?_
      refine r_goto M 93 dX5_scene_89 (by decide) ?_
      exact go true (by rw [decide_eq_true (by simpa using h)])
  · refine r_tabIn M 97 dX5_scene_39 (by decide) (by decide) (off := 58) (by decide) (by decide) ?_
    refine r_aload_n M dX5_scene_97 rfl ?_
    refine r_iload_n M dX5_scene_98 rfl ?_
    refine r_V1ik M (c_stepsToScene _ _ _ _ kp n d t a hte) lk_X5_234 dX5_scene_99 (by decide +kernel) ⟨Nat.le_of_ble_eq_true rfl, Nat.le_of_ble_eq_true rfl⟩ ⟨rfl, rfl⟩ [0, 1, 2, 3, 4, 5, 6, 7, 8, 9, 10, 11, 12, 13, 14, 15, 16, 17, 18] rfl rfl rfl (by decide +kernel) rfl (Nat.le_of_ble_eq_true rfl) ?_
    exact r_iret M dX5_scene_102 rfl rfl rfl
end


theorem why_rng (d : SD) (x : Int32) : whyD d x = 0 ∨ 0 < whyD d x := by
  have h := flt_rng (hB (sTe d) (sTo d) (sLo d) (sHe d) 0 x) (hB (sTe d) (sTo d) (sLo d) (sHe d) 1 x) (hB (sTe d) (sTo d) (sLo d) (sHe d) 2 x) (hB (sTe d) (sTo d) (sLo d) (sHe d) 3 x) (hB (sTe d) (sTo d) (sLo d) (sHe d) 4 x) (sSe d)
  rw [whyD, whyS, fltB]
  rcases h with h | h | h
  · rw [h, if_neg (by decide)]
    split
    · right; decide
    · split
      · right; decide
      · left; rfl
  · rw [h, if_pos (by decide)]; right; decide
  · rw [h, if_pos (by decide)]; right; decide
section
variable (th ln at9 pt nm op : Int32) (kp : Bool) (hs : Int64) (s tx bg tm : Nat → Int32) (sv : Int32)
theorem c_counted {d : SD} (hR : Rp s d) (hO : SOk d) (hD : DOk d) (x : Nat) (hx : x ≤ 12) : Con yX6_counted cX6_counted 2 (some .int) (rmk 5 114) [.ref 0, .int (nI x)] (MW th sv ln at9 pt nm op kp hs s tx bg tm) (some (.int (cntD d sv (nI x)))) (MW th sv ln at9 pt nm op kp hs s tx bg tm) := by
  refine Con.of (own := RX6) (by decide) rfl (Nat.le_of_ble_eq_true rfl) rfl (fun B M => ?_)
  refine r_iload_n M dX6_counted_0 rfl ?_
  rcases (show x = 0 ∨ x = 1 ∨ x = 2 ∨ x = 3 ∨ x = 4 ∨ x = 5 ∨ x = 6 ∨ x = 7 ∨ x = 8 ∨ x = 9 ∨ x = 10 ∨ x = 11 ∨ x = 12 by omega) with rfl | rfl | rfl | rfl | rfl | rfl | rfl | rfl | rfl | rfl | rfl | rfl | rfl
  · refine r_tabIn M 64 dX6_counted_1 (by decide) (by decide) (off := 63) (by decide) (by decide) ?_
    refine r_aload_n M dX6_counted_64 rfl ?_
    refine r_get M fl_X6_7 dX6_counted_65 rfl rfl ?_
    refine r_bipush M 76 dX6_counted_68 (by decide) ?_
    refine r_iald M dX6_counted_70 rfl (s_in (j := 76) (by omega)) ?_
    rw [show (76 : Int32).toNatClampNeg = 76 from rfl, show s 76 = sCr d from hR.2.2.2.2.2.1]
    exact r_iret M dX6_counted_71 rfl rfl rfl
  · refine r_tabIn M 72 dX6_counted_1 (by decide) (by decide) (off := 71) (by decide) (by decide) ?_
    refine r_aload_n M dX6_counted_72 rfl ?_
    refine r_V0ik M (c_mPlace th sv ln at9 pt nm op kp hs s tx bg tm hR) lk_X6_41 dX6_counted_73 (by decide +kernel) ⟨Nat.le_of_ble_eq_true rfl, Nat.le_of_ble_eq_true rfl⟩ ⟨rfl, rfl⟩ [0, 1, 2, 3, 4] rfl rfl rfl (by decide +kernel) rfl (Nat.le_of_ble_eq_true rfl) ?_
    exact r_iret M dX6_counted_76 rfl rfl rfl
  · refine r_tabIn M 77 dX6_counted_1 (by decide) (by decide) (off := 76) (by decide) (by decide) ?_
    refine r_aload_n M dX6_counted_77 rfl ?_
    refine r_V0ik M (c_mIsCaught th sv ln at9 pt nm op kp hs s tx bg tm hR) lk_X6_45 dX6_counted_78 (by decide +kernel) ⟨Nat.le_of_ble_eq_true rfl, Nat.le_of_ble_eq_true rfl⟩ ⟨rfl, rfl⟩ [0, 1, 2, 3, 4] rfl rfl rfl (by decide +kernel) rfl (Nat.le_of_ble_eq_true rfl) ?_
    rw [show cntD d sv (nI 2) = b2i (cau (sSt d) (sCr d) (sLi d)) from rfl] at M
    cases h : cau (sSt d) (sCr d) (sLi d)
    · rw [h] at M
      refine r_if_eq M 88 dX6_counted_81 (by decide) (fun _ => ?_) (fun h9 => absurd rfl h9)
      refine r_iconst M 0 dX6_counted_88 (by decide) ?_
      exact r_iret M dX6_counted_89 rfl rfl rfl
    · rw [h] at M
      refine r_if_eq M 88 dX6_counted_81 (by decide) (fun h9 => absurd h9 (by decide)) (fun _ => ?_)
      refine r_iconst M 1 dX6_counted_84 (by decide) ?_
      refine r_goto M 89 dX6_counted_85 (by decide) ?_
      exact r_iret M dX6_counted_89 rfl rfl rfl
  · refine r_tabIn M 90 dX6_counted_1 (by decide) (by decide) (off := 89) (by decide) (by decide) ?_
    refine r_aload_n M dX6_counted_90 rfl ?_
    refine r_get M fl_X6_7 dX6_counted_91 rfl rfl ?_
    refine r_bipush M 78 dX6_counted_94 (by decide) ?_
    refine r_iald M dX6_counted_96 rfl (s_in (j := 78) (by omega)) ?_
    rw [show (78 : Int32).toNatClampNeg = 78 from rfl, show s 78 = sSf d from hR.2.2.2.2.2.2.2.1]
    exact r_iret M dX6_counted_97 rfl rfl rfl
  · refine r_tabIn M 98 dX6_counted_1 (by decide) (by decide) (off := 97) (by decide) (by decide) ?_
    refine r_aload_n M dX6_counted_98 rfl ?_
    refine r_get M fl_X6_7 dX6_counted_99 rfl rfl ?_
    refine r_bipush M 79 dX6_counted_102 (by decide) ?_
    refine r_iald M dX6_counted_104 rfl (s_in (j := 79) (by omega)) ?_
    rw [show (79 : Int32).toNatClampNeg = 79 from rfl, show s 79 = sSb d from hR.2.2.2.2.2.2.2.2.1]
    exact r_iret M dX6_counted_105 rfl rfl rfl
  · refine r_tabIn M 106 dX6_counted_1 (by decide) (by decide) (off := 105) (by decide) (by decide) ?_
    refine r_aload_n M dX6_counted_106 rfl ?_
    refine r_iconst M 4 dX6_counted_107 (by decide) ?_
    refine r_V1ik M (c_mWheels th sv ln at9 pt nm op kp hs s tx bg tm hR hO hD 4 (by omega)) lk_X6_154 dX6_counted_108 (by decide +kernel) ⟨Nat.le_of_ble_eq_true rfl, Nat.le_of_ble_eq_true rfl⟩ ⟨rfl, rfl⟩ [0, 1, 2, 3, 4] rfl rfl rfl (by decide +kernel) rfl (Nat.le_of_ble_eq_true rfl) ?_
    exact r_iret M dX6_counted_111 rfl (by rw [sumf_congr (g := fun j => b2i (sLo d j)) (fun j hj => whl_lo d j hj)]; rfl) rfl
  · refine r_tabIn M 112 dX6_counted_1 (by decide) (by decide) (off := 111) (by decide) (by decide) ?_
    refine r_aload_n M dX6_counted_112 rfl ?_
    refine r_V0ik M (c_mStops th sv ln at9 pt nm op kp hs s tx bg tm hR) lk_X6_73 dX6_counted_113 (by decide +kernel) ⟨Nat.le_of_ble_eq_true rfl, Nat.le_of_ble_eq_true rfl⟩ ⟨rfl, rfl⟩ [0, 1, 2, 3, 4] rfl rfl rfl (by decide +kernel) rfl (Nat.le_of_ble_eq_true rfl) ?_
    exact r_iret M dX6_counted_116 rfl rfl rfl
  · refine r_tabIn M 117 dX6_counted_1 (by decide) (by decide) (off := 116) (by decide) (by decide) ?_
    refine r_aload_n M dX6_counted_117 rfl ?_
    refine r_get M fl_X6_7 dX6_counted_118 rfl rfl ?_
    refine r_bipush M 81 dX6_counted_121 (by decide) ?_
    refine r_iald M dX6_counted_123 rfl (s_in (j := 81) (by omega)) ?_
    rw [show (81 : Int32).toNatClampNeg = 81 from rfl, show s 81 = sSc d from hR.2.2.2.2.2.2.2.2.2.2.1]
    exact r_iret M dX6_counted_124 rfl rfl rfl
  · refine r_tabIn M 125 dX6_counted_1 (by decide) (by decide) (off := 124) (by decide) (by decide) ?_
    refine r_aload_n M dX6_counted_125 rfl ?_
    refine r_iconst M 5 dX6_counted_126 (by decide) ?_
    refine r_V1ik M (c_mWheels th sv ln at9 pt nm op kp hs s tx bg tm hR hO hD 5 (by omega)) lk_X6_154 dX6_counted_127 (by decide +kernel) ⟨Nat.le_of_ble_eq_true rfl, Nat.le_of_ble_eq_true rfl⟩ ⟨rfl, rfl⟩ [0, 1, 2, 3, 4] rfl rfl rfl (by decide +kernel) rfl (Nat.le_of_ble_eq_true rfl) ?_
    exact r_iret M dX6_counted_130 rfl (by rw [sumf_congr (g := fun j => outI (hB (sTe d) (sTo d) (sLo d) (sHe d) (nI j) 0)) (fun j hj => whl_out d (nI j))]; rfl) rfl
  · refine r_tabIn M 131 dX6_counted_1 (by decide) (by decide) (off := 130) (by decide) (by decide) ?_
    refine r_aload_n M dX6_counted_131 rfl ?_
    refine r_get M fl_X6_7 dX6_counted_132 rfl rfl ?_
    refine r_bipush M 75 dX6_counted_135 (by decide) ?_
    refine r_iald M dX6_counted_137 rfl (s_in (j := 75) (by omega)) ?_
    rw [show (75 : Int32).toNatClampNeg = 75 from rfl, show s 75 = sSe d from hR.2.2.2.2.1]
    exact r_iret M dX6_counted_138 rfl rfl rfl
  · refine r_tabIn M 139 dX6_counted_1 (by decide) (by decide) (off := 138) (by decide) (by decide) ?_
    refine r_aload_n M dX6_counted_139 rfl ?_
    refine r_get M fl_X6_7 dX6_counted_140 rfl rfl ?_
    refine r_bipush M 80 dX6_counted_143 (by decide) ?_
    refine r_iald M dX6_counted_145 rfl (s_in (j := 80) (by omega)) ?_
    rw [show (80 : Int32).toNatClampNeg = 80 from rfl, show s 80 = sLa d from hR.2.2.2.2.2.2.2.2.2.1]
    exact r_iret M dX6_counted_146 rfl rfl rfl
  · refine r_tabIn M 147 dX6_counted_1 (by decide) (by decide) (off := 146) (by decide) (by decide) ?_
    refine r_aload_n M dX6_counted_147 rfl ?_
    refine r_get M fl_X6_7 dX6_counted_148 rfl rfl ?_
    refine r_bipush M 77 dX6_counted_151 (by decide) ?_
    refine r_iald M dX6_counted_153 rfl (s_in (j := 77) (by omega)) ?_
    rw [show (77 : Int32).toNatClampNeg = 77 from rfl, show s 77 = b2i (sLi d) from hR.2.2.2.2.2.2.1]
    exact r_iret M dX6_counted_154 rfl rfl rfl
  · refine r_tabOut M 155 dX6_counted_1 (by decide) (by decide) ?_
    refine r_aload_n M dX6_counted_155 rfl ?_
    refine r_get M fl_X6_56 dX6_counted_156 rfl rfl ?_
    exact r_iret M dX6_counted_159 rfl rfl rfl
theorem c_mCountF (x : Int32) (h : btw x 0 12 = false) : Con yX6_count cX6_count 2 (some .int) (rmk 6 135) [.ref 0, .int x] (MW th sv ln at9 pt nm op kp hs s tx bg tm) (some (.int 0)) (MW 1 sv ln at9 pt nm op kp hs s tx bg tm) := by
  refine Con.of (own := RX6) (by decide) rfl (Nat.le_of_ble_eq_true rfl) rfl (fun B M => ?_)
  refine r_aload_n M dX6_count_0 rfl ?_
  refine r_iload_n M dX6_count_1 rfl ?_
  refine r_iconst M 0 dX6_count_2 (by decide) ?_
  refine r_bipush M 12 dX6_count_3 (by decide) ?_
  refine r_S3ik M (c_in _ _ _) lk_X6_26 dX6_count_5 (by decide +kernel) ⟨Nat.le_of_ble_eq_true rfl, Nat.le_of_ble_eq_true rfl⟩ ⟨rfl, rfl⟩ [] rfl (by decide +kernel) rfl (Nat.le_of_ble_eq_true rfl) ?_
  rw [h]
  refine r_if_eq M 15 dX6_count_8 (by decide) (fun _ => ?_) (fun h9 => absurd rfl h9)
  refine r_iconst M 1 dX6_count_15 (by decide) ?_
  refine r_V1iu (w' :=  MW 1 sv ln at9 pt nm op kp hs s tx bg tm) M (c_holds th sv ln at9 pt nm op kp hs s tx bg tm 1) lk_X6_63 dX6_count_16 (by decide +kernel) ⟨Nat.le_of_ble_eq_true rfl, Nat.le_of_ble_eq_true rfl⟩ ⟨rfl, rfl⟩ [0, 1, 2, 3, 4] rfl rfl rfl (by decide +kernel) rfl (Nat.le_of_ble_eq_true rfl) rfl ?_
  refine r_if_eq M 30 dX6_count_19 (by decide) (fun _ => ?_) (fun h9 => absurd (by decide) h9)
  refine r_iconst M 0 dX6_count_30 (by decide) ?_
  exact r_iret M dX6_count_31 rfl rfl rfl
theorem c_mCount {d : SD} (hR : Rp s d) (hO : SOk d) (hD : DOk d) (x : Nat) (hx : x ≤ 12) : Con yX6_count cX6_count 2 (some .int) (rmk 6 135) [.ref 0, .int (nI x)] (MW th sv ln at9 pt nm op kp hs s tx bg tm) (some (.int (cntD d sv (nI x)))) (MW 0 sv ln at9 pt nm op kp hs s tx bg tm) := by
  refine Con.of (own := RX6) (by decide) rfl (Nat.le_of_ble_eq_true rfl) rfl (fun B M => ?_)
  refine r_aload_n M dX6_count_0 rfl ?_
  refine r_iload_n M dX6_count_1 rfl ?_
  refine r_iconst M 0 dX6_count_2 (by decide) ?_
  refine r_bipush M 12 dX6_count_3 (by decide) ?_
  refine r_S3ik M (c_in _ _ _) lk_X6_26 dX6_count_5 (by decide +kernel) ⟨Nat.le_of_ble_eq_true rfl, Nat.le_of_ble_eq_true rfl⟩ ⟨rfl, rfl⟩ [] rfl (by decide +kernel) rfl (Nat.le_of_ble_eq_true rfl) ?_
  rw [show btw (nI x) 0 12 = true from btw_nI (a := 0) (b := 12) (by omega) (by omega) (by omega)]
  refine r_if_eq M 15 dX6_count_8 (by decide) (fun h9 => absurd h9 (by decide)) (fun _ => ?_)
  refine r_iconst M 0 dX6_count_11 (by decide) ?_
  refine r_goto M 16 dX6_count_12 (by decide) ?_
  refine r_V1iu (w' :=  MW 0 sv ln at9 pt nm op kp hs s tx bg tm) M (c_holds th sv ln at9 pt nm op kp hs s tx bg tm 0) lk_X6_63 dX6_count_16 (by decide +kernel) ⟨Nat.le_of_ble_eq_true rfl, Nat.le_of_ble_eq_true rfl⟩ ⟨rfl, rfl⟩ [0, 1, 2, 3, 4] rfl rfl rfl (by decide +kernel) rfl (Nat.le_of_ble_eq_true rfl) rfl ?_
  refine r_if_eq M 30 dX6_count_19 (by decide) (fun h9 => absurd h9 (by decide)) (fun _ => ?_)
  refine r_aload_n M dX6_count_22 rfl ?_
  refine r_iload_n M dX6_count_23 rfl ?_
  refine r_V1ik M (c_counted 0 ln at9 pt nm op kp hs s tx bg tm sv hR hO hD x hx) lk_X6_157 dX6_count_24 (by decide +kernel) ⟨Nat.le_of_ble_eq_true rfl, Nat.le_of_ble_eq_true rfl⟩ ⟨rfl, rfl⟩ [0, 1, 2, 3, 4] rfl rfl rfl (by decide +kernel) rfl (Nat.le_of_ble_eq_true rfl) ?_
  refine r_goto M 31 dX6_count_27 (by decide) ?_
  exact r_iret M dX6_count_31 rfl rfl rfl
theorem c_jams {d : SD} (hR : Rp s d) (hO : SOk d) (x : Int32) (hx : x = 0 ∨ x = 1) : Con yX6_jams cX6_jams 4 (some .int) (rmk 3 71) [.ref 0, .int x] (MW th sv ln at9 pt nm op kp hs s tx bg tm) (some (.int (jamG d (if x = 0 then 1 else -1) (rN (sTe d) (sLo d) 5) 1))) (MW th sv ln at9 pt nm op kp hs s tx bg tm) := by
  refine Con.of (own := RX6) (by decide) rfl (Nat.le_of_ble_eq_true rfl) rfl (fun B M => ?_)
  have hb := rN_lt (sLo d) hO.te
  have hr := c_mRounds th sv ln at9 pt nm op kp hs s tx bg tm hR hO
  generalize rN (sTe d) (sLo d) 5 = n at M hb hr
  have loop : ∀ m k : Nat, k + m = n + 1 → jamG d (if x = 0 then 1 else -1) n 1 = jamG d (if x = 0 then 1 else -1) m k → B 7 [(0, .ref 0), (1, .int x), (2, .int (nI n)), (3, .int (nI k))] [] (MW th sv ln at9 pt nm op kp hs s tx bg tm) := by
    intro m
    induction m with
    | zero =>
      intro k hk he
      rw [jamG] at he
      rw [he] at M
      refine r_iload_n M dX6_jams_7 rfl ?_
      refine r_iload_n M dX6_jams_8 rfl ?_
      refine r_icmp_gt M 40 dX6_jams_9 (by decide) (fun _ => ?_) (fun h9 => absurd (nI_lt (by omega) (by omega)) h9)
      refine r_iconst M (-1) dX6_jams_40 (by decide) ?_
      exact r_iret M dX6_jams_41 rfl rfl rfl
    | succ m ih =>
      intro k hk he
      rw [jamG] at he
      have go : B 23 [(0, .ref 0), (1, .int x), (2, .int (nI n)), (3, .int (nI k))] [.int ((if x = 0 then 1 else -1) * nI k), .ref 0] (MW th sv ln at9 pt nm op kp hs s tx bg tm) := by
        have hq := c_reason th sv ln at9 pt nm op kp hs s tx bg tm hR hO ((if x = 0 then 1 else -1) * nI k) (-1) (sLo d) (fun w h5 => lo_all d h5)
        have hr3 := flt_rng (hB (sTe d) (sTo d) (sLo d) (sHe d) 0 ((if x = 0 then 1 else -1) * nI k)) (hB (sTe d) (sTo d) (sLo d) (sHe d) 1 ((if x = 0 then 1 else -1) * nI k)) (hB (sTe d) (sTo d) (sLo d) (sHe d) 2 ((if x = 0 then 1 else -1) * nI k)) (hB (sTe d) (sTo d) (sLo d) (sHe d) 3 ((if x = 0 then 1 else -1) * nI k)) (hB (sTe d) (sTo d) (sLo d) (sHe d) 4 ((if x = 0 then 1 else -1) * nI k)) (sSe d)
        rw [← fltB] at hr3
        generalize fltB (sTe d) (sTo d) (sLo d) (sHe d) ((if x = 0 then 1 else -1) * nI k) (sSe d) = f9 at he hq hr3
        refine r_iconst M (-1) dX6_jams_23 (by decide) ?_
        refine r_V2ik M hq lk_X6_38 dX6_jams_24 (by decide +kernel) ⟨Nat.le_of_ble_eq_true rfl, Nat.le_of_ble_eq_true rfl⟩ ⟨rfl, rfl⟩ [0, 1, 2, 3, 4] rfl rfl rfl (by decide +kernel) rfl (Nat.le_of_ble_eq_true rfl) ?_
        by_cases h : f9 = 0
        · rw [if_pos h] at he
          subst h
          refine r_if_le M 34 dX6_jams_27 (by decide) (fun _ => ?_) (fun h9 => absurd (by decide) h9)
          refine r_iinc1 M dX6_jams_34 rfl (by decide) ?_
          refine r_goto M 7 dX6_jams_37 (by decide) ?_
          refine r_lvs M _ (lvs_c rfl (lvs_c rfl (lvs_c rfl (lvs_c ?_ lvs_n)))) (ih (k + 1) (by omega) he)
          rw [← nI_1 k]; rfl
        · rw [if_neg h] at he
          rw [he] at M
          refine r_if_le M 34 dX6_jams_27 (by decide) (fun h9 => absurd h9 (by rcases hr3 with r | r | r; exact absurd r h; (rw [r]; decide); (rw [r]; decide))) (fun _ => ?_)
          refine r_iload_n M dX6_jams_30 rfl ?_
          refine r_iconst M 1 dX6_jams_31 (by decide) ?_
          refine r_isub M dX6_jams_32 ?_
          exact r_iret M dX6_jams_33 rfl rfl rfl
      refine r_iload_n M dX6_jams_7 rfl ?_
      refine r_iload_n M dX6_jams_8 rfl ?_
      refine r_icmp_gt M 40 dX6_jams_9 (by decide) (fun h9 => absurd h9 (nI_nlt (by omega) (by omega))) (fun _ => ?_)
      refine r_aload_n M dX6_jams_12 rfl ?_
      refine r_iload_n M dX6_jams_13 rfl ?_
      rcases hx with rfl | rfl
      · rw [if_pos rfl, Int32.one_mul] at go
        refine r_if_ne M 21 dX6_jams_14 (by decide) (fun h9 => absurd rfl h9) (fun _ => ?_)
        refine r_iload_n M dX6_jams_17 rfl ?_
        refine r_goto M 23 dX6_jams_18 (by decide) ?_
        exact go
      · rw [if_neg (by decide), show (-1 : Int32) * nI k = -(nI k) from by rw [Int32.neg_mul, Int32.one_mul]] at go
        refine r_if_ne M 21 dX6_jams_14 (by decide) (fun _ => ?_) (fun h9 => absurd h9 (by decide))
        refine r_iload_n M dX6_jams_21 rfl ?_
        refine r_ineg M dX6_jams_22 ?_
        exact go
  refine r_aload_n M dX6_jams_0 rfl ?_
  refine r_V0ik M hr lk_X6_139 dX6_jams_1 (by decide +kernel) ⟨Nat.le_of_ble_eq_true rfl, Nat.le_of_ble_eq_true rfl⟩ ⟨rfl, rfl⟩ [0, 1, 2, 3, 4] rfl rfl rfl (by decide +kernel) rfl (Nat.le_of_ble_eq_true rfl) ?_
  refine r_istore_n M dX6_jams_4 (by decide) ?_
  refine r_iconst M 1 dX6_jams_5 (by decide) ?_
  refine r_istore_n M dX6_jams_6 (by decide) ?_
  exact r_lvs M _ (lvs_c rfl (lvs_c rfl (lvs_c rfl (lvs_c rfl lvs_n)))) (loop n 1 (by omega) rfl)
theorem c_mJamsIn {d : SD} (hR : Rp s d) (hO : SOk d) (x : Int32) (hx : x = 0 ∨ x = 1) : Con yX6_jamsIn cX6_jamsIn 2 (some .int) (rmk 4 94) [.ref 0, .int x] (MW th sv ln at9 pt nm op kp hs s tx bg tm) (some (.int (jamG d (if x = 0 then 1 else -1) (rN (sTe d) (sLo d) 5) 1))) (MW 0 sv ln at9 pt nm op kp hs s tx bg tm) := by
  refine Con.of (own := RX6) (by decide) rfl (Nat.le_of_ble_eq_true rfl) rfl (fun B M => ?_)
  refine r_aload_n M dX6_jamsIn_0 rfl ?_
  refine r_iload_n M dX6_jamsIn_1 rfl ?_
  refine r_S1ik M (c_isWay _) lk_X6_160 dX6_jamsIn_2 (by decide +kernel) ⟨Nat.le_of_ble_eq_true rfl, Nat.le_of_ble_eq_true rfl⟩ ⟨rfl, rfl⟩ [] rfl (by decide +kernel) rfl (Nat.le_of_ble_eq_true rfl) ?_
  rw [btw_way hx]
  refine r_if_eq M 12 dX6_jamsIn_5 (by decide) (fun h9 => absurd h9 (by decide)) (fun _ => ?_)
  refine r_iconst M 0 dX6_jamsIn_8 (by decide) ?_
  refine r_goto M 13 dX6_jamsIn_9 (by decide) ?_
  refine r_V1iu (w' :=  MW 0 sv ln at9 pt nm op kp hs s tx bg tm) M (c_holds th sv ln at9 pt nm op kp hs s tx bg tm 0) lk_X6_63 dX6_jamsIn_13 (by decide +kernel) ⟨Nat.le_of_ble_eq_true rfl, Nat.le_of_ble_eq_true rfl⟩ ⟨rfl, rfl⟩ [0, 1, 2, 3, 4] rfl rfl rfl (by decide +kernel) rfl (Nat.le_of_ble_eq_true rfl) rfl ?_
  refine r_if_eq M 27 dX6_jamsIn_16 (by decide) (fun h9 => absurd h9 (by decide)) (fun _ => ?_)
  refine r_aload_n M dX6_jamsIn_19 rfl ?_
  refine r_iload_n M dX6_jamsIn_20 rfl ?_
  refine r_V1ik M (c_jams 0 ln at9 pt nm op kp hs s tx bg tm sv hR hO x hx) lk_X6_163 dX6_jamsIn_21 (by decide +kernel) ⟨Nat.le_of_ble_eq_true rfl, Nat.le_of_ble_eq_true rfl⟩ ⟨rfl, rfl⟩ [0, 1, 2, 3, 4] rfl rfl rfl (by decide +kernel) rfl (Nat.le_of_ble_eq_true rfl) ?_
  refine r_goto M 28 dX6_jamsIn_24 (by decide) ?_
  exact r_iret M dX6_jamsIn_28 rfl rfl rfl
theorem c_mAheadF (c : Int32) (hc0 : ¬ c = 0) (x y : Int32) (h : (btw y 0 4 = false ∧ c = 1) ∨ (btw y 0 4 = true ∧ btw x (-9999) 9999 = false ∧ c = 2)) : Con yX6_ahead cX6_ahead 3 (some .int) (rmk 2 46) [.ref 0, .int x, .int y] (MW th sv ln at9 pt nm op kp hs s tx bg tm) (some (.int 0)) (MW c sv ln at9 pt nm op kp hs s tx bg tm) := by
  refine Con.of (own := RX6) (by decide) rfl (Nat.le_of_ble_eq_true rfl) rfl (fun B M => ?_)
  have go : B 30 [(0, .ref 0), (1, .int x), (2, .int y)] [.int c, .ref 0] (MW th sv ln at9 pt nm op kp hs s tx bg tm) := by
    refine r_V1iu (w' :=  MW c sv ln at9 pt nm op kp hs s tx bg tm) M (c_holds th sv ln at9 pt nm op kp hs s tx bg tm c) lk_X6_63 dX6_ahead_30 (by decide +kernel) ⟨Nat.le_of_ble_eq_true rfl, Nat.le_of_ble_eq_true rfl⟩ ⟨rfl, rfl⟩ [0, 1, 2, 3, 4] rfl rfl rfl (by decide +kernel) rfl (Nat.le_of_ble_eq_true rfl) rfl ?_
    rw [decide_eq_false hc0]
    refine r_if_eq M 46 dX6_ahead_33 (by decide) (fun _ => ?_) (fun h9 => absurd rfl h9)
    refine r_iconst M 0 dX6_ahead_46 (by decide) ?_
    exact r_iret M dX6_ahead_47 rfl rfl rfl
  refine r_aload_n M dX6_ahead_0 rfl ?_
  refine r_iload_n M dX6_ahead_1 rfl ?_
  refine r_S1ik M (c_mIsWheel _) lk_X6_76 dX6_ahead_2 (by decide +kernel) ⟨Nat.le_of_ble_eq_true rfl, Nat.le_of_ble_eq_true rfl⟩ ⟨rfl, rfl⟩ [] rfl (by decide +kernel) rfl (Nat.le_of_ble_eq_true rfl) ?_
  rcases h with ⟨h, rfl⟩ | ⟨h, h2, rfl⟩
  · rw [h]
    refine r_if_ne M 12 dX6_ahead_5 (by decide) (fun h9 => absurd rfl h9) (fun _ => ?_)
    refine r_iconst M 1 dX6_ahead_8 (by decide) ?_
    refine r_goto M 30 dX6_ahead_9 (by decide) ?_
    exact go
  · rw [h]
    refine r_if_ne M 12 dX6_ahead_5 (by decide) (fun _ => ?_) (fun h9 => absurd h9 (by decide))
    refine r_iload_n M dX6_ahead_12 rfl ?_
    refine r_sipush M (-9999) dX6_ahead_13 (by decide) ?_
    refine r_sipush M 9999 dX6_ahead_16 (by decide) ?_
    refine r_S3ik M (c_in _ _ _) lk_X6_26 dX6_ahead_19 (by decide +kernel) ⟨Nat.le_of_ble_eq_true rfl, Nat.le_of_ble_eq_true rfl⟩ ⟨rfl, rfl⟩ [] rfl (by decide +kernel) rfl (Nat.le_of_ble_eq_true rfl) ?_
    rw [h2]
    refine r_if_ne M 29 dX6_ahead_22 (by decide) (fun h9 => absurd rfl h9) (fun _ => ?_)
    refine r_iconst M 2 dX6_ahead_25 (by decide) ?_
    refine r_goto M 30 dX6_ahead_26 (by decide) ?_
    exact go
theorem c_mAhead {d : SD} (hR : Rp s d) (hO : SOk d) (w : Nat) (h5 : w < 5) (x : Int32) (hx : btw x (-9999) 9999 = true) : Con yX6_ahead cX6_ahead 3 (some .int) (rmk 2 46) [.ref 0, .int x, .int (nI w)] (MW th sv ln at9 pt nm op kp hs s tx bg tm) (some (.int (hB (sTe d) (sTo d) (sLo d) (sHe d) (nI w) x))) (MW 0 sv ln at9 pt nm op kp hs s tx bg tm) := by
  refine Con.of (own := RX6) (by decide) rfl (Nat.le_of_ble_eq_true rfl) rfl (fun B M => ?_)
  refine r_aload_n M dX6_ahead_0 rfl ?_
  refine r_iload_n M dX6_ahead_1 rfl ?_
  refine r_S1ik M (c_mIsWheel _) lk_X6_76 dX6_ahead_2 (by decide +kernel) ⟨Nat.le_of_ble_eq_true rfl, Nat.le_of_ble_eq_true rfl⟩ ⟨rfl, rfl⟩ [] rfl (by decide +kernel) rfl (Nat.le_of_ble_eq_true rfl) ?_
  rw [show btw (nI w) 0 4 = true from btw_nI (a := 0) (b := 4) (by omega) (by omega) (by omega)]
  refine r_if_ne M 12 dX6_ahead_5 (by decide) (fun _ => ?_) (fun h9 => absurd h9 (by decide))
  refine r_iload_n M dX6_ahead_12 rfl ?_
  refine r_sipush M (-9999) dX6_ahead_13 (by decide) ?_
  refine r_sipush M 9999 dX6_ahead_16 (by decide) ?_
  refine r_S3ik M (c_in _ _ _) lk_X6_26 dX6_ahead_19 (by decide +kernel) ⟨Nat.le_of_ble_eq_true rfl, Nat.le_of_ble_eq_true rfl⟩ ⟨rfl, rfl⟩ [] rfl (by decide +kernel) rfl (Nat.le_of_ble_eq_true rfl) ?_
  rw [hx]
  refine r_if_ne M 29 dX6_ahead_22 (by decide) (fun _ => ?_) (fun h9 => absurd h9 (by decide))
  refine r_iconst M 0 dX6_ahead_29 (by decide) ?_
  refine r_V1iu (w' :=  MW 0 sv ln at9 pt nm op kp hs s tx bg tm) M (c_holds th sv ln at9 pt nm op kp hs s tx bg tm 0) lk_X6_63 dX6_ahead_30 (by decide +kernel) ⟨Nat.le_of_ble_eq_true rfl, Nat.le_of_ble_eq_true rfl⟩ ⟨rfl, rfl⟩ [0, 1, 2, 3, 4] rfl rfl rfl (by decide +kernel) rfl (Nat.le_of_ble_eq_true rfl) rfl ?_
  refine r_if_eq M 46 dX6_ahead_33 (by decide) (fun h9 => absurd h9 (by decide)) (fun _ => ?_)
  refine r_aload_n M dX6_ahead_36 rfl ?_
  refine r_iload_n M dX6_ahead_37 rfl ?_
  refine r_iload_n M dX6_ahead_38 rfl ?_
  refine r_iconst M (-1) dX6_ahead_39 (by decide) ?_
  refine r_V3ik M (c_mHeightAt 0 sv ln at9 pt nm op kp hs s tx bg tm hR hO w h5 x (-1) (sLo d) (lo_all d h5)) lk_X6_34 dX6_ahead_40 (by decide +kernel) ⟨Nat.le_of_ble_eq_true rfl, Nat.le_of_ble_eq_true rfl⟩ ⟨rfl, rfl⟩ [0, 1, 2, 3, 4] rfl rfl rfl (by decide +kernel) rfl (Nat.le_of_ble_eq_true rfl) ?_
  refine r_goto M 47 dX6_ahead_43 (by decide) ?_
  exact r_iret M dX6_ahead_47 rfl rfl rfl
theorem c_freeing {d : SD} (hR : Rp s d) (hO : SOk d) (x : Int32) (hx : x = 0 ∨ x = 1) : Con yX6_freeing cX6_freeing 4 (some .int) (rmk 4 94) [.ref 0, .int x] (MW th sv ln at9 pt nm op kp hs s tx bg tm) (some (.int (freD d (if x = 0 then 1 else -1)))) (MW th sv ln at9 pt nm op kp hs s tx bg tm) := by
  refine Con.of (own := RX6) (by decide) rfl (Nat.le_of_ble_eq_true rfl) rfl (fun B M => ?_)
  have hy := way1 hx
  generalize (if x = 0 then (1 : Int32) else -1) = y at M hy
  have hw : Con yX6_whyNot cX6_whyNot 4 (some .int) (rmk 3 71) [.ref 0, .int y, .int (-1)] (MW th sv ln at9 pt nm op kp hs s tx bg tm) (some (.int (whyD d y))) (MW th sv ln at9 pt nm op kp hs s tx bg tm) := c_whyNot th sv ln at9 pt nm op kp hs s tx bg tm hR hO y (-1) (sLo d) (fun w h5 => lo_all d h5)
  have loop : ∀ r k : Nat, k + r = 5 → freD d y = (if whyD d y = 0 then -1 else freG d y r k) → B 8 [(0, .ref 0), (1, .int x), (2, .int y), (3, .int (nI k))] [] (MW th sv ln at9 pt nm op kp hs s tx bg tm) := by
    intro r
    induction r with
    | zero =>
      intro k hk he
      obtain rfl : k = 5 := by omega
      have he2 : freD d y = -1 := by rw [he, freG]; split <;> rfl
      rw [he2] at M
      refine r_iload_n M dX6_freeing_8 rfl ?_
      refine r_iconst M 5 dX6_freeing_9 (by decide) ?_
      refine r_icmp_ge M 52 dX6_freeing_10 (by decide) (fun _ => ?_) (fun h9 => absurd (nI_geT (n := 5) rfl (by omega) (by omega)) h9)
      refine r_iconst M (-1) dX6_freeing_52 (by decide) ?_
      exact r_iret M dX6_freeing_53 rfl rfl rfl
    | succ r ih =>
      intro k hk he
      refine r_iload_n M dX6_freeing_8 rfl ?_
      refine r_iconst M 5 dX6_freeing_9 (by decide) ?_
      refine r_icmp_ge M 52 dX6_freeing_10 (by decide) (fun h9 => absurd h9 (nI_geF (n := 5) rfl (by omega) (by omega))) (fun _ => ?_)
      refine r_aload_n M dX6_freeing_13 rfl ?_
      refine r_iload_n M dX6_freeing_14 rfl ?_
      refine r_iconst M (-1) dX6_freeing_15 (by decide) ?_
      refine r_V2ik M hw lk_X6_49 dX6_freeing_16 (by decide +kernel) ⟨Nat.le_of_ble_eq_true rfl, Nat.le_of_ble_eq_true rfl⟩ ⟨rfl, rfl⟩ [0, 1, 2, 3, 4] rfl rfl rfl (by decide +kernel) rfl (Nat.le_of_ble_eq_true rfl) ?_
      rcases why_rng d y with h | h
      · rw [if_pos h] at he
        rw [he] at M
        refine r_if_le M 52 dX6_freeing_19 (by decide) (fun _ => ?_) (fun h9 => absurd (by rw [h]; decide) h9)
        refine r_iconst M (-1) dX6_freeing_52 (by decide) ?_
        exact r_iret M dX6_freeing_53 rfl rfl rfl
      · have h0 : ¬ whyD d y = 0 := fun e => by rw [e] at h; exact absurd h (by decide)
        rw [if_neg h0, freG] at he
        have nx : freD d y = freG d y r (k + 1) → B 46 [(0, .ref 0), (1, .int x), (2, .int y), (3, .int (nI k))] [] (MW th sv ln at9 pt nm op kp hs s tx bg tm) := by
          intro e
          refine r_iinc1 M dX6_freeing_46 rfl (by decide) ?_
          refine r_goto M 8 dX6_freeing_49 (by decide) ?_
          refine r_lvs M _ (lvs_c rfl (lvs_c rfl (lvs_c rfl (lvs_c ?_ lvs_n)))) (ih (k + 1) (by omega) (by rw [if_neg h0]; exact e))
          rw [← nI_1 k]; rfl
        refine r_if_le M 52 dX6_freeing_19 (by decide) (fun h9 => absurd h9 (Int32.not_le.mpr h)) (fun _ => ?_)
        refine r_aload_n M dX6_freeing_22 rfl ?_
        refine r_get M fl_X6_7 dX6_freeing_23 rfl rfl ?_
        refine r_bipush M 10 dX6_freeing_26 (by decide) ?_
        refine r_iload_n M dX6_freeing_28 rfl ?_
        refine r_iadd M dX6_freeing_29 ?_
        rw [show (10 : Int32) + nI k = nI (10 + k) from nI_add 10 k]
        refine r_iald M dX6_freeing_30 rfl (s_in (by omega)) ?_
        rw [cl_s (by omega), hR.2.2.1 k (by omega)]
        refine r_iconst M 1 dX6_freeing_31 (by decide) ?_
        cases hl : sLo d k
        · rw [if_neg (by rw [hl]; decide)] at he
          refine r_icmp_ne M 46 dX6_freeing_32 (by decide) (fun _ => ?_) (fun h9 => absurd h9 (by decide))
          exact nx he
        · rw [if_pos hl] at he
          have hk2 := c_whyNot th sv ln at9 pt nm op kp hs s tx bg tm hR hO y (nI k) (va_up (sLo d) k (!(sLo d) k)) (fun w h5 => by
            by_cases e : w = k
            · subst e
              rw [va_up_self, hl, decide_eq_true rfl]; rfl
            · rw [va_up_ne _ _ e, decide_eq_false (fun z => e ((nI_eq (by omega) (by omega)).mp z))]
              simp)
          refine r_icmp_ne M 46 dX6_freeing_32 (by decide) (fun h9 => absurd rfl h9) (fun _ => ?_)
          refine r_aload_n M dX6_freeing_35 rfl ?_
          refine r_iload_n M dX6_freeing_36 rfl ?_
          refine r_iload_n M dX6_freeing_37 rfl ?_
          refine r_V2ik M hk2 lk_X6_49 dX6_freeing_38 (by decide +kernel) ⟨Nat.le_of_ble_eq_true rfl, Nat.le_of_ble_eq_true rfl⟩ ⟨rfl, rfl⟩ [0, 1, 2, 3, 4] rfl rfl rfl (by decide +kernel) rfl (Nat.le_of_ble_eq_true rfl) ?_
          by_cases hq9 : whyF d k y = 0
          · rw [if_pos hq9] at he
            rw [he] at M
            refine r_if_ne M 46 dX6_freeing_41 (by decide) (fun h9 => absurd hq9 h9) (fun _ => ?_)
            refine r_iload_n M dX6_freeing_44 rfl ?_
            exact r_iret M dX6_freeing_45 rfl rfl rfl
          · rw [if_neg hq9] at he
            refine r_if_ne M 46 dX6_freeing_41 (by decide) (fun _ => ?_) (fun h9 => absurd h9 hq9)
            exact nx he
  have l0 := loop 5 0 rfl rfl
  refine r_iconst M 1 dX6_freeing_0 (by decide) ?_
  refine r_iconst M 2 dX6_freeing_1 (by decide) ?_
  refine r_iload_n M dX6_freeing_2 rfl ?_
  refine r_imul M dX6_freeing_3 ?_
  refine r_isub M dX6_freeing_4 ?_
  rw [hy]
  refine r_istore_n M dX6_freeing_5 (by decide) ?_
  refine r_iconst M 0 dX6_freeing_6 (by decide) ?_
  refine r_istore_n M dX6_freeing_7 (by decide) ?_
  exact r_lvs M _ (lvs_c rfl (lvs_c rfl (lvs_c rfl (lvs_c rfl lvs_n)))) l0
theorem c_mFrees {d : SD} (hR : Rp s d) (hO : SOk d) (x : Int32) (hx : x = 0 ∨ x = 1) : Con yX6_frees cX6_frees 2 (some .int) (rmk 5 117) [.ref 0, .int x] (MW th sv ln at9 pt nm op kp hs s tx bg tm) (some (.int (freD d (if x = 0 then 1 else -1)))) (MW 0 sv ln at9 pt nm op kp hs s tx bg tm) := by
  refine Con.of (own := RX6) (by decide) rfl (Nat.le_of_ble_eq_true rfl) rfl (fun B M => ?_)
  refine r_aload_n M dX6_frees_0 rfl ?_
  refine r_iload_n M dX6_frees_1 rfl ?_
  refine r_S1ik M (c_isWay _) lk_X6_160 dX6_frees_2 (by decide +kernel) ⟨Nat.le_of_ble_eq_true rfl, Nat.le_of_ble_eq_true rfl⟩ ⟨rfl, rfl⟩ [] rfl (by decide +kernel) rfl (Nat.le_of_ble_eq_true rfl) ?_
  rw [btw_way hx]
  refine r_if_eq M 12 dX6_frees_5 (by decide) (fun h9 => absurd h9 (by decide)) (fun _ => ?_)
  refine r_iconst M 0 dX6_frees_8 (by decide) ?_
  refine r_goto M 13 dX6_frees_9 (by decide) ?_
  refine r_V1iu (w' :=  MW 0 sv ln at9 pt nm op kp hs s tx bg tm) M (c_holds th sv ln at9 pt nm op kp hs s tx bg tm 0) lk_X6_63 dX6_frees_13 (by decide +kernel) ⟨Nat.le_of_ble_eq_true rfl, Nat.le_of_ble_eq_true rfl⟩ ⟨rfl, rfl⟩ [0, 1, 2, 3, 4] rfl rfl rfl (by decide +kernel) rfl (Nat.le_of_ble_eq_true rfl) rfl ?_
  refine r_if_eq M 27 dX6_frees_16 (by decide) (fun h9 => absurd h9 (by decide)) (fun _ => ?_)
  refine r_aload_n M dX6_frees_19 rfl ?_
  refine r_iload_n M dX6_frees_20 rfl ?_
  refine r_V1ik M (c_freeing 0 ln at9 pt nm op kp hs s tx bg tm sv hR hO x hx) lk_X6_166 dX6_frees_21 (by decide +kernel) ⟨Nat.le_of_ble_eq_true rfl, Nat.le_of_ble_eq_true rfl⟩ ⟨rfl, rfl⟩ [0, 1, 2, 3, 4] rfl rfl rfl (by decide +kernel) rfl (Nat.le_of_ble_eq_true rfl) ?_
  refine r_goto M 28 dX6_frees_24 (by decide) ?_
  exact r_iret M dX6_frees_28 rfl rfl rfl
theorem c_mShare {d : SD} (hR : Rp s d) (hO : SOk d) (hnan : vf_n64 (shD d)) : Con yX6_share cX6_share 4 (some .double) (rmk 3 71) [.ref 0] (MW th sv ln at9 pt nm op kp hs s tx bg tm) (some (.double (shD d))) (MW th sv ln at9 pt nm op kp hs s tx bg tm) := by
  refine Con.of (own := RX6) (by decide) rfl (Nat.le_of_ble_eq_true rfl) rfl (fun B M => ?_)
  have hb := rN_lt (sLo d) hO.te
  have hr := c_mRounds th sv ln at9 pt nm op kp hs s tx bg tm hR hO
  rw [shD] at M hnan
  generalize rN (sTe d) (sLo d) 5 = n at M hb hr hnan
  have loop : ∀ m k : Nat, k + m = n → B 9 [(0, .ref 0), (1, .int (nI n)), (2, .int (sumA d k)), (3, .int (nI k))] [] (MW th sv ln at9 pt nm op kp hs s tx bg tm) := by
    intro m
    induction m with
    | zero =>
      intro k hk
      obtain rfl : k = n := by omega
      refine r_iload_n M dX6_share_9 rfl ?_
      refine r_iload_n M dX6_share_10 rfl ?_
      refine r_icmp_ge M 37 dX6_share_11 (by decide) (fun _ => ?_) (fun h9 => absurd (nI_le (Nat.le_refl _) (by omega)) h9)
      refine r_iload_n M dX6_share_37 rfl ?_
      refine r_i2d M dX6_share_38 ?_
      refine r_iload_n M dX6_share_39 rfl ?_
      refine r_i2d M dX6_share_40 ?_
      refine r_ddiv M dX6_share_41 hnan ?_
      exact r_dret M dX6_share_42 rfl rfl rfl
    | succ m ih =>
      intro k hk
      have nx := ih (k + 1) (by omega)
      refine r_iload_n M dX6_share_9 rfl ?_
      refine r_iload_n M dX6_share_10 rfl ?_
      refine r_icmp_ge M 37 dX6_share_11 (by decide) (fun h9 => absurd h9 (nI_ge (by omega) (by omega))) (fun _ => ?_)
      refine r_iload_n M dX6_share_14 rfl ?_
      refine r_aload_n M dX6_share_15 rfl ?_
      refine r_iload_n M dX6_share_16 rfl ?_
      refine r_iconst M (-1) dX6_share_17 (by decide) ?_
      refine r_V2ik M (c_reason th sv ln at9 pt nm op kp hs s tx bg tm hR hO (nI k) (-1) (sLo d) (fun w h5 => lo_all d h5)) lk_X6_38 dX6_share_18 (by decide +kernel) ⟨Nat.le_of_ble_eq_true rfl, Nat.le_of_ble_eq_true rfl⟩ ⟨rfl, rfl⟩ [0, 1, 2, 3, 4] rfl rfl rfl (by decide +kernel) rfl (Nat.le_of_ble_eq_true rfl) ?_
      by_cases h : fltB (sTe d) (sTo d) (sLo d) (sHe d) (nI k) (sSe d) = 0
      · rw [show sumA d (k + 1) = sumA d k + 1 from by rw [sumA, sumf, if_pos h]] at nx
        refine r_if_ne M 28 dX6_share_21 (by decide) (fun h9 => absurd h h9) (fun _ => ?_)
        refine r_iconst M 1 dX6_share_24 (by decide) ?_
        refine r_goto M 29 dX6_share_25 (by decide) ?_
        refine r_iadd M dX6_share_29 ?_
        refine r_istore_n M dX6_share_30 (by decide) ?_
        refine r_iinc1 M dX6_share_31 rfl (by decide) ?_
        refine r_goto M 9 dX6_share_34 (by decide) ?_
        refine r_lvs M _ (lvs_c rfl (lvs_c rfl (lvs_c rfl (lvs_c ?_ lvs_n)))) nx
        rw [← nI_1 k]; rfl
      · rw [show sumA d (k + 1) = sumA d k + 0 from by rw [sumA, sumf, if_neg h]] at nx
        refine r_if_ne M 28 dX6_share_21 (by decide) (fun _ => ?_) (fun h9 => absurd h9 h)
        refine r_iconst M 0 dX6_share_28 (by decide) ?_
        refine r_iadd M dX6_share_29 ?_
        refine r_istore_n M dX6_share_30 (by decide) ?_
        refine r_iinc1 M dX6_share_31 rfl (by decide) ?_
        refine r_goto M 9 dX6_share_34 (by decide) ?_
        refine r_lvs M _ (lvs_c rfl (lvs_c rfl (lvs_c rfl (lvs_c ?_ lvs_n)))) nx
        rw [← nI_1 k]; rfl
  refine r_aload_n M dX6_share_0 rfl ?_
  refine r_V0ik M hr lk_X6_139 dX6_share_1 (by decide +kernel) ⟨Nat.le_of_ble_eq_true rfl, Nat.le_of_ble_eq_true rfl⟩ ⟨rfl, rfl⟩ [0, 1, 2, 3, 4] rfl rfl rfl (by decide +kernel) rfl (Nat.le_of_ble_eq_true rfl) ?_
  refine r_istore_n M dX6_share_4 (by decide) ?_
  refine r_iconst M 0 dX6_share_5 (by decide) ?_
  refine r_istore_n M dX6_share_6 (by decide) ?_
  refine r_iconst M 0 dX6_share_7 (by decide) ?_
  refine r_istore_n M dX6_share_8 (by decide) ?_
  exact r_lvs M _ (lvs_c rfl (lvs_c rfl (lvs_c rfl (lvs_c rfl lvs_n)))) (loop n 0 (by omega))
theorem c_mAllowedShare {d : SD} (hR : Rp s d) (hO : SOk d) (hnan : vf_n64 (shD d)) : Con yX6_allowedShare cX6_allowedShare 1 (some .double) (rmk 4 94) [.ref 0] (MW th sv ln at9 pt nm op kp hs s tx bg tm) (some (.double (shD d))) (MW 0 sv ln at9 pt nm op kp hs s tx bg tm) := by
  refine Con.of (own := RX6) (by decide) rfl (Nat.le_of_ble_eq_true rfl) rfl (fun B M => ?_)
  refine r_aload_n M dX6_allowedShare_0 rfl ?_
  refine r_iconst M 0 dX6_allowedShare_1 (by decide) ?_
  refine r_put M fl_X6_22 ff_6_0 dX6_allowedShare_2 rfl rfl rfl (fun _ => rfl) (Nat.le_of_ble_eq_true rfl) ?_
  refine r_aload_n M dX6_allowedShare_5 rfl ?_
  refine r_V0dk M (c_mShare 0 ln at9 pt nm op kp hs s tx bg tm sv hR hO hnan) lk_X6_169 dX6_allowedShare_6 (by decide +kernel) ⟨Nat.le_of_ble_eq_true rfl, Nat.le_of_ble_eq_true rfl⟩ ⟨rfl, rfl⟩ [0, 1, 2, 3, 4] rfl rfl rfl (by decide +kernel) rfl (Nat.le_of_ble_eq_true rfl) ?_
  exact r_dret M dX6_allowedShare_9 rfl rfl rfl
theorem c_mMean {d : SD} (hR : Rp s d) (hO : SOk d) (hD : DOk d) (hnan : vf_n32 (mnD d)) : Con yX6_mean cX6_mean 1 (some .float) (rmk 5 114) [.ref 0] (MW th sv ln at9 pt nm op kp hs s tx bg tm) (some (.float (mnD d))) (MW th sv ln at9 pt nm op kp hs s tx bg tm) := by
  refine Con.of (own := RX6) (by decide) rfl (Nat.le_of_ble_eq_true rfl) rfl (fun B M => ?_)
  have hw := c_mWheels th sv ln at9 pt nm op kp hs s tx bg tm hR hO hD 3 (by omega)
  rw [show sumf (fun j => whlD d (nI j) (nI 3)) 5 = sumH d from sumf_congr (fun j hj => whl_he d (nI j))] at hw
  rw [mnD] at M hnan
  generalize sumH d = z at M hw hnan
  refine r_aload_n M dX6_mean_0 rfl ?_
  refine r_iconst M 3 dX6_mean_1 (by decide) ?_
  refine r_V1ik M hw lk_X6_154 dX6_mean_2 (by decide +kernel) ⟨Nat.le_of_ble_eq_true rfl, Nat.le_of_ble_eq_true rfl⟩ ⟨rfl, rfl⟩ [0, 1, 2, 3, 4] rfl rfl rfl (by decide +kernel) rfl (Nat.le_of_ble_eq_true rfl) ?_
  refine r_i2f M dX6_mean_5 ?_
  refine r_ldcf M kc_X6_173 dX6_mean_6 ?_
  refine r_fdiv M dX6_mean_8 hnan ?_
  exact r_fret M dX6_mean_9 rfl rfl rfl
theorem c_mMeanHeight {d : SD} (hR : Rp s d) (hO : SOk d) (hD : DOk d) (hnan : vf_n32 (mnD d)) : Con yX6_meanHeight cX6_meanHeight 1 (some .float) (rmk 6 134) [.ref 0] (MW th sv ln at9 pt nm op kp hs s tx bg tm) (some (.float (mnD d))) (MW 0 sv ln at9 pt nm op kp hs s tx bg tm) := by
  refine Con.of (own := RX6) (by decide) rfl (Nat.le_of_ble_eq_true rfl) rfl (fun B M => ?_)
  refine r_aload_n M dX6_meanHeight_0 rfl ?_
  refine r_iconst M 0 dX6_meanHeight_1 (by decide) ?_
  refine r_put M fl_X6_22 ff_6_0 dX6_meanHeight_2 rfl rfl rfl (fun _ => rfl) (Nat.le_of_ble_eq_true rfl) ?_
  refine r_aload_n M dX6_meanHeight_5 rfl ?_
  refine r_V0fk M (c_mMean 0 ln at9 pt nm op kp hs s tx bg tm sv hR hO hD hnan) lk_X6_174 dX6_meanHeight_6 (by decide +kernel) ⟨Nat.le_of_ble_eq_true rfl, Nat.le_of_ble_eq_true rfl⟩ ⟨rfl, rfl⟩ [0, 1, 2, 3, 4] rfl rfl rfl (by decide +kernel) rfl (Nat.le_of_ble_eq_true rfl) ?_
  exact r_fret M dX6_meanHeight_9 rfl rfl rfl
end


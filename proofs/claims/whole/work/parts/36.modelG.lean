/-- the first multiple of n that o divides -/
theorem lcm_at {n o t : Nat} (ha : 1 ≤ n) (hm : 1 ≤ o) (h1 : 1 ≤ t) (hd : o ∣ n * t) (hj : ∀ j, 1 ≤ j → j < t → ¬ o ∣ n * j) : n * t = n.lcm o := by
  have h2 : Nat.lcm n o ∣ n * t := Nat.lcm_dvd (Nat.dvd_mul_right n t) hd
  obtain ⟨k, hk⟩ := Nat.dvd_lcm_left n o
  have hpos : 0 < Nat.lcm n o := Nat.lcm_pos ha hm
  have hk1 : 1 ≤ k := by
    rcases Nat.eq_zero_or_pos k with h | h
    · rw [hk, h] at hpos; simp at hpos
    · exact h
  have h3 : o ∣ n * k := by rw [← hk]; exact Nat.dvd_lcm_right n o
  have h4 : t ≤ k := by
    rcases Nat.lt_or_ge k t with h | h
    · exact absurd h3 (hj k hk1 h)
    · exact h
  have h5 : n * t ≤ Nat.lcm n o := by rw [hk]; exact Nat.mul_le_mul_left n h4
  have h6 := Nat.le_of_dvd (Nat.mul_pos ha h1) h2
  omega
theorem div_nat (x o : Nat) (hx : x < 2 ^ 31) (ho : o < 2 ^ 31) : nI x / nI o = nI (x / o) := by
  have h := Nat.div_le_self x o
  rw [← Int32.toInt_inj, Int32.toInt_div, nI_toInt hx, nI_toInt ho, nI_toInt (by omega), ← Int.ofNat_tdiv]
  generalize x / o = q at h ⊢
  exact Int.bmod_eq_of_le (by omega) (by omega)
theorem rem_nat (x o : Nat) (hx : x < 2 ^ 31) (ho : o < 2 ^ 31) : nI x - nI x / nI o * nI o = nI (x % o) := by
  have e := Nat.mod_add_div x o
  have e2 : nI x = nI (x % o) + nI (o * (x / o)) := by rw [nI_add, e]
  rw [div_nat x o hx ho, pk_mul, Nat.mul_comm (x / o) o]
  conv => lhs; lhs; rw [e2]
  rw [Int32.add_sub_cancel]
theorem hAt_at (he : Nat → Int32) (w j : Nat) (h5 : w < 5) (hj : j < 12) : hAt he (nI w) (nI j) = he (12 * w + j) := by
  have e1 : nI w * 12 + nI j = nI (12 * w + j) := by rw [show (12 : Int32) = nI 12 from rfl, pk_mul, nI_add, Nat.mul_comm]
  rw [hAt, e1, if_neg (nI_pos (by omega)), if_neg (show ¬ (60 : Int32) ≤ nI (12 * w + j) from nI_geF (n := 60) rfl (by omega) (by omega)), nI_clamp (by omega)]
/-- the tooth at the top is where the deeds put it -/
def DOk (d : SD) : Prop := ∀ w, w < 5 → md (sCra d w + sHa d w) (sTe d w) = sTo d w
theorem SOk.te {d : SD} (h : SOk d) : teOk (sTe d) := h.1.te
section
variable (th sv ln at9 pt nm op : Int32) (kp : Bool) (hs : Int64) (s tx bg tm : Nat → Int32)
theorem c_ofWheel {d : SD} (hR : Rp s d) (hO : SOk d) (hD : DOk d) (w : Nat) (h5 : w < 5) (x : Nat) (hx : x ≤ 6) : Con yX6_ofWheel cX6_ofWheel 5 (some .int) (rmk 3 67) [.ref 0, .int (nI w), .int (nI x)] (MW th sv ln at9 pt nm op kp hs s tx bg tm) (some (.int (whlD d (nI w) (nI x)))) (MW th sv ln at9 pt nm op kp hs s tx bg tm) := by
  refine Con.of (own := RX6) (by decide) rfl (Nat.le_of_ble_eq_true rfl) rfl (fun B M => ?_)
  have hh := c_mHeight th sv ln at9 pt nm op kp hs s tx bg tm hR hO w h5
  obtain ⟨r1, r2, r3, r4, -⟩ := hR
  obtain ⟨m, b, a1, a2, a3, a4, a5⟩ := hO.1 w h5
  have hc := cl5 w (by omega)
  refine r_iload_n M dX6_ofWheel_0 rfl ?_
  rcases (show x = 0 ∨ x = 1 ∨ x = 2 ∨ x = 3 ∨ x = 4 ∨ x = 5 ∨ x = 6 by omega) with rfl | rfl | rfl | rfl | rfl | rfl | rfl
  · refine r_tabIn M 40 dX6_ofWheel_1 (by decide) (by decide) (off := 39) (by decide) (by decide) ?_
    refine r_aload_n M dX6_ofWheel_40 rfl ?_
    refine r_get M fl_X6_7 dX6_ofWheel_41 rfl rfl ?_
    refine r_iconst M 0 dX6_ofWheel_44 (by decide) ?_
    refine r_iload_n M dX6_ofWheel_45 rfl ?_
    refine r_iadd M dX6_ofWheel_46 ?_
    rw [add0]
    refine r_iald M dX6_ofWheel_47 rfl (s_in (by omega)) ?_
    rw [cl_s (by omega), r1 w h5]
    exact r_iret M dX6_ofWheel_48 rfl (by rw [whlD, if_pos (show nI 0 = 0 from rfl), hc]) rfl
  · refine r_tabIn M 49 dX6_ofWheel_1 (by decide) (by decide) (off := 48) (by decide) (by decide) ?_
    refine r_aload_n M dX6_ofWheel_49 rfl ?_
    refine r_get M fl_X6_7 dX6_ofWheel_50 rfl rfl ?_
    refine r_iconst M 5 dX6_ofWheel_53 (by decide) ?_
    refine r_iload_n M dX6_ofWheel_54 rfl ?_
    refine r_iadd M dX6_ofWheel_55 ?_
    rw [show (5 : Int32) + nI w = nI (5 + w) from nI_add 5 w]
    refine r_iald M dX6_ofWheel_56 rfl (s_in (by omega)) ?_
    rw [cl_s (by omega), r2 w h5]
    exact r_iret M dX6_ofWheel_57 rfl (by rw [whlD, if_neg (by decide), if_pos (show nI 1 = 1 from rfl), hc]) rfl
  · refine r_tabIn M 49 dX6_ofWheel_1 (by decide) (by decide) (off := 48) (by decide) (by decide) ?_
    refine r_aload_n M dX6_ofWheel_49 rfl ?_
    refine r_get M fl_X6_7 dX6_ofWheel_50 rfl rfl ?_
    refine r_iconst M 5 dX6_ofWheel_53 (by decide) ?_
    refine r_iload_n M dX6_ofWheel_54 rfl ?_
    refine r_iadd M dX6_ofWheel_55 ?_
    rw [show (5 : Int32) + nI w = nI (5 + w) from nI_add 5 w]
    refine r_iald M dX6_ofWheel_56 rfl (s_in (by omega)) ?_
    rw [cl_s (by omega), r2 w h5]
    exact r_iret M dX6_ofWheel_57 rfl (by rw [whlD, if_neg (by decide), if_neg (by decide), if_pos (show nI 2 = 2 from rfl), hc, hD w h5]) rfl
  · refine r_tabIn M 58 dX6_ofWheel_1 (by decide) (by decide) (off := 57) (by decide) (by decide) ?_
    refine r_aload_n M dX6_ofWheel_58 rfl ?_
    refine r_iload_n M dX6_ofWheel_59 rfl ?_
    refine r_V1ik M hh lk_X6_92 dX6_ofWheel_60 (by decide +kernel) ⟨Nat.le_of_ble_eq_true rfl, Nat.le_of_ble_eq_true rfl⟩ ⟨rfl, rfl⟩ [0, 1, 2, 3, 4] rfl rfl rfl (by decide +kernel) rfl (Nat.le_of_ble_eq_true rfl) ?_
    exact r_iret M dX6_ofWheel_63 rfl rfl rfl
  · refine r_tabIn M 64 dX6_ofWheel_1 (by decide) (by decide) (off := 63) (by decide) (by decide) ?_
    refine r_aload_n M dX6_ofWheel_64 rfl ?_
    refine r_get M fl_X6_7 dX6_ofWheel_65 rfl rfl ?_
    refine r_bipush M 10 dX6_ofWheel_68 (by decide) ?_
    refine r_iload_n M dX6_ofWheel_70 rfl ?_
    refine r_iadd M dX6_ofWheel_71 ?_
    rw [show (10 : Int32) + nI w = nI (10 + w) from nI_add 10 w]
    refine r_iald M dX6_ofWheel_72 rfl (s_in (by omega)) ?_
    rw [cl_s (by omega), r3 w h5]
    exact r_iret M dX6_ofWheel_73 rfl (by rw [whlD, if_neg (by decide), if_neg (by decide), if_neg (by decide), if_neg (by decide), if_pos (show nI 4 = 4 from rfl), hc]) rfl
  · refine r_tabIn M 74 dX6_ofWheel_1 (by decide) (by decide) (off := 73) (by decide) (by decide) ?_
    refine r_aload_n M dX6_ofWheel_74 rfl ?_
    refine r_iload_n M dX6_ofWheel_75 rfl ?_
    refine r_V1ik M hh lk_X6_92 dX6_ofWheel_76 (by decide +kernel) ⟨Nat.le_of_ble_eq_true rfl, Nat.le_of_ble_eq_true rfl⟩ ⟨rfl, rfl⟩ [0, 1, 2, 3, 4] rfl rfl rfl (by decide +kernel) rfl (Nat.le_of_ble_eq_true rfl) ?_
    refine r_iconst M 5 dX6_ofWheel_79 (by decide) ?_
    refine r_icmp_lt M 87 dX6_ofWheel_80 (by decide) (fun h => ?_) (fun h => ?_)
    · refine r_iconst M 0 dX6_ofWheel_87 (by decide) ?_
      exact r_iret M dX6_ofWheel_88 rfl (by rw [whlD, if_neg (by decide), if_neg (by decide), if_neg (by decide), if_neg (by decide), if_neg (by decide), if_pos (show nI 5 = 5 from rfl), outI, decide_eq_false (nle5.mp h)]; rfl) rfl
    · refine r_iconst M 1 dX6_ofWheel_83 (by decide) ?_
      refine r_goto M 88 dX6_ofWheel_84 (by decide) ?_
      exact r_iret M dX6_ofWheel_88 rfl (by rw [nle5, Decidable.not_not] at h; rw [whlD, if_neg (by decide), if_neg (by decide), if_neg (by decide), if_neg (by decide), if_neg (by decide), if_pos (show nI 5 = 5 from rfl), outI, decide_eq_true h]; rfl) rfl
  · have loop : ∀ r k : Nat, k + r = m → B 94 [(0, .ref 0), (1, .int (nI w)), (2, .int (nI 6)), (3, .int (sumf (fun j => outI (hAt (sHe d) (nI w) (nI j))) k)), (4, .int (nI k))] [] (MW th sv ln at9 pt nm op kp hs s tx bg tm) := by
      intro r
      induction r with
      | zero =>
        intro k hk
        obtain rfl : k = m := by omega
        refine r_iload M dX6_ofWheel_94 rfl ?_
        refine r_aload_n M dX6_ofWheel_96 rfl ?_
        refine r_get M fl_X6_7 dX6_ofWheel_97 rfl rfl ?_
        refine r_iconst M 0 dX6_ofWheel_100 (by decide) ?_
        refine r_iload_n M dX6_ofWheel_101 rfl ?_
        refine r_iadd M dX6_ofWheel_102 ?_
        rw [add0]
        refine r_iald M dX6_ofWheel_103 rfl (s_in (by omega)) ?_
        rw [cl_s (by omega), r1 w h5, a3]
        refine r_icmp_ge M 140 dX6_ofWheel_104 (by decide) (fun _ => ?_) (fun h9 => absurd (nI_le (Nat.le_refl _) (by omega)) h9)
        refine r_iload_n M dX6_ofWheel_140 rfl ?_
        exact r_iret M dX6_ofWheel_141 rfl (by rw [whlD, if_neg (by decide), if_neg (by decide), if_neg (by decide), if_neg (by decide), if_neg (by decide), if_neg (by decide), hc, a3, cl5 k (by omega)]) rfl
      | succ r ih =>
        intro k hk
        have nx := ih (k + 1) (by omega)
        rw [sumf] at nx
        rw [hAt_at _ w k h5 (by omega)] at nx
        refine r_iload M dX6_ofWheel_94 rfl ?_
        refine r_aload_n M dX6_ofWheel_96 rfl ?_
        refine r_get M fl_X6_7 dX6_ofWheel_97 rfl rfl ?_
        refine r_iconst M 0 dX6_ofWheel_100 (by decide) ?_
        refine r_iload_n M dX6_ofWheel_101 rfl ?_
        refine r_iadd M dX6_ofWheel_102 ?_
        rw [add0]
        refine r_iald M dX6_ofWheel_103 rfl (s_in (by omega)) ?_
        rw [cl_s (by omega), r1 w h5, a3]
        refine r_icmp_ge M 140 dX6_ofWheel_104 (by decide) (fun h9 => absurd h9 (nI_ge (by omega) (by omega))) (fun _ => ?_)
        refine r_iload_n M dX6_ofWheel_107 rfl ?_
        refine r_aload_n M dX6_ofWheel_108 rfl ?_
        refine r_get M fl_X6_7 dX6_ofWheel_109 rfl rfl ?_
        refine r_bipush M 15 dX6_ofWheel_112 (by decide) ?_
        refine r_bipush M 12 dX6_ofWheel_114 (by decide) ?_
        refine r_iload_n M dX6_ofWheel_116 rfl ?_
        refine r_imul M dX6_ofWheel_117 ?_
        refine r_iadd M dX6_ofWheel_118 ?_
        refine r_iload M dX6_ofWheel_119 rfl ?_
        refine r_iadd M dX6_ofWheel_121 ?_
        rw [hix]
        refine r_iald M dX6_ofWheel_122 rfl (s_in (by omega)) ?_
        rw [cl_s (by omega), r4 w h5 k (by rw [a3, cl5 m (by omega)]; omega)]
        have go : B 132 [(0, .ref 0), (1, .int (nI w)), (2, .int (nI 6)), (3, .int (sumf (fun j => outI (hAt (sHe d) (nI w) (nI j))) k)), (4, .int (nI k))] [.int (outI (sHe d (12 * w + k))), .int (sumf (fun j => outI (hAt (sHe d) (nI w) (nI j))) k)] (MW th sv ln at9 pt nm op kp hs s tx bg tm) := by
          refine r_iadd M dX6_ofWheel_132 ?_
          refine r_istore_n M dX6_ofWheel_133 (by decide) ?_
          refine r_iinc1 M dX6_ofWheel_134 rfl (by decide) ?_
          refine r_goto M 94 dX6_ofWheel_137 (by decide) ?_
          refine r_lvs M _ (lvs_c rfl (lvs_c rfl (lvs_c rfl (lvs_c rfl (lvs_c ?_ lvs_n))))) nx
          rw [← nI_1 k]; rfl
        rw [outI] at go
        refine r_iconst M 5 dX6_ofWheel_123 (by decide) ?_
        refine r_icmp_lt M 131 dX6_ofWheel_124 (by decide) (fun h => ?_) (fun h => ?_)
        · refine r_iconst M 0 dX6_ofWheel_131 (by decide) ?_
          rw [decide_eq_false (nle5.mp h)] at go
          exact go
        · refine r_iconst M 1 dX6_ofWheel_127 (by decide) ?_
          refine r_goto M 132 dX6_ofWheel_128 (by decide) ?_
          rw [nle5, Decidable.not_not] at h
          rw [decide_eq_true h] at go
          exact go
    refine r_tabOut M 89 dX6_ofWheel_1 (by decide) (by decide) ?_
    refine r_iconst M 0 dX6_ofWheel_89 (by decide) ?_
    refine r_istore_n M dX6_ofWheel_90 (by decide) ?_
    refine r_iconst M 0 dX6_ofWheel_91 (by decide) ?_
    refine r_istore M dX6_ofWheel_92 (by decide) ?_
    exact r_lvs M _ (lvs_c rfl (lvs_c rfl (lvs_c rfl (lvs_c rfl (lvs_c rfl lvs_n))))) (loop m 0 (by omega))
theorem c_mWheelF (c : Int32) (hc0 : ¬ c = 0) (x y : Int32) (h : (btw x 0 4 = false ∧ c = 1) ∨ (btw x 0 4 = true ∧ btw y 0 6 = false ∧ c = 2)) : Con yX6_wheel cX6_wheel 3 (some .int) (rmk 4 91) [.ref 0, .int x, .int y] (MW th sv ln at9 pt nm op kp hs s tx bg tm) (some (.int 0)) (MW c sv ln at9 pt nm op kp hs s tx bg tm) := by
  refine Con.of (own := RX6) (by decide) rfl (Nat.le_of_ble_eq_true rfl) rfl (fun B M => ?_)
  have go : B 27 [(0, .ref 0), (1, .int x), (2, .int y)] [.int c, .ref 0] (MW th sv ln at9 pt nm op kp hs s tx bg tm) := by
    refine r_V1iu (w' :=  MW c sv ln at9 pt nm op kp hs s tx bg tm) M (c_holds th sv ln at9 pt nm op kp hs s tx bg tm c) lk_X6_63 dX6_wheel_27 (by decide +kernel) ⟨Nat.le_of_ble_eq_true rfl, Nat.le_of_ble_eq_true rfl⟩ ⟨rfl, rfl⟩ [0, 1, 2, 3, 4] rfl rfl rfl (by decide +kernel) rfl (Nat.le_of_ble_eq_true rfl) rfl ?_
    rw [decide_eq_false hc0]
    refine r_if_eq M 42 dX6_wheel_30 (by decide) (fun _ => ?_) (fun h9 => absurd rfl h9)
    refine r_iconst M 0 dX6_wheel_42 (by decide) ?_
    exact r_iret M dX6_wheel_43 rfl rfl rfl
  refine r_aload_n M dX6_wheel_0 rfl ?_
  refine r_iload_n M dX6_wheel_1 rfl ?_
  refine r_S1ik M (c_mIsWheel _) lk_X6_76 dX6_wheel_2 (by decide +kernel) ⟨Nat.le_of_ble_eq_true rfl, Nat.le_of_ble_eq_true rfl⟩ ⟨rfl, rfl⟩ [] rfl (by decide +kernel) rfl (Nat.le_of_ble_eq_true rfl) ?_
  rcases h with ⟨h, rfl⟩ | ⟨h, h2, rfl⟩
  · rw [h]
    refine r_if_ne M 12 dX6_wheel_5 (by decide) (fun h9 => absurd rfl h9) (fun _ => ?_)
    refine r_iconst M 1 dX6_wheel_8 (by decide) ?_
    refine r_goto M 27 dX6_wheel_9 (by decide) ?_
    exact go
  · rw [h]
    refine r_if_ne M 12 dX6_wheel_5 (by decide) (fun _ => ?_) (fun h9 => absurd h9 (by decide))
    refine r_iload_n M dX6_wheel_12 rfl ?_
    refine r_iconst M 0 dX6_wheel_13 (by decide) ?_
    refine r_bipush M 6 dX6_wheel_14 (by decide) ?_
    refine r_S3ik M (c_in _ _ _) lk_X6_26 dX6_wheel_16 (by decide +kernel) ⟨Nat.le_of_ble_eq_true rfl, Nat.le_of_ble_eq_true rfl⟩ ⟨rfl, rfl⟩ [] rfl (by decide +kernel) rfl (Nat.le_of_ble_eq_true rfl) ?_
    rw [h2]
    refine r_if_ne M 26 dX6_wheel_19 (by decide) (fun h9 => absurd rfl h9) (fun _ => ?_)
    refine r_iconst M 2 dX6_wheel_22 (by decide) ?_
    refine r_goto M 27 dX6_wheel_23 (by decide) ?_
    exact go
theorem c_mWheel {d : SD} (hR : Rp s d) (hO : SOk d) (hD : DOk d) (w : Nat) (h5 : w < 5) (x : Nat) (hx : x ≤ 6) : Con yX6_wheel cX6_wheel 3 (some .int) (rmk 4 91) [.ref 0, .int (nI w), .int (nI x)] (MW th sv ln at9 pt nm op kp hs s tx bg tm) (some (.int (whlD d (nI w) (nI x)))) (MW 0 sv ln at9 pt nm op kp hs s tx bg tm) := by
  refine Con.of (own := RX6) (by decide) rfl (Nat.le_of_ble_eq_true rfl) rfl (fun B M => ?_)
  refine r_aload_n M dX6_wheel_0 rfl ?_
  refine r_iload_n M dX6_wheel_1 rfl ?_
  refine r_S1ik M (c_mIsWheel _) lk_X6_76 dX6_wheel_2 (by decide +kernel) ⟨Nat.le_of_ble_eq_true rfl, Nat.le_of_ble_eq_true rfl⟩ ⟨rfl, rfl⟩ [] rfl (by decide +kernel) rfl (Nat.le_of_ble_eq_true rfl) ?_
  rw [show btw (nI w) 0 4 = true from btw_nI (a := 0) (b := 4) (by omega) (by omega) (by omega)]
  refine r_if_ne M 12 dX6_wheel_5 (by decide) (fun _ => ?_) (fun h9 => absurd h9 (by decide))
  refine r_iload_n M dX6_wheel_12 rfl ?_
  refine r_iconst M 0 dX6_wheel_13 (by decide) ?_
  refine r_bipush M 6 dX6_wheel_14 (by decide) ?_
  refine r_S3ik M (c_in _ _ _) lk_X6_26 dX6_wheel_16 (by decide +kernel) ⟨Nat.le_of_ble_eq_true rfl, Nat.le_of_ble_eq_true rfl⟩ ⟨rfl, rfl⟩ [] rfl (by decide +kernel) rfl (Nat.le_of_ble_eq_true rfl) ?_
  rw [show btw (nI x) 0 6 = true from btw_nI (a := 0) (b := 6) (by omega) (by omega) (by omega)]
  refine r_if_ne M 26 dX6_wheel_19 (by decide) (fun _ => ?_) (fun h9 => absurd h9 (by decide))
  refine r_iconst M 0 dX6_wheel_26 (by decide) ?_
  refine r_V1iu (w' :=  MW 0 sv ln at9 pt nm op kp hs s tx bg tm) M (c_holds th sv ln at9 pt nm op kp hs s tx bg tm 0) lk_X6_63 dX6_wheel_27 (by decide +kernel) ⟨Nat.le_of_ble_eq_true rfl, Nat.le_of_ble_eq_true rfl⟩ ⟨rfl, rfl⟩ [0, 1, 2, 3, 4] rfl rfl rfl (by decide +kernel) rfl (Nat.le_of_ble_eq_true rfl) rfl ?_
  refine r_if_eq M 42 dX6_wheel_30 (by decide) (fun h9 => absurd h9 (by decide)) (fun _ => ?_)
  refine r_aload_n M dX6_wheel_33 rfl ?_
  refine r_iload_n M dX6_wheel_34 rfl ?_
  refine r_iload_n M dX6_wheel_35 rfl ?_
  refine r_V2ik M (c_ofWheel 0 sv ln at9 pt nm op kp hs s tx bg tm hR hO hD w h5 x hx) lk_X6_136 dX6_wheel_36 (by decide +kernel) ⟨Nat.le_of_ble_eq_true rfl, Nat.le_of_ble_eq_true rfl⟩ ⟨rfl, rfl⟩ [0, 1, 2, 3, 4] rfl rfl rfl (by decide +kernel) rfl (Nat.le_of_ble_eq_true rfl) ?_
  refine r_goto M 43 dX6_wheel_39 (by decide) ?_
  exact r_iret M dX6_wheel_43 rfl rfl rfl
theorem c_mToothF (x y : Int32) {d : SD} (hR : Rp s d) (h : (if btw x 0 4 = true then btw y 0 (sTe d x.toNatClampNeg - 1) else false) = false) : Con yX6_tooth cX6_tooth 3 (some .int) (rmk 3 64) [.ref 0, .int x, .int y] (MW th sv ln at9 pt nm op kp hs s tx bg tm) (some (.int 0)) (MW 1 sv ln at9 pt nm op kp hs s tx bg tm) := by
  refine Con.of (own := RX6) (by decide) rfl (Nat.le_of_ble_eq_true rfl) rfl (fun B M => ?_)
  refine r_aload_n M dX6_tooth_0 rfl ?_
  refine r_aload_n M dX6_tooth_1 rfl ?_
  refine r_iload_n M dX6_tooth_2 rfl ?_
  refine r_iload_n M dX6_tooth_3 rfl ?_
  refine r_V2ik M (c_mIsTooth th ln at9 pt nm op kp hs s tx bg tm sv x y hR) lk_X6_89 dX6_tooth_4 (by decide +kernel) ⟨Nat.le_of_ble_eq_true rfl, Nat.le_of_ble_eq_true rfl⟩ ⟨rfl, rfl⟩ [0, 1, 2, 3, 4] rfl rfl rfl (by decide +kernel) rfl (Nat.le_of_ble_eq_true rfl) ?_
  rw [h]
  refine r_if_eq M 14 dX6_tooth_7 (by decide) (fun _ => ?_) (fun h9 => absurd rfl h9)
  refine r_iconst M 1 dX6_tooth_14 (by decide) ?_
  refine r_V1iu (w' :=  MW 1 sv ln at9 pt nm op kp hs s tx bg tm) M (c_holds th sv ln at9 pt nm op kp hs s tx bg tm 1) lk_X6_63 dX6_tooth_15 (by decide +kernel) ⟨Nat.le_of_ble_eq_true rfl, Nat.le_of_ble_eq_true rfl⟩ ⟨rfl, rfl⟩ [0, 1, 2, 3, 4] rfl rfl rfl (by decide +kernel) rfl (Nat.le_of_ble_eq_true rfl) rfl ?_
  refine r_if_eq M 38 dX6_tooth_18 (by decide) (fun _ => ?_) (fun h9 => absurd (by decide) h9)
  refine r_iconst M 0 dX6_tooth_38 (by decide) ?_
  exact r_iret M dX6_tooth_39 rfl rfl rfl
theorem c_mTooth (w t : Nat) (h5 : w < 5) (ht2 : t < 12) {d : SD} (hR : Rp s d) (ht : btw (nI t) 0 (sTe d w - 1) = true) (hlt : t < (sTe d w).toNatClampNeg) : Con yX6_tooth cX6_tooth 3 (some .int) (rmk 3 64) [.ref 0, .int (nI w), .int (nI t)] (MW th sv ln at9 pt nm op kp hs s tx bg tm) (some (.int (hAt (sHe d) (nI w) (nI t)))) (MW 0 sv ln at9 pt nm op kp hs s tx bg tm) := by
  refine Con.of (own := RX6) (by decide) rfl (Nat.le_of_ble_eq_true rfl) rfl (fun B M => ?_)
  have hb : btw (nI w) 0 4 = true := btw_nI (a := 0) (b := 4) (by omega) (by omega) (by omega)
  have hi : (if btw (nI w) 0 4 = true then btw (nI t) 0 (sTe d (nI w).toNatClampNeg - 1) else false) = true := by rw [if_pos hb, cl_s (by omega)]; exact ht
  have hI := c_mIsTooth th ln at9 pt nm op kp hs s tx bg tm sv (nI w) (nI t) hR
  rw [hi] at hI
  rw [hAt_at _ w t h5 ht2] at M
  refine r_aload_n M dX6_tooth_0 rfl ?_
  refine r_aload_n M dX6_tooth_1 rfl ?_
  refine r_iload_n M dX6_tooth_2 rfl ?_
  refine r_iload_n M dX6_tooth_3 rfl ?_
  refine r_V2ik M hI lk_X6_89 dX6_tooth_4 (by decide +kernel) ⟨Nat.le_of_ble_eq_true rfl, Nat.le_of_ble_eq_true rfl⟩ ⟨rfl, rfl⟩ [0, 1, 2, 3, 4] rfl rfl rfl (by decide +kernel) rfl (Nat.le_of_ble_eq_true rfl) ?_
  refine r_if_eq M 14 dX6_tooth_7 (by decide) (fun h9 => absurd h9 (by decide)) (fun _ => ?_)
  refine r_iconst M 0 dX6_tooth_10 (by decide) ?_
  refine r_goto M 15 dX6_tooth_11 (by decide) ?_
  refine r_V1iu (w' :=  MW 0 sv ln at9 pt nm op kp hs s tx bg tm) M (c_holds th sv ln at9 pt nm op kp hs s tx bg tm 0) lk_X6_63 dX6_tooth_15 (by decide +kernel) ⟨Nat.le_of_ble_eq_true rfl, Nat.le_of_ble_eq_true rfl⟩ ⟨rfl, rfl⟩ [0, 1, 2, 3, 4] rfl rfl rfl (by decide +kernel) rfl (Nat.le_of_ble_eq_true rfl) rfl ?_
  refine r_if_eq M 38 dX6_tooth_18 (by decide) (fun h9 => absurd h9 (by decide)) (fun _ => ?_)
  refine r_aload_n M dX6_tooth_21 rfl ?_
  refine r_get M fl_X6_7 dX6_tooth_22 rfl rfl ?_
  refine r_bipush M 15 dX6_tooth_25 (by decide) ?_
  refine r_bipush M 12 dX6_tooth_27 (by decide) ?_
  refine r_iload_n M dX6_tooth_29 rfl ?_
  refine r_imul M dX6_tooth_30 ?_
  refine r_iadd M dX6_tooth_31 ?_
  refine r_iload_n M dX6_tooth_32 rfl ?_
  refine r_iadd M dX6_tooth_33 ?_
  rw [hix]
  refine r_iald M dX6_tooth_34 rfl (s_in (by omega)) ?_
  rw [cl_s (by omega), hR.2.2.2.1 w h5 t hlt]
  refine r_goto M 39 dX6_tooth_35 (by decide) ?_
  exact r_iret M dX6_tooth_39 rfl rfl rfl
theorem c_mRounds {d : SD} (hR : Rp s d) (hO : SOk d) : Con yX6_rounds cX6_rounds 5 (some .int) (rmk 0 0) [.ref 0] (MW th sv ln at9 pt nm op kp hs s tx bg tm) (some (.int (nI (rN (sTe d) (sLo d) 5)))) (MW th sv ln at9 pt nm op kp hs s tx bg tm) := by
  refine Con.of (own := RX6) (by decide) rfl (Nat.le_of_ble_eq_true rfl) rfl (fun B M => ?_)
  have loop : ∀ r k : Nat, k + r = 5 → B 4 [(0, .ref 0), (1, .int (nI (rN (sTe d) (sLo d) k))), (2, .int (nI k))] [] (MW th sv ln at9 pt nm op kp hs s tx bg tm) := by
    intro r
    induction r with
    | zero =>
      intro k hk
      obtain rfl : k = 5 := by omega
      refine r_iload_n M dX6_rounds_4 rfl ?_
      refine r_iconst M 5 dX6_rounds_5 (by decide) ?_
      refine r_icmp_ge M 63 dX6_rounds_6 (by decide) (fun _ => ?_) (fun h9 => absurd (nI_geT (n := 5) rfl (by omega) (by omega)) h9)
      refine r_iload_n M dX6_rounds_63 rfl ?_
      exact r_iret M dX6_rounds_64 rfl rfl rfl
    | succ r ih =>
      intro k hk
      obtain ⟨q1, q2⟩ := rN_bd (sLo d) hO.te k (by omega)
      have q3 : 12 ^ k ≤ 12 ^ 5 := Nat.pow_le_pow_right (by omega) (by omega)
      obtain ⟨m, b, a1, a2, a3, -⟩ := hO.1 k (by omega)
      have nx := ih (k + 1) (by omega)
      rw [rN, a3, cl5 m (by omega)] at nx
      generalize rN (sTe d) (sLo d) k = n at q1 q2 nx ⊢
      have fin : ∀ o y : Nat, y = (if sLo d k = true then n.lcm m else n) → B 54 [(0, .ref 0), (1, .int (nI n)), (2, .int (nI k)), (3, .int (nI o)), (4, .int (nI y))] [] (MW th sv ln at9 pt nm op kp hs s tx bg tm) := by
        intro o y hy
        subst hy
        refine r_iload M dX6_rounds_54 rfl ?_
        refine r_istore_n M dX6_rounds_56 (by decide) ?_
        refine r_iinc1 M dX6_rounds_57 rfl (by decide) ?_
        refine r_goto M 4 dX6_rounds_60 (by decide) ?_
        refine r_lvs M _ (lvs_c rfl (lvs_c rfl (lvs_c ?_ lvs_n))) nx
        rw [← nI_1]; rfl
      have inner : ∀ o : Nat, 1 ≤ o → o ≤ 12 → n.lcm o = (if sLo d k = true then n.lcm m else n) → ∀ r j : Nat, j + r = o → 1 ≤ j → (∀ i, 1 ≤ i → i < j → ¬ o ∣ n * i) → B 38 [(0, .ref 0), (1, .int (nI n)), (2, .int (nI k)), (3, .int (nI o)), (4, .int (nI (n * j)))] [] (MW th sv ln at9 pt nm op kp hs s tx bg tm) := by
        intro o h1 h2 h3 r
        induction r with
        | zero =>
          intro j hj hj1 hi
          obtain rfl : j = o := by omega
          have hno : n * j ≤ n * 12 := Nat.mul_le_mul_left n h2
          refine r_iload M dX6_rounds_38 rfl ?_
          refine r_iload_n M dX6_rounds_40 rfl ?_
          refine r_irem M dX6_rounds_41 (fun e => by have := (nI_eq (a := j) (b := 0) (by omega) (by omega)).mp e; omega) ?_
          rw [rem_nat _ _ (by omega) (by omega), Nat.mul_mod_left]
          refine r_if_eq M 54 dX6_rounds_42 (by decide) (fun _ => ?_) (fun h9 => absurd rfl h9)
          refine fin j (n * j) ?_
          rw [← h3]
          exact lcm_at q1 h1 hj1 (Nat.dvd_mul_left j n) hi
        | succ r ih2 =>
          intro j hj hj1 hi
          have hno : n * j ≤ n * 12 := Nat.mul_le_mul_left n (by omega)
          refine r_iload M dX6_rounds_38 rfl ?_
          refine r_iload_n M dX6_rounds_40 rfl ?_
          refine r_irem M dX6_rounds_41 (fun e => by have := (nI_eq (a := o) (b := 0) (by omega) (by omega)).mp e; omega) ?_
          rw [rem_nat _ _ (by omega) (by omega)]
          by_cases hd : o ∣ n * j
          · rw [Nat.mod_eq_zero_of_dvd hd]
            refine r_if_eq M 54 dX6_rounds_42 (by decide) (fun _ => ?_) (fun h9 => absurd rfl h9)
            refine fin o (n * j) ?_
            rw [← h3]
            exact lcm_at q1 h1 hj1 hd hi
          · refine r_if_eq M 54 dX6_rounds_42 (by decide) (fun h9 => absurd h9 (fun e => hd (Nat.dvd_of_mod_eq_zero ((nI_eq (b := 0) (by have := Nat.mod_lt (n * j) h1; omega) (by omega)).mp e)))) (fun _ => ?_)
            refine r_iload M dX6_rounds_45 rfl ?_
            refine r_iload_n M dX6_rounds_47 rfl ?_
            refine r_iadd M dX6_rounds_48 ?_
            refine r_istore M dX6_rounds_49 (by decide) ?_
            refine r_goto M 38 dX6_rounds_51 (by decide) ?_
            refine r_lvs M _ (lvs_c rfl (lvs_c rfl (lvs_c rfl (lvs_c rfl (lvs_c ?_ lvs_n))))) (ih2 (j + 1) (by omega) (by omega) (fun i hi1 hi2 => ?_))
            · rw [Nat.mul_add, Nat.mul_one, ← nI_add]; rfl
            · rcases Nat.lt_succ_iff_lt_or_eq.mp hi2 with h4 | h4
              · exact hi i hi1 h4
              · rw [h4]; exact hd
      refine r_iload_n M dX6_rounds_4 rfl ?_
      refine r_iconst M 5 dX6_rounds_5 (by decide) ?_
      refine r_icmp_ge M 63 dX6_rounds_6 (by decide) (fun h9 => absurd h9 (nI_geF (n := 5) rfl (by omega) (by omega))) (fun _ => ?_)
      refine r_aload_n M dX6_rounds_9 rfl ?_
      refine r_get M fl_X6_7 dX6_rounds_10 rfl rfl ?_
      refine r_bipush M 10 dX6_rounds_13 (by decide) ?_
      refine r_iload_n M dX6_rounds_15 rfl ?_
      refine r_iadd M dX6_rounds_16 ?_
      rw [show (10 : Int32) + nI k = nI (10 + k) from nI_add 10 k]
      refine r_iald M dX6_rounds_17 rfl (s_in (by omega)) ?_
      rw [cl_s (by omega), hR.2.2.1 k (by omega)]
      refine r_iconst M 1 dX6_rounds_18 (by decide) ?_
      cases hl : sLo d k
      · refine r_icmp_ne M 33 dX6_rounds_19 (by decide) (fun _ => ?_) (fun h9 => absurd h9 (by decide))
        refine r_iconst M 1 dX6_rounds_33 (by decide) ?_
        refine r_istore_n M dX6_rounds_34 (by decide) ?_
        refine r_iload_n M dX6_rounds_35 rfl ?_
        refine r_istore M dX6_rounds_36 (by decide) ?_
        refine r_lvs M _ (lvs_c rfl (lvs_c rfl (lvs_c rfl (lvs_c rfl (lvs_c ?_ lvs_n))))) (inner 1 (by omega) (by omega) (by rw [hl, Nat.lcm_one_right]; rfl) 0 1 rfl (by omega) (fun i h1 h2 => by omega))
        rw [Nat.mul_one]; rfl
      · refine r_icmp_ne M 33 dX6_rounds_19 (by decide) (fun h9 => absurd rfl h9) (fun _ => ?_)
        refine r_aload_n M dX6_rounds_22 rfl ?_
        refine r_get M fl_X6_7 dX6_rounds_23 rfl rfl ?_
        refine r_iconst M 0 dX6_rounds_26 (by decide) ?_
        refine r_iload_n M dX6_rounds_27 rfl ?_
        refine r_iadd M dX6_rounds_28 ?_
        rw [add0]
        refine r_iald M dX6_rounds_29 rfl (s_in (by omega)) ?_
        rw [cl_s (by omega), hR.1 k (by omega), a3]
        refine r_goto M 34 dX6_rounds_30 (by decide) ?_
        refine r_istore_n M dX6_rounds_34 (by decide) ?_
        refine r_iload_n M dX6_rounds_35 rfl ?_
        refine r_istore M dX6_rounds_36 (by decide) ?_
        refine r_lvs M _ (lvs_c rfl (lvs_c rfl (lvs_c rfl (lvs_c rfl (lvs_c ?_ lvs_n))))) (inner m (by omega) (by omega) (by rw [hl]; rfl) (m - 1) 1 (by omega) (by omega) (fun i h1 h2 => by omega))
        rw [Nat.mul_one]; rfl
  refine r_iconst M 1 dX6_rounds_0 (by decide) ?_
  refine r_istore_n M dX6_rounds_1 (by decide) ?_
  refine r_iconst M 0 dX6_rounds_2 (by decide) ?_
  refine r_istore_n M dX6_rounds_3 (by decide) ?_
  exact r_lvs M _ (lvs_c rfl (lvs_c rfl (lvs_c rfl lvs_n))) (loop 5 0 rfl)
end


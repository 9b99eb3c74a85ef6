theorem sumf_congr {f g : Nat → Int32} : ∀ {n : Nat}, (∀ j, j < n → f j = g j) → sumf f n = sumf g n
  | 0, _ => rfl
  | n + 1, h => by rw [sumf, sumf, sumf_congr (fun j hj => h j (by omega)), h n (by omega)]
theorem whl_lo (d : SD) (w : Nat) (h5 : w < 5) : whlD d (nI w) (nI 4) = b2i (sLo d w) := by
  rw [whlD, if_neg (by decide), if_neg (by decide), if_neg (by decide), if_neg (by decide), if_pos (show nI 4 = 4 from rfl), cl5 w (by omega)]
theorem whl_out (d : SD) (w : Int32) : whlD d w (nI 5) = outI (hB (sTe d) (sTo d) (sLo d) (sHe d) w 0) := by
  rw [whlD, if_neg (by decide), if_neg (by decide), if_neg (by decide), if_neg (by decide), if_neg (by decide), if_pos (show nI 5 = 5 from rfl)]
theorem whl_he (d : SD) (w : Int32) : whlD d w (nI 3) = hB (sTe d) (sTo d) (sLo d) (sHe d) w 0 := by
  rw [whlD, if_neg (by decide), if_neg (by decide), if_neg (by decide), if_pos (show nI 3 = 3 from rfl)]
section
variable (th sv ln at9 pt nm op : Int32) (kp : Bool) (hs : Int64) (s tx bg tm : Nat → Int32)
theorem c_ofScene {d : SD} (hR : Rp s d) (hO : SOk d) (c i : Nat) (hc : sSc d = nI c) (hc6 : c ≤ 6) (hi : i < c) (x : Nat) (hx : x ≤ 7) : Con yX6_ofScene cX6_ofScene 3 (some .int) (rmk 4 93) [.ref 0, .int (nI i), .int (nI x)] (MW th sv ln at9 pt nm op kp hs s tx bg tm) (some (.int (scnD d (nI i) (nI x)))) (MW th sv ln at9 pt nm op kp hs s tx bg tm) := by
  refine Con.of (own := RX6) (by decide) rfl (Nat.le_of_ble_eq_true rfl) rfl (fun B M => ?_)
  have hs9 : ∀ k, k < 5 * (sSc d).toNatClampNeg → s (82 + k) = sScn d k := hR.2.2.2.2.2.2.2.2.2.2.2.1
  rw [hc, cl5 c (by omega)] at hs9
  refine r_iload_n M dX6_ofScene_0 rfl ?_
  rcases (show x < 5 ∨ x = 5 ∨ x = 6 ∨ x = 7 by omega) with h5 | rfl | rfl | rfl
  · refine r_tabOut M 63 dX6_ofScene_1 (Or.inl (by rw [nI_toInt (by omega)]; omega)) (by decide) ?_
    refine r_aload_n M dX6_ofScene_63 rfl ?_
    refine r_get M fl_X6_7 dX6_ofScene_64 rfl rfl ?_
    refine r_bipush M 82 dX6_ofScene_67 (by decide) ?_
    refine r_iconst M 5 dX6_ofScene_69 (by decide) ?_
    refine r_iload_n M dX6_ofScene_70 rfl ?_
    refine r_imul M dX6_ofScene_71 ?_
    refine r_iadd M dX6_ofScene_72 ?_
    refine r_iload_n M dX6_ofScene_73 rfl ?_
    refine r_iadd M dX6_ofScene_74 ?_
    rw [six]
    refine r_iald M dX6_ofScene_75 rfl (s_in (by omega)) ?_
    rw [cl_s (by omega), show s (82 + 5 * i + x) = sScn d (5 * i + x) from by rw [Nat.add_assoc]; exact hs9 _ (by omega)]
    exact r_iret M dX6_ofScene_76 rfl (by rw [← hSc_at (sScn d) i x (by omega) h5]; rcases (show x = 0 ∨ x = 1 ∨ x = 2 ∨ x = 3 ∨ x = 4 by omega) with rfl | rfl | rfl | rfl | rfl <;> rfl) rfl
  · refine r_tabIn M 28 dX6_ofScene_1 (by decide) (by decide) (off := 27) (by decide) (by decide) ?_
    refine r_aload_n M dX6_ofScene_28 rfl ?_
    refine r_iload_n M dX6_ofScene_29 rfl ?_
    refine r_iconst M 0 dX6_ofScene_30 (by decide) ?_
    refine r_V2ik M (c_isAsScene th sv ln at9 pt nm op kp hs s tx bg tm hR hO c i hc hc6 hi 0) lk_X6_142 dX6_ofScene_31 (by decide +kernel) ⟨Nat.le_of_ble_eq_true rfl, Nat.le_of_ble_eq_true rfl⟩ ⟨rfl, rfl⟩ [0, 1, 2, 3, 4] rfl rfl rfl (by decide +kernel) rfl (Nat.le_of_ble_eq_true rfl) ?_
    rw [show scnD d (nI i) (nI 5) = b2i (asSc (sTe d) (sTo d) (sLo d) (sHe d) (sScn d) (nI i) 0) from rfl] at M
    cases h : asSc (sTe d) (sTo d) (sLo d) (sHe d) (sScn d) (nI i) 0
    · rw [h] at M
      refine r_if_eq M 41 dX6_ofScene_34 (by decide) (fun _ => ?_) (fun h9 => absurd rfl h9)
      refine r_iconst M 0 dX6_ofScene_41 (by decide) ?_
      exact r_iret M dX6_ofScene_42 rfl rfl rfl
    · rw [h] at M
      refine r_if_eq M 41 dX6_ofScene_34 (by decide) (fun h9 => absurd h9 (by decide)) (fun _ => ?_)
      refine r_iconst M 1 dX6_ofScene_37 (by decide) ?_
      refine r_goto M 42 dX6_ofScene_38 (by decide) ?_
      exact r_iret M dX6_ofScene_42 rfl rfl rfl
  · refine r_tabIn M 43 dX6_ofScene_1 (by decide) (by decide) (off := 42) (by decide) (by decide) ?_
    refine r_aload_n M dX6_ofScene_43 rfl ?_
    refine r_iload_n M dX6_ofScene_44 rfl ?_
    refine r_V1ik M (c_isSceneAllowed th sv ln at9 pt nm op kp hs s tx bg tm hR hO c i hc hc6 hi) lk_X6_145 dX6_ofScene_45 (by decide +kernel) ⟨Nat.le_of_ble_eq_true rfl, Nat.le_of_ble_eq_true rfl⟩ ⟨rfl, rfl⟩ [0, 1, 2, 3, 4] rfl rfl rfl (by decide +kernel) rfl (Nat.le_of_ble_eq_true rfl) ?_
    rw [show scnD d (nI i) (nI 6) = b2i (decide (fltOf (hSc (sScn d) (nI i) 0) (hSc (sScn d) (nI i) 1) (hSc (sScn d) (nI i) 2) (hSc (sScn d) (nI i) 3) (hSc (sScn d) (nI i) 4) (sSe d) = 0)) from rfl] at M
    cases h : decide (fltOf (hSc (sScn d) (nI i) 0) (hSc (sScn d) (nI i) 1) (hSc (sScn d) (nI i) 2) (hSc (sScn d) (nI i) 3) (hSc (sScn d) (nI i) 4) (sSe d) = 0)
    · rw [h] at M
      refine r_if_eq M 55 dX6_ofScene_48 (by decide) (fun _ => ?_) (fun h9 => absurd rfl h9)
      refine r_iconst M 0 dX6_ofScene_55 (by decide) ?_
      exact r_iret M dX6_ofScene_56 rfl rfl rfl
    · rw [h] at M
      refine r_if_eq M 55 dX6_ofScene_48 (by decide) (fun h9 => absurd h9 (by decide)) (fun _ => ?_)
      refine r_iconst M 1 dX6_ofScene_51 (by decide) ?_
      refine r_goto M 56 dX6_ofScene_52 (by decide) ?_
      exact r_iret M dX6_ofScene_56 rfl rfl rfl
  · refine r_tabIn M 57 dX6_ofScene_1 (by decide) (by decide) (off := 56) (by decide) (by decide) ?_
    refine r_aload_n M dX6_ofScene_57 rfl ?_
    refine r_iload_n M dX6_ofScene_58 rfl ?_
    refine r_V1ik M (c_untilScene th sv ln at9 pt nm op kp hs s tx bg tm hR hO c i hc hc6 hi) lk_X6_148 dX6_ofScene_59 (by decide +kernel) ⟨Nat.le_of_ble_eq_true rfl, Nat.le_of_ble_eq_true rfl⟩ ⟨rfl, rfl⟩ [0, 1, 2, 3, 4] rfl rfl rfl (by decide +kernel) rfl (Nat.le_of_ble_eq_true rfl) ?_
    exact r_iret M dX6_ofScene_62 rfl rfl rfl
theorem c_mSceneF (c : Int32) (hc0 : ¬ c = 0) (x y : Int32) {d : SD} (hR : Rp s d) (h : (btw x 0 (sSc d - 1) = false ∧ c = 1) ∨ (btw x 0 (sSc d - 1) = true ∧ btw y 0 7 = false ∧ c = 2)) : Con yX6_scene cX6_scene 3 (some .int) (rmk 5 115) [.ref 0, .int x, .int y] (MW th sv ln at9 pt nm op kp hs s tx bg tm) (some (.int 0)) (MW c sv ln at9 pt nm op kp hs s tx bg tm) := by
  refine Con.of (own := RX6) (by decide) rfl (Nat.le_of_ble_eq_true rfl) rfl (fun B M => ?_)
  have go : B 28 [(0, .ref 0), (1, .int x), (2, .int y)] [.int c, .ref 0] (MW th sv ln at9 pt nm op kp hs s tx bg tm) := by
    refine r_V1iu (w' :=  MW c sv ln at9 pt nm op kp hs s tx bg tm) M (c_holds th sv ln at9 pt nm op kp hs s tx bg tm c) lk_X6_63 dX6_scene_28 (by decide +kernel) ⟨Nat.le_of_ble_eq_true rfl, Nat.le_of_ble_eq_true rfl⟩ ⟨rfl, rfl⟩ [0, 1, 2, 3, 4] rfl rfl rfl (by decide +kernel) rfl (Nat.le_of_ble_eq_true rfl) rfl ?_
    rw [decide_eq_false hc0]
    refine r_if_eq M 43 dX6_scene_31 (by decide) (fun _ => ?_) (fun h9 => absurd rfl h9)
    refine r_iconst M 0 dX6_scene_43 (by decide) ?_
    exact r_iret M dX6_scene_44 rfl rfl rfl
  refine r_aload_n M dX6_scene_0 rfl ?_
  refine r_aload_n M dX6_scene_1 rfl ?_
  refine r_iload_n M dX6_scene_2 rfl ?_
  refine r_V1ik M (c_mIsScene th ln at9 pt nm op kp hs s tx bg tm sv x hR) lk_X6_96 dX6_scene_3 (by decide +kernel) ⟨Nat.le_of_ble_eq_true rfl, Nat.le_of_ble_eq_true rfl⟩ ⟨rfl, rfl⟩ [0, 1, 2, 3, 4] rfl rfl rfl (by decide +kernel) rfl (Nat.le_of_ble_eq_true rfl) ?_
  rcases h with ⟨h, rfl⟩ | ⟨h, h2, rfl⟩
  · rw [h]
    refine r_if_ne M 13 dX6_scene_6 (by decide) (fun h9 => absurd rfl h9) (fun _ => ?_)
    refine r_iconst M 1 dX6_scene_9 (by decide) ?_
    refine r_goto M 28 dX6_scene_10 (by decide) ?_
    exact go
  · rw [h]
    refine r_if_ne M 13 dX6_scene_6 (by decide) (fun _ => ?_) (fun h9 => absurd h9 (by decide))
    refine r_iload_n M dX6_scene_13 rfl ?_
    refine r_iconst M 0 dX6_scene_14 (by decide) ?_
    refine r_bipush M 7 dX6_scene_15 (by decide) ?_
    refine r_S3ik M (c_in _ _ _) lk_X6_26 dX6_scene_17 (by decide +kernel) ⟨Nat.le_of_ble_eq_true rfl, Nat.le_of_ble_eq_true rfl⟩ ⟨rfl, rfl⟩ [] rfl (by decide +kernel) rfl (Nat.le_of_ble_eq_true rfl) ?_
    rw [h2]
    refine r_if_ne M 27 dX6_scene_20 (by decide) (fun h9 => absurd rfl h9) (fun _ => ?_)
    refine r_iconst M 2 dX6_scene_23 (by decide) ?_
    refine r_goto M 28 dX6_scene_24 (by decide) ?_
    exact go
theorem btw_sc {d : SD} {c i : Nat} (hc : sSc d = nI c) (hc6 : c ≤ 6) (hi : i < c) : btw (nI i) 0 (sSc d - 1) = true := by
  obtain ⟨k, rfl⟩ : ∃ k, c = k + 1 := ⟨c - 1, by omega⟩
  rw [hc, ← nI_1, Int32.add_sub_cancel]
  exact btw_nI (a := 0) (b := k) (by omega) (by omega) (by omega)
theorem c_mScene {d : SD} (hR : Rp s d) (hO : SOk d) (c i : Nat) (hc : sSc d = nI c) (hc6 : c ≤ 6) (hi : i < c) (x : Nat) (hx : x ≤ 7) : Con yX6_scene cX6_scene 3 (some .int) (rmk 5 115) [.ref 0, .int (nI i), .int (nI x)] (MW th sv ln at9 pt nm op kp hs s tx bg tm) (some (.int (scnD d (nI i) (nI x)))) (MW 0 sv ln at9 pt nm op kp hs s tx bg tm) := by
  refine Con.of (own := RX6) (by decide) rfl (Nat.le_of_ble_eq_true rfl) rfl (fun B M => ?_)
  refine r_aload_n M dX6_scene_0 rfl ?_
  refine r_aload_n M dX6_scene_1 rfl ?_
  refine r_iload_n M dX6_scene_2 rfl ?_
  refine r_V1ik M (c_mIsScene th ln at9 pt nm op kp hs s tx bg tm sv (nI i) hR) lk_X6_96 dX6_scene_3 (by decide +kernel) ⟨Nat.le_of_ble_eq_true rfl, Nat.le_of_ble_eq_true rfl⟩ ⟨rfl, rfl⟩ [0, 1, 2, 3, 4] rfl rfl rfl (by decide +kernel) rfl (Nat.le_of_ble_eq_true rfl) ?_
  rw [btw_sc hc hc6 hi]
  refine r_if_ne M 13 dX6_scene_6 (by decide) (fun _ => ?_) (fun h9 => absurd h9 (by decide))
  refine r_iload_n M dX6_scene_13 rfl ?_
  refine r_iconst M 0 dX6_scene_14 (by decide) ?_
  refine r_bipush M 7 dX6_scene_15 (by decide) ?_
  refine r_S3ik M (c_in _ _ _) lk_X6_26 dX6_scene_17 (by decide +kernel) ⟨Nat.le_of_ble_eq_true rfl, Nat.le_of_ble_eq_true rfl⟩ ⟨rfl, rfl⟩ [] rfl (by decide +kernel) rfl (Nat.le_of_ble_eq_true rfl) ?_
  rw [show btw (nI x) 0 7 = true from btw_nI (a := 0) (b := 7) (by omega) (by omega) (by omega)]
  refine r_if_ne M 27 dX6_scene_20 (by decide) (fun _ => ?_) (fun h9 => absurd h9 (by decide))
  refine r_iconst M 0 dX6_scene_27 (by decide) ?_
  refine r_V1iu (w' :=  MW 0 sv ln at9 pt nm op kp hs s tx bg tm) M (c_holds th sv ln at9 pt nm op kp hs s tx bg tm 0) lk_X6_63 dX6_scene_28 (by decide +kernel) ⟨Nat.le_of_ble_eq_true rfl, Nat.le_of_ble_eq_true rfl⟩ ⟨rfl, rfl⟩ [0, 1, 2, 3, 4] rfl rfl rfl (by decide +kernel) rfl (Nat.le_of_ble_eq_true rfl) rfl ?_
  refine r_if_eq M 43 dX6_scene_31 (by decide) (fun h9 => absurd h9 (by decide)) (fun _ => ?_)
  refine r_aload_n M dX6_scene_34 rfl ?_
  refine r_iload_n M dX6_scene_35 rfl ?_
  refine r_iload_n M dX6_scene_36 rfl ?_
  refine r_V2ik M (c_ofScene 0 sv ln at9 pt nm op kp hs s tx bg tm hR hO c i hc hc6 hi x hx) lk_X6_151 dX6_scene_37 (by decide +kernel) ⟨Nat.le_of_ble_eq_true rfl, Nat.le_of_ble_eq_true rfl⟩ ⟨rfl, rfl⟩ [0, 1, 2, 3, 4] rfl rfl rfl (by decide +kernel) rfl (Nat.le_of_ble_eq_true rfl) ?_
  refine r_goto M 44 dX6_scene_40 (by decide) ?_
  exact r_iret M dX6_scene_44 rfl rfl rfl
theorem c_mWheels {d : SD} (hR : Rp s d) (hO : SOk d) (hD : DOk d) (x : Nat) (hx : x ≤ 6) : Con yX6_wheels cX6_wheels 4 (some .int) (rmk 4 91) [.ref 0, .int (nI x)] (MW th sv ln at9 pt nm op kp hs s tx bg tm) (some (.int (sumf (fun j => whlD d (nI j) (nI x)) 5))) (MW th sv ln at9 pt nm op kp hs s tx bg tm) := by
  refine Con.of (own := RX6) (by decide) rfl (Nat.le_of_ble_eq_true rfl) rfl (fun B M => ?_)
  have loop : ∀ r k : Nat, k + r = 5 → B 4 [(0, .ref 0), (1, .int (nI x)), (2, .int (sumf (fun j => whlD d (nI j) (nI x)) k)), (3, .int (nI k))] [] (MW th sv ln at9 pt nm op kp hs s tx bg tm) := by
    intro r
    induction r with
    | zero =>
      intro k hk
      obtain rfl : k = 5 := by omega
      refine r_iload_n M dX6_wheels_4 rfl ?_
      refine r_iconst M 5 dX6_wheels_5 (by decide) ?_
      refine r_icmp_ge M 24 dX6_wheels_6 (by decide) (fun _ => ?_) (fun h9 => absurd (nI_geT (n := 5) rfl (by omega) (by omega)) h9)
      refine r_iload_n M dX6_wheels_24 rfl ?_
      exact r_iret M dX6_wheels_25 rfl rfl rfl
    | succ r ih =>
      intro k hk
      refine r_iload_n M dX6_wheels_4 rfl ?_
      refine r_iconst M 5 dX6_wheels_5 (by decide) ?_
      refine r_icmp_ge M 24 dX6_wheels_6 (by decide) (fun h9 => absurd h9 (nI_geF (n := 5) rfl (by omega) (by omega))) (fun _ => ?_)
      refine r_iload_n M dX6_wheels_9 rfl ?_
      refine r_aload_n M dX6_wheels_10 rfl ?_
      refine r_iload_n M dX6_wheels_11 rfl ?_
      refine r_iload_n M dX6_wheels_12 rfl ?_
      refine r_V2ik M (c_ofWheel th sv ln at9 pt nm op kp hs s tx bg tm hR hO hD k (by omega) x hx) lk_X6_136 dX6_wheels_13 (by decide +kernel) ⟨Nat.le_of_ble_eq_true rfl, Nat.le_of_ble_eq_true rfl⟩ ⟨rfl, rfl⟩ [0, 1, 2, 3, 4] rfl rfl rfl (by decide +kernel) rfl (Nat.le_of_ble_eq_true rfl) ?_
      refine r_iadd M dX6_wheels_16 ?_
      refine r_istore_n M dX6_wheels_17 (by decide) ?_
      refine r_iinc1 M dX6_wheels_18 rfl (by decide) ?_
      refine r_goto M 4 dX6_wheels_21 (by decide) ?_
      refine r_lvs M _ (lvs_c rfl (lvs_c rfl (lvs_c rfl (lvs_c ?_ lvs_n)))) (ih (k + 1) (by omega))
      rw [← nI_1 k]; rfl
  refine r_iconst M 0 dX6_wheels_0 (by decide) ?_
  refine r_istore_n M dX6_wheels_1 (by decide) ?_
  refine r_iconst M 0 dX6_wheels_2 (by decide) ?_
  refine r_istore_n M dX6_wheels_3 (by decide) ?_
  exact r_lvs M _ (lvs_c rfl (lvs_c rfl (lvs_c rfl (lvs_c rfl lvs_n)))) (loop 5 0 rfl)
theorem c_isWay (x : Int32) : Con yX6_isWay cX6_isWay 1 (some .boolean) (rmk 1 22) [.int x] [] (some (.int (b2i (btw x 0 1)))) [] := by
  refine Con.of (own := RX6) (by decide) rfl (Nat.le_of_ble_eq_true rfl) rfl (fun B M => ?_)
  refine r_iload_n M dX6_isWay_0 rfl ?_
  refine r_iconst M 0 dX6_isWay_1 (by decide) ?_
  refine r_iconst M 1 dX6_isWay_2 (by decide) ?_
  refine r_S3ik M (c_in _ _ _) lk_X6_26 dX6_isWay_3 (by decide +kernel) ⟨Nat.le_of_ble_eq_true rfl, Nat.le_of_ble_eq_true rfl⟩ ⟨rfl, rfl⟩ [] rfl (by decide +kernel) rfl (Nat.le_of_ble_eq_true rfl) ?_
  exact r_zret M dX6_isWay_6 rfl (b2i_nr _) rfl rfl
/-- the looks that ask for a way, with none -/
theorem c_mwhyF (x : Int32) (h : btw x 0 1 = false) : Con yX6_why cX6_why 2 (some .int) (rmk 4 94) [.ref 0, .int x] (MW th sv ln at9 pt nm op kp hs s tx bg tm) (some (.int 0)) (MW 1 sv ln at9 pt nm op kp hs s tx bg tm) := by
  refine Con.of (own := RX6) (by decide) rfl (Nat.le_of_ble_eq_true rfl) rfl (fun B M => ?_)
  refine r_aload_n M dX6_why_0 rfl ?_
  refine r_iload_n M dX6_why_1 rfl ?_
  refine r_S1ik M (c_isWay _) lk_X6_160 dX6_why_2 (by decide +kernel) ⟨Nat.le_of_ble_eq_true rfl, Nat.le_of_ble_eq_true rfl⟩ ⟨rfl, rfl⟩ [] rfl (by decide +kernel) rfl (Nat.le_of_ble_eq_true rfl) ?_
  rw [h]
  refine r_if_eq M 12 dX6_why_5 (by decide) (fun _ => ?_) (fun h9 => absurd rfl h9)
  refine r_iconst M 1 dX6_why_12 (by decide) ?_
  refine r_V1iu (w' :=  MW 1 sv ln at9 pt nm op kp hs s tx bg tm) M (c_holds th sv ln at9 pt nm op kp hs s tx bg tm 1) lk_X6_63 dX6_why_13 (by decide +kernel) ⟨Nat.le_of_ble_eq_true rfl, Nat.le_of_ble_eq_true rfl⟩ ⟨rfl, rfl⟩ [0, 1, 2, 3, 4] rfl rfl rfl (by decide +kernel) rfl (Nat.le_of_ble_eq_true rfl) rfl ?_
  refine r_if_eq M 32 dX6_why_16 (by decide) (fun _ => ?_) (fun h9 => absurd (by decide) h9)
  refine r_iconst M 0 dX6_why_32 (by decide) ?_
  exact r_iret M dX6_why_33 rfl rfl rfl
theorem c_mroundF (x : Int32) (h : btw x 0 1 = false) : Con yX6_round cX6_round 2 (some .int) (rmk 2 42) [.ref 0, .int x] (MW th sv ln at9 pt nm op kp hs s tx bg tm) (some (.int 0)) (MW 1 sv ln at9 pt nm op kp hs s tx bg tm) := by
  refine Con.of (own := RX6) (by decide) rfl (Nat.le_of_ble_eq_true rfl) rfl (fun B M => ?_)
  refine r_aload_n M dX6_round_0 rfl ?_
  refine r_iload_n M dX6_round_1 rfl ?_
  refine r_S1ik M (c_isWay _) lk_X6_160 dX6_round_2 (by decide +kernel) ⟨Nat.le_of_ble_eq_true rfl, Nat.le_of_ble_eq_true rfl⟩ ⟨rfl, rfl⟩ [] rfl (by decide +kernel) rfl (Nat.le_of_ble_eq_true rfl) ?_
  rw [h]
  refine r_if_eq M 12 dX6_round_5 (by decide) (fun _ => ?_) (fun h9 => absurd rfl h9)
  refine r_iconst M 1 dX6_round_12 (by decide) ?_
  refine r_V1iu (w' :=  MW 1 sv ln at9 pt nm op kp hs s tx bg tm) M (c_holds th sv ln at9 pt nm op kp hs s tx bg tm 1) lk_X6_63 dX6_round_13 (by decide +kernel) ⟨Nat.le_of_ble_eq_true rfl, Nat.le_of_ble_eq_true rfl⟩ ⟨rfl, rfl⟩ [0, 1, 2, 3, 4] rfl rfl rfl (by decide +kernel) rfl (Nat.le_of_ble_eq_true rfl) rfl ?_
  refine r_if_eq M 26 dX6_round_16 (by decide) (fun _ => ?_) (fun h9 => absurd (by decide) h9)
  refine r_iconst M 0 dX6_round_26 (by decide) ?_
  exact r_iret M dX6_round_27 rfl rfl rfl
theorem c_mjamsInF (x : Int32) (h : btw x 0 1 = false) : Con yX6_jamsIn cX6_jamsIn 2 (some .int) (rmk 4 94) [.ref 0, .int x] (MW th sv ln at9 pt nm op kp hs s tx bg tm) (some (.int 0)) (MW 1 sv ln at9 pt nm op kp hs s tx bg tm) := by
  refine Con.of (own := RX6) (by decide) rfl (Nat.le_of_ble_eq_true rfl) rfl (fun B M => ?_)
  refine r_aload_n M dX6_jamsIn_0 rfl ?_
  refine r_iload_n M dX6_jamsIn_1 rfl ?_
  refine r_S1ik M (c_isWay _) lk_X6_160 dX6_jamsIn_2 (by decide +kernel) ⟨Nat.le_of_ble_eq_true rfl, Nat.le_of_ble_eq_true rfl⟩ ⟨rfl, rfl⟩ [] rfl (by decide +kernel) rfl (Nat.le_of_ble_eq_true rfl) ?_
  rw [h]
  refine r_if_eq M 12 dX6_jamsIn_5 (by decide) (fun _ => ?_) (fun h9 => absurd rfl h9)
  refine r_iconst M 1 dX6_jamsIn_12 (by decide) ?_
  refine r_V1iu (w' :=  MW 1 sv ln at9 pt nm op kp hs s tx bg tm) M (c_holds th sv ln at9 pt nm op kp hs s tx bg tm 1) lk_X6_63 dX6_jamsIn_13 (by decide +kernel) ⟨Nat.le_of_ble_eq_true rfl, Nat.le_of_ble_eq_true rfl⟩ ⟨rfl, rfl⟩ [0, 1, 2, 3, 4] rfl rfl rfl (by decide +kernel) rfl (Nat.le_of_ble_eq_true rfl) rfl ?_
  refine r_if_eq M 27 dX6_jamsIn_16 (by decide) (fun _ => ?_) (fun h9 => absurd (by decide) h9)
  refine r_iconst M 0 dX6_jamsIn_27 (by decide) ?_
  exact r_iret M dX6_jamsIn_28 rfl rfl rfl
theorem c_mfreesF (x : Int32) (h : btw x 0 1 = false) : Con yX6_frees cX6_frees 2 (some .int) (rmk 5 117) [.ref 0, .int x] (MW th sv ln at9 pt nm op kp hs s tx bg tm) (some (.int 0)) (MW 1 sv ln at9 pt nm op kp hs s tx bg tm) := by
  refine Con.of (own := RX6) (by decide) rfl (Nat.le_of_ble_eq_true rfl) rfl (fun B M => ?_)
  refine r_aload_n M dX6_frees_0 rfl ?_
  refine r_iload_n M dX6_frees_1 rfl ?_
  refine r_S1ik M (c_isWay _) lk_X6_160 dX6_frees_2 (by decide +kernel) ⟨Nat.le_of_ble_eq_true rfl, Nat.le_of_ble_eq_true rfl⟩ ⟨rfl, rfl⟩ [] rfl (by decide +kernel) rfl (Nat.le_of_ble_eq_true rfl) ?_
  rw [h]
  refine r_if_eq M 12 dX6_frees_5 (by decide) (fun _ => ?_) (fun h9 => absurd rfl h9)
  refine r_iconst M 1 dX6_frees_12 (by decide) ?_
  refine r_V1iu (w' :=  MW 1 sv ln at9 pt nm op kp hs s tx bg tm) M (c_holds th sv ln at9 pt nm op kp hs s tx bg tm 1) lk_X6_63 dX6_frees_13 (by decide +kernel) ⟨Nat.le_of_ble_eq_true rfl, Nat.le_of_ble_eq_true rfl⟩ ⟨rfl, rfl⟩ [0, 1, 2, 3, 4] rfl rfl rfl (by decide +kernel) rfl (Nat.le_of_ble_eq_true rfl) rfl ?_
  refine r_if_eq M 27 dX6_frees_16 (by decide) (fun _ => ?_) (fun h9 => absurd (by decide) h9)
  refine r_iconst M 0 dX6_frees_27 (by decide) ?_
  exact r_iret M dX6_frees_28 rfl rfl rfl
theorem way1 {x : Int32} (hx : x = 0 ∨ x = 1) : 1 - 2 * x = (if x = 0 then 1 else -1) := by
  rcases hx with rfl | rfl <;> rfl
theorem btw_way {x : Int32} (hx : x = 0 ∨ x = 1) : btw x 0 1 = true := by
  rcases hx with rfl | rfl <;> decide
theorem c_mWhy {d : SD} (hR : Rp s d) (hO : SOk d) (x : Int32) (hx : x = 0 ∨ x = 1) : Con yX6_why cX6_why 2 (some .int) (rmk 4 94) [.ref 0, .int x] (MW th sv ln at9 pt nm op kp hs s tx bg tm) (some (.int (whyD d (if x = 0 then 1 else -1)))) (MW 0 sv ln at9 pt nm op kp hs s tx bg tm) := by
  refine Con.of (own := RX6) (by decide) rfl (Nat.le_of_ble_eq_true rfl) rfl (fun B M => ?_)
  refine r_aload_n M dX6_why_0 rfl ?_
  refine r_iload_n M dX6_why_1 rfl ?_
  refine r_S1ik M (c_isWay _) lk_X6_160 dX6_why_2 (by decide +kernel) ⟨Nat.le_of_ble_eq_true rfl, Nat.le_of_ble_eq_true rfl⟩ ⟨rfl, rfl⟩ [] rfl (by decide +kernel) rfl (Nat.le_of_ble_eq_true rfl) ?_
  rw [btw_way hx]
  refine r_if_eq M 12 dX6_why_5 (by decide) (fun h9 => absurd h9 (by decide)) (fun _ => ?_)
  refine r_iconst M 0 dX6_why_8 (by decide) ?_
  refine r_goto M 13 dX6_why_9 (by decide) ?_
  refine r_V1iu (w' :=  MW 0 sv ln at9 pt nm op kp hs s tx bg tm) M (c_holds th sv ln at9 pt nm op kp hs s tx bg tm 0) lk_X6_63 dX6_why_13 (by decide +kernel) ⟨Nat.le_of_ble_eq_true rfl, Nat.le_of_ble_eq_true rfl⟩ ⟨rfl, rfl⟩ [0, 1, 2, 3, 4] rfl rfl rfl (by decide +kernel) rfl (Nat.le_of_ble_eq_true rfl) rfl ?_
  refine r_if_eq M 32 dX6_why_16 (by decide) (fun h9 => absurd h9 (by decide)) (fun _ => ?_)
  refine r_aload_n M dX6_why_19 rfl ?_
  refine r_iconst M 1 dX6_why_20 (by decide) ?_
  refine r_iconst M 2 dX6_why_21 (by decide) ?_
  refine r_iload_n M dX6_why_22 rfl ?_
  refine r_imul M dX6_why_23 ?_
  refine r_isub M dX6_why_24 ?_
  refine r_iconst M (-1) dX6_why_25 (by decide) ?_
  rw [way1 hx]
  refine r_V2ik M (c_whyNot 0 sv ln at9 pt nm op kp hs s tx bg tm hR hO (if x = 0 then 1 else -1) (-1) (sLo d) (fun w h5 => lo_all d h5)) lk_X6_49 dX6_why_26 (by decide +kernel) ⟨Nat.le_of_ble_eq_true rfl, Nat.le_of_ble_eq_true rfl⟩ ⟨rfl, rfl⟩ [0, 1, 2, 3, 4] rfl rfl rfl (by decide +kernel) rfl (Nat.le_of_ble_eq_true rfl) ?_
  refine r_goto M 33 dX6_why_29 (by decide) ?_
  exact r_iret M dX6_why_33 rfl rfl rfl
theorem c_mRound {d : SD} (hR : Rp s d) (hO : SOk d) (x : Int32) (hx : x = 0 ∨ x = 1) : Con yX6_round cX6_round 2 (some .int) (rmk 2 42) [.ref 0, .int x] (MW th sv ln at9 pt nm op kp hs s tx bg tm) (some (.int (nI (rN (sTe d) (sLo d) 5)))) (MW 0 sv ln at9 pt nm op kp hs s tx bg tm) := by
  refine Con.of (own := RX6) (by decide) rfl (Nat.le_of_ble_eq_true rfl) rfl (fun B M => ?_)
  refine r_aload_n M dX6_round_0 rfl ?_
  refine r_iload_n M dX6_round_1 rfl ?_
  refine r_S1ik M (c_isWay _) lk_X6_160 dX6_round_2 (by decide +kernel) ⟨Nat.le_of_ble_eq_true rfl, Nat.le_of_ble_eq_true rfl⟩ ⟨rfl, rfl⟩ [] rfl (by decide +kernel) rfl (Nat.le_of_ble_eq_true rfl) ?_
  rw [btw_way hx]
  refine r_if_eq M 12 dX6_round_5 (by decide) (fun h9 => absurd h9 (by decide)) (fun _ => ?_)
  refine r_iconst M 0 dX6_round_8 (by decide) ?_
  refine r_goto M 13 dX6_round_9 (by decide) ?_
  refine r_V1iu (w' :=  MW 0 sv ln at9 pt nm op kp hs s tx bg tm) M (c_holds th sv ln at9 pt nm op kp hs s tx bg tm 0) lk_X6_63 dX6_round_13 (by decide +kernel) ⟨Nat.le_of_ble_eq_true rfl, Nat.le_of_ble_eq_true rfl⟩ ⟨rfl, rfl⟩ [0, 1, 2, 3, 4] rfl rfl rfl (by decide +kernel) rfl (Nat.le_of_ble_eq_true rfl) rfl ?_
  refine r_if_eq M 26 dX6_round_16 (by decide) (fun h9 => absurd h9 (by decide)) (fun _ => ?_)
  refine r_aload_n M dX6_round_19 rfl ?_
  refine r_V0ik M (c_mRounds 0 sv ln at9 pt nm op kp hs s tx bg tm hR hO) lk_X6_139 dX6_round_20 (by decide +kernel) ⟨Nat.le_of_ble_eq_true rfl, Nat.le_of_ble_eq_true rfl⟩ ⟨rfl, rfl⟩ [0, 1, 2, 3, 4] rfl rfl rfl (by decide +kernel) rfl (Nat.le_of_ble_eq_true rfl) ?_
  refine r_goto M 27 dX6_round_23 (by decide) ?_
  exact r_iret M dX6_round_27 rfl rfl rfl
end


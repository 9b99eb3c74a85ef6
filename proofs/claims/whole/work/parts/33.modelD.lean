section
variable (th ln at9 pt nm op : Int32) (kp : Bool) (hs : Int64) (s tx bg tm : Nat → Int32) (v : Nat)
/-- what a thrown command answers in the model -/
theorem c_mHandF (c : Int32) (hc0 : ¬ c = 0) (x y : Int32) (h : (btw x 0 4 = false ∧ c = 1) ∨ (btw x 0 4 = true ∧ btw y 1 11 = false ∧ c = 2)) : Con yX6_hand cX6_hand 4 (some .int) (rmk 5 115) [.ref 0, .int x, .int y] (MW th (nI v) ln at9 pt nm op kp hs s tx bg tm) (some (.int 0)) (MW c (nI v) ln at9 pt nm op kp hs s tx bg tm) := by
  refine Con.of (own := RX6) (by decide) rfl (Nat.le_of_ble_eq_true rfl) rfl (fun B M => ?_)
  have go : B 27 [(0, .ref 0), (1, .int x), (2, .int y)] [.int c, .ref 0] (MW th (nI v) ln at9 pt nm op kp hs s tx bg tm) := by
    refine r_V1iu (w' :=  MW c (nI v) ln at9 pt nm op kp hs s tx bg tm) M (c_holds th (nI v) ln at9 pt nm op kp hs s tx bg tm c) lk_X6_63 dX6_hand_27 (by decide +kernel) ⟨Nat.le_of_ble_eq_true rfl, Nat.le_of_ble_eq_true rfl⟩ ⟨rfl, rfl⟩ [0, 1, 2, 3, 4] rfl rfl rfl (by decide +kernel) rfl (Nat.le_of_ble_eq_true rfl) rfl ?_
    rw [decide_eq_false hc0]
    refine r_if_ne M 35 dX6_hand_30 (by decide) (fun h9 => absurd rfl h9) (fun _ => ?_)
    refine r_iconst M 0 dX6_hand_33 (by decide) ?_
    exact r_iret M dX6_hand_34 rfl rfl rfl
  refine r_aload_n M dX6_hand_0 rfl ?_
  refine r_iload_n M dX6_hand_1 rfl ?_
  refine r_S1ik M (c_mIsWheel _) lk_X6_76 dX6_hand_2 (by decide +kernel) ⟨Nat.le_of_ble_eq_true rfl, Nat.le_of_ble_eq_true rfl⟩ ⟨rfl, rfl⟩ [] rfl (by decide +kernel) rfl (Nat.le_of_ble_eq_true rfl) ?_
  rcases h with ⟨h, rfl⟩ | ⟨h, h2, rfl⟩
  · rw [h]
    refine r_if_ne M 12 dX6_hand_5 (by decide) (fun h9 => absurd rfl h9) (fun _ => ?_)
    refine r_iconst M 1 dX6_hand_8 (by decide) ?_
    refine r_goto M 27 dX6_hand_9 (by decide) ?_
    exact go
  · rw [h]
    refine r_if_ne M 12 dX6_hand_5 (by decide) (fun _ => ?_) (fun h9 => absurd h9 (by decide))
    refine r_iload_n M dX6_hand_12 rfl ?_
    refine r_iconst M 1 dX6_hand_13 (by decide) ?_
    refine r_bipush M 11 dX6_hand_14 (by decide) ?_
    refine r_S3ik M (c_in _ _ _) lk_X6_26 dX6_hand_16 (by decide +kernel) ⟨Nat.le_of_ble_eq_true rfl, Nat.le_of_ble_eq_true rfl⟩ ⟨rfl, rfl⟩ [] rfl (by decide +kernel) rfl (Nat.le_of_ble_eq_true rfl) ?_
    rw [h2]
    refine r_if_ne M 26 dX6_hand_19 (by decide) (fun h9 => absurd rfl h9) (fun _ => ?_)
    refine r_iconst M 2 dX6_hand_22 (by decide) ?_
    refine r_goto M 27 dX6_hand_23 (by decide) ?_
    exact go
theorem c_mHand (hv : v ≤ 6) (w : Nat) (h5 : w < 5) (y : Int32) (hy : btw y 1 11 = true) {d d' : SD} (hR : Rp s d) (hO : SOk d) (hR' : Rp (upd s (5 + w) (md (sTo d w + y) (sTe d w))) d') (hO' : SOk d') :
    (sLo d w = false ∧ alD d' = true → Con yX6_hand cX6_hand 4 (some .int) (rmk 5 115) [.ref 0, .int (nI w), .int y] (MW th (nI v) ln at9 pt nm op kp hs s tx bg tm) (some (.int (md (sTo d w + y) (sTe d w)))) (MW 0 (nI (puK v)) ln at9 pt nm op kp hs (upd (svS s v) (5 + w) (md (sTo d w + y) (sTe d w))) tx bg tm)) ∧
    (sLo d w = true ∨ alD d' = false → Con yX6_hand cX6_hand 4 (some .int) (rmk 5 115) [.ref 0, .int (nI w), .int y] (MW th (nI v) ln at9 pt nm op kp hs s tx bg tm) (some (.int 0)) (MW 3 (nI v) ln at9 pt nm op kp hs s tx bg tm)) := by
  have hb : btw (nI w) 0 4 = true := btw_nI (a := 0) (b := 4) (by omega) (by omega) (by omega)
  have hc := c_changed 0 ln at9 pt nm op kp hs s tx bg tm v hv (5 + w) (by omega) (md (sTo d w + y) (sTe d w))
  have hw := c_wouldBe 0 (nI v) ln at9 pt nm op kp hs s tx bg tm (5 + w) (by omega) (md (sTo d w + y) (sTe d w)) hR' hO'
  have q2 := hR.2.1 w h5
  have q1 := hR.1 w h5
  have q3 := hR.2.2.1 w h5
  obtain ⟨m, b, a1, a2, a3, -⟩ := hO.1 w h5
  have hd : 1 ≤ sTe d w := by rw [a3]; exact le1 (by omega) (by omega)
  have e10 : (10 : Int32) + nI w = nI (10 + w) := nI_add 10 w
  have e5 : (5 : Int32) + nI w = nI (5 + w) := nI_add 5 w
  have e0 : (0 : Int32) + nI w = nI w := by rw [show (0 : Int32) = nI 0 from rfl, nI_add, Nat.zero_add]
  generalize hz : md (sTo d w + y) (sTe d w) = z at hc hw ⊢
  generalize upd (svS s v) (5 + w) z = s2 at hc ⊢
  generalize puK v = v2 at hc ⊢
  constructor
  · intro hh
    refine Con.of (own := RX6) (by decide) rfl (Nat.le_of_ble_eq_true rfl) rfl (fun B M => ?_)
    refine r_aload_n M dX6_hand_0 rfl ?_
    refine r_iload_n M dX6_hand_1 rfl ?_
    refine r_S1ik M (c_mIsWheel _) lk_X6_76 dX6_hand_2 (by decide +kernel) ⟨Nat.le_of_ble_eq_true rfl, Nat.le_of_ble_eq_true rfl⟩ ⟨rfl, rfl⟩ [] rfl (by decide +kernel) rfl (Nat.le_of_ble_eq_true rfl) ?_
    rw [hb]
    refine r_if_ne M 12 dX6_hand_5 (by decide) (fun _ => ?_) (fun h9 => absurd h9 (by decide))
    refine r_iload_n M dX6_hand_12 rfl ?_
    refine r_iconst M 1 dX6_hand_13 (by decide) ?_
    refine r_bipush M 11 dX6_hand_14 (by decide) ?_
    refine r_S3ik M (c_in _ _ _) lk_X6_26 dX6_hand_16 (by decide +kernel) ⟨Nat.le_of_ble_eq_true rfl, Nat.le_of_ble_eq_true rfl⟩ ⟨rfl, rfl⟩ [] rfl (by decide +kernel) rfl (Nat.le_of_ble_eq_true rfl) ?_
    rw [hy]
    refine r_if_ne M 26 dX6_hand_19 (by decide) (fun _ => ?_) (fun h9 => absurd h9 (by decide))
    refine r_iconst M 0 dX6_hand_26 (by decide) ?_
    refine r_V1iu (w' :=  MW 0 (nI v) ln at9 pt nm op kp hs s tx bg tm) M (c_holds th (nI v) ln at9 pt nm op kp hs s tx bg tm 0) lk_X6_63 dX6_hand_27 (by decide +kernel) ⟨Nat.le_of_ble_eq_true rfl, Nat.le_of_ble_eq_true rfl⟩ ⟨rfl, rfl⟩ [0, 1, 2, 3, 4] rfl rfl rfl (by decide +kernel) rfl (Nat.le_of_ble_eq_true rfl) rfl ?_
    refine r_if_ne M 35 dX6_hand_30 (by decide) (fun _ => ?_) (fun h9 => absurd h9 (by decide))
    refine r_aload_n M dX6_hand_35 rfl ?_
    refine r_get M fl_X6_7 dX6_hand_36 rfl rfl ?_
    refine r_iconst M 5 dX6_hand_39 (by decide) ?_
    refine r_iload_n M dX6_hand_40 rfl ?_
    refine r_iadd M dX6_hand_41 ?_
    rw [e5]
    refine r_iald M dX6_hand_42 rfl (s_in (by omega)) ?_
    rw [cl_s (by omega), q2]
    refine r_iload_n M dX6_hand_43 rfl ?_
    refine r_iadd M dX6_hand_44 ?_
    refine r_aload_n M dX6_hand_45 rfl ?_
    refine r_get M fl_X6_7 dX6_hand_46 rfl rfl ?_
    refine r_iconst M 0 dX6_hand_49 (by decide) ?_
    refine r_iload_n M dX6_hand_50 rfl ?_
    refine r_iadd M dX6_hand_51 ?_
    rw [e0]
    refine r_iald M dX6_hand_52 rfl (s_in (by omega)) ?_
    rw [cl_s (by omega), q1]
    refine r_S2ik M (c_leftOver _ _ hd) lk_X6_30 dX6_hand_53 (by decide +kernel) ⟨Nat.le_of_ble_eq_true rfl, Nat.le_of_ble_eq_true rfl⟩ ⟨rfl, rfl⟩ [] rfl (by decide +kernel) rfl (Nat.le_of_ble_eq_true rfl) ?_
    rw [hz]
    refine r_istore_n M dX6_hand_56 (by decide) ?_
    refine r_aload_n M dX6_hand_57 rfl ?_
    refine r_aload_n M dX6_hand_58 rfl ?_
    refine r_get M fl_X6_7 dX6_hand_59 rfl rfl ?_
    refine r_bipush M 10 dX6_hand_62 (by decide) ?_
    refine r_iload_n M dX6_hand_64 rfl ?_
    refine r_iadd M dX6_hand_65 ?_
    rw [e10]
    refine r_iald M dX6_hand_66 rfl (s_in (by omega)) ?_
    rw [cl_s (by omega), q3]
    refine r_iconst M 1 dX6_hand_67 (by decide) ?_
    refine r_icmp_eq M 82 dX6_hand_68 (by decide) (fun h9 => absurd h9 (by rw [hh.1]; decide)) (fun _ => ?_)
    refine r_aload_n M dX6_hand_71 rfl ?_
    refine r_iconst M 5 dX6_hand_72 (by decide) ?_
    refine r_iload_n M dX6_hand_73 rfl ?_
    refine r_iadd M dX6_hand_74 ?_
    refine r_iload_n M dX6_hand_75 rfl ?_
    rw [e5]
    refine r_V2ik M (by first | exact hw | skip) lk_X6_82 dX6_hand_76 (by decide +kernel) ⟨Nat.le_of_ble_eq_true rfl, Nat.le_of_ble_eq_true rfl⟩ ⟨rfl, rfl⟩ [0, 1, 2, 3, 4] rfl rfl rfl (by decide +kernel) rfl (Nat.le_of_ble_eq_true rfl) ?_
    refine r_if_ne M 86 dX6_hand_79 (by decide) (fun _ => ?_) (fun h9 => absurd h9 (by rw [hh.2]; decide))
    refine r_iconst M 0 dX6_hand_86 (by decide) ?_
    refine r_V1iu (w' :=  MW 0 (nI v) ln at9 pt nm op kp hs s tx bg tm) M (c_holds 0 (nI v) ln at9 pt nm op kp hs s tx bg tm 0) lk_X6_63 dX6_hand_87 (by decide +kernel) ⟨Nat.le_of_ble_eq_true rfl, Nat.le_of_ble_eq_true rfl⟩ ⟨rfl, rfl⟩ [0, 1, 2, 3, 4] rfl rfl rfl (by decide +kernel) rfl (Nat.le_of_ble_eq_true rfl) rfl ?_
    refine r_if_ne M 95 dX6_hand_90 (by decide) (fun _ => ?_) (fun h9 => absurd h9 (by decide))
    refine r_aload_n M dX6_hand_95 rfl ?_
    refine r_iconst M 5 dX6_hand_96 (by decide) ?_
    refine r_iload_n M dX6_hand_97 rfl ?_
    refine r_iadd M dX6_hand_98 ?_
    refine r_iload_n M dX6_hand_99 rfl ?_
    rw [e5]
    refine r_V2iu (w' :=  MW 0 (nI v2) ln at9 pt nm op kp hs s2 tx bg tm) M hc lk_X6_86 dX6_hand_100 (by decide +kernel) ⟨Nat.le_of_ble_eq_true rfl, Nat.le_of_ble_eq_true rfl⟩ ⟨rfl, rfl⟩ [0, 1, 2, 3, 4] rfl rfl rfl (by decide +kernel) rfl (Nat.le_of_ble_eq_true rfl) rfl ?_
    refine r_pop M dX6_hand_103 rfl ?_
    refine r_iload_n M dX6_hand_104 rfl ?_
    exact r_iret M dX6_hand_105 rfl rfl rfl
  · intro hh
    refine Con.of (own := RX6) (by decide) rfl (Nat.le_of_ble_eq_true rfl) rfl (fun B M => ?_)
    have go : B 82 [(0, .ref 0), (1, .int (nI w)), (2, .int y), (3, .int z)] [.ref 0] (MW 0 (nI v) ln at9 pt nm op kp hs s tx bg tm) := by
      refine r_iconst M 3 dX6_hand_82 (by decide) ?_
      refine r_goto M 87 dX6_hand_83 (by decide) ?_
      refine r_V1iu (w' :=  MW 3 (nI v) ln at9 pt nm op kp hs s tx bg tm) M (c_holds 0 (nI v) ln at9 pt nm op kp hs s tx bg tm 3) lk_X6_63 dX6_hand_87 (by decide +kernel) ⟨Nat.le_of_ble_eq_true rfl, Nat.le_of_ble_eq_true rfl⟩ ⟨rfl, rfl⟩ [0, 1, 2, 3, 4] rfl rfl rfl (by decide +kernel) rfl (Nat.le_of_ble_eq_true rfl) rfl ?_
      refine r_if_ne M 95 dX6_hand_90 (by decide) (fun h9 => absurd (by decide) h9) (fun _ => ?_)
      refine r_iconst M 0 dX6_hand_93 (by decide) ?_
      exact r_iret M dX6_hand_94 rfl rfl rfl
    refine r_aload_n M dX6_hand_0 rfl ?_
    refine r_iload_n M dX6_hand_1 rfl ?_
    refine r_S1ik M (c_mIsWheel _) lk_X6_76 dX6_hand_2 (by decide +kernel) ⟨Nat.le_of_ble_eq_true rfl, Nat.le_of_ble_eq_true rfl⟩ ⟨rfl, rfl⟩ [] rfl (by decide +kernel) rfl (Nat.le_of_ble_eq_true rfl) ?_
    rw [hb]
    refine r_if_ne M 12 dX6_hand_5 (by decide) (fun _ => ?_) (fun h9 => absurd h9 (by decide))
    refine r_iload_n M dX6_hand_12 rfl ?_
    refine r_iconst M 1 dX6_hand_13 (by decide) ?_
    refine r_bipush M 11 dX6_hand_14 (by decide) ?_
    refine r_S3ik M (c_in _ _ _) lk_X6_26 dX6_hand_16 (by decide +kernel) ⟨Nat.le_of_ble_eq_true rfl, Nat.le_of_ble_eq_true rfl⟩ ⟨rfl, rfl⟩ [] rfl (by decide +kernel) rfl (Nat.le_of_ble_eq_true rfl) ?_
    rw [hy]
    refine r_if_ne M 26 dX6_hand_19 (by decide) (fun _ => ?_) (fun h9 => absurd h9 (by decide))
    refine r_iconst M 0 dX6_hand_26 (by decide) ?_
    refine r_V1iu (w' :=  MW 0 (nI v) ln at9 pt nm op kp hs s tx bg tm) M (c_holds th (nI v) ln at9 pt nm op kp hs s tx bg tm 0) lk_X6_63 dX6_hand_27 (by decide +kernel) ⟨Nat.le_of_ble_eq_true rfl, Nat.le_of_ble_eq_true rfl⟩ ⟨rfl, rfl⟩ [0, 1, 2, 3, 4] rfl rfl rfl (by decide +kernel) rfl (Nat.le_of_ble_eq_true rfl) rfl ?_
    refine r_if_ne M 35 dX6_hand_30 (by decide) (fun _ => ?_) (fun h9 => absurd h9 (by decide))
    refine r_aload_n M dX6_hand_35 rfl ?_
    refine r_get M fl_X6_7 dX6_hand_36 rfl rfl ?_
    refine r_iconst M 5 dX6_hand_39 (by decide) ?_
    refine r_iload_n M dX6_hand_40 rfl ?_
    refine r_iadd M dX6_hand_41 ?_
    rw [e5]
    refine r_iald M dX6_hand_42 rfl (s_in (by omega)) ?_
    rw [cl_s (by omega), q2]
    refine r_iload_n M dX6_hand_43 rfl ?_
    refine r_iadd M dX6_hand_44 ?_
    refine r_aload_n M dX6_hand_45 rfl ?_
    refine r_get M fl_X6_7 dX6_hand_46 rfl rfl ?_
    refine r_iconst M 0 dX6_hand_49 (by decide) ?_
    refine r_iload_n M dX6_hand_50 rfl ?_
    refine r_iadd M dX6_hand_51 ?_
    rw [e0]
    refine r_iald M dX6_hand_52 rfl (s_in (by omega)) ?_
    rw [cl_s (by omega), q1]
    refine r_S2ik M (c_leftOver _ _ hd) lk_X6_30 dX6_hand_53 (by decide +kernel) ⟨Nat.le_of_ble_eq_true rfl, Nat.le_of_ble_eq_true rfl⟩ ⟨rfl, rfl⟩ [] rfl (by decide +kernel) rfl (Nat.le_of_ble_eq_true rfl) ?_
    rw [hz]
    refine r_istore_n M dX6_hand_56 (by decide) ?_
    refine r_aload_n M dX6_hand_57 rfl ?_
    refine r_aload_n M dX6_hand_58 rfl ?_
    refine r_get M fl_X6_7 dX6_hand_59 rfl rfl ?_
    refine r_bipush M 10 dX6_hand_62 (by decide) ?_
    refine r_iload_n M dX6_hand_64 rfl ?_
    refine r_iadd M dX6_hand_65 ?_
    rw [e10]
    refine r_iald M dX6_hand_66 rfl (s_in (by omega)) ?_
    rw [cl_s (by omega), q3]
    refine r_iconst M 1 dX6_hand_67 (by decide) ?_
    cases hl : sLo d w
    · refine r_icmp_eq M 82 dX6_hand_68 (by decide) (fun h9 => absurd h9 (by decide)) (fun _ => ?_)
      refine r_aload_n M dX6_hand_71 rfl ?_
      refine r_iconst M 5 dX6_hand_72 (by decide) ?_
      refine r_iload_n M dX6_hand_73 rfl ?_
      refine r_iadd M dX6_hand_74 ?_
      refine r_iload_n M dX6_hand_75 rfl ?_
      rw [e5]
      refine r_V2ik M hw lk_X6_82 dX6_hand_76 (by decide +kernel) ⟨Nat.le_of_ble_eq_true rfl, Nat.le_of_ble_eq_true rfl⟩ ⟨rfl, rfl⟩ [0, 1, 2, 3, 4] rfl rfl rfl (by decide +kernel) rfl (Nat.le_of_ble_eq_true rfl) ?_
      rcases hh with hh | hh
      · rw [hl] at hh; cases hh
      · refine r_if_ne M 86 dX6_hand_79 (by decide) (fun h9 => absurd (by rw [hh]; rfl) h9) (fun _ => ?_)
        exact r_lvs M _ (lvs_c rfl (lvs_c rfl (lvs_c rfl (lvs_c rfl lvs_n)))) go
    · refine r_icmp_eq M 82 dX6_hand_68 (by decide) (fun _ => ?_) (fun h9 => absurd rfl h9)
      exact r_lvs M _ (lvs_c rfl (lvs_c rfl (lvs_c rfl (lvs_c rfl lvs_n)))) go
theorem c_mIsTooth (sv : Int32) (x y : Int32) {d : SD} (hR : Rp s d) : Con yX6_isTooth cX6_isTooth 3 (some .boolean) (rmk 2 42) [.ref 0, .int x, .int y] (MW th sv ln at9 pt nm op kp hs s tx bg tm) (some (.int (b2i (if btw x 0 4 = true then btw y 0 (sTe d x.toNatClampNeg - 1) else false)))) (MW th sv ln at9 pt nm op kp hs s tx bg tm) := by
  refine Con.of (own := RX6) (by decide) rfl (Nat.le_of_ble_eq_true rfl) rfl (fun B M => ?_)
  have bad : (if btw x 0 4 = true then btw y 0 (sTe d x.toNatClampNeg - 1) else false) = false → B 29 [(0, .ref 0), (1, .int x), (2, .int y)] [] (MW th sv ln at9 pt nm op kp hs s tx bg tm) := by
    intro hh
    rw [hh] at M
    refine r_iconst M 0 dX6_isTooth_29 (by decide) ?_
    exact r_zret M dX6_isTooth_30 rfl (by decide) rfl rfl
  refine r_iload_n M dX6_isTooth_0 rfl ?_
  refine r_S1ik M (c_mIsWheel _) lk_X6_76 dX6_isTooth_1 (by decide +kernel) ⟨Nat.le_of_ble_eq_true rfl, Nat.le_of_ble_eq_true rfl⟩ ⟨rfl, rfl⟩ [] rfl (by decide +kernel) rfl (Nat.le_of_ble_eq_true rfl) ?_
  cases hb : btw x 0 4
  · refine r_if_eq M 29 dX6_isTooth_4 (by decide) (fun _ => ?_) (fun h9 => absurd rfl h9)
    exact bad (by rw [if_neg (by rw [hb]; decide)])
  · rw [if_pos hb] at M bad
    obtain ⟨w, h5, rfl⟩ : ∃ w, w < 5 ∧ x = nI w := by
      rw [btw, decide_eq_true_iff, Int32.le_iff_toInt_le, Int32.le_iff_toInt_le, show (0 : Int32).toInt = 0 from rfl, show (4 : Int32).toInt = 4 from rfl] at hb
      refine ⟨x.toInt.toNat, by omega, ?_⟩
      rw [← Int32.toInt_inj, nI_toInt (by omega)]
      omega
    have e0 : (0 : Int32) + nI w = nI w := by rw [show (0 : Int32) = nI 0 from rfl, nI_add, Nat.zero_add]
    rw [cl_s (by omega)] at M bad
    refine r_if_eq M 29 dX6_isTooth_4 (by decide) (fun h9 => absurd h9 (by decide)) (fun _ => ?_)
    refine r_iload_n M dX6_isTooth_7 rfl ?_
    refine r_iconst M 0 dX6_isTooth_8 (by decide) ?_
    refine r_aload_n M dX6_isTooth_9 rfl ?_
    refine r_get M fl_X6_7 dX6_isTooth_10 rfl rfl ?_
    refine r_iconst M 0 dX6_isTooth_13 (by decide) ?_
    refine r_iload_n M dX6_isTooth_14 rfl ?_
    refine r_iadd M dX6_isTooth_15 ?_
    rw [e0]
    refine r_iald M dX6_isTooth_16 rfl (s_in (by omega)) ?_
    rw [cl_s (by omega), hR.1 w h5]
    refine r_iconst M 1 dX6_isTooth_17 (by decide) ?_
    refine r_isub M dX6_isTooth_18 ?_
    refine r_S3ik M (c_in _ _ _) lk_X6_26 dX6_isTooth_19 (by decide +kernel) ⟨Nat.le_of_ble_eq_true rfl, Nat.le_of_ble_eq_true rfl⟩ ⟨rfl, rfl⟩ [] rfl (by decide +kernel) rfl (Nat.le_of_ble_eq_true rfl) ?_
    cases hb2 : btw y 0 (sTe d w - 1)
    · refine r_if_eq M 29 dX6_isTooth_22 (by decide) (fun _ => ?_) (fun h9 => absurd rfl h9)
      exact bad hb2
    · rw [hb2] at M
      refine r_if_eq M 29 dX6_isTooth_22 (by decide) (fun h9 => absurd h9 (by decide)) (fun _ => ?_)
      refine r_iconst M 1 dX6_isTooth_25 (by decide) ?_
      refine r_goto M 30 dX6_isTooth_26 (by decide) ?_
      exact r_zret M dX6_isTooth_30 rfl (by decide) rfl rfl
end


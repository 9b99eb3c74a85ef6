section
variable (th ln at9 pt nm op : Int32) (kp : Bool) (s tx bg tm : Nat → Int32) (sv : Int32)
theorem c_mMix (hs v : Int64) : Con yX6_mix cX6_mix 3 none (rmk 0 0) [.ref 0, .long v] (MW th sv ln at9 pt nm op kp hs s tx bg tm) none (MW th sv ln at9 pt nm op kp (31 * hs + v) s tx bg tm) := by
  refine Con.of (own := RX6) (by decide) rfl (Nat.le_of_ble_eq_true rfl) rfl (fun B M => ?_)
  refine r_aload_n M dX6_mix_0 rfl ?_
  refine r_ldc2 M kc_X6_178 dX6_mix_1 ?_
  refine r_aload_n M dX6_mix_4 rfl ?_
  refine r_get M fl_X6_180 dX6_mix_5 rfl rfl ?_
  refine r_lmul M dX6_mix_8 ?_
  refine r_lload_n M dX6_mix_9 rfl ?_
  refine r_ladd M dX6_mix_10 ?_
  refine r_put M fl_X6_180 ff_6_12 dX6_mix_11 rfl rfl rfl (fun _ => rfl) (Nat.le_of_ble_eq_true rfl) ?_
  exact r_vret M dX6_mix_14 rfl rfl rfl
theorem c_mixParts {d : SD} (hR : Rp s d) (hO : SOk d) (hD : DOk d) (c : Nat) (hc : sSc d = nI c) (hc6 : c ≤ 6) (hs : Int64) : Con yX6_mixParts cX6_mixParts 3 none (rmk 5 115) [.ref 0] (MW th sv ln at9 pt nm op kp hs s tx bg tm) none (MW th sv ln at9 pt nm op kp (mixSc d c (foldN (fun k => b2i (sSt d k)) 60 (mixWs d 5 hs))) s tx bg tm) := by
  refine Con.of (own := RX6) (by decide) rfl (Nat.le_of_ble_eq_true rfl) rfl (fun B M => ?_)
  have hst : ∀ k, k < 60 → s (112 + k) = b2i (sSt d k) := hR.2.2.2.2.2.2.2.2.2.2.2.2
  have h81 : s 81 = nI c := hR.2.2.2.2.2.2.2.2.2.2.1.trans hc
  obtain ⟨h1, eh1⟩ : ∃ h1, h1 = mixWs d 5 hs := ⟨_, rfl⟩
  obtain ⟨h2, eh2⟩ : ∃ h2, h2 = foldN (fun k => b2i (sSt d k)) 60 h1 := ⟨_, rfl⟩
  rw [← eh1, ← eh2] at M
  have scenes : ∀ r k : Nat, k + r = c → B 107 [(0, .ref 0), (1, .int (nI k))] [] (MW th sv ln at9 pt nm op kp (mixSc d k h2) s tx bg tm) := by
    intro r
    induction r with
    | zero =>
      intro k hk
      obtain rfl : k = c := by omega
      refine r_iload_n M dX6_mixParts_107 rfl ?_
      refine r_aload_n M dX6_mixParts_108 rfl ?_
      refine r_get M fl_X6_7 dX6_mixParts_109 rfl rfl ?_
      refine r_bipush M 81 dX6_mixParts_112 (by decide) ?_
      refine r_iald M dX6_mixParts_114 rfl (s_in (j := 81) (by omega)) ?_
      rw [show (81 : Int32).toNatClampNeg = 81 from rfl, h81]
      refine r_icmp_ge M 149 dX6_mixParts_115 (by decide) (fun _ => ?_) (fun h9 => absurd (nI_le (Nat.le_refl _) (by omega)) h9)
      exact r_vret M dX6_mixParts_149 rfl rfl rfl
    | succ r ih =>
      intro k hk
      have inner : ∀ r2 j : Nat, j + r2 = 8 → B 120 [(0, .ref 0), (1, .int (nI k)), (2, .int (nI j))] [] (MW th sv ln at9 pt nm op kp (foldN (fun x => scnD d (nI k) (nI x)) j (mixSc d k h2)) s tx bg tm) := by
        intro r2
        induction r2 with
        | zero =>
          intro j hj
          obtain rfl : j = 8 := by omega
          refine r_iload_n M dX6_mixParts_120 rfl ?_
          refine r_bipush M 8 dX6_mixParts_121 (by decide) ?_
          refine r_icmp_ge M 143 dX6_mixParts_123 (by decide) (fun _ => ?_) (fun h9 => absurd (by decide) h9)
          refine r_iinc1 M dX6_mixParts_143 rfl (by decide) ?_
          refine r_goto M 107 dX6_mixParts_146 (by decide) ?_
          refine r_lvs M _ (lvs_c rfl (lvs_c ?_ lvs_n)) (ih (k + 1) (by omega))
          rw [← nI_1 k]; rfl
        | succ r2 ih2 =>
          intro j hj
          have nx := ih2 (j + 1) (by omega)
          rw [foldN] at nx
          generalize foldN (fun x => scnD d (nI k) (nI x)) j (mixSc d k h2) = hh at nx ⊢
          refine r_iload_n M dX6_mixParts_120 rfl ?_
          refine r_bipush M 8 dX6_mixParts_121 (by decide) ?_
          refine r_icmp_ge M 143 dX6_mixParts_123 (by decide) (fun h9 => absurd h9 (nI_geF (n := 8) rfl (by omega) (by omega))) (fun _ => ?_)
          refine r_aload_n M dX6_mixParts_126 rfl ?_
          refine r_aload_n M dX6_mixParts_127 rfl ?_
          refine r_iload_n M dX6_mixParts_128 rfl ?_
          refine r_iload_n M dX6_mixParts_129 rfl ?_
          refine r_V2ik M (c_ofScene th sv ln at9 pt nm op kp hh s tx bg tm hR hO c k hc hc6 (by omega) j (by omega)) lk_X6_151 dX6_mixParts_130 (by decide +kernel) ⟨Nat.le_of_ble_eq_true rfl, Nat.le_of_ble_eq_true rfl⟩ ⟨rfl, rfl⟩ [0, 1, 2, 3, 4] rfl rfl rfl (by decide +kernel) rfl (Nat.le_of_ble_eq_true rfl) ?_
          refine r_i2l M dX6_mixParts_133 ?_
          refine r_V1vu (w' :=  MW th sv ln at9 pt nm op kp (31 * hh + (scnD d (nI k) (nI j)).toInt64) s tx bg tm) M (c_mMix th ln at9 pt nm op kp s tx bg tm sv hh (scnD d (nI k) (nI j)).toInt64) lk_X6_194 dX6_mixParts_134 (by decide +kernel) ⟨Nat.le_of_ble_eq_true rfl, Nat.le_of_ble_eq_true rfl⟩ ⟨rfl, rfl⟩ [0, 1, 2, 3, 4] rfl rfl rfl (by decide +kernel) rfl (Nat.le_of_ble_eq_true rfl) rfl ?_
          refine r_iinc1 M dX6_mixParts_137 rfl (by decide) ?_
          refine r_goto M 120 dX6_mixParts_140 (by decide) ?_
          refine r_lvs M _ (lvs_c rfl (lvs_c rfl (lvs_c ?_ lvs_n))) nx
          rw [← nI_1 j]; rfl
      refine r_iload_n M dX6_mixParts_107 rfl ?_
      refine r_aload_n M dX6_mixParts_108 rfl ?_
      refine r_get M fl_X6_7 dX6_mixParts_109 rfl rfl ?_
      refine r_bipush M 81 dX6_mixParts_112 (by decide) ?_
      refine r_iald M dX6_mixParts_114 rfl (s_in (j := 81) (by omega)) ?_
      rw [show (81 : Int32).toNatClampNeg = 81 from rfl, h81]
      refine r_icmp_ge M 149 dX6_mixParts_115 (by decide) (fun h9 => absurd h9 (nI_ge (by omega) (by omega))) (fun _ => ?_)
      refine r_iconst M 0 dX6_mixParts_118 (by decide) ?_
      refine r_istore_n M dX6_mixParts_119 (by decide) ?_
      exact r_lvs M _ (lvs_c rfl (lvs_c rfl (lvs_c rfl lvs_n))) (inner 8 0 rfl)
  have stops : ∀ r k : Nat, k + r = 60 → B 79 [(0, .ref 0), (1, .int (nI k))] [] (MW th sv ln at9 pt nm op kp (foldN (fun k => b2i (sSt d k)) k h1) s tx bg tm) := by
    intro r
    induction r with
    | zero =>
      intro k hk
      obtain rfl : k = 60 := by omega
      rw [← eh2]
      refine r_iload_n M dX6_mixParts_79 rfl ?_
      refine r_bipush M 60 dX6_mixParts_80 (by decide) ?_
      refine r_icmp_ge M 105 dX6_mixParts_82 (by decide) (fun _ => ?_) (fun h9 => absurd (nI_geT (n := 60) rfl (by omega) (by omega)) h9)
      refine r_iconst M 0 dX6_mixParts_105 (by decide) ?_
      refine r_istore_n M dX6_mixParts_106 (by decide) ?_
      exact r_lvs M _ (lvs_c rfl (lvs_c rfl lvs_n)) (scenes c 0 (by omega))
    | succ r ih =>
      intro k hk
      have nx := ih (k + 1) (by omega)
      rw [foldN] at nx
      generalize foldN (fun k => b2i (sSt d k)) k h1 = hh at nx ⊢
      refine r_iload_n M dX6_mixParts_79 rfl ?_
      refine r_bipush M 60 dX6_mixParts_80 (by decide) ?_
      refine r_icmp_ge M 105 dX6_mixParts_82 (by decide) (fun h9 => absurd h9 (nI_geF (n := 60) rfl (by omega) (by omega))) (fun _ => ?_)
      refine r_aload_n M dX6_mixParts_85 rfl ?_
      refine r_aload_n M dX6_mixParts_86 rfl ?_
      refine r_get M fl_X6_7 dX6_mixParts_87 rfl rfl ?_
      refine r_bipush M 112 dX6_mixParts_90 (by decide) ?_
      refine r_iload_n M dX6_mixParts_92 rfl ?_
      refine r_iadd M dX6_mixParts_93 ?_
      rw [show (112 : Int32) + nI k = nI (112 + k) from nI_add 112 k]
      refine r_iald M dX6_mixParts_94 rfl (s_in (by omega)) ?_
      rw [cl_s (by omega), hst k (by omega)]
      refine r_i2l M dX6_mixParts_95 ?_
      refine r_V1vu (w' :=  MW th sv ln at9 pt nm op kp (31 * hh + (b2i (sSt d k)).toInt64) s tx bg tm) M (c_mMix th ln at9 pt nm op kp s tx bg tm sv hh (b2i (sSt d k)).toInt64) lk_X6_194 dX6_mixParts_96 (by decide +kernel) ⟨Nat.le_of_ble_eq_true rfl, Nat.le_of_ble_eq_true rfl⟩ ⟨rfl, rfl⟩ [0, 1, 2, 3, 4] rfl rfl rfl (by decide +kernel) rfl (Nat.le_of_ble_eq_true rfl) rfl ?_
      refine r_iinc1 M dX6_mixParts_99 rfl (by decide) ?_
      refine r_goto M 79 dX6_mixParts_102 (by decide) ?_
      refine r_lvs M _ (lvs_c rfl (lvs_c ?_ lvs_n)) nx
      rw [← nI_1 k]; rfl
  have wheels : ∀ r k : Nat, k + r = 5 → B 2 [(0, .ref 0), (1, .int (nI k))] [] (MW th sv ln at9 pt nm op kp (mixWs d k hs) s tx bg tm) := by
    intro r
    induction r with
    | zero =>
      intro k hk
      obtain rfl : k = 5 := by omega
      rw [← eh1]
      refine r_iload_n M dX6_mixParts_2 rfl ?_
      refine r_iconst M 5 dX6_mixParts_3 (by decide) ?_
      refine r_icmp_ge M 77 dX6_mixParts_4 (by decide) (fun _ => ?_) (fun h9 => absurd (nI_geT (n := 5) rfl (by omega) (by omega)) h9)
      refine r_iconst M 0 dX6_mixParts_77 (by decide) ?_
      refine r_istore_n M dX6_mixParts_78 (by decide) ?_
      exact r_lvs M _ (lvs_c rfl (lvs_c rfl lvs_n)) (stops 60 0 rfl)
    | succ r ih =>
      intro k hk
      obtain ⟨m, b, a1, a2, a3, -⟩ := hO.1 k (by omega)
      have nx9 := ih (k + 1) (by omega)
      rw [mixWs, mixW1, a3, cl5 m (by omega)] at nx9
      generalize mixWs d k hs = h3 at nx9 ⊢
      have inner2 : ∀ r2 j : Nat, j + r2 = m → B 34 [(0, .ref 0), (1, .int (nI k)), (2, .int (nI j))] [] (MW th sv ln at9 pt nm op kp (foldN (fun k9 => hAt (sHe d) (nI k) (nI k9)) j (foldN (fun x => whlD d (nI k) (nI x)) 7 h3)) s tx bg tm) := by
        intro r2
        induction r2 with
        | zero =>
          intro j hj
          obtain rfl : j = m := by omega
          refine r_iload_n M dX6_mixParts_34 rfl ?_
          refine r_aload_n M dX6_mixParts_35 rfl ?_
          refine r_get M fl_X6_7 dX6_mixParts_36 rfl rfl ?_
          refine r_iconst M 0 dX6_mixParts_39 (by decide) ?_
          refine r_iload_n M dX6_mixParts_40 rfl ?_
          refine r_iadd M dX6_mixParts_41 ?_
          rw [add0]
          refine r_iald M dX6_mixParts_42 rfl (s_in (by omega)) ?_
          rw [cl_s (by omega), hR.1 k (by omega), a3]
          refine r_icmp_ge M 71 dX6_mixParts_43 (by decide) (fun _ => ?_) (fun h9 => absurd (nI_le (Nat.le_refl _) (by omega)) h9)
          refine r_iinc1 M dX6_mixParts_71 rfl (by decide) ?_
          refine r_goto M 2 dX6_mixParts_74 (by decide) ?_
          refine r_lvs M _ (lvs_c rfl (lvs_c ?_ lvs_n)) nx9
          rw [← nI_1 k]; rfl
        | succ r2 ih2 =>
          intro j hj
          have nx := ih2 (j + 1) (by omega)
          rw [foldN, hAt_at _ k j (by omega) (by omega)] at nx
          generalize foldN (fun k9 => hAt (sHe d) (nI k) (nI k9)) j (foldN (fun x => whlD d (nI k) (nI x)) 7 h3) = hh at nx ⊢
          refine r_iload_n M dX6_mixParts_34 rfl ?_
          refine r_aload_n M dX6_mixParts_35 rfl ?_
          refine r_get M fl_X6_7 dX6_mixParts_36 rfl rfl ?_
          refine r_iconst M 0 dX6_mixParts_39 (by decide) ?_
          refine r_iload_n M dX6_mixParts_40 rfl ?_
          refine r_iadd M dX6_mixParts_41 ?_
          rw [add0]
          refine r_iald M dX6_mixParts_42 rfl (s_in (by omega)) ?_
          rw [cl_s (by omega), hR.1 k (by omega), a3]
          refine r_icmp_ge M 71 dX6_mixParts_43 (by decide) (fun h9 => absurd h9 (nI_ge (by omega) (by omega))) (fun _ => ?_)
          refine r_aload_n M dX6_mixParts_46 rfl ?_
          refine r_aload_n M dX6_mixParts_47 rfl ?_
          refine r_get M fl_X6_7 dX6_mixParts_48 rfl rfl ?_
          refine r_bipush M 15 dX6_mixParts_51 (by decide) ?_
          refine r_bipush M 12 dX6_mixParts_53 (by decide) ?_
          refine r_iload_n M dX6_mixParts_55 rfl ?_
          refine r_imul M dX6_mixParts_56 ?_
          refine r_iadd M dX6_mixParts_57 ?_
          refine r_iload_n M dX6_mixParts_58 rfl ?_
          refine r_iadd M dX6_mixParts_59 ?_
          rw [hix]
          refine r_iald M dX6_mixParts_60 rfl (s_in (by omega)) ?_
          rw [cl_s (by omega), hR.2.2.2.1 k (by omega) j (by rw [a3, cl5 m (by omega)]; omega)]
          refine r_i2l M dX6_mixParts_61 ?_
          refine r_V1vu (w' :=  MW th sv ln at9 pt nm op kp (31 * hh + (sHe d (12 * k + j)).toInt64) s tx bg tm) M (c_mMix th ln at9 pt nm op kp s tx bg tm sv hh (sHe d (12 * k + j)).toInt64) lk_X6_194 dX6_mixParts_62 (by decide +kernel) ⟨Nat.le_of_ble_eq_true rfl, Nat.le_of_ble_eq_true rfl⟩ ⟨rfl, rfl⟩ [0, 1, 2, 3, 4] rfl rfl rfl (by decide +kernel) rfl (Nat.le_of_ble_eq_true rfl) rfl ?_
          refine r_iinc1 M dX6_mixParts_65 rfl (by decide) ?_
          refine r_goto M 34 dX6_mixParts_68 (by decide) ?_
          refine r_lvs M _ (lvs_c rfl (lvs_c rfl (lvs_c ?_ lvs_n))) nx
          rw [← nI_1 j]; rfl
      have inner1 : ∀ r2 j : Nat, j + r2 = 7 → B 9 [(0, .ref 0), (1, .int (nI k)), (2, .int (nI j))] [] (MW th sv ln at9 pt nm op kp (foldN (fun x => whlD d (nI k) (nI x)) j h3) s tx bg tm) := by
        intro r2
        induction r2 with
        | zero =>
          intro j hj
          obtain rfl : j = 7 := by omega
          refine r_iload_n M dX6_mixParts_9 rfl ?_
          refine r_bipush M 7 dX6_mixParts_10 (by decide) ?_
          refine r_icmp_ge M 32 dX6_mixParts_12 (by decide) (fun _ => ?_) (fun h9 => absurd (by decide) h9)
          refine r_iconst M 0 dX6_mixParts_32 (by decide) ?_
          refine r_istore_n M dX6_mixParts_33 (by decide) ?_
          exact r_lvs M _ (lvs_c rfl (lvs_c rfl (lvs_c rfl lvs_n))) (inner2 m 0 (by omega))
        | succ r2 ih2 =>
          intro j hj
          have nx := ih2 (j + 1) (by omega)
          rw [foldN] at nx
          generalize foldN (fun x => whlD d (nI k) (nI x)) j h3 = hh at nx ⊢
          refine r_iload_n M dX6_mixParts_9 rfl ?_
          refine r_bipush M 7 dX6_mixParts_10 (by decide) ?_
          refine r_icmp_ge M 32 dX6_mixParts_12 (by decide) (fun h9 => absurd h9 (nI_geF (n := 7) rfl (by omega) (by omega))) (fun _ => ?_)
          refine r_aload_n M dX6_mixParts_15 rfl ?_
          refine r_aload_n M dX6_mixParts_16 rfl ?_
          refine r_iload_n M dX6_mixParts_17 rfl ?_
          refine r_iload_n M dX6_mixParts_18 rfl ?_
          refine r_V2ik M (c_ofWheel th sv ln at9 pt nm op kp hh s tx bg tm hR hO hD k (by omega) j (by omega)) lk_X6_136 dX6_mixParts_19 (by decide +kernel) ⟨Nat.le_of_ble_eq_true rfl, Nat.le_of_ble_eq_true rfl⟩ ⟨rfl, rfl⟩ [0, 1, 2, 3, 4] rfl rfl rfl (by decide +kernel) rfl (Nat.le_of_ble_eq_true rfl) ?_
          refine r_i2l M dX6_mixParts_22 ?_
          refine r_V1vu (w' :=  MW th sv ln at9 pt nm op kp (31 * hh + (whlD d (nI k) (nI j)).toInt64) s tx bg tm) M (c_mMix th ln at9 pt nm op kp s tx bg tm sv hh (whlD d (nI k) (nI j)).toInt64) lk_X6_194 dX6_mixParts_23 (by decide +kernel) ⟨Nat.le_of_ble_eq_true rfl, Nat.le_of_ble_eq_true rfl⟩ ⟨rfl, rfl⟩ [0, 1, 2, 3, 4] rfl rfl rfl (by decide +kernel) rfl (Nat.le_of_ble_eq_true rfl) rfl ?_
          refine r_iinc1 M dX6_mixParts_26 rfl (by decide) ?_
          refine r_goto M 9 dX6_mixParts_29 (by decide) ?_
          refine r_lvs M _ (lvs_c rfl (lvs_c rfl (lvs_c ?_ lvs_n))) nx
          rw [← nI_1 j]; rfl
      refine r_iload_n M dX6_mixParts_2 rfl ?_
      refine r_iconst M 5 dX6_mixParts_3 (by decide) ?_
      refine r_icmp_ge M 77 dX6_mixParts_4 (by decide) (fun h9 => absurd h9 (nI_geF (n := 5) rfl (by omega) (by omega))) (fun _ => ?_)
      refine r_iconst M 0 dX6_mixParts_7 (by decide) ?_
      refine r_istore_n M dX6_mixParts_8 (by decide) ?_
      exact r_lvs M _ (lvs_c rfl (lvs_c rfl (lvs_c rfl lvs_n))) (inner1 7 0 rfl)
  refine r_iconst M 0 dX6_mixParts_0 (by decide) ?_
  refine r_istore_n M dX6_mixParts_1 (by decide) ?_
  exact r_lvs M _ (lvs_c rfl (lvs_c rfl lvs_n)) (wheels 5 0 rfl)
end


section
variable (kp : Bool) (d0 d1 : SD) (k : Nat) (rm : Nat → Nat) (R : Nat → SD) (cod : Nat → Int32) (aw op fig pop pmk pen : Int32) (psts ptd : Nat → Nat) (t : WD)
def clD (d : SD) (c : Nat) (sv : Int32) (kp : Bool) (n : Nat) (tx : Nat → Int32) : Int64 := foldN tx n (31 * (31 * mxW d (mixSc d c (foldN (fun k => b2i (sSt d k)) 60 (mixWs d 5 (foldN (fun x => cntD d sv (nI x)) 13 3847)))) + (b2i kp).toInt64) + (nI n).toInt64)
theorem c_digest (n : Nat) (hn : n ≤ 60) (hw : whOk (sTe d0) (sTo d0)) (hte : teOk (sTe d0)) (c : Nat) (hc6 : c ≤ 6) (hsc : sSc d0 = nI c) (hn1 : vf_n64 (shD d0)) (hn2 : vf_n32 (mnD d0)) (hn3 : vf_n64 (FP.f2d (mnD d0))) (t2 : WD) (ht2 : freW d0 (-1) (freW d0 1 (itW d0 (rN (sTe d0) (sLo d0) 5))) = t2) : Con yX5_digest cX5_digest 4 (some .long) (rmk 8 199) [.ref 0] (CW kp d0 d1 k rm R cod (nI n) aw op fig pop pmk pen psts ptd t) (some (.long (clD d0 c (nI k) kp n cod))) (CW kp d0 d1 k rm R cod (nI n) aw op fig pop pmk pen psts ptd t2) := by
  refine Con.of (own := RX5) (by decide) rfl (Nat.le_of_ble_eq_true rfl) (Eq.trans (b := 95) rfl rfl) (fun B M => ?_)
  obtain ⟨g, eg⟩ : ∃ g, g = clD d0 c (nI k) kp n cod := ⟨_, rfl⟩
  rw [← eg] at M
  rw [clD] at eg
  have kw := c_mixWhat (.ref 30) (.ref 102) (.ref 104) (.ref 41) kp (nI k) d0 t hw hn1 hn2 hn3 (mixSc d0 c (foldN (fun k => b2i (sSt d0 k)) 60 (mixWs d0 5 (foldN (fun x => cntD d0 (nI k) (nI x)) 13 3847))))
  rw [ht2] at kw
  generalize mxW d0 (mixSc d0 c (foldN (fun k => b2i (sSt d0 k)) 60 (mixWs d0 5 (foldN (fun x => cntD d0 (nI k) (nI x)) 13 3847)))) = h4 at eg kw
  have text : ∀ r j : Nat, j + r = n → B 107 [(0, .ref 0), (1, .long (foldN cod j (31 * (31 * h4 + (b2i kp).toInt64) + (nI n).toInt64))), (3, .int (nI j))] [] (CW kp d0 d1 k rm R cod (nI n) aw op fig pop pmk pen psts ptd t2) := by
    intro r
    induction r with
    | zero =>
      intro j hj
      obtain rfl : j = n := by omega
      rw [← eg]
      refine r_iload_n M dX5_digest_107 rfl ?_
      refine r_aload_n M dX5_digest_108 rfl ?_
      refine r_get M fl_X5_33 dX5_digest_109 rfl rfl ?_
      refine r_getN M fn_X5_182 dX5_digest_112 rfl rfl ?_
      refine r_icmp_ge M 138 dX5_digest_115 (by decide) (fun _ => ?_) (fun h9 => absurd (nI_le (Nat.le_refl _) (by omega)) h9)
      refine r_lload_n M dX5_digest_138 rfl ?_
      exact r_lret M dX5_digest_139 rfl rfl rfl
    | succ r ih =>
      intro j hj
      have nx := ih (j + 1) (by omega)
      rw [foldN] at nx
      generalize foldN cod j (31 * (31 * h4 + (b2i kp).toInt64) + (nI n).toInt64) = hh at nx ⊢
      refine r_iload_n M dX5_digest_107 rfl ?_
      refine r_aload_n M dX5_digest_108 rfl ?_
      refine r_get M fl_X5_33 dX5_digest_109 rfl rfl ?_
      refine r_getN M fn_X5_182 dX5_digest_112 rfl rfl ?_
      refine r_icmp_ge M 138 dX5_digest_115 (by decide) (fun h9 => absurd h9 (nI_ge (by omega) (by omega))) (fun _ => ?_)
      refine r_lload_n M dX5_digest_118 rfl ?_
      refine r_aload_n M dX5_digest_119 rfl ?_
      refine r_get M fl_X5_33 dX5_digest_120 rfl rfl ?_
      refine r_iload_n M dX5_digest_123 rfl ?_
      refine r_V1ik M (c_codeAt cod n j aw op fig hn (by omega)) lk_X5_301 dX5_digest_124 (by decide +kernel) ⟨Nat.le_of_ble_eq_true rfl, Nat.le_of_ble_eq_true rfl⟩ ⟨rfl, rfl⟩ [83, 84] rfl rfl rfl (by decide +kernel) rfl (Nat.le_of_ble_eq_true rfl) ?_
      rw [show cdA cod n j = cod j from by rw [cdA, if_pos (by omega)]]
      refine r_i2l M dX5_digest_127 ?_
      refine r_S2lk M (c_mix _ _) lk_X5_287 dX5_digest_128 (by decide +kernel) ⟨Nat.le_of_ble_eq_true rfl, Nat.le_of_ble_eq_true rfl⟩ ⟨rfl, rfl⟩ [] rfl (by decide +kernel) rfl (Nat.le_of_ble_eq_true rfl) ?_
      refine r_lstore_n M dX5_digest_131 (by decide) ?_
      refine r_iinc1 M dX5_digest_132 rfl (by decide) ?_
      rw [nI_1]
      refine r_goto M 107 dX5_digest_135 (by decide) ?_
      exact r_lvs M _ (lvs_c rfl (lvs_c rfl (lvs_c rfl lvs_n))) nx
  have scen : ∀ h3 : Int64, h3 = foldN (fun k => b2i (sSt d0 k)) 60 (mixWs d0 5 (foldN (fun x => cntD d0 (nI k) (nI x)) 13 3847)) → B 67 [(0, .ref 0), (1, .long h3)] [] (CW kp d0 d1 k rm R cod (nI n) aw op fig pop pmk pen psts ptd t) := by
    intro h3 e3
    rw [← e3] at kw
    have ks := c_mixScenes (.ref 30) (.ref 102) (.ref 104) (.ref 41) kp (nI k) d0 t hte c hc6 hsc h3
    generalize mixSc d0 c h3 = h5 at ks kw
    refine r_aload_n M dX5_digest_67 rfl ?_
    refine r_lload_n M dX5_digest_68 rfl ?_
    refine r_V1lk M ks lk_X5_295 dX5_digest_69 (by decide +kernel) ⟨Nat.le_of_ble_eq_true rfl, Nat.le_of_ble_eq_true rfl⟩ ⟨rfl, rfl⟩ [0, 1, 2, 3, 4, 5, 6, 7, 8, 9, 10, 21, 88, 89, 90, 91, 92, 93, 94] rfl rfl rfl (by decide +kernel) rfl (Nat.le_of_ble_eq_true rfl) ?_
    refine r_lstore_n M dX5_digest_72 (by decide) ?_
    refine r_aload_n M dX5_digest_73 rfl ?_
    refine r_lload_n M dX5_digest_74 rfl ?_
    refine r_V1lu (w' :=  CW kp d0 d1 k rm R cod (nI n) aw op fig pop pmk pen psts ptd t2) M kw lk_X5_298 dX5_digest_75 (by decide +kernel) ⟨Nat.le_of_ble_eq_true rfl, Nat.le_of_ble_eq_true rfl⟩ ⟨rfl, rfl⟩ [0, 1, 2, 3, 4, 5, 6, 7, 8, 9, 10, 21, 88, 89, 90, 91, 92, 93, 94] rfl rfl rfl (by decide +kernel) rfl (Nat.le_of_ble_eq_true rfl) rfl ?_
    refine r_lstore_n M dX5_digest_78 (by decide) ?_
    refine r_lload_n M dX5_digest_79 rfl ?_
    refine r_aload_n M dX5_digest_80 rfl ?_
    refine r_get M fl_X5_19 dX5_digest_81 rfl rfl ?_
    refine r_S1ik M (c_toNumber _) lk_X5_77 dX5_digest_84 (by decide +kernel) ⟨Nat.le_of_ble_eq_true rfl, Nat.le_of_ble_eq_true rfl⟩ ⟨rfl, rfl⟩ [] rfl (by decide +kernel) rfl (Nat.le_of_ble_eq_true rfl) ?_
    refine r_i2l M dX5_digest_87 ?_
    refine r_S2lk M (c_mix _ _) lk_X5_287 dX5_digest_88 (by decide +kernel) ⟨Nat.le_of_ble_eq_true rfl, Nat.le_of_ble_eq_true rfl⟩ ⟨rfl, rfl⟩ [] rfl (by decide +kernel) rfl (Nat.le_of_ble_eq_true rfl) ?_
    refine r_lstore_n M dX5_digest_91 (by decide) ?_
    refine r_lload_n M dX5_digest_92 rfl ?_
    refine r_aload_n M dX5_digest_93 rfl ?_
    refine r_get M fl_X5_33 dX5_digest_94 rfl rfl ?_
    refine r_getN M fn_X5_182 dX5_digest_97 rfl rfl ?_
    refine r_i2l M dX5_digest_100 ?_
    refine r_S2lk M (c_mix _ _) lk_X5_287 dX5_digest_101 (by decide +kernel) ⟨Nat.le_of_ble_eq_true rfl, Nat.le_of_ble_eq_true rfl⟩ ⟨rfl, rfl⟩ [] rfl (by decide +kernel) rfl (Nat.le_of_ble_eq_true rfl) ?_
    refine r_lstore_n M dX5_digest_104 (by decide) ?_
    refine r_iconst M 0 dX5_digest_105 (by decide) ?_
    refine r_istore_n M dX5_digest_106 (by decide) ?_
    exact r_lvs M _ (lvs_c rfl (lvs_c rfl (lvs_c rfl lvs_n))) (text n 0 (by omega))
  have stop : ∀ r j : Nat, ∀ h3 : Int64, j + r = 60 → h3 = foldN (fun k => b2i (sSt d0 k)) j (mixWs d0 5 (foldN (fun x => cntD d0 (nI k) (nI x)) 13 3847)) → B 37 [(0, .ref 0), (1, .long h3), (3, .int (nI j))] [] (CW kp d0 d1 k rm R cod (nI n) aw op fig pop pmk pen psts ptd t) := by
    intro r
    induction r with
    | zero =>
      intro j h3 hj e3
      obtain rfl : j = 60 := by omega
      refine r_iload_n M dX5_digest_37 rfl ?_
      refine r_bipush M 60 dX5_digest_38 (by decide) ?_
      refine r_icmp_ge M 67 dX5_digest_40 (by decide) (fun _ => ?_) (fun h9 => absurd (by decide) h9)
      exact r_lvs M _ (lvs_c rfl (lvs_c rfl lvs_n)) (scen h3 e3)
    | succ r ih =>
      intro j h3 hj e3
      have nx := ih (j + 1) (31 * h3 + (b2i (sSt d0 j)).toInt64) (by omega) (by rw [foldN, ← e3])
      have hv : vp_in (nI j) 60 := vp_in_nI (by omega) (by omega)
      refine r_iload_n M dX5_digest_37 rfl ?_
      refine r_bipush M 60 dX5_digest_38 (by decide) ?_
      refine r_icmp_ge M 67 dX5_digest_40 (by decide) (fun h9 => absurd h9 (nI_geF (n := 60) rfl (by omega) (by omega))) (fun _ => ?_)
      refine r_lload_n M dX5_digest_43 rfl ?_
      refine r_aload_n M dX5_digest_44 rfl ?_
      refine r_get M fl_X5_10 dX5_digest_45 rfl rfl ?_
      refine r_getN M fn_X5_89 dX5_digest_48 rfl rfl ?_
      refine r_iload_n M dX5_digest_51 rfl ?_
      refine r_zald M dX5_digest_52 rfl hv ?_
      rw [cl5 j (by omega)]
      refine r_S1ik M (c_toNumber _) lk_X5_77 dX5_digest_53 (by decide +kernel) ⟨Nat.le_of_ble_eq_true rfl, Nat.le_of_ble_eq_true rfl⟩ ⟨rfl, rfl⟩ [] rfl (by decide +kernel) rfl (Nat.le_of_ble_eq_true rfl) ?_
      refine r_i2l M dX5_digest_56 ?_
      refine r_S2lk M (c_mix _ _) lk_X5_287 dX5_digest_57 (by decide +kernel) ⟨Nat.le_of_ble_eq_true rfl, Nat.le_of_ble_eq_true rfl⟩ ⟨rfl, rfl⟩ [] rfl (by decide +kernel) rfl (Nat.le_of_ble_eq_true rfl) ?_
      refine r_lstore_n M dX5_digest_60 (by decide) ?_
      refine r_iinc1 M dX5_digest_61 rfl (by decide) ?_
      rw [nI_1]
      refine r_goto M 37 dX5_digest_64 (by decide) ?_
      exact r_lvs M _ (lvs_c rfl (lvs_c rfl (lvs_c rfl lvs_n))) nx
  have whee : ∀ h1 : Int64, h1 = foldN (fun x => cntD d0 (nI k) (nI x)) 13 3847 → B 29 [(0, .ref 0), (1, .long h1)] [] (CW kp d0 d1 k rm R cod (nI n) aw op fig pop pmk pen psts ptd t) := by
    intro h1 e1
    have km := c_mixWheels (.ref 30) (.ref 102) (.ref 104) (.ref 41) kp (nI k) d0 t hte h1
    have s0 := stop 60 0 (mixWs d0 5 h1) (by omega) (by rw [foldN, e1])
    generalize mixWs d0 5 h1 = h2 at km s0
    refine r_aload_n M dX5_digest_29 rfl ?_
    refine r_lload_n M dX5_digest_30 rfl ?_
    refine r_V1lk M km lk_X5_291 dX5_digest_31 (by decide +kernel) ⟨Nat.le_of_ble_eq_true rfl, Nat.le_of_ble_eq_true rfl⟩ ⟨rfl, rfl⟩ [0, 1, 2, 3, 4, 5, 6, 7, 8, 9, 10, 21, 88, 89, 90, 91, 92, 93, 94] rfl rfl rfl (by decide +kernel) rfl (Nat.le_of_ble_eq_true rfl) ?_
    refine r_lstore_n M dX5_digest_34 (by decide) ?_
    refine r_iconst M 0 dX5_digest_35 (by decide) ?_
    refine r_istore_n M dX5_digest_36 (by decide) ?_
    exact r_lvs M _ (lvs_c rfl (lvs_c rfl (lvs_c rfl lvs_n))) s0
  have cnt : ∀ r j : Nat, ∀ h1 : Int64, j + r = 13 → h1 = foldN (fun x => cntD d0 (nI k) (nI x)) j 3847 → B 6 [(0, .ref 0), (1, .long h1), (3, .int (nI j))] [] (CW kp d0 d1 k rm R cod (nI n) aw op fig pop pmk pen psts ptd t) := by
    intro r
    induction r with
    | zero =>
      intro j h1 hj e1
      obtain rfl : j = 13 := by omega
      refine r_iload_n M dX5_digest_6 rfl ?_
      refine r_bipush M 12 dX5_digest_7 (by decide) ?_
      refine r_icmp_gt M 29 dX5_digest_9 (by decide) (fun _ => ?_) (fun h9 => absurd (by decide) h9)
      exact r_lvs M _ (lvs_c rfl (lvs_c rfl lvs_n)) (whee h1 e1)
    | succ r ih =>
      intro j h1 hj e1
      have kc := c_count (.ref 30) (.ref 102) (.ref 104) (.ref 41) kp (nI k) d0 t j (by omega)
      have nx := ih (j + 1) (31 * h1 + (cntD d0 (nI k) (nI j)).toInt64) (by omega) (by rw [foldN, ← e1])
      generalize cntD d0 (nI k) (nI j) = x at kc nx
      refine r_iload_n M dX5_digest_6 rfl ?_
      refine r_bipush M 12 dX5_digest_7 (by decide) ?_
      refine r_icmp_gt M 29 dX5_digest_9 (by decide) (fun h9 => absurd h9 (Int32.not_lt.mpr (nI_le (b := 12) (by omega) (by omega)))) (fun _ => ?_)
      refine r_lload_n M dX5_digest_12 rfl ?_
      refine r_aload_n M dX5_digest_13 rfl ?_
      refine r_iload_n M dX5_digest_14 rfl ?_
      refine r_V1ik M kc lk_X5_284 dX5_digest_15 (by decide +kernel) ⟨Nat.le_of_ble_eq_true rfl, Nat.le_of_ble_eq_true rfl⟩ ⟨rfl, rfl⟩ [0, 1, 2, 3, 4, 5, 6, 7, 8, 9, 10, 21, 88, 89, 90, 91, 92, 93, 94] rfl rfl rfl (by decide +kernel) rfl (Nat.le_of_ble_eq_true rfl) ?_
      refine r_i2l M dX5_digest_18 ?_
      refine r_S2lk M (c_mix _ _) lk_X5_287 dX5_digest_19 (by decide +kernel) ⟨Nat.le_of_ble_eq_true rfl, Nat.le_of_ble_eq_true rfl⟩ ⟨rfl, rfl⟩ [] rfl (by decide +kernel) rfl (Nat.le_of_ble_eq_true rfl) ?_
      refine r_lstore_n M dX5_digest_22 (by decide) ?_
      refine r_iinc1 M dX5_digest_23 rfl (by decide) ?_
      rw [nI_1]
      refine r_goto M 6 dX5_digest_26 (by decide) ?_
      exact r_lvs M _ (lvs_c rfl (lvs_c rfl (lvs_c rfl lvs_n))) nx
  refine r_ldc2 M kc_X5_282 dX5_digest_0 ?_
  refine r_lstore_n M dX5_digest_3 (by decide) ?_
  refine r_iconst M 0 dX5_digest_4 (by decide) ?_
  refine r_istore_n M dX5_digest_5 (by decide) ?_
  exact r_lvs M _ (lvs_c rfl (lvs_c rfl (lvs_c rfl lvs_n))) (cnt 13 0 3847 (by omega) rfl)
end


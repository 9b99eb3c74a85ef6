theorem and31 (x : Int32) : ∃ t : Nat, t < 32 ∧ x &&& 31 = nI t := by
  refine ⟨x.toBitVec.toNat % 32, Nat.mod_lt _ (by decide), ?_⟩
  rw [← Int32.toBitVec_inj, Int32.toBitVec_and]
  apply BitVec.eq_of_toNat_eq
  rw [BitVec.toNat_and, show (31 : Int32).toBitVec.toNat = 2 ^ 5 - 1 from rfl, Nat.and_two_pow_sub_one_eq_mod]
  show _ = (BitVec.ofNat 32 (x.toBitVec.toNat % 32)).toNat
  rw [BitVec.toNat_ofNat]
  omega
theorem sub4 (L : Nat) (h : L ≤ 2048) : (nI L - 4).toInt = (L : Int) - 4 := by
  rw [Int32.toInt_sub, nI_toInt (by omega), show (4 : Int32).toInt = 4 from rfl, Int.bmod_eq_of_le (by omega) (by omega)]
set_option maxRecDepth 20000 in
theorem law_loop {L : Nat} {xs : Nat → Int32} (hL : L ≤ 2048) : ∀ (r i b k9 n9 : Nat) (w0 m0 : List va_E) (z : Nat → Int64) (B : KT), MG RL cL_law 9 ret room_1 k9 n9 (XLw L xs) B → i ≤ 4096 → L ≤ i + 4 * r + 3 → b + 2000 * r ≤ 2 ^ 28 → k9 + r ≤ 601024 → n9 + 6 * r ≤ 7293034 → Inv b w0 m0 → B 23 [(0, .ref 1000), (1, .ref 0), (2, .ref 96), (3, .ref 95), (4, .int (nI i))] [] (LWm w0 z m0) := by
  have exit : ∀ (i k9 n9 : Nat) (w0 m0 : List va_E) (z : Nat → Int64) (B : KT), MG RL cL_law 9 ret room_1 k9 n9 (XLw L xs) B → i ≤ 4096 → L < i + 4 → B 23 [(0, .ref 1000), (1, .ref 0), (2, .ref 96), (3, .ref 95), (4, .int (nI i))] [] (LWm w0 z m0) := by
    intro i k9 n9 w0 m0 z B M hi hl
    refine g_iload M dL_law_23 rfl ?_
    refine g_aload_n M dL_law_25 rfl ?_
    refine g_slen M dL_law_26 ?_
    refine g_iconst M 4 dL_law_27 (by decide) ?_
    refine g_isub M dL_law_28 ?_
    refine g_icmp_gt M 1604 dL_law_29 (by decide) (fun _ => ?_) (fun h9 => absurd (by rw [Int32.lt_iff_toInt_lt, sub4 L hL, nI_toInt (by omega)]; omega) h9)
    refine g_iconst M 1 dL_law_1604 (by decide) ?_
    exact g_law1 M dL_law_1605
  intro r
  induction r with
  | zero => intro i b k9 n9 w0 m0 z B M hi hl _ _ _ _; exact exit i k9 n9 w0 m0 z B M hi (by omega)
  | succ r ih =>
    intro i b k9 n9 w0 m0 z B M hi hl hb hk hn hV
    have hb1 : b + 2000 ≤ 2 ^ 28 := by omega
    have hk1 : k9 + 1 ≤ 601024 ∧ n9 + 6 ≤ 7293034 := ⟨by omega, by omega⟩
    by_cases hx : L < i + 4
    · exact exit i k9 n9 w0 m0 z B M hi hx
    have next : ∀ (k8 n8 : Nat) (B2 : KT) (w1 m1 : List va_E) (z1 : Nat → Int64), MG RL cL_law 9 ret room_1 k8 n8 (XLw L xs) B2 → k8 ≤ k9 + 1 → n8 ≤ n9 + 6 → Inv (b + 2000) w1 m1 → B2 1598 [(0, .ref 1000), (1, .ref 0), (2, .ref 96), (3, .ref 95), (4, .int (nI i))] [] (LWm w1 z1 m1) := by
      intro k8 n8 B2 w1 m1 z1 M hk8 hn8 hI
      refine g_iinc M (nI (i + 4)) dL_law_1598 rfl (by decide) (show nI i + Int32.ofInt 4 = nI (i + 4) from nI_add i 4) ?_
      refine g_goto M 23 dL_law_1601 (by decide) ?_
      exact g_lvs M _ (lvs_c rfl (lvs_c rfl (lvs_c rfl (lvs_c rfl (lvs_c rfl lvs_n))))) (ih (i + 4) (b + 2000) k8 n8 w1 m1 z1 B2 M (by omega) (by omega) (by omega) (by omega) (by omega) hI)
    refine g_iload M dL_law_23 rfl ?_
    refine g_aload_n M dL_law_25 rfl ?_
    refine g_slen M dL_law_26 ?_
    refine g_iconst M 4 dL_law_27 (by decide) ?_
    refine g_isub M dL_law_28 ?_
    refine g_icmp_gt M 1604 dL_law_29 (by decide) (fun h9 => absurd h9 (by rw [Int32.lt_iff_toInt_lt, sub4 L hL, nI_toInt (by omega)]; omega)) (fun _ => ?_)
    refine g_aload_n M dL_law_32 rfl ?_
    refine g_iload M dL_law_33 rfl ?_
    refine g_sld M (vp_in_nI (by omega) (by omega)) dL_law_35 ?_
    refine g_bipush M 31 dL_law_36 (by decide) ?_
    refine g_iand M dL_law_38 ?_
    obtain ⟨t, ht, he⟩ := and31 (xs (nI i).toNatClampNeg)
    rw [he]
    clear he
    have none9 : ∀ t : Nat, 29 ≤ t → t < 32 → B 39 [(0, .ref 1000), (1, .ref 0), (2, .ref 96), (3, .ref 95), (4, .int (nI i))] [.int (nI t)] (LWm w0 z m0) := by
      intro t h1 h2
      refine g_tabOut M 1598 dL_law_39 (Or.inr (by rw [nI_toInt (by omega)]; omega)) (by decide) ?_
      exact next k9 n9 B w0 m0 z M (by omega) (by omega) (by
        obtain ⟨kp, d0, d1, k, rm, R, cod, n, aw, op, fig, pop, pmk, pen, psts, ptd, t9, th, at9, pt, nm, oq, hs, s, bg, tm, rfl, rfl, hS, hn9, hch⟩ := hV
        exact inv_i (hS.more (by omega)) hn9 hch)
    rcases Nat.lt_or_ge t 29 with h29 | h29
    · rcases (by omega : t = 0 ∨ t = 1 ∨ t = 2 ∨ t = 3 ∨ t = 4 ∨ t = 5 ∨ t = 6 ∨ t = 7 ∨ t = 8 ∨ t = 9 ∨ t = 10 ∨ t = 11 ∨ t = 12 ∨ t = 13 ∨ t = 14 ∨ t = 15 ∨ t = 16 ∨ t = 17 ∨ t = 18 ∨ t = 19 ∨ t = 20 ∨ t = 21 ∨ t = 22 ∨ t = 23 ∨ t = 24 ∨ t = 25 ∨ t = 26 ∨ t = 27 ∨ t = 28) with rfl | rfl | rfl | rfl | rfl | rfl | rfl | rfl | rfl | rfl | rfl | rfl | rfl | rfl | rfl | rfl | rfl | rfl | rfl | rfl | rfl | rfl | rfl | rfl | rfl | rfl | rfl | rfl | rfl
      · refine g_tabIn M (off := 129) 168 dL_law_39 (by decide) (by decide) rfl (by decide) ?_
        exact k_turn M (by omega) hL hV hb1 hk1 (fun B2 w1 m1 z1 M2 hI => next (k9 + 1) (n9 + 6) B2 w1 m1 z1 M2 (by omega) (by omega) hI)
      · refine g_tabIn M (off := 185) 224 dL_law_39 (by decide) (by decide) rfl (by decide) ?_
        exact k_lift M hV hb1 (fun w1 m1 hI => next k9 n9 B w1 m1 z M (by omega) (by omega) hI)
      · refine g_tabIn M (off := 198) 237 dL_law_39 (by decide) (by decide) rfl (by decide) ?_
        exact k_stop M (by omega) hL hV hb1 hk1 (fun B2 w1 m1 z1 M2 hI => next (k9 + 1) (n9 + 6) B2 w1 m1 z1 M2 (by omega) (by omega) hI)
      · refine g_tabIn M (off := 254) 293 dL_law_39 (by decide) (by decide) rfl (by decide) ?_
        exact k_clutch M (by omega) hL hV hb1 hk1 (fun B2 w1 m1 z1 M2 hI => next (k9 + 1) (n9 + 6) B2 w1 m1 z1 M2 (by omega) (by omega) hI)
      · refine g_tabIn M (off := 310) 349 dL_law_39 (by decide) (by decide) rfl (by decide) ?_
        exact k_hand M (by omega) hL hV hb1 hk1 (fun B2 w1 m1 z1 M2 hI => next (k9 + 1) (n9 + 6) B2 w1 m1 z1 M2 (by omega) (by omega) hI)
      · refine g_tabIn M (off := 378) 417 dL_law_39 (by decide) (by decide) rfl (by decide) ?_
        exact k_file M (by omega) hL hV hb1 hk1 (fun B2 w1 m1 z1 M2 hI => next (k9 + 1) (n9 + 6) B2 w1 m1 z1 M2 (by omega) (by omega) hI)
      · refine g_tabIn M (off := 458) 497 dL_law_39 (by decide) (by decide) rfl (by decide) ?_
        exact k_change M (by omega) hL hV hb1 hk1 (fun B2 w1 m1 z1 M2 hI => next (k9 + 1) (n9 + 6) B2 w1 m1 z1 M2 (by omega) (by omega) hI)
      · refine g_tabIn M (off := 526) 565 dL_law_39 (by decide) (by decide) rfl (by decide) ?_
        exact k_set M (by omega) hL hV hb1 hk1 (fun B2 w1 m1 z1 M2 hI => next (k9 + 1) (n9 + 6) B2 w1 m1 z1 M2 (by omega) (by omega) hI)
      · refine g_tabIn M (off := 582) 621 dL_law_39 (by decide) (by decide) rfl (by decide) ?_
        exact k_remember M (by omega) hL hV hb1 hk1 (fun B2 w1 m1 z1 M2 hI => next (k9 + 1) (n9 + 6) B2 w1 m1 z1 M2 (by omega) (by omega) hI)
      · refine g_tabIn M (off := 626) 665 dL_law_39 (by decide) (by decide) rfl (by decide) ?_
        exact k_forget M (by omega) hL hV hb1 hk1 (fun B2 w1 m1 z1 M2 hI => next (k9 + 1) (n9 + 6) B2 w1 m1 z1 M2 (by omega) (by omega) hI)
      · refine g_tabIn M (off := 682) 721 dL_law_39 (by decide) (by decide) rfl (by decide) ?_
        exact k_append M (by omega) hL hV hb1 hk1 (fun B2 w1 m1 z1 M2 hI => next (k9 + 1) (n9 + 6) B2 w1 m1 z1 M2 (by omega) (by omega) hI)
      · refine g_tabIn M (off := 738) 777 dL_law_39 (by decide) (by decide) rfl (by decide) ?_
        exact k_clearBuffer M hV hb1 (fun w1 m1 hI => next k9 n9 B w1 m1 z M (by omega) (by omega) hI)
      · refine g_tabIn M (off := 751) 790 dL_law_39 (by decide) (by decide) rfl (by decide) ?_
        exact k_firstError M hV hb1 (fun w1 m1 hI => next k9 n9 B w1 m1 z M (by omega) (by omega) hI)
      · refine g_tabIn M (off := 764) 803 dL_law_39 (by decide) (by decide) rfl (by decide) ?_
        exact k_work M (by omega) hL hV hb1 hk1 (fun B2 w1 m1 z1 M2 hI => next (k9 + 1) (n9 + 6) B2 w1 m1 z1 M2 (by omega) (by omega) hI)
      · refine g_tabIn M (off := 808) 847 dL_law_39 (by decide) (by decide) rfl (by decide) ?_
        exact k_keep M hV hb1 (fun w1 m1 hI => next k9 n9 B w1 m1 z M (by omega) (by omega) hI)
      · refine g_tabIn M (off := 821) 860 dL_law_39 (by decide) (by decide) rfl (by decide) ?_
        exact k_goBack M (by omega) hL hV hb1 hk1 (fun B2 w1 m1 z1 M2 hI => next (k9 + 1) (n9 + 6) B2 w1 m1 z1 M2 (by omega) (by omega) hI)
      · refine g_tabIn M (off := 865) 904 dL_law_39 (by decide) (by decide) rfl (by decide) ?_
        exact k_undo M (by omega) hL hV hb1 hk1 (fun B2 w1 m1 z1 M2 hI => next (k9 + 1) (n9 + 6) B2 w1 m1 z1 M2 (by omega) (by omega) hI)
      · refine g_tabIn M (off := 909) 948 dL_law_39 (by decide) (by decide) rfl (by decide) ?_
        exact k_wheel M (by omega) hL hV hb1 hk1 (fun B2 w1 m1 z1 M2 hI => next (k9 + 1) (n9 + 6) B2 w1 m1 z1 M2 (by omega) (by omega) hI)
      · refine g_tabIn M (off := 977) 1016 dL_law_39 (by decide) (by decide) rfl (by decide) ?_
        exact k_tooth M (by omega) hL hV hb1 hk1 (fun B2 w1 m1 z1 M2 hI => next (k9 + 1) (n9 + 6) B2 w1 m1 z1 M2 (by omega) (by omega) hI)
      · refine g_tabIn M (off := 1045) 1084 dL_law_39 (by decide) (by decide) rfl (by decide) ?_
        exact k_scene M (by omega) hL hV hb1 hk1 (fun B2 w1 m1 z1 M2 hI => next (k9 + 1) (n9 + 6) B2 w1 m1 z1 M2 (by omega) (by omega) hI)
      · refine g_tabIn M (off := 1113) 1152 dL_law_39 (by decide) (by decide) rfl (by decide) ?_
        exact k_count M (by omega) hL hV hb1 hk1 (fun B2 w1 m1 z1 M2 hI => next (k9 + 1) (n9 + 6) B2 w1 m1 z1 M2 (by omega) (by omega) hI)
      · refine g_tabIn M (off := 1169) 1208 dL_law_39 (by decide) (by decide) rfl (by decide) ?_
        exact k_why M (by omega) hL hV hb1 hk1 (fun B2 w1 m1 z1 M2 hI => next (k9 + 1) (n9 + 6) B2 w1 m1 z1 M2 (by omega) (by omega) hI)
      · refine g_tabIn M (off := 1225) 1264 dL_law_39 (by decide) (by decide) rfl (by decide) ?_
        exact k_round M (by omega) hL hV hb1 hk1 (fun B2 w1 m1 z1 M2 hI => next (k9 + 1) (n9 + 6) B2 w1 m1 z1 M2 (by omega) (by omega) hI)
      · refine g_tabIn M (off := 1281) 1320 dL_law_39 (by decide) (by decide) rfl (by decide) ?_
        exact k_jamsIn M (by omega) hL hV hb1 hk1 (fun B2 w1 m1 z1 M2 hI => next (k9 + 1) (n9 + 6) B2 w1 m1 z1 M2 (by omega) (by omega) hI)
      · refine g_tabIn M (off := 1337) 1376 dL_law_39 (by decide) (by decide) rfl (by decide) ?_
        exact k_ahead M (by omega) hL hV hb1 hk1 (fun B2 w1 m1 z1 M2 hI => next (k9 + 1) (n9 + 6) B2 w1 m1 z1 M2 (by omega) (by omega) hI)
      · refine g_tabIn M (off := 1405) 1444 dL_law_39 (by decide) (by decide) rfl (by decide) ?_
        exact k_frees M (by omega) hL hV hb1 hk1 (fun B2 w1 m1 z1 M2 hI => next (k9 + 1) (n9 + 6) B2 w1 m1 z1 M2 (by omega) (by omega) hI)
      · refine g_tabIn M (off := 1461) 1500 dL_law_39 (by decide) (by decide) rfl (by decide) ?_
        exact k_allowedShare M hV hb1 (fun w1 m1 hI => next k9 n9 B w1 m1 z M (by omega) (by omega) hI)
      · refine g_tabIn M (off := 1502) 1541 dL_law_39 (by decide) (by decide) rfl (by decide) ?_
        exact k_meanHeight M hV hb1 (fun w1 m1 hI => next k9 n9 B w1 m1 z M (by omega) (by omega) hI)
      · refine g_tabIn M (off := 1545) 1584 dL_law_39 (by decide) (by decide) rfl (by decide) ?_
        exact k_digest M hV hb1 (fun w1 m1 hI => next k9 n9 B w1 m1 z M (by omega) (by omega) hI)
    · exact none9 t h29 ht


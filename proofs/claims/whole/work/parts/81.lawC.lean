theorem k_remember {L i b k9 n9 : Nat} {xs : Nat → Int32} {w0 m0 : List va_E} {z : Nat → Int64} {B : KT} (M : MG RL cL_law 9 ret room_1 k9 n9 (XLw L xs) B) (hi : i + 4 ≤ L) (hL : L ≤ 2048) (hV : Inv b w0 m0) (hb : b + 2000 ≤ 2 ^ 28) (hr9 : k9 + 1 ≤ 601024 ∧ n9 + 6 ≤ 7293034) (kk : ∀ (B2 : KT) (w1 m1 : List va_E) (z1 : Nat → Int64), MG RL cL_law 9 ret room_1 (k9 + 1) (n9 + 6) (XLw L xs) B2 → Inv (b + 2000) w1 m1 → B2 1598 [(0, .ref 1000), (1, .ref 0), (2, .ref 96), (3, .ref 95), (4, .int (nI i))] [] (LWm w1 z1 m1)) : B 621 [(0, .ref 1000), (1, .ref 0), (2, .ref 96), (3, .ref 95), (4, .int (nI i))] [] (LWm w0 z m0) := by
  obtain ⟨kv, mb, w1, m1, z1, hW, hM, hT, hz, hI⟩ := s_remember (z := z) hV hb 
  obtain ⟨l0, c0, fs0, g0⟩ := inv_w hV
  obtain ⟨l1, c1, fs1, g1⟩ := inv_w hI
  obtain ⟨n0, e0, fm0, q0⟩ := inv_m hV
  obtain ⟨n1, e1, fm1, q1⟩ := inv_m hI
  refine g_aload_n M dL_law_621 rfl ?_
  refine g_aload_n M dL_law_622 rfl ?_
  refine g_callW (n := 2) (As := [.ref 0, .ref 95]) M (xlw_xp L xs) hW lw_remember dL_law_623 (by decide +kernel) ⟨Nat.le_of_ble_eq_true rfl, Nat.le_of_ble_eq_true rfl⟩ ⟨rfl, rfl⟩ hr9 (List.range 96) rfl rfl nd96 (sel_pre nd96 (ln96 l0 z) (cl96 c0 z)) (Nat.le_of_ble_eq_true rfl) (fun B M => ?_)
  rw [put_pre nd96 (ln96 l0 z) (ln96 l1 z1) (cl96 c1 z1)]
  refine g_istore M dL_law_626 (by decide) ?_
  refine g_aload_n M dL_law_628 rfl ?_
  refine g_V0iu (q := 96) (w' := LWm w1 z1 m1) M hM lk_L_125 dL_law_629 (by decide +kernel) ⟨Nat.le_of_ble_eq_true rfl, Nat.le_of_ble_eq_true rfl⟩ ⟨rfl, rfl⟩ P5 (lw_md l1 q0) rfl rfl nd5 (sel_suf (ln96 l1 z1) n0 e0) (Nat.le_of_ble_eq_true rfl) (put_suf (ln96 l1 z1) n0 n1 e1) ?_
  refine g_istore M dL_law_632 (by decide) ?_
  refine g_aload_n M dL_law_634 rfl ?_
  refine g_V0ik (q := 96) M hT lk_L_95 dL_law_635 (by decide +kernel) ⟨Nat.le_of_ble_eq_true rfl, Nat.le_of_ble_eq_true rfl⟩ ⟨rfl, rfl⟩ P5 (lw_md l1 q1) rfl rfl nd5 (sel_suf (ln96 l1 z1) n1 e1) (Nat.le_of_ble_eq_true rfl) ?_
  refine g_iload M dL_law_638 rfl ?_
  refine g_icmp_eq M 645 dL_law_640 (by decide) (fun _ => ?_) (fun h9 => absurd rfl h9)
  refine g_iload M dL_law_645 rfl ?_
  by_cases h0 : kv = 0
  · refine g_if_ne M 662 dL_law_647 (by decide) (fun h9 => absurd h0 h9) (fun _ => ?_)
    refine g_aload_n M dL_law_650 rfl ?_
    refine g_iconst M 0 dL_law_651 (by decide) ?_
    refine g_lald M dL_law_652 (lw_out l1) vinA ?_
    rw [show (0 : Int32).toNatClampNeg = 0 from rfl, hz h0]
    refine g_iload M dL_law_653 rfl ?_
    refine g_i2l M dL_law_655 ?_
    refine g_lcmp M dL_law_656 ?_
    rw [lgc]
    refine g_if_eq M 662 dL_law_657 (by decide) (fun _ => ?_) (fun h9 => absurd rfl h9)
    refine g_goto M 1598 dL_law_662 (by decide) ?_
    exact g_lvs M _ (lvs_c rfl (lvs_c rfl (lvs_c rfl (lvs_c rfl (lvs_c rfl lvs_n))))) (kk _ _ _ _ M hI)
  · refine g_if_ne M 662 dL_law_647 (by decide) (fun _ => ?_) (fun h9 => absurd h9 h0)
    refine g_goto M 1598 dL_law_662 (by decide) ?_
    exact g_lvs M _ (lvs_c rfl (lvs_c rfl (lvs_c rfl (lvs_c rfl (lvs_c rfl lvs_n))))) (kk _ _ _ _ M hI)
theorem k_forget {L i b k9 n9 : Nat} {xs : Nat → Int32} {w0 m0 : List va_E} {z : Nat → Int64} {B : KT} (M : MG RL cL_law 9 ret room_1 k9 n9 (XLw L xs) B) (hi : i + 4 ≤ L) (hL : L ≤ 2048) (hV : Inv b w0 m0) (hb : b + 2000 ≤ 2 ^ 28) (hr9 : k9 + 1 ≤ 601024 ∧ n9 + 6 ≤ 7293034) (kk : ∀ (B2 : KT) (w1 m1 : List va_E) (z1 : Nat → Int64), MG RL cL_law 9 ret room_1 (k9 + 1) (n9 + 6) (XLw L xs) B2 → Inv (b + 2000) w1 m1 → B2 1598 [(0, .ref 1000), (1, .ref 0), (2, .ref 96), (3, .ref 95), (4, .int (nI i))] [] (LWm w1 z1 m1)) : B 665 [(0, .ref 1000), (1, .ref 0), (2, .ref 96), (3, .ref 95), (4, .int (nI i))] [] (LWm w0 z m0) := by
  obtain ⟨kv, mb, w1, m1, z1, hW, hM, hT, hz, hI⟩ := s_forget (z := z) hV hb (xs (nI (i + 1)).toNatClampNeg)
  obtain ⟨l0, c0, fs0, g0⟩ := inv_w hV
  obtain ⟨l1, c1, fs1, g1⟩ := inv_w hI
  obtain ⟨n0, e0, fm0, q0⟩ := inv_m hV
  obtain ⟨n1, e1, fm1, q1⟩ := inv_m hI
  refine g_aload_n M dL_law_665 rfl ?_
  refine g_aload_n M dL_law_666 rfl ?_
  refine g_iload M dL_law_667 rfl ?_
  refine g_iconst M 1 dL_law_669 (by decide) ?_
  refine g_iadd M dL_law_670 ?_
  rw [show nI i + 1 = nI (i + 1) from nI_add i 1]
  refine g_sld M (vp_in_nI (by omega) (by omega)) dL_law_671 ?_
  refine g_aload_n M dL_law_672 rfl ?_
  refine g_callW (n := 3) (As := [.ref 0, .int (xs (nI (i + 1)).toNatClampNeg), .ref 95]) M (xlw_xp L xs) hW lw_forget dL_law_673 (by decide +kernel) ⟨Nat.le_of_ble_eq_true rfl, Nat.le_of_ble_eq_true rfl⟩ ⟨rfl, rfl⟩ hr9 (List.range 96) rfl rfl nd96 (sel_pre nd96 (ln96 l0 z) (cl96 c0 z)) (Nat.le_of_ble_eq_true rfl) (fun B M => ?_)
  rw [put_pre nd96 (ln96 l0 z) (ln96 l1 z1) (cl96 c1 z1)]
  refine g_istore M dL_law_676 (by decide) ?_
  refine g_aload_n M dL_law_678 rfl ?_
  refine g_aload_n M dL_law_679 rfl ?_
  refine g_iload M dL_law_680 rfl ?_
  refine g_iconst M 1 dL_law_682 (by decide) ?_
  refine g_iadd M dL_law_683 ?_
  rw [show nI i + 1 = nI (i + 1) from nI_add i 1]
  refine g_sld M (vp_in_nI (by omega) (by omega)) dL_law_684 ?_
  refine g_V1iu (q := 96) (w' := LWm w1 z1 m1) M hM lk_L_128 dL_law_685 (by decide +kernel) ⟨Nat.le_of_ble_eq_true rfl, Nat.le_of_ble_eq_true rfl⟩ ⟨rfl, rfl⟩ P5 (lw_md l1 q0) rfl rfl nd5 (sel_suf (ln96 l1 z1) n0 e0) (Nat.le_of_ble_eq_true rfl) (put_suf (ln96 l1 z1) n0 n1 e1) ?_
  refine g_istore M dL_law_688 (by decide) ?_
  refine g_aload_n M dL_law_690 rfl ?_
  refine g_V0ik (q := 96) M hT lk_L_95 dL_law_691 (by decide +kernel) ⟨Nat.le_of_ble_eq_true rfl, Nat.le_of_ble_eq_true rfl⟩ ⟨rfl, rfl⟩ P5 (lw_md l1 q1) rfl rfl nd5 (sel_suf (ln96 l1 z1) n1 e1) (Nat.le_of_ble_eq_true rfl) ?_
  refine g_iload M dL_law_694 rfl ?_
  refine g_icmp_eq M 701 dL_law_696 (by decide) (fun _ => ?_) (fun h9 => absurd rfl h9)
  refine g_iload M dL_law_701 rfl ?_
  by_cases h0 : kv = 0
  · refine g_if_ne M 718 dL_law_703 (by decide) (fun h9 => absurd h0 h9) (fun _ => ?_)
    refine g_aload_n M dL_law_706 rfl ?_
    refine g_iconst M 0 dL_law_707 (by decide) ?_
    refine g_lald M dL_law_708 (lw_out l1) vinA ?_
    rw [show (0 : Int32).toNatClampNeg = 0 from rfl, hz h0]
    refine g_iload M dL_law_709 rfl ?_
    refine g_i2l M dL_law_711 ?_
    refine g_lcmp M dL_law_712 ?_
    rw [lgc]
    refine g_if_eq M 718 dL_law_713 (by decide) (fun _ => ?_) (fun h9 => absurd rfl h9)
    refine g_goto M 1598 dL_law_718 (by decide) ?_
    exact g_lvs M _ (lvs_c rfl (lvs_c rfl (lvs_c rfl (lvs_c rfl (lvs_c rfl lvs_n))))) (kk _ _ _ _ M hI)
  · refine g_if_ne M 718 dL_law_703 (by decide) (fun _ => ?_) (fun h9 => absurd h9 h0)
    refine g_goto M 1598 dL_law_718 (by decide) ?_
    exact g_lvs M _ (lvs_c rfl (lvs_c rfl (lvs_c rfl (lvs_c rfl (lvs_c rfl lvs_n))))) (kk _ _ _ _ M hI)
theorem k_append {L i b k9 n9 : Nat} {xs : Nat → Int32} {w0 m0 : List va_E} {z : Nat → Int64} {B : KT} (M : MG RL cL_law 9 ret room_1 k9 n9 (XLw L xs) B) (hi : i + 4 ≤ L) (hL : L ≤ 2048) (hV : Inv b w0 m0) (hb : b + 2000 ≤ 2 ^ 28) (hr9 : k9 + 1 ≤ 601024 ∧ n9 + 6 ≤ 7293034) (kk : ∀ (B2 : KT) (w1 m1 : List va_E) (z1 : Nat → Int64), MG RL cL_law 9 ret room_1 (k9 + 1) (n9 + 6) (XLw L xs) B2 → Inv (b + 2000) w1 m1 → B2 1598 [(0, .ref 1000), (1, .ref 0), (2, .ref 96), (3, .ref 95), (4, .int (nI i))] [] (LWm w1 z1 m1)) : B 721 [(0, .ref 1000), (1, .ref 0), (2, .ref 96), (3, .ref 95), (4, .int (nI i))] [] (LWm w0 z m0) := by
  obtain ⟨kv, mb, w1, m1, z1, hW, hM, hT, hz, hI⟩ := s_append (z := z) hV hb (xs (nI (i + 1)).toNatClampNeg)
  obtain ⟨l0, c0, fs0, g0⟩ := inv_w hV
  obtain ⟨l1, c1, fs1, g1⟩ := inv_w hI
  obtain ⟨n0, e0, fm0, q0⟩ := inv_m hV
  obtain ⟨n1, e1, fm1, q1⟩ := inv_m hI
  refine g_aload_n M dL_law_721 rfl ?_
  refine g_aload_n M dL_law_722 rfl ?_
  refine g_iload M dL_law_723 rfl ?_
  refine g_iconst M 1 dL_law_725 (by decide) ?_
  refine g_iadd M dL_law_726 ?_
  rw [show nI i + 1 = nI (i + 1) from nI_add i 1]
  refine g_sld M (vp_in_nI (by omega) (by omega)) dL_law_727 ?_
  refine g_aload_n M dL_law_728 rfl ?_
  refine g_callW (n := 3) (As := [.ref 0, .int (xs (nI (i + 1)).toNatClampNeg), .ref 95]) M (xlw_xp L xs) hW lw_append dL_law_729 (by decide +kernel) ⟨Nat.le_of_ble_eq_true rfl, Nat.le_of_ble_eq_true rfl⟩ ⟨rfl, rfl⟩ hr9 (List.range 96) rfl rfl nd96 (sel_pre nd96 (ln96 l0 z) (cl96 c0 z)) (Nat.le_of_ble_eq_true rfl) (fun B M => ?_)
  rw [put_pre nd96 (ln96 l0 z) (ln96 l1 z1) (cl96 c1 z1)]
  refine g_istore M dL_law_732 (by decide) ?_
  refine g_aload_n M dL_law_734 rfl ?_
  refine g_aload_n M dL_law_735 rfl ?_
  refine g_iload M dL_law_736 rfl ?_
  refine g_iconst M 1 dL_law_738 (by decide) ?_
  refine g_iadd M dL_law_739 ?_
  rw [show nI i + 1 = nI (i + 1) from nI_add i 1]
  refine g_sld M (vp_in_nI (by omega) (by omega)) dL_law_740 ?_
  refine g_V1iu (q := 96) (w' := LWm w1 z1 m1) M hM lk_L_131 dL_law_741 (by decide +kernel) ⟨Nat.le_of_ble_eq_true rfl, Nat.le_of_ble_eq_true rfl⟩ ⟨rfl, rfl⟩ P5 (lw_md l1 q0) rfl rfl nd5 (sel_suf (ln96 l1 z1) n0 e0) (Nat.le_of_ble_eq_true rfl) (put_suf (ln96 l1 z1) n0 n1 e1) ?_
  refine g_istore M dL_law_744 (by decide) ?_
  refine g_aload_n M dL_law_746 rfl ?_
  refine g_V0ik (q := 96) M hT lk_L_95 dL_law_747 (by decide +kernel) ⟨Nat.le_of_ble_eq_true rfl, Nat.le_of_ble_eq_true rfl⟩ ⟨rfl, rfl⟩ P5 (lw_md l1 q1) rfl rfl nd5 (sel_suf (ln96 l1 z1) n1 e1) (Nat.le_of_ble_eq_true rfl) ?_
  refine g_iload M dL_law_750 rfl ?_
  refine g_icmp_eq M 757 dL_law_752 (by decide) (fun _ => ?_) (fun h9 => absurd rfl h9)
  refine g_iload M dL_law_757 rfl ?_
  by_cases h0 : kv = 0
  · refine g_if_ne M 774 dL_law_759 (by decide) (fun h9 => absurd h0 h9) (fun _ => ?_)
    refine g_aload_n M dL_law_762 rfl ?_
    refine g_iconst M 0 dL_law_763 (by decide) ?_
    refine g_lald M dL_law_764 (lw_out l1) vinA ?_
    rw [show (0 : Int32).toNatClampNeg = 0 from rfl, hz h0]
    refine g_iload M dL_law_765 rfl ?_
    refine g_i2l M dL_law_767 ?_
    refine g_lcmp M dL_law_768 ?_
    rw [lgc]
    refine g_if_eq M 774 dL_law_769 (by decide) (fun _ => ?_) (fun h9 => absurd rfl h9)
    refine g_goto M 1598 dL_law_774 (by decide) ?_
    exact g_lvs M _ (lvs_c rfl (lvs_c rfl (lvs_c rfl (lvs_c rfl (lvs_c rfl lvs_n))))) (kk _ _ _ _ M hI)
  · refine g_if_ne M 774 dL_law_759 (by decide) (fun _ => ?_) (fun h9 => absurd h9 h0)
    refine g_goto M 1598 dL_law_774 (by decide) ?_
    exact g_lvs M _ (lvs_c rfl (lvs_c rfl (lvs_c rfl (lvs_c rfl (lvs_c rfl lvs_n))))) (kk _ _ _ _ M hI)
theorem k_clearBuffer {L i b k9 n9 : Nat} {xs : Nat → Int32} {w0 m0 : List va_E} {z : Nat → Int64} {B : KT} (M : MG RL cL_law 9 ret room_1 k9 n9 (XLw L xs) B) (hV : Inv b w0 m0) (hb : b + 2000 ≤ 2 ^ 28) (kk : ∀ (w1 m1 : List va_E), Inv (b + 2000) w1 m1 → B 1598 [(0, .ref 1000), (1, .ref 0), (2, .ref 96), (3, .ref 95), (4, .int (nI i))] [] (LWm w1 z m1)) : B 777 [(0, .ref 1000), (1, .ref 0), (2, .ref 96), (3, .ref 95), (4, .int (nI i))] [] (LWm w0 z m0) := by
  obtain ⟨v, w1, m1, hW, hM, hI⟩ := s_clearBuffer hV hb
  obtain ⟨l0, c0, fs0, g0⟩ := inv_w hV
  obtain ⟨l1, c1, fs1, g1⟩ := inv_w hI
  obtain ⟨n0, e0, fm0, q0⟩ := inv_m hV
  obtain ⟨n1, e1, fm1, q1⟩ := inv_m hI
  refine g_aload_n M dL_law_777 rfl ?_
  refine g_V0iu (q := 0) (w' := LWm w1 z m0) M hW lk_L_132 dL_law_778 (by decide +kernel) ⟨Nat.le_of_ble_eq_true rfl, Nat.le_of_ble_eq_true rfl⟩ ⟨rfl, rfl⟩ (List.range 95) (lw_hd l0 g0) rfl rfl nd95 (sel_pre2 nd95 l0 c0) (Nat.le_of_ble_eq_true rfl) (put_pre2 nd95 l0 l1 c1) ?_
  refine g_aload_n M dL_law_781 rfl ?_
  refine g_V0iu (q := 96) (w' := LWm w1 z m1) M hM lk_L_135 dL_law_782 (by decide +kernel) ⟨Nat.le_of_ble_eq_true rfl, Nat.le_of_ble_eq_true rfl⟩ ⟨rfl, rfl⟩ P5 (lw_md l1 q0) rfl rfl nd5 (sel_suf (ln96 l1 z) n0 e0) (Nat.le_of_ble_eq_true rfl) (put_suf (ln96 l1 z) n0 n1 e1) ?_
  refine g_icmp_eq M 1598 dL_law_785 (by decide) (fun _ => ?_) (fun h9 => absurd rfl h9)
  exact g_lvs M _ (lvs_c rfl (lvs_c rfl (lvs_c rfl (lvs_c rfl (lvs_c rfl lvs_n))))) (kk _ _ hI)
theorem k_firstError {L i b k9 n9 : Nat} {xs : Nat → Int32} {w0 m0 : List va_E} {z : Nat → Int64} {B : KT} (M : MG RL cL_law 9 ret room_1 k9 n9 (XLw L xs) B) (hV : Inv b w0 m0) (hb : b + 2000 ≤ 2 ^ 28) (kk : ∀ (w1 m1 : List va_E), Inv (b + 2000) w1 m1 → B 1598 [(0, .ref 1000), (1, .ref 0), (2, .ref 96), (3, .ref 95), (4, .int (nI i))] [] (LWm w1 z m1)) : B 790 [(0, .ref 1000), (1, .ref 0), (2, .ref 96), (3, .ref 95), (4, .int (nI i))] [] (LWm w0 z m0) := by
  obtain ⟨v, w1, m1, hW, hM, hI⟩ := s_firstError hV hb
  obtain ⟨l0, c0, fs0, g0⟩ := inv_w hV
  obtain ⟨l1, c1, fs1, g1⟩ := inv_w hI
  obtain ⟨n0, e0, fm0, q0⟩ := inv_m hV
  obtain ⟨n1, e1, fm1, q1⟩ := inv_m hI
  refine g_aload_n M dL_law_790 rfl ?_
  refine g_V0iu (q := 0) (w' := LWm w1 z m0) M hW lk_L_136 dL_law_791 (by decide +kernel) ⟨Nat.le_of_ble_eq_true rfl, Nat.le_of_ble_eq_true rfl⟩ ⟨rfl, rfl⟩ (List.range 95) (lw_hd l0 g0) rfl rfl nd95 (sel_pre2 nd95 l0 c0) (Nat.le_of_ble_eq_true rfl) (put_pre2 nd95 l0 l1 c1) ?_
  refine g_aload_n M dL_law_794 rfl ?_
  refine g_V0iu (q := 96) (w' := LWm w1 z m1) M hM lk_L_139 dL_law_795 (by decide +kernel) ⟨Nat.le_of_ble_eq_true rfl, Nat.le_of_ble_eq_true rfl⟩ ⟨rfl, rfl⟩ P5 (lw_md l1 q0) rfl rfl nd5 (sel_suf (ln96 l1 z) n0 e0) (Nat.le_of_ble_eq_true rfl) (put_suf (ln96 l1 z) n0 n1 e1) ?_
  refine g_icmp_eq M 1598 dL_law_798 (by decide) (fun _ => ?_) (fun h9 => absurd rfl h9)
  exact g_lvs M _ (lvs_c rfl (lvs_c rfl (lvs_c rfl (lvs_c rfl (lvs_c rfl lvs_n))))) (kk _ _ hI)
theorem k_work {L i b k9 n9 : Nat} {xs : Nat → Int32} {w0 m0 : List va_E} {z : Nat → Int64} {B : KT} (M : MG RL cL_law 9 ret room_1 k9 n9 (XLw L xs) B) (hi : i + 4 ≤ L) (hL : L ≤ 2048) (hV : Inv b w0 m0) (hb : b + 2000 ≤ 2 ^ 28) (hr9 : k9 + 1 ≤ 601024 ∧ n9 + 6 ≤ 7293034) (kk : ∀ (B2 : KT) (w1 m1 : List va_E) (z1 : Nat → Int64), MG RL cL_law 9 ret room_1 (k9 + 1) (n9 + 6) (XLw L xs) B2 → Inv (b + 2000) w1 m1 → B2 1598 [(0, .ref 1000), (1, .ref 0), (2, .ref 96), (3, .ref 95), (4, .int (nI i))] [] (LWm w1 z1 m1)) : B 803 [(0, .ref 1000), (1, .ref 0), (2, .ref 96), (3, .ref 95), (4, .int (nI i))] [] (LWm w0 z m0) := by
  obtain ⟨kv, mb, w1, m1, z1, hW, hM, hT, hz, hI⟩ := s_work (z := z) hV hb 
  obtain ⟨l0, c0, fs0, g0⟩ := inv_w hV
  obtain ⟨l1, c1, fs1, g1⟩ := inv_w hI
  obtain ⟨n0, e0, fm0, q0⟩ := inv_m hV
  obtain ⟨n1, e1, fm1, q1⟩ := inv_m hI
  refine g_aload_n M dL_law_803 rfl ?_
  refine g_aload_n M dL_law_804 rfl ?_
  refine g_callW (n := 2) (As := [.ref 0, .ref 95]) M (xlw_xp L xs) hW lw_work dL_law_805 (by decide +kernel) ⟨Nat.le_of_ble_eq_true rfl, Nat.le_of_ble_eq_true rfl⟩ ⟨rfl, rfl⟩ hr9 (List.range 96) rfl rfl nd96 (sel_pre nd96 (ln96 l0 z) (cl96 c0 z)) (Nat.le_of_ble_eq_true rfl) (fun B M => ?_)
  rw [put_pre nd96 (ln96 l0 z) (ln96 l1 z1) (cl96 c1 z1)]
  refine g_istore M dL_law_808 (by decide) ?_
  refine g_aload_n M dL_law_810 rfl ?_
  refine g_V0iu (q := 96) (w' := LWm w1 z1 m1) M hM lk_L_142 dL_law_811 (by decide +kernel) ⟨Nat.le_of_ble_eq_true rfl, Nat.le_of_ble_eq_true rfl⟩ ⟨rfl, rfl⟩ P5 (lw_md l1 q0) rfl rfl nd5 (sel_suf (ln96 l1 z1) n0 e0) (Nat.le_of_ble_eq_true rfl) (put_suf (ln96 l1 z1) n0 n1 e1) ?_
  refine g_istore M dL_law_814 (by decide) ?_
  refine g_aload_n M dL_law_816 rfl ?_
  refine g_V0ik (q := 96) M hT lk_L_95 dL_law_817 (by decide +kernel) ⟨Nat.le_of_ble_eq_true rfl, Nat.le_of_ble_eq_true rfl⟩ ⟨rfl, rfl⟩ P5 (lw_md l1 q1) rfl rfl nd5 (sel_suf (ln96 l1 z1) n1 e1) (Nat.le_of_ble_eq_true rfl) ?_
  refine g_iload M dL_law_820 rfl ?_
  refine g_icmp_eq M 827 dL_law_822 (by decide) (fun _ => ?_) (fun h9 => absurd rfl h9)
  refine g_iload M dL_law_827 rfl ?_
  by_cases h0 : kv = 0
  · refine g_if_ne M 844 dL_law_829 (by decide) (fun h9 => absurd h0 h9) (fun _ => ?_)
    refine g_aload_n M dL_law_832 rfl ?_
    refine g_iconst M 0 dL_law_833 (by decide) ?_
    refine g_lald M dL_law_834 (lw_out l1) vinA ?_
    rw [show (0 : Int32).toNatClampNeg = 0 from rfl, hz h0]
    refine g_iload M dL_law_835 rfl ?_
    refine g_i2l M dL_law_837 ?_
    refine g_lcmp M dL_law_838 ?_
    rw [lgc]
    refine g_if_eq M 844 dL_law_839 (by decide) (fun _ => ?_) (fun h9 => absurd rfl h9)
    refine g_goto M 1598 dL_law_844 (by decide) ?_
    exact g_lvs M _ (lvs_c rfl (lvs_c rfl (lvs_c rfl (lvs_c rfl (lvs_c rfl lvs_n))))) (kk _ _ _ _ M hI)
  · refine g_if_ne M 844 dL_law_829 (by decide) (fun _ => ?_) (fun h9 => absurd h9 h0)
    refine g_goto M 1598 dL_law_844 (by decide) ?_
    exact g_lvs M _ (lvs_c rfl (lvs_c rfl (lvs_c rfl (lvs_c rfl (lvs_c rfl lvs_n))))) (kk _ _ _ _ M hI)
theorem k_keep {L i b k9 n9 : Nat} {xs : Nat → Int32} {w0 m0 : List va_E} {z : Nat → Int64} {B : KT} (M : MG RL cL_law 9 ret room_1 k9 n9 (XLw L xs) B) (hV : Inv b w0 m0) (hb : b + 2000 ≤ 2 ^ 28) (kk : ∀ (w1 m1 : List va_E), Inv (b + 2000) w1 m1 → B 1598 [(0, .ref 1000), (1, .ref 0), (2, .ref 96), (3, .ref 95), (4, .int (nI i))] [] (LWm w1 z m1)) : B 847 [(0, .ref 1000), (1, .ref 0), (2, .ref 96), (3, .ref 95), (4, .int (nI i))] [] (LWm w0 z m0) := by
  obtain ⟨v, w1, m1, hW, hM, hI⟩ := s_keep hV hb
  obtain ⟨l0, c0, fs0, g0⟩ := inv_w hV
  obtain ⟨l1, c1, fs1, g1⟩ := inv_w hI
  obtain ⟨n0, e0, fm0, q0⟩ := inv_m hV
  obtain ⟨n1, e1, fm1, q1⟩ := inv_m hI
  refine g_aload_n M dL_law_847 rfl ?_
  refine g_V0iu (q := 0) (w' := LWm w1 z m0) M hW lk_L_143 dL_law_848 (by decide +kernel) ⟨Nat.le_of_ble_eq_true rfl, Nat.le_of_ble_eq_true rfl⟩ ⟨rfl, rfl⟩ (List.range 95) (lw_hd l0 g0) rfl rfl nd95 (sel_pre2 nd95 l0 c0) (Nat.le_of_ble_eq_true rfl) (put_pre2 nd95 l0 l1 c1) ?_
  refine g_aload_n M dL_law_851 rfl ?_
  refine g_V0iu (q := 96) (w' := LWm w1 z m1) M hM lk_L_146 dL_law_852 (by decide +kernel) ⟨Nat.le_of_ble_eq_true rfl, Nat.le_of_ble_eq_true rfl⟩ ⟨rfl, rfl⟩ P5 (lw_md l1 q0) rfl rfl nd5 (sel_suf (ln96 l1 z) n0 e0) (Nat.le_of_ble_eq_true rfl) (put_suf (ln96 l1 z) n0 n1 e1) ?_
  refine g_icmp_eq M 1598 dL_law_855 (by decide) (fun _ => ?_) (fun h9 => absurd rfl h9)
  exact g_lvs M _ (lvs_c rfl (lvs_c rfl (lvs_c rfl (lvs_c rfl (lvs_c rfl lvs_n))))) (kk _ _ hI)
theorem k_goBack {L i b k9 n9 : Nat} {xs : Nat → Int32} {w0 m0 : List va_E} {z : Nat → Int64} {B : KT} (M : MG RL cL_law 9 ret room_1 k9 n9 (XLw L xs) B) (hi : i + 4 ≤ L) (hL : L ≤ 2048) (hV : Inv b w0 m0) (hb : b + 2000 ≤ 2 ^ 28) (hr9 : k9 + 1 ≤ 601024 ∧ n9 + 6 ≤ 7293034) (kk : ∀ (B2 : KT) (w1 m1 : List va_E) (z1 : Nat → Int64), MG RL cL_law 9 ret room_1 (k9 + 1) (n9 + 6) (XLw L xs) B2 → Inv (b + 2000) w1 m1 → B2 1598 [(0, .ref 1000), (1, .ref 0), (2, .ref 96), (3, .ref 95), (4, .int (nI i))] [] (LWm w1 z1 m1)) : B 860 [(0, .ref 1000), (1, .ref 0), (2, .ref 96), (3, .ref 95), (4, .int (nI i))] [] (LWm w0 z m0) := by
  obtain ⟨kv, mb, w1, m1, z1, hW, hM, hT, hz, hI⟩ := s_goBack (z := z) hV hb 
  obtain ⟨l0, c0, fs0, g0⟩ := inv_w hV
  obtain ⟨l1, c1, fs1, g1⟩ := inv_w hI
  obtain ⟨n0, e0, fm0, q0⟩ := inv_m hV
  obtain ⟨n1, e1, fm1, q1⟩ := inv_m hI
  refine g_aload_n M dL_law_860 rfl ?_
  refine g_aload_n M dL_law_861 rfl ?_
  refine g_callW (n := 2) (As := [.ref 0, .ref 95]) M (xlw_xp L xs) hW lw_goBack dL_law_862 (by decide +kernel) ⟨Nat.le_of_ble_eq_true rfl, Nat.le_of_ble_eq_true rfl⟩ ⟨rfl, rfl⟩ hr9 (List.range 96) rfl rfl nd96 (sel_pre nd96 (ln96 l0 z) (cl96 c0 z)) (Nat.le_of_ble_eq_true rfl) (fun B M => ?_)
  rw [put_pre nd96 (ln96 l0 z) (ln96 l1 z1) (cl96 c1 z1)]
  refine g_istore M dL_law_865 (by decide) ?_
  refine g_aload_n M dL_law_867 rfl ?_
  refine g_V0iu (q := 96) (w' := LWm w1 z1 m1) M hM lk_L_149 dL_law_868 (by decide +kernel) ⟨Nat.le_of_ble_eq_true rfl, Nat.le_of_ble_eq_true rfl⟩ ⟨rfl, rfl⟩ P5 (lw_md l1 q0) rfl rfl nd5 (sel_suf (ln96 l1 z1) n0 e0) (Nat.le_of_ble_eq_true rfl) (put_suf (ln96 l1 z1) n0 n1 e1) ?_
  refine g_istore M dL_law_871 (by decide) ?_
  refine g_aload_n M dL_law_873 rfl ?_
  refine g_V0ik (q := 96) M hT lk_L_95 dL_law_874 (by decide +kernel) ⟨Nat.le_of_ble_eq_true rfl, Nat.le_of_ble_eq_true rfl⟩ ⟨rfl, rfl⟩ P5 (lw_md l1 q1) rfl rfl nd5 (sel_suf (ln96 l1 z1) n1 e1) (Nat.le_of_ble_eq_true rfl) ?_
  refine g_iload M dL_law_877 rfl ?_
  refine g_icmp_eq M 884 dL_law_879 (by decide) (fun _ => ?_) (fun h9 => absurd rfl h9)
  refine g_iload M dL_law_884 rfl ?_
  by_cases h0 : kv = 0
  · refine g_if_ne M 901 dL_law_886 (by decide) (fun h9 => absurd h0 h9) (fun _ => ?_)
    refine g_aload_n M dL_law_889 rfl ?_
    refine g_iconst M 0 dL_law_890 (by decide) ?_
    refine g_lald M dL_law_891 (lw_out l1) vinA ?_
    rw [show (0 : Int32).toNatClampNeg = 0 from rfl, hz h0]
    refine g_iload M dL_law_892 rfl ?_
    refine g_i2l M dL_law_894 ?_
    refine g_lcmp M dL_law_895 ?_
    rw [lgc]
    refine g_if_eq M 901 dL_law_896 (by decide) (fun _ => ?_) (fun h9 => absurd rfl h9)
    refine g_goto M 1598 dL_law_901 (by decide) ?_
    exact g_lvs M _ (lvs_c rfl (lvs_c rfl (lvs_c rfl (lvs_c rfl (lvs_c rfl lvs_n))))) (kk _ _ _ _ M hI)
  · refine g_if_ne M 901 dL_law_886 (by decide) (fun _ => ?_) (fun h9 => absurd h9 h0)
    refine g_goto M 1598 dL_law_901 (by decide) ?_
    exact g_lvs M _ (lvs_c rfl (lvs_c rfl (lvs_c rfl (lvs_c rfl (lvs_c rfl lvs_n))))) (kk _ _ _ _ M hI)


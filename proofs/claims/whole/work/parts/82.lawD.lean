theorem k_undo {L i b k9 n9 : Nat} {xs : Nat → Int32} {w0 m0 : List va_E} {z : Nat → Int64} {B : KT} (M : MG RL cL_law 9 ret room_1 k9 n9 (XLw L xs) B) (hi : i + 4 ≤ L) (hL : L ≤ 2048) (hV : Inv b w0 m0) (hb : b + 2000 ≤ 2 ^ 28) (hr9 : k9 + 1 ≤ 601024 ∧ n9 + 6 ≤ 7293034) (kk : ∀ (B2 : KT) (w1 m1 : List va_E) (z1 : Nat → Int64), MG RL cL_law 9 ret room_1 (k9 + 1) (n9 + 6) (XLw L xs) B2 → Inv (b + 2000) w1 m1 → B2 1598 [(0, .ref 1000), (1, .ref 0), (2, .ref 96), (3, .ref 95), (4, .int (nI i))] [] (LWm w1 z1 m1)) : B 904 [(0, .ref 1000), (1, .ref 0), (2, .ref 96), (3, .ref 95), (4, .int (nI i))] [] (LWm w0 z m0) := by
  obtain ⟨kv, mb, w1, m1, z1, hW, hM, hT, hz, hI⟩ := s_undo (z := z) hV hb 
  obtain ⟨l0, c0, fs0, g0⟩ := inv_w hV
  obtain ⟨l1, c1, fs1, g1⟩ := inv_w hI
  obtain ⟨n0, e0, fm0, q0⟩ := inv_m hV
  obtain ⟨n1, e1, fm1, q1⟩ := inv_m hI
  refine g_aload_n M dL_law_904 rfl ?_
  refine g_aload_n M dL_law_905 rfl ?_
  refine g_callW (n := 2) (As := [.ref 0, .ref 95]) M (xlw_xp L xs) hW lw_undo dL_law_906 (by decide +kernel) ⟨Nat.le_of_ble_eq_true rfl, Nat.le_of_ble_eq_true rfl⟩ ⟨rfl, rfl⟩ hr9 (List.range 96) rfl rfl nd96 (sel_pre nd96 (ln96 l0 z) (cl96 c0 z)) (Nat.le_of_ble_eq_true rfl) (fun B M => ?_)
  rw [put_pre nd96 (ln96 l0 z) (ln96 l1 z1) (cl96 c1 z1)]
  refine g_istore M dL_law_909 (by decide) ?_
  refine g_aload_n M dL_law_911 rfl ?_
  refine g_V0iu (q := 96) (w' := LWm w1 z1 m1) M hM lk_L_152 dL_law_912 (by decide +kernel) ⟨Nat.le_of_ble_eq_true rfl, Nat.le_of_ble_eq_true rfl⟩ ⟨rfl, rfl⟩ P5 (lw_md l1 q0) rfl rfl nd5 (sel_suf (ln96 l1 z1) n0 e0) (Nat.le_of_ble_eq_true rfl) (put_suf (ln96 l1 z1) n0 n1 e1) ?_
  refine g_istore M dL_law_915 (by decide) ?_
  refine g_aload_n M dL_law_917 rfl ?_
  refine g_V0ik (q := 96) M hT lk_L_95 dL_law_918 (by decide +kernel) ⟨Nat.le_of_ble_eq_true rfl, Nat.le_of_ble_eq_true rfl⟩ ⟨rfl, rfl⟩ P5 (lw_md l1 q1) rfl rfl nd5 (sel_suf (ln96 l1 z1) n1 e1) (Nat.le_of_ble_eq_true rfl) ?_
  refine g_iload M dL_law_921 rfl ?_
  refine g_icmp_eq M 928 dL_law_923 (by decide) (fun _ => ?_) (fun h9 => absurd rfl h9)
  refine g_iload M dL_law_928 rfl ?_
  by_cases h0 : kv = 0
  · refine g_if_ne M 945 dL_law_930 (by decide) (fun h9 => absurd h0 h9) (fun _ => ?_)
    refine g_aload_n M dL_law_933 rfl ?_
    refine g_iconst M 0 dL_law_934 (by decide) ?_
    refine g_lald M dL_law_935 (lw_out l1) vinA ?_
    rw [show (0 : Int32).toNatClampNeg = 0 from rfl, hz h0]
    refine g_iload M dL_law_936 rfl ?_
    refine g_i2l M dL_law_938 ?_
    refine g_lcmp M dL_law_939 ?_
    rw [lgc]
    refine g_if_eq M 945 dL_law_940 (by decide) (fun _ => ?_) (fun h9 => absurd rfl h9)
    refine g_goto M 1598 dL_law_945 (by decide) ?_
    exact g_lvs M _ (lvs_c rfl (lvs_c rfl (lvs_c rfl (lvs_c rfl (lvs_c rfl lvs_n))))) (kk _ _ _ _ M hI)
  · refine g_if_ne M 945 dL_law_930 (by decide) (fun _ => ?_) (fun h9 => absurd h9 h0)
    refine g_goto M 1598 dL_law_945 (by decide) ?_
    exact g_lvs M _ (lvs_c rfl (lvs_c rfl (lvs_c rfl (lvs_c rfl (lvs_c rfl lvs_n))))) (kk _ _ _ _ M hI)
theorem k_wheel {L i b k9 n9 : Nat} {xs : Nat → Int32} {w0 m0 : List va_E} {z : Nat → Int64} {B : KT} (M : MG RL cL_law 9 ret room_1 k9 n9 (XLw L xs) B) (hi : i + 4 ≤ L) (hL : L ≤ 2048) (hV : Inv b w0 m0) (hb : b + 2000 ≤ 2 ^ 28) (hr9 : k9 + 1 ≤ 601024 ∧ n9 + 6 ≤ 7293034) (kk : ∀ (B2 : KT) (w1 m1 : List va_E) (z1 : Nat → Int64), MG RL cL_law 9 ret room_1 (k9 + 1) (n9 + 6) (XLw L xs) B2 → Inv (b + 2000) w1 m1 → B2 1598 [(0, .ref 1000), (1, .ref 0), (2, .ref 96), (3, .ref 95), (4, .int (nI i))] [] (LWm w1 z1 m1)) : B 948 [(0, .ref 1000), (1, .ref 0), (2, .ref 96), (3, .ref 95), (4, .int (nI i))] [] (LWm w0 z m0) := by
  obtain ⟨kv, mb, w1, m1, z1, hW, hM, hT, hz, hI⟩ := s_wheel (z := z) hV hb (xs (nI (i + 1)).toNatClampNeg) (xs (nI (i + 2)).toNatClampNeg)
  obtain ⟨l0, c0, fs0, g0⟩ := inv_w hV
  obtain ⟨l1, c1, fs1, g1⟩ := inv_w hI
  obtain ⟨n0, e0, fm0, q0⟩ := inv_m hV
  obtain ⟨n1, e1, fm1, q1⟩ := inv_m hI
  refine g_aload_n M dL_law_948 rfl ?_
  refine g_aload_n M dL_law_949 rfl ?_
  refine g_iload M dL_law_950 rfl ?_
  refine g_iconst M 1 dL_law_952 (by decide) ?_
  refine g_iadd M dL_law_953 ?_
  rw [show nI i + 1 = nI (i + 1) from nI_add i 1]
  refine g_sld M (vp_in_nI (by omega) (by omega)) dL_law_954 ?_
  refine g_aload_n M dL_law_955 rfl ?_
  refine g_iload M dL_law_956 rfl ?_
  refine g_iconst M 2 dL_law_958 (by decide) ?_
  refine g_iadd M dL_law_959 ?_
  rw [show nI i + 2 = nI (i + 2) from nI_add i 2]
  refine g_sld M (vp_in_nI (by omega) (by omega)) dL_law_960 ?_
  refine g_aload_n M dL_law_961 rfl ?_
  refine g_callW (n := 4) (As := [.ref 0, .int (xs (nI (i + 1)).toNatClampNeg), .int (xs (nI (i + 2)).toNatClampNeg), .ref 95]) M (xlw_xp L xs) hW lw_wheel dL_law_962 (by decide +kernel) ⟨Nat.le_of_ble_eq_true rfl, Nat.le_of_ble_eq_true rfl⟩ ⟨rfl, rfl⟩ hr9 (List.range 96) rfl rfl nd96 (sel_pre nd96 (ln96 l0 z) (cl96 c0 z)) (Nat.le_of_ble_eq_true rfl) (fun B M => ?_)
  rw [put_pre nd96 (ln96 l0 z) (ln96 l1 z1) (cl96 c1 z1)]
  refine g_istore M dL_law_965 (by decide) ?_
  refine g_aload_n M dL_law_967 rfl ?_
  refine g_aload_n M dL_law_968 rfl ?_
  refine g_iload M dL_law_969 rfl ?_
  refine g_iconst M 1 dL_law_971 (by decide) ?_
  refine g_iadd M dL_law_972 ?_
  rw [show nI i + 1 = nI (i + 1) from nI_add i 1]
  refine g_sld M (vp_in_nI (by omega) (by omega)) dL_law_973 ?_
  refine g_aload_n M dL_law_974 rfl ?_
  refine g_iload M dL_law_975 rfl ?_
  refine g_iconst M 2 dL_law_977 (by decide) ?_
  refine g_iadd M dL_law_978 ?_
  rw [show nI i + 2 = nI (i + 2) from nI_add i 2]
  refine g_sld M (vp_in_nI (by omega) (by omega)) dL_law_979 ?_
  refine g_V2iu (q := 96) (w' := LWm w1 z1 m1) M hM lk_L_155 dL_law_980 (by decide +kernel) ⟨Nat.le_of_ble_eq_true rfl, Nat.le_of_ble_eq_true rfl⟩ ⟨rfl, rfl⟩ P5 (lw_md l1 q0) rfl rfl nd5 (sel_suf (ln96 l1 z1) n0 e0) (Nat.le_of_ble_eq_true rfl) (put_suf (ln96 l1 z1) n0 n1 e1) ?_
  refine g_istore M dL_law_983 (by decide) ?_
  refine g_aload_n M dL_law_985 rfl ?_
  refine g_V0ik (q := 96) M hT lk_L_95 dL_law_986 (by decide +kernel) ⟨Nat.le_of_ble_eq_true rfl, Nat.le_of_ble_eq_true rfl⟩ ⟨rfl, rfl⟩ P5 (lw_md l1 q1) rfl rfl nd5 (sel_suf (ln96 l1 z1) n1 e1) (Nat.le_of_ble_eq_true rfl) ?_
  refine g_iload M dL_law_989 rfl ?_
  refine g_icmp_eq M 996 dL_law_991 (by decide) (fun _ => ?_) (fun h9 => absurd rfl h9)
  refine g_iload M dL_law_996 rfl ?_
  by_cases h0 : kv = 0
  · refine g_if_ne M 1013 dL_law_998 (by decide) (fun h9 => absurd h0 h9) (fun _ => ?_)
    refine g_aload_n M dL_law_1001 rfl ?_
    refine g_iconst M 0 dL_law_1002 (by decide) ?_
    refine g_lald M dL_law_1003 (lw_out l1) vinA ?_
    rw [show (0 : Int32).toNatClampNeg = 0 from rfl, hz h0]
    refine g_iload M dL_law_1004 rfl ?_
    refine g_i2l M dL_law_1006 ?_
    refine g_lcmp M dL_law_1007 ?_
    rw [lgc]
    refine g_if_eq M 1013 dL_law_1008 (by decide) (fun _ => ?_) (fun h9 => absurd rfl h9)
    refine g_goto M 1598 dL_law_1013 (by decide) ?_
    exact g_lvs M _ (lvs_c rfl (lvs_c rfl (lvs_c rfl (lvs_c rfl (lvs_c rfl lvs_n))))) (kk _ _ _ _ M hI)
  · refine g_if_ne M 1013 dL_law_998 (by decide) (fun _ => ?_) (fun h9 => absurd h9 h0)
    refine g_goto M 1598 dL_law_1013 (by decide) ?_
    exact g_lvs M _ (lvs_c rfl (lvs_c rfl (lvs_c rfl (lvs_c rfl (lvs_c rfl lvs_n))))) (kk _ _ _ _ M hI)
theorem k_tooth {L i b k9 n9 : Nat} {xs : Nat → Int32} {w0 m0 : List va_E} {z : Nat → Int64} {B : KT} (M : MG RL cL_law 9 ret room_1 k9 n9 (XLw L xs) B) (hi : i + 4 ≤ L) (hL : L ≤ 2048) (hV : Inv b w0 m0) (hb : b + 2000 ≤ 2 ^ 28) (hr9 : k9 + 1 ≤ 601024 ∧ n9 + 6 ≤ 7293034) (kk : ∀ (B2 : KT) (w1 m1 : List va_E) (z1 : Nat → Int64), MG RL cL_law 9 ret room_1 (k9 + 1) (n9 + 6) (XLw L xs) B2 → Inv (b + 2000) w1 m1 → B2 1598 [(0, .ref 1000), (1, .ref 0), (2, .ref 96), (3, .ref 95), (4, .int (nI i))] [] (LWm w1 z1 m1)) : B 1016 [(0, .ref 1000), (1, .ref 0), (2, .ref 96), (3, .ref 95), (4, .int (nI i))] [] (LWm w0 z m0) := by
  obtain ⟨kv, mb, w1, m1, z1, hW, hM, hT, hz, hI⟩ := s_tooth (z := z) hV hb (xs (nI (i + 1)).toNatClampNeg) (xs (nI (i + 2)).toNatClampNeg)
  obtain ⟨l0, c0, fs0, g0⟩ := inv_w hV
  obtain ⟨l1, c1, fs1, g1⟩ := inv_w hI
  obtain ⟨n0, e0, fm0, q0⟩ := inv_m hV
  obtain ⟨n1, e1, fm1, q1⟩ := inv_m hI
  refine g_aload_n M dL_law_1016 rfl ?_
  refine g_aload_n M dL_law_1017 rfl ?_
  refine g_iload M dL_law_1018 rfl ?_
  refine g_iconst M 1 dL_law_1020 (by decide) ?_
  refine g_iadd M dL_law_1021 ?_
  rw [show nI i + 1 = nI (i + 1) from nI_add i 1]
  refine g_sld M (vp_in_nI (by omega) (by omega)) dL_law_1022 ?_
  refine g_aload_n M dL_law_1023 rfl ?_
  refine g_iload M dL_law_1024 rfl ?_
  refine g_iconst M 2 dL_law_1026 (by decide) ?_
  refine g_iadd M dL_law_1027 ?_
  rw [show nI i + 2 = nI (i + 2) from nI_add i 2]
  refine g_sld M (vp_in_nI (by omega) (by omega)) dL_law_1028 ?_
  refine g_aload_n M dL_law_1029 rfl ?_
  refine g_callW (n := 4) (As := [.ref 0, .int (xs (nI (i + 1)).toNatClampNeg), .int (xs (nI (i + 2)).toNatClampNeg), .ref 95]) M (xlw_xp L xs) hW lw_tooth dL_law_1030 (by decide +kernel) ⟨Nat.le_of_ble_eq_true rfl, Nat.le_of_ble_eq_true rfl⟩ ⟨rfl, rfl⟩ hr9 (List.range 96) rfl rfl nd96 (sel_pre nd96 (ln96 l0 z) (cl96 c0 z)) (Nat.le_of_ble_eq_true rfl) (fun B M => ?_)
  rw [put_pre nd96 (ln96 l0 z) (ln96 l1 z1) (cl96 c1 z1)]
  refine g_istore M dL_law_1033 (by decide) ?_
  refine g_aload_n M dL_law_1035 rfl ?_
  refine g_aload_n M dL_law_1036 rfl ?_
  refine g_iload M dL_law_1037 rfl ?_
  refine g_iconst M 1 dL_law_1039 (by decide) ?_
  refine g_iadd M dL_law_1040 ?_
  rw [show nI i + 1 = nI (i + 1) from nI_add i 1]
  refine g_sld M (vp_in_nI (by omega) (by omega)) dL_law_1041 ?_
  refine g_aload_n M dL_law_1042 rfl ?_
  refine g_iload M dL_law_1043 rfl ?_
  refine g_iconst M 2 dL_law_1045 (by decide) ?_
  refine g_iadd M dL_law_1046 ?_
  rw [show nI i + 2 = nI (i + 2) from nI_add i 2]
  refine g_sld M (vp_in_nI (by omega) (by omega)) dL_law_1047 ?_
  refine g_V2iu (q := 96) (w' := LWm w1 z1 m1) M hM lk_L_158 dL_law_1048 (by decide +kernel) ⟨Nat.le_of_ble_eq_true rfl, Nat.le_of_ble_eq_true rfl⟩ ⟨rfl, rfl⟩ P5 (lw_md l1 q0) rfl rfl nd5 (sel_suf (ln96 l1 z1) n0 e0) (Nat.le_of_ble_eq_true rfl) (put_suf (ln96 l1 z1) n0 n1 e1) ?_
  refine g_istore M dL_law_1051 (by decide) ?_
  refine g_aload_n M dL_law_1053 rfl ?_
  refine g_V0ik (q := 96) M hT lk_L_95 dL_law_1054 (by decide +kernel) ⟨Nat.le_of_ble_eq_true rfl, Nat.le_of_ble_eq_true rfl⟩ ⟨rfl, rfl⟩ P5 (lw_md l1 q1) rfl rfl nd5 (sel_suf (ln96 l1 z1) n1 e1) (Nat.le_of_ble_eq_true rfl) ?_
  refine g_iload M dL_law_1057 rfl ?_
  refine g_icmp_eq M 1064 dL_law_1059 (by decide) (fun _ => ?_) (fun h9 => absurd rfl h9)
  refine g_iload M dL_law_1064 rfl ?_
  by_cases h0 : kv = 0
  · refine g_if_ne M 1081 dL_law_1066 (by decide) (fun h9 => absurd h0 h9) (fun _ => ?_)
    refine g_aload_n M dL_law_1069 rfl ?_
    refine g_iconst M 0 dL_law_1070 (by decide) ?_
    refine g_lald M dL_law_1071 (lw_out l1) vinA ?_
    rw [show (0 : Int32).toNatClampNeg = 0 from rfl, hz h0]
    refine g_iload M dL_law_1072 rfl ?_
    refine g_i2l M dL_law_1074 ?_
    refine g_lcmp M dL_law_1075 ?_
    rw [lgc]
    refine g_if_eq M 1081 dL_law_1076 (by decide) (fun _ => ?_) (fun h9 => absurd rfl h9)
    refine g_goto M 1598 dL_law_1081 (by decide) ?_
    exact g_lvs M _ (lvs_c rfl (lvs_c rfl (lvs_c rfl (lvs_c rfl (lvs_c rfl lvs_n))))) (kk _ _ _ _ M hI)
  · refine g_if_ne M 1081 dL_law_1066 (by decide) (fun _ => ?_) (fun h9 => absurd h9 h0)
    refine g_goto M 1598 dL_law_1081 (by decide) ?_
    exact g_lvs M _ (lvs_c rfl (lvs_c rfl (lvs_c rfl (lvs_c rfl (lvs_c rfl lvs_n))))) (kk _ _ _ _ M hI)
theorem k_scene {L i b k9 n9 : Nat} {xs : Nat → Int32} {w0 m0 : List va_E} {z : Nat → Int64} {B : KT} (M : MG RL cL_law 9 ret room_1 k9 n9 (XLw L xs) B) (hi : i + 4 ≤ L) (hL : L ≤ 2048) (hV : Inv b w0 m0) (hb : b + 2000 ≤ 2 ^ 28) (hr9 : k9 + 1 ≤ 601024 ∧ n9 + 6 ≤ 7293034) (kk : ∀ (B2 : KT) (w1 m1 : List va_E) (z1 : Nat → Int64), MG RL cL_law 9 ret room_1 (k9 + 1) (n9 + 6) (XLw L xs) B2 → Inv (b + 2000) w1 m1 → B2 1598 [(0, .ref 1000), (1, .ref 0), (2, .ref 96), (3, .ref 95), (4, .int (nI i))] [] (LWm w1 z1 m1)) : B 1084 [(0, .ref 1000), (1, .ref 0), (2, .ref 96), (3, .ref 95), (4, .int (nI i))] [] (LWm w0 z m0) := by
  obtain ⟨kv, mb, w1, m1, z1, hW, hM, hT, hz, hI⟩ := s_scene (z := z) hV hb (xs (nI (i + 1)).toNatClampNeg) (xs (nI (i + 2)).toNatClampNeg)
  obtain ⟨l0, c0, fs0, g0⟩ := inv_w hV
  obtain ⟨l1, c1, fs1, g1⟩ := inv_w hI
  obtain ⟨n0, e0, fm0, q0⟩ := inv_m hV
  obtain ⟨n1, e1, fm1, q1⟩ := inv_m hI
  refine g_aload_n M dL_law_1084 rfl ?_
  refine g_aload_n M dL_law_1085 rfl ?_
  refine g_iload M dL_law_1086 rfl ?_
  refine g_iconst M 1 dL_law_1088 (by decide) ?_
  refine g_iadd M dL_law_1089 ?_
  rw [show nI i + 1 = nI (i + 1) from nI_add i 1]
  refine g_sld M (vp_in_nI (by omega) (by omega)) dL_law_1090 ?_
  refine g_aload_n M dL_law_1091 rfl ?_
  refine g_iload M dL_law_1092 rfl ?_
  refine g_iconst M 2 dL_law_1094 (by decide) ?_
  refine g_iadd M dL_law_1095 ?_
  rw [show nI i + 2 = nI (i + 2) from nI_add i 2]
  refine g_sld M (vp_in_nI (by omega) (by omega)) dL_law_1096 ?_
  refine g_aload_n M dL_law_1097 rfl ?_
  refine g_callW (n := 4) (As := [.ref 0, .int (xs (nI (i + 1)).toNatClampNeg), .int (xs (nI (i + 2)).toNatClampNeg), .ref 95]) M (xlw_xp L xs) hW lw_scene dL_law_1098 (by decide +kernel) ⟨Nat.le_of_ble_eq_true rfl, Nat.le_of_ble_eq_true rfl⟩ ⟨rfl, rfl⟩ hr9 (List.range 96) rfl rfl nd96 (sel_pre nd96 (ln96 l0 z) (cl96 c0 z)) (Nat.le_of_ble_eq_true rfl) (fun B M => ?_)
  rw [put_pre nd96 (ln96 l0 z) (ln96 l1 z1) (cl96 c1 z1)]
  refine g_istore M dL_law_1101 (by decide) ?_
  refine g_aload_n M dL_law_1103 rfl ?_
  refine g_aload_n M dL_law_1104 rfl ?_
  refine g_iload M dL_law_1105 rfl ?_
  refine g_iconst M 1 dL_law_1107 (by decide) ?_
  refine g_iadd M dL_law_1108 ?_
  rw [show nI i + 1 = nI (i + 1) from nI_add i 1]
  refine g_sld M (vp_in_nI (by omega) (by omega)) dL_law_1109 ?_
  refine g_aload_n M dL_law_1110 rfl ?_
  refine g_iload M dL_law_1111 rfl ?_
  refine g_iconst M 2 dL_law_1113 (by decide) ?_
  refine g_iadd M dL_law_1114 ?_
  rw [show nI i + 2 = nI (i + 2) from nI_add i 2]
  refine g_sld M (vp_in_nI (by omega) (by omega)) dL_law_1115 ?_
  refine g_V2iu (q := 96) (w' := LWm w1 z1 m1) M hM lk_L_161 dL_law_1116 (by decide +kernel) ⟨Nat.le_of_ble_eq_true rfl, Nat.le_of_ble_eq_true rfl⟩ ⟨rfl, rfl⟩ P5 (lw_md l1 q0) rfl rfl nd5 (sel_suf (ln96 l1 z1) n0 e0) (Nat.le_of_ble_eq_true rfl) (put_suf (ln96 l1 z1) n0 n1 e1) ?_
  refine g_istore M dL_law_1119 (by decide) ?_
  refine g_aload_n M dL_law_1121 rfl ?_
  refine g_V0ik (q := 96) M hT lk_L_95 dL_law_1122 (by decide +kernel) ⟨Nat.le_of_ble_eq_true rfl, Nat.le_of_ble_eq_true rfl⟩ ⟨rfl, rfl⟩ P5 (lw_md l1 q1) rfl rfl nd5 (sel_suf (ln96 l1 z1) n1 e1) (Nat.le_of_ble_eq_true rfl) ?_
  refine g_iload M dL_law_1125 rfl ?_
  refine g_icmp_eq M 1132 dL_law_1127 (by decide) (fun _ => ?_) (fun h9 => absurd rfl h9)
  refine g_iload M dL_law_1132 rfl ?_
  by_cases h0 : kv = 0
  · refine g_if_ne M 1149 dL_law_1134 (by decide) (fun h9 => absurd h0 h9) (fun _ => ?_)
    refine g_aload_n M dL_law_1137 rfl ?_
    refine g_iconst M 0 dL_law_1138 (by decide) ?_
    refine g_lald M dL_law_1139 (lw_out l1) vinA ?_
    rw [show (0 : Int32).toNatClampNeg = 0 from rfl, hz h0]
    refine g_iload M dL_law_1140 rfl ?_
    refine g_i2l M dL_law_1142 ?_
    refine g_lcmp M dL_law_1143 ?_
    rw [lgc]
    refine g_if_eq M 1149 dL_law_1144 (by decide) (fun _ => ?_) (fun h9 => absurd rfl h9)
    refine g_goto M 1598 dL_law_1149 (by decide) ?_
    exact g_lvs M _ (lvs_c rfl (lvs_c rfl (lvs_c rfl (lvs_c rfl (lvs_c rfl lvs_n))))) (kk _ _ _ _ M hI)
  · refine g_if_ne M 1149 dL_law_1134 (by decide) (fun _ => ?_) (fun h9 => absurd h9 h0)
    refine g_goto M 1598 dL_law_1149 (by decide) ?_
    exact g_lvs M _ (lvs_c rfl (lvs_c rfl (lvs_c rfl (lvs_c rfl (lvs_c rfl lvs_n))))) (kk _ _ _ _ M hI)
theorem k_count {L i b k9 n9 : Nat} {xs : Nat → Int32} {w0 m0 : List va_E} {z : Nat → Int64} {B : KT} (M : MG RL cL_law 9 ret room_1 k9 n9 (XLw L xs) B) (hi : i + 4 ≤ L) (hL : L ≤ 2048) (hV : Inv b w0 m0) (hb : b + 2000 ≤ 2 ^ 28) (hr9 : k9 + 1 ≤ 601024 ∧ n9 + 6 ≤ 7293034) (kk : ∀ (B2 : KT) (w1 m1 : List va_E) (z1 : Nat → Int64), MG RL cL_law 9 ret room_1 (k9 + 1) (n9 + 6) (XLw L xs) B2 → Inv (b + 2000) w1 m1 → B2 1598 [(0, .ref 1000), (1, .ref 0), (2, .ref 96), (3, .ref 95), (4, .int (nI i))] [] (LWm w1 z1 m1)) : B 1152 [(0, .ref 1000), (1, .ref 0), (2, .ref 96), (3, .ref 95), (4, .int (nI i))] [] (LWm w0 z m0) := by
  obtain ⟨kv, mb, w1, m1, z1, hW, hM, hT, hz, hI⟩ := s_count (z := z) hV hb (xs (nI (i + 1)).toNatClampNeg)
  obtain ⟨l0, c0, fs0, g0⟩ := inv_w hV
  obtain ⟨l1, c1, fs1, g1⟩ := inv_w hI
  obtain ⟨n0, e0, fm0, q0⟩ := inv_m hV
  obtain ⟨n1, e1, fm1, q1⟩ := inv_m hI
  refine g_aload_n M dL_law_1152 rfl ?_
  refine g_aload_n M dL_law_1153 rfl ?_
  refine g_iload M dL_law_1154 rfl ?_
  refine g_iconst M 1 dL_law_1156 (by decide) ?_
  refine g_iadd M dL_law_1157 ?_
  rw [show nI i + 1 = nI (i + 1) from nI_add i 1]
  refine g_sld M (vp_in_nI (by omega) (by omega)) dL_law_1158 ?_
  refine g_aload_n M dL_law_1159 rfl ?_
  refine g_callW (n := 3) (As := [.ref 0, .int (xs (nI (i + 1)).toNatClampNeg), .ref 95]) M (xlw_xp L xs) hW lw_count dL_law_1160 (by decide +kernel) ⟨Nat.le_of_ble_eq_true rfl, Nat.le_of_ble_eq_true rfl⟩ ⟨rfl, rfl⟩ hr9 (List.range 96) rfl rfl nd96 (sel_pre nd96 (ln96 l0 z) (cl96 c0 z)) (Nat.le_of_ble_eq_true rfl) (fun B M => ?_)
  rw [put_pre nd96 (ln96 l0 z) (ln96 l1 z1) (cl96 c1 z1)]
  refine g_istore M dL_law_1163 (by decide) ?_
  refine g_aload_n M dL_law_1165 rfl ?_
  refine g_aload_n M dL_law_1166 rfl ?_
  refine g_iload M dL_law_1167 rfl ?_
  refine g_iconst M 1 dL_law_1169 (by decide) ?_
  refine g_iadd M dL_law_1170 ?_
  rw [show nI i + 1 = nI (i + 1) from nI_add i 1]
  refine g_sld M (vp_in_nI (by omega) (by omega)) dL_law_1171 ?_
  refine g_V1iu (q := 96) (w' := LWm w1 z1 m1) M hM lk_L_164 dL_law_1172 (by decide +kernel) ⟨Nat.le_of_ble_eq_true rfl, Nat.le_of_ble_eq_true rfl⟩ ⟨rfl, rfl⟩ P5 (lw_md l1 q0) rfl rfl nd5 (sel_suf (ln96 l1 z1) n0 e0) (Nat.le_of_ble_eq_true rfl) (put_suf (ln96 l1 z1) n0 n1 e1) ?_
  refine g_istore M dL_law_1175 (by decide) ?_
  refine g_aload_n M dL_law_1177 rfl ?_
  refine g_V0ik (q := 96) M hT lk_L_95 dL_law_1178 (by decide +kernel) ⟨Nat.le_of_ble_eq_true rfl, Nat.le_of_ble_eq_true rfl⟩ ⟨rfl, rfl⟩ P5 (lw_md l1 q1) rfl rfl nd5 (sel_suf (ln96 l1 z1) n1 e1) (Nat.le_of_ble_eq_true rfl) ?_
  refine g_iload M dL_law_1181 rfl ?_
  refine g_icmp_eq M 1188 dL_law_1183 (by decide) (fun _ => ?_) (fun h9 => absurd rfl h9)
  refine g_iload M dL_law_1188 rfl ?_
  by_cases h0 : kv = 0
  · refine g_if_ne M 1205 dL_law_1190 (by decide) (fun h9 => absurd h0 h9) (fun _ => ?_)
    refine g_aload_n M dL_law_1193 rfl ?_
    refine g_iconst M 0 dL_law_1194 (by decide) ?_
    refine g_lald M dL_law_1195 (lw_out l1) vinA ?_
    rw [show (0 : Int32).toNatClampNeg = 0 from rfl, hz h0]
    refine g_iload M dL_law_1196 rfl ?_
    refine g_i2l M dL_law_1198 ?_
    refine g_lcmp M dL_law_1199 ?_
    rw [lgc]
    refine g_if_eq M 1205 dL_law_1200 (by decide) (fun _ => ?_) (fun h9 => absurd rfl h9)
    refine g_goto M 1598 dL_law_1205 (by decide) ?_
    exact g_lvs M _ (lvs_c rfl (lvs_c rfl (lvs_c rfl (lvs_c rfl (lvs_c rfl lvs_n))))) (kk _ _ _ _ M hI)
  · refine g_if_ne M 1205 dL_law_1190 (by decide) (fun _ => ?_) (fun h9 => absurd h9 h0)
    refine g_goto M 1598 dL_law_1205 (by decide) ?_
    exact g_lvs M _ (lvs_c rfl (lvs_c rfl (lvs_c rfl (lvs_c rfl (lvs_c rfl lvs_n))))) (kk _ _ _ _ M hI)
theorem k_why {L i b k9 n9 : Nat} {xs : Nat → Int32} {w0 m0 : List va_E} {z : Nat → Int64} {B : KT} (M : MG RL cL_law 9 ret room_1 k9 n9 (XLw L xs) B) (hi : i + 4 ≤ L) (hL : L ≤ 2048) (hV : Inv b w0 m0) (hb : b + 2000 ≤ 2 ^ 28) (hr9 : k9 + 1 ≤ 601024 ∧ n9 + 6 ≤ 7293034) (kk : ∀ (B2 : KT) (w1 m1 : List va_E) (z1 : Nat → Int64), MG RL cL_law 9 ret room_1 (k9 + 1) (n9 + 6) (XLw L xs) B2 → Inv (b + 2000) w1 m1 → B2 1598 [(0, .ref 1000), (1, .ref 0), (2, .ref 96), (3, .ref 95), (4, .int (nI i))] [] (LWm w1 z1 m1)) : B 1208 [(0, .ref 1000), (1, .ref 0), (2, .ref 96), (3, .ref 95), (4, .int (nI i))] [] (LWm w0 z m0) := by
  obtain ⟨kv, mb, w1, m1, z1, hW, hM, hT, hz, hI⟩ := s_why (z := z) hV hb (xs (nI (i + 1)).toNatClampNeg)
  obtain ⟨l0, c0, fs0, g0⟩ := inv_w hV
  obtain ⟨l1, c1, fs1, g1⟩ := inv_w hI
  obtain ⟨n0, e0, fm0, q0⟩ := inv_m hV
  obtain ⟨n1, e1, fm1, q1⟩ := inv_m hI
  refine g_aload_n M dL_law_1208 rfl ?_
  refine g_aload_n M dL_law_1209 rfl ?_
  refine g_iload M dL_law_1210 rfl ?_
  refine g_iconst M 1 dL_law_1212 (by decide) ?_
  refine g_iadd M dL_law_1213 ?_
  rw [show nI i + 1 = nI (i + 1) from nI_add i 1]
  refine g_sld M (vp_in_nI (by omega) (by omega)) dL_law_1214 ?_
  refine g_aload_n M dL_law_1215 rfl ?_
  refine g_callW (n := 3) (As := [.ref 0, .int (xs (nI (i + 1)).toNatClampNeg), .ref 95]) M (xlw_xp L xs) hW lw_why dL_law_1216 (by decide +kernel) ⟨Nat.le_of_ble_eq_true rfl, Nat.le_of_ble_eq_true rfl⟩ ⟨rfl, rfl⟩ hr9 (List.range 96) rfl rfl nd96 (sel_pre nd96 (ln96 l0 z) (cl96 c0 z)) (Nat.le_of_ble_eq_true rfl) (fun B M => ?_)
  rw [put_pre nd96 (ln96 l0 z) (ln96 l1 z1) (cl96 c1 z1)]
  refine g_istore M dL_law_1219 (by decide) ?_
  refine g_aload_n M dL_law_1221 rfl ?_
  refine g_aload_n M dL_law_1222 rfl ?_
  refine g_iload M dL_law_1223 rfl ?_
  refine g_iconst M 1 dL_law_1225 (by decide) ?_
  refine g_iadd M dL_law_1226 ?_
  rw [show nI i + 1 = nI (i + 1) from nI_add i 1]
  refine g_sld M (vp_in_nI (by omega) (by omega)) dL_law_1227 ?_
  refine g_V1iu (q := 96) (w' := LWm w1 z1 m1) M hM lk_L_167 dL_law_1228 (by decide +kernel) ⟨Nat.le_of_ble_eq_true rfl, Nat.le_of_ble_eq_true rfl⟩ ⟨rfl, rfl⟩ P5 (lw_md l1 q0) rfl rfl nd5 (sel_suf (ln96 l1 z1) n0 e0) (Nat.le_of_ble_eq_true rfl) (put_suf (ln96 l1 z1) n0 n1 e1) ?_
  refine g_istore M dL_law_1231 (by decide) ?_
  refine g_aload_n M dL_law_1233 rfl ?_
  refine g_V0ik (q := 96) M hT lk_L_95 dL_law_1234 (by decide +kernel) ⟨Nat.le_of_ble_eq_true rfl, Nat.le_of_ble_eq_true rfl⟩ ⟨rfl, rfl⟩ P5 (lw_md l1 q1) rfl rfl nd5 (sel_suf (ln96 l1 z1) n1 e1) (Nat.le_of_ble_eq_true rfl) ?_
  refine g_iload M dL_law_1237 rfl ?_
  refine g_icmp_eq M 1244 dL_law_1239 (by decide) (fun _ => ?_) (fun h9 => absurd rfl h9)
  refine g_iload M dL_law_1244 rfl ?_
  by_cases h0 : kv = 0
  · refine g_if_ne M 1261 dL_law_1246 (by decide) (fun h9 => absurd h0 h9) (fun _ => ?_)
    refine g_aload_n M dL_law_1249 rfl ?_
    refine g_iconst M 0 dL_law_1250 (by decide) ?_
    refine g_lald M dL_law_1251 (lw_out l1) vinA ?_
    rw [show (0 : Int32).toNatClampNeg = 0 from rfl, hz h0]
    refine g_iload M dL_law_1252 rfl ?_
    refine g_i2l M dL_law_1254 ?_
    refine g_lcmp M dL_law_1255 ?_
    rw [lgc]
    refine g_if_eq M 1261 dL_law_1256 (by decide) (fun _ => ?_) (fun h9 => absurd rfl h9)
    refine g_goto M 1598 dL_law_1261 (by decide) ?_
    exact g_lvs M _ (lvs_c rfl (lvs_c rfl (lvs_c rfl (lvs_c rfl (lvs_c rfl lvs_n))))) (kk _ _ _ _ M hI)
  · refine g_if_ne M 1261 dL_law_1246 (by decide) (fun _ => ?_) (fun h9 => absurd h9 h0)
    refine g_goto M 1598 dL_law_1261 (by decide) ?_
    exact g_lvs M _ (lvs_c rfl (lvs_c rfl (lvs_c rfl (lvs_c rfl (lvs_c rfl lvs_n))))) (kk _ _ _ _ M hI)
theorem k_round {L i b k9 n9 : Nat} {xs : Nat → Int32} {w0 m0 : List va_E} {z : Nat → Int64} {B : KT} (M : MG RL cL_law 9 ret room_1 k9 n9 (XLw L xs) B) (hi : i + 4 ≤ L) (hL : L ≤ 2048) (hV : Inv b w0 m0) (hb : b + 2000 ≤ 2 ^ 28) (hr9 : k9 + 1 ≤ 601024 ∧ n9 + 6 ≤ 7293034) (kk : ∀ (B2 : KT) (w1 m1 : List va_E) (z1 : Nat → Int64), MG RL cL_law 9 ret room_1 (k9 + 1) (n9 + 6) (XLw L xs) B2 → Inv (b + 2000) w1 m1 → B2 1598 [(0, .ref 1000), (1, .ref 0), (2, .ref 96), (3, .ref 95), (4, .int (nI i))] [] (LWm w1 z1 m1)) : B 1264 [(0, .ref 1000), (1, .ref 0), (2, .ref 96), (3, .ref 95), (4, .int (nI i))] [] (LWm w0 z m0) := by
  obtain ⟨kv, mb, w1, m1, z1, hW, hM, hT, hz, hI⟩ := s_round (z := z) hV hb (xs (nI (i + 1)).toNatClampNeg)
  obtain ⟨l0, c0, fs0, g0⟩ := inv_w hV
  obtain ⟨l1, c1, fs1, g1⟩ := inv_w hI
  obtain ⟨n0, e0, fm0, q0⟩ := inv_m hV
  obtain ⟨n1, e1, fm1, q1⟩ := inv_m hI
  refine g_aload_n M dL_law_1264 rfl ?_
  refine g_aload_n M dL_law_1265 rfl ?_
  refine g_iload M dL_law_1266 rfl ?_
  refine g_iconst M 1 dL_law_1268 (by decide) ?_
  refine g_iadd M dL_law_1269 ?_
  rw [show nI i + 1 = nI (i + 1) from nI_add i 1]
  refine g_sld M (vp_in_nI (by omega) (by omega)) dL_law_1270 ?_
  refine g_aload_n M dL_law_1271 rfl ?_
  refine g_callW (n := 3) (As := [.ref 0, .int (xs (nI (i + 1)).toNatClampNeg), .ref 95]) M (xlw_xp L xs) hW lw_round dL_law_1272 (by decide +kernel) ⟨Nat.le_of_ble_eq_true rfl, Nat.le_of_ble_eq_true rfl⟩ ⟨rfl, rfl⟩ hr9 (List.range 96) rfl rfl nd96 (sel_pre nd96 (ln96 l0 z) (cl96 c0 z)) (Nat.le_of_ble_eq_true rfl) (fun B M => ?_)
  rw [put_pre nd96 (ln96 l0 z) (ln96 l1 z1) (cl96 c1 z1)]
  refine g_istore M dL_law_1275 (by decide) ?_
  refine g_aload_n M dL_law_1277 rfl ?_
  refine g_aload_n M dL_law_1278 rfl ?_
  refine g_iload M dL_law_1279 rfl ?_
  refine g_iconst M 1 dL_law_1281 (by decide) ?_
  refine g_iadd M dL_law_1282 ?_
  rw [show nI i + 1 = nI (i + 1) from nI_add i 1]
  refine g_sld M (vp_in_nI (by omega) (by omega)) dL_law_1283 ?_
  refine g_V1iu (q := 96) (w' := LWm w1 z1 m1) M hM lk_L_170 dL_law_1284 (by decide +kernel) ⟨Nat.le_of_ble_eq_true rfl, Nat.le_of_ble_eq_true rfl⟩ ⟨rfl, rfl⟩ P5 (lw_md l1 q0) rfl rfl nd5 (sel_suf (ln96 l1 z1) n0 e0) (Nat.le_of_ble_eq_true rfl) (put_suf (ln96 l1 z1) n0 n1 e1) ?_
  refine g_istore M dL_law_1287 (by decide) ?_
  refine g_aload_n M dL_law_1289 rfl ?_
  refine g_V0ik (q := 96) M hT lk_L_95 dL_law_1290 (by decide +kernel) ⟨Nat.le_of_ble_eq_true rfl, Nat.le_of_ble_eq_true rfl⟩ ⟨rfl, rfl⟩ P5 (lw_md l1 q1) rfl rfl nd5 (sel_suf (ln96 l1 z1) n1 e1) (Nat.le_of_ble_eq_true rfl) ?_
  refine g_iload M dL_law_1293 rfl ?_
  refine g_icmp_eq M 1300 dL_law_1295 (by decide) (fun _ => ?_) (fun h9 => absurd rfl h9)
  refine g_iload M dL_law_1300 rfl ?_
  by_cases h0 : kv = 0
  · refine g_if_ne M 1317 dL_law_1302 (by decide) (fun h9 => absurd h0 h9) (fun _ => ?_)
    refine g_aload_n M dL_law_1305 rfl ?_
    refine g_iconst M 0 dL_law_1306 (by decide) ?_
    refine g_lald M dL_law_1307 (lw_out l1) vinA ?_
    rw [show (0 : Int32).toNatClampNeg = 0 from rfl, hz h0]
    refine g_iload M dL_law_1308 rfl ?_
    refine g_i2l M dL_law_1310 ?_
    refine g_lcmp M dL_law_1311 ?_
    rw [lgc]
    refine g_if_eq M 1317 dL_law_1312 (by decide) (fun _ => ?_) (fun h9 => absurd rfl h9)
    refine g_goto M 1598 dL_law_1317 (by decide) ?_
    exact g_lvs M _ (lvs_c rfl (lvs_c rfl (lvs_c rfl (lvs_c rfl (lvs_c rfl lvs_n))))) (kk _ _ _ _ M hI)
  · refine g_if_ne M 1317 dL_law_1302 (by decide) (fun _ => ?_) (fun h9 => absurd h9 h0)
    refine g_goto M 1598 dL_law_1317 (by decide) ?_
    exact g_lvs M _ (lvs_c rfl (lvs_c rfl (lvs_c rfl (lvs_c rfl (lvs_c rfl lvs_n))))) (kk _ _ _ _ M hI)


/-- the first row: a rounds of the first loop, b of the second, c: the setting is written -/
def sI (a b : Nat) (c : Bool) (j : Nat) : Int32 :=
  if j < 5 then teeth0 j else if 10 ≤ j ∧ j < 10 + b then 1 else if 15 ≤ j ∧ j < 15 + a then 9 else if 27 ≤ j ∧ j < 27 + a then 9 else if 63 ≤ j ∧ j < 63 + a then moon0 (j - 63) else if j = 75 ∧ c = true then 4 else 0
theorem upd_at (f : Nat → Int32) (k : Nat) (x : Int32) (j : Nat) : upd f k x j = if j = k then x else f j := by
  by_cases h : j = k
  · subst h; rw [pk_us, if_pos rfl]
  · rw [pk_un h, if_neg h]
theorem sI_0 : upd (upd (upd (upd (upd z0 0 4) 1 6) 2 8) 3 9) 4 12 = sI 0 0 false := by
  funext j
  simp only [upd_at]
  unfold sI
  by_cases h : j < 5
  · have : j = 0 ∨ j = 1 ∨ j = 2 ∨ j = 3 ∨ j = 4 := by omega
    rcases this with rfl | rfl | rfl | rfl | rfl <;> rfl
  · rw [if_neg (by omega), if_neg (by omega), if_neg (by omega), if_neg (by omega), if_neg (by omega), if_neg h, if_neg (by omega), if_neg (by omega), if_neg (by omega), if_neg (by omega), if_neg (by intro hh; exact absurd hh.2 (by decide))]
theorem sI_a (a : Nat) (h : a < 12) : upd (upd (upd (sI a 0 false) (15 + a) 9) (27 + a) 9) (63 + a) (moon0 a) = sI (a + 1) 0 false := by
  funext j
  simp only [upd_at]
  by_cases h1 : j = 63 + a
  · subst h1
    rw [if_pos rfl]
    unfold sI
    rw [if_neg (by omega), if_neg (by omega), if_neg (by omega), if_neg (by omega), if_pos (by omega), show 63 + a - 63 = a by omega]
  · rw [if_neg h1]
    by_cases h2 : j = 27 + a
    · subst h2
      rw [if_pos rfl]
      unfold sI
      rw [if_neg (by omega), if_neg (by omega), if_neg (by omega), if_pos (by omega)]
    · rw [if_neg h2]
      by_cases h3 : j = 15 + a
      · subst h3
        rw [if_pos rfl]
        unfold sI
        rw [if_neg (by omega), if_neg (by omega), if_pos (by omega)]
      · rw [if_neg h3]
        unfold sI
        have e1 : (15 ≤ j ∧ j < 15 + a) = (15 ≤ j ∧ j < 15 + (a + 1)) := propext (by omega)
        have e2 : (27 ≤ j ∧ j < 27 + a) = (27 ≤ j ∧ j < 27 + (a + 1)) := propext (by omega)
        have e3 : (63 ≤ j ∧ j < 63 + a) = (63 ≤ j ∧ j < 63 + (a + 1)) := propext (by omega)
        simp only [e1, e2, e3]
theorem sI_b (b : Nat) (h : b < 5) : upd (sI 12 b false) (10 + b) 1 = sI 12 (b + 1) false := by
  funext j
  simp only [upd_at]
  by_cases h1 : j = 10 + b
  · subst h1
    rw [if_pos rfl]
    unfold sI
    rw [if_neg (by omega), if_pos (by omega)]
  · rw [if_neg h1]
    unfold sI
    have e1 : (10 ≤ j ∧ j < 10 + b) = (10 ≤ j ∧ j < 10 + (b + 1)) := propext (by omega)
    simp only [e1]
theorem sI_c : upd (sI 12 5 false) 75 4 = sI 12 5 true := by
  funext j
  simp only [upd_at]
  by_cases h1 : j = 75
  · subst h1; rfl
  · rw [if_neg h1]
    unfold sI
    have e1 : (j = 75 ∧ false = true) = (j = 75 ∧ true = true) := propext ⟨fun h => absurd h.1 h1, fun h => absurd h.1 h1⟩
    simp only [e1]
theorem m12 (a : Nat) (h : 7 ≤ a) (h2 : a < 12) : (12 : Int32) - nI a = nI (12 - a) := by
  have : a = 7 ∨ a = 8 ∨ a = 9 ∨ a = 10 ∨ a = 11 := by omega
  rcases this with rfl | rfl | rfl | rfl | rfl <;> rfl
abbrev MW0 (a b : Nat) (c : Bool) : List va_E := MW 0 0 0 0 0 0 0 false 0 (sI a b c) z0 z0 z0
set_option maxRecDepth 20000 in
theorem X6_1 {B : KT} (M : MG RX6 cX6_init 2 none (rmn 1 4 1444 20) 4 1444 (XN 4 1444 (MW0 12 5 true)) B) (kk : B 133 [(0, .ref 0)] [] (MW0 12 0 false)) : ∀ (r a : Nat), a + r = 12 → B 76 [(0, .ref 0), (1, .int (nI a))] [] (MW0 a 0 false) := by
  intro r
  induction r with
  | zero =>
    intro a ha
    have : a = 12 := by omega
    subst this
    refine g_iload_n M dX6_init_76 rfl ?_
    refine g_bipush M 12 dX6_init_77 (by decide) ?_
    refine g_icmp_ge M 133 dX6_init_79 (by decide) (fun _ => ?_) (fun h9 => absurd (nI_geT (n := 12) rfl (by omega) (by decide)) h9)
    exact g_lvs M _ (lvs_c rfl lvs_n) kk
  | succ r ih =>
    intro a ha
    have fin : B 126 [(0, .ref 0), (1, .int (nI a))] [.int (moon0 a), .int (nI (63 + a)), .ref 1] (MW 0 0 0 0 0 0 0 false 0 (upd (upd (sI a 0 false) (15 + a) 9) (27 + a) 9) z0 z0 z0) := by
      refine g_iast M dX6_init_126 rfl (vp_in_nI (by omega) (by omega)) ?_
      rw [nI_clamp (by omega), sI_a a (by omega)]
      refine g_iinc1 M dX6_init_127 rfl (by decide) ?_
      refine g_goto M 76 dX6_init_130 (by decide) ?_
      have h := ih (a + 1) (by omega)
      rw [← nI_1 a] at h
      exact g_lvs M _ (lvs_c rfl (lvs_c rfl lvs_n)) h
    refine g_iload_n M dX6_init_76 rfl ?_
    refine g_bipush M 12 dX6_init_77 (by decide) ?_
    refine g_icmp_ge M 133 dX6_init_79 (by decide) (fun h9 => absurd h9 (nI_geF (n := 12) rfl (by omega) (by decide))) (fun _ => ?_)
    refine g_aload_n M dX6_init_82 rfl ?_
    refine g_get M fl_X6_7 dX6_init_83 rfl rfl ?_
    refine g_bipush M 15 dX6_init_86 (by decide) ?_
    refine g_iload_n M dX6_init_88 rfl ?_
    refine g_iadd M dX6_init_89 ?_
    refine g_bipush M 9 dX6_init_90 (by decide) ?_
    rw [show (15 : Int32) + nI a = nI (15 + a) from nI_add 15 a]
    refine g_iast M dX6_init_92 rfl (vp_in_nI (by omega) (by omega)) ?_
    rw [nI_clamp (by omega)]
    refine g_aload_n M dX6_init_93 rfl ?_
    refine g_get M fl_X6_7 dX6_init_94 rfl rfl ?_
    refine g_bipush M 27 dX6_init_97 (by decide) ?_
    refine g_iload_n M dX6_init_99 rfl ?_
    refine g_iadd M dX6_init_100 ?_
    refine g_bipush M 9 dX6_init_101 (by decide) ?_
    rw [show (27 : Int32) + nI a = nI (27 + a) from nI_add 27 a]
    refine g_iast M dX6_init_103 rfl (vp_in_nI (by omega) (by omega)) ?_
    rw [nI_clamp (by omega)]
    refine g_aload_n M dX6_init_104 rfl ?_
    refine g_get M fl_X6_7 dX6_init_105 rfl rfl ?_
    refine g_bipush M 63 dX6_init_108 (by decide) ?_
    refine g_iload_n M dX6_init_110 rfl ?_
    refine g_iadd M dX6_init_111 ?_
    rw [show (63 : Int32) + nI a = nI (63 + a) from nI_add 63 a]
    refine g_iload_n M dX6_init_112 rfl ?_
    refine g_bipush M 7 dX6_init_113 (by decide) ?_
    by_cases h7 : 7 ≤ a
    · refine g_icmp_ge M 122 dX6_init_115 (by decide) (fun _ => ?_) (fun h9 => absurd (nI_geT (n := 7) rfl (by omega) (by omega)) h9)
      refine g_bipush M 12 dX6_init_122 (by decide) ?_
      refine g_iload_n M dX6_init_124 rfl ?_
      refine g_isub M dX6_init_125 ?_
      rw [m12 a h7 (by omega), show nI (12 - a) = moon0 a by unfold moon0; rw [if_neg (by omega)]]
      exact fin
    · refine g_icmp_ge M 122 dX6_init_115 (by decide) (fun h9 => absurd h9 (nI_geF (n := 7) rfl (by omega) (by omega))) (fun _ => ?_)
      refine g_iload_n M dX6_init_118 rfl ?_
      refine g_goto M 126 dX6_init_119 (by decide) ?_
      rw [show moon0 a = nI a by unfold moon0; rw [if_pos (by omega)]] at fin
      exact fin
set_option maxRecDepth 20000 in
theorem X6_2 {B : KT} (M : MG RX6 cX6_init 2 none (rmn 1 4 1444 20) 4 1444 (XN 4 1444 (MW0 12 5 true)) B) : ∀ (r b : Nat), b + r = 5 → B 135 [(0, .ref 0), (1, .int (nI b))] [] (MW0 12 b false) := by
  intro r
  induction r with
  | zero =>
    intro b hb
    have : b = 5 := by omega
    subst this
    refine g_iload_n M dX6_init_135 rfl ?_
    refine g_iconst M 5 dX6_init_136 (by decide) ?_
    refine g_icmp_ge M 156 dX6_init_137 (by decide) (fun _ => ?_) (fun h9 => absurd (nI_geT (n := 5) rfl (by omega) (by decide)) h9)
    refine g_aload_n M dX6_init_156 rfl ?_
    refine g_get M fl_X6_7 dX6_init_157 rfl rfl ?_
    refine g_bipush M 75 dX6_init_160 (by decide) ?_
    refine g_iconst M 4 dX6_init_162 (by decide) ?_
    refine g_iast M dX6_init_163 rfl (by exact vp_in_nI (n := 75) (N := 1376) (by decide) (by decide)) ?_
    rw [show (75 : Int32).toNatClampNeg = 75 from by decide, sI_c]
    exact n_ret M dX6_init_164 rfl rfl
  | succ r ih =>
    intro b hb
    refine g_iload_n M dX6_init_135 rfl ?_
    refine g_iconst M 5 dX6_init_136 (by decide) ?_
    refine g_icmp_ge M 156 dX6_init_137 (by decide) (fun h9 => absurd h9 (nI_geF (n := 5) rfl (by omega) (by decide))) (fun _ => ?_)
    refine g_aload_n M dX6_init_140 rfl ?_
    refine g_get M fl_X6_7 dX6_init_141 rfl rfl ?_
    refine g_bipush M 10 dX6_init_144 (by decide) ?_
    refine g_iload_n M dX6_init_146 rfl ?_
    refine g_iadd M dX6_init_147 ?_
    rw [show (10 : Int32) + nI b = nI (10 + b) from nI_add 10 b]
    refine g_iconst M 1 dX6_init_148 (by decide) ?_
    refine g_iast M dX6_init_149 rfl (vp_in_nI (by omega) (by omega)) ?_
    rw [nI_clamp (by omega), sI_b b (by omega)]
    refine g_iinc1 M dX6_init_150 rfl (by decide) ?_
    refine g_goto M 135 dX6_init_153 (by decide) ?_
    have h := ih (b + 1) (by omega)
    rw [← nI_1 b] at h
    exact g_lvs M _ (lvs_c rfl (lvs_c rfl lvs_n)) h
set_option maxRecDepth 20000 in
theorem n_X6 : ConN yX6_init cX6_init 2 (rmn 1 4 1444 20) (.inr (6, F6s)) (MW0 12 5 true) := by
  refine ConN.of (own := RX6) (by decide) rfl rfl (Nat.le_of_ble_eq_true rfl) (fun _ _ => rfl) ⟨(by repeat' (first | exact clW_n | exact clE_i | exact clE_l | exact clE_r rfl | refine clW_c ?_ ?_)), by decide⟩ fun B M => ?_
  refine g_aload_n M dX6_init_0 rfl ?_
  refine n_obj M on_X6 on_i on_c dX6_init_1 ⟨Nat.le_of_ble_eq_true rfl, Nat.le_of_ble_eq_true rfl⟩ ?_
  refine g_aload_n M dX6_init_4 rfl ?_
  refine g_sipush M 1376 dX6_init_5 (by decide) ?_
  refine n_newa (atype := .int) (ty := .int) (t0 := 0) (N' := 1376) (a0 := (1376, .inl (fun _ => 0))) M rfl (Or.inl rfl) aw_int (fun _ => rfl) (fun _ => rfl) (fun _ _ => rfl) (by decide) rfl (Nat.le_of_ble_eq_true rfl) ⟨Nat.le_of_ble_eq_true rfl, Nat.le_of_ble_eq_true rfl⟩ dX6_init_8 ⟨(by repeat' (first | exact clW_n | exact clE_i | exact clE_l | exact clE_r rfl | refine clW_c ?_ ?_)), rfl, rfl, Nat.le_of_ble_eq_true rfl⟩ (xn_k (Nat.le_of_ble_eq_true rfl)) (fun B M => ?_)
  refine n_putF M xn_i fl_X6_7 (fun C T N h => by cases h; exact ⟨rfl, rfl⟩) dX6_init_10 rfl (fun _ => rfl) (fun _ => rfl) (Nat.le_of_ble_eq_true rfl) ?_
  refine g_aload_n M dX6_init_13 rfl ?_
  refine g_bipush M 60 dX6_init_14 (by decide) ?_
  refine n_newa (atype := .int) (ty := .int) (t0 := 0) (N' := 60) (a0 := (60, .inl (fun _ => 0))) M rfl (Or.inl rfl) aw_int (fun _ => rfl) (fun _ => rfl) (fun _ _ => rfl) (by decide) rfl (Nat.le_of_ble_eq_true rfl) ⟨Nat.le_of_ble_eq_true rfl, Nat.le_of_ble_eq_true rfl⟩ dX6_init_16 ⟨(by repeat' (first | exact clW_n | exact clE_i | exact clE_l | exact clE_r rfl | refine clW_c ?_ ?_)), rfl, rfl, Nat.le_of_ble_eq_true rfl⟩ (xn_k (Nat.le_of_ble_eq_true rfl)) (fun B M => ?_)
  refine n_putF M xn_i fl_X6_13 (fun C T N h => by cases h; exact ⟨rfl, rfl⟩) dX6_init_18 rfl (fun _ => rfl) (fun _ => rfl) (Nat.le_of_ble_eq_true rfl) ?_
  refine g_aload_n M dX6_init_21 rfl ?_
  refine g_iconst M 4 dX6_init_22 (by decide) ?_
  refine n_newa (atype := .int) (ty := .int) (t0 := 0) (N' := 4) (a0 := (4, .inl (fun _ => 0))) M rfl (Or.inl rfl) aw_int (fun _ => rfl) (fun _ => rfl) (fun _ _ => rfl) (by decide) rfl (Nat.le_of_ble_eq_true rfl) ⟨Nat.le_of_ble_eq_true rfl, Nat.le_of_ble_eq_true rfl⟩ dX6_init_23 ⟨(by repeat' (first | exact clW_n | exact clE_i | exact clE_l | exact clE_r rfl | refine clW_c ?_ ?_)), rfl, rfl, Nat.le_of_ble_eq_true rfl⟩ (xn_k (Nat.le_of_ble_eq_true rfl)) (fun B M => ?_)
  refine n_putF M xn_i fl_X6_16 (fun C T N h => by cases h; exact ⟨rfl, rfl⟩) dX6_init_25 rfl (fun _ => rfl) (fun _ => rfl) (Nat.le_of_ble_eq_true rfl) ?_
  refine g_aload_n M dX6_init_28 rfl ?_
  refine g_iconst M 4 dX6_init_29 (by decide) ?_
  refine n_newa (atype := .int) (ty := .int) (t0 := 0) (N' := 4) (a0 := (4, .inl (fun _ => 0))) M rfl (Or.inl rfl) aw_int (fun _ => rfl) (fun _ => rfl) (fun _ _ => rfl) (by decide) rfl (Nat.le_of_ble_eq_true rfl) ⟨Nat.le_of_ble_eq_true rfl, Nat.le_of_ble_eq_true rfl⟩ dX6_init_30 ⟨(by repeat' (first | exact clW_n | exact clE_i | exact clE_l | exact clE_r rfl | refine clW_c ?_ ?_)), rfl, rfl, Nat.le_of_ble_eq_true rfl⟩ (xn_k (Nat.le_of_ble_eq_true rfl)) (fun B M => ?_)
  refine n_putF M xn_i fl_X6_19 (fun C T N h => by cases h; exact ⟨rfl, rfl⟩) dX6_init_32 rfl (fun _ => rfl) (fun _ => rfl) (Nat.le_of_ble_eq_true rfl) ?_
  show B 35 [(0, .ref 0)] [] (MW 0 0 0 0 0 0 0 false 0 z0 z0 z0 z0)
  refine g_aload_n M dX6_init_35 rfl ?_
  refine g_get M fl_X6_7 dX6_init_36 rfl rfl ?_
  refine g_iconst M 0 dX6_init_39 (by decide) ?_
  refine g_iconst M 4 dX6_init_40 (by decide) ?_
  refine g_iast M dX6_init_41 rfl (by exact vp_in_nI (n := 0) (N := 1376) (by decide) (by decide)) ?_
  refine g_aload_n M dX6_init_42 rfl ?_
  refine g_get M fl_X6_7 dX6_init_43 rfl rfl ?_
  refine g_iconst M 1 dX6_init_46 (by decide) ?_
  refine g_bipush M 6 dX6_init_47 (by decide) ?_
  refine g_iast M dX6_init_49 rfl (by exact vp_in_nI (n := 1) (N := 1376) (by decide) (by decide)) ?_
  refine g_aload_n M dX6_init_50 rfl ?_
  refine g_get M fl_X6_7 dX6_init_51 rfl rfl ?_
  refine g_iconst M 2 dX6_init_54 (by decide) ?_
  refine g_bipush M 8 dX6_init_55 (by decide) ?_
  refine g_iast M dX6_init_57 rfl (by exact vp_in_nI (n := 2) (N := 1376) (by decide) (by decide)) ?_
  refine g_aload_n M dX6_init_58 rfl ?_
  refine g_get M fl_X6_7 dX6_init_59 rfl rfl ?_
  refine g_iconst M 3 dX6_init_62 (by decide) ?_
  refine g_bipush M 9 dX6_init_63 (by decide) ?_
  refine g_iast M dX6_init_65 rfl (by exact vp_in_nI (n := 3) (N := 1376) (by decide) (by decide)) ?_
  refine g_aload_n M dX6_init_66 rfl ?_
  refine g_get M fl_X6_7 dX6_init_67 rfl rfl ?_
  refine g_iconst M 4 dX6_init_70 (by decide) ?_
  refine g_bipush M 12 dX6_init_71 (by decide) ?_
  refine g_iast M dX6_init_73 rfl (by exact vp_in_nI (n := 4) (N := 1376) (by decide) (by decide)) ?_
  show B 74 [(0, .ref 0)] [] (MW 0 0 0 0 0 0 0 false 0 (upd (upd (upd (upd (upd z0 0 4) 1 6) 2 8) 3 9) 4 12) z0 z0 z0)
  rw [sI_0]
  refine g_iconst M 0 dX6_init_74 (by decide) ?_
  refine g_istore_n M dX6_init_75 (by decide) ?_
  have h2 := X6_2 M 5 0 rfl
  have h3 : B 133 [(0, .ref 0)] [] (MW0 12 0 false) := by
    refine g_iconst M 0 dX6_init_133 (by decide) ?_
    refine g_istore_n M dX6_init_134 (by decide) ?_
    rw [show nI 0 = 0 from rfl] at h2
    exact g_lvs M _ (lvs_c rfl (lvs_c rfl lvs_n)) h2
  have h := X6_1 M h3 12 0 rfl
  rw [show nI 0 = 0 from rfl] at h
  exact g_lvs M _ (lvs_c rfl (lvs_c rfl lvs_n)) h


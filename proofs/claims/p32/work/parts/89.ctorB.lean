abbrev he0 (m : Nat) : Int32 := fst0 (m / 12) (m % 12)
def lb0 (i : Nat) (j : Nat) : Bool := decide (j < i)
theorem lb0_upd (i : Nat) (x : Int32) (hx : x = 1) : upd (fun j => b2i (lb0 i j)) i x = fun j => b2i (lb0 (i + 1) j) := by
  subst hx
  funext j
  by_cases h : j = i
  · subst h; rw [pk_us]; unfold lb0; rw [decide_eq_true (by omega)]; rfl
  · rw [pk_un h]; unfold lb0
    rw [show decide (j < i) = decide (j < i + 1) from decide_eq_decide.mpr (by omega)]
theorem lb0_0 : (fun j => b2i (lb0 0 j)) = z0 := by
  funext j; unfold lb0; rw [decide_eq_false (by omega)]; rfl
abbrev W4 (a b c : Nat) : List va_E := WW (lt0 teeth0 a) z0 (lb0 b) z0 z0 (lt0 he0 c)
theorem X4_in {B : KT} (M : MG RX4 cX4_init 3 none (rmn 2 6 85 41) 6 85 (XN 6 85 (W4 5 5 60)) B) (i : Nat) (hi : i < 5) (kk : B 49 [(0, .ref 0), (1, .int (nI (i + 1)))] [] (W4 (i + 1) (i + 1) (12 * i + 12))) : ∀ (r j : Nat), j + r = 12 → B 74 [(0, .ref 0), (1, .int (nI i)), (2, .int (nI j))] [] (W4 (i + 1) (i + 1) (12 * i + j)) := by
  rw [← nI_1 i] at kk
  intro r
  induction r with
  | zero =>
    intro j hj
    have : j = 12 := by omega
    subst this
    refine g_iload_n M dX4_init_74 rfl ?_
    refine g_bipush M 12 dX4_init_75 (by decide) ?_
    refine g_icmp_ge M 102 dX4_init_77 (by decide) (fun _ => ?_) (fun h9 => absurd (nI_geT (n := 12) rfl (by omega) (by decide)) h9)
    refine g_iinc1 M dX4_init_102 rfl (by decide) ?_
    refine g_goto M 49 dX4_init_105 (by decide) ?_
    exact g_lvs M _ (lvs_c rfl (lvs_c rfl lvs_n)) kk
  | succ r ih =>
    intro j hj
    refine g_iload_n M dX4_init_74 rfl ?_
    refine g_bipush M 12 dX4_init_75 (by decide) ?_
    refine g_icmp_ge M 102 dX4_init_77 (by decide) (fun h9 => absurd h9 (nI_geF (n := 12) rfl (by omega) (by decide))) (fun _ => ?_)
    refine g_aload_n M dX4_init_80 rfl ?_
    refine g_get M fl_X4_28 dX4_init_81 rfl rfl ?_
    refine g_iload_n M dX4_init_84 rfl ?_
    refine g_bipush M 12 dX4_init_85 (by decide) ?_
    refine g_imul M dX4_init_87 ?_
    refine g_iload_n M dX4_init_88 rfl ?_
    refine g_iadd M dX4_init_89 ?_
    refine g_iload_n M dX4_init_90 rfl ?_
    refine g_iload_n M dX4_init_91 rfl ?_
    refine n_callF (st := [.int (nI i * 12 + nI j), .ref 6]) M xn_z (c_first (i := i) (j := j) hi (by omega)) dX4_init_92 ⟨Nat.le_of_ble_eq_true rfl, Nat.le_of_ble_eq_true rfl⟩ (Nat.le_of_ble_eq_true rfl) ?_
    have e1 : nI i * 12 + nI j = nI (12 * i + j) := by
      show Int32.ofNat i * Int32.ofNat 12 + Int32.ofNat j = Int32.ofNat (12 * i + j)
      rw [Int32.ofNat_add, Int32.ofNat_mul, Int32.mul_comm (Int32.ofNat i)]
    rw [e1]
    refine g_iast M dX4_init_95 rfl (vp_in_nI (by omega) (by omega)) ?_
    rw [nI_clamp (by omega), lt0_upd he0 (12 * i + j) _ (by show fst0 i j = fst0 ((12 * i + j) / 12) ((12 * i + j) % 12); rw [show (12 * i + j) / 12 = i by omega, show (12 * i + j) % 12 = j by omega])]
    refine g_iinc1 M dX4_init_96 rfl (by decide) ?_
    refine g_goto M 74 dX4_init_99 (by decide) ?_
    have h := ih (j + 1) (by omega)
    rw [← nI_1 j] at h
    exact g_lvs M _ (lvs_c rfl (lvs_c rfl (lvs_c rfl lvs_n))) h
theorem X4_out {B : KT} (M : MG RX4 cX4_init 3 none (rmn 2 6 85 41) 6 85 (XN 6 85 (W4 5 5 60)) B) : ∀ (r i : Nat), i + r = 5 → B 49 [(0, .ref 0), (1, .int (nI i))] [] (W4 i i (12 * i)) := by
  intro r
  induction r with
  | zero =>
    intro i hi
    have : i = 5 := by omega
    subst this
    refine g_iload_n M dX4_init_49 rfl ?_
    refine g_iconst M 5 dX4_init_50 (by decide) ?_
    refine g_icmp_ge M 108 dX4_init_51 (by decide) (fun _ => ?_) (fun h9 => absurd (nI_geT (n := 5) rfl (by omega) (by decide)) h9)
    exact n_ret M dX4_init_108 rfl rfl
  | succ r ih =>
    intro i hi
    refine g_iload_n M dX4_init_49 rfl ?_
    refine g_iconst M 5 dX4_init_50 (by decide) ?_
    refine g_icmp_ge M 108 dX4_init_51 (by decide) (fun h9 => absurd h9 (nI_geF (n := 5) rfl (by omega) (by decide))) (fun _ => ?_)
    refine g_aload_n M dX4_init_54 rfl ?_
    refine g_get M fl_X4_9 dX4_init_55 rfl rfl ?_
    refine g_iload_n M dX4_init_58 rfl ?_
    refine n_slda M xn_z zs_teeth zl_teeth dX4_init_59 dX4_init_62 dX4_init_63 rfl (vp_in_nI (by omega) (by omega)) ?_
    refine g_iast M dX4_init_64 rfl (vp_in_nI (by omega) (by omega)) ?_
    rw [nI_clamp (by omega), lt0_upd teeth0 i _ rfl]
    refine g_aload_n M dX4_init_65 rfl ?_
    refine g_get M fl_X4_18 dX4_init_66 rfl rfl ?_
    refine g_iload_n M dX4_init_69 rfl ?_
    refine g_iconst M 1 dX4_init_70 (by decide) ?_
    refine g_zast M dX4_init_71 rfl (vp_in_nI (by omega) (by omega)) rfl ?_
    rw [nI_clamp (by omega), lb0_upd i _ rfl]
    refine g_iconst M 0 dX4_init_72 (by decide) ?_
    refine g_istore_n M dX4_init_73 (by decide) ?_
    have h := X4_in M i (by omega) (ih (i + 1) (by omega)) 12 0 rfl
    rw [show nI 0 = 0 from rfl] at h
    exact g_lvs M _ (lvs_c rfl (lvs_c rfl (lvs_c rfl lvs_n))) h
theorem n_X4 : ConN yX4_init cX4_init 3 (rmn 2 6 85 41) (.inr (4, F4s)) (W4 5 5 60) := by
  refine ConN.of (own := RX4) (by decide) rfl rfl (Nat.le_of_ble_eq_true rfl) (fun _ _ => rfl) ⟨(by repeat' (first | exact clW_n | exact clE_i | exact clE_l | exact clE_r rfl | refine clW_c ?_ ?_)), by decide⟩ fun B M => ?_
  refine g_aload_n M dX4_init_0 rfl ?_
  refine n_obj M on_X4 on_i on_c dX4_init_1 ⟨Nat.le_of_ble_eq_true rfl, Nat.le_of_ble_eq_true rfl⟩ ?_
  refine g_aload_n M dX4_init_4 rfl ?_
  refine g_iconst M 5 dX4_init_5 (by decide) ?_
  refine n_newa (atype := .int) (ty := .int) (t0 := 0) (N' := 5) (a0 := (5, .inl (fun _ => 0))) M rfl (Or.inl rfl) aw_int (fun _ => rfl) (fun _ => rfl) (fun _ _ => rfl) (by decide) rfl (Nat.le_of_ble_eq_true rfl) ⟨Nat.le_of_ble_eq_true rfl, Nat.le_of_ble_eq_true rfl⟩ dX4_init_6 ⟨(by repeat' (first | exact clW_n | exact clE_i | exact clE_l | exact clE_r rfl | refine clW_c ?_ ?_)), rfl, rfl, Nat.le_of_ble_eq_true rfl⟩ (xn_k (Nat.le_of_ble_eq_true rfl)) (fun B M => ?_)
  refine n_putF M xn_i fl_X4_9 (fun C T N h => by cases h; exact ⟨rfl, rfl⟩) dX4_init_8 rfl (fun _ => rfl) (fun _ => rfl) (Nat.le_of_ble_eq_true rfl) ?_
  refine g_aload_n M dX4_init_11 rfl ?_
  refine g_iconst M 5 dX4_init_12 (by decide) ?_
  refine n_newa (atype := .int) (ty := .int) (t0 := 0) (N' := 5) (a0 := (5, .inl (fun _ => 0))) M rfl (Or.inl rfl) aw_int (fun _ => rfl) (fun _ => rfl) (fun _ _ => rfl) (by decide) rfl (Nat.le_of_ble_eq_true rfl) ⟨Nat.le_of_ble_eq_true rfl, Nat.le_of_ble_eq_true rfl⟩ dX4_init_13 ⟨(by repeat' (first | exact clW_n | exact clE_i | exact clE_l | exact clE_r rfl | refine clW_c ?_ ?_)), rfl, rfl, Nat.le_of_ble_eq_true rfl⟩ (xn_k (Nat.le_of_ble_eq_true rfl)) (fun B M => ?_)
  refine n_putF M xn_i fl_X4_15 (fun C T N h => by cases h; exact ⟨rfl, rfl⟩) dX4_init_15 rfl (fun _ => rfl) (fun _ => rfl) (Nat.le_of_ble_eq_true rfl) ?_
  refine g_aload_n M dX4_init_18 rfl ?_
  refine g_iconst M 5 dX4_init_19 (by decide) ?_
  refine n_newa (atype := .boolean) (ty := .boolean) (t0 := 1) (N' := 5) (a0 := (5, .inl (fun _ => 0))) M rfl (Or.inr (Or.inl rfl)) aw_boolean (fun _ => rfl) (fun _ => rfl) (fun _ _ => rfl) (by decide) rfl (Nat.le_of_ble_eq_true rfl) ⟨Nat.le_of_ble_eq_true rfl, Nat.le_of_ble_eq_true rfl⟩ dX4_init_20 ⟨(by repeat' (first | exact clW_n | exact clE_i | exact clE_l | exact clE_r rfl | refine clW_c ?_ ?_)), rfl, rfl, Nat.le_of_ble_eq_true rfl⟩ (xn_k (Nat.le_of_ble_eq_true rfl)) (fun B M => ?_)
  refine n_putF M xn_i fl_X4_18 (fun C T N h => by cases h; exact ⟨rfl, rfl⟩) dX4_init_22 rfl (fun _ => rfl) (fun _ => rfl) (Nat.le_of_ble_eq_true rfl) ?_
  refine g_aload_n M dX4_init_25 rfl ?_
  refine g_iconst M 5 dX4_init_26 (by decide) ?_
  refine n_newa (atype := .int) (ty := .int) (t0 := 0) (N' := 5) (a0 := (5, .inl (fun _ => 0))) M rfl (Or.inl rfl) aw_int (fun _ => rfl) (fun _ => rfl) (fun _ _ => rfl) (by decide) rfl (Nat.le_of_ble_eq_true rfl) ⟨Nat.le_of_ble_eq_true rfl, Nat.le_of_ble_eq_true rfl⟩ dX4_init_27 ⟨(by repeat' (first | exact clW_n | exact clE_i | exact clE_l | exact clE_r rfl | refine clW_c ?_ ?_)), rfl, rfl, Nat.le_of_ble_eq_true rfl⟩ (xn_k (Nat.le_of_ble_eq_true rfl)) (fun B M => ?_)
  refine n_putF M xn_i fl_X4_22 (fun C T N h => by cases h; exact ⟨rfl, rfl⟩) dX4_init_29 rfl (fun _ => rfl) (fun _ => rfl) (Nat.le_of_ble_eq_true rfl) ?_
  refine g_aload_n M dX4_init_32 rfl ?_
  refine g_iconst M 5 dX4_init_33 (by decide) ?_
  refine n_newa (atype := .int) (ty := .int) (t0 := 0) (N' := 5) (a0 := (5, .inl (fun _ => 0))) M rfl (Or.inl rfl) aw_int (fun _ => rfl) (fun _ => rfl) (fun _ _ => rfl) (by decide) rfl (Nat.le_of_ble_eq_true rfl) ⟨Nat.le_of_ble_eq_true rfl, Nat.le_of_ble_eq_true rfl⟩ dX4_init_34 ⟨(by repeat' (first | exact clW_n | exact clE_i | exact clE_l | exact clE_r rfl | refine clW_c ?_ ?_)), rfl, rfl, Nat.le_of_ble_eq_true rfl⟩ (xn_k (Nat.le_of_ble_eq_true rfl)) (fun B M => ?_)
  refine n_putF M xn_i fl_X4_25 (fun C T N h => by cases h; exact ⟨rfl, rfl⟩) dX4_init_36 rfl (fun _ => rfl) (fun _ => rfl) (Nat.le_of_ble_eq_true rfl) ?_
  refine g_aload_n M dX4_init_39 rfl ?_
  refine g_bipush M 60 dX4_init_40 (by decide) ?_
  refine n_newa (atype := .int) (ty := .int) (t0 := 0) (N' := 60) (a0 := (60, .inl (fun _ => 0))) M rfl (Or.inl rfl) aw_int (fun _ => rfl) (fun _ => rfl) (fun _ _ => rfl) (by decide) rfl (Nat.le_of_ble_eq_true rfl) ⟨Nat.le_of_ble_eq_true rfl, Nat.le_of_ble_eq_true rfl⟩ dX4_init_42 ⟨(by repeat' (first | exact clW_n | exact clE_i | exact clE_l | exact clE_r rfl | refine clW_c ?_ ?_)), rfl, rfl, Nat.le_of_ble_eq_true rfl⟩ (xn_k (Nat.le_of_ble_eq_true rfl)) (fun B M => ?_)
  refine n_putF M xn_i fl_X4_28 (fun C T N h => by cases h; exact ⟨rfl, rfl⟩) dX4_init_44 rfl (fun _ => rfl) (fun _ => rfl) (Nat.le_of_ble_eq_true rfl) ?_
  refine g_iconst M 0 dX4_init_47 (by decide) ?_
  refine g_istore_n M dX4_init_48 (by decide) ?_
  have h := X4_out M 5 0 rfl
  unfold W4 WW at h
  rw [lt0_0, lt0_0, lb0_0, show nI 0 = 0 from rfl] at h
  exact g_lvs M _ (lvs_c rfl (lvs_c rfl lvs_n)) h
abbrev D0 : SD := (lt0 teeth0 5, z0, lb0 5, z0, z0, lt0 he0 60, fun _ => false, z0, 0, 0, false, 0, 0, 4, 0)
def sg2 (k : Nat) : Nat := if k = 0 then 0 else if k = 1 then 8 else if k = 2 then 9 else k - 2
theorem n_X2 : ConN yX2_init cX2_init 1 (rmn 3 9 181 63) (.inr (2, F2s)) (SWd 0 D0) := by
  refine ConN.of (own := RX2) (by decide) rfl rfl (Nat.le_of_ble_eq_true rfl) (fun _ _ => rfl) ⟨(by repeat' (first | exact clW_n | exact clE_i | exact clE_l | exact clE_r rfl | refine clW_c ?_ ?_)), by decide⟩ fun B M => ?_
  refine g_aload_n M dX2_init_0 rfl ?_
  refine n_obj M on_X2 on_i on_c dX2_init_1 ⟨Nat.le_of_ble_eq_true rfl, Nat.le_of_ble_eq_true rfl⟩ ?_
  refine g_aload_n M dX2_init_4 rfl ?_
  refine n_mkI M xn_z nd_X2_9 n_X4 lk_X2_11 dX2_init_5 dX2_init_8 dX2_init_9 rfl ⟨by decide, by decide, by decide +kernel⟩ ⟨Nat.le_of_ble_eq_true rfl, Nat.le_of_ble_eq_true rfl⟩ ⟨Nat.le_of_ble_eq_true rfl, Nat.le_of_ble_eq_true rfl⟩ ⟨(by repeat' (first | exact clW_n | exact clE_i | exact clE_l | exact clE_r rfl | refine clW_c ?_ ?_)), rfl, rfl, Nat.le_of_ble_eq_true rfl⟩ (Nat.le_of_ble_eq_true rfl) (xn_k (Nat.le_of_ble_eq_true rfl)) (fun B M => ?_)
  refine n_putF M xn_i fl_X2_12 (fun C T N h => by cases h; exact ⟨rfl, rfl⟩) dX2_init_12 rfl (fun _ => rfl) (fun _ => rfl) (Nat.le_of_ble_eq_true rfl) ?_
  refine g_aload_n M dX2_init_15 rfl ?_
  refine g_bipush M 60 dX2_init_16 (by decide) ?_
  refine n_newa (atype := .boolean) (ty := .boolean) (t0 := 1) (N' := 60) (a0 := (60, .inl (fun _ => 0))) M rfl (Or.inr (Or.inl rfl)) aw_boolean (fun _ => rfl) (fun _ => rfl) (fun _ _ => rfl) (by decide) rfl (Nat.le_of_ble_eq_true rfl) ⟨Nat.le_of_ble_eq_true rfl, Nat.le_of_ble_eq_true rfl⟩ dX2_init_18 ⟨(by repeat' (first | exact clW_n | exact clE_i | exact clE_l | exact clE_r rfl | refine clW_c ?_ ?_)), rfl, rfl, Nat.le_of_ble_eq_true rfl⟩ (xn_k (Nat.le_of_ble_eq_true rfl)) (fun B M => ?_)
  refine n_putF M xn_i fl_X2_18 (fun C T N h => by cases h; exact ⟨rfl, rfl⟩) dX2_init_20 rfl (fun _ => rfl) (fun _ => rfl) (Nat.le_of_ble_eq_true rfl) ?_
  refine g_aload_n M dX2_init_23 rfl ?_
  refine g_bipush M 30 dX2_init_24 (by decide) ?_
  refine n_newa (atype := .int) (ty := .int) (t0 := 0) (N' := 30) (a0 := (30, .inl (fun _ => 0))) M rfl (Or.inl rfl) aw_int (fun _ => rfl) (fun _ => rfl) (fun _ _ => rfl) (by decide) rfl (Nat.le_of_ble_eq_true rfl) ⟨Nat.le_of_ble_eq_true rfl, Nat.le_of_ble_eq_true rfl⟩ dX2_init_26 ⟨(by repeat' (first | exact clW_n | exact clE_i | exact clE_l | exact clE_r rfl | refine clW_c ?_ ?_)), rfl, rfl, Nat.le_of_ble_eq_true rfl⟩ (xn_k (Nat.le_of_ble_eq_true rfl)) (fun B M => ?_)
  refine n_putF M xn_i fl_X2_22 (fun C T N h => by cases h; exact ⟨rfl, rfl⟩) dX2_init_28 rfl (fun _ => rfl) (fun _ => rfl) (Nat.le_of_ble_eq_true rfl) ?_
  refine g_aload_n M dX2_init_31 rfl ?_
  refine g_iconst M 4 dX2_init_32 (by decide) ?_
  refine g_put M fl_X2_26 ff_2_8 dX2_init_33 rfl rfl rfl (fun _ => rfl) (Nat.le_of_ble_eq_true rfl) ?_
  refine n_ren M sg2 (lv' := [(0, .ref 0)]) (st' := []) (w' := SWd 0 D0) rfl (fun i j hi hj h => ?_) rfl rfl (fun _ _ _ _ _ _ _ _ _ _ _ _ _ _ h => h) fun B M => ?_
  · have h1 : i < 10 := hi
    have h2 : j < 10 := hj
    unfold sg2 at h
    split at h <;> split at h <;> (repeat' (split at h)) <;> omega
  exact n_ret M dX2_init_36 rfl rfl


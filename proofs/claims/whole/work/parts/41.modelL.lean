theorem nz_big : ¬ FP.Core.DZero 4841369599423283200 := by
  rintro ⟨s, q, h⟩
  rw [show FP.Core.val64 4841369599423283200 = .fin false 4503599627370496 0 from by decide +kernel] at h
  cases h
/-- doubled, up to the first that is not below 1 -/
def bupO : Nat → UInt64 → Int64 → Option (UInt64 × Int64)
  | 0, _, _ => none
  | m + 1, v, x => if 0 ≤ Op.cmpValue (FP.dcmp v FP.dconst1) .g then some (v, x) else bupO m (FP.dmul v d2c) (x - 1)
theorem c_bits (v v2 : UInt64) (x2 : Int64) (hv : vf_n64 v) (h : bupO 1100 v 1023 = some (v2, x2)) : Con yX6_bits cX6_bits 6 (some .long) (rmk 0 0) [.double v] [] (some (.long (x2 * 4503599627370496 + FP.d2l (FP.dmul (FP.dsub v2 FP.dconst1) 4841369599423283200)))) [] := by
  refine Con.of (own := RX6) (by decide) rfl (Nat.le_of_ble_eq_true rfl) rfl (fun B M => ?_)
  have fin : vf_n64 v2 → B 28 [(0, .double v), (2, .double v2), (4, .long x2)] [] [] := by
    intro hn
    refine r_lload M dX6_bits_28 rfl ?_
    refine r_ldc2 M kc_X6_188 dX6_bits_30 ?_
    refine r_lmul M dX6_bits_33 ?_
    refine r_dload_n M dX6_bits_34 rfl ?_
    refine r_dconst1 M dX6_bits_35 ?_
    refine r_dsub M dX6_bits_36 (nn_sub1 hn) ?_
    refine r_ldc2d M kc_X6_190 dX6_bits_37 ?_
    refine r_dmul M dX6_bits_40 ((n64_iff _).mpr (FP.Core.dmul_out' ((n64_iff _).mp (nn_sub1 hn)) (fin_of _ (by decide)) nz_big)) ?_
    refine r_d2l M dX6_bits_41 ?_
    refine r_ladd M dX6_bits_42 ?_
    exact r_lret M dX6_bits_43 rfl rfl rfl
  have loop : ∀ (m : Nat) (v9 : UInt64) (x9 : Int64), vf_n64 v9 → bupO m v9 x9 = some (v2, x2) → B 7 [(0, .double v), (2, .double v9), (4, .long x9)] [] [] := by
    intro m
    induction m with
    | zero => intro v9 x9 hn he; cases he
    | succ m ih =>
      intro v9 x9 hn he
      rw [bupO] at he
      refine r_dload_n M dX6_bits_7 rfl ?_
      refine r_dconst1 M dX6_bits_8 ?_
      refine r_dcmp M dX6_bits_9 ?_
      by_cases hc : 0 ≤ Op.cmpValue (FP.dcmp v9 FP.dconst1) .g
      · rw [if_pos hc] at he
        cases he
        refine r_if_ge M 28 dX6_bits_10 (by decide) (fun _ => ?_) (fun h9 => absurd hc h9)
        exact fin hn
      · rw [if_neg hc] at he
        refine r_if_ge M 28 dX6_bits_10 (by decide) (fun h9 => absurd h9 hc) (fun _ => ?_)
        refine r_dload_n M dX6_bits_13 rfl ?_
        refine r_ldc2d M kc_X6_186 dX6_bits_14 ?_
        refine r_dmul M dX6_bits_17 (nn_mul2 hn) ?_
        refine r_dstore_n M dX6_bits_18 (by decide) ?_
        refine r_lload M dX6_bits_19 rfl ?_
        refine r_lconst M 1 dX6_bits_21 (by decide) ?_
        refine r_lsub M dX6_bits_22 ?_
        refine r_lstore M dX6_bits_23 (by decide) ?_
        refine r_goto M 7 dX6_bits_25 (by decide) ?_
        exact r_lvs M _ (lvs_c rfl (lvs_c rfl (lvs_c rfl lvs_n))) (ih _ _ (nn_mul2 hn) he)
  refine r_dload_n M dX6_bits_0 rfl ?_
  refine r_dstore_n M dX6_bits_1 (by decide) ?_
  refine r_ldc2 M kc_X6_184 dX6_bits_2 ?_
  refine r_lstore M dX6_bits_5 (by decide) ?_
  exact r_lvs M _ (lvs_c rfl (lvs_c rfl (lvs_c rfl lvs_n))) (loop 1100 v 1023 hv h)
/-- halved, down to the first below 2; doubled, up to the first not below 1 -/
def fdnO : Nat → UInt32 → Int32 → Option (UInt32 × Int32)
  | 0, _, _ => none
  | m + 1, v, x => if Op.cmpValue (FP.fcmp v FP.fconst2) .l < 0 then some (v, x) else if FP.fdiv v FP.fconst2 &&& 0x7fffffff ≤ 0x7f800000 then fdnO m (FP.fdiv v FP.fconst2) (x + 1) else none
def fupO : Nat → UInt32 → Int32 → Option (UInt32 × Int32)
  | 0, _, _ => none
  | m + 1, v, x => if 0 ≤ Op.cmpValue (FP.fcmp v FP.fconst1) .g then some (v, x) else if FP.fmul v FP.fconst2 &&& 0x7fffffff ≤ 0x7f800000 then fupO m (FP.fmul v FP.fconst2) (x + -1) else none
theorem c_floatBits0 (v : UInt32) (h : Op.cmpValue (FP.fcmp v FP.fconst0) .l = 0) : Con yX6_floatBits cX6_floatBits 3 (some .int) (rmk 0 0) [.float v] [] (some (.int 0)) [] := by
  refine Con.of (own := RX6) (by decide) rfl (Nat.le_of_ble_eq_true rfl) rfl (fun B M => ?_)
  refine r_fload_n M dX6_floatBits_0 rfl ?_
  refine r_fconst0 M dX6_floatBits_1 ?_
  refine r_fcmp M dX6_floatBits_2 ?_
  refine r_if_ne M 8 dX6_floatBits_3 (by decide) (fun h9 => absurd h h9) (fun _ => ?_)
  refine r_iconst M 0 dX6_floatBits_6 (by decide) ?_
  exact r_iret M dX6_floatBits_7 rfl rfl rfl
theorem c_floatBits (v v1 v2 : UInt32) (x1 x2 : Int32) (h : ¬ Op.cmpValue (FP.fcmp v FP.fconst0) .l = 0) (h1 : fdnO 20 v 127 = some (v1, x1)) (h2 : fupO 20 v1 x1 = some (v2, x2)) (h3 : vf_n32 (FP.fsub v2 FP.fconst1)) (h4 : vf_n32 (FP.fmul (FP.fsub v2 FP.fconst1) 1258291200)) : Con yX6_floatBits cX6_floatBits 3 (some .int) (rmk 0 0) [.float v] [] (some (.int (x2 * 8388608 + FP.f2i (FP.fmul (FP.fsub v2 FP.fconst1) 1258291200)))) [] := by
  refine Con.of (own := RX6) (by decide) rfl (Nat.le_of_ble_eq_true rfl) rfl (fun B M => ?_)
  have fin : B 45 [(0, .float v), (1, .float v2), (2, .int x2)] [] [] := by
    refine r_iload_n M dX6_floatBits_45 rfl ?_
    refine r_ldc M kc_X6_192 dX6_floatBits_46 ?_
    refine r_imul M dX6_floatBits_48 ?_
    refine r_fload_n M dX6_floatBits_49 rfl ?_
    refine r_fconst1 M dX6_floatBits_50 ?_
    refine r_fsub M dX6_floatBits_51 h3 ?_
    refine r_ldcf M kc_X6_193 dX6_floatBits_52 ?_
    refine r_fmul M dX6_floatBits_54 h4 ?_
    refine r_f2i M dX6_floatBits_55 ?_
    refine r_iadd M dX6_floatBits_56 ?_
    exact r_iret M dX6_floatBits_57 rfl rfl rfl
  have loop2 : ∀ (m : Nat) (v9 : UInt32) (x9 : Int32), fupO m v9 x9 = some (v2, x2) → B 29 [(0, .float v), (1, .float v9), (2, .int x9)] [] [] := by
    intro m
    induction m with
    | zero => intro v9 x9 he; cases he
    | succ m ih =>
      intro v9 x9 he
      rw [fupO] at he
      refine r_fload_n M dX6_floatBits_29 rfl ?_
      refine r_fconst1 M dX6_floatBits_30 ?_
      refine r_fcmp M dX6_floatBits_31 ?_
      by_cases hc : 0 ≤ Op.cmpValue (FP.fcmp v9 FP.fconst1) .g
      · rw [if_pos hc] at he
        cases he
        refine r_if_ge M 45 dX6_floatBits_32 (by decide) (fun _ => ?_) (fun h9 => absurd hc h9)
        exact fin
      · rw [if_neg hc] at he
        by_cases hn : FP.fmul v9 FP.fconst2 &&& 0x7fffffff ≤ 0x7f800000
        · rw [if_pos hn] at he
          refine r_if_ge M 45 dX6_floatBits_32 (by decide) (fun h9 => absurd h9 hc) (fun _ => ?_)
          refine r_fload_n M dX6_floatBits_35 rfl ?_
          refine r_fconst2 M dX6_floatBits_36 ?_
          refine r_fmul M dX6_floatBits_37 hn ?_
          refine r_fstore_n M dX6_floatBits_38 (by decide) ?_
          refine r_iinc M _ dX6_floatBits_39 rfl (by decide) rfl ?_
          refine r_goto M 29 dX6_floatBits_42 (by decide) ?_
          exact r_lvs M _ (lvs_c rfl (lvs_c rfl (lvs_c rfl lvs_n))) (ih _ _ he)
        · rw [if_neg hn] at he
          cases he
  have loop1 : ∀ (m : Nat) (v9 : UInt32) (x9 : Int32), fdnO m v9 x9 = some (v1, x1) → B 13 [(0, .float v), (1, .float v9), (2, .int x9)] [] [] := by
    intro m
    induction m with
    | zero => intro v9 x9 he; cases he
    | succ m ih =>
      intro v9 x9 he
      rw [fdnO] at he
      refine r_fload_n M dX6_floatBits_13 rfl ?_
      refine r_fconst2 M dX6_floatBits_14 ?_
      refine r_fcmp M dX6_floatBits_15 ?_
      by_cases hc : Op.cmpValue (FP.fcmp v9 FP.fconst2) .l < 0
      · rw [if_pos hc] at he
        cases he
        refine r_if_lt M 29 dX6_floatBits_16 (by decide) (fun _ => ?_) (fun h9 => absurd hc h9)
        exact loop2 20 _ _ h2
      · rw [if_neg hc] at he
        by_cases hn : FP.fdiv v9 FP.fconst2 &&& 0x7fffffff ≤ 0x7f800000
        · rw [if_pos hn] at he
          refine r_if_lt M 29 dX6_floatBits_16 (by decide) (fun h9 => absurd h9 hc) (fun _ => ?_)
          refine r_fload_n M dX6_floatBits_19 rfl ?_
          refine r_fconst2 M dX6_floatBits_20 ?_
          refine r_fdiv M dX6_floatBits_21 hn ?_
          refine r_fstore_n M dX6_floatBits_22 (by decide) ?_
          refine r_iinc1 M dX6_floatBits_23 rfl (by decide) ?_
          refine r_goto M 13 dX6_floatBits_26 (by decide) ?_
          exact r_lvs M _ (lvs_c rfl (lvs_c rfl (lvs_c rfl lvs_n))) (ih _ _ he)
        · rw [if_neg hn] at he
          cases he
  refine r_fload_n M dX6_floatBits_0 rfl ?_
  refine r_fconst0 M dX6_floatBits_1 ?_
  refine r_fcmp M dX6_floatBits_2 ?_
  refine r_if_ne M 8 dX6_floatBits_3 (by decide) (fun _ => ?_) (fun h9 => absurd h9 h)
  refine r_fload_n M dX6_floatBits_8 rfl ?_
  refine r_fstore_n M dX6_floatBits_9 (by decide) ?_
  refine r_bipush M 127 dX6_floatBits_10 (by decide) ?_
  refine r_istore_n M dX6_floatBits_12 (by decide) ?_
  exact r_lvs M _ (lvs_c rfl (lvs_c rfl (lvs_c rfl lvs_n))) (loop1 20 v 127 h1)


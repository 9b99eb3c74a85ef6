theorem n64_iff (r : UInt64) : vf_n64 r ↔ FP.Core.dIsNaN r = false := by
  have h1 : (r &&& 0x7fffffffffffffff).toNat = r.toNat % 2 ^ 63 := by
    rw [UInt64.toNat_and]
    exact Nat.and_two_pow_sub_one_eq_mod _ 63
  have h2 := FP.Core.isNaN_bits r
  rw [vf_n64, UInt64.le_iff_toNat_le, h1, show (0x7ff0000000000000 : UInt64).toNat = 9218868437227405312 from rfl]
  constructor
  · intro h
    cases hh : FP.Core.dIsNaN r with
    | false => rfl
    | true => have := h2.mp hh; omega
  · intro h
    rcases Nat.lt_or_ge 9218868437227405312 (r.toNat % 2 ^ 63) with h3 | h3
    · rw [h2.mpr h3] at h; cases h
    · exact h3
theorem n32_iff (r : UInt32) : vf_n32 r ↔ FP.Core.fIsNaN r = false := by
  have h1 : (r &&& 0x7fffffff).toNat = r.toNat % 2 ^ 31 := by
    rw [UInt32.toNat_and]
    exact Nat.and_two_pow_sub_one_eq_mod _ 31
  have h2 := FP.Core.isNaN_bits32 r
  rw [vf_n32, UInt32.le_iff_toNat_le, h1, show (0x7f800000 : UInt32).toNat = 2139095040 from rfl]
  constructor
  · intro h
    cases hh : FP.Core.fIsNaN r with
    | false => rfl
    | true => have := h2.mp hh; omega
  · intro h
    rcases Nat.lt_or_ge 2139095040 (r.toNat % 2 ^ 31) with h3 | h3
    · rw [h2.mpr h3] at h; cases h
    · exact h3
/-- 2.0 -/
abbrev d2c : UInt64 := 4611686018427387904
theorem fin_of (a : UInt64) (h : a.toNat % 2 ^ 63 < 9218868437227405312) : FP.Core.DFin a := (FP.Core.fin_bits a).mpr h
theorem nz_of (a : UInt64) (h : FP.Core.val64 a ≠ .fin false 0 (FP.Core.b64.qmin) ∧ FP.Core.val64 a ≠ .fin true 0 (FP.Core.b64.qmin)) : True := trivial
theorem nz_two : ¬ FP.Core.DZero d2c := by
  rintro ⟨s, q, h⟩
  rw [show FP.Core.val64 d2c = .fin false 4503599627370496 (-51) from by decide +kernel] at h
  cases h
theorem nn_mul2 {p : UInt64} (h : vf_n64 p) : vf_n64 (FP.dmul p d2c) := (n64_iff _).mpr (FP.Core.dmul_out' ((n64_iff _).mp h) (fin_of _ (by decide)) nz_two)
theorem nn_div2 {p : UInt64} (h : vf_n64 p) : vf_n64 (FP.ddiv p d2c) := (n64_iff _).mpr (FP.Core.ddiv_out ((n64_iff _).mp h) (fin_of _ (by decide)) nz_two)
theorem nn_sub1 {p : UInt64} (h : vf_n64 p) : vf_n64 (FP.dsub p FP.dconst1) := (n64_iff _).mpr (FP.Core.dsub_out ((n64_iff _).mp h) (fin_of _ (by decide)))
def upB : Nat → UInt64 → Int32 → UInt64 × Int32
  | 0, v, x => (v, x)
  | m + 1, v, x => if 0 ≤ Op.cmpValue (FP.dcmp v FP.dconst1) .g then (v, x) else upB m (FP.dmul v d2c) (x + -1)
def dnB : Nat → UInt64 → Int32 → UInt64 × Int32
  | 0, v, x => (v, x)
  | m + 1, v, x => if Op.cmpValue (FP.dcmp v d2c) .l < 0 then (v, x) else dnB m (FP.ddiv v d2c) (x + 1)
theorem upB_nn : ∀ (m : Nat) (v : UInt64) (x : Int32), vf_n64 v → vf_n64 (upB m v x).1
  | 0, v, x, h => h
  | m + 1, v, x, h => by
    rw [upB]
    split
    · exact h
    · exact upB_nn m _ _ (nn_mul2 h)
theorem dnB_nn : ∀ (m : Nat) (v : UInt64) (x : Int32), vf_n64 v → vf_n64 (dnB m v x).1
  | 0, v, x, h => h
  | m + 1, v, x, h => by
    rw [dnB]
    split
    · exact h
    · exact dnB_nn m _ _ (nn_div2 h)
def oneB (f : Int32) : Int64 := (1 : Int64) <<< (f.toInt64 &&& 63)
/-- the bits of a number -/
def bitG (v : UInt64) (f : Int32) (b : Nat) : Int64 := if 0 < Op.cmpValue (FP.dcmp v FP.dconst0) .g then (dnB b (upB b v (nI b)).1 (upB b v (nI b)).2).2.toInt64 * oneB f + FP.d2l (FP.dmul (FP.dsub (dnB b (upB b v (nI b)).1 (upB b v (nI b)).2).1 FP.dconst1) (FP.l2d (oneB f))) else 0
theorem c_bitsOf (v : UInt64) (f : Int32) (b : Nat) (hb : b < 2000) (hv : vf_n64 v) (h1 : FP.Core.DFin (FP.l2d (oneB f)) ∧ ¬ FP.Core.DZero (FP.l2d (oneB f))) : Con yX5_bitsOf cX5_bitsOf 9 (some .long) (rmk 0 0) [.double v, .int f, .int (nI b)] [] (some (.long (bitG v f b))) [] := by
  refine Con.of (own := RX5) (by decide) rfl (Nat.le_of_ble_eq_true rfl) rfl (fun B M => ?_)
  refine r_dload_n M dX5_bitsOf_0 rfl ?_
  refine r_dconst0 M dX5_bitsOf_1 ?_
  refine r_dcmp M dX5_bitsOf_2 ?_
  by_cases hz : 0 < Op.cmpValue (FP.dcmp v FP.dconst0) .g
  · rw [bitG, if_pos hz] at M
    have hn := dnB_nn b _ (upB b v (nI b)).2 (upB_nn b v (nI b) hv)
    have fin : ∀ (v9 : UInt64) (x9 : Int32) (lv : List (Nat × Value)), dnB b (upB b v (nI b)).1 (upB b v (nI b)).2 = (v9, x9) → lgf lv 2 = some (.int f) → lgf lv 4 = some (.double v9) → lgf lv 6 = some (.int x9) → B 82 lv [] [] := by
      intro v9 x9 lv he l2 l4 l6
      rw [he] at M hn
      refine r_lvs M [(2, .int f), (4, .double v9), (6, .int x9)] (lvs_c l2 (lvs_c l4 (lvs_c l6 lvs_n))) ?_
      refine r_lconst M 1 dX5_bitsOf_82 (by decide) ?_
      refine r_iload_n M dX5_bitsOf_83 rfl ?_
      refine r_lshl M dX5_bitsOf_84 ?_
      refine r_lstore M dX5_bitsOf_85 (by decide) ?_
      refine r_iload M dX5_bitsOf_87 rfl ?_
      refine r_i2l M dX5_bitsOf_89 ?_
      refine r_lload M dX5_bitsOf_90 rfl ?_
      refine r_lmul M dX5_bitsOf_92 ?_
      refine r_dload M dX5_bitsOf_93 rfl ?_
      refine r_dconst1 M dX5_bitsOf_95 ?_
      refine r_dsub M dX5_bitsOf_96 (nn_sub1 hn) ?_
      refine r_lload M dX5_bitsOf_97 rfl ?_
      refine r_l2d M dX5_bitsOf_99 ?_
      refine r_dmul M dX5_bitsOf_100 ((n64_iff _).mpr (FP.Core.dmul_out' ((n64_iff _).mp (nn_sub1 hn)) h1.1 h1.2)) ?_
      refine r_d2l M dX5_bitsOf_101 ?_
      refine r_ladd M dX5_bitsOf_102 ?_
      exact r_lret M dX5_bitsOf_103 rfl rfl rfl
    have loop2 : ∀ (m k : Nat) (v9 : UInt64) (x9 : Int32), k + m = b → vf_n64 v9 → dnB b (upB b v (nI b)).1 (upB b v (nI b)).2 = dnB m v9 x9 → B 50 [(2, .int f), (3, .int (nI b)), (4, .double v9), (6, .int x9), (7, .int (nI k))] [] [] := by
      intro m
      induction m with
      | zero =>
        intro k v9 x9 hk hv9 he
        obtain rfl : k = b := by omega
        rw [dnB] at he
        refine r_iload M dX5_bitsOf_50 rfl ?_
        refine r_iload_n M dX5_bitsOf_52 rfl ?_
        refine r_icmp_ge M 82 dX5_bitsOf_53 (by decide) (fun _ => ?_) (fun h9 => absurd (nI_le (Nat.le_refl _) (by omega)) h9)
        exact fin v9 x9 _ he rfl rfl rfl
      | succ m ih =>
        intro k v9 x9 hk hv9 he
        rw [dnB] at he
        refine r_iload M dX5_bitsOf_50 rfl ?_
        refine r_iload_n M dX5_bitsOf_52 rfl ?_
        refine r_icmp_ge M 82 dX5_bitsOf_53 (by decide) (fun h9 => absurd h9 (nI_ge (by omega) (by omega))) (fun _ => ?_)
        refine r_dload M dX5_bitsOf_56 rfl ?_
        refine r_ldc2d M kc_X5_347 dX5_bitsOf_58 ?_
        refine r_dcmp M dX5_bitsOf_61 ?_
        by_cases hc : Op.cmpValue (FP.dcmp v9 d2c) .l < 0
        · rw [if_pos hc] at he
          refine r_if_lt M 82 dX5_bitsOf_62 (by decide) (fun _ => ?_) (fun h9 => absurd hc h9)
          exact fin v9 x9 _ he rfl rfl rfl
        · rw [if_neg hc] at he
          refine r_if_lt M 82 dX5_bitsOf_62 (by decide) (fun h9 => absurd h9 hc) (fun _ => ?_)
          refine r_dload M dX5_bitsOf_65 rfl ?_
          refine r_ldc2d M kc_X5_347 dX5_bitsOf_67 ?_
          refine r_ddiv M dX5_bitsOf_70 (nn_div2 hv9) ?_
          refine r_dstore M dX5_bitsOf_71 (by decide) ?_
          refine r_iinc1 M dX5_bitsOf_73 rfl (by decide) ?_
          refine r_iinc1 M dX5_bitsOf_76 rfl (by decide) ?_
          refine r_goto M 50 dX5_bitsOf_79 (by decide) ?_
          refine r_lvs M _ (lvs_c rfl (lvs_c rfl (lvs_c rfl (lvs_c rfl (lvs_c ?_ lvs_n))))) (ih (k + 1) _ _ (by omega) (nn_div2 hv9) he)
          rw [← nI_1]; rfl
    have mid : ∀ (v9 : UInt64) (x9 : Int32) (lv : List (Nat × Value)), upB b v (nI b) = (v9, x9) → vf_n64 v9 → lgf lv 2 = some (.int f) → lgf lv 3 = some (.int (nI b)) → lgf lv 4 = some (.double v9) → lgf lv 6 = some (.int x9) → B 47 lv [] [] := by
      intro v9 x9 lv he hv9 l2 l3 l4 l6
      refine r_lvs M [(2, .int f), (3, .int (nI b)), (4, .double v9), (6, .int x9)] (lvs_c l2 (lvs_c l3 (lvs_c l4 (lvs_c l6 lvs_n)))) ?_
      refine r_iconst M 0 dX5_bitsOf_47 (by decide) ?_
      refine r_istore M dX5_bitsOf_48 (by decide) ?_
      exact r_lvs M _ (lvs_c rfl (lvs_c rfl (lvs_c rfl (lvs_c rfl (lvs_c rfl lvs_n))))) (loop2 b 0 v9 x9 (by omega) hv9 (by rw [he]))
    have loop1 : ∀ (m k : Nat) (v9 : UInt64) (x9 : Int32), k + m = b → vf_n64 v9 → upB b v (nI b) = upB m v9 x9 → B 17 [(2, .int f), (3, .int (nI b)), (4, .double v9), (6, .int x9), (7, .int (nI k))] [] [] := by
      intro m
      induction m with
      | zero =>
        intro k v9 x9 hk hv9 he
        obtain rfl : k = b := by omega
        rw [upB] at he
        refine r_iload M dX5_bitsOf_17 rfl ?_
        refine r_iload_n M dX5_bitsOf_19 rfl ?_
        refine r_icmp_ge M 47 dX5_bitsOf_20 (by decide) (fun _ => ?_) (fun h9 => absurd (nI_le (Nat.le_refl _) (by omega)) h9)
        exact mid v9 x9 _ he hv9 rfl rfl rfl rfl
      | succ m ih =>
        intro k v9 x9 hk hv9 he
        rw [upB] at he
        refine r_iload M dX5_bitsOf_17 rfl ?_
        refine r_iload_n M dX5_bitsOf_19 rfl ?_
        refine r_icmp_ge M 47 dX5_bitsOf_20 (by decide) (fun h9 => absurd h9 (nI_ge (by omega) (by omega))) (fun _ => ?_)
        refine r_dload M dX5_bitsOf_23 rfl ?_
        refine r_dconst1 M dX5_bitsOf_25 ?_
        refine r_dcmp M dX5_bitsOf_26 ?_
        by_cases hc : 0 ≤ Op.cmpValue (FP.dcmp v9 FP.dconst1) .g
        · rw [if_pos hc] at he
          refine r_if_ge M 47 dX5_bitsOf_27 (by decide) (fun _ => ?_) (fun h9 => absurd hc h9)
          exact mid v9 x9 _ he hv9 rfl rfl rfl rfl
        · rw [if_neg hc] at he
          refine r_if_ge M 47 dX5_bitsOf_27 (by decide) (fun h9 => absurd h9 hc) (fun _ => ?_)
          refine r_dload M dX5_bitsOf_30 rfl ?_
          refine r_ldc2d M kc_X5_347 dX5_bitsOf_32 ?_
          refine r_dmul M dX5_bitsOf_35 (nn_mul2 hv9) ?_
          refine r_dstore M dX5_bitsOf_36 (by decide) ?_
          refine r_iinc M (x9 + -1) dX5_bitsOf_38 rfl (by decide) rfl ?_
          refine r_iinc1 M dX5_bitsOf_41 rfl (by decide) ?_
          refine r_goto M 17 dX5_bitsOf_44 (by decide) ?_
          refine r_lvs M _ (lvs_c rfl (lvs_c rfl (lvs_c rfl (lvs_c rfl (lvs_c ?_ lvs_n))))) (ih (k + 1) _ _ (by omega) (nn_mul2 hv9) he)
          rw [← nI_1]; rfl
    refine r_if_gt M 8 dX5_bitsOf_3 (by decide) (fun _ => ?_) (fun h9 => absurd hz h9)
    refine r_dload_n M dX5_bitsOf_8 rfl ?_
    refine r_dstore M dX5_bitsOf_9 (by decide) ?_
    refine r_iload_n M dX5_bitsOf_11 rfl ?_
    refine r_istore M dX5_bitsOf_12 (by decide) ?_
    refine r_iconst M 0 dX5_bitsOf_14 (by decide) ?_
    refine r_istore M dX5_bitsOf_15 (by decide) ?_
    exact r_lvs M _ (lvs_c rfl (lvs_c rfl (lvs_c rfl (lvs_c rfl (lvs_c rfl lvs_n))))) (loop1 b 0 v (nI b) (by omega) hv rfl)
  · rw [bitG, if_neg hz] at M
    refine r_if_gt M 8 dX5_bitsOf_3 (by decide) (fun h9 => absurd h9 hz) (fun _ => ?_)
    refine r_lconst M 0 dX5_bitsOf_6 (by decide) ?_
    exact r_lret M dX5_bitsOf_7 rfl rfl rfl


theorem md_toInt {v d : Int32} (hd : 1 ≤ d.toInt) : (md v d).toInt = v.toInt % d.toInt := by
  have h1 : 1 ≤ d := by rw [Int32.le_iff_toInt_le]; exact hd
  have hv1 := Int32.le_toInt v
  have hv2 := Int32.toInt_lt v
  have hd2 := Int32.toInt_lt d
  have hrem : (v - v / d * d).toInt = v.toInt.tmod d.toInt := by
    have hdiv : (v / d).toInt = v.toInt.tdiv d.toInt := by
      rw [Int32.toInt_div]
      apply Int.bmod_eq_of_le
      · have := Int.natAbs_tdiv_le_natAbs v.toInt d.toInt
        omega
      · rcases Int.lt_or_le v.toInt 0 with h | h
        · have h5 := Int.tdiv_nonneg (a := -v.toInt) (b := d.toInt) (by omega) (by omega)
          rw [Int.neg_tdiv] at h5
          omega
        · have := Int.natAbs_tdiv_le_natAbs v.toInt d.toInt
          have := Int.tdiv_nonneg (a := v.toInt) (b := d.toInt) h (by omega)
          omega
    have hm := Int.tmod_add_tdiv_mul v.toInt d.toInt
    rw [Int32.toInt_sub, Int32.toInt_mul, hdiv]
    have hb : v.toInt.tdiv d.toInt * d.toInt = v.toInt - v.toInt.tmod d.toInt := by omega
    rw [hb]
    have hr1 : (v.toInt.tmod d.toInt).natAbs < d.toInt.natAbs := by
      rw [Int.natAbs_tmod]
      exact Nat.mod_lt _ (by omega)
    have e1 : (v.toInt - v.toInt.tmod d.toInt).bmod (2 ^ 32) = v.toInt - v.toInt.tmod d.toInt := by
      apply Int.bmod_eq_of_le
      · rcases Int.lt_or_le v.toInt 0 with h | h
        · have h5 := Int.tmod_nonneg d.toInt (a := -v.toInt) (by omega)
          rw [Int.neg_tmod] at h5
          omega
        · have := Int.tmod_nonneg d.toInt (a := v.toInt) h
          have := Int.tdiv_nonneg (a := v.toInt) (b := d.toInt) h (by omega)
          have : 0 ≤ v.toInt.tdiv d.toInt * d.toInt := Int.mul_nonneg this (by omega)
          omega
      · rcases Int.lt_or_le v.toInt 0 with h | h
        · have h5 := Int.tdiv_nonneg (a := -v.toInt) (b := d.toInt) (by omega) (by omega)
          have h4 := Int.mul_nonneg h5 (show 0 ≤ d.toInt by omega)
          rw [Int.neg_tdiv, Int.neg_mul] at h4
          omega
        · have := Int.tmod_nonneg d.toInt (a := v.toInt) h
          omega
    rw [e1]
    rw [show v.toInt - (v.toInt - v.toInt.tmod d.toInt) = v.toInt.tmod d.toInt by omega]
    apply Int.bmod_eq_of_le <;> omega
  have hr1 : (v.toInt.tmod d.toInt).natAbs < d.toInt.natAbs := by
    rw [Int.natAbs_tmod]
    exact Nat.mod_lt _ (by omega)
  rw [md, if_pos h1]
  have hem := Int.emod_add_mul_ediv v.toInt d.toInt
  split
  · rename_i h0
    rw [Int32.le_iff_toInt_le, hrem] at h0
    have h0 : 0 ≤ v.toInt.tmod d.toInt := h0
    rw [hrem]
    have ht := Int.tmod_add_tdiv_mul v.toInt d.toInt
    have : v.toInt.tmod d.toInt = (v.toInt.tmod d.toInt + d.toInt * v.toInt.tdiv d.toInt) % d.toInt := by
      rw [Int.add_mul_emod_self_left, Int.emod_eq_of_lt h0 (by omega)]
    rw [this]
    congr 1
    rw [Int.mul_comm]; omega
  · rename_i h0
    rw [Int32.le_iff_toInt_le, hrem] at h0
    have h0 : ¬ 0 ≤ v.toInt.tmod d.toInt := h0
    rw [Int32.toInt_add, hrem]
    have ht := Int.tmod_add_tdiv_mul v.toInt d.toInt
    have : v.toInt.tmod d.toInt + d.toInt = (v.toInt.tmod d.toInt + d.toInt + d.toInt * (v.toInt.tdiv d.toInt - 1)) % d.toInt := by
      rw [Int.add_mul_emod_self_left, Int.emod_eq_of_lt (by omega) (by omega)]
    rw [show (v.toInt.tmod d.toInt + d.toInt).bmod (2 ^ 32) = v.toInt.tmod d.toInt + d.toInt from Int.bmod_eq_of_le (by omega) (by omega), this]
    congr 1
    rw [Int.mul_sub, Int.mul_comm]; omega
theorem md_in {v d : Int32} {n : Nat} (hd : d.toInt = n) (h1 : 1 ≤ n) : vp_in (md v d) n := by
  rw [vp_in_iff, md_toInt (by omega), hd]
  exact ⟨Int.emod_nonneg _ (by omega), Int.emod_lt_of_pos _ (by omega)⟩
/-- a State's own cell -/
abbrev SO (fw fst fsc : Value) (sc cr : Int32) (li : Bool) (sf sb se la : Int32) : va_E := .inr (2, [fw, fst, fsc, .int sc, .int cr, .int (b2i li), .int sf, .int sb, .int se, .int la])
theorem c_place (fw fst fsc : Value) (sc cr : Int32) (li : Bool) (sf sb se la : Int32) : Con yX2_place cX2_place 1 (some .int) (rmk 1 22) [.ref 0] [SO fw fst fsc sc cr li sf sb se la] (some (.int (md cr 60))) [SO fw fst fsc sc cr li sf sb se la] := by
  refine Con.of (own := RX2) (by decide) rfl (Nat.le_of_ble_eq_true rfl) rfl (fun B M => ?_)
  refine r_aload_n M dX2_place_0 rfl ?_
  refine r_get M fl_X2_43 dX2_place_1 rfl rfl ?_
  refine r_bipush M 60 dX2_place_4 (by decide) ?_
  refine r_SN2ik M (c_modulo _ _) lk_X2_59 ln_X2_59 dX2_place_6 (by decide +kernel) ⟨Nat.le_of_ble_eq_true rfl, Nat.le_of_ble_eq_true rfl⟩ ⟨rfl, rfl⟩ [] rfl (by decide +kernel) rfl (Nat.le_of_ble_eq_true rfl) ?_
  exact r_iret M dX2_place_9 rfl rfl rfl
/-- the crank is caught -/
def cau (st : Nat → Bool) (cr : Int32) (li : Bool) : Bool := !li && st (md cr 60).toNatClampNeg
abbrev STP (st : Nat → Bool) : va_E := .inl (1, 60, .inl (fun j => b2i (st j)))
theorem c_isCaught (fw fsc : Value) (sc cr : Int32) (li : Bool) (sf sb se la : Int32) (st : Nat → Bool) : Con yX2_isCaught cX2_isCaught 2 (some .boolean) (rmk 2 42) [.ref 0] [SO fw (.ref 1) fsc sc cr li sf sb se la, STP st] (some (.int (b2i (cau st cr li)))) [SO fw (.ref 1) fsc sc cr li sf sb se la, STP st] := by
  refine Con.of (own := RX2) (by decide) rfl (Nat.le_of_ble_eq_true rfl) rfl (fun B M => ?_)
  have hin : vp_in (md cr 60) 60 := md_in rfl (by decide)
  have hin2 := vp_in_iff.mp hin
  refine r_aload_n M dX2_isCaught_0 rfl ?_
  refine r_V0ik M (c_place _ _ _ sc cr li sf sb se la) lk_X2_63 dX2_isCaught_1 (by decide +kernel) ⟨Nat.le_of_ble_eq_true rfl, Nat.le_of_ble_eq_true rfl⟩ ⟨rfl, rfl⟩ [0] rfl rfl rfl (by decide +kernel) rfl (Nat.le_of_ble_eq_true rfl) ?_
  refine r_istore_n M dX2_isCaught_4 (by decide) ?_
  refine r_aload_n M dX2_isCaught_5 rfl ?_
  refine r_get M fl_X2_46 dX2_isCaught_6 rfl rfl ?_
  refine r_if_ne M 35 dX2_isCaught_9 (by decide) (fun h => ?_) (fun h => ?_)
  · rw [b2i_0] at h
    refine r_iconst M 0 dX2_isCaught_35 (by decide) ?_
    exact r_zret M dX2_isCaught_36 rfl rfl (by rw [cau]; simp at h; simp [h]; rfl) rfl
  · rw [b2i_0] at h
    refine r_iload_n M dX2_isCaught_12 rfl ?_
    refine r_if_lt M 35 dX2_isCaught_13 (by decide) (fun h9 => absurd h9 (by rw [ltI0]; omega)) (fun _ => ?_)
    refine r_iload_n M dX2_isCaught_16 rfl ?_
    refine r_bipush M 60 dX2_isCaught_17 (by decide) ?_
    refine r_icmp_ge M 35 dX2_isCaught_19 (by decide) (fun h9 => absurd h9 (by rw [leIc (n := 60) rfl]; omega)) (fun _ => ?_)
    refine r_aload_n M dX2_isCaught_22 rfl ?_
    refine r_get M fl_X2_18 dX2_isCaught_23 rfl rfl ?_
    refine r_iload_n M dX2_isCaught_26 rfl ?_
    refine r_zald M dX2_isCaught_27 rfl hin ?_
    refine r_if_eq M 35 dX2_isCaught_28 (by decide) (fun h2 => ?_) (fun h2 => ?_)
    · rw [b2i_0] at h2
      refine r_iconst M 0 dX2_isCaught_35 (by decide) ?_
      exact r_zret M dX2_isCaught_36 rfl rfl (by rw [cau, h2]; simp; rfl) rfl
    · rw [b2i_0] at h2
      refine r_iconst M 1 dX2_isCaught_31 (by decide) ?_
      refine r_goto M 36 dX2_isCaught_32 (by decide) ?_
      exact r_zret M dX2_isCaught_36 rfl rfl (by rw [cau, h]; simp at h2; rw [h2]; rfl) rfl
theorem c_countStops (fw fsc : Value) (sc cr : Int32) (li : Bool) (sf sb se la : Int32) (st : Nat → Bool) : Con yX2_countStops cX2_countStops 3 (some .int) (rmk 1 20) [.ref 0] [SO fw (.ref 1) fsc sc cr li sf sb se la, STP st] (some (.int (sumf (fun j => b2i (st j)) 60))) [SO fw (.ref 1) fsc sc cr li sf sb se la, STP st] := by
  refine Con.of (own := RX2) (by decide) rfl (Nat.le_of_ble_eq_true rfl) rfl (fun B M => ?_)
  have loop : ∀ n k : Nat, k + n = 60 → B 4 [(0, .ref 0), (1, .int (sumf (fun j => b2i (st j)) k)), (2, .int (nI k))] [] [SO fw (.ref 1) fsc sc cr li sf sb se la, STP st] := by
    intro n
    induction n with
    | zero =>
      intro k hk
      obtain rfl : k = 60 := by omega
      refine r_iload_n M dX2_countStops_4 rfl ?_
      refine r_bipush M 60 dX2_countStops_5 (by decide) ?_
      refine r_icmp_ge M 28 dX2_countStops_7 (by decide) (fun _ => ?_) (fun h9 => absurd (nI_geT (n := 60) rfl (by omega) (by omega)) h9)
      refine r_iload_n M dX2_countStops_28 rfl ?_
      exact r_iret M dX2_countStops_29 rfl rfl rfl
    | succ n ih =>
      intro k hk
      have hc := cl5 k (by omega)
      refine r_iload_n M dX2_countStops_4 rfl ?_
      refine r_bipush M 60 dX2_countStops_5 (by decide) ?_
      refine r_icmp_ge M 28 dX2_countStops_7 (by decide) (fun h9 => absurd h9 (nI_geF (n := 60) rfl (by omega) (by omega))) (fun _ => ?_)
      refine r_iload_n M dX2_countStops_10 rfl ?_
      refine r_aload_n M dX2_countStops_11 rfl ?_
      refine r_get M fl_X2_18 dX2_countStops_12 rfl rfl ?_
      refine r_iload_n M dX2_countStops_15 rfl ?_
      refine r_zald M dX2_countStops_16 rfl (vp_in_nI (by omega) (by omega)) ?_
      rw [hc]
      refine r_SN1ik M (c_toNumber _) lk_X2_67 ln_X2_67 dX2_countStops_17 (by decide +kernel) ⟨Nat.le_of_ble_eq_true rfl, Nat.le_of_ble_eq_true rfl⟩ ⟨rfl, rfl⟩ [] rfl (by decide +kernel) rfl (Nat.le_of_ble_eq_true rfl) ?_
      refine r_iadd M dX2_countStops_20 ?_
      refine r_istore_n M dX2_countStops_21 (by decide) ?_
      refine r_iinc1 M dX2_countStops_22 rfl (by decide) ?_
      refine r_goto M 4 dX2_countStops_25 (by decide) ?_
      refine r_lvs M _ (lvs_c rfl (lvs_c rfl (lvs_c ?_ lvs_n))) (ih (k + 1) (by omega))
      rw [← nI_1]; rfl
  refine r_iconst M 0 dX2_countStops_0 (by decide) ?_
  refine r_istore_n M dX2_countStops_1 (by decide) ?_
  refine r_iconst M 0 dX2_countStops_2 (by decide) ?_
  refine r_istore_n M dX2_countStops_3 (by decide) ?_
  exact r_lvs M _ (lvs_c rfl (lvs_c rfl (lvs_c rfl lvs_n))) (loop 60 0 rfl)
/-- why a step cannot be made: of the picture, or caught, or too far -/
def whyS (flt : Int32) (ca : Bool) (cr d : Int32) : Int32 := if ¬ flt = 0 then flt else if ca = true then 3 else if 9999 < cr + d ∨ cr + d < -9999 then 4 else 0
theorem c_reasonAgainst (fw fsc : Value) (sc cr : Int32) (li : Bool) (sf sb se la : Int32) (st : Nat → Bool) (te to : Nat → Int32) (lo : Nat → Bool) (cra ha he : Nat → Int32) (d : Int32) : Con yX2_reasonAgainst cX2_reasonAgainst 5 (some .int) (rmk 3 68) [.ref 0, .ref 2, .int d] ([SO fw (.ref 1) fsc sc cr li sf sb se la, STP st] ++ WWo 2 te to lo cra ha he) (some (.int (whyS (fltB te to lo he d se) (cau st cr li) cr d))) ([SO fw (.ref 1) fsc sc cr li sf sb se la, STP st] ++ WWo 2 te to lo cra ha he) := by
  refine Con.of (own := RX2) (by decide) rfl (Nat.le_of_ble_eq_true rfl) rfl (fun B M => ?_)
  refine r_aload_n M dX2_reasonAgainst_0 rfl ?_
  refine r_iload_n M dX2_reasonAgainst_1 rfl ?_
  refine r_aload_n M dX2_reasonAgainst_2 rfl ?_
  refine r_get M fl_X2_26 dX2_reasonAgainst_3 rfl rfl ?_
  refine r_V2ik M (c_faultBehind te to lo cra ha he _ _) lk_X2_71 dX2_reasonAgainst_6 (by decide +kernel) ⟨Nat.le_of_ble_eq_true rfl, Nat.le_of_ble_eq_true rfl⟩ ⟨rfl, rfl⟩ [2, 3, 4, 5, 6, 7, 8] rfl rfl rfl (by decide +kernel) rfl (Nat.le_of_ble_eq_true rfl) ?_
  refine r_istore_n M dX2_reasonAgainst_9 (by decide) ?_
  refine r_iload_n M dX2_reasonAgainst_10 rfl ?_
  refine r_if_eq M 16 dX2_reasonAgainst_11 (by decide) (fun h => ?_) (fun h => ?_)
  · refine r_aload_n M dX2_reasonAgainst_16 rfl ?_
    refine r_V0ik M (c_isCaught _ _ sc cr li sf sb se la st) lk_X2_74 dX2_reasonAgainst_17 (by decide +kernel) ⟨Nat.le_of_ble_eq_true rfl, Nat.le_of_ble_eq_true rfl⟩ ⟨rfl, rfl⟩ [0, 1] rfl rfl rfl (by decide +kernel) rfl (Nat.le_of_ble_eq_true rfl) ?_
    refine r_if_eq M 25 dX2_reasonAgainst_20 (by decide) (fun h2 => ?_) (fun h2 => ?_)
    · rw [b2i_0] at h2
      refine r_aload_n M dX2_reasonAgainst_25 rfl ?_
      refine r_get M fl_X2_43 dX2_reasonAgainst_26 rfl rfl ?_
      refine r_iload_n M dX2_reasonAgainst_29 rfl ?_
      refine r_iadd M dX2_reasonAgainst_30 ?_
      refine r_istore M dX2_reasonAgainst_31 (by decide) ?_
      refine r_iload M dX2_reasonAgainst_33 rfl ?_
      refine r_sipush M 9999 dX2_reasonAgainst_35 (by decide) ?_
      refine r_icmp_gt M 49 dX2_reasonAgainst_38 (by decide) (fun h3 => ?_) (fun h3 => ?_)
      · refine r_iconst M 4 dX2_reasonAgainst_49 (by decide) ?_
        refine r_goto M 54 dX2_reasonAgainst_50 (by decide) ?_
        exact r_iret M dX2_reasonAgainst_54 rfl (by rw [whyS, if_neg (by simpa using h), if_neg (by rw [h2]; decide), if_pos (Or.inl h3)]) rfl
      · refine r_iload M dX2_reasonAgainst_41 rfl ?_
        refine r_sipush M (-9999) dX2_reasonAgainst_43 (by decide) ?_
        refine r_icmp_ge M 53 dX2_reasonAgainst_46 (by decide) (fun h4 => ?_) (fun h4 => ?_)
        · refine r_iconst M 0 dX2_reasonAgainst_53 (by decide) ?_
          exact r_iret M dX2_reasonAgainst_54 rfl (by rw [whyS, if_neg (by simpa using h), if_neg (by rw [h2]; decide), if_neg (by rintro (q | q); exact h3 q; exact Int32.not_lt.mpr h4 q)]) rfl
        · refine r_iconst M 4 dX2_reasonAgainst_49 (by decide) ?_
          refine r_goto M 54 dX2_reasonAgainst_50 (by decide) ?_
          exact r_iret M dX2_reasonAgainst_54 rfl (by rw [whyS, if_neg (by simpa using h), if_neg (by rw [h2]; decide), if_pos (Or.inr (Int32.not_le.mp h4))]) rfl
    · rw [b2i_0] at h2
      refine r_iconst M 3 dX2_reasonAgainst_23 (by decide) ?_
      exact r_iret M dX2_reasonAgainst_24 rfl (by rw [whyS, if_neg (by simpa using h), if_pos (by simpa using h2)]) rfl
  · refine r_iload_n M dX2_reasonAgainst_14 rfl ?_
    exact r_iret M dX2_reasonAgainst_15 rfl (by rw [whyS, if_pos h]) rfl


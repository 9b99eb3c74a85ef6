section
variable (fw fst fsc : Value) (sc cr : Int32) (li : Bool) (sf sb se la : Int32) (st : Nat → Bool) (scn : Nat → Int32) (te to : Nat → Int32) (lo : Nat → Bool) (cra ha he : Nat → Int32)
abbrev SCN (scn : Nat → Int32) : va_E := .inl (0, 30, .inl scn)
/-- a height in a scene; 0 where there is no such place -/
def hSc (scn : Nat → Int32) (a w : Int32) : Int32 := if (0 ≤ a.toInt ∧ a.toInt < (6 : Nat)) ∧ (0 ≤ w.toInt ∧ w.toInt < (5 : Nat)) then scn (a * 5 + w).toNatClampNeg else 0
theorem iswh_iff {x : Int32} : iswh x = true ↔ vp_in x 5 := by rw [vp_in_iff, iswh, decide_eq_true_iff]; exact Iff.rfl
theorem sc_in {a w : Int32} (ha : vp_in a 6) (hw : vp_in w 5) : vp_in (a * 5 + w) 30 := by
  obtain ⟨i, hi, rfl⟩ := vp_in_of ha (by omega)
  obtain ⟨j, hj, rfl⟩ := vp_in_of hw (by omega)
  rw [show (5 : Int32) = nI 5 from rfl, pk_mul, nI_add]
  exact vp_in_nI (by omega) (by omega)
theorem c_heightInScene (a w : Int32) : Con yX2_heightInScene cX2_heightInScene 4 (some .int) (rmk 1 20) [.ref 0, .int a, .int w] [SO fw fst (.ref 1) sc cr li sf sb se la, SCN scn] (some (.int (hSc scn a w))) [SO fw fst (.ref 1) sc cr li sf sb se la, SCN scn] := by
  refine Con.of (own := RX2) (by decide) rfl (Nat.le_of_ble_eq_true rfl) rfl (fun B M => ?_)
  have no : ¬ (vp_in a 6 ∧ vp_in w 5) → B 21 [(0, .ref 0), (1, .int a), (2, .int w)] [] [SO fw fst (.ref 1) sc cr li sf sb se la, SCN scn] := by
    intro h
    refine r_iconst M 0 dX2_heightInScene_21 (by decide) ?_
    refine r_istore_n M dX2_heightInScene_22 (by decide) ?_
    refine r_iload_n M dX2_heightInScene_23 rfl ?_
    refine r_if_eq M 40 dX2_heightInScene_24 (by decide) (fun _ => ?_) (fun h9 => absurd rfl h9)
    refine r_iconst M 0 dX2_heightInScene_40 (by decide) ?_
    exact r_iret M dX2_heightInScene_41 rfl (by rw [hSc, if_neg (by rw [← vp_in_iff, ← vp_in_iff]; exact h)]) rfl
  refine r_iload_n M dX2_heightInScene_0 rfl ?_
  refine r_if_lt M 21 dX2_heightInScene_1 (by decide) (fun h1 => ?_) (fun h1 => ?_)
  · rw [ltI0] at h1
    exact no (fun z => by have := vp_in_iff.mp z.1; omega)
  · rw [ltI0] at h1
    refine r_iload_n M dX2_heightInScene_4 rfl ?_
    refine r_bipush M 6 dX2_heightInScene_5 (by decide) ?_
    refine r_icmp_ge M 21 dX2_heightInScene_7 (by decide) (fun h2 => ?_) (fun h2 => ?_)
    · rw [leIc (n := 6) rfl] at h2
      exact no (fun z => by have := vp_in_iff.mp z.1; omega)
    · rw [leIc (n := 6) rfl] at h2
      refine r_iload_n M dX2_heightInScene_10 rfl ?_
      refine r_SN1ik M (c_isWheel _) lk_X2_85 ln_X2_85 dX2_heightInScene_11 (by decide +kernel) ⟨Nat.le_of_ble_eq_true rfl, Nat.le_of_ble_eq_true rfl⟩ ⟨rfl, rfl⟩ [] rfl (by decide +kernel) rfl (Nat.le_of_ble_eq_true rfl) ?_
      refine r_if_eq M 21 dX2_heightInScene_14 (by decide) (fun h3 => ?_) (fun h3 => ?_)
      · rw [b2i_0] at h3
        exact no (fun z => by have := iswh_iff.mpr z.2; rw [h3] at this; cases this)
      · rw [b2i_0] at h3
        have hw : vp_in w 5 := iswh_iff.mp (by simpa using h3)
        have ha : vp_in a 6 := vp_in_iff.mpr ⟨by omega, by omega⟩
        refine r_iconst M 1 dX2_heightInScene_17 (by decide) ?_
        refine r_goto M 22 dX2_heightInScene_18 (by decide) ?_
        refine r_istore_n M dX2_heightInScene_22 (by decide) ?_
        refine r_iload_n M dX2_heightInScene_23 rfl ?_
        refine r_if_eq M 40 dX2_heightInScene_24 (by decide) (fun h9 => absurd h9 (by decide)) (fun _ => ?_)
        refine r_aload_n M dX2_heightInScene_27 rfl ?_
        refine r_get M fl_X2_22 dX2_heightInScene_28 rfl rfl ?_
        refine r_iload_n M dX2_heightInScene_31 rfl ?_
        refine r_iconst M 5 dX2_heightInScene_32 (by decide) ?_
        refine r_imul M dX2_heightInScene_33 ?_
        refine r_iload_n M dX2_heightInScene_34 rfl ?_
        refine r_iadd M dX2_heightInScene_35 ?_
        refine r_iald M dX2_heightInScene_36 rfl (sc_in ha hw) ?_
        refine r_goto M 41 dX2_heightInScene_37 (by decide) ?_
        exact r_iret M dX2_heightInScene_41 rfl (by rw [hSc, if_pos (by rw [← vp_in_iff, ← vp_in_iff]; exact ⟨ha, hw⟩)]) rfl
theorem c_faultOfScene (a : Int32) : Con yX2_faultOfScene cX2_faultOfScene 2 (some .int) (rmk 2 43) [.ref 0, .int a] [SO fw fst (.ref 1) sc cr li sf sb se la, SCN scn] (some (.int (fltOf (hSc scn a 0) (hSc scn a 1) (hSc scn a 2) (hSc scn a 3) (hSc scn a 4) se))) [SO fw fst (.ref 1) sc cr li sf sb se la, SCN scn] := by
  refine Con.of (own := RX2) (by decide) rfl (Nat.le_of_ble_eq_true rfl) rfl (fun B M => ?_)
  refine r_aload_n M dX2_faultOfScene_0 rfl ?_
  refine r_iload_n M dX2_faultOfScene_1 rfl ?_
  refine r_iconst M 0 dX2_faultOfScene_2 (by decide) ?_
  refine r_V2ik M (c_heightInScene _ _ sc cr li sf sb se la scn _ _) lk_X2_89 dX2_faultOfScene_3 (by decide +kernel) ⟨Nat.le_of_ble_eq_true rfl, Nat.le_of_ble_eq_true rfl⟩ ⟨rfl, rfl⟩ [0, 1] rfl rfl rfl (by decide +kernel) rfl (Nat.le_of_ble_eq_true rfl) ?_
  refine r_aload_n M dX2_faultOfScene_6 rfl ?_
  refine r_iload_n M dX2_faultOfScene_7 rfl ?_
  refine r_iconst M 1 dX2_faultOfScene_8 (by decide) ?_
  refine r_V2ik M (c_heightInScene _ _ sc cr li sf sb se la scn _ _) lk_X2_89 dX2_faultOfScene_9 (by decide +kernel) ⟨Nat.le_of_ble_eq_true rfl, Nat.le_of_ble_eq_true rfl⟩ ⟨rfl, rfl⟩ [0, 1] rfl rfl rfl (by decide +kernel) rfl (Nat.le_of_ble_eq_true rfl) ?_
  refine r_aload_n M dX2_faultOfScene_12 rfl ?_
  refine r_iload_n M dX2_faultOfScene_13 rfl ?_
  refine r_iconst M 2 dX2_faultOfScene_14 (by decide) ?_
  refine r_V2ik M (c_heightInScene _ _ sc cr li sf sb se la scn _ _) lk_X2_89 dX2_faultOfScene_15 (by decide +kernel) ⟨Nat.le_of_ble_eq_true rfl, Nat.le_of_ble_eq_true rfl⟩ ⟨rfl, rfl⟩ [0, 1] rfl rfl rfl (by decide +kernel) rfl (Nat.le_of_ble_eq_true rfl) ?_
  refine r_aload_n M dX2_faultOfScene_18 rfl ?_
  refine r_iload_n M dX2_faultOfScene_19 rfl ?_
  refine r_iconst M 3 dX2_faultOfScene_20 (by decide) ?_
  refine r_V2ik M (c_heightInScene _ _ sc cr li sf sb se la scn _ _) lk_X2_89 dX2_faultOfScene_21 (by decide +kernel) ⟨Nat.le_of_ble_eq_true rfl, Nat.le_of_ble_eq_true rfl⟩ ⟨rfl, rfl⟩ [0, 1] rfl rfl rfl (by decide +kernel) rfl (Nat.le_of_ble_eq_true rfl) ?_
  refine r_aload_n M dX2_faultOfScene_24 rfl ?_
  refine r_iload_n M dX2_faultOfScene_25 rfl ?_
  refine r_iconst M 4 dX2_faultOfScene_26 (by decide) ?_
  refine r_V2ik M (c_heightInScene _ _ sc cr li sf sb se la scn _ _) lk_X2_89 dX2_faultOfScene_27 (by decide +kernel) ⟨Nat.le_of_ble_eq_true rfl, Nat.le_of_ble_eq_true rfl⟩ ⟨rfl, rfl⟩ [0, 1] rfl rfl rfl (by decide +kernel) rfl (Nat.le_of_ble_eq_true rfl) ?_
  refine r_aload_n M dX2_faultOfScene_30 rfl ?_
  refine r_get M fl_X2_26 dX2_faultOfScene_31 rfl rfl ?_
  refine r_SN6ik M (c_faultOf _ _ _ _ _ _) lk_X2_92 ln_X2_92 dX2_faultOfScene_34 (by decide +kernel) ⟨Nat.le_of_ble_eq_true rfl, Nat.le_of_ble_eq_true rfl⟩ ⟨rfl, rfl⟩ [] rfl (by decide +kernel) rfl (Nat.le_of_ble_eq_true rfl) ?_
  exact r_iret M dX2_faultOfScene_37 rfl rfl rfl
/-- the picture behind some steps is as a scene -/
def asSc (te to : Nat → Int32) (lo : Nat → Bool) (he scn : Nat → Int32) (a d : Int32) : Bool := eqf (fun k => hB te to lo he (nI k) d) (fun k => hSc scn a (nI k)) 5
theorem c_isSceneBehind (a d : Int32) : Con yX2_isSceneBehind cX2_isSceneBehind 4 (some .boolean) (rmk 2 46) [.ref 0, .int a, .int d] ([SO (.ref 2) fst (.ref 1) sc cr li sf sb se la, SCN scn] ++ WWo 2 te to lo cra ha he) (some (.int (b2i (asSc te to lo he scn a d)))) ([SO (.ref 2) fst (.ref 1) sc cr li sf sb se la, SCN scn] ++ WWo 2 te to lo cra ha he) := by
  refine Con.of (own := RX2) (by decide) rfl (Nat.le_of_ble_eq_true rfl) rfl (fun B M => ?_)
  have loop : ∀ n k : Nat, k + n = 5 → (∀ j, j < k → hB te to lo he (nI j) d = hSc scn a (nI j)) → B 2 [(0, .ref 0), (1, .int a), (2, .int d), (3, .int (nI k))] [] ([SO (.ref 2) fst (.ref 1) sc cr li sf sb se la, SCN scn] ++ WWo 2 te to lo cra ha he) := by
    intro n
    induction n with
    | zero =>
      intro k hk hj
      obtain rfl : k = 5 := by omega
      refine r_iload_n M dX2_isSceneBehind_2 rfl ?_
      refine r_iconst M 5 dX2_isSceneBehind_3 (by decide) ?_
      refine r_icmp_ge M 33 dX2_isSceneBehind_4 (by decide) (fun _ => ?_) (fun h9 => absurd (nI_geT (n := 5) rfl (by omega) (by omega)) h9)
      refine r_iconst M 1 dX2_isSceneBehind_33 (by decide) ?_
      exact r_zret M dX2_isSceneBehind_34 rfl rfl (by rw [asSc, eqf_iff.mpr hj]; rfl) rfl
    | succ n ih =>
      intro k hk hj
      have hv := nI5 k (by omega)
      refine r_iload_n M dX2_isSceneBehind_2 rfl ?_
      refine r_iconst M 5 dX2_isSceneBehind_3 (by decide) ?_
      refine r_icmp_ge M 33 dX2_isSceneBehind_4 (by decide) (fun h9 => absurd h9 (nI_geF (n := 5) rfl (by omega) (by omega))) (fun _ => ?_)
      refine r_aload_n M dX2_isSceneBehind_7 rfl ?_
      refine r_get M fl_X2_12 dX2_isSceneBehind_8 rfl rfl ?_
      refine r_iload_n M dX2_isSceneBehind_11 rfl ?_
      refine r_iload_n M dX2_isSceneBehind_12 rfl ?_
      refine r_V2ik M (c_heightBehind te to lo cra ha he _ _ hv) lk_X2_82 dX2_isSceneBehind_13 (by decide +kernel) ⟨Nat.le_of_ble_eq_true rfl, Nat.le_of_ble_eq_true rfl⟩ ⟨rfl, rfl⟩ [2, 3, 4, 5, 6, 7, 8] rfl rfl rfl (by decide +kernel) rfl (Nat.le_of_ble_eq_true rfl) ?_
      refine r_aload_n M dX2_isSceneBehind_16 rfl ?_
      refine r_iload_n M dX2_isSceneBehind_17 rfl ?_
      refine r_iload_n M dX2_isSceneBehind_18 rfl ?_
      refine r_V2ik M (c_heightInScene _ _ sc cr li sf sb se la scn _ _) lk_X2_89 dX2_isSceneBehind_19 (by decide +kernel) ⟨Nat.le_of_ble_eq_true rfl, Nat.le_of_ble_eq_true rfl⟩ ⟨rfl, rfl⟩ [0, 1] rfl rfl rfl (by decide +kernel) rfl (Nat.le_of_ble_eq_true rfl) ?_
      refine r_icmp_eq M 27 dX2_isSceneBehind_22 (by decide) (fun h => ?_) (fun h => ?_)
      · refine r_iinc1 M dX2_isSceneBehind_27 rfl (by decide) ?_
        refine r_goto M 2 dX2_isSceneBehind_30 (by decide) ?_
        refine r_lvs M _ (lvs_c rfl (lvs_c rfl (lvs_c rfl (lvs_c ?_ lvs_n)))) (ih (k + 1) (by omega) (fun j h9 => ?_))
        · rw [← nI_1]; rfl
        · rcases Nat.lt_succ_iff_lt_or_eq.mp h9 with h8 | h8
          · exact hj j h8
          · rw [h8]; exact h
      · refine r_iconst M 0 dX2_isSceneBehind_25 (by decide) ?_
        exact r_zret M dX2_isSceneBehind_26 rfl rfl (by rw [asSc, Bool.eq_false_iff.mpr (fun h9 => h (eqf_iff.mp h9 k (by omega)))]; rfl) rfl
  refine r_iconst M 0 dX2_isSceneBehind_0 (by decide) ?_
  refine r_istore_n M dX2_isSceneBehind_1 (by decide) ?_
  exact r_lvs M _ (lvs_c rfl (lvs_c rfl (lvs_c rfl (lvs_c rfl lvs_n)))) (loop 5 0 rfl (fun j h => absurd h (Nat.not_lt_zero j)))
/-- k heights f put as scene c -/
def addK (scn : Nat → Int32) (c : Nat) (f : Nat → Int32) (k : Nat) : Nat → Int32 := fun j => if c * 5 ≤ j ∧ j < c * 5 + k then f (j - c * 5) else scn j
theorem addK_0 (scn : Nat → Int32) (c : Nat) (f : Nat → Int32) : addK scn c f 0 = scn := by
  funext j
  rw [addK, if_neg (by omega)]
theorem addK_upd (scn : Nat → Int32) (c : Nat) (f : Nat → Int32) (k : Nat) : upd (addK scn c f k) (c * 5 + k) (f k) = addK scn c f (k + 1) := by
  funext j
  simp only [upd, addK]
  by_cases h : j = c * 5 + k
  · subst h
    rw [if_pos rfl, if_pos (by omega)]
    congr 1
    omega
  · rw [if_neg h]
    by_cases h2 : c * 5 ≤ j ∧ j < c * 5 + k
    · rw [if_pos h2, if_pos (by omega)]
    · rw [if_neg h2, if_neg (by omega)]
abbrev SWo (b : Nat) (te to : Nat → Int32) (lo : Nat → Bool) (cra ha he : Nat → Int32) (st : Nat → Bool) (scn : Nat → Int32) (sc cr : Int32) (li : Bool) (sf sb se la : Int32) : List va_E := [SO (.ref (b + 3)) (.ref (b + 1)) (.ref (b + 2)) sc cr li sf sb se la, STP st, SCN scn, .inr (4, [.ref (b + 4), .ref (b + 5), .ref (b + 6), .ref (b + 7), .ref (b + 8), .ref (b + 9)]), .inl (0, 5, .inl te), .inl (0, 5, .inl to), .inl (1, 5, .inl (fun j => b2i (lo j))), .inl (0, 5, .inl cra), .inl (0, 5, .inl ha), .inl (0, 60, .inl he)]
theorem c_addScene (c : Nat) (hc : c < 6) (hsc : sc = nI c) : Con yX2_addScene cX2_addScene 2 none (rmk 2 46) [.ref 0] (SWo 0 te to lo cra ha he st scn sc cr li sf sb se la) none (SWo 0 te to lo cra ha he st (addK scn c (fun w => hB te to lo he (nI w) 0) 5) (sc + 1) cr li sf sb se la) := by
  refine Con.of (own := RX2) (by decide) rfl (Nat.le_of_ble_eq_true rfl) rfl (fun B M => ?_)
  have loop : ∀ n k : Nat, k + n = 5 → B 19 [(0, .ref 0), (1, .int (nI k))] [] (SWo 0 te to lo cra ha he st (addK scn c (fun w => hB te to lo he (nI w) 0) k) sc cr li sf sb se la) := by
    intro n
    induction n with
    | zero =>
      intro k hk
      obtain rfl : k = 5 := by omega
      refine r_iload_n M dX2_addScene_19 rfl ?_
      refine r_iconst M 5 dX2_addScene_20 (by decide) ?_
      refine r_icmp_ge M 52 dX2_addScene_21 (by decide) (fun _ => ?_) (fun h9 => absurd (nI_geT (n := 5) rfl (by omega) (by omega)) h9)
      refine r_aload_n M dX2_addScene_52 rfl ?_
      refine r_dup M dX2_addScene_53 rfl ?_
      refine r_get M fl_X2_40 dX2_addScene_54 rfl rfl ?_
      refine r_iconst M 1 dX2_addScene_57 (by decide) ?_
      refine r_iadd M dX2_addScene_58 ?_
      refine r_put M fl_X2_40 ff_2_3 dX2_addScene_59 rfl rfl rfl (fun _ => rfl) (Nat.le_of_ble_eq_true rfl) ?_
      exact r_vret M dX2_addScene_62 rfl rfl rfl
    | succ n ih =>
      intro k hk
      have hv := nI5 k (by omega)
      have e1 : sc * 5 + nI k = nI (c * 5 + k) := by rw [hsc, show (5 : Int32) = nI 5 from rfl, pk_mul, nI_add]
      refine r_iload_n M dX2_addScene_19 rfl ?_
      refine r_iconst M 5 dX2_addScene_20 (by decide) ?_
      refine r_icmp_ge M 52 dX2_addScene_21 (by decide) (fun h9 => absurd h9 (nI_geF (n := 5) rfl (by omega) (by omega))) (fun _ => ?_)
      refine r_aload_n M dX2_addScene_24 rfl ?_
      refine r_get M fl_X2_22 dX2_addScene_25 rfl rfl ?_
      refine r_aload_n M dX2_addScene_28 rfl ?_
      refine r_get M fl_X2_40 dX2_addScene_29 rfl rfl ?_
      refine r_iconst M 5 dX2_addScene_32 (by decide) ?_
      refine r_imul M dX2_addScene_33 ?_
      refine r_iload_n M dX2_addScene_34 rfl ?_
      refine r_iadd M dX2_addScene_35 ?_
      refine r_aload_n M dX2_addScene_36 rfl ?_
      refine r_get M fl_X2_12 dX2_addScene_37 rfl rfl ?_
      refine r_iload_n M dX2_addScene_40 rfl ?_
      refine r_iconst M 0 dX2_addScene_41 (by decide) ?_
      refine r_V2ik M (c_heightBehind te to lo cra ha he _ _ hv) lk_X2_82 dX2_addScene_42 (by decide +kernel) ⟨Nat.le_of_ble_eq_true rfl, Nat.le_of_ble_eq_true rfl⟩ ⟨rfl, rfl⟩ [3, 4, 5, 6, 7, 8, 9] rfl rfl rfl (by decide +kernel) rfl (Nat.le_of_ble_eq_true rfl) ?_
      refine r_iast M dX2_addScene_45 rfl (by rw [e1]; exact vp_in_nI (by omega) (by omega)) ?_
      rw [e1, nI_clamp (by omega), addK_upd scn c (fun w => hB te to lo he (nI w) 0)]
      refine r_iinc1 M dX2_addScene_46 rfl (by decide) ?_
      refine r_goto M 19 dX2_addScene_49 (by decide) ?_
      refine r_lvs M _ (lvs_c rfl (lvs_c ?_ lvs_n)) (ih (k + 1) (by omega))
      rw [← nI_1]; rfl
  have l0 := loop 5 0 rfl
  rw [addK_0] at l0
  refine r_aload_n M dX2_addScene_0 rfl ?_
  refine r_get M fl_X2_40 dX2_addScene_1 rfl rfl ?_
  refine r_if_lt M 16 dX2_addScene_4 (by decide) (fun h9 => absurd h9 (by rw [hsc]; exact nI_pos (by omega))) (fun _ => ?_)
  refine r_aload_n M dX2_addScene_7 rfl ?_
  refine r_get M fl_X2_40 dX2_addScene_8 rfl rfl ?_
  refine r_bipush M 6 dX2_addScene_11 (by decide) ?_
  refine r_icmp_lt M 17 dX2_addScene_13 (by decide) (fun _ => ?_) (fun h9 => absurd (by rw [hsc]; exact (nI_ltI (b := 6) (by omega) (by omega)).mpr hc) h9)
  refine r_iconst M 0 dX2_addScene_17 (by decide) ?_
  refine r_istore_n M dX2_addScene_18 (by decide) ?_
  exact r_lvs M _ (lvs_c rfl (lvs_c rfl lvs_n)) l0
/-- scene a taken out; those behind it, up to scene k - 1, moved -/
def dropK (scn : Nat → Int32) (a k : Nat) : Nat → Int32 := fun j => if a * 5 ≤ j ∧ j < (k - 1) * 5 then scn (j + 5) else scn j
theorem dropK_0 (scn : Nat → Int32) (a : Nat) : dropK scn a (a + 1) = scn := by
  funext j
  rw [dropK, if_neg (by omega)]
theorem dropK_cpy (scn : Nat → Int32) (a k : Nat) (h : a < k) : va_cpy (dropK scn a k) (dropK scn a k) (k * 5) ((k - 1) * 5) 5 = dropK scn a (k + 1) := by
  funext j
  simp only [va_cpy]
  by_cases h1 : (k - 1) * 5 ≤ j ∧ j < (k - 1) * 5 + 5
  · rw [if_pos h1]
    simp only [dropK]
    rw [if_neg (by omega), if_pos (by omega)]
    congr 1
    omega
  · rw [if_neg h1]
    simp only [dropK]
    by_cases h2 : a * 5 ≤ j ∧ j < (k - 1) * 5
    · rw [if_pos h2, if_pos (by omega)]
    · rw [if_neg h2, if_neg (by omega)]
theorem c_dropScene (a c : Nat) (hac : a < c) (hc : c ≤ 6) (hsc : sc = nI c) : Con yX2_dropScene cX2_dropScene 3 none (rmk 1 40) [.ref 0, .int (nI a)] (SWo 0 te to lo cra ha he st scn sc cr li sf sb se la) none (SWo 0 te to lo cra ha he st (dropK scn a c) (sc - 1) cr li sf sb se la) := by
  subst hsc
  refine Con.of (own := RX2) (by decide) rfl (Nat.le_of_ble_eq_true rfl) rfl (fun B M => ?_)
  have loop : ∀ n k : Nat, k + n = c → a < k → B 4 [(0, .ref 0), (1, .int (nI a)), (2, .int (nI k))] [] (SWo 0 te to lo cra ha he st (dropK scn a k) (nI c) cr li sf sb se la) := by
    intro n
    induction n with
    | zero =>
      intro k hk ha
      obtain rfl : k = c := by omega
      refine r_iload_n M dX2_dropScene_4 rfl ?_
      refine r_aload_n M dX2_dropScene_5 rfl ?_
      refine r_get M fl_X2_40 dX2_dropScene_6 rfl rfl ?_
      refine r_icmp_ge M 38 dX2_dropScene_9 (by decide) (fun _ => ?_) (fun h9 => absurd (nI_le (Nat.le_refl _) (by omega)) h9)
      refine r_aload_n M dX2_dropScene_38 rfl ?_
      refine r_dup M dX2_dropScene_39 rfl ?_
      refine r_get M fl_X2_40 dX2_dropScene_40 rfl rfl ?_
      refine r_iconst M 1 dX2_dropScene_43 (by decide) ?_
      refine r_isub M dX2_dropScene_44 ?_
      refine r_put M fl_X2_40 ff_2_3 dX2_dropScene_45 rfl rfl rfl (fun _ => rfl) (Nat.le_of_ble_eq_true rfl) ?_
      exact r_vret M dX2_dropScene_48 rfl rfl rfl
    | succ n ih =>
      intro k hk ha
      have e5 : (5 : Int32).toNatClampNeg = 5 := rfl
      have e1 : nI k * 5 = nI (k * 5) := by rw [show (5 : Int32) = nI 5 from rfl, pk_mul]
      have e2 : (nI k - 1) * 5 = nI ((k - 1) * 5) := by rw [show (1 : Int32) = nI 1 from rfl, pk_sub (by omega), show (5 : Int32) = nI 5 from rfl, pk_mul]
      refine r_iload_n M dX2_dropScene_4 rfl ?_
      refine r_aload_n M dX2_dropScene_5 rfl ?_
      refine r_get M fl_X2_40 dX2_dropScene_6 rfl rfl ?_
      refine r_icmp_ge M 38 dX2_dropScene_9 (by decide) (fun h9 => absurd h9 (nI_ge (by omega) (by omega))) (fun _ => ?_)
      refine r_aload_n M dX2_dropScene_12 rfl ?_
      refine r_get M fl_X2_22 dX2_dropScene_13 rfl rfl ?_
      refine r_iload_n M dX2_dropScene_16 rfl ?_
      refine r_iconst M 5 dX2_dropScene_17 (by decide) ?_
      refine r_imul M dX2_dropScene_18 ?_
      refine r_aload_n M dX2_dropScene_19 rfl ?_
      refine r_get M fl_X2_22 dX2_dropScene_20 rfl rfl ?_
      refine r_iload_n M dX2_dropScene_23 rfl ?_
      refine r_iconst M 1 dX2_dropScene_24 (by decide) ?_
      refine r_isub M dX2_dropScene_25 ?_
      refine r_iconst M 5 dX2_dropScene_26 (by decide) ?_
      refine r_imul M dX2_dropScene_27 ?_
      refine r_iconst M 5 dX2_dropScene_28 (by decide) ?_
      rw [e1, e2]
      refine r_copy M lk_X2_34 dX2_dropScene_29 rfl rfl (nI_pos (by omega)) (nI_pos (by omega)) (by decide) (by rw [nI_clamp (by omega), e5]; omega) (by rw [nI_clamp (by omega), e5]; omega) (by decide) (by decide) ?_
      rw [nI_clamp (by omega), nI_clamp (by omega), e5, dropK_cpy _ _ _ ha]
      refine r_iinc1 M dX2_dropScene_32 rfl (by decide) ?_
      refine r_goto M 4 dX2_dropScene_35 (by decide) ?_
      refine r_lvs M _ (lvs_c rfl (lvs_c rfl (lvs_c ?_ lvs_n))) (ih (k + 1) (by omega) (by omega))
      rw [← nI_1]; rfl
  have l0 := loop (c - (a + 1)) (a + 1) (by omega) (by omega)
  rw [dropK_0] at l0
  refine r_iload_n M dX2_dropScene_0 rfl ?_
  refine r_iconst M 1 dX2_dropScene_1 (by decide) ?_
  refine r_iadd M dX2_dropScene_2 ?_
  refine r_istore_n M dX2_dropScene_3 (by decide) ?_
  refine r_lvs M _ (lvs_c rfl (lvs_c rfl (lvs_c ?_ lvs_n))) l0
  rw [← nI_1]; rfl
theorem c_makeStep (d : Int32) : Con yX2_makeStep cX2_makeStep 2 none (rmk 2 44) [.ref 0, .int d] (SWo 0 te to lo cra ha he st scn sc cr li sf sb se la) none (SWo 0 te (tLk te to lo d) lo (cLk lo cra d) ha he st scn sc (cr + d) false (if 0 < d then sf + 1 else sf) (if 0 < d then sb else sb + 1) se la) := by
  refine Con.of (own := RX2) (by decide) rfl (Nat.le_of_ble_eq_true rfl) rfl (fun B M => ?_)
  refine r_aload_n M dX2_makeStep_0 rfl ?_
  refine r_get M fl_X2_12 dX2_makeStep_1 rfl rfl ?_
  refine r_iload_n M dX2_makeStep_4 rfl ?_
  refine r_V1vu (w' :=  SWo 0 te (tLk te to lo d) lo (cLk lo cra d) ha he st scn sc cr li sf sb se la) M (c_turnLocked te to lo cra ha he d) lk_X2_78 dX2_makeStep_5 (by decide +kernel) ⟨Nat.le_of_ble_eq_true rfl, Nat.le_of_ble_eq_true rfl⟩ ⟨rfl, rfl⟩ [3, 4, 5, 6, 7, 8, 9] rfl rfl rfl (by decide +kernel) rfl (Nat.le_of_ble_eq_true rfl) rfl ?_
  refine r_aload_n M dX2_makeStep_8 rfl ?_
  refine r_dup M dX2_makeStep_9 rfl ?_
  refine r_get M fl_X2_43 dX2_makeStep_10 rfl rfl ?_
  refine r_iload_n M dX2_makeStep_13 rfl ?_
  refine r_iadd M dX2_makeStep_14 ?_
  refine r_put M fl_X2_43 ff_2_4 dX2_makeStep_15 rfl rfl rfl (fun _ => rfl) (Nat.le_of_ble_eq_true rfl) ?_
  refine r_aload_n M dX2_makeStep_18 rfl ?_
  refine r_iconst M 0 dX2_makeStep_19 (by decide) ?_
  refine r_put M fl_X2_46 ff_2_5 dX2_makeStep_20 rfl rfl rfl (fun _ => rfl) (Nat.le_of_ble_eq_true rfl) ?_
  refine r_iload_n M dX2_makeStep_23 rfl ?_
  refine r_if_le M 40 dX2_makeStep_24 (by decide) (fun h => ?_) (fun h => ?_)
  · rw [if_neg (by rwa [Int32.not_lt]), if_neg (by rwa [Int32.not_lt])] at M
    refine r_aload_n M dX2_makeStep_40 rfl ?_
    refine r_dup M dX2_makeStep_41 rfl ?_
    refine r_get M fl_X2_53 dX2_makeStep_42 rfl rfl ?_
    refine r_iconst M 1 dX2_makeStep_45 (by decide) ?_
    refine r_iadd M dX2_makeStep_46 ?_
    refine r_put M fl_X2_53 ff_2_7 dX2_makeStep_47 rfl rfl rfl (fun _ => rfl) (Nat.le_of_ble_eq_true rfl) ?_
    exact r_vret M dX2_makeStep_50 rfl rfl rfl
  · rw [if_pos (by rwa [Int32.not_le] at h), if_pos (by rwa [Int32.not_le] at h)] at M
    refine r_aload_n M dX2_makeStep_27 rfl ?_
    refine r_dup M dX2_makeStep_28 rfl ?_
    refine r_get M fl_X2_50 dX2_makeStep_29 rfl rfl ?_
    refine r_iconst M 1 dX2_makeStep_32 (by decide) ?_
    refine r_iadd M dX2_makeStep_33 ?_
    refine r_put M fl_X2_50 ff_2_6 dX2_makeStep_34 rfl rfl rfl (fun _ => rfl) (Nat.le_of_ble_eq_true rfl) ?_
    refine r_goto M 50 dX2_makeStep_37 (by decide) ?_
    exact r_vret M dX2_makeStep_50 rfl rfl rfl
end


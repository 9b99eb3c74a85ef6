abbrev COx (fst fsn : Value) (kp : Bool) (fhi ftx fpf ftr : Value) : va_E := .inr (5, [fst, fsn, .int (b2i kp), fhi, ftx, fpf, ftr])
/-- the wheels tried on -/
abbrev WD : Type := (Nat → Int32) × (Nat → Int32) × (Nat → Bool) × (Nat → Int32) × (Nat → Int32) × (Nat → Int32)
abbrev WWd (b : Nat) (t : WD) : List va_E := WWo b t.1 t.2.1 t.2.2.1 t.2.2.2.1 t.2.2.2.2.1 t.2.2.2.2.2
/-- what the looks see: the theatre, its state, the history's size, the trial's wheels -/
abbrev RW (fsn ftx fpf frm : Value) (kp : Bool) (n : Int32) (d : SD) (t : WD) : List va_E := [COx (.ref 1) fsn kp (.ref 11) ftx fpf (.ref 12)] ++ SWd 1 d ++ [.inr (0, [frm, .int n])] ++ WWd 12 t
/-- the least common multiple -/
theorem lmG_lcm (a m : Nat) (ha : 1 ≤ a) (hm : 1 ≤ m) (hb : a * m < 2 ^ 31) : ∀ f t : Nat, t + f = m → 1 ≤ t → (∀ j, 1 ≤ j → j < t → ¬ m ∣ a * j) → lmG (nI a) (nI m) f t = nI (Nat.lcm a m) := by
  have key : ∀ t, 1 ≤ t → m ∣ a * t → (∀ j, 1 ≤ j → j < t → ¬ m ∣ a * j) → a * t = Nat.lcm a m := by
    intro t h1 hd hj
    have h2 : Nat.lcm a m ∣ a * t := Nat.lcm_dvd (Nat.dvd_mul_right a t) hd
    obtain ⟨k, hk⟩ := Nat.dvd_lcm_left a m
    have hpos : 0 < Nat.lcm a m := Nat.lcm_pos ha hm
    have hk1 : 1 ≤ k := by
      rcases Nat.eq_zero_or_pos k with h | h
      · rw [hk, h] at hpos; simp at hpos
      · exact h
    have h3 : m ∣ a * k := by rw [← hk]; exact Nat.dvd_lcm_right a m
    have h4 : t ≤ k := by
      rcases Nat.lt_or_ge k t with h | h
      · exact absurd h3 (hj k hk1 h)
      · exact h
    have h5 : a * t ≤ Nat.lcm a m := by rw [hk]; exact Nat.mul_le_mul_left a h4
    have h6 := Nat.le_of_dvd (Nat.mul_pos ha h1) h2
    omega
  have ma : m ≤ a * m := Nat.le_mul_of_pos_left m ha
  have hmt : (nI m).toInt = (m : Int) := nI_toInt (by omega)
  intro f
  induction f with
  | zero =>
    intro t ht h1 hj
    obtain rfl : t = m := by omega
    rw [lmG, pk_mul, key t h1 (Nat.dvd_mul_left t a) hj]
  | succ f ih =>
    intro t ht h1 hj
    have hat : a * t ≤ a * m := Nat.mul_le_mul_left a (by omega)
    have hmd : md (nI a * nI t) (nI m) = 0 ↔ m ∣ a * t := by
      rw [pk_mul, ← Int32.toInt_inj, md_toInt (by rw [hmt]; omega), hmt, nI_toInt (by omega)]
      rw [show (0 : Int32).toInt = 0 from rfl]
      constructor
      · intro h
        have := Int.dvd_of_emod_eq_zero h
        exact Int.natCast_dvd_natCast.mp this
      · intro h
        exact Int.emod_eq_zero_of_dvd (Int.natCast_dvd_natCast.mpr h)
    rw [lmG]
    by_cases h : md (nI a * nI t) (nI m) = 0
    · rw [if_pos h, pk_mul, key t h1 (hmd.mp h) hj]
    · rw [if_neg h]
      refine ih (t + 1) (by omega) (by omega) (fun j h2 h3 => ?_)
      rcases Nat.lt_succ_iff_lt_or_eq.mp h3 with h4 | h4
      · exact hj j h2 h4
      · rw [h4]; exact fun z => h (hmd.mpr z)
/-- the teeth are 1 to 12 -/
def teOk (te : Nat → Int32) : Prop := ∀ k, k < 5 → ∃ m : Nat, 1 ≤ m ∧ m ≤ 12 ∧ te k = nI m
/-- the round, as a number -/
def rN (te : Nat → Int32) (lo : Nat → Bool) : Nat → Nat
  | 0 => 1
  | k + 1 => if lo k = true then Nat.lcm (rN te lo k) (te k).toNatClampNeg else rN te lo k
theorem rN_bd {te : Nat → Int32} (lo : Nat → Bool) (h : teOk te) : ∀ k, k ≤ 5 → 1 ≤ rN te lo k ∧ rN te lo k ≤ 12 ^ k
  | 0, _ => ⟨Nat.le_refl _, Nat.le_refl _⟩
  | k + 1, hk => by
    obtain ⟨h1, h2⟩ := rN_bd lo h k (by omega)
    obtain ⟨m, h3, h4, h5⟩ := h k (by omega)
    rw [rN]
    split
    · rw [h5, nI_clamp (by omega)]
      have h6 := Nat.le_of_dvd (Nat.mul_pos h1 h3) (Nat.lcm_dvd_mul (rN te lo k) m)
      have h7 : rN te lo k * m ≤ 12 ^ k * 12 := Nat.mul_le_mul h2 h4
      exact ⟨Nat.lcm_pos h1 h3, by rw [Nat.pow_succ]; omega⟩
    · refine ⟨h1, ?_⟩
      rw [Nat.pow_succ]
      omega
theorem rbt_rN {te : Nat → Int32} (lo : Nat → Bool) (h : teOk te) : ∀ k, k ≤ 5 → rbt te lo k = nI (rN te lo k)
  | 0, _ => rfl
  | k + 1, hk => by
    obtain ⟨h1, h2⟩ := rN_bd lo h k (by omega)
    obtain ⟨m, h3, h4, h5⟩ := h k (by omega)
    have h8 : 12 ^ k ≤ 12 ^ 5 := Nat.pow_le_pow_right (by omega) (by omega)
    have h9 : rN te lo k * m ≤ 12 ^ 5 * 12 := Nat.mul_le_mul (by omega) h4
    rw [rbt, rN, rbt_rN lo h k (by omega)]
    split
    · rw [h5, nI_clamp (by omega), lmG_lcm _ _ h1 h3 (by omega) (m - 1) 1 (by omega) (Nat.le_refl _) (fun j h6 h7 => by omega)]
    · rfl
theorem rN_lt {te : Nat → Int32} (lo : Nat → Bool) (h : teOk te) : 1 ≤ rN te lo 5 ∧ rN te lo 5 < 1000000 := by
  have h1 := rN_bd lo h 5 (Nat.le_refl _)
  have h2 : 12 ^ 5 = 248832 := by decide
  omega
theorem c_rounds {te : Nat → Int32} (to : Nat → Int32) (lo : Nat → Bool) (cr ha he : Nat → Int32) (h : teOk te) : Con yX4_roundByTeeth cX4_roundByTeeth 3 (some .int) (rmk 2 44) [.ref 0] (WW te to lo cr ha he) (some (.int (nI (rN te lo 5)))) (WW te to lo cr ha he) := by
  have := c_roundByTeeth te to lo cr ha he h
  rw [rbt_rN lo h 5 (Nat.le_refl _)] at this
  exact this
section
variable (fsn ftx fpf frm : Value) (kp : Bool) (n : Int32) (d : SD) (t : WD)
def isTth (d : SD) (w x : Int32) : Bool := iswh w && decide (0 ≤ x.toInt ∧ x < sTe d w.toNatClampNeg)
theorem c_isTooth (w x : Int32) : Con yX5_isTooth cX5_isTooth 3 (some .boolean) (rmk 1 20) [.ref 0, .int w, .int x] (RW fsn ftx fpf frm kp n d t) (some (.int (b2i (isTth d w x)))) (RW fsn ftx fpf frm kp n d t) := by
  refine Con.of (own := RX5) (by decide) rfl (Nat.le_of_ble_eq_true rfl) rfl (fun B M => ?_)
  refine r_iload_n M dX5_isTooth_0 rfl ?_
  refine r_S1ik M (c_isWheel _) lk_X5_97 dX5_isTooth_1 (by decide +kernel) ⟨Nat.le_of_ble_eq_true rfl, Nat.le_of_ble_eq_true rfl⟩ ⟨rfl, rfl⟩ [] rfl (by decide +kernel) rfl (Nat.le_of_ble_eq_true rfl) ?_
  cases hi : iswh w
  · refine r_if_eq M 31 dX5_isTooth_4 (by decide) (fun _ => ?_) (fun h9 => absurd rfl h9)
    refine r_iconst M 0 dX5_isTooth_31 (by decide) ?_
    exact r_zret M dX5_isTooth_32 rfl rfl (by rw [isTth, hi]; rfl) rfl
  · have hv := iswh_iff.mp hi
    refine r_if_eq M 31 dX5_isTooth_4 (by decide) (fun h9 => absurd h9 (by decide)) (fun _ => ?_)
    refine r_iload_n M dX5_isTooth_7 rfl ?_
    refine r_if_lt M 31 dX5_isTooth_8 (by decide) (fun h => ?_) (fun h => ?_)
    · rw [ltI0] at h
      refine r_iconst M 0 dX5_isTooth_31 (by decide) ?_
      exact r_zret M dX5_isTooth_32 rfl rfl (by rw [isTth, hi, decide_eq_false (fun z => by omega)]; rfl) rfl
    · rw [ltI0] at h
      refine r_iload_n M dX5_isTooth_11 rfl ?_
      refine r_aload_n M dX5_isTooth_12 rfl ?_
      refine r_get M fl_X5_10 dX5_isTooth_13 rfl rfl ?_
      refine r_getN M fn_X5_62 dX5_isTooth_16 rfl rfl ?_
      refine r_getN M fn_X5_158 dX5_isTooth_19 rfl rfl ?_
      refine r_iload_n M dX5_isTooth_22 rfl ?_
      refine r_iald M dX5_isTooth_23 rfl hv ?_
      refine r_icmp_ge M 31 dX5_isTooth_24 (by decide) (fun h2 => ?_) (fun h2 => ?_)
      · refine r_iconst M 0 dX5_isTooth_31 (by decide) ?_
        exact r_zret M dX5_isTooth_32 rfl rfl (by rw [isTth, hi, decide_eq_false (fun z => absurd z.2 (Int32.not_lt.mpr h2))]; rfl) rfl
      · refine r_iconst M 1 dX5_isTooth_27 (by decide) ?_
        refine r_goto M 32 dX5_isTooth_28 (by decide) ?_
        exact r_zret M dX5_isTooth_32 rfl rfl (by rw [isTth, hi, decide_eq_true ⟨by omega, Int32.not_le.mp h2⟩]; rfl) rfl
theorem c_isScene (x : Int32) : Con yX5_isScene cX5_isScene 2 (some .boolean) (rmk 0 0) [.ref 0, .int x] (RW fsn ftx fpf frm kp n d t) (some (.int (b2i (decide (0 ≤ x.toInt ∧ x < sSc d))))) (RW fsn ftx fpf frm kp n d t) := by
  refine Con.of (own := RX5) (by decide) rfl (Nat.le_of_ble_eq_true rfl) rfl (fun B M => ?_)
  refine r_iload_n M dX5_isScene_0 rfl ?_
  refine r_if_lt M 19 dX5_isScene_1 (by decide) (fun h => ?_) (fun h => ?_)
  · rw [ltI0] at h
    refine r_iconst M 0 dX5_isScene_19 (by decide) ?_
    exact r_zret M dX5_isScene_20 rfl rfl (by rw [decide_eq_false (fun z => by omega)]; rfl) rfl
  · rw [ltI0] at h
    refine r_iload_n M dX5_isScene_4 rfl ?_
    refine r_aload_n M dX5_isScene_5 rfl ?_
    refine r_get M fl_X5_10 dX5_isScene_6 rfl rfl ?_
    refine r_getN M fn_X5_164 dX5_isScene_9 rfl rfl ?_
    refine r_icmp_ge M 19 dX5_isScene_12 (by decide) (fun h2 => ?_) (fun h2 => ?_)
    · refine r_iconst M 0 dX5_isScene_19 (by decide) ?_
      exact r_zret M dX5_isScene_20 rfl rfl (by rw [decide_eq_false (fun z => absurd z.2 (Int32.not_lt.mpr h2))]; rfl) rfl
    · refine r_iconst M 1 dX5_isScene_15 (by decide) ?_
      refine r_goto M 20 dX5_isScene_16 (by decide) ?_
      exact r_zret M dX5_isScene_20 rfl rfl (by rw [decide_eq_true ⟨by omega, Int32.not_le.mp h2⟩]; rfl) rfl
/-- the first step from k on behind which the picture is as a scene -/
def untG (d : SD) (x : Int32) : Nat → Nat → Int32
  | 0, _ => -1
  | m + 1, k => if asSc (sTe d) (sTo d) (sLo d) (sHe d) (sScn d) x (nI k) = true then nI k else untG d x m (k + 1)
theorem c_stepsToScene (x : Int32) (hte : teOk (sTe d)) : Con yX5_stepsToScene cX5_stepsToScene 4 (some .int) (rmk 3 69) [.ref 0, .int x] (RW fsn ftx fpf frm kp n d t) (some (.int (untG d x (rN (sTe d) (sLo d) 5) 0))) (RW fsn ftx fpf frm kp n d t) := by
  refine Con.of (own := RX5) (by decide) rfl (Nat.le_of_ble_eq_true rfl) rfl (fun B M => ?_)
  have hb := rN_lt (sLo d) hte
  have loop : ∀ m k : Nat, k + m = rN (sTe d) (sLo d) 5 → untG d x (rN (sTe d) (sLo d) 5) 0 = untG d x m k → B 13 [(0, .ref 0), (1, .int x), (2, .int (nI (rN (sTe d) (sLo d) 5))), (3, .int (nI k))] [] (RW fsn ftx fpf frm kp n d t) := by
    intro m
    induction m with
    | zero =>
      intro k hk he
      rw [untG] at he
      rw [he] at M
      refine r_iload_n M dX5_stepsToScene_13 rfl ?_
      refine r_iload_n M dX5_stepsToScene_14 rfl ?_
      refine r_icmp_ge M 38 dX5_stepsToScene_15 (by decide) (fun _ => ?_) (fun h9 => absurd (nI_le (by omega) (by omega)) h9)
      refine r_iconst M (-1) dX5_stepsToScene_38 (by decide) ?_
      exact r_iret M dX5_stepsToScene_39 rfl rfl rfl
    | succ m ih =>
      intro k hk he
      rw [untG] at he
      refine r_iload_n M dX5_stepsToScene_13 rfl ?_
      refine r_iload_n M dX5_stepsToScene_14 rfl ?_
      refine r_icmp_ge M 38 dX5_stepsToScene_15 (by decide) (fun h9 => absurd h9 (nI_ge (by omega) (by omega))) (fun _ => ?_)
      refine r_aload_n M dX5_stepsToScene_18 rfl ?_
      refine r_get M fl_X5_10 dX5_stepsToScene_19 rfl rfl ?_
      refine r_iload_n M dX5_stepsToScene_22 rfl ?_
      refine r_iload_n M dX5_stepsToScene_23 rfl ?_
      refine r_V2ik M (c_isSceneBehind _ (sSc d) (sCr d) (sLi d) (sSf d) (sSb d) (sSe d) (sLa d) (sScn d) (sTe d) (sTo d) (sLo d) (sCra d) (sHa d) (sHe d) _ _) lk_X5_228 dX5_stepsToScene_24 (by decide +kernel) ⟨Nat.le_of_ble_eq_true rfl, Nat.le_of_ble_eq_true rfl⟩ ⟨rfl, rfl⟩ [1, 3, 4, 5, 6, 7, 8, 9, 10] rfl rfl rfl (by decide +kernel) rfl (Nat.le_of_ble_eq_true rfl) ?_
      cases h : asSc (sTe d) (sTo d) (sLo d) (sHe d) (sScn d) x (nI k)
      · rw [if_neg (by rw [h]; decide)] at he
        refine r_if_eq M 32 dX5_stepsToScene_27 (by decide) (fun _ => ?_) (fun h9 => absurd rfl h9)
        refine r_iinc1 M dX5_stepsToScene_32 rfl (by decide) ?_
        refine r_goto M 13 dX5_stepsToScene_35 (by decide) ?_
        refine r_lvs M _ (lvs_c rfl (lvs_c rfl (lvs_c rfl (lvs_c ?_ lvs_n)))) (ih (k + 1) (by omega) he)
        rw [← nI_1]; rfl
      · rw [if_pos h] at he
        rw [he] at M
        refine r_if_eq M 32 dX5_stepsToScene_27 (by decide) (fun h9 => absurd h9 (by decide)) (fun _ => ?_)
        refine r_iload_n M dX5_stepsToScene_30 rfl ?_
        exact r_iret M dX5_stepsToScene_31 rfl rfl rfl
  refine r_aload_n M dX5_stepsToScene_0 rfl ?_
  refine r_get M fl_X5_10 dX5_stepsToScene_1 rfl rfl ?_
  refine r_getN M fn_X5_62 dX5_stepsToScene_4 rfl rfl ?_
  refine r_V0ik M (c_rounds (sTo d) (sLo d) (sCra d) (sHa d) (sHe d) hte) lk_X5_276 dX5_stepsToScene_7 (by decide +kernel) ⟨Nat.le_of_ble_eq_true rfl, Nat.le_of_ble_eq_true rfl⟩ ⟨rfl, rfl⟩ [4, 5, 6, 7, 8, 9, 10] rfl rfl rfl (by decide +kernel) rfl (Nat.le_of_ble_eq_true rfl) ?_
  refine r_istore_n M dX5_stepsToScene_10 (by decide) ?_
  refine r_iconst M 0 dX5_stepsToScene_11 (by decide) ?_
  refine r_istore_n M dX5_stepsToScene_12 (by decide) ?_
  exact r_lvs M _ (lvs_c rfl (lvs_c rfl (lvs_c rfl (lvs_c rfl lvs_n)))) (loop _ 0 (by omega) rfl)
theorem c_tooth (w x : Int32) (hok : isTth d w x = true) : Con yX5_tooth cX5_tooth 3 (some .int) (rmk 6 150) [.ref 0, .int w, .int x] (RW fsn ftx fpf frm kp n d t) (some (.int (hAt (sHe d) w x))) (RW fsn ftx fpf frm kp n d t) := by
  refine Con.of (own := RX5) (by decide) rfl (Nat.le_of_ble_eq_true rfl) rfl (fun B M => ?_)
  refine r_aload_n M dX5_tooth_0 rfl ?_
  refine r_iload_n M dX5_tooth_1 rfl ?_
  refine r_iload_n M dX5_tooth_2 rfl ?_
  refine r_V2ik M (c_isTooth _ _ _ _ kp n d t w x) lk_X5_138 dX5_tooth_3 (by decide +kernel) ⟨Nat.le_of_ble_eq_true rfl, Nat.le_of_ble_eq_true rfl⟩ ⟨rfl, rfl⟩ [0, 1, 2, 3, 4, 5, 6, 7, 8, 9, 10, 11, 12, 13, 14, 15, 16, 17, 18] rfl rfl rfl (by decide +kernel) rfl (Nat.le_of_ble_eq_true rfl) ?_
  refine r_if_ne M 19 dX5_tooth_6 (by decide) (fun _ => ?_) (fun h9 => absurd h9 (by rw [hok]; decide))
  refine r_aload_n M dX5_tooth_19 rfl ?_
  refine r_get M fl_X5_10 dX5_tooth_20 rfl rfl ?_
  refine r_getN M fn_X5_62 dX5_tooth_23 rfl rfl ?_
  refine r_iload_n M dX5_tooth_26 rfl ?_
  refine r_iload_n M dX5_tooth_27 rfl ?_
  refine r_V2ik M (c_heightAt (sTe d) (sTo d) (sLo d) (sCra d) (sHa d) (sHe d) _ _) lk_X5_153 dX5_tooth_28 (by decide +kernel) ⟨Nat.le_of_ble_eq_true rfl, Nat.le_of_ble_eq_true rfl⟩ ⟨rfl, rfl⟩ [4, 5, 6, 7, 8, 9, 10] rfl rfl rfl (by decide +kernel) rfl (Nat.le_of_ble_eq_true rfl) ?_
  exact r_iret M dX5_tooth_31 rfl rfl rfl
theorem c_why (x : Int32) (hx : x = 0 ∨ x = 1) : Con yX5_why cX5_why 2 (some .int) (rmk 6 150) [.ref 0, .int x] (RW fsn ftx fpf frm kp n d t) (some (.int (whyD d (if x = 0 then 1 else -1)))) (RW fsn ftx fpf frm kp n d t) := by
  refine Con.of (own := RX5) (by decide) rfl (Nat.le_of_ble_eq_true rfl) rfl (fun B M => ?_)
  refine r_iload_n M dX5_why_0 rfl ?_
  refine r_S1ik M (c_isDirection _) lk_X5_263 dX5_why_1 (by decide +kernel) ⟨Nat.le_of_ble_eq_true rfl, Nat.le_of_ble_eq_true rfl⟩ ⟨rfl, rfl⟩ [] rfl (by decide +kernel) rfl (Nat.le_of_ble_eq_true rfl) ?_
  refine r_if_ne M 18 dX5_why_4 (by decide) (fun _ => ?_) (fun h9 => absurd h9 (by rw [decide_eq_true hx]; decide))
  refine r_aload_n M dX5_why_18 rfl ?_
  refine r_get M fl_X5_10 dX5_why_19 rfl rfl ?_
  refine r_aload_n M dX5_why_22 rfl ?_
  refine r_get M fl_X5_10 dX5_why_23 rfl rfl ?_
  refine r_getN M fn_X5_62 dX5_why_26 rfl rfl ?_
  refine r_iload_n M dX5_why_29 rfl ?_
  refine r_S1ik M (c_toDirection _) lk_X5_268 dX5_why_30 (by decide +kernel) ⟨Nat.le_of_ble_eq_true rfl, Nat.le_of_ble_eq_true rfl⟩ ⟨rfl, rfl⟩ [] rfl (by decide +kernel) rfl (Nat.le_of_ble_eq_true rfl) ?_
  refine r_V2ik M (c_reasonAgainst _ _ (sSc d) (sCr d) (sLi d) (sSf d) (sSb d) (sSe d) (sLa d) (sSt d) (sTe d) (sTo d) (sLo d) (sCra d) (sHa d) (sHe d) _) lk_X5_65 dX5_why_33 (by decide +kernel) ⟨Nat.le_of_ble_eq_true rfl, Nat.le_of_ble_eq_true rfl⟩ ⟨rfl, rfl⟩ [1, 2, 4, 5, 6, 7, 8, 9, 10] rfl rfl rfl (by decide +kernel) rfl (Nat.le_of_ble_eq_true rfl) ?_
  exact r_iret M dX5_why_36 rfl rfl rfl
theorem c_ahead (x w : Int32) (hw : vp_in w 5) (hx : -9999 ≤ x.toInt ∧ x.toInt ≤ 9999) : Con yX5_ahead cX5_ahead 3 (some .int) (rmk 6 150) [.ref 0, .int x, .int w] (RW fsn ftx fpf frm kp n d t) (some (.int (hB (sTe d) (sTo d) (sLo d) (sHe d) w x))) (RW fsn ftx fpf frm kp n d t) := by
  refine Con.of (own := RX5) (by decide) rfl (Nat.le_of_ble_eq_true rfl) rfl (fun B M => ?_)
  refine r_iload_n M dX5_ahead_0 rfl ?_
  refine r_S1ik M (c_isWheel _) lk_X5_97 dX5_ahead_1 (by decide +kernel) ⟨Nat.le_of_ble_eq_true rfl, Nat.le_of_ble_eq_true rfl⟩ ⟨rfl, rfl⟩ [] rfl (by decide +kernel) rfl (Nat.le_of_ble_eq_true rfl) ?_
  refine r_if_ne M 17 dX5_ahead_4 (by decide) (fun _ => ?_) (fun h9 => absurd h9 (by rw [iswh_iff.mpr hw]; decide))
  refine r_iload_n M dX5_ahead_17 rfl ?_
  refine r_sipush M (-9999) dX5_ahead_18 (by decide) ?_
  refine r_icmp_lt M 31 dX5_ahead_21 (by decide) (fun h9 => absurd h9 (by rw [ltIc2 (n := -9999) rfl]; omega)) (fun _ => ?_)
  refine r_iload_n M dX5_ahead_24 rfl ?_
  refine r_sipush M 9999 dX5_ahead_25 (by decide) ?_
  refine r_icmp_le M 42 dX5_ahead_28 (by decide) (fun _ => ?_) (fun h9 => absurd (by rw [leIc2 (n := 9999) rfl]; omega) h9)
  refine r_aload_n M dX5_ahead_42 rfl ?_
  refine r_get M fl_X5_10 dX5_ahead_43 rfl rfl ?_
  refine r_getN M fn_X5_62 dX5_ahead_46 rfl rfl ?_
  refine r_iload_n M dX5_ahead_49 rfl ?_
  refine r_iload_n M dX5_ahead_50 rfl ?_
  refine r_V2ik M (c_heightBehind (sTe d) (sTo d) (sLo d) (sCra d) (sHa d) (sHe d) _ _ hw) lk_X5_220 dX5_ahead_51 (by decide +kernel) ⟨Nat.le_of_ble_eq_true rfl, Nat.le_of_ble_eq_true rfl⟩ ⟨rfl, rfl⟩ [4, 5, 6, 7, 8, 9, 10] rfl rfl rfl (by decide +kernel) rfl (Nat.le_of_ble_eq_true rfl) ?_
  exact r_iret M dX5_ahead_54 rfl rfl rfl
def jamG (d : SD) (x : Int32) : Nat → Nat → Int32
  | 0, _ => -1
  | m + 1, k => if fltB (sTe d) (sTo d) (sLo d) (sHe d) (x * nI k) (sSe d) = 0 then jamG d x m (k + 1) else nI k - 1
theorem c_jamsIn (x : Int32) (hx : x = 0 ∨ x = 1) (hte : teOk (sTe d)) : Con yX5_jamsIn cX5_jamsIn 5 (some .int) (rmk 6 150) [.ref 0, .int x] (RW fsn ftx fpf frm kp n d t) (some (.int (jamG d (if x = 0 then 1 else -1) (rN (sTe d) (sLo d) 5) 1))) (RW fsn ftx fpf frm kp n d t) := by
  refine Con.of (own := RX5) (by decide) rfl (Nat.le_of_ble_eq_true rfl) rfl (fun B M => ?_)
  have hb := rN_lt (sLo d) hte
  have loop : ∀ m k : Nat, k + m = rN (sTe d) (sLo d) 5 + 1 → jamG d (if x = 0 then 1 else -1) (rN (sTe d) (sLo d) 5) 1 = jamG d (if x = 0 then 1 else -1) m k → B 37 [(0, .ref 0), (2, .int (if x = 0 then 1 else -1)), (3, .int (nI (rN (sTe d) (sLo d) 5))), (4, .int (nI k))] [] (RW fsn ftx fpf frm kp n d t) := by
    intro m
    induction m with
    | zero =>
      intro k hk he
      rw [jamG] at he
      rw [he] at M
      refine r_iload M dX5_jamsIn_37 rfl ?_
      refine r_iload_n M dX5_jamsIn_39 rfl ?_
      refine r_icmp_gt M 78 dX5_jamsIn_40 (by decide) (fun _ => ?_) (fun h9 => absurd (nI_lt (by omega) (by omega)) h9)
      refine r_iconst M (-1) dX5_jamsIn_78 (by decide) ?_
      exact r_iret M dX5_jamsIn_79 rfl rfl rfl
    | succ m ih =>
      intro k hk he
      rw [jamG] at he
      refine r_iload M dX5_jamsIn_37 rfl ?_
      refine r_iload_n M dX5_jamsIn_39 rfl ?_
      refine r_icmp_gt M 78 dX5_jamsIn_40 (by decide) (fun h9 => absurd h9 (nI_nlt (by omega) (by omega))) (fun _ => ?_)
      refine r_aload_n M dX5_jamsIn_43 rfl ?_
      refine r_get M fl_X5_10 dX5_jamsIn_44 rfl rfl ?_
      refine r_getN M fn_X5_62 dX5_jamsIn_47 rfl rfl ?_
      refine r_iload_n M dX5_jamsIn_50 rfl ?_
      refine r_iload M dX5_jamsIn_51 rfl ?_
      refine r_imul M dX5_jamsIn_53 ?_
      refine r_aload_n M dX5_jamsIn_54 rfl ?_
      refine r_get M fl_X5_10 dX5_jamsIn_55 rfl rfl ?_
      refine r_getN M fn_X5_124 dX5_jamsIn_58 rfl rfl ?_
      refine r_V2ik M (c_faultBehind (sTe d) (sTo d) (sLo d) (sCra d) (sHa d) (sHe d) _ _) lk_X5_128 dX5_jamsIn_61 (by decide +kernel) ⟨Nat.le_of_ble_eq_true rfl, Nat.le_of_ble_eq_true rfl⟩ ⟨rfl, rfl⟩ [4, 5, 6, 7, 8, 9, 10] rfl rfl rfl (by decide +kernel) rfl (Nat.le_of_ble_eq_true rfl) ?_
      by_cases h : fltB (sTe d) (sTo d) (sLo d) (sHe d) ((if x = 0 then 1 else -1) * nI k) (sSe d) = 0
      · rw [if_pos h] at he
        refine r_if_eq M 72 dX5_jamsIn_64 (by decide) (fun _ => ?_) (fun h9 => absurd h h9)
        refine r_iinc1 M dX5_jamsIn_72 rfl (by decide) ?_
        refine r_goto M 37 dX5_jamsIn_75 (by decide) ?_
        refine r_lvs M _ (lvs_c rfl (lvs_c rfl (lvs_c rfl (lvs_c ?_ lvs_n)))) (ih (k + 1) (by omega) he)
        rw [← nI_1]; rfl
      · rw [if_neg h] at he
        rw [he] at M
        refine r_if_eq M 72 dX5_jamsIn_64 (by decide) (fun h9 => absurd h9 h) (fun _ => ?_)
        refine r_iload M dX5_jamsIn_67 rfl ?_
        refine r_iconst M 1 dX5_jamsIn_69 (by decide) ?_
        refine r_isub M dX5_jamsIn_70 ?_
        exact r_iret M dX5_jamsIn_71 rfl rfl rfl
  refine r_iload_n M dX5_jamsIn_0 rfl ?_
  refine r_S1ik M (c_isDirection _) lk_X5_263 dX5_jamsIn_1 (by decide +kernel) ⟨Nat.le_of_ble_eq_true rfl, Nat.le_of_ble_eq_true rfl⟩ ⟨rfl, rfl⟩ [] rfl (by decide +kernel) rfl (Nat.le_of_ble_eq_true rfl) ?_
  refine r_if_ne M 18 dX5_jamsIn_4 (by decide) (fun _ => ?_) (fun h9 => absurd h9 (by rw [decide_eq_true hx]; decide))
  refine r_iload_n M dX5_jamsIn_18 rfl ?_
  refine r_S1ik M (c_toDirection _) lk_X5_268 dX5_jamsIn_19 (by decide +kernel) ⟨Nat.le_of_ble_eq_true rfl, Nat.le_of_ble_eq_true rfl⟩ ⟨rfl, rfl⟩ [] rfl (by decide +kernel) rfl (Nat.le_of_ble_eq_true rfl) ?_
  refine r_istore_n M dX5_jamsIn_22 (by decide) ?_
  refine r_aload_n M dX5_jamsIn_23 rfl ?_
  refine r_get M fl_X5_10 dX5_jamsIn_24 rfl rfl ?_
  refine r_getN M fn_X5_62 dX5_jamsIn_27 rfl rfl ?_
  refine r_V0ik M (c_rounds (sTo d) (sLo d) (sCra d) (sHa d) (sHe d) hte) lk_X5_276 dX5_jamsIn_30 (by decide +kernel) ⟨Nat.le_of_ble_eq_true rfl, Nat.le_of_ble_eq_true rfl⟩ ⟨rfl, rfl⟩ [4, 5, 6, 7, 8, 9, 10] rfl rfl rfl (by decide +kernel) rfl (Nat.le_of_ble_eq_true rfl) ?_
  refine r_istore_n M dX5_jamsIn_33 (by decide) ?_
  refine r_iconst M 1 dX5_jamsIn_34 (by decide) ?_
  refine r_istore M dX5_jamsIn_35 (by decide) ?_
  exact r_lvs M _ (lvs_c rfl (lvs_c rfl (lvs_c rfl (lvs_c rfl lvs_n)))) (loop _ 1 (by omega) rfl)
end


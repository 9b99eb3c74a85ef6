/-- the History and its rooms -/
abbrev HW (n : Int32) (f : Nat → Option Nat) (R : Nat → SD) : List va_E := .inr (0, [.ref 1, .int n]) :: .inl (3, 6, .inr (.inr (.inr (.inr f)))) :: (SWd 2 (R 0) ++ (SWd 12 (R 1) ++ (SWd 22 (R 2) ++ (SWd 32 (R 3) ++ (SWd 42 (R 4) ++ SWd 52 (R 5))))))
def rmOk (f : Nat → Option Nat) : Prop := ∀ j, j < 6 → ∃ i, i < 6 ∧ f j = some (2 + 10 * i)
def rotf (f : Nat → Option Nat) : Nat → Option Nat := fun j => if j = 5 then f 0 else if j < 5 then f (j + 1) else f j
theorem HW_at (n : Int32) (f : Nat → Option Nat) (R : Nat → SD) {i : Nat} (hi : i < 6) : ∃ vs, (HW n f R)[2 + 10 * i]? = some (.inr (2, vs)) := by
  rcases (show i = 0 ∨ i = 1 ∨ i = 2 ∨ i = 3 ∨ i = 4 ∨ i = 5 by omega) with rfl | rfl | rfl | rfl | rfl | rfl <;> exact ⟨_, rfl⟩
def rotK (f : Nat → Option Nat) (k : Nat) : Nat → Option Nat := fun j => if j + 1 < k then f (j + 1) else f j
theorem rotK_up (f : Nat → Option Nat) (k : Nat) (hk : 1 ≤ k) {x : Nat} (hx : f k = some x) : va_up (rotK f k) (k - 1) (some x) = rotK f (k + 1) := by
  funext j
  simp only [va_up, rotK]
  by_cases h : j = k - 1
  · rw [if_pos h, if_pos (by omega), ← hx]
    congr 1
    omega
  · rw [if_neg h]
    by_cases h2 : j + 1 < k
    · rw [if_pos h2, if_pos (by omega)]
    · rw [if_neg h2, if_neg (by omega)]
theorem c_dropOldest (f : Nat → Option Nat) (R : Nat → SD) (hf : rmOk f) (n : Int32) : Con yX0_dropOldest cX0_dropOldest 3 none (rmk 0 0) [.ref 0] (HW n f R) none (HW 5 (rotf f) R) := by
  refine Con.of (own := RX0) (by decide) rfl (Nat.le_of_ble_eq_true rfl) rfl (fun B M => ?_)
  obtain ⟨i0, hi0, hx0⟩ := hf 0 (by omega)
  have loop : ∀ m k : Nat, k + m = 6 → 1 ≤ k → B 9 [(0, .ref 0), (1, .ref (2 + 10 * i0)), (2, .int (nI k))] [] (HW n (rotK f k) R) := by
    intro m
    induction m with
    | zero =>
      intro k hk h1
      obtain rfl : k = 6 := by omega
      obtain ⟨vs, hvs⟩ := HW_at n (rotK f 6) R hi0
      have e1 : va_up (rotK f 6) 5 (some (2 + 10 * i0)) = rotf f := by
        funext j
        simp only [va_up, rotK, rotf, hx0]
        by_cases h : j = 5
        · rw [if_pos h, if_pos h]
        · rw [if_neg h, if_neg h]
          by_cases h2 : j < 5
          · rw [if_pos (by omega), if_pos h2]
          · rw [if_neg (by omega), if_neg h2]
      refine r_iload_n M dX0_dropOldest_9 rfl ?_
      refine r_bipush M 6 dX0_dropOldest_10 (by decide) ?_
      refine r_icmp_ge M 35 dX0_dropOldest_12 (by decide) (fun _ => ?_) (fun h9 => absurd (nI_geT (n := 6) rfl (by omega) (by omega)) h9)
      refine r_aload_n M dX0_dropOldest_35 rfl ?_
      refine r_get M fl_X0_11 dX0_dropOldest_36 rfl rfl ?_
      refine r_iconst M 5 dX0_dropOldest_39 (by decide) ?_
      refine r_aload_n M dX0_dropOldest_40 rfl ?_
      refine r_aast (qk := 0) M dX0_dropOldest_41 rfl (by rw [vp_in_iff]; decide) hvs ?_
      rw [show (5 : Int32).toNatClampNeg = 5 from rfl, e1]
      refine r_aload_n M dX0_dropOldest_42 rfl ?_
      refine r_iconst M 5 dX0_dropOldest_43 (by decide) ?_
      refine r_put M fl_X0_18 ff_0_1 dX0_dropOldest_44 rfl rfl rfl (fun _ => rfl) (Nat.le_of_ble_eq_true rfl) ?_
      exact r_vret M dX0_dropOldest_47 rfl rfl rfl
    | succ m ih =>
      intro k hk h1
      obtain ⟨i, hi, hx⟩ := hf k (by omega)
      obtain ⟨vs, hvs⟩ := HW_at n (rotK f k) R hi
      have hc := cl5 k (by omega)
      have e1 : nI k - 1 = nI (k - 1) := pk_sub h1
      refine r_iload_n M dX0_dropOldest_9 rfl ?_
      refine r_bipush M 6 dX0_dropOldest_10 (by decide) ?_
      refine r_icmp_ge M 35 dX0_dropOldest_12 (by decide) (fun h9 => absurd h9 (nI_geF (n := 6) rfl (by omega) (by omega))) (fun _ => ?_)
      refine r_aload_n M dX0_dropOldest_15 rfl ?_
      refine r_get M fl_X0_11 dX0_dropOldest_16 rfl rfl ?_
      refine r_iload_n M dX0_dropOldest_19 rfl ?_
      refine r_iconst M 1 dX0_dropOldest_20 (by decide) ?_
      refine r_isub M dX0_dropOldest_21 ?_
      refine r_aload_n M dX0_dropOldest_22 rfl ?_
      refine r_get M fl_X0_11 dX0_dropOldest_23 rfl rfl ?_
      refine r_iload_n M dX0_dropOldest_26 rfl ?_
      refine r_aald M dX0_dropOldest_27 rfl (vp_in_nI (by omega) (by omega)) (by rw [hc, rotK, if_neg (by omega)]; exact hx) ?_
      rw [e1]
      refine r_aast (qk := 0) M dX0_dropOldest_28 rfl (vp_in_nI (by omega) (by omega)) hvs ?_
      rw [cl5 (k - 1) (by omega), rotK_up f k h1 hx]
      refine r_iinc1 M dX0_dropOldest_29 rfl (by decide) ?_
      refine r_goto M 9 dX0_dropOldest_32 (by decide) ?_
      refine r_lvs M _ (lvs_c rfl (lvs_c rfl (lvs_c ?_ lvs_n))) (ih (k + 1) (by omega) (by omega))
      rw [← nI_1]; rfl
  have l0 := loop 5 1 rfl (by omega)
  rw [show rotK f 1 = f from by funext j; rw [rotK, if_neg (by omega)]] at l0
  refine r_aload_n M dX0_dropOldest_0 rfl ?_
  refine r_get M fl_X0_11 dX0_dropOldest_1 rfl rfl ?_
  refine r_iconst M 0 dX0_dropOldest_4 (by decide) ?_
  refine r_aald M dX0_dropOldest_5 rfl (by rw [vp_in_iff]; decide) hx0 ?_
  refine r_astore_n M dX0_dropOldest_6 (by decide) ?_
  refine r_iconst M 1 dX0_dropOldest_7 (by decide) ?_
  refine r_istore_n M dX0_dropOldest_8 (by decide) ?_
  exact r_lvs M _ (lvs_c rfl (lvs_c rfl (lvs_c rfl lvs_n))) l0
theorem push_tail (own : String) (f : Nat → Option Nat) (R : Nat → SD) (ds : SD) (k i : Nat) (hk : k < 6) (hi : i < 6) (hx : f k = some (2 + 10 * i)) (lv : List (Nat × Value)) (hl0 : lgf lv 0 = some (.ref 0)) (hl1 : lgf lv 1 = some (.ref 62)) {B : KT} (M : MF RX0 cX0_push 2 none (rmk 3 84) none (HW (nI (k + 1)) f (va_up R i ds) ++ SWd 62 ds) B) : B 13 lv [] (HW (nI k) f R ++ SWd 62 ds) := by
  refine r_lvs M [(0, .ref 0), (1, .ref 62)] (lvs_c hl0 (lvs_c hl1 lvs_n)) ?_
  have hc := cl5 k (by omega)
  have hv : vp_in (nI k) 6 := vp_in_nI hk (by omega)
  refine r_aload_n M dX0_push_13 rfl ?_
  refine r_get M fl_X0_18 dX0_push_14 rfl rfl ?_
  refine r_if_lt M 64 dX0_push_17 (by decide) (fun h9 => absurd h9 (nI_pos (by omega))) (fun _ => ?_)
  refine r_aload_n M dX0_push_20 rfl ?_
  refine r_get M fl_X0_18 dX0_push_21 rfl rfl ?_
  refine r_bipush M 6 dX0_push_24 (by decide) ?_
  refine r_icmp_ge M 64 dX0_push_26 (by decide) (fun h9 => absurd h9 (nI_geF (n := 6) rfl hk (by omega))) (fun _ => ?_)
  refine r_aload_n M dX0_push_29 rfl ?_
  refine r_get M fl_X0_11 dX0_push_30 rfl rfl ?_
  refine r_aload_n M dX0_push_33 rfl ?_
  refine r_get M fl_X0_18 dX0_push_34 rfl rfl ?_
  refine r_aald M dX0_push_37 rfl hv (by rw [hc]; exact hx) ?_
  refine r_ifnull M dX0_push_38 ?_
  refine r_aload_n M dX0_push_41 rfl ?_
  refine r_get M fl_X0_11 dX0_push_42 rfl rfl ?_
  refine r_aload_n M dX0_push_45 rfl ?_
  refine r_get M fl_X0_18 dX0_push_46 rfl rfl ?_
  refine r_aald M dX0_push_49 rfl hv (by rw [hc]; exact hx) ?_
  refine r_aload_n M dX0_push_50 rfl ?_
  rw [← nI_1] at M
  rcases (show i = 0 ∨ i = 1 ∨ i = 2 ∨ i = 3 ∨ i = 4 ∨ i = 5 by omega) with rfl | rfl | rfl | rfl | rfl | rfl
  · refine r_V1vu (w' :=  HW (nI k) f (va_up R 0 ds) ++ SWd 62 ds) M (c_scopy (R 0) ds) lk_X0_25 dX0_push_51 (by decide +kernel) ⟨Nat.le_of_ble_eq_true rfl, Nat.le_of_ble_eq_true rfl⟩ ⟨rfl, rfl⟩ [2, 3, 4, 5, 6, 7, 8, 9, 10, 11, 62, 63, 64, 65, 66, 67, 68, 69, 70, 71] rfl rfl rfl (by decide +kernel) rfl (Nat.le_of_ble_eq_true rfl) rfl ?_
    refine r_aload_n M dX0_push_54 rfl ?_
    refine r_dup M dX0_push_55 rfl ?_
    refine r_get M fl_X0_18 dX0_push_56 rfl rfl ?_
    refine r_iconst M 1 dX0_push_59 (by decide) ?_
    refine r_iadd M dX0_push_60 ?_
    refine r_put M fl_X0_18 ff_0_1 dX0_push_61 rfl rfl rfl (fun _ => rfl) (Nat.le_of_ble_eq_true rfl) ?_
    exact r_vret M dX0_push_64 rfl rfl rfl
  · refine r_V1vu (w' :=  HW (nI k) f (va_up R 1 ds) ++ SWd 62 ds) M (c_scopy (R 1) ds) lk_X0_25 dX0_push_51 (by decide +kernel) ⟨Nat.le_of_ble_eq_true rfl, Nat.le_of_ble_eq_true rfl⟩ ⟨rfl, rfl⟩ [12, 13, 14, 15, 16, 17, 18, 19, 20, 21, 62, 63, 64, 65, 66, 67, 68, 69, 70, 71] rfl rfl rfl (by decide +kernel) rfl (Nat.le_of_ble_eq_true rfl) rfl ?_
    refine r_aload_n M dX0_push_54 rfl ?_
    refine r_dup M dX0_push_55 rfl ?_
    refine r_get M fl_X0_18 dX0_push_56 rfl rfl ?_
    refine r_iconst M 1 dX0_push_59 (by decide) ?_
    refine r_iadd M dX0_push_60 ?_
    refine r_put M fl_X0_18 ff_0_1 dX0_push_61 rfl rfl rfl (fun _ => rfl) (Nat.le_of_ble_eq_true rfl) ?_
    exact r_vret M dX0_push_64 rfl rfl rfl
  · refine r_V1vu (w' :=  HW (nI k) f (va_up R 2 ds) ++ SWd 62 ds) M (c_scopy (R 2) ds) lk_X0_25 dX0_push_51 (by decide +kernel) ⟨Nat.le_of_ble_eq_true rfl, Nat.le_of_ble_eq_true rfl⟩ ⟨rfl, rfl⟩ [22, 23, 24, 25, 26, 27, 28, 29, 30, 31, 62, 63, 64, 65, 66, 67, 68, 69, 70, 71] rfl rfl rfl (by decide +kernel) rfl (Nat.le_of_ble_eq_true rfl) rfl ?_
    refine r_aload_n M dX0_push_54 rfl ?_
    refine r_dup M dX0_push_55 rfl ?_
    refine r_get M fl_X0_18 dX0_push_56 rfl rfl ?_
    refine r_iconst M 1 dX0_push_59 (by decide) ?_
    refine r_iadd M dX0_push_60 ?_
    refine r_put M fl_X0_18 ff_0_1 dX0_push_61 rfl rfl rfl (fun _ => rfl) (Nat.le_of_ble_eq_true rfl) ?_
    exact r_vret M dX0_push_64 rfl rfl rfl
  · refine r_V1vu (w' :=  HW (nI k) f (va_up R 3 ds) ++ SWd 62 ds) M (c_scopy (R 3) ds) lk_X0_25 dX0_push_51 (by decide +kernel) ⟨Nat.le_of_ble_eq_true rfl, Nat.le_of_ble_eq_true rfl⟩ ⟨rfl, rfl⟩ [32, 33, 34, 35, 36, 37, 38, 39, 40, 41, 62, 63, 64, 65, 66, 67, 68, 69, 70, 71] rfl rfl rfl (by decide +kernel) rfl (Nat.le_of_ble_eq_true rfl) rfl ?_
    refine r_aload_n M dX0_push_54 rfl ?_
    refine r_dup M dX0_push_55 rfl ?_
    refine r_get M fl_X0_18 dX0_push_56 rfl rfl ?_
    refine r_iconst M 1 dX0_push_59 (by decide) ?_
    refine r_iadd M dX0_push_60 ?_
    refine r_put M fl_X0_18 ff_0_1 dX0_push_61 rfl rfl rfl (fun _ => rfl) (Nat.le_of_ble_eq_true rfl) ?_
    exact r_vret M dX0_push_64 rfl rfl rfl
  · refine r_V1vu (w' :=  HW (nI k) f (va_up R 4 ds) ++ SWd 62 ds) M (c_scopy (R 4) ds) lk_X0_25 dX0_push_51 (by decide +kernel) ⟨Nat.le_of_ble_eq_true rfl, Nat.le_of_ble_eq_true rfl⟩ ⟨rfl, rfl⟩ [42, 43, 44, 45, 46, 47, 48, 49, 50, 51, 62, 63, 64, 65, 66, 67, 68, 69, 70, 71] rfl rfl rfl (by decide +kernel) rfl (Nat.le_of_ble_eq_true rfl) rfl ?_
    refine r_aload_n M dX0_push_54 rfl ?_
    refine r_dup M dX0_push_55 rfl ?_
    refine r_get M fl_X0_18 dX0_push_56 rfl rfl ?_
    refine r_iconst M 1 dX0_push_59 (by decide) ?_
    refine r_iadd M dX0_push_60 ?_
    refine r_put M fl_X0_18 ff_0_1 dX0_push_61 rfl rfl rfl (fun _ => rfl) (Nat.le_of_ble_eq_true rfl) ?_
    exact r_vret M dX0_push_64 rfl rfl rfl
  · refine r_V1vu (w' :=  HW (nI k) f (va_up R 5 ds) ++ SWd 62 ds) M (c_scopy (R 5) ds) lk_X0_25 dX0_push_51 (by decide +kernel) ⟨Nat.le_of_ble_eq_true rfl, Nat.le_of_ble_eq_true rfl⟩ ⟨rfl, rfl⟩ [52, 53, 54, 55, 56, 57, 58, 59, 60, 61, 62, 63, 64, 65, 66, 67, 68, 69, 70, 71] rfl rfl rfl (by decide +kernel) rfl (Nat.le_of_ble_eq_true rfl) rfl ?_
    refine r_aload_n M dX0_push_54 rfl ?_
    refine r_dup M dX0_push_55 rfl ?_
    refine r_get M fl_X0_18 dX0_push_56 rfl rfl ?_
    refine r_iconst M 1 dX0_push_59 (by decide) ?_
    refine r_iadd M dX0_push_60 ?_
    refine r_put M fl_X0_18 ff_0_1 dX0_push_61 rfl rfl rfl (fun _ => rfl) (Nat.le_of_ble_eq_true rfl) ?_
    exact r_vret M dX0_push_64 rfl rfl rfl
theorem c_push_lt (f : Nat → Option Nat) (R : Nat → SD) (ds : SD) (k i : Nat) (hk : k < 6) (hi : i < 6) (hx : f k = some (2 + 10 * i)) : Con yX0_push cX0_push 2 none (rmk 3 84) [.ref 0, .ref 62] (HW (nI k) f R ++ SWd 62 ds) none (HW (nI (k + 1)) f (va_up R i ds) ++ SWd 62 ds) := by
  refine Con.of (own := RX0) (by decide) rfl (Nat.le_of_ble_eq_true rfl) rfl (fun B M => ?_)
  refine r_aload_n M dX0_push_0 rfl ?_
  refine r_get M fl_X0_18 dX0_push_1 rfl rfl ?_
  refine r_bipush M 6 dX0_push_4 (by decide) ?_
  refine r_icmp_lt M 13 dX0_push_6 (by decide) (fun _ => ?_) (fun h9 => absurd ((nI_ltI (b := 6) (by omega) (by omega)).mpr hk) h9)
  exact push_tail RX0 f R ds k i hk hi hx _ rfl rfl M
set_option maxRecDepth 100000 in
theorem c_push_full (f : Nat → Option Nat) (R : Nat → SD) (ds : SD) (i : Nat) (hf : rmOk f) (hi : i < 6) (hx : f 0 = some (2 + 10 * i)) : Con yX0_push cX0_push 2 none (rmk 3 84) [.ref 0, .ref 62] (HW (nI 6) f R ++ SWd 62 ds) none (HW (nI 6) (rotf f) (va_up R i ds) ++ SWd 62 ds) := by
  refine Con.of (own := RX0) (by decide) rfl (Nat.le_of_ble_eq_true rfl) rfl (fun B M => ?_)
  refine r_aload_n M dX0_push_0 rfl ?_
  refine r_get M fl_X0_18 dX0_push_1 rfl rfl ?_
  refine r_bipush M 6 dX0_push_4 (by decide) ?_
  refine r_icmp_lt M 13 dX0_push_6 (by decide) (fun h9 => absurd h9 (by decide)) (fun _ => ?_)
  refine r_aload_n M dX0_push_9 rfl ?_
  have hm : ∀ i, i < 6 → inn (rg 0 62) (2 + 10 * i) = 2 + 10 * i := by decide +kernel
  have hf1 : rmOk (fun j => (f j).map (inn (rg 0 62))) := by
    intro j hj
    obtain ⟨i9, hi9, hx9⟩ := hf j hj
    exact ⟨i9, hi9, by simp only [hx9, Option.map_some, hm i9 hi9]⟩
  have hoi : ∀ o : Option Nat, (o.map (inn (rg 0 62))).map (out (rg 0 62)) = o := by
    intro o
    cases o with
    | none => rfl
    | some x => simp only [Option.map_some, out_inn]
  have e1 : (fun j => (rotf (fun j => (f j).map (inn (rg 0 62))) j).map (out (rg 0 62))) = rotf f := by
    funext j
    simp only [rotf]
    split
    · exact hoi _
    · split
      · exact hoi _
      · exact hoi _
  refine r_V0vu (w' :=  HW (nI 5) (fun j => (rotf (fun j => (f j).map (inn (rg 0 62))) j).map (out (rg 0 62))) R ++ SWd 62 ds) M (c_dropOldest (fun j => (f j).map (inn (rg 0 62))) R hf1 (nI 6)) lk_X0_22 dX0_push_10 (by decide +kernel) ⟨Nat.le_of_ble_eq_true rfl, Nat.le_of_ble_eq_true rfl⟩ ⟨rfl, rfl⟩ (rg 0 62) rfl rfl rfl (by decide +kernel) rfl (Nat.le_of_ble_eq_true rfl) rfl ?_
  rw [e1]
  exact push_tail RX0 (rotf f) R ds 5 i (by omega) hi (by rw [rotf, if_pos rfl]; exact hx) _ rfl rfl M
theorem c_pop (f : Nat → Option Nat) (R : Nat → SD) (ds : SD) (k i : Nat) (hk : k < 6) (hi : i < 6) (hx : f k = some (2 + 10 * i)) : Con yX0_pop cX0_pop 3 none (rmk 3 84) [.ref 0, .ref 62] (HW (nI (k + 1)) f R ++ SWd 62 ds) none (HW (nI k) f R ++ SWd 62 (R i)) := by
  refine Con.of (own := RX0) (by decide) rfl (Nat.le_of_ble_eq_true rfl) rfl (fun B M => ?_)
  have hc := cl5 k (by omega)
  have hv : vp_in (nI k) 6 := vp_in_nI hk (by omega)
  refine r_aload_n M dX0_pop_0 rfl ?_
  refine r_get M fl_X0_18 dX0_pop_1 rfl rfl ?_
  refine r_iconst M 1 dX0_pop_4 (by decide) ?_
  refine r_isub M dX0_pop_5 ?_
  rw [nI_pred]
  refine r_istore_n M dX0_pop_6 (by decide) ?_
  refine r_iload_n M dX0_pop_7 rfl ?_
  refine r_if_lt M 41 dX0_pop_8 (by decide) (fun h9 => absurd h9 (nI_pos (by omega))) (fun _ => ?_)
  refine r_iload_n M dX0_pop_11 rfl ?_
  refine r_bipush M 6 dX0_pop_12 (by decide) ?_
  refine r_icmp_ge M 41 dX0_pop_14 (by decide) (fun h9 => absurd h9 (nI_geF (n := 6) rfl hk (by omega))) (fun _ => ?_)
  refine r_aload_n M dX0_pop_17 rfl ?_
  refine r_get M fl_X0_11 dX0_pop_18 rfl rfl ?_
  refine r_iload_n M dX0_pop_21 rfl ?_
  refine r_aald M dX0_pop_22 rfl hv (by rw [hc]; exact hx) ?_
  refine r_ifnull M dX0_pop_23 ?_
  refine r_aload_n M dX0_pop_26 rfl ?_
  refine r_aload_n M dX0_pop_27 rfl ?_
  refine r_get M fl_X0_11 dX0_pop_28 rfl rfl ?_
  refine r_iload_n M dX0_pop_31 rfl ?_
  refine r_aald M dX0_pop_32 rfl hv (by rw [hc]; exact hx) ?_
  rcases (show i = 0 ∨ i = 1 ∨ i = 2 ∨ i = 3 ∨ i = 4 ∨ i = 5 by omega) with rfl | rfl | rfl | rfl | rfl | rfl
  · refine r_V1vu (w' :=  HW (nI (k + 1)) f R ++ SWd 62 (R 0)) M (c_scopy ds (R 0)) lk_X0_25 dX0_pop_33 (by decide +kernel) ⟨Nat.le_of_ble_eq_true rfl, Nat.le_of_ble_eq_true rfl⟩ ⟨rfl, rfl⟩ [62, 63, 64, 65, 66, 67, 68, 69, 70, 71, 2, 3, 4, 5, 6, 7, 8, 9, 10, 11] rfl rfl rfl (by decide +kernel) rfl (Nat.le_of_ble_eq_true rfl) rfl ?_
    refine r_aload_n M dX0_pop_36 rfl ?_
    refine r_iload_n M dX0_pop_37 rfl ?_
    refine r_put M fl_X0_18 ff_0_1 dX0_pop_38 rfl rfl rfl (fun _ => rfl) (Nat.le_of_ble_eq_true rfl) ?_
    exact r_vret M dX0_pop_41 rfl rfl rfl
  · refine r_V1vu (w' :=  HW (nI (k + 1)) f R ++ SWd 62 (R 1)) M (c_scopy ds (R 1)) lk_X0_25 dX0_pop_33 (by decide +kernel) ⟨Nat.le_of_ble_eq_true rfl, Nat.le_of_ble_eq_true rfl⟩ ⟨rfl, rfl⟩ [62, 63, 64, 65, 66, 67, 68, 69, 70, 71, 12, 13, 14, 15, 16, 17, 18, 19, 20, 21] rfl rfl rfl (by decide +kernel) rfl (Nat.le_of_ble_eq_true rfl) rfl ?_
    refine r_aload_n M dX0_pop_36 rfl ?_
    refine r_iload_n M dX0_pop_37 rfl ?_
    refine r_put M fl_X0_18 ff_0_1 dX0_pop_38 rfl rfl rfl (fun _ => rfl) (Nat.le_of_ble_eq_true rfl) ?_
    exact r_vret M dX0_pop_41 rfl rfl rfl
  · refine r_V1vu (w' :=  HW (nI (k + 1)) f R ++ SWd 62 (R 2)) M (c_scopy ds (R 2)) lk_X0_25 dX0_pop_33 (by decide +kernel) ⟨Nat.le_of_ble_eq_true rfl, Nat.le_of_ble_eq_true rfl⟩ ⟨rfl, rfl⟩ [62, 63, 64, 65, 66, 67, 68, 69, 70, 71, 22, 23, 24, 25, 26, 27, 28, 29, 30, 31] rfl rfl rfl (by decide +kernel) rfl (Nat.le_of_ble_eq_true rfl) rfl ?_
    refine r_aload_n M dX0_pop_36 rfl ?_
    refine r_iload_n M dX0_pop_37 rfl ?_
    refine r_put M fl_X0_18 ff_0_1 dX0_pop_38 rfl rfl rfl (fun _ => rfl) (Nat.le_of_ble_eq_true rfl) ?_
    exact r_vret M dX0_pop_41 rfl rfl rfl
  · refine r_V1vu (w' :=  HW (nI (k + 1)) f R ++ SWd 62 (R 3)) M (c_scopy ds (R 3)) lk_X0_25 dX0_pop_33 (by decide +kernel) ⟨Nat.le_of_ble_eq_true rfl, Nat.le_of_ble_eq_true rfl⟩ ⟨rfl, rfl⟩ [62, 63, 64, 65, 66, 67, 68, 69, 70, 71, 32, 33, 34, 35, 36, 37, 38, 39, 40, 41] rfl rfl rfl (by decide +kernel) rfl (Nat.le_of_ble_eq_true rfl) rfl ?_
    refine r_aload_n M dX0_pop_36 rfl ?_
    refine r_iload_n M dX0_pop_37 rfl ?_
    refine r_put M fl_X0_18 ff_0_1 dX0_pop_38 rfl rfl rfl (fun _ => rfl) (Nat.le_of_ble_eq_true rfl) ?_
    exact r_vret M dX0_pop_41 rfl rfl rfl
  · refine r_V1vu (w' :=  HW (nI (k + 1)) f R ++ SWd 62 (R 4)) M (c_scopy ds (R 4)) lk_X0_25 dX0_pop_33 (by decide +kernel) ⟨Nat.le_of_ble_eq_true rfl, Nat.le_of_ble_eq_true rfl⟩ ⟨rfl, rfl⟩ [62, 63, 64, 65, 66, 67, 68, 69, 70, 71, 42, 43, 44, 45, 46, 47, 48, 49, 50, 51] rfl rfl rfl (by decide +kernel) rfl (Nat.le_of_ble_eq_true rfl) rfl ?_
    refine r_aload_n M dX0_pop_36 rfl ?_
    refine r_iload_n M dX0_pop_37 rfl ?_
    refine r_put M fl_X0_18 ff_0_1 dX0_pop_38 rfl rfl rfl (fun _ => rfl) (Nat.le_of_ble_eq_true rfl) ?_
    exact r_vret M dX0_pop_41 rfl rfl rfl
  · refine r_V1vu (w' :=  HW (nI (k + 1)) f R ++ SWd 62 (R 5)) M (c_scopy ds (R 5)) lk_X0_25 dX0_pop_33 (by decide +kernel) ⟨Nat.le_of_ble_eq_true rfl, Nat.le_of_ble_eq_true rfl⟩ ⟨rfl, rfl⟩ [62, 63, 64, 65, 66, 67, 68, 69, 70, 71, 52, 53, 54, 55, 56, 57, 58, 59, 60, 61] rfl rfl rfl (by decide +kernel) rfl (Nat.le_of_ble_eq_true rfl) rfl ?_
    refine r_aload_n M dX0_pop_36 rfl ?_
    refine r_iload_n M dX0_pop_37 rfl ?_
    refine r_put M fl_X0_18 ff_0_1 dX0_pop_38 rfl rfl rfl (fun _ => rfl) (Nat.le_of_ble_eq_true rfl) ?_
    exact r_vret M dX0_pop_41 rfl rfl rfl


def iswh (x : Int32) : Bool := decide (0 ≤ x.toInt ∧ x.toInt < 5)
theorem ltI0 {x : Int32} : x < 0 ↔ x.toInt < 0 := by rw [Int32.lt_iff_toInt_lt]; rfl
theorem leIc {x N : Int32} {n : Int} (hN : N.toInt = n) : N ≤ x ↔ n ≤ x.toInt := by rw [Int32.le_iff_toInt_le, hN]
theorem ltIc {x N : Int32} {n : Int} (hN : N.toInt = n) : N < x ↔ n < x.toInt := by rw [Int32.lt_iff_toInt_lt, hN]
theorem leIc2 {x N : Int32} {n : Int} (hN : N.toInt = n) : x ≤ N ↔ x.toInt ≤ n := by rw [Int32.le_iff_toInt_le, hN]
theorem ltIc2 {x N : Int32} {n : Int} (hN : N.toInt = n) : x < N ↔ x.toInt < n := by rw [Int32.lt_iff_toInt_lt, hN]
theorem c_isWheel (x : Int32) : Con yX5_isWheel cX5_isWheel 1 (some .boolean) (rmk 0 0) [.int x] [] (some (.int (b2i (iswh x)))) [] := by
  refine Con.of (own := RX5) (by decide) rfl (Nat.le_of_ble_eq_true rfl) rfl (fun B M => ?_)
  refine r_iload_n M dX5_isWheel_0 rfl ?_
  refine r_if_lt M 13 dX5_isWheel_1 (by decide) (fun h => ?_) (fun h => ?_)
  · rw [ltI0] at h
    refine r_iconst M 0 dX5_isWheel_13 (by decide) ?_
    exact r_zret M dX5_isWheel_14 rfl rfl (by rw [iswh, decide_eq_false (by omega)]; rfl) rfl
  · rw [ltI0] at h
    refine r_iload_n M dX5_isWheel_4 rfl ?_
    refine r_iconst M 5 dX5_isWheel_5 (by decide) ?_
    refine r_icmp_ge M 13 dX5_isWheel_6 (by decide) (fun h2 => ?_) (fun h2 => ?_)
    · rw [leIc (n := 5) rfl] at h2
      refine r_iconst M 0 dX5_isWheel_13 (by decide) ?_
      exact r_zret M dX5_isWheel_14 rfl rfl (by rw [iswh, decide_eq_false (by omega)]; rfl) rfl
    · rw [leIc (n := 5) rfl] at h2
      refine r_iconst M 1 dX5_isWheel_9 (by decide) ?_
      refine r_goto M 14 dX5_isWheel_10 (by decide) ?_
      exact r_zret M dX5_isWheel_14 rfl rfl (by rw [iswh, decide_eq_true (by omega)]; rfl) rfl
theorem c_toNumber (b : Bool) : Con yX5_toNumber cX5_toNumber 1 (some .int) (rmk 0 0) [.int (b2i b)] [] (some (.int (b2i b))) [] := by
  refine Con.of (own := RX5) (by decide) rfl (Nat.le_of_ble_eq_true rfl) rfl (fun B M => ?_)
  refine r_iload_n M dX5_toNumber_0 rfl ?_
  refine r_if_eq M 8 dX5_toNumber_1 (by decide) (fun h => ?_) (fun h => ?_)
  · refine r_iconst M 0 dX5_toNumber_8 (by decide) ?_
    exact r_iret M dX5_toNumber_9 rfl (by rw [h]) rfl
  · refine r_iconst M 1 dX5_toNumber_4 (by decide) ?_
    refine r_goto M 9 dX5_toNumber_5 (by decide) ?_
    exact r_iret M dX5_toNumber_9 rfl (by cases b <;> first | rfl | exact absurd rfl h) rfl
theorem c_isHeight (x : Int32) : Con yX5_isHeight cX5_isHeight 1 (some .boolean) (rmk 0 0) [.int x] [] (some (.int (b2i (decide (0 ≤ x.toInt ∧ x.toInt ≤ 9))))) [] := by
  refine Con.of (own := RX5) (by decide) rfl (Nat.le_of_ble_eq_true rfl) rfl (fun B M => ?_)
  refine r_iload_n M dX5_isHeight_0 rfl ?_
  refine r_if_lt M 14 dX5_isHeight_1 (by decide) (fun h => ?_) (fun h => ?_)
  · rw [ltI0] at h
    refine r_iconst M 0 dX5_isHeight_14 (by decide) ?_
    exact r_zret M dX5_isHeight_15 rfl rfl (by rw [decide_eq_false (by omega)]; rfl) rfl
  · rw [ltI0] at h
    refine r_iload_n M dX5_isHeight_4 rfl ?_
    refine r_bipush M 9 dX5_isHeight_5 (by decide) ?_
    refine r_icmp_gt M 14 dX5_isHeight_7 (by decide) (fun h2 => ?_) (fun h2 => ?_)
    · rw [ltIc (n := 9) rfl] at h2
      refine r_iconst M 0 dX5_isHeight_14 (by decide) ?_
      exact r_zret M dX5_isHeight_15 rfl rfl (by rw [decide_eq_false (by omega)]; rfl) rfl
    · rw [ltIc (n := 9) rfl] at h2
      refine r_iconst M 1 dX5_isHeight_10 (by decide) ?_
      refine r_goto M 15 dX5_isHeight_11 (by decide) ?_
      exact r_zret M dX5_isHeight_15 rfl rfl (by rw [decide_eq_true (by omega)]; rfl) rfl
theorem c_isDirection (x : Int32) : Con yX5_isDirection cX5_isDirection 1 (some .boolean) (rmk 0 0) [.int x] [] (some (.int (b2i (decide (x = 0 ∨ x = 1))))) [] := by
  refine Con.of (own := RX5) (by decide) rfl (Nat.le_of_ble_eq_true rfl) rfl (fun B M => ?_)
  refine r_iload_n M dX5_isDirection_0 rfl ?_
  refine r_if_eq M 9 dX5_isDirection_1 (by decide) (fun h => ?_) (fun h => ?_)
  · refine r_iconst M 1 dX5_isDirection_9 (by decide) ?_
    refine r_goto M 14 dX5_isDirection_10 (by decide) ?_
    exact r_zret M dX5_isDirection_14 rfl rfl (by rw [decide_eq_true (Or.inl h)]; rfl) rfl
  · refine r_iload_n M dX5_isDirection_4 rfl ?_
    refine r_iconst M 1 dX5_isDirection_5 (by decide) ?_
    refine r_icmp_ne M 13 dX5_isDirection_6 (by decide) (fun h2 => ?_) (fun h2 => ?_)
    · refine r_iconst M 0 dX5_isDirection_13 (by decide) ?_
      exact r_zret M dX5_isDirection_14 rfl rfl (by rw [decide_eq_false (by rintro (e | e) <;> contradiction)]; rfl) rfl
    · refine r_iconst M 1 dX5_isDirection_9 (by decide) ?_
      refine r_goto M 14 dX5_isDirection_10 (by decide) ?_
      exact r_zret M dX5_isDirection_14 rfl rfl (by rw [decide_eq_true (Or.inr h2)]; rfl) rfl
theorem c_toDirection (x : Int32) : Con yX5_toDirection cX5_toDirection 1 (some .int) (rmk 0 0) [.int x] [] (some (.int (if x = 0 then 1 else -1))) [] := by
  refine Con.of (own := RX5) (by decide) rfl (Nat.le_of_ble_eq_true rfl) rfl (fun B M => ?_)
  refine r_iload_n M dX5_toDirection_0 rfl ?_
  refine r_if_ne M 8 dX5_toDirection_1 (by decide) (fun h => ?_) (fun h => ?_)
  · refine r_iconst M (-1) dX5_toDirection_8 (by decide) ?_
    exact r_iret M dX5_toDirection_9 rfl (by rw [if_neg h]) rfl
  · refine r_iconst M 1 dX5_toDirection_4 (by decide) ?_
    refine r_goto M 9 dX5_toDirection_5 (by decide) ?_
    exact r_iret M dX5_toDirection_9 rfl (by rw [if_pos h]) rfl
/-- the height of a picture's reason -/
def fltOf (a b c d e s : Int32) : Int32 := if (5 ≤ c ∨ 5 ≤ d) ∧ ¬ (5 ≤ a ∧ 5 ≤ b) then 1 else if (5 ≤ c ∧ 5 ≤ d) ∧ s < e then 2 else 0
theorem nle5 {x : Int32} : x < 5 ↔ ¬ 5 ≤ x := by rw [Int32.not_le]
theorem c_faultOf (a b c d e s : Int32) : Con yX5_faultOf cX5_faultOf 9 (some .int) (rmk 0 0) [.int a, .int b, .int c, .int d, .int e, .int s] [] (some (.int (fltOf a b c d e s))) [] := by
  refine Con.of (own := RX5) (by decide) rfl (Nat.le_of_ble_eq_true rfl) rfl (fun B M => ?_)
  have k3 : ∀ (x y z : Bool), (x = true ↔ (5 ≤ c ∨ 5 ≤ d)) → (y = true ↔ (5 ≤ c ∧ 5 ≤ d)) → (z = true ↔ (5 ≤ a ∧ 5 ≤ b)) → B 51 [(4, .int e), (5, .int s), (6, .int (b2i x)), (7, .int (b2i y)), (8, .int (b2i z))] [] [] := by
    intro x y z hx hy hz
    have fin : ¬ ((5 ≤ c ∨ 5 ≤ d) ∧ ¬ (5 ≤ a ∧ 5 ≤ b)) → B 63 [(4, .int e), (5, .int s), (6, .int (b2i x)), (7, .int (b2i y)), (8, .int (b2i z))] [] [] := by
      intro hn
      refine r_iload M dX5_faultOf_63 rfl ?_
      refine r_if_eq M 79 dX5_faultOf_65 (by decide) (fun h => ?_) (fun h => ?_)
      · rw [b2i_0] at h
        refine r_iconst M 0 dX5_faultOf_79 (by decide) ?_
        exact r_iret M dX5_faultOf_80 rfl (by rw [fltOf, if_neg hn, if_neg (by rw [← hy, h]; simp)]) rfl
      · rw [b2i_0] at h
        refine r_iload M dX5_faultOf_68 rfl ?_
        refine r_iload M dX5_faultOf_70 rfl ?_
        refine r_icmp_le M 79 dX5_faultOf_72 (by decide) (fun h2 => ?_) (fun h2 => ?_)
        · refine r_iconst M 0 dX5_faultOf_79 (by decide) ?_
          exact r_iret M dX5_faultOf_80 rfl (by rw [fltOf, if_neg hn, if_neg (by intro z; exact absurd h2 (Int32.not_le.mpr z.2))]) rfl
        · refine r_iconst M 2 dX5_faultOf_75 (by decide) ?_
          refine r_goto M 80 dX5_faultOf_76 (by decide) ?_
          exact r_iret M dX5_faultOf_80 rfl (by rw [fltOf, if_neg hn, if_pos ⟨hy.mp (by simpa using h), Int32.not_le.mp h2⟩]) rfl
    refine r_iload M dX5_faultOf_51 rfl ?_
    refine r_if_eq M 63 dX5_faultOf_53 (by decide) (fun h => ?_) (fun h => ?_)
    · rw [b2i_0] at h
      exact fin (by intro q; rw [← hx, h] at q; simp at q)
    · rw [b2i_0] at h
      refine r_iload M dX5_faultOf_56 rfl ?_
      refine r_if_ne M 63 dX5_faultOf_58 (by decide) (fun h2 => ?_) (fun h2 => ?_)
      · rw [b2i_0] at h2
        exact fin (by intro q; exact q.2 (hz.mp (by simpa using h2)))
      · rw [b2i_0] at h2
        refine r_iconst M 1 dX5_faultOf_61 (by decide) ?_
        exact r_iret M dX5_faultOf_62 rfl (by rw [fltOf, if_pos ⟨hx.mp (by simpa using h), by rw [← hz, h2]; simp⟩]) rfl
  have k2 : ∀ (x y : Bool), (x = true ↔ (5 ≤ c ∨ 5 ≤ d)) → (y = true ↔ (5 ≤ c ∧ 5 ≤ d)) → B 34 [(0, .int a), (1, .int b), (4, .int e), (5, .int s), (6, .int (b2i x)), (7, .int (b2i y))] [] [] := by
    intro x y hx hy
    have go : ∀ z : Bool, (z = true ↔ (5 ≤ a ∧ 5 ≤ b)) → B 49 [(0, .int a), (1, .int b), (4, .int e), (5, .int s), (6, .int (b2i x)), (7, .int (b2i y))] [.int (b2i z)] [] := by
      intro z hz
      refine r_istore M dX5_faultOf_49 (by decide) ?_
      exact r_lvs M _ (lvs_c rfl (lvs_c rfl (lvs_c rfl (lvs_c rfl (lvs_c rfl lvs_n))))) (k3 x y z hx hy hz)
    refine r_iload_n M dX5_faultOf_34 rfl ?_
    refine r_iconst M 5 dX5_faultOf_35 (by decide) ?_
    refine r_icmp_lt M 48 dX5_faultOf_36 (by decide) (fun h => ?_) (fun h => ?_)
    · refine r_iconst M 0 dX5_faultOf_48 (by decide) ?_
      exact go false (by rw [nle5] at h; simp [h])
    · refine r_iload_n M dX5_faultOf_39 rfl ?_
      refine r_iconst M 5 dX5_faultOf_40 (by decide) ?_
      refine r_icmp_lt M 48 dX5_faultOf_41 (by decide) (fun h2 => ?_) (fun h2 => ?_)
      · refine r_iconst M 0 dX5_faultOf_48 (by decide) ?_
        exact go false (by rw [nle5] at h2; simp [h2])
      · refine r_iconst M 1 dX5_faultOf_44 (by decide) ?_
        refine r_goto M 49 dX5_faultOf_45 (by decide) ?_
        exact go true (by rw [nle5] at h h2; simp only [Decidable.not_not] at h h2; simp [h, h2])
  have k1 : ∀ (x : Bool), (x = true ↔ (5 ≤ c ∨ 5 ≤ d)) → B 17 [(0, .int a), (1, .int b), (2, .int c), (3, .int d), (4, .int e), (5, .int s), (6, .int (b2i x))] [] [] := by
    intro x hx
    have go : ∀ z : Bool, (z = true ↔ (5 ≤ c ∧ 5 ≤ d)) → B 32 [(0, .int a), (1, .int b), (2, .int c), (3, .int d), (4, .int e), (5, .int s), (6, .int (b2i x))] [.int (b2i z)] [] := by
      intro z hz
      refine r_istore M dX5_faultOf_32 (by decide) ?_
      exact r_lvs M _ (lvs_c rfl (lvs_c rfl (lvs_c rfl (lvs_c rfl (lvs_c rfl (lvs_c rfl lvs_n)))))) (k2 x z hx hz)
    refine r_iload_n M dX5_faultOf_17 rfl ?_
    refine r_iconst M 5 dX5_faultOf_18 (by decide) ?_
    refine r_icmp_lt M 31 dX5_faultOf_19 (by decide) (fun h => ?_) (fun h => ?_)
    · refine r_iconst M 0 dX5_faultOf_31 (by decide) ?_
      exact go false (by rw [nle5] at h; simp [h])
    · refine r_iload_n M dX5_faultOf_22 rfl ?_
      refine r_iconst M 5 dX5_faultOf_23 (by decide) ?_
      refine r_icmp_lt M 31 dX5_faultOf_24 (by decide) (fun h2 => ?_) (fun h2 => ?_)
      · refine r_iconst M 0 dX5_faultOf_31 (by decide) ?_
        exact go false (by rw [nle5] at h2; simp [h2])
      · refine r_iconst M 1 dX5_faultOf_27 (by decide) ?_
        refine r_goto M 32 dX5_faultOf_28 (by decide) ?_
        exact go true (by rw [nle5] at h h2; simp only [Decidable.not_not] at h h2; simp [h, h2])
  have go : ∀ z : Bool, (z = true ↔ (5 ≤ c ∨ 5 ≤ d)) → B 15 [(0, .int a), (1, .int b), (2, .int c), (3, .int d), (4, .int e), (5, .int s)] [.int (b2i z)] [] := by
    intro z hz
    refine r_istore M dX5_faultOf_15 (by decide) ?_
    exact r_lvs M _ (lvs_c rfl (lvs_c rfl (lvs_c rfl (lvs_c rfl (lvs_c rfl (lvs_c rfl (lvs_c rfl lvs_n))))))) (k1 z hz)
  refine r_iload_n M dX5_faultOf_0 rfl ?_
  refine r_iconst M 5 dX5_faultOf_1 (by decide) ?_
  refine r_icmp_ge M 10 dX5_faultOf_2 (by decide) (fun h => ?_) (fun h => ?_)
  · refine r_iconst M 1 dX5_faultOf_10 (by decide) ?_
    refine r_goto M 15 dX5_faultOf_11 (by decide) ?_
    exact go true (by simp [h])
  · refine r_iload_n M dX5_faultOf_5 rfl ?_
    refine r_iconst M 5 dX5_faultOf_6 (by decide) ?_
    refine r_icmp_lt M 14 dX5_faultOf_7 (by decide) (fun h2 => ?_) (fun h2 => ?_)
    · refine r_iconst M 0 dX5_faultOf_14 (by decide) ?_
      exact go false (by rw [nle5] at h2; simp [h, h2])
    · refine r_iconst M 1 dX5_faultOf_10 (by decide) ?_
      refine r_goto M 15 dX5_faultOf_11 (by decide) ?_
      exact go true (by rw [nle5] at h2; simp only [Decidable.not_not] at h2; simp [h2])
def fltB (te to : Nat → Int32) (lo : Nat → Bool) (he : Nat → Int32) (d se : Int32) : Int32 := fltOf (hB te to lo he 0 d) (hB te to lo he 1 d) (hB te to lo he 2 d) (hB te to lo he 3 d) (hB te to lo he 4 d) se
theorem vin0 : vp_in 0 5 := by rw [vp_in_iff]; decide
theorem vin1 : vp_in 1 5 := by rw [vp_in_iff]; decide
theorem vin2 : vp_in 2 5 := by rw [vp_in_iff]; decide
theorem vin3 : vp_in 3 5 := by rw [vp_in_iff]; decide
theorem vin4 : vp_in 4 5 := by rw [vp_in_iff]; decide
theorem c_faultBehind (te to : Nat → Int32) (lo : Nat → Bool) (cr ha he : Nat → Int32) (d se : Int32) : Con yX4_faultBehind cX4_faultBehind 3 (some .int) (rmk 2 46) [.ref 0, .int d, .int se] (WW te to lo cr ha he) (some (.int (fltB te to lo he d se))) (WW te to lo cr ha he) := by
  refine Con.of (own := RX4) (by decide) rfl (Nat.le_of_ble_eq_true rfl) rfl (fun B M => ?_)
  refine r_aload_n M dX4_faultBehind_0 rfl ?_
  refine r_iconst M 0 dX4_faultBehind_1 (by decide) ?_
  refine r_iload_n M dX4_faultBehind_2 rfl ?_
  refine r_V2ik M (c_heightBehind te to lo cr ha he _ _ vin0) lk_X4_54 dX4_faultBehind_3 (by decide +kernel) ⟨Nat.le_of_ble_eq_true rfl, Nat.le_of_ble_eq_true rfl⟩ ⟨rfl, rfl⟩ [0, 1, 2, 3, 4, 5, 6] rfl rfl rfl (by decide +kernel) rfl (Nat.le_of_ble_eq_true rfl) ?_
  refine r_aload_n M dX4_faultBehind_6 rfl ?_
  refine r_iconst M 1 dX4_faultBehind_7 (by decide) ?_
  refine r_iload_n M dX4_faultBehind_8 rfl ?_
  refine r_V2ik M (c_heightBehind te to lo cr ha he _ _ vin1) lk_X4_54 dX4_faultBehind_9 (by decide +kernel) ⟨Nat.le_of_ble_eq_true rfl, Nat.le_of_ble_eq_true rfl⟩ ⟨rfl, rfl⟩ [0, 1, 2, 3, 4, 5, 6] rfl rfl rfl (by decide +kernel) rfl (Nat.le_of_ble_eq_true rfl) ?_
  refine r_aload_n M dX4_faultBehind_12 rfl ?_
  refine r_iconst M 2 dX4_faultBehind_13 (by decide) ?_
  refine r_iload_n M dX4_faultBehind_14 rfl ?_
  refine r_V2ik M (c_heightBehind te to lo cr ha he _ _ vin2) lk_X4_54 dX4_faultBehind_15 (by decide +kernel) ⟨Nat.le_of_ble_eq_true rfl, Nat.le_of_ble_eq_true rfl⟩ ⟨rfl, rfl⟩ [0, 1, 2, 3, 4, 5, 6] rfl rfl rfl (by decide +kernel) rfl (Nat.le_of_ble_eq_true rfl) ?_
  refine r_aload_n M dX4_faultBehind_18 rfl ?_
  refine r_iconst M 3 dX4_faultBehind_19 (by decide) ?_
  refine r_iload_n M dX4_faultBehind_20 rfl ?_
  refine r_V2ik M (c_heightBehind te to lo cr ha he _ _ vin3) lk_X4_54 dX4_faultBehind_21 (by decide +kernel) ⟨Nat.le_of_ble_eq_true rfl, Nat.le_of_ble_eq_true rfl⟩ ⟨rfl, rfl⟩ [0, 1, 2, 3, 4, 5, 6] rfl rfl rfl (by decide +kernel) rfl (Nat.le_of_ble_eq_true rfl) ?_
  refine r_aload_n M dX4_faultBehind_24 rfl ?_
  refine r_iconst M 4 dX4_faultBehind_25 (by decide) ?_
  refine r_iload_n M dX4_faultBehind_26 rfl ?_
  refine r_V2ik M (c_heightBehind te to lo cr ha he _ _ vin4) lk_X4_54 dX4_faultBehind_27 (by decide +kernel) ⟨Nat.le_of_ble_eq_true rfl, Nat.le_of_ble_eq_true rfl⟩ ⟨rfl, rfl⟩ [0, 1, 2, 3, 4, 5, 6] rfl rfl rfl (by decide +kernel) rfl (Nat.le_of_ble_eq_true rfl) ?_
  refine r_iload_n M dX4_faultBehind_30 rfl ?_
  refine r_SN6ik M (c_faultOf _ _ _ _ _ _) lk_X4_64 ln_X4_64 dX4_faultBehind_31 (by decide +kernel) ⟨Nat.le_of_ble_eq_true rfl, Nat.le_of_ble_eq_true rfl⟩ ⟨rfl, rfl⟩ [] rfl (by decide +kernel) rfl (Nat.le_of_ble_eq_true rfl) ?_
  exact r_iret M dX4_faultBehind_34 rfl rfl rfl
/-- a height put at a tooth (nowhere, where there is no such place) -/
def putH (he : Nat → Int32) (wh t h : Int32) : Nat → Int32 := if wh * 12 + t < 0 then he else if 60 ≤ wh * 12 + t then he else upd he (wh * 12 + t).toNatClampNeg h
theorem c_putHeight (te to : Nat → Int32) (lo : Nat → Bool) (cr ha he : Nat → Int32) (wh t h : Int32) : Con yX4_putHeight cX4_putHeight 5 none (rmk 0 0) [.ref 0, .int wh, .int t, .int h] (WW te to lo cr ha he) none (WW te to lo cr ha (putH he wh t h)) := by
  refine Con.of (own := RX4) (by decide) rfl (Nat.le_of_ble_eq_true rfl) rfl (fun B M => ?_)
  refine r_iload_n M dX4_putHeight_0 rfl ?_
  refine r_bipush M 12 dX4_putHeight_1 (by decide) ?_
  refine r_imul M dX4_putHeight_3 ?_
  refine r_iload_n M dX4_putHeight_4 rfl ?_
  refine r_iadd M dX4_putHeight_5 ?_
  refine r_istore M dX4_putHeight_6 (by decide) ?_
  refine r_iload M dX4_putHeight_8 rfl ?_
  refine r_if_lt M 31 dX4_putHeight_10 (by decide) (fun h1 => ?_) (fun h1 => ?_)
  · rw [putH, if_pos h1] at M
    exact r_vret M dX4_putHeight_31 rfl rfl rfl
  · refine r_iload M dX4_putHeight_13 rfl ?_
    refine r_aload_n M dX4_putHeight_15 rfl ?_
    refine r_get M fl_X4_28 dX4_putHeight_16 rfl rfl ?_
    refine r_alen (ty := .int) M dX4_putHeight_19 rfl (fun _ => rfl) ?_
    refine r_icmp_ge M 31 dX4_putHeight_20 (by decide) (fun h2 => ?_) (fun h2 => ?_)
    · rw [putH, if_neg h1, if_pos (show (60 : Int32) ≤ _ from h2)] at M
      exact r_vret M dX4_putHeight_31 rfl rfl rfl
    · rw [putH, if_neg h1, if_neg (show ¬ (60 : Int32) ≤ _ from h2)] at M
      refine r_aload_n M dX4_putHeight_23 rfl ?_
      refine r_get M fl_X4_28 dX4_putHeight_24 rfl rfl ?_
      refine r_iload M dX4_putHeight_27 rfl ?_
      refine r_iload_n M dX4_putHeight_29 rfl ?_
      refine r_iast M dX4_putHeight_30 rfl (vin h1 (show ¬ (60 : Int32) ≤ _ from h2) rfl) ?_
      exact r_vret M dX4_putHeight_31 rfl rfl rfl
theorem c_switchClutch (te to : Nat → Int32) (lo : Nat → Bool) (cr ha he : Nat → Int32) (wh : Int32) (hw : vp_in wh 5) : Con yX4_switchClutch cX4_switchClutch 2 none (rmk 1 20) [.ref 0, .int wh] (WW te to lo cr ha he) none (WW te to (va_up lo wh.toNatClampNeg (!lo wh.toNatClampNeg)) cr ha he) := by
  refine Con.of (own := RX4) (by decide) rfl (Nat.le_of_ble_eq_true rfl) rfl (fun B M => ?_)
  have hi : iswh wh = true := by rw [vp_in_iff] at hw; rw [iswh, decide_eq_true (by omega)]
  have go : ∀ b : Bool, b = (!lo wh.toNatClampNeg) → B 26 [(0, .ref 0), (1, .int wh)] [.int (b2i b), .int wh, .ref 3] (WW te to lo cr ha he) := by
    intro b hb
    refine r_zast M dX4_switchClutch_26 rfl hw (b2i_nar b) ?_
    rw [b2i_upd, hb]
    exact r_vret M dX4_switchClutch_27 rfl rfl rfl
  refine r_iload_n M dX4_switchClutch_0 rfl ?_
  refine r_SN1ik M (c_isWheel _) lk_X4_47 ln_X4_47 dX4_switchClutch_1 (by decide +kernel) ⟨Nat.le_of_ble_eq_true rfl, Nat.le_of_ble_eq_true rfl⟩ ⟨rfl, rfl⟩ [] rfl (by decide +kernel) rfl (Nat.le_of_ble_eq_true rfl) ?_
  refine r_if_eq M 27 dX4_switchClutch_4 (by decide) (fun h9 => absurd h9 (by rw [hi]; decide)) (fun _ => ?_)
  refine r_aload_n M dX4_switchClutch_7 rfl ?_
  refine r_get M fl_X4_18 dX4_switchClutch_8 rfl rfl ?_
  refine r_iload_n M dX4_switchClutch_11 rfl ?_
  refine r_aload_n M dX4_switchClutch_12 rfl ?_
  refine r_get M fl_X4_18 dX4_switchClutch_13 rfl rfl ?_
  refine r_iload_n M dX4_switchClutch_16 rfl ?_
  refine r_zald M dX4_switchClutch_17 rfl hw ?_
  refine r_if_ne M 25 dX4_switchClutch_18 (by decide) (fun h => ?_) (fun h => ?_)
  · refine r_iconst M 0 dX4_switchClutch_25 (by decide) ?_
    exact go false (by rw [b2i_0] at h; simp at h; rw [h]; rfl)
  · refine r_iconst M 1 dX4_switchClutch_21 (by decide) ?_
    refine r_goto M 26 dX4_switchClutch_22 (by decide) ?_
    exact go true (by rw [b2i_0] at h; rw [h]; rfl)
theorem c_topByDeeds (te to : Nat → Int32) (lo : Nat → Bool) (cr ha he : Nat → Int32) (wh : Int32) (hw : vp_in wh 5) : Con yX4_topByDeeds cX4_topByDeeds 2 (some .int) (rmk 1 22) [.ref 0, .int wh] (WW te to lo cr ha he) (some (.int (md (cr wh.toNatClampNeg + ha wh.toNatClampNeg) (te wh.toNatClampNeg)))) (WW te to lo cr ha he) := by
  refine Con.of (own := RX4) (by decide) rfl (Nat.le_of_ble_eq_true rfl) rfl (fun B M => ?_)
  refine r_aload_n M dX4_topByDeeds_0 rfl ?_
  refine r_get M fl_X4_22 dX4_topByDeeds_1 rfl rfl ?_
  refine r_iload_n M dX4_topByDeeds_4 rfl ?_
  refine r_iald M dX4_topByDeeds_5 rfl hw ?_
  refine r_aload_n M dX4_topByDeeds_6 rfl ?_
  refine r_get M fl_X4_25 dX4_topByDeeds_7 rfl rfl ?_
  refine r_iload_n M dX4_topByDeeds_10 rfl ?_
  refine r_iald M dX4_topByDeeds_11 rfl hw ?_
  refine r_iadd M dX4_topByDeeds_12 ?_
  refine r_aload_n M dX4_topByDeeds_13 rfl ?_
  refine r_get M fl_X4_9 dX4_topByDeeds_14 rfl rfl ?_
  refine r_iload_n M dX4_topByDeeds_17 rfl ?_
  refine r_iald M dX4_topByDeeds_18 rfl hw ?_
  refine r_SN2ik M (c_modulo _ _) lk_X4_51 ln_X4_51 dX4_topByDeeds_19 (by decide +kernel) ⟨Nat.le_of_ble_eq_true rfl, Nat.le_of_ble_eq_true rfl⟩ ⟨rfl, rfl⟩ [] rfl (by decide +kernel) rfl (Nat.le_of_ble_eq_true rfl) ?_
  exact r_iret M dX4_topByDeeds_22 rfl rfl rfl
theorem c_turnByHand (te to : Nat → Int32) (lo : Nat → Bool) (cr ha he : Nat → Int32) (wh b : Int32) (hw : vp_in wh 5) : Con yX4_turnByHand cX4_turnByHand 3 none (rmk 1 22) [.ref 0, .int wh, .int b] (WW te to lo cr ha he) none (WW te (upd to wh.toNatClampNeg (md (to wh.toNatClampNeg + b) (te wh.toNatClampNeg))) lo cr (upd ha wh.toNatClampNeg (ha wh.toNatClampNeg + b)) he) := by
  refine Con.of (own := RX4) (by decide) rfl (Nat.le_of_ble_eq_true rfl) rfl (fun B M => ?_)
  refine r_aload_n M dX4_turnByHand_0 rfl ?_
  refine r_get M fl_X4_15 dX4_turnByHand_1 rfl rfl ?_
  refine r_iload_n M dX4_turnByHand_4 rfl ?_
  refine r_aload_n M dX4_turnByHand_5 rfl ?_
  refine r_get M fl_X4_15 dX4_turnByHand_6 rfl rfl ?_
  refine r_iload_n M dX4_turnByHand_9 rfl ?_
  refine r_iald M dX4_turnByHand_10 rfl hw ?_
  refine r_iload_n M dX4_turnByHand_11 rfl ?_
  refine r_iadd M dX4_turnByHand_12 ?_
  refine r_aload_n M dX4_turnByHand_13 rfl ?_
  refine r_get M fl_X4_9 dX4_turnByHand_14 rfl rfl ?_
  refine r_iload_n M dX4_turnByHand_17 rfl ?_
  refine r_iald M dX4_turnByHand_18 rfl hw ?_
  refine r_SN2ik M (c_modulo _ _) lk_X4_51 ln_X4_51 dX4_turnByHand_19 (by decide +kernel) ⟨Nat.le_of_ble_eq_true rfl, Nat.le_of_ble_eq_true rfl⟩ ⟨rfl, rfl⟩ [] rfl (by decide +kernel) rfl (Nat.le_of_ble_eq_true rfl) ?_
  refine r_iast M dX4_turnByHand_22 rfl hw ?_
  refine r_aload_n M dX4_turnByHand_23 rfl ?_
  refine r_get M fl_X4_25 dX4_turnByHand_24 rfl rfl ?_
  refine r_iload_n M dX4_turnByHand_27 rfl ?_
  refine r_dup2 M dX4_turnByHand_28 rfl rfl ?_
  refine r_iald M dX4_turnByHand_29 rfl hw ?_
  refine r_iload_n M dX4_turnByHand_30 rfl ?_
  refine r_iadd M dX4_turnByHand_31 ?_
  refine r_iast M dX4_turnByHand_32 rfl hw ?_
  exact r_vret M dX4_turnByHand_33 rfl rfl rfl


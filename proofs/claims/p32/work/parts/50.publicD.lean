section
variable (kp : Bool) (d0 d1 : SD) (k : Nat) (rm : Nat → Nat) (R : Nat → SD) (cod : Nat → Int32) (len aw op fig pop pmk pen : Int32) (psts ptd : Nat → Nat) (t : WD)
theorem c_turn (hrm : ∀ j, rm j < 6) (hk : k ≤ 6) (x y : Int32) (m : Nat) (hm : m ≤ 60) (h0 : ¬ x = 0) (hlo : ¬ x < -60) (hhi : x ≤ 60) (hy : y = (if 0 < x then 1 else -1)) (hx : (if 0 < x then x else -x) = nI m) : Con yX5_turn cX5_turn 5 (some .int) (rmk 6 150) [.ref 0, .int x] (CW kp d0 d1 k rm R cod len aw op fig pop pmk pen psts ptd t) (some (.int (nI (tuG y m d0).1))) (CW kp (tuG y m d0).2 d1 (puK k) (puM k rm) (puR k rm R d0) cod len aw op fig pop pmk pen psts ptd t) := by
  refine Con.of (own := RX5) (by decide) rfl (Nat.le_of_ble_eq_true rfl) (Eq.trans (b := 95) rfl rfl) (fun B M => ?_)
  have loop : ∀ (r j k2 : Nat) (m2 : Nat → Nat) (R2 : Nat → SD) (d9 : SD), j + r = m → k2 = puK k → m2 = puM k rm → R2 = puR k rm R d0 → (tuG y m d0).1 = j + (tuG y r d9).1 → (tuG y m d0).2 = (tuG y r d9).2 → B 61 [(0, .ref 0), (2, .int y), (3, .int (nI m)), (4, .int (nI j))] [] (CW kp d9 d1 k2 m2 R2 cod len aw op fig pop pmk pen psts ptd t) := by
    intro r
    induction r with
    | zero =>
      intro j k2 m2 R2 d9 hj q1 q2 q3 e1 e2
      obtain rfl : j = m := by omega
      rw [tuG, Nat.add_zero] at e1
      rw [tuG] at e2
      rw [e1, e2, ← q1, ← q2, ← q3] at M
      refine r_iload M dX5_turn_61 rfl ?_
      refine r_iload_n M dX5_turn_63 rfl ?_
      refine r_icmp_ge M 102 dX5_turn_64 (by decide) (fun _ => ?_) (fun h9 => absurd (nI_le (Nat.le_refl _) (by omega)) h9)
      refine r_iload_n M dX5_turn_102 rfl ?_
      exact r_iret M dX5_turn_103 rfl rfl rfl
    | succ r ih =>
      intro j k2 m2 R2 d9 hj q1 q2 q3 e1 e2
      rw [tuG] at e1 e2
      refine r_iload M dX5_turn_61 rfl ?_
      refine r_iload_n M dX5_turn_63 rfl ?_
      refine r_icmp_ge M 102 dX5_turn_64 (by decide) (fun h9 => absurd h9 (nI_ge (by omega) (by omega))) (fun _ => ?_)
      refine r_aload_n M dX5_turn_67 rfl ?_
      refine r_get M fl_X5_10 dX5_turn_68 rfl rfl ?_
      refine r_aload_n M dX5_turn_71 rfl ?_
      refine r_get M fl_X5_10 dX5_turn_72 rfl rfl ?_
      refine r_getN M fn_X5_62 dX5_turn_75 rfl rfl ?_
      refine r_iload_n M dX5_turn_78 rfl ?_
      refine r_V2ik M (c_reasonAgainst _ _ (sSc d9) (sCr d9) (sLi d9) (sSf d9) (sSb d9) (sSe d9) (sLa d9) (sSt d9) (sTe d9) (sTo d9) (sLo d9) (sCra d9) (sHa d9) (sHe d9) _) lk_X5_65 dX5_turn_79 (by decide +kernel) ⟨Nat.le_of_ble_eq_true rfl, Nat.le_of_ble_eq_true rfl⟩ ⟨rfl, rfl⟩ [1, 2, 4, 5, 6, 7, 8, 9, 10] rfl rfl rfl (by decide +kernel) rfl (Nat.le_of_ble_eq_true rfl) ?_
      by_cases h : whyD d9 y = 0
      · rw [if_pos h] at e1 e2
        refine r_if_eq M 88 dX5_turn_82 (by decide) (fun _ => ?_) (fun h9 => absurd h h9)
        refine r_aload_n M dX5_turn_88 rfl ?_
        refine r_get M fl_X5_10 dX5_turn_89 rfl rfl ?_
        refine r_iload_n M dX5_turn_92 rfl ?_
        refine r_V1vu (w' :=  CW kp (stepD d9 y) d1 k2 m2 R2 cod len aw op fig pop pmk pen psts ptd t) M (c_makeStep (sSc d9) (sCr d9) (sLi d9) (sSf d9) (sSb d9) (sSe d9) (sLa d9) (sSt d9) (sScn d9) (sTe d9) (sTo d9) (sLo d9) (sCra d9) (sHa d9) (sHe d9) y) lk_X5_69 dX5_turn_93 (by decide +kernel) ⟨Nat.le_of_ble_eq_true rfl, Nat.le_of_ble_eq_true rfl⟩ ⟨rfl, rfl⟩ [1, 2, 3, 4, 5, 6, 7, 8, 9, 10] rfl rfl rfl (by decide +kernel) rfl (Nat.le_of_ble_eq_true rfl) rfl ?_
        refine r_iinc1 M dX5_turn_96 rfl (by decide) ?_
        refine r_goto M 61 dX5_turn_99 (by decide) ?_
        refine r_lvs M _ (lvs_c rfl (lvs_c rfl (lvs_c rfl (lvs_c ?_ lvs_n)))) (ih (j + 1) k2 m2 R2 (stepD d9 y) (by omega) q1 q2 q3 (by rw [e1]; simp only; omega) e2)
        rw [← nI_1 j]; rfl
      · rw [if_neg h] at e1 e2
        rw [Nat.add_zero] at e1
        rw [e1, e2, ← q1, ← q2, ← q3] at M
        refine r_if_eq M 88 dX5_turn_82 (by decide) (fun h9 => absurd h9 h) (fun _ => ?_)
        refine r_iload M dX5_turn_85 rfl ?_
        exact r_iret M dX5_turn_87 rfl rfl rfl
  refine r_iload_n M dX5_turn_0 rfl ?_
  refine r_if_eq M 16 dX5_turn_1 (by decide) (fun h9 => absurd h9 h0) (fun _ => ?_)
  refine r_iload_n M dX5_turn_4 rfl ?_
  refine r_bipush M (-60) dX5_turn_5 (by decide) ?_
  refine r_icmp_lt M 16 dX5_turn_7 (by decide) (fun h9 => absurd h9 hlo) (fun _ => ?_)
  refine r_iload_n M dX5_turn_10 rfl ?_
  refine r_bipush M 60 dX5_turn_11 (by decide) ?_
  refine r_icmp_le M 26 dX5_turn_13 (by decide) (fun _ => ?_) (fun h9 => absurd hhi h9)
  refine r_aload_n M dX5_turn_26 rfl ?_
  refine r_get M fl_X5_26 dX5_turn_27 rfl rfl ?_
  refine r_aload_n M dX5_turn_30 rfl ?_
  refine r_get M fl_X5_10 dX5_turn_31 rfl rfl ?_
  refine push_r kp d0 d1 rm R cod len aw op fig pop pmk pen psts ptd t M dX5_turn_34 ⟨Nat.le_of_ble_eq_true rfl, Nat.le_of_ble_eq_true rfl⟩ (Nat.le_of_ble_eq_true rfl) hrm k hk ?_
  have l0 := loop m 0 (puK k) (puM k rm) (puR k rm R d0) d0 (by omega) rfl rfl rfl (by omega) rfl
  clear loop
  generalize puK k = k2 at l0 ⊢
  generalize puM k rm = m2 at l0 ⊢
  generalize puR k rm R d0 = R2 at l0 ⊢
  refine r_iload_n M dX5_turn_37 rfl ?_
  by_cases hp : 0 < x
  · rw [if_pos hp] at hy hx
    subst hy
    refine r_if_le M 45 dX5_turn_38 (by decide) (fun h9 => absurd h9 (Int32.not_le.mpr hp)) (fun _ => ?_)
    refine r_iconst M 1 dX5_turn_41 (by decide) ?_
    refine r_goto M 46 dX5_turn_42 (by decide) ?_
    refine r_istore_n M dX5_turn_46 (by decide) ?_
    refine r_iload_n M dX5_turn_47 rfl ?_
    refine r_if_le M 55 dX5_turn_48 (by decide) (fun h9 => absurd h9 (Int32.not_le.mpr hp)) (fun _ => ?_)
    refine r_iload_n M dX5_turn_51 rfl ?_
    refine r_goto M 57 dX5_turn_52 (by decide) ?_
    rw [hx]
    refine r_istore_n M dX5_turn_57 (by decide) ?_
    refine r_iconst M 0 dX5_turn_58 (by decide) ?_
    refine r_istore M dX5_turn_59 (by decide) ?_
    exact r_lvs M _ (lvs_c rfl (lvs_c rfl (lvs_c rfl (lvs_c rfl lvs_n)))) l0
  · rw [if_neg hp] at hy hx
    subst hy
    refine r_if_le M 45 dX5_turn_38 (by decide) (fun _ => ?_) (fun h9 => absurd (Int32.not_lt.mp hp) h9)
    refine r_iconst M (-1) dX5_turn_45 (by decide) ?_
    refine r_istore_n M dX5_turn_46 (by decide) ?_
    refine r_iload_n M dX5_turn_47 rfl ?_
    refine r_if_le M 55 dX5_turn_48 (by decide) (fun _ => ?_) (fun h9 => absurd (Int32.not_lt.mp hp) h9)
    refine r_iload_n M dX5_turn_55 rfl ?_
    refine r_ineg M dX5_turn_56 ?_
    rw [hx]
    refine r_istore_n M dX5_turn_57 (by decide) ?_
    refine r_iconst M 0 dX5_turn_58 (by decide) ?_
    refine r_istore M dX5_turn_59 (by decide) ?_
    exact r_lvs M _ (lvs_c rfl (lvs_c rfl (lvs_c rfl (lvs_c rfl lvs_n)))) l0
end


/-- where the performer stands: place, open brackets, where they begin, times done, steps made, why it ended, the state -/
abbrev PSt : Type := Nat × Nat × (Nat → Nat) × (Nat → Nat) × Int32 × Int32 × SD
/-- the number of steps behind a sign -/
def wNI (cod : Nat → Int32) (n k : Nat) : Int32 := if fgA (cdA cod n (k + 2)) = -1 then fgA (cdA cod n (k + 1)) else fgA (cdA cod n (k + 1)) * 10 + fgA (cdA cod n (k + 2))
def fgN (cod : Nat → Int32) (n k : Nat) : Nat := (fgA (cdA cod n k)).toNatClampNeg
/-- one part done -/
def pf1 (cod : Nat → Int32) (n : Nat) : PSt → PSt := fun (a, o, sts, td, z, en, d) =>
  if cod a = 43 ∨ cod a = 45 then (if fgA (cdA cod n (a + 2)) = -1 then a + 2 else a + 3, o, sts, td, (tnG (if cod a = 43 then 1 else -1) (wNI cod n a).toNatClampNeg d z).2.1, (tnG (if cod a = 43 then 1 else -1) (wNI cod n a).toNatClampNeg d z).2.2, (tnG (if cod a = 43 then 1 else -1) (wNI cod n a).toNatClampNeg d z).1)
  else if cod a = 107 then (a + 2, o, sts, td, z, en, kD d (fgN cod n (a + 1)))
  else if cod a = 108 then (a + 1, o, sts, td, z, en, liD d true)
  else if cod a = 40 then (a + 1, o + 1, va_up sts o (a + 1), va_up td o 0, z, en, d)
  else if td (o - 1) + 1 < fgN cod n (a + 1) then (sts (o - 1), o, sts, va_up td (o - 1) (td (o - 1) + 1), z, en, d) else (a + 2, o - 1, sts, va_up td (o - 1) (td (o - 1) + 1), z, en, d)
/-- what must hold for the part at a place to be done -/
def pfOk (cod : Nat → Int32) (n : Nat) (s : PSt) : Prop :=
  ((cod s.1 = 43 ∨ cod s.1 = 45) → ∃ w : Nat, w < 100 ∧ wNI cod n s.1 = nI w) ∧ (cod s.1 = 107 → vp_in (fgA (cdA cod n (s.1 + 1))) 5) ∧ (cod s.1 = 40 → s.2.1 < 3) ∧
  (¬ (cod s.1 = 43 ∨ cod s.1 = 45) → ¬ cod s.1 = 107 → ¬ cod s.1 = 108 → ¬ cod s.1 = 40 → 1 ≤ s.2.1 ∧ s.2.1 ≤ 3 ∧ s.2.2.1 (s.2.1 - 1) < 100 ∧ s.2.2.2.1 (s.2.1 - 1) < 100 ∧ ∃ t : Nat, t < 100 ∧ fgA (cdA cod n (s.1 + 1)) = nI t)
theorem c_doOther (cod : Nat → Int32) (n : Nat) (aw opt fig : Int32) (hn : n ≤ 60) (a o : Nat) (sts td : Nat → Nat) (z en : Int32) (d : SD) (ha : a < n) (h4 : ¬ (cod a = 43 ∨ cod a = 45)) (hp : pfOk cod n (a, o, sts, td, z, en, d)) : Con yX1_doOther cX1_doOther 4 (some .int) (rmk 2 43) [.ref 0, .ref 3, .int (nI a), .ref 5] (PTS (nI o) z en sts td cod n aw opt fig d) (some (.int (nI (pf1 cod n (a, o, sts, td, z, en, d)).1))) (PTS (nI (pf1 cod n (a, o, sts, td, z, en, d)).2.1) z en (pf1 cod n (a, o, sts, td, z, en, d)).2.2.1 (pf1 cod n (a, o, sts, td, z, en, d)).2.2.2.1 cod n aw opt fig (pf1 cod n (a, o, sts, td, z, en, d)).2.2.2.2.2.2) := by
  refine Con.of (own := RX1) (by decide) rfl (Nat.le_of_ble_eq_true rfl) rfl (fun B M => ?_)
  obtain ⟨-, hk, hb, hc⟩ := hp
  have e2 : nI a + 2 = nI (a + 2) := nI_add a 2
  refine r_aload_n M dX1_doOther_0 rfl ?_
  refine r_iload_n M dX1_doOther_1 rfl ?_
  refine r_V1ik M (c_codeAt cod n a aw opt fig hn (by omega)) lk_X1_34 dX1_doOther_2 (by decide +kernel) ⟨Nat.le_of_ble_eq_true rfl, Nat.le_of_ble_eq_true rfl⟩ ⟨rfl, rfl⟩ [3, 4] rfl rfl rfl (by decide +kernel) rfl (Nat.le_of_ble_eq_true rfl) ?_
  rw [show cdA cod n a = cod a from by rw [cdA, if_pos ha]]
  by_cases h7 : cod a = 107
  · have hv := hk h7
    have e : pf1 cod n (a, o, sts, td, z, en, d) = (a + 2, o, sts, td, z, en, kD d (fgN cod n (a + 1))) := by
      simp only [pf1]
      rw [if_neg h4, if_pos h7]
    rw [e] at M
    rw [h7]
    refine r_look M 40 dX1_doOther_5 (by decide) (off := 35) (by decide) (by decide) ?_
    refine r_aload_n M dX1_doOther_40 rfl ?_
    refine r_getN M fn_X1_50 dX1_doOther_41 rfl rfl ?_
    refine r_aload_n M dX1_doOther_44 rfl ?_
    refine r_iload_n M dX1_doOther_45 rfl ?_
    refine r_iconst M 1 dX1_doOther_46 (by decide) ?_
    refine r_iadd M dX1_doOther_47 ?_
    rw [nI_1]
    refine r_V1ik M (c_figureAt cod n (a + 1) aw opt fig hn (by omega)) lk_X1_54 dX1_doOther_48 (by decide +kernel) ⟨Nat.le_of_ble_eq_true rfl, Nat.le_of_ble_eq_true rfl⟩ ⟨rfl, rfl⟩ [3, 4] rfl rfl rfl (by decide +kernel) rfl (Nat.le_of_ble_eq_true rfl) ?_
    refine r_V1vu (w' :=  PTS (nI o) z en sts td cod n aw opt fig (kD d (fgN cod n (a + 1)))) M (c_switchClutch (sTe d) (sTo d) (sLo d) (sCra d) (sHa d) (sHe d) _ hv) lk_X1_57 dX1_doOther_51 (by decide +kernel) ⟨Nat.le_of_ble_eq_true rfl, Nat.le_of_ble_eq_true rfl⟩ ⟨rfl, rfl⟩ [8, 9, 10, 11, 12, 13, 14] rfl rfl rfl (by decide +kernel) rfl (Nat.le_of_ble_eq_true rfl) rfl ?_
    refine r_iload_n M dX1_doOther_54 rfl ?_
    refine r_iconst M 2 dX1_doOther_55 (by decide) ?_
    refine r_iadd M dX1_doOther_56 ?_
    exact r_iret M dX1_doOther_57 rfl (by rw [e2]) rfl
  by_cases h8 : cod a = 108
  · have e : pf1 cod n (a, o, sts, td, z, en, d) = (a + 1, o, sts, td, z, en, liD d true) := by
      simp only [pf1]
      rw [if_neg h4, if_neg h7, if_pos h8]
    rw [e] at M
    rw [h8]
    refine r_look M 58 dX1_doOther_5 (by decide) (off := 53) (by decide) (by decide) ?_
    refine r_aload_n M dX1_doOther_58 rfl ?_
    refine r_iconst M 1 dX1_doOther_59 (by decide) ?_
    refine r_putN M fn_X1_63 ff_2_5 dX1_doOther_60 rfl rfl rfl (fun _ => rfl) (Nat.le_of_ble_eq_true rfl) ?_
    refine r_iload_n M dX1_doOther_63 rfl ?_
    refine r_iconst M 1 dX1_doOther_64 (by decide) ?_
    refine r_iadd M dX1_doOther_65 ?_
    exact r_iret M dX1_doOther_66 rfl (by rw [nI_1]) rfl
  by_cases h0 : cod a = 40
  · have ho := hb h0
    simp only at ho
    have e : pf1 cod n (a, o, sts, td, z, en, d) = (a + 1, o + 1, va_up sts o (a + 1), va_up td o 0, z, en, d) := by
      simp only [pf1]
      rw [if_neg h4, if_neg h7, if_neg h8, if_pos h0]
    rw [e] at M
    rw [h0]
    refine r_look M 67 dX1_doOther_5 (by decide) (off := 62) (by decide) (by decide) ?_
    refine r_aload_n M dX1_doOther_67 rfl ?_
    refine r_iload_n M dX1_doOther_68 rfl ?_
    refine r_iconst M 1 dX1_doOther_69 (by decide) ?_
    refine r_iadd M dX1_doOther_70 ?_
    rw [nI_1]
    refine r_V1vu (w' :=  PTS (nI (o + 1)) z en (va_up sts o (a + 1)) (va_up td o 0) cod n aw opt fig d) M (c_openBr o (a + 1) z en sts td ho) lk_X1_67 dX1_doOther_71 (by decide +kernel) ⟨Nat.le_of_ble_eq_true rfl, Nat.le_of_ble_eq_true rfl⟩ ⟨rfl, rfl⟩ [0, 1, 2] rfl rfl rfl (by decide +kernel) rfl (Nat.le_of_ble_eq_true rfl) rfl ?_
    refine r_iload_n M dX1_doOther_74 rfl ?_
    refine r_iconst M 1 dX1_doOther_75 (by decide) ?_
    refine r_iadd M dX1_doOther_76 ?_
    exact r_iret M dX1_doOther_77 rfl (by rw [nI_1]) rfl
  obtain ⟨h1, h2, h3, h5, t, ht, hft⟩ := hc h4 h7 h8 h0
  simp only at h1 h2 h3 h5 hft
  obtain ⟨b, rfl⟩ : ∃ b, o = b + 1 := ⟨o - 1, by omega⟩
  rw [Nat.add_sub_cancel] at h3 h5
  have hfn : fgN cod n (a + 1) = t := by rw [fgN, hft, nI_clamp (by omega)]
  have n1 := i32_ne (n := 40) rfl h0
  have n2 := i32_ne (n := 107) rfl h7
  have n3 := i32_ne (n := 108) rfl h8
  refine r_look M 78 dX1_doOther_5 (by decide) (off := 73) (by simp [Op.lookupswitch.offset, n1, n2, n3]) (by decide) ?_
  refine r_aload_n M dX1_doOther_78 rfl ?_
  refine r_aload_n M dX1_doOther_79 rfl ?_
  refine r_iload_n M dX1_doOther_80 rfl ?_
  refine r_iconst M 1 dX1_doOther_81 (by decide) ?_
  refine r_iadd M dX1_doOther_82 ?_
  rw [nI_1]
  refine r_V1ik M (c_figureAt cod n (a + 1) aw opt fig hn (by omega)) lk_X1_54 dX1_doOther_83 (by decide +kernel) ⟨Nat.le_of_ble_eq_true rfl, Nat.le_of_ble_eq_true rfl⟩ ⟨rfl, rfl⟩ [3, 4] rfl rfl rfl (by decide +kernel) rfl (Nat.le_of_ble_eq_true rfl) ?_
  rw [hft]
  refine r_iload_n M dX1_doOther_86 rfl ?_
  refine r_iconst M 2 dX1_doOther_87 (by decide) ?_
  refine r_iadd M dX1_doOther_88 ?_
  rw [e2]
  by_cases hlt : td b + 1 < t
  · have e : pf1 cod n (a, b + 1, sts, td, z, en, d) = (sts b, b + 1, sts, va_up td b (td b + 1), z, en, d) := by
      simp only [pf1]
      rw [if_neg h4, if_neg h7, if_neg h8, if_neg h0, hfn, Nat.add_sub_cancel, if_pos hlt]
    rw [e] at M
    have cb := c_closeBr b t (a + 2) z en sts td (by omega) ht h5 h3
    rw [if_pos hlt, if_pos hlt] at cb
    refine r_V2iu (w' :=  PTS (nI (b + 1)) z en sts (va_up td b (td b + 1)) cod n aw opt fig d) M cb lk_X1_70 dX1_doOther_89 (by decide +kernel) ⟨Nat.le_of_ble_eq_true rfl, Nat.le_of_ble_eq_true rfl⟩ ⟨rfl, rfl⟩ [0, 1, 2] rfl rfl rfl (by decide +kernel) rfl (Nat.le_of_ble_eq_true rfl) rfl ?_
    exact r_iret M dX1_doOther_92 rfl rfl rfl
  · have e : pf1 cod n (a, b + 1, sts, td, z, en, d) = (a + 2, b, sts, va_up td b (td b + 1), z, en, d) := by
      simp only [pf1]
      rw [if_neg h4, if_neg h7, if_neg h8, if_neg h0, hfn, Nat.add_sub_cancel, if_neg hlt]
    rw [e] at M
    have cb := c_closeBr b t (a + 2) z en sts td (by omega) ht h5 h3
    rw [if_neg hlt, if_neg hlt] at cb
    refine r_V2iu (w' :=  PTS (nI b) z en sts (va_up td b (td b + 1)) cod n aw opt fig d) M cb lk_X1_70 dX1_doOther_89 (by decide +kernel) ⟨Nat.le_of_ble_eq_true rfl, Nat.le_of_ble_eq_true rfl⟩ ⟨rfl, rfl⟩ [0, 1, 2] rfl rfl rfl (by decide +kernel) rfl (Nat.le_of_ble_eq_true rfl) rfl ?_
    exact r_iret M dX1_doOther_92 rfl rfl rfl
/-- the performer goes on -/
def pfGo (n : Nat) (s : PSt) : Bool := decide (s.1 < n ∧ s.2.2.2.2.2.1 = 0)
/-- so many parts at most -/
def pfN (cod : Nat → Int32) (n : Nat) : Nat → PSt → PSt
  | 0, s => s
  | m + 1, s => if pfGo n s = true then pfN cod n m (pf1 cod n s) else s
theorem c_perform (cod : Nat → Int32) (n : Nat) (aw opt fig op0 z0 en0 : Int32) (hn : n ≤ 60) (sts td : Nat → Nat) (d : SD) (I : PSt → Prop) (mu : PSt → Nat) (m : Nat) (hm : m < 1000000)
    (h0 : I (0, 0, sts, td, 0, 0, d)) (hm0 : mu (0, 0, sts, td, 0, 0, d) ≤ m) (hI : ∀ s, I s → s.1 ≤ 60 ∧ (pfGo n s = true → pfOk cod n s ∧ I (pf1 cod n s) ∧ mu (pf1 cod n s) < mu s)) : Con yX1_perform cX1_perform 7 (some .int) (rmk 5 120) [.ref 0, .ref 3, .ref 5] (PTS op0 z0 en0 sts td cod n aw opt fig d) (some (.int (pfN cod n m (0, 0, sts, td, 0, 0, d)).2.2.2.2.1)) (PTS (nI (pfN cod n m (0, 0, sts, td, 0, 0, d)).2.1) (pfN cod n m (0, 0, sts, td, 0, 0, d)).2.2.2.2.1 (pfN cod n m (0, 0, sts, td, 0, 0, d)).2.2.2.2.2.1 (pfN cod n m (0, 0, sts, td, 0, 0, d)).2.2.1 (pfN cod n m (0, 0, sts, td, 0, 0, d)).2.2.2.1 cod n aw opt fig (laD (pfN cod n m (0, 0, sts, td, 0, 0, d)).2.2.2.2.2.2 (pfN cod n m (0, 0, sts, td, 0, 0, d)).2.2.2.2.2.1)) := by
  refine Con.of (own := RX1) (by decide) rfl (Nat.le_of_ble_eq_true rfl) rfl (fun B M => ?_)
  have exit : ∀ (a o : Nat) (sts9 td9 : Nat → Nat) (z9 en9 : Int32) (d9 : SD) (lv : List (Nat × Value)), pfN cod n m (0, 0, sts, td, 0, 0, d) = (a, o, sts9, td9, z9, en9, d9) → lgf lv 0 = some (.ref 0) → lgf lv 2 = some (.ref 5) → B 99 lv [] (PTS (nI o) z9 en9 sts9 td9 cod n aw opt fig d9) := by
    intro a o sts9 td9 z9 en9 d9 lv he h1 h2
    rw [he] at M
    refine r_lvs M [(0, .ref 0), (2, .ref 5)] (lvs_c h1 (lvs_c h2 lvs_n)) ?_
    refine r_aload_n M dX1_perform_99 rfl ?_
    refine r_aload_n M dX1_perform_100 rfl ?_
    refine r_get M fl_X1_25 dX1_perform_101 rfl rfl ?_
    refine r_putN M fn_X1_45 ff_2_9 dX1_perform_104 rfl rfl rfl (fun _ => rfl) (Nat.le_of_ble_eq_true rfl) ?_
    refine r_aload_n M dX1_perform_107 rfl ?_
    refine r_get M fl_X1_22 dX1_perform_108 rfl rfl ?_
    exact r_iret M dX1_perform_111 rfl rfl rfl
  have loop : ∀ (r j a o : Nat) (sts9 td9 : Nat → Nat) (z9 en9 : Int32) (d9 : SD), j + r = m → mu (a, o, sts9, td9, z9, en9, d9) ≤ r → I (a, o, sts9, td9, z9, en9, d9) → pfN cod n m (0, 0, sts, td, 0, 0, d) = pfN cod n r (a, o, sts9, td9, z9, en9, d9) → B 20 [(0, .ref 0), (1, .ref 3), (2, .ref 5), (3, .int (nI a)), (4, .int (nI j))] [] (PTS (nI o) z9 en9 sts9 td9 cod n aw opt fig d9) := by
    intro r
    induction r with
    | zero =>
      intro j a o sts9 td9 z9 en9 d9 hj hmu hi he
      rw [pfN] at he
      obtain ⟨ha, hg⟩ := hI _ hi
      simp only at ha
      have hng : pfGo n (a, o, sts9, td9, z9, en9, d9) = false := by
        cases hh : pfGo n (a, o, sts9, td9, z9, en9, d9) with
        | false => rfl
        | true => have := (hg hh).2.2; omega
      rw [pfGo, decide_eq_false_iff_not] at hng
      simp only at hng
      refine r_iload M dX1_perform_20 rfl ?_
      refine r_ldc M kc_X1_28 dX1_perform_22 ?_
      refine r_icmp_ge M 99 dX1_perform_24 (by decide) (fun h9 => absurd h9 (nI_geF (n := 1000000) rfl (by omega) (by omega))) (fun _ => ?_)
      refine r_iload_n M dX1_perform_27 rfl ?_
      refine r_aload_n M dX1_perform_28 rfl ?_
      refine r_getN M fn_X1_29 dX1_perform_29 rfl rfl ?_
      by_cases h1 : a < n
      · refine r_icmp_ge M 99 dX1_perform_32 (by decide) (fun h9 => absurd h9 (nI_ge h1 (by omega))) (fun _ => ?_)
        refine r_aload_n M dX1_perform_35 rfl ?_
        refine r_get M fl_X1_25 dX1_perform_36 rfl rfl ?_
        refine r_if_ne M 99 dX1_perform_39 (by decide) (fun _ => ?_) (fun h9 => absurd h9 (fun z => hng ⟨h1, z⟩))
        exact exit _ _ _ _ _ _ _ _ he rfl rfl
      · refine r_icmp_ge M 99 dX1_perform_32 (by decide) (fun _ => ?_) (fun h9 => absurd (nI_le (by omega) (by omega)) h9)
        exact exit _ _ _ _ _ _ _ _ he rfl rfl
    | succ r ih =>
      intro j a o sts9 td9 z9 en9 d9 hj hmu hi he
      rw [pfN] at he
      obtain ⟨ha, hg⟩ := hI _ hi
      simp only at ha
      refine r_iload M dX1_perform_20 rfl ?_
      refine r_ldc M kc_X1_28 dX1_perform_22 ?_
      refine r_icmp_ge M 99 dX1_perform_24 (by decide) (fun h9 => absurd h9 (nI_geF (n := 1000000) rfl (by omega) (by omega))) (fun _ => ?_)
      refine r_iload_n M dX1_perform_27 rfl ?_
      refine r_aload_n M dX1_perform_28 rfl ?_
      refine r_getN M fn_X1_29 dX1_perform_29 rfl rfl ?_
      cases hgo : pfGo n (a, o, sts9, td9, z9, en9, d9) with
      | false =>
        rw [hgo, if_neg (by decide)] at he
        rw [pfGo, decide_eq_false_iff_not] at hgo
        simp only at hgo
        by_cases h1 : a < n
        · refine r_icmp_ge M 99 dX1_perform_32 (by decide) (fun h9 => absurd h9 (nI_ge h1 (by omega))) (fun _ => ?_)
          refine r_aload_n M dX1_perform_35 rfl ?_
          refine r_get M fl_X1_25 dX1_perform_36 rfl rfl ?_
          refine r_if_ne M 99 dX1_perform_39 (by decide) (fun _ => ?_) (fun h9 => absurd h9 (fun z => hgo ⟨h1, z⟩))
          exact exit _ _ _ _ _ _ _ _ he rfl rfl
        · refine r_icmp_ge M 99 dX1_perform_32 (by decide) (fun _ => ?_) (fun h9 => absurd (nI_le (by omega) (by omega)) h9)
          exact exit _ _ _ _ _ _ _ _ he rfl rfl
      | true =>
        rw [hgo, if_pos rfl] at he
        obtain ⟨hok, hi2, hlt⟩ := hg hgo
        rw [pfGo, decide_eq_true_iff] at hgo
        simp only at hgo
        obtain ⟨h1, h2⟩ := hgo
        subst h2
        have back : ∀ s9 : PSt, pf1 cod n (a, o, sts9, td9, z9, 0, d9) = s9 → B 92 [(0, .ref 0), (1, .ref 3), (2, .ref 5), (4, .int (nI j))] [.int (nI s9.1)] (PTS (nI s9.2.1) s9.2.2.2.2.1 s9.2.2.2.2.2.1 s9.2.2.1 s9.2.2.2.1 cod n aw opt fig s9.2.2.2.2.2.2) := by
          intro s9 hs
          obtain ⟨a9, o9, st8, td8, z8, en8, d8⟩ := s9
          rw [hs] at he hi2 hlt
          refine r_istore_n M dX1_perform_92 (by decide) ?_
          refine r_iinc1 M dX1_perform_93 rfl (by decide) ?_
          refine r_goto M 20 dX1_perform_96 (by decide) ?_
          refine r_lvs M _ (lvs_c rfl (lvs_c rfl (lvs_c rfl (lvs_c rfl (lvs_c ?_ lvs_n))))) (ih (j + 1) a9 o9 st8 td8 z8 en8 d8 (by omega) (by omega) hi2 he)
          rw [← nI_1]; rfl
        refine r_icmp_ge M 99 dX1_perform_32 (by decide) (fun h9 => absurd h9 (nI_ge h1 (by omega))) (fun _ => ?_)
        refine r_aload_n M dX1_perform_35 rfl ?_
        refine r_get M fl_X1_25 dX1_perform_36 rfl rfl ?_
        refine r_if_ne M 99 dX1_perform_39 (by decide) (fun h9 => absurd rfl h9) (fun _ => ?_)
        refine r_aload_n M dX1_perform_42 rfl ?_
        refine r_iload_n M dX1_perform_43 rfl ?_
        refine r_V1ik M (c_codeAt cod n a aw opt fig hn (by omega)) lk_X1_34 dX1_perform_44 (by decide +kernel) ⟨Nat.le_of_ble_eq_true rfl, Nat.le_of_ble_eq_true rfl⟩ ⟨rfl, rfl⟩ [3, 4] rfl rfl rfl (by decide +kernel) rfl (Nat.le_of_ble_eq_true rfl) ?_
        rw [show cdA cod n a = cod a from by rw [cdA, if_pos h1]]
        have turn : (cod a = 43 ∨ cod a = 45) → B 63 [(0, .ref 0), (1, .ref 3), (2, .ref 5), (3, .int (nI a)), (4, .int (nI j)), (5, .int (cod a))] [] (PTS (nI o) z9 0 sts9 td9 cod n aw opt fig d9) := by
          intro h43
          obtain ⟨w, hw, hwe⟩ := hok.1 h43
          simp only at hwe
          have hcd : cdA cod n a = cod a := by rw [cdA, if_pos h1]
          have hb := back _ rfl
          simp only [pf1] at hb
          rw [if_pos h43, hwe, nI_clamp (by omega), ← hcd] at hb
          refine r_iconst M 1 dX1_perform_63 (by decide) ?_
          refine r_goto M 68 dX1_perform_64 (by decide) ?_
          refine r_istore M dX1_perform_68 (by decide) ?_
          refine r_iload M dX1_perform_70 rfl ?_
          refine r_if_eq M 85 dX1_perform_72 (by decide) (fun h9 => absurd h9 (by decide)) (fun _ => ?_)
          refine r_aload_n M dX1_perform_75 rfl ?_
          refine r_aload_n M dX1_perform_76 rfl ?_
          refine r_iload_n M dX1_perform_77 rfl ?_
          refine r_aload_n M dX1_perform_78 rfl ?_
          refine r_V3iu (w' :=  _) M (c_doTurn (nI o) z9 sts9 td9 cod n a w aw opt fig d9 hn (by omega) (by omega) (by rw [← hwe]; rfl)) lk_X1_38 dX1_perform_79 (by decide +kernel) ⟨Nat.le_of_ble_eq_true rfl, Nat.le_of_ble_eq_true rfl⟩ ⟨rfl, rfl⟩ [0, 1, 2, 3, 4, 5, 6, 7, 8, 9, 10, 11, 12, 13, 14] rfl rfl rfl (by decide +kernel) rfl (Nat.le_of_ble_eq_true rfl) rfl ?_
          refine r_goto M 92 dX1_perform_82 (by decide) ?_
          rw [show (if fgA (cdA cod n (a + 2)) = -1 then nI (a + 2) else nI (a + 3)) = nI (if fgA (cdA cod n (a + 2)) = -1 then a + 2 else a + 3) from by split <;> rfl]
          exact r_lvs M _ (lvs_c rfl (lvs_c rfl (lvs_c rfl (lvs_c rfl lvs_n)))) hb
        refine r_istore M dX1_perform_47 (by decide) ?_
        refine r_iload M dX1_perform_49 rfl ?_
        refine r_bipush M 43 dX1_perform_51 (by decide) ?_
        by_cases h43 : cod a = 43
        · refine r_icmp_eq M 63 dX1_perform_53 (by decide) (fun _ => ?_) (fun h9 => absurd h43 h9)
          exact r_lvs M _ (lvs_c rfl (lvs_c rfl (lvs_c rfl (lvs_c rfl (lvs_c rfl (lvs_c rfl lvs_n)))))) (turn (Or.inl h43))
        · refine r_icmp_eq M 63 dX1_perform_53 (by decide) (fun h9 => absurd h9 h43) (fun _ => ?_)
          refine r_iload M dX1_perform_56 rfl ?_
          refine r_bipush M 45 dX1_perform_58 (by decide) ?_
          by_cases h45 : cod a = 45
          · refine r_icmp_ne M 67 dX1_perform_60 (by decide) (fun h9 => absurd h45 h9) (fun _ => ?_)
            exact r_lvs M _ (lvs_c rfl (lvs_c rfl (lvs_c rfl (lvs_c rfl (lvs_c rfl (lvs_c rfl lvs_n)))))) (turn (Or.inr h45))
          · refine r_icmp_ne M 67 dX1_perform_60 (by decide) (fun _ => ?_) (fun h9 => absurd h9 h45)
            have h4 : ¬ (cod a = 43 ∨ cod a = 45) := fun z => z.elim h43 h45
            have hz : (pf1 cod n (a, o, sts9, td9, z9, 0, d9)).2.2.2.2.1 = z9 ∧ (pf1 cod n (a, o, sts9, td9, z9, 0, d9)).2.2.2.2.2.1 = 0 := by
              simp only [pf1]
              rw [if_neg h4]
              split
              · exact ⟨rfl, rfl⟩
              · split
                · exact ⟨rfl, rfl⟩
                · split
                  · exact ⟨rfl, rfl⟩
                  · split <;> exact ⟨rfl, rfl⟩
            have hb := back _ rfl
            rw [hz.1, hz.2] at hb
            refine r_iconst M 0 dX1_perform_67 (by decide) ?_
            refine r_istore M dX1_perform_68 (by decide) ?_
            refine r_iload M dX1_perform_70 rfl ?_
            refine r_if_eq M 85 dX1_perform_72 (by decide) (fun _ => ?_) (fun h9 => absurd rfl h9)
            refine r_aload_n M dX1_perform_85 rfl ?_
            refine r_aload_n M dX1_perform_86 rfl ?_
            refine r_iload_n M dX1_perform_87 rfl ?_
            refine r_aload_n M dX1_perform_88 rfl ?_
            refine r_V3iu (w' :=  _) M (c_doOther cod n aw opt fig hn a o sts9 td9 z9 0 d9 h1 h4 hok) lk_X1_42 dX1_perform_89 (by decide +kernel) ⟨Nat.le_of_ble_eq_true rfl, Nat.le_of_ble_eq_true rfl⟩ ⟨rfl, rfl⟩ [0, 1, 2, 3, 4, 5, 6, 7, 8, 9, 10, 11, 12, 13, 14] rfl rfl rfl (by decide +kernel) rfl (Nat.le_of_ble_eq_true rfl) rfl ?_
            exact r_lvs M _ (lvs_c rfl (lvs_c rfl (lvs_c rfl (lvs_c rfl lvs_n)))) hb
  refine r_aload_n M dX1_perform_0 rfl ?_
  refine r_iconst M 0 dX1_perform_1 (by decide) ?_
  refine r_put M fl_X1_18 ff_1_2 dX1_perform_2 rfl rfl rfl (fun _ => rfl) (Nat.le_of_ble_eq_true rfl) ?_
  refine r_aload_n M dX1_perform_5 rfl ?_
  refine r_iconst M 0 dX1_perform_6 (by decide) ?_
  refine r_put M fl_X1_22 ff_1_3 dX1_perform_7 rfl rfl rfl (fun _ => rfl) (Nat.le_of_ble_eq_true rfl) ?_
  refine r_aload_n M dX1_perform_10 rfl ?_
  refine r_iconst M 0 dX1_perform_11 (by decide) ?_
  refine r_put M fl_X1_25 ff_1_4 dX1_perform_12 rfl rfl rfl (fun _ => rfl) (Nat.le_of_ble_eq_true rfl) ?_
  refine r_iconst M 0 dX1_perform_15 (by decide) ?_
  refine r_istore_n M dX1_perform_16 (by decide) ?_
  refine r_iconst M 0 dX1_perform_17 (by decide) ?_
  refine r_istore M dX1_perform_18 (by decide) ?_
  exact r_lvs M _ (lvs_c rfl (lvs_c rfl (lvs_c rfl (lvs_c rfl (lvs_c rfl lvs_n))))) (loop m 0 0 0 sts td 0 0 d (by omega) hm0 h0 rfl)


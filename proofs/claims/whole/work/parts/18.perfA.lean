theorem awB_rng (aw op fig x : Int32) : (awB aw op fig x).1 = 6 ∨ ((awB aw op fig x).1 = 0 ∨ (awB aw op fig x).1 = 1 ∨ (awB aw op fig x).1 = 2 ∨ (awB aw op fig x).1 = 3 ∨ (awB aw op fig x).1 = 4 ∨ (awB aw op fig x).1 = 5) := by
  have hi : ∀ o, (inPt o x).1 = 6 ∨ ((inPt o x).1 = 0 ∨ (inPt o x).1 = 1 ∨ (inPt o x).1 = 2 ∨ (inPt o x).1 = 3 ∨ (inPt o x).1 = 4 ∨ (inPt o x).1 = 5) := by
    intro o
    simp only [inPt]
    split
    · simp only
      split <;> (first | decide | (dsimp only; decide))
    · split
      · dsimp only; decide
      · split
        · dsimp only; decide
        · split <;> (first | decide | (dsimp only; decide))
  have hb : ∀ o, (behP o x).1 = 6 ∨ ((behP o x).1 = 0 ∨ (behP o x).1 = 1 ∨ (behP o x).1 = 2 ∨ (behP o x).1 = 3 ∨ (behP o x).1 = 4 ∨ (behP o x).1 = 5) := by
    intro o
    simp only [behP]
    split
    · split <;> (first | decide | (dsimp only; decide))
    · exact hi o
  simp only [awB]
  split
  · simp only
    split <;> (first | decide | (dsimp only; decide))
  · split
    · split
      · simp only
        split <;> (first | decide | (dsimp only; decide))
      · exact hb op
    · split
      · exact hb op
      · split
        · simp only
          split <;> (first | decide | (dsimp only; decide))
        · split
          · simp only
            split <;> (first | decide | (dsimp only; decide))
          · exact hi op
/-- m characters read from place k on: where it ends, and the reader's state there -/
def rdN (cod : Nat → Int32) : Nat → Nat → Int32 × Int32 × Int32 → Nat × Int32 × Int32 × Int32
  | 0, k, s => (k, s)
  | m + 1, k, s => if (awB s.1 s.2.1 s.2.2 (cod k)).1 = 6 then (k, awB s.1 s.2.1 s.2.2 (cod k)) else rdN cod m (k + 1) (awB s.1 s.2.1 s.2.2 (cod k))
theorem c_read (cod : Nat → Int32) (n : Nat) (aw op fig : Int32) (hn : n ≤ 60) : Con yX3_read cX3_read 2 (some .int) (rmk 3 63) [.ref 0] (TW cod (nI n) aw op fig) (some (.int (nI (rdN cod n 0 (0, 0, fig)).1))) (TW cod (nI n) (rdN cod n 0 (0, 0, fig)).2.1 (rdN cod n 0 (0, 0, fig)).2.2.1 (rdN cod n 0 (0, 0, fig)).2.2.2) := by
  refine Con.of (own := RX3) (by decide) rfl (Nat.le_of_ble_eq_true rfl) rfl (fun B M => ?_)
  have loop : ∀ (m k : Nat) (s : Int32 × Int32 × Int32), k + m = n → (s.1 = 0 ∨ s.1 = 1 ∨ s.1 = 2 ∨ s.1 = 3 ∨ s.1 = 4 ∨ s.1 = 5) → rdN cod n 0 (0, 0, fig) = rdN cod m k s → B 12 [(0, .ref 0), (1, .int (nI k))] [] (TW cod (nI n) s.1 s.2.1 s.2.2) := by
    intro m
    induction m with
    | zero =>
      intro k s hk hs he
      obtain rfl : k = n := by omega
      rw [he, rdN] at M
      refine r_iload_n M dX3_read_12 rfl ?_
      refine r_aload_n M dX3_read_13 rfl ?_
      refine r_get M fl_X3_15 dX3_read_14 rfl rfl ?_
      refine r_icmp_ge M 50 dX3_read_17 (by decide) (fun _ => ?_) (fun h9 => absurd (nI_le (Nat.le_refl _) (by omega)) h9)
      refine r_aload_n M dX3_read_50 rfl ?_
      refine r_get M fl_X3_15 dX3_read_51 rfl rfl ?_
      exact r_iret M dX3_read_54 rfl rfl rfl
    | succ m ih =>
      intro k s hk hs he
      rw [rdN] at he
      refine r_iload_n M dX3_read_12 rfl ?_
      refine r_aload_n M dX3_read_13 rfl ?_
      refine r_get M fl_X3_15 dX3_read_14 rfl rfl ?_
      refine r_icmp_ge M 50 dX3_read_17 (by decide) (fun h9 => absurd h9 (nI_ge (by omega) (by omega))) (fun _ => ?_)
      refine r_aload_n M dX3_read_20 rfl ?_
      refine r_aload_n M dX3_read_21 rfl ?_
      refine r_aload_n M dX3_read_22 rfl ?_
      refine r_iload_n M dX3_read_23 rfl ?_
      refine r_V1ik M (c_codeAt cod n k s.1 s.2.1 s.2.2 hn (by omega)) lk_X3_19 dX3_read_24 (by decide +kernel) ⟨Nat.le_of_ble_eq_true rfl, Nat.le_of_ble_eq_true rfl⟩ ⟨rfl, rfl⟩ [0, 1] rfl rfl rfl (by decide +kernel) rfl (Nat.le_of_ble_eq_true rfl) ?_
      rw [show cdA cod n k = cod k from by rw [cdA, if_pos (by omega)]]
      refine r_V1iu (w' :=  TW cod (nI n) s.1 (awB s.1 s.2.1 s.2.2 (cod k)).2.1 (awB s.1 s.2.1 s.2.2 (cod k)).2.2) M (c_awB cod (nI n) s.1 s.2.1 s.2.2 (cod k) hs) lk_X3_29 dX3_read_27 (by decide +kernel) ⟨Nat.le_of_ble_eq_true rfl, Nat.le_of_ble_eq_true rfl⟩ ⟨rfl, rfl⟩ [0, 1] rfl rfl rfl (by decide +kernel) rfl (Nat.le_of_ble_eq_true rfl) rfl ?_
      refine r_put M fl_X3_23 ff_3_2 dX3_read_30 rfl rfl rfl (fun _ => rfl) (Nat.le_of_ble_eq_true rfl) ?_
      refine r_aload_n M dX3_read_33 rfl ?_
      refine r_get M fl_X3_23 dX3_read_34 rfl rfl ?_
      refine r_bipush M 6 dX3_read_37 (by decide) ?_
      by_cases h6 : (awB s.1 s.2.1 s.2.2 (cod k)).1 = 6
      · rw [if_pos h6] at he
        rw [he] at M
        refine r_icmp_ne M 44 dX3_read_39 (by decide) (fun h9 => absurd h6 h9) (fun _ => ?_)
        refine r_iload_n M dX3_read_42 rfl ?_
        exact r_iret M dX3_read_43 rfl rfl rfl
      · rw [if_neg h6] at he
        refine r_icmp_ne M 44 dX3_read_39 (by decide) (fun _ => ?_) (fun h9 => absurd h9 h6)
        refine r_iinc1 M dX3_read_44 rfl (by decide) ?_
        refine r_goto M 12 dX3_read_47 (by decide) ?_
        refine r_lvs M _ (lvs_c rfl (lvs_c ?_ lvs_n)) (ih (k + 1) (awB s.1 s.2.1 s.2.2 (cod k)) (by omega) ((awB_rng _ _ _ _).resolve_left h6) he)
        rw [← nI_1]; rfl
  refine r_aload_n M dX3_read_0 rfl ?_
  refine r_iconst M 0 dX3_read_1 (by decide) ?_
  refine r_put M fl_X3_23 ff_3_2 dX3_read_2 rfl rfl rfl (fun _ => rfl) (Nat.le_of_ble_eq_true rfl) ?_
  refine r_aload_n M dX3_read_5 rfl ?_
  refine r_iconst M 0 dX3_read_6 (by decide) ?_
  refine r_put M fl_X3_26 ff_3_3 dX3_read_7 rfl rfl rfl (fun _ => rfl) (Nat.le_of_ble_eq_true rfl) ?_
  refine r_iconst M 0 dX3_read_10 (by decide) ?_
  refine r_istore_n M dX3_read_11 (by decide) ?_
  exact r_lvs M _ (lvs_c rfl (lvs_c rfl lvs_n)) (loop n 0 (0, 0, fig) (by omega) (Or.inl rfl) rfl)
/-- the text is complete work -/
def cmpl (n : Nat) (r : Nat × Int32 × Int32 × Int32) : Bool := decide (r.1 = n ∧ r.2.2.1 = 0 ∧ (r.2.1 = 3 ∨ r.2.1 = 2))
theorem rdN_le (cod : Nat → Int32) : ∀ (m k : Nat) (s : Int32 × Int32 × Int32), k ≤ (rdN cod m k s).1 ∧ (rdN cod m k s).1 ≤ k + m
  | 0, k, s => ⟨Nat.le_refl _, Nat.le_refl _⟩
  | m + 1, k, s => by
    rw [rdN]
    split
    · exact ⟨Nat.le_refl _, by simp only; omega⟩
    · have := rdN_le cod m (k + 1) (awB s.1 s.2.1 s.2.2 (cod k))
      omega
theorem c_isComplete (cod : Nat → Int32) (n : Nat) (aw op fig : Int32) (hn : n ≤ 60) : Con yX3_isComplete cX3_isComplete 1 (some .boolean) (rmk 4 84) [.ref 0] (TW cod (nI n) aw op fig) (some (.int (b2i (cmpl n (rdN cod n 0 (0, 0, fig)))))) (TW cod (nI n) (rdN cod n 0 (0, 0, fig)).2.1 (rdN cod n 0 (0, 0, fig)).2.2.1 (rdN cod n 0 (0, 0, fig)).2.2.2) := by
  refine Con.of (own := RX3) (by decide) rfl (Nat.le_of_ble_eq_true rfl) rfl (fun B M => ?_)
  have hle := rdN_le cod n 0 (0, 0, fig)
  refine r_aload_n M dX3_isComplete_0 rfl ?_
  refine r_V0iu (w' :=  _) M (c_read cod n aw op fig hn) lk_X3_32 dX3_isComplete_1 (by decide +kernel) ⟨Nat.le_of_ble_eq_true rfl, Nat.le_of_ble_eq_true rfl⟩ ⟨rfl, rfl⟩ [0, 1] rfl rfl rfl (by decide +kernel) rfl (Nat.le_of_ble_eq_true rfl) rfl ?_
  generalize rdN cod n 0 (0, 0, fig) = r at M hle ⊢
  refine r_aload_n M dX3_isComplete_4 rfl ?_
  refine r_get M fl_X3_15 dX3_isComplete_5 rfl rfl ?_
  by_cases h1 : r.1 = n
  · refine r_icmp_ne M 38 dX3_isComplete_8 (by decide) (fun h9 => absurd (by rw [h1]) h9) (fun _ => ?_)
    refine r_aload_n M dX3_isComplete_11 rfl ?_
    refine r_get M fl_X3_26 dX3_isComplete_12 rfl rfl ?_
    refine r_if_ne M 38 dX3_isComplete_15 (by decide) (fun h2 => ?_) (fun h2 => ?_)
    · refine r_iconst M 0 dX3_isComplete_38 (by decide) ?_
      exact r_zret M dX3_isComplete_39 rfl rfl (by rw [cmpl, decide_eq_false (fun z => h2 z.2.1)]; rfl) rfl
    · refine r_aload_n M dX3_isComplete_18 rfl ?_
      refine r_get M fl_X3_23 dX3_isComplete_19 rfl rfl ?_
      refine r_iconst M 3 dX3_isComplete_22 (by decide) ?_
      refine r_icmp_eq M 34 dX3_isComplete_23 (by decide) (fun h3 => ?_) (fun h3 => ?_)
      · refine r_iconst M 1 dX3_isComplete_34 (by decide) ?_
        refine r_goto M 39 dX3_isComplete_35 (by decide) ?_
        exact r_zret M dX3_isComplete_39 rfl rfl (by rw [cmpl, decide_eq_true ⟨h1, h2, Or.inl h3⟩]; rfl) rfl
      · refine r_aload_n M dX3_isComplete_26 rfl ?_
        refine r_get M fl_X3_23 dX3_isComplete_27 rfl rfl ?_
        refine r_iconst M 2 dX3_isComplete_30 (by decide) ?_
        refine r_icmp_ne M 38 dX3_isComplete_31 (by decide) (fun h4 => ?_) (fun h4 => ?_)
        · refine r_iconst M 0 dX3_isComplete_38 (by decide) ?_
          exact r_zret M dX3_isComplete_39 rfl rfl (by rw [cmpl, decide_eq_false (fun z => z.2.2.elim h3 h4)]; rfl) rfl
        · refine r_iconst M 1 dX3_isComplete_34 (by decide) ?_
          refine r_goto M 39 dX3_isComplete_35 (by decide) ?_
          exact r_zret M dX3_isComplete_39 rfl rfl (by rw [cmpl, decide_eq_true ⟨h1, h2, Or.inr h4⟩]; rfl) rfl
  · refine r_icmp_ne M 38 dX3_isComplete_8 (by decide) (fun _ => ?_) (fun h9 => absurd h9 (fun z => h1 ((nI_eq (by omega) (by omega)).mp z)))
    refine r_iconst M 0 dX3_isComplete_38 (by decide) ?_
    exact r_zret M dX3_isComplete_39 rfl rfl (by rw [cmpl, decide_eq_false (fun z => h1 z.1)]; rfl) rfl
/-- the performer's cells -/
abbrev PW (op mk en : Int32) (sts td : Nat → Nat) : List va_E := [.inr (1, [.ref 1, .ref 2, .int op, .int mk, .int en]), .inl (0, 3, .inl (fun j => nI (sts j))), .inl (0, 3, .inl (fun j => nI (td j)))]
theorem nI_upd (f : Nat → Nat) (k x : Nat) : upd (fun j => nI (f j)) k (nI x) = fun j => nI (va_up f k x j) := by
  funext j
  simp only [upd, va_up]
  split <;> rfl
theorem c_openBr (o p : Nat) (mk en : Int32) (sts td : Nat → Nat) (ho : o < 3) : Con yX1_openBracket cX1_openBracket 2 none (rmk 0 0) [.ref 0, .int (nI p)] (PW (nI o) mk en sts td) none (PW (nI (o + 1)) mk en (va_up sts o p) (va_up td o 0)) := by
  refine Con.of (own := RX1) (by decide) rfl (Nat.le_of_ble_eq_true rfl) rfl (fun B M => ?_)
  rw [← nI_1] at M
  have hv : vp_in (nI o) 3 := vp_in_nI ho (by omega)
  refine r_aload_n M dX1_openBracket_0 rfl ?_
  refine r_get M fl_X1_18 dX1_openBracket_1 rfl rfl ?_
  refine r_if_lt M 45 dX1_openBracket_4 (by decide) (fun h9 => absurd h9 (nI_pos (by omega))) (fun _ => ?_)
  refine r_aload_n M dX1_openBracket_7 rfl ?_
  refine r_get M fl_X1_18 dX1_openBracket_8 rfl rfl ?_
  refine r_iconst M 3 dX1_openBracket_11 (by decide) ?_
  refine r_icmp_ge M 45 dX1_openBracket_12 (by decide) (fun h9 => absurd h9 (nI_geF (n := 3) rfl ho (by omega))) (fun _ => ?_)
  refine r_aload_n M dX1_openBracket_15 rfl ?_
  refine r_get M fl_X1_9 dX1_openBracket_16 rfl rfl ?_
  refine r_aload_n M dX1_openBracket_19 rfl ?_
  refine r_get M fl_X1_18 dX1_openBracket_20 rfl rfl ?_
  refine r_iload_n M dX1_openBracket_23 rfl ?_
  refine r_iast M dX1_openBracket_24 rfl hv ?_
  rw [cl5 o (by omega), nI_upd]
  refine r_aload_n M dX1_openBracket_25 rfl ?_
  refine r_get M fl_X1_15 dX1_openBracket_26 rfl rfl ?_
  refine r_aload_n M dX1_openBracket_29 rfl ?_
  refine r_get M fl_X1_18 dX1_openBracket_30 rfl rfl ?_
  refine r_iconst M 0 dX1_openBracket_33 (by decide) ?_
  refine r_iast M dX1_openBracket_34 rfl hv ?_
  rw [cl5 o (by omega), show (0 : Int32) = nI 0 from rfl, nI_upd]
  refine r_aload_n M dX1_openBracket_35 rfl ?_
  refine r_dup M dX1_openBracket_36 rfl ?_
  refine r_get M fl_X1_18 dX1_openBracket_37 rfl rfl ?_
  refine r_iconst M 1 dX1_openBracket_40 (by decide) ?_
  refine r_iadd M dX1_openBracket_41 ?_
  refine r_put M fl_X1_18 ff_1_2 dX1_openBracket_42 rfl rfl rfl (fun _ => rfl) (Nat.le_of_ble_eq_true rfl) ?_
  exact r_vret M dX1_openBracket_45 rfl rfl rfl
theorem c_closeBr (o t b : Nat) (mk en : Int32) (sts td : Nat → Nat) (ho : o < 3) (ht : t < 100) (htd : td o < 100) (hs : sts o < 100) : Con yX1_closeBracket cX1_closeBracket 4 (some .int) (rmk 0 0) [.ref 0, .int (nI t), .int (nI b)] (PW (nI (o + 1)) mk en sts td) (some (.int (if td o + 1 < t then nI (sts o) else nI b))) (PW (if td o + 1 < t then nI (o + 1) else nI o) mk en sts (va_up td o (td o + 1))) := by
  refine Con.of (own := RX1) (by decide) rfl (Nat.le_of_ble_eq_true rfl) rfl (fun B M => ?_)
  have hv : vp_in (nI o) 3 := vp_in_nI ho (by omega)
  have hc := cl5 o (by omega)
  refine r_aload_n M dX1_closeBracket_0 rfl ?_
  refine r_get M fl_X1_18 dX1_closeBracket_1 rfl rfl ?_
  refine r_iconst M 1 dX1_closeBracket_4 (by decide) ?_
  refine r_isub M dX1_closeBracket_5 ?_
  rw [nI_pred]
  refine r_istore_n M dX1_closeBracket_6 (by decide) ?_
  refine r_iload_n M dX1_closeBracket_7 rfl ?_
  refine r_if_lt M 16 dX1_closeBracket_8 (by decide) (fun h9 => absurd h9 (nI_pos (by omega))) (fun _ => ?_)
  refine r_iload_n M dX1_closeBracket_11 rfl ?_
  refine r_iconst M 3 dX1_closeBracket_12 (by decide) ?_
  refine r_icmp_lt M 18 dX1_closeBracket_13 (by decide) (fun _ => ?_) (fun h9 => absurd ((nI_ltI (b := 3) (by omega) (by omega)).mpr ho) h9)
  refine r_aload_n M dX1_closeBracket_18 rfl ?_
  refine r_get M fl_X1_15 dX1_closeBracket_19 rfl rfl ?_
  refine r_iload_n M dX1_closeBracket_22 rfl ?_
  refine r_dup2 M dX1_closeBracket_23 rfl rfl ?_
  refine r_iald M dX1_closeBracket_24 rfl hv ?_
  refine r_iconst M 1 dX1_closeBracket_25 (by decide) ?_
  refine r_iadd M dX1_closeBracket_26 ?_
  refine r_iast M dX1_closeBracket_27 rfl hv ?_
  rw [hc, nI_1, nI_upd]
  refine r_aload_n M dX1_closeBracket_28 rfl ?_
  refine r_get M fl_X1_15 dX1_closeBracket_29 rfl rfl ?_
  refine r_iload_n M dX1_closeBracket_32 rfl ?_
  refine r_iald M dX1_closeBracket_33 rfl hv ?_
  rw [hc, show va_up td o (td o + 1) o = td o + 1 by simp [va_up]]
  refine r_iload_n M dX1_closeBracket_34 rfl ?_
  by_cases h : td o + 1 < t
  · rw [if_pos h, if_pos h] at M
    refine r_icmp_ge M 45 dX1_closeBracket_35 (by decide) (fun h9 => absurd h9 (nI_ge h (by omega))) (fun _ => ?_)
    refine r_aload_n M dX1_closeBracket_38 rfl ?_
    refine r_get M fl_X1_9 dX1_closeBracket_39 rfl rfl ?_
    refine r_iload_n M dX1_closeBracket_42 rfl ?_
    refine r_iald M dX1_closeBracket_43 rfl hv ?_
    rw [hc]
    exact r_iret M dX1_closeBracket_44 rfl rfl rfl
  · rw [if_neg h, if_neg h] at M
    refine r_icmp_ge M 45 dX1_closeBracket_35 (by decide) (fun _ => ?_) (fun h9 => absurd (nI_le (by omega) (by omega)) h9)
    refine r_aload_n M dX1_closeBracket_45 rfl ?_
    refine r_iload_n M dX1_closeBracket_46 rfl ?_
    refine r_put M fl_X1_18 ff_1_2 dX1_closeBracket_47 rfl rfl rfl (fun _ => rfl) (Nat.le_of_ble_eq_true rfl) ?_
    refine r_iload_n M dX1_closeBracket_50 rfl ?_
    exact r_iret M dX1_closeBracket_51 rfl rfl rfl


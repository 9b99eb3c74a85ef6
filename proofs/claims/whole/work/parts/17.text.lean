/-- the buffer's cells -/
abbrev TW (cod : Nat → Int32) (len aw op fig : Int32) : List va_E := [.inr (3, [.ref 1, .int len, .int aw, .int op, .int fig]), .inl (0, 60, .inl cod)]
def btw (x a b : Int32) : Bool := decide (a ≤ x ∧ x ≤ b)
theorem c_isBetween (x a b : Int32) : Con yX3_isBetween cX3_isBetween 3 (some .boolean) (rmk 0 0) [.int x, .int a, .int b] [] (some (.int (b2i (btw x a b)))) [] := by
  refine Con.of (own := RX3) (by decide) rfl (Nat.le_of_ble_eq_true rfl) rfl (fun B M => ?_)
  refine r_iload_n M dX3_isBetween_0 rfl ?_
  refine r_iload_n M dX3_isBetween_1 rfl ?_
  refine r_icmp_lt M 14 dX3_isBetween_2 (by decide) (fun h => ?_) (fun h => ?_)
  · refine r_iconst M 0 dX3_isBetween_14 (by decide) ?_
    exact r_zret M dX3_isBetween_15 rfl rfl (by rw [btw, decide_eq_false (fun z => absurd h (Int32.not_lt.mpr z.1))]; rfl) rfl
  · refine r_iload_n M dX3_isBetween_5 rfl ?_
    refine r_iload_n M dX3_isBetween_6 rfl ?_
    refine r_icmp_gt M 14 dX3_isBetween_7 (by decide) (fun h2 => ?_) (fun h2 => ?_)
    · refine r_iconst M 0 dX3_isBetween_14 (by decide) ?_
      exact r_zret M dX3_isBetween_15 rfl rfl (by rw [btw, decide_eq_false (fun z => absurd h2 (Int32.not_lt.mpr z.2))]; rfl) rfl
    · refine r_iconst M 1 dX3_isBetween_10 (by decide) ?_
      refine r_goto M 15 dX3_isBetween_11 (by decide) ?_
      exact r_zret M dX3_isBetween_15 rfl rfl (by rw [btw, decide_eq_true ⟨Int32.not_lt.mp h, Int32.not_lt.mp h2⟩]; rfl) rfl
theorem c_add (cod : Nat → Int32) (n : Nat) (aw op fig x : Int32) (hn : n < 60) : Con yX3_add cX3_add 2 none (rmk 0 0) [.ref 0, .int x] (TW cod (nI n) aw op fig) none (TW (upd cod n x) (nI (n + 1)) aw op fig) := by
  refine Con.of (own := RX3) (by decide) rfl (Nat.le_of_ble_eq_true rfl) rfl (fun B M => ?_)
  rw [← nI_1] at M
  refine r_aload_n M dX3_add_0 rfl ?_
  refine r_get M fl_X3_15 dX3_add_1 rfl rfl ?_
  refine r_if_lt M 36 dX3_add_4 (by decide) (fun h9 => absurd h9 (nI_pos (by omega))) (fun _ => ?_)
  refine r_aload_n M dX3_add_7 rfl ?_
  refine r_get M fl_X3_15 dX3_add_8 rfl rfl ?_
  refine r_bipush M 60 dX3_add_11 (by decide) ?_
  refine r_icmp_ge M 36 dX3_add_13 (by decide) (fun h9 => absurd h9 (nI_geF (n := 60) rfl hn (by omega))) (fun _ => ?_)
  refine r_aload_n M dX3_add_16 rfl ?_
  refine r_get M fl_X3_9 dX3_add_17 rfl rfl ?_
  refine r_aload_n M dX3_add_20 rfl ?_
  refine r_get M fl_X3_15 dX3_add_21 rfl rfl ?_
  refine r_iload_n M dX3_add_24 rfl ?_
  refine r_iast M dX3_add_25 rfl (vp_in_nI hn (by omega)) ?_
  rw [cl5 n (by omega)]
  refine r_aload_n M dX3_add_26 rfl ?_
  refine r_dup M dX3_add_27 rfl ?_
  refine r_get M fl_X3_15 dX3_add_28 rfl rfl ?_
  refine r_iconst M 1 dX3_add_31 (by decide) ?_
  refine r_iadd M dX3_add_32 ?_
  refine r_put M fl_X3_15 ff_3_1 dX3_add_33 rfl rfl rfl (fun _ => rfl) (Nat.le_of_ble_eq_true rfl) ?_
  exact r_vret M dX3_add_36 rfl rfl rfl
/-- the code at a place, 0 behind the end -/
def cdA (cod : Nat → Int32) (n k : Nat) : Int32 := if k < n then cod k else 0
theorem c_codeAt (cod : Nat → Int32) (n k : Nat) (aw op fig : Int32) (hn : n ≤ 60) (hk : k ≤ 100) : Con yX3_codeAt cX3_codeAt 2 (some .int) (rmk 0 0) [.ref 0, .int (nI k)] (TW cod (nI n) aw op fig) (some (.int (cdA cod n k))) (TW cod (nI n) aw op fig) := by
  refine Con.of (own := RX3) (by decide) rfl (Nat.le_of_ble_eq_true rfl) rfl (fun B M => ?_)
  refine r_iload_n M dX3_codeAt_0 rfl ?_
  refine r_if_lt M 27 dX3_codeAt_1 (by decide) (fun h9 => absurd h9 (nI_pos (by omega))) (fun _ => ?_)
  refine r_iload_n M dX3_codeAt_4 rfl ?_
  refine r_aload_n M dX3_codeAt_5 rfl ?_
  refine r_get M fl_X3_15 dX3_codeAt_6 rfl rfl ?_
  by_cases h : k < n
  · refine r_icmp_ge M 27 dX3_codeAt_9 (by decide) (fun h9 => absurd h9 (nI_ge h (by omega))) (fun _ => ?_)
    refine r_iload_n M dX3_codeAt_12 rfl ?_
    refine r_bipush M 60 dX3_codeAt_13 (by decide) ?_
    refine r_icmp_ge M 27 dX3_codeAt_15 (by decide) (fun h9 => absurd h9 (nI_geF (n := 60) rfl (by omega) (by omega))) (fun _ => ?_)
    refine r_aload_n M dX3_codeAt_18 rfl ?_
    refine r_get M fl_X3_9 dX3_codeAt_19 rfl rfl ?_
    refine r_iload_n M dX3_codeAt_22 rfl ?_
    refine r_iald M dX3_codeAt_23 rfl (vp_in_nI (by omega) (by omega)) ?_
    rw [cl5 k (by omega)]
    refine r_goto M 28 dX3_codeAt_24 (by decide) ?_
    exact r_iret M dX3_codeAt_28 rfl (by rw [cdA, if_pos h]) rfl
  · refine r_icmp_ge M 27 dX3_codeAt_9 (by decide) (fun _ => ?_) (fun h9 => absurd (nI_le (by omega) (by omega)) h9)
    refine r_iconst M 0 dX3_codeAt_27 (by decide) ?_
    exact r_iret M dX3_codeAt_28 rfl (by rw [cdA, if_neg h]) rfl
def fgA (x : Int32) : Int32 := if btw x 48 57 = true then x - 48 else -1
theorem c_figureAt (cod : Nat → Int32) (n k : Nat) (aw op fig : Int32) (hn : n ≤ 60) (hk : k ≤ 100) : Con yX3_figureAt cX3_figureAt 3 (some .int) (rmk 1 21) [.ref 0, .int (nI k)] (TW cod (nI n) aw op fig) (some (.int (fgA (cdA cod n k)))) (TW cod (nI n) aw op fig) := by
  refine Con.of (own := RX3) (by decide) rfl (Nat.le_of_ble_eq_true rfl) rfl (fun B M => ?_)
  refine r_aload_n M dX3_figureAt_0 rfl ?_
  refine r_iload_n M dX3_figureAt_1 rfl ?_
  refine r_V1ik M (c_codeAt cod n k aw op fig hn hk) lk_X3_19 dX3_figureAt_2 (by decide +kernel) ⟨Nat.le_of_ble_eq_true rfl, Nat.le_of_ble_eq_true rfl⟩ ⟨rfl, rfl⟩ [0, 1] rfl rfl rfl (by decide +kernel) rfl (Nat.le_of_ble_eq_true rfl) ?_
  refine r_istore_n M dX3_figureAt_5 (by decide) ?_
  refine r_iload_n M dX3_figureAt_6 rfl ?_
  refine r_bipush M 48 dX3_figureAt_7 (by decide) ?_
  refine r_icmp_lt M 25 dX3_figureAt_9 (by decide) (fun h => ?_) (fun h => ?_)
  · refine r_iconst M (-1) dX3_figureAt_25 (by decide) ?_
    exact r_iret M dX3_figureAt_26 rfl (by rw [fgA, btw, decide_eq_false (fun z => absurd h (Int32.not_lt.mpr z.1))]; rfl) rfl
  · refine r_iload_n M dX3_figureAt_12 rfl ?_
    refine r_bipush M 57 dX3_figureAt_13 (by decide) ?_
    refine r_icmp_gt M 25 dX3_figureAt_15 (by decide) (fun h2 => ?_) (fun h2 => ?_)
    · refine r_iconst M (-1) dX3_figureAt_25 (by decide) ?_
      exact r_iret M dX3_figureAt_26 rfl (by rw [fgA, btw, decide_eq_false (fun z => absurd h2 (Int32.not_lt.mpr z.2))]; rfl) rfl
    · refine r_iload_n M dX3_figureAt_18 rfl ?_
      refine r_bipush M 48 dX3_figureAt_19 (by decide) ?_
      refine r_isub M dX3_figureAt_21 ?_
      refine r_goto M 26 dX3_figureAt_22 (by decide) ?_
      exact r_iret M dX3_figureAt_26 rfl (by rw [fgA, btw, decide_eq_true ⟨Int32.not_lt.mp h, Int32.not_lt.mp h2⟩]; rfl) rfl
/-- what the reader awaits behind a character where a part may begin -/
def inPt (op x : Int32) : Int32 × Int32 := if x = 40 then (if 3 < op + 1 then 6 else 0, op + 1) else if x = 43 ∨ x = 45 then (1, op) else if x = 107 then (4, op) else if x = 108 then (3, op) else (6, op)
theorem i32_ne {x : Int32} {c : Int32} {n : Int} (hc : c.toInt = n) (h : ¬ x = c) : ¬ n = x.toInt := fun e => h (Int32.toInt_inj.mp (by rw [hc]; exact e.symm))
theorem c_inPart (cod : Nat → Int32) (len aw op fig x : Int32) : Con yX3_awaitedInPart cX3_awaitedInPart 2 (some .int) (rmk 0 0) [.ref 0, .int x] (TW cod len aw op fig) (some (.int (inPt op x).1)) (TW cod len aw (inPt op x).2 fig) := by
  refine Con.of (own := RX3) (by decide) rfl (Nat.le_of_ble_eq_true rfl) rfl (fun B M => ?_)
  refine r_iload_n M dX3_awaitedInPart_0 rfl ?_
  by_cases h0 : x = 40
  · subst h0
    rw [inPt, if_pos rfl] at M
    refine r_look M 58 dX3_awaitedInPart_1 (by decide) (off := 57) (by decide) (by decide) ?_
    refine r_aload_n M dX3_awaitedInPart_58 rfl ?_
    refine r_dup M dX3_awaitedInPart_59 rfl ?_
    refine r_get M fl_X3_26 dX3_awaitedInPart_60 rfl rfl ?_
    refine r_iconst M 1 dX3_awaitedInPart_63 (by decide) ?_
    refine r_iadd M dX3_awaitedInPart_64 ?_
    refine r_put M fl_X3_26 ff_3_3 dX3_awaitedInPart_65 rfl rfl rfl (fun _ => rfl) (Nat.le_of_ble_eq_true rfl) ?_
    refine r_aload_n M dX3_awaitedInPart_68 rfl ?_
    refine r_get M fl_X3_26 dX3_awaitedInPart_69 rfl rfl ?_
    refine r_iconst M 3 dX3_awaitedInPart_72 (by decide) ?_
    refine r_icmp_gt M 80 dX3_awaitedInPart_73 (by decide) (fun h => ?_) (fun h => ?_)
    · refine r_bipush M 6 dX3_awaitedInPart_80 (by decide) ?_
      exact r_iret M dX3_awaitedInPart_82 rfl (by rw [if_pos h]) rfl
    · refine r_iconst M 0 dX3_awaitedInPart_76 (by decide) ?_
      refine r_goto M 82 dX3_awaitedInPart_77 (by decide) ?_
      exact r_iret M dX3_awaitedInPart_82 rfl (by rw [if_neg h]) rfl
  by_cases h1 : x = 43 ∨ x = 45
  · have e : inPt op x = (1, op) := by rw [inPt, if_neg h0, if_pos h1]
    rw [e] at M
    rcases h1 with rfl | rfl
    · refine r_look M 52 dX3_awaitedInPart_1 (by decide) (off := 51) (by decide) (by decide) ?_
      refine r_iconst M 1 dX3_awaitedInPart_52 (by decide) ?_
      exact r_iret M dX3_awaitedInPart_53 rfl rfl rfl
    · refine r_look M 52 dX3_awaitedInPart_1 (by decide) (off := 51) (by decide) (by decide) ?_
      refine r_iconst M 1 dX3_awaitedInPart_52 (by decide) ?_
      exact r_iret M dX3_awaitedInPart_53 rfl rfl rfl
  by_cases h2 : x = 107
  · have e : inPt op x = (4, op) := by rw [inPt, if_neg h0, if_neg h1, if_pos h2]
    rw [e] at M
    subst h2
    refine r_look M 54 dX3_awaitedInPart_1 (by decide) (off := 53) (by decide) (by decide) ?_
    refine r_iconst M 4 dX3_awaitedInPart_54 (by decide) ?_
    exact r_iret M dX3_awaitedInPart_55 rfl rfl rfl
  by_cases h3 : x = 108
  · have e : inPt op x = (3, op) := by rw [inPt, if_neg h0, if_neg h1, if_neg h2, if_pos h3]
    rw [e] at M
    subst h3
    refine r_look M 56 dX3_awaitedInPart_1 (by decide) (off := 55) (by decide) (by decide) ?_
    refine r_iconst M 3 dX3_awaitedInPart_56 (by decide) ?_
    exact r_iret M dX3_awaitedInPart_57 rfl rfl rfl
  have e : inPt op x = (6, op) := by rw [inPt, if_neg h0, if_neg h1, if_neg h2, if_neg h3]
  rw [e] at M
  have n0 := i32_ne (n := 40) rfl h0
  have n1 := i32_ne (n := 43) rfl (fun z => h1 (Or.inl z))
  have n2 := i32_ne (n := 45) rfl (fun z => h1 (Or.inr z))
  have n3 := i32_ne (n := 107) rfl h2
  have n4 := i32_ne (n := 108) rfl h3
  refine r_look M 83 dX3_awaitedInPart_1 (by decide) (off := 82) (by simp [Op.lookupswitch.offset, n0, n1, n2, n3, n4]) (by decide) ?_
  refine r_bipush M 6 dX3_awaitedInPart_83 (by decide) ?_
  exact r_iret M dX3_awaitedInPart_85 rfl rfl rfl
def behP (op x : Int32) : Int32 × Int32 := if x = 41 then (if 1 ≤ op then (5, op - 1) else (6, op)) else inPt op x
theorem c_behPart (cod : Nat → Int32) (len aw op fig x : Int32) : Con yX3_awaitedBehindPart cX3_awaitedBehindPart 2 (some .int) (rmk 1 21) [.ref 0, .int x] (TW cod len aw op fig) (some (.int (behP op x).1)) (TW cod len aw (behP op x).2 fig) := by
  refine Con.of (own := RX3) (by decide) rfl (Nat.le_of_ble_eq_true rfl) rfl (fun B M => ?_)
  refine r_iload_n M dX3_awaitedBehindPart_0 rfl ?_
  refine r_bipush M 41 dX3_awaitedBehindPart_1 (by decide) ?_
  refine r_icmp_eq M 12 dX3_awaitedBehindPart_3 (by decide) (fun h => ?_) (fun h => ?_)
  · rw [behP, if_pos h] at M
    refine r_aload_n M dX3_awaitedBehindPart_12 rfl ?_
    refine r_get M fl_X3_26 dX3_awaitedBehindPart_13 rfl rfl ?_
    refine r_iconst M 1 dX3_awaitedBehindPart_16 (by decide) ?_
    refine r_icmp_ge M 23 dX3_awaitedBehindPart_17 (by decide) (fun h2 => ?_) (fun h2 => ?_)
    · rw [if_pos h2] at M
      refine r_aload_n M dX3_awaitedBehindPart_23 rfl ?_
      refine r_dup M dX3_awaitedBehindPart_24 rfl ?_
      refine r_get M fl_X3_26 dX3_awaitedBehindPart_25 rfl rfl ?_
      refine r_iconst M 1 dX3_awaitedBehindPart_28 (by decide) ?_
      refine r_isub M dX3_awaitedBehindPart_29 ?_
      refine r_put M fl_X3_26 ff_3_3 dX3_awaitedBehindPart_30 rfl rfl rfl (fun _ => rfl) (Nat.le_of_ble_eq_true rfl) ?_
      refine r_iconst M 5 dX3_awaitedBehindPart_33 (by decide) ?_
      exact r_iret M dX3_awaitedBehindPart_34 rfl rfl rfl
    · rw [if_neg h2] at M
      refine r_bipush M 6 dX3_awaitedBehindPart_20 (by decide) ?_
      exact r_iret M dX3_awaitedBehindPart_22 rfl rfl rfl
  · rw [behP, if_neg h] at M
    refine r_aload_n M dX3_awaitedBehindPart_6 rfl ?_
    refine r_iload_n M dX3_awaitedBehindPart_7 rfl ?_
    refine r_V1iu (w' :=  TW cod len aw (inPt op x).2 fig) M (c_inPart cod len aw op fig x) lk_X3_46 dX3_awaitedBehindPart_8 (by decide +kernel) ⟨Nat.le_of_ble_eq_true rfl, Nat.le_of_ble_eq_true rfl⟩ ⟨rfl, rfl⟩ [0, 1] rfl rfl rfl (by decide +kernel) rfl (Nat.le_of_ble_eq_true rfl) rfl ?_
    exact r_iret M dX3_awaitedBehindPart_11 rfl rfl rfl
/-- a character read: what is awaited then, the open brackets, the latest first figure -/
def awB (aw op fig x : Int32) : Int32 × Int32 × Int32 :=
  if aw = 1 then (if btw x 49 57 = true then 2 else 6, op, x - 48)
  else if aw = 2 then (if btw x 48 57 = true then (if fig * 10 + x - 48 ≤ 60 then 3 else 6, op, fig) else ((behP op x).1, (behP op x).2, fig))
  else if aw = 3 then ((behP op x).1, (behP op x).2, fig)
  else if aw = 4 then (if btw x 48 52 = true then 3 else 6, op, fig)
  else if aw = 5 then (if btw x 50 57 = true then 3 else 6, op, fig)
  else ((inPt op x).1, (inPt op x).2, fig)
theorem c_awB (cod : Nat → Int32) (len aw op fig x : Int32) (haw : aw = 0 ∨ aw = 1 ∨ aw = 2 ∨ aw = 3 ∨ aw = 4 ∨ aw = 5) : Con yX3_awaitedBehind cX3_awaitedBehind 2 (some .int) (rmk 2 42) [.ref 0, .int x] (TW cod len aw op fig) (some (.int (awB aw op fig x).1)) (TW cod len aw (awB aw op fig x).2.1 (awB aw op fig x).2.2) := by
  refine Con.of (own := RX3) (by decide) rfl (Nat.le_of_ble_eq_true rfl) rfl (fun B M => ?_)
  refine r_aload_n M dX3_awaitedBehind_0 rfl ?_
  refine r_get M fl_X3_23 dX3_awaitedBehind_1 rfl rfl ?_
  rcases haw with rfl | rfl | rfl | rfl | rfl | rfl
  · refine r_tabOut M 149 dX3_awaitedBehind_4 (by decide) (by decide) ?_
    refine r_aload_n M dX3_awaitedBehind_149 rfl ?_
    refine r_iload_n M dX3_awaitedBehind_150 rfl ?_
    refine r_V1iu (w' :=  TW cod len 0 (inPt op x).2 fig) M (c_inPart cod len 0 op fig x) lk_X3_46 dX3_awaitedBehind_151 (by decide +kernel) ⟨Nat.le_of_ble_eq_true rfl, Nat.le_of_ble_eq_true rfl⟩ ⟨rfl, rfl⟩ [0, 1] rfl rfl rfl (by decide +kernel) rfl (Nat.le_of_ble_eq_true rfl) rfl ?_
    exact r_iret M dX3_awaitedBehind_154 rfl rfl rfl
  · refine r_tabIn M 40 dX3_awaitedBehind_4 (by decide) (by decide) (off := 36) (by decide) (by decide) ?_
    rw [awB, if_pos rfl] at M
    refine r_aload_n M dX3_awaitedBehind_40 rfl ?_
    refine r_iload_n M dX3_awaitedBehind_41 rfl ?_
    refine r_bipush M 48 dX3_awaitedBehind_42 (by decide) ?_
    refine r_isub M dX3_awaitedBehind_44 ?_
    refine r_put M fl_X3_36 ff_3_4 dX3_awaitedBehind_45 rfl rfl rfl (fun _ => rfl) (Nat.le_of_ble_eq_true rfl) ?_
    refine r_iload_n M dX3_awaitedBehind_48 rfl ?_
    refine r_bipush M 49 dX3_awaitedBehind_49 (by decide) ?_
    refine r_bipush M 57 dX3_awaitedBehind_51 (by decide) ?_
    refine r_S3ik M (c_isBetween _ _ _) lk_X3_39 dX3_awaitedBehind_53 (by decide +kernel) ⟨Nat.le_of_ble_eq_true rfl, Nat.le_of_ble_eq_true rfl⟩ ⟨rfl, rfl⟩ [] rfl (by decide +kernel) rfl (Nat.le_of_ble_eq_true rfl) ?_
    cases hb : btw x 49 57
    · rw [if_neg (by rw [hb]; decide)] at M
      refine r_if_eq M 63 dX3_awaitedBehind_56 (by decide) (fun _ => ?_) (fun h9 => absurd rfl h9)
      refine r_bipush M 6 dX3_awaitedBehind_63 (by decide) ?_
      exact r_iret M dX3_awaitedBehind_65 rfl rfl rfl
    · rw [if_pos hb] at M
      refine r_if_eq M 63 dX3_awaitedBehind_56 (by decide) (fun h9 => absurd h9 (by decide)) (fun _ => ?_)
      refine r_iconst M 2 dX3_awaitedBehind_59 (by decide) ?_
      refine r_goto M 65 dX3_awaitedBehind_60 (by decide) ?_
      exact r_iret M dX3_awaitedBehind_65 rfl rfl rfl
  · refine r_tabIn M 66 dX3_awaitedBehind_4 (by decide) (by decide) (off := 62) (by decide) (by decide) ?_
    rw [awB, if_neg (by decide), if_pos rfl] at M
    refine r_iload_n M dX3_awaitedBehind_66 rfl ?_
    refine r_bipush M 48 dX3_awaitedBehind_67 (by decide) ?_
    refine r_bipush M 57 dX3_awaitedBehind_69 (by decide) ?_
    refine r_S3ik M (c_isBetween _ _ _) lk_X3_39 dX3_awaitedBehind_71 (by decide +kernel) ⟨Nat.le_of_ble_eq_true rfl, Nat.le_of_ble_eq_true rfl⟩ ⟨rfl, rfl⟩ [] rfl (by decide +kernel) rfl (Nat.le_of_ble_eq_true rfl) ?_
    cases hb : btw x 48 57
    · rw [if_neg (by rw [hb]; decide)] at M
      refine r_if_eq M 101 dX3_awaitedBehind_74 (by decide) (fun _ => ?_) (fun h9 => absurd rfl h9)
      refine r_aload_n M dX3_awaitedBehind_101 rfl ?_
      refine r_iload_n M dX3_awaitedBehind_102 rfl ?_
      refine r_V1iu (w' :=  TW cod len 2 (behP op x).2 fig) M (c_behPart cod len 2 op fig x) lk_X3_43 dX3_awaitedBehind_103 (by decide +kernel) ⟨Nat.le_of_ble_eq_true rfl, Nat.le_of_ble_eq_true rfl⟩ ⟨rfl, rfl⟩ [0, 1] rfl rfl rfl (by decide +kernel) rfl (Nat.le_of_ble_eq_true rfl) rfl ?_
      exact r_iret M dX3_awaitedBehind_106 rfl rfl rfl
    · rw [if_pos hb] at M
      refine r_if_eq M 101 dX3_awaitedBehind_74 (by decide) (fun h9 => absurd h9 (by decide)) (fun _ => ?_)
      refine r_aload_n M dX3_awaitedBehind_77 rfl ?_
      refine r_get M fl_X3_36 dX3_awaitedBehind_78 rfl rfl ?_
      refine r_bipush M 10 dX3_awaitedBehind_81 (by decide) ?_
      refine r_imul M dX3_awaitedBehind_83 ?_
      refine r_iload_n M dX3_awaitedBehind_84 rfl ?_
      refine r_iadd M dX3_awaitedBehind_85 ?_
      refine r_bipush M 48 dX3_awaitedBehind_86 (by decide) ?_
      refine r_isub M dX3_awaitedBehind_88 ?_
      refine r_bipush M 60 dX3_awaitedBehind_89 (by decide) ?_
      refine r_icmp_gt M 98 dX3_awaitedBehind_91 (by decide) (fun h => ?_) (fun h => ?_)
      · rw [if_neg (Int32.not_le.mpr h)] at M
        refine r_bipush M 6 dX3_awaitedBehind_98 (by decide) ?_
        exact r_iret M dX3_awaitedBehind_100 rfl rfl rfl
      · rw [if_pos (Int32.not_lt.mp h)] at M
        refine r_iconst M 3 dX3_awaitedBehind_94 (by decide) ?_
        refine r_goto M 100 dX3_awaitedBehind_95 (by decide) ?_
        exact r_iret M dX3_awaitedBehind_100 rfl rfl rfl
  · refine r_tabIn M 107 dX3_awaitedBehind_4 (by decide) (by decide) (off := 103) (by decide) (by decide) ?_
    rw [awB, if_neg (by decide), if_neg (by decide), if_pos rfl] at M
    refine r_aload_n M dX3_awaitedBehind_107 rfl ?_
    refine r_iload_n M dX3_awaitedBehind_108 rfl ?_
    refine r_V1iu (w' :=  TW cod len 3 (behP op x).2 fig) M (c_behPart cod len 3 op fig x) lk_X3_43 dX3_awaitedBehind_109 (by decide +kernel) ⟨Nat.le_of_ble_eq_true rfl, Nat.le_of_ble_eq_true rfl⟩ ⟨rfl, rfl⟩ [0, 1] rfl rfl rfl (by decide +kernel) rfl (Nat.le_of_ble_eq_true rfl) rfl ?_
    exact r_iret M dX3_awaitedBehind_112 rfl rfl rfl
  · refine r_tabIn M 113 dX3_awaitedBehind_4 (by decide) (by decide) (off := 109) (by decide) (by decide) ?_
    rw [awB, if_neg (by decide), if_neg (by decide), if_neg (by decide), if_pos rfl] at M
    refine r_iload_n M dX3_awaitedBehind_113 rfl ?_
    refine r_bipush M 48 dX3_awaitedBehind_114 (by decide) ?_
    refine r_bipush M 52 dX3_awaitedBehind_116 (by decide) ?_
    refine r_S3ik M (c_isBetween _ _ _) lk_X3_39 dX3_awaitedBehind_118 (by decide +kernel) ⟨Nat.le_of_ble_eq_true rfl, Nat.le_of_ble_eq_true rfl⟩ ⟨rfl, rfl⟩ [] rfl (by decide +kernel) rfl (Nat.le_of_ble_eq_true rfl) ?_
    cases hb : btw x 48 52
    · rw [if_neg (by rw [hb]; decide)] at M
      refine r_if_eq M 128 dX3_awaitedBehind_121 (by decide) (fun _ => ?_) (fun h9 => absurd rfl h9)
      refine r_bipush M 6 dX3_awaitedBehind_128 (by decide) ?_
      exact r_iret M dX3_awaitedBehind_130 rfl rfl rfl
    · rw [if_pos hb] at M
      refine r_if_eq M 128 dX3_awaitedBehind_121 (by decide) (fun h9 => absurd h9 (by decide)) (fun _ => ?_)
      refine r_iconst M 3 dX3_awaitedBehind_124 (by decide) ?_
      refine r_goto M 130 dX3_awaitedBehind_125 (by decide) ?_
      exact r_iret M dX3_awaitedBehind_130 rfl rfl rfl
  · refine r_tabIn M 131 dX3_awaitedBehind_4 (by decide) (by decide) (off := 127) (by decide) (by decide) ?_
    rw [awB, if_neg (by decide), if_neg (by decide), if_neg (by decide), if_neg (by decide), if_pos rfl] at M
    refine r_iload_n M dX3_awaitedBehind_131 rfl ?_
    refine r_bipush M 50 dX3_awaitedBehind_132 (by decide) ?_
    refine r_bipush M 57 dX3_awaitedBehind_134 (by decide) ?_
    refine r_S3ik M (c_isBetween _ _ _) lk_X3_39 dX3_awaitedBehind_136 (by decide +kernel) ⟨Nat.le_of_ble_eq_true rfl, Nat.le_of_ble_eq_true rfl⟩ ⟨rfl, rfl⟩ [] rfl (by decide +kernel) rfl (Nat.le_of_ble_eq_true rfl) ?_
    cases hb : btw x 50 57
    · rw [if_neg (by rw [hb]; decide)] at M
      refine r_if_eq M 146 dX3_awaitedBehind_139 (by decide) (fun _ => ?_) (fun h9 => absurd rfl h9)
      refine r_bipush M 6 dX3_awaitedBehind_146 (by decide) ?_
      exact r_iret M dX3_awaitedBehind_148 rfl rfl rfl
    · rw [if_pos hb] at M
      refine r_if_eq M 146 dX3_awaitedBehind_139 (by decide) (fun h9 => absurd h9 (by decide)) (fun _ => ?_)
      refine r_iconst M 3 dX3_awaitedBehind_142 (by decide) ?_
      refine r_goto M 148 dX3_awaitedBehind_143 (by decide) ?_
      exact r_iret M dX3_awaitedBehind_148 rfl rfl rfl


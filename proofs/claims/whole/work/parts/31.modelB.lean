/-- the row behind a step: its single numbers -/
def stH (s : Nat → Int32) (x : Int32) : Nat → Int32 := if 0 < x then upd (upd (upd s 76 (s 76 + x)) 77 0) 78 (s 78 + 1) else upd (upd (upd s 76 (s 76 + x)) 77 0) 79 (s 79 + 1)
def stK (s : Nat → Int32) (x : Int32) (k : Nat) : Nat → Int32 := fun j => if 5 ≤ j ∧ j < 5 + k then (if s (j + 5) = 1 then md (s j + x) (s (j - 5)) else s j) else stH s x j
/-- the row behind a step -/
def stS (s : Nat → Int32) (x : Int32) : Nat → Int32 := stK s x 5
theorem upd_ne {f : Nat → Int32} {a b : Nat} {v : Int32} (h : b ≠ a) : upd f a v b = f b := by simp [upd, h]
theorem upd_eq {f : Nat → Int32} {a : Nat} {v : Int32} : upd f a v a = v := by simp [upd]
theorem stH_ne (s : Nat → Int32) (x : Int32) {j : Nat} (h1 : j ≠ 76) (h2 : j ≠ 77) (h3 : j ≠ 78) (h4 : j ≠ 79) : stH s x j = s j := by
  rw [stH]
  split
  · rw [upd_ne h3, upd_ne h2, upd_ne h1]
  · rw [upd_ne h4, upd_ne h2, upd_ne h1]
theorem stK_lo (s : Nat → Int32) (x : Int32) (k : Nat) {j : Nat} (h : j < 5 ∨ 5 + k ≤ j) (h1 : j < 76) : stK s x k j = s j := by
  rw [stK, if_neg (by omega)]
  exact stH_ne s x (by omega) (by omega) (by omega) (by omega)
theorem stK_0 (s : Nat → Int32) (x : Int32) : stK s x 0 = stH s x := by
  funext j
  rw [stK, if_neg (by omega)]
theorem stK_up (s : Nat → Int32) (x : Int32) (k : Nat) (hk : k < 5) (h : s (10 + k) = 1) : upd (stK s x k) (5 + k) (md (s (5 + k) + x) (s k)) = stK s x (k + 1) := by
  funext j
  by_cases hj : j = 5 + k
  · subst hj
    rw [upd_eq, stK, if_pos (by omega), show 5 + k + 5 = 10 + k by omega, if_pos h, show 5 + k - 5 = k by omega]
  · rw [upd_ne hj, stK, stK]
    by_cases h2 : 5 ≤ j ∧ j < 5 + k
    · rw [if_pos h2, if_pos (show 5 ≤ j ∧ j < 5 + (k + 1) by omega)]
    · rw [if_neg h2, if_neg (by omega)]
theorem stK_sk (s : Nat → Int32) (x : Int32) (k : Nat) (hk : k < 5) (h : ¬ s (10 + k) = 1) : stK s x k = stK s x (k + 1) := by
  funext j
  rw [stK, stK]
  by_cases h2 : 5 ≤ j ∧ j < 5 + k
  · rw [if_pos h2, if_pos (show 5 ≤ j ∧ j < 5 + (k + 1) by omega)]
  · rw [if_neg h2]
    by_cases hj : j = 5 + k
    · subst hj
      rw [if_pos (by omega), show 5 + k + 5 = 10 + k by omega, if_neg h]
      exact stH_ne s x (by omega) (by omega) (by omega) (by omega)
    · rw [if_neg (by omega)]
/-- a segment copied -/
def cpK (s : Nat → Int32) (a b k : Nat) : Nat → Int32 := fun j => if 172 * b ≤ j ∧ j < 172 * b + k then s (172 * a + (j - 172 * b)) else s j
def cpS (s : Nat → Int32) (a b : Nat) : Nat → Int32 := cpK s a b 172
theorem cpK_0 (s : Nat → Int32) (a b : Nat) : cpK s a b 0 = s := by
  funext j
  rw [cpK, if_neg (by omega)]
theorem cpK_up (s : Nat → Int32) (a b k : Nat) : upd (cpK s a b k) (172 * b + k) (s (172 * a + k)) = cpK s a b (k + 1) := by
  funext j
  by_cases hj : j = 172 * b + k
  · subst hj
    rw [upd_eq, cpK, if_pos (by omega)]
    congr 1
    omega
  · rw [upd_ne hj, cpK, cpK]
    by_cases h2 : 172 * b ≤ j ∧ j < 172 * b + k
    · rw [if_pos h2, if_pos (by omega)]
    · rw [if_neg h2, if_neg (by omega)]
theorem cpK_rd (s : Nat → Int32) {a b k : Nat} (hab : a ≠ b) (hk : k < 172) : cpK s a b k (172 * a + k) = s (172 * a + k) := by
  rw [cpK, if_neg (by omega)]
/-- the row behind a save -/
def svS (s : Nat → Int32) (v : Nat) : Nat → Int32 := if v < 6 then cpS s 0 (v + 1) else cpS (cpS (cpS (cpS (cpS (cpS s 2 1) 3 2) 4 3) 5 4) 6 5) 0 6
/-- k steps made -/
def stIt (x : Int32) : Nat → (Nat → Int32) → (Nat → Int32)
  | 0, s => s
  | k + 1, s => stIt x k (stS s x)
theorem tLk_at (te to : Nat → Int32) (lo : Nat → Bool) (x : Int32) {w m b : Nat} (h1 : 2 ≤ m) (h2 : m ≤ 12) (h3 : te w = nI m) : ∃ b' : Nat, (lo w = true → b' < m) ∧ (lo w = true → tLk te to lo x w = nI b') ∧ (lo w = false → tLk te to lo x w = to w) := by
  obtain ⟨t, ht, het⟩ := vp_in_of (md_in (v := to w + x) (d := te w) (n := m) (by rw [h3, nI_toInt (by omega)]) (by omega)) (by omega)
  exact ⟨t, fun _ => ht, fun h => by rw [tLk, if_pos h, het], fun h => by rw [tLk, if_neg (by rw [h]; decide)]⟩
theorem SOk_step {d : SD} (h : SOk d) (x : Int32) : SOk (stepD d x) := by
  refine ⟨fun w h5 => ?_, h.2⟩
  obtain ⟨m, b, h1, h2, h3, h4, h6⟩ := h.1 w h5
  obtain ⟨b', q1, q2, q3⟩ := tLk_at (b := b) (sTe d) (sTo d) (sLo d) x h1 h2 h3
  cases hl : sLo d w
  · exact ⟨m, b, h1, h2, h3, h4, by show tLk (sTe d) (sTo d) (sLo d) x w = _; rw [q3 hl]; exact h6⟩
  · exact ⟨m, b', h1, h2, h3, q1 hl, q2 hl⟩
theorem Rp_step {s : Nat → Int32} {d : SD} (hR : Rp s d) (hO : SOk d) (x : Int32) : Rp (stS s x) (stepD d x) := by
  obtain ⟨r1, r2, r3, r4, r5, r6, r7, r8, r9, r10, r11, r12, r13⟩ := hR
  have lo : ∀ j, (j < 5 ∨ 10 ≤ j) → j < 76 → stS s x j = s j := fun j h h2 => stK_lo s x 5 (by omega) h2
  have hi : ∀ j, 80 ≤ j → stS s x j = s j := fun j h => by
    rw [stS, stK, if_neg (by omega)]
    exact stH_ne s x (by omega) (by omega) (by omega) (by omega)
  have mi : ∀ j, 76 ≤ j → stS s x j = stH s x j := fun j h => by rw [stS, stK, if_neg (by omega)]
  refine ⟨fun w h => ?_, fun w h => ?_, fun w h => ?_, fun w h k hk => ?_, ?_, ?_, ?_, ?_, ?_, ?_, ?_, fun k hk => ?_, fun k hk => ?_⟩
  · rw [lo w (by omega) (by omega)]; exact r1 w h
  · show stS s x (5 + w) = tLk (sTe d) (sTo d) (sLo d) x w
    rw [stS, stK, if_pos (by omega), show 5 + w + 5 = 10 + w by omega, show 5 + w - 5 = w by omega, r3 w h, r2 w h, r1 w h, tLk]
    cases sLo d w <;> rfl
  · rw [lo (10 + w) (by omega) (by omega)]; exact r3 w h
  · obtain ⟨m, b, h1, h2, h3, -⟩ := hO.1 w h
    have hk2 : k < (sTe d w).toNatClampNeg := hk
    rw [h3, cl5 m (by omega)] at hk2
    rw [lo (15 + 12 * w + k) (by omega) (by omega)]
    exact r4 w h k hk
  · rw [lo 75 (by omega) (by omega)]; exact r5
  · rw [mi 76 (by omega), stH]
    split
    · rw [upd_ne (by omega), upd_ne (by omega), upd_eq, r6]; rfl
    · rw [upd_ne (by omega), upd_ne (by omega), upd_eq, r6]; rfl
  · rw [mi 77 (by omega), stH]
    split
    · rw [upd_ne (by omega), upd_eq]; rfl
    · rw [upd_ne (by omega), upd_eq]; rfl
  · rw [mi 78 (by omega), stH]
    show _ = (if 0 < x then sSf d + 1 else sSf d)
    split
    · rw [upd_eq, r8]
    · rw [upd_ne (by omega), upd_ne (by omega), upd_ne (by omega), r8]
  · rw [mi 79 (by omega), stH]
    show _ = (if 0 < x then sSb d else sSb d + 1)
    split
    · rw [upd_ne (by omega), upd_ne (by omega), upd_ne (by omega), r9]
    · rw [upd_eq, r9]
  · rw [hi 80 (by omega)]; exact r10
  · rw [hi 81 (by omega)]; exact r11
  · rw [hi (82 + k) (by omega)]; exact r12 k hk
  · rw [hi (112 + k) (by omega)]; exact r13 k hk
section
variable (th sv ln at9 pt nm op : Int32) (kp : Bool) (hs : Int64) (s tx bg tm : Nat → Int32)
theorem c_steps {d : SD} (hR : Rp s d) (hO : SOk d) (x : Int32) : Con yX6_steps cX6_steps 3 none (rmk 1 22) [.ref 0, .int x] (MW th sv ln at9 pt nm op kp hs s tx bg tm) none (MW th sv ln at9 pt nm op kp hs (stS s x) tx bg tm) := by
  refine Con.of (own := RX6) (by decide) rfl (Nat.le_of_ble_eq_true rfl) rfl (fun B M => ?_)
  have loop : ∀ r k : Nat, k + r = 5 → B 41 [(0, .ref 0), (1, .int x), (2, .int (nI k))] [] (MW th sv ln at9 pt nm op kp hs (stK s x k) tx bg tm) := by
    intro r
    induction r with
    | zero =>
      intro k hk
      obtain rfl : k = 5 := by omega
      refine r_iload_n M dX6_steps_41 rfl ?_
      refine r_iconst M 5 dX6_steps_42 (by decide) ?_
      refine r_icmp_ge M 94 dX6_steps_43 (by decide) (fun _ => ?_) (fun h9 => absurd (nI_geT (n := 5) rfl (by omega) (by omega)) h9)
      exact r_vret M dX6_steps_94 rfl rfl rfl
    | succ r ih =>
      intro k hk
      obtain ⟨m, b, h1, h2, h3, h4, h6⟩ := hO.1 k (by omega)
      have e10 : (10 : Int32) + nI k = nI (10 + k) := nI_add 10 k
      have e5 : (5 : Int32) + nI k = nI (5 + k) := nI_add 5 k
      have e0 : (0 : Int32) + nI k = nI k := by rw [show (0 : Int32) = nI 0 from rfl, nI_add, Nat.zero_add]
      have nx := ih (k + 1) (by omega)
      refine r_iload_n M dX6_steps_41 rfl ?_
      refine r_iconst M 5 dX6_steps_42 (by decide) ?_
      refine r_icmp_ge M 94 dX6_steps_43 (by decide) (fun h9 => absurd h9 (nI_geF (n := 5) rfl (by omega) (by omega))) (fun _ => ?_)
      refine r_aload_n M dX6_steps_46 rfl ?_
      refine r_get M fl_X6_7 dX6_steps_47 rfl rfl ?_
      refine r_bipush M 10 dX6_steps_50 (by decide) ?_
      refine r_iload_n M dX6_steps_52 rfl ?_
      refine r_iadd M dX6_steps_53 ?_
      rw [e10]
      refine r_iald M dX6_steps_54 rfl (s_in (by omega)) ?_
      rw [cl_s (by omega), stK_lo s x k (by omega) (by omega)]
      refine r_iconst M 1 dX6_steps_55 (by decide) ?_
      by_cases h : s (10 + k) = 1
      · refine r_icmp_ne M 88 dX6_steps_56 (by decide) (fun h9 => absurd h h9) (fun _ => ?_)
        refine r_aload_n M dX6_steps_59 rfl ?_
        refine r_get M fl_X6_7 dX6_steps_60 rfl rfl ?_
        refine r_iconst M 5 dX6_steps_63 (by decide) ?_
        refine r_iload_n M dX6_steps_64 rfl ?_
        refine r_iadd M dX6_steps_65 ?_
        refine r_aload_n M dX6_steps_66 rfl ?_
        refine r_get M fl_X6_7 dX6_steps_67 rfl rfl ?_
        refine r_iconst M 5 dX6_steps_70 (by decide) ?_
        refine r_iload_n M dX6_steps_71 rfl ?_
        refine r_iadd M dX6_steps_72 ?_
        rw [e5]
        refine r_iald M dX6_steps_73 rfl (s_in (by omega)) ?_
        rw [cl_s (by omega), stK_lo s x k (by omega) (by omega)]
        refine r_iload_n M dX6_steps_74 rfl ?_
        refine r_iadd M dX6_steps_75 ?_
        refine r_aload_n M dX6_steps_76 rfl ?_
        refine r_get M fl_X6_7 dX6_steps_77 rfl rfl ?_
        refine r_iconst M 0 dX6_steps_80 (by decide) ?_
        refine r_iload_n M dX6_steps_81 rfl ?_
        refine r_iadd M dX6_steps_82 ?_
        rw [e0]
        refine r_iald M dX6_steps_83 rfl (s_in (by omega)) ?_
        rw [cl_s (by omega), stK_lo s x k (by omega) (by omega)]
        refine r_S2ik M (c_leftOver _ _ (by rw [hR.1 k (by omega), h3]; exact le1 (by omega) (by omega))) lk_X6_30 dX6_steps_84 (by decide +kernel) ⟨Nat.le_of_ble_eq_true rfl, Nat.le_of_ble_eq_true rfl⟩ ⟨rfl, rfl⟩ [] rfl (by decide +kernel) rfl (Nat.le_of_ble_eq_true rfl) ?_
        refine r_iast M dX6_steps_87 rfl (s_in (by omega)) ?_
        rw [cl_s (by omega), stK_up s x k (by omega) h]
        refine r_iinc1 M dX6_steps_88 rfl (by decide) ?_
        refine r_goto M 41 dX6_steps_91 (by decide) ?_
        refine r_lvs M _ (lvs_c rfl (lvs_c rfl (lvs_c ?_ lvs_n))) nx
        rw [← nI_1]; rfl
      · rw [← stK_sk s x k (by omega) h] at nx
        refine r_icmp_ne M 88 dX6_steps_56 (by decide) (fun _ => ?_) (fun h9 => absurd h9 h)
        refine r_iinc1 M dX6_steps_88 rfl (by decide) ?_
        refine r_goto M 41 dX6_steps_91 (by decide) ?_
        refine r_lvs M _ (lvs_c rfl (lvs_c rfl (lvs_c ?_ lvs_n))) nx
        rw [← nI_1]; rfl
  have l0 := loop 5 0 rfl
  rw [stK_0] at l0
  refine r_aload_n M dX6_steps_0 rfl ?_
  refine r_get M fl_X6_7 dX6_steps_1 rfl rfl ?_
  refine r_bipush M 76 dX6_steps_4 (by decide) ?_
  refine r_dup2 M dX6_steps_6 rfl rfl ?_
  refine r_iald M dX6_steps_7 rfl (s_in (j := 76) (by omega)) ?_
  refine r_iload_n M dX6_steps_8 rfl ?_
  refine r_iadd M dX6_steps_9 ?_
  refine r_iast M dX6_steps_10 rfl (s_in (j := 76) (by omega)) ?_
  refine r_aload_n M dX6_steps_11 rfl ?_
  refine r_get M fl_X6_7 dX6_steps_12 rfl rfl ?_
  refine r_bipush M 77 dX6_steps_15 (by decide) ?_
  refine r_iconst M 0 dX6_steps_17 (by decide) ?_
  refine r_iast M dX6_steps_18 rfl (s_in (j := 77) (by omega)) ?_
  refine r_aload_n M dX6_steps_19 rfl ?_
  refine r_get M fl_X6_7 dX6_steps_20 rfl rfl ?_
  refine r_iload_n M dX6_steps_23 rfl ?_
  by_cases hx : 0 < x
  · refine r_if_le M 32 dX6_steps_24 (by decide) (fun h9 => absurd h9 (Int32.not_le.mpr hx)) (fun _ => ?_)
    refine r_bipush M 78 dX6_steps_27 (by decide) ?_
    refine r_goto M 34 dX6_steps_29 (by decide) ?_
    refine r_dup2 M dX6_steps_34 rfl rfl ?_
    refine r_iald M dX6_steps_35 rfl (s_in (j := 78) (by omega)) ?_
    refine r_iconst M 1 dX6_steps_36 (by decide) ?_
    refine r_iadd M dX6_steps_37 ?_
    refine r_iast M dX6_steps_38 rfl (s_in (j := 78) (by omega)) ?_
    refine r_iconst M 0 dX6_steps_39 (by decide) ?_
    refine r_istore_n M dX6_steps_40 (by decide) ?_
    rw [stH, if_pos hx] at l0
    exact r_lvs M _ (lvs_c rfl (lvs_c rfl (lvs_c rfl lvs_n))) l0
  · refine r_if_le M 32 dX6_steps_24 (by decide) (fun _ => ?_) (fun h9 => absurd (Int32.not_lt.mp hx) h9)
    refine r_bipush M 79 dX6_steps_32 (by decide) ?_
    refine r_dup2 M dX6_steps_34 rfl rfl ?_
    refine r_iald M dX6_steps_35 rfl (s_in (j := 79) (by omega)) ?_
    refine r_iconst M 1 dX6_steps_36 (by decide) ?_
    refine r_iadd M dX6_steps_37 ?_
    refine r_iast M dX6_steps_38 rfl (s_in (j := 79) (by omega)) ?_
    refine r_iconst M 0 dX6_steps_39 (by decide) ?_
    refine r_istore_n M dX6_steps_40 (by decide) ?_
    rw [stH, if_neg hx] at l0
    exact r_lvs M _ (lvs_c rfl (lvs_c rfl (lvs_c rfl lvs_n))) l0
theorem c_copies (a b : Nat) (ha : a < 8) (hb : b < 8) (hab : a ≠ b) : Con yX6_copies cX6_copies 4 none (rmk 0 0) [.ref 0, .int (nI a), .int (nI b)] (MW th sv ln at9 pt nm op kp hs s tx bg tm) none (MW th sv ln at9 pt nm op kp hs (cpS s a b) tx bg tm) := by
  refine Con.of (own := RX6) (by decide) rfl (Nat.le_of_ble_eq_true rfl) rfl (fun B M => ?_)
  have loop : ∀ r k : Nat, k + r = 172 → B 2 [(0, .ref 0), (1, .int (nI a)), (2, .int (nI b)), (3, .int (nI k))] [] (MW th sv ln at9 pt nm op kp hs (cpK s a b k) tx bg tm) := by
    intro r
    induction r with
    | zero =>
      intro k hk
      obtain rfl : k = 172 := by omega
      refine r_iload_n M dX6_copies_2 rfl ?_
      refine r_sipush M 172 dX6_copies_3 (by decide) ?_
      refine r_icmp_ge M 39 dX6_copies_6 (by decide) (fun _ => ?_) (fun h9 => absurd (nI_geT (n := 172) rfl (by omega) (by omega)) h9)
      exact r_vret M dX6_copies_39 rfl rfl rfl
    | succ r ih =>
      intro k hk
      have e1 : ∀ z : Nat, (172 : Int32) * nI z + nI k = nI (172 * z + k) := fun z => by rw [show (172 : Int32) = nI 172 from rfl, pk_mul, nI_add]
      refine r_iload_n M dX6_copies_2 rfl ?_
      refine r_sipush M 172 dX6_copies_3 (by decide) ?_
      refine r_icmp_ge M 39 dX6_copies_6 (by decide) (fun h9 => absurd h9 (nI_geF (n := 172) rfl (by omega) (by omega))) (fun _ => ?_)
      refine r_aload_n M dX6_copies_9 rfl ?_
      refine r_get M fl_X6_7 dX6_copies_10 rfl rfl ?_
      refine r_sipush M 172 dX6_copies_13 (by decide) ?_
      refine r_iload_n M dX6_copies_16 rfl ?_
      refine r_imul M dX6_copies_17 ?_
      refine r_iload_n M dX6_copies_18 rfl ?_
      refine r_iadd M dX6_copies_19 ?_
      refine r_aload_n M dX6_copies_20 rfl ?_
      refine r_get M fl_X6_7 dX6_copies_21 rfl rfl ?_
      refine r_sipush M 172 dX6_copies_24 (by decide) ?_
      refine r_iload_n M dX6_copies_27 rfl ?_
      refine r_imul M dX6_copies_28 ?_
      refine r_iload_n M dX6_copies_29 rfl ?_
      refine r_iadd M dX6_copies_30 ?_
      rw [e1, e1]
      refine r_iald M dX6_copies_31 rfl (s_in (by omega)) ?_
      rw [cl_s (by omega), cpK_rd s hab (by omega)]
      refine r_iast M dX6_copies_32 rfl (s_in (by omega)) ?_
      rw [cl_s (by omega), cpK_up]
      refine r_iinc1 M dX6_copies_33 rfl (by decide) ?_
      refine r_goto M 2 dX6_copies_36 (by decide) ?_
      refine r_lvs M _ (lvs_c rfl (lvs_c rfl (lvs_c rfl (lvs_c ?_ lvs_n)))) (ih (k + 1) (by omega))
      rw [← nI_1]; rfl
  have l0 := loop 172 0 rfl
  rw [cpK_0] at l0
  refine r_iconst M 0 dX6_copies_0 (by decide) ?_
  refine r_istore_n M dX6_copies_1 (by decide) ?_
  exact r_lvs M _ (lvs_c rfl (lvs_c rfl (lvs_c rfl (lvs_c rfl lvs_n)))) l0
end
section
variable (th ln at9 pt nm op : Int32) (kp : Bool) (hs : Int64) (s tx bg tm : Nat → Int32)
theorem c_save (v : Nat) (hv : v ≤ 6) : Con yX6_save cX6_save 2 none (rmk 1 23) [.ref 0] (MW th (nI v) ln at9 pt nm op kp hs s tx bg tm) none (MW th (nI (puK v)) ln at9 pt nm op kp hs (svS s v) tx bg tm) := by
  refine Con.of (own := RX6) (by decide) rfl (Nat.le_of_ble_eq_true rfl) rfl (fun B M => ?_)
  rw [puK, svS] at M
  refine r_iconst M 1 dX6_save_0 (by decide) ?_
  refine r_istore_n M dX6_save_1 (by decide) ?_
  refine r_iload_n M dX6_save_2 rfl ?_
  refine r_bipush M 6 dX6_save_3 (by decide) ?_
  refine r_icmp_ge M 31 dX6_save_5 (by decide) (fun h9 => absurd h9 (by decide)) (fun _ => ?_)
  refine r_aload_n M dX6_save_8 rfl ?_
  refine r_get M fl_X6_56 dX6_save_9 rfl rfl ?_
  refine r_bipush M 6 dX6_save_12 (by decide) ?_
  by_cases h : v < 6
  · rw [if_pos h, if_pos h] at M
    refine r_icmp_ne M 31 dX6_save_14 (by decide) (fun _ => ?_) (fun h9 => absurd h9 (fun z => by have := (nI_eq (b := 6) (by omega) (by omega)).mp z; omega))
    refine r_aload_n M dX6_save_31 rfl ?_
    refine r_dup M dX6_save_32 rfl ?_
    refine r_get M fl_X6_56 dX6_save_33 rfl rfl ?_
    refine r_aload_n M dX6_save_36 rfl ?_
    refine r_get M fl_X6_56 dX6_save_37 rfl rfl ?_
    refine r_bipush M 6 dX6_save_40 (by decide) ?_
    refine r_icmp_ge M 49 dX6_save_42 (by decide) (fun h9 => absurd h9 (nI_geF (n := 6) rfl h (by omega))) (fun _ => ?_)
    refine r_iconst M 1 dX6_save_45 (by decide) ?_
    refine r_goto M 50 dX6_save_46 (by decide) ?_
    refine r_iadd M dX6_save_50 ?_
    rw [nI_1]
    refine r_put M fl_X6_56 ff_6_2 dX6_save_51 rfl rfl rfl (fun _ => rfl) (Nat.le_of_ble_eq_true rfl) ?_
    refine r_aload_n M dX6_save_54 rfl ?_
    refine r_iconst M 0 dX6_save_55 (by decide) ?_
    refine r_aload_n M dX6_save_56 rfl ?_
    refine r_get M fl_X6_56 dX6_save_57 rfl rfl ?_
    refine r_V2vu (w' :=  _) M (c_copies th (nI (v + 1)) ln at9 pt nm op kp hs s tx bg tm 0 (v + 1) (by omega) (by omega) (by omega)) lk_X6_59 dX6_save_60 (by decide +kernel) ⟨Nat.le_of_ble_eq_true rfl, Nat.le_of_ble_eq_true rfl⟩ ⟨rfl, rfl⟩ [0, 1, 2, 3, 4] rfl rfl rfl (by decide +kernel) rfl (Nat.le_of_ble_eq_true rfl) rfl ?_
    exact r_vret M dX6_save_63 rfl rfl rfl
  · rw [if_neg h, if_neg h] at M
    obtain rfl : v = 6 := by omega
    refine r_icmp_ne M 31 dX6_save_14 (by decide) (fun h9 => absurd rfl h9) (fun _ => ?_)
    refine r_aload_n M dX6_save_17 rfl ?_
    refine r_iload_n M dX6_save_18 rfl ?_
    refine r_iconst M 1 dX6_save_19 (by decide) ?_
    refine r_iadd M dX6_save_20 ?_
    refine r_iload_n M dX6_save_21 rfl ?_
    refine r_V2vu (w' :=  MW th (nI 6) ln at9 pt nm op kp hs (cpS s 2 1) tx bg tm) M (c_copies th (nI 6) ln at9 pt nm op kp hs s tx bg tm 2 1 (by omega) (by omega) (by omega)) lk_X6_59 dX6_save_22 (by decide +kernel) ⟨Nat.le_of_ble_eq_true rfl, Nat.le_of_ble_eq_true rfl⟩ ⟨rfl, rfl⟩ [0, 1, 2, 3, 4] rfl rfl rfl (by decide +kernel) rfl (Nat.le_of_ble_eq_true rfl) rfl ?_
    refine r_iinc1 M dX6_save_25 rfl (by decide) ?_
    refine r_goto M 2 dX6_save_28 (by decide) ?_
    generalize cpS s 2 1 = s1 at M ⊢
    refine r_iload_n M dX6_save_2 rfl ?_
    refine r_bipush M 6 dX6_save_3 (by decide) ?_
    refine r_icmp_ge M 31 dX6_save_5 (by decide) (fun h9 => absurd h9 (by decide)) (fun _ => ?_)
    refine r_aload_n M dX6_save_8 rfl ?_
    refine r_get M fl_X6_56 dX6_save_9 rfl rfl ?_
    refine r_bipush M 6 dX6_save_12 (by decide) ?_
    refine r_icmp_ne M 31 dX6_save_14 (by decide) (fun h9 => absurd rfl h9) (fun _ => ?_)
    refine r_aload_n M dX6_save_17 rfl ?_
    refine r_iload_n M dX6_save_18 rfl ?_
    refine r_iconst M 1 dX6_save_19 (by decide) ?_
    refine r_iadd M dX6_save_20 ?_
    refine r_iload_n M dX6_save_21 rfl ?_
    refine r_V2vu (w' :=  MW th (nI 6) ln at9 pt nm op kp hs (cpS s1 3 2) tx bg tm) M (c_copies th (nI 6) ln at9 pt nm op kp hs s1 tx bg tm 3 2 (by omega) (by omega) (by omega)) lk_X6_59 dX6_save_22 (by decide +kernel) ⟨Nat.le_of_ble_eq_true rfl, Nat.le_of_ble_eq_true rfl⟩ ⟨rfl, rfl⟩ [0, 1, 2, 3, 4] rfl rfl rfl (by decide +kernel) rfl (Nat.le_of_ble_eq_true rfl) rfl ?_
    refine r_iinc1 M dX6_save_25 rfl (by decide) ?_
    refine r_goto M 2 dX6_save_28 (by decide) ?_
    generalize cpS s1 3 2 = s2 at M ⊢
    refine r_iload_n M dX6_save_2 rfl ?_
    refine r_bipush M 6 dX6_save_3 (by decide) ?_
    refine r_icmp_ge M 31 dX6_save_5 (by decide) (fun h9 => absurd h9 (by decide)) (fun _ => ?_)
    refine r_aload_n M dX6_save_8 rfl ?_
    refine r_get M fl_X6_56 dX6_save_9 rfl rfl ?_
    refine r_bipush M 6 dX6_save_12 (by decide) ?_
    refine r_icmp_ne M 31 dX6_save_14 (by decide) (fun h9 => absurd rfl h9) (fun _ => ?_)
    refine r_aload_n M dX6_save_17 rfl ?_
    refine r_iload_n M dX6_save_18 rfl ?_
    refine r_iconst M 1 dX6_save_19 (by decide) ?_
    refine r_iadd M dX6_save_20 ?_
    refine r_iload_n M dX6_save_21 rfl ?_
    refine r_V2vu (w' :=  MW th (nI 6) ln at9 pt nm op kp hs (cpS s2 4 3) tx bg tm) M (c_copies th (nI 6) ln at9 pt nm op kp hs s2 tx bg tm 4 3 (by omega) (by omega) (by omega)) lk_X6_59 dX6_save_22 (by decide +kernel) ⟨Nat.le_of_ble_eq_true rfl, Nat.le_of_ble_eq_true rfl⟩ ⟨rfl, rfl⟩ [0, 1, 2, 3, 4] rfl rfl rfl (by decide +kernel) rfl (Nat.le_of_ble_eq_true rfl) rfl ?_
    refine r_iinc1 M dX6_save_25 rfl (by decide) ?_
    refine r_goto M 2 dX6_save_28 (by decide) ?_
    generalize cpS s2 4 3 = s3 at M ⊢
    refine r_iload_n M dX6_save_2 rfl ?_
    refine r_bipush M 6 dX6_save_3 (by decide) ?_
    refine r_icmp_ge M 31 dX6_save_5 (by decide) (fun h9 => absurd h9 (by decide)) (fun _ => ?_)
    refine r_aload_n M dX6_save_8 rfl ?_
    refine r_get M fl_X6_56 dX6_save_9 rfl rfl ?_
    refine r_bipush M 6 dX6_save_12 (by decide) ?_
    refine r_icmp_ne M 31 dX6_save_14 (by decide) (fun h9 => absurd rfl h9) (fun _ => ?_)
    refine r_aload_n M dX6_save_17 rfl ?_
    refine r_iload_n M dX6_save_18 rfl ?_
    refine r_iconst M 1 dX6_save_19 (by decide) ?_
    refine r_iadd M dX6_save_20 ?_
    refine r_iload_n M dX6_save_21 rfl ?_
    refine r_V2vu (w' :=  MW th (nI 6) ln at9 pt nm op kp hs (cpS s3 5 4) tx bg tm) M (c_copies th (nI 6) ln at9 pt nm op kp hs s3 tx bg tm 5 4 (by omega) (by omega) (by omega)) lk_X6_59 dX6_save_22 (by decide +kernel) ⟨Nat.le_of_ble_eq_true rfl, Nat.le_of_ble_eq_true rfl⟩ ⟨rfl, rfl⟩ [0, 1, 2, 3, 4] rfl rfl rfl (by decide +kernel) rfl (Nat.le_of_ble_eq_true rfl) rfl ?_
    refine r_iinc1 M dX6_save_25 rfl (by decide) ?_
    refine r_goto M 2 dX6_save_28 (by decide) ?_
    generalize cpS s3 5 4 = s4 at M ⊢
    refine r_iload_n M dX6_save_2 rfl ?_
    refine r_bipush M 6 dX6_save_3 (by decide) ?_
    refine r_icmp_ge M 31 dX6_save_5 (by decide) (fun h9 => absurd h9 (by decide)) (fun _ => ?_)
    refine r_aload_n M dX6_save_8 rfl ?_
    refine r_get M fl_X6_56 dX6_save_9 rfl rfl ?_
    refine r_bipush M 6 dX6_save_12 (by decide) ?_
    refine r_icmp_ne M 31 dX6_save_14 (by decide) (fun h9 => absurd rfl h9) (fun _ => ?_)
    refine r_aload_n M dX6_save_17 rfl ?_
    refine r_iload_n M dX6_save_18 rfl ?_
    refine r_iconst M 1 dX6_save_19 (by decide) ?_
    refine r_iadd M dX6_save_20 ?_
    refine r_iload_n M dX6_save_21 rfl ?_
    refine r_V2vu (w' :=  MW th (nI 6) ln at9 pt nm op kp hs (cpS s4 6 5) tx bg tm) M (c_copies th (nI 6) ln at9 pt nm op kp hs s4 tx bg tm 6 5 (by omega) (by omega) (by omega)) lk_X6_59 dX6_save_22 (by decide +kernel) ⟨Nat.le_of_ble_eq_true rfl, Nat.le_of_ble_eq_true rfl⟩ ⟨rfl, rfl⟩ [0, 1, 2, 3, 4] rfl rfl rfl (by decide +kernel) rfl (Nat.le_of_ble_eq_true rfl) rfl ?_
    refine r_iinc1 M dX6_save_25 rfl (by decide) ?_
    refine r_goto M 2 dX6_save_28 (by decide) ?_
    generalize cpS s4 6 5 = s5 at M ⊢
    refine r_iload_n M dX6_save_2 rfl ?_
    refine r_bipush M 6 dX6_save_3 (by decide) ?_
    refine r_icmp_ge M 31 dX6_save_5 (by decide) (fun _ => ?_) (fun h9 => absurd (by decide) h9)
    refine r_aload_n M dX6_save_31 rfl ?_
    refine r_dup M dX6_save_32 rfl ?_
    refine r_get M fl_X6_56 dX6_save_33 rfl rfl ?_
    refine r_aload_n M dX6_save_36 rfl ?_
    refine r_get M fl_X6_56 dX6_save_37 rfl rfl ?_
    refine r_bipush M 6 dX6_save_40 (by decide) ?_
    refine r_icmp_ge M 49 dX6_save_42 (by decide) (fun _ => ?_) (fun h9 => absurd (by decide) h9)
    refine r_iconst M 0 dX6_save_49 (by decide) ?_
    refine r_iadd M dX6_save_50 ?_
    refine r_put M fl_X6_56 ff_6_2 dX6_save_51 rfl rfl rfl (fun _ => rfl) (Nat.le_of_ble_eq_true rfl) ?_
    refine r_aload_n M dX6_save_54 rfl ?_
    refine r_iconst M 0 dX6_save_55 (by decide) ?_
    refine r_aload_n M dX6_save_56 rfl ?_
    refine r_get M fl_X6_56 dX6_save_57 rfl rfl ?_
    refine r_V2vu (w' :=  _) M (c_copies th (nI 6) ln at9 pt nm op kp hs s5 tx bg tm 0 6 (by omega) (by omega) (by omega)) lk_X6_59 dX6_save_60 (by decide +kernel) ⟨Nat.le_of_ble_eq_true rfl, Nat.le_of_ble_eq_true rfl⟩ ⟨rfl, rfl⟩ [0, 1, 2, 3, 4] rfl rfl rfl (by decide +kernel) rfl (Nat.le_of_ble_eq_true rfl) rfl ?_
    exact r_vret M dX6_save_63 rfl rfl rfl
end
section
variable (th sv ln at9 pt nm op : Int32) (kp : Bool) (hs : Int64) (s tx bg tm : Nat → Int32)
theorem c_turns (x : Int32) (m : Nat) (hm : m < 2 ^ 31) {d : SD} (hR : Rp s d) (hO : SOk d) : Con yX6_turns cX6_turns 4 (some .int) (rmk 4 94) [.ref 0, .int x, .int (nI m)] (MW th sv ln at9 pt nm op kp hs s tx bg tm) (some (.int (nI (tuG x m d).1))) (MW th sv ln at9 pt nm op kp hs (stIt x (tuG x m d).1 s) tx bg tm) := by
  refine Con.of (own := RX6) (by decide) rfl (Nat.le_of_ble_eq_true rfl) rfl (fun B M => ?_)
  have loop : ∀ (r k : Nat) (s9 : Nat → Int32) (d9 : SD), k + r = m → Rp s9 d9 → SOk d9 → (tuG x m d).1 = k + (tuG x r d9).1 → stIt x (tuG x m d).1 s = stIt x (tuG x r d9).1 s9 → B 2 [(0, .ref 0), (1, .int x), (2, .int (nI m)), (3, .int (nI k))] [] (MW th sv ln at9 pt nm op kp hs s9 tx bg tm) := by
    intro r
    induction r with
    | zero =>
      intro k s9 d9 hk h1 h2 e1 e2
      obtain rfl : k = m := by omega
      rw [tuG, stIt] at e2
      rw [tuG, Nat.add_zero] at e1
      rw [e2, e1] at M
      refine r_iload_n M dX6_turns_2 rfl ?_
      refine r_iload_n M dX6_turns_3 rfl ?_
      refine r_icmp_ge M 27 dX6_turns_4 (by decide) (fun _ => ?_) (fun h9 => absurd (nI_le (Nat.le_refl _) (by omega)) h9)
      refine r_iload_n M dX6_turns_27 rfl ?_
      exact r_iret M dX6_turns_28 rfl rfl rfl
    | succ r ih =>
      intro k s9 d9 hk h1 h2 e1 e2
      refine r_iload_n M dX6_turns_2 rfl ?_
      refine r_iload_n M dX6_turns_3 rfl ?_
      refine r_icmp_ge M 27 dX6_turns_4 (by decide) (fun h9 => absurd h9 (nI_ge (by omega) (by omega))) (fun _ => ?_)
      refine r_aload_n M dX6_turns_7 rfl ?_
      refine r_iload_n M dX6_turns_8 rfl ?_
      refine r_iconst M (-1) dX6_turns_9 (by decide) ?_
      have hw := c_whyNot th sv ln at9 pt nm op kp hs s9 tx bg tm h1 h2 x (-1) (sLo d9) (fun w h5 => lo_all d9 h5)
      refine r_V2ik M hw lk_X6_49 dX6_turns_10 (by decide +kernel) ⟨Nat.le_of_ble_eq_true rfl, Nat.le_of_ble_eq_true rfl⟩ ⟨rfl, rfl⟩ [0, 1, 2, 3, 4] rfl rfl rfl (by decide +kernel) rfl (Nat.le_of_ble_eq_true rfl) ?_
      by_cases h : whyD d9 x = 0
      · rw [tuG, if_pos h] at e1 e2
        rw [stIt] at e2
        refine r_if_ne M 27 dX6_turns_13 (by decide) (fun h9 => absurd h h9) (fun _ => ?_)
        refine r_aload_n M dX6_turns_16 rfl ?_
        refine r_iload_n M dX6_turns_17 rfl ?_
        refine r_V1vu (w' :=  MW th sv ln at9 pt nm op kp hs (stS s9 x) tx bg tm) M (c_steps th sv ln at9 pt nm op kp hs s9 tx bg tm h1 h2 x) lk_X6_52 dX6_turns_18 (by decide +kernel) ⟨Nat.le_of_ble_eq_true rfl, Nat.le_of_ble_eq_true rfl⟩ ⟨rfl, rfl⟩ [0, 1, 2, 3, 4] rfl rfl rfl (by decide +kernel) rfl (Nat.le_of_ble_eq_true rfl) rfl ?_
        refine r_iinc1 M dX6_turns_21 rfl (by decide) ?_
        refine r_goto M 2 dX6_turns_24 (by decide) ?_
        refine r_lvs M _ (lvs_c rfl (lvs_c rfl (lvs_c rfl (lvs_c ?_ lvs_n)))) (ih (k + 1) (stS s9 x) (stepD d9 x) (by omega) (Rp_step h1 h2 x) (SOk_step h2 x) (by rw [e1]; simp only; omega) e2)
        rw [← nI_1]; rfl
      · rw [tuG, if_neg h] at e1 e2
        rw [stIt] at e2
        rw [Nat.add_zero] at e1
        rw [e2, e1] at M
        refine r_if_ne M 27 dX6_turns_13 (by decide) (fun _ => ?_) (fun h9 => absurd h9 h)
        refine r_iload_n M dX6_turns_27 rfl ?_
        exact r_iret M dX6_turns_28 rfl rfl rfl
  refine r_iconst M 0 dX6_turns_0 (by decide) ?_
  refine r_istore_n M dX6_turns_1 (by decide) ?_
  exact r_lvs M _ (lvs_c rfl (lvs_c rfl (lvs_c rfl (lvs_c rfl lvs_n)))) (loop m 0 s d (by omega) hR hO (by omega) rfl)
theorem c_mStops {d : SD} (hR : Rp s d) : Con yX6_stops cX6_stops 3 (some .int) (rmk 0 0) [.ref 0] (MW th sv ln at9 pt nm op kp hs s tx bg tm) (some (.int (sumf (fun j => b2i (sSt d j)) 60))) (MW th sv ln at9 pt nm op kp hs s tx bg tm) := by
  refine Con.of (own := RX6) (by decide) rfl (Nat.le_of_ble_eq_true rfl) rfl (fun B M => ?_)
  have loop : ∀ r k : Nat, k + r = 60 → B 4 [(0, .ref 0), (1, .int (sumf (fun j => b2i (sSt d j)) k)), (2, .int (nI k))] [] (MW th sv ln at9 pt nm op kp hs s tx bg tm) := by
    intro r
    induction r with
    | zero =>
      intro k hk
      obtain rfl : k = 60 := by omega
      refine r_iload_n M dX6_stops_4 rfl ?_
      refine r_bipush M 60 dX6_stops_5 (by decide) ?_
      refine r_icmp_ge M 28 dX6_stops_7 (by decide) (fun _ => ?_) (fun h9 => absurd (nI_geT (n := 60) rfl (by omega) (by omega)) h9)
      refine r_iload_n M dX6_stops_28 rfl ?_
      exact r_iret M dX6_stops_29 rfl rfl rfl
    | succ r ih =>
      intro k hk
      refine r_iload_n M dX6_stops_4 rfl ?_
      refine r_bipush M 60 dX6_stops_5 (by decide) ?_
      refine r_icmp_ge M 28 dX6_stops_7 (by decide) (fun h9 => absurd h9 (nI_geF (n := 60) rfl (by omega) (by omega))) (fun _ => ?_)
      refine r_iload_n M dX6_stops_10 rfl ?_
      refine r_aload_n M dX6_stops_11 rfl ?_
      refine r_get M fl_X6_7 dX6_stops_12 rfl rfl ?_
      refine r_bipush M 112 dX6_stops_15 (by decide) ?_
      refine r_iload_n M dX6_stops_17 rfl ?_
      refine r_iadd M dX6_stops_18 ?_
      rw [show (112 : Int32) + nI k = nI (112 + k) from nI_add 112 k]
      refine r_iald M dX6_stops_19 rfl (s_in (by omega)) ?_
      rw [cl_s (by omega), hR.2.2.2.2.2.2.2.2.2.2.2.2 k (by omega)]
      refine r_iadd M dX6_stops_20 ?_
      refine r_istore_n M dX6_stops_21 (by decide) ?_
      refine r_iinc1 M dX6_stops_22 rfl (by decide) ?_
      refine r_goto M 4 dX6_stops_25 (by decide) ?_
      refine r_lvs M _ (lvs_c rfl (lvs_c rfl (lvs_c ?_ lvs_n))) (ih (k + 1) (by omega))
      rw [← nI_1]; rfl
  refine r_iconst M 0 dX6_stops_0 (by decide) ?_
  refine r_istore_n M dX6_stops_1 (by decide) ?_
  refine r_iconst M 0 dX6_stops_2 (by decide) ?_
  refine r_istore_n M dX6_stops_3 (by decide) ?_
  exact r_lvs M _ (lvs_c rfl (lvs_c rfl (lvs_c rfl lvs_n))) (loop 60 0 rfl)
end


/-- the figure at a place, between two, or -1; the place behind it -/
def fgM (tx : Nat → Int32) (n a : Nat) (lo hi : Int32) : Int32 := if btw (cdA tx n a) (48 + lo) (48 + hi) = true then cdA tx n a - 48 else -1
def fgP (tx : Nat → Int32) (n a : Nat) (lo hi : Int32) : Nat := if fgM tx n a lo hi = -1 then a else a + 1
section
variable (th sv pt nm op : Int32) (kp : Bool) (hs : Int64) (s tx bg tm : Nat → Int32) (n : Nat)
theorem c_sign (hn : n ≤ 60) (a : Nat) (ha : a < 2 ^ 31) : Con yX6_sign cX6_sign 1 (some .int) (rmk 0 0) [.ref 0] (MW th sv (nI n) (nI a) pt nm op kp hs s tx bg tm) (some (.int (cdA tx n a))) (MW th sv (nI n) (nI a) pt nm op kp hs s tx bg tm) := by
  refine Con.of (own := RX6) (by decide) rfl (Nat.le_of_ble_eq_true rfl) rfl (fun B M => ?_)
  by_cases h : a < n
  · rw [cdA, if_pos h] at M
    refine r_aload_n M dX6_sign_0 rfl ?_
    refine r_get M fl_X6_102 dX6_sign_1 rfl rfl ?_
    refine r_aload_n M dX6_sign_4 rfl ?_
    refine r_get M fl_X6_99 dX6_sign_5 rfl rfl ?_
    refine r_icmp_ge M 23 dX6_sign_8 (by decide) (fun h9 => absurd h9 (nI_ge h (by omega))) (fun _ => ?_)
    refine r_aload_n M dX6_sign_11 rfl ?_
    refine r_get M fl_X6_13 dX6_sign_12 rfl rfl ?_
    refine r_aload_n M dX6_sign_15 rfl ?_
    refine r_get M fl_X6_102 dX6_sign_16 rfl rfl ?_
    refine r_iald M dX6_sign_19 rfl (vp_in_nI (show a < 60 by omega) (by omega)) ?_
    rw [cl_s (by omega)]
    refine r_goto M 24 dX6_sign_20 (by decide) ?_
    exact r_iret M dX6_sign_24 rfl rfl rfl
  · rw [cdA, if_neg h] at M
    refine r_aload_n M dX6_sign_0 rfl ?_
    refine r_get M fl_X6_102 dX6_sign_1 rfl rfl ?_
    refine r_aload_n M dX6_sign_4 rfl ?_
    refine r_get M fl_X6_99 dX6_sign_5 rfl rfl ?_
    refine r_icmp_ge M 23 dX6_sign_8 (by decide) (fun _ => ?_) (fun h9 => absurd (nI_le (by omega) (by omega)) h9)
    refine r_iconst M 0 dX6_sign_23 (by decide) ?_
    exact r_iret M dX6_sign_24 rfl rfl rfl
theorem c_takes (hn : n ≤ 60) (a : Nat) (ha : a < 2 ^ 30) (x : Int32) : Con yX6_takes cX6_takes 3 (some .boolean) (rmk 1 20) [.ref 0, .int x] (MW th sv (nI n) (nI a) pt nm op kp hs s tx bg tm) (some (.int (b2i (decide (cdA tx n a = x))))) (MW th sv (nI n) (nI (if cdA tx n a = x then a + 1 else a)) pt nm op kp hs s tx bg tm) := by
  refine Con.of (own := RX6) (by decide) rfl (Nat.le_of_ble_eq_true rfl) rfl (fun B M => ?_)
  refine r_aload_n M dX6_takes_0 rfl ?_
  refine r_V0ik M (c_sign th sv pt nm op kp hs s tx bg tm n hn a (by omega)) lk_X6_105 dX6_takes_1 (by decide +kernel) ⟨Nat.le_of_ble_eq_true rfl, Nat.le_of_ble_eq_true rfl⟩ ⟨rfl, rfl⟩ [0, 1, 2, 3, 4] rfl rfl rfl (by decide +kernel) rfl (Nat.le_of_ble_eq_true rfl) ?_
  refine r_iload_n M dX6_takes_4 rfl ?_
  by_cases h : cdA tx n a = x
  · rw [decide_eq_true h, if_pos h] at M
    refine r_icmp_ne M 12 dX6_takes_5 (by decide) (fun h9 => absurd h h9) (fun _ => ?_)
    refine r_iconst M 1 dX6_takes_8 (by decide) ?_
    refine r_goto M 13 dX6_takes_9 (by decide) ?_
    refine r_istore_n M dX6_takes_13 (by decide) ?_
    refine r_aload_n M dX6_takes_14 rfl ?_
    refine r_dup M dX6_takes_15 rfl ?_
    refine r_get M fl_X6_102 dX6_takes_16 rfl rfl ?_
    refine r_iload_n M dX6_takes_19 rfl ?_
    refine r_if_eq M 27 dX6_takes_20 (by decide) (fun h9 => absurd h9 (by decide)) (fun _ => ?_)
    refine r_iconst M 1 dX6_takes_23 (by decide) ?_
    refine r_goto M 28 dX6_takes_24 (by decide) ?_
    refine r_iadd M dX6_takes_28 ?_
    rw [nI_1]
    refine r_put M fl_X6_102 ff_6_6 dX6_takes_29 rfl rfl rfl (fun _ => rfl) (Nat.le_of_ble_eq_true rfl) ?_
    refine r_iload_n M dX6_takes_32 rfl ?_
    exact r_zret M dX6_takes_33 rfl (by decide) rfl rfl
  · rw [decide_eq_false h, if_neg h] at M
    refine r_icmp_ne M 12 dX6_takes_5 (by decide) (fun _ => ?_) (fun h9 => absurd h9 h)
    refine r_iconst M 0 dX6_takes_12 (by decide) ?_
    refine r_istore_n M dX6_takes_13 (by decide) ?_
    refine r_aload_n M dX6_takes_14 rfl ?_
    refine r_dup M dX6_takes_15 rfl ?_
    refine r_get M fl_X6_102 dX6_takes_16 rfl rfl ?_
    refine r_iload_n M dX6_takes_19 rfl ?_
    refine r_if_eq M 27 dX6_takes_20 (by decide) (fun _ => ?_) (fun h9 => absurd (by decide) h9)
    refine r_iconst M 0 dX6_takes_27 (by decide) ?_
    refine r_iadd M dX6_takes_28 ?_
    rw [Int32.add_zero]
    refine r_put M fl_X6_102 ff_6_6 dX6_takes_29 rfl rfl rfl (fun _ => rfl) (Nat.le_of_ble_eq_true rfl) ?_
    refine r_iload_n M dX6_takes_32 rfl ?_
    exact r_zret M dX6_takes_33 rfl (by decide) rfl rfl
theorem c_figure (hn : n ≤ 60) (a : Nat) (ha : a < 2 ^ 30) (lo hi : Int32) : Con yX6_figure cX6_figure 4 (some .int) (rmk 1 22) [.ref 0, .int lo, .int hi] (MW th sv (nI n) (nI a) pt nm op kp hs s tx bg tm) (some (.int (fgM tx n a lo hi))) (MW th sv (nI n) (nI (fgP tx n a lo hi)) pt nm op kp hs s tx bg tm) := by
  refine Con.of (own := RX6) (by decide) rfl (Nat.le_of_ble_eq_true rfl) rfl (fun B M => ?_)
  have hsg := c_sign th sv pt nm op kp hs s tx bg tm n hn a (by omega)
  have go : B 29 [(0, .ref 0), (1, .int lo), (2, .int hi)] [.int (fgM tx n a lo hi)] (MW th sv (nI n) (nI a) pt nm op kp hs s tx bg tm) := by
    rw [fgP] at M
    generalize fgM tx n a lo hi = f at M ⊢
    refine r_istore_n M dX6_figure_29 (by decide) ?_
    refine r_aload_n M dX6_figure_30 rfl ?_
    refine r_dup M dX6_figure_31 rfl ?_
    refine r_get M fl_X6_102 dX6_figure_32 rfl rfl ?_
    refine r_iload_n M dX6_figure_35 rfl ?_
    refine r_iconst M (-1) dX6_figure_36 (by decide) ?_
    by_cases h : f = -1
    · rw [if_pos h] at M
      refine r_icmp_ne M 44 dX6_figure_37 (by decide) (fun h9 => absurd h h9) (fun _ => ?_)
      refine r_iconst M 0 dX6_figure_40 (by decide) ?_
      refine r_goto M 45 dX6_figure_41 (by decide) ?_
      refine r_iadd M dX6_figure_45 ?_
      rw [Int32.add_zero]
      refine r_put M fl_X6_102 ff_6_6 dX6_figure_46 rfl rfl rfl (fun _ => rfl) (Nat.le_of_ble_eq_true rfl) ?_
      refine r_iload_n M dX6_figure_49 rfl ?_
      exact r_iret M dX6_figure_50 rfl rfl rfl
    · rw [if_neg h] at M
      refine r_icmp_ne M 44 dX6_figure_37 (by decide) (fun _ => ?_) (fun h9 => absurd h9 h)
      refine r_iconst M 1 dX6_figure_44 (by decide) ?_
      refine r_iadd M dX6_figure_45 ?_
      rw [nI_1]
      refine r_put M fl_X6_102 ff_6_6 dX6_figure_46 rfl rfl rfl (fun _ => rfl) (Nat.le_of_ble_eq_true rfl) ?_
      refine r_iload_n M dX6_figure_49 rfl ?_
      exact r_iret M dX6_figure_50 rfl rfl rfl
  rw [fgM] at go
  refine r_aload_n M dX6_figure_0 rfl ?_
  refine r_V0ik M hsg lk_X6_105 dX6_figure_1 (by decide +kernel) ⟨Nat.le_of_ble_eq_true rfl, Nat.le_of_ble_eq_true rfl⟩ ⟨rfl, rfl⟩ [0, 1, 2, 3, 4] rfl rfl rfl (by decide +kernel) rfl (Nat.le_of_ble_eq_true rfl) ?_
  refine r_bipush M 48 dX6_figure_4 (by decide) ?_
  refine r_iload_n M dX6_figure_6 rfl ?_
  refine r_iadd M dX6_figure_7 ?_
  refine r_bipush M 48 dX6_figure_8 (by decide) ?_
  refine r_iload_n M dX6_figure_10 rfl ?_
  refine r_iadd M dX6_figure_11 ?_
  refine r_S3ik M (c_in _ _ _) lk_X6_26 dX6_figure_12 (by decide +kernel) ⟨Nat.le_of_ble_eq_true rfl, Nat.le_of_ble_eq_true rfl⟩ ⟨rfl, rfl⟩ [] rfl (by decide +kernel) rfl (Nat.le_of_ble_eq_true rfl) ?_
  cases hb : btw (cdA tx n a) (48 + lo) (48 + hi)
  · rw [if_neg (by rw [hb]; decide)] at go
    refine r_if_eq M 28 dX6_figure_15 (by decide) (fun _ => ?_) (fun h9 => absurd rfl h9)
    refine r_iconst M (-1) dX6_figure_28 (by decide) ?_
    exact go
  · rw [if_pos hb] at go
    refine r_if_eq M 28 dX6_figure_15 (by decide) (fun h9 => absurd h9 (by decide)) (fun _ => ?_)
    refine r_aload_n M dX6_figure_18 rfl ?_
    refine r_V0ik M hsg lk_X6_105 dX6_figure_19 (by decide +kernel) ⟨Nat.le_of_ble_eq_true rfl, Nat.le_of_ble_eq_true rfl⟩ ⟨rfl, rfl⟩ [0, 1, 2, 3, 4] rfl rfl rfl (by decide +kernel) rfl (Nat.le_of_ble_eq_true rfl) ?_
    refine r_bipush M 48 dX6_figure_22 (by decide) ?_
    refine r_isub M dX6_figure_24 ?_
    refine r_goto M 29 dX6_figure_25 (by decide) ?_
    exact go
end


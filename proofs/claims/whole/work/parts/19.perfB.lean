abbrev sTe (d : SD) := d.1
abbrev sTo (d : SD) := d.2.1
abbrev sLo (d : SD) := d.2.2.1
abbrev sCra (d : SD) := d.2.2.2.1
abbrev sHa (d : SD) := d.2.2.2.2.1
abbrev sHe (d : SD) := d.2.2.2.2.2.1
abbrev sSt (d : SD) := d.2.2.2.2.2.2.1
abbrev sScn (d : SD) := d.2.2.2.2.2.2.2.1
abbrev sSc (d : SD) := d.2.2.2.2.2.2.2.2.1
abbrev sCr (d : SD) := d.2.2.2.2.2.2.2.2.2.1
abbrev sLi (d : SD) := d.2.2.2.2.2.2.2.2.2.2.1
abbrev sSf (d : SD) := d.2.2.2.2.2.2.2.2.2.2.2.1
abbrev sSb (d : SD) := d.2.2.2.2.2.2.2.2.2.2.2.2.1
abbrev sSe (d : SD) := d.2.2.2.2.2.2.2.2.2.2.2.2.2.1
abbrev sLa (d : SD) := d.2.2.2.2.2.2.2.2.2.2.2.2.2.2
/-- why a step of a State can not be made -/
def whyD (d : SD) (x : Int32) : Int32 := whyS (fltB (sTe d) (sTo d) (sLo d) (sHe d) x (sSe d)) (cau (sSt d) (sCr d) (sLi d)) (sCr d) x
/-- a step made -/
def stepD (d : SD) (x : Int32) : SD := (sTe d, tLk (sTe d) (sTo d) (sLo d) x, sLo d, cLk (sLo d) (sCra d) x, sHa d, sHe d, sSt d, sScn d, sSc d, sCr d + x, false, (if 0 < x then sSf d + 1 else sSf d), (if 0 < x then sSb d else sSb d + 1), sSe d, sLa d)
/-- the lock of a wheel turned over -/
def kD (d : SD) (w : Nat) : SD := (sTe d, sTo d, va_up (sLo d) w (!(sLo d) w), sCra d, sHa d, sHe d, sSt d, sScn d, sSc d, sCr d, sLi d, sSf d, sSb d, sSe d, sLa d)
def liD (d : SD) (b : Bool) : SD := (sTe d, sTo d, sLo d, sCra d, sHa d, sHe d, sSt d, sScn d, sSc d, sCr d, b, sSf d, sSb d, sSe d, sLa d)
def laD (d : SD) (x : Int32) : SD := (sTe d, sTo d, sLo d, sCra d, sHa d, sHe d, sSt d, sScn d, sSc d, sCr d, sLi d, sSf d, sSb d, sSe d, x)
/-- so many steps, up to the first that can not be made, or the 2001st -/
def tnG (x : Int32) : Nat → SD → Int32 → SD × Int32 × Int32
  | 0, d, z => (d, z, 0)
  | m + 1, d, z => if (if z < 2000 then whyD d x else 5) = 0 then tnG x m (stepD d x) (z + 1) else (d, z, if z < 2000 then whyD d x else 5)
/-- the performer, the text and the state, as the performer's methods see them -/
abbrev PTS (op mk en : Int32) (sts td : Nat → Nat) (cod : Nat → Int32) (n : Nat) (aw opt fig : Int32) (d : SD) : List va_E := PW op mk en sts td ++ [.inr (3, [.ref 4, .int (nI n), .int aw, .int opt, .int fig]), .inl (0, 60, .inl cod)] ++ SWd 5 d
theorem c_doTurn (op mk : Int32) (sts td : Nat → Nat) (cod : Nat → Int32) (n k w : Nat) (aw opt fig : Int32) (d : SD) (hn : n ≤ 60) (hk : k ≤ 60) (hw2 : w < 2 ^ 31) (hw : (if fgA (cdA cod n (k + 2)) = -1 then fgA (cdA cod n (k + 1)) else fgA (cdA cod n (k + 1)) * 10 + fgA (cdA cod n (k + 2))) = nI w) : Con yX1_doTurn cX1_doTurn 9 (some .int) (rmk 4 92) [.ref 0, .ref 3, .int (nI k), .ref 5] (PTS op mk 0 sts td cod n aw opt fig d) (some (.int (if fgA (cdA cod n (k + 2)) = -1 then nI (k + 2) else nI (k + 3)))) (PTS op (tnG (if cdA cod n k = 43 then 1 else -1) w d mk).2.1 (tnG (if cdA cod n k = 43 then 1 else -1) w d mk).2.2 sts td cod n aw opt fig (tnG (if cdA cod n k = 43 then 1 else -1) w d mk).1) := by
  refine Con.of (own := RX1) (by decide) rfl (Nat.le_of_ble_eq_true rfl) rfl (fun B M => ?_)
  have fin : ∀ (m9 e9 : Int32) (d9 : SD) (lv : List (Nat × Value)), (tnG (if cdA cod n k = 43 then 1 else -1) w d mk) = (d9, m9, e9) → lgf lv 2 = some (.int (nI k)) → lgf lv 6 = some (.int (fgA (cdA cod n (k + 2)))) → B 130 lv [] (PTS op m9 e9 sts td cod n aw opt fig d9) := by
    intro m9 e9 d9 lv he h2 h6
    rw [he] at M
    refine r_lvs M [(2, .int (nI k)), (6, .int (fgA (cdA cod n (k + 2))))] (lvs_c h2 (lvs_c h6 lvs_n)) ?_
    refine r_iload M dX1_doTurn_130 rfl ?_
    refine r_iconst M (-1) dX1_doTurn_132 (by decide) ?_
    by_cases h : fgA (cdA cod n (k + 2)) = -1
    · rw [if_pos h] at M
      refine r_icmp_ne M 142 dX1_doTurn_133 (by decide) (fun h9 => absurd h h9) (fun _ => ?_)
      refine r_iload_n M dX1_doTurn_136 rfl ?_
      refine r_iconst M 2 dX1_doTurn_137 (by decide) ?_
      refine r_iadd M dX1_doTurn_138 ?_
      refine r_goto M 145 dX1_doTurn_139 (by decide) ?_
      exact r_iret M dX1_doTurn_145 rfl (by rw [show (2 : Int32) = nI 2 from rfl, nI_add]) rfl
    · rw [if_neg h] at M
      refine r_icmp_ne M 142 dX1_doTurn_133 (by decide) (fun _ => ?_) (fun h9 => absurd h9 h)
      refine r_iload_n M dX1_doTurn_142 rfl ?_
      refine r_iconst M 3 dX1_doTurn_143 (by decide) ?_
      refine r_iadd M dX1_doTurn_144 ?_
      exact r_iret M dX1_doTurn_145 rfl (by rw [show (3 : Int32) = nI 3 from rfl, nI_add]) rfl
  have main : ∀ x : Int32, x = (if cdA cod n k = 43 then 1 else -1) → B 15 [(0, .ref 0), (1, .ref 3), (2, .int (nI k)), (3, .ref 5)] [.int x] (PTS op mk 0 sts td cod n aw opt fig d) := by
    intro x hx
    rw [← hx] at M fin
    have loop : ∀ (r j : Nat) (d9 : SD) (m9 : Int32), j + r = w → tnG x w d mk = tnG x r d9 m9 → B 59 [(0, .ref 0), (2, .int (nI k)), (3, .ref 5), (4, .int x), (6, .int (fgA (cdA cod n (k + 2)))), (7, .int (nI w)), (8, .int (nI j))] [] (PTS op m9 0 sts td cod n aw opt fig d9) := by
      intro r
      induction r with
      | zero =>
        intro j d9 m9 hj he
        obtain rfl : j = w := by omega
        rw [tnG] at he
        refine r_iload M dX1_doTurn_59 rfl ?_
        refine r_iload M dX1_doTurn_61 rfl ?_
        refine r_icmp_ge M 130 dX1_doTurn_63 (by decide) (fun _ => ?_) (fun h9 => absurd (nI_le (Nat.le_refl _) hw2) h9)
        exact fin m9 0 d9 _ he rfl rfl
      | succ r ih =>
        intro j d9 m9 hj he
        rw [tnG] at he
        have tail : ∀ y : Int32, y = (if m9 < 2000 then whyD d9 x else 5) → B 98 [(0, .ref 0), (2, .int (nI k)), (3, .ref 5), (4, .int x), (6, .int (fgA (cdA cod n (k + 2)))), (7, .int (nI w)), (8, .int (nI j))] [.int y, .ref 0] (PTS op m9 0 sts td cod n aw opt fig d9) := by
          intro y hy
          rw [← hy] at he
          refine r_put M fl_X1_25 ff_1_4 dX1_doTurn_98 rfl rfl rfl (fun _ => rfl) (Nat.le_of_ble_eq_true rfl) ?_
          refine r_aload_n M dX1_doTurn_101 rfl ?_
          refine r_get M fl_X1_25 dX1_doTurn_102 rfl rfl ?_
          by_cases h0 : y = 0
          · rw [if_pos h0] at he
            subst h0
            refine r_if_ne M 124 dX1_doTurn_105 (by decide) (fun h9 => absurd rfl h9) (fun _ => ?_)
            refine r_aload_n M dX1_doTurn_108 rfl ?_
            refine r_iload M dX1_doTurn_109 rfl ?_
            refine r_V1vu (w' :=  PTS op m9 0 sts td cod n aw opt fig (stepD d9 x)) M (c_makeStep (sSc d9) (sCr d9) (sLi d9) (sSf d9) (sSb d9) (sSe d9) (sLa d9) (sSt d9) (sScn d9) (sTe d9) (sTo d9) (sLo d9) (sCra d9) (sHa d9) (sHe d9) x) lk_X1_78 dX1_doTurn_111 (by decide +kernel) ⟨Nat.le_of_ble_eq_true rfl, Nat.le_of_ble_eq_true rfl⟩ ⟨rfl, rfl⟩ [5, 6, 7, 8, 9, 10, 11, 12, 13, 14] rfl rfl rfl (by decide +kernel) rfl (Nat.le_of_ble_eq_true rfl) rfl ?_
            refine r_aload_n M dX1_doTurn_114 rfl ?_
            refine r_dup M dX1_doTurn_115 rfl ?_
            refine r_get M fl_X1_22 dX1_doTurn_116 rfl rfl ?_
            refine r_iconst M 1 dX1_doTurn_119 (by decide) ?_
            refine r_iadd M dX1_doTurn_120 ?_
            refine r_put M fl_X1_22 ff_1_3 dX1_doTurn_121 rfl rfl rfl (fun _ => rfl) (Nat.le_of_ble_eq_true rfl) ?_
            refine r_iinc1 M dX1_doTurn_124 rfl (by decide) ?_
            refine r_goto M 59 dX1_doTurn_127 (by decide) ?_
            refine r_lvs M _ (lvs_c rfl (lvs_c rfl (lvs_c rfl (lvs_c rfl (lvs_c rfl (lvs_c rfl (lvs_c ?_ lvs_n))))))) (ih (j + 1) (stepD d9 x) (m9 + 1) (by omega) he)
            rw [← nI_1]; rfl
          · rw [if_neg h0] at he
            refine r_if_ne M 124 dX1_doTurn_105 (by decide) (fun _ => ?_) (fun h9 => absurd h9 h0)
            refine r_iinc1 M dX1_doTurn_124 rfl (by decide) ?_
            refine r_goto M 59 dX1_doTurn_127 (by decide) ?_
            refine r_iload M dX1_doTurn_59 rfl ?_
            refine r_iload M dX1_doTurn_61 rfl ?_
            rw [nI_1]
            by_cases hlast : j + 1 < w
            · refine r_icmp_ge M 130 dX1_doTurn_63 (by decide) (fun h9 => absurd h9 (nI_ge hlast hw2)) (fun _ => ?_)
              refine r_aload_n M dX1_doTurn_66 rfl ?_
              refine r_get M fl_X1_25 dX1_doTurn_67 rfl rfl ?_
              refine r_if_ne M 130 dX1_doTurn_70 (by decide) (fun _ => ?_) (fun h9 => absurd h9 h0)
              exact fin m9 y d9 _ he rfl rfl
            · refine r_icmp_ge M 130 dX1_doTurn_63 (by decide) (fun _ => ?_) (fun h9 => absurd (nI_le (by omega) (by omega)) h9)
              exact fin m9 y d9 _ he rfl rfl
        refine r_iload M dX1_doTurn_59 rfl ?_
        refine r_iload M dX1_doTurn_61 rfl ?_
        refine r_icmp_ge M 130 dX1_doTurn_63 (by decide) (fun h9 => absurd h9 (nI_ge (by omega) hw2)) (fun _ => ?_)
        refine r_aload_n M dX1_doTurn_66 rfl ?_
        refine r_get M fl_X1_25 dX1_doTurn_67 rfl rfl ?_
        refine r_if_ne M 130 dX1_doTurn_70 (by decide) (fun h9 => absurd rfl h9) (fun _ => ?_)
        refine r_aload_n M dX1_doTurn_73 rfl ?_
        refine r_aload_n M dX1_doTurn_74 rfl ?_
        refine r_get M fl_X1_22 dX1_doTurn_75 rfl rfl ?_
        refine r_sipush M 2000 dX1_doTurn_78 (by decide) ?_
        by_cases h2 : m9 < 2000
        · refine r_icmp_lt M 88 dX1_doTurn_81 (by decide) (fun _ => ?_) (fun h9 => absurd h2 h9)
          refine r_aload_n M dX1_doTurn_88 rfl ?_
          refine r_aload_n M dX1_doTurn_89 rfl ?_
          refine r_getN M fn_X1_50 dX1_doTurn_90 rfl rfl ?_
          refine r_iload M dX1_doTurn_93 rfl ?_
          refine r_V2ik M (c_reasonAgainst _ _ (sSc d9) (sCr d9) (sLi d9) (sSf d9) (sSb d9) (sSe d9) (sLa d9) (sSt d9) (sTe d9) (sTo d9) (sLo d9) (sCra d9) (sHa d9) (sHe d9) x) lk_X1_74 dX1_doTurn_95 (by decide +kernel) ⟨Nat.le_of_ble_eq_true rfl, Nat.le_of_ble_eq_true rfl⟩ ⟨rfl, rfl⟩ [5, 6, 8, 9, 10, 11, 12, 13, 14] rfl rfl rfl (by decide +kernel) rfl (Nat.le_of_ble_eq_true rfl) ?_
          exact tail _ (by rw [if_pos h2]; rfl)
        · refine r_icmp_lt M 88 dX1_doTurn_81 (by decide) (fun h9 => absurd h9 h2) (fun _ => ?_)
          refine r_iconst M 5 dX1_doTurn_84 (by decide) ?_
          refine r_goto M 98 dX1_doTurn_85 (by decide) ?_
          exact tail _ (by rw [if_neg h2])
    refine r_istore M dX1_doTurn_15 (by decide) ?_
    refine r_aload_n M dX1_doTurn_17 rfl ?_
    refine r_iload_n M dX1_doTurn_18 rfl ?_
    refine r_iconst M 1 dX1_doTurn_19 (by decide) ?_
    refine r_iadd M dX1_doTurn_20 ?_
    rw [nI_1]
    refine r_V1ik M (c_figureAt cod n (k + 1) aw opt fig hn (by omega)) lk_X1_54 dX1_doTurn_21 (by decide +kernel) ⟨Nat.le_of_ble_eq_true rfl, Nat.le_of_ble_eq_true rfl⟩ ⟨rfl, rfl⟩ [3, 4] rfl rfl rfl (by decide +kernel) rfl (Nat.le_of_ble_eq_true rfl) ?_
    refine r_istore M dX1_doTurn_24 (by decide) ?_
    refine r_aload_n M dX1_doTurn_26 rfl ?_
    refine r_iload_n M dX1_doTurn_27 rfl ?_
    refine r_iconst M 2 dX1_doTurn_28 (by decide) ?_
    refine r_iadd M dX1_doTurn_29 ?_
    rw [show nI k + 2 = nI (k + 2) from nI_add k 2]
    refine r_V1ik M (c_figureAt cod n (k + 2) aw opt fig hn (by omega)) lk_X1_54 dX1_doTurn_30 (by decide +kernel) ⟨Nat.le_of_ble_eq_true rfl, Nat.le_of_ble_eq_true rfl⟩ ⟨rfl, rfl⟩ [3, 4] rfl rfl rfl (by decide +kernel) rfl (Nat.le_of_ble_eq_true rfl) ?_
    refine r_istore M dX1_doTurn_33 (by decide) ?_
    refine r_iload M dX1_doTurn_35 rfl ?_
    refine r_iconst M (-1) dX1_doTurn_37 (by decide) ?_
    by_cases h : fgA (cdA cod n (k + 2)) = -1
    · rw [if_pos h] at hw
      refine r_icmp_ne M 46 dX1_doTurn_38 (by decide) (fun h9 => absurd h h9) (fun _ => ?_)
      refine r_iload M dX1_doTurn_41 rfl ?_
      refine r_goto M 54 dX1_doTurn_43 (by decide) ?_
      rw [hw]
      refine r_istore M dX1_doTurn_54 (by decide) ?_
      refine r_iconst M 0 dX1_doTurn_56 (by decide) ?_
      refine r_istore M dX1_doTurn_57 (by decide) ?_
      exact r_lvs M _ (lvs_c rfl (lvs_c rfl (lvs_c rfl (lvs_c rfl (lvs_c rfl (lvs_c rfl (lvs_c rfl lvs_n))))))) (loop w 0 d mk (by omega) rfl)
    · rw [if_neg h] at hw
      refine r_icmp_ne M 46 dX1_doTurn_38 (by decide) (fun _ => ?_) (fun h9 => absurd h9 h)
      refine r_iload M dX1_doTurn_46 rfl ?_
      refine r_bipush M 10 dX1_doTurn_48 (by decide) ?_
      refine r_imul M dX1_doTurn_50 ?_
      refine r_iload M dX1_doTurn_51 rfl ?_
      refine r_iadd M dX1_doTurn_53 ?_
      rw [hw]
      refine r_istore M dX1_doTurn_54 (by decide) ?_
      refine r_iconst M 0 dX1_doTurn_56 (by decide) ?_
      refine r_istore M dX1_doTurn_57 (by decide) ?_
      exact r_lvs M _ (lvs_c rfl (lvs_c rfl (lvs_c rfl (lvs_c rfl (lvs_c rfl (lvs_c rfl (lvs_c rfl lvs_n))))))) (loop w 0 d mk (by omega) rfl)
  refine r_aload_n M dX1_doTurn_0 rfl ?_
  refine r_iload_n M dX1_doTurn_1 rfl ?_
  refine r_V1ik M (c_codeAt cod n k aw opt fig hn (by omega)) lk_X1_34 dX1_doTurn_2 (by decide +kernel) ⟨Nat.le_of_ble_eq_true rfl, Nat.le_of_ble_eq_true rfl⟩ ⟨rfl, rfl⟩ [3, 4] rfl rfl rfl (by decide +kernel) rfl (Nat.le_of_ble_eq_true rfl) ?_
  refine r_bipush M 43 dX1_doTurn_5 (by decide) ?_
  by_cases h : cdA cod n k = 43
  · refine r_icmp_ne M 14 dX1_doTurn_7 (by decide) (fun h9 => absurd h h9) (fun _ => ?_)
    refine r_iconst M 1 dX1_doTurn_10 (by decide) ?_
    refine r_goto M 15 dX1_doTurn_11 (by decide) ?_
    exact main 1 (by rw [if_pos h])
  · refine r_icmp_ne M 14 dX1_doTurn_7 (by decide) (fun _ => ?_) (fun h9 => absurd h9 h)
    refine r_iconst M (-1) dX1_doTurn_14 (by decide) ?_
    exact main (-1) (by rw [if_neg h])


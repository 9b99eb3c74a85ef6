theorem cd_lt {tx : Nat → Int32} {n a : Nat} (h : ¬ cdA tx n a = 0) : a < n := by
  rcases Nat.lt_or_ge a n with q | q
  · exact q
  · exact absurd (by rw [cdA, if_neg (by omega)]) h
theorem fg_lt {tx : Nat → Int32} {n a : Nat} {lo hi : Int32} (hl : ¬ 48 + lo ≤ 0) (h : ¬ fgM tx n a lo hi = -1) : a < n := by
  refine cd_lt (tx := tx) (fun e => h ?_)
  rw [fgM, e, btw, decide_eq_false (fun q => hl q.1)]
  rfl
theorem fgP_n {tx : Nat → Int32} {n a : Nat} {lo hi : Int32} (hl : ¬ 48 + lo ≤ 0) (ha : a ≤ n) : a ≤ fgP tx n a lo hi ∧ fgP tx n a lo hi ≤ n := by
  rw [fgP]
  split
  · exact ⟨Nat.le_refl _, ha⟩
  · rename_i h
    have := fg_lt hl h
    omega
theorem rpM_n (tx : Nat → Int32) (n a : Nat) (nm : Int32) (ha : a ≤ n) : (rpM tx n a nm).2.1 ≤ n ∧ ((rpM tx n a nm).1 = true → a < (rpM tx n a nm).2.1) := by
  rw [rpM]
  split
  · rename_i h
    have := cd_lt (tx := tx) (n := n) (a := a) (by rw [h]; decide)
    exact ⟨by simp only; omega, fun _ => by simp only; omega⟩
  · split
    · rename_i h
      have h2 := cd_lt (tx := tx) (n := n) (a := a) (by rw [h]; decide)
      have h3 := fgP_n (tx := tx) (n := n) (a := a + 1) (lo := 0) (hi := 4) (by decide) (by omega)
      exact ⟨h3.2, fun _ => by simp only; omega⟩
    · split
      · rename_i h
        have h2 := cd_lt (tx := tx) (n := n) (a := a) (by rcases h with h | h <;> (rw [h]; decide))
        have h3 := fgP_n (tx := tx) (n := n) (a := a + 1) (lo := 1) (hi := 9) (by decide) (by omega)
        have h4 := fgP_n (tx := tx) (n := n) (a := fgP tx n (a + 1) 1 9) (lo := 0) (hi := if fgM tx n (a + 1) 1 9 = 6 then 0 else 9) (by decide) h3.2
        have h5 : fgP tx n (a + 1) 1 9 ≤ rpQ tx n (fgP tx n (a + 1) 1 9) (fgM tx n (a + 1) 1 9) ∧ rpQ tx n (fgP tx n (a + 1) 1 9) (fgM tx n (a + 1) 1 9) ≤ n := by
          rw [rpQ]
          split
          · exact ⟨Nat.le_refl _, h3.2⟩
          · exact h4
        exact ⟨h5.2, fun _ => by simp only; omega⟩
      · exact ⟨ha, fun h => by cases h⟩
/-- the model's reader: whether the text is a work, the place, the open brackets, the latest part -/
def iwN (tx : Nat → Int32) (n : Nat) : Nat → Nat → Nat → Bool → Int32 → Int32 → Bool × Nat × Nat × Int32 × Int32
  | 0, a, o, _, pt, nm => (false, a, o, pt, nm)
  | m + 1, a, o, e, pt, nm =>
    if o < 3 ∧ cdA tx n a = 40 then iwN tx n m (a + 1) (o + 1) true pt nm
    else if 0 < o ∧ e = false ∧ cdA tx n a = 41 then (if fgM tx n (a + 1) 2 9 = -1 then (false, fgP tx n (a + 1) 2 9, o - 1, pt, nm) else iwN tx n m (fgP tx n (a + 1) 2 9) (o - 1) e pt nm)
    else if cdA tx n a = 0 then (decide (e = false ∧ o = 0), a, o, pt, nm)
    else if (rpM tx n a nm).1 = true then iwN tx n m (rpM tx n a nm).2.1 o false (cdA tx n a) (rpM tx n a nm).2.2
    else (false, (rpM tx n a nm).2.1, o, cdA tx n a, (rpM tx n a nm).2.2)
/-- as it is begun -/
def iwG (tx : Nat → Int32) (n : Nat) (pt nm : Int32) : Bool × Nat × Nat × Int32 × Int32 := iwN tx n (n + 1) 0 0 true pt nm
section
variable (th sv at9 pt nm op : Int32) (kp : Bool) (hs : Int64) (s tx bg tm : Nat → Int32) (n : Nat)
theorem c_isWork (hn : n ≤ 60) : Con yX6_isWork cX6_isWork 2 (some .boolean) (rmk 3 66) [.ref 0] (MW th sv (nI n) at9 pt nm op kp hs s tx bg tm) (some (.int (b2i (iwG tx n pt nm).1))) (MW th sv (nI n) (nI (iwG tx n pt nm).2.1) (iwG tx n pt nm).2.2.2.1 (iwG tx n pt nm).2.2.2.2 (nI (iwG tx n pt nm).2.2.1) kp hs s tx bg tm) := by
  refine Con.of (own := RX6) (by decide) rfl (Nat.le_of_ble_eq_true rfl) rfl (fun B M => ?_)
  obtain ⟨g, hg⟩ : ∃ g, g = iwG tx n pt nm := ⟨_, rfl⟩
  rw [← hg] at M
  rw [iwG] at hg
  have loop : ∀ (m a o : Nat) (e : Bool) (p9 n9 : Int32), a ≤ n → n < a + m → o ≤ 3 → g = iwN tx n m a o e p9 n9 → B 12 [(0, .ref 0), (1, .int (b2i e))] [] (MW th sv (nI n) (nI a) p9 n9 (nI o) kp hs s tx bg tm) := by
    intro m
    induction m with
    | zero => intro a o e p9 n9 ha hm ho he; omega
    | succ m ih =>
      intro a o e p9 n9 ha hm ho he
      rw [iwN] at he
      have sg := c_sign th sv p9 n9 (nI o) kp hs s tx bg tm n hn a (by omega)
      have part : ¬ (o < 3 ∧ cdA tx n a = 40) → ¬ (0 < o ∧ e = false ∧ cdA tx n a = 41) → B 107 [(0, .ref 0), (1, .int (b2i e))] [] (MW th sv (nI n) (nI a) p9 n9 (nI o) kp hs s tx bg tm) := by
        intro q1 q2
        rw [if_neg q1, if_neg q2] at he
        refine r_aload_n M dX6_isWork_107 rfl ?_
        refine r_V0ik M sg lk_X6_105 dX6_isWork_108 (by decide +kernel) ⟨Nat.le_of_ble_eq_true rfl, Nat.le_of_ble_eq_true rfl⟩ ⟨rfl, rfl⟩ [0, 1, 2, 3, 4] rfl rfl rfl (by decide +kernel) rfl (Nat.le_of_ble_eq_true rfl) ?_
        by_cases h0 : cdA tx n a = 0
        · rw [if_pos h0] at he
          refine r_if_ne M 131 dX6_isWork_111 (by decide) (fun h9 => absurd h0 h9) (fun _ => ?_)
          refine r_iload_n M dX6_isWork_114 rfl ?_
          cases e
          · refine r_if_ne M 129 dX6_isWork_115 (by decide) (fun h9 => absurd rfl h9) (fun _ => ?_)
            refine r_aload_n M dX6_isWork_118 rfl ?_
            refine r_get M fl_X6_120 dX6_isWork_119 rfl rfl ?_
            by_cases ho0 : o = 0
            · subst ho0
              rw [decide_eq_true ⟨rfl, rfl⟩] at he
              rw [he] at M
              refine r_if_ne M 129 dX6_isWork_122 (by decide) (fun h9 => absurd rfl h9) (fun _ => ?_)
              refine r_iconst M 1 dX6_isWork_125 (by decide) ?_
              refine r_goto M 130 dX6_isWork_126 (by decide) ?_
              exact r_zret M dX6_isWork_130 rfl (by decide) rfl rfl
            · rw [decide_eq_false (fun q => ho0 q.2)] at he
              rw [he] at M
              refine r_if_ne M 129 dX6_isWork_122 (by decide) (fun _ => ?_) (fun h9 => absurd h9 (fun z => ho0 ((nI_eq (b := 0) (by omega) (by omega)).mp z)))
              refine r_iconst M 0 dX6_isWork_129 (by decide) ?_
              exact r_zret M dX6_isWork_130 rfl (by decide) rfl rfl
          · rw [decide_eq_false (fun q => by cases q.1)] at he
            rw [he] at M
            refine r_if_ne M 129 dX6_isWork_115 (by decide) (fun _ => ?_) (fun h9 => absurd h9 (by decide))
            refine r_iconst M 0 dX6_isWork_129 (by decide) ?_
            exact r_zret M dX6_isWork_130 rfl (by decide) rfl rfl
        · rw [if_neg h0] at he
          have hr := c_readsPart th sv p9 n9 (nI o) kp hs s tx bg tm n hn a (by omega)
          have hq := rpM_n tx n a n9 ha
          generalize rpM tx n a n9 = q at he hr hq
          obtain ⟨ok, a2, n2⟩ := q
          refine r_if_ne M 131 dX6_isWork_111 (by decide) (fun _ => ?_) (fun h9 => absurd h9 h0)
          refine r_aload_n M dX6_isWork_131 rfl ?_
          refine r_V0iu (w' :=  MW th sv (nI n) (nI a2) (cdA tx n a) n2 (nI o) kp hs s tx bg tm) M hr lk_X6_123 dX6_isWork_132 (by decide +kernel) ⟨Nat.le_of_ble_eq_true rfl, Nat.le_of_ble_eq_true rfl⟩ ⟨rfl, rfl⟩ [0, 1, 2, 3, 4] rfl rfl rfl (by decide +kernel) rfl (Nat.le_of_ble_eq_true rfl) rfl ?_
          cases ok
          · rw [if_neg (fun z : false = true => by cases z)] at he
            rw [he] at M
            refine r_if_eq M 143 dX6_isWork_135 (by decide) (fun _ => ?_) (fun h9 => absurd rfl h9)
            refine r_iconst M 0 dX6_isWork_143 (by decide) ?_
            exact r_zret M dX6_isWork_144 rfl (by decide) rfl rfl
          · rw [if_pos rfl] at he
            have h9 := hq.2 rfl
            refine r_if_eq M 143 dX6_isWork_135 (by decide) (fun h9 => absurd h9 (show ¬ b2i true = 0 by decide)) (fun _ => ?_)
            refine r_iconst M 0 dX6_isWork_138 (by decide) ?_
            refine r_istore_n M dX6_isWork_139 (by decide) ?_
            refine r_goto M 12 dX6_isWork_140 (by decide) ?_
            exact r_lvs M _ (lvs_c rfl (lvs_c rfl lvs_n)) (ih a2 o false (cdA tx n a) n2 hq.1 (by simp only at h9; omega) ho he)
      have close : ¬ (o < 3 ∧ cdA tx n a = 40) → B 54 [(0, .ref 0), (1, .int (b2i e))] [] (MW th sv (nI n) (nI a) p9 n9 (nI o) kp hs s tx bg tm) := by
        intro q1
        refine r_aload_n M dX6_isWork_54 rfl ?_
        refine r_get M fl_X6_120 dX6_isWork_55 rfl rfl ?_
        by_cases ho0 : o = 0
        · refine r_if_le M 107 dX6_isWork_58 (by decide) (fun _ => ?_) (fun h9 => absurd (by rw [ho0]; decide) h9)
          exact part q1 (fun q => by omega)
        · have hpos : 0 < o := by omega
          refine r_if_le M 107 dX6_isWork_58 (by decide) (fun h9 => absurd h9 (Int32.not_le.mpr (nI_lt (a := 0) hpos (by omega)))) (fun _ => ?_)
          refine r_iload_n M dX6_isWork_61 rfl ?_
          cases he9 : e
          · rw [he9] at part he
            refine r_if_ne M 107 dX6_isWork_62 (by decide) (fun h9 => absurd rfl h9) (fun _ => ?_)
            refine r_aload_n M dX6_isWork_65 rfl ?_
            refine r_V0ik M sg lk_X6_105 dX6_isWork_66 (by decide +kernel) ⟨Nat.le_of_ble_eq_true rfl, Nat.le_of_ble_eq_true rfl⟩ ⟨rfl, rfl⟩ [0, 1, 2, 3, 4] rfl rfl rfl (by decide +kernel) rfl (Nat.le_of_ble_eq_true rfl) ?_
            refine r_bipush M 41 dX6_isWork_69 (by decide) ?_
            by_cases h1 : cdA tx n a = 41
            · rw [if_neg q1, if_pos ⟨hpos, rfl, h1⟩] at he
              have hlt := cd_lt (tx := tx) (n := n) (a := a) (by rw [h1]; decide)
              have hf := c_figure th sv p9 n9 (nI (o - 1)) kp hs s tx bg tm n hn (a + 1) (by omega) 2 9
              have hp := fgP_n (tx := tx) (n := n) (a := a + 1) (lo := 2) (hi := 9) (by decide) (by omega)
              generalize fgM tx n (a + 1) 2 9 = f at he hf
              generalize fgP tx n (a + 1) 2 9 = p at he hf hp
              refine r_icmp_ne M 107 dX6_isWork_71 (by decide) (fun h9 => absurd h1 h9) (fun _ => ?_)
              refine r_aload_n M dX6_isWork_74 rfl ?_
              refine r_dup M dX6_isWork_75 rfl ?_
              refine r_get M fl_X6_102 dX6_isWork_76 rfl rfl ?_
              refine r_iconst M 1 dX6_isWork_79 (by decide) ?_
              refine r_iadd M dX6_isWork_80 ?_
              rw [nI_1]
              refine r_put M fl_X6_102 ff_6_6 dX6_isWork_81 rfl rfl rfl (fun _ => rfl) (Nat.le_of_ble_eq_true rfl) ?_
              refine r_aload_n M dX6_isWork_84 rfl ?_
              refine r_dup M dX6_isWork_85 rfl ?_
              refine r_get M fl_X6_120 dX6_isWork_86 rfl rfl ?_
              refine r_iconst M 1 dX6_isWork_89 (by decide) ?_
              refine r_isub M dX6_isWork_90 ?_
              rw [show nI o - 1 = nI (o - 1) from by conv => lhs; rw [show o = o - 1 + 1 by omega, ← nI_1, Int32.add_sub_cancel]]
              refine r_put M fl_X6_120 ff_6_9 dX6_isWork_91 rfl rfl rfl (fun _ => rfl) (Nat.le_of_ble_eq_true rfl) ?_
              refine r_aload_n M dX6_isWork_94 rfl ?_
              refine r_iconst M 2 dX6_isWork_95 (by decide) ?_
              refine r_bipush M 9 dX6_isWork_96 (by decide) ?_
              refine r_V2iu (w' :=  MW th sv (nI n) (nI p) p9 n9 (nI (o - 1)) kp hs s tx bg tm) M hf lk_X6_114 dX6_isWork_98 (by decide +kernel) ⟨Nat.le_of_ble_eq_true rfl, Nat.le_of_ble_eq_true rfl⟩ ⟨rfl, rfl⟩ [0, 1, 2, 3, 4] rfl rfl rfl (by decide +kernel) rfl (Nat.le_of_ble_eq_true rfl) rfl ?_
              refine r_iconst M (-1) dX6_isWork_101 (by decide) ?_
              by_cases h2 : f = -1
              · rw [if_pos h2] at he
                rw [he] at M
                refine r_icmp_ne M 12 dX6_isWork_102 (by decide) (fun h9 => absurd h2 h9) (fun _ => ?_)
                refine r_iconst M 0 dX6_isWork_105 (by decide) ?_
                exact r_zret M dX6_isWork_106 rfl (by decide) rfl rfl
              · rw [if_neg h2] at he
                refine r_icmp_ne M 12 dX6_isWork_102 (by decide) (fun _ => ?_) (fun h9 => absurd h9 h2)
                exact r_lvs M _ (lvs_c rfl (lvs_c rfl lvs_n)) (ih p (o - 1) false p9 n9 hp.2 (by omega) (by omega) he)
            · refine r_icmp_ne M 107 dX6_isWork_71 (by decide) (fun _ => ?_) (fun h9 => absurd h9 h1)
              exact part q1 (fun q => h1 q.2.2)
          · rw [he9] at part
            refine r_if_ne M 107 dX6_isWork_62 (by decide) (fun _ => ?_) (fun h9 => absurd h9 (by decide))
            exact part q1 (fun q => by cases q.2.1)
      refine r_aload_n M dX6_isWork_12 rfl ?_
      refine r_get M fl_X6_120 dX6_isWork_13 rfl rfl ?_
      refine r_iconst M 3 dX6_isWork_16 (by decide) ?_
      by_cases h3 : o < 3
      · refine r_icmp_ge M 54 dX6_isWork_17 (by decide) (fun h9 => absurd h9 (nI_geF (n := 3) rfl h3 (by omega))) (fun _ => ?_)
        refine r_aload_n M dX6_isWork_20 rfl ?_
        refine r_V0ik M sg lk_X6_105 dX6_isWork_21 (by decide +kernel) ⟨Nat.le_of_ble_eq_true rfl, Nat.le_of_ble_eq_true rfl⟩ ⟨rfl, rfl⟩ [0, 1, 2, 3, 4] rfl rfl rfl (by decide +kernel) rfl (Nat.le_of_ble_eq_true rfl) ?_
        refine r_bipush M 40 dX6_isWork_24 (by decide) ?_
        by_cases h4 : cdA tx n a = 40
        · rw [if_pos ⟨h3, h4⟩] at he
          have hlt := cd_lt (tx := tx) (n := n) (a := a) (by rw [h4]; decide)
          refine r_icmp_ne M 54 dX6_isWork_26 (by decide) (fun h9 => absurd h4 h9) (fun _ => ?_)
          refine r_aload_n M dX6_isWork_29 rfl ?_
          refine r_dup M dX6_isWork_30 rfl ?_
          refine r_get M fl_X6_102 dX6_isWork_31 rfl rfl ?_
          refine r_iconst M 1 dX6_isWork_34 (by decide) ?_
          refine r_iadd M dX6_isWork_35 ?_
          rw [nI_1]
          refine r_put M fl_X6_102 ff_6_6 dX6_isWork_36 rfl rfl rfl (fun _ => rfl) (Nat.le_of_ble_eq_true rfl) ?_
          refine r_aload_n M dX6_isWork_39 rfl ?_
          refine r_dup M dX6_isWork_40 rfl ?_
          refine r_get M fl_X6_120 dX6_isWork_41 rfl rfl ?_
          refine r_iconst M 1 dX6_isWork_44 (by decide) ?_
          refine r_iadd M dX6_isWork_45 ?_
          rw [nI_1]
          refine r_put M fl_X6_120 ff_6_9 dX6_isWork_46 rfl rfl rfl (fun _ => rfl) (Nat.le_of_ble_eq_true rfl) ?_
          refine r_iconst M 1 dX6_isWork_49 (by decide) ?_
          refine r_istore_n M dX6_isWork_50 (by decide) ?_
          refine r_goto M 12 dX6_isWork_51 (by decide) ?_
          exact r_lvs M _ (lvs_c rfl (lvs_c rfl lvs_n)) (ih (a + 1) (o + 1) true p9 n9 (by omega) (by omega) (by omega) he)
        · refine r_icmp_ne M 54 dX6_isWork_26 (by decide) (fun _ => ?_) (fun h9 => absurd h9 h4)
          exact close (fun q => h4 q.2)
      · refine r_icmp_ge M 54 dX6_isWork_17 (by decide) (fun _ => ?_) (fun h9 => absurd (nI_geT (n := 3) rfl (by omega) (by omega)) h9)
        exact close (fun q => h3 q.1)
  refine r_aload_n M dX6_isWork_0 rfl ?_
  refine r_iconst M 0 dX6_isWork_1 (by decide) ?_
  refine r_put M fl_X6_102 ff_6_6 dX6_isWork_2 rfl rfl rfl (fun _ => rfl) (Nat.le_of_ble_eq_true rfl) ?_
  refine r_aload_n M dX6_isWork_5 rfl ?_
  refine r_iconst M 0 dX6_isWork_6 (by decide) ?_
  refine r_put M fl_X6_120 ff_6_9 dX6_isWork_7 rfl rfl rfl (fun _ => rfl) (Nat.le_of_ble_eq_true rfl) ?_
  refine r_iconst M 1 dX6_isWork_10 (by decide) ?_
  refine r_istore_n M dX6_isWork_11 (by decide) ?_
  exact r_lvs M _ (lvs_c rfl (lvs_c rfl lvs_n)) (loop (n + 1) 0 0 true pt nm (by omega) (by omega) (by omega) hg)
theorem c_mFirstError (hn : n ≤ 60) : Con yX6_firstError cX6_firstError 1 (some .int) (rmk 4 87) [.ref 0] (MW th sv (nI n) at9 pt nm op kp hs s tx bg tm) (some (.int (nI (iwG tx n pt nm).2.1))) (MW 0 sv (nI n) (nI (iwG tx n pt nm).2.1) (iwG tx n pt nm).2.2.2.1 (iwG tx n pt nm).2.2.2.2 (nI (iwG tx n pt nm).2.2.1) kp hs s tx bg tm) := by
  refine Con.of (own := RX6) (by decide) rfl (Nat.le_of_ble_eq_true rfl) rfl (fun B M => ?_)
  have hw := c_isWork 0 sv at9 pt nm op kp hs s tx bg tm n hn
  generalize iwG tx n pt nm = g at M hw ⊢
  refine r_aload_n M dX6_firstError_0 rfl ?_
  refine r_iconst M 0 dX6_firstError_1 (by decide) ?_
  refine r_put M fl_X6_22 ff_6_0 dX6_firstError_2 rfl rfl rfl (fun _ => rfl) (Nat.le_of_ble_eq_true rfl) ?_
  refine r_aload_n M dX6_firstError_5 rfl ?_
  refine r_V0iu (w' :=  MW 0 sv (nI n) (nI g.2.1) g.2.2.2.1 g.2.2.2.2 (nI g.2.2.1) kp hs s tx bg tm) M hw lk_X6_126 dX6_firstError_6 (by decide +kernel) ⟨Nat.le_of_ble_eq_true rfl, Nat.le_of_ble_eq_true rfl⟩ ⟨rfl, rfl⟩ [0, 1, 2, 3, 4] rfl rfl rfl (by decide +kernel) rfl (Nat.le_of_ble_eq_true rfl) rfl ?_
  refine r_pop M dX6_firstError_9 rfl ?_
  refine r_aload_n M dX6_firstError_10 rfl ?_
  refine r_get M fl_X6_102 dX6_firstError_11 rfl rfl ?_
  exact r_iret M dX6_firstError_14 rfl rfl rfl
end


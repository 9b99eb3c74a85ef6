/-- a part read in the model: whether there is one, the place behind it, its number -/
def rpG (tx : Nat → Int32) (n a : Nat) (f : Int32) : Int32 := if f = -1 ∨ 6 < f then -1 else fgM tx n a 0 (if f = 6 then 0 else 9)
def rpQ (tx : Nat → Int32) (n a : Nat) (f : Int32) : Nat := if f = -1 ∨ 6 < f then a else fgP tx n a 0 (if f = 6 then 0 else 9)
def rpW (f g : Int32) : Int32 := if g = -1 then f else 10 * f + g
def rpM (tx : Nat → Int32) (n a : Nat) (nm : Int32) : Bool × Nat × Int32 :=
  if cdA tx n a = 108 then (true, a + 1, nm)
  else if cdA tx n a = 107 then (!decide (fgM tx n (a + 1) 0 4 = -1), fgP tx n (a + 1) 0 4, fgM tx n (a + 1) 0 4)
  else if cdA tx n a = 43 ∨ cdA tx n a = 45 then (!decide (rpW (fgM tx n (a + 1) 1 9) (rpG tx n (fgP tx n (a + 1) 1 9) (fgM tx n (a + 1) 1 9)) = -1), rpQ tx n (fgP tx n (a + 1) 1 9) (fgM tx n (a + 1) 1 9), rpW (fgM tx n (a + 1) 1 9) (rpG tx n (fgP tx n (a + 1) 1 9) (fgM tx n (a + 1) 1 9)))
  else (false, a, -1)
theorem fgP_le (tx : Nat → Int32) (n a : Nat) (lo hi : Int32) : fgP tx n a lo hi ≤ a + 1 := by
  rw [fgP]; split <;> omega
section
variable (th sv pt nm op : Int32) (kp : Bool) (hs : Int64) (s tx bg tm : Nat → Int32) (n : Nat)
theorem c_readsPart (hn : n ≤ 60) (a : Nat) (ha : a < 2 ^ 29) : Con yX6_readsPart cX6_readsPart 2 (some .boolean) (rmk 2 45) [.ref 0] (MW th sv (nI n) (nI a) pt nm op kp hs s tx bg tm) (some (.int (b2i (rpM tx n a nm).1))) (MW th sv (nI n) (nI (rpM tx n a nm).2.1) (cdA tx n a) (rpM tx n a nm).2.2 op kp hs s tx bg tm) := by
  refine Con.of (own := RX6) (by decide) rfl (Nat.le_of_ble_eq_true rfl) rfl (fun B M => ?_)
  have tk := fun c => c_takes th sv (cdA tx n a) nm op kp hs s tx bg tm n hn a (by omega) c
  refine r_aload_n M dX6_readsPart_0 rfl ?_
  refine r_aload_n M dX6_readsPart_1 rfl ?_
  refine r_V0ik M (c_sign th sv pt nm op kp hs s tx bg tm n hn a (by omega)) lk_X6_105 dX6_readsPart_2 (by decide +kernel) ⟨Nat.le_of_ble_eq_true rfl, Nat.le_of_ble_eq_true rfl⟩ ⟨rfl, rfl⟩ [0, 1, 2, 3, 4] rfl rfl rfl (by decide +kernel) rfl (Nat.le_of_ble_eq_true rfl) ?_
  refine r_put M fl_X6_108 ff_6_7 dX6_readsPart_5 rfl rfl rfl (fun _ => rfl) (Nat.le_of_ble_eq_true rfl) ?_
  refine r_aload_n M dX6_readsPart_8 rfl ?_
  refine r_bipush M 108 dX6_readsPart_9 (by decide) ?_
  have t1 := tk 108
  by_cases h1 : cdA tx n a = 108
  · rw [decide_eq_true h1, if_pos h1] at t1
    rw [rpM, if_pos h1] at M
    refine r_V1iu (w' :=  MW th sv (nI n) (nI (a + 1)) (cdA tx n a) nm op kp hs s tx bg tm) M t1 lk_X6_111 dX6_readsPart_11 (by decide +kernel) ⟨Nat.le_of_ble_eq_true rfl, Nat.le_of_ble_eq_true rfl⟩ ⟨rfl, rfl⟩ [0, 1, 2, 3, 4] rfl rfl rfl (by decide +kernel) rfl (Nat.le_of_ble_eq_true rfl) rfl ?_
    refine r_if_eq M 19 dX6_readsPart_14 (by decide) (fun h9 => absurd h9 (by decide)) (fun _ => ?_)
    refine r_iconst M 1 dX6_readsPart_17 (by decide) ?_
    exact r_zret M dX6_readsPart_18 rfl rfl rfl rfl
  · rw [decide_eq_false h1, if_neg h1] at t1
    refine r_V1iu (w' :=  MW th sv (nI n) (nI a) (cdA tx n a) nm op kp hs s tx bg tm) M t1 lk_X6_111 dX6_readsPart_11 (by decide +kernel) ⟨Nat.le_of_ble_eq_true rfl, Nat.le_of_ble_eq_true rfl⟩ ⟨rfl, rfl⟩ [0, 1, 2, 3, 4] rfl rfl rfl (by decide +kernel) rfl (Nat.le_of_ble_eq_true rfl) rfl ?_
    refine r_if_eq M 19 dX6_readsPart_14 (by decide) (fun _ => ?_) (fun h9 => absurd (by decide) h9)
    refine r_aload_n M dX6_readsPart_19 rfl ?_
    refine r_bipush M 107 dX6_readsPart_20 (by decide) ?_
    have t2 := tk 107
    by_cases h2 : cdA tx n a = 107
    · rw [decide_eq_true h2, if_pos h2] at t2
      rw [rpM, if_neg h1, if_pos h2] at M
      have hf := c_figure th sv (cdA tx n a) nm op kp hs s tx bg tm n hn (a + 1) (by omega) 0 4
      generalize fgM tx n (a + 1) 0 4 = f at M hf
      generalize fgP tx n (a + 1) 0 4 = p at M hf
      refine r_V1iu (w' :=  MW th sv (nI n) (nI (a + 1)) (cdA tx n a) nm op kp hs s tx bg tm) M t2 lk_X6_111 dX6_readsPart_22 (by decide +kernel) ⟨Nat.le_of_ble_eq_true rfl, Nat.le_of_ble_eq_true rfl⟩ ⟨rfl, rfl⟩ [0, 1, 2, 3, 4] rfl rfl rfl (by decide +kernel) rfl (Nat.le_of_ble_eq_true rfl) rfl ?_
      refine r_if_eq M 52 dX6_readsPart_25 (by decide) (fun h9 => absurd h9 (by decide)) (fun _ => ?_)
      refine r_aload_n M dX6_readsPart_28 rfl ?_
      refine r_aload_n M dX6_readsPart_29 rfl ?_
      refine r_iconst M 0 dX6_readsPart_30 (by decide) ?_
      refine r_iconst M 4 dX6_readsPart_31 (by decide) ?_
      refine r_V2iu (w' :=  MW th sv (nI n) (nI p) (cdA tx n a) nm op kp hs s tx bg tm) M hf lk_X6_114 dX6_readsPart_32 (by decide +kernel) ⟨Nat.le_of_ble_eq_true rfl, Nat.le_of_ble_eq_true rfl⟩ ⟨rfl, rfl⟩ [0, 1, 2, 3, 4] rfl rfl rfl (by decide +kernel) rfl (Nat.le_of_ble_eq_true rfl) rfl ?_
      refine r_put M fl_X6_117 ff_6_8 dX6_readsPart_35 rfl rfl rfl (fun _ => rfl) (Nat.le_of_ble_eq_true rfl) ?_
      refine r_aload_n M dX6_readsPart_38 rfl ?_
      refine r_get M fl_X6_117 dX6_readsPart_39 rfl rfl ?_
      refine r_iconst M (-1) dX6_readsPart_42 (by decide) ?_
      by_cases h3 : f = -1
      · rw [decide_eq_true h3] at M
        refine r_icmp_eq M 50 dX6_readsPart_43 (by decide) (fun _ => ?_) (fun h9 => absurd h3 h9)
        refine r_iconst M 0 dX6_readsPart_50 (by decide) ?_
        exact r_zret M dX6_readsPart_51 rfl (by decide) rfl rfl
      · rw [decide_eq_false h3] at M
        refine r_icmp_eq M 50 dX6_readsPart_43 (by decide) (fun h9 => absurd h9 h3) (fun _ => ?_)
        refine r_iconst M 1 dX6_readsPart_46 (by decide) ?_
        refine r_goto M 51 dX6_readsPart_47 (by decide) ?_
        exact r_zret M dX6_readsPart_51 rfl (by decide) rfl rfl
    · rw [decide_eq_false h2, if_neg h2] at t2
      refine r_V1iu (w' :=  MW th sv (nI n) (nI a) (cdA tx n a) nm op kp hs s tx bg tm) M t2 lk_X6_111 dX6_readsPart_22 (by decide +kernel) ⟨Nat.le_of_ble_eq_true rfl, Nat.le_of_ble_eq_true rfl⟩ ⟨rfl, rfl⟩ [0, 1, 2, 3, 4] rfl rfl rfl (by decide +kernel) rfl (Nat.le_of_ble_eq_true rfl) rfl ?_
      refine r_if_eq M 52 dX6_readsPart_25 (by decide) (fun _ => ?_) (fun h9 => absurd (by decide) h9)
      refine r_aload_n M dX6_readsPart_52 rfl ?_
      refine r_aload_n M dX6_readsPart_53 rfl ?_
      refine r_bipush M 43 dX6_readsPart_54 (by decide) ?_
      have main : ∀ (p : Nat) (f : Int32), p < 2 ^ 30 → (rpM tx n a nm).1 = !decide (rpW f (rpG tx n p f) = -1) → (rpM tx n a nm).2.1 = rpQ tx n p f → (rpM tx n a nm).2.2 = rpW f (rpG tx n p f) → B 82 [(0, .ref 0)] [.int f, .ref 0] (MW th sv (nI n) (nI p) (cdA tx n a) nm op kp hs s tx bg tm) := by
        intro p f hp e1 e2 e3
        rw [e1, e2, e3] at M
        have tail : ∀ (g : Int32), g = rpG tx n p f → B 126 [(0, .ref 0)] [.int g] (MW th sv (nI n) (nI (rpQ tx n p f)) (cdA tx n a) f op kp hs s tx bg tm) := by
          intro g hg
          rw [← hg] at M
          generalize rpQ tx n p f = p2 at M ⊢
          have last : ∀ y : Int32, y = rpW f g → B 149 [(0, .ref 0), (1, .int g)] [.int y, .ref 0] (MW th sv (nI n) (nI p2) (cdA tx n a) f op kp hs s tx bg tm) := by
            intro y hy
            rw [← hy] at M
            refine r_put M fl_X6_117 ff_6_8 dX6_readsPart_149 rfl rfl rfl (fun _ => rfl) (Nat.le_of_ble_eq_true rfl) ?_
            refine r_aload_n M dX6_readsPart_152 rfl ?_
            refine r_get M fl_X6_117 dX6_readsPart_153 rfl rfl ?_
            refine r_iconst M (-1) dX6_readsPart_156 (by decide) ?_
            by_cases h3 : y = -1
            · rw [decide_eq_true h3] at M
              refine r_icmp_eq M 164 dX6_readsPart_157 (by decide) (fun _ => ?_) (fun h9 => absurd h3 h9)
              refine r_iconst M 0 dX6_readsPart_164 (by decide) ?_
              exact r_zret M dX6_readsPart_165 rfl (by decide) rfl rfl
            · rw [decide_eq_false h3] at M
              refine r_icmp_eq M 164 dX6_readsPart_157 (by decide) (fun h9 => absurd h9 h3) (fun _ => ?_)
              refine r_iconst M 1 dX6_readsPart_160 (by decide) ?_
              refine r_goto M 165 dX6_readsPart_161 (by decide) ?_
              exact r_zret M dX6_readsPart_165 rfl (by decide) rfl rfl
          refine r_istore_n M dX6_readsPart_126 (by decide) ?_
          refine r_aload_n M dX6_readsPart_127 rfl ?_
          refine r_iload_n M dX6_readsPart_128 rfl ?_
          refine r_iconst M (-1) dX6_readsPart_129 (by decide) ?_
          by_cases h3 : g = -1
          · refine r_icmp_ne M 140 dX6_readsPart_130 (by decide) (fun h9 => absurd h3 h9) (fun _ => ?_)
            refine r_aload_n M dX6_readsPart_133 rfl ?_
            refine r_get M fl_X6_117 dX6_readsPart_134 rfl rfl ?_
            refine r_goto M 149 dX6_readsPart_137 (by decide) ?_
            exact r_lvs M _ (lvs_c rfl (lvs_c rfl lvs_n)) (last f (by rw [rpW, if_pos h3]))
          · refine r_icmp_ne M 140 dX6_readsPart_130 (by decide) (fun _ => ?_) (fun h9 => absurd h9 h3)
            refine r_bipush M 10 dX6_readsPart_140 (by decide) ?_
            refine r_aload_n M dX6_readsPart_142 rfl ?_
            refine r_get M fl_X6_117 dX6_readsPart_143 rfl rfl ?_
            refine r_imul M dX6_readsPart_146 ?_
            refine r_iload_n M dX6_readsPart_147 rfl ?_
            refine r_iadd M dX6_readsPart_148 ?_
            exact r_lvs M _ (lvs_c rfl (lvs_c rfl lvs_n)) (last _ (by rw [rpW, if_neg h3]))
        have hf := fun hi => c_figure th sv (cdA tx n a) f op kp hs s tx bg tm n hn p hp 0 hi
        rw [rpG, rpQ] at tail
        refine r_put M fl_X6_117 ff_6_8 dX6_readsPart_82 rfl rfl rfl (fun _ => rfl) (Nat.le_of_ble_eq_true rfl) ?_
        refine r_aload_n M dX6_readsPart_85 rfl ?_
        refine r_get M fl_X6_117 dX6_readsPart_86 rfl rfl ?_
        refine r_iconst M (-1) dX6_readsPart_89 (by decide) ?_
        by_cases h3 : f = -1
        · rw [if_pos (Or.inl h3), if_pos (Or.inl h3)] at tail
          refine r_icmp_eq M 102 dX6_readsPart_90 (by decide) (fun _ => ?_) (fun h9 => absurd h3 h9)
          refine r_iconst M (-1) dX6_readsPart_102 (by decide) ?_
          refine r_goto M 126 dX6_readsPart_103 (by decide) ?_
          exact tail (-1) rfl
        · refine r_icmp_eq M 102 dX6_readsPart_90 (by decide) (fun h9 => absurd h9 h3) (fun _ => ?_)
          refine r_aload_n M dX6_readsPart_93 rfl ?_
          refine r_get M fl_X6_117 dX6_readsPart_94 rfl rfl ?_
          refine r_bipush M 6 dX6_readsPart_97 (by decide) ?_
          by_cases h4 : 6 < f
          · rw [if_pos (Or.inr h4), if_pos (Or.inr h4)] at tail
            refine r_icmp_le M 106 dX6_readsPart_99 (by decide) (fun h9 => absurd h9 (Int32.not_le.mpr h4)) (fun _ => ?_)
            refine r_iconst M (-1) dX6_readsPart_102 (by decide) ?_
            refine r_goto M 126 dX6_readsPart_103 (by decide) ?_
            exact tail (-1) rfl
          · have hno : ¬ (f = -1 ∨ 6 < f) := fun q => q.elim h3 h4
            rw [if_neg hno, if_neg hno] at tail
            refine r_icmp_le M 106 dX6_readsPart_99 (by decide) (fun _ => ?_) (fun h9 => absurd (Int32.not_lt.mp h4) h9)
            refine r_aload_n M dX6_readsPart_106 rfl ?_
            refine r_iconst M 0 dX6_readsPart_107 (by decide) ?_
            refine r_aload_n M dX6_readsPart_108 rfl ?_
            refine r_get M fl_X6_117 dX6_readsPart_109 rfl rfl ?_
            refine r_bipush M 6 dX6_readsPart_112 (by decide) ?_
            by_cases h5 : f = 6
            · rw [if_pos h5] at tail
              have hf0 := hf 0
              generalize fgM tx n p 0 0 = g0 at tail hf0
              generalize fgP tx n p 0 0 = p0 at tail hf0
              refine r_icmp_ne M 121 dX6_readsPart_114 (by decide) (fun h9 => absurd h5 h9) (fun _ => ?_)
              refine r_iconst M 0 dX6_readsPart_117 (by decide) ?_
              refine r_goto M 123 dX6_readsPart_118 (by decide) ?_
              refine r_V2iu (w' :=  MW th sv (nI n) (nI p0) (cdA tx n a) f op kp hs s tx bg tm) M hf0 lk_X6_114 dX6_readsPart_123 (by decide +kernel) ⟨Nat.le_of_ble_eq_true rfl, Nat.le_of_ble_eq_true rfl⟩ ⟨rfl, rfl⟩ [0, 1, 2, 3, 4] rfl rfl rfl (by decide +kernel) rfl (Nat.le_of_ble_eq_true rfl) rfl ?_
              exact tail g0 rfl
            · rw [if_neg h5] at tail
              have hf0 := hf 9
              generalize fgM tx n p 0 9 = g0 at tail hf0
              generalize fgP tx n p 0 9 = p0 at tail hf0
              refine r_icmp_ne M 121 dX6_readsPart_114 (by decide) (fun _ => ?_) (fun h9 => absurd h9 h5)
              refine r_bipush M 9 dX6_readsPart_121 (by decide) ?_
              refine r_V2iu (w' :=  MW th sv (nI n) (nI p0) (cdA tx n a) f op kp hs s tx bg tm) M hf0 lk_X6_114 dX6_readsPart_123 (by decide +kernel) ⟨Nat.le_of_ble_eq_true rfl, Nat.le_of_ble_eq_true rfl⟩ ⟨rfl, rfl⟩ [0, 1, 2, 3, 4] rfl rfl rfl (by decide +kernel) rfl (Nat.le_of_ble_eq_true rfl) rfl ?_
              exact tail g0 rfl
      have sgn : (cdA tx n a = 43 ∨ cdA tx n a = 45) → B 71 [(0, .ref 0)] [.ref 0] (MW th sv (nI n) (nI (a + 1)) (cdA tx n a) nm op kp hs s tx bg tm) := by
        intro hor
        have e : rpM tx n a nm = (!decide (rpW (fgM tx n (a + 1) 1 9) (rpG tx n (fgP tx n (a + 1) 1 9) (fgM tx n (a + 1) 1 9)) = -1), rpQ tx n (fgP tx n (a + 1) 1 9) (fgM tx n (a + 1) 1 9), rpW (fgM tx n (a + 1) 1 9) (rpG tx n (fgP tx n (a + 1) 1 9) (fgM tx n (a + 1) 1 9))) := by rw [rpM, if_neg h1, if_neg h2, if_pos hor]
        have hf := c_figure th sv (cdA tx n a) nm op kp hs s tx bg tm n hn (a + 1) (by omega) 1 9
        have hp := fgP_le tx n (a + 1) 1 9
        have m9 := main (fgP tx n (a + 1) 1 9) (fgM tx n (a + 1) 1 9) (by omega) (by rw [e]) (by rw [e]) (by rw [e])
        generalize fgM tx n (a + 1) 1 9 = f at m9 hf
        generalize fgP tx n (a + 1) 1 9 = p at m9 hf
        refine r_aload_n M dX6_readsPart_71 rfl ?_
        refine r_iconst M 1 dX6_readsPart_72 (by decide) ?_
        refine r_bipush M 9 dX6_readsPart_73 (by decide) ?_
        refine r_V2iu (w' :=  MW th sv (nI n) (nI p) (cdA tx n a) nm op kp hs s tx bg tm) M hf lk_X6_114 dX6_readsPart_75 (by decide +kernel) ⟨Nat.le_of_ble_eq_true rfl, Nat.le_of_ble_eq_true rfl⟩ ⟨rfl, rfl⟩ [0, 1, 2, 3, 4] rfl rfl rfl (by decide +kernel) rfl (Nat.le_of_ble_eq_true rfl) rfl ?_
        refine r_goto M 82 dX6_readsPart_78 (by decide) ?_
        exact m9
      have t3 := tk 43
      by_cases h3 : cdA tx n a = 43
      · rw [decide_eq_true h3, if_pos h3] at t3
        refine r_V1iu (w' :=  MW th sv (nI n) (nI (a + 1)) (cdA tx n a) nm op kp hs s tx bg tm) M t3 lk_X6_111 dX6_readsPart_56 (by decide +kernel) ⟨Nat.le_of_ble_eq_true rfl, Nat.le_of_ble_eq_true rfl⟩ ⟨rfl, rfl⟩ [0, 1, 2, 3, 4] rfl rfl rfl (by decide +kernel) rfl (Nat.le_of_ble_eq_true rfl) rfl ?_
        refine r_if_ne M 71 dX6_readsPart_59 (by decide) (fun _ => ?_) (fun h9 => absurd h9 (by decide))
        exact sgn (Or.inl h3)
      · rw [decide_eq_false h3, if_neg h3] at t3
        refine r_V1iu (w' :=  MW th sv (nI n) (nI a) (cdA tx n a) nm op kp hs s tx bg tm) M t3 lk_X6_111 dX6_readsPart_56 (by decide +kernel) ⟨Nat.le_of_ble_eq_true rfl, Nat.le_of_ble_eq_true rfl⟩ ⟨rfl, rfl⟩ [0, 1, 2, 3, 4] rfl rfl rfl (by decide +kernel) rfl (Nat.le_of_ble_eq_true rfl) rfl ?_
        refine r_if_ne M 71 dX6_readsPart_59 (by decide) (fun h9 => absurd rfl h9) (fun _ => ?_)
        refine r_aload_n M dX6_readsPart_62 rfl ?_
        refine r_bipush M 45 dX6_readsPart_63 (by decide) ?_
        have t4 := tk 45
        by_cases h4 : cdA tx n a = 45
        · rw [decide_eq_true h4, if_pos h4] at t4
          refine r_V1iu (w' :=  MW th sv (nI n) (nI (a + 1)) (cdA tx n a) nm op kp hs s tx bg tm) M t4 lk_X6_111 dX6_readsPart_65 (by decide +kernel) ⟨Nat.le_of_ble_eq_true rfl, Nat.le_of_ble_eq_true rfl⟩ ⟨rfl, rfl⟩ [0, 1, 2, 3, 4] rfl rfl rfl (by decide +kernel) rfl (Nat.le_of_ble_eq_true rfl) rfl ?_
          refine r_if_eq M 81 dX6_readsPart_68 (by decide) (fun h9 => absurd h9 (by decide)) (fun _ => ?_)
          exact sgn (Or.inr h4)
        · rw [decide_eq_false h4, if_neg h4] at t4
          have e : rpM tx n a nm = (false, a, -1) := by rw [rpM, if_neg h1, if_neg h2, if_neg (fun q => q.elim h3 h4)]
          refine r_V1iu (w' :=  MW th sv (nI n) (nI a) (cdA tx n a) nm op kp hs s tx bg tm) M t4 lk_X6_111 dX6_readsPart_65 (by decide +kernel) ⟨Nat.le_of_ble_eq_true rfl, Nat.le_of_ble_eq_true rfl⟩ ⟨rfl, rfl⟩ [0, 1, 2, 3, 4] rfl rfl rfl (by decide +kernel) rfl (Nat.le_of_ble_eq_true rfl) rfl ?_
          refine r_if_eq M 81 dX6_readsPart_68 (by decide) (fun _ => ?_) (fun h9 => absurd (by decide) h9)
          refine r_iconst M (-1) dX6_readsPart_81 (by decide) ?_
          exact main a (-1) (by omega) (by rw [e, rpG, if_pos (Or.inl rfl)]; rfl) (by rw [e, rpQ, if_pos (Or.inl rfl)]) (by rw [e, rpG, if_pos (Or.inl rfl)]; rfl)
end


theorem Rp_its {x : Int32} : ∀ (m : Nat) (s : Nat → Int32) (d : SD), Rp s d → SOk d → Rp (stIt x (tuG x m d).1 s) (tuG x m d).2 ∧ SOk (tuG x m d).2
  | 0, s, d, hR, hO => ⟨hR, hO⟩
  | m + 1, s, d, hR, hO => by
    rw [tuG]
    split
    · exact Rp_its m (stS s x) (stepD d x) (Rp_step hR hO x) (SOk_step hO x)
    · exact ⟨hR, hO⟩
section
variable (th sv ln at9 nm op : Int32) (kp : Bool) (hs : Int64) (s tx bg tm : Nat → Int32)
theorem c_doesL (u : Int32) : Con yX6_does cX6_does 5 (some .int) (rmk 5 117) [.ref 0, .int u] (MW th sv ln at9 108 nm op kp hs s tx bg tm) (some (.int 0)) (MW th sv ln at9 108 nm op kp hs (upd s 77 1) tx bg tm) := by
  refine Con.of (own := RX6) (by decide) rfl (Nat.le_of_ble_eq_true rfl) rfl (fun B M => ?_)
  refine r_aload_n M dX6_does_0 rfl ?_
  refine r_get M fl_X6_108 dX6_does_1 rfl rfl ?_
  refine r_bipush M 108 dX6_does_4 (by decide) ?_
  refine r_icmp_ne M 19 dX6_does_6 (by decide) (fun h9 => absurd rfl h9) (fun _ => ?_)
  refine r_aload_n M dX6_does_9 rfl ?_
  refine r_get M fl_X6_7 dX6_does_10 rfl rfl ?_
  refine r_bipush M 77 dX6_does_13 (by decide) ?_
  refine r_iconst M 1 dX6_does_15 (by decide) ?_
  refine r_iast M dX6_does_16 rfl (s_in (j := 77) (by omega)) ?_
  refine r_iconst M 0 dX6_does_17 (by decide) ?_
  exact r_iret M dX6_does_18 rfl rfl rfl
theorem c_doesK (u : Int32) (w : Nat) (h5 : w < 5) : Con yX6_does cX6_does 5 (some .int) (rmk 5 117) [.ref 0, .int u] (MW th sv ln at9 107 (nI w) op kp hs s tx bg tm) (some (.int 0)) (MW th sv ln at9 107 (nI w) op kp hs (upd s (10 + w) (1 - s (10 + w))) tx bg tm) := by
  refine Con.of (own := RX6) (by decide) rfl (Nat.le_of_ble_eq_true rfl) rfl (fun B M => ?_)
  have e : (10 : Int32) + nI w = nI (10 + w) := nI_add 10 w
  refine r_aload_n M dX6_does_0 rfl ?_
  refine r_get M fl_X6_108 dX6_does_1 rfl rfl ?_
  refine r_bipush M 108 dX6_does_4 (by decide) ?_
  refine r_icmp_ne M 19 dX6_does_6 (by decide) (fun _ => ?_) (fun h9 => absurd h9 (by decide))
  refine r_aload_n M dX6_does_19 rfl ?_
  refine r_get M fl_X6_108 dX6_does_20 rfl rfl ?_
  refine r_bipush M 107 dX6_does_23 (by decide) ?_
  refine r_icmp_ne M 56 dX6_does_25 (by decide) (fun h9 => absurd rfl h9) (fun _ => ?_)
  refine r_aload_n M dX6_does_28 rfl ?_
  refine r_get M fl_X6_7 dX6_does_29 rfl rfl ?_
  refine r_bipush M 10 dX6_does_32 (by decide) ?_
  refine r_aload_n M dX6_does_34 rfl ?_
  refine r_get M fl_X6_117 dX6_does_35 rfl rfl ?_
  refine r_iadd M dX6_does_38 ?_
  refine r_iconst M 1 dX6_does_39 (by decide) ?_
  refine r_aload_n M dX6_does_40 rfl ?_
  refine r_get M fl_X6_7 dX6_does_41 rfl rfl ?_
  refine r_bipush M 10 dX6_does_44 (by decide) ?_
  refine r_aload_n M dX6_does_46 rfl ?_
  refine r_get M fl_X6_117 dX6_does_47 rfl rfl ?_
  refine r_iadd M dX6_does_50 ?_
  rw [e]
  refine r_iald M dX6_does_51 rfl (s_in (by omega)) ?_
  rw [cl_s (by omega)]
  refine r_isub M dX6_does_52 ?_
  refine r_iast M dX6_does_53 rfl (s_in (by omega)) ?_
  rw [cl_s (by omega)]
  refine r_iconst M 0 dX6_does_54 (by decide) ?_
  exact r_iret M dX6_does_55 rfl rfl rfl
/-- what stands as the latest reason behind so many steps of w, with so many left -/
def latD (y : Int32) (w l : Nat) (d : SD) : Int32 := if (tuG y (if w < l then w else l) d).1 = w then 0 else if (tuG y (if w < l then w else l) d).1 = l then 5 else whyD (tuG y (if w < l then w else l) d).2 y
theorem c_doesT (u w : Nat) (hu : u ≤ 2000) (hw : w < 2 ^ 31) (pt y : Int32) (h1 : ¬ pt = 108) (h2 : ¬ pt = 107) (hy : y = (if pt = 43 then 1 else -1)) {d : SD} (hR : Rp s d) (hO : SOk d) : Con yX6_does cX6_does 5 (some .int) (rmk 5 117) [.ref 0, .int (nI u)] (MW th sv ln at9 pt (nI w) op kp hs s tx bg tm) (some (.int (nI (tuG y (if w < 2000 - u then w else 2000 - u) d).1))) (MW th sv ln at9 pt (nI w) op kp hs (upd (stIt y (tuG y (if w < 2000 - u then w else 2000 - u) d).1 s) 80 (latD y w (2000 - u) d)) tx bg tm) := by
  refine Con.of (own := RX6) (by decide) rfl (Nat.le_of_ble_eq_true rfl) rfl (fun B M => ?_)
  have e20 : (2000 : Int32) - nI u = nI (2000 - u) := by
    conv => lhs; rw [show (2000 : Int32) = nI (2000 - u + u) by rw [show 2000 - u + u = 2000 by omega]; rfl, ← nI_add]
    rw [Int32.add_sub_cancel]
  obtain ⟨l, hl⟩ : ∃ l, l = 2000 - u := ⟨_, rfl⟩
  rw [← hl] at M e20
  rw [latD] at M
  obtain ⟨k, hk⟩ : ∃ k, k = (if w < l then w else l) := ⟨_, rfl⟩
  rw [← hk] at M
  have hkb : k < 2 ^ 31 := by
    rw [hk]
    split <;> omega
  have ht := c_turns th sv ln at9 pt (nI w) op kp hs s tx bg tm y k hkb hR hO
  obtain ⟨hR2, hO2⟩ := Rp_its (x := y) k s d hR hO
  have hle := tuG_le y k d
  generalize (tuG y k d).1 = q at M ht hR2 hle
  generalize (tuG y k d).2 = d2 at M hR2 hO2
  generalize stIt y q s = s2 at M ht hR2
  have go : B 95 [(0, .ref 0), (1, .int (nI u)), (2, .int y), (3, .int (nI l))] [.int (nI k), .int y, .ref 0] (MW th sv ln at9 pt (nI w) op kp hs s tx bg tm) := by
    have fin : ∀ z : Int32, z = (if q = w then 0 else if q = l then 5 else whyD d2 y) → B 135 [(0, .ref 0), (1, .int (nI u)), (2, .int y), (3, .int (nI l)), (4, .int (nI q))] [.int z, .int 80, .ref 1] (MW th sv ln at9 pt (nI w) op kp hs s2 tx bg tm) := by
      intro z hz
      rw [← hz] at M
      refine r_iast M dX6_does_135 rfl (s_in (j := 80) (by omega)) ?_
      refine r_iload M dX6_does_136 rfl ?_
      exact r_iret M dX6_does_138 rfl rfl rfl
    refine r_V2iu (w' :=  MW th sv ln at9 pt (nI w) op kp hs s2 tx bg tm) M ht lk_X6_70 dX6_does_95 (by decide +kernel) ⟨Nat.le_of_ble_eq_true rfl, Nat.le_of_ble_eq_true rfl⟩ ⟨rfl, rfl⟩ [0, 1, 2, 3, 4] rfl rfl rfl (by decide +kernel) rfl (Nat.le_of_ble_eq_true rfl) rfl ?_
    refine r_istore M dX6_does_98 (by decide) ?_
    refine r_aload_n M dX6_does_100 rfl ?_
    refine r_get M fl_X6_7 dX6_does_101 rfl rfl ?_
    refine r_bipush M 80 dX6_does_104 (by decide) ?_
    refine r_iload M dX6_does_106 rfl ?_
    refine r_aload_n M dX6_does_108 rfl ?_
    refine r_get M fl_X6_117 dX6_does_109 rfl rfl ?_
    by_cases e1 : q = w
    · rw [if_pos e1] at fin
      refine r_icmp_ne M 119 dX6_does_112 (by decide) (fun h9 => absurd (by rw [e1]) h9) (fun _ => ?_)
      refine r_iconst M 0 dX6_does_115 (by decide) ?_
      refine r_goto M 135 dX6_does_116 (by decide) ?_
      exact r_lvs M _ (lvs_c rfl (lvs_c rfl (lvs_c rfl (lvs_c rfl (lvs_c rfl lvs_n))))) (fin 0 rfl)
    · rw [if_neg e1] at fin
      refine r_icmp_ne M 119 dX6_does_112 (by decide) (fun _ => ?_) (fun h9 => absurd h9 (fun z => e1 ((nI_eq (by omega) (by omega)).mp z)))
      refine r_iload M dX6_does_119 rfl ?_
      refine r_iload_n M dX6_does_121 rfl ?_
      by_cases e2 : q = l
      · rw [if_pos e2] at fin
        refine r_icmp_ne M 129 dX6_does_122 (by decide) (fun h9 => absurd (by rw [e2]) h9) (fun _ => ?_)
        refine r_iconst M 5 dX6_does_125 (by decide) ?_
        refine r_goto M 135 dX6_does_126 (by decide) ?_
        exact r_lvs M _ (lvs_c rfl (lvs_c rfl (lvs_c rfl (lvs_c rfl (lvs_c rfl lvs_n))))) (fin 5 rfl)
      · rw [if_neg e2] at fin
        refine r_icmp_ne M 129 dX6_does_122 (by decide) (fun _ => ?_) (fun h9 => absurd h9 (fun z => e2 ((nI_eq (by omega) (by omega)).mp z)))
        refine r_aload_n M dX6_does_129 rfl ?_
        refine r_iload_n M dX6_does_130 rfl ?_
        refine r_iconst M (-1) dX6_does_131 (by decide) ?_
        refine r_V2ik M (c_whyNot th sv ln at9 pt (nI w) op kp hs s2 tx bg tm hR2 hO2 y (-1) (sLo d2) (fun w h5 => lo_all d2 h5)) lk_X6_49 dX6_does_132 (by decide +kernel) ⟨Nat.le_of_ble_eq_true rfl, Nat.le_of_ble_eq_true rfl⟩ ⟨rfl, rfl⟩ [0, 1, 2, 3, 4] rfl rfl rfl (by decide +kernel) rfl (Nat.le_of_ble_eq_true rfl) ?_
        exact r_lvs M _ (lvs_c rfl (lvs_c rfl (lvs_c rfl (lvs_c rfl (lvs_c rfl lvs_n))))) (fin (whyD d2 y) rfl)
  have mid : B 70 [(0, .ref 0), (1, .int (nI u))] [.int y] (MW th sv ln at9 pt (nI w) op kp hs s tx bg tm) := by
    refine r_istore_n M dX6_does_70 (by decide) ?_
    refine r_sipush M 2000 dX6_does_71 (by decide) ?_
    refine r_iload_n M dX6_does_74 rfl ?_
    refine r_isub M dX6_does_75 ?_
    rw [e20]
    refine r_istore_n M dX6_does_76 (by decide) ?_
    refine r_aload_n M dX6_does_77 rfl ?_
    refine r_iload_n M dX6_does_78 rfl ?_
    refine r_aload_n M dX6_does_79 rfl ?_
    refine r_get M fl_X6_117 dX6_does_80 rfl rfl ?_
    refine r_iload_n M dX6_does_83 rfl ?_
    by_cases hlt : w < l
    · rw [if_pos hlt] at hk
      subst hk
      refine r_icmp_ge M 94 dX6_does_84 (by decide) (fun h9 => absurd h9 (nI_ge hlt (by omega))) (fun _ => ?_)
      refine r_aload_n M dX6_does_87 rfl ?_
      refine r_get M fl_X6_117 dX6_does_88 rfl rfl ?_
      refine r_goto M 95 dX6_does_91 (by decide) ?_
      exact r_lvs M _ (lvs_c rfl (lvs_c rfl (lvs_c rfl (lvs_c rfl lvs_n)))) go
    · rw [if_neg hlt] at hk
      subst hk
      refine r_icmp_ge M 94 dX6_does_84 (by decide) (fun _ => ?_) (fun h9 => absurd (nI_le (by omega) (by omega)) h9)
      refine r_iload_n M dX6_does_94 rfl ?_
      exact r_lvs M _ (lvs_c rfl (lvs_c rfl (lvs_c rfl (lvs_c rfl lvs_n)))) go
  refine r_aload_n M dX6_does_0 rfl ?_
  refine r_get M fl_X6_108 dX6_does_1 rfl rfl ?_
  refine r_bipush M 108 dX6_does_4 (by decide) ?_
  refine r_icmp_ne M 19 dX6_does_6 (by decide) (fun _ => ?_) (fun h9 => absurd h9 h1)
  refine r_aload_n M dX6_does_19 rfl ?_
  refine r_get M fl_X6_108 dX6_does_20 rfl rfl ?_
  refine r_bipush M 107 dX6_does_23 (by decide) ?_
  refine r_icmp_ne M 56 dX6_does_25 (by decide) (fun _ => ?_) (fun h9 => absurd h9 h2)
  refine r_aload_n M dX6_does_56 rfl ?_
  refine r_get M fl_X6_108 dX6_does_57 rfl rfl ?_
  refine r_bipush M 43 dX6_does_60 (by decide) ?_
  by_cases h3 : pt = 43
  · rw [if_pos h3] at hy
    subst hy
    refine r_icmp_ne M 69 dX6_does_62 (by decide) (fun h9 => absurd h3 h9) (fun _ => ?_)
    refine r_iconst M 1 dX6_does_65 (by decide) ?_
    refine r_goto M 70 dX6_does_66 (by decide) ?_
    exact mid
  · rw [if_neg h3] at hy
    subst hy
    refine r_icmp_ne M 69 dX6_does_62 (by decide) (fun _ => ?_) (fun h9 => absurd h9 h3)
    refine r_iconst M (-1) dX6_does_69 (by decide) ?_
    exact mid
end


section
variable (th at9 pt nm op : Int32) (kp : Bool) (hs : Int64) (s tx bg tm : Nat → Int32) (n v : Nat)
theorem c_mWorkF (hn : n ≤ 60) (hw : (iwG tx n pt nm).1 = false) : Con yX6_work cX6_work 3 (some .int) (rmk 6 141) [.ref 0] (MW th (nI v) (nI n) at9 pt nm op kp hs s tx bg tm) (some (.int 0)) (MW 1 (nI v) (nI n) (nI (iwG tx n pt nm).2.1) (iwG tx n pt nm).2.2.2.1 (iwG tx n pt nm).2.2.2.2 (nI (iwG tx n pt nm).2.2.1) kp hs s tx bg tm) := by
  refine Con.of (own := RX6) (by decide) rfl (Nat.le_of_ble_eq_true rfl) rfl (fun B M => ?_)
  have hc := c_isWork th (nI v) at9 pt nm op kp hs s tx bg tm n hn
  rw [hw] at hc
  generalize iwG tx n pt nm = g at M hc ⊢
  refine r_aload_n M dX6_work_0 rfl ?_
  refine r_aload_n M dX6_work_1 rfl ?_
  refine r_V0iu (w' :=  MW th (nI v) (nI n) (nI g.2.1) g.2.2.2.1 g.2.2.2.2 (nI g.2.2.1) kp hs s tx bg tm) M hc lk_X6_126 dX6_work_2 (by decide +kernel) ⟨Nat.le_of_ble_eq_true rfl, Nat.le_of_ble_eq_true rfl⟩ ⟨rfl, rfl⟩ [0, 1, 2, 3, 4] rfl rfl rfl (by decide +kernel) rfl (Nat.le_of_ble_eq_true rfl) rfl ?_
  refine r_if_eq M 12 dX6_work_5 (by decide) (fun _ => ?_) (fun h9 => absurd rfl h9)
  refine r_iconst M 1 dX6_work_12 (by decide) ?_
  refine r_V1iu (w' :=  _) M (c_holds th (nI v) (nI n) (nI g.2.1) g.2.2.2.1 g.2.2.2.2 (nI g.2.2.1) kp hs s tx bg tm 1) lk_X6_63 dX6_work_13 (by decide +kernel) ⟨Nat.le_of_ble_eq_true rfl, Nat.le_of_ble_eq_true rfl⟩ ⟨rfl, rfl⟩ [0, 1, 2, 3, 4] rfl rfl rfl (by decide +kernel) rfl (Nat.le_of_ble_eq_true rfl) rfl ?_
  refine r_if_ne M 21 dX6_work_16 (by decide) (fun h9 => absurd (by decide) h9) (fun _ => ?_)
  refine r_iconst M 0 dX6_work_19 (by decide) ?_
  exact r_iret M dX6_work_20 rfl rfl rfl
theorem c_mWork (hn : n ≤ 60) (hv : v ≤ 6) (hw : (iwG tx n pt nm).1 = true) (sts td : Nat → Nat) {d : SD} (hR : Rp s d) (hO : SOk d) (I : PSt → Prop) (mu : PSt → Nat) (m : Nat)
    (h0 : I (0, 0, sts, td, 0, 0, d)) (hm0 : mu (0, 0, sts, td, 0, 0, d) ≤ m) (hI : ∀ p, I p → p.1 ≤ n ∧ (pfGo n p = true → mwOk tx n p ∧ I (pf1 tx n p) ∧ mu (pf1 tx n p) < mu p))
    (W : PSt × MSt) (hW : mwN tx n m (0, 0, sts, td, 0, 0, d) (bg, tm, (iwG tx n pt nm).2.2.2.1, (iwG tx n pt nm).2.2.2.2, upd (svS s v) 80 0) = W) :
    Con yX6_work cX6_work 3 (some .int) (rmk 6 141) [.ref 0] (MW th (nI v) (nI n) at9 pt nm op kp hs s tx bg tm) (some (.int W.1.2.2.2.2.1)) (MW 0 (nI (puK v)) 0 (nI W.1.1) W.2.2.2.1 W.2.2.2.2.1 (nI W.1.2.1) kp hs W.2.2.2.2.2 tx W.2.1 W.2.2.1) := by
  refine Con.of (own := RX6) (by decide) rfl (Nat.le_of_ble_eq_true rfl) rfl (fun B M => ?_)
  have hc := c_isWork th (nI v) at9 pt nm op kp hs s tx bg tm n hn
  rw [hw] at hc
  generalize iwG tx n pt nm = g at hc hW
  have hR2 := Rp_sv hO hR v
  have loop : ∀ (r a o : Nat) (sts9 td9 : Nat → Nat) (u : Nat) (en9 : Int32) (d9 : SD) (q : MSt), mu (a, o, sts9, td9, nI u, en9, d9) ≤ r → I (a, o, sts9, td9, nI u, en9, d9) → mRel (a, o, sts9, td9, nI u, en9, d9) q → u ≤ 2000 → mwN tx n r (a, o, sts9, td9, nI u, en9, d9) q = W → B 45 [(0, .ref 0), (1, .int (nI u))] [] (MW 0 (nI (puK v)) (nI n) (nI a) q.2.2.1 q.2.2.2.1 (nI o) kp hs q.2.2.2.2 tx q.1 q.2.1) := by
    intro r
    induction r with
    | zero =>
      intro a o sts9 td9 u en9 d9 q hmu hi hr hu he
      obtain ⟨bg9, tm9, pt9, nm9, s9⟩ := q
      rw [mwN] at he
      rw [← he] at M
      dsimp only at M ⊢
      obtain ⟨ha, hg⟩ := hI _ hi
      simp only at ha
      have h80 : s9 80 = en9 := hr.2.2.1.2.2.2.2.2.2.2.2.2.1
      have hng : pfGo n (a, o, sts9, td9, nI u, en9, d9) = false := by
        cases hh : pfGo n (a, o, sts9, td9, nI u, en9, d9) with
        | false => rfl
        | true => have := (hg hh).2.2; omega
      rw [pfGo, decide_eq_false_iff_not] at hng
      simp only at hng
      refine r_aload_n M dX6_work_45 rfl ?_
      refine r_get M fl_X6_102 dX6_work_46 rfl rfl ?_
      refine r_aload_n M dX6_work_49 rfl ?_
      refine r_get M fl_X6_99 dX6_work_50 rfl rfl ?_
      by_cases h1 : a < n
      · refine r_icmp_ge M 231 dX6_work_53 (by decide) (fun h9 => absurd h9 (nI_ge h1 (by omega))) (fun _ => ?_)
        refine r_aload_n M dX6_work_56 rfl ?_
        refine r_get M fl_X6_7 dX6_work_57 rfl rfl ?_
        refine r_bipush M 80 dX6_work_60 (by decide) ?_
        refine r_iald M dX6_work_62 rfl (s_in (j := 80) (by omega)) ?_
        rw [show (80 : Int32).toNatClampNeg = 80 from rfl, h80]
        refine r_if_ne M 231 dX6_work_63 (by decide) (fun _ => ?_) (fun h9 => absurd h9 (fun z => hng ⟨h1, z⟩))
        refine r_aload_n M dX6_work_231 rfl ?_
        refine r_iconst M 0 dX6_work_232 (by decide) ?_
        refine r_put M fl_X6_99 ff_6_5 dX6_work_233 rfl rfl rfl (fun _ => rfl) (Nat.le_of_ble_eq_true rfl) ?_
        refine r_iload_n M dX6_work_236 rfl ?_
        exact r_iret M dX6_work_237 rfl rfl rfl
      · refine r_icmp_ge M 231 dX6_work_53 (by decide) (fun _ => ?_) (fun h9 => absurd (nI_le (by omega) (by omega)) h9)
        refine r_aload_n M dX6_work_231 rfl ?_
        refine r_iconst M 0 dX6_work_232 (by decide) ?_
        refine r_put M fl_X6_99 ff_6_5 dX6_work_233 rfl rfl rfl (fun _ => rfl) (Nat.le_of_ble_eq_true rfl) ?_
        refine r_iload_n M dX6_work_236 rfl ?_
        exact r_iret M dX6_work_237 rfl rfl rfl
    | succ r ih =>
      intro a o sts9 td9 u en9 d9 q hmu hi hr hu he
      rw [mwN] at he
      obtain ⟨ha, hg⟩ := hI _ hi
      simp only at ha
      have h80 : q.2.2.2.2 80 = en9 := hr.2.2.1.2.2.2.2.2.2.2.2.2.1
      cases hgo : pfGo n (a, o, sts9, td9, nI u, en9, d9) with
      | false =>
        rw [hgo, if_neg (by decide)] at he
        obtain ⟨bg9, tm9, pt9, nm9, s9⟩ := q
        rw [← he] at M
        rw [pfGo, decide_eq_false_iff_not] at hgo
        simp only at hgo h80
        dsimp only at M ⊢
        refine r_aload_n M dX6_work_45 rfl ?_
        refine r_get M fl_X6_102 dX6_work_46 rfl rfl ?_
        refine r_aload_n M dX6_work_49 rfl ?_
        refine r_get M fl_X6_99 dX6_work_50 rfl rfl ?_
        by_cases h1 : a < n
        · refine r_icmp_ge M 231 dX6_work_53 (by decide) (fun h9 => absurd h9 (nI_ge h1 (by omega))) (fun _ => ?_)
          refine r_aload_n M dX6_work_56 rfl ?_
          refine r_get M fl_X6_7 dX6_work_57 rfl rfl ?_
          refine r_bipush M 80 dX6_work_60 (by decide) ?_
          refine r_iald M dX6_work_62 rfl (s_in (j := 80) (by omega)) ?_
          rw [show (80 : Int32).toNatClampNeg = 80 from rfl, h80]
          refine r_if_ne M 231 dX6_work_63 (by decide) (fun _ => ?_) (fun h9 => absurd h9 (fun z => hgo ⟨h1, z⟩))
          refine r_aload_n M dX6_work_231 rfl ?_
          refine r_iconst M 0 dX6_work_232 (by decide) ?_
          refine r_put M fl_X6_99 ff_6_5 dX6_work_233 rfl rfl rfl (fun _ => rfl) (Nat.le_of_ble_eq_true rfl) ?_
          refine r_iload_n M dX6_work_236 rfl ?_
          exact r_iret M dX6_work_237 rfl rfl rfl
        · refine r_icmp_ge M 231 dX6_work_53 (by decide) (fun _ => ?_) (fun h9 => absurd (nI_le (by omega) (by omega)) h9)
          refine r_aload_n M dX6_work_231 rfl ?_
          refine r_iconst M 0 dX6_work_232 (by decide) ?_
          refine r_put M fl_X6_99 ff_6_5 dX6_work_233 rfl rfl rfl (fun _ => rfl) (Nat.le_of_ble_eq_true rfl) ?_
          refine r_iload_n M dX6_work_236 rfl ?_
          exact r_iret M dX6_work_237 rfl rfl rfl
      | true =>
        rw [hgo, if_pos rfl] at he
        obtain ⟨hok, hi2, hlt⟩ := hg hgo
        have hr2 := mRel_1 tx n _ q hr hok hgo
        obtain ⟨hrb, hro, hrR, hrO, -⟩ := hr
        obtain ⟨h40, h41, h107, h43, hall⟩ := hok
        rw [pfGo, decide_eq_true_iff] at hgo
        simp only at hgo h40 h41 h107 h43 hall hrb hro hrR hrO
        obtain ⟨h1, h2⟩ := hgo
        subst h2
        have back : ∀ (a8 o8 : Nat) (sts8 td8 : Nat → Nat) (u8 : Nat) (en8 : Int32) (d8 : SD) (q8 : MSt), pf1 tx n (a, o, sts9, td9, nI u, 0, d9) = (a8, o8, sts8, td8, nI u8, en8, d8) → mw1 tx n (a, o, sts9, td9, nI u, 0, d9) q = q8 → u8 ≤ 2000 → B 45 [(0, .ref 0), (1, .int (nI u8))] [] (MW 0 (nI (puK v)) (nI n) (nI a8) q8.2.2.1 q8.2.2.2.1 (nI o8) kp hs q8.2.2.2.2 tx q8.1 q8.2.1) := by
          intro a8 o8 sts8 td8 u8 en8 d8 q8 e1 e2 hu8
          rw [e1, e2] at he hr2
          rw [e1] at hi2 hlt
          exact ih a8 o8 sts8 td8 u8 en8 d8 q8 (by omega) hi2 hr2 hu8 he
        clear ih he hr2 hi2 hlt
        simp only [pf1, mw1] at back
        obtain ⟨bg9, tm9, pt9, nm9, s9⟩ := q
        simp only at back h80 hrb hrR ⊢
        have hcd : cdA tx n a = tx a := by rw [cdA, if_pos h1]
        refine r_aload_n M dX6_work_45 rfl ?_
        refine r_get M fl_X6_102 dX6_work_46 rfl rfl ?_
        refine r_aload_n M dX6_work_49 rfl ?_
        refine r_get M fl_X6_99 dX6_work_50 rfl rfl ?_
        refine r_icmp_ge M 231 dX6_work_53 (by decide) (fun h9 => absurd h9 (nI_ge h1 (by omega))) (fun _ => ?_)
        refine r_aload_n M dX6_work_56 rfl ?_
        refine r_get M fl_X6_7 dX6_work_57 rfl rfl ?_
        refine r_bipush M 80 dX6_work_60 (by decide) ?_
        refine r_iald M dX6_work_62 rfl (s_in (j := 80) (by omega)) ?_
        rw [show (80 : Int32).toNatClampNeg = 80 from rfl, h80]
        refine r_if_ne M 231 dX6_work_63 (by decide) (fun h9 => absurd rfl h9) (fun _ => ?_)
        refine r_aload_n M dX6_work_66 rfl ?_
        refine r_bipush M 40 dX6_work_67 (by decide) ?_
        have tk := c_takes 0 (nI (puK v)) pt9 nm9 (nI o) kp hs s9 tx bg9 tm9 n hn a (by omega)
        rw [hcd] at tk
        by_cases c0 : tx a = 40
        · have n3 : ¬ (tx a = 43 ∨ tx a = 45) := by rw [c0]; decide
          have n7 : ¬ tx a = 107 := by rw [c0]; decide
          have n8 : ¬ tx a = 108 := by rw [c0]; decide
          simp only [if_neg n3, if_neg n7, if_neg n8, if_pos c0] at back
          have t := tk 40
          rw [if_pos c0, decide_eq_true c0] at t
          have hv4 : vp_in (nI o) 4 := vp_in_nI (by have := h40 c0; omega) (by omega)
          refine r_V1iu (w' :=  MW 0 (nI (puK v)) (nI n) (nI (a + 1)) pt9 nm9 (nI o) kp hs s9 tx bg9 tm9) M t lk_X6_111 dX6_work_69 (by decide +kernel) ⟨Nat.le_of_ble_eq_true rfl, Nat.le_of_ble_eq_true rfl⟩ ⟨rfl, rfl⟩ [0, 1, 2, 3, 4] rfl rfl rfl (by decide +kernel) rfl (Nat.le_of_ble_eq_true rfl) rfl ?_
          refine r_if_eq M 111 dX6_work_72 (by decide) (fun h9 => absurd h9 (by decide)) (fun _ => ?_)
          refine r_aload_n M dX6_work_75 rfl ?_
          refine r_get M fl_X6_16 dX6_work_76 rfl rfl ?_
          refine r_aload_n M dX6_work_79 rfl ?_
          refine r_get M fl_X6_120 dX6_work_80 rfl rfl ?_
          refine r_aload_n M dX6_work_83 rfl ?_
          refine r_get M fl_X6_102 dX6_work_84 rfl rfl ?_
          refine r_iast M dX6_work_87 rfl hv4 ?_
          rw [cl5 o (by omega)]
          refine r_aload_n M dX6_work_88 rfl ?_
          refine r_get M fl_X6_19 dX6_work_89 rfl rfl ?_
          refine r_aload_n M dX6_work_92 rfl ?_
          refine r_get M fl_X6_120 dX6_work_93 rfl rfl ?_
          refine r_iconst M 0 dX6_work_96 (by decide) ?_
          refine r_iast M dX6_work_97 rfl hv4 ?_
          rw [cl5 o (by omega)]
          refine r_aload_n M dX6_work_98 rfl ?_
          refine r_dup M dX6_work_99 rfl ?_
          refine r_get M fl_X6_120 dX6_work_100 rfl rfl ?_
          refine r_iconst M 1 dX6_work_103 (by decide) ?_
          refine r_iadd M dX6_work_104 ?_
          rw [nI_1]
          refine r_put M fl_X6_120 ff_6_9 dX6_work_105 rfl rfl rfl (fun _ => rfl) (Nat.le_of_ble_eq_true rfl) ?_
          refine r_goto M 45 dX6_work_108 (by decide) ?_
          exact r_lvs M _ (lvs_c rfl (lvs_c rfl lvs_n)) (back _ _ _ _ u _ _ _ rfl rfl hu)
        have t0 := tk 40
        rw [if_neg c0, decide_eq_false c0] at t0
        refine r_V1iu (w' :=  MW 0 (nI (puK v)) (nI n) (nI a) pt9 nm9 (nI o) kp hs s9 tx bg9 tm9) M t0 lk_X6_111 dX6_work_69 (by decide +kernel) ⟨Nat.le_of_ble_eq_true rfl, Nat.le_of_ble_eq_true rfl⟩ ⟨rfl, rfl⟩ [0, 1, 2, 3, 4] rfl rfl rfl (by decide +kernel) rfl (Nat.le_of_ble_eq_true rfl) rfl ?_
        refine r_if_eq M 111 dX6_work_72 (by decide) (fun _ => ?_) (fun h9 => absurd rfl h9)
        refine r_aload_n M dX6_work_111 rfl ?_
        refine r_bipush M 41 dX6_work_112 (by decide) ?_
        by_cases c1 : tx a = 41
        · have n3 : ¬ (tx a = 43 ∨ tx a = 45) := by rw [c1]; decide
          have n7 : ¬ tx a = 107 := by rw [c1]; decide
          have n8 : ¬ tx a = 108 := by rw [c1]; decide
          simp only [if_neg n3, if_neg n7, if_neg n8, if_neg c0, if_pos c1] at back
          obtain ⟨k1, k2, k3, k4, k5, k6, k7⟩ := h41 c1
          obtain ⟨b, rfl⟩ : ∃ b, o = b + 1 := ⟨o - 1, by omega⟩
          rw [Nat.add_sub_cancel] at k2 k3 k4 back
          have hf := c_figure 0 (nI (puK v)) pt9 nm9 (nI (b + 1)) kp hs s9 tx bg9 tm9 n hn (a + 1) (by omega) 2 9
          rw [k5, k7] at hf
          generalize fgN tx n (a + 1) = t at k5 k6 back hf
          obtain ⟨hb1, hb2⟩ := hrb b (by omega)
          have hv4 : vp_in (nI b) 4 := vp_in_nI (by omega) (by omega)
          have hcb := cl5 b (by omega)
          have ep : nI (b + 1) - 1 = nI b := nI_pred b
          rw [hb2, nI_1] at back
          have t1 := tk 41
          rw [if_pos c1, decide_eq_true c1] at t1
          refine r_V1iu (w' :=  MW 0 (nI (puK v)) (nI n) (nI (a + 1)) pt9 nm9 (nI (b + 1)) kp hs s9 tx bg9 tm9) M t1 lk_X6_111 dX6_work_114 (by decide +kernel) ⟨Nat.le_of_ble_eq_true rfl, Nat.le_of_ble_eq_true rfl⟩ ⟨rfl, rfl⟩ [0, 1, 2, 3, 4] rfl rfl rfl (by decide +kernel) rfl (Nat.le_of_ble_eq_true rfl) rfl ?_
          refine r_if_eq M 215 dX6_work_117 (by decide) (fun h9 => absurd h9 (by decide)) (fun _ => ?_)
          refine r_aload_n M dX6_work_120 rfl ?_
          refine r_iconst M 2 dX6_work_121 (by decide) ?_
          refine r_bipush M 9 dX6_work_122 (by decide) ?_
          refine r_V2iu (w' :=  MW 0 (nI (puK v)) (nI n) (nI (a + 2)) pt9 nm9 (nI (b + 1)) kp hs s9 tx bg9 tm9) M hf lk_X6_114 dX6_work_124 (by decide +kernel) ⟨Nat.le_of_ble_eq_true rfl, Nat.le_of_ble_eq_true rfl⟩ ⟨rfl, rfl⟩ [0, 1, 2, 3, 4] rfl rfl rfl (by decide +kernel) rfl (Nat.le_of_ble_eq_true rfl) rfl ?_
          refine r_istore_n M dX6_work_127 (by decide) ?_
          refine r_aload_n M dX6_work_128 rfl ?_
          refine r_get M fl_X6_19 dX6_work_129 rfl rfl ?_
          refine r_aload_n M dX6_work_132 rfl ?_
          refine r_get M fl_X6_120 dX6_work_133 rfl rfl ?_
          refine r_iconst M 1 dX6_work_136 (by decide) ?_
          refine r_isub M dX6_work_137 ?_
          rw [ep]
          refine r_dup2 M dX6_work_138 rfl rfl ?_
          refine r_iald M dX6_work_139 rfl hv4 ?_
          rw [hcb, hb2]
          refine r_iconst M 1 dX6_work_140 (by decide) ?_
          refine r_iadd M dX6_work_141 ?_
          rw [nI_1]
          refine r_iast M dX6_work_142 rfl hv4 ?_
          rw [hcb]
          refine r_aload_n M dX6_work_143 rfl ?_
          refine r_aload_n M dX6_work_144 rfl ?_
          refine r_get M fl_X6_19 dX6_work_145 rfl rfl ?_
          refine r_aload_n M dX6_work_148 rfl ?_
          refine r_get M fl_X6_120 dX6_work_149 rfl rfl ?_
          refine r_iconst M 1 dX6_work_152 (by decide) ?_
          refine r_isub M dX6_work_153 ?_
          rw [ep]
          refine r_iald M dX6_work_154 rfl hv4 ?_
          rw [hcb, upd_eq]
          refine r_iload_n M dX6_work_155 rfl ?_
          have tail : ∀ a8 o8 : Nat, (if a8 = sts9 b then b + 1 else b) = o8 → a8 < 2 ^ 31 → (B 45 [(0, .ref 0), (1, .int (nI u))] [] (MW 0 (nI (puK v)) (nI n) (nI a8) pt9 nm9 (nI o8) kp hs s9 tx bg9 (upd tm9 b (nI (td9 b + 1))))) → B 177 [(0, .ref 0), (1, .int (nI u)), (2, .int (nI t))] [.int (nI a8), .ref 0] (MW 0 (nI (puK v)) (nI n) (nI (a + 2)) pt9 nm9 (nI (b + 1)) kp hs s9 tx bg9 (upd tm9 b (nI (td9 b + 1)))) := by
            intro a8 o8 ho8 ha8 hb
            refine r_put M fl_X6_102 ff_6_6 dX6_work_177 rfl rfl rfl (fun _ => rfl) (Nat.le_of_ble_eq_true rfl) ?_
            refine r_aload_n M dX6_work_180 rfl ?_
            refine r_dup M dX6_work_181 rfl ?_
            refine r_get M fl_X6_120 dX6_work_182 rfl rfl ?_
            refine r_aload_n M dX6_work_185 rfl ?_
            refine r_get M fl_X6_102 dX6_work_186 rfl rfl ?_
            refine r_aload_n M dX6_work_189 rfl ?_
            refine r_get M fl_X6_16 dX6_work_190 rfl rfl ?_
            refine r_aload_n M dX6_work_193 rfl ?_
            refine r_get M fl_X6_120 dX6_work_194 rfl rfl ?_
            refine r_iconst M 1 dX6_work_197 (by decide) ?_
            refine r_isub M dX6_work_198 ?_
            rw [ep]
            refine r_iald M dX6_work_199 rfl hv4 ?_
            rw [hcb, hb1]
            by_cases e : a8 = sts9 b
            · rw [if_pos e] at ho8
              subst ho8
              refine r_icmp_ne M 207 dX6_work_200 (by decide) (fun h9 => absurd (by rw [e]) h9) (fun _ => ?_)
              refine r_iconst M 0 dX6_work_203 (by decide) ?_
              refine r_goto M 208 dX6_work_204 (by decide) ?_
              refine r_isub M dX6_work_208 ?_
              rw [show nI (b + 1) - 0 = nI (b + 1) from Int32.sub_zero _]
              refine r_put M fl_X6_120 ff_6_9 dX6_work_209 rfl rfl rfl (fun _ => rfl) (Nat.le_of_ble_eq_true rfl) ?_
              refine r_goto M 45 dX6_work_212 (by decide) ?_
              exact r_lvs M _ (lvs_c rfl (lvs_c rfl lvs_n)) hb
            · rw [if_neg e] at ho8
              subst ho8
              refine r_icmp_ne M 207 dX6_work_200 (by decide) (fun _ => ?_) (fun h9 => absurd h9 (fun z => e ((nI_eq (by omega) (by omega)).mp z)))
              refine r_iconst M 1 dX6_work_207 (by decide) ?_
              refine r_isub M dX6_work_208 ?_
              rw [ep]
              refine r_put M fl_X6_120 ff_6_9 dX6_work_209 rfl rfl rfl (fun _ => rfl) (Nat.le_of_ble_eq_true rfl) ?_
              refine r_goto M 45 dX6_work_212 (by decide) ?_
              exact r_lvs M _ (lvs_c rfl (lvs_c rfl lvs_n)) hb
          by_cases hlt : td9 b + 1 < t
          · rw [if_pos hlt] at back
            refine r_icmp_ge M 173 dX6_work_156 (by decide) (fun h9 => absurd h9 (nI_ge hlt (by omega))) (fun _ => ?_)
            refine r_aload_n M dX6_work_159 rfl ?_
            refine r_get M fl_X6_16 dX6_work_160 rfl rfl ?_
            refine r_aload_n M dX6_work_163 rfl ?_
            refine r_get M fl_X6_120 dX6_work_164 rfl rfl ?_
            refine r_iconst M 1 dX6_work_167 (by decide) ?_
            refine r_isub M dX6_work_168 ?_
            rw [ep]
            refine r_iald M dX6_work_169 rfl hv4 ?_
            rw [hcb, hb1]
            refine r_goto M 177 dX6_work_170 (by decide) ?_
            exact r_lvs M _ (lvs_c rfl (lvs_c rfl (lvs_c rfl lvs_n))) (tail (sts9 b) (b + 1) (by rw [if_pos rfl]) (by omega) (back _ _ _ _ u _ _ _ rfl rfl hu))
          · rw [if_neg hlt] at back
            refine r_icmp_ge M 173 dX6_work_156 (by decide) (fun _ => ?_) (fun h9 => absurd (nI_le (by omega) (by omega)) h9)
            refine r_aload_n M dX6_work_173 rfl ?_
            refine r_get M fl_X6_102 dX6_work_174 rfl rfl ?_
            exact r_lvs M _ (lvs_c rfl (lvs_c rfl (lvs_c rfl lvs_n))) (tail (a + 2) b (by rw [if_neg (by omega)]) (by omega) (back _ _ _ _ u _ _ _ rfl rfl hu))
        have t1 := tk 41
        rw [if_neg c1, decide_eq_false c1] at t1
        simp only [if_neg c0, if_neg c1] at back
        refine r_V1iu (w' :=  MW 0 (nI (puK v)) (nI n) (nI a) pt9 nm9 (nI o) kp hs s9 tx bg9 tm9) M t1 lk_X6_111 dX6_work_114 (by decide +kernel) ⟨Nat.le_of_ble_eq_true rfl, Nat.le_of_ble_eq_true rfl⟩ ⟨rfl, rfl⟩ [0, 1, 2, 3, 4] rfl rfl rfl (by decide +kernel) rfl (Nat.le_of_ble_eq_true rfl) rfl ?_
        refine r_if_eq M 215 dX6_work_117 (by decide) (fun _ => ?_) (fun h9 => absurd rfl h9)
        refine r_aload_n M dX6_work_215 rfl ?_
        have rd := c_readsPart 0 (nI (puK v)) pt9 nm9 (nI o) kp hs s9 tx bg9 tm9 n hn a (by omega)
        rw [hcd] at rd
        by_cases c8 : tx a = 108
        · have n3 : ¬ (tx a = 43 ∨ tx a = 45) := by rw [c8]; decide
          have n7 : ¬ tx a = 107 := by rw [c8]; decide
          simp only [if_neg n3, if_neg n7, if_pos c8] at back
          rw [show rpM tx n a nm9 = (true, a + 1, nm9) from by rw [rpM, hcd, if_pos c8], c8] at rd
          refine r_V0iu (w' :=  MW 0 (nI (puK v)) (nI n) (nI (a + 1)) 108 nm9 (nI o) kp hs s9 tx bg9 tm9) M rd lk_X6_123 dX6_work_216 (by decide +kernel) ⟨Nat.le_of_ble_eq_true rfl, Nat.le_of_ble_eq_true rfl⟩ ⟨rfl, rfl⟩ [0, 1, 2, 3, 4] rfl rfl rfl (by decide +kernel) rfl (Nat.le_of_ble_eq_true rfl) rfl ?_
          refine r_pop M dX6_work_219 rfl ?_
          refine r_iload_n M dX6_work_220 rfl ?_
          refine r_aload_n M dX6_work_221 rfl ?_
          refine r_iload_n M dX6_work_222 rfl ?_
          refine r_V1iu (w' :=  MW 0 (nI (puK v)) (nI n) (nI (a + 1)) 108 nm9 (nI o) kp hs (upd s9 77 1) tx bg9 tm9) M (c_doesL 0 (nI (puK v)) (nI n) (nI (a + 1)) nm9 (nI o) kp hs s9 tx bg9 tm9 (nI u)) lk_X6_129 dX6_work_223 (by decide +kernel) ⟨Nat.le_of_ble_eq_true rfl, Nat.le_of_ble_eq_true rfl⟩ ⟨rfl, rfl⟩ [0, 1, 2, 3, 4] rfl rfl rfl (by decide +kernel) rfl (Nat.le_of_ble_eq_true rfl) rfl ?_
          refine r_iadd M dX6_work_226 ?_
          rw [show nI u + 0 = nI u from Int32.add_zero _]
          refine r_istore_n M dX6_work_227 (by decide) ?_
          refine r_goto M 45 dX6_work_228 (by decide) ?_
          exact r_lvs M _ (lvs_c rfl (lvs_c rfl lvs_n)) (back _ _ _ _ u _ _ _ rfl rfl hu)
        simp only [if_neg c8] at back
        by_cases c7 : tx a = 107
        · have n3 : ¬ (tx a = 43 ∨ tx a = 45) := by rw [c7]; decide
          simp only [if_neg n3, if_pos c7] at back
          obtain ⟨k1, k2⟩ := h107 c7
          rw [k2 nm9, c7] at rd
          generalize fgN tx n (a + 1) = w at k1 rd back
          refine r_V0iu (w' :=  MW 0 (nI (puK v)) (nI n) (nI (a + 2)) 107 (nI w) (nI o) kp hs s9 tx bg9 tm9) M rd lk_X6_123 dX6_work_216 (by decide +kernel) ⟨Nat.le_of_ble_eq_true rfl, Nat.le_of_ble_eq_true rfl⟩ ⟨rfl, rfl⟩ [0, 1, 2, 3, 4] rfl rfl rfl (by decide +kernel) rfl (Nat.le_of_ble_eq_true rfl) rfl ?_
          refine r_pop M dX6_work_219 rfl ?_
          refine r_iload_n M dX6_work_220 rfl ?_
          refine r_aload_n M dX6_work_221 rfl ?_
          refine r_iload_n M dX6_work_222 rfl ?_
          refine r_V1iu (w' :=  MW 0 (nI (puK v)) (nI n) (nI (a + 2)) 107 (nI w) (nI o) kp hs (upd s9 (10 + w) (1 - s9 (10 + w))) tx bg9 tm9) M (c_doesK 0 (nI (puK v)) (nI n) (nI (a + 2)) (nI o) kp hs s9 tx bg9 tm9 (nI u) w k1) lk_X6_129 dX6_work_223 (by decide +kernel) ⟨Nat.le_of_ble_eq_true rfl, Nat.le_of_ble_eq_true rfl⟩ ⟨rfl, rfl⟩ [0, 1, 2, 3, 4] rfl rfl rfl (by decide +kernel) rfl (Nat.le_of_ble_eq_true rfl) rfl ?_
          refine r_iadd M dX6_work_226 ?_
          rw [show nI u + 0 = nI u from Int32.add_zero _]
          refine r_istore_n M dX6_work_227 (by decide) ?_
          refine r_goto M 45 dX6_work_228 (by decide) ?_
          exact r_lvs M _ (lvs_c rfl (lvs_c rfl lvs_n)) (back _ _ _ _ u _ _ _ rfl rfl hu)
        have c3 : tx a = 43 ∨ tx a = 45 := by
          rcases hall with h | h | h | h | h | h
          · exact absurd h c0
          · exact absurd h c1
          · exact absurd h c7
          · exact absurd h c8
          · exact Or.inl h
          · exact Or.inr h
        simp only [if_pos c3, if_neg c7] at back
        obtain ⟨⟨w, hw9, hwe⟩, k2⟩ := h43 c3
        rw [k2 nm9, hwe] at rd
        have cu : (nI u).toNatClampNeg = u := nI_clamp (by omega)
        have cw : (nI w).toNatClampNeg = w := nI_clamp (by omega)
        rw [hwe, cw, cu, tnG_tuG _ w u d9 hu] at back
        have hT := c_doesT 0 (nI (puK v)) (nI n) (nI (if fgA (cdA tx n (a + 2)) = -1 then a + 2 else a + 3)) (nI o) kp hs s9 tx bg9 tm9 u w hu (by omega) (tx a) _ c8 c7 rfl hrR hrO
        rw [tuG_la, show ∀ y, latD y w (2000 - u) (laD d9 0) = latD y w (2000 - u) d9 from fun y => by rw [latD, latD, tuG_la]; rfl] at hT
        generalize (if fgA (cdA tx n (a + 2)) = -1 then a + 2 else a + 3) = a8 at rd hT back
        generalize (if tx a = 43 then (1 : Int32) else -1) = y at hT back
        have hle := tuG_le y (if w < 2000 - u then w else 2000 - u) d9
        have hk : (if w < 2000 - u then w else 2000 - u) ≤ 2000 - u := by split <;> omega
        generalize (if w < 2000 - u then w else 2000 - u) = k at hT back hle hk
        generalize tuG y k d9 = q8 at hT back hle
        generalize latD y w (2000 - u) d9 = l8 at hT back
        simp only at hT
        refine r_V0iu (w' :=  MW 0 (nI (puK v)) (nI n) (nI a8) (tx a) (nI w) (nI o) kp hs s9 tx bg9 tm9) M rd lk_X6_123 dX6_work_216 (by decide +kernel) ⟨Nat.le_of_ble_eq_true rfl, Nat.le_of_ble_eq_true rfl⟩ ⟨rfl, rfl⟩ [0, 1, 2, 3, 4] rfl rfl rfl (by decide +kernel) rfl (Nat.le_of_ble_eq_true rfl) rfl ?_
        refine r_pop M dX6_work_219 rfl ?_
        refine r_iload_n M dX6_work_220 rfl ?_
        refine r_aload_n M dX6_work_221 rfl ?_
        refine r_iload_n M dX6_work_222 rfl ?_
        refine r_V1iu (w' :=  MW 0 (nI (puK v)) (nI n) (nI a8) (tx a) (nI w) (nI o) kp hs (upd (stIt y q8.1 s9) 80 l8) tx bg9 tm9) M hT lk_X6_129 dX6_work_223 (by decide +kernel) ⟨Nat.le_of_ble_eq_true rfl, Nat.le_of_ble_eq_true rfl⟩ ⟨rfl, rfl⟩ [0, 1, 2, 3, 4] rfl rfl rfl (by decide +kernel) rfl (Nat.le_of_ble_eq_true rfl) rfl ?_
        refine r_iadd M dX6_work_226 ?_
        rw [nI_add]
        refine r_istore_n M dX6_work_227 (by decide) ?_
        refine r_goto M 45 dX6_work_228 (by decide) ?_
        exact r_lvs M _ (lvs_c rfl (lvs_c rfl lvs_n)) (back _ _ _ _ (u + q8.1) _ _ _ rfl rfl (by omega))
  have hsv := c_save 0 (nI n) (nI g.2.1) g.2.2.2.1 g.2.2.2.2 (nI g.2.2.1) kp hs s tx bg tm v hv
  have hl := loop m 0 0 sts td 0 0 d _ hm0 h0 ⟨fun j hj => absurd hj (by simp), by simp, Rp_la hO hR2 0, hO, 0, by omega, rfl⟩ (by omega) hW
  clear loop
  generalize svS s v = s2 at hsv hl
  generalize puK v = v2 at hsv hl M
  refine r_aload_n M dX6_work_0 rfl ?_
  refine r_aload_n M dX6_work_1 rfl ?_
  refine r_V0iu (w' :=  MW th (nI v) (nI n) (nI g.2.1) g.2.2.2.1 g.2.2.2.2 (nI g.2.2.1) kp hs s tx bg tm) M hc lk_X6_126 dX6_work_2 (by decide +kernel) ⟨Nat.le_of_ble_eq_true rfl, Nat.le_of_ble_eq_true rfl⟩ ⟨rfl, rfl⟩ [0, 1, 2, 3, 4] rfl rfl rfl (by decide +kernel) rfl (Nat.le_of_ble_eq_true rfl) rfl ?_
  refine r_if_eq M 12 dX6_work_5 (by decide) (fun h9 => absurd h9 (by decide)) (fun _ => ?_)
  refine r_iconst M 0 dX6_work_8 (by decide) ?_
  refine r_goto M 13 dX6_work_9 (by decide) ?_
  refine r_V1iu (w' :=  MW 0 (nI v) (nI n) (nI g.2.1) g.2.2.2.1 g.2.2.2.2 (nI g.2.2.1) kp hs s tx bg tm) M (c_holds th (nI v) (nI n) (nI g.2.1) g.2.2.2.1 g.2.2.2.2 (nI g.2.2.1) kp hs s tx bg tm 0) lk_X6_63 dX6_work_13 (by decide +kernel) ⟨Nat.le_of_ble_eq_true rfl, Nat.le_of_ble_eq_true rfl⟩ ⟨rfl, rfl⟩ [0, 1, 2, 3, 4] rfl rfl rfl (by decide +kernel) rfl (Nat.le_of_ble_eq_true rfl) rfl ?_
  refine r_if_ne M 21 dX6_work_16 (by decide) (fun _ => ?_) (fun h9 => absurd h9 (by decide))
  refine r_aload_n M dX6_work_21 rfl ?_
  refine r_V0vu (w' :=  MW 0 (nI v2) (nI n) (nI g.2.1) g.2.2.2.1 g.2.2.2.2 (nI g.2.2.1) kp hs s2 tx bg tm) M hsv lk_X6_67 dX6_work_22 (by decide +kernel) ⟨Nat.le_of_ble_eq_true rfl, Nat.le_of_ble_eq_true rfl⟩ ⟨rfl, rfl⟩ [0, 1, 2, 3, 4] rfl rfl rfl (by decide +kernel) rfl (Nat.le_of_ble_eq_true rfl) rfl ?_
  refine r_aload_n M dX6_work_25 rfl ?_
  refine r_get M fl_X6_7 dX6_work_26 rfl rfl ?_
  refine r_bipush M 80 dX6_work_29 (by decide) ?_
  refine r_iconst M 0 dX6_work_31 (by decide) ?_
  refine r_iast M dX6_work_32 rfl (s_in (j := 80) (by omega)) ?_
  refine r_aload_n M dX6_work_33 rfl ?_
  refine r_iconst M 0 dX6_work_34 (by decide) ?_
  refine r_put M fl_X6_102 ff_6_6 dX6_work_35 rfl rfl rfl (fun _ => rfl) (Nat.le_of_ble_eq_true rfl) ?_
  refine r_aload_n M dX6_work_38 rfl ?_
  refine r_iconst M 0 dX6_work_39 (by decide) ?_
  refine r_put M fl_X6_120 ff_6_9 dX6_work_40 rfl rfl rfl (fun _ => rfl) (Nat.le_of_ble_eq_true rfl) ?_
  refine r_iconst M 0 dX6_work_43 (by decide) ?_
  refine r_istore_n M dX6_work_44 (by decide) ?_
  exact r_lvs M _ (lvs_c rfl (lvs_c rfl lvs_n)) hl
end


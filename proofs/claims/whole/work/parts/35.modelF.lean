/-- a piece of a row filled -/
def fiK (s : Nat → Int32) (a k : Nat) (g : Nat → Int32) : Nat → Int32 := fun j => if a ≤ j ∧ j < a + k then g (j - a) else s j
theorem fiK_0 (s : Nat → Int32) (a : Nat) (g : Nat → Int32) : fiK s a 0 g = s := by
  funext j
  rw [fiK, if_neg (by omega)]
theorem fiK_up (s : Nat → Int32) (a k : Nat) (g : Nat → Int32) : upd (fiK s a k g) (a + k) (g k) = fiK s a (k + 1) g := by
  funext j
  by_cases hj : j = a + k
  · subst hj
    rw [upd_eq, fiK, if_pos (by omega), show a + k - a = k by omega]
  · rw [upd_ne hj, fiK, fiK]
    by_cases h2 : a ≤ j ∧ j < a + k
    · rw [if_pos h2, if_pos (by omega)]
    · rw [if_neg h2, if_neg (by omega)]
theorem fiK_out (s : Nat → Int32) {a k : Nat} (g : Nat → Int32) {j : Nat} (h : j < a ∨ a + k ≤ j) : fiK s a k g j = s j := by
  rw [fiK, if_neg (by omega)]
/-- the row behind change, remember, forget -/
def chS (s : Nat → Int32) (v w : Nat) (n h : Int32) : Nat → Int32 := fiK (upd (upd (svS s v) w n) (5 + w) 0) (15 + 12 * w) 12 (fun _ => h)
def reS (s : Nat → Int32) (v c : Nat) (g : Nat → Int32) : Nat → Int32 := upd (fiK (svS s v) (82 + 5 * c) 5 g) 81 (nI (c + 1))
def foS (s : Nat → Int32) (v i c : Nat) : Nat → Int32 := fiK (upd (svS s v) 81 (nI c)) (82 + 5 * i) (5 * c - 5 * i) (fun k => s (82 + 5 * i + k + 5))
section
variable (th ln at9 pt nm op : Int32) (kp : Bool) (hs : Int64) (s tx bg tm : Nat → Int32) (v : Nat)
theorem c_mChangeF (c : Int32) (hc0 : ¬ c = 0) (x y : Int32) (h : (btw x 0 4 = false ∧ c = 1) ∨ (btw x 0 4 = true ∧ btw y 2 12 = false ∧ c = 2)) : Con yX6_change cX6_change 6 (some .int) (rmk 3 67) [.ref 0, .int x, .int y] (MW th (nI v) ln at9 pt nm op kp hs s tx bg tm) (some (.int 0)) (MW c (nI v) ln at9 pt nm op kp hs s tx bg tm) := by
  refine Con.of (own := RX6) (by decide) rfl (Nat.le_of_ble_eq_true rfl) rfl (fun B M => ?_)
  have go : B 27 [(0, .ref 0), (1, .int x), (2, .int y)] [.int c, .ref 0] (MW th (nI v) ln at9 pt nm op kp hs s tx bg tm) := by
    refine r_V1iu (w' :=  MW c (nI v) ln at9 pt nm op kp hs s tx bg tm) M (c_holds th (nI v) ln at9 pt nm op kp hs s tx bg tm c) lk_X6_63 dX6_change_27 (by decide +kernel) ⟨Nat.le_of_ble_eq_true rfl, Nat.le_of_ble_eq_true rfl⟩ ⟨rfl, rfl⟩ [0, 1, 2, 3, 4] rfl rfl rfl (by decide +kernel) rfl (Nat.le_of_ble_eq_true rfl) rfl ?_
    rw [decide_eq_false hc0]
    refine r_if_ne M 35 dX6_change_30 (by decide) (fun h9 => absurd rfl h9) (fun _ => ?_)
    refine r_iconst M 0 dX6_change_33 (by decide) ?_
    exact r_iret M dX6_change_34 rfl rfl rfl
  refine r_aload_n M dX6_change_0 rfl ?_
  refine r_iload_n M dX6_change_1 rfl ?_
  refine r_S1ik M (c_mIsWheel _) lk_X6_76 dX6_change_2 (by decide +kernel) ⟨Nat.le_of_ble_eq_true rfl, Nat.le_of_ble_eq_true rfl⟩ ⟨rfl, rfl⟩ [] rfl (by decide +kernel) rfl (Nat.le_of_ble_eq_true rfl) ?_
  rcases h with ⟨h, rfl⟩ | ⟨h, h2, rfl⟩
  · rw [h]
    refine r_if_ne M 12 dX6_change_5 (by decide) (fun h9 => absurd rfl h9) (fun _ => ?_)
    refine r_iconst M 1 dX6_change_8 (by decide) ?_
    refine r_goto M 27 dX6_change_9 (by decide) ?_
    exact go
  · rw [h]
    refine r_if_ne M 12 dX6_change_5 (by decide) (fun _ => ?_) (fun h9 => absurd h9 (by decide))
    refine r_iload_n M dX6_change_12 rfl ?_
    refine r_iconst M 2 dX6_change_13 (by decide) ?_
    refine r_bipush M 12 dX6_change_14 (by decide) ?_
    refine r_S3ik M (c_in _ _ _) lk_X6_26 dX6_change_16 (by decide +kernel) ⟨Nat.le_of_ble_eq_true rfl, Nat.le_of_ble_eq_true rfl⟩ ⟨rfl, rfl⟩ [] rfl (by decide +kernel) rfl (Nat.le_of_ble_eq_true rfl) ?_
    rw [h2]
    refine r_if_ne M 26 dX6_change_19 (by decide) (fun h9 => absurd rfl h9) (fun _ => ?_)
    refine r_iconst M 2 dX6_change_22 (by decide) ?_
    refine r_goto M 27 dX6_change_23 (by decide) ?_
    exact go
theorem c_mChange (hv : v ≤ 6) (w : Nat) (h5 : w < 5) (y : Int32) (hy : btw y 2 12 = true) {d : SD} (hR : Rp s d) (hO : SOk d) : Con yX6_change cX6_change 6 (some .int) (rmk 3 67) [.ref 0, .int (nI w), .int y] (MW th (nI v) ln at9 pt nm op kp hs s tx bg tm) (some (.int (sTe d w))) (MW 0 (nI (puK v)) ln at9 pt nm op kp hs (chS s v w y (hB (sTe d) (sTo d) (sLo d) (sHe d) (nI w) 0)) tx bg tm) := by
  have hb : btw (nI w) 0 4 = true := btw_nI (a := 0) (b := 4) (by omega) (by omega) (by omega)
  have hc := c_changed 0 ln at9 pt nm op kp hs s tx bg tm v hv w (by omega) y
  rw [show s w = sTe d w from hR.1 w h5] at hc
  have hh := c_mHeight 0 (nI v) ln at9 pt nm op kp hs s tx bg tm hR hO w h5
  rw [chS]
  generalize hB (sTe d) (sTo d) (sLo d) (sHe d) (nI w) 0 = h9 at hh ⊢
  generalize upd (svS s v) w y = s2 at hc ⊢
  generalize puK v = v2 at hc ⊢
  refine Con.of (own := RX6) (by decide) rfl (Nat.le_of_ble_eq_true rfl) rfl (fun B M => ?_)
  have loop : ∀ r k : Nat, k + r = 12 → B 63 [(0, .ref 0), (1, .int (nI w)), (2, .int y), (3, .int h9), (4, .int (sTe d w)), (5, .int (nI k))] [] (MW 0 (nI v2) ln at9 pt nm op kp hs (fiK (upd s2 (5 + w) 0) (15 + 12 * w) k (fun _ => h9)) tx bg tm) := by
    intro r
    induction r with
    | zero =>
      intro k hk
      obtain rfl : k = 12 := by omega
      refine r_iload M dX6_change_63 rfl ?_
      refine r_bipush M 12 dX6_change_65 (by decide) ?_
      refine r_icmp_ge M 92 dX6_change_67 (by decide) (fun _ => ?_) (fun h9 => absurd (nI_geT (n := 12) rfl (by omega) (by omega)) h9)
      refine r_iload M dX6_change_92 rfl ?_
      exact r_iret M dX6_change_94 rfl rfl rfl
    | succ r ih =>
      intro k hk
      refine r_iload M dX6_change_63 rfl ?_
      refine r_bipush M 12 dX6_change_65 (by decide) ?_
      refine r_icmp_ge M 92 dX6_change_67 (by decide) (fun h9 => absurd h9 (nI_geF (n := 12) rfl (by omega) (by omega))) (fun _ => ?_)
      refine r_aload_n M dX6_change_70 rfl ?_
      refine r_get M fl_X6_7 dX6_change_71 rfl rfl ?_
      refine r_bipush M 15 dX6_change_74 (by decide) ?_
      refine r_bipush M 12 dX6_change_76 (by decide) ?_
      refine r_iload_n M dX6_change_78 rfl ?_
      refine r_imul M dX6_change_79 ?_
      refine r_iadd M dX6_change_80 ?_
      refine r_iload M dX6_change_81 rfl ?_
      refine r_iadd M dX6_change_83 ?_
      refine r_iload_n M dX6_change_84 rfl ?_
      rw [hix]
      refine r_iast M dX6_change_85 rfl (s_in (by omega)) ?_
      rw [cl_s (by omega), fiK_up _ _ _ (fun _ => h9)]
      refine r_iinc1 M dX6_change_86 rfl (by decide) ?_
      refine r_goto M 63 dX6_change_89 (by decide) ?_
      refine r_lvs M _ (lvs_c rfl (lvs_c rfl (lvs_c rfl (lvs_c rfl (lvs_c rfl (lvs_c ?_ lvs_n)))))) (ih (k + 1) (by omega))
      rw [← nI_1]; rfl
  have l0 := loop 12 0 rfl
  rw [fiK_0] at l0
  refine r_aload_n M dX6_change_0 rfl ?_
  refine r_iload_n M dX6_change_1 rfl ?_
  refine r_S1ik M (c_mIsWheel _) lk_X6_76 dX6_change_2 (by decide +kernel) ⟨Nat.le_of_ble_eq_true rfl, Nat.le_of_ble_eq_true rfl⟩ ⟨rfl, rfl⟩ [] rfl (by decide +kernel) rfl (Nat.le_of_ble_eq_true rfl) ?_
  rw [hb]
  refine r_if_ne M 12 dX6_change_5 (by decide) (fun _ => ?_) (fun h9 => absurd h9 (by decide))
  refine r_iload_n M dX6_change_12 rfl ?_
  refine r_iconst M 2 dX6_change_13 (by decide) ?_
  refine r_bipush M 12 dX6_change_14 (by decide) ?_
  refine r_S3ik M (c_in _ _ _) lk_X6_26 dX6_change_16 (by decide +kernel) ⟨Nat.le_of_ble_eq_true rfl, Nat.le_of_ble_eq_true rfl⟩ ⟨rfl, rfl⟩ [] rfl (by decide +kernel) rfl (Nat.le_of_ble_eq_true rfl) ?_
  rw [hy]
  refine r_if_ne M 26 dX6_change_19 (by decide) (fun _ => ?_) (fun h9 => absurd h9 (by decide))
  refine r_iconst M 0 dX6_change_26 (by decide) ?_
  refine r_V1iu (w' :=  MW 0 (nI v) ln at9 pt nm op kp hs s tx bg tm) M (c_holds th (nI v) ln at9 pt nm op kp hs s tx bg tm 0) lk_X6_63 dX6_change_27 (by decide +kernel) ⟨Nat.le_of_ble_eq_true rfl, Nat.le_of_ble_eq_true rfl⟩ ⟨rfl, rfl⟩ [0, 1, 2, 3, 4] rfl rfl rfl (by decide +kernel) rfl (Nat.le_of_ble_eq_true rfl) rfl ?_
  refine r_if_ne M 35 dX6_change_30 (by decide) (fun _ => ?_) (fun h9 => absurd h9 (by decide))
  refine r_aload_n M dX6_change_35 rfl ?_
  refine r_iload_n M dX6_change_36 rfl ?_
  refine r_V1ik M hh lk_X6_92 dX6_change_37 (by decide +kernel) ⟨Nat.le_of_ble_eq_true rfl, Nat.le_of_ble_eq_true rfl⟩ ⟨rfl, rfl⟩ [0, 1, 2, 3, 4] rfl rfl rfl (by decide +kernel) rfl (Nat.le_of_ble_eq_true rfl) ?_
  refine r_istore_n M dX6_change_40 (by decide) ?_
  refine r_aload_n M dX6_change_41 rfl ?_
  refine r_iconst M 0 dX6_change_42 (by decide) ?_
  refine r_iload_n M dX6_change_43 rfl ?_
  refine r_iadd M dX6_change_44 ?_
  refine r_iload_n M dX6_change_45 rfl ?_
  rw [add0]
  refine r_V2iu (w' :=  MW 0 (nI v2) ln at9 pt nm op kp hs s2 tx bg tm) M hc lk_X6_86 dX6_change_46 (by decide +kernel) ⟨Nat.le_of_ble_eq_true rfl, Nat.le_of_ble_eq_true rfl⟩ ⟨rfl, rfl⟩ [0, 1, 2, 3, 4] rfl rfl rfl (by decide +kernel) rfl (Nat.le_of_ble_eq_true rfl) rfl ?_
  refine r_istore M dX6_change_49 (by decide) ?_
  refine r_aload_n M dX6_change_51 rfl ?_
  refine r_get M fl_X6_7 dX6_change_52 rfl rfl ?_
  refine r_iconst M 5 dX6_change_55 (by decide) ?_
  refine r_iload_n M dX6_change_56 rfl ?_
  refine r_iadd M dX6_change_57 ?_
  refine r_iconst M 0 dX6_change_58 (by decide) ?_
  rw [show (5 : Int32) + nI w = nI (5 + w) from nI_add 5 w]
  refine r_iast M dX6_change_59 rfl (s_in (by omega)) ?_
  rw [cl_s (by omega)]
  refine r_iconst M 0 dX6_change_60 (by decide) ?_
  refine r_istore M dX6_change_61 (by decide) ?_
  exact r_lvs M _ (lvs_c rfl (lvs_c rfl (lvs_c rfl (lvs_c rfl (lvs_c rfl (lvs_c rfl lvs_n)))))) l0
theorem c_mRemF {d : SD} (hR : Rp s d) (h : sSc d = 6) : Con yX6_remember cX6_remember 2 (some .int) (rmk 3 67) [.ref 0] (MW th (nI v) ln at9 pt nm op kp hs s tx bg tm) (some (.int 0)) (MW 1 (nI v) ln at9 pt nm op kp hs s tx bg tm) := by
  refine Con.of (own := RX6) (by decide) rfl (Nat.le_of_ble_eq_true rfl) rfl (fun B M => ?_)
  refine r_aload_n M dX6_remember_0 rfl ?_
  refine r_aload_n M dX6_remember_1 rfl ?_
  refine r_get M fl_X6_7 dX6_remember_2 rfl rfl ?_
  refine r_bipush M 81 dX6_remember_5 (by decide) ?_
  refine r_iald M dX6_remember_7 rfl (s_in (j := 81) (by omega)) ?_
  rw [show (81 : Int32).toNatClampNeg = 81 from rfl, show s 81 = sSc d from hR.2.2.2.2.2.2.2.2.2.2.1]
  refine r_bipush M 6 dX6_remember_8 (by decide) ?_
  refine r_icmp_ne M 17 dX6_remember_10 (by decide) (fun h9 => absurd h h9) (fun _ => ?_)
  refine r_iconst M 1 dX6_remember_13 (by decide) ?_
  refine r_goto M 18 dX6_remember_14 (by decide) ?_
  refine r_V1iu (w' :=  _) M (c_holds th (nI v) ln at9 pt nm op kp hs s tx bg tm 1) lk_X6_63 dX6_remember_18 (by decide +kernel) ⟨Nat.le_of_ble_eq_true rfl, Nat.le_of_ble_eq_true rfl⟩ ⟨rfl, rfl⟩ [0, 1, 2, 3, 4] rfl rfl rfl (by decide +kernel) rfl (Nat.le_of_ble_eq_true rfl) rfl ?_
  refine r_if_ne M 26 dX6_remember_21 (by decide) (fun h9 => absurd (by decide) h9) (fun _ => ?_)
  refine r_iconst M 0 dX6_remember_24 (by decide) ?_
  exact r_iret M dX6_remember_25 rfl rfl rfl
theorem c_mRem (hv : v ≤ 6) {d : SD} (hR : Rp s d) (hO : SOk d) (c : Nat) (hc : sSc d = nI c) (hc5 : c < 6) : Con yX6_remember cX6_remember 2 (some .int) (rmk 3 67) [.ref 0] (MW th (nI v) ln at9 pt nm op kp hs s tx bg tm) (some (.int (nI c))) (MW 0 (nI (puK v)) ln at9 pt nm op kp hs (reS s v c (fun w => hB (sTe d) (sTo d) (sLo d) (sHe d) (nI w) 0)) tx bg tm) := by
  have h81 : s 81 = nI c := hR.2.2.2.2.2.2.2.2.2.2.1.trans hc
  have hsv := c_save 0 ln at9 pt nm op kp hs s tx bg tm v hv
  have hR2 := Rp_sv hO hR v
  have h812 : svS s v 81 = nI c := (svS_lo s v (by omega)).trans h81
  rw [reS]
  generalize hg : (fun w => hB (sTe d) (sTo d) (sLo d) (sHe d) (nI w) 0) = g at ⊢
  generalize svS s v = s2 at hsv hR2 h812 ⊢
  generalize puK v = v2 at hsv ⊢
  refine Con.of (own := RX6) (by decide) rfl (Nat.le_of_ble_eq_true rfl) rfl (fun B M => ?_)
  have loop : ∀ r k : Nat, k + r = 5 → B 32 [(0, .ref 0), (1, .int (nI k))] [] (MW 0 (nI v2) ln at9 pt nm op kp hs (fiK s2 (82 + 5 * c) k g) tx bg tm) := by
    intro r
    induction r with
    | zero =>
      intro k hk
      obtain rfl : k = 5 := by omega
      have q : fiK s2 (82 + 5 * c) 5 g 81 = nI c := by rw [fiK_out _ _ (by omega)]; exact h812
      generalize fiK s2 (82 + 5 * c) 5 g = s3 at M q ⊢
      refine r_iload_n M dX6_remember_32 rfl ?_
      refine r_iconst M 5 dX6_remember_33 (by decide) ?_
      refine r_icmp_ge M 67 dX6_remember_34 (by decide) (fun _ => ?_) (fun h9 => absurd (nI_geT (n := 5) rfl (by omega) (by omega)) h9)
      refine r_aload_n M dX6_remember_67 rfl ?_
      refine r_get M fl_X6_7 dX6_remember_68 rfl rfl ?_
      refine r_bipush M 81 dX6_remember_71 (by decide) ?_
      refine r_dup2 M dX6_remember_73 rfl rfl ?_
      refine r_iald M dX6_remember_74 rfl (s_in (j := 81) (by omega)) ?_
      rw [show (81 : Int32).toNatClampNeg = 81 from rfl, q]
      refine r_iconst M 1 dX6_remember_75 (by decide) ?_
      refine r_iadd M dX6_remember_76 ?_
      refine r_iast M dX6_remember_77 rfl (s_in (j := 81) (by omega)) ?_
      rw [show (81 : Int32).toNatClampNeg = 81 from rfl, nI_1]
      refine r_aload_n M dX6_remember_78 rfl ?_
      refine r_get M fl_X6_7 dX6_remember_79 rfl rfl ?_
      refine r_bipush M 81 dX6_remember_82 (by decide) ?_
      refine r_iald M dX6_remember_84 rfl (s_in (j := 81) (by omega)) ?_
      rw [show (81 : Int32).toNatClampNeg = 81 from rfl, upd_eq]
      refine r_iconst M 1 dX6_remember_85 (by decide) ?_
      refine r_isub M dX6_remember_86 ?_
      exact r_iret M dX6_remember_87 rfl (by rw [← nI_1, Int32.add_sub_cancel]) rfl
    | succ r ih =>
      intro k hk
      have q : fiK s2 (82 + 5 * c) k g 81 = nI c := by rw [fiK_out _ _ (by omega)]; exact h812
      have hR3 : Rp (fiK s2 (82 + 5 * c) k g) d := by
        obtain ⟨r1, r2, r3, r4, r5, r6, r7, r8, r9, r10, r11, r12, r13⟩ := hR2
        refine ⟨fun w h5 => ?_, fun w h5 => ?_, fun w h5 => ?_, fun w h5 j hj => ?_, ?_, ?_, ?_, ?_, ?_, ?_, ?_, fun j hj => ?_, fun j hj => ?_⟩
        · rw [fiK_out _ _ (by omega)]; exact r1 w h5
        · rw [fiK_out _ _ (by omega)]; exact r2 w h5
        · rw [fiK_out _ _ (by omega)]; exact r3 w h5
        · obtain ⟨m, b, h1, h2, h3, -⟩ := hO.1 w h5
          have hj2 := hj
          rw [h3, cl5 m (by omega)] at hj2
          rw [fiK_out _ _ (by omega)]; exact r4 w h5 j hj
        · rw [fiK_out _ _ (by omega)]; exact r5
        · rw [fiK_out _ _ (by omega)]; exact r6
        · rw [fiK_out _ _ (by omega)]; exact r7
        · rw [fiK_out _ _ (by omega)]; exact r8
        · rw [fiK_out _ _ (by omega)]; exact r9
        · rw [fiK_out _ _ (by omega)]; exact r10
        · rw [fiK_out _ _ (by omega)]; exact r11
        · have hj2 := hj
          rw [show sSc d = nI c from hc, cl5 c (by omega)] at hj2
          rw [fiK_out _ _ (by omega)]; exact r12 j hj
        · rw [fiK_out _ _ (by omega)]; exact r13 j hj
      have hk5 : k < 5 := by omega
      have hh := c_mHeight 0 (nI v2) ln at9 pt nm op kp hs (fiK s2 (82 + 5 * c) k g) tx bg tm hR3 hO k hk5
      rw [show hB (sTe d) (sTo d) (sLo d) (sHe d) (nI k) 0 = g k from by rw [← hg]] at hh
      have up := fiK_up s2 (82 + 5 * c) k g
      have nx := ih (k + 1) (by omega)
      rw [← up] at nx
      generalize fiK s2 (82 + 5 * c) k g = s3 at M q hh nx ⊢
      refine r_iload_n M dX6_remember_32 rfl ?_
      refine r_iconst M 5 dX6_remember_33 (by decide) ?_
      refine r_icmp_ge M 67 dX6_remember_34 (by decide) (fun h9 => absurd h9 (nI_geF (n := 5) rfl (by omega) (by omega))) (fun _ => ?_)
      refine r_aload_n M dX6_remember_37 rfl ?_
      refine r_get M fl_X6_7 dX6_remember_38 rfl rfl ?_
      refine r_bipush M 82 dX6_remember_41 (by decide) ?_
      refine r_iconst M 5 dX6_remember_43 (by decide) ?_
      refine r_aload_n M dX6_remember_44 rfl ?_
      refine r_get M fl_X6_7 dX6_remember_45 rfl rfl ?_
      refine r_bipush M 81 dX6_remember_48 (by decide) ?_
      refine r_iald M dX6_remember_50 rfl (s_in (j := 81) (by omega)) ?_
      rw [show (81 : Int32).toNatClampNeg = 81 from rfl, q]
      refine r_imul M dX6_remember_51 ?_
      refine r_iadd M dX6_remember_52 ?_
      refine r_iload_n M dX6_remember_53 rfl ?_
      refine r_iadd M dX6_remember_54 ?_
      refine r_aload_n M dX6_remember_55 rfl ?_
      refine r_iload_n M dX6_remember_56 rfl ?_
      refine r_V1ik M hh lk_X6_92 dX6_remember_57 (by decide +kernel) ⟨Nat.le_of_ble_eq_true rfl, Nat.le_of_ble_eq_true rfl⟩ ⟨rfl, rfl⟩ [0, 1, 2, 3, 4] rfl rfl rfl (by decide +kernel) rfl (Nat.le_of_ble_eq_true rfl) ?_
      rw [show (82 : Int32) + 5 * nI c + nI k = nI (82 + 5 * c + k) from by rw [show (5 : Int32) = nI 5 from rfl, pk_mul, show (82 : Int32) = nI 82 from rfl, nI_add, nI_add]]
      refine r_iast M dX6_remember_60 rfl (s_in (by omega)) ?_
      rw [cl_s (by omega)]
      refine r_iinc1 M dX6_remember_61 rfl (by decide) ?_
      refine r_goto M 32 dX6_remember_64 (by decide) ?_
      refine r_lvs M _ (lvs_c rfl (lvs_c ?_ lvs_n)) nx
      rw [← nI_1]; rfl
  have l0 := loop 5 0 rfl
  rw [fiK_0] at l0
  refine r_aload_n M dX6_remember_0 rfl ?_
  refine r_aload_n M dX6_remember_1 rfl ?_
  refine r_get M fl_X6_7 dX6_remember_2 rfl rfl ?_
  refine r_bipush M 81 dX6_remember_5 (by decide) ?_
  refine r_iald M dX6_remember_7 rfl (s_in (j := 81) (by omega)) ?_
  rw [show (81 : Int32).toNatClampNeg = 81 from rfl, h81]
  refine r_bipush M 6 dX6_remember_8 (by decide) ?_
  refine r_icmp_ne M 17 dX6_remember_10 (by decide) (fun _ => ?_) (fun h9 => absurd h9 (fun e => by have := (nI_eq (b := 6) (by omega) (by omega)).mp e; omega))
  refine r_iconst M 0 dX6_remember_17 (by decide) ?_
  refine r_V1iu (w' :=  MW 0 (nI v) ln at9 pt nm op kp hs s tx bg tm) M (c_holds th (nI v) ln at9 pt nm op kp hs s tx bg tm 0) lk_X6_63 dX6_remember_18 (by decide +kernel) ⟨Nat.le_of_ble_eq_true rfl, Nat.le_of_ble_eq_true rfl⟩ ⟨rfl, rfl⟩ [0, 1, 2, 3, 4] rfl rfl rfl (by decide +kernel) rfl (Nat.le_of_ble_eq_true rfl) rfl ?_
  refine r_if_ne M 26 dX6_remember_21 (by decide) (fun _ => ?_) (fun h9 => absurd h9 (by decide))
  refine r_aload_n M dX6_remember_26 rfl ?_
  refine r_V0vu (w' :=  MW 0 (nI v2) ln at9 pt nm op kp hs s2 tx bg tm) M hsv lk_X6_67 dX6_remember_27 (by decide +kernel) ⟨Nat.le_of_ble_eq_true rfl, Nat.le_of_ble_eq_true rfl⟩ ⟨rfl, rfl⟩ [0, 1, 2, 3, 4] rfl rfl rfl (by decide +kernel) rfl (Nat.le_of_ble_eq_true rfl) rfl ?_
  refine r_iconst M 0 dX6_remember_30 (by decide) ?_
  refine r_istore_n M dX6_remember_31 (by decide) ?_
  exact r_lvs M _ (lvs_c rfl (lvs_c rfl lvs_n)) l0
theorem c_mForF (x : Int32) {d : SD} (hR : Rp s d) (h : btw x 0 (sSc d - 1) = false) : Con yX6_forget cX6_forget 3 (some .int) (rmk 2 44) [.ref 0, .int x] (MW th (nI v) ln at9 pt nm op kp hs s tx bg tm) (some (.int 0)) (MW 1 (nI v) ln at9 pt nm op kp hs s tx bg tm) := by
  refine Con.of (own := RX6) (by decide) rfl (Nat.le_of_ble_eq_true rfl) rfl (fun B M => ?_)
  refine r_aload_n M dX6_forget_0 rfl ?_
  refine r_aload_n M dX6_forget_1 rfl ?_
  refine r_iload_n M dX6_forget_2 rfl ?_
  refine r_V1ik M (c_mIsScene th ln at9 pt nm op kp hs s tx bg tm (nI v) x hR) lk_X6_96 dX6_forget_3 (by decide +kernel) ⟨Nat.le_of_ble_eq_true rfl, Nat.le_of_ble_eq_true rfl⟩ ⟨rfl, rfl⟩ [0, 1, 2, 3, 4] rfl rfl rfl (by decide +kernel) rfl (Nat.le_of_ble_eq_true rfl) ?_
  rw [h]
  refine r_if_eq M 13 dX6_forget_6 (by decide) (fun _ => ?_) (fun h9 => absurd rfl h9)
  refine r_iconst M 1 dX6_forget_13 (by decide) ?_
  refine r_V1iu (w' :=  _) M (c_holds th (nI v) ln at9 pt nm op kp hs s tx bg tm 1) lk_X6_63 dX6_forget_14 (by decide +kernel) ⟨Nat.le_of_ble_eq_true rfl, Nat.le_of_ble_eq_true rfl⟩ ⟨rfl, rfl⟩ [0, 1, 2, 3, 4] rfl rfl rfl (by decide +kernel) rfl (Nat.le_of_ble_eq_true rfl) rfl ?_
  refine r_if_ne M 22 dX6_forget_17 (by decide) (fun h9 => absurd (by decide) h9) (fun _ => ?_)
  refine r_iconst M 0 dX6_forget_20 (by decide) ?_
  exact r_iret M dX6_forget_21 rfl rfl rfl
theorem c_mFor (hv : v ≤ 6) {d : SD} (hR : Rp s d) (hO : SOk d) (c i : Nat) (hc : sSc d = nI (c + 1)) (hc5 : c < 6) (hi : i ≤ c) : Con yX6_forget cX6_forget 3 (some .int) (rmk 2 44) [.ref 0, .int (nI i)] (MW th (nI v) ln at9 pt nm op kp hs s tx bg tm) (some (.int (nI c))) (MW 0 (nI (puK v)) ln at9 pt nm op kp hs (foS s v i c) tx bg tm) := by
  have e : nI (c + 1) - 1 = nI c := by rw [← nI_1, Int32.add_sub_cancel]
  have hb : btw (nI i) 0 (sSc d - 1) = true := by
    rw [show sSc d = nI (c + 1) from hc, e]
    exact btw_nI (a := 0) (b := c) (by omega) (by omega) (by omega)
  have h81 : s 81 = nI (c + 1) := hR.2.2.2.2.2.2.2.2.2.2.1.trans hc
  have hsv := c_save 0 ln at9 pt nm op kp hs s tx bg tm v hv
  have h812 : svS s v 81 = nI (c + 1) := (svS_lo s v (by omega)).trans h81
  have hlo : ∀ j, j < 172 → svS s v j = s j := fun j h => svS_lo s v h
  have hI := c_mIsScene th ln at9 pt nm op kp hs s tx bg tm (nI v) (nI i) hR
  rw [hb] at hI
  rw [foS]
  generalize svS s v = s2 at hsv h812 hlo ⊢
  generalize puK v = v2 at hsv ⊢
  refine Con.of (own := RX6) (by decide) rfl (Nat.le_of_ble_eq_true rfl) rfl (fun B M => ?_)
  have loop : ∀ r k : Nat, k + r = 5 * c - 5 * i → B 41 [(0, .ref 0), (1, .int (nI i)), (2, .int (nI (5 * i + k)))] [] (MW 0 (nI v2) ln at9 pt nm op kp hs (fiK (upd s2 81 (nI c)) (82 + 5 * i) k (fun k => s (82 + 5 * i + k + 5))) tx bg tm) := by
    intro r
    induction r with
    | zero =>
      intro k hk
      obtain rfl : k = 5 * c - 5 * i := by omega
      have q : fiK (upd s2 81 (nI c)) (82 + 5 * i) (5 * c - 5 * i) (fun k => s (82 + 5 * i + k + 5)) 81 = nI c := by rw [fiK_out _ _ (by omega), upd_eq]
      generalize fiK (upd s2 81 (nI c)) (82 + 5 * i) (5 * c - 5 * i) (fun k => s (82 + 5 * i + k + 5)) = s3 at M q ⊢
      refine r_iload_n M dX6_forget_41 rfl ?_
      refine r_iconst M 5 dX6_forget_42 (by decide) ?_
      refine r_aload_n M dX6_forget_43 rfl ?_
      refine r_get M fl_X6_7 dX6_forget_44 rfl rfl ?_
      refine r_bipush M 81 dX6_forget_47 (by decide) ?_
      refine r_iald M dX6_forget_49 rfl (s_in (j := 81) (by omega)) ?_
      rw [show (81 : Int32).toNatClampNeg = 81 from rfl, q]
      refine r_imul M dX6_forget_50 ?_
      rw [show (5 : Int32) * nI c = nI (5 * c) from pk_mul 5 c]
      refine r_icmp_ge M 80 dX6_forget_51 (by decide) (fun _ => ?_) (fun h9 => absurd (nI_le (by omega) (by omega)) h9)
      refine r_aload_n M dX6_forget_80 rfl ?_
      refine r_get M fl_X6_7 dX6_forget_81 rfl rfl ?_
      refine r_bipush M 81 dX6_forget_84 (by decide) ?_
      refine r_iald M dX6_forget_86 rfl (s_in (j := 81) (by omega)) ?_
      rw [show (81 : Int32).toNatClampNeg = 81 from rfl, q]
      exact r_iret M dX6_forget_87 rfl rfl rfl
    | succ r ih =>
      intro k hk
      have q : fiK (upd s2 81 (nI c)) (82 + 5 * i) k (fun k => s (82 + 5 * i + k + 5)) 81 = nI c := by rw [fiK_out _ _ (by omega), upd_eq]
      have q2 : fiK (upd s2 81 (nI c)) (82 + 5 * i) k (fun k => s (82 + 5 * i + k + 5)) (82 + 5 * i + k + 5) = s (82 + 5 * i + k + 5) := by
        rw [fiK_out _ _ (by omega), upd_ne (by omega)]; exact hlo _ (by omega)
      have up := fiK_up (upd s2 81 (nI c)) (82 + 5 * i) k (fun k => s (82 + 5 * i + k + 5))
      have nx := ih (k + 1) (by omega)
      rw [← up] at nx
      generalize fiK (upd s2 81 (nI c)) (82 + 5 * i) k (fun k => s (82 + 5 * i + k + 5)) = s3 at M q q2 nx ⊢
      have e1 : (82 : Int32) + nI (5 * i + k) = nI (82 + 5 * i + k) := by rw [show (82 : Int32) = nI 82 from rfl, nI_add, Nat.add_assoc]
      have e2 : (82 : Int32) + nI (5 * i + k) + 5 = nI (82 + 5 * i + k + 5) := by rw [e1, show (5 : Int32) = nI 5 from rfl, nI_add]
      refine r_iload_n M dX6_forget_41 rfl ?_
      refine r_iconst M 5 dX6_forget_42 (by decide) ?_
      refine r_aload_n M dX6_forget_43 rfl ?_
      refine r_get M fl_X6_7 dX6_forget_44 rfl rfl ?_
      refine r_bipush M 81 dX6_forget_47 (by decide) ?_
      refine r_iald M dX6_forget_49 rfl (s_in (j := 81) (by omega)) ?_
      rw [show (81 : Int32).toNatClampNeg = 81 from rfl, q]
      refine r_imul M dX6_forget_50 ?_
      rw [show (5 : Int32) * nI c = nI (5 * c) from pk_mul 5 c]
      refine r_icmp_ge M 80 dX6_forget_51 (by decide) (fun h9 => absurd h9 (nI_ge (by omega) (by omega))) (fun _ => ?_)
      refine r_aload_n M dX6_forget_54 rfl ?_
      refine r_get M fl_X6_7 dX6_forget_55 rfl rfl ?_
      refine r_bipush M 82 dX6_forget_58 (by decide) ?_
      refine r_iload_n M dX6_forget_60 rfl ?_
      refine r_iadd M dX6_forget_61 ?_
      refine r_aload_n M dX6_forget_62 rfl ?_
      refine r_get M fl_X6_7 dX6_forget_63 rfl rfl ?_
      refine r_bipush M 82 dX6_forget_66 (by decide) ?_
      refine r_iload_n M dX6_forget_68 rfl ?_
      refine r_iadd M dX6_forget_69 ?_
      refine r_iconst M 5 dX6_forget_70 (by decide) ?_
      refine r_iadd M dX6_forget_71 ?_
      rw [e2, e1]
      refine r_iald M dX6_forget_72 rfl (s_in (by omega)) ?_
      rw [cl_s (by omega), q2]
      refine r_iast M dX6_forget_73 rfl (s_in (by omega)) ?_
      rw [cl_s (by omega)]
      refine r_iinc1 M dX6_forget_74 rfl (by decide) ?_
      refine r_goto M 41 dX6_forget_77 (by decide) ?_
      refine r_lvs M _ (lvs_c rfl (lvs_c rfl (lvs_c ?_ lvs_n))) nx
      rw [← Nat.add_assoc, ← nI_1]; rfl
  have l0 := loop (5 * c - 5 * i) 0 (by omega)
  rw [fiK_0] at l0
  refine r_aload_n M dX6_forget_0 rfl ?_
  refine r_aload_n M dX6_forget_1 rfl ?_
  refine r_iload_n M dX6_forget_2 rfl ?_
  refine r_V1ik M hI lk_X6_96 dX6_forget_3 (by decide +kernel) ⟨Nat.le_of_ble_eq_true rfl, Nat.le_of_ble_eq_true rfl⟩ ⟨rfl, rfl⟩ [0, 1, 2, 3, 4] rfl rfl rfl (by decide +kernel) rfl (Nat.le_of_ble_eq_true rfl) ?_
  refine r_if_eq M 13 dX6_forget_6 (by decide) (fun h9 => absurd h9 (by decide)) (fun _ => ?_)
  refine r_iconst M 0 dX6_forget_9 (by decide) ?_
  refine r_goto M 14 dX6_forget_10 (by decide) ?_
  refine r_V1iu (w' :=  MW 0 (nI v) ln at9 pt nm op kp hs s tx bg tm) M (c_holds th (nI v) ln at9 pt nm op kp hs s tx bg tm 0) lk_X6_63 dX6_forget_14 (by decide +kernel) ⟨Nat.le_of_ble_eq_true rfl, Nat.le_of_ble_eq_true rfl⟩ ⟨rfl, rfl⟩ [0, 1, 2, 3, 4] rfl rfl rfl (by decide +kernel) rfl (Nat.le_of_ble_eq_true rfl) rfl ?_
  refine r_if_ne M 22 dX6_forget_17 (by decide) (fun _ => ?_) (fun h9 => absurd h9 (by decide))
  refine r_aload_n M dX6_forget_22 rfl ?_
  refine r_V0vu (w' :=  MW 0 (nI v2) ln at9 pt nm op kp hs s2 tx bg tm) M hsv lk_X6_67 dX6_forget_23 (by decide +kernel) ⟨Nat.le_of_ble_eq_true rfl, Nat.le_of_ble_eq_true rfl⟩ ⟨rfl, rfl⟩ [0, 1, 2, 3, 4] rfl rfl rfl (by decide +kernel) rfl (Nat.le_of_ble_eq_true rfl) rfl ?_
  refine r_aload_n M dX6_forget_26 rfl ?_
  refine r_get M fl_X6_7 dX6_forget_27 rfl rfl ?_
  refine r_bipush M 81 dX6_forget_30 (by decide) ?_
  refine r_dup2 M dX6_forget_32 rfl rfl ?_
  refine r_iald M dX6_forget_33 rfl (s_in (j := 81) (by omega)) ?_
  rw [show (81 : Int32).toNatClampNeg = 81 from rfl, h812]
  refine r_iconst M 1 dX6_forget_34 (by decide) ?_
  refine r_isub M dX6_forget_35 ?_
  rw [e]
  refine r_iast M dX6_forget_36 rfl (s_in (j := 81) (by omega)) ?_
  rw [show (81 : Int32).toNatClampNeg = 81 from rfl]
  refine r_iconst M 5 dX6_forget_37 (by decide) ?_
  refine r_iload_n M dX6_forget_38 rfl ?_
  refine r_imul M dX6_forget_39 ?_
  rw [show (5 : Int32) * nI i = nI (5 * i) from pk_mul 5 i]
  refine r_istore_n M dX6_forget_40 (by decide) ?_
  exact r_lvs M _ (lvs_c rfl (lvs_c rfl (lvs_c rfl lvs_n))) l0
end


/-- whether the picture of a state may be -/
def alD (d : SD) : Bool := decide (fltB (sTe d) (sTo d) (sLo d) (sHe d) 0 (sSe d) = 0)
theorem upd_bk (s : Nat → Int32) (j : Nat) (x : Int32) : upd (upd s j x) j (s j) = s := by
  funext i
  by_cases h : i = j
  · subst h; rw [upd_eq]
  · rw [upd_ne h, upd_ne h]
theorem cpS_out (s : Nat → Int32) {a b j : Nat} (h : j < 172 * b ∨ 172 * b + 172 ≤ j) : cpS s a b j = s j := by
  rw [cpS, cpK, if_neg (by omega)]
theorem svS_lo (s : Nat → Int32) (v : Nat) {j : Nat} (h : j < 172) : svS s v j = s j := by
  rw [svS]
  split
  · exact cpS_out _ (by omega)
  · rw [cpS_out _ (by omega), cpS_out _ (by omega), cpS_out _ (by omega), cpS_out _ (by omega), cpS_out _ (by omega), cpS_out _ (by omega)]
theorem Rp_congr {s s2 : Nat → Int32} {d : SD} (h : ∀ j, j < 172 → s2 j = s j) (hO : SOk d) (hR : Rp s d) : Rp s2 d := by
  obtain ⟨r1, r2, r3, r4, r5, r6, r7, r8, r9, r10, r11, r12, r13⟩ := hR
  obtain ⟨c, hc, hc2⟩ := hO.2
  refine ⟨fun w h5 => ?_, fun w h5 => ?_, fun w h5 => ?_, fun w h5 k hk => ?_, ?_, ?_, ?_, ?_, ?_, ?_, ?_, fun k hk => ?_, fun k hk => ?_⟩
  · rw [h _ (by omega)]; exact r1 w h5
  · rw [h _ (by omega)]; exact r2 w h5
  · rw [h _ (by omega)]; exact r3 w h5
  · obtain ⟨m, b, h1, h2, h3, -⟩ := hO.1 w h5
    have hk2 := hk
    rw [h3, cl5 m (by omega)] at hk2
    rw [h _ (by omega)]; exact r4 w h5 k hk
  · rw [h _ (by omega)]; exact r5
  · rw [h _ (by omega)]; exact r6
  · rw [h _ (by omega)]; exact r7
  · rw [h _ (by omega)]; exact r8
  · rw [h _ (by omega)]; exact r9
  · rw [h _ (by omega)]; exact r10
  · rw [h _ (by omega)]; exact r11
  · have hk2 := hk
    rw [hc2, cl5 c (by omega)] at hk2
    rw [h _ (by omega)]; exact r12 k hk
  · rw [h _ (by omega)]; exact r13 k hk
theorem Rp_sv {s : Nat → Int32} {d : SD} (hO : SOk d) (hR : Rp s d) (v : Nat) : Rp (svS s v) d := Rp_congr (fun _ h => svS_lo s v h) hO hR
theorem Rp_svu {s : Nat → Int32} {d : SD} {k : Nat} {x : Int32} (hO : SOk d) (hR : Rp (upd s k x) d) (v : Nat) : Rp (upd (svS s v) k x) d := by
  refine Rp_congr (fun j h => ?_) hO hR
  by_cases e : j = k
  · subst e; rw [upd_eq, upd_eq]
  · rw [upd_ne e, upd_ne e, svS_lo s v h]
section
variable (th sv ln at9 pt nm op : Int32) (kp : Bool) (hs : Int64) (s tx bg tm : Nat → Int32)
theorem c_wouldBe {d' : SD} (j : Nat) (hj : j < 1376) (x : Int32) (hR : Rp (upd s j x) d') (hO : SOk d') : Con yX6_wouldBe cX6_wouldBe 5 (some .boolean) (rmk 4 91) [.ref 0, .int (nI j), .int x] (MW th sv ln at9 pt nm op kp hs s tx bg tm) (some (.int (b2i (alD d')))) (MW th sv ln at9 pt nm op kp hs s tx bg tm) := by
  refine Con.of (own := RX6) (by decide) rfl (Nat.le_of_ble_eq_true rfl) rfl (fun B M => ?_)
  refine r_aload_n M dX6_wouldBe_0 rfl ?_
  refine r_get M fl_X6_7 dX6_wouldBe_1 rfl rfl ?_
  refine r_iload_n M dX6_wouldBe_4 rfl ?_
  refine r_iald M dX6_wouldBe_5 rfl (s_in hj) ?_
  rw [cl_s (by omega)]
  refine r_istore_n M dX6_wouldBe_6 (by decide) ?_
  refine r_aload_n M dX6_wouldBe_7 rfl ?_
  refine r_get M fl_X6_7 dX6_wouldBe_8 rfl rfl ?_
  refine r_iload_n M dX6_wouldBe_11 rfl ?_
  refine r_iload_n M dX6_wouldBe_12 rfl ?_
  refine r_iast M dX6_wouldBe_13 rfl (s_in hj) ?_
  rw [cl_s (by omega)]
  refine r_aload_n M dX6_wouldBe_14 rfl ?_
  refine r_V0ik M (c_isAllowed th sv ln at9 pt nm op kp hs (upd s j x) tx bg tm hR hO) lk_X6_79 dX6_wouldBe_15 (by decide +kernel) ⟨Nat.le_of_ble_eq_true rfl, Nat.le_of_ble_eq_true rfl⟩ ⟨rfl, rfl⟩ [0, 1, 2, 3, 4] rfl rfl rfl (by decide +kernel) rfl (Nat.le_of_ble_eq_true rfl) ?_
  refine r_istore M dX6_wouldBe_18 (by decide) ?_
  refine r_aload_n M dX6_wouldBe_20 rfl ?_
  refine r_get M fl_X6_7 dX6_wouldBe_21 rfl rfl ?_
  refine r_iload_n M dX6_wouldBe_24 rfl ?_
  refine r_iload_n M dX6_wouldBe_25 rfl ?_
  refine r_iast M dX6_wouldBe_26 rfl (s_in hj) ?_
  rw [cl_s (by omega), upd_bk]
  refine r_iload M dX6_wouldBe_27 rfl ?_
  exact r_zret M dX6_wouldBe_29 rfl (b2i_nr _) rfl rfl
end
section
variable (th ln at9 pt nm op : Int32) (kp : Bool) (hs : Int64) (s tx bg tm : Nat → Int32) (v : Nat)
theorem c_changed (hv : v ≤ 6) (j : Nat) (hj : j < 172) (x : Int32) : Con yX6_changed cX6_changed 4 (some .int) (rmk 2 44) [.ref 0, .int (nI j), .int x] (MW th (nI v) ln at9 pt nm op kp hs s tx bg tm) (some (.int (s j))) (MW th (nI (puK v)) ln at9 pt nm op kp hs (upd (svS s v) j x) tx bg tm) := by
  refine Con.of (own := RX6) (by decide) rfl (Nat.le_of_ble_eq_true rfl) rfl (fun B M => ?_)
  have hc := c_save th ln at9 pt nm op kp hs s tx bg tm v hv
  have hl := svS_lo s v hj
  generalize svS s v = s2 at M hc hl ⊢
  generalize puK v = v2 at M hc ⊢
  refine r_aload_n M dX6_changed_0 rfl ?_
  refine r_V0vu (w' :=  MW th (nI v2) ln at9 pt nm op kp hs s2 tx bg tm) M hc lk_X6_67 dX6_changed_1 (by decide +kernel) ⟨Nat.le_of_ble_eq_true rfl, Nat.le_of_ble_eq_true rfl⟩ ⟨rfl, rfl⟩ [0, 1, 2, 3, 4] rfl rfl rfl (by decide +kernel) rfl (Nat.le_of_ble_eq_true rfl) rfl ?_
  refine r_aload_n M dX6_changed_4 rfl ?_
  refine r_get M fl_X6_7 dX6_changed_5 rfl rfl ?_
  refine r_iload_n M dX6_changed_8 rfl ?_
  refine r_iald M dX6_changed_9 rfl (s_in (by omega)) ?_
  rw [cl_s (by omega), hl]
  refine r_istore_n M dX6_changed_10 (by decide) ?_
  refine r_aload_n M dX6_changed_11 rfl ?_
  refine r_get M fl_X6_7 dX6_changed_12 rfl rfl ?_
  refine r_iload_n M dX6_changed_15 rfl ?_
  refine r_iload_n M dX6_changed_16 rfl ?_
  refine r_iast M dX6_changed_17 rfl (s_in (by omega)) ?_
  rw [cl_s (by omega)]
  refine r_iload_n M dX6_changed_18 rfl ?_
  exact r_iret M dX6_changed_19 rfl rfl rfl
theorem c_mTurnF (x : Int32) (h : btw x (-60) 60 = false ∨ x = 0) : Con yX6_turn cX6_turn 2 (some .int) (rmk 5 117) [.ref 0, .int x] (MW th (nI v) ln at9 pt nm op kp hs s tx bg tm) (some (.int 0)) (MW 1 (nI v) ln at9 pt nm op kp hs s tx bg tm) := by
  refine Con.of (own := RX6) (by decide) rfl (Nat.le_of_ble_eq_true rfl) rfl (fun B M => ?_)
  have go : B 21 [(0, .ref 0), (1, .int x)] [.int 1, .ref 0] (MW th (nI v) ln at9 pt nm op kp hs s tx bg tm) := by
    refine r_V1iu (w' :=  _) M (c_holds th (nI v) ln at9 pt nm op kp hs s tx bg tm 1) lk_X6_63 dX6_turn_21 (by decide +kernel) ⟨Nat.le_of_ble_eq_true rfl, Nat.le_of_ble_eq_true rfl⟩ ⟨rfl, rfl⟩ [0, 1, 2, 3, 4] rfl rfl rfl (by decide +kernel) rfl (Nat.le_of_ble_eq_true rfl) rfl ?_
    refine r_if_ne M 29 dX6_turn_24 (by decide) (fun h9 => absurd (by decide) h9) (fun _ => ?_)
    refine r_iconst M 0 dX6_turn_27 (by decide) ?_
    exact r_iret M dX6_turn_28 rfl rfl rfl
  refine r_aload_n M dX6_turn_0 rfl ?_
  refine r_iload_n M dX6_turn_1 rfl ?_
  refine r_bipush M (-60) dX6_turn_2 (by decide) ?_
  refine r_bipush M 60 dX6_turn_4 (by decide) ?_
  refine r_S3ik M (c_in _ _ _) lk_X6_26 dX6_turn_6 (by decide +kernel) ⟨Nat.le_of_ble_eq_true rfl, Nat.le_of_ble_eq_true rfl⟩ ⟨rfl, rfl⟩ [] rfl (by decide +kernel) rfl (Nat.le_of_ble_eq_true rfl) ?_
  cases hb : btw x (-60) 60
  · refine r_if_eq M 20 dX6_turn_9 (by decide) (fun _ => ?_) (fun h9 => absurd rfl h9)
    refine r_iconst M 1 dX6_turn_20 (by decide) ?_
    exact go
  · refine r_if_eq M 20 dX6_turn_9 (by decide) (fun h9 => absurd h9 (by decide)) (fun _ => ?_)
    refine r_iload_n M dX6_turn_12 rfl ?_
    rcases h with h | h
    · rw [h] at hb; cases hb
    · refine r_if_eq M 20 dX6_turn_13 (by decide) (fun _ => ?_) (fun h9 => absurd h h9)
      refine r_iconst M 1 dX6_turn_20 (by decide) ?_
      exact go
theorem c_mTurnP (hv : v ≤ 6) (m : Nat) (h1 : 1 ≤ m) (h2 : m ≤ 60) {d : SD} (hR : Rp s d) (hO : SOk d) : Con yX6_turn cX6_turn 2 (some .int) (rmk 5 117) [.ref 0, .int (nI m)] (MW th (nI v) ln at9 pt nm op kp hs s tx bg tm) (some (.int (nI (tuG 1 m d).1))) (MW 0 (nI (puK v)) ln at9 pt nm op kp hs (stIt 1 (tuG 1 m d).1 (svS s v)) tx bg tm) := by
  refine Con.of (own := RX6) (by decide) rfl (Nat.le_of_ble_eq_true rfl) rfl (fun B M => ?_)
  have hR2 := Rp_sv hO hR v
  have hc := c_save 0 ln at9 pt nm op kp hs s tx bg tm v hv
  generalize svS s v = s2 at M hc hR2 ⊢
  generalize puK v = v2 at M hc ⊢
  have hb : btw (nI m) (-60) 60 = true := by
    rw [btw, decide_eq_true_iff, Int32.le_iff_toInt_le, Int32.le_iff_toInt_le, nI_toInt (by omega), show (-60 : Int32).toInt = -60 from rfl, show (60 : Int32).toInt = 60 from rfl]
    omega
  have hz : ¬ nI m = 0 := fun e => by
    have := (nI_eq (a := m) (b := 0) (by omega) (by omega)).mp e
    omega
  have hp : 0 < nI m := nI_lt (a := 0) (by omega) (by omega)
  refine r_aload_n M dX6_turn_0 rfl ?_
  refine r_iload_n M dX6_turn_1 rfl ?_
  refine r_bipush M (-60) dX6_turn_2 (by decide) ?_
  refine r_bipush M 60 dX6_turn_4 (by decide) ?_
  refine r_S3ik M (c_in _ _ _) lk_X6_26 dX6_turn_6 (by decide +kernel) ⟨Nat.le_of_ble_eq_true rfl, Nat.le_of_ble_eq_true rfl⟩ ⟨rfl, rfl⟩ [] rfl (by decide +kernel) rfl (Nat.le_of_ble_eq_true rfl) ?_
  rw [hb]
  refine r_if_eq M 20 dX6_turn_9 (by decide) (fun h9 => absurd h9 (by decide)) (fun _ => ?_)
  refine r_iload_n M dX6_turn_12 rfl ?_
  refine r_if_eq M 20 dX6_turn_13 (by decide) (fun h9 => absurd h9 hz) (fun _ => ?_)
  refine r_iconst M 0 dX6_turn_16 (by decide) ?_
  refine r_goto M 21 dX6_turn_17 (by decide) ?_
  refine r_V1iu (w' :=  MW 0 (nI v) ln at9 pt nm op kp hs s tx bg tm) M (c_holds th (nI v) ln at9 pt nm op kp hs s tx bg tm 0) lk_X6_63 dX6_turn_21 (by decide +kernel) ⟨Nat.le_of_ble_eq_true rfl, Nat.le_of_ble_eq_true rfl⟩ ⟨rfl, rfl⟩ [0, 1, 2, 3, 4] rfl rfl rfl (by decide +kernel) rfl (Nat.le_of_ble_eq_true rfl) rfl ?_
  refine r_if_ne M 29 dX6_turn_24 (by decide) (fun _ => ?_) (fun h9 => absurd h9 (by decide))
  refine r_aload_n M dX6_turn_29 rfl ?_
  refine r_V0vu (w' :=  MW 0 (nI v2) ln at9 pt nm op kp hs s2 tx bg tm) M hc lk_X6_67 dX6_turn_30 (by decide +kernel) ⟨Nat.le_of_ble_eq_true rfl, Nat.le_of_ble_eq_true rfl⟩ ⟨rfl, rfl⟩ [0, 1, 2, 3, 4] rfl rfl rfl (by decide +kernel) rfl (Nat.le_of_ble_eq_true rfl) rfl ?_
  refine r_iload_n M dX6_turn_33 rfl ?_
  refine r_if_le M 46 dX6_turn_34 (by decide) (fun h9 => absurd h9 (Int32.not_le.mpr hp)) (fun _ => ?_)
  refine r_aload_n M dX6_turn_37 rfl ?_
  refine r_iconst M 1 dX6_turn_38 (by decide) ?_
  refine r_iload_n M dX6_turn_39 rfl ?_
  refine r_V2iu (w' :=  _) M (c_turns 0 (nI v2) ln at9 pt nm op kp hs s2 tx bg tm 1 m (by omega) hR2 hO) lk_X6_70 dX6_turn_40 (by decide +kernel) ⟨Nat.le_of_ble_eq_true rfl, Nat.le_of_ble_eq_true rfl⟩ ⟨rfl, rfl⟩ [0, 1, 2, 3, 4] rfl rfl rfl (by decide +kernel) rfl (Nat.le_of_ble_eq_true rfl) rfl ?_
  refine r_goto M 53 dX6_turn_43 (by decide) ?_
  exact r_iret M dX6_turn_53 rfl rfl rfl
theorem c_mTurnN (hv : v ≤ 6) (m : Nat) (h1 : 1 ≤ m) (h2 : m ≤ 60) {d : SD} (hR : Rp s d) (hO : SOk d) : Con yX6_turn cX6_turn 2 (some .int) (rmk 5 117) [.ref 0, .int (-(nI m))] (MW th (nI v) ln at9 pt nm op kp hs s tx bg tm) (some (.int (nI (tuG (-1) m d).1))) (MW 0 (nI (puK v)) ln at9 pt nm op kp hs (stIt (-1) (tuG (-1) m d).1 (svS s v)) tx bg tm) := by
  refine Con.of (own := RX6) (by decide) rfl (Nat.le_of_ble_eq_true rfl) rfl (fun B M => ?_)
  have hR2 := Rp_sv hO hR v
  have hc := c_save 0 ln at9 pt nm op kp hs s tx bg tm v hv
  generalize svS s v = s2 at M hc hR2 ⊢
  generalize puK v = v2 at M hc ⊢
  have ht : (-(nI m)).toInt = -(m : Int) := by
    rw [Int32.toInt_neg, nI_toInt (by omega), Int.bmod_eq_of_le (by omega) (by omega)]
  have hb : btw (-(nI m)) (-60) 60 = true := by
    rw [btw, decide_eq_true_iff, Int32.le_iff_toInt_le, Int32.le_iff_toInt_le, ht, show (-60 : Int32).toInt = -60 from rfl, show (60 : Int32).toInt = 60 from rfl]
    omega
  have hz : ¬ (-(nI m)) = 0 := fun e => by
    have := congrArg Int32.toInt e
    rw [ht, show (0 : Int32).toInt = 0 from rfl] at this
    omega
  have hp : -(nI m) ≤ 0 := by
    rw [Int32.le_iff_toInt_le, ht, show (0 : Int32).toInt = 0 from rfl]; omega
  have hn : -(-(nI m)) = nI m := by rw [Int32.neg_neg]
  refine r_aload_n M dX6_turn_0 rfl ?_
  refine r_iload_n M dX6_turn_1 rfl ?_
  refine r_bipush M (-60) dX6_turn_2 (by decide) ?_
  refine r_bipush M 60 dX6_turn_4 (by decide) ?_
  refine r_S3ik M (c_in _ _ _) lk_X6_26 dX6_turn_6 (by decide +kernel) ⟨Nat.le_of_ble_eq_true rfl, Nat.le_of_ble_eq_true rfl⟩ ⟨rfl, rfl⟩ [] rfl (by decide +kernel) rfl (Nat.le_of_ble_eq_true rfl) ?_
  rw [hb]
  refine r_if_eq M 20 dX6_turn_9 (by decide) (fun h9 => absurd h9 (by decide)) (fun _ => ?_)
  refine r_iload_n M dX6_turn_12 rfl ?_
  refine r_if_eq M 20 dX6_turn_13 (by decide) (fun h9 => absurd h9 hz) (fun _ => ?_)
  refine r_iconst M 0 dX6_turn_16 (by decide) ?_
  refine r_goto M 21 dX6_turn_17 (by decide) ?_
  refine r_V1iu (w' :=  MW 0 (nI v) ln at9 pt nm op kp hs s tx bg tm) M (c_holds th (nI v) ln at9 pt nm op kp hs s tx bg tm 0) lk_X6_63 dX6_turn_21 (by decide +kernel) ⟨Nat.le_of_ble_eq_true rfl, Nat.le_of_ble_eq_true rfl⟩ ⟨rfl, rfl⟩ [0, 1, 2, 3, 4] rfl rfl rfl (by decide +kernel) rfl (Nat.le_of_ble_eq_true rfl) rfl ?_
  refine r_if_ne M 29 dX6_turn_24 (by decide) (fun _ => ?_) (fun h9 => absurd h9 (by decide))
  refine r_aload_n M dX6_turn_29 rfl ?_
  refine r_V0vu (w' :=  MW 0 (nI v2) ln at9 pt nm op kp hs s2 tx bg tm) M hc lk_X6_67 dX6_turn_30 (by decide +kernel) ⟨Nat.le_of_ble_eq_true rfl, Nat.le_of_ble_eq_true rfl⟩ ⟨rfl, rfl⟩ [0, 1, 2, 3, 4] rfl rfl rfl (by decide +kernel) rfl (Nat.le_of_ble_eq_true rfl) rfl ?_
  refine r_iload_n M dX6_turn_33 rfl ?_
  refine r_if_le M 46 dX6_turn_34 (by decide) (fun _ => ?_) (fun h9 => absurd hp h9)
  refine r_aload_n M dX6_turn_46 rfl ?_
  refine r_iconst M (-1) dX6_turn_47 (by decide) ?_
  refine r_iload_n M dX6_turn_48 rfl ?_
  refine r_ineg M dX6_turn_49 ?_
  rw [hn]
  refine r_V2iu (w' :=  _) M (c_turns 0 (nI v2) ln at9 pt nm op kp hs s2 tx bg tm (-1) m (by omega) hR2 hO) lk_X6_70 dX6_turn_50 (by decide +kernel) ⟨Nat.le_of_ble_eq_true rfl, Nat.le_of_ble_eq_true rfl⟩ ⟨rfl, rfl⟩ [0, 1, 2, 3, 4] rfl rfl rfl (by decide +kernel) rfl (Nat.le_of_ble_eq_true rfl) rfl ?_
  exact r_iret M dX6_turn_53 rfl rfl rfl
theorem c_mLift (hv : v ≤ 6) {d : SD} (hR : Rp s d) (hO : SOk d) : Con yX6_lift cX6_lift 2 (some .int) (rmk 3 62) [.ref 0] (MW th (nI v) ln at9 pt nm op kp hs s tx bg tm) (some (.int (b2i (cau (sSt d) (sCr d) (sLi d))))) (MW 0 (nI (puK v)) ln at9 pt nm op kp hs (upd (svS s v) 77 1) tx bg tm) := by
  refine Con.of (own := RX6) (by decide) rfl (Nat.le_of_ble_eq_true rfl) rfl (fun B M => ?_)
  have hR2 := Rp_sv hO hR v
  have hc := c_save 0 ln at9 pt nm op kp hs s tx bg tm v hv
  generalize svS s v = s2 at M hc hR2 ⊢
  generalize puK v = v2 at M hc ⊢
  have go : ∀ b : Bool, b = cau (sSt d) (sCr d) (sLi d) → B 21 [(0, .ref 0)] [.int (b2i b)] (MW 0 (nI v2) ln at9 pt nm op kp hs s2 tx bg tm) := by
    intro b hb
    refine r_istore_n M dX6_lift_21 (by decide) ?_
    refine r_aload_n M dX6_lift_22 rfl ?_
    refine r_get M fl_X6_7 dX6_lift_23 rfl rfl ?_
    refine r_bipush M 77 dX6_lift_26 (by decide) ?_
    refine r_iconst M 1 dX6_lift_28 (by decide) ?_
    refine r_iast M dX6_lift_29 rfl (s_in (j := 77) (by omega)) ?_
    refine r_iload_n M dX6_lift_30 rfl ?_
    exact r_iret M dX6_lift_31 rfl (by rw [hb]) rfl
  refine r_aload_n M dX6_lift_0 rfl ?_
  refine r_iconst M 0 dX6_lift_1 (by decide) ?_
  refine r_put M fl_X6_22 ff_6_0 dX6_lift_2 rfl rfl rfl (fun _ => rfl) (Nat.le_of_ble_eq_true rfl) ?_
  refine r_aload_n M dX6_lift_5 rfl ?_
  refine r_V0vu (w' :=  MW 0 (nI v2) ln at9 pt nm op kp hs s2 tx bg tm) M hc lk_X6_67 dX6_lift_6 (by decide +kernel) ⟨Nat.le_of_ble_eq_true rfl, Nat.le_of_ble_eq_true rfl⟩ ⟨rfl, rfl⟩ [0, 1, 2, 3, 4] rfl rfl rfl (by decide +kernel) rfl (Nat.le_of_ble_eq_true rfl) rfl ?_
  refine r_aload_n M dX6_lift_9 rfl ?_
  refine r_V0ik M (c_mIsCaught 0 (nI v2) ln at9 pt nm op kp hs s2 tx bg tm hR2) lk_X6_45 dX6_lift_10 (by decide +kernel) ⟨Nat.le_of_ble_eq_true rfl, Nat.le_of_ble_eq_true rfl⟩ ⟨rfl, rfl⟩ [0, 1, 2, 3, 4] rfl rfl rfl (by decide +kernel) rfl (Nat.le_of_ble_eq_true rfl) ?_
  cases hb : cau (sSt d) (sCr d) (sLi d)
  · refine r_if_eq M 20 dX6_lift_13 (by decide) (fun _ => ?_) (fun h9 => absurd rfl h9)
    refine r_iconst M 0 dX6_lift_20 (by decide) ?_
    exact go false hb.symm
  · refine r_if_eq M 20 dX6_lift_13 (by decide) (fun h9 => absurd h9 (by decide)) (fun _ => ?_)
    refine r_iconst M 1 dX6_lift_16 (by decide) ?_
    refine r_goto M 21 dX6_lift_17 (by decide) ?_
    exact go true hb.symm
theorem c_mStopF (x : Int32) (h : btw x 0 59 = false) : Con yX6_stop cX6_stop 2 (some .int) (rmk 2 44) [.ref 0, .int x] (MW th (nI v) ln at9 pt nm op kp hs s tx bg tm) (some (.int 0)) (MW 1 (nI v) ln at9 pt nm op kp hs s tx bg tm) := by
  refine Con.of (own := RX6) (by decide) rfl (Nat.le_of_ble_eq_true rfl) rfl (fun B M => ?_)
  refine r_aload_n M dX6_stop_0 rfl ?_
  refine r_iload_n M dX6_stop_1 rfl ?_
  refine r_iconst M 0 dX6_stop_2 (by decide) ?_
  refine r_bipush M 59 dX6_stop_3 (by decide) ?_
  refine r_S3ik M (c_in _ _ _) lk_X6_26 dX6_stop_5 (by decide +kernel) ⟨Nat.le_of_ble_eq_true rfl, Nat.le_of_ble_eq_true rfl⟩ ⟨rfl, rfl⟩ [] rfl (by decide +kernel) rfl (Nat.le_of_ble_eq_true rfl) ?_
  rw [h]
  refine r_if_eq M 15 dX6_stop_8 (by decide) (fun _ => ?_) (fun h9 => absurd rfl h9)
  refine r_iconst M 1 dX6_stop_15 (by decide) ?_
  refine r_V1iu (w' :=  _) M (c_holds th (nI v) ln at9 pt nm op kp hs s tx bg tm 1) lk_X6_63 dX6_stop_16 (by decide +kernel) ⟨Nat.le_of_ble_eq_true rfl, Nat.le_of_ble_eq_true rfl⟩ ⟨rfl, rfl⟩ [0, 1, 2, 3, 4] rfl rfl rfl (by decide +kernel) rfl (Nat.le_of_ble_eq_true rfl) rfl ?_
  refine r_if_ne M 24 dX6_stop_19 (by decide) (fun h9 => absurd (by decide) h9) (fun _ => ?_)
  refine r_iconst M 0 dX6_stop_22 (by decide) ?_
  exact r_iret M dX6_stop_23 rfl rfl rfl
theorem c_mStop (hv : v ≤ 6) (j : Nat) (hj : j < 60) {d' : SD} (hO : SOk d') (hR : Rp (upd s (112 + j) (1 - s (112 + j))) d') : Con yX6_stop cX6_stop 2 (some .int) (rmk 2 44) [.ref 0, .int (nI j)] (MW th (nI v) ln at9 pt nm op kp hs s tx bg tm) (some (.int (sumf (fun j => b2i (sSt d' j)) 60))) (MW 0 (nI (puK v)) ln at9 pt nm op kp hs (upd (svS s v) (112 + j) (1 - s (112 + j))) tx bg tm) := by
  refine Con.of (own := RX6) (by decide) rfl (Nat.le_of_ble_eq_true rfl) rfl (fun B M => ?_)
  have hR2 := Rp_svu hO hR v
  have hc := c_save 0 ln at9 pt nm op kp hs s tx bg tm v hv
  have hl := svS_lo s v (j := 112 + j) (by omega)
  generalize svS s v = s2 at M hc hR2 hl ⊢
  generalize puK v = v2 at M hc ⊢
  have hb : btw (nI j) 0 59 = true := by
    rw [btw, decide_eq_true_iff, Int32.le_iff_toInt_le, Int32.le_iff_toInt_le, nI_toInt (by omega), show (0 : Int32).toInt = 0 from rfl, show (59 : Int32).toInt = 59 from rfl]
    omega
  have e0 : (112 : Int32) + nI j = nI (112 + j) := nI_add 112 j
  refine r_aload_n M dX6_stop_0 rfl ?_
  refine r_iload_n M dX6_stop_1 rfl ?_
  refine r_iconst M 0 dX6_stop_2 (by decide) ?_
  refine r_bipush M 59 dX6_stop_3 (by decide) ?_
  refine r_S3ik M (c_in _ _ _) lk_X6_26 dX6_stop_5 (by decide +kernel) ⟨Nat.le_of_ble_eq_true rfl, Nat.le_of_ble_eq_true rfl⟩ ⟨rfl, rfl⟩ [] rfl (by decide +kernel) rfl (Nat.le_of_ble_eq_true rfl) ?_
  rw [hb]
  refine r_if_eq M 15 dX6_stop_8 (by decide) (fun h9 => absurd h9 (by decide)) (fun _ => ?_)
  refine r_iconst M 0 dX6_stop_11 (by decide) ?_
  refine r_goto M 16 dX6_stop_12 (by decide) ?_
  refine r_V1iu (w' :=  MW 0 (nI v) ln at9 pt nm op kp hs s tx bg tm) M (c_holds th (nI v) ln at9 pt nm op kp hs s tx bg tm 0) lk_X6_63 dX6_stop_16 (by decide +kernel) ⟨Nat.le_of_ble_eq_true rfl, Nat.le_of_ble_eq_true rfl⟩ ⟨rfl, rfl⟩ [0, 1, 2, 3, 4] rfl rfl rfl (by decide +kernel) rfl (Nat.le_of_ble_eq_true rfl) rfl ?_
  refine r_if_ne M 24 dX6_stop_19 (by decide) (fun _ => ?_) (fun h9 => absurd h9 (by decide))
  refine r_aload_n M dX6_stop_24 rfl ?_
  refine r_V0vu (w' :=  MW 0 (nI v2) ln at9 pt nm op kp hs s2 tx bg tm) M hc lk_X6_67 dX6_stop_25 (by decide +kernel) ⟨Nat.le_of_ble_eq_true rfl, Nat.le_of_ble_eq_true rfl⟩ ⟨rfl, rfl⟩ [0, 1, 2, 3, 4] rfl rfl rfl (by decide +kernel) rfl (Nat.le_of_ble_eq_true rfl) rfl ?_
  refine r_aload_n M dX6_stop_28 rfl ?_
  refine r_get M fl_X6_7 dX6_stop_29 rfl rfl ?_
  refine r_bipush M 112 dX6_stop_32 (by decide) ?_
  refine r_iload_n M dX6_stop_34 rfl ?_
  refine r_iadd M dX6_stop_35 ?_
  refine r_iconst M 1 dX6_stop_36 (by decide) ?_
  refine r_aload_n M dX6_stop_37 rfl ?_
  refine r_get M fl_X6_7 dX6_stop_38 rfl rfl ?_
  refine r_bipush M 112 dX6_stop_41 (by decide) ?_
  refine r_iload_n M dX6_stop_43 rfl ?_
  refine r_iadd M dX6_stop_44 ?_
  rw [e0]
  refine r_iald M dX6_stop_45 rfl (s_in (by omega)) ?_
  rw [cl_s (by omega), hl]
  refine r_isub M dX6_stop_46 ?_
  refine r_iast M dX6_stop_47 rfl (s_in (by omega)) ?_
  rw [cl_s (by omega)]
  refine r_aload_n M dX6_stop_48 rfl ?_
  refine r_V0ik M (c_mStops 0 (nI v2) ln at9 pt nm op kp hs _ tx bg tm hR2) lk_X6_73 dX6_stop_49 (by decide +kernel) ⟨Nat.le_of_ble_eq_true rfl, Nat.le_of_ble_eq_true rfl⟩ ⟨rfl, rfl⟩ [0, 1, 2, 3, 4] rfl rfl rfl (by decide +kernel) rfl (Nat.le_of_ble_eq_true rfl) ?_
  exact r_iret M dX6_stop_52 rfl rfl rfl
theorem c_mClutchF (x : Int32) (h : btw x 0 4 = false) : Con yX6_clutch cX6_clutch 2 (some .int) (rmk 2 44) [.ref 0, .int x] (MW th (nI v) ln at9 pt nm op kp hs s tx bg tm) (some (.int 0)) (MW 1 (nI v) ln at9 pt nm op kp hs s tx bg tm) := by
  refine Con.of (own := RX6) (by decide) rfl (Nat.le_of_ble_eq_true rfl) rfl (fun B M => ?_)
  refine r_aload_n M dX6_clutch_0 rfl ?_
  refine r_iload_n M dX6_clutch_1 rfl ?_
  refine r_S1ik M (c_mIsWheel _) lk_X6_76 dX6_clutch_2 (by decide +kernel) ⟨Nat.le_of_ble_eq_true rfl, Nat.le_of_ble_eq_true rfl⟩ ⟨rfl, rfl⟩ [] rfl (by decide +kernel) rfl (Nat.le_of_ble_eq_true rfl) ?_
  rw [h]
  refine r_if_eq M 12 dX6_clutch_5 (by decide) (fun _ => ?_) (fun h9 => absurd rfl h9)
  refine r_iconst M 1 dX6_clutch_12 (by decide) ?_
  refine r_V1iu (w' :=  _) M (c_holds th (nI v) ln at9 pt nm op kp hs s tx bg tm 1) lk_X6_63 dX6_clutch_13 (by decide +kernel) ⟨Nat.le_of_ble_eq_true rfl, Nat.le_of_ble_eq_true rfl⟩ ⟨rfl, rfl⟩ [0, 1, 2, 3, 4] rfl rfl rfl (by decide +kernel) rfl (Nat.le_of_ble_eq_true rfl) rfl ?_
  refine r_if_ne M 21 dX6_clutch_16 (by decide) (fun h9 => absurd (by decide) h9) (fun _ => ?_)
  refine r_iconst M 0 dX6_clutch_19 (by decide) ?_
  exact r_iret M dX6_clutch_20 rfl rfl rfl
theorem btw_nI {n a b : Nat} (h1 : a ≤ n) (h2 : n ≤ b) (hb : b < 2 ^ 31) : btw (nI n) (nI a) (nI b) = true := by
  rw [btw, decide_eq_true_iff, Int32.le_iff_toInt_le, Int32.le_iff_toInt_le, nI_toInt (by omega), nI_toInt (by omega), nI_toInt (by omega)]
  omega
theorem c_mClutch (hv : v ≤ 6) (w : Nat) (h5 : w < 5) : Con yX6_clutch cX6_clutch 2 (some .int) (rmk 2 44) [.ref 0, .int (nI w)] (MW th (nI v) ln at9 pt nm op kp hs s tx bg tm) (some (.int (1 - s (10 + w)))) (MW 0 (nI (puK v)) ln at9 pt nm op kp hs (upd (svS s v) (10 + w) (1 - s (10 + w))) tx bg tm) := by
  refine Con.of (own := RX6) (by decide) rfl (Nat.le_of_ble_eq_true rfl) rfl (fun B M => ?_)
  have hc := c_save 0 ln at9 pt nm op kp hs s tx bg tm v hv
  have hl := svS_lo s v (j := 10 + w) (by omega)
  generalize svS s v = s2 at M hc hl ⊢
  generalize puK v = v2 at M hc ⊢
  have hb : btw (nI w) 0 4 = true := btw_nI (a := 0) (b := 4) (by omega) (by omega) (by omega)
  have e0 : (10 : Int32) + nI w = nI (10 + w) := nI_add 10 w
  refine r_aload_n M dX6_clutch_0 rfl ?_
  refine r_iload_n M dX6_clutch_1 rfl ?_
  refine r_S1ik M (c_mIsWheel _) lk_X6_76 dX6_clutch_2 (by decide +kernel) ⟨Nat.le_of_ble_eq_true rfl, Nat.le_of_ble_eq_true rfl⟩ ⟨rfl, rfl⟩ [] rfl (by decide +kernel) rfl (Nat.le_of_ble_eq_true rfl) ?_
  rw [hb]
  refine r_if_eq M 12 dX6_clutch_5 (by decide) (fun h9 => absurd h9 (by decide)) (fun _ => ?_)
  refine r_iconst M 0 dX6_clutch_8 (by decide) ?_
  refine r_goto M 13 dX6_clutch_9 (by decide) ?_
  refine r_V1iu (w' :=  MW 0 (nI v) ln at9 pt nm op kp hs s tx bg tm) M (c_holds th (nI v) ln at9 pt nm op kp hs s tx bg tm 0) lk_X6_63 dX6_clutch_13 (by decide +kernel) ⟨Nat.le_of_ble_eq_true rfl, Nat.le_of_ble_eq_true rfl⟩ ⟨rfl, rfl⟩ [0, 1, 2, 3, 4] rfl rfl rfl (by decide +kernel) rfl (Nat.le_of_ble_eq_true rfl) rfl ?_
  refine r_if_ne M 21 dX6_clutch_16 (by decide) (fun _ => ?_) (fun h9 => absurd h9 (by decide))
  refine r_aload_n M dX6_clutch_21 rfl ?_
  refine r_V0vu (w' :=  MW 0 (nI v2) ln at9 pt nm op kp hs s2 tx bg tm) M hc lk_X6_67 dX6_clutch_22 (by decide +kernel) ⟨Nat.le_of_ble_eq_true rfl, Nat.le_of_ble_eq_true rfl⟩ ⟨rfl, rfl⟩ [0, 1, 2, 3, 4] rfl rfl rfl (by decide +kernel) rfl (Nat.le_of_ble_eq_true rfl) rfl ?_
  refine r_aload_n M dX6_clutch_25 rfl ?_
  refine r_get M fl_X6_7 dX6_clutch_26 rfl rfl ?_
  refine r_bipush M 10 dX6_clutch_29 (by decide) ?_
  refine r_iload_n M dX6_clutch_31 rfl ?_
  refine r_iadd M dX6_clutch_32 ?_
  refine r_iconst M 1 dX6_clutch_33 (by decide) ?_
  refine r_aload_n M dX6_clutch_34 rfl ?_
  refine r_get M fl_X6_7 dX6_clutch_35 rfl rfl ?_
  refine r_bipush M 10 dX6_clutch_38 (by decide) ?_
  refine r_iload_n M dX6_clutch_40 rfl ?_
  refine r_iadd M dX6_clutch_41 ?_
  rw [e0]
  refine r_iald M dX6_clutch_42 rfl (s_in (by omega)) ?_
  rw [cl_s (by omega), hl]
  refine r_isub M dX6_clutch_43 ?_
  refine r_iast M dX6_clutch_44 rfl (s_in (by omega)) ?_
  rw [cl_s (by omega)]
  refine r_aload_n M dX6_clutch_45 rfl ?_
  refine r_get M fl_X6_7 dX6_clutch_46 rfl rfl ?_
  refine r_bipush M 10 dX6_clutch_49 (by decide) ?_
  refine r_iload_n M dX6_clutch_51 rfl ?_
  refine r_iadd M dX6_clutch_52 ?_
  rw [e0]
  refine r_iald M dX6_clutch_53 rfl (s_in (by omega)) ?_
  rw [cl_s (by omega), upd_eq]
  exact r_iret M dX6_clutch_54 rfl rfl rfl
end


section
variable (kp : Bool) (d0 d1 : SD) (k : Nat) (rm : Nat → Nat) (R : Nat → SD) (cod : Nat → Int32) (len aw op fig pop pmk pen : Int32) (psts ptd : Nat → Nat) (t : WD)
def chD (d : SD) (w m : Nat) : SD := (upd (sTe d) w (nI m), upd (sTo d) w 0, sLo d, upd (sCra d) w 0, upd (sHa d) w 0, putN (sHe d) (nI w) (hB (sTe d) (sTo d) (sLo d) (sHe d) (nI w) 0) m, sSt d, sScn d, sSc d, sCr d, sLi d, sSf d, sSb d, sSe d, sLa d)
theorem c_change (hrm : ∀ j, rm j < 6) (hk : k ≤ 6) (w : Nat) (h5 : w < 5) (m : Nat) (hm2 : 2 ≤ m) (hm : m ≤ 12) : Con yX5_change cX5_change 4 (some .int) (rmk 6 150) [.ref 0, .int (nI w), .int (nI m)] (CW kp d0 d1 k rm R cod len aw op fig pop pmk pen psts ptd t) (some (.int (sTe d0 w))) (CW kp (chD d0 w m) d1 (puK k) (puM k rm) (puR k rm R d0) cod len aw op fig pop pmk pen psts ptd t) := by
  refine Con.of (own := RX5) (by decide) rfl (Nat.le_of_ble_eq_true rfl) (Eq.trans (b := 95) rfl rfl) (fun B M => ?_)
  have hv := nI5 w h5
  have hc := cl5 w (by omega)
  have hs := c_giveTeeth (sTe d0) (sTo d0) (sLo d0) (sCra d0) (sHa d0) (sHe d0) (nI w) hv m hm
  rw [hc] at hs
  rw [chD] at M
  generalize putN (sHe d0) (nI w) (hB (sTe d0) (sTo d0) (sLo d0) (sHe d0) (nI w) 0) m = he2 at M hs
  refine r_iload_n M dX5_change_0 rfl ?_
  refine r_S1ik M (c_isWheel _) lk_X5_97 dX5_change_1 (by decide +kernel) ⟨Nat.le_of_ble_eq_true rfl, Nat.le_of_ble_eq_true rfl⟩ ⟨rfl, rfl⟩ [] rfl (by decide +kernel) rfl (Nat.le_of_ble_eq_true rfl) ?_
  refine r_if_ne M 17 dX5_change_4 (by decide) (fun _ => ?_) (fun h9 => absurd h9 (by rw [iswh_iff.mpr hv]; decide))
  refine r_iload_n M dX5_change_17 rfl ?_
  refine r_iconst M 2 dX5_change_18 (by decide) ?_
  refine r_icmp_lt M 28 dX5_change_19 (by decide) (fun h9 => absurd h9 (Int32.not_lt.mpr (nI_le (a := 2) hm2 (by omega)))) (fun _ => ?_)
  refine r_iload_n M dX5_change_22 rfl ?_
  refine r_bipush M 12 dX5_change_23 (by decide) ?_
  refine r_icmp_le M 38 dX5_change_25 (by decide) (fun _ => ?_) (fun h9 => absurd (nI_le (b := 12) hm (by omega)) h9)
  refine r_aload_n M dX5_change_38 rfl ?_
  refine r_get M fl_X5_26 dX5_change_39 rfl rfl ?_
  refine r_aload_n M dX5_change_42 rfl ?_
  refine r_get M fl_X5_10 dX5_change_43 rfl rfl ?_
  refine push_r kp d0 d1 rm R cod len aw op fig pop pmk pen psts ptd t M dX5_change_46 ⟨Nat.le_of_ble_eq_true rfl, Nat.le_of_ble_eq_true rfl⟩ (Nat.le_of_ble_eq_true rfl) hrm k hk ?_
  generalize puK k = k2 at M ⊢
  generalize puM k rm = m2 at M ⊢
  generalize puR k rm R d0 = R2 at M ⊢
  refine r_aload_n M dX5_change_49 rfl ?_
  refine r_get M fl_X5_10 dX5_change_50 rfl rfl ?_
  refine r_getN M fn_X5_62 dX5_change_53 rfl rfl ?_
  refine r_getN M fn_X5_158 dX5_change_56 rfl rfl ?_
  refine r_iload_n M dX5_change_59 rfl ?_
  refine r_iald M dX5_change_60 rfl hv ?_
  rw [hc]
  refine r_istore_n M dX5_change_61 (by decide) ?_
  refine r_aload_n M dX5_change_62 rfl ?_
  refine r_get M fl_X5_10 dX5_change_63 rfl rfl ?_
  refine r_getN M fn_X5_62 dX5_change_66 rfl rfl ?_
  refine r_iload_n M dX5_change_69 rfl ?_
  refine r_iload_n M dX5_change_70 rfl ?_
  refine r_V2vu (w' :=  CW kp (upd (sTe d0) w (nI m), upd (sTo d0) w 0, sLo d0, upd (sCra d0) w 0, upd (sHa d0) w 0, he2, sSt d0, sScn d0, sSc d0, sCr d0, sLi d0, sSf d0, sSb d0, sSe d0, sLa d0) d1 k2 m2 R2 cod len aw op fig pop pmk pen psts ptd t) M hs lk_X5_161 dX5_change_71 (by decide +kernel) ⟨Nat.le_of_ble_eq_true rfl, Nat.le_of_ble_eq_true rfl⟩ ⟨rfl, rfl⟩ [4, 5, 6, 7, 8, 9, 10] rfl rfl rfl (by decide +kernel) rfl (Nat.le_of_ble_eq_true rfl) rfl ?_
  refine r_iload_n M dX5_change_74 rfl ?_
  exact r_iret M dX5_change_75 rfl rfl rfl
def reD (d : SD) (c : Nat) : SD := (sTe d, sTo d, sLo d, sCra d, sHa d, sHe d, sSt d, addK (sScn d) c (fun w => hB (sTe d) (sTo d) (sLo d) (sHe d) (nI w) 0) 5, sSc d + 1, sCr d, sLi d, sSf d, sSb d, sSe d, sLa d)
theorem c_remember (hrm : ∀ j, rm j < 6) (hk : k ≤ 6) (c : Nat) (hc6 : c < 6) (hsc : sSc d0 = nI c) : Con yX5_remember cX5_remember 1 (some .int) (rmk 6 150) [.ref 0] (CW kp d0 d1 k rm R cod len aw op fig pop pmk pen psts ptd t) (some (.int (sSc d0))) (CW kp (reD d0 c) d1 (puK k) (puM k rm) (puR k rm R d0) cod len aw op fig pop pmk pen psts ptd t) := by
  refine Con.of (own := RX5) (by decide) rfl (Nat.le_of_ble_eq_true rfl) (Eq.trans (b := 95) rfl rfl) (fun B M => ?_)
  have hs := c_addScene (sSc d0) (sCr d0) (sLi d0) (sSf d0) (sSb d0) (sSe d0) (sLa d0) (sSt d0) (sScn d0) (sTe d0) (sTo d0) (sLo d0) (sCra d0) (sHa d0) (sHe d0) c hc6 hsc
  rw [reD] at M
  generalize addK (sScn d0) c (fun w => hB (sTe d0) (sTo d0) (sLo d0) (sHe d0) (nI w) 0) 5 = sc2 at M hs
  refine r_aload_n M dX5_remember_0 rfl ?_
  refine r_get M fl_X5_10 dX5_remember_1 rfl rfl ?_
  refine r_getN M fn_X5_164 dX5_remember_4 rfl rfl ?_
  refine r_bipush M 6 dX5_remember_7 (by decide) ?_
  refine r_icmp_lt M 22 dX5_remember_9 (by decide) (fun _ => ?_) (fun h9 => absurd (show sSc d0 < 6 by rw [hsc]; exact nI_lt (b := 6) hc6 (by omega)) h9)
  refine r_aload_n M dX5_remember_22 rfl ?_
  refine r_get M fl_X5_26 dX5_remember_23 rfl rfl ?_
  refine r_aload_n M dX5_remember_26 rfl ?_
  refine r_get M fl_X5_10 dX5_remember_27 rfl rfl ?_
  refine push_r kp d0 d1 rm R cod len aw op fig pop pmk pen psts ptd t M dX5_remember_30 ⟨Nat.le_of_ble_eq_true rfl, Nat.le_of_ble_eq_true rfl⟩ (Nat.le_of_ble_eq_true rfl) hrm k hk ?_
  generalize puK k = k2 at M ⊢
  generalize puM k rm = m2 at M ⊢
  generalize puR k rm R d0 = R2 at M ⊢
  refine r_aload_n M dX5_remember_33 rfl ?_
  refine r_get M fl_X5_10 dX5_remember_34 rfl rfl ?_
  refine r_V0vu (w' :=  CW kp (sTe d0, sTo d0, sLo d0, sCra d0, sHa d0, sHe d0, sSt d0, sc2, sSc d0 + 1, sCr d0, sLi d0, sSf d0, sSb d0, sSe d0, sLa d0) d1 k2 m2 R2 cod len aw op fig pop pmk pen psts ptd t) M hs lk_X5_169 dX5_remember_37 (by decide +kernel) ⟨Nat.le_of_ble_eq_true rfl, Nat.le_of_ble_eq_true rfl⟩ ⟨rfl, rfl⟩ [1, 2, 3, 4, 5, 6, 7, 8, 9, 10] rfl rfl rfl (by decide +kernel) rfl (Nat.le_of_ble_eq_true rfl) rfl ?_
  refine r_aload_n M dX5_remember_40 rfl ?_
  refine r_get M fl_X5_10 dX5_remember_41 rfl rfl ?_
  refine r_getN M fn_X5_164 dX5_remember_44 rfl rfl ?_
  refine r_iconst M 1 dX5_remember_47 (by decide) ?_
  refine r_isub M dX5_remember_48 ?_
  exact r_iret M dX5_remember_49 rfl (by rw [Int32.add_sub_cancel]) rfl
def foD (d : SD) (i c : Nat) : SD := (sTe d, sTo d, sLo d, sCra d, sHa d, sHe d, sSt d, dropK (sScn d) i c, sSc d - 1, sCr d, sLi d, sSf d, sSb d, sSe d, sLa d)
end


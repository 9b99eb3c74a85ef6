section
variable (kp : Bool) (d0 d1 : SD) (k : Nat) (rm : Nat → Nat) (R : Nat → SD) (cod : Nat → Int32) (len aw op fig pop pmk pen : Int32) (psts ptd : Nat → Nat) (t : WD)
theorem c_clutch (hrm : ∀ j, rm j < 6) (hk : k ≤ 6) (w : Nat) (h5 : w < 5) : Con yX5_clutch cX5_clutch 2 (some .int) (rmk 6 150) [.ref 0, .int (nI w)] (CW kp d0 d1 k rm R cod len aw op fig pop pmk pen psts ptd t) (some (.int (b2i (va_up (sLo d0) w (!(sLo d0) w) w)))) (CW kp (kD d0 w) d1 (puK k) (puM k rm) (puR k rm R d0) cod len aw op fig pop pmk pen psts ptd t) := by
  refine Con.of (own := RX5) (by decide) rfl (Nat.le_of_ble_eq_true rfl) (Eq.trans (b := 95) rfl rfl) (fun B M => ?_)
  have hv := nI5 w h5
  have hc := cl5 w (by omega)
  have hs := c_switchClutch (sTe d0) (sTo d0) (sLo d0) (sCra d0) (sHa d0) (sHe d0) (nI w) hv
  rw [hc] at hs
  refine r_iload_n M dX5_clutch_0 rfl ?_
  refine r_S1ik M (c_isWheel _) lk_X5_97 dX5_clutch_1 (by decide +kernel) ⟨Nat.le_of_ble_eq_true rfl, Nat.le_of_ble_eq_true rfl⟩ ⟨rfl, rfl⟩ [] rfl (by decide +kernel) rfl (Nat.le_of_ble_eq_true rfl) ?_
  refine r_if_ne M 17 dX5_clutch_4 (by decide) (fun _ => ?_) (fun h9 => absurd h9 (by rw [iswh_iff.mpr hv]; decide))
  refine r_aload_n M dX5_clutch_17 rfl ?_
  refine r_get M fl_X5_26 dX5_clutch_18 rfl rfl ?_
  refine r_aload_n M dX5_clutch_21 rfl ?_
  refine r_get M fl_X5_10 dX5_clutch_22 rfl rfl ?_
  refine push_r kp d0 d1 rm R cod len aw op fig pop pmk pen psts ptd t M dX5_clutch_25 ⟨Nat.le_of_ble_eq_true rfl, Nat.le_of_ble_eq_true rfl⟩ (Nat.le_of_ble_eq_true rfl) hrm k hk ?_
  generalize puK k = k2 at M ⊢
  generalize puM k rm = m2 at M ⊢
  generalize puR k rm R d0 = R2 at M ⊢
  refine r_aload_n M dX5_clutch_28 rfl ?_
  refine r_get M fl_X5_10 dX5_clutch_29 rfl rfl ?_
  refine r_getN M fn_X5_62 dX5_clutch_32 rfl rfl ?_
  refine r_iload_n M dX5_clutch_35 rfl ?_
  refine r_V1vu (w' :=  CW kp (kD d0 w) d1 k2 m2 R2 cod len aw op fig pop pmk pen psts ptd t) M hs lk_X5_103 dX5_clutch_36 (by decide +kernel) ⟨Nat.le_of_ble_eq_true rfl, Nat.le_of_ble_eq_true rfl⟩ ⟨rfl, rfl⟩ [4, 5, 6, 7, 8, 9, 10] rfl rfl rfl (by decide +kernel) rfl (Nat.le_of_ble_eq_true rfl) rfl ?_
  refine r_aload_n M dX5_clutch_39 rfl ?_
  refine r_get M fl_X5_10 dX5_clutch_40 rfl rfl ?_
  refine r_getN M fn_X5_62 dX5_clutch_43 rfl rfl ?_
  refine r_getN M fn_X5_106 dX5_clutch_46 rfl rfl ?_
  refine r_iload_n M dX5_clutch_49 rfl ?_
  refine r_zald M dX5_clutch_50 rfl hv ?_
  rw [hc]
  refine r_S1ik M (c_toNumber _) lk_X5_77 dX5_clutch_51 (by decide +kernel) ⟨Nat.le_of_ble_eq_true rfl, Nat.le_of_ble_eq_true rfl⟩ ⟨rfl, rfl⟩ [] rfl (by decide +kernel) rfl (Nat.le_of_ble_eq_true rfl) ?_
  exact r_iret M dX5_clutch_54 rfl rfl rfl
def seD (d : SD) (x : Int32) : SD := (sTe d, sTo d, sLo d, sCra d, sHa d, sHe d, sSt d, sScn d, sSc d, sCr d, sLi d, sSf d, sSb d, x, sLa d)
theorem c_set (hrm : ∀ j, rm j < 6) (hk : k ≤ 6) (x : Int32) (hx : 0 ≤ x.toInt ∧ x.toInt ≤ 9) (hf : fltB (sTe d0) (sTo d0) (sLo d0) (sHe d0) 0 x = 0) : Con yX5_set cX5_set 3 (some .int) (rmk 6 150) [.ref 0, .int x] (CW kp d0 d1 k rm R cod len aw op fig pop pmk pen psts ptd t) (some (.int (sSe d0))) (CW kp (seD d0 x) d1 (puK k) (puM k rm) (puR k rm R d0) cod len aw op fig pop pmk pen psts ptd t) := by
  refine Con.of (own := RX5) (by decide) rfl (Nat.le_of_ble_eq_true rfl) (Eq.trans (b := 95) rfl rfl) (fun B M => ?_)
  refine r_iload_n M dX5_set_0 rfl ?_
  refine r_S1ik M (c_isHeight _) lk_X5_144 dX5_set_1 (by decide +kernel) ⟨Nat.le_of_ble_eq_true rfl, Nat.le_of_ble_eq_true rfl⟩ ⟨rfl, rfl⟩ [] rfl (by decide +kernel) rfl (Nat.le_of_ble_eq_true rfl) ?_
  refine r_if_ne M 17 dX5_set_4 (by decide) (fun _ => ?_) (fun h9 => absurd h9 (by rw [decide_eq_true hx]; decide))
  refine r_aload_n M dX5_set_17 rfl ?_
  refine r_get M fl_X5_10 dX5_set_18 rfl rfl ?_
  refine r_getN M fn_X5_62 dX5_set_21 rfl rfl ?_
  refine r_iconst M 0 dX5_set_24 (by decide) ?_
  refine r_iload_n M dX5_set_25 rfl ?_
  refine r_V2ik M (c_faultBehind (sTe d0) (sTo d0) (sLo d0) (sCra d0) (sHa d0) (sHe d0) _ _) lk_X5_128 dX5_set_26 (by decide +kernel) ⟨Nat.le_of_ble_eq_true rfl, Nat.le_of_ble_eq_true rfl⟩ ⟨rfl, rfl⟩ [4, 5, 6, 7, 8, 9, 10] rfl rfl rfl (by decide +kernel) rfl (Nat.le_of_ble_eq_true rfl) ?_
  refine r_if_eq M 42 dX5_set_29 (by decide) (fun _ => ?_) (fun h9 => absurd hf h9)
  refine r_aload_n M dX5_set_42 rfl ?_
  refine r_get M fl_X5_26 dX5_set_43 rfl rfl ?_
  refine r_aload_n M dX5_set_46 rfl ?_
  refine r_get M fl_X5_10 dX5_set_47 rfl rfl ?_
  refine push_r kp d0 d1 rm R cod len aw op fig pop pmk pen psts ptd t M dX5_set_50 ⟨Nat.le_of_ble_eq_true rfl, Nat.le_of_ble_eq_true rfl⟩ (Nat.le_of_ble_eq_true rfl) hrm k hk ?_
  generalize puK k = k2 at M ⊢
  generalize puM k rm = m2 at M ⊢
  generalize puR k rm R d0 = R2 at M ⊢
  refine r_aload_n M dX5_set_53 rfl ?_
  refine r_get M fl_X5_10 dX5_set_54 rfl rfl ?_
  refine r_getN M fn_X5_124 dX5_set_57 rfl rfl ?_
  refine r_istore_n M dX5_set_60 (by decide) ?_
  refine r_aload_n M dX5_set_61 rfl ?_
  refine r_get M fl_X5_10 dX5_set_62 rfl rfl ?_
  refine r_iload_n M dX5_set_65 rfl ?_
  refine r_putN M fn_X5_124 ff_2_8 dX5_set_66 rfl rfl rfl (fun _ => rfl) (Nat.le_of_ble_eq_true rfl) ?_
  refine r_iload_n M dX5_set_69 rfl ?_
  exact r_iret M dX5_set_70 rfl rfl rfl
end


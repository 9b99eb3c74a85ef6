section
variable (kp : Bool) (d0 d1 : SD) (k : Nat) (rm : Nat → Nat) (R : Nat → SD) (cod : Nat → Int32) (len aw op fig pop pmk pen : Int32) (psts ptd : Nat → Nat) (t : WD)
theorem c_lift (hrm : ∀ j, rm j < 6) (hk : k ≤ 6) : Con yX5_lift cX5_lift 2 (some .int) (rmk 4 105) [.ref 0] (CW kp d0 d1 k rm R cod len aw op fig pop pmk pen psts ptd t) (some (.int (b2i (cau (sSt d0) (sCr d0) (sLi d0))))) (CW kp (liD d0 true) d1 (puK k) (puM k rm) (puR k rm R d0) cod len aw op fig pop pmk pen psts ptd t) := by
  refine Con.of (own := RX5) (by decide) rfl (Nat.le_of_ble_eq_true rfl) (Eq.trans (b := 95) rfl rfl) (fun B M => ?_)
  refine r_aload_n M dX5_lift_0 rfl ?_
  refine r_get M fl_X5_26 dX5_lift_1 rfl rfl ?_
  refine r_aload_n M dX5_lift_4 rfl ?_
  refine r_get M fl_X5_10 dX5_lift_5 rfl rfl ?_
  refine push_r kp d0 d1 rm R cod len aw op fig pop pmk pen psts ptd t M dX5_lift_8 ⟨Nat.le_of_ble_eq_true rfl, Nat.le_of_ble_eq_true rfl⟩ (Nat.le_of_ble_eq_true rfl) hrm k hk ?_
  generalize puK k = k2 at M ⊢
  generalize puM k rm = m2 at M ⊢
  generalize puR k rm R d0 = R2 at M ⊢
  refine r_aload_n M dX5_lift_11 rfl ?_
  refine r_get M fl_X5_10 dX5_lift_12 rfl rfl ?_
  refine r_V0ik M (c_isCaught _ _ (sSc d0) (sCr d0) (sLi d0) (sSf d0) (sSb d0) (sSe d0) (sLa d0) (sSt d0)) lk_X5_73 dX5_lift_15 (by decide +kernel) ⟨Nat.le_of_ble_eq_true rfl, Nat.le_of_ble_eq_true rfl⟩ ⟨rfl, rfl⟩ [1, 2] rfl rfl rfl (by decide +kernel) rfl (Nat.le_of_ble_eq_true rfl) ?_
  refine r_S1ik M (c_toNumber _) lk_X5_77 dX5_lift_18 (by decide +kernel) ⟨Nat.le_of_ble_eq_true rfl, Nat.le_of_ble_eq_true rfl⟩ ⟨rfl, rfl⟩ [] rfl (by decide +kernel) rfl (Nat.le_of_ble_eq_true rfl) ?_
  refine r_istore_n M dX5_lift_21 (by decide) ?_
  refine r_aload_n M dX5_lift_22 rfl ?_
  refine r_get M fl_X5_10 dX5_lift_23 rfl rfl ?_
  refine r_iconst M 1 dX5_lift_26 (by decide) ?_
  refine r_putN M fn_X5_81 ff_2_5 dX5_lift_27 rfl rfl rfl (fun _ => rfl) (Nat.le_of_ble_eq_true rfl) ?_
  refine r_iload_n M dX5_lift_30 rfl ?_
  exact r_iret M dX5_lift_31 rfl rfl rfl
theorem c_keep : Con yX5_keep cX5_keep 1 (some .int) (rmk 3 84) [.ref 0] (CW kp d0 d1 k rm R cod len aw op fig pop pmk pen psts ptd t) (some (.int (sSc d0))) (CW true d0 d0 k rm R cod len aw op fig pop pmk pen psts ptd t) := by
  refine Con.of (own := RX5) (by decide) rfl (Nat.le_of_ble_eq_true rfl) (Eq.trans (b := 95) rfl rfl) (fun B M => ?_)
  refine r_aload_n M dX5_keep_0 rfl ?_
  refine r_get M fl_X5_16 dX5_keep_1 rfl rfl ?_
  refine r_aload_n M dX5_keep_4 rfl ?_
  refine r_get M fl_X5_10 dX5_keep_5 rfl rfl ?_
  refine r_V1vu (w' :=  CW kp d0 d0 k rm R cod len aw op fig pop pmk pen psts ptd t) M (c_scopy d1 d0) lk_X5_202 dX5_keep_8 (by decide +kernel) ⟨Nat.le_of_ble_eq_true rfl, Nat.le_of_ble_eq_true rfl⟩ ⟨rfl, rfl⟩ [11, 12, 13, 14, 15, 16, 17, 18, 19, 20, 1, 2, 3, 4, 5, 6, 7, 8, 9, 10] rfl rfl rfl (by decide +kernel) rfl (Nat.le_of_ble_eq_true rfl) rfl ?_
  refine r_aload_n M dX5_keep_11 rfl ?_
  refine r_iconst M 1 dX5_keep_12 (by decide) ?_
  refine r_put M fl_X5_19 ff_5_2 dX5_keep_13 rfl rfl rfl (fun _ => rfl) (Nat.le_of_ble_eq_true rfl) ?_
  refine r_aload_n M dX5_keep_16 rfl ?_
  refine r_get M fl_X5_10 dX5_keep_17 rfl rfl ?_
  refine r_getN M fn_X5_164 dX5_keep_20 rfl rfl ?_
  exact r_iret M dX5_keep_23 rfl rfl rfl
def stD (d : SD) (j : Nat) : SD := (sTe d, sTo d, sLo d, sCra d, sHa d, sHe d, va_up (sSt d) j (!(sSt d) j), sScn d, sSc d, sCr d, sLi d, sSf d, sSb d, sSe d, sLa d)
theorem c_stop (hrm : ∀ j, rm j < 6) (hk : k ≤ 6) (j : Nat) (hj : j < 60) : Con yX5_stop cX5_stop 2 (some .int) (rmk 6 150) [.ref 0, .int (nI j)] (CW kp d0 d1 k rm R cod len aw op fig pop pmk pen psts ptd t) (some (.int (sumf (fun i => b2i (va_up (sSt d0) j (!(sSt d0) j) i)) 60))) (CW kp (stD d0 j) d1 (puK k) (puM k rm) (puR k rm R d0) cod len aw op fig pop pmk pen psts ptd t) := by
  refine Con.of (own := RX5) (by decide) rfl (Nat.le_of_ble_eq_true rfl) (Eq.trans (b := 95) rfl rfl) (fun B M => ?_)
  have hv : vp_in (nI j) 60 := vp_in_nI hj (by omega)
  have hc := cl5 j (by omega)
  refine r_iload_n M dX5_stop_0 rfl ?_
  refine r_if_lt M 10 dX5_stop_1 (by decide) (fun h9 => absurd h9 (nI_pos (by omega))) (fun _ => ?_)
  refine r_iload_n M dX5_stop_4 rfl ?_
  refine r_bipush M 60 dX5_stop_5 (by decide) ?_
  refine r_icmp_lt M 20 dX5_stop_7 (by decide) (fun _ => ?_) (fun h9 => absurd ((nI_ltI (b := 60) (by omega) (by omega)).mpr hj) h9)
  refine r_aload_n M dX5_stop_20 rfl ?_
  refine r_get M fl_X5_26 dX5_stop_21 rfl rfl ?_
  refine r_aload_n M dX5_stop_24 rfl ?_
  refine r_get M fl_X5_10 dX5_stop_25 rfl rfl ?_
  refine push_r kp d0 d1 rm R cod len aw op fig pop pmk pen psts ptd t M dX5_stop_28 ⟨Nat.le_of_ble_eq_true rfl, Nat.le_of_ble_eq_true rfl⟩ (Nat.le_of_ble_eq_true rfl) hrm k hk ?_
  generalize puK k = k2 at M ⊢
  generalize puM k rm = m2 at M ⊢
  generalize puR k rm R d0 = R2 at M ⊢
  have go : ∀ b : Bool, b = (!(sSt d0) j) → B 56 [(0, .ref 0), (1, .int (nI j))] [.int (b2i b), .int (nI j), .ref 2] (CW kp d0 d1 k2 m2 R2 cod len aw op fig pop pmk pen psts ptd t) := by
    intro b hb
    refine r_zast M dX5_stop_56 rfl hv (b2i_nar b) ?_
    rw [hc, b2i_upd, hb]
    refine r_aload_n M dX5_stop_57 rfl ?_
    refine r_get M fl_X5_10 dX5_stop_58 rfl rfl ?_
    refine r_V0ik M (c_countStops _ _ (sSc d0) (sCr d0) (sLi d0) (sSf d0) (sSb d0) (sSe d0) (sLa d0) (va_up (sSt d0) j (!(sSt d0) j))) lk_X5_93 dX5_stop_61 (by decide +kernel) ⟨Nat.le_of_ble_eq_true rfl, Nat.le_of_ble_eq_true rfl⟩ ⟨rfl, rfl⟩ [1, 2] rfl rfl rfl (by decide +kernel) rfl (Nat.le_of_ble_eq_true rfl) ?_
    exact r_iret M dX5_stop_64 rfl rfl rfl
  refine r_aload_n M dX5_stop_31 rfl ?_
  refine r_get M fl_X5_10 dX5_stop_32 rfl rfl ?_
  refine r_getN M fn_X5_89 dX5_stop_35 rfl rfl ?_
  refine r_iload_n M dX5_stop_38 rfl ?_
  refine r_aload_n M dX5_stop_39 rfl ?_
  refine r_get M fl_X5_10 dX5_stop_40 rfl rfl ?_
  refine r_getN M fn_X5_89 dX5_stop_43 rfl rfl ?_
  refine r_iload_n M dX5_stop_46 rfl ?_
  refine r_zald M dX5_stop_47 rfl hv ?_
  rw [hc]
  cases hb : sSt d0 j
  · refine r_if_ne M 55 dX5_stop_48 (by decide) (fun h9 => absurd (show b2i (sSt d0 j) = 0 by rw [hb]; rfl) h9) (fun _ => ?_)
    refine r_iconst M 1 dX5_stop_51 (by decide) ?_
    refine r_goto M 56 dX5_stop_52 (by decide) ?_
    exact go true (by rw [hb]; rfl)
  · refine r_if_ne M 55 dX5_stop_48 (by decide) (fun _ => ?_) (fun h9 => absurd h9 (show ¬ b2i (sSt d0 j) = 0 by rw [hb]; decide))
    refine r_iconst M 0 dX5_stop_55 (by decide) ?_
    exact go false (by rw [hb]; rfl)
end


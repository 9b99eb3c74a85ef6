theorem clE_mono {n m : Nat} (h : n ≤ m) {e : va_E} (hc : clE n e) : clE m e := by
  rcases e with ⟨t, k, x⟩ | ⟨c, fs⟩
  · rcases x with x | x | x | x | x
    · trivial
    · trivial
    · trivial
    · trivial
    · exact fun j k hk => Nat.lt_of_lt_of_le (hc j k hk) h
  · exact fun v hv k hk => Nat.lt_of_lt_of_le (hc v hv k hk) h
theorem clE_sh {a n : Nat} {e : va_E} (hc : clE n e) : clE (a + n) (ne (fun t => t) (fun k => a + k) e) := by
  rcases e with ⟨t, k, x⟩ | ⟨c, fs⟩
  · rcases x with x | x | x | x | x
    · trivial
    · trivial
    · trivial
    · trivial
    · intro j k hk
      cases hx : x j with
      | none => have hk : Option.map (fun k => a + k) (x j) = some k := hk; rw [hx] at hk; cases hk
      | some i =>
        have hk : Option.map (fun k => a + k) (x j) = some k := hk
        rw [hx] at hk
        cases hk
        have := hc j i hx
        show a + i < a + n
        omega
  · intro v hv k hk
    obtain ⟨u, hu, hv⟩ := List.mem_map.mp hv
    subst hv
    cases u with
    | ref i =>
      have h8 : i < n := hc _ hu i rfl
      cases hk
      exact Nat.add_lt_add_left h8 a
    | _ => cases hk
theorem clW_shn {a c n : Nat} (hn : a + c ≤ n) : ∀ {w : List va_E}, clW c w → clW n (shn a w)
  | [], _ => trivial
  | _ :: t, h => ⟨clE_mono hn (clE_sh h.1), clW_shn hn (w := t) h.2⟩
abbrev E5 (a b d t p w : Value) : List va_E := [.inr (5, [a, b, .int 0, d, t, p, w])]
abbrev T0w : WD := (lt0 teeth0 5, z0, lb0 5, z0, z0, lt0 he0 60)
/-- the new theatre -/
abbrev CW0 : List va_E := CW false D0 D0 0 rmz (fun _ => D0) z0 0 0 0 0 0 0 0 (fun _ => 0) (fun _ => 0) T0w
abbrev S1w : List va_E := shn 1 (SWd 0 D0)
abbrev S11w : List va_E := shn 11 (SWd 0 D0)
abbrev H21w : List va_E := shn 21 HW1
abbrev T83w : List va_E := shn 83 (TW z0 0 0 0 0)
abbrev P85w : List va_E := shn 85 (PW 0 0 0 (fun _ => 0) (fun _ => 0))
abbrev W88w : List va_E := shn 88 (W4 5 5 60)
theorem cw0_eq : E5 (.ref 1) (.ref 11) (.ref 21) (.ref 83) (.ref 85) (.ref 88) ++ S1w ++ S11w ++ H21w ++ T83w ++ P85w ++ W88w = CW0 := by
  have h : (fun j => Option.map (fun k => 21 + k) (some (2 + 10 * rmz j))) = fun j => some (23 + 10 * rmz j) := by
    funext j
    show some (21 + (2 + 10 * rmz j)) = _
    rw [show 21 + (2 + 10 * rmz j) = 23 + 10 * rmz j by omega]
  show CWf false D0 D0 0 (fun j => Option.map (fun k => 21 + k) (some (2 + 10 * rmz j))) (fun _ => D0) z0 0 0 0 0 0 0 0 (fun _ => 0) (fun _ => 0) T0w = _
  rw [h]
theorem cw0_cl : clW 95 CW0 := cw_cl _ _ _ _ _ _ _ _ _ _ _ _ _ _ _ _ _ rmz_lt
theorem clS : clW 10 (SWd 0 D0) := n_X2.1.1
set_option maxRecDepth 20000 in
theorem n_X5 : ConN yX5_init cX5_init 1 (rmn 5 94 1703 104) (.inr (5, F5s)) CW0 := by
  refine ConN.of (own := RX5) (by decide) rfl rfl (Nat.le_of_ble_eq_true rfl) (fun _ _ => rfl) ⟨cw0_cl, by decide⟩ fun B M => ?_
  refine g_aload_n M dX5_init_0 rfl ?_
  refine n_obj M on_X5 on_i on_c dX5_init_1 ⟨Nat.le_of_ble_eq_true rfl, Nat.le_of_ble_eq_true rfl⟩ ?_
  refine g_aload_n M dX5_init_4 rfl ?_
  refine n_mkIN M xn_z nd_X5_7 n_X2 lk_X5_9 ln_X5_9 dX5_init_5 dX5_init_8 dX5_init_9 rfl ⟨by decide, by decide, by decide +kernel⟩ ⟨Nat.le_of_ble_eq_true rfl, Nat.le_of_ble_eq_true rfl⟩ ⟨Nat.le_of_ble_eq_true rfl, Nat.le_of_ble_eq_true rfl⟩ ⟨(by repeat' (first | exact clW_n | exact clE_i | exact clE_l | exact clE_r rfl | refine clW_c ?_ ?_)), rfl, rfl, Nat.le_of_ble_eq_true rfl⟩ (Nat.le_of_ble_eq_true rfl) (xn_k (Nat.le_of_ble_eq_true rfl)) (fun B M => ?_)
  refine n_putF M xn_i fl_X5_10 (fun C T N h => by cases h; exact ⟨rfl, rfl⟩) dX5_init_12 rfl (fun _ => rfl) (fun _ => rfl) (Nat.le_of_ble_eq_true rfl) ?_
  show B 15 [(0, .ref 0)] [] (E5 (.ref 1) .null .null .null .null .null ++ S1w)
  refine g_aload_n M dX5_init_15 rfl ?_
  refine n_mkIN M xn_z nd_X5_7 n_X2 lk_X5_9 ln_X5_9 dX5_init_16 dX5_init_19 dX5_init_20 rfl ⟨by decide, by decide, by decide +kernel⟩ ⟨Nat.le_of_ble_eq_true rfl, Nat.le_of_ble_eq_true rfl⟩ ⟨Nat.le_of_ble_eq_true rfl, Nat.le_of_ble_eq_true rfl⟩ ⟨(clW_app (clW_c (clE_r rfl) clW_n) (clW_shn (Nat.le_of_ble_eq_true rfl) clS)), rfl, rfl, Nat.le_of_ble_eq_true rfl⟩ (Nat.le_of_ble_eq_true rfl) (xn_k (Nat.le_of_ble_eq_true rfl)) (fun B M => ?_)
  refine n_putF M xn_i fl_X5_16 (fun C T N h => by cases h; exact ⟨rfl, rfl⟩) dX5_init_23 rfl (fun _ => rfl) (fun _ => rfl) (Nat.le_of_ble_eq_true rfl) ?_
  show B 26 [(0, .ref 0)] [] (E5 (.ref 1) (.ref 11) .null .null .null .null ++ S1w ++ S11w)
  refine g_aload_n M dX5_init_26 rfl ?_
  refine g_iconst M 0 dX5_init_27 (by decide) ?_
  refine g_put M fl_X5_19 ff_5_2 dX5_init_28 rfl rfl rfl (fun _ => rfl) (Nat.le_of_ble_eq_true rfl) ?_
  show B 31 [(0, .ref 0)] [] (E5 (.ref 1) (.ref 11) .null .null .null .null ++ S1w ++ S11w)
  refine g_aload_n M dX5_init_31 rfl ?_
  refine n_mkI M xn_z nd_X5_23 n_X0 lk_X5_25 dX5_init_32 dX5_init_35 dX5_init_36 rfl ⟨by decide, by decide, by decide +kernel⟩ ⟨Nat.le_of_ble_eq_true rfl, Nat.le_of_ble_eq_true rfl⟩ ⟨Nat.le_of_ble_eq_true rfl, Nat.le_of_ble_eq_true rfl⟩ ⟨(clW_app (clW_app (clW_c (clE_r rfl) clW_n) (clW_shn (Nat.le_of_ble_eq_true rfl) clS)) (clW_shn (Nat.le_of_ble_eq_true rfl) clS)), rfl, rfl, Nat.le_of_ble_eq_true rfl⟩ (Nat.le_of_ble_eq_true rfl) (xn_k (Nat.le_of_ble_eq_true rfl)) (fun B M => ?_)
  refine n_putF M xn_i fl_X5_26 (fun C T N h => by cases h; exact ⟨rfl, rfl⟩) dX5_init_39 rfl (fun _ => rfl) (fun _ => rfl) (Nat.le_of_ble_eq_true rfl) ?_
  show B 42 [(0, .ref 0)] [] (E5 (.ref 1) (.ref 11) (.ref 21) .null .null .null ++ S1w ++ S11w ++ H21w)
  refine g_aload_n M dX5_init_42 rfl ?_
  refine n_mkIN M xn_z nd_X5_30 n_X3 lk_X5_32 ln_X5_32 dX5_init_43 dX5_init_46 dX5_init_47 rfl ⟨by decide, by decide, by decide +kernel⟩ ⟨Nat.le_of_ble_eq_true rfl, Nat.le_of_ble_eq_true rfl⟩ ⟨Nat.le_of_ble_eq_true rfl, Nat.le_of_ble_eq_true rfl⟩ ⟨(clW_app (clW_app (clW_app (clW_c (clE_r rfl) clW_n) (clW_shn (Nat.le_of_ble_eq_true rfl) clS)) (clW_shn (Nat.le_of_ble_eq_true rfl) clS)) (clW_shn (Nat.le_of_ble_eq_true rfl) hw1_cl)), rfl, rfl, Nat.le_of_ble_eq_true rfl⟩ (Nat.le_of_ble_eq_true rfl) (xn_k (Nat.le_of_ble_eq_true rfl)) (fun B M => ?_)
  refine n_putF M xn_i fl_X5_33 (fun C T N h => by cases h; exact ⟨rfl, rfl⟩) dX5_init_50 rfl (fun _ => rfl) (fun _ => rfl) (Nat.le_of_ble_eq_true rfl) ?_
  show B 53 [(0, .ref 0)] [] (E5 (.ref 1) (.ref 11) (.ref 21) (.ref 83) .null .null ++ S1w ++ S11w ++ H21w ++ T83w)
  refine g_aload_n M dX5_init_53 rfl ?_
  refine n_mkIN M xn_z nd_X5_37 n_X1 lk_X5_39 ln_X5_39 dX5_init_54 dX5_init_57 dX5_init_58 rfl ⟨by decide, by decide, by decide +kernel⟩ ⟨Nat.le_of_ble_eq_true rfl, Nat.le_of_ble_eq_true rfl⟩ ⟨Nat.le_of_ble_eq_true rfl, Nat.le_of_ble_eq_true rfl⟩ ⟨(clW_app (clW_app (clW_app (clW_app (clW_c (clE_r rfl) clW_n) (clW_shn (Nat.le_of_ble_eq_true rfl) clS)) (clW_shn (Nat.le_of_ble_eq_true rfl) clS)) (clW_shn (Nat.le_of_ble_eq_true rfl) hw1_cl)) (clW_shn (Nat.le_of_ble_eq_true rfl) n_X3.1.1)), rfl, rfl, Nat.le_of_ble_eq_true rfl⟩ (Nat.le_of_ble_eq_true rfl) (xn_k (Nat.le_of_ble_eq_true rfl)) (fun B M => ?_)
  refine n_putF M xn_i fl_X5_40 (fun C T N h => by cases h; exact ⟨rfl, rfl⟩) dX5_init_61 rfl (fun _ => rfl) (fun _ => rfl) (Nat.le_of_ble_eq_true rfl) ?_
  show B 64 [(0, .ref 0)] [] (E5 (.ref 1) (.ref 11) (.ref 21) (.ref 83) (.ref 85) .null ++ S1w ++ S11w ++ H21w ++ T83w ++ P85w)
  refine g_aload_n M dX5_init_64 rfl ?_
  refine n_mkI M xn_z nd_X5_44 n_X4 lk_X5_46 dX5_init_65 dX5_init_68 dX5_init_69 rfl ⟨by decide, by decide, by decide +kernel⟩ ⟨Nat.le_of_ble_eq_true rfl, Nat.le_of_ble_eq_true rfl⟩ ⟨Nat.le_of_ble_eq_true rfl, Nat.le_of_ble_eq_true rfl⟩ ⟨(clW_app (clW_app (clW_app (clW_app (clW_app (clW_c (clE_r rfl) clW_n) (clW_shn (Nat.le_of_ble_eq_true rfl) clS)) (clW_shn (Nat.le_of_ble_eq_true rfl) clS)) (clW_shn (Nat.le_of_ble_eq_true rfl) hw1_cl)) (clW_shn (Nat.le_of_ble_eq_true rfl) n_X3.1.1)) (clW_shn (Nat.le_of_ble_eq_true rfl) n_X1.1.1)), rfl, rfl, Nat.le_of_ble_eq_true rfl⟩ (Nat.le_of_ble_eq_true rfl) (xn_k (Nat.le_of_ble_eq_true rfl)) (fun B M => ?_)
  refine n_putF M xn_i fl_X5_47 (fun C T N h => by cases h; exact ⟨rfl, rfl⟩) dX5_init_72 rfl (fun _ => rfl) (fun _ => rfl) (Nat.le_of_ble_eq_true rfl) ?_
  show B 75 [(0, .ref 0)] [] (E5 (.ref 1) (.ref 11) (.ref 21) (.ref 83) (.ref 85) (.ref 88) ++ S1w ++ S11w ++ H21w ++ T83w ++ P85w ++ W88w)
  exact n_ret M dX5_init_75 rfl cw0_eq


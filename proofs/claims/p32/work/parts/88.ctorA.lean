theorem aw_int : Cond.arrayClass .int ∈ GW := gw1 69 (by decide +kernel) (by decide +kernel)
theorem aw_boolean : Cond.arrayClass .boolean ∈ GW := gw1 70 (by decide +kernel) (by decide +kernel)
theorem on_i : Cond.instanceMethod Lib.objectInit ∈ GW := gw1 26 (by decide +kernel) (by decide +kernel)
theorem on_c : Cond.code Lib.objectInit ⟨#[0xb1]⟩ 1 none ∈ GW := gw1 27 (by decide +kernel) (by decide +kernel)
theorem on_X5 : Cond.methodLink RX5 1 Lib.objectInit ∈ GW := gw1 25 (by decide +kernel) (by decide +kernel)
theorem on_X2 : Cond.methodLink RX2 3 Lib.objectInit ∈ GW := gw1 33 (by decide +kernel) (by decide +kernel)
theorem on_X4 : Cond.methodLink RX4 3 Lib.objectInit ∈ GW := gw1 39 (by decide +kernel) (by decide +kernel)
theorem on_X0 : Cond.methodLink RX0 3 Lib.objectInit ∈ GW := gw1 116 (by decide +kernel) (by decide +kernel)
theorem on_X3 : Cond.methodLink RX3 3 Lib.objectInit ∈ GW := gw1 133 (by decide +kernel) (by decide +kernel)
theorem on_X1 : Cond.methodLink RX1 3 Lib.objectInit ∈ GW := gw1 151 (by decide +kernel) (by decide +kernel)
theorem cl_X0_9 : Cond.classLink RX0 9 SNm ∈ GW := gw1 117 (by decide +kernel) (by decide +kernel)
abbrev F0s : List Value := [.null, .int 0]
abbrev F1s : List Value := [.null, .null, .int 0, .int 0, .int 0]
abbrev F2s : List Value := [.null, .null, .null, .int 0, .int 0, .int 0, .int 0, .int 0, .int 0, .int 0]
abbrev F3s : List Value := [.null, .int 0, .int 0, .int 0, .int 0]
abbrev F4s : List Value := [.null, .null, .null, .null, .null, .null]
abbrev F5s : List Value := [.null, .null, .int 0, .null, .null, .null, .null]
theorem nd_X5_7 : NWd RX5 7 2 F2s := ⟨RX2, TX2, 10, tyX2, rfl, inG2, tyX2_ok, (fun j hj => by
  have : j = 0 ∨ j = 1 ∨ j = 2 ∨ j = 3 ∨ j = 4 ∨ j = 5 ∨ j = 6 ∨ j = 7 ∨ j = 8 ∨ j = 9 := by omega
  rcases this with rfl | rfl | rfl | rfl | rfl | rfl | rfl | rfl | rfl | rfl <;> rfl), gw1 28 (by decide +kernel) (by decide +kernel), gw1 29 (by decide +kernel) (by decide +kernel), gw1 8 (by decide +kernel) (by decide +kernel), rfl⟩
theorem nd_X2_9 : NWd RX2 9 4 F4s := ⟨RX4, TX4, 6, tyX4, rfl, inG4, tyX4_ok, (fun j hj => by
  have : j = 0 ∨ j = 1 ∨ j = 2 ∨ j = 3 ∨ j = 4 ∨ j = 5 := by omega
  rcases this with rfl | rfl | rfl | rfl | rfl | rfl <;> rfl), gw1 34 (by decide +kernel) (by decide +kernel), gw1 35 (by decide +kernel) (by decide +kernel), gw1 9 (by decide +kernel) (by decide +kernel), rfl⟩
theorem nd_X5_23 : NWd RX5 23 0 F0s := ⟨RX0, TX0, 2, tyX0, rfl, inG0, tyX0_ok, (fun j hj => by
  have : j = 0 ∨ j = 1 := by omega
  rcases this with rfl | rfl <;> rfl), gw1 111 (by decide +kernel) (by decide +kernel), gw1 112 (by decide +kernel) (by decide +kernel), gw1 10 (by decide +kernel) (by decide +kernel), rfl⟩
theorem nd_X0_9 : NWd RX0 9 2 F2s := ⟨RX2, TX2, 10, tyX2, rfl, inG2, tyX2_ok, (fun j hj => by
  have : j = 0 ∨ j = 1 ∨ j = 2 ∨ j = 3 ∨ j = 4 ∨ j = 5 ∨ j = 6 ∨ j = 7 ∨ j = 8 ∨ j = 9 := by omega
  rcases this with rfl | rfl | rfl | rfl | rfl | rfl | rfl | rfl | rfl | rfl <;> rfl), gw1 117 (by decide +kernel) (by decide +kernel), gw1 29 (by decide +kernel) (by decide +kernel), gw1 8 (by decide +kernel) (by decide +kernel), rfl⟩
theorem nd_X5_30 : NWd RX5 30 3 F3s := ⟨RX3, TX3, 5, tyX3, rfl, inG3, tyX3_ok, (fun j hj => by
  have : j = 0 ∨ j = 1 ∨ j = 2 ∨ j = 3 ∨ j = 4 := by omega
  rcases this with rfl | rfl | rfl | rfl | rfl <;> rfl), gw1 128 (by decide +kernel) (by decide +kernel), gw1 129 (by decide +kernel) (by decide +kernel), gw1 11 (by decide +kernel) (by decide +kernel), rfl⟩
theorem nd_X5_37 : NWd RX5 37 1 F1s := ⟨RX1, TX1, 5, tyX1, rfl, inG1, tyX1_ok, (fun j hj => by
  have : j = 0 ∨ j = 1 ∨ j = 2 ∨ j = 3 ∨ j = 4 := by omega
  rcases this with rfl | rfl | rfl | rfl | rfl <;> rfl), gw1 146 (by decide +kernel) (by decide +kernel), gw1 147 (by decide +kernel) (by decide +kernel), gw1 12 (by decide +kernel) (by decide +kernel), rfl⟩
theorem nd_X5_44 : NWd RX5 44 4 F4s := ⟨RX4, TX4, 6, tyX4, rfl, inG4, tyX4_ok, (fun j hj => by
  have : j = 0 ∨ j = 1 ∨ j = 2 ∨ j = 3 ∨ j = 4 ∨ j = 5 := by omega
  rcases this with rfl | rfl | rfl | rfl | rfl | rfl <;> rfl), gw1 165 (by decide +kernel) (by decide +kernel), gw1 35 (by decide +kernel) (by decide +kernel), gw1 9 (by decide +kernel) (by decide +kernel), rfl⟩
abbrev z0 : Nat → Int32 := fun _ => 0
def lt0 (f : Nat → Int32) (i : Nat) (j : Nat) : Int32 := if j < i then f j else 0
theorem lt0_upd (f : Nat → Int32) (i : Nat) (x : Int32) (hx : x = f i) : upd (lt0 f i) i x = lt0 f (i + 1) := by
  subst hx
  funext j
  by_cases h : j = i
  · subst h; rw [pk_us]; unfold lt0; rw [if_pos (by omega)]
  · rw [pk_un h]; unfold lt0
    by_cases h2 : j < i
    · rw [if_pos h2, if_pos (by omega)]
    · rw [if_neg h2, if_neg (by omega)]
theorem lt0_0 (f : Nat → Int32) : lt0 f 0 = z0 := by
  funext j; unfold lt0; rw [if_neg (by omega)]
theorem n_X3 : ConN yX3_init cX3_init 1 (rmn 1 1 60 20) (.inr (3, F3s)) (TW z0 0 0 0 0) := by
  refine ConN.of (own := RX3) (by decide) rfl rfl (Nat.le_of_ble_eq_true rfl) (fun _ _ => rfl) ⟨(by repeat' (first | exact clW_n | exact clE_i | exact clE_l | exact clE_r rfl | refine clW_c ?_ ?_)), by decide⟩ fun B M => ?_
  refine g_aload_n M dX3_init_0 rfl ?_
  refine n_obj M on_X3 on_i on_c dX3_init_1 ⟨Nat.le_of_ble_eq_true rfl, Nat.le_of_ble_eq_true rfl⟩ ?_
  refine g_aload_n M dX3_init_4 rfl ?_
  refine g_bipush M 60 dX3_init_5 (by decide) ?_
  refine n_newa (atype := .int) (ty := .int) (t0 := 0) (N' := 60) (a0 := (60, .inl (fun _ => 0))) M rfl (Or.inl rfl) aw_int (fun _ => rfl) (fun _ => rfl) (fun _ _ => rfl) (by decide) rfl (Nat.le_of_ble_eq_true rfl) ⟨Nat.le_of_ble_eq_true rfl, Nat.le_of_ble_eq_true rfl⟩ dX3_init_7 ⟨(by repeat' (first | exact clW_n | exact clE_i | exact clE_l | exact clE_r rfl | refine clW_c ?_ ?_)), rfl, rfl, Nat.le_of_ble_eq_true rfl⟩ (xn_k (Nat.le_of_ble_eq_true rfl)) (fun B M => ?_)
  refine n_putF M xn_i fl_X3_9 (fun C T N h => by cases h; exact ⟨rfl, rfl⟩) dX3_init_9 rfl (fun _ => rfl) (fun _ => rfl) (Nat.le_of_ble_eq_true rfl) ?_
  exact n_ret M dX3_init_12 rfl rfl
theorem n_X1 : ConN yX1_init cX1_init 1 (rmn 1 2 6 20) (.inr (1, F1s)) (PW 0 0 0 (fun _ => 0) (fun _ => 0)) := by
  refine ConN.of (own := RX1) (by decide) rfl rfl (Nat.le_of_ble_eq_true rfl) (fun _ _ => rfl) ⟨(by repeat' (first | exact clW_n | exact clE_i | exact clE_l | exact clE_r rfl | refine clW_c ?_ ?_)), by decide⟩ fun B M => ?_
  refine g_aload_n M dX1_init_0 rfl ?_
  refine n_obj M on_X1 on_i on_c dX1_init_1 ⟨Nat.le_of_ble_eq_true rfl, Nat.le_of_ble_eq_true rfl⟩ ?_
  refine g_aload_n M dX1_init_4 rfl ?_
  refine g_iconst M 3 dX1_init_5 (by decide) ?_
  refine n_newa (atype := .int) (ty := .int) (t0 := 0) (N' := 3) (a0 := (3, .inl (fun _ => 0))) M rfl (Or.inl rfl) aw_int (fun _ => rfl) (fun _ => rfl) (fun _ _ => rfl) (by decide) rfl (Nat.le_of_ble_eq_true rfl) ⟨Nat.le_of_ble_eq_true rfl, Nat.le_of_ble_eq_true rfl⟩ dX1_init_6 ⟨(by repeat' (first | exact clW_n | exact clE_i | exact clE_l | exact clE_r rfl | refine clW_c ?_ ?_)), rfl, rfl, Nat.le_of_ble_eq_true rfl⟩ (xn_k (Nat.le_of_ble_eq_true rfl)) (fun B M => ?_)
  refine n_putF M xn_i fl_X1_9 (fun C T N h => by cases h; exact ⟨rfl, rfl⟩) dX1_init_8 rfl (fun _ => rfl) (fun _ => rfl) (Nat.le_of_ble_eq_true rfl) ?_
  refine g_aload_n M dX1_init_11 rfl ?_
  refine g_iconst M 3 dX1_init_12 (by decide) ?_
  refine n_newa (atype := .int) (ty := .int) (t0 := 0) (N' := 3) (a0 := (3, .inl (fun _ => 0))) M rfl (Or.inl rfl) aw_int (fun _ => rfl) (fun _ => rfl) (fun _ _ => rfl) (by decide) rfl (Nat.le_of_ble_eq_true rfl) ⟨Nat.le_of_ble_eq_true rfl, Nat.le_of_ble_eq_true rfl⟩ dX1_init_13 ⟨(by repeat' (first | exact clW_n | exact clE_i | exact clE_l | exact clE_r rfl | refine clW_c ?_ ?_)), rfl, rfl, Nat.le_of_ble_eq_true rfl⟩ (xn_k (Nat.le_of_ble_eq_true rfl)) (fun B M => ?_)
  refine n_putF M xn_i fl_X1_15 (fun C T N h => by cases h; exact ⟨rfl, rfl⟩) dX1_init_15 rfl (fun _ => rfl) (fun _ => rfl) (Nat.le_of_ble_eq_true rfl) ?_
  exact n_ret M dX1_init_18 rfl rfl


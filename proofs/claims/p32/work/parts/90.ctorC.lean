theorem arr_eqq (cA : ClassId) (n : Nat) {f g : Nat → Option Nat} (h : ∀ j, j < n → f j = g j) : vp_cell cA (n, .inr (.inr (.inr (.inr f)))) = vp_cell cA (n, .inr (.inr (.inr (.inr g)))) := by
  show arrV cA n (fun j => va_rf (f j)) = arrV cA n (fun j => va_rf (g j))
  simp only [arrV]
  congr 1
  apply Array.ext
  · simp
  · intro i h1 h2
    simp only [Array.getElem_ofFn]
    rw [h i (by simpa using h1)]
theorem n_arrq {own : String} {cc : ByteArray} {nL : Nat} {ret : Option FieldType} {rm : Room} {k9 n9 : Nat} {X : XT} {B : KT} (M : MG own cc nL ret rm k9 n9 X B) {pc : Nat} {lv : List (Nat × Value)} {st : List Value} {w : List va_E} (q : Nat) {t n : Nat} {f : Nat → Option Nat} (g : Nat → Option Nat) (he : w[q]? = some (.inl (t, n, .inr (.inr (.inr (.inr f)))))) (h : ∀ j, j < n → f j = g j) (k : B pc lv st (w.set q (.inl (t, n, .inr (.inr (.inr (.inr g))))))) : B pc lv st w := by
  obtain ⟨p, l, e, s, m, args, below, meth, c, D, dA, ad, A, Q, rfl, hx, hb, hml, hr, hts, hown, hlocks, hK, hkn, hA, hX⟩ := M
  intro H locs ls hl hP hD hS
  have hw : (nw dA ad w).set q (ad q, .inl (dA t, n, .inr (.inr (.inr (.inr (fun j => (g j).map ad)))))) = nw dA ad (w.set q (.inl (t, n, .inr (.inr (.inr (.inr g)))))) := by
    rw [← nw_set]; rfl
  have h1 := nw_get (dA := dA) (ad := ad) he
  have h2 : H[ad q]? = some (vp_cell (dA t) (n, .inr (.inr (.inr (.inr (fun j => (f j).map ad)))))) := hP q _ h1
  have h3 : va_at D vwCl (ad q, .inl (dA t, n, .inr (.inr (.inr (.inr (fun j => (g j).map ad)))))) H := by
    show H[ad q]? = some (vp_cell (dA t) (n, .inr (.inr (.inr (.inr (fun j => (g j).map ad))))))
    rw [← arr_eqq (f := fun j => (f j).map ad) _ n (fun j hj => by show (f j).map ad = (g j).map ad; rw [h j hj])]
    exact h2
  refine k H locs ls hl (by rw [← hw]; exact hP.set hD h1 h3 (fun _ _ => rfl)) (by rw [← hw]; exact hD.set h1) hS
def rmz (j : Nat) : Nat := if j < 6 then j else 0
theorem rmz_lt (j : Nat) : rmz j < 6 := by unfold rmz; split <;> omega
def rq0 (i : Nat) (j : Nat) : Option Nat := if j < i then some (2 + 10 * j) else none
theorem rq0_0 : rq0 0 = fun _ => none := by funext j; unfold rq0; rw [if_neg (by omega)]
theorem rq0_up (i : Nat) : va_up (rq0 i) i (some (2 + 10 * i)) = rq0 (i + 1) := by
  funext j
  unfold va_up rq0
  by_cases h : j = i
  · subst h; rw [if_pos rfl, if_pos (by omega)]
  · rw [if_neg h]
    by_cases h2 : j < i
    · rw [if_pos h2, if_pos (by omega)]
    · rw [if_neg h2, if_neg (by omega)]
/-- the history's cells with i rooms made -/
def HWp (i : Nat) : List va_E := .inr (0, [.ref 1, .int 0]) :: .inl (3, 6, .inr (.inr (.inr (.inr (rq0 i))))) :: match i with
  | 0 => []
  | 1 => SWd 2 D0
  | 2 => SWd 2 D0 ++ SWd 12 D0
  | 3 => SWd 2 D0 ++ (SWd 12 D0 ++ SWd 22 D0)
  | 4 => SWd 2 D0 ++ (SWd 12 D0 ++ (SWd 22 D0 ++ SWd 32 D0))
  | 5 => SWd 2 D0 ++ (SWd 12 D0 ++ (SWd 22 D0 ++ (SWd 32 D0 ++ SWd 42 D0)))
  | _ => SWd 2 D0 ++ (SWd 12 D0 ++ (SWd 22 D0 ++ (SWd 32 D0 ++ (SWd 42 D0 ++ SWd 52 D0))))
abbrev HW1 : List va_E := HW 0 (fun j => some (2 + 10 * rmz j)) (fun _ => D0)
theorem hw1_cl : clW HW1.length HW1 := by
  show clW 62 HW1
  repeat' (first | exact clW_n | refine clW_c ?_ ?_)
  all_goals (first | exact clE_i | exact clE_r rfl | exact clE_f (fun j k h => by cases h; have := rmz_lt j; omega))
theorem X0_0 {k9 n9 : Nat} {B : KT} (M : MG RX0 cX0_init 2 none (rmn 4 61 1152 83) k9 n9 (XN 61 1152 HW1) B) (hk : k9 + 10 ≤ 61 ∧ n9 + 191 ≤ 1152) (kk : ∀ B', MG RX0 cX0_init 2 none (rmn 4 61 1152 83) (k9 + 10) (n9 + 191) (XN 61 1152 HW1) B' → B' 15 [(0, .ref 0), (1, .int (nI 1))] [] (HWp 1)) : B 15 [(0, .ref 0), (1, .int (nI 0))] [] (HWp 0) := by
  refine g_iload_n M dX0_init_15 rfl ?_
  refine g_bipush M 6 dX0_init_16 (by decide) ?_
  refine g_icmp_ge M 40 dX0_init_18 (by decide) (fun h9 => absurd h9 (by decide)) (fun _ => ?_)
  refine g_aload_n M dX0_init_21 rfl ?_
  refine g_get M fl_X0_11 dX0_init_22 rfl rfl ?_
  refine g_iload_n M dX0_init_25 rfl ?_
  refine n_mkIN M xn_z nd_X0_9 n_X2 lk_X0_17 ln_X0_17 dX0_init_26 dX0_init_29 dX0_init_30 rfl ⟨by decide, by decide, by decide +kernel⟩ ⟨Nat.le_of_ble_eq_true rfl, Nat.le_of_ble_eq_true rfl⟩ ⟨by show k9 + 1 + 9 ≤ 61; omega, by show n9 + 10 + 181 ≤ 1152; omega⟩ ⟨(by
    unfold HWp
    repeat' (first | exact clW_n | refine clW_c ?_ ?_)
    all_goals (first | exact clE_i | exact clE_r rfl | exact clE_f (fun j k h => by
      unfold rq0 at h
      split at h
      · cases h; show _ < 2; omega
      · cases h))), rfl, rfl, Nat.le_of_ble_eq_true rfl⟩ (Nat.le_of_ble_eq_true rfl) (xn_k (Nat.le_of_ble_eq_true rfl)) (fun B M => ?_)
  refine g_aast (qk := 0) (x := 2) M dX0_init_33 rfl (vp_in_nI (by decide) (by decide)) rfl ?_
  rw [nI_clamp (by decide), rq0_up 0]
  have h := kk _ M
  rw [← nI_1 0] at h
  refine g_iinc1 M dX0_init_34 rfl (by decide) ?_
  refine g_goto M 15 dX0_init_37 (by decide) ?_
  exact g_lvs M _ (lvs_c rfl (lvs_c rfl lvs_n)) h
theorem X0_1 {k9 n9 : Nat} {B : KT} (M : MG RX0 cX0_init 2 none (rmn 4 61 1152 83) k9 n9 (XN 61 1152 HW1) B) (hk : k9 + 10 ≤ 61 ∧ n9 + 191 ≤ 1152) (kk : ∀ B', MG RX0 cX0_init 2 none (rmn 4 61 1152 83) (k9 + 10) (n9 + 191) (XN 61 1152 HW1) B' → B' 15 [(0, .ref 0), (1, .int (nI 2))] [] (HWp 2)) : B 15 [(0, .ref 0), (1, .int (nI 1))] [] (HWp 1) := by
  refine g_iload_n M dX0_init_15 rfl ?_
  refine g_bipush M 6 dX0_init_16 (by decide) ?_
  refine g_icmp_ge M 40 dX0_init_18 (by decide) (fun h9 => absurd h9 (by decide)) (fun _ => ?_)
  refine g_aload_n M dX0_init_21 rfl ?_
  refine g_get M fl_X0_11 dX0_init_22 rfl rfl ?_
  refine g_iload_n M dX0_init_25 rfl ?_
  refine n_mkIN M xn_z nd_X0_9 n_X2 lk_X0_17 ln_X0_17 dX0_init_26 dX0_init_29 dX0_init_30 rfl ⟨by decide, by decide, by decide +kernel⟩ ⟨Nat.le_of_ble_eq_true rfl, Nat.le_of_ble_eq_true rfl⟩ ⟨by show k9 + 1 + 9 ≤ 61; omega, by show n9 + 10 + 181 ≤ 1152; omega⟩ ⟨(by
    unfold HWp
    repeat' (first | exact clW_n | refine clW_c ?_ ?_)
    all_goals (first | exact clE_i | exact clE_r rfl | exact clE_f (fun j k h => by
      unfold rq0 at h
      split at h
      · cases h; show _ < 12; omega
      · cases h))), rfl, rfl, Nat.le_of_ble_eq_true rfl⟩ (Nat.le_of_ble_eq_true rfl) (xn_k (Nat.le_of_ble_eq_true rfl)) (fun B M => ?_)
  refine g_aast (qk := 0) (x := 12) M dX0_init_33 rfl (vp_in_nI (by decide) (by decide)) rfl ?_
  rw [nI_clamp (by decide), rq0_up 1]
  have h := kk _ M
  rw [← nI_1 1] at h
  refine g_iinc1 M dX0_init_34 rfl (by decide) ?_
  refine g_goto M 15 dX0_init_37 (by decide) ?_
  exact g_lvs M _ (lvs_c rfl (lvs_c rfl lvs_n)) h
theorem X0_2 {k9 n9 : Nat} {B : KT} (M : MG RX0 cX0_init 2 none (rmn 4 61 1152 83) k9 n9 (XN 61 1152 HW1) B) (hk : k9 + 10 ≤ 61 ∧ n9 + 191 ≤ 1152) (kk : ∀ B', MG RX0 cX0_init 2 none (rmn 4 61 1152 83) (k9 + 10) (n9 + 191) (XN 61 1152 HW1) B' → B' 15 [(0, .ref 0), (1, .int (nI 3))] [] (HWp 3)) : B 15 [(0, .ref 0), (1, .int (nI 2))] [] (HWp 2) := by
  refine g_iload_n M dX0_init_15 rfl ?_
  refine g_bipush M 6 dX0_init_16 (by decide) ?_
  refine g_icmp_ge M 40 dX0_init_18 (by decide) (fun h9 => absurd h9 (by decide)) (fun _ => ?_)
  refine g_aload_n M dX0_init_21 rfl ?_
  refine g_get M fl_X0_11 dX0_init_22 rfl rfl ?_
  refine g_iload_n M dX0_init_25 rfl ?_
  refine n_mkIN M xn_z nd_X0_9 n_X2 lk_X0_17 ln_X0_17 dX0_init_26 dX0_init_29 dX0_init_30 rfl ⟨by decide, by decide, by decide +kernel⟩ ⟨Nat.le_of_ble_eq_true rfl, Nat.le_of_ble_eq_true rfl⟩ ⟨by show k9 + 1 + 9 ≤ 61; omega, by show n9 + 10 + 181 ≤ 1152; omega⟩ ⟨(by
    unfold HWp
    repeat' (first | exact clW_n | refine clW_c ?_ ?_)
    all_goals (first | exact clE_i | exact clE_r rfl | exact clE_f (fun j k h => by
      unfold rq0 at h
      split at h
      · cases h; show _ < 22; omega
      · cases h))), rfl, rfl, Nat.le_of_ble_eq_true rfl⟩ (Nat.le_of_ble_eq_true rfl) (xn_k (Nat.le_of_ble_eq_true rfl)) (fun B M => ?_)
  refine g_aast (qk := 0) (x := 22) M dX0_init_33 rfl (vp_in_nI (by decide) (by decide)) rfl ?_
  rw [nI_clamp (by decide), rq0_up 2]
  have h := kk _ M
  rw [← nI_1 2] at h
  refine g_iinc1 M dX0_init_34 rfl (by decide) ?_
  refine g_goto M 15 dX0_init_37 (by decide) ?_
  exact g_lvs M _ (lvs_c rfl (lvs_c rfl lvs_n)) h
theorem X0_3 {k9 n9 : Nat} {B : KT} (M : MG RX0 cX0_init 2 none (rmn 4 61 1152 83) k9 n9 (XN 61 1152 HW1) B) (hk : k9 + 10 ≤ 61 ∧ n9 + 191 ≤ 1152) (kk : ∀ B', MG RX0 cX0_init 2 none (rmn 4 61 1152 83) (k9 + 10) (n9 + 191) (XN 61 1152 HW1) B' → B' 15 [(0, .ref 0), (1, .int (nI 4))] [] (HWp 4)) : B 15 [(0, .ref 0), (1, .int (nI 3))] [] (HWp 3) := by
  refine g_iload_n M dX0_init_15 rfl ?_
  refine g_bipush M 6 dX0_init_16 (by decide) ?_
  refine g_icmp_ge M 40 dX0_init_18 (by decide) (fun h9 => absurd h9 (by decide)) (fun _ => ?_)
  refine g_aload_n M dX0_init_21 rfl ?_
  refine g_get M fl_X0_11 dX0_init_22 rfl rfl ?_
  refine g_iload_n M dX0_init_25 rfl ?_
  refine n_mkIN M xn_z nd_X0_9 n_X2 lk_X0_17 ln_X0_17 dX0_init_26 dX0_init_29 dX0_init_30 rfl ⟨by decide, by decide, by decide +kernel⟩ ⟨Nat.le_of_ble_eq_true rfl, Nat.le_of_ble_eq_true rfl⟩ ⟨by show k9 + 1 + 9 ≤ 61; omega, by show n9 + 10 + 181 ≤ 1152; omega⟩ ⟨(by
    unfold HWp
    repeat' (first | exact clW_n | refine clW_c ?_ ?_)
    all_goals (first | exact clE_i | exact clE_r rfl | exact clE_f (fun j k h => by
      unfold rq0 at h
      split at h
      · cases h; show _ < 32; omega
      · cases h))), rfl, rfl, Nat.le_of_ble_eq_true rfl⟩ (Nat.le_of_ble_eq_true rfl) (xn_k (Nat.le_of_ble_eq_true rfl)) (fun B M => ?_)
  refine g_aast (qk := 0) (x := 32) M dX0_init_33 rfl (vp_in_nI (by decide) (by decide)) rfl ?_
  rw [nI_clamp (by decide), rq0_up 3]
  have h := kk _ M
  rw [← nI_1 3] at h
  refine g_iinc1 M dX0_init_34 rfl (by decide) ?_
  refine g_goto M 15 dX0_init_37 (by decide) ?_
  exact g_lvs M _ (lvs_c rfl (lvs_c rfl lvs_n)) h
theorem X0_4 {k9 n9 : Nat} {B : KT} (M : MG RX0 cX0_init 2 none (rmn 4 61 1152 83) k9 n9 (XN 61 1152 HW1) B) (hk : k9 + 10 ≤ 61 ∧ n9 + 191 ≤ 1152) (kk : ∀ B', MG RX0 cX0_init 2 none (rmn 4 61 1152 83) (k9 + 10) (n9 + 191) (XN 61 1152 HW1) B' → B' 15 [(0, .ref 0), (1, .int (nI 5))] [] (HWp 5)) : B 15 [(0, .ref 0), (1, .int (nI 4))] [] (HWp 4) := by
  refine g_iload_n M dX0_init_15 rfl ?_
  refine g_bipush M 6 dX0_init_16 (by decide) ?_
  refine g_icmp_ge M 40 dX0_init_18 (by decide) (fun h9 => absurd h9 (by decide)) (fun _ => ?_)
  refine g_aload_n M dX0_init_21 rfl ?_
  refine g_get M fl_X0_11 dX0_init_22 rfl rfl ?_
  refine g_iload_n M dX0_init_25 rfl ?_
  refine n_mkIN M xn_z nd_X0_9 n_X2 lk_X0_17 ln_X0_17 dX0_init_26 dX0_init_29 dX0_init_30 rfl ⟨by decide, by decide, by decide +kernel⟩ ⟨Nat.le_of_ble_eq_true rfl, Nat.le_of_ble_eq_true rfl⟩ ⟨by show k9 + 1 + 9 ≤ 61; omega, by show n9 + 10 + 181 ≤ 1152; omega⟩ ⟨(by
    unfold HWp
    repeat' (first | exact clW_n | refine clW_c ?_ ?_)
    all_goals (first | exact clE_i | exact clE_r rfl | exact clE_f (fun j k h => by
      unfold rq0 at h
      split at h
      · cases h; show _ < 42; omega
      · cases h))), rfl, rfl, Nat.le_of_ble_eq_true rfl⟩ (Nat.le_of_ble_eq_true rfl) (xn_k (Nat.le_of_ble_eq_true rfl)) (fun B M => ?_)
  refine g_aast (qk := 0) (x := 42) M dX0_init_33 rfl (vp_in_nI (by decide) (by decide)) rfl ?_
  rw [nI_clamp (by decide), rq0_up 4]
  have h := kk _ M
  rw [← nI_1 4] at h
  refine g_iinc1 M dX0_init_34 rfl (by decide) ?_
  refine g_goto M 15 dX0_init_37 (by decide) ?_
  exact g_lvs M _ (lvs_c rfl (lvs_c rfl lvs_n)) h
theorem X0_5 {k9 n9 : Nat} {B : KT} (M : MG RX0 cX0_init 2 none (rmn 4 61 1152 83) k9 n9 (XN 61 1152 HW1) B) (hk : k9 + 10 ≤ 61 ∧ n9 + 191 ≤ 1152) (kk : ∀ B', MG RX0 cX0_init 2 none (rmn 4 61 1152 83) (k9 + 10) (n9 + 191) (XN 61 1152 HW1) B' → B' 15 [(0, .ref 0), (1, .int (nI 6))] [] (HWp 6)) : B 15 [(0, .ref 0), (1, .int (nI 5))] [] (HWp 5) := by
  refine g_iload_n M dX0_init_15 rfl ?_
  refine g_bipush M 6 dX0_init_16 (by decide) ?_
  refine g_icmp_ge M 40 dX0_init_18 (by decide) (fun h9 => absurd h9 (by decide)) (fun _ => ?_)
  refine g_aload_n M dX0_init_21 rfl ?_
  refine g_get M fl_X0_11 dX0_init_22 rfl rfl ?_
  refine g_iload_n M dX0_init_25 rfl ?_
  refine n_mkIN M xn_z nd_X0_9 n_X2 lk_X0_17 ln_X0_17 dX0_init_26 dX0_init_29 dX0_init_30 rfl ⟨by decide, by decide, by decide +kernel⟩ ⟨Nat.le_of_ble_eq_true rfl, Nat.le_of_ble_eq_true rfl⟩ ⟨by show k9 + 1 + 9 ≤ 61; omega, by show n9 + 10 + 181 ≤ 1152; omega⟩ ⟨(by
    unfold HWp
    repeat' (first | exact clW_n | refine clW_c ?_ ?_)
    all_goals (first | exact clE_i | exact clE_r rfl | exact clE_f (fun j k h => by
      unfold rq0 at h
      split at h
      · cases h; show _ < 52; omega
      · cases h))), rfl, rfl, Nat.le_of_ble_eq_true rfl⟩ (Nat.le_of_ble_eq_true rfl) (xn_k (Nat.le_of_ble_eq_true rfl)) (fun B M => ?_)
  refine g_aast (qk := 0) (x := 52) M dX0_init_33 rfl (vp_in_nI (by decide) (by decide)) rfl ?_
  rw [nI_clamp (by decide), rq0_up 5]
  have h := kk _ M
  rw [← nI_1 5] at h
  refine g_iinc1 M dX0_init_34 rfl (by decide) ?_
  refine g_goto M 15 dX0_init_37 (by decide) ?_
  exact g_lvs M _ (lvs_c rfl (lvs_c rfl lvs_n)) h

theorem n_X0 : ConN yX0_init cX0_init 2 (rmn 4 61 1152 83) (.inr (0, F0s)) HW1 := by
  refine ConN.of (own := RX0) (by decide) rfl rfl (Nat.le_of_ble_eq_true rfl) (fun _ _ => rfl) ⟨hw1_cl, by decide⟩ fun B M => ?_
  refine g_aload_n M dX0_init_0 rfl ?_
  refine n_obj M on_X0 on_i on_c dX0_init_1 ⟨Nat.le_of_ble_eq_true rfl, Nat.le_of_ble_eq_true rfl⟩ ?_
  refine g_aload_n M dX0_init_4 rfl ?_
  refine g_bipush M 6 dX0_init_5 (by decide) ?_
  refine n_newq (N' := 6) M xn_z cl_X0_9 (by decide) rfl (Nat.le_of_ble_eq_true rfl) ⟨Nat.le_of_ble_eq_true rfl, Nat.le_of_ble_eq_true rfl⟩ dX0_init_7 ⟨(by repeat' (first | exact clW_n | exact clE_i | exact clE_l | exact clE_r rfl | refine clW_c ?_ ?_)), rfl, rfl, Nat.le_of_ble_eq_true rfl⟩ (xn_k (Nat.le_of_ble_eq_true rfl)) (fun B M => ?_)
  refine n_putF M xn_i fl_X0_11 (fun C T N h => by cases h; exact ⟨rfl, rfl⟩) dX0_init_10 rfl (fun _ => rfl) (fun _ => rfl) (Nat.le_of_ble_eq_true rfl) ?_
  refine g_iconst M 0 dX0_init_13 (by decide) ?_
  refine g_istore_n M dX0_init_14 (by decide) ?_
  have fin : ∀ B', MG RX0 cX0_init 2 none (rmn 4 61 1152 83) (0 + 1 + 10 + 10 + 10 + 10 + 10 + 10) (0 + 6 + 191 + 191 + 191 + 191 + 191 + 191) (XN 61 1152 HW1) B' → B' 15 [(0, .ref 0), (1, .int (nI 6))] [] (HWp 6) := by
    intro B M
    refine g_iload_n M dX0_init_15 rfl ?_
    refine g_bipush M 6 dX0_init_16 (by decide) ?_
    refine g_icmp_ge M 40 dX0_init_18 (by decide) (fun _ => ?_) (fun h9 => absurd (by decide) h9)
    refine n_arrq M 1 (fun j => some (2 + 10 * rmz j)) rfl (fun j hj => by unfold rq0 rmz; rw [if_pos hj, if_pos hj]) ?_
    exact n_ret M dX0_init_40 rfl rfl
  have h := X0_0 M (by decide) fun B M => X0_1 M (by decide) fun B M => X0_2 M (by decide) fun B M => X0_3 M (by decide) fun B M => X0_4 M (by decide) fun B M => X0_5 M (by decide) fin
  unfold HWp at h
  rw [rq0_0] at h
  exact g_lvs M _ (lvs_c rfl (lvs_c rfl lvs_n)) h


theorem nI5 (k : Nat) (h : k < 5) : vp_in (nI k) 5 := vp_in_nI h (by omega)
theorem cl5 (k : Nat) (h : k ≤ 60) : (nI k).toNatClampNeg = k := nI_clamp (by omega)
/-- the tops behind a turn of the locked wheels -/
def tLk (te to : Nat → Int32) (lo : Nat → Bool) (d : Int32) : Nat → Int32 := fun j => if lo j = true then md (to j + d) (te j) else to j
def cLk (lo : Nat → Bool) (cr : Nat → Int32) (d : Int32) : Nat → Int32 := fun j => if lo j = true then cr j + d else cr j
theorem c_turnLocked (te to : Nat → Int32) (lo : Nat → Bool) (cr ha he : Nat → Int32) (d : Int32) : Con yX4_turnLocked cX4_turnLocked 3 none (rmk 1 22) [.ref 0, .int d] (WW te to lo cr ha he) none (WW te (tLk te to lo d) lo (cLk lo cr d) ha he) := by
  refine Con.of (own := RX4) (by decide) rfl (Nat.le_of_ble_eq_true rfl) rfl (fun B M => ?_)
  have loop : ∀ n k : Nat, k + n = 5 → B 2 [(0, .ref 0), (1, .int d), (2, .int (nI k))] [] (WW te (mixf k (tLk te to lo d) to) lo (mixf k (cLk lo cr d) cr) ha he) := by
    intro n
    induction n with
    | zero =>
      intro k hk
      obtain rfl : k = 5 := by omega
      refine r_iload_n M dX4_turnLocked_2 rfl ?_
      refine r_iconst M 5 dX4_turnLocked_3 (by decide) ?_
      refine r_icmp_ge M 55 dX4_turnLocked_4 (by decide) (fun _ => ?_) (fun h9 => absurd (nI_geT (n := 5) rfl (by omega) (by omega)) h9)
      refine r_arr M 2 (tLk te to lo d) rfl (fun j hj => mixf_in _ _ hj) ?_
      refine r_arr M 4 (cLk lo cr d) rfl (fun j hj => mixf_in _ _ hj) ?_
      exact r_vret M dX4_turnLocked_55 rfl rfl rfl
    | succ n ih =>
      intro k hk
      have hv := nI5 k (by omega)
      have hc := cl5 k (by omega)
      have nx := ih (k + 1) (by omega)
      refine r_iload_n M dX4_turnLocked_2 rfl ?_
      refine r_iconst M 5 dX4_turnLocked_3 (by decide) ?_
      refine r_icmp_ge M 55 dX4_turnLocked_4 (by decide) (fun h9 => absurd h9 (nI_geF (n := 5) rfl (by omega) (by omega))) (fun _ => ?_)
      refine r_aload_n M dX4_turnLocked_7 rfl ?_
      refine r_get M fl_X4_18 dX4_turnLocked_8 rfl rfl ?_
      refine r_iload_n M dX4_turnLocked_11 rfl ?_
      refine r_zald M dX4_turnLocked_12 rfl hv ?_
      refine r_if_eq M 49 dX4_turnLocked_13 (by decide) (fun h => ?_) (fun h => ?_)
      · rw [hc, b2i_0] at h
        refine r_iinc1 M dX4_turnLocked_49 rfl (by decide) ?_
        refine r_goto M 2 dX4_turnLocked_52 (by decide) ?_
        rw [mixf_skip (by simp [tLk, h]), mixf_skip (by simp [cLk, h])] at nx
        refine r_lvs M _ (lvs_c rfl (lvs_c rfl (lvs_c ?_ lvs_n))) nx
        rw [← nI_1]; rfl
      · rw [hc, b2i_0] at h
        refine r_aload_n M dX4_turnLocked_16 rfl ?_
        refine r_get M fl_X4_15 dX4_turnLocked_17 rfl rfl ?_
        refine r_iload_n M dX4_turnLocked_20 rfl ?_
        refine r_aload_n M dX4_turnLocked_21 rfl ?_
        refine r_get M fl_X4_15 dX4_turnLocked_22 rfl rfl ?_
        refine r_iload_n M dX4_turnLocked_25 rfl ?_
        refine r_iald M dX4_turnLocked_26 rfl hv ?_
        refine r_iload_n M dX4_turnLocked_27 rfl ?_
        refine r_iadd M dX4_turnLocked_28 ?_
        refine r_aload_n M dX4_turnLocked_29 rfl ?_
        refine r_get M fl_X4_9 dX4_turnLocked_30 rfl rfl ?_
        refine r_iload_n M dX4_turnLocked_33 rfl ?_
        refine r_iald M dX4_turnLocked_34 rfl hv ?_
        refine r_SN2ik M (c_modulo _ _) lk_X4_51 ln_X4_51 dX4_turnLocked_35 (by decide +kernel) ⟨Nat.le_of_ble_eq_true rfl, Nat.le_of_ble_eq_true rfl⟩ ⟨rfl, rfl⟩ [] rfl (by decide +kernel) rfl (Nat.le_of_ble_eq_true rfl) ?_
        refine r_iast M dX4_turnLocked_38 rfl hv ?_
        refine r_aload_n M dX4_turnLocked_39 rfl ?_
        refine r_get M fl_X4_22 dX4_turnLocked_40 rfl rfl ?_
        refine r_iload_n M dX4_turnLocked_43 rfl ?_
        refine r_dup2 M dX4_turnLocked_44 rfl rfl ?_
        refine r_iald M dX4_turnLocked_45 rfl hv ?_
        refine r_iload_n M dX4_turnLocked_46 rfl ?_
        refine r_iadd M dX4_turnLocked_47 ?_
        refine r_iast M dX4_turnLocked_48 rfl hv ?_
        refine r_iinc1 M dX4_turnLocked_49 rfl (by decide) ?_
        refine r_goto M 2 dX4_turnLocked_52 (by decide) ?_
        simp only [hc, mixf_at]
        rw [mixf_upd2 (g := tLk te to lo d) (by simp [tLk, h]), mixf_upd2 (g := cLk lo cr d) (by simp [cLk, h])]
        refine r_lvs M _ (lvs_c rfl (lvs_c rfl (lvs_c ?_ lvs_n))) nx
        rw [← nI_1]; rfl
  have l0 := loop 5 0 rfl
  rw [mixf_0, mixf_0] at l0
  refine r_iconst M 0 dX4_turnLocked_0 (by decide) ?_
  refine r_istore_n M dX4_turnLocked_1 (by decide) ?_
  exact r_lvs M _ (lvs_c rfl (lvs_c rfl (lvs_c rfl lvs_n))) l0
def eqf (f g : Nat → Int32) : Nat → Bool
  | 0 => true
  | n + 1 => eqf f g n && decide (f n = g n)
theorem eqf_iff {f g : Nat → Int32} : ∀ {n : Nat}, eqf f g n = true ↔ ∀ j, j < n → f j = g j
  | 0 => ⟨fun _ j h => absurd h (Nat.not_lt_zero j), fun _ => rfl⟩
  | n + 1 => by
    simp only [eqf, Bool.and_eq_true, decide_eq_true_eq, eqf_iff (n := n)]
    constructor
    · rintro ⟨h1, h2⟩ j hj
      rcases Nat.lt_succ_iff_lt_or_eq.mp hj with h | h
      · exact h1 j h
      · rw [h]; exact h2
    · intro h
      exact ⟨fun j hj => h j (by omega), h n (by omega)⟩
abbrev WWo (b : Nat) (te to : Nat → Int32) (lo : Nat → Bool) (cr ha he : Nat → Int32) : List va_E := [.inr (4, [.ref (b + 1), .ref (b + 2), .ref (b + 3), .ref (b + 4), .ref (b + 5), .ref (b + 6)]), .inl (0, 5, .inl te), .inl (0, 5, .inl to), .inl (1, 5, .inl (fun j => b2i (lo j))), .inl (0, 5, .inl cr), .inl (0, 5, .inl ha), .inl (0, 60, .inl he)]
theorem c_hasTopsOf (te to : Nat → Int32) (lo : Nat → Bool) (cr ha he te2 to2 : Nat → Int32) (lo2 : Nat → Bool) (cr2 ha2 he2 : Nat → Int32) : Con yX4_hasTopsOf cX4_hasTopsOf 3 (some .boolean) (rmk 0 0) [.ref 0, .ref 7] (WW te to lo cr ha he ++ WWo 7 te2 to2 lo2 cr2 ha2 he2) (some (.int (b2i (eqf to to2 5)))) (WW te to lo cr ha he ++ WWo 7 te2 to2 lo2 cr2 ha2 he2) := by
  refine Con.of (own := RX4) (by decide) rfl (Nat.le_of_ble_eq_true rfl) rfl (fun B M => ?_)
  have loop : ∀ n k : Nat, k + n = 5 → (∀ j, j < k → to j = to2 j) → B 2 [(0, .ref 0), (1, .ref 7), (2, .int (nI k))] [] (WW te to lo cr ha he ++ WWo 7 te2 to2 lo2 cr2 ha2 he2) := by
    intro n
    induction n with
    | zero =>
      intro k hk hj
      obtain rfl : k = 5 := by omega
      refine r_iload_n M dX4_hasTopsOf_2 rfl ?_
      refine r_iconst M 5 dX4_hasTopsOf_3 (by decide) ?_
      refine r_icmp_ge M 30 dX4_hasTopsOf_4 (by decide) (fun _ => ?_) (fun h9 => absurd (nI_geT (n := 5) rfl (by omega) (by omega)) h9)
      refine r_iconst M 1 dX4_hasTopsOf_30 (by decide) ?_
      exact r_zret M dX4_hasTopsOf_31 rfl rfl (by rw [eqf_iff.mpr hj]; rfl) rfl
    | succ n ih =>
      intro k hk hj
      have hv := nI5 k (by omega)
      have hc := cl5 k (by omega)
      refine r_iload_n M dX4_hasTopsOf_2 rfl ?_
      refine r_iconst M 5 dX4_hasTopsOf_3 (by decide) ?_
      refine r_icmp_ge M 30 dX4_hasTopsOf_4 (by decide) (fun h9 => absurd h9 (nI_geF (n := 5) rfl (by omega) (by omega))) (fun _ => ?_)
      refine r_aload_n M dX4_hasTopsOf_7 rfl ?_
      refine r_get M fl_X4_15 dX4_hasTopsOf_8 rfl rfl ?_
      refine r_iload_n M dX4_hasTopsOf_11 rfl ?_
      refine r_iald M dX4_hasTopsOf_12 rfl hv ?_
      refine r_aload_n M dX4_hasTopsOf_13 rfl ?_
      refine r_get M fl_X4_15 dX4_hasTopsOf_14 rfl rfl ?_
      refine r_iload_n M dX4_hasTopsOf_17 rfl ?_
      refine r_iald M dX4_hasTopsOf_18 rfl hv ?_
      refine r_icmp_eq M 24 dX4_hasTopsOf_19 (by decide) (fun h => ?_) (fun h => ?_)
      · refine r_iinc1 M dX4_hasTopsOf_24 rfl (by decide) ?_
        refine r_goto M 2 dX4_hasTopsOf_27 (by decide) ?_
        rw [hc] at h
        refine r_lvs M _ (lvs_c rfl (lvs_c rfl (lvs_c ?_ lvs_n))) (ih (k + 1) (by omega) (fun j h9 => ?_))
        · rw [← nI_1]; rfl
        · rcases Nat.lt_succ_iff_lt_or_eq.mp h9 with h8 | h8
          · exact hj j h8
          · rw [h8]; exact h
      · rw [hc] at h
        refine r_iconst M 0 dX4_hasTopsOf_22 (by decide) ?_
        exact r_zret M dX4_hasTopsOf_23 rfl rfl (by rw [Bool.eq_false_iff.mpr (fun h9 => h (eqf_iff.mp h9 k (by omega)))]; rfl) rfl
  refine r_iconst M 0 dX4_hasTopsOf_0 (by decide) ?_
  refine r_istore_n M dX4_hasTopsOf_1 (by decide) ?_
  exact r_lvs M _ (lvs_c rfl (lvs_c rfl (lvs_c rfl lvs_n))) (loop 5 0 rfl (fun j h => absurd h (Nat.not_lt_zero j)))
/-- the least multiple of n that o divides, sought from t times on -/
def lmG (n o : Int32) : Nat → Nat → Int32
  | 0, _ => n * o
  | f + 1, t => if md (n * nI t) o = 0 then n * nI t else lmG n o f (t + 1)
theorem c_leastMultiple (n : Int32) (m : Nat) (hm : 1 ≤ m) (hm2 : m < 2 ^ 31) : Con yX4_leastMultiple cX4_leastMultiple 3 (some .int) (rmk 1 22) [.int n, .int (nI m)] [] (some (.int (lmG n (nI m) (m - 1) 1))) [] := by
  refine Con.of (own := RX4) (by decide) rfl (Nat.le_of_ble_eq_true rfl) rfl (fun B M => ?_)
  have loop : ∀ f t : Nat, t + f = m → lmG n (nI m) (m - 1) 1 = lmG n (nI m) f t → B 2 [(0, .int n), (1, .int (nI m)), (2, .int (nI t))] [] [] := by
    intro f
    induction f with
    | zero =>
      intro t ht he
      obtain rfl : t = m := by omega
      refine r_iload_n M dX4_leastMultiple_2 rfl ?_
      refine r_iload_n M dX4_leastMultiple_3 rfl ?_
      refine r_icmp_ge M 27 dX4_leastMultiple_4 (by decide) (fun _ => ?_) (fun h9 => absurd (nI_le (Nat.le_refl _) hm2) h9)
      refine r_iload_n M dX4_leastMultiple_27 rfl ?_
      refine r_iload_n M dX4_leastMultiple_28 rfl ?_
      refine r_imul M dX4_leastMultiple_29 ?_
      exact r_iret M dX4_leastMultiple_30 rfl (by rw [he]; rfl) rfl
    | succ f ih =>
      intro t ht he
      refine r_iload_n M dX4_leastMultiple_2 rfl ?_
      refine r_iload_n M dX4_leastMultiple_3 rfl ?_
      refine r_icmp_ge M 27 dX4_leastMultiple_4 (by decide) (fun h9 => absurd h9 (nI_ge (by omega) hm2)) (fun _ => ?_)
      refine r_iload_n M dX4_leastMultiple_7 rfl ?_
      refine r_iload_n M dX4_leastMultiple_8 rfl ?_
      refine r_imul M dX4_leastMultiple_9 ?_
      refine r_iload_n M dX4_leastMultiple_10 rfl ?_
      refine r_SN2ik M (c_modulo _ _) lk_X4_51 ln_X4_51 dX4_leastMultiple_11 (by decide +kernel) ⟨Nat.le_of_ble_eq_true rfl, Nat.le_of_ble_eq_true rfl⟩ ⟨rfl, rfl⟩ [] rfl (by decide +kernel) rfl (Nat.le_of_ble_eq_true rfl) ?_
      refine r_if_ne M 21 dX4_leastMultiple_14 (by decide) (fun h => ?_) (fun h => ?_)
      · refine r_iinc1 M dX4_leastMultiple_21 rfl (by decide) ?_
        refine r_goto M 2 dX4_leastMultiple_24 (by decide) ?_
        refine r_lvs M _ (lvs_c rfl (lvs_c rfl (lvs_c ?_ lvs_n))) (ih (t + 1) (by omega) (by rw [he, lmG, if_neg h]))
        rw [← nI_1]; rfl
      · refine r_iload_n M dX4_leastMultiple_17 rfl ?_
        refine r_iload_n M dX4_leastMultiple_18 rfl ?_
        refine r_imul M dX4_leastMultiple_19 ?_
        exact r_iret M dX4_leastMultiple_20 rfl (by rw [he, lmG, if_pos h]) rfl
  refine r_iconst M 1 dX4_leastMultiple_0 (by decide) ?_
  refine r_istore_n M dX4_leastMultiple_1 (by decide) ?_
  exact r_lvs M _ (lvs_c rfl (lvs_c rfl (lvs_c rfl lvs_n))) (loop (m - 1) 1 (by omega) rfl)
/-- the round, by the teeth of the locked wheels -/
def rbt (te : Nat → Int32) (lo : Nat → Bool) : Nat → Int32
  | 0 => 1
  | k + 1 => if lo k = true then lmG (rbt te lo k) (te k) ((te k).toNatClampNeg - 1) 1 else rbt te lo k
theorem c_roundByTeeth (te to : Nat → Int32) (lo : Nat → Bool) (cr ha he : Nat → Int32) (hte : ∀ k, k < 5 → ∃ m : Nat, 1 ≤ m ∧ m ≤ 12 ∧ te k = nI m) : Con yX4_roundByTeeth cX4_roundByTeeth 3 (some .int) (rmk 2 44) [.ref 0] (WW te to lo cr ha he) (some (.int (rbt te lo 5))) (WW te to lo cr ha he) := by
  refine Con.of (own := RX4) (by decide) rfl (Nat.le_of_ble_eq_true rfl) rfl (fun B M => ?_)
  have loop : ∀ n k : Nat, k + n = 5 → B 4 [(0, .ref 0), (1, .int (rbt te lo k)), (2, .int (nI k))] [] (WW te to lo cr ha he) := by
    intro n
    induction n with
    | zero =>
      intro k hk
      obtain rfl : k = 5 := by omega
      refine r_iload_n M dX4_roundByTeeth_4 rfl ?_
      refine r_iconst M 5 dX4_roundByTeeth_5 (by decide) ?_
      refine r_icmp_ge M 35 dX4_roundByTeeth_6 (by decide) (fun _ => ?_) (fun h9 => absurd (nI_geT (n := 5) rfl (by omega) (by omega)) h9)
      refine r_iload_n M dX4_roundByTeeth_35 rfl ?_
      exact r_iret M dX4_roundByTeeth_36 rfl rfl rfl
    | succ n ih =>
      intro k hk
      have hv := nI5 k (by omega)
      have hc := cl5 k (by omega)
      have nx := ih (k + 1) (by omega)
      refine r_iload_n M dX4_roundByTeeth_4 rfl ?_
      refine r_iconst M 5 dX4_roundByTeeth_5 (by decide) ?_
      refine r_icmp_ge M 35 dX4_roundByTeeth_6 (by decide) (fun h9 => absurd h9 (nI_geF (n := 5) rfl (by omega) (by omega))) (fun _ => ?_)
      refine r_aload_n M dX4_roundByTeeth_9 rfl ?_
      refine r_get M fl_X4_18 dX4_roundByTeeth_10 rfl rfl ?_
      refine r_iload_n M dX4_roundByTeeth_13 rfl ?_
      refine r_zald M dX4_roundByTeeth_14 rfl hv ?_
      refine r_if_eq M 29 dX4_roundByTeeth_15 (by decide) (fun h => ?_) (fun h => ?_)
      · rw [hc, b2i_0] at h
        refine r_iinc1 M dX4_roundByTeeth_29 rfl (by decide) ?_
        refine r_goto M 4 dX4_roundByTeeth_32 (by decide) ?_
        rw [rbt, if_neg (by rw [h]; decide)] at nx
        refine r_lvs M _ (lvs_c rfl (lvs_c rfl (lvs_c ?_ lvs_n))) nx
        rw [← nI_1]; rfl
      · rw [hc, b2i_0] at h
        obtain ⟨m, h1, h2, h3⟩ := hte k (by omega)
        refine r_iload_n M dX4_roundByTeeth_18 rfl ?_
        refine r_aload_n M dX4_roundByTeeth_19 rfl ?_
        refine r_get M fl_X4_9 dX4_roundByTeeth_20 rfl rfl ?_
        refine r_iload_n M dX4_roundByTeeth_23 rfl ?_
        refine r_iald M dX4_roundByTeeth_24 rfl hv ?_
        rw [hc, h3]
        refine r_S2ik M (c_leastMultiple _ m h1 (by omega)) lk_X4_68 dX4_roundByTeeth_25 (by decide +kernel) ⟨Nat.le_of_ble_eq_true rfl, Nat.le_of_ble_eq_true rfl⟩ ⟨rfl, rfl⟩ [] rfl (by decide +kernel) rfl (Nat.le_of_ble_eq_true rfl) ?_
        refine r_istore_n M dX4_roundByTeeth_28 (by decide) ?_
        refine r_iinc1 M dX4_roundByTeeth_29 rfl (by decide) ?_
        refine r_goto M 4 dX4_roundByTeeth_32 (by decide) ?_
        rw [rbt, if_pos (by simpa using h), h3, cl5 m (by omega)] at nx
        refine r_lvs M _ (lvs_c rfl (lvs_c rfl (lvs_c ?_ lvs_n))) nx
        rw [← nI_1]; rfl
  refine r_iconst M 1 dX4_roundByTeeth_0 (by decide) ?_
  refine r_istore_n M dX4_roundByTeeth_1 (by decide) ?_
  refine r_iconst M 0 dX4_roundByTeeth_2 (by decide) ?_
  refine r_istore_n M dX4_roundByTeeth_3 (by decide) ?_
  exact r_lvs M _ (lvs_c rfl (lvs_c rfl (lvs_c rfl lvs_n))) (loop 5 0 rfl)
theorem c_countLocked (te to : Nat → Int32) (lo : Nat → Bool) (cr ha he : Nat → Int32) : Con yX4_countLocked cX4_countLocked 3 (some .int) (rmk 1 20) [.ref 0] (WW te to lo cr ha he) (some (.int (sumf (fun j => b2i (lo j)) 5))) (WW te to lo cr ha he) := by
  refine Con.of (own := RX4) (by decide) rfl (Nat.le_of_ble_eq_true rfl) rfl (fun B M => ?_)
  have loop : ∀ n k : Nat, k + n = 5 → B 4 [(0, .ref 0), (1, .int (sumf (fun j => b2i (lo j)) k)), (2, .int (nI k))] [] (WW te to lo cr ha he) := by
    intro n
    induction n with
    | zero =>
      intro k hk
      obtain rfl : k = 5 := by omega
      refine r_iload_n M dX4_countLocked_4 rfl ?_
      refine r_iconst M 5 dX4_countLocked_5 (by decide) ?_
      refine r_icmp_ge M 27 dX4_countLocked_6 (by decide) (fun _ => ?_) (fun h9 => absurd (nI_geT (n := 5) rfl (by omega) (by omega)) h9)
      refine r_iload_n M dX4_countLocked_27 rfl ?_
      exact r_iret M dX4_countLocked_28 rfl rfl rfl
    | succ n ih =>
      intro k hk
      have hv := nI5 k (by omega)
      have hc := cl5 k (by omega)
      refine r_iload_n M dX4_countLocked_4 rfl ?_
      refine r_iconst M 5 dX4_countLocked_5 (by decide) ?_
      refine r_icmp_ge M 27 dX4_countLocked_6 (by decide) (fun h9 => absurd h9 (nI_geF (n := 5) rfl (by omega) (by omega))) (fun _ => ?_)
      refine r_iload_n M dX4_countLocked_9 rfl ?_
      refine r_aload_n M dX4_countLocked_10 rfl ?_
      refine r_get M fl_X4_18 dX4_countLocked_11 rfl rfl ?_
      refine r_iload_n M dX4_countLocked_14 rfl ?_
      refine r_zald M dX4_countLocked_15 rfl hv ?_
      rw [hc]
      refine r_SN1ik M (c_toNumber _) lk_X4_71 ln_X4_71 dX4_countLocked_16 (by decide +kernel) ⟨Nat.le_of_ble_eq_true rfl, Nat.le_of_ble_eq_true rfl⟩ ⟨rfl, rfl⟩ [] rfl (by decide +kernel) rfl (Nat.le_of_ble_eq_true rfl) ?_
      refine r_iadd M dX4_countLocked_19 ?_
      refine r_istore_n M dX4_countLocked_20 (by decide) ?_
      refine r_iinc1 M dX4_countLocked_21 rfl (by decide) ?_
      refine r_goto M 4 dX4_countLocked_24 (by decide) ?_
      refine r_lvs M _ (lvs_c rfl (lvs_c rfl (lvs_c ?_ lvs_n))) (ih (k + 1) (by omega))
      rw [← nI_1]; rfl
  refine r_iconst M 0 dX4_countLocked_0 (by decide) ?_
  refine r_istore_n M dX4_countLocked_1 (by decide) ?_
  refine r_iconst M 0 dX4_countLocked_2 (by decide) ?_
  refine r_istore_n M dX4_countLocked_3 (by decide) ?_
  exact r_lvs M _ (lvs_c rfl (lvs_c rfl (lvs_c rfl lvs_n))) (loop 5 0 rfl)
/-- 1 where a height is 5 or more -/
def outI (h : Int32) : Int32 := b2i (decide (5 ≤ h))
theorem c_countOut (te to : Nat → Int32) (lo : Nat → Bool) (cr ha he : Nat → Int32) : Con yX4_countOut cX4_countOut 3 (some .int) (rmk 2 46) [.ref 0] (WW te to lo cr ha he) (some (.int (sumf (fun j => outI (hB te to lo he (nI j) 0)) 5))) (WW te to lo cr ha he) := by
  refine Con.of (own := RX4) (by decide) rfl (Nat.le_of_ble_eq_true rfl) rfl (fun B M => ?_)
  have loop : ∀ n k : Nat, k + n = 5 → B 4 [(0, .ref 0), (1, .int (sumf (fun j => outI (hB te to lo he (nI j) 0)) k)), (2, .int (nI k))] [] (WW te to lo cr ha he) := by
    intro n
    induction n with
    | zero =>
      intro k hk
      obtain rfl : k = 5 := by omega
      refine r_iload_n M dX4_countOut_4 rfl ?_
      refine r_iconst M 5 dX4_countOut_5 (by decide) ?_
      refine r_icmp_ge M 36 dX4_countOut_6 (by decide) (fun _ => ?_) (fun h9 => absurd (nI_geT (n := 5) rfl (by omega) (by omega)) h9)
      refine r_iload_n M dX4_countOut_36 rfl ?_
      exact r_iret M dX4_countOut_37 rfl rfl rfl
    | succ n ih =>
      intro k hk
      have hv := nI5 k (by omega)
      have go : ∀ b : Bool, b = decide (5 ≤ hB te to lo he (nI k) 0) → B 25 [(0, .ref 0), (1, .int (sumf (fun j => outI (hB te to lo he (nI j) 0)) k)), (2, .int (nI k))] [.int (b2i b), .int (sumf (fun j => outI (hB te to lo he (nI j) 0)) k)] (WW te to lo cr ha he) := by
        intro b hb
        refine r_SN1ik M (c_toNumber _) lk_X4_71 ln_X4_71 dX4_countOut_25 (by decide +kernel) ⟨Nat.le_of_ble_eq_true rfl, Nat.le_of_ble_eq_true rfl⟩ ⟨rfl, rfl⟩ [] rfl (by decide +kernel) rfl (Nat.le_of_ble_eq_true rfl) ?_
        refine r_iadd M dX4_countOut_28 ?_
        refine r_istore_n M dX4_countOut_29 (by decide) ?_
        refine r_iinc1 M dX4_countOut_30 rfl (by decide) ?_
        refine r_goto M 4 dX4_countOut_33 (by decide) ?_
        refine r_lvs M _ (lvs_c rfl (lvs_c ?_ (lvs_c ?_ lvs_n))) (ih (k + 1) (by omega))
        · rw [hb]; rfl
        · rw [← nI_1]; rfl
      refine r_iload_n M dX4_countOut_4 rfl ?_
      refine r_iconst M 5 dX4_countOut_5 (by decide) ?_
      refine r_icmp_ge M 36 dX4_countOut_6 (by decide) (fun h9 => absurd h9 (nI_geF (n := 5) rfl (by omega) (by omega))) (fun _ => ?_)
      refine r_iload_n M dX4_countOut_9 rfl ?_
      refine r_aload_n M dX4_countOut_10 rfl ?_
      refine r_iload_n M dX4_countOut_11 rfl ?_
      refine r_iconst M 0 dX4_countOut_12 (by decide) ?_
      refine r_V2ik M (c_heightBehind te to lo cr ha he _ _ hv) lk_X4_54 dX4_countOut_13 (by decide +kernel) ⟨Nat.le_of_ble_eq_true rfl, Nat.le_of_ble_eq_true rfl⟩ ⟨rfl, rfl⟩ [0, 1, 2, 3, 4, 5, 6] rfl rfl rfl (by decide +kernel) rfl (Nat.le_of_ble_eq_true rfl) ?_
      refine r_iconst M 5 dX4_countOut_16 (by decide) ?_
      refine r_icmp_lt M 24 dX4_countOut_17 (by decide) (fun h => ?_) (fun h => ?_)
      · refine r_iconst M 0 dX4_countOut_24 (by decide) ?_
        exact go false (by rw [decide_eq_false (nle5.mp h)])
      · refine r_iconst M 1 dX4_countOut_20 (by decide) ?_
        refine r_goto M 25 dX4_countOut_21 (by decide) ?_
        exact go true (by rw [nle5, Decidable.not_not] at h; rw [decide_eq_true h])
  refine r_iconst M 0 dX4_countOut_0 (by decide) ?_
  refine r_istore_n M dX4_countOut_1 (by decide) ?_
  refine r_iconst M 0 dX4_countOut_2 (by decide) ?_
  refine r_istore_n M dX4_countOut_3 (by decide) ?_
  exact r_lvs M _ (lvs_c rfl (lvs_c rfl (lvs_c rfl lvs_n))) (loop 5 0 rfl)
theorem c_countHighTeeth (te to : Nat → Int32) (lo : Nat → Bool) (cr ha he : Nat → Int32) (wh : Int32) (hw : vp_in wh 5) (m : Nat) (hm : m ≤ 12) (hte : te wh.toNatClampNeg = nI m) : Con yX4_countHighTeeth cX4_countHighTeeth 4 (some .int) (rmk 1 23) [.ref 0, .int wh] (WW te to lo cr ha he) (some (.int (sumf (fun j => outI (hAt he wh (nI j))) m))) (WW te to lo cr ha he) := by
  refine Con.of (own := RX4) (by decide) rfl (Nat.le_of_ble_eq_true rfl) rfl (fun B M => ?_)
  have loop : ∀ n k : Nat, k + n = m → B 4 [(0, .ref 0), (1, .int wh), (2, .int (sumf (fun j => outI (hAt he wh (nI j))) k)), (3, .int (nI k))] [] (WW te to lo cr ha he) := by
    intro n
    induction n with
    | zero =>
      intro k hk
      obtain rfl : k = m := by omega
      refine r_iload_n M dX4_countHighTeeth_4 rfl ?_
      refine r_aload_n M dX4_countHighTeeth_5 rfl ?_
      refine r_get M fl_X4_9 dX4_countHighTeeth_6 rfl rfl ?_
      refine r_iload_n M dX4_countHighTeeth_9 rfl ?_
      refine r_iald M dX4_countHighTeeth_10 rfl hw ?_
      rw [hte]
      refine r_icmp_ge M 41 dX4_countHighTeeth_11 (by decide) (fun _ => ?_) (fun h9 => absurd (nI_le (Nat.le_refl _) (by omega)) h9)
      refine r_iload_n M dX4_countHighTeeth_41 rfl ?_
      exact r_iret M dX4_countHighTeeth_42 rfl rfl rfl
    | succ n ih =>
      intro k hk
      have go : ∀ b : Bool, b = decide (5 ≤ hAt he wh (nI k)) → B 30 [(0, .ref 0), (1, .int wh), (2, .int (sumf (fun j => outI (hAt he wh (nI j))) k)), (3, .int (nI k))] [.int (b2i b), .int (sumf (fun j => outI (hAt he wh (nI j))) k)] (WW te to lo cr ha he) := by
        intro b hb
        refine r_SN1ik M (c_toNumber _) lk_X4_71 ln_X4_71 dX4_countHighTeeth_30 (by decide +kernel) ⟨Nat.le_of_ble_eq_true rfl, Nat.le_of_ble_eq_true rfl⟩ ⟨rfl, rfl⟩ [] rfl (by decide +kernel) rfl (Nat.le_of_ble_eq_true rfl) ?_
        refine r_iadd M dX4_countHighTeeth_33 ?_
        refine r_istore_n M dX4_countHighTeeth_34 (by decide) ?_
        refine r_iinc1 M dX4_countHighTeeth_35 rfl (by decide) ?_
        refine r_goto M 4 dX4_countHighTeeth_38 (by decide) ?_
        refine r_lvs M _ (lvs_c rfl (lvs_c rfl (lvs_c ?_ (lvs_c ?_ lvs_n)))) (ih (k + 1) (by omega))
        · rw [hb]; rfl
        · rw [← nI_1]; rfl
      refine r_iload_n M dX4_countHighTeeth_4 rfl ?_
      refine r_aload_n M dX4_countHighTeeth_5 rfl ?_
      refine r_get M fl_X4_9 dX4_countHighTeeth_6 rfl rfl ?_
      refine r_iload_n M dX4_countHighTeeth_9 rfl ?_
      refine r_iald M dX4_countHighTeeth_10 rfl hw ?_
      rw [hte]
      refine r_icmp_ge M 41 dX4_countHighTeeth_11 (by decide) (fun h9 => absurd h9 (nI_ge (by omega) (by omega))) (fun _ => ?_)
      refine r_iload_n M dX4_countHighTeeth_14 rfl ?_
      refine r_aload_n M dX4_countHighTeeth_15 rfl ?_
      refine r_iload_n M dX4_countHighTeeth_16 rfl ?_
      refine r_iload_n M dX4_countHighTeeth_17 rfl ?_
      refine r_V2ik M (c_heightAt te to lo cr ha he _ _) lk_X4_61 dX4_countHighTeeth_18 (by decide +kernel) ⟨Nat.le_of_ble_eq_true rfl, Nat.le_of_ble_eq_true rfl⟩ ⟨rfl, rfl⟩ [0, 1, 2, 3, 4, 5, 6] rfl rfl rfl (by decide +kernel) rfl (Nat.le_of_ble_eq_true rfl) ?_
      refine r_iconst M 5 dX4_countHighTeeth_21 (by decide) ?_
      refine r_icmp_lt M 29 dX4_countHighTeeth_22 (by decide) (fun h => ?_) (fun h => ?_)
      · refine r_iconst M 0 dX4_countHighTeeth_29 (by decide) ?_
        exact go false (by rw [decide_eq_false (nle5.mp h)])
      · refine r_iconst M 1 dX4_countHighTeeth_25 (by decide) ?_
        refine r_goto M 30 dX4_countHighTeeth_26 (by decide) ?_
        exact go true (by rw [nle5, Decidable.not_not] at h; rw [decide_eq_true h])
  refine r_iconst M 0 dX4_countHighTeeth_0 (by decide) ?_
  refine r_istore_n M dX4_countHighTeeth_1 (by decide) ?_
  refine r_iconst M 0 dX4_countHighTeeth_2 (by decide) ?_
  refine r_istore_n M dX4_countHighTeeth_3 (by decide) ?_
  exact r_lvs M _ (lvs_c rfl (lvs_c rfl (lvs_c rfl (lvs_c rfl lvs_n)))) (loop m 0 (by omega))
/-- heights put at the first k teeth -/
def putN (he : Nat → Int32) (wh h : Int32) : Nat → (Nat → Int32)
  | 0 => he
  | k + 1 => putH (putN he wh h k) wh (nI k) h
theorem c_giveTeeth (te to : Nat → Int32) (lo : Nat → Bool) (cr ha he : Nat → Int32) (wh : Int32) (hw : vp_in wh 5) (m : Nat) (hm : m ≤ 12) : Con yX4_giveTeeth cX4_giveTeeth 5 none (rmk 2 46) [.ref 0, .int wh, .int (nI m)] (WW te to lo cr ha he) none (WW (upd te wh.toNatClampNeg (nI m)) (upd to wh.toNatClampNeg 0) lo (upd cr wh.toNatClampNeg 0) (upd ha wh.toNatClampNeg 0) (putN he wh (hB te to lo he wh 0) m)) := by
  refine Con.of (own := RX4) (by decide) rfl (Nat.le_of_ble_eq_true rfl) rfl (fun B M => ?_)
  have loop : ∀ n k : Nat, k + n = m → B 10 [(0, .ref 0), (1, .int wh), (2, .int (nI m)), (3, .int (hB te to lo he wh 0)), (4, .int (nI k))] [] (WW te to lo cr ha (putN he wh (hB te to lo he wh 0) k)) := by
    intro n
    induction n with
    | zero =>
      intro k hk
      obtain rfl : k = m := by omega
      refine r_iload M dX4_giveTeeth_10 rfl ?_
      refine r_iload_n M dX4_giveTeeth_12 rfl ?_
      refine r_icmp_ge M 30 dX4_giveTeeth_13 (by decide) (fun _ => ?_) (fun h9 => absurd (nI_le (Nat.le_refl _) (by omega)) h9)
      refine r_aload_n M dX4_giveTeeth_30 rfl ?_
      refine r_get M fl_X4_9 dX4_giveTeeth_31 rfl rfl ?_
      refine r_iload_n M dX4_giveTeeth_34 rfl ?_
      refine r_iload_n M dX4_giveTeeth_35 rfl ?_
      refine r_iast M dX4_giveTeeth_36 rfl hw ?_
      refine r_aload_n M dX4_giveTeeth_37 rfl ?_
      refine r_get M fl_X4_15 dX4_giveTeeth_38 rfl rfl ?_
      refine r_iload_n M dX4_giveTeeth_41 rfl ?_
      refine r_iconst M 0 dX4_giveTeeth_42 (by decide) ?_
      refine r_iast M dX4_giveTeeth_43 rfl hw ?_
      refine r_aload_n M dX4_giveTeeth_44 rfl ?_
      refine r_get M fl_X4_22 dX4_giveTeeth_45 rfl rfl ?_
      refine r_iload_n M dX4_giveTeeth_48 rfl ?_
      refine r_iconst M 0 dX4_giveTeeth_49 (by decide) ?_
      refine r_iast M dX4_giveTeeth_50 rfl hw ?_
      refine r_aload_n M dX4_giveTeeth_51 rfl ?_
      refine r_get M fl_X4_25 dX4_giveTeeth_52 rfl rfl ?_
      refine r_iload_n M dX4_giveTeeth_55 rfl ?_
      refine r_iconst M 0 dX4_giveTeeth_56 (by decide) ?_
      refine r_iast M dX4_giveTeeth_57 rfl hw ?_
      exact r_vret M dX4_giveTeeth_58 rfl rfl rfl
    | succ n ih =>
      intro k hk
      refine r_iload M dX4_giveTeeth_10 rfl ?_
      refine r_iload_n M dX4_giveTeeth_12 rfl ?_
      refine r_icmp_ge M 30 dX4_giveTeeth_13 (by decide) (fun h9 => absurd h9 (nI_ge (by omega) (by omega))) (fun _ => ?_)
      refine r_aload_n M dX4_giveTeeth_16 rfl ?_
      refine r_iload_n M dX4_giveTeeth_17 rfl ?_
      refine r_iload M dX4_giveTeeth_18 rfl ?_
      refine r_iload_n M dX4_giveTeeth_20 rfl ?_
      refine r_V3vu (w' :=  _) M (c_putHeight te to lo cr ha _ _ _ _) lk_X4_57 dX4_giveTeeth_21 (by decide +kernel) ⟨Nat.le_of_ble_eq_true rfl, Nat.le_of_ble_eq_true rfl⟩ ⟨rfl, rfl⟩ [0, 1, 2, 3, 4, 5, 6] rfl rfl rfl (by decide +kernel) rfl (Nat.le_of_ble_eq_true rfl) rfl ?_
      refine r_iinc1 M dX4_giveTeeth_24 rfl (by decide) ?_
      refine r_goto M 10 dX4_giveTeeth_27 (by decide) ?_
      refine r_lvs M _ (lvs_c rfl (lvs_c rfl (lvs_c rfl (lvs_c rfl (lvs_c ?_ lvs_n))))) (ih (k + 1) (by omega))
      rw [← nI_1]; rfl
  refine r_aload_n M dX4_giveTeeth_0 rfl ?_
  refine r_iload_n M dX4_giveTeeth_1 rfl ?_
  refine r_iconst M 0 dX4_giveTeeth_2 (by decide) ?_
  refine r_V2ik M (c_heightBehind te to lo cr ha he _ _ hw) lk_X4_54 dX4_giveTeeth_3 (by decide +kernel) ⟨Nat.le_of_ble_eq_true rfl, Nat.le_of_ble_eq_true rfl⟩ ⟨rfl, rfl⟩ [0, 1, 2, 3, 4, 5, 6] rfl rfl rfl (by decide +kernel) rfl (Nat.le_of_ble_eq_true rfl) ?_
  refine r_istore_n M dX4_giveTeeth_6 (by decide) ?_
  refine r_iconst M 0 dX4_giveTeeth_7 (by decide) ?_
  refine r_istore M dX4_giveTeeth_8 (by decide) ?_
  exact r_lvs M _ (lvs_c rfl (lvs_c rfl (lvs_c rfl (lvs_c rfl (lvs_c rfl lvs_n))))) (loop m 0 (by omega))
theorem c_wcopy (te to : Nat → Int32) (lo : Nat → Bool) (cr ha he te2 to2 : Nat → Int32) (lo2 : Nat → Bool) (cr2 ha2 he2 : Nat → Int32) : Con yX4_copy cX4_copy 3 none (rmk 1 40) [.ref 0, .ref 7] (WW te to lo cr ha he ++ WWo 7 te2 to2 lo2 cr2 ha2 he2) none (WW te2 to2 lo2 cr2 ha2 he2 ++ WWo 7 te2 to2 lo2 cr2 ha2 he2) := by
  refine Con.of (own := RX4) (by decide) rfl (Nat.le_of_ble_eq_true rfl) rfl (fun B M => ?_)
  have loop : ∀ n k : Nat, k + n = 5 → B 2 [(0, .ref 0), (1, .ref 7), (2, .int (nI k))] [] (WW (mixf k te2 te) (mixf k to2 to) (mixf k lo2 lo) (mixf k cr2 cr) (mixf k ha2 ha) he ++ WWo 7 te2 to2 lo2 cr2 ha2 he2) := by
    intro n
    induction n with
    | zero =>
      intro k hk
      obtain rfl : k = 5 := by omega
      refine r_iload_n M dX4_copy_2 rfl ?_
      refine r_iconst M 5 dX4_copy_3 (by decide) ?_
      refine r_icmp_ge M 73 dX4_copy_4 (by decide) (fun _ => ?_) (fun h9 => absurd (nI_geT (n := 5) rfl (by omega) (by omega)) h9)
      refine r_arr M 1 te2 rfl (fun j hj => mixf_in _ _ hj) ?_
      refine r_arr M 2 to2 rfl (fun j hj => mixf_in _ _ hj) ?_
      refine r_arr M 3 (fun j => b2i (lo2 j)) rfl (fun j hj => by rw [mixf_in _ _ hj]) ?_
      refine r_arr M 4 cr2 rfl (fun j hj => mixf_in _ _ hj) ?_
      refine r_arr M 5 ha2 rfl (fun j hj => mixf_in _ _ hj) ?_
      refine r_aload_n M dX4_copy_73 rfl ?_
      refine r_get M fl_X4_28 dX4_copy_74 rfl rfl ?_
      refine r_iconst M 0 dX4_copy_77 (by decide) ?_
      refine r_aload_n M dX4_copy_78 rfl ?_
      refine r_get M fl_X4_28 dX4_copy_79 rfl rfl ?_
      refine r_iconst M 0 dX4_copy_82 (by decide) ?_
      refine r_bipush M 60 dX4_copy_83 (by decide) ?_
      refine r_copy M lk_X4_41 dX4_copy_85 rfl rfl (by decide) (by decide) (by decide) (by decide) (by decide) (by decide) (by decide) ?_
      refine r_arr M 6 he2 rfl (fun j hj => by rw [pk_cpy_in (by exact Nat.zero_le _) (by rw [show (60 : Int32).toNatClampNeg = 60 from rfl, show (0 : Int32).toNatClampNeg = 0 from rfl]; omega)]; rw [show (0 : Int32).toNatClampNeg = 0 from rfl]; congr 1; omega) ?_
      exact r_vret M dX4_copy_88 rfl rfl rfl
    | succ n ih =>
      intro k hk
      have hv := nI5 k (by omega)
      have hc := cl5 k (by omega)
      have nx := ih (k + 1) (by omega)
      refine r_iload_n M dX4_copy_2 rfl ?_
      refine r_iconst M 5 dX4_copy_3 (by decide) ?_
      refine r_icmp_ge M 73 dX4_copy_4 (by decide) (fun h9 => absurd h9 (nI_geF (n := 5) rfl (by omega) (by omega))) (fun _ => ?_)
      refine r_aload_n M dX4_copy_7 rfl ?_
      refine r_get M fl_X4_9 dX4_copy_8 rfl rfl ?_
      refine r_iload_n M dX4_copy_11 rfl ?_
      refine r_aload_n M dX4_copy_12 rfl ?_
      refine r_get M fl_X4_9 dX4_copy_13 rfl rfl ?_
      refine r_iload_n M dX4_copy_16 rfl ?_
      refine r_iald M dX4_copy_17 rfl hv ?_
      refine r_iast M dX4_copy_18 rfl hv ?_
      refine r_aload_n M dX4_copy_19 rfl ?_
      refine r_get M fl_X4_15 dX4_copy_20 rfl rfl ?_
      refine r_iload_n M dX4_copy_23 rfl ?_
      refine r_aload_n M dX4_copy_24 rfl ?_
      refine r_get M fl_X4_15 dX4_copy_25 rfl rfl ?_
      refine r_iload_n M dX4_copy_28 rfl ?_
      refine r_iald M dX4_copy_29 rfl hv ?_
      refine r_iast M dX4_copy_30 rfl hv ?_
      refine r_aload_n M dX4_copy_31 rfl ?_
      refine r_get M fl_X4_18 dX4_copy_32 rfl rfl ?_
      refine r_iload_n M dX4_copy_35 rfl ?_
      refine r_aload_n M dX4_copy_36 rfl ?_
      refine r_get M fl_X4_18 dX4_copy_37 rfl rfl ?_
      refine r_iload_n M dX4_copy_40 rfl ?_
      refine r_zald M dX4_copy_41 rfl hv ?_
      refine r_zast M dX4_copy_42 rfl hv (b2i_nar _) ?_
      refine r_aload_n M dX4_copy_43 rfl ?_
      refine r_get M fl_X4_22 dX4_copy_44 rfl rfl ?_
      refine r_iload_n M dX4_copy_47 rfl ?_
      refine r_aload_n M dX4_copy_48 rfl ?_
      refine r_get M fl_X4_22 dX4_copy_49 rfl rfl ?_
      refine r_iload_n M dX4_copy_52 rfl ?_
      refine r_iald M dX4_copy_53 rfl hv ?_
      refine r_iast M dX4_copy_54 rfl hv ?_
      refine r_aload_n M dX4_copy_55 rfl ?_
      refine r_get M fl_X4_25 dX4_copy_56 rfl rfl ?_
      refine r_iload_n M dX4_copy_59 rfl ?_
      refine r_aload_n M dX4_copy_60 rfl ?_
      refine r_get M fl_X4_25 dX4_copy_61 rfl rfl ?_
      refine r_iload_n M dX4_copy_64 rfl ?_
      refine r_iald M dX4_copy_65 rfl hv ?_
      refine r_iast M dX4_copy_66 rfl hv ?_
      refine r_iinc1 M dX4_copy_67 rfl (by decide) ?_
      refine r_goto M 2 dX4_copy_70 (by decide) ?_
      simp only [hc]
      rw [mixf_upd, mixf_upd, mixf_upd, mixf_upd, mixf_b2i]
      refine r_lvs M _ (lvs_c rfl (lvs_c rfl (lvs_c ?_ lvs_n))) nx
      rw [← nI_1]; rfl
  have l0 := loop 5 0 rfl
  simp only [mixf_0] at l0
  refine r_iconst M 0 dX4_copy_0 (by decide) ?_
  refine r_istore_n M dX4_copy_1 (by decide) ?_
  exact r_lvs M _ (lvs_c rfl (lvs_c rfl (lvs_c rfl lvs_n))) l0


def inL : List Nat → Nat → Bool
  | [], _ => false
  | a :: t, k => bif Nat.beq a k then true else inL t k
def mixL (D : List Nat) : Nat → List va_E → List va_E → List va_E
  | _, [], _ => []
  | i, a :: as, [] => a :: as
  | i, a :: as, b :: bs => (bif inL D i then a else b) :: mixL D (i + 1) as bs
theorem mixL_get (D : List Nat) : ∀ (as bs : List va_E) (i k : Nat), as.length = bs.length → inL D (i + k) = false → (mixL D i as bs)[k]? = bs[k]?
  | [], [], i, k, _, _ => rfl
  | a :: as, [], i, k, h, _ => by simp at h
  | [], b :: bs, i, k, h, _ => by simp at h
  | a :: as, b :: bs, i, 0, _, h => by
    rw [Nat.add_zero] at h
    rw [mixL, h]; rfl
  | a :: as, b :: bs, i, k + 1, hl, h => by
    rw [mixL, List.getElem?_cons_succ, List.getElem?_cons_succ]
    exact mixL_get D as bs (i + 1) k (by simpa using hl) (by rw [show i + 1 + k = i + (k + 1) by omega]; exact h)
/-- a callee's world put back, where it changed the cells D alone -/
theorem putw_mix (D ps : List Nat) {w w0 wy : List va_E} (hsel : ps.map (fun k => (w[k]?).map (ne (fun t => t) (inn ps))) = w0.map some) (hlen : wy.length = w0.length) (hD : mixL D 0 wy w0 = wy) : putw ps wy w = mapN (fun k e => bif inL D (ixo ps k) then (match wy[ixo ps k]? with
  | some e1 => ne (fun t => t) (out ps) e1
  | none => e) else e) 0 w := by
  have hk := putw_keep hsel
  apply List.ext_getElem?
  intro k
  rw [putw_get, mapN_get, Nat.zero_add]
  cases hw : w[k]? with
  | none => rfl
  | some e =>
    simp only [Option.map_some]
    cases hc : inL D (ixo ps k) with
    | true => rfl
    | false =>
      simp only [cond_false]
      have h1 : wy[ixo ps k]? = w0[ixo ps k]? := by
        rw [← hD]
        exact mixL_get D wy w0 0 _ hlen (by rw [Nat.zero_add]; exact hc)
      have h2 := congrArg (fun l => l[k]?) hk
      simp only [putw_get, hw, Option.map_some] at h2
      rw [h1]
      exact h2
/-- the tops behind k steps forward -/
def itTo (te to : Nat → Int32) (lo : Nat → Bool) : Nat → (Nat → Int32)
  | 0 => to
  | k + 1 => tLk te (itTo te to lo k) lo 1
def itCr (lo : Nat → Bool) (cr : Nat → Int32) : Nat → (Nat → Int32)
  | 0 => cr
  | k + 1 => cLk lo (itCr lo cr k) 1
def itW (d : SD) (k : Nat) : WD := (sTe d, itTo (sTe d) (sTo d) (sLo d) k, sLo d, itCr (sLo d) (sCra d) k, sHa d, sHe d)
/-- the wheels are as they may be -/
def whOk (te to : Nat → Int32) : Prop := ∀ k, k < 5 → ∃ m b : Nat, 2 ≤ m ∧ m ≤ 12 ∧ te k = nI m ∧ b < m ∧ to k = nI b
theorem whOk.te {te to : Nat → Int32} (h : whOk te to) : teOk te := fun k hk => by
  obtain ⟨m, b, h1, h2, h3, -⟩ := h k hk
  exact ⟨m, by omega, h2, h3⟩
theorem md_nat (a m : Nat) (hm : 1 ≤ m) (ha : a < 2 ^ 31) (hm2 : m < 2 ^ 31) : md (nI a) (nI m) = nI (a % m) := by
  have h : a % m < m := Nat.mod_lt _ hm
  rw [← Int32.toInt_inj, md_toInt (by rw [nI_toInt hm2]; omega), nI_toInt ha, nI_toInt hm2, nI_toInt (by omega)]
  omega
theorem itTo_at {te to : Nat → Int32} (lo : Nat → Bool) {w m b : Nat} (h1 : 2 ≤ m) (h2 : m ≤ 12) (h3 : te w = nI m) (h4 : b < m) (h5 : to w = nI b) : ∀ k, itTo te to lo k w = if lo w = true then nI ((b + k) % m) else nI b
  | 0 => by
    rw [itTo, h5, Nat.add_zero, Nat.mod_eq_of_lt h4]
    split <;> rfl
  | k + 1 => by
    rw [itTo, tLk, itTo_at lo h1 h2 h3 h4 h5 k]
    split
    · have hb : (b + k) % m < m := Nat.mod_lt _ (by omega)
      rw [nI_1, h3, md_nat _ _ (by omega) (by omega) (by omega)]
      congr 1
      rw [← Nat.add_assoc, Nat.mod_add_mod]
    · rfl
theorem mod_back {b k m : Nat} (hb : b < m) : (b + k) % m = b ↔ m ∣ k := by
  constructor
  · intro h
    have h1 := Nat.div_add_mod (b + k) m
    rw [h] at h1
    exact ⟨(b + k) / m, by omega⟩
  · rintro ⟨c, rfl⟩
    rw [Nat.add_mul_mod_self_left, Nat.mod_eq_of_lt hb]
theorem rN_dvd (te : Nat → Int32) (lo : Nat → Bool) (x : Nat) : ∀ k, rN te lo k ∣ x ↔ ∀ w, w < k → lo w = true → (te w).toNatClampNeg ∣ x
  | 0 => ⟨fun _ w h => absurd h (Nat.not_lt_zero w), fun _ => by rw [rN]; exact Nat.one_dvd x⟩
  | k + 1 => by
    rw [rN]
    constructor
    · intro h w hw hl
      rcases Nat.lt_succ_iff_lt_or_eq.mp hw with h1 | rfl
      · refine (rN_dvd te lo x k).mp ?_ w h1 hl
        split at h
        · exact Nat.dvd_trans (Nat.dvd_lcm_left _ _) h
        · exact h
      · rw [if_pos hl] at h
        exact Nat.dvd_trans (Nat.dvd_lcm_right _ _) h
    · intro h
      have h1 := (rN_dvd te lo x k).mpr (fun w hw hl => h w (by omega) hl)
      split
      · rename_i hl
        exact Nat.lcm_dvd h1 (h k (by omega) hl)
      · exact h1
theorem it_back {te to : Nat → Int32} (lo : Nat → Bool) (h : whOk te to) (k : Nat) : eqf (itTo te to lo k) to 5 = true ↔ rN te lo 5 ∣ k := by
  rw [eqf_iff, rN_dvd]
  constructor
  · intro h1 w hw hl
    obtain ⟨m, b, a1, a2, a3, a4, a5⟩ := h w hw
    have h2 := h1 w hw
    have hb2 : (b + k) % m < m := Nat.mod_lt _ (by omega)
    rw [itTo_at lo a1 a2 a3 a4 a5, if_pos hl, a5] at h2
    rw [a3, nI_clamp (by omega)]
    exact (mod_back a4).mp ((nI_eq (by omega) (by omega)).mp h2)
  · intro h1 w hw
    obtain ⟨m, b, a1, a2, a3, a4, a5⟩ := h w hw
    rw [itTo_at lo a1 a2 a3 a4 a5, a5]
    split
    · rename_i hl
      have h2 := h1 w hw hl
      rw [a3, nI_clamp (by omega)] at h2
      rw [(mod_back a4).mpr h2]
    · rfl
section
variable (fsn ftx fpf frm : Value) (kp : Bool) (n : Int32) (d : SD) (t : WD)
theorem c_roundBySteps (h : whOk (sTe d) (sTo d)) : Con yX5_roundBySteps cX5_roundBySteps 2 (some .int) (rmk 2 62) [.ref 0] (RW fsn ftx fpf frm kp n d t) (some (.int (nI (rN (sTe d) (sLo d) 5)))) (RW fsn ftx fpf frm kp n d (itW d (rN (sTe d) (sLo d) 5))) := by
  refine Con.of (own := RX5) (by decide) rfl (Nat.le_of_ble_eq_true rfl) (Eq.trans (b := 19) rfl rfl) (fun B M => ?_)
  have hb := rN_lt (sLo d) h.te
  have loop : ∀ m k : Nat, k + m = rN (sTe d) (sLo d) 5 → 1 ≤ k → B 16 [(0, .ref 0), (1, .int (nI k))] [] (RW fsn ftx fpf frm kp n d (itW d (k - 1))) := by
    intro m
    induction m with
    | zero =>
      intro k hk h1
      obtain rfl : k = rN (sTe d) (sLo d) 5 := by omega
      have he : eqf (itTo (sTe d) (sTo d) (sLo d) (rN (sTe d) (sLo d) 5)) (sTo d) 5 = true := (it_back (sLo d) h _).mpr (Nat.dvd_refl _)
      have hs : itW d (rN (sTe d) (sLo d) 5) = (sTe d, tLk (sTe d) (itTo (sTe d) (sTo d) (sLo d) (rN (sTe d) (sLo d) 5 - 1)) (sLo d) 1, sLo d, cLk (sLo d) (itCr (sLo d) (sCra d) (rN (sTe d) (sLo d) 5 - 1)) 1, sHa d, sHe d) := by
        obtain ⟨j, hj⟩ : ∃ j, rN (sTe d) (sLo d) 5 = j + 1 := ⟨rN (sTe d) (sLo d) 5 - 1, by omega⟩
        rw [hj]; rfl
      have he2 : eqf (itW d (rN (sTe d) (sLo d) 5)).2.1 (sTo d) 5 = true := he
      generalize rN (sTe d) (sLo d) 5 = r at M hs he2 hb ⊢
      refine r_iload_n M dX5_roundBySteps_16 rfl ?_
      refine r_ldcw M kc_X5_304 dX5_roundBySteps_17 ?_
      refine r_icmp_ge M 56 dX5_roundBySteps_20 (by decide) (fun h9 => absurd h9 (nI_geF (n := 1000000) rfl (by omega) (by omega))) (fun _ => ?_)
      refine r_aload_n M dX5_roundBySteps_23 rfl ?_
      refine r_get M fl_X5_47 dX5_roundBySteps_24 rfl rfl ?_
      refine r_iconst M 1 dX5_roundBySteps_27 (by decide) ?_
      refine r_V1vu (w' :=  RW fsn ftx fpf frm kp n d (sTe d, tLk (sTe d) (itTo (sTe d) (sTo d) (sLo d) (r - 1)) (sLo d) 1, sLo d, cLk (sLo d) (itCr (sLo d) (sCra d) (r - 1)) 1, sHa d, sHe d)) M (c_turnLocked (sTe d) (itTo (sTe d) (sTo d) (sLo d) (r - 1)) (sLo d) (itCr (sLo d) (sCra d) (r - 1)) (sHa d) (sHe d) 1) lk_X5_305 dX5_roundBySteps_28 (by decide +kernel) ⟨Nat.le_of_ble_eq_true rfl, Nat.le_of_ble_eq_true rfl⟩ ⟨rfl, rfl⟩ [12, 13, 14, 15, 16, 17, 18] rfl rfl rfl (by decide +kernel) rfl (Nat.le_of_ble_eq_true rfl) rfl ?_
      rw [← hs]
      refine r_aload_n M dX5_roundBySteps_31 rfl ?_
      refine r_get M fl_X5_47 dX5_roundBySteps_32 rfl rfl ?_
      refine r_aload_n M dX5_roundBySteps_35 rfl ?_
      refine r_get M fl_X5_10 dX5_roundBySteps_36 rfl rfl ?_
      refine r_getN M fn_X5_62 dX5_roundBySteps_39 rfl rfl ?_
      refine r_V1ik M (c_hasTopsOf (itW d r).1 (itW d r).2.1 (itW d r).2.2.1 (itW d r).2.2.2.1 (itW d r).2.2.2.2.1 (itW d r).2.2.2.2.2 (sTe d) (sTo d) (sLo d) (sCra d) (sHa d) (sHe d)) lk_X5_308 dX5_roundBySteps_42 (by decide +kernel) ⟨Nat.le_of_ble_eq_true rfl, Nat.le_of_ble_eq_true rfl⟩ ⟨rfl, rfl⟩ [12, 13, 14, 15, 16, 17, 18, 4, 5, 6, 7, 8, 9, 10] rfl rfl rfl (by decide +kernel) rfl (Nat.le_of_ble_eq_true rfl) ?_
      rw [he2]
      refine r_if_eq M 50 dX5_roundBySteps_45 (by decide) (fun h9 => absurd h9 (by decide)) (fun _ => ?_)
      refine r_iload_n M dX5_roundBySteps_48 rfl ?_
      exact r_iret M dX5_roundBySteps_49 rfl rfl rfl
    | succ m ih =>
      intro k hk h1
      have he : eqf (itTo (sTe d) (sTo d) (sLo d) k) (sTo d) 5 = false := by
        cases hh : eqf (itTo (sTe d) (sTo d) (sLo d) k) (sTo d) 5 with
        | false => rfl
        | true =>
          have := Nat.le_of_dvd (by omega) ((it_back (sLo d) h _).mp hh)
          omega
      have hs : itW d k = (sTe d, tLk (sTe d) (itTo (sTe d) (sTo d) (sLo d) (k - 1)) (sLo d) 1, sLo d, cLk (sLo d) (itCr (sLo d) (sCra d) (k - 1)) 1, sHa d, sHe d) := by
        obtain ⟨j, rfl⟩ : ∃ j, k = j + 1 := ⟨k - 1, by omega⟩
        rfl
      have he2 : eqf (itW d k).2.1 (sTo d) 5 = false := he
      refine r_iload_n M dX5_roundBySteps_16 rfl ?_
      refine r_ldcw M kc_X5_304 dX5_roundBySteps_17 ?_
      refine r_icmp_ge M 56 dX5_roundBySteps_20 (by decide) (fun h9 => absurd h9 (nI_geF (n := 1000000) rfl (by omega) (by omega))) (fun _ => ?_)
      refine r_aload_n M dX5_roundBySteps_23 rfl ?_
      refine r_get M fl_X5_47 dX5_roundBySteps_24 rfl rfl ?_
      refine r_iconst M 1 dX5_roundBySteps_27 (by decide) ?_
      refine r_V1vu (w' :=  RW fsn ftx fpf frm kp n d (sTe d, tLk (sTe d) (itTo (sTe d) (sTo d) (sLo d) (k - 1)) (sLo d) 1, sLo d, cLk (sLo d) (itCr (sLo d) (sCra d) (k - 1)) 1, sHa d, sHe d)) M (c_turnLocked (sTe d) (itTo (sTe d) (sTo d) (sLo d) (k - 1)) (sLo d) (itCr (sLo d) (sCra d) (k - 1)) (sHa d) (sHe d) 1) lk_X5_305 dX5_roundBySteps_28 (by decide +kernel) ⟨Nat.le_of_ble_eq_true rfl, Nat.le_of_ble_eq_true rfl⟩ ⟨rfl, rfl⟩ [12, 13, 14, 15, 16, 17, 18] rfl rfl rfl (by decide +kernel) rfl (Nat.le_of_ble_eq_true rfl) rfl ?_
      rw [← hs]
      refine r_aload_n M dX5_roundBySteps_31 rfl ?_
      refine r_get M fl_X5_47 dX5_roundBySteps_32 rfl rfl ?_
      refine r_aload_n M dX5_roundBySteps_35 rfl ?_
      refine r_get M fl_X5_10 dX5_roundBySteps_36 rfl rfl ?_
      refine r_getN M fn_X5_62 dX5_roundBySteps_39 rfl rfl ?_
      refine r_V1ik M (c_hasTopsOf (itW d k).1 (itW d k).2.1 (itW d k).2.2.1 (itW d k).2.2.2.1 (itW d k).2.2.2.2.1 (itW d k).2.2.2.2.2 (sTe d) (sTo d) (sLo d) (sCra d) (sHa d) (sHe d)) lk_X5_308 dX5_roundBySteps_42 (by decide +kernel) ⟨Nat.le_of_ble_eq_true rfl, Nat.le_of_ble_eq_true rfl⟩ ⟨rfl, rfl⟩ [12, 13, 14, 15, 16, 17, 18, 4, 5, 6, 7, 8, 9, 10] rfl rfl rfl (by decide +kernel) rfl (Nat.le_of_ble_eq_true rfl) ?_
      rw [he2]
      refine r_if_eq M 50 dX5_roundBySteps_45 (by decide) (fun _ => ?_) (fun h9 => absurd rfl h9)
      refine r_iinc1 M dX5_roundBySteps_50 rfl (by decide) ?_
      refine r_goto M 16 dX5_roundBySteps_53 (by decide) ?_
      refine r_lvs M _ (lvs_c rfl (lvs_c ?_ lvs_n)) (ih (k + 1) (by omega) (by omega))
      rw [← nI_1]; rfl
  have l0 := loop (rN (sTe d) (sLo d) 5 - 1) 1 (by omega) (Nat.le_refl _)
  refine r_aload_n M dX5_roundBySteps_0 rfl ?_
  refine r_get M fl_X5_47 dX5_roundBySteps_1 rfl rfl ?_
  refine r_aload_n M dX5_roundBySteps_4 rfl ?_
  refine r_get M fl_X5_10 dX5_roundBySteps_5 rfl rfl ?_
  refine r_getN M fn_X5_62 dX5_roundBySteps_8 rfl rfl ?_
  refine r_V1vu (w' :=  RW fsn ftx fpf frm kp n d (itW d 0)) M (c_wcopy t.1 t.2.1 t.2.2.1 t.2.2.2.1 t.2.2.2.2.1 t.2.2.2.2.2 (sTe d) (sTo d) (sLo d) (sCra d) (sHa d) (sHe d)) lk_X5_116 dX5_roundBySteps_11 (by decide +kernel) ⟨Nat.le_of_ble_eq_true rfl, Nat.le_of_ble_eq_true rfl⟩ ⟨rfl, rfl⟩ [12, 13, 14, 15, 16, 17, 18, 4, 5, 6, 7, 8, 9, 10] rfl rfl rfl (by decide +kernel) rfl (Nat.le_of_ble_eq_true rfl) rfl ?_
  refine r_iconst M 1 dX5_roundBySteps_14 (by decide) ?_
  refine r_istore_n M dX5_roundBySteps_15 (by decide) ?_
  exact r_lvs M _ (lvs_c rfl (lvs_c rfl lvs_n)) l0
theorem c_round1 (h : teOk (sTe d)) : Con yX5_round cX5_round 2 (some .int) (rmk 6 150) [.ref 0, .int 1] (RW fsn ftx fpf frm kp n d t) (some (.int (nI (rN (sTe d) (sLo d) 5)))) (RW fsn ftx fpf frm kp n d t) := by
  refine Con.of (own := RX5) (by decide) rfl (Nat.le_of_ble_eq_true rfl) rfl (fun B M => ?_)
  refine r_iload_n M dX5_round_0 rfl ?_
  refine r_if_lt M 9 dX5_round_1 (by decide) (fun h9 => absurd h9 (by decide)) (fun _ => ?_)
  refine r_iload_n M dX5_round_4 rfl ?_
  refine r_iconst M 1 dX5_round_5 (by decide) ?_
  refine r_icmp_le M 20 dX5_round_6 (by decide) (fun _ => ?_) (fun h9 => absurd (by decide) h9)
  refine r_iload_n M dX5_round_20 rfl ?_
  refine r_if_ne M 31 dX5_round_21 (by decide) (fun _ => ?_) (fun h9 => absurd h9 (by decide))
  refine r_aload_n M dX5_round_31 rfl ?_
  refine r_get M fl_X5_10 dX5_round_32 rfl rfl ?_
  refine r_getN M fn_X5_62 dX5_round_35 rfl rfl ?_
  refine r_V0ik M (c_rounds (sTo d) (sLo d) (sCra d) (sHa d) (sHe d) h) lk_X5_276 dX5_round_38 (by decide +kernel) ⟨Nat.le_of_ble_eq_true rfl, Nat.le_of_ble_eq_true rfl⟩ ⟨rfl, rfl⟩ [4, 5, 6, 7, 8, 9, 10] rfl rfl rfl (by decide +kernel) rfl (Nat.le_of_ble_eq_true rfl) ?_
  exact r_iret M dX5_round_41 rfl rfl rfl
theorem c_round0 (h : whOk (sTe d) (sTo d)) : Con yX5_round cX5_round 2 (some .int) (rmk 6 150) [.ref 0, .int 0] (RW fsn ftx fpf frm kp n d t) (some (.int (nI (rN (sTe d) (sLo d) 5)))) (RW fsn ftx fpf frm kp n d (itW d (rN (sTe d) (sLo d) 5))) := by
  refine Con.of (own := RX5) (by decide) rfl (Nat.le_of_ble_eq_true rfl) (Eq.trans (b := 19) rfl rfl) (fun B M => ?_)
  generalize hr : rN (sTe d) (sLo d) 5 = r at M ⊢
  refine r_iload_n M dX5_round_0 rfl ?_
  refine r_if_lt M 9 dX5_round_1 (by decide) (fun h9 => absurd h9 (by decide)) (fun _ => ?_)
  refine r_iload_n M dX5_round_4 rfl ?_
  refine r_iconst M 1 dX5_round_5 (by decide) ?_
  refine r_icmp_le M 20 dX5_round_6 (by decide) (fun _ => ?_) (fun h9 => absurd (by decide) h9)
  refine r_iload_n M dX5_round_20 rfl ?_
  refine r_if_ne M 31 dX5_round_21 (by decide) (fun h9 => absurd rfl h9) (fun _ => ?_)
  refine r_aload_n M dX5_round_24 rfl ?_
  have hcon := c_roundBySteps (nv (inn [0, 1, 2, 3, 4, 5, 6, 7, 8, 9, 10, 11, 12, 13, 14, 15, 16, 17, 18]) fsn) (nv (inn [0, 1, 2, 3, 4, 5, 6, 7, 8, 9, 10, 11, 12, 13, 14, 15, 16, 17, 18]) ftx) (nv (inn [0, 1, 2, 3, 4, 5, 6, 7, 8, 9, 10, 11, 12, 13, 14, 15, 16, 17, 18]) fpf) (nv (inn [0, 1, 2, 3, 4, 5, 6, 7, 8, 9, 10, 11, 12, 13, 14, 15, 16, 17, 18]) frm) kp n d t h
  rw [hr] at hcon
  refine r_V0iu (w' := RW fsn ftx fpf frm kp n d (itW d r)) M hcon lk_X5_273 dX5_round_25 (by decide +kernel) ⟨Nat.le_of_ble_eq_true rfl, Nat.le_of_ble_eq_true rfl⟩ ⟨rfl, rfl⟩ [0, 1, 2, 3, 4, 5, 6, 7, 8, 9, 10, 11, 12, 13, 14, 15, 16, 17, 18] rfl rfl rfl (by decide +kernel) rfl (Nat.le_of_ble_eq_true rfl) (by rw [putw_mix [13, 14, 15, 16, 17, 18] _ (w0 := RW (nv (inn [0, 1, 2, 3, 4, 5, 6, 7, 8, 9, 10, 11, 12, 13, 14, 15, 16, 17, 18]) fsn) (nv (inn [0, 1, 2, 3, 4, 5, 6, 7, 8, 9, 10, 11, 12, 13, 14, 15, 16, 17, 18]) ftx) (nv (inn [0, 1, 2, 3, 4, 5, 6, 7, 8, 9, 10, 11, 12, 13, 14, 15, 16, 17, 18]) fpf) (nv (inn [0, 1, 2, 3, 4, 5, 6, 7, 8, 9, 10, 11, 12, 13, 14, 15, 16, 17, 18]) frm) kp n d t) rfl (Eq.trans (b := 19) rfl rfl) rfl]; rfl) ?_
  refine r_goto M 41 dX5_round_28 (by decide) ?_
  exact r_iret M dX5_round_41 rfl rfl rfl
end


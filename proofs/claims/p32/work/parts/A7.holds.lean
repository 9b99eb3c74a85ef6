/-! holds -/
theorem good_now {d : SD} (h : alD d = true) : goodG d (-1) 0 (sSe d) = true := by
  rw [al_iff] at h
  have e : ∀ j, j < 60 → ghG d (-1) 0 j = hB (sTe d) (sTo d) (sLo d) (sHe d) (nI j) 0 := fun j hj => by
    rw [ghG, if_neg]
    intro z
    have := congrArg Int32.toInt z
    rw [nI_toInt (by omega), show (-1 : Int32).toInt = -1 from rfl] at this
    omega
  rw [goodG, decide_eq_true_iff, e 0 (by omega), e 1 (by omega), e 2 (by omega), e 3 (by omega), e 4 (by omega)]
  exact h
theorem place_rem {c : Int32} (h1 : -9999 ≤ c.toInt) (h2 : c.toInt ≤ 9999) : md c 60 = c + 60000 - (c + 60000) / 60 * 60 := by
  obtain ⟨n, hn⟩ : ∃ n : Nat, c.toInt + 60000 = n := ⟨(c.toInt + 60000).toNat, by omega⟩
  have e : c + 60000 = nI n := by
    rw [← Int32.toInt_inj, add_toInt (by rw [show (60000 : Int32).toInt = 60000 from rfl]; omega) (by rw [show (60000 : Int32).toInt = 60000 from rfl]; omega), show (60000 : Int32).toInt = 60000 from rfl, hn, nI_toInt (by omega)]
  rw [e, show (60 : Int32) = nI 60 from rfl, pk_rem (by omega) (by decide) (by decide), ← Int32.toInt_inj, md_toInt (by decide), nI_toInt (by omega), nI_toInt (by have := Nat.mod_lt n (show 0 < 60 by decide); omega)]
  omega
theorem cau_li (st : Nat → Bool) (cr : Int32) (li : Bool) : b2i (cau st cr li) = 0 ∨ b2i li = 0 := by
  cases li
  · exact Or.inr rfl
  · exact Or.inl rfl
theorem hB_now {te to : Nat → Int32} (lo : Nat → Bool) (he : Nat → Int32) {w m b : Nat} (hw : w < 5) (hm : m ≤ 12) (hte : te w = nI m) (hb : b < m) (hto : to w = nI b) : hB te to lo he (nI w) 0 = hAt he (nI w) (nI b) := by
  rw [top_h lo he hw hm hte hb hto, hAt_at he w b hw (by omega)]
theorem hB_loose {te to : Nat → Int32} {lo : Nat → Bool} (he : Nat → Int32) {w : Nat} (hw : w < 5) (h : lo w = false) (x y : Int32) : hB te to lo he (nI w) x = hB te to lo he (nI w) y := by
  rw [hB, hB, tpB, tpB, cl5 w (by omega), h, if_neg (by decide), if_neg (by decide)]
theorem outI_1 (h : Int32) : (outI h = 1 ↔ 4 < h) := by
  have e : 4 < h ↔ 5 ≤ h := by rw [ltIc (n := 4) rfl, leIc (n := 5) rfl]; omega
  rw [e, outI]
  by_cases c : 5 ≤ h
  · rw [decide_eq_true c]; exact ⟨fun _ => c, fun _ => rfl⟩
  · rw [decide_eq_false c]; exact ⟨fun z => absurd z (by decide), fun z => absurd z c⟩
theorem outI_F {h : Int32} (c : ¬ h ≤ 4) : outI h = 1 := by
  rw [outI, decide_eq_true ((leIc (N := 5) (n := 5) rfl).mpr (by rw [leIc2 (n := 4) rfl] at c; omega))]; rfl
theorem outI_T {h : Int32} (c : h ≤ 4) : outI h = 0 := by
  rw [outI, decide_eq_false (fun z => by rw [leIc2 (n := 4) rfl] at c; rw [leIc (n := 5) rfl] at z; omega)]; rfl
theorem mean_ok : ∀ s : Fin 46, (decide (mV s.val &&& 0x7fffffff ≤ 0x7f800000) && decide (Op.cmpValue (FP.fcmp (mV s.val) (mV s.val)) .l = 0)) = true := by decide +kernel
theorem mean_n {b : Nat} {d : SD} (h : GOk b d) : vf_n32 (mnD d) ∧ Op.cmpValue (FP.fcmp (mnD d) (mnD d)) .l = 0 := by
  obtain ⟨s, hs, e⟩ := mn_V h
  have h2 := mean_ok ⟨s, by omega⟩
  rw [Bool.and_eq_true] at h2
  rw [e]
  exact ⟨n32d h2.1, of_decide_eq_true h2.2⟩
/-- the scene as it is now -/
theorem scn_now {d : SD} {a : Int32} (hal : alD d = true) (h : asSc (sTe d) (sTo d) (sLo d) (sHe d) (sScn d) a 0 = true) : fltOf (hSc (sScn d) a 0) (hSc (sScn d) a 1) (hSc (sScn d) a 2) (hSc (sScn d) a 3) (hSc (sScn d) a 4) (sSe d) = 0 := by
  rw [asSc, eqf_iff] at h
  have e0 : hB (sTe d) (sTo d) (sLo d) (sHe d) 0 0 = hSc (sScn d) a 0 := h 0 (by omega)
  have e1 : hB (sTe d) (sTo d) (sLo d) (sHe d) 1 0 = hSc (sScn d) a 1 := h 1 (by omega)
  have e2 : hB (sTe d) (sTo d) (sLo d) (sHe d) 2 0 = hSc (sScn d) a 2 := h 2 (by omega)
  have e3 : hB (sTe d) (sTo d) (sLo d) (sHe d) 3 0 = hSc (sScn d) a 3 := h 3 (by omega)
  have e4 : hB (sTe d) (sTo d) (sLo d) (sHe d) 4 0 = hSc (sScn d) a 4 := h 4 (by omega)
  rw [← e0, ← e1, ← e2, ← e3, ← e4]
  exact al_iff.mp hal
theorem scn_5 {d : SD} {a : Int32} : scnD d a (nI 5) = b2i (asSc (sTe d) (sTo d) (sLo d) (sHe d) (sScn d) a 0) := by rw [scnD, if_pos (by decide)]
theorem scn_6 {d : SD} {a : Int32} : scnD d a (nI 6) = b2i (decide (fltOf (hSc (sScn d) a 0) (hSc (sScn d) a 1) (hSc (sScn d) a 2) (hSc (sScn d) a 3) (hSc (sScn d) a 4) (sSe d) = 0)) := by rw [scnD, if_neg (by decide), if_pos (by decide)]
theorem scn_7 {d : SD} {a : Int32} : scnD d a (nI 7) = untG d a (rN (sTe d) (sLo d) 5) 0 := by rw [scnD, if_neg (by decide), if_neg (by decide), if_pos (by decide)]
theorem scn_w {d : SD} {a : Int32} {w : Nat} (hw : w < 5) : scnD d a (nI w) = hSc (sScn d) a (nI w) := by
  rcases (by omega : w = 0 ∨ w = 1 ∨ w = 2 ∨ w = 3 ∨ w = 4) with rfl | rfl | rfl | rfl | rfl <;> rw [scnD, if_neg (by decide), if_neg (by decide), if_neg (by decide)]
section
variable {b : Nat} {d d1 : SD} {k : Nat} {rm : Nat → Nat} {R : Nat → SD} {t : WD}
abbrev sO (d : SD) : Nat → Int32 := sumf (fun j => outI (hB (sTe d) (sTo d) (sLo d) (sHe d) (nI j) 0))
abbrev sL (d : SD) : Nat → Int32 := sumf (fun j => b2i (sLo d j))
abbrev sH (d : SD) : Nat → Int32 := sumf (fun j => hB (sTe d) (sTo d) (sLo d) (sHe d) (nI j) 0)
abbrev MH (d d1 : SD) (k : Nat) (rm : Nat → Nat) (R : Nat → SD) (t : WD) (k9 n9 : Nat) (B : KT) : Prop := MG RL cL_holds 8 (some .boolean) (rmn 8 1 5 197) k9 n9 (XM (some (.int 1)) (OW d d1 k rm R t) 1 5) B
theorem h_487 {k9 n9 : Nat} {B : KT} (hrm : ∀ j, rm j < 6) (hd : GP b d) (M : MH d d1 k rm R t k9 n9 B) : B 487 [(0, .ref 0), (1, .int (sO d 5)), (2, .int (sL d 5)), (3, .int (sH d 5)), (4, .int 1)] [] (OW d d1 k rm R t) := by
  obtain ⟨hn, hc⟩ := mean_n hd.1
  refine g_iload M dL_holds_487 rfl ?_
  refine g_if_eq M 528 dL_holds_489 (by decide) (fun h9 => absurd h9 (by decide)) (fun _ => ?_)
  refine g_iload_n M dL_holds_492 rfl ?_
  refine g_aload_n M dL_holds_493 rfl ?_
  refine g_bipush M 8 dL_holds_494 (by decide) ?_
  refine q_V1i M (l_cnt8 hrm) lk_L_13 dL_holds_496 (by decide +kernel) ⟨Nat.le_of_ble_eq_true rfl, Nat.le_of_ble_eq_true rfl⟩ ⟨rfl, rfl⟩ nd95 rfl rfl rfl (Nat.le_of_ble_eq_true rfl) ?_
  refine g_icmp_ne M 528 dL_holds_499 (by decide) (fun h9 => absurd rfl h9) (fun _ => ?_)
  refine g_iload_n M dL_holds_502 rfl ?_
  refine g_aload_n M dL_holds_503 rfl ?_
  refine g_iconst M 5 dL_holds_504 (by decide) ?_
  refine q_V1i M (l_cnt5 hrm) lk_L_13 dL_holds_505 (by decide +kernel) ⟨Nat.le_of_ble_eq_true rfl, Nat.le_of_ble_eq_true rfl⟩ ⟨rfl, rfl⟩ nd95 rfl rfl rfl (Nat.le_of_ble_eq_true rfl) ?_
  refine g_icmp_ne M 528 dL_holds_508 (by decide) (fun h9 => absurd rfl h9) (fun _ => ?_)
  refine g_aload_n M dL_holds_511 rfl ?_
  refine q_V0f M (l_mean hrm hn) lk_L_80 dL_holds_512 (by decide +kernel) ⟨Nat.le_of_ble_eq_true rfl, Nat.le_of_ble_eq_true rfl⟩ ⟨rfl, rfl⟩ nd95 rfl rfl rfl (Nat.le_of_ble_eq_true rfl) ?_
  refine g_iload_n M dL_holds_515 rfl ?_
  refine g_i2f M dL_holds_516 ?_
  refine g_ldcf M kc_L_84 dL_holds_517 ?_
  refine g_fdiv M dL_holds_519 hn ?_
  refine g_fcmp M dL_holds_520 ?_
  refine g_if_ne M 528 dL_holds_521 (by decide) (fun h9 => absurd hc h9) (fun _ => ?_)
  refine g_iconst M 1 dL_holds_524 (by decide) ?_
  refine g_goto M 529 dL_holds_525 (by decide) ?_
  exact m_zret M dL_holds_529 rfl rfl rfl (List.append_nil _).symm
theorem h_372 {k9 n9 : Nat} {B : KT} (hrm : ∀ j, rm j < 6) (hd : GP b d) {c : Nat} (hc : c ≤ 6) (hsc : sSc d = nI c) (M : MH d d1 k rm R t k9 n9 B) : ∀ m a : Nat, a + m = c → B 372 [(0, .ref 0), (1, .int (sO d 5)), (2, .int (sL d 5)), (3, .int (sH d 5)), (4, .int 1), (5, .int (nI a))] [] (OW d d1 k rm R t) := by
  have hte := hd.1.1.te
  intro m
  induction m with
  | zero =>
    intro a ha
    refine g_iload M dL_holds_372 rfl ?_
    refine g_aload_n M dL_holds_374 rfl ?_
    refine g_bipush M 7 dL_holds_375 (by decide) ?_
    refine q_V1i M (l_cnt7 hrm) lk_L_13 dL_holds_377 (by decide +kernel) ⟨Nat.le_of_ble_eq_true rfl, Nat.le_of_ble_eq_true rfl⟩ ⟨rfl, rfl⟩ nd95 rfl rfl rfl (Nat.le_of_ble_eq_true rfl) ?_
    rw [hsc]
    refine g_icmp_ge M 487 dL_holds_380 (by decide) (fun _ => ?_) (fun h9 => absurd (nI_le (by omega) (by omega)) h9)
    exact g_lvs M _ (lvs_c rfl (lvs_c rfl (lvs_c rfl (lvs_c rfl (lvs_c rfl lvs_n))))) (h_487 hrm hd M)
  | succ m ih =>
    intro a ha
    have hok : 0 ≤ (nI a).toInt ∧ nI a < sSc d := by rw [hsc, nI_toInt (by omega), nI_ltI (by omega) (by omega)]; omega
    have k474 : B 474 [(0, .ref 0), (1, .int (sO d 5)), (2, .int (sL d 5)), (3, .int (sH d 5)), (5, .int (nI a))] [] (OW d d1 k rm R t) := by
      refine g_iconst M 1 dL_holds_474 (by decide) ?_
      refine g_goto M 479 dL_holds_475 (by decide) ?_
      refine g_istore M dL_holds_479 (by decide) ?_
      refine g_iinc1 M dL_holds_481 rfl (by decide) ?_
      refine g_goto M 372 dL_holds_484 (by decide) ?_
      refine g_lvs M _ (lvs_c rfl (lvs_c rfl (lvs_c rfl (lvs_c rfl (lvs_c rfl (lvs_c rfl lvs_n)))))) (by have h := ih (a + 1) (by omega); rw [nI_succ] at h; exact h)
    have k431 : B 431 [(0, .ref 0), (1, .int (sO d 5)), (2, .int (sL d 5)), (3, .int (sH d 5)), (4, .int 1), (5, .int (nI a)), (6, .int (b2i (asSc (sTe d) (sTo d) (sLo d) (sHe d) (sScn d) (nI a) 0)))] [] (OW d d1 k rm R t) := by
      refine g_iload M dL_holds_431 rfl ?_
      refine g_if_eq M 478 dL_holds_433 (by decide) (fun h9 => absurd h9 (by decide)) (fun _ => ?_)
      refine g_aload_n M dL_holds_436 rfl ?_
      refine g_iload M dL_holds_437 rfl ?_
      refine g_iconst M 5 dL_holds_439 (by decide) ?_
      refine q_V2i M (l_scn hrm hte (nI a) hok 5 (by omega)) lk_L_26 dL_holds_440 (by decide +kernel) ⟨Nat.le_of_ble_eq_true rfl, Nat.le_of_ble_eq_true rfl⟩ ⟨rfl, rfl⟩ nd95 rfl rfl rfl (Nat.le_of_ble_eq_true rfl) ?_
      rw [scn_5]
      cases hA : asSc (sTe d) (sTo d) (sLo d) (sHe d) (sScn d) (nI a) 0 with
      | true =>
        refine g_iconst M 1 dL_holds_443 (by decide) ?_
        refine g_icmp_ne M 451 dL_holds_444 (by decide) (fun h9 => absurd rfl h9) (fun _ => ?_)
        refine g_iconst M 1 dL_holds_447 (by decide) ?_
        refine g_goto M 452 dL_holds_448 (by decide) ?_
        refine g_iload M dL_holds_452 rfl ?_
        refine g_icmp_ne M 478 dL_holds_454 (by decide) (fun h9 => absurd rfl h9) (fun _ => ?_)
        refine g_iload M dL_holds_457 rfl ?_
        refine g_if_eq M 474 dL_holds_459 (by decide) (fun h9 => absurd h9 (by decide)) (fun _ => ?_)
        refine g_aload_n M dL_holds_462 rfl ?_
        refine g_iload M dL_holds_463 rfl ?_
        refine g_bipush M 6 dL_holds_465 (by decide) ?_
        refine q_V2i M (l_scn hrm hte (nI a) hok 6 (by omega)) lk_L_26 dL_holds_467 (by decide +kernel) ⟨Nat.le_of_ble_eq_true rfl, Nat.le_of_ble_eq_true rfl⟩ ⟨rfl, rfl⟩ nd95 rfl rfl rfl (Nat.le_of_ble_eq_true rfl) ?_
        rw [scn_6, decide_eq_true (scn_now hd.1.2.2.1 hA)]
        refine g_iconst M 1 dL_holds_470 (by decide) ?_
        refine g_icmp_ne M 478 dL_holds_471 (by decide) (fun h9 => absurd rfl h9) (fun _ => ?_)
        exact g_lvs M _ (lvs_c rfl (lvs_c rfl (lvs_c rfl (lvs_c rfl (lvs_c rfl lvs_n))))) k474
      | false =>
        refine g_iconst M 1 dL_holds_443 (by decide) ?_
        refine g_icmp_ne M 451 dL_holds_444 (by decide) (fun _ => ?_) (fun h9 => absurd h9 (by decide))
        refine g_iconst M 0 dL_holds_451 (by decide) ?_
        refine g_iload M dL_holds_452 rfl ?_
        refine g_icmp_ne M 478 dL_holds_454 (by decide) (fun h9 => absurd rfl h9) (fun _ => ?_)
        refine g_iload M dL_holds_457 rfl ?_
        refine g_if_eq M 474 dL_holds_459 (by decide) (fun _ => ?_) (fun h9 => absurd rfl h9)
        exact g_lvs M _ (lvs_c rfl (lvs_c rfl (lvs_c rfl (lvs_c rfl (lvs_c rfl lvs_n))))) k474
    have loop : ∀ n w : Nat, w + n = 5 → B 389 [(0, .ref 0), (1, .int (sO d 5)), (2, .int (sL d 5)), (3, .int (sH d 5)), (4, .int 1), (5, .int (nI a)), (6, .int (b2i (eqf (fun j => hB (sTe d) (sTo d) (sLo d) (sHe d) (nI j) 0) (fun j => hSc (sScn d) (nI a) (nI j)) w))), (7, .int (nI w))] [] (OW d d1 k rm R t) := by
      intro n
      induction n with
      | zero =>
        intro w hw
        obtain rfl : w = 5 := by omega
        refine g_iload M dL_holds_389 rfl ?_
        refine g_iconst M 5 dL_holds_391 (by decide) ?_
        refine g_icmp_ge M 431 dL_holds_392 (by decide) (fun _ => ?_) (fun h9 => absurd (by decide) h9)
        exact g_lvs M _ (lvs_c rfl (lvs_c rfl (lvs_c rfl (lvs_c rfl (lvs_c rfl (lvs_c rfl (lvs_c rfl lvs_n))))))) k431
      | succ n ih2 =>
        intro w hw
        have k423 : ∀ x : Bool, x = eqf (fun j => hB (sTe d) (sTo d) (sLo d) (sHe d) (nI j) 0) (fun j => hSc (sScn d) (nI a) (nI j)) (w + 1) → B 423 [(0, .ref 0), (1, .int (sO d 5)), (2, .int (sL d 5)), (3, .int (sH d 5)), (4, .int 1), (5, .int (nI a)), (7, .int (nI w))] [.int (b2i x)] (OW d d1 k rm R t) := by
          intro x hx
          refine g_istore M dL_holds_423 (by decide) ?_
          refine g_iinc1 M dL_holds_425 rfl (by decide) ?_
          refine g_goto M 389 dL_holds_428 (by decide) ?_
          rw [hx]
          refine g_lvs M _ (lvs_c rfl (lvs_c rfl (lvs_c rfl (lvs_c rfl (lvs_c rfl (lvs_c rfl (lvs_c rfl (lvs_c rfl lvs_n)))))))) (by have h := ih2 (w + 1) (by omega); rw [nI_succ] at h; exact h)
        refine g_iload M dL_holds_389 rfl ?_
        refine g_iconst M 5 dL_holds_391 (by decide) ?_
        refine g_icmp_ge M 431 dL_holds_392 (by decide) (fun h9 => absurd h9 (nI_ge (a := w) (b := 5) (by omega) (by omega))) (fun _ => ?_)
        refine g_iload M dL_holds_395 rfl ?_
        cases hE : eqf (fun j => hB (sTe d) (sTo d) (sLo d) (sHe d) (nI j) 0) (fun j => hSc (sScn d) (nI a) (nI j)) w with
        | false =>
          refine g_if_eq M 422 dL_holds_397 (by decide) (fun _ => ?_) (fun h9 => absurd rfl h9)
          refine g_iconst M 0 dL_holds_422 (by decide) ?_
          exact g_lvs M _ (lvs_c rfl (lvs_c rfl (lvs_c rfl (lvs_c rfl (lvs_c rfl (lvs_c rfl (lvs_c rfl lvs_n))))))) (k423 false (by rw [eqf, hE]; rfl))
        | true =>
          refine g_if_eq M 422 dL_holds_397 (by decide) (fun h9 => absurd h9 (by decide)) (fun _ => ?_)
          refine g_aload_n M dL_holds_400 rfl ?_
          refine g_iload M dL_holds_401 rfl ?_
          refine g_iload M dL_holds_403 rfl ?_
          refine q_V2i M (l_scn hrm hte (nI a) hok w (by omega)) lk_L_26 dL_holds_405 (by decide +kernel) ⟨Nat.le_of_ble_eq_true rfl, Nat.le_of_ble_eq_true rfl⟩ ⟨rfl, rfl⟩ nd95 rfl rfl rfl (Nat.le_of_ble_eq_true rfl) ?_
          rw [scn_w (by omega)]
          refine g_aload_n M dL_holds_408 rfl ?_
          refine g_iload M dL_holds_409 rfl ?_
          refine g_iconst M 3 dL_holds_411 (by decide) ?_
          refine q_V2i M (l_wh3 hrm hte w (by omega)) lk_L_19 dL_holds_412 (by decide +kernel) ⟨Nat.le_of_ble_eq_true rfl, Nat.le_of_ble_eq_true rfl⟩ ⟨rfl, rfl⟩ nd95 rfl rfl rfl (Nat.le_of_ble_eq_true rfl) ?_
          refine g_icmp_ne M 422 dL_holds_415 (by decide) (fun hq => ?_) (fun hq => ?_)
          · refine g_iconst M 0 dL_holds_422 (by decide) ?_
            exact g_lvs M _ (lvs_c rfl (lvs_c rfl (lvs_c rfl (lvs_c rfl (lvs_c rfl (lvs_c rfl (lvs_c rfl lvs_n))))))) (k423 false (by rw [eqf, hE, decide_eq_false (fun z => hq z.symm)]; rfl))
          · refine g_iconst M 1 dL_holds_418 (by decide) ?_
            refine g_goto M 423 dL_holds_419 (by decide) ?_
            exact g_lvs M _ (lvs_c rfl (lvs_c rfl (lvs_c rfl (lvs_c rfl (lvs_c rfl (lvs_c rfl (lvs_c rfl lvs_n))))))) (k423 true (by rw [eqf, hE, decide_eq_true hq.symm]; rfl))
    refine g_iload M dL_holds_372 rfl ?_
    refine g_aload_n M dL_holds_374 rfl ?_
    refine g_bipush M 7 dL_holds_375 (by decide) ?_
    refine q_V1i M (l_cnt7 hrm) lk_L_13 dL_holds_377 (by decide +kernel) ⟨Nat.le_of_ble_eq_true rfl, Nat.le_of_ble_eq_true rfl⟩ ⟨rfl, rfl⟩ nd95 rfl rfl rfl (Nat.le_of_ble_eq_true rfl) ?_
    rw [hsc]
    refine g_icmp_ge M 487 dL_holds_380 (by decide) (fun h9 => absurd h9 (nI_ge (by omega) (by omega))) (fun _ => ?_)
    refine g_iconst M 1 dL_holds_383 (by decide) ?_
    refine g_istore M dL_holds_384 (by decide) ?_
    refine g_iconst M 0 dL_holds_386 (by decide) ?_
    refine g_istore M dL_holds_387 (by decide) ?_
    exact g_lvs M _ (lvs_c rfl (lvs_c rfl (lvs_c rfl (lvs_c rfl (lvs_c rfl (lvs_c rfl (lvs_c rfl (lvs_c rfl lvs_n)))))))) (loop 5 0 (by omega))
theorem h_108 {k9 n9 : Nat} {B : KT} (hrm : ∀ j, rm j < 6) (hd : GP b d) (M : MH d d1 k rm R t k9 n9 B) : ∀ m w : Nat, w + m = 5 → B 108 [(0, .ref 0), (1, .int (sO d w)), (2, .int (sL d w)), (3, .int (sH d w)), (4, .int 1), (5, .int (nI w))] [] (OW d d1 k rm R t) := by
  have hte5 := hd.1.1.te
  intro m
  induction m with
  | zero =>
    intro w hw
    obtain rfl : w = 5 := by omega
    obtain ⟨c, hc, hsc⟩ := hd.1.1.2
    refine g_iload M dL_holds_108 rfl ?_
    refine g_iconst M 5 dL_holds_110 (by decide) ?_
    refine g_icmp_ge M 369 dL_holds_111 (by decide) (fun _ => ?_) (fun h9 => absurd (by decide) h9)
    refine g_iconst M 0 dL_holds_369 (by decide) ?_
    refine g_istore M dL_holds_370 (by decide) ?_
    exact g_lvs M _ (lvs_c rfl (lvs_c rfl (lvs_c rfl (lvs_c rfl (lvs_c rfl (lvs_c rfl lvs_n)))))) (h_372 hrm hd hc hsc M c 0 (by omega))
  | succ m ih =>
    intro w hw
    have hw5 : w < 5 := by omega
    obtain ⟨T, bb, hm2, hm, hte, hbm, hto⟩ := hd.1.1.1 w hw5
    have hcl : (sTe d w).toNatClampNeg = T := by rw [hte]; exact cl5 T (by omega)
    have k356 : B 356 [(0, .ref 0), (1, .int (sO d (w + 1))), (2, .int (sL d (w + 1))), (3, .int (sH d (w + 1))), (5, .int (nI w))] [] (OW d d1 k rm R t) := by
      refine g_iconst M 1 dL_holds_356 (by decide) ?_
      refine g_goto M 361 dL_holds_357 (by decide) ?_
      refine g_istore M dL_holds_361 (by decide) ?_
      refine g_iinc1 M dL_holds_363 rfl (by decide) ?_
      refine g_goto M 108 dL_holds_366 (by decide) ?_
      refine g_lvs M _ (lvs_c rfl (lvs_c rfl (lvs_c rfl (lvs_c rfl (lvs_c rfl (lvs_c rfl lvs_n)))))) (by have h := ih (w + 1) (by omega); rw [nI_succ] at h; exact h)
    have k314 : B 314 [(0, .ref 0), (1, .int (sO d (w + 1))), (2, .int (sL d (w + 1))), (3, .int (sH d (w + 1))), (5, .int (nI w)), (6, .int (sumf (fun j => outI (hAt (sHe d) (nI w) (nI j))) T))] [] (OW d d1 k rm R t) := by
      refine g_aload_n M dL_holds_314 rfl ?_
      refine g_iload M dL_holds_315 rfl ?_
      refine g_bipush M 6 dL_holds_317 (by decide) ?_
      refine q_V2i M (l_wh6 hrm hte5 w hw5) lk_L_19 dL_holds_319 (by decide +kernel) ⟨Nat.le_of_ble_eq_true rfl, Nat.le_of_ble_eq_true rfl⟩ ⟨rfl, rfl⟩ nd95 rfl rfl rfl (Nat.le_of_ble_eq_true rfl) ?_
      rw [hcl]
      refine g_iload M dL_holds_322 rfl ?_
      refine g_icmp_ne M 360 dL_holds_324 (by decide) (fun h9 => absurd rfl h9) (fun _ => ?_)
      refine g_aload_n M dL_holds_327 rfl ?_
      refine g_iload M dL_holds_328 rfl ?_
      refine g_iconst M 4 dL_holds_330 (by decide) ?_
      refine q_V2i M (l_wh4 hrm hte5 w hw5) lk_L_19 dL_holds_331 (by decide +kernel) ⟨Nat.le_of_ble_eq_true rfl, Nat.le_of_ble_eq_true rfl⟩ ⟨rfl, rfl⟩ nd95 rfl rfl rfl (Nat.le_of_ble_eq_true rfl) ?_
      refine g_iconst M 1 dL_holds_334 (by decide) ?_
      cases hlo : sLo d w with
      | true =>
        refine g_icmp_eq M 356 dL_holds_335 (by decide) (fun _ => ?_) (fun h9 => absurd rfl h9)
        exact g_lvs M _ (lvs_c rfl (lvs_c rfl (lvs_c rfl (lvs_c rfl (lvs_c rfl lvs_n))))) k356
      | false =>
        refine g_icmp_eq M 356 dL_holds_335 (by decide) (fun h9 => absurd h9 (by decide)) (fun _ => ?_)
        refine g_aload_n M dL_holds_338 rfl ?_
        refine g_bipush M 17 dL_holds_339 (by decide) ?_
        refine g_iload M dL_holds_341 rfl ?_
        refine q_V2i M (l_ahead hrm 17 w hw5 (by decide)) lk_L_77 dL_holds_343 (by decide +kernel) ⟨Nat.le_of_ble_eq_true rfl, Nat.le_of_ble_eq_true rfl⟩ ⟨rfl, rfl⟩ nd95 rfl rfl rfl (Nat.le_of_ble_eq_true rfl) ?_
        refine g_aload_n M dL_holds_346 rfl ?_
        refine g_iload M dL_holds_347 rfl ?_
        refine g_iconst M 3 dL_holds_349 (by decide) ?_
        refine q_V2i M (l_wh3 hrm hte5 w hw5) lk_L_19 dL_holds_350 (by decide +kernel) ⟨Nat.le_of_ble_eq_true rfl, Nat.le_of_ble_eq_true rfl⟩ ⟨rfl, rfl⟩ nd95 rfl rfl rfl (Nat.le_of_ble_eq_true rfl) ?_
        rw [hB_loose (sHe d) hw5 hlo 17 0]
        refine g_icmp_ne M 360 dL_holds_353 (by decide) (fun h9 => absurd rfl h9) (fun _ => ?_)
        exact g_lvs M _ (lvs_c rfl (lvs_c rfl (lvs_c rfl (lvs_c rfl (lvs_c rfl lvs_n))))) k356
    have k311 : ∀ x : Int32, x = outI (hB (sTe d) (sTo d) (sLo d) (sHe d) (nI w) 0) → B 311 [(0, .ref 0), (1, .int (sO d (w + 1))), (2, .int (sL d (w + 1))), (3, .int (sH d (w + 1))), (5, .int (nI w)), (6, .int (sumf (fun j => outI (hAt (sHe d) (nI w) (nI j))) T))] [.int (outI (hB (sTe d) (sTo d) (sLo d) (sHe d) (nI w) 0)), .int x] (OW d d1 k rm R t) := by
      intro x hx
      rw [hx]
      refine g_icmp_ne M 360 dL_holds_311 (by decide) (fun h9 => absurd rfl h9) (fun _ => ?_)
      exact k314
    have k295 : ∀ x : Int32, x = outI (hB (sTe d) (sTo d) (sLo d) (sHe d) (nI w) 0) → B 295 [(0, .ref 0), (1, .int (sO d (w + 1))), (2, .int (sL d (w + 1))), (3, .int (sH d (w + 1))), (5, .int (nI w)), (6, .int (sumf (fun j => outI (hAt (sHe d) (nI w) (nI j))) T))] [.int x] (OW d d1 k rm R t) := by
      intro x hx
      refine g_aload_n M dL_holds_295 rfl ?_
      refine g_iload M dL_holds_296 rfl ?_
      refine g_iconst M 3 dL_holds_298 (by decide) ?_
      refine q_V2i M (l_wh3 hrm hte5 w hw5) lk_L_19 dL_holds_299 (by decide +kernel) ⟨Nat.le_of_ble_eq_true rfl, Nat.le_of_ble_eq_true rfl⟩ ⟨rfl, rfl⟩ nd95 rfl rfl rfl (Nat.le_of_ble_eq_true rfl) ?_
      refine g_iconst M 4 dL_holds_302 (by decide) ?_
      refine g_icmp_le M 310 dL_holds_303 (by decide) (fun hq => ?_) (fun hq => ?_)
      · refine g_iconst M 0 dL_holds_310 (by decide) ?_
        have h := k311 x hx
        rw [outI_T hq] at h
        exact h
      · refine g_iconst M 1 dL_holds_306 (by decide) ?_
        refine g_goto M 311 dL_holds_307 (by decide) ?_
        have h := k311 x hx
        rw [outI_F hq] at h
        exact h
    have k190 : B 190 [(0, .ref 0), (1, .int (sO d (w + 1))), (2, .int (sL d (w + 1))), (3, .int (sH d (w + 1))), (4, .int 1), (5, .int (nI w)), (6, .int (sumf (fun j => outI (hAt (sHe d) (nI w) (nI j))) T))] [] (OW d d1 k rm R t) := by
      refine g_iload M dL_holds_190 rfl ?_
      refine g_if_eq M 360 dL_holds_192 (by decide) (fun h9 => absurd h9 (by decide)) (fun _ => ?_)
      refine g_aload_n M dL_holds_195 rfl ?_
      refine g_iload M dL_holds_196 rfl ?_
      refine g_iconst M 1 dL_holds_198 (by decide) ?_
      refine q_V2i M (l_wh1 hrm hte5 w hw5) lk_L_19 dL_holds_199 (by decide +kernel) ⟨Nat.le_of_ble_eq_true rfl, Nat.le_of_ble_eq_true rfl⟩ ⟨rfl, rfl⟩ nd95 rfl rfl rfl (Nat.le_of_ble_eq_true rfl) ?_
      refine g_aload_n M dL_holds_202 rfl ?_
      refine g_iload M dL_holds_203 rfl ?_
      refine g_iconst M 2 dL_holds_205 (by decide) ?_
      refine q_V2i M (l_wh2 hrm hte5 w hw5) lk_L_19 dL_holds_206 (by decide +kernel) ⟨Nat.le_of_ble_eq_true rfl, Nat.le_of_ble_eq_true rfl⟩ ⟨rfl, rfl⟩ nd95 rfl rfl rfl (Nat.le_of_ble_eq_true rfl) ?_
      rw [hd.1.2.1 w hw5]
      refine g_icmp_ne M 360 dL_holds_209 (by decide) (fun h9 => absurd rfl h9) (fun _ => ?_)
      refine g_aload_n M dL_holds_212 rfl ?_
      refine g_iload M dL_holds_213 rfl ?_
      refine g_iconst M 1 dL_holds_215 (by decide) ?_
      refine q_V2i M (l_wh1 hrm hte5 w hw5) lk_L_19 dL_holds_216 (by decide +kernel) ⟨Nat.le_of_ble_eq_true rfl, Nat.le_of_ble_eq_true rfl⟩ ⟨rfl, rfl⟩ nd95 rfl rfl rfl (Nat.le_of_ble_eq_true rfl) ?_
      rw [hto]
      refine g_if_lt M 360 dL_holds_219 (by decide) (fun h9 => absurd h9 (nI_pos (by omega))) (fun _ => ?_)
      refine g_aload_n M dL_holds_222 rfl ?_
      refine g_iload M dL_holds_223 rfl ?_
      refine g_iconst M 1 dL_holds_225 (by decide) ?_
      refine q_V2i M (l_wh1 hrm hte5 w hw5) lk_L_19 dL_holds_226 (by decide +kernel) ⟨Nat.le_of_ble_eq_true rfl, Nat.le_of_ble_eq_true rfl⟩ ⟨rfl, rfl⟩ nd95 rfl rfl rfl (Nat.le_of_ble_eq_true rfl) ?_
      refine g_aload_n M dL_holds_229 rfl ?_
      refine g_iload M dL_holds_230 rfl ?_
      refine g_iconst M 0 dL_holds_232 (by decide) ?_
      refine q_V2i M (l_wh0 hrm hte5 w hw5) lk_L_19 dL_holds_233 (by decide +kernel) ⟨Nat.le_of_ble_eq_true rfl, Nat.le_of_ble_eq_true rfl⟩ ⟨rfl, rfl⟩ nd95 rfl rfl rfl (Nat.le_of_ble_eq_true rfl) ?_
      rw [hto, hte]
      refine g_icmp_ge M 360 dL_holds_236 (by decide) (fun h9 => absurd h9 (nI_ge hbm (by omega))) (fun _ => ?_)
      refine g_aload_n M dL_holds_239 rfl ?_
      refine g_iload M dL_holds_240 rfl ?_
      refine g_iconst M 3 dL_holds_242 (by decide) ?_
      refine q_V2i M (l_wh3 hrm hte5 w hw5) lk_L_19 dL_holds_243 (by decide +kernel) ⟨Nat.le_of_ble_eq_true rfl, Nat.le_of_ble_eq_true rfl⟩ ⟨rfl, rfl⟩ nd95 rfl rfl rfl (Nat.le_of_ble_eq_true rfl) ?_
      refine g_aload_n M dL_holds_246 rfl ?_
      refine g_iload M dL_holds_247 rfl ?_
      refine g_aload_n M dL_holds_249 rfl ?_
      refine g_iload M dL_holds_250 rfl ?_
      refine g_iconst M 1 dL_holds_252 (by decide) ?_
      refine q_V2i M (l_wh1 hrm hte5 w hw5) lk_L_19 dL_holds_253 (by decide +kernel) ⟨Nat.le_of_ble_eq_true rfl, Nat.le_of_ble_eq_true rfl⟩ ⟨rfl, rfl⟩ nd95 rfl rfl rfl (Nat.le_of_ble_eq_true rfl) ?_
      rw [hto]
      refine q_V2i M (l_tooth hrm (nI w) (nI bb) (by rw [isTth, Bool.and_eq_true, cl5 w (by omega), hte, iswh, decide_eq_true_iff, decide_eq_true_iff, nI_toInt (by omega), nI_toInt (by omega), nI_ltI (by omega) (by omega)]; omega)) lk_L_23 dL_holds_256 (by decide +kernel) ⟨Nat.le_of_ble_eq_true rfl, Nat.le_of_ble_eq_true rfl⟩ ⟨rfl, rfl⟩ nd95 rfl rfl rfl (Nat.le_of_ble_eq_true rfl) ?_
      rw [hB_now (sLo d) (sHe d) hw5 hm hte hbm hto]
      refine g_icmp_ne M 360 dL_holds_259 (by decide) (fun h9 => absurd rfl h9) (fun _ => ?_)
      refine g_aload_n M dL_holds_262 rfl ?_
      refine g_iload M dL_holds_263 rfl ?_
      refine g_iconst M 3 dL_holds_265 (by decide) ?_
      refine q_V2i M (l_wh3 hrm hte5 w hw5) lk_L_19 dL_holds_266 (by decide +kernel) ⟨Nat.le_of_ble_eq_true rfl, Nat.le_of_ble_eq_true rfl⟩ ⟨rfl, rfl⟩ nd95 rfl rfl rfl (Nat.le_of_ble_eq_true rfl) ?_
      refine g_aload_n M dL_holds_269 rfl ?_
      refine g_iconst M 0 dL_holds_270 (by decide) ?_
      refine g_iload M dL_holds_271 rfl ?_
      refine q_V2i M (l_ahead hrm 0 w hw5 (by decide)) lk_L_77 dL_holds_273 (by decide +kernel) ⟨Nat.le_of_ble_eq_true rfl, Nat.le_of_ble_eq_true rfl⟩ ⟨rfl, rfl⟩ nd95 rfl rfl rfl (Nat.le_of_ble_eq_true rfl) ?_
      refine g_icmp_ne M 360 dL_holds_276 (by decide) (fun h9 => absurd rfl h9) (fun _ => ?_)
      refine g_aload_n M dL_holds_279 rfl ?_
      refine g_iload M dL_holds_280 rfl ?_
      refine g_iconst M 5 dL_holds_282 (by decide) ?_
      refine q_V2i M (l_wh5 hrm hte5 w hw5) lk_L_19 dL_holds_283 (by decide +kernel) ⟨Nat.le_of_ble_eq_true rfl, Nat.le_of_ble_eq_true rfl⟩ ⟨rfl, rfl⟩ nd95 rfl rfl rfl (Nat.le_of_ble_eq_true rfl) ?_
      refine g_iconst M 1 dL_holds_286 (by decide) ?_
      refine g_icmp_ne M 294 dL_holds_287 (by decide) (fun hq => ?_) (fun hq => ?_)
      · refine g_iconst M 0 dL_holds_294 (by decide) ?_
        refine g_lvs M _ (lvs_c rfl (lvs_c rfl (lvs_c rfl (lvs_c rfl (lvs_c rfl (lvs_c rfl lvs_n)))))) (k295 0 ?_)
        rw [outI] at hq ⊢
        cases hz : decide (5 ≤ hB (sTe d) (sTo d) (sLo d) (sHe d) (nI w) 0) with
        | false => rfl
        | true => rw [hz] at hq; exact absurd rfl hq
      · refine g_iconst M 1 dL_holds_290 (by decide) ?_
        refine g_goto M 295 dL_holds_291 (by decide) ?_
        exact g_lvs M _ (lvs_c rfl (lvs_c rfl (lvs_c rfl (lvs_c rfl (lvs_c rfl (lvs_c rfl lvs_n)))))) (k295 1 hq.symm)
    have k160 : B 160 [(0, .ref 0), (1, .int (sO d w)), (2, .int (sL d w)), (3, .int (sH d w)), (4, .int 1), (5, .int (nI w)), (6, .int (sumf (fun j => outI (hAt (sHe d) (nI w) (nI j))) T))] [] (OW d d1 k rm R t) := by
      refine g_iload_n M dL_holds_160 rfl ?_
      refine g_aload_n M dL_holds_161 rfl ?_
      refine g_iload M dL_holds_162 rfl ?_
      refine g_iconst M 3 dL_holds_164 (by decide) ?_
      refine q_V2i M (l_wh3 hrm hte5 w hw5) lk_L_19 dL_holds_165 (by decide +kernel) ⟨Nat.le_of_ble_eq_true rfl, Nat.le_of_ble_eq_true rfl⟩ ⟨rfl, rfl⟩ nd95 rfl rfl rfl (Nat.le_of_ble_eq_true rfl) ?_
      refine g_iadd M dL_holds_168 ?_
      refine g_istore_n M dL_holds_169 (by decide) ?_
      refine g_iload_n M dL_holds_170 rfl ?_
      refine g_aload_n M dL_holds_171 rfl ?_
      refine g_iload M dL_holds_172 rfl ?_
      refine g_iconst M 5 dL_holds_174 (by decide) ?_
      refine q_V2i M (l_wh5 hrm hte5 w hw5) lk_L_19 dL_holds_175 (by decide +kernel) ⟨Nat.le_of_ble_eq_true rfl, Nat.le_of_ble_eq_true rfl⟩ ⟨rfl, rfl⟩ nd95 rfl rfl rfl (Nat.le_of_ble_eq_true rfl) ?_
      refine g_iadd M dL_holds_178 ?_
      refine g_istore_n M dL_holds_179 (by decide) ?_
      refine g_iload_n M dL_holds_180 rfl ?_
      refine g_aload_n M dL_holds_181 rfl ?_
      refine g_iload M dL_holds_182 rfl ?_
      refine g_iconst M 4 dL_holds_184 (by decide) ?_
      refine q_V2i M (l_wh4 hrm hte5 w hw5) lk_L_19 dL_holds_185 (by decide +kernel) ⟨Nat.le_of_ble_eq_true rfl, Nat.le_of_ble_eq_true rfl⟩ ⟨rfl, rfl⟩ nd95 rfl rfl rfl (Nat.le_of_ble_eq_true rfl) ?_
      refine g_iadd M dL_holds_188 ?_
      refine g_istore_n M dL_holds_189 (by decide) ?_
      exact g_lvs M _ (lvs_c rfl (lvs_c rfl (lvs_c rfl (lvs_c rfl (lvs_c rfl (lvs_c rfl (lvs_c rfl lvs_n))))))) k190
    have inner : ∀ n j : Nat, j + n = T → B 120 [(0, .ref 0), (1, .int (sO d w)), (2, .int (sL d w)), (3, .int (sH d w)), (4, .int 1), (5, .int (nI w)), (6, .int (sumf (fun j => outI (hAt (sHe d) (nI w) (nI j))) j)), (7, .int (nI j))] [] (OW d d1 k rm R t) := by
      intro n
      induction n with
      | zero =>
        intro j hj
        obtain rfl : j = T := by omega
        refine g_iload M dL_holds_120 rfl ?_
        refine g_aload_n M dL_holds_122 rfl ?_
        refine g_iload M dL_holds_123 rfl ?_
        refine g_iconst M 0 dL_holds_125 (by decide) ?_
        refine q_V2i M (l_wh0 hrm hte5 w hw5) lk_L_19 dL_holds_126 (by decide +kernel) ⟨Nat.le_of_ble_eq_true rfl, Nat.le_of_ble_eq_true rfl⟩ ⟨rfl, rfl⟩ nd95 rfl rfl rfl (Nat.le_of_ble_eq_true rfl) ?_
        rw [hte]
        refine g_icmp_ge M 160 dL_holds_129 (by decide) (fun _ => ?_) (fun h9 => absurd (nI_le (by omega) (by omega)) h9)
        exact g_lvs M _ (lvs_c rfl (lvs_c rfl (lvs_c rfl (lvs_c rfl (lvs_c rfl (lvs_c rfl (lvs_c rfl lvs_n))))))) k160
      | succ n ih2 =>
        intro j hj
        have k151 : ∀ x : Int32, x = outI (hAt (sHe d) (nI w) (nI j)) → B 151 [(0, .ref 0), (1, .int (sO d w)), (2, .int (sL d w)), (3, .int (sH d w)), (4, .int 1), (5, .int (nI w)), (7, .int (nI j))] [.int x, .int (sumf (fun j => outI (hAt (sHe d) (nI w) (nI j))) j)] (OW d d1 k rm R t) := by
          intro x hx
          refine g_iadd M dL_holds_151 ?_
          refine g_istore M dL_holds_152 (by decide) ?_
          refine g_iinc1 M dL_holds_154 rfl (by decide) ?_
          refine g_goto M 120 dL_holds_157 (by decide) ?_
          rw [hx]
          refine g_lvs M _ (lvs_c rfl (lvs_c rfl (lvs_c rfl (lvs_c rfl (lvs_c rfl (lvs_c rfl (lvs_c rfl (lvs_c rfl lvs_n)))))))) (by have h := ih2 (j + 1) (by omega); rw [nI_succ] at h; exact h)
        refine g_iload M dL_holds_120 rfl ?_
        refine g_aload_n M dL_holds_122 rfl ?_
        refine g_iload M dL_holds_123 rfl ?_
        refine g_iconst M 0 dL_holds_125 (by decide) ?_
        refine q_V2i M (l_wh0 hrm hte5 w hw5) lk_L_19 dL_holds_126 (by decide +kernel) ⟨Nat.le_of_ble_eq_true rfl, Nat.le_of_ble_eq_true rfl⟩ ⟨rfl, rfl⟩ nd95 rfl rfl rfl (Nat.le_of_ble_eq_true rfl) ?_
        rw [hte]
        refine g_icmp_ge M 160 dL_holds_129 (by decide) (fun h9 => absurd h9 (nI_ge (by omega) (by omega))) (fun _ => ?_)
        refine g_iload M dL_holds_132 rfl ?_
        refine g_aload_n M dL_holds_134 rfl ?_
        refine g_iload M dL_holds_135 rfl ?_
        refine g_iload M dL_holds_137 rfl ?_
        refine q_V2i M (l_tooth hrm (nI w) (nI j) (by rw [isTth, Bool.and_eq_true, cl5 w (by omega), hte, iswh, decide_eq_true_iff, decide_eq_true_iff, nI_toInt (by omega), nI_toInt (by omega), nI_ltI (by omega) (by omega)]; omega)) lk_L_23 dL_holds_139 (by decide +kernel) ⟨Nat.le_of_ble_eq_true rfl, Nat.le_of_ble_eq_true rfl⟩ ⟨rfl, rfl⟩ nd95 rfl rfl rfl (Nat.le_of_ble_eq_true rfl) ?_
        refine g_iconst M 4 dL_holds_142 (by decide) ?_
        refine g_icmp_le M 150 dL_holds_143 (by decide) (fun hq => ?_) (fun hq => ?_)
        · refine g_iconst M 0 dL_holds_150 (by decide) ?_
          exact g_lvs M _ (lvs_c rfl (lvs_c rfl (lvs_c rfl (lvs_c rfl (lvs_c rfl (lvs_c rfl (lvs_c rfl lvs_n))))))) (k151 0 (outI_T hq).symm)
        · refine g_iconst M 1 dL_holds_146 (by decide) ?_
          refine g_goto M 151 dL_holds_147 (by decide) ?_
          exact g_lvs M _ (lvs_c rfl (lvs_c rfl (lvs_c rfl (lvs_c rfl (lvs_c rfl (lvs_c rfl (lvs_c rfl lvs_n))))))) (k151 1 (outI_F hq).symm)
    refine g_iload M dL_holds_108 rfl ?_
    refine g_iconst M 5 dL_holds_110 (by decide) ?_
    refine g_icmp_ge M 369 dL_holds_111 (by decide) (fun h9 => absurd h9 (nI_ge (a := w) (b := 5) (by omega) (by omega))) (fun _ => ?_)
    refine g_iconst M 0 dL_holds_114 (by decide) ?_
    refine g_istore M dL_holds_115 (by decide) ?_
    refine g_iconst M 0 dL_holds_117 (by decide) ?_
    refine g_istore M dL_holds_118 (by decide) ?_
    exact g_lvs M _ (lvs_c rfl (lvs_c rfl (lvs_c rfl (lvs_c rfl (lvs_c rfl (lvs_c rfl (lvs_c rfl (lvs_c rfl lvs_n)))))))) (inner T 0 (by omega))
theorem c_holds (hrm : ∀ j, rm j < 6) (hd : GP b d) : QC 95 yL_holds cL_holds 8 (some .boolean) (rmn 8 1 5 197) [.ref 0] (OW d d1 k rm R t) (some (.int 1)) (OW d d1 k rm R t) := by
  have hte5 := hd.1.1.te
  obtain ⟨⟨c1, c2⟩, c3⟩ := hd.2
  refine QC.of (own := RL) (by decide) rfl (Nat.le_of_ble_eq_true rfl) rfl ow_len (ow_cl hrm) (ow_cl hrm) (fun B M => ?_)
  refine g_iconst M 0 dL_holds_0 (by decide) ?_
  refine g_istore_n M dL_holds_1 (by decide) ?_
  refine g_iconst M 0 dL_holds_2 (by decide) ?_
  refine g_istore_n M dL_holds_3 (by decide) ?_
  refine g_iconst M 0 dL_holds_4 (by decide) ?_
  refine g_istore_n M dL_holds_5 (by decide) ?_
  refine g_aload_n M dL_holds_6 rfl ?_
  refine g_iconst M (-1) dL_holds_7 (by decide) ?_
  refine g_iconst M 0 dL_holds_8 (by decide) ?_
  refine g_aload_n M dL_holds_9 rfl ?_
  refine g_bipush M 9 dL_holds_10 (by decide) ?_
  refine q_V1i M (l_cnt9 hrm) lk_L_13 dL_holds_12 (by decide +kernel) ⟨Nat.le_of_ble_eq_true rfl, Nat.le_of_ble_eq_true rfl⟩ ⟨rfl, rfl⟩ nd95 rfl rfl rfl (Nat.le_of_ble_eq_true rfl) ?_
  refine m_S4i M (c_isGood hrm hte5 (-1) 0 (sSe d)) lk_L_47 dL_holds_15 (by decide +kernel) ⟨Nat.le_of_ble_eq_true rfl, Nat.le_of_ble_eq_true rfl⟩ ⟨Nat.le_of_ble_eq_true rfl, Nat.le_of_ble_eq_true rfl⟩ nd95 rfl (Nat.le_of_ble_eq_true rfl) (fun B M => ?_)
  rw [good_now hd.1.2.2.1]
  have k98 : B 98 [(0, .ref 0), (1, .int 0), (2, .int 0), (3, .int 0)] [] (OW d d1 k rm R t) := by
    refine g_iconst M 1 dL_holds_98 (by decide) ?_
    refine g_goto M 103 dL_holds_99 (by decide) ?_
    refine g_istore M dL_holds_103 (by decide) ?_
    refine g_iconst M 0 dL_holds_105 (by decide) ?_
    refine g_istore M dL_holds_106 (by decide) ?_
    exact g_lvs M _ (lvs_c rfl (lvs_c rfl (lvs_c rfl (lvs_c rfl (lvs_c rfl (lvs_c rfl lvs_n)))))) (h_108 hrm hd M 5 0 (by omega))
  refine g_if_eq M 102 dL_holds_18 (by decide) (fun h9 => absurd h9 (by decide)) (fun _ => ?_)
  refine g_aload_n M dL_holds_21 rfl ?_
  refine g_iconst M 0 dL_holds_22 (by decide) ?_
  refine q_V1i M (l_cnt0 hrm) lk_L_13 dL_holds_23 (by decide +kernel) ⟨Nat.le_of_ble_eq_true rfl, Nat.le_of_ble_eq_true rfl⟩ ⟨rfl, rfl⟩ nd95 rfl rfl rfl (Nat.le_of_ble_eq_true rfl) ?_
  refine g_aload_n M dL_holds_26 rfl ?_
  refine g_iconst M 3 dL_holds_27 (by decide) ?_
  refine q_V1i M (l_cnt3 hrm) lk_L_13 dL_holds_28 (by decide +kernel) ⟨Nat.le_of_ble_eq_true rfl, Nat.le_of_ble_eq_true rfl⟩ ⟨rfl, rfl⟩ nd95 rfl rfl rfl (Nat.le_of_ble_eq_true rfl) ?_
  refine g_aload_n M dL_holds_31 rfl ?_
  refine g_iconst M 4 dL_holds_32 (by decide) ?_
  refine q_V1i M (l_cnt4 hrm) lk_L_13 dL_holds_33 (by decide +kernel) ⟨Nat.le_of_ble_eq_true rfl, Nat.le_of_ble_eq_true rfl⟩ ⟨rfl, rfl⟩ nd95 rfl rfl rfl (Nat.le_of_ble_eq_true rfl) ?_
  refine g_isub M dL_holds_36 ?_
  rw [← c3]
  refine g_icmp_ne M 102 dL_holds_37 (by decide) (fun h9 => absurd rfl h9) (fun _ => ?_)
  refine g_aload_n M dL_holds_40 rfl ?_
  refine g_iconst M 0 dL_holds_41 (by decide) ?_
  refine q_V1i M (l_cnt0 hrm) lk_L_13 dL_holds_42 (by decide +kernel) ⟨Nat.le_of_ble_eq_true rfl, Nat.le_of_ble_eq_true rfl⟩ ⟨rfl, rfl⟩ nd95 rfl rfl rfl (Nat.le_of_ble_eq_true rfl) ?_
  refine g_sipush M (-9999) dL_holds_45 (by decide) ?_
  refine g_icmp_lt M 102 dL_holds_48 (by decide) (fun h9 => absurd h9 (by rw [ltIc2 (n := -9999) rfl]; omega)) (fun _ => ?_)
  refine g_aload_n M dL_holds_51 rfl ?_
  refine g_iconst M 0 dL_holds_52 (by decide) ?_
  refine q_V1i M (l_cnt0 hrm) lk_L_13 dL_holds_53 (by decide +kernel) ⟨Nat.le_of_ble_eq_true rfl, Nat.le_of_ble_eq_true rfl⟩ ⟨rfl, rfl⟩ nd95 rfl rfl rfl (Nat.le_of_ble_eq_true rfl) ?_
  refine g_sipush M 9999 dL_holds_56 (by decide) ?_
  refine g_icmp_gt M 102 dL_holds_59 (by decide) (fun h9 => absurd h9 (by rw [ltIc (n := 9999) rfl]; omega)) (fun _ => ?_)
  refine g_aload_n M dL_holds_62 rfl ?_
  refine g_iconst M 1 dL_holds_63 (by decide) ?_
  refine q_V1i M (l_cnt1 hrm) lk_L_13 dL_holds_64 (by decide +kernel) ⟨Nat.le_of_ble_eq_true rfl, Nat.le_of_ble_eq_true rfl⟩ ⟨rfl, rfl⟩ nd95 rfl rfl rfl (Nat.le_of_ble_eq_true rfl) ?_
  refine g_aload_n M dL_holds_67 rfl ?_
  refine g_iconst M 0 dL_holds_68 (by decide) ?_
  refine q_V1i M (l_cnt0 hrm) lk_L_13 dL_holds_69 (by decide +kernel) ⟨Nat.le_of_ble_eq_true rfl, Nat.le_of_ble_eq_true rfl⟩ ⟨rfl, rfl⟩ nd95 rfl rfl rfl (Nat.le_of_ble_eq_true rfl) ?_
  refine g_ldc M kc_L_76 dL_holds_72 ?_
  refine g_iadd M dL_holds_74 ?_
  refine g_bipush M 60 dL_holds_75 (by decide) ?_
  refine g_irem M dL_holds_77 (by decide) ?_
  rw [place_rem c1 c2]
  refine g_icmp_ne M 102 dL_holds_78 (by decide) (fun h9 => absurd rfl h9) (fun _ => ?_)
  refine g_aload_n M dL_holds_81 rfl ?_
  refine g_iconst M 2 dL_holds_82 (by decide) ?_
  refine q_V1i M (l_cnt2 hrm) lk_L_13 dL_holds_83 (by decide +kernel) ⟨Nat.le_of_ble_eq_true rfl, Nat.le_of_ble_eq_true rfl⟩ ⟨rfl, rfl⟩ nd95 rfl rfl rfl (Nat.le_of_ble_eq_true rfl) ?_
  refine g_if_eq M 98 dL_holds_86 (by decide) (fun hq => ?_) (fun hq => ?_)
  · exact g_lvs M _ (lvs_c rfl (lvs_c rfl (lvs_c rfl (lvs_c rfl lvs_n)))) k98
  · refine g_aload_n M dL_holds_89 rfl ?_
    refine g_bipush M 11 dL_holds_90 (by decide) ?_
    refine q_V1i M (l_cnt11 hrm) lk_L_13 dL_holds_92 (by decide +kernel) ⟨Nat.le_of_ble_eq_true rfl, Nat.le_of_ble_eq_true rfl⟩ ⟨rfl, rfl⟩ nd95 rfl rfl rfl (Nat.le_of_ble_eq_true rfl) ?_
    refine g_if_ne M 102 dL_holds_95 (by decide) (fun h9 => absurd ((cau_li (sSt d) (sCr d) (sLi d)).resolve_left hq) h9) (fun _ => ?_)
    exact g_lvs M _ (lvs_c rfl (lvs_c rfl (lvs_c rfl (lvs_c rfl lvs_n)))) k98
end


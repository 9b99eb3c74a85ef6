/-- what holds of both sides between two calls -/
def Inv (b : Nat) (w0 m0 : List va_E) : Prop := ∃ (kp : Bool) (d0 d1 : SD) (k : Nat) (rm : Nat → Nat) (R : Nat → SD) (cod : Nat → Int32) (n : Nat) (aw op fig pop pmk pen : Int32) (psts ptd : Nat → Nat) (t : WD) (th at9 pt nm oq : Int32) (hs : Int64) (s bg tm : Nat → Int32),
  w0 = CW kp d0 d1 k rm R cod (nI n) aw op fig pop pmk pen psts ptd t ∧ m0 = MW th (nI k) (nI n) at9 pt nm oq kp hs s cod bg tm ∧ Stt b s d0 d1 kp k rm R ∧ n ≤ 60 ∧ ∀ j, j < n → 33 ≤ (cod j).toInt
section
variable {b : Nat} {kp : Bool} {d0 d1 : SD} {k : Nat} {rm : Nat → Nat} {R : Nat → SD} {cod : Nat → Int32} {n : Nat} {aw op fig pop pmk pen : Int32} {psts ptd : Nat → Nat} {t : WD} {th at9 pt nm oq : Int32} {hs : Int64} {s bg tm : Nat → Int32}
theorem inv_i (h : Stt b s d0 d1 kp k rm R) (hn : n ≤ 60) (hc : ∀ j, j < n → 33 ≤ (cod j).toInt) : Inv b (CW kp d0 d1 k rm R cod (nI n) aw op fig pop pmk pen psts ptd t) (MW th (nI k) (nI n) at9 pt nm oq kp hs s cod bg tm) := ⟨kp, d0, d1, k, rm, R, cod, n, aw, op, fig, pop, pmk, pen, psts, ptd, t, th, at9, pt, nm, oq, hs, s, bg, tm, rfl, rfl, h, hn, hc⟩
theorem inv_z (h : Stt b s d0 d1 kp k rm R) (hc : ∀ j, j < 0 → 33 ≤ (cod j).toInt) : Inv b (CW kp d0 d1 k rm R cod 0 aw op fig pop pmk pen psts ptd t) (MW th (nI k) 0 at9 pt nm oq kp hs s cod bg tm) := inv_i (n := 0) h (by omega) hc
theorem Stt.more {b c : Nat} (h : Stt b s d0 d1 kp k rm R) (hbc : b ≤ c) : Stt c s d0 d1 kp k rm R := ⟨h.1, h.2.1.more hbc, h.2.2.1.more hbc, h.2.2.2.more hbc⟩
theorem cwL {len : Int32} : (CW kp d0 d1 k rm R cod len aw op fig pop pmk pen psts ptd t).length = 95 := cw_len _ _ _ _ _ _ _ _ _ _ _ _ _ _ _ _ _
theorem cwC {len : Int32} (hrm : ∀ j, rm j < 6) : clW 95 (CW kp d0 d1 k rm R cod len aw op fig pop pmk pen psts ptd t) := cw_cl _ _ _ _ _ _ _ _ _ _ _ _ _ _ _ _ _ hrm
end
theorem puM_ok {k : Nat} {rm : Nat → Nat} (h : ∀ j, rm j < 6) : ∀ j, puM k rm j < 6 := by
  intro j
  rw [puM]
  split
  · exact h j
  · exact rotr_ok h j
theorem updL0 (z : Nat → Int64) (x : Int64) : vp_updL z 0 x 0 = x := by simp [vp_updL]
theorem wh_btw (x : Int32) : btw x 0 4 = iswh x := by
  have h := btw_iff (x := x) (A := 0) (B := 4) (a := 0) (b := 4) rfl rfl
  cases hb : btw x 0 4 with
  | true => rw [iswh, eq_comm, decide_eq_true_iff]; have := h.mp hb; omega
  | false => rw [iswh, eq_comm, decide_eq_false_iff_not]; exact fun z => by have := h.mpr (by omega); rw [hb] at this; cases this
theorem wh_of {x : Int32} (h : iswh x = true) : ∃ w : Nat, w < 5 ∧ x = nI w := vp_in_of (iswh_iff.mp h) (by omega)
/-- a number between two, not negative -/
theorem btw_nat {x : Int32} {A B : Int32} {a b : Nat} (hA : A.toInt = a) (hB : B.toInt = b) (hb : b < 2 ^ 31) (h : btw x A B = true) : ∃ m : Nat, a ≤ m ∧ m ≤ b ∧ x = nI m := by
  have h2 := (btw_iff hA hB).mp h
  exact ⟨x.toInt.toNat, by omega, by omega, by rw [← Int32.toInt_inj, nI_toInt (by omega)]; omega⟩
theorem btw_F {x : Int32} {A B : Int32} {a b : Int} (hA : A.toInt = a) (hB : B.toInt = b) (h : btw x A B = false) : x < A ∨ ¬ x ≤ B := by
  by_cases c : x < A
  · exact Or.inl c
  · refine Or.inr (fun z => ?_)
    rw [ltIc2 hA] at c
    rw [leIc2 hB] at z
    have := (btw_iff hA hB).mpr ⟨by omega, z⟩
    rw [h] at this; cases this
theorem btw_T {x : Int32} {A B : Int32} {a b : Int} (hA : A.toInt = a) (hB : B.toInt = b) (h : btw x A B = true) : ¬ x < A ∧ x ≤ B := by
  have := (btw_iff hA hB).mp h
  rw [ltIc2 hA, leIc2 hB]
  omega
section
variable {b : Nat} {w0 m0 : List va_E} {z : Nat → Int64}
theorem s_turn (h : Inv b w0 m0) (hb : b + 2000 ≤ 2 ^ 28) (x : Int32) : ∃ (k9 mb : Int32) (w1 m1 : List va_E) (z1 : Nat → Int64), ConW yL_turn cL_turn 4 (some .int) [(0, 9, 12, 13)] (rmt 7 174) [.ref 0, .int x, .ref 95] (w0 ++ [OUT z]) (some (.int k9)) (w1 ++ [OUT z1]) ∧ Con yX6_turn cX6_turn 2 (some .int) (rmk 5 117) [.ref 0, .int x] m0 (some (.int mb)) m1 ∧ Con yX6_thrown cX6_thrown 1 (some .int) (rmk 0 0) [.ref 0] m1 (some (.int k9)) m1 ∧ (k9 = 0 → z1 0 = mb.toInt64) ∧ Inv (b + 2000) w1 m1 := by
  obtain ⟨kp, d0, d1, k, rm, R, cod, n, aw, op, fig, pop, pmk, pen, psts, ptd, t, th, at9, pt, nm, oq, hs, s, bg, tm, rfl, rfl, hS, hn, hch⟩ := h
  have hrm := hS.2.2.1.1
  have hk := hS.2.2.1.2.2.1
  have hi := btw_iff (x := x) (A := -60) (B := 60) (a := -60) (b := 60) rfl rfl
  by_cases hF : btw x (-60) 60 = false ∨ x = 0
  · refine ⟨1, 0, _, _, z, w_turn_1 cwL (cwC hrm) (cwC hrm) rfl (t_turn _ _ _ _ _ _ _ _ _ _ _ _ _ _ _ _ _ x ?_), by apply c_mTurnF; exact hF, by apply c_thrown, fun q => absurd q (by decide), inv_i (hS.more (by omega)) hn hch⟩
    rcases hF with c | c
    · exact Or.inr (btw_F (a := -60) (b := 60) rfl rfl c)
    · exact Or.inl c
  · have h0 : ¬ x = 0 := fun c => hF (Or.inr c)
    have hT : btw x (-60) 60 = true := by
      cases c : btw x (-60) 60 with
      | true => rfl
      | false => exact absurd (Or.inl c) hF
    have h2 := hi.mp hT
    obtain ⟨c1, c2⟩ := btw_T (a := -60) (b := 60) rfl rfl hT
    have main : ∀ (y : Int32) (m : Nat), m ≤ 60 → (y = 1 ∨ y = -1) → y = (if 0 < x then 1 else -1) → (if 0 < x then x else -x) = nI m → Con yX6_turn cX6_turn 2 (some .int) (rmk 5 117) [.ref 0, .int x] (MW th (nI k) (nI n) at9 pt nm oq kp hs s cod bg tm) (some (.int (nI (tuG y m d0).1))) (MW 0 (nI (puK k)) (nI n) at9 pt nm oq kp hs (stIt y (tuG y m d0).1 (svS s k)) cod bg tm) → ∃ (k9 mb : Int32) (w1 m1 : List va_E) (z1 : Nat → Int64), ConW yL_turn cL_turn 4 (some .int) [(0, 9, 12, 13)] (rmt 7 174) [.ref 0, .int x, .ref 95] (CW kp d0 d1 k rm R cod (nI n) aw op fig pop pmk pen psts ptd t ++ [OUT z]) (some (.int k9)) (w1 ++ [OUT z1]) ∧ Con yX6_turn cX6_turn 2 (some .int) (rmk 5 117) [.ref 0, .int x] (MW th (nI k) (nI n) at9 pt nm oq kp hs s cod bg tm) (some (.int mb)) m1 ∧ Con yX6_thrown cX6_thrown 1 (some .int) (rmk 0 0) [.ref 0] m1 (some (.int k9)) m1 ∧ (k9 = 0 → z1 0 = mb.toInt64) ∧ Inv (b + 2000) w1 m1 := by
      intro y m hm hy1 hy hx hM
      have hI := Rp_its (x := y) m (svS s k) d0 (Rp_sv hS.2.1.1 hS.1 k) hS.2.1.1
      have hle := tuG_le y m d0
      have hG := GOk_tu hy1 m b d0 (by omega) hS.2.1
      exact ⟨0, _, _, _, _, w_turn cwL (cwC hrm) (cwC (puM_ok hrm)) rfl (c_turn _ _ _ _ _ _ _ _ _ _ _ _ _ _ _ _ _ hrm hk x y m hm h0 c1 c2 hy hx), hM, by apply c_thrown, fun _ => updL0 _ _, inv_i (hS.push (by omega) (sHi_it y _ _ _ (sHi_rf _)) hI.1 (hG.more (by omega))) hn hch⟩
    by_cases hp : 0 < x
    · have hp2 := (ltIc (x := x) (N := 0) (n := 0) rfl).mp hp
      obtain ⟨m, hm⟩ : ∃ m : Nat, x.toInt = m := ⟨x.toInt.toNat, by omega⟩
      have hx : x = nI m := by rw [← Int32.toInt_inj, nI_toInt (by omega), hm]
      refine main 1 m (by omega) (Or.inl rfl) (by rw [if_pos hp]) (by rw [if_pos hp, hx]) ?_
      rw [hx]
      exact c_mTurnP _ _ _ _ _ _ _ _ _ _ _ _ _ hk m (by omega) (by omega) hS.1 hS.2.1.1
    · have hp2 : x.toInt < 0 := by
        have q1 : ¬ 0 < x.toInt := fun q => hp ((ltIc (x := x) (N := 0) (n := 0) rfl).mpr q)
        have q2 : x.toInt ≠ 0 := fun q => h0 (by rw [← Int32.toInt_inj, q]; rfl)
        omega
      obtain ⟨m, hm⟩ : ∃ m : Nat, x.toInt = -(m : Int) := ⟨(-x.toInt).toNat, by omega⟩
      have hneg : (-(nI m)).toInt = -(m : Int) := by
        rw [Int32.toInt_neg, nI_toInt (by omega), Int.bmod_eq_of_le (by omega) (by omega)]
      have hx : x = -(nI m) := by rw [← Int32.toInt_inj, hneg, hm]
      refine main (-1) m (by omega) (Or.inr rfl) (by rw [if_neg hp]) (by rw [if_neg hp, hx, Int32.neg_neg]) ?_
      rw [hx]
      exact c_mTurnN _ _ _ _ _ _ _ _ _ _ _ _ _ hk m (by omega) (by omega) hS.1 hS.2.1.1
theorem s_stop (h : Inv b w0 m0) (hb : b + 2000 ≤ 2 ^ 28) (x : Int32) : ∃ (k9 mb : Int32) (w1 m1 : List va_E) (z1 : Nat → Int64), ConW yL_stop cL_stop 4 (some .int) [(0, 9, 12, 18)] (rmt 7 171) [.ref 0, .int x, .ref 95] (w0 ++ [OUT z]) (some (.int k9)) (w1 ++ [OUT z1]) ∧ Con yX6_stop cX6_stop 2 (some .int) (rmk 2 44) [.ref 0, .int x] m0 (some (.int mb)) m1 ∧ Con yX6_thrown cX6_thrown 1 (some .int) (rmk 0 0) [.ref 0] m1 (some (.int k9)) m1 ∧ (k9 = 0 → z1 0 = mb.toInt64) ∧ Inv (b + 2000) w1 m1 := by
  obtain ⟨kp, d0, d1, k, rm, R, cod, n, aw, op, fig, pop, pmk, pen, psts, ptd, t, th, at9, pt, nm, oq, hs, s, bg, tm, rfl, rfl, hS, hn, hch⟩ := h
  have hrm := hS.2.2.1.1
  have hk := hS.2.2.1.2.2.1
  cases hc : btw x 0 59 with
  | false =>
    refine ⟨1, 0, _, _, z, w_stop_1 cwL (cwC hrm) (cwC hrm) rfl (t_stop _ _ _ _ _ _ _ _ _ _ _ _ _ _ _ _ _ x ?_), by apply c_mStopF; exact hc, by apply c_thrown, fun q => absurd q (by decide), inv_i (hS.more (by omega)) hn hch⟩
    rcases btw_F (a := 0) (b := 59) rfl rfl hc with q | q
    · exact Or.inl q
    · refine Or.inr (fun q2 => q ?_)
      rw [ltIc2 (n := 60) rfl] at q2
      rw [leIc2 (n := 59) rfl]
      omega
  | true =>
    obtain ⟨j, -, hj, rfl⟩ := btw_nat (a := 0) (b := 59) rfl rfl (by omega) hc
    have hR2 := Rp_stop hS.2.1.1 hS.1 j (by omega)
    exact ⟨0, _, _, _, _, w_stop cwL (cwC hrm) (cwC (puM_ok hrm)) rfl (c_stop _ _ _ _ _ _ _ _ _ _ _ _ _ _ _ _ _ hrm hk j (by omega)), c_mStop _ _ _ _ _ _ _ _ _ _ _ _ _ hk j (by omega) (d' := stD d0 j) hS.2.1.1 hR2, by apply c_thrown, fun _ => updL0 _ _, inv_i (hS.push (by omega) (sHi_upd (sHi_rf _) (by omega) _) (Rp_svu (d := stD d0 j) (show SOk (stD d0 j) from hS.2.1.1) hR2 k) ((GOk_st hS.2.1 j).more (by omega))) hn hch⟩
theorem s_clutch (h : Inv b w0 m0) (hb : b + 2000 ≤ 2 ^ 28) (x : Int32) : ∃ (k9 mb : Int32) (w1 m1 : List va_E) (z1 : Nat → Int64), ConW yL_clutch cL_clutch 4 (some .int) [(0, 9, 12, 18)] (rmt 7 171) [.ref 0, .int x, .ref 95] (w0 ++ [OUT z]) (some (.int k9)) (w1 ++ [OUT z1]) ∧ Con yX6_clutch cX6_clutch 2 (some .int) (rmk 2 44) [.ref 0, .int x] m0 (some (.int mb)) m1 ∧ Con yX6_thrown cX6_thrown 1 (some .int) (rmk 0 0) [.ref 0] m1 (some (.int k9)) m1 ∧ (k9 = 0 → z1 0 = mb.toInt64) ∧ Inv (b + 2000) w1 m1 := by
  obtain ⟨kp, d0, d1, k, rm, R, cod, n, aw, op, fig, pop, pmk, pen, psts, ptd, t, th, at9, pt, nm, oq, hs, s, bg, tm, rfl, rfl, hS, hn, hch⟩ := h
  have hrm := hS.2.2.1.1
  have hk := hS.2.2.1.2.2.1
  cases hc : iswh x with
  | false => exact ⟨1, 0, _, _, z, w_clutch_1 cwL (cwC hrm) (cwC hrm) rfl (t_clutch _ _ _ _ _ _ _ _ _ _ _ _ _ _ _ _ _ x hc), by apply c_mClutchF; rw [wh_btw]; exact hc, by apply c_thrown, fun q => absurd q (by decide), inv_i (hS.more (by omega)) hn hch⟩
  | true =>
    obtain ⟨w, hw, rfl⟩ := wh_of hc
    have hR2 := Rp_k hS.2.1.1 hS.1 w hw
    refine ⟨0, _, _, _, _, w_clutch cwL (cwC hrm) (cwC (puM_ok hrm)) rfl (c_clutch _ _ _ _ _ _ _ _ _ _ _ _ _ _ _ _ _ hrm hk w hw), c_mClutch _ _ _ _ _ _ _ _ _ _ _ _ _ hk w hw, by apply c_thrown, fun _ => ?_, inv_i (hS.push (by omega) (sHi_upd (sHi_rf _) (by omega) _) (Rp_svu (d := kD d0 w) (show SOk (kD d0 w) from hS.2.1.1) hR2 k) ((GOk_k hS.2.1 w).more (by omega))) hn hch⟩
    rw [updL0, hS.1.2.2.1 w hw, show va_up (sLo d0) w (!(sLo d0) w) w = !(sLo d0) w from by simp [va_up]]
    cases sLo d0 w <;> rfl
end


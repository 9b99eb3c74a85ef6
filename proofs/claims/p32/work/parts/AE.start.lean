/-! THE LAW'S START -/
abbrev gvC : Jvm.Cond := Jvm.Cond.and given_1 narrow_1
abbrev fr0 (s : State) : Nat → Prop := fun q => s.heap.size ≤ q
section START
variable {s : State} {args : Array Value}
theorem st_arr {ty : FieldType} (hty : ty = .int ∨ ty = .boolean ∨ ty = .long) (h : (Cond.arrayClass ty).before args s = true) : ∃ c : ClassId, ArrOfT s c ty ∧ va_RA s c ty := by
  obtain ⟨c, k, comp, h1, h2, h3⟩ := Cond.arrayClass_spec h
  refine ⟨c, fun n z => ⟨(fun k hk => by rcases hty with rfl | rfl | rfl <;> cases hk), k, h2, comp, h3⟩, ?_⟩
  rcases hty with rfl | rfl | rfl <;> exact h1
theorem st_arrO {C : String} (h : (Cond.arrayOver (.object C)).before args s = true) : ∃ c : ClassId, ArrOfT s c (.object C) ∧ va_RA s c (.object C) := by
  obtain ⟨comp, c, k, h1, h2, h3, h4, h5⟩ := Cond.arrayOver_spec h
  exact ⟨c, fun n z => ⟨(fun k h => by cases h), k, h3, comp, h4⟩, k, comp, h3, h4, h1, h5⟩
theorem st_in (hts : ∀ w ∈ lw_tbl, w.before args s = true) (i : Nat) {w : Cond} (h : lw_tbl[i]? = some w) : w.before args s = true := hts w (List.mem_of_getElem? h)
set_option maxHeartbeats 4000000 in
theorem st_kk (hts : ∀ w ∈ lw_tbl, w.before args s = true) : ∃ (D : va_G) (dA : Nat → Nat), KK D dA s := by
  have hg : ∀ w ∈ GW, w.before args s = true := fun w hw => hts w (List.mem_filter.mp hw).1
  obtain ⟨c0, i0, k0⟩ := u_known (n := 2) hg inG0 (st_in hts 112 (by decide +kernel))
  obtain ⟨c1, i1, k1⟩ := u_known (n := 5) hg inG1 (st_in hts 147 (by decide +kernel))
  obtain ⟨c2, i2, k2⟩ := u_known (n := 10) hg inG2 (st_in hts 29 (by decide +kernel))
  obtain ⟨c3, i3, k3⟩ := u_known (n := 5) hg inG3 (st_in hts 129 (by decide +kernel))
  obtain ⟨c4, i4, k4⟩ := u_known (n := 6) hg inG4 (st_in hts 35 (by decide +kernel))
  obtain ⟨c5, i5, k5⟩ := u_known (n := 7) hg inG5 (st_in hts 21 (by decide +kernel))
  obtain ⟨a0, x0, y0⟩ := st_arr (Or.inl rfl) (hg _ aw_int)
  obtain ⟨a1, x1, y1⟩ := st_arr (Or.inr (Or.inl rfl)) (hg _ aw_boolean)
  obtain ⟨a3, x3, y3⟩ := st_arrO (C := SNm) (st_in hts 118 (by decide +kernel))
  refine ⟨(fun c => match c with | 0 => c0 | 1 => c1 | 2 => c2 | 3 => c3 | 4 => c4 | _ => c5, fun c => match c with | 0 => i0 | 1 => i1 | 2 => i2 | 3 => i3 | 4 => i4 | _ => i5), fun t => match t with | 0 => a0 | 1 => a1 | 2 => a0 | _ => a3, ⟨fun c q h => ?_, fun k q h => ?_⟩, fun w hw => va_Nw.of (NW_on hw) (hts w (List.mem_filter.mp hw).1)⟩
  · match c, h with
    | 0, h => cases h; exact k0
    | 1, h => cases h; exact k1
    | 2, h => cases h; exact k2
    | 3, h => cases h; exact k3
    | 4, h => cases h; exact k4
    | 5, h => cases h; exact k5
    | n + 6, h => cases h
  · match k, h with
    | 0, h => cases h; exact ⟨x0, y0⟩
    | 1, h => cases h; exact ⟨x1, y1⟩
    | 2, h => cases h; exact ⟨x0, y0⟩
    | 3, h => cases h; exact ⟨x3, y3⟩
    | n + 4, h => cases h
theorem st_fr : ∀ a : Nat, a < s.heap.size → ¬ fr0 s a := fun a h1 h2 => absurd h1 (Nat.not_lt.mpr h2)
set_option maxHeartbeats 4000000 in
set_option maxRecDepth 100000 in
theorem st_za (hts : ∀ w ∈ lw_tbl, w.before args s = true) (hgv : gvC.before args s = true) : ZP (fr0 s) s s.heap := by
  have hs := flat_of_before _ hgv
  refine ⟨?_, ?_, va_AO.of (st_in hts 118 (by decide +kernel))⟩
  · obtain ⟨t, h1, h2⟩ := va_Tof (tm := Term.static RX5 "FIRST_TEETH" "[I") (ty := .int) (N := 5) (f := fun j => .int (teeth0 j)) (A := fr0 s) (by decide) (hs _ (by decide +kernel)) (va_eqt (hs _ (by decide +kernel))) (fun j hj => by
      have : j = 0 ∨ j = 1 ∨ j = 2 ∨ j = 3 ∨ j = 4 := by omega
      rcases this with rfl | rfl | rfl | rfl | rfl <;> exact va_eqt (hs _ (by decide +kernel))) st_fr
    exact ⟨t, va_Zref (st_in hts 41 (by decide +kernel)) (st_in hts 7 (by decide +kernel)) h1 st_fr, h2⟩
  · obtain ⟨t, h1, h2⟩ := va_Tof (tm := Term.static RX5 "FIRST_MOON" "[I") (ty := .int) (N := 12) (f := fun j => .int (moon0 j)) (A := fr0 s) (by decide) (hs _ (by decide +kernel)) (va_eqt (hs _ (by decide +kernel))) (fun j hj => by
      have : j = 0 ∨ j = 1 ∨ j = 2 ∨ j = 3 ∨ j = 4 ∨ j = 5 ∨ j = 6 ∨ j = 7 ∨ j = 8 ∨ j = 9 ∨ j = 10 ∨ j = 11 := by omega
      rcases this with rfl | rfl | rfl | rfl | rfl | rfl | rfl | rfl | rfl | rfl | rfl | rfl <;> exact va_eqt (hs _ (by decide +kernel))) st_fr
    exact ⟨t, va_Zref (st_in hts 46 (by decide +kernel)) (st_in hts 7 (by decide +kernel)) h1 st_fr, h2⟩
end START
/-- what a walk of the law's start keeps -/
def XS (L : Nat) (xs : Nat → Int32) : XT := fun p l e s m args below meth c D dA ad A Q => XLw L xs p l e s m args below meth c D dA ad A Q ∧ ZP A s s.heap
theorem XLw.ad {L : Nat} {xs : Nat → Int32} {p : Program} {l : Launch} {e : Env} {s : State} {m : MethodId} {args : Array Value} {below : List Frame} {meth : Method} {c : Code} {D : va_G} {dA ad ad' : Nat → Nat} {A : Nat → Prop} {Q : State → Prop} (h1 : ad' 1000 = ad 1000) (h : XLw L xs p l e s m args below meth c D dA ad A Q) : XLw L xs p l e s m args below meth c D dA ad' A Q := by
  obtain ⟨b, d⟩ := h
  exact ⟨by rw [h1]; exact b, d⟩
theorem xl_k {L n : Nat} {xs : Nat → Int32} : XK n (XS L xs) := fun _ _ _ _ _ _ _ _ _ _ _ _ _ _ _ hag h => ⟨h.1.ad (hag 1000 (Or.inr (Nat.le_refl _))), h.2⟩
theorem xl_z {L : Nat} {xs : Nat → Int32} : XZ (XS L xs) := fun _ _ _ _ _ _ _ _ _ _ _ _ _ _ h => h.2
theorem MG.mono {own : String} {cc : ByteArray} {nL : Nat} {ret : Option FieldType} {rm : Room} {k9 n9 : Nat} {X X' : XT} {B : KT} (h : ∀ p l e s m args below meth c D dA ad A Q, X p l e s m args below meth c D dA ad A Q → X' p l e s m args below meth c D dA ad A Q) (M : MG own cc nL ret rm k9 n9 X B) : MG own cc nL ret rm k9 n9 X' B := by
  obtain ⟨p, l, e, s, m, args, below, meth, c, D, dA, ad, A, Q, hB, hx, hb, hml, hr, hts, hown, hlocks, hK, hkn, hA, hX⟩ := M
  exact ⟨p, l, e, s, m, args, below, meth, c, D, dA, ad, A, Q, hB, hx, hb, hml, hr, hts, hown, hlocks, hK, hkn, hA, h _ _ _ _ _ _ _ _ _ _ _ _ _ _ hX⟩
theorem shn_0 {n : Nat} : ∀ {w : List va_E}, clW n w → shn 0 w = w
  | [], _ => rfl
  | e :: t, h => by
    show ne (fun t => t) (fun k => 0 + k) e :: shn 0 t = e :: t
    rw [ne_cl (fun k _ => Nat.zero_add k) h.1, shn_0 h.2]
theorem gp0 : GP 0 D0 := ⟨gok0, by
  refine ⟨?_, ?_⟩
  · show -9999 ≤ (0 : Int32).toInt ∧ (0 : Int32).toInt ≤ 9999
    decide
  · show (0 : Int32) = 0 - 0
    decide⟩
theorem hs0 : Hs 0 0 rmz (fun _ => D0) := ⟨rmz_lt, fun i j hi hj h => by
  unfold rmz at h
  rw [if_pos hi, if_pos hj] at h
  exact h, by omega, fun j hj => absurd hj (Nat.not_lt_zero _)⟩
theorem nd_L_14 : NWd RL 14 5 F5s := ⟨RX5, TX5, 7, tyX5, rfl, inG5, tyX5_ok, (fun j hj => by
  have : j = 0 ∨ j = 1 ∨ j = 2 ∨ j = 3 ∨ j = 4 ∨ j = 5 ∨ j = 6 := by omega
  rcases this with rfl | rfl | rfl | rfl | rfl | rfl | rfl <;> rfl), gw1 20 (by decide +kernel) (by decide +kernel), gw1 21 (by decide +kernel) (by decide +kernel), gw1 7 (by decide +kernel) (by decide +kernel), rfl⟩
set_option maxRecDepth 20000 in
theorem start_walk {L : Nat} {xs : Nat → Int32} (hL : L ≤ 260) {B : KT} (M : MG RL cL_law 13 ret room_1 0 0 (XS L xs) B) : B 0 [(0, .ref 1000)] [] [] := by
  refine n_mkI M xl_z nd_L_14 n_X5 lk_L_105 dL_law_0 dL_law_3 dL_law_4 rfl ⟨by decide, by decide, by decide +kernel⟩ ⟨Nat.le_of_ble_eq_true rfl, Nat.le_of_ble_eq_true rfl⟩ ⟨Nat.le_of_ble_eq_true rfl, Nat.le_of_ble_eq_true rfl⟩ ⟨clW_n, rfl, rfl, Nat.le_of_ble_eq_true rfl⟩ (Nat.le_of_ble_eq_true rfl) xl_k (fun B M => ?_)
  show B 7 [(0, .ref 1000)] [.ref 0] (shn 0 CW0)
  rw [shn_0 cw0_cl]
  refine g_astore_n M dL_law_7 (by decide) ?_
  refine g_aload_n M dL_law_8 rfl ?_
  refine q_V0i M l_keep0 lk_L_106 dL_law_9 (by decide +kernel) ⟨Nat.le_of_ble_eq_true rfl, Nat.le_of_ble_eq_true rfl⟩ ⟨rfl, rfl⟩ nd95 rfl rfl rfl (Nat.le_of_ble_eq_true rfl) ?_
  refine g_if_ne M 26 dL_law_12 (by decide) (fun h9 => absurd rfl h9) (fun _ => ?_)
  refine g_aload_n M dL_law_15 rfl ?_
  refine m_S1i M (c_holds rmz_lt gp0) lk_L_109 dL_law_16 (by decide +kernel) ⟨Nat.le_of_ble_eq_true rfl, Nat.le_of_ble_eq_true rfl⟩ ⟨Nat.le_of_ble_eq_true rfl, Nat.le_of_ble_eq_true rfl⟩ nd95 rfl (Nat.le_of_ble_eq_true rfl) (fun B M => ?_)
  refine g_if_eq M 26 dL_law_19 (by decide) (fun h9 => absurd h9 (by decide)) (fun _ => ?_)
  refine g_iconst M 1 dL_law_22 (by decide) ?_
  refine g_goto M 27 dL_law_23 (by decide) ?_
  refine g_istore_n M dL_law_27 (by decide) ?_
  refine g_iconst M 0 dL_law_28 (by decide) ?_
  refine g_istore_n M dL_law_29 (by decide) ?_
  refine g_lvs M [(0, .ref 1000), (1, .ref 0), (2, .int 1), (3, .int (nI 0))] (lvs_c rfl (lvs_c rfl (lvs_c rfl (lvs_c rfl lvs_n)))) ?_
  exact law_loop hL 60 0 0 _ _ D0 D0 0 rmz (fun _ => D0) T0w B (M.mono (fun _ _ _ _ _ _ _ _ _ _ _ _ _ _ h => h.1)) (by omega) (by decide) (Nat.le_of_ble_eq_true rfl) (Nat.le_of_ble_eq_true rfl) gp0 gp0 hs0


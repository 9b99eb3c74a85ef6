/-! THE LAW'S START -/
abbrev gvC : Jvm.Cond := Jvm.Cond.and given_1 narrow_1
abbrev fr0 (s : State) : Nat → Prop := fun q => s.heap.size ≤ q
section START
variable {s : State} {args : Array Value}
theorem st_arr {ty : FieldType} (hty : ty = .int ∨ ty = .boolean ∨ ty = .long) (h : (Cond.arrayClass ty).before args s = true) : ∃ c : ClassId, ArrOfT s c ty ∧ va_RA s c ty := by
  obtain ⟨c, k, comp, h1, h2, h3⟩ := Cond.arrayClass_spec h
  refine ⟨c, fun n z => ⟨(fun k hk => by rcases hty with rfl | rfl | rfl <;> cases hk), k, h2, comp, h3⟩, ?_⟩
  rcases hty with rfl | rfl | rfl <;> exact h1
theorem st_arrO {C : String} (h : (Cond.arrayOver (.object C)).before args s = true) : ∃ c : ClassId, ArrOfT s c (.object C) ∧ va_RA s c (.object C) := by
  obtain ⟨comp, c, k, h1, h2, h3, h4, h5⟩ := Cond.arrayOver_spec h
  exact ⟨c, fun n z => ⟨(fun k h => by cases h), k, h3, comp, h4⟩, k, comp, h3, h4, h1, h5⟩
theorem st_in (hts : ∀ w ∈ lw_tbl, w.before args s = true) (i : Nat) {w : Cond} (h : lw_tbl[i]? = some w) : w.before args s = true := hts w (List.mem_of_getElem? h)
set_option maxHeartbeats 4000000 in
theorem st_kk (hts : ∀ w ∈ lw_tbl, w.before args s = true) : ∃ (D : va_G) (dA : Nat → Nat), KK D dA s := by
  have hg : ∀ w ∈ GW, w.before args s = true := fun w hw => hts w (List.mem_filter.mp hw).1
  obtain ⟨c0, i0, k0⟩ := u_known (n := 2) hg inG0 (st_in hts 163 (by decide +kernel))
  obtain ⟨c1, i1, k1⟩ := u_known (n := 5) hg inG1 (st_in hts 204 (by decide +kernel))
  obtain ⟨c2, i2, k2⟩ := u_known (n := 10) hg inG2 (st_in hts 77 (by decide +kernel))
  obtain ⟨c3, i3, k3⟩ := u_known (n := 5) hg inG3 (st_in hts 180 (by decide +kernel))
  obtain ⟨c4, i4, k4⟩ := u_known (n := 6) hg inG4 (st_in hts 83 (by decide +kernel))
  obtain ⟨c5, i5, k5⟩ := u_known (n := 7) hg inG5 (st_in hts 69 (by decide +kernel))
  obtain ⟨c6, i6, k6⟩ := u_known (n := 13) hg inG6 (st_in hts 826 (by decide +kernel))
  obtain ⟨a0, x0, y0⟩ := st_arr (Or.inl rfl) (hg _ aw_int)
  obtain ⟨a1, x1, y1⟩ := st_arr (Or.inr (Or.inl rfl)) (hg _ aw_boolean)
  obtain ⟨a2, x2, y2⟩ := st_arr (Or.inr (Or.inr rfl)) (hg _ aw_long)
  obtain ⟨a3, x3, y3⟩ := st_arrO (C := SNm) (st_in hts 169 (by decide +kernel))
  refine ⟨(fun c => match c with | 0 => c0 | 1 => c1 | 2 => c2 | 3 => c3 | 4 => c4 | 5 => c5 | _ => c6, fun c => match c with | 0 => i0 | 1 => i1 | 2 => i2 | 3 => i3 | 4 => i4 | 5 => i5 | _ => i6), fun t => match t with | 0 => a0 | 1 => a1 | 2 => a2 | _ => a3, ⟨fun c q h => ?_, fun k q h => ?_⟩, fun w hw => va_Nw.of (NW_on hw) (hts w (List.mem_filter.mp hw).1)⟩
  · match c, h with
    | 0, h => cases h; exact k0
    | 1, h => cases h; exact k1
    | 2, h => cases h; exact k2
    | 3, h => cases h; exact k3
    | 4, h => cases h; exact k4
    | 5, h => cases h; exact k5
    | 6, h => cases h; exact k6
    | n + 7, h => cases h
  · match k, h with
    | 0, h => cases h; exact ⟨x0, y0⟩
    | 1, h => cases h; exact ⟨x1, y1⟩
    | 2, h => cases h; exact ⟨x2, y2⟩
    | 3, h => cases h; exact ⟨x3, y3⟩
    | n + 4, h => cases h
theorem st_not (hA : ∀ a : Nat, a < s.heap.size → ¬ fr0 s a) : True := trivial
theorem st_fr : ∀ a : Nat, a < s.heap.size → ¬ fr0 s a := fun a h1 h2 => absurd h1 (Nat.not_lt.mpr h2)
set_option maxHeartbeats 4000000 in
set_option maxRecDepth 100000 in
theorem st_za (hts : ∀ w ∈ lw_tbl, w.before args s = true) (hgv : gvC.before args s = true) : ZP (fr0 s) s s.heap := by
  have hs := flat_of_before _ hgv
  refine ⟨?_, ?_, va_AO.of (st_in hts 169 (by decide +kernel))⟩
  · obtain ⟨t, h1, h2⟩ := va_Tof (tm := Term.static RX5 "FIRST_TEETH" "[I") (ty := .int) (N := 5) (f := fun j => .int (teeth0 j)) (A := fr0 s) (by decide) (hs _ (by decide +kernel)) (va_eqt (hs _ (by decide +kernel))) (fun j hj => by
      have : j = 0 ∨ j = 1 ∨ j = 2 ∨ j = 3 ∨ j = 4 := by omega
      rcases this with rfl | rfl | rfl | rfl | rfl <;> exact va_eqt (hs _ (by decide +kernel))) st_fr
    exact ⟨t, va_Zref (st_in hts 89 (by decide +kernel)) (st_in hts 54 (by decide +kernel)) h1 st_fr, h2⟩
  · obtain ⟨t, h1, h2⟩ := va_Tof (tm := Term.static RX5 "FIRST_MOON" "[I") (ty := .int) (N := 12) (f := fun j => .int (moon0 j)) (A := fr0 s) (by decide) (hs _ (by decide +kernel)) (va_eqt (hs _ (by decide +kernel))) (fun j hj => by
      have : j = 0 ∨ j = 1 ∨ j = 2 ∨ j = 3 ∨ j = 4 ∨ j = 5 ∨ j = 6 ∨ j = 7 ∨ j = 8 ∨ j = 9 ∨ j = 10 ∨ j = 11 := by omega
      rcases this with rfl | rfl | rfl | rfl | rfl | rfl | rfl | rfl | rfl | rfl | rfl | rfl <;> exact va_eqt (hs _ (by decide +kernel))) st_fr
    exact ⟨t, va_Zref (st_in hts 94 (by decide +kernel)) (st_in hts 54 (by decide +kernel)) h1 st_fr, h2⟩
set_option maxRecDepth 100000 in
theorem tx_all : xTexts.all (fun q => decide (Cond.stringRef RX5 q.1 q.2 ∈ lw_tbl) && decide (Cond.exactly (Term.string RX5 q.1) "java/lang/String" ∈ flatC gvC)) = true := by decide +kernel
set_option maxHeartbeats 4000000 in
set_option maxRecDepth 100000 in
theorem st_xp (hts : ∀ w ∈ lw_tbl, w.before args s = true) (hgv : gvC.before args s = true) : XP (fr0 s) s s.heap := by
  have hs := flat_of_before _ hgv
  refine ⟨vx_Zqof (st_in hts 392 (by decide +kernel)) (st_in hts 61 (by decide +kernel)) (hs _ (by decide +kernel)) st_fr, vx_Zqof (st_in hts 394 (by decide +kernel)) (st_in hts 61 (by decide +kernel)) (hs _ (by decide +kernel)) st_fr,
    ⟨va_Nw.of rfl (st_in hts 367 (by decide +kernel)), va_Nw.of rfl (st_in hts 465 (by decide +kernel)), va_Nw.of rfl (st_in hts 629 (by decide +kernel))⟩,
    ⟨va_Nc.of (hs _ (by decide +kernel)), va_Nc.of (hs _ (by decide +kernel)), va_Nc.of (hs _ (by decide +kernel))⟩,
    ⟨va_Nw.of rfl (st_in hts 369 (by decide +kernel)), va_Nw.of rfl (st_in hts 371 (by decide +kernel)), va_Nw.of rfl (st_in hts 373 (by decide +kernel))⟩, fun q hq => ?_⟩
  have h := List.all_eq_true.mp tx_all q hq
  simp only [Bool.and_eq_true, decide_eq_true_eq] at h
  obtain ⟨a, _, _, _, h1, -⟩ := Cond.exactly_spec (hs _ h.2)
  exact ⟨a, vk_R.of (hts _ h.1) h1⟩
end START


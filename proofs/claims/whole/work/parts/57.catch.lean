theorem join_core {D : va_G} {dA ad : Nat → Nat} {A : Nat → Prop} {w w0 w1 : List va_E} {ps : List Nat} {H0 H H1 : Heap} {locs L : List Loc}
    (hP : va_P D vwCl (nw dA ad w) H) (hD : va_D A (nw dA ad w)) (hS : va_S A H0 H locs) (hA : ∀ q, H0.size ≤ q → A q) (hsel : ps.map (fun k => (w[k]?).map (ne (fun t => t) (inn ps))) = w0.map some) (hlen : w1.length = w0.length)
    (hP1 : va_P D vwCl (nw dA (fun j => ad (out ps j)) w1) H1) (hz : H.size ≤ H1.size) (hk : ∀ q : Nat, q < H.size → ¬ va_A (nw dA (fun j => ad (out ps j)) w0) H.size q → H1[q]? = H[q]?) (hL : ∀ q ∈ L, va_A (nw dA (fun j => ad (out ps j)) w0) H.size q.base) :
    va_P D vwCl (nw dA ad (putw ps w1 w)) H1 ∧ va_D A (nw dA ad (putw ps w1 w)) ∧ va_S A H0 H1 (locs ++ L) := by
  have hC := sel_eq (dA := dA) (ad := ad) hsel
  have hF := va_free (wc := nw dA (fun j => ad (out ps j)) w0) hD hS hA ps hC
  have hpl : ps.length = w0.length := by
    have := congrArg List.length hsel
    simpa using this
  have new : ∀ (k : Nat) (q : Nat × va_E), (nw dA ad (putw ps w1 w))[k]? = some q → q.1 = ad k ∧ ∃ e0, w[k]? = some e0 := by
    intro k q hq
    obtain ⟨e', he', rfl⟩ := nw_inv hq
    rw [putw_get] at he'
    cases hw : w[k]? with
    | none => rw [hw] at he'; cases he'
    | some e0 => exact ⟨rfl, e0, rfl⟩
  refine ⟨?_, ?_, ?_⟩
  · intro k q hq
    obtain ⟨e', he', rfl⟩ := nw_inv hq
    rw [putw_get] at he'
    cases hw : w[k]? with
    | none => rw [hw] at he'; cases he'
    | some e0 =>
      rw [hw] at he'
      simp only [Option.map_some, Option.some.injEq] at he'
      cases h1 : w1[ixo ps k]? with
      | some e1' =>
        rw [h1] at he'
        have hi : ixo ps k < ps.length := by
          have := (List.getElem?_eq_some_iff.mp h1).1
          omega
        have hpk := ixo_get ps k hi
        have h2 := hP1 _ _ (nw_get h1)
        have ho : out ps (ixo ps k) = k := by unfold out; rw [hpk]
        simp only [ho] at h2
        rw [← he', ne_comp]
        exact h2
      | none =>
        rw [h1] at he'
        simp only at he'
        subst he'
        have h3 := nw_get (dA := dA) (ad := ad) hw
        refine (hP k _ h3).kept (hk _ (hP k _ h3).lt ?_)
        rintro (⟨i, e9, h9⟩ | h9)
        · obtain ⟨e8, h8, h7⟩ := nw_inv h9
          have hi : i < ps.length := by rw [hpl]; exact (List.getElem?_eq_some_iff.mp h8).1
          have hpi : ps[i]? = some ps[i] := List.getElem?_eq_getElem hi
          have h6 := congrArg (fun l => l[i]?) hC
          simp only [List.getElem?_map, hpi, Option.map_some, nw_get h8] at h6
          have h6 := Option.some.inj h6
          have hk6 := hD.1 _ _ _ _ h6 h3 (by have := congrArg Prod.fst h7; exact this.symm)
          have h5 := ixo_lt ps i k (by rw [hpi, hk6])
          rw [hpl, ← hlen] at h5
          rw [List.getElem?_eq_getElem h5] at h1
          cases h1
        · exact absurd (hP k _ h3).lt (Nat.not_lt.mpr h9)
  · refine ⟨fun i j x y hx hy hxy => ?_, fun k q hq => ?_⟩
    · obtain ⟨h1, e0, h2⟩ := new i x hx
      obtain ⟨h3, e1, h4⟩ := new j y hy
      exact hD.1 i j _ _ (nw_get h2) (nw_get h4) (by show ad i = ad j; rw [← h1, ← h3]; exact hxy)
    · obtain ⟨h1, e0, h2⟩ := new k q hq
      rw [h1]
      exact hD.2 k _ (nw_get h2)
  · exact ⟨Nat.le_trans hS.1 hz, fun q h1 h2 => by rw [hk q (Nat.lt_of_lt_of_le h1 hS.1) (fun z => h2 (hF q z))]; exact hS.2.1 q h1 h2, fun q hq => by
      rcases List.mem_append.mp hq with h | h
      · exact hS.2.2 q h
      · exact hF _ (hL q h)⟩
theorem xp_blind {av : List Value} {D : va_G} {dA : Nat → Nat} {sz : Nat} {ww : va_W} : FrameBlind (va_Pc av (fun U => U.heap.size = sz ∧ va_P D vwCl ww U.heap ∧ KK D dA U ∧ va_D (fun _ => True) ww ∧ XP (va_A ww sz) U U.heap)) := by
  intro a U g mk q
  obtain ⟨q0, q1, qP, qK, qD, qX⟩ := q
  exact ⟨q0, q1, qP, ⟨va_K.moved (u := U) (U := U.calling g mk a) (Vm.Alike.refl U.vm) qK.1, NK.same (u := U) (U := U.calling g mk a) rfl qK.2⟩, qD, XP.same (s := U) (U := U.calling g mk a) qX rfl⟩
/-- one of the table's rows catches E at pc, behind rows that pass it: the handler is at h -/
def CatchAt (hh : List (Nat × Nat × Nat × Nat)) (E : String) (pc h : Nat) : Prop := ∃ (pre : List ExceptionTableEntry) (x : ExceptionTableEntry) (suf : List ExceptionTableEntry), tableOf hh = pre ++ x :: suf ∧
  (∀ z ∈ pre, z.catchType ≠ 0 ∧ ∃ nm : String, Cond.classLink RL z.catchType nm ∈ GW ∧ ∀ U : State, ∀ A H, XP A U H → va_Nc E nm U) ∧ covers x pc = true ∧ x.catchType ≠ 0 ∧ Cond.classLink RL x.catchType E ∈ GW ∧ x.handlerPc = h ∧ ∀ U : State, ∀ A H, XP A U H → va_Nw (.castable E E) U
def StAt (cc : ByteArray) (nL h h2 : Nat) : Prop := (∃ j : Fin 4, decode cc h = .ok (.astore_n j, 1) ∧ j.val < nL ∧ h2 = h + 1) ∨ (∃ j : Nat, decode cc h = .ok (.astore j, 2) ∧ j < nL ∧ h2 = h + 2)
set_option maxHeartbeats 4000000 in
theorem g_callT {cc : ByteArray} {nL f9 k8 : Nat} {ret : Option FieldType} {hh : List (Nat × Nat × Nat × Nat)} {r : Option Value} {w1 : List va_E} {B : KT} (M : MG RL cc nL ret (rmt f9 k8) 0 0 (XWr hh r w1) B) {pc : Nat} {lv : List (Nat × Value)} {st : List Value} {w : List va_E} {idx : Nat} {y : MethodName} {cy : ByteArray} {ny n ci : Nat} {rety : Option FieldType} {rmy : Room} {a0 : List Value} {w0 : List va_E} {E : String} {wy : List va_E} (hc : ConT y cy ny rety rmy a0 w0 E wy) (hG : GoodIn GW (wsV RL idx y.cls y (wsy y cy ny rety))) (hd : decode cc pc = .ok (.invokevirtual idx, 3)) (hy : y.cls ≠ "java/lang/invoke/MethodHandle" ∧ y.cls ≠ "java/lang/invoke/VarHandle" ∧ (parseMethodDescriptor y.desc).map (fun d => d.parameters.length) = some n) (hR : rmy.frames + 1 ≤ f9 ∧ 8 + (ny + 11) + rmy.locals ≤ k8) (hz : rmy.cells = 1 ∧ rmy.slots = 6) (ps : List Nat) {As : List Value} {q : Nat} {fs : List Value} (he : w[q]? = some (.inr (ci, fs))) (hcl : (vwCl[ci]?).map (fun z => z.1) = some y.cls) (ha : (.ref q :: As).map (nv (inn ps)) = a0) (hn : As.length = n) (hnd : va_nd ps = true) (hsel : ps.map (fun k => (w[k]?).map (ne (fun t => t) (inn ps))) = w0.map some) (hst : (st.map (fun v => v.category)).sum ≤ 8)
    {h h2 : Nat} (hcat : CatchAt hh E pc h) (hsa : StAt cc nL h h2) (kk : ∀ B2, MG RL cc nL ret (rmt f9 k8) 1 6 (XWr hh r w1) B2 → B2 h2 [] [] (putw ps wy w)) : B pc lv (As.reverse ++ .ref q :: st) w := by
  obtain ⟨p, l, e, s, m, args, below, meth, c, D, dA, ad, A, Q, rfl, hx, hb, hml, hr, hts, hown, hlocks, ⟨hK, hN⟩, hkn, hA, hl0, htab, hQ, hX⟩ := M
  intro H locs ls hl hP hD hS
  have hPc := hP.sub (ws' := nw dA (fun j => ad (out ps j)) w0) ps (fm_of _ _ _ (sel_eq hsel))
  have hDc := hD.sub (ws' := nw dA (fun j => ad (out ps j)) w0) ps hnd (sel_eq hsel)
  have ha9 : a0.map (nv (fun j => ad (out ps j))) = Value.ref (ad q) :: As.map (nv ad) := by
    rw [← ha, List.map_map]
    simp only [Function.comp_def, nv_comp, out_inn, List.map_cons]
    try rfl
  rw [show (As.reverse ++ .ref q :: st).map (nv ad) = (As.map (nv ad)).reverse ++ .ref (ad q) :: st.map (nv ad) by simp [List.map_append, List.map_reverse, nv]]
  obtain ⟨⟨C9, T9, N9⟩, hz9, hz8⟩ : ∃ z, vwCl[ci]? = some z ∧ z.1 = y.cls := by
    cases h9 : vwCl[ci]? with
    | none => rw [h9] at hcl; cases hcl
    | some z => rw [h9] at hcl; exact ⟨z, rfl, Option.some.inj hcl⟩
  have hrun := vx_runV (e := e) (below := below) (meth := meth) (As := As.map (nv ad)) (rest := st.map (nv ad)) (g := F0 m pc ls ((As.map (nv ad)).reverse ++ .ref (ad q) :: st.map (nv ad))) (R := rmt f9 k8) (locs := locs) (H := H) (cells := 0) (slots := 0) ⟨hx, hb, hml, hown, hts⟩ (hc.2 l hl0 D dA (fun j => ad (out ps j)) H.size) (cwV (C := y.cls) n hts hG rfl hz.1 hz.2 ⟨rfl, hy⟩ hR) ⟨xp_blind, (by have h6 := va_recv hK hP hz9 (nw_get he); rw [hz8] at h6; exact h6), fun U hU hW => ⟨by rw [ha9], by rw [hU], by rw [hU]; exact hPc, ⟨va_K.moved hW.alike hK, hN.warm hW⟩, hDc.weaken (fun _ _ _ _ => trivial), hX.to hW (fun q h1 h2 => by rw [hU]; exact hS.2.1 q h1 h2) (va_free hD hS hA ps (sel_eq hsel))⟩⟩ rfl (by rw [List.length_map]; exact hn) hl.1 rfl (lv_room (by rw [List.map_map]; simp only [Function.comp_def, nv_cat]; exact hst)) hd ⟨Nat.le_refl _, Nat.le_refl _⟩
  intro T hT X
  rcases hrun T hT X with ⟨v, st₀, t, T', L, h0, X', hL, e1, e2, hF, st9⟩ | ⟨q9, st₀, t, T', L, E9, ce, h0, X', hL, e1, e2, ⟨rfl, hP1, hFr⟩, hce, hcv, hcl9, st9⟩
  · exact hF.elim
  · rw [va_F, h0, ← e1] at hFr
    rw [← e1] at hP1 hce
    obtain ⟨j1, j2, j3⟩ := join_core hP hD hS hA hsel hc.1 hP1 hFr.1 hFr.2 hL
    obtain ⟨pre, x, suf, c1, c2, c3, c4, c5, c6, c7⟩ := hcat
    have hW := vx_catch (p := p) (l := l) (e := e) (R := rmt f9 k8) (below := below) (meth := meth) (H := T'.heap) (locs := locs ++ L) (cells := 0 + 1) (slots := 0 + 6) (Q := Q) (pc := pc) (ls := ls) (rest := st.map (nv ad)) hown pre x suf (by rw [htab]; exact c1) (fun z hz => Or.inr ⟨(c2 z hz).1, by
      obtain ⟨-, nm, n1, n2⟩ := c2 z hz
      exact ⟨nm, hts _ n1, n2 _ _ _ hX⟩⟩) c3 c4 (hts _ c5) (vx_ot_at (s := s) (U := s) (State.WarmedH.refl s) rfl (by rfl) (c7 _ _ _ hX)) hce hcv hcl9 (by
        rw [c6]
        have kB := kk _ ⟨p, l, e, s, m, args, below, meth, c, D, dA, ad, A, Q, rfl, hx, hb, hml, hr, hts, hown, hlocks, ⟨hK, hN⟩, ⟨Nat.le_refl _, Nat.le_refl _⟩, hA, hl0, htab, hQ, hX⟩
        rcases hsa with ⟨j, d1, d2, rfl⟩ | ⟨j, d1, d2, rfl⟩
        · exact lv_astore_n hx hb d1 rfl hl d2 rfl (fun ls9 hl9 => kB _ _ ls9 ⟨hl9.1, hl9.2.1, fun q hq => by cases hq⟩ j1 j2 j3)
        · exact lv_astore hx hb d1 hl d2 rfl (fun ls9 hl9 => kB _ _ ls9 ⟨hl9.1, hl9.2.1, fun q hq => by cases hq⟩ j1 j2 j3))
    obtain ⟨t2, a1, b1⟩ := hW T' rfl X'
    exact ⟨t2, st9.trans a1, b1⟩
set_option maxHeartbeats 4000000 in
/-- a wrapper called: one exception may have been made -/
theorem g_callW {cc : ByteArray} {nL k9 n9 : Nat} {ret : Option FieldType} {rm : Room} {X : XT} {B : KT} (M : MG RL cc nL ret rm k9 n9 X B) (hXP : ∀ p l e s m args below meth c D dA ad A Q, X p l e s m args below meth c D dA ad A Q → l.stackTraces = false ∧ XP A s s.heap) {pc : Nat} {lv : List (Nat × Value)} {st : List Value} {w : List va_E} {idx : Nat} {y : MethodName} {cy : ByteArray} {ny n : Nat} {rety : Option FieldType} {hh : List (Nat × Nat × Nat × Nat)} {rmy : Room} {a0 : List Value} {w0 : List va_E} {ry : Option Value} {wy : List va_E} (hc : ConW y cy ny rety hh rmy a0 w0 ry wy) (hG : GoodIn GW (va_wsS RL idx y (wsh y cy ny rety hh))) (hd : decode cc pc = .ok (.invokestatic idx, 3)) (hy : y.cls ≠ "java/lang/invoke/MethodHandle" ∧ y.cls ≠ "java/lang/invoke/VarHandle" ∧ (parseMethodDescriptor y.desc).map (fun d => d.parameters.length) = some n) (hR : rmy.frames + 1 ≤ rm.frames ∧ 8 + (ny + 11) + rmy.locals ≤ rm.locals) (hz : rmy.cells = 1 ∧ rmy.slots = 6) (hroom : k9 + 1 ≤ rm.cells ∧ n9 + 6 ≤ rm.slots) (ps : List Nat) {As : List Value} (ha : As.map (nv (inn ps)) = a0) (hn : As.length = n) (hnd : va_nd ps = true) (hsel : ps.map (fun k => (w[k]?).map (ne (fun t => t) (inn ps))) = w0.map some) (hst : (st.map (fun v => v.category)).sum ≤ 8)
    (kk : ∀ B2, MG RL cc nL ret rm (k9 + 1) (n9 + 6) X B2 → B2 (pc + 3) lv ((ry.map (nv (out ps))).toList ++ st) (putw ps wy w)) : B pc lv (As.reverse ++ st) w := by
  obtain ⟨p, l, e, s, m, args, below, meth, c, D, dA, ad, A, Q, rfl, hx, hb, hml, hr, hts, hown, hlocks, ⟨hK, hN⟩, hkn, hA, hX⟩ := M
  obtain ⟨hl0, hX0⟩ := hXP _ _ _ _ _ _ _ _ _ _ _ _ _ _ hX
  intro H locs ls hl hP hD hS
  have hPc := hP.sub (ws' := nw dA (fun j => ad (out ps j)) w0) ps (fm_of _ _ _ (sel_eq hsel))
  have hDc := hD.sub (ws' := nw dA (fun j => ad (out ps j)) w0) ps hnd (sel_eq hsel)
  have ha9 : a0.map (nv (fun j => ad (out ps j))) = As.map (nv ad) := by
    rw [← ha, List.map_map]
    simp only [Function.comp_def, nv_comp, out_inn, List.map_cons]
    try rfl
  rw [show (As.reverse ++ st).map (nv ad) = (As.map (nv ad)).reverse ++ st.map (nv ad) by simp [List.map_append, List.map_reverse, nv]]
  have hrun := vx_runSW (e := e) (below := below) (meth := meth) (As := As.map (nv ad)) (rest := st.map (nv ad)) (g := F0 m pc ls ((As.map (nv ad)).reverse ++ st.map (nv ad))) (R := rm) (locs := locs) (H := H) (cells := k9) (slots := n9) ⟨hx, hb, hml, hown, hts⟩ (hc.2 l hl0 D dA (fun j => ad (out ps j)) H.size) (vx_cwSW n hts hG rfl hz.1 hz.2 hy hR) ⟨xp_blind, fun U hU hW => ⟨by rw [ha9], by rw [hU], by rw [hU]; exact hPc, ⟨va_K.moved hW.alike hK, hN.warm hW⟩, hDc.weaken (fun _ _ _ _ => trivial), hX0.to hW (fun q h1 h2 => by rw [hU]; exact hS.2.1 q h1 h2) (va_free hD hS hA ps (sel_eq hsel))⟩⟩ rfl (by rw [List.length_map]; exact hn) hl.1 rfl (lv_room (by rw [List.map_map]; simp only [Function.comp_def, nv_cat]; exact hst)) hd hroom
  intro T hT X1
  obtain ⟨v, st₀, t, T', L, h0, X', hL, e1, e2, ⟨⟨hv, hP1, hD1⟩, hFr⟩, st9⟩ := hrun T hT X1
  cases hv
  rw [va_F, h0, ← e1] at hFr
  rw [← e1] at hP1
  obtain ⟨j1, j2, j3⟩ := join_core hP hD hS hA hsel hc.1 hP1 hFr.1 hFr.2 hL
  have hv9 : (ry.map (nv (fun j => ad (out ps j)))).toList ++ st.map (nv ad) = ((ry.map (nv (out ps))).toList ++ st).map (nv ad) := by
    cases ry with
    | none => rfl
    | some v => simp only [Option.map_some, Option.toList_some, List.cons_append, List.nil_append, List.map_cons, nv_comp]
  rw [hv9] at st9
  obtain ⟨t2, a1, b1⟩ := kk _ ⟨p, l, e, s, m, args, below, meth, c, D, dA, ad, A, Q, rfl, hx, hb, hml, hr, hts, hown, hlocks, ⟨hK, hN⟩, hroom, hA, hX⟩ _ _ ls hl j1 j2 j3 T' rfl X'
  exact ⟨t2, st9 t2 a1, b1⟩


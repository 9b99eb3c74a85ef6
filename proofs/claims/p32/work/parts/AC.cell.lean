/-! THE LAW'S SCRIPT: cell -/
def XSc (L : Nat) (xs : Nat → Int32) (X : XT) : Prop := ∀ p l e s m args below meth c D dA ad A Q, X p l e s m args below meth c D dA ad A Q → va_X (ad 1000) L xs s s.heap ∧ ad 1000 < s.heap.size ∧ ¬ A (ad 1000)
theorem s_ld {cc : ByteArray} {nL k9 n9 L : Nat} {ret9 : Option FieldType} {rm : Room} {xs : Nat → Int32} {X : XT} {B : KT} (M : MG RL cc nL ret9 rm k9 n9 X B) (hs : XSc L xs X) {pc : Nat} {lv : List (Nat × Value)} {st : List Value} {w : List va_E} {i : Int32} (hin : vp_in i L) (hd : decode cc pc = .ok (.iaload, 1)) (kk : B (pc + 1) lv (.int (xs i.toNatClampNeg) :: st) w) : B pc lv (.int i :: .ref 1000 :: st) w := by
  obtain ⟨p, l, e, s, m, args, below, meth, c, D, dA, ad, A, Q, rfl, hx, hb, hml, hr, hts, hown, hlocks, ⟨hK, hN⟩, hkn, hA, hX⟩ := M
  obtain ⟨x1, x2, x3⟩ := hs _ _ _ _ _ _ _ _ _ _ _ _ _ _ hX
  intro H locs ls hl hP hD hS
  exact va_sld hx hb x1 x2 x3 hS hin hd (kk H locs ls hl hP hD hS)
theorem s_len {cc : ByteArray} {nL k9 n9 L : Nat} {ret9 : Option FieldType} {rm : Room} {xs : Nat → Int32} {X : XT} {B : KT} (M : MG RL cc nL ret9 rm k9 n9 X B) (hs : XSc L xs X) {pc : Nat} {lv : List (Nat × Value)} {st : List Value} {w : List va_E} (hd : decode cc pc = .ok (.arraylength, 1)) (kk : B (pc + 1) lv (.int (nI L) :: st) w) : B pc lv (.ref 1000 :: st) w := by
  obtain ⟨p, l, e, s, m, args, below, meth, c, D, dA, ad, A, Q, rfl, hx, hb, hml, hr, hts, hown, hlocks, ⟨hK, hN⟩, hkn, hA, hX⟩ := M
  obtain ⟨x1, x2, x3⟩ := hs _ _ _ _ _ _ _ _ _ _ _ _ _ _ hX
  intro H locs ls hl hP hD hS
  exact va_slen hx hb x1 x2 x3 hS hd (kk H locs ls hl hP hD hS)
def ConE (L : Nat) (xs : Nat → Int32) (a r : Int32) : Prop := ∀ (l : Launch) (D : va_G) (dA : Nat → Nat) (b sz : Nat), b < sz → Met l yL_cell (wsy yL_cell cL_cell 2 (some .int)) (rmk 0 0)
    (va_Pc [.ref b, .int a] (fun U => U.heap.size = sz ∧ KK D dA U ∧ va_X b L xs U U.heap)) (QF r (afr sz)) 0 0 (afr sz)
def XE (L : Nat) (xs : Nat → Int32) (r : Int32) : XT := fun _ _ _ s _ args below _ _ _ _ ad A Q => (va_X (ad 1000) L xs s s.heap ∧ ad 1000 < s.heap.size ∧ ¬ A (ad 1000)) ∧ Q = MQ below (QF r A) args s 0 0 A
theorem xe_s {L : Nat} {xs : Nat → Int32} {r : Int32} : XSc L xs (XE L xs r) := fun _ _ _ _ _ _ _ _ _ _ _ _ _ _ h => h.1
set_option maxHeartbeats 4000000 in
theorem ConE.of {L : Nat} {xs : Nat → Int32} {a r : Int32} (h : ∀ B, MG RL cL_cell 2 (some .int) (rmk 0 0) 0 0 (XE L xs r) B → B 0 [(0, .ref 1000), (1, .int a)] [] []) : ConE L xs a r := by
  intro l D dA b sz hbs
  refine Met.ofW (ws' := GW) (cc := cL_cell) (maxL := 2) (ret := some .int) (by decide) rfl ?_
  intro p e s m args below meth c s₁ B hml hv
  obtain ⟨rfl, hsz, hK, hX⟩ := hv
  have hx := B.exec
  have hb := B.bytes
  have hr := B.returns
  have hts := atoms_spec (ws := wsy yL_cell cL_cell 2 (some .int)) B.pre
  have hts : ∀ w ∈ GW, w.before _ s = true := fun w hw => hts w (List.mem_cons_of_mem _ hw)
  have hown' : s.vm.findClass RL = some m.cls := findClass_of_methodNamed B.named
  have hlocks := B.notSynchronized
  subst hsz
  have hl := lv_entry ([Value.ref b, Value.int a]) (n := 2) (Nat.le_of_ble_eq_true rfl)
  rw [lg_entry_eq]
  exact h _ ⟨p, l, e, s, m, _, below, meth, c, D, dA, (fun _ => b), afr s.heap.size, _, rfl, hx, hb, hml, hr, hts, hown', hlocks, hK, ⟨Nat.zero_le _, Nat.zero_le _⟩, (fun q h => h), ⟨hX, hbs, Nat.not_le.mpr hbs⟩, rfl⟩ s.heap [] _ hl p_nil d_nil va_S.rf
theorem e_ret {L : Nat} {xs : Nat → Int32} {r : Int32} {B : KT} (M : MG RL cL_cell 2 (some .int) (rmk 0 0) 0 0 (XE L xs r) B) {pc : Nat} {lv : List (Nat × Value)} {w : List va_E} {x : Int32} (hd : decode cL_cell pc = .ok (.ireturn, 1)) (hx9 : x = r) : B pc lv [.int x] w := by
  subst hx9
  obtain ⟨p, l, e, s, m, args, below, meth, c, D, dA, ad, A, Q, rfl, hx, hb, hml, hr, hts, hown, hlocks, ⟨hK, hN⟩, hkn, hA, hX, rfl⟩ := M
  intro H locs ls hl hP hD hS
  exact W.iret hx hb hr (fun t ht hW => ⟨rfl, hS.F ht⟩) hS.2.2 hd
theorem pcE_blind {b L : Nat} {xs : Nat → Int32} {a : Int32} {sz : Nat} {D : va_G} {dA : Nat → Nat} : FrameBlind (va_Pc [.ref b, .int a] (fun U => U.heap.size = sz ∧ KK D dA U ∧ va_X b L xs U U.heap)) := by
  intro a U g mk q
  obtain ⟨q0, q1, qK, qX⟩ := q
  exact ⟨q0, q1, ⟨va_K.moved (u := U) (U := U.calling g mk a) (Vm.Alike.refl U.vm) qK.1, NK.same (u := U) (U := U.calling g mk a) rfl qK.2⟩, va_X.moved (u := U) (U := U.calling g mk a) (Vm.Alike.refl U.vm) qX⟩
def cellG (L : Nat) (xs : Nat → Int32) (k : Nat) : Int32 := if k < L then xs k else 1812433253 * (nI k + 331)
theorem c_cell {L : Nat} {xs : Nat → Int32} (hL : L ≤ 260) {k : Nat} (hk : k < 1000) : ConE L xs (nI k) (cellG L xs k) := by
  refine ConE.of (fun B M => ?_)
  refine g_iload_n M dL_cell_0 rfl ?_
  refine g_aload_n M dL_cell_1 rfl ?_
  refine s_len M xe_s dL_cell_2 ?_
  rcases Nat.lt_or_ge k L with h | h
  · refine g_icmp_ge M 12 dL_cell_3 (by decide) (fun h9 => absurd h9 (nI_ge h (by omega))) (fun _ => ?_)
    refine g_aload_n M dL_cell_6 rfl ?_
    refine g_iload_n M dL_cell_7 rfl ?_
    refine s_ld M xe_s (vp_in_nI h (by omega)) dL_cell_8 ?_
    rw [nI_clamp (by omega)]
    refine g_goto M 20 dL_cell_9 (by decide) ?_
    exact e_ret M dL_cell_20 (by rw [cellG, if_pos h])
  · refine g_icmp_ge M 12 dL_cell_3 (by decide) (fun _ => ?_) (fun h9 => absurd (nI_le h (by omega)) h9)
    refine g_ldc M kc_L_7 dL_cell_12 ?_
    refine g_iload_n M dL_cell_14 rfl ?_
    refine g_sipush M 331 dL_cell_15 (by decide) ?_
    refine g_iadd M dL_cell_18 ?_
    refine g_imul M dL_cell_19 ?_
    exact e_ret M dL_cell_20 (by rw [cellG, if_neg (by omega)])
set_option maxHeartbeats 4000000 in
theorem n_callE {cc : ByteArray} {nL : Nat} {ret : Option FieldType} {rm : Room} {k9 n9 L : Nat} {xs : Nat → Int32} {X : XT} {B : KT} (M : MG RL cc nL ret rm k9 n9 X B) (hs : XSc L xs X) {pc : Nat} {lv : List (Nat × Value)} {st : List Value} {w : List va_E} {a r : Int32} (hc : ConE L xs a r) (hd : decode cc pc = .ok (.invokestatic 113, 3)) (hR : 1 ≤ rm.frames ∧ 21 ≤ rm.locals) (hst : (st.map (fun v => v.category)).sum ≤ 8) (kk : B (pc + 3) lv (.int r :: st) w) : B pc lv (.int a :: .ref 1000 :: st) w := by
  obtain ⟨p, l, e, s, m, args, below, meth, c, D, dA, ad, A, Q, rfl, hx, hb, hml, hr, hts, hown, hlocks, ⟨hK, hN⟩, hkn, hA, hX⟩ := M
  obtain ⟨x1, x2, x3⟩ := hs _ _ _ _ _ _ _ _ _ _ _ _ _ _ hX
  intro H locs ls hl hP hD hS
  have hAq : ∀ q, afr H.size q → A q := fun q h => hA q (Nat.le_trans hS.1 h)
  have hst1 : 2 * 0 + ((st.map (nv ad)).map (fun v => v.category)).sum ≤ 8 := by
    rw [List.map_map]
    simp only [Function.comp_def, nv_cat]
    omega
  have hr9 := va_runS (p := p) (e := e) (below := below) (meth := meth) (H := H) (locs := locs) (cells := k9) (slots := n9) (As := [.ref (ad 1000), .int a]) (rest := st.map (nv ad)) (g := F0 m pc ls (.int a :: .ref (ad 1000) :: st.map (nv ad))) ⟨hx, hb, hml, hown, hts⟩ (hc l D dA (ad 1000) H.size (Nat.lt_of_lt_of_le x2 hS.1)) (va_cwS 2 hts lk_L_113 rfl rfl rfl ⟨by decide, by decide, by decide +kernel⟩ ⟨hR.1, hR.2⟩) ⟨pcE_blind, fun U hU hW => ⟨rfl, by rw [hU], ⟨va_K.moved hW.alike hK, hN.warm hW⟩, by rw [hU]; exact (x1.kept (hS.2.1 _ x2 x3)).moved hW.alike⟩⟩ rfl rfl hl.1 rfl hst1 hd hkn
  intro T hT X9
  obtain ⟨v, st₀, t, T', L', h0, X', hL, e1, e2, ⟨hv, hz, hk⟩, st9⟩ := hr9 T hT X9
  cases hv
  rw [h0] at hz hk
  rw [← e1] at hz hk
  have hk1 : ∀ q : Nat, q < H.size → T'.heap[q]? = H[q]? := fun q hq => hk q hq (Nat.not_le.mpr hq)
  obtain ⟨t2, a1, b1⟩ := kk T'.heap (locs ++ L') ls hl (hP.kept (fun k q hq => hk1 _ (hP k q hq).lt)) hD ⟨Nat.le_trans hS.1 hz, fun q h1 h2 => by
      rw [hk1 q (Nat.lt_of_lt_of_le h1 hS.1)]; exact hS.2.1 q h1 h2, fun q hq => by
      rcases List.mem_append.mp hq with h | h
      · exact hS.2.2 q h
      · exact hAq _ (hL q h)⟩ T' rfl X'
  exact ⟨t2, st9 t2 a1, b1⟩


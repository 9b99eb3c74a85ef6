/-- a read of a static array of the class -/
theorem n_slda {own : String} {cc : ByteArray} {nL : Nat} {ret : Option FieldType} {rm : Room} {k9 n9 : Nat} {X : XT} {B : KT} (M : MG own cc nL ret rm k9 n9 X B) (hXz : XZ X) {pc idx L : Nat} {n : String} {xs : Nat → Int32} (hsel : ∀ A U H, ZP A U H → ZA n L xs A U H) (hl9 : Cond.fieldLinkNest own idx RX5 n "[I" RX5 ∈ NW) {lv : List (Nat × Value)} {st : List Value} {w : List va_E} {k : Fin 4} {x : Int32} (d0 : decode cc pc = .ok (.getstatic idx, 3)) (d3 : decode cc (pc + 3) = .ok (.iload_n k, 1)) (d4 : decode cc (pc + 4) = .ok (.iaload, 1)) (hv : lgf lv k.val = some (.int x)) (hin : vp_in x L) (kk : B (pc + 5) lv (.int (xs x.toNatClampNeg) :: st) w) : B pc lv st w := by
  obtain ⟨p, l, e, s, m, args, below, meth, c, D, dA, ad, A, Q, rfl, hx, hb, hml, hr, hts, hown, hlocks, ⟨hK, hN⟩, hkn, hA, hX⟩ := M
  obtain ⟨t, h1, h2⟩ := hsel _ _ _ (hXz _ _ _ _ _ _ _ _ _ _ _ _ _ _ hX)
  intro H locs ls hl hP hD hS
  refine va_getsN hx hb h1 hS hown (hN.before hl9) (fun _ h9 => h9) d0 ?_
  refine lv_iload_n hx hb d3 rfl (lv_ld hl hv) ?_
  exact va_ti hx hb h2 hS hin rfl d4 (kk H locs ls hl hP hD hS)
theorem n_slen {own : String} {cc : ByteArray} {nL : Nat} {ret : Option FieldType} {rm : Room} {k9 n9 : Nat} {X : XT} {B : KT} (M : MG own cc nL ret rm k9 n9 X B) (hXz : XZ X) {pc idx L : Nat} {n : String} {xs : Nat → Int32} (hsel : ∀ A U H, ZP A U H → ZA n L xs A U H) (hl9 : Cond.fieldLinkNest own idx RX5 n "[I" RX5 ∈ NW) {lv : List (Nat × Value)} {st : List Value} {w : List va_E} (d0 : decode cc pc = .ok (.getstatic idx, 3)) (d3 : decode cc (pc + 3) = .ok (.arraylength, 1)) (kk : B (pc + 4) lv (.int (Int32.ofNat L) :: st) w) : B pc lv st w := by
  obtain ⟨p, l, e, s, m, args, below, meth, c, D, dA, ad, A, Q, rfl, hx, hb, hml, hr, hts, hown, hlocks, ⟨hK, hN⟩, hkn, hA, hX⟩ := M
  obtain ⟨t, h1, h2⟩ := hsel _ _ _ (hXz _ _ _ _ _ _ _ _ _ _ _ _ _ _ hX)
  intro H locs ls hl hP hD hS
  refine va_getsN hx hb h1 hS hown (hN.before hl9) (fun _ h9 => h9) d0 ?_
  exact va_tlen hx hb h2 hS rfl d3 (kk H locs ls hl hP hD hS)
theorem zs_teeth : ∀ A U H, ZP A U H → ZA "FIRST_TEETH" 5 teeth0 A U H := fun _ _ _ h => h.1
theorem zs_moon : ∀ A U H, ZP A U H → ZA "FIRST_MOON" 12 moon0 A U H := fun _ _ _ h => h.2.1
theorem zl_teeth : Cond.fieldLinkNest RX4 31 RX5 "FIRST_TEETH" "[I" RX5 ∈ NW := nw1 40 (by decide +kernel) (by decide +kernel)
theorem zl_moon : Cond.fieldLinkNest RX4 38 RX5 "FIRST_MOON" "[I" RX5 ∈ NW := nw1 45 (by decide +kernel) (by decide +kernel)
abbrev afr (sz : Nat) : Nat → Prop := fun q => sz ≤ q
def QF (r : Int32) (A : Nat → Prop) : Array Value → State → Outcome → State → Prop := fun _ st oc t => oc = .returned (some (.int r)) ∧ va_F A st t
def ConF (a b r : Int32) : Prop := ∀ (l : Launch) (D : va_G) (dA : Nat → Nat) (sz : Nat), Met l yX4_firstHeight (wsy yX4_firstHeight cX4_firstHeight 2 (some .int)) (rmk 1 20)
    (va_Pc [.int a, .int b] (fun U => U.heap.size = sz ∧ KK D dA U ∧ ZP (afr sz) U U.heap)) (QF r (afr sz)) 0 0 (afr sz)
def XF (r : Int32) : XT := fun _ _ _ s _ args below _ _ _ _ _ A Q => ZP A s s.heap ∧ Q = MQ below (QF r A) args s 0 0 A
theorem xf_z {r : Int32} : XZ (XF r) := fun _ _ _ _ _ _ _ _ _ _ _ _ _ _ h => h.1
theorem p_nil {D : va_G} {H : Heap} : va_P D vwCl [] H := fun k q h => by simp at h
theorem d_nil {A : Nat → Prop} : va_D A [] := ⟨fun i j p q h => by simp at h, fun k q h => by simp at h⟩
set_option maxHeartbeats 4000000 in
theorem ConF.of {a b r : Int32} (h : ∀ B, MG RX4 cX4_firstHeight 2 (some .int) (rmk 1 20) 0 0 (XF r) B → B 0 [(0, .int a), (1, .int b)] [] []) : ConF a b r := by
  intro l D dA sz
  refine Met.ofW (ws' := GW) (cc := cX4_firstHeight) (maxL := 2) (ret := some .int) (by decide) rfl ?_
  intro p e s m args below meth c s₁ B hml hv
  obtain ⟨rfl, hsz, hK, hZ⟩ := hv
  have hx := B.exec
  have hb := B.bytes
  have hr := B.returns
  have hts := atoms_spec (ws := wsy yX4_firstHeight cX4_firstHeight 2 (some .int)) B.pre
  have hts : ∀ w ∈ GW, w.before _ s = true := fun w hw => hts w (List.mem_cons_of_mem _ hw)
  have hown' : s.vm.findClass RX4 = some m.cls := findClass_of_methodNamed B.named
  have hlocks := B.notSynchronized
  subst hsz
  have hl := lv_entry ([Value.int a, Value.int b]) (n := 2) (Nat.le_of_ble_eq_true rfl)
  rw [lg_entry_eq]
  exact h _ ⟨p, l, e, s, m, _, below, meth, c, D, dA, (fun _ => 0), afr s.heap.size, _, rfl, hx, hb, hml, hr, hts, hown', hlocks, hK, ⟨Nat.zero_le _, Nat.zero_le _⟩, (fun q h => h), hZ, rfl⟩ s.heap [] _ hl p_nil d_nil va_S.rf
theorem f_ret {r : Int32} {B : KT} (M : MG RX4 cX4_firstHeight 2 (some .int) (rmk 1 20) 0 0 (XF r) B) {pc : Nat} {lv : List (Nat × Value)} {w : List va_E} {x : Int32} (hd : decode cX4_firstHeight pc = .ok (.ireturn, 1)) (hx9 : x = r) : B pc lv [.int x] w := by
  subst hx9
  obtain ⟨p, l, e, s, m, args, below, meth, c, D, dA, ad, A, Q, rfl, hx, hb, hml, hr, hts, hown, hlocks, ⟨hK, hN⟩, hkn, hA, hX, rfl⟩ := M
  intro H locs ls hl hP hD hS
  exact W.iret hx hb hr (fun t ht hW => ⟨rfl, hS.F ht⟩) hS.2.2 hd
theorem pcF_blind {a b : Int32} {sz : Nat} {D : va_G} {dA : Nat → Nat} : FrameBlind (va_Pc [.int a, .int b] (fun U => U.heap.size = sz ∧ KK D dA U ∧ ZP (afr sz) U U.heap)) := by
  intro a U g mk q
  obtain ⟨q0, q1, qK, qZ⟩ := q
  exact ⟨q0, q1, ⟨va_K.moved (u := U) (U := U.calling g mk a) (Vm.Alike.refl U.vm) qK.1, NK.same (u := U) (U := U.calling g mk a) rfl qK.2⟩, qZ.to (U := U.calling g mk a) (Vm.Alike.refl U.vm) (Nat.le_refl _) (fun _ _ _ => rfl) (fun _ h => h)⟩
set_option maxHeartbeats 4000000 in
theorem n_callF {cc : ByteArray} {nL : Nat} {ret : Option FieldType} {rm : Room} {k9 n9 : Nat} {X : XT} {B : KT} (M : MG RX4 cc nL ret rm k9 n9 X B) (hXz : XZ X) {pc : Nat} {lv : List (Nat × Value)} {st : List Value} {w : List va_E} {a b r : Int32} (hc : ConF a b r) (hd : decode cc pc = .ok (.invokestatic 34, 3)) (hR : 2 ≤ rm.frames ∧ 41 ≤ rm.locals) (hst : (st.map (fun v => v.category)).sum ≤ 8) (kk : B (pc + 3) lv (.int r :: st) w) : B pc lv (.int b :: .int a :: st) w := by
  obtain ⟨p, l, e, s, m, args, below, meth, c, D, dA, ad, A, Q, rfl, hx, hb, hml, hr, hts, hown, hlocks, ⟨hK, hN⟩, hkn, hA, hX⟩ := M
  have hZ := hXz _ _ _ _ _ _ _ _ _ _ _ _ _ _ hX
  intro H locs ls hl hP hD hS
  have hAq : ∀ q, afr H.size q → A q := fun q h => hA q (Nat.le_trans hS.1 h)
  have hst1 : 2 * 0 + ((st.map (nv ad)).map (fun v => v.category)).sum ≤ 8 := by
    rw [List.map_map]
    simp only [Function.comp_def, nv_cat]
    omega
  have hr9 := va_runS (p := p) (e := e) (below := below) (meth := meth) (H := H) (locs := locs) (cells := k9) (slots := n9) (As := [.int a, .int b]) (rest := st.map (nv ad)) (g := F0 m pc ls (.int b :: .int a :: st.map (nv ad))) ⟨hx, hb, hml, hown, hts⟩ (hc l D dA H.size) (va_cwS 2 hts lk_X4_34 rfl rfl rfl ⟨by decide, by decide, by decide +kernel⟩ ⟨hR.1, hR.2⟩) ⟨pcF_blind, fun U hU hW => ⟨rfl, by rw [hU], ⟨va_K.moved hW.alike hK, hN.warm hW⟩, by rw [hU]; exact hZ.to hW.alike hS.1 hS.2.1 hAq⟩⟩ rfl rfl hl.1 rfl hst1 hd hkn
  intro T hT X9
  obtain ⟨v, st₀, t, T', L, h0, X', hL, e1, e2, ⟨hv, hz, hk⟩, st9⟩ := hr9 T hT X9
  cases hv
  rw [h0] at hz hk
  rw [← e1] at hz hk
  have hk1 : ∀ q : Nat, q < H.size → T'.heap[q]? = H[q]? := fun q hq => hk q hq (Nat.not_le.mpr hq)
  obtain ⟨t2, a1, b1⟩ := kk T'.heap (locs ++ L) ls hl (hP.kept (fun k q hq => hk1 _ (hP k q hq).lt)) hD ⟨Nat.le_trans hS.1 hz, fun q h1 h2 => by
      rw [hk1 q (Nat.lt_of_lt_of_le h1 hS.1)]; exact hS.2.1 q h1 h2, fun q hq => by
      rcases List.mem_append.mp hq with h | h
      · exact hS.2.2 q h
      · exact hAq _ (hL q h)⟩ T' rfl X'
  exact ⟨t2, st9 t2 a1, b1⟩
/-- the first heights -/
def fst0 (i j : Nat) : Int32 := if i = 4 then moon0 j else if i < 2 then 9 else 0
theorem c_first {i j : Nat} (hi : i < 5) (hj : j < 12) : ConF (nI i) (nI j) (fst0 i j) := by
  refine ConF.of fun B M => ?_
  refine g_iload_n M dX4_firstHeight_0 rfl ?_
  refine g_iconst M 4 dX4_firstHeight_1 (by decide) ?_
  by_cases h4 : i = 4
  · subst h4
    refine g_icmp_ne M 27 dX4_firstHeight_2 (by decide) (fun h9 => absurd (by decide) h9) (fun _ => ?_)
    refine g_iload_n M dX4_firstHeight_5 rfl ?_
    refine g_if_lt M 25 dX4_firstHeight_6 (by decide) (fun h9 => absurd h9 (by rw [Int32.lt_iff_toInt_lt, nI_toInt (by omega), show (0 : Int32).toInt = 0 from rfl]; omega)) (fun _ => ?_)
    refine g_iload_n M dX4_firstHeight_9 rfl ?_
    refine n_slen M xf_z zs_moon zl_moon dX4_firstHeight_10 dX4_firstHeight_13 ?_
    refine g_icmp_ge M 25 dX4_firstHeight_14 (by decide) (fun h9 => absurd h9 (nI_geF (n := 12) rfl (by omega) (by decide))) (fun _ => ?_)
    refine n_slda M xf_z zs_moon zl_moon dX4_firstHeight_17 dX4_firstHeight_20 dX4_firstHeight_21 rfl (vp_in_nI (by omega) (by omega)) ?_
    refine g_goto M 26 dX4_firstHeight_22 (by decide) ?_
    exact f_ret M dX4_firstHeight_26 (by rw [nI_clamp (by omega)]; rfl)
  · refine g_icmp_ne M 27 dX4_firstHeight_2 (by decide) (fun _ => ?_) (fun h9 => absurd h9 (by intro h; have h8 := congrArg Int32.toInt h; rw [nI_toInt (by omega), show (4 : Int32).toInt = 4 from rfl] at h8; omega))
    refine g_iload_n M dX4_firstHeight_27 rfl ?_
    refine g_iconst M 2 dX4_firstHeight_28 (by decide) ?_
    by_cases h2 : i < 2
    · refine g_icmp_ge M 37 dX4_firstHeight_29 (by decide) (fun h9 => absurd h9 (nI_geF (n := 2) rfl (by omega) (by decide))) (fun _ => ?_)
      refine g_bipush M 9 dX4_firstHeight_32 (by decide) ?_
      refine g_goto M 38 dX4_firstHeight_34 (by decide) ?_
      exact f_ret M dX4_firstHeight_38 (by unfold fst0; rw [if_neg h4, if_pos h2])
    · refine g_icmp_ge M 37 dX4_firstHeight_29 (by decide) (fun _ => ?_) (fun h9 => absurd (nI_geT (n := 2) rfl (by omega) (by omega)) h9)
      refine g_iconst M 0 dX4_firstHeight_37 (by decide) ?_
      exact f_ret M dX4_firstHeight_38 (by unfold fst0; rw [if_neg h4, if_neg h2])


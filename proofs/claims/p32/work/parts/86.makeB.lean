set_option maxHeartbeats 4000000 in
theorem ConN.of {y : MethodName} {own : String} {cc : ByteArray} {nL f cs sl k : Nat} {e0 : va_E} {w1 : List va_E} (hy : plainName y.cls = true) (hown : y.cls = own) (hnm : y.name = "<init>") (hn : 1 ≤ nL) (he : ∀ dA ad, ne dA ad e0 = e0) (hcl : clW w1.length w1 ∧ 1 ≤ w1.length)
    (h : ∀ B, MG own cc nL none (rmn f cs sl k) 0 0 (XN cs sl w1) B → B 0 [(0, .ref 0)] [] [e0]) : ConN y cc nL (rmn f cs sl k) e0 w1 := by
  refine ⟨hcl, fun l D dA b sz => ?_⟩
  refine Met.ofW (ws' := GW) (cc := cc) (maxL := nL) (ret := none) hy rfl ?_
  intro p e s m args below meth c s₁ B hml hv
  obtain ⟨rfl, hsz, hP, hK, hD0, hZ⟩ := hv
  have hx := B.exec
  have hb := B.bytes
  have hr := B.returns
  have hts := atoms_spec (ws := wsy y cc nL none) B.pre
  have hts : ∀ w ∈ GW, w.before _ s = true := fun w hw => hts w (List.mem_cons_of_mem _ hw)
  have hown' : s.vm.findClass own = some m.cls := by rw [← hown]; exact findClass_of_methodNamed B.named
  have hlocks := B.notSynchronized
  have hin : meth.name = "<init>" := by rw [← hnm]; exact (name_of_methodNamed B.named B.method).1
  subst hsz
  have hD := hD0.self (sz := s.heap.size)
  have hA : ∀ q : Nat, s.heap.size ≤ q → va_A [(b, e0)] s.heap.size q := fun q h => Or.inr h
  have hl := lv_entry ([Value.ref b]) (n := nL) hn
  have hw : nw dA (fun _ => b) [e0] = [(b, e0)] := by
    show [(b, ne dA (fun _ => b) e0)] = _
    rw [he]
  rw [lg_entry_eq]
  exact h _ ⟨p, l, e, s, m, _, below, meth, c, D, dA, (fun _ => b), _, _, rfl, hx, hb, hml, hr, hts, hown', hlocks, hK, ⟨Nat.zero_le _, Nat.zero_le _⟩, hA, ⟨hin, hZ⟩, rfl⟩ s.heap [] _ hl (by rw [hw]; exact hP) (by rw [hw]; exact hD) va_S.rf
theorem n_ret {own : String} {cc : ByteArray} {nL f cs sl k k9 n9 : Nat} {ret : Option FieldType} {w1 : List va_E} {B : KT} (M : MG own cc nL ret (rmn f cs sl k) k9 n9 (XN cs sl w1) B) {pc : Nat} {lv : List (Nat × Value)} {w : List va_E} (hd : decode cc pc = .ok (.return_, 1)) (hret : ret = none) (hw9 : w = w1) : B pc lv [] w := by
  subst hw9; subst hret
  obtain ⟨p, l, e, s, m, args, below, meth, c, D, dA, ad, A, Q, rfl, hx, hb, hml, hr, hts, hown, hlocks, ⟨hK, hN⟩, hkn, hA, hX, rfl⟩ := M
  intro H locs ls hl hP hD hS
  exact W.widen hkn.1 hkn.2 (W.vret hx hb hr (fun t ht hW => ⟨⟨rfl, ad, rfl, by rw [ht]; exact hP, hD⟩, hS.F ht⟩) hS.2.2 hd)
theorem n_obj {own : String} {cc : ByteArray} {nL : Nat} {ret : Option FieldType} {rm : Room} {k9 n9 : Nat} {X : XT} {B : KT} (M : MG own cc nL ret rm k9 n9 X B) {pc : Nat} {lv : List (Nat × Value)} {st : List Value} {w : List va_E} {idx q : Nat} (hl1 : Cond.methodLink own idx Lib.objectInit ∈ GW) (hl2 : Cond.instanceMethod Lib.objectInit ∈ GW) (hl3 : Cond.code Lib.objectInit ⟨#[0xb1]⟩ 1 none ∈ GW) (hd : decode cc pc = .ok (.invokespecial idx, 3)) (hR : 1 ≤ rm.frames ∧ (st.map (fun v => v.category)).sum + 12 ≤ rm.locals) (kk : B (pc + 3) lv st w) : B pc lv (.ref q :: st) w := by
  obtain ⟨p, l, e, s, m, args, below, meth, c, D, dA, ad, A, Q, rfl, hx, hb, hml, hr, hts, hown, hlocks, ⟨hK, hN⟩, hkn, hA, hX⟩ := M
  intro H locs ls hl hP hD hS
  have hcat : ((st.map (nv ad)).map (fun v => v.category)).sum = (st.map (fun v => v.category)).sum := by rw [List.map_map]; simp only [Function.comp_def, nv_cat]
  refine W.objInit hx hb hown (hts _ hl1) (hts _ hl2) (hts _ hl3) rfl (by rw [hml]; exact hl.1) rfl hd hR.1 (by
    show 2 * 0 + ((st.map (nv ad)).map (fun v => v.category)).sum + 12 ≤ rm.locals
    rw [hcat]; have := hR.2; omega) ?_
  exact kk H locs ls hl hP hD hS
/-- a final field written by the constructor -/
def FLt (own : String) (ci k : Nat) : Prop := ∀ (C : String) (T : u_T) (N : Nat), vwCl[ci]? = some (C, T, N) → (T k).2.2.2 = true ∧ (T k).1 = own
theorem n_putF {own : String} {cc : ByteArray} {nL : Nat} {ret : Option FieldType} {rm : Room} {k9 n9 : Nat} {X : XT} {B : KT} (M : MG own cc nL ret rm k9 n9 X B) (hXi : XI X) {pc : Nat} {lv : List (Nat × Value)} {st : List Value} {w : List va_E} {idx ci k q : Nat} {ty : FieldType} (hf : FL own idx ci k ty) (hfin : FLt own ci k) (hd : decode cc pc = .ok (.putfield idx, 3)) {fs : List Value} {v : Value} (he : w[q]? = some (.inr (ci, fs))) (hn : ∀ g, narrow ty (nv g v) = nv g v) (hfit : ∀ g, fits ty (nv g v) = true) (hlen : k < fs.length) (kk : B (pc + 3) lv st (w.set q (.inr (ci, fs.set k v)))) : B pc lv (v :: .ref q :: st) w := by
  obtain ⟨C, T, N, ty0, hc, hin, hty, hnm, hk, hlk, hpd⟩ := hf
  obtain ⟨p, l, e, s, m, args, below, meth, c, D, dA, ad, A, Q, rfl, hx, hb, hml, hr, hts, hown, hlocks, ⟨hK, hN⟩, hkn, hA, hX⟩ := M
  intro H locs ls hl hP hD hS
  refine va_putF (v := nv ad v) (fs := fs.map (nv ad)) hx hb hts hin ty0 hty hnm hown hK hP hD hS q (nw_get he) hc k hk (hts _ hlk) (fun _ h9 => h9) (hfin C T N hc).1 (hXi _ _ _ _ _ _ _ _ _ _ _ _ _ _ hX) (hfin C T N hc).2 hpd (hn ad) (hfit ad) (by rw [List.length_map]; exact hlen) hd (fun H1 locs1 hP1 hD1 hS1 => ?_)
  have hw : (nw dA ad w).set q (ad q, .inr (ci, (fs.map (nv ad)).set k (nv ad v))) = nw dA ad (w.set q (.inr (ci, fs.set k v))) := by
    rw [← nw_set]; simp only [ne, List.map_set]
  rw [hw] at hP1 hD1
  exact kk H1 locs1 ls hl hP1 hD1 hS1
/-- what the growing of names needs: closed worlds, closed stacks and locals -/
def Clo (n : Nat) (lv : List (Nat × Value)) (st : List Value) (w : List va_E) : Prop := clW w.length w ∧ st.all (clz w.length) = true ∧ lv.all (fun q => clz w.length q.2) = true ∧ w.length + n ≤ 1000
theorem ra_eq {U : State} {c1 c2 : ClassId} {ty : FieldType} (hty : ty = .int ∨ ty = .boolean ∨ ty = .long) (h1 : va_RA U c1 ty) (h2 : va_RA U c2 ty) : c1 = c2 := by
  rcases hty with rfl | rfl | rfl
  · exact Option.some.inj (Eq.trans (Eq.symm h1) h2)
  · exact Option.some.inj (Eq.trans (Eq.symm h1) h2)
  · exact Option.some.inj (Eq.trans (Eq.symm h1) h2)
theorem ra_eqO {U : State} {c1 c2 : ClassId} {C : String} (h1 : va_RA U c1 (.object C)) (h2 : va_RA U c2 (.object C)) : c1 = c2 := by
  obtain ⟨_, _, -, -, -, a⟩ := h1
  obtain ⟨_, _, -, -, -, b⟩ := h2
  exact Option.some.inj (a.symm.trans b)
theorem adn_one {n : Nat} {ad : Nat → Nat} {q : Nat} : adn n 1 ad (fun _ => q) n = q := by
  have := adn_new (n := n) (c := 1) (ad := ad) (ad2 := fun _ => q) 0 (by omega)
  rwa [Nat.add_zero] at this
theorem n_newa {own : String} {cc : ByteArray} {nL : Nat} {ret : Option FieldType} {rm : Room} {k9 n9 : Nat} {X : XT} {B : KT} (M : MG own cc nL ret rm k9 n9 X B) {pc : Nat} {lv : List (Nat × Value)} {st : List Value} {w : List va_E} {atype : ArrayType} {ty : FieldType} {t0 N' : Nat} {n : Int32} {a0 : vp_A} (hty : newarray.typeOf atype = ty) (hty3 : ty = .int ∨ ty = .boolean ∨ ty = .long) (hW : Cond.arrayClass ty ∈ GW) (ht : ∀ dA, (tysA dA)[t0]? = some (dA t0, ty)) (ha : ∀ cA : ClassId, vp_cell cA a0 = arrV cA N' (fun _ => defaultValue ty)) (hne : ∀ dA ad, ne dA ad (.inl (t0, a0)) = .inl (dA t0, a0)) (hn : ¬ n < 0) (hN' : n.toNatClampNeg = N') (hbytes : N' * componentBytes ty ≤ 536870912) (hR : k9 + 1 ≤ rm.cells ∧ n9 + N' ≤ rm.slots) (hd : decode cc pc = .ok (.newarray atype, 2)) (hc : Clo 1 lv st w) (hXk : XK w.length X) (kk : ∀ B', MG own cc nL ret rm (k9 + 1) (n9 + N') X B' → B' (pc + 2) lv (.ref w.length :: st) (w ++ [.inl (t0, a0)])) : B pc lv (.int n :: st) w := by
  obtain ⟨hc1, hc2, hc3, hc4⟩ := hc
  obtain ⟨p, l, e, s, m, args, below, meth, c, D, dA, ad, A, Q, rfl, hx, hb, hml, hr, hts, hown, hlocks, ⟨hK, hN⟩, hkn, hA, hX⟩ := M
  intro H locs ls hl hP hD hS
  refine va_newa (a0 := a0) hx hb (by rw [hty]; exact hts _ hW) hty hK hP hD hS hA ha hn hN' hbytes hR.1 hR.2 hd (fun q cA H1 hK1 hP1 hD1 hS1 => ?_)
  have hcA : cA = dA t0 := by
    have h1 := (hK1.2 (tysA dA).length (cA, ty) (by simp)).2
    have h2 := (hK.2 t0 _ (ht dA)).2
    exact ra_eq hty3 h1 h2
  subst hcA
  have hag : ∀ k, k < w.length ∨ 1000 ≤ k → adn w.length 1 ad (fun _ => q) k = ad k := adn_old hc4
  have hw : nw dA (adn w.length 1 ad (fun _ => q)) (w ++ [.inl (t0, a0)]) = nw dA ad w ++ [(q, .inl (dA t0, a0))] := by
    rw [nw_push, nw_ag (fun k hk => hag k (Or.inl hk)) hc1, hne, adn_one]
  have hst : (Value.ref w.length :: st).map (nv (adn w.length 1 ad (fun _ => q))) = .ref q :: st.map (nv ad) := by
    rw [List.map_cons, nvs_cl hag hc2]
    show Value.ref _ :: _ = _
    rw [adn_one]
  have h := kk _ ⟨p, l, e, s, m, args, below, meth, c, D, dA, adn w.length 1 ad (fun _ => q), A, Q, rfl, hx, hb, hml, hr, hts, hown, hlocks, ⟨hK, hN⟩, hR, hA, hXk _ _ _ _ _ _ _ _ _ _ _ _ _ _ _ hag hX⟩ H1 locs ls (by rw [nl_cl hag hc3]; exact hl) (by rw [hw]; exact hP1) (by rw [hw]; exact hD1) hS1
  rw [hst] at h
  exact h
theorem n_newq {own : String} {cc : ByteArray} {nL : Nat} {ret : Option FieldType} {rm : Room} {k9 n9 : Nat} {X : XT} {B : KT} (M : MG own cc nL ret rm k9 n9 X B) (hXz : XZ X) {pc : Nat} {lv : List (Nat × Value)} {st : List Value} {w : List va_E} {N' idx : Nat} {n : Int32} (hlk : Cond.classLink own idx SNm ∈ GW) (hn : ¬ n < 0) (hN' : n.toNatClampNeg = N') (hbytes : N' * 4 ≤ 536870912) (hR : k9 + 1 ≤ rm.cells ∧ n9 + N' ≤ rm.slots) (hd : decode cc pc = .ok (.anewarray idx, 3)) (hc : Clo 1 lv st w) (hXk : XK w.length X) (kk : ∀ B', MG own cc nL ret rm (k9 + 1) (n9 + N') X B' → B' (pc + 3) lv (.ref w.length :: st) (w ++ [.inl (3, N', .inr (.inr (.inr (.inr (fun _ => none)))))])) : B pc lv (.int n :: st) w := by
  obtain ⟨hc1, hc2, hc3, hc4⟩ := hc
  obtain ⟨p, l, e, s, m, args, below, meth, c, D, dA, ad, A, Q, rfl, hx, hb, hml, hr, hts, hown, hlocks, ⟨hK, hN⟩, hkn, hA, hX⟩ := M
  intro H locs ls hl hP hD hS
  refine va_newq (C := SNm) hx hb hown (hts _ hlk) (hXz _ _ _ _ _ _ _ _ _ _ _ _ _ _ hX).2.2 hK hP hD hS hA hn hN' hbytes hR.1 hR.2 hd (fun q cA H1 hK1 hP1 hD1 hS1 => ?_)
  have hcA : cA = dA 3 := by
    have h1 := (hK1.2 (tysA dA).length (cA, .object SNm) (by simp)).2
    have h2 := (hK.2 3 _ rfl).2
    exact ra_eqO h1 h2
  subst hcA
  have hag : ∀ k, k < w.length ∨ 1000 ≤ k → adn w.length 1 ad (fun _ => q) k = ad k := adn_old hc4
  have hw : nw dA (adn w.length 1 ad (fun _ => q)) (w ++ [.inl (3, N', .inr (.inr (.inr (.inr (fun _ => none)))))]) = nw dA ad w ++ [(q, .inl (dA 3, N', .inr (.inr (.inr (.inr (fun _ => none))))))] := by
    rw [nw_push, nw_ag (fun k hk => hag k (Or.inl hk)) hc1, adn_one]
    rfl
  have hst : (Value.ref w.length :: st).map (nv (adn w.length 1 ad (fun _ => q))) = .ref q :: st.map (nv ad) := by
    rw [List.map_cons, nvs_cl hag hc2]
    show Value.ref _ :: _ = _
    rw [adn_one]
  have h := kk _ ⟨p, l, e, s, m, args, below, meth, c, D, dA, adn w.length 1 ad (fun _ => q), A, Q, rfl, hx, hb, hml, hr, hts, hown, hlocks, ⟨hK, hN⟩, hR, hA, hXk _ _ _ _ _ _ _ _ _ _ _ _ _ _ _ hag hX⟩ H1 locs ls (by rw [nl_cl hag hc3]; exact hl) (by rw [hw]; exact hP1) (by rw [hw]; exact hD1) hS1
  rw [hst] at h
  exact h
/-- the words of a place that makes an object -/
def NWd (own : String) (idx ci : Nat) (fs : List Value) : Prop := ∃ (C : String) (T : u_T) (N : Nat) (ty0 : Nat → FieldType), vwCl[ci]? = some (C, T, N) ∧ (∀ w ∈ u_ws C T N, w ∈ GW) ∧ (∀ k, k < N → parseFieldDescriptor (T k).2.2.1 = some (ty0 k)) ∧ (∀ j, j < N → defaultValue (ty0 j) = vp_V fs j) ∧ Cond.classLink own idx C ∈ GW ∧ Cond.instantiable C N ∈ GW ∧ Cond.initialized C ∈ GW ∧ fs.length = N
theorem pcN_blind {b sz : Nat} {D : va_G} {dA : Nat → Nat} {e0 : va_E} : FrameBlind (va_Pc [.ref b] (fun U => U.heap.size = sz ∧ va_P D vwCl [(b, e0)] U.heap ∧ KK D dA U ∧ va_D (fun _ => True) [(b, e0)] ∧ ZP (va_A [(b, e0)] sz) U U.heap)) := by
  intro a U g mk q
  obtain ⟨q0, q1, qP, qK, qD, qZ⟩ := q
  exact ⟨q0, q1, qP, ⟨va_K.moved (u := U) (U := U.calling g mk a) (Vm.Alike.refl U.vm) qK.1, NK.same (u := U) (U := U.calling g mk a) rfl qK.2⟩, qD, qZ.to (U := U.calling g mk a) (Vm.Alike.refl U.vm) (Nat.le_refl _) (fun _ _ _ => rfl) (fun _ h => h)⟩
set_option maxHeartbeats 4000000 in
theorem n_mkI {own : String} {cc : ByteArray} {nL : Nat} {ret : Option FieldType} {rm : Room} {k9 n9 : Nat} {X : XT} {B : KT} (M : MG own cc nL ret rm k9 n9 X B) (hXz : XZ X) {pc : Nat} {lv : List (Nat × Value)} {st : List Value} {w : List va_E} {idx ix ci : Nat} {fs : List Value} {y : MethodName} {cy : ByteArray} {ny : Nat} {rmy : Room} {w1 : List va_E} (hw9 : NWd own idx ci fs) (hcN : ConN y cy ny rmy (.inr (ci, fs)) w1) (hG : GoodIn GW (wsy y cy ny none) ∧ (Cond.methodLink own ix y ∈ GW ∧ Cond.initialized y.cls ∈ GW ∧ Cond.instanceMethod y ∈ GW)) (d0 : decode cc pc = .ok (.new idx, 3)) (d3 : decode cc (pc + 3) = .ok (.dup, 1)) (d4 : decode cc (pc + 4) = .ok (.invokespecial ix, 3)) (hnm : y.name = "<init>") (hy : y.cls ≠ "java/lang/invoke/MethodHandle" ∧ y.cls ≠ "java/lang/invoke/VarHandle" ∧ (parseMethodDescriptor y.desc).map (fun d => d.parameters.length) = some 0) (hR : rmy.frames + 1 ≤ rm.frames ∧ 8 + (ny + 11) + rmy.locals ≤ rm.locals) (hz : k9 + 1 + rmy.cells ≤ rm.cells ∧ n9 + fs.length + rmy.slots ≤ rm.slots) (hc : Clo w1.length lv st w) (hst8 : (st.map (fun v => v.category)).sum + 1 ≤ 8) (hXk : XK w.length X) (kk : ∀ B', MG own cc nL ret rm (k9 + 1 + rmy.cells) (n9 + fs.length + rmy.slots) X B' → B' (pc + 7) lv (.ref w.length :: st) (w ++ shn w.length w1)) : B pc lv st w := by
  obtain ⟨hc1, hc2, hc3, hc4⟩ := hc
  obtain ⟨C, T, N, ty0, hci, hin, hty, hdf, hl1, hl2, hl3, rfl⟩ := hw9
  obtain ⟨p, l, e, s, m, args, below, meth, c, D, dA, ad, A, Q, rfl, hx, hb, hml, hr, hts, hown, hlocks, ⟨hK, hN⟩, hkn, hA, hX⟩ := M
  have hZ := hXz _ _ _ _ _ _ _ _ _ _ _ _ _ _ hX
  intro H locs ls hl hP hD hS
  refine va_new hx hb hts hin ty0 hty hown (hts _ hl1) (hts _ hl2) (hts _ hl3) hK hP hD hS hA hci hdf (by have := hz.1; omega) (by have := hz.2; omega) d0 (fun q H1 hP1 hD1 hS1 => ?_)
  refine lv_dup hx hb d3 rfl ?_
  have hwl : (nw dA ad w).length = w.length := by rw [nw, List.length_mapIdx]
  have hb9 : (nw dA ad w ++ [(q, (.inr (ci, fs) : va_E))])[w.length]? = some (q, .inr (ci, fs)) := by rw [← hwl]; simp
  have hPq : va_P D vwCl [(q, .inr (ci, fs))] H1 := hP1.sub [w.length] (by rw [List.filterMap_cons, hb9]; rfl)
  have hDq : va_D A [(q, .inr (ci, fs))] := hD1.sub [w.length] rfl (by rw [List.map_cons, hb9]; rfl)
  have hAq : ∀ x, va_A [(q, (.inr (ci, fs) : va_E))] H1.size x → A x := fun x hx9 => va_free hD1 hS1 hA [w.length] (by rw [List.map_cons, hb9]; rfl) x hx9
  have hZ1 : ∀ U : State, s.vm.Alike U.vm → ZP (va_A [(q, (.inr (ci, fs) : va_E))] H1.size) U H1 := fun U hU => hZ.to hU hS1.1 hS1.2.1 hAq
  have hst1 : 2 * 0 + ((Value.ref q :: st.map (nv ad)).map (fun v => v.category)).sum ≤ 8 := by
    rw [List.map_cons, List.sum_cons, List.map_map]
    simp only [Function.comp_def, nv_cat]
    show 2 * 0 + (1 + _) ≤ 8
    omega
  refine mk_core (e0 := .inr (ci, fs)) (va_runI (n := 0) (As := []) (rest := .ref q :: st.map (nv ad)) ⟨hx, hb, hml, hown, hts⟩ (hcN.2 l D dA q H1.size) (cwI 0 hts hG.1 rfl rfl rfl (hts _ hG.2.2.1) (hts _ hG.2.1) (hts _ hG.2.2.2) hnm hy hR) ⟨pcN_blind, fun U hU hW => ⟨rfl, by rw [hU], by rw [hU]; exact hPq, ⟨va_K.moved hW.alike hK, hN.warm hW⟩, hDq.weaken (fun _ _ _ _ => trivial), by rw [hU]; exact hZ1 U hW.alike⟩⟩ rfl rfl hl.1 rfl hst1 d4 ⟨by have := hz.1; omega, by have := hz.2; omega⟩) hP1 hD1 hS1 hA hc1 hcN.1.1 (fun ad2 H2 locs2 hq2 hP2 hD2 hS2 => ?_)
  have hq2 := hq2 hcN.1.2
  have hag : ∀ k, k < w.length ∨ 1000 ≤ k → adn w.length w1.length ad ad2 k = ad k := adn_old hc4
  have hst : (Value.ref w.length :: st).map (nv (adn w.length w1.length ad ad2)) = .ref q :: st.map (nv ad) := by
    rw [List.map_cons, nvs_cl hag hc2]
    show Value.ref _ :: _ = _
    rw [hq2]
  have h := kk _ ⟨p, l, e, s, m, args, below, meth, c, D, dA, adn w.length w1.length ad ad2, A, Q, rfl, hx, hb, hml, hr, hts, hown, hlocks, ⟨hK, hN⟩, hz, hA, hXk _ _ _ _ _ _ _ _ _ _ _ _ _ _ _ hag hX⟩ H2 locs2 ls (by rw [nl_cl hag hc3]; exact hl) hP2 hD2 hS2
  rw [hst] at h
  exact h
set_option maxHeartbeats 4000000 in
theorem n_mkIN {own : String} {cc : ByteArray} {nL : Nat} {ret : Option FieldType} {rm : Room} {k9 n9 : Nat} {X : XT} {B : KT} (M : MG own cc nL ret rm k9 n9 X B) (hXz : XZ X) {pc : Nat} {lv : List (Nat × Value)} {st : List Value} {w : List va_E} {idx ix ci : Nat} {fs : List Value} {y : MethodName} {cy : ByteArray} {ny : Nat} {rmy : Room} {w1 : List va_E} (hw9 : NWd own idx ci fs) (hcN : ConN y cy ny rmy (.inr (ci, fs)) w1) {host : String} (hG1 : GoodIn GW (wsy y cy ny none)) (hG2 : Cond.methodLinkNest own ix y host ∈ NW ∧ Cond.initialized y.cls ∈ GW ∧ Cond.instanceMethod y ∈ GW) (d0 : decode cc pc = .ok (.new idx, 3)) (d3 : decode cc (pc + 3) = .ok (.dup, 1)) (d4 : decode cc (pc + 4) = .ok (.invokespecial ix, 3)) (hnm : y.name = "<init>") (hy : y.cls ≠ "java/lang/invoke/MethodHandle" ∧ y.cls ≠ "java/lang/invoke/VarHandle" ∧ (parseMethodDescriptor y.desc).map (fun d => d.parameters.length) = some 0) (hR : rmy.frames + 1 ≤ rm.frames ∧ 8 + (ny + 11) + rmy.locals ≤ rm.locals) (hz : k9 + 1 + rmy.cells ≤ rm.cells ∧ n9 + fs.length + rmy.slots ≤ rm.slots) (hc : Clo w1.length lv st w) (hst8 : (st.map (fun v => v.category)).sum + 1 ≤ 8) (hXk : XK w.length X) (kk : ∀ B', MG own cc nL ret rm (k9 + 1 + rmy.cells) (n9 + fs.length + rmy.slots) X B' → B' (pc + 7) lv (.ref w.length :: st) (w ++ shn w.length w1)) : B pc lv st w := by
  obtain ⟨hc1, hc2, hc3, hc4⟩ := hc
  obtain ⟨C, T, N, ty0, hci, hin, hty, hdf, hl1, hl2, hl3, rfl⟩ := hw9
  obtain ⟨p, l, e, s, m, args, below, meth, c, D, dA, ad, A, Q, rfl, hx, hb, hml, hr, hts, hown, hlocks, ⟨hK, hN⟩, hkn, hA, hX⟩ := M
  have hZ := hXz _ _ _ _ _ _ _ _ _ _ _ _ _ _ hX
  intro H locs ls hl hP hD hS
  refine va_new hx hb hts hin ty0 hty hown (hts _ hl1) (hts _ hl2) (hts _ hl3) hK hP hD hS hA hci hdf (by have := hz.1; omega) (by have := hz.2; omega) d0 (fun q H1 hP1 hD1 hS1 => ?_)
  refine lv_dup hx hb d3 rfl ?_
  have hwl : (nw dA ad w).length = w.length := by rw [nw, List.length_mapIdx]
  have hb9 : (nw dA ad w ++ [(q, (.inr (ci, fs) : va_E))])[w.length]? = some (q, .inr (ci, fs)) := by rw [← hwl]; simp
  have hPq : va_P D vwCl [(q, .inr (ci, fs))] H1 := hP1.sub [w.length] (by rw [List.filterMap_cons, hb9]; rfl)
  have hDq : va_D A [(q, .inr (ci, fs))] := hD1.sub [w.length] rfl (by rw [List.map_cons, hb9]; rfl)
  have hAq : ∀ x, va_A [(q, (.inr (ci, fs) : va_E))] H1.size x → A x := fun x hx9 => va_free hD1 hS1 hA [w.length] (by rw [List.map_cons, hb9]; rfl) x hx9
  have hZ1 : ∀ U : State, s.vm.Alike U.vm → ZP (va_A [(q, (.inr (ci, fs) : va_E))] H1.size) U H1 := fun U hU => hZ.to hU hS1.1 hS1.2.1 hAq
  have hst1 : 2 * 0 + ((Value.ref q :: st.map (nv ad)).map (fun v => v.category)).sum ≤ 8 := by
    rw [List.map_cons, List.sum_cons, List.map_map]
    simp only [Function.comp_def, nv_cat]
    show 2 * 0 + (1 + _) ≤ 8
    omega
  refine mk_core (e0 := .inr (ci, fs)) (va_runIN (n := 0) (As := []) (rest := .ref q :: st.map (nv ad)) ⟨hx, hb, hml, hown, hts⟩ (hcN.2 l D dA q H1.size) ⟨va_cnB 0 hts hG1 rfl rfl rfl (hN _ hG2.1) (hts _ hG2.2.1) hy hR, hnm, hts _ hG2.2.2⟩ ⟨pcN_blind, fun U hU hW => ⟨rfl, by rw [hU], by rw [hU]; exact hPq, ⟨va_K.moved hW.alike hK, hN.warm hW⟩, hDq.weaken (fun _ _ _ _ => trivial), by rw [hU]; exact hZ1 U hW.alike⟩⟩ rfl rfl hl.1 rfl hst1 d4 ⟨by have := hz.1; omega, by have := hz.2; omega⟩) hP1 hD1 hS1 hA hc1 hcN.1.1 (fun ad2 H2 locs2 hq2 hP2 hD2 hS2 => ?_)
  have hq2 := hq2 hcN.1.2
  have hag : ∀ k, k < w.length ∨ 1000 ≤ k → adn w.length w1.length ad ad2 k = ad k := adn_old hc4
  have hst : (Value.ref w.length :: st).map (nv (adn w.length w1.length ad ad2)) = .ref q :: st.map (nv ad) := by
    rw [List.map_cons, nvs_cl hag hc2]
    show Value.ref _ :: _ = _
    rw [hq2]
  have h := kk _ ⟨p, l, e, s, m, args, below, meth, c, D, dA, adn w.length w1.length ad ad2, A, Q, rfl, hx, hb, hml, hr, hts, hown, hlocks, ⟨hK, hN⟩, hz, hA, hXk _ _ _ _ _ _ _ _ _ _ _ _ _ _ _ hag hX⟩ H2 locs2 ls (by rw [nl_cl hag hc3]; exact hl) hP2 hD2 hS2
  rw [hst] at h
  exact h
/-- other names -/
theorem n_ren {own : String} {cc : ByteArray} {nL : Nat} {ret : Option FieldType} {rm : Room} {k9 n9 : Nat} {X : XT} {B : KT} (M : MG own cc nL ret rm k9 n9 X B) (σ : Nat → Nat) {pc : Nat} {lv lv' : List (Nat × Value)} {st st' : List Value} {w w' : List va_E} (hw : (List.range w'.length).map (fun k => w[σ k]?) = w'.map (fun e => some (ne (fun t => t) σ e))) (hinj : ∀ i j, i < w'.length → j < w'.length → σ i = σ j → i = j) (hlv : lv = lv'.map (fun q => (q.1, nv σ q.2))) (hst : st = st'.map (nv σ)) (hX9 : ∀ p l e s m args below meth c D dA ad A Q, X p l e s m args below meth c D dA ad A Q → X p l e s m args below meth c D dA (fun k => ad (σ k)) A Q) (kk : ∀ B', MG own cc nL ret rm k9 n9 X B' → B' pc lv' st' w') : B pc lv st w := by
  obtain ⟨p, l, e, s, m, args, below, meth, c, D, dA, ad, A, Q, rfl, hx, hb, hml, hr, hts, hown, hlocks, ⟨hK, hN⟩, hkn, hA, hX⟩ := M
  intro H locs ls hl hP hD hS
  have key : ∀ (k : Nat) (q : Nat × va_E), (nw dA (fun k => ad (σ k)) w')[k]? = some q → k < w'.length ∧ (nw dA ad w)[σ k]? = some q := by
    intro k q hq
    obtain ⟨e', he', rfl⟩ := nw_inv hq
    have hk := (List.getElem?_eq_some_iff.mp he').1
    have h1 := congrArg (fun l => l[k]?) hw
    simp only [List.getElem?_map, he', List.getElem?_range hk, Option.map_some] at h1
    have h1 := Option.some.inj h1
    refine ⟨hk, ?_⟩
    rw [nw_get h1, ne_comp]
  have h := kk _ ⟨p, l, e, s, m, args, below, meth, c, D, dA, (fun k => ad (σ k)), A, Q, rfl, hx, hb, hml, hr, hts, hown, hlocks, ⟨hK, hN⟩, hkn, hA, hX9 _ _ _ _ _ _ _ _ _ _ _ _ _ _ hX⟩ H locs ls (by
      rw [hlv, List.map_map] at hl
      simpa only [Function.comp_def, nv_comp] using hl) (fun k q hq => hP _ q (key k q hq).2) ⟨fun i j x y hx hy hxy => hinj i j (key i x hx).1 (key j y hy).1 (hD.1 _ _ x y (key i x hx).2 (key j y hy).2 hxy), fun k q hq => hD.2 _ q (key k q hq).2⟩ hS
  rw [hst, List.map_map]
  simpa only [Function.comp_def, nv_comp] using h


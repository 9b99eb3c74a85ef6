/-! BODIES IN GENERAL (any end, cells that are made), throwing and catching -/
abbrev XT : Type := Program → Launch → Env → State → MethodId → Array Value → List Frame → Method → Code → va_G → (Nat → Nat) → (Nat → Nat) → (Nat → Prop) → (State → Prop) → Prop
def MG (own : String) (cc : ByteArray) (nL : Nat) (ret : Option FieldType) (rm : Room) (k9 n9 : Nat) (X : XT) (B : KT) : Prop :=
  ∃ (p : Program) (l : Launch) (e : Env) (s : State) (m : MethodId) (args : Array Value) (below : List Frame) (meth : Method) (c : Code) (D : va_G) (dA : Nat → Nat) (ad : Nat → Nat) (A : Nat → Prop) (Q : State → Prop),
    B = BB p l e rm s m args below meth c Q nL D dA A k9 n9 ad ∧ p.tables.exec = Jvm.exec ∧ c.code = cc ∧ c.maxLocals = nL ∧ meth.sig.returnType = ret ∧ (∀ w ∈ GW, w.before args s = true) ∧ s.vm.findClass own = some m.cls ∧ meth.locks = false ∧ KK D dA s ∧ (k9 ≤ rm.cells ∧ n9 ≤ rm.slots) ∧ (∀ q, s.heap.size ≤ q → A q) ∧ X p l e s m args below meth c D dA ad A Q
abbrev xIA : String := "java/lang/IllegalArgumentException"
abbrev xIB : String := "java/lang/IndexOutOfBoundsException"
abbrev xIS : String := "java/lang/IllegalStateException"
abbrev xD1 : Cond := .declares (Bundle.initS "java/lang/RuntimeException")
abbrev xD2 : Cond := .declares (Bundle.initS "java/lang/Exception")
abbrev xD3 : Cond := .declares (Bundle.initS Bundle.tN)
abbrev xNs : List String := ["java/lang/RuntimeException", "java/lang/Exception"]
/-- the texts of the class's exceptions -/
def xTexts : List (Nat × String) := [(53, "steps are 1 to 60 or -60 to -1"), (86, "places are 0 to 59"), (101, "wheels are 0 to 4"), (109, "teeth are 1 to 11"), (113, "the wheel is locked"), (132, "the picture would not be allowed"), (142, "there is no such wheel or tooth"), (147, "heights are 0 to 9"), (156, "a wheel has 2 to 12 teeth"), (167, "6 scenes are remembered"), (175, "there is no such scene"), (180, "character codes are 33 to 126"), (185, "the buffer has 60 characters"), (196, "the buffer is not complete work as a text"), (204, "there is no snapshot"), (209, "there is no saved state"), (214, "what is 0 to 6"), (226, "what is 0 to 7"), (240, "what is 0 to 12"), (266, "back is 0 or 1"), (271, "way is 0 or 1"), (279, "steps are -9999 to 9999")]
/-- what a throw needs of the machine, beside the tables' words -/
def XP (A : Nat → Prop) (U : State) (H : Heap) : Prop :=
  vx_Zq Bundle.tN "UNASSIGNED_STACK" Bundle.steD A U H ∧ vx_Zq Bundle.tN "SUPPRESSED_SENTINEL" Bundle.listD A U H ∧
  (va_Nw (.castable xIA xIA) U ∧ va_Nw (.castable xIB xIB) U ∧ va_Nw (.castable xIS xIS) U) ∧ (va_Nc xIA xIB U ∧ va_Nc xIS xIB U ∧ va_Nc xIS xIA U) ∧ (va_Nw xD1 U ∧ va_Nw xD2 U ∧ va_Nw xD3 U) ∧ ∀ q ∈ xTexts, ∃ sa, vk_R RX5 q.1 q.2 sa U
theorem XP.to {A B : Nat → Prop} {s U : State} {H0 H : Heap} (h : XP A s H0) (hW : s.WarmedH U.vm) (hH : ∀ q : Nat, q < H0.size → ¬ A q → H[q]? = H0[q]?) (hB : ∀ q, B q → A q) : XP B U H := by
  obtain ⟨h1, h2, ⟨c1, c2, c3⟩, ⟨h4, h5, h6⟩, ⟨e1, e2, e3⟩, h7⟩ := h
  exact ⟨((h1.kept hH).narrow hB).moved hW.alike, ((h2.kept hH).narrow hB).moved hW.alike, ⟨va_Nw.warmC hW c1, va_Nw.warmC hW c2, va_Nw.warmC hW c3⟩, ⟨h4.moved hW.alike, h5.moved hW.alike, h6.moved hW.alike⟩, ⟨va_Nw.warmD hW e1, va_Nw.warmD hW e2, va_Nw.warmD hW e3⟩, fun q hq => by
    obtain ⟨sa, h9⟩ := h7 q hq
    exact ⟨sa, vk_R.warm hW h9⟩⟩
/-- the same at a state with the same tables and heap -/
theorem XP.same {A : Nat → Prop} {s U : State} {H : Heap} (h : XP A s H) (hv : s.vm = U.vm) : XP A U H := by
  refine h.to (by rw [← hv]; exact State.WarmedH.refl s) (fun _ _ _ => rfl) (fun _ h => h)
/-- the end of a body that throws E, its world w1 -/
def XCd (D : va_G) (dA ad : Nat → Nat) (w1 : List va_E) (E : String) (A : Nat → Prop) : String → State → State → Prop := fun E' st t => E' = E ∧ va_P D vwCl (nw dA ad w1) t.heap ∧ va_F A st t
def rmt (f k : Nat) : Room := { frames := f, cells := 1, slots := 6, locals := k }
/-- a contract: the method throws E, the world is w1 -/
def ConT (y : MethodName) (cc : ByteArray) (nL : Nat) (ret : Option FieldType) (rm : Room) (a0 : List Value) (w0 : List va_E) (E : String) (w1 : List va_E) : Prop :=
  w1.length = w0.length ∧ ∀ (l : Launch), l.stackTraces = false → ∀ (D : va_G) (dA : Nat → Nat) (ad : Nat → Nat) (sz : Nat), vx_Met l y (wsy y cc nL ret) rm
    (va_Pc (a0.map (nv ad)) (fun U => U.heap.size = sz ∧ va_P D vwCl (nw dA ad w0) U.heap ∧ KK D dA U ∧ va_D (fun _ => True) (nw dA ad w0) ∧ XP (va_A (nw dA ad w0) sz) U U.heap))
    (fun _ _ _ _ => False) (XCd D dA ad w1 E (va_A (nw dA ad w0) sz)) 1 6 (va_A (nw dA ad w0) sz)
def XTh (E : String) (w1 : List va_E) : XT := fun _ l _ s _ args below _ c D dA ad A Q => l.stackTraces = false ∧ (∀ x ∈ c.exceptionTable.toList, False) ∧ Q = vx_MQ below (fun _ _ _ _ => False) (XCd D dA ad w1 E A) args s 1 6 A ∧ XP A s s.heap
theorem args_map (ad : Nat → Nat) : ∀ (i : Nat) (vs : List Value), lv_args i (vs.map (nv ad)) = (lv_args i vs).map (fun q => (q.1, nv ad q.2))
  | _, [] => rfl
  | i, v :: t => by simp only [List.map_cons, lv_args, nv_cat, args_map ad _ t]
set_option maxHeartbeats 4000000 in
theorem ConT.of {y : MethodName} {cc : ByteArray} {nL f k : Nat} {ret : Option FieldType} {a0 : List Value} {w0 : List va_E} {E : String} {w1 : List va_E} (hy : plainName y.cls = true) (hown : y.cls = RX5) (hn : (lg_sl a0).length ≤ nL) (hlen : w1.length = w0.length)
    (h : ∀ B, MG RX5 cc nL ret (rmt f k) 0 0 (XTh E w1) B → B 0 (lv_args 0 a0) [] w0) : ConT y cc nL ret (rmt f k) a0 w0 E w1 := by
  refine ⟨hlen, fun l hl0 D dA ad sz => ?_⟩
  refine vx_ofW (ws' := GW) (cc := cc) (maxL := nL) (ret := ret) hy rfl ?_
  intro p e s m args below meth c s₁ B hml htab hv
  obtain ⟨rfl, hsz, hP, hK, hD0, hX⟩ := hv
  have hx := B.exec
  have hb := B.bytes
  have hr := B.returns
  have hts := atoms_spec (ws := wsy y cc nL ret) B.pre
  have hts : ∀ w ∈ GW, w.before _ s = true := fun w hw => hts w (List.mem_cons_of_mem _ hw)
  have hown' : s.vm.findClass RX5 = some m.cls := by rw [← hown]; exact findClass_of_methodNamed B.named
  have hlocks := B.notSynchronized
  subst hsz
  have hD := hD0.self (sz := s.heap.size)
  have hA : ∀ q : Nat, s.heap.size ≤ q → va_A (nw dA ad w0) s.heap.size q := fun q h => Or.inr h
  have hl := lv_entry (a0.map (nv ad)) (n := nL) (by rw [sl_len]; exact hn)
  rw [args_map] at hl
  rw [lg_entry_eq]
  exact h _ ⟨p, l, e, s, m, _, below, meth, c, D, dA, ad, _, _, rfl, hx, hb, hml, hr, hts, hown', hlocks, hK, ⟨Nat.zero_le _, Nat.zero_le _⟩, hA, hl0, htab, rfl, hX⟩ s.heap [] _ hl hP hD va_S.rf
/-- the places where the class throws: its words -/
def TSite (E : String) (ik ic : Nat) : Prop := Bundle.fit E = true ∧ (Cond.classLink RX5 ik E ∈ GW ∧ Cond.initialized E ∈ GW) ∧ (∀ w ∈ vx_atS RX5 ic E xNs, w ∈ GW ∨ w = .castable E E ∨ w = xD1 ∨ w = xD2 ∨ w = xD3) ∧ (∀ w ∈ Cond.classLink RX5 ik E :: Cond.initialized E :: vx_atS RX5 ic E xNs, vx_ot w = true) ∧ (∀ U : State, ∀ A H, XP A U H → va_Nw (.castable E E) U)
theorem tsite_at {E : String} {ic : Nat} (h : (vx_atS RX5 ic E xNs).all (fun w => (goodWord w && decide (w ∈ lw_tbl)) || decide (w = .castable E E) || decide (w = xD1) || decide (w = xD2) || decide (w = xD3)) = true) : ∀ w ∈ vx_atS RX5 ic E xNs, w ∈ GW ∨ w = .castable E E ∨ w = xD1 ∨ w = xD2 ∨ w = xD3 := by
  intro w hw
  have h1 := List.all_eq_true.mp h w hw
  simp only [Bool.or_eq_true, Bool.and_eq_true, decide_eq_true_eq] at h1
  rcases h1 with (((h1 | h1) | h1) | h1) | h1
  · exact Or.inl (gw_mem h1.2 h1.1)
  · exact Or.inr (Or.inl h1)
  · exact Or.inr (Or.inr (Or.inl h1))
  · exact Or.inr (Or.inr (Or.inr (Or.inl h1)))
  · exact Or.inr (Or.inr (Or.inr (Or.inr h1)))
theorem tsite_ot {E : String} {ik ic : Nat} (h : (Cond.classLink RX5 ik E :: Cond.initialized E :: vx_atS RX5 ic E xNs).all vx_ot = true) : ∀ w ∈ Cond.classLink RX5 ik E :: Cond.initialized E :: vx_atS RX5 ic E xNs, vx_ot w = true := List.all_eq_true.mp h
theorem memGW {w : Cond} (h : (goodWord w && decide (w ∈ lw_tbl)) = true) : w ∈ GW := by
  simp only [Bool.and_eq_true, decide_eq_true_eq] at h
  exact gw_mem h.2 h.1
set_option maxRecDepth 100000 in
theorem tsIA : TSite xIA 51 55 := ⟨by decide +kernel, ⟨memGW (by decide +kernel), memGW (by decide +kernel)⟩, tsite_at (by decide +kernel), tsite_ot (by decide +kernel), fun _ _ _ h => h.2.2.1.1⟩
set_option maxRecDepth 100000 in
theorem tsIB : TSite xIB 84 88 := ⟨by decide +kernel, ⟨memGW (by decide +kernel), memGW (by decide +kernel)⟩, tsite_at (by decide +kernel), tsite_ot (by decide +kernel), fun _ _ _ h => h.2.2.1.2.1⟩
set_option maxRecDepth 100000 in
theorem tsIS : TSite xIS 111 115 := ⟨by decide +kernel, ⟨memGW (by decide +kernel), memGW (by decide +kernel)⟩, tsite_at (by decide +kernel), tsite_ot (by decide +kernel), fun _ _ _ h => h.2.2.1.2.2⟩
set_option maxHeartbeats 4000000 in
theorem g_throw {cc : ByteArray} {nL : Nat} {ret : Option FieldType} {rm : Room} {E : String} {w1 : List va_E} {B : KT} (M : MG RX5 cc nL ret rm 0 0 (XTh E w1) B) {pc : Nat} {lv : List (Nat × Value)} {st : List Value} {w : List va_E} {ik ic is : Nat} {tx : String} (hs : TSite E ik ic) (ht : (is, tx) ∈ xTexts) (hw : w = w1)
    (d0 : decode cc pc = .ok (.new ik, 3)) (d3 : decode cc (pc + 3) = .ok (.dup, 1)) (d4 : decode cc (pc + 4) = .ok (.ldc is, 2)) (d6 : decode cc (pc + 6) = .ok (.invokespecial ic, 3)) (d9 : decode cc (pc + 9) = .ok (.athrow, 1))
    (hR : 5 < rm.frames ∧ (st.map (fun v => v.category)).sum + 82 ≤ rm.locals) (hz : 1 ≤ rm.cells ∧ 6 ≤ rm.slots) : B pc lv st w := by
  subst hw
  obtain ⟨p, l, e, s, m, args, below, meth, c, D, dA, ad, A, Q, rfl, hx, hb, hml, hr, hts, hown, hlocks, ⟨hK, hN⟩, hkn, hA, hl0, htab, rfl, hX⟩ := M
  intro H locs ls hl hP hD hS
  obtain ⟨h1, ⟨h2, h3⟩, h4, h5, h6⟩ := hs
  have hc := h6 _ _ _ hX
  obtain ⟨z1, z2, z3, z4, ⟨e1, e2, e3⟩, z5⟩ := hX
  obtain ⟨sa, hsa⟩ := z5 _ ht
  have hcat : ((st.map (nv ad)).map (fun v => v.category)).sum = (st.map (fun v => v.category)).sum := by rw [List.map_map]; simp only [Function.comp_def, nv_cat]
  refine vx_throwS (names := xNs) (A := A) hx hb hl0 hown h1 (by intro n hn; revert n; decide) (hts _ h2) (hts _ h3) hsa (fun w hw => ?_) h5 z1 z2 hS (by rw [hl.1, hml]) d0 d3 d4 d6 d9 (fun x hx => (htab x hx).elim) hR.1 (by rw [hcat]; exact hR.2) (by simpa using hz.1) (by simpa using hz.2) hlocks (fun t _ q1 q2 => ?_) hS.2.2 (Nat.le_refl _) (Nat.le_refl _)
  · have hot := h5 w (List.mem_cons_of_mem _ (List.mem_cons_of_mem _ hw))
    rcases h4 w hw with h | h | h | h | h
    · exact hts _ h
    · rw [h] at hot ⊢; exact vx_ot_at (State.WarmedH.refl s) rfl hot hc
    · rw [h] at hot ⊢; exact vx_ot_at (State.WarmedH.refl s) rfl hot e1
    · rw [h] at hot ⊢; exact vx_ot_at (State.WarmedH.refl s) rfl hot e2
    · rw [h] at hot ⊢; exact vx_ot_at (State.WarmedH.refl s) rfl hot e3
  · exact ⟨rfl, hP.kept (fun k q hk => q2 _ (hP k q hk).lt), Nat.le_trans hS.1 q1, fun q hq hAq => by rw [q2 q (Nat.lt_of_lt_of_le hq hS.1)]; exact hS.2.1 q hq hAq⟩
set_option maxHeartbeats 4000000 in
theorem g_throwW {cc : ByteArray} {nL : Nat} {ret : Option FieldType} {rm : Room} {E : String} {w1 : List va_E} {B : KT} (M : MG RX5 cc nL ret rm 0 0 (XTh E w1) B) {pc : Nat} {lv : List (Nat × Value)} {st : List Value} {w : List va_E} {ik ic is : Nat} {tx : String} (hs : TSite E ik ic) (ht : (is, tx) ∈ xTexts) (hw : w = w1)
    (d0 : decode cc pc = .ok (.new ik, 3)) (d3 : decode cc (pc + 3) = .ok (.dup, 1)) (d4 : decode cc (pc + 4) = .ok (.ldc_w is, 3)) (d6 : decode cc (pc + 7) = .ok (.invokespecial ic, 3)) (d9 : decode cc (pc + 10) = .ok (.athrow, 1))
    (hR : 5 < rm.frames ∧ (st.map (fun v => v.category)).sum + 82 ≤ rm.locals) (hz : 1 ≤ rm.cells ∧ 6 ≤ rm.slots) : B pc lv st w := by
  subst hw
  obtain ⟨p, l, e, s, m, args, below, meth, c, D, dA, ad, A, Q, rfl, hx, hb, hml, hr, hts, hown, hlocks, ⟨hK, hN⟩, hkn, hA, hl0, htab, rfl, hX⟩ := M
  intro H locs ls hl hP hD hS
  obtain ⟨h1, ⟨h2, h3⟩, h4, h5, h6⟩ := hs
  have hc := h6 _ _ _ hX
  obtain ⟨z1, z2, z3, z4, ⟨e1, e2, e3⟩, z5⟩ := hX
  obtain ⟨sa, hsa⟩ := z5 _ ht
  have hcat : ((st.map (nv ad)).map (fun v => v.category)).sum = (st.map (fun v => v.category)).sum := by rw [List.map_map]; simp only [Function.comp_def, nv_cat]
  refine vx_throwSW (names := xNs) (A := A) hx hb hl0 hown h1 (by intro n hn; revert n; decide) (hts _ h2) (hts _ h3) hsa (fun w hw => ?_) h5 z1 z2 hS (by rw [hl.1, hml]) d0 d3 d4 d6 d9 (fun x hx => (htab x hx).elim) hR.1 (by rw [hcat]; exact hR.2) (by simpa using hz.1) (by simpa using hz.2) hlocks (fun t _ q1 q2 => ?_) hS.2.2 (Nat.le_refl _) (Nat.le_refl _)
  · have hot := h5 w (List.mem_cons_of_mem _ (List.mem_cons_of_mem _ hw))
    rcases h4 w hw with h | h | h | h | h
    · exact hts _ h
    · rw [h] at hot ⊢; exact vx_ot_at (State.WarmedH.refl s) rfl hot hc
    · rw [h] at hot ⊢; exact vx_ot_at (State.WarmedH.refl s) rfl hot e1
    · rw [h] at hot ⊢; exact vx_ot_at (State.WarmedH.refl s) rfl hot e2
    · rw [h] at hot ⊢; exact vx_ot_at (State.WarmedH.refl s) rfl hot e3
  · exact ⟨rfl, hP.kept (fun k q hk => q2 _ (hP k q hk).lt), Nat.le_trans hS.1 q1, fun q hq hAq => by rw [q2 q (Nat.lt_of_lt_of_le hq hS.1)]; exact hS.2.1 q hq hAq⟩
/-- wrappers: a contract that may make an exception -/
def wsh (y : MethodName) (cc : ByteArray) (nL : Nat) (ret : Option FieldType) (hh : List (Nat × Nat × Nat × Nat)) : List Cond := Cond.codeWith y cc nL ret hh :: GW
def ConW (y : MethodName) (cc : ByteArray) (nL : Nat) (ret : Option FieldType) (hh : List (Nat × Nat × Nat × Nat)) (rm : Room) (a0 : List Value) (w0 : List va_E) (r : Option Value) (w1 : List va_E) : Prop :=
  w1.length = w0.length ∧ ∀ (l : Launch), l.stackTraces = false → ∀ (D : va_G) (dA : Nat → Nat) (ad : Nat → Nat) (sz : Nat), Met l y (wsh y cc nL ret hh) rm
    (va_Pc (a0.map (nv ad)) (fun U => U.heap.size = sz ∧ va_P D vwCl (nw dA ad w0) U.heap ∧ KK D dA U ∧ va_D (fun _ => True) (nw dA ad w0) ∧ XP (va_A (nw dA ad w0) sz) U U.heap))
    (Qr D dA ad r w1 (va_A (nw dA ad w0) sz)) 1 6 (va_A (nw dA ad w0) sz)
def XWr (hh : List (Nat × Nat × Nat × Nat)) (r : Option Value) (w1 : List va_E) : XT := fun _ l _ s _ args below _ c D dA ad A Q => l.stackTraces = false ∧ c.exceptionTable.toList = tableOf hh ∧ Q = MQ below (Qr D dA ad r w1 A) args s 1 6 A ∧ XP A s s.heap
theorem Met.ofWH {l : Launch} {y : MethodName} {ws ws' : List Cond} {rm : Room} {Pc : Array Value → State → Prop} {Qc : Array Value → State → Outcome → State → Prop} {mc ms : Nat} {free : Addr → Prop} {cc : ByteArray} {maxL : Nat} {ret : Option FieldType} {hh : List (Nat × Nat × Nat × Nat)}
    (hy : plainName y.cls = true) (hw : ws = Cond.codeWith y cc maxL ret hh :: ws')
    (body : ∀ p e s m args below meth c s₁, BodyLoose p l y (headSpec ws rm) cc maxL ret e s m args below meth c s₁ → c.maxLocals = maxL → Pc args s →
      W p l e (headSpec ws rm).room s m args below meth c s.heap [] 0 0 (MQ below Qc args s mc ms free) (entryFrame m args maxL)) : Met l y ws rm Pc Qc mc ms free := by
  refine MetFree.of_bodyS (code := cc) (maxLocals := maxL) (ret := ret) hy ?_ ?_
  · intro args s m h hn
    obtain ⟨m9, meth, c, hn9, h1, h2, h3, h4, -, h5, h6, -⟩ := Cond.codeWith_spec (atoms_spec (ws := ws) h _ (by rw [hw]; exact List.mem_cons_self))
    cases hn.symm.trans hn9
    exact ⟨meth, c, h1, h2, h3, h4, h5, h6⟩
  · intro p e s m args below meth c s₁ B hml hP _
    have hh0 : s₁.heap = s.heap := by rw [B.state]; rfl
    obtain ⟨t, a1, o, b1, b2, b3⟩ := body p e s m args below meth c s₁ B hml hP s₁ hh0 (Stand.of_body B)
    exact ⟨t, o, a1, b1, b2, ⟨b3.1, b3.2⟩⟩
set_option maxHeartbeats 4000000 in
theorem ConW.of {y : MethodName} {cc : ByteArray} {nL f k : Nat} {ret : Option FieldType} {hh : List (Nat × Nat × Nat × Nat)} {a0 : List Value} {w0 : List va_E} {r : Option Value} {w1 : List va_E} (hy : plainName y.cls = true) (hown : y.cls = RL) (hn : (lg_sl a0).length ≤ nL) (hlen : w1.length = w0.length)
    (h : ∀ B, MG RL cc nL ret (rmt f k) 0 0 (XWr hh r w1) B → B 0 (lv_args 0 a0) [] w0) : ConW y cc nL ret hh (rmt f k) a0 w0 r w1 := by
  refine ⟨hlen, fun l hl0 D dA ad sz => ?_⟩
  refine Met.ofWH (ws' := GW) (cc := cc) (maxL := nL) (ret := ret) (hh := hh) hy rfl ?_
  intro p e s m args below meth c s₁ B hml hv
  obtain ⟨rfl, hsz, hP, hK, hD0, hX⟩ := hv
  have hx := B.exec
  have hb := B.bytes
  have hr := B.returns
  have hts0 := atoms_spec (ws := wsh y cc nL ret hh) B.pre
  have hts : ∀ w ∈ GW, w.before _ s = true := fun w hw => hts0 w (List.mem_cons_of_mem _ hw)
  have htab := vx_table (x := y) B (hts0 _ List.mem_cons_self)
  have hown' : s.vm.findClass RL = some m.cls := by rw [← hown]; exact findClass_of_methodNamed B.named
  have hlocks := B.notSynchronized
  subst hsz
  have hD := hD0.self (sz := s.heap.size)
  have hA : ∀ q : Nat, s.heap.size ≤ q → va_A (nw dA ad w0) s.heap.size q := fun q h => Or.inr h
  have hl := lv_entry (a0.map (nv ad)) (n := nL) (by rw [sl_len]; exact hn)
  rw [args_map] at hl
  rw [lg_entry_eq]
  exact h _ ⟨p, l, e, s, m, _, below, meth, c, D, dA, ad, _, _, rfl, hx, hb, hml, hr, hts, hown', hlocks, hK, ⟨Nat.zero_le _, Nat.zero_le _⟩, hA, hl0, htab, rfl, hX⟩ s.heap [] _ hl hP hD va_S.rf
theorem g_wret {cc : ByteArray} {nL f k : Nat} {ret : Option FieldType} {k9 n9 : Nat} {hh : List (Nat × Nat × Nat × Nat)} {r : Option Value} {w1 : List va_E} {B : KT} (M : MG RL cc nL ret (rmt f k) k9 n9 (XWr hh r w1) B) {pc : Nat} {lv : List (Nat × Value)} {w : List va_E} {x : Int32} (hd : decode cc pc = .ok (.ireturn, 1)) (hret : ret = some .int) (hr9 : r = some (.int x)) (hw9 : w = w1) : B pc lv [.int x] w := by
  subst hr9; subst hw9; subst hret
  obtain ⟨p, l, e, s, m, args, below, meth, c, D, dA, ad, A, Q, rfl, hx, hb, hml, hr, hts, hown, hlocks, ⟨hK, hN⟩, hkn, hA, hl0, htab, rfl, hX⟩ := M
  intro H locs ls hl hP hD hS
  exact W.widen hkn.1 hkn.2 (W.iret hx hb hr (fun t ht hW => ⟨⟨rfl, by rw [ht]; exact hP, hD⟩, hS.F ht⟩) hS.2.2 hd)


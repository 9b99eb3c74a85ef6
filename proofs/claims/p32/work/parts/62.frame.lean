theorem Met.weak {l : Launch} {y : MethodName} {ws : List Cond} {rm : Room} {Pc Pd : Array Value → State → Prop} {Qc Qd : Array Value → State → Outcome → State → Prop} {mc ms : Nat} {fr fr2 : Addr → Prop} (hM : Met l y ws rm Pc Qc mc ms fr) (hp : ∀ a s, Pd a s → Pc a s) (hq : ∀ a s o t, Pd a s → Qc a s o t → Qd a s o t) (hf : ∀ q, fr q → fr2 q) : Met l y ws rm Pd Qd mc ms fr2 := by
  intro p e h1 h2 h3 s m args below h4 h5 h6 _
  obtain ⟨n, o, k1, k2, k3, k4, L, k5, k6⟩ := hM p e h1 h2 h3 s m args below h4 h5 (hp _ _ h6) trivial
  exact ⟨n, o, k1, k2, k3, hq _ _ _ _ h6 k4, L, k5, fun q h => hf _ (k6 q h)⟩
theorem va_A_sub {dA ad : Nat → Nat} {w w0 : List va_E} {ps : List Nat} {sz : Nat} (hsel : ps.map (fun k => (w[k]?).map (ne (fun t => t) (inn ps))) = w0.map some) : ∀ q, va_A (nw dA (fun j => ad (out ps j)) w0) sz q → va_A (nw dA ad w) sz q := by
  intro q h
  rcases h with ⟨i, e9, h9⟩ | h9
  · obtain ⟨e8, h8, h7⟩ := nw_inv h9
    have hC := sel_eq (dA := dA) (ad := ad) hsel
    have hi : i < w0.length := (List.getElem?_eq_some_iff.mp h8).1
    have hpl : ps.length = w0.length := by
      have := congrArg List.length hsel
      simpa using this
    have hpi : ps[i]? = some ps[i] := List.getElem?_eq_getElem (by omega)
    have h6 := congrArg (fun l => l[i]?) hC
    simp only [List.getElem?_map, hpi, Option.map_some, nw_get h8] at h6
    have h6 := Option.some.inj h6
    have h5 := congrArg Prod.fst h7
    simp only at h5
    exact Or.inl ⟨_, _, by rw [h6, h5]⟩
  · exact Or.inr h9
theorem args_frame {ad : Nat → Nat} {ps : List Nat} {a a0 : List Value} (ha : a.map (nv (inn ps)) = a0) : a0.map (nv (fun j => ad (out ps j))) = a.map (nv ad) := by
  rw [← ha, List.map_map]
  simp only [Function.comp_def, nv_comp, out_inn]
theorem putw_len (ps : List Nat) (w1 w : List va_E) : (putw ps w1 w).length = w.length := by
  have h : ∀ (f : Nat → va_E → va_E) (l : List va_E) (i : Nat), (mapN f i l).length = l.length := by
    intro f l
    induction l with
    | nil => intro i; rfl
    | cons a t ih => intro i; rw [mapN, List.length_cons, List.length_cons, ih]
  rw [putw, h]
/-- a contract in a greater world -/
theorem Con.frame {y : MethodName} {cc : ByteArray} {nL : Nat} {ret : Option FieldType} {rm : Room} {a0 : List Value} {w0 : List va_E} {r : Option Value} {w1 : List va_E} (hc : Con y cc nL ret rm a0 w0 r w1) (ps : List Nat) {a : List Value} {w : List va_E} {r2 : Option Value} {w2 : List va_E} (ha : a.map (nv (inn ps)) = a0) (hnd : va_nd ps = true) (hsel : ps.map (fun k => (w[k]?).map (ne (fun t => t) (inn ps))) = w0.map some) (hr : r.map (nv (out ps)) = r2) (hw : putw ps w1 w = w2) : Con y cc nL ret rm a w r2 w2 := by
  subst hr
  subst hw
  refine ⟨putw_len _ _ _, fun l D dA ad sz => ?_⟩
  refine (hc.2 l D dA (fun j => ad (out ps j)) sz).weak (fun v U h => ?_) (fun v st o t h h2 => ?_) (va_A_sub hsel)
  · obtain ⟨h1, h2, h3, h4, h5⟩ := h
    exact ⟨by rw [args_frame ha]; exact h1, h2, h3.sub ps (fm_of _ _ _ (sel_eq hsel)), h4, h5.sub ps hnd (sel_eq hsel)⟩
  · obtain ⟨h1, rfl, h3, h4, h5⟩ := h
    obtain ⟨⟨q1, q2, q3⟩, q4⟩ := h2
    obtain ⟨j1, j2, j3⟩ := join_core (A := va_A (nw dA ad w) st.heap.size) (H0 := st.heap) (L := []) (locs := []) h3 h5.self va_S.rf (fun q h => Or.inr h) hsel hc.1 q2 q4.1 q4.2 (fun q h => nomatch h)
    refine ⟨⟨?_, j1, j2⟩, q4.1, fun q hq hA => q4.2 q hq (fun z => hA (va_A_sub hsel q z))⟩
    rw [q1]
    congr 1
    cases r with
    | none => rfl
    | some v => simp only [Option.map_some, nv_comp]
/-! closed worlds -/
def clE (n : Nat) : va_E → Prop
  | .inl (_, _, .inr (.inr (.inr (.inr f)))) => ∀ j k, f j = some k → k < n
  | .inl _ => True
  | .inr (_, fs) => ∀ v ∈ fs, ∀ k, v = .ref k → k < n
def clW (n : Nat) : List va_E → Prop
  | [] => True
  | e :: t => clE n e ∧ clW n t
theorem clW_get {n : Nat} : ∀ {w : List va_E} {i : Nat} {e : va_E}, clW n w → w[i]? = some e → clE n e
  | [], i, e, _, h => by simp at h
  | a :: t, 0, e, hc, h => by cases h; exact hc.1
  | a :: t, i + 1, e, hc, h => by rw [List.getElem?_cons_succ] at h; exact clW_get hc.2 h
theorem clW_c {n : Nat} {e : va_E} {t : List va_E} (h : clE n e) (h2 : clW n t) : clW n (e :: t) := ⟨h, h2⟩
theorem clW_n {n : Nat} : clW n [] := trivial
theorem clW_app {n : Nat} : ∀ {a b : List va_E}, clW n a → clW n b → clW n (a ++ b)
  | [], _, _, h2 => h2
  | _ :: t, _, h1, h2 => ⟨h1.1, clW_app (a := t) h1.2 h2⟩
def clv (n : Nat) : Value → Bool
  | .ref k => Nat.blt k n
  | _ => true
theorem clE_r {n c : Nat} {fs : List Value} (h : fs.all (clv n) = true) : clE n (.inr (c, fs)) := by
  intro v hv k hk
  have := List.all_eq_true.mp h v hv
  subst hk
  exact of_decide_eq_true (by simpa [clv, Nat.blt_eq] using this)
theorem clE_f {n t m : Nat} {f : Nat → Option Nat} (h : ∀ j k, f j = some k → k < n) : clE n (.inl (t, m, .inr (.inr (.inr (.inr f))))) := h
theorem clE_i {n t m : Nat} {f : Nat → Int32} : clE n (.inl (t, m, .inl f)) := trivial
theorem clE_l {n t m : Nat} {f : Nat → Int64} : clE n (.inl (t, m, .inr (.inl f))) := trivial
theorem ne_cl {n : Nat} {g : Nat → Nat} (hg : ∀ k, k < n → g k = k) {e : va_E} (h : clE n e) : ne (fun t => t) g e = e := by
  rcases e with ⟨t, m, x⟩ | ⟨c, fs⟩
  · rcases x with x | x | x | x | x
    · rfl
    · rfl
    · rfl
    · rfl
    · have h9 : (fun j => Option.map g (x j)) = x := by
        funext j
        cases hx : x j with
        | none => rfl
        | some k => simp only [Option.map_some]; rw [hg k (h j k hx)]
      show (Sum.inl (t, m, .inr (.inr (.inr (.inr (fun j => Option.map g (x j)))))) : va_E) = _
      rw [h9]
  · have h : ∀ v ∈ fs, ∀ k, v = .ref k → k < n := h
    have h8 : fs.map (nv g) = fs.map id := List.map_congr_left (fun v hv => by
      cases v with
      | ref k => exact congrArg Value.ref (hg k (h _ hv k rfl))
      | _ => rfl)
    have h9 : fs.map (nv g) = fs := by rw [h8, List.map_id]
    show (Sum.inr (c, fs.map (nv g)) : va_E) = _
    rw [h9]
theorem ixo_no : ∀ (ps : List Nat) (k : Nat), k ∉ ps → ixo ps k = ps.length
  | [], _, _ => rfl
  | a :: t, k, h => by
    unfold ixo
    have hne : Nat.beq a k = false := by
      cases hb : Nat.beq a k with
      | false => rfl
      | true => exact absurd (by rw [Nat.eq_of_beq_eq_true hb]; exact List.mem_cons_self) h
    rw [hne]
    simp only [cond_false, List.length_cons]
    rw [ixo_no t k (fun z => h (List.mem_cons_of_mem _ z))]
theorem ixo_rg {n : Nat} (hnd : va_nd (List.range n) = true) {k : Nat} (h : k < n) : ixo (List.range n) k = k := ixo_self _ k k hnd (by rw [List.getElem?_range h])
theorem inn_rg {n : Nat} (hnd : va_nd (List.range n) = true) : ∀ k, k < n → inn (List.range n) k = k := by
  intro k h
  unfold inn
  rw [ixo_rg hnd h, List.length_range, show Nat.blt k n = true from by rw [Nat.blt_eq]; exact h]
  rfl
theorem out_rg {n : Nat} : ∀ k, k < n → out (List.range n) k = k := by
  intro k h
  unfold out
  rw [List.getElem?_range h]
theorem sel_pre {n : Nat} (hnd : va_nd (List.range n) = true) {w0 x : List va_E} (hn : w0.length = n) (hc : clW n w0) : (List.range n).map (fun k => ((w0 ++ x)[k]?).map (ne (fun t => t) (inn (List.range n)))) = w0.map some := by
  apply List.ext_getElem?
  intro i
  rw [List.getElem?_map, List.getElem?_map]
  by_cases h : i < n
  · rw [List.getElem?_range h, List.getElem?_eq_getElem (l := w0) (by omega)]
    simp only [Option.map_some]
    rw [List.getElem?_append_left (by omega), List.getElem?_eq_getElem (by omega)]
    simp only [Option.map_some]
    rw [ne_cl (inn_rg hnd) (clW_get (i := i) hc (List.getElem?_eq_getElem (by omega)))]
  · rw [List.getElem?_eq_none (by rw [List.length_range]; omega), List.getElem?_eq_none (l := w0) (by omega)]
    rfl
theorem put_pre {n : Nat} (hnd : va_nd (List.range n) = true) {w0 w1 x : List va_E} (h0 : w0.length = n) (h1 : w1.length = n) (hc : clW n w1) : putw (List.range n) w1 (w0 ++ x) = w1 ++ x := by
  apply List.ext_getElem?
  intro i
  rw [putw_get]
  by_cases h : i < n
  · rw [List.getElem?_append_left (by omega), List.getElem?_append_left (by omega), List.getElem?_eq_getElem (l := w0) (by omega), ixo_rg hnd h, List.getElem?_eq_getElem (l := w1) (by omega)]
    simp only [Option.map_some]
    rw [ne_cl (fun k hk => out_rg k hk) (clW_get (i := i) hc (List.getElem?_eq_getElem (by omega)))]
  · rw [List.getElem?_append_right (by omega), List.getElem?_append_right (by omega), h0, h1, ixo_no _ _ (by rw [List.mem_range]; omega), List.length_range, List.getElem?_eq_none (l := w1) (by omega)]
    cases x[i - n]? <;> rfl
theorem nd95 : va_nd (List.range 95) = true := by decide +kernel
set_option maxRecDepth 100000 in
theorem cw_cl (kp : Bool) (d0 d1 : SD) (k : Nat) (rm : Nat → Nat) (R : Nat → SD) (cod : Nat → Int32) (len aw op fig pop pmk pen : Int32) (psts ptd : Nat → Nat) (t : WD) (hrm : ∀ j, rm j < 6) : clW 95 (CW kp d0 d1 k rm R cod len aw op fig pop pmk pen psts ptd t) := by
  repeat' (first | exact clW_n | refine clW_c ?_ ?_)
  all_goals (first | exact clE_i | exact clE_r rfl | exact clE_f (fun j k h => by cases h; have := hrm j; omega))
theorem cw_len (kp : Bool) (d0 d1 : SD) (k : Nat) (rm : Nat → Nat) (R : Nat → SD) (cod : Nat → Int32) (len aw op fig pop pmk pen : Int32) (psts ptd : Nat → Nat) (t : WD) : (CW kp d0 d1 k rm R cod len aw op fig pop pmk pen psts ptd t).length = 95 := rfl


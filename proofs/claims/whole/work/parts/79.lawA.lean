/-- what the law's body knows: its script, what a throw needs, how it returns -/
def XLw (L : Nat) (xs : Nat → Int32) : XT := fun p l e s m args below meth c _ _ ad A Q => (l.stackTraces = false ∧ XP A s s.heap) ∧ (va_X (ad 1000) L xs s s.heap ∧ ad 1000 < s.heap.size ∧ ¬ A (ad 1000)) ∧ ∀ (H : Heap) (locs : List Loc) (ls : Array Slot) (pc k9 n9 : Nat), k9 ≤ 601024 → n9 ≤ 7293034 → va_S A s.heap H locs → decode cL_law pc = .ok (.ireturn, 1) → W p l e room_1 s m args below meth c H locs k9 n9 Q (F0 m pc ls [.int 1])
theorem xlw_xp (L : Nat) (xs : Nat → Int32) : ∀ p l e s m args below meth c D dA ad A Q, XLw L xs p l e s m args below meth c D dA ad A Q → l.stackTraces = false ∧ XP A s s.heap := fun _ _ _ _ _ _ _ _ _ _ _ _ _ _ h => h.1
theorem g_sld {cc : ByteArray} {nL k9 n9 L : Nat} {ret9 : Option FieldType} {rm : Room} {xs : Nat → Int32} {B : KT} (M : MG RL cc nL ret9 rm k9 n9 (XLw L xs) B) {pc : Nat} {lv : List (Nat × Value)} {st : List Value} {w : List va_E} {i : Int32} (hin : vp_in i L) (hd : decode cc pc = .ok (.iaload, 1)) (kk : B (pc + 1) lv (.int (xs i.toNatClampNeg) :: st) w) : B pc lv (.int i :: .ref 1000 :: st) w := by
  obtain ⟨p, l, e, s, m, args, below, meth, c, D, dA, ad, A, Q, rfl, hx, hb, hml, hr, hts, hown, hlocks, ⟨hK, hN⟩, hkn, hA, hX⟩ := M
  obtain ⟨-, ⟨x1, x2, x3⟩, -⟩ := hX
  intro H locs ls hl hP hD hS
  exact va_sld hx hb x1 x2 x3 hS hin hd (kk H locs ls hl hP hD hS)
theorem g_slen {cc : ByteArray} {nL k9 n9 L : Nat} {ret9 : Option FieldType} {rm : Room} {xs : Nat → Int32} {B : KT} (M : MG RL cc nL ret9 rm k9 n9 (XLw L xs) B) {pc : Nat} {lv : List (Nat × Value)} {st : List Value} {w : List va_E} (hd : decode cc pc = .ok (.arraylength, 1)) (kk : B (pc + 1) lv (.int (nI L) :: st) w) : B pc lv (.ref 1000 :: st) w := by
  obtain ⟨p, l, e, s, m, args, below, meth, c, D, dA, ad, A, Q, rfl, hx, hb, hml, hr, hts, hown, hlocks, ⟨hK, hN⟩, hkn, hA, hX⟩ := M
  obtain ⟨-, ⟨x1, x2, x3⟩, -⟩ := hX
  intro H locs ls hl hP hD hS
  exact va_slen hx hb x1 x2 x3 hS hd (kk H locs ls hl hP hD hS)
theorem g_law1 {nL k9 n9 L : Nat} {ret9 : Option FieldType} {xs : Nat → Int32} {B : KT} (M : MG RL cL_law nL ret9 room_1 k9 n9 (XLw L xs) B) {pc : Nat} {lv : List (Nat × Value)} {w : List va_E} (hd : decode cL_law pc = .ok (.ireturn, 1)) : B pc lv [.int 1] w := by
  obtain ⟨p, l, e, s, m, args, below, meth, c, D, dA, ad, A, Q, rfl, hx, hb, hml, hr, hts, hown, hlocks, ⟨hK, hN⟩, hkn, hA, hX⟩ := M
  obtain ⟨-, -, x4⟩ := hX
  intro H locs ls hl hP hD hS
  exact x4 H locs ls pc k9 n9 hkn.1 hkn.2 hS hd
abbrev shM : va_E → va_E := ne (fun t => t) (fun k => 96 + k)
/-- the law's world -/
abbrev LWm (w0 : List va_E) (z : Nat → Int64) (m0 : List va_E) : List va_E := (w0 ++ [OUT z]) ++ m0.map shM
theorem ne_cg {n : Nat} {f g : Nat → Nat} (hg : ∀ k, k < n → f k = g k) {e : va_E} (h : clE n e) : ne (fun t => t) f e = ne (fun t => t) g e := by
  rcases e with ⟨t, m, x⟩ | ⟨c, fs⟩
  · rcases x with x | x | x | x | x
    · rfl
    · rfl
    · rfl
    · rfl
    · have h9 : (fun j => Option.map f (x j)) = (fun j => Option.map g (x j)) := by
        funext j
        cases hx : x j with
        | none => rfl
        | some k => simp only [Option.map_some]; rw [hg k (h j k hx)]
      show (Sum.inl (t, m, .inr (.inr (.inr (.inr (fun j => Option.map f (x j)))))) : va_E) = Sum.inl (t, m, .inr (.inr (.inr (.inr (fun j => Option.map g (x j))))))
      rw [h9]
  · have h : ∀ v ∈ fs, ∀ k, v = .ref k → k < n := h
    have h8 : fs.map (nv f) = fs.map (nv g) := List.map_congr_left (fun v hv => by
      cases v with
      | ref k => exact congrArg Value.ref (hg k (h _ hv k rfl))
      | _ => rfl)
    show (Sum.inr (c, fs.map (nv f)) : va_E) = Sum.inr (c, fs.map (nv g))
    rw [h8]
theorem clE_up {n m : Nat} (hnm : n ≤ m) {e : va_E} (h : clE n e) : clE m e := by
  rcases e with ⟨t, q, x⟩ | ⟨c, fs⟩
  · rcases x with x | x | x | x | x
    · trivial
    · trivial
    · trivial
    · trivial
    · exact fun j k hk => Nat.lt_of_lt_of_le (h j k hk) hnm
  · exact fun v hv k hk => Nat.lt_of_lt_of_le (h v hv k hk) hnm
theorem clW_up {n m : Nat} (hnm : n ≤ m) : ∀ {w : List va_E}, clW n w → clW m w
  | [], _ => trivial
  | _ :: t, h => ⟨clE_up hnm h.1, clW_up hnm (w := t) h.2⟩
def P5 : List Nat := [96, 97, 98, 99, 100]
theorem five {m0 : List va_E} (h : m0.length = 5) : ∃ e0 e1 e2 e3 e4, m0 = [e0, e1, e2, e3, e4] := by
  rcases m0 with _ | ⟨e0, _ | ⟨e1, _ | ⟨e2, _ | ⟨e3, _ | ⟨e4, _ | ⟨e5, t⟩⟩⟩⟩⟩⟩ <;> simp at h
  exact ⟨e0, e1, e2, e3, e4, rfl⟩
theorem inn5 : ∀ k, k < 5 → inn P5 (96 + k) = k := by decide
theorem out5 : ∀ k, k < 5 → out P5 k = 96 + k := by decide
theorem sh_back {e : va_E} (h : clE 5 e) : ne (fun t => t) (inn P5) (shM e) = e := by
  rw [ne_comp]
  exact ne_cl inn5 h
theorem at96 {a : List va_E} (ha : a.length = 96) (y : List va_E) (i : Nat) : (a ++ y)[96 + i]? = y[i]? := by
  rw [List.getElem?_append_right (by omega), ha, Nat.add_sub_cancel_left]
theorem sel_suf {a m0 : List va_E} (ha : a.length = 96) (hm : m0.length = 5) (hc : clW 5 m0) : P5.map (fun k => ((a ++ m0.map shM)[k]?).map (ne (fun t => t) (inn P5))) = m0.map some := by
  obtain ⟨e0, e1, e2, e3, e4, rfl⟩ := five hm
  obtain ⟨c0, c1, c2, c3, c4, -⟩ := hc
  obtain ⟨F, hF⟩ : ∃ F : Nat → Option va_E, F = fun k => ((a ++ [e0, e1, e2, e3, e4].map shM)[k]?).map (ne (fun t => t) (inn P5)) := ⟨_, rfl⟩
  rw [← hF]
  have g : ∀ (i : Nat) (e : va_E), [e0, e1, e2, e3, e4][i]? = some e → clE 5 e → F (96 + i) = some e := by
    intro i e he hc
    rw [hF]
    dsimp only
    rw [at96 ha, List.getElem?_map, he]
    exact congrArg some (sh_back hc)
  show [F (96 + 0), F (96 + 1), F (96 + 2), F (96 + 3), F (96 + 4)] = _
  rw [g 0 e0 rfl c0, g 1 e1 rfl c1, g 2 e2 rfl c2, g 3 e3 rfl c3, g 4 e4 rfl c4]
  rfl
theorem put_suf {a m0 m1 : List va_E} (ha : a.length = 96) (hm : m0.length = 5) (hm1 : m1.length = 5) (hc : clW 5 m1) : putw P5 m1 (a ++ m0.map shM) = a ++ m1.map shM := by
  apply List.ext_getElem?
  intro k
  rw [putw_get]
  by_cases h : k < 96
  · rw [List.getElem?_append_left (by omega), List.getElem?_append_left (by omega), ixo_no P5 k (by rw [P5]; simp only [List.mem_cons, List.not_mem_nil, or_false]; omega), show P5.length = 5 from rfl, List.getElem?_eq_none (l := m1) (by omega), List.getElem?_eq_getElem (l := a) (by omega)]
    rfl
  · obtain ⟨i, rfl⟩ : ∃ i, k = 96 + i := ⟨k - 96, by omega⟩
    rw [at96 ha, at96 ha, List.getElem?_map, List.getElem?_map]
    by_cases hi : i < 5
    · have hx : ∀ i, i < 5 → ixo P5 (96 + i) = i := by decide
      rw [hx i hi, List.getElem?_eq_getElem (l := m0) (by omega), List.getElem?_eq_getElem (l := m1) (by omega)]
      simp only [Option.map_some]
      exact congrArg some (ne_cg out5 (clW_get (i := i) hc (List.getElem?_eq_getElem (by omega))))
    · rw [List.getElem?_eq_none (l := m0) (i := i) (by omega), List.getElem?_eq_none (l := m1) (i := i) (by omega)]
      rfl
theorem sel_pre2 {n : Nat} (hnd : va_nd (List.range n) = true) {w0 x y : List va_E} (hn : w0.length = n) (hc : clW n w0) : (List.range n).map (fun k => (((w0 ++ x) ++ y)[k]?).map (ne (fun t => t) (inn (List.range n)))) = w0.map some := by
  rw [List.append_assoc]
  exact sel_pre hnd hn hc
theorem put_pre2 {n : Nat} (hnd : va_nd (List.range n) = true) {w0 w1 x y : List va_E} (h0 : w0.length = n) (h1 : w1.length = n) (hc : clW n w1) : putw (List.range n) w1 ((w0 ++ x) ++ y) = (w1 ++ x) ++ y := by
  rw [List.append_assoc, put_pre hnd h0 h1 hc, List.append_assoc]
theorem nd96 : va_nd (List.range 96) = true := by decide +kernel
theorem nd5 : va_nd P5 = true := by decide
theorem inv_w {b : Nat} {w0 m0 : List va_E} (h : Inv b w0 m0) : w0.length = 95 ∧ clW 95 w0 ∧ ∃ fs, w0[0]? = some (.inr (5, fs)) := by
  obtain ⟨kp, d0, d1, k, rm, R, cod, n, aw, op, fig, pop, pmk, pen, psts, ptd, t, th, at9, pt, nm, oq, hs, s, bg, tm, rfl, rfl, hS, hn, hch⟩ := h
  exact ⟨cwL, cwC hS.2.2.1.1, _, rfl⟩
theorem inv_m {b : Nat} {w0 m0 : List va_E} (h : Inv b w0 m0) : m0.length = 5 ∧ clW 5 m0 ∧ ∃ fs, m0[0]? = some (.inr (6, fs)) := by
  obtain ⟨kp, d0, d1, k, rm, R, cod, n, aw, op, fig, pop, pmk, pen, psts, ptd, t, th, at9, pt, nm, oq, hs, s, bg, tm, rfl, rfl, hS, hn, hch⟩ := h
  refine ⟨rfl, ?_, _, rfl⟩
  exact clW_c (clE_r rfl) (clW_c clE_i (clW_c clE_i (clW_c clE_i (clW_c clE_i clW_n))))
theorem cl96 {w0 : List va_E} (h : clW 95 w0) (z : Nat → Int64) : clW 96 (w0 ++ [OUT z]) := clW_app (clW_up (by omega) h) (clW_c clE_l clW_n)
theorem ln96 {w0 : List va_E} (h : w0.length = 95) (z : Nat → Int64) : (w0 ++ [OUT z]).length = 96 := by rw [List.length_append, h]; rfl
theorem lw_hd {w0 m0 : List va_E} {z : Nat → Int64} {fs : List Value} (hl : w0.length = 95) (h : w0[0]? = some (.inr (5, fs))) : (LWm w0 z m0)[0]? = some (.inr (5, fs)) := by
  rw [List.getElem?_append_left (by rw [ln96 hl]; omega), List.getElem?_append_left (by omega)]; exact h
theorem lw_md {w0 m0 : List va_E} {z : Nat → Int64} {fs : List Value} (hl : w0.length = 95) (h : m0[0]? = some (.inr (6, fs))) : (LWm w0 z m0)[96]? = some (.inr (6, fs.map (nv (fun k => 96 + k)))) := by
  have := at96 (ln96 hl z) (m0.map shM) 0
  rw [show 96 + 0 = 96 from rfl] at this
  rw [this, List.getElem?_map, h]
  rfl
theorem lw_out {w0 m0 : List va_E} {z : Nat → Int64} (hl : w0.length = 95) : (LWm w0 z m0)[95]? = some (OUT z) := by
  rw [List.getElem?_append_left (by rw [ln96 hl]; omega)]
  exact w_at hl
theorem lgc (x : Int64) : lg_cmp x x = 0 := by simp [lg_cmp]
theorem vinA : vp_in 0 1 := show vp_in (nI 0) 1 from vp_in_nI (by omega) (by omega)


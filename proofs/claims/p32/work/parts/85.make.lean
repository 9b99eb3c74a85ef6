/-! BODIES THAT MAKE CELLS: the names grow -/
abbrev SNm : String := "CrankTheatre$State"
def teeth0 (j : Nat) : Int32 := match j with | 0 => 4 | 1 => 6 | 2 => 8 | 3 => 9 | _ => 12
def moon0 (j : Nat) : Int32 := nI (if j < 7 then j else 12 - j)
def ZA (n : String) (L : Nat) (xs : Nat → Int32) (A : Nat → Prop) (U : State) (H : Heap) : Prop := ∃ t : Nat, va_Z RX5 n "[I" (.ref t) A U H ∧ va_T .int t L (fun j => .int (xs j)) A U H
theorem ZA.to {n : String} {L : Nat} {xs : Nat → Int32} {A B : Nat → Prop} {s U : State} {H0 H : Heap} (h : ZA n L xs A s H0) (hvm : s.vm.Alike U.vm) (hH : ∀ q : Nat, q < H0.size → ¬ A q → H[q]? = H0[q]?) (hB : ∀ q, B q → A q) : ZA n L xs B U H := by
  obtain ⟨t, h1, h2⟩ := h
  exact ⟨t, ((h1.kept hH).narrow hB).moved hvm, ((h2.kept hH).narrow hB).moved hvm⟩
/-- what a body that makes cells needs of the machine -/
def ZP (A : Nat → Prop) (U : State) (H : Heap) : Prop := ZA "FIRST_TEETH" 5 teeth0 A U H ∧ ZA "FIRST_MOON" 12 moon0 A U H ∧ va_AO SNm U
theorem ZP.to {A B : Nat → Prop} {s U : State} {H0 H : Heap} (h : ZP A s H0) (hvm : s.vm.Alike U.vm) (_ : H0.size ≤ H.size) (hH : ∀ q : Nat, q < H0.size → ¬ A q → H[q]? = H0[q]?) (hB : ∀ q, B q → A q) : ZP B U H := ⟨h.1.to hvm hH hB, h.2.1.to hvm hH hB, h.2.2.moved hvm⟩
def rmn (f cs sl k : Nat) : Room := { frames := f, cells := cs, slots := sl, locals := k }
/-- the end of a constructor: its object is b, its world w1 at names of its own -/
def QN (D : va_G) (dA : Nat → Nat) (b : Nat) (w1 : List va_E) (A : Nat → Prop) : Array Value → State → Outcome → State → Prop := fun _ st oc t => (oc = .returned none ∧ ∃ ad2 : Nat → Nat, ad2 0 = b ∧ va_P D vwCl (nw dA ad2 w1) t.heap ∧ va_D A (nw dA ad2 w1)) ∧ va_F A st t
/-- a constructor's contract -/
def ConN (y : MethodName) (cc : ByteArray) (nL : Nat) (rm : Room) (e0 : va_E) (w1 : List va_E) : Prop :=
  (clW w1.length w1 ∧ 1 ≤ w1.length) ∧ ∀ (l : Launch) (D : va_G) (dA : Nat → Nat) (b : Nat) (sz : Nat), Met l y (wsy y cc nL none) rm
    (va_Pc [.ref b] (fun U => U.heap.size = sz ∧ va_P D vwCl [(b, e0)] U.heap ∧ KK D dA U ∧ va_D (fun _ => True) [(b, e0)] ∧ ZP (va_A [(b, e0)] sz) U U.heap))
    (QN D dA b w1 (va_A [(b, e0)] sz)) rm.cells rm.slots (va_A [(b, e0)] sz)
def XN (cs sl : Nat) (w1 : List va_E) : XT := fun _ _ _ s _ args below meth _ D dA ad A Q => (meth.name = "<init>" ∧ ZP A s s.heap) ∧ Q = MQ below (QN D dA (ad 0) w1 A) args s cs sl A
/-- that a body's end doesn't speak of names behind n -/
def XK (n : Nat) (X : XT) : Prop := ∀ p l e s m args below meth c D dA ad ad' A Q, (∀ k, k < n ∨ 1000 ≤ k → ad' k = ad k) → X p l e s m args below meth c D dA ad A Q → X p l e s m args below meth c D dA ad' A Q
def XZ (X : XT) : Prop := ∀ p l e s m args below meth c D dA ad A Q, X p l e s m args below meth c D dA ad A Q → ZP A s s.heap
def XI (X : XT) : Prop := ∀ p l e s m args below meth c D dA ad A Q, X p l e s m args below meth c D dA ad A Q → meth.name = "<init>"
theorem xn_k {cs sl n : Nat} {w1 : List va_E} (hn : 0 < n) : XK n (XN cs sl w1) := by
  intro p l e s m args below meth c D dA ad ad' A Q hag h
  obtain ⟨h1, h2⟩ := h
  exact ⟨h1, by rw [h2, hag 0 (Or.inl hn)]⟩
theorem xn_z {cs sl : Nat} {w1 : List va_E} : XZ (XN cs sl w1) := fun _ _ _ _ _ _ _ _ _ _ _ _ _ _ h => h.1.2
theorem xn_i {cs sl : Nat} {w1 : List va_E} : XI (XN cs sl w1) := fun _ _ _ _ _ _ _ _ _ _ _ _ _ _ h => h.1.1
/-- closed values: names below n, or a fixed one -/
def clz (n : Nat) : Value → Bool
  | .ref k => Nat.blt k n || Nat.ble 1000 k
  | _ => true
theorem nv_cl {n : Nat} {ad ad' : Nat → Nat} (hag : ∀ k, k < n ∨ 1000 ≤ k → ad' k = ad k) {v : Value} (h : clz n v = true) : nv ad' v = nv ad v := by
  cases v with
  | ref k =>
    have h1 : k < n ∨ 1000 ≤ k := by simpa [clz, Nat.blt_eq, Nat.ble_eq] using h
    show Value.ref _ = Value.ref _
    rw [hag k h1]
  | _ => rfl
theorem nvs_cl {n : Nat} {ad ad' : Nat → Nat} (hag : ∀ k, k < n ∨ 1000 ≤ k → ad' k = ad k) {st : List Value} (h : st.all (clz n) = true) : st.map (nv ad') = st.map (nv ad) := by
  apply List.map_congr_left
  intro v hv
  exact nv_cl hag (List.all_eq_true.mp h v hv)
theorem nl_cl {n : Nat} {ad ad' : Nat → Nat} (hag : ∀ k, k < n ∨ 1000 ≤ k → ad' k = ad k) {lv : List (Nat × Value)} (h : lv.all (fun q => clz n q.2) = true) : lv.map (fun q => (q.1, nv ad' q.2)) = lv.map (fun q => (q.1, nv ad q.2)) := by
  apply List.map_congr_left
  intro v hv
  rw [nv_cl hag (List.all_eq_true.mp h v hv)]
theorem ne_ag {dA : Nat → Nat} {n : Nat} {ad ad' : Nat → Nat} (hag : ∀ k, k < n → ad' k = ad k) {e : va_E} (h : clE n e) : ne dA ad' e = ne dA ad e := by
  rcases e with ⟨t, m, x⟩ | ⟨c, fs⟩
  · rcases x with x | x | x | x | x
    · rfl
    · rfl
    · rfl
    · rfl
    · have h9 : (fun j => Option.map ad' (x j)) = (fun j => Option.map ad (x j)) := by
        funext j
        cases hx : x j with
        | none => rfl
        | some k => show some _ = some _; rw [hag k (h j k hx)]
      show (Sum.inl (dA t, m, .inr (.inr (.inr (.inr (fun j => Option.map ad' (x j)))))) : va_E) = _
      rw [h9]
      rfl
  · show (Sum.inr (c, fs.map (nv ad')) : va_E) = Sum.inr (c, fs.map (nv ad))
    rw [show fs.map (nv ad') = fs.map (nv ad) from List.map_congr_left (fun v hv => by
      cases v with
      | ref k => show Value.ref _ = Value.ref _; rw [hag k (h _ hv k rfl)]
      | _ => rfl)]
theorem nw_ag {dA : Nat → Nat} {ad ad' : Nat → Nat} {w : List va_E} (hag : ∀ k, k < w.length → ad' k = ad k) (h : clW w.length w) : nw dA ad' w = nw dA ad w := by
  apply List.ext_getElem?
  intro i
  cases hi : w[i]? with
  | none => rw [nw, nw, List.getElem?_mapIdx, List.getElem?_mapIdx, hi]; rfl
  | some e => rw [nw_get hi, nw_get hi, ne_ag hag (clW_get h hi), hag i (List.getElem?_eq_some_iff.mp hi).1]
theorem nw_push {dA : Nat → Nat} {ad : Nat → Nat} (w : List va_E) (e : va_E) : nw dA ad (w ++ [e]) = nw dA ad w ++ [(ad w.length, ne dA ad e)] := by
  simp [nw, List.mapIdx_append]
/-- a constructor's world behind n cells -/
def shn (n : Nat) (w : List va_E) : List va_E := w.map (ne (fun t => t) (fun k => n + k))
def adn (n c : Nat) (ad ad2 : Nat → Nat) (k : Nat) : Nat := if k < n then ad k else if k < n + c then ad2 (k - n) else ad k
theorem adn_old {n c : Nat} {ad ad2 : Nat → Nat} (hc : n + c ≤ 1000) : ∀ k, k < n ∨ 1000 ≤ k → adn n c ad ad2 k = ad k := by
  intro k h
  unfold adn
  by_cases h1 : k < n
  · rw [if_pos h1]
  · rw [if_neg h1, if_neg (by omega)]
theorem adn_new {n c : Nat} {ad ad2 : Nat → Nat} : ∀ k, k < c → adn n c ad ad2 (n + k) = ad2 k := by
  intro k h
  unfold adn
  rw [if_neg (by omega), if_pos (by omega), show n + k - n = k by omega]
theorem nw_mk {dA : Nat → Nat} {ad ad2 : Nat → Nat} {w w1 : List va_E} (hcl : clW w.length w) (hc1 : clW w1.length w1) : nw dA (adn w.length w1.length ad ad2) (w ++ shn w.length w1) = nw dA ad w ++ nw dA ad2 w1 := by
  have h1 : ∀ k, k < w.length → adn w.length w1.length ad ad2 k = ad k := fun k hk => by unfold adn; rw [if_pos hk]
  rw [nw, List.mapIdx_append]
  congr 1
  · exact nw_ag h1 hcl
  · apply List.ext_getElem?
    intro i
    rw [List.getElem?_mapIdx]
    unfold shn
    rw [List.getElem?_map]
    cases hi : w1[i]? with
    | none => rw [nw, List.getElem?_mapIdx, hi]; rfl
    | some e =>
      have hl := (List.getElem?_eq_some_iff.mp hi).1
      rw [nw_get hi]
      simp only [Option.map_some]
      rw [ne_comp, ne_ag (ad := ad2) (n := w1.length) (fun k hk => adn_new k hk) (clW_get hc1 hi), Nat.add_comm i w.length, adn_new i hl]
section CORE
variable {p : Program} {l : Launch} {e : Env} {R : Room} {s : State} {m : MethodId} {args : Array Value} {below : List Frame} {meth : Method} {c : Code} {H : Heap} {locs : List Loc} {cells slots : Nat} {Q : State → Prop}
theorem mk_core {pc cs sl : Nat} {ls : Array Slot} {st0 rest : List Value} {a : Array Value} {D : va_G} {dA ad : Nat → Nat} {A : Nat → Prop} {w w1 : List va_E} {b : Nat} {e0 : va_E} {H0 : Heap}
    (hr : va_Run p l e R s m args below meth c H locs cells slots cs sl (F0 m pc ls st0) rest (QN D dA b w1 (va_A [(b, e0)] H.size) a) (va_A [(b, e0)] H.size))
    (hP : va_P D vwCl (nw dA ad w ++ [(b, e0)]) H) (hD : va_D A (nw dA ad w ++ [(b, e0)])) (hS : va_S A H0 H locs) (hA : ∀ q, H0.size ≤ q → A q) (hcl : clW w.length w) (hc1 : clW w1.length w1)
    (kk : ∀ (ad2 : Nat → Nat) (H1 : Heap) (locs1 : List Loc), (0 < w1.length → adn w.length w1.length ad ad2 w.length = b) → va_P D vwCl (nw dA (adn w.length w1.length ad ad2) (w ++ shn w.length w1)) H1 → va_D A (nw dA (adn w.length w1.length ad ad2) (w ++ shn w.length w1)) → va_S A H0 H1 locs1 → W p l e R s m args below meth c H1 locs1 (cells + cs) (slots + sl) Q (F0 m (pc + 3) ls rest)) : W p l e R s m args below meth c H locs cells slots Q (F0 m pc ls st0) := by
  have hwl : (nw dA ad w).length = w.length := by rw [nw, List.length_mapIdx]
  have hb : (nw dA ad w ++ [(b, e0)])[w.length]? = some (b, e0) := by rw [← hwl]; simp
  have hF : ∀ q, va_A [(b, e0)] H.size q → A q := by
    intro q h
    rcases h with ⟨k, e, h⟩ | h
    · have hk : k < 1 := (List.getElem?_eq_some_iff.mp h).1
      rw [show k = 0 by omega] at h
      cases h
      exact hD.2 _ _ hb
    · exact hA q (Nat.le_trans hS.1 h)
  intro T hT X
  obtain ⟨v, st₀, t, T', L, h0, X', hL, e1, e2, ⟨⟨hv, ad2, hb2, hP1, hD1⟩, hz, hk⟩, st⟩ := hr T hT X
  cases hv
  rw [h0] at hz hk
  rw [← e1] at hz hk hP1
  have old : ∀ (k : Nat) (q : Nat × va_E), (nw dA ad w)[k]? = some q → q.1 < H.size ∧ ¬ va_A [(b, e0)] H.size q.1 := by
    intro k q hq
    have hlt : k < w.length := by rw [← hwl]; exact (List.getElem?_eq_some_iff.mp hq).1
    have hq1 : (nw dA ad w ++ [(b, e0)])[k]? = some q := by rw [List.getElem?_append_left (by omega)]; exact hq
    have hl := (hP k q hq1).lt
    refine ⟨hl, ?_⟩
    rintro (⟨i, e9, h9⟩ | h9)
    · have hi : i < 1 := (List.getElem?_eq_some_iff.mp h9).1
      rw [show i = 0 by omega] at h9
      have h8 : b = q.1 := congrArg Prod.fst (Option.some.inj h9)
      have := hD.1 _ _ _ _ hq1 hb h8.symm
      omega
    · omega
  obtain ⟨t2, a1, b1⟩ := kk ad2 T'.heap (locs ++ L) (fun h => by
      have := adn_new (n := w.length) (c := w1.length) (ad := ad) (ad2 := ad2) 0 h
      rw [Nat.add_zero] at this
      rw [this, hb2]) (by
      rw [nw_mk hcl hc1]
      refine va_P.app (fun k q hq => ?_) hP1
      have hlt : k < w.length := by rw [← hwl]; exact (List.getElem?_eq_some_iff.mp hq).1
      have hq1 : (nw dA ad w ++ [(b, e0)])[k]? = some q := by rw [List.getElem?_append_left (by omega)]; exact hq
      exact (hP k q hq1).kept (hk q.1 (old k q hq).1 (old k q hq).2)) (by
      rw [nw_mk hcl hc1]
      refine va_D.app ⟨fun i j x y hx hy hxy => ?_, fun k q hq => ?_⟩ (hD1.weaken (fun k q _ h => hF q.1 h)) (fun i j x y hx hy hxy => ?_)
      · have hi : i < w.length := by rw [← hwl]; exact (List.getElem?_eq_some_iff.mp hx).1
        have hj : j < w.length := by rw [← hwl]; exact (List.getElem?_eq_some_iff.mp hy).1
        exact hD.1 i j x y (by rw [List.getElem?_append_left (by omega)]; exact hx) (by rw [List.getElem?_append_left (by omega)]; exact hy) hxy
      · have hi : k < w.length := by rw [← hwl]; exact (List.getElem?_eq_some_iff.mp hq).1
        exact hD.2 k q (by rw [List.getElem?_append_left (by omega)]; exact hq)
      · exact (old i x hx).2 (by rw [hxy]; exact hD1.2 j y hy)) ⟨Nat.le_trans hS.1 hz, fun q h1 h2 => by
      rw [hk q (Nat.lt_of_lt_of_le h1 hS.1) (fun z => h2 (hF q z))]; exact hS.2.1 q h1 h2, fun q hq => by
      rcases List.mem_append.mp hq with h | h
      · exact hS.2.2 q h
      · exact hF _ (hL q h)⟩ T' rfl X'
  exact ⟨t2, st t2 a1, b1⟩
end CORE


/-! ONE LAYER OVER THE MACHINE: cells by names (places of a list), a body's rules over one predicate B -/
def GW : List Cond := lw_tbl.filter goodWord
theorem gw_mem {w : Cond} (h : w ∈ lw_tbl) (hg : goodWord w = true) : w ∈ GW := List.mem_filter.mpr ⟨h, hg⟩
theorem gws (ws : List Cond) (ps : List Nat) (hp : ws = ps.filterMap (fun i => lw_tbl[i]?)) (h : ws.all goodWord = true) : ∀ w ∈ ws, w ∈ GW := by
  intro w hw
  have h1 := List.all_eq_true.mp h w hw
  rw [hp] at hw
  obtain ⟨i, -, hi⟩ := List.mem_filterMap.mp hw
  exact gw_mem (List.mem_of_getElem? hi) h1
def nestW : Cond → Bool
  | .fieldLinkNest .. => true
  | .methodLinkNest .. => true
  | _ => false
/-- the links between nest mates -/
def NW : List Cond := lw_tbl.filter nestW
theorem nw1 {w : Cond} (i : Nat) (h : lw_tbl[i]? = some w) (hg : nestW w = true) : w ∈ NW := List.mem_filter.mpr ⟨List.mem_of_getElem? h, hg⟩
def NK (U : State) : Prop := ∀ w ∈ NW, va_Nw w U
theorem NW_on {w : Cond} (h : w ∈ NW) : w.onTables = true := by
  have h := (List.mem_filter.mp h).2
  cases w <;> first | rfl | exact absurd h (by intro h; cases h)
theorem NK.warm {s U : State} (hW : s.WarmedH U.vm) (h : NK s) : NK U := by
  intro w hw
  have h1 := h w hw
  have h2 := (List.mem_filter.mp hw).2
  cases w <;> first | exact va_Nw.warmF hW h1 | exact va_Nw.warmM hW h1 | exact absurd h2 (by intro h; cases h)
theorem NK.same {u U : State} (h : u.vm = U.vm) (hN : NK u) : NK U := fun w hw => va_Nw.same (NW_on hw) h (hN w hw)
theorem NK.before {w : Cond} {A : Array Value} {U : State} (h : NK U) (hw : w ∈ NW) : w.before A U = true := va_Nw.use (NW_on hw) (h w hw)
theorem gw_good : GoodIn GW GW := fun w h => ⟨h, good_of_word (List.mem_filter.mp h).2⟩
theorem gok {cd : Cond} {l : List Cond} (hl : ∀ w ∈ l ++ [cd], w ∈ GW) : GoodIn GW (l ++ (cd :: GW)) := by
  intro w hw
  have h1 : w ∈ GW := by
    rcases List.mem_append.mp hw with h | h
    · exact hl w (List.mem_append_left _ h)
    · rcases List.mem_cons.mp h with h | h
      · exact hl w (List.mem_append_right _ (by rw [h]; exact List.mem_cons_self))
      · exact h
  exact gw_good w h1
/-- a value, a cell, a world of names, at addresses ad; dA: the classes of arrays -/
def nv (ad : Nat → Nat) : Value → Value
  | .ref k => .ref (ad k)
  | v => v
def ne (dA : Nat → Nat) (ad : Nat → Nat) : va_E → va_E
  | .inl (t, n, .inr (.inr (.inr (.inr f)))) => .inl (dA t, n, .inr (.inr (.inr (.inr (fun j => (f j).map ad)))))
  | .inl (t, x) => .inl (dA t, x)
  | .inr (c, fs) => .inr (c, fs.map (nv ad))
def nw (dA : Nat → Nat) (ad : Nat → Nat) (w : List va_E) : va_W := w.mapIdx (fun k e => (ad k, ne dA ad e))
theorem nw_get {dA ad : Nat → Nat} {w : List va_E} {k : Nat} {e : va_E} (h : w[k]? = some e) : (nw dA ad w)[k]? = some (ad k, ne dA ad e) := by
  rw [nw, List.getElem?_mapIdx, h]; rfl
theorem nw_inv {dA ad : Nat → Nat} {w : List va_E} {k : Nat} {q : Nat × va_E} (h : (nw dA ad w)[k]? = some q) : ∃ e, w[k]? = some e ∧ q = (ad k, ne dA ad e) := by
  rw [nw, List.getElem?_mapIdx] at h
  cases he : w[k]? with
  | none => rw [he] at h; cases h
  | some e => rw [he] at h; cases h; exact ⟨e, rfl, rfl⟩
theorem nw_set {dA ad : Nat → Nat} {w : List va_E} {k : Nat} {e : va_E} : (nw dA ad w).set k (ad k, ne dA ad e) = nw dA ad (w.set k e) := by
  apply List.ext_getElem?
  intro i
  by_cases hik : k = i
  · subst hik
    by_cases hl : k < w.length
    · rw [List.getElem?_set_self (by rw [nw, List.length_mapIdx]; exact hl), nw_get (List.getElem?_set_self hl)]
    · rw [List.getElem?_eq_none (by rw [List.length_set, nw, List.length_mapIdx]; omega), List.getElem?_eq_none (by rw [nw, List.length_mapIdx, List.length_set]; omega)]
  · rw [List.getElem?_set_ne hik, nw, nw, List.getElem?_mapIdx, List.getElem?_mapIdx, List.getElem?_set_ne hik]
theorem nv_cat (ad : Nat → Nat) (v : Value) : (nv ad v).category = v.category := by cases v <;> rfl
theorem nv_comp (f g : Nat → Nat) (v : Value) : nv f (nv g v) = nv (fun k => f (g k)) v := by cases v <;> rfl
theorem ne_comp (dA f g : Nat → Nat) (e : va_E) : ne dA f (ne (fun t => t) g e) = ne dA (fun k => f (g k)) e := by
  rcases e with ⟨t, n, x⟩ | ⟨c, fs⟩
  · rcases x with x | x | x | x | x
    · rfl
    · rfl
    · rfl
    · rfl
    · have h9 : (fun j => Option.map f (Option.map g (x j))) = (fun j => Option.map (fun k => f (g k)) (x j)) := by
        funext j
        cases x j <;> rfl
      show (Sum.inl (dA t, n, .inr (.inr (.inr (.inr (fun j => Option.map f (Option.map g (x j))))))) : va_E) = _
      rw [h9]
      rfl
  · simp only [ne, List.map_map]
    congr 3
    funext v
    exact nv_comp f g v
/-- names of a callee: its cells are the caller's ps, in their order; other names lie behind them -/
def ixo : List Nat → Nat → Nat
  | [], _ => 0
  | a :: t, k => bif Nat.beq a k then 0 else ixo t k + 1
def inn (ps : List Nat) (k : Nat) : Nat := bif Nat.blt (ixo ps k) ps.length then ixo ps k else ps.length + k
def out (ps : List Nat) (j : Nat) : Nat := match ps[j]? with
  | some k => k
  | none => j - ps.length
theorem ixo_get : ∀ (ps : List Nat) (k : Nat), ixo ps k < ps.length → ps[ixo ps k]? = some k
  | [], k, h => absurd h (Nat.not_lt_zero _)
  | a :: t, k, h => by
    unfold ixo at h ⊢
    cases hb : Nat.beq a k with
    | true => rw [Nat.eq_of_beq_eq_true hb]; rfl
    | false =>
      rw [hb] at h
      simp only [cond_false, List.length_cons] at h ⊢
      rw [List.getElem?_cons_succ]
      exact ixo_get t k (by omega)
theorem out_inn (ps : List Nat) (k : Nat) : out ps (inn ps k) = k := by
  unfold inn
  cases hb : Nat.blt (ixo ps k) ps.length with
  | true =>
    have h : ixo ps k < ps.length := by simpa [Nat.blt_eq] using hb
    simp only [cond_true]
    unfold out
    rw [ixo_get ps k h]
  | false =>
    simp only [cond_false]
    unfold out
    rw [List.getElem?_eq_none (by omega)]
    show ps.length + k - ps.length = k
    omega
theorem ixo_self : ∀ (ps : List Nat) (i k : Nat), va_nd ps = true → ps[i]? = some k → ixo ps k = i
  | [], i, k, _, h => by simp at h
  | a :: t, i, k, hn, h => by
    simp only [va_nd, Bool.and_eq_true, decide_eq_true_eq] at hn
    unfold ixo
    cases i with
    | zero => cases h; rw [show Nat.beq a a = true from Nat.beq_refl a]; rfl
    | succ i =>
      rw [List.getElem?_cons_succ] at h
      have hne : Nat.beq a k = false := by
        cases hb : Nat.beq a k with
        | false => rfl
        | true => exact absurd (by rw [Nat.eq_of_beq_eq_true hb]; exact List.mem_of_getElem? h) hn.1
      rw [hne]
      simp only [cond_false]
      rw [ixo_self t i k hn.2 h]
def mapN (f : Nat → va_E → va_E) : Nat → List va_E → List va_E
  | _, [] => []
  | i, e :: t => f i e :: mapN f (i + 1) t
theorem mapN_get (f : Nat → va_E → va_E) : ∀ (w : List va_E) (i k : Nat), (mapN f i w)[k]? = (w[k]?).map (f (i + k))
  | [], i, k => by simp [mapN]
  | e :: t, i, 0 => by simp [mapN]
  | e :: t, i, k + 1 => by
    rw [mapN, List.getElem?_cons_succ, List.getElem?_cons_succ, mapN_get f t (i + 1) k]
    congr 2
    omega
def putw (ps : List Nat) (w1 w : List va_E) : List va_E := mapN (fun k e => match w1[ixo ps k]? with
  | some e1 => ne (fun t => t) (out ps) e1
  | none => e) 0 w
theorem putw_get (ps : List Nat) (w1 w : List va_E) (k : Nat) : (putw ps w1 w)[k]? = (w[k]?).map (fun e => match w1[ixo ps k]? with
  | some e1 => ne (fun t => t) (out ps) e1
  | none => e) := by
  rw [putw, mapN_get, Nat.zero_add]
abbrev KT : Type := Nat → List (Nat × Value) → List Value → List va_E → Prop
def tysA (dA : Nat → Nat) : List (ClassId × FieldType) := [(dA 0, .int), (dA 1, .boolean), (dA 2, .int), (dA 3, .object "CrankTheatre$State")]
def KK (D : va_G) (dA : Nat → Nat) (U : State) : Prop := va_K D vwCl (tysA dA) U ∧ NK U
def BB (p : Program) (l : Launch) (e : Env) (R : Room) (s : State) (m : MethodId) (args : Array Value) (below : List Frame) (meth : Method) (c : Code) (Q : State → Prop) (nL : Nat) (D : va_G) (dA : Nat → Nat) (A : Nat → Prop) (cells slots : Nat) (ad : Nat → Nat) : KT := fun pc lv st w =>
  ∀ (H : Heap) (locs : List Loc) (ls : Array Slot), lv_has ls nL (lv.map (fun q => (q.1, nv ad q.2))) → va_P D vwCl (nw dA ad w) H → va_D A (nw dA ad w) → va_S A s.heap H locs → W p l e R s m args below meth c H locs cells slots Q (F0 m pc ls (st.map (nv ad)))
def Qr (D : va_G) (dA : Nat → Nat) (ad : Nat → Nat) (r : Option Value) (w1 : List va_E) (A : Nat → Prop) : Array Value → State → Outcome → State → Prop := fun _ st oc t => (oc = .returned (r.map (nv ad)) ∧ va_P D vwCl (nw dA ad w1) t.heap ∧ va_D A (nw dA ad w1)) ∧ va_F A st t
def rmk (f k : Nat) : Room := { frames := f, cells := 0, slots := 0, locals := k }
def wsy (y : MethodName) (cc : ByteArray) (nL : Nat) (ret : Option FieldType) : List Cond := Cond.code y cc nL ret :: GW
/-- a contract: from the world w0 and the arguments a0 (names), the method returns r, the world is w1 -/
def Con (y : MethodName) (cc : ByteArray) (nL : Nat) (ret : Option FieldType) (rm : Room) (a0 : List Value) (w0 : List va_E) (r : Option Value) (w1 : List va_E) : Prop :=
  w1.length = w0.length ∧ ∀ (l : Launch) (D : va_G) (dA : Nat → Nat) (ad : Nat → Nat) (sz : Nat), Met l y (wsy y cc nL ret) rm
    (va_Pc (a0.map (nv ad)) (fun U => U.heap.size = sz ∧ va_P D vwCl (nw dA ad w0) U.heap ∧ KK D dA U ∧ va_D (fun _ => True) (nw dA ad w0)))
    (Qr D dA ad r w1 (va_A (nw dA ad w0) sz)) 0 0 (va_A (nw dA ad w0) sz)
/-- what holds while a method's body is walked -/
def MF (own : String) (cc : ByteArray) (nL : Nat) (ret : Option FieldType) (rm : Room) (r : Option Value) (w1 : List va_E) (B : KT) : Prop :=
  ∃ (p : Program) (l : Launch) (e : Env) (s : State) (m : MethodId) (args : Array Value) (below : List Frame) (meth : Method) (c : Code) (D : va_G) (dA : Nat → Nat) (ad : Nat → Nat) (A : Nat → Prop),
    B = BB p l e rm s m args below meth c (MQ below (Qr D dA ad r w1 A) args s 0 0 A) nL D dA A 0 0 ad ∧ p.tables.exec = Jvm.exec ∧ c.code = cc ∧ c.maxLocals = nL ∧ meth.sig.returnType = ret ∧ (∀ w ∈ GW, w.before args s = true) ∧ s.vm.findClass own = some m.cls ∧ meth.locks = false ∧ KK D dA s ∧ ∀ q, s.heap.size ≤ q → A q
theorem sl_len (ad : Nat → Nat) : ∀ a0 : List Value, (lg_sl (a0.map (nv ad))).length = (lg_sl a0).length
  | [] => rfl
  | v :: t => by
    have ih := sl_len ad t
    simp only [lg_sl, List.map_cons, List.flatMap_cons, List.length_append, nv_cat] at ih ⊢
    rw [ih]
    congr 1
    split <;> rfl
set_option maxHeartbeats 4000000 in
theorem Con.of {y : MethodName} {own : String} {cc : ByteArray} {nL f k : Nat} {ret : Option FieldType} {a0 : List Value} {w0 : List va_E} {r : Option Value} {w1 : List va_E} (hy : plainName y.cls = true) (hown : y.cls = own) (hn : (lg_sl a0).length ≤ nL) (hlen : w1.length = w0.length)
    (h : ∀ B, MF own cc nL ret (rmk f k) r w1 B → B 0 (lv_args 0 a0) [] w0) : Con y cc nL ret (rmk f k) a0 w0 r w1 := by
  refine ⟨hlen, fun l D dA ad sz => ?_⟩
  refine Met.ofW (ws' := GW) (cc := cc) (maxL := nL) (ret := ret) hy rfl ?_
  intro p e s m args below meth c s₁ B hml hv
  obtain ⟨rfl, hsz, hP, hK, hD0⟩ := hv
  have hx := B.exec
  have hb := B.bytes
  have hr := B.returns
  have hts := atoms_spec (ws := wsy y cc nL ret) B.pre
  have hts : ∀ w ∈ GW, w.before _ s = true := fun w hw => hts w (List.mem_cons_of_mem _ hw)
  have hown' : s.vm.findClass own = some m.cls := by rw [← hown]; exact findClass_of_methodNamed B.named
  have hlocks := B.notSynchronized
  subst hsz
  have hD := hD0.self (sz := s.heap.size)
  have hA : ∀ q : Nat, s.heap.size ≤ q → va_A (nw dA ad w0) s.heap.size q := fun q h => Or.inr h
  have hl := lv_entry (a0.map (nv ad)) (n := nL) (by rw [sl_len]; exact hn)
  have hargs : ∀ (i : Nat) (vs : List Value), lv_args i (vs.map (nv ad)) = (lv_args i vs).map (fun q => (q.1, nv ad q.2)) := by
    intro i vs
    induction vs generalizing i with
    | nil => rfl
    | cons v t ih => simp only [List.map_cons, lv_args, nv_cat, ih]
  rw [hargs] at hl
  rw [lg_entry_eq]
  exact h _ ⟨p, l, e, s, m, _, below, meth, c, D, dA, ad, _, rfl, hx, hb, hml, hr, hts, hown', hlocks, hK, hA⟩ s.heap [] _ hl hP hD va_S.rf

/-! BODIES IN GENERAL (any end, cells that are made), throwing and catching -/
abbrev XT : Type := Program → Launch → Env → State → MethodId → Array Value → List Frame → Method → Code → va_G → (Nat → Nat) → (Nat → Nat) → (Nat → Prop) → (State → Prop) → Prop
def MG (own : String) (cc : ByteArray) (nL : Nat) (ret : Option FieldType) (rm : Room) (k9 n9 : Nat) (X : XT) (B : KT) : Prop :=
  ∃ (p : Program) (l : Launch) (e : Env) (s : State) (m : MethodId) (args : Array Value) (below : List Frame) (meth : Method) (c : Code) (D : va_G) (dA : Nat → Nat) (ad : Nat → Nat) (A : Nat → Prop) (Q : State → Prop),
    B = BB p l e rm s m args below meth c Q nL D dA A k9 n9 ad ∧ p.tables.exec = Jvm.exec ∧ c.code = cc ∧ c.maxLocals = nL ∧ meth.sig.returnType = ret ∧ (∀ w ∈ GW, w.before args s = true) ∧ s.vm.findClass own = some m.cls ∧ meth.locks = false ∧ KK D dA s ∧ (k9 ≤ rm.cells ∧ n9 ≤ rm.slots) ∧ (∀ q, s.heap.size ≤ q → A q) ∧ X p l e s m args below meth c D dA ad A Q
theorem args_map (ad : Nat → Nat) : ∀ (i : Nat) (vs : List Value), lv_args i (vs.map (nv ad)) = (lv_args i vs).map (fun q => (q.1, nv ad q.2))
  | _, [] => rfl
  | i, v :: t => by simp only [List.map_cons, lv_args, nv_cat, args_map ad _ t]

theorem g_lvs {own : String} {cc : ByteArray} {nL : Nat} {ret : Option FieldType} {rm : Room} {k9 n9 : Nat} {X : XT} {B : KT} (M : MG own cc nL ret rm k9 n9 X B) {pc : Nat} {lv : List (Nat × Value)} {st : List Value} {w : List va_E} (lv' : List (Nat × Value)) (h : lvs lv lv') (k : B pc lv' st w) : B pc lv st w := by
  obtain ⟨p, l, e, s, m, args, below, meth, c, D, dA, ad, A, Q, rfl, hx, hb, hml, hr, hts, hown, hlocks, ⟨hK, hN⟩, hkn, hA, hX⟩ := M
  intro H locs ls hl hP hD hS
  refine k H locs ls ⟨hl.1, hl.2.1, fun q hq => ?_⟩ hP hD hS
  obtain ⟨q0, h0, rfl⟩ := List.mem_map.mp hq
  exact lv_ld hl (lvs_all h q0 h0)

theorem g_iconst {own : String} {cc : ByteArray} {nL : Nat} {ret : Option FieldType} {rm : Room} {k9 n9 : Nat} {X : XT} {B : KT} (M : MG own cc nL ret rm k9 n9 X B) {pc : Nat} {lv : List (Nat × Value)} {st : List Value} {w : List va_E} {n : Int} (v : Int32) (hd : decode cc pc = .ok (.iconst n, 1)) (hv : Int32.ofInt n = v) (k : B (pc + 1) lv (.int v :: st) w) : B pc lv st w := by
  obtain ⟨p, l, e, s, m, args, below, meth, c, D, dA, ad, A, Q, rfl, hx, hb, hml, hr, hts, hown, hlocks, ⟨hK, hN⟩, hkn, hA, hX⟩ := M
  intro H locs ls hl hP hD hS
  exact lv_iconst hx hb hd hv (k H locs ls hl hP hD hS)
theorem g_bipush {own : String} {cc : ByteArray} {nL : Nat} {ret : Option FieldType} {rm : Room} {k9 n9 : Nat} {X : XT} {B : KT} (M : MG own cc nL ret rm k9 n9 X B) {pc : Nat} {lv : List (Nat × Value)} {st : List Value} {w : List va_E} {n : Int} (v : Int32) (hd : decode cc pc = .ok (.bipush n, 2)) (hv : (Int8.ofInt n).toInt32 = v) (k : B (pc + 2) lv (.int v :: st) w) : B pc lv st w := by
  obtain ⟨p, l, e, s, m, args, below, meth, c, D, dA, ad, A, Q, rfl, hx, hb, hml, hr, hts, hown, hlocks, ⟨hK, hN⟩, hkn, hA, hX⟩ := M
  intro H locs ls hl hP hD hS
  exact lv_bipush hx hb hd hv (k H locs ls hl hP hD hS)
theorem g_sipush {own : String} {cc : ByteArray} {nL : Nat} {ret : Option FieldType} {rm : Room} {k9 n9 : Nat} {X : XT} {B : KT} (M : MG own cc nL ret rm k9 n9 X B) {pc : Nat} {lv : List (Nat × Value)} {st : List Value} {w : List va_E} {n : Int} (v : Int32) (hd : decode cc pc = .ok (.sipush n, 3)) (hv : (Int16.ofInt n).toInt32 = v) (k : B (pc + 3) lv (.int v :: st) w) : B pc lv st w := by
  obtain ⟨p, l, e, s, m, args, below, meth, c, D, dA, ad, A, Q, rfl, hx, hb, hml, hr, hts, hown, hlocks, ⟨hK, hN⟩, hkn, hA, hX⟩ := M
  intro H locs ls hl hP hD hS
  exact lv_sipush hx hb hd hv (k H locs ls hl hP hD hS)
theorem g_lconst {own : String} {cc : ByteArray} {nL : Nat} {ret : Option FieldType} {rm : Room} {k9 n9 : Nat} {X : XT} {B : KT} (M : MG own cc nL ret rm k9 n9 X B) {pc : Nat} {lv : List (Nat × Value)} {st : List Value} {w : List va_E} {n : Fin 2} (v : Int64) (hd : decode cc pc = .ok (.lconst n, 1)) (hv : Int64.ofNat (n : Nat) = v) (k : B (pc + 1) lv (.long v :: st) w) : B pc lv st w := by
  obtain ⟨p, l, e, s, m, args, below, meth, c, D, dA, ad, A, Q, rfl, hx, hb, hml, hr, hts, hown, hlocks, ⟨hK, hN⟩, hkn, hA, hX⟩ := M
  intro H locs ls hl hP hD hS
  exact lv_lconst hx hb hd hv (k H locs ls hl hP hD hS)
theorem g_fconst0 {own : String} {cc : ByteArray} {nL : Nat} {ret : Option FieldType} {rm : Room} {k9 n9 : Nat} {X : XT} {B : KT} (M : MG own cc nL ret rm k9 n9 X B) {pc : Nat} {lv : List (Nat × Value)} {st : List Value} {w : List va_E} (hd : decode cc pc = .ok (.fconst 0, 1)) (k : B (pc + 1) lv (.float FP.fconst0 :: st) w) : B pc lv st w := by
  obtain ⟨p, l, e, s, m, args, below, meth, c, D, dA, ad, A, Q, rfl, hx, hb, hml, hr, hts, hown, hlocks, ⟨hK, hN⟩, hkn, hA, hX⟩ := M
  intro H locs ls hl hP hD hS
  exact lv_fconst0 hx hb hd (k H locs ls hl hP hD hS)
theorem g_fconst1 {own : String} {cc : ByteArray} {nL : Nat} {ret : Option FieldType} {rm : Room} {k9 n9 : Nat} {X : XT} {B : KT} (M : MG own cc nL ret rm k9 n9 X B) {pc : Nat} {lv : List (Nat × Value)} {st : List Value} {w : List va_E} (hd : decode cc pc = .ok (.fconst 1, 1)) (k : B (pc + 1) lv (.float FP.fconst1 :: st) w) : B pc lv st w := by
  obtain ⟨p, l, e, s, m, args, below, meth, c, D, dA, ad, A, Q, rfl, hx, hb, hml, hr, hts, hown, hlocks, ⟨hK, hN⟩, hkn, hA, hX⟩ := M
  intro H locs ls hl hP hD hS
  exact lv_fconst1 hx hb hd (k H locs ls hl hP hD hS)
theorem g_fconst2 {own : String} {cc : ByteArray} {nL : Nat} {ret : Option FieldType} {rm : Room} {k9 n9 : Nat} {X : XT} {B : KT} (M : MG own cc nL ret rm k9 n9 X B) {pc : Nat} {lv : List (Nat × Value)} {st : List Value} {w : List va_E} (hd : decode cc pc = .ok (.fconst 2, 1)) (k : B (pc + 1) lv (.float FP.fconst2 :: st) w) : B pc lv st w := by
  obtain ⟨p, l, e, s, m, args, below, meth, c, D, dA, ad, A, Q, rfl, hx, hb, hml, hr, hts, hown, hlocks, ⟨hK, hN⟩, hkn, hA, hX⟩ := M
  intro H locs ls hl hP hD hS
  exact lv_fconst2 hx hb hd (k H locs ls hl hP hD hS)
theorem g_dconst0 {own : String} {cc : ByteArray} {nL : Nat} {ret : Option FieldType} {rm : Room} {k9 n9 : Nat} {X : XT} {B : KT} (M : MG own cc nL ret rm k9 n9 X B) {pc : Nat} {lv : List (Nat × Value)} {st : List Value} {w : List va_E} (hd : decode cc pc = .ok (.dconst 0, 1)) (k : B (pc + 1) lv (.double FP.dconst0 :: st) w) : B pc lv st w := by
  obtain ⟨p, l, e, s, m, args, below, meth, c, D, dA, ad, A, Q, rfl, hx, hb, hml, hr, hts, hown, hlocks, ⟨hK, hN⟩, hkn, hA, hX⟩ := M
  intro H locs ls hl hP hD hS
  exact lv_dconst0 hx hb hd (k H locs ls hl hP hD hS)
theorem g_dconst1 {own : String} {cc : ByteArray} {nL : Nat} {ret : Option FieldType} {rm : Room} {k9 n9 : Nat} {X : XT} {B : KT} (M : MG own cc nL ret rm k9 n9 X B) {pc : Nat} {lv : List (Nat × Value)} {st : List Value} {w : List va_E} (hd : decode cc pc = .ok (.dconst 1, 1)) (k : B (pc + 1) lv (.double FP.dconst1 :: st) w) : B pc lv st w := by
  obtain ⟨p, l, e, s, m, args, below, meth, c, D, dA, ad, A, Q, rfl, hx, hb, hml, hr, hts, hown, hlocks, ⟨hK, hN⟩, hkn, hA, hX⟩ := M
  intro H locs ls hl hP hD hS
  exact lv_dconst1 hx hb hd (k H locs ls hl hP hD hS)
theorem g_ldc {own : String} {cc : ByteArray} {nL : Nat} {ret : Option FieldType} {rm : Room} {k9 n9 : Nat} {X : XT} {B : KT} (M : MG own cc nL ret rm k9 n9 X B) {pc : Nat} {lv : List (Nat × Value)} {st : List Value} {w : List va_E} {ix : Nat} {v : Int32} (hc : Jvm.Cond.constant own ix v ∈ GW) (hd : decode cc pc = .ok (.ldc ix, 2)) (k : B (pc + 2) lv (.int v :: st) w) : B pc lv st w := by
  obtain ⟨p, l, e, s, m, args, below, meth, c, D, dA, ad, A, Q, rfl, hx, hb, hml, hr, hts, hown, hlocks, ⟨hK, hN⟩, hkn, hA, hX⟩ := M
  intro H locs ls hl hP hD hS
  exact lv_ldc hx hb hown (hts _ hc) hd (k H locs ls hl hP hD hS)
theorem g_ldcw {own : String} {cc : ByteArray} {nL : Nat} {ret : Option FieldType} {rm : Room} {k9 n9 : Nat} {X : XT} {B : KT} (M : MG own cc nL ret rm k9 n9 X B) {pc : Nat} {lv : List (Nat × Value)} {st : List Value} {w : List va_E} {ix : Nat} {v : Int32} (hc : Jvm.Cond.constant own ix v ∈ GW) (hd : decode cc pc = .ok (.ldc_w ix, 3)) (k : B (pc + 3) lv (.int v :: st) w) : B pc lv st w := by
  obtain ⟨p, l, e, s, m, args, below, meth, c, D, dA, ad, A, Q, rfl, hx, hb, hml, hr, hts, hown, hlocks, ⟨hK, hN⟩, hkn, hA, hX⟩ := M
  intro H locs ls hl hP hD hS
  exact lv_ldcw hx hb hown (hts _ hc) hd (k H locs ls hl hP hD hS)
theorem g_ldcf {own : String} {cc : ByteArray} {nL : Nat} {ret : Option FieldType} {rm : Room} {k9 n9 : Nat} {X : XT} {B : KT} (M : MG own cc nL ret rm k9 n9 X B) {pc : Nat} {lv : List (Nat × Value)} {st : List Value} {w : List va_E} {ix : Nat} {v : UInt32} (hc : Jvm.Cond.constantFloat own ix v ∈ GW) (hd : decode cc pc = .ok (.ldc ix, 2)) (k : B (pc + 2) lv (.float v :: st) w) : B pc lv st w := by
  obtain ⟨p, l, e, s, m, args, below, meth, c, D, dA, ad, A, Q, rfl, hx, hb, hml, hr, hts, hown, hlocks, ⟨hK, hN⟩, hkn, hA, hX⟩ := M
  intro H locs ls hl hP hD hS
  exact lv_ldcf hx hb hown (hts _ hc) hd (k H locs ls hl hP hD hS)
theorem g_ldc2 {own : String} {cc : ByteArray} {nL : Nat} {ret : Option FieldType} {rm : Room} {k9 n9 : Nat} {X : XT} {B : KT} (M : MG own cc nL ret rm k9 n9 X B) {pc : Nat} {lv : List (Nat × Value)} {st : List Value} {w : List va_E} {ix : Nat} {v : Int64} (hc : Jvm.Cond.constantLong own ix v ∈ GW) (hd : decode cc pc = .ok (.ldc2_w ix, 3)) (k : B (pc + 3) lv (.long v :: st) w) : B pc lv st w := by
  obtain ⟨p, l, e, s, m, args, below, meth, c, D, dA, ad, A, Q, rfl, hx, hb, hml, hr, hts, hown, hlocks, ⟨hK, hN⟩, hkn, hA, hX⟩ := M
  intro H locs ls hl hP hD hS
  exact lv_ldc2 hx hb hown (hts _ hc) hd (k H locs ls hl hP hD hS)
theorem g_ldc2d {own : String} {cc : ByteArray} {nL : Nat} {ret : Option FieldType} {rm : Room} {k9 n9 : Nat} {X : XT} {B : KT} (M : MG own cc nL ret rm k9 n9 X B) {pc : Nat} {lv : List (Nat × Value)} {st : List Value} {w : List va_E} {ix : Nat} {v : UInt64} (hc : Jvm.Cond.constantDouble own ix v ∈ GW) (hd : decode cc pc = .ok (.ldc2_w ix, 3)) (k : B (pc + 3) lv (.double v :: st) w) : B pc lv st w := by
  obtain ⟨p, l, e, s, m, args, below, meth, c, D, dA, ad, A, Q, rfl, hx, hb, hml, hr, hts, hown, hlocks, ⟨hK, hN⟩, hkn, hA, hX⟩ := M
  intro H locs ls hl hP hD hS
  exact lv_ldc2d hx hb hown (hts _ hc) hd (k H locs ls hl hP hD hS)
theorem g_iload_n {own : String} {cc : ByteArray} {nL : Nat} {ret : Option FieldType} {rm : Room} {k9 n9 : Nat} {X : XT} {B : KT} (M : MG own cc nL ret rm k9 n9 X B) {pc : Nat} {lv : List (Nat × Value)} {st : List Value} {w : List va_E} {k : Fin 4} {x : Int32} (hd : decode cc pc = .ok (.iload_n k, 1)) (hv : lgf lv k.val = some (.int x)) (kk : B (pc + 1) lv (.int x :: st) w) : B pc lv st w := by
  obtain ⟨p, l, e, s, m, args, below, meth, c, D, dA, ad, A, Q, rfl, hx, hb, hml, hr, hts, hown, hlocks, ⟨hK, hN⟩, hkn, hA, hX⟩ := M
  intro H locs ls hl hP hD hS
  exact lv_iload_n hx hb hd rfl (lv_ld hl hv) (kk H locs ls hl hP hD hS)
theorem g_iload {own : String} {cc : ByteArray} {nL : Nat} {ret : Option FieldType} {rm : Room} {k9 n9 : Nat} {X : XT} {B : KT} (M : MG own cc nL ret rm k9 n9 X B) {pc : Nat} {lv : List (Nat × Value)} {st : List Value} {w : List va_E} {k : Nat} {x : Int32} (hd : decode cc pc = .ok (.iload k, 2)) (hv : lgf lv k = some (.int x)) (kk : B (pc + 2) lv (.int x :: st) w) : B pc lv st w := by
  obtain ⟨p, l, e, s, m, args, below, meth, c, D, dA, ad, A, Q, rfl, hx, hb, hml, hr, hts, hown, hlocks, ⟨hK, hN⟩, hkn, hA, hX⟩ := M
  intro H locs ls hl hP hD hS
  exact lv_iload hx hb hd (lv_ld hl hv) (kk H locs ls hl hP hD hS)
theorem g_istore_n {own : String} {cc : ByteArray} {nL : Nat} {ret : Option FieldType} {rm : Room} {k9 n9 : Nat} {X : XT} {B : KT} (M : MG own cc nL ret rm k9 n9 X B) {pc : Nat} {lv : List (Nat × Value)} {st : List Value} {w : List va_E} {k : Fin 4} {x : Int32} (hd : decode cc pc = .ok (.istore_n k, 1)) (hn : k.val < nL) (kk : B (pc + 1) (lst1 k.val (.int x) lv) st w) : B pc lv (.int x :: st) w := by
  obtain ⟨p, l, e, s, m, args, below, meth, c, D, dA, ad, A, Q, rfl, hx, hb, hml, hr, hts, hown, hlocks, ⟨hK, hN⟩, hkn, hA, hX⟩ := M
  intro H locs ls hl hP hD hS
  exact lv_istore_n hx hb hd rfl hl hn (lst1_map ad k.val (.int x) lv) (fun ls9 hl9 => kk H locs ls9 hl9 hP hD hS)
theorem g_istore {own : String} {cc : ByteArray} {nL : Nat} {ret : Option FieldType} {rm : Room} {k9 n9 : Nat} {X : XT} {B : KT} (M : MG own cc nL ret rm k9 n9 X B) {pc : Nat} {lv : List (Nat × Value)} {st : List Value} {w : List va_E} {k : Nat} {x : Int32} (hd : decode cc pc = .ok (.istore k, 2)) (hn : k < nL) (kk : B (pc + 2) (lst1 k (.int x) lv) st w) : B pc lv (.int x :: st) w := by
  obtain ⟨p, l, e, s, m, args, below, meth, c, D, dA, ad, A, Q, rfl, hx, hb, hml, hr, hts, hown, hlocks, ⟨hK, hN⟩, hkn, hA, hX⟩ := M
  intro H locs ls hl hP hD hS
  exact lv_istore hx hb hd hl hn (lst1_map ad k (.int x) lv) (fun ls9 hl9 => kk H locs ls9 hl9 hP hD hS)
theorem g_lload_n {own : String} {cc : ByteArray} {nL : Nat} {ret : Option FieldType} {rm : Room} {k9 n9 : Nat} {X : XT} {B : KT} (M : MG own cc nL ret rm k9 n9 X B) {pc : Nat} {lv : List (Nat × Value)} {st : List Value} {w : List va_E} {k : Fin 4} {x : Int64} (hd : decode cc pc = .ok (.lload_n k, 1)) (hv : lgf lv k.val = some (.long x)) (kk : B (pc + 1) lv (.long x :: st) w) : B pc lv st w := by
  obtain ⟨p, l, e, s, m, args, below, meth, c, D, dA, ad, A, Q, rfl, hx, hb, hml, hr, hts, hown, hlocks, ⟨hK, hN⟩, hkn, hA, hX⟩ := M
  intro H locs ls hl hP hD hS
  exact lv_lload_n hx hb hd rfl (lv_ld hl hv) (kk H locs ls hl hP hD hS)
theorem g_lload {own : String} {cc : ByteArray} {nL : Nat} {ret : Option FieldType} {rm : Room} {k9 n9 : Nat} {X : XT} {B : KT} (M : MG own cc nL ret rm k9 n9 X B) {pc : Nat} {lv : List (Nat × Value)} {st : List Value} {w : List va_E} {k : Nat} {x : Int64} (hd : decode cc pc = .ok (.lload k, 2)) (hv : lgf lv k = some (.long x)) (kk : B (pc + 2) lv (.long x :: st) w) : B pc lv st w := by
  obtain ⟨p, l, e, s, m, args, below, meth, c, D, dA, ad, A, Q, rfl, hx, hb, hml, hr, hts, hown, hlocks, ⟨hK, hN⟩, hkn, hA, hX⟩ := M
  intro H locs ls hl hP hD hS
  exact lv_lload hx hb hd (lv_ld hl hv) (kk H locs ls hl hP hD hS)
theorem g_lstore_n {own : String} {cc : ByteArray} {nL : Nat} {ret : Option FieldType} {rm : Room} {k9 n9 : Nat} {X : XT} {B : KT} (M : MG own cc nL ret rm k9 n9 X B) {pc : Nat} {lv : List (Nat × Value)} {st : List Value} {w : List va_E} {k : Fin 4} {x : Int64} (hd : decode cc pc = .ok (.lstore_n k, 1)) (hn : k.val + 1 < nL) (kk : B (pc + 1) (lst2 k.val (.long x) lv) st w) : B pc lv (.long x :: st) w := by
  obtain ⟨p, l, e, s, m, args, below, meth, c, D, dA, ad, A, Q, rfl, hx, hb, hml, hr, hts, hown, hlocks, ⟨hK, hN⟩, hkn, hA, hX⟩ := M
  intro H locs ls hl hP hD hS
  exact lv_lstore_n hx hb hd rfl hl hn (lst2_map ad k.val (.long x) lv) (fun ls9 hl9 => kk H locs ls9 hl9 hP hD hS)
theorem g_lstore {own : String} {cc : ByteArray} {nL : Nat} {ret : Option FieldType} {rm : Room} {k9 n9 : Nat} {X : XT} {B : KT} (M : MG own cc nL ret rm k9 n9 X B) {pc : Nat} {lv : List (Nat × Value)} {st : List Value} {w : List va_E} {k : Nat} {x : Int64} (hd : decode cc pc = .ok (.lstore k, 2)) (hn : k + 1 < nL) (kk : B (pc + 2) (lst2 k (.long x) lv) st w) : B pc lv (.long x :: st) w := by
  obtain ⟨p, l, e, s, m, args, below, meth, c, D, dA, ad, A, Q, rfl, hx, hb, hml, hr, hts, hown, hlocks, ⟨hK, hN⟩, hkn, hA, hX⟩ := M
  intro H locs ls hl hP hD hS
  exact lv_lstore hx hb hd hl hn (lst2_map ad k (.long x) lv) (fun ls9 hl9 => kk H locs ls9 hl9 hP hD hS)
theorem g_fload_n {own : String} {cc : ByteArray} {nL : Nat} {ret : Option FieldType} {rm : Room} {k9 n9 : Nat} {X : XT} {B : KT} (M : MG own cc nL ret rm k9 n9 X B) {pc : Nat} {lv : List (Nat × Value)} {st : List Value} {w : List va_E} {k : Fin 4} {x : UInt32} (hd : decode cc pc = .ok (.fload_n k, 1)) (hv : lgf lv k.val = some (.float x)) (kk : B (pc + 1) lv (.float x :: st) w) : B pc lv st w := by
  obtain ⟨p, l, e, s, m, args, below, meth, c, D, dA, ad, A, Q, rfl, hx, hb, hml, hr, hts, hown, hlocks, ⟨hK, hN⟩, hkn, hA, hX⟩ := M
  intro H locs ls hl hP hD hS
  exact lv_fload_n hx hb hd rfl (lv_ld hl hv) (kk H locs ls hl hP hD hS)
theorem g_fload {own : String} {cc : ByteArray} {nL : Nat} {ret : Option FieldType} {rm : Room} {k9 n9 : Nat} {X : XT} {B : KT} (M : MG own cc nL ret rm k9 n9 X B) {pc : Nat} {lv : List (Nat × Value)} {st : List Value} {w : List va_E} {k : Nat} {x : UInt32} (hd : decode cc pc = .ok (.fload k, 2)) (hv : lgf lv k = some (.float x)) (kk : B (pc + 2) lv (.float x :: st) w) : B pc lv st w := by
  obtain ⟨p, l, e, s, m, args, below, meth, c, D, dA, ad, A, Q, rfl, hx, hb, hml, hr, hts, hown, hlocks, ⟨hK, hN⟩, hkn, hA, hX⟩ := M
  intro H locs ls hl hP hD hS
  exact lv_fload hx hb hd (lv_ld hl hv) (kk H locs ls hl hP hD hS)
theorem g_fstore_n {own : String} {cc : ByteArray} {nL : Nat} {ret : Option FieldType} {rm : Room} {k9 n9 : Nat} {X : XT} {B : KT} (M : MG own cc nL ret rm k9 n9 X B) {pc : Nat} {lv : List (Nat × Value)} {st : List Value} {w : List va_E} {k : Fin 4} {x : UInt32} (hd : decode cc pc = .ok (.fstore_n k, 1)) (hn : k.val < nL) (kk : B (pc + 1) (lst1 k.val (.float x) lv) st w) : B pc lv (.float x :: st) w := by
  obtain ⟨p, l, e, s, m, args, below, meth, c, D, dA, ad, A, Q, rfl, hx, hb, hml, hr, hts, hown, hlocks, ⟨hK, hN⟩, hkn, hA, hX⟩ := M
  intro H locs ls hl hP hD hS
  exact lv_fstore_n hx hb hd rfl hl hn (lst1_map ad k.val (.float x) lv) (fun ls9 hl9 => kk H locs ls9 hl9 hP hD hS)
theorem g_fstore {own : String} {cc : ByteArray} {nL : Nat} {ret : Option FieldType} {rm : Room} {k9 n9 : Nat} {X : XT} {B : KT} (M : MG own cc nL ret rm k9 n9 X B) {pc : Nat} {lv : List (Nat × Value)} {st : List Value} {w : List va_E} {k : Nat} {x : UInt32} (hd : decode cc pc = .ok (.fstore k, 2)) (hn : k < nL) (kk : B (pc + 2) (lst1 k (.float x) lv) st w) : B pc lv (.float x :: st) w := by
  obtain ⟨p, l, e, s, m, args, below, meth, c, D, dA, ad, A, Q, rfl, hx, hb, hml, hr, hts, hown, hlocks, ⟨hK, hN⟩, hkn, hA, hX⟩ := M
  intro H locs ls hl hP hD hS
  exact lv_fstore hx hb hd hl hn (lst1_map ad k (.float x) lv) (fun ls9 hl9 => kk H locs ls9 hl9 hP hD hS)
theorem g_dload_n {own : String} {cc : ByteArray} {nL : Nat} {ret : Option FieldType} {rm : Room} {k9 n9 : Nat} {X : XT} {B : KT} (M : MG own cc nL ret rm k9 n9 X B) {pc : Nat} {lv : List (Nat × Value)} {st : List Value} {w : List va_E} {k : Fin 4} {x : UInt64} (hd : decode cc pc = .ok (.dload_n k, 1)) (hv : lgf lv k.val = some (.double x)) (kk : B (pc + 1) lv (.double x :: st) w) : B pc lv st w := by
  obtain ⟨p, l, e, s, m, args, below, meth, c, D, dA, ad, A, Q, rfl, hx, hb, hml, hr, hts, hown, hlocks, ⟨hK, hN⟩, hkn, hA, hX⟩ := M
  intro H locs ls hl hP hD hS
  exact lv_dload_n hx hb hd rfl (lv_ld hl hv) (kk H locs ls hl hP hD hS)
theorem g_dload {own : String} {cc : ByteArray} {nL : Nat} {ret : Option FieldType} {rm : Room} {k9 n9 : Nat} {X : XT} {B : KT} (M : MG own cc nL ret rm k9 n9 X B) {pc : Nat} {lv : List (Nat × Value)} {st : List Value} {w : List va_E} {k : Nat} {x : UInt64} (hd : decode cc pc = .ok (.dload k, 2)) (hv : lgf lv k = some (.double x)) (kk : B (pc + 2) lv (.double x :: st) w) : B pc lv st w := by
  obtain ⟨p, l, e, s, m, args, below, meth, c, D, dA, ad, A, Q, rfl, hx, hb, hml, hr, hts, hown, hlocks, ⟨hK, hN⟩, hkn, hA, hX⟩ := M
  intro H locs ls hl hP hD hS
  exact lv_dload hx hb hd (lv_ld hl hv) (kk H locs ls hl hP hD hS)
theorem g_dstore_n {own : String} {cc : ByteArray} {nL : Nat} {ret : Option FieldType} {rm : Room} {k9 n9 : Nat} {X : XT} {B : KT} (M : MG own cc nL ret rm k9 n9 X B) {pc : Nat} {lv : List (Nat × Value)} {st : List Value} {w : List va_E} {k : Fin 4} {x : UInt64} (hd : decode cc pc = .ok (.dstore_n k, 1)) (hn : k.val + 1 < nL) (kk : B (pc + 1) (lst2 k.val (.double x) lv) st w) : B pc lv (.double x :: st) w := by
  obtain ⟨p, l, e, s, m, args, below, meth, c, D, dA, ad, A, Q, rfl, hx, hb, hml, hr, hts, hown, hlocks, ⟨hK, hN⟩, hkn, hA, hX⟩ := M
  intro H locs ls hl hP hD hS
  exact lv_dstore_n hx hb hd rfl hl hn (lst2_map ad k.val (.double x) lv) (fun ls9 hl9 => kk H locs ls9 hl9 hP hD hS)
theorem g_dstore {own : String} {cc : ByteArray} {nL : Nat} {ret : Option FieldType} {rm : Room} {k9 n9 : Nat} {X : XT} {B : KT} (M : MG own cc nL ret rm k9 n9 X B) {pc : Nat} {lv : List (Nat × Value)} {st : List Value} {w : List va_E} {k : Nat} {x : UInt64} (hd : decode cc pc = .ok (.dstore k, 2)) (hn : k + 1 < nL) (kk : B (pc + 2) (lst2 k (.double x) lv) st w) : B pc lv (.double x :: st) w := by
  obtain ⟨p, l, e, s, m, args, below, meth, c, D, dA, ad, A, Q, rfl, hx, hb, hml, hr, hts, hown, hlocks, ⟨hK, hN⟩, hkn, hA, hX⟩ := M
  intro H locs ls hl hP hD hS
  exact lv_dstore hx hb hd hl hn (lst2_map ad k (.double x) lv) (fun ls9 hl9 => kk H locs ls9 hl9 hP hD hS)
theorem g_aload_n {own : String} {cc : ByteArray} {nL : Nat} {ret : Option FieldType} {rm : Room} {k9 n9 : Nat} {X : XT} {B : KT} (M : MG own cc nL ret rm k9 n9 X B) {pc : Nat} {lv : List (Nat × Value)} {st : List Value} {w : List va_E} {k : Fin 4} {x : Nat} (hd : decode cc pc = .ok (.aload_n k, 1)) (hv : lgf lv k.val = some (.ref x)) (kk : B (pc + 1) lv (.ref x :: st) w) : B pc lv st w := by
  obtain ⟨p, l, e, s, m, args, below, meth, c, D, dA, ad, A, Q, rfl, hx, hb, hml, hr, hts, hown, hlocks, ⟨hK, hN⟩, hkn, hA, hX⟩ := M
  intro H locs ls hl hP hD hS
  exact lv_aload_n hx hb hd rfl (lv_ld hl hv) (kk H locs ls hl hP hD hS)
theorem g_aload {own : String} {cc : ByteArray} {nL : Nat} {ret : Option FieldType} {rm : Room} {k9 n9 : Nat} {X : XT} {B : KT} (M : MG own cc nL ret rm k9 n9 X B) {pc : Nat} {lv : List (Nat × Value)} {st : List Value} {w : List va_E} {k : Nat} {x : Nat} (hd : decode cc pc = .ok (.aload k, 2)) (hv : lgf lv k = some (.ref x)) (kk : B (pc + 2) lv (.ref x :: st) w) : B pc lv st w := by
  obtain ⟨p, l, e, s, m, args, below, meth, c, D, dA, ad, A, Q, rfl, hx, hb, hml, hr, hts, hown, hlocks, ⟨hK, hN⟩, hkn, hA, hX⟩ := M
  intro H locs ls hl hP hD hS
  exact lv_aload hx hb hd (lv_ld hl hv) (kk H locs ls hl hP hD hS)
theorem g_astore_n {own : String} {cc : ByteArray} {nL : Nat} {ret : Option FieldType} {rm : Room} {k9 n9 : Nat} {X : XT} {B : KT} (M : MG own cc nL ret rm k9 n9 X B) {pc : Nat} {lv : List (Nat × Value)} {st : List Value} {w : List va_E} {k : Fin 4} {x : Nat} (hd : decode cc pc = .ok (.astore_n k, 1)) (hn : k.val < nL) (kk : B (pc + 1) (lst1 k.val (.ref x) lv) st w) : B pc lv (.ref x :: st) w := by
  obtain ⟨p, l, e, s, m, args, below, meth, c, D, dA, ad, A, Q, rfl, hx, hb, hml, hr, hts, hown, hlocks, ⟨hK, hN⟩, hkn, hA, hX⟩ := M
  intro H locs ls hl hP hD hS
  exact lv_astore_n hx hb hd rfl hl hn (lst1_map ad k.val (.ref x) lv) (fun ls9 hl9 => kk H locs ls9 hl9 hP hD hS)
theorem g_astore {own : String} {cc : ByteArray} {nL : Nat} {ret : Option FieldType} {rm : Room} {k9 n9 : Nat} {X : XT} {B : KT} (M : MG own cc nL ret rm k9 n9 X B) {pc : Nat} {lv : List (Nat × Value)} {st : List Value} {w : List va_E} {k : Nat} {x : Nat} (hd : decode cc pc = .ok (.astore k, 2)) (hn : k < nL) (kk : B (pc + 2) (lst1 k (.ref x) lv) st w) : B pc lv (.ref x :: st) w := by
  obtain ⟨p, l, e, s, m, args, below, meth, c, D, dA, ad, A, Q, rfl, hx, hb, hml, hr, hts, hown, hlocks, ⟨hK, hN⟩, hkn, hA, hX⟩ := M
  intro H locs ls hl hP hD hS
  exact lv_astore hx hb hd hl hn (lst1_map ad k (.ref x) lv) (fun ls9 hl9 => kk H locs ls9 hl9 hP hD hS)
theorem g_iinc {own : String} {cc : ByteArray} {nL : Nat} {ret : Option FieldType} {rm : Room} {k9 n9 : Nat} {X : XT} {B : KT} (M : MG own cc nL ret rm k9 n9 X B) {pc : Nat} {lv : List (Nat × Value)} {st : List Value} {w : List va_E} {i : Nat} {n : Int} {x : Int32} (v : Int32) (hd : decode cc pc = .ok (.iinc i n, 3)) (hv : lgf lv i = some (.int x)) (hn : i < nL) (he : x + Int32.ofInt n = v) (kk : B (pc + 3) (lst1 i (.int v) lv) st w) : B pc lv st w := by
  obtain ⟨p, l, e, s, m, args, below, meth, c, D, dA, ad, A, Q, rfl, hx, hb, hml, hr, hts, hown, hlocks, ⟨hK, hN⟩, hkn, hA, hX⟩ := M
  intro H locs ls hl hP hD hS
  obtain ⟨k9, hk9⟩ := lgf_ge (ad := ad) hv
  exact lv_iinc hx hb hd hl hk9 he hn (lst1_map ad i (.int v) lv) (fun ls9 hl9 => kk H locs ls9 hl9 hP hD hS)
theorem g_iadd {own : String} {cc : ByteArray} {nL : Nat} {ret : Option FieldType} {rm : Room} {k9 n9 : Nat} {X : XT} {B : KT} (M : MG own cc nL ret rm k9 n9 X B) {pc : Nat} {lv : List (Nat × Value)} {st : List Value} {w : List va_E} {x y : Int32} (hd : decode cc pc = .ok (.iadd, 1)) (k : B (pc + 1) lv (.int (x + y) :: st) w) : B pc lv (.int y :: .int x :: st) w := by
  obtain ⟨p, l, e, s, m, args, below, meth, c, D, dA, ad, A, Q, rfl, hx, hb, hml, hr, hts, hown, hlocks, ⟨hK, hN⟩, hkn, hA, hX⟩ := M
  intro H locs ls hl hP hD hS
  exact lv_iadd hx hb hd (k H locs ls hl hP hD hS)
theorem g_isub {own : String} {cc : ByteArray} {nL : Nat} {ret : Option FieldType} {rm : Room} {k9 n9 : Nat} {X : XT} {B : KT} (M : MG own cc nL ret rm k9 n9 X B) {pc : Nat} {lv : List (Nat × Value)} {st : List Value} {w : List va_E} {x y : Int32} (hd : decode cc pc = .ok (.isub, 1)) (k : B (pc + 1) lv (.int (x - y) :: st) w) : B pc lv (.int y :: .int x :: st) w := by
  obtain ⟨p, l, e, s, m, args, below, meth, c, D, dA, ad, A, Q, rfl, hx, hb, hml, hr, hts, hown, hlocks, ⟨hK, hN⟩, hkn, hA, hX⟩ := M
  intro H locs ls hl hP hD hS
  exact lv_isub hx hb hd (k H locs ls hl hP hD hS)
theorem g_imul {own : String} {cc : ByteArray} {nL : Nat} {ret : Option FieldType} {rm : Room} {k9 n9 : Nat} {X : XT} {B : KT} (M : MG own cc nL ret rm k9 n9 X B) {pc : Nat} {lv : List (Nat × Value)} {st : List Value} {w : List va_E} {x y : Int32} (hd : decode cc pc = .ok (.imul, 1)) (k : B (pc + 1) lv (.int (x * y) :: st) w) : B pc lv (.int y :: .int x :: st) w := by
  obtain ⟨p, l, e, s, m, args, below, meth, c, D, dA, ad, A, Q, rfl, hx, hb, hml, hr, hts, hown, hlocks, ⟨hK, hN⟩, hkn, hA, hX⟩ := M
  intro H locs ls hl hP hD hS
  exact lv_imul hx hb hd (k H locs ls hl hP hD hS)
theorem g_iand {own : String} {cc : ByteArray} {nL : Nat} {ret : Option FieldType} {rm : Room} {k9 n9 : Nat} {X : XT} {B : KT} (M : MG own cc nL ret rm k9 n9 X B) {pc : Nat} {lv : List (Nat × Value)} {st : List Value} {w : List va_E} {x y : Int32} (hd : decode cc pc = .ok (.iand, 1)) (k : B (pc + 1) lv (.int (x &&& y) :: st) w) : B pc lv (.int y :: .int x :: st) w := by
  obtain ⟨p, l, e, s, m, args, below, meth, c, D, dA, ad, A, Q, rfl, hx, hb, hml, hr, hts, hown, hlocks, ⟨hK, hN⟩, hkn, hA, hX⟩ := M
  intro H locs ls hl hP hD hS
  exact lv_iand hx hb hd (k H locs ls hl hP hD hS)
theorem g_irem {own : String} {cc : ByteArray} {nL : Nat} {ret : Option FieldType} {rm : Room} {k9 n9 : Nat} {X : XT} {B : KT} (M : MG own cc nL ret rm k9 n9 X B) {pc : Nat} {lv : List (Nat × Value)} {st : List Value} {w : List va_E} {x y : Int32} (hd : decode cc pc = .ok (.irem, 1)) (hne : ¬ y = 0) (k : B (pc + 1) lv (.int (x - x / y * y) :: st) w) : B pc lv (.int y :: .int x :: st) w := by
  obtain ⟨p, l, e, s, m, args, below, meth, c, D, dA, ad, A, Q, rfl, hx, hb, hml, hr, hts, hown, hlocks, ⟨hK, hN⟩, hkn, hA, hX⟩ := M
  intro H locs ls hl hP hD hS
  exact lv_irem hx hb hd hne (k H locs ls hl hP hD hS)
theorem g_ineg {own : String} {cc : ByteArray} {nL : Nat} {ret : Option FieldType} {rm : Room} {k9 n9 : Nat} {X : XT} {B : KT} (M : MG own cc nL ret rm k9 n9 X B) {pc : Nat} {lv : List (Nat × Value)} {st : List Value} {w : List va_E} {x : Int32} (hd : decode cc pc = .ok (.ineg, 1)) (k : B (pc + 1) lv (.int (-x) :: st) w) : B pc lv (.int x :: st) w := by
  obtain ⟨p, l, e, s, m, args, below, meth, c, D, dA, ad, A, Q, rfl, hx, hb, hml, hr, hts, hown, hlocks, ⟨hK, hN⟩, hkn, hA, hX⟩ := M
  intro H locs ls hl hP hD hS
  exact lv_ineg hx hb hd (k H locs ls hl hP hD hS)
theorem g_ladd {own : String} {cc : ByteArray} {nL : Nat} {ret : Option FieldType} {rm : Room} {k9 n9 : Nat} {X : XT} {B : KT} (M : MG own cc nL ret rm k9 n9 X B) {pc : Nat} {lv : List (Nat × Value)} {st : List Value} {w : List va_E} {x y : Int64} (hd : decode cc pc = .ok (.ladd, 1)) (k : B (pc + 1) lv (.long (x + y) :: st) w) : B pc lv (.long y :: .long x :: st) w := by
  obtain ⟨p, l, e, s, m, args, below, meth, c, D, dA, ad, A, Q, rfl, hx, hb, hml, hr, hts, hown, hlocks, ⟨hK, hN⟩, hkn, hA, hX⟩ := M
  intro H locs ls hl hP hD hS
  exact lv_ladd hx hb hd (k H locs ls hl hP hD hS)
theorem g_lsub {own : String} {cc : ByteArray} {nL : Nat} {ret : Option FieldType} {rm : Room} {k9 n9 : Nat} {X : XT} {B : KT} (M : MG own cc nL ret rm k9 n9 X B) {pc : Nat} {lv : List (Nat × Value)} {st : List Value} {w : List va_E} {x y : Int64} (hd : decode cc pc = .ok (.lsub, 1)) (k : B (pc + 1) lv (.long (x - y) :: st) w) : B pc lv (.long y :: .long x :: st) w := by
  obtain ⟨p, l, e, s, m, args, below, meth, c, D, dA, ad, A, Q, rfl, hx, hb, hml, hr, hts, hown, hlocks, ⟨hK, hN⟩, hkn, hA, hX⟩ := M
  intro H locs ls hl hP hD hS
  exact lv_lsub hx hb hd (k H locs ls hl hP hD hS)
theorem g_lmul {own : String} {cc : ByteArray} {nL : Nat} {ret : Option FieldType} {rm : Room} {k9 n9 : Nat} {X : XT} {B : KT} (M : MG own cc nL ret rm k9 n9 X B) {pc : Nat} {lv : List (Nat × Value)} {st : List Value} {w : List va_E} {x y : Int64} (hd : decode cc pc = .ok (.lmul, 1)) (k : B (pc + 1) lv (.long (x * y) :: st) w) : B pc lv (.long y :: .long x :: st) w := by
  obtain ⟨p, l, e, s, m, args, below, meth, c, D, dA, ad, A, Q, rfl, hx, hb, hml, hr, hts, hown, hlocks, ⟨hK, hN⟩, hkn, hA, hX⟩ := M
  intro H locs ls hl hP hD hS
  exact lv_lmul hx hb hd (k H locs ls hl hP hD hS)
theorem g_lshl {own : String} {cc : ByteArray} {nL : Nat} {ret : Option FieldType} {rm : Room} {k9 n9 : Nat} {X : XT} {B : KT} (M : MG own cc nL ret rm k9 n9 X B) {pc : Nat} {lv : List (Nat × Value)} {st : List Value} {w : List va_E} {x : Int64} {y : Int32} (hd : decode cc pc = .ok (.lshl, 1)) (k : B (pc + 1) lv (.long (x <<< (y.toInt64 &&& 63)) :: st) w) : B pc lv (.int y :: .long x :: st) w := by
  obtain ⟨p, l, e, s, m, args, below, meth, c, D, dA, ad, A, Q, rfl, hx, hb, hml, hr, hts, hown, hlocks, ⟨hK, hN⟩, hkn, hA, hX⟩ := M
  intro H locs ls hl hP hD hS
  exact lv_lshl hx hb hd rfl (k H locs ls hl hP hD hS)
theorem g_i2l {own : String} {cc : ByteArray} {nL : Nat} {ret : Option FieldType} {rm : Room} {k9 n9 : Nat} {X : XT} {B : KT} (M : MG own cc nL ret rm k9 n9 X B) {pc : Nat} {lv : List (Nat × Value)} {st : List Value} {w : List va_E} {x : Int32} (hd : decode cc pc = .ok (.i2l, 1)) (k : B (pc + 1) lv (.long x.toInt64 :: st) w) : B pc lv (.int x :: st) w := by
  obtain ⟨p, l, e, s, m, args, below, meth, c, D, dA, ad, A, Q, rfl, hx, hb, hml, hr, hts, hown, hlocks, ⟨hK, hN⟩, hkn, hA, hX⟩ := M
  intro H locs ls hl hP hD hS
  exact lv_i2l hx hb hd rfl (k H locs ls hl hP hD hS)
theorem g_i2f {own : String} {cc : ByteArray} {nL : Nat} {ret : Option FieldType} {rm : Room} {k9 n9 : Nat} {X : XT} {B : KT} (M : MG own cc nL ret rm k9 n9 X B) {pc : Nat} {lv : List (Nat × Value)} {st : List Value} {w : List va_E} {x : Int32} (hd : decode cc pc = .ok (.i2f, 1)) (k : B (pc + 1) lv (.float (FP.i2f x) :: st) w) : B pc lv (.int x :: st) w := by
  obtain ⟨p, l, e, s, m, args, below, meth, c, D, dA, ad, A, Q, rfl, hx, hb, hml, hr, hts, hown, hlocks, ⟨hK, hN⟩, hkn, hA, hX⟩ := M
  intro H locs ls hl hP hD hS
  exact lv_i2f hx hb hd (k H locs ls hl hP hD hS)
theorem g_f2i {own : String} {cc : ByteArray} {nL : Nat} {ret : Option FieldType} {rm : Room} {k9 n9 : Nat} {X : XT} {B : KT} (M : MG own cc nL ret rm k9 n9 X B) {pc : Nat} {lv : List (Nat × Value)} {st : List Value} {w : List va_E} {x : UInt32} (hd : decode cc pc = .ok (.f2i, 1)) (k : B (pc + 1) lv (.int (FP.f2i x) :: st) w) : B pc lv (.float x :: st) w := by
  obtain ⟨p, l, e, s, m, args, below, meth, c, D, dA, ad, A, Q, rfl, hx, hb, hml, hr, hts, hown, hlocks, ⟨hK, hN⟩, hkn, hA, hX⟩ := M
  intro H locs ls hl hP hD hS
  exact lv_f2i hx hb hd (k H locs ls hl hP hD hS)
theorem g_i2d {own : String} {cc : ByteArray} {nL : Nat} {ret : Option FieldType} {rm : Room} {k9 n9 : Nat} {X : XT} {B : KT} (M : MG own cc nL ret rm k9 n9 X B) {pc : Nat} {lv : List (Nat × Value)} {st : List Value} {w : List va_E} {x : Int32} (hd : decode cc pc = .ok (.i2d, 1)) (k : B (pc + 1) lv (.double (FP.i2d x) :: st) w) : B pc lv (.int x :: st) w := by
  obtain ⟨p, l, e, s, m, args, below, meth, c, D, dA, ad, A, Q, rfl, hx, hb, hml, hr, hts, hown, hlocks, ⟨hK, hN⟩, hkn, hA, hX⟩ := M
  intro H locs ls hl hP hD hS
  exact lv_i2d hx hb hd (k H locs ls hl hP hD hS)
theorem g_l2d {own : String} {cc : ByteArray} {nL : Nat} {ret : Option FieldType} {rm : Room} {k9 n9 : Nat} {X : XT} {B : KT} (M : MG own cc nL ret rm k9 n9 X B) {pc : Nat} {lv : List (Nat × Value)} {st : List Value} {w : List va_E} {x : Int64} (hd : decode cc pc = .ok (.l2d, 1)) (k : B (pc + 1) lv (.double (FP.l2d x) :: st) w) : B pc lv (.long x :: st) w := by
  obtain ⟨p, l, e, s, m, args, below, meth, c, D, dA, ad, A, Q, rfl, hx, hb, hml, hr, hts, hown, hlocks, ⟨hK, hN⟩, hkn, hA, hX⟩ := M
  intro H locs ls hl hP hD hS
  exact lv_l2d hx hb hd (k H locs ls hl hP hD hS)
theorem g_d2l {own : String} {cc : ByteArray} {nL : Nat} {ret : Option FieldType} {rm : Room} {k9 n9 : Nat} {X : XT} {B : KT} (M : MG own cc nL ret rm k9 n9 X B) {pc : Nat} {lv : List (Nat × Value)} {st : List Value} {w : List va_E} {x : UInt64} (hd : decode cc pc = .ok (.d2l, 1)) (k : B (pc + 1) lv (.long (FP.d2l x) :: st) w) : B pc lv (.double x :: st) w := by
  obtain ⟨p, l, e, s, m, args, below, meth, c, D, dA, ad, A, Q, rfl, hx, hb, hml, hr, hts, hown, hlocks, ⟨hK, hN⟩, hkn, hA, hX⟩ := M
  intro H locs ls hl hP hD hS
  exact lv_d2l hx hb hd (k H locs ls hl hP hD hS)
theorem g_f2d {own : String} {cc : ByteArray} {nL : Nat} {ret : Option FieldType} {rm : Room} {k9 n9 : Nat} {X : XT} {B : KT} (M : MG own cc nL ret rm k9 n9 X B) {pc : Nat} {lv : List (Nat × Value)} {st : List Value} {w : List va_E} {x : UInt32} (hd : decode cc pc = .ok (.f2d, 1)) (hne : vf_n64 (FP.f2d x)) (k : B (pc + 1) lv (.double (FP.f2d x) :: st) w) : B pc lv (.float x :: st) w := by
  obtain ⟨p, l, e, s, m, args, below, meth, c, D, dA, ad, A, Q, rfl, hx, hb, hml, hr, hts, hown, hlocks, ⟨hK, hN⟩, hkn, hA, hX⟩ := M
  intro H locs ls hl hP hD hS
  exact lv_f2d hx hb hd hne (k H locs ls hl hP hD hS)
theorem g_fsub {own : String} {cc : ByteArray} {nL : Nat} {ret : Option FieldType} {rm : Room} {k9 n9 : Nat} {X : XT} {B : KT} (M : MG own cc nL ret rm k9 n9 X B) {pc : Nat} {lv : List (Nat × Value)} {st : List Value} {w : List va_E} {x y : UInt32} (hd : decode cc pc = .ok (.fsub, 1)) (hne : vf_n32 (FP.fsub x y)) (k : B (pc + 1) lv (.float (FP.fsub x y) :: st) w) : B pc lv (.float y :: .float x :: st) w := by
  obtain ⟨p, l, e, s, m, args, below, meth, c, D, dA, ad, A, Q, rfl, hx, hb, hml, hr, hts, hown, hlocks, ⟨hK, hN⟩, hkn, hA, hX⟩ := M
  intro H locs ls hl hP hD hS
  exact lv_fsub hx hb hd hne (k H locs ls hl hP hD hS)
theorem g_fdiv {own : String} {cc : ByteArray} {nL : Nat} {ret : Option FieldType} {rm : Room} {k9 n9 : Nat} {X : XT} {B : KT} (M : MG own cc nL ret rm k9 n9 X B) {pc : Nat} {lv : List (Nat × Value)} {st : List Value} {w : List va_E} {x y : UInt32} (hd : decode cc pc = .ok (.fdiv, 1)) (hne : vf_n32 (FP.fdiv x y)) (k : B (pc + 1) lv (.float (FP.fdiv x y) :: st) w) : B pc lv (.float y :: .float x :: st) w := by
  obtain ⟨p, l, e, s, m, args, below, meth, c, D, dA, ad, A, Q, rfl, hx, hb, hml, hr, hts, hown, hlocks, ⟨hK, hN⟩, hkn, hA, hX⟩ := M
  intro H locs ls hl hP hD hS
  exact lv_fdiv hx hb hd hne (k H locs ls hl hP hD hS)
theorem g_fmul {own : String} {cc : ByteArray} {nL : Nat} {ret : Option FieldType} {rm : Room} {k9 n9 : Nat} {X : XT} {B : KT} (M : MG own cc nL ret rm k9 n9 X B) {pc : Nat} {lv : List (Nat × Value)} {st : List Value} {w : List va_E} {x y : UInt32} (hd : decode cc pc = .ok (.fmul, 1)) (hne : vf_n32 (FP.fmul x y)) (k : B (pc + 1) lv (.float (FP.fmul x y) :: st) w) : B pc lv (.float y :: .float x :: st) w := by
  obtain ⟨p, l, e, s, m, args, below, meth, c, D, dA, ad, A, Q, rfl, hx, hb, hml, hr, hts, hown, hlocks, ⟨hK, hN⟩, hkn, hA, hX⟩ := M
  intro H locs ls hl hP hD hS
  exact lv_fmul hx hb hd hne (k H locs ls hl hP hD hS)
theorem g_dsub {own : String} {cc : ByteArray} {nL : Nat} {ret : Option FieldType} {rm : Room} {k9 n9 : Nat} {X : XT} {B : KT} (M : MG own cc nL ret rm k9 n9 X B) {pc : Nat} {lv : List (Nat × Value)} {st : List Value} {w : List va_E} {x y : UInt64} (hd : decode cc pc = .ok (.dsub, 1)) (hne : vf_n64 (FP.dsub x y)) (k : B (pc + 1) lv (.double (FP.dsub x y) :: st) w) : B pc lv (.double y :: .double x :: st) w := by
  obtain ⟨p, l, e, s, m, args, below, meth, c, D, dA, ad, A, Q, rfl, hx, hb, hml, hr, hts, hown, hlocks, ⟨hK, hN⟩, hkn, hA, hX⟩ := M
  intro H locs ls hl hP hD hS
  exact lv_dsub hx hb hd hne (k H locs ls hl hP hD hS)
theorem g_ddiv {own : String} {cc : ByteArray} {nL : Nat} {ret : Option FieldType} {rm : Room} {k9 n9 : Nat} {X : XT} {B : KT} (M : MG own cc nL ret rm k9 n9 X B) {pc : Nat} {lv : List (Nat × Value)} {st : List Value} {w : List va_E} {x y : UInt64} (hd : decode cc pc = .ok (.ddiv, 1)) (hne : vf_n64 (FP.ddiv x y)) (k : B (pc + 1) lv (.double (FP.ddiv x y) :: st) w) : B pc lv (.double y :: .double x :: st) w := by
  obtain ⟨p, l, e, s, m, args, below, meth, c, D, dA, ad, A, Q, rfl, hx, hb, hml, hr, hts, hown, hlocks, ⟨hK, hN⟩, hkn, hA, hX⟩ := M
  intro H locs ls hl hP hD hS
  exact lv_ddiv hx hb hd hne (k H locs ls hl hP hD hS)
theorem g_dmul {own : String} {cc : ByteArray} {nL : Nat} {ret : Option FieldType} {rm : Room} {k9 n9 : Nat} {X : XT} {B : KT} (M : MG own cc nL ret rm k9 n9 X B) {pc : Nat} {lv : List (Nat × Value)} {st : List Value} {w : List va_E} {x y : UInt64} (hd : decode cc pc = .ok (.dmul, 1)) (hne : vf_n64 (FP.dmul x y)) (k : B (pc + 1) lv (.double (FP.dmul x y) :: st) w) : B pc lv (.double y :: .double x :: st) w := by
  obtain ⟨p, l, e, s, m, args, below, meth, c, D, dA, ad, A, Q, rfl, hx, hb, hml, hr, hts, hown, hlocks, ⟨hK, hN⟩, hkn, hA, hX⟩ := M
  intro H locs ls hl hP hD hS
  exact lv_dmul hx hb hd hne (k H locs ls hl hP hD hS)
theorem g_fcmp {own : String} {cc : ByteArray} {nL : Nat} {ret : Option FieldType} {rm : Room} {k9 n9 : Nat} {X : XT} {B : KT} (M : MG own cc nL ret rm k9 n9 X B) {pc : Nat} {lv : List (Nat × Value)} {st : List Value} {w : List va_E} {x y : UInt32} {op : CmpOp} (hd : decode cc pc = .ok (.fcmp op, 1)) (k : B (pc + 1) lv (.int (Op.cmpValue (FP.fcmp x y) op) :: st) w) : B pc lv (.float y :: .float x :: st) w := by
  obtain ⟨p, l, e, s, m, args, below, meth, c, D, dA, ad, A, Q, rfl, hx, hb, hml, hr, hts, hown, hlocks, ⟨hK, hN⟩, hkn, hA, hX⟩ := M
  intro H locs ls hl hP hD hS
  exact lv_fcmp hx hb hd (k H locs ls hl hP hD hS)
theorem g_dcmp {own : String} {cc : ByteArray} {nL : Nat} {ret : Option FieldType} {rm : Room} {k9 n9 : Nat} {X : XT} {B : KT} (M : MG own cc nL ret rm k9 n9 X B) {pc : Nat} {lv : List (Nat × Value)} {st : List Value} {w : List va_E} {x y : UInt64} {op : CmpOp} (hd : decode cc pc = .ok (.dcmp op, 1)) (k : B (pc + 1) lv (.int (Op.cmpValue (FP.dcmp x y) op) :: st) w) : B pc lv (.double y :: .double x :: st) w := by
  obtain ⟨p, l, e, s, m, args, below, meth, c, D, dA, ad, A, Q, rfl, hx, hb, hml, hr, hts, hown, hlocks, ⟨hK, hN⟩, hkn, hA, hX⟩ := M
  intro H locs ls hl hP hD hS
  exact lv_dcmp hx hb hd (k H locs ls hl hP hD hS)
theorem g_dup {own : String} {cc : ByteArray} {nL : Nat} {ret : Option FieldType} {rm : Room} {k9 n9 : Nat} {X : XT} {B : KT} (M : MG own cc nL ret rm k9 n9 X B) {pc : Nat} {lv : List (Nat × Value)} {st : List Value} {w : List va_E} {v : Value} (hd : decode cc pc = .ok (.dup, 1)) (hc : v.category = 1) (k : B (pc + 1) lv (v :: v :: st) w) : B pc lv (v :: st) w := by
  obtain ⟨p, l, e, s, m, args, below, meth, c, D, dA, ad, A, Q, rfl, hx, hb, hml, hr, hts, hown, hlocks, ⟨hK, hN⟩, hkn, hA, hX⟩ := M
  intro H locs ls hl hP hD hS
  exact lv_dup hx hb hd (by rw [nv_cat]; exact hc) (k H locs ls hl hP hD hS)
theorem g_pop {own : String} {cc : ByteArray} {nL : Nat} {ret : Option FieldType} {rm : Room} {k9 n9 : Nat} {X : XT} {B : KT} (M : MG own cc nL ret rm k9 n9 X B) {pc : Nat} {lv : List (Nat × Value)} {st : List Value} {w : List va_E} {v : Value} (hd : decode cc pc = .ok (.pop, 1)) (hc : v.category = 1) (k : B (pc + 1) lv st w) : B pc lv (v :: st) w := by
  obtain ⟨p, l, e, s, m, args, below, meth, c, D, dA, ad, A, Q, rfl, hx, hb, hml, hr, hts, hown, hlocks, ⟨hK, hN⟩, hkn, hA, hX⟩ := M
  intro H locs ls hl hP hD hS
  exact lv_pop hx hb hd (by rw [nv_cat]; exact hc) (k H locs ls hl hP hD hS)
theorem g_dup2 {own : String} {cc : ByteArray} {nL : Nat} {ret : Option FieldType} {rm : Room} {k9 n9 : Nat} {X : XT} {B : KT} (M : MG own cc nL ret rm k9 n9 X B) {pc : Nat} {lv : List (Nat × Value)} {st : List Value} {w : List va_E} {v u : Value} (hd : decode cc pc = .ok (.dup2, 1)) (hc : v.category = 1) (hc2 : u.category = 1) (k : B (pc + 1) lv (v :: u :: v :: u :: st) w) : B pc lv (v :: u :: st) w := by
  obtain ⟨p, l, e, s, m, args, below, meth, c, D, dA, ad, A, Q, rfl, hx, hb, hml, hr, hts, hown, hlocks, ⟨hK, hN⟩, hkn, hA, hX⟩ := M
  intro H locs ls hl hP hD hS
  exact lv_dup2_11 hx hb hd (by rw [nv_cat]; exact hc) (by rw [nv_cat]; exact hc2) (k H locs ls hl hP hD hS)
theorem g_if_eq {own : String} {cc : ByteArray} {nL : Nat} {ret : Option FieldType} {rm : Room} {k9 n9 : Nat} {X : XT} {B : KT} (M : MG own cc nL ret rm k9 n9 X B) {pc : Nat} {lv : List (Nat × Value)} {st : List Value} {w : List va_E} {x : Int32} {off : Int} (tgt : Nat) (hd : decode cc pc = .ok (.ifCond .eq off, 3)) (ht : (pc : Int) + off = (tgt : Int)) (kt : x = 0 → B tgt lv st w) (kf : ¬ x = 0 → B (pc + 3) lv st w) : B pc lv (.int x :: st) w := by
  obtain ⟨p, l, e, s, m, args, below, meth, c, D, dA, ad, A, Q, rfl, hx, hb, hml, hr, hts, hown, hlocks, ⟨hK, hN⟩, hkn, hA, hX⟩ := M
  intro H locs ls hl hP hD hS
  exact lv_if_eq hx hb hd ht (fun h => kt h H locs ls hl hP hD hS) (fun h => kf h H locs ls hl hP hD hS)
theorem g_icmp_eq {own : String} {cc : ByteArray} {nL : Nat} {ret : Option FieldType} {rm : Room} {k9 n9 : Nat} {X : XT} {B : KT} (M : MG own cc nL ret rm k9 n9 X B) {pc : Nat} {lv : List (Nat × Value)} {st : List Value} {w : List va_E} {x y : Int32} {off : Int} (tgt : Nat) (hd : decode cc pc = .ok (.if_icmp .eq off, 3)) (ht : (pc : Int) + off = (tgt : Int)) (kt : x = y → B tgt lv st w) (kf : ¬ x = y → B (pc + 3) lv st w) : B pc lv (.int y :: .int x :: st) w := by
  obtain ⟨p, l, e, s, m, args, below, meth, c, D, dA, ad, A, Q, rfl, hx, hb, hml, hr, hts, hown, hlocks, ⟨hK, hN⟩, hkn, hA, hX⟩ := M
  intro H locs ls hl hP hD hS
  exact lv_icmp_eq hx hb hd ht (fun h => kt h H locs ls hl hP hD hS) (fun h => kf h H locs ls hl hP hD hS)
theorem g_if_ne {own : String} {cc : ByteArray} {nL : Nat} {ret : Option FieldType} {rm : Room} {k9 n9 : Nat} {X : XT} {B : KT} (M : MG own cc nL ret rm k9 n9 X B) {pc : Nat} {lv : List (Nat × Value)} {st : List Value} {w : List va_E} {x : Int32} {off : Int} (tgt : Nat) (hd : decode cc pc = .ok (.ifCond .ne off, 3)) (ht : (pc : Int) + off = (tgt : Int)) (kt : ¬ x = 0 → B tgt lv st w) (kf : x = 0 → B (pc + 3) lv st w) : B pc lv (.int x :: st) w := by
  obtain ⟨p, l, e, s, m, args, below, meth, c, D, dA, ad, A, Q, rfl, hx, hb, hml, hr, hts, hown, hlocks, ⟨hK, hN⟩, hkn, hA, hX⟩ := M
  intro H locs ls hl hP hD hS
  exact lv_if_ne hx hb hd ht (fun h => kt h H locs ls hl hP hD hS) (fun h => kf h H locs ls hl hP hD hS)
theorem g_icmp_ne {own : String} {cc : ByteArray} {nL : Nat} {ret : Option FieldType} {rm : Room} {k9 n9 : Nat} {X : XT} {B : KT} (M : MG own cc nL ret rm k9 n9 X B) {pc : Nat} {lv : List (Nat × Value)} {st : List Value} {w : List va_E} {x y : Int32} {off : Int} (tgt : Nat) (hd : decode cc pc = .ok (.if_icmp .ne off, 3)) (ht : (pc : Int) + off = (tgt : Int)) (kt : ¬ x = y → B tgt lv st w) (kf : x = y → B (pc + 3) lv st w) : B pc lv (.int y :: .int x :: st) w := by
  obtain ⟨p, l, e, s, m, args, below, meth, c, D, dA, ad, A, Q, rfl, hx, hb, hml, hr, hts, hown, hlocks, ⟨hK, hN⟩, hkn, hA, hX⟩ := M
  intro H locs ls hl hP hD hS
  exact lv_icmp_ne hx hb hd ht (fun h => kt h H locs ls hl hP hD hS) (fun h => kf h H locs ls hl hP hD hS)
theorem g_if_lt {own : String} {cc : ByteArray} {nL : Nat} {ret : Option FieldType} {rm : Room} {k9 n9 : Nat} {X : XT} {B : KT} (M : MG own cc nL ret rm k9 n9 X B) {pc : Nat} {lv : List (Nat × Value)} {st : List Value} {w : List va_E} {x : Int32} {off : Int} (tgt : Nat) (hd : decode cc pc = .ok (.ifCond .lt off, 3)) (ht : (pc : Int) + off = (tgt : Int)) (kt : x < 0 → B tgt lv st w) (kf : ¬ x < 0 → B (pc + 3) lv st w) : B pc lv (.int x :: st) w := by
  obtain ⟨p, l, e, s, m, args, below, meth, c, D, dA, ad, A, Q, rfl, hx, hb, hml, hr, hts, hown, hlocks, ⟨hK, hN⟩, hkn, hA, hX⟩ := M
  intro H locs ls hl hP hD hS
  exact lv_if_lt hx hb hd ht (fun h => kt h H locs ls hl hP hD hS) (fun h => kf h H locs ls hl hP hD hS)
theorem g_icmp_lt {own : String} {cc : ByteArray} {nL : Nat} {ret : Option FieldType} {rm : Room} {k9 n9 : Nat} {X : XT} {B : KT} (M : MG own cc nL ret rm k9 n9 X B) {pc : Nat} {lv : List (Nat × Value)} {st : List Value} {w : List va_E} {x y : Int32} {off : Int} (tgt : Nat) (hd : decode cc pc = .ok (.if_icmp .lt off, 3)) (ht : (pc : Int) + off = (tgt : Int)) (kt : x < y → B tgt lv st w) (kf : ¬ x < y → B (pc + 3) lv st w) : B pc lv (.int y :: .int x :: st) w := by
  obtain ⟨p, l, e, s, m, args, below, meth, c, D, dA, ad, A, Q, rfl, hx, hb, hml, hr, hts, hown, hlocks, ⟨hK, hN⟩, hkn, hA, hX⟩ := M
  intro H locs ls hl hP hD hS
  exact lv_icmp_lt hx hb hd ht (fun h => kt h H locs ls hl hP hD hS) (fun h => kf h H locs ls hl hP hD hS)
theorem g_if_ge {own : String} {cc : ByteArray} {nL : Nat} {ret : Option FieldType} {rm : Room} {k9 n9 : Nat} {X : XT} {B : KT} (M : MG own cc nL ret rm k9 n9 X B) {pc : Nat} {lv : List (Nat × Value)} {st : List Value} {w : List va_E} {x : Int32} {off : Int} (tgt : Nat) (hd : decode cc pc = .ok (.ifCond .ge off, 3)) (ht : (pc : Int) + off = (tgt : Int)) (kt : 0 ≤ x → B tgt lv st w) (kf : ¬ 0 ≤ x → B (pc + 3) lv st w) : B pc lv (.int x :: st) w := by
  obtain ⟨p, l, e, s, m, args, below, meth, c, D, dA, ad, A, Q, rfl, hx, hb, hml, hr, hts, hown, hlocks, ⟨hK, hN⟩, hkn, hA, hX⟩ := M
  intro H locs ls hl hP hD hS
  exact lv_if_ge hx hb hd ht (fun h => kt h H locs ls hl hP hD hS) (fun h => kf h H locs ls hl hP hD hS)
theorem g_icmp_ge {own : String} {cc : ByteArray} {nL : Nat} {ret : Option FieldType} {rm : Room} {k9 n9 : Nat} {X : XT} {B : KT} (M : MG own cc nL ret rm k9 n9 X B) {pc : Nat} {lv : List (Nat × Value)} {st : List Value} {w : List va_E} {x y : Int32} {off : Int} (tgt : Nat) (hd : decode cc pc = .ok (.if_icmp .ge off, 3)) (ht : (pc : Int) + off = (tgt : Int)) (kt : y ≤ x → B tgt lv st w) (kf : ¬ y ≤ x → B (pc + 3) lv st w) : B pc lv (.int y :: .int x :: st) w := by
  obtain ⟨p, l, e, s, m, args, below, meth, c, D, dA, ad, A, Q, rfl, hx, hb, hml, hr, hts, hown, hlocks, ⟨hK, hN⟩, hkn, hA, hX⟩ := M
  intro H locs ls hl hP hD hS
  exact lv_icmp_ge hx hb hd ht (fun h => kt h H locs ls hl hP hD hS) (fun h => kf h H locs ls hl hP hD hS)
theorem g_if_gt {own : String} {cc : ByteArray} {nL : Nat} {ret : Option FieldType} {rm : Room} {k9 n9 : Nat} {X : XT} {B : KT} (M : MG own cc nL ret rm k9 n9 X B) {pc : Nat} {lv : List (Nat × Value)} {st : List Value} {w : List va_E} {x : Int32} {off : Int} (tgt : Nat) (hd : decode cc pc = .ok (.ifCond .gt off, 3)) (ht : (pc : Int) + off = (tgt : Int)) (kt : 0 < x → B tgt lv st w) (kf : ¬ 0 < x → B (pc + 3) lv st w) : B pc lv (.int x :: st) w := by
  obtain ⟨p, l, e, s, m, args, below, meth, c, D, dA, ad, A, Q, rfl, hx, hb, hml, hr, hts, hown, hlocks, ⟨hK, hN⟩, hkn, hA, hX⟩ := M
  intro H locs ls hl hP hD hS
  exact lv_if_gt hx hb hd ht (fun h => kt h H locs ls hl hP hD hS) (fun h => kf h H locs ls hl hP hD hS)
theorem g_icmp_gt {own : String} {cc : ByteArray} {nL : Nat} {ret : Option FieldType} {rm : Room} {k9 n9 : Nat} {X : XT} {B : KT} (M : MG own cc nL ret rm k9 n9 X B) {pc : Nat} {lv : List (Nat × Value)} {st : List Value} {w : List va_E} {x y : Int32} {off : Int} (tgt : Nat) (hd : decode cc pc = .ok (.if_icmp .gt off, 3)) (ht : (pc : Int) + off = (tgt : Int)) (kt : y < x → B tgt lv st w) (kf : ¬ y < x → B (pc + 3) lv st w) : B pc lv (.int y :: .int x :: st) w := by
  obtain ⟨p, l, e, s, m, args, below, meth, c, D, dA, ad, A, Q, rfl, hx, hb, hml, hr, hts, hown, hlocks, ⟨hK, hN⟩, hkn, hA, hX⟩ := M
  intro H locs ls hl hP hD hS
  exact lv_icmp_gt hx hb hd ht (fun h => kt h H locs ls hl hP hD hS) (fun h => kf h H locs ls hl hP hD hS)
theorem g_if_le {own : String} {cc : ByteArray} {nL : Nat} {ret : Option FieldType} {rm : Room} {k9 n9 : Nat} {X : XT} {B : KT} (M : MG own cc nL ret rm k9 n9 X B) {pc : Nat} {lv : List (Nat × Value)} {st : List Value} {w : List va_E} {x : Int32} {off : Int} (tgt : Nat) (hd : decode cc pc = .ok (.ifCond .le off, 3)) (ht : (pc : Int) + off = (tgt : Int)) (kt : x ≤ 0 → B tgt lv st w) (kf : ¬ x ≤ 0 → B (pc + 3) lv st w) : B pc lv (.int x :: st) w := by
  obtain ⟨p, l, e, s, m, args, below, meth, c, D, dA, ad, A, Q, rfl, hx, hb, hml, hr, hts, hown, hlocks, ⟨hK, hN⟩, hkn, hA, hX⟩ := M
  intro H locs ls hl hP hD hS
  exact lv_if_le hx hb hd ht (fun h => kt h H locs ls hl hP hD hS) (fun h => kf h H locs ls hl hP hD hS)
theorem g_icmp_le {own : String} {cc : ByteArray} {nL : Nat} {ret : Option FieldType} {rm : Room} {k9 n9 : Nat} {X : XT} {B : KT} (M : MG own cc nL ret rm k9 n9 X B) {pc : Nat} {lv : List (Nat × Value)} {st : List Value} {w : List va_E} {x y : Int32} {off : Int} (tgt : Nat) (hd : decode cc pc = .ok (.if_icmp .le off, 3)) (ht : (pc : Int) + off = (tgt : Int)) (kt : x ≤ y → B tgt lv st w) (kf : ¬ x ≤ y → B (pc + 3) lv st w) : B pc lv (.int y :: .int x :: st) w := by
  obtain ⟨p, l, e, s, m, args, below, meth, c, D, dA, ad, A, Q, rfl, hx, hb, hml, hr, hts, hown, hlocks, ⟨hK, hN⟩, hkn, hA, hX⟩ := M
  intro H locs ls hl hP hD hS
  exact lv_icmp_le hx hb hd ht (fun h => kt h H locs ls hl hP hD hS) (fun h => kf h H locs ls hl hP hD hS)
theorem g_goto {own : String} {cc : ByteArray} {nL : Nat} {ret : Option FieldType} {rm : Room} {k9 n9 : Nat} {X : XT} {B : KT} (M : MG own cc nL ret rm k9 n9 X B) {pc : Nat} {lv : List (Nat × Value)} {st : List Value} {w : List va_E} {off : Int} (tgt : Nat) (hd : decode cc pc = .ok (.goto off, 3)) (ht : (pc : Int) + off = (tgt : Int)) (k : B tgt lv st w) : B pc lv st w := by
  obtain ⟨p, l, e, s, m, args, below, meth, c, D, dA, ad, A, Q, rfl, hx, hb, hml, hr, hts, hown, hlocks, ⟨hK, hN⟩, hkn, hA, hX⟩ := M
  intro H locs ls hl hP hD hS
  exact lv_goto hx hb hd ht (k H locs ls hl hP hD hS)
theorem g_ifnull {own : String} {cc : ByteArray} {nL : Nat} {ret : Option FieldType} {rm : Room} {k9 n9 : Nat} {X : XT} {B : KT} (M : MG own cc nL ret rm k9 n9 X B) {pc : Nat} {lv : List (Nat × Value)} {st : List Value} {w : List va_E} {x : Nat} {off : Int} (hd : decode cc pc = .ok (.ifnull off, 3)) (k : B (pc + 3) lv st w) : B pc lv (.ref x :: st) w := by
  obtain ⟨p, l, e, s, m, args, below, meth, c, D, dA, ad, A, Q, rfl, hx, hb, hml, hr, hts, hown, hlocks, ⟨hK, hN⟩, hkn, hA, hX⟩ := M
  intro H locs ls hl hP hD hS
  exact lv_ifnull hx hb hd (k H locs ls hl hP hD hS)
theorem g_lcmp {own : String} {cc : ByteArray} {nL : Nat} {ret : Option FieldType} {rm : Room} {k9 n9 : Nat} {X : XT} {B : KT} (M : MG own cc nL ret rm k9 n9 X B) {pc : Nat} {lv : List (Nat × Value)} {st : List Value} {w : List va_E} {x y : Int64} (hd : decode cc pc = .ok (.lcmp, 1)) (k : B (pc + 1) lv (.int (lg_cmp x y) :: st) w) : B pc lv (.long y :: .long x :: st) w := by
  obtain ⟨p, l, e, s, m, args, below, meth, c, D, dA, ad, A, Q, rfl, hx, hb, hml, hr, hts, hown, hlocks, ⟨hK, hN⟩, hkn, hA, hX⟩ := M
  intro H locs ls hl hP hD hS
  exact W.lcmp hx hb hd (k H locs ls hl hP hD hS)
theorem g_tabIn {own : String} {cc : ByteArray} {nL : Nat} {ret : Option FieldType} {rm : Room} {k9 n9 : Nat} {X : XT} {B : KT} (M : MG own cc nL ret rm k9 n9 X B) {pc : Nat} {lv : List (Nat × Value)} {st : List Value} {w : List va_E} {dflt lo hi : Int} {offs : Array Int} {len : Nat} {x : Int32} {off : Int} (tgt : Nat) (hd : decode cc pc = .ok (.tableswitch dflt lo hi offs, len)) (h1 : ¬ x.toInt < lo) (h2 : ¬ hi < x.toInt) (ho : offs[(x.toInt - lo).toNat]? = some off) (ht : (pc : Int) + off = (tgt : Int)) (k : B tgt lv st w) : B pc lv (.int x :: st) w := by
  obtain ⟨p, l, e, s, m, args, below, meth, c, D, dA, ad, A, Q, rfl, hx, hb, hml, hr, hts, hown, hlocks, ⟨hK, hN⟩, hkn, hA, hX⟩ := M
  intro H locs ls hl hP hD hS
  exact lv_tableIn hx hb hd h1 h2 ho ht (k H locs ls hl hP hD hS)
theorem g_tabOut {own : String} {cc : ByteArray} {nL : Nat} {ret : Option FieldType} {rm : Room} {k9 n9 : Nat} {X : XT} {B : KT} (M : MG own cc nL ret rm k9 n9 X B) {pc : Nat} {lv : List (Nat × Value)} {st : List Value} {w : List va_E} {dflt lo hi : Int} {offs : Array Int} {len : Nat} {x : Int32} (tgt : Nat) (hd : decode cc pc = .ok (.tableswitch dflt lo hi offs, len)) (h : x.toInt < lo ∨ hi < x.toInt) (ht : (pc : Int) + dflt = (tgt : Int)) (k : B tgt lv st w) : B pc lv (.int x :: st) w := by
  obtain ⟨p, l, e, s, m, args, below, meth, c, D, dA, ad, A, Q, rfl, hx, hb, hml, hr, hts, hown, hlocks, ⟨hK, hN⟩, hkn, hA, hX⟩ := M
  intro H locs ls hl hP hD hS
  exact lv_tableOut hx hb hd h ht (k H locs ls hl hP hD hS)
theorem g_look {own : String} {cc : ByteArray} {nL : Nat} {ret : Option FieldType} {rm : Room} {k9 n9 : Nat} {X : XT} {B : KT} (M : MG own cc nL ret rm k9 n9 X B) {pc : Nat} {lv : List (Nat × Value)} {st : List Value} {w : List va_E} {dflt : Int} {ps : Array (Int × Int)} {len : Nat} {x : Int32} {off : Int} (tgt : Nat) (hd : decode cc pc = .ok (.lookupswitch dflt ps, len)) (hp : (ps.toList.zip (ps.toList.drop 1)).all (fun (a, next) => a.1 < next.1) = true) (ho : Op.lookupswitch.offset ps.toList dflt x.toInt = off) (ht : (pc : Int) + off = (tgt : Int)) (k : B tgt lv st w) : B pc lv (.int x :: st) w := by
  obtain ⟨p, l, e, s, m, args, below, meth, c, D, dA, ad, A, Q, rfl, hx, hb, hml, hr, hts, hown, hlocks, ⟨hK, hN⟩, hkn, hA, hX⟩ := M
  intro H locs ls hl hP hD hS
  exact lv_lookup hx hb hd hp ho ht (k H locs ls hl hP hD hS)
theorem g_get {own : String} {cc : ByteArray} {nL : Nat} {ret : Option FieldType} {rm : Room} {k9 n9 : Nat} {X : XT} {B : KT} (M : MG own cc nL ret rm k9 n9 X B) {pc : Nat} {lv : List (Nat × Value)} {st : List Value} {w : List va_E} {idx ci k q : Nat} {ty : FieldType} (hf : FL own idx ci k ty) (hd : decode cc pc = .ok (.getfield idx, 3)) {fs : List Value} {v : Value} (he : w[q]? = some (.inr (ci, fs))) (hv : fs[k]? = some v) (kk : B (pc + 3) lv (v :: st) w) : B pc lv (.ref q :: st) w := by
  obtain ⟨C, T, N, ty0, hc, hin, hty, hnm, hk, hlk, -⟩ := hf
  obtain ⟨p, l, e, s, m, args, below, meth, c, D, dA, ad, A, Q, rfl, hx, hb, hml, hr, hts, hown, hlocks, ⟨hK, hN⟩, hkn, hA, hX⟩ := M
  intro H locs ls hl hP hD hS
  exact va_get hx hb hts hin hown hK hP q (fs := fs.map (nv ad)) (nw_get he) hc k hk (hts _ hlk) (fun _ h9 => h9) (by rw [List.getElem?_map, hv]; rfl) hd (kk H locs ls hl hP hD hS)
theorem g_put {own : String} {cc : ByteArray} {nL : Nat} {ret : Option FieldType} {rm : Room} {k9 n9 : Nat} {X : XT} {B : KT} (M : MG own cc nL ret rm k9 n9 X B) {pc : Nat} {lv : List (Nat × Value)} {st : List Value} {w : List va_E} {idx ci k q : Nat} {ty : FieldType} (hf : FL own idx ci k ty) (hfin : FLf ci k) (hd : decode cc pc = .ok (.putfield idx, 3)) {fs : List Value} {v : Value} (he : w[q]? = some (.inr (ci, fs))) (hn : narrow ty v = v) (hfit : fits ty v = true) (hnr : ∀ z, nv z v = v) (hlen : k < fs.length) (kk : B (pc + 3) lv st (w.set q (.inr (ci, fs.set k v)))) : B pc lv (v :: .ref q :: st) w := by
  obtain ⟨C, T, N, ty0, hc, hin, hty, hnm, hk, hlk, hpd⟩ := hf
  obtain ⟨p, l, e, s, m, args, below, meth, c, D, dA, ad, A, Q, rfl, hx, hb, hml, hr, hts, hown, hlocks, ⟨hK, hN⟩, hkn, hA, hX⟩ := M
  intro H locs ls hl hP hD hS
  refine va_put (v := nv ad v) (fs := fs.map (nv ad)) hx hb hts hin ty0 hty hnm hown hK hP hD hS q (nw_get he) hc k hk (hts _ hlk) (fun _ h9 => h9) (hfin C T N hc) hpd (by rw [hnr]; exact hn) (by rw [hnr]; exact hfit) (by rw [List.length_map]; exact hlen) hd (fun H1 locs1 hP1 hD1 hS1 => ?_)
  have hw : (nw dA ad w).set q (ad q, .inr (ci, (fs.map (nv ad)).set k (nv ad v))) = nw dA ad (w.set q (.inr (ci, fs.set k v))) := by
    rw [← nw_set]; simp only [ne, List.map_set]
  rw [hw] at hP1 hD1
  exact kk H1 locs1 ls hl hP1 hD1 hS1
theorem g_getN {own : String} {cc : ByteArray} {nL : Nat} {ret : Option FieldType} {rm : Room} {k9 n9 : Nat} {X : XT} {B : KT} (M : MG own cc nL ret rm k9 n9 X B) {pc : Nat} {lv : List (Nat × Value)} {st : List Value} {w : List va_E} {idx ci k q : Nat} {ty : FieldType} {host : String} (hf : FN own idx ci k ty host) (hd : decode cc pc = .ok (.getfield idx, 3)) {fs : List Value} {v : Value} (he : w[q]? = some (.inr (ci, fs))) (hv : fs[k]? = some v) (kk : B (pc + 3) lv (v :: st) w) : B pc lv (.ref q :: st) w := by
  obtain ⟨C, T, N, ty0, hc, hin, hty, hnm, hk, hlk, -⟩ := hf
  obtain ⟨p, l, e, s, m, args, below, meth, c, D, dA, ad, A, Q, rfl, hx, hb, hml, hr, hts, hown, hlocks, ⟨hK, hN⟩, hkn, hA, hX⟩ := M
  intro H locs ls hl hP hD hS
  exact va_getN hx hb hts hin hown hK hP q (fs := fs.map (nv ad)) (nw_get he) hc k hk (hN.before hlk) (fun _ h9 => h9) (by rw [List.getElem?_map, hv]; rfl) hd (kk H locs ls hl hP hD hS)
theorem g_putN {own : String} {cc : ByteArray} {nL : Nat} {ret : Option FieldType} {rm : Room} {k9 n9 : Nat} {X : XT} {B : KT} (M : MG own cc nL ret rm k9 n9 X B) {pc : Nat} {lv : List (Nat × Value)} {st : List Value} {w : List va_E} {idx ci k q : Nat} {ty : FieldType} {host : String} (hf : FN own idx ci k ty host) (hfin : FLf ci k) (hd : decode cc pc = .ok (.putfield idx, 3)) {fs : List Value} {v : Value} (he : w[q]? = some (.inr (ci, fs))) (hn : narrow ty v = v) (hfit : fits ty v = true) (hnr : ∀ z, nv z v = v) (hlen : k < fs.length) (kk : B (pc + 3) lv st (w.set q (.inr (ci, fs.set k v)))) : B pc lv (v :: .ref q :: st) w := by
  obtain ⟨C, T, N, ty0, hc, hin, hty, hnm, hk, hlk, hpd⟩ := hf
  obtain ⟨p, l, e, s, m, args, below, meth, c, D, dA, ad, A, Q, rfl, hx, hb, hml, hr, hts, hown, hlocks, ⟨hK, hN⟩, hkn, hA, hX⟩ := M
  intro H locs ls hl hP hD hS
  refine va_putN (v := nv ad v) (fs := fs.map (nv ad)) hx hb hts hin ty0 hty hnm hown hK hP hD hS q (nw_get he) hc k hk (hN.before hlk) (fun _ h9 => h9) (hfin C T N hc) hpd (by rw [hnr]; exact hn) (by rw [hnr]; exact hfit) (by rw [List.length_map]; exact hlen) hd (fun H1 locs1 hP1 hD1 hS1 => ?_)
  have hw : (nw dA ad w).set q (ad q, .inr (ci, (fs.map (nv ad)).set k (nv ad v))) = nw dA ad (w.set q (.inr (ci, fs.set k v))) := by
    rw [← nw_set]; simp only [ne, List.map_set]
  rw [hw] at hP1 hD1
  exact kk H1 locs1 ls hl hP1 hD1 hS1
theorem g_iald {own : String} {cc : ByteArray} {nL : Nat} {ret : Option FieldType} {rm : Room} {k9 n9 : Nat} {X : XT} {B : KT} (M : MG own cc nL ret rm k9 n9 X B) {pc : Nat} {lv : List (Nat × Value)} {st : List Value} {w : List va_E} {q n : Nat} {f : Nat → Int32} {i : Int32} (hd : decode cc pc = .ok (.iaload, 1)) (he : w[q]? = some (.inl (0, n, .inl f))) (hin : vp_in i n) (kk : B (pc + 1) lv (.int (f i.toNatClampNeg) :: st) w) : B pc lv (.int i :: .ref q :: st) w := by
  obtain ⟨p, l, e, s, m, args, below, meth, c, D, dA, ad, A, Q, rfl, hx, hb, hml, hr, hts, hown, hlocks, ⟨hK, hN⟩, hkn, hA, hX⟩ := M
  intro H locs ls hl hP hD hS
  exact va_iald hx hb hK hP q 0 (nw_get he) rfl hin hd (kk H locs ls hl hP hD hS)
theorem g_zald {own : String} {cc : ByteArray} {nL : Nat} {ret : Option FieldType} {rm : Room} {k9 n9 : Nat} {X : XT} {B : KT} (M : MG own cc nL ret rm k9 n9 X B) {pc : Nat} {lv : List (Nat × Value)} {st : List Value} {w : List va_E} {q n : Nat} {f : Nat → Int32} {i : Int32} (hd : decode cc pc = .ok (.baload, 1)) (he : w[q]? = some (.inl (1, n, .inl f))) (hin : vp_in i n) (kk : B (pc + 1) lv (.int (f i.toNatClampNeg) :: st) w) : B pc lv (.int i :: .ref q :: st) w := by
  obtain ⟨p, l, e, s, m, args, below, meth, c, D, dA, ad, A, Q, rfl, hx, hb, hml, hr, hts, hown, hlocks, ⟨hK, hN⟩, hkn, hA, hX⟩ := M
  intro H locs ls hl hP hD hS
  exact va_zald hx hb hK hP q 1 (nw_get he) rfl hin hd (kk H locs ls hl hP hD hS)
theorem g_aald {own : String} {cc : ByteArray} {nL : Nat} {ret : Option FieldType} {rm : Room} {k9 n9 : Nat} {X : XT} {B : KT} (M : MG own cc nL ret rm k9 n9 X B) {pc : Nat} {lv : List (Nat × Value)} {st : List Value} {w : List va_E} {q n x : Nat} {f : Nat → Option Nat} {i : Int32} (hd : decode cc pc = .ok (.aaload, 1)) (he : w[q]? = some (.inl (3, n, .inr (.inr (.inr (.inr f)))))) (hin : vp_in i n) (hx9 : f i.toNatClampNeg = some x) (kk : B (pc + 1) lv (.ref x :: st) w) : B pc lv (.int i :: .ref q :: st) w := by
  obtain ⟨p, l, e, s, m, args, below, meth, c, D, dA, ad, A, Q, rfl, hx, hb, hml, hr, hts, hown, hlocks, ⟨hK, hN⟩, hkn, hA, hX⟩ := M
  intro H locs ls hl hP hD hS
  refine va_aldq hx hb hK hP q 3 (nw_get he) rfl hin hd ?_
  simp only [hx9, Option.map_some, va_rf]
  exact kk H locs ls hl hP hD hS
theorem g_alen {own : String} {cc : ByteArray} {nL : Nat} {ret : Option FieldType} {rm : Room} {k9 n9 : Nat} {X : XT} {B : KT} (M : MG own cc nL ret rm k9 n9 X B) {pc : Nat} {lv : List (Nat × Value)} {st : List Value} {w : List va_E} {q t n : Nat} {x : (Nat → Int32) ⊕ (Nat → Int64) ⊕ (Nat → UInt32) ⊕ (Nat → UInt64) ⊕ (Nat → Option Nat)} {ty : FieldType} (hd : decode cc pc = .ok (.arraylength, 1)) (he : w[q]? = some (.inl (t, n, x))) (ht : ∀ z, (tysA z)[t]? = some (z t, ty)) (kk : B (pc + 1) lv (.int (Int32.ofNat n) :: st) w) : B pc lv (.ref q :: st) w := by
  obtain ⟨p, l, e, s, m, args, below, meth, c, D, dA, ad, A, Q, rfl, hx, hb, hml, hr, hts, hown, hlocks, ⟨hK, hN⟩, hkn, hA, hX⟩ := M
  intro H locs ls hl hP hD hS
  have h9 := nw_get (dA := dA) (ad := ad) he
  rcases x with x | x | x | x | x <;> exact va_alen hx hb hK hP q t h9 (ht dA) rfl hd (kk H locs ls hl hP hD hS)
theorem g_iast {own : String} {cc : ByteArray} {nL : Nat} {ret : Option FieldType} {rm : Room} {k9 n9 : Nat} {X : XT} {B : KT} (M : MG own cc nL ret rm k9 n9 X B) {pc : Nat} {lv : List (Nat × Value)} {st : List Value} {w : List va_E} {q n : Nat} {f : Nat → Int32} {i x : Int32} (hd : decode cc pc = .ok (.iastore, 1)) (he : w[q]? = some (.inl (0, n, .inl f))) (hin : vp_in i n) (kk : B (pc + 1) lv st (w.set q (.inl (0, n, .inl (upd f i.toNatClampNeg x))))) : B pc lv (.int x :: .int i :: .ref q :: st) w := by
  obtain ⟨p, l, e, s, m, args, below, meth, c, D, dA, ad, A, Q, rfl, hx, hb, hml, hr, hts, hown, hlocks, ⟨hK, hN⟩, hkn, hA, hX⟩ := M
  intro H locs ls hl hP hD hS
  refine va_iast hx hb hK hP hD hS q 0 (nw_get he) rfl hin hd (fun H1 locs1 hP1 hD1 hS1 => ?_)
  have hw : (nw dA ad w).set q (ad q, .inl (dA 0, n, .inl (upd f i.toNatClampNeg x))) = nw dA ad (w.set q (.inl (0, n, .inl (upd f i.toNatClampNeg x)))) := by
    rw [← nw_set]; rfl
  rw [hw] at hP1 hD1
  exact kk H1 locs1 ls hl hP1 hD1 hS1
theorem g_zast {own : String} {cc : ByteArray} {nL : Nat} {ret : Option FieldType} {rm : Room} {k9 n9 : Nat} {X : XT} {B : KT} (M : MG own cc nL ret rm k9 n9 X B) {pc : Nat} {lv : List (Nat × Value)} {st : List Value} {w : List va_E} {q n : Nat} {f : Nat → Int32} {i x : Int32} (hd : decode cc pc = .ok (.bastore, 1)) (he : w[q]? = some (.inl (1, n, .inl f))) (hin : vp_in i n) (hb9 : vp_nar .boolean x = x) (kk : B (pc + 1) lv st (w.set q (.inl (1, n, .inl (upd f i.toNatClampNeg x))))) : B pc lv (.int x :: .int i :: .ref q :: st) w := by
  obtain ⟨p, l, e, s, m, args, below, meth, c, D, dA, ad, A, Q, rfl, hx, hb, hml, hr, hts, hown, hlocks, ⟨hK, hN⟩, hkn, hA, hX⟩ := M
  intro H locs ls hl hP hD hS
  refine va_zast hx hb hK hP hD hS q 1 (nw_get he) rfl hin hd (fun H1 locs1 hP1 hD1 hS1 => ?_)
  rw [hb9] at hP1 hD1
  have hw : (nw dA ad w).set q (ad q, .inl (dA 1, n, .inl (upd f i.toNatClampNeg x))) = nw dA ad (w.set q (.inl (1, n, .inl (upd f i.toNatClampNeg x)))) := by
    rw [← nw_set]; rfl
  rw [hw] at hP1 hD1
  exact kk H1 locs1 ls hl hP1 hD1 hS1
theorem g_aast {own : String} {cc : ByteArray} {nL : Nat} {ret : Option FieldType} {rm : Room} {k9 n9 : Nat} {X : XT} {B : KT} (M : MG own cc nL ret rm k9 n9 X B) {pc : Nat} {lv : List (Nat × Value)} {st : List Value} {w : List va_E} {q n qk x : Nat} {vs : List Value} {f : Nat → Option Nat} {i : Int32} (hd : decode cc pc = .ok (.aastore, 1)) (he : w[q]? = some (.inl (3, n, .inr (.inr (.inr (.inr f)))))) (hin : vp_in i n) (hv : w[x]? = some (.inr (2, vs))) (kk : B (pc + 1) lv st (w.set q (.inl (3, n, .inr (.inr (.inr (.inr (va_up f i.toNatClampNeg (some x))))))))) : B pc lv (.ref x :: .int i :: .ref q :: st) w := by
  obtain ⟨p, l, e, s, m, args, below, meth, c, D, dA, ad, A, Q, rfl, hx, hb, hml, hr, hts, hown, hlocks, ⟨hK, hN⟩, hkn, hA, hX⟩ := M
  intro H locs ls hl hP hD hS
  refine va_astq (r := (RX2, TX2, 10)) hx hb hK hP hD hS q 3 x 2 (nw_get he) rfl (nw_get hv) rfl hin hd (fun H1 locs1 hP1 hD1 hS1 => ?_)
  have hw : (nw dA ad w).set q (ad q, .inl (dA 3, n, .inr (.inr (.inr (.inr (va_up (fun j => (f j).map ad) i.toNatClampNeg (some (ad x)))))))) = nw dA ad (w.set q (.inl (3, n, .inr (.inr (.inr (.inr (va_up f i.toNatClampNeg (some x)))))))) := by
    rw [← nw_set]
    have h9 : va_up (fun j => (f j).map ad) i.toNatClampNeg (some (ad x)) = fun j => (va_up f i.toNatClampNeg (some x) j).map ad := by
      funext j
      simp only [va_up]
      split <;> rfl
    rw [h9]
    rfl
  rw [hw] at hP1 hD1
  exact kk H1 locs1 ls hl hP1 hD1 hS1
theorem g_copy {own : String} {cc : ByteArray} {nL : Nat} {ret : Option FieldType} {rm : Room} {k9 n9 : Nat} {X : XT} {B : KT} (M : MG own cc nL ret rm k9 n9 X B) {pc : Nat} {lv : List (Nat × Value)} {st : List Value} {w : List va_E} {idx q0 q1 n0 n1 : Nat} {f g : Nat → Int32} {sp dp n : Int32} (hg : ∀ w ∈ ([Cond.methodLink own idx arraycopyName, Cond.native arraycopyName, Cond.static arraycopyName, Cond.initialized "java/lang/System"] : List Cond), w ∈ GW) (hd : decode cc pc = .ok (.invokestatic idx, 3)) (he0 : w[q0]? = some (.inl (0, n0, .inl f))) (he1 : w[q1]? = some (.inl (0, n1, .inl g)))
    (h1 : ¬ sp < 0) (h2 : ¬ dp < 0) (h3 : ¬ n < 0) (h4 : sp.toNatClampNeg + n.toNatClampNeg ≤ n0) (h5 : dp.toNatClampNeg + n.toNatClampNeg ≤ n1) (hfr : 1 ≤ rm.frames) (hlo : (st.map fun v => v.category).sum + (nativeFrameWords "java/lang/System" "arraycopy" 5 + 11) ≤ rm.locals)
    (kk : B (pc + 3) lv st (w.set q1 (.inl (0, n1, .inl (va_cpy f g sp.toNatClampNeg dp.toNatClampNeg n.toNatClampNeg))))) : B pc lv (.int n :: .int dp :: .ref q1 :: .int sp :: .ref q0 :: st) w := by
  obtain ⟨p, l, e, s, m, args, below, meth, c, D, dA, ad, A, Q, rfl, hx, hb, hml, hr, hts, hown, hlocks, ⟨hK, hN⟩, hkn, hA, hX⟩ := M
  intro H locs ls hl hP hD hS
  have hg2 := List.forall_mem_cons.mp hg
  have hg3 := List.forall_mem_cons.mp hg2.2
  have hg4 := List.forall_mem_cons.mp hg3.2
  have hg5 := List.forall_mem_cons.mp hg4.2
  refine va_copyi hx hb (by rw [hml, hl.1]) hown (hts _ hg2.1) (hts _ hg3.1) (hts _ hg4.1) (hts _ hg5.1) hK hP hD hS q0 q1 0 0 (nw_get he0) (nw_get he1) rfl rfl rfl h1 h2 h3 h4 h5 (fun _ _ => rfl) hfr (by rw [List.map_map]; simp only [Function.comp_def, nv_cat]; exact hlo) hd (fun H1 locs1 hP1 hD1 hS1 => ?_)
  have hw : (nw dA ad w).set q1 (ad q1, .inl (dA 0, n1, .inl (va_cpy f g sp.toNatClampNeg dp.toNatClampNeg n.toNatClampNeg))) = nw dA ad (w.set q1 (.inl (0, n1, .inl (va_cpy f g sp.toNatClampNeg dp.toNatClampNeg n.toNatClampNeg)))) := by
    rw [← nw_set]; rfl
  rw [hw] at hP1 hD1
  exact kk H1 locs1 ls hl hP1 hD1 hS1
theorem g_callV {own : String} {cc : ByteArray} {nL : Nat} {ret : Option FieldType} {rm : Room} {k9 n9 : Nat} {X : XT} {B : KT} (M : MG own cc nL ret rm k9 n9 X B) {pc : Nat} {lv : List (Nat × Value)} {st : List Value} {w : List va_E} {idx : Nat} {y : MethodName} {cy : ByteArray} {ny n ci : Nat} {rety : Option FieldType} {rmy : Room} {a0 : List Value} {w0 : List va_E} {ry : Option Value} {wy : List va_E} (hc : Con y cy ny rety rmy a0 w0 ry wy) (hG : GoodIn GW (wsV own idx y.cls y (wsy y cy ny rety))) (hd : decode cc pc = .ok (.invokevirtual idx, 3)) (hy : y.cls ≠ "java/lang/invoke/MethodHandle" ∧ y.cls ≠ "java/lang/invoke/VarHandle" ∧ (parseMethodDescriptor y.desc).map (fun d => d.parameters.length) = some n) (hR : rmy.frames + 1 ≤ rm.frames ∧ 8 + (ny + 11) + rmy.locals ≤ rm.locals) (hz : rmy.cells = 0 ∧ rmy.slots = 0) (ps : List Nat) {As : List Value} {q : Nat} {fs : List Value} (he : w[q]? = some (.inr (ci, fs))) (hcl : (vwCl[ci]?).map (fun z => z.1) = some y.cls) (ha : (.ref q :: As).map (nv (inn ps)) = a0) (hn : As.length = n) (hnd : va_nd ps = true) (hsel : ps.map (fun k => (w[k]?).map (ne (fun t => t) (inn ps))) = w0.map some) (hst : (st.map (fun v => v.category)).sum ≤ 8) (kk : B (pc + 3) lv ((ry.map (nv (out ps))).toList ++ st) (putw ps wy w)) : B pc lv (As.reverse ++ .ref q :: st) w := by
  obtain ⟨p, l, e, s, m, args, below, meth, c, D, dA, ad, A, Q, rfl, hx, hb, hml, hr, hts, hown, hlocks, ⟨hK, hN⟩, hkn, hA, hX⟩ := M
  intro H locs ls hl hP hD hS
  have hPc := hP.sub (ws' := nw dA (fun j => ad (out ps j)) w0) ps (fm_of _ _ _ (sel_eq hsel))
  have hDc := hD.sub (ws' := nw dA (fun j => ad (out ps j)) w0) ps hnd (sel_eq hsel)
  have ha9 : a0.map (nv (fun j => ad (out ps j))) = Value.ref (ad q) :: As.map (nv ad) := by
    rw [← ha, List.map_map]
    simp only [Function.comp_def, nv_comp, out_inn, List.map_cons]
    try rfl
  rw [show (As.reverse ++ .ref q :: st).map (nv ad) = (As.map (nv ad)).reverse ++ .ref (ad q) :: st.map (nv ad) by simp [List.map_append, List.map_reverse, nv]]
  obtain ⟨⟨C9, T9, N9⟩, hz9, hz8⟩ : ∃ z, vwCl[ci]? = some z ∧ z.1 = y.cls := by
    cases h9 : vwCl[ci]? with
    | none => rw [h9] at hcl; cases hcl
    | some z => rw [h9] at hcl; exact ⟨z, rfl, Option.some.inj hcl⟩
  refine call_core (va_runV (As := As.map (nv ad)) (rest := st.map (nv ad)) ⟨hx, hb, hml, hown, hts⟩ (hc.2 l D dA (fun j => ad (out ps j)) H.size) (cwV (C := y.cls) n hts hG rfl hz.1 hz.2 ⟨rfl, hy⟩ hR) ⟨pc_blind, (by have h6 := va_recv hK hP hz9 (nw_get he); rw [hz8] at h6; exact h6), fun U hU hW => ⟨by rw [ha9], by rw [hU], by rw [hU]; exact hPc, ⟨va_K.moved hW.alike hK, hN.warm hW⟩, hDc.weaken (fun _ _ _ _ => trivial)⟩⟩ rfl (by rw [List.length_map]; exact hn) hl.1 rfl (lv_room (by rw [List.map_map]; simp only [Function.comp_def, nv_cat]; exact hst)) hd hkn) hP hD hS hA hsel hc.1 (fun H1 locs1 hP1 hD1 hS1 => ?_)
  have hv9 : (ry.map (nv (fun j => ad (out ps j)))).toList ++ st.map (nv ad) = ((ry.map (nv (out ps))).toList ++ st).map (nv ad) := by
    cases ry with
    | none => rfl
    | some v => simp only [Option.map_some, Option.toList_some, List.cons_append, List.nil_append, List.map_cons, nv_comp]
  rw [hv9]
  exact kk H1 locs1 ls hl hP1 hD1 hS1
theorem g_callS {own : String} {cc : ByteArray} {nL : Nat} {ret : Option FieldType} {rm : Room} {k9 n9 : Nat} {X : XT} {B : KT} (M : MG own cc nL ret rm k9 n9 X B) {pc : Nat} {lv : List (Nat × Value)} {st : List Value} {w : List va_E} {idx : Nat} {y : MethodName} {cy : ByteArray} {ny n ci : Nat} {rety : Option FieldType} {rmy : Room} {a0 : List Value} {w0 : List va_E} {ry : Option Value} {wy : List va_E} (hc : Con y cy ny rety rmy a0 w0 ry wy) (hG : GoodIn GW (va_wsS own idx y (wsy y cy ny rety))) (hd : decode cc pc = .ok (.invokestatic idx, 3)) (hy : y.cls ≠ "java/lang/invoke/MethodHandle" ∧ y.cls ≠ "java/lang/invoke/VarHandle" ∧ (parseMethodDescriptor y.desc).map (fun d => d.parameters.length) = some n) (hR : rmy.frames + 1 ≤ rm.frames ∧ 8 + (ny + 11) + rmy.locals ≤ rm.locals) (hz : rmy.cells = 0 ∧ rmy.slots = 0) (ps : List Nat) {As : List Value} (ha : (As).map (nv (inn ps)) = a0) (hn : As.length = n) (hnd : va_nd ps = true) (hsel : ps.map (fun k => (w[k]?).map (ne (fun t => t) (inn ps))) = w0.map some) (hst : (st.map (fun v => v.category)).sum ≤ 8) (kk : B (pc + 3) lv ((ry.map (nv (out ps))).toList ++ st) (putw ps wy w)) : B pc lv (As.reverse ++ st) w := by
  obtain ⟨p, l, e, s, m, args, below, meth, c, D, dA, ad, A, Q, rfl, hx, hb, hml, hr, hts, hown, hlocks, ⟨hK, hN⟩, hkn, hA, hX⟩ := M
  intro H locs ls hl hP hD hS
  have hPc := hP.sub (ws' := nw dA (fun j => ad (out ps j)) w0) ps (fm_of _ _ _ (sel_eq hsel))
  have hDc := hD.sub (ws' := nw dA (fun j => ad (out ps j)) w0) ps hnd (sel_eq hsel)
  have ha9 : a0.map (nv (fun j => ad (out ps j))) = As.map (nv ad) := by
    rw [← ha, List.map_map]
    simp only [Function.comp_def, nv_comp, out_inn, List.map_cons]
    try rfl
  rw [show (As.reverse ++ st).map (nv ad) = (As.map (nv ad)).reverse ++ st.map (nv ad) by simp [List.map_append, List.map_reverse, nv]]
  refine call_core (va_runS (As := As.map (nv ad)) (rest := st.map (nv ad)) ⟨hx, hb, hml, hown, hts⟩ (hc.2 l D dA (fun j => ad (out ps j)) H.size) (va_cwS n hts hG rfl hz.1 hz.2 hy hR) ⟨pc_blind, fun U hU hW => ⟨by rw [ha9], by rw [hU], by rw [hU]; exact hPc, ⟨va_K.moved hW.alike hK, hN.warm hW⟩, hDc.weaken (fun _ _ _ _ => trivial)⟩⟩ rfl (by rw [List.length_map]; exact hn) hl.1 rfl (lv_room (by rw [List.map_map]; simp only [Function.comp_def, nv_cat]; exact hst)) hd hkn) hP hD hS hA hsel hc.1 (fun H1 locs1 hP1 hD1 hS1 => ?_)
  have hv9 : (ry.map (nv (fun j => ad (out ps j)))).toList ++ st.map (nv ad) = ((ry.map (nv (out ps))).toList ++ st).map (nv ad) := by
    cases ry with
    | none => rfl
    | some v => simp only [Option.map_some, Option.toList_some, List.cons_append, List.nil_append, List.map_cons, nv_comp]
  rw [hv9]
  exact kk H1 locs1 ls hl hP1 hD1 hS1
theorem g_callSN {own : String} {cc : ByteArray} {nL : Nat} {ret : Option FieldType} {rm : Room} {k9 n9 : Nat} {X : XT} {B : KT} (M : MG own cc nL ret rm k9 n9 X B) {pc : Nat} {lv : List (Nat × Value)} {st : List Value} {w : List va_E} {idx : Nat} {host : String} {y : MethodName} {cy : ByteArray} {ny n ci : Nat} {rety : Option FieldType} {rmy : Room} {a0 : List Value} {w0 : List va_E} {ry : Option Value} {wy : List va_E} (hc : Con y cy ny rety rmy a0 w0 ry wy) (hG : GoodIn GW (wsy y cy ny rety)) (hG2 : Cond.methodLinkNest own idx y host ∈ NW ∧ Cond.initialized y.cls ∈ GW ∧ Cond.static y ∈ GW) (hd : decode cc pc = .ok (.invokestatic idx, 3)) (hy : y.cls ≠ "java/lang/invoke/MethodHandle" ∧ y.cls ≠ "java/lang/invoke/VarHandle" ∧ (parseMethodDescriptor y.desc).map (fun d => d.parameters.length) = some n) (hR : rmy.frames + 1 ≤ rm.frames ∧ 8 + (ny + 11) + rmy.locals ≤ rm.locals) (hz : rmy.cells = 0 ∧ rmy.slots = 0) (ps : List Nat) {As : List Value} (ha : (As).map (nv (inn ps)) = a0) (hn : As.length = n) (hnd : va_nd ps = true) (hsel : ps.map (fun k => (w[k]?).map (ne (fun t => t) (inn ps))) = w0.map some) (hst : (st.map (fun v => v.category)).sum ≤ 8) (kk : B (pc + 3) lv ((ry.map (nv (out ps))).toList ++ st) (putw ps wy w)) : B pc lv (As.reverse ++ st) w := by
  obtain ⟨p, l, e, s, m, args, below, meth, c, D, dA, ad, A, Q, rfl, hx, hb, hml, hr, hts, hown, hlocks, ⟨hK, hN⟩, hkn, hA, hX⟩ := M
  intro H locs ls hl hP hD hS
  have hPc := hP.sub (ws' := nw dA (fun j => ad (out ps j)) w0) ps (fm_of _ _ _ (sel_eq hsel))
  have hDc := hD.sub (ws' := nw dA (fun j => ad (out ps j)) w0) ps hnd (sel_eq hsel)
  have ha9 : a0.map (nv (fun j => ad (out ps j))) = As.map (nv ad) := by
    rw [← ha, List.map_map]
    simp only [Function.comp_def, nv_comp, out_inn, List.map_cons]
    try rfl
  rw [show (As.reverse ++ st).map (nv ad) = (As.map (nv ad)).reverse ++ st.map (nv ad) by simp [List.map_append, List.map_reverse, nv]]
  refine call_core (va_runSN (As := As.map (nv ad)) (rest := st.map (nv ad)) ⟨hx, hb, hml, hown, hts⟩ (hc.2 l D dA (fun j => ad (out ps j)) H.size) ⟨va_cnB n hts hG rfl hz.1 hz.2 (hN _ hG2.1) (hts _ hG2.2.1) hy hR, hts _ hG2.2.2, trivial⟩ ⟨pc_blind, fun U hU hW => ⟨by rw [ha9], by rw [hU], by rw [hU]; exact hPc, ⟨va_K.moved hW.alike hK, hN.warm hW⟩, hDc.weaken (fun _ _ _ _ => trivial)⟩⟩ rfl (by rw [List.length_map]; exact hn) hl.1 rfl (lv_room (by rw [List.map_map]; simp only [Function.comp_def, nv_cat]; exact hst)) hd hkn) hP hD hS hA hsel hc.1 (fun H1 locs1 hP1 hD1 hS1 => ?_)
  have hv9 : (ry.map (nv (fun j => ad (out ps j)))).toList ++ st.map (nv ad) = ((ry.map (nv (out ps))).toList ++ st).map (nv ad) := by
    cases ry with
    | none => rfl
    | some v => simp only [Option.map_some, Option.toList_some, List.cons_append, List.nil_append, List.map_cons, nv_comp]
  rw [hv9]
  exact kk H1 locs1 ls hl hP1 hD1 hS1
theorem g_ishr {own : String} {cc : ByteArray} {nL : Nat} {ret : Option FieldType} {rm : Room} {k9 n9 : Nat} {X : XT} {B : KT} (M : MG own cc nL ret rm k9 n9 X B) {pc : Nat} {lv : List (Nat × Value)} {st : List Value} {w : List va_E} {x y : Int32} (hd : decode cc pc = .ok (.ishr, 1)) (k : B (pc + 1) lv (.int (x >>> (y &&& 31)) :: st) w) : B pc lv (.int y :: .int x :: st) w := by
  obtain ⟨p, l, e, s, m, args, below, meth, c, D, dA, ad, A, Q, rfl, hx, hb, hml, hr, hts, hown, hlocks, ⟨hK, hN⟩, hkn, hA, hX⟩ := M
  intro H locs ls hl hP hD hS
  exact lv_ishr hx hb hd (k H locs ls hl hP hD hS)
theorem g_idiv {own : String} {cc : ByteArray} {nL : Nat} {ret : Option FieldType} {rm : Room} {k9 n9 : Nat} {X : XT} {B : KT} (M : MG own cc nL ret rm k9 n9 X B) {pc : Nat} {lv : List (Nat × Value)} {st : List Value} {w : List va_E} {x y : Int32} (hd : decode cc pc = .ok (.idiv, 1)) (hne : ¬ y = 0) (k : B (pc + 1) lv (.int (x / y) :: st) w) : B pc lv (.int y :: .int x :: st) w := by
  obtain ⟨p, l, e, s, m, args, below, meth, c, D, dA, ad, A, Q, rfl, hx, hb, hml, hr, hts, hown, hlocks, ⟨hK, hN⟩, hkn, hA, hX⟩ := M
  intro H locs ls hl hP hD hS
  exact lv_idiv hx hb hd hne (k H locs ls hl hP hD hS)


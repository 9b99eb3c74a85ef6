theorem ixo_lt : ∀ (ps : List Nat) (i k : Nat), ps[i]? = some k → ixo ps k < ps.length
  | [], i, k, h => by simp at h
  | a :: t, i, k, h => by
    unfold ixo
    cases hb : Nat.beq a k with
    | true => simp
    | false =>
      simp only [cond_false, List.length_cons]
      cases i with
      | zero => cases h; rw [show Nat.beq a a = true from Nat.beq_refl a] at hb; cases hb
      | succ i =>
        rw [List.getElem?_cons_succ] at h
        have := ixo_lt t i k h
        omega
theorem sel_eq {dA ad : Nat → Nat} {w w0 : List va_E} {ps : List Nat} (hsel : ps.map (fun k => (w[k]?).map (ne (fun t => t) (inn ps))) = w0.map some) : ps.map (fun i => (nw dA ad w)[i]?) = (nw dA (fun j => ad (out ps j)) w0).map some := by
  apply List.ext_getElem?
  intro i
  have h := congrArg (fun l => l[i]?) hsel
  simp only [List.getElem?_map] at h ⊢
  cases hp : ps[i]? with
  | none =>
    rw [hp] at h
    simp only [Option.map_none] at h ⊢
    have h0 : w0[i]? = none := by
      cases h9 : w0[i]? with
      | none => rfl
      | some e => rw [h9] at h; cases h
    rw [nw, List.getElem?_mapIdx, h0]; rfl
  | some k =>
    rw [hp] at h
    simp only [Option.map_some] at h ⊢
    cases h9 : w0[i]? with
    | none => rw [h9] at h; cases h
    | some e0 =>
      rw [h9] at h
      have h := Option.some.inj h
      cases h8 : w[k]? with
      | none => rw [h8] at h; cases h
      | some e =>
        rw [h8] at h
        have h := Option.some.inj h
        rw [nw_get h8, nw_get h9]
        have ho : out ps i = k := by unfold out; rw [hp]
        rw [← h, ne_comp, ho]
        simp only [out_inn, Option.map_some]
section CORE
variable {p : Program} {l : Launch} {e : Env} {R : Room} {s : State} {m : MethodId} {args : Array Value} {below : List Frame} {meth : Method} {c : Code} {H : Heap} {locs : List Loc} {cells slots : Nat} {Q : State → Prop}
theorem call_core {pc : Nat} {ls : Array Slot} {st0 rest : List Value} {a : Array Value} {D : va_G} {dA ad : Nat → Nat} {A : Nat → Prop} {w w0 w1 : List va_E} {ps : List Nat} {r : Option Value} {H0 : Heap}
    (hr : va_Run p l e R s m args below meth c H locs cells slots 0 0 (F0 m pc ls st0) rest (Qr D dA (fun j => ad (out ps j)) r w1 (va_A (nw dA (fun j => ad (out ps j)) w0) H.size) a) (va_A (nw dA (fun j => ad (out ps j)) w0) H.size))
    (hP : va_P D vwCl (nw dA ad w) H) (hD : va_D A (nw dA ad w)) (hS : va_S A H0 H locs) (hA : ∀ q, H0.size ≤ q → A q) (hsel : ps.map (fun k => (w[k]?).map (ne (fun t => t) (inn ps))) = w0.map some) (hlen : w1.length = w0.length)
    (kk : ∀ (H1 : Heap) (locs1 : List Loc), va_P D vwCl (nw dA ad (putw ps w1 w)) H1 → va_D A (nw dA ad (putw ps w1 w)) → va_S A H0 H1 locs1 → W p l e R s m args below meth c H1 locs1 cells slots Q (F0 m (pc + 3) ls ((r.map (nv (fun j => ad (out ps j)))).toList ++ rest))) : W p l e R s m args below meth c H locs cells slots Q (F0 m pc ls st0) := by
  have hC := sel_eq (dA := dA) (ad := ad) hsel
  have hF := va_free (wc := nw dA (fun j => ad (out ps j)) w0) hD hS hA ps hC
  have hpl : ps.length = w0.length := by
    have := congrArg List.length hsel
    simpa using this
  intro T hT X
  obtain ⟨v, st₀, t, T', L, h0, X', hL, e1, e2, ⟨⟨hv, hP1, hD1⟩, hz, hk⟩, st⟩ := hr T hT X
  cases hv
  rw [h0] at hz hk
  rw [← e1] at hz hk hP1
  have old : ∀ (k : Nat) (e0 : va_E), w[k]? = some e0 → ∃ q : Nat × va_E, (nw dA ad w)[k]? = some q ∧ q.1 = ad k := fun k e0 h => ⟨_, nw_get h, rfl⟩
  have new : ∀ (k : Nat) (q : Nat × va_E), (nw dA ad (putw ps w1 w))[k]? = some q → q.1 = ad k ∧ ∃ e0, w[k]? = some e0 := by
    intro k q hq
    obtain ⟨e', he', rfl⟩ := nw_inv hq
    rw [putw_get] at he'
    cases hw : w[k]? with
    | none => rw [hw] at he'; cases he'
    | some e0 => exact ⟨rfl, e0, rfl⟩
  have hPn : va_P D vwCl (nw dA ad (putw ps w1 w)) T'.heap := by
    intro k q hq
    obtain ⟨e', he', rfl⟩ := nw_inv hq
    rw [putw_get] at he'
    cases hw : w[k]? with
    | none => rw [hw] at he'; cases he'
    | some e0 =>
      rw [hw] at he'
      simp only [Option.map_some, Option.some.injEq] at he'
      cases h1 : w1[ixo ps k]? with
      | some e1' =>
        rw [h1] at he'
        have hi : ixo ps k < ps.length := by
          have := (List.getElem?_eq_some_iff.mp h1).1
          omega
        have hpk := ixo_get ps k hi
        have h2 := hP1 _ _ (nw_get h1)
        have ho : out ps (ixo ps k) = k := by unfold out; rw [hpk]
        simp only [ho] at h2
        rw [← he', ne_comp]
        exact h2
      | none =>
        rw [h1] at he'
        simp only at he'
        subst he'
        have h3 := nw_get (dA := dA) (ad := ad) hw
        refine (hP k _ h3).kept (hk _ (hP k _ h3).lt ?_)
        rintro (⟨i, e9, h9⟩ | h9)
        · obtain ⟨e8, h8, h7⟩ := nw_inv h9
          have hi : i < ps.length := by rw [hpl]; exact (List.getElem?_eq_some_iff.mp h8).1
          have hpi : ps[i]? = some ps[i] := List.getElem?_eq_getElem hi
          have h6 := congrArg (fun l => l[i]?) hC
          simp only [List.getElem?_map, hpi, Option.map_some, nw_get h8] at h6
          have h6 := Option.some.inj h6
          have hk6 := hD.1 _ _ _ _ h6 h3 (by have := congrArg Prod.fst h7; exact this.symm)
          have h5 := ixo_lt ps i k (by rw [hpi, hk6])
          rw [hpl, ← hlen] at h5
          rw [List.getElem?_eq_getElem h5] at h1
          cases h1
        · exact absurd (hP k _ h3).lt (Nat.not_lt.mpr h9)
  have hDn : va_D A (nw dA ad (putw ps w1 w)) := by
    refine ⟨fun i j x y hx hy hxy => ?_, fun k q hq => ?_⟩
    · obtain ⟨h1, e0, h2⟩ := new i x hx
      obtain ⟨h3, e1, h4⟩ := new j y hy
      exact hD.1 i j _ _ (nw_get h2) (nw_get h4) (by show ad i = ad j; rw [← h1, ← h3]; exact hxy)
    · obtain ⟨h1, e0, h2⟩ := new k q hq
      rw [h1]
      exact hD.2 k _ (nw_get h2)
  obtain ⟨t2, a1, b1⟩ := kk T'.heap (locs ++ L) hPn hDn ⟨Nat.le_trans hS.1 hz, fun q h1 h2 => by
      rw [hk q (Nat.lt_of_lt_of_le h1 hS.1) (fun z => h2 (hF q z))]; exact hS.2.1 q h1 h2, fun q hq => by
      rcases List.mem_append.mp hq with h | h
      · exact hS.2.2 q h
      · exact hF _ (hL q h)⟩ T' rfl X'
  exact ⟨t2, st t2 a1, b1⟩
end CORE
theorem pc_blind {av : List Value} {D : va_G} {dA : Nat → Nat} {sz : Nat} {ww : va_W} : FrameBlind (va_Pc av (fun U => U.heap.size = sz ∧ va_P D vwCl ww U.heap ∧ KK D dA U ∧ va_D (fun _ => True) ww)) := by
  intro a U g mk q
  obtain ⟨q0, q1, qP, qK, qD⟩ := q
  exact ⟨q0, q1, qP, ⟨va_K.moved (u := U) (U := U.calling g mk a) (Vm.Alike.refl U.vm) qK.1, NK.same (u := U) (U := U.calling g mk a) rfl qK.2⟩, qD⟩

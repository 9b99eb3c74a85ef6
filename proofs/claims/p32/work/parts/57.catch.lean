theorem join_core {D : va_G} {dA ad : Nat → Nat} {A : Nat → Prop} {w w0 w1 : List va_E} {ps : List Nat} {H0 H H1 : Heap} {locs L : List Loc}
    (hP : va_P D vwCl (nw dA ad w) H) (hD : va_D A (nw dA ad w)) (hS : va_S A H0 H locs) (hA : ∀ q, H0.size ≤ q → A q) (hsel : ps.map (fun k => (w[k]?).map (ne (fun t => t) (inn ps))) = w0.map some) (hlen : w1.length = w0.length)
    (hP1 : va_P D vwCl (nw dA (fun j => ad (out ps j)) w1) H1) (hz : H.size ≤ H1.size) (hk : ∀ q : Nat, q < H.size → ¬ va_A (nw dA (fun j => ad (out ps j)) w0) H.size q → H1[q]? = H[q]?) (hL : ∀ q ∈ L, va_A (nw dA (fun j => ad (out ps j)) w0) H.size q.base) :
    va_P D vwCl (nw dA ad (putw ps w1 w)) H1 ∧ va_D A (nw dA ad (putw ps w1 w)) ∧ va_S A H0 H1 (locs ++ L) := by
  have hC := sel_eq (dA := dA) (ad := ad) hsel
  have hF := va_free (wc := nw dA (fun j => ad (out ps j)) w0) hD hS hA ps hC
  have hpl : ps.length = w0.length := by
    have := congrArg List.length hsel
    simpa using this
  have new : ∀ (k : Nat) (q : Nat × va_E), (nw dA ad (putw ps w1 w))[k]? = some q → q.1 = ad k ∧ ∃ e0, w[k]? = some e0 := by
    intro k q hq
    obtain ⟨e', he', rfl⟩ := nw_inv hq
    rw [putw_get] at he'
    cases hw : w[k]? with
    | none => rw [hw] at he'; cases he'
    | some e0 => exact ⟨rfl, e0, rfl⟩
  refine ⟨?_, ?_, ?_⟩
  · intro k q hq
    obtain ⟨e', he', rfl⟩ := nw_inv hq
    rw [putw_get] at he'
    cases hw : w[k]? with
    | none => rw [hw] at he'; cases he'
    | some e0 =>
      rw [hw] at he'
      simp only [Option.map_some, Option.some.injEq] at he'
      cases h1 : w1[ixo ps k]? with
      | some e1' =>
        rw [h1] at he'
        have hi : ixo ps k < ps.length := by
          have := (List.getElem?_eq_some_iff.mp h1).1
          omega
        have hpk := ixo_get ps k hi
        have h2 := hP1 _ _ (nw_get h1)
        have ho : out ps (ixo ps k) = k := by unfold out; rw [hpk]
        simp only [ho] at h2
        rw [← he', ne_comp]
        exact h2
      | none =>
        rw [h1] at he'
        simp only at he'
        subst he'
        have h3 := nw_get (dA := dA) (ad := ad) hw
        refine (hP k _ h3).kept (hk _ (hP k _ h3).lt ?_)
        rintro (⟨i, e9, h9⟩ | h9)
        · obtain ⟨e8, h8, h7⟩ := nw_inv h9
          have hi : i < ps.length := by rw [hpl]; exact (List.getElem?_eq_some_iff.mp h8).1
          have hpi : ps[i]? = some ps[i] := List.getElem?_eq_getElem hi
          have h6 := congrArg (fun l => l[i]?) hC
          simp only [List.getElem?_map, hpi, Option.map_some, nw_get h8] at h6
          have h6 := Option.some.inj h6
          have hk6 := hD.1 _ _ _ _ h6 h3 (by have := congrArg Prod.fst h7; exact this.symm)
          have h5 := ixo_lt ps i k (by rw [hpi, hk6])
          rw [hpl, ← hlen] at h5
          rw [List.getElem?_eq_getElem h5] at h1
          cases h1
        · exact absurd (hP k _ h3).lt (Nat.not_lt.mpr h9)
  · refine ⟨fun i j x y hx hy hxy => ?_, fun k q hq => ?_⟩
    · obtain ⟨h1, e0, h2⟩ := new i x hx
      obtain ⟨h3, e1, h4⟩ := new j y hy
      exact hD.1 i j _ _ (nw_get h2) (nw_get h4) (by show ad i = ad j; rw [← h1, ← h3]; exact hxy)
    · obtain ⟨h1, e0, h2⟩ := new k q hq
      rw [h1]
      exact hD.2 k _ (nw_get h2)
  · exact ⟨Nat.le_trans hS.1 hz, fun q h1 h2 => by rw [hk q (Nat.lt_of_lt_of_le h1 hS.1) (fun z => h2 (hF q z))]; exact hS.2.1 q h1 h2, fun q hq => by
      rcases List.mem_append.mp hq with h | h
      · exact hS.2.2 q h
      · exact hF _ (hL q h)⟩

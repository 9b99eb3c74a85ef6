/-- what a walk of the law's start keeps -/
def XS (L : Nat) (xs : Nat → Int32) : XT := fun p l e s m args below meth c D dA ad A Q => XLw L xs p l e s m args below meth c D dA ad A Q ∧ ZP A s s.heap
theorem XLw.ad {L : Nat} {xs : Nat → Int32} {p : Program} {l : Launch} {e : Env} {s : State} {m : MethodId} {args : Array Value} {below : List Frame} {meth : Method} {c : Code} {D : va_G} {dA ad ad' : Nat → Nat} {A : Nat → Prop} {Q : State → Prop} (h1 : ad' 1000 = ad 1000) (h : XLw L xs p l e s m args below meth c D dA ad A Q) : XLw L xs p l e s m args below meth c D dA ad' A Q := by
  obtain ⟨a, b, d⟩ := h
  exact ⟨a, by rw [h1]; exact b, d⟩
theorem xl_k {L n : Nat} {xs : Nat → Int32} : XK n (XS L xs) := fun _ _ _ _ _ _ _ _ _ _ _ _ _ _ _ hag h => ⟨h.1.ad (hag 1000 (Or.inr (Nat.le_refl _))), h.2⟩
theorem xl_z {L : Nat} {xs : Nat → Int32} : XZ (XS L xs) := fun _ _ _ _ _ _ _ _ _ _ _ _ _ _ h => h.2
theorem MG.mono {own : String} {cc : ByteArray} {nL : Nat} {ret : Option FieldType} {rm : Room} {k9 n9 : Nat} {X X' : XT} {B : KT} (h : ∀ p l e s m args below meth c D dA ad A Q, X p l e s m args below meth c D dA ad A Q → X' p l e s m args below meth c D dA ad A Q) (M : MG own cc nL ret rm k9 n9 X B) : MG own cc nL ret rm k9 n9 X' B := by
  obtain ⟨p, l, e, s, m, args, below, meth, c, D, dA, ad, A, Q, hB, hx, hb, hml, hr, hts, hown, hlocks, hK, hkn, hA, hX⟩ := M
  exact ⟨p, l, e, s, m, args, below, meth, c, D, dA, ad, A, Q, hB, hx, hb, hml, hr, hts, hown, hlocks, hK, hkn, hA, h _ _ _ _ _ _ _ _ _ _ _ _ _ _ hX⟩
theorem n_renG {own : String} {cc : ByteArray} {nL : Nat} {ret : Option FieldType} {rm : Room} {k9 n9 : Nat} {X : XT} {B : KT} (M : MG own cc nL ret rm k9 n9 X B) (σ : Nat → Nat) {pc : Nat} {lv lv' : List (Nat × Value)} {st st' : List Value} {w w' : List va_E} (hw : ∀ k e', w'[k]? = some e' → w[σ k]? = some (ne (fun t => t) σ e')) (hinj : ∀ i j, i < w'.length → j < w'.length → σ i = σ j → i = j) (hlv : lv = lv'.map (fun q => (q.1, nv σ q.2))) (hst : st = st'.map (nv σ)) (hX9 : ∀ p l e s m args below meth c D dA ad A Q, X p l e s m args below meth c D dA ad A Q → X p l e s m args below meth c D dA (fun k => ad (σ k)) A Q) (kk : ∀ B', MG own cc nL ret rm k9 n9 X B' → B' pc lv' st' w') : B pc lv st w := by
  refine n_ren M σ (lv' := lv') (st' := st') (w' := w') ?_ hinj hlv hst hX9 kk
  apply List.ext_getElem?
  intro i
  rw [List.getElem?_map, List.getElem?_map]
  by_cases hi : i < w'.length
  · rw [List.getElem?_range hi, List.getElem?_eq_getElem hi]
    exact congrArg some (hw i _ (List.getElem?_eq_getElem hi))
  · rw [List.getElem?_eq_none (by rw [List.length_range]; omega), List.getElem?_eq_none (by omega)]
    rfl
theorem shn_0 {n : Nat} : ∀ {w : List va_E}, clW n w → shn 0 w = w
  | [], _ => rfl
  | e :: t, h => by
    show ne (fun t => t) (fun k => 0 + k) e :: shn 0 t = e :: t
    rw [ne_cl (fun k _ => Nat.zero_add k) h.1, shn_0 h.2]
theorem clW_mono {n m : Nat} (h : n ≤ m) : ∀ {w : List va_E}, clW n w → clW m w
  | [], _ => trivial
  | _ :: t, hc => ⟨clE_mono h hc.1, clW_mono h (w := t) hc.2⟩
theorem cw0_len : CW0.length = 95 := rfl
theorem cw0_cl1 : clW CW0.length CW0 := by rw [cw0_len]; exact cw0_cl
abbrev MS : List va_E := MW0 12 5 true
theorem ms_cl : clW 5 MS := n_X6.1.1
def sgL (k : Nat) : Nat := if k < 95 then k else if k = 95 then 100 else if k < 101 then k - 1 else k
theorem sgL_1000 : sgL 1000 = 1000 := rfl
theorem sgL_w (k : Nat) (e' : va_E) (h : (LWm CW0 (fun _ => 0) MS)[k]? = some e') : ((CW0 ++ shn 95 MS) ++ [OUT (fun _ => 0)])[sgL k]? = some (ne (fun t => t) sgL e') := by
  by_cases h95 : k < 95
  · have h1 : CW0[k]? = some e' := by
      rw [LWm, List.append_assoc, List.getElem?_append_left (by rw [cw0_len]; exact h95)] at h
      exact h
    rw [show sgL k = k by unfold sgL; rw [if_pos h95], List.append_assoc, List.getElem?_append_left (by rw [cw0_len]; exact h95), h1]
    rw [ne_cl (fun j hj => by unfold sgL; rw [if_pos hj]) (clW_get cw0_cl h1)]
  · have hl : k < 101 := (List.getElem?_eq_some_iff.mp h).1
    have hc : ∀ i : Nat, (LWm CW0 (fun _ => 0) MS)[95 + i]? = ([OUT (fun _ => 0)] ++ MS.map shM)[i]? := by
      intro i
      rw [LWm, List.append_assoc, List.getElem?_append_right (by rw [cw0_len]; omega), cw0_len, show 95 + i - 95 = i by omega]
    have hd : ∀ i : Nat, ((CW0 ++ shn 95 MS) ++ [OUT (fun _ => 0)])[95 + i]? = (shn 95 MS ++ [OUT (fun _ => 0)])[i]? := by
      intro i
      rw [List.append_assoc, List.getElem?_append_right (by rw [cw0_len]; omega), cw0_len, show 95 + i - 95 = i by omega]
    have : k = 95 ∨ k = 96 ∨ k = 97 ∨ k = 98 ∨ k = 99 ∨ k = 100 := by omega
    rcases this with rfl | rfl | rfl | rfl | rfl | rfl
    · have h := (hc 0).symm.trans h
      cases h
      exact hd 5
    · have h := (hc 1).symm.trans h
      cases h
      exact hd 0
    · have h := (hc 2).symm.trans h
      cases h
      exact hd 1
    · have h := (hc 3).symm.trans h
      cases h
      exact hd 2
    · have h := (hc 4).symm.trans h
      cases h
      exact hd 3
    · have h := (hc 5).symm.trans h
      cases h
      exact hd 4
theorem lwm_len : (LWm CW0 (fun _ => 0) MS).length = 101 := rfl
set_option maxRecDepth 20000 in
theorem start_walk {L : Nat} {xs : Nat → Int32} (hL : L ≤ 2048) {B : KT} (M : MG RL cL_law 9 ret room_1 0 0 (XS L xs) B) : B 0 [(0, .ref 1000)] [] [] := by
  refine n_mkI M xl_z nd_L_8 n_X5 lk_L_85 dL_law_0 dL_law_3 dL_law_4 rfl ⟨by decide, by decide, by decide +kernel⟩ ⟨Nat.le_of_ble_eq_true rfl, Nat.le_of_ble_eq_true rfl⟩ ⟨Nat.le_of_ble_eq_true rfl, Nat.le_of_ble_eq_true rfl⟩ ⟨clW_n, rfl, rfl, Nat.le_of_ble_eq_true rfl⟩ (Nat.le_of_ble_eq_true rfl) xl_k (fun B M => ?_)
  show B 7 [(0, .ref 1000)] [.ref 0] (shn 0 CW0)
  rw [shn_0 cw0_cl]
  refine g_astore_n M dL_law_7 (by decide) ?_
  refine n_mkI M xl_z nd_L_86 n_X6 lk_L_88 dL_law_8 dL_law_11 dL_law_12 rfl ⟨by decide, by decide, by decide +kernel⟩ ⟨Nat.le_of_ble_eq_true rfl, Nat.le_of_ble_eq_true rfl⟩ ⟨Nat.le_of_ble_eq_true rfl, Nat.le_of_ble_eq_true rfl⟩ ⟨cw0_cl1, rfl, rfl, Nat.le_of_ble_eq_true rfl⟩ (Nat.le_of_ble_eq_true rfl) xl_k (fun B M => ?_)
  show B 15 [(1, .ref 0), (0, .ref 1000)] [.ref 95] (CW0 ++ shn 95 MS)
  refine g_astore_n M dL_law_15 (by decide) ?_
  refine g_iconst M 1 dL_law_16 (by decide) ?_
  refine n_newa (atype := .long) (ty := .long) (t0 := 2) (N' := 1) (a0 := (1, .inr (.inl (fun _ => 0)))) M rfl (Or.inr (Or.inr rfl)) aw_long (fun _ => rfl) (fun _ => rfl) (fun _ _ => rfl) (by decide) rfl (Nat.le_of_ble_eq_true rfl) ⟨Nat.le_of_ble_eq_true rfl, Nat.le_of_ble_eq_true rfl⟩ dL_law_17 ⟨(clW_app (by show clW 100 CW0; exact clW_mono (by decide) cw0_cl) (clW_shn (Nat.le_of_ble_eq_true rfl) ms_cl)), rfl, rfl, Nat.le_of_ble_eq_true rfl⟩ xl_k (fun B M => ?_)
  refine g_astore_n M dL_law_19 (by decide) ?_
  refine g_iconst M 0 dL_law_20 (by decide) ?_
  refine g_istore M dL_law_21 (by decide) ?_
  refine g_lvs M [(0, .ref 1000), (1, .ref 0), (2, .ref 95), (3, .ref 100), (4, .int 0)] (lvs_c rfl (lvs_c rfl (lvs_c rfl (lvs_c rfl (lvs_c rfl lvs_n))))) ?_
  show B 23 [(0, .ref 1000), (1, .ref 0), (2, .ref 95), (3, .ref 100), (4, .int 0)] [] ((CW0 ++ shn 95 MS) ++ [OUT (fun _ => 0)])
  refine n_renG M sgL (lv' := [(0, .ref 1000), (1, .ref 0), (2, .ref 96), (3, .ref 95), (4, .int 0)]) (st' := []) (w' := LWm CW0 (fun _ => 0) MS) sgL_w (fun i j hi hj h => ?_) rfl rfl (fun _ _ _ _ _ _ _ _ _ _ _ _ _ _ h => ⟨h.1.ad (by rw [sgL_1000]), h.2⟩) fun B M => ?_
  · rw [lwm_len] at hi hj
    unfold sgL at h
    split at h <;> split at h <;> (repeat' (split at h)) <;> omega
  have h := law_loop hL 512 0 0 _ _ CW0 MS (fun _ => 0) B (M.mono (fun _ _ _ _ _ _ _ _ _ _ _ _ _ _ h => h.1)) (by omega) (by omega) (by decide) (Nat.le_of_ble_eq_true rfl) (Nat.le_of_ble_eq_true rfl) inv0
  rw [show nI 0 = 0 from rfl] at h
  exact h


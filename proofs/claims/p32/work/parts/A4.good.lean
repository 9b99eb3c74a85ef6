/-! isGood: it makes a row of five heights -/
abbrev EA (f : Nat → Int32) : va_E := .inl (0, 5, .inl f)
theorem wx_at {w : List va_E} {e : va_E} (h : w.length = 95) : (w ++ [e])[95]? = some e := by rw [List.getElem?_append_right (by omega), h]; rfl
theorem wx_set {w : List va_E} {e e2 : va_E} (h : w.length = 95) : (w ++ [e]).set 95 e2 = w ++ [e2] := by rw [List.set_append_right _ _ (by omega), h]; rfl
theorem e_ld {own : String} {cc : ByteArray} {nL : Nat} {ret : Option FieldType} {rm : Room} {k9 n9 : Nat} {X : XT} {B : KT} (M : MG own cc nL ret rm k9 n9 X B) {pc : Nat} {lv : List (Nat × Value)} {st : List Value} {w : List va_E} {g z : Nat → Int32} {i : Int32} (j : Nat) (hj : j < 5) (hi : i = nI j) (h : w.length = 95) (hd : decode cc pc = .ok (.iaload, 1)) (kk : B (pc + 1) lv (.int (g j) :: st) (w ++ [EA (mixf 5 g z)])) : B pc lv (.int i :: .ref 95 :: st) (w ++ [EA (mixf 5 g z)]) := by
  subst hi
  refine g_iald M hd (wx_at h) (vp_in_nI hj (by omega)) ?_
  rw [cl5 j (by omega), mixf_in _ _ hj]
  exact kk
theorem nd96 : va_nd (List.range 96) = true := by decide +kernel
/-- the heights, one of them another -/
def ghG (d : SD) (wh ht : Int32) (i : Nat) : Int32 := if nI i = wh then ht else hB (sTe d) (sTo d) (sLo d) (sHe d) (nI i) 0
def goodG (d : SD) (wh ht most : Int32) : Bool := decide (fltOf (ghG d wh ht 0) (ghG d wh ht 1) (ghG d wh ht 2) (ghG d wh ht 3) (ghG d wh ht 4) most = 0)
section
variable {d0 d1 : SD} {k : Nat} {rm : Nat → Nat} {R : Nat → SD} {t : WD}
theorem wh3E (hrm : ∀ j, rm j < 6) (hte : teOk (sTe d0)) (w : Nat) (hw : w < 5) (f : Nat → Int32) : QC 96 yX5_wheel cX5_wheel 3 (some .int) (rmk 6 150) [.ref 0, .int (nI w), .int 3] (OW d0 d1 k rm R t ++ [EA f]) (some (.int (hB (sTe d0) (sTo d0) (sLo d0) (sHe d0) (nI w) 0))) (OW d0 d1 k rm R t ++ [EA f]) := (l_wh3 hrm hte w hw).frame nd95 (E := [EA f]) rfl ⟨trivial, trivial⟩ rfl rfl
theorem c_isGood (hrm : ∀ j, rm j < 6) (hte : teOk (sTe d0)) (wh ht most : Int32) : QC 95 yL_isGood cL_isGood 6 (some .boolean) (rmn 7 1 5 172) [.ref 0, .int wh, .int ht, .int most] (OW d0 d1 k rm R t) (some (.int (b2i (goodG d0 wh ht most)))) (OW d0 d1 k rm R t) := by
  refine QC.of (own := RL) (by decide) rfl (Nat.le_of_ble_eq_true rfl) rfl ow_len (ow_cl hrm) (ow_cl hrm) (fun B M => ?_)
  refine g_iconst M 5 dL_isGood_0 (by decide) ?_
  refine n_newa (atype := .int) (ty := .int) (t0 := 0) (N' := 5) (a0 := (5, .inl (fun _ => 0))) M rfl (Or.inl rfl) aw_int (fun _ => rfl) (fun _ => rfl) (fun _ _ => rfl) (by decide) rfl (Nat.le_of_ble_eq_true rfl) ⟨Nat.le_of_ble_eq_true rfl, Nat.le_of_ble_eq_true rfl⟩ dL_isGood_1 ⟨by rw [ow_len]; exact ow_cl hrm, rfl, rfl, Nat.le_of_ble_eq_true rfl⟩ (xm_k (Nat.le_of_eq ow_len.symm) ow_len rfl (ow_cl hrm)) (fun B M => ?_)
  show B 3 [(0, .ref 0), (1, .int wh), (2, .int ht), (3, .int most)] [.ref 95] (OW d0 d1 k rm R t ++ [EA (fun _ => 0)])
  have f1 : goodG d0 wh ht most = true → B 110 [(0, .ref 0)] [] (OW d0 d1 k rm R t ++ [EA (mixf 5 (ghG d0 wh ht) (fun _ => 0))]) := by
    intro h
    refine g_iconst M 1 dL_isGood_110 (by decide) ?_
    refine g_goto M 115 dL_isGood_111 (by decide) ?_
    exact m_zret M dL_isGood_115 rfl rfl (by rw [h]; rfl) rfl
  have f0 : goodG d0 wh ht most = false → B 114 [(0, .ref 0)] [] (OW d0 d1 k rm R t ++ [EA (mixf 5 (ghG d0 wh ht) (fun _ => 0))]) := by
    intro h
    refine g_iconst M 0 dL_isGood_114 (by decide) ?_
    exact m_zret M dL_isGood_115 rfl rfl (by rw [h]; rfl) rfl
  have c5 : ∀ x : Int32, ¬ x < 5 ↔ 5 ≤ x := fun x => by rw [ltIc2 (n := 5) rfl, leIc (n := 5) rfl]; omega
  have c4 : ∀ x : Int32, ¬ x ≤ 4 ↔ 5 ≤ x := fun x => by rw [leIc2 (n := 4) rfl, leIc (n := 5) rfl]; omega
  have k86 : ((¬ 5 ≤ ghG d0 wh ht 2 ∧ ¬ 5 ≤ ghG d0 wh ht 3) ∨ (5 ≤ ghG d0 wh ht 0 ∧ 5 ≤ ghG d0 wh ht 1)) → B 86 [(0, .ref 0), (3, .int most), (4, .ref 95)] [] (OW d0 d1 k rm R t ++ [EA (mixf 5 (ghG d0 wh ht) (fun _ => 0))]) := by
    intro hc
    have hn : ¬ ((5 ≤ ghG d0 wh ht 2 ∨ 5 ≤ ghG d0 wh ht 3) ∧ ¬ (5 ≤ ghG d0 wh ht 0 ∧ 5 ≤ ghG d0 wh ht 1)) := by
      rintro ⟨q1, q2⟩
      rcases hc with q | q
      · rcases q1 with z | z
        · exact q.1 z
        · exact q.2 z
      · exact q2 q
    have ok : ¬ ((5 ≤ ghG d0 wh ht 2 ∧ 5 ≤ ghG d0 wh ht 3) ∧ most < ghG d0 wh ht 4) → goodG d0 wh ht most = true := fun q => by
      rw [goodG, decide_eq_true_iff, fltOf, if_neg hn, if_neg q]
    refine g_aload M dL_isGood_86 rfl ?_
    refine g_iconst M 2 dL_isGood_88 (by decide) ?_
    refine e_ld M 2 (by decide) rfl ow_len dL_isGood_89 ?_
    refine g_iconst M 5 dL_isGood_90 (by decide) ?_
    refine g_icmp_lt M 110 dL_isGood_91 (by decide) (fun h2 => ?_) (fun h2 => ?_)
    · exact g_lvs M _ (lvs_c rfl lvs_n) (f1 (ok (fun z => (c5 _).mpr z.1.1 h2)))
    refine g_aload M dL_isGood_94 rfl ?_
    refine g_iconst M 3 dL_isGood_96 (by decide) ?_
    refine e_ld M 3 (by decide) rfl ow_len dL_isGood_97 ?_
    refine g_iconst M 5 dL_isGood_98 (by decide) ?_
    refine g_icmp_lt M 110 dL_isGood_99 (by decide) (fun h3 => ?_) (fun h3 => ?_)
    · exact g_lvs M _ (lvs_c rfl lvs_n) (f1 (ok (fun z => (c5 _).mpr z.1.2 h3)))
    refine g_aload M dL_isGood_102 rfl ?_
    refine g_iconst M 4 dL_isGood_104 (by decide) ?_
    refine e_ld M 4 (by decide) rfl ow_len dL_isGood_105 ?_
    refine g_iload_n M dL_isGood_106 rfl ?_
    refine g_icmp_gt M 114 dL_isGood_107 (by decide) (fun h4 => ?_) (fun h4 => ?_)
    · refine g_lvs M _ (lvs_c rfl lvs_n) (f0 ?_)
      rw [goodG, decide_eq_false_iff_not, fltOf, if_neg hn, if_pos ⟨⟨(c5 _).mp h2, (c5 _).mp h3⟩, h4⟩]
      decide
    · exact g_lvs M _ (lvs_c rfl lvs_n) (f1 (ok (fun z => h4 z.2)))
  have k65 : ∀ c : Bool, (c = true ↔ (5 ≤ ghG d0 wh ht 0 ∧ 5 ≤ ghG d0 wh ht 1)) → B 65 [(0, .ref 0), (3, .int most), (4, .ref 95), (5, .int (b2i c))] [] (OW d0 d1 k rm R t ++ [EA (mixf 5 (ghG d0 wh ht) (fun _ => 0))]) := by
    intro c hc
    have k81 : (5 ≤ ghG d0 wh ht 2 ∨ 5 ≤ ghG d0 wh ht 3) → B 81 [(0, .ref 0), (3, .int most), (4, .ref 95), (5, .int (b2i c))] [] (OW d0 d1 k rm R t ++ [EA (mixf 5 (ghG d0 wh ht) (fun _ => 0))]) := by
      intro hq
      refine g_iload M dL_isGood_81 rfl ?_
      cases c with
      | false =>
        refine g_if_eq M 114 dL_isGood_83 (by decide) (fun _ => ?_) (fun h9 => absurd rfl h9)
        refine g_lvs M _ (lvs_c rfl lvs_n) (f0 ?_)
        rw [goodG, decide_eq_false_iff_not, fltOf, if_pos ⟨hq, fun z => by have := hc.mpr z; cases this⟩]
        decide
      | true =>
        refine g_if_eq M 114 dL_isGood_83 (by decide) (fun h9 => absurd h9 (by decide)) (fun _ => ?_)
        exact g_lvs M _ (lvs_c rfl (lvs_c rfl (lvs_c rfl lvs_n))) (k86 (Or.inr (hc.mp rfl)))
    refine g_aload M dL_isGood_65 rfl ?_
    refine g_iconst M 2 dL_isGood_67 (by decide) ?_
    refine e_ld M 2 (by decide) rfl ow_len dL_isGood_68 ?_
    refine g_iconst M 5 dL_isGood_69 (by decide) ?_
    refine g_icmp_ge M 81 dL_isGood_70 (by decide) (fun h2 => ?_) (fun h2 => ?_)
    · exact k81 (Or.inl h2)
    refine g_aload M dL_isGood_73 rfl ?_
    refine g_iconst M 3 dL_isGood_75 (by decide) ?_
    refine e_ld M 3 (by decide) rfl ow_len dL_isGood_76 ?_
    refine g_iconst M 5 dL_isGood_77 (by decide) ?_
    refine g_icmp_lt M 86 dL_isGood_78 (by decide) (fun h3 => ?_) (fun h3 => ?_)
    · refine g_lvs M _ (lvs_c rfl (lvs_c rfl (lvs_c rfl lvs_n))) (k86 (Or.inl ⟨h2, fun z => (c5 _).mpr z h3⟩))
    · exact k81 (Or.inr ((c5 _).mp h3))
  have k42 : B 42 [(0, .ref 0), (3, .int most), (4, .ref 95)] [] (OW d0 d1 k rm R t ++ [EA (mixf 5 (ghG d0 wh ht) (fun _ => 0))]) := by
    have k62 : ¬ (5 ≤ ghG d0 wh ht 0 ∧ 5 ≤ ghG d0 wh ht 1) → B 62 [(0, .ref 0), (3, .int most), (4, .ref 95)] [] (OW d0 d1 k rm R t ++ [EA (mixf 5 (ghG d0 wh ht) (fun _ => 0))]) := by
      intro h
      refine g_iconst M 0 dL_isGood_62 (by decide) ?_
      refine g_istore M dL_isGood_63 (by decide) ?_
      exact g_lvs M _ (lvs_c rfl (lvs_c rfl (lvs_c rfl (lvs_c rfl lvs_n)))) (k65 false ⟨fun z => absurd z (by decide), fun z => absurd z h⟩)
    refine g_aload M dL_isGood_42 rfl ?_
    refine g_iconst M 0 dL_isGood_44 (by decide) ?_
    refine e_ld M 0 (by decide) rfl ow_len dL_isGood_45 ?_
    refine g_iconst M 4 dL_isGood_46 (by decide) ?_
    refine g_icmp_le M 62 dL_isGood_47 (by decide) (fun h0 => ?_) (fun h0 => ?_)
    · exact k62 (fun z => (c4 _).mpr z.1 h0)
    refine g_aload M dL_isGood_50 rfl ?_
    refine g_iconst M 1 dL_isGood_52 (by decide) ?_
    refine e_ld M 1 (by decide) rfl ow_len dL_isGood_53 ?_
    refine g_iconst M 4 dL_isGood_54 (by decide) ?_
    refine g_icmp_le M 62 dL_isGood_55 (by decide) (fun h1 => ?_) (fun h1 => ?_)
    · exact k62 (fun z => (c4 _).mpr z.2 h1)
    refine g_iconst M 1 dL_isGood_58 (by decide) ?_
    refine g_goto M 63 dL_isGood_59 (by decide) ?_
    refine g_istore M dL_isGood_63 (by decide) ?_
    exact g_lvs M _ (lvs_c rfl (lvs_c rfl (lvs_c rfl (lvs_c rfl lvs_n)))) (k65 true ⟨fun _ => ⟨(c4 _).mp h0, (c4 _).mp h1⟩, fun _ => rfl⟩)
  have loop : ∀ m i : Nat, i + m = 5 → B 8 [(0, .ref 0), (1, .int wh), (2, .int ht), (3, .int most), (4, .ref 95), (5, .int (nI i))] [] (OW d0 d1 k rm R t ++ [EA (mixf i (ghG d0 wh ht) (fun _ => 0))]) := by
    intro m
    induction m with
    | zero =>
      intro i hi
      obtain rfl : i = 5 := by omega
      refine g_iload M dL_isGood_8 rfl ?_
      refine g_iconst M 5 dL_isGood_10 (by decide) ?_
      refine g_icmp_ge M 42 dL_isGood_11 (by decide) (fun _ => ?_) (fun h9 => absurd (by decide) h9)
      exact g_lvs M _ (lvs_c rfl (lvs_c rfl (lvs_c rfl lvs_n))) k42
    | succ m ih =>
      intro i hi
      have k35 : ∀ v : Int32, v = ghG d0 wh ht i → B 35 [(0, .ref 0), (1, .int wh), (2, .int ht), (3, .int most), (4, .ref 95), (5, .int (nI i))] [.int v, .int (nI i), .ref 95] (OW d0 d1 k rm R t ++ [EA (mixf i (ghG d0 wh ht) (fun _ => 0))]) := by
        intro v hv
        refine g_iast M dL_isGood_35 (wx_at ow_len) (vp_in_nI (by omega) (by omega)) ?_
        rw [wx_set ow_len, cl5 i (by omega), mixf_upd2 hv]
        refine g_iinc1 M dL_isGood_36 rfl (by decide) ?_
        refine g_goto M 8 dL_isGood_39 (by decide) ?_
        refine g_lvs M _ (lvs_c rfl (lvs_c rfl (lvs_c rfl (lvs_c rfl (lvs_c rfl (lvs_c rfl lvs_n)))))) (by have h := ih (i + 1) (by omega); rw [nI_succ] at h; exact h)
      refine g_iload M dL_isGood_8 rfl ?_
      refine g_iconst M 5 dL_isGood_10 (by decide) ?_
      refine g_icmp_ge M 42 dL_isGood_11 (by decide) (fun h9 => absurd h9 (nI_ge (a := i) (b := 5) (by omega) (by omega))) (fun _ => ?_)
      refine g_aload M dL_isGood_14 rfl ?_
      refine g_iload M dL_isGood_16 rfl ?_
      refine g_iload M dL_isGood_18 rfl ?_
      refine g_iload_n M dL_isGood_20 rfl ?_
      refine g_icmp_ne M 28 dL_isGood_21 (by decide) (fun he => ?_) (fun he => ?_)
      · refine g_aload_n M dL_isGood_28 rfl ?_
        refine g_iload M dL_isGood_29 rfl ?_
        refine g_iconst M 3 dL_isGood_31 (by decide) ?_
        refine q_V2i M (wh3E hrm hte i (by omega) _) lk_L_19 dL_isGood_32 (by decide +kernel) ⟨Nat.le_of_ble_eq_true rfl, Nat.le_of_ble_eq_true rfl⟩ ⟨rfl, rfl⟩ nd96 rfl rfl rfl (Nat.le_of_ble_eq_true rfl) ?_
        exact k35 _ (by rw [ghG, if_neg he])
      · refine g_iload_n M dL_isGood_24 rfl ?_
        refine g_goto M 35 dL_isGood_25 (by decide) ?_
        exact k35 _ (by rw [ghG, if_pos he])
  refine g_astore M dL_isGood_3 (by decide) ?_
  refine g_iconst M 0 dL_isGood_5 (by decide) ?_
  refine g_istore M dL_isGood_6 (by decide) ?_
  have h := loop 5 0 (by omega)
  rw [mixf_0] at h
  exact g_lvs M _ (lvs_c rfl (lvs_c rfl (lvs_c rfl (lvs_c rfl (lvs_c rfl (lvs_c rfl lvs_n)))))) h
end


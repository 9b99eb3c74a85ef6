section
variable {b : Nat} {d d1 : SD} {k : Nat} {rm : Nat → Nat} {R : Nat → SD} {t : WD} {y x bk : Int32} {s : Nat}
abbrev MU (d d1 : SD) (k : Nat) (rm : Nat → Nat) (R : Nat → SD) (t : WD) (k9 n9 : Nat) (B : KT) : Prop := MG RL cL_isTurned 14 (some .boolean) (rmn 8 2 10 196) k9 n9 (XM (some (.int 1)) (OW d d1 k rm R t) 2 10) B
theorem l_whyb (hrm : ∀ j, rm j < 6) (hD : Dir y x bk s) : QC 95 yX5_why cX5_why 2 (some .int) (rmk 6 150) [.ref 0, .int bk] (OW d d1 k rm R t) (some (.int (whyD d y))) (OW d d1 k rm R t) := by
  rcases hD with ⟨rfl, rfl, rfl⟩ | ⟨rfl, rfl, rfl⟩
  · exact l_why0 hrm
  · exact l_why1 hrm
abbrev dueF (d : SD) (x : Int32) (j : Nat) : Int32 := hB (sTe d) (sTo d) (sLo d) (sHe d) (nI j) x
abbrev topF (d : SD) (j : Nat) : Int32 := sTo d j
abbrev E2 (d : SD) (x : Int32) : List va_E := [EA (mixf 5 (dueF d x) (fun _ => 0)), EA (mixf 5 (topF d) (fun _ => 0))]
/-- behind the turn -/
theorem u_99 {K : Nat} {rm' : Nat → Nat} {R' : Nat → SD} {kF : Nat} {rmF : Nat → Nat} {RF : Nat → SD} {k9 n9 : Nat} {B : KT} (hd : GP b d) (hD : Dir y x bk s) (h1 : 1 ≤ s) (h6 : s ≤ 60) (hH : Hs b (K + 1) rm' R') (hR : R' (rm' K) = d) (M : MU d d1 kF rmF RF t k9 n9 B)
    (kk : B 248 [(0, .ref 0), (2, .long (lkG d)), (9, .ref 96), (11, .int 1)] [] (OW d d1 K rm' R' t ++ E2 d x)) : B 99 [(0, .ref 0), (1, .int x), (2, .long (lkG d)), (4, .int (sCr d)), (5, .int bk), (6, .int (whyD d y)), (7, .int (nI s)), (8, .ref 95), (9, .ref 96), (10, .int (nI (tuG y s d).1))] [] (OW (tuG y s d).2 d1 (K + 1) rm' R' t ++ E2 d x) := by
  have hrm := hH.1
  have hK6 := hH.2.2.1
  have hO := hd.1.1
  have hle := tuG_le y s d
  obtain ⟨i1, i2, i3, i4, i5⟩ := tu_to hD.pm s d (by omega) hO
  have hO2 : teOk (sTe (tuG y s d).2) := by rw [i2]; exact hO.te
  have hend := tu_end y s d
  have h0 := tu_0 y h1 d
  have hh : (tuG y s d).1 = s → ∀ w, w < 5 → hB (sTe (tuG y s d).2) (sTo (tuG y s d).2) (sLo (tuG y s d).2) (sHe (tuG y s d).2) (nI w) 0 = dueF d x w := fun e w hw => by
    have h := tu_h hD.pm (m := s) (d := d) (by omega) hO hw
    rw [e, hD.mul] at h
    exact h
  have hcr : sCr (tuG y s d).2 = sCr d + (if ¬ x ≤ 0 then nI (tuG y s d).1 else -(nI (tuG y s d).1)) := by
    rw [i5]
    rcases hD.le h1 h6 with ⟨rfl, q, -, -⟩ | ⟨rfl, q, -, -⟩
    · rw [if_pos q, Int32.one_mul]
    · rw [if_neg (fun z => z q), Int32.neg_mul, Int32.one_mul]
  generalize (tuG y s d).1 = n at hle hend h0 hh hcr ⊢
  generalize (tuG y s d).2 = d2 at hO2 hend hh hcr ⊢
  have k229 : B 229 [(0, .ref 0), (2, .long (lkG d)), (9, .ref 96), (11, .int 1)] [] (OW d2 d1 (K + 1) rm' R' t ++ E2 d x) := by
    have hu := l_undo (d0 := d2) (d1 := d1) (k := K) (rm := rm') (R := R') (t := t) hrm (by omega)
    rw [hR] at hu
    refine g_iload M dL_isTurned_229 rfl ?_
    refine g_if_eq M 245 dL_isTurned_231 (by decide) (fun h9 => absurd h9 (by decide)) (fun _ => ?_)
    refine g_aload_n M dL_isTurned_234 rfl ?_
    refine q_V0i M (fr2 hu) lk_L_98 dL_isTurned_235 (by decide +kernel) ⟨Nat.le_of_ble_eq_true rfl, Nat.le_of_ble_eq_true rfl⟩ ⟨rfl, rfl⟩ nd97 rfl rfl rfl (Nat.le_of_ble_eq_true rfl) ?_
    refine g_if_lt M 245 dL_isTurned_238 (by decide) (fun h9 => absurd h9 (nI_pos (by omega))) (fun _ => ?_)
    refine g_iconst M 1 dL_isTurned_241 (by decide) ?_
    refine g_goto M 246 dL_isTurned_242 (by decide) ?_
    refine g_istore M dL_isTurned_246 (by decide) ?_
    exact g_lvs M _ (lvs_c rfl (lvs_c rfl (lvs_c rfl (lvs_c rfl lvs_n)))) kk
  have loop : ∀ m w : Nat, w + m = 5 → B 183 [(0, .ref 0), (2, .long (lkG d)), (7, .int (nI s)), (8, .ref 95), (9, .ref 96), (10, .int (nI n)), (11, .int 1), (12, .int (nI w))] [] (OW d2 d1 (K + 1) rm' R' t ++ E2 d x) := by
    intro m
    induction m with
    | zero =>
      intro w hw
      obtain rfl : w = 5 := by omega
      refine g_iload M dL_isTurned_183 rfl ?_
      refine g_iconst M 5 dL_isTurned_185 (by decide) ?_
      refine g_icmp_ge M 229 dL_isTurned_186 (by decide) (fun _ => ?_) (fun h9 => absurd (by decide) h9)
      exact g_lvs M _ (lvs_c rfl (lvs_c rfl (lvs_c rfl (lvs_c rfl lvs_n)))) k229
    | succ m ih =>
      intro w hw
      have k216 : B 216 [(0, .ref 0), (2, .long (lkG d)), (7, .int (nI s)), (8, .ref 95), (9, .ref 96), (10, .int (nI n)), (12, .int (nI w))] [] (OW d2 d1 (K + 1) rm' R' t ++ E2 d x) := by
        refine g_iconst M 1 dL_isTurned_216 (by decide) ?_
        refine g_goto M 221 dL_isTurned_217 (by decide) ?_
        refine g_istore M dL_isTurned_221 (by decide) ?_
        refine g_iinc1 M dL_isTurned_223 rfl (by decide) ?_
        refine g_goto M 183 dL_isTurned_226 (by decide) ?_
        refine g_lvs M _ (lvs_c rfl (lvs_c rfl (lvs_c rfl (lvs_c rfl (lvs_c rfl (lvs_c rfl (lvs_c rfl (lvs_c rfl lvs_n)))))))) (by have h := ih (w + 1) (by omega); rw [nI_succ] at h; exact h)
      refine g_iload M dL_isTurned_183 rfl ?_
      refine g_iconst M 5 dL_isTurned_185 (by decide) ?_
      refine g_icmp_ge M 229 dL_isTurned_186 (by decide) (fun h9 => absurd h9 (nI_ge (a := w) (b := 5) (by omega) (by omega))) (fun _ => ?_)
      refine g_iload M dL_isTurned_189 rfl ?_
      refine g_if_eq M 220 dL_isTurned_191 (by decide) (fun h9 => absurd h9 (by decide)) (fun _ => ?_)
      refine g_iload M dL_isTurned_194 rfl ?_
      refine g_iload M dL_isTurned_196 rfl ?_
      rcases Nat.lt_or_ge n s with hn | hn
      · refine g_icmp_lt M 216 dL_isTurned_198 (by decide) (fun _ => ?_) (fun h9 => absurd (nI_lt hn (by omega)) h9)
        exact g_lvs M _ (lvs_c rfl (lvs_c rfl (lvs_c rfl (lvs_c rfl (lvs_c rfl (lvs_c rfl (lvs_c rfl lvs_n))))))) k216
      · refine g_icmp_lt M 216 dL_isTurned_198 (by decide) (fun h9 => absurd h9 (nI_nlt hn (by omega))) (fun _ => ?_)
        refine g_aload_n M dL_isTurned_201 rfl ?_
        refine g_iload M dL_isTurned_202 rfl ?_
        refine g_iconst M 3 dL_isTurned_204 (by decide) ?_
        refine q_V2i M (fr2 (l_wh3 hrm hO2 w (by omega))) lk_L_19 dL_isTurned_205 (by decide +kernel) ⟨Nat.le_of_ble_eq_true rfl, Nat.le_of_ble_eq_true rfl⟩ ⟨rfl, rfl⟩ nd97 rfl rfl rfl (Nat.le_of_ble_eq_true rfl) ?_
        rw [hh (by omega) w (by omega)]
        refine g_aload M dL_isTurned_208 rfl ?_
        refine g_iload M dL_isTurned_210 rfl ?_
        refine g_iald M dL_isTurned_212 (wy_at0 ow_len) (vp_in_nI (by omega) (by omega)) ?_
        rw [cl5 w (by omega), mixf_in _ _ (by omega)]
        refine g_icmp_ne M 220 dL_isTurned_213 (by decide) (fun h9 => absurd rfl h9) (fun _ => ?_)
        exact g_lvs M _ (lvs_c rfl (lvs_c rfl (lvs_c rfl (lvs_c rfl (lvs_c rfl (lvs_c rfl (lvs_c rfl lvs_n))))))) k216
  have k173 : B 173 [(0, .ref 0), (2, .long (lkG d)), (7, .int (nI s)), (8, .ref 95), (9, .ref 96), (10, .int (nI n))] [] (OW d2 d1 (K + 1) rm' R' t ++ E2 d x) := by
    refine g_iconst M 1 dL_isTurned_173 (by decide) ?_
    refine g_goto M 178 dL_isTurned_174 (by decide) ?_
    refine g_istore M dL_isTurned_178 (by decide) ?_
    refine g_iconst M 0 dL_isTurned_180 (by decide) ?_
    refine g_istore M dL_isTurned_181 (by decide) ?_
    exact g_lvs M _ (lvs_c rfl (lvs_c rfl (lvs_c rfl (lvs_c rfl (lvs_c rfl (lvs_c rfl (lvs_c rfl (lvs_c rfl lvs_n)))))))) (loop 5 0 (by omega))
  have k150 : B 150 [(0, .ref 0), (2, .long (lkG d)), (6, .int (whyD d y)), (7, .int (nI s)), (8, .ref 95), (9, .ref 96), (10, .int (nI n))] [] (OW d2 d1 (K + 1) rm' R' t ++ E2 d x) := by
    refine g_iload M dL_isTurned_150 rfl ?_
    by_cases hn : n = 0
    · refine g_if_ne M 159 dL_isTurned_152 (by decide) (fun h9 => absurd (by rw [hn]; rfl) h9) (fun _ => ?_)
      refine g_iconst M 1 dL_isTurned_155 (by decide) ?_
      refine g_goto M 160 dL_isTurned_156 (by decide) ?_
      refine g_iload M dL_isTurned_160 rfl ?_
      refine g_if_eq M 169 dL_isTurned_162 (by decide) (fun h9 => absurd h9 (h0.mp hn)) (fun _ => ?_)
      refine g_iconst M 1 dL_isTurned_165 (by decide) ?_
      refine g_goto M 170 dL_isTurned_166 (by decide) ?_
      refine g_icmp_ne M 177 dL_isTurned_170 (by decide) (fun h9 => absurd rfl h9) (fun _ => ?_)
      exact g_lvs M _ (lvs_c rfl (lvs_c rfl (lvs_c rfl (lvs_c rfl (lvs_c rfl (lvs_c rfl lvs_n)))))) k173
    · refine g_if_ne M 159 dL_isTurned_152 (by decide) (fun _ => ?_) (fun h9 => absurd h9 (nI_ne0 (by omega) (by omega)))
      refine g_iconst M 0 dL_isTurned_159 (by decide) ?_
      refine g_iload M dL_isTurned_160 rfl ?_
      refine g_if_eq M 169 dL_isTurned_162 (by decide) (fun _ => ?_) (fun h9 => absurd (Decidable.not_not.mp (fun z => hn (h0.mpr z))) h9)
      refine g_iconst M 0 dL_isTurned_169 (by decide) ?_
      refine g_icmp_ne M 177 dL_isTurned_170 (by decide) (fun h9 => absurd rfl h9) (fun _ => ?_)
      exact g_lvs M _ (lvs_c rfl (lvs_c rfl (lvs_c rfl (lvs_c rfl (lvs_c rfl (lvs_c rfl lvs_n)))))) k173
  have k130 : ∀ v : Int32, sCr d2 = sCr d + v → B 130 [(0, .ref 0), (2, .long (lkG d)), (5, .int bk), (6, .int (whyD d y)), (7, .int (nI s)), (8, .ref 95), (9, .ref 96), (10, .int (nI n))] [.int v, .int (sCr d), .int (sCr d2)] (OW d2 d1 (K + 1) rm' R' t ++ E2 d x) := by
    intro v hv
    refine g_iadd M dL_isTurned_130 ?_
    rw [← hv]
    refine g_icmp_ne M 177 dL_isTurned_131 (by decide) (fun h9 => absurd rfl h9) (fun _ => ?_)
    refine g_iload M dL_isTurned_134 rfl ?_
    refine g_iload M dL_isTurned_136 rfl ?_
    by_cases hn : n = s
    · refine g_icmp_eq M 150 dL_isTurned_138 (by decide) (fun _ => ?_) (fun h9 => absurd (by rw [hn]) h9)
      exact g_lvs M _ (lvs_c rfl (lvs_c rfl (lvs_c rfl (lvs_c rfl (lvs_c rfl (lvs_c rfl (lvs_c rfl lvs_n))))))) k150
    · refine g_icmp_eq M 150 dL_isTurned_138 (by decide) (fun h9 => absurd h9 (fun z => hn ((nI_eq (by omega) (by omega)).mp z))) (fun _ => ?_)
      refine g_aload_n M dL_isTurned_141 rfl ?_
      refine g_iload M dL_isTurned_142 rfl ?_
      refine q_V1i M (fr2 (l_whyb hrm hD)) lk_L_29 dL_isTurned_144 (by decide +kernel) ⟨Nat.le_of_ble_eq_true rfl, Nat.le_of_ble_eq_true rfl⟩ ⟨rfl, rfl⟩ nd97 rfl rfl rfl (Nat.le_of_ble_eq_true rfl) ?_
      refine g_if_eq M 177 dL_isTurned_147 (by decide) (fun h9 => absurd h9 (hend (by omega))) (fun _ => ?_)
      exact g_lvs M _ (lvs_c rfl (lvs_c rfl (lvs_c rfl (lvs_c rfl (lvs_c rfl (lvs_c rfl (lvs_c rfl lvs_n))))))) k150
  refine g_iload M dL_isTurned_99 rfl ?_
  refine g_if_lt M 177 dL_isTurned_101 (by decide) (fun h9 => absurd h9 (nI_pos (by omega))) (fun _ => ?_)
  refine g_iload M dL_isTurned_104 rfl ?_
  refine g_iload M dL_isTurned_106 rfl ?_
  refine g_icmp_gt M 177 dL_isTurned_108 (by decide) (fun h9 => absurd h9 (fun z => by rw [Int32.lt_iff_toInt_lt, nI_toInt (by omega), nI_toInt (by omega)] at z; omega)) (fun _ => ?_)
  refine g_aload_n M dL_isTurned_111 rfl ?_
  refine g_iconst M 0 dL_isTurned_112 (by decide) ?_
  refine q_V1i M (fr2 (l_cnt0 hrm)) lk_L_13 dL_isTurned_113 (by decide +kernel) ⟨Nat.le_of_ble_eq_true rfl, Nat.le_of_ble_eq_true rfl⟩ ⟨rfl, rfl⟩ nd97 rfl rfl rfl (Nat.le_of_ble_eq_true rfl) ?_
  refine g_iload M dL_isTurned_116 rfl ?_
  refine g_iload_n M dL_isTurned_118 rfl ?_
  rcases hD.le h1 h6 with ⟨-, q, -, -⟩ | ⟨-, q, -, -⟩
  · refine g_if_le M 127 dL_isTurned_119 (by decide) (fun h9 => absurd h9 q) (fun _ => ?_)
    rw [if_pos q] at hcr
    refine g_iload M dL_isTurned_122 rfl ?_
    refine g_goto M 130 dL_isTurned_124 (by decide) ?_
    exact g_lvs M _ (lvs_c rfl (lvs_c rfl (lvs_c rfl (lvs_c rfl (lvs_c rfl (lvs_c rfl (lvs_c rfl (lvs_c rfl lvs_n)))))))) (k130 _ hcr)
  · refine g_if_le M 127 dL_isTurned_119 (by decide) (fun _ => ?_) (fun h9 => absurd q h9)
    rw [if_neg (fun z => z q)] at hcr
    refine g_iload M dL_isTurned_127 rfl ?_
    refine g_ineg M dL_isTurned_129 ?_
    exact g_lvs M _ (lvs_c rfl (lvs_c rfl (lvs_c rfl (lvs_c rfl (lvs_c rfl (lvs_c rfl (lvs_c rfl (lvs_c rfl lvs_n)))))))) (k130 _ hcr)
/-- ahead of the turn -/
theorem u_0 {K : Nat} {rm' : Nat → Nat} {R' : Nat → SD} {kF : Nat} {rmF : Nat → Nat} {RF : Nat → SD} {B : KT} (hH0 : Hs b k rm R) (hd : GP b d) (hD : Dir y x bk s) (h1 : 1 ≤ s) (h6 : s ≤ 60) (hp : puK k = K + 1 ∧ puM k rm = rm' ∧ puR k rm R d = R') (hH : Hs b (K + 1) rm' R') (hR : R' (rm' K) = d) (hrF : ∀ j, rmF j < 6) (M : MU d d1 kF rmF RF t 0 0 B)
    (kk : ∀ B, MU d d1 kF rmF RF t 2 10 B → B 248 [(0, .ref 0), (2, .long (lkG d)), (9, .ref 96), (11, .int 1)] [] (OW d d1 K rm' R' t ++ E2 d x)) : B 0 [(0, .ref 0), (1, .int x)] [] (OW d d1 k rm R t) := by
  have hrm := hH0.1
  have hk6 := hH0.2.2.1
  have hte := hd.1.1.te
  have hO := hd.1.1
  obtain ⟨p1, p2, p3⟩ := hp
  obtain ⟨t1, t2, t3, t4, t5⟩ := hD.tu h1 h6
  have htu := l_turn (d0 := d) (d1 := d1) (k := k) (rm := rm) (R := R) (t := t) hrm hk6 x y s h6 t1 t2 t3 t4 t5
  rw [p1, p2, p3] at htu
  have k41 : ∀ v : Int32, v = nI s → B 41 [(0, .ref 0), (1, .int x), (2, .long (lkG d)), (4, .int (sCr d)), (5, .int bk), (6, .int (whyD d y))] [.int v] (OW d d1 k rm R t) := by
    intro v hv
    rw [hv]
    refine g_istore M dL_isTurned_41 (by decide) ?_
    refine g_iconst M 5 dL_isTurned_43 (by decide) ?_
    refine n_newa (atype := .int) (ty := .int) (t0 := 0) (N' := 5) (a0 := (5, .inl (fun _ => 0))) M rfl (Or.inl rfl) aw_int (fun _ => rfl) (fun _ => rfl) (fun _ _ => rfl) (by decide) rfl (Nat.le_of_ble_eq_true rfl) ⟨Nat.le_of_ble_eq_true rfl, Nat.le_of_ble_eq_true rfl⟩ dL_isTurned_44 ⟨by rw [ow_len]; exact ow_cl hrm, rfl, rfl, Nat.le_of_ble_eq_true rfl⟩ (xm_k (Nat.le_of_eq ow_len.symm) ow_len rfl (ow_cl hrF)) (fun B M => ?_)
    show B 46 [(7, .int (nI s)), (0, .ref 0), (1, .int x), (2, .long (lkG d)), (4, .int (sCr d)), (5, .int bk), (6, .int (whyD d y))] [.ref 95] (OW d d1 k rm R t ++ [EA (fun _ => 0)])
    refine g_astore M dL_isTurned_46 (by decide) ?_
    refine g_iconst M 5 dL_isTurned_48 (by decide) ?_
    refine n_newa (atype := .int) (ty := .int) (t0 := 0) (N' := 5) (a0 := (5, .inl (fun _ => 0))) M rfl (Or.inl rfl) aw_int (fun _ => rfl) (fun _ => rfl) (fun _ _ => rfl) (by decide) rfl (Nat.le_of_ble_eq_true rfl) ⟨Nat.le_of_ble_eq_true rfl, Nat.le_of_ble_eq_true rfl⟩ dL_isTurned_49 ⟨by rw [List.length_append, ow_len]; exact clW_app (clW_mono (by decide) (ow_cl hrm)) ⟨trivial, trivial⟩, rfl, rfl, Nat.le_of_ble_eq_true rfl⟩ (xm_k (by rw [List.length_append, ow_len]; decide) ow_len rfl (ow_cl hrF)) (fun B M => ?_)
    rw [List.append_assoc]
    show B 51 [(8, .ref 95), (7, .int (nI s)), (0, .ref 0), (1, .int x), (2, .long (lkG d)), (4, .int (sCr d)), (5, .int bk), (6, .int (whyD d y))] [.ref 96] (OW d d1 k rm R t ++ [EA (fun _ => 0), EA (fun _ => 0)])
    have k92 : B 92 [(0, .ref 0), (1, .int x), (2, .long (lkG d)), (4, .int (sCr d)), (5, .int bk), (6, .int (whyD d y)), (7, .int (nI s)), (8, .ref 95), (9, .ref 96)] [] (OW d d1 k rm R t ++ E2 d x) := by
      refine g_aload_n M dL_isTurned_92 rfl ?_
      refine g_iload_n M dL_isTurned_93 rfl ?_
      refine q_V1i M (fr2 htu) lk_L_73 dL_isTurned_94 (by decide +kernel) ⟨Nat.le_of_ble_eq_true rfl, Nat.le_of_ble_eq_true rfl⟩ ⟨rfl, rfl⟩ nd97 rfl rfl rfl (Nat.le_of_ble_eq_true rfl) ?_
      refine g_istore M dL_isTurned_97 (by decide) ?_
      exact g_lvs M _ (lvs_c rfl (lvs_c rfl (lvs_c rfl (lvs_c rfl (lvs_c rfl (lvs_c rfl (lvs_c rfl (lvs_c rfl (lvs_c rfl (lvs_c rfl lvs_n)))))))))) (u_99 hd hD h1 h6 hH hR M (kk _ M))
    have loop : ∀ m w : Nat, w + m = 5 → B 56 [(0, .ref 0), (1, .int x), (2, .long (lkG d)), (4, .int (sCr d)), (5, .int bk), (6, .int (whyD d y)), (7, .int (nI s)), (8, .ref 95), (9, .ref 96), (10, .int (nI w))] [] (OW d d1 k rm R t ++ [EA (mixf w (dueF d x) (fun _ => 0)), EA (mixf w (topF d) (fun _ => 0))]) := by
      intro m
      induction m with
      | zero =>
        intro w hw
        obtain rfl : w = 5 := by omega
        refine g_iload M dL_isTurned_56 rfl ?_
        refine g_iconst M 5 dL_isTurned_58 (by decide) ?_
        refine g_icmp_ge M 92 dL_isTurned_59 (by decide) (fun _ => ?_) (fun h9 => absurd (by decide) h9)
        exact g_lvs M _ (lvs_c rfl (lvs_c rfl (lvs_c rfl (lvs_c rfl (lvs_c rfl (lvs_c rfl (lvs_c rfl (lvs_c rfl (lvs_c rfl lvs_n))))))))) k92
      | succ m ih =>
        intro w hw
        refine g_iload M dL_isTurned_56 rfl ?_
        refine g_iconst M 5 dL_isTurned_58 (by decide) ?_
        refine g_icmp_ge M 92 dL_isTurned_59 (by decide) (fun h9 => absurd h9 (nI_ge (a := w) (b := 5) (by omega) (by omega))) (fun _ => ?_)
        refine g_aload M dL_isTurned_62 rfl ?_
        refine g_iload M dL_isTurned_64 rfl ?_
        refine g_aload_n M dL_isTurned_66 rfl ?_
        refine g_iload_n M dL_isTurned_67 rfl ?_
        refine g_iload M dL_isTurned_68 rfl ?_
        refine q_V2i M (fr2 (l_ahead hrm x w (by omega) (hD.rng h6))) lk_L_77 dL_isTurned_70 (by decide +kernel) ⟨Nat.le_of_ble_eq_true rfl, Nat.le_of_ble_eq_true rfl⟩ ⟨rfl, rfl⟩ nd97 rfl rfl rfl (Nat.le_of_ble_eq_true rfl) ?_
        refine g_iast M dL_isTurned_73 (wy_at0 ow_len) (vp_in_nI (by omega) (by omega)) ?_
        rw [wy_set0 ow_len, cl5 w (by omega), mixf_upd2 (g := dueF d x) rfl]
        refine g_aload M dL_isTurned_74 rfl ?_
        refine g_iload M dL_isTurned_76 rfl ?_
        refine g_aload_n M dL_isTurned_78 rfl ?_
        refine g_iload M dL_isTurned_79 rfl ?_
        refine g_iconst M 1 dL_isTurned_81 (by decide) ?_
        refine q_V2i M (fr2 (l_wh1 hrm hte w (by omega))) lk_L_19 dL_isTurned_82 (by decide +kernel) ⟨Nat.le_of_ble_eq_true rfl, Nat.le_of_ble_eq_true rfl⟩ ⟨rfl, rfl⟩ nd97 rfl rfl rfl (Nat.le_of_ble_eq_true rfl) ?_
        refine g_iast M dL_isTurned_85 (wy_at1 ow_len) (vp_in_nI (by omega) (by omega)) ?_
        rw [wy_set1 ow_len, cl5 w (by omega), mixf_upd2 (g := topF d) rfl]
        refine g_iinc1 M dL_isTurned_86 rfl (by decide) ?_
        refine g_goto M 56 dL_isTurned_89 (by decide) ?_
        refine g_lvs M _ (lvs_c rfl (lvs_c rfl (lvs_c rfl (lvs_c rfl (lvs_c rfl (lvs_c rfl (lvs_c rfl (lvs_c rfl (lvs_c rfl (lvs_c rfl lvs_n)))))))))) (by have h := ih (w + 1) (by omega); rw [nI_succ] at h; exact h)
    refine g_astore M dL_isTurned_51 (by decide) ?_
    refine g_iconst M 0 dL_isTurned_53 (by decide) ?_
    refine g_istore M dL_isTurned_54 (by decide) ?_
    have h := loop 5 0 (by omega)
    rw [mixf_0, mixf_0] at h
    exact g_lvs M _ (lvs_c rfl (lvs_c rfl (lvs_c rfl (lvs_c rfl (lvs_c rfl (lvs_c rfl (lvs_c rfl (lvs_c rfl (lvs_c rfl (lvs_c rfl lvs_n)))))))))) h
  have k23 : B 23 [(0, .ref 0), (1, .int x), (2, .long (lkG d)), (4, .int (sCr d)), (5, .int bk)] [] (OW d d1 k rm R t) := by
    refine g_aload_n M dL_isTurned_23 rfl ?_
    refine g_iload M dL_isTurned_24 rfl ?_
    refine q_V1i M (l_whyb hrm hD) lk_L_29 dL_isTurned_26 (by decide +kernel) ⟨Nat.le_of_ble_eq_true rfl, Nat.le_of_ble_eq_true rfl⟩ ⟨rfl, rfl⟩ nd95 rfl rfl rfl (Nat.le_of_ble_eq_true rfl) ?_
    refine g_istore M dL_isTurned_29 (by decide) ?_
    refine g_iload_n M dL_isTurned_31 rfl ?_
    rcases hD.le h1 h6 with ⟨-, q, q2, -⟩ | ⟨-, q, q2, -⟩
    · refine g_if_le M 39 dL_isTurned_32 (by decide) (fun h9 => absurd h9 q) (fun _ => ?_)
      refine g_iload_n M dL_isTurned_35 rfl ?_
      refine g_goto M 41 dL_isTurned_36 (by decide) ?_
      exact g_lvs M _ (lvs_c rfl (lvs_c rfl (lvs_c rfl (lvs_c rfl (lvs_c rfl (lvs_c rfl lvs_n)))))) (k41 _ q2)
    · refine g_if_le M 39 dL_isTurned_32 (by decide) (fun _ => ?_) (fun h9 => absurd q h9)
      refine g_iload_n M dL_isTurned_39 rfl ?_
      refine g_ineg M dL_isTurned_40 ?_
      exact g_lvs M _ (lvs_c rfl (lvs_c rfl (lvs_c rfl (lvs_c rfl (lvs_c rfl (lvs_c rfl lvs_n)))))) (k41 _ q2)
  refine g_aload_n M dL_isTurned_0 rfl ?_
  refine q_S1l M (c_looks hrm hO) lk_L_101 dL_isTurned_1 (by decide +kernel) ⟨Nat.le_of_ble_eq_true rfl, Nat.le_of_ble_eq_true rfl⟩ ⟨rfl, rfl⟩ nd95 rfl (Nat.le_of_ble_eq_true rfl) ?_
  refine g_lstore_n M dL_isTurned_4 (by decide) ?_
  refine g_aload_n M dL_isTurned_5 rfl ?_
  refine g_iconst M 0 dL_isTurned_6 (by decide) ?_
  refine q_V1i M (l_cnt0 hrm) lk_L_13 dL_isTurned_7 (by decide +kernel) ⟨Nat.le_of_ble_eq_true rfl, Nat.le_of_ble_eq_true rfl⟩ ⟨rfl, rfl⟩ nd95 rfl rfl rfl (Nat.le_of_ble_eq_true rfl) ?_
  refine g_istore M dL_isTurned_10 (by decide) ?_
  refine g_iload_n M dL_isTurned_12 rfl ?_
  rcases hD.le h1 h6 with ⟨-, q, -, q2⟩ | ⟨-, q, -, q2⟩
  · refine g_if_le M 20 dL_isTurned_13 (by decide) (fun h9 => absurd h9 q) (fun _ => ?_)
    refine g_iconst M 0 dL_isTurned_16 (by decide) ?_
    refine g_goto M 21 dL_isTurned_17 (by decide) ?_
    refine g_istore M dL_isTurned_21 (by decide) ?_
    rw [q2] at k23
    exact g_lvs M _ (lvs_c rfl (lvs_c rfl (lvs_c rfl (lvs_c rfl (lvs_c rfl lvs_n))))) k23
  · refine g_if_le M 20 dL_isTurned_13 (by decide) (fun _ => ?_) (fun h9 => absurd q h9)
    refine g_iconst M 1 dL_isTurned_20 (by decide) ?_
    refine g_istore M dL_isTurned_21 (by decide) ?_
    rw [q2] at k23
    exact g_lvs M _ (lvs_c rfl (lvs_c rfl (lvs_c rfl (lvs_c rfl (lvs_c rfl lvs_n))))) k23
/-- the end: undo, and all is as it was -/
theorem u_335 {K : Nat} {rm' : Nat → Nat} {R' : Nat → SD} {d2 : SD} {k9 n9 : Nat} {B : KT} (hH : Hs b (K + 1) rm' R') (hO : SOk d) (hR : R' (rm' K) = d) (M : MU d d1 K rm' R' t k9 n9 B) : B 335 [(0, .ref 0), (2, .long (lkG d)), (11, .int 1)] [] (OW d2 d1 (K + 1) rm' R' t ++ E2 d x) := by
  have hrm := hH.1
  have hK6 := hH.2.2.1
  have hu := l_undo (d0 := d2) (d1 := d1) (k := K) (rm := rm') (R := R') (t := t) hrm (by omega)
  rw [hR] at hu
  refine g_iload M dL_isTurned_335 rfl ?_
  refine g_if_eq M 360 dL_isTurned_337 (by decide) (fun h9 => absurd h9 (by decide)) (fun _ => ?_)
  refine g_aload_n M dL_isTurned_340 rfl ?_
  refine q_V0i M (fr2 hu) lk_L_98 dL_isTurned_341 (by decide +kernel) ⟨Nat.le_of_ble_eq_true rfl, Nat.le_of_ble_eq_true rfl⟩ ⟨rfl, rfl⟩ nd97 rfl rfl rfl (Nat.le_of_ble_eq_true rfl) ?_
  refine g_if_lt M 360 dL_isTurned_344 (by decide) (fun h9 => absurd h9 (nI_pos (by omega))) (fun _ => ?_)
  refine g_aload_n M dL_isTurned_347 rfl ?_
  refine q_S1l M (fr2 (c_looks hrm hO)) lk_L_101 dL_isTurned_348 (by decide +kernel) ⟨Nat.le_of_ble_eq_true rfl, Nat.le_of_ble_eq_true rfl⟩ ⟨rfl, rfl⟩ nd97 rfl (Nat.le_of_ble_eq_true rfl) ?_
  refine g_lload_n M dL_isTurned_351 rfl ?_
  refine g_lcmp M dL_isTurned_352 ?_
  refine g_if_ne M 360 dL_isTurned_353 (by decide) (fun h9 => absurd ((lg_cmp_eq _ _).mpr rfl) h9) (fun _ => ?_)
  refine g_iconst M 1 dL_isTurned_356 (by decide) ?_
  refine g_goto M 361 dL_isTurned_357 (by decide) ?_
  exact m_zret M dL_isTurned_361 rfl rfl rfl rfl
theorem c_turned (hH : Hs b k rm R) (hd : GP b d) (hb : b + 100 ≤ 2 ^ 29) (hD : Dir y x bk s) (h1 : 1 ≤ s) (h6 : s ≤ 60) : ∃ (k' : Nat) (rm' : Nat → Nat) (R' : Nat → SD), Hs (b + 1) k' rm' R' ∧ QC 95 yL_isTurned cL_isTurned 14 (some .boolean) (rmn 8 2 10 196) [.ref 0, .int x] (OW d d1 k rm R t) (some (.int 1)) (OW d d1 k' rm' R' t) := by
  have hO := hd.1.1
  have hte := hO.te
  obtain ⟨K1, rm1, R1, e1, g1, r1, g1', -⟩ := psh hH (Nat.le_refl b) hd
  obtain ⟨K2, rm2, R2, e2, g2, r2, g2', -⟩ := psh g1' (Nat.le_refl b) hd
  obtain ⟨f1, f2, f3⟩ := e2
  obtain ⟨a1, a2, a3, a4, a5⟩ := tuP (s := 1) (by omega) (by omega)
  have ht1 := l_turn (d0 := d) (d1 := d1) (k := K1) (rm := rm1) (R := R1) (t := t) g1'.1 g1'.2.2.1 1 1 1 (by omega) a1 a2 a3 a4 a5
  rw [f1, f2, f3] at ht1
  by_cases hw : whyD d 1 = 0
  · have s1 : (tuG 1 1 d) = (1, stepD d 1) := by rw [tuG, if_pos hw]; rfl
    rw [s1] at ht1
    have hd3 : GP (b + 1) (stepD d 1) := ⟨GOk_step (by omega) hd.1 (Or.inl rfl) hw, CkO_step hd.2 (Or.inl rfl) hw⟩
    obtain ⟨K3, rm3, R3, e3, g3, r3, g3', q3⟩ := psh g2 (Nat.le_succ b) hd3
    obtain ⟨p1, p2, p3⟩ := e3
    obtain ⟨K4, rfl, r4⟩ := q3 d ⟨by omega, by omega, r2⟩
    obtain ⟨b1, b2, b3, b4, b5⟩ := tuN (s := 1) (by omega) (by omega)
    have ht2 := l_turn (d0 := stepD d 1) (d1 := d1) (k := K2 + 1) (rm := rm2) (R := R2) (t := t) g2.1 g2.2.2.1 (-1) (-1) 1 (by omega) b1 b2 b3 b4 b5
    rw [p1, p2, p3] at ht2
    have hrm3 := g3.1
    have hK3 := g3.2.2.1
    have hu := fun d9 => l_undo (d0 := d9) (d1 := d1) (k := K4 + 1) (rm := rm3) (R := R3) (t := t) hrm3 (by omega)
    rw [r3] at hu
    have hle := tuG_le (-1) 1 (stepD d 1)
    have hte4 : teOk (sTe (tuG (-1) 1 (stepD d 1)).2) := by
      obtain ⟨-, i2, -, -, -⟩ := tu_to (y := -1) (Or.inr rfl) 1 (stepD d 1) (by omega) (SOk_step hO 1)
      rw [i2]
      exact hte
    have htop : (tuG (-1) 1 (stepD d 1)).1 ≠ 0 → ∀ w, w < 5 → sTo (tuG (-1) 1 (stepD d 1)).2 w = sTo d w := by
      intro h w h5
      by_cases hw2 : whyD (stepD d 1) (-1) = 0
      · have s2 : (tuG (-1) 1 (stepD d 1)) = (1, stepD (stepD d 1) (-1)) := by rw [tuG, if_pos hw2]; rfl
        rw [s2]
        exact back_to hO h5
      · exact absurd ((tu_0 (-1) (m := 1) (by omega) (stepD d 1)).mpr hw2) h
    refine ⟨K4, rm3, R3, g3'.pop.1, QC.of (own := RL) (by decide) rfl (Nat.le_of_ble_eq_true rfl) rfl ow_len (ow_cl hH.1) (ow_cl hrm3) (fun B M => ?_)⟩
    refine u_0 hH hd hD h1 h6 e1 g1 r1 hrm3 M (fun B M => ?_)
    generalize (tuG (-1) 1 (stepD d 1)).1 = n at hle htop ht2 ⊢
    generalize (tuG (-1) 1 (stepD d 1)).2 = d4 at hte4 htop ht2 hu ⊢
    have k316 : B 316 [(0, .ref 0), (2, .long (lkG d)), (11, .int 1)] [] (OW d4 d1 (K4 + 1 + 1) rm3 R3 t ++ E2 d x) := by
      refine g_iload M dL_isTurned_316 rfl ?_
      refine g_if_eq M 332 dL_isTurned_318 (by decide) (fun h9 => absurd h9 (by decide)) (fun _ => ?_)
      refine g_aload_n M dL_isTurned_321 rfl ?_
      refine q_V0i M (fr2 (hu d4)) lk_L_98 dL_isTurned_322 (by decide +kernel) ⟨Nat.le_of_ble_eq_true rfl, Nat.le_of_ble_eq_true rfl⟩ ⟨rfl, rfl⟩ nd97 rfl rfl rfl (Nat.le_of_ble_eq_true rfl) ?_
      refine g_if_lt M 332 dL_isTurned_325 (by decide) (fun h9 => absurd h9 (nI_pos (by omega))) (fun _ => ?_)
      refine g_iconst M 1 dL_isTurned_328 (by decide) ?_
      refine g_goto M 333 dL_isTurned_329 (by decide) ?_
      refine g_istore M dL_isTurned_333 (by decide) ?_
      exact g_lvs M _ (lvs_c rfl (lvs_c rfl (lvs_c rfl lvs_n))) (u_335 g3' hO r4 M)
    have loop : ∀ m w : Nat, w + m = 5 → B 272 [(0, .ref 0), (2, .long (lkG d)), (9, .ref 96), (11, .int 1), (12, .int (nI n)), (13, .int (nI w))] [] (OW d4 d1 (K4 + 1 + 1) rm3 R3 t ++ E2 d x) := by
      intro m
      induction m with
      | zero =>
        intro w hw
        obtain rfl : w = 5 := by omega
        refine g_iload M dL_isTurned_272 rfl ?_
        refine g_iconst M 5 dL_isTurned_274 (by decide) ?_
        refine g_icmp_ge M 316 dL_isTurned_275 (by decide) (fun _ => ?_) (fun h9 => absurd (by decide) h9)
        exact g_lvs M _ (lvs_c rfl (lvs_c rfl (lvs_c rfl lvs_n))) k316
      | succ m ih =>
        intro w hw
        have k303 : B 303 [(0, .ref 0), (2, .long (lkG d)), (9, .ref 96), (12, .int (nI n)), (13, .int (nI w))] [] (OW d4 d1 (K4 + 1 + 1) rm3 R3 t ++ E2 d x) := by
          refine g_iconst M 1 dL_isTurned_303 (by decide) ?_
          refine g_goto M 308 dL_isTurned_304 (by decide) ?_
          refine g_istore M dL_isTurned_308 (by decide) ?_
          refine g_iinc1 M dL_isTurned_310 rfl (by decide) ?_
          refine g_goto M 272 dL_isTurned_313 (by decide) ?_
          refine g_lvs M _ (lvs_c rfl (lvs_c rfl (lvs_c rfl (lvs_c rfl (lvs_c rfl (lvs_c rfl lvs_n)))))) (by have h := ih (w + 1) (by omega); rw [nI_succ] at h; exact h)
        refine g_iload M dL_isTurned_272 rfl ?_
        refine g_iconst M 5 dL_isTurned_274 (by decide) ?_
        refine g_icmp_ge M 316 dL_isTurned_275 (by decide) (fun h9 => absurd h9 (nI_ge (a := w) (b := 5) (by omega) (by omega))) (fun _ => ?_)
        refine g_iload M dL_isTurned_278 rfl ?_
        refine g_if_eq M 307 dL_isTurned_280 (by decide) (fun h9 => absurd h9 (by decide)) (fun _ => ?_)
        refine g_iload M dL_isTurned_283 rfl ?_
        by_cases hn : n = 0
        · refine g_if_eq M 303 dL_isTurned_285 (by decide) (fun _ => ?_) (fun h9 => absurd (by rw [hn]; rfl) h9)
          exact g_lvs M _ (lvs_c rfl (lvs_c rfl (lvs_c rfl (lvs_c rfl (lvs_c rfl lvs_n))))) k303
        · refine g_if_eq M 303 dL_isTurned_285 (by decide) (fun h9 => absurd h9 (nI_ne0 (by omega) (by omega))) (fun _ => ?_)
          refine g_aload_n M dL_isTurned_288 rfl ?_
          refine g_iload M dL_isTurned_289 rfl ?_
          refine g_iconst M 1 dL_isTurned_291 (by decide) ?_
          refine q_V2i M (fr2 (l_wh1 hrm3 hte4 w (by omega))) lk_L_19 dL_isTurned_292 (by decide +kernel) ⟨Nat.le_of_ble_eq_true rfl, Nat.le_of_ble_eq_true rfl⟩ ⟨rfl, rfl⟩ nd97 rfl rfl rfl (Nat.le_of_ble_eq_true rfl) ?_
          rw [htop hn w (by omega)]
          refine g_aload M dL_isTurned_295 rfl ?_
          refine g_iload M dL_isTurned_297 rfl ?_
          refine g_iald M dL_isTurned_299 (wy_at1 ow_len) (vp_in_nI (by omega) (by omega)) ?_
          rw [cl5 w (by omega), mixf_in _ _ (by omega)]
          refine g_icmp_ne M 307 dL_isTurned_300 (by decide) (fun h9 => absurd rfl h9) (fun _ => ?_)
          exact g_lvs M _ (lvs_c rfl (lvs_c rfl (lvs_c rfl (lvs_c rfl (lvs_c rfl lvs_n))))) k303
    refine g_iload M dL_isTurned_248 rfl ?_
    refine g_if_eq M 335 dL_isTurned_250 (by decide) (fun h9 => absurd h9 (by decide)) (fun _ => ?_)
    refine g_aload_n M dL_isTurned_253 rfl ?_
    refine g_iconst M 1 dL_isTurned_254 (by decide) ?_
    refine q_V1i M (fr2 ht1) lk_L_73 dL_isTurned_255 (by decide +kernel) ⟨Nat.le_of_ble_eq_true rfl, Nat.le_of_ble_eq_true rfl⟩ ⟨rfl, rfl⟩ nd97 rfl rfl rfl (Nat.le_of_ble_eq_true rfl) ?_
    refine g_iconst M 1 dL_isTurned_258 (by decide) ?_
    refine g_icmp_ne M 335 dL_isTurned_259 (by decide) (fun h9 => absurd rfl h9) (fun _ => ?_)
    refine g_aload_n M dL_isTurned_262 rfl ?_
    refine g_iconst M (-1) dL_isTurned_263 (by decide) ?_
    refine q_V1i M (fr2 ht2) lk_L_73 dL_isTurned_264 (by decide +kernel) ⟨Nat.le_of_ble_eq_true rfl, Nat.le_of_ble_eq_true rfl⟩ ⟨rfl, rfl⟩ nd97 rfl rfl rfl (Nat.le_of_ble_eq_true rfl) ?_
    refine g_istore M dL_isTurned_267 (by decide) ?_
    refine g_iconst M 0 dL_isTurned_269 (by decide) ?_
    refine g_istore M dL_isTurned_270 (by decide) ?_
    exact g_lvs M _ (lvs_c rfl (lvs_c rfl (lvs_c rfl (lvs_c rfl (lvs_c rfl (lvs_c rfl lvs_n)))))) (loop 5 0 (by omega))
  · have s1 : (tuG 1 1 d) = (0, d) := by rw [tuG, if_neg hw]
    rw [s1] at ht1
    refine ⟨K2, rm2, R2, g2'.more (by omega), QC.of (own := RL) (by decide) rfl (Nat.le_of_ble_eq_true rfl) rfl ow_len (ow_cl hH.1) (ow_cl g2.1) (fun B M => ?_)⟩
    refine u_0 hH hd hD h1 h6 e1 g1 r1 g2.1 M (fun B M => ?_)
    refine g_iload M dL_isTurned_248 rfl ?_
    refine g_if_eq M 335 dL_isTurned_250 (by decide) (fun h9 => absurd h9 (by decide)) (fun _ => ?_)
    refine g_aload_n M dL_isTurned_253 rfl ?_
    refine g_iconst M 1 dL_isTurned_254 (by decide) ?_
    refine q_V1i M (fr2 ht1) lk_L_73 dL_isTurned_255 (by decide +kernel) ⟨Nat.le_of_ble_eq_true rfl, Nat.le_of_ble_eq_true rfl⟩ ⟨rfl, rfl⟩ nd97 rfl rfl rfl (Nat.le_of_ble_eq_true rfl) ?_
    refine g_iconst M 1 dL_isTurned_258 (by decide) ?_
    refine g_icmp_ne M 335 dL_isTurned_259 (by decide) (fun _ => ?_) (fun h9 => absurd h9 (show ¬ nI 0 = 1 by decide))
    exact g_lvs M _ (lvs_c rfl (lvs_c rfl (lvs_c rfl lvs_n))) (u_335 g2 hO r2 M)
end


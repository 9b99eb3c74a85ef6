/-! THE LAW'S SMALL METHODS: up, looks, isGood -/
def upG (v : Int32) (n : Nat) : Nat := v.toBitVec.toNat % 2 ^ 31 % n
theorem upG_lt {v : Int32} {n : Nat} (h : 0 < n) : upG v n < n := Nat.mod_lt _ h
theorem c_up (v : Int32) (n : Nat) (h0 : 0 < n) (hn : n < 2 ^ 31) : Con yL_up cL_up 2 (some .int) (rmk 0 0) [.int v, .int (nI n)] [] (some (.int (nI (upG v n)))) [] := by
  refine Con.of (own := RL) (by decide) rfl (Nat.le_of_ble_eq_true rfl) rfl (fun B M => ?_)
  refine r_iload_n M dL_up_0 rfl ?_
  refine r_ldc M kc_L_8 dL_up_1 ?_
  refine r_iand M dL_up_3 ?_
  rw [pk_and v (m := 2147483647) 31 (by decide +kernel)]
  refine r_iload_n M dL_up_4 rfl ?_
  refine r_irem M dL_up_5 (nI_ne0 h0 hn) ?_
  rw [pk_rem (by have := Nat.mod_lt v.toBitVec.toNat (show 0 < 2 ^ 31 by decide); omega) h0 hn]
  exact r_iret M dL_up_6 rfl rfl rfl
theorem l_up {w : List va_E} (hl : w.length = 95) (hw : clW 95 w) (v : Int32) (n : Nat) (h0 : 0 < n) (hn : n < 2 ^ 31) : QC 95 yL_up cL_up 2 (some .int) (rmk 0 0) [.int v, .int (nI n)] w (some (.int (nI (upG v n)))) w :=
  (QC.ofCon (N := 0) (c_up v n h0 hn) rfl clW_n clW_n).frame (by decide) (E := w) (by rw [hl]) hw rfl rfl
theorem foldN_0 (f : Nat → Int32) (h : Int64) : foldN f 0 h = h := rfl
theorem foldN_s (f : Nat → Int32) (j : Nat) (h : Int64) : foldN f (j + 1) h = 31 * foldN f j h + (f j).toInt64 := rfl
/-- what the looks tell of a state -/
def lkW (d : SD) : Nat → Int64 → Int64
  | 0, h => h
  | w + 1, h => foldN (fun j => hAt (sHe d) (nI w) (nI j)) (sTe d w).toNatClampNeg (foldN (fun x => whlD d (nI w) (nI x)) 7 (lkW d w h))
theorem lkW_0 (d : SD) (h : Int64) : lkW d 0 h = h := rfl
theorem lkW_s (d : SD) (w : Nat) (h : Int64) : lkW d (w + 1) h = foldN (fun j => hAt (sHe d) (nI w) (nI j)) (sTe d w).toNatClampNeg (foldN (fun x => whlD d (nI w) (nI x)) 7 (lkW d w h)) := rfl
def lk1 (d : SD) : Int64 := foldN (fun i => cntD d 0 (nI i)) 12 137
def lk2 (d : SD) : Int64 := foldN (fun j => scnD d (nI (j / 7)) (nI (j % 7))) (7 * (sSc d).toNatClampNeg) (lkW d 5 (lk1 d))
def lkG (d : SD) : Int64 := 31 * (31 * lk2 d + (whyD d 1).toInt64) + (whyD d (-1)).toInt64
section
variable {d0 d1 : SD} {k : Nat} {rm : Nat → Nat} {R : Nat → SD} {t : WD}
theorem c_looks (hrm : ∀ j, rm j < 6) (hO : SOk d0) : QC 95 yL_looks cL_looks 5 (some .long) (rmn 7 0 0 172) [.ref 0] (OW d0 d1 k rm R t) (some (.long (lkG d0))) (OW d0 d1 k rm R t) := by
  obtain ⟨c, hc, hsc⟩ := hO.2
  have hte := hO.1.te
  refine QC.of (own := RL) (by decide) rfl (Nat.le_of_ble_eq_true rfl) rfl ow_len (ow_cl hrm) (ow_cl hrm) (fun B M => ?_)
  have l5 : B 151 [(0, .ref 0), (1, .long (lk2 d0))] [] (OW d0 d1 k rm R t) := by
    refine g_ldc2 M kc_L_11 dL_looks_151 ?_
    refine g_ldc2 M kc_L_11 dL_looks_154 ?_
    refine g_lload_n M dL_looks_157 rfl ?_
    refine g_lmul M dL_looks_158 ?_
    refine g_aload_n M dL_looks_159 rfl ?_
    refine g_iconst M 0 dL_looks_160 (by decide) ?_
    refine q_V1i M (l_why0 hrm) lk_L_29 dL_looks_161 (by decide +kernel) ⟨Nat.le_of_ble_eq_true rfl, Nat.le_of_ble_eq_true rfl⟩ ⟨rfl, rfl⟩ nd95 rfl rfl rfl (Nat.le_of_ble_eq_true rfl) ?_
    refine g_i2l M dL_looks_164 ?_
    refine g_ladd M dL_looks_165 ?_
    refine g_lmul M dL_looks_166 ?_
    refine g_aload_n M dL_looks_167 rfl ?_
    refine g_iconst M 1 dL_looks_168 (by decide) ?_
    refine q_V1i M (l_why1 hrm) lk_L_29 dL_looks_169 (by decide +kernel) ⟨Nat.le_of_ble_eq_true rfl, Nat.le_of_ble_eq_true rfl⟩ ⟨rfl, rfl⟩ nd95 rfl rfl rfl (Nat.le_of_ble_eq_true rfl) ?_
    refine g_i2l M dL_looks_172 ?_
    refine g_ladd M dL_looks_173 ?_
    exact m_lret M dL_looks_174 rfl rfl ((List.append_nil _).symm)
  have l4 : ∀ m j : Nat, j + m = 7 * c → B 112 [(0, .ref 0), (1, .long (foldN (fun j => scnD d0 (nI (j / 7)) (nI (j % 7))) j (lkW d0 5 (lk1 d0)))), (3, .int (nI j))] [] (OW d0 d1 k rm R t) := by
    intro m
    induction m with
    | zero =>
      intro j hj
      refine g_iload_n M dL_looks_112 rfl ?_
      refine g_bipush M 7 dL_looks_113 (by decide) ?_
      refine g_aload_n M dL_looks_115 rfl ?_
      refine g_bipush M 7 dL_looks_116 (by decide) ?_
      refine q_V1i M (l_cnt7 hrm) lk_L_13 dL_looks_118 (by decide +kernel) ⟨Nat.le_of_ble_eq_true rfl, Nat.le_of_ble_eq_true rfl⟩ ⟨rfl, rfl⟩ nd95 rfl rfl rfl (Nat.le_of_ble_eq_true rfl) ?_
      refine g_imul M dL_looks_121 ?_
      rw [hsc, show (7 : Int32) = nI 7 from rfl, pk_mul]
      refine g_icmp_ge M 151 dL_looks_122 (by decide) (fun _ => ?_) (fun h9 => absurd (nI_le (by omega) (by omega)) h9)
      refine g_lvs M [(0, .ref 0), (1, .long (lk2 d0))] (lvs_c rfl (lvs_c ?_ lvs_n)) l5
      rw [lk2, hsc, cl5 c (by omega), show 7 * c = j by omega]
      rfl
    | succ m ih =>
      intro j hj
      refine g_iload_n M dL_looks_112 rfl ?_
      refine g_bipush M 7 dL_looks_113 (by decide) ?_
      refine g_aload_n M dL_looks_115 rfl ?_
      refine g_bipush M 7 dL_looks_116 (by decide) ?_
      refine q_V1i M (l_cnt7 hrm) lk_L_13 dL_looks_118 (by decide +kernel) ⟨Nat.le_of_ble_eq_true rfl, Nat.le_of_ble_eq_true rfl⟩ ⟨rfl, rfl⟩ nd95 rfl rfl rfl (Nat.le_of_ble_eq_true rfl) ?_
      refine g_imul M dL_looks_121 ?_
      rw [hsc, show (7 : Int32) = nI 7 from rfl, pk_mul]
      refine g_icmp_ge M 151 dL_looks_122 (by decide) (fun h9 => absurd h9 (nI_ge (by omega) (by omega))) (fun _ => ?_)
      refine g_ldc2 M kc_L_11 dL_looks_125 ?_
      refine g_lload_n M dL_looks_128 rfl ?_
      refine g_lmul M dL_looks_129 ?_
      refine g_aload_n M dL_looks_130 rfl ?_
      refine g_iload_n M dL_looks_131 rfl ?_
      refine g_bipush M 7 dL_looks_132 (by decide) ?_
      refine g_idiv M dL_looks_134 (by decide) ?_
      rw [show (7 : Int32) = nI 7 from rfl, pk_div (by omega) (by decide) (by decide)]
      refine g_iload_n M dL_looks_135 rfl ?_
      refine g_bipush M 7 dL_looks_136 (by decide) ?_
      refine g_irem M dL_looks_138 (by decide) ?_
      rw [show (7 : Int32) = nI 7 from rfl, pk_rem (by omega) (by decide) (by decide)]
      refine q_V2i M (l_scn hrm hte (nI (j / 7)) (by rw [hsc, nI_toInt (by omega), nI_ltI (by omega) (by omega)]; omega) (j % 7) (by omega)) lk_L_26 dL_looks_139 (by decide +kernel) ⟨Nat.le_of_ble_eq_true rfl, Nat.le_of_ble_eq_true rfl⟩ ⟨rfl, rfl⟩ nd95 rfl rfl rfl (Nat.le_of_ble_eq_true rfl) ?_
      refine g_i2l M dL_looks_142 ?_
      refine g_ladd M dL_looks_143 ?_
      refine g_lstore_n M dL_looks_144 (by decide) ?_
      refine g_iinc1 M dL_looks_145 rfl (by decide) ?_
      refine g_goto M 112 dL_looks_148 (by decide) ?_
      refine g_lvs M _ (lvs_c rfl (lvs_c rfl (lvs_c rfl lvs_n))) (by have h := ih (j + 1) (by omega); rw [nI_succ, foldN_s] at h; exact h)
  have l3 : ∀ m w : Nat, w + m = 5 → B 33 [(0, .ref 0), (1, .long (lkW d0 w (lk1 d0))), (3, .int (nI w))] [] (OW d0 d1 k rm R t) := by
    intro m
    induction m with
    | zero =>
      intro w hw
      obtain rfl : w = 5 := by omega
      refine g_iload_n M dL_looks_33 rfl ?_
      refine g_iconst M 5 dL_looks_34 (by decide) ?_
      refine g_icmp_ge M 110 dL_looks_35 (by decide) (fun _ => ?_) (fun h9 => absurd (by decide) h9)
      refine g_iconst M 0 dL_looks_110 (by decide) ?_
      refine g_istore_n M dL_looks_111 (by decide) ?_
      have h := l4 (7 * c) 0 (by omega)
      rw [foldN_0] at h
      exact g_lvs M _ (lvs_c rfl (lvs_c rfl (lvs_c rfl lvs_n))) h
    | succ m ih =>
      intro w hw
      obtain ⟨T, b9, t2, t12, hT, -, -⟩ := hO.1 w (by omega)
      have hcl : (sTe d0 w).toNatClampNeg = T := by rw [hT]; exact cl5 T (by omega)
      have b2 : ∀ n j : Nat, j + n = T → B 72 [(0, .ref 0), (1, .long (foldN (fun j => hAt (sHe d0) (nI w) (nI j)) j (foldN (fun x => whlD d0 (nI w) (nI x)) 7 (lkW d0 w (lk1 d0))))), (3, .int (nI w)), (4, .int (nI j))] [] (OW d0 d1 k rm R t) := by
        intro n
        induction n with
        | zero =>
          intro j hj
          refine g_iload M dL_looks_72 rfl ?_
          refine g_aload_n M dL_looks_74 rfl ?_
          refine g_iload_n M dL_looks_75 rfl ?_
          refine g_iconst M 0 dL_looks_76 (by decide) ?_
          refine q_V2i M (l_wh0 hrm hte w (by omega)) lk_L_19 dL_looks_77 (by decide +kernel) ⟨Nat.le_of_ble_eq_true rfl, Nat.le_of_ble_eq_true rfl⟩ ⟨rfl, rfl⟩ nd95 rfl rfl rfl (Nat.le_of_ble_eq_true rfl) ?_
          rw [hT]
          refine g_icmp_ge M 104 dL_looks_80 (by decide) (fun _ => ?_) (fun h9 => absurd (nI_le (by omega) (by omega)) h9)
          refine g_iinc1 M dL_looks_104 rfl (by decide) ?_
          refine g_goto M 33 dL_looks_107 (by decide) ?_
          refine g_lvs M [(0, .ref 0), (1, .long (lkW d0 (w + 1) (lk1 d0))), (3, .int (nI (w + 1)))] (lvs_c rfl (lvs_c ?_ (lvs_c ?_ lvs_n))) (ih (w + 1) (by omega))
          · rw [lkW_s, hcl, show T = j by omega]; rfl
          · rw [nI_succ]; rfl
        | succ n ih2 =>
          intro j hj
          refine g_iload M dL_looks_72 rfl ?_
          refine g_aload_n M dL_looks_74 rfl ?_
          refine g_iload_n M dL_looks_75 rfl ?_
          refine g_iconst M 0 dL_looks_76 (by decide) ?_
          refine q_V2i M (l_wh0 hrm hte w (by omega)) lk_L_19 dL_looks_77 (by decide +kernel) ⟨Nat.le_of_ble_eq_true rfl, Nat.le_of_ble_eq_true rfl⟩ ⟨rfl, rfl⟩ nd95 rfl rfl rfl (Nat.le_of_ble_eq_true rfl) ?_
          rw [hT]
          refine g_icmp_ge M 104 dL_looks_80 (by decide) (fun h9 => absurd h9 (nI_ge (by omega) (by omega))) (fun _ => ?_)
          refine g_ldc2 M kc_L_11 dL_looks_83 ?_
          refine g_lload_n M dL_looks_86 rfl ?_
          refine g_lmul M dL_looks_87 ?_
          refine g_aload_n M dL_looks_88 rfl ?_
          refine g_iload_n M dL_looks_89 rfl ?_
          refine g_iload M dL_looks_90 rfl ?_
          refine q_V2i M (l_tooth hrm (nI w) (nI j) (by rw [isTth, Bool.and_eq_true, cl5 w (by omega), hT, iswh, decide_eq_true_iff, decide_eq_true_iff, nI_toInt (by omega), nI_toInt (by omega), nI_ltI (by omega) (by omega)]; omega)) lk_L_23 dL_looks_92 (by decide +kernel) ⟨Nat.le_of_ble_eq_true rfl, Nat.le_of_ble_eq_true rfl⟩ ⟨rfl, rfl⟩ nd95 rfl rfl rfl (Nat.le_of_ble_eq_true rfl) ?_
          refine g_i2l M dL_looks_95 ?_
          refine g_ladd M dL_looks_96 ?_
          refine g_lstore_n M dL_looks_97 (by decide) ?_
          refine g_iinc1 M dL_looks_98 rfl (by decide) ?_
          refine g_goto M 72 dL_looks_101 (by decide) ?_
          refine g_lvs M _ (lvs_c rfl (lvs_c rfl (lvs_c rfl (lvs_c rfl lvs_n)))) (by have h := ih2 (j + 1) (by omega); rw [nI_succ, foldN_s] at h; exact h)
      have b1 : ∀ n j : Nat, j + n = 7 → B 41 [(0, .ref 0), (1, .long (foldN (fun x => whlD d0 (nI w) (nI x)) j (lkW d0 w (lk1 d0)))), (3, .int (nI w)), (4, .int (nI j))] [] (OW d0 d1 k rm R t) := by
        intro n
        induction n with
        | zero =>
          intro j hj
          obtain rfl : j = 7 := by omega
          refine g_iload M dL_looks_41 rfl ?_
          refine g_bipush M 7 dL_looks_43 (by decide) ?_
          refine g_icmp_ge M 69 dL_looks_45 (by decide) (fun _ => ?_) (fun h9 => absurd (by decide) h9)
          refine g_iconst M 0 dL_looks_69 (by decide) ?_
          refine g_istore M dL_looks_70 (by decide) ?_
          have h := b2 T 0 (by omega)
          rw [foldN_0] at h
          exact g_lvs M _ (lvs_c rfl (lvs_c rfl (lvs_c rfl (lvs_c rfl lvs_n)))) h
        | succ n ih2 =>
          intro j hj
          refine g_iload M dL_looks_41 rfl ?_
          refine g_bipush M 7 dL_looks_43 (by decide) ?_
          refine g_icmp_ge M 69 dL_looks_45 (by decide) (fun h9 => absurd h9 (nI_ge (a := j) (b := 7) (by omega) (by omega))) (fun _ => ?_)
          refine g_ldc2 M kc_L_11 dL_looks_48 ?_
          refine g_lload_n M dL_looks_51 rfl ?_
          refine g_lmul M dL_looks_52 ?_
          refine g_aload_n M dL_looks_53 rfl ?_
          refine g_iload_n M dL_looks_54 rfl ?_
          refine g_iload M dL_looks_55 rfl ?_
          refine q_V2i M (l_whl hrm hte w (by omega) j (by omega)) lk_L_19 dL_looks_57 (by decide +kernel) ⟨Nat.le_of_ble_eq_true rfl, Nat.le_of_ble_eq_true rfl⟩ ⟨rfl, rfl⟩ nd95 rfl rfl rfl (Nat.le_of_ble_eq_true rfl) ?_
          refine g_i2l M dL_looks_60 ?_
          refine g_ladd M dL_looks_61 ?_
          refine g_lstore_n M dL_looks_62 (by decide) ?_
          refine g_iinc1 M dL_looks_63 rfl (by decide) ?_
          refine g_goto M 41 dL_looks_66 (by decide) ?_
          refine g_lvs M _ (lvs_c rfl (lvs_c rfl (lvs_c rfl (lvs_c rfl lvs_n)))) (by have h := ih2 (j + 1) (by omega); rw [nI_succ, foldN_s] at h; exact h)
      refine g_iload_n M dL_looks_33 rfl ?_
      refine g_iconst M 5 dL_looks_34 (by decide) ?_
      refine g_icmp_ge M 110 dL_looks_35 (by decide) (fun h9 => absurd h9 (nI_ge (a := w) (b := 5) (by omega) (by omega))) (fun _ => ?_)
      refine g_iconst M 0 dL_looks_38 (by decide) ?_
      refine g_istore M dL_looks_39 (by decide) ?_
      have h := b1 7 0 (by omega)
      rw [foldN_0] at h
      exact g_lvs M _ (lvs_c rfl (lvs_c rfl (lvs_c rfl (lvs_c rfl lvs_n)))) h
  have l1 : ∀ n j : Nat, j + n = 12 → B 6 [(0, .ref 0), (1, .long (foldN (fun i => cntD d0 0 (nI i)) j 137)), (3, .int (nI j))] [] (OW d0 d1 k rm R t) := by
    intro n
    induction n with
    | zero =>
      intro j hj
      obtain rfl : j = 12 := by omega
      refine g_iload_n M dL_looks_6 rfl ?_
      refine g_bipush M 12 dL_looks_7 (by decide) ?_
      refine g_icmp_ge M 31 dL_looks_9 (by decide) (fun _ => ?_) (fun h9 => absurd (by decide) h9)
      refine g_iconst M 0 dL_looks_31 (by decide) ?_
      refine g_istore_n M dL_looks_32 (by decide) ?_
      have h := l3 5 0 (by omega)
      rw [lkW_0, lk1] at h
      exact g_lvs M _ (lvs_c rfl (lvs_c rfl (lvs_c rfl lvs_n))) h
    | succ n ih2 =>
      intro j hj
      refine g_iload_n M dL_looks_6 rfl ?_
      refine g_bipush M 12 dL_looks_7 (by decide) ?_
      refine g_icmp_ge M 31 dL_looks_9 (by decide) (fun h9 => absurd h9 (nI_ge (a := j) (b := 12) (by omega) (by omega))) (fun _ => ?_)
      refine g_ldc2 M kc_L_11 dL_looks_12 ?_
      refine g_lload_n M dL_looks_15 rfl ?_
      refine g_lmul M dL_looks_16 ?_
      refine g_aload_n M dL_looks_17 rfl ?_
      refine g_iload_n M dL_looks_18 rfl ?_
      refine q_V1i M (l_cnt hrm j (by omega)) lk_L_13 dL_looks_19 (by decide +kernel) ⟨Nat.le_of_ble_eq_true rfl, Nat.le_of_ble_eq_true rfl⟩ ⟨rfl, rfl⟩ nd95 rfl rfl rfl (Nat.le_of_ble_eq_true rfl) ?_
      refine g_i2l M dL_looks_22 ?_
      refine g_ladd M dL_looks_23 ?_
      refine g_lstore_n M dL_looks_24 (by decide) ?_
      refine g_iinc1 M dL_looks_25 rfl (by decide) ?_
      refine g_goto M 6 dL_looks_28 (by decide) ?_
      refine g_lvs M _ (lvs_c rfl (lvs_c rfl (lvs_c rfl lvs_n))) (by have h := ih2 (j + 1) (by omega); rw [nI_succ, foldN_s] at h; exact h)
  refine g_ldc2 M kc_L_9 dL_looks_0 ?_
  refine g_lstore_n M dL_looks_3 (by decide) ?_
  refine g_iconst M 0 dL_looks_4 (by decide) ?_
  refine g_istore_n M dL_looks_5 (by decide) ?_
  have h := l1 12 0 (by omega)
  rw [foldN_0] at h
  exact g_lvs M _ (lvs_c rfl (lvs_c rfl (lvs_c rfl lvs_n))) h
end


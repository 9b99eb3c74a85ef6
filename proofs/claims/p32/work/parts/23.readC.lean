section
variable {p : Program} {l : Launch} {e : Env} {R : Room} {s : State} {m : MethodId} {args : Array Value} {below : List Frame} {meth : Method} {c : Code} {H : Heap} {locs : List Loc} {cells slots : Nat} {Q : State → Prop}
theorem lv_ldcwf {cc : ByteArray} {pc : Nat} {ls : Array Slot} {rest : List Value} (hexec : p.tables.exec = Jvm.exec) (hb : c.code = cc) {own : String} {index : Nat} {v : UInt32} (hown : s.vm.findClass own = some m.cls) (hconst : (Jvm.Cond.constantFloat own index v).before args s = true) (hdg : decode cc pc = .ok (.ldc_w index, 3)) (k : W p l e R s m args below meth c H locs cells slots Q (F0 m (pc + 3) ls (.float v :: rest))) : W p l e R s m args below meth c H locs cells slots Q (F0 m pc ls rest) := by
  intro T hT X
  obtain ⟨t, a, b⟩ := k T hT X
  refine ⟨t, ?_, b⟩
  obtain ⟨k0, cf, hk, hcf, hcp⟩ := Cond.constantFloat_spec hown hconst
  obtain ⟨k', hk', he⟩ := X.warmed.alike.2.2 _ _ hk
  have hdg' : decode c.code (F0 m pc ls rest).pc = .ok (.ldc_w index, 3) := by rw [hb]; exact hdg
  jvm_step X.here [hexec, hdg', ldc_w.wp_float (s := T) (f := F0 m pc ls rest) X.here.top hk' (by rw [he]; exact hcf) hcp]
  exact a
end
theorem r_ldcwf {own : String} {cc : ByteArray} {nL : Nat} {ret : Option FieldType} {rm : Room} {r : Option Value} {w1 : List va_E} {B : KT} (M : MF own cc nL ret rm r w1 B) {pc : Nat} {lv : List (Nat × Value)} {st : List Value} {w : List va_E} {ix : Nat} {v : UInt32} (hc : Jvm.Cond.constantFloat own ix v ∈ GW) (hd : decode cc pc = .ok (.ldc_w ix, 3)) (k : B (pc + 3) lv (.float v :: st) w) : B pc lv st w := by
  obtain ⟨p, l, e, s, m, args, below, meth, c, D, dA, ad, A, rfl, hx, hb, hml, hr, hts, hown, hlocks, ⟨hK, hN⟩, hA⟩ := M
  intro H locs ls hl hP hD hS
  exact lv_ldcwf hx hb hown (hts _ hc) hd (k H locs ls hl hP hD hS)
section
variable (fsn ftx fpf frm : Value) (kp : Bool) (n : Int32) (d : SD) (t : WD)
/-- the sum of the heights -/
def sumH (d : SD) : Int32 := sumf (fun j => hB (sTe d) (sTo d) (sLo d) (sHe d) (nI j) 0) 5
theorem c_meanHeight (hnan : vf_n32 (FP.fdiv (FP.i2f (sumH d)) 1084227584)) : Con yX5_meanHeight cX5_meanHeight 3 (some .float) (rmk 2 46) [.ref 0] (RW fsn ftx fpf frm kp n d t) (some (.float (FP.fdiv (FP.i2f (sumH d)) 1084227584))) (RW fsn ftx fpf frm kp n d t) := by
  refine Con.of (own := RX5) (by decide) rfl (Nat.le_of_ble_eq_true rfl) rfl (fun B M => ?_)
  have loop : ∀ m k : Nat, k + m = 5 → B 4 [(0, .ref 0), (1, .int (sumf (fun j => hB (sTe d) (sTo d) (sLo d) (sHe d) (nI j) 0) k)), (2, .int (nI k))] [] (RW fsn ftx fpf frm kp n d t) := by
    intro m
    induction m with
    | zero =>
      intro k hk
      obtain rfl : k = 5 := by omega
      refine r_iload_n M dX5_meanHeight_4 rfl ?_
      refine r_iconst M 5 dX5_meanHeight_5 (by decide) ?_
      refine r_icmp_ge M 30 dX5_meanHeight_6 (by decide) (fun _ => ?_) (fun h9 => absurd (nI_geT (n := 5) rfl (by omega) (by omega)) h9)
      refine r_iload_n M dX5_meanHeight_30 rfl ?_
      refine r_i2f M dX5_meanHeight_31 ?_
      refine r_ldcwf M kc_X5_281 dX5_meanHeight_32 ?_
      refine r_fdiv M dX5_meanHeight_35 hnan ?_
      exact r_fret M dX5_meanHeight_36 rfl rfl rfl
    | succ m ih =>
      intro k hk
      refine r_iload_n M dX5_meanHeight_4 rfl ?_
      refine r_iconst M 5 dX5_meanHeight_5 (by decide) ?_
      refine r_icmp_ge M 30 dX5_meanHeight_6 (by decide) (fun h9 => absurd h9 (nI_geF (n := 5) rfl (by omega) (by omega))) (fun _ => ?_)
      refine r_iload_n M dX5_meanHeight_9 rfl ?_
      refine r_aload_n M dX5_meanHeight_10 rfl ?_
      refine r_get M fl_X5_10 dX5_meanHeight_11 rfl rfl ?_
      refine r_getN M fn_X5_62 dX5_meanHeight_14 rfl rfl ?_
      refine r_iload_n M dX5_meanHeight_17 rfl ?_
      refine r_iconst M 0 dX5_meanHeight_18 (by decide) ?_
      refine r_V2ik M (c_heightBehind (sTe d) (sTo d) (sLo d) (sCra d) (sHa d) (sHe d) _ _ (nI5 k (by omega))) lk_X5_220 dX5_meanHeight_19 (by decide +kernel) ⟨Nat.le_of_ble_eq_true rfl, Nat.le_of_ble_eq_true rfl⟩ ⟨rfl, rfl⟩ [4, 5, 6, 7, 8, 9, 10] rfl rfl rfl (by decide +kernel) rfl (Nat.le_of_ble_eq_true rfl) ?_
      refine r_iadd M dX5_meanHeight_22 ?_
      refine r_istore_n M dX5_meanHeight_23 (by decide) ?_
      refine r_iinc1 M dX5_meanHeight_24 rfl (by decide) ?_
      refine r_goto M 4 dX5_meanHeight_27 (by decide) ?_
      refine r_lvs M _ (lvs_c rfl (lvs_c rfl (lvs_c ?_ lvs_n))) (ih (k + 1) (by omega))
      rw [← nI_1]; rfl
  refine r_iconst M 0 dX5_meanHeight_0 (by decide) ?_
  refine r_istore_n M dX5_meanHeight_1 (by decide) ?_
  refine r_iconst M 0 dX5_meanHeight_2 (by decide) ?_
  refine r_istore_n M dX5_meanHeight_3 (by decide) ?_
  exact r_lvs M _ (lvs_c rfl (lvs_c rfl (lvs_c rfl lvs_n))) (loop 5 0 rfl)
/-- how many of the first pictures of a round are allowed -/
def sumA (d : SD) : Nat → Int32 := sumf (fun k => if fltB (sTe d) (sTo d) (sLo d) (sHe d) (nI k) (sSe d) = 0 then 1 else 0)
theorem c_allowedShare (hte : teOk (sTe d)) (hnan : vf_n64 (FP.ddiv (FP.i2d (sumA d (rN (sTe d) (sLo d) 5))) (FP.i2d (nI (rN (sTe d) (sLo d) 5))))) : Con yX5_allowedShare cX5_allowedShare 4 (some .double) (rmk 3 68) [.ref 0] (RW fsn ftx fpf frm kp n d t) (some (.double (FP.ddiv (FP.i2d (sumA d (rN (sTe d) (sLo d) 5))) (FP.i2d (nI (rN (sTe d) (sLo d) 5)))))) (RW fsn ftx fpf frm kp n d t) := by
  refine Con.of (own := RX5) (by decide) rfl (Nat.le_of_ble_eq_true rfl) rfl (fun B M => ?_)
  have hb := rN_lt (sLo d) hte
  have loop : ∀ m k : Nat, k + m = rN (sTe d) (sLo d) 5 → B 22 [(0, .ref 0), (1, .int (nI (rN (sTe d) (sLo d) 5))), (2, .int (sumA d k)), (3, .int (nI k))] [] (RW fsn ftx fpf frm kp n d t) := by
    intro m
    induction m with
    | zero =>
      intro k hk
      obtain rfl : k = rN (sTe d) (sLo d) 5 := by omega
      refine r_iload_n M dX5_allowedShare_22 rfl ?_
      refine r_iload_n M dX5_allowedShare_23 rfl ?_
      refine r_icmp_ge M 57 dX5_allowedShare_24 (by decide) (fun _ => ?_) (fun h9 => absurd (nI_le (Nat.le_refl _) (by omega)) h9)
      refine r_iload_n M dX5_allowedShare_57 rfl ?_
      refine r_i2d M dX5_allowedShare_58 ?_
      refine r_iload_n M dX5_allowedShare_59 rfl ?_
      refine r_i2d M dX5_allowedShare_60 ?_
      refine r_ddiv M dX5_allowedShare_61 hnan ?_
      exact r_dret M dX5_allowedShare_62 rfl rfl rfl
    | succ m ih =>
      intro k hk
      refine r_iload_n M dX5_allowedShare_22 rfl ?_
      refine r_iload_n M dX5_allowedShare_23 rfl ?_
      refine r_icmp_ge M 57 dX5_allowedShare_24 (by decide) (fun h9 => absurd h9 (nI_ge (by omega) (by omega))) (fun _ => ?_)
      refine r_aload_n M dX5_allowedShare_27 rfl ?_
      refine r_get M fl_X5_10 dX5_allowedShare_28 rfl rfl ?_
      refine r_getN M fn_X5_62 dX5_allowedShare_31 rfl rfl ?_
      refine r_iload_n M dX5_allowedShare_34 rfl ?_
      refine r_aload_n M dX5_allowedShare_35 rfl ?_
      refine r_get M fl_X5_10 dX5_allowedShare_36 rfl rfl ?_
      refine r_getN M fn_X5_124 dX5_allowedShare_39 rfl rfl ?_
      refine r_V2ik M (c_faultBehind (sTe d) (sTo d) (sLo d) (sCra d) (sHa d) (sHe d) _ _) lk_X5_128 dX5_allowedShare_42 (by decide +kernel) ⟨Nat.le_of_ble_eq_true rfl, Nat.le_of_ble_eq_true rfl⟩ ⟨rfl, rfl⟩ [4, 5, 6, 7, 8, 9, 10] rfl rfl rfl (by decide +kernel) rfl (Nat.le_of_ble_eq_true rfl) ?_
      have nx := ih (k + 1) (by omega)
      by_cases h : fltB (sTe d) (sTo d) (sLo d) (sHe d) (nI k) (sSe d) = 0
      · refine r_if_ne M 51 dX5_allowedShare_45 (by decide) (fun h9 => absurd h h9) (fun _ => ?_)
        refine r_iinc1 M dX5_allowedShare_48 rfl (by decide) ?_
        refine r_iinc1 M dX5_allowedShare_51 rfl (by decide) ?_
        refine r_goto M 22 dX5_allowedShare_54 (by decide) ?_
        rw [show sumA d (k + 1) = sumA d k + 1 from by rw [sumA, sumf, if_pos h]] at nx
        refine r_lvs M _ (lvs_c rfl (lvs_c rfl (lvs_c rfl (lvs_c ?_ lvs_n)))) nx
        rw [← nI_1]; rfl
      · refine r_if_ne M 51 dX5_allowedShare_45 (by decide) (fun _ => ?_) (fun h9 => absurd h9 h)
        refine r_iinc1 M dX5_allowedShare_51 rfl (by decide) ?_
        refine r_goto M 22 dX5_allowedShare_54 (by decide) ?_
        rw [show sumA d (k + 1) = sumA d k from by rw [sumA, sumf, if_neg h, Int32.add_zero]] at nx
        refine r_lvs M _ (lvs_c rfl (lvs_c rfl (lvs_c rfl (lvs_c ?_ lvs_n)))) nx
        rw [← nI_1]; rfl
  refine r_aload_n M dX5_allowedShare_0 rfl ?_
  refine r_get M fl_X5_10 dX5_allowedShare_1 rfl rfl ?_
  refine r_getN M fn_X5_62 dX5_allowedShare_4 rfl rfl ?_
  refine r_V0ik M (c_rounds (sTo d) (sLo d) (sCra d) (sHa d) (sHe d) hte) lk_X5_276 dX5_allowedShare_7 (by decide +kernel) ⟨Nat.le_of_ble_eq_true rfl, Nat.le_of_ble_eq_true rfl⟩ ⟨rfl, rfl⟩ [4, 5, 6, 7, 8, 9, 10] rfl rfl rfl (by decide +kernel) rfl (Nat.le_of_ble_eq_true rfl) ?_
  refine r_istore_n M dX5_allowedShare_10 (by decide) ?_
  refine r_iload_n M dX5_allowedShare_11 rfl ?_
  refine r_iconst M 1 dX5_allowedShare_12 (by decide) ?_
  refine r_icmp_ge M 18 dX5_allowedShare_13 (by decide) (fun _ => ?_) (fun h9 => absurd (nI_le (a := 1) (by omega) (by omega)) h9)
  refine r_iconst M 0 dX5_allowedShare_18 (by decide) ?_
  refine r_istore_n M dX5_allowedShare_19 (by decide) ?_
  refine r_iconst M 0 dX5_allowedShare_20 (by decide) ?_
  refine r_istore_n M dX5_allowedShare_21 (by decide) ?_
  exact r_lvs M _ (lvs_c rfl (lvs_c rfl (lvs_c rfl (lvs_c rfl lvs_n)))) (loop (rN (sTe d) (sLo d) 5) 0 (by omega))
/-- the wheels of a state, the lock of one turned over -/
def flipD (d : SD) (k : Nat) : WD := (sTe d, sTo d, va_up (sLo d) k (!(sLo d) k), sCra d, sHa d, sHe d)
/-- why a step could not be made, were that lock turned over -/
def whyF (d : SD) (k : Nat) (x : Int32) : Int32 := whyS (fltB (sTe d) (sTo d) (flipD d k).2.2.1 (sHe d) x (sSe d)) (cau (sSt d) (sCr d) (sLi d)) (sCr d) x
def freG (d : SD) (x : Int32) : Nat → Nat → Int32
  | 0, _ => -1
  | m + 1, k => if sLo d k = true then (if whyF d k x = 0 then nI k else freG d x m (k + 1)) else freG d x m (k + 1)
def freT (d : SD) (x : Int32) : Nat → Nat → WD → WD
  | 0, _, t => t
  | m + 1, k, t => if sLo d k = true then (if whyF d k x = 0 then flipD d k else freT d x m (k + 1) (flipD d k)) else freT d x m (k + 1) t
def freD (d : SD) (x : Int32) : Int32 := if whyD d x = 0 then -1 else freG d x 5 0
def freW (d : SD) (x : Int32) (t : WD) : WD := if whyD d x = 0 then t else freT d x 5 0 t
theorem frees_loop (x y : Int32) (hy : y = (if x = 0 then 1 else -1)) (r : Int32) (t9 : WD) {B : KT} (M : MF RX5 cX5_frees 4 (some .int) (rmk 6 150) (some (.int r)) (RW fsn ftx fpf frm kp n d t9) B) : ∀ (m k : Nat) (t : WD), k + m = 5 → r = freG d y m k → t9 = freT d y m k t → B 45 [(0, .ref 0), (2, .int y), (3, .int (nI k))] [] (RW fsn ftx fpf frm kp n d t) := by
  intro m
  induction m with
  | zero =>
    intro k t hk he ht
    obtain rfl : k = 5 := by omega
    rw [freG] at he
    rw [freT] at ht
    rw [he, ht] at M
    refine r_iload_n M dX5_frees_45 rfl ?_
    refine r_iconst M 5 dX5_frees_46 (by decide) ?_
    refine r_icmp_ge M 113 dX5_frees_47 (by decide) (fun _ => ?_) (fun h9 => absurd (nI_geT (n := 5) rfl (by omega) (by omega)) h9)
    refine r_iconst M (-1) dX5_frees_113 (by decide) ?_
    exact r_iret M dX5_frees_114 rfl rfl rfl
  | succ m ih =>
    intro k t hk he ht
    rw [freG] at he
    rw [freT] at ht
    have hv := nI5 k (by omega)
    have hc := cl5 k (by omega)
    refine r_iload_n M dX5_frees_45 rfl ?_
    refine r_iconst M 5 dX5_frees_46 (by decide) ?_
    refine r_icmp_ge M 113 dX5_frees_47 (by decide) (fun h9 => absurd h9 (nI_geF (n := 5) rfl (by omega) (by omega))) (fun _ => ?_)
    refine r_aload_n M dX5_frees_50 rfl ?_
    refine r_get M fl_X5_10 dX5_frees_51 rfl rfl ?_
    refine r_getN M fn_X5_62 dX5_frees_54 rfl rfl ?_
    refine r_getN M fn_X5_106 dX5_frees_57 rfl rfl ?_
    refine r_iload_n M dX5_frees_60 rfl ?_
    refine r_zald M dX5_frees_61 rfl hv ?_
    rw [hc]
    cases hl : sLo d k
    · rw [if_neg (by rw [hl]; decide)] at he ht
      refine r_if_ne M 68 dX5_frees_62 (by decide) (fun h9 => absurd (show b2i (sLo d k) = 0 by rw [hl]; rfl) h9) (fun _ => ?_)
      refine r_goto M 107 dX5_frees_65 (by decide) ?_
      refine r_iinc1 M dX5_frees_107 rfl (by decide) ?_
      refine r_goto M 45 dX5_frees_110 (by decide) ?_
      refine r_lvs M _ (lvs_c rfl (lvs_c rfl (lvs_c ?_ lvs_n))) (ih (k + 1) t (by omega) he ht)
      rw [← nI_1]; rfl
    · rw [if_pos hl] at he ht
      refine r_if_ne M 68 dX5_frees_62 (by decide) (fun _ => ?_) (fun h9 => absurd h9 (show ¬ b2i (sLo d k) = 0 by rw [hl]; decide))
      refine r_aload_n M dX5_frees_68 rfl ?_
      refine r_get M fl_X5_47 dX5_frees_69 rfl rfl ?_
      refine r_aload_n M dX5_frees_72 rfl ?_
      refine r_get M fl_X5_10 dX5_frees_73 rfl rfl ?_
      refine r_getN M fn_X5_62 dX5_frees_76 rfl rfl ?_
      refine r_V1vu (w' :=  RW fsn ftx fpf frm kp n d (sTe d, sTo d, sLo d, sCra d, sHa d, sHe d)) M (c_wcopy t.1 t.2.1 t.2.2.1 t.2.2.2.1 t.2.2.2.2.1 t.2.2.2.2.2 (sTe d) (sTo d) (sLo d) (sCra d) (sHa d) (sHe d)) lk_X5_116 dX5_frees_79 (by decide +kernel) ⟨Nat.le_of_ble_eq_true rfl, Nat.le_of_ble_eq_true rfl⟩ ⟨rfl, rfl⟩ [12, 13, 14, 15, 16, 17, 18, 4, 5, 6, 7, 8, 9, 10] rfl rfl rfl (by decide +kernel) rfl (Nat.le_of_ble_eq_true rfl) rfl ?_
      refine r_aload_n M dX5_frees_82 rfl ?_
      refine r_get M fl_X5_47 dX5_frees_83 rfl rfl ?_
      refine r_iload_n M dX5_frees_86 rfl ?_
      refine r_V1vu (w' :=  RW fsn ftx fpf frm kp n d (sTe d, sTo d, va_up (sLo d) (nI k).toNatClampNeg (!(sLo d) (nI k).toNatClampNeg), sCra d, sHa d, sHe d)) M (c_switchClutch (sTe d) (sTo d) (sLo d) (sCra d) (sHa d) (sHe d) (nI k) hv) lk_X5_103 dX5_frees_87 (by decide +kernel) ⟨Nat.le_of_ble_eq_true rfl, Nat.le_of_ble_eq_true rfl⟩ ⟨rfl, rfl⟩ [12, 13, 14, 15, 16, 17, 18] rfl rfl rfl (by decide +kernel) rfl (Nat.le_of_ble_eq_true rfl) rfl ?_
      rw [hc]
      refine r_aload_n M dX5_frees_90 rfl ?_
      refine r_get M fl_X5_10 dX5_frees_91 rfl rfl ?_
      refine r_aload_n M dX5_frees_94 rfl ?_
      refine r_get M fl_X5_47 dX5_frees_95 rfl rfl ?_
      refine r_iload_n M dX5_frees_98 rfl ?_
      refine r_V2ik M (c_reasonAgainst _ _ (sSc d) (sCr d) (sLi d) (sSf d) (sSb d) (sSe d) (sLa d) (sSt d) (sTe d) (sTo d) (flipD d k).2.2.1 (sCra d) (sHa d) (sHe d) _) lk_X5_65 dX5_frees_99 (by decide +kernel) ⟨Nat.le_of_ble_eq_true rfl, Nat.le_of_ble_eq_true rfl⟩ ⟨rfl, rfl⟩ [1, 2, 12, 13, 14, 15, 16, 17, 18] rfl rfl rfl (by decide +kernel) rfl (Nat.le_of_ble_eq_true rfl) ?_
      by_cases h : whyF d k y = 0
      · rw [if_pos h] at he ht
        rw [he, ht] at M
        refine r_if_ne M 107 dX5_frees_102 (by decide) (fun h9 => absurd h h9) (fun _ => ?_)
        refine r_iload_n M dX5_frees_105 rfl ?_
        exact r_iret M dX5_frees_106 rfl rfl rfl
      · rw [if_neg h] at he ht
        refine r_if_ne M 107 dX5_frees_102 (by decide) (fun _ => ?_) (fun h9 => absurd h9 h)
        refine r_iinc1 M dX5_frees_107 rfl (by decide) ?_
        refine r_goto M 45 dX5_frees_110 (by decide) ?_
        refine r_lvs M _ (lvs_c rfl (lvs_c rfl (lvs_c ?_ lvs_n))) (ih (k + 1) (flipD d k) (by omega) he ht)
        rw [← nI_1]; rfl
theorem c_frees (x : Int32) (hx : x = 0 ∨ x = 1) : Con yX5_frees cX5_frees 4 (some .int) (rmk 6 150) [.ref 0, .int x] (RW fsn ftx fpf frm kp n d t) (some (.int (freD d (if x = 0 then 1 else -1)))) (RW fsn ftx fpf frm kp n d (freW d (if x = 0 then 1 else -1) t)) := by
  refine Con.of (own := RX5) (by decide) rfl (Nat.le_of_ble_eq_true rfl) (Eq.trans (b := 19) rfl rfl) (fun B M => ?_)
  refine r_iload_n M dX5_frees_0 rfl ?_
  refine r_S1ik M (c_isDirection _) lk_X5_263 dX5_frees_1 (by decide +kernel) ⟨Nat.le_of_ble_eq_true rfl, Nat.le_of_ble_eq_true rfl⟩ ⟨rfl, rfl⟩ [] rfl (by decide +kernel) rfl (Nat.le_of_ble_eq_true rfl) ?_
  refine r_if_ne M 18 dX5_frees_4 (by decide) (fun _ => ?_) (fun h9 => absurd h9 (by rw [decide_eq_true hx]; decide))
  refine r_iload_n M dX5_frees_18 rfl ?_
  refine r_S1ik M (c_toDirection _) lk_X5_268 dX5_frees_19 (by decide +kernel) ⟨Nat.le_of_ble_eq_true rfl, Nat.le_of_ble_eq_true rfl⟩ ⟨rfl, rfl⟩ [] rfl (by decide +kernel) rfl (Nat.le_of_ble_eq_true rfl) ?_
  refine r_istore_n M dX5_frees_22 (by decide) ?_
  refine r_aload_n M dX5_frees_23 rfl ?_
  refine r_get M fl_X5_10 dX5_frees_24 rfl rfl ?_
  refine r_aload_n M dX5_frees_27 rfl ?_
  refine r_get M fl_X5_10 dX5_frees_28 rfl rfl ?_
  refine r_getN M fn_X5_62 dX5_frees_31 rfl rfl ?_
  refine r_iload_n M dX5_frees_34 rfl ?_
  refine r_V2ik M (c_reasonAgainst _ _ (sSc d) (sCr d) (sLi d) (sSf d) (sSb d) (sSe d) (sLa d) (sSt d) (sTe d) (sTo d) (sLo d) (sCra d) (sHa d) (sHe d) _) lk_X5_65 dX5_frees_35 (by decide +kernel) ⟨Nat.le_of_ble_eq_true rfl, Nat.le_of_ble_eq_true rfl⟩ ⟨rfl, rfl⟩ [1, 2, 4, 5, 6, 7, 8, 9, 10] rfl rfl rfl (by decide +kernel) rfl (Nat.le_of_ble_eq_true rfl) ?_
  by_cases h : whyD d (if x = 0 then 1 else -1) = 0
  · rw [freD, freW, if_pos h, if_pos h] at M
    refine r_if_ne M 43 dX5_frees_38 (by decide) (fun h9 => absurd h h9) (fun _ => ?_)
    refine r_iconst M (-1) dX5_frees_41 (by decide) ?_
    exact r_iret M dX5_frees_42 rfl rfl rfl
  · rw [freD, freW, if_neg h, if_neg h] at M
    refine r_if_ne M 43 dX5_frees_38 (by decide) (fun _ => ?_) (fun h9 => absurd h9 h)
    refine r_iconst M 0 dX5_frees_43 (by decide) ?_
    refine r_istore_n M dX5_frees_44 (by decide) ?_
    have z := (frees_loop fsn ftx fpf frm kp n d x (if x = 0 then 1 else -1) rfl (freG d (if x = 0 then 1 else -1) 5 0) (freT d (if x = 0 then 1 else -1) 5 0 t) M 5 0 t rfl rfl rfl)
    refine r_lvs M [(0, .ref 0), (2, .int (if x = 0 then 1 else -1)), (3, .int (nI 0))] (lvs_c rfl (lvs_c rfl (lvs_c rfl lvs_n))) ?_
    exact z
end


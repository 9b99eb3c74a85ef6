/-- numbers mixed into a hash, one after the other -/
def foldN (f : Nat → Int32) : Nat → Int64 → Int64
  | 0, h => h
  | k + 1, h => 31 * foldN f k h + (f k).toInt64
section
variable (fsn ftx fpf frm : Value) (kp : Bool) (n : Int32) (d : SD) (t : WD)
abbrev ID19 : List Nat := [0, 1, 2, 3, 4, 5, 6, 7, 8, 9, 10, 11, 12, 13, 14, 15, 16, 17, 18]
theorem RW_put (t2 : WD) : putw ID19 (RW (nv (inn ID19) fsn) (nv (inn ID19) ftx) (nv (inn ID19) fpf) (nv (inn ID19) frm) kp n d t2) (RW fsn ftx fpf frm kp n d t) = RW fsn ftx fpf frm kp n d t2 := by
  rw [putw_mix [12, 13, 14, 15, 16, 17, 18] _ (w0 := RW (nv (inn ID19) fsn) (nv (inn ID19) ftx) (nv (inn ID19) fpf) (nv (inn ID19) frm) kp n d t) rfl (Eq.trans (b := 19) rfl rfl) rfl]; rfl
/-- a wheel's numbers and heights -/
def mixW1 (d : SD) (w : Nat) (h : Int64) : Int64 := foldN (fun k => hAt (sHe d) (nI w) (nI k)) (sTe d w).toNatClampNeg (foldN (fun x => whlD d (nI w) (nI x)) 7 h)
def mixWs (d : SD) : Nat → Int64 → Int64
  | 0, h => h
  | k + 1, h => mixW1 d k (mixWs d k h)
theorem c_mixWheels (hte : teOk (sTe d)) (h0 : Int64) : Con yX5_mixWheels cX5_mixWheels 7 (some .long) (rmk 7 172) [.ref 0, .long h0] (RW fsn ftx fpf frm kp n d t) (some (.long (mixWs d 5 h0))) (RW fsn ftx fpf frm kp n d t) := by
  refine Con.of (own := RX5) (by decide) rfl (Nat.le_of_ble_eq_true rfl) rfl (fun B M => ?_)
  have outer : ∀ m k : Nat, k + m = 5 → B 5 [(0, .ref 0), (3, .long (mixWs d k h0)), (5, .int (nI k))] [] (RW fsn ftx fpf frm kp n d t) := by
    intro m
    induction m with
    | zero =>
      intro k hk
      obtain rfl : k = 5 := by omega
      refine r_iload M dX5_mixWheels_5 rfl ?_
      refine r_iconst M 5 dX5_mixWheels_7 (by decide) ?_
      refine r_icmp_ge M 94 dX5_mixWheels_8 (by decide) (fun _ => ?_) (fun h9 => absurd (nI_geT (n := 5) rfl (by omega) (by omega)) h9)
      refine r_lload_n M dX5_mixWheels_94 rfl ?_
      exact r_lret M dX5_mixWheels_95 rfl rfl rfl
    | succ m ih =>
      intro k hk
      obtain ⟨mt, m1, m2, m3⟩ := hte k (by omega)
      have hv := nI5 k (by omega)
      have hc := cl5 k (by omega)
      have hmt : (sTe d k).toNatClampNeg = mt := by rw [m3, cl5 mt (by omega)]
      have inner2 : ∀ r j : Nat, j + r = mt → B 44 [(0, .ref 0), (3, .long (foldN (fun k9 => hAt (sHe d) (nI k) (nI k9)) j (foldN (fun x => whlD d (nI k) (nI x)) 7 (mixWs d k h0)))), (5, .int (nI k)), (6, .int (nI j))] [] (RW fsn ftx fpf frm kp n d t) := by
        intro r
        induction r with
        | zero =>
          intro j hj
          obtain rfl : j = mt := by omega
          refine r_iload M dX5_mixWheels_44 rfl ?_
          refine r_aload_n M dX5_mixWheels_46 rfl ?_
          refine r_get M fl_X5_10 dX5_mixWheels_47 rfl rfl ?_
          refine r_getN M fn_X5_62 dX5_mixWheels_50 rfl rfl ?_
          refine r_getN M fn_X5_158 dX5_mixWheels_53 rfl rfl ?_
          refine r_iload M dX5_mixWheels_56 rfl ?_
          refine r_iald M dX5_mixWheels_58 rfl hv ?_
          rw [hc, show d.1 k = nI j from m3]
          refine r_icmp_ge M 88 dX5_mixWheels_59 (by decide) (fun _ => ?_) (fun h9 => absurd (nI_le (Nat.le_refl _) (by omega)) h9)
          refine r_iinc1 M dX5_mixWheels_88 rfl (by decide) ?_
          refine r_goto M 5 dX5_mixWheels_91 (by decide) ?_
          refine r_lvs M _ (lvs_c rfl (lvs_c ?_ (lvs_c ?_ lvs_n))) (ih (k + 1) (by omega))
          · rw [mixWs, mixW1, hmt]; rfl
          · rw [← nI_1]; rfl
        | succ r ih2 =>
          intro j hj
          refine r_iload M dX5_mixWheels_44 rfl ?_
          refine r_aload_n M dX5_mixWheels_46 rfl ?_
          refine r_get M fl_X5_10 dX5_mixWheels_47 rfl rfl ?_
          refine r_getN M fn_X5_62 dX5_mixWheels_50 rfl rfl ?_
          refine r_getN M fn_X5_158 dX5_mixWheels_53 rfl rfl ?_
          refine r_iload M dX5_mixWheels_56 rfl ?_
          refine r_iald M dX5_mixWheels_58 rfl hv ?_
          rw [hc, show d.1 k = nI mt from m3]
          refine r_icmp_ge M 88 dX5_mixWheels_59 (by decide) (fun h9 => absurd h9 (nI_ge (by omega) (by omega))) (fun _ => ?_)
          refine r_lload_n M dX5_mixWheels_62 rfl ?_
          refine r_aload_n M dX5_mixWheels_63 rfl ?_
          refine r_get M fl_X5_10 dX5_mixWheels_64 rfl rfl ?_
          refine r_getN M fn_X5_62 dX5_mixWheels_67 rfl rfl ?_
          refine r_iload M dX5_mixWheels_70 rfl ?_
          refine r_iload M dX5_mixWheels_72 rfl ?_
          refine r_V2ik M (c_heightAt (sTe d) (sTo d) (sLo d) (sCra d) (sHa d) (sHe d) _ _) lk_X5_153 dX5_mixWheels_74 (by decide +kernel) ⟨Nat.le_of_ble_eq_true rfl, Nat.le_of_ble_eq_true rfl⟩ ⟨rfl, rfl⟩ [4, 5, 6, 7, 8, 9, 10] rfl rfl rfl (by decide +kernel) rfl (Nat.le_of_ble_eq_true rfl) ?_
          refine r_i2l M dX5_mixWheels_77 ?_
          refine r_S2lk M (c_mix _ _) lk_X5_287 dX5_mixWheels_78 (by decide +kernel) ⟨Nat.le_of_ble_eq_true rfl, Nat.le_of_ble_eq_true rfl⟩ ⟨rfl, rfl⟩ [] rfl (by decide +kernel) rfl (Nat.le_of_ble_eq_true rfl) ?_
          refine r_lstore_n M dX5_mixWheels_81 (by decide) ?_
          refine r_iinc1 M dX5_mixWheels_82 rfl (by decide) ?_
          refine r_goto M 44 dX5_mixWheels_85 (by decide) ?_
          refine r_lvs M _ (lvs_c rfl (lvs_c rfl (lvs_c rfl (lvs_c ?_ lvs_n)))) (ih2 (j + 1) (by omega))
          rw [← nI_1]; rfl
      have inner1 : ∀ r j : Nat, j + r = 7 → B 14 [(0, .ref 0), (3, .long (foldN (fun x => whlD d (nI k) (nI x)) j (mixWs d k h0))), (5, .int (nI k)), (6, .int (nI j))] [] (RW fsn ftx fpf frm kp n d t) := by
        intro r
        induction r with
        | zero =>
          intro j hj
          obtain rfl : j = 7 := by omega
          refine r_iload M dX5_mixWheels_14 rfl ?_
          refine r_bipush M 6 dX5_mixWheels_16 (by decide) ?_
          refine r_icmp_gt M 41 dX5_mixWheels_18 (by decide) (fun _ => ?_) (fun h9 => absurd (by decide) h9)
          refine r_iconst M 0 dX5_mixWheels_41 (by decide) ?_
          refine r_istore M dX5_mixWheels_42 (by decide) ?_
          exact r_lvs M _ (lvs_c rfl (lvs_c rfl (lvs_c rfl (lvs_c rfl lvs_n)))) (inner2 mt 0 (by omega))
        | succ r ih2 =>
          intro j hj
          refine r_iload M dX5_mixWheels_14 rfl ?_
          refine r_bipush M 6 dX5_mixWheels_16 (by decide) ?_
          refine r_icmp_gt M 41 dX5_mixWheels_18 (by decide) (fun h9 => absurd h9 (nI_nlt (b := j) (a := 6) (by omega) (by omega))) (fun _ => ?_)
          refine r_lload_n M dX5_mixWheels_21 rfl ?_
          refine r_aload_n M dX5_mixWheels_22 rfl ?_
          refine r_iload M dX5_mixWheels_23 rfl ?_
          refine r_iload M dX5_mixWheels_25 rfl ?_
          refine r_V2ik M (c_wheel _ _ _ _ kp n d t _ hv hte j (by omega)) lk_X5_314 dX5_mixWheels_27 (by decide +kernel) ⟨Nat.le_of_ble_eq_true rfl, Nat.le_of_ble_eq_true rfl⟩ ⟨rfl, rfl⟩ (ID19) rfl rfl rfl (by decide +kernel) rfl (Nat.le_of_ble_eq_true rfl) ?_
          refine r_i2l M dX5_mixWheels_30 ?_
          refine r_S2lk M (c_mix _ _) lk_X5_287 dX5_mixWheels_31 (by decide +kernel) ⟨Nat.le_of_ble_eq_true rfl, Nat.le_of_ble_eq_true rfl⟩ ⟨rfl, rfl⟩ [] rfl (by decide +kernel) rfl (Nat.le_of_ble_eq_true rfl) ?_
          refine r_lstore_n M dX5_mixWheels_34 (by decide) ?_
          refine r_iinc1 M dX5_mixWheels_35 rfl (by decide) ?_
          refine r_goto M 14 dX5_mixWheels_38 (by decide) ?_
          refine r_lvs M _ (lvs_c rfl (lvs_c rfl (lvs_c rfl (lvs_c ?_ lvs_n)))) (ih2 (j + 1) (by omega))
          rw [← nI_1]; rfl
      refine r_iload M dX5_mixWheels_5 rfl ?_
      refine r_iconst M 5 dX5_mixWheels_7 (by decide) ?_
      refine r_icmp_ge M 94 dX5_mixWheels_8 (by decide) (fun h9 => absurd h9 (nI_geF (n := 5) rfl (by omega) (by omega))) (fun _ => ?_)
      refine r_iconst M 0 dX5_mixWheels_11 (by decide) ?_
      refine r_istore M dX5_mixWheels_12 (by decide) ?_
      exact r_lvs M _ (lvs_c rfl (lvs_c rfl (lvs_c rfl (lvs_c rfl lvs_n)))) (inner1 7 0 (by omega))
  refine r_lload_n M dX5_mixWheels_0 rfl ?_
  refine r_lstore_n M dX5_mixWheels_1 (by decide) ?_
  refine r_iconst M 0 dX5_mixWheels_2 (by decide) ?_
  refine r_istore M dX5_mixWheels_3 (by decide) ?_
  exact r_lvs M _ (lvs_c rfl (lvs_c rfl (lvs_c rfl lvs_n))) (outer 5 0 rfl)
def mixSc (d : SD) : Nat → Int64 → Int64
  | 0, h => h
  | k + 1, h => foldN (fun x => scnD d (nI k) (nI x)) 8 (mixSc d k h)
theorem c_mixScenes (hte : teOk (sTe d)) (c : Nat) (hc : c ≤ 6) (hsc : sSc d = nI c) (h0 : Int64) : Con yX5_mixScenes cX5_mixScenes 7 (some .long) (rmk 7 172) [.ref 0, .long h0] (RW fsn ftx fpf frm kp n d t) (some (.long (mixSc d c h0))) (RW fsn ftx fpf frm kp n d t) := by
  refine Con.of (own := RX5) (by decide) rfl (Nat.le_of_ble_eq_true rfl) rfl (fun B M => ?_)
  have outer : ∀ m k : Nat, k + m = c → B 5 [(0, .ref 0), (3, .long (mixSc d k h0)), (5, .int (nI k))] [] (RW fsn ftx fpf frm kp n d t) := by
    intro m
    induction m with
    | zero =>
      intro k hk
      obtain rfl : k = c := by omega
      refine r_iload M dX5_mixScenes_5 rfl ?_
      refine r_aload_n M dX5_mixScenes_7 rfl ?_
      refine r_get M fl_X5_10 dX5_mixScenes_8 rfl rfl ?_
      refine r_getN M fn_X5_164 dX5_mixScenes_11 rfl rfl ?_
      rw [show d.2.2.2.2.2.2.2.2.1 = nI k from hsc]
      refine r_icmp_ge M 53 dX5_mixScenes_14 (by decide) (fun _ => ?_) (fun h9 => absurd (nI_le (Nat.le_refl _) (by omega)) h9)
      refine r_lload_n M dX5_mixScenes_53 rfl ?_
      exact r_lret M dX5_mixScenes_54 rfl rfl rfl
    | succ m ih =>
      intro k hk
      have hok : 0 ≤ (nI k).toInt ∧ nI k < sSc d := by
        rw [hsc]
        exact ⟨by rw [nI_toInt (by omega)]; omega, (nI_ltI (by omega) (by omega)).mpr (by omega)⟩
      have inner1 : ∀ r j : Nat, j + r = 8 → B 20 [(0, .ref 0), (3, .long (foldN (fun x => scnD d (nI k) (nI x)) j (mixSc d k h0))), (5, .int (nI k)), (6, .int (nI j))] [] (RW fsn ftx fpf frm kp n d t) := by
        intro r
        induction r with
        | zero =>
          intro j hj
          obtain rfl : j = 8 := by omega
          refine r_iload M dX5_mixScenes_20 rfl ?_
          refine r_bipush M 7 dX5_mixScenes_22 (by decide) ?_
          refine r_icmp_gt M 47 dX5_mixScenes_24 (by decide) (fun _ => ?_) (fun h9 => absurd (by decide) h9)
          refine r_iinc1 M dX5_mixScenes_47 rfl (by decide) ?_
          refine r_goto M 5 dX5_mixScenes_50 (by decide) ?_
          refine r_lvs M _ (lvs_c rfl (lvs_c rfl (lvs_c ?_ lvs_n))) (ih (k + 1) (by omega))
          rw [← nI_1 k]; rfl
        | succ r ih2 =>
          intro j hj
          refine r_iload M dX5_mixScenes_20 rfl ?_
          refine r_bipush M 7 dX5_mixScenes_22 (by decide) ?_
          refine r_icmp_gt M 47 dX5_mixScenes_24 (by decide) (fun h9 => absurd h9 (nI_nlt (b := j) (a := 7) (by omega) (by omega))) (fun _ => ?_)
          refine r_lload_n M dX5_mixScenes_27 rfl ?_
          refine r_aload_n M dX5_mixScenes_28 rfl ?_
          refine r_iload M dX5_mixScenes_29 rfl ?_
          refine r_iload M dX5_mixScenes_31 rfl ?_
          refine r_V2ik M (c_scene _ _ _ _ kp n d t _ hok hte j (by omega)) lk_X5_317 dX5_mixScenes_33 (by decide +kernel) ⟨Nat.le_of_ble_eq_true rfl, Nat.le_of_ble_eq_true rfl⟩ ⟨rfl, rfl⟩ (ID19) rfl rfl rfl (by decide +kernel) rfl (Nat.le_of_ble_eq_true rfl) ?_
          refine r_i2l M dX5_mixScenes_36 ?_
          refine r_S2lk M (c_mix _ _) lk_X5_287 dX5_mixScenes_37 (by decide +kernel) ⟨Nat.le_of_ble_eq_true rfl, Nat.le_of_ble_eq_true rfl⟩ ⟨rfl, rfl⟩ [] rfl (by decide +kernel) rfl (Nat.le_of_ble_eq_true rfl) ?_
          refine r_lstore_n M dX5_mixScenes_40 (by decide) ?_
          refine r_iinc1 M dX5_mixScenes_41 rfl (by decide) ?_
          refine r_goto M 20 dX5_mixScenes_44 (by decide) ?_
          refine r_lvs M _ (lvs_c rfl (lvs_c rfl (lvs_c rfl (lvs_c ?_ lvs_n)))) (ih2 (j + 1) (by omega))
          rw [← nI_1]; rfl
      refine r_iload M dX5_mixScenes_5 rfl ?_
      refine r_aload_n M dX5_mixScenes_7 rfl ?_
      refine r_get M fl_X5_10 dX5_mixScenes_8 rfl rfl ?_
      refine r_getN M fn_X5_164 dX5_mixScenes_11 rfl rfl ?_
      rw [show d.2.2.2.2.2.2.2.2.1 = nI c from hsc]
      refine r_icmp_ge M 53 dX5_mixScenes_14 (by decide) (fun h9 => absurd h9 (nI_ge (by omega) (by omega))) (fun _ => ?_)
      refine r_iconst M 0 dX5_mixScenes_17 (by decide) ?_
      refine r_istore M dX5_mixScenes_18 (by decide) ?_
      exact r_lvs M _ (lvs_c rfl (lvs_c rfl (lvs_c rfl (lvs_c rfl lvs_n)))) (inner1 8 0 (by omega))
  refine r_lload_n M dX5_mixScenes_0 rfl ?_
  refine r_lstore_n M dX5_mixScenes_1 (by decide) ?_
  refine r_iconst M 0 dX5_mixScenes_2 (by decide) ?_
  refine r_istore M dX5_mixScenes_3 (by decide) ?_
  exact r_lvs M _ (lvs_c rfl (lvs_c rfl (lvs_c rfl lvs_n))) (outer c 0 (by omega))
/-- the share of allowed pictures, the mean height -/
def shD (d : SD) : UInt64 := FP.ddiv (FP.i2d (sumA d (rN (sTe d) (sLo d) 5))) (FP.i2d (nI (rN (sTe d) (sLo d) 5)))
def mnD (d : SD) : UInt32 := FP.fdiv (FP.i2f (sumH d)) 1084227584
def mxW0 (d : SD) (h : Int64) : Int64 := 31 * (31 * (31 * (31 * (31 * (31 * (31 * (31 * h + (whyD d 1).toInt64) + (whyD d (-1)).toInt64) + (nI (rN (sTe d) (sLo d) 5)).toInt64) + (nI (rN (sTe d) (sLo d) 5)).toInt64) + (jamG d 1 (rN (sTe d) (sLo d) 5) 1).toInt64) + (jamG d (-1) (rN (sTe d) (sLo d) 5) 1).toInt64) + (freD d 1).toInt64) + (freD d (-1)).toInt64
def mxW (d : SD) (h : Int64) : Int64 := 31 * (31 * foldN (fun w => hB (sTe d) (sTo d) (sLo d) (sHe d) (nI w) 7) 5 (mxW0 d h) + bitG (shD d) 52 1023) + bitG (FP.f2d (mnD d)) 23 127
theorem one52 : FP.Core.DFin (FP.l2d (oneB 52)) ∧ ¬ FP.Core.DZero (FP.l2d (oneB 52)) := ⟨fin_of _ (by decide +kernel), by rw [FP.Core.zero_bits2]; decide +kernel⟩
theorem one23 : FP.Core.DFin (FP.l2d (oneB 23)) ∧ ¬ FP.Core.DZero (FP.l2d (oneB 23)) := ⟨fin_of _ (by decide +kernel), by rw [FP.Core.zero_bits2]; decide +kernel⟩
theorem c_mixWhat (hw : whOk (sTe d) (sTo d)) (hn1 : vf_n64 (shD d)) (hn2 : vf_n32 (mnD d)) (hn3 : vf_n64 (FP.f2d (mnD d))) (h0 : Int64) : Con yX5_mixWhatWouldBe cX5_mixWhatWouldBe 6 (some .long) (rmk 7 174) [.ref 0, .long h0] (RW fsn ftx fpf frm kp n d t) (some (.long (mxW d h0))) (RW fsn ftx fpf frm kp n d (freW d (-1) (freW d 1 (itW d (rN (sTe d) (sLo d) 5))))) := by
  refine Con.of (own := RX5) (by decide) rfl (Nat.le_of_ble_eq_true rfl) (Eq.trans (b := 19) rfl rfl) (fun B M => ?_)
  have hte := hw.te
  generalize ht1 : itW d (rN (sTe d) (sLo d) 5) = t1 at M
  generalize ht2 : freW d 1 t1 = t2 at M
  generalize ht3 : freW d (-1) t2 = t3 at M
  have tail : ∀ m k : Nat, k + m = 5 → B 83 [(0, .ref 0), (3, .long (foldN (fun w => hB (sTe d) (sTo d) (sLo d) (sHe d) (nI w) 7) k (mxW0 d h0))), (5, .int (nI k))] [] (RW fsn ftx fpf frm kp n d t3) := by
    intro m
    induction m with
    | zero =>
      intro k hk
      obtain rfl : k = 5 := by omega
      refine r_iload M dX5_mixWhatWouldBe_83 rfl ?_
      refine r_iconst M 5 dX5_mixWhatWouldBe_85 (by decide) ?_
      refine r_icmp_ge M 109 dX5_mixWhatWouldBe_86 (by decide) (fun _ => ?_) (fun h9 => absurd (nI_geT (n := 5) rfl (by omega) (by omega)) h9)
      refine r_lload_n M dX5_mixWhatWouldBe_109 rfl ?_
      refine r_aload_n M dX5_mixWhatWouldBe_110 rfl ?_
      refine r_V0dk M (c_allowedShare _ _ _ _ kp n d t3 hte hn1) lk_X5_335 dX5_mixWhatWouldBe_111 (by decide +kernel) ⟨Nat.le_of_ble_eq_true rfl, Nat.le_of_ble_eq_true rfl⟩ ⟨rfl, rfl⟩ (ID19) rfl rfl rfl (by decide +kernel) rfl (Nat.le_of_ble_eq_true rfl) ?_
      refine r_bipush M 52 dX5_mixWhatWouldBe_114 (by decide) ?_
      refine r_sipush M 1023 dX5_mixWhatWouldBe_116 (by decide) ?_
      refine r_S3lk M (c_bitsOf _ _ 1023 (by decide) hn1 one52) lk_X5_339 dX5_mixWhatWouldBe_119 (by decide +kernel) ⟨Nat.le_of_ble_eq_true rfl, Nat.le_of_ble_eq_true rfl⟩ ⟨rfl, rfl⟩ [] rfl (by decide +kernel) rfl (Nat.le_of_ble_eq_true rfl) ?_
      refine r_S2lk M (c_mix _ _) lk_X5_287 dX5_mixWhatWouldBe_122 (by decide +kernel) ⟨Nat.le_of_ble_eq_true rfl, Nat.le_of_ble_eq_true rfl⟩ ⟨rfl, rfl⟩ [] rfl (by decide +kernel) rfl (Nat.le_of_ble_eq_true rfl) ?_
      refine r_lstore_n M dX5_mixWhatWouldBe_125 (by decide) ?_
      refine r_lload_n M dX5_mixWhatWouldBe_126 rfl ?_
      refine r_aload_n M dX5_mixWhatWouldBe_127 rfl ?_
      refine r_V0fk M (c_meanHeight _ _ _ _ kp n d t3 hn2) lk_X5_343 dX5_mixWhatWouldBe_128 (by decide +kernel) ⟨Nat.le_of_ble_eq_true rfl, Nat.le_of_ble_eq_true rfl⟩ ⟨rfl, rfl⟩ (ID19) rfl rfl rfl (by decide +kernel) rfl (Nat.le_of_ble_eq_true rfl) ?_
      refine r_f2d M dX5_mixWhatWouldBe_131 hn3 ?_
      refine r_bipush M 23 dX5_mixWhatWouldBe_132 (by decide) ?_
      refine r_bipush M 127 dX5_mixWhatWouldBe_134 (by decide) ?_
      refine r_S3lk M (c_bitsOf _ _ 127 (by decide) hn3 one23) lk_X5_339 dX5_mixWhatWouldBe_136 (by decide +kernel) ⟨Nat.le_of_ble_eq_true rfl, Nat.le_of_ble_eq_true rfl⟩ ⟨rfl, rfl⟩ [] rfl (by decide +kernel) rfl (Nat.le_of_ble_eq_true rfl) ?_
      refine r_S2lk M (c_mix _ _) lk_X5_287 dX5_mixWhatWouldBe_139 (by decide +kernel) ⟨Nat.le_of_ble_eq_true rfl, Nat.le_of_ble_eq_true rfl⟩ ⟨rfl, rfl⟩ [] rfl (by decide +kernel) rfl (Nat.le_of_ble_eq_true rfl) ?_
      exact r_lret M dX5_mixWhatWouldBe_142 rfl rfl rfl
    | succ m ih =>
      intro k hk
      refine r_iload M dX5_mixWhatWouldBe_83 rfl ?_
      refine r_iconst M 5 dX5_mixWhatWouldBe_85 (by decide) ?_
      refine r_icmp_ge M 109 dX5_mixWhatWouldBe_86 (by decide) (fun h9 => absurd h9 (nI_geF (n := 5) rfl (by omega) (by omega))) (fun _ => ?_)
      refine r_lload_n M dX5_mixWhatWouldBe_89 rfl ?_
      refine r_aload_n M dX5_mixWhatWouldBe_90 rfl ?_
      refine r_bipush M 7 dX5_mixWhatWouldBe_91 (by decide) ?_
      refine r_iload M dX5_mixWhatWouldBe_93 rfl ?_
      refine r_V2ik M (c_ahead _ _ _ _ kp n d t3 _ _ (nI5 k (by omega)) (by decide)) lk_X5_332 dX5_mixWhatWouldBe_95 (by decide +kernel) ⟨Nat.le_of_ble_eq_true rfl, Nat.le_of_ble_eq_true rfl⟩ ⟨rfl, rfl⟩ (ID19) rfl rfl rfl (by decide +kernel) rfl (Nat.le_of_ble_eq_true rfl) ?_
      refine r_i2l M dX5_mixWhatWouldBe_98 ?_
      refine r_S2lk M (c_mix _ _) lk_X5_287 dX5_mixWhatWouldBe_99 (by decide +kernel) ⟨Nat.le_of_ble_eq_true rfl, Nat.le_of_ble_eq_true rfl⟩ ⟨rfl, rfl⟩ [] rfl (by decide +kernel) rfl (Nat.le_of_ble_eq_true rfl) ?_
      refine r_lstore_n M dX5_mixWhatWouldBe_102 (by decide) ?_
      refine r_iinc1 M dX5_mixWhatWouldBe_103 rfl (by decide) ?_
      refine r_goto M 83 dX5_mixWhatWouldBe_106 (by decide) ?_
      refine r_lvs M _ (lvs_c rfl (lvs_c rfl (lvs_c ?_ lvs_n))) (ih (k + 1) (by omega))
      rw [← nI_1]; rfl
  refine r_lload_n M dX5_mixWhatWouldBe_0 rfl ?_
  refine r_aload_n M dX5_mixWhatWouldBe_1 rfl ?_
  refine r_iconst M 0 dX5_mixWhatWouldBe_2 (by decide) ?_
  have y0 := c_why (nv (inn ID19) fsn) (nv (inn ID19) ftx) (nv (inn ID19) fpf) (nv (inn ID19) frm) kp n d t 0 (Or.inl rfl)
  have y1 := c_why (nv (inn ID19) fsn) (nv (inn ID19) ftx) (nv (inn ID19) fpf) (nv (inn ID19) frm) kp n d t 1 (Or.inr rfl)
  rw [if_pos rfl] at y0
  rw [if_neg (by decide)] at y1
  refine r_V1ik M y0 lk_X5_320 dX5_mixWhatWouldBe_3 (by decide +kernel) ⟨Nat.le_of_ble_eq_true rfl, Nat.le_of_ble_eq_true rfl⟩ ⟨rfl, rfl⟩ (ID19) rfl rfl rfl (by decide +kernel) rfl (Nat.le_of_ble_eq_true rfl) ?_
  refine r_i2l M dX5_mixWhatWouldBe_6 ?_
  refine r_S2lk M (c_mix _ _) lk_X5_287 dX5_mixWhatWouldBe_7 (by decide +kernel) ⟨Nat.le_of_ble_eq_true rfl, Nat.le_of_ble_eq_true rfl⟩ ⟨rfl, rfl⟩ [] rfl (by decide +kernel) rfl (Nat.le_of_ble_eq_true rfl) ?_
  refine r_aload_n M dX5_mixWhatWouldBe_10 rfl ?_
  refine r_iconst M 1 dX5_mixWhatWouldBe_11 (by decide) ?_
  refine r_V1ik M y1 lk_X5_320 dX5_mixWhatWouldBe_12 (by decide +kernel) ⟨Nat.le_of_ble_eq_true rfl, Nat.le_of_ble_eq_true rfl⟩ ⟨rfl, rfl⟩ (ID19) rfl rfl rfl (by decide +kernel) rfl (Nat.le_of_ble_eq_true rfl) ?_
  refine r_i2l M dX5_mixWhatWouldBe_15 ?_
  refine r_S2lk M (c_mix _ _) lk_X5_287 dX5_mixWhatWouldBe_16 (by decide +kernel) ⟨Nat.le_of_ble_eq_true rfl, Nat.le_of_ble_eq_true rfl⟩ ⟨rfl, rfl⟩ [] rfl (by decide +kernel) rfl (Nat.le_of_ble_eq_true rfl) ?_
  refine r_lstore_n M dX5_mixWhatWouldBe_19 (by decide) ?_
  refine r_lload_n M dX5_mixWhatWouldBe_20 rfl ?_
  refine r_aload_n M dX5_mixWhatWouldBe_21 rfl ?_
  refine r_iconst M 0 dX5_mixWhatWouldBe_22 (by decide) ?_
  have k0 := c_round0 (nv (inn ID19) fsn) (nv (inn ID19) ftx) (nv (inn ID19) fpf) (nv (inn ID19) frm) kp n d t hw
  rw [ht1] at k0
  refine r_V1iu (w' := RW fsn ftx fpf frm kp n d t1) M k0 lk_X5_323 dX5_mixWhatWouldBe_23 (by decide +kernel) ⟨Nat.le_of_ble_eq_true rfl, Nat.le_of_ble_eq_true rfl⟩ ⟨rfl, rfl⟩ ID19 rfl rfl rfl (by decide +kernel) rfl (Nat.le_of_ble_eq_true rfl) (RW_put fsn ftx fpf frm kp n d t t1) ?_
  refine r_i2l M dX5_mixWhatWouldBe_26 ?_
  refine r_S2lk M (c_mix _ _) lk_X5_287 dX5_mixWhatWouldBe_27 (by decide +kernel) ⟨Nat.le_of_ble_eq_true rfl, Nat.le_of_ble_eq_true rfl⟩ ⟨rfl, rfl⟩ [] rfl (by decide +kernel) rfl (Nat.le_of_ble_eq_true rfl) ?_
  refine r_aload_n M dX5_mixWhatWouldBe_30 rfl ?_
  refine r_iconst M 1 dX5_mixWhatWouldBe_31 (by decide) ?_
  refine r_V1ik M (c_round1 _ _ _ _ kp n d t1 hte) lk_X5_323 dX5_mixWhatWouldBe_32 (by decide +kernel) ⟨Nat.le_of_ble_eq_true rfl, Nat.le_of_ble_eq_true rfl⟩ ⟨rfl, rfl⟩ (ID19) rfl rfl rfl (by decide +kernel) rfl (Nat.le_of_ble_eq_true rfl) ?_
  refine r_i2l M dX5_mixWhatWouldBe_35 ?_
  refine r_S2lk M (c_mix _ _) lk_X5_287 dX5_mixWhatWouldBe_36 (by decide +kernel) ⟨Nat.le_of_ble_eq_true rfl, Nat.le_of_ble_eq_true rfl⟩ ⟨rfl, rfl⟩ [] rfl (by decide +kernel) rfl (Nat.le_of_ble_eq_true rfl) ?_
  refine r_lstore_n M dX5_mixWhatWouldBe_39 (by decide) ?_
  refine r_lload_n M dX5_mixWhatWouldBe_40 rfl ?_
  refine r_aload_n M dX5_mixWhatWouldBe_41 rfl ?_
  refine r_iconst M 0 dX5_mixWhatWouldBe_42 (by decide) ?_
  have j0 := c_jamsIn (nv (inn ID19) fsn) (nv (inn ID19) ftx) (nv (inn ID19) fpf) (nv (inn ID19) frm) kp n d t1 0 (Or.inl rfl) hte
  have j1 := c_jamsIn (nv (inn ID19) fsn) (nv (inn ID19) ftx) (nv (inn ID19) fpf) (nv (inn ID19) frm) kp n d t1 1 (Or.inr rfl) hte
  rw [if_pos rfl] at j0
  rw [if_neg (by decide)] at j1
  refine r_V1ik M j0 lk_X5_326 dX5_mixWhatWouldBe_43 (by decide +kernel) ⟨Nat.le_of_ble_eq_true rfl, Nat.le_of_ble_eq_true rfl⟩ ⟨rfl, rfl⟩ (ID19) rfl rfl rfl (by decide +kernel) rfl (Nat.le_of_ble_eq_true rfl) ?_
  refine r_i2l M dX5_mixWhatWouldBe_46 ?_
  refine r_S2lk M (c_mix _ _) lk_X5_287 dX5_mixWhatWouldBe_47 (by decide +kernel) ⟨Nat.le_of_ble_eq_true rfl, Nat.le_of_ble_eq_true rfl⟩ ⟨rfl, rfl⟩ [] rfl (by decide +kernel) rfl (Nat.le_of_ble_eq_true rfl) ?_
  refine r_aload_n M dX5_mixWhatWouldBe_50 rfl ?_
  refine r_iconst M 1 dX5_mixWhatWouldBe_51 (by decide) ?_
  refine r_V1ik M j1 lk_X5_326 dX5_mixWhatWouldBe_52 (by decide +kernel) ⟨Nat.le_of_ble_eq_true rfl, Nat.le_of_ble_eq_true rfl⟩ ⟨rfl, rfl⟩ (ID19) rfl rfl rfl (by decide +kernel) rfl (Nat.le_of_ble_eq_true rfl) ?_
  refine r_i2l M dX5_mixWhatWouldBe_55 ?_
  refine r_S2lk M (c_mix _ _) lk_X5_287 dX5_mixWhatWouldBe_56 (by decide +kernel) ⟨Nat.le_of_ble_eq_true rfl, Nat.le_of_ble_eq_true rfl⟩ ⟨rfl, rfl⟩ [] rfl (by decide +kernel) rfl (Nat.le_of_ble_eq_true rfl) ?_
  refine r_lstore_n M dX5_mixWhatWouldBe_59 (by decide) ?_
  refine r_lload_n M dX5_mixWhatWouldBe_60 rfl ?_
  refine r_aload_n M dX5_mixWhatWouldBe_61 rfl ?_
  refine r_iconst M 0 dX5_mixWhatWouldBe_62 (by decide) ?_
  have k1 := c_frees (nv (inn ID19) fsn) (nv (inn ID19) ftx) (nv (inn ID19) fpf) (nv (inn ID19) frm) kp n d t1 0 (Or.inl rfl)
  rw [if_pos rfl, ht2] at k1
  refine r_V1iu (w' := RW fsn ftx fpf frm kp n d t2) M k1 lk_X5_329 dX5_mixWhatWouldBe_63 (by decide +kernel) ⟨Nat.le_of_ble_eq_true rfl, Nat.le_of_ble_eq_true rfl⟩ ⟨rfl, rfl⟩ ID19 rfl rfl rfl (by decide +kernel) rfl (Nat.le_of_ble_eq_true rfl) (RW_put fsn ftx fpf frm kp n d t1 t2) ?_
  refine r_i2l M dX5_mixWhatWouldBe_66 ?_
  refine r_S2lk M (c_mix _ _) lk_X5_287 dX5_mixWhatWouldBe_67 (by decide +kernel) ⟨Nat.le_of_ble_eq_true rfl, Nat.le_of_ble_eq_true rfl⟩ ⟨rfl, rfl⟩ [] rfl (by decide +kernel) rfl (Nat.le_of_ble_eq_true rfl) ?_
  refine r_aload_n M dX5_mixWhatWouldBe_70 rfl ?_
  refine r_iconst M 1 dX5_mixWhatWouldBe_71 (by decide) ?_
  have k2 := c_frees (nv (inn ID19) fsn) (nv (inn ID19) ftx) (nv (inn ID19) fpf) (nv (inn ID19) frm) kp n d t2 1 (Or.inr rfl)
  rw [if_neg (by decide), ht3] at k2
  refine r_V1iu (w' := RW fsn ftx fpf frm kp n d t3) M k2 lk_X5_329 dX5_mixWhatWouldBe_72 (by decide +kernel) ⟨Nat.le_of_ble_eq_true rfl, Nat.le_of_ble_eq_true rfl⟩ ⟨rfl, rfl⟩ ID19 rfl rfl rfl (by decide +kernel) rfl (Nat.le_of_ble_eq_true rfl) (RW_put fsn ftx fpf frm kp n d t2 t3) ?_
  refine r_i2l M dX5_mixWhatWouldBe_75 ?_
  refine r_S2lk M (c_mix _ _) lk_X5_287 dX5_mixWhatWouldBe_76 (by decide +kernel) ⟨Nat.le_of_ble_eq_true rfl, Nat.le_of_ble_eq_true rfl⟩ ⟨rfl, rfl⟩ [] rfl (by decide +kernel) rfl (Nat.le_of_ble_eq_true rfl) ?_
  refine r_lstore_n M dX5_mixWhatWouldBe_79 (by decide) ?_
  refine r_iconst M 0 dX5_mixWhatWouldBe_80 (by decide) ?_
  refine r_istore M dX5_mixWhatWouldBe_81 (by decide) ?_
  exact r_lvs M _ (lvs_c rfl (lvs_c rfl (lvs_c rfl lvs_n))) (tail 5 0 rfl)
end


theorem btw_wh {x : Int32} (hb : btw x 0 4 = true) : ∃ w, w < 5 ∧ x = nI w := by
  rw [btw, decide_eq_true_iff, Int32.le_iff_toInt_le, Int32.le_iff_toInt_le, show (0 : Int32).toInt = 0 from rfl, show (4 : Int32).toInt = 4 from rfl] at hb
  refine ⟨x.toInt.toNat, by omega, ?_⟩
  rw [← Int32.toInt_inj, nI_toInt (by omega)]
  omega
theorem add0 (w : Nat) : (0 : Int32) + nI w = nI w := by rw [show (0 : Int32) = nI 0 from rfl, nI_add, Nat.zero_add]
theorem hix (w t : Nat) : (15 : Int32) + 12 * nI w + nI t = nI (15 + 12 * w + t) := by rw [show (12 : Int32) = nI 12 from rfl, pk_mul, show (15 : Int32) = nI 15 from rfl, nI_add, nI_add]
section
variable (th ln at9 pt nm op : Int32) (kp : Bool) (hs : Int64) (s tx bg tm : Nat → Int32) (v : Nat)
theorem c_mFileF (c : Int32) (hc0 : ¬ c = 0) (x y z : Int32) {d : SD} (hR : Rp s d) (h : ((if btw x 0 4 = true then btw y 0 (sTe d x.toNatClampNeg - 1) else false) = false ∧ c = 1) ∨ ((if btw x 0 4 = true then btw y 0 (sTe d x.toNatClampNeg - 1) else false) = true ∧ btw z 0 9 = false ∧ c = 2)) : Con yX6_file cX6_file 5 (some .int) (rmk 5 115) [.ref 0, .int x, .int y, .int z] (MW th (nI v) ln at9 pt nm op kp hs s tx bg tm) (some (.int 0)) (MW c (nI v) ln at9 pt nm op kp hs s tx bg tm) := by
  refine Con.of (own := RX6) (by decide) rfl (Nat.le_of_ble_eq_true rfl) rfl (fun B M => ?_)
  have go : B 29 [(0, .ref 0), (1, .int x), (2, .int y), (3, .int z)] [.int c, .ref 0] (MW th (nI v) ln at9 pt nm op kp hs s tx bg tm) := by
    refine r_V1iu (w' :=  MW c (nI v) ln at9 pt nm op kp hs s tx bg tm) M (c_holds th (nI v) ln at9 pt nm op kp hs s tx bg tm c) lk_X6_63 dX6_file_29 (by decide +kernel) ⟨Nat.le_of_ble_eq_true rfl, Nat.le_of_ble_eq_true rfl⟩ ⟨rfl, rfl⟩ [0, 1, 2, 3, 4] rfl rfl rfl (by decide +kernel) rfl (Nat.le_of_ble_eq_true rfl) rfl ?_
    rw [decide_eq_false hc0]
    refine r_if_ne M 37 dX6_file_32 (by decide) (fun h9 => absurd rfl h9) (fun _ => ?_)
    refine r_iconst M 0 dX6_file_35 (by decide) ?_
    exact r_iret M dX6_file_36 rfl rfl rfl
  refine r_aload_n M dX6_file_0 rfl ?_
  refine r_aload_n M dX6_file_1 rfl ?_
  refine r_iload_n M dX6_file_2 rfl ?_
  refine r_iload_n M dX6_file_3 rfl ?_
  refine r_V2ik M (c_mIsTooth th ln at9 pt nm op kp hs s tx bg tm (nI v) x y hR) lk_X6_89 dX6_file_4 (by decide +kernel) ⟨Nat.le_of_ble_eq_true rfl, Nat.le_of_ble_eq_true rfl⟩ ⟨rfl, rfl⟩ [0, 1, 2, 3, 4] rfl rfl rfl (by decide +kernel) rfl (Nat.le_of_ble_eq_true rfl) ?_
  rcases h with ⟨h, rfl⟩ | ⟨h, h2, rfl⟩
  · rw [h]
    refine r_if_ne M 14 dX6_file_7 (by decide) (fun h9 => absurd rfl h9) (fun _ => ?_)
    refine r_iconst M 1 dX6_file_10 (by decide) ?_
    refine r_goto M 29 dX6_file_11 (by decide) ?_
    exact go
  · rw [h]
    refine r_if_ne M 14 dX6_file_7 (by decide) (fun _ => ?_) (fun h9 => absurd h9 (by decide))
    refine r_iload_n M dX6_file_14 rfl ?_
    refine r_iconst M 0 dX6_file_15 (by decide) ?_
    refine r_bipush M 9 dX6_file_16 (by decide) ?_
    refine r_S3ik M (c_in _ _ _) lk_X6_26 dX6_file_18 (by decide +kernel) ⟨Nat.le_of_ble_eq_true rfl, Nat.le_of_ble_eq_true rfl⟩ ⟨rfl, rfl⟩ [] rfl (by decide +kernel) rfl (Nat.le_of_ble_eq_true rfl) ?_
    rw [h2]
    refine r_if_ne M 28 dX6_file_21 (by decide) (fun h9 => absurd rfl h9) (fun _ => ?_)
    refine r_iconst M 2 dX6_file_24 (by decide) ?_
    refine r_goto M 29 dX6_file_25 (by decide) ?_
    exact go
theorem c_mFile (hv : v ≤ 6) (w t : Nat) (h5 : w < 5) (y : Int32) (hy : btw y 0 9 = true) {d d' : SD} (hR : Rp s d) (ht : btw (nI t) 0 (sTe d w - 1) = true) (ht2 : t < 12) (hR' : Rp (upd s (15 + 12 * w + t) y) d') (hO' : SOk d') :
    (alD d' = true → Con yX6_file cX6_file 5 (some .int) (rmk 5 115) [.ref 0, .int (nI w), .int (nI t), .int y] (MW th (nI v) ln at9 pt nm op kp hs s tx bg tm) (some (.int (s (15 + 12 * w + t)))) (MW 0 (nI (puK v)) ln at9 pt nm op kp hs (upd (svS s v) (15 + 12 * w + t) y) tx bg tm)) ∧
    (alD d' = false → Con yX6_file cX6_file 5 (some .int) (rmk 5 115) [.ref 0, .int (nI w), .int (nI t), .int y] (MW th (nI v) ln at9 pt nm op kp hs s tx bg tm) (some (.int 0)) (MW 3 (nI v) ln at9 pt nm op kp hs s tx bg tm)) := by
  have hb : btw (nI w) 0 4 = true := btw_nI (a := 0) (b := 4) (by omega) (by omega) (by omega)
  have hc := c_changed 0 ln at9 pt nm op kp hs s tx bg tm v hv (15 + 12 * w + t) (by omega) y
  have hw := c_wouldBe 0 (nI v) ln at9 pt nm op kp hs s tx bg tm (15 + 12 * w + t) (by omega) y hR' hO'
  have e1 := hix w t
  have hi : (if btw (nI w) 0 4 = true then btw (nI t) 0 (sTe d (nI w).toNatClampNeg - 1) else false) = true := by rw [if_pos hb, cl_s (by omega)]; exact ht
  have hI := c_mIsTooth th ln at9 pt nm op kp hs s tx bg tm (nI v) (nI w) (nI t) hR
  rw [hi] at hI
  generalize nI (15 + 12 * w + t) = jj at hc hw e1 ⊢
  generalize upd (svS s v) (15 + 12 * w + t) y = s2 at hc ⊢
  generalize puK v = v2 at hc ⊢
  generalize s (15 + 12 * w + t) = old at hc ⊢
  constructor
  · intro hh
    refine Con.of (own := RX6) (by decide) rfl (Nat.le_of_ble_eq_true rfl) rfl (fun B M => ?_)
    refine r_aload_n M dX6_file_0 rfl ?_
    refine r_aload_n M dX6_file_1 rfl ?_
    refine r_iload_n M dX6_file_2 rfl ?_
    refine r_iload_n M dX6_file_3 rfl ?_
    refine r_V2ik M hI lk_X6_89 dX6_file_4 (by decide +kernel) ⟨Nat.le_of_ble_eq_true rfl, Nat.le_of_ble_eq_true rfl⟩ ⟨rfl, rfl⟩ [0, 1, 2, 3, 4] rfl rfl rfl (by decide +kernel) rfl (Nat.le_of_ble_eq_true rfl) ?_
    refine r_if_ne M 14 dX6_file_7 (by decide) (fun _ => ?_) (fun h9 => absurd h9 (by decide))
    refine r_iload_n M dX6_file_14 rfl ?_
    refine r_iconst M 0 dX6_file_15 (by decide) ?_
    refine r_bipush M 9 dX6_file_16 (by decide) ?_
    refine r_S3ik M (c_in _ _ _) lk_X6_26 dX6_file_18 (by decide +kernel) ⟨Nat.le_of_ble_eq_true rfl, Nat.le_of_ble_eq_true rfl⟩ ⟨rfl, rfl⟩ [] rfl (by decide +kernel) rfl (Nat.le_of_ble_eq_true rfl) ?_
    rw [hy]
    refine r_if_ne M 28 dX6_file_21 (by decide) (fun _ => ?_) (fun h9 => absurd h9 (by decide))
    refine r_iconst M 0 dX6_file_28 (by decide) ?_
    refine r_V1iu (w' :=  MW 0 (nI v) ln at9 pt nm op kp hs s tx bg tm) M (c_holds th (nI v) ln at9 pt nm op kp hs s tx bg tm 0) lk_X6_63 dX6_file_29 (by decide +kernel) ⟨Nat.le_of_ble_eq_true rfl, Nat.le_of_ble_eq_true rfl⟩ ⟨rfl, rfl⟩ [0, 1, 2, 3, 4] rfl rfl rfl (by decide +kernel) rfl (Nat.le_of_ble_eq_true rfl) rfl ?_
    refine r_if_ne M 37 dX6_file_32 (by decide) (fun _ => ?_) (fun h9 => absurd h9 (by decide))
    refine r_bipush M 15 dX6_file_37 (by decide) ?_
    refine r_bipush M 12 dX6_file_39 (by decide) ?_
    refine r_iload_n M dX6_file_41 rfl ?_
    refine r_imul M dX6_file_42 ?_
    refine r_iadd M dX6_file_43 ?_
    refine r_iload_n M dX6_file_44 rfl ?_
    refine r_iadd M dX6_file_45 ?_
    rw [e1]
    refine r_istore M dX6_file_46 (by decide) ?_
    refine r_aload_n M dX6_file_48 rfl ?_
    refine r_aload_n M dX6_file_49 rfl ?_
    refine r_iload M dX6_file_50 rfl ?_
    refine r_iload_n M dX6_file_52 rfl ?_
    refine r_V2ik M hw lk_X6_82 dX6_file_53 (by decide +kernel) ⟨Nat.le_of_ble_eq_true rfl, Nat.le_of_ble_eq_true rfl⟩ ⟨rfl, rfl⟩ [0, 1, 2, 3, 4] rfl rfl rfl (by decide +kernel) rfl (Nat.le_of_ble_eq_true rfl) ?_
    rw [hh]
    refine r_if_eq M 63 dX6_file_56 (by decide) (fun h9 => absurd h9 (by decide)) (fun _ => ?_)
    refine r_iconst M 0 dX6_file_59 (by decide) ?_
    refine r_goto M 64 dX6_file_60 (by decide) ?_
    refine r_V1iu (w' :=  MW 0 (nI v) ln at9 pt nm op kp hs s tx bg tm) M (c_holds 0 (nI v) ln at9 pt nm op kp hs s tx bg tm 0) lk_X6_63 dX6_file_64 (by decide +kernel) ⟨Nat.le_of_ble_eq_true rfl, Nat.le_of_ble_eq_true rfl⟩ ⟨rfl, rfl⟩ [0, 1, 2, 3, 4] rfl rfl rfl (by decide +kernel) rfl (Nat.le_of_ble_eq_true rfl) rfl ?_
    refine r_if_eq M 80 dX6_file_67 (by decide) (fun h9 => absurd h9 (by decide)) (fun _ => ?_)
    refine r_aload_n M dX6_file_70 rfl ?_
    refine r_iload M dX6_file_71 rfl ?_
    refine r_iload_n M dX6_file_73 rfl ?_
    refine r_V2iu (w' :=  MW 0 (nI v2) ln at9 pt nm op kp hs s2 tx bg tm) M hc lk_X6_86 dX6_file_74 (by decide +kernel) ⟨Nat.le_of_ble_eq_true rfl, Nat.le_of_ble_eq_true rfl⟩ ⟨rfl, rfl⟩ [0, 1, 2, 3, 4] rfl rfl rfl (by decide +kernel) rfl (Nat.le_of_ble_eq_true rfl) rfl ?_
    refine r_goto M 81 dX6_file_77 (by decide) ?_
    exact r_iret M dX6_file_81 rfl rfl rfl
  · intro hh
    refine Con.of (own := RX6) (by decide) rfl (Nat.le_of_ble_eq_true rfl) rfl (fun B M => ?_)
    refine r_aload_n M dX6_file_0 rfl ?_
    refine r_aload_n M dX6_file_1 rfl ?_
    refine r_iload_n M dX6_file_2 rfl ?_
    refine r_iload_n M dX6_file_3 rfl ?_
    refine r_V2ik M hI lk_X6_89 dX6_file_4 (by decide +kernel) ⟨Nat.le_of_ble_eq_true rfl, Nat.le_of_ble_eq_true rfl⟩ ⟨rfl, rfl⟩ [0, 1, 2, 3, 4] rfl rfl rfl (by decide +kernel) rfl (Nat.le_of_ble_eq_true rfl) ?_
    refine r_if_ne M 14 dX6_file_7 (by decide) (fun _ => ?_) (fun h9 => absurd h9 (by decide))
    refine r_iload_n M dX6_file_14 rfl ?_
    refine r_iconst M 0 dX6_file_15 (by decide) ?_
    refine r_bipush M 9 dX6_file_16 (by decide) ?_
    refine r_S3ik M (c_in _ _ _) lk_X6_26 dX6_file_18 (by decide +kernel) ⟨Nat.le_of_ble_eq_true rfl, Nat.le_of_ble_eq_true rfl⟩ ⟨rfl, rfl⟩ [] rfl (by decide +kernel) rfl (Nat.le_of_ble_eq_true rfl) ?_
    rw [hy]
    refine r_if_ne M 28 dX6_file_21 (by decide) (fun _ => ?_) (fun h9 => absurd h9 (by decide))
    refine r_iconst M 0 dX6_file_28 (by decide) ?_
    refine r_V1iu (w' :=  MW 0 (nI v) ln at9 pt nm op kp hs s tx bg tm) M (c_holds th (nI v) ln at9 pt nm op kp hs s tx bg tm 0) lk_X6_63 dX6_file_29 (by decide +kernel) ⟨Nat.le_of_ble_eq_true rfl, Nat.le_of_ble_eq_true rfl⟩ ⟨rfl, rfl⟩ [0, 1, 2, 3, 4] rfl rfl rfl (by decide +kernel) rfl (Nat.le_of_ble_eq_true rfl) rfl ?_
    refine r_if_ne M 37 dX6_file_32 (by decide) (fun _ => ?_) (fun h9 => absurd h9 (by decide))
    refine r_bipush M 15 dX6_file_37 (by decide) ?_
    refine r_bipush M 12 dX6_file_39 (by decide) ?_
    refine r_iload_n M dX6_file_41 rfl ?_
    refine r_imul M dX6_file_42 ?_
    refine r_iadd M dX6_file_43 ?_
    refine r_iload_n M dX6_file_44 rfl ?_
    refine r_iadd M dX6_file_45 ?_
    rw [e1]
    refine r_istore M dX6_file_46 (by decide) ?_
    refine r_aload_n M dX6_file_48 rfl ?_
    refine r_aload_n M dX6_file_49 rfl ?_
    refine r_iload M dX6_file_50 rfl ?_
    refine r_iload_n M dX6_file_52 rfl ?_
    refine r_V2ik M hw lk_X6_82 dX6_file_53 (by decide +kernel) ⟨Nat.le_of_ble_eq_true rfl, Nat.le_of_ble_eq_true rfl⟩ ⟨rfl, rfl⟩ [0, 1, 2, 3, 4] rfl rfl rfl (by decide +kernel) rfl (Nat.le_of_ble_eq_true rfl) ?_
    rw [hh]
    refine r_if_eq M 63 dX6_file_56 (by decide) (fun _ => ?_) (fun h9 => absurd rfl h9)
    refine r_iconst M 3 dX6_file_63 (by decide) ?_
    refine r_V1iu (w' :=  MW 3 (nI v) ln at9 pt nm op kp hs s tx bg tm) M (c_holds 0 (nI v) ln at9 pt nm op kp hs s tx bg tm 3) lk_X6_63 dX6_file_64 (by decide +kernel) ⟨Nat.le_of_ble_eq_true rfl, Nat.le_of_ble_eq_true rfl⟩ ⟨rfl, rfl⟩ [0, 1, 2, 3, 4] rfl rfl rfl (by decide +kernel) rfl (Nat.le_of_ble_eq_true rfl) rfl ?_
    refine r_if_eq M 80 dX6_file_67 (by decide) (fun _ => ?_) (fun h9 => absurd (by decide) h9)
    refine r_iconst M 0 dX6_file_80 (by decide) ?_
    exact r_iret M dX6_file_81 rfl rfl rfl
theorem c_mSetF (x : Int32) (h : btw x 0 9 = false) : Con yX6_set cX6_set 3 (some .int) (rmk 5 115) [.ref 0, .int x] (MW th (nI v) ln at9 pt nm op kp hs s tx bg tm) (some (.int 0)) (MW 1 (nI v) ln at9 pt nm op kp hs s tx bg tm) := by
  refine Con.of (own := RX6) (by decide) rfl (Nat.le_of_ble_eq_true rfl) rfl (fun B M => ?_)
  refine r_iload_n M dX6_set_0 rfl ?_
  refine r_iconst M 0 dX6_set_1 (by decide) ?_
  refine r_bipush M 9 dX6_set_2 (by decide) ?_
  refine r_S3ik M (c_in _ _ _) lk_X6_26 dX6_set_4 (by decide +kernel) ⟨Nat.le_of_ble_eq_true rfl, Nat.le_of_ble_eq_true rfl⟩ ⟨rfl, rfl⟩ [] rfl (by decide +kernel) rfl (Nat.le_of_ble_eq_true rfl) ?_
  rw [h]
  refine r_istore_n M dX6_set_7 (by decide) ?_
  refine r_aload_n M dX6_set_8 rfl ?_
  refine r_iload_n M dX6_set_9 rfl ?_
  refine r_if_ne M 17 dX6_set_10 (by decide) (fun h9 => absurd rfl h9) (fun _ => ?_)
  refine r_iconst M 1 dX6_set_13 (by decide) ?_
  refine r_goto M 32 dX6_set_14 (by decide) ?_
  refine r_V1iu (w' :=  _) M (c_holds th (nI v) ln at9 pt nm op kp hs s tx bg tm 1) lk_X6_63 dX6_set_32 (by decide +kernel) ⟨Nat.le_of_ble_eq_true rfl, Nat.le_of_ble_eq_true rfl⟩ ⟨rfl, rfl⟩ [0, 1, 2, 3, 4] rfl rfl rfl (by decide +kernel) rfl (Nat.le_of_ble_eq_true rfl) rfl ?_
  refine r_if_eq M 48 dX6_set_35 (by decide) (fun _ => ?_) (fun h9 => absurd (by decide) h9)
  refine r_iconst M 0 dX6_set_48 (by decide) ?_
  exact r_iret M dX6_set_49 rfl rfl rfl
theorem c_mSet (hv : v ≤ 6) (x : Int32) (h : btw x 0 9 = true) {d' : SD} (hR' : Rp (upd s 75 x) d') (hO' : SOk d') :
    (alD d' = true → Con yX6_set cX6_set 3 (some .int) (rmk 5 115) [.ref 0, .int x] (MW th (nI v) ln at9 pt nm op kp hs s tx bg tm) (some (.int (s 75))) (MW 0 (nI (puK v)) ln at9 pt nm op kp hs (upd (svS s v) 75 x) tx bg tm)) ∧
    (alD d' = false → Con yX6_set cX6_set 3 (some .int) (rmk 5 115) [.ref 0, .int x] (MW th (nI v) ln at9 pt nm op kp hs s tx bg tm) (some (.int 0)) (MW 2 (nI v) ln at9 pt nm op kp hs s tx bg tm)) := by
  have hc := c_changed 0 ln at9 pt nm op kp hs s tx bg tm v hv 75 (by omega) x
  have hw := c_wouldBe th (nI v) ln at9 pt nm op kp hs s tx bg tm 75 (by omega) x hR' hO'
  generalize upd (svS s v) 75 x = s2 at hc ⊢
  generalize puK v = v2 at hc ⊢
  constructor
  · intro hh
    refine Con.of (own := RX6) (by decide) rfl (Nat.le_of_ble_eq_true rfl) rfl (fun B M => ?_)
    refine r_iload_n M dX6_set_0 rfl ?_
    refine r_iconst M 0 dX6_set_1 (by decide) ?_
    refine r_bipush M 9 dX6_set_2 (by decide) ?_
    refine r_S3ik M (c_in _ _ _) lk_X6_26 dX6_set_4 (by decide +kernel) ⟨Nat.le_of_ble_eq_true rfl, Nat.le_of_ble_eq_true rfl⟩ ⟨rfl, rfl⟩ [] rfl (by decide +kernel) rfl (Nat.le_of_ble_eq_true rfl) ?_
    rw [h]
    refine r_istore_n M dX6_set_7 (by decide) ?_
    refine r_aload_n M dX6_set_8 rfl ?_
    refine r_iload_n M dX6_set_9 rfl ?_
    refine r_if_ne M 17 dX6_set_10 (by decide) (fun _ => ?_) (fun h9 => absurd h9 (by decide))
    refine r_aload_n M dX6_set_17 rfl ?_
    refine r_bipush M 75 dX6_set_18 (by decide) ?_
    refine r_iload_n M dX6_set_20 rfl ?_
    refine r_V2ik M hw lk_X6_82 dX6_set_21 (by decide +kernel) ⟨Nat.le_of_ble_eq_true rfl, Nat.le_of_ble_eq_true rfl⟩ ⟨rfl, rfl⟩ [0, 1, 2, 3, 4] rfl rfl rfl (by decide +kernel) rfl (Nat.le_of_ble_eq_true rfl) ?_
    rw [hh]
    refine r_if_ne M 31 dX6_set_24 (by decide) (fun _ => ?_) (fun h9 => absurd h9 (by decide))
    refine r_iconst M 0 dX6_set_31 (by decide) ?_
    refine r_V1iu (w' :=  MW 0 (nI v) ln at9 pt nm op kp hs s tx bg tm) M (c_holds th (nI v) ln at9 pt nm op kp hs s tx bg tm 0) lk_X6_63 dX6_set_32 (by decide +kernel) ⟨Nat.le_of_ble_eq_true rfl, Nat.le_of_ble_eq_true rfl⟩ ⟨rfl, rfl⟩ [0, 1, 2, 3, 4] rfl rfl rfl (by decide +kernel) rfl (Nat.le_of_ble_eq_true rfl) rfl ?_
    refine r_if_eq M 48 dX6_set_35 (by decide) (fun h9 => absurd h9 (by decide)) (fun _ => ?_)
    refine r_aload_n M dX6_set_38 rfl ?_
    refine r_bipush M 75 dX6_set_39 (by decide) ?_
    refine r_iload_n M dX6_set_41 rfl ?_
    refine r_V2iu (w' :=  MW 0 (nI v2) ln at9 pt nm op kp hs s2 tx bg tm) M hc lk_X6_86 dX6_set_42 (by decide +kernel) ⟨Nat.le_of_ble_eq_true rfl, Nat.le_of_ble_eq_true rfl⟩ ⟨rfl, rfl⟩ [0, 1, 2, 3, 4] rfl rfl rfl (by decide +kernel) rfl (Nat.le_of_ble_eq_true rfl) rfl ?_
    refine r_goto M 49 dX6_set_45 (by decide) ?_
    exact r_iret M dX6_set_49 rfl rfl rfl
  · intro hh
    refine Con.of (own := RX6) (by decide) rfl (Nat.le_of_ble_eq_true rfl) rfl (fun B M => ?_)
    refine r_iload_n M dX6_set_0 rfl ?_
    refine r_iconst M 0 dX6_set_1 (by decide) ?_
    refine r_bipush M 9 dX6_set_2 (by decide) ?_
    refine r_S3ik M (c_in _ _ _) lk_X6_26 dX6_set_4 (by decide +kernel) ⟨Nat.le_of_ble_eq_true rfl, Nat.le_of_ble_eq_true rfl⟩ ⟨rfl, rfl⟩ [] rfl (by decide +kernel) rfl (Nat.le_of_ble_eq_true rfl) ?_
    rw [h]
    refine r_istore_n M dX6_set_7 (by decide) ?_
    refine r_aload_n M dX6_set_8 rfl ?_
    refine r_iload_n M dX6_set_9 rfl ?_
    refine r_if_ne M 17 dX6_set_10 (by decide) (fun _ => ?_) (fun h9 => absurd h9 (by decide))
    refine r_aload_n M dX6_set_17 rfl ?_
    refine r_bipush M 75 dX6_set_18 (by decide) ?_
    refine r_iload_n M dX6_set_20 rfl ?_
    refine r_V2ik M hw lk_X6_82 dX6_set_21 (by decide +kernel) ⟨Nat.le_of_ble_eq_true rfl, Nat.le_of_ble_eq_true rfl⟩ ⟨rfl, rfl⟩ [0, 1, 2, 3, 4] rfl rfl rfl (by decide +kernel) rfl (Nat.le_of_ble_eq_true rfl) ?_
    rw [hh]
    refine r_if_ne M 31 dX6_set_24 (by decide) (fun h9 => absurd rfl h9) (fun _ => ?_)
    refine r_iconst M 2 dX6_set_27 (by decide) ?_
    refine r_goto M 32 dX6_set_28 (by decide) ?_
    refine r_V1iu (w' :=  MW 2 (nI v) ln at9 pt nm op kp hs s tx bg tm) M (c_holds th (nI v) ln at9 pt nm op kp hs s tx bg tm 2) lk_X6_63 dX6_set_32 (by decide +kernel) ⟨Nat.le_of_ble_eq_true rfl, Nat.le_of_ble_eq_true rfl⟩ ⟨rfl, rfl⟩ [0, 1, 2, 3, 4] rfl rfl rfl (by decide +kernel) rfl (Nat.le_of_ble_eq_true rfl) rfl ?_
    refine r_if_eq M 48 dX6_set_35 (by decide) (fun _ => ?_) (fun h9 => absurd (by decide) h9)
    refine r_iconst M 0 dX6_set_48 (by decide) ?_
    exact r_iret M dX6_set_49 rfl rfl rfl
theorem c_mIsScene (sv x : Int32) {d : SD} (hR : Rp s d) : Con yX6_isScene cX6_isScene 2 (some .boolean) (rmk 1 22) [.ref 0, .int x] (MW th sv ln at9 pt nm op kp hs s tx bg tm) (some (.int (b2i (btw x 0 (sSc d - 1))))) (MW th sv ln at9 pt nm op kp hs s tx bg tm) := by
  refine Con.of (own := RX6) (by decide) rfl (Nat.le_of_ble_eq_true rfl) rfl (fun B M => ?_)
  refine r_iload_n M dX6_isScene_0 rfl ?_
  refine r_iconst M 0 dX6_isScene_1 (by decide) ?_
  refine r_aload_n M dX6_isScene_2 rfl ?_
  refine r_get M fl_X6_7 dX6_isScene_3 rfl rfl ?_
  refine r_bipush M 81 dX6_isScene_6 (by decide) ?_
  refine r_iald M dX6_isScene_8 rfl (s_in (j := 81) (by omega)) ?_
  rw [show (81 : Int32).toNatClampNeg = 81 from rfl, show s 81 = sSc d from hR.2.2.2.2.2.2.2.2.2.2.1]
  refine r_iconst M 1 dX6_isScene_9 (by decide) ?_
  refine r_isub M dX6_isScene_10 ?_
  refine r_S3ik M (c_in _ _ _) lk_X6_26 dX6_isScene_11 (by decide +kernel) ⟨Nat.le_of_ble_eq_true rfl, Nat.le_of_ble_eq_true rfl⟩ ⟨rfl, rfl⟩ [] rfl (by decide +kernel) rfl (Nat.le_of_ble_eq_true rfl) ?_
  exact r_zret M dX6_isScene_14 rfl (b2i_nr _) rfl rfl
theorem c_mAppendF (c : Int32) (hc0 : ¬ c = 0) (x : Int32) (h : (btw x 33 126 = false ∧ c = 1) ∨ (btw x 33 126 = true ∧ ln = 60 ∧ c = 2)) : Con yX6_append cX6_append 2 (some .int) (rmk 1 22) [.ref 0, .int x] (MW th (nI v) ln at9 pt nm op kp hs s tx bg tm) (some (.int 0)) (MW c (nI v) ln at9 pt nm op kp hs s tx bg tm) := by
  refine Con.of (own := RX6) (by decide) rfl (Nat.le_of_ble_eq_true rfl) rfl (fun B M => ?_)
  have go : B 30 [(0, .ref 0), (1, .int x)] [.int c, .ref 0] (MW th (nI v) ln at9 pt nm op kp hs s tx bg tm) := by
    refine r_V1iu (w' :=  MW c (nI v) ln at9 pt nm op kp hs s tx bg tm) M (c_holds th (nI v) ln at9 pt nm op kp hs s tx bg tm c) lk_X6_63 dX6_append_30 (by decide +kernel) ⟨Nat.le_of_ble_eq_true rfl, Nat.le_of_ble_eq_true rfl⟩ ⟨rfl, rfl⟩ [0, 1, 2, 3, 4] rfl rfl rfl (by decide +kernel) rfl (Nat.le_of_ble_eq_true rfl) rfl ?_
    rw [decide_eq_false hc0]
    refine r_if_ne M 38 dX6_append_33 (by decide) (fun h9 => absurd rfl h9) (fun _ => ?_)
    refine r_iconst M 0 dX6_append_36 (by decide) ?_
    exact r_iret M dX6_append_37 rfl rfl rfl
  refine r_aload_n M dX6_append_0 rfl ?_
  refine r_iload_n M dX6_append_1 rfl ?_
  refine r_bipush M 33 dX6_append_2 (by decide) ?_
  refine r_bipush M 126 dX6_append_4 (by decide) ?_
  refine r_S3ik M (c_in _ _ _) lk_X6_26 dX6_append_6 (by decide +kernel) ⟨Nat.le_of_ble_eq_true rfl, Nat.le_of_ble_eq_true rfl⟩ ⟨rfl, rfl⟩ [] rfl (by decide +kernel) rfl (Nat.le_of_ble_eq_true rfl) ?_
  rcases h with ⟨h, rfl⟩ | ⟨h, h2, rfl⟩
  · rw [h]
    refine r_if_ne M 16 dX6_append_9 (by decide) (fun h9 => absurd rfl h9) (fun _ => ?_)
    refine r_iconst M 1 dX6_append_12 (by decide) ?_
    refine r_goto M 30 dX6_append_13 (by decide) ?_
    exact go
  · rw [h]
    refine r_if_ne M 16 dX6_append_9 (by decide) (fun _ => ?_) (fun h9 => absurd h9 (by decide))
    refine r_aload_n M dX6_append_16 rfl ?_
    refine r_get M fl_X6_99 dX6_append_17 rfl rfl ?_
    refine r_bipush M 60 dX6_append_20 (by decide) ?_
    refine r_icmp_ne M 29 dX6_append_22 (by decide) (fun h9 => absurd h2 h9) (fun _ => ?_)
    refine r_iconst M 2 dX6_append_25 (by decide) ?_
    refine r_goto M 30 dX6_append_26 (by decide) ?_
    exact go
theorem c_mAppend (n : Nat) (hn : n < 60) (x : Int32) (h : btw x 33 126 = true) : Con yX6_append cX6_append 2 (some .int) (rmk 1 22) [.ref 0, .int x] (MW th (nI v) (nI n) at9 pt nm op kp hs s tx bg tm) (some (.int (nI (n + 1)))) (MW 0 (nI v) (nI (n + 1)) at9 pt nm op kp hs s (upd tx n x) bg tm) := by
  refine Con.of (own := RX6) (by decide) rfl (Nat.le_of_ble_eq_true rfl) rfl (fun B M => ?_)
  refine r_aload_n M dX6_append_0 rfl ?_
  refine r_iload_n M dX6_append_1 rfl ?_
  refine r_bipush M 33 dX6_append_2 (by decide) ?_
  refine r_bipush M 126 dX6_append_4 (by decide) ?_
  refine r_S3ik M (c_in _ _ _) lk_X6_26 dX6_append_6 (by decide +kernel) ⟨Nat.le_of_ble_eq_true rfl, Nat.le_of_ble_eq_true rfl⟩ ⟨rfl, rfl⟩ [] rfl (by decide +kernel) rfl (Nat.le_of_ble_eq_true rfl) ?_
  rw [h]
  refine r_if_ne M 16 dX6_append_9 (by decide) (fun _ => ?_) (fun h9 => absurd h9 (by decide))
  refine r_aload_n M dX6_append_16 rfl ?_
  refine r_get M fl_X6_99 dX6_append_17 rfl rfl ?_
  refine r_bipush M 60 dX6_append_20 (by decide) ?_
  refine r_icmp_ne M 29 dX6_append_22 (by decide) (fun _ => ?_) (fun h9 => absurd h9 (fun e => by have := (nI_eq (b := 60) (by omega) (by omega)).mp e; omega))
  refine r_iconst M 0 dX6_append_29 (by decide) ?_
  refine r_V1iu (w' :=  MW 0 (nI v) (nI n) at9 pt nm op kp hs s tx bg tm) M (c_holds th (nI v) (nI n) at9 pt nm op kp hs s tx bg tm 0) lk_X6_63 dX6_append_30 (by decide +kernel) ⟨Nat.le_of_ble_eq_true rfl, Nat.le_of_ble_eq_true rfl⟩ ⟨rfl, rfl⟩ [0, 1, 2, 3, 4] rfl rfl rfl (by decide +kernel) rfl (Nat.le_of_ble_eq_true rfl) rfl ?_
  refine r_if_ne M 38 dX6_append_33 (by decide) (fun _ => ?_) (fun h9 => absurd h9 (by decide))
  refine r_aload_n M dX6_append_38 rfl ?_
  refine r_get M fl_X6_13 dX6_append_39 rfl rfl ?_
  refine r_aload_n M dX6_append_42 rfl ?_
  refine r_get M fl_X6_99 dX6_append_43 rfl rfl ?_
  refine r_iload_n M dX6_append_46 rfl ?_
  refine r_iast M dX6_append_47 rfl (vp_in_nI hn (by omega)) ?_
  rw [cl_s (by omega)]
  refine r_aload_n M dX6_append_48 rfl ?_
  refine r_dup M dX6_append_49 rfl ?_
  refine r_get M fl_X6_99 dX6_append_50 rfl rfl ?_
  refine r_iconst M 1 dX6_append_53 (by decide) ?_
  refine r_iadd M dX6_append_54 ?_
  rw [nI_1]
  refine r_put M fl_X6_99 ff_6_5 dX6_append_55 rfl rfl rfl (fun _ => rfl) (Nat.le_of_ble_eq_true rfl) ?_
  refine r_aload_n M dX6_append_58 rfl ?_
  refine r_get M fl_X6_99 dX6_append_59 rfl rfl ?_
  exact r_iret M dX6_append_62 rfl rfl rfl
theorem c_mClear : Con yX6_clearBuffer cX6_clearBuffer 2 (some .int) (rmk 0 0) [.ref 0] (MW th (nI v) ln at9 pt nm op kp hs s tx bg tm) (some (.int ln)) (MW 0 (nI v) 0 at9 pt nm op kp hs s tx bg tm) := by
  refine Con.of (own := RX6) (by decide) rfl (Nat.le_of_ble_eq_true rfl) rfl (fun B M => ?_)
  refine r_aload_n M dX6_clearBuffer_0 rfl ?_
  refine r_iconst M 0 dX6_clearBuffer_1 (by decide) ?_
  refine r_put M fl_X6_22 ff_6_0 dX6_clearBuffer_2 rfl rfl rfl (fun _ => rfl) (Nat.le_of_ble_eq_true rfl) ?_
  refine r_aload_n M dX6_clearBuffer_5 rfl ?_
  refine r_get M fl_X6_99 dX6_clearBuffer_6 rfl rfl ?_
  refine r_istore_n M dX6_clearBuffer_9 (by decide) ?_
  refine r_aload_n M dX6_clearBuffer_10 rfl ?_
  refine r_iconst M 0 dX6_clearBuffer_11 (by decide) ?_
  refine r_put M fl_X6_99 ff_6_5 dX6_clearBuffer_12 rfl rfl rfl (fun _ => rfl) (Nat.le_of_ble_eq_true rfl) ?_
  refine r_iload_n M dX6_clearBuffer_15 rfl ?_
  exact r_iret M dX6_clearBuffer_16 rfl rfl rfl
theorem c_mKeep {d : SD} (hR : Rp s d) : Con yX6_keep cX6_keep 1 (some .int) (rmk 1 23) [.ref 0] (MW th (nI v) ln at9 pt nm op kp hs s tx bg tm) (some (.int (sSc d))) (MW 0 (nI v) ln at9 pt nm op true hs (cpS s 0 7) tx bg tm) := by
  refine Con.of (own := RX6) (by decide) rfl (Nat.le_of_ble_eq_true rfl) rfl (fun B M => ?_)
  have hc := c_copies 0 (nI v) ln at9 pt nm op kp hs s tx bg tm 0 7 (by omega) (by omega) (by omega)
  have h81 : cpS s 0 7 81 = sSc d := by rw [cpS_out _ (by omega)]; exact hR.2.2.2.2.2.2.2.2.2.2.1
  generalize cpS s 0 7 = s2 at M hc h81 ⊢
  refine r_aload_n M dX6_keep_0 rfl ?_
  refine r_iconst M 0 dX6_keep_1 (by decide) ?_
  refine r_put M fl_X6_22 ff_6_0 dX6_keep_2 rfl rfl rfl (fun _ => rfl) (Nat.le_of_ble_eq_true rfl) ?_
  refine r_aload_n M dX6_keep_5 rfl ?_
  refine r_iconst M 0 dX6_keep_6 (by decide) ?_
  refine r_bipush M 7 dX6_keep_7 (by decide) ?_
  refine r_V2vu (w' :=  MW 0 (nI v) ln at9 pt nm op kp hs s2 tx bg tm) M hc lk_X6_59 dX6_keep_9 (by decide +kernel) ⟨Nat.le_of_ble_eq_true rfl, Nat.le_of_ble_eq_true rfl⟩ ⟨rfl, rfl⟩ [0, 1, 2, 3, 4] rfl rfl rfl (by decide +kernel) rfl (Nat.le_of_ble_eq_true rfl) rfl ?_
  refine r_aload_n M dX6_keep_12 rfl ?_
  refine r_iconst M 1 dX6_keep_13 (by decide) ?_
  refine r_put M fl_X6_132 ff_6_3 dX6_keep_14 rfl (b2i_nr true) rfl (fun _ => rfl) (Nat.le_of_ble_eq_true rfl) ?_
  refine r_aload_n M dX6_keep_17 rfl ?_
  refine r_get M fl_X6_7 dX6_keep_18 rfl rfl ?_
  refine r_bipush M 81 dX6_keep_21 (by decide) ?_
  refine r_iald M dX6_keep_23 rfl (s_in (j := 81) (by omega)) ?_
  rw [show (81 : Int32).toNatClampNeg = 81 from rfl, h81]
  exact r_iret M dX6_keep_24 rfl rfl rfl
theorem c_mGoBackF : Con yX6_goBack cX6_goBack 1 (some .int) (rmk 2 44) [.ref 0] (MW th (nI v) ln at9 pt nm op false hs s tx bg tm) (some (.int 0)) (MW 1 (nI v) ln at9 pt nm op false hs s tx bg tm) := by
  refine Con.of (own := RX6) (by decide) rfl (Nat.le_of_ble_eq_true rfl) rfl (fun B M => ?_)
  refine r_aload_n M dX6_goBack_0 rfl ?_
  refine r_aload_n M dX6_goBack_1 rfl ?_
  refine r_get M fl_X6_132 dX6_goBack_2 rfl rfl ?_
  refine r_if_eq M 12 dX6_goBack_5 (by decide) (fun _ => ?_) (fun h9 => absurd rfl h9)
  refine r_iconst M 1 dX6_goBack_12 (by decide) ?_
  refine r_V1iu (w' :=  _) M (c_holds th (nI v) ln at9 pt nm op false hs s tx bg tm 1) lk_X6_63 dX6_goBack_13 (by decide +kernel) ⟨Nat.le_of_ble_eq_true rfl, Nat.le_of_ble_eq_true rfl⟩ ⟨rfl, rfl⟩ [0, 1, 2, 3, 4] rfl rfl rfl (by decide +kernel) rfl (Nat.le_of_ble_eq_true rfl) rfl ?_
  refine r_if_ne M 21 dX6_goBack_16 (by decide) (fun h9 => absurd (by decide) h9) (fun _ => ?_)
  refine r_iconst M 0 dX6_goBack_19 (by decide) ?_
  exact r_iret M dX6_goBack_20 rfl rfl rfl
theorem c_mGoBack (hv : v ≤ 6) : Con yX6_goBack cX6_goBack 1 (some .int) (rmk 2 44) [.ref 0] (MW th (nI v) ln at9 pt nm op true hs s tx bg tm) (some (.int (s (172 * 7 + 81)))) (MW 0 (nI (puK v)) ln at9 pt nm op true hs (cpS (svS s v) 7 0) tx bg tm) := by
  refine Con.of (own := RX6) (by decide) rfl (Nat.le_of_ble_eq_true rfl) rfl (fun B M => ?_)
  have hc := c_save 0 ln at9 pt nm op true hs s tx bg tm v hv
  have hl : svS s v (172 * 7 + 81) = s (172 * 7 + 81) := by
    rw [svS]
    split
    · exact cpS_out _ (by omega)
    · rw [cpS_out _ (by omega), cpS_out _ (by omega), cpS_out _ (by omega), cpS_out _ (by omega), cpS_out _ (by omega), cpS_out _ (by omega)]
  generalize svS s v = s2 at M hc hl ⊢
  generalize puK v = v2 at M hc ⊢
  have hc2 := c_copies 0 (nI v2) ln at9 pt nm op true hs s2 tx bg tm 7 0 (by omega) (by omega) (by omega)
  have h81 : cpS s2 7 0 81 = s (172 * 7 + 81) := by rw [cpS, cpK, if_pos (by omega), ← hl]
  generalize cpS s2 7 0 = s3 at M hc2 h81 ⊢
  refine r_aload_n M dX6_goBack_0 rfl ?_
  refine r_aload_n M dX6_goBack_1 rfl ?_
  refine r_get M fl_X6_132 dX6_goBack_2 rfl rfl ?_
  refine r_if_eq M 12 dX6_goBack_5 (by decide) (fun h9 => absurd h9 (by decide)) (fun _ => ?_)
  refine r_iconst M 0 dX6_goBack_8 (by decide) ?_
  refine r_goto M 13 dX6_goBack_9 (by decide) ?_
  refine r_V1iu (w' :=  MW 0 (nI v) ln at9 pt nm op true hs s tx bg tm) M (c_holds th (nI v) ln at9 pt nm op true hs s tx bg tm 0) lk_X6_63 dX6_goBack_13 (by decide +kernel) ⟨Nat.le_of_ble_eq_true rfl, Nat.le_of_ble_eq_true rfl⟩ ⟨rfl, rfl⟩ [0, 1, 2, 3, 4] rfl rfl rfl (by decide +kernel) rfl (Nat.le_of_ble_eq_true rfl) rfl ?_
  refine r_if_ne M 21 dX6_goBack_16 (by decide) (fun _ => ?_) (fun h9 => absurd h9 (by decide))
  refine r_aload_n M dX6_goBack_21 rfl ?_
  refine r_V0vu (w' :=  MW 0 (nI v2) ln at9 pt nm op true hs s2 tx bg tm) M hc lk_X6_67 dX6_goBack_22 (by decide +kernel) ⟨Nat.le_of_ble_eq_true rfl, Nat.le_of_ble_eq_true rfl⟩ ⟨rfl, rfl⟩ [0, 1, 2, 3, 4] rfl rfl rfl (by decide +kernel) rfl (Nat.le_of_ble_eq_true rfl) rfl ?_
  refine r_aload_n M dX6_goBack_25 rfl ?_
  refine r_bipush M 7 dX6_goBack_26 (by decide) ?_
  refine r_iconst M 0 dX6_goBack_28 (by decide) ?_
  refine r_V2vu (w' :=  MW 0 (nI v2) ln at9 pt nm op true hs s3 tx bg tm) M hc2 lk_X6_59 dX6_goBack_29 (by decide +kernel) ⟨Nat.le_of_ble_eq_true rfl, Nat.le_of_ble_eq_true rfl⟩ ⟨rfl, rfl⟩ [0, 1, 2, 3, 4] rfl rfl rfl (by decide +kernel) rfl (Nat.le_of_ble_eq_true rfl) rfl ?_
  refine r_aload_n M dX6_goBack_32 rfl ?_
  refine r_get M fl_X6_7 dX6_goBack_33 rfl rfl ?_
  refine r_bipush M 81 dX6_goBack_36 (by decide) ?_
  refine r_iald M dX6_goBack_38 rfl (s_in (j := 81) (by omega)) ?_
  rw [show (81 : Int32).toNatClampNeg = 81 from rfl, h81]
  exact r_iret M dX6_goBack_39 rfl rfl rfl
theorem c_mUndoF : Con yX6_undo cX6_undo 1 (some .int) (rmk 1 23) [.ref 0] (MW th 0 ln at9 pt nm op kp hs s tx bg tm) (some (.int 0)) (MW 1 0 ln at9 pt nm op kp hs s tx bg tm) := by
  refine Con.of (own := RX6) (by decide) rfl (Nat.le_of_ble_eq_true rfl) rfl (fun B M => ?_)
  refine r_aload_n M dX6_undo_0 rfl ?_
  refine r_aload_n M dX6_undo_1 rfl ?_
  refine r_get M fl_X6_56 dX6_undo_2 rfl rfl ?_
  refine r_if_le M 12 dX6_undo_5 (by decide) (fun _ => ?_) (fun h9 => absurd (by decide) h9)
  refine r_iconst M 1 dX6_undo_12 (by decide) ?_
  refine r_V1iu (w' :=  _) M (c_holds th 0 ln at9 pt nm op kp hs s tx bg tm 1) lk_X6_63 dX6_undo_13 (by decide +kernel) ⟨Nat.le_of_ble_eq_true rfl, Nat.le_of_ble_eq_true rfl⟩ ⟨rfl, rfl⟩ [0, 1, 2, 3, 4] rfl rfl rfl (by decide +kernel) rfl (Nat.le_of_ble_eq_true rfl) rfl ?_
  refine r_if_ne M 21 dX6_undo_16 (by decide) (fun h9 => absurd (by decide) h9) (fun _ => ?_)
  refine r_iconst M 0 dX6_undo_19 (by decide) ?_
  exact r_iret M dX6_undo_20 rfl rfl rfl
theorem c_mUndo (hv : v < 6) : Con yX6_undo cX6_undo 1 (some .int) (rmk 1 23) [.ref 0] (MW th (nI (v + 1)) ln at9 pt nm op kp hs s tx bg tm) (some (.int (nI v))) (MW 0 (nI v) ln at9 pt nm op kp hs (cpS s (v + 1) 0) tx bg tm) := by
  refine Con.of (own := RX6) (by decide) rfl (Nat.le_of_ble_eq_true rfl) rfl (fun B M => ?_)
  have hc2 := c_copies 0 (nI (v + 1)) ln at9 pt nm op kp hs s tx bg tm (v + 1) 0 (by omega) (by omega) (by omega)
  generalize cpS s (v + 1) 0 = s3 at M hc2 ⊢
  have e : nI (v + 1) - 1 = nI v := by rw [← nI_1, Int32.add_sub_cancel]
  refine r_aload_n M dX6_undo_0 rfl ?_
  refine r_aload_n M dX6_undo_1 rfl ?_
  refine r_get M fl_X6_56 dX6_undo_2 rfl rfl ?_
  refine r_if_le M 12 dX6_undo_5 (by decide) (fun h9 => absurd h9 (Int32.not_le.mpr (nI_lt (a := 0) (by omega) (by omega)))) (fun _ => ?_)
  refine r_iconst M 0 dX6_undo_8 (by decide) ?_
  refine r_goto M 13 dX6_undo_9 (by decide) ?_
  refine r_V1iu (w' :=  MW 0 (nI (v + 1)) ln at9 pt nm op kp hs s tx bg tm) M (c_holds th (nI (v + 1)) ln at9 pt nm op kp hs s tx bg tm 0) lk_X6_63 dX6_undo_13 (by decide +kernel) ⟨Nat.le_of_ble_eq_true rfl, Nat.le_of_ble_eq_true rfl⟩ ⟨rfl, rfl⟩ [0, 1, 2, 3, 4] rfl rfl rfl (by decide +kernel) rfl (Nat.le_of_ble_eq_true rfl) rfl ?_
  refine r_if_ne M 21 dX6_undo_16 (by decide) (fun _ => ?_) (fun h9 => absurd h9 (by decide))
  refine r_aload_n M dX6_undo_21 rfl ?_
  refine r_aload_n M dX6_undo_22 rfl ?_
  refine r_get M fl_X6_56 dX6_undo_23 rfl rfl ?_
  refine r_iconst M 0 dX6_undo_26 (by decide) ?_
  refine r_V2vu (w' :=  MW 0 (nI (v + 1)) ln at9 pt nm op kp hs s3 tx bg tm) M hc2 lk_X6_59 dX6_undo_27 (by decide +kernel) ⟨Nat.le_of_ble_eq_true rfl, Nat.le_of_ble_eq_true rfl⟩ ⟨rfl, rfl⟩ [0, 1, 2, 3, 4] rfl rfl rfl (by decide +kernel) rfl (Nat.le_of_ble_eq_true rfl) rfl ?_
  refine r_aload_n M dX6_undo_30 rfl ?_
  refine r_dup M dX6_undo_31 rfl ?_
  refine r_get M fl_X6_56 dX6_undo_32 rfl rfl ?_
  refine r_iconst M 1 dX6_undo_35 (by decide) ?_
  refine r_isub M dX6_undo_36 ?_
  rw [e]
  refine r_put M fl_X6_56 ff_6_2 dX6_undo_37 rfl rfl rfl (fun _ => rfl) (Nat.le_of_ble_eq_true rfl) ?_
  refine r_aload_n M dX6_undo_40 rfl ?_
  refine r_get M fl_X6_56 dX6_undo_41 rfl rfl ?_
  exact r_iret M dX6_undo_44 rfl rfl rfl
theorem c_thrown (sv : Int32) : Con yX6_thrown cX6_thrown 1 (some .int) (rmk 0 0) [.ref 0] (MW th sv ln at9 pt nm op kp hs s tx bg tm) (some (.int th)) (MW th sv ln at9 pt nm op kp hs s tx bg tm) := by
  refine Con.of (own := RX6) (by decide) rfl (Nat.le_of_ble_eq_true rfl) rfl (fun B M => ?_)
  refine r_aload_n M dX6_thrown_0 rfl ?_
  refine r_get M fl_X6_22 dX6_thrown_1 rfl rfl ?_
  exact r_iret M dX6_thrown_4 rfl rfl rfl
end


/-- the digest, the bits of the share and of the mean given -/
def digB (d : SD) (c : Nat) (sv : Int32) : Int64 := mixSc d c (foldN (fun k => b2i (sSt d k)) 60 (mixWs d 5 (foldN (fun x => cntD d sv (nI x)) 13 3847)))
def digC (d : SD) (c : Nat) (sv : Int32) (zb : Int64) (zf : Int32) : Int64 := 31 * (31 * foldN (fun w => hB (sTe d) (sTo d) (sLo d) (sHe d) (nI w) 7) 5 (mxW0 d (digB d c sv)) + zb) + zf.toInt64
def digM (d : SD) (c : Nat) (sv : Int32) (kp : Bool) (n : Nat) (tx : Nat → Int32) (zb : Int64) (zf : Int32) : Int64 := foldN tx n (31 * (31 * digC d c sv zb zf + (if kp = true then 1 else 0)) + (nI n).toInt64)
section
variable (th at9 pt nm op : Int32) (kp : Bool) (s tx bg tm : Nat → Int32) (sv : Int32)
theorem c_mDigest (hs : Int64) (n : Nat) (hn : n ≤ 60) {d : SD} (hR : Rp s d) (hO : SOk d) (hD : DOk d) (c : Nat) (hc : sSc d = nI c) (hc6 : c ≤ 6) (hn1 : vf_n64 (shD d)) (hn2 : vf_n32 (mnD d)) (zb : Int64) (zf : Int32)
    (kb : Con yX6_bits cX6_bits 6 (some .long) (rmk 0 0) [.double (shD d)] [] (some (.long zb)) [])
    (kf : Con yX6_floatBits cX6_floatBits 3 (some .int) (rmk 0 0) [.float (mnD d)] [] (some (.int zf)) []) :
    Con yX6_digest cX6_digest 2 (some .long) (rmk 6 137) [.ref 0] (MW th sv (nI n) at9 pt nm op kp hs s tx bg tm) (some (.long (digM d c sv kp n tx zb zf))) (MW 0 sv (nI n) at9 pt nm op kp (digM d c sv kp n tx zb zf) s tx bg tm) := by
  refine Con.of (own := RX6) (by decide) rfl (Nat.le_of_ble_eq_true rfl) rfl (fun B M => ?_)
  obtain ⟨g, eg⟩ : ∃ g, g = digM d c sv kp n tx zb zf := ⟨_, rfl⟩
  rw [← eg] at M
  rw [digM] at eg
  have text : ∀ r k : Nat, k + r = n → B 196 [(0, .ref 0), (1, .int (nI k))] [] (MW 0 sv (nI n) at9 pt nm op kp (foldN tx k (31 * (31 * digC d c sv zb zf + (if kp = true then 1 else 0)) + (nI n).toInt64)) s tx bg tm) := by
    intro r
    induction r with
    | zero =>
      intro k hk
      obtain rfl : k = n := by omega
      rw [← eg]
      refine r_iload_n M dX6_digest_196 rfl ?_
      refine r_aload_n M dX6_digest_197 rfl ?_
      refine r_get M fl_X6_99 dX6_digest_198 rfl rfl ?_
      refine r_icmp_ge M 221 dX6_digest_201 (by decide) (fun _ => ?_) (fun h9 => absurd (nI_le (Nat.le_refl _) (by omega)) h9)
      refine r_aload_n M dX6_digest_221 rfl ?_
      refine r_get M fl_X6_180 dX6_digest_222 rfl rfl ?_
      exact r_lret M dX6_digest_225 rfl rfl rfl
    | succ r ih =>
      intro k hk
      have nx := ih (k + 1) (by omega)
      rw [foldN] at nx
      generalize foldN tx k (31 * (31 * digC d c sv zb zf + (if kp = true then 1 else 0)) + (nI n).toInt64) = hh at nx ⊢
      refine r_iload_n M dX6_digest_196 rfl ?_
      refine r_aload_n M dX6_digest_197 rfl ?_
      refine r_get M fl_X6_99 dX6_digest_198 rfl rfl ?_
      refine r_icmp_ge M 221 dX6_digest_201 (by decide) (fun h9 => absurd h9 (nI_ge (by omega) (by omega))) (fun _ => ?_)
      refine r_aload_n M dX6_digest_204 rfl ?_
      refine r_aload_n M dX6_digest_205 rfl ?_
      refine r_get M fl_X6_13 dX6_digest_206 rfl rfl ?_
      refine r_iload_n M dX6_digest_209 rfl ?_
      refine r_iald M dX6_digest_210 rfl (vp_in_nI (show k < 60 by omega) (by omega)) ?_
      rw [cl_s (by omega)]
      refine r_i2l M dX6_digest_211 ?_
      refine r_V1vu (w' :=  MW 0 sv (nI n) at9 pt nm op kp (31 * hh + (tx k).toInt64) s tx bg tm) M (c_mMix 0 (nI n) at9 pt nm op kp s tx bg tm sv hh (tx k).toInt64) lk_X6_194 dX6_digest_212 (by decide +kernel) ⟨Nat.le_of_ble_eq_true rfl, Nat.le_of_ble_eq_true rfl⟩ ⟨rfl, rfl⟩ [0, 1, 2, 3, 4] rfl rfl rfl (by decide +kernel) rfl (Nat.le_of_ble_eq_true rfl) rfl ?_
      refine r_iinc1 M dX6_digest_215 rfl (by decide) ?_
      refine r_goto M 196 dX6_digest_218 (by decide) ?_
      refine r_lvs M _ (lvs_c rfl (lvs_c ?_ lvs_n)) nx
      rw [← nI_1 k]; rfl
  have l9 := text n 0 (by omega)
  rw [foldN] at l9
  rw [digC] at l9
  clear text eg
  have ahead : ∀ r k : Nat, k + r = 5 → B 122 [(0, .ref 0), (1, .int (nI k))] [] (MW 0 sv (nI n) at9 pt nm op kp (foldN (fun w => hB (sTe d) (sTo d) (sLo d) (sHe d) (nI w) 7) k (mxW0 d (digB d c sv))) s tx bg tm) := by
    intro r
    induction r with
    | zero =>
      intro k hk
      obtain rfl : k = 5 := by omega
      generalize foldN (fun w => hB (sTe d) (sTo d) (sLo d) (sHe d) (nI w) 7) 5 (mxW0 d (digB d c sv)) = hh at l9 ⊢
      have go : ∀ z : Int64, z = (if kp = true then 1 else 0) → B 182 [(0, .ref 0), (1, .int (nI 5))] [.long z, .ref 0] (MW 0 sv (nI n) at9 pt nm op kp (31 * (31 * hh + zb) + zf.toInt64) s tx bg tm) := by
        intro z hz
        rw [← hz] at l9
        generalize 31 * (31 * hh + zb) + zf.toInt64 = h3 at l9 ⊢
        refine r_V1vu (w' :=  MW 0 sv (nI n) at9 pt nm op kp (31 * h3 + z) s tx bg tm) M (c_mMix 0 (nI n) at9 pt nm op kp s tx bg tm sv h3 z) lk_X6_194 dX6_digest_182 (by decide +kernel) ⟨Nat.le_of_ble_eq_true rfl, Nat.le_of_ble_eq_true rfl⟩ ⟨rfl, rfl⟩ [0, 1, 2, 3, 4] rfl rfl rfl (by decide +kernel) rfl (Nat.le_of_ble_eq_true rfl) rfl ?_
        generalize 31 * h3 + z = h4 at l9 ⊢
        refine r_aload_n M dX6_digest_185 rfl ?_
        refine r_aload_n M dX6_digest_186 rfl ?_
        refine r_get M fl_X6_99 dX6_digest_187 rfl rfl ?_
        refine r_i2l M dX6_digest_190 ?_
        refine r_V1vu (w' :=  MW 0 sv (nI n) at9 pt nm op kp (31 * h4 + (nI n).toInt64) s tx bg tm) M (c_mMix 0 (nI n) at9 pt nm op kp s tx bg tm sv h4 (nI n).toInt64) lk_X6_194 dX6_digest_191 (by decide +kernel) ⟨Nat.le_of_ble_eq_true rfl, Nat.le_of_ble_eq_true rfl⟩ ⟨rfl, rfl⟩ [0, 1, 2, 3, 4] rfl rfl rfl (by decide +kernel) rfl (Nat.le_of_ble_eq_true rfl) rfl ?_
        refine r_iconst M 0 dX6_digest_194 (by decide) ?_
        refine r_istore_n M dX6_digest_195 (by decide) ?_
        exact r_lvs M _ (lvs_c rfl (lvs_c rfl lvs_n)) l9
      refine r_iload_n M dX6_digest_122 rfl ?_
      refine r_iconst M 5 dX6_digest_123 (by decide) ?_
      refine r_icmp_ge M 146 dX6_digest_124 (by decide) (fun _ => ?_) (fun h9 => absurd (nI_geT (n := 5) rfl (by omega) (by omega)) h9)
      refine r_aload_n M dX6_digest_146 rfl ?_
      refine r_aload_n M dX6_digest_147 rfl ?_
      refine r_V0dk M (c_mShare 0 (nI n) at9 pt nm op kp hh s tx bg tm sv hR hO hn1) lk_X6_169 dX6_digest_148 (by decide +kernel) ⟨Nat.le_of_ble_eq_true rfl, Nat.le_of_ble_eq_true rfl⟩ ⟨rfl, rfl⟩ [0, 1, 2, 3, 4] rfl rfl rfl (by decide +kernel) rfl (Nat.le_of_ble_eq_true rfl) ?_
      refine r_S1lk M kb lk_X6_203 dX6_digest_151 (by decide +kernel) ⟨Nat.le_of_ble_eq_true rfl, Nat.le_of_ble_eq_true rfl⟩ ⟨rfl, rfl⟩ [] rfl (by decide +kernel) rfl (Nat.le_of_ble_eq_true rfl) ?_
      refine r_V1vu (w' :=  MW 0 sv (nI n) at9 pt nm op kp (31 * hh + zb) s tx bg tm) M (c_mMix 0 (nI n) at9 pt nm op kp s tx bg tm sv hh zb) lk_X6_194 dX6_digest_154 (by decide +kernel) ⟨Nat.le_of_ble_eq_true rfl, Nat.le_of_ble_eq_true rfl⟩ ⟨rfl, rfl⟩ [0, 1, 2, 3, 4] rfl rfl rfl (by decide +kernel) rfl (Nat.le_of_ble_eq_true rfl) rfl ?_
      generalize 31 * hh + zb = h2 at go ⊢
      refine r_aload_n M dX6_digest_157 rfl ?_
      refine r_aload_n M dX6_digest_158 rfl ?_
      refine r_V0fk M (c_mMean 0 (nI n) at9 pt nm op kp h2 s tx bg tm sv hR hO hD hn2) lk_X6_174 dX6_digest_159 (by decide +kernel) ⟨Nat.le_of_ble_eq_true rfl, Nat.le_of_ble_eq_true rfl⟩ ⟨rfl, rfl⟩ [0, 1, 2, 3, 4] rfl rfl rfl (by decide +kernel) rfl (Nat.le_of_ble_eq_true rfl) ?_
      refine r_S1ik M kf lk_X6_207 dX6_digest_162 (by decide +kernel) ⟨Nat.le_of_ble_eq_true rfl, Nat.le_of_ble_eq_true rfl⟩ ⟨rfl, rfl⟩ [] rfl (by decide +kernel) rfl (Nat.le_of_ble_eq_true rfl) ?_
      refine r_i2l M dX6_digest_165 ?_
      refine r_V1vu (w' :=  MW 0 sv (nI n) at9 pt nm op kp (31 * h2 + zf.toInt64) s tx bg tm) M (c_mMix 0 (nI n) at9 pt nm op kp s tx bg tm sv h2 zf.toInt64) lk_X6_194 dX6_digest_166 (by decide +kernel) ⟨Nat.le_of_ble_eq_true rfl, Nat.le_of_ble_eq_true rfl⟩ ⟨rfl, rfl⟩ [0, 1, 2, 3, 4] rfl rfl rfl (by decide +kernel) rfl (Nat.le_of_ble_eq_true rfl) rfl ?_
      refine r_aload_n M dX6_digest_169 rfl ?_
      refine r_aload_n M dX6_digest_170 rfl ?_
      refine r_get M fl_X6_132 dX6_digest_171 rfl rfl ?_
      cases kp
      · refine r_if_eq M 181 dX6_digest_174 (by decide) (fun _ => ?_) (fun h9 => absurd rfl h9)
        refine r_lconst M 0 dX6_digest_181 (by decide) ?_
        exact go 0 rfl
      · refine r_if_eq M 181 dX6_digest_174 (by decide) (fun h9 => absurd h9 (by decide)) (fun _ => ?_)
        refine r_lconst M 1 dX6_digest_177 (by decide) ?_
        refine r_goto M 182 dX6_digest_178 (by decide) ?_
        exact go 1 rfl
    | succ r ih =>
      intro k hk
      have nx := ih (k + 1) (by omega)
      rw [foldN] at nx
      generalize foldN (fun w => hB (sTe d) (sTo d) (sLo d) (sHe d) (nI w) 7) k (mxW0 d (digB d c sv)) = hh at nx ⊢
      refine r_iload_n M dX6_digest_122 rfl ?_
      refine r_iconst M 5 dX6_digest_123 (by decide) ?_
      refine r_icmp_ge M 146 dX6_digest_124 (by decide) (fun h9 => absurd h9 (nI_geF (n := 5) rfl (by omega) (by omega))) (fun _ => ?_)
      refine r_aload_n M dX6_digest_127 rfl ?_
      refine r_aload_n M dX6_digest_128 rfl ?_
      refine r_iload_n M dX6_digest_129 rfl ?_
      refine r_bipush M 7 dX6_digest_130 (by decide) ?_
      refine r_iconst M (-1) dX6_digest_132 (by decide) ?_
      refine r_V3ik M (c_mHeightAt 0 sv (nI n) at9 pt nm op kp hh s tx bg tm hR hO k (by omega) 7 (-1) (sLo d) (lo_all d (by omega))) lk_X6_34 dX6_digest_133 (by decide +kernel) ⟨Nat.le_of_ble_eq_true rfl, Nat.le_of_ble_eq_true rfl⟩ ⟨rfl, rfl⟩ [0, 1, 2, 3, 4] rfl rfl rfl (by decide +kernel) rfl (Nat.le_of_ble_eq_true rfl) ?_
      refine r_i2l M dX6_digest_136 ?_
      refine r_V1vu (w' :=  MW 0 sv (nI n) at9 pt nm op kp (31 * hh + (hB (sTe d) (sTo d) (sLo d) (sHe d) (nI k) 7).toInt64) s tx bg tm) M (c_mMix 0 (nI n) at9 pt nm op kp s tx bg tm sv hh (hB (sTe d) (sTo d) (sLo d) (sHe d) (nI k) 7).toInt64) lk_X6_194 dX6_digest_137 (by decide +kernel) ⟨Nat.le_of_ble_eq_true rfl, Nat.le_of_ble_eq_true rfl⟩ ⟨rfl, rfl⟩ [0, 1, 2, 3, 4] rfl rfl rfl (by decide +kernel) rfl (Nat.le_of_ble_eq_true rfl) rfl ?_
      refine r_iinc1 M dX6_digest_140 rfl (by decide) ?_
      refine r_goto M 122 dX6_digest_143 (by decide) ?_
      refine r_lvs M _ (lvs_c rfl (lvs_c ?_ lvs_n)) nx
      rw [← nI_1 k]; rfl
  have l8 := ahead 5 0 rfl
  clear ahead l9
  rw [foldN, mxW0, digB] at l8
  have counts : ∀ r k : Nat, k + r = 13 → B 14 [(0, .ref 0), (1, .int (nI k))] [] (MW 0 sv (nI n) at9 pt nm op kp (foldN (fun x => cntD d sv (nI x)) k 3847) s tx bg tm) := by
    intro r
    induction r with
    | zero =>
      intro k hk
      obtain rfl : k = 13 := by omega
      generalize foldN (fun x => cntD d sv (nI x)) 13 3847 = h1 at l8 ⊢
      have hparts := c_mixParts 0 (nI n) at9 pt nm op kp s tx bg tm sv hR hO hD c hc hc6 h1
      generalize mixSc d c (foldN (fun k => b2i (sSt d k)) 60 (mixWs d 5 h1)) = h2 at l8 hparts
      have w1 : ∀ h9 : Int64, Con yX6_whyNot cX6_whyNot 4 (some .int) (rmk 3 71) [.ref 0, .int 1, .int (-1)] (MW 0 sv (nI n) at9 pt nm op kp h9 s tx bg tm) (some (.int (whyD d 1))) (MW 0 sv (nI n) at9 pt nm op kp h9 s tx bg tm) := fun h9 => c_whyNot 0 sv (nI n) at9 pt nm op kp h9 s tx bg tm hR hO 1 (-1) (sLo d) (fun w h5 => lo_all d h5)
      have w2 : ∀ h9 : Int64, Con yX6_whyNot cX6_whyNot 4 (some .int) (rmk 3 71) [.ref 0, .int (-1), .int (-1)] (MW 0 sv (nI n) at9 pt nm op kp h9 s tx bg tm) (some (.int (whyD d (-1)))) (MW 0 sv (nI n) at9 pt nm op kp h9 s tx bg tm) := fun h9 => c_whyNot 0 sv (nI n) at9 pt nm op kp h9 s tx bg tm hR hO (-1) (-1) (sLo d) (fun w h5 => lo_all d h5)
      have ro := fun h9 : Int64 => c_mRounds 0 sv (nI n) at9 pt nm op kp h9 s tx bg tm hR hO
      have j0 := fun h9 : Int64 => c_jams 0 (nI n) at9 pt nm op kp h9 s tx bg tm sv hR hO 0 (Or.inl rfl)
      have j1 := fun h9 : Int64 => c_jams 0 (nI n) at9 pt nm op kp h9 s tx bg tm sv hR hO 1 (Or.inr rfl)
      have f0 := fun h9 : Int64 => c_freeing 0 (nI n) at9 pt nm op kp h9 s tx bg tm sv hR hO 0 (Or.inl rfl)
      have f1 := fun h9 : Int64 => c_freeing 0 (nI n) at9 pt nm op kp h9 s tx bg tm sv hR hO 1 (Or.inr rfl)
      rw [if_pos rfl] at j0 f0
      rw [if_neg (by decide)] at j1 f1
      generalize whyD d 1 = y1 at w1 l8
      generalize whyD d (-1) = y2 at w2 l8
      generalize jamG d 1 (rN (sTe d) (sLo d) 5) 1 = y4 at j0 l8
      generalize jamG d (-1) (rN (sTe d) (sLo d) 5) 1 = y5 at j1 l8
      generalize nI (rN (sTe d) (sLo d) 5) = y3 at ro l8
      generalize freD d 1 = y6 at f0 l8
      generalize freD d (-1) = y7 at f1 l8
      refine r_iload_n M dX6_digest_14 rfl ?_
      refine r_bipush M 13 dX6_digest_15 (by decide) ?_
      refine r_icmp_ge M 36 dX6_digest_17 (by decide) (fun _ => ?_) (fun h9 => absurd (nI_geT (n := 13) rfl (by omega) (by omega)) h9)
      refine r_aload_n M dX6_digest_36 rfl ?_
      refine r_V0vu (w' :=  MW 0 sv (nI n) at9 pt nm op kp h2 s tx bg tm) M hparts lk_X6_200 dX6_digest_37 (by decide +kernel) ⟨Nat.le_of_ble_eq_true rfl, Nat.le_of_ble_eq_true rfl⟩ ⟨rfl, rfl⟩ [0, 1, 2, 3, 4] rfl rfl rfl (by decide +kernel) rfl (Nat.le_of_ble_eq_true rfl) rfl ?_
      refine r_aload_n M dX6_digest_40 rfl ?_
      refine r_aload_n M dX6_digest_41 rfl ?_
      refine r_iconst M 1 dX6_digest_42 (by decide) ?_
      refine r_iconst M (-1) dX6_digest_43 (by decide) ?_
      refine r_V2ik M (w1 h2) lk_X6_49 dX6_digest_44 (by decide +kernel) ⟨Nat.le_of_ble_eq_true rfl, Nat.le_of_ble_eq_true rfl⟩ ⟨rfl, rfl⟩ [0, 1, 2, 3, 4] rfl rfl rfl (by decide +kernel) rfl (Nat.le_of_ble_eq_true rfl) ?_
      refine r_i2l M dX6_digest_47 ?_
      refine r_V1vu (w' :=  MW 0 sv (nI n) at9 pt nm op kp (31 * h2 + y1.toInt64) s tx bg tm) M (c_mMix 0 (nI n) at9 pt nm op kp s tx bg tm sv h2 y1.toInt64) lk_X6_194 dX6_digest_48 (by decide +kernel) ⟨Nat.le_of_ble_eq_true rfl, Nat.le_of_ble_eq_true rfl⟩ ⟨rfl, rfl⟩ [0, 1, 2, 3, 4] rfl rfl rfl (by decide +kernel) rfl (Nat.le_of_ble_eq_true rfl) rfl ?_
      generalize 31 * h2 + y1.toInt64 = h3 at l8 ⊢
      refine r_aload_n M dX6_digest_51 rfl ?_
      refine r_aload_n M dX6_digest_52 rfl ?_
      refine r_iconst M (-1) dX6_digest_53 (by decide) ?_
      refine r_iconst M (-1) dX6_digest_54 (by decide) ?_
      refine r_V2ik M (w2 h3) lk_X6_49 dX6_digest_55 (by decide +kernel) ⟨Nat.le_of_ble_eq_true rfl, Nat.le_of_ble_eq_true rfl⟩ ⟨rfl, rfl⟩ [0, 1, 2, 3, 4] rfl rfl rfl (by decide +kernel) rfl (Nat.le_of_ble_eq_true rfl) ?_
      refine r_i2l M dX6_digest_58 ?_
      refine r_V1vu (w' :=  MW 0 sv (nI n) at9 pt nm op kp (31 * h3 + y2.toInt64) s tx bg tm) M (c_mMix 0 (nI n) at9 pt nm op kp s tx bg tm sv h3 y2.toInt64) lk_X6_194 dX6_digest_59 (by decide +kernel) ⟨Nat.le_of_ble_eq_true rfl, Nat.le_of_ble_eq_true rfl⟩ ⟨rfl, rfl⟩ [0, 1, 2, 3, 4] rfl rfl rfl (by decide +kernel) rfl (Nat.le_of_ble_eq_true rfl) rfl ?_
      generalize 31 * h3 + y2.toInt64 = h4 at l8 ⊢
      refine r_aload_n M dX6_digest_62 rfl ?_
      refine r_aload_n M dX6_digest_63 rfl ?_
      refine r_V0ik M (ro h4) lk_X6_139 dX6_digest_64 (by decide +kernel) ⟨Nat.le_of_ble_eq_true rfl, Nat.le_of_ble_eq_true rfl⟩ ⟨rfl, rfl⟩ [0, 1, 2, 3, 4] rfl rfl rfl (by decide +kernel) rfl (Nat.le_of_ble_eq_true rfl) ?_
      refine r_i2l M dX6_digest_67 ?_
      refine r_V1vu (w' :=  MW 0 sv (nI n) at9 pt nm op kp (31 * h4 + y3.toInt64) s tx bg tm) M (c_mMix 0 (nI n) at9 pt nm op kp s tx bg tm sv h4 y3.toInt64) lk_X6_194 dX6_digest_68 (by decide +kernel) ⟨Nat.le_of_ble_eq_true rfl, Nat.le_of_ble_eq_true rfl⟩ ⟨rfl, rfl⟩ [0, 1, 2, 3, 4] rfl rfl rfl (by decide +kernel) rfl (Nat.le_of_ble_eq_true rfl) rfl ?_
      generalize 31 * h4 + y3.toInt64 = h5 at l8 ⊢
      refine r_aload_n M dX6_digest_71 rfl ?_
      refine r_aload_n M dX6_digest_72 rfl ?_
      refine r_V0ik M (ro h5) lk_X6_139 dX6_digest_73 (by decide +kernel) ⟨Nat.le_of_ble_eq_true rfl, Nat.le_of_ble_eq_true rfl⟩ ⟨rfl, rfl⟩ [0, 1, 2, 3, 4] rfl rfl rfl (by decide +kernel) rfl (Nat.le_of_ble_eq_true rfl) ?_
      refine r_i2l M dX6_digest_76 ?_
      refine r_V1vu (w' :=  MW 0 sv (nI n) at9 pt nm op kp (31 * h5 + y3.toInt64) s tx bg tm) M (c_mMix 0 (nI n) at9 pt nm op kp s tx bg tm sv h5 y3.toInt64) lk_X6_194 dX6_digest_77 (by decide +kernel) ⟨Nat.le_of_ble_eq_true rfl, Nat.le_of_ble_eq_true rfl⟩ ⟨rfl, rfl⟩ [0, 1, 2, 3, 4] rfl rfl rfl (by decide +kernel) rfl (Nat.le_of_ble_eq_true rfl) rfl ?_
      generalize 31 * h5 + y3.toInt64 = h6 at l8 ⊢
      refine r_aload_n M dX6_digest_80 rfl ?_
      refine r_aload_n M dX6_digest_81 rfl ?_
      refine r_iconst M 0 dX6_digest_82 (by decide) ?_
      refine r_V1ik M (j0 h6) lk_X6_163 dX6_digest_83 (by decide +kernel) ⟨Nat.le_of_ble_eq_true rfl, Nat.le_of_ble_eq_true rfl⟩ ⟨rfl, rfl⟩ [0, 1, 2, 3, 4] rfl rfl rfl (by decide +kernel) rfl (Nat.le_of_ble_eq_true rfl) ?_
      refine r_i2l M dX6_digest_86 ?_
      refine r_V1vu (w' :=  MW 0 sv (nI n) at9 pt nm op kp (31 * h6 + y4.toInt64) s tx bg tm) M (c_mMix 0 (nI n) at9 pt nm op kp s tx bg tm sv h6 y4.toInt64) lk_X6_194 dX6_digest_87 (by decide +kernel) ⟨Nat.le_of_ble_eq_true rfl, Nat.le_of_ble_eq_true rfl⟩ ⟨rfl, rfl⟩ [0, 1, 2, 3, 4] rfl rfl rfl (by decide +kernel) rfl (Nat.le_of_ble_eq_true rfl) rfl ?_
      generalize 31 * h6 + y4.toInt64 = h7 at l8 ⊢
      refine r_aload_n M dX6_digest_90 rfl ?_
      refine r_aload_n M dX6_digest_91 rfl ?_
      refine r_iconst M 1 dX6_digest_92 (by decide) ?_
      refine r_V1ik M (j1 h7) lk_X6_163 dX6_digest_93 (by decide +kernel) ⟨Nat.le_of_ble_eq_true rfl, Nat.le_of_ble_eq_true rfl⟩ ⟨rfl, rfl⟩ [0, 1, 2, 3, 4] rfl rfl rfl (by decide +kernel) rfl (Nat.le_of_ble_eq_true rfl) ?_
      refine r_i2l M dX6_digest_96 ?_
      refine r_V1vu (w' :=  MW 0 sv (nI n) at9 pt nm op kp (31 * h7 + y5.toInt64) s tx bg tm) M (c_mMix 0 (nI n) at9 pt nm op kp s tx bg tm sv h7 y5.toInt64) lk_X6_194 dX6_digest_97 (by decide +kernel) ⟨Nat.le_of_ble_eq_true rfl, Nat.le_of_ble_eq_true rfl⟩ ⟨rfl, rfl⟩ [0, 1, 2, 3, 4] rfl rfl rfl (by decide +kernel) rfl (Nat.le_of_ble_eq_true rfl) rfl ?_
      generalize 31 * h7 + y5.toInt64 = h8 at l8 ⊢
      refine r_aload_n M dX6_digest_100 rfl ?_
      refine r_aload_n M dX6_digest_101 rfl ?_
      refine r_iconst M 0 dX6_digest_102 (by decide) ?_
      refine r_V1ik M (f0 h8) lk_X6_166 dX6_digest_103 (by decide +kernel) ⟨Nat.le_of_ble_eq_true rfl, Nat.le_of_ble_eq_true rfl⟩ ⟨rfl, rfl⟩ [0, 1, 2, 3, 4] rfl rfl rfl (by decide +kernel) rfl (Nat.le_of_ble_eq_true rfl) ?_
      refine r_i2l M dX6_digest_106 ?_
      refine r_V1vu (w' :=  MW 0 sv (nI n) at9 pt nm op kp (31 * h8 + y6.toInt64) s tx bg tm) M (c_mMix 0 (nI n) at9 pt nm op kp s tx bg tm sv h8 y6.toInt64) lk_X6_194 dX6_digest_107 (by decide +kernel) ⟨Nat.le_of_ble_eq_true rfl, Nat.le_of_ble_eq_true rfl⟩ ⟨rfl, rfl⟩ [0, 1, 2, 3, 4] rfl rfl rfl (by decide +kernel) rfl (Nat.le_of_ble_eq_true rfl) rfl ?_
      generalize 31 * h8 + y6.toInt64 = h9 at l8 ⊢
      refine r_aload_n M dX6_digest_110 rfl ?_
      refine r_aload_n M dX6_digest_111 rfl ?_
      refine r_iconst M 1 dX6_digest_112 (by decide) ?_
      refine r_V1ik M (f1 h9) lk_X6_166 dX6_digest_113 (by decide +kernel) ⟨Nat.le_of_ble_eq_true rfl, Nat.le_of_ble_eq_true rfl⟩ ⟨rfl, rfl⟩ [0, 1, 2, 3, 4] rfl rfl rfl (by decide +kernel) rfl (Nat.le_of_ble_eq_true rfl) ?_
      refine r_i2l M dX6_digest_116 ?_
      refine r_V1vu (w' :=  MW 0 sv (nI n) at9 pt nm op kp (31 * h9 + y7.toInt64) s tx bg tm) M (c_mMix 0 (nI n) at9 pt nm op kp s tx bg tm sv h9 y7.toInt64) lk_X6_194 dX6_digest_117 (by decide +kernel) ⟨Nat.le_of_ble_eq_true rfl, Nat.le_of_ble_eq_true rfl⟩ ⟨rfl, rfl⟩ [0, 1, 2, 3, 4] rfl rfl rfl (by decide +kernel) rfl (Nat.le_of_ble_eq_true rfl) rfl ?_
      generalize 31 * h9 + y7.toInt64 = ha at l8 ⊢
      refine r_iconst M 0 dX6_digest_120 (by decide) ?_
      refine r_istore_n M dX6_digest_121 (by decide) ?_
      exact r_lvs M _ (lvs_c rfl (lvs_c rfl lvs_n)) l8
    | succ r ih =>
      intro k hk
      have nx := ih (k + 1) (by omega)
      rw [foldN] at nx
      generalize foldN (fun x => cntD d sv (nI x)) k 3847 = hh at nx ⊢
      refine r_iload_n M dX6_digest_14 rfl ?_
      refine r_bipush M 13 dX6_digest_15 (by decide) ?_
      refine r_icmp_ge M 36 dX6_digest_17 (by decide) (fun h9 => absurd h9 (nI_geF (n := 13) rfl (by omega) (by omega))) (fun _ => ?_)
      refine r_aload_n M dX6_digest_20 rfl ?_
      refine r_aload_n M dX6_digest_21 rfl ?_
      refine r_iload_n M dX6_digest_22 rfl ?_
      refine r_V1ik M (c_counted 0 (nI n) at9 pt nm op kp hh s tx bg tm sv hR hO hD k (by omega)) lk_X6_157 dX6_digest_23 (by decide +kernel) ⟨Nat.le_of_ble_eq_true rfl, Nat.le_of_ble_eq_true rfl⟩ ⟨rfl, rfl⟩ [0, 1, 2, 3, 4] rfl rfl rfl (by decide +kernel) rfl (Nat.le_of_ble_eq_true rfl) ?_
      refine r_i2l M dX6_digest_26 ?_
      refine r_V1vu (w' :=  MW 0 sv (nI n) at9 pt nm op kp (31 * hh + (cntD d sv (nI k)).toInt64) s tx bg tm) M (c_mMix 0 (nI n) at9 pt nm op kp s tx bg tm sv hh (cntD d sv (nI k)).toInt64) lk_X6_194 dX6_digest_27 (by decide +kernel) ⟨Nat.le_of_ble_eq_true rfl, Nat.le_of_ble_eq_true rfl⟩ ⟨rfl, rfl⟩ [0, 1, 2, 3, 4] rfl rfl rfl (by decide +kernel) rfl (Nat.le_of_ble_eq_true rfl) rfl ?_
      refine r_iinc1 M dX6_digest_30 rfl (by decide) ?_
      refine r_goto M 14 dX6_digest_33 (by decide) ?_
      refine r_lvs M _ (lvs_c rfl (lvs_c ?_ lvs_n)) nx
      rw [← nI_1 k]; rfl
  refine r_aload_n M dX6_digest_0 rfl ?_
  refine r_iconst M 0 dX6_digest_1 (by decide) ?_
  refine r_put M fl_X6_22 ff_6_0 dX6_digest_2 rfl rfl rfl (fun _ => rfl) (Nat.le_of_ble_eq_true rfl) ?_
  refine r_aload_n M dX6_digest_5 rfl ?_
  refine r_ldc2 M kc_X6_198 dX6_digest_6 ?_
  refine r_put M fl_X6_180 ff_6_12 dX6_digest_9 rfl rfl rfl (fun _ => rfl) (Nat.le_of_ble_eq_true rfl) ?_
  refine r_iconst M 0 dX6_digest_12 (by decide) ?_
  refine r_istore_n M dX6_digest_13 (by decide) ?_
  exact r_lvs M _ (lvs_c rfl (lvs_c rfl lvs_n)) (counts 13 0 rfl)
end


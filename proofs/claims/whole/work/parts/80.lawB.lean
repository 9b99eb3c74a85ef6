theorem k_turn {L i b k9 n9 : Nat} {xs : Nat → Int32} {w0 m0 : List va_E} {z : Nat → Int64} {B : KT} (M : MG RL cL_law 9 ret room_1 k9 n9 (XLw L xs) B) (hi : i + 4 ≤ L) (hL : L ≤ 2048) (hV : Inv b w0 m0) (hb : b + 2000 ≤ 2 ^ 28) (hr9 : k9 + 1 ≤ 601024 ∧ n9 + 6 ≤ 7293034) (kk : ∀ (B2 : KT) (w1 m1 : List va_E) (z1 : Nat → Int64), MG RL cL_law 9 ret room_1 (k9 + 1) (n9 + 6) (XLw L xs) B2 → Inv (b + 2000) w1 m1 → B2 1598 [(0, .ref 1000), (1, .ref 0), (2, .ref 96), (3, .ref 95), (4, .int (nI i))] [] (LWm w1 z1 m1)) : B 168 [(0, .ref 1000), (1, .ref 0), (2, .ref 96), (3, .ref 95), (4, .int (nI i))] [] (LWm w0 z m0) := by
  obtain ⟨kv, mb, w1, m1, z1, hW, hM, hT, hz, hI⟩ := s_turn (z := z) hV hb (xs (nI (i + 1)).toNatClampNeg)
  obtain ⟨l0, c0, fs0, g0⟩ := inv_w hV
  obtain ⟨l1, c1, fs1, g1⟩ := inv_w hI
  obtain ⟨n0, e0, fm0, q0⟩ := inv_m hV
  obtain ⟨n1, e1, fm1, q1⟩ := inv_m hI
  refine g_aload_n M dL_law_168 rfl ?_
  refine g_aload_n M dL_law_169 rfl ?_
  refine g_iload M dL_law_170 rfl ?_
  refine g_iconst M 1 dL_law_172 (by decide) ?_
  refine g_iadd M dL_law_173 ?_
  rw [show nI i + 1 = nI (i + 1) from nI_add i 1]
  refine g_sld M (vp_in_nI (by omega) (by omega)) dL_law_174 ?_
  refine g_aload_n M dL_law_175 rfl ?_
  refine g_callW (n := 3) (As := [.ref 0, .int (xs (nI (i + 1)).toNatClampNeg), .ref 95]) M (xlw_xp L xs) hW lw_turn dL_law_176 (by decide +kernel) ⟨Nat.le_of_ble_eq_true rfl, Nat.le_of_ble_eq_true rfl⟩ ⟨rfl, rfl⟩ hr9 (List.range 96) rfl rfl nd96 (sel_pre nd96 (ln96 l0 z) (cl96 c0 z)) (Nat.le_of_ble_eq_true rfl) (fun B M => ?_)
  rw [put_pre nd96 (ln96 l0 z) (ln96 l1 z1) (cl96 c1 z1)]
  refine g_istore M dL_law_179 (by decide) ?_
  refine g_aload_n M dL_law_181 rfl ?_
  refine g_aload_n M dL_law_182 rfl ?_
  refine g_iload M dL_law_183 rfl ?_
  refine g_iconst M 1 dL_law_185 (by decide) ?_
  refine g_iadd M dL_law_186 ?_
  rw [show nI i + 1 = nI (i + 1) from nI_add i 1]
  refine g_sld M (vp_in_nI (by omega) (by omega)) dL_law_187 ?_
  refine g_V1iu (q := 96) (w' := LWm w1 z1 m1) M hM lk_L_94 dL_law_188 (by decide +kernel) ⟨Nat.le_of_ble_eq_true rfl, Nat.le_of_ble_eq_true rfl⟩ ⟨rfl, rfl⟩ P5 (lw_md l1 q0) rfl rfl nd5 (sel_suf (ln96 l1 z1) n0 e0) (Nat.le_of_ble_eq_true rfl) (put_suf (ln96 l1 z1) n0 n1 e1) ?_
  refine g_istore M dL_law_191 (by decide) ?_
  refine g_aload_n M dL_law_193 rfl ?_
  refine g_V0ik (q := 96) M hT lk_L_95 dL_law_194 (by decide +kernel) ⟨Nat.le_of_ble_eq_true rfl, Nat.le_of_ble_eq_true rfl⟩ ⟨rfl, rfl⟩ P5 (lw_md l1 q1) rfl rfl nd5 (sel_suf (ln96 l1 z1) n1 e1) (Nat.le_of_ble_eq_true rfl) ?_
  refine g_iload M dL_law_197 rfl ?_
  refine g_icmp_eq M 204 dL_law_199 (by decide) (fun _ => ?_) (fun h9 => absurd rfl h9)
  refine g_iload M dL_law_204 rfl ?_
  by_cases h0 : kv = 0
  · refine g_if_ne M 221 dL_law_206 (by decide) (fun h9 => absurd h0 h9) (fun _ => ?_)
    refine g_aload_n M dL_law_209 rfl ?_
    refine g_iconst M 0 dL_law_210 (by decide) ?_
    refine g_lald M dL_law_211 (lw_out l1) vinA ?_
    rw [show (0 : Int32).toNatClampNeg = 0 from rfl, hz h0]
    refine g_iload M dL_law_212 rfl ?_
    refine g_i2l M dL_law_214 ?_
    refine g_lcmp M dL_law_215 ?_
    rw [lgc]
    refine g_if_eq M 221 dL_law_216 (by decide) (fun _ => ?_) (fun h9 => absurd rfl h9)
    refine g_goto M 1598 dL_law_221 (by decide) ?_
    exact g_lvs M _ (lvs_c rfl (lvs_c rfl (lvs_c rfl (lvs_c rfl (lvs_c rfl lvs_n))))) (kk _ _ _ _ M hI)
  · refine g_if_ne M 221 dL_law_206 (by decide) (fun _ => ?_) (fun h9 => absurd h9 h0)
    refine g_goto M 1598 dL_law_221 (by decide) ?_
    exact g_lvs M _ (lvs_c rfl (lvs_c rfl (lvs_c rfl (lvs_c rfl (lvs_c rfl lvs_n))))) (kk _ _ _ _ M hI)
theorem k_lift {L i b k9 n9 : Nat} {xs : Nat → Int32} {w0 m0 : List va_E} {z : Nat → Int64} {B : KT} (M : MG RL cL_law 9 ret room_1 k9 n9 (XLw L xs) B) (hV : Inv b w0 m0) (hb : b + 2000 ≤ 2 ^ 28) (kk : ∀ (w1 m1 : List va_E), Inv (b + 2000) w1 m1 → B 1598 [(0, .ref 1000), (1, .ref 0), (2, .ref 96), (3, .ref 95), (4, .int (nI i))] [] (LWm w1 z m1)) : B 224 [(0, .ref 1000), (1, .ref 0), (2, .ref 96), (3, .ref 95), (4, .int (nI i))] [] (LWm w0 z m0) := by
  obtain ⟨v, w1, m1, hW, hM, hI⟩ := s_lift hV hb
  obtain ⟨l0, c0, fs0, g0⟩ := inv_w hV
  obtain ⟨l1, c1, fs1, g1⟩ := inv_w hI
  obtain ⟨n0, e0, fm0, q0⟩ := inv_m hV
  obtain ⟨n1, e1, fm1, q1⟩ := inv_m hI
  refine g_aload_n M dL_law_224 rfl ?_
  refine g_V0iu (q := 0) (w' := LWm w1 z m0) M hW lk_L_98 dL_law_225 (by decide +kernel) ⟨Nat.le_of_ble_eq_true rfl, Nat.le_of_ble_eq_true rfl⟩ ⟨rfl, rfl⟩ (List.range 95) (lw_hd l0 g0) rfl rfl nd95 (sel_pre2 nd95 l0 c0) (Nat.le_of_ble_eq_true rfl) (put_pre2 nd95 l0 l1 c1) ?_
  refine g_aload_n M dL_law_228 rfl ?_
  refine g_V0iu (q := 96) (w' := LWm w1 z m1) M hM lk_L_101 dL_law_229 (by decide +kernel) ⟨Nat.le_of_ble_eq_true rfl, Nat.le_of_ble_eq_true rfl⟩ ⟨rfl, rfl⟩ P5 (lw_md l1 q0) rfl rfl nd5 (sel_suf (ln96 l1 z) n0 e0) (Nat.le_of_ble_eq_true rfl) (put_suf (ln96 l1 z) n0 n1 e1) ?_
  refine g_icmp_eq M 1598 dL_law_232 (by decide) (fun _ => ?_) (fun h9 => absurd rfl h9)
  exact g_lvs M _ (lvs_c rfl (lvs_c rfl (lvs_c rfl (lvs_c rfl (lvs_c rfl lvs_n))))) (kk _ _ hI)
theorem k_stop {L i b k9 n9 : Nat} {xs : Nat → Int32} {w0 m0 : List va_E} {z : Nat → Int64} {B : KT} (M : MG RL cL_law 9 ret room_1 k9 n9 (XLw L xs) B) (hi : i + 4 ≤ L) (hL : L ≤ 2048) (hV : Inv b w0 m0) (hb : b + 2000 ≤ 2 ^ 28) (hr9 : k9 + 1 ≤ 601024 ∧ n9 + 6 ≤ 7293034) (kk : ∀ (B2 : KT) (w1 m1 : List va_E) (z1 : Nat → Int64), MG RL cL_law 9 ret room_1 (k9 + 1) (n9 + 6) (XLw L xs) B2 → Inv (b + 2000) w1 m1 → B2 1598 [(0, .ref 1000), (1, .ref 0), (2, .ref 96), (3, .ref 95), (4, .int (nI i))] [] (LWm w1 z1 m1)) : B 237 [(0, .ref 1000), (1, .ref 0), (2, .ref 96), (3, .ref 95), (4, .int (nI i))] [] (LWm w0 z m0) := by
  obtain ⟨kv, mb, w1, m1, z1, hW, hM, hT, hz, hI⟩ := s_stop (z := z) hV hb (xs (nI (i + 1)).toNatClampNeg)
  obtain ⟨l0, c0, fs0, g0⟩ := inv_w hV
  obtain ⟨l1, c1, fs1, g1⟩ := inv_w hI
  obtain ⟨n0, e0, fm0, q0⟩ := inv_m hV
  obtain ⟨n1, e1, fm1, q1⟩ := inv_m hI
  refine g_aload_n M dL_law_237 rfl ?_
  refine g_aload_n M dL_law_238 rfl ?_
  refine g_iload M dL_law_239 rfl ?_
  refine g_iconst M 1 dL_law_241 (by decide) ?_
  refine g_iadd M dL_law_242 ?_
  rw [show nI i + 1 = nI (i + 1) from nI_add i 1]
  refine g_sld M (vp_in_nI (by omega) (by omega)) dL_law_243 ?_
  refine g_aload_n M dL_law_244 rfl ?_
  refine g_callW (n := 3) (As := [.ref 0, .int (xs (nI (i + 1)).toNatClampNeg), .ref 95]) M (xlw_xp L xs) hW lw_stop dL_law_245 (by decide +kernel) ⟨Nat.le_of_ble_eq_true rfl, Nat.le_of_ble_eq_true rfl⟩ ⟨rfl, rfl⟩ hr9 (List.range 96) rfl rfl nd96 (sel_pre nd96 (ln96 l0 z) (cl96 c0 z)) (Nat.le_of_ble_eq_true rfl) (fun B M => ?_)
  rw [put_pre nd96 (ln96 l0 z) (ln96 l1 z1) (cl96 c1 z1)]
  refine g_istore M dL_law_248 (by decide) ?_
  refine g_aload_n M dL_law_250 rfl ?_
  refine g_aload_n M dL_law_251 rfl ?_
  refine g_iload M dL_law_252 rfl ?_
  refine g_iconst M 1 dL_law_254 (by decide) ?_
  refine g_iadd M dL_law_255 ?_
  rw [show nI i + 1 = nI (i + 1) from nI_add i 1]
  refine g_sld M (vp_in_nI (by omega) (by omega)) dL_law_256 ?_
  refine g_V1iu (q := 96) (w' := LWm w1 z1 m1) M hM lk_L_104 dL_law_257 (by decide +kernel) ⟨Nat.le_of_ble_eq_true rfl, Nat.le_of_ble_eq_true rfl⟩ ⟨rfl, rfl⟩ P5 (lw_md l1 q0) rfl rfl nd5 (sel_suf (ln96 l1 z1) n0 e0) (Nat.le_of_ble_eq_true rfl) (put_suf (ln96 l1 z1) n0 n1 e1) ?_
  refine g_istore M dL_law_260 (by decide) ?_
  refine g_aload_n M dL_law_262 rfl ?_
  refine g_V0ik (q := 96) M hT lk_L_95 dL_law_263 (by decide +kernel) ⟨Nat.le_of_ble_eq_true rfl, Nat.le_of_ble_eq_true rfl⟩ ⟨rfl, rfl⟩ P5 (lw_md l1 q1) rfl rfl nd5 (sel_suf (ln96 l1 z1) n1 e1) (Nat.le_of_ble_eq_true rfl) ?_
  refine g_iload M dL_law_266 rfl ?_
  refine g_icmp_eq M 273 dL_law_268 (by decide) (fun _ => ?_) (fun h9 => absurd rfl h9)
  refine g_iload M dL_law_273 rfl ?_
  by_cases h0 : kv = 0
  · refine g_if_ne M 290 dL_law_275 (by decide) (fun h9 => absurd h0 h9) (fun _ => ?_)
    refine g_aload_n M dL_law_278 rfl ?_
    refine g_iconst M 0 dL_law_279 (by decide) ?_
    refine g_lald M dL_law_280 (lw_out l1) vinA ?_
    rw [show (0 : Int32).toNatClampNeg = 0 from rfl, hz h0]
    refine g_iload M dL_law_281 rfl ?_
    refine g_i2l M dL_law_283 ?_
    refine g_lcmp M dL_law_284 ?_
    rw [lgc]
    refine g_if_eq M 290 dL_law_285 (by decide) (fun _ => ?_) (fun h9 => absurd rfl h9)
    refine g_goto M 1598 dL_law_290 (by decide) ?_
    exact g_lvs M _ (lvs_c rfl (lvs_c rfl (lvs_c rfl (lvs_c rfl (lvs_c rfl lvs_n))))) (kk _ _ _ _ M hI)
  · refine g_if_ne M 290 dL_law_275 (by decide) (fun _ => ?_) (fun h9 => absurd h9 h0)
    refine g_goto M 1598 dL_law_290 (by decide) ?_
    exact g_lvs M _ (lvs_c rfl (lvs_c rfl (lvs_c rfl (lvs_c rfl (lvs_c rfl lvs_n))))) (kk _ _ _ _ M hI)
theorem k_clutch {L i b k9 n9 : Nat} {xs : Nat → Int32} {w0 m0 : List va_E} {z : Nat → Int64} {B : KT} (M : MG RL cL_law 9 ret room_1 k9 n9 (XLw L xs) B) (hi : i + 4 ≤ L) (hL : L ≤ 2048) (hV : Inv b w0 m0) (hb : b + 2000 ≤ 2 ^ 28) (hr9 : k9 + 1 ≤ 601024 ∧ n9 + 6 ≤ 7293034) (kk : ∀ (B2 : KT) (w1 m1 : List va_E) (z1 : Nat → Int64), MG RL cL_law 9 ret room_1 (k9 + 1) (n9 + 6) (XLw L xs) B2 → Inv (b + 2000) w1 m1 → B2 1598 [(0, .ref 1000), (1, .ref 0), (2, .ref 96), (3, .ref 95), (4, .int (nI i))] [] (LWm w1 z1 m1)) : B 293 [(0, .ref 1000), (1, .ref 0), (2, .ref 96), (3, .ref 95), (4, .int (nI i))] [] (LWm w0 z m0) := by
  obtain ⟨kv, mb, w1, m1, z1, hW, hM, hT, hz, hI⟩ := s_clutch (z := z) hV hb (xs (nI (i + 1)).toNatClampNeg)
  obtain ⟨l0, c0, fs0, g0⟩ := inv_w hV
  obtain ⟨l1, c1, fs1, g1⟩ := inv_w hI
  obtain ⟨n0, e0, fm0, q0⟩ := inv_m hV
  obtain ⟨n1, e1, fm1, q1⟩ := inv_m hI
  refine g_aload_n M dL_law_293 rfl ?_
  refine g_aload_n M dL_law_294 rfl ?_
  refine g_iload M dL_law_295 rfl ?_
  refine g_iconst M 1 dL_law_297 (by decide) ?_
  refine g_iadd M dL_law_298 ?_
  rw [show nI i + 1 = nI (i + 1) from nI_add i 1]
  refine g_sld M (vp_in_nI (by omega) (by omega)) dL_law_299 ?_
  refine g_aload_n M dL_law_300 rfl ?_
  refine g_callW (n := 3) (As := [.ref 0, .int (xs (nI (i + 1)).toNatClampNeg), .ref 95]) M (xlw_xp L xs) hW lw_clutch dL_law_301 (by decide +kernel) ⟨Nat.le_of_ble_eq_true rfl, Nat.le_of_ble_eq_true rfl⟩ ⟨rfl, rfl⟩ hr9 (List.range 96) rfl rfl nd96 (sel_pre nd96 (ln96 l0 z) (cl96 c0 z)) (Nat.le_of_ble_eq_true rfl) (fun B M => ?_)
  rw [put_pre nd96 (ln96 l0 z) (ln96 l1 z1) (cl96 c1 z1)]
  refine g_istore M dL_law_304 (by decide) ?_
  refine g_aload_n M dL_law_306 rfl ?_
  refine g_aload_n M dL_law_307 rfl ?_
  refine g_iload M dL_law_308 rfl ?_
  refine g_iconst M 1 dL_law_310 (by decide) ?_
  refine g_iadd M dL_law_311 ?_
  rw [show nI i + 1 = nI (i + 1) from nI_add i 1]
  refine g_sld M (vp_in_nI (by omega) (by omega)) dL_law_312 ?_
  refine g_V1iu (q := 96) (w' := LWm w1 z1 m1) M hM lk_L_107 dL_law_313 (by decide +kernel) ⟨Nat.le_of_ble_eq_true rfl, Nat.le_of_ble_eq_true rfl⟩ ⟨rfl, rfl⟩ P5 (lw_md l1 q0) rfl rfl nd5 (sel_suf (ln96 l1 z1) n0 e0) (Nat.le_of_ble_eq_true rfl) (put_suf (ln96 l1 z1) n0 n1 e1) ?_
  refine g_istore M dL_law_316 (by decide) ?_
  refine g_aload_n M dL_law_318 rfl ?_
  refine g_V0ik (q := 96) M hT lk_L_95 dL_law_319 (by decide +kernel) ⟨Nat.le_of_ble_eq_true rfl, Nat.le_of_ble_eq_true rfl⟩ ⟨rfl, rfl⟩ P5 (lw_md l1 q1) rfl rfl nd5 (sel_suf (ln96 l1 z1) n1 e1) (Nat.le_of_ble_eq_true rfl) ?_
  refine g_iload M dL_law_322 rfl ?_
  refine g_icmp_eq M 329 dL_law_324 (by decide) (fun _ => ?_) (fun h9 => absurd rfl h9)
  refine g_iload M dL_law_329 rfl ?_
  by_cases h0 : kv = 0
  · refine g_if_ne M 346 dL_law_331 (by decide) (fun h9 => absurd h0 h9) (fun _ => ?_)
    refine g_aload_n M dL_law_334 rfl ?_
    refine g_iconst M 0 dL_law_335 (by decide) ?_
    refine g_lald M dL_law_336 (lw_out l1) vinA ?_
    rw [show (0 : Int32).toNatClampNeg = 0 from rfl, hz h0]
    refine g_iload M dL_law_337 rfl ?_
    refine g_i2l M dL_law_339 ?_
    refine g_lcmp M dL_law_340 ?_
    rw [lgc]
    refine g_if_eq M 346 dL_law_341 (by decide) (fun _ => ?_) (fun h9 => absurd rfl h9)
    refine g_goto M 1598 dL_law_346 (by decide) ?_
    exact g_lvs M _ (lvs_c rfl (lvs_c rfl (lvs_c rfl (lvs_c rfl (lvs_c rfl lvs_n))))) (kk _ _ _ _ M hI)
  · refine g_if_ne M 346 dL_law_331 (by decide) (fun _ => ?_) (fun h9 => absurd h9 h0)
    refine g_goto M 1598 dL_law_346 (by decide) ?_
    exact g_lvs M _ (lvs_c rfl (lvs_c rfl (lvs_c rfl (lvs_c rfl (lvs_c rfl lvs_n))))) (kk _ _ _ _ M hI)
theorem k_hand {L i b k9 n9 : Nat} {xs : Nat → Int32} {w0 m0 : List va_E} {z : Nat → Int64} {B : KT} (M : MG RL cL_law 9 ret room_1 k9 n9 (XLw L xs) B) (hi : i + 4 ≤ L) (hL : L ≤ 2048) (hV : Inv b w0 m0) (hb : b + 2000 ≤ 2 ^ 28) (hr9 : k9 + 1 ≤ 601024 ∧ n9 + 6 ≤ 7293034) (kk : ∀ (B2 : KT) (w1 m1 : List va_E) (z1 : Nat → Int64), MG RL cL_law 9 ret room_1 (k9 + 1) (n9 + 6) (XLw L xs) B2 → Inv (b + 2000) w1 m1 → B2 1598 [(0, .ref 1000), (1, .ref 0), (2, .ref 96), (3, .ref 95), (4, .int (nI i))] [] (LWm w1 z1 m1)) : B 349 [(0, .ref 1000), (1, .ref 0), (2, .ref 96), (3, .ref 95), (4, .int (nI i))] [] (LWm w0 z m0) := by
  obtain ⟨kv, mb, w1, m1, z1, hW, hM, hT, hz, hI⟩ := s_hand (z := z) hV hb (xs (nI (i + 1)).toNatClampNeg) (xs (nI (i + 2)).toNatClampNeg)
  obtain ⟨l0, c0, fs0, g0⟩ := inv_w hV
  obtain ⟨l1, c1, fs1, g1⟩ := inv_w hI
  obtain ⟨n0, e0, fm0, q0⟩ := inv_m hV
  obtain ⟨n1, e1, fm1, q1⟩ := inv_m hI
  refine g_aload_n M dL_law_349 rfl ?_
  refine g_aload_n M dL_law_350 rfl ?_
  refine g_iload M dL_law_351 rfl ?_
  refine g_iconst M 1 dL_law_353 (by decide) ?_
  refine g_iadd M dL_law_354 ?_
  rw [show nI i + 1 = nI (i + 1) from nI_add i 1]
  refine g_sld M (vp_in_nI (by omega) (by omega)) dL_law_355 ?_
  refine g_aload_n M dL_law_356 rfl ?_
  refine g_iload M dL_law_357 rfl ?_
  refine g_iconst M 2 dL_law_359 (by decide) ?_
  refine g_iadd M dL_law_360 ?_
  rw [show nI i + 2 = nI (i + 2) from nI_add i 2]
  refine g_sld M (vp_in_nI (by omega) (by omega)) dL_law_361 ?_
  refine g_aload_n M dL_law_362 rfl ?_
  refine g_callW (n := 4) (As := [.ref 0, .int (xs (nI (i + 1)).toNatClampNeg), .int (xs (nI (i + 2)).toNatClampNeg), .ref 95]) M (xlw_xp L xs) hW lw_hand dL_law_363 (by decide +kernel) ⟨Nat.le_of_ble_eq_true rfl, Nat.le_of_ble_eq_true rfl⟩ ⟨rfl, rfl⟩ hr9 (List.range 96) rfl rfl nd96 (sel_pre nd96 (ln96 l0 z) (cl96 c0 z)) (Nat.le_of_ble_eq_true rfl) (fun B M => ?_)
  rw [put_pre nd96 (ln96 l0 z) (ln96 l1 z1) (cl96 c1 z1)]
  refine g_istore M dL_law_366 (by decide) ?_
  refine g_aload_n M dL_law_368 rfl ?_
  refine g_aload_n M dL_law_369 rfl ?_
  refine g_iload M dL_law_370 rfl ?_
  refine g_iconst M 1 dL_law_372 (by decide) ?_
  refine g_iadd M dL_law_373 ?_
  rw [show nI i + 1 = nI (i + 1) from nI_add i 1]
  refine g_sld M (vp_in_nI (by omega) (by omega)) dL_law_374 ?_
  refine g_aload_n M dL_law_375 rfl ?_
  refine g_iload M dL_law_376 rfl ?_
  refine g_iconst M 2 dL_law_378 (by decide) ?_
  refine g_iadd M dL_law_379 ?_
  rw [show nI i + 2 = nI (i + 2) from nI_add i 2]
  refine g_sld M (vp_in_nI (by omega) (by omega)) dL_law_380 ?_
  refine g_V2iu (q := 96) (w' := LWm w1 z1 m1) M hM lk_L_111 dL_law_381 (by decide +kernel) ⟨Nat.le_of_ble_eq_true rfl, Nat.le_of_ble_eq_true rfl⟩ ⟨rfl, rfl⟩ P5 (lw_md l1 q0) rfl rfl nd5 (sel_suf (ln96 l1 z1) n0 e0) (Nat.le_of_ble_eq_true rfl) (put_suf (ln96 l1 z1) n0 n1 e1) ?_
  refine g_istore M dL_law_384 (by decide) ?_
  refine g_aload_n M dL_law_386 rfl ?_
  refine g_V0ik (q := 96) M hT lk_L_95 dL_law_387 (by decide +kernel) ⟨Nat.le_of_ble_eq_true rfl, Nat.le_of_ble_eq_true rfl⟩ ⟨rfl, rfl⟩ P5 (lw_md l1 q1) rfl rfl nd5 (sel_suf (ln96 l1 z1) n1 e1) (Nat.le_of_ble_eq_true rfl) ?_
  refine g_iload M dL_law_390 rfl ?_
  refine g_icmp_eq M 397 dL_law_392 (by decide) (fun _ => ?_) (fun h9 => absurd rfl h9)
  refine g_iload M dL_law_397 rfl ?_
  by_cases h0 : kv = 0
  · refine g_if_ne M 414 dL_law_399 (by decide) (fun h9 => absurd h0 h9) (fun _ => ?_)
    refine g_aload_n M dL_law_402 rfl ?_
    refine g_iconst M 0 dL_law_403 (by decide) ?_
    refine g_lald M dL_law_404 (lw_out l1) vinA ?_
    rw [show (0 : Int32).toNatClampNeg = 0 from rfl, hz h0]
    refine g_iload M dL_law_405 rfl ?_
    refine g_i2l M dL_law_407 ?_
    refine g_lcmp M dL_law_408 ?_
    rw [lgc]
    refine g_if_eq M 414 dL_law_409 (by decide) (fun _ => ?_) (fun h9 => absurd rfl h9)
    refine g_goto M 1598 dL_law_414 (by decide) ?_
    exact g_lvs M _ (lvs_c rfl (lvs_c rfl (lvs_c rfl (lvs_c rfl (lvs_c rfl lvs_n))))) (kk _ _ _ _ M hI)
  · refine g_if_ne M 414 dL_law_399 (by decide) (fun _ => ?_) (fun h9 => absurd h9 h0)
    refine g_goto M 1598 dL_law_414 (by decide) ?_
    exact g_lvs M _ (lvs_c rfl (lvs_c rfl (lvs_c rfl (lvs_c rfl (lvs_c rfl lvs_n))))) (kk _ _ _ _ M hI)
theorem k_file {L i b k9 n9 : Nat} {xs : Nat → Int32} {w0 m0 : List va_E} {z : Nat → Int64} {B : KT} (M : MG RL cL_law 9 ret room_1 k9 n9 (XLw L xs) B) (hi : i + 4 ≤ L) (hL : L ≤ 2048) (hV : Inv b w0 m0) (hb : b + 2000 ≤ 2 ^ 28) (hr9 : k9 + 1 ≤ 601024 ∧ n9 + 6 ≤ 7293034) (kk : ∀ (B2 : KT) (w1 m1 : List va_E) (z1 : Nat → Int64), MG RL cL_law 9 ret room_1 (k9 + 1) (n9 + 6) (XLw L xs) B2 → Inv (b + 2000) w1 m1 → B2 1598 [(0, .ref 1000), (1, .ref 0), (2, .ref 96), (3, .ref 95), (4, .int (nI i))] [] (LWm w1 z1 m1)) : B 417 [(0, .ref 1000), (1, .ref 0), (2, .ref 96), (3, .ref 95), (4, .int (nI i))] [] (LWm w0 z m0) := by
  obtain ⟨kv, mb, w1, m1, z1, hW, hM, hT, hz, hI⟩ := s_file (z := z) hV hb (xs (nI (i + 1)).toNatClampNeg) (xs (nI (i + 2)).toNatClampNeg) (xs (nI (i + 3)).toNatClampNeg)
  obtain ⟨l0, c0, fs0, g0⟩ := inv_w hV
  obtain ⟨l1, c1, fs1, g1⟩ := inv_w hI
  obtain ⟨n0, e0, fm0, q0⟩ := inv_m hV
  obtain ⟨n1, e1, fm1, q1⟩ := inv_m hI
  refine g_aload_n M dL_law_417 rfl ?_
  refine g_aload_n M dL_law_418 rfl ?_
  refine g_iload M dL_law_419 rfl ?_
  refine g_iconst M 1 dL_law_421 (by decide) ?_
  refine g_iadd M dL_law_422 ?_
  rw [show nI i + 1 = nI (i + 1) from nI_add i 1]
  refine g_sld M (vp_in_nI (by omega) (by omega)) dL_law_423 ?_
  refine g_aload_n M dL_law_424 rfl ?_
  refine g_iload M dL_law_425 rfl ?_
  refine g_iconst M 2 dL_law_427 (by decide) ?_
  refine g_iadd M dL_law_428 ?_
  rw [show nI i + 2 = nI (i + 2) from nI_add i 2]
  refine g_sld M (vp_in_nI (by omega) (by omega)) dL_law_429 ?_
  refine g_aload_n M dL_law_430 rfl ?_
  refine g_iload M dL_law_431 rfl ?_
  refine g_iconst M 3 dL_law_433 (by decide) ?_
  refine g_iadd M dL_law_434 ?_
  rw [show nI i + 3 = nI (i + 3) from nI_add i 3]
  refine g_sld M (vp_in_nI (by omega) (by omega)) dL_law_435 ?_
  refine g_aload_n M dL_law_436 rfl ?_
  refine g_callW (n := 5) (As := [.ref 0, .int (xs (nI (i + 1)).toNatClampNeg), .int (xs (nI (i + 2)).toNatClampNeg), .int (xs (nI (i + 3)).toNatClampNeg), .ref 95]) M (xlw_xp L xs) hW lw_file dL_law_437 (by decide +kernel) ⟨Nat.le_of_ble_eq_true rfl, Nat.le_of_ble_eq_true rfl⟩ ⟨rfl, rfl⟩ hr9 (List.range 96) rfl rfl nd96 (sel_pre nd96 (ln96 l0 z) (cl96 c0 z)) (Nat.le_of_ble_eq_true rfl) (fun B M => ?_)
  rw [put_pre nd96 (ln96 l0 z) (ln96 l1 z1) (cl96 c1 z1)]
  refine g_istore M dL_law_440 (by decide) ?_
  refine g_aload_n M dL_law_442 rfl ?_
  refine g_aload_n M dL_law_443 rfl ?_
  refine g_iload M dL_law_444 rfl ?_
  refine g_iconst M 1 dL_law_446 (by decide) ?_
  refine g_iadd M dL_law_447 ?_
  rw [show nI i + 1 = nI (i + 1) from nI_add i 1]
  refine g_sld M (vp_in_nI (by omega) (by omega)) dL_law_448 ?_
  refine g_aload_n M dL_law_449 rfl ?_
  refine g_iload M dL_law_450 rfl ?_
  refine g_iconst M 2 dL_law_452 (by decide) ?_
  refine g_iadd M dL_law_453 ?_
  rw [show nI i + 2 = nI (i + 2) from nI_add i 2]
  refine g_sld M (vp_in_nI (by omega) (by omega)) dL_law_454 ?_
  refine g_aload_n M dL_law_455 rfl ?_
  refine g_iload M dL_law_456 rfl ?_
  refine g_iconst M 3 dL_law_458 (by decide) ?_
  refine g_iadd M dL_law_459 ?_
  rw [show nI i + 3 = nI (i + 3) from nI_add i 3]
  refine g_sld M (vp_in_nI (by omega) (by omega)) dL_law_460 ?_
  refine g_V3iu (q := 96) (w' := LWm w1 z1 m1) M hM lk_L_115 dL_law_461 (by decide +kernel) ⟨Nat.le_of_ble_eq_true rfl, Nat.le_of_ble_eq_true rfl⟩ ⟨rfl, rfl⟩ P5 (lw_md l1 q0) rfl rfl nd5 (sel_suf (ln96 l1 z1) n0 e0) (Nat.le_of_ble_eq_true rfl) (put_suf (ln96 l1 z1) n0 n1 e1) ?_
  refine g_istore M dL_law_464 (by decide) ?_
  refine g_aload_n M dL_law_466 rfl ?_
  refine g_V0ik (q := 96) M hT lk_L_95 dL_law_467 (by decide +kernel) ⟨Nat.le_of_ble_eq_true rfl, Nat.le_of_ble_eq_true rfl⟩ ⟨rfl, rfl⟩ P5 (lw_md l1 q1) rfl rfl nd5 (sel_suf (ln96 l1 z1) n1 e1) (Nat.le_of_ble_eq_true rfl) ?_
  refine g_iload M dL_law_470 rfl ?_
  refine g_icmp_eq M 477 dL_law_472 (by decide) (fun _ => ?_) (fun h9 => absurd rfl h9)
  refine g_iload M dL_law_477 rfl ?_
  by_cases h0 : kv = 0
  · refine g_if_ne M 494 dL_law_479 (by decide) (fun h9 => absurd h0 h9) (fun _ => ?_)
    refine g_aload_n M dL_law_482 rfl ?_
    refine g_iconst M 0 dL_law_483 (by decide) ?_
    refine g_lald M dL_law_484 (lw_out l1) vinA ?_
    rw [show (0 : Int32).toNatClampNeg = 0 from rfl, hz h0]
    refine g_iload M dL_law_485 rfl ?_
    refine g_i2l M dL_law_487 ?_
    refine g_lcmp M dL_law_488 ?_
    rw [lgc]
    refine g_if_eq M 494 dL_law_489 (by decide) (fun _ => ?_) (fun h9 => absurd rfl h9)
    refine g_goto M 1598 dL_law_494 (by decide) ?_
    exact g_lvs M _ (lvs_c rfl (lvs_c rfl (lvs_c rfl (lvs_c rfl (lvs_c rfl lvs_n))))) (kk _ _ _ _ M hI)
  · refine g_if_ne M 494 dL_law_479 (by decide) (fun _ => ?_) (fun h9 => absurd h9 h0)
    refine g_goto M 1598 dL_law_494 (by decide) ?_
    exact g_lvs M _ (lvs_c rfl (lvs_c rfl (lvs_c rfl (lvs_c rfl (lvs_c rfl lvs_n))))) (kk _ _ _ _ M hI)
theorem k_change {L i b k9 n9 : Nat} {xs : Nat → Int32} {w0 m0 : List va_E} {z : Nat → Int64} {B : KT} (M : MG RL cL_law 9 ret room_1 k9 n9 (XLw L xs) B) (hi : i + 4 ≤ L) (hL : L ≤ 2048) (hV : Inv b w0 m0) (hb : b + 2000 ≤ 2 ^ 28) (hr9 : k9 + 1 ≤ 601024 ∧ n9 + 6 ≤ 7293034) (kk : ∀ (B2 : KT) (w1 m1 : List va_E) (z1 : Nat → Int64), MG RL cL_law 9 ret room_1 (k9 + 1) (n9 + 6) (XLw L xs) B2 → Inv (b + 2000) w1 m1 → B2 1598 [(0, .ref 1000), (1, .ref 0), (2, .ref 96), (3, .ref 95), (4, .int (nI i))] [] (LWm w1 z1 m1)) : B 497 [(0, .ref 1000), (1, .ref 0), (2, .ref 96), (3, .ref 95), (4, .int (nI i))] [] (LWm w0 z m0) := by
  obtain ⟨kv, mb, w1, m1, z1, hW, hM, hT, hz, hI⟩ := s_change (z := z) hV hb (xs (nI (i + 1)).toNatClampNeg) (xs (nI (i + 2)).toNatClampNeg)
  obtain ⟨l0, c0, fs0, g0⟩ := inv_w hV
  obtain ⟨l1, c1, fs1, g1⟩ := inv_w hI
  obtain ⟨n0, e0, fm0, q0⟩ := inv_m hV
  obtain ⟨n1, e1, fm1, q1⟩ := inv_m hI
  refine g_aload_n M dL_law_497 rfl ?_
  refine g_aload_n M dL_law_498 rfl ?_
  refine g_iload M dL_law_499 rfl ?_
  refine g_iconst M 1 dL_law_501 (by decide) ?_
  refine g_iadd M dL_law_502 ?_
  rw [show nI i + 1 = nI (i + 1) from nI_add i 1]
  refine g_sld M (vp_in_nI (by omega) (by omega)) dL_law_503 ?_
  refine g_aload_n M dL_law_504 rfl ?_
  refine g_iload M dL_law_505 rfl ?_
  refine g_iconst M 2 dL_law_507 (by decide) ?_
  refine g_iadd M dL_law_508 ?_
  rw [show nI i + 2 = nI (i + 2) from nI_add i 2]
  refine g_sld M (vp_in_nI (by omega) (by omega)) dL_law_509 ?_
  refine g_aload_n M dL_law_510 rfl ?_
  refine g_callW (n := 4) (As := [.ref 0, .int (xs (nI (i + 1)).toNatClampNeg), .int (xs (nI (i + 2)).toNatClampNeg), .ref 95]) M (xlw_xp L xs) hW lw_change dL_law_511 (by decide +kernel) ⟨Nat.le_of_ble_eq_true rfl, Nat.le_of_ble_eq_true rfl⟩ ⟨rfl, rfl⟩ hr9 (List.range 96) rfl rfl nd96 (sel_pre nd96 (ln96 l0 z) (cl96 c0 z)) (Nat.le_of_ble_eq_true rfl) (fun B M => ?_)
  rw [put_pre nd96 (ln96 l0 z) (ln96 l1 z1) (cl96 c1 z1)]
  refine g_istore M dL_law_514 (by decide) ?_
  refine g_aload_n M dL_law_516 rfl ?_
  refine g_aload_n M dL_law_517 rfl ?_
  refine g_iload M dL_law_518 rfl ?_
  refine g_iconst M 1 dL_law_520 (by decide) ?_
  refine g_iadd M dL_law_521 ?_
  rw [show nI i + 1 = nI (i + 1) from nI_add i 1]
  refine g_sld M (vp_in_nI (by omega) (by omega)) dL_law_522 ?_
  refine g_aload_n M dL_law_523 rfl ?_
  refine g_iload M dL_law_524 rfl ?_
  refine g_iconst M 2 dL_law_526 (by decide) ?_
  refine g_iadd M dL_law_527 ?_
  rw [show nI i + 2 = nI (i + 2) from nI_add i 2]
  refine g_sld M (vp_in_nI (by omega) (by omega)) dL_law_528 ?_
  refine g_V2iu (q := 96) (w' := LWm w1 z1 m1) M hM lk_L_118 dL_law_529 (by decide +kernel) ⟨Nat.le_of_ble_eq_true rfl, Nat.le_of_ble_eq_true rfl⟩ ⟨rfl, rfl⟩ P5 (lw_md l1 q0) rfl rfl nd5 (sel_suf (ln96 l1 z1) n0 e0) (Nat.le_of_ble_eq_true rfl) (put_suf (ln96 l1 z1) n0 n1 e1) ?_
  refine g_istore M dL_law_532 (by decide) ?_
  refine g_aload_n M dL_law_534 rfl ?_
  refine g_V0ik (q := 96) M hT lk_L_95 dL_law_535 (by decide +kernel) ⟨Nat.le_of_ble_eq_true rfl, Nat.le_of_ble_eq_true rfl⟩ ⟨rfl, rfl⟩ P5 (lw_md l1 q1) rfl rfl nd5 (sel_suf (ln96 l1 z1) n1 e1) (Nat.le_of_ble_eq_true rfl) ?_
  refine g_iload M dL_law_538 rfl ?_
  refine g_icmp_eq M 545 dL_law_540 (by decide) (fun _ => ?_) (fun h9 => absurd rfl h9)
  refine g_iload M dL_law_545 rfl ?_
  by_cases h0 : kv = 0
  · refine g_if_ne M 562 dL_law_547 (by decide) (fun h9 => absurd h0 h9) (fun _ => ?_)
    refine g_aload_n M dL_law_550 rfl ?_
    refine g_iconst M 0 dL_law_551 (by decide) ?_
    refine g_lald M dL_law_552 (lw_out l1) vinA ?_
    rw [show (0 : Int32).toNatClampNeg = 0 from rfl, hz h0]
    refine g_iload M dL_law_553 rfl ?_
    refine g_i2l M dL_law_555 ?_
    refine g_lcmp M dL_law_556 ?_
    rw [lgc]
    refine g_if_eq M 562 dL_law_557 (by decide) (fun _ => ?_) (fun h9 => absurd rfl h9)
    refine g_goto M 1598 dL_law_562 (by decide) ?_
    exact g_lvs M _ (lvs_c rfl (lvs_c rfl (lvs_c rfl (lvs_c rfl (lvs_c rfl lvs_n))))) (kk _ _ _ _ M hI)
  · refine g_if_ne M 562 dL_law_547 (by decide) (fun _ => ?_) (fun h9 => absurd h9 h0)
    refine g_goto M 1598 dL_law_562 (by decide) ?_
    exact g_lvs M _ (lvs_c rfl (lvs_c rfl (lvs_c rfl (lvs_c rfl (lvs_c rfl lvs_n))))) (kk _ _ _ _ M hI)
theorem k_set {L i b k9 n9 : Nat} {xs : Nat → Int32} {w0 m0 : List va_E} {z : Nat → Int64} {B : KT} (M : MG RL cL_law 9 ret room_1 k9 n9 (XLw L xs) B) (hi : i + 4 ≤ L) (hL : L ≤ 2048) (hV : Inv b w0 m0) (hb : b + 2000 ≤ 2 ^ 28) (hr9 : k9 + 1 ≤ 601024 ∧ n9 + 6 ≤ 7293034) (kk : ∀ (B2 : KT) (w1 m1 : List va_E) (z1 : Nat → Int64), MG RL cL_law 9 ret room_1 (k9 + 1) (n9 + 6) (XLw L xs) B2 → Inv (b + 2000) w1 m1 → B2 1598 [(0, .ref 1000), (1, .ref 0), (2, .ref 96), (3, .ref 95), (4, .int (nI i))] [] (LWm w1 z1 m1)) : B 565 [(0, .ref 1000), (1, .ref 0), (2, .ref 96), (3, .ref 95), (4, .int (nI i))] [] (LWm w0 z m0) := by
  obtain ⟨kv, mb, w1, m1, z1, hW, hM, hT, hz, hI⟩ := s_set (z := z) hV hb (xs (nI (i + 1)).toNatClampNeg)
  obtain ⟨l0, c0, fs0, g0⟩ := inv_w hV
  obtain ⟨l1, c1, fs1, g1⟩ := inv_w hI
  obtain ⟨n0, e0, fm0, q0⟩ := inv_m hV
  obtain ⟨n1, e1, fm1, q1⟩ := inv_m hI
  refine g_aload_n M dL_law_565 rfl ?_
  refine g_aload_n M dL_law_566 rfl ?_
  refine g_iload M dL_law_567 rfl ?_
  refine g_iconst M 1 dL_law_569 (by decide) ?_
  refine g_iadd M dL_law_570 ?_
  rw [show nI i + 1 = nI (i + 1) from nI_add i 1]
  refine g_sld M (vp_in_nI (by omega) (by omega)) dL_law_571 ?_
  refine g_aload_n M dL_law_572 rfl ?_
  refine g_callW (n := 3) (As := [.ref 0, .int (xs (nI (i + 1)).toNatClampNeg), .ref 95]) M (xlw_xp L xs) hW lw_set dL_law_573 (by decide +kernel) ⟨Nat.le_of_ble_eq_true rfl, Nat.le_of_ble_eq_true rfl⟩ ⟨rfl, rfl⟩ hr9 (List.range 96) rfl rfl nd96 (sel_pre nd96 (ln96 l0 z) (cl96 c0 z)) (Nat.le_of_ble_eq_true rfl) (fun B M => ?_)
  rw [put_pre nd96 (ln96 l0 z) (ln96 l1 z1) (cl96 c1 z1)]
  refine g_istore M dL_law_576 (by decide) ?_
  refine g_aload_n M dL_law_578 rfl ?_
  refine g_aload_n M dL_law_579 rfl ?_
  refine g_iload M dL_law_580 rfl ?_
  refine g_iconst M 1 dL_law_582 (by decide) ?_
  refine g_iadd M dL_law_583 ?_
  rw [show nI i + 1 = nI (i + 1) from nI_add i 1]
  refine g_sld M (vp_in_nI (by omega) (by omega)) dL_law_584 ?_
  refine g_V1iu (q := 96) (w' := LWm w1 z1 m1) M hM lk_L_121 dL_law_585 (by decide +kernel) ⟨Nat.le_of_ble_eq_true rfl, Nat.le_of_ble_eq_true rfl⟩ ⟨rfl, rfl⟩ P5 (lw_md l1 q0) rfl rfl nd5 (sel_suf (ln96 l1 z1) n0 e0) (Nat.le_of_ble_eq_true rfl) (put_suf (ln96 l1 z1) n0 n1 e1) ?_
  refine g_istore M dL_law_588 (by decide) ?_
  refine g_aload_n M dL_law_590 rfl ?_
  refine g_V0ik (q := 96) M hT lk_L_95 dL_law_591 (by decide +kernel) ⟨Nat.le_of_ble_eq_true rfl, Nat.le_of_ble_eq_true rfl⟩ ⟨rfl, rfl⟩ P5 (lw_md l1 q1) rfl rfl nd5 (sel_suf (ln96 l1 z1) n1 e1) (Nat.le_of_ble_eq_true rfl) ?_
  refine g_iload M dL_law_594 rfl ?_
  refine g_icmp_eq M 601 dL_law_596 (by decide) (fun _ => ?_) (fun h9 => absurd rfl h9)
  refine g_iload M dL_law_601 rfl ?_
  by_cases h0 : kv = 0
  · refine g_if_ne M 618 dL_law_603 (by decide) (fun h9 => absurd h0 h9) (fun _ => ?_)
    refine g_aload_n M dL_law_606 rfl ?_
    refine g_iconst M 0 dL_law_607 (by decide) ?_
    refine g_lald M dL_law_608 (lw_out l1) vinA ?_
    rw [show (0 : Int32).toNatClampNeg = 0 from rfl, hz h0]
    refine g_iload M dL_law_609 rfl ?_
    refine g_i2l M dL_law_611 ?_
    refine g_lcmp M dL_law_612 ?_
    rw [lgc]
    refine g_if_eq M 618 dL_law_613 (by decide) (fun _ => ?_) (fun h9 => absurd rfl h9)
    refine g_goto M 1598 dL_law_618 (by decide) ?_
    exact g_lvs M _ (lvs_c rfl (lvs_c rfl (lvs_c rfl (lvs_c rfl (lvs_c rfl lvs_n))))) (kk _ _ _ _ M hI)
  · refine g_if_ne M 618 dL_law_603 (by decide) (fun _ => ?_) (fun h9 => absurd h9 h0)
    refine g_goto M 1598 dL_law_618 (by decide) ?_
    exact g_lvs M _ (lvs_c rfl (lvs_c rfl (lvs_c rfl (lvs_c rfl (lvs_c rfl lvs_n))))) (kk _ _ _ _ M hI)


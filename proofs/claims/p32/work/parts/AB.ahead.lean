section
variable {b : Nat} {d d1 : SD} {k : Nat} {rm : Nat → Nat} {R : Nat → SD} {t : WD} {x : Int32}
abbrev MX (d d1 : SD) (k : Nat) (rm : Nat → Nat) (R : Nat → SD) (t : WD) (B : KT) : Prop := MG RL cL_isAhead 11 (some .boolean) (rmn 7 0 0 174) 0 0 (XM (some (.int 1)) (OW d d1 k rm R t) 0 0) B
/-- a direction, as the law counts it -/
def Dr (y bk : Int32) : Prop := (y = 1 ∧ bk = 0) ∨ (y = -1 ∧ bk = 1)
theorem Dr.pm {y bk : Int32} (h : Dr y bk) : y = 1 ∨ y = -1 := by
  rcases h with h | h
  · exact Or.inl h.1
  · exact Or.inr h.1
theorem d_why {y bk : Int32} (hrm : ∀ j, rm j < 6) (hD : Dr y bk) : QC 95 yX5_why cX5_why 2 (some .int) (rmk 6 150) [.ref 0, .int bk] (OW d d1 k rm R t) (some (.int (whyD d y))) (OW d d1 k rm R t) := by
  rcases hD with ⟨rfl, rfl⟩ | ⟨rfl, rfl⟩
  · exact l_why0 hrm
  · exact l_why1 hrm
theorem d_jam {y bk : Int32} (hrm : ∀ j, rm j < 6) (hte : teOk (sTe d)) (hD : Dr y bk) : QC 95 yX5_jamsIn cX5_jamsIn 5 (some .int) (rmk 6 150) [.ref 0, .int bk] (OW d d1 k rm R t) (some (.int (jamG d y (rN (sTe d) (sLo d) 5) 1))) (OW d d1 k rm R t) := by
  rcases hD with ⟨rfl, rfl⟩ | ⟨rfl, rfl⟩
  · exact l_jam0 hrm hte
  · exact l_jam1 hrm hte
theorem d_fre {y bk : Int32} {t2 : WD} (hrm : ∀ j, rm j < 6) (h2 : freW d y t = t2) (hD : Dr y bk) : QC 95 yX5_frees cX5_frees 4 (some .int) (rmk 6 150) [.ref 0, .int bk] (OW d d1 k rm R t) (some (.int (freD d y))) (OW d d1 k rm R t2) := by
  rcases hD with ⟨rfl, rfl⟩ | ⟨rfl, rfl⟩
  · exact l_frees0 hrm h2
  · exact l_frees1 hrm h2
/-- one direction: why, frees, a clutch and back -/
theorem ah_b {y bk : Int32} (hD : Dr y bk) (hH : Hs b k rm R) (hd : GP b d) : ∃ (k' : Nat) (rm' : Nat → Nat) (R' : Nat → SD) (t' : WD), Hs b k' rm' R' ∧ ∀ (r : Int32) (kF : Nat) (rmF : Nat → Nat) (RF : Nat → SD) (tF : WD) (B : KT), MX d d1 kF rmF RF tF B → B 339 [(0, .ref 0), (1, .int x), (2, .int r), (7, .int 1), (8, .int bk)] [] (OW d d1 k' rm' R' t') → B 206 [(0, .ref 0), (1, .int x), (2, .int r), (7, .int 1), (8, .int bk)] [] (OW d d1 k rm R t) := by
  have hrm := hH.1
  have hk6 := hH.2.2.1
  have hte := hd.1.1.te
  have hj := jam_0 hd.1 hD.pm
  have hw := why_12 (d := d) (y := y)
  obtain ⟨t2, ht2⟩ : ∃ t2, freW d y t = t2 := ⟨_, rfl⟩
  /- the walk to the place behind the first assignment -/
  have pre : ∀ (r f : Int32) (kF : Nat) (rmF : Nat → Nat) (RF : Nat → SD) (tF : WD) (B : KT), MX d d1 kF rmF RF tF B → freD d y = f → (f = -1 ∨ ∃ w, w < 5 ∧ f = nI w ∧ sLo d w = true ∧ (whyD d y = 1 ∨ whyD d y = 2)) → B 297 [(0, .ref 0), (1, .int x), (2, .int r), (7, .int 1), (8, .int bk), (10, .int f)] [] (OW d d1 k rm R t2) → B 206 [(0, .ref 0), (1, .int x), (2, .int r), (7, .int 1), (8, .int bk)] [] (OW d d1 k rm R t) := by
    intro r f kF rmF RF tF B M hf hf2 kk
    have k290 : B 290 [(0, .ref 0), (1, .int x), (2, .int r), (8, .int bk), (10, .int f)] [] (OW d d1 k rm R t2) := by
      refine g_iconst M 1 dL_isAhead_290 (by decide) ?_
      refine g_goto M 295 dL_isAhead_291 (by decide) ?_
      refine g_istore M dL_isAhead_295 (by decide) ?_
      exact g_lvs M _ (lvs_c rfl (lvs_c rfl (lvs_c rfl (lvs_c rfl (lvs_c rfl (lvs_c rfl lvs_n)))))) kk
    have k261 : B 261 [(0, .ref 0), (1, .int x), (2, .int r), (8, .int bk), (9, .int (whyD d y)), (10, .int f)] [] (OW d d1 k rm R t2) := by
      refine g_iload M dL_isAhead_261 rfl ?_
      refine g_iconst M (-1) dL_isAhead_263 (by decide) ?_
      rcases hf2 with h | ⟨w, w1, w2, w3, w4⟩
      · refine g_icmp_eq M 290 dL_isAhead_264 (by decide) (fun _ => ?_) (fun h9 => absurd h h9)
        exact g_lvs M _ (lvs_c rfl (lvs_c rfl (lvs_c rfl (lvs_c rfl (lvs_c rfl lvs_n))))) k290
      · have k279 : B 279 [(0, .ref 0), (1, .int x), (2, .int r), (8, .int bk), (10, .int f)] [] (OW d d1 k rm R t2) := by
          refine g_aload_n M dL_isAhead_279 rfl ?_
          refine g_iload M dL_isAhead_280 rfl ?_
          refine g_iconst M 4 dL_isAhead_282 (by decide) ?_
          rw [w2]
          refine q_V2i M (l_wh4 hrm hte w w1) lk_L_19 dL_isAhead_283 (by decide +kernel) ⟨Nat.le_of_ble_eq_true rfl, Nat.le_of_ble_eq_true rfl⟩ ⟨rfl, rfl⟩ nd95 rfl rfl rfl (Nat.le_of_ble_eq_true rfl) ?_
          rw [w3]
          refine g_iconst M 1 dL_isAhead_286 (by decide) ?_
          refine g_icmp_ne M 294 dL_isAhead_287 (by decide) (fun h9 => absurd rfl h9) (fun _ => ?_)
          rw [w2] at k290
          exact k290
        refine g_icmp_eq M 290 dL_isAhead_264 (by decide) (fun h9 => absurd h9 (fun z => by rw [w2] at z; have := congrArg Int32.toInt z; rw [nI_toInt (by omega), show (-1 : Int32).toInt = -1 from rfl] at this; omega)) (fun _ => ?_)
        refine g_iload M dL_isAhead_267 rfl ?_
        refine g_iconst M 1 dL_isAhead_269 (by decide) ?_
        by_cases h1 : whyD d y = 1
        · refine g_icmp_eq M 279 dL_isAhead_270 (by decide) (fun _ => ?_) (fun h9 => absurd h1 h9)
          exact g_lvs M _ (lvs_c rfl (lvs_c rfl (lvs_c rfl (lvs_c rfl (lvs_c rfl lvs_n))))) k279
        · refine g_icmp_eq M 279 dL_isAhead_270 (by decide) (fun h9 => absurd h9 h1) (fun _ => ?_)
          refine g_iload M dL_isAhead_273 rfl ?_
          refine g_iconst M 2 dL_isAhead_275 (by decide) ?_
          refine g_icmp_ne M 294 dL_isAhead_276 (by decide) (fun h9 => absurd (w4.resolve_left h1) h9) (fun _ => ?_)
          exact g_lvs M _ (lvs_c rfl (lvs_c rfl (lvs_c rfl (lvs_c rfl (lvs_c rfl lvs_n))))) k279
    have k241 : ∀ c : Bool, (c = true ↔ (whyD d y = 1 ∨ whyD d y = 2)) → B 241 [(0, .ref 0), (1, .int x), (2, .int r), (8, .int bk), (9, .int (whyD d y)), (10, .int f)] [.int (b2i c)] (OW d d1 k rm R t2) := by
      intro c hc
      have k258 : ∀ e : Bool, e = c → B 258 [(0, .ref 0), (1, .int x), (2, .int r), (8, .int bk), (9, .int (whyD d y)), (10, .int f)] [.int (b2i e), .int (b2i c)] (OW d d1 k rm R t2) := by
        intro e he
        rw [he]
        refine g_icmp_ne M 294 dL_isAhead_258 (by decide) (fun h9 => absurd rfl h9) (fun _ => ?_)
        exact k261
      have k253 : c = true → B 253 [(0, .ref 0), (1, .int x), (2, .int r), (8, .int bk), (9, .int (whyD d y)), (10, .int f)] [.int (b2i c)] (OW d d1 k rm R t2) := by
        intro he
        refine g_iconst M 1 dL_isAhead_253 (by decide) ?_
        refine g_goto M 258 dL_isAhead_254 (by decide) ?_
        exact k258 true he.symm
      refine g_iload M dL_isAhead_241 rfl ?_
      refine g_iconst M 1 dL_isAhead_243 (by decide) ?_
      by_cases h1 : whyD d y = 1
      · refine g_icmp_eq M 253 dL_isAhead_244 (by decide) (fun _ => ?_) (fun h9 => absurd h1 h9)
        exact k253 (hc.mpr (Or.inl h1))
      · refine g_icmp_eq M 253 dL_isAhead_244 (by decide) (fun h9 => absurd h9 h1) (fun _ => ?_)
        refine g_iload M dL_isAhead_247 rfl ?_
        refine g_iconst M 2 dL_isAhead_249 (by decide) ?_
        by_cases h2 : whyD d y = 2
        · refine g_icmp_ne M 257 dL_isAhead_250 (by decide) (fun h9 => absurd h2 h9) (fun _ => ?_)
          exact k253 (hc.mpr (Or.inr h2))
        · refine g_icmp_ne M 257 dL_isAhead_250 (by decide) (fun _ => ?_) (fun h9 => absurd h9 h2)
          refine g_iconst M 0 dL_isAhead_257 (by decide) ?_
          refine k258 false ?_
          cases c with
          | false => rfl
          | true => exact absurd (hc.mp rfl) (fun z => z.elim h1 h2)
    refine g_aload_n M dL_isAhead_206 rfl ?_
    refine g_iload M dL_isAhead_207 rfl ?_
    refine q_V1i M (d_why hrm hD) lk_L_29 dL_isAhead_209 (by decide +kernel) ⟨Nat.le_of_ble_eq_true rfl, Nat.le_of_ble_eq_true rfl⟩ ⟨rfl, rfl⟩ nd95 rfl rfl rfl (Nat.le_of_ble_eq_true rfl) ?_
    refine g_istore M dL_isAhead_212 (by decide) ?_
    refine g_aload_n M dL_isAhead_214 rfl ?_
    refine g_iload M dL_isAhead_215 rfl ?_
    refine q_V1i M (d_fre hrm ht2 hD) lk_L_95 dL_isAhead_217 (by decide +kernel) ⟨Nat.le_of_ble_eq_true rfl, Nat.le_of_ble_eq_true rfl⟩ ⟨rfl, rfl⟩ nd95 rfl rfl rfl (Nat.le_of_ble_eq_true rfl) ?_
    rw [hf]
    refine g_istore M dL_isAhead_220 (by decide) ?_
    refine g_iload M dL_isAhead_222 rfl ?_
    refine g_if_eq M 294 dL_isAhead_224 (by decide) (fun h9 => absurd h9 (by decide)) (fun _ => ?_)
    refine g_aload_n M dL_isAhead_227 rfl ?_
    refine g_iload M dL_isAhead_228 rfl ?_
    refine q_V1i M (d_jam hrm hte hD) lk_L_88 dL_isAhead_230 (by decide +kernel) ⟨Nat.le_of_ble_eq_true rfl, Nat.le_of_ble_eq_true rfl⟩ ⟨rfl, rfl⟩ nd95 rfl rfl rfl (Nat.le_of_ble_eq_true rfl) ?_
    by_cases hz : jamG d y (rN (sTe d) (sLo d) 5) 1 = 0
    · refine g_if_ne M 240 dL_isAhead_233 (by decide) (fun h9 => absurd hz h9) (fun _ => ?_)
      refine g_iconst M 1 dL_isAhead_236 (by decide) ?_
      refine g_goto M 241 dL_isAhead_237 (by decide) ?_
      exact g_lvs M _ (lvs_c rfl (lvs_c rfl (lvs_c rfl (lvs_c rfl (lvs_c rfl (lvs_c rfl lvs_n)))))) (k241 true ⟨fun _ => hw.mpr (hj.mp hz), fun _ => rfl⟩)
    · refine g_if_ne M 240 dL_isAhead_233 (by decide) (fun _ => ?_) (fun h9 => absurd h9 hz)
      refine g_iconst M 0 dL_isAhead_240 (by decide) ?_
      exact g_lvs M _ (lvs_c rfl (lvs_c rfl (lvs_c rfl (lvs_c rfl (lvs_c rfl (lvs_c rfl lvs_n)))))) (k241 false ⟨fun z => absurd z (by decide), fun z => absurd (hj.mpr (hw.mp z)) hz⟩)
  rcases fre_spec d y with hf | ⟨w, w1, w2, w3, w4, w5⟩
  · refine ⟨k, rm, R, t2, hH, fun r kF rmF RF tF B M kk => pre r (-1) kF rmF RF tF B M hf (Or.inl rfl) ?_⟩
    refine g_iload M dL_isAhead_297 rfl ?_
    refine g_if_eq M 339 dL_isAhead_299 (by decide) (fun h9 => absurd h9 (by decide)) (fun _ => ?_)
    refine g_iload M dL_isAhead_302 rfl ?_
    refine g_if_lt M 339 dL_isAhead_304 (by decide) (fun _ => ?_) (fun h9 => absurd (by decide) h9)
    exact g_lvs M _ (lvs_c rfl (lvs_c rfl (lvs_c rfl (lvs_c rfl (lvs_c rfl lvs_n))))) kk
  · obtain ⟨K, rm', R', ⟨p1, p2, p3⟩, g1, g2, g3, -⟩ := psh hH (Nat.le_refl b) hd
    have hcl := l_clutch (d0 := d) (d1 := d1) (k := k) (rm := rm) (R := R) (t := t2) hrm hk6 w w1
    rw [p1, p2, p3, show va_up (sLo d) w (!(sLo d) w) w = !(sLo d) w from if_pos rfl, w3] at hcl
    have hrm' := g1.1
    have hK6 := g1.2.2.1
    have hu := l_undo (d0 := kD d w) (d1 := d1) (k := K) (rm := rm') (R := R') (t := t2) hrm' (by omega)
    rw [g2] at hu
    have hwy := d_why (d := kD d w) (d1 := d1) (k := K + 1) (R := R') (t := t2) hrm' hD
    rw [w4] at hwy
    refine ⟨K, rm', R', t2, g3, fun r kF rmF RF tF B M kk => pre r (nI w) kF rmF RF tF B M w2 (Or.inr ⟨w, w1, rfl, w3, w5⟩) ?_⟩
    refine g_iload M dL_isAhead_297 rfl ?_
    refine g_if_eq M 339 dL_isAhead_299 (by decide) (fun h9 => absurd h9 (by decide)) (fun _ => ?_)
    refine g_iload M dL_isAhead_302 rfl ?_
    refine g_if_lt M 339 dL_isAhead_304 (by decide) (fun h9 => absurd h9 (nI_pos (by omega))) (fun _ => ?_)
    refine g_aload_n M dL_isAhead_307 rfl ?_
    refine g_iload M dL_isAhead_308 rfl ?_
    refine q_V1i M hcl lk_L_44 dL_isAhead_310 (by decide +kernel) ⟨Nat.le_of_ble_eq_true rfl, Nat.le_of_ble_eq_true rfl⟩ ⟨rfl, rfl⟩ nd95 rfl rfl rfl (Nat.le_of_ble_eq_true rfl) ?_
    refine g_if_ne M 336 dL_isAhead_313 (by decide) (fun h9 => absurd rfl h9) (fun _ => ?_)
    refine g_aload_n M dL_isAhead_316 rfl ?_
    refine g_iload M dL_isAhead_317 rfl ?_
    refine q_V1i M hwy lk_L_29 dL_isAhead_319 (by decide +kernel) ⟨Nat.le_of_ble_eq_true rfl, Nat.le_of_ble_eq_true rfl⟩ ⟨rfl, rfl⟩ nd95 rfl rfl rfl (Nat.le_of_ble_eq_true rfl) ?_
    refine g_if_ne M 336 dL_isAhead_322 (by decide) (fun h9 => absurd rfl h9) (fun _ => ?_)
    refine g_aload_n M dL_isAhead_325 rfl ?_
    refine q_V0i M hu lk_L_98 dL_isAhead_326 (by decide +kernel) ⟨Nat.le_of_ble_eq_true rfl, Nat.le_of_ble_eq_true rfl⟩ ⟨rfl, rfl⟩ nd95 rfl rfl rfl (Nat.le_of_ble_eq_true rfl) ?_
    refine g_if_lt M 336 dL_isAhead_329 (by decide) (fun h9 => absurd h9 (nI_pos (by omega))) (fun _ => ?_)
    refine g_iconst M 1 dL_isAhead_332 (by decide) ?_
    refine g_goto M 337 dL_isAhead_333 (by decide) ?_
    refine g_istore M dL_isAhead_337 (by decide) ?_
    exact g_lvs M _ (lvs_c rfl (lvs_c rfl (lvs_c rfl (lvs_c rfl (lvs_c rfl lvs_n))))) kk
theorem m1_lt : ((-1 : Int32) < 0) := by decide
/-- the scene that is found again -/
theorem ah_345 {B : KT} (hrm : ∀ j, rm j < 6) (hd : GP b d) (M : MX d d1 k rm R t B) : B 345 [(0, .ref 0), (1, .int x), (2, .int (nI (rN (sTe d) (sLo d) 5))), (7, .int 1)] [] (OW d d1 k rm R t) := by
  have hte := hd.1.1.te
  obtain ⟨c, hc, hsc⟩ := hd.1.1.2
  obtain ⟨r1, r2⟩ := rN_le (lo := sLo d) hte
  have k493 : B 493 [(0, .ref 0)] [] (OW d d1 k rm R t) := by
    refine g_iconst M 1 dL_isAhead_493 (by decide) ?_
    refine g_goto M 498 dL_isAhead_494 (by decide) ?_
    exact m_zret M dL_isAhead_498 rfl rfl rfl (List.append_nil _).symm
  refine g_aload_n M dL_isAhead_345 rfl ?_
  refine g_bipush M 7 dL_isAhead_346 (by decide) ?_
  refine q_V1i M (l_cnt7 hrm) lk_L_13 dL_isAhead_348 (by decide +kernel) ⟨Nat.le_of_ble_eq_true rfl, Nat.le_of_ble_eq_true rfl⟩ ⟨rfl, rfl⟩ nd95 rfl rfl rfl (Nat.le_of_ble_eq_true rfl) ?_
  rw [hsc]
  by_cases h0 : c = 0
  · subst h0
    refine g_if_ne M 358 dL_isAhead_351 (by decide) (fun h9 => absurd rfl h9) (fun _ => ?_)
    refine g_iconst M (-1) dL_isAhead_354 (by decide) ?_
    refine g_goto M 368 dL_isAhead_355 (by decide) ?_
    refine g_istore M dL_isAhead_368 (by decide) ?_
    refine g_iload M dL_isAhead_370 rfl ?_
    refine g_if_ge M 379 dL_isAhead_372 (by decide) (fun h9 => absurd h9 (by decide)) (fun _ => ?_)
    refine g_iconst M (-1) dL_isAhead_375 (by decide) ?_
    refine g_goto M 387 dL_isAhead_376 (by decide) ?_
    refine g_istore M dL_isAhead_387 (by decide) ?_
    refine g_iconst M 0 dL_isAhead_389 (by decide) ?_
    refine g_istore M dL_isAhead_390 (by decide) ?_
    refine g_iload M dL_isAhead_392 rfl ?_
    refine g_iconst M 5 dL_isAhead_394 (by decide) ?_
    refine g_icmp_ge M 454 dL_isAhead_395 (by decide) (fun h9 => absurd h9 (by decide)) (fun _ => ?_)
    refine g_iload M dL_isAhead_398 rfl ?_
    refine g_if_lt M 454 dL_isAhead_400 (by decide) (fun _ => ?_) (fun h9 => absurd (by decide) h9)
    refine g_iload M dL_isAhead_454 rfl ?_
    refine g_if_eq M 497 dL_isAhead_456 (by decide) (fun h9 => absurd h9 (by decide)) (fun _ => ?_)
    refine g_iload M dL_isAhead_459 rfl ?_
    refine g_if_lt M 493 dL_isAhead_461 (by decide) (fun _ => ?_) (fun h9 => absurd (by decide) h9)
    exact g_lvs M _ (lvs_c rfl lvs_n) k493
  · have hi := upG_lt (v := x) (n := c) (by omega)
    refine g_if_ne M 358 dL_isAhead_351 (by decide) (fun _ => ?_) (fun h9 => absurd h9 (nI_ne0 (by omega) (by omega)))
    refine g_iload_n M dL_isAhead_358 rfl ?_
    refine g_aload_n M dL_isAhead_359 rfl ?_
    refine g_bipush M 7 dL_isAhead_360 (by decide) ?_
    refine q_V1i M (l_cnt7 hrm) lk_L_13 dL_isAhead_362 (by decide +kernel) ⟨Nat.le_of_ble_eq_true rfl, Nat.le_of_ble_eq_true rfl⟩ ⟨rfl, rfl⟩ nd95 rfl rfl rfl (Nat.le_of_ble_eq_true rfl) ?_
    rw [hsc]
    refine q_S2i M (l_up ow_len (ow_cl hrm) x c (by omega) (by omega)) lk_L_32 dL_isAhead_365 (by decide +kernel) ⟨Nat.le_of_ble_eq_true rfl, Nat.le_of_ble_eq_true rfl⟩ ⟨rfl, rfl⟩ nd95 rfl (Nat.le_of_ble_eq_true rfl) ?_
    generalize upG x c = a at hi ⊢
    have hok : 0 ≤ (nI a).toInt ∧ nI a < sSc d := by rw [hsc, nI_toInt (by omega), nI_ltI (by omega) (by omega)]; omega
    refine g_istore M dL_isAhead_368 (by decide) ?_
    refine g_iload M dL_isAhead_370 rfl ?_
    refine g_if_ge M 379 dL_isAhead_372 (by decide) (fun _ => ?_) (fun h9 => absurd (nI_pos' (by omega)) h9)
    refine g_aload_n M dL_isAhead_379 rfl ?_
    refine g_iload M dL_isAhead_380 rfl ?_
    refine g_bipush M 7 dL_isAhead_382 (by decide) ?_
    refine q_V2i M (l_scn hrm hte (nI a) hok 7 (by omega)) lk_L_26 dL_isAhead_384 (by decide +kernel) ⟨Nat.le_of_ble_eq_true rfl, Nat.le_of_ble_eq_true rfl⟩ ⟨rfl, rfl⟩ nd95 rfl rfl rfl (Nat.le_of_ble_eq_true rfl) ?_
    rw [scn_7]
    have hu0 := unt_0 hd.1 (nI a)
    have hus := unt_spec d (nI a) (rN (sTe d) (sLo d) 5) 0
    generalize untG d (nI a) (rN (sTe d) (sLo d) 5) 0 = u at hu0 hus ⊢
    refine g_istore M dL_isAhead_387 (by decide) ?_
    refine g_iconst M 0 dL_isAhead_389 (by decide) ?_
    refine g_istore M dL_isAhead_390 (by decide) ?_
    have k454 : B 454 [(0, .ref 0), (7, .int 1), (8, .int (nI a)), (9, .int u)] [] (OW d d1 k rm R t) := by
      have k474 : ∀ e : Bool, e = asSc (sTe d) (sTo d) (sLo d) (sHe d) (sScn d) (nI a) 0 → B 474 [(0, .ref 0), (8, .int (nI a))] [.int (b2i e)] (OW d d1 k rm R t) := by
        intro e he
        refine g_aload_n M dL_isAhead_474 rfl ?_
        refine g_iload M dL_isAhead_475 rfl ?_
        refine g_iconst M 5 dL_isAhead_477 (by decide) ?_
        refine q_V2i M (l_scn hrm hte (nI a) hok 5 (by omega)) lk_L_26 dL_isAhead_478 (by decide +kernel) ⟨Nat.le_of_ble_eq_true rfl, Nat.le_of_ble_eq_true rfl⟩ ⟨rfl, rfl⟩ nd95 rfl rfl rfl (Nat.le_of_ble_eq_true rfl) ?_
        rw [scn_5, ← he]
        refine g_iconst M 1 dL_isAhead_481 (by decide) ?_
        cases e with
        | true =>
          refine g_icmp_ne M 489 dL_isAhead_482 (by decide) (fun h9 => absurd rfl h9) (fun _ => ?_)
          refine g_iconst M 1 dL_isAhead_485 (by decide) ?_
          refine g_goto M 490 dL_isAhead_486 (by decide) ?_
          refine g_icmp_ne M 497 dL_isAhead_490 (by decide) (fun h9 => absurd rfl h9) (fun _ => ?_)
          exact g_lvs M _ (lvs_c rfl lvs_n) k493
        | false =>
          refine g_icmp_ne M 489 dL_isAhead_482 (by decide) (fun _ => ?_) (fun h9 => absurd h9 (by decide))
          refine g_iconst M 0 dL_isAhead_489 (by decide) ?_
          refine g_icmp_ne M 497 dL_isAhead_490 (by decide) (fun h9 => absurd rfl h9) (fun _ => ?_)
          exact g_lvs M _ (lvs_c rfl lvs_n) k493
      refine g_iload M dL_isAhead_454 rfl ?_
      refine g_if_eq M 497 dL_isAhead_456 (by decide) (fun h9 => absurd h9 (by decide)) (fun _ => ?_)
      refine g_iload M dL_isAhead_459 rfl ?_
      refine g_if_lt M 493 dL_isAhead_461 (by decide) (fun h9 => absurd h9 (nI_pos (by omega))) (fun _ => ?_)
      refine g_iload M dL_isAhead_464 rfl ?_
      by_cases hz : u = 0
      · refine g_if_ne M 473 dL_isAhead_466 (by decide) (fun h9 => absurd hz h9) (fun _ => ?_)
        refine g_iconst M 1 dL_isAhead_469 (by decide) ?_
        refine g_goto M 474 dL_isAhead_470 (by decide) ?_
        exact g_lvs M _ (lvs_c rfl (lvs_c rfl lvs_n)) (k474 true (hu0.mp hz).symm)
      · refine g_if_ne M 473 dL_isAhead_466 (by decide) (fun _ => ?_) (fun h9 => absurd h9 hz)
        refine g_iconst M 0 dL_isAhead_473 (by decide) ?_
        refine g_lvs M [(0, .ref 0), (8, .int (nI a))] (lvs_c rfl (lvs_c rfl lvs_n)) (k474 false ?_)
        cases hA : asSc (sTe d) (sTo d) (sLo d) (sHe d) (sScn d) (nI a) 0 with
        | false => rfl
        | true => exact absurd (hu0.mpr hA) hz
    rcases hus with h | ⟨j, -, j2, j3, j4⟩
    · subst h
      refine g_iload M dL_isAhead_392 rfl ?_
      refine g_iconst M 5 dL_isAhead_394 (by decide) ?_
      refine g_icmp_ge M 454 dL_isAhead_395 (by decide) (fun h9 => absurd h9 (by decide)) (fun _ => ?_)
      refine g_iload M dL_isAhead_398 rfl ?_
      refine g_if_lt M 454 dL_isAhead_400 (by decide) (fun _ => ?_) (fun h9 => absurd (by decide) h9)
      exact g_lvs M _ (lvs_c rfl (lvs_c rfl (lvs_c rfl (lvs_c rfl lvs_n)))) k454
    · subst j3
      rw [asSc, eqf_iff] at j4
      have loop : ∀ m w : Nat, w + m = 5 → B 392 [(0, .ref 0), (2, .int (nI (rN (sTe d) (sLo d) 5))), (7, .int 1), (8, .int (nI a)), (9, .int (nI j)), (10, .int (nI w))] [] (OW d d1 k rm R t) := by
        intro m
        induction m with
        | zero =>
          intro w hw
          obtain rfl : w = 5 := by omega
          refine g_iload M dL_isAhead_392 rfl ?_
          refine g_iconst M 5 dL_isAhead_394 (by decide) ?_
          refine g_icmp_ge M 454 dL_isAhead_395 (by decide) (fun _ => ?_) (fun h9 => absurd (by decide) h9)
          exact g_lvs M _ (lvs_c rfl (lvs_c rfl (lvs_c rfl (lvs_c rfl lvs_n)))) k454
        | succ m ih =>
          intro w hw
          refine g_iload M dL_isAhead_392 rfl ?_
          refine g_iconst M 5 dL_isAhead_394 (by decide) ?_
          refine g_icmp_ge M 454 dL_isAhead_395 (by decide) (fun h9 => absurd h9 (nI_ge (a := w) (b := 5) (by omega) (by omega))) (fun _ => ?_)
          refine g_iload M dL_isAhead_398 rfl ?_
          refine g_if_lt M 454 dL_isAhead_400 (by decide) (fun h9 => absurd h9 (nI_pos (by omega))) (fun _ => ?_)
          refine g_iload M dL_isAhead_403 rfl ?_
          refine g_sipush M 10000 dL_isAhead_405 (by decide) ?_
          by_cases h4 : j < 10000
          · refine g_icmp_ge M 454 dL_isAhead_408 (by decide) (fun h9 => absurd h9 (nI_ge (a := j) (b := 10000) h4 (by omega))) (fun _ => ?_)
            refine g_iload M dL_isAhead_411 rfl ?_
            refine g_if_eq M 445 dL_isAhead_413 (by decide) (fun h9 => absurd h9 (by decide)) (fun _ => ?_)
            refine g_aload_n M dL_isAhead_416 rfl ?_
            refine g_iload M dL_isAhead_417 rfl ?_
            refine g_iload M dL_isAhead_419 rfl ?_
            refine q_V2i M (l_ahead hrm (nI j) w (by omega) (by rw [nI_toInt (by omega)]; omega)) lk_L_77 dL_isAhead_421 (by decide +kernel) ⟨Nat.le_of_ble_eq_true rfl, Nat.le_of_ble_eq_true rfl⟩ ⟨rfl, rfl⟩ nd95 rfl rfl rfl (Nat.le_of_ble_eq_true rfl) ?_
            refine g_aload_n M dL_isAhead_424 rfl ?_
            refine g_iload M dL_isAhead_425 rfl ?_
            refine g_iload M dL_isAhead_427 rfl ?_
            refine q_V2i M (l_scn hrm hte (nI a) hok w (by omega)) lk_L_26 dL_isAhead_429 (by decide +kernel) ⟨Nat.le_of_ble_eq_true rfl, Nat.le_of_ble_eq_true rfl⟩ ⟨rfl, rfl⟩ nd95 rfl rfl rfl (Nat.le_of_ble_eq_true rfl) ?_
            rw [scn_w (by omega)]
            refine g_icmp_ne M 445 dL_isAhead_432 (by decide) (fun h9 => absurd (j4 w (by omega)) h9) (fun _ => ?_)
            refine g_iload M dL_isAhead_435 rfl ?_
            refine g_iload_n M dL_isAhead_437 rfl ?_
            refine g_icmp_ge M 445 dL_isAhead_438 (by decide) (fun h9 => absurd h9 (nI_ge (by omega) (by omega))) (fun _ => ?_)
            refine g_iconst M 1 dL_isAhead_441 (by decide) ?_
            refine g_goto M 446 dL_isAhead_442 (by decide) ?_
            refine g_istore M dL_isAhead_446 (by decide) ?_
            refine g_iinc1 M dL_isAhead_448 rfl (by decide) ?_
            refine g_goto M 392 dL_isAhead_451 (by decide) ?_
            refine g_lvs M _ (lvs_c rfl (lvs_c rfl (lvs_c rfl (lvs_c rfl (lvs_c rfl (lvs_c rfl lvs_n)))))) (by have h := ih (w + 1) (by omega); rw [nI_succ] at h; exact h)
          · refine g_icmp_ge M 454 dL_isAhead_408 (by decide) (fun _ => ?_) (fun h9 => absurd (nI_le (a := 10000) (b := j) (by omega) (by omega)) h9)
            exact g_lvs M _ (lvs_c rfl (lvs_c rfl (lvs_c rfl (lvs_c rfl lvs_n)))) k454
      exact g_lvs M _ (lvs_c rfl (lvs_c rfl (lvs_c rfl (lvs_c rfl (lvs_c rfl (lvs_c rfl lvs_n)))))) (loop 5 0 (by omega))
/-- the wheels behind a round -/
theorem ah_127 {B : KT} {kF : Nat} {rmF : Nat → Nat} {RF : Nat → SD} {tF : WD} (hrm : ∀ j, rm j < 6) (hd : GP b d) (M : MX d d1 kF rmF RF tF B) (kk : B 200 [(0, .ref 0), (1, .int x), (2, .int (nI (rN (sTe d) (sLo d) 5))), (7, .int 1), (8, .int 0)] [] (OW d d1 k rm R t)) : ∀ m w : Nat, w + m = 5 → B 127 [(0, .ref 0), (1, .int x), (2, .int (nI (rN (sTe d) (sLo d) 5))), (7, .int 1), (8, .int (nI w))] [] (OW d d1 k rm R t) := by
  have hte := hd.1.1.te
  have hO := hd.1.1
  obtain ⟨r1, r2⟩ := rN_le (lo := sLo d) hte
  intro m
  induction m with
  | zero =>
    intro w hw
    obtain rfl : w = 5 := by omega
    refine g_iload M dL_isAhead_127 rfl ?_
    refine g_iconst M 5 dL_isAhead_129 (by decide) ?_
    refine g_icmp_ge M 197 dL_isAhead_130 (by decide) (fun _ => ?_) (fun h9 => absurd (by decide) h9)
    refine g_iconst M 0 dL_isAhead_197 (by decide) ?_
    refine g_istore M dL_isAhead_198 (by decide) ?_
    exact g_lvs M _ (lvs_c rfl (lvs_c rfl (lvs_c rfl (lvs_c rfl (lvs_c rfl lvs_n))))) kk
  | succ m ih =>
    intro w hw
    obtain ⟨T, bb, q1, q2, q3, q4, q5⟩ := hO.1 w (by omega)
    have k184 : B 184 [(0, .ref 0), (1, .int x), (2, .int (nI (rN (sTe d) (sLo d) 5))), (8, .int (nI w))] [] (OW d d1 k rm R t) := by
      refine g_iconst M 1 dL_isAhead_184 (by decide) ?_
      refine g_goto M 189 dL_isAhead_185 (by decide) ?_
      refine g_istore M dL_isAhead_189 (by decide) ?_
      refine g_iinc1 M dL_isAhead_191 rfl (by decide) ?_
      refine g_goto M 127 dL_isAhead_194 (by decide) ?_
      refine g_lvs M _ (lvs_c rfl (lvs_c rfl (lvs_c rfl (lvs_c rfl (lvs_c rfl lvs_n))))) (by have h := ih (w + 1) (by omega); rw [nI_succ] at h; exact h)
    have k162 : B 162 [(0, .ref 0), (1, .int x), (2, .int (nI (rN (sTe d) (sLo d) 5))), (8, .int (nI w))] [] (OW d d1 k rm R t) := by
      refine g_aload_n M dL_isAhead_162 rfl ?_
      refine g_iload M dL_isAhead_163 rfl ?_
      refine g_iconst M 4 dL_isAhead_165 (by decide) ?_
      refine q_V2i M (l_wh4 hrm hte w (by omega)) lk_L_19 dL_isAhead_166 (by decide +kernel) ⟨Nat.le_of_ble_eq_true rfl, Nat.le_of_ble_eq_true rfl⟩ ⟨rfl, rfl⟩ nd95 rfl rfl rfl (Nat.le_of_ble_eq_true rfl) ?_
      cases hl : sLo d w with
      | false =>
        refine g_if_eq M 184 dL_isAhead_169 (by decide) (fun _ => ?_) (fun h9 => absurd rfl h9)
        exact k184
      | true =>
        refine g_if_eq M 184 dL_isAhead_169 (by decide) (fun h9 => absurd h9 (by decide)) (fun _ => ?_)
        refine g_iload_n M dL_isAhead_172 rfl ?_
        refine g_aload_n M dL_isAhead_173 rfl ?_
        refine g_iload M dL_isAhead_174 rfl ?_
        refine g_iconst M 0 dL_isAhead_176 (by decide) ?_
        refine q_V2i M (l_wh0 hrm hte w (by omega)) lk_L_19 dL_isAhead_177 (by decide +kernel) ⟨Nat.le_of_ble_eq_true rfl, Nat.le_of_ble_eq_true rfl⟩ ⟨rfl, rfl⟩ nd95 rfl rfl rfl (Nat.le_of_ble_eq_true rfl) ?_
        rw [q3]
        refine g_irem M dL_isAhead_180 (nI_ne0 (by omega) (by omega)) ?_
        have hdv := te_div (te := sTe d) hl 5 (by omega)
        rw [q3, cl5 T (by omega)] at hdv
        rw [pk_rem (by omega) (by omega) (by omega), Nat.mod_eq_zero_of_dvd hdv]
        refine g_if_ne M 188 dL_isAhead_181 (by decide) (fun h9 => absurd rfl h9) (fun _ => ?_)
        exact k184
    refine g_iload M dL_isAhead_127 rfl ?_
    refine g_iconst M 5 dL_isAhead_129 (by decide) ?_
    refine g_icmp_ge M 197 dL_isAhead_130 (by decide) (fun h9 => absurd h9 (nI_ge (a := w) (b := 5) (by omega) (by omega))) (fun _ => ?_)
    refine g_iload M dL_isAhead_133 rfl ?_
    refine g_if_eq M 188 dL_isAhead_135 (by decide) (fun h9 => absurd h9 (by decide)) (fun _ => ?_)
    refine g_iload_n M dL_isAhead_138 rfl ?_
    refine g_sipush M 9999 dL_isAhead_139 (by decide) ?_
    by_cases hR9 : rN (sTe d) (sLo d) 5 ≤ 9999
    · refine g_icmp_gt M 162 dL_isAhead_142 (by decide) (fun h9 => absurd h9 (fun z => by rw [ltIc (n := 9999) rfl, nI_toInt (by omega)] at z; omega)) (fun _ => ?_)
      refine g_aload_n M dL_isAhead_145 rfl ?_
      refine g_iload_n M dL_isAhead_146 rfl ?_
      refine g_iload M dL_isAhead_147 rfl ?_
      refine q_V2i M (l_ahead hrm (nI (rN (sTe d) (sLo d) 5)) w (by omega) (by rw [nI_toInt (by omega)]; omega)) lk_L_77 dL_isAhead_149 (by decide +kernel) ⟨Nat.le_of_ble_eq_true rfl, Nat.le_of_ble_eq_true rfl⟩ ⟨rfl, rfl⟩ nd95 rfl rfl rfl (Nat.le_of_ble_eq_true rfl) ?_
      refine g_aload_n M dL_isAhead_152 rfl ?_
      refine g_iconst M 0 dL_isAhead_153 (by decide) ?_
      refine g_iload M dL_isAhead_154 rfl ?_
      refine q_V2i M (l_ahead hrm 0 w (by omega) (by decide)) lk_L_77 dL_isAhead_156 (by decide +kernel) ⟨Nat.le_of_ble_eq_true rfl, Nat.le_of_ble_eq_true rfl⟩ ⟨rfl, rfl⟩ nd95 rfl rfl rfl (Nat.le_of_ble_eq_true rfl) ?_
      refine g_icmp_ne M 188 dL_isAhead_159 (by decide) (fun h9 => absurd (hB_cong hO (by omega) (by rw [nI_toInt (by omega)]; omega) (by rw [nI_toInt (by omega)]; omega) (by decide) (by decide) ⟨1, by rw [nI_toInt (by omega), show (0 : Int32).toInt = 0 from rfl]; omega⟩) h9) (fun _ => ?_)
      exact g_lvs M _ (lvs_c rfl (lvs_c rfl (lvs_c rfl (lvs_c rfl lvs_n)))) k162
    · refine g_icmp_gt M 162 dL_isAhead_142 (by decide) (fun _ => ?_) (fun h9 => absurd (by rw [ltIc (n := 9999) rfl, nI_toInt (by omega)]; omega) h9)
      exact g_lvs M _ (lvs_c rfl (lvs_c rfl (lvs_c rfl (lvs_c rfl lvs_n)))) k162
theorem c_ahead2 (hH : Hs b k rm R) (hd : GP b d) : ∃ (k' : Nat) (rm' : Nat → Nat) (R' : Nat → SD) (t' : WD), Hs b k' rm' R' ∧ QC 95 yL_isAhead cL_isAhead 11 (some .boolean) (rmn 7 0 0 174) [.ref 0, .int x] (OW d d1 k rm R t) (some (.int 1)) (OW d d1 k' rm' R' t') := by
  have hte := hd.1.1.te
  have hrm := hH.1
  obtain ⟨r1, r2⟩ := rN_le (lo := sLo d) hte
  obtain ⟨t2, ht2⟩ : ∃ t2, itW d (rN (sTe d) (sLo d) 5) = t2 := ⟨_, rfl⟩
  obtain ⟨k3, rm3, R3, t3, g3, s3⟩ := ah_b (d1 := d1) (t := t2) (x := x) (y := 1) (bk := 0) (Or.inl ⟨rfl, rfl⟩) hH hd
  obtain ⟨k4, rm4, R4, t4, g4, s4⟩ := ah_b (d1 := d1) (t := t3) (x := x) (y := -1) (bk := 1) (Or.inr ⟨rfl, rfl⟩) g3 hd
  refine ⟨k4, rm4, R4, t4, g4, QC.of (own := RL) (by decide) rfl (Nat.le_of_ble_eq_true rfl) rfl ow_len (ow_cl hrm) (ow_cl g4.1) (fun B M => ?_)⟩
  have hr0 := l_round0 (d0 := d) (d1 := d1) (k := k) (R := R) (t := t) hrm hd.1.1.1
  rw [ht2] at hr0
  obtain ⟨v1, v2, v3, v4⟩ := share_cmp hd.1
  have J0 := jam_all hd.1 (y := 1) (Or.inl rfl)
  have J1 := jam_all hd.1 (y := -1) (Or.inr rfl)
  have hsh := l_share (d1 := d1) (k := k) (R := R) (t := t2) hrm hte v1
  have k200c : B 200 [(0, .ref 0), (1, .int x), (2, .int (nI (rN (sTe d) (sLo d) 5))), (7, .int 1), (8, .int 2)] [] (OW d d1 k4 rm4 R4 t4) := by
    refine g_iload M dL_isAhead_200 rfl ?_
    refine g_iconst M 2 dL_isAhead_202 (by decide) ?_
    refine g_icmp_ge M 345 dL_isAhead_203 (by decide) (fun _ => ?_) (fun h9 => absurd (by decide) h9)
    exact g_lvs M _ (lvs_c rfl (lvs_c rfl (lvs_c rfl (lvs_c rfl lvs_n)))) (ah_345 g4.1 hd M)
  have k200b : B 200 [(0, .ref 0), (1, .int x), (2, .int (nI (rN (sTe d) (sLo d) 5))), (7, .int 1), (8, .int 1)] [] (OW d d1 k3 rm3 R3 t3) := by
    refine g_iload M dL_isAhead_200 rfl ?_
    refine g_iconst M 2 dL_isAhead_202 (by decide) ?_
    refine g_icmp_ge M 345 dL_isAhead_203 (by decide) (fun h9 => absurd h9 (by decide)) (fun _ => ?_)
    refine s4 _ _ _ _ _ B M ?_
    refine g_iinc1 M dL_isAhead_339 rfl (by decide) ?_
    refine g_goto M 200 dL_isAhead_342 (by decide) ?_
    exact g_lvs M _ (lvs_c rfl (lvs_c rfl (lvs_c rfl (lvs_c rfl (lvs_c rfl lvs_n))))) k200c
  have k200a : B 200 [(0, .ref 0), (1, .int x), (2, .int (nI (rN (sTe d) (sLo d) 5))), (7, .int 1), (8, .int 0)] [] (OW d d1 k rm R t2) := by
    refine g_iload M dL_isAhead_200 rfl ?_
    refine g_iconst M 2 dL_isAhead_202 (by decide) ?_
    refine g_icmp_ge M 345 dL_isAhead_203 (by decide) (fun h9 => absurd h9 (by decide)) (fun _ => ?_)
    refine s3 _ _ _ _ _ B M ?_
    refine g_iinc1 M dL_isAhead_339 rfl (by decide) ?_
    refine g_goto M 200 dL_isAhead_342 (by decide) ?_
    exact g_lvs M _ (lvs_c rfl (lvs_c rfl (lvs_c rfl (lvs_c rfl (lvs_c rfl lvs_n))))) k200b
  have hj0 := l_jam0 (d1 := d1) (k := k) (R := R) (t := t2) hrm hte
  have hj1 := l_jam1 (d1 := d1) (k := k) (R := R) (t := t2) hrm hte
  generalize shD d = v at v2 v3 v4 hsh
  generalize jamG d 1 (rN (sTe d) (sLo d) 5) 1 = j0 at J0 hj0
  generalize jamG d (-1) (rN (sTe d) (sLo d) 5) 1 = j1 at J1 hj1
  have k117 : B 117 [(0, .ref 0), (1, .int x), (2, .int (nI (rN (sTe d) (sLo d) 5)))] [] (OW d d1 k rm R t2) := by
    refine g_iconst M 1 dL_isAhead_117 (by decide) ?_
    refine g_goto M 122 dL_isAhead_118 (by decide) ?_
    refine g_istore M dL_isAhead_122 (by decide) ?_
    refine g_iconst M 0 dL_isAhead_124 (by decide) ?_
    refine g_istore M dL_isAhead_125 (by decide) ?_
    exact g_lvs M _ (lvs_c rfl (lvs_c rfl (lvs_c rfl (lvs_c rfl (lvs_c rfl lvs_n))))) (ah_127 hrm hd M k200a 5 0 (by omega))
  have k92 : ∀ a c : Int32, ¬ nI (rN (sTe d) (sLo d) 5) ≤ a → ¬ nI (rN (sTe d) (sLo d) 5) ≤ c → ¬ 0 < Op.cmpValue (FP.dcmp v FP.dconst1) .g → B 92 [(0, .ref 0), (1, .int x), (2, .int (nI (rN (sTe d) (sLo d) 5))), (3, .int a), (4, .int c), (5, .double v)] [] (OW d d1 k rm R t2) := by
    intro a c ha hc h1
    refine g_iload_n M dL_isAhead_92 rfl ?_
    refine g_iload_n M dL_isAhead_93 rfl ?_
    refine g_icmp_ge M 121 dL_isAhead_94 (by decide) (fun h9 => absurd h9 ha) (fun _ => ?_)
    refine g_iload M dL_isAhead_97 rfl ?_
    refine g_iload_n M dL_isAhead_99 rfl ?_
    refine g_icmp_ge M 121 dL_isAhead_100 (by decide) (fun h9 => absurd h9 hc) (fun _ => ?_)
    refine g_dload M dL_isAhead_103 rfl ?_
    refine g_dconst0 M dL_isAhead_105 ?_
    refine g_dcmp M dL_isAhead_106 ?_
    refine g_if_le M 121 dL_isAhead_107 (by decide) (fun h9 => absurd h9 (by rw [v2]; decide)) (fun _ => ?_)
    refine g_dload M dL_isAhead_110 rfl ?_
    refine g_dconst1 M dL_isAhead_112 ?_
    refine g_dcmp M dL_isAhead_113 ?_
    refine g_if_gt M 121 dL_isAhead_114 (by decide) (fun h9 => absurd h9 h1) (fun _ => ?_)
    exact g_lvs M _ (lvs_c rfl (lvs_c rfl (lvs_c rfl lvs_n))) k117
  refine g_aload_n M dL_isAhead_0 rfl ?_
  refine g_iconst M 0 dL_isAhead_1 (by decide) ?_
  refine q_V1i M hr0 lk_L_85 dL_isAhead_2 (by decide +kernel) ⟨Nat.le_of_ble_eq_true rfl, Nat.le_of_ble_eq_true rfl⟩ ⟨rfl, rfl⟩ nd95 rfl rfl rfl (Nat.le_of_ble_eq_true rfl) ?_
  refine g_istore_n M dL_isAhead_5 (by decide) ?_
  refine g_aload_n M dL_isAhead_6 rfl ?_
  refine g_iconst M 0 dL_isAhead_7 (by decide) ?_
  refine q_V1i M hj0 lk_L_88 dL_isAhead_8 (by decide +kernel) ⟨Nat.le_of_ble_eq_true rfl, Nat.le_of_ble_eq_true rfl⟩ ⟨rfl, rfl⟩ nd95 rfl rfl rfl (Nat.le_of_ble_eq_true rfl) ?_
  refine g_istore_n M dL_isAhead_11 (by decide) ?_
  refine g_aload_n M dL_isAhead_12 rfl ?_
  refine g_iconst M 1 dL_isAhead_13 (by decide) ?_
  refine q_V1i M hj1 lk_L_88 dL_isAhead_14 (by decide +kernel) ⟨Nat.le_of_ble_eq_true rfl, Nat.le_of_ble_eq_true rfl⟩ ⟨rfl, rfl⟩ nd95 rfl rfl rfl (Nat.le_of_ble_eq_true rfl) ?_
  refine g_istore M dL_isAhead_17 (by decide) ?_
  refine g_aload_n M dL_isAhead_19 rfl ?_
  refine q_V0d M hsh lk_L_91 dL_isAhead_20 (by decide +kernel) ⟨Nat.le_of_ble_eq_true rfl, Nat.le_of_ble_eq_true rfl⟩ ⟨rfl, rfl⟩ nd95 rfl rfl rfl (Nat.le_of_ble_eq_true rfl) ?_
  refine g_dstore M dL_isAhead_23 (by decide) ?_
  refine g_iload_n M dL_isAhead_25 rfl ?_
  refine g_aload_n M dL_isAhead_26 rfl ?_
  refine g_iconst M 1 dL_isAhead_27 (by decide) ?_
  refine q_V1i M (l_round1 hrm hte) lk_L_85 dL_isAhead_28 (by decide +kernel) ⟨Nat.le_of_ble_eq_true rfl, Nat.le_of_ble_eq_true rfl⟩ ⟨rfl, rfl⟩ nd95 rfl rfl rfl (Nat.le_of_ble_eq_true rfl) ?_
  refine g_icmp_ne M 121 dL_isAhead_31 (by decide) (fun h9 => absurd rfl h9) (fun _ => ?_)
  refine g_iload_n M dL_isAhead_34 rfl ?_
  refine g_iconst M 1 dL_isAhead_35 (by decide) ?_
  refine g_icmp_lt M 121 dL_isAhead_36 (by decide) (fun h9 => absurd h9 (fun z => by rw [ltIc2 (n := 1) rfl, nI_toInt (by omega)] at z; omega)) (fun _ => ?_)
  refine g_iload_n M dL_isAhead_39 rfl ?_
  refine g_sipush M 27720 dL_isAhead_40 (by decide) ?_
  refine g_icmp_gt M 121 dL_isAhead_43 (by decide) (fun h9 => absurd h9 (fun z => by rw [ltIc (n := 27720) rfl, nI_toInt (by omega)] at z; omega)) (fun _ => ?_)
  rcases J0 with ⟨rfl, hA⟩ | ⟨a, ha, rfl, hA⟩
  · rcases J1 with ⟨rfl, -⟩ | ⟨c, -, -, hA2⟩
    · have hm : ¬ nI (rN (sTe d) (sLo d) 5) ≤ -1 := fun z => by rw [leIc2 (n := -1) rfl, nI_toInt (by omega)] at z; omega
      refine g_iload_n M dL_isAhead_46 rfl ?_
      refine g_if_ge M 54 dL_isAhead_47 (by decide) (fun h9 => absurd h9 (by decide)) (fun _ => ?_)
      refine g_iconst M 1 dL_isAhead_50 (by decide) ?_
      refine g_goto M 55 dL_isAhead_51 (by decide) ?_
      refine g_iload M dL_isAhead_55 rfl ?_
      refine g_if_ge M 64 dL_isAhead_57 (by decide) (fun h9 => absurd h9 (by decide)) (fun _ => ?_)
      refine g_iconst M 1 dL_isAhead_60 (by decide) ?_
      refine g_goto M 65 dL_isAhead_61 (by decide) ?_
      refine g_icmp_ne M 121 dL_isAhead_65 (by decide) (fun h9 => absurd rfl h9) (fun _ => ?_)
      refine g_iload_n M dL_isAhead_68 rfl ?_
      refine g_if_ge M 76 dL_isAhead_69 (by decide) (fun h9 => absurd h9 (by decide)) (fun _ => ?_)
      refine g_iconst M 1 dL_isAhead_72 (by decide) ?_
      refine g_goto M 77 dL_isAhead_73 (by decide) ?_
      refine g_dload M dL_isAhead_77 rfl ?_
      refine g_dconst1 M dL_isAhead_79 ?_
      refine g_dcmp M dL_isAhead_80 ?_
      refine g_if_ne M 88 dL_isAhead_81 (by decide) (fun h9 => absurd (by rw [v3 hA]; rfl) h9) (fun _ => ?_)
      refine g_iconst M 1 dL_isAhead_84 (by decide) ?_
      refine g_goto M 89 dL_isAhead_85 (by decide) ?_
      refine g_icmp_ne M 121 dL_isAhead_89 (by decide) (fun h9 => absurd rfl h9) (fun _ => ?_)
      exact g_lvs M _ (lvs_c rfl (lvs_c rfl (lvs_c rfl (lvs_c rfl (lvs_c rfl (lvs_c rfl lvs_n)))))) (k92 _ _ hm hm (by rw [v3 hA]; decide))
    · exact absurd hA hA2
  · rcases J1 with ⟨-, hA2⟩ | ⟨c, hc, rfl, -⟩
    · exact absurd hA2 hA
    · refine g_iload_n M dL_isAhead_46 rfl ?_
      refine g_if_ge M 54 dL_isAhead_47 (by decide) (fun _ => ?_) (fun h9 => absurd (nI_pos' (by omega)) h9)
      refine g_iconst M 0 dL_isAhead_54 (by decide) ?_
      refine g_iload M dL_isAhead_55 rfl ?_
      refine g_if_ge M 64 dL_isAhead_57 (by decide) (fun _ => ?_) (fun h9 => absurd (nI_pos' (by omega)) h9)
      refine g_iconst M 0 dL_isAhead_64 (by decide) ?_
      refine g_icmp_ne M 121 dL_isAhead_65 (by decide) (fun h9 => absurd rfl h9) (fun _ => ?_)
      refine g_iload_n M dL_isAhead_68 rfl ?_
      refine g_if_ge M 76 dL_isAhead_69 (by decide) (fun _ => ?_) (fun h9 => absurd (nI_pos' (by omega)) h9)
      refine g_iconst M 0 dL_isAhead_76 (by decide) ?_
      refine g_dload M dL_isAhead_77 rfl ?_
      refine g_dconst1 M dL_isAhead_79 ?_
      refine g_dcmp M dL_isAhead_80 ?_
      refine g_if_ne M 88 dL_isAhead_81 (by decide) (fun _ => ?_) (fun h9 => absurd h9 (by rw [v4 hA]; decide))
      refine g_iconst M 0 dL_isAhead_88 (by decide) ?_
      refine g_icmp_ne M 121 dL_isAhead_89 (by decide) (fun h9 => absurd rfl h9) (fun _ => ?_)
      exact g_lvs M _ (lvs_c rfl (lvs_c rfl (lvs_c rfl (lvs_c rfl (lvs_c rfl (lvs_c rfl lvs_n)))))) (k92 _ _ (nI_ge ha (by omega)) (nI_ge hc (by omega)) (by rw [v4 hA]; decide))
end


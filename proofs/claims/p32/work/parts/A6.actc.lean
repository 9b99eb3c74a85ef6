/-! act: what it answers, and the state behind it, whatever is saved -/
def ActOk (b : Nat) (d d1 : SD) (x y : Int32) : Prop := ∃ (v : Int32) (d' : SD), 0 ≤ v.toInt ∧ GP (b + 60) d' ∧ ∀ (k : Nat) (rm : Nat → Nat) (R : Nat → SD) (t : WD), (∀ j, rm j < 6) → k ≤ 6 → ∃ t', QA d d1 d' k rm R t t' x y v
section
variable {b : Nat} {d d1 : SD} {x y : Int32}
theorem ac_0 (hd : GP b d) (e : upG x 20 = 0) : ActOk b d d1 x y :=
  ⟨_, liD d true, b2i_ge _, GP.more ⟨GOk_li hd.1 true, hd.2⟩ (by omega), fun k rm R t hrm hk => ⟨t, act_go hrm 100 (by rw [e]; rfl) (fun B M => a_100 hrm hk M)⟩⟩
theorem ac_1 (hd : GP b d) (e : upG x 20 = 1) : ActOk b d d1 x y := by
  have st : ∀ j, j < 60 → (y &&& 3 = 0 → md (sCr d) 60 = nI j) → (¬ y &&& 3 = 0 → j = upG (y >>> (2 &&& 31)) 60) → ActOk b d d1 x y := fun j hj h0 h1 => by
    obtain ⟨m, hm, hm2⟩ := sb_rng (fun i => va_up (sSt d) j (!(sSt d) j) i) 60
    exact ⟨_, stD d j, by rw [hm2]; exact nI_ge0 (by omega), GP.more ⟨GOk_st hd.1 j, hd.2⟩ (by omega), fun k rm R t hrm hk => ⟨t, act_go hrm 105 (by rw [e]; rfl) (fun B M => a_105 hrm hk j hj h0 h1 M)⟩⟩
  by_cases h : y &&& 3 = 0
  · obtain ⟨j, hj, hj2⟩ := vp_in_of (md_in (v := sCr d) (d := 60) (n := 60) rfl (by decide)) (by decide)
    exact st j hj (fun _ => hj2) (fun z => absurd h z)
  · exact st _ (upG_lt (by decide)) (fun z => absurd z h) (fun _ => rfl)
theorem ac_2 (hd : GP b d) (e : actT (upG x 20) = 132) : ActOk b d d1 x y :=
  ⟨_, kD d (aW y), b2i_ge _, GP.more ⟨GOk_k hd.1 _, hd.2⟩ (by omega), fun k rm R t hrm hk => ⟨t, act_go hrm 132 e (fun B M => a_132 hrm hk M)⟩⟩
theorem ac_4 (hd : GP b d) (hb : b + 60 ≤ 2 ^ 29) (e : upG x 20 = 4) : ActOk b d d1 x y := by
  have hw : aW y < 5 := upG_lt (by decide)
  have hO := hd.1.1
  obtain ⟨m, bb, hm2, hm, hte, hbm, hto⟩ := hO.1 (aW y) hw
  have hT : aT y ≤ 11 := aT_le y
  have hT1 := aT_ge y
  by_cases hL : sLo d (aW y) = true ∨ goodG d (nI (aW y)) (hAt (sHe d) (nI (aW y)) (nI ((bb + aT y) % m))) (sSe d) = false
  · refine ⟨_, liD d true, b2i_ge _, GP.more ⟨GOk_li hd.1 true, hd.2⟩ (by omega), fun k rm R t hrm hk => ⟨t, act_go hrm 138 (by rw [e]; rfl) (fun B M => a_138 (hO := hO) hrm hm2 hm hte hbm hto M (fun _ _ _ _ M2 => a_196 hrm hk M2) (fun h1 h2 => ?_))⟩⟩
    rcases hL with h | h
    · rw [h1] at h; cases h
    · rw [h2] at h; cases h
  · have hlo : sLo d (aW y) = false := by
      cases h : sLo d (aW y) with
      | false => rfl
      | true => exact absurd (Or.inl h) hL
    have hg : goodG d (nI (aW y)) (hAt (sHe d) (nI (aW y)) (nI ((bb + aT y) % m))) (sSe d) = true := by
      cases h : goodG d (nI (aW y)) (hAt (sHe d) (nI (aW y)) (nI ((bb + aT y) % m))) (sSe d) with
      | true => rfl
      | false => exact absurd (Or.inr h) hL
    have hf := hand_fl hO hw hT hm2 hm hte hbm hto hg
    refine ⟨_, haD d (aW y) (nI (aT y)), ?_, GP.more ⟨GOk_hand (by omega) hd.1 hw (y := nI (aT y)) (by rw [nI_toInt (by omega)]; omega) (by rw [nI_toInt (by omega)]; omega) (al_iff.mpr hf), hd.2⟩ (by omega), fun k rm R t hrm hk => ⟨haW d (aW y) (nI (aT y)), act_go hrm 138 (by rw [e]; rfl) (fun B M => a_138 (hO := hO) hrm hm2 hm hte hbm hto M (fun h => absurd h hL) (fun _ _ _ _ _ M2 => a_186 hrm hk hw (by omega) hT hlo hf M2))⟩⟩
    rw [toH, upd_eq, hto, hte, nI_add, md_nat _ _ (by omega) (by omega) (by omega)]
    have := Nat.mod_lt (bb + aT y) (show 0 < m by omega)
    exact nI_ge0 (by omega)
theorem ac_5 (hd : GP b d) (e : actT (upG x 20) = 201) : ActOk b d d1 x y := by
  have hw : aW y < 5 := upG_lt (by decide)
  have hO := hd.1.1
  obtain ⟨m, bb, hm2, hm, hte, hbm, hto⟩ := hO.1 (aW y) hw
  have hH : aH y < 10 := upG_lt (by decide)
  have htt := upG_lt (v := y >>> (3 &&& 31)) (n := m) (by omega)
  by_cases hF : upG (y >>> (3 &&& 31)) m ≠ bb ∨ goodG d (nI (aW y)) (nI (aH y)) (sSe d) = true
  · have hf := file_fl hO hd.1.2.2.1 hw hm hte hbm hto htt hF
    obtain ⟨q, hq, hq2⟩ := hAt_rng hd.1.2.2.2.1 (nI (aW y)) (nI (upG (y >>> (3 &&& 31)) m))
    refine ⟨_, fiD d (aW y) (upG (y >>> (3 &&& 31)) m) (nI (aH y)), ?_, GP.more ⟨GOk_file hd.1 hw (by omega) (by omega) (al_iff.mpr hf), hd.2⟩ (by omega), fun k rm R t hrm hk => ⟨fiW d (aW y) (upG (y >>> (3 &&& 31)) m) (nI (aH y)), act_go hrm 201 e (fun B M => a_201 (hO := hO) hrm hm2 hm hte hbm hto M (fun _ _ _ _ M2 => a_242 hrm hk (by omega) ?_ hf M2) (fun h1 h2 => ?_))⟩⟩
    · rw [hq2]; exact nI_ge0 (by omega)
    · rw [isTth, Bool.and_eq_true, cl5 (aW y) (by omega), hte, iswh, decide_eq_true_iff, decide_eq_true_iff, nI_toInt (by omega), nI_toInt (by omega), nI_ltI (by omega) (by omega)]; omega
    · rcases hF with h | h
      · exact absurd h1 h
      · rw [h2] at h; cases h
  · exact ⟨_, kD d (aW y), b2i_ge _, GP.more ⟨GOk_k hd.1 _, hd.2⟩ (by omega), fun k rm R t hrm hk => ⟨t, act_go hrm 201 e (fun B M => a_201 (hO := hO) hrm hm2 hm hte hbm hto M (fun h => absurd h hF) (fun _ _ _ _ _ M2 => a_254 hrm hk hw M2))⟩⟩
theorem ac_9 (hd : GP b d) (e : upG x 20 = 9) : ActOk b d d1 x y := by
  have hw : aW y < 5 := upG_lt (by decide)
  have hT := aT_le y
  have hT1 := aT_ge y
  obtain ⟨m, bb, hm2, hm, hte, hbm, hto⟩ := hd.1.1.1 (aW y) hw
  exact ⟨_, chD d (aW y) (1 + aT y), by rw [hte]; exact nI_ge0 (by omega), GP.more ⟨GOk_ch hd.1 hw (by omega) (by omega), hd.2⟩ (by omega), fun k rm R t hrm hk => ⟨t, act_go hrm 260 (by rw [e]; rfl) (fun B M => a_260 hrm hk M)⟩⟩
theorem ac_10 (hd : GP b d) (e : upG x 20 = 10) : ActOk b d d1 x y := by
  have hH : aH y < 10 := upG_lt (by decide)
  cases hg : goodG d (-1) 0 (nI (aH y)) with
  | true =>
    have hf := set_fl hg
    obtain ⟨q, hq, hq2⟩ := hd.1.2.2.2.2.1
    exact ⟨_, seD d (nI (aH y)), by rw [hq2]; exact nI_ge0 (by omega), GP.more ⟨GOk_set hd.1 (by omega) (al_iff.mpr hf), hd.2⟩ (by omega), fun k rm R t hrm hk => ⟨t, act_go hrm 270 (by rw [e]; rfl) (fun B M => a_270 (hO := hd.1.1) hrm M (fun _ _ _ _ M2 => a_281 hrm hk (by omega) hf M2) (fun h => by rw [hg] at h; cases h))⟩⟩
  | false =>
    exact ⟨_, liD d true, b2i_ge _, GP.more ⟨GOk_li hd.1 true, hd.2⟩ (by omega), fun k rm R t hrm hk => ⟨t, act_go hrm 270 (by rw [e]; rfl) (fun B M => a_270 (hO := hd.1.1) hrm M (fun h => by rw [hg] at h; cases h) (fun _ _ _ _ M2 => a_290 hrm hk M2))⟩⟩
theorem ac_11 (hd : GP b d) (e : upG x 20 = 11) : ActOk b d d1 x y := by
  obtain ⟨c, hc, hsc⟩ := hd.1.1.2
  by_cases h6 : c < 6
  · exact ⟨_, reD d c, by rw [hsc]; exact nI_ge0 (by omega), GP.more ⟨GOk_re hd.1 h6 hsc, hd.2⟩ (by omega), fun k rm R t hrm hk => ⟨t, act_go hrm 295 (by rw [e]; rfl) (fun B M => a_295r hrm hk h6 hsc M)⟩⟩
  · obtain rfl : c = 6 := by omega
    exact ⟨_, foD d (upG y 6) 6, nI_ge0 (by omega), GP.more ⟨GOk_fo (c := 5) hd.1 (by omega) hsc, hd.2⟩ (by omega), fun k rm R t hrm hk => ⟨t, act_go hrm 295 (by rw [e]; rfl) (fun B M => a_295f hrm hk hsc M)⟩⟩
theorem ac_12 (hd : GP b d) (h1 : GP b d1) (e : upG x 20 = 12) : ActOk b d d1 x y := by
  obtain ⟨c, hc, hsc⟩ := hd.1.1.2
  obtain ⟨c1, hc1, hsc1⟩ := h1.1.1.2
  by_cases h3 : y &&& 3 = 0
  · exact ⟨_, d1, by rw [hsc1]; exact nI_ge0 (by omega), h1.more (by omega), fun k rm R t hrm hk => ⟨t, act_go hrm 324 (by rw [e]; rfl) (fun B M => a_324g hrm hk h3 M)⟩⟩
  · rcases c with _ | c
    · exact ⟨_, reD d 0, by rw [hsc]; exact nI_ge0 (by omega), GP.more ⟨GOk_re hd.1 (by omega) hsc, hd.2⟩ (by omega), fun k rm R t hrm hk => ⟨t, act_go hrm 324 (by rw [e]; rfl) (fun B M => a_324r hrm hk h3 hsc M)⟩⟩
    · exact ⟨_, foD d (upG y (c + 1)) (c + 1), nI_ge0 (by omega), GP.more ⟨GOk_fo (c := c) hd.1 (by omega) hsc, hd.2⟩ (by omega), fun k rm R t hrm hk => ⟨t, act_go hrm 324 (by rw [e]; rfl) (fun B M => a_324f hrm hk h3 (by omega) hsc M)⟩⟩
theorem aD_pm (y : Int32) : aD y = 1 ∨ aD y = -1 := by
  unfold aD
  split
  · exact Or.inr rfl
  · exact Or.inl rfl
theorem ac_13 (hd : GP b d) (hb : b + 60 ≤ 2 ^ 29) (e : actT (upG x 20) = 368) : ActOk b d d1 x y := by
  obtain ⟨s1, s2⟩ := aS_rng y
  have hle := tuG_le (aD y) (aS y) d
  exact ⟨_, (tuG (aD y) (aS y) d).2, nI_ge0 (by omega), (GP_tu (aD_pm y) (aS y) b d (by omega) hd).more (by omega), fun k rm R t hrm hk => ⟨t, act_go hrm 368 e (fun B M => a_368 hrm hk M)⟩⟩
theorem c_act (hd : GP b d) (h1 : GP b d1) (hb : b + 60 ≤ 2 ^ 29) : ActOk b d d1 x y := by
  have hlt : upG x 20 < 20 := upG_lt (by decide)
  obtain ⟨n, hn⟩ : ∃ n, upG x 20 = n := ⟨_, rfl⟩
  rw [hn] at hlt
  rcases (by omega : n = 0 ∨ n = 1 ∨ (n = 2 ∨ n = 3) ∨ n = 4 ∨ (n = 5 ∨ n = 6 ∨ n = 7 ∨ n = 8) ∨ n = 9 ∨ n = 10 ∨ n = 11 ∨ n = 12 ∨ 13 ≤ n) with rfl | rfl | h | rfl | h | rfl | rfl | rfl | rfl | h
  · exact ac_0 hd hn
  · exact ac_1 hd hn
  · exact ac_2 hd (by rw [hn]; rcases h with rfl | rfl <;> rfl)
  · exact ac_4 hd hb hn
  · exact ac_5 hd (by rw [hn]; rcases h with rfl | rfl | rfl | rfl <;> rfl)
  · exact ac_9 hd hn
  · exact ac_10 hd hn
  · exact ac_11 hd hn
  · exact ac_12 hd h1 hn
  · refine ac_13 hd hb ?_
    rw [hn]
    obtain ⟨q, rfl⟩ : ∃ q, n = q + 13 := ⟨n - 13, by omega⟩
    rfl
end


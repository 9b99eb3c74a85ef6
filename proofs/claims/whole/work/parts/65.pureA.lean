theorem Rp_hand {s : Nat → Int32} {d : SD} (hO : SOk d) (hR : Rp s d) (w : Nat) (hw : w < 5) (y : Int32) : Rp (upd s (5 + w) (md (sTo d w + y) (sTe d w))) (haD d w y) := by
  obtain ⟨r1, r2, r3, r4, r5, r6, r7, r8, r9, r10, r11, r12, r13⟩ := hR
  obtain ⟨c9, hc9, hc2⟩ := hO.2
  refine ⟨fun j h5 => ?_, fun j h5 => ?_, fun j h5 => ?_, fun j h5 i hk => ?_, ?_, ?_, ?_, ?_, ?_, ?_, ?_, fun i hk => ?_, fun i hk => ?_⟩
  · rw [upd_ne (by omega)]; exact r1 j h5
  · show _ = upd (sTo d) w (md (sTo d w + y) (sTe d w)) j
    by_cases e : j = w
    · subst e; rw [upd_eq, upd_eq]
    · rw [upd_ne (by omega), upd_ne e]; exact r2 j h5
  · rw [upd_ne (by omega)]; exact r3 j h5
  · obtain ⟨m9, b9, h1, h2, h3, -⟩ := hO.1 j h5
    have hk2 : i < (sTe d j).toNatClampNeg := hk
    rw [h3, cl5 m9 (by omega)] at hk2
    rw [upd_ne (by omega)]; exact r4 j h5 i hk
  · rw [upd_ne (by omega)]; exact r5
  · rw [upd_ne (by omega)]; exact r6
  · rw [upd_ne (by omega)]; exact r7
  · rw [upd_ne (by omega)]; exact r8
  · rw [upd_ne (by omega)]; exact r9
  · rw [upd_ne (by omega)]; exact r10
  · rw [upd_ne (by omega)]; exact r11
  · have hk2 : i < 5 * (sSc d).toNatClampNeg := hk
    rw [hc2, cl5 c9 (by omega)] at hk2
    rw [upd_ne (by omega)]; exact r12 i hk
  · rw [upd_ne (by omega)]; exact r13 i hk
theorem ix12 (w t : Nat) : nI w * 12 + nI t = nI (12 * w + t) := by rw [show (12 : Int32) = nI 12 from rfl, pk_mul, nI_add]; congr 1; omega
theorem putH_at (he : Nat → Int32) (w t : Nat) (h : Int32) (hw : w < 5) (ht : t < 12) : putH he (nI w) (nI t) h = upd he (12 * w + t) h := by
  have h0 : ¬ nI (12 * w + t) < 0 := nI_pos (by omega)
  have h1 : ¬ 60 ≤ nI (12 * w + t) := nI_geF (n := 60) rfl (by omega) (by omega)
  rw [putH, ix12, if_neg h0, if_neg h1, cl5 _ (by omega)]
theorem putN_at (he : Nat → Int32) (w : Nat) (h : Int32) (hw : w < 5) : ∀ m : Nat, m ≤ 12 → putN he (nI w) h m = fun i => if 12 * w ≤ i ∧ i < 12 * w + m then h else he i
  | 0, _ => by funext i; rw [putN, if_neg (by omega)]
  | m + 1, hm => by
    rw [putN, putN_at he w h hw m (by omega), putH_at _ w m h hw (by omega)]
    funext i
    by_cases e : i = 12 * w + m
    · subst e; rw [upd_eq, if_pos (by omega)]
    · rw [upd_ne e]
      by_cases e2 : 12 * w ≤ i ∧ i < 12 * w + m
      · rw [if_pos e2, if_pos (by omega)]
      · rw [if_neg e2, if_neg (by omega)]
theorem Rp_file {s : Nat → Int32} {d : SD} (hO : SOk d) (hR : Rp s d) (w t : Nat) (hw : w < 5) (ht : t < 12) (y : Int32) : Rp (upd s (15 + 12 * w + t) y) (fiD d w t y) := by
  obtain ⟨r1, r2, r3, r4, r5, r6, r7, r8, r9, r10, r11, r12, r13⟩ := hR
  obtain ⟨c9, hc9, hc2⟩ := hO.2
  refine ⟨fun j h5 => ?_, fun j h5 => ?_, fun j h5 => ?_, fun j h5 i hk => ?_, ?_, ?_, ?_, ?_, ?_, ?_, ?_, fun i hk => ?_, fun i hk => ?_⟩
  · rw [upd_ne (by omega)]; exact r1 j h5
  · rw [upd_ne (by omega)]; exact r2 j h5
  · rw [upd_ne (by omega)]; exact r3 j h5
  · obtain ⟨m9, b9, h1, h2, h3, -⟩ := hO.1 j h5
    have hk2 : i < (sTe d j).toNatClampNeg := hk
    rw [h3, cl5 m9 (by omega)] at hk2
    show _ = putH (sHe d) (nI w) (nI t) y (12 * j + i)
    rw [putH_at _ w t y hw ht]
    by_cases e : 12 * j + i = 12 * w + t
    · rw [show 15 + 12 * j + i = 15 + 12 * w + t by omega, e, upd_eq, upd_eq]
    · rw [upd_ne (by omega), upd_ne e]; exact r4 j h5 i hk
  · rw [upd_ne (by omega)]; exact r5
  · rw [upd_ne (by omega)]; exact r6
  · rw [upd_ne (by omega)]; exact r7
  · rw [upd_ne (by omega)]; exact r8
  · rw [upd_ne (by omega)]; exact r9
  · rw [upd_ne (by omega)]; exact r10
  · rw [upd_ne (by omega)]; exact r11
  · have hk2 : i < 5 * (sSc d).toNatClampNeg := hk
    rw [hc2, cl5 c9 (by omega)] at hk2
    rw [upd_ne (by omega)]; exact r12 i hk
  · rw [upd_ne (by omega)]; exact r13 i hk
theorem Rp_set {s : Nat → Int32} {d : SD} (hO : SOk d) (hR : Rp s d) (x : Int32) : Rp (upd s 75 x) (seD d x) := by
  obtain ⟨r1, r2, r3, r4, r5, r6, r7, r8, r9, r10, r11, r12, r13⟩ := hR
  obtain ⟨c9, hc9, hc2⟩ := hO.2
  refine ⟨fun j h5 => ?_, fun j h5 => ?_, fun j h5 => ?_, fun j h5 i hk => ?_, ?_, ?_, ?_, ?_, ?_, ?_, ?_, fun i hk => ?_, fun i hk => ?_⟩
  · rw [upd_ne (by omega)]; exact r1 j h5
  · rw [upd_ne (by omega)]; exact r2 j h5
  · rw [upd_ne (by omega)]; exact r3 j h5
  · obtain ⟨m9, b9, h1, h2, h3, -⟩ := hO.1 j h5
    have hk2 : i < (sTe d j).toNatClampNeg := hk
    rw [h3, cl5 m9 (by omega)] at hk2
    rw [upd_ne (by omega)]; exact r4 j h5 i hk
  · rw [upd_eq]; rfl
  · rw [upd_ne (by omega)]; exact r6
  · rw [upd_ne (by omega)]; exact r7
  · rw [upd_ne (by omega)]; exact r8
  · rw [upd_ne (by omega)]; exact r9
  · rw [upd_ne (by omega)]; exact r10
  · rw [upd_ne (by omega)]; exact r11
  · have hk2 : i < 5 * (sSc d).toNatClampNeg := hk
    rw [hc2, cl5 c9 (by omega)] at hk2
    rw [upd_ne (by omega)]; exact r12 i hk
  · rw [upd_ne (by omega)]; exact r13 i hk
theorem Rp_stop {s : Nat → Int32} {d : SD} (hO : SOk d) (hR : Rp s d) (k : Nat) (hk9 : k < 60) : Rp (upd s (112 + k) (1 - s (112 + k))) (stD d k) := by
  obtain ⟨r1, r2, r3, r4, r5, r6, r7, r8, r9, r10, r11, r12, r13⟩ := hR
  obtain ⟨c9, hc9, hc2⟩ := hO.2
  refine ⟨fun j h5 => ?_, fun j h5 => ?_, fun j h5 => ?_, fun j h5 i hk => ?_, ?_, ?_, ?_, ?_, ?_, ?_, ?_, fun i hk => ?_, fun i hk => ?_⟩
  · rw [upd_ne (by omega)]; exact r1 j h5
  · rw [upd_ne (by omega)]; exact r2 j h5
  · rw [upd_ne (by omega)]; exact r3 j h5
  · obtain ⟨m9, b9, h1, h2, h3, -⟩ := hO.1 j h5
    have hk2 : i < (sTe d j).toNatClampNeg := hk
    rw [h3, cl5 m9 (by omega)] at hk2
    rw [upd_ne (by omega)]; exact r4 j h5 i hk
  · rw [upd_ne (by omega)]; exact r5
  · rw [upd_ne (by omega)]; exact r6
  · rw [upd_ne (by omega)]; exact r7
  · rw [upd_ne (by omega)]; exact r8
  · rw [upd_ne (by omega)]; exact r9
  · rw [upd_ne (by omega)]; exact r10
  · rw [upd_ne (by omega)]; exact r11
  · have hk2 : i < 5 * (sSc d).toNatClampNeg := hk
    rw [hc2, cl5 c9 (by omega)] at hk2
    rw [upd_ne (by omega)]; exact r12 i hk
  · show _ = b2i (va_up (sSt d) k (!(sSt d) k) i)
    by_cases e : i = k
    · subst e
      rw [upd_eq, r13 i hk, show va_up (sSt d) i (!(sSt d) i) i = !(sSt d) i from by simp [va_up]]
      cases sSt d i <;> rfl
    · rw [upd_ne (by omega), show va_up (sSt d) k (!(sSt d) k) i = sSt d i from by simp [va_up, e]]
      exact r13 i hk
theorem Rp_ch {s : Nat → Int32} {d : SD} (hO : SOk d) (hR : Rp s d) (w m : Nat) (hw : w < 5) (hm2 : 2 ≤ m) (hm : m ≤ 12) : Rp (fiK (upd (upd s w (nI m)) (5 + w) 0) (15 + 12 * w) 12 (fun _ => hB (sTe d) (sTo d) (sLo d) (sHe d) (nI w) 0)) (chD d w m) := by
  obtain ⟨r1, r2, r3, r4, r5, r6, r7, r8, r9, r10, r11, r12, r13⟩ := hR
  obtain ⟨c9, hc9, hc2⟩ := hO.2
  refine ⟨fun j h5 => ?_, fun j h5 => ?_, fun j h5 => ?_, fun j h5 i hk => ?_, ?_, ?_, ?_, ?_, ?_, ?_, ?_, fun i hk => ?_, fun i hk => ?_⟩
  · show _ = upd (sTe d) w (nI m) j
    rw [fiK_out _ _ (by omega), upd_ne (by omega)]
    by_cases e : j = w
    · subst e; rw [upd_eq, upd_eq]
    · rw [upd_ne e, upd_ne e]; exact r1 j h5
  · show _ = upd (sTo d) w 0 j
    rw [fiK_out _ _ (by omega)]
    by_cases e : j = w
    · subst e; rw [upd_eq, upd_eq]
    · rw [upd_ne (by omega), upd_ne e, upd_ne (by omega)]; exact r2 j h5
  · rw [fiK_out _ _ (by omega), upd_ne (by omega), upd_ne (by omega)]; exact r3 j h5
  · show _ = putN (sHe d) (nI w) (hB (sTe d) (sTo d) (sLo d) (sHe d) (nI w) 0) m (12 * j + i)
    rw [putN_at _ w _ hw m hm]
    dsimp only
    have hk2 : i < (upd (sTe d) w (nI m) j).toNatClampNeg := hk
    by_cases e : j = w
    · subst e
      rw [upd_eq, cl5 m (by omega)] at hk2
      rw [fiK, if_pos (by omega), if_pos (by omega)]
    · rw [upd_ne e] at hk2
      obtain ⟨m9, b9, h1, h2, h3, -⟩ := hO.1 j h5
      have hk3 := hk2
      rw [h3, cl5 m9 (by omega)] at hk3
      rw [if_neg (by omega), fiK_out _ _ (by omega), upd_ne (by omega), upd_ne (by omega)]
      exact r4 j h5 i hk2
  · rw [fiK_out _ _ (by omega), upd_ne (by omega), upd_ne (by omega)]; exact r5
  · rw [fiK_out _ _ (by omega), upd_ne (by omega), upd_ne (by omega)]; exact r6
  · rw [fiK_out _ _ (by omega), upd_ne (by omega), upd_ne (by omega)]; exact r7
  · rw [fiK_out _ _ (by omega), upd_ne (by omega), upd_ne (by omega)]; exact r8
  · rw [fiK_out _ _ (by omega), upd_ne (by omega), upd_ne (by omega)]; exact r9
  · rw [fiK_out _ _ (by omega), upd_ne (by omega), upd_ne (by omega)]; exact r10
  · rw [fiK_out _ _ (by omega), upd_ne (by omega), upd_ne (by omega)]; exact r11
  · have hk2 : i < 5 * (sSc d).toNatClampNeg := hk
    rw [hc2, cl5 c9 (by omega)] at hk2
    rw [fiK_out _ _ (by omega), upd_ne (by omega), upd_ne (by omega)]; exact r12 i hk
  · rw [fiK_out _ _ (by omega), upd_ne (by omega), upd_ne (by omega)]; exact r13 i hk
theorem Rp_re {s : Nat → Int32} {d : SD} (hO : SOk d) (hR : Rp s d) (c : Nat) (hc : c < 6) (hsc : sSc d = nI c) : Rp (upd (fiK s (82 + 5 * c) 5 (fun w => hB (sTe d) (sTo d) (sLo d) (sHe d) (nI w) 0)) 81 (nI (c + 1))) (reD d c) := by
  obtain ⟨r1, r2, r3, r4, r5, r6, r7, r8, r9, r10, r11, r12, r13⟩ := hR
  obtain ⟨c9, hc9, hc2⟩ := hO.2
  refine ⟨fun j h5 => ?_, fun j h5 => ?_, fun j h5 => ?_, fun j h5 i hk => ?_, ?_, ?_, ?_, ?_, ?_, ?_, ?_, fun i hk => ?_, fun i hk => ?_⟩
  · rw [upd_ne (by omega), fiK_out _ _ (by omega)]; exact r1 j h5
  · rw [upd_ne (by omega), fiK_out _ _ (by omega)]; exact r2 j h5
  · rw [upd_ne (by omega), fiK_out _ _ (by omega)]; exact r3 j h5
  · obtain ⟨m9, b9, h1, h2, h3, -⟩ := hO.1 j h5
    have hk2 : i < (sTe d j).toNatClampNeg := hk
    rw [h3, cl5 m9 (by omega)] at hk2
    rw [upd_ne (by omega), fiK_out _ _ (by omega)]; exact r4 j h5 i hk
  · rw [upd_ne (by omega), fiK_out _ _ (by omega)]; exact r5
  · rw [upd_ne (by omega), fiK_out _ _ (by omega)]; exact r6
  · rw [upd_ne (by omega), fiK_out _ _ (by omega)]; exact r7
  · rw [upd_ne (by omega), fiK_out _ _ (by omega)]; exact r8
  · rw [upd_ne (by omega), fiK_out _ _ (by omega)]; exact r9
  · rw [upd_ne (by omega), fiK_out _ _ (by omega)]; exact r10
  · show _ = sSc d + 1
    rw [upd_eq, hsc, nI_1]
  · show _ = addK (sScn d) c (fun w => hB (sTe d) (sTo d) (sLo d) (sHe d) (nI w) 0) 5 i
    have hk2 : i < 5 * (sSc d + 1).toNatClampNeg := hk
    rw [hsc, nI_1, cl5 _ (by omega)] at hk2
    rw [upd_ne (by omega), addK]
    by_cases e : c * 5 ≤ i
    · rw [fiK, if_pos (by omega), if_pos (by omega), show 82 + i - (82 + 5 * c) = i - c * 5 by omega]
    · rw [fiK_out _ _ (by omega), if_neg (by omega)]
      exact r12 i (by rw [hsc, cl5 _ (by omega)]; omega)
  · rw [upd_ne (by omega), fiK_out _ _ (by omega)]; exact r13 i hk
theorem Rp_fo {s : Nat → Int32} {d : SD} (hO : SOk d) (hR : Rp s d) (k c : Nat) (hc : c < 6) (hkc : k ≤ c) (hsc : sSc d = nI (c + 1)) (f : Nat → Int32) (hf : ∀ j, j < 5 * c - 5 * k → f j = s (82 + 5 * k + j + 5)) : Rp (fiK (upd s 81 (nI c)) (82 + 5 * k) (5 * c - 5 * k) f) (foD d k (c + 1)) := by
  obtain ⟨r1, r2, r3, r4, r5, r6, r7, r8, r9, r10, r11, r12, r13⟩ := hR
  obtain ⟨c9, hc9, hc2⟩ := hO.2
  refine ⟨fun j h5 => ?_, fun j h5 => ?_, fun j h5 => ?_, fun j h5 i hk => ?_, ?_, ?_, ?_, ?_, ?_, ?_, ?_, fun i hk => ?_, fun i hk => ?_⟩
  · rw [fiK_out _ _ (by omega), upd_ne (by omega)]; exact r1 j h5
  · rw [fiK_out _ _ (by omega), upd_ne (by omega)]; exact r2 j h5
  · rw [fiK_out _ _ (by omega), upd_ne (by omega)]; exact r3 j h5
  · obtain ⟨m9, b9, h1, h2, h3, -⟩ := hO.1 j h5
    have hk2 : i < (sTe d j).toNatClampNeg := hk
    rw [h3, cl5 m9 (by omega)] at hk2
    rw [fiK_out _ _ (by omega), upd_ne (by omega)]; exact r4 j h5 i hk
  · rw [fiK_out _ _ (by omega), upd_ne (by omega)]; exact r5
  · rw [fiK_out _ _ (by omega), upd_ne (by omega)]; exact r6
  · rw [fiK_out _ _ (by omega), upd_ne (by omega)]; exact r7
  · rw [fiK_out _ _ (by omega), upd_ne (by omega)]; exact r8
  · rw [fiK_out _ _ (by omega), upd_ne (by omega)]; exact r9
  · rw [fiK_out _ _ (by omega), upd_ne (by omega)]; exact r10
  · show _ = sSc d - 1
    rw [fiK_out _ _ (by omega), upd_eq, hsc, nI_pred]
  · show _ = dropK (sScn d) k (c + 1) i
    have hk2 : i < 5 * (sSc d - 1).toNatClampNeg := hk
    rw [hsc, nI_pred, cl5 _ (by omega)] at hk2
    rw [dropK, Nat.add_sub_cancel]
    by_cases e : k * 5 ≤ i
    · rw [fiK, if_pos (by omega), if_pos (by omega), hf _ (by omega), show 82 + 5 * k + (82 + i - (82 + 5 * k)) + 5 = 82 + (i + 5) by omega]
      exact r12 (i + 5) (by rw [hsc, cl5 _ (by omega)]; omega)
    · rw [fiK_out _ _ (by omega), if_neg (by omega), upd_ne (by omega)]
      exact r12 i (by rw [hsc, cl5 _ (by omega)]; omega)
  · rw [fiK_out _ _ (by omega), upd_ne (by omega)]; exact r13 i hk


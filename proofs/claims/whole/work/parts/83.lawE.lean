theorem k_jamsIn {L i b k9 n9 : Nat} {xs : Nat → Int32} {w0 m0 : List va_E} {z : Nat → Int64} {B : KT} (M : MG RL cL_law 9 ret room_1 k9 n9 (XLw L xs) B) (hi : i + 4 ≤ L) (hL : L ≤ 2048) (hV : Inv b w0 m0) (hb : b + 2000 ≤ 2 ^ 28) (hr9 : k9 + 1 ≤ 601024 ∧ n9 + 6 ≤ 7293034) (kk : ∀ (B2 : KT) (w1 m1 : List va_E) (z1 : Nat → Int64), MG RL cL_law 9 ret room_1 (k9 + 1) (n9 + 6) (XLw L xs) B2 → Inv (b + 2000) w1 m1 → B2 1598 [(0, .ref 1000), (1, .ref 0), (2, .ref 96), (3, .ref 95), (4, .int (nI i))] [] (LWm w1 z1 m1)) : B 1320 [(0, .ref 1000), (1, .ref 0), (2, .ref 96), (3, .ref 95), (4, .int (nI i))] [] (LWm w0 z m0) := by
  obtain ⟨kv, mb, w1, m1, z1, hW, hM, hT, hz, hI⟩ := s_jamsIn (z := z) hV hb (xs (nI (i + 1)).toNatClampNeg)
  obtain ⟨l0, c0, fs0, g0⟩ := inv_w hV
  obtain ⟨l1, c1, fs1, g1⟩ := inv_w hI
  obtain ⟨n0, e0, fm0, q0⟩ := inv_m hV
  obtain ⟨n1, e1, fm1, q1⟩ := inv_m hI
  refine g_aload_n M dL_law_1320 rfl ?_
  refine g_aload_n M dL_law_1321 rfl ?_
  refine g_iload M dL_law_1322 rfl ?_
  refine g_iconst M 1 dL_law_1324 (by decide) ?_
  refine g_iadd M dL_law_1325 ?_
  rw [show nI i + 1 = nI (i + 1) from nI_add i 1]
  refine g_sld M (vp_in_nI (by omega) (by omega)) dL_law_1326 ?_
  refine g_aload_n M dL_law_1327 rfl ?_
  refine g_callW (n := 3) (As := [.ref 0, .int (xs (nI (i + 1)).toNatClampNeg), .ref 95]) M (xlw_xp L xs) hW lw_jamsIn dL_law_1328 (by decide +kernel) ⟨Nat.le_of_ble_eq_true rfl, Nat.le_of_ble_eq_true rfl⟩ ⟨rfl, rfl⟩ hr9 (List.range 96) rfl rfl nd96 (sel_pre nd96 (ln96 l0 z) (cl96 c0 z)) (Nat.le_of_ble_eq_true rfl) (fun B M => ?_)
  rw [put_pre nd96 (ln96 l0 z) (ln96 l1 z1) (cl96 c1 z1)]
  refine g_istore M dL_law_1331 (by decide) ?_
  refine g_aload_n M dL_law_1333 rfl ?_
  refine g_aload_n M dL_law_1334 rfl ?_
  refine g_iload M dL_law_1335 rfl ?_
  refine g_iconst M 1 dL_law_1337 (by decide) ?_
  refine g_iadd M dL_law_1338 ?_
  rw [show nI i + 1 = nI (i + 1) from nI_add i 1]
  refine g_sld M (vp_in_nI (by omega) (by omega)) dL_law_1339 ?_
  refine g_V1iu (q := 96) (w' := LWm w1 z1 m1) M hM lk_L_173 dL_law_1340 (by decide +kernel) ⟨Nat.le_of_ble_eq_true rfl, Nat.le_of_ble_eq_true rfl⟩ ⟨rfl, rfl⟩ P5 (lw_md l1 q0) rfl rfl nd5 (sel_suf (ln96 l1 z1) n0 e0) (Nat.le_of_ble_eq_true rfl) (put_suf (ln96 l1 z1) n0 n1 e1) ?_
  refine g_istore M dL_law_1343 (by decide) ?_
  refine g_aload_n M dL_law_1345 rfl ?_
  refine g_V0ik (q := 96) M hT lk_L_95 dL_law_1346 (by decide +kernel) ⟨Nat.le_of_ble_eq_true rfl, Nat.le_of_ble_eq_true rfl⟩ ⟨rfl, rfl⟩ P5 (lw_md l1 q1) rfl rfl nd5 (sel_suf (ln96 l1 z1) n1 e1) (Nat.le_of_ble_eq_true rfl) ?_
  refine g_iload M dL_law_1349 rfl ?_
  refine g_icmp_eq M 1356 dL_law_1351 (by decide) (fun _ => ?_) (fun h9 => absurd rfl h9)
  refine g_iload M dL_law_1356 rfl ?_
  by_cases h0 : kv = 0
  · refine g_if_ne M 1373 dL_law_1358 (by decide) (fun h9 => absurd h0 h9) (fun _ => ?_)
    refine g_aload_n M dL_law_1361 rfl ?_
    refine g_iconst M 0 dL_law_1362 (by decide) ?_
    refine g_lald M dL_law_1363 (lw_out l1) vinA ?_
    rw [show (0 : Int32).toNatClampNeg = 0 from rfl, hz h0]
    refine g_iload M dL_law_1364 rfl ?_
    refine g_i2l M dL_law_1366 ?_
    refine g_lcmp M dL_law_1367 ?_
    rw [lgc]
    refine g_if_eq M 1373 dL_law_1368 (by decide) (fun _ => ?_) (fun h9 => absurd rfl h9)
    refine g_goto M 1598 dL_law_1373 (by decide) ?_
    exact g_lvs M _ (lvs_c rfl (lvs_c rfl (lvs_c rfl (lvs_c rfl (lvs_c rfl lvs_n))))) (kk _ _ _ _ M hI)
  · refine g_if_ne M 1373 dL_law_1358 (by decide) (fun _ => ?_) (fun h9 => absurd h9 h0)
    refine g_goto M 1598 dL_law_1373 (by decide) ?_
    exact g_lvs M _ (lvs_c rfl (lvs_c rfl (lvs_c rfl (lvs_c rfl (lvs_c rfl lvs_n))))) (kk _ _ _ _ M hI)
theorem k_ahead {L i b k9 n9 : Nat} {xs : Nat → Int32} {w0 m0 : List va_E} {z : Nat → Int64} {B : KT} (M : MG RL cL_law 9 ret room_1 k9 n9 (XLw L xs) B) (hi : i + 4 ≤ L) (hL : L ≤ 2048) (hV : Inv b w0 m0) (hb : b + 2000 ≤ 2 ^ 28) (hr9 : k9 + 1 ≤ 601024 ∧ n9 + 6 ≤ 7293034) (kk : ∀ (B2 : KT) (w1 m1 : List va_E) (z1 : Nat → Int64), MG RL cL_law 9 ret room_1 (k9 + 1) (n9 + 6) (XLw L xs) B2 → Inv (b + 2000) w1 m1 → B2 1598 [(0, .ref 1000), (1, .ref 0), (2, .ref 96), (3, .ref 95), (4, .int (nI i))] [] (LWm w1 z1 m1)) : B 1376 [(0, .ref 1000), (1, .ref 0), (2, .ref 96), (3, .ref 95), (4, .int (nI i))] [] (LWm w0 z m0) := by
  obtain ⟨kv, mb, w1, m1, z1, hW, hM, hT, hz, hI⟩ := s_ahead (z := z) hV hb (xs (nI (i + 1)).toNatClampNeg) (xs (nI (i + 2)).toNatClampNeg)
  obtain ⟨l0, c0, fs0, g0⟩ := inv_w hV
  obtain ⟨l1, c1, fs1, g1⟩ := inv_w hI
  obtain ⟨n0, e0, fm0, q0⟩ := inv_m hV
  obtain ⟨n1, e1, fm1, q1⟩ := inv_m hI
  refine g_aload_n M dL_law_1376 rfl ?_
  refine g_aload_n M dL_law_1377 rfl ?_
  refine g_iload M dL_law_1378 rfl ?_
  refine g_iconst M 1 dL_law_1380 (by decide) ?_
  refine g_iadd M dL_law_1381 ?_
  rw [show nI i + 1 = nI (i + 1) from nI_add i 1]
  refine g_sld M (vp_in_nI (by omega) (by omega)) dL_law_1382 ?_
  refine g_aload_n M dL_law_1383 rfl ?_
  refine g_iload M dL_law_1384 rfl ?_
  refine g_iconst M 2 dL_law_1386 (by decide) ?_
  refine g_iadd M dL_law_1387 ?_
  rw [show nI i + 2 = nI (i + 2) from nI_add i 2]
  refine g_sld M (vp_in_nI (by omega) (by omega)) dL_law_1388 ?_
  refine g_aload_n M dL_law_1389 rfl ?_
  refine g_callW (n := 4) (As := [.ref 0, .int (xs (nI (i + 1)).toNatClampNeg), .int (xs (nI (i + 2)).toNatClampNeg), .ref 95]) M (xlw_xp L xs) hW lw_ahead dL_law_1390 (by decide +kernel) ⟨Nat.le_of_ble_eq_true rfl, Nat.le_of_ble_eq_true rfl⟩ ⟨rfl, rfl⟩ hr9 (List.range 96) rfl rfl nd96 (sel_pre nd96 (ln96 l0 z) (cl96 c0 z)) (Nat.le_of_ble_eq_true rfl) (fun B M => ?_)
  rw [put_pre nd96 (ln96 l0 z) (ln96 l1 z1) (cl96 c1 z1)]
  refine g_istore M dL_law_1393 (by decide) ?_
  refine g_aload_n M dL_law_1395 rfl ?_
  refine g_aload_n M dL_law_1396 rfl ?_
  refine g_iload M dL_law_1397 rfl ?_
  refine g_iconst M 1 dL_law_1399 (by decide) ?_
  refine g_iadd M dL_law_1400 ?_
  rw [show nI i + 1 = nI (i + 1) from nI_add i 1]
  refine g_sld M (vp_in_nI (by omega) (by omega)) dL_law_1401 ?_
  refine g_aload_n M dL_law_1402 rfl ?_
  refine g_iload M dL_law_1403 rfl ?_
  refine g_iconst M 2 dL_law_1405 (by decide) ?_
  refine g_iadd M dL_law_1406 ?_
  rw [show nI i + 2 = nI (i + 2) from nI_add i 2]
  refine g_sld M (vp_in_nI (by omega) (by omega)) dL_law_1407 ?_
  refine g_V2iu (q := 96) (w' := LWm w1 z1 m1) M hM lk_L_176 dL_law_1408 (by decide +kernel) ⟨Nat.le_of_ble_eq_true rfl, Nat.le_of_ble_eq_true rfl⟩ ⟨rfl, rfl⟩ P5 (lw_md l1 q0) rfl rfl nd5 (sel_suf (ln96 l1 z1) n0 e0) (Nat.le_of_ble_eq_true rfl) (put_suf (ln96 l1 z1) n0 n1 e1) ?_
  refine g_istore M dL_law_1411 (by decide) ?_
  refine g_aload_n M dL_law_1413 rfl ?_
  refine g_V0ik (q := 96) M hT lk_L_95 dL_law_1414 (by decide +kernel) ⟨Nat.le_of_ble_eq_true rfl, Nat.le_of_ble_eq_true rfl⟩ ⟨rfl, rfl⟩ P5 (lw_md l1 q1) rfl rfl nd5 (sel_suf (ln96 l1 z1) n1 e1) (Nat.le_of_ble_eq_true rfl) ?_
  refine g_iload M dL_law_1417 rfl ?_
  refine g_icmp_eq M 1424 dL_law_1419 (by decide) (fun _ => ?_) (fun h9 => absurd rfl h9)
  refine g_iload M dL_law_1424 rfl ?_
  by_cases h0 : kv = 0
  · refine g_if_ne M 1441 dL_law_1426 (by decide) (fun h9 => absurd h0 h9) (fun _ => ?_)
    refine g_aload_n M dL_law_1429 rfl ?_
    refine g_iconst M 0 dL_law_1430 (by decide) ?_
    refine g_lald M dL_law_1431 (lw_out l1) vinA ?_
    rw [show (0 : Int32).toNatClampNeg = 0 from rfl, hz h0]
    refine g_iload M dL_law_1432 rfl ?_
    refine g_i2l M dL_law_1434 ?_
    refine g_lcmp M dL_law_1435 ?_
    rw [lgc]
    refine g_if_eq M 1441 dL_law_1436 (by decide) (fun _ => ?_) (fun h9 => absurd rfl h9)
    refine g_goto M 1598 dL_law_1441 (by decide) ?_
    exact g_lvs M _ (lvs_c rfl (lvs_c rfl (lvs_c rfl (lvs_c rfl (lvs_c rfl lvs_n))))) (kk _ _ _ _ M hI)
  · refine g_if_ne M 1441 dL_law_1426 (by decide) (fun _ => ?_) (fun h9 => absurd h9 h0)
    refine g_goto M 1598 dL_law_1441 (by decide) ?_
    exact g_lvs M _ (lvs_c rfl (lvs_c rfl (lvs_c rfl (lvs_c rfl (lvs_c rfl lvs_n))))) (kk _ _ _ _ M hI)
theorem k_frees {L i b k9 n9 : Nat} {xs : Nat → Int32} {w0 m0 : List va_E} {z : Nat → Int64} {B : KT} (M : MG RL cL_law 9 ret room_1 k9 n9 (XLw L xs) B) (hi : i + 4 ≤ L) (hL : L ≤ 2048) (hV : Inv b w0 m0) (hb : b + 2000 ≤ 2 ^ 28) (hr9 : k9 + 1 ≤ 601024 ∧ n9 + 6 ≤ 7293034) (kk : ∀ (B2 : KT) (w1 m1 : List va_E) (z1 : Nat → Int64), MG RL cL_law 9 ret room_1 (k9 + 1) (n9 + 6) (XLw L xs) B2 → Inv (b + 2000) w1 m1 → B2 1598 [(0, .ref 1000), (1, .ref 0), (2, .ref 96), (3, .ref 95), (4, .int (nI i))] [] (LWm w1 z1 m1)) : B 1444 [(0, .ref 1000), (1, .ref 0), (2, .ref 96), (3, .ref 95), (4, .int (nI i))] [] (LWm w0 z m0) := by
  obtain ⟨kv, mb, w1, m1, z1, hW, hM, hT, hz, hI⟩ := s_frees (z := z) hV hb (xs (nI (i + 1)).toNatClampNeg)
  obtain ⟨l0, c0, fs0, g0⟩ := inv_w hV
  obtain ⟨l1, c1, fs1, g1⟩ := inv_w hI
  obtain ⟨n0, e0, fm0, q0⟩ := inv_m hV
  obtain ⟨n1, e1, fm1, q1⟩ := inv_m hI
  refine g_aload_n M dL_law_1444 rfl ?_
  refine g_aload_n M dL_law_1445 rfl ?_
  refine g_iload M dL_law_1446 rfl ?_
  refine g_iconst M 1 dL_law_1448 (by decide) ?_
  refine g_iadd M dL_law_1449 ?_
  rw [show nI i + 1 = nI (i + 1) from nI_add i 1]
  refine g_sld M (vp_in_nI (by omega) (by omega)) dL_law_1450 ?_
  refine g_aload_n M dL_law_1451 rfl ?_
  refine g_callW (n := 3) (As := [.ref 0, .int (xs (nI (i + 1)).toNatClampNeg), .ref 95]) M (xlw_xp L xs) hW lw_frees dL_law_1452 (by decide +kernel) ⟨Nat.le_of_ble_eq_true rfl, Nat.le_of_ble_eq_true rfl⟩ ⟨rfl, rfl⟩ hr9 (List.range 96) rfl rfl nd96 (sel_pre nd96 (ln96 l0 z) (cl96 c0 z)) (Nat.le_of_ble_eq_true rfl) (fun B M => ?_)
  rw [put_pre nd96 (ln96 l0 z) (ln96 l1 z1) (cl96 c1 z1)]
  refine g_istore M dL_law_1455 (by decide) ?_
  refine g_aload_n M dL_law_1457 rfl ?_
  refine g_aload_n M dL_law_1458 rfl ?_
  refine g_iload M dL_law_1459 rfl ?_
  refine g_iconst M 1 dL_law_1461 (by decide) ?_
  refine g_iadd M dL_law_1462 ?_
  rw [show nI i + 1 = nI (i + 1) from nI_add i 1]
  refine g_sld M (vp_in_nI (by omega) (by omega)) dL_law_1463 ?_
  refine g_V1iu (q := 96) (w' := LWm w1 z1 m1) M hM lk_L_179 dL_law_1464 (by decide +kernel) ⟨Nat.le_of_ble_eq_true rfl, Nat.le_of_ble_eq_true rfl⟩ ⟨rfl, rfl⟩ P5 (lw_md l1 q0) rfl rfl nd5 (sel_suf (ln96 l1 z1) n0 e0) (Nat.le_of_ble_eq_true rfl) (put_suf (ln96 l1 z1) n0 n1 e1) ?_
  refine g_istore M dL_law_1467 (by decide) ?_
  refine g_aload_n M dL_law_1469 rfl ?_
  refine g_V0ik (q := 96) M hT lk_L_95 dL_law_1470 (by decide +kernel) ⟨Nat.le_of_ble_eq_true rfl, Nat.le_of_ble_eq_true rfl⟩ ⟨rfl, rfl⟩ P5 (lw_md l1 q1) rfl rfl nd5 (sel_suf (ln96 l1 z1) n1 e1) (Nat.le_of_ble_eq_true rfl) ?_
  refine g_iload M dL_law_1473 rfl ?_
  refine g_icmp_eq M 1480 dL_law_1475 (by decide) (fun _ => ?_) (fun h9 => absurd rfl h9)
  refine g_iload M dL_law_1480 rfl ?_
  by_cases h0 : kv = 0
  · refine g_if_ne M 1497 dL_law_1482 (by decide) (fun h9 => absurd h0 h9) (fun _ => ?_)
    refine g_aload_n M dL_law_1485 rfl ?_
    refine g_iconst M 0 dL_law_1486 (by decide) ?_
    refine g_lald M dL_law_1487 (lw_out l1) vinA ?_
    rw [show (0 : Int32).toNatClampNeg = 0 from rfl, hz h0]
    refine g_iload M dL_law_1488 rfl ?_
    refine g_i2l M dL_law_1490 ?_
    refine g_lcmp M dL_law_1491 ?_
    rw [lgc]
    refine g_if_eq M 1497 dL_law_1492 (by decide) (fun _ => ?_) (fun h9 => absurd rfl h9)
    refine g_goto M 1598 dL_law_1497 (by decide) ?_
    exact g_lvs M _ (lvs_c rfl (lvs_c rfl (lvs_c rfl (lvs_c rfl (lvs_c rfl lvs_n))))) (kk _ _ _ _ M hI)
  · refine g_if_ne M 1497 dL_law_1482 (by decide) (fun _ => ?_) (fun h9 => absurd h9 h0)
    refine g_goto M 1598 dL_law_1497 (by decide) ?_
    exact g_lvs M _ (lvs_c rfl (lvs_c rfl (lvs_c rfl (lvs_c rfl (lvs_c rfl lvs_n))))) (kk _ _ _ _ M hI)
theorem k_allowedShare {L i b k9 n9 : Nat} {xs : Nat → Int32} {w0 m0 : List va_E} {z : Nat → Int64} {B : KT} (M : MG RL cL_law 9 ret room_1 k9 n9 (XLw L xs) B) (hV : Inv b w0 m0) (hb : b + 2000 ≤ 2 ^ 28) (kk : ∀ (w1 m1 : List va_E), Inv (b + 2000) w1 m1 → B 1598 [(0, .ref 1000), (1, .ref 0), (2, .ref 96), (3, .ref 95), (4, .int (nI i))] [] (LWm w1 z m1)) : B 1500 [(0, .ref 1000), (1, .ref 0), (2, .ref 96), (3, .ref 95), (4, .int (nI i))] [] (LWm w0 z m0) := by
  obtain ⟨v, w1, m1, hW, hM, hI⟩ := s_allowedShare hV hb
  obtain ⟨l0, c0, fs0, g0⟩ := inv_w hV
  obtain ⟨l1, c1, fs1, g1⟩ := inv_w hI
  obtain ⟨n0, e0, fm0, q0⟩ := inv_m hV
  obtain ⟨n1, e1, fm1, q1⟩ := inv_m hI
  refine g_aload_n M dL_law_1500 rfl ?_
  refine g_V0du (q := 0) (w' := LWm w1 z m0) M hW lk_L_180 dL_law_1501 (by decide +kernel) ⟨Nat.le_of_ble_eq_true rfl, Nat.le_of_ble_eq_true rfl⟩ ⟨rfl, rfl⟩ (List.range 95) (lw_hd l0 g0) rfl rfl nd95 (sel_pre2 nd95 l0 c0) (Nat.le_of_ble_eq_true rfl) (put_pre2 nd95 l0 l1 c1) ?_
  refine g_dstore M dL_law_1504 (by decide) ?_
  refine g_aload_n M dL_law_1506 rfl ?_
  refine g_V0du (q := 96) (w' := LWm w1 z m1) M hM lk_L_184 dL_law_1507 (by decide +kernel) ⟨Nat.le_of_ble_eq_true rfl, Nat.le_of_ble_eq_true rfl⟩ ⟨rfl, rfl⟩ P5 (lw_md l1 q0) rfl rfl nd5 (sel_suf (ln96 l1 z) n0 e0) (Nat.le_of_ble_eq_true rfl) (put_suf (ln96 l1 z) n0 n1 e1) ?_
  refine g_dstore M dL_law_1510 (by decide) ?_
  refine g_dload M dL_law_1512 rfl ?_
  refine g_dload M dL_law_1514 rfl ?_
  refine g_dcmp M dL_law_1516 ?_
  by_cases h0 : Op.cmpValue (FP.dcmp v v) .l = 0
  · refine g_if_eq M 1538 dL_law_1517 (by decide) (fun _ => ?_) (fun h9 => absurd h0 h9)
    refine g_goto M 1598 dL_law_1538 (by decide) ?_
    exact g_lvs M _ (lvs_c rfl (lvs_c rfl (lvs_c rfl (lvs_c rfl (lvs_c rfl lvs_n))))) (kk _ _ hI)
  · refine g_if_eq M 1538 dL_law_1517 (by decide) (fun h9 => absurd h9 h0) (fun _ => ?_)
    refine g_dload M dL_law_1520 rfl ?_
    refine g_dload M dL_law_1522 rfl ?_
    refine g_dcmp M dL_law_1524 ?_
    refine g_if_eq M 1536 dL_law_1525 (by decide) (fun h9 => absurd h9 h0) (fun _ => ?_)
    refine g_dload M dL_law_1528 rfl ?_
    refine g_dload M dL_law_1530 rfl ?_
    refine g_dcmp M dL_law_1532 ?_
    refine g_if_ne M 1538 dL_law_1533 (by decide) (fun _ => ?_) (fun h9 => absurd h9 h0)
    refine g_goto M 1598 dL_law_1538 (by decide) ?_
    exact g_lvs M _ (lvs_c rfl (lvs_c rfl (lvs_c rfl (lvs_c rfl (lvs_c rfl lvs_n))))) (kk _ _ hI)
theorem k_meanHeight {L i b k9 n9 : Nat} {xs : Nat → Int32} {w0 m0 : List va_E} {z : Nat → Int64} {B : KT} (M : MG RL cL_law 9 ret room_1 k9 n9 (XLw L xs) B) (hV : Inv b w0 m0) (hb : b + 2000 ≤ 2 ^ 28) (kk : ∀ (w1 m1 : List va_E), Inv (b + 2000) w1 m1 → B 1598 [(0, .ref 1000), (1, .ref 0), (2, .ref 96), (3, .ref 95), (4, .int (nI i))] [] (LWm w1 z m1)) : B 1541 [(0, .ref 1000), (1, .ref 0), (2, .ref 96), (3, .ref 95), (4, .int (nI i))] [] (LWm w0 z m0) := by
  obtain ⟨v, w1, m1, hf2, hW, hM, hI⟩ := s_meanHeight hV hb
  obtain ⟨l0, c0, fs0, g0⟩ := inv_w hV
  obtain ⟨l1, c1, fs1, g1⟩ := inv_w hI
  obtain ⟨n0, e0, fm0, q0⟩ := inv_m hV
  obtain ⟨n1, e1, fm1, q1⟩ := inv_m hI
  refine g_aload_n M dL_law_1541 rfl ?_
  refine g_V0fu (q := 0) (w' := LWm w1 z m0) M hW lk_L_185 dL_law_1542 (by decide +kernel) ⟨Nat.le_of_ble_eq_true rfl, Nat.le_of_ble_eq_true rfl⟩ ⟨rfl, rfl⟩ (List.range 95) (lw_hd l0 g0) rfl rfl nd95 (sel_pre2 nd95 l0 c0) (Nat.le_of_ble_eq_true rfl) (put_pre2 nd95 l0 l1 c1) ?_
  refine g_f2d M dL_law_1545 hf2 ?_
  refine g_dstore M dL_law_1546 (by decide) ?_
  refine g_aload_n M dL_law_1548 rfl ?_
  refine g_V0fu (q := 96) (w' := LWm w1 z m1) M hM lk_L_189 dL_law_1549 (by decide +kernel) ⟨Nat.le_of_ble_eq_true rfl, Nat.le_of_ble_eq_true rfl⟩ ⟨rfl, rfl⟩ P5 (lw_md l1 q0) rfl rfl nd5 (sel_suf (ln96 l1 z) n0 e0) (Nat.le_of_ble_eq_true rfl) (put_suf (ln96 l1 z) n0 n1 e1) ?_
  refine g_f2d M dL_law_1552 hf2 ?_
  refine g_dstore M dL_law_1553 (by decide) ?_
  refine g_dload M dL_law_1555 rfl ?_
  refine g_dload M dL_law_1557 rfl ?_
  refine g_dcmp M dL_law_1559 ?_
  by_cases h0 : Op.cmpValue (FP.dcmp (FP.f2d v) (FP.f2d v)) .l = 0
  · refine g_if_eq M 1581 dL_law_1560 (by decide) (fun _ => ?_) (fun h9 => absurd h0 h9)
    refine g_goto M 1598 dL_law_1581 (by decide) ?_
    exact g_lvs M _ (lvs_c rfl (lvs_c rfl (lvs_c rfl (lvs_c rfl (lvs_c rfl lvs_n))))) (kk _ _ hI)
  · refine g_if_eq M 1581 dL_law_1560 (by decide) (fun h9 => absurd h9 h0) (fun _ => ?_)
    refine g_dload M dL_law_1563 rfl ?_
    refine g_dload M dL_law_1565 rfl ?_
    refine g_dcmp M dL_law_1567 ?_
    refine g_if_eq M 1579 dL_law_1568 (by decide) (fun h9 => absurd h9 h0) (fun _ => ?_)
    refine g_dload M dL_law_1571 rfl ?_
    refine g_dload M dL_law_1573 rfl ?_
    refine g_dcmp M dL_law_1575 ?_
    refine g_if_ne M 1581 dL_law_1576 (by decide) (fun _ => ?_) (fun h9 => absurd h9 h0)
    refine g_goto M 1598 dL_law_1581 (by decide) ?_
    exact g_lvs M _ (lvs_c rfl (lvs_c rfl (lvs_c rfl (lvs_c rfl (lvs_c rfl lvs_n))))) (kk _ _ hI)
theorem k_digest {L i b k9 n9 : Nat} {xs : Nat → Int32} {w0 m0 : List va_E} {z : Nat → Int64} {B : KT} (M : MG RL cL_law 9 ret room_1 k9 n9 (XLw L xs) B) (hV : Inv b w0 m0) (hb : b + 2000 ≤ 2 ^ 28) (kk : ∀ (w1 m1 : List va_E), Inv (b + 2000) w1 m1 → B 1598 [(0, .ref 1000), (1, .ref 0), (2, .ref 96), (3, .ref 95), (4, .int (nI i))] [] (LWm w1 z m1)) : B 1584 [(0, .ref 1000), (1, .ref 0), (2, .ref 96), (3, .ref 95), (4, .int (nI i))] [] (LWm w0 z m0) := by
  obtain ⟨v, w1, m1, hW, hM, hI⟩ := s_digest hV hb
  obtain ⟨l0, c0, fs0, g0⟩ := inv_w hV
  obtain ⟨l1, c1, fs1, g1⟩ := inv_w hI
  obtain ⟨n0, e0, fm0, q0⟩ := inv_m hV
  obtain ⟨n1, e1, fm1, q1⟩ := inv_m hI
  refine g_aload_n M dL_law_1584 rfl ?_
  refine g_V0lu (q := 0) (w' := LWm w1 z m0) M hW lk_L_190 dL_law_1585 (by decide +kernel) ⟨Nat.le_of_ble_eq_true rfl, Nat.le_of_ble_eq_true rfl⟩ ⟨rfl, rfl⟩ (List.range 95) (lw_hd l0 g0) rfl rfl nd95 (sel_pre2 nd95 l0 c0) (Nat.le_of_ble_eq_true rfl) (put_pre2 nd95 l0 l1 c1) ?_
  refine g_aload_n M dL_law_1588 rfl ?_
  refine g_V0lu (q := 96) (w' := LWm w1 z m1) M hM lk_L_194 dL_law_1589 (by decide +kernel) ⟨Nat.le_of_ble_eq_true rfl, Nat.le_of_ble_eq_true rfl⟩ ⟨rfl, rfl⟩ P5 (lw_md l1 q0) rfl rfl nd5 (sel_suf (ln96 l1 z) n0 e0) (Nat.le_of_ble_eq_true rfl) (put_suf (ln96 l1 z) n0 n1 e1) ?_
  refine g_lcmp M dL_law_1592 ?_
  rw [lgc]
  refine g_if_eq M 1598 dL_law_1593 (by decide) (fun _ => ?_) (fun h9 => absurd rfl h9)
  exact g_lvs M _ (lvs_c rfl (lvs_c rfl (lvs_c rfl (lvs_c rfl (lvs_c rfl lvs_n))))) (kk _ _ hI)


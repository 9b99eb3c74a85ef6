theorem eqf_stop {f g : Nat → Int32} {k : Nat} (h : eqf f g k = false) : ∀ n, k ≤ n → eqf f g n = false := by
  intro n
  induction n with
  | zero =>
    intro hk
    obtain rfl : k = 0 := by omega
    exact h
  | succ n ih =>
    intro hk
    rcases Nat.lt_or_ge n k with q | q
    · obtain rfl : k = n + 1 := by omega
      exact h
    · rw [eqf, ih q]; rfl
theorem hSc_at (scn : Nat → Int32) (i k : Nat) (hi : i < 6) (hk : k < 5) : hSc scn (nI i) (nI k) = scn (5 * i + k) := by
  have e1 : nI i * 5 + nI k = nI (5 * i + k) := by rw [show (5 : Int32) = nI 5 from rfl, pk_mul, nI_add, Nat.mul_comm]
  rw [hSc, nI_toInt (by omega), nI_toInt (by omega), if_pos (by omega), e1, nI_clamp (by omega)]
theorem six (i k : Nat) : (82 : Int32) + 5 * nI i + nI k = nI (82 + 5 * i + k) := by
  rw [show (5 : Int32) = nI 5 from rfl, pk_mul, show (82 : Int32) = nI 82 from rfl, nI_add, nI_add]
section
variable (th sv ln at9 pt nm op : Int32) (kp : Bool) (hs : Int64) (s tx bg tm : Nat → Int32)
theorem c_isAsScene {d : SD} (hR : Rp s d) (hO : SOk d) (c i : Nat) (hc : sSc d = nI c) (hc6 : c ≤ 6) (hi : i < c) (x : Int32) : Con yX6_isAsScene cX6_isAsScene 5 (some .boolean) (rmk 2 46) [.ref 0, .int (nI i), .int x] (MW th sv ln at9 pt nm op kp hs s tx bg tm) (some (.int (b2i (asSc (sTe d) (sTo d) (sLo d) (sHe d) (sScn d) (nI i) x)))) (MW th sv ln at9 pt nm op kp hs s tx bg tm) := by
  refine Con.of (own := RX6) (by decide) rfl (Nat.le_of_ble_eq_true rfl) rfl (fun B M => ?_)
  have hs9 : ∀ k, k < 5 * (sSc d).toNatClampNeg → s (82 + k) = sScn d k := hR.2.2.2.2.2.2.2.2.2.2.2.1
  rw [hc, cl5 c (by omega)] at hs9
  obtain ⟨f, hf⟩ : ∃ f : Nat → Int32, f = (fun k => hB (sTe d) (sTo d) (sLo d) (sHe d) (nI k) x) := ⟨_, rfl⟩
  obtain ⟨g, hg⟩ : ∃ g : Nat → Int32, g = (fun k => hSc (sScn d) (nI i) (nI k)) := ⟨_, rfl⟩
  have hh : ∀ k, k < 5 → Con yX6_heightAt cX6_heightAt 5 (some .int) (rmk 1 22) [.ref 0, .int (nI k), .int x, .int (-1)] (MW th sv ln at9 pt nm op kp hs s tx bg tm) (some (.int (f k))) (MW th sv ln at9 pt nm op kp hs s tx bg tm) := fun k h5 => by
    rw [hf]
    exact c_mHeightAt th sv ln at9 pt nm op kp hs s tx bg tm hR hO k h5 x (-1) (sLo d) (lo_all d h5)
  have hgs : ∀ k, k < 5 → s (82 + 5 * i + k) = g k := fun k hk => by
    rw [hg, Nat.add_assoc]
    exact (hs9 _ (by omega)).trans (hSc_at _ i k (by omega) hk).symm
  rw [asSc, ← hf, ← hg] at M
  have out : ∀ y : Value, ∀ z : Bool, z = eqf f g 5 → B 52 [(0, .ref 0), (1, .int (nI i)), (2, .int x), (3, .int (b2i z)), (4, y)] [] (MW th sv ln at9 pt nm op kp hs s tx bg tm) := by
    intro y z hz
    refine r_iload_n M dX6_isAsScene_52 rfl ?_
    exact r_zret M dX6_isAsScene_53 rfl (b2i_nr _) (by rw [hz]) rfl
  have loop : ∀ r k : Nat, k + r = 5 → B 5 [(0, .ref 0), (1, .int (nI i)), (2, .int x), (3, .int (b2i (eqf f g k))), (4, .int (nI k))] [] (MW th sv ln at9 pt nm op kp hs s tx bg tm) := by
    intro r
    induction r with
    | zero =>
      intro k hk
      obtain rfl : k = 5 := by omega
      refine r_iload M dX6_isAsScene_5 rfl ?_
      refine r_iconst M 5 dX6_isAsScene_7 (by decide) ?_
      refine r_icmp_ge M 52 dX6_isAsScene_8 (by decide) (fun _ => ?_) (fun h9 => absurd (nI_geT (n := 5) rfl (by omega) (by omega)) h9)
      exact out _ _ rfl
    | succ r ih =>
      intro k hk
      refine r_iload M dX6_isAsScene_5 rfl ?_
      refine r_iconst M 5 dX6_isAsScene_7 (by decide) ?_
      refine r_icmp_ge M 52 dX6_isAsScene_8 (by decide) (fun h9 => absurd h9 (nI_geF (n := 5) rfl (by omega) (by omega))) (fun _ => ?_)
      refine r_iload_n M dX6_isAsScene_11 rfl ?_
      cases he : eqf f g k
      · refine r_if_eq M 52 dX6_isAsScene_12 (by decide) (fun _ => ?_) (fun h9 => absurd rfl h9)
        exact out _ _ (eqf_stop he 5 (by omega)).symm
      · have nx : ∀ z : Bool, z = decide (f k = g k) → B 45 [(0, .ref 0), (1, .int (nI i)), (2, .int x), (3, .int (b2i true)), (4, .int (nI k))] [.int (b2i z)] (MW th sv ln at9 pt nm op kp hs s tx bg tm) := by
          intro z hz
          refine r_istore_n M dX6_isAsScene_45 (by decide) ?_
          refine r_iinc1 M dX6_isAsScene_46 rfl (by decide) ?_
          refine r_goto M 5 dX6_isAsScene_49 (by decide) ?_
          refine r_lvs M _ (lvs_c rfl (lvs_c rfl (lvs_c rfl (lvs_c ?_ (lvs_c ?_ lvs_n))))) (ih (k + 1) (by omega))
          · rw [eqf, he, ← hz]; rfl
          · rw [← nI_1]; rfl
        refine r_if_eq M 52 dX6_isAsScene_12 (by decide) (fun h9 => absurd h9 (by decide)) (fun _ => ?_)
        refine r_aload_n M dX6_isAsScene_15 rfl ?_
        refine r_get M fl_X6_7 dX6_isAsScene_16 rfl rfl ?_
        refine r_bipush M 82 dX6_isAsScene_19 (by decide) ?_
        refine r_iconst M 5 dX6_isAsScene_21 (by decide) ?_
        refine r_iload_n M dX6_isAsScene_22 rfl ?_
        refine r_imul M dX6_isAsScene_23 ?_
        refine r_iadd M dX6_isAsScene_24 ?_
        refine r_iload M dX6_isAsScene_25 rfl ?_
        refine r_iadd M dX6_isAsScene_27 ?_
        rw [six]
        refine r_iald M dX6_isAsScene_28 rfl (s_in (by omega)) ?_
        rw [cl_s (by omega), hgs k (by omega)]
        refine r_aload_n M dX6_isAsScene_29 rfl ?_
        refine r_iload M dX6_isAsScene_30 rfl ?_
        refine r_iload_n M dX6_isAsScene_32 rfl ?_
        refine r_iconst M (-1) dX6_isAsScene_33 (by decide) ?_
        refine r_V3ik M (hh k (by omega)) lk_X6_34 dX6_isAsScene_34 (by decide +kernel) ⟨Nat.le_of_ble_eq_true rfl, Nat.le_of_ble_eq_true rfl⟩ ⟨rfl, rfl⟩ [0, 1, 2, 3, 4] rfl rfl rfl (by decide +kernel) rfl (Nat.le_of_ble_eq_true rfl) ?_
        by_cases hq : f k = g k
        · refine r_icmp_ne M 44 dX6_isAsScene_37 (by decide) (fun h9 => absurd hq.symm h9) (fun _ => ?_)
          refine r_iconst M 1 dX6_isAsScene_40 (by decide) ?_
          refine r_goto M 45 dX6_isAsScene_41 (by decide) ?_
          exact nx true (decide_eq_true hq).symm
        · refine r_icmp_ne M 44 dX6_isAsScene_37 (by decide) (fun _ => ?_) (fun h9 => absurd h9 (fun e => hq e.symm))
          refine r_iconst M 0 dX6_isAsScene_44 (by decide) ?_
          exact nx false (decide_eq_false hq).symm
  refine r_iconst M 1 dX6_isAsScene_0 (by decide) ?_
  refine r_istore_n M dX6_isAsScene_1 (by decide) ?_
  refine r_iconst M 0 dX6_isAsScene_2 (by decide) ?_
  refine r_istore M dX6_isAsScene_3 (by decide) ?_
  exact r_lvs M _ (lvs_c rfl (lvs_c rfl (lvs_c rfl (lvs_c rfl (lvs_c rfl lvs_n))))) (loop 5 0 rfl)
theorem c_untilScene {d : SD} (hR : Rp s d) (hO : SOk d) (c i : Nat) (hc : sSc d = nI c) (hc6 : c ≤ 6) (hi : i < c) : Con yX6_untilScene cX6_untilScene 4 (some .int) (rmk 3 70) [.ref 0, .int (nI i)] (MW th sv ln at9 pt nm op kp hs s tx bg tm) (some (.int (untG d (nI i) (rN (sTe d) (sLo d) 5) 0))) (MW th sv ln at9 pt nm op kp hs s tx bg tm) := by
  refine Con.of (own := RX6) (by decide) rfl (Nat.le_of_ble_eq_true rfl) rfl (fun B M => ?_)
  have hb := rN_lt (sLo d) hO.te
  have hr := c_mRounds th sv ln at9 pt nm op kp hs s tx bg tm hR hO
  generalize rN (sTe d) (sLo d) 5 = n at M hb hr
  have loop : ∀ m k : Nat, k + m = n → untG d (nI i) n 0 = untG d (nI i) m k → B 7 [(0, .ref 0), (1, .int (nI i)), (2, .int (nI n)), (3, .int (nI k))] [] (MW th sv ln at9 pt nm op kp hs s tx bg tm) := by
    intro m
    induction m with
    | zero =>
      intro k hk he
      rw [untG] at he
      rw [he] at M
      refine r_iload_n M dX6_untilScene_7 rfl ?_
      refine r_iload_n M dX6_untilScene_8 rfl ?_
      refine r_icmp_ge M 29 dX6_untilScene_9 (by decide) (fun _ => ?_) (fun h9 => absurd (nI_le (by omega) (by omega)) h9)
      refine r_iconst M (-1) dX6_untilScene_29 (by decide) ?_
      exact r_iret M dX6_untilScene_30 rfl rfl rfl
    | succ m ih =>
      intro k hk he
      rw [untG] at he
      refine r_iload_n M dX6_untilScene_7 rfl ?_
      refine r_iload_n M dX6_untilScene_8 rfl ?_
      refine r_icmp_ge M 29 dX6_untilScene_9 (by decide) (fun h9 => absurd h9 (nI_ge (by omega) (by omega))) (fun _ => ?_)
      refine r_aload_n M dX6_untilScene_12 rfl ?_
      refine r_iload_n M dX6_untilScene_13 rfl ?_
      refine r_iload_n M dX6_untilScene_14 rfl ?_
      refine r_V2ik M (c_isAsScene th sv ln at9 pt nm op kp hs s tx bg tm hR hO c i hc hc6 hi (nI k)) lk_X6_142 dX6_untilScene_15 (by decide +kernel) ⟨Nat.le_of_ble_eq_true rfl, Nat.le_of_ble_eq_true rfl⟩ ⟨rfl, rfl⟩ [0, 1, 2, 3, 4] rfl rfl rfl (by decide +kernel) rfl (Nat.le_of_ble_eq_true rfl) ?_
      cases h : asSc (sTe d) (sTo d) (sLo d) (sHe d) (sScn d) (nI i) (nI k)
      · rw [if_neg (by rw [h]; decide)] at he
        refine r_if_eq M 23 dX6_untilScene_18 (by decide) (fun _ => ?_) (fun h9 => absurd rfl h9)
        refine r_iinc1 M dX6_untilScene_23 rfl (by decide) ?_
        refine r_goto M 7 dX6_untilScene_26 (by decide) ?_
        refine r_lvs M _ (lvs_c rfl (lvs_c rfl (lvs_c rfl (lvs_c ?_ lvs_n)))) (ih (k + 1) (by omega) he)
        rw [← nI_1]; rfl
      · rw [if_pos h] at he
        rw [he] at M
        refine r_if_eq M 23 dX6_untilScene_18 (by decide) (fun h9 => absurd h9 (by decide)) (fun _ => ?_)
        refine r_iload_n M dX6_untilScene_21 rfl ?_
        exact r_iret M dX6_untilScene_22 rfl rfl rfl
  refine r_aload_n M dX6_untilScene_0 rfl ?_
  refine r_V0ik M hr lk_X6_139 dX6_untilScene_1 (by decide +kernel) ⟨Nat.le_of_ble_eq_true rfl, Nat.le_of_ble_eq_true rfl⟩ ⟨rfl, rfl⟩ [0, 1, 2, 3, 4] rfl rfl rfl (by decide +kernel) rfl (Nat.le_of_ble_eq_true rfl) ?_
  refine r_istore_n M dX6_untilScene_4 (by decide) ?_
  refine r_iconst M 0 dX6_untilScene_5 (by decide) ?_
  refine r_istore_n M dX6_untilScene_6 (by decide) ?_
  exact r_lvs M _ (lvs_c rfl (lvs_c rfl (lvs_c rfl (lvs_c rfl lvs_n)))) (loop n 0 (by omega) rfl)
theorem c_isSceneAllowed {d : SD} (hR : Rp s d) (hO : SOk d) (c i : Nat) (hc : sSc d = nI c) (hc6 : c ≤ 6) (hi : i < c) : Con yX6_isSceneAllowed cX6_isSceneAllowed 6 (some .boolean) (rmk 0 0) [.ref 0, .int (nI i)] (MW th sv ln at9 pt nm op kp hs s tx bg tm) (some (.int (b2i (decide (fltOf (hSc (sScn d) (nI i) 0) (hSc (sScn d) (nI i) 1) (hSc (sScn d) (nI i) 2) (hSc (sScn d) (nI i) 3) (hSc (sScn d) (nI i) 4) (sSe d) = 0))))) (MW th sv ln at9 pt nm op kp hs s tx bg tm) := by
  refine Con.of (own := RX6) (by decide) rfl (Nat.le_of_ble_eq_true rfl) rfl (fun B M => ?_)
  have hs9 : ∀ k, k < 5 * (sSc d).toNatClampNeg → s (82 + k) = sScn d k := hR.2.2.2.2.2.2.2.2.2.2.2.1
  rw [hc, cl5 c (by omega)] at hs9
  have hse : s 75 = sSe d := hR.2.2.2.2.1
  have hgs : ∀ k, k < 5 → s (82 + 5 * i + k) = hSc (sScn d) (nI i) (nI k) := fun k hk => by
    rw [Nat.add_assoc]
    exact (hs9 _ (by omega)).trans (hSc_at _ i k (by omega) hk).symm
  have g0 : s (82 + 5 * i) = hSc (sScn d) (nI i) 0 := hgs 0 (by omega)
  have g1 : s (82 + 5 * i + 1) = hSc (sScn d) (nI i) 1 := hgs 1 (by omega)
  have g2 : s (82 + 5 * i + 2) = hSc (sScn d) (nI i) 2 := hgs 2 (by omega)
  have g3 : s (82 + 5 * i + 3) = hSc (sScn d) (nI i) 3 := hgs 3 (by omega)
  have g4 : s (82 + 5 * i + 4) = hSc (sScn d) (nI i) 4 := hgs 4 (by omega)
  generalize hSc (sScn d) (nI i) 0 = h0 at M g0
  generalize hSc (sScn d) (nI i) 1 = h1 at M g1
  generalize hSc (sScn d) (nI i) 2 = h2 at M g2
  generalize hSc (sScn d) (nI i) 3 = h3 at M g3
  generalize hSc (sScn d) (nI i) 4 = h4 at M g4
  have e0 : (82 : Int32) + 5 * nI i = nI (82 + 5 * i) := six i 0 ▸ (by rw [show nI 0 = 0 from rfl, Int32.add_zero])
  have e1 : nI (82 + 5 * i) + 1 = nI (82 + 5 * i + 1) := nI_add _ 1
  have e2 : nI (82 + 5 * i) + 2 = nI (82 + 5 * i + 2) := nI_add _ 2
  have e3 : nI (82 + 5 * i) + 3 = nI (82 + 5 * i + 3) := nI_add _ 3
  have e4 : nI (82 + 5 * i) + 4 = nI (82 + 5 * i + 4) := nI_add _ 4
  have last : ∀ a b z : Bool, (z = true ↔ (5 ≤ h0 ∧ 5 ≤ h1)) → (a = true ↔ 5 ≤ h2) → (b = true ↔ 5 ≤ h3) → B 73 [(0, .ref 0), (1, .int (nI i)), (2, .int (nI (82 + 5 * i))), (3, .int (b2i z)), (4, .int (b2i a)), (5, .int (b2i b))] [] (MW th sv ln at9 pt nm op kp hs s tx bg tm) := by
    intro a b z q3 q1 q2
    have no : ¬ fltOf h0 h1 h2 h3 h4 (sSe d) = 0 → B 119 [(0, .ref 0), (1, .int (nI i)), (2, .int (nI (82 + 5 * i))), (3, .int (b2i z)), (4, .int (b2i a)), (5, .int (b2i b))] [] (MW th sv ln at9 pt nm op kp hs s tx bg tm) := by
      intro hn
      rw [decide_eq_false hn] at M
      refine r_iconst M 0 dX6_isSceneAllowed_119 (by decide) ?_
      exact r_zret M dX6_isSceneAllowed_120 rfl (by decide) rfl rfl
    have yes : fltOf h0 h1 h2 h3 h4 (sSe d) = 0 → B 115 [(0, .ref 0), (1, .int (nI i)), (2, .int (nI (82 + 5 * i))), (3, .int (b2i z)), (4, .int (b2i a)), (5, .int (b2i b))] [] (MW th sv ln at9 pt nm op kp hs s tx bg tm) := by
      intro hn
      rw [decide_eq_true hn] at M
      refine r_iconst M 1 dX6_isSceneAllowed_115 (by decide) ?_
      refine r_goto M 120 dX6_isSceneAllowed_116 (by decide) ?_
      exact r_zret M dX6_isSceneAllowed_120 rfl (by decide) rfl rfl
    have tail : ¬ ((5 ≤ h2 ∨ 5 ≤ h3) ∧ ¬ (5 ≤ h0 ∧ 5 ≤ h1)) → B 87 [(0, .ref 0), (1, .int (nI i)), (2, .int (nI (82 + 5 * i))), (3, .int (b2i z)), (4, .int (b2i a)), (5, .int (b2i b))] [] (MW th sv ln at9 pt nm op kp hs s tx bg tm) := by
      intro hn
      rw [fltOf, if_neg hn] at no yes
      refine r_iload M dX6_isSceneAllowed_87 rfl ?_
      cases ha : a
      · rw [ha] at q1 no yes
        refine r_if_eq M 115 dX6_isSceneAllowed_89 (by decide) (fun _ => ?_) (fun h9 => absurd rfl h9)
        exact yes (if_neg (fun q => by have := q1.mpr q.1.1; cases this))
      · rw [ha] at q1 no yes
        refine r_if_eq M 115 dX6_isSceneAllowed_89 (by decide) (fun h9 => absurd h9 (by decide)) (fun _ => ?_)
        refine r_iload M dX6_isSceneAllowed_92 rfl ?_
        cases hb : b
        · rw [hb] at q2 no yes
          refine r_if_eq M 115 dX6_isSceneAllowed_94 (by decide) (fun _ => ?_) (fun h9 => absurd rfl h9)
          exact yes (if_neg (fun q => by have := q2.mpr q.1.2; cases this))
        · rw [hb] at q2 no yes
          refine r_if_eq M 115 dX6_isSceneAllowed_94 (by decide) (fun h9 => absurd h9 (by decide)) (fun _ => ?_)
          refine r_aload_n M dX6_isSceneAllowed_97 rfl ?_
          refine r_get M fl_X6_7 dX6_isSceneAllowed_98 rfl rfl ?_
          refine r_iload_n M dX6_isSceneAllowed_101 rfl ?_
          refine r_iconst M 4 dX6_isSceneAllowed_102 (by decide) ?_
          refine r_iadd M dX6_isSceneAllowed_103 ?_
          rw [e4]
          refine r_iald M dX6_isSceneAllowed_104 rfl (s_in (by omega)) ?_
          rw [cl_s (by omega), g4]
          refine r_aload_n M dX6_isSceneAllowed_105 rfl ?_
          refine r_get M fl_X6_7 dX6_isSceneAllowed_106 rfl rfl ?_
          refine r_bipush M 75 dX6_isSceneAllowed_109 (by decide) ?_
          refine r_iald M dX6_isSceneAllowed_111 rfl (s_in (j := 75) (by omega)) ?_
          rw [show (75 : Int32).toNatClampNeg = 75 from rfl, hse]
          by_cases hlt : sSe d < h4
          · refine r_icmp_gt M 119 dX6_isSceneAllowed_112 (by decide) (fun _ => ?_) (fun h9 => absurd hlt h9)
            exact no (by rw [if_pos ⟨⟨q1.mp rfl, q2.mp rfl⟩, hlt⟩]; decide)
          · refine r_icmp_gt M 119 dX6_isSceneAllowed_112 (by decide) (fun h9 => absurd h9 hlt) (fun _ => ?_)
            exact yes (if_neg (fun q => hlt q.2))
    have mid : (5 ≤ h2 ∨ 5 ≤ h3) → B 83 [(0, .ref 0), (1, .int (nI i)), (2, .int (nI (82 + 5 * i))), (3, .int (b2i z)), (4, .int (b2i a)), (5, .int (b2i b))] [] (MW th sv ln at9 pt nm op kp hs s tx bg tm) := by
      intro hor
      refine r_iload_n M dX6_isSceneAllowed_83 rfl ?_
      cases hz : z
      · rw [hz] at q3 no
        refine r_if_eq M 119 dX6_isSceneAllowed_84 (by decide) (fun _ => ?_) (fun h9 => absurd rfl h9)
        exact no (by rw [fltOf, if_pos ⟨hor, fun q => by have := q3.mpr q; cases this⟩]; decide)
      · subst hz
        refine r_if_eq M 119 dX6_isSceneAllowed_84 (by decide) (fun h9 => absurd h9 (by decide)) (fun _ => ?_)
        exact tail (fun q => q.2 (q3.mp rfl))
    refine r_iload M dX6_isSceneAllowed_73 rfl ?_
    cases ha : a
    · subst ha
      refine r_if_ne M 83 dX6_isSceneAllowed_75 (by decide) (fun h9 => absurd rfl h9) (fun _ => ?_)
      refine r_iload M dX6_isSceneAllowed_78 rfl ?_
      cases hb : b
      · subst hb
        refine r_if_eq M 87 dX6_isSceneAllowed_80 (by decide) (fun _ => ?_) (fun h9 => absurd rfl h9)
        refine tail (fun q => ?_)
        rcases q.1 with q | q
        · have := q1.mpr q; cases this
        · have := q2.mpr q; cases this
      · subst hb
        refine r_if_eq M 87 dX6_isSceneAllowed_80 (by decide) (fun h9 => absurd h9 (by decide)) (fun _ => ?_)
        exact mid (Or.inr (q2.mp rfl))
    · subst ha
      refine r_if_ne M 83 dX6_isSceneAllowed_75 (by decide) (fun _ => ?_) (fun h9 => absurd h9 (by decide))
      exact mid (Or.inl (q1.mp rfl))
  have p4 : ∀ a z : Bool, (z = true ↔ (5 ≤ h0 ∧ 5 ≤ h1)) → (a = true ↔ 5 ≤ h2) → B 52 [(0, .ref 0), (1, .int (nI i)), (2, .int (nI (82 + 5 * i))), (3, .int (b2i z))] [.int (b2i a)] (MW th sv ln at9 pt nm op kp hs s tx bg tm) := by
    intro a z q3 q1
    refine r_istore M dX6_isSceneAllowed_52 (by decide) ?_
    refine r_aload_n M dX6_isSceneAllowed_54 rfl ?_
    refine r_get M fl_X6_7 dX6_isSceneAllowed_55 rfl rfl ?_
    refine r_iload_n M dX6_isSceneAllowed_58 rfl ?_
    refine r_iconst M 3 dX6_isSceneAllowed_59 (by decide) ?_
    refine r_iadd M dX6_isSceneAllowed_60 ?_
    rw [e3]
    refine r_iald M dX6_isSceneAllowed_61 rfl (s_in (by omega)) ?_
    rw [cl_s (by omega), g3]
    refine r_iconst M 5 dX6_isSceneAllowed_62 (by decide) ?_
    refine r_icmp_lt M 70 dX6_isSceneAllowed_63 (by decide) (fun h => ?_) (fun h => ?_)
    · refine r_iconst M 0 dX6_isSceneAllowed_70 (by decide) ?_
      refine r_istore M dX6_isSceneAllowed_71 (by decide) ?_
      exact r_lvs M _ (lvs_c rfl (lvs_c rfl (lvs_c rfl (lvs_c rfl (lvs_c rfl (lvs_c rfl lvs_n)))))) (last a false z q3 q1 ⟨fun e => (by cases e), fun e => absurd e (nle5.mp h)⟩)
    · rw [nle5, Decidable.not_not] at h
      refine r_iconst M 1 dX6_isSceneAllowed_66 (by decide) ?_
      refine r_goto M 71 dX6_isSceneAllowed_67 (by decide) ?_
      refine r_istore M dX6_isSceneAllowed_71 (by decide) ?_
      exact r_lvs M _ (lvs_c rfl (lvs_c rfl (lvs_c rfl (lvs_c rfl (lvs_c rfl (lvs_c rfl lvs_n)))))) (last a true z q3 q1 ⟨fun _ => h, fun _ => rfl⟩)
  have p3 : ∀ z : Bool, (z = true ↔ (5 ≤ h0 ∧ 5 ≤ h1)) → B 34 [(0, .ref 0), (1, .int (nI i)), (2, .int (nI (82 + 5 * i)))] [.int (b2i z)] (MW th sv ln at9 pt nm op kp hs s tx bg tm) := by
    intro z q3
    refine r_istore_n M dX6_isSceneAllowed_34 (by decide) ?_
    refine r_aload_n M dX6_isSceneAllowed_35 rfl ?_
    refine r_get M fl_X6_7 dX6_isSceneAllowed_36 rfl rfl ?_
    refine r_iload_n M dX6_isSceneAllowed_39 rfl ?_
    refine r_iconst M 2 dX6_isSceneAllowed_40 (by decide) ?_
    refine r_iadd M dX6_isSceneAllowed_41 ?_
    rw [e2]
    refine r_iald M dX6_isSceneAllowed_42 rfl (s_in (by omega)) ?_
    rw [cl_s (by omega), g2]
    refine r_iconst M 5 dX6_isSceneAllowed_43 (by decide) ?_
    refine r_icmp_lt M 51 dX6_isSceneAllowed_44 (by decide) (fun h => ?_) (fun h => ?_)
    · refine r_iconst M 0 dX6_isSceneAllowed_51 (by decide) ?_
      exact r_lvs M _ (lvs_c rfl (lvs_c rfl (lvs_c rfl (lvs_c rfl lvs_n)))) (p4 false z q3 ⟨fun e => (by cases e), fun e => absurd e (nle5.mp h)⟩)
    · rw [nle5, Decidable.not_not] at h
      refine r_iconst M 1 dX6_isSceneAllowed_47 (by decide) ?_
      refine r_goto M 52 dX6_isSceneAllowed_48 (by decide) ?_
      exact r_lvs M _ (lvs_c rfl (lvs_c rfl (lvs_c rfl (lvs_c rfl lvs_n)))) (p4 true z q3 ⟨fun _ => h, fun _ => rfl⟩)
  refine r_bipush M 82 dX6_isSceneAllowed_0 (by decide) ?_
  refine r_iconst M 5 dX6_isSceneAllowed_2 (by decide) ?_
  refine r_iload_n M dX6_isSceneAllowed_3 rfl ?_
  refine r_imul M dX6_isSceneAllowed_4 ?_
  refine r_iadd M dX6_isSceneAllowed_5 ?_
  rw [e0]
  refine r_istore_n M dX6_isSceneAllowed_6 (by decide) ?_
  refine r_aload_n M dX6_isSceneAllowed_7 rfl ?_
  refine r_get M fl_X6_7 dX6_isSceneAllowed_8 rfl rfl ?_
  refine r_iload_n M dX6_isSceneAllowed_11 rfl ?_
  refine r_iald M dX6_isSceneAllowed_12 rfl (s_in (by omega)) ?_
  rw [cl_s (by omega), g0]
  refine r_iconst M 5 dX6_isSceneAllowed_13 (by decide) ?_
  refine r_icmp_lt M 33 dX6_isSceneAllowed_14 (by decide) (fun h => ?_) (fun h => ?_)
  · refine r_iconst M 0 dX6_isSceneAllowed_33 (by decide) ?_
    exact r_lvs M _ (lvs_c rfl (lvs_c rfl (lvs_c rfl lvs_n))) (p3 false ⟨fun e => (by cases e), fun e => absurd e.1 (nle5.mp h)⟩)
  · rw [nle5, Decidable.not_not] at h
    refine r_aload_n M dX6_isSceneAllowed_17 rfl ?_
    refine r_get M fl_X6_7 dX6_isSceneAllowed_18 rfl rfl ?_
    refine r_iload_n M dX6_isSceneAllowed_21 rfl ?_
    refine r_iconst M 1 dX6_isSceneAllowed_22 (by decide) ?_
    refine r_iadd M dX6_isSceneAllowed_23 ?_
    rw [e1]
    refine r_iald M dX6_isSceneAllowed_24 rfl (s_in (by omega)) ?_
    rw [cl_s (by omega), g1]
    refine r_iconst M 5 dX6_isSceneAllowed_25 (by decide) ?_
    refine r_icmp_lt M 33 dX6_isSceneAllowed_26 (by decide) (fun h2 => ?_) (fun h2 => ?_)
    · refine r_iconst M 0 dX6_isSceneAllowed_33 (by decide) ?_
      exact r_lvs M _ (lvs_c rfl (lvs_c rfl (lvs_c rfl lvs_n))) (p3 false ⟨fun e => (by cases e), fun e => absurd e.2 (nle5.mp h2)⟩)
    · rw [nle5, Decidable.not_not] at h2
      refine r_iconst M 1 dX6_isSceneAllowed_29 (by decide) ?_
      refine r_goto M 34 dX6_isSceneAllowed_30 (by decide) ?_
      exact r_lvs M _ (lvs_c rfl (lvs_c rfl (lvs_c rfl lvs_n))) (p3 true ⟨fun _ => ⟨h, h2⟩, fun _ => rfl⟩)
end


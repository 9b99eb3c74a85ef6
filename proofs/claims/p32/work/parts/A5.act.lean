/-! act: a deed that does not throw -/
theorem good_fl {d : SD} {te to : Nat → Int32} {lo : Nat → Bool} {he : Nat → Int32} {se wh ht : Int32} (h : goodG d wh ht se = true) (e : ∀ j, j < 5 → hB te to lo he (nI j) 0 = ghG d wh ht j) : fltB te to lo he 0 se = 0 := by
  rw [goodG, decide_eq_true_iff] at h
  have e0 := e 0 (by omega)
  have e1 := e 1 (by omega)
  have e2 := e 2 (by omega)
  have e3 := e 3 (by omega)
  have e4 := e 4 (by omega)
  rw [show nI 0 = 0 from rfl] at e0
  rw [show nI 1 = 1 from rfl] at e1
  rw [show nI 2 = 2 from rfl] at e2
  rw [show nI 3 = 3 from rfl] at e3
  rw [show nI 4 = 4 from rfl] at e4
  rw [fltB, e0, e1, e2, e3, e4]
  exact h
theorem nI_inj5 {i w : Nat} (hi : i < 60) (hw : w < 60) : nI i = nI w ↔ i = w := nI_eq (by omega) (by omega)
theorem ghG_at (d : SD) (w : Nat) (ht : Int32) : ghG d (nI w) ht w = ht := by rw [ghG, if_pos rfl]
theorem ghG_ne (d : SD) {w i : Nat} (hi : i < 60) (hw : w < 60) (h : i ≠ w) (ht : Int32) : ghG d (nI w) ht i = hB (sTe d) (sTo d) (sLo d) (sHe d) (nI i) 0 := by rw [ghG, if_neg (fun z => h ((nI_inj5 hi hw).mp z))]
theorem sb_rng (f : Nat → Bool) : ∀ n : Nat, ∃ m : Nat, m ≤ n ∧ sumf (fun i => b2i (f i)) n = nI m
  | 0 => ⟨0, by omega, rfl⟩
  | n + 1 => by
    obtain ⟨m, h1, h2⟩ := sb_rng f n
    cases hf : f n with
    | false => exact ⟨m, by omega, by rw [sumf, h2, hf]; exact Int32.add_zero _⟩
    | true => exact ⟨m + 1, by omega, by rw [sumf, h2, hf, ← nI_1]; rfl⟩
theorem b2i_ge (b : Bool) : 0 ≤ (b2i b).toInt := by cases b <;> decide
theorem nI_ge0 {m : Nat} (h : m < 2 ^ 31) : 0 ≤ (nI m).toInt := by rw [nI_toInt h]; omega
/-- hand's picture -/
theorem hand_fl {d : SD} (hO : SOk d) {w T m b : Nat} (hw : w < 5) (hT : T ≤ 11) (hm2 : 2 ≤ m) (hm : m ≤ 12) (hte : sTe d w = nI m) (hb : b < m) (hto : sTo d w = nI b) (h : goodG d (nI w) (hAt (sHe d) (nI w) (nI ((b + T) % m))) (sSe d) = true) : fltB (sTe d) (toH d w (nI T)) (sLo d) (sHe d) 0 (sSe d) = 0 := by
  refine good_fl h (fun j hj => ?_)
  have e : (if sLo d j = true then (0 : Int32) else 0) = 0 := by split <;> rfl
  by_cases hjw : j = w
  · subst hjw
    rw [ghG_at, hB, tpB, cl5 j (by omega), e, Int32.add_zero, toH, upd_eq, hto, hte, nI_add, md_nat _ _ (by omega) (by omega) (by omega), md_id (Nat.mod_lt _ (by omega)) hm]
  · rw [ghG_ne d (by omega) (by omega) hjw, hB, hB, tpB, tpB, cl5 j (by omega), e, Int32.add_zero, Int32.add_zero, toH, upd_ne hjw]
/-- the top's height is that of its tooth -/
theorem top_h {te to : Nat → Int32} (lo : Nat → Bool) (he : Nat → Int32) {w m b : Nat} (hw : w < 5) (hm : m ≤ 12) (hte : te w = nI m) (hb : b < m) (hto : to w = nI b) : hB te to lo he (nI w) 0 = he (12 * w + b) := hB_0 te to lo he hw hte hto hb hm
theorem file_fl {d : SD} (hO : SOk d) (hal : alD d = true) {w tt : Nat} (hw : w < 5) {m b : Nat} (hm : m ≤ 12) (hte : sTe d w = nI m) (hb : b < m) (hto : sTo d w = nI b) (htt : tt < m) {y : Int32} (h : tt ≠ b ∨ goodG d (nI w) y (sSe d) = true) : fltB (sTe d) (sTo d) (sLo d) (putH (sHe d) (nI w) (nI tt) y) 0 (sSe d) = 0 := by
  by_cases htb : tt = b
  · have hg : goodG d (nI w) y (sSe d) = true := by
      rcases h with h | h
      · exact absurd htb h
      · exact h
    refine good_fl hg (fun j hj => ?_)
    by_cases hjw : j = w
    · subst hjw
      rw [ghG_at, top_h (sLo d) _ hj hm hte hb hto, putH_at _ j tt y hj (by omega), htb, upd_eq]
    · obtain ⟨mj, bj, q1, q2, q3, q4, q5⟩ := hO.1 j hj
      rw [ghG_ne d (by omega) (by omega) hjw, top_h (sLo d) _ hj q2 q3 q4 q5, top_h (sLo d) _ hj q2 q3 q4 q5, putH_at _ w tt y hw (by omega), upd_ne (by omega)]
  · rw [al_iff] at hal
    refine Eq.trans ?_ hal
    have key : ∀ j, j < 5 → hB (sTe d) (sTo d) (sLo d) (putH (sHe d) (nI w) (nI tt) y) (nI j) 0 = hB (sTe d) (sTo d) (sLo d) (sHe d) (nI j) 0 := fun j hj => by
      obtain ⟨mj, bj, q1, q2, q3, q4, q5⟩ := hO.1 j hj
      rw [top_h (sLo d) _ hj q2 q3 q4 q5, top_h (sLo d) _ hj q2 q3 q4 q5, putH_at _ w tt y hw (by omega), upd_ne]
      intro z
      have : j = w := by omega
      subst this
      have hb9 : nI bj = nI b := by rw [← q5, hto]
      have := (nI_inj5 (by omega) (by omega)).mp hb9
      omega
    have k0 := key 0 (by omega)
    have k1 := key 1 (by omega)
    have k2 := key 2 (by omega)
    have k3 := key 3 (by omega)
    have k4 := key 4 (by omega)
    rw [show nI 0 = 0 from rfl] at k0
    rw [show nI 1 = 1 from rfl] at k1
    rw [show nI 2 = 2 from rfl] at k2
    rw [show nI 3 = 3 from rfl] at k3
    rw [show nI 4 = 4 from rfl] at k4
    rw [fltB, fltB, k0, k1, k2, k3, k4]
theorem set_fl {d : SD} {x : Int32} (h : goodG d (-1) 0 x = true) : fltB (sTe d) (sTo d) (sLo d) (sHe d) 0 x = 0 := by
  refine good_fl h (fun j hj => ?_)
  rw [ghG, if_neg]
  intro z
  have := congrArg Int32.toInt z
  rw [nI_toInt (by omega), show (-1 : Int32).toInt = -1 from rfl] at this
  omega
/-- the arguments of turn -/
theorem tuP {s : Nat} (h1 : 1 ≤ s) (h6 : s ≤ 60) : ¬ nI s = 0 ∧ ¬ nI s < -60 ∧ nI s ≤ 60 ∧ (1 : Int32) = (if 0 < nI s then 1 else -1) ∧ (if 0 < nI s then nI s else -nI s) = nI s := by
  have hp : 0 < nI s := (ltIc (N := 0) (n := 0) rfl).mpr (by rw [nI_toInt (by omega)]; omega)
  refine ⟨nI_ne0 (by omega) (by omega), fun z => ?_, (leIc2 (n := 60) rfl).mpr (by rw [nI_toInt (by omega)]; omega), by rw [if_pos hp], by rw [if_pos hp]⟩
  have := (ltIc2 (n := -60) rfl).mp z
  rw [nI_toInt (by omega)] at this
  omega
theorem nI_neg {s : Nat} (h : s < 2 ^ 30) : (-(nI s)).toInt = -(s : Int) := by
  rw [Int32.toInt_neg, nI_toInt (by omega), Int.bmod_eq_of_le (by omega) (by omega)]
theorem tuN {s : Nat} (h1 : 1 ≤ s) (h6 : s ≤ 60) : ¬ -(nI s) = 0 ∧ ¬ -(nI s) < -60 ∧ -(nI s) ≤ 60 ∧ (-1 : Int32) = (if 0 < -(nI s) then 1 else -1) ∧ (if 0 < -(nI s) then -(nI s) else -(-(nI s))) = nI s := by
  have hi := nI_neg (s := s) (by omega)
  have hp : ¬ 0 < -(nI s) := fun z => by
    have := (ltIc (N := 0) (n := 0) rfl).mp z
    omega
  refine ⟨fun z => ?_, fun z => ?_, (leIc2 (n := 60) rfl).mpr (by omega), by rw [if_neg hp], by rw [if_neg hp, Int32.neg_neg]⟩
  · rw [z] at hi
    have : (0 : Int32).toInt = 0 := rfl
    omega
  · have := (ltIc2 (n := -60) rfl).mp z
    omega
def actT (n : Nat) : Nat := match n with
  | 0 => 100 | 1 => 105 | 2 => 132 | 3 => 132 | 4 => 138 | 5 => 201 | 6 => 201 | 7 => 201 | 8 => 201 | 9 => 260 | 10 => 270 | 11 => 295 | 12 => 324 | _ => 368
abbrev aW (y : Int32) : Nat := upG y 5
abbrev aT (y : Int32) : Nat := 1 + upG (y >>> (3 &&& 31)) 11
abbrev aH (y : Int32) : Nat := upG (y >>> (7 &&& 31)) 10
theorem aT_le (y : Int32) : aT y ≤ 11 := by
  have h : upG (y >>> (3 &&& 31)) 11 < 11 := upG_lt (by decide)
  show 1 + upG (y >>> (3 &&& 31)) 11 ≤ 11
  omega
theorem aT_ge (y : Int32) : 1 ≤ aT y := by
  show 1 ≤ 1 + upG (y >>> (3 &&& 31)) 11
  omega
abbrev aLv (x y : Int32) : List (Nat × Value) := [(0, .ref 0), (1, .int x), (2, .int y), (3, .int (nI (aW y))), (4, .int (nI (aT y))), (5, .int (nI (aH y)))]
section
variable {d d1 d' : SD} {k : Nat} {rm : Nat → Nat} {R : Nat → SD} {t t' : WD} {v : Int32} {x y : Int32} {B : KT}
abbrev MA (d d1 d' : SD) (k : Nat) (rm : Nat → Nat) (R : Nat → SD) (t' : WD) (v : Int32) (k9 n9 : Nat) (B : KT) : Prop := MG RL cL_act 9 (some .int) (rmn 8 1 5 197) k9 n9 (XM (some (.int v)) (OW d' d1 (puK k) (puM k rm) (puR k rm R d) t') 1 5) B
abbrev QA (d d1 d' : SD) (k : Nat) (rm : Nat → Nat) (R : Nat → SD) (t t' : WD) (x y v : Int32) : Prop := QC 95 yL_act cL_act 9 (some .int) (rmn 8 1 5 197) [.ref 0, .int x, .int y] (OW d d1 k rm R t) (some (.int v)) (OW d' d1 (puK k) (puM k rm) (puR k rm R d) t')
theorem act_go (hrm : ∀ j, rm j < 6) (P : Nat) (hP : actT (upG x 20) = P) (h : ∀ B, MA d d1 d' k rm R t' v 0 0 B → B P (aLv x y) [] (OW d d1 k rm R t)) : QA d d1 d' k rm R t t' x y v := by
  subst hP
  refine QC.of (own := RL) (by decide) rfl (Nat.le_of_ble_eq_true rfl) rfl ow_len (ow_cl hrm) (ow_cl (puM_ok hrm)) (fun B M => ?_)
  have h := h B M
  have hu : ∀ v : Int32, ∀ n : Nat, 0 < n → n < 2 ^ 31 → QC 95 yL_up cL_up 2 (some .int) (rmk 0 0) [.int v, .int (nI n)] (OW d d1 k rm R t) (some (.int (nI (upG v n)))) (OW d d1 k rm R t) := fun v n h0 hn => l_up ow_len (ow_cl hrm) v n h0 hn
  refine g_iload_n M dL_act_0 rfl ?_
  refine g_iconst M 5 dL_act_1 (by decide) ?_
  refine q_S2i M (hu y 5 (by decide) (by decide)) lk_L_32 dL_act_2 (by decide +kernel) ⟨Nat.le_of_ble_eq_true rfl, Nat.le_of_ble_eq_true rfl⟩ ⟨rfl, rfl⟩ nd95 rfl (Nat.le_of_ble_eq_true rfl) ?_
  refine g_istore_n M dL_act_5 (by decide) ?_
  refine g_iconst M 1 dL_act_6 (by decide) ?_
  refine g_iload_n M dL_act_7 rfl ?_
  refine g_iconst M 3 dL_act_8 (by decide) ?_
  refine g_ishr M dL_act_9 ?_
  refine g_bipush M 11 dL_act_10 (by decide) ?_
  refine q_S2i M (hu (y >>> (3 &&& 31)) 11 (by decide) (by decide)) lk_L_32 dL_act_12 (by decide +kernel) ⟨Nat.le_of_ble_eq_true rfl, Nat.le_of_ble_eq_true rfl⟩ ⟨rfl, rfl⟩ nd95 rfl (Nat.le_of_ble_eq_true rfl) ?_
  refine g_iadd M dL_act_15 ?_
  rw [show (1 : Int32) = nI 1 from rfl, nI_add]
  refine g_istore M dL_act_16 (by decide) ?_
  refine g_iload_n M dL_act_18 rfl ?_
  refine g_bipush M 7 dL_act_19 (by decide) ?_
  refine g_ishr M dL_act_21 ?_
  refine g_bipush M 10 dL_act_22 (by decide) ?_
  refine q_S2i M (hu (y >>> (7 &&& 31)) 10 (by decide) (by decide)) lk_L_32 dL_act_24 (by decide +kernel) ⟨Nat.le_of_ble_eq_true rfl, Nat.le_of_ble_eq_true rfl⟩ ⟨rfl, rfl⟩ nd95 rfl (Nat.le_of_ble_eq_true rfl) ?_
  refine g_istore M dL_act_27 (by decide) ?_
  refine g_iload_n M dL_act_29 rfl ?_
  refine g_bipush M 20 dL_act_30 (by decide) ?_
  refine q_S2i M (hu x 20 (by decide) (by decide)) lk_L_32 dL_act_32 (by decide +kernel) ⟨Nat.le_of_ble_eq_true rfl, Nat.le_of_ble_eq_true rfl⟩ ⟨rfl, rfl⟩ nd95 rfl (Nat.le_of_ble_eq_true rfl) ?_
  have hlt : upG x 20 < 20 := upG_lt (by decide)
  generalize upG x 20 = n at h hlt ⊢
  have h2 : B (actT n) (aLv x y) [] (OW d d1 k rm R t) := h
  rcases Nat.lt_or_ge n 13 with hn | hn
  · rcases (by omega : n = 0 ∨ n = 1 ∨ n = 2 ∨ n = 3 ∨ n = 4 ∨ n = 5 ∨ n = 6 ∨ n = 7 ∨ n = 8 ∨ n = 9 ∨ n = 10 ∨ n = 11 ∨ n = 12) with rfl | rfl | rfl | rfl | rfl | rfl | rfl | rfl | rfl | rfl | rfl | rfl | rfl
    · refine g_tabIn M (off := 65) 100 dL_act_35 (by decide) (by decide) rfl (by decide) ?_
      exact g_lvs M _ (lvs_c rfl (lvs_c rfl (lvs_c rfl (lvs_c rfl (lvs_c rfl (lvs_c rfl lvs_n)))))) h2
    · refine g_tabIn M (off := 70) 105 dL_act_35 (by decide) (by decide) rfl (by decide) ?_
      exact g_lvs M _ (lvs_c rfl (lvs_c rfl (lvs_c rfl (lvs_c rfl (lvs_c rfl (lvs_c rfl lvs_n)))))) h2
    · refine g_tabIn M (off := 97) 132 dL_act_35 (by decide) (by decide) rfl (by decide) ?_
      exact g_lvs M _ (lvs_c rfl (lvs_c rfl (lvs_c rfl (lvs_c rfl (lvs_c rfl (lvs_c rfl lvs_n)))))) h2
    · refine g_tabIn M (off := 97) 132 dL_act_35 (by decide) (by decide) rfl (by decide) ?_
      exact g_lvs M _ (lvs_c rfl (lvs_c rfl (lvs_c rfl (lvs_c rfl (lvs_c rfl (lvs_c rfl lvs_n)))))) h2
    · refine g_tabIn M (off := 103) 138 dL_act_35 (by decide) (by decide) rfl (by decide) ?_
      exact g_lvs M _ (lvs_c rfl (lvs_c rfl (lvs_c rfl (lvs_c rfl (lvs_c rfl (lvs_c rfl lvs_n)))))) h2
    · refine g_tabIn M (off := 166) 201 dL_act_35 (by decide) (by decide) rfl (by decide) ?_
      exact g_lvs M _ (lvs_c rfl (lvs_c rfl (lvs_c rfl (lvs_c rfl (lvs_c rfl (lvs_c rfl lvs_n)))))) h2
    · refine g_tabIn M (off := 166) 201 dL_act_35 (by decide) (by decide) rfl (by decide) ?_
      exact g_lvs M _ (lvs_c rfl (lvs_c rfl (lvs_c rfl (lvs_c rfl (lvs_c rfl (lvs_c rfl lvs_n)))))) h2
    · refine g_tabIn M (off := 166) 201 dL_act_35 (by decide) (by decide) rfl (by decide) ?_
      exact g_lvs M _ (lvs_c rfl (lvs_c rfl (lvs_c rfl (lvs_c rfl (lvs_c rfl (lvs_c rfl lvs_n)))))) h2
    · refine g_tabIn M (off := 166) 201 dL_act_35 (by decide) (by decide) rfl (by decide) ?_
      exact g_lvs M _ (lvs_c rfl (lvs_c rfl (lvs_c rfl (lvs_c rfl (lvs_c rfl (lvs_c rfl lvs_n)))))) h2
    · refine g_tabIn M (off := 225) 260 dL_act_35 (by decide) (by decide) rfl (by decide) ?_
      exact g_lvs M _ (lvs_c rfl (lvs_c rfl (lvs_c rfl (lvs_c rfl (lvs_c rfl (lvs_c rfl lvs_n)))))) h2
    · refine g_tabIn M (off := 235) 270 dL_act_35 (by decide) (by decide) rfl (by decide) ?_
      exact g_lvs M _ (lvs_c rfl (lvs_c rfl (lvs_c rfl (lvs_c rfl (lvs_c rfl (lvs_c rfl lvs_n)))))) h2
    · refine g_tabIn M (off := 260) 295 dL_act_35 (by decide) (by decide) rfl (by decide) ?_
      exact g_lvs M _ (lvs_c rfl (lvs_c rfl (lvs_c rfl (lvs_c rfl (lvs_c rfl (lvs_c rfl lvs_n)))))) h2
    · refine g_tabIn M (off := 289) 324 dL_act_35 (by decide) (by decide) rfl (by decide) ?_
      exact g_lvs M _ (lvs_c rfl (lvs_c rfl (lvs_c rfl (lvs_c rfl (lvs_c rfl (lvs_c rfl lvs_n)))))) h2
  · refine g_tabOut M 368 dL_act_35 (Or.inr (by rw [nI_toInt (by omega)]; omega)) (by decide) ?_
    have e : actT n = 368 := by
      obtain ⟨q, rfl⟩ : ∃ q, n = q + 13 := ⟨n - 13, by omega⟩
      rfl
    rw [e] at h2
    exact g_lvs M _ (lvs_c rfl (lvs_c rfl (lvs_c rfl (lvs_c rfl (lvs_c rfl (lvs_c rfl lvs_n)))))) h2
theorem a_100 (hrm : ∀ j, rm j < 6) (hk : k ≤ 6) (M : MA d d1 (liD d true) k rm R t (b2i (cau (sSt d) (sCr d) (sLi d))) 0 0 B) : B 100 (aLv x y) [] (OW d d1 k rm R t) := by
  refine g_aload_n M dL_act_100 rfl ?_
  refine q_V0i M (l_lift hrm hk) lk_L_37 dL_act_101 (by decide +kernel) ⟨Nat.le_of_ble_eq_true rfl, Nat.le_of_ble_eq_true rfl⟩ ⟨rfl, rfl⟩ nd95 rfl rfl rfl (Nat.le_of_ble_eq_true rfl) ?_
  exact m_iret M dL_act_104 rfl rfl ((List.append_nil _).symm)
theorem a_105 (hrm : ∀ j, rm j < 6) (hk : k ≤ 6) (j : Nat) (hj : j < 60) (h0 : y &&& 3 = 0 → md (sCr d) 60 = nI j) (h1 : ¬ y &&& 3 = 0 → j = upG (y >>> (2 &&& 31)) 60) (M : MA d d1 (stD d j) k rm R t (sumf (fun i => b2i (va_up (sSt d) j (!(sSt d) j) i)) 60) 0 0 B) : B 105 (aLv x y) [] (OW d d1 k rm R t) := by
  have go : B 128 (aLv x y) [.int (nI j), .ref 0] (OW d d1 k rm R t) := by
    refine q_V1i M (l_stop hrm hk j hj) lk_L_41 dL_act_128 (by decide +kernel) ⟨Nat.le_of_ble_eq_true rfl, Nat.le_of_ble_eq_true rfl⟩ ⟨rfl, rfl⟩ nd95 rfl rfl rfl (Nat.le_of_ble_eq_true rfl) ?_
    exact m_iret M dL_act_131 rfl rfl ((List.append_nil _).symm)
  refine g_aload_n M dL_act_105 rfl ?_
  refine g_iload_n M dL_act_106 rfl ?_
  refine g_iconst M 3 dL_act_107 (by decide) ?_
  refine g_iand M dL_act_108 ?_
  refine g_if_ne M 120 dL_act_109 (by decide) (fun h => ?_) (fun h => ?_)
  · refine g_iload_n M dL_act_120 rfl ?_
    refine g_iconst M 2 dL_act_121 (by decide) ?_
    refine g_ishr M dL_act_122 ?_
    refine g_bipush M 60 dL_act_123 (by decide) ?_
    refine q_S2i M (l_up ow_len (ow_cl hrm) (y >>> (2 &&& 31)) 60 (by decide) (by decide)) lk_L_32 dL_act_125 (by decide +kernel) ⟨Nat.le_of_ble_eq_true rfl, Nat.le_of_ble_eq_true rfl⟩ ⟨rfl, rfl⟩ nd95 rfl (Nat.le_of_ble_eq_true rfl) ?_
    rw [← h1 h]
    exact go
  · refine g_aload_n M dL_act_112 rfl ?_
    refine g_iconst M 1 dL_act_113 (by decide) ?_
    refine q_V1i M (l_cnt1 hrm) lk_L_13 dL_act_114 (by decide +kernel) ⟨Nat.le_of_ble_eq_true rfl, Nat.le_of_ble_eq_true rfl⟩ ⟨rfl, rfl⟩ nd95 rfl rfl rfl (Nat.le_of_ble_eq_true rfl) ?_
    rw [h0 h]
    refine g_goto M 128 dL_act_117 (by decide) ?_
    exact go
theorem a_132 (hrm : ∀ j, rm j < 6) (hk : k ≤ 6) (M : MA d d1 (kD d (aW y)) k rm R t (b2i (va_up (sLo d) (aW y) (!(sLo d) (aW y)) (aW y))) 0 0 B) : B 132 (aLv x y) [] (OW d d1 k rm R t) := by
  refine g_aload_n M dL_act_132 rfl ?_
  refine g_iload_n M dL_act_133 rfl ?_
  refine q_V1i M (l_clutch hrm hk (aW y) (upG_lt (by decide))) lk_L_44 dL_act_134 (by decide +kernel) ⟨Nat.le_of_ble_eq_true rfl, Nat.le_of_ble_eq_true rfl⟩ ⟨rfl, rfl⟩ nd95 rfl rfl rfl (Nat.le_of_ble_eq_true rfl) ?_
  exact m_iret M dL_act_137 rfl rfl ((List.append_nil _).symm)
/-- the hand's tooth -/
theorem a_138 (hrm : ∀ j, rm j < 6) {hO : SOk d} {m b : Nat} (hm2 : 2 ≤ m) (hm : m ≤ 12) (hte : sTe d (aW y) = nI m) (hb : b < m) (hto : sTo d (aW y) = nI b) (M : MA d d1 d' k rm R t' v 0 0 B)
    (kL : (sLo d (aW y) = true ∨ goodG d (nI (aW y)) (hAt (sHe d) (nI (aW y)) (nI ((b + aT y) % m))) (sSe d) = false) → ∀ k9 n9 B2, MA d d1 d' k rm R t' v k9 n9 B2 → B2 196 [(0, .ref 0)] [] (OW d d1 k rm R t))
    (kH : sLo d (aW y) = false → goodG d (nI (aW y)) (hAt (sHe d) (nI (aW y)) (nI ((b + aT y) % m))) (sSe d) = true → ∀ k9 n9 B2, MA d d1 d' k rm R t' v k9 n9 B2 → B2 186 [(0, .ref 0), (3, .int (nI (aW y))), (4, .int (nI (aT y)))] [] (OW d d1 k rm R t)) : B 138 (aLv x y) [] (OW d d1 k rm R t) := by
  have hte5 := hO.1.te
  have hw : aW y < 5 := upG_lt (by decide)
  have hT : aT y ≤ 11 := aT_le y
  refine g_aload_n M dL_act_138 rfl ?_
  refine g_iload_n M dL_act_139 rfl ?_
  refine g_aload_n M dL_act_140 rfl ?_
  refine g_iload_n M dL_act_141 rfl ?_
  refine g_iconst M 1 dL_act_142 (by decide) ?_
  refine q_V2i M (l_wh1 hrm hte5 (aW y) hw) lk_L_19 dL_act_143 (by decide +kernel) ⟨Nat.le_of_ble_eq_true rfl, Nat.le_of_ble_eq_true rfl⟩ ⟨rfl, rfl⟩ nd95 rfl rfl rfl (Nat.le_of_ble_eq_true rfl) ?_
  refine g_iload M dL_act_146 rfl ?_
  refine g_iadd M dL_act_148 ?_
  rw [hto, nI_add]
  refine g_aload_n M dL_act_149 rfl ?_
  refine g_iload_n M dL_act_150 rfl ?_
  refine g_iconst M 0 dL_act_151 (by decide) ?_
  refine q_V2i M (l_wh0 hrm hte5 (aW y) hw) lk_L_19 dL_act_152 (by decide +kernel) ⟨Nat.le_of_ble_eq_true rfl, Nat.le_of_ble_eq_true rfl⟩ ⟨rfl, rfl⟩ nd95 rfl rfl rfl (Nat.le_of_ble_eq_true rfl) ?_
  rw [hte]
  refine g_irem M dL_act_155 (nI_ne0 (by omega) (by omega)) ?_
  rw [pk_rem (by omega) (by omega) (by omega)]
  have hlt := Nat.mod_lt (b + aT y) (show 0 < m by omega)
  have hth : isTth d (nI (aW y)) (nI ((b + aT y) % m)) = true := by
    rw [isTth, Bool.and_eq_true, cl5 (aW y) (by omega), hte, iswh, decide_eq_true_iff, decide_eq_true_iff, nI_toInt (by omega), nI_toInt (by omega), nI_ltI (by omega) (by omega)]
    omega
  refine q_V2i M (l_tooth hrm (nI (aW y)) (nI ((b + aT y) % m)) hth) lk_L_23 dL_act_156 (by decide +kernel) ⟨Nat.le_of_ble_eq_true rfl, Nat.le_of_ble_eq_true rfl⟩ ⟨rfl, rfl⟩ nd95 rfl rfl rfl (Nat.le_of_ble_eq_true rfl) ?_
  refine g_istore M dL_act_159 (by decide) ?_
  refine g_aload_n M dL_act_161 rfl ?_
  refine g_iload_n M dL_act_162 rfl ?_
  refine g_iconst M 4 dL_act_163 (by decide) ?_
  refine q_V2i M (l_wh4 hrm hte5 (aW y) hw) lk_L_19 dL_act_164 (by decide +kernel) ⟨Nat.le_of_ble_eq_true rfl, Nat.le_of_ble_eq_true rfl⟩ ⟨rfl, rfl⟩ nd95 rfl rfl rfl (Nat.le_of_ble_eq_true rfl) ?_
  cases hlo : sLo d (aW y) with
  | true =>
    refine g_if_ne M 196 dL_act_167 (by decide) (fun _ => ?_) (fun h9 => absurd h9 (by decide))
    exact g_lvs M _ (lvs_c rfl lvs_n) (kL (Or.inl hlo) _ _ _ M)
  | false =>
    refine g_if_ne M 196 dL_act_167 (by decide) (fun h9 => absurd (show b2i false = 0 from rfl) h9) (fun _ => ?_)
    refine g_aload_n M dL_act_170 rfl ?_
    refine g_iload_n M dL_act_171 rfl ?_
    refine g_iload M dL_act_172 rfl ?_
    refine g_aload_n M dL_act_174 rfl ?_
    refine g_bipush M 9 dL_act_175 (by decide) ?_
    refine q_V1i M (l_cnt9 hrm) lk_L_13 dL_act_177 (by decide +kernel) ⟨Nat.le_of_ble_eq_true rfl, Nat.le_of_ble_eq_true rfl⟩ ⟨rfl, rfl⟩ nd95 rfl rfl rfl (Nat.le_of_ble_eq_true rfl) ?_
    refine m_S4i M (c_isGood hrm hte5 (nI (aW y)) (hAt (sHe d) (nI (aW y)) (nI ((b + aT y) % m))) (sSe d)) lk_L_47 dL_act_180 (by decide +kernel) ⟨Nat.le_of_ble_eq_true rfl, Nat.le_of_ble_eq_true rfl⟩ ⟨Nat.le_of_ble_eq_true rfl, Nat.le_of_ble_eq_true rfl⟩ nd95 rfl (Nat.le_of_ble_eq_true rfl) (fun B M => ?_)
    cases hg : goodG d (nI (aW y)) (hAt (sHe d) (nI (aW y)) (nI ((b + aT y) % m))) (sSe d) with
    | false =>
      refine g_if_eq M 196 dL_act_183 (by decide) (fun _ => ?_) (fun h9 => absurd rfl h9)
      exact g_lvs M _ (lvs_c rfl lvs_n) (kL (Or.inr hg) _ _ _ M)
    | true =>
      refine g_if_eq M 196 dL_act_183 (by decide) (fun h9 => absurd h9 (by decide)) (fun _ => ?_)
      exact g_lvs M _ (lvs_c rfl (lvs_c rfl (lvs_c rfl lvs_n))) (kH hlo hg _ _ _ M)
theorem a_196 (hrm : ∀ j, rm j < 6) (hk : k ≤ 6) {k9 n9 : Nat} (M : MA d d1 (liD d true) k rm R t (b2i (cau (sSt d) (sCr d) (sLi d))) k9 n9 B) : B 196 [(0, .ref 0)] [] (OW d d1 k rm R t) := by
  refine g_aload_n M dL_act_196 rfl ?_
  refine q_V0i M (l_lift hrm hk) lk_L_37 dL_act_197 (by decide +kernel) ⟨Nat.le_of_ble_eq_true rfl, Nat.le_of_ble_eq_true rfl⟩ ⟨rfl, rfl⟩ nd95 rfl rfl rfl (Nat.le_of_ble_eq_true rfl) ?_
  exact m_iret M dL_act_200 rfl rfl ((List.append_nil _).symm)
theorem a_186 (hrm : ∀ j, rm j < 6) (hk : k ≤ 6) {w T : Nat} (hw : w < 5) (hT1 : 1 ≤ T) (hT : T ≤ 11) (hlo : sLo d w = false) (hf : fltB (sTe d) (toH d w (nI T)) (sLo d) (sHe d) 0 (sSe d) = 0) {k9 n9 : Nat} (M : MA d d1 (haD d w (nI T)) k rm R (haW d w (nI T)) (toH d w (nI T) w) k9 n9 B) : B 186 [(0, .ref 0), (3, .int (nI w)), (4, .int (nI T))] [] (OW d d1 k rm R t) := by
  refine g_aload_n M dL_act_186 rfl ?_
  refine g_iload_n M dL_act_187 rfl ?_
  refine g_iload M dL_act_188 rfl ?_
  refine q_V2i M (l_hand hrm hk w hw (nI T) (by rw [ltIc2 (n := 1) rfl, nI_toInt (by omega)]; omega) ((leIc2 (n := 11) rfl).mpr (by rw [nI_toInt (by omega)]; omega)) hlo hf) lk_L_51 dL_act_190 (by decide +kernel) ⟨Nat.le_of_ble_eq_true rfl, Nat.le_of_ble_eq_true rfl⟩ ⟨rfl, rfl⟩ nd95 rfl rfl rfl (Nat.le_of_ble_eq_true rfl) ?_
  refine g_goto M 200 dL_act_193 (by decide) ?_
  exact m_iret M dL_act_200 rfl rfl ((List.append_nil _).symm)
theorem a_201 (hrm : ∀ j, rm j < 6) {hO : SOk d} {m b : Nat} (hm2 : 2 ≤ m) (hm : m ≤ 12) (hte : sTe d (aW y) = nI m) (hb : b < m) (hto : sTo d (aW y) = nI b) (M : MA d d1 d' k rm R t' v 0 0 B)
    (kF : (upG (y >>> (3 &&& 31)) m ≠ b ∨ goodG d (nI (aW y)) (nI (aH y)) (sSe d) = true) → ∀ k9 n9 B2, MA d d1 d' k rm R t' v k9 n9 B2 → B2 242 [(0, .ref 0), (3, .int (nI (aW y))), (5, .int (nI (aH y))), (7, .int (nI (upG (y >>> (3 &&& 31)) m)))] [] (OW d d1 k rm R t))
    (kC : upG (y >>> (3 &&& 31)) m = b → goodG d (nI (aW y)) (nI (aH y)) (sSe d) = false → ∀ k9 n9 B2, MA d d1 d' k rm R t' v k9 n9 B2 → B2 254 [(0, .ref 0), (3, .int (nI (aW y)))] [] (OW d d1 k rm R t)) : B 201 (aLv x y) [] (OW d d1 k rm R t) := by
  have hte5 := hO.1.te
  have hw : aW y < 5 := upG_lt (by decide)
  have hlt := upG_lt (v := y >>> (3 &&& 31)) (n := m) (by omega)
  refine g_iload_n M dL_act_201 rfl ?_
  refine g_iconst M 3 dL_act_202 (by decide) ?_
  refine g_ishr M dL_act_203 ?_
  refine g_aload_n M dL_act_204 rfl ?_
  refine g_iload_n M dL_act_205 rfl ?_
  refine g_iconst M 0 dL_act_206 (by decide) ?_
  refine q_V2i M (l_wh0 hrm hte5 (aW y) hw) lk_L_19 dL_act_207 (by decide +kernel) ⟨Nat.le_of_ble_eq_true rfl, Nat.le_of_ble_eq_true rfl⟩ ⟨rfl, rfl⟩ nd95 rfl rfl rfl (Nat.le_of_ble_eq_true rfl) ?_
  rw [hte]
  refine q_S2i M (l_up ow_len (ow_cl hrm) (y >>> (3 &&& 31)) m (by omega) (by omega)) lk_L_32 dL_act_210 (by decide +kernel) ⟨Nat.le_of_ble_eq_true rfl, Nat.le_of_ble_eq_true rfl⟩ ⟨rfl, rfl⟩ nd95 rfl (Nat.le_of_ble_eq_true rfl) ?_
  generalize upG (y >>> (3 &&& 31)) m = tt at hlt kF kC ⊢
  refine g_istore M dL_act_213 (by decide) ?_
  refine g_iload M dL_act_215 rfl ?_
  refine g_aload_n M dL_act_217 rfl ?_
  refine g_iload_n M dL_act_218 rfl ?_
  refine g_iconst M 1 dL_act_219 (by decide) ?_
  refine q_V2i M (l_wh1 hrm hte5 (aW y) hw) lk_L_19 dL_act_220 (by decide +kernel) ⟨Nat.le_of_ble_eq_true rfl, Nat.le_of_ble_eq_true rfl⟩ ⟨rfl, rfl⟩ nd95 rfl rfl rfl (Nat.le_of_ble_eq_true rfl) ?_
  rw [hto]
  refine g_icmp_ne M 242 dL_act_223 (by decide) (fun h => ?_) (fun h => ?_)
  · exact g_lvs M _ (lvs_c rfl (lvs_c rfl (lvs_c rfl (lvs_c rfl lvs_n)))) (kF (Or.inl (fun z => h (by rw [z]))) _ _ _ M)
  · have htb : tt = b := (nI_inj5 (by omega) (by omega)).mp h
    refine g_aload_n M dL_act_226 rfl ?_
    refine g_iload_n M dL_act_227 rfl ?_
    refine g_iload M dL_act_228 rfl ?_
    refine g_aload_n M dL_act_230 rfl ?_
    refine g_bipush M 9 dL_act_231 (by decide) ?_
    refine q_V1i M (l_cnt9 hrm) lk_L_13 dL_act_233 (by decide +kernel) ⟨Nat.le_of_ble_eq_true rfl, Nat.le_of_ble_eq_true rfl⟩ ⟨rfl, rfl⟩ nd95 rfl rfl rfl (Nat.le_of_ble_eq_true rfl) ?_
    refine m_S4i M (c_isGood hrm hte5 (nI (aW y)) (nI (aH y)) (sSe d)) lk_L_47 dL_act_236 (by decide +kernel) ⟨Nat.le_of_ble_eq_true rfl, Nat.le_of_ble_eq_true rfl⟩ ⟨Nat.le_of_ble_eq_true rfl, Nat.le_of_ble_eq_true rfl⟩ nd95 rfl (Nat.le_of_ble_eq_true rfl) (fun B M => ?_)
    cases hg : goodG d (nI (aW y)) (nI (aH y)) (sSe d) with
    | false =>
      refine g_if_eq M 254 dL_act_239 (by decide) (fun _ => ?_) (fun h9 => absurd rfl h9)
      exact g_lvs M _ (lvs_c rfl (lvs_c rfl lvs_n)) (kC htb hg _ _ _ M)
    | true =>
      refine g_if_eq M 254 dL_act_239 (by decide) (fun h9 => absurd h9 (by decide)) (fun _ => ?_)
      exact g_lvs M _ (lvs_c rfl (lvs_c rfl (lvs_c rfl (lvs_c rfl lvs_n)))) (kF (Or.inr hg) _ _ _ M)
theorem a_242 (hrm : ∀ j, rm j < 6) (hk : k ≤ 6) {w tt h : Nat} (hh : h ≤ 9) (ht : isTth d (nI w) (nI tt) = true) (hf : fltB (sTe d) (sTo d) (sLo d) (putH (sHe d) (nI w) (nI tt) (nI h)) 0 (sSe d) = 0) {k9 n9 : Nat} (M : MA d d1 (fiD d w tt (nI h)) k rm R (fiW d w tt (nI h)) (hAt (sHe d) (nI w) (nI tt)) k9 n9 B) : B 242 [(0, .ref 0), (3, .int (nI w)), (5, .int (nI h)), (7, .int (nI tt))] [] (OW d d1 k rm R t) := by
  refine g_aload_n M dL_act_242 rfl ?_
  refine g_iload_n M dL_act_243 rfl ?_
  refine g_iload M dL_act_244 rfl ?_
  refine g_iload M dL_act_246 rfl ?_
  refine q_V3i M (l_file hrm hk w tt (nI h) ht (by rw [nI_toInt (by omega)]; omega) hf) lk_L_54 dL_act_248 (by decide +kernel) ⟨Nat.le_of_ble_eq_true rfl, Nat.le_of_ble_eq_true rfl⟩ ⟨rfl, rfl⟩ nd95 rfl rfl rfl (Nat.le_of_ble_eq_true rfl) ?_
  refine g_goto M 259 dL_act_251 (by decide) ?_
  exact m_iret M dL_act_259 rfl rfl ((List.append_nil _).symm)
theorem a_254 (hrm : ∀ j, rm j < 6) (hk : k ≤ 6) {w : Nat} (hw : w < 5) {k9 n9 : Nat} (M : MA d d1 (kD d w) k rm R t (b2i (va_up (sLo d) w (!(sLo d) w) w)) k9 n9 B) : B 254 [(0, .ref 0), (3, .int (nI w))] [] (OW d d1 k rm R t) := by
  refine g_aload_n M dL_act_254 rfl ?_
  refine g_iload_n M dL_act_255 rfl ?_
  refine q_V1i M (l_clutch hrm hk w hw) lk_L_44 dL_act_256 (by decide +kernel) ⟨Nat.le_of_ble_eq_true rfl, Nat.le_of_ble_eq_true rfl⟩ ⟨rfl, rfl⟩ nd95 rfl rfl rfl (Nat.le_of_ble_eq_true rfl) ?_
  exact m_iret M dL_act_259 rfl rfl ((List.append_nil _).symm)
theorem a_260 (hrm : ∀ j, rm j < 6) (hk : k ≤ 6) (M : MA d d1 (chD d (aW y) (1 + aT y)) k rm R t (sTe d (aW y)) 0 0 B) : B 260 (aLv x y) [] (OW d d1 k rm R t) := by
  have hw : aW y < 5 := upG_lt (by decide)
  have hT := aT_le y
  have hT1 := aT_ge y
  refine g_aload_n M dL_act_260 rfl ?_
  refine g_iload_n M dL_act_261 rfl ?_
  refine g_iconst M 1 dL_act_262 (by decide) ?_
  refine g_iload M dL_act_263 rfl ?_
  refine g_iadd M dL_act_265 ?_
  rw [show (1 : Int32) = nI 1 from rfl, nI_add]
  refine q_V2i M (l_change hrm hk (aW y) hw (1 + aT y) (by omega) (by omega)) lk_L_58 dL_act_266 (by decide +kernel) ⟨Nat.le_of_ble_eq_true rfl, Nat.le_of_ble_eq_true rfl⟩ ⟨rfl, rfl⟩ nd95 rfl rfl rfl (Nat.le_of_ble_eq_true rfl) ?_
  exact m_iret M dL_act_269 rfl rfl ((List.append_nil _).symm)
theorem a_270 (hrm : ∀ j, rm j < 6) {hO : SOk d} (M : MA d d1 d' k rm R t' v 0 0 B)
    (kS : goodG d (-1) 0 (nI (aH y)) = true → ∀ k9 n9 B2, MA d d1 d' k rm R t' v k9 n9 B2 → B2 281 [(0, .ref 0), (5, .int (nI (aH y)))] [] (OW d d1 k rm R t))
    (kL : goodG d (-1) 0 (nI (aH y)) = false → ∀ k9 n9 B2, MA d d1 d' k rm R t' v k9 n9 B2 → B2 290 [(0, .ref 0)] [] (OW d d1 k rm R t)) : B 270 (aLv x y) [] (OW d d1 k rm R t) := by
  have hte5 := hO.1.te
  refine g_aload_n M dL_act_270 rfl ?_
  refine g_iconst M (-1) dL_act_271 (by decide) ?_
  refine g_iconst M 0 dL_act_272 (by decide) ?_
  refine g_iload M dL_act_273 rfl ?_
  refine m_S4i M (c_isGood hrm hte5 (-1) 0 (nI (aH y))) lk_L_47 dL_act_275 (by decide +kernel) ⟨Nat.le_of_ble_eq_true rfl, Nat.le_of_ble_eq_true rfl⟩ ⟨Nat.le_of_ble_eq_true rfl, Nat.le_of_ble_eq_true rfl⟩ nd95 rfl (Nat.le_of_ble_eq_true rfl) (fun B M => ?_)
  cases hg : goodG d (-1) 0 (nI (aH y)) with
  | false =>
    refine g_if_eq M 290 dL_act_278 (by decide) (fun _ => ?_) (fun h9 => absurd rfl h9)
    exact g_lvs M _ (lvs_c rfl lvs_n) (kL hg _ _ _ M)
  | true =>
    refine g_if_eq M 290 dL_act_278 (by decide) (fun h9 => absurd h9 (by decide)) (fun _ => ?_)
    exact g_lvs M _ (lvs_c rfl (lvs_c rfl lvs_n)) (kS hg _ _ _ M)
theorem a_281 (hrm : ∀ j, rm j < 6) (hk : k ≤ 6) {h : Nat} (hh : h ≤ 9) (hf : fltB (sTe d) (sTo d) (sLo d) (sHe d) 0 (nI h) = 0) {k9 n9 : Nat} (M : MA d d1 (seD d (nI h)) k rm R t (sSe d) k9 n9 B) : B 281 [(0, .ref 0), (5, .int (nI h))] [] (OW d d1 k rm R t) := by
  refine g_aload_n M dL_act_281 rfl ?_
  refine g_iload M dL_act_282 rfl ?_
  refine q_V1i M (l_set hrm hk (nI h) (by rw [nI_toInt (by omega)]; omega) hf) lk_L_61 dL_act_284 (by decide +kernel) ⟨Nat.le_of_ble_eq_true rfl, Nat.le_of_ble_eq_true rfl⟩ ⟨rfl, rfl⟩ nd95 rfl rfl rfl (Nat.le_of_ble_eq_true rfl) ?_
  refine g_goto M 294 dL_act_287 (by decide) ?_
  exact m_iret M dL_act_294 rfl rfl ((List.append_nil _).symm)
theorem a_290 (hrm : ∀ j, rm j < 6) (hk : k ≤ 6) {k9 n9 : Nat} (M : MA d d1 (liD d true) k rm R t (b2i (cau (sSt d) (sCr d) (sLi d))) k9 n9 B) : B 290 [(0, .ref 0)] [] (OW d d1 k rm R t) := by
  refine g_aload_n M dL_act_290 rfl ?_
  refine q_V0i M (l_lift hrm hk) lk_L_37 dL_act_291 (by decide +kernel) ⟨Nat.le_of_ble_eq_true rfl, Nat.le_of_ble_eq_true rfl⟩ ⟨rfl, rfl⟩ nd95 rfl rfl rfl (Nat.le_of_ble_eq_true rfl) ?_
  exact m_iret M dL_act_294 rfl rfl ((List.append_nil _).symm)
theorem a_295r (hrm : ∀ j, rm j < 6) (hk : k ≤ 6) {c : Nat} (hc : c < 6) (hsc : sSc d = nI c) (M : MA d d1 (reD d c) k rm R t (sSc d) 0 0 B) : B 295 (aLv x y) [] (OW d d1 k rm R t) := by
  refine g_aload_n M dL_act_295 rfl ?_
  refine g_bipush M 7 dL_act_296 (by decide) ?_
  refine q_V1i M (l_cnt7 hrm) lk_L_13 dL_act_298 (by decide +kernel) ⟨Nat.le_of_ble_eq_true rfl, Nat.le_of_ble_eq_true rfl⟩ ⟨rfl, rfl⟩ nd95 rfl rfl rfl (Nat.le_of_ble_eq_true rfl) ?_
  rw [hsc]
  refine g_bipush M 6 dL_act_301 (by decide) ?_
  refine g_icmp_ge M 313 dL_act_303 (by decide) (fun h9 => absurd h9 (nI_ge (a := c) (b := 6) (by omega) (by omega))) (fun _ => ?_)
  refine g_aload_n M dL_act_306 rfl ?_
  refine q_V0i M (l_remember hrm hk c hc hsc) lk_L_64 dL_act_307 (by decide +kernel) ⟨Nat.le_of_ble_eq_true rfl, Nat.le_of_ble_eq_true rfl⟩ ⟨rfl, rfl⟩ nd95 rfl rfl rfl (Nat.le_of_ble_eq_true rfl) ?_
  refine g_goto M 323 dL_act_310 (by decide) ?_
  exact m_iret M dL_act_323 rfl rfl ((List.append_nil _).symm)
theorem a_295f (hrm : ∀ j, rm j < 6) (hk : k ≤ 6) (hsc : sSc d = nI 6) (M : MA d d1 (foD d (upG y 6) 6) k rm R t (nI 5) 0 0 B) : B 295 (aLv x y) [] (OW d d1 k rm R t) := by
  have hi := upG_lt (v := y) (n := 6) (by decide)
  refine g_aload_n M dL_act_295 rfl ?_
  refine g_bipush M 7 dL_act_296 (by decide) ?_
  refine q_V1i M (l_cnt7 hrm) lk_L_13 dL_act_298 (by decide +kernel) ⟨Nat.le_of_ble_eq_true rfl, Nat.le_of_ble_eq_true rfl⟩ ⟨rfl, rfl⟩ nd95 rfl rfl rfl (Nat.le_of_ble_eq_true rfl) ?_
  rw [hsc]
  refine g_bipush M 6 dL_act_301 (by decide) ?_
  refine g_icmp_ge M 313 dL_act_303 (by decide) (fun _ => ?_) (fun h9 => absurd (by decide) h9)
  refine g_aload_n M dL_act_313 rfl ?_
  refine g_iload_n M dL_act_314 rfl ?_
  refine g_bipush M 6 dL_act_315 (by decide) ?_
  refine q_S2i M (l_up ow_len (ow_cl hrm) y 6 (by decide) (by decide)) lk_L_32 dL_act_317 (by decide +kernel) ⟨Nat.le_of_ble_eq_true rfl, Nat.le_of_ble_eq_true rfl⟩ ⟨rfl, rfl⟩ nd95 rfl (Nat.le_of_ble_eq_true rfl) ?_
  refine q_V1i M (l_forget hrm hk (upG y 6) 5 (by omega) hsc (by omega)) lk_L_67 dL_act_320 (by decide +kernel) ⟨Nat.le_of_ble_eq_true rfl, Nat.le_of_ble_eq_true rfl⟩ ⟨rfl, rfl⟩ nd95 rfl rfl rfl (Nat.le_of_ble_eq_true rfl) ?_
  exact m_iret M dL_act_323 rfl rfl ((List.append_nil _).symm)
theorem a_324g (hrm : ∀ j, rm j < 6) (hk : k ≤ 6) (h3 : y &&& 3 = 0) (M : MA d d1 d1 k rm R t (sSc d1) 0 0 B) : B 324 (aLv x y) [] (OW d d1 k rm R t) := by
  refine g_iload_n M dL_act_324 rfl ?_
  refine g_iconst M 3 dL_act_325 (by decide) ?_
  refine g_iand M dL_act_326 ?_
  refine g_if_ne M 337 dL_act_327 (by decide) (fun h9 => absurd h3 h9) (fun _ => ?_)
  refine g_aload_n M dL_act_330 rfl ?_
  refine q_V0i M (l_goBack hrm hk) lk_L_70 dL_act_331 (by decide +kernel) ⟨Nat.le_of_ble_eq_true rfl, Nat.le_of_ble_eq_true rfl⟩ ⟨rfl, rfl⟩ nd95 rfl rfl rfl (Nat.le_of_ble_eq_true rfl) ?_
  refine g_goto M 367 dL_act_334 (by decide) ?_
  exact m_iret M dL_act_367 rfl rfl ((List.append_nil _).symm)
theorem a_324f (hrm : ∀ j, rm j < 6) (hk : k ≤ 6) (h3 : ¬ y &&& 3 = 0) {c : Nat} (hc : c < 6) (hsc : sSc d = nI (c + 1)) (M : MA d d1 (foD d (upG y (c + 1)) (c + 1)) k rm R t (nI c) 0 0 B) : B 324 (aLv x y) [] (OW d d1 k rm R t) := by
  have hi := upG_lt (v := y) (n := c + 1) (by omega)
  refine g_iload_n M dL_act_324 rfl ?_
  refine g_iconst M 3 dL_act_325 (by decide) ?_
  refine g_iand M dL_act_326 ?_
  refine g_if_ne M 337 dL_act_327 (by decide) (fun _ => ?_) (fun h9 => absurd h9 h3)
  refine g_aload_n M dL_act_337 rfl ?_
  refine g_bipush M 7 dL_act_338 (by decide) ?_
  refine q_V1i M (l_cnt7 hrm) lk_L_13 dL_act_340 (by decide +kernel) ⟨Nat.le_of_ble_eq_true rfl, Nat.le_of_ble_eq_true rfl⟩ ⟨rfl, rfl⟩ nd95 rfl rfl rfl (Nat.le_of_ble_eq_true rfl) ?_
  rw [hsc]
  refine g_if_le M 363 dL_act_343 (by decide) (fun h9 => absurd h9 (nI_nle (by omega) (by omega))) (fun _ => ?_)
  refine g_aload_n M dL_act_346 rfl ?_
  refine g_iload_n M dL_act_347 rfl ?_
  refine g_aload_n M dL_act_348 rfl ?_
  refine g_bipush M 7 dL_act_349 (by decide) ?_
  refine q_V1i M (l_cnt7 hrm) lk_L_13 dL_act_351 (by decide +kernel) ⟨Nat.le_of_ble_eq_true rfl, Nat.le_of_ble_eq_true rfl⟩ ⟨rfl, rfl⟩ nd95 rfl rfl rfl (Nat.le_of_ble_eq_true rfl) ?_
  rw [hsc]
  refine q_S2i M (l_up ow_len (ow_cl hrm) y (c + 1) (by omega) (by omega)) lk_L_32 dL_act_354 (by decide +kernel) ⟨Nat.le_of_ble_eq_true rfl, Nat.le_of_ble_eq_true rfl⟩ ⟨rfl, rfl⟩ nd95 rfl (Nat.le_of_ble_eq_true rfl) ?_
  refine q_V1i M (l_forget hrm hk (upG y (c + 1)) c hc hsc (by omega)) lk_L_67 dL_act_357 (by decide +kernel) ⟨Nat.le_of_ble_eq_true rfl, Nat.le_of_ble_eq_true rfl⟩ ⟨rfl, rfl⟩ nd95 rfl rfl rfl (Nat.le_of_ble_eq_true rfl) ?_
  refine g_goto M 367 dL_act_360 (by decide) ?_
  exact m_iret M dL_act_367 rfl rfl ((List.append_nil _).symm)
theorem a_324r (hrm : ∀ j, rm j < 6) (hk : k ≤ 6) (h3 : ¬ y &&& 3 = 0) (hsc : sSc d = nI 0) (M : MA d d1 (reD d 0) k rm R t (sSc d) 0 0 B) : B 324 (aLv x y) [] (OW d d1 k rm R t) := by
  refine g_iload_n M dL_act_324 rfl ?_
  refine g_iconst M 3 dL_act_325 (by decide) ?_
  refine g_iand M dL_act_326 ?_
  refine g_if_ne M 337 dL_act_327 (by decide) (fun _ => ?_) (fun h9 => absurd h9 h3)
  refine g_aload_n M dL_act_337 rfl ?_
  refine g_bipush M 7 dL_act_338 (by decide) ?_
  refine q_V1i M (l_cnt7 hrm) lk_L_13 dL_act_340 (by decide +kernel) ⟨Nat.le_of_ble_eq_true rfl, Nat.le_of_ble_eq_true rfl⟩ ⟨rfl, rfl⟩ nd95 rfl rfl rfl (Nat.le_of_ble_eq_true rfl) ?_
  rw [hsc]
  refine g_if_le M 363 dL_act_343 (by decide) (fun _ => ?_) (fun h9 => absurd (by decide) h9)
  refine g_aload_n M dL_act_363 rfl ?_
  refine q_V0i M (l_remember hrm hk 0 (by decide) hsc) lk_L_64 dL_act_364 (by decide +kernel) ⟨Nat.le_of_ble_eq_true rfl, Nat.le_of_ble_eq_true rfl⟩ ⟨rfl, rfl⟩ nd95 rfl rfl rfl (Nat.le_of_ble_eq_true rfl) ?_
  exact m_iret M dL_act_367 rfl rfl ((List.append_nil _).symm)
/-- how many steps are asked for -/
def aS (y : Int32) : Nat := 1 + (if (y >>> (8 &&& 31)) &&& 1 = 0 then upG y 60 else upG y 6)
def aX (y : Int32) : Int32 := if (y >>> (9 &&& 31)) &&& 3 = 0 then -(nI (aS y)) else nI (aS y)
def aD (y : Int32) : Int32 := if (y >>> (9 &&& 31)) &&& 3 = 0 then -1 else 1
theorem aS_rng (y : Int32) : 1 ≤ aS y ∧ aS y ≤ 60 := by
  have h1 := upG_lt (v := y) (n := 60) (by decide)
  have h2 := upG_lt (v := y) (n := 6) (by decide)
  unfold aS
  split <;> omega
theorem aX_ok (y : Int32) : ¬ aX y = 0 ∧ ¬ aX y < -60 ∧ aX y ≤ 60 ∧ aD y = (if 0 < aX y then 1 else -1) ∧ (if 0 < aX y then aX y else -(aX y)) = nI (aS y) := by
  obtain ⟨h1, h2⟩ := aS_rng y
  unfold aX aD
  by_cases h : (y >>> (9 &&& 31)) &&& 3 = 0
  · rw [if_pos h, if_pos h]; exact tuN h1 h2
  · rw [if_neg h, if_neg h]; exact tuP h1 h2
theorem a_368 (hrm : ∀ j, rm j < 6) (hk : k ≤ 6) (M : MA d d1 (tuG (aD y) (aS y) d).2 k rm R t (nI (tuG (aD y) (aS y) d).1) 0 0 B) : B 368 (aLv x y) [] (OW d d1 k rm R t) := by
  obtain ⟨hs1, hs2⟩ := aS_rng y
  obtain ⟨t1, t2, t3, t4, t5⟩ := aX_ok y
  have k410 : B 410 [(0, .ref 0)] [.int (aX y), .ref 0] (OW d d1 k rm R t) := by
    refine q_V1i M (l_turn hrm hk (aX y) (aD y) (aS y) hs2 t1 t2 t3 t4 t5) lk_L_73 dL_act_410 (by decide +kernel) ⟨Nat.le_of_ble_eq_true rfl, Nat.le_of_ble_eq_true rfl⟩ ⟨rfl, rfl⟩ nd95 rfl rfl rfl (Nat.le_of_ble_eq_true rfl) ?_
    exact m_iret M dL_act_413 rfl rfl ((List.append_nil _).symm)
  have k389 : B 389 [(0, .ref 0), (2, .int y)] [.int (nI (aS y - 1)), .int 1] (OW d d1 k rm R t) := by
    refine g_iadd M dL_act_389 ?_
    rw [show (1 : Int32) = nI 1 from rfl, nI_add, show 1 + (aS y - 1) = aS y by omega]
    refine g_istore M dL_act_390 (by decide) ?_
    refine g_aload_n M dL_act_392 rfl ?_
    refine g_iload_n M dL_act_393 rfl ?_
    refine g_bipush M 9 dL_act_394 (by decide) ?_
    refine g_ishr M dL_act_396 ?_
    refine g_iconst M 3 dL_act_397 (by decide) ?_
    refine g_iand M dL_act_398 ?_
    refine g_if_ne M 408 dL_act_399 (by decide) (fun h => ?_) (fun h => ?_)
    · refine g_iload M dL_act_408 rfl ?_
      refine g_lvs M [(0, .ref 0)] (lvs_c rfl lvs_n) ?_
      have e : aX y = nI (aS y) := by rw [aX, if_neg h]
      rw [e] at k410
      exact k410
    · refine g_iload M dL_act_402 rfl ?_
      refine g_ineg M dL_act_404 ?_
      refine g_goto M 410 dL_act_405 (by decide) ?_
      refine g_lvs M [(0, .ref 0)] (lvs_c rfl lvs_n) ?_
      have e : aX y = -(nI (aS y)) := by rw [aX, if_pos (h)]
      rw [e] at k410
      exact k410
  refine g_iconst M 1 dL_act_368 (by decide) ?_
  refine g_iload_n M dL_act_369 rfl ?_
  refine g_iload_n M dL_act_370 rfl ?_
  refine g_bipush M 8 dL_act_371 (by decide) ?_
  refine g_ishr M dL_act_373 ?_
  refine g_iconst M 1 dL_act_374 (by decide) ?_
  refine g_iand M dL_act_375 ?_
  refine g_if_ne M 384 dL_act_376 (by decide) (fun h => ?_) (fun h => ?_)
  · refine g_bipush M 6 dL_act_384 (by decide) ?_
    refine q_S2i M (l_up ow_len (ow_cl hrm) y 6 (by decide) (by decide)) lk_L_32 dL_act_386 (by decide +kernel) ⟨Nat.le_of_ble_eq_true rfl, Nat.le_of_ble_eq_true rfl⟩ ⟨rfl, rfl⟩ nd95 rfl (Nat.le_of_ble_eq_true rfl) ?_
    refine g_lvs M [(0, .ref 0), (2, .int y)] (lvs_c rfl (lvs_c rfl lvs_n)) ?_
    have e : aS y - 1 = upG y 6 := by rw [aS, if_neg h]; omega
    rw [e] at k389
    exact k389
  · refine g_bipush M 60 dL_act_379 (by decide) ?_
    refine g_goto M 386 dL_act_381 (by decide) ?_
    refine q_S2i M (l_up ow_len (ow_cl hrm) y 60 (by decide) (by decide)) lk_L_32 dL_act_386 (by decide +kernel) ⟨Nat.le_of_ble_eq_true rfl, Nat.le_of_ble_eq_true rfl⟩ ⟨rfl, rfl⟩ nd95 rfl (Nat.le_of_ble_eq_true rfl) ?_
    refine g_lvs M [(0, .ref 0), (2, .int y)] (lvs_c rfl (lvs_c rfl lvs_n)) ?_
    have e : aS y - 1 = upG y 60 := by rw [aS, if_pos (h)]; omega
    rw [e] at k389
    exact k389
end


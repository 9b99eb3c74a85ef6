/-- the model's cells -/
abbrev MW (th sv ln at9 pt nm op : Int32) (kp : Bool) (hs : Int64) (s tx bg tm : Nat → Int32) : List va_E := [.inr (6, [.int th, .ref 1, .int sv, .int (b2i kp), .ref 2, .int ln, .int at9, .int pt, .int nm, .int op, .ref 3, .ref 4, .long hs]), .inl (0, 1376, .inl s), .inl (0, 60, .inl tx), .inl (0, 4, .inl bg), .inl (0, 4, .inl tm)]
/-- a part of the model's row holds a state -/
def Rp (s : Nat → Int32) (d : SD) : Prop :=
  (∀ w, w < 5 → s w = sTe d w) ∧ (∀ w, w < 5 → s (5 + w) = sTo d w) ∧ (∀ w, w < 5 → s (10 + w) = b2i (sLo d w)) ∧ (∀ w, w < 5 → ∀ k, k < (sTe d w).toNatClampNeg → s (15 + 12 * w + k) = sHe d (12 * w + k)) ∧
  s 75 = sSe d ∧ s 76 = sCr d ∧ s 77 = b2i (sLi d) ∧ s 78 = sSf d ∧ s 79 = sSb d ∧ s 80 = sLa d ∧ s 81 = sSc d ∧ (∀ k, k < 5 * (sSc d).toNatClampNeg → s (82 + k) = sScn d k) ∧ (∀ k, k < 60 → s (112 + k) = b2i (sSt d k))
/-- a state as it may be -/
def SOk (d : SD) : Prop := whOk (sTe d) (sTo d) ∧ ∃ c : Nat, c ≤ 6 ∧ sSc d = nI c
theorem c_in (x a b : Int32) : Con yX6_in cX6_in 3 (some .boolean) (rmk 0 0) [.int x, .int a, .int b] [] (some (.int (b2i (btw x a b)))) [] := by
  refine Con.of (own := RX6) (by decide) rfl (Nat.le_of_ble_eq_true rfl) rfl (fun B M => ?_)
  refine r_iload_n M dX6_in_0 rfl ?_
  refine r_iload_n M dX6_in_1 rfl ?_
  refine r_icmp_lt M 14 dX6_in_2 (by decide) (fun h => ?_) (fun h => ?_)
  · refine r_iconst M 0 dX6_in_14 (by decide) ?_
    exact r_zret M dX6_in_15 rfl rfl (by rw [btw, decide_eq_false (fun z => absurd h (Int32.not_lt.mpr z.1))]; rfl) rfl
  · refine r_iload_n M dX6_in_5 rfl ?_
    refine r_iload_n M dX6_in_6 rfl ?_
    refine r_icmp_gt M 14 dX6_in_7 (by decide) (fun h2 => ?_) (fun h2 => ?_)
    · refine r_iconst M 0 dX6_in_14 (by decide) ?_
      exact r_zret M dX6_in_15 rfl rfl (by rw [btw, decide_eq_false (fun z => absurd h2 (Int32.not_lt.mpr z.2))]; rfl) rfl
    · refine r_iconst M 1 dX6_in_10 (by decide) ?_
      refine r_goto M 15 dX6_in_11 (by decide) ?_
      exact r_zret M dX6_in_15 rfl rfl (by rw [btw, decide_eq_true ⟨Int32.not_lt.mp h, Int32.not_lt.mp h2⟩]; rfl) rfl
theorem c_mIsWheel (x : Int32) : Con yX6_isWheel cX6_isWheel 1 (some .boolean) (rmk 1 22) [.int x] [] (some (.int (b2i (btw x 0 4)))) [] := by
  refine Con.of (own := RX6) (by decide) rfl (Nat.le_of_ble_eq_true rfl) rfl (fun B M => ?_)
  refine r_iload_n M dX6_isWheel_0 rfl ?_
  refine r_iconst M 0 dX6_isWheel_1 (by decide) ?_
  refine r_iconst M 4 dX6_isWheel_2 (by decide) ?_
  refine r_S3ik M (c_in _ _ _) lk_X6_26 dX6_isWheel_3 (by decide +kernel) ⟨Nat.le_of_ble_eq_true rfl, Nat.le_of_ble_eq_true rfl⟩ ⟨rfl, rfl⟩ [] rfl (by decide +kernel) rfl (Nat.le_of_ble_eq_true rfl) ?_
  exact r_zret M dX6_isWheel_6 rfl (b2i_nr _) rfl rfl
theorem c_leftOver (v d : Int32) (hd : 1 ≤ d) : Con yX6_leftOver cX6_leftOver 3 (some .int) (rmk 0 0) [.int v, .int d] [] (some (.int (md v d))) [] := by
  refine Con.of (own := RX6) (by decide) rfl (Nat.le_of_ble_eq_true rfl) rfl (fun B M => ?_)
  rw [md, if_pos hd] at M
  refine r_iload_n M dX6_leftOver_0 rfl ?_
  refine r_iload_n M dX6_leftOver_1 rfl ?_
  refine r_irem M dX6_leftOver_2 (by intro e; subst e; exact absurd hd (by decide)) ?_
  refine r_istore_n M dX6_leftOver_3 (by decide) ?_
  refine r_iload_n M dX6_leftOver_4 rfl ?_
  refine r_if_ge M 14 dX6_leftOver_5 (by decide) (fun h => ?_) (fun h => ?_)
  · rw [if_pos h] at M
    refine r_iload_n M dX6_leftOver_14 rfl ?_
    exact r_iret M dX6_leftOver_15 rfl rfl rfl
  · rw [if_neg h] at M
    refine r_iload_n M dX6_leftOver_8 rfl ?_
    refine r_iload_n M dX6_leftOver_9 rfl ?_
    refine r_iadd M dX6_leftOver_10 ?_
    refine r_goto M 15 dX6_leftOver_11 (by decide) ?_
    exact r_iret M dX6_leftOver_15 rfl rfl rfl
section
variable (th sv ln at9 pt nm op : Int32) (kp : Bool) (hs : Int64) (s tx bg tm : Nat → Int32)
theorem c_holds (x : Int32) : Con yX6_holds cX6_holds 2 (some .boolean) (rmk 0 0) [.ref 0, .int x] (MW th sv ln at9 pt nm op kp hs s tx bg tm) (some (.int (b2i (decide (x = 0))))) (MW x sv ln at9 pt nm op kp hs s tx bg tm) := by
  refine Con.of (own := RX6) (by decide) rfl (Nat.le_of_ble_eq_true rfl) rfl (fun B M => ?_)
  refine r_aload_n M dX6_holds_0 rfl ?_
  refine r_iload_n M dX6_holds_1 rfl ?_
  refine r_put M fl_X6_22 ff_6_0 dX6_holds_2 rfl rfl rfl (fun _ => rfl) (Nat.le_of_ble_eq_true rfl) ?_
  refine r_iload_n M dX6_holds_5 rfl ?_
  refine r_if_ne M 13 dX6_holds_6 (by decide) (fun h => ?_) (fun h => ?_)
  · refine r_iconst M 0 dX6_holds_13 (by decide) ?_
    exact r_zret M dX6_holds_14 rfl rfl (by rw [decide_eq_false h]; rfl) rfl
  · refine r_iconst M 1 dX6_holds_9 (by decide) ?_
    refine r_goto M 14 dX6_holds_10 (by decide) ?_
    exact r_zret M dX6_holds_14 rfl rfl (by rw [decide_eq_true h]; rfl) rfl
theorem s_in {j : Nat} (h : j < 1376) : vp_in (nI j) 1376 := vp_in_nI h (by omega)
theorem cl_s {j : Nat} (h : j < 2 ^ 31) : (nI j).toNatClampNeg = j := nI_clamp h
theorem le1 {m : Nat} (h : 1 ≤ m) (h2 : m < 2 ^ 31) : (1 : Int32) ≤ nI m := nI_le (a := 1) h h2
/-- the tooth at the top, in the class and in the model -/
theorem hB_at {d : SD} (hw : whOk (sTe d) (sTo d)) {w : Nat} (h5 : w < 5) (lo : Nat → Bool) (x : Int32) : ∃ m t : Nat, sTe d w = nI m ∧ 2 ≤ m ∧ m ≤ 12 ∧ t < m ∧ md (sTo d w + (if lo w = true then x else 0)) (sTe d w) = nI t ∧ hB (sTe d) (sTo d) lo (sHe d) (nI w) x = sHe d (12 * w + t) := by
  obtain ⟨m, b, h1, h2, h3, h4, h6⟩ := hw w h5
  have hin := md_in (v := sTo d w + (if lo w = true then x else 0)) (d := sTe d w) (n := m) (by rw [h3, nI_toInt (by omega)]) (by omega)
  obtain ⟨t, ht, het⟩ := vp_in_of hin (by omega)
  refine ⟨m, t, h3, h1, h2, ht, het, ?_⟩
  have e1 : nI w * 12 + nI t = nI (12 * w + t) := by rw [show (12 : Int32) = nI 12 from rfl, pk_mul, nI_add, Nat.mul_comm]
  rw [hB, tpB, nI_clamp (by omega), het, hAt, e1, if_neg (nI_pos (by omega)), if_neg (show ¬ (60 : Int32) ≤ nI (12 * w + t) from nI_geF (n := 60) rfl (by omega) (by omega)), nI_clamp (by omega)]
theorem c_mHeightAt {d : SD} (hR : Rp s d) (hO : SOk d) (w : Nat) (h5 : w < 5) (x but : Int32) (lo : Nat → Bool) (hlo : lo w = (sLo d w && !decide (nI w = but))) : Con yX6_heightAt cX6_heightAt 5 (some .int) (rmk 1 22) [.ref 0, .int (nI w), .int x, .int but] (MW th sv ln at9 pt nm op kp hs s tx bg tm) (some (.int (hB (sTe d) (sTo d) lo (sHe d) (nI w) x))) (MW th sv ln at9 pt nm op kp hs s tx bg tm) := by
  refine Con.of (own := RX6) (by decide) rfl (Nat.le_of_ble_eq_true rfl) rfl (fun B M => ?_)
  obtain ⟨r1, r2, r3, r4, -⟩ := hR
  obtain ⟨m, t, a1, a2, a3, a4, a5, a6⟩ := hB_at hO.1 h5 lo x
  have e10 : (10 : Int32) + nI w = nI (10 + w) := nI_add 10 w
  have e5 : (5 : Int32) + nI w = nI (5 + w) := nI_add 5 w
  have e0 : (0 : Int32) + nI w = nI w := by rw [show (0 : Int32) = nI 0 from rfl, nI_add, Nat.zero_add]
  have go : B 23 [(0, .ref 0), (1, .int (nI w)), (2, .int x), (3, .int but)] [.int (if lo w = true then x else 0)] (MW th sv ln at9 pt nm op kp hs s tx bg tm) := by
    refine r_istore M dX6_heightAt_23 (by decide) ?_
    refine r_aload_n M dX6_heightAt_25 rfl ?_
    refine r_get M fl_X6_7 dX6_heightAt_26 rfl rfl ?_
    refine r_bipush M 15 dX6_heightAt_29 (by decide) ?_
    refine r_bipush M 12 dX6_heightAt_31 (by decide) ?_
    refine r_iload_n M dX6_heightAt_33 rfl ?_
    refine r_imul M dX6_heightAt_34 ?_
    refine r_iadd M dX6_heightAt_35 ?_
    refine r_aload_n M dX6_heightAt_36 rfl ?_
    refine r_get M fl_X6_7 dX6_heightAt_37 rfl rfl ?_
    refine r_iconst M 5 dX6_heightAt_40 (by decide) ?_
    refine r_iload_n M dX6_heightAt_41 rfl ?_
    refine r_iadd M dX6_heightAt_42 ?_
    rw [e5]
    refine r_iald M dX6_heightAt_43 rfl (s_in (by omega)) ?_
    rw [cl_s (by omega), r2 w h5]
    refine r_iload M dX6_heightAt_44 rfl ?_
    refine r_iadd M dX6_heightAt_46 ?_
    refine r_aload_n M dX6_heightAt_47 rfl ?_
    refine r_get M fl_X6_7 dX6_heightAt_48 rfl rfl ?_
    refine r_iconst M 0 dX6_heightAt_51 (by decide) ?_
    refine r_iload_n M dX6_heightAt_52 rfl ?_
    refine r_iadd M dX6_heightAt_53 ?_
    rw [e0]
    refine r_iald M dX6_heightAt_54 rfl (s_in (by omega)) ?_
    rw [cl_s (by omega), r1 w h5]
    refine r_S2ik M (c_leftOver _ _ (by rw [a1]; exact le1 (by omega) (by omega))) lk_X6_30 dX6_heightAt_55 (by decide +kernel) ⟨Nat.le_of_ble_eq_true rfl, Nat.le_of_ble_eq_true rfl⟩ ⟨rfl, rfl⟩ [] rfl (by decide +kernel) rfl (Nat.le_of_ble_eq_true rfl) ?_
    rw [a5]
    refine r_iadd M dX6_heightAt_58 ?_
    rw [show (15 : Int32) + 12 * nI w + nI t = nI (15 + 12 * w + t) from by rw [show (12 : Int32) = nI 12 from rfl, pk_mul, show (15 : Int32) = nI 15 from rfl, nI_add, nI_add]]
    refine r_iald M dX6_heightAt_59 rfl (s_in (by omega)) ?_
    rw [cl_s (by omega), r4 w h5 t (by rw [a1, cl_s (by omega)]; exact a4)]
    exact r_iret M dX6_heightAt_60 rfl (by rw [a6]) rfl
  refine r_aload_n M dX6_heightAt_0 rfl ?_
  refine r_get M fl_X6_7 dX6_heightAt_1 rfl rfl ?_
  refine r_bipush M 10 dX6_heightAt_4 (by decide) ?_
  refine r_iload_n M dX6_heightAt_6 rfl ?_
  refine r_iadd M dX6_heightAt_7 ?_
  rw [e10]
  refine r_iald M dX6_heightAt_8 rfl (s_in (by omega)) ?_
  rw [cl_s (by omega), r3 w h5]
  refine r_iconst M 1 dX6_heightAt_9 (by decide) ?_
  cases hl : sLo d w
  · rw [hl] at hlo
    rw [if_neg (by rw [hlo]; simp)] at go
    refine r_icmp_ne M 22 dX6_heightAt_10 (by decide) (fun _ => ?_) (fun h9 => absurd h9 (by decide))
    refine r_iconst M 0 dX6_heightAt_22 (by decide) ?_
    exact go
  · rw [hl] at hlo
    refine r_icmp_ne M 22 dX6_heightAt_10 (by decide) (fun h9 => absurd rfl h9) (fun _ => ?_)
    refine r_iload_n M dX6_heightAt_13 rfl ?_
    refine r_iload_n M dX6_heightAt_14 rfl ?_
    by_cases hb : nI w = but
    · rw [if_neg (by rw [hlo, decide_eq_true hb]; decide)] at go
      refine r_icmp_eq M 22 dX6_heightAt_15 (by decide) (fun _ => ?_) (fun h9 => absurd hb h9)
      refine r_iconst M 0 dX6_heightAt_22 (by decide) ?_
      exact go
    · rw [if_pos (by rw [hlo, decide_eq_false hb]; rfl)] at go
      refine r_icmp_eq M 22 dX6_heightAt_15 (by decide) (fun h9 => absurd h9 hb) (fun _ => ?_)
      refine r_iload_n M dX6_heightAt_18 rfl ?_
      refine r_goto M 23 dX6_heightAt_19 (by decide) ?_
      exact go
/-- with no wheel left out -/
theorem lo_all (d : SD) {w : Nat} (h5 : w < 5) : sLo d w = (sLo d w && !decide (nI w = -1)) := by
  have : ¬ nI w = -1 := by
    intro h
    have h2 := congrArg Int32.toInt h
    rw [nI_toInt (by omega), show (-1 : Int32).toInt = -1 from rfl] at h2
    omega
  rw [decide_eq_false this]; simp
theorem c_mHeight {d : SD} (hR : Rp s d) (hO : SOk d) (w : Nat) (h5 : w < 5) : Con yX6_height cX6_height 2 (some .int) (rmk 2 46) [.ref 0, .int (nI w)] (MW th sv ln at9 pt nm op kp hs s tx bg tm) (some (.int (hB (sTe d) (sTo d) (sLo d) (sHe d) (nI w) 0))) (MW th sv ln at9 pt nm op kp hs s tx bg tm) := by
  refine Con.of (own := RX6) (by decide) rfl (Nat.le_of_ble_eq_true rfl) rfl (fun B M => ?_)
  refine r_aload_n M dX6_height_0 rfl ?_
  refine r_iload_n M dX6_height_1 rfl ?_
  refine r_iconst M 0 dX6_height_2 (by decide) ?_
  refine r_iconst M (-1) dX6_height_3 (by decide) ?_
  refine r_V3ik M (c_mHeightAt th sv ln at9 pt nm op kp hs s tx bg tm hR hO w h5 0 (-1) (sLo d) (lo_all d h5)) lk_X6_34 dX6_height_4 (by decide +kernel) ⟨Nat.le_of_ble_eq_true rfl, Nat.le_of_ble_eq_true rfl⟩ ⟨rfl, rfl⟩ [0, 1, 2, 3, 4] rfl rfl rfl (by decide +kernel) rfl (Nat.le_of_ble_eq_true rfl) ?_
  exact r_iret M dX6_height_7 rfl rfl rfl
theorem c_reason {d : SD} (hR : Rp s d) (hO : SOk d) (x but : Int32) (lo : Nat → Bool) (hlo : ∀ w, w < 5 → lo w = (sLo d w && !decide (nI w = but))) : Con yX6_reason cX6_reason 6 (some .int) (rmk 2 46) [.ref 0, .int x, .int but] (MW th sv ln at9 pt nm op kp hs s tx bg tm) (some (.int (fltB (sTe d) (sTo d) lo (sHe d) x (sSe d)))) (MW th sv ln at9 pt nm op kp hs s tx bg tm) := by
  refine Con.of (own := RX6) (by decide) rfl (Nat.le_of_ble_eq_true rfl) rfl (fun B M => ?_)
  have hse : s 75 = sSe d := hR.2.2.2.2.1
  have ha := fun w h5 => c_mHeightAt th sv ln at9 pt nm op kp hs s tx bg tm hR hO w h5 x but lo (hlo w h5)
  have c0 : Con yX6_heightAt cX6_heightAt 5 (some .int) (rmk 1 22) [.ref 0, .int 0, .int x, .int but] (MW th sv ln at9 pt nm op kp hs s tx bg tm) (some (.int (hB (sTe d) (sTo d) lo (sHe d) 0 x))) (MW th sv ln at9 pt nm op kp hs s tx bg tm) := ha 0 (by omega)
  have c1 : Con yX6_heightAt cX6_heightAt 5 (some .int) (rmk 1 22) [.ref 0, .int 1, .int x, .int but] (MW th sv ln at9 pt nm op kp hs s tx bg tm) (some (.int (hB (sTe d) (sTo d) lo (sHe d) 1 x))) (MW th sv ln at9 pt nm op kp hs s tx bg tm) := ha 1 (by omega)
  have c2 : Con yX6_heightAt cX6_heightAt 5 (some .int) (rmk 1 22) [.ref 0, .int 2, .int x, .int but] (MW th sv ln at9 pt nm op kp hs s tx bg tm) (some (.int (hB (sTe d) (sTo d) lo (sHe d) 2 x))) (MW th sv ln at9 pt nm op kp hs s tx bg tm) := ha 2 (by omega)
  have c3 : Con yX6_heightAt cX6_heightAt 5 (some .int) (rmk 1 22) [.ref 0, .int 3, .int x, .int but] (MW th sv ln at9 pt nm op kp hs s tx bg tm) (some (.int (hB (sTe d) (sTo d) lo (sHe d) 3 x))) (MW th sv ln at9 pt nm op kp hs s tx bg tm) := ha 3 (by omega)
  have c4 : Con yX6_heightAt cX6_heightAt 5 (some .int) (rmk 1 22) [.ref 0, .int 4, .int x, .int but] (MW th sv ln at9 pt nm op kp hs s tx bg tm) (some (.int (hB (sTe d) (sTo d) lo (sHe d) 4 x))) (MW th sv ln at9 pt nm op kp hs s tx bg tm) := ha 4 (by omega)
  rw [fltB] at M
  generalize hB (sTe d) (sTo d) lo (sHe d) 0 x = h0 at M c0
  generalize hB (sTe d) (sTo d) lo (sHe d) 1 x = h1 at M c1
  generalize hB (sTe d) (sTo d) lo (sHe d) 2 x = h2 at M c2
  generalize hB (sTe d) (sTo d) lo (sHe d) 3 x = h3 at M c3
  generalize hB (sTe d) (sTo d) lo (sHe d) 4 x = h4 at M c4
  have k3 : ∀ a b z : Bool, (a = true ↔ 5 ≤ h2) → (b = true ↔ 5 ≤ h3) → (z = true ↔ (5 ≤ h0 ∧ 5 ≤ h1)) → B 62 [(0, .ref 0), (1, .int x), (2, .int but), (3, .int (b2i a)), (4, .int (b2i b))] [.int (b2i z)] (MW th sv ln at9 pt nm op kp hs s tx bg tm) := by
    intro a b z e1 e2 e3
    have bad : (5 ≤ h2 ∨ 5 ≤ h3) → B 73 [(0, .ref 0), (1, .int x), (2, .int but), (3, .int (b2i a)), (4, .int (b2i b)), (5, .int (b2i z))] [] (MW th sv ln at9 pt nm op kp hs s tx bg tm) → True := fun _ _ => trivial
    have tail : ¬ ((5 ≤ h2 ∨ 5 ≤ h3) ∧ ¬ (5 ≤ h0 ∧ 5 ≤ h1)) → B 80 [(0, .ref 0), (1, .int x), (2, .int but), (3, .int (b2i a)), (4, .int (b2i b)), (5, .int (b2i z))] [] (MW th sv ln at9 pt nm op kp hs s tx bg tm) := by
      intro hn
      rw [fltOf, if_neg hn] at M
      refine r_iload_n M dX6_reason_80 rfl ?_
      cases ha2 : a
      · rw [ha2] at e1
        refine r_if_eq M 110 dX6_reason_81 (by decide) (fun _ => ?_) (fun h9 => absurd rfl h9)
        rw [if_neg (by intro q; have := e1.mpr q.1.1; cases this)] at M
        refine r_iconst M 0 dX6_reason_110 (by decide) ?_
        exact r_iret M dX6_reason_111 rfl rfl rfl
      · refine r_if_eq M 110 dX6_reason_81 (by decide) (fun h9 => absurd h9 (by decide)) (fun _ => ?_)
        refine r_iload M dX6_reason_84 rfl ?_
        cases hb2 : b
        · rw [hb2] at e2
          refine r_if_eq M 110 dX6_reason_86 (by decide) (fun _ => ?_) (fun h9 => absurd rfl h9)
          rw [if_neg (by intro q; have := e2.mpr q.1.2; cases this)] at M
          refine r_iconst M 0 dX6_reason_110 (by decide) ?_
          exact r_iret M dX6_reason_111 rfl rfl rfl
        · refine r_if_eq M 110 dX6_reason_86 (by decide) (fun h9 => absurd h9 (by decide)) (fun _ => ?_)
          refine r_aload_n M dX6_reason_89 rfl ?_
          refine r_iconst M 4 dX6_reason_90 (by decide) ?_
          refine r_iload_n M dX6_reason_91 rfl ?_
          refine r_iload_n M dX6_reason_92 rfl ?_
          refine r_V3ik M c4 lk_X6_34 dX6_reason_93 (by decide +kernel) ⟨Nat.le_of_ble_eq_true rfl, Nat.le_of_ble_eq_true rfl⟩ ⟨rfl, rfl⟩ [0, 1, 2, 3, 4] rfl rfl rfl (by decide +kernel) rfl (Nat.le_of_ble_eq_true rfl) ?_
          refine r_aload_n M dX6_reason_96 rfl ?_
          refine r_get M fl_X6_7 dX6_reason_97 rfl rfl ?_
          refine r_bipush M 75 dX6_reason_100 (by decide) ?_
          refine r_iald M dX6_reason_102 rfl (s_in (j := 75) (by omega)) ?_
          rw [show (75 : Int32).toNatClampNeg = 75 from rfl, hse]
          by_cases hlt : sSe d < h4
          · rw [if_pos ⟨⟨e1.mp ha2, e2.mp hb2⟩, hlt⟩] at M
            refine r_icmp_le M 110 dX6_reason_103 (by decide) (fun h9 => absurd h9 (Int32.not_le.mpr hlt)) (fun _ => ?_)
            refine r_iconst M 2 dX6_reason_106 (by decide) ?_
            refine r_goto M 111 dX6_reason_107 (by decide) ?_
            exact r_iret M dX6_reason_111 rfl rfl rfl
          · rw [if_neg (fun q => hlt q.2)] at M
            refine r_icmp_le M 110 dX6_reason_103 (by decide) (fun _ => ?_) (fun h9 => absurd (Int32.not_lt.mp hlt) h9)
            refine r_iconst M 0 dX6_reason_110 (by decide) ?_
            exact r_iret M dX6_reason_111 rfl rfl rfl
    have mid : (5 ≤ h2 ∨ 5 ≤ h3) → B 73 [(0, .ref 0), (1, .int x), (2, .int but), (3, .int (b2i a)), (4, .int (b2i b)), (5, .int (b2i z))] [] (MW th sv ln at9 pt nm op kp hs s tx bg tm) := by
      intro hor
      refine r_iload M dX6_reason_73 rfl ?_
      cases hz : z
      · rw [hz] at e3
        rw [fltOf, if_pos ⟨hor, fun q => by have := e3.mpr q; cases this⟩] at M
        refine r_if_ne M 80 dX6_reason_75 (by decide) (fun h9 => absurd rfl h9) (fun _ => ?_)
        refine r_iconst M 1 dX6_reason_78 (by decide) ?_
        exact r_iret M dX6_reason_79 rfl rfl rfl
      · subst hz
        refine r_if_ne M 80 dX6_reason_75 (by decide) (fun _ => ?_) (fun h9 => absurd h9 (by decide))
        exact tail (fun q => q.2 (e3.mp rfl))
    refine r_istore M dX6_reason_62 (by decide) ?_
    refine r_iload_n M dX6_reason_64 rfl ?_
    cases ha2 : a
    · subst ha2
      refine r_if_ne M 73 dX6_reason_65 (by decide) (fun h9 => absurd rfl h9) (fun _ => ?_)
      refine r_iload M dX6_reason_68 rfl ?_
      cases hb2 : b
      · subst hb2
        refine r_if_eq M 80 dX6_reason_70 (by decide) (fun _ => ?_) (fun h9 => absurd rfl h9)
        exact r_lvs M _ (lvs_c rfl (lvs_c rfl (lvs_c rfl (lvs_c rfl (lvs_c rfl (lvs_c rfl lvs_n)))))) (tail (fun q => q.1.elim (fun y => by have := e1.mpr y; cases this) (fun y => by have := e2.mpr y; cases this)))
      · subst hb2
        refine r_if_eq M 80 dX6_reason_70 (by decide) (fun h9 => absurd h9 (by decide)) (fun _ => ?_)
        exact r_lvs M _ (lvs_c rfl (lvs_c rfl (lvs_c rfl (lvs_c rfl (lvs_c rfl (lvs_c rfl lvs_n)))))) (mid (Or.inr (e2.mp rfl)))
    · subst ha2
      refine r_if_ne M 73 dX6_reason_65 (by decide) (fun _ => ?_) (fun h9 => absurd h9 (by decide))
      exact r_lvs M _ (lvs_c rfl (lvs_c rfl (lvs_c rfl (lvs_c rfl (lvs_c rfl (lvs_c rfl lvs_n)))))) (mid (Or.inl (e1.mp rfl)))
  have k2 : ∀ a b : Bool, (a = true ↔ 5 ≤ h2) → (b = true ↔ 5 ≤ h3) → B 33 [(0, .ref 0), (1, .int x), (2, .int but), (3, .int (b2i a))] [.int (b2i b)] (MW th sv ln at9 pt nm op kp hs s tx bg tm) := by
    intro a b e1 e2
    have go : ∀ z : Bool, (z = true ↔ (5 ≤ h0 ∧ 5 ≤ h1)) → B 62 [(0, .ref 0), (1, .int x), (2, .int but), (3, .int (b2i a)), (4, .int (b2i b))] [.int (b2i z)] (MW th sv ln at9 pt nm op kp hs s tx bg tm) := fun z e3 => k3 a b z e1 e2 e3
    refine r_istore M dX6_reason_33 (by decide) ?_
    refine r_lvs M [(0, .ref 0), (1, .int x), (2, .int but), (3, .int (b2i a)), (4, .int (b2i b))] (lvs_c rfl (lvs_c rfl (lvs_c rfl (lvs_c rfl (lvs_c rfl lvs_n))))) ?_
    refine r_aload_n M dX6_reason_35 rfl ?_
    refine r_iconst M 0 dX6_reason_36 (by decide) ?_
    refine r_iload_n M dX6_reason_37 rfl ?_
    refine r_iload_n M dX6_reason_38 rfl ?_
    refine r_V3ik M c0 lk_X6_34 dX6_reason_39 (by decide +kernel) ⟨Nat.le_of_ble_eq_true rfl, Nat.le_of_ble_eq_true rfl⟩ ⟨rfl, rfl⟩ [0, 1, 2, 3, 4] rfl rfl rfl (by decide +kernel) rfl (Nat.le_of_ble_eq_true rfl) ?_
    refine r_iconst M 5 dX6_reason_42 (by decide) ?_
    refine r_icmp_lt M 61 dX6_reason_43 (by decide) (fun h => ?_) (fun h => ?_)
    · refine r_iconst M 0 dX6_reason_61 (by decide) ?_
      exact go false (by rw [nle5] at h; simp [h])
    · refine r_aload_n M dX6_reason_46 rfl ?_
      refine r_iconst M 1 dX6_reason_47 (by decide) ?_
      refine r_iload_n M dX6_reason_48 rfl ?_
      refine r_iload_n M dX6_reason_49 rfl ?_
      refine r_V3ik M c1 lk_X6_34 dX6_reason_50 (by decide +kernel) ⟨Nat.le_of_ble_eq_true rfl, Nat.le_of_ble_eq_true rfl⟩ ⟨rfl, rfl⟩ [0, 1, 2, 3, 4] rfl rfl rfl (by decide +kernel) rfl (Nat.le_of_ble_eq_true rfl) ?_
      refine r_iconst M 5 dX6_reason_53 (by decide) ?_
      refine r_icmp_lt M 61 dX6_reason_54 (by decide) (fun h9 => ?_) (fun h9 => ?_)
      · refine r_iconst M 0 dX6_reason_61 (by decide) ?_
        exact go false (by rw [nle5] at h9; simp [h9])
      · refine r_iconst M 1 dX6_reason_57 (by decide) ?_
        refine r_goto M 62 dX6_reason_58 (by decide) ?_
        exact go true (by rw [nle5] at h h9; simp only [Decidable.not_not] at h h9; simp [h, h9])
  have k1 : ∀ a : Bool, (a = true ↔ 5 ≤ h2) → B 16 [(0, .ref 0), (1, .int x), (2, .int but)] [.int (b2i a)] (MW th sv ln at9 pt nm op kp hs s tx bg tm) := by
    intro a e1
    refine r_istore_n M dX6_reason_16 (by decide) ?_
    refine r_lvs M [(0, .ref 0), (1, .int x), (2, .int but), (3, .int (b2i a))] (lvs_c rfl (lvs_c rfl (lvs_c rfl (lvs_c rfl lvs_n)))) ?_
    refine r_aload_n M dX6_reason_17 rfl ?_
    refine r_iconst M 3 dX6_reason_18 (by decide) ?_
    refine r_iload_n M dX6_reason_19 rfl ?_
    refine r_iload_n M dX6_reason_20 rfl ?_
    refine r_V3ik M c3 lk_X6_34 dX6_reason_21 (by decide +kernel) ⟨Nat.le_of_ble_eq_true rfl, Nat.le_of_ble_eq_true rfl⟩ ⟨rfl, rfl⟩ [0, 1, 2, 3, 4] rfl rfl rfl (by decide +kernel) rfl (Nat.le_of_ble_eq_true rfl) ?_
    refine r_iconst M 5 dX6_reason_24 (by decide) ?_
    refine r_icmp_lt M 32 dX6_reason_25 (by decide) (fun h => ?_) (fun h => ?_)
    · refine r_iconst M 0 dX6_reason_32 (by decide) ?_
      exact k2 a false e1 (by rw [nle5] at h; simp [h])
    · refine r_iconst M 1 dX6_reason_28 (by decide) ?_
      refine r_goto M 33 dX6_reason_29 (by decide) ?_
      exact k2 a true e1 (by rw [nle5] at h; simp only [Decidable.not_not] at h; simp [h])
  refine r_aload_n M dX6_reason_0 rfl ?_
  refine r_iconst M 2 dX6_reason_1 (by decide) ?_
  refine r_iload_n M dX6_reason_2 rfl ?_
  refine r_iload_n M dX6_reason_3 rfl ?_
  refine r_V3ik M c2 lk_X6_34 dX6_reason_4 (by decide +kernel) ⟨Nat.le_of_ble_eq_true rfl, Nat.le_of_ble_eq_true rfl⟩ ⟨rfl, rfl⟩ [0, 1, 2, 3, 4] rfl rfl rfl (by decide +kernel) rfl (Nat.le_of_ble_eq_true rfl) ?_
  refine r_iconst M 5 dX6_reason_7 (by decide) ?_
  refine r_icmp_lt M 15 dX6_reason_8 (by decide) (fun h => ?_) (fun h => ?_)
  · refine r_iconst M 0 dX6_reason_15 (by decide) ?_
    exact k1 false (by rw [nle5] at h; simp [h])
  · refine r_iconst M 1 dX6_reason_11 (by decide) ?_
    refine r_goto M 16 dX6_reason_12 (by decide) ?_
    exact k1 true (by rw [nle5] at h; simp only [Decidable.not_not] at h; simp [h])
theorem c_isAllowed {d : SD} (hR : Rp s d) (hO : SOk d) : Con yX6_isAllowed cX6_isAllowed 1 (some .boolean) (rmk 3 71) [.ref 0] (MW th sv ln at9 pt nm op kp hs s tx bg tm) (some (.int (b2i (decide (fltB (sTe d) (sTo d) (sLo d) (sHe d) 0 (sSe d) = 0))))) (MW th sv ln at9 pt nm op kp hs s tx bg tm) := by
  refine Con.of (own := RX6) (by decide) rfl (Nat.le_of_ble_eq_true rfl) rfl (fun B M => ?_)
  refine r_aload_n M dX6_isAllowed_0 rfl ?_
  refine r_iconst M 0 dX6_isAllowed_1 (by decide) ?_
  refine r_iconst M (-1) dX6_isAllowed_2 (by decide) ?_
  refine r_V2ik M (c_reason th sv ln at9 pt nm op kp hs s tx bg tm hR hO 0 (-1) (sLo d) (fun w h5 => lo_all d h5)) lk_X6_38 dX6_isAllowed_3 (by decide +kernel) ⟨Nat.le_of_ble_eq_true rfl, Nat.le_of_ble_eq_true rfl⟩ ⟨rfl, rfl⟩ [0, 1, 2, 3, 4] rfl rfl rfl (by decide +kernel) rfl (Nat.le_of_ble_eq_true rfl) ?_
  refine r_if_ne M 13 dX6_isAllowed_6 (by decide) (fun h => ?_) (fun h => ?_)
  · refine r_iconst M 0 dX6_isAllowed_13 (by decide) ?_
    exact r_zret M dX6_isAllowed_14 rfl rfl (by rw [decide_eq_false h]; rfl) rfl
  · refine r_iconst M 1 dX6_isAllowed_9 (by decide) ?_
    refine r_goto M 14 dX6_isAllowed_10 (by decide) ?_
    exact r_zret M dX6_isAllowed_14 rfl rfl (by rw [decide_eq_true h]; rfl) rfl
theorem c_mPlace {d : SD} (hR : Rp s d) : Con yX6_place cX6_place 1 (some .int) (rmk 1 22) [.ref 0] (MW th sv ln at9 pt nm op kp hs s tx bg tm) (some (.int (md (sCr d) 60))) (MW th sv ln at9 pt nm op kp hs s tx bg tm) := by
  refine Con.of (own := RX6) (by decide) rfl (Nat.le_of_ble_eq_true rfl) rfl (fun B M => ?_)
  refine r_aload_n M dX6_place_0 rfl ?_
  refine r_get M fl_X6_7 dX6_place_1 rfl rfl ?_
  refine r_bipush M 76 dX6_place_4 (by decide) ?_
  refine r_iald M dX6_place_6 rfl (s_in (j := 76) (by omega)) ?_
  rw [show s (76 : Int32).toNatClampNeg = sCr d from hR.2.2.2.2.2.1]
  refine r_bipush M 60 dX6_place_7 (by decide) ?_
  refine r_S2ik M (c_leftOver _ _ (by decide)) lk_X6_30 dX6_place_9 (by decide +kernel) ⟨Nat.le_of_ble_eq_true rfl, Nat.le_of_ble_eq_true rfl⟩ ⟨rfl, rfl⟩ [] rfl (by decide +kernel) rfl (Nat.le_of_ble_eq_true rfl) ?_
  exact r_iret M dX6_place_12 rfl rfl rfl
theorem c_mIsCaught {d : SD} (hR : Rp s d) : Con yX6_isCaught cX6_isCaught 1 (some .boolean) (rmk 2 42) [.ref 0] (MW th sv ln at9 pt nm op kp hs s tx bg tm) (some (.int (b2i (cau (sSt d) (sCr d) (sLi d))))) (MW th sv ln at9 pt nm op kp hs s tx bg tm) := by
  refine Con.of (own := RX6) (by decide) rfl (Nat.le_of_ble_eq_true rfl) rfl (fun B M => ?_)
  obtain ⟨t, ht, het⟩ := vp_in_of (md_in (v := sCr d) (d := 60) (n := 60) rfl (by omega)) (by omega)
  have hst := hR.2.2.2.2.2.2.2.2.2.2.2.2 t ht
  have hli : s 77 = b2i (sLi d) := hR.2.2.2.2.2.2.1
  rw [cau, het, cl_s (by omega)] at M
  refine r_aload_n M dX6_isCaught_0 rfl ?_
  refine r_get M fl_X6_7 dX6_isCaught_1 rfl rfl ?_
  refine r_bipush M 112 dX6_isCaught_4 (by decide) ?_
  refine r_aload_n M dX6_isCaught_6 rfl ?_
  refine r_V0ik M (c_mPlace th sv ln at9 pt nm op kp hs s tx bg tm hR) lk_X6_41 dX6_isCaught_7 (by decide +kernel) ⟨Nat.le_of_ble_eq_true rfl, Nat.le_of_ble_eq_true rfl⟩ ⟨rfl, rfl⟩ [0, 1, 2, 3, 4] rfl rfl rfl (by decide +kernel) rfl (Nat.le_of_ble_eq_true rfl) ?_
  rw [het]
  refine r_iadd M dX6_isCaught_10 ?_
  rw [show (112 : Int32) + nI t = nI (112 + t) from nI_add 112 t]
  refine r_iald M dX6_isCaught_11 rfl (s_in (by omega)) ?_
  rw [cl_s (by omega), hst]
  refine r_iconst M 1 dX6_isCaught_12 (by decide) ?_
  cases h1 : sSt d t
  · rw [h1] at M
    refine r_icmp_ne M 30 dX6_isCaught_13 (by decide) (fun _ => ?_) (fun h9 => absurd h9 (by decide))
    refine r_iconst M 0 dX6_isCaught_30 (by decide) ?_
    exact r_zret M dX6_isCaught_31 rfl rfl (by cases sLi d <;> rfl) rfl
  · rw [h1] at M
    refine r_icmp_ne M 30 dX6_isCaught_13 (by decide) (fun h9 => absurd rfl h9) (fun _ => ?_)
    refine r_aload_n M dX6_isCaught_16 rfl ?_
    refine r_get M fl_X6_7 dX6_isCaught_17 rfl rfl ?_
    refine r_bipush M 77 dX6_isCaught_20 (by decide) ?_
    refine r_iald M dX6_isCaught_22 rfl (s_in (j := 77) (by omega)) ?_
    rw [show s (77 : Int32).toNatClampNeg = b2i (sLi d) from hli]
    cases h2 : sLi d
    · rw [h2] at M
      refine r_if_ne M 30 dX6_isCaught_23 (by decide) (fun h9 => absurd rfl h9) (fun _ => ?_)
      refine r_iconst M 1 dX6_isCaught_26 (by decide) ?_
      refine r_goto M 31 dX6_isCaught_27 (by decide) ?_
      exact r_zret M dX6_isCaught_31 rfl rfl rfl rfl
    · rw [h2] at M
      refine r_if_ne M 30 dX6_isCaught_23 (by decide) (fun _ => ?_) (fun h9 => absurd h9 (by decide))
      refine r_iconst M 0 dX6_isCaught_30 (by decide) ?_
      exact r_zret M dX6_isCaught_31 rfl rfl rfl rfl
theorem flt_rng (a b c d e s9 : Int32) : fltOf a b c d e s9 = 0 ∨ fltOf a b c d e s9 = 1 ∨ fltOf a b c d e s9 = 2 := by
  rw [fltOf]
  split
  · exact Or.inr (Or.inl rfl)
  · split
    · exact Or.inr (Or.inr rfl)
    · exact Or.inl rfl
theorem c_whyNot {d : SD} (hR : Rp s d) (hO : SOk d) (x but : Int32) (lo : Nat → Bool) (hlo : ∀ w, w < 5 → lo w = (sLo d w && !decide (nI w = but))) : Con yX6_whyNot cX6_whyNot 4 (some .int) (rmk 3 71) [.ref 0, .int x, .int but] (MW th sv ln at9 pt nm op kp hs s tx bg tm) (some (.int (whyS (fltB (sTe d) (sTo d) lo (sHe d) x (sSe d)) (cau (sSt d) (sCr d) (sLi d)) (sCr d) x))) (MW th sv ln at9 pt nm op kp hs s tx bg tm) := by
  refine Con.of (own := RX6) (by decide) rfl (Nat.le_of_ble_eq_true rfl) rfl (fun B M => ?_)
  have hcr : s 76 = sCr d := hR.2.2.2.2.2.1
  have hrg := flt_rng (hB (sTe d) (sTo d) lo (sHe d) 0 x) (hB (sTe d) (sTo d) lo (sHe d) 1 x) (hB (sTe d) (sTo d) lo (sHe d) 2 x) (hB (sTe d) (sTo d) lo (sHe d) 3 x) (hB (sTe d) (sTo d) lo (sHe d) 4 x) (sSe d)
  have hcon := c_reason th sv ln at9 pt nm op kp hs s tx bg tm hR hO x but lo hlo
  rw [← fltB] at hrg
  generalize fltB (sTe d) (sTo d) lo (sHe d) x (sSe d) = f at M hrg hcon
  refine r_aload_n M dX6_whyNot_0 rfl ?_
  refine r_iload_n M dX6_whyNot_1 rfl ?_
  refine r_iload_n M dX6_whyNot_2 rfl ?_
  refine r_V2ik M hcon lk_X6_38 dX6_whyNot_3 (by decide +kernel) ⟨Nat.le_of_ble_eq_true rfl, Nat.le_of_ble_eq_true rfl⟩ ⟨rfl, rfl⟩ [0, 1, 2, 3, 4] rfl rfl rfl (by decide +kernel) rfl (Nat.le_of_ble_eq_true rfl) ?_
  refine r_istore_n M dX6_whyNot_6 (by decide) ?_
  refine r_iload_n M dX6_whyNot_7 rfl ?_
  by_cases h0 : f = 0
  · subst h0
    rw [whyS, if_neg (by simp)] at M
    refine r_if_le M 13 dX6_whyNot_8 (by decide) (fun _ => ?_) (fun h9 => absurd (by decide) h9)
    refine r_aload_n M dX6_whyNot_13 rfl ?_
    refine r_V0ik M (c_mIsCaught th sv ln at9 pt nm op kp hs s tx bg tm hR) lk_X6_45 dX6_whyNot_14 (by decide +kernel) ⟨Nat.le_of_ble_eq_true rfl, Nat.le_of_ble_eq_true rfl⟩ ⟨rfl, rfl⟩ [0, 1, 2, 3, 4] rfl rfl rfl (by decide +kernel) rfl (Nat.le_of_ble_eq_true rfl) ?_
    cases hc : cau (sSt d) (sCr d) (sLi d)
    · rw [hc, if_neg (by decide)] at M
      refine r_if_eq M 24 dX6_whyNot_17 (by decide) (fun _ => ?_) (fun h9 => absurd rfl h9)
      refine r_aload_n M dX6_whyNot_24 rfl ?_
      refine r_get M fl_X6_7 dX6_whyNot_25 rfl rfl ?_
      refine r_bipush M 76 dX6_whyNot_28 (by decide) ?_
      refine r_iald M dX6_whyNot_30 rfl (s_in (j := 76) (by omega)) ?_
      rw [show s (76 : Int32).toNatClampNeg = sCr d from hcr]
      refine r_iload_n M dX6_whyNot_31 rfl ?_
      refine r_iadd M dX6_whyNot_32 ?_
      refine r_sipush M (-9999) dX6_whyNot_33 (by decide) ?_
      refine r_sipush M 9999 dX6_whyNot_36 (by decide) ?_
      refine r_S3ik M (c_in _ _ _) lk_X6_26 dX6_whyNot_39 (by decide +kernel) ⟨Nat.le_of_ble_eq_true rfl, Nat.le_of_ble_eq_true rfl⟩ ⟨rfl, rfl⟩ [] rfl (by decide +kernel) rfl (Nat.le_of_ble_eq_true rfl) ?_
      cases hb : btw (sCr d + x) (-9999) 9999
      · rw [if_pos (by
          rw [btw, decide_eq_false_iff_not] at hb
          by_cases q : 9999 < sCr d + x
          · exact Or.inl q
          · exact Or.inr (Int32.not_le.mp (fun z => hb ⟨z, Int32.not_lt.mp q⟩)))] at M
        refine r_if_eq M 49 dX6_whyNot_42 (by decide) (fun _ => ?_) (fun h9 => absurd rfl h9)
        refine r_iconst M 4 dX6_whyNot_49 (by decide) ?_
        exact r_iret M dX6_whyNot_50 rfl rfl rfl
      · rw [btw, decide_eq_true_iff] at hb
        rw [if_neg (by rintro (q | q); exact absurd q (Int32.not_lt.mpr hb.2); exact absurd q (Int32.not_lt.mpr hb.1))] at M
        refine r_if_eq M 49 dX6_whyNot_42 (by decide) (fun h9 => absurd h9 (by decide)) (fun _ => ?_)
        refine r_iconst M 0 dX6_whyNot_45 (by decide) ?_
        refine r_goto M 50 dX6_whyNot_46 (by decide) ?_
        exact r_iret M dX6_whyNot_50 rfl rfl rfl
    · rw [hc, if_pos rfl] at M
      refine r_if_eq M 24 dX6_whyNot_17 (by decide) (fun h9 => absurd h9 (by decide)) (fun _ => ?_)
      refine r_iconst M 3 dX6_whyNot_20 (by decide) ?_
      refine r_goto M 50 dX6_whyNot_21 (by decide) ?_
      exact r_iret M dX6_whyNot_50 rfl rfl rfl
  · rw [whyS, if_pos h0] at M
    refine r_if_le M 13 dX6_whyNot_8 (by decide) (fun h9 => absurd h9 (by rcases hrg with h | h | h; exact absurd h h0; rw [h]; decide; rw [h]; decide)) (fun _ => ?_)
    refine r_iload_n M dX6_whyNot_11 rfl ?_
    exact r_iret M dX6_whyNot_12 rfl rfl rfl
end


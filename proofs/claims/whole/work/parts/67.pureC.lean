/-- a piece of the model's row -/
def sgF (s : Nat → Int32) (a : Nat) : Nat → Int32 := fun i => s (172 * a + i)
theorem cpS_in (s : Nat → Int32) (a b : Nat) {j : Nat} (h : j < 172) : cpS s a b (172 * b + j) = s (172 * a + j) := by
  rw [cpS, cpK, if_pos (by omega)]
  congr 1
  omega
theorem sv_new (s : Nat → Int32) {v : Nat} (hv : v < 6) {j : Nat} (h : j < 172) : sgF (svS s v) (v + 1) j = s j := by
  rw [sgF, svS, if_pos hv, cpS_in s 0 (v + 1) h]
  congr 1
  omega
theorem sv_old (s : Nat → Int32) {v a : Nat} (hv : v < 6) (ha : a ≠ v + 1) {j : Nat} (h : j < 172) : sgF (svS s v) a j = sgF s a j := by
  rw [sgF, svS, if_pos hv, cpS_out _ (by omega), sgF]
theorem sv_6 (s : Nat → Int32) {a : Nat} (h1 : 1 ≤ a) (h5 : a ≤ 5) {j : Nat} (h : j < 172) : sgF (svS s 6) a j = sgF s (a + 1) j := by
  rw [sgF, svS, if_neg (by omega), sgF]
  rcases (by omega : a = 1 ∨ a = 2 ∨ a = 3 ∨ a = 4 ∨ a = 5) with rfl | rfl | rfl | rfl | rfl
  · rw [cpS_out _ (by omega), cpS_out _ (by omega), cpS_out _ (by omega), cpS_out _ (by omega), cpS_out _ (by omega), cpS_in _ _ _ h]
  · rw [cpS_out _ (by omega), cpS_out _ (by omega), cpS_out _ (by omega), cpS_out _ (by omega), cpS_in _ _ _ h, cpS_out _ (by omega)]
  · rw [cpS_out _ (by omega), cpS_out _ (by omega), cpS_out _ (by omega), cpS_in _ _ _ h, cpS_out _ (by omega), cpS_out _ (by omega)]
  · rw [cpS_out _ (by omega), cpS_out _ (by omega), cpS_in _ _ _ h, cpS_out _ (by omega), cpS_out _ (by omega), cpS_out _ (by omega)]
  · rw [cpS_out _ (by omega), cpS_in _ _ _ h, cpS_out _ (by omega), cpS_out _ (by omega), cpS_out _ (by omega), cpS_out _ (by omega)]
theorem sv_66 (s : Nat → Int32) {j : Nat} (h : j < 172) : sgF (svS s 6) 6 j = s j := by
  rw [sgF, svS, if_neg (by omega), cpS_in _ _ _ h, cpS_out _ (by omega), cpS_out _ (by omega), cpS_out _ (by omega), cpS_out _ (by omega), cpS_out _ (by omega)]
  congr 1
  omega
theorem sv_67 (s : Nat → Int32) {j : Nat} (h : j < 172) : sgF (svS s 6) 7 j = sgF s 7 j := by
  rw [sgF, svS, if_neg (by omega), cpS_out _ (by omega), cpS_out _ (by omega), cpS_out _ (by omega), cpS_out _ (by omega), cpS_out _ (by omega), cpS_out _ (by omega), sgF]
/-- the saved states are the model's -/
def Hst (b : Nat) (s : Nat → Int32) (k : Nat) (rm : Nat → Nat) (R : Nat → SD) : Prop := (∀ j, rm j < 6) ∧ (∀ i j, i < 6 → j < 6 → rm i = rm j → i = j) ∧ k ≤ 6 ∧ ∀ j, j < k → Rp (sgF s (j + 1)) (R (rm j)) ∧ GOk b (R (rm j))
/-- so is the snapshot -/
def Snp (b : Nat) (s : Nat → Int32) (kp : Bool) (d1 : SD) : Prop := kp = true → Rp (sgF s 7) d1 ∧ GOk b d1
theorem Hst.more {b c : Nat} {s : Nat → Int32} {k : Nat} {rm : Nat → Nat} {R : Nat → SD} (h : Hst b s k rm R) (hbc : b ≤ c) : Hst c s k rm R := ⟨h.1, h.2.1, h.2.2.1, fun j hj => ⟨(h.2.2.2 j hj).1, (h.2.2.2 j hj).2.more hbc⟩⟩
theorem Snp.more {b c : Nat} {s : Nat → Int32} {kp : Bool} {d1 : SD} (h : Snp b s kp d1) (hbc : b ≤ c) : Snp c s kp d1 := fun q => ⟨(h q).1, (h q).2.more hbc⟩
/-- rows that are the same behind the first piece -/
def sHi (s s2 : Nat → Int32) : Prop := ∀ i, 172 ≤ i → s2 i = s i
theorem Hst.hi {b : Nat} {s s2 : Nat → Int32} {k : Nat} {rm : Nat → Nat} {R : Nat → SD} (h : Hst b s k rm R) (e : sHi s s2) : Hst b s2 k rm R :=
  ⟨h.1, h.2.1, h.2.2.1, fun j hj => ⟨Rp_congr (fun i hi => by rw [sgF, sgF, e _ (by omega)]) (h.2.2.2 j hj).2.1 (h.2.2.2 j hj).1, (h.2.2.2 j hj).2⟩⟩
theorem Snp.hi {b : Nat} {s s2 : Nat → Int32} {kp : Bool} {d1 : SD} (h : Snp b s kp d1) (e : sHi s s2) : Snp b s2 kp d1 :=
  fun q => ⟨Rp_congr (fun i hi => by rw [sgF, sgF, e _ (by omega)]) (h q).2.1 (h q).1, (h q).2⟩
theorem Snp.sv {b : Nat} {s : Nat → Int32} {kp : Bool} {d1 : SD} (h : Snp b s kp d1) {v : Nat} (hv : v ≤ 6) : Snp b (svS s v) kp d1 := fun q => by
  refine ⟨Rp_congr (fun i hi => ?_) (h q).2.1 (h q).1, (h q).2⟩
  by_cases hl : v < 6
  · exact sv_old s hl (by omega) hi
  · obtain rfl : v = 6 := by omega
    exact sv_67 s hi
theorem Hst.push {b : Nat} {s : Nat → Int32} {k : Nat} {rm : Nat → Nat} {R : Nat → SD} {d : SD} (h : Hst b s k rm R) (hR : Rp s d) (hG : GOk b d) : Hst b (svS s k) (puK k) (puM k rm) (puR k rm R d) := by
  obtain ⟨h1, h2, h3, h4⟩ := h
  by_cases hl : k < 6
  · rw [puK, puM, puR, if_pos hl, if_pos hl, if_pos hl]
    refine ⟨h1, h2, by omega, fun j hj => ?_⟩
    by_cases e : j = k
    · subst e
      rw [show va_up R (rm j) d (rm j) = d from by simp [va_up]]
      exact ⟨Rp_congr (fun i hi => sv_new s hl hi) hG.1 hR, hG⟩
    · have hne : rm j ≠ rm k := fun z => e (h2 j k (by omega) hl z)
      rw [show va_up R (rm k) d (rm j) = R (rm j) from by simp [va_up, hne]]
      obtain ⟨q1, q2⟩ := h4 j (by omega)
      exact ⟨Rp_congr (fun i hi => sv_old s hl (by omega) hi) q2.1 q1, q2⟩
  · obtain rfl : k = 6 := by omega
    rw [puK, puM, puR, if_neg (by omega), if_neg (by omega), if_neg (by omega)]
    refine ⟨rotr_ok h1, fun i j hi hj he => ?_, by omega, fun j hj => ?_⟩
    · rw [rotr, rotr] at he
      by_cases a : i = 5
      · by_cases c : j = 5
        · omega
        · rw [if_pos a, if_neg c, if_pos (by omega)] at he
          have := h2 0 (j + 1) (by omega) (by omega) he
          omega
      · by_cases c : j = 5
        · rw [if_neg a, if_pos c, if_pos (by omega)] at he
          have := h2 (i + 1) 0 (by omega) (by omega) he
          omega
        · rw [if_neg a, if_neg c, if_pos (by omega), if_pos (by omega)] at he
          have := h2 (i + 1) (j + 1) (by omega) (by omega) he
          omega
    · by_cases a : j = 5
      · subst a
        rw [rotr, if_pos rfl, show va_up R (rm 0) d (rm 0) = d from by simp [va_up]]
        exact ⟨Rp_congr (fun i hi => sv_66 s hi) hG.1 hR, hG⟩
      · have hne : rm (j + 1) ≠ rm 0 := fun z => by have := h2 (j + 1) 0 (by omega) (by omega) z; omega
        rw [rotr, if_neg a, if_pos (by omega), show va_up R (rm 0) d (rm (j + 1)) = R (rm (j + 1)) from by simp [va_up, hne]]
        obtain ⟨q1, q2⟩ := h4 (j + 1) (by omega)
        exact ⟨Rp_congr (fun i hi => sv_6 s (by omega) (by omega) hi) q2.1 q1, q2⟩
/-- the class's state is the model's row -/
def Stt (b : Nat) (s : Nat → Int32) (d0 d1 : SD) (kp : Bool) (k : Nat) (rm : Nat → Nat) (R : Nat → SD) : Prop := Rp s d0 ∧ GOk b d0 ∧ Hst b s k rm R ∧ Snp b s kp d1
theorem Stt.push {b c : Nat} {s s2 : Nat → Int32} {d0 d1 d2 : SD} {kp : Bool} {k : Nat} {rm : Nat → Nat} {R : Nat → SD} (h : Stt b s d0 d1 kp k rm R) (hbc : b ≤ c) (e : sHi (svS s k) s2) (hR : Rp s2 d2) (hG : GOk c d2) : Stt c s2 d2 d1 kp (puK k) (puM k rm) (puR k rm R d0) :=
  ⟨hR, hG, ((h.2.2.1.push h.1 h.2.1).hi e).more hbc, ((h.2.2.2.sv h.2.2.1.2.2.1).hi e).more hbc⟩
theorem Stt.keep {b : Nat} {s : Nat → Int32} {d0 d1 : SD} {kp : Bool} {k : Nat} {rm : Nat → Nat} {R : Nat → SD} (h : Stt b s d0 d1 kp k rm R) : Stt b (cpS s 0 7) d0 d0 true k rm R := by
  obtain ⟨h1, h2, h3, h4⟩ := h
  refine ⟨Rp_congr (fun j hj => cpS_out s (by omega)) h2.1 h1, h2, ⟨h3.1, h3.2.1, h3.2.2.1, fun j hj => ?_⟩, fun _ => ⟨Rp_congr (fun j hj => ?_) h2.1 h1, h2⟩⟩
  · obtain ⟨q1, q2⟩ := h3.2.2.2 j hj
    have hk := h3.2.2.1
    exact ⟨Rp_congr (fun i hi => by rw [sgF, cpS_out s (by omega), sgF]) q2.1 q1, q2⟩
  · rw [sgF, cpS_in s 0 7 hj]
    congr 1
    omega
theorem Stt.goBack {b : Nat} {s : Nat → Int32} {d0 d1 : SD} {k : Nat} {rm : Nat → Nat} {R : Nat → SD} (h : Stt b s d0 d1 true k rm R) : Stt b (cpS (svS s k) 7 0) d1 d1 true (puK k) (puM k rm) (puR k rm R d0) := by
  have hs := (h.2.2.2.sv h.2.2.1.2.2.1) rfl
  refine h.push (Nat.le_refl _) (fun i hi => cpS_out _ (by omega)) (Rp_congr (fun j hj => ?_) hs.2.1 hs.1) hs.2
  have := cpS_in (svS s k) 7 0 hj
  rw [Nat.mul_zero, Nat.zero_add] at this
  rw [this, sgF]
theorem Stt.undo {b : Nat} {s : Nat → Int32} {d0 d1 : SD} {kp : Bool} {k : Nat} {rm : Nat → Nat} {R : Nat → SD} (h : Stt b s d0 d1 kp (k + 1) rm R) : Stt b (cpS s (k + 1) 0) (R (rm k)) d1 kp k rm R := by
  obtain ⟨h1, h2, ⟨a1, a2, a3, a4⟩, h4⟩ := h
  have e : sHi s (cpS s (k + 1) 0) := fun i hi => cpS_out _ (by omega)
  obtain ⟨q1, q2⟩ := a4 k (by omega)
  have h3 : Hst b s k rm R := ⟨a1, a2, by omega, fun j hj => a4 j (by omega)⟩
  refine ⟨Rp_congr (fun j hj => ?_) q2.1 q1, q2, h3.hi e, h4.hi e⟩
  have := cpS_in s (k + 1) 0 hj
  rw [Nat.mul_zero, Nat.zero_add] at this
  rw [this, sgF]
theorem sHi_rf (s : Nat → Int32) : sHi s s := fun _ _ => rfl
theorem sHi_upd {s s2 : Nat → Int32} (h : sHi s s2) {j : Nat} (hj : j < 172) (x : Int32) : sHi s (upd s2 j x) := fun i hi => by rw [upd_ne (by omega)]; exact h i hi
theorem sHi_fi {s s2 : Nat → Int32} (h : sHi s s2) {a k : Nat} (hj : a + k ≤ 172) (g : Nat → Int32) : sHi s (fiK s2 a k g) := fun i hi => by rw [fiK_out _ _ (by omega)]; exact h i hi
theorem sHi_st {s s2 : Nat → Int32} (h : sHi s s2) (x : Int32) : sHi s (stS s2 x) := fun i hi => by
  rw [stS, stK, if_neg (by omega), stH_ne s2 x (by omega) (by omega) (by omega) (by omega)]; exact h i hi
theorem sHi_it (x : Int32) : ∀ (m : Nat) (s s2 : Nat → Int32), sHi s s2 → sHi s (stIt x m s2)
  | 0, _, _, h => h
  | m + 1, s, s2, h => sHi_it x m s (stS s2 x) (sHi_st h x)


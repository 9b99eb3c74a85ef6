/-- the whole theatre's cells; f: the rooms' array -/
abbrev CWf (kp : Bool) (d0 d1 : SD) (k : Nat) (f : Nat → Option Nat) (R : Nat → SD) (cod : Nat → Int32) (len aw op fig pop pmk pen : Int32) (psts ptd : Nat → Nat) (t : WD) : List va_E :=
  COx (.ref 1) (.ref 11) kp (.ref 21) (.ref 83) (.ref 85) (.ref 88) :: (SWd 1 d0 ++ (SWd 11 d1 ++ (.inr (0, [.ref 22, .int (nI k)]) :: .inl (3, 6, .inr (.inr (.inr (.inr f)))) :: (SWd 23 (R 0) ++ (SWd 33 (R 1) ++ (SWd 43 (R 2) ++ (SWd 53 (R 3) ++ (SWd 63 (R 4) ++ (SWd 73 (R 5)
  ++ (.inr (3, [.ref 84, .int len, .int aw, .int op, .int fig]) :: .inl (0, 60, .inl cod) :: .inr (1, [.ref 86, .ref 87, .int pop, .int pmk, .int pen]) :: .inl (0, 3, .inl (fun j => nI (psts j))) :: .inl (0, 3, .inl (fun j => nI (ptd j))) :: WWd 88 t))))))))))
abbrev CW (kp : Bool) (d0 d1 : SD) (k : Nat) (rm : Nat → Nat) (R : Nat → SD) (cod : Nat → Int32) (len aw op fig pop pmk pen : Int32) (psts ptd : Nat → Nat) (t : WD) : List va_E := CWf kp d0 d1 k (fun j => some (23 + 10 * rm j)) R cod len aw op fig pop pmk pen psts ptd t
def PSH : List Nat := [21, 22] ++ rg 23 60 ++ rg 1 10
/-- the rooms turned by one -/
def rotr (rm : Nat → Nat) : Nat → Nat := fun j => if j = 5 then rm 0 else if j < 5 then rm (j + 1) else rm j
/-- the history behind a push -/
def puK (k : Nat) : Nat := if k < 6 then k + 1 else 6
def puM (k : Nat) (rm : Nat → Nat) : Nat → Nat := if k < 6 then rm else rotr rm
def puR (k : Nat) (rm : Nat → Nat) (R : Nat → SD) (d0 : SD) : Nat → SD := if k < 6 then va_up R (rm k) d0 else va_up R (rm 0) d0
theorem rotr_ok {rm : Nat → Nat} (h : ∀ j, rm j < 6) : ∀ j, rotr rm j < 6 := by
  intro j
  rw [rotr]
  split
  · exact h 0
  · split
    · exact h _
    · exact h _
theorem psh_m : ∀ i, i < 6 → inn PSH (23 + 10 * i) = 2 + 10 * i := by decide +kernel
section
variable (kp : Bool) (d0 d1 : SD) (rm : Nat → Nat) (R : Nat → SD) (cod : Nat → Int32) (len aw op fig pop pmk pen : Int32) (psts ptd : Nat → Nat) (t : WD)
set_option maxRecDepth 100000 in
set_option maxHeartbeats 8000000 in
theorem push_lt {cc : ByteArray} {nL : Nat} {ret : Option FieldType} {rmm : Room} {r : Option Value} {w1 : List va_E} {B : KT} (M : MF RX5 cc nL ret rmm r w1 B) {pc : Nat} {lv : List (Nat × Value)} {st : List Value} (hd : decode cc pc = .ok (.invokevirtual 58, 3)) (hR : 3 + 1 ≤ rmm.frames ∧ 8 + (2 + 11) + 84 ≤ rmm.locals) (hst : (st.map (fun v => v.category)).sum ≤ 8)
    (hrm : ∀ j, rm j < 6) (k : Nat) (hk : k < 6) (kk : B (pc + 3) lv st (CW kp d0 d1 (k + 1) rm (va_up R (rm k) d0) cod len aw op fig pop pmk pen psts ptd t)) : B pc lv (.ref 1 :: .ref 21 :: st) (CW kp d0 d1 k rm R cod len aw op fig pop pmk pen psts ptd t) := by
  have hc := c_push_lt (fun j => (some (23 + 10 * rm j)).map (inn PSH)) R d0 k (rm k) hk (hrm k) (by simp only [Option.map_some, psh_m _ (hrm k)])
  refine r_V1vu (q := 21) (w' := CW kp d0 d1 (k + 1) rm (va_up R (rm k) d0) cod len aw op fig pop pmk pen psts ptd t) M hc lk_X5_58 hd (by decide +kernel) hR ⟨rfl, rfl⟩ PSH rfl rfl rfl (by decide +kernel) rfl hst ?_ kk
  rw [putw_mix ([0] ++ rg 2 60) PSH (w0 := HW (nI k) (fun j => (some (23 + 10 * rm j)).map (inn PSH)) R ++ SWd 62 d0) rfl (Eq.trans (b := 72) rfl rfl) rfl]
  rfl
end


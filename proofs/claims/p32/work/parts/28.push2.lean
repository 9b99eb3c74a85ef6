section
variable (kp : Bool) (d0 d1 : SD) (rm : Nat → Nat) (R : Nat → SD) (cod : Nat → Int32) (len aw op fig pop pmk pen : Int32) (psts ptd : Nat → Nat) (t : WD)
set_option maxRecDepth 100000 in
set_option maxHeartbeats 8000000 in
theorem push_full {cc : ByteArray} {nL : Nat} {ret : Option FieldType} {rmm : Room} {r : Option Value} {w1 : List va_E} {B : KT} (M : MF RX5 cc nL ret rmm r w1 B) {pc : Nat} {lv : List (Nat × Value)} {st : List Value} (hd : decode cc pc = .ok (.invokevirtual 58, 3)) (hR : 3 + 1 ≤ rmm.frames ∧ 8 + (2 + 11) + 84 ≤ rmm.locals) (hst : (st.map (fun v => v.category)).sum ≤ 8)
    (hrm : ∀ j, rm j < 6) (kk : B (pc + 3) lv st (CW kp d0 d1 6 (rotr rm) (va_up R (rm 0) d0) cod len aw op fig pop pmk pen psts ptd t)) : B pc lv (.ref 1 :: .ref 21 :: st) (CW kp d0 d1 6 rm R cod len aw op fig pop pmk pen psts ptd t) := by
  have hok : rmOk (fun j => (some (23 + 10 * rm j)).map (inn PSH)) := fun j _ => ⟨rm j, hrm j, by simp only [Option.map_some, psh_m _ (hrm j)]⟩
  have hc := c_push_full (fun j => (some (23 + 10 * rm j)).map (inn PSH)) R d0 (rm 0) hok (hrm 0) (by simp only [Option.map_some, psh_m _ (hrm 0)])
  have e1 : (fun j => (rotf (fun j => (some (23 + 10 * rm j)).map (inn PSH)) j).map (out PSH)) = (fun j => some (23 + 10 * rotr rm j)) := by
    funext j
    simp only [rotf, rotr]
    split
    · simp only [Option.map_some, out_inn]
    · split
      · simp only [Option.map_some, out_inn]
      · simp only [Option.map_some, out_inn]
  refine r_V1vu (q := 21) (w' := CWf kp d0 d1 6 (fun j => (rotf (fun j => (some (23 + 10 * rm j)).map (inn PSH)) j).map (out PSH)) (va_up R (rm 0) d0) cod len aw op fig pop pmk pen psts ptd t) M hc lk_X5_58 hd (by decide +kernel) hR ⟨rfl, rfl⟩ PSH rfl rfl rfl (by decide +kernel) rfl hst ?_ ?_
  · rw [putw_mix ([0, 1] ++ rg 2 60) PSH (w0 := HW (nI 6) (fun j => (some (23 + 10 * rm j)).map (inn PSH)) R ++ SWd 62 d0) rfl (Eq.trans (b := 72) rfl rfl) rfl]
    rfl
  · rw [e1]
    exact kk
theorem push_r {cc : ByteArray} {nL : Nat} {ret : Option FieldType} {rmm : Room} {r : Option Value} {w1 : List va_E} {B : KT} (M : MF RX5 cc nL ret rmm r w1 B) {pc : Nat} {lv : List (Nat × Value)} {st : List Value} (hd : decode cc pc = .ok (.invokevirtual 58, 3)) (hR : 3 + 1 ≤ rmm.frames ∧ 8 + (2 + 11) + 84 ≤ rmm.locals) (hst : (st.map (fun v => v.category)).sum ≤ 8)
    (hrm : ∀ j, rm j < 6) (k : Nat) (hk : k ≤ 6) (kk : B (pc + 3) lv st (CW kp d0 d1 (puK k) (puM k rm) (puR k rm R d0) cod len aw op fig pop pmk pen psts ptd t)) : B pc lv (.ref 1 :: .ref 21 :: st) (CW kp d0 d1 k rm R cod len aw op fig pop pmk pen psts ptd t) := by
  by_cases h : k < 6
  · rw [puK, puM, puR, if_pos h, if_pos h, if_pos h] at kk
    exact push_lt kp d0 d1 rm R cod len aw op fig pop pmk pen psts ptd t M hd hR hst hrm k h kk
  · rw [puK, puM, puR, if_neg h, if_neg h, if_neg h] at kk
    obtain rfl : k = 6 := by omega
    exact push_full kp d0 d1 rm R cod len aw op fig pop pmk pen psts ptd t M hd hR hst hrm kk
end


theorem upd_ne {f : Nat → Int32} {a b : Nat} {v : Int32} (h : b ≠ a) : upd f a v b = f b := by simp [upd, h]
theorem upd_eq {f : Nat → Int32} {a : Nat} {v : Int32} : upd f a v a = v := by simp [upd]
theorem tLk_at (te to : Nat → Int32) (lo : Nat → Bool) (x : Int32) {w m b : Nat} (h1 : 2 ≤ m) (h2 : m ≤ 12) (h3 : te w = nI m) : ∃ b' : Nat, (lo w = true → b' < m) ∧ (lo w = true → tLk te to lo x w = nI b') ∧ (lo w = false → tLk te to lo x w = to w) := by
  obtain ⟨t, ht, het⟩ := vp_in_of (md_in (v := to w + x) (d := te w) (n := m) (by rw [h3, nI_toInt (by omega)]) (by omega)) (by omega)
  exact ⟨t, fun _ => ht, fun h => by rw [tLk, if_pos h, het], fun h => by rw [tLk, if_neg (by rw [h]; decide)]⟩
theorem SOk_step {d : SD} (h : SOk d) (x : Int32) : SOk (stepD d x) := by
  refine ⟨fun w h5 => ?_, h.2⟩
  obtain ⟨m, b, h1, h2, h3, h4, h6⟩ := h.1 w h5
  obtain ⟨b', q1, q2, q3⟩ := tLk_at (b := b) (sTe d) (sTo d) (sLo d) x h1 h2 h3
  cases hl : sLo d w
  · exact ⟨m, b, h1, h2, h3, h4, by show tLk (sTe d) (sTo d) (sLo d) x w = _; rw [q3 hl]; exact h6⟩
  · exact ⟨m, b', h1, h2, h3, q1 hl, q2 hl⟩
section
variable (th sv ln at9 pt nm op : Int32) (kp : Bool) (hs : Int64) (s tx bg tm : Nat → Int32)
end
section
variable (th ln at9 pt nm op : Int32) (kp : Bool) (hs : Int64) (s tx bg tm : Nat → Int32)
end
section
variable (th sv ln at9 pt nm op : Int32) (kp : Bool) (hs : Int64) (s tx bg tm : Nat → Int32)
end


set_option maxHeartbeats 4000000 in
theorem whole_start {p : Program} {e : Env} {s : State} {m : MethodId} {below : List Frame} {meth : Method} {c : Code} (l : Launch) (hflags : l.flags = flags0) {b L : Nat} {xs : Nat → Int32} (hL : L ≤ 260) (C0 : lw_At p s m meth c b L xs) : W p l e room_1 s m #[Value.ref b] below meth c s.heap [] 0 0 (lw_Z below #[Value.ref b] s) (entryFrame m ([Value.ref b] : List Value).toArray 13) := by
  obtain ⟨hx, hb, hr, hml, hown, hts, hX, hbl, hlocks, hgv⟩ := C0
  have hd0 := Drawn.sameBut.refl s.drawn lw_cs
  obtain ⟨D, dA, hK⟩ := st_kk hts
  have hl := lv_entry ([Value.ref b]) (n := 13) (Nat.le_of_ble_eq_true rfl)
  have M : MG RL cL_law 13 ret room_1 0 0 (XS L xs) (BB p l e room_1 s m #[.ref b] below meth c (lw_Z below #[.ref b] s) 13 D dA (fr0 s) 0 0 (fun _ => b)) :=
    ⟨p, l, e, s, m, _, below, meth, c, D, dA, (fun _ => b), fr0 s, _, rfl, hx, hb, hml, hr, (fun w hw => hts w (List.mem_filter.mp hw).1), hown, hlocks, hK, ⟨Nat.zero_le _, Nat.zero_le _⟩, (fun q h => h),
      ⟨⟨⟨hX, hbl, st_fr b hbl⟩, fun H locs ls pc k9 n9 hk hn hS hd => va_forget (fun q hq => hS.2.2 q hq) (W.widen hk hn (lw_ret hd0 hx hb hr hlocks hd))⟩, st_za hts hgv⟩⟩
  rw [lg_entry_eq]
  exact start_walk hL M s.heap [] _ hl p_nil d_nil va_S.rf

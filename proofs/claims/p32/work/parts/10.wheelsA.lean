theorem vin {x N : Int32} {n : Nat} (h1 : ¬ x < 0) (h2 : ¬ N ≤ x) (hN : N.toInt = n) : vp_in x n := by
  rw [vp_in_iff]
  rw [Int32.lt_iff_toInt_lt] at h1
  rw [Int32.le_iff_toInt_le] at h2
  have h0 : (0 : Int32).toInt = 0 := rfl
  omega
/-- a rest, 0 or more (0 where the divisor is below 1) -/
def md (v d : Int32) : Int32 := if 1 ≤ d then (if 0 ≤ v - v / d * d then v - v / d * d else v - v / d * d + d) else 0
theorem c_modulo (v d : Int32) : Con yX5_modulo cX5_modulo 3 (some .int) (rmk 0 0) [.int v, .int d] [] (some (.int (md v d))) [] := by
  refine Con.of (own := RX5) (by decide) rfl (Nat.le_of_ble_eq_true rfl) rfl (fun B M => ?_)
  refine r_iload_n M dX5_modulo_0 rfl ?_
  refine r_iconst M 1 dX5_modulo_1 (by decide) ?_
  refine r_icmp_ge M 7 dX5_modulo_2 (by decide) (fun h => ?_) (fun h => ?_)
  · refine r_iload_n M dX5_modulo_7 rfl ?_
    refine r_iload_n M dX5_modulo_8 rfl ?_
    refine r_irem M dX5_modulo_9 (by intro e; subst e; exact absurd h (by decide)) ?_
    refine r_istore_n M dX5_modulo_10 (by decide) ?_
    refine r_iload_n M dX5_modulo_11 rfl ?_
    refine r_if_ge M 21 dX5_modulo_12 (by decide) (fun h2 => ?_) (fun h2 => ?_)
    · refine r_iload_n M dX5_modulo_21 rfl ?_
      exact r_iret M dX5_modulo_22 rfl (by rw [md, if_pos h, if_pos h2]) rfl
    · refine r_iload_n M dX5_modulo_15 rfl ?_
      refine r_iload_n M dX5_modulo_16 rfl ?_
      refine r_iadd M dX5_modulo_17 ?_
      refine r_goto M 22 dX5_modulo_18 (by decide) ?_
      exact r_iret M dX5_modulo_22 rfl (by rw [md, if_pos h, if_neg h2]) rfl
  · refine r_iconst M 0 dX5_modulo_5 (by decide) ?_
    exact r_iret M dX5_modulo_6 rfl (by rw [md, if_neg h]) rfl
/-- the cells of a Wheels -/
abbrev WW (te to : Nat → Int32) (lo : Nat → Bool) (cr ha he : Nat → Int32) : List va_E := [.inr (4, [.ref 1, .ref 2, .ref 3, .ref 4, .ref 5, .ref 6]), .inl (0, 5, .inl te), .inl (0, 5, .inl to), .inl (1, 5, .inl (fun j => b2i (lo j))), .inl (0, 5, .inl cr), .inl (0, 5, .inl ha), .inl (0, 60, .inl he)]
def hAt (he : Nat → Int32) (wh t : Int32) : Int32 := if wh * 12 + t < 0 then 0 else if 60 ≤ wh * 12 + t then 0 else he (wh * 12 + t).toNatClampNeg
theorem c_heightAt (te to : Nat → Int32) (lo : Nat → Bool) (cr ha he : Nat → Int32) (wh t : Int32) : Con yX4_heightAt cX4_heightAt 4 (some .int) (rmk 0 0) [.ref 0, .int wh, .int t] (WW te to lo cr ha he) (some (.int (hAt he wh t))) (WW te to lo cr ha he) := by
  refine Con.of (own := RX4) (by decide) rfl (Nat.le_of_ble_eq_true rfl) rfl (fun B M => ?_)
  refine r_iload_n M dX4_heightAt_0 rfl ?_
  refine r_bipush M 12 dX4_heightAt_1 (by decide) ?_
  refine r_imul M dX4_heightAt_3 ?_
  refine r_iload_n M dX4_heightAt_4 rfl ?_
  refine r_iadd M dX4_heightAt_5 ?_
  refine r_istore_n M dX4_heightAt_6 (by decide) ?_
  refine r_iload_n M dX4_heightAt_7 rfl ?_
  refine r_if_lt M 29 dX4_heightAt_8 (by decide) (fun h => ?_) (fun h => ?_)
  · refine r_iconst M 0 dX4_heightAt_29 (by decide) ?_
    exact r_iret M dX4_heightAt_30 rfl (by rw [hAt, if_pos h]) rfl
  · refine r_iload_n M dX4_heightAt_11 rfl ?_
    refine r_aload_n M dX4_heightAt_12 rfl ?_
    refine r_get M fl_X4_28 dX4_heightAt_13 rfl rfl ?_
    refine r_alen (ty := .int) M dX4_heightAt_16 rfl (fun _ => rfl) ?_
    refine r_icmp_ge M 29 dX4_heightAt_17 (by decide) (fun h2 => ?_) (fun h2 => ?_)
    · refine r_iconst M 0 dX4_heightAt_29 (by decide) ?_
      exact r_iret M dX4_heightAt_30 rfl (by rw [hAt, if_neg h, if_pos (show (60 : Int32) ≤ _ from h2)]) rfl
    · refine r_aload_n M dX4_heightAt_20 rfl ?_
      refine r_get M fl_X4_28 dX4_heightAt_21 rfl rfl ?_
      refine r_iload_n M dX4_heightAt_24 rfl ?_
      refine r_iald M dX4_heightAt_25 rfl (vin h (show ¬ (60 : Int32) ≤ _ from h2) rfl) ?_
      refine r_goto M 30 dX4_heightAt_26 (by decide) ?_
      exact r_iret M dX4_heightAt_30 rfl (by rw [hAt, if_neg h, if_neg (show ¬ (60 : Int32) ≤ _ from h2)]) rfl
/-- the place of the tooth at the top behind some steps -/
def tpB (te to : Nat → Int32) (lo : Nat → Bool) (wh st : Int32) : Int32 := md (to wh.toNatClampNeg + (if lo wh.toNatClampNeg = true then st else 0)) (te wh.toNatClampNeg)
def hB (te to : Nat → Int32) (lo : Nat → Bool) (he : Nat → Int32) (wh st : Int32) : Int32 := hAt he wh (tpB te to lo wh st)
theorem c_heightBehind (te to : Nat → Int32) (lo : Nat → Bool) (cr ha he : Nat → Int32) (wh st : Int32) (hw : vp_in wh 5) : Con yX4_heightBehind cX4_heightBehind 4 (some .int) (rmk 1 23) [.ref 0, .int wh, .int st] (WW te to lo cr ha he) (some (.int (hB te to lo he wh st))) (WW te to lo cr ha he) := by
  refine Con.of (own := RX4) (by decide) rfl (Nat.le_of_ble_eq_true rfl) rfl (fun B M => ?_)
  have key : ∀ x : Int32, (x = if lo wh.toNatClampNeg = true then st else 0) → B 14 [(0, .ref 0), (1, .int wh), (2, .int st)] [.int x] (WW te to lo cr ha he) := by
    intro x hx
    refine r_istore_n M dX4_heightBehind_14 (by decide) ?_
    refine r_aload_n M dX4_heightBehind_15 rfl ?_
    refine r_iload_n M dX4_heightBehind_16 rfl ?_
    refine r_aload_n M dX4_heightBehind_17 rfl ?_
    refine r_get M fl_X4_15 dX4_heightBehind_18 rfl rfl ?_
    refine r_iload_n M dX4_heightBehind_21 rfl ?_
    refine r_iald M dX4_heightBehind_22 rfl hw ?_
    refine r_iload_n M dX4_heightBehind_23 rfl ?_
    refine r_iadd M dX4_heightBehind_24 ?_
    refine r_aload_n M dX4_heightBehind_25 rfl ?_
    refine r_get M fl_X4_9 dX4_heightBehind_26 rfl rfl ?_
    refine r_iload_n M dX4_heightBehind_29 rfl ?_
    refine r_iald M dX4_heightBehind_30 rfl hw ?_
    refine r_SN2ik M (c_modulo _ _) lk_X4_51 ln_X4_51 dX4_heightBehind_31 (by decide +kernel) ⟨Nat.le_of_ble_eq_true rfl, Nat.le_of_ble_eq_true rfl⟩ ⟨rfl, rfl⟩ [] rfl (by decide +kernel) rfl (Nat.le_of_ble_eq_true rfl) ?_
    refine r_V2ik M (c_heightAt te to lo cr ha he _ _) lk_X4_61 dX4_heightBehind_34 (by decide +kernel) ⟨Nat.le_of_ble_eq_true rfl, Nat.le_of_ble_eq_true rfl⟩ ⟨rfl, rfl⟩ [0, 1, 2, 3, 4, 5, 6] rfl rfl rfl (by decide +kernel) rfl (Nat.le_of_ble_eq_true rfl) ?_
    exact r_iret M dX4_heightBehind_37 rfl (by rw [hB, tpB, hx]) rfl
  refine r_aload_n M dX4_heightBehind_0 rfl ?_
  refine r_get M fl_X4_18 dX4_heightBehind_1 rfl rfl ?_
  refine r_iload_n M dX4_heightBehind_4 rfl ?_
  refine r_zald M dX4_heightBehind_5 rfl hw ?_
  refine r_if_eq M 13 dX4_heightBehind_6 (by decide) (fun h => ?_) (fun h => ?_)
  · refine r_iconst M 0 dX4_heightBehind_13 (by decide) ?_
    exact key _ (by rw [if_neg (by rw [b2i_0] at h; rw [h]; decide)])
  · refine r_iload_n M dX4_heightBehind_9 rfl ?_
    refine r_goto M 14 dX4_heightBehind_10 (by decide) ?_
    exact key _ (by rw [if_pos (by rw [b2i_0] at h; simpa using h)])


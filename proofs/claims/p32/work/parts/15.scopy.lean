def rg : Nat → Nat → List Nat
  | _, 0 => []
  | b, n + 1 => b :: rg (b + 1) n
/-- all that a State holds -/
abbrev SD : Type := (Nat → Int32) × (Nat → Int32) × (Nat → Bool) × (Nat → Int32) × (Nat → Int32) × (Nat → Int32) × (Nat → Bool) × (Nat → Int32) × Int32 × Int32 × Bool × Int32 × Int32 × Int32 × Int32
abbrev SWd (b : Nat) (d : SD) : List va_E := SWo b d.1 d.2.1 d.2.2.1 d.2.2.2.1 d.2.2.2.2.1 d.2.2.2.2.2.1 d.2.2.2.2.2.2.1 d.2.2.2.2.2.2.2.1 d.2.2.2.2.2.2.2.2.1 d.2.2.2.2.2.2.2.2.2.1 d.2.2.2.2.2.2.2.2.2.2.1 d.2.2.2.2.2.2.2.2.2.2.2.1 d.2.2.2.2.2.2.2.2.2.2.2.2.1 d.2.2.2.2.2.2.2.2.2.2.2.2.2.1 d.2.2.2.2.2.2.2.2.2.2.2.2.2.2
section
variable (te to : Nat → Int32) (lo : Nat → Bool) (cra ha he : Nat → Int32) (st : Nat → Bool) (scn : Nat → Int32) (sc cr : Int32) (li : Bool) (sf sb se la : Int32)
theorem c_scopy0 (te2 to2 : Nat → Int32) (lo2 : Nat → Bool) (cra2 ha2 he2 : Nat → Int32) (st2 : Nat → Bool) (scn2 : Nat → Int32) (sc2 cr2 : Int32) (li2 : Bool) (sf2 sb2 se2 la2 : Int32) : Con yX2_copy cX2_copy 3 none (rmk 2 62) [.ref 0, .ref 10] (SWo 0 te to lo cra ha he st scn sc cr li sf sb se la ++ SWo 10 te2 to2 lo2 cra2 ha2 he2 st2 scn2 sc2 cr2 li2 sf2 sb2 se2 la2) none (SWo 0 te2 to2 lo2 cra2 ha2 he2 st2 scn2 sc2 cr2 li2 sf2 sb2 se2 la2 ++ SWo 10 te2 to2 lo2 cra2 ha2 he2 st2 scn2 sc2 cr2 li2 sf2 sb2 se2 la2) := by
  refine Con.of (own := RX2) (by decide) rfl (Nat.le_of_ble_eq_true rfl) rfl (fun B M => ?_)
  have loop : ∀ n k : Nat, k + n = 60 → B 13 [(0, .ref 0), (1, .ref 10), (2, .int (nI k))] [] (SWo 0 te2 to2 lo2 cra2 ha2 he2 (mixf k st2 st) scn sc cr li sf sb se la ++ SWo 10 te2 to2 lo2 cra2 ha2 he2 st2 scn2 sc2 cr2 li2 sf2 sb2 se2 la2) := by
    intro n
    induction n with
    | zero =>
      intro k hk
      obtain rfl : k = 60 := by omega
      refine r_iload_n M dX2_copy_13 rfl ?_
      refine r_bipush M 60 dX2_copy_14 (by decide) ?_
      refine r_icmp_ge M 37 dX2_copy_16 (by decide) (fun _ => ?_) (fun h9 => absurd (nI_geT (n := 60) rfl (by omega) (by omega)) h9)
      refine r_arr M 1 (fun j => b2i (st2 j)) rfl (fun j hj => by rw [mixf_in _ _ hj]) ?_
      refine r_aload_n M dX2_copy_37 rfl ?_
      refine r_get M fl_X2_22 dX2_copy_38 rfl rfl ?_
      refine r_iconst M 0 dX2_copy_41 (by decide) ?_
      refine r_aload_n M dX2_copy_42 rfl ?_
      refine r_get M fl_X2_22 dX2_copy_43 rfl rfl ?_
      refine r_iconst M 0 dX2_copy_46 (by decide) ?_
      refine r_bipush M 30 dX2_copy_47 (by decide) ?_
      refine r_copy M lk_X2_34 dX2_copy_49 rfl rfl (by decide) (by decide) (by decide) (by decide) (by decide) (by decide) (by decide) ?_
      refine r_arr M 2 scn2 rfl (fun j hj => by rw [pk_cpy_in (by exact Nat.zero_le _) (by rw [show (30 : Int32).toNatClampNeg = 30 from rfl, show (0 : Int32).toNatClampNeg = 0 from rfl]; omega)]; rw [show (0 : Int32).toNatClampNeg = 0 from rfl]; congr 1; omega) ?_
      refine r_aload_n M dX2_copy_52 rfl ?_
      refine r_aload_n M dX2_copy_53 rfl ?_
      refine r_get M fl_X2_40 dX2_copy_54 rfl rfl ?_
      refine r_put M fl_X2_40 ff_2_3 dX2_copy_57 rfl rfl rfl (fun _ => rfl) (Nat.le_of_ble_eq_true rfl) ?_
      refine r_aload_n M dX2_copy_60 rfl ?_
      refine r_aload_n M dX2_copy_61 rfl ?_
      refine r_get M fl_X2_43 dX2_copy_62 rfl rfl ?_
      refine r_put M fl_X2_43 ff_2_4 dX2_copy_65 rfl rfl rfl (fun _ => rfl) (Nat.le_of_ble_eq_true rfl) ?_
      refine r_aload_n M dX2_copy_68 rfl ?_
      refine r_aload_n M dX2_copy_69 rfl ?_
      refine r_get M fl_X2_46 dX2_copy_70 rfl rfl ?_
      refine r_put M fl_X2_46 ff_2_5 dX2_copy_73 rfl (b2i_nr _) (b2i_fit _) (fun _ => rfl) (Nat.le_of_ble_eq_true rfl) ?_
      refine r_aload_n M dX2_copy_76 rfl ?_
      refine r_aload_n M dX2_copy_77 rfl ?_
      refine r_get M fl_X2_50 dX2_copy_78 rfl rfl ?_
      refine r_put M fl_X2_50 ff_2_6 dX2_copy_81 rfl rfl rfl (fun _ => rfl) (Nat.le_of_ble_eq_true rfl) ?_
      refine r_aload_n M dX2_copy_84 rfl ?_
      refine r_aload_n M dX2_copy_85 rfl ?_
      refine r_get M fl_X2_53 dX2_copy_86 rfl rfl ?_
      refine r_put M fl_X2_53 ff_2_7 dX2_copy_89 rfl rfl rfl (fun _ => rfl) (Nat.le_of_ble_eq_true rfl) ?_
      refine r_aload_n M dX2_copy_92 rfl ?_
      refine r_aload_n M dX2_copy_93 rfl ?_
      refine r_get M fl_X2_26 dX2_copy_94 rfl rfl ?_
      refine r_put M fl_X2_26 ff_2_8 dX2_copy_97 rfl rfl rfl (fun _ => rfl) (Nat.le_of_ble_eq_true rfl) ?_
      refine r_aload_n M dX2_copy_100 rfl ?_
      refine r_aload_n M dX2_copy_101 rfl ?_
      refine r_get M fl_X2_56 dX2_copy_102 rfl rfl ?_
      refine r_put M fl_X2_56 ff_2_9 dX2_copy_105 rfl rfl rfl (fun _ => rfl) (Nat.le_of_ble_eq_true rfl) ?_
      exact r_vret M dX2_copy_108 rfl rfl rfl
    | succ n ih =>
      intro k hk
      have hc := cl5 k (by omega)
      have hv : vp_in (nI k) 60 := vp_in_nI (by omega) (by omega)
      refine r_iload_n M dX2_copy_13 rfl ?_
      refine r_bipush M 60 dX2_copy_14 (by decide) ?_
      refine r_icmp_ge M 37 dX2_copy_16 (by decide) (fun h9 => absurd h9 (nI_geF (n := 60) rfl (by omega) (by omega))) (fun _ => ?_)
      refine r_aload_n M dX2_copy_19 rfl ?_
      refine r_get M fl_X2_18 dX2_copy_20 rfl rfl ?_
      refine r_iload_n M dX2_copy_23 rfl ?_
      refine r_aload_n M dX2_copy_24 rfl ?_
      refine r_get M fl_X2_18 dX2_copy_25 rfl rfl ?_
      refine r_iload_n M dX2_copy_28 rfl ?_
      refine r_zald M dX2_copy_29 rfl hv ?_
      refine r_zast M dX2_copy_30 rfl hv (b2i_nar _) ?_
      rw [hc, mixf_b2i]
      refine r_iinc1 M dX2_copy_31 rfl (by decide) ?_
      refine r_goto M 13 dX2_copy_34 (by decide) ?_
      refine r_lvs M _ (lvs_c rfl (lvs_c rfl (lvs_c ?_ lvs_n))) (ih (k + 1) (by omega))
      rw [← nI_1]; rfl
  have l0 := loop 60 0 rfl
  rw [mixf_0] at l0
  refine r_aload_n M dX2_copy_0 rfl ?_
  refine r_get M fl_X2_12 dX2_copy_1 rfl rfl ?_
  refine r_aload_n M dX2_copy_4 rfl ?_
  refine r_get M fl_X2_12 dX2_copy_5 rfl rfl ?_
  refine r_V1vu (w' :=  SWo 0 te2 to2 lo2 cra2 ha2 he2 st scn sc cr li sf sb se la ++ SWo 10 te2 to2 lo2 cra2 ha2 he2 st2 scn2 sc2 cr2 li2 sf2 sb2 se2 la2) M (c_wcopy te to lo cra ha he te2 to2 lo2 cra2 ha2 he2) lk_X2_30 dX2_copy_8 (by decide +kernel) ⟨Nat.le_of_ble_eq_true rfl, Nat.le_of_ble_eq_true rfl⟩ ⟨rfl, rfl⟩ [3, 4, 5, 6, 7, 8, 9, 13, 14, 15, 16, 17, 18, 19] rfl rfl rfl (by decide +kernel) rfl (Nat.le_of_ble_eq_true rfl) rfl ?_
  refine r_iconst M 0 dX2_copy_11 (by decide) ?_
  refine r_istore_n M dX2_copy_12 (by decide) ?_
  exact r_lvs M _ (lvs_c rfl (lvs_c rfl (lvs_c rfl lvs_n))) l0
end
theorem c_scopy (d d2 : SD) : Con yX2_copy cX2_copy 3 none (rmk 2 62) [.ref 0, .ref 10] (SWd 0 d ++ SWd 10 d2) none (SWd 0 d2 ++ SWd 10 d2) := c_scopy0 _ _ _ _ _ _ _ _ _ _ _ _ _ _ _ _ _ _ _ _ _ _ _ _ _ _ _ _ _ _


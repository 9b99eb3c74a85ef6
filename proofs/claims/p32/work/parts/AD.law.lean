/-! THE LAW'S LOOP -/
def XLw (L : Nat) (xs : Nat → Int32) : XT := fun p l e s m args below meth c _ _ ad A Q => (va_X (ad 1000) L xs s s.heap ∧ ad 1000 < s.heap.size ∧ ¬ A (ad 1000)) ∧ ∀ (H : Heap) (locs : List Loc) (ls : Array Slot) (pc k9 n9 : Nat), k9 ≤ 600130 → n9 ≤ 7301080 → va_S A s.heap H locs → decode cL_law pc = .ok (.ireturn, 1) → W p l e room_1 s m args below meth c H locs k9 n9 Q (F0 m pc ls [.int 1])
theorem xlw_s {L : Nat} {xs : Nat → Int32} : XSc L xs (XLw L xs) := fun _ _ _ _ _ _ _ _ _ _ _ _ _ _ h => h.1
abbrev ML (L : Nat) (xs : Nat → Int32) (k9 n9 : Nat) (B : KT) : Prop := MG RL cL_law 13 ret room_1 k9 n9 (XLw L xs) B
theorem g_law1 {k9 n9 L : Nat} {xs : Nat → Int32} {B : KT} (M : ML L xs k9 n9 B) {pc : Nat} {lv : List (Nat × Value)} {w : List va_E} (hd : decode cL_law pc = .ok (.ireturn, 1)) : B pc lv [.int 1] w := by
  obtain ⟨p, l, e, s, m, args, below, meth, c, D, dA, ad, A, Q, rfl, hx, hb, hml, hr, hts, hown, hlocks, ⟨hK, hN⟩, hkn, hA, hX⟩ := M
  obtain ⟨-, x4⟩ := hX
  intro H locs ls hl hP hD hS
  exact x4 H locs ls pc k9 n9 hkn.1 hkn.2 hS hd
section
variable {L : Nat} {xs : Nat → Int32} {b i kx nx : Nat} {d d1 : SD} {k : Nat} {rm : Nat → Nat} {R : Nat → SD} {t : WD} {k9 n9 : Nat} {B : KT} {x y : Int32}
abbrev Nxt (L : Nat) (xs : Nat → Int32) (b i kx nx : Nat) : Prop := ∀ (d d1 : SD) (k : Nat) (rm : Nat → Nat) (R : Nat → SD) (t : WD) (k9 n9 : Nat) (B : KT), ML L xs k9 n9 B → k9 ≤ kx → n9 ≤ nx → GP b d → GP b d1 → Hs b k rm R → B 30 [(0, .ref 1000), (1, .ref 0), (2, .int 1), (3, .int (nI (i + 1)))] [] (OW d d1 k rm R t)
theorem w_294 (nxt : Nxt L xs b i kx nx) (M : ML L xs k9 n9 B) (hk : k9 ≤ kx) (hn : n9 ≤ nx) (hd : GP b d) (hd1 : GP b d1) (hH : Hs b k rm R) : B 294 [(0, .ref 1000), (1, .ref 0), (3, .int (nI i))] [] (OW d d1 k rm R t) := by
  refine g_iconst M 1 dL_law_294 (by decide) ?_
  refine g_goto M 299 dL_law_295 (by decide) ?_
  refine g_istore_n M dL_law_299 (by decide) ?_
  refine g_iinc1 M dL_law_300 rfl (by decide) ?_
  refine g_goto M 30 dL_law_303 (by decide) ?_
  refine g_lvs M _ (lvs_c rfl (lvs_c rfl (lvs_c rfl (lvs_c rfl lvs_n)))) (by have h := nxt d d1 k rm R t k9 n9 B M hk hn hd hd1 hH; rw [nI_succ] at h; exact h)
theorem w_272 (hi : i < 60) (nxt : Nxt L xs b i kx nx) (M : ML L xs k9 n9 B) (hk : k9 ≤ kx) (hn : n9 ≤ nx) (hd : GP b d) (hd1 : GP b d1) (hH : Hs b k rm R) : B 272 [(0, .ref 1000), (1, .ref 0), (3, .int (nI i))] [] (OW d d1 k rm R t) := by
  have hrm := hH.1
  refine g_iload_n M dL_law_272 rfl ?_
  refine g_bipush M 23 dL_law_273 (by decide) ?_
  refine g_irem M dL_law_275 (by decide) ?_
  refine g_bipush M 14 dL_law_276 (by decide) ?_
  refine g_icmp_ne M 294 dL_law_278 (by decide) (fun h => ?_) (fun h => ?_)
  · exact w_294 nxt M hk hn hd hd1 hH
  · refine g_aload_n M dL_law_281 rfl ?_
    refine q_V0i M (l_keep hrm) lk_L_106 dL_law_282 (by decide +kernel) ⟨Nat.le_of_ble_eq_true rfl, Nat.le_of_ble_eq_true rfl⟩ ⟨rfl, rfl⟩ nd95 rfl rfl rfl (Nat.le_of_ble_eq_true rfl) ?_
    refine g_aload_n M dL_law_285 rfl ?_
    refine g_bipush M 7 dL_law_286 (by decide) ?_
    refine q_V1i M (l_cnt7 hrm) lk_L_13 dL_law_288 (by decide +kernel) ⟨Nat.le_of_ble_eq_true rfl, Nat.le_of_ble_eq_true rfl⟩ ⟨rfl, rfl⟩ nd95 rfl rfl rfl (Nat.le_of_ble_eq_true rfl) ?_
    refine g_icmp_ne M 298 dL_law_291 (by decide) (fun h9 => absurd rfl h9) (fun _ => ?_)
    exact w_294 nxt M hk hn hd hd hH
theorem w_253 (hi : i < 60) (nxt : Nxt L xs b i kx nx) (M : ML L xs k9 n9 B) (hk : k9 ≤ kx) (hn : n9 ≤ nx) (hd : GP b d) (hd1 : GP b d1) (hH : Hs b k rm R) : B 253 [(0, .ref 1000), (1, .ref 0), (3, .int (nI i)), (5, .int y)] [] (OW d d1 k rm R t) := by
  refine g_iload_n M dL_law_253 rfl ?_
  refine g_bipush M 6 dL_law_254 (by decide) ?_
  refine g_irem M dL_law_256 (by decide) ?_
  refine g_iconst M 2 dL_law_257 (by decide) ?_
  refine g_icmp_ne M 272 dL_law_258 (by decide) (fun h => ?_) (fun h => ?_)
  · exact g_lvs M _ (lvs_c rfl (lvs_c rfl (lvs_c rfl lvs_n))) (w_272 hi nxt M hk hn hd hd1 hH)
  · obtain ⟨k', rm', R', t', g1, g2⟩ := c_ahead2 (d1 := d1) (t := t) (x := y >>> (5 &&& 31)) hH hd
    refine g_aload_n M dL_law_261 rfl ?_
    refine g_iload M dL_law_262 rfl ?_
    refine g_iconst M 5 dL_law_264 (by decide) ?_
    refine g_ishr M dL_law_265 ?_
    refine q_S2i M g2 lk_L_125 dL_law_266 (by decide +kernel) ⟨Nat.le_of_ble_eq_true rfl, Nat.le_of_ble_eq_true rfl⟩ ⟨rfl, rfl⟩ nd95 rfl (Nat.le_of_ble_eq_true rfl) ?_
    refine g_if_eq M 298 dL_law_269 (by decide) (fun h9 => absurd h9 (by decide)) (fun _ => ?_)
    exact g_lvs M _ (lvs_c rfl (lvs_c rfl (lvs_c rfl lvs_n))) (w_272 hi nxt M hk hn hd hd1 g1)
theorem w_222 (hi : i < 60) (hb : b + 100 ≤ 2 ^ 29) (nxt : Nxt L xs (b + 1) i kx nx) (M : ML L xs k9 n9 B) (hk : k9 + 2 ≤ kx) (hn : n9 + 10 ≤ nx) (hkx : kx ≤ 600130) (hnx : nx ≤ 7301080) {s : Nat} (h1 : 1 ≤ s) (h6 : s ≤ 60) (hd : GP b d) (hd1 : GP b d1) (hH : Hs b k rm R) : B 222 [(0, .ref 1000), (1, .ref 0), (3, .int (nI i)), (4, .int x), (5, .int y), (10, .int (nI s))] [] (OW d d1 k rm R t) := by
  refine g_iload_n M dL_law_222 rfl ?_
  refine g_iconst M 3 dL_law_223 (by decide) ?_
  refine g_irem M dL_law_224 (by decide) ?_
  refine g_iconst M 1 dL_law_225 (by decide) ?_
  refine g_icmp_ne M 253 dL_law_226 (by decide) (fun h => ?_) (fun h => ?_)
  · exact g_lvs M _ (lvs_c rfl (lvs_c rfl (lvs_c rfl (lvs_c rfl lvs_n)))) (w_253 hi nxt M (by omega) (by omega) (hd.more (by omega)) (hd1.more (by omega)) (hH.more (by omega)))
  · have go : ∀ (y9 z bk : Int32), Dir y9 z bk s → B 247 [(0, .ref 1000), (1, .ref 0), (3, .int (nI i)), (5, .int y)] [.int z, .ref 0] (OW d d1 k rm R t) := by
      intro y9 z bk hD
      obtain ⟨k', rm', R', g1, g2⟩ := c_turned (d1 := d1) (t := t) hH hd hb hD h1 h6
      refine m_S2i M g2 lk_L_121 dL_law_247 (by decide +kernel) ⟨Nat.le_of_ble_eq_true rfl, Nat.le_of_ble_eq_true rfl⟩ ⟨show k9 + 2 ≤ 600130 by omega, show n9 + 10 ≤ 7301080 by omega⟩ nd95 rfl (Nat.le_of_ble_eq_true rfl) (fun B M => ?_)
      refine g_if_eq M 298 dL_law_250 (by decide) (fun h9 => absurd h9 (by decide)) (fun _ => ?_)
      exact w_253 hi nxt M hk hn (hd.more (by omega)) (hd1.more (by omega)) g1
    refine g_aload_n M dL_law_229 rfl ?_
    refine g_iload M dL_law_230 rfl ?_
    refine g_iconst M 4 dL_law_232 (by decide) ?_
    refine g_ishr M dL_law_233 ?_
    refine g_iconst M 1 dL_law_234 (by decide) ?_
    refine g_iand M dL_law_235 ?_
    refine g_if_ne M 244 dL_law_236 (by decide) (fun hx => ?_) (fun hx => ?_)
    · refine g_iload M dL_law_244 rfl ?_
      refine g_ineg M dL_law_246 ?_
      exact g_lvs M _ (lvs_c rfl (lvs_c rfl (lvs_c rfl (lvs_c rfl lvs_n)))) (go (-1) _ 1 (Or.inr ⟨rfl, rfl, rfl⟩))
    · refine g_iload M dL_law_239 rfl ?_
      refine g_goto M 247 dL_law_241 (by decide) ?_
      exact g_lvs M _ (lvs_c rfl (lvs_c rfl (lvs_c rfl (lvs_c rfl lvs_n)))) (go 1 _ 0 (Or.inl ⟨rfl, rfl, rfl⟩))
theorem w_198 (hi : i < 60) (hb : b + 100 ≤ 2 ^ 29) (nxt : Nxt L xs (b + 1) i kx nx) (M : ML L xs k9 n9 B) (hk : k9 + 3 ≤ kx) (hn : n9 + 15 ≤ nx) (hkx : kx ≤ 600130) (hnx : nx ≤ 7301080) (hd : GP b d) (hd1 : GP b d1) (hH : Hs b k rm R) : B 198 [(0, .ref 1000), (1, .ref 0), (2, .int 1), (3, .int (nI i)), (4, .int x), (5, .int y)] [] (OW d d1 k rm R t) := by
  have hrm := hH.1
  have hs := upG_lt (v := x >>> (5 &&& 31)) (n := 60) (by decide)
  refine g_iconst M 1 dL_law_198 (by decide) ?_
  refine g_iload M dL_law_199 rfl ?_
  refine g_iconst M 5 dL_law_201 (by decide) ?_
  refine g_ishr M dL_law_202 ?_
  refine g_bipush M 60 dL_law_203 (by decide) ?_
  refine q_S2i M (l_up ow_len (ow_cl hrm) (x >>> (5 &&& 31)) 60 (by decide) (by decide)) lk_L_32 dL_law_205 (by decide +kernel) ⟨Nat.le_of_ble_eq_true rfl, Nat.le_of_ble_eq_true rfl⟩ ⟨rfl, rfl⟩ nd95 rfl (Nat.le_of_ble_eq_true rfl) ?_
  refine g_iadd M dL_law_208 ?_
  rw [show (1 : Int32) + nI (upG (x >>> (5 &&& 31)) 60) = nI (1 + upG (x >>> (5 &&& 31)) 60) from nI_add 1 _]
  refine g_istore M dL_law_209 (by decide) ?_
  refine g_iload_n M dL_law_211 rfl ?_
  refine g_if_eq M 298 dL_law_212 (by decide) (fun h9 => absurd h9 (by decide)) (fun _ => ?_)
  refine g_aload_n M dL_law_215 rfl ?_
  refine m_S1i M (c_holds hrm hd) lk_L_109 dL_law_216 (by decide +kernel) ⟨Nat.le_of_ble_eq_true rfl, Nat.le_of_ble_eq_true rfl⟩ ⟨show k9 + 1 ≤ 600130 by omega, show n9 + 5 ≤ 7301080 by omega⟩ nd95 rfl (Nat.le_of_ble_eq_true rfl) (fun B M => ?_)
  refine g_if_eq M 298 dL_law_219 (by decide) (fun h9 => absurd h9 (by decide)) (fun _ => ?_)
  exact g_lvs M _ (lvs_c rfl (lvs_c rfl (lvs_c rfl (lvs_c rfl (lvs_c rfl (lvs_c rfl lvs_n)))))) (w_222 hi hb nxt M (show k9 + 1 + 2 ≤ kx by omega) (show n9 + 5 + 10 ≤ nx by omega) hkx hnx (s := 1 + upG (x >>> (5 &&& 31)) 60) (by omega) (by omega) hd hd1 hH)
/-- behind the deed -/
theorem w_120 (hi : i < 60) (hb : b + 200 ≤ 2 ^ 29) (nxt : Nxt L xs (b + 61) i kx nx) (M : ML L xs k9 n9 B) (hk : k9 + 4 ≤ kx) (hn : n9 + 20 ≤ nx) (hkx : kx ≤ 600130) (hnx : nx ≤ 7301080) {d' : SD} {v : Int32} {K : Nat} (hd : GP b d) (hd' : GP (b + 60) d') (hd1 : GP (b + 60) d1) (hH : Hs (b + 60) (K + 1) rm R) (hR : R (rm K) = d) (hK : Hs (b + 60) K rm R)
    (hq : ∀ (k : Nat) (rm : Nat → Nat) (R : Nat → SD) (t : WD), (∀ j, rm j < 6) → k ≤ 6 → ∃ t', QA d d1 d' k rm R t t' x y v) : B 120 [(0, .ref 1000), (1, .ref 0), (2, .int 1), (3, .int (nI i)), (4, .int x), (5, .int y), (6, .long (lkG d)), (9, .int v)] [] (OW d' d1 (K + 1) rm R t) := by
  have hrm := hH.1
  have hK6 := hH.2.2.1
  refine g_iload_n M dL_law_120 rfl ?_
  refine g_if_eq M 198 dL_law_121 (by decide) (fun h9 => absurd h9 (by decide)) (fun _ => ?_)
  refine g_iload M dL_law_124 rfl ?_
  refine g_bipush M 8 dL_law_126 (by decide) ?_
  refine g_ishr M dL_law_128 ?_
  refine g_iconst M 3 dL_law_129 (by decide) ?_
  refine g_iand M dL_law_130 ?_
  refine g_if_ne M 198 dL_law_131 (by decide) (fun hx => ?_) (fun hx => ?_)
  · exact g_lvs M _ (lvs_c rfl (lvs_c rfl (lvs_c rfl (lvs_c rfl (lvs_c rfl (lvs_c rfl lvs_n)))))) (w_198 hi (by omega) nxt M (by omega) (by omega) hkx hnx hd' hd1 hH)
  · have hu := l_undo (d0 := d') (d1 := d1) (k := K) (rm := rm) (R := R) (t := t) hrm (by omega)
    rw [hR] at hu
    obtain ⟨t2, q2⟩ := hq K rm R t hrm (by omega)
    obtain ⟨K3, rm3, R3, ⟨p1, p2, p3⟩, g1, g2, g3, -⟩ := psh hK (Nat.le_refl _) (hd.more (show b ≤ b + 60 by omega))
    rw [QA, p1, p2, p3] at q2
    have hrm3 := g1.1
    refine g_aload_n M dL_law_134 rfl ?_
    refine q_S1l M (c_looks hrm hd'.1.1) lk_L_101 dL_law_135 (by decide +kernel) ⟨Nat.le_of_ble_eq_true rfl, Nat.le_of_ble_eq_true rfl⟩ ⟨rfl, rfl⟩ nd95 rfl (Nat.le_of_ble_eq_true rfl) ?_
    refine g_lstore M dL_law_138 (by decide) ?_
    refine g_aload_n M dL_law_140 rfl ?_
    refine g_bipush M 12 dL_law_141 (by decide) ?_
    refine q_V1i M (l_cnt12 hrm) lk_L_13 dL_law_143 (by decide +kernel) ⟨Nat.le_of_ble_eq_true rfl, Nat.le_of_ble_eq_true rfl⟩ ⟨rfl, rfl⟩ nd95 rfl rfl rfl (Nat.le_of_ble_eq_true rfl) ?_
    refine g_iconst M 1 dL_law_146 (by decide) ?_
    refine g_isub M dL_law_147 ?_
    rw [nI_pred]
    refine g_istore M dL_law_148 (by decide) ?_
    refine g_aload_n M dL_law_150 rfl ?_
    refine q_V0i M hu lk_L_98 dL_law_151 (by decide +kernel) ⟨Nat.le_of_ble_eq_true rfl, Nat.le_of_ble_eq_true rfl⟩ ⟨rfl, rfl⟩ nd95 rfl rfl rfl (Nat.le_of_ble_eq_true rfl) ?_
    refine g_iload M dL_law_154 rfl ?_
    refine g_icmp_ne M 196 dL_law_156 (by decide) (fun h9 => absurd rfl h9) (fun _ => ?_)
    refine g_aload_n M dL_law_159 rfl ?_
    refine q_S1l M (c_looks hrm hd.1.1) lk_L_101 dL_law_160 (by decide +kernel) ⟨Nat.le_of_ble_eq_true rfl, Nat.le_of_ble_eq_true rfl⟩ ⟨rfl, rfl⟩ nd95 rfl (Nat.le_of_ble_eq_true rfl) ?_
    refine g_lload M dL_law_163 rfl ?_
    refine g_lcmp M dL_law_165 ?_
    refine g_if_ne M 196 dL_law_166 (by decide) (fun h9 => absurd ((lg_cmp_eq _ _).mpr rfl) h9) (fun _ => ?_)
    refine g_aload_n M dL_law_169 rfl ?_
    refine g_iload M dL_law_170 rfl ?_
    refine g_iload M dL_law_172 rfl ?_
    refine m_S3i M q2 lk_L_117 dL_law_174 (by decide +kernel) ⟨Nat.le_of_ble_eq_true rfl, Nat.le_of_ble_eq_true rfl⟩ ⟨show k9 + 1 ≤ 600130 by omega, show n9 + 5 ≤ 7301080 by omega⟩ nd95 rfl (Nat.le_of_ble_eq_true rfl) (fun B M => ?_)
    refine g_iload M dL_law_177 rfl ?_
    refine g_icmp_ne M 196 dL_law_179 (by decide) (fun h9 => absurd rfl h9) (fun _ => ?_)
    refine g_aload_n M dL_law_182 rfl ?_
    refine q_S1l M (c_looks hrm3 hd'.1.1) lk_L_101 dL_law_183 (by decide +kernel) ⟨Nat.le_of_ble_eq_true rfl, Nat.le_of_ble_eq_true rfl⟩ ⟨rfl, rfl⟩ nd95 rfl (Nat.le_of_ble_eq_true rfl) ?_
    refine g_lload M dL_law_186 rfl ?_
    refine g_lcmp M dL_law_188 ?_
    refine g_if_ne M 196 dL_law_189 (by decide) (fun h9 => absurd ((lg_cmp_eq _ _).mpr rfl) h9) (fun _ => ?_)
    refine g_iconst M 1 dL_law_192 (by decide) ?_
    refine g_goto M 197 dL_law_193 (by decide) ?_
    refine g_istore_n M dL_law_197 (by decide) ?_
    exact g_lvs M _ (lvs_c rfl (lvs_c rfl (lvs_c rfl (lvs_c rfl (lvs_c rfl (lvs_c rfl lvs_n)))))) (w_198 hi (by omega) nxt M (show k9 + 1 + 3 ≤ kx by omega) (show n9 + 5 + 15 ≤ nx by omega) hkx hnx hd' hd1 g1)
theorem w_40 (hL : L ≤ 260) (hi : i < 60) (hb : b + 200 ≤ 2 ^ 29) (nxt : Nxt L xs (b + 61) i kx nx) (M : ML L xs k9 n9 B) (hk : k9 + 5 ≤ kx) (hn : n9 + 25 ≤ nx) (hkx : kx ≤ 600130) (hnx : nx ≤ 7301080) (hd : GP b d) (hd1 : GP b d1) (hH : Hs b k rm R) : B 40 [(0, .ref 1000), (1, .ref 0), (2, .int 1), (3, .int (nI i))] [] (OW d d1 k rm R t) := by
  have hrm := hH.1
  have hk6 := hH.2.2.1
  refine g_aload_n M dL_law_40 rfl ?_
  refine g_iconst M 2 dL_law_41 (by decide) ?_
  refine g_iload_n M dL_law_42 rfl ?_
  refine g_imul M dL_law_43 ?_
  rw [show (2 : Int32) * nI i = nI (2 * i) from pk_mul 2 i]
  refine n_callE M xlw_s (c_cell hL (show 2 * i < 1000 by omega)) dL_law_44 ⟨Nat.le_of_ble_eq_true rfl, Nat.le_of_ble_eq_true rfl⟩ (Nat.le_of_ble_eq_true rfl) ?_
  refine g_istore M dL_law_47 (by decide) ?_
  refine g_aload_n M dL_law_49 rfl ?_
  refine g_iconst M 2 dL_law_50 (by decide) ?_
  refine g_iload_n M dL_law_51 rfl ?_
  refine g_imul M dL_law_52 ?_
  refine g_iconst M 1 dL_law_53 (by decide) ?_
  refine g_iadd M dL_law_54 ?_
  rw [show (2 : Int32) * nI i = nI (2 * i) from pk_mul 2 i, nI_1]
  refine n_callE M xlw_s (c_cell hL (show 2 * i + 1 < 1000 by omega)) dL_law_55 ⟨Nat.le_of_ble_eq_true rfl, Nat.le_of_ble_eq_true rfl⟩ (Nat.le_of_ble_eq_true rfl) ?_
  generalize cellG L xs (2 * i) = x
  generalize cellG L xs (2 * i + 1) = y
  obtain ⟨v, d', hv, hd', hq⟩ := c_act (x := x) (y := y) hd hd1 (by omega)
  obtain ⟨t1, q1⟩ := hq k rm R t hrm hk6
  obtain ⟨K, rm', R', ⟨p1, p2, p3⟩, g1, g2, g3, -⟩ := psh hH (show b ≤ b + 60 by omega) (hd.more (show b ≤ b + 60 by omega))
  rw [QA, p1, p2, p3] at q1
  have hrm' := g1.1
  refine g_istore M dL_law_58 (by decide) ?_
  refine g_aload_n M dL_law_60 rfl ?_
  refine q_S1l M (c_looks hrm hd.1.1) lk_L_101 dL_law_61 (by decide +kernel) ⟨Nat.le_of_ble_eq_true rfl, Nat.le_of_ble_eq_true rfl⟩ ⟨rfl, rfl⟩ nd95 rfl (Nat.le_of_ble_eq_true rfl) ?_
  refine g_lstore M dL_law_64 (by decide) ?_
  refine g_aload_n M dL_law_66 rfl ?_
  refine g_bipush M 12 dL_law_67 (by decide) ?_
  refine q_V1i M (l_cnt12 hrm) lk_L_13 dL_law_69 (by decide +kernel) ⟨Nat.le_of_ble_eq_true rfl, Nat.le_of_ble_eq_true rfl⟩ ⟨rfl, rfl⟩ nd95 rfl rfl rfl (Nat.le_of_ble_eq_true rfl) ?_
  refine g_istore M dL_law_72 (by decide) ?_
  refine g_aload_n M dL_law_74 rfl ?_
  refine g_iload M dL_law_75 rfl ?_
  refine g_iload M dL_law_77 rfl ?_
  refine m_S3i M q1 lk_L_117 dL_law_79 (by decide +kernel) ⟨Nat.le_of_ble_eq_true rfl, Nat.le_of_ble_eq_true rfl⟩ ⟨show k9 + 1 ≤ 600130 by omega, show n9 + 5 ≤ 7301080 by omega⟩ nd95 rfl (Nat.le_of_ble_eq_true rfl) (fun B M => ?_)
  refine g_istore M dL_law_82 (by decide) ?_
  refine g_iload M dL_law_84 rfl ?_
  refine g_if_lt M 118 dL_law_86 (by decide) (fun h9 => absurd h9 (fun z => by rw [ltIc2 (n := 0) rfl] at z; omega)) (fun _ => ?_)
  refine g_aload_n M dL_law_89 rfl ?_
  refine g_bipush M 12 dL_law_90 (by decide) ?_
  refine q_V1i M (l_cnt12 hrm') lk_L_13 dL_law_92 (by decide +kernel) ⟨Nat.le_of_ble_eq_true rfl, Nat.le_of_ble_eq_true rfl⟩ ⟨rfl, rfl⟩ nd95 rfl rfl rfl (Nat.le_of_ble_eq_true rfl) ?_
  have k111 : B 111 [(0, .ref 1000), (1, .ref 0), (3, .int (nI i)), (4, .int x), (5, .int y), (6, .long (lkG d)), (9, .int v)] [.int (nI (K + 1)), .int (nI (K + 1))] (OW d' d1 (K + 1) rm' R' t1) := by
    refine g_icmp_ne M 118 dL_law_111 (by decide) (fun h9 => absurd rfl h9) (fun _ => ?_)
    refine g_iconst M 1 dL_law_114 (by decide) ?_
    refine g_goto M 119 dL_law_115 (by decide) ?_
    refine g_istore_n M dL_law_119 (by decide) ?_
    exact g_lvs M _ (lvs_c rfl (lvs_c rfl (lvs_c rfl (lvs_c rfl (lvs_c rfl (lvs_c rfl (lvs_c rfl (lvs_c rfl lvs_n)))))))) (w_120 hi hb nxt M (show k9 + 1 + 4 ≤ kx by omega) (show n9 + 5 + 20 ≤ nx by omega) hkx hnx hd hd' (hd1.more (by omega)) g1 g2 g3 hq)
  refine g_iload M dL_law_95 rfl ?_
  refine g_bipush M 6 dL_law_97 (by decide) ?_
  by_cases h6 : k < 6
  · refine g_icmp_ge M 109 dL_law_99 (by decide) (fun h9 => absurd h9 (nI_ge (a := k) (b := 6) h6 (by omega))) (fun _ => ?_)
    refine g_iload M dL_law_102 rfl ?_
    refine g_iconst M 1 dL_law_104 (by decide) ?_
    refine g_iadd M dL_law_105 ?_
    rw [nI_1, show k + 1 = K + 1 by rw [← p1, puK, if_pos h6]]
    refine g_goto M 111 dL_law_106 (by decide) ?_
    exact g_lvs M _ (lvs_c rfl (lvs_c rfl (lvs_c rfl (lvs_c rfl (lvs_c rfl (lvs_c rfl (lvs_c rfl lvs_n))))))) k111
  · obtain rfl : k = 6 := by omega
    have e6 : K + 1 = 6 := by rw [← p1]; rfl
    refine g_icmp_ge M 109 dL_law_99 (by decide) (fun _ => ?_) (fun h9 => absurd (by decide) h9)
    refine g_bipush M 6 dL_law_109 (by decide) ?_
    rw [e6] at k111 ⊢
    exact g_lvs M _ (lvs_c rfl (lvs_c rfl (lvs_c rfl (lvs_c rfl (lvs_c rfl (lvs_c rfl (lvs_c rfl lvs_n))))))) k111
theorem law_loop (hL : L ≤ 260) : ∀ (r i b k9 n9 : Nat) (d d1 : SD) (k : Nat) (rm : Nat → Nat) (R : Nat → SD) (t : WD) (B : KT), ML L xs k9 n9 B → i + r = 60 → b + 200 * r ≤ 2 ^ 28 → k9 + 5 * r ≤ 600130 → n9 + 25 * r ≤ 7301080 → GP b d → GP b d1 → Hs b k rm R → B 30 [(0, .ref 1000), (1, .ref 0), (2, .int 1), (3, .int (nI i))] [] (OW d d1 k rm R t) := by
  intro r
  induction r with
  | zero =>
    intro i b k9 n9 d d1 k rm R t B M hi _ _ _ _ _ _
    obtain rfl : i = 60 := by omega
    refine g_iload_n M dL_law_30 rfl ?_
    refine g_bipush M 60 dL_law_31 (by decide) ?_
    refine g_icmp_ge M 306 dL_law_33 (by decide) (fun _ => ?_) (fun h9 => absurd (by decide) h9)
    refine g_iload_n M dL_law_306 rfl ?_
    exact g_law1 M dL_law_307
  | succ r ih =>
    intro i b k9 n9 d d1 k rm R t B M hi hb hk hn hd hd1 hH
    refine g_iload_n M dL_law_30 rfl ?_
    refine g_bipush M 60 dL_law_31 (by decide) ?_
    refine g_icmp_ge M 306 dL_law_33 (by decide) (fun h9 => absurd h9 (nI_ge (a := i) (b := 60) (by omega) (by omega))) (fun _ => ?_)
    refine g_iload_n M dL_law_36 rfl ?_
    refine g_if_eq M 306 dL_law_37 (by decide) (fun h9 => absurd h9 (by decide)) (fun _ => ?_)
    refine w_40 (kx := k9 + 5) (nx := n9 + 25) hL (by omega) (by omega) (fun d d1 k rm R t k8 n8 B M h1 h2 h3 h4 h5 => ih (i + 1) (b + 61) k8 n8 d d1 k rm R t B M (by omega) (by omega) (by omega) (by omega) h3 h4 h5) M (Nat.le_refl _) (Nat.le_refl _) (by omega) (by omega) hd hd1 hH
end


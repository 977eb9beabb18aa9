/-! ===== the class's thief: the hours spread ===== -/
theorem cnt_full {P : Int → Prop} : ∀ n : Nat, (∀ v : Int, 0 ≤ v → v < n → P v) → cnt P n = n := by
  intro n
  induction n with
  | zero => intro _; rfl
  | succ n ih =>
    intro h
    have a := ih (fun v x y => h v x (by omega))
    unfold cnt
    rw [a, bI_t (h n (by omega) (by omega))]
    omega
def gin (G : Int → Int → Int → Prop) : Prop := ∀ u v c, G u v c → 1 ≤ c ∧ (0 ≤ u ∧ u < 72) ∧ (0 ≤ v ∧ v < 72)
theorem gin.n {G : Int → Int → Int → Prop} (h : gin G) : ∀ u v c, G u v c → 0 ≤ c := fun u v c g => by have := (h u v c g).1; omega
theorem cls {G : Int → Int → Int → Prop} {z A : Int → Int} (hz : ∀ v, 0 ≤ z v) (hG : gin G) (h0 : ∀ v, 0 ≤ v → v < 72 → A v ≤ z v) (hR : ∀ v, 0 ≤ v → v < 72 → Rch G z v (A v)) (hc : ∀ u v c, G u v c → A v ≤ A u + c) : ∀ v, 0 ≤ v → v < 72 → A v = dst G z v := by
  intro v a b
  have e : (if 0 ≤ v ∧ v < 72 then A v else z v) = A v := if_pos ⟨a, b⟩
  have := dst_u hz hG.n (f := fun q => if 0 ≤ q ∧ q < 72 then A q else z q) (fun q => ?_) (fun u w c g => ?_) v (by rw [e]; exact hR v a b)
  · rw [e] at this
    exact this
  · show (if 0 ≤ q ∧ q < 72 then A q else z q) ≤ z q
    split
    · next w => exact h0 q w.1 w.2
    · exact Int.le_refl _
  · obtain ⟨-, g2, g3⟩ := hG u w c g
    show (if 0 ≤ w ∧ w < 72 then A w else z w) ≤ (if 0 ≤ u ∧ u < 72 then A u else z u) + c
    rw [if_pos g2, if_pos g3]
    exact hc u w c g
theorem stl {G : Int → Int → Int → Prop} {z A0 A : Int → Int} (hz : ∀ v, 0 ≤ z v) (hG : gin G) (h0 : ∀ v, 0 ≤ v → v < 72 → A0 v ≤ z v) (hR : ∀ v, 0 ≤ v → v < 72 → Rch G z v (A v)) (hm : ∀ v, 0 ≤ v → v < 72 → A v ≤ A0 v) (he : ∀ u v c, G u v c → A v ≤ A0 u + c) {k : Int} (hk : k ≤ cnt (fun v => A0 v = dst G z v) 72) (hk2 : k < 72) : k + 1 ≤ cnt (fun v => A v = dst G z v) 72 := by
  have lo : ∀ v, 0 ≤ v → v < 72 → dst G z v ≤ A v := fun v a b => (dst_p hz hG.n v).2 _ (hR v a b)
  have stay : ∀ v : Int, 0 ≤ v → v < ((72 : Nat) : Int) → A0 v = dst G z v → A v = dst G z v := fun v a b w => by
    have := lo v a (by omega)
    have := hm v a (by omega)
    omega
  by_cases hall : ∀ v : Int, 0 ≤ v → v < 72 → A0 v = dst G z v
  · have := cnt_full (P := fun v => A v = dst G z v) 72 (fun v a b => stay v a b (hall v a (by omega)))
    omega
  · have hex : ∃ d, ∃ v : Int, 0 ≤ v ∧ v < 72 ∧ A0 v ≠ dst G z v ∧ dst G z v = d := by
      apply Classical.byContradiction
      intro w
      exact hall fun v a b => Classical.byContradiction fun w2 => w ⟨_, v, a, b, w2, rfl⟩
    obtain ⟨d, ⟨v, a, b, hne, hd⟩, hl⟩ := exlst hex (fun d hd => by
      obtain ⟨v, a, b, -, e⟩ := hd
      have := Rch_lb (f := fun _ => 0) hz (fun u v c g => by have := hG.n u v c g; omega) (dst_p hz hG.n v).1
      omega)
    have hA : A v = dst G z v := by
      rcases dst_t hz hG.n v with e | ⟨u, c, g, e⟩
      · have x1 := h0 v a b
        have x2 := lo v a b
        have x3 := hm v a b
        omega
      · obtain ⟨g1, g2, g3⟩ := hG u v c g
        have hu : A0 u = dst G z u := Classical.byContradiction fun w => by
          have := hl (dst G z u) ⟨u, g2.1, g2.2, w, rfl⟩
          omega
        have x1 := he u v c g
        have x2 := lo v a b
        omega
    have := cnt_l (P := fun v => A0 v = dst G z v) (P' := fun v => A v = dst G z v) (w := v) 72 stay a (by omega) hne hA
    omega
/-- where a gate's outer spot is -/
def spt (C : Cy) (g : Int) : Int := C 2 g 0 * 12 + C 2 g 1
def GC (C : Cy) (thr : Int → Int) (u v c : Int) : Prop := (∃ r p q : Int, (0 ≤ r ∧ r < C 0 0 0) ∧ (0 ≤ p ∧ p < 12) ∧ (0 ≤ q ∧ q < 12) ∧ (q = (p + 1) % 12 ∨ p = (q + 1) % 12) ∧ u = r * 12 + p ∧ v = r * 12 + q ∧ c = 1) ∨ ∃ g : Int, (0 ≤ g ∧ g < C 0 1 0) ∧ c = thr g ∧ (u = spt C g ∧ v = spt C g + 12 ∨ u = spt C g + 12 ∧ v = spt C g)
theorem spt_b {C : Cy} (hW : ctW C) {g : Int} (h0 : 0 ≤ g) (h1 : g < C 0 1 0) : 0 ≤ spt C g ∧ spt C g < 60 := by
  have b0 := cw_0 hW
  have a := cw_g0 hW g h0 h1
  have b := cw_g1 hW g h0 h1
  unfold spt
  omega
theorem GC_in {C : Cy} (hW : ctW C) {thr : Int → Int} (ht : ∀ g : Int, 0 ≤ g → g < C 0 1 0 → 1 ≤ thr g) : gin (GC C thr) := by
  intro u v c h
  have b0 := cw_0 hW
  rcases h with ⟨r, p, q, h1, h2, h3, h4, h5, h6, h7⟩ | ⟨g, h1, h2, h3⟩
  · omega
  · have := ht g h1.1 h1.2
    have := spt_b hW h1.1 h1.2
    omega
def tfT (t : Int) (L : Int → Int) (R : Int → Int → Int) : Prop := 0 ≤ t ∧ R t 0 = t + 1 ∧ R t 1 = t + 2 ∧ R t 2 = t + 3 ∧ L (t + 1) = 72 ∧ L (t + 2) = 72 ∧ L (t + 3) = 11
section THIEF
variable {L : Int → Int} {R F E : Int → Int → Int} {N : Nat} {Q : xQ} {t a x g : Int} {C : Cy} {thr z : Int → Int}
theorem sX_spotOf (hT : ctT a L R) (hM : ctM a C F E) (hW : ctW C) (g0 : 0 ≤ g) (g1 : g < C 0 1 0) (hQ : Q (spt C g) (L, R, F, E, N)) : T_X5_spotOf [a, g] (L, R, F, E, N) Q := by
  have pa := ct_p hT
  have b0 := cw_0 hW
  have b1 := cw_1 hW
  have c0 := cw_g0 hW g g0 g1
  have c1 := cw_g1 hW g g0 g1
  simp (disch := omega) only [ue_X5_spotOf, t_X5_spotOf, zLg, zRf, zFq, zEl, zNz, zUf, zUe, zUr, zCe, zSn, gd_0, gd_1, gd_2, gd_3, gd_4, gd_5, gd_6, gd_7, gd_8, gd_9, gd_10, gd_11, gd_12, gd_13, gd_14, gd_15, gd_16, gd_17, gd_18, gd_19, se_0, se_1, se_2, se_3, se_4, se_5, se_6, se_7, se_8, se_9, se_10, se_11, se_12, se_13, se_14, se_15, se_16, se_17, se_18, se_19, e_const, e_load, e_store, e_iinc, e_dup, e_dup2, e_pop, e_iadd, e_isub, e_imul, e_ladd, e_lsub, e_lmul, e_iaddw, e_isubw, e_imulw, e_laddw, e_lsubw, e_lmulw, e_iand, e_ior, e_ishl, e_ishr, e_iushr, e_lcmp, e_imax, e_imin, e_idiv, e_irem, e_ldiv, e_lrem, e_i2l, e_i2b, e_l2i, e_i2c, e_getF, e_getR, e_putF, e_putR, e_putz, e_ald, e_aldR, e_ast, e_astb, e_astz, e_asta, e_len, e_acopy, e_new, e_newa, e_mna, e_this, e_room, e_call0, e_callv0, e_call1, e_callv1, e_inv1, e_invv1, e_call2, e_callv2, e_inv2, e_invv2, e_call3, e_callv3, e_inv3, e_invv3, e_call4, e_callv4, e_inv4, e_invv4, e_call5, e_callv5, e_inv5, e_invv5, e_call6, e_callv6, e_inv6, e_invv6, e_call7, e_callv7, e_inv7, e_invv7, e_call8, e_callv8, e_inv8, e_invv8, e_ret, e_retz, e_retc, e_retb, e_retv, e_skip, e_sco, e_tlen, e_tat, e_iz_eq0, e_iz_eq1, e_iz_ne0, e_iz_ne1, add0, sc_d, sc_t, inI_e, inL_e, up_eq, true_or, or_true, or_false, false_or, and_true, true_and, not_false_eq_true, Int.reduceAdd, Int.reduceSub, Int.reduceMul, Int.reduceNeg, ct_6 hT, ct_l2 hT, ct_gr hT, ct_gl hT, cm_g hM]
  exact hQ
theorem sX_spread (hTt : tfT t L R) (hT : ctT a L R) (hM : ctM a C F E) (hW : ctW C) (hat : a + 105 ≤ t) (hx : x = t + 1 ∨ x = t + 2) (hthr : ∀ g : Int, 0 ≤ g → g < C 0 1 0 → E (t + 3) g = thr g ∧ 1 ≤ thr g ∧ thr g ≤ 100000) (hz : ∀ v, 0 ≤ z v ∧ z v ≤ 100000) (hEz : ∀ v : Int, 0 ≤ v → v < 72 → E x v = z v)
    (hQ : ∀ E' : Int → Int → Int, (∀ b j : Int, b ≠ x → E' b j = E b j) → (∀ v : Int, 0 ≤ v → v < 72 → E' x v = dst (GC C thr) z v) → Q 0 (L, R, F, E', N)) : T_X5_spread [t, a, x] (L, R, F, E, N) Q := by
  have pa := ct_p hT
  have b0 := cw_0 hW
  have b1 := cw_1 hW
  obtain ⟨pt, r0, r1, r2, l1, l2, l3⟩ := hTt
  have lx : L x = 72 := by rcases hx with e | e <;> rw [e] <;> assumption
  have hG := GC_in hW (thr := thr) (fun g u v => (hthr g u v).2.1)
  have hz0 : ∀ v, 0 ≤ z v := fun v => (hz v).1
  simp (disch := omega) only [t_X5_spread, ue_X5_spread, zLg, zRf, zFq, zEl, zNz, zUf, zUe, zUr, zCe, zSn, gd_0, gd_1, gd_2, gd_3, gd_4, gd_5, gd_6, gd_7, gd_8, gd_9, gd_10, gd_11, gd_12, gd_13, gd_14, gd_15, gd_16, gd_17, gd_18, gd_19, se_0, se_1, se_2, se_3, se_4, se_5, se_6, se_7, se_8, se_9, se_10, se_11, se_12, se_13, se_14, se_15, se_16, se_17, se_18, se_19, e_const, e_load, e_store, e_iinc, e_dup, e_dup2, e_pop, e_iadd, e_isub, e_imul, e_ladd, e_lsub, e_lmul, e_iaddw, e_isubw, e_imulw, e_laddw, e_lsubw, e_lmulw, e_iand, e_ior, e_ishl, e_ishr, e_iushr, e_lcmp, e_imax, e_imin, e_idiv, e_irem, e_ldiv, e_lrem, e_i2l, e_i2b, e_l2i, e_i2c, e_getF, e_getR, e_putF, e_putR, e_putz, e_ald, e_aldR, e_ast, e_astb, e_astz, e_asta, e_len, e_acopy, e_new, e_newa, e_mna, e_this, e_room, e_call0, e_callv0, e_call1, e_callv1, e_inv1, e_invv1, e_call2, e_callv2, e_inv2, e_invv2, e_call3, e_callv3, e_inv3, e_invv3, e_call4, e_callv4, e_inv4, e_invv4, e_call5, e_callv5, e_inv5, e_invv5, e_call6, e_callv6, e_inv6, e_invv6, e_call7, e_callv7, e_inv7, e_invv7, e_call8, e_callv8, e_inv8, e_invv8, e_ret, e_retz, e_retc, e_retb, e_retv, e_skip, e_sco, e_tlen, e_tat, e_iz_eq0, e_iz_eq1, e_iz_ne0, e_iz_ne1, add0, sc_d, sc_t, inI_e, inL_e, up_eq, true_or, or_true, or_false, false_or, and_true, true_and, not_false_eq_true, Int.reduceAdd, Int.reduceSub, Int.reduceMul, Int.reduceNeg]
  unfold L_X5_spread_5
  refine lpw (fun n lo st h c s => ∃ (nr i y5 y6 : Int) (E' : Int → Int → Int), lo = [t, a, x, nr, i, y5, y6] ∧ st = [] ∧ h = (L, R, F, E', N) ∧ 0 ≤ i ∧ i ≤ 72 ∧ (n : Int) = 72 - i ∧ (∀ b j : Int, b ≠ x → E' b j = E b j) ∧ (∀ v : Int, 0 ≤ v → v < 72 → (0 ≤ E' x v ∧ E' x v ≤ z v) ∧ Rch (GC C thr) z v (E' x v)) ∧ i ≤ cnt (fun v => E' x v = dst (GC C thr) z v) 72 ∧ (nr = 0 → ∀ v : Int, 0 ≤ v → v < 72 → E' x v = dst (GC C thr) z v)) ?_ (n := 72) ⟨1, 0, 0, 0, E, rfl, rfl, rfl, by omega, by omega, by omega, fun _ _ _ => rfl, fun v u w => by rw [hEz v u w]; exact ⟨⟨(hz v).1, Int.le_refl _⟩, Rch_b⟩, (cnt_b _ 72).1, fun w => by omega⟩
  rintro n k hk lo st h c s ⟨nr, i, y5, y6, E0, rfl, rfl, rfl, hi, hi2, hn1, hf0, hv0, hcn, hnr⟩
  by_cases hend : nr = 0 ∨ i = 72
  · have hfin : ∀ v : Int, 0 ≤ v → v < 72 → E0 x v = dst (GC C thr) z v := by
      rcases hend with w | w
      · exact hnr w
      · exact fun v u q => cnt_all (P := fun v => E0 x v = dst (GC C thr) z v) 72 (by omega) v u (by omega)
    repeat' first
      | exact absurd hc (by decide)
      | simp (disch := omega) only [ub_X5_spread_121, zLg, zRf, zFq, zEl, zNz, zUf, zUe, zUr, zCe, zSn, gd_0, gd_1, gd_2, gd_3, gd_4, gd_5, gd_6, gd_7, gd_8, gd_9, gd_10, gd_11, gd_12, gd_13, gd_14, gd_15, gd_16, gd_17, gd_18, gd_19, se_0, se_1, se_2, se_3, se_4, se_5, se_6, se_7, se_8, se_9, se_10, se_11, se_12, se_13, se_14, se_15, se_16, se_17, se_18, se_19, e_const, e_load, e_store, e_iinc, e_dup, e_dup2, e_pop, e_iadd, e_isub, e_imul, e_ladd, e_lsub, e_lmul, e_iaddw, e_isubw, e_imulw, e_laddw, e_lsubw, e_lmulw, e_iand, e_ior, e_ishl, e_ishr, e_iushr, e_lcmp, e_imax, e_imin, e_idiv, e_irem, e_ldiv, e_lrem, e_i2l, e_i2b, e_l2i, e_i2c, e_getF, e_getR, e_putF, e_putR, e_putz, e_ald, e_aldR, e_ast, e_astb, e_astz, e_asta, e_len, e_acopy, e_new, e_newa, e_mna, e_this, e_room, e_call0, e_callv0, e_call1, e_callv1, e_inv1, e_invv1, e_call2, e_callv2, e_inv2, e_invv2, e_call3, e_callv3, e_inv3, e_invv3, e_call4, e_callv4, e_inv4, e_invv4, e_call5, e_callv5, e_inv5, e_invv5, e_call6, e_callv6, e_inv6, e_invv6, e_call7, e_callv7, e_inv7, e_invv7, e_call8, e_callv8, e_inv8, e_invv8, e_ret, e_retz, e_retc, e_retb, e_retv, e_skip, e_sco, e_tlen, e_tat, e_iz_eq0, e_iz_eq1, e_iz_ne0, e_iz_ne1, add0, sc_d, sc_t, inI_e, inL_e, up_eq, true_or, or_true, or_false, false_or, and_true, true_and, not_false_eq_true, Int.reduceAdd, Int.reduceSub, Int.reduceMul, Int.reduceNeg]
      | with_reducible first | refine izl_lt (fun hc => ?_) (fun hc => ?_) | refine izl_ge (fun hc => ?_) (fun hc => ?_) | refine izl_eq (fun hc => ?_) (fun hc => ?_) | refine ic_ge (fun hc => ?_) (fun hc => ?_) | refine ic_lt (fun hc => ?_) (fun hc => ?_) | refine ic_ne (fun hc => ?_) (fun hc => ?_) | refine ic_eq (fun hc => ?_) (fun hc => ?_) | refine ic_le (fun hc => ?_) (fun hc => ?_) | refine ic_gt (fun hc => ?_) (fun hc => ?_) | refine iz_eq (fun hc => ?_) (fun hc => ?_) | refine iz_ne (fun hc => ?_) (fun hc => ?_) | refine iz_lt (fun hc => ?_) (fun hc => ?_) | refine iz_ge (fun hc => ?_) (fun hc => ?_) | refine iz_gt (fun hc => ?_) (fun hc => ?_) | refine iz_le (fun hc => ?_) (fun hc => ?_) | refine iz_nu (fun hc => ?_) (fun hc => ?_) | refine iz_nn (fun hc => ?_) (fun hc => ?_)
      | omega
      | (exfalso; omega)
    all_goals exact hQ E0 hf0 hfin
  · have hlt : i < 72 := by omega
    have hnr1 : nr ≠ 0 := fun w => hend (Or.inl w)
    have hM0 : ctM a C F E0 := hM.fi hW (frI.rf (lo := t) (hi := t + 4)) (fun b j w => hf0 b j (by omega)) (by omega)
    repeat' first
      | exact absurd hc (by decide)
      | simp (disch := omega) only [zLg, zRf, zFq, zEl, zNz, zUf, zUe, zUr, zCe, zSn, gd_0, gd_1, gd_2, gd_3, gd_4, gd_5, gd_6, gd_7, gd_8, gd_9, gd_10, gd_11, gd_12, gd_13, gd_14, gd_15, gd_16, gd_17, gd_18, gd_19, se_0, se_1, se_2, se_3, se_4, se_5, se_6, se_7, se_8, se_9, se_10, se_11, se_12, se_13, se_14, se_15, se_16, se_17, se_18, se_19, e_const, e_load, e_store, e_iinc, e_dup, e_dup2, e_pop, e_iadd, e_isub, e_imul, e_ladd, e_lsub, e_lmul, e_iaddw, e_isubw, e_imulw, e_laddw, e_lsubw, e_lmulw, e_iand, e_ior, e_ishl, e_ishr, e_iushr, e_lcmp, e_imax, e_imin, e_idiv, e_irem, e_ldiv, e_lrem, e_i2l, e_i2b, e_l2i, e_i2c, e_getF, e_getR, e_putF, e_putR, e_putz, e_ald, e_aldR, e_ast, e_astb, e_astz, e_asta, e_len, e_acopy, e_new, e_newa, e_mna, e_this, e_room, e_call0, e_callv0, e_call1, e_callv1, e_inv1, e_invv1, e_call2, e_callv2, e_inv2, e_invv2, e_call3, e_callv3, e_inv3, e_invv3, e_call4, e_callv4, e_inv4, e_invv4, e_call5, e_callv5, e_inv5, e_invv5, e_call6, e_callv6, e_inv6, e_invv6, e_call7, e_callv7, e_inv7, e_invv7, e_call8, e_callv8, e_inv8, e_invv8, e_ret, e_retz, e_retc, e_retb, e_retv, e_skip, e_sco, e_tlen, e_tat, e_iz_eq0, e_iz_eq1, e_iz_ne0, e_iz_ne1, add0, sc_d, sc_t, inI_e, inL_e, up_eq, true_or, or_true, or_false, false_or, and_true, true_and, not_false_eq_true, Int.reduceAdd, Int.reduceSub, Int.reduceMul, Int.reduceNeg]
      | with_reducible first | refine izl_lt (fun hc => ?_) (fun hc => ?_) | refine izl_ge (fun hc => ?_) (fun hc => ?_) | refine izl_eq (fun hc => ?_) (fun hc => ?_) | refine ic_ge (fun hc => ?_) (fun hc => ?_) | refine ic_lt (fun hc => ?_) (fun hc => ?_) | refine ic_ne (fun hc => ?_) (fun hc => ?_) | refine ic_eq (fun hc => ?_) (fun hc => ?_) | refine ic_le (fun hc => ?_) (fun hc => ?_) | refine ic_gt (fun hc => ?_) (fun hc => ?_) | refine iz_eq (fun hc => ?_) (fun hc => ?_) | refine iz_ne (fun hc => ?_) (fun hc => ?_) | refine iz_lt (fun hc => ?_) (fun hc => ?_) | refine iz_ge (fun hc => ?_) (fun hc => ?_) | refine iz_gt (fun hc => ?_) (fun hc => ?_) | refine iz_le (fun hc => ?_) (fun hc => ?_) | refine iz_nu (fun hc => ?_) (fun hc => ?_) | refine iz_nn (fun hc => ?_) (fun hc => ?_)
      | omega
      | (exfalso; omega)
    unfold L_X5_spread_21
    refine lpw (fun n lo st h c s => ∃ (r : Int) (E1 : Int → Int → Int), lo = [t, a, x, 0, i, r, y6] ∧ st = [] ∧ h = (L, R, F, E1, N) ∧ 0 ≤ r ∧ r ≤ C 0 0 0 ∧ (n : Int) = C 0 0 0 - r ∧ (∀ b j : Int, b ≠ x → E1 b j = E b j) ∧ (∀ v : Int, 0 ≤ v → v < 72 → (0 ≤ E1 x v ∧ E1 x v ≤ E0 x v) ∧ Rch (GC C thr) z v (E1 x v)) ∧ (∀ q p p' : Int, 0 ≤ q → q < r → 0 ≤ p → p < 12 → 0 ≤ p' → p' < 12 → (p' = (p + 1) % 12 ∨ p = (p' + 1) % 12) → E1 x (q * 12 + p') ≤ E1 x (q * 12 + p) + 1)) ?_ (n := (C 0 0 0).toNat) ⟨0, E0, rfl, rfl, rfl, by omega, by omega, by omega, hf0, fun v u w => ⟨⟨(hv0 v u w).1.1, Int.le_refl _⟩, (hv0 v u w).2⟩, fun q p p' u w => by omega⟩
    rintro n1 k1 hk1 lo st h c1 s1 ⟨r, E1, rfl, rfl, rfl, hr, hr2, hn2, hf1, hv1, hc1⟩
    have hM1 : ctM a C F E1 := hM.fi hW (frI.rf (lo := t) (hi := t + 4)) (fun b j w => hf1 b j (by omega)) (by omega)
    by_cases hrl : r < C 0 0 0
    · repeat' first
        | exact absurd hc (by decide)
        | simp (disch := omega) only [zLg, zRf, zFq, zEl, zNz, zUf, zUe, zUr, zCe, zSn, gd_0, gd_1, gd_2, gd_3, gd_4, gd_5, gd_6, gd_7, gd_8, gd_9, gd_10, gd_11, gd_12, gd_13, gd_14, gd_15, gd_16, gd_17, gd_18, gd_19, se_0, se_1, se_2, se_3, se_4, se_5, se_6, se_7, se_8, se_9, se_10, se_11, se_12, se_13, se_14, se_15, se_16, se_17, se_18, se_19, e_const, e_load, e_store, e_iinc, e_dup, e_dup2, e_pop, e_iadd, e_isub, e_imul, e_ladd, e_lsub, e_lmul, e_iaddw, e_isubw, e_imulw, e_laddw, e_lsubw, e_lmulw, e_iand, e_ior, e_ishl, e_ishr, e_iushr, e_lcmp, e_imax, e_imin, e_idiv, e_irem, e_ldiv, e_lrem, e_i2l, e_i2b, e_l2i, e_i2c, e_getF, e_getR, e_putF, e_putR, e_putz, e_ald, e_aldR, e_ast, e_astb, e_astz, e_asta, e_len, e_acopy, e_new, e_newa, e_mna, e_this, e_room, e_call0, e_callv0, e_call1, e_callv1, e_inv1, e_invv1, e_call2, e_callv2, e_inv2, e_invv2, e_call3, e_callv3, e_inv3, e_invv3, e_call4, e_callv4, e_inv4, e_invv4, e_call5, e_callv5, e_inv5, e_invv5, e_call6, e_callv6, e_inv6, e_invv6, e_call7, e_callv7, e_inv7, e_invv7, e_call8, e_callv8, e_inv8, e_invv8, e_ret, e_retz, e_retc, e_retb, e_retv, e_skip, e_sco, e_tlen, e_tat, e_iz_eq0, e_iz_eq1, e_iz_ne0, e_iz_ne1, add0, sc_d, sc_t, inI_e, inL_e, up_eq, true_or, or_true, or_false, false_or, and_true, true_and, not_false_eq_true, Int.reduceAdd, Int.reduceSub, Int.reduceMul, Int.reduceNeg, cm_0 hM1]
        | with_reducible first | refine izl_lt (fun hc => ?_) (fun hc => ?_) | refine izl_ge (fun hc => ?_) (fun hc => ?_) | refine izl_eq (fun hc => ?_) (fun hc => ?_) | refine ic_ge (fun hc => ?_) (fun hc => ?_) | refine ic_lt (fun hc => ?_) (fun hc => ?_) | refine ic_ne (fun hc => ?_) (fun hc => ?_) | refine ic_eq (fun hc => ?_) (fun hc => ?_) | refine ic_le (fun hc => ?_) (fun hc => ?_) | refine ic_gt (fun hc => ?_) (fun hc => ?_) | refine iz_eq (fun hc => ?_) (fun hc => ?_) | refine iz_ne (fun hc => ?_) (fun hc => ?_) | refine iz_lt (fun hc => ?_) (fun hc => ?_) | refine iz_ge (fun hc => ?_) (fun hc => ?_) | refine iz_gt (fun hc => ?_) (fun hc => ?_) | refine iz_le (fun hc => ?_) (fun hc => ?_) | refine iz_nu (fun hc => ?_) (fun hc => ?_) | refine iz_nn (fun hc => ?_) (fun hc => ?_)
        | omega
        | (exfalso; omega)
      refine sX_spreadRound (G := GC C thr) (z := z) (by omega) lx (by omega) (by omega) (fun v u w => ⟨⟨(hv1 v u w).1.1, by have := (hv1 v u w).1.2; have := (hv0 v u w).1.2; have := (hz v).2; omega⟩, (hv1 v u w).2⟩) (fun p q p0 p1 q0 q1 hd => Or.inl ⟨r, p, q, ⟨hr, hrl⟩, ⟨p0, p1⟩, ⟨q0, q1⟩, hd, rfl, rfl, rfl⟩) fun E2 a1 a2 a3 => ?_
      refine hk1 (n1 - 1) _ _ _ _ _ (by omega) ⟨r + 1, E2, rfl, rfl, rfl, by omega, by omega, by omega, fun b j w => (a1 b j (by omega)).trans (hf1 b j w), fun v u w => ⟨⟨(a2 v u w).1.1, by have := (a2 v u w).1.2; have := (hv1 v u w).1.2; omega⟩, (a2 v u w).2⟩, fun q p p' u w p0 p1 q0 q1 hd => ?_⟩
      by_cases zq : q = r
      · rw [zq]; exact a3 p p' p0 p1 q0 q1 hd
      · rw [a1 _ _ (by omega), a1 _ _ (by omega)]
        exact hc1 q p p' u (by omega) p0 p1 q0 q1 hd
    · have hre : r = C 0 0 0 := by omega
      subst hre
      repeat' first
        | exact absurd hc (by decide)
        | simp (disch := omega) only [zLg, zRf, zFq, zEl, zNz, zUf, zUe, zUr, zCe, zSn, gd_0, gd_1, gd_2, gd_3, gd_4, gd_5, gd_6, gd_7, gd_8, gd_9, gd_10, gd_11, gd_12, gd_13, gd_14, gd_15, gd_16, gd_17, gd_18, gd_19, se_0, se_1, se_2, se_3, se_4, se_5, se_6, se_7, se_8, se_9, se_10, se_11, se_12, se_13, se_14, se_15, se_16, se_17, se_18, se_19, e_const, e_load, e_store, e_iinc, e_dup, e_dup2, e_pop, e_iadd, e_isub, e_imul, e_ladd, e_lsub, e_lmul, e_iaddw, e_isubw, e_imulw, e_laddw, e_lsubw, e_lmulw, e_iand, e_ior, e_ishl, e_ishr, e_iushr, e_lcmp, e_imax, e_imin, e_idiv, e_irem, e_ldiv, e_lrem, e_i2l, e_i2b, e_l2i, e_i2c, e_getF, e_getR, e_putF, e_putR, e_putz, e_ald, e_aldR, e_ast, e_astb, e_astz, e_asta, e_len, e_acopy, e_new, e_newa, e_mna, e_this, e_room, e_call0, e_callv0, e_call1, e_callv1, e_inv1, e_invv1, e_call2, e_callv2, e_inv2, e_invv2, e_call3, e_callv3, e_inv3, e_invv3, e_call4, e_callv4, e_inv4, e_invv4, e_call5, e_callv5, e_inv5, e_invv5, e_call6, e_callv6, e_inv6, e_invv6, e_call7, e_callv7, e_inv7, e_invv7, e_call8, e_callv8, e_inv8, e_invv8, e_ret, e_retz, e_retc, e_retb, e_retv, e_skip, e_sco, e_tlen, e_tat, e_iz_eq0, e_iz_eq1, e_iz_ne0, e_iz_ne1, add0, sc_d, sc_t, inI_e, inL_e, up_eq, true_or, or_true, or_false, false_or, and_true, true_and, not_false_eq_true, Int.reduceAdd, Int.reduceSub, Int.reduceMul, Int.reduceNeg, cm_0 hM1]
        | with_reducible first | refine izl_lt (fun hc => ?_) (fun hc => ?_) | refine izl_ge (fun hc => ?_) (fun hc => ?_) | refine izl_eq (fun hc => ?_) (fun hc => ?_) | refine ic_ge (fun hc => ?_) (fun hc => ?_) | refine ic_lt (fun hc => ?_) (fun hc => ?_) | refine ic_ne (fun hc => ?_) (fun hc => ?_) | refine ic_eq (fun hc => ?_) (fun hc => ?_) | refine ic_le (fun hc => ?_) (fun hc => ?_) | refine ic_gt (fun hc => ?_) (fun hc => ?_) | refine iz_eq (fun hc => ?_) (fun hc => ?_) | refine iz_ne (fun hc => ?_) (fun hc => ?_) | refine iz_lt (fun hc => ?_) (fun hc => ?_) | refine iz_ge (fun hc => ?_) (fun hc => ?_) | refine iz_gt (fun hc => ?_) (fun hc => ?_) | refine iz_le (fun hc => ?_) (fun hc => ?_) | refine iz_nu (fun hc => ?_) (fun hc => ?_) | refine iz_nn (fun hc => ?_) (fun hc => ?_)
        | omega
        | (exfalso; omega)
      unfold L_X5_spread_48
      refine lpw (fun n lo st h c s => ∃ (nr j y6 : Int) (E2 : Int → Int → Int), lo = [t, a, x, nr, i, j, y6] ∧ st = [] ∧ h = (L, R, F, E2, N) ∧ (nr = 0 ∨ nr = 1) ∧ 0 ≤ j ∧ j ≤ C 0 1 0 ∧ (n : Int) = C 0 1 0 - j ∧ (∀ b j : Int, b ≠ x → E2 b j = E b j) ∧ (∀ v : Int, 0 ≤ v → v < 72 → (0 ≤ E2 x v ∧ E2 x v ≤ E1 x v) ∧ Rch (GC C thr) z v (E2 x v)) ∧ (∀ g : Int, 0 ≤ g → g < j → E2 x (spt C g + 12) ≤ E1 x (spt C g) + thr g ∧ E2 x (spt C g) ≤ E1 x (spt C g + 12) + thr g) ∧ (nr = 0 → ∀ v : Int, 0 ≤ v → v < 72 → E2 x v = E1 x v)) ?_ (n := (C 0 1 0).toNat) ⟨0, 0, _, E1, rfl, rfl, rfl, by omega, by omega, by omega, by omega, hf1, fun v u w => ⟨⟨(hv1 v u w).1.1, Int.le_refl _⟩, (hv1 v u w).2⟩, fun g u w => by omega, fun _ _ _ _ => rfl⟩
      rintro n2 k2 hk2 lo st h c2 s2 ⟨nr2, j, y6, E2, rfl, rfl, rfl, hnr01, hj, hj2, hn3, hf2, hv2, hg2, hs2⟩
      have hM2 : ctM a C F E2 := hM.fi hW (frI.rf (lo := t) (hi := t + 4)) (fun b j w => hf2 b j (by omega)) (by omega)
      by_cases hjl : j < C 0 1 0
      · have sb := spt_b hW hj hjl
        obtain ⟨t1, t2, t3⟩ := hthr j hj hjl
        have t1' : E2 (t + 3) j = thr j := (hf2 _ _ (by omega)).trans t1
        have vs := hv2 (spt C j) sb.1 (by omega)
        have vs2 := hv2 (spt C j + 12) (by omega) (by omega)
        have vs1 := hv1 (spt C j) sb.1 (by omega)
        have vs21 := hv1 (spt C j + 12) (by omega) (by omega)
        have vs0 := hv0 (spt C j) sb.1 (by omega)
        have vs20 := hv0 (spt C j + 12) (by omega) (by omega)
        have zs := hz (spt C j)
        have zs2 := hz (spt C j + 12)
        have vsa := vs.1
        have vsb := vs2.1
        have edge : ∀ (E3 : Int → Int → Int) (nr3 y : Int), (nr3 = 0 ∨ nr3 = 1) → (∀ b j : Int, b ≠ x → E3 b j = E b j) → (∀ v : Int, 0 ≤ v → v < 72 → (0 ≤ E3 x v ∧ E3 x v ≤ E2 x v) ∧ Rch (GC C thr) z v (E3 x v)) → E3 x (spt C j + 12) ≤ E1 x (spt C j) + thr j → E3 x (spt C j) ≤ E1 x (spt C j + 12) + thr j → (nr3 = 0 → ∀ v : Int, 0 ≤ v → v < 72 → E3 x v = E1 x v) → k2 [t, a, x, nr3, i, j + 1, y] [] (L, R, F, E3, N) c2 s2 := fun E3 nr3 y h1 h2 h3 h4 h5 h6 => by
          refine hk2 (n2 - 1) _ _ _ _ _ (by omega) ⟨nr3, j + 1, y, E3, rfl, rfl, rfl, h1, by omega, by omega, by omega, h2, fun v u w => ⟨⟨(h3 v u w).1.1, by have := (h3 v u w).1.2; have := (hv2 v u w).1.2; omega⟩, (h3 v u w).2⟩, fun g u w => ?_, h6⟩
          by_cases zg : g = j
          · rw [zg]; exact ⟨h4, h5⟩
          · have := hg2 g u (by omega)
            have sg := spt_b hW u (by omega)
            have c1 := (h3 (spt C g) sg.1 (by omega)).1.2
            have c2 := (h3 (spt C g + 12) (by omega) (by omega)).1.2
            omega
        have ge1 : GC C thr (spt C j) (spt C j + 12) (thr j) := Or.inr ⟨j, ⟨hj, hjl⟩, rfl, Or.inl ⟨rfl, rfl⟩⟩
        have ge2 : GC C thr (spt C j + 12) (spt C j) (thr j) := Or.inr ⟨j, ⟨hj, hjl⟩, rfl, Or.inr ⟨rfl, rfl⟩⟩
        have px : 0 ≤ x := by omega
        have same : ∀ v : Int, 0 ≤ v → v < 72 → (0 ≤ E2 x v ∧ E2 x v ≤ E2 x v) ∧ Rch (GC C thr) z v (E2 x v) := fun v u w => ⟨⟨(hv2 v u w).1.1, Int.le_refl _⟩, (hv2 v u w).2⟩
        repeat' first
          | exact absurd hc (by decide)
          | with_reducible refine sX_spotOf hT hM2 hW hj hjl ?_
          | with_reducible refine sX_shorten px lx ?_ ?_ ?_ ?_ ?_ ?_ ?_ ?_ (fun hs => ?_) (fun hs => ?_)
          | simp (disch := omega) only [ub_X5_spread_107, ub_X5_spread_109, zLg, zRf, zFq, zEl, zNz, zUf, zUe, zUr, zCe, zSn, gd_0, gd_1, gd_2, gd_3, gd_4, gd_5, gd_6, gd_7, gd_8, gd_9, gd_10, gd_11, gd_12, gd_13, gd_14, gd_15, gd_16, gd_17, gd_18, gd_19, se_0, se_1, se_2, se_3, se_4, se_5, se_6, se_7, se_8, se_9, se_10, se_11, se_12, se_13, se_14, se_15, se_16, se_17, se_18, se_19, e_const, e_load, e_store, e_iinc, e_dup, e_dup2, e_pop, e_iadd, e_isub, e_imul, e_ladd, e_lsub, e_lmul, e_iaddw, e_isubw, e_imulw, e_laddw, e_lsubw, e_lmulw, e_iand, e_ior, e_ishl, e_ishr, e_iushr, e_lcmp, e_imax, e_imin, e_idiv, e_irem, e_ldiv, e_lrem, e_i2l, e_i2b, e_l2i, e_i2c, e_getF, e_getR, e_putF, e_putR, e_putz, e_ald, e_aldR, e_ast, e_astb, e_astz, e_asta, e_len, e_acopy, e_new, e_newa, e_mna, e_this, e_room, e_call0, e_callv0, e_call1, e_callv1, e_inv1, e_invv1, e_call2, e_callv2, e_inv2, e_invv2, e_call3, e_callv3, e_inv3, e_invv3, e_call4, e_callv4, e_inv4, e_invv4, e_call5, e_callv5, e_inv5, e_invv5, e_call6, e_callv6, e_inv6, e_invv6, e_call7, e_callv7, e_inv7, e_invv7, e_call8, e_callv8, e_inv8, e_invv8, e_ret, e_retz, e_retc, e_retb, e_retv, e_skip, e_sco, e_tlen, e_tat, e_iz_eq0, e_iz_eq1, e_iz_ne0, e_iz_ne1, add0, sc_d, sc_t, inI_e, inL_e, up_eq, true_or, or_true, or_false, false_or, and_true, true_and, not_false_eq_true, Int.reduceAdd, Int.reduceSub, Int.reduceMul, Int.reduceNeg, cm_1 hM2, r2, l3, t1']
          | with_reducible first | refine izl_lt (fun hc => ?_) (fun hc => ?_) | refine izl_ge (fun hc => ?_) (fun hc => ?_) | refine izl_eq (fun hc => ?_) (fun hc => ?_) | refine ic_ge (fun hc => ?_) (fun hc => ?_) | refine ic_lt (fun hc => ?_) (fun hc => ?_) | refine ic_ne (fun hc => ?_) (fun hc => ?_) | refine ic_eq (fun hc => ?_) (fun hc => ?_) | refine ic_le (fun hc => ?_) (fun hc => ?_) | refine ic_gt (fun hc => ?_) (fun hc => ?_) | refine iz_eq (fun hc => ?_) (fun hc => ?_) | refine iz_ne (fun hc => ?_) (fun hc => ?_) | refine iz_lt (fun hc => ?_) (fun hc => ?_) | refine iz_ge (fun hc => ?_) (fun hc => ?_) | refine iz_gt (fun hc => ?_) (fun hc => ?_) | refine iz_le (fun hc => ?_) (fun hc => ?_) | refine iz_nu (fun hc => ?_) (fun hc => ?_) | refine iz_nn (fun hc => ?_) (fun hc => ?_)
          | omega
          | (exfalso; omega)
        · refine edge _ 1 _ (by omega) (fun b q w => (up_ne (by omega)).trans (hf2 b q w)) (fun v u w => ?_) (by rw [up_eq]; omega) (by rw [up_ne (by omega)]; omega) (fun w => by omega)
          by_cases zv : v = spt C j + 12
          · rw [zv, up_eq]
            exact ⟨⟨by omega, by omega⟩, Rch_s vs.2 ge1⟩
          · rw [up_ne (by omega)]
            exact same v u w
        · refine edge _ 1 _ (by omega) (fun b q w => (up_ne (by omega)).trans (hf2 b q w)) (fun v u w => ?_) (by rw [up_ne (by omega)]; omega) (by rw [up_eq]; omega) (fun w => by omega)
          by_cases zv : v = spt C j
          · rw [zv, up_eq]
            exact ⟨⟨by omega, by omega⟩, Rch_s vs2.2 ge2⟩
          · rw [up_ne (by omega)]
            exact same v u w
        · exact edge E2 nr2 _ hnr01 hf2 same (by omega) (by omega) hs2
      · have hje : j = C 0 1 0 := by omega
        subst hje
        have hedge : ∀ u v c, GC C thr u v c → E2 x v ≤ E1 x u + c := fun u v c hgc => by
          rcases hgc with ⟨r, p, q, g1, g2, g3, g4, g5, g6, g7⟩ | ⟨g, g1, g2, g3⟩
          · subst g5 g6 g7
            have c1 := hc1 r p q g1.1 g1.2 g2.1 g2.2 g3.1 g3.2 g4
            have c2 := (hv2 (r * 12 + q) (by omega) (by omega)).1.2
            omega
          · subst g2
            have c1 := hg2 g g1.1 g1.2
            rcases g3 with ⟨e1, e2⟩ | ⟨e1, e2⟩ <;> rw [e1, e2] <;> omega
        have hle : ∀ v : Int, 0 ≤ v → v < 72 → E2 x v ≤ E0 x v := fun v u w => by
          have c1 := (hv2 v u w).1.2
          have c2 := (hv1 v u w).1.2
          omega
        have hcnt := stl (A0 := fun v => E0 x v) (A := fun v => E2 x v) hz0 hG (fun v u w => (hv0 v u w).1.2) (fun v u w => (hv2 v u w).2) hle (fun u v c hgc => by
          have c1 := hedge u v c hgc
          have c3 := (hG u v c hgc).2.1
          have c2 := (hv1 u c3.1 c3.2).1.2
          show E2 x v ≤ E0 x u + c
          omega) hcn hlt
        repeat' first
          | exact absurd hc (by decide)
          | simp (disch := omega) only [zLg, zRf, zFq, zEl, zNz, zUf, zUe, zUr, zCe, zSn, gd_0, gd_1, gd_2, gd_3, gd_4, gd_5, gd_6, gd_7, gd_8, gd_9, gd_10, gd_11, gd_12, gd_13, gd_14, gd_15, gd_16, gd_17, gd_18, gd_19, se_0, se_1, se_2, se_3, se_4, se_5, se_6, se_7, se_8, se_9, se_10, se_11, se_12, se_13, se_14, se_15, se_16, se_17, se_18, se_19, e_const, e_load, e_store, e_iinc, e_dup, e_dup2, e_pop, e_iadd, e_isub, e_imul, e_ladd, e_lsub, e_lmul, e_iaddw, e_isubw, e_imulw, e_laddw, e_lsubw, e_lmulw, e_iand, e_ior, e_ishl, e_ishr, e_iushr, e_lcmp, e_imax, e_imin, e_idiv, e_irem, e_ldiv, e_lrem, e_i2l, e_i2b, e_l2i, e_i2c, e_getF, e_getR, e_putF, e_putR, e_putz, e_ald, e_aldR, e_ast, e_astb, e_astz, e_asta, e_len, e_acopy, e_new, e_newa, e_mna, e_this, e_room, e_call0, e_callv0, e_call1, e_callv1, e_inv1, e_invv1, e_call2, e_callv2, e_inv2, e_invv2, e_call3, e_callv3, e_inv3, e_invv3, e_call4, e_callv4, e_inv4, e_invv4, e_call5, e_callv5, e_inv5, e_invv5, e_call6, e_callv6, e_inv6, e_invv6, e_call7, e_callv7, e_inv7, e_invv7, e_call8, e_callv8, e_inv8, e_invv8, e_ret, e_retz, e_retc, e_retb, e_retv, e_skip, e_sco, e_tlen, e_tat, e_iz_eq0, e_iz_eq1, e_iz_ne0, e_iz_ne1, add0, sc_d, sc_t, inI_e, inL_e, up_eq, true_or, or_true, or_false, false_or, and_true, true_and, not_false_eq_true, Int.reduceAdd, Int.reduceSub, Int.reduceMul, Int.reduceNeg, cm_1 hM2]
          | with_reducible first | refine izl_lt (fun hc => ?_) (fun hc => ?_) | refine izl_ge (fun hc => ?_) (fun hc => ?_) | refine izl_eq (fun hc => ?_) (fun hc => ?_) | refine ic_ge (fun hc => ?_) (fun hc => ?_) | refine ic_lt (fun hc => ?_) (fun hc => ?_) | refine ic_ne (fun hc => ?_) (fun hc => ?_) | refine ic_eq (fun hc => ?_) (fun hc => ?_) | refine ic_le (fun hc => ?_) (fun hc => ?_) | refine ic_gt (fun hc => ?_) (fun hc => ?_) | refine iz_eq (fun hc => ?_) (fun hc => ?_) | refine iz_ne (fun hc => ?_) (fun hc => ?_) | refine iz_lt (fun hc => ?_) (fun hc => ?_) | refine iz_ge (fun hc => ?_) (fun hc => ?_) | refine iz_gt (fun hc => ?_) (fun hc => ?_) | refine iz_le (fun hc => ?_) (fun hc => ?_) | refine iz_nu (fun hc => ?_) (fun hc => ?_) | refine iz_nn (fun hc => ?_) (fun hc => ?_)
          | omega
          | (exfalso; omega)
        refine hk (n - 1) _ _ _ _ _ (by omega) ⟨nr2, i + 1, _, _, E2, rfl, rfl, rfl, by omega, by omega, by omega, hf2, fun v u w => ⟨⟨(hv2 v u w).1.1, by have := hle v u w; have := (hv0 v u w).1.2; omega⟩, (hv2 v u w).2⟩, hcnt, fun w => ?_⟩
        have hs := hs2 w
        refine cls (A := fun v => E2 x v) hz0 hG (fun v u w => by show E2 x v ≤ z v; have := hle v u w; have := (hv0 v u w).1.2; omega) (fun v u w => (hv2 v u w).2) (fun u v c hgc => ?_)
        have c3 := (hG u v c hgc).2.1
        show E2 x v ≤ E2 x u + c
        rw [hs u c3.1 c3.2]
        exact hedge u v c hgc
end THIEF

/-! ===== the class's saving ===== -/
theorem up_self {R : Int → Int → Int} {f j v : Int} (h : R f j = v) : up R f j v = R := by
  funext b q
  by_cases z : b = f ∧ q = j
  · rw [z.1, z.2, up_eq, h]
  · rw [up_ne (by omega)]
section SAVEX
variable {L : Int → Int} {R F E : Int → Int → Int} {N : Nat} {Q : xQ} {B a y f s g w h : Int} {C : Cy}
theorem ctM_wd (hM : ctM a C F E) (hW : ctW C) (g0 : 0 ≤ g) (g1 : g < C 0 1 0) {E' : Int → Int → Int} (h2 : E' (a + 3 + g) 2 = max (C 2 g 2) w) (h3 : E' (a + 3 + g) 3 = max (C 2 g 3) h) (hf : ∀ b j : Int, (b ≠ a + 3 + g ∨ (j ≠ 2 ∧ j ≠ 3)) → E' b j = E b j) : ctM a (wdC C g w h) F E' := by
  have n : ∀ x y z : Int, x ≠ 2 → wdC C g w h x y z = C x y z := fun x y z q => wdC_ne (Or.inl q)
  have b0 := cw_0 hW
  have b1 := cw_1 hW
  have b2 := cw_2 hW
  have b3 := cw_3 hW
  have b4 := cw_4 hW
  have hwh : ∀ k, wh (wdC C g w h) k = wh C k := fun k => by
    funext i
    unfold wh
    rw [n 6 k 6 (by omega), n 6 k 5 (by omega), n 6 k i (by omega)]
  have hp : ∀ k, pn (wdC C g w h) k = pn C k := fun k => by unfold pn; rw [n 6 k 6 (by omega), n 6 k 4 (by omega)]
  have hpt : ∀ k, pt (wdC C g w h) k = pt C k := fun k => by
    funext i
    unfold pt
    rw [n 6 k 0 (by omega), n 6 k 3 (by omega), n 6 k 6 (by omega), n 6 k 5 (by omega), n 6 k i (by omega), hp]
  unfold ctM
  simp (disch := omega) only [n, hwh, hpt]
  have fI : frI (a + 3) (a + 14) E E' := fun b j q => hf b j (by omega)
  refine ⟨cm_0 hM, cm_1 hM, cm_2 hM, cm_3 hM, cm_4 hM, fun r x z => (hf _ _ (by omega)).trans (cm_w hM r x z), fun q z x1 x2 x3 x4 => ?_, fun q z x1 x2 x3 x4 => (hf _ _ (by omega)).trans (cm_c hM q z x1 x2 x3 x4), fun q z x1 x2 x3 x4 => (hf _ _ (by omega)).trans (cm_s hM q z x1 x2 x3 x4), fun q z x1 x2 x3 x4 => (hf _ _ (by omega)).trans (cm_o hM q z x1 x2 x3 x4), fun q x1 x2 => (cm_wh hM q x1 x2).fi (frI.rf (F := F)) fI (by omega), fun q x1 x2 => (cm_pt hM q x1 x2).fi (frI.rf (F := F)) fI (by omega)⟩
  by_cases zq : q = g ∧ z = 2
  · rw [zq.1, zq.2, wdC_2]; exact h2
  by_cases zq3 : q = g ∧ z = 3
  · rw [zq3.1, zq3.2, wdC_3]; exact h3
  · rw [wdC_ne (by omega), hf _ _ (by omega)]
    exact cm_g hM q z x1 x2 x3 x4
theorem sX_savingOf (hB : 0 ≤ B) (hR2 : R B 2 = a) (hR5 : R B 5 = f) (hR6 : R B 6 = y) (hR7 : R B 7 = s) (hRf : 0 < C 0 4 0 → R f 0 = a) (hfn : fnT f L R) (hT : ctT a L R) (hM : ctM a C F E) (hW : ctW C) (haf : a + 105 ≤ f) (hfy : f + 4 ≤ y) (hys : y + 17 ≤ s) (hwy : wyT s L R) (hyl : L y = 8) (hyr : ∀ o : Int, 0 ≤ o → o < 8 → R y o = y + 1 + 2 * o) (hw : ∀ o : Int, 0 ≤ o → o < C 0 4 0 → wyM (y + 1 + 2 * o) (bO C o) (gO C o) F E) (g0 : 0 ≤ g) (g1 : g < C 0 1 0) (w0 : 1 ≤ w) (w1 : w ≤ 99) (h0 : 1 ≤ h) (h1 : h ≤ 99)
    (hQ : ∀ F' E' : Int → Int → Int, (∀ b j : Int, (b < f ∨ f + 4 ≤ b) → (b < s ∨ s + 2 ≤ b) → F' b j = F b j ∧ E' b j = E b j) → Q (svP C g w h) (L, R, F', E', N)) : T_X8_savingOf [B, g, w, h] (L, R, F, E, N) Q := by
  have pa := ct_p hT
  have b0 := cw_0 hW
  have b1 := cw_1 hW
  have b3 := cw_3 hW
  have b4 := cw_4 hW
  have c2 := cw_g2 hW g g0 g1
  have c3 := cw_g3 hW g g0 g1
  have e2 := cm_g hM g 2 g0 g1 (by omega) (by omega)
  have e3 := cm_g hM g 3 g0 g1 (by omega) (by omega)
  have e6 := cm_g hM g 6 g0 g1 (by omega) (by omega)
  have ggr := ct_gr hT g g0 (by omega)
  have ggl := ct_gl hT g g0 (by omega)
  have es : svP C g w h = apC C - apC (wdC C g w h) := rfl
  have hW' := wdC_W hW (g := g) w0 w1 h0 h1
  have b4' := cw_4 hW'
  have n4 : wdC C g w h 0 4 0 = C 0 4 0 := wdC_ne (by omega)
  have n0 : wdC C g w h 0 0 0 = C 0 0 0 := wdC_ne (by omega)
  have n3 : wdC C g w h 0 3 0 = C 0 3 0 := wdC_ne (by omega)
  have ab := apN_b hW (C 0 4 0).toNat (by omega)
  have eb : 0 ≤ apC C ∧ apC C ≤ 80000 := by unfold apC; omega
  have big : (C 2 g 6 = 0 ∧ (C 2 g 2 < w ∨ C 2 g 3 < h)) → B_X8_savingOf_45 Q [B, g, w, h, a + 3 + g, C 2 g 2, C 2 g 3, 0, 0] [] (L, R, F, E, N) 0 0 := by
    intro _
    simp (disch := omega) only [ub_X8_savingOf_45, zLg, zRf, zFq, zEl, zNz, zUf, zUe, zUr, zCe, zSn, gd_0, gd_1, gd_2, gd_3, gd_4, gd_5, gd_6, gd_7, gd_8, gd_9, gd_10, gd_11, gd_12, gd_13, gd_14, gd_15, gd_16, gd_17, gd_18, gd_19, se_0, se_1, se_2, se_3, se_4, se_5, se_6, se_7, se_8, se_9, se_10, se_11, se_12, se_13, se_14, se_15, se_16, se_17, se_18, se_19, e_const, e_load, e_store, e_iinc, e_dup, e_dup2, e_pop, e_iadd, e_isub, e_imul, e_ladd, e_lsub, e_lmul, e_iaddw, e_isubw, e_imulw, e_laddw, e_lsubw, e_lmulw, e_iand, e_ior, e_ishl, e_ishr, e_iushr, e_lcmp, e_imax, e_imin, e_idiv, e_irem, e_ldiv, e_lrem, e_i2l, e_i2b, e_l2i, e_i2c, e_getF, e_getR, e_putF, e_putR, e_putz, e_ald, e_aldR, e_ast, e_astb, e_astz, e_asta, e_len, e_acopy, e_new, e_newa, e_mna, e_this, e_room, e_call0, e_callv0, e_call1, e_callv1, e_inv1, e_invv1, e_call2, e_callv2, e_inv2, e_invv2, e_call3, e_callv3, e_inv3, e_invv3, e_call4, e_callv4, e_inv4, e_invv4, e_call5, e_callv5, e_inv5, e_invv5, e_call6, e_callv6, e_inv6, e_invv6, e_call7, e_callv7, e_inv7, e_invv7, e_call8, e_callv8, e_inv8, e_invv8, e_ret, e_retz, e_retc, e_retb, e_retv, e_skip, e_sco, e_tlen, e_tat, e_iz_eq0, e_iz_eq1, e_iz_ne0, e_iz_ne1, add0, sc_d, sc_t, inI_e, inL_e, up_eq, true_or, or_true, or_false, false_or, and_true, true_and, not_false_eq_true, Int.reduceAdd, Int.reduceSub, Int.reduceMul, Int.reduceNeg]
    refine sX_allPay hB hR2 hR6 hT hM hW (by omega) hyl hyr hw ?_
    simp (disch := omega) only [ue_X8_enlarge, t_X8_enlarge, zLg, zRf, zFq, zEl, zNz, zUf, zUe, zUr, zCe, zSn, gd_0, gd_1, gd_2, gd_3, gd_4, gd_5, gd_6, gd_7, gd_8, gd_9, gd_10, gd_11, gd_12, gd_13, gd_14, gd_15, gd_16, gd_17, gd_18, gd_19, se_0, se_1, se_2, se_3, se_4, se_5, se_6, se_7, se_8, se_9, se_10, se_11, se_12, se_13, se_14, se_15, se_16, se_17, se_18, se_19, e_const, e_load, e_store, e_iinc, e_dup, e_dup2, e_pop, e_iadd, e_isub, e_imul, e_ladd, e_lsub, e_lmul, e_iaddw, e_isubw, e_imulw, e_laddw, e_lsubw, e_lmulw, e_iand, e_ior, e_ishl, e_ishr, e_iushr, e_lcmp, e_imax, e_imin, e_idiv, e_irem, e_ldiv, e_lrem, e_i2l, e_i2b, e_l2i, e_i2c, e_getF, e_getR, e_putF, e_putR, e_putz, e_ald, e_aldR, e_ast, e_astb, e_astz, e_asta, e_len, e_acopy, e_new, e_newa, e_mna, e_this, e_room, e_call0, e_callv0, e_call1, e_callv1, e_inv1, e_invv1, e_call2, e_callv2, e_inv2, e_invv2, e_call3, e_callv3, e_inv3, e_invv3, e_call4, e_callv4, e_inv4, e_invv4, e_call5, e_callv5, e_inv5, e_invv5, e_call6, e_callv6, e_inv6, e_invv6, e_call7, e_callv7, e_inv7, e_invv7, e_call8, e_callv8, e_inv8, e_invv8, e_ret, e_retz, e_retc, e_retb, e_retv, e_skip, e_sco, e_tlen, e_tat, e_iz_eq0, e_iz_eq1, e_iz_ne0, e_iz_ne1, add0, sc_d, sc_t, inI_e, inL_e, up_eq, true_or, or_true, or_false, false_or, and_true, true_and, not_false_eq_true, Int.reduceAdd, Int.reduceSub, Int.reduceMul, Int.reduceNeg, up_ne, ggl, e2, e3]
    have hM1 : ctM a (wdC C g w h) F (up (up E (a + 3 + g) 2 (max (C 2 g 2) w)) (a + 3 + g) 3 (max (C 2 g 3) h)) := ctM_wd hM hW g0 g1 (by rw [up_ne (by omega), up_eq]) up_eq (fun b j q => by rw [up_ne (by omega), up_ne (by omega)])
    have hE1 : ∀ b j : Int, (b ≠ a + 3 + g ∨ (j ≠ 2 ∧ j ≠ 3)) → up (up E (a + 3 + g) 2 (max (C 2 g 2) w)) (a + 3 + g) 3 (max (C 2 g 3) h) b j = E b j := fun b j q => by rw [up_ne (by omega), up_ne (by omega)]
    generalize up (up E (a + 3 + g) 2 (max (C 2 g 2) w)) (a + 3 + g) 3 (max (C 2 g 3) h) = E1 at *
    unfold L_X8_savingOf_61
    refine lpw (fun n lo st h9 c s9 => ∃ (i : Int) (F2 E2 : Int → Int → Int), lo = [B, g, w, h, a + 3 + g, C 2 g 2, C 2 g 3, apC C - apN (wdC C g w h) i.toNat, i] ∧ st = [] ∧ h9 = (L, R, F2, E2, N) ∧ 0 ≤ i ∧ i ≤ C 0 4 0 ∧ (n : Int) = C 0 4 0 - i ∧ (∀ b j : Int, (b < f ∨ f + 4 ≤ b) → (b < s ∨ s + 2 ≤ b) → F2 b j = F b j ∧ E2 b j = E1 b j)) ?_ (n := (C 0 4 0).toNat) ⟨0, F, E1, by show _ = [B, g, w, h, a + 3 + g, C 2 g 2, C 2 g 3, apC C - 0, 0]; rw [Int.sub_zero], rfl, rfl, by omega, by omega, by omega, fun _ _ _ _ => ⟨rfl, rfl⟩⟩
    rintro n k hk lo st h9 c9 s9 ⟨i, F2, E2, rfl, rfl, rfl, hi, hi2, hn1, hf2⟩
    have hM2 : ctM a (wdC C g w h) F2 E2 := hM1.fi hW' (lo := f) (hi := s + 2) (fun b j q => (hf2 b j (by omega) (by omega)).1) (fun b j q => (hf2 b j (by omega) (by omega)).2) (by omega)
    have ai := apN_b hW' i.toNat (by omega)
    by_cases hlt : i < C 0 4 0
    · have asn := apN_s (C := wdC C g w h) hi
      have w0' := cw_o0 hW i hi hlt
      have w1' := cw_o1 hW i hi hlt
      have w2' := cw_o2 hW i hi hlt
      have w3' := cw_o3 hW i hi hlt
      have w4' := cw_o4 hW i hi hlt
      have n5 : ∀ z, wdC C g w h 5 i z = C 5 i z := fun z => wdC_ne (by omega)
      have oo : ∀ z : Int, 0 ≤ z → z < 6 → E2 (a + 31 + i) z = C 5 i z := fun z u v => (cm_o hM2 i z hi (by omega) u v).trans (n5 z)
      have orr := ct_or hT i hi (by omega)
      have oll := ct_ol hT i hi (by omega)
      have m4 := (cm_4 hM2).trans n4
      have b01 := (bO_01 (wdC C g w h) i).1
      have bb2 : bO (wdC C g w h) i 0 = 1 → 0 ≤ bO (wdC C g w h) i 2 ∧ bO (wdC C g w h) i 2 ≤ 9450 := fun q => bO_2 hW' hi (by omega) q
      have ebO : bst (wdC C g w h) (C 5 i 0) (C 5 i 1) (C 5 i 2) (C 5 i 3) (C 5 i 4) = bO (wdC C g w h) i := by unfold bO; rw [n5, n5, n5, n5, n5]
      generalize apN (wdC C g w h) i.toNat = av at *
      repeat' first
        | exact absurd hc (by decide)
        | simp (disch := omega) only [zLg, zRf, zFq, zEl, zNz, zUf, zUe, zUr, zCe, zSn, gd_0, gd_1, gd_2, gd_3, gd_4, gd_5, gd_6, gd_7, gd_8, gd_9, gd_10, gd_11, gd_12, gd_13, gd_14, gd_15, gd_16, gd_17, gd_18, gd_19, se_0, se_1, se_2, se_3, se_4, se_5, se_6, se_7, se_8, se_9, se_10, se_11, se_12, se_13, se_14, se_15, se_16, se_17, se_18, se_19, e_const, e_load, e_store, e_iinc, e_dup, e_dup2, e_pop, e_iadd, e_isub, e_imul, e_ladd, e_lsub, e_lmul, e_iaddw, e_isubw, e_imulw, e_laddw, e_lsubw, e_lmulw, e_iand, e_ior, e_ishl, e_ishr, e_iushr, e_lcmp, e_imax, e_imin, e_idiv, e_irem, e_ldiv, e_lrem, e_i2l, e_i2b, e_l2i, e_i2c, e_getF, e_getR, e_putF, e_putR, e_putz, e_ald, e_aldR, e_ast, e_astb, e_astz, e_asta, e_len, e_acopy, e_new, e_newa, e_mna, e_this, e_room, e_call0, e_callv0, e_call1, e_callv1, e_inv1, e_invv1, e_call2, e_callv2, e_inv2, e_invv2, e_call3, e_callv3, e_inv3, e_invv3, e_call4, e_callv4, e_inv4, e_invv4, e_call5, e_callv5, e_inv5, e_invv5, e_call6, e_callv6, e_inv6, e_invv6, e_call7, e_callv7, e_inv7, e_invv7, e_call8, e_callv8, e_inv8, e_invv8, e_ret, e_retz, e_retc, e_retb, e_retv, e_skip, e_sco, e_tlen, e_tat, e_iz_eq0, e_iz_eq1, e_iz_ne0, e_iz_ne1, add0, sc_d, sc_t, inI_e, inL_e, up_eq, true_or, or_true, or_false, false_or, and_true, true_and, not_false_eq_true, Int.reduceAdd, Int.reduceSub, Int.reduceMul, Int.reduceNeg, hR2, hR5, hR7, m4, ct_9 hT, ct_l30 hT, orr]
        | with_reducible first | refine izl_lt (fun hc => ?_) (fun hc => ?_) | refine izl_ge (fun hc => ?_) (fun hc => ?_) | refine izl_eq (fun hc => ?_) (fun hc => ?_) | refine ic_ge (fun hc => ?_) (fun hc => ?_) | refine ic_lt (fun hc => ?_) (fun hc => ?_) | refine ic_ne (fun hc => ?_) (fun hc => ?_) | refine ic_eq (fun hc => ?_) (fun hc => ?_) | refine ic_le (fun hc => ?_) (fun hc => ?_) | refine ic_gt (fun hc => ?_) (fun hc => ?_) | refine iz_eq (fun hc => ?_) (fun hc => ?_) | refine iz_ne (fun hc => ?_) (fun hc => ?_) | refine iz_lt (fun hc => ?_) (fun hc => ?_) | refine iz_ge (fun hc => ?_) (fun hc => ?_) | refine iz_gt (fun hc => ?_) (fun hc => ?_) | refine iz_le (fun hc => ?_) (fun hc => ?_) | refine iz_nu (fun hc => ?_) (fun hc => ?_) | refine iz_nn (fun hc => ?_) (fun hc => ?_)
        | omega
        | (exfalso; omega)
      refine sX_seek (C := wdC C g w h) hfn hT hM2 hW' haf hwy (by omega) (by omega) oll (Or.inl (by omega)) (oo 0 (by omega) (by omega)) (oo 1 (by omega) (by omega)) (oo 2 (by omega) (by omega)) (oo 3 (by omega) (by omega)) (oo 4 (by omega) (by omega)) w0'.1 (by omega) w1'.1 (by omega) w3'.1 (by omega) w4' w2' fun F3 E3 q1 q2 q3 q4 => ?_
      rw [up_self (hRf (by omega)), ebO] at *
      obtain ⟨z1, z2⟩ := q4
      have hf3 : ∀ b j : Int, (b < f ∨ f + 4 ≤ b) → (b < s ∨ s + 2 ≤ b) → F3 b j = F b j ∧ E3 b j = E1 b j := fun b j u v => by
        by_cases zb : f + 4 ≤ b ∧ b < s
        · have := q3 b j zb.1 zb.2
          rw [this.1, this.2]
          exact hf2 b j u v
        · rw [q1 b j (by omega), q2 b j (by omega)]
          exact hf2 b j u v
      by_cases hfo : bO (wdC C g w h) i 0 = 1
      · have z4 := (z2 hfo).2.1
        have bb := bb2 hfo
        rw [if_pos hfo] at asn
        repeat' first
          | exact absurd hc (by decide)
          | simp (disch := omega) only [ub_X8_savingOf_123, zLg, zRf, zFq, zEl, zNz, zUf, zUe, zUr, zCe, zSn, gd_0, gd_1, gd_2, gd_3, gd_4, gd_5, gd_6, gd_7, gd_8, gd_9, gd_10, gd_11, gd_12, gd_13, gd_14, gd_15, gd_16, gd_17, gd_18, gd_19, se_0, se_1, se_2, se_3, se_4, se_5, se_6, se_7, se_8, se_9, se_10, se_11, se_12, se_13, se_14, se_15, se_16, se_17, se_18, se_19, e_const, e_load, e_store, e_iinc, e_dup, e_dup2, e_pop, e_iadd, e_isub, e_imul, e_ladd, e_lsub, e_lmul, e_iaddw, e_isubw, e_imulw, e_laddw, e_lsubw, e_lmulw, e_iand, e_ior, e_ishl, e_ishr, e_iushr, e_lcmp, e_imax, e_imin, e_idiv, e_irem, e_ldiv, e_lrem, e_i2l, e_i2b, e_l2i, e_i2c, e_getF, e_getR, e_putF, e_putR, e_putz, e_ald, e_aldR, e_ast, e_astb, e_astz, e_asta, e_len, e_acopy, e_new, e_newa, e_mna, e_this, e_room, e_call0, e_callv0, e_call1, e_callv1, e_inv1, e_invv1, e_call2, e_callv2, e_inv2, e_invv2, e_call3, e_callv3, e_inv3, e_invv3, e_call4, e_callv4, e_inv4, e_invv4, e_call5, e_callv5, e_inv5, e_invv5, e_call6, e_callv6, e_inv6, e_invv6, e_call7, e_callv7, e_inv7, e_invv7, e_call8, e_callv8, e_inv8, e_invv8, e_ret, e_retz, e_retc, e_retb, e_retv, e_skip, e_sco, e_tlen, e_tat, e_iz_eq0, e_iz_eq1, e_iz_ne0, e_iz_ne1, add0, sc_d, sc_t, inI_e, inL_e, up_eq, true_or, or_true, or_false, false_or, and_true, true_and, not_false_eq_true, Int.reduceAdd, Int.reduceSub, Int.reduceMul, Int.reduceNeg, hR7, z1, z4]
          | with_reducible first | refine izl_lt (fun hc => ?_) (fun hc => ?_) | refine izl_ge (fun hc => ?_) (fun hc => ?_) | refine izl_eq (fun hc => ?_) (fun hc => ?_) | refine ic_ge (fun hc => ?_) (fun hc => ?_) | refine ic_lt (fun hc => ?_) (fun hc => ?_) | refine ic_ne (fun hc => ?_) (fun hc => ?_) | refine ic_eq (fun hc => ?_) (fun hc => ?_) | refine ic_le (fun hc => ?_) (fun hc => ?_) | refine ic_gt (fun hc => ?_) (fun hc => ?_) | refine iz_eq (fun hc => ?_) (fun hc => ?_) | refine iz_ne (fun hc => ?_) (fun hc => ?_) | refine iz_lt (fun hc => ?_) (fun hc => ?_) | refine iz_ge (fun hc => ?_) (fun hc => ?_) | refine iz_gt (fun hc => ?_) (fun hc => ?_) | refine iz_le (fun hc => ?_) (fun hc => ?_) | refine iz_nu (fun hc => ?_) (fun hc => ?_) | refine iz_nn (fun hc => ?_) (fun hc => ?_)
          | omega
          | (exfalso; omega)
        exact hk (n - 1) _ _ _ _ _ (by omega) ⟨i + 1, F3, E3, by rw [asn]; congr 8; omega, rfl, rfl, by omega, by omega, by omega, hf3⟩
      · rw [if_neg hfo] at asn
        repeat' first
          | exact absurd hc (by decide)
          | simp (disch := omega) only [ub_X8_savingOf_123, zLg, zRf, zFq, zEl, zNz, zUf, zUe, zUr, zCe, zSn, gd_0, gd_1, gd_2, gd_3, gd_4, gd_5, gd_6, gd_7, gd_8, gd_9, gd_10, gd_11, gd_12, gd_13, gd_14, gd_15, gd_16, gd_17, gd_18, gd_19, se_0, se_1, se_2, se_3, se_4, se_5, se_6, se_7, se_8, se_9, se_10, se_11, se_12, se_13, se_14, se_15, se_16, se_17, se_18, se_19, e_const, e_load, e_store, e_iinc, e_dup, e_dup2, e_pop, e_iadd, e_isub, e_imul, e_ladd, e_lsub, e_lmul, e_iaddw, e_isubw, e_imulw, e_laddw, e_lsubw, e_lmulw, e_iand, e_ior, e_ishl, e_ishr, e_iushr, e_lcmp, e_imax, e_imin, e_idiv, e_irem, e_ldiv, e_lrem, e_i2l, e_i2b, e_l2i, e_i2c, e_getF, e_getR, e_putF, e_putR, e_putz, e_ald, e_aldR, e_ast, e_astb, e_astz, e_asta, e_len, e_acopy, e_new, e_newa, e_mna, e_this, e_room, e_call0, e_callv0, e_call1, e_callv1, e_inv1, e_invv1, e_call2, e_callv2, e_inv2, e_invv2, e_call3, e_callv3, e_inv3, e_invv3, e_call4, e_callv4, e_inv4, e_invv4, e_call5, e_callv5, e_inv5, e_invv5, e_call6, e_callv6, e_inv6, e_invv6, e_call7, e_callv7, e_inv7, e_invv7, e_call8, e_callv8, e_inv8, e_invv8, e_ret, e_retz, e_retc, e_retb, e_retv, e_skip, e_sco, e_tlen, e_tat, e_iz_eq0, e_iz_eq1, e_iz_ne0, e_iz_ne1, add0, sc_d, sc_t, inI_e, inL_e, up_eq, true_or, or_true, or_false, false_or, and_true, true_and, not_false_eq_true, Int.reduceAdd, Int.reduceSub, Int.reduceMul, Int.reduceNeg, hR7, z1]
          | with_reducible first | refine izl_lt (fun hc => ?_) (fun hc => ?_) | refine izl_ge (fun hc => ?_) (fun hc => ?_) | refine izl_eq (fun hc => ?_) (fun hc => ?_) | refine ic_ge (fun hc => ?_) (fun hc => ?_) | refine ic_lt (fun hc => ?_) (fun hc => ?_) | refine ic_ne (fun hc => ?_) (fun hc => ?_) | refine ic_eq (fun hc => ?_) (fun hc => ?_) | refine ic_le (fun hc => ?_) (fun hc => ?_) | refine ic_gt (fun hc => ?_) (fun hc => ?_) | refine iz_eq (fun hc => ?_) (fun hc => ?_) | refine iz_ne (fun hc => ?_) (fun hc => ?_) | refine iz_lt (fun hc => ?_) (fun hc => ?_) | refine iz_ge (fun hc => ?_) (fun hc => ?_) | refine iz_gt (fun hc => ?_) (fun hc => ?_) | refine iz_le (fun hc => ?_) (fun hc => ?_) | refine iz_nu (fun hc => ?_) (fun hc => ?_) | refine iz_nn (fun hc => ?_) (fun hc => ?_)
          | omega
          | (exfalso; omega)
        exact hk (n - 1) _ _ _ _ _ (by omega) ⟨i + 1, F3, E3, by rw [asn]; congr 8; omega, rfl, rfl, by omega, by omega, by omega, hf3⟩
    · have hie : i = C 0 4 0 := by omega
      have eap : apC C - apN (wdC C g w h) i.toNat = svP C g w h := by rw [es]; unfold apC; rw [n4, hie]
      rw [eap]
      have m4 := (cm_4 hM2).trans n4
      repeat' first
        | exact absurd hc (by decide)
        | simp (disch := omega) only [zLg, zRf, zFq, zEl, zNz, zUf, zUe, zUr, zCe, zSn, gd_0, gd_1, gd_2, gd_3, gd_4, gd_5, gd_6, gd_7, gd_8, gd_9, gd_10, gd_11, gd_12, gd_13, gd_14, gd_15, gd_16, gd_17, gd_18, gd_19, se_0, se_1, se_2, se_3, se_4, se_5, se_6, se_7, se_8, se_9, se_10, se_11, se_12, se_13, se_14, se_15, se_16, se_17, se_18, se_19, e_const, e_load, e_store, e_iinc, e_dup, e_dup2, e_pop, e_iadd, e_isub, e_imul, e_ladd, e_lsub, e_lmul, e_iaddw, e_isubw, e_imulw, e_laddw, e_lsubw, e_lmulw, e_iand, e_ior, e_ishl, e_ishr, e_iushr, e_lcmp, e_imax, e_imin, e_idiv, e_irem, e_ldiv, e_lrem, e_i2l, e_i2b, e_l2i, e_i2c, e_getF, e_getR, e_putF, e_putR, e_putz, e_ald, e_aldR, e_ast, e_astb, e_astz, e_asta, e_len, e_acopy, e_new, e_newa, e_mna, e_this, e_room, e_call0, e_callv0, e_call1, e_callv1, e_inv1, e_invv1, e_call2, e_callv2, e_inv2, e_invv2, e_call3, e_callv3, e_inv3, e_invv3, e_call4, e_callv4, e_inv4, e_invv4, e_call5, e_callv5, e_inv5, e_invv5, e_call6, e_callv6, e_inv6, e_invv6, e_call7, e_callv7, e_inv7, e_invv7, e_call8, e_callv8, e_inv8, e_invv8, e_ret, e_retz, e_retc, e_retb, e_retv, e_skip, e_sco, e_tlen, e_tat, e_iz_eq0, e_iz_eq1, e_iz_ne0, e_iz_ne1, add0, sc_d, sc_t, inI_e, inL_e, up_eq, true_or, or_true, or_false, false_or, and_true, true_and, not_false_eq_true, Int.reduceAdd, Int.reduceSub, Int.reduceMul, Int.reduceNeg, hR2, m4, ggl]
        | with_reducible first | refine izl_lt (fun hc => ?_) (fun hc => ?_) | refine izl_ge (fun hc => ?_) (fun hc => ?_) | refine izl_eq (fun hc => ?_) (fun hc => ?_) | refine ic_ge (fun hc => ?_) (fun hc => ?_) | refine ic_lt (fun hc => ?_) (fun hc => ?_) | refine ic_ne (fun hc => ?_) (fun hc => ?_) | refine ic_eq (fun hc => ?_) (fun hc => ?_) | refine ic_le (fun hc => ?_) (fun hc => ?_) | refine ic_gt (fun hc => ?_) (fun hc => ?_) | refine iz_eq (fun hc => ?_) (fun hc => ?_) | refine iz_ne (fun hc => ?_) (fun hc => ?_) | refine iz_lt (fun hc => ?_) (fun hc => ?_) | refine iz_ge (fun hc => ?_) (fun hc => ?_) | refine iz_gt (fun hc => ?_) (fun hc => ?_) | refine iz_le (fun hc => ?_) (fun hc => ?_) | refine iz_nu (fun hc => ?_) (fun hc => ?_) | refine iz_nn (fun hc => ?_) (fun hc => ?_)
        | omega
        | (exfalso; omega)
      refine hQ F2 _ (fun b j u v => ⟨(hf2 b j u v).1, ?_⟩)
      by_cases z3 : b = a + 3 + g ∧ j = 3
      · rw [z3.1, z3.2, up_eq]; exact e3.symm
      · by_cases z2 : b = a + 3 + g ∧ j = 2
        · rw [z2.1, z2.2, up_ne (by omega), up_eq]; exact e2.symm
        · rw [up_ne (by omega), up_ne (by omega), (hf2 b j u v).2]
          exact hE1 b j (by omega)
  have small : svP C g w h = 0 → Q 0 (L, R, F, E, N) := fun q => by
    have := hQ F E (fun _ _ _ _ => ⟨rfl, rfl⟩)
    rw [q] at this
    exact this
  have c6 := cw_g6 hW g g0 g1
  by_cases hcl : C 2 g 6 = 0
  · by_cases hbig : C 2 g 2 < w ∨ C 2 g 3 < h
    · have bg := big ⟨hcl, hbig⟩
      repeat' first
        | exact absurd hc (by decide)
        | simp (disch := omega) only [t_X8_savingOf, ue_X8_savingOf, zLg, zRf, zFq, zEl, zNz, zUf, zUe, zUr, zCe, zSn, gd_0, gd_1, gd_2, gd_3, gd_4, gd_5, gd_6, gd_7, gd_8, gd_9, gd_10, gd_11, gd_12, gd_13, gd_14, gd_15, gd_16, gd_17, gd_18, gd_19, se_0, se_1, se_2, se_3, se_4, se_5, se_6, se_7, se_8, se_9, se_10, se_11, se_12, se_13, se_14, se_15, se_16, se_17, se_18, se_19, e_const, e_load, e_store, e_iinc, e_dup, e_dup2, e_pop, e_iadd, e_isub, e_imul, e_ladd, e_lsub, e_lmul, e_iaddw, e_isubw, e_imulw, e_laddw, e_lsubw, e_lmulw, e_iand, e_ior, e_ishl, e_ishr, e_iushr, e_lcmp, e_imax, e_imin, e_idiv, e_irem, e_ldiv, e_lrem, e_i2l, e_i2b, e_l2i, e_i2c, e_getF, e_getR, e_putF, e_putR, e_putz, e_ald, e_aldR, e_ast, e_astb, e_astz, e_asta, e_len, e_acopy, e_new, e_newa, e_mna, e_this, e_room, e_call0, e_callv0, e_call1, e_callv1, e_inv1, e_invv1, e_call2, e_callv2, e_inv2, e_invv2, e_call3, e_callv3, e_inv3, e_invv3, e_call4, e_callv4, e_inv4, e_invv4, e_call5, e_callv5, e_inv5, e_invv5, e_call6, e_callv6, e_inv6, e_invv6, e_call7, e_callv7, e_inv7, e_invv7, e_call8, e_callv8, e_inv8, e_invv8, e_ret, e_retz, e_retc, e_retb, e_retv, e_skip, e_sco, e_tlen, e_tat, e_iz_eq0, e_iz_eq1, e_iz_ne0, e_iz_ne1, add0, sc_d, sc_t, inI_e, inL_e, up_eq, true_or, or_true, or_false, false_or, and_true, true_and, not_false_eq_true, Int.reduceAdd, Int.reduceSub, Int.reduceMul, Int.reduceNeg, hR2, ct_6 hT, ct_l2 hT, ggr, ggl, e2, e3, e6]
        | with_reducible first | refine izl_lt (fun hc => ?_) (fun hc => ?_) | refine izl_ge (fun hc => ?_) (fun hc => ?_) | refine izl_eq (fun hc => ?_) (fun hc => ?_) | refine ic_ge (fun hc => ?_) (fun hc => ?_) | refine ic_lt (fun hc => ?_) (fun hc => ?_) | refine ic_ne (fun hc => ?_) (fun hc => ?_) | refine ic_eq (fun hc => ?_) (fun hc => ?_) | refine ic_le (fun hc => ?_) (fun hc => ?_) | refine ic_gt (fun hc => ?_) (fun hc => ?_) | refine iz_eq (fun hc => ?_) (fun hc => ?_) | refine iz_ne (fun hc => ?_) (fun hc => ?_) | refine iz_lt (fun hc => ?_) (fun hc => ?_) | refine iz_ge (fun hc => ?_) (fun hc => ?_) | refine iz_gt (fun hc => ?_) (fun hc => ?_) | refine iz_le (fun hc => ?_) (fun hc => ?_) | refine iz_nu (fun hc => ?_) (fun hc => ?_) | refine iz_nn (fun hc => ?_) (fun hc => ?_)
        | omega
        | (exfalso; omega)
      all_goals exact bg
    · have sm := small (sv_small (by omega) (by omega))
      repeat' first
        | exact absurd hc (by decide)
        | simp (disch := omega) only [t_X8_savingOf, ue_X8_savingOf, ub_X8_savingOf_43, zLg, zRf, zFq, zEl, zNz, zUf, zUe, zUr, zCe, zSn, gd_0, gd_1, gd_2, gd_3, gd_4, gd_5, gd_6, gd_7, gd_8, gd_9, gd_10, gd_11, gd_12, gd_13, gd_14, gd_15, gd_16, gd_17, gd_18, gd_19, se_0, se_1, se_2, se_3, se_4, se_5, se_6, se_7, se_8, se_9, se_10, se_11, se_12, se_13, se_14, se_15, se_16, se_17, se_18, se_19, e_const, e_load, e_store, e_iinc, e_dup, e_dup2, e_pop, e_iadd, e_isub, e_imul, e_ladd, e_lsub, e_lmul, e_iaddw, e_isubw, e_imulw, e_laddw, e_lsubw, e_lmulw, e_iand, e_ior, e_ishl, e_ishr, e_iushr, e_lcmp, e_imax, e_imin, e_idiv, e_irem, e_ldiv, e_lrem, e_i2l, e_i2b, e_l2i, e_i2c, e_getF, e_getR, e_putF, e_putR, e_putz, e_ald, e_aldR, e_ast, e_astb, e_astz, e_asta, e_len, e_acopy, e_new, e_newa, e_mna, e_this, e_room, e_call0, e_callv0, e_call1, e_callv1, e_inv1, e_invv1, e_call2, e_callv2, e_inv2, e_invv2, e_call3, e_callv3, e_inv3, e_invv3, e_call4, e_callv4, e_inv4, e_invv4, e_call5, e_callv5, e_inv5, e_invv5, e_call6, e_callv6, e_inv6, e_invv6, e_call7, e_callv7, e_inv7, e_invv7, e_call8, e_callv8, e_inv8, e_invv8, e_ret, e_retz, e_retc, e_retb, e_retv, e_skip, e_sco, e_tlen, e_tat, e_iz_eq0, e_iz_eq1, e_iz_ne0, e_iz_ne1, add0, sc_d, sc_t, inI_e, inL_e, up_eq, true_or, or_true, or_false, false_or, and_true, true_and, not_false_eq_true, Int.reduceAdd, Int.reduceSub, Int.reduceMul, Int.reduceNeg, hR2, ct_6 hT, ct_l2 hT, ggr, ggl, e2, e3, e6]
        | with_reducible first | refine izl_lt (fun hc => ?_) (fun hc => ?_) | refine izl_ge (fun hc => ?_) (fun hc => ?_) | refine izl_eq (fun hc => ?_) (fun hc => ?_) | refine ic_ge (fun hc => ?_) (fun hc => ?_) | refine ic_lt (fun hc => ?_) (fun hc => ?_) | refine ic_ne (fun hc => ?_) (fun hc => ?_) | refine ic_eq (fun hc => ?_) (fun hc => ?_) | refine ic_le (fun hc => ?_) (fun hc => ?_) | refine ic_gt (fun hc => ?_) (fun hc => ?_) | refine iz_eq (fun hc => ?_) (fun hc => ?_) | refine iz_ne (fun hc => ?_) (fun hc => ?_) | refine iz_lt (fun hc => ?_) (fun hc => ?_) | refine iz_ge (fun hc => ?_) (fun hc => ?_) | refine iz_gt (fun hc => ?_) (fun hc => ?_) | refine iz_le (fun hc => ?_) (fun hc => ?_) | refine iz_nu (fun hc => ?_) (fun hc => ?_) | refine iz_nn (fun hc => ?_) (fun hc => ?_)
        | omega
        | (exfalso; omega)
      all_goals exact sm
  · have sm := small (sv_closed hcl)
    repeat' first
      | exact absurd hc (by decide)
      | simp (disch := omega) only [t_X8_savingOf, ue_X8_savingOf, ub_X8_savingOf_43, zLg, zRf, zFq, zEl, zNz, zUf, zUe, zUr, zCe, zSn, gd_0, gd_1, gd_2, gd_3, gd_4, gd_5, gd_6, gd_7, gd_8, gd_9, gd_10, gd_11, gd_12, gd_13, gd_14, gd_15, gd_16, gd_17, gd_18, gd_19, se_0, se_1, se_2, se_3, se_4, se_5, se_6, se_7, se_8, se_9, se_10, se_11, se_12, se_13, se_14, se_15, se_16, se_17, se_18, se_19, e_const, e_load, e_store, e_iinc, e_dup, e_dup2, e_pop, e_iadd, e_isub, e_imul, e_ladd, e_lsub, e_lmul, e_iaddw, e_isubw, e_imulw, e_laddw, e_lsubw, e_lmulw, e_iand, e_ior, e_ishl, e_ishr, e_iushr, e_lcmp, e_imax, e_imin, e_idiv, e_irem, e_ldiv, e_lrem, e_i2l, e_i2b, e_l2i, e_i2c, e_getF, e_getR, e_putF, e_putR, e_putz, e_ald, e_aldR, e_ast, e_astb, e_astz, e_asta, e_len, e_acopy, e_new, e_newa, e_mna, e_this, e_room, e_call0, e_callv0, e_call1, e_callv1, e_inv1, e_invv1, e_call2, e_callv2, e_inv2, e_invv2, e_call3, e_callv3, e_inv3, e_invv3, e_call4, e_callv4, e_inv4, e_invv4, e_call5, e_callv5, e_inv5, e_invv5, e_call6, e_callv6, e_inv6, e_invv6, e_call7, e_callv7, e_inv7, e_invv7, e_call8, e_callv8, e_inv8, e_invv8, e_ret, e_retz, e_retc, e_retb, e_retv, e_skip, e_sco, e_tlen, e_tat, e_iz_eq0, e_iz_eq1, e_iz_ne0, e_iz_ne1, add0, sc_d, sc_t, inI_e, inL_e, up_eq, true_or, or_true, or_false, false_or, and_true, true_and, not_false_eq_true, Int.reduceAdd, Int.reduceSub, Int.reduceMul, Int.reduceNeg, hR2, ct_6 hT, ct_l2 hT, ggr, ggl, e2, e3, e6]
      | with_reducible first | refine izl_lt (fun hc => ?_) (fun hc => ?_) | refine izl_ge (fun hc => ?_) (fun hc => ?_) | refine izl_eq (fun hc => ?_) (fun hc => ?_) | refine ic_ge (fun hc => ?_) (fun hc => ?_) | refine ic_lt (fun hc => ?_) (fun hc => ?_) | refine ic_ne (fun hc => ?_) (fun hc => ?_) | refine ic_eq (fun hc => ?_) (fun hc => ?_) | refine ic_le (fun hc => ?_) (fun hc => ?_) | refine ic_gt (fun hc => ?_) (fun hc => ?_) | refine iz_eq (fun hc => ?_) (fun hc => ?_) | refine iz_ne (fun hc => ?_) (fun hc => ?_) | refine iz_lt (fun hc => ?_) (fun hc => ?_) | refine iz_ge (fun hc => ?_) (fun hc => ?_) | refine iz_gt (fun hc => ?_) (fun hc => ?_) | refine iz_le (fun hc => ?_) (fun hc => ?_) | refine iz_nu (fun hc => ?_) (fun hc => ?_) | refine iz_nn (fun hc => ?_) (fun hc => ?_)
      | omega
      | (exfalso; omega)
    all_goals exact sm
end SAVEX

/-! ===== the class plans anew ===== -/
section PLAN
variable {L : Int → Int} {R F E : Int → Int → Int} {N : Nat} {Q : xQ} {B a y f d : Int} {C : Cy}
theorem sX_planAnew (hB : 0 ≤ B) (hBa : B < a) (hR2 : R B 2 = a) (hR5 : R B 5 = f) (hR6 : R B 6 = y) (hR9 : R B 9 = d) (hfn : fnT f L R) (hT : ctT a L R) (hM : ctM a C F E) (hW : ctW C) (haf : a + 105 ≤ f) (hfy : f + 4 ≤ y) (hyd : y + 17 ≤ d) (hyl : L y = 8) (hyr : ∀ o : Int, 0 ≤ o → o < 8 → R y o = y + 1 + 2 * o ∧ wyT (y + 1 + 2 * o) L R) (hd : dyT d L R)
    (hQ : ∀ R' F' E' : Int → Int → Int, (∀ b j : Int, (b ≠ f ∨ j ≠ 0) → (b ≠ d ∨ (j ≠ 8 ∧ j ≠ 9)) → R' b j = R b j) → (0 < C 0 4 0 → R' f 0 = a) → dyS d a y C L R' F' E' → dyX d C (dwD C) F' E' → F' B 11 = 0 → (∀ b j : Int, (b < f ∨ y + 17 ≤ b) → (b < d ∨ d + 17 ≤ b) → (b ≠ B ∨ j ≠ 11) → F' b j = F b j) → (∀ b j : Int, (b < f ∨ y + 17 ≤ b) → (b < d ∨ d + 17 ≤ b) → E' b j = E b j) → Q 0 (L, R', F', E', N)) : T_X8_planAnew [B] (L, R, F, E, N) Q := by
  have pa := ct_p hT
  have b0 := cw_0 hW
  have b4 := cw_4 hW
  simp (disch := omega) only [t_X8_planAnew, ue_X8_planAnew, zLg, zRf, zFq, zEl, zNz, zUf, zUe, zUr, zCe, zSn, gd_0, gd_1, gd_2, gd_3, gd_4, gd_5, gd_6, gd_7, gd_8, gd_9, gd_10, gd_11, gd_12, gd_13, gd_14, gd_15, gd_16, gd_17, gd_18, gd_19, se_0, se_1, se_2, se_3, se_4, se_5, se_6, se_7, se_8, se_9, se_10, se_11, se_12, se_13, se_14, se_15, se_16, se_17, se_18, se_19, e_const, e_load, e_store, e_iinc, e_dup, e_dup2, e_pop, e_iadd, e_isub, e_imul, e_ladd, e_lsub, e_lmul, e_iaddw, e_isubw, e_imulw, e_laddw, e_lsubw, e_lmulw, e_iand, e_ior, e_ishl, e_ishr, e_iushr, e_lcmp, e_imax, e_imin, e_idiv, e_irem, e_ldiv, e_lrem, e_i2l, e_i2b, e_l2i, e_i2c, e_getF, e_getR, e_putF, e_putR, e_putz, e_ald, e_aldR, e_ast, e_astb, e_astz, e_asta, e_len, e_acopy, e_new, e_newa, e_mna, e_this, e_room, e_call0, e_callv0, e_call1, e_callv1, e_inv1, e_invv1, e_call2, e_callv2, e_inv2, e_invv2, e_call3, e_callv3, e_inv3, e_invv3, e_call4, e_callv4, e_inv4, e_invv4, e_call5, e_callv5, e_inv5, e_invv5, e_call6, e_callv6, e_inv6, e_invv6, e_call7, e_callv7, e_inv7, e_invv7, e_call8, e_callv8, e_inv8, e_invv8, e_ret, e_retz, e_retc, e_retb, e_retv, e_skip, e_sco, e_tlen, e_tat, e_iz_eq0, e_iz_eq1, e_iz_ne0, e_iz_ne1, add0, sc_d, sc_t, inI_e, inL_e, up_eq, true_or, or_true, or_false, false_or, and_true, true_and, not_false_eq_true, Int.reduceAdd, Int.reduceSub, Int.reduceMul, Int.reduceNeg]
  unfold L_X8_planAnew_2
  refine lpw (fun n lo st h c s => ∃ (i : Int) (R1 F1 E1 : Int → Int → Int), lo = [B, i] ∧ st = [] ∧ h = (L, R1, F1, E1, N) ∧ 0 ≤ i ∧ i ≤ C 0 4 0 ∧ (n : Int) = C 0 4 0 - i ∧ (∀ b j : Int, (b ≠ f ∨ j ≠ 0) → R1 b j = R b j) ∧ (0 < i → R1 f 0 = a) ∧ frI f (y + 17) F F1 ∧ frI f (y + 17) E E1 ∧ (∀ o : Int, 0 ≤ o → o < i → wyM (y + 1 + 2 * o) (bO C o) (gO C o) F1 E1)) ?_ (n := (C 0 4 0).toNat) ⟨0, R, F, E, rfl, rfl, rfl, by omega, by omega, by omega, fun _ _ _ => rfl, fun q => by omega, frI.rf, frI.rf, fun o u v => by omega⟩
  rintro n k hk lo st h c9 s9 ⟨i, R1, F1, E1, rfl, rfl, rfl, hi, hi2, hn1, hr1, hrf, hf1, he1, hw1⟩
  have hT1 : ctT a L R1 := hT.fR (fun b j u v => hr1 b j (by omega))
  have hM1 : ctM a C F1 E1 := hM.fi hW hf1 he1 (by omega)
  have g2 : R1 B 2 = a := (hr1 _ _ (by omega)).trans hR2
  have g5 : R1 B 5 = f := (hr1 _ _ (by omega)).trans hR5
  have g6 : R1 B 6 = y := (hr1 _ _ (by omega)).trans hR6
  have g9 : R1 B 9 = d := (hr1 _ _ (by omega)).trans hR9
  by_cases hlt : i < C 0 4 0
  · have w0' := cw_o0 hW i hi hlt
    have w1' := cw_o1 hW i hi hlt
    have w2' := cw_o2 hW i hi hlt
    have w3' := cw_o3 hW i hi hlt
    have w4' := cw_o4 hW i hi hlt
    have orr := ct_or hT1 i hi (by omega)
    have oll := ct_ol hT1 i hi (by omega)
    have oo : ∀ z : Int, 0 ≤ z → z < 6 → E1 (a + 31 + i) z = C 5 i z := fun z u v => cm_o hM1 i z hi hlt u v
    obtain ⟨yr, yw⟩ := hyr i hi (by omega)
    have yr1 : R1 y i = y + 1 + 2 * i := (hr1 _ _ (by omega)).trans yr
    have yw1 : wyT (y + 1 + 2 * i) L R1 := yw.fR (hr1 _ _ (by omega))
    have hfn1 : fnT f L R1 := hfn.fR (fun j q => hr1 _ _ (by omega))
    repeat' first
      | exact absurd hc (by decide)
      | simp (disch := omega) only [zLg, zRf, zFq, zEl, zNz, zUf, zUe, zUr, zCe, zSn, gd_0, gd_1, gd_2, gd_3, gd_4, gd_5, gd_6, gd_7, gd_8, gd_9, gd_10, gd_11, gd_12, gd_13, gd_14, gd_15, gd_16, gd_17, gd_18, gd_19, se_0, se_1, se_2, se_3, se_4, se_5, se_6, se_7, se_8, se_9, se_10, se_11, se_12, se_13, se_14, se_15, se_16, se_17, se_18, se_19, e_const, e_load, e_store, e_iinc, e_dup, e_dup2, e_pop, e_iadd, e_isub, e_imul, e_ladd, e_lsub, e_lmul, e_iaddw, e_isubw, e_imulw, e_laddw, e_lsubw, e_lmulw, e_iand, e_ior, e_ishl, e_ishr, e_iushr, e_lcmp, e_imax, e_imin, e_idiv, e_irem, e_ldiv, e_lrem, e_i2l, e_i2b, e_l2i, e_i2c, e_getF, e_getR, e_putF, e_putR, e_putz, e_ald, e_aldR, e_ast, e_astb, e_astz, e_asta, e_len, e_acopy, e_new, e_newa, e_mna, e_this, e_room, e_call0, e_callv0, e_call1, e_callv1, e_inv1, e_invv1, e_call2, e_callv2, e_inv2, e_invv2, e_call3, e_callv3, e_inv3, e_invv3, e_call4, e_callv4, e_inv4, e_invv4, e_call5, e_callv5, e_inv5, e_invv5, e_call6, e_callv6, e_inv6, e_invv6, e_call7, e_callv7, e_inv7, e_invv7, e_call8, e_callv8, e_inv8, e_invv8, e_ret, e_retz, e_retc, e_retb, e_retv, e_skip, e_sco, e_tlen, e_tat, e_iz_eq0, e_iz_eq1, e_iz_ne0, e_iz_ne1, add0, sc_d, sc_t, inI_e, inL_e, up_eq, true_or, or_true, or_false, false_or, and_true, true_and, not_false_eq_true, Int.reduceAdd, Int.reduceSub, Int.reduceMul, Int.reduceNeg, g2, g5, g6, hyl, cm_4 hM1, ct_9 hT1, ct_l30 hT1, orr, yr1]
      | with_reducible first | refine izl_lt (fun hc => ?_) (fun hc => ?_) | refine izl_ge (fun hc => ?_) (fun hc => ?_) | refine izl_eq (fun hc => ?_) (fun hc => ?_) | refine ic_ge (fun hc => ?_) (fun hc => ?_) | refine ic_lt (fun hc => ?_) (fun hc => ?_) | refine ic_ne (fun hc => ?_) (fun hc => ?_) | refine ic_eq (fun hc => ?_) (fun hc => ?_) | refine ic_le (fun hc => ?_) (fun hc => ?_) | refine ic_gt (fun hc => ?_) (fun hc => ?_) | refine iz_eq (fun hc => ?_) (fun hc => ?_) | refine iz_ne (fun hc => ?_) (fun hc => ?_) | refine iz_lt (fun hc => ?_) (fun hc => ?_) | refine iz_ge (fun hc => ?_) (fun hc => ?_) | refine iz_gt (fun hc => ?_) (fun hc => ?_) | refine iz_le (fun hc => ?_) (fun hc => ?_) | refine iz_nu (fun hc => ?_) (fun hc => ?_) | refine iz_nn (fun hc => ?_) (fun hc => ?_)
      | omega
      | (exfalso; omega)
    refine sX_seek (C := C) hfn1 hT1 hM1 hW haf yw1 (by omega) (by omega) oll (Or.inl (by omega)) (oo 0 (by omega) (by omega)) (oo 1 (by omega) (by omega)) (oo 2 (by omega) (by omega)) (oo 3 (by omega) (by omega)) (oo 4 (by omega) (by omega)) w0'.1 w0'.2 w1'.1 w1'.2 w3'.1 w3'.2 w4' w2' fun F3 E3 q1 q2 q3 q4 => ?_
    refine hk (n - 1) _ _ _ _ _ (by omega) ⟨i + 1, _, F3, E3, rfl, rfl, rfl, by omega, by omega, by omega, fun b j z => (up_ne (by omega)).trans (hr1 b j z), fun _ => up_eq, hf1.tr (q1.mono (by omega) (by omega)), he1.tr (q2.mono (by omega) (by omega)), fun o u v => ?_⟩
    by_cases zo : o = i
    · rw [zo]; exact q4
    · obtain ⟨z1, z2⟩ := hw1 o u (by omega)
      refine ⟨((q3 _ _ (by omega) (by omega)).1).trans z1, fun q => ?_⟩
      obtain ⟨y1, y2, y3, y4, y5, y6⟩ := z2 q
      exact ⟨((q3 _ _ (by omega) (by omega)).1).trans y1, ((q3 _ _ (by omega) (by omega)).1).trans y2, ((q3 _ _ (by omega) (by omega)).1).trans y3, ((q3 _ _ (by omega) (by omega)).1).trans y4, ((q3 _ _ (by omega) (by omega)).1).trans y5, fun x xx => ((q3 _ _ (by omega) (by omega)).2).trans (y6 x xx)⟩
  · have hie : i = C 0 4 0 := by omega
    subst hie
    repeat' first
      | exact absurd hc (by decide)
      | simp (disch := omega) only [zLg, zRf, zFq, zEl, zNz, zUf, zUe, zUr, zCe, zSn, gd_0, gd_1, gd_2, gd_3, gd_4, gd_5, gd_6, gd_7, gd_8, gd_9, gd_10, gd_11, gd_12, gd_13, gd_14, gd_15, gd_16, gd_17, gd_18, gd_19, se_0, se_1, se_2, se_3, se_4, se_5, se_6, se_7, se_8, se_9, se_10, se_11, se_12, se_13, se_14, se_15, se_16, se_17, se_18, se_19, e_const, e_load, e_store, e_iinc, e_dup, e_dup2, e_pop, e_iadd, e_isub, e_imul, e_ladd, e_lsub, e_lmul, e_iaddw, e_isubw, e_imulw, e_laddw, e_lsubw, e_lmulw, e_iand, e_ior, e_ishl, e_ishr, e_iushr, e_lcmp, e_imax, e_imin, e_idiv, e_irem, e_ldiv, e_lrem, e_i2l, e_i2b, e_l2i, e_i2c, e_getF, e_getR, e_putF, e_putR, e_putz, e_ald, e_aldR, e_ast, e_astb, e_astz, e_asta, e_len, e_acopy, e_new, e_newa, e_mna, e_this, e_room, e_call0, e_callv0, e_call1, e_callv1, e_inv1, e_invv1, e_call2, e_callv2, e_inv2, e_invv2, e_call3, e_callv3, e_inv3, e_invv3, e_call4, e_callv4, e_inv4, e_invv4, e_call5, e_callv5, e_inv5, e_invv5, e_call6, e_callv6, e_inv6, e_invv6, e_call7, e_callv7, e_inv7, e_invv7, e_call8, e_callv8, e_inv8, e_invv8, e_ret, e_retz, e_retc, e_retb, e_retv, e_skip, e_sco, e_tlen, e_tat, e_iz_eq0, e_iz_eq1, e_iz_ne0, e_iz_ne1, add0, sc_d, sc_t, inI_e, inL_e, up_eq, true_or, or_true, or_false, false_or, and_true, true_and, not_false_eq_true, Int.reduceAdd, Int.reduceSub, Int.reduceMul, Int.reduceNeg, g2, g6, g9, cm_4 hM1]
      | with_reducible first | refine izl_lt (fun hc => ?_) (fun hc => ?_) | refine izl_ge (fun hc => ?_) (fun hc => ?_) | refine izl_eq (fun hc => ?_) (fun hc => ?_) | refine ic_ge (fun hc => ?_) (fun hc => ?_) | refine ic_lt (fun hc => ?_) (fun hc => ?_) | refine ic_ne (fun hc => ?_) (fun hc => ?_) | refine ic_eq (fun hc => ?_) (fun hc => ?_) | refine ic_le (fun hc => ?_) (fun hc => ?_) | refine ic_gt (fun hc => ?_) (fun hc => ?_) | refine iz_eq (fun hc => ?_) (fun hc => ?_) | refine iz_ne (fun hc => ?_) (fun hc => ?_) | refine iz_lt (fun hc => ?_) (fun hc => ?_) | refine iz_ge (fun hc => ?_) (fun hc => ?_) | refine iz_gt (fun hc => ?_) (fun hc => ?_) | refine iz_le (fun hc => ?_) (fun hc => ?_) | refine iz_nu (fun hc => ?_) (fun hc => ?_) | refine iz_nn (fun hc => ?_) (fun hc => ?_)
      | omega
      | (exfalso; omega)
    have r2 : ∀ b j : Int, (b ≠ d ∨ (j ≠ 8 ∧ j ≠ 9)) → up (up R1 d 8 a) d 9 y b j = R1 b j := fun b j z => by rw [up_ne (by omega), up_ne (by omega)]
    have hS : dyS d a y C L (up (up R1 d 8 a) d 9 y) F1 E1 := ⟨hd.fR (fun b j u v w => (r2 b j (by omega)).trans (hr1 b j (by omega))), by rw [up_ne (by omega), up_eq], up_eq, hT1.fR (fun b j u v => r2 b j (by omega)), hM1, hW, ⟨by omega, hyl, by omega, by omega⟩, fun o u v => ⟨((r2 _ _ (by omega)).trans (hr1 _ _ (by omega))).trans (hyr o u v).1, ((hyr o u v).2).fR ((r2 _ _ (by omega)).trans (hr1 _ _ (by omega)))⟩, hw1⟩
    refine sX_begin hS fun F2 E2 q1 q2 q3 => ?_
    try simp (disch := omega) only [zLg, zRf, zFq, zEl, zNz, zUf, zUe, zUr, zCe, zSn, gd_0, gd_1, gd_2, gd_3, gd_4, gd_5, gd_6, gd_7, gd_8, gd_9, gd_10, gd_11, gd_12, gd_13, gd_14, gd_15, gd_16, gd_17, gd_18, gd_19, se_0, se_1, se_2, se_3, se_4, se_5, se_6, se_7, se_8, se_9, se_10, se_11, se_12, se_13, se_14, se_15, se_16, se_17, se_18, se_19, e_const, e_load, e_store, e_iinc, e_dup, e_dup2, e_pop, e_iadd, e_isub, e_imul, e_ladd, e_lsub, e_lmul, e_iaddw, e_isubw, e_imulw, e_laddw, e_lsubw, e_lmulw, e_iand, e_ior, e_ishl, e_ishr, e_iushr, e_lcmp, e_imax, e_imin, e_idiv, e_irem, e_ldiv, e_lrem, e_i2l, e_i2b, e_l2i, e_i2c, e_getF, e_getR, e_putF, e_putR, e_putz, e_ald, e_aldR, e_ast, e_astb, e_astz, e_asta, e_len, e_acopy, e_new, e_newa, e_mna, e_this, e_room, e_call0, e_callv0, e_call1, e_callv1, e_inv1, e_invv1, e_call2, e_callv2, e_inv2, e_invv2, e_call3, e_callv3, e_inv3, e_invv3, e_call4, e_callv4, e_inv4, e_invv4, e_call5, e_callv5, e_inv5, e_invv5, e_call6, e_callv6, e_inv6, e_invv6, e_call7, e_callv7, e_inv7, e_invv7, e_call8, e_callv8, e_inv8, e_invv8, e_ret, e_retz, e_retc, e_retb, e_retv, e_skip, e_sco, e_tlen, e_tat, e_iz_eq0, e_iz_eq1, e_iz_ne0, e_iz_ne1, add0, sc_d, sc_t, inI_e, inL_e, up_eq, true_or, or_true, or_false, false_or, and_true, true_and, not_false_eq_true, Int.reduceAdd, Int.reduceSub, Int.reduceMul, Int.reduceNeg]
    have hS2 := hS.fi q2 q3
    have fB : frI B (B + 1) F2 (up F2 B 11 0) := frI.up (by omega) (by omega)
    refine hQ _ (up F2 B 11 0) E2 (fun b j u v => (r2 b j v).trans (hr1 b j u)) (fun q => (r2 _ _ (by omega)).trans (hrf (by omega))) ?_ ?_ up_eq (fun b j u v w => by rw [up_ne (by omega), q2 b j v]; exact hf1 b j u) (fun b j u v => by rw [q3 b j v]; exact he1 b j u)
    · exact ⟨ds_t hS2, ds_8 hS2, ds_9 hS2, ds_ct hS2, (ds_cm hS2).fi hW fB (frI.rf (F := E2)) (by omega), hW, ds_y hS2, ds_yr hS2, fun o u v => (ds_w hS2 o u v).fi fB (frI.rf (F := E2)) (by omega)⟩
    · obtain ⟨x0, x1, x2, x3, x4, x5⟩ := q1
      exact ⟨(up_ne (by omega)).trans x0, (up_ne (by omega)).trans x1, x2, x3, x4, x5⟩
end PLAN

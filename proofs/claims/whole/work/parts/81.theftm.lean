/-! ===== the reference's theft ===== -/
section THEFTM
variable {L : Int → Int} {R F E : Int → Int → Int} {N : Nat} {Q : xQ} {m c : Int} {C : Cy} {th : Int → Int}
theorem sM_theft73 (hT : mtT m L R) (hTc : mcT c L R) (hRc : R m 3 = c) (hM : mM m c C F E) (hW : ctW C) (hmc : m + 16 < c) {k r p hours cut : Int} (hk0 : 0 ≤ k) (hk1 : k < C 0 3 0) (hth : (cut = 0 ∧ th = wh C k) ∨ (cut = 1 ∧ 0 < pn C k ∧ th = pt C k)) (hw : thW th) (h3 : 1 ≤ th 3) (r0 : 0 ≤ r) (r1 : r < C 0 0 0) (p0 : 0 ≤ p) (p1 : p < 12) (hh0 : 0 ≤ hours) (hh : hours ≤ 99)
    (hQ : ∀ F' E' : Int → Int → Int, (∀ b j : Int, (b ≠ m ∨ j < 18 ∨ 24 ≤ j) → F' b j = F b j) → (∀ b j : Int, b ≠ m + 12 → b ≠ m + 13 → E' b j = E b j) → Q (btF (byG C th (r * 12 + p) hours) (C 0 1 0).toNat) (L, R, up (up F' m 1 0) m 2 (-1), E', N)) : B_X10_theft_73 Q [m, k, r, p, hours, cut, 0, 0, 0, 0, 0] [] (L, R, F, E, N) 0 0 := by
  have pm := mt_p hT
  have pc := mc_p hTc
  have b0 := cw_0 hW
  have b1 := cw_1 hW
  have l12 := mt_l12 hT
  have l13 := mt_l13 hT
  have g40 := mt_40 hT
  have g41 := mt_41 hT
  simp (disch := omega) only [ub_X10_theft_73, zLg, zRf, zFq, zEl, zNz, zUf, zUe, zUr, zCe, zSn, gd_0, gd_1, gd_2, gd_3, gd_4, gd_5, gd_6, gd_7, gd_8, gd_9, gd_10, gd_11, gd_12, gd_13, gd_14, gd_15, gd_16, gd_17, gd_18, gd_19, se_0, se_1, se_2, se_3, se_4, se_5, se_6, se_7, se_8, se_9, se_10, se_11, se_12, se_13, se_14, se_15, se_16, se_17, se_18, se_19, e_const, e_load, e_store, e_iinc, e_dup, e_dup2, e_pop, e_iadd, e_isub, e_imul, e_ladd, e_lsub, e_lmul, e_iaddw, e_isubw, e_imulw, e_laddw, e_lsubw, e_lmulw, e_iand, e_ior, e_ishl, e_ishr, e_iushr, e_lcmp, e_imax, e_imin, e_idiv, e_irem, e_ldiv, e_lrem, e_i2l, e_i2b, e_l2i, e_i2c, e_getF, e_getR, e_putF, e_putR, e_putz, e_ald, e_aldR, e_ast, e_astb, e_astz, e_asta, e_len, e_acopy, e_new, e_newa, e_mna, e_this, e_room, e_call0, e_callv0, e_call1, e_callv1, e_inv1, e_invv1, e_call2, e_callv2, e_inv2, e_invv2, e_call3, e_callv3, e_inv3, e_invv3, e_call4, e_callv4, e_inv4, e_invv4, e_call5, e_callv5, e_inv5, e_invv5, e_call6, e_callv6, e_inv6, e_invv6, e_call7, e_callv7, e_inv7, e_invv7, e_call8, e_callv8, e_inv8, e_invv8, e_ret, e_retz, e_retc, e_retb, e_retv, e_skip, e_sco, e_tlen, e_tat, e_iz_eq0, e_iz_eq1, e_iz_ne0, e_iz_ne1, add0, sc_d, sc_t, inI_e, inL_e, up_eq, true_or, or_true, or_false, false_or, and_true, true_and, not_false_eq_true, Int.reduceAdd, Int.reduceSub, Int.reduceMul, Int.reduceNeg]
  refine sM_takes hT hTc hRc hM hW hmc hk0 hk1 hth fun F1 f1 s1 => ?_
  have hM1 : mM m c C F1 E := hM.fr hmc (fun b j w => f1 b j (by omega)) frA.rf
  try simp (disch := omega) only [zLg, zRf, zFq, zEl, zNz, zUf, zUe, zUr, zCe, zSn, gd_0, gd_1, gd_2, gd_3, gd_4, gd_5, gd_6, gd_7, gd_8, gd_9, gd_10, gd_11, gd_12, gd_13, gd_14, gd_15, gd_16, gd_17, gd_18, gd_19, se_0, se_1, se_2, se_3, se_4, se_5, se_6, se_7, se_8, se_9, se_10, se_11, se_12, se_13, se_14, se_15, se_16, se_17, se_18, se_19, e_const, e_load, e_store, e_iinc, e_dup, e_dup2, e_pop, e_iadd, e_isub, e_imul, e_ladd, e_lsub, e_lmul, e_iaddw, e_isubw, e_imulw, e_laddw, e_lsubw, e_lmulw, e_iand, e_ior, e_ishl, e_ishr, e_iushr, e_lcmp, e_imax, e_imin, e_idiv, e_irem, e_ldiv, e_lrem, e_i2l, e_i2b, e_l2i, e_i2c, e_getF, e_getR, e_putF, e_putR, e_putz, e_ald, e_aldR, e_ast, e_astb, e_astz, e_asta, e_len, e_acopy, e_new, e_newa, e_mna, e_this, e_room, e_call0, e_callv0, e_call1, e_callv1, e_inv1, e_invv1, e_call2, e_callv2, e_inv2, e_invv2, e_call3, e_callv3, e_inv3, e_invv3, e_call4, e_callv4, e_inv4, e_invv4, e_call5, e_callv5, e_inv5, e_invv5, e_call6, e_callv6, e_inv6, e_invv6, e_call7, e_callv7, e_inv7, e_invv7, e_call8, e_callv8, e_inv8, e_invv8, e_ret, e_retz, e_retc, e_retb, e_retv, e_skip, e_sco, e_tlen, e_tat, e_iz_eq0, e_iz_eq1, e_iz_ne0, e_iz_ne1, add0, sc_d, sc_t, inI_e, inL_e, up_eq, true_or, or_true, or_false, false_or, and_true, true_and, not_false_eq_true, Int.reduceAdd, Int.reduceSub, Int.reduceMul, Int.reduceNeg]
  refine sM_fitsRing hT hTc hRc hM1 hW (sm_d s1) hw r0 r1 (fun hfit => ?_) (fun hfit => ?_)
  · repeat' first
      | exact absurd hc (by decide)
      | simp (disch := omega) only [zLg, zRf, zFq, zEl, zNz, zUf, zUe, zUr, zCe, zSn, gd_0, gd_1, gd_2, gd_3, gd_4, gd_5, gd_6, gd_7, gd_8, gd_9, gd_10, gd_11, gd_12, gd_13, gd_14, gd_15, gd_16, gd_17, gd_18, gd_19, se_0, se_1, se_2, se_3, se_4, se_5, se_6, se_7, se_8, se_9, se_10, se_11, se_12, se_13, se_14, se_15, se_16, se_17, se_18, se_19, e_const, e_load, e_store, e_iinc, e_dup, e_dup2, e_pop, e_iadd, e_isub, e_imul, e_ladd, e_lsub, e_lmul, e_iaddw, e_isubw, e_imulw, e_laddw, e_lsubw, e_lmulw, e_iand, e_ior, e_ishl, e_ishr, e_iushr, e_lcmp, e_imax, e_imin, e_idiv, e_irem, e_ldiv, e_lrem, e_i2l, e_i2b, e_l2i, e_i2c, e_getF, e_getR, e_putF, e_putR, e_putz, e_ald, e_aldR, e_ast, e_astb, e_astz, e_asta, e_len, e_acopy, e_new, e_newa, e_mna, e_this, e_room, e_call0, e_callv0, e_call1, e_callv1, e_inv1, e_invv1, e_call2, e_callv2, e_inv2, e_invv2, e_call3, e_callv3, e_inv3, e_invv3, e_call4, e_callv4, e_inv4, e_invv4, e_call5, e_callv5, e_inv5, e_invv5, e_call6, e_callv6, e_inv6, e_invv6, e_call7, e_callv7, e_inv7, e_invv7, e_call8, e_callv8, e_inv8, e_invv8, e_ret, e_retz, e_retc, e_retb, e_retv, e_skip, e_sco, e_tlen, e_tat, e_iz_eq0, e_iz_eq1, e_iz_ne0, e_iz_ne1, add0, sc_d, sc_t, inI_e, inL_e, up_eq, true_or, or_true, or_false, false_or, and_true, true_and, not_false_eq_true, Int.reduceAdd, Int.reduceSub, Int.reduceMul, Int.reduceNeg]
      | with_reducible first | refine izl_lt (fun hc => ?_) (fun hc => ?_) | refine izl_ge (fun hc => ?_) (fun hc => ?_) | refine izl_eq (fun hc => ?_) (fun hc => ?_) | refine ic_ge (fun hc => ?_) (fun hc => ?_) | refine ic_lt (fun hc => ?_) (fun hc => ?_) | refine ic_ne (fun hc => ?_) (fun hc => ?_) | refine ic_eq (fun hc => ?_) (fun hc => ?_) | refine ic_le (fun hc => ?_) (fun hc => ?_) | refine ic_gt (fun hc => ?_) (fun hc => ?_) | refine iz_eq (fun hc => ?_) (fun hc => ?_) | refine iz_ne (fun hc => ?_) (fun hc => ?_) | refine iz_lt (fun hc => ?_) (fun hc => ?_) | refine iz_ge (fun hc => ?_) (fun hc => ?_) | refine iz_gt (fun hc => ?_) (fun hc => ?_) | refine iz_le (fun hc => ?_) (fun hc => ?_) | refine iz_nu (fun hc => ?_) (fun hc => ?_) | refine iz_nn (fun hc => ?_) (fun hc => ?_)
      | omega
      | (exfalso; omega)
    unfold L_X10_theft_97
    refine lpw (fun n lo st h c s9 => ∃ (i : Int) (E' : Int → Int → Int), lo = [m, k, r, p, hours, cut, i, 0, 0, 0, 0] ∧ st = [] ∧ h = (L, R, F1, E', N) ∧ 0 ≤ i ∧ i ≤ 72 ∧ (n : Int) = 72 - i ∧ (∀ b j : Int, b ≠ m + 12 → b ≠ m + 13 → E' b j = E b j) ∧ (∀ v : Int, 0 ≤ v → v < i → E' (m + 12) v = zSM (r * 12 + p) v ∧ E' (m + 13) v = zUM C th v)) ?_ (n := 72) ⟨0, E, rfl, rfl, rfl, by omega, by omega, by omega, fun _ _ _ _ => rfl, fun v u w => by omega⟩
    rintro n kk hk lo st h c9 s9 ⟨i, E1, rfl, rfl, rfl, hi, hi2, hn1, hf1, hg1⟩
    by_cases hlt : i < 72
    · have eS : zSM (r * 12 + p) i = if i = r * 12 + p then 0 else 1048576 := rfl
      have eU : zUM C th i = if bI ((0 ≤ i ∧ i < 12) ∧ fitsR C th 0) = 1 then 0 else 1048576 := rfl
      have eS0 : i ≠ r * 12 + p → zSM (r * 12 + p) i = 1048576 := fun w => by rw [eS, if_neg w]
      have eS1 : i = r * 12 + p → zSM (r * 12 + p) i = 0 := fun w => by rw [eS, if_pos w]
      have eU1 : fitsR C th 0 → i < 12 → zUM C th i = 0 := fun w w2 => by rw [eU, bI_t ⟨⟨hi, w2⟩, w⟩, if_pos rfl]
      have eU0 : ¬ fitsR C th 0 → zUM C th i = 1048576 := fun w => by rw [eU, bI_f (fun q => w q.2), if_neg (by omega)]
      have eU2 : 12 ≤ i → zUM C th i = 1048576 := fun w => by rw [eU, bI_f (fun q => by have := q.1; omega), if_neg (by omega)]
      have next : ∀ v w : Int, v = zSM (r * 12 + p) i → w = zUM C th i → kk [m, k, r, p, hours, cut, i + 1, 0, 0, 0, 0] [] (L, R, F1, up (up E1 (m + 12) i v) (m + 13) i w, N) c9 s9 := fun v w hv hw2 => by
        refine hk (n - 1) _ _ _ _ _ (by omega) ⟨i + 1, _, rfl, rfl, rfl, by omega, by omega, by omega, fun b j x y => by rw [up_ne (by omega), up_ne (by omega)]; exact hf1 b j x y, fun q u x => ?_⟩
        by_cases zq : q = i
        · rw [zq, up_eq, up_ne (by omega), up_eq]; exact ⟨hv, hw2⟩
        · rw [up_ne (by omega), up_ne (by omega), up_ne (by omega), up_ne (by omega)]; exact hg1 q u (by omega)
      have hMv : ∀ v : Int, mM m c C F1 (up E1 (m + 12) i v) := fun v => hM1.fx (fun b j w => by rw [up_ne (by omega)]; exact hf1 b j (by omega) (by omega))
      have hMv0 := hMv 0
      have hMv1 := hMv 1048576
      have b00 : (0 : Int) < C 0 0 0 := by omega
      have sd := sm_d s1
      repeat' first
        | exact absurd hc (by decide)
        | with_reducible refine sM_fitsRing hT hTc hRc hMv0 hW sd hw ?_ b00 (fun hq => ?_) (fun hq => ?_)
        | with_reducible refine sM_fitsRing hT hTc hRc hMv1 hW sd hw ?_ b00 (fun hq => ?_) (fun hq => ?_)
        | simp (disch := omega) only [ub_X10_theft_128, ub_X10_theft_154, ub_X10_theft_157, zLg, zRf, zFq, zEl, zNz, zUf, zUe, zUr, zCe, zSn, gd_0, gd_1, gd_2, gd_3, gd_4, gd_5, gd_6, gd_7, gd_8, gd_9, gd_10, gd_11, gd_12, gd_13, gd_14, gd_15, gd_16, gd_17, gd_18, gd_19, se_0, se_1, se_2, se_3, se_4, se_5, se_6, se_7, se_8, se_9, se_10, se_11, se_12, se_13, se_14, se_15, se_16, se_17, se_18, se_19, e_const, e_load, e_store, e_iinc, e_dup, e_dup2, e_pop, e_iadd, e_isub, e_imul, e_ladd, e_lsub, e_lmul, e_iaddw, e_isubw, e_imulw, e_laddw, e_lsubw, e_lmulw, e_iand, e_ior, e_ishl, e_ishr, e_iushr, e_lcmp, e_imax, e_imin, e_idiv, e_irem, e_ldiv, e_lrem, e_i2l, e_i2b, e_l2i, e_i2c, e_getF, e_getR, e_putF, e_putR, e_putz, e_ald, e_aldR, e_ast, e_astb, e_astz, e_asta, e_len, e_acopy, e_new, e_newa, e_mna, e_this, e_room, e_call0, e_callv0, e_call1, e_callv1, e_inv1, e_invv1, e_call2, e_callv2, e_inv2, e_invv2, e_call3, e_callv3, e_inv3, e_invv3, e_call4, e_callv4, e_inv4, e_invv4, e_call5, e_callv5, e_inv5, e_invv5, e_call6, e_callv6, e_inv6, e_invv6, e_call7, e_callv7, e_inv7, e_invv7, e_call8, e_callv8, e_inv8, e_invv8, e_ret, e_retz, e_retc, e_retb, e_retv, e_skip, e_sco, e_tlen, e_tat, e_iz_eq0, e_iz_eq1, e_iz_ne0, e_iz_ne1, add0, sc_d, sc_t, inI_e, inL_e, up_eq, true_or, or_true, or_false, false_or, and_true, true_and, not_false_eq_true, Int.reduceAdd, Int.reduceSub, Int.reduceMul, Int.reduceNeg, g40, g41, l12, l13]
        | with_reducible first | refine izl_lt (fun hc => ?_) (fun hc => ?_) | refine izl_ge (fun hc => ?_) (fun hc => ?_) | refine izl_eq (fun hc => ?_) (fun hc => ?_) | refine ic_ge (fun hc => ?_) (fun hc => ?_) | refine ic_lt (fun hc => ?_) (fun hc => ?_) | refine ic_ne (fun hc => ?_) (fun hc => ?_) | refine ic_eq (fun hc => ?_) (fun hc => ?_) | refine ic_le (fun hc => ?_) (fun hc => ?_) | refine ic_gt (fun hc => ?_) (fun hc => ?_) | refine iz_eq (fun hc => ?_) (fun hc => ?_) | refine iz_ne (fun hc => ?_) (fun hc => ?_) | refine iz_lt (fun hc => ?_) (fun hc => ?_) | refine iz_ge (fun hc => ?_) (fun hc => ?_) | refine iz_gt (fun hc => ?_) (fun hc => ?_) | refine iz_le (fun hc => ?_) (fun hc => ?_) | refine iz_nu (fun hc => ?_) (fun hc => ?_) | refine iz_nn (fun hc => ?_) (fun hc => ?_)
        | omega
        | (exfalso; omega)
      all_goals first
        | exact next _ _ (eS0 (by omega)).symm (eU2 (by omega)).symm
        | exact next _ _ (eS1 (by omega)).symm (eU2 (by omega)).symm
        | exact next _ _ (eS0 (by omega)).symm (eU1 hq (by omega)).symm
        | exact next _ _ (eS1 (by omega)).symm (eU1 hq (by omega)).symm
        | exact next _ _ (eS0 (by omega)).symm (eU0 hq).symm
        | exact next _ _ (eS1 (by omega)).symm (eU0 hq).symm
    · have hie : i = 72 := by omega
      subst hie
      have hM2 : mM m c C F1 E1 := hM1.fx (fun b j w => hf1 b j (by omega) (by omega))
      repeat' first
        | exact absurd hc (by decide)
        | simp (disch := omega) only [zLg, zRf, zFq, zEl, zNz, zUf, zUe, zUr, zCe, zSn, gd_0, gd_1, gd_2, gd_3, gd_4, gd_5, gd_6, gd_7, gd_8, gd_9, gd_10, gd_11, gd_12, gd_13, gd_14, gd_15, gd_16, gd_17, gd_18, gd_19, se_0, se_1, se_2, se_3, se_4, se_5, se_6, se_7, se_8, se_9, se_10, se_11, se_12, se_13, se_14, se_15, se_16, se_17, se_18, se_19, e_const, e_load, e_store, e_iinc, e_dup, e_dup2, e_pop, e_iadd, e_isub, e_imul, e_ladd, e_lsub, e_lmul, e_iaddw, e_isubw, e_imulw, e_laddw, e_lsubw, e_lmulw, e_iand, e_ior, e_ishl, e_ishr, e_iushr, e_lcmp, e_imax, e_imin, e_idiv, e_irem, e_ldiv, e_lrem, e_i2l, e_i2b, e_l2i, e_i2c, e_getF, e_getR, e_putF, e_putR, e_putz, e_ald, e_aldR, e_ast, e_astb, e_astz, e_asta, e_len, e_acopy, e_new, e_newa, e_mna, e_this, e_room, e_call0, e_callv0, e_call1, e_callv1, e_inv1, e_invv1, e_call2, e_callv2, e_inv2, e_invv2, e_call3, e_callv3, e_inv3, e_invv3, e_call4, e_callv4, e_inv4, e_invv4, e_call5, e_callv5, e_inv5, e_invv5, e_call6, e_callv6, e_inv6, e_invv6, e_call7, e_callv7, e_inv7, e_invv7, e_call8, e_callv8, e_inv8, e_invv8, e_ret, e_retz, e_retc, e_retb, e_retv, e_skip, e_sco, e_tlen, e_tat, e_iz_eq0, e_iz_eq1, e_iz_ne0, e_iz_ne1, add0, sc_d, sc_t, inI_e, inL_e, up_eq, true_or, or_true, or_false, false_or, and_true, true_and, not_false_eq_true, Int.reduceAdd, Int.reduceSub, Int.reduceMul, Int.reduceNeg, g40]
        | with_reducible first | refine izl_lt (fun hc => ?_) (fun hc => ?_) | refine izl_ge (fun hc => ?_) (fun hc => ?_) | refine izl_eq (fun hc => ?_) (fun hc => ?_) | refine ic_ge (fun hc => ?_) (fun hc => ?_) | refine ic_lt (fun hc => ?_) (fun hc => ?_) | refine ic_ne (fun hc => ?_) (fun hc => ?_) | refine ic_eq (fun hc => ?_) (fun hc => ?_) | refine ic_le (fun hc => ?_) (fun hc => ?_) | refine ic_gt (fun hc => ?_) (fun hc => ?_) | refine iz_eq (fun hc => ?_) (fun hc => ?_) | refine iz_ne (fun hc => ?_) (fun hc => ?_) | refine iz_lt (fun hc => ?_) (fun hc => ?_) | refine iz_ge (fun hc => ?_) (fun hc => ?_) | refine iz_gt (fun hc => ?_) (fun hc => ?_) | refine iz_le (fun hc => ?_) (fun hc => ?_) | refine iz_nu (fun hc => ?_) (fun hc => ?_) | refine iz_nn (fun hc => ?_) (fun hc => ?_)
        | omega
        | (exfalso; omega)
      refine sM_spreads (z := zSM (r * 12 + p)) hT hTc hRc hM2 hW hmc s1 hw h3 (Or.inl rfl) (fun v => zSM_b _ v) (fun v u w => (hg1 v u w).1) fun E2 f2 p2 => ?_
      have hM3 : mM m c C F1 E2 := hM2.fx (fun b j w => f2 b j (by omega))
      try simp (disch := omega) only [zLg, zRf, zFq, zEl, zNz, zUf, zUe, zUr, zCe, zSn, gd_0, gd_1, gd_2, gd_3, gd_4, gd_5, gd_6, gd_7, gd_8, gd_9, gd_10, gd_11, gd_12, gd_13, gd_14, gd_15, gd_16, gd_17, gd_18, gd_19, se_0, se_1, se_2, se_3, se_4, se_5, se_6, se_7, se_8, se_9, se_10, se_11, se_12, se_13, se_14, se_15, se_16, se_17, se_18, se_19, e_const, e_load, e_store, e_iinc, e_dup, e_dup2, e_pop, e_iadd, e_isub, e_imul, e_ladd, e_lsub, e_lmul, e_iaddw, e_isubw, e_imulw, e_laddw, e_lsubw, e_lmulw, e_iand, e_ior, e_ishl, e_ishr, e_iushr, e_lcmp, e_imax, e_imin, e_idiv, e_irem, e_ldiv, e_lrem, e_i2l, e_i2b, e_l2i, e_i2c, e_getF, e_getR, e_putF, e_putR, e_putz, e_ald, e_aldR, e_ast, e_astb, e_astz, e_asta, e_len, e_acopy, e_new, e_newa, e_mna, e_this, e_room, e_call0, e_callv0, e_call1, e_callv1, e_inv1, e_invv1, e_call2, e_callv2, e_inv2, e_invv2, e_call3, e_callv3, e_inv3, e_invv3, e_call4, e_callv4, e_inv4, e_invv4, e_call5, e_callv5, e_inv5, e_invv5, e_call6, e_callv6, e_inv6, e_invv6, e_call7, e_callv7, e_inv7, e_invv7, e_call8, e_callv8, e_inv8, e_invv8, e_ret, e_retz, e_retc, e_retb, e_retv, e_skip, e_sco, e_tlen, e_tat, e_iz_eq0, e_iz_eq1, e_iz_ne0, e_iz_ne1, add0, sc_d, sc_t, inI_e, inL_e, up_eq, true_or, or_true, or_false, false_or, and_true, true_and, not_false_eq_true, Int.reduceAdd, Int.reduceSub, Int.reduceMul, Int.reduceNeg, g41]
      refine sM_spreads (z := zUM C th) hT hTc hRc hM3 hW hmc s1 hw h3 (Or.inr rfl) (fun v => zUM_b _ _ v) (fun v u w => by rw [f2 _ _ (by omega)]; exact (hg1 v u w).2) fun E3 f3 p3 => ?_
      have hM4 : mM m c C F1 E3 := hM3.fx (fun b j w => f3 b j (by omega))
      have q2 : ∀ v : Int, 0 ≤ v → v < 72 → E3 (m + 12) v = dst (GM C th) (zSM (r * 12 + p)) v := fun v u w => by rw [f3 _ _ (by omega)]; exact p2 v u w
      have fin : ∀ b j : Int, b ≠ m + 12 → b ≠ m + 13 → E3 b j = E b j := fun b j u w => by rw [f3 _ _ w, f2 _ _ u]; exact hf1 b j u w
      have hiff : ∀ g : Int, 0 ≤ g → g < C 0 1 0 → (byG C th (r * 12 + p) hours g ↔ byM C th (r * 12 + p) hours g) := fun g u w => by_iff hW hw h3 r0 r1 p0 p1 hfit hh u w
      have hG := GM_in hW hw h3
      try simp (disch := omega) only [zLg, zRf, zFq, zEl, zNz, zUf, zUe, zUr, zCe, zSn, gd_0, gd_1, gd_2, gd_3, gd_4, gd_5, gd_6, gd_7, gd_8, gd_9, gd_10, gd_11, gd_12, gd_13, gd_14, gd_15, gd_16, gd_17, gd_18, gd_19, se_0, se_1, se_2, se_3, se_4, se_5, se_6, se_7, se_8, se_9, se_10, se_11, se_12, se_13, se_14, se_15, se_16, se_17, se_18, se_19, e_const, e_load, e_store, e_iinc, e_dup, e_dup2, e_pop, e_iadd, e_isub, e_imul, e_ladd, e_lsub, e_lmul, e_iaddw, e_isubw, e_imulw, e_laddw, e_lsubw, e_lmulw, e_iand, e_ior, e_ishl, e_ishr, e_iushr, e_lcmp, e_imax, e_imin, e_idiv, e_irem, e_ldiv, e_lrem, e_i2l, e_i2b, e_l2i, e_i2c, e_getF, e_getR, e_putF, e_putR, e_putz, e_ald, e_aldR, e_ast, e_astb, e_astz, e_asta, e_len, e_acopy, e_new, e_newa, e_mna, e_this, e_room, e_call0, e_callv0, e_call1, e_callv1, e_inv1, e_invv1, e_call2, e_callv2, e_inv2, e_invv2, e_call3, e_callv3, e_inv3, e_invv3, e_call4, e_callv4, e_inv4, e_invv4, e_call5, e_callv5, e_inv5, e_invv5, e_call6, e_callv6, e_inv6, e_invv6, e_call7, e_callv7, e_inv7, e_invv7, e_call8, e_callv8, e_inv8, e_invv8, e_ret, e_retz, e_retc, e_retb, e_retv, e_skip, e_sco, e_tlen, e_tat, e_iz_eq0, e_iz_eq1, e_iz_ne0, e_iz_ne1, add0, sc_d, sc_t, inI_e, inL_e, up_eq, true_or, or_true, or_false, false_or, and_true, true_and, not_false_eq_true, Int.reduceAdd, Int.reduceSub, Int.reduceMul, Int.reduceNeg]
      unfold L_X10_theft_186
      refine lpw (fun n lo st h c s9 => ∃ (g y8 y9 y10 : Int), lo = [m, k, r, p, hours, cut, btF (byG C th (r * 12 + p) hours) g.toNat, g, y8, y9, y10] ∧ st = [] ∧ h = (L, R, F1, E3, N) ∧ 0 ≤ g ∧ g ≤ C 0 1 0 ∧ (n : Int) = C 0 1 0 - g) ?_ (n := (C 0 1 0).toNat) ⟨0, _, _, _, rfl, rfl, rfl, by omega, by omega, by omega⟩
      rintro n kk hk lo st h c9 s9 ⟨g, y8, y9, y10, rfl, rfl, rfl, hg, hg2, hn1⟩
      by_cases hgl : g < C 0 1 0
      · have sb := spt_b hW hg hgl
        have es := btF_s (P := byG C th (r * 12 + p) hours) hg
        have ez := btF_0 (P := byG C th (r * 12 + p) hours) g.toNat
        have hi := hiff g hg hgl
        have c0 := cw_g0 hW g hg hgl
        have c1 := cw_g1 hW g hg hgl
        have hb := hrsB hW hw hg hgl
        have e12 : 12 * C 2 g 0 + C 2 g 1 = spt C g := by unfold spt; omega
        have yes : ∀ y8 y9 y10 : Int, byM C th (r * 12 + p) hours g → kk [m, k, r, p, hours, cut, bOr (btF (byG C th (r * 12 + p) hours) g.toNat) (bShl 1 g), g + 1, y8, y9, y10] [] (L, R, F1, E3, N) c9 s9 := fun y8 y9 y10 w => by
          rw [bI_t (hi.mpr w), if_pos rfl] at es
          exact hk (n - 1) _ _ _ _ _ (by omega) ⟨g + 1, y8, y9, y10, by rw [es], rfl, rfl, by omega, by omega, by omega⟩
        have no : ∀ y8 y9 y10 : Int, ¬ byM C th (r * 12 + p) hours g → kk [m, k, r, p, hours, cut, btF (byG C th (r * 12 + p) hours) g.toNat, g + 1, y8, y9, y10] [] (L, R, F1, E3, N) c9 s9 := fun y8 y9 y10 w => by
          rw [bI_f (fun q => w (hi.mp q)), if_neg (by omega)] at es
          exact hk (n - 1) _ _ _ _ _ (by omega) ⟨g + 1, y8, y9, y10, by rw [es], rfl, rfl, by omega, by omega, by omega⟩
        have v1 := q2 (spt C g) sb.1 (by omega)
        have v2 := q2 (spt C g + 12) (by omega) (by omega)
        have v3 := p3 (spt C g) sb.1 (by omega)
        have v4 := p3 (spt C g + 12) (by omega) (by omega)
        have zb1 := zSM_b (r * 12 + p)
        have zb2 := zUM_b C th
        have n1 := dst_nn (fun v => (zb1 v).1) hG (spt C g)
        have n2 := dst_nn (fun v => (zb1 v).1) hG (spt C g + 12)
        have n3 := dst_nn (fun v => (zb2 v).1) hG (spt C g)
        have n4 := dst_nn (fun v => (zb2 v).1) hG (spt C g + 12)
        have u1 := dst_z (fun v => (zb1 v).1) hG.n (spt C g)
        have u2 := dst_z (fun v => (zb1 v).1) hG.n (spt C g + 12)
        have u3 := dst_z (fun v => (zb2 v).1) hG.n (spt C g)
        have u4 := dst_z (fun v => (zb2 v).1) hG.n (spt C g + 12)
        have o1 := (zb1 (spt C g)).2
        have o2 := (zb1 (spt C g + 12)).2
        have o3 := (zb2 (spt C g)).2
        have o4 := (zb2 (spt C g + 12)).2
        have eb : byM C th (r * 12 + p) hours g ↔ openP C th g ∧ (dst (GM C th) (zSM (r * 12 + p)) (spt C g) + hrsP C th g + dst (GM C th) (zUM C th) (spt C g + 12) ≤ hours ∨ dst (GM C th) (zSM (r * 12 + p)) (spt C g + 12) + hrsP C th g + dst (GM C th) (zUM C th) (spt C g) ≤ hours) := Iff.rfl
        have sd := sm_d s1
        generalize dst (GM C th) (zSM (r * 12 + p)) (spt C g) = d1 at *
        generalize dst (GM C th) (zSM (r * 12 + p)) (spt C g + 12) = d2 at *
        generalize dst (GM C th) (zUM C th) (spt C g) = d3 at *
        generalize dst (GM C th) (zUM C th) (spt C g + 12) = d4 at *
        repeat' first
          | exact absurd hc (by decide)
          | with_reducible refine sM_goesThrough hT hTc hRc hM4 hW sd hw hg hgl (fun ho => ?_) (fun ho => ?_)
          | with_reducible refine sM_of hT hM4 hW hg hgl ?_ ?_ ?_
          | with_reducible refine sM_hoursAt hT hM4 hW s1 hw hg hgl ?_
          | simp (disch := omega) only [ub_X10_theft_308, ub_X10_theft_305, ub_X10_theft_297, zLg, zRf, zFq, zEl, zNz, zUf, zUe, zUr, zCe, zSn, gd_0, gd_1, gd_2, gd_3, gd_4, gd_5, gd_6, gd_7, gd_8, gd_9, gd_10, gd_11, gd_12, gd_13, gd_14, gd_15, gd_16, gd_17, gd_18, gd_19, se_0, se_1, se_2, se_3, se_4, se_5, se_6, se_7, se_8, se_9, se_10, se_11, se_12, se_13, se_14, se_15, se_16, se_17, se_18, se_19, e_const, e_load, e_store, e_iinc, e_dup, e_dup2, e_pop, e_iadd, e_isub, e_imul, e_ladd, e_lsub, e_lmul, e_iaddw, e_isubw, e_imulw, e_laddw, e_lsubw, e_lmulw, e_iand, e_ior, e_ishl, e_ishr, e_iushr, e_lcmp, e_imax, e_imin, e_idiv, e_irem, e_ldiv, e_lrem, e_i2l, e_i2b, e_l2i, e_i2c, e_getF, e_getR, e_putF, e_putR, e_putz, e_ald, e_aldR, e_ast, e_astb, e_astz, e_asta, e_len, e_acopy, e_new, e_newa, e_mna, e_this, e_room, e_call0, e_callv0, e_call1, e_callv1, e_inv1, e_invv1, e_call2, e_callv2, e_inv2, e_invv2, e_call3, e_callv3, e_inv3, e_invv3, e_call4, e_callv4, e_inv4, e_invv4, e_call5, e_callv5, e_inv5, e_invv5, e_call6, e_callv6, e_inv6, e_invv6, e_call7, e_callv7, e_inv7, e_invv7, e_call8, e_callv8, e_inv8, e_invv8, e_ret, e_retz, e_retc, e_retb, e_retv, e_skip, e_sco, e_tlen, e_tat, e_iz_eq0, e_iz_eq1, e_iz_ne0, e_iz_ne1, add0, sc_d, sc_t, inI_e, inL_e, up_eq, true_or, or_true, or_false, false_or, and_true, true_and, not_false_eq_true, Int.reduceAdd, Int.reduceSub, Int.reduceMul, Int.reduceNeg, mm_1 hM4, e12, g40, g41, l12, l13, v1, v2, v3, v4, ez]
          | with_reducible first | refine izl_lt (fun hc => ?_) (fun hc => ?_) | refine izl_ge (fun hc => ?_) (fun hc => ?_) | refine izl_eq (fun hc => ?_) (fun hc => ?_) | refine ic_ge (fun hc => ?_) (fun hc => ?_) | refine ic_lt (fun hc => ?_) (fun hc => ?_) | refine ic_ne (fun hc => ?_) (fun hc => ?_) | refine ic_eq (fun hc => ?_) (fun hc => ?_) | refine ic_le (fun hc => ?_) (fun hc => ?_) | refine ic_gt (fun hc => ?_) (fun hc => ?_) | refine iz_eq (fun hc => ?_) (fun hc => ?_) | refine iz_ne (fun hc => ?_) (fun hc => ?_) | refine iz_lt (fun hc => ?_) (fun hc => ?_) | refine iz_ge (fun hc => ?_) (fun hc => ?_) | refine iz_gt (fun hc => ?_) (fun hc => ?_) | refine iz_le (fun hc => ?_) (fun hc => ?_) | refine iz_nu (fun hc => ?_) (fun hc => ?_) | refine iz_nn (fun hc => ?_) (fun hc => ?_)
          | omega
          | (exfalso; omega)
        all_goals first
          | exact no _ _ _ (fun w => ho (eb.mp w).1)
          | exact yes _ _ _ (eb.mpr ⟨ho, Or.inl (by omega)⟩)
          | exact yes _ _ _ (eb.mpr ⟨ho, Or.inr (by omega)⟩)
          | exact no _ _ _ (fun w => by have := (eb.mp w).2; omega)
      · have hge : g = C 0 1 0 := by omega
        subst hge
        repeat' first
          | exact absurd hc (by decide)
          | simp (disch := omega) only [ue_X10_good, t_X10_good, zLg, zRf, zFq, zEl, zNz, zUf, zUe, zUr, zCe, zSn, gd_0, gd_1, gd_2, gd_3, gd_4, gd_5, gd_6, gd_7, gd_8, gd_9, gd_10, gd_11, gd_12, gd_13, gd_14, gd_15, gd_16, gd_17, gd_18, gd_19, se_0, se_1, se_2, se_3, se_4, se_5, se_6, se_7, se_8, se_9, se_10, se_11, se_12, se_13, se_14, se_15, se_16, se_17, se_18, se_19, e_const, e_load, e_store, e_iinc, e_dup, e_dup2, e_pop, e_iadd, e_isub, e_imul, e_ladd, e_lsub, e_lmul, e_iaddw, e_isubw, e_imulw, e_laddw, e_lsubw, e_lmulw, e_iand, e_ior, e_ishl, e_ishr, e_iushr, e_lcmp, e_imax, e_imin, e_idiv, e_irem, e_ldiv, e_lrem, e_i2l, e_i2b, e_l2i, e_i2c, e_getF, e_getR, e_putF, e_putR, e_putz, e_ald, e_aldR, e_ast, e_astb, e_astz, e_asta, e_len, e_acopy, e_new, e_newa, e_mna, e_this, e_room, e_call0, e_callv0, e_call1, e_callv1, e_inv1, e_invv1, e_call2, e_callv2, e_inv2, e_invv2, e_call3, e_callv3, e_inv3, e_invv3, e_call4, e_callv4, e_inv4, e_invv4, e_call5, e_callv5, e_inv5, e_invv5, e_call6, e_callv6, e_inv6, e_invv6, e_call7, e_callv7, e_inv7, e_invv7, e_call8, e_callv8, e_inv8, e_invv8, e_ret, e_retz, e_retc, e_retb, e_retv, e_skip, e_sco, e_tlen, e_tat, e_iz_eq0, e_iz_eq1, e_iz_ne0, e_iz_ne1, add0, sc_d, sc_t, inI_e, inL_e, up_eq, true_or, or_true, or_false, false_or, and_true, true_and, not_false_eq_true, Int.reduceAdd, Int.reduceSub, Int.reduceMul, Int.reduceNeg, mm_1 hM4]
          | with_reducible first | refine izl_lt (fun hc => ?_) (fun hc => ?_) | refine izl_ge (fun hc => ?_) (fun hc => ?_) | refine izl_eq (fun hc => ?_) (fun hc => ?_) | refine ic_ge (fun hc => ?_) (fun hc => ?_) | refine ic_lt (fun hc => ?_) (fun hc => ?_) | refine ic_ne (fun hc => ?_) (fun hc => ?_) | refine ic_eq (fun hc => ?_) (fun hc => ?_) | refine ic_le (fun hc => ?_) (fun hc => ?_) | refine ic_gt (fun hc => ?_) (fun hc => ?_) | refine iz_eq (fun hc => ?_) (fun hc => ?_) | refine iz_ne (fun hc => ?_) (fun hc => ?_) | refine iz_lt (fun hc => ?_) (fun hc => ?_) | refine iz_ge (fun hc => ?_) (fun hc => ?_) | refine iz_gt (fun hc => ?_) (fun hc => ?_) | refine iz_le (fun hc => ?_) (fun hc => ?_) | refine iz_nu (fun hc => ?_) (fun hc => ?_) | refine iz_nn (fun hc => ?_) (fun hc => ?_)
          | omega
          | (exfalso; omega)
        all_goals exact hQ F1 E3 f1 fin
  · have e0 := btF_no (P := byG C th (r * 12 + p) hours) (C 0 1 0).toNat (fun g u w => by_no hW hw h3 p0 p1 hfit hh u (by omega))
    rw [e0] at hQ
    repeat' first
      | exact absurd hc (by decide)
      | simp (disch := omega) only [ue_X10_good, t_X10_good, zLg, zRf, zFq, zEl, zNz, zUf, zUe, zUr, zCe, zSn, gd_0, gd_1, gd_2, gd_3, gd_4, gd_5, gd_6, gd_7, gd_8, gd_9, gd_10, gd_11, gd_12, gd_13, gd_14, gd_15, gd_16, gd_17, gd_18, gd_19, se_0, se_1, se_2, se_3, se_4, se_5, se_6, se_7, se_8, se_9, se_10, se_11, se_12, se_13, se_14, se_15, se_16, se_17, se_18, se_19, e_const, e_load, e_store, e_iinc, e_dup, e_dup2, e_pop, e_iadd, e_isub, e_imul, e_ladd, e_lsub, e_lmul, e_iaddw, e_isubw, e_imulw, e_laddw, e_lsubw, e_lmulw, e_iand, e_ior, e_ishl, e_ishr, e_iushr, e_lcmp, e_imax, e_imin, e_idiv, e_irem, e_ldiv, e_lrem, e_i2l, e_i2b, e_l2i, e_i2c, e_getF, e_getR, e_putF, e_putR, e_putz, e_ald, e_aldR, e_ast, e_astb, e_astz, e_asta, e_len, e_acopy, e_new, e_newa, e_mna, e_this, e_room, e_call0, e_callv0, e_call1, e_callv1, e_inv1, e_invv1, e_call2, e_callv2, e_inv2, e_invv2, e_call3, e_callv3, e_inv3, e_invv3, e_call4, e_callv4, e_inv4, e_invv4, e_call5, e_callv5, e_inv5, e_invv5, e_call6, e_callv6, e_inv6, e_invv6, e_call7, e_callv7, e_inv7, e_invv7, e_call8, e_callv8, e_inv8, e_invv8, e_ret, e_retz, e_retc, e_retb, e_retv, e_skip, e_sco, e_tlen, e_tat, e_iz_eq0, e_iz_eq1, e_iz_ne0, e_iz_ne1, add0, sc_d, sc_t, inI_e, inL_e, up_eq, true_or, or_true, or_false, false_or, and_true, true_and, not_false_eq_true, Int.reduceAdd, Int.reduceSub, Int.reduceMul, Int.reduceNeg]
      | with_reducible first | refine izl_lt (fun hc => ?_) (fun hc => ?_) | refine izl_ge (fun hc => ?_) (fun hc => ?_) | refine izl_eq (fun hc => ?_) (fun hc => ?_) | refine ic_ge (fun hc => ?_) (fun hc => ?_) | refine ic_lt (fun hc => ?_) (fun hc => ?_) | refine ic_ne (fun hc => ?_) (fun hc => ?_) | refine ic_eq (fun hc => ?_) (fun hc => ?_) | refine ic_le (fun hc => ?_) (fun hc => ?_) | refine ic_gt (fun hc => ?_) (fun hc => ?_) | refine iz_eq (fun hc => ?_) (fun hc => ?_) | refine iz_ne (fun hc => ?_) (fun hc => ?_) | refine iz_lt (fun hc => ?_) (fun hc => ?_) | refine iz_ge (fun hc => ?_) (fun hc => ?_) | refine iz_gt (fun hc => ?_) (fun hc => ?_) | refine iz_le (fun hc => ?_) (fun hc => ?_) | refine iz_nu (fun hc => ?_) (fun hc => ?_) | refine iz_nn (fun hc => ?_) (fun hc => ?_)
      | omega
      | (exfalso; omega)
    all_goals exact hQ F1 E f1 (fun _ _ _ _ => rfl)
end THEFTM

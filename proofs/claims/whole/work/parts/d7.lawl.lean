/-! ===== the law: led, its loop, its start ===== -/
theorem e_led {MC MS : Nat} {k : xK} {l r : List Int} {h : xH} {c n : Nat} {x p out : Int} : x_led MC MS k l (out :: p :: x :: r) h c n = sc (c + 1 ≤ MC ∧ n + 6 ≤ MS) (T_L_led [x, p, out] h (fun v h' => k l (v :: r) h' (c + 1) (n + 6))) := rfl
section LAWL
variable {L L' : Int → Int} {R R' R1 R2 F F' F1 F2 E E' E1 E2 : Int → Int → Int} {N N' : Nat} {Q : xQ} {B a m c fd tr fa pl k n t i j g x y z w s0 x5 x6 : Int} {C : Cy} {tp : Int → Int} {D : Int → Int → Int} {M H : Int → Int → Int → Int} {HN : Int → Int} {kk : xK} {c9 s9 sL : Nat} {sx : Nat → Int32}
theorem cs_led (hJ : JS B L R F E N) (i0 : 0 ≤ i) (i7 : i + 7 ≤ (sL : Int)) (hsL : sL ≤ 3584) (hk : ∀ (x5 x6 : Int) (L' : Int → Int) (R' F' E' : Int → Int → Int) (N' c' d' : Nat), JS B L' R' F' E' N' → c' ≤ c9 + 23 → d' ≤ s9 + 319 → kk [s0, B, B + 329, B + 345, i + 7, x5, x6] [] (L', R', F', E', N') c' d') (hc9 : c9 + 23 ≤ 601024) (hs9 : s9 + 319 ≤ 7293034) : B_L_law_1592 sL sx Q kk [s0, B, B + 329, B + 345, i, x5, x6] [] (L, R, F, E, N) c9 s9 := by
  obtain ⟨a, c, C, tp, fd, tr, fa, pl, D, k, M, n, H, HN, hT, hM, hR, hs, hN, hc, hL⟩ := hJ
  have pB := cl_p hT
  have hw := inI_of (sx (i + 1).toNat)
  have hw2 : (sx (i + 1).toNat).toInt ≤ 2147483647 := hw.2
  clear hw
  try simp (disch := omega) only [ub_L_law_1592, e_sld, e_led, zLg, zRf, zFq, zEl, zNz, zUf, zUe, zUr, zCe, zSn, gd_0, gd_1, gd_2, gd_3, gd_4, gd_5, gd_6, gd_7, gd_8, gd_9, gd_10, gd_11, gd_12, gd_13, gd_14, gd_15, gd_16, gd_17, gd_18, gd_19, se_0, se_1, se_2, se_3, se_4, se_5, se_6, se_7, se_8, se_9, se_10, se_11, se_12, se_13, se_14, se_15, se_16, se_17, se_18, se_19, e_const, e_load, e_store, e_iinc, e_dup, e_dup2, e_pop, e_iadd, e_isub, e_imul, e_ladd, e_lsub, e_lmul, e_iaddw, e_isubw, e_imulw, e_laddw, e_lsubw, e_lmulw, e_iand, e_ior, e_ishl, e_ishr, e_iushr, e_lcmp, e_imax, e_imin, e_idiv, e_irem, e_ldiv, e_lrem, e_i2l, e_i2b, e_l2i, e_i2c, e_getF, e_getR, e_putF, e_putR, e_putz, e_ald, e_aldR, e_ast, e_astb, e_astz, e_asta, e_len, e_acopy, e_new, e_newa, e_mna, e_this, e_room, e_call0, e_callv0, e_call1, e_callv1, e_inv1, e_invv1, e_call2, e_callv2, e_inv2, e_invv2, e_call3, e_callv3, e_inv3, e_invv3, e_call4, e_callv4, e_inv4, e_invv4, e_call5, e_callv5, e_inv5, e_invv5, e_call6, e_callv6, e_inv6, e_invv6, e_call7, e_callv7, e_inv7, e_invv7, e_call8, e_callv8, e_inv8, e_invv8, e_ret, e_retz, e_retc, e_retb, e_retv, e_skip, e_sco, e_tlen, e_tat, e_iz_eq0, e_iz_eq1, e_iz_ne0, e_iz_ne1, add0, sc_d, sc_t, inI_e, inL_e, up_eq, true_or, or_true, or_false, false_or, and_true, true_and, not_false_eq_true, Int.reduceAdd, Int.reduceSub, Int.reduceMul, Int.reduceNeg]
  by_cases hr : r_led C ((sx (i + 1).toNat).toInt) = -1
  · refine ⟨by omega, cX_led hT hM hs hw2 (fun z => absurd hr z) (fun _ N' hN' => ?_)⟩
    try simp (disch := omega) only [e_sld, zLg, zRf, zFq, zEl, zNz, zUf, zUe, zUr, zCe, zSn, gd_0, gd_1, gd_2, gd_3, gd_4, gd_5, gd_6, gd_7, gd_8, gd_9, gd_10, gd_11, gd_12, gd_13, gd_14, gd_15, gd_16, gd_17, gd_18, gd_19, se_0, se_1, se_2, se_3, se_4, se_5, se_6, se_7, se_8, se_9, se_10, se_11, se_12, se_13, se_14, se_15, se_16, se_17, se_18, se_19, e_const, e_load, e_store, e_iinc, e_dup, e_dup2, e_pop, e_iadd, e_isub, e_imul, e_ladd, e_lsub, e_lmul, e_iaddw, e_isubw, e_imulw, e_laddw, e_lsubw, e_lmulw, e_iand, e_ior, e_ishl, e_ishr, e_iushr, e_lcmp, e_imax, e_imin, e_idiv, e_irem, e_ldiv, e_lrem, e_i2l, e_i2b, e_l2i, e_i2c, e_getF, e_getR, e_putF, e_putR, e_putz, e_ald, e_aldR, e_ast, e_astb, e_astz, e_asta, e_len, e_acopy, e_new, e_newa, e_mna, e_this, e_room, e_call0, e_callv0, e_call1, e_callv1, e_inv1, e_invv1, e_call2, e_callv2, e_inv2, e_invv2, e_call3, e_callv3, e_inv3, e_invv3, e_call4, e_callv4, e_inv4, e_invv4, e_call5, e_callv5, e_inv5, e_invv5, e_call6, e_callv6, e_inv6, e_invv6, e_call7, e_callv7, e_inv7, e_invv7, e_call8, e_callv8, e_inv8, e_invv8, e_ret, e_retz, e_retc, e_retb, e_retv, e_skip, e_sco, e_tlen, e_tat, e_iz_eq0, e_iz_eq1, e_iz_ne0, e_iz_ne1, add0, sc_d, sc_t, inI_e, inL_e, up_eq, true_or, or_true, or_false, false_or, and_true, true_and, not_false_eq_true, Int.reduceAdd, Int.reduceSub, Int.reduceMul, Int.reduceNeg]
    refine cM_led hR hs (fun z => absurd hr z) (fun _ F2 E2 f0 hq => ?_)
    have ok := hk 1 0 L R F2 E2 N' (c9 + 1) (s9 + 6) ((JS.zz hT hM hR hs hN hc hL hq.1 hq.2).nn hN') (by omega) (by omega)
    clear hk hT hM hR hs hq hL hc
    repeat' first
      | exact absurd hc (by decide)
      | simp (disch := omega) only [ub_L_law_1645, ub_L_law_1686, ue_X10_thrown, t_X10_thrown, zLg, zRf, zFq, zEl, zNz, zUf, zUe, zUr, zCe, zSn, gd_0, gd_1, gd_2, gd_3, gd_4, gd_5, gd_6, gd_7, gd_8, gd_9, gd_10, gd_11, gd_12, gd_13, gd_14, gd_15, gd_16, gd_17, gd_18, gd_19, se_0, se_1, se_2, se_3, se_4, se_5, se_6, se_7, se_8, se_9, se_10, se_11, se_12, se_13, se_14, se_15, se_16, se_17, se_18, se_19, e_const, e_load, e_store, e_iinc, e_dup, e_dup2, e_pop, e_iadd, e_isub, e_imul, e_ladd, e_lsub, e_lmul, e_iaddw, e_isubw, e_imulw, e_laddw, e_lsubw, e_lmulw, e_iand, e_ior, e_ishl, e_ishr, e_iushr, e_lcmp, e_imax, e_imin, e_idiv, e_irem, e_ldiv, e_lrem, e_i2l, e_i2b, e_l2i, e_i2c, e_getF, e_getR, e_putF, e_putR, e_putz, e_ald, e_aldR, e_ast, e_astb, e_astz, e_asta, e_len, e_acopy, e_new, e_newa, e_mna, e_this, e_room, e_call0, e_callv0, e_call1, e_callv1, e_inv1, e_invv1, e_call2, e_callv2, e_inv2, e_invv2, e_call3, e_callv3, e_inv3, e_invv3, e_call4, e_callv4, e_inv4, e_invv4, e_call5, e_callv5, e_inv5, e_invv5, e_call6, e_callv6, e_inv6, e_invv6, e_call7, e_callv7, e_inv7, e_invv7, e_call8, e_callv8, e_inv8, e_invv8, e_ret, e_retz, e_retc, e_retb, e_retv, e_skip, e_sco, e_tlen, e_tat, e_iz_eq0, e_iz_eq1, e_iz_ne0, e_iz_ne1, add0, sc_d, sc_t, inI_e, inL_e, up_eq, true_or, or_true, or_false, false_or, and_true, true_and, not_false_eq_true, Int.reduceAdd, Int.reduceSub, Int.reduceMul, Int.reduceNeg, f0]
      | with_reducible first | refine izl_lt (fun hc => ?_) (fun hc => ?_) | refine izl_ge (fun hc => ?_) (fun hc => ?_) | refine izl_eq (fun hc => ?_) (fun hc => ?_) | refine ic_ge (fun hc => ?_) (fun hc => ?_) | refine ic_lt (fun hc => ?_) (fun hc => ?_) | refine ic_ne (fun hc => ?_) (fun hc => ?_) | refine ic_eq (fun hc => ?_) (fun hc => ?_) | refine ic_le (fun hc => ?_) (fun hc => ?_) | refine ic_gt (fun hc => ?_) (fun hc => ?_) | refine iz_eq (fun hc => ?_) (fun hc => ?_) | refine iz_ne (fun hc => ?_) (fun hc => ?_) | refine iz_lt (fun hc => ?_) (fun hc => ?_) | refine iz_ge (fun hc => ?_) (fun hc => ?_) | refine iz_gt (fun hc => ?_) (fun hc => ?_) | refine iz_le (fun hc => ?_) (fun hc => ?_) | refine iz_nu (fun hc => ?_) (fun hc => ?_) | refine iz_nn (fun hc => ?_) (fun hc => ?_)
      | omega
      | (exfalso; omega)
    all_goals exact ok
  · refine ⟨by omega, cX_led hT hM hs hw2 (fun _ => ?_) (fun z => absurd z hr)⟩
    refine ⟨by omega, show 0 < L (B + 345) by rw [hL]; decide, ?_⟩
    obtain ⟨v, hv⟩ : ∃ v : Int, v = r_led C ((sx (i + 1).toNat).toInt) := ⟨_, rfl⟩
    rw [← hv] at hr ⊢
    have hE : ∀ b j : Int, b ≠ B + 345 → up E (B + 345) 0 v b j = E b j := fun b j u => up_ne (by omega)
    have hM' := clM.yy hT hM hs (fun b j u => ⟨rfl, rfl, hE b j (by omega)⟩)
    have hR' := hR.ox hE
    have eo : up E (B + 345) 0 v (B + 345) 0 = v := up_eq
    try simp (disch := omega) only [e_sld, zLg, zRf, zFq, zEl, zNz, zUf, zUe, zUr, zCe, zSn, gd_0, gd_1, gd_2, gd_3, gd_4, gd_5, gd_6, gd_7, gd_8, gd_9, gd_10, gd_11, gd_12, gd_13, gd_14, gd_15, gd_16, gd_17, gd_18, gd_19, se_0, se_1, se_2, se_3, se_4, se_5, se_6, se_7, se_8, se_9, se_10, se_11, se_12, se_13, se_14, se_15, se_16, se_17, se_18, se_19, e_const, e_load, e_store, e_iinc, e_dup, e_dup2, e_pop, e_iadd, e_isub, e_imul, e_ladd, e_lsub, e_lmul, e_iaddw, e_isubw, e_imulw, e_laddw, e_lsubw, e_lmulw, e_iand, e_ior, e_ishl, e_ishr, e_iushr, e_lcmp, e_imax, e_imin, e_idiv, e_irem, e_ldiv, e_lrem, e_i2l, e_i2b, e_l2i, e_i2c, e_getF, e_getR, e_putF, e_putR, e_putz, e_ald, e_aldR, e_ast, e_astb, e_astz, e_asta, e_len, e_acopy, e_new, e_newa, e_mna, e_this, e_room, e_call0, e_callv0, e_call1, e_callv1, e_inv1, e_invv1, e_call2, e_callv2, e_inv2, e_invv2, e_call3, e_callv3, e_inv3, e_invv3, e_call4, e_callv4, e_inv4, e_invv4, e_call5, e_callv5, e_inv5, e_invv5, e_call6, e_callv6, e_inv6, e_invv6, e_call7, e_callv7, e_inv7, e_invv7, e_call8, e_callv8, e_inv8, e_invv8, e_ret, e_retz, e_retc, e_retb, e_retv, e_skip, e_sco, e_tlen, e_tat, e_iz_eq0, e_iz_eq1, e_iz_ne0, e_iz_ne1, add0, sc_d, sc_t, inI_e, inL_e, up_eq, true_or, or_true, or_false, false_or, and_true, true_and, not_false_eq_true, Int.reduceAdd, Int.reduceSub, Int.reduceMul, Int.reduceNeg]
    generalize up E (B + 345) 0 v = E1 at *
    refine cM_led hR' hs (fun _ F2 E2 f0 hq => ?_) (fun z => absurd (hv.trans z) hr)
    rw [← hv]
    have e2 : E2 (B + 345) 0 = v := (hq.2 _ _ (by omega) (by omega) (by omega)).trans eo
    have ok := hk 0 v L R F2 E2 N (c9 + 1) (s9 + 6) (JS.zz hT hM' hR' hs hN hc hL hq.1 hq.2) (by omega) (by omega)
    clear hk hT hM hR hs hq hc hM' hR' hE eo
    repeat' first
      | exact absurd hc (by decide)
      | simp (disch := omega) only [ub_L_law_1645, ub_L_law_1686, ue_X10_thrown, t_X10_thrown, zLg, zRf, zFq, zEl, zNz, zUf, zUe, zUr, zCe, zSn, gd_0, gd_1, gd_2, gd_3, gd_4, gd_5, gd_6, gd_7, gd_8, gd_9, gd_10, gd_11, gd_12, gd_13, gd_14, gd_15, gd_16, gd_17, gd_18, gd_19, se_0, se_1, se_2, se_3, se_4, se_5, se_6, se_7, se_8, se_9, se_10, se_11, se_12, se_13, se_14, se_15, se_16, se_17, se_18, se_19, e_const, e_load, e_store, e_iinc, e_dup, e_dup2, e_pop, e_iadd, e_isub, e_imul, e_ladd, e_lsub, e_lmul, e_iaddw, e_isubw, e_imulw, e_laddw, e_lsubw, e_lmulw, e_iand, e_ior, e_ishl, e_ishr, e_iushr, e_lcmp, e_imax, e_imin, e_idiv, e_irem, e_ldiv, e_lrem, e_i2l, e_i2b, e_l2i, e_i2c, e_getF, e_getR, e_putF, e_putR, e_putz, e_ald, e_aldR, e_ast, e_astb, e_astz, e_asta, e_len, e_acopy, e_new, e_newa, e_mna, e_this, e_room, e_call0, e_callv0, e_call1, e_callv1, e_inv1, e_invv1, e_call2, e_callv2, e_inv2, e_invv2, e_call3, e_callv3, e_inv3, e_invv3, e_call4, e_callv4, e_inv4, e_invv4, e_call5, e_callv5, e_inv5, e_invv5, e_call6, e_callv6, e_inv6, e_invv6, e_call7, e_callv7, e_inv7, e_invv7, e_call8, e_callv8, e_inv8, e_invv8, e_ret, e_retz, e_retc, e_retb, e_retv, e_skip, e_sco, e_tlen, e_tat, e_iz_eq0, e_iz_eq1, e_iz_ne0, e_iz_ne1, add0, sc_d, sc_t, inI_e, inL_e, up_eq, true_or, or_true, or_false, false_or, and_true, true_and, not_false_eq_true, Int.reduceAdd, Int.reduceSub, Int.reduceMul, Int.reduceNeg, f0, e2, hL]
      | with_reducible first | refine izl_lt (fun hc => ?_) (fun hc => ?_) | refine izl_ge (fun hc => ?_) (fun hc => ?_) | refine izl_eq (fun hc => ?_) (fun hc => ?_) | refine ic_ge (fun hc => ?_) (fun hc => ?_) | refine ic_lt (fun hc => ?_) (fun hc => ?_) | refine ic_ne (fun hc => ?_) (fun hc => ?_) | refine ic_eq (fun hc => ?_) (fun hc => ?_) | refine ic_le (fun hc => ?_) (fun hc => ?_) | refine ic_gt (fun hc => ?_) (fun hc => ?_) | refine iz_eq (fun hc => ?_) (fun hc => ?_) | refine iz_ne (fun hc => ?_) (fun hc => ?_) | refine iz_lt (fun hc => ?_) (fun hc => ?_) | refine iz_ge (fun hc => ?_) (fun hc => ?_) | refine iz_gt (fun hc => ?_) (fun hc => ?_) | refine iz_le (fun hc => ?_) (fun hc => ?_) | refine iz_nu (fun hc => ?_) (fun hc => ?_) | refine iz_nn (fun hc => ?_) (fun hc => ?_)
      | omega
      | (exfalso; omega)
    all_goals exact ok
set_option maxRecDepth 100000 in
set_option maxHeartbeats 8000000 in
theorem law_loop (hsL : sL ≤ 3584) (hJ : JS B L R F E N) (hQ : ∀ h : xH, Q 1 h) (hc : c9 ≤ 400) (hs : s9 ≤ 20000) : L_L_law_23 sL sx Q [s0, B, B + 329, B + 345, 0, x5, x6] [] (L, R, F, E, N) c9 s9 := by
  unfold L_L_law_23
  refine lpw (fun nn lo st h c d => ∃ (j : Nat) (x5 x6 : Int) (L1 : Int → Int) (R1 F1 E1 : Int → Int → Int) (N1 : Nat), lo = [s0, B, B + 329, B + 345, 7 * (j : Int), x5, x6] ∧ st = [] ∧ h = (L1, R1, F1, E1, N1) ∧ JS B L1 R1 F1 E1 N1 ∧ j ≤ 512 ∧ (nn : Int) = 600 - (j : Int) ∧ c ≤ 400 + 24 * j ∧ d ≤ 20000 + 400 * j) ?_ (n := 600) ⟨0, x5, x6, L, R, F, E, N, rfl, rfl, rfl, hJ, by omega, by omega, by omega, by omega⟩
  rintro nn kk hkk lo st h c9 s9 ⟨j, x5, x6, L1, R1, F1, E1, N1, rfl, rfl, rfl, hJ2, j5, hnn, hcc, hdd⟩
  intro hfr
  have hz : frz N1 F1 E1 := fun b q u => ⟨(hfr b q u).1, (hfr b q u).2.1⟩
  clear hfr
  try simp (disch := omega) only [e_slen, zLg, zRf, zFq, zEl, zNz, zUf, zUe, zUr, zCe, zSn, gd_0, gd_1, gd_2, gd_3, gd_4, gd_5, gd_6, gd_7, gd_8, gd_9, gd_10, gd_11, gd_12, gd_13, gd_14, gd_15, gd_16, gd_17, gd_18, gd_19, se_0, se_1, se_2, se_3, se_4, se_5, se_6, se_7, se_8, se_9, se_10, se_11, se_12, se_13, se_14, se_15, se_16, se_17, se_18, se_19, e_const, e_load, e_store, e_iinc, e_dup, e_dup2, e_pop, e_iadd, e_isub, e_imul, e_ladd, e_lsub, e_lmul, e_iaddw, e_isubw, e_imulw, e_laddw, e_lsubw, e_lmulw, e_iand, e_ior, e_ishl, e_ishr, e_iushr, e_lcmp, e_imax, e_imin, e_idiv, e_irem, e_ldiv, e_lrem, e_i2l, e_i2b, e_l2i, e_i2c, e_getF, e_getR, e_putF, e_putR, e_putz, e_ald, e_aldR, e_ast, e_astb, e_astz, e_asta, e_len, e_acopy, e_new, e_newa, e_mna, e_this, e_room, e_call0, e_callv0, e_call1, e_callv1, e_inv1, e_invv1, e_call2, e_callv2, e_inv2, e_invv2, e_call3, e_callv3, e_inv3, e_invv3, e_call4, e_callv4, e_inv4, e_invv4, e_call5, e_callv5, e_inv5, e_invv5, e_call6, e_callv6, e_inv6, e_invv6, e_call7, e_callv7, e_inv7, e_invv7, e_call8, e_callv8, e_inv8, e_invv8, e_ret, e_retz, e_retc, e_retb, e_retv, e_skip, e_sco, e_tlen, e_tat, e_iz_eq0, e_iz_eq1, e_iz_ne0, e_iz_ne1, add0, sc_d, sc_t, inI_e, inL_e, up_eq, true_or, or_true, or_false, false_or, and_true, true_and, not_false_eq_true, Int.reduceAdd, Int.reduceSub, Int.reduceMul, Int.reduceNeg]
  refine ic_gt (fun y => ?_) (fun y => ?_)
  · try simp (disch := omega) only [zLg, zRf, zFq, zEl, zNz, zUf, zUe, zUr, zCe, zSn, gd_0, gd_1, gd_2, gd_3, gd_4, gd_5, gd_6, gd_7, gd_8, gd_9, gd_10, gd_11, gd_12, gd_13, gd_14, gd_15, gd_16, gd_17, gd_18, gd_19, se_0, se_1, se_2, se_3, se_4, se_5, se_6, se_7, se_8, se_9, se_10, se_11, se_12, se_13, se_14, se_15, se_16, se_17, se_18, se_19, e_const, e_load, e_store, e_iinc, e_dup, e_dup2, e_pop, e_iadd, e_isub, e_imul, e_ladd, e_lsub, e_lmul, e_iaddw, e_isubw, e_imulw, e_laddw, e_lsubw, e_lmulw, e_iand, e_ior, e_ishl, e_ishr, e_iushr, e_lcmp, e_imax, e_imin, e_idiv, e_irem, e_ldiv, e_lrem, e_i2l, e_i2b, e_l2i, e_i2c, e_getF, e_getR, e_putF, e_putR, e_putz, e_ald, e_aldR, e_ast, e_astb, e_astz, e_asta, e_len, e_acopy, e_new, e_newa, e_mna, e_this, e_room, e_call0, e_callv0, e_call1, e_callv1, e_inv1, e_invv1, e_call2, e_callv2, e_inv2, e_invv2, e_call3, e_callv3, e_inv3, e_invv3, e_call4, e_callv4, e_inv4, e_invv4, e_call5, e_callv5, e_inv5, e_invv5, e_call6, e_callv6, e_inv6, e_invv6, e_call7, e_callv7, e_inv7, e_invv7, e_call8, e_callv8, e_inv8, e_invv8, e_ret, e_retz, e_retc, e_retb, e_retv, e_skip, e_sco, e_tlen, e_tat, e_iz_eq0, e_iz_eq1, e_iz_ne0, e_iz_ne1, add0, sc_d, sc_t, inI_e, inL_e, up_eq, true_or, or_true, or_false, false_or, and_true, true_and, not_false_eq_true, Int.reduceAdd, Int.reduceSub, Int.reduceMul, Int.reduceNeg]
    exact hQ _
  try simp (disch := omega) only [e_slen, e_sld, zLg, zRf, zFq, zEl, zNz, zUf, zUe, zUr, zCe, zSn, gd_0, gd_1, gd_2, gd_3, gd_4, gd_5, gd_6, gd_7, gd_8, gd_9, gd_10, gd_11, gd_12, gd_13, gd_14, gd_15, gd_16, gd_17, gd_18, gd_19, se_0, se_1, se_2, se_3, se_4, se_5, se_6, se_7, se_8, se_9, se_10, se_11, se_12, se_13, se_14, se_15, se_16, se_17, se_18, se_19, e_const, e_load, e_store, e_iinc, e_dup, e_dup2, e_pop, e_iadd, e_isub, e_imul, e_ladd, e_lsub, e_lmul, e_iaddw, e_isubw, e_imulw, e_laddw, e_lsubw, e_lmulw, e_iand, e_ior, e_ishl, e_ishr, e_iushr, e_lcmp, e_imax, e_imin, e_idiv, e_irem, e_ldiv, e_lrem, e_i2l, e_i2b, e_l2i, e_i2c, e_getF, e_getR, e_putF, e_putR, e_putz, e_ald, e_aldR, e_ast, e_astb, e_astz, e_asta, e_len, e_acopy, e_new, e_newa, e_mna, e_this, e_room, e_call0, e_callv0, e_call1, e_callv1, e_inv1, e_invv1, e_call2, e_callv2, e_inv2, e_invv2, e_call3, e_callv3, e_inv3, e_invv3, e_call4, e_callv4, e_inv4, e_invv4, e_call5, e_callv5, e_inv5, e_invv5, e_call6, e_callv6, e_inv6, e_invv6, e_call7, e_callv7, e_inv7, e_invv7, e_call8, e_callv8, e_inv8, e_invv8, e_ret, e_retz, e_retc, e_retb, e_retv, e_skip, e_sco, e_tlen, e_tat, e_iz_eq0, e_iz_eq1, e_iz_ne0, e_iz_ne1, add0, sc_d, sc_t, inI_e, inL_e, up_eq, true_or, or_true, or_false, false_or, and_true, true_and, not_false_eq_true, Int.reduceAdd, Int.reduceSub, Int.reduceMul, Int.reduceNeg]
  have hk : ∀ (x5 x6 : Int) (L' : Int → Int) (R' F' E' : Int → Int → Int) (N' c' d' : Nat), JS B L' R' F' E' N' → c' ≤ c9 + 23 → d' ≤ s9 + 319 → kk [s0, B, B + 329, B + 345, 7 * (j : Int) + 7, x5, x6] [] (L', R', F', E', N') c' d' := fun y5 y6 L' R' F' E' N' c' d' hJ' u v => hkk (nn - 1) _ _ _ _ _ (by omega) ⟨j + 1, y5, y6, L', R', F', E', N', by rw [show 7 * ((j + 1 : Nat) : Int) = 7 * (j : Int) + 7 by omega], rfl, rfl, hJ', by omega, by omega, by omega, by omega⟩
  clear hkk
  refine ⟨?_, fun _ => ?_⟩
  · intro q k hq _
    match q, hq with
    | 0, hq =>
      cases hq
      exact cs_feed hJ2 (by omega) (by omega) hsL hk
    | 1, hq =>
      cases hq
      exact cs_city hJ2 (by omega) (by omega) hsL hk hz (by omega) (by omega)
    | 2, hq =>
      cases hq
      exact cs_fault hJ2 (by omega) (by omega) hsL hk
    | 3, hq =>
      cases hq
      exact cs_where hJ2 (by omega) (by omega) hsL hk
    | 4, hq =>
      cases hq
      exact cs_gate hJ2 (by omega) (by omega) hsL hk
    | 5, hq =>
      cases hq
      exact cs_fits hJ2 (by omega) (by omega) hsL hk
    | 6, hq =>
      cases hq
      exact cs_bars hJ2 (by omega) (by omega) hsL hk
    | 7, hq =>
      cases hq
      exact cs_deepest hJ2 (by omega) (by omega) hsL hk
    | 8, hq =>
      cases hq
      exact cs_deepestCut hJ2 (by omega) (by omega) hsL hk
    | 9, hq =>
      cases hq
      exact cs_pay hJ2 (by omega) (by omega) hsL hk
    | 10, hq =>
      cases hq
      exact cs_hours hJ2 (by omega) (by omega) hsL hk
    | 11, hq =>
      cases hq
      exact cs_payOf hJ2 (by omega) (by omega) hsL hk
    | 12, hq =>
      cases hq
      exact cs_hoursOf hJ2 (by omega) (by omega) hsL hk
    | 13, hq =>
      cases hq
      exact cs_loadsOf hJ2 (by omega) (by omega) hsL hk
    | 14, hq =>
      cases hq
      exact cs_gateOf hJ2 (by omega) (by omega) hsL hk
    | 15, hq =>
      cases hq
      exact cs_all hJ2 (by omega) (by omega) hsL hk
    | 16, hq =>
      cases hq
      exact cs_pass hJ2 (by omega) (by omega) hsL hk
    | 17, hq =>
      cases hq
      exact cs_anew hJ2 (by omega) (by omega) hsL hk
    | 18, hq =>
      cases hq
      exact cs_loads hJ2 (by omega) (by omega) hsL hk
    | 19, hq =>
      cases hq
      exact cs_load hJ2 (by omega) (by omega) hsL hk
    | 20, hq =>
      cases hq
      exact cs_cart hJ2 (by omega) (by omega) hsL hk
    | 21, hq =>
      cases hq
      exact cs_busy hJ2 (by omega) (by omega) hsL hk
    | 22, hq =>
      cases hq
      exact cs_tolls hJ2 (by omega) (by omega) hsL hk
    | 23, hq =>
      cases hq
      exact cs_worked hJ2 (by omega) (by omega) hsL hk
    | 24, hq =>
      cases hq
      exact cs_waited hJ2 (by omega) (by omega) hsL hk
    | 25, hq =>
      cases hq
      exact cs_mark hJ2 (by omega) (by omega) hsL hk
    | 26, hq =>
      cases hq
      exact cs_back hJ2 (by omega) (by omega) hsL hk
    | 27, hq =>
      cases hq
      exact cs_saves hJ2 (by omega) (by omega) hsL hk
    | 28, hq =>
      cases hq
      exact cs_breach hJ2 (by omega) (by omega) hsL hk
    | 29, hq =>
      cases hq
      exact cs_ram hJ2 (by omega) (by omega) hsL hk
    | 30, hq =>
      cases hq
      exact cs_ramBy hJ2 (by omega) (by omega) hsL hk
    | 31, hq =>
      cases hq
      exact cs_hold hJ2 (by omega) (by omega) hsL hk
    | 32, hq =>
      cases hq
      exact cs_stand hJ2 (by omega) (by omega) hsL hk
    | 33, hq =>
      cases hq
      exact cs_theft hJ2 (by omega) (by omega) hsL hk
    | 34, hq =>
      cases hq
      exact cs_widen hJ2 (by omega) (by omega) hsL hk
    | 35, hq =>
      cases hq
      exact cs_dig hJ2 (by omega) (by omega) hsL hk
    | 36, hq =>
      cases hq
      exact cs_close hJ2 (by omega) (by omega) hsL hk
    | 37, hq =>
      cases hq
      exact cs_undo hJ2 (by omega) (by omega) hsL hk
    | 38, hq =>
      cases hq
      exact cs_led hJ2 (by omega) (by omega) hsL hk (by omega) (by omega)
    | 39, hq =>
      cases hq
      exact cs_size hJ2 (by omega) (by omega) hsL hk
    | 40, hq =>
      cases hq
      exact cs_trouble hJ2 (by omega) (by omega) hsL hk
    | q + 41, hq => exact absurd hq (by simp)
  · try simp (disch := omega) only [ub_L_law_1686, zLg, zRf, zFq, zEl, zNz, zUf, zUe, zUr, zCe, zSn, gd_0, gd_1, gd_2, gd_3, gd_4, gd_5, gd_6, gd_7, gd_8, gd_9, gd_10, gd_11, gd_12, gd_13, gd_14, gd_15, gd_16, gd_17, gd_18, gd_19, se_0, se_1, se_2, se_3, se_4, se_5, se_6, se_7, se_8, se_9, se_10, se_11, se_12, se_13, se_14, se_15, se_16, se_17, se_18, se_19, e_const, e_load, e_store, e_iinc, e_dup, e_dup2, e_pop, e_iadd, e_isub, e_imul, e_ladd, e_lsub, e_lmul, e_iaddw, e_isubw, e_imulw, e_laddw, e_lsubw, e_lmulw, e_iand, e_ior, e_ishl, e_ishr, e_iushr, e_lcmp, e_imax, e_imin, e_idiv, e_irem, e_ldiv, e_lrem, e_i2l, e_i2b, e_l2i, e_i2c, e_getF, e_getR, e_putF, e_putR, e_putz, e_ald, e_aldR, e_ast, e_astb, e_astz, e_asta, e_len, e_acopy, e_new, e_newa, e_mna, e_this, e_room, e_call0, e_callv0, e_call1, e_callv1, e_inv1, e_invv1, e_call2, e_callv2, e_inv2, e_invv2, e_call3, e_callv3, e_inv3, e_invv3, e_call4, e_callv4, e_inv4, e_invv4, e_call5, e_callv5, e_inv5, e_invv5, e_call6, e_callv6, e_inv6, e_invv6, e_call7, e_callv7, e_inv7, e_invv7, e_call8, e_callv8, e_inv8, e_invv8, e_ret, e_retz, e_retc, e_retb, e_retv, e_skip, e_sco, e_tlen, e_tat, e_iz_eq0, e_iz_eq1, e_iz_ne0, e_iz_ne1, add0, sc_d, sc_t, inI_e, inL_e, up_eq, true_or, or_true, or_false, false_or, and_true, true_and, not_false_eq_true, Int.reduceAdd, Int.reduceSub, Int.reduceMul, Int.reduceNeg]
    exact hk x5 x6 L1 R1 F1 E1 N1 c9 s9 hJ2 (by omega) (by omega)
theorem ctM_z {a : Int} (hF : ∀ j : Int, F a j = 0) : ctM a zC F E := by
  have z0 : ∀ x y z : Int, zC x y z = 0 := fun _ _ _ => rfl
  unfold ctM
  simp only [z0]
  refine ⟨hF _, hF _, hF _, hF _, hF _, fun g a b => by omega, fun g w a b => by omega, fun g w a b => by omega, fun g w a b => by omega, fun g w a b => by omega, fun g a b => by omega, fun g a b => by omega⟩
theorem JS_0 (b : Nat) (hT : clT (b : Int) ((b : Int) + 2) L R) (d8 : R ((b : Int) + 240) 8 = (b : Int) + 2) (d9 : R ((b : Int) + 240) 9 = (b : Int) + 220) (hm : mtT ((b : Int) + 329) L R) (h3 : R ((b : Int) + 329) 3 = -1) (hF : ∀ q j : Int, (b : Int) ≤ q → (q ≠ (b : Int) + 329 ∨ j ≠ 2) → F q j = 0) (h2 : F ((b : Int) + 329) 2 = -1) (hL : L ((b : Int) + 345) = 1) : JS (b : Int) L R F E (b + 346) := by
  have hW : ctW zC := pw_w zC_W
  have w := dwD_ok hW
  have e1 : dwD zC 10 1 = 0 := rfl
  have z0 : ∀ x y z : Int, zC x y z = 0 := fun _ _ _ => rfl
  refine ⟨(b : Int) + 2, -23, zC, zf, 0, 0, 0, 0, dwD zC, 0, fun _ => dwD zC, 0, fun _ _ _ => 0, fun _ => 0, hT, ?_, ?_, ?_, by omega, by omega, hL⟩
  · refine ⟨ctM_z (fun j => hF _ _ (by omega) (by omega)), hF _ _ (by omega) (by omega), fun i u v => by omega, hF _ _ (by omega) (by omega), hF _ _ (by omega) (by omega), fun z => absurd z (by decide), fun o u v => absurd v (by rw [z0]; omega), fun z => absurd z (by rw [z0]; decide), d8, d9, ?_, ?_, fun z => absurd z (by rw [z0]; decide), hF _ _ (by omega) (by omega), fun i u v => by omega, ⟨hF _ _ (by omega) (by omega), fun i u v => by omega⟩, ⟨hF _ _ (by omega) (by omega), hF _ _ (by omega) (by omega), hF _ _ (by omega) (by omega), hF _ _ (by omega) (by omega)⟩⟩
    · rw [w.2.2]; exact hF _ _ (by omega) (by omega)
    · rw [e1]; exact hF _ _ (by omega) (by omega)
  · exact ⟨hm, hF _ _ (by omega) (by omega), fun i u v => by omega, hF _ _ (by omega) (by omega), hF _ _ (by omega) (by omega), by rw [h2, if_neg (by decide)], Or.inl ⟨h3, ⟨rfl, rfl, rfl, rfl, rfl⟩⟩, hF _ _ (by omega) (by omega), fun i u v => by omega, ⟨hF _ _ (by omega) (by omega), fun i u v => by omega⟩⟩
  · exact ⟨hW, Or.inl ⟨⟨rfl, rfl, rfl, rfl, rfl⟩, w.2.2, e1, rfl, rfl⟩, by omega, fun i u v => by omega, ⟨w.1, w.2.1, rfl, fun _ => rfl⟩, by omega, fun i u v => by omega, by omega, fun i u v => by omega⟩
theorem law_start (hsL : sL ≤ 3584) (hQ : ∀ h : xH, Q 1 h) {b : Nat} : E_L_law sL sx Q [s0, 0, 0, 0, 0, 0, 0] [] (L, R, F, E, b) 0 0 := by
  intro hfr
  have hz : ∀ q j : Int, (b : Int) ≤ q → F q j = 0 ∧ E q j = 0 ∧ R q j = -1 := hfr
  clear hfr
  have nk_329 : ((b + 329 : Nat) : Int) = (b : Int) + 329 := by omega
  have nk_345 : ((b + 345 : Nat) : Int) = (b : Int) + 345 := by omega
  try simp (disch := omega) only [zLg, zRf, zFq, zEl, zNz, zUf, zUe, zUr, zCe, zSn, gd_0, gd_1, gd_2, gd_3, gd_4, gd_5, gd_6, gd_7, gd_8, gd_9, gd_10, gd_11, gd_12, gd_13, gd_14, gd_15, gd_16, gd_17, gd_18, gd_19, se_0, se_1, se_2, se_3, se_4, se_5, se_6, se_7, se_8, se_9, se_10, se_11, se_12, se_13, se_14, se_15, se_16, se_17, se_18, se_19, e_const, e_load, e_store, e_iinc, e_dup, e_dup2, e_pop, e_iadd, e_isub, e_imul, e_ladd, e_lsub, e_lmul, e_iaddw, e_isubw, e_imulw, e_laddw, e_lsubw, e_lmulw, e_iand, e_ior, e_ishl, e_ishr, e_iushr, e_lcmp, e_imax, e_imin, e_idiv, e_irem, e_ldiv, e_lrem, e_i2l, e_i2b, e_l2i, e_i2c, e_getF, e_getR, e_putF, e_putR, e_putz, e_ald, e_aldR, e_ast, e_astb, e_astz, e_asta, e_len, e_acopy, e_new, e_newa, e_mna, e_this, e_room, e_call0, e_callv0, e_call1, e_callv1, e_inv1, e_invv1, e_call2, e_callv2, e_inv2, e_invv2, e_call3, e_callv3, e_inv3, e_invv3, e_call4, e_callv4, e_inv4, e_invv4, e_call5, e_callv5, e_inv5, e_invv5, e_call6, e_callv6, e_inv6, e_invv6, e_call7, e_callv7, e_inv7, e_invv7, e_call8, e_callv8, e_inv8, e_invv8, e_ret, e_retz, e_retc, e_retb, e_retv, e_skip, e_sco, e_tlen, e_tat, e_iz_eq0, e_iz_eq1, e_iz_ne0, e_iz_ne1, add0, sc_d, sc_t, inI_e, inL_e, up_eq, true_or, or_true, or_false, false_or, and_true, true_and, not_false_eq_true, Int.reduceAdd, Int.reduceSub, Int.reduceMul, Int.reduceNeg, Nat.add_assoc, Nat.reduceAdd]
  refine sX_newb (fun L1 R1 hT1 d8 d9 l1 r1 => ?_)
  try simp (disch := omega) only [zLg, zRf, zFq, zEl, zNz, zUf, zUe, zUr, zCe, zSn, gd_0, gd_1, gd_2, gd_3, gd_4, gd_5, gd_6, gd_7, gd_8, gd_9, gd_10, gd_11, gd_12, gd_13, gd_14, gd_15, gd_16, gd_17, gd_18, gd_19, se_0, se_1, se_2, se_3, se_4, se_5, se_6, se_7, se_8, se_9, se_10, se_11, se_12, se_13, se_14, se_15, se_16, se_17, se_18, se_19, e_const, e_load, e_store, e_iinc, e_dup, e_dup2, e_pop, e_iadd, e_isub, e_imul, e_ladd, e_lsub, e_lmul, e_iaddw, e_isubw, e_imulw, e_laddw, e_lsubw, e_lmulw, e_iand, e_ior, e_ishl, e_ishr, e_iushr, e_lcmp, e_imax, e_imin, e_idiv, e_irem, e_ldiv, e_lrem, e_i2l, e_i2b, e_l2i, e_i2c, e_getF, e_getR, e_putF, e_putR, e_putz, e_ald, e_aldR, e_ast, e_astb, e_astz, e_asta, e_len, e_acopy, e_new, e_newa, e_mna, e_this, e_room, e_call0, e_callv0, e_call1, e_callv1, e_inv1, e_invv1, e_call2, e_callv2, e_inv2, e_invv2, e_call3, e_callv3, e_inv3, e_invv3, e_call4, e_callv4, e_inv4, e_invv4, e_call5, e_callv5, e_inv5, e_invv5, e_call6, e_callv6, e_inv6, e_invv6, e_call7, e_callv7, e_inv7, e_invv7, e_call8, e_callv8, e_inv8, e_invv8, e_ret, e_retz, e_retc, e_retb, e_retv, e_skip, e_sco, e_tlen, e_tat, e_iz_eq0, e_iz_eq1, e_iz_ne0, e_iz_ne1, add0, sc_d, sc_t, inI_e, inL_e, up_eq, true_or, or_true, or_false, false_or, and_true, true_and, not_false_eq_true, Int.reduceAdd, Int.reduceSub, Int.reduceMul, Int.reduceNeg, Nat.add_assoc, Nat.reduceAdd, nk_329]
  intro hf2
  have hR1 : ∀ j : Int, R1 ((b : Int) + 329) j = -1 := fun j => (hf2 ((b : Int) + 329) j (show ((b + 329 : Nat) : Int) ≤ _ by omega)).2.2
  clear hf2
  try simp (disch := omega) only [zLg, zRf, zFq, zEl, zNz, zUf, zUe, zUr, zCe, zSn, gd_0, gd_1, gd_2, gd_3, gd_4, gd_5, gd_6, gd_7, gd_8, gd_9, gd_10, gd_11, gd_12, gd_13, gd_14, gd_15, gd_16, gd_17, gd_18, gd_19, se_0, se_1, se_2, se_3, se_4, se_5, se_6, se_7, se_8, se_9, se_10, se_11, se_12, se_13, se_14, se_15, se_16, se_17, se_18, se_19, e_const, e_load, e_store, e_iinc, e_dup, e_dup2, e_pop, e_iadd, e_isub, e_imul, e_ladd, e_lsub, e_lmul, e_iaddw, e_isubw, e_imulw, e_laddw, e_lsubw, e_lmulw, e_iand, e_ior, e_ishl, e_ishr, e_iushr, e_lcmp, e_imax, e_imin, e_idiv, e_irem, e_ldiv, e_lrem, e_i2l, e_i2b, e_l2i, e_i2c, e_getF, e_getR, e_putF, e_putR, e_putz, e_ald, e_aldR, e_ast, e_astb, e_astz, e_asta, e_len, e_acopy, e_new, e_newa, e_mna, e_this, e_room, e_call0, e_callv0, e_call1, e_callv1, e_inv1, e_invv1, e_call2, e_callv2, e_inv2, e_invv2, e_call3, e_callv3, e_inv3, e_invv3, e_call4, e_callv4, e_inv4, e_invv4, e_call5, e_callv5, e_inv5, e_invv5, e_call6, e_callv6, e_inv6, e_invv6, e_call7, e_callv7, e_inv7, e_invv7, e_call8, e_callv8, e_inv8, e_invv8, e_ret, e_retz, e_retc, e_retb, e_retv, e_skip, e_sco, e_tlen, e_tat, e_iz_eq0, e_iz_eq1, e_iz_ne0, e_iz_ne1, add0, sc_d, sc_t, inI_e, inL_e, up_eq, true_or, or_true, or_false, false_or, and_true, true_and, not_false_eq_true, Int.reduceAdd, Int.reduceSub, Int.reduceMul, Int.reduceNeg, Nat.add_assoc, Nat.reduceAdd, nk_329]
  refine sM_new (by omega) (by omega) (fun L2 R2 hm m3 l2 r2 => ?_)
  try simp (disch := omega) only [zLg, zRf, zFq, zEl, zNz, zUf, zUe, zUr, zCe, zSn, gd_0, gd_1, gd_2, gd_3, gd_4, gd_5, gd_6, gd_7, gd_8, gd_9, gd_10, gd_11, gd_12, gd_13, gd_14, gd_15, gd_16, gd_17, gd_18, gd_19, se_0, se_1, se_2, se_3, se_4, se_5, se_6, se_7, se_8, se_9, se_10, se_11, se_12, se_13, se_14, se_15, se_16, se_17, se_18, se_19, e_const, e_load, e_store, e_iinc, e_dup, e_dup2, e_pop, e_iadd, e_isub, e_imul, e_ladd, e_lsub, e_lmul, e_iaddw, e_isubw, e_imulw, e_laddw, e_lsubw, e_lmulw, e_iand, e_ior, e_ishl, e_ishr, e_iushr, e_lcmp, e_imax, e_imin, e_idiv, e_irem, e_ldiv, e_lrem, e_i2l, e_i2b, e_l2i, e_i2c, e_getF, e_getR, e_putF, e_putR, e_putz, e_ald, e_aldR, e_ast, e_astb, e_astz, e_asta, e_len, e_acopy, e_new, e_newa, e_mna, e_this, e_room, e_call0, e_callv0, e_call1, e_callv1, e_inv1, e_invv1, e_call2, e_callv2, e_inv2, e_invv2, e_call3, e_callv3, e_inv3, e_invv3, e_call4, e_callv4, e_inv4, e_invv4, e_call5, e_callv5, e_inv5, e_invv5, e_call6, e_callv6, e_inv6, e_invv6, e_call7, e_callv7, e_inv7, e_invv7, e_call8, e_callv8, e_inv8, e_invv8, e_ret, e_retz, e_retc, e_retb, e_retv, e_skip, e_sco, e_tlen, e_tat, e_iz_eq0, e_iz_eq1, e_iz_ne0, e_iz_ne1, add0, sc_d, sc_t, inI_e, inL_e, up_eq, true_or, or_true, or_false, false_or, and_true, true_and, not_false_eq_true, Int.reduceAdd, Int.reduceSub, Int.reduceMul, Int.reduceNeg, zSa, Nat.add_assoc, Nat.reduceAdd, Int.reduceToNat, nk_345]
  refine law_loop hsL (JS_0 b ?_ ?_ ?_ ?_ ?_ ?_ up_eq (us_e2 rfl)) hQ (by decide) (by decide)
  · exact hT1.yy (fun q u v => by rw [us_n (by omega)]; exact l2 q (by omega)) (fun q j u => r2 q j (by omega))
  · rw [r2 _ _ (by omega)]; exact d8
  · rw [r2 _ _ (by omega)]; exact d9
  · exact hm.gg (fun q u v => us_n (by omega)) (fun _ _ => rfl)
  · rw [m3]; exact hR1 3
  · intro q j u v
    rw [up_ne (by omega)]
    exact (hz q j u).1
end LAWL

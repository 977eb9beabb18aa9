/-! ===== widen, close, dig, undo of the reference ===== -/
section ACTM
variable {L : Int → Int} {R R' F F' E E' : Int → Int → Int} {N : Nat} {Q : xQ} {B a m c fd tr fa pl k n t i j g x y z w h r p r0 p0 r1 p1 x0 x1 x2 x3 x4 x5 : Int} {C : Cy} {tp : Int → Int} {D : Int → Int → Int} {M H : Int → Int → Int → Int} {HN : Int → Int}
theorem cM_widen (hM0 : rfM m c C tp fd tr fa pl D k M n H HN L R F E) (hs : stW C tp fd tr D k M n H HN) (h1 : (ok_widen C g w h) → ∀ F' E' : Int → Int → Int, rfM m c (unC C (wdC C g w h 2) (C 0 1 0)) tp fd 0 fa pl (dwD (unC C (wdC C g w h 2) (C 0 1 0))) 0 M (n - shf n + 1) (kpH C n H) (kpN C n HN) L R F' E' → fM m R R F F' E E' → Q 1 (L, R, F', E', N)) (h0 : ∀ (F' E' : Int → Int → Int) (v t : Int), ¬ (ok_widen C g w h) → (v, t) = rp_widen C g w h → qM m t (-1) F F' E E' → Q v (L, R, F', E', N)) : T_X10_widen [m, g, w, h] (L, R, F, E, N) Q := by
  have pm := mt_p (rx_t hM0)
  have hW := sw_w hs
  have bn := sw_n hs
  have bk := sw_k hs
  have bf := sw_f hs
  have b0 := cw_0 hW
  have b1 := cw_1 hW
  have b2 := cw_2 hW
  have b3 := cw_3 hW
  have b4 := cw_4 hW
  have hM := hM0.fq hs (F' := up F m 0 0) (E' := E) (fun b j z => up_ne (by omega)) (fun _ _ _ _ _ => rfl)
  have hqz : qN m F (up F m 0 0) E E := qN.z
  simp (disch := omega) only [t_X10_widen, ue_X10_widen, zLg, zRf, zFq, zEl, zNz, zUf, zUe, zUr, zCe, zSn, gd_0, gd_1, gd_2, gd_3, gd_4, gd_5, gd_6, gd_7, gd_8, gd_9, gd_10, gd_11, gd_12, gd_13, gd_14, gd_15, gd_16, gd_17, gd_18, gd_19, se_0, se_1, se_2, se_3, se_4, se_5, se_6, se_7, se_8, se_9, se_10, se_11, se_12, se_13, se_14, se_15, se_16, se_17, se_18, se_19, e_const, e_load, e_store, e_iinc, e_dup, e_dup2, e_pop, e_iadd, e_isub, e_imul, e_ladd, e_lsub, e_lmul, e_iaddw, e_isubw, e_imulw, e_laddw, e_lsubw, e_lmulw, e_iand, e_ior, e_ishl, e_ishr, e_iushr, e_lcmp, e_imax, e_imin, e_idiv, e_irem, e_ldiv, e_lrem, e_i2l, e_i2b, e_l2i, e_i2c, e_getF, e_getR, e_putF, e_putR, e_putz, e_ald, e_aldR, e_ast, e_astb, e_astz, e_asta, e_len, e_acopy, e_new, e_newa, e_mna, e_this, e_room, e_call0, e_callv0, e_call1, e_callv1, e_inv1, e_invv1, e_call2, e_callv2, e_inv2, e_invv2, e_call3, e_callv3, e_inv3, e_invv3, e_call4, e_callv4, e_inv4, e_invv4, e_call5, e_callv5, e_inv5, e_invv5, e_call6, e_callv6, e_inv6, e_invv6, e_call7, e_callv7, e_inv7, e_invv7, e_call8, e_callv8, e_inv8, e_invv8, e_ret, e_retz, e_retc, e_retb, e_retv, e_skip, e_sco, e_tlen, e_tat, e_iz_eq0, e_iz_eq1, e_iz_ne0, e_iz_ne1, add0, sc_d, sc_t, inI_e, inL_e, up_eq, true_or, or_true, or_false, false_or, and_true, true_and, not_false_eq_true, Int.reduceAdd, Int.reduceSub, Int.reduceMul, Int.reduceNeg]
  generalize up F m 0 0 = F1 at *
  have hS := rx_st hM
  by_cases hg : 0 ≤ g ∧ g < C 0 1 0
  · have hz : 0 < C 0 0 0 := ring_of (x := 0) hs (by omega)
    obtain ⟨hdS, hdM⟩ := rx_y hM hz
    have hTm := es_t hdS
    have hTc := es_c hdS
    have hRc := es_3 hdS
    have hmM := es_m hdS
    have hmc := es_mc hdS
    have pc := mc_p hTc
    have e2 := mm_g hmM g 2 hg.1 hg.2 (by omega) (by omega)
    have e3 := mm_g hmM g 3 hg.1 hg.2 (by omega) (by omega)
    have c6 := cw_g6 hW g hg.1 hg.2
    have r16 := mt_16 hTm
    have l2 := mt_l2 hTm
    by_cases hok : ok_widen C g w h
    · have hok' := hok
      obtain ⟨-, ow, oh, oc, om⟩ := hok'
      have sb := shf_b n bn.1 bn.2
      have fin : B_X10_widen_76 Q [m, g, w, h, 0] [] (L, R, F1, E, N) 0 0 := by
        simp (disch := omega) only [ub_X10_widen_76, zLg, zRf, zFq, zEl, zNz, zUf, zUe, zUr, zCe, zSn, gd_0, gd_1, gd_2, gd_3, gd_4, gd_5, gd_6, gd_7, gd_8, gd_9, gd_10, gd_11, gd_12, gd_13, gd_14, gd_15, gd_16, gd_17, gd_18, gd_19, se_0, se_1, se_2, se_3, se_4, se_5, se_6, se_7, se_8, se_9, se_10, se_11, se_12, se_13, se_14, se_15, se_16, se_17, se_18, se_19, e_const, e_load, e_store, e_iinc, e_dup, e_dup2, e_pop, e_iadd, e_isub, e_imul, e_ladd, e_lsub, e_lmul, e_iaddw, e_isubw, e_imulw, e_laddw, e_lsubw, e_lmulw, e_iand, e_ior, e_ishl, e_ishr, e_iushr, e_lcmp, e_imax, e_imin, e_idiv, e_irem, e_ldiv, e_lrem, e_i2l, e_i2b, e_l2i, e_i2c, e_getF, e_getR, e_putF, e_putR, e_putz, e_ald, e_aldR, e_ast, e_astb, e_astz, e_asta, e_len, e_acopy, e_new, e_newa, e_mna, e_this, e_room, e_call0, e_callv0, e_call1, e_callv1, e_inv1, e_invv1, e_call2, e_callv2, e_inv2, e_invv2, e_call3, e_callv3, e_inv3, e_invv3, e_call4, e_callv4, e_inv4, e_invv4, e_call5, e_callv5, e_inv5, e_invv5, e_call6, e_callv6, e_inv6, e_invv6, e_call7, e_callv7, e_inv7, e_invv7, e_call8, e_callv8, e_inv8, e_invv8, e_ret, e_retz, e_retc, e_retb, e_retv, e_skip, e_sco, e_tlen, e_tat, e_iz_eq0, e_iz_eq1, e_iz_ne0, e_iz_ne1, add0, sc_d, sc_t, inI_e, inL_e, up_eq, true_or, or_true, or_false, false_or, and_true, true_and, not_false_eq_true, Int.reduceAdd, Int.reduceSub, Int.reduceMul, Int.reduceNeg]
        refine sM_keeps hTm (rx_a hM).1 bn.1 bn.2 (fun E2 k1 k2 k3 k4 k5 F2 k6 k7 => ?_)
        have e2' : E2 (m + 2) (7 * g + 2) = C 2 g 2 := (k1 _ _ (by omega) (by omega)).trans e2
        have e3' : E2 (m + 2) (7 * g + 3) = C 2 g 3 := (k1 _ _ (by omega) (by omega)).trans e3
        have fin2 : ∀ v2 v3 : Int, v2 = max (C 2 g 2) w → v3 = max (C 2 g 3) h → B_X10_widen_155 Q [m, g, w, h, 7 * g] [v3, 7 * g + 3, m + 2] (L, R, F2, up E2 (m + 2) (7 * g + 2) v2, N) 0 0 := by
          intro v2 v3 hv2 hv3
          simp (disch := omega) only [ub_X10_widen_155, zLg, zRf, zFq, zEl, zNz, zUf, zUe, zUr, zCe, zSn, gd_0, gd_1, gd_2, gd_3, gd_4, gd_5, gd_6, gd_7, gd_8, gd_9, gd_10, gd_11, gd_12, gd_13, gd_14, gd_15, gd_16, gd_17, gd_18, gd_19, se_0, se_1, se_2, se_3, se_4, se_5, se_6, se_7, se_8, se_9, se_10, se_11, se_12, se_13, se_14, se_15, se_16, se_17, se_18, se_19, e_const, e_load, e_store, e_iinc, e_dup, e_dup2, e_pop, e_iadd, e_isub, e_imul, e_ladd, e_lsub, e_lmul, e_iaddw, e_isubw, e_imulw, e_laddw, e_lsubw, e_lmulw, e_iand, e_ior, e_ishl, e_ishr, e_iushr, e_lcmp, e_imax, e_imin, e_idiv, e_irem, e_ldiv, e_lrem, e_i2l, e_i2b, e_l2i, e_i2c, e_getF, e_getR, e_putF, e_putR, e_putz, e_ald, e_aldR, e_ast, e_astb, e_astz, e_asta, e_len, e_acopy, e_new, e_newa, e_mna, e_this, e_room, e_call0, e_callv0, e_call1, e_callv1, e_inv1, e_invv1, e_call2, e_callv2, e_inv2, e_invv2, e_call3, e_callv3, e_inv3, e_invv3, e_call4, e_callv4, e_inv4, e_invv4, e_call5, e_callv5, e_inv5, e_invv5, e_call6, e_callv6, e_inv6, e_invv6, e_call7, e_callv7, e_inv7, e_invv7, e_call8, e_callv8, e_inv8, e_invv8, e_ret, e_retz, e_retc, e_retb, e_retv, e_skip, e_sco, e_tlen, e_tat, e_iz_eq0, e_iz_eq1, e_iz_ne0, e_iz_ne1, add0, sc_d, sc_t, inI_e, inL_e, up_eq, true_or, or_true, or_false, false_or, and_true, true_and, not_false_eq_true, Int.reduceAdd, Int.reduceSub, Int.reduceMul, Int.reduceNeg, l2]
          have qA : ∀ b j : Int, b ≠ m + 2 → up (up E2 (m + 2) (7 * g + 2) v2) (m + 2) (7 * g + 3) v3 b j = E2 b j := fun b j z => by rw [up_ne (by omega), up_ne (by omega)]
          have qE : ∀ b j : Int, (b ≠ m + 2 ∧ b ≠ m + 14 ∧ b ≠ m + 15) → up (up E2 (m + 2) (7 * g + 2) v2) (m + 2) (7 * g + 3) v3 b j = E b j := fun b j z => by rw [qA b j z.1]; exact k1 b j (by omega) (by omega)
          have qT : ∀ q z : Int, 0 ≤ q → q < C 0 1 0 → 0 ≤ z → z < 7 → up (up E2 (m + 2) (7 * g + 2) v2) (m + 2) (7 * g + 3) v3 (m + 2) (7 * q + z) = wdC C g w h 2 q z := fun q z q0 q1 z0 z1 => by
            by_cases a3 : q = g ∧ z = 3
            · rw [a3.1, a3.2, up_eq, wdC_3]; exact hv3
            · by_cases a2 : q = g ∧ z = 2
              · rw [a2.1, a2.2, up_ne (by omega), up_eq, wdC_2]; exact hv2
              · rw [up_ne (by omega), up_ne (by omega), wdC_ne (by omega), k1 _ _ (by omega) (by omega)]
                exact mm_g hmM q z q0 q1 z0 z1
          generalize up (up E2 (m + 2) (7 * g + 2) v2) (m + 2) (7 * g + 3) v3 = E3 at *
          have qF : ∀ b j : Int, (b ≠ m ∨ j ≠ 44) → F2 b j = F1 b j := k6
          have q17 : F2 m 17 = C 0 1 0 := (qF _ _ (by omega)).trans (mm_1 hmM)
          have q44 : F2 m 44 = F2 m 44 := rfl
          have hM2 : mM m c (unC C (wdC C g w h 2) (C 0 1 0)) F2 E3 := mM_un hmM hmc q17 qT (fun b j z => qF b j (by omega)) (fun b j z => qE b j (by omega))
          have hha : haM m (n - shf n + 1) (kpH C n H) (kpN C n HN) F2 E3 := haM_keep (rx_a hM) bn.1 bn.2 b1.2 (mm_g hmM) (q44.trans k7) (fun i q u v x y => by rw [qA _ _ (by omega)]; exact k2 i q u v x y) (fun q u v => by rw [qA _ _ (by omega)]; exact k3 q u v) (fun i u v => by rw [qA _ _ (by omega)]; exact k4 i u v) (by rw [qA _ _ (by omega), k5]; exact mm_1 hmM) (fun i u v => by have := (cw_1 (sw_h hs i u v).1).2; rw [unC_k] at this; exact this)
          refine sM_dawns hTm hTc hRc hM2 (wd_W hW ow oh) hmc (fun F4 E4 d1 d2 d3 d4 d5 => ?_)
          repeat' first
            | exact absurd hc (by decide)
            | simp (disch := omega) only [ue_X10_granted, t_X10_granted, ue_X10_good, t_X10_good, zLg, zRf, zFq, zEl, zNz, zUf, zUe, zUr, zCe, zSn, gd_0, gd_1, gd_2, gd_3, gd_4, gd_5, gd_6, gd_7, gd_8, gd_9, gd_10, gd_11, gd_12, gd_13, gd_14, gd_15, gd_16, gd_17, gd_18, gd_19, se_0, se_1, se_2, se_3, se_4, se_5, se_6, se_7, se_8, se_9, se_10, se_11, se_12, se_13, se_14, se_15, se_16, se_17, se_18, se_19, e_const, e_load, e_store, e_iinc, e_dup, e_dup2, e_pop, e_iadd, e_isub, e_imul, e_ladd, e_lsub, e_lmul, e_iaddw, e_isubw, e_imulw, e_laddw, e_lsubw, e_lmulw, e_iand, e_ior, e_ishl, e_ishr, e_iushr, e_lcmp, e_imax, e_imin, e_idiv, e_irem, e_ldiv, e_lrem, e_i2l, e_i2b, e_l2i, e_i2c, e_getF, e_getR, e_putF, e_putR, e_putz, e_ald, e_aldR, e_ast, e_astb, e_astz, e_asta, e_len, e_acopy, e_new, e_newa, e_mna, e_this, e_room, e_call0, e_callv0, e_call1, e_callv1, e_inv1, e_invv1, e_call2, e_callv2, e_inv2, e_invv2, e_call3, e_callv3, e_inv3, e_invv3, e_call4, e_callv4, e_inv4, e_invv4, e_call5, e_callv5, e_inv5, e_invv5, e_call6, e_callv6, e_inv6, e_invv6, e_call7, e_callv7, e_inv7, e_invv7, e_call8, e_callv8, e_inv8, e_invv8, e_ret, e_retz, e_retc, e_retb, e_retv, e_skip, e_sco, e_tlen, e_tat, e_iz_eq0, e_iz_eq1, e_iz_ne0, e_iz_ne1, add0, sc_d, sc_t, inI_e, inL_e, up_eq, true_or, or_true, or_false, false_or, and_true, true_and, not_false_eq_true, Int.reduceAdd, Int.reduceSub, Int.reduceMul, Int.reduceNeg]
            | with_reducible first | refine izl_lt (fun hc => ?_) (fun hc => ?_) | refine izl_ge (fun hc => ?_) (fun hc => ?_) | refine izl_eq (fun hc => ?_) (fun hc => ?_) | refine ic_ge (fun hc => ?_) (fun hc => ?_) | refine ic_lt (fun hc => ?_) (fun hc => ?_) | refine ic_ne (fun hc => ?_) (fun hc => ?_) | refine ic_eq (fun hc => ?_) (fun hc => ?_) | refine ic_le (fun hc => ?_) (fun hc => ?_) | refine ic_gt (fun hc => ?_) (fun hc => ?_) | refine iz_eq (fun hc => ?_) (fun hc => ?_) | refine iz_ne (fun hc => ?_) (fun hc => ?_) | refine iz_lt (fun hc => ?_) (fun hc => ?_) | refine iz_ge (fun hc => ?_) (fun hc => ?_) | refine iz_gt (fun hc => ?_) (fun hc => ?_) | refine iz_le (fun hc => ?_) (fun hc => ?_) | refine iz_nu (fun hc => ?_) (fun hc => ?_) | refine iz_nn (fun hc => ?_) (fun hc => ?_)
            | omega
            | (exfalso; omega)
          all_goals exact h1 hok _ _ (rfP hTm ((qF _ _ (by omega)).trans (rx_6 hM)) (fun i u v => (qE _ _ (by omega)).trans (rx_tp hM i u v)) ((qF _ _ (by omega)).trans (rx_13 hM)) (by rw [unC_ne (by omega) (by omega)]; exact hz) hmc hha d1 d2 d3 d4 d5) (fun b j z => ⟨rfl, by rw [up_ne (by omega), up_ne (by omega), d1 b j (by omega), qF b j (by omega)]; exact hqz.1 b j (by omega), by rw [d2 b j (by omega)]; exact qE b j (by omega)⟩)
        repeat' first
          | exact absurd hc (by decide)
          | simp (disch := omega) only [ub_X10_widen_120, zLg, zRf, zFq, zEl, zNz, zUf, zUe, zUr, zCe, zSn, gd_0, gd_1, gd_2, gd_3, gd_4, gd_5, gd_6, gd_7, gd_8, gd_9, gd_10, gd_11, gd_12, gd_13, gd_14, gd_15, gd_16, gd_17, gd_18, gd_19, se_0, se_1, se_2, se_3, se_4, se_5, se_6, se_7, se_8, se_9, se_10, se_11, se_12, se_13, se_14, se_15, se_16, se_17, se_18, se_19, e_const, e_load, e_store, e_iinc, e_dup, e_dup2, e_pop, e_iadd, e_isub, e_imul, e_ladd, e_lsub, e_lmul, e_iaddw, e_isubw, e_imulw, e_laddw, e_lsubw, e_lmulw, e_iand, e_ior, e_ishl, e_ishr, e_iushr, e_lcmp, e_imax, e_imin, e_idiv, e_irem, e_ldiv, e_lrem, e_i2l, e_i2b, e_l2i, e_i2c, e_getF, e_getR, e_putF, e_putR, e_putz, e_ald, e_aldR, e_ast, e_astb, e_astz, e_asta, e_len, e_acopy, e_new, e_newa, e_mna, e_this, e_room, e_call0, e_callv0, e_call1, e_callv1, e_inv1, e_invv1, e_call2, e_callv2, e_inv2, e_invv2, e_call3, e_callv3, e_inv3, e_invv3, e_call4, e_callv4, e_inv4, e_invv4, e_call5, e_callv5, e_inv5, e_invv5, e_call6, e_callv6, e_inv6, e_invv6, e_call7, e_callv7, e_inv7, e_invv7, e_call8, e_callv8, e_inv8, e_invv8, e_ret, e_retz, e_retc, e_retb, e_retv, e_skip, e_sco, e_tlen, e_tat, e_iz_eq0, e_iz_eq1, e_iz_ne0, e_iz_ne1, add0, sc_d, sc_t, inI_e, inL_e, up_eq, true_or, or_true, or_false, false_or, and_true, true_and, not_false_eq_true, Int.reduceAdd, Int.reduceSub, Int.reduceMul, Int.reduceNeg, up_ne, r16, l2, e2', e3']
          | with_reducible first | refine izl_lt (fun hc => ?_) (fun hc => ?_) | refine izl_ge (fun hc => ?_) (fun hc => ?_) | refine izl_eq (fun hc => ?_) (fun hc => ?_) | refine ic_ge (fun hc => ?_) (fun hc => ?_) | refine ic_lt (fun hc => ?_) (fun hc => ?_) | refine ic_ne (fun hc => ?_) (fun hc => ?_) | refine ic_eq (fun hc => ?_) (fun hc => ?_) | refine ic_le (fun hc => ?_) (fun hc => ?_) | refine ic_gt (fun hc => ?_) (fun hc => ?_) | refine iz_eq (fun hc => ?_) (fun hc => ?_) | refine iz_ne (fun hc => ?_) (fun hc => ?_) | refine iz_lt (fun hc => ?_) (fun hc => ?_) | refine iz_ge (fun hc => ?_) (fun hc => ?_) | refine iz_gt (fun hc => ?_) (fun hc => ?_) | refine iz_le (fun hc => ?_) (fun hc => ?_) | refine iz_nu (fun hc => ?_) (fun hc => ?_) | refine iz_nn (fun hc => ?_) (fun hc => ?_)
          | omega
          | (exfalso; omega)
        all_goals exact fin2 _ _ (by omega) (by omega)
      repeat' first
        | exact absurd hc (by decide)
        | with_reducible refine sM_isGate pm hS (fun q1 q2 => ?_) (fun q => ?_)
        | with_reducible refine sM_isSize (fun q3 q4 => ?_) (fun q8 => ?_)
        | with_reducible refine sM_of hTm hmM hW ?_ ?_ ?_ ?_ ?_
        | simp (disch := omega) only [zLg, zRf, zFq, zEl, zNz, zUf, zUe, zUr, zCe, zSn, gd_0, gd_1, gd_2, gd_3, gd_4, gd_5, gd_6, gd_7, gd_8, gd_9, gd_10, gd_11, gd_12, gd_13, gd_14, gd_15, gd_16, gd_17, gd_18, gd_19, se_0, se_1, se_2, se_3, se_4, se_5, se_6, se_7, se_8, se_9, se_10, se_11, se_12, se_13, se_14, se_15, se_16, se_17, se_18, se_19, e_const, e_load, e_store, e_iinc, e_dup, e_dup2, e_pop, e_iadd, e_isub, e_imul, e_ladd, e_lsub, e_lmul, e_iaddw, e_isubw, e_imulw, e_laddw, e_lsubw, e_lmulw, e_iand, e_ior, e_ishl, e_ishr, e_iushr, e_lcmp, e_imax, e_imin, e_idiv, e_irem, e_ldiv, e_lrem, e_i2l, e_i2b, e_l2i, e_i2c, e_getF, e_getR, e_putF, e_putR, e_putz, e_ald, e_aldR, e_ast, e_astb, e_astz, e_asta, e_len, e_acopy, e_new, e_newa, e_mna, e_this, e_room, e_call0, e_callv0, e_call1, e_callv1, e_inv1, e_invv1, e_call2, e_callv2, e_inv2, e_invv2, e_call3, e_callv3, e_inv3, e_invv3, e_call4, e_callv4, e_inv4, e_invv4, e_call5, e_callv5, e_inv5, e_invv5, e_call6, e_callv6, e_inv6, e_invv6, e_call7, e_callv7, e_inv7, e_invv7, e_call8, e_callv8, e_inv8, e_invv8, e_ret, e_retz, e_retc, e_retb, e_retv, e_skip, e_sco, e_tlen, e_tat, e_iz_eq0, e_iz_eq1, e_iz_ne0, e_iz_ne1, add0, sc_d, sc_t, inI_e, inL_e, up_eq, true_or, or_true, or_false, false_or, and_true, true_and, not_false_eq_true, Int.reduceAdd, Int.reduceSub, Int.reduceMul, Int.reduceNeg]
        | with_reducible first | refine izl_lt (fun hc => ?_) (fun hc => ?_) | refine izl_ge (fun hc => ?_) (fun hc => ?_) | refine izl_eq (fun hc => ?_) (fun hc => ?_) | refine ic_ge (fun hc => ?_) (fun hc => ?_) | refine ic_lt (fun hc => ?_) (fun hc => ?_) | refine ic_ne (fun hc => ?_) (fun hc => ?_) | refine ic_eq (fun hc => ?_) (fun hc => ?_) | refine ic_le (fun hc => ?_) (fun hc => ?_) | refine ic_gt (fun hc => ?_) (fun hc => ?_) | refine iz_eq (fun hc => ?_) (fun hc => ?_) | refine iz_ne (fun hc => ?_) (fun hc => ?_) | refine iz_lt (fun hc => ?_) (fun hc => ?_) | refine iz_ge (fun hc => ?_) (fun hc => ?_) | refine iz_gt (fun hc => ?_) (fun hc => ?_) | refine iz_le (fun hc => ?_) (fun hc => ?_) | refine iz_nu (fun hc => ?_) (fun hc => ?_) | refine iz_nn (fun hc => ?_) (fun hc => ?_)
        | omega
        | (exfalso; omega)
      all_goals exact fin
    · have hno := hok
      repeat' first
        | exact absurd hc (by decide)
        | with_reducible refine sM_isGate pm hS (fun q1 q2 => ?_) (fun q => ?_)
        | with_reducible refine sM_isSize (fun q3 q4 => ?_) (fun q8 => ?_)
        | with_reducible refine sM_of hTm hmM hW ?_ ?_ ?_ ?_ ?_
        | simp (disch := omega) only [ub_X10_widen_33, ub_X10_widen_70, ue_X10_denied, t_X10_denied, ue_X10_refused, t_X10_refused, zLg, zRf, zFq, zEl, zNz, zUf, zUe, zUr, zCe, zSn, gd_0, gd_1, gd_2, gd_3, gd_4, gd_5, gd_6, gd_7, gd_8, gd_9, gd_10, gd_11, gd_12, gd_13, gd_14, gd_15, gd_16, gd_17, gd_18, gd_19, se_0, se_1, se_2, se_3, se_4, se_5, se_6, se_7, se_8, se_9, se_10, se_11, se_12, se_13, se_14, se_15, se_16, se_17, se_18, se_19, e_const, e_load, e_store, e_iinc, e_dup, e_dup2, e_pop, e_iadd, e_isub, e_imul, e_ladd, e_lsub, e_lmul, e_iaddw, e_isubw, e_imulw, e_laddw, e_lsubw, e_lmulw, e_iand, e_ior, e_ishl, e_ishr, e_iushr, e_lcmp, e_imax, e_imin, e_idiv, e_irem, e_ldiv, e_lrem, e_i2l, e_i2b, e_l2i, e_i2c, e_getF, e_getR, e_putF, e_putR, e_putz, e_ald, e_aldR, e_ast, e_astb, e_astz, e_asta, e_len, e_acopy, e_new, e_newa, e_mna, e_this, e_room, e_call0, e_callv0, e_call1, e_callv1, e_inv1, e_invv1, e_call2, e_callv2, e_inv2, e_invv2, e_call3, e_callv3, e_inv3, e_invv3, e_call4, e_callv4, e_inv4, e_invv4, e_call5, e_callv5, e_inv5, e_invv5, e_call6, e_callv6, e_inv6, e_invv6, e_call7, e_callv7, e_inv7, e_invv7, e_call8, e_callv8, e_inv8, e_invv8, e_ret, e_retz, e_retc, e_retb, e_retv, e_skip, e_sco, e_tlen, e_tat, e_iz_eq0, e_iz_eq1, e_iz_ne0, e_iz_ne1, add0, sc_d, sc_t, inI_e, inL_e, up_eq, true_or, or_true, or_false, false_or, and_true, true_and, not_false_eq_true, Int.reduceAdd, Int.reduceSub, Int.reduceMul, Int.reduceNeg]
        | with_reducible first | refine izl_lt (fun hc => ?_) (fun hc => ?_) | refine izl_ge (fun hc => ?_) (fun hc => ?_) | refine izl_eq (fun hc => ?_) (fun hc => ?_) | refine ic_ge (fun hc => ?_) (fun hc => ?_) | refine ic_lt (fun hc => ?_) (fun hc => ?_) | refine ic_ne (fun hc => ?_) (fun hc => ?_) | refine ic_eq (fun hc => ?_) (fun hc => ?_) | refine ic_le (fun hc => ?_) (fun hc => ?_) | refine ic_gt (fun hc => ?_) (fun hc => ?_) | refine iz_eq (fun hc => ?_) (fun hc => ?_) | refine iz_ne (fun hc => ?_) (fun hc => ?_) | refine iz_lt (fun hc => ?_) (fun hc => ?_) | refine iz_ge (fun hc => ?_) (fun hc => ?_) | refine iz_gt (fun hc => ?_) (fun hc => ?_) | refine iz_le (fun hc => ?_) (fun hc => ?_) | refine iz_nu (fun hc => ?_) (fun hc => ?_) | refine iz_nn (fun hc => ?_) (fun hc => ?_)
        | omega
        | (exfalso; omega)
      all_goals exact h0 _ _ _ _ (by omega) (by simp (disch := omega) only [rp_widen, if_pos, if_neg]) (qM.c hqz (by omega))
  · have hno : ¬ ok_widen C g w h := fun y => hg y.1
    repeat' first
      | exact absurd hc (by decide)
      | with_reducible refine sM_isGate pm hS (fun q1 q2 => ?_) (fun q => ?_)
      | simp (disch := omega) only [ue_X10_denied, t_X10_denied, ue_X10_refused, t_X10_refused, zLg, zRf, zFq, zEl, zNz, zUf, zUe, zUr, zCe, zSn, gd_0, gd_1, gd_2, gd_3, gd_4, gd_5, gd_6, gd_7, gd_8, gd_9, gd_10, gd_11, gd_12, gd_13, gd_14, gd_15, gd_16, gd_17, gd_18, gd_19, se_0, se_1, se_2, se_3, se_4, se_5, se_6, se_7, se_8, se_9, se_10, se_11, se_12, se_13, se_14, se_15, se_16, se_17, se_18, se_19, e_const, e_load, e_store, e_iinc, e_dup, e_dup2, e_pop, e_iadd, e_isub, e_imul, e_ladd, e_lsub, e_lmul, e_iaddw, e_isubw, e_imulw, e_laddw, e_lsubw, e_lmulw, e_iand, e_ior, e_ishl, e_ishr, e_iushr, e_lcmp, e_imax, e_imin, e_idiv, e_irem, e_ldiv, e_lrem, e_i2l, e_i2b, e_l2i, e_i2c, e_getF, e_getR, e_putF, e_putR, e_putz, e_ald, e_aldR, e_ast, e_astb, e_astz, e_asta, e_len, e_acopy, e_new, e_newa, e_mna, e_this, e_room, e_call0, e_callv0, e_call1, e_callv1, e_inv1, e_invv1, e_call2, e_callv2, e_inv2, e_invv2, e_call3, e_callv3, e_inv3, e_invv3, e_call4, e_callv4, e_inv4, e_invv4, e_call5, e_callv5, e_inv5, e_invv5, e_call6, e_callv6, e_inv6, e_invv6, e_call7, e_callv7, e_inv7, e_invv7, e_call8, e_callv8, e_inv8, e_invv8, e_ret, e_retz, e_retc, e_retb, e_retv, e_skip, e_sco, e_tlen, e_tat, e_iz_eq0, e_iz_eq1, e_iz_ne0, e_iz_ne1, add0, sc_d, sc_t, inI_e, inL_e, up_eq, true_or, or_true, or_false, false_or, and_true, true_and, not_false_eq_true, Int.reduceAdd, Int.reduceSub, Int.reduceMul, Int.reduceNeg]
      | with_reducible first | refine izl_lt (fun hc => ?_) (fun hc => ?_) | refine izl_ge (fun hc => ?_) (fun hc => ?_) | refine izl_eq (fun hc => ?_) (fun hc => ?_) | refine ic_ge (fun hc => ?_) (fun hc => ?_) | refine ic_lt (fun hc => ?_) (fun hc => ?_) | refine ic_ne (fun hc => ?_) (fun hc => ?_) | refine ic_eq (fun hc => ?_) (fun hc => ?_) | refine ic_le (fun hc => ?_) (fun hc => ?_) | refine ic_gt (fun hc => ?_) (fun hc => ?_) | refine iz_eq (fun hc => ?_) (fun hc => ?_) | refine iz_ne (fun hc => ?_) (fun hc => ?_) | refine iz_lt (fun hc => ?_) (fun hc => ?_) | refine iz_ge (fun hc => ?_) (fun hc => ?_) | refine iz_gt (fun hc => ?_) (fun hc => ?_) | refine iz_le (fun hc => ?_) (fun hc => ?_) | refine iz_nu (fun hc => ?_) (fun hc => ?_) | refine iz_nn (fun hc => ?_) (fun hc => ?_)
      | omega
      | (exfalso; omega)
    all_goals exact h0 _ _ _ _ hno (by simp (disch := omega) only [rp_widen, if_pos, if_neg]) (qM.c hqz (by omega))
theorem cM_close (hM0 : rfM m c C tp fd tr fa pl D k M n H HN L R F E) (hs : stW C tp fd tr D k M n H HN) (h1 : (ok_close C g) → ∀ F' E' : Int → Int → Int, rfM m c (unC C (tbC C g) (C 0 1 0)) tp fd 0 fa pl (dwD (unC C (tbC C g) (C 0 1 0))) 0 M (n - shf n + 1) (kpH C n H) (kpN C n HN) L R F' E' → fM m R R F F' E E' → Q 1 (L, R, F', E', N)) (h0 : ∀ (F' E' : Int → Int → Int) (v t : Int), ¬ (ok_close C g) → (v, t) = rp_close C g → qM m t (-1) F F' E E' → Q v (L, R, F', E', N)) : T_X10_close [m, g] (L, R, F, E, N) Q := by
  have pm := mt_p (rx_t hM0)
  have hW := sw_w hs
  have bn := sw_n hs
  have bk := sw_k hs
  have bf := sw_f hs
  have b0 := cw_0 hW
  have b1 := cw_1 hW
  have b2 := cw_2 hW
  have b3 := cw_3 hW
  have b4 := cw_4 hW
  have hM := hM0.fq hs (F' := up F m 0 0) (E' := E) (fun b j z => up_ne (by omega)) (fun _ _ _ _ _ => rfl)
  have hqz : qN m F (up F m 0 0) E E := qN.z
  simp (disch := omega) only [t_X10_close, ue_X10_close, zLg, zRf, zFq, zEl, zNz, zUf, zUe, zUr, zCe, zSn, gd_0, gd_1, gd_2, gd_3, gd_4, gd_5, gd_6, gd_7, gd_8, gd_9, gd_10, gd_11, gd_12, gd_13, gd_14, gd_15, gd_16, gd_17, gd_18, gd_19, se_0, se_1, se_2, se_3, se_4, se_5, se_6, se_7, se_8, se_9, se_10, se_11, se_12, se_13, se_14, se_15, se_16, se_17, se_18, se_19, e_const, e_load, e_store, e_iinc, e_dup, e_dup2, e_pop, e_iadd, e_isub, e_imul, e_ladd, e_lsub, e_lmul, e_iaddw, e_isubw, e_imulw, e_laddw, e_lsubw, e_lmulw, e_iand, e_ior, e_ishl, e_ishr, e_iushr, e_lcmp, e_imax, e_imin, e_idiv, e_irem, e_ldiv, e_lrem, e_i2l, e_i2b, e_l2i, e_i2c, e_getF, e_getR, e_putF, e_putR, e_putz, e_ald, e_aldR, e_ast, e_astb, e_astz, e_asta, e_len, e_acopy, e_new, e_newa, e_mna, e_this, e_room, e_call0, e_callv0, e_call1, e_callv1, e_inv1, e_invv1, e_call2, e_callv2, e_inv2, e_invv2, e_call3, e_callv3, e_inv3, e_invv3, e_call4, e_callv4, e_inv4, e_invv4, e_call5, e_callv5, e_inv5, e_invv5, e_call6, e_callv6, e_inv6, e_invv6, e_call7, e_callv7, e_inv7, e_invv7, e_call8, e_callv8, e_inv8, e_invv8, e_ret, e_retz, e_retc, e_retb, e_retv, e_skip, e_sco, e_tlen, e_tat, e_iz_eq0, e_iz_eq1, e_iz_ne0, e_iz_ne1, add0, sc_d, sc_t, inI_e, inL_e, up_eq, true_or, or_true, or_false, false_or, and_true, true_and, not_false_eq_true, Int.reduceAdd, Int.reduceSub, Int.reduceMul, Int.reduceNeg]
  generalize up F m 0 0 = F1 at *
  have hS := rx_st hM
  by_cases hg : 0 ≤ g ∧ g < C 0 1 0
  · have hz : 0 < C 0 0 0 := ring_of (x := 0) hs (by omega)
    obtain ⟨hdS, hdM⟩ := rx_y hM hz
    have hTm := es_t hdS
    have hTc := es_c hdS
    have hRc := es_3 hdS
    have hmM := es_m hdS
    have hmc := es_mc hdS
    have pc := mc_p hTc
    have c6 := cw_g6 hW g hg.1 hg.2
    have r16 := mt_16 hTm
    have l2 := mt_l2 hTm
    by_cases hok : ok_close C g
    · have oc := hok.2
      have sb := shf_b n bn.1 bn.2
      repeat' first
        | exact absurd hc (by decide)
        | with_reducible refine sM_isGate pm hS (fun q1 q2 => ?_) (fun q => ?_)
        | with_reducible refine sM_of hTm hmM hW ?_ ?_ ?_ ?_ ?_
        | simp (disch := omega) only [zLg, zRf, zFq, zEl, zNz, zUf, zUe, zUr, zCe, zSn, gd_0, gd_1, gd_2, gd_3, gd_4, gd_5, gd_6, gd_7, gd_8, gd_9, gd_10, gd_11, gd_12, gd_13, gd_14, gd_15, gd_16, gd_17, gd_18, gd_19, se_0, se_1, se_2, se_3, se_4, se_5, se_6, se_7, se_8, se_9, se_10, se_11, se_12, se_13, se_14, se_15, se_16, se_17, se_18, se_19, e_const, e_load, e_store, e_iinc, e_dup, e_dup2, e_pop, e_iadd, e_isub, e_imul, e_ladd, e_lsub, e_lmul, e_iaddw, e_isubw, e_imulw, e_laddw, e_lsubw, e_lmulw, e_iand, e_ior, e_ishl, e_ishr, e_iushr, e_lcmp, e_imax, e_imin, e_idiv, e_irem, e_ldiv, e_lrem, e_i2l, e_i2b, e_l2i, e_i2c, e_getF, e_getR, e_putF, e_putR, e_putz, e_ald, e_aldR, e_ast, e_astb, e_astz, e_asta, e_len, e_acopy, e_new, e_newa, e_mna, e_this, e_room, e_call0, e_callv0, e_call1, e_callv1, e_inv1, e_invv1, e_call2, e_callv2, e_inv2, e_invv2, e_call3, e_callv3, e_inv3, e_invv3, e_call4, e_callv4, e_inv4, e_invv4, e_call5, e_callv5, e_inv5, e_invv5, e_call6, e_callv6, e_inv6, e_invv6, e_call7, e_callv7, e_inv7, e_invv7, e_call8, e_callv8, e_inv8, e_invv8, e_ret, e_retz, e_retc, e_retb, e_retv, e_skip, e_sco, e_tlen, e_tat, e_iz_eq0, e_iz_eq1, e_iz_ne0, e_iz_ne1, add0, sc_d, sc_t, inI_e, inL_e, up_eq, true_or, or_true, or_false, false_or, and_true, true_and, not_false_eq_true, Int.reduceAdd, Int.reduceSub, Int.reduceMul, Int.reduceNeg]
        | with_reducible first | refine izl_lt (fun hc => ?_) (fun hc => ?_) | refine izl_ge (fun hc => ?_) (fun hc => ?_) | refine izl_eq (fun hc => ?_) (fun hc => ?_) | refine ic_ge (fun hc => ?_) (fun hc => ?_) | refine ic_lt (fun hc => ?_) (fun hc => ?_) | refine ic_ne (fun hc => ?_) (fun hc => ?_) | refine ic_eq (fun hc => ?_) (fun hc => ?_) | refine ic_le (fun hc => ?_) (fun hc => ?_) | refine ic_gt (fun hc => ?_) (fun hc => ?_) | refine iz_eq (fun hc => ?_) (fun hc => ?_) | refine iz_ne (fun hc => ?_) (fun hc => ?_) | refine iz_lt (fun hc => ?_) (fun hc => ?_) | refine iz_ge (fun hc => ?_) (fun hc => ?_) | refine iz_gt (fun hc => ?_) (fun hc => ?_) | refine iz_le (fun hc => ?_) (fun hc => ?_) | refine iz_nu (fun hc => ?_) (fun hc => ?_) | refine iz_nn (fun hc => ?_) (fun hc => ?_)
        | omega
        | (exfalso; omega)
      refine sM_keeps hTm (rx_a hM).1 bn.1 bn.2 (fun E2 k1 k2 k3 k4 k5 F2 k6 k7 => ?_)
      simp (disch := omega) only [zLg, zRf, zFq, zEl, zNz, zUf, zUe, zUr, zCe, zSn, gd_0, gd_1, gd_2, gd_3, gd_4, gd_5, gd_6, gd_7, gd_8, gd_9, gd_10, gd_11, gd_12, gd_13, gd_14, gd_15, gd_16, gd_17, gd_18, gd_19, se_0, se_1, se_2, se_3, se_4, se_5, se_6, se_7, se_8, se_9, se_10, se_11, se_12, se_13, se_14, se_15, se_16, se_17, se_18, se_19, e_const, e_load, e_store, e_iinc, e_dup, e_dup2, e_pop, e_iadd, e_isub, e_imul, e_ladd, e_lsub, e_lmul, e_iaddw, e_isubw, e_imulw, e_laddw, e_lsubw, e_lmulw, e_iand, e_ior, e_ishl, e_ishr, e_iushr, e_lcmp, e_imax, e_imin, e_idiv, e_irem, e_ldiv, e_lrem, e_i2l, e_i2b, e_l2i, e_i2c, e_getF, e_getR, e_putF, e_putR, e_putz, e_ald, e_aldR, e_ast, e_astb, e_astz, e_asta, e_len, e_acopy, e_new, e_newa, e_mna, e_this, e_room, e_call0, e_callv0, e_call1, e_callv1, e_inv1, e_invv1, e_call2, e_callv2, e_inv2, e_invv2, e_call3, e_callv3, e_inv3, e_invv3, e_call4, e_callv4, e_inv4, e_invv4, e_call5, e_callv5, e_inv5, e_invv5, e_call6, e_callv6, e_inv6, e_invv6, e_call7, e_callv7, e_inv7, e_invv7, e_call8, e_callv8, e_inv8, e_invv8, e_ret, e_retz, e_retc, e_retb, e_retv, e_skip, e_sco, e_tlen, e_tat, e_iz_eq0, e_iz_eq1, e_iz_ne0, e_iz_ne1, add0, sc_d, sc_t, inI_e, inL_e, up_eq, true_or, or_true, or_false, false_or, and_true, true_and, not_false_eq_true, Int.reduceAdd, Int.reduceSub, Int.reduceMul, Int.reduceNeg, r16, l2]
      have qA : ∀ b j : Int, b ≠ m + 2 → up E2 (m + 2) (7 * g + 6) 1 b j = E2 b j := fun b j z => by rw [up_ne (by omega)]
      have qE : ∀ b j : Int, (b ≠ m + 2 ∧ b ≠ m + 14 ∧ b ≠ m + 15) → up E2 (m + 2) (7 * g + 6) 1 b j = E b j := fun b j z => by rw [qA b j z.1]; exact k1 b j (by omega) (by omega)
      have qT : ∀ q z : Int, 0 ≤ q → q < C 0 1 0 → 0 ≤ z → z < 7 → up E2 (m + 2) (7 * g + 6) 1 (m + 2) (7 * q + z) = tbC C g q z := fun q z q0 q1 z0 z1 => by
        by_cases a3 : q = g ∧ z = 6
        · rw [a3.1, a3.2, up_eq, tbC_e]
        · rw [up_ne (by omega), tbC_n (by omega), k1 _ _ (by omega) (by omega)]
          exact mm_g hmM q z q0 q1 z0 z1
      generalize up E2 (m + 2) (7 * g + 6) 1 = E3 at *
      have qF : ∀ b j : Int, (b ≠ m ∨ j ≠ 44) → F2 b j = F1 b j := k6
      have q17 : F2 m 17 = C 0 1 0 := (qF _ _ (by omega)).trans (mm_1 hmM)
      have q44 : F2 m 44 = F2 m 44 := rfl
      have hM2 : mM m c (unC C (tbC C g) (C 0 1 0)) F2 E3 := mM_un hmM hmc q17 qT (fun b j z => qF b j (by omega)) (fun b j z => qE b j (by omega))
      have hha : haM m (n - shf n + 1) (kpH C n H) (kpN C n HN) F2 E3 := haM_keep (rx_a hM) bn.1 bn.2 b1.2 (mm_g hmM) (q44.trans k7) (fun i q u v x y => by rw [qA _ _ (by omega)]; exact k2 i q u v x y) (fun q u v => by rw [qA _ _ (by omega)]; exact k3 q u v) (fun i u v => by rw [qA _ _ (by omega)]; exact k4 i u v) (by rw [qA _ _ (by omega), k5]; exact mm_1 hmM) (fun i u v => by have := (cw_1 (sw_h hs i u v).1).2; rw [unC_k] at this; exact this)
      refine sM_dawns hTm hTc hRc hM2 (cl_W hW) hmc (fun F4 E4 d1 d2 d3 d4 d5 => ?_)
      repeat' first
        | exact absurd hc (by decide)
        | simp (disch := omega) only [ue_X10_granted, t_X10_granted, ue_X10_good, t_X10_good, zLg, zRf, zFq, zEl, zNz, zUf, zUe, zUr, zCe, zSn, gd_0, gd_1, gd_2, gd_3, gd_4, gd_5, gd_6, gd_7, gd_8, gd_9, gd_10, gd_11, gd_12, gd_13, gd_14, gd_15, gd_16, gd_17, gd_18, gd_19, se_0, se_1, se_2, se_3, se_4, se_5, se_6, se_7, se_8, se_9, se_10, se_11, se_12, se_13, se_14, se_15, se_16, se_17, se_18, se_19, e_const, e_load, e_store, e_iinc, e_dup, e_dup2, e_pop, e_iadd, e_isub, e_imul, e_ladd, e_lsub, e_lmul, e_iaddw, e_isubw, e_imulw, e_laddw, e_lsubw, e_lmulw, e_iand, e_ior, e_ishl, e_ishr, e_iushr, e_lcmp, e_imax, e_imin, e_idiv, e_irem, e_ldiv, e_lrem, e_i2l, e_i2b, e_l2i, e_i2c, e_getF, e_getR, e_putF, e_putR, e_putz, e_ald, e_aldR, e_ast, e_astb, e_astz, e_asta, e_len, e_acopy, e_new, e_newa, e_mna, e_this, e_room, e_call0, e_callv0, e_call1, e_callv1, e_inv1, e_invv1, e_call2, e_callv2, e_inv2, e_invv2, e_call3, e_callv3, e_inv3, e_invv3, e_call4, e_callv4, e_inv4, e_invv4, e_call5, e_callv5, e_inv5, e_invv5, e_call6, e_callv6, e_inv6, e_invv6, e_call7, e_callv7, e_inv7, e_invv7, e_call8, e_callv8, e_inv8, e_invv8, e_ret, e_retz, e_retc, e_retb, e_retv, e_skip, e_sco, e_tlen, e_tat, e_iz_eq0, e_iz_eq1, e_iz_ne0, e_iz_ne1, add0, sc_d, sc_t, inI_e, inL_e, up_eq, true_or, or_true, or_false, false_or, and_true, true_and, not_false_eq_true, Int.reduceAdd, Int.reduceSub, Int.reduceMul, Int.reduceNeg]
        | with_reducible first | refine izl_lt (fun hc => ?_) (fun hc => ?_) | refine izl_ge (fun hc => ?_) (fun hc => ?_) | refine izl_eq (fun hc => ?_) (fun hc => ?_) | refine ic_ge (fun hc => ?_) (fun hc => ?_) | refine ic_lt (fun hc => ?_) (fun hc => ?_) | refine ic_ne (fun hc => ?_) (fun hc => ?_) | refine ic_eq (fun hc => ?_) (fun hc => ?_) | refine ic_le (fun hc => ?_) (fun hc => ?_) | refine ic_gt (fun hc => ?_) (fun hc => ?_) | refine iz_eq (fun hc => ?_) (fun hc => ?_) | refine iz_ne (fun hc => ?_) (fun hc => ?_) | refine iz_lt (fun hc => ?_) (fun hc => ?_) | refine iz_ge (fun hc => ?_) (fun hc => ?_) | refine iz_gt (fun hc => ?_) (fun hc => ?_) | refine iz_le (fun hc => ?_) (fun hc => ?_) | refine iz_nu (fun hc => ?_) (fun hc => ?_) | refine iz_nn (fun hc => ?_) (fun hc => ?_)
        | omega
        | (exfalso; omega)
      all_goals exact h1 hok _ _ (rfP hTm ((qF _ _ (by omega)).trans (rx_6 hM)) (fun i u v => (qE _ _ (by omega)).trans (rx_tp hM i u v)) ((qF _ _ (by omega)).trans (rx_13 hM)) (by rw [unC_ne (by omega) (by omega)]; exact hz) hmc hha d1 d2 d3 d4 d5) (fun b j z => ⟨rfl, by rw [up_ne (by omega), up_ne (by omega), d1 b j (by omega), qF b j (by omega)]; exact hqz.1 b j (by omega), by rw [d2 b j (by omega)]; exact qE b j (by omega)⟩)
    · have hno := hok
      repeat' first
        | exact absurd hc (by decide)
        | with_reducible refine sM_isGate pm hS (fun q1 q2 => ?_) (fun q => ?_)
        | with_reducible refine sM_of hTm hmM hW ?_ ?_ ?_ ?_ ?_
        | simp (disch := omega) only [ue_X10_denied, t_X10_denied, ue_X10_refused, t_X10_refused, zLg, zRf, zFq, zEl, zNz, zUf, zUe, zUr, zCe, zSn, gd_0, gd_1, gd_2, gd_3, gd_4, gd_5, gd_6, gd_7, gd_8, gd_9, gd_10, gd_11, gd_12, gd_13, gd_14, gd_15, gd_16, gd_17, gd_18, gd_19, se_0, se_1, se_2, se_3, se_4, se_5, se_6, se_7, se_8, se_9, se_10, se_11, se_12, se_13, se_14, se_15, se_16, se_17, se_18, se_19, e_const, e_load, e_store, e_iinc, e_dup, e_dup2, e_pop, e_iadd, e_isub, e_imul, e_ladd, e_lsub, e_lmul, e_iaddw, e_isubw, e_imulw, e_laddw, e_lsubw, e_lmulw, e_iand, e_ior, e_ishl, e_ishr, e_iushr, e_lcmp, e_imax, e_imin, e_idiv, e_irem, e_ldiv, e_lrem, e_i2l, e_i2b, e_l2i, e_i2c, e_getF, e_getR, e_putF, e_putR, e_putz, e_ald, e_aldR, e_ast, e_astb, e_astz, e_asta, e_len, e_acopy, e_new, e_newa, e_mna, e_this, e_room, e_call0, e_callv0, e_call1, e_callv1, e_inv1, e_invv1, e_call2, e_callv2, e_inv2, e_invv2, e_call3, e_callv3, e_inv3, e_invv3, e_call4, e_callv4, e_inv4, e_invv4, e_call5, e_callv5, e_inv5, e_invv5, e_call6, e_callv6, e_inv6, e_invv6, e_call7, e_callv7, e_inv7, e_invv7, e_call8, e_callv8, e_inv8, e_invv8, e_ret, e_retz, e_retc, e_retb, e_retv, e_skip, e_sco, e_tlen, e_tat, e_iz_eq0, e_iz_eq1, e_iz_ne0, e_iz_ne1, add0, sc_d, sc_t, inI_e, inL_e, up_eq, true_or, or_true, or_false, false_or, and_true, true_and, not_false_eq_true, Int.reduceAdd, Int.reduceSub, Int.reduceMul, Int.reduceNeg]
        | with_reducible first | refine izl_lt (fun hc => ?_) (fun hc => ?_) | refine izl_ge (fun hc => ?_) (fun hc => ?_) | refine izl_eq (fun hc => ?_) (fun hc => ?_) | refine ic_ge (fun hc => ?_) (fun hc => ?_) | refine ic_lt (fun hc => ?_) (fun hc => ?_) | refine ic_ne (fun hc => ?_) (fun hc => ?_) | refine ic_eq (fun hc => ?_) (fun hc => ?_) | refine ic_le (fun hc => ?_) (fun hc => ?_) | refine ic_gt (fun hc => ?_) (fun hc => ?_) | refine iz_eq (fun hc => ?_) (fun hc => ?_) | refine iz_ne (fun hc => ?_) (fun hc => ?_) | refine iz_lt (fun hc => ?_) (fun hc => ?_) | refine iz_ge (fun hc => ?_) (fun hc => ?_) | refine iz_gt (fun hc => ?_) (fun hc => ?_) | refine iz_le (fun hc => ?_) (fun hc => ?_) | refine iz_nu (fun hc => ?_) (fun hc => ?_) | refine iz_nn (fun hc => ?_) (fun hc => ?_)
        | omega
        | (exfalso; omega)
      all_goals exact h0 _ _ _ _ (by omega) (by simp (disch := omega) only [rp_close, if_pos, if_neg]) (qM.c hqz (by omega))
  · have hno : ¬ ok_close C g := fun y => hg y.1
    repeat' first
      | exact absurd hc (by decide)
      | with_reducible refine sM_isGate pm hS (fun q1 q2 => ?_) (fun q => ?_)
      | simp (disch := omega) only [ue_X10_denied, t_X10_denied, ue_X10_refused, t_X10_refused, zLg, zRf, zFq, zEl, zNz, zUf, zUe, zUr, zCe, zSn, gd_0, gd_1, gd_2, gd_3, gd_4, gd_5, gd_6, gd_7, gd_8, gd_9, gd_10, gd_11, gd_12, gd_13, gd_14, gd_15, gd_16, gd_17, gd_18, gd_19, se_0, se_1, se_2, se_3, se_4, se_5, se_6, se_7, se_8, se_9, se_10, se_11, se_12, se_13, se_14, se_15, se_16, se_17, se_18, se_19, e_const, e_load, e_store, e_iinc, e_dup, e_dup2, e_pop, e_iadd, e_isub, e_imul, e_ladd, e_lsub, e_lmul, e_iaddw, e_isubw, e_imulw, e_laddw, e_lsubw, e_lmulw, e_iand, e_ior, e_ishl, e_ishr, e_iushr, e_lcmp, e_imax, e_imin, e_idiv, e_irem, e_ldiv, e_lrem, e_i2l, e_i2b, e_l2i, e_i2c, e_getF, e_getR, e_putF, e_putR, e_putz, e_ald, e_aldR, e_ast, e_astb, e_astz, e_asta, e_len, e_acopy, e_new, e_newa, e_mna, e_this, e_room, e_call0, e_callv0, e_call1, e_callv1, e_inv1, e_invv1, e_call2, e_callv2, e_inv2, e_invv2, e_call3, e_callv3, e_inv3, e_invv3, e_call4, e_callv4, e_inv4, e_invv4, e_call5, e_callv5, e_inv5, e_invv5, e_call6, e_callv6, e_inv6, e_invv6, e_call7, e_callv7, e_inv7, e_invv7, e_call8, e_callv8, e_inv8, e_invv8, e_ret, e_retz, e_retc, e_retb, e_retv, e_skip, e_sco, e_tlen, e_tat, e_iz_eq0, e_iz_eq1, e_iz_ne0, e_iz_ne1, add0, sc_d, sc_t, inI_e, inL_e, up_eq, true_or, or_true, or_false, false_or, and_true, true_and, not_false_eq_true, Int.reduceAdd, Int.reduceSub, Int.reduceMul, Int.reduceNeg]
      | with_reducible first | refine izl_lt (fun hc => ?_) (fun hc => ?_) | refine izl_ge (fun hc => ?_) (fun hc => ?_) | refine izl_eq (fun hc => ?_) (fun hc => ?_) | refine ic_ge (fun hc => ?_) (fun hc => ?_) | refine ic_lt (fun hc => ?_) (fun hc => ?_) | refine ic_ne (fun hc => ?_) (fun hc => ?_) | refine ic_eq (fun hc => ?_) (fun hc => ?_) | refine ic_le (fun hc => ?_) (fun hc => ?_) | refine ic_gt (fun hc => ?_) (fun hc => ?_) | refine iz_eq (fun hc => ?_) (fun hc => ?_) | refine iz_ne (fun hc => ?_) (fun hc => ?_) | refine iz_lt (fun hc => ?_) (fun hc => ?_) | refine iz_ge (fun hc => ?_) (fun hc => ?_) | refine iz_gt (fun hc => ?_) (fun hc => ?_) | refine iz_le (fun hc => ?_) (fun hc => ?_) | refine iz_nu (fun hc => ?_) (fun hc => ?_) | refine iz_nn (fun hc => ?_) (fun hc => ?_)
      | omega
      | (exfalso; omega)
    all_goals exact h0 _ _ _ _ hno (by simp (disch := omega) only [rp_close, if_pos, if_neg]) (qM.c hqz (by omega))
theorem cM_dig (hM0 : rfM m c C tp fd tr fa pl D k M n H HN L R F E) (hs : stW C tp fd tr D k M n H HN) (h1 : (ok_dig C r p w h x y) → ∀ F' E' : Int → Int → Int, rfM m c (unC C (tbD C r p w h x y) (C 0 1 0 + 1)) tp fd 0 fa pl (dwD (unC C (tbD C r p w h x y) (C 0 1 0 + 1))) 0 M (n - shf n + 1) (kpH C n H) (kpN C n HN) L R F' E' → fM m R R F F' E E' → Q (C 0 1 0) (L, R, F', E', N)) (h0 : ∀ (F' E' : Int → Int → Int) (v t : Int), ¬ (ok_dig C r p w h x y) → (v, t) = rp_dig C r p w h x y → qM m t (-1) F F' E E' → Q v (L, R, F', E', N)) : T_X10_dig [m, r, p, w, h, x, y] (L, R, F, E, N) Q := by
  have pm := mt_p (rx_t hM0)
  have hW := sw_w hs
  have bn := sw_n hs
  have bk := sw_k hs
  have bf := sw_f hs
  have b0 := cw_0 hW
  have b1 := cw_1 hW
  have b2 := cw_2 hW
  have b3 := cw_3 hW
  have b4 := cw_4 hW
  have hM := hM0.fq hs (F' := up F m 0 0) (E' := E) (fun b j z => up_ne (by omega)) (fun _ _ _ _ _ => rfl)
  have hqz : qN m F (up F m 0 0) E E := qN.z
  simp (disch := omega) only [t_X10_dig, ue_X10_dig, zLg, zRf, zFq, zEl, zNz, zUf, zUe, zUr, zCe, zSn, gd_0, gd_1, gd_2, gd_3, gd_4, gd_5, gd_6, gd_7, gd_8, gd_9, gd_10, gd_11, gd_12, gd_13, gd_14, gd_15, gd_16, gd_17, gd_18, gd_19, se_0, se_1, se_2, se_3, se_4, se_5, se_6, se_7, se_8, se_9, se_10, se_11, se_12, se_13, se_14, se_15, se_16, se_17, se_18, se_19, e_const, e_load, e_store, e_iinc, e_dup, e_dup2, e_pop, e_iadd, e_isub, e_imul, e_ladd, e_lsub, e_lmul, e_iaddw, e_isubw, e_imulw, e_laddw, e_lsubw, e_lmulw, e_iand, e_ior, e_ishl, e_ishr, e_iushr, e_lcmp, e_imax, e_imin, e_idiv, e_irem, e_ldiv, e_lrem, e_i2l, e_i2b, e_l2i, e_i2c, e_getF, e_getR, e_putF, e_putR, e_putz, e_ald, e_aldR, e_ast, e_astb, e_astz, e_asta, e_len, e_acopy, e_new, e_newa, e_mna, e_this, e_room, e_call0, e_callv0, e_call1, e_callv1, e_inv1, e_invv1, e_call2, e_callv2, e_inv2, e_invv2, e_call3, e_callv3, e_inv3, e_invv3, e_call4, e_callv4, e_inv4, e_invv4, e_call5, e_callv5, e_inv5, e_invv5, e_call6, e_callv6, e_inv6, e_invv6, e_call7, e_callv7, e_inv7, e_invv7, e_call8, e_callv8, e_inv8, e_invv8, e_ret, e_retz, e_retc, e_retb, e_retv, e_skip, e_sco, e_tlen, e_tat, e_iz_eq0, e_iz_eq1, e_iz_ne0, e_iz_ne1, add0, sc_d, sc_t, inI_e, inL_e, up_eq, true_or, or_true, or_false, false_or, and_true, true_and, not_false_eq_true, Int.reduceAdd, Int.reduceSub, Int.reduceMul, Int.reduceNeg]
  generalize up F m 0 0 = F1 at *
  have hS := rx_st hM
  by_cases hz : 0 < C 0 0 0
  · obtain ⟨hdS, hdM⟩ := rx_y hM hz
    have hTm := es_t hdS
    have hTc := es_c hdS
    have hRc := es_3 hdS
    have hmM := es_m hdS
    have hmc := es_mc hdS
    have pc := mc_p hTc
    have e0 := mm_0 hmM
    have e1 := mm_1 hmM
    have r16 := mt_16 hTm
    have l2 := mt_l2 hTm
    by_cases hok : ok_dig C r p w h x y
    · have hok' := hok
      obtain ⟨o1, o2, o3, o4, o5, o6, o7⟩ := hok'
      have sb := shf_b n bn.1 bn.2
      repeat' first
        | exact absurd hc (by decide)
        | with_reducible refine sM_within (fun q3 q4 => ?_) (fun q8 => ?_)
        | with_reducible refine sM_isSize (fun q3 q4 => ?_) (fun q8 => ?_)
        | simp (disch := omega) only [zLg, zRf, zFq, zEl, zNz, zUf, zUe, zUr, zCe, zSn, gd_0, gd_1, gd_2, gd_3, gd_4, gd_5, gd_6, gd_7, gd_8, gd_9, gd_10, gd_11, gd_12, gd_13, gd_14, gd_15, gd_16, gd_17, gd_18, gd_19, se_0, se_1, se_2, se_3, se_4, se_5, se_6, se_7, se_8, se_9, se_10, se_11, se_12, se_13, se_14, se_15, se_16, se_17, se_18, se_19, e_const, e_load, e_store, e_iinc, e_dup, e_dup2, e_pop, e_iadd, e_isub, e_imul, e_ladd, e_lsub, e_lmul, e_iaddw, e_isubw, e_imulw, e_laddw, e_lsubw, e_lmulw, e_iand, e_ior, e_ishl, e_ishr, e_iushr, e_lcmp, e_imax, e_imin, e_idiv, e_irem, e_ldiv, e_lrem, e_i2l, e_i2b, e_l2i, e_i2c, e_getF, e_getR, e_putF, e_putR, e_putz, e_ald, e_aldR, e_ast, e_astb, e_astz, e_asta, e_len, e_acopy, e_new, e_newa, e_mna, e_this, e_room, e_call0, e_callv0, e_call1, e_callv1, e_inv1, e_invv1, e_call2, e_callv2, e_inv2, e_invv2, e_call3, e_callv3, e_inv3, e_invv3, e_call4, e_callv4, e_inv4, e_invv4, e_call5, e_callv5, e_inv5, e_invv5, e_call6, e_callv6, e_inv6, e_invv6, e_call7, e_callv7, e_inv7, e_invv7, e_call8, e_callv8, e_inv8, e_invv8, e_ret, e_retz, e_retc, e_retb, e_retv, e_skip, e_sco, e_tlen, e_tat, e_iz_eq0, e_iz_eq1, e_iz_ne0, e_iz_ne1, add0, sc_d, sc_t, inI_e, inL_e, up_eq, true_or, or_true, or_false, false_or, and_true, true_and, not_false_eq_true, Int.reduceAdd, Int.reduceSub, Int.reduceMul, Int.reduceNeg, hRc, e0, e1]
        | with_reducible first | refine izl_lt (fun hc => ?_) (fun hc => ?_) | refine izl_ge (fun hc => ?_) (fun hc => ?_) | refine izl_eq (fun hc => ?_) (fun hc => ?_) | refine ic_ge (fun hc => ?_) (fun hc => ?_) | refine ic_lt (fun hc => ?_) (fun hc => ?_) | refine ic_ne (fun hc => ?_) (fun hc => ?_) | refine ic_eq (fun hc => ?_) (fun hc => ?_) | refine ic_le (fun hc => ?_) (fun hc => ?_) | refine ic_gt (fun hc => ?_) (fun hc => ?_) | refine iz_eq (fun hc => ?_) (fun hc => ?_) | refine iz_ne (fun hc => ?_) (fun hc => ?_) | refine iz_lt (fun hc => ?_) (fun hc => ?_) | refine iz_ge (fun hc => ?_) (fun hc => ?_) | refine iz_gt (fun hc => ?_) (fun hc => ?_) | refine iz_le (fun hc => ?_) (fun hc => ?_) | refine iz_nu (fun hc => ?_) (fun hc => ?_) | refine iz_nn (fun hc => ?_) (fun hc => ?_)
        | omega
        | (exfalso; omega)
      refine sM_keeps hTm (rx_a hM).1 bn.1 bn.2 (fun E2 k1 k2 k3 k4 k5 F2 k6 k7 => ?_)
      have e1' : F2 m 17 = C 0 1 0 := (k6 _ _ (by omega)).trans e1
      simp (disch := omega) only [ue_X10_sets, t_X10_sets, zLg, zRf, zFq, zEl, zNz, zUf, zUe, zUr, zCe, zSn, gd_0, gd_1, gd_2, gd_3, gd_4, gd_5, gd_6, gd_7, gd_8, gd_9, gd_10, gd_11, gd_12, gd_13, gd_14, gd_15, gd_16, gd_17, gd_18, gd_19, se_0, se_1, se_2, se_3, se_4, se_5, se_6, se_7, se_8, se_9, se_10, se_11, se_12, se_13, se_14, se_15, se_16, se_17, se_18, se_19, e_const, e_load, e_store, e_iinc, e_dup, e_dup2, e_pop, e_iadd, e_isub, e_imul, e_ladd, e_lsub, e_lmul, e_iaddw, e_isubw, e_imulw, e_laddw, e_lsubw, e_lmulw, e_iand, e_ior, e_ishl, e_ishr, e_iushr, e_lcmp, e_imax, e_imin, e_idiv, e_irem, e_ldiv, e_lrem, e_i2l, e_i2b, e_l2i, e_i2c, e_getF, e_getR, e_putF, e_putR, e_putz, e_ald, e_aldR, e_ast, e_astb, e_astz, e_asta, e_len, e_acopy, e_new, e_newa, e_mna, e_this, e_room, e_call0, e_callv0, e_call1, e_callv1, e_inv1, e_invv1, e_call2, e_callv2, e_inv2, e_invv2, e_call3, e_callv3, e_inv3, e_invv3, e_call4, e_callv4, e_inv4, e_invv4, e_call5, e_callv5, e_inv5, e_invv5, e_call6, e_callv6, e_inv6, e_invv6, e_call7, e_callv7, e_inv7, e_invv7, e_call8, e_callv8, e_inv8, e_invv8, e_ret, e_retz, e_retc, e_retb, e_retv, e_skip, e_sco, e_tlen, e_tat, e_iz_eq0, e_iz_eq1, e_iz_ne0, e_iz_ne1, add0, sc_d, sc_t, inI_e, inL_e, up_eq, true_or, or_true, or_false, false_or, and_true, true_and, not_false_eq_true, Int.reduceAdd, Int.reduceSub, Int.reduceMul, Int.reduceNeg, r16, l2, e1']
      have qA : ∀ b j : Int, b ≠ m + 2 → (up (up (up (up (up (up (up E2 (m + 2) (7 * C 0 1 0 + 0) r) (m + 2) (7 * C 0 1 0 + 1) p) (m + 2) (7 * C 0 1 0 + 2) w) (m + 2) (7 * C 0 1 0 + 3) h) (m + 2) (7 * C 0 1 0 + 4) x) (m + 2) (7 * C 0 1 0 + 5) y) (m + 2) (7 * C 0 1 0 + 6) 0) b j = E2 b j := fun b j z => by simp (disch := omega) only [up_ne]
      have qE : ∀ b j : Int, (b ≠ m + 2 ∧ b ≠ m + 14 ∧ b ≠ m + 15) → (up (up (up (up (up (up (up E2 (m + 2) (7 * C 0 1 0 + 0) r) (m + 2) (7 * C 0 1 0 + 1) p) (m + 2) (7 * C 0 1 0 + 2) w) (m + 2) (7 * C 0 1 0 + 3) h) (m + 2) (7 * C 0 1 0 + 4) x) (m + 2) (7 * C 0 1 0 + 5) y) (m + 2) (7 * C 0 1 0 + 6) 0) b j = E b j := fun b j z => by rw [qA b j z.1]; exact k1 b j (by omega) (by omega)
      have qT : ∀ q z : Int, 0 ≤ q → q < C 0 1 0 + 1 → 0 ≤ z → z < 7 → (up (up (up (up (up (up (up E2 (m + 2) (7 * C 0 1 0 + 0) r) (m + 2) (7 * C 0 1 0 + 1) p) (m + 2) (7 * C 0 1 0 + 2) w) (m + 2) (7 * C 0 1 0 + 3) h) (m + 2) (7 * C 0 1 0 + 4) x) (m + 2) (7 * C 0 1 0 + 5) y) (m + 2) (7 * C 0 1 0 + 6) 0) (m + 2) (7 * q + z) = tbD C r p w h x y q z := fun q z q0 q1 z0 z1 => by
        by_cases a3 : q = C 0 1 0
        · rw [a3, tbD_e]
          have hz : z = 0 ∨ z = 1 ∨ z = 2 ∨ z = 3 ∨ z = 4 ∨ z = 5 ∨ z = 6 := by omega
          rcases hz with rfl | rfl | rfl | rfl | rfl | rfl | rfl
          all_goals
            simp (disch := omega) only [up_ne, up_eq]
            rfl
        · rw [tbD_n a3]
          simp (disch := omega) only [up_ne]
          rw [k1 _ _ (by omega) (by omega)]
          exact mm_g hmM q z q0 (by omega) z0 z1
      generalize up (up (up (up (up (up (up E2 (m + 2) (7 * C 0 1 0 + 0) r) (m + 2) (7 * C 0 1 0 + 1) p) (m + 2) (7 * C 0 1 0 + 2) w) (m + 2) (7 * C 0 1 0 + 3) h) (m + 2) (7 * C 0 1 0 + 4) x) (m + 2) (7 * C 0 1 0 + 5) y) (m + 2) (7 * C 0 1 0 + 6) 0 = E3 at *
      have qF : ∀ b j : Int, (b ≠ m ∨ (j ≠ 44 ∧ j ≠ 17)) → up F2 m 17 (C 0 1 0 + 1) b j = F1 b j := fun b j z => by rw [up_ne (by omega)]; exact k6 b j (by omega)
      have q17 : up F2 m 17 (C 0 1 0 + 1) m 17 = C 0 1 0 + 1 := up_eq
      have q44 : up F2 m 17 (C 0 1 0 + 1) m 44 = F2 m 44 := up_ne (by omega)
      generalize up F2 m 17 (C 0 1 0 + 1) = F3 at *
      have hM2 : mM m c (unC C (tbD C r p w h x y) (C 0 1 0 + 1)) F3 E3 := mM_un hmM hmc q17 qT (fun b j z => qF b j (by omega)) (fun b j z => qE b j (by omega))
      have hha : haM m (n - shf n + 1) (kpH C n H) (kpN C n HN) F3 E3 := haM_keep (rx_a hM) bn.1 bn.2 b1.2 (mm_g hmM) (q44.trans k7) (fun i q u v x y => by rw [qA _ _ (by omega)]; exact k2 i q u v x y) (fun q u v => by rw [qA _ _ (by omega)]; exact k3 q u v) (fun i u v => by rw [qA _ _ (by omega)]; exact k4 i u v) (by rw [qA _ _ (by omega), k5]; exact mm_1 hmM) (fun i u v => by have := (cw_1 (sw_h hs i u v).1).2; rw [unC_k] at this; exact this)
      refine sM_dawns hTm hTc hRc hM2 (dg_W hW hok) hmc (fun F4 E4 d1 d2 d3 d4 d5 => ?_)
      have e17 : F4 m 17 = C 0 1 0 + 1 := (d1 _ _ (by omega)).trans q17
      have hv : C 0 1 0 + 1 - 1 = C 0 1 0 := by omega
      repeat' first
        | exact absurd hc (by decide)
        | simp (disch := omega) only [ue_X10_good, t_X10_good, zLg, zRf, zFq, zEl, zNz, zUf, zUe, zUr, zCe, zSn, gd_0, gd_1, gd_2, gd_3, gd_4, gd_5, gd_6, gd_7, gd_8, gd_9, gd_10, gd_11, gd_12, gd_13, gd_14, gd_15, gd_16, gd_17, gd_18, gd_19, se_0, se_1, se_2, se_3, se_4, se_5, se_6, se_7, se_8, se_9, se_10, se_11, se_12, se_13, se_14, se_15, se_16, se_17, se_18, se_19, e_const, e_load, e_store, e_iinc, e_dup, e_dup2, e_pop, e_iadd, e_isub, e_imul, e_ladd, e_lsub, e_lmul, e_iaddw, e_isubw, e_imulw, e_laddw, e_lsubw, e_lmulw, e_iand, e_ior, e_ishl, e_ishr, e_iushr, e_lcmp, e_imax, e_imin, e_idiv, e_irem, e_ldiv, e_lrem, e_i2l, e_i2b, e_l2i, e_i2c, e_getF, e_getR, e_putF, e_putR, e_putz, e_ald, e_aldR, e_ast, e_astb, e_astz, e_asta, e_len, e_acopy, e_new, e_newa, e_mna, e_this, e_room, e_call0, e_callv0, e_call1, e_callv1, e_inv1, e_invv1, e_call2, e_callv2, e_inv2, e_invv2, e_call3, e_callv3, e_inv3, e_invv3, e_call4, e_callv4, e_inv4, e_invv4, e_call5, e_callv5, e_inv5, e_invv5, e_call6, e_callv6, e_inv6, e_invv6, e_call7, e_callv7, e_inv7, e_invv7, e_call8, e_callv8, e_inv8, e_invv8, e_ret, e_retz, e_retc, e_retb, e_retv, e_skip, e_sco, e_tlen, e_tat, e_iz_eq0, e_iz_eq1, e_iz_ne0, e_iz_ne1, add0, sc_d, sc_t, inI_e, inL_e, up_eq, true_or, or_true, or_false, false_or, and_true, true_and, not_false_eq_true, Int.reduceAdd, Int.reduceSub, Int.reduceMul, Int.reduceNeg, e17, hv]
        | with_reducible first | refine izl_lt (fun hc => ?_) (fun hc => ?_) | refine izl_ge (fun hc => ?_) (fun hc => ?_) | refine izl_eq (fun hc => ?_) (fun hc => ?_) | refine ic_ge (fun hc => ?_) (fun hc => ?_) | refine ic_lt (fun hc => ?_) (fun hc => ?_) | refine ic_ne (fun hc => ?_) (fun hc => ?_) | refine ic_eq (fun hc => ?_) (fun hc => ?_) | refine ic_le (fun hc => ?_) (fun hc => ?_) | refine ic_gt (fun hc => ?_) (fun hc => ?_) | refine iz_eq (fun hc => ?_) (fun hc => ?_) | refine iz_ne (fun hc => ?_) (fun hc => ?_) | refine iz_lt (fun hc => ?_) (fun hc => ?_) | refine iz_ge (fun hc => ?_) (fun hc => ?_) | refine iz_gt (fun hc => ?_) (fun hc => ?_) | refine iz_le (fun hc => ?_) (fun hc => ?_) | refine iz_nu (fun hc => ?_) (fun hc => ?_) | refine iz_nn (fun hc => ?_) (fun hc => ?_)
        | omega
        | (exfalso; omega)
      all_goals exact h1 hok _ _ (rfP hTm ((qF _ _ (by omega)).trans (rx_6 hM)) (fun i u v => (qE _ _ (by omega)).trans (rx_tp hM i u v)) ((qF _ _ (by omega)).trans (rx_13 hM)) (by rw [unC_ne (by omega) (by omega)]; exact hz) hmc hha d1 d2 d3 d4 d5) (fun b j z => ⟨rfl, by rw [up_ne (by omega), up_ne (by omega), d1 b j (by omega), qF b j (by omega)]; exact hqz.1 b j (by omega), by rw [d2 b j (by omega)]; exact qE b j (by omega)⟩)
    · have hno := hok
      repeat' first
        | exact absurd hc (by decide)
        | with_reducible refine sM_within (fun q3 q4 => ?_) (fun q8 => ?_)
        | with_reducible refine sM_isSize (fun q3 q4 => ?_) (fun q8 => ?_)
        | simp (disch := omega) only [ub_X10_dig_39, ub_X10_dig_82, ue_X10_refused, t_X10_refused, zLg, zRf, zFq, zEl, zNz, zUf, zUe, zUr, zCe, zSn, gd_0, gd_1, gd_2, gd_3, gd_4, gd_5, gd_6, gd_7, gd_8, gd_9, gd_10, gd_11, gd_12, gd_13, gd_14, gd_15, gd_16, gd_17, gd_18, gd_19, se_0, se_1, se_2, se_3, se_4, se_5, se_6, se_7, se_8, se_9, se_10, se_11, se_12, se_13, se_14, se_15, se_16, se_17, se_18, se_19, e_const, e_load, e_store, e_iinc, e_dup, e_dup2, e_pop, e_iadd, e_isub, e_imul, e_ladd, e_lsub, e_lmul, e_iaddw, e_isubw, e_imulw, e_laddw, e_lsubw, e_lmulw, e_iand, e_ior, e_ishl, e_ishr, e_iushr, e_lcmp, e_imax, e_imin, e_idiv, e_irem, e_ldiv, e_lrem, e_i2l, e_i2b, e_l2i, e_i2c, e_getF, e_getR, e_putF, e_putR, e_putz, e_ald, e_aldR, e_ast, e_astb, e_astz, e_asta, e_len, e_acopy, e_new, e_newa, e_mna, e_this, e_room, e_call0, e_callv0, e_call1, e_callv1, e_inv1, e_invv1, e_call2, e_callv2, e_inv2, e_invv2, e_call3, e_callv3, e_inv3, e_invv3, e_call4, e_callv4, e_inv4, e_invv4, e_call5, e_callv5, e_inv5, e_invv5, e_call6, e_callv6, e_inv6, e_invv6, e_call7, e_callv7, e_inv7, e_invv7, e_call8, e_callv8, e_inv8, e_invv8, e_ret, e_retz, e_retc, e_retb, e_retv, e_skip, e_sco, e_tlen, e_tat, e_iz_eq0, e_iz_eq1, e_iz_ne0, e_iz_ne1, add0, sc_d, sc_t, inI_e, inL_e, up_eq, true_or, or_true, or_false, false_or, and_true, true_and, not_false_eq_true, Int.reduceAdd, Int.reduceSub, Int.reduceMul, Int.reduceNeg, hRc, e0, e1]
        | with_reducible first | refine izl_lt (fun hc => ?_) (fun hc => ?_) | refine izl_ge (fun hc => ?_) (fun hc => ?_) | refine izl_eq (fun hc => ?_) (fun hc => ?_) | refine ic_ge (fun hc => ?_) (fun hc => ?_) | refine ic_lt (fun hc => ?_) (fun hc => ?_) | refine ic_ne (fun hc => ?_) (fun hc => ?_) | refine ic_eq (fun hc => ?_) (fun hc => ?_) | refine ic_le (fun hc => ?_) (fun hc => ?_) | refine ic_gt (fun hc => ?_) (fun hc => ?_) | refine iz_eq (fun hc => ?_) (fun hc => ?_) | refine iz_ne (fun hc => ?_) (fun hc => ?_) | refine iz_lt (fun hc => ?_) (fun hc => ?_) | refine iz_ge (fun hc => ?_) (fun hc => ?_) | refine iz_gt (fun hc => ?_) (fun hc => ?_) | refine iz_le (fun hc => ?_) (fun hc => ?_) | refine iz_nu (fun hc => ?_) (fun hc => ?_) | refine iz_nn (fun hc => ?_) (fun hc => ?_)
        | omega
        | (exfalso; omega)
      all_goals exact h0 _ _ _ _ (by omega) (by simp (disch := omega) only [rp_dig, if_pos, if_neg]) (qM.c hqz (by omega))
  · have hr := rx_n hM hz
    have hno : ¬ ok_dig C r p w h x y := fun y => hz (by have := y.1; omega)
    repeat' first
      | exact absurd hc (by decide)
      | simp (disch := omega) only [ub_X10_dig_39, ue_X10_refused, t_X10_refused, zLg, zRf, zFq, zEl, zNz, zUf, zUe, zUr, zCe, zSn, gd_0, gd_1, gd_2, gd_3, gd_4, gd_5, gd_6, gd_7, gd_8, gd_9, gd_10, gd_11, gd_12, gd_13, gd_14, gd_15, gd_16, gd_17, gd_18, gd_19, se_0, se_1, se_2, se_3, se_4, se_5, se_6, se_7, se_8, se_9, se_10, se_11, se_12, se_13, se_14, se_15, se_16, se_17, se_18, se_19, e_const, e_load, e_store, e_iinc, e_dup, e_dup2, e_pop, e_iadd, e_isub, e_imul, e_ladd, e_lsub, e_lmul, e_iaddw, e_isubw, e_imulw, e_laddw, e_lsubw, e_lmulw, e_iand, e_ior, e_ishl, e_ishr, e_iushr, e_lcmp, e_imax, e_imin, e_idiv, e_irem, e_ldiv, e_lrem, e_i2l, e_i2b, e_l2i, e_i2c, e_getF, e_getR, e_putF, e_putR, e_putz, e_ald, e_aldR, e_ast, e_astb, e_astz, e_asta, e_len, e_acopy, e_new, e_newa, e_mna, e_this, e_room, e_call0, e_callv0, e_call1, e_callv1, e_inv1, e_invv1, e_call2, e_callv2, e_inv2, e_invv2, e_call3, e_callv3, e_inv3, e_invv3, e_call4, e_callv4, e_inv4, e_invv4, e_call5, e_callv5, e_inv5, e_invv5, e_call6, e_callv6, e_inv6, e_invv6, e_call7, e_callv7, e_inv7, e_invv7, e_call8, e_callv8, e_inv8, e_invv8, e_ret, e_retz, e_retc, e_retb, e_retv, e_skip, e_sco, e_tlen, e_tat, e_iz_eq0, e_iz_eq1, e_iz_ne0, e_iz_ne1, add0, sc_d, sc_t, inI_e, inL_e, up_eq, true_or, or_true, or_false, false_or, and_true, true_and, not_false_eq_true, Int.reduceAdd, Int.reduceSub, Int.reduceMul, Int.reduceNeg, hr]
      | with_reducible first | refine izl_lt (fun hc => ?_) (fun hc => ?_) | refine izl_ge (fun hc => ?_) (fun hc => ?_) | refine izl_eq (fun hc => ?_) (fun hc => ?_) | refine ic_ge (fun hc => ?_) (fun hc => ?_) | refine ic_lt (fun hc => ?_) (fun hc => ?_) | refine ic_ne (fun hc => ?_) (fun hc => ?_) | refine ic_eq (fun hc => ?_) (fun hc => ?_) | refine ic_le (fun hc => ?_) (fun hc => ?_) | refine ic_gt (fun hc => ?_) (fun hc => ?_) | refine iz_eq (fun hc => ?_) (fun hc => ?_) | refine iz_ne (fun hc => ?_) (fun hc => ?_) | refine iz_lt (fun hc => ?_) (fun hc => ?_) | refine iz_ge (fun hc => ?_) (fun hc => ?_) | refine iz_gt (fun hc => ?_) (fun hc => ?_) | refine iz_le (fun hc => ?_) (fun hc => ?_) | refine iz_nu (fun hc => ?_) (fun hc => ?_) | refine iz_nn (fun hc => ?_) (fun hc => ?_)
      | omega
      | (exfalso; omega)
    all_goals exact h0 _ _ _ _ hno (by simp (disch := omega) only [rp_dig, if_pos, if_neg]) (qM.c hqz (by omega))
theorem cM_undo (hM0 : rfM m c C tp fd tr fa pl D k M n H HN L R F E) (hs : stW C tp fd tr D k M n H HN) (h1 : (1 ≤ n) → ∀ F' E' : Int → Int → Int, rfM m c (unC C (H (n - 1)) (HN (n - 1))) tp fd 0 fa pl (dwD (unC C (H (n - 1)) (HN (n - 1)))) 0 M (n - 1) H HN L R F' E' → fM m R R F F' E E' → Q 1 (L, R, F', E', N)) (h0 : ∀ (F' E' : Int → Int → Int) (v t : Int), ¬ (1 ≤ n) → (v, t) = (0, 6) → qM m t (-1) F F' E E' → Q v (L, R, F', E', N)) : T_X10_undo [m] (L, R, F, E, N) Q := by
  have pm := mt_p (rx_t hM0)
  have hW := sw_w hs
  have bn := sw_n hs
  by_cases hok : 1 ≤ n
  · have hz : 0 < C 0 0 0 := ring_of (x := 0) hs (by omega)
    obtain ⟨hdS, hdM⟩ := rx_y hM0 hz
    have hmc := es_mc hdS
    have hh := sw_h hs (n - 1) (by omega) (by omega)
    have hN1 := (cw_1 hh.1)
    rw [unC_k] at hN1
    obtain ⟨a1, a2⟩ := rx_a hM0
    obtain ⟨a3, a4⟩ := a2 (n - 1) (by omega) (by omega)
    refine sM_undo (es_t hdS) (es_c hdS) (es_3 hdS) (es_m hdS) hmc a1 hok bn.2 a3 hN1.1 hN1.2 a4 hh.1 (fun F4 E4 d1 d2 d0 d3 d44 d4 d5 => ?_)
    have qG : ∀ b j : Int, (b ≠ m ∨ (j ≠ 1 ∧ j ≠ 2)) → up (up F4 m 1 0) m 2 (-1) b j = F4 b j := fun b j z => by rw [up_ne (by omega), up_ne (by omega)]
    have qF : ∀ b j : Int, (b ≠ m ∨ (((j < 18 ∧ j ≠ 0 ∧ j ≠ 17) ∨ (31 ≤ j ∧ j ≠ 38 ∧ j ≠ 39 ∧ j ≠ 44)) ∧ j ≠ 1 ∧ j ≠ 2)) → up (up F4 m 1 0) m 2 (-1) b j = F b j := fun b j z => (qG b j (by omega)).trans (d1 b j (by omega))
    exact h1 hok _ _ ⟨rx_t hM0, (qF _ _ (by omega)).trans (rx_6 hM0), fun i u v => (d2 _ _ (by omega)).trans (rx_tp hM0 i u v), (qF _ _ (by omega)).trans (rx_13 hM0), by rw [up_ne (by omega), up_eq], by rw [up_eq, if_neg (by omega)], Or.inr ⟨by rw [unC_ne (by omega) (by omega)]; exact hz, d4.ga (qG _ _ (by omega)) (fun j => qG _ _ (by omega)) (fun _ _ _ => rfl), d5.fr (qG _ _ (by omega)) (fun _ _ _ => rfl)⟩, (qG _ _ (by omega)).trans d3, fun i u v => by omega, ⟨(qG _ _ (by omega)).trans d44, fun i u v => ⟨(d2 _ _ (by omega)).trans (a2 i u (by omega)).1, fun q w x1 x2 x3 x4 => (d2 _ _ (by omega)).trans ((a2 i u (by omega)).2 q w x1 x2 x3 x4)⟩⟩⟩ (fun b j z => ⟨rfl, qF b j (by omega), d2 b j (by omega)⟩)
  · have e44 := (rx_a hM0).1
    have hqz : qN m F (up F m 0 0) E E := qN.z
    repeat' first
      | exact absurd hc (by decide)
      | simp (disch := omega) only [t_X10_undo, ue_X10_undo, ue_X10_denied, t_X10_denied, ue_X10_refused, t_X10_refused, zLg, zRf, zFq, zEl, zNz, zUf, zUe, zUr, zCe, zSn, gd_0, gd_1, gd_2, gd_3, gd_4, gd_5, gd_6, gd_7, gd_8, gd_9, gd_10, gd_11, gd_12, gd_13, gd_14, gd_15, gd_16, gd_17, gd_18, gd_19, se_0, se_1, se_2, se_3, se_4, se_5, se_6, se_7, se_8, se_9, se_10, se_11, se_12, se_13, se_14, se_15, se_16, se_17, se_18, se_19, e_const, e_load, e_store, e_iinc, e_dup, e_dup2, e_pop, e_iadd, e_isub, e_imul, e_ladd, e_lsub, e_lmul, e_iaddw, e_isubw, e_imulw, e_laddw, e_lsubw, e_lmulw, e_iand, e_ior, e_ishl, e_ishr, e_iushr, e_lcmp, e_imax, e_imin, e_idiv, e_irem, e_ldiv, e_lrem, e_i2l, e_i2b, e_l2i, e_i2c, e_getF, e_getR, e_putF, e_putR, e_putz, e_ald, e_aldR, e_ast, e_astb, e_astz, e_asta, e_len, e_acopy, e_new, e_newa, e_mna, e_this, e_room, e_call0, e_callv0, e_call1, e_callv1, e_inv1, e_invv1, e_call2, e_callv2, e_inv2, e_invv2, e_call3, e_callv3, e_inv3, e_invv3, e_call4, e_callv4, e_inv4, e_invv4, e_call5, e_callv5, e_inv5, e_invv5, e_call6, e_callv6, e_inv6, e_invv6, e_call7, e_callv7, e_inv7, e_invv7, e_call8, e_callv8, e_inv8, e_invv8, e_ret, e_retz, e_retc, e_retb, e_retv, e_skip, e_sco, e_tlen, e_tat, e_iz_eq0, e_iz_eq1, e_iz_ne0, e_iz_ne1, add0, sc_d, sc_t, inI_e, inL_e, up_eq, true_or, or_true, or_false, false_or, and_true, true_and, not_false_eq_true, Int.reduceAdd, Int.reduceSub, Int.reduceMul, Int.reduceNeg, up_ne, e44]
      | with_reducible first | refine izl_lt (fun hc => ?_) (fun hc => ?_) | refine izl_ge (fun hc => ?_) (fun hc => ?_) | refine izl_eq (fun hc => ?_) (fun hc => ?_) | refine ic_ge (fun hc => ?_) (fun hc => ?_) | refine ic_lt (fun hc => ?_) (fun hc => ?_) | refine ic_ne (fun hc => ?_) (fun hc => ?_) | refine ic_eq (fun hc => ?_) (fun hc => ?_) | refine ic_le (fun hc => ?_) (fun hc => ?_) | refine ic_gt (fun hc => ?_) (fun hc => ?_) | refine iz_eq (fun hc => ?_) (fun hc => ?_) | refine iz_ne (fun hc => ?_) (fun hc => ?_) | refine iz_lt (fun hc => ?_) (fun hc => ?_) | refine iz_ge (fun hc => ?_) (fun hc => ?_) | refine iz_gt (fun hc => ?_) (fun hc => ?_) | refine iz_le (fun hc => ?_) (fun hc => ?_) | refine iz_nu (fun hc => ?_) (fun hc => ?_) | refine iz_nn (fun hc => ?_) (fun hc => ?_)
      | omega
      | (exfalso; omega)
    all_goals exact h0 _ _ _ _ (by omega) rfl (qM.c hqz (by omega))
end ACTM

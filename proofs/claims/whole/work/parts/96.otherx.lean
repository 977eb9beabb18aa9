/-! ===== the class's other questions ===== -/
theorem wh_3 {C : Cy} (hW : ctW C) {k : Int} (h0 : 0 ≤ k) (h1 : k < C 0 3 0) : 1 ≤ wh C k 3 := (cw_k hW k 3 h0 h1 (by omega) (by omega)).1
theorem pt_3 {C : Cy} (hW : ctW C) {k : Int} (h0 : 0 ≤ k) (h1 : k < C 0 3 0) : 1 ≤ pt C k 3 := by
  have e := cw_k hW k 3 h0 h1 (by omega) (by omega)
  exact (upw_b e.1 e.2 (pn_b hW h0 h1)).1
def qF (B a : Int) (R R' F F' E E' : Int → Int → Int) : Prop := (∀ b j : Int, (b ≠ B + 216 ∨ j ≠ 0) → R' b j = R b j) ∧ (R' (B + 216) 0 = R (B + 216) 0 ∨ R' (B + 216) 0 = a) ∧ (∀ b j : Int, (b < B + 212 ∨ B + 220 ≤ b) → (b < B + 237 ∨ B + 240 ≤ b) → (b < B + 321 ∨ B + 325 ≤ b) → F' b j = F b j) ∧ (∀ b j : Int, (b < B + 212 ∨ B + 220 ≤ b) → (b < B + 237 ∨ B + 240 ≤ b) → (b < B + 321 ∨ B + 329 ≤ b) → E' b j = E b j)
theorem qX.c {B a t : Int} {R R' F F' E E' : Int → Int → Int} (h : qF B a R R' F F' E E') (ht : t ≠ 4) : qX B a t R R' F (up F' B 17 t) E E' := ⟨ht, h.1, h.2.1, fun b j u v w z => (up_ne (by omega)).trans (h.2.2.1 b j u v w), up_eq, h.2.2.2⟩
noncomputable def r_saves (C : Cy) (g w h : Int) : Int × Int := if 0 ≤ g ∧ g < C 0 1 0 then (if (1 ≤ w ∧ w ≤ 99) ∧ (1 ≤ h ∧ h ≤ 99) then (svP C g w h, 0) else (-10000, 2)) else (-10000, 1)
noncomputable def brF (C : Cy) (w h : Int) : Nat → Int
  | 0 => 0
  | n + 1 => if svP C (brF C w h n) w h < svP C ((n : Int) + 1) w h then (n : Int) + 1 else brF C w h n
noncomputable def r_breach (C : Cy) (w h : Int) : Int × Int := if 0 < C 0 0 0 then (if (1 ≤ w ∧ w ≤ 99) ∧ (1 ≤ h ∧ h ≤ 99) then (if C 0 1 0 = 0 then (-1, 6) else (brF C w h (C 0 1 0 - 1).toNat, 0)) else (-1, 2)) else (-1, 1)
noncomputable def r_ram (C : Cy) (l w h : Int) : Int × Int := if 0 < C 0 0 0 then (if (1 ≤ l ∧ l ≤ 99) ∧ (1 ≤ w ∧ w ≤ 99) ∧ (1 ≤ h ∧ h ≤ 99) then (dpF C (rmT l w h) 0, 0) else (-1, 2)) else (-1, 1)
noncomputable def r_ramBy (C : Cy) (g l w h x : Int) : Int × Int := if 0 ≤ g ∧ g < C 0 1 0 then (if (1 ≤ l ∧ l ≤ 99) ∧ (1 ≤ w ∧ w ≤ 99) ∧ (1 ≤ h ∧ h ≤ 99) ∧ (1 ≤ x ∧ x ≤ 99) then (dpF (wdC C g x 1) (rmT l w h) 0, 0) else (-1, 2)) else (-1, 1)
noncomputable def r_theft (C : Cy) (k r p h z : Int) : Int × Int := if (0 ≤ k ∧ k < C 0 3 0) ∧ (0 ≤ r ∧ r < C 0 0 0) ∧ (0 ≤ p ∧ p < 12) then (if 0 ≤ h ∧ h ≤ 99 then (if z = 0 then (btF (byG C (wh C k) (r * 12 + p) h) (C 0 1 0).toNat, 0) else if pn C k = 0 then (-1, 5) else (btF (byG C (pt C k) (r * 12 + p) h) (C 0 1 0).toNat, 0)) else (-1, 2)) else (-1, 1)
section OTHER
variable {L : Int → Int} {R F E : Int → Int → Int} {N : Nat} {Q : xQ} {B a m c fd tr fa pl k n t i j g x y z w h r p r0 p0 r1 p1 : Int} {C : Cy} {tp : Int → Int} {D : Int → Int → Int} {M H : Int → Int → Int → Int} {HN : Int → Int}
theorem cX_fits (hT : clT B a L R) (hM : clM B a C tp fd tr fa pl D k M n H HN R F E) (hs : stW C tp fd tr D k M n H HN) (hz : z = 0 ∨ z = 1) (hQ : ∀ (R' F' E' : Int → Int → Int) (v t : Int), (v, t) = r_fits C i z w p → qX B a t R R' F F' E E' → Q v (L, R', F', E', N)) : T_X8_fits [B, i, z, w, p] (L, R, F, E, N) Q := by
  have pB := cl_p hT
  have ca := cl_a hT
  have pa : 0 ≤ a := by omega
  have h2 := cl_2 hT
  have hC := cx_c hM
  have hW := sw_w hs
  have hct := cl_ct hT
  have b3 := cw_3 hW
  by_cases hi : 0 ≤ i ∧ i < C 0 3 0
  · have hTt := ct_wt hct i hi.1 (by omega)
    have hm := cm_wh hC i hi.1 hi.2
    have hth := wh_W hW hi.1 hi.2
    have wr := ct_wr hct i hi.1 (by omega)
    rcases hz with hz | hz
    · repeat' first
        | exact absurd hc (by decide)
        | with_reducible refine sX_isGood pB h2 pa hC (fun q1 q2 => ?_) (fun q => ?_)
        | with_reducible refine sX_isRing pB h2 pa hC (fun q5 q6 => ?_) (fun q7 => ?_)
        | with_reducible refine sX_isGate pB h2 pa hC (fun q1 q2 => ?_) (fun q => ?_)
        | with_reducible refine sX_within (fun q3 q4 => ?_) (fun q8 => ?_)
        | with_reducible refine sX_canLie hTt hm hth (fun q9 => ?_) (fun q10 => ?_)
        | with_reducible refine sX_ringTakes hct hC hW hTt hm ?_ ?_ ?_ ?_ (fun q11 => ?_) (fun q12 => ?_)
        | simp (disch := omega) only [ub_X8_fits_41, ub_X8_fits_126, ub_X8_fits_113, ub_X8_fits_17, ue_X8_fits, t_X8_fits, ue_X8_grant, t_X8_grant, ue_X8_refuse, t_X8_refuse, zLg, zRf, zFq, zEl, zNz, zUf, zUe, zUr, zCe, zSn, gd_0, gd_1, gd_2, gd_3, gd_4, gd_5, gd_6, gd_7, gd_8, gd_9, gd_10, gd_11, gd_12, gd_13, gd_14, gd_15, gd_16, gd_17, gd_18, gd_19, se_0, se_1, se_2, se_3, se_4, se_5, se_6, se_7, se_8, se_9, se_10, se_11, se_12, se_13, se_14, se_15, se_16, se_17, se_18, se_19, e_const, e_load, e_store, e_iinc, e_dup, e_dup2, e_pop, e_iadd, e_isub, e_imul, e_ladd, e_lsub, e_lmul, e_iaddw, e_isubw, e_imulw, e_laddw, e_lsubw, e_lmulw, e_iand, e_ior, e_ishl, e_ishr, e_iushr, e_lcmp, e_imax, e_imin, e_idiv, e_irem, e_ldiv, e_lrem, e_i2l, e_i2b, e_l2i, e_i2c, e_getF, e_getR, e_putF, e_putR, e_putz, e_ald, e_aldR, e_ast, e_astb, e_astz, e_asta, e_len, e_acopy, e_new, e_newa, e_mna, e_this, e_room, e_call0, e_callv0, e_call1, e_callv1, e_inv1, e_invv1, e_call2, e_callv2, e_inv2, e_invv2, e_call3, e_callv3, e_inv3, e_invv3, e_call4, e_callv4, e_inv4, e_invv4, e_call5, e_callv5, e_inv5, e_invv5, e_call6, e_callv6, e_inv6, e_invv6, e_call7, e_callv7, e_inv7, e_invv7, e_call8, e_callv8, e_inv8, e_invv8, e_ret, e_retz, e_retc, e_retb, e_retv, e_skip, e_sco, e_tlen, e_tat, e_iz_eq0, e_iz_eq1, e_iz_ne0, e_iz_ne1, add0, sc_d, sc_t, inI_e, inL_e, up_eq, true_or, or_true, or_false, false_or, and_true, true_and, not_false_eq_true, Int.reduceAdd, Int.reduceSub, Int.reduceMul, Int.reduceNeg, h2, ct_10 hct, ct_l39 hct, wr]
        | with_reducible first | refine izl_lt (fun hc => ?_) (fun hc => ?_) | refine izl_ge (fun hc => ?_) (fun hc => ?_) | refine izl_eq (fun hc => ?_) (fun hc => ?_) | refine ic_ge (fun hc => ?_) (fun hc => ?_) | refine ic_lt (fun hc => ?_) (fun hc => ?_) | refine ic_ne (fun hc => ?_) (fun hc => ?_) | refine ic_eq (fun hc => ?_) (fun hc => ?_) | refine ic_le (fun hc => ?_) (fun hc => ?_) | refine ic_gt (fun hc => ?_) (fun hc => ?_) | refine iz_eq (fun hc => ?_) (fun hc => ?_) | refine iz_ne (fun hc => ?_) (fun hc => ?_) | refine iz_lt (fun hc => ?_) (fun hc => ?_) | refine iz_ge (fun hc => ?_) (fun hc => ?_) | refine iz_gt (fun hc => ?_) (fun hc => ?_) | refine iz_le (fun hc => ?_) (fun hc => ?_) | refine iz_nu (fun hc => ?_) (fun hc => ?_) | refine iz_nn (fun hc => ?_) (fun hc => ?_)
        | omega
        | (exfalso; omega)
      all_goals exact hQ _ _ _ _ _ (by simp (disch := omega) only [r_fits, if_pos, if_neg]) (qX.s (by omega))
    · repeat' first
        | exact absurd hc (by decide)
        | with_reducible refine sX_isGood pB h2 pa hC (fun q1 q2 => ?_) (fun q => ?_)
        | with_reducible refine sX_isGate pB h2 pa hC (fun q1 q2 => ?_) (fun q => ?_)
        | with_reducible refine sX_within (fun q3 q4 => ?_) (fun q8 => ?_)
        | with_reducible refine sX_canLie hTt hm hth (fun q9 => ?_) (fun q10 => ?_)
        | with_reducible refine sX_meets hct hC hW hTt hm hth ?_ ?_ ?_ ?_ ?_
        | simp (disch := omega) only [ub_X8_fits_41, ub_X8_fits_126, ub_X8_fits_113, ub_X8_fits_17, ue_X8_fits, t_X8_fits, ue_X8_grant, t_X8_grant, ue_X8_refuse, t_X8_refuse, zLg, zRf, zFq, zEl, zNz, zUf, zUe, zUr, zCe, zSn, gd_0, gd_1, gd_2, gd_3, gd_4, gd_5, gd_6, gd_7, gd_8, gd_9, gd_10, gd_11, gd_12, gd_13, gd_14, gd_15, gd_16, gd_17, gd_18, gd_19, se_0, se_1, se_2, se_3, se_4, se_5, se_6, se_7, se_8, se_9, se_10, se_11, se_12, se_13, se_14, se_15, se_16, se_17, se_18, se_19, e_const, e_load, e_store, e_iinc, e_dup, e_dup2, e_pop, e_iadd, e_isub, e_imul, e_ladd, e_lsub, e_lmul, e_iaddw, e_isubw, e_imulw, e_laddw, e_lsubw, e_lmulw, e_iand, e_ior, e_ishl, e_ishr, e_iushr, e_lcmp, e_imax, e_imin, e_idiv, e_irem, e_ldiv, e_lrem, e_i2l, e_i2b, e_l2i, e_i2c, e_getF, e_getR, e_putF, e_putR, e_putz, e_ald, e_aldR, e_ast, e_astb, e_astz, e_asta, e_len, e_acopy, e_new, e_newa, e_mna, e_this, e_room, e_call0, e_callv0, e_call1, e_callv1, e_inv1, e_invv1, e_call2, e_callv2, e_inv2, e_invv2, e_call3, e_callv3, e_inv3, e_invv3, e_call4, e_callv4, e_inv4, e_invv4, e_call5, e_callv5, e_inv5, e_invv5, e_call6, e_callv6, e_inv6, e_invv6, e_call7, e_callv7, e_inv7, e_invv7, e_call8, e_callv8, e_inv8, e_invv8, e_ret, e_retz, e_retc, e_retb, e_retv, e_skip, e_sco, e_tlen, e_tat, e_iz_eq0, e_iz_eq1, e_iz_ne0, e_iz_ne1, add0, sc_d, sc_t, inI_e, inL_e, up_eq, true_or, or_true, or_false, false_or, and_true, true_and, not_false_eq_true, Int.reduceAdd, Int.reduceSub, Int.reduceMul, Int.reduceNeg, h2, ct_10 hct, ct_l39 hct, wr]
        | with_reducible first | refine izl_lt (fun hc => ?_) (fun hc => ?_) | refine izl_ge (fun hc => ?_) (fun hc => ?_) | refine izl_eq (fun hc => ?_) (fun hc => ?_) | refine ic_ge (fun hc => ?_) (fun hc => ?_) | refine ic_lt (fun hc => ?_) (fun hc => ?_) | refine ic_ne (fun hc => ?_) (fun hc => ?_) | refine ic_eq (fun hc => ?_) (fun hc => ?_) | refine ic_le (fun hc => ?_) (fun hc => ?_) | refine ic_gt (fun hc => ?_) (fun hc => ?_) | refine iz_eq (fun hc => ?_) (fun hc => ?_) | refine iz_ne (fun hc => ?_) (fun hc => ?_) | refine iz_lt (fun hc => ?_) (fun hc => ?_) | refine iz_ge (fun hc => ?_) (fun hc => ?_) | refine iz_gt (fun hc => ?_) (fun hc => ?_) | refine iz_le (fun hc => ?_) (fun hc => ?_) | refine iz_nu (fun hc => ?_) (fun hc => ?_) | refine iz_nn (fun hc => ?_) (fun hc => ?_)
        | omega
        | (exfalso; omega)
      all_goals exact hQ _ _ _ _ _ (by simp (disch := omega) only [r_fits, if_pos, if_neg]) (qX.s (by omega))
  · repeat' first
      | exact absurd hc (by decide)
      | with_reducible refine sX_isGood pB h2 pa hC (fun q1 q2 => ?_) (fun q => ?_)
      | with_reducible refine sX_isGate pB h2 pa hC (fun q1 q2 => ?_) (fun q => ?_)
      | with_reducible refine sX_isRing pB h2 pa hC (fun q5 q6 => ?_) (fun q7 => ?_)
      | simp (disch := omega) only [ub_X8_fits_41, ub_X8_fits_126, ub_X8_fits_113, ub_X8_fits_17, ue_X8_fits, t_X8_fits, ue_X8_grant, t_X8_grant, ue_X8_refuse, t_X8_refuse, zLg, zRf, zFq, zEl, zNz, zUf, zUe, zUr, zCe, zSn, gd_0, gd_1, gd_2, gd_3, gd_4, gd_5, gd_6, gd_7, gd_8, gd_9, gd_10, gd_11, gd_12, gd_13, gd_14, gd_15, gd_16, gd_17, gd_18, gd_19, se_0, se_1, se_2, se_3, se_4, se_5, se_6, se_7, se_8, se_9, se_10, se_11, se_12, se_13, se_14, se_15, se_16, se_17, se_18, se_19, e_const, e_load, e_store, e_iinc, e_dup, e_dup2, e_pop, e_iadd, e_isub, e_imul, e_ladd, e_lsub, e_lmul, e_iaddw, e_isubw, e_imulw, e_laddw, e_lsubw, e_lmulw, e_iand, e_ior, e_ishl, e_ishr, e_iushr, e_lcmp, e_imax, e_imin, e_idiv, e_irem, e_ldiv, e_lrem, e_i2l, e_i2b, e_l2i, e_i2c, e_getF, e_getR, e_putF, e_putR, e_putz, e_ald, e_aldR, e_ast, e_astb, e_astz, e_asta, e_len, e_acopy, e_new, e_newa, e_mna, e_this, e_room, e_call0, e_callv0, e_call1, e_callv1, e_inv1, e_invv1, e_call2, e_callv2, e_inv2, e_invv2, e_call3, e_callv3, e_inv3, e_invv3, e_call4, e_callv4, e_inv4, e_invv4, e_call5, e_callv5, e_inv5, e_invv5, e_call6, e_callv6, e_inv6, e_invv6, e_call7, e_callv7, e_inv7, e_invv7, e_call8, e_callv8, e_inv8, e_invv8, e_ret, e_retz, e_retc, e_retb, e_retv, e_skip, e_sco, e_tlen, e_tat, e_iz_eq0, e_iz_eq1, e_iz_ne0, e_iz_ne1, add0, sc_d, sc_t, inI_e, inL_e, up_eq, true_or, or_true, or_false, false_or, and_true, true_and, not_false_eq_true, Int.reduceAdd, Int.reduceSub, Int.reduceMul, Int.reduceNeg, h2]
      | with_reducible first | refine izl_lt (fun hc => ?_) (fun hc => ?_) | refine izl_ge (fun hc => ?_) (fun hc => ?_) | refine izl_eq (fun hc => ?_) (fun hc => ?_) | refine ic_ge (fun hc => ?_) (fun hc => ?_) | refine ic_lt (fun hc => ?_) (fun hc => ?_) | refine ic_ne (fun hc => ?_) (fun hc => ?_) | refine ic_eq (fun hc => ?_) (fun hc => ?_) | refine ic_le (fun hc => ?_) (fun hc => ?_) | refine ic_gt (fun hc => ?_) (fun hc => ?_) | refine iz_eq (fun hc => ?_) (fun hc => ?_) | refine iz_ne (fun hc => ?_) (fun hc => ?_) | refine iz_lt (fun hc => ?_) (fun hc => ?_) | refine iz_ge (fun hc => ?_) (fun hc => ?_) | refine iz_gt (fun hc => ?_) (fun hc => ?_) | refine iz_le (fun hc => ?_) (fun hc => ?_) | refine iz_nu (fun hc => ?_) (fun hc => ?_) | refine iz_nn (fun hc => ?_) (fun hc => ?_)
      | omega
      | (exfalso; omega)
    all_goals exact hQ _ _ _ _ _ (by simp (disch := omega) only [r_fits, if_pos, if_neg]) (qX.s (by omega))
theorem cX_bars (hT : clT B a L R) (hM : clM B a C tp fd tr fa pl D k M n H HN R F E) (hs : stW C tp fd tr D k M n H HN) (hz : z = 0 ∨ z = 1) (hQ : ∀ (R' F' E' : Int → Int → Int) (v t : Int), (v, t) = r_bars C i g z → qX B a t R R' F F' E E' → Q v (L, R', F', E', N)) : T_X8_bars [B, i, g, z] (L, R, F, E, N) Q := by
  have pB := cl_p hT
  have ca := cl_a hT
  have pa : 0 ≤ a := by omega
  have h2 := cl_2 hT
  have hC := cx_c hM
  have hW := sw_w hs
  have hct := cl_ct hT
  have b3 := cw_3 hW
  by_cases hi : 0 ≤ i ∧ i < C 0 3 0
  · have i0 := hi.1
    have i1 := hi.2
    have i8 : i < 8 := by omega
    have hTw := ct_wt hct i hi.1 (by omega)
    have hmw := cm_wh hC i hi.1 hi.2
    have hww := wh_W hW hi.1 hi.2
    have hTp := ct_pt hct i hi.1 (by omega)
    have hmp := cm_pt hC i hi.1 hi.2
    have hwp := pt_W hW hi.1 hi.2
    repeat' first
      | exact absurd hc (by decide)
      | with_reducible refine sX_isGood pB h2 pa hC (fun q1 q2 => ?_) (fun q => ?_)
      | with_reducible refine sX_isGate pB h2 pa hC (fun q1 q2 => ?_) (fun q => ?_)
      | with_reducible refine sX_canCut hct hC hW i0 i1 (fun q9 => ?_) (fun q10 => ?_)
      | with_reducible refine sX_thing hct i0 i8 (fun q11 => ?_) (fun q12 => ?_)
      | with_reducible refine sX_barOf hct hC hW hTw hmw hww ?_ ?_ ?_
      | with_reducible refine sX_barOf hct hC hW hTp hmp hwp ?_ ?_ ?_
      | simp (disch := omega) only [ub_X8_bars_16, ub_X8_bars_43, ue_X8_bars, t_X8_bars, ue_X8_grant, t_X8_grant, ue_X8_refuse, t_X8_refuse, zLg, zRf, zFq, zEl, zNz, zUf, zUe, zUr, zCe, zSn, gd_0, gd_1, gd_2, gd_3, gd_4, gd_5, gd_6, gd_7, gd_8, gd_9, gd_10, gd_11, gd_12, gd_13, gd_14, gd_15, gd_16, gd_17, gd_18, gd_19, se_0, se_1, se_2, se_3, se_4, se_5, se_6, se_7, se_8, se_9, se_10, se_11, se_12, se_13, se_14, se_15, se_16, se_17, se_18, se_19, e_const, e_load, e_store, e_iinc, e_dup, e_dup2, e_pop, e_iadd, e_isub, e_imul, e_ladd, e_lsub, e_lmul, e_iaddw, e_isubw, e_imulw, e_laddw, e_lsubw, e_lmulw, e_iand, e_ior, e_ishl, e_ishr, e_iushr, e_lcmp, e_imax, e_imin, e_idiv, e_irem, e_ldiv, e_lrem, e_i2l, e_i2b, e_l2i, e_i2c, e_getF, e_getR, e_putF, e_putR, e_putz, e_ald, e_aldR, e_ast, e_astb, e_astz, e_asta, e_len, e_acopy, e_new, e_newa, e_mna, e_this, e_room, e_call0, e_callv0, e_call1, e_callv1, e_inv1, e_invv1, e_call2, e_callv2, e_inv2, e_invv2, e_call3, e_callv3, e_inv3, e_invv3, e_call4, e_callv4, e_inv4, e_invv4, e_call5, e_callv5, e_inv5, e_invv5, e_call6, e_callv6, e_inv6, e_invv6, e_call7, e_callv7, e_inv7, e_invv7, e_call8, e_callv8, e_inv8, e_invv8, e_ret, e_retz, e_retc, e_retb, e_retv, e_skip, e_sco, e_tlen, e_tat, e_iz_eq0, e_iz_eq1, e_iz_ne0, e_iz_ne1, add0, sc_d, sc_t, inI_e, inL_e, up_eq, true_or, or_true, or_false, false_or, and_true, true_and, not_false_eq_true, Int.reduceAdd, Int.reduceSub, Int.reduceMul, Int.reduceNeg, h2]
      | with_reducible first | refine izl_lt (fun hc => ?_) (fun hc => ?_) | refine izl_ge (fun hc => ?_) (fun hc => ?_) | refine izl_eq (fun hc => ?_) (fun hc => ?_) | refine ic_ge (fun hc => ?_) (fun hc => ?_) | refine ic_lt (fun hc => ?_) (fun hc => ?_) | refine ic_ne (fun hc => ?_) (fun hc => ?_) | refine ic_eq (fun hc => ?_) (fun hc => ?_) | refine ic_le (fun hc => ?_) (fun hc => ?_) | refine ic_gt (fun hc => ?_) (fun hc => ?_) | refine iz_eq (fun hc => ?_) (fun hc => ?_) | refine iz_ne (fun hc => ?_) (fun hc => ?_) | refine iz_lt (fun hc => ?_) (fun hc => ?_) | refine iz_ge (fun hc => ?_) (fun hc => ?_) | refine iz_gt (fun hc => ?_) (fun hc => ?_) | refine iz_le (fun hc => ?_) (fun hc => ?_) | refine iz_nu (fun hc => ?_) (fun hc => ?_) | refine iz_nn (fun hc => ?_) (fun hc => ?_)
      | omega
      | (exfalso; omega)
    all_goals exact hQ _ _ _ _ _ (by simp (disch := omega) only [r_bars, if_pos, if_neg]) (qX.s (by omega))
  · repeat' first
      | exact absurd hc (by decide)
      | with_reducible refine sX_isGood pB h2 pa hC (fun q1 q2 => ?_) (fun q => ?_)
      | simp (disch := omega) only [ub_X8_bars_16, ub_X8_bars_43, ue_X8_bars, t_X8_bars, ue_X8_grant, t_X8_grant, ue_X8_refuse, t_X8_refuse, zLg, zRf, zFq, zEl, zNz, zUf, zUe, zUr, zCe, zSn, gd_0, gd_1, gd_2, gd_3, gd_4, gd_5, gd_6, gd_7, gd_8, gd_9, gd_10, gd_11, gd_12, gd_13, gd_14, gd_15, gd_16, gd_17, gd_18, gd_19, se_0, se_1, se_2, se_3, se_4, se_5, se_6, se_7, se_8, se_9, se_10, se_11, se_12, se_13, se_14, se_15, se_16, se_17, se_18, se_19, e_const, e_load, e_store, e_iinc, e_dup, e_dup2, e_pop, e_iadd, e_isub, e_imul, e_ladd, e_lsub, e_lmul, e_iaddw, e_isubw, e_imulw, e_laddw, e_lsubw, e_lmulw, e_iand, e_ior, e_ishl, e_ishr, e_iushr, e_lcmp, e_imax, e_imin, e_idiv, e_irem, e_ldiv, e_lrem, e_i2l, e_i2b, e_l2i, e_i2c, e_getF, e_getR, e_putF, e_putR, e_putz, e_ald, e_aldR, e_ast, e_astb, e_astz, e_asta, e_len, e_acopy, e_new, e_newa, e_mna, e_this, e_room, e_call0, e_callv0, e_call1, e_callv1, e_inv1, e_invv1, e_call2, e_callv2, e_inv2, e_invv2, e_call3, e_callv3, e_inv3, e_invv3, e_call4, e_callv4, e_inv4, e_invv4, e_call5, e_callv5, e_inv5, e_invv5, e_call6, e_callv6, e_inv6, e_invv6, e_call7, e_callv7, e_inv7, e_invv7, e_call8, e_callv8, e_inv8, e_invv8, e_ret, e_retz, e_retc, e_retb, e_retv, e_skip, e_sco, e_tlen, e_tat, e_iz_eq0, e_iz_eq1, e_iz_ne0, e_iz_ne1, add0, sc_d, sc_t, inI_e, inL_e, up_eq, true_or, or_true, or_false, false_or, and_true, true_and, not_false_eq_true, Int.reduceAdd, Int.reduceSub, Int.reduceMul, Int.reduceNeg, h2]
      | with_reducible first | refine izl_lt (fun hc => ?_) (fun hc => ?_) | refine izl_ge (fun hc => ?_) (fun hc => ?_) | refine izl_eq (fun hc => ?_) (fun hc => ?_) | refine ic_ge (fun hc => ?_) (fun hc => ?_) | refine ic_lt (fun hc => ?_) (fun hc => ?_) | refine ic_ne (fun hc => ?_) (fun hc => ?_) | refine ic_eq (fun hc => ?_) (fun hc => ?_) | refine ic_le (fun hc => ?_) (fun hc => ?_) | refine ic_gt (fun hc => ?_) (fun hc => ?_) | refine iz_eq (fun hc => ?_) (fun hc => ?_) | refine iz_ne (fun hc => ?_) (fun hc => ?_) | refine iz_lt (fun hc => ?_) (fun hc => ?_) | refine iz_ge (fun hc => ?_) (fun hc => ?_) | refine iz_gt (fun hc => ?_) (fun hc => ?_) | refine iz_le (fun hc => ?_) (fun hc => ?_) | refine iz_nu (fun hc => ?_) (fun hc => ?_) | refine iz_nn (fun hc => ?_) (fun hc => ?_)
      | omega
      | (exfalso; omega)
    all_goals exact hQ _ _ _ _ _ (by simp (disch := omega) only [r_bars, if_pos, if_neg]) (qX.s (by omega))
theorem cX_deepest (hT : clT B a L R) (hM : clM B a C tp fd tr fa pl D k M n H HN R F E) (hs : stW C tp fd tr D k M n H HN) (hQ : ∀ (R' F' E' : Int → Int → Int) (v t : Int), (v, t) = r_deep C i → qX B a t R R' F F' E E' → Q v (L, R', F', E', N)) : T_X8_deepest [B, i] (L, R, F, E, N) Q := by
  have pB := cl_p hT
  have ca := cl_a hT
  have pa : 0 ≤ a := by omega
  have h2 := cl_2 hT
  have hC := cx_c hM
  have hW := sw_w hs
  have hct := cl_ct hT
  have b3 := cw_3 hW
  by_cases hi : 0 ≤ i ∧ i < C 0 3 0
  · have hz : 0 < C 0 0 0 := ring_of (x := 0) hs (by omega)
    have i0 := hi.1
    have i8 : i < 8 := by omega
    have hTw := ct_wt hct i hi.1 (by omega)
    have hmw := cm_wh hC i hi.1 hi.2
    have hww := wh_W hW hi.1 hi.2
    repeat' first
      | exact absurd hc (by decide)
      | with_reducible refine sX_isGood pB h2 pa hC (fun q1 q2 => ?_) (fun q => ?_)
      | with_reducible refine sX_thing hct i0 i8 (fun q11 => ?_) (fun q12 => ?_)
      | with_reducible refine sX_depthOf hct hC hW hTw hmw hww hz (fun d q13 q14 => ?_)
      | simp (disch := omega) only [ue_X8_deepest, t_X8_deepest, ue_X8_grant, t_X8_grant, ue_X8_refuse, t_X8_refuse, zLg, zRf, zFq, zEl, zNz, zUf, zUe, zUr, zCe, zSn, gd_0, gd_1, gd_2, gd_3, gd_4, gd_5, gd_6, gd_7, gd_8, gd_9, gd_10, gd_11, gd_12, gd_13, gd_14, gd_15, gd_16, gd_17, gd_18, gd_19, se_0, se_1, se_2, se_3, se_4, se_5, se_6, se_7, se_8, se_9, se_10, se_11, se_12, se_13, se_14, se_15, se_16, se_17, se_18, se_19, e_const, e_load, e_store, e_iinc, e_dup, e_dup2, e_pop, e_iadd, e_isub, e_imul, e_ladd, e_lsub, e_lmul, e_iaddw, e_isubw, e_imulw, e_laddw, e_lsubw, e_lmulw, e_iand, e_ior, e_ishl, e_ishr, e_iushr, e_lcmp, e_imax, e_imin, e_idiv, e_irem, e_ldiv, e_lrem, e_i2l, e_i2b, e_l2i, e_i2c, e_getF, e_getR, e_putF, e_putR, e_putz, e_ald, e_aldR, e_ast, e_astb, e_astz, e_asta, e_len, e_acopy, e_new, e_newa, e_mna, e_this, e_room, e_call0, e_callv0, e_call1, e_callv1, e_inv1, e_invv1, e_call2, e_callv2, e_inv2, e_invv2, e_call3, e_callv3, e_inv3, e_invv3, e_call4, e_callv4, e_inv4, e_invv4, e_call5, e_callv5, e_inv5, e_invv5, e_call6, e_callv6, e_inv6, e_invv6, e_call7, e_callv7, e_inv7, e_invv7, e_call8, e_callv8, e_inv8, e_invv8, e_ret, e_retz, e_retc, e_retb, e_retv, e_skip, e_sco, e_tlen, e_tat, e_iz_eq0, e_iz_eq1, e_iz_ne0, e_iz_ne1, add0, sc_d, sc_t, inI_e, inL_e, up_eq, true_or, or_true, or_false, false_or, and_true, true_and, not_false_eq_true, Int.reduceAdd, Int.reduceSub, Int.reduceMul, Int.reduceNeg, h2]
      | with_reducible first | refine izl_lt (fun hc => ?_) (fun hc => ?_) | refine izl_ge (fun hc => ?_) (fun hc => ?_) | refine izl_eq (fun hc => ?_) (fun hc => ?_) | refine ic_ge (fun hc => ?_) (fun hc => ?_) | refine ic_lt (fun hc => ?_) (fun hc => ?_) | refine ic_ne (fun hc => ?_) (fun hc => ?_) | refine ic_eq (fun hc => ?_) (fun hc => ?_) | refine ic_le (fun hc => ?_) (fun hc => ?_) | refine ic_gt (fun hc => ?_) (fun hc => ?_) | refine iz_eq (fun hc => ?_) (fun hc => ?_) | refine iz_ne (fun hc => ?_) (fun hc => ?_) | refine iz_lt (fun hc => ?_) (fun hc => ?_) | refine iz_ge (fun hc => ?_) (fun hc => ?_) | refine iz_gt (fun hc => ?_) (fun hc => ?_) | refine iz_le (fun hc => ?_) (fun hc => ?_) | refine iz_nu (fun hc => ?_) (fun hc => ?_) | refine iz_nn (fun hc => ?_) (fun hc => ?_)
      | omega
      | (exfalso; omega)
    have e13 := dp_e q13
    all_goals exact hQ _ _ _ _ _ (by simp (disch := omega) only [r_deep, e13, if_pos, if_neg]) (qX.s (by omega))
  · repeat' first
      | exact absurd hc (by decide)
      | with_reducible refine sX_isGood pB h2 pa hC (fun q1 q2 => ?_) (fun q => ?_)
      | simp (disch := omega) only [ue_X8_deepest, t_X8_deepest, ue_X8_grant, t_X8_grant, ue_X8_refuse, t_X8_refuse, zLg, zRf, zFq, zEl, zNz, zUf, zUe, zUr, zCe, zSn, gd_0, gd_1, gd_2, gd_3, gd_4, gd_5, gd_6, gd_7, gd_8, gd_9, gd_10, gd_11, gd_12, gd_13, gd_14, gd_15, gd_16, gd_17, gd_18, gd_19, se_0, se_1, se_2, se_3, se_4, se_5, se_6, se_7, se_8, se_9, se_10, se_11, se_12, se_13, se_14, se_15, se_16, se_17, se_18, se_19, e_const, e_load, e_store, e_iinc, e_dup, e_dup2, e_pop, e_iadd, e_isub, e_imul, e_ladd, e_lsub, e_lmul, e_iaddw, e_isubw, e_imulw, e_laddw, e_lsubw, e_lmulw, e_iand, e_ior, e_ishl, e_ishr, e_iushr, e_lcmp, e_imax, e_imin, e_idiv, e_irem, e_ldiv, e_lrem, e_i2l, e_i2b, e_l2i, e_i2c, e_getF, e_getR, e_putF, e_putR, e_putz, e_ald, e_aldR, e_ast, e_astb, e_astz, e_asta, e_len, e_acopy, e_new, e_newa, e_mna, e_this, e_room, e_call0, e_callv0, e_call1, e_callv1, e_inv1, e_invv1, e_call2, e_callv2, e_inv2, e_invv2, e_call3, e_callv3, e_inv3, e_invv3, e_call4, e_callv4, e_inv4, e_invv4, e_call5, e_callv5, e_inv5, e_invv5, e_call6, e_callv6, e_inv6, e_invv6, e_call7, e_callv7, e_inv7, e_invv7, e_call8, e_callv8, e_inv8, e_invv8, e_ret, e_retz, e_retc, e_retb, e_retv, e_skip, e_sco, e_tlen, e_tat, e_iz_eq0, e_iz_eq1, e_iz_ne0, e_iz_ne1, add0, sc_d, sc_t, inI_e, inL_e, up_eq, true_or, or_true, or_false, false_or, and_true, true_and, not_false_eq_true, Int.reduceAdd, Int.reduceSub, Int.reduceMul, Int.reduceNeg, h2]
      | with_reducible first | refine izl_lt (fun hc => ?_) (fun hc => ?_) | refine izl_ge (fun hc => ?_) (fun hc => ?_) | refine izl_eq (fun hc => ?_) (fun hc => ?_) | refine ic_ge (fun hc => ?_) (fun hc => ?_) | refine ic_lt (fun hc => ?_) (fun hc => ?_) | refine ic_ne (fun hc => ?_) (fun hc => ?_) | refine ic_eq (fun hc => ?_) (fun hc => ?_) | refine ic_le (fun hc => ?_) (fun hc => ?_) | refine ic_gt (fun hc => ?_) (fun hc => ?_) | refine iz_eq (fun hc => ?_) (fun hc => ?_) | refine iz_ne (fun hc => ?_) (fun hc => ?_) | refine iz_lt (fun hc => ?_) (fun hc => ?_) | refine iz_ge (fun hc => ?_) (fun hc => ?_) | refine iz_gt (fun hc => ?_) (fun hc => ?_) | refine iz_le (fun hc => ?_) (fun hc => ?_) | refine iz_nu (fun hc => ?_) (fun hc => ?_) | refine iz_nn (fun hc => ?_) (fun hc => ?_)
      | omega
      | (exfalso; omega)
    all_goals exact hQ _ _ _ _ _ (by simp (disch := omega) only [r_deep, if_pos, if_neg]) (qX.s (by omega))
theorem cX_deepestCut (hT : clT B a L R) (hM : clM B a C tp fd tr fa pl D k M n H HN R F E) (hs : stW C tp fd tr D k M n H HN) (hQ : ∀ (R' F' E' : Int → Int → Int) (v t : Int), (v, t) = r_deepC C i → qX B a t R R' F F' E E' → Q v (L, R', F', E', N)) : T_X8_deepestCut [B, i] (L, R, F, E, N) Q := by
  have pB := cl_p hT
  have ca := cl_a hT
  have pa : 0 ≤ a := by omega
  have h2 := cl_2 hT
  have hC := cx_c hM
  have hW := sw_w hs
  have hct := cl_ct hT
  have b3 := cw_3 hW
  by_cases hi : 0 ≤ i ∧ i < C 0 3 0
  · have hz : 0 < C 0 0 0 := ring_of (x := 0) hs (by omega)
    have i0 := hi.1
    have i1 := hi.2
    have i8 : i < 8 := by omega
    have hTp := ct_pt hct i hi.1 (by omega)
    have hmp := cm_pt hC i hi.1 hi.2
    have hwp := pt_W hW hi.1 hi.2
    by_cases hp : pn C i = 0
    · repeat' first
        | exact absurd hc (by decide)
        | with_reducible refine sX_isGood pB h2 pa hC (fun q1 q2 => ?_) (fun q => ?_)
        | with_reducible refine sX_canCut hct hC hW i0 i1 (fun q9 => ?_) (fun q10 => ?_)
        | simp (disch := omega) only [ue_X8_deepestCut, t_X8_deepestCut, ue_X8_grant, t_X8_grant, ue_X8_refuse, t_X8_refuse, zLg, zRf, zFq, zEl, zNz, zUf, zUe, zUr, zCe, zSn, gd_0, gd_1, gd_2, gd_3, gd_4, gd_5, gd_6, gd_7, gd_8, gd_9, gd_10, gd_11, gd_12, gd_13, gd_14, gd_15, gd_16, gd_17, gd_18, gd_19, se_0, se_1, se_2, se_3, se_4, se_5, se_6, se_7, se_8, se_9, se_10, se_11, se_12, se_13, se_14, se_15, se_16, se_17, se_18, se_19, e_const, e_load, e_store, e_iinc, e_dup, e_dup2, e_pop, e_iadd, e_isub, e_imul, e_ladd, e_lsub, e_lmul, e_iaddw, e_isubw, e_imulw, e_laddw, e_lsubw, e_lmulw, e_iand, e_ior, e_ishl, e_ishr, e_iushr, e_lcmp, e_imax, e_imin, e_idiv, e_irem, e_ldiv, e_lrem, e_i2l, e_i2b, e_l2i, e_i2c, e_getF, e_getR, e_putF, e_putR, e_putz, e_ald, e_aldR, e_ast, e_astb, e_astz, e_asta, e_len, e_acopy, e_new, e_newa, e_mna, e_this, e_room, e_call0, e_callv0, e_call1, e_callv1, e_inv1, e_invv1, e_call2, e_callv2, e_inv2, e_invv2, e_call3, e_callv3, e_inv3, e_invv3, e_call4, e_callv4, e_inv4, e_invv4, e_call5, e_callv5, e_inv5, e_invv5, e_call6, e_callv6, e_inv6, e_invv6, e_call7, e_callv7, e_inv7, e_invv7, e_call8, e_callv8, e_inv8, e_invv8, e_ret, e_retz, e_retc, e_retb, e_retv, e_skip, e_sco, e_tlen, e_tat, e_iz_eq0, e_iz_eq1, e_iz_ne0, e_iz_ne1, add0, sc_d, sc_t, inI_e, inL_e, up_eq, true_or, or_true, or_false, false_or, and_true, true_and, not_false_eq_true, Int.reduceAdd, Int.reduceSub, Int.reduceMul, Int.reduceNeg, h2]
        | with_reducible first | refine izl_lt (fun hc => ?_) (fun hc => ?_) | refine izl_ge (fun hc => ?_) (fun hc => ?_) | refine izl_eq (fun hc => ?_) (fun hc => ?_) | refine ic_ge (fun hc => ?_) (fun hc => ?_) | refine ic_lt (fun hc => ?_) (fun hc => ?_) | refine ic_ne (fun hc => ?_) (fun hc => ?_) | refine ic_eq (fun hc => ?_) (fun hc => ?_) | refine ic_le (fun hc => ?_) (fun hc => ?_) | refine ic_gt (fun hc => ?_) (fun hc => ?_) | refine iz_eq (fun hc => ?_) (fun hc => ?_) | refine iz_ne (fun hc => ?_) (fun hc => ?_) | refine iz_lt (fun hc => ?_) (fun hc => ?_) | refine iz_ge (fun hc => ?_) (fun hc => ?_) | refine iz_gt (fun hc => ?_) (fun hc => ?_) | refine iz_le (fun hc => ?_) (fun hc => ?_) | refine iz_nu (fun hc => ?_) (fun hc => ?_) | refine iz_nn (fun hc => ?_) (fun hc => ?_)
        | omega
        | (exfalso; omega)
      all_goals exact hQ _ _ _ _ _ (by simp (disch := omega) only [r_deepC, if_pos, if_neg]) (qX.s (by omega))
    · repeat' first
        | exact absurd hc (by decide)
        | with_reducible refine sX_isGood pB h2 pa hC (fun q1 q2 => ?_) (fun q => ?_)
        | with_reducible refine sX_canCut hct hC hW i0 i1 (fun q9 => ?_) (fun q10 => ?_)
        | with_reducible refine sX_thing hct i0 i8 (fun q11 => ?_) (fun q12 => ?_)
        | with_reducible refine sX_depthOf hct hC hW hTp hmp hwp hz (fun d q13 q14 => ?_)
        | simp (disch := omega) only [ue_X8_deepestCut, t_X8_deepestCut, ue_X8_grant, t_X8_grant, ue_X8_refuse, t_X8_refuse, zLg, zRf, zFq, zEl, zNz, zUf, zUe, zUr, zCe, zSn, gd_0, gd_1, gd_2, gd_3, gd_4, gd_5, gd_6, gd_7, gd_8, gd_9, gd_10, gd_11, gd_12, gd_13, gd_14, gd_15, gd_16, gd_17, gd_18, gd_19, se_0, se_1, se_2, se_3, se_4, se_5, se_6, se_7, se_8, se_9, se_10, se_11, se_12, se_13, se_14, se_15, se_16, se_17, se_18, se_19, e_const, e_load, e_store, e_iinc, e_dup, e_dup2, e_pop, e_iadd, e_isub, e_imul, e_ladd, e_lsub, e_lmul, e_iaddw, e_isubw, e_imulw, e_laddw, e_lsubw, e_lmulw, e_iand, e_ior, e_ishl, e_ishr, e_iushr, e_lcmp, e_imax, e_imin, e_idiv, e_irem, e_ldiv, e_lrem, e_i2l, e_i2b, e_l2i, e_i2c, e_getF, e_getR, e_putF, e_putR, e_putz, e_ald, e_aldR, e_ast, e_astb, e_astz, e_asta, e_len, e_acopy, e_new, e_newa, e_mna, e_this, e_room, e_call0, e_callv0, e_call1, e_callv1, e_inv1, e_invv1, e_call2, e_callv2, e_inv2, e_invv2, e_call3, e_callv3, e_inv3, e_invv3, e_call4, e_callv4, e_inv4, e_invv4, e_call5, e_callv5, e_inv5, e_invv5, e_call6, e_callv6, e_inv6, e_invv6, e_call7, e_callv7, e_inv7, e_invv7, e_call8, e_callv8, e_inv8, e_invv8, e_ret, e_retz, e_retc, e_retb, e_retv, e_skip, e_sco, e_tlen, e_tat, e_iz_eq0, e_iz_eq1, e_iz_ne0, e_iz_ne1, add0, sc_d, sc_t, inI_e, inL_e, up_eq, true_or, or_true, or_false, false_or, and_true, true_and, not_false_eq_true, Int.reduceAdd, Int.reduceSub, Int.reduceMul, Int.reduceNeg, h2]
        | with_reducible first | refine izl_lt (fun hc => ?_) (fun hc => ?_) | refine izl_ge (fun hc => ?_) (fun hc => ?_) | refine izl_eq (fun hc => ?_) (fun hc => ?_) | refine ic_ge (fun hc => ?_) (fun hc => ?_) | refine ic_lt (fun hc => ?_) (fun hc => ?_) | refine ic_ne (fun hc => ?_) (fun hc => ?_) | refine ic_eq (fun hc => ?_) (fun hc => ?_) | refine ic_le (fun hc => ?_) (fun hc => ?_) | refine ic_gt (fun hc => ?_) (fun hc => ?_) | refine iz_eq (fun hc => ?_) (fun hc => ?_) | refine iz_ne (fun hc => ?_) (fun hc => ?_) | refine iz_lt (fun hc => ?_) (fun hc => ?_) | refine iz_ge (fun hc => ?_) (fun hc => ?_) | refine iz_gt (fun hc => ?_) (fun hc => ?_) | refine iz_le (fun hc => ?_) (fun hc => ?_) | refine iz_nu (fun hc => ?_) (fun hc => ?_) | refine iz_nn (fun hc => ?_) (fun hc => ?_)
        | omega
        | (exfalso; omega)
      have e13 := dp_e q13
      all_goals exact hQ _ _ _ _ _ (by simp (disch := omega) only [r_deepC, e13, if_pos, if_neg]) (qX.s (by omega))
  · repeat' first
      | exact absurd hc (by decide)
      | with_reducible refine sX_isGood pB h2 pa hC (fun q1 q2 => ?_) (fun q => ?_)
      | simp (disch := omega) only [ue_X8_deepestCut, t_X8_deepestCut, ue_X8_grant, t_X8_grant, ue_X8_refuse, t_X8_refuse, zLg, zRf, zFq, zEl, zNz, zUf, zUe, zUr, zCe, zSn, gd_0, gd_1, gd_2, gd_3, gd_4, gd_5, gd_6, gd_7, gd_8, gd_9, gd_10, gd_11, gd_12, gd_13, gd_14, gd_15, gd_16, gd_17, gd_18, gd_19, se_0, se_1, se_2, se_3, se_4, se_5, se_6, se_7, se_8, se_9, se_10, se_11, se_12, se_13, se_14, se_15, se_16, se_17, se_18, se_19, e_const, e_load, e_store, e_iinc, e_dup, e_dup2, e_pop, e_iadd, e_isub, e_imul, e_ladd, e_lsub, e_lmul, e_iaddw, e_isubw, e_imulw, e_laddw, e_lsubw, e_lmulw, e_iand, e_ior, e_ishl, e_ishr, e_iushr, e_lcmp, e_imax, e_imin, e_idiv, e_irem, e_ldiv, e_lrem, e_i2l, e_i2b, e_l2i, e_i2c, e_getF, e_getR, e_putF, e_putR, e_putz, e_ald, e_aldR, e_ast, e_astb, e_astz, e_asta, e_len, e_acopy, e_new, e_newa, e_mna, e_this, e_room, e_call0, e_callv0, e_call1, e_callv1, e_inv1, e_invv1, e_call2, e_callv2, e_inv2, e_invv2, e_call3, e_callv3, e_inv3, e_invv3, e_call4, e_callv4, e_inv4, e_invv4, e_call5, e_callv5, e_inv5, e_invv5, e_call6, e_callv6, e_inv6, e_invv6, e_call7, e_callv7, e_inv7, e_invv7, e_call8, e_callv8, e_inv8, e_invv8, e_ret, e_retz, e_retc, e_retb, e_retv, e_skip, e_sco, e_tlen, e_tat, e_iz_eq0, e_iz_eq1, e_iz_ne0, e_iz_ne1, add0, sc_d, sc_t, inI_e, inL_e, up_eq, true_or, or_true, or_false, false_or, and_true, true_and, not_false_eq_true, Int.reduceAdd, Int.reduceSub, Int.reduceMul, Int.reduceNeg, h2]
      | with_reducible first | refine izl_lt (fun hc => ?_) (fun hc => ?_) | refine izl_ge (fun hc => ?_) (fun hc => ?_) | refine izl_eq (fun hc => ?_) (fun hc => ?_) | refine ic_ge (fun hc => ?_) (fun hc => ?_) | refine ic_lt (fun hc => ?_) (fun hc => ?_) | refine ic_ne (fun hc => ?_) (fun hc => ?_) | refine ic_eq (fun hc => ?_) (fun hc => ?_) | refine ic_le (fun hc => ?_) (fun hc => ?_) | refine ic_gt (fun hc => ?_) (fun hc => ?_) | refine iz_eq (fun hc => ?_) (fun hc => ?_) | refine iz_ne (fun hc => ?_) (fun hc => ?_) | refine iz_lt (fun hc => ?_) (fun hc => ?_) | refine iz_ge (fun hc => ?_) (fun hc => ?_) | refine iz_gt (fun hc => ?_) (fun hc => ?_) | refine iz_le (fun hc => ?_) (fun hc => ?_) | refine iz_nu (fun hc => ?_) (fun hc => ?_) | refine iz_nn (fun hc => ?_) (fun hc => ?_)
      | omega
      | (exfalso; omega)
    all_goals exact hQ _ _ _ _ _ (by simp (disch := omega) only [r_deepC, if_pos, if_neg]) (qX.s (by omega))
theorem cX_ask (hT : clT B a L R) (hM : clM B a C tp fd tr fa pl D k M n H HN R F E) (hs : stW C tp fd tr D k M n H HN) (h1 : ((0 ≤ i ∧ i < C 0 3 0) ∧ (0 ≤ r0 ∧ r0 < C 0 0 0) ∧ (0 ≤ p0 ∧ p0 < 12) ∧ (0 ≤ r1 ∧ r1 < C 0 0 0) ∧ (0 ≤ p1 ∧ p1 < 12)) → ∀ R' F' E' : Int → Int → Int, qF B a R R' F F' E E' → wyM (B + 237) (bst C i r0 p0 r1 p1) (bsg C i r0 p0 r1 p1) F' E' → Q 1 (L, R', F', E', N)) (h0 : ¬ ((0 ≤ i ∧ i < C 0 3 0) ∧ (0 ≤ r0 ∧ r0 < C 0 0 0) ∧ (0 ≤ p0 ∧ p0 < 12) ∧ (0 ≤ r1 ∧ r1 < C 0 0 0) ∧ (0 ≤ p1 ∧ p1 < 12)) → Q 0 (L, R, F, E, N)) : T_X8_ask [B, i, r0, p0, r1, p1] (L, R, F, E, N) Q := by
  have pB := cl_p hT
  have ca := cl_a hT
  have pa : 0 ≤ a := by omega
  have h2 := cl_2 hT
  have hC := cx_c hM
  have hW := sw_w hs
  have hct := cl_ct hT
  have b3 := cw_3 hW
  have b0 := cw_0 hW
  have r5 := cl_5 hT
  have r7 := cl_7 hT
  have r8 := cl_8 hT
  have l239 := cl_l239 hT
  by_cases hi : (0 ≤ i ∧ i < C 0 3 0) ∧ (0 ≤ r0 ∧ r0 < C 0 0 0) ∧ (0 ≤ p0 ∧ p0 < 12) ∧ (0 ≤ r1 ∧ r1 < C 0 0 0) ∧ (0 ≤ p1 ∧ p1 < 12)
  · obtain ⟨⟨i0, i1⟩, ⟨r00, r01⟩, hp0, ⟨r10, r11⟩, hp1⟩ := hi
    repeat' first
      | exact absurd hc (by decide)
      | with_reducible refine sX_isGood pB h2 pa hC (fun q1 q2 => ?_) (fun q => ?_)
      | with_reducible refine sX_isSpot pB h2 pa hC (fun q5 q6 => ?_) (fun q7 => ?_)
      | simp (disch := omega) only [ub_X8_ask_28, ue_X8_ask, t_X8_ask, zLg, zRf, zFq, zEl, zNz, zUf, zUe, zUr, zCe, zSn, gd_0, gd_1, gd_2, gd_3, gd_4, gd_5, gd_6, gd_7, gd_8, gd_9, gd_10, gd_11, gd_12, gd_13, gd_14, gd_15, gd_16, gd_17, gd_18, gd_19, se_0, se_1, se_2, se_3, se_4, se_5, se_6, se_7, se_8, se_9, se_10, se_11, se_12, se_13, se_14, se_15, se_16, se_17, se_18, se_19, e_const, e_load, e_store, e_iinc, e_dup, e_dup2, e_pop, e_iadd, e_isub, e_imul, e_ladd, e_lsub, e_lmul, e_iaddw, e_isubw, e_imulw, e_laddw, e_lsubw, e_lmulw, e_iand, e_ior, e_ishl, e_ishr, e_iushr, e_lcmp, e_imax, e_imin, e_idiv, e_irem, e_ldiv, e_lrem, e_i2l, e_i2b, e_l2i, e_i2c, e_getF, e_getR, e_putF, e_putR, e_putz, e_ald, e_aldR, e_ast, e_astb, e_astz, e_asta, e_len, e_acopy, e_new, e_newa, e_mna, e_this, e_room, e_call0, e_callv0, e_call1, e_callv1, e_inv1, e_invv1, e_call2, e_callv2, e_inv2, e_invv2, e_call3, e_callv3, e_inv3, e_invv3, e_call4, e_callv4, e_inv4, e_invv4, e_call5, e_callv5, e_inv5, e_invv5, e_call6, e_callv6, e_inv6, e_invv6, e_call7, e_callv7, e_inv7, e_invv7, e_call8, e_callv8, e_inv8, e_invv8, e_ret, e_retz, e_retc, e_retb, e_retv, e_skip, e_sco, e_tlen, e_tat, e_iz_eq0, e_iz_eq1, e_iz_ne0, e_iz_ne1, add0, sc_d, sc_t, inI_e, inL_e, up_eq, true_or, or_true, or_false, false_or, and_true, true_and, not_false_eq_true, Int.reduceAdd, Int.reduceSub, Int.reduceMul, Int.reduceNeg, h2, r5, r7, r8, l239]
      | with_reducible first | refine izl_lt (fun hc => ?_) (fun hc => ?_) | refine izl_ge (fun hc => ?_) (fun hc => ?_) | refine izl_eq (fun hc => ?_) (fun hc => ?_) | refine ic_ge (fun hc => ?_) (fun hc => ?_) | refine ic_lt (fun hc => ?_) (fun hc => ?_) | refine ic_ne (fun hc => ?_) (fun hc => ?_) | refine ic_eq (fun hc => ?_) (fun hc => ?_) | refine ic_le (fun hc => ?_) (fun hc => ?_) | refine ic_gt (fun hc => ?_) (fun hc => ?_) | refine iz_eq (fun hc => ?_) (fun hc => ?_) | refine iz_ne (fun hc => ?_) (fun hc => ?_) | refine iz_lt (fun hc => ?_) (fun hc => ?_) | refine iz_ge (fun hc => ?_) (fun hc => ?_) | refine iz_gt (fun hc => ?_) (fun hc => ?_) | refine iz_le (fun hc => ?_) (fun hc => ?_) | refine iz_nu (fun hc => ?_) (fun hc => ?_) | refine iz_nn (fun hc => ?_) (fun hc => ?_)
      | omega
      | (exfalso; omega)
    have hC2 : ctM a C F (up (up (up (up (up E (B + 239) 0 i) (B + 239) 1 r0) (B + 239) 2 p0) (B + 239) 3 r1) (B + 239) 4 p1) := hC.fa hW (fun b j u v => rfl) (fun b j u v => by simp (disch := omega) only [up_ne])
    refine sX_seek (cl_fn hT) hct hC2 hW (by omega) (cl_as hT) (by omega) (by omega) l239 (Or.inr (by omega)) (k := i) (r0 := r0) (p0 := p0) (r1 := r1) (p1 := p1) (by simp (disch := omega) only [up_ne, up_eq]) (by simp (disch := omega) only [up_ne, up_eq]) (by simp (disch := omega) only [up_ne, up_eq]) (by simp (disch := omega) only [up_ne, up_eq]) (by simp (disch := omega) only [up_ne, up_eq]) i0 i1 r00 r01 r10 r11 hp1 hp0 fun F3 E3 q1 q2 q3 q4 => ?_
    try simp (disch := omega) only [zLg, zRf, zFq, zEl, zNz, zUf, zUe, zUr, zCe, zSn, gd_0, gd_1, gd_2, gd_3, gd_4, gd_5, gd_6, gd_7, gd_8, gd_9, gd_10, gd_11, gd_12, gd_13, gd_14, gd_15, gd_16, gd_17, gd_18, gd_19, se_0, se_1, se_2, se_3, se_4, se_5, se_6, se_7, se_8, se_9, se_10, se_11, se_12, se_13, se_14, se_15, se_16, se_17, se_18, se_19, e_const, e_load, e_store, e_iinc, e_dup, e_dup2, e_pop, e_iadd, e_isub, e_imul, e_ladd, e_lsub, e_lmul, e_iaddw, e_isubw, e_imulw, e_laddw, e_lsubw, e_lmulw, e_iand, e_ior, e_ishl, e_ishr, e_iushr, e_lcmp, e_imax, e_imin, e_idiv, e_irem, e_ldiv, e_lrem, e_i2l, e_i2b, e_l2i, e_i2c, e_getF, e_getR, e_putF, e_putR, e_putz, e_ald, e_aldR, e_ast, e_astb, e_astz, e_asta, e_len, e_acopy, e_new, e_newa, e_mna, e_this, e_room, e_call0, e_callv0, e_call1, e_callv1, e_inv1, e_invv1, e_call2, e_callv2, e_inv2, e_invv2, e_call3, e_callv3, e_inv3, e_invv3, e_call4, e_callv4, e_inv4, e_invv4, e_call5, e_callv5, e_inv5, e_invv5, e_call6, e_callv6, e_inv6, e_invv6, e_call7, e_callv7, e_inv7, e_invv7, e_call8, e_callv8, e_inv8, e_invv8, e_ret, e_retz, e_retc, e_retb, e_retv, e_skip, e_sco, e_tlen, e_tat, e_iz_eq0, e_iz_eq1, e_iz_ne0, e_iz_ne1, add0, sc_d, sc_t, inI_e, inL_e, up_eq, true_or, or_true, or_false, false_or, and_true, true_and, not_false_eq_true, Int.reduceAdd, Int.reduceSub, Int.reduceMul, Int.reduceNeg]
    refine h1 ⟨⟨i0, i1⟩, ⟨r00, r01⟩, hp0, ⟨r10, r11⟩, hp1⟩ _ F3 E3 ⟨fun b j u => up_ne (by omega), Or.inr up_eq, fun b j u v w => ?_, fun b j u v w => ?_⟩ q4
    · by_cases zb : B + 216 + 4 ≤ b ∧ b < B + 237
      · exact (q3 b j zb.1 zb.2).1
      · exact q1 b j (by omega)
    · by_cases zb : B + 216 + 4 ≤ b ∧ b < B + 237
      · rw [(q3 b j zb.1 zb.2).2]
        simp (disch := omega) only [up_ne]
      · rw [q2 b j (by omega)]
        simp (disch := omega) only [up_ne]
  · repeat' first
      | exact absurd hc (by decide)
      | with_reducible refine sX_isGood pB h2 pa hC (fun q1 q2 => ?_) (fun q => ?_)
      | with_reducible refine sX_isSpot pB h2 pa hC (fun q5 q6 => ?_) (fun q7 => ?_)
      | simp (disch := omega) only [ub_X8_ask_28, ue_X8_ask, t_X8_ask, zLg, zRf, zFq, zEl, zNz, zUf, zUe, zUr, zCe, zSn, gd_0, gd_1, gd_2, gd_3, gd_4, gd_5, gd_6, gd_7, gd_8, gd_9, gd_10, gd_11, gd_12, gd_13, gd_14, gd_15, gd_16, gd_17, gd_18, gd_19, se_0, se_1, se_2, se_3, se_4, se_5, se_6, se_7, se_8, se_9, se_10, se_11, se_12, se_13, se_14, se_15, se_16, se_17, se_18, se_19, e_const, e_load, e_store, e_iinc, e_dup, e_dup2, e_pop, e_iadd, e_isub, e_imul, e_ladd, e_lsub, e_lmul, e_iaddw, e_isubw, e_imulw, e_laddw, e_lsubw, e_lmulw, e_iand, e_ior, e_ishl, e_ishr, e_iushr, e_lcmp, e_imax, e_imin, e_idiv, e_irem, e_ldiv, e_lrem, e_i2l, e_i2b, e_l2i, e_i2c, e_getF, e_getR, e_putF, e_putR, e_putz, e_ald, e_aldR, e_ast, e_astb, e_astz, e_asta, e_len, e_acopy, e_new, e_newa, e_mna, e_this, e_room, e_call0, e_callv0, e_call1, e_callv1, e_inv1, e_invv1, e_call2, e_callv2, e_inv2, e_invv2, e_call3, e_callv3, e_inv3, e_invv3, e_call4, e_callv4, e_inv4, e_invv4, e_call5, e_callv5, e_inv5, e_invv5, e_call6, e_callv6, e_inv6, e_invv6, e_call7, e_callv7, e_inv7, e_invv7, e_call8, e_callv8, e_inv8, e_invv8, e_ret, e_retz, e_retc, e_retb, e_retv, e_skip, e_sco, e_tlen, e_tat, e_iz_eq0, e_iz_eq1, e_iz_ne0, e_iz_ne1, add0, sc_d, sc_t, inI_e, inL_e, up_eq, true_or, or_true, or_false, false_or, and_true, true_and, not_false_eq_true, Int.reduceAdd, Int.reduceSub, Int.reduceMul, Int.reduceNeg, h2, r5, r7, r8, l239]
      | with_reducible first | refine izl_lt (fun hc => ?_) (fun hc => ?_) | refine izl_ge (fun hc => ?_) (fun hc => ?_) | refine izl_eq (fun hc => ?_) (fun hc => ?_) | refine ic_ge (fun hc => ?_) (fun hc => ?_) | refine ic_lt (fun hc => ?_) (fun hc => ?_) | refine ic_ne (fun hc => ?_) (fun hc => ?_) | refine ic_eq (fun hc => ?_) (fun hc => ?_) | refine ic_le (fun hc => ?_) (fun hc => ?_) | refine ic_gt (fun hc => ?_) (fun hc => ?_) | refine iz_eq (fun hc => ?_) (fun hc => ?_) | refine iz_ne (fun hc => ?_) (fun hc => ?_) | refine iz_lt (fun hc => ?_) (fun hc => ?_) | refine iz_ge (fun hc => ?_) (fun hc => ?_) | refine iz_gt (fun hc => ?_) (fun hc => ?_) | refine iz_le (fun hc => ?_) (fun hc => ?_) | refine iz_nu (fun hc => ?_) (fun hc => ?_) | refine iz_nn (fun hc => ?_) (fun hc => ?_)
      | omega
      | (exfalso; omega)
    all_goals exact h0 (by omega)
theorem cX_pay (hT : clT B a L R) (hM : clM B a C tp fd tr fa pl D k M n H HN R F E) (hs : stW C tp fd tr D k M n H HN) (hQ : ∀ (R' F' E' : Int → Int → Int) (v t : Int), (v, t) = r_pay C 2 i r0 p0 r1 p1 → qX B a t R R' F F' E E' → Q v (L, R', F', E', N)) : T_X8_pay [B, i, r0, p0, r1, p1] (L, R, F, E, N) Q := by
  have pB := cl_p hT
  have r7 := cl_7 hT
  have f01 : bst C i r0 p0 r1 p1 0 = 0 ∨ bst C i r0 p0 r1 p1 0 = 1 := bI_01 _
  repeat' first
    | exact absurd hc (by decide)
    | with_reducible refine cX_ask hT hM hs (fun hi R1 F1 E1 hq hw => ?_) (fun hi => ?_)
    | simp (disch := omega) only [ub_X8_pay_43, ue_X8_pay, t_X8_pay, ue_X8_grant, t_X8_grant, ue_X8_refuse, t_X8_refuse, zLg, zRf, zFq, zEl, zNz, zUf, zUe, zUr, zCe, zSn, gd_0, gd_1, gd_2, gd_3, gd_4, gd_5, gd_6, gd_7, gd_8, gd_9, gd_10, gd_11, gd_12, gd_13, gd_14, gd_15, gd_16, gd_17, gd_18, gd_19, se_0, se_1, se_2, se_3, se_4, se_5, se_6, se_7, se_8, se_9, se_10, se_11, se_12, se_13, se_14, se_15, se_16, se_17, se_18, se_19, e_const, e_load, e_store, e_iinc, e_dup, e_dup2, e_pop, e_iadd, e_isub, e_imul, e_ladd, e_lsub, e_lmul, e_iaddw, e_isubw, e_imulw, e_laddw, e_lsubw, e_lmulw, e_iand, e_ior, e_ishl, e_ishr, e_iushr, e_lcmp, e_imax, e_imin, e_idiv, e_irem, e_ldiv, e_lrem, e_i2l, e_i2b, e_l2i, e_i2c, e_getF, e_getR, e_putF, e_putR, e_putz, e_ald, e_aldR, e_ast, e_astb, e_astz, e_asta, e_len, e_acopy, e_new, e_newa, e_mna, e_this, e_room, e_call0, e_callv0, e_call1, e_callv1, e_inv1, e_invv1, e_call2, e_callv2, e_inv2, e_invv2, e_call3, e_callv3, e_inv3, e_invv3, e_call4, e_callv4, e_inv4, e_invv4, e_call5, e_callv5, e_inv5, e_invv5, e_call6, e_callv6, e_inv6, e_invv6, e_call7, e_callv7, e_inv7, e_invv7, e_call8, e_callv8, e_inv8, e_invv8, e_ret, e_retz, e_retc, e_retb, e_retv, e_skip, e_sco, e_tlen, e_tat, e_iz_eq0, e_iz_eq1, e_iz_ne0, e_iz_ne1, add0, sc_d, sc_t, inI_e, inL_e, up_eq, true_or, or_true, or_false, false_or, and_true, true_and, not_false_eq_true, Int.reduceAdd, Int.reduceSub, Int.reduceMul, Int.reduceNeg]
    | with_reducible first | refine izl_lt (fun hc => ?_) (fun hc => ?_) | refine izl_ge (fun hc => ?_) (fun hc => ?_) | refine izl_eq (fun hc => ?_) (fun hc => ?_) | refine ic_ge (fun hc => ?_) (fun hc => ?_) | refine ic_lt (fun hc => ?_) (fun hc => ?_) | refine ic_ne (fun hc => ?_) (fun hc => ?_) | refine ic_eq (fun hc => ?_) (fun hc => ?_) | refine ic_le (fun hc => ?_) (fun hc => ?_) | refine ic_gt (fun hc => ?_) (fun hc => ?_) | refine iz_eq (fun hc => ?_) (fun hc => ?_) | refine iz_ne (fun hc => ?_) (fun hc => ?_) | refine iz_lt (fun hc => ?_) (fun hc => ?_) | refine iz_ge (fun hc => ?_) (fun hc => ?_) | refine iz_gt (fun hc => ?_) (fun hc => ?_) | refine iz_le (fun hc => ?_) (fun hc => ?_) | refine iz_nu (fun hc => ?_) (fun hc => ?_) | refine iz_nn (fun hc => ?_) (fun hc => ?_)
    | omega
    | (exfalso; omega)
  · have g7 : R1 B 7 = B + 237 := (hq.1 _ _ (by omega)).trans r7
    have e0 := hw.1
    rcases f01 with f0 | f1
    · repeat' first
        | exact absurd hc (by decide)
        | simp (disch := omega) only [ub_X8_pay_43, ue_X8_pay, t_X8_pay, ue_X8_grant, t_X8_grant, ue_X8_refuse, t_X8_refuse, zLg, zRf, zFq, zEl, zNz, zUf, zUe, zUr, zCe, zSn, gd_0, gd_1, gd_2, gd_3, gd_4, gd_5, gd_6, gd_7, gd_8, gd_9, gd_10, gd_11, gd_12, gd_13, gd_14, gd_15, gd_16, gd_17, gd_18, gd_19, se_0, se_1, se_2, se_3, se_4, se_5, se_6, se_7, se_8, se_9, se_10, se_11, se_12, se_13, se_14, se_15, se_16, se_17, se_18, se_19, e_const, e_load, e_store, e_iinc, e_dup, e_dup2, e_pop, e_iadd, e_isub, e_imul, e_ladd, e_lsub, e_lmul, e_iaddw, e_isubw, e_imulw, e_laddw, e_lsubw, e_lmulw, e_iand, e_ior, e_ishl, e_ishr, e_iushr, e_lcmp, e_imax, e_imin, e_idiv, e_irem, e_ldiv, e_lrem, e_i2l, e_i2b, e_l2i, e_i2c, e_getF, e_getR, e_putF, e_putR, e_putz, e_ald, e_aldR, e_ast, e_astb, e_astz, e_asta, e_len, e_acopy, e_new, e_newa, e_mna, e_this, e_room, e_call0, e_callv0, e_call1, e_callv1, e_inv1, e_invv1, e_call2, e_callv2, e_inv2, e_invv2, e_call3, e_callv3, e_inv3, e_invv3, e_call4, e_callv4, e_inv4, e_invv4, e_call5, e_callv5, e_inv5, e_invv5, e_call6, e_callv6, e_inv6, e_invv6, e_call7, e_callv7, e_inv7, e_invv7, e_call8, e_callv8, e_inv8, e_invv8, e_ret, e_retz, e_retc, e_retb, e_retv, e_skip, e_sco, e_tlen, e_tat, e_iz_eq0, e_iz_eq1, e_iz_ne0, e_iz_ne1, add0, sc_d, sc_t, inI_e, inL_e, up_eq, true_or, or_true, or_false, false_or, and_true, true_and, not_false_eq_true, Int.reduceAdd, Int.reduceSub, Int.reduceMul, Int.reduceNeg, g7, e0]
        | with_reducible first | refine izl_lt (fun hc => ?_) (fun hc => ?_) | refine izl_ge (fun hc => ?_) (fun hc => ?_) | refine izl_eq (fun hc => ?_) (fun hc => ?_) | refine ic_ge (fun hc => ?_) (fun hc => ?_) | refine ic_lt (fun hc => ?_) (fun hc => ?_) | refine ic_ne (fun hc => ?_) (fun hc => ?_) | refine ic_eq (fun hc => ?_) (fun hc => ?_) | refine ic_le (fun hc => ?_) (fun hc => ?_) | refine ic_gt (fun hc => ?_) (fun hc => ?_) | refine iz_eq (fun hc => ?_) (fun hc => ?_) | refine iz_ne (fun hc => ?_) (fun hc => ?_) | refine iz_lt (fun hc => ?_) (fun hc => ?_) | refine iz_ge (fun hc => ?_) (fun hc => ?_) | refine iz_gt (fun hc => ?_) (fun hc => ?_) | refine iz_le (fun hc => ?_) (fun hc => ?_) | refine iz_nu (fun hc => ?_) (fun hc => ?_) | refine iz_nn (fun hc => ?_) (fun hc => ?_)
        | omega
        | (exfalso; omega)
      all_goals exact hQ R1 _ E1 _ _ (by simp (disch := omega) only [r_pay, if_pos, if_neg]) (qX.c hq (by omega))
    · have ex := (hw.2 f1).2.1
      repeat' first
        | exact absurd hc (by decide)
        | simp (disch := omega) only [ub_X8_pay_43, ue_X8_pay, t_X8_pay, ue_X8_grant, t_X8_grant, ue_X8_refuse, t_X8_refuse, zLg, zRf, zFq, zEl, zNz, zUf, zUe, zUr, zCe, zSn, gd_0, gd_1, gd_2, gd_3, gd_4, gd_5, gd_6, gd_7, gd_8, gd_9, gd_10, gd_11, gd_12, gd_13, gd_14, gd_15, gd_16, gd_17, gd_18, gd_19, se_0, se_1, se_2, se_3, se_4, se_5, se_6, se_7, se_8, se_9, se_10, se_11, se_12, se_13, se_14, se_15, se_16, se_17, se_18, se_19, e_const, e_load, e_store, e_iinc, e_dup, e_dup2, e_pop, e_iadd, e_isub, e_imul, e_ladd, e_lsub, e_lmul, e_iaddw, e_isubw, e_imulw, e_laddw, e_lsubw, e_lmulw, e_iand, e_ior, e_ishl, e_ishr, e_iushr, e_lcmp, e_imax, e_imin, e_idiv, e_irem, e_ldiv, e_lrem, e_i2l, e_i2b, e_l2i, e_i2c, e_getF, e_getR, e_putF, e_putR, e_putz, e_ald, e_aldR, e_ast, e_astb, e_astz, e_asta, e_len, e_acopy, e_new, e_newa, e_mna, e_this, e_room, e_call0, e_callv0, e_call1, e_callv1, e_inv1, e_invv1, e_call2, e_callv2, e_inv2, e_invv2, e_call3, e_callv3, e_inv3, e_invv3, e_call4, e_callv4, e_inv4, e_invv4, e_call5, e_callv5, e_inv5, e_invv5, e_call6, e_callv6, e_inv6, e_invv6, e_call7, e_callv7, e_inv7, e_invv7, e_call8, e_callv8, e_inv8, e_invv8, e_ret, e_retz, e_retc, e_retb, e_retv, e_skip, e_sco, e_tlen, e_tat, e_iz_eq0, e_iz_eq1, e_iz_ne0, e_iz_ne1, add0, sc_d, sc_t, inI_e, inL_e, up_eq, true_or, or_true, or_false, false_or, and_true, true_and, not_false_eq_true, Int.reduceAdd, Int.reduceSub, Int.reduceMul, Int.reduceNeg, g7, e0, ex]
        | with_reducible first | refine izl_lt (fun hc => ?_) (fun hc => ?_) | refine izl_ge (fun hc => ?_) (fun hc => ?_) | refine izl_eq (fun hc => ?_) (fun hc => ?_) | refine ic_ge (fun hc => ?_) (fun hc => ?_) | refine ic_lt (fun hc => ?_) (fun hc => ?_) | refine ic_ne (fun hc => ?_) (fun hc => ?_) | refine ic_eq (fun hc => ?_) (fun hc => ?_) | refine ic_le (fun hc => ?_) (fun hc => ?_) | refine ic_gt (fun hc => ?_) (fun hc => ?_) | refine iz_eq (fun hc => ?_) (fun hc => ?_) | refine iz_ne (fun hc => ?_) (fun hc => ?_) | refine iz_lt (fun hc => ?_) (fun hc => ?_) | refine iz_ge (fun hc => ?_) (fun hc => ?_) | refine iz_gt (fun hc => ?_) (fun hc => ?_) | refine iz_le (fun hc => ?_) (fun hc => ?_) | refine iz_nu (fun hc => ?_) (fun hc => ?_) | refine iz_nn (fun hc => ?_) (fun hc => ?_)
        | omega
        | (exfalso; omega)
      all_goals exact hQ R1 _ E1 _ _ (by simp (disch := omega) only [r_pay, if_pos, if_neg]) (qX.c hq (by omega))
  · repeat' first
      | exact absurd hc (by decide)
      | simp (disch := omega) only [ub_X8_pay_43, ue_X8_pay, t_X8_pay, ue_X8_grant, t_X8_grant, ue_X8_refuse, t_X8_refuse, zLg, zRf, zFq, zEl, zNz, zUf, zUe, zUr, zCe, zSn, gd_0, gd_1, gd_2, gd_3, gd_4, gd_5, gd_6, gd_7, gd_8, gd_9, gd_10, gd_11, gd_12, gd_13, gd_14, gd_15, gd_16, gd_17, gd_18, gd_19, se_0, se_1, se_2, se_3, se_4, se_5, se_6, se_7, se_8, se_9, se_10, se_11, se_12, se_13, se_14, se_15, se_16, se_17, se_18, se_19, e_const, e_load, e_store, e_iinc, e_dup, e_dup2, e_pop, e_iadd, e_isub, e_imul, e_ladd, e_lsub, e_lmul, e_iaddw, e_isubw, e_imulw, e_laddw, e_lsubw, e_lmulw, e_iand, e_ior, e_ishl, e_ishr, e_iushr, e_lcmp, e_imax, e_imin, e_idiv, e_irem, e_ldiv, e_lrem, e_i2l, e_i2b, e_l2i, e_i2c, e_getF, e_getR, e_putF, e_putR, e_putz, e_ald, e_aldR, e_ast, e_astb, e_astz, e_asta, e_len, e_acopy, e_new, e_newa, e_mna, e_this, e_room, e_call0, e_callv0, e_call1, e_callv1, e_inv1, e_invv1, e_call2, e_callv2, e_inv2, e_invv2, e_call3, e_callv3, e_inv3, e_invv3, e_call4, e_callv4, e_inv4, e_invv4, e_call5, e_callv5, e_inv5, e_invv5, e_call6, e_callv6, e_inv6, e_invv6, e_call7, e_callv7, e_inv7, e_invv7, e_call8, e_callv8, e_inv8, e_invv8, e_ret, e_retz, e_retc, e_retb, e_retv, e_skip, e_sco, e_tlen, e_tat, e_iz_eq0, e_iz_eq1, e_iz_ne0, e_iz_ne1, add0, sc_d, sc_t, inI_e, inL_e, up_eq, true_or, or_true, or_false, false_or, and_true, true_and, not_false_eq_true, Int.reduceAdd, Int.reduceSub, Int.reduceMul, Int.reduceNeg]
      | with_reducible first | refine izl_lt (fun hc => ?_) (fun hc => ?_) | refine izl_ge (fun hc => ?_) (fun hc => ?_) | refine izl_eq (fun hc => ?_) (fun hc => ?_) | refine ic_ge (fun hc => ?_) (fun hc => ?_) | refine ic_lt (fun hc => ?_) (fun hc => ?_) | refine ic_ne (fun hc => ?_) (fun hc => ?_) | refine ic_eq (fun hc => ?_) (fun hc => ?_) | refine ic_le (fun hc => ?_) (fun hc => ?_) | refine ic_gt (fun hc => ?_) (fun hc => ?_) | refine iz_eq (fun hc => ?_) (fun hc => ?_) | refine iz_ne (fun hc => ?_) (fun hc => ?_) | refine iz_lt (fun hc => ?_) (fun hc => ?_) | refine iz_ge (fun hc => ?_) (fun hc => ?_) | refine iz_gt (fun hc => ?_) (fun hc => ?_) | refine iz_le (fun hc => ?_) (fun hc => ?_) | refine iz_nu (fun hc => ?_) (fun hc => ?_) | refine iz_nn (fun hc => ?_) (fun hc => ?_)
      | omega
      | (exfalso; omega)
    all_goals exact hQ R _ E _ _ (by simp (disch := omega) only [r_pay, if_pos, if_neg]) (qX.s (by omega))
theorem cX_hours (hT : clT B a L R) (hM : clM B a C tp fd tr fa pl D k M n H HN R F E) (hs : stW C tp fd tr D k M n H HN) (hQ : ∀ (R' F' E' : Int → Int → Int) (v t : Int), (v, t) = r_pay C 3 i r0 p0 r1 p1 → qX B a t R R' F F' E E' → Q v (L, R', F', E', N)) : T_X8_hours [B, i, r0, p0, r1, p1] (L, R, F, E, N) Q := by
  have pB := cl_p hT
  have r7 := cl_7 hT
  have f01 : bst C i r0 p0 r1 p1 0 = 0 ∨ bst C i r0 p0 r1 p1 0 = 1 := bI_01 _
  repeat' first
    | exact absurd hc (by decide)
    | with_reducible refine cX_ask hT hM hs (fun hi R1 F1 E1 hq hw => ?_) (fun hi => ?_)
    | simp (disch := omega) only [ub_X8_hours_43, ue_X8_hours, t_X8_hours, ue_X8_grant, t_X8_grant, ue_X8_refuse, t_X8_refuse, zLg, zRf, zFq, zEl, zNz, zUf, zUe, zUr, zCe, zSn, gd_0, gd_1, gd_2, gd_3, gd_4, gd_5, gd_6, gd_7, gd_8, gd_9, gd_10, gd_11, gd_12, gd_13, gd_14, gd_15, gd_16, gd_17, gd_18, gd_19, se_0, se_1, se_2, se_3, se_4, se_5, se_6, se_7, se_8, se_9, se_10, se_11, se_12, se_13, se_14, se_15, se_16, se_17, se_18, se_19, e_const, e_load, e_store, e_iinc, e_dup, e_dup2, e_pop, e_iadd, e_isub, e_imul, e_ladd, e_lsub, e_lmul, e_iaddw, e_isubw, e_imulw, e_laddw, e_lsubw, e_lmulw, e_iand, e_ior, e_ishl, e_ishr, e_iushr, e_lcmp, e_imax, e_imin, e_idiv, e_irem, e_ldiv, e_lrem, e_i2l, e_i2b, e_l2i, e_i2c, e_getF, e_getR, e_putF, e_putR, e_putz, e_ald, e_aldR, e_ast, e_astb, e_astz, e_asta, e_len, e_acopy, e_new, e_newa, e_mna, e_this, e_room, e_call0, e_callv0, e_call1, e_callv1, e_inv1, e_invv1, e_call2, e_callv2, e_inv2, e_invv2, e_call3, e_callv3, e_inv3, e_invv3, e_call4, e_callv4, e_inv4, e_invv4, e_call5, e_callv5, e_inv5, e_invv5, e_call6, e_callv6, e_inv6, e_invv6, e_call7, e_callv7, e_inv7, e_invv7, e_call8, e_callv8, e_inv8, e_invv8, e_ret, e_retz, e_retc, e_retb, e_retv, e_skip, e_sco, e_tlen, e_tat, e_iz_eq0, e_iz_eq1, e_iz_ne0, e_iz_ne1, add0, sc_d, sc_t, inI_e, inL_e, up_eq, true_or, or_true, or_false, false_or, and_true, true_and, not_false_eq_true, Int.reduceAdd, Int.reduceSub, Int.reduceMul, Int.reduceNeg]
    | with_reducible first | refine izl_lt (fun hc => ?_) (fun hc => ?_) | refine izl_ge (fun hc => ?_) (fun hc => ?_) | refine izl_eq (fun hc => ?_) (fun hc => ?_) | refine ic_ge (fun hc => ?_) (fun hc => ?_) | refine ic_lt (fun hc => ?_) (fun hc => ?_) | refine ic_ne (fun hc => ?_) (fun hc => ?_) | refine ic_eq (fun hc => ?_) (fun hc => ?_) | refine ic_le (fun hc => ?_) (fun hc => ?_) | refine ic_gt (fun hc => ?_) (fun hc => ?_) | refine iz_eq (fun hc => ?_) (fun hc => ?_) | refine iz_ne (fun hc => ?_) (fun hc => ?_) | refine iz_lt (fun hc => ?_) (fun hc => ?_) | refine iz_ge (fun hc => ?_) (fun hc => ?_) | refine iz_gt (fun hc => ?_) (fun hc => ?_) | refine iz_le (fun hc => ?_) (fun hc => ?_) | refine iz_nu (fun hc => ?_) (fun hc => ?_) | refine iz_nn (fun hc => ?_) (fun hc => ?_)
    | omega
    | (exfalso; omega)
  · have g7 : R1 B 7 = B + 237 := (hq.1 _ _ (by omega)).trans r7
    have e0 := hw.1
    rcases f01 with f0 | f1
    · repeat' first
        | exact absurd hc (by decide)
        | simp (disch := omega) only [ub_X8_hours_43, ue_X8_hours, t_X8_hours, ue_X8_grant, t_X8_grant, ue_X8_refuse, t_X8_refuse, zLg, zRf, zFq, zEl, zNz, zUf, zUe, zUr, zCe, zSn, gd_0, gd_1, gd_2, gd_3, gd_4, gd_5, gd_6, gd_7, gd_8, gd_9, gd_10, gd_11, gd_12, gd_13, gd_14, gd_15, gd_16, gd_17, gd_18, gd_19, se_0, se_1, se_2, se_3, se_4, se_5, se_6, se_7, se_8, se_9, se_10, se_11, se_12, se_13, se_14, se_15, se_16, se_17, se_18, se_19, e_const, e_load, e_store, e_iinc, e_dup, e_dup2, e_pop, e_iadd, e_isub, e_imul, e_ladd, e_lsub, e_lmul, e_iaddw, e_isubw, e_imulw, e_laddw, e_lsubw, e_lmulw, e_iand, e_ior, e_ishl, e_ishr, e_iushr, e_lcmp, e_imax, e_imin, e_idiv, e_irem, e_ldiv, e_lrem, e_i2l, e_i2b, e_l2i, e_i2c, e_getF, e_getR, e_putF, e_putR, e_putz, e_ald, e_aldR, e_ast, e_astb, e_astz, e_asta, e_len, e_acopy, e_new, e_newa, e_mna, e_this, e_room, e_call0, e_callv0, e_call1, e_callv1, e_inv1, e_invv1, e_call2, e_callv2, e_inv2, e_invv2, e_call3, e_callv3, e_inv3, e_invv3, e_call4, e_callv4, e_inv4, e_invv4, e_call5, e_callv5, e_inv5, e_invv5, e_call6, e_callv6, e_inv6, e_invv6, e_call7, e_callv7, e_inv7, e_invv7, e_call8, e_callv8, e_inv8, e_invv8, e_ret, e_retz, e_retc, e_retb, e_retv, e_skip, e_sco, e_tlen, e_tat, e_iz_eq0, e_iz_eq1, e_iz_ne0, e_iz_ne1, add0, sc_d, sc_t, inI_e, inL_e, up_eq, true_or, or_true, or_false, false_or, and_true, true_and, not_false_eq_true, Int.reduceAdd, Int.reduceSub, Int.reduceMul, Int.reduceNeg, g7, e0]
        | with_reducible first | refine izl_lt (fun hc => ?_) (fun hc => ?_) | refine izl_ge (fun hc => ?_) (fun hc => ?_) | refine izl_eq (fun hc => ?_) (fun hc => ?_) | refine ic_ge (fun hc => ?_) (fun hc => ?_) | refine ic_lt (fun hc => ?_) (fun hc => ?_) | refine ic_ne (fun hc => ?_) (fun hc => ?_) | refine ic_eq (fun hc => ?_) (fun hc => ?_) | refine ic_le (fun hc => ?_) (fun hc => ?_) | refine ic_gt (fun hc => ?_) (fun hc => ?_) | refine iz_eq (fun hc => ?_) (fun hc => ?_) | refine iz_ne (fun hc => ?_) (fun hc => ?_) | refine iz_lt (fun hc => ?_) (fun hc => ?_) | refine iz_ge (fun hc => ?_) (fun hc => ?_) | refine iz_gt (fun hc => ?_) (fun hc => ?_) | refine iz_le (fun hc => ?_) (fun hc => ?_) | refine iz_nu (fun hc => ?_) (fun hc => ?_) | refine iz_nn (fun hc => ?_) (fun hc => ?_)
        | omega
        | (exfalso; omega)
      all_goals exact hQ R1 _ E1 _ _ (by simp (disch := omega) only [r_pay, if_pos, if_neg]) (qX.c hq (by omega))
    · have ex := (hw.2 f1).2.2.1
      repeat' first
        | exact absurd hc (by decide)
        | simp (disch := omega) only [ub_X8_hours_43, ue_X8_hours, t_X8_hours, ue_X8_grant, t_X8_grant, ue_X8_refuse, t_X8_refuse, zLg, zRf, zFq, zEl, zNz, zUf, zUe, zUr, zCe, zSn, gd_0, gd_1, gd_2, gd_3, gd_4, gd_5, gd_6, gd_7, gd_8, gd_9, gd_10, gd_11, gd_12, gd_13, gd_14, gd_15, gd_16, gd_17, gd_18, gd_19, se_0, se_1, se_2, se_3, se_4, se_5, se_6, se_7, se_8, se_9, se_10, se_11, se_12, se_13, se_14, se_15, se_16, se_17, se_18, se_19, e_const, e_load, e_store, e_iinc, e_dup, e_dup2, e_pop, e_iadd, e_isub, e_imul, e_ladd, e_lsub, e_lmul, e_iaddw, e_isubw, e_imulw, e_laddw, e_lsubw, e_lmulw, e_iand, e_ior, e_ishl, e_ishr, e_iushr, e_lcmp, e_imax, e_imin, e_idiv, e_irem, e_ldiv, e_lrem, e_i2l, e_i2b, e_l2i, e_i2c, e_getF, e_getR, e_putF, e_putR, e_putz, e_ald, e_aldR, e_ast, e_astb, e_astz, e_asta, e_len, e_acopy, e_new, e_newa, e_mna, e_this, e_room, e_call0, e_callv0, e_call1, e_callv1, e_inv1, e_invv1, e_call2, e_callv2, e_inv2, e_invv2, e_call3, e_callv3, e_inv3, e_invv3, e_call4, e_callv4, e_inv4, e_invv4, e_call5, e_callv5, e_inv5, e_invv5, e_call6, e_callv6, e_inv6, e_invv6, e_call7, e_callv7, e_inv7, e_invv7, e_call8, e_callv8, e_inv8, e_invv8, e_ret, e_retz, e_retc, e_retb, e_retv, e_skip, e_sco, e_tlen, e_tat, e_iz_eq0, e_iz_eq1, e_iz_ne0, e_iz_ne1, add0, sc_d, sc_t, inI_e, inL_e, up_eq, true_or, or_true, or_false, false_or, and_true, true_and, not_false_eq_true, Int.reduceAdd, Int.reduceSub, Int.reduceMul, Int.reduceNeg, g7, e0, ex]
        | with_reducible first | refine izl_lt (fun hc => ?_) (fun hc => ?_) | refine izl_ge (fun hc => ?_) (fun hc => ?_) | refine izl_eq (fun hc => ?_) (fun hc => ?_) | refine ic_ge (fun hc => ?_) (fun hc => ?_) | refine ic_lt (fun hc => ?_) (fun hc => ?_) | refine ic_ne (fun hc => ?_) (fun hc => ?_) | refine ic_eq (fun hc => ?_) (fun hc => ?_) | refine ic_le (fun hc => ?_) (fun hc => ?_) | refine ic_gt (fun hc => ?_) (fun hc => ?_) | refine iz_eq (fun hc => ?_) (fun hc => ?_) | refine iz_ne (fun hc => ?_) (fun hc => ?_) | refine iz_lt (fun hc => ?_) (fun hc => ?_) | refine iz_ge (fun hc => ?_) (fun hc => ?_) | refine iz_gt (fun hc => ?_) (fun hc => ?_) | refine iz_le (fun hc => ?_) (fun hc => ?_) | refine iz_nu (fun hc => ?_) (fun hc => ?_) | refine iz_nn (fun hc => ?_) (fun hc => ?_)
        | omega
        | (exfalso; omega)
      all_goals exact hQ R1 _ E1 _ _ (by simp (disch := omega) only [r_pay, if_pos, if_neg]) (qX.c hq (by omega))
  · repeat' first
      | exact absurd hc (by decide)
      | simp (disch := omega) only [ub_X8_hours_43, ue_X8_hours, t_X8_hours, ue_X8_grant, t_X8_grant, ue_X8_refuse, t_X8_refuse, zLg, zRf, zFq, zEl, zNz, zUf, zUe, zUr, zCe, zSn, gd_0, gd_1, gd_2, gd_3, gd_4, gd_5, gd_6, gd_7, gd_8, gd_9, gd_10, gd_11, gd_12, gd_13, gd_14, gd_15, gd_16, gd_17, gd_18, gd_19, se_0, se_1, se_2, se_3, se_4, se_5, se_6, se_7, se_8, se_9, se_10, se_11, se_12, se_13, se_14, se_15, se_16, se_17, se_18, se_19, e_const, e_load, e_store, e_iinc, e_dup, e_dup2, e_pop, e_iadd, e_isub, e_imul, e_ladd, e_lsub, e_lmul, e_iaddw, e_isubw, e_imulw, e_laddw, e_lsubw, e_lmulw, e_iand, e_ior, e_ishl, e_ishr, e_iushr, e_lcmp, e_imax, e_imin, e_idiv, e_irem, e_ldiv, e_lrem, e_i2l, e_i2b, e_l2i, e_i2c, e_getF, e_getR, e_putF, e_putR, e_putz, e_ald, e_aldR, e_ast, e_astb, e_astz, e_asta, e_len, e_acopy, e_new, e_newa, e_mna, e_this, e_room, e_call0, e_callv0, e_call1, e_callv1, e_inv1, e_invv1, e_call2, e_callv2, e_inv2, e_invv2, e_call3, e_callv3, e_inv3, e_invv3, e_call4, e_callv4, e_inv4, e_invv4, e_call5, e_callv5, e_inv5, e_invv5, e_call6, e_callv6, e_inv6, e_invv6, e_call7, e_callv7, e_inv7, e_invv7, e_call8, e_callv8, e_inv8, e_invv8, e_ret, e_retz, e_retc, e_retb, e_retv, e_skip, e_sco, e_tlen, e_tat, e_iz_eq0, e_iz_eq1, e_iz_ne0, e_iz_ne1, add0, sc_d, sc_t, inI_e, inL_e, up_eq, true_or, or_true, or_false, false_or, and_true, true_and, not_false_eq_true, Int.reduceAdd, Int.reduceSub, Int.reduceMul, Int.reduceNeg]
      | with_reducible first | refine izl_lt (fun hc => ?_) (fun hc => ?_) | refine izl_ge (fun hc => ?_) (fun hc => ?_) | refine izl_eq (fun hc => ?_) (fun hc => ?_) | refine ic_ge (fun hc => ?_) (fun hc => ?_) | refine ic_lt (fun hc => ?_) (fun hc => ?_) | refine ic_ne (fun hc => ?_) (fun hc => ?_) | refine ic_eq (fun hc => ?_) (fun hc => ?_) | refine ic_le (fun hc => ?_) (fun hc => ?_) | refine ic_gt (fun hc => ?_) (fun hc => ?_) | refine iz_eq (fun hc => ?_) (fun hc => ?_) | refine iz_ne (fun hc => ?_) (fun hc => ?_) | refine iz_lt (fun hc => ?_) (fun hc => ?_) | refine iz_ge (fun hc => ?_) (fun hc => ?_) | refine iz_gt (fun hc => ?_) (fun hc => ?_) | refine iz_le (fun hc => ?_) (fun hc => ?_) | refine iz_nu (fun hc => ?_) (fun hc => ?_) | refine iz_nn (fun hc => ?_) (fun hc => ?_)
      | omega
      | (exfalso; omega)
    all_goals exact hQ R _ E _ _ (by simp (disch := omega) only [r_pay, if_pos, if_neg]) (qX.s (by omega))
theorem cX_hold (hT : clT B a L R) (hM : clM B a C tp fd tr fa pl D k M n H HN R F E) (hs : stW C tp fd tr D k M n H HN) (hQ : ∀ (R' F' E' : Int → Int → Int) (v t : Int), (v, t) = r_hold C i → qX B a t R R' F F' E E' → Q v (L, R', F', E', N)) : T_X8_hold [B, i] (L, R, F, E, N) Q := by
  have pB := cl_p hT
  have ca := cl_a hT
  have pa : 0 ≤ a := by omega
  have h2 := cl_2 hT
  have hC := cx_c hM
  have hW := sw_w hs
  have hct := cl_ct hT
  repeat' first
    | exact absurd hc (by decide)
    | with_reducible refine sX_isRing pB h2 pa hC (fun q5 q6 => ?_) (fun q7 => ?_)
    | with_reducible refine sX_daysOf hct hC hW ?_
    | simp (disch := omega) only [ue_X8_hold, t_X8_hold, ue_X8_grant, t_X8_grant, ue_X8_refuse, t_X8_refuse, zLg, zRf, zFq, zEl, zNz, zUf, zUe, zUr, zCe, zSn, gd_0, gd_1, gd_2, gd_3, gd_4, gd_5, gd_6, gd_7, gd_8, gd_9, gd_10, gd_11, gd_12, gd_13, gd_14, gd_15, gd_16, gd_17, gd_18, gd_19, se_0, se_1, se_2, se_3, se_4, se_5, se_6, se_7, se_8, se_9, se_10, se_11, se_12, se_13, se_14, se_15, se_16, se_17, se_18, se_19, e_const, e_load, e_store, e_iinc, e_dup, e_dup2, e_pop, e_iadd, e_isub, e_imul, e_ladd, e_lsub, e_lmul, e_iaddw, e_isubw, e_imulw, e_laddw, e_lsubw, e_lmulw, e_iand, e_ior, e_ishl, e_ishr, e_iushr, e_lcmp, e_imax, e_imin, e_idiv, e_irem, e_ldiv, e_lrem, e_i2l, e_i2b, e_l2i, e_i2c, e_getF, e_getR, e_putF, e_putR, e_putz, e_ald, e_aldR, e_ast, e_astb, e_astz, e_asta, e_len, e_acopy, e_new, e_newa, e_mna, e_this, e_room, e_call0, e_callv0, e_call1, e_callv1, e_inv1, e_invv1, e_call2, e_callv2, e_inv2, e_invv2, e_call3, e_callv3, e_inv3, e_invv3, e_call4, e_callv4, e_inv4, e_invv4, e_call5, e_callv5, e_inv5, e_invv5, e_call6, e_callv6, e_inv6, e_invv6, e_call7, e_callv7, e_inv7, e_invv7, e_call8, e_callv8, e_inv8, e_invv8, e_ret, e_retz, e_retc, e_retb, e_retv, e_skip, e_sco, e_tlen, e_tat, e_iz_eq0, e_iz_eq1, e_iz_ne0, e_iz_ne1, add0, sc_d, sc_t, inI_e, inL_e, up_eq, true_or, or_true, or_false, false_or, and_true, true_and, not_false_eq_true, Int.reduceAdd, Int.reduceSub, Int.reduceMul, Int.reduceNeg, h2]
    | with_reducible first | refine izl_lt (fun hc => ?_) (fun hc => ?_) | refine izl_ge (fun hc => ?_) (fun hc => ?_) | refine izl_eq (fun hc => ?_) (fun hc => ?_) | refine ic_ge (fun hc => ?_) (fun hc => ?_) | refine ic_lt (fun hc => ?_) (fun hc => ?_) | refine ic_ne (fun hc => ?_) (fun hc => ?_) | refine ic_eq (fun hc => ?_) (fun hc => ?_) | refine ic_le (fun hc => ?_) (fun hc => ?_) | refine ic_gt (fun hc => ?_) (fun hc => ?_) | refine iz_eq (fun hc => ?_) (fun hc => ?_) | refine iz_ne (fun hc => ?_) (fun hc => ?_) | refine iz_lt (fun hc => ?_) (fun hc => ?_) | refine iz_ge (fun hc => ?_) (fun hc => ?_) | refine iz_gt (fun hc => ?_) (fun hc => ?_) | refine iz_le (fun hc => ?_) (fun hc => ?_) | refine iz_nu (fun hc => ?_) (fun hc => ?_) | refine iz_nn (fun hc => ?_) (fun hc => ?_)
    | omega
    | (exfalso; omega)
  all_goals exact hQ _ _ _ _ _ (by simp (disch := omega) only [r_hold, if_pos, if_neg]) (qX.s (by omega))
theorem sdF_s {i : Int} (h : 1 ≤ i) : sdF C i.toNat = if holdP C (sdF C (i - 1).toNat) ≤ holdP C i then i else sdF C (i - 1).toNat := by
  obtain ⟨q, rfl⟩ : ∃ q : Nat, i = (q : Int) + 1 := ⟨(i - 1).toNat, by omega⟩
  have e1 : ((q : Int) + 1).toNat = q + 1 := by omega
  have e2 : ((q : Int) + 1 - 1).toNat = q := by omega
  rw [e1, e2]
  rfl
theorem cX_stand (hT : clT B a L R) (hM : clM B a C tp fd tr fa pl D k M n H HN R F E) (hs : stW C tp fd tr D k M n H HN) (hQ : ∀ (R' F' E' : Int → Int → Int) (v t : Int), (v, t) = r_stand C → qX B a t R R' F F' E E' → Q v (L, R', F', E', N)) : T_X8_stand [B] (L, R, F, E, N) Q := by
  have pB := cl_p hT
  have ca := cl_a hT
  have pa : 0 ≤ a := by omega
  have h2 := cl_2 hT
  have hC := cx_c hM
  have hW := sw_w hs
  have hct := cl_ct hT
  have b0 := cw_0 hW
  have e0 := cm_0 hC
  by_cases hz : 0 < C 0 0 0
  · repeat' first
      | exact absurd hc (by decide)
      | with_reducible refine sX_isCity pB h2 pa hC (fun q1 => ?_) (fun q => ?_)
      | simp (disch := omega) only [t_X8_stand, ue_X8_stand, zLg, zRf, zFq, zEl, zNz, zUf, zUe, zUr, zCe, zSn, gd_0, gd_1, gd_2, gd_3, gd_4, gd_5, gd_6, gd_7, gd_8, gd_9, gd_10, gd_11, gd_12, gd_13, gd_14, gd_15, gd_16, gd_17, gd_18, gd_19, se_0, se_1, se_2, se_3, se_4, se_5, se_6, se_7, se_8, se_9, se_10, se_11, se_12, se_13, se_14, se_15, se_16, se_17, se_18, se_19, e_const, e_load, e_store, e_iinc, e_dup, e_dup2, e_pop, e_iadd, e_isub, e_imul, e_ladd, e_lsub, e_lmul, e_iaddw, e_isubw, e_imulw, e_laddw, e_lsubw, e_lmulw, e_iand, e_ior, e_ishl, e_ishr, e_iushr, e_lcmp, e_imax, e_imin, e_idiv, e_irem, e_ldiv, e_lrem, e_i2l, e_i2b, e_l2i, e_i2c, e_getF, e_getR, e_putF, e_putR, e_putz, e_ald, e_aldR, e_ast, e_astb, e_astz, e_asta, e_len, e_acopy, e_new, e_newa, e_mna, e_this, e_room, e_call0, e_callv0, e_call1, e_callv1, e_inv1, e_invv1, e_call2, e_callv2, e_inv2, e_invv2, e_call3, e_callv3, e_inv3, e_invv3, e_call4, e_callv4, e_inv4, e_invv4, e_call5, e_callv5, e_inv5, e_invv5, e_call6, e_callv6, e_inv6, e_invv6, e_call7, e_callv7, e_inv7, e_invv7, e_call8, e_callv8, e_inv8, e_invv8, e_ret, e_retz, e_retc, e_retb, e_retv, e_skip, e_sco, e_tlen, e_tat, e_iz_eq0, e_iz_eq1, e_iz_ne0, e_iz_ne1, add0, sc_d, sc_t, inI_e, inL_e, up_eq, true_or, or_true, or_false, false_or, and_true, true_and, not_false_eq_true, Int.reduceAdd, Int.reduceSub, Int.reduceMul, Int.reduceNeg]
      | with_reducible first | refine izl_lt (fun hc => ?_) (fun hc => ?_) | refine izl_ge (fun hc => ?_) (fun hc => ?_) | refine izl_eq (fun hc => ?_) (fun hc => ?_) | refine ic_ge (fun hc => ?_) (fun hc => ?_) | refine ic_lt (fun hc => ?_) (fun hc => ?_) | refine ic_ne (fun hc => ?_) (fun hc => ?_) | refine ic_eq (fun hc => ?_) (fun hc => ?_) | refine ic_le (fun hc => ?_) (fun hc => ?_) | refine ic_gt (fun hc => ?_) (fun hc => ?_) | refine iz_eq (fun hc => ?_) (fun hc => ?_) | refine iz_ne (fun hc => ?_) (fun hc => ?_) | refine iz_lt (fun hc => ?_) (fun hc => ?_) | refine iz_ge (fun hc => ?_) (fun hc => ?_) | refine iz_gt (fun hc => ?_) (fun hc => ?_) | refine iz_le (fun hc => ?_) (fun hc => ?_) | refine iz_nu (fun hc => ?_) (fun hc => ?_) | refine iz_nn (fun hc => ?_) (fun hc => ?_)
      | omega
      | (exfalso; omega)
    unfold L_X8_stand_17
    refine lpw (fun nn lo st h c s => ∃ i : Int, lo = [B, sdF C (i - 1).toNat, i] ∧ st = [] ∧ h = (L, R, F, E, N) ∧ 1 ≤ i ∧ i ≤ C 0 0 0 ∧ (nn : Int) = C 0 0 0 - i) ?_ (n := (C 0 0 0 - 1).toNat) ⟨1, rfl, rfl, rfl, by omega, by omega, by omega⟩
    rintro nn kk hkk lo st h c9 s9 ⟨i, rfl, rfl, rfl, hi, hi2, hn1⟩
    have es := sdF_s (C := C) hi
    have ee : sdF C (i + 1 - 1).toNat = sdF C i.toNat := by congr 2; omega
    by_cases hlt : i < C 0 0 0
    · by_cases hle : holdP C (sdF C (i - 1).toNat) ≤ holdP C i
      · rw [if_pos hle] at es
        repeat' first
          | exact absurd hc (by decide)
          | with_reducible refine sX_daysOf hct hC hW ?_
          | simp (disch := omega) only [ub_X8_stand_49, ue_X8_stand, t_X8_stand, zLg, zRf, zFq, zEl, zNz, zUf, zUe, zUr, zCe, zSn, gd_0, gd_1, gd_2, gd_3, gd_4, gd_5, gd_6, gd_7, gd_8, gd_9, gd_10, gd_11, gd_12, gd_13, gd_14, gd_15, gd_16, gd_17, gd_18, gd_19, se_0, se_1, se_2, se_3, se_4, se_5, se_6, se_7, se_8, se_9, se_10, se_11, se_12, se_13, se_14, se_15, se_16, se_17, se_18, se_19, e_const, e_load, e_store, e_iinc, e_dup, e_dup2, e_pop, e_iadd, e_isub, e_imul, e_ladd, e_lsub, e_lmul, e_iaddw, e_isubw, e_imulw, e_laddw, e_lsubw, e_lmulw, e_iand, e_ior, e_ishl, e_ishr, e_iushr, e_lcmp, e_imax, e_imin, e_idiv, e_irem, e_ldiv, e_lrem, e_i2l, e_i2b, e_l2i, e_i2c, e_getF, e_getR, e_putF, e_putR, e_putz, e_ald, e_aldR, e_ast, e_astb, e_astz, e_asta, e_len, e_acopy, e_new, e_newa, e_mna, e_this, e_room, e_call0, e_callv0, e_call1, e_callv1, e_inv1, e_invv1, e_call2, e_callv2, e_inv2, e_invv2, e_call3, e_callv3, e_inv3, e_invv3, e_call4, e_callv4, e_inv4, e_invv4, e_call5, e_callv5, e_inv5, e_invv5, e_call6, e_callv6, e_inv6, e_invv6, e_call7, e_callv7, e_inv7, e_invv7, e_call8, e_callv8, e_inv8, e_invv8, e_ret, e_retz, e_retc, e_retb, e_retv, e_skip, e_sco, e_tlen, e_tat, e_iz_eq0, e_iz_eq1, e_iz_ne0, e_iz_ne1, add0, sc_d, sc_t, inI_e, inL_e, up_eq, true_or, or_true, or_false, false_or, and_true, true_and, not_false_eq_true, Int.reduceAdd, Int.reduceSub, Int.reduceMul, Int.reduceNeg, h2, e0]
          | with_reducible first | refine izl_lt (fun hc => ?_) (fun hc => ?_) | refine izl_ge (fun hc => ?_) (fun hc => ?_) | refine izl_eq (fun hc => ?_) (fun hc => ?_) | refine ic_ge (fun hc => ?_) (fun hc => ?_) | refine ic_lt (fun hc => ?_) (fun hc => ?_) | refine ic_ne (fun hc => ?_) (fun hc => ?_) | refine ic_eq (fun hc => ?_) (fun hc => ?_) | refine ic_le (fun hc => ?_) (fun hc => ?_) | refine ic_gt (fun hc => ?_) (fun hc => ?_) | refine iz_eq (fun hc => ?_) (fun hc => ?_) | refine iz_ne (fun hc => ?_) (fun hc => ?_) | refine iz_lt (fun hc => ?_) (fun hc => ?_) | refine iz_ge (fun hc => ?_) (fun hc => ?_) | refine iz_gt (fun hc => ?_) (fun hc => ?_) | refine iz_le (fun hc => ?_) (fun hc => ?_) | refine iz_nu (fun hc => ?_) (fun hc => ?_) | refine iz_nn (fun hc => ?_) (fun hc => ?_)
          | omega
          | (exfalso; omega)
        all_goals exact hkk (nn - 1) _ _ _ _ _ (by omega) ⟨i + 1, by rw [ee, es], rfl, rfl, by omega, by omega, by omega⟩
      · rw [if_neg hle] at es
        repeat' first
          | exact absurd hc (by decide)
          | with_reducible refine sX_daysOf hct hC hW ?_
          | simp (disch := omega) only [ub_X8_stand_49, ue_X8_stand, t_X8_stand, zLg, zRf, zFq, zEl, zNz, zUf, zUe, zUr, zCe, zSn, gd_0, gd_1, gd_2, gd_3, gd_4, gd_5, gd_6, gd_7, gd_8, gd_9, gd_10, gd_11, gd_12, gd_13, gd_14, gd_15, gd_16, gd_17, gd_18, gd_19, se_0, se_1, se_2, se_3, se_4, se_5, se_6, se_7, se_8, se_9, se_10, se_11, se_12, se_13, se_14, se_15, se_16, se_17, se_18, se_19, e_const, e_load, e_store, e_iinc, e_dup, e_dup2, e_pop, e_iadd, e_isub, e_imul, e_ladd, e_lsub, e_lmul, e_iaddw, e_isubw, e_imulw, e_laddw, e_lsubw, e_lmulw, e_iand, e_ior, e_ishl, e_ishr, e_iushr, e_lcmp, e_imax, e_imin, e_idiv, e_irem, e_ldiv, e_lrem, e_i2l, e_i2b, e_l2i, e_i2c, e_getF, e_getR, e_putF, e_putR, e_putz, e_ald, e_aldR, e_ast, e_astb, e_astz, e_asta, e_len, e_acopy, e_new, e_newa, e_mna, e_this, e_room, e_call0, e_callv0, e_call1, e_callv1, e_inv1, e_invv1, e_call2, e_callv2, e_inv2, e_invv2, e_call3, e_callv3, e_inv3, e_invv3, e_call4, e_callv4, e_inv4, e_invv4, e_call5, e_callv5, e_inv5, e_invv5, e_call6, e_callv6, e_inv6, e_invv6, e_call7, e_callv7, e_inv7, e_invv7, e_call8, e_callv8, e_inv8, e_invv8, e_ret, e_retz, e_retc, e_retb, e_retv, e_skip, e_sco, e_tlen, e_tat, e_iz_eq0, e_iz_eq1, e_iz_ne0, e_iz_ne1, add0, sc_d, sc_t, inI_e, inL_e, up_eq, true_or, or_true, or_false, false_or, and_true, true_and, not_false_eq_true, Int.reduceAdd, Int.reduceSub, Int.reduceMul, Int.reduceNeg, h2, e0]
          | with_reducible first | refine izl_lt (fun hc => ?_) (fun hc => ?_) | refine izl_ge (fun hc => ?_) (fun hc => ?_) | refine izl_eq (fun hc => ?_) (fun hc => ?_) | refine ic_ge (fun hc => ?_) (fun hc => ?_) | refine ic_lt (fun hc => ?_) (fun hc => ?_) | refine ic_ne (fun hc => ?_) (fun hc => ?_) | refine ic_eq (fun hc => ?_) (fun hc => ?_) | refine ic_le (fun hc => ?_) (fun hc => ?_) | refine ic_gt (fun hc => ?_) (fun hc => ?_) | refine iz_eq (fun hc => ?_) (fun hc => ?_) | refine iz_ne (fun hc => ?_) (fun hc => ?_) | refine iz_lt (fun hc => ?_) (fun hc => ?_) | refine iz_ge (fun hc => ?_) (fun hc => ?_) | refine iz_gt (fun hc => ?_) (fun hc => ?_) | refine iz_le (fun hc => ?_) (fun hc => ?_) | refine iz_nu (fun hc => ?_) (fun hc => ?_) | refine iz_nn (fun hc => ?_) (fun hc => ?_)
          | omega
          | (exfalso; omega)
        all_goals exact hkk (nn - 1) _ _ _ _ _ (by omega) ⟨i + 1, by rw [ee, es], rfl, rfl, by omega, by omega, by omega⟩
    · have hie : i = C 0 0 0 := by omega
      subst hie
      repeat' first
        | exact absurd hc (by decide)
        | simp (disch := omega) only [ue_X8_grant, t_X8_grant, zLg, zRf, zFq, zEl, zNz, zUf, zUe, zUr, zCe, zSn, gd_0, gd_1, gd_2, gd_3, gd_4, gd_5, gd_6, gd_7, gd_8, gd_9, gd_10, gd_11, gd_12, gd_13, gd_14, gd_15, gd_16, gd_17, gd_18, gd_19, se_0, se_1, se_2, se_3, se_4, se_5, se_6, se_7, se_8, se_9, se_10, se_11, se_12, se_13, se_14, se_15, se_16, se_17, se_18, se_19, e_const, e_load, e_store, e_iinc, e_dup, e_dup2, e_pop, e_iadd, e_isub, e_imul, e_ladd, e_lsub, e_lmul, e_iaddw, e_isubw, e_imulw, e_laddw, e_lsubw, e_lmulw, e_iand, e_ior, e_ishl, e_ishr, e_iushr, e_lcmp, e_imax, e_imin, e_idiv, e_irem, e_ldiv, e_lrem, e_i2l, e_i2b, e_l2i, e_i2c, e_getF, e_getR, e_putF, e_putR, e_putz, e_ald, e_aldR, e_ast, e_astb, e_astz, e_asta, e_len, e_acopy, e_new, e_newa, e_mna, e_this, e_room, e_call0, e_callv0, e_call1, e_callv1, e_inv1, e_invv1, e_call2, e_callv2, e_inv2, e_invv2, e_call3, e_callv3, e_inv3, e_invv3, e_call4, e_callv4, e_inv4, e_invv4, e_call5, e_callv5, e_inv5, e_invv5, e_call6, e_callv6, e_inv6, e_invv6, e_call7, e_callv7, e_inv7, e_invv7, e_call8, e_callv8, e_inv8, e_invv8, e_ret, e_retz, e_retc, e_retb, e_retv, e_skip, e_sco, e_tlen, e_tat, e_iz_eq0, e_iz_eq1, e_iz_ne0, e_iz_ne1, add0, sc_d, sc_t, inI_e, inL_e, up_eq, true_or, or_true, or_false, false_or, and_true, true_and, not_false_eq_true, Int.reduceAdd, Int.reduceSub, Int.reduceMul, Int.reduceNeg, h2, e0]
        | with_reducible first | refine izl_lt (fun hc => ?_) (fun hc => ?_) | refine izl_ge (fun hc => ?_) (fun hc => ?_) | refine izl_eq (fun hc => ?_) (fun hc => ?_) | refine ic_ge (fun hc => ?_) (fun hc => ?_) | refine ic_lt (fun hc => ?_) (fun hc => ?_) | refine ic_ne (fun hc => ?_) (fun hc => ?_) | refine ic_eq (fun hc => ?_) (fun hc => ?_) | refine ic_le (fun hc => ?_) (fun hc => ?_) | refine ic_gt (fun hc => ?_) (fun hc => ?_) | refine iz_eq (fun hc => ?_) (fun hc => ?_) | refine iz_ne (fun hc => ?_) (fun hc => ?_) | refine iz_lt (fun hc => ?_) (fun hc => ?_) | refine iz_ge (fun hc => ?_) (fun hc => ?_) | refine iz_gt (fun hc => ?_) (fun hc => ?_) | refine iz_le (fun hc => ?_) (fun hc => ?_) | refine iz_nu (fun hc => ?_) (fun hc => ?_) | refine iz_nn (fun hc => ?_) (fun hc => ?_)
        | omega
        | (exfalso; omega)
      all_goals exact hQ _ _ _ _ _ (by simp (disch := omega) only [r_stand, if_pos, if_neg]) (qX.s (by omega))
  · repeat' first
      | exact absurd hc (by decide)
      | with_reducible refine sX_isCity pB h2 pa hC (fun q1 => ?_) (fun q => ?_)
      | simp (disch := omega) only [t_X8_stand, ue_X8_stand, ue_X8_refuse, t_X8_refuse, zLg, zRf, zFq, zEl, zNz, zUf, zUe, zUr, zCe, zSn, gd_0, gd_1, gd_2, gd_3, gd_4, gd_5, gd_6, gd_7, gd_8, gd_9, gd_10, gd_11, gd_12, gd_13, gd_14, gd_15, gd_16, gd_17, gd_18, gd_19, se_0, se_1, se_2, se_3, se_4, se_5, se_6, se_7, se_8, se_9, se_10, se_11, se_12, se_13, se_14, se_15, se_16, se_17, se_18, se_19, e_const, e_load, e_store, e_iinc, e_dup, e_dup2, e_pop, e_iadd, e_isub, e_imul, e_ladd, e_lsub, e_lmul, e_iaddw, e_isubw, e_imulw, e_laddw, e_lsubw, e_lmulw, e_iand, e_ior, e_ishl, e_ishr, e_iushr, e_lcmp, e_imax, e_imin, e_idiv, e_irem, e_ldiv, e_lrem, e_i2l, e_i2b, e_l2i, e_i2c, e_getF, e_getR, e_putF, e_putR, e_putz, e_ald, e_aldR, e_ast, e_astb, e_astz, e_asta, e_len, e_acopy, e_new, e_newa, e_mna, e_this, e_room, e_call0, e_callv0, e_call1, e_callv1, e_inv1, e_invv1, e_call2, e_callv2, e_inv2, e_invv2, e_call3, e_callv3, e_inv3, e_invv3, e_call4, e_callv4, e_inv4, e_invv4, e_call5, e_callv5, e_inv5, e_invv5, e_call6, e_callv6, e_inv6, e_invv6, e_call7, e_callv7, e_inv7, e_invv7, e_call8, e_callv8, e_inv8, e_invv8, e_ret, e_retz, e_retc, e_retb, e_retv, e_skip, e_sco, e_tlen, e_tat, e_iz_eq0, e_iz_eq1, e_iz_ne0, e_iz_ne1, add0, sc_d, sc_t, inI_e, inL_e, up_eq, true_or, or_true, or_false, false_or, and_true, true_and, not_false_eq_true, Int.reduceAdd, Int.reduceSub, Int.reduceMul, Int.reduceNeg]
      | with_reducible first | refine izl_lt (fun hc => ?_) (fun hc => ?_) | refine izl_ge (fun hc => ?_) (fun hc => ?_) | refine izl_eq (fun hc => ?_) (fun hc => ?_) | refine ic_ge (fun hc => ?_) (fun hc => ?_) | refine ic_lt (fun hc => ?_) (fun hc => ?_) | refine ic_ne (fun hc => ?_) (fun hc => ?_) | refine ic_eq (fun hc => ?_) (fun hc => ?_) | refine ic_le (fun hc => ?_) (fun hc => ?_) | refine ic_gt (fun hc => ?_) (fun hc => ?_) | refine iz_eq (fun hc => ?_) (fun hc => ?_) | refine iz_ne (fun hc => ?_) (fun hc => ?_) | refine iz_lt (fun hc => ?_) (fun hc => ?_) | refine iz_ge (fun hc => ?_) (fun hc => ?_) | refine iz_gt (fun hc => ?_) (fun hc => ?_) | refine iz_le (fun hc => ?_) (fun hc => ?_) | refine iz_nu (fun hc => ?_) (fun hc => ?_) | refine iz_nn (fun hc => ?_) (fun hc => ?_)
      | omega
      | (exfalso; omega)
    all_goals exact hQ _ _ _ _ _ (by simp (disch := omega) only [r_stand, if_pos, if_neg]) (qX.s (by omega))
theorem cX_sav (hT : clT B a L R) (hM : clM B a C tp fd tr fa pl D k M n H HN R F E) (hs : stW C tp fd tr D k M n H HN) {F2 E2 : Int → Int → Int} (hf : ∀ b j : Int, (b < B + 216 ∨ B + 216 + 4 ≤ b) → (b < B + 237 ∨ B + 237 + 2 ≤ b) → F2 b j = F b j ∧ E2 b j = E b j) (g0 : 0 ≤ g) (g1 : g < C 0 1 0) (w0 : 1 ≤ w) (w1 : w ≤ 99) (h0 : 1 ≤ h) (h1 : h ≤ 99) (hQ : ∀ F' E' : Int → Int → Int, (∀ b j : Int, (b < B + 216 ∨ B + 216 + 4 ≤ b) → (b < B + 237 ∨ B + 237 + 2 ≤ b) → F' b j = F b j ∧ E' b j = E b j) → Q (svP C g w h) (L, R, F', E', N)) : T_X8_savingOf [B, g, w, h] (L, R, F2, E2, N) Q := by
  have pB := cl_p hT
  have ca := cl_a hT
  have pa : 0 ≤ a := by omega
  have h2 := cl_2 hT
  have hC := cx_c hM
  have hW := sw_w hs
  have hct := cl_ct hT
  have b4 := cw_4 hW
  have hC2 : ctM a C F2 E2 := hC.fa hW (fun b j u v => (hf b j (by omega) (by omega)).1) (fun b j u v => (hf b j (by omega) (by omega)).2)
  refine sX_savingOf pB h2 (cl_5 hT) (cl_6 hT) (cl_7 hT) (cx_f hM) (cl_fn hT) hct hC2 hW (by omega) (by omega) (by omega) (cl_as hT) (cl_l220 hT) (fun o u v => (cl_wy hT o u v).1) (fun o u v => (cx_w hM o u v).fa (fun j => (hf _ _ (by omega) (by omega)).1) (fun j => (hf _ _ (by omega) (by omega)).2)) g0 g1 w0 w1 h0 h1 (fun F3 E3 q => hQ F3 E3 (fun b j u v => ?_))
  have z1 := q b j u v
  have z2 := hf b j u v
  exact ⟨z1.1.trans z2.1, z1.2.trans z2.2⟩
theorem qF.sv {F' E' : Int → Int → Int} (hf : ∀ b j : Int, (b < B + 216 ∨ B + 216 + 4 ≤ b) → (b < B + 237 ∨ B + 237 + 2 ≤ b) → F' b j = F b j ∧ E' b j = E b j) : qF B a R R F F' E E' := ⟨fun _ _ _ => rfl, Or.inl rfl, fun b j u v _ => (hf b j (by omega) (by omega)).1, fun b j u v _ => (hf b j (by omega) (by omega)).2⟩
theorem cX_saves (hT : clT B a L R) (hM : clM B a C tp fd tr fa pl D k M n H HN R F E) (hs : stW C tp fd tr D k M n H HN) (hQ : ∀ (R' F' E' : Int → Int → Int) (v t : Int), (v, t) = r_saves C g w h → qX B a t R R' F F' E E' → Q v (L, R', F', E', N)) : T_X8_saves [B, g, w, h] (L, R, F, E, N) Q := by
  have pB := cl_p hT
  have ca := cl_a hT
  have pa : 0 ≤ a := by omega
  have h2 := cl_2 hT
  have hC := cx_c hM
  have hW := sw_w hs
  have hct := cl_ct hT
  have h00 : ∀ b j : Int, (b < B + 216 ∨ B + 216 + 4 ≤ b) → (b < B + 237 ∨ B + 237 + 2 ≤ b) → F b j = F b j ∧ E b j = E b j := fun _ _ _ _ => ⟨rfl, rfl⟩
  by_cases hall : (0 ≤ g ∧ g < C 0 1 0) ∧ (1 ≤ w ∧ w ≤ 99) ∧ (1 ≤ h ∧ h ≤ 99)
  · obtain ⟨⟨g0, g1⟩, ⟨w0, w1⟩, z0, z1⟩ := hall
    repeat' first
      | exact absurd hc (by decide)
      | with_reducible refine sX_isGate pB h2 pa hC (fun q1 q2 => ?_) (fun q => ?_)
      | with_reducible refine sX_isSize (fun q3 q4 => ?_) (fun q8 => ?_)
      | with_reducible refine cX_sav hT hM hs h00 g0 g1 w0 w1 z0 z1 (fun F3 E3 q9 => ?_)
      | simp (disch := omega) only [ub_X8_saves_31, ue_X8_saves, t_X8_saves, ue_X8_grant, t_X8_grant, ue_X8_refuse, t_X8_refuse, zLg, zRf, zFq, zEl, zNz, zUf, zUe, zUr, zCe, zSn, gd_0, gd_1, gd_2, gd_3, gd_4, gd_5, gd_6, gd_7, gd_8, gd_9, gd_10, gd_11, gd_12, gd_13, gd_14, gd_15, gd_16, gd_17, gd_18, gd_19, se_0, se_1, se_2, se_3, se_4, se_5, se_6, se_7, se_8, se_9, se_10, se_11, se_12, se_13, se_14, se_15, se_16, se_17, se_18, se_19, e_const, e_load, e_store, e_iinc, e_dup, e_dup2, e_pop, e_iadd, e_isub, e_imul, e_ladd, e_lsub, e_lmul, e_iaddw, e_isubw, e_imulw, e_laddw, e_lsubw, e_lmulw, e_iand, e_ior, e_ishl, e_ishr, e_iushr, e_lcmp, e_imax, e_imin, e_idiv, e_irem, e_ldiv, e_lrem, e_i2l, e_i2b, e_l2i, e_i2c, e_getF, e_getR, e_putF, e_putR, e_putz, e_ald, e_aldR, e_ast, e_astb, e_astz, e_asta, e_len, e_acopy, e_new, e_newa, e_mna, e_this, e_room, e_call0, e_callv0, e_call1, e_callv1, e_inv1, e_invv1, e_call2, e_callv2, e_inv2, e_invv2, e_call3, e_callv3, e_inv3, e_invv3, e_call4, e_callv4, e_inv4, e_invv4, e_call5, e_callv5, e_inv5, e_invv5, e_call6, e_callv6, e_inv6, e_invv6, e_call7, e_callv7, e_inv7, e_invv7, e_call8, e_callv8, e_inv8, e_invv8, e_ret, e_retz, e_retc, e_retb, e_retv, e_skip, e_sco, e_tlen, e_tat, e_iz_eq0, e_iz_eq1, e_iz_ne0, e_iz_ne1, add0, sc_d, sc_t, inI_e, inL_e, up_eq, true_or, or_true, or_false, false_or, and_true, true_and, not_false_eq_true, Int.reduceAdd, Int.reduceSub, Int.reduceMul, Int.reduceNeg]
      | with_reducible first | refine izl_lt (fun hc => ?_) (fun hc => ?_) | refine izl_ge (fun hc => ?_) (fun hc => ?_) | refine izl_eq (fun hc => ?_) (fun hc => ?_) | refine ic_ge (fun hc => ?_) (fun hc => ?_) | refine ic_lt (fun hc => ?_) (fun hc => ?_) | refine ic_ne (fun hc => ?_) (fun hc => ?_) | refine ic_eq (fun hc => ?_) (fun hc => ?_) | refine ic_le (fun hc => ?_) (fun hc => ?_) | refine ic_gt (fun hc => ?_) (fun hc => ?_) | refine iz_eq (fun hc => ?_) (fun hc => ?_) | refine iz_ne (fun hc => ?_) (fun hc => ?_) | refine iz_lt (fun hc => ?_) (fun hc => ?_) | refine iz_ge (fun hc => ?_) (fun hc => ?_) | refine iz_gt (fun hc => ?_) (fun hc => ?_) | refine iz_le (fun hc => ?_) (fun hc => ?_) | refine iz_nu (fun hc => ?_) (fun hc => ?_) | refine iz_nn (fun hc => ?_) (fun hc => ?_)
      | omega
      | (exfalso; omega)
    all_goals exact hQ R _ E3 _ _ (by simp (disch := omega) only [r_saves, if_pos, if_neg]) (qX.c (qF.sv q9) (by omega))
  · repeat' first
      | exact absurd hc (by decide)
      | with_reducible refine sX_isGate pB h2 pa hC (fun q1 q2 => ?_) (fun q => ?_)
      | with_reducible refine sX_isSize (fun q3 q4 => ?_) (fun q8 => ?_)
      | simp (disch := omega) only [ub_X8_saves_31, ue_X8_saves, t_X8_saves, ue_X8_grant, t_X8_grant, ue_X8_refuse, t_X8_refuse, zLg, zRf, zFq, zEl, zNz, zUf, zUe, zUr, zCe, zSn, gd_0, gd_1, gd_2, gd_3, gd_4, gd_5, gd_6, gd_7, gd_8, gd_9, gd_10, gd_11, gd_12, gd_13, gd_14, gd_15, gd_16, gd_17, gd_18, gd_19, se_0, se_1, se_2, se_3, se_4, se_5, se_6, se_7, se_8, se_9, se_10, se_11, se_12, se_13, se_14, se_15, se_16, se_17, se_18, se_19, e_const, e_load, e_store, e_iinc, e_dup, e_dup2, e_pop, e_iadd, e_isub, e_imul, e_ladd, e_lsub, e_lmul, e_iaddw, e_isubw, e_imulw, e_laddw, e_lsubw, e_lmulw, e_iand, e_ior, e_ishl, e_ishr, e_iushr, e_lcmp, e_imax, e_imin, e_idiv, e_irem, e_ldiv, e_lrem, e_i2l, e_i2b, e_l2i, e_i2c, e_getF, e_getR, e_putF, e_putR, e_putz, e_ald, e_aldR, e_ast, e_astb, e_astz, e_asta, e_len, e_acopy, e_new, e_newa, e_mna, e_this, e_room, e_call0, e_callv0, e_call1, e_callv1, e_inv1, e_invv1, e_call2, e_callv2, e_inv2, e_invv2, e_call3, e_callv3, e_inv3, e_invv3, e_call4, e_callv4, e_inv4, e_invv4, e_call5, e_callv5, e_inv5, e_invv5, e_call6, e_callv6, e_inv6, e_invv6, e_call7, e_callv7, e_inv7, e_invv7, e_call8, e_callv8, e_inv8, e_invv8, e_ret, e_retz, e_retc, e_retb, e_retv, e_skip, e_sco, e_tlen, e_tat, e_iz_eq0, e_iz_eq1, e_iz_ne0, e_iz_ne1, add0, sc_d, sc_t, inI_e, inL_e, up_eq, true_or, or_true, or_false, false_or, and_true, true_and, not_false_eq_true, Int.reduceAdd, Int.reduceSub, Int.reduceMul, Int.reduceNeg]
      | with_reducible first | refine izl_lt (fun hc => ?_) (fun hc => ?_) | refine izl_ge (fun hc => ?_) (fun hc => ?_) | refine izl_eq (fun hc => ?_) (fun hc => ?_) | refine ic_ge (fun hc => ?_) (fun hc => ?_) | refine ic_lt (fun hc => ?_) (fun hc => ?_) | refine ic_ne (fun hc => ?_) (fun hc => ?_) | refine ic_eq (fun hc => ?_) (fun hc => ?_) | refine ic_le (fun hc => ?_) (fun hc => ?_) | refine ic_gt (fun hc => ?_) (fun hc => ?_) | refine iz_eq (fun hc => ?_) (fun hc => ?_) | refine iz_ne (fun hc => ?_) (fun hc => ?_) | refine iz_lt (fun hc => ?_) (fun hc => ?_) | refine iz_ge (fun hc => ?_) (fun hc => ?_) | refine iz_gt (fun hc => ?_) (fun hc => ?_) | refine iz_le (fun hc => ?_) (fun hc => ?_) | refine iz_nu (fun hc => ?_) (fun hc => ?_) | refine iz_nn (fun hc => ?_) (fun hc => ?_)
      | omega
      | (exfalso; omega)
    all_goals exact hQ _ _ _ _ _ (by simp (disch := omega) only [r_saves, if_pos, if_neg]) (qX.s (by omega))
theorem brF_s {w h i : Int} (h1 : 1 ≤ i) : brF C w h i.toNat = if svP C (brF C w h (i - 1).toNat) w h < svP C i w h then i else brF C w h (i - 1).toNat := by
  obtain ⟨q, rfl⟩ : ∃ q : Nat, i = (q : Int) + 1 := ⟨(i - 1).toNat, by omega⟩
  have e1 : ((q : Int) + 1).toNat = q + 1 := by omega
  have e2 : ((q : Int) + 1 - 1).toNat = q := by omega
  rw [e1, e2]
  rfl
theorem cX_breach (hT : clT B a L R) (hM : clM B a C tp fd tr fa pl D k M n H HN R F E) (hs : stW C tp fd tr D k M n H HN) (hQ : ∀ (R' F' E' : Int → Int → Int) (v t : Int), (v, t) = r_breach C w h → qX B a t R R' F F' E E' → Q v (L, R', F', E', N)) : T_X8_breach [B, w, h] (L, R, F, E, N) Q := by
  have pB := cl_p hT
  have ca := cl_a hT
  have pa : 0 ≤ a := by omega
  have h2 := cl_2 hT
  have hC := cx_c hM
  have hW := sw_w hs
  have hct := cl_ct hT
  have b1 := cw_1 hW
  have e1 := cm_1 hC
  have h00 : ∀ b j : Int, (b < B + 216 ∨ B + 216 + 4 ≤ b) → (b < B + 237 ∨ B + 237 + 2 ≤ b) → F b j = F b j ∧ E b j = E b j := fun _ _ _ _ => ⟨rfl, rfl⟩
  have z00 : (0 : Int) ≤ 0 := by omega
  by_cases hall : 0 < C 0 1 0 ∧ (1 ≤ w ∧ w ≤ 99) ∧ (1 ≤ h ∧ h ≤ 99)
  · obtain ⟨g1, ⟨w0, w1⟩, z0, z1⟩ := hall
    have hz : 0 < C 0 0 0 := ring_of (x := 0) hs (by omega)
    repeat' first
      | exact absurd hc (by decide)
      | with_reducible refine sX_isCity pB h2 pa hC (fun q1 => ?_) (fun q => ?_)
      | with_reducible refine sX_isSize (fun q3 q4 => ?_) (fun q8 => ?_)
      | with_reducible refine cX_sav hT hM hs h00 z00 g1 w0 w1 z0 z1 (fun F3 E3 q9 => ?_)
      | simp (disch := omega) only [t_X8_breach, ue_X8_breach, zLg, zRf, zFq, zEl, zNz, zUf, zUe, zUr, zCe, zSn, gd_0, gd_1, gd_2, gd_3, gd_4, gd_5, gd_6, gd_7, gd_8, gd_9, gd_10, gd_11, gd_12, gd_13, gd_14, gd_15, gd_16, gd_17, gd_18, gd_19, se_0, se_1, se_2, se_3, se_4, se_5, se_6, se_7, se_8, se_9, se_10, se_11, se_12, se_13, se_14, se_15, se_16, se_17, se_18, se_19, e_const, e_load, e_store, e_iinc, e_dup, e_dup2, e_pop, e_iadd, e_isub, e_imul, e_ladd, e_lsub, e_lmul, e_iaddw, e_isubw, e_imulw, e_laddw, e_lsubw, e_lmulw, e_iand, e_ior, e_ishl, e_ishr, e_iushr, e_lcmp, e_imax, e_imin, e_idiv, e_irem, e_ldiv, e_lrem, e_i2l, e_i2b, e_l2i, e_i2c, e_getF, e_getR, e_putF, e_putR, e_putz, e_ald, e_aldR, e_ast, e_astb, e_astz, e_asta, e_len, e_acopy, e_new, e_newa, e_mna, e_this, e_room, e_call0, e_callv0, e_call1, e_callv1, e_inv1, e_invv1, e_call2, e_callv2, e_inv2, e_invv2, e_call3, e_callv3, e_inv3, e_invv3, e_call4, e_callv4, e_inv4, e_invv4, e_call5, e_callv5, e_inv5, e_invv5, e_call6, e_callv6, e_inv6, e_invv6, e_call7, e_callv7, e_inv7, e_invv7, e_call8, e_callv8, e_inv8, e_invv8, e_ret, e_retz, e_retc, e_retb, e_retv, e_skip, e_sco, e_tlen, e_tat, e_iz_eq0, e_iz_eq1, e_iz_ne0, e_iz_ne1, add0, sc_d, sc_t, inI_e, inL_e, up_eq, true_or, or_true, or_false, false_or, and_true, true_and, not_false_eq_true, Int.reduceAdd, Int.reduceSub, Int.reduceMul, Int.reduceNeg, h2, e1]
      | with_reducible first | refine izl_lt (fun hc => ?_) (fun hc => ?_) | refine izl_ge (fun hc => ?_) (fun hc => ?_) | refine izl_eq (fun hc => ?_) (fun hc => ?_) | refine ic_ge (fun hc => ?_) (fun hc => ?_) | refine ic_lt (fun hc => ?_) (fun hc => ?_) | refine ic_ne (fun hc => ?_) (fun hc => ?_) | refine ic_eq (fun hc => ?_) (fun hc => ?_) | refine ic_le (fun hc => ?_) (fun hc => ?_) | refine ic_gt (fun hc => ?_) (fun hc => ?_) | refine iz_eq (fun hc => ?_) (fun hc => ?_) | refine iz_ne (fun hc => ?_) (fun hc => ?_) | refine iz_lt (fun hc => ?_) (fun hc => ?_) | refine iz_ge (fun hc => ?_) (fun hc => ?_) | refine iz_gt (fun hc => ?_) (fun hc => ?_) | refine iz_le (fun hc => ?_) (fun hc => ?_) | refine iz_nu (fun hc => ?_) (fun hc => ?_) | refine iz_nn (fun hc => ?_) (fun hc => ?_)
      | omega
      | (exfalso; omega)
    unfold L_X8_breach_64
    refine lpw (fun nn lo st h9 c s => ∃ (i v : Int) (F' E' : Int → Int → Int), lo = [B, w, h, brF C w h (i - 1).toNat, svP C (brF C w h (i - 1).toNat) w h, i, v] ∧ st = [] ∧ h9 = (L, R, F', E', N) ∧ 1 ≤ i ∧ i ≤ C 0 1 0 ∧ (nn : Int) = C 0 1 0 - i ∧ (∀ b j : Int, (b < B + 216 ∨ B + 216 + 4 ≤ b) → (b < B + 237 ∨ B + 237 + 2 ≤ b) → F' b j = F b j ∧ E' b j = E b j)) ?_ (n := (C 0 1 0 - 1).toNat) ⟨1, 0, F3, E3, rfl, rfl, rfl, by omega, by omega, by omega, q9⟩
    rintro nn kk hkk lo st h9 c9 s9 ⟨i, v, F4, E4, rfl, rfl, rfl, hi, hi2, hn1, hf⟩
    have es := brF_s (C := C) (w := w) (h := h) hi
    have ee : brF C w h (i + 1 - 1).toNat = brF C w h i.toNat := by congr 2; omega
    have e1' : F4 a 1 = C 0 1 0 := ((hf a 1 (by omega) (by omega)).1).trans e1
    have i0 : 0 ≤ i := by omega
    by_cases hlt : i < C 0 1 0
    · by_cases hle : svP C (brF C w h (i - 1).toNat) w h < svP C i w h
      · rw [if_pos hle] at es
        repeat' first
          | exact absurd hc (by decide)
          | with_reducible refine cX_sav hT hM hs hf i0 hlt w0 w1 z0 z1 (fun F5 E5 q10 => ?_)
          | simp (disch := omega) only [ub_X8_breach_27, ub_X8_breach_100, ue_X8_breach, t_X8_breach, zLg, zRf, zFq, zEl, zNz, zUf, zUe, zUr, zCe, zSn, gd_0, gd_1, gd_2, gd_3, gd_4, gd_5, gd_6, gd_7, gd_8, gd_9, gd_10, gd_11, gd_12, gd_13, gd_14, gd_15, gd_16, gd_17, gd_18, gd_19, se_0, se_1, se_2, se_3, se_4, se_5, se_6, se_7, se_8, se_9, se_10, se_11, se_12, se_13, se_14, se_15, se_16, se_17, se_18, se_19, e_const, e_load, e_store, e_iinc, e_dup, e_dup2, e_pop, e_iadd, e_isub, e_imul, e_ladd, e_lsub, e_lmul, e_iaddw, e_isubw, e_imulw, e_laddw, e_lsubw, e_lmulw, e_iand, e_ior, e_ishl, e_ishr, e_iushr, e_lcmp, e_imax, e_imin, e_idiv, e_irem, e_ldiv, e_lrem, e_i2l, e_i2b, e_l2i, e_i2c, e_getF, e_getR, e_putF, e_putR, e_putz, e_ald, e_aldR, e_ast, e_astb, e_astz, e_asta, e_len, e_acopy, e_new, e_newa, e_mna, e_this, e_room, e_call0, e_callv0, e_call1, e_callv1, e_inv1, e_invv1, e_call2, e_callv2, e_inv2, e_invv2, e_call3, e_callv3, e_inv3, e_invv3, e_call4, e_callv4, e_inv4, e_invv4, e_call5, e_callv5, e_inv5, e_invv5, e_call6, e_callv6, e_inv6, e_invv6, e_call7, e_callv7, e_inv7, e_invv7, e_call8, e_callv8, e_inv8, e_invv8, e_ret, e_retz, e_retc, e_retb, e_retv, e_skip, e_sco, e_tlen, e_tat, e_iz_eq0, e_iz_eq1, e_iz_ne0, e_iz_ne1, add0, sc_d, sc_t, inI_e, inL_e, up_eq, true_or, or_true, or_false, false_or, and_true, true_and, not_false_eq_true, Int.reduceAdd, Int.reduceSub, Int.reduceMul, Int.reduceNeg, h2, e1']
          | with_reducible first | refine izl_lt (fun hc => ?_) (fun hc => ?_) | refine izl_ge (fun hc => ?_) (fun hc => ?_) | refine izl_eq (fun hc => ?_) (fun hc => ?_) | refine ic_ge (fun hc => ?_) (fun hc => ?_) | refine ic_lt (fun hc => ?_) (fun hc => ?_) | refine ic_ne (fun hc => ?_) (fun hc => ?_) | refine ic_eq (fun hc => ?_) (fun hc => ?_) | refine ic_le (fun hc => ?_) (fun hc => ?_) | refine ic_gt (fun hc => ?_) (fun hc => ?_) | refine iz_eq (fun hc => ?_) (fun hc => ?_) | refine iz_ne (fun hc => ?_) (fun hc => ?_) | refine iz_lt (fun hc => ?_) (fun hc => ?_) | refine iz_ge (fun hc => ?_) (fun hc => ?_) | refine iz_gt (fun hc => ?_) (fun hc => ?_) | refine iz_le (fun hc => ?_) (fun hc => ?_) | refine iz_nu (fun hc => ?_) (fun hc => ?_) | refine iz_nn (fun hc => ?_) (fun hc => ?_)
          | omega
          | (exfalso; omega)
        all_goals exact hkk (nn - 1) _ _ _ _ _ (by omega) ⟨i + 1, _, F5, E5, by rw [ee, es], rfl, rfl, by omega, by omega, by omega, q10⟩
      · rw [if_neg hle] at es
        repeat' first
          | exact absurd hc (by decide)
          | with_reducible refine cX_sav hT hM hs hf i0 hlt w0 w1 z0 z1 (fun F5 E5 q10 => ?_)
          | simp (disch := omega) only [ub_X8_breach_27, ub_X8_breach_100, ue_X8_breach, t_X8_breach, zLg, zRf, zFq, zEl, zNz, zUf, zUe, zUr, zCe, zSn, gd_0, gd_1, gd_2, gd_3, gd_4, gd_5, gd_6, gd_7, gd_8, gd_9, gd_10, gd_11, gd_12, gd_13, gd_14, gd_15, gd_16, gd_17, gd_18, gd_19, se_0, se_1, se_2, se_3, se_4, se_5, se_6, se_7, se_8, se_9, se_10, se_11, se_12, se_13, se_14, se_15, se_16, se_17, se_18, se_19, e_const, e_load, e_store, e_iinc, e_dup, e_dup2, e_pop, e_iadd, e_isub, e_imul, e_ladd, e_lsub, e_lmul, e_iaddw, e_isubw, e_imulw, e_laddw, e_lsubw, e_lmulw, e_iand, e_ior, e_ishl, e_ishr, e_iushr, e_lcmp, e_imax, e_imin, e_idiv, e_irem, e_ldiv, e_lrem, e_i2l, e_i2b, e_l2i, e_i2c, e_getF, e_getR, e_putF, e_putR, e_putz, e_ald, e_aldR, e_ast, e_astb, e_astz, e_asta, e_len, e_acopy, e_new, e_newa, e_mna, e_this, e_room, e_call0, e_callv0, e_call1, e_callv1, e_inv1, e_invv1, e_call2, e_callv2, e_inv2, e_invv2, e_call3, e_callv3, e_inv3, e_invv3, e_call4, e_callv4, e_inv4, e_invv4, e_call5, e_callv5, e_inv5, e_invv5, e_call6, e_callv6, e_inv6, e_invv6, e_call7, e_callv7, e_inv7, e_invv7, e_call8, e_callv8, e_inv8, e_invv8, e_ret, e_retz, e_retc, e_retb, e_retv, e_skip, e_sco, e_tlen, e_tat, e_iz_eq0, e_iz_eq1, e_iz_ne0, e_iz_ne1, add0, sc_d, sc_t, inI_e, inL_e, up_eq, true_or, or_true, or_false, false_or, and_true, true_and, not_false_eq_true, Int.reduceAdd, Int.reduceSub, Int.reduceMul, Int.reduceNeg, h2, e1']
          | with_reducible first | refine izl_lt (fun hc => ?_) (fun hc => ?_) | refine izl_ge (fun hc => ?_) (fun hc => ?_) | refine izl_eq (fun hc => ?_) (fun hc => ?_) | refine ic_ge (fun hc => ?_) (fun hc => ?_) | refine ic_lt (fun hc => ?_) (fun hc => ?_) | refine ic_ne (fun hc => ?_) (fun hc => ?_) | refine ic_eq (fun hc => ?_) (fun hc => ?_) | refine ic_le (fun hc => ?_) (fun hc => ?_) | refine ic_gt (fun hc => ?_) (fun hc => ?_) | refine iz_eq (fun hc => ?_) (fun hc => ?_) | refine iz_ne (fun hc => ?_) (fun hc => ?_) | refine iz_lt (fun hc => ?_) (fun hc => ?_) | refine iz_ge (fun hc => ?_) (fun hc => ?_) | refine iz_gt (fun hc => ?_) (fun hc => ?_) | refine iz_le (fun hc => ?_) (fun hc => ?_) | refine iz_nu (fun hc => ?_) (fun hc => ?_) | refine iz_nn (fun hc => ?_) (fun hc => ?_)
          | omega
          | (exfalso; omega)
        all_goals exact hkk (nn - 1) _ _ _ _ _ (by omega) ⟨i + 1, _, F5, E5, by rw [ee, es], rfl, rfl, by omega, by omega, by omega, q10⟩
    · have hie : i = C 0 1 0 := by omega
      subst hie
      repeat' first
        | exact absurd hc (by decide)
        | simp (disch := omega) only [ue_X8_grant, t_X8_grant, zLg, zRf, zFq, zEl, zNz, zUf, zUe, zUr, zCe, zSn, gd_0, gd_1, gd_2, gd_3, gd_4, gd_5, gd_6, gd_7, gd_8, gd_9, gd_10, gd_11, gd_12, gd_13, gd_14, gd_15, gd_16, gd_17, gd_18, gd_19, se_0, se_1, se_2, se_3, se_4, se_5, se_6, se_7, se_8, se_9, se_10, se_11, se_12, se_13, se_14, se_15, se_16, se_17, se_18, se_19, e_const, e_load, e_store, e_iinc, e_dup, e_dup2, e_pop, e_iadd, e_isub, e_imul, e_ladd, e_lsub, e_lmul, e_iaddw, e_isubw, e_imulw, e_laddw, e_lsubw, e_lmulw, e_iand, e_ior, e_ishl, e_ishr, e_iushr, e_lcmp, e_imax, e_imin, e_idiv, e_irem, e_ldiv, e_lrem, e_i2l, e_i2b, e_l2i, e_i2c, e_getF, e_getR, e_putF, e_putR, e_putz, e_ald, e_aldR, e_ast, e_astb, e_astz, e_asta, e_len, e_acopy, e_new, e_newa, e_mna, e_this, e_room, e_call0, e_callv0, e_call1, e_callv1, e_inv1, e_invv1, e_call2, e_callv2, e_inv2, e_invv2, e_call3, e_callv3, e_inv3, e_invv3, e_call4, e_callv4, e_inv4, e_invv4, e_call5, e_callv5, e_inv5, e_invv5, e_call6, e_callv6, e_inv6, e_invv6, e_call7, e_callv7, e_inv7, e_invv7, e_call8, e_callv8, e_inv8, e_invv8, e_ret, e_retz, e_retc, e_retb, e_retv, e_skip, e_sco, e_tlen, e_tat, e_iz_eq0, e_iz_eq1, e_iz_ne0, e_iz_ne1, add0, sc_d, sc_t, inI_e, inL_e, up_eq, true_or, or_true, or_false, false_or, and_true, true_and, not_false_eq_true, Int.reduceAdd, Int.reduceSub, Int.reduceMul, Int.reduceNeg, h2, e1']
        | with_reducible first | refine izl_lt (fun hc => ?_) (fun hc => ?_) | refine izl_ge (fun hc => ?_) (fun hc => ?_) | refine izl_eq (fun hc => ?_) (fun hc => ?_) | refine ic_ge (fun hc => ?_) (fun hc => ?_) | refine ic_lt (fun hc => ?_) (fun hc => ?_) | refine ic_ne (fun hc => ?_) (fun hc => ?_) | refine ic_eq (fun hc => ?_) (fun hc => ?_) | refine ic_le (fun hc => ?_) (fun hc => ?_) | refine ic_gt (fun hc => ?_) (fun hc => ?_) | refine iz_eq (fun hc => ?_) (fun hc => ?_) | refine iz_ne (fun hc => ?_) (fun hc => ?_) | refine iz_lt (fun hc => ?_) (fun hc => ?_) | refine iz_ge (fun hc => ?_) (fun hc => ?_) | refine iz_gt (fun hc => ?_) (fun hc => ?_) | refine iz_le (fun hc => ?_) (fun hc => ?_) | refine iz_nu (fun hc => ?_) (fun hc => ?_) | refine iz_nn (fun hc => ?_) (fun hc => ?_)
        | omega
        | (exfalso; omega)
      all_goals exact hQ R _ E4 _ _ (by simp (disch := omega) only [r_breach, if_pos, if_neg]) (qX.c (qF.sv hf) (by omega))
  · have hn : ¬ 0 < C 0 0 0 ∨ C 0 1 0 = 0 ∨ ¬ ((1 ≤ w ∧ w ≤ 99) ∧ (1 ≤ h ∧ h ≤ 99)) := by omega
    repeat' first
      | exact absurd hc (by decide)
      | with_reducible refine sX_isCity pB h2 pa hC (fun q1 => ?_) (fun q => ?_)
      | with_reducible refine sX_isSize (fun q3 q4 => ?_) (fun q8 => ?_)
      | simp (disch := omega) only [t_X8_breach, ue_X8_breach, ub_X8_breach_27, ue_X8_refuse, t_X8_refuse, zLg, zRf, zFq, zEl, zNz, zUf, zUe, zUr, zCe, zSn, gd_0, gd_1, gd_2, gd_3, gd_4, gd_5, gd_6, gd_7, gd_8, gd_9, gd_10, gd_11, gd_12, gd_13, gd_14, gd_15, gd_16, gd_17, gd_18, gd_19, se_0, se_1, se_2, se_3, se_4, se_5, se_6, se_7, se_8, se_9, se_10, se_11, se_12, se_13, se_14, se_15, se_16, se_17, se_18, se_19, e_const, e_load, e_store, e_iinc, e_dup, e_dup2, e_pop, e_iadd, e_isub, e_imul, e_ladd, e_lsub, e_lmul, e_iaddw, e_isubw, e_imulw, e_laddw, e_lsubw, e_lmulw, e_iand, e_ior, e_ishl, e_ishr, e_iushr, e_lcmp, e_imax, e_imin, e_idiv, e_irem, e_ldiv, e_lrem, e_i2l, e_i2b, e_l2i, e_i2c, e_getF, e_getR, e_putF, e_putR, e_putz, e_ald, e_aldR, e_ast, e_astb, e_astz, e_asta, e_len, e_acopy, e_new, e_newa, e_mna, e_this, e_room, e_call0, e_callv0, e_call1, e_callv1, e_inv1, e_invv1, e_call2, e_callv2, e_inv2, e_invv2, e_call3, e_callv3, e_inv3, e_invv3, e_call4, e_callv4, e_inv4, e_invv4, e_call5, e_callv5, e_inv5, e_invv5, e_call6, e_callv6, e_inv6, e_invv6, e_call7, e_callv7, e_inv7, e_invv7, e_call8, e_callv8, e_inv8, e_invv8, e_ret, e_retz, e_retc, e_retb, e_retv, e_skip, e_sco, e_tlen, e_tat, e_iz_eq0, e_iz_eq1, e_iz_ne0, e_iz_ne1, add0, sc_d, sc_t, inI_e, inL_e, up_eq, true_or, or_true, or_false, false_or, and_true, true_and, not_false_eq_true, Int.reduceAdd, Int.reduceSub, Int.reduceMul, Int.reduceNeg, h2, e1]
      | with_reducible first | refine izl_lt (fun hc => ?_) (fun hc => ?_) | refine izl_ge (fun hc => ?_) (fun hc => ?_) | refine izl_eq (fun hc => ?_) (fun hc => ?_) | refine ic_ge (fun hc => ?_) (fun hc => ?_) | refine ic_lt (fun hc => ?_) (fun hc => ?_) | refine ic_ne (fun hc => ?_) (fun hc => ?_) | refine ic_eq (fun hc => ?_) (fun hc => ?_) | refine ic_le (fun hc => ?_) (fun hc => ?_) | refine ic_gt (fun hc => ?_) (fun hc => ?_) | refine iz_eq (fun hc => ?_) (fun hc => ?_) | refine iz_ne (fun hc => ?_) (fun hc => ?_) | refine iz_lt (fun hc => ?_) (fun hc => ?_) | refine iz_ge (fun hc => ?_) (fun hc => ?_) | refine iz_gt (fun hc => ?_) (fun hc => ?_) | refine iz_le (fun hc => ?_) (fun hc => ?_) | refine iz_nu (fun hc => ?_) (fun hc => ?_) | refine iz_nn (fun hc => ?_) (fun hc => ?_)
      | omega
      | (exfalso; omega)
    all_goals exact hQ _ _ _ _ _ (by simp (disch := omega) only [r_breach, if_pos, if_neg]) (qX.s (by omega))
theorem qF.rm {E' : Int → Int → Int} (hf : frI (B + 325) (B + 325 + 4) E E') : qF B a R R F F E E' := ⟨fun _ _ _ => rfl, Or.inl rfl, fun b j u v _ => rfl, fun b j u v w => hf b j (by omega)⟩
theorem cX_ram (hT : clT B a L R) (hM : clM B a C tp fd tr fa pl D k M n H HN R F E) (hs : stW C tp fd tr D k M n H HN) (hQ : ∀ (R' F' E' : Int → Int → Int) (v t : Int), (v, t) = r_ram C i w h → qX B a t R R' F F' E E' → Q v (L, R', F', E', N)) : T_X8_ram [B, i, w, h] (L, R, F, E, N) Q := by
  have pB := cl_p hT
  have ca := cl_a hT
  have pa : 0 ≤ a := by omega
  have h2 := cl_2 hT
  have hC := cx_c hM
  have hW := sw_w hs
  have hct := cl_ct hT
  have r14 := cl_14 hT
  have hrm := cl_rm hT
  have hrf := cx_r hM
  by_cases hall : 0 < C 0 0 0 ∧ (1 ≤ i ∧ i ≤ 99) ∧ (1 ≤ w ∧ w ≤ 99) ∧ (1 ≤ h ∧ h ≤ 99)
  · obtain ⟨hz, hl, hw, hh⟩ := hall
    have hth := rmT_W hl hw hh
    repeat' first
      | exact absurd hc (by decide)
      | with_reducible refine sX_isCity pB h2 pa hC (fun q1 => ?_) (fun q => ?_)
      | with_reducible refine sX_isSize (fun q3 q4 => ?_) (fun q8 => ?_)
      | with_reducible refine sX_measure hrm hrf (fun E3 q9 q10 => ?_)
      | simp (disch := omega) only [t_X8_ram, ue_X8_ram, zLg, zRf, zFq, zEl, zNz, zUf, zUe, zUr, zCe, zSn, gd_0, gd_1, gd_2, gd_3, gd_4, gd_5, gd_6, gd_7, gd_8, gd_9, gd_10, gd_11, gd_12, gd_13, gd_14, gd_15, gd_16, gd_17, gd_18, gd_19, se_0, se_1, se_2, se_3, se_4, se_5, se_6, se_7, se_8, se_9, se_10, se_11, se_12, se_13, se_14, se_15, se_16, se_17, se_18, se_19, e_const, e_load, e_store, e_iinc, e_dup, e_dup2, e_pop, e_iadd, e_isub, e_imul, e_ladd, e_lsub, e_lmul, e_iaddw, e_isubw, e_imulw, e_laddw, e_lsubw, e_lmulw, e_iand, e_ior, e_ishl, e_ishr, e_iushr, e_lcmp, e_imax, e_imin, e_idiv, e_irem, e_ldiv, e_lrem, e_i2l, e_i2b, e_l2i, e_i2c, e_getF, e_getR, e_putF, e_putR, e_putz, e_ald, e_aldR, e_ast, e_astb, e_astz, e_asta, e_len, e_acopy, e_new, e_newa, e_mna, e_this, e_room, e_call0, e_callv0, e_call1, e_callv1, e_inv1, e_invv1, e_call2, e_callv2, e_inv2, e_invv2, e_call3, e_callv3, e_inv3, e_invv3, e_call4, e_callv4, e_inv4, e_invv4, e_call5, e_callv5, e_inv5, e_invv5, e_call6, e_callv6, e_inv6, e_invv6, e_call7, e_callv7, e_inv7, e_invv7, e_call8, e_callv8, e_inv8, e_invv8, e_ret, e_retz, e_retc, e_retb, e_retv, e_skip, e_sco, e_tlen, e_tat, e_iz_eq0, e_iz_eq1, e_iz_ne0, e_iz_ne1, add0, sc_d, sc_t, inI_e, inL_e, up_eq, true_or, or_true, or_false, false_or, and_true, true_and, not_false_eq_true, Int.reduceAdd, Int.reduceSub, Int.reduceMul, Int.reduceNeg, h2, r14]
      | with_reducible first | refine izl_lt (fun hc => ?_) (fun hc => ?_) | refine izl_ge (fun hc => ?_) (fun hc => ?_) | refine izl_eq (fun hc => ?_) (fun hc => ?_) | refine ic_ge (fun hc => ?_) (fun hc => ?_) | refine ic_lt (fun hc => ?_) (fun hc => ?_) | refine ic_ne (fun hc => ?_) (fun hc => ?_) | refine ic_eq (fun hc => ?_) (fun hc => ?_) | refine ic_le (fun hc => ?_) (fun hc => ?_) | refine ic_gt (fun hc => ?_) (fun hc => ?_) | refine iz_eq (fun hc => ?_) (fun hc => ?_) | refine iz_ne (fun hc => ?_) (fun hc => ?_) | refine iz_lt (fun hc => ?_) (fun hc => ?_) | refine iz_ge (fun hc => ?_) (fun hc => ?_) | refine iz_gt (fun hc => ?_) (fun hc => ?_) | refine iz_le (fun hc => ?_) (fun hc => ?_) | refine iz_nu (fun hc => ?_) (fun hc => ?_) | refine iz_nn (fun hc => ?_) (fun hc => ?_)
      | omega
      | (exfalso; omega)
    have hC3 : ctM a C F E3 := hC.fa hW (fun _ _ _ _ => rfl) (fun b j u v => q10 b j (by omega))
    refine sX_depthOf hct hC3 hW hrm q9 hth hz (fun d q13 q14 => ?_)
    have e13 := dp_e q13
    repeat' first
      | exact absurd hc (by decide)
      | simp (disch := omega) only [ue_X8_grant, t_X8_grant, zLg, zRf, zFq, zEl, zNz, zUf, zUe, zUr, zCe, zSn, gd_0, gd_1, gd_2, gd_3, gd_4, gd_5, gd_6, gd_7, gd_8, gd_9, gd_10, gd_11, gd_12, gd_13, gd_14, gd_15, gd_16, gd_17, gd_18, gd_19, se_0, se_1, se_2, se_3, se_4, se_5, se_6, se_7, se_8, se_9, se_10, se_11, se_12, se_13, se_14, se_15, se_16, se_17, se_18, se_19, e_const, e_load, e_store, e_iinc, e_dup, e_dup2, e_pop, e_iadd, e_isub, e_imul, e_ladd, e_lsub, e_lmul, e_iaddw, e_isubw, e_imulw, e_laddw, e_lsubw, e_lmulw, e_iand, e_ior, e_ishl, e_ishr, e_iushr, e_lcmp, e_imax, e_imin, e_idiv, e_irem, e_ldiv, e_lrem, e_i2l, e_i2b, e_l2i, e_i2c, e_getF, e_getR, e_putF, e_putR, e_putz, e_ald, e_aldR, e_ast, e_astb, e_astz, e_asta, e_len, e_acopy, e_new, e_newa, e_mna, e_this, e_room, e_call0, e_callv0, e_call1, e_callv1, e_inv1, e_invv1, e_call2, e_callv2, e_inv2, e_invv2, e_call3, e_callv3, e_inv3, e_invv3, e_call4, e_callv4, e_inv4, e_invv4, e_call5, e_callv5, e_inv5, e_invv5, e_call6, e_callv6, e_inv6, e_invv6, e_call7, e_callv7, e_inv7, e_invv7, e_call8, e_callv8, e_inv8, e_invv8, e_ret, e_retz, e_retc, e_retb, e_retv, e_skip, e_sco, e_tlen, e_tat, e_iz_eq0, e_iz_eq1, e_iz_ne0, e_iz_ne1, add0, sc_d, sc_t, inI_e, inL_e, up_eq, true_or, or_true, or_false, false_or, and_true, true_and, not_false_eq_true, Int.reduceAdd, Int.reduceSub, Int.reduceMul, Int.reduceNeg, h2, r14]
      | with_reducible first | refine izl_lt (fun hc => ?_) (fun hc => ?_) | refine izl_ge (fun hc => ?_) (fun hc => ?_) | refine izl_eq (fun hc => ?_) (fun hc => ?_) | refine ic_ge (fun hc => ?_) (fun hc => ?_) | refine ic_lt (fun hc => ?_) (fun hc => ?_) | refine ic_ne (fun hc => ?_) (fun hc => ?_) | refine ic_eq (fun hc => ?_) (fun hc => ?_) | refine ic_le (fun hc => ?_) (fun hc => ?_) | refine ic_gt (fun hc => ?_) (fun hc => ?_) | refine iz_eq (fun hc => ?_) (fun hc => ?_) | refine iz_ne (fun hc => ?_) (fun hc => ?_) | refine iz_lt (fun hc => ?_) (fun hc => ?_) | refine iz_ge (fun hc => ?_) (fun hc => ?_) | refine iz_gt (fun hc => ?_) (fun hc => ?_) | refine iz_le (fun hc => ?_) (fun hc => ?_) | refine iz_nu (fun hc => ?_) (fun hc => ?_) | refine iz_nn (fun hc => ?_) (fun hc => ?_)
      | omega
      | (exfalso; omega)
    all_goals exact hQ R _ E3 _ _ (by simp (disch := omega) only [r_ram, if_pos, if_neg, e13]) (qX.c (qF.rm q10) (by omega))
  · repeat' first
      | exact absurd hc (by decide)
      | with_reducible refine sX_isCity pB h2 pa hC (fun q1 => ?_) (fun q => ?_)
      | with_reducible refine sX_isSize (fun q3 q4 => ?_) (fun q8 => ?_)
      | simp (disch := omega) only [t_X8_ram, ue_X8_ram, ub_X8_ram_34, ue_X8_refuse, t_X8_refuse, zLg, zRf, zFq, zEl, zNz, zUf, zUe, zUr, zCe, zSn, gd_0, gd_1, gd_2, gd_3, gd_4, gd_5, gd_6, gd_7, gd_8, gd_9, gd_10, gd_11, gd_12, gd_13, gd_14, gd_15, gd_16, gd_17, gd_18, gd_19, se_0, se_1, se_2, se_3, se_4, se_5, se_6, se_7, se_8, se_9, se_10, se_11, se_12, se_13, se_14, se_15, se_16, se_17, se_18, se_19, e_const, e_load, e_store, e_iinc, e_dup, e_dup2, e_pop, e_iadd, e_isub, e_imul, e_ladd, e_lsub, e_lmul, e_iaddw, e_isubw, e_imulw, e_laddw, e_lsubw, e_lmulw, e_iand, e_ior, e_ishl, e_ishr, e_iushr, e_lcmp, e_imax, e_imin, e_idiv, e_irem, e_ldiv, e_lrem, e_i2l, e_i2b, e_l2i, e_i2c, e_getF, e_getR, e_putF, e_putR, e_putz, e_ald, e_aldR, e_ast, e_astb, e_astz, e_asta, e_len, e_acopy, e_new, e_newa, e_mna, e_this, e_room, e_call0, e_callv0, e_call1, e_callv1, e_inv1, e_invv1, e_call2, e_callv2, e_inv2, e_invv2, e_call3, e_callv3, e_inv3, e_invv3, e_call4, e_callv4, e_inv4, e_invv4, e_call5, e_callv5, e_inv5, e_invv5, e_call6, e_callv6, e_inv6, e_invv6, e_call7, e_callv7, e_inv7, e_invv7, e_call8, e_callv8, e_inv8, e_invv8, e_ret, e_retz, e_retc, e_retb, e_retv, e_skip, e_sco, e_tlen, e_tat, e_iz_eq0, e_iz_eq1, e_iz_ne0, e_iz_ne1, add0, sc_d, sc_t, inI_e, inL_e, up_eq, true_or, or_true, or_false, false_or, and_true, true_and, not_false_eq_true, Int.reduceAdd, Int.reduceSub, Int.reduceMul, Int.reduceNeg]
      | with_reducible first | refine izl_lt (fun hc => ?_) (fun hc => ?_) | refine izl_ge (fun hc => ?_) (fun hc => ?_) | refine izl_eq (fun hc => ?_) (fun hc => ?_) | refine ic_ge (fun hc => ?_) (fun hc => ?_) | refine ic_lt (fun hc => ?_) (fun hc => ?_) | refine ic_ne (fun hc => ?_) (fun hc => ?_) | refine ic_eq (fun hc => ?_) (fun hc => ?_) | refine ic_le (fun hc => ?_) (fun hc => ?_) | refine ic_gt (fun hc => ?_) (fun hc => ?_) | refine iz_eq (fun hc => ?_) (fun hc => ?_) | refine iz_ne (fun hc => ?_) (fun hc => ?_) | refine iz_lt (fun hc => ?_) (fun hc => ?_) | refine iz_ge (fun hc => ?_) (fun hc => ?_) | refine iz_gt (fun hc => ?_) (fun hc => ?_) | refine iz_le (fun hc => ?_) (fun hc => ?_) | refine iz_nu (fun hc => ?_) (fun hc => ?_) | refine iz_nn (fun hc => ?_) (fun hc => ?_)
      | omega
      | (exfalso; omega)
    all_goals exact hQ _ _ _ _ _ (by simp (disch := omega) only [r_ram, if_pos, if_neg]) (qX.s (by omega))
theorem cX_ramBy (hT : clT B a L R) (hM : clM B a C tp fd tr fa pl D k M n H HN R F E) (hs : stW C tp fd tr D k M n H HN) (hQ : ∀ (R' F' E' : Int → Int → Int) (v t : Int), (v, t) = r_ramBy C g i w h x → qX B a t R R' F F' E E' → Q v (L, R', F', E', N)) : T_X8_ramBy [B, g, i, w, h, x] (L, R, F, E, N) Q := by
  have pB := cl_p hT
  have ca := cl_a hT
  have pa : 0 ≤ a := by omega
  have h2 := cl_2 hT
  have hC := cx_c hM
  have hW := sw_w hs
  have hct := cl_ct hT
  have r14 := cl_14 hT
  have hrm := cl_rm hT
  have hrf := cx_r hM
  have b1 := cw_1 hW
  by_cases hall : (0 ≤ g ∧ g < C 0 1 0) ∧ (1 ≤ i ∧ i ≤ 99) ∧ (1 ≤ w ∧ w ≤ 99) ∧ (1 ≤ h ∧ h ≤ 99) ∧ (1 ≤ x ∧ x ≤ 99)
  · obtain ⟨hg, hl, hw, hh, hx⟩ := hall
    have hz : 0 < C 0 0 0 := ring_of (x := 0) hs (by omega)
    have hth := rmT_W hl hw hh
    have gr := ct_gr hct g hg.1 (by omega)
    have gl := ct_gl hct g hg.1 (by omega)
    have c3 := cw_g3 hW g hg.1 hg.2
    have hW' := wdC_W hW (g := g) hx.1 hx.2 (h := 1) (by omega) (by omega)
    repeat' first
      | exact absurd hc (by decide)
      | with_reducible refine sX_isGate pB h2 pa hC (fun q1 q2 => ?_) (fun q => ?_)
      | with_reducible refine sX_isSize (fun q3 q4 => ?_) (fun q8 => ?_)
      | with_reducible refine sX_measure hrm hrf (fun E3 q9 q10 => ?_)
      | simp (disch := omega) only [t_X8_ramBy, ue_X8_ramBy, zLg, zRf, zFq, zEl, zNz, zUf, zUe, zUr, zCe, zSn, gd_0, gd_1, gd_2, gd_3, gd_4, gd_5, gd_6, gd_7, gd_8, gd_9, gd_10, gd_11, gd_12, gd_13, gd_14, gd_15, gd_16, gd_17, gd_18, gd_19, se_0, se_1, se_2, se_3, se_4, se_5, se_6, se_7, se_8, se_9, se_10, se_11, se_12, se_13, se_14, se_15, se_16, se_17, se_18, se_19, e_const, e_load, e_store, e_iinc, e_dup, e_dup2, e_pop, e_iadd, e_isub, e_imul, e_ladd, e_lsub, e_lmul, e_iaddw, e_isubw, e_imulw, e_laddw, e_lsubw, e_lmulw, e_iand, e_ior, e_ishl, e_ishr, e_iushr, e_lcmp, e_imax, e_imin, e_idiv, e_irem, e_ldiv, e_lrem, e_i2l, e_i2b, e_l2i, e_i2c, e_getF, e_getR, e_putF, e_putR, e_putz, e_ald, e_aldR, e_ast, e_astb, e_astz, e_asta, e_len, e_acopy, e_new, e_newa, e_mna, e_this, e_room, e_call0, e_callv0, e_call1, e_callv1, e_inv1, e_invv1, e_call2, e_callv2, e_inv2, e_invv2, e_call3, e_callv3, e_inv3, e_invv3, e_call4, e_callv4, e_inv4, e_invv4, e_call5, e_callv5, e_inv5, e_invv5, e_call6, e_callv6, e_inv6, e_invv6, e_call7, e_callv7, e_inv7, e_invv7, e_call8, e_callv8, e_inv8, e_invv8, e_ret, e_retz, e_retc, e_retb, e_retv, e_skip, e_sco, e_tlen, e_tat, e_iz_eq0, e_iz_eq1, e_iz_ne0, e_iz_ne1, add0, sc_d, sc_t, inI_e, inL_e, up_eq, true_or, or_true, or_false, false_or, and_true, true_and, not_false_eq_true, Int.reduceAdd, Int.reduceSub, Int.reduceMul, Int.reduceNeg, r14]
      | with_reducible first | refine izl_lt (fun hc => ?_) (fun hc => ?_) | refine izl_ge (fun hc => ?_) (fun hc => ?_) | refine izl_eq (fun hc => ?_) (fun hc => ?_) | refine ic_ge (fun hc => ?_) (fun hc => ?_) | refine ic_lt (fun hc => ?_) (fun hc => ?_) | refine ic_ne (fun hc => ?_) (fun hc => ?_) | refine ic_eq (fun hc => ?_) (fun hc => ?_) | refine ic_le (fun hc => ?_) (fun hc => ?_) | refine ic_gt (fun hc => ?_) (fun hc => ?_) | refine iz_eq (fun hc => ?_) (fun hc => ?_) | refine iz_ne (fun hc => ?_) (fun hc => ?_) | refine iz_lt (fun hc => ?_) (fun hc => ?_) | refine iz_ge (fun hc => ?_) (fun hc => ?_) | refine iz_gt (fun hc => ?_) (fun hc => ?_) | refine iz_le (fun hc => ?_) (fun hc => ?_) | refine iz_nu (fun hc => ?_) (fun hc => ?_) | refine iz_nn (fun hc => ?_) (fun hc => ?_)
      | omega
      | (exfalso; omega)
    have hC3 : ctM a C F E3 := hC.fa hW (fun _ _ _ _ => rfl) (fun b j u v => q10 b j (by omega))
    have e2 := cm_g hC3 g 2 hg.1 hg.2 (by omega) (by omega)
    have e3 := cm_g hC3 g 3 hg.1 hg.2 (by omega) (by omega)
    try simp (disch := omega) only [zLg, zRf, zFq, zEl, zNz, zUf, zUe, zUr, zCe, zSn, gd_0, gd_1, gd_2, gd_3, gd_4, gd_5, gd_6, gd_7, gd_8, gd_9, gd_10, gd_11, gd_12, gd_13, gd_14, gd_15, gd_16, gd_17, gd_18, gd_19, se_0, se_1, se_2, se_3, se_4, se_5, se_6, se_7, se_8, se_9, se_10, se_11, se_12, se_13, se_14, se_15, se_16, se_17, se_18, se_19, e_const, e_load, e_store, e_iinc, e_dup, e_dup2, e_pop, e_iadd, e_isub, e_imul, e_ladd, e_lsub, e_lmul, e_iaddw, e_isubw, e_imulw, e_laddw, e_lsubw, e_lmulw, e_iand, e_ior, e_ishl, e_ishr, e_iushr, e_lcmp, e_imax, e_imin, e_idiv, e_irem, e_ldiv, e_lrem, e_i2l, e_i2b, e_l2i, e_i2c, e_getF, e_getR, e_putF, e_putR, e_putz, e_ald, e_aldR, e_ast, e_astb, e_astz, e_asta, e_len, e_acopy, e_new, e_newa, e_mna, e_this, e_room, e_call0, e_callv0, e_call1, e_callv1, e_inv1, e_invv1, e_call2, e_callv2, e_inv2, e_invv2, e_call3, e_callv3, e_inv3, e_invv3, e_call4, e_callv4, e_inv4, e_invv4, e_call5, e_callv5, e_inv5, e_invv5, e_call6, e_callv6, e_inv6, e_invv6, e_call7, e_callv7, e_inv7, e_invv7, e_call8, e_callv8, e_inv8, e_invv8, e_ret, e_retz, e_retc, e_retb, e_retv, e_skip, e_sco, e_tlen, e_tat, e_iz_eq0, e_iz_eq1, e_iz_ne0, e_iz_ne1, add0, sc_d, sc_t, inI_e, inL_e, up_eq, true_or, or_true, or_false, false_or, and_true, true_and, not_false_eq_true, Int.reduceAdd, Int.reduceSub, Int.reduceMul, Int.reduceNeg, h2, r14, ct_6 hct, ct_l2 hct, gr, gl, e2]
    have hC4 : ctM a (wdC C g x 1) F (up E3 (a + 3 + g) 2 (max (C 2 g 2) x)) := ctM_wd hC3 hW hg.1 hg.2 up_eq (by rw [up_ne (by omega), e3]; omega) (fun b j q => up_ne (by omega))
    have q9' : thM (B + 325) (rmT i w h) F (up E3 (a + 3 + g) 2 (max (C 2 g 2) x)) := q9.fi (lo := a) (hi := a + 105) (frI.rf (F := F)) (frI.up (by omega) (by omega)) (by omega)
    refine sX_depthOf hct hC4 hW' hrm q9' hth (by rw [wdC_ne (by omega)]; exact hz) (fun d q13 q14 => ?_)
    have e13 := dp_e q13
    repeat' first
      | exact absurd hc (by decide)
      | simp (disch := omega) only [ue_X8_grant, t_X8_grant, zLg, zRf, zFq, zEl, zNz, zUf, zUe, zUr, zCe, zSn, gd_0, gd_1, gd_2, gd_3, gd_4, gd_5, gd_6, gd_7, gd_8, gd_9, gd_10, gd_11, gd_12, gd_13, gd_14, gd_15, gd_16, gd_17, gd_18, gd_19, se_0, se_1, se_2, se_3, se_4, se_5, se_6, se_7, se_8, se_9, se_10, se_11, se_12, se_13, se_14, se_15, se_16, se_17, se_18, se_19, e_const, e_load, e_store, e_iinc, e_dup, e_dup2, e_pop, e_iadd, e_isub, e_imul, e_ladd, e_lsub, e_lmul, e_iaddw, e_isubw, e_imulw, e_laddw, e_lsubw, e_lmulw, e_iand, e_ior, e_ishl, e_ishr, e_iushr, e_lcmp, e_imax, e_imin, e_idiv, e_irem, e_ldiv, e_lrem, e_i2l, e_i2b, e_l2i, e_i2c, e_getF, e_getR, e_putF, e_putR, e_putz, e_ald, e_aldR, e_ast, e_astb, e_astz, e_asta, e_len, e_acopy, e_new, e_newa, e_mna, e_this, e_room, e_call0, e_callv0, e_call1, e_callv1, e_inv1, e_invv1, e_call2, e_callv2, e_inv2, e_invv2, e_call3, e_callv3, e_inv3, e_invv3, e_call4, e_callv4, e_inv4, e_invv4, e_call5, e_callv5, e_inv5, e_invv5, e_call6, e_callv6, e_inv6, e_invv6, e_call7, e_callv7, e_inv7, e_invv7, e_call8, e_callv8, e_inv8, e_invv8, e_ret, e_retz, e_retc, e_retb, e_retv, e_skip, e_sco, e_tlen, e_tat, e_iz_eq0, e_iz_eq1, e_iz_ne0, e_iz_ne1, add0, sc_d, sc_t, inI_e, inL_e, up_eq, true_or, or_true, or_false, false_or, and_true, true_and, not_false_eq_true, Int.reduceAdd, Int.reduceSub, Int.reduceMul, Int.reduceNeg, h2, r14, gl]
      | with_reducible first | refine izl_lt (fun hc => ?_) (fun hc => ?_) | refine izl_ge (fun hc => ?_) (fun hc => ?_) | refine izl_eq (fun hc => ?_) (fun hc => ?_) | refine ic_ge (fun hc => ?_) (fun hc => ?_) | refine ic_lt (fun hc => ?_) (fun hc => ?_) | refine ic_ne (fun hc => ?_) (fun hc => ?_) | refine ic_eq (fun hc => ?_) (fun hc => ?_) | refine ic_le (fun hc => ?_) (fun hc => ?_) | refine ic_gt (fun hc => ?_) (fun hc => ?_) | refine iz_eq (fun hc => ?_) (fun hc => ?_) | refine iz_ne (fun hc => ?_) (fun hc => ?_) | refine iz_lt (fun hc => ?_) (fun hc => ?_) | refine iz_ge (fun hc => ?_) (fun hc => ?_) | refine iz_gt (fun hc => ?_) (fun hc => ?_) | refine iz_le (fun hc => ?_) (fun hc => ?_) | refine iz_nu (fun hc => ?_) (fun hc => ?_) | refine iz_nn (fun hc => ?_) (fun hc => ?_)
      | omega
      | (exfalso; omega)
    all_goals exact hQ R _ _ _ _ (by simp (disch := omega) only [r_ramBy, if_pos, if_neg, e13]) (qX.c (qF.rm (fun b j u => by
      by_cases z2 : b = a + 3 + g ∧ j = 2
      · rw [z2.1, z2.2, up_eq, ← e2]; exact q10 _ _ (by omega)
      · rw [up_ne (by omega), up_ne (by omega)]; exact q10 b j u)) (by omega))
  · repeat' first
      | exact absurd hc (by decide)
      | with_reducible refine sX_isGate pB h2 pa hC (fun q1 q2 => ?_) (fun q => ?_)
      | with_reducible refine sX_isSize (fun q3 q4 => ?_) (fun q8 => ?_)
      | simp (disch := omega) only [t_X8_ramBy, ue_X8_ramBy, ub_X8_ramBy_44, ue_X8_refuse, t_X8_refuse, zLg, zRf, zFq, zEl, zNz, zUf, zUe, zUr, zCe, zSn, gd_0, gd_1, gd_2, gd_3, gd_4, gd_5, gd_6, gd_7, gd_8, gd_9, gd_10, gd_11, gd_12, gd_13, gd_14, gd_15, gd_16, gd_17, gd_18, gd_19, se_0, se_1, se_2, se_3, se_4, se_5, se_6, se_7, se_8, se_9, se_10, se_11, se_12, se_13, se_14, se_15, se_16, se_17, se_18, se_19, e_const, e_load, e_store, e_iinc, e_dup, e_dup2, e_pop, e_iadd, e_isub, e_imul, e_ladd, e_lsub, e_lmul, e_iaddw, e_isubw, e_imulw, e_laddw, e_lsubw, e_lmulw, e_iand, e_ior, e_ishl, e_ishr, e_iushr, e_lcmp, e_imax, e_imin, e_idiv, e_irem, e_ldiv, e_lrem, e_i2l, e_i2b, e_l2i, e_i2c, e_getF, e_getR, e_putF, e_putR, e_putz, e_ald, e_aldR, e_ast, e_astb, e_astz, e_asta, e_len, e_acopy, e_new, e_newa, e_mna, e_this, e_room, e_call0, e_callv0, e_call1, e_callv1, e_inv1, e_invv1, e_call2, e_callv2, e_inv2, e_invv2, e_call3, e_callv3, e_inv3, e_invv3, e_call4, e_callv4, e_inv4, e_invv4, e_call5, e_callv5, e_inv5, e_invv5, e_call6, e_callv6, e_inv6, e_invv6, e_call7, e_callv7, e_inv7, e_invv7, e_call8, e_callv8, e_inv8, e_invv8, e_ret, e_retz, e_retc, e_retb, e_retv, e_skip, e_sco, e_tlen, e_tat, e_iz_eq0, e_iz_eq1, e_iz_ne0, e_iz_ne1, add0, sc_d, sc_t, inI_e, inL_e, up_eq, true_or, or_true, or_false, false_or, and_true, true_and, not_false_eq_true, Int.reduceAdd, Int.reduceSub, Int.reduceMul, Int.reduceNeg]
      | with_reducible first | refine izl_lt (fun hc => ?_) (fun hc => ?_) | refine izl_ge (fun hc => ?_) (fun hc => ?_) | refine izl_eq (fun hc => ?_) (fun hc => ?_) | refine ic_ge (fun hc => ?_) (fun hc => ?_) | refine ic_lt (fun hc => ?_) (fun hc => ?_) | refine ic_ne (fun hc => ?_) (fun hc => ?_) | refine ic_eq (fun hc => ?_) (fun hc => ?_) | refine ic_le (fun hc => ?_) (fun hc => ?_) | refine ic_gt (fun hc => ?_) (fun hc => ?_) | refine iz_eq (fun hc => ?_) (fun hc => ?_) | refine iz_ne (fun hc => ?_) (fun hc => ?_) | refine iz_lt (fun hc => ?_) (fun hc => ?_) | refine iz_ge (fun hc => ?_) (fun hc => ?_) | refine iz_gt (fun hc => ?_) (fun hc => ?_) | refine iz_le (fun hc => ?_) (fun hc => ?_) | refine iz_nu (fun hc => ?_) (fun hc => ?_) | refine iz_nn (fun hc => ?_) (fun hc => ?_)
      | omega
      | (exfalso; omega)
    all_goals exact hQ _ _ _ _ _ (by simp (disch := omega) only [r_ramBy, if_pos, if_neg]) (qX.s (by omega))
theorem qF.tf {E' : Int → Int → Int} (hf : frI (B + 321) (B + 321 + 4) E E') : qF B a R R F F E E' := ⟨fun _ _ _ => rfl, Or.inl rfl, fun b j u v _ => rfl, fun b j u v w => hf b j (by omega)⟩
theorem cX_theft (hT : clT B a L R) (hM : clM B a C tp fd tr fa pl D k M n H HN R F E) (hs : stW C tp fd tr D k M n H HN) (hz : z = 0 ∨ z = 1) (hQ : ∀ (R' F' E' : Int → Int → Int) (v t : Int), (v, t) = r_theft C i r p h z → qX B a t R R' F F' E E' → Q v (L, R', F', E', N)) : T_X8_theft [B, i, r, p, h, z] (L, R, F, E, N) Q := by
  have pB := cl_p hT
  have ca := cl_a hT
  have pa : 0 ≤ a := by omega
  have h2 := cl_2 hT
  have hC := cx_c hM
  have hW := sw_w hs
  have hct := cl_ct hT
  have r13 := cl_13 hT
  have htf := cl_tf hT
  have b3 := cw_3 hW
  have b0 := cw_0 hW
  by_cases hall : (0 ≤ i ∧ i < C 0 3 0) ∧ (0 ≤ r ∧ r < C 0 0 0) ∧ (0 ≤ p ∧ p < 12) ∧ (0 ≤ h ∧ h ≤ 99)
  · obtain ⟨⟨i0, i1⟩, hr, hp, hh⟩ := hall
    have i8 : i < 8 := by omega
    have hTw := ct_wt hct i i0 i8
    have hmw := cm_wh hC i i0 i1
    have hww := wh_W hW i0 i1
    have h3w := wh_3 hW i0 i1
    have hTp := ct_pt hct i i0 i8
    have hmp := cm_pt hC i i0 i1
    have hwp := pt_W hW i0 i1
    have h3p := pt_3 hW i0 i1
    repeat' first
      | exact absurd hc (by decide)
      | with_reducible refine sX_isGood pB h2 pa hC (fun q1 q2 => ?_) (fun q => ?_)
      | with_reducible refine sX_isSpot pB h2 pa hC (fun q5 q6 => ?_) (fun q7 => ?_)
      | with_reducible refine sX_canCut hct hC hW i0 i1 (fun q9 => ?_) (fun q10 => ?_)
      | with_reducible refine sX_thing hct i0 i8 (fun q11 => ?_) (fun q12 => ?_)
      | with_reducible refine sX_gatesOf htf hct hC hW ?_ hTw hmw ?_ hww h3w ?_ ?_ (fun E3 q13 => ?_)
      | with_reducible refine sX_gatesOf htf hct hC hW ?_ hTp hmp ?_ hwp h3p ?_ ?_ (fun E3 q13 => ?_)
      | simp (disch := omega) only [t_X8_theft, ue_X8_theft, ub_X8_theft_63, ue_X8_grant, t_X8_grant, ue_X8_refuse, t_X8_refuse, zLg, zRf, zFq, zEl, zNz, zUf, zUe, zUr, zCe, zSn, gd_0, gd_1, gd_2, gd_3, gd_4, gd_5, gd_6, gd_7, gd_8, gd_9, gd_10, gd_11, gd_12, gd_13, gd_14, gd_15, gd_16, gd_17, gd_18, gd_19, se_0, se_1, se_2, se_3, se_4, se_5, se_6, se_7, se_8, se_9, se_10, se_11, se_12, se_13, se_14, se_15, se_16, se_17, se_18, se_19, e_const, e_load, e_store, e_iinc, e_dup, e_dup2, e_pop, e_iadd, e_isub, e_imul, e_ladd, e_lsub, e_lmul, e_iaddw, e_isubw, e_imulw, e_laddw, e_lsubw, e_lmulw, e_iand, e_ior, e_ishl, e_ishr, e_iushr, e_lcmp, e_imax, e_imin, e_idiv, e_irem, e_ldiv, e_lrem, e_i2l, e_i2b, e_l2i, e_i2c, e_getF, e_getR, e_putF, e_putR, e_putz, e_ald, e_aldR, e_ast, e_astb, e_astz, e_asta, e_len, e_acopy, e_new, e_newa, e_mna, e_this, e_room, e_call0, e_callv0, e_call1, e_callv1, e_inv1, e_invv1, e_call2, e_callv2, e_inv2, e_invv2, e_call3, e_callv3, e_inv3, e_invv3, e_call4, e_callv4, e_inv4, e_invv4, e_call5, e_callv5, e_inv5, e_invv5, e_call6, e_callv6, e_inv6, e_invv6, e_call7, e_callv7, e_inv7, e_invv7, e_call8, e_callv8, e_inv8, e_invv8, e_ret, e_retz, e_retc, e_retb, e_retv, e_skip, e_sco, e_tlen, e_tat, e_iz_eq0, e_iz_eq1, e_iz_ne0, e_iz_ne1, add0, sc_d, sc_t, inI_e, inL_e, up_eq, true_or, or_true, or_false, false_or, and_true, true_and, not_false_eq_true, Int.reduceAdd, Int.reduceSub, Int.reduceMul, Int.reduceNeg, h2, r13]
      | with_reducible first | refine izl_lt (fun hc => ?_) (fun hc => ?_) | refine izl_ge (fun hc => ?_) (fun hc => ?_) | refine izl_eq (fun hc => ?_) (fun hc => ?_) | refine ic_ge (fun hc => ?_) (fun hc => ?_) | refine ic_lt (fun hc => ?_) (fun hc => ?_) | refine ic_ne (fun hc => ?_) (fun hc => ?_) | refine ic_eq (fun hc => ?_) (fun hc => ?_) | refine ic_le (fun hc => ?_) (fun hc => ?_) | refine ic_gt (fun hc => ?_) (fun hc => ?_) | refine iz_eq (fun hc => ?_) (fun hc => ?_) | refine iz_ne (fun hc => ?_) (fun hc => ?_) | refine iz_lt (fun hc => ?_) (fun hc => ?_) | refine iz_ge (fun hc => ?_) (fun hc => ?_) | refine iz_gt (fun hc => ?_) (fun hc => ?_) | refine iz_le (fun hc => ?_) (fun hc => ?_) | refine iz_nu (fun hc => ?_) (fun hc => ?_) | refine iz_nn (fun hc => ?_) (fun hc => ?_)
      | omega
      | (exfalso; omega)
    all_goals first
      | exact hQ R _ E3 _ _ (by simp (disch := omega) only [r_theft, if_pos, if_neg]) (qX.c (qF.tf q13) (by omega))
      | exact hQ _ _ _ _ _ (by simp (disch := omega) only [r_theft, if_pos, if_neg]) (qX.s (by omega))
  · repeat' first
      | exact absurd hc (by decide)
      | with_reducible refine sX_isGood pB h2 pa hC (fun q1 q2 => ?_) (fun q => ?_)
      | with_reducible refine sX_isSpot pB h2 pa hC (fun q5 q6 => ?_) (fun q7 => ?_)
      | simp (disch := omega) only [t_X8_theft, ue_X8_theft, ub_X8_theft_17, ub_X8_theft_35, ue_X8_refuse, t_X8_refuse, zLg, zRf, zFq, zEl, zNz, zUf, zUe, zUr, zCe, zSn, gd_0, gd_1, gd_2, gd_3, gd_4, gd_5, gd_6, gd_7, gd_8, gd_9, gd_10, gd_11, gd_12, gd_13, gd_14, gd_15, gd_16, gd_17, gd_18, gd_19, se_0, se_1, se_2, se_3, se_4, se_5, se_6, se_7, se_8, se_9, se_10, se_11, se_12, se_13, se_14, se_15, se_16, se_17, se_18, se_19, e_const, e_load, e_store, e_iinc, e_dup, e_dup2, e_pop, e_iadd, e_isub, e_imul, e_ladd, e_lsub, e_lmul, e_iaddw, e_isubw, e_imulw, e_laddw, e_lsubw, e_lmulw, e_iand, e_ior, e_ishl, e_ishr, e_iushr, e_lcmp, e_imax, e_imin, e_idiv, e_irem, e_ldiv, e_lrem, e_i2l, e_i2b, e_l2i, e_i2c, e_getF, e_getR, e_putF, e_putR, e_putz, e_ald, e_aldR, e_ast, e_astb, e_astz, e_asta, e_len, e_acopy, e_new, e_newa, e_mna, e_this, e_room, e_call0, e_callv0, e_call1, e_callv1, e_inv1, e_invv1, e_call2, e_callv2, e_inv2, e_invv2, e_call3, e_callv3, e_inv3, e_invv3, e_call4, e_callv4, e_inv4, e_invv4, e_call5, e_callv5, e_inv5, e_invv5, e_call6, e_callv6, e_inv6, e_invv6, e_call7, e_callv7, e_inv7, e_invv7, e_call8, e_callv8, e_inv8, e_invv8, e_ret, e_retz, e_retc, e_retb, e_retv, e_skip, e_sco, e_tlen, e_tat, e_iz_eq0, e_iz_eq1, e_iz_ne0, e_iz_ne1, add0, sc_d, sc_t, inI_e, inL_e, up_eq, true_or, or_true, or_false, false_or, and_true, true_and, not_false_eq_true, Int.reduceAdd, Int.reduceSub, Int.reduceMul, Int.reduceNeg, h2, r13]
      | with_reducible first | refine izl_lt (fun hc => ?_) (fun hc => ?_) | refine izl_ge (fun hc => ?_) (fun hc => ?_) | refine izl_eq (fun hc => ?_) (fun hc => ?_) | refine ic_ge (fun hc => ?_) (fun hc => ?_) | refine ic_lt (fun hc => ?_) (fun hc => ?_) | refine ic_ne (fun hc => ?_) (fun hc => ?_) | refine ic_eq (fun hc => ?_) (fun hc => ?_) | refine ic_le (fun hc => ?_) (fun hc => ?_) | refine ic_gt (fun hc => ?_) (fun hc => ?_) | refine iz_eq (fun hc => ?_) (fun hc => ?_) | refine iz_ne (fun hc => ?_) (fun hc => ?_) | refine iz_lt (fun hc => ?_) (fun hc => ?_) | refine iz_ge (fun hc => ?_) (fun hc => ?_) | refine iz_gt (fun hc => ?_) (fun hc => ?_) | refine iz_le (fun hc => ?_) (fun hc => ?_) | refine iz_nu (fun hc => ?_) (fun hc => ?_) | refine iz_nn (fun hc => ?_) (fun hc => ?_)
      | omega
      | (exfalso; omega)
    all_goals exact hQ _ _ _ _ _ (by simp (disch := omega) only [r_theft, if_pos, if_neg]) (qX.s (by omega))
end OTHER

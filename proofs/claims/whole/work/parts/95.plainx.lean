/-! ===== the class's plain questions ===== -/
noncomputable def dpF (C : Cy) (th : Int → Int) (cart : Int) : Int := Classical.epsilon (deepP C th cart)
theorem dp_e {C : Cy} {th : Int → Int} {cart d : Int} (h : deepP C th cart d) : d = dpF C th cart := deepP_u h (Classical.epsilon_spec (p := deepP C th cart) ⟨d, h⟩)
def r_gate (C : Cy) (g w : Int) : Int × Int := if (0 ≤ g ∧ g < C 0 1 0) ∧ (0 ≤ w ∧ w < 7) then (C 2 g w, 0) else (-1, 1)
def r_fits (C : Cy) (k z w p : Int) : Int × Int := if (0 ≤ k ∧ k < C 0 3 0) ∧ ((z = 1 ∧ 0 ≤ w ∧ w < C 0 1 0) ∨ (z = 0 ∧ 0 ≤ w ∧ w < C 0 0 0)) ∧ (0 ≤ p ∧ p < 3) then (if p = 0 ∨ (p = 1 ∧ wh C k 5 = 1) ∨ (p = 2 ∧ wh C k 6 = 1) then (if z = 1 then (if meetsP C (wh C k) w p = 0 then (1, 0) else (0, 0)) else (if pw (wh C k) p ≤ C 1 w 0 then (1, 0) else (0, 0))) else (-1, 5)) else (-1, 1)
def r_bars (C : Cy) (k g z : Int) : Int × Int := if (0 ≤ k ∧ k < C 0 3 0) ∧ (0 ≤ g ∧ g < C 0 1 0) then (if z = 0 then (barsP C (wh C k) g, 0) else if pn C k = 0 then (-1, 5) else (barsP C (pt C k) g, 0)) else (-1, 1)
noncomputable def r_deep (C : Cy) (k : Int) : Int × Int := if 0 ≤ k ∧ k < C 0 3 0 then (dpF C (wh C k) 1, 0) else (-1, 1)
noncomputable def r_deepC (C : Cy) (k : Int) : Int × Int := if 0 ≤ k ∧ k < C 0 3 0 then (if pn C k = 0 then (-1, 5) else (dpF C (pt C k) 1, 0)) else (-1, 1)
noncomputable def r_pay (C : Cy) (x k r0 p0 r1 p1 : Int) : Int × Int := if (0 ≤ k ∧ k < C 0 3 0) ∧ (0 ≤ r0 ∧ r0 < C 0 0 0) ∧ (0 ≤ p0 ∧ p0 < 12) ∧ (0 ≤ r1 ∧ r1 < C 0 0 0) ∧ (0 ≤ p1 ∧ p1 < 12) then (if bst C k r0 p0 r1 p1 0 = 1 then (bst C k r0 p0 r1 p1 x, 0) else (-2, 0)) else (-1, 1)
noncomputable def r_ofO (C : Cy) (x o : Int) : Int × Int := if 0 ≤ o ∧ o < C 0 4 0 then (if bO C o 0 = 1 then (bO C o x, 0) else (-2, 0)) else (-1, 1)
noncomputable def r_loadsOf (C : Cy) (o : Int) : Int × Int := if 0 ≤ o ∧ o < C 0 4 0 then (if bO C o 0 = 1 then (bO C o 4, 0) else (-1, 6)) else (-1, 1)
noncomputable def r_gateOf (C : Cy) (o i : Int) : Int × Int := if (0 ≤ o ∧ o < C 0 4 0) ∧ 0 ≤ i then (if bO C o 0 = 1 then (if i < bO C o 5 then (gO C o i.toNat, 0) else (-1, 1)) else (-1, 6)) else (-1, 1)
noncomputable def r_all (C : Cy) : Int × Int := if 0 < C 0 0 0 then (apC C, 0) else (-1, 1)
def r_loads (C : Cy) (D : Int → Int → Int) : Int × Int := if 0 < C 0 0 0 then (D 10 1, 0) else (-1, 1)
def r_load (D : Int → Int → Int) (l w : Int) : Int × Int := if (0 ≤ l ∧ l < D 10 1) ∧ (0 ≤ w ∧ w < 8) then (D w l, 0) else (-1, 1)
def r_cart (C : Cy) (D : Int → Int → Int) (i : Int) : Int × Int := if 0 ≤ i ∧ i < C 0 2 0 then (onF D i (D 10 1).toNat, 0) else (-1, 1)
noncomputable def r_busy (C : Cy) (D : Int → Int → Int) (i : Int) : Int × Int := if 0 ≤ i ∧ i < C 0 1 0 then (bzF C D i (D 10 1).toNat, 0) else (-1, 1)
def r_toll (C : Cy) (D : Int → Int → Int) (x i : Int) : Int × Int := if 0 ≤ i ∧ i < C 0 1 0 then (D x i, 0) else (-1, 1)
def r_waited (C : Cy) (D : Int → Int → Int) : Int × Int := if 0 < C 0 0 0 then (wsN D (D 10 1).toNat, 0) else (-1, 1)
def r_hold (C : Cy) (r : Int) : Int × Int := if 0 ≤ r ∧ r < C 0 0 0 then (holdP C r, 0) else (-1, 1)
def sdF (C : Cy) : Nat → Int
  | 0 => 0
  | n + 1 => if holdP C (sdF C n) ≤ holdP C ((n : Int) + 1) then (n : Int) + 1 else sdF C n
def r_stand (C : Cy) : Int × Int := if 0 < C 0 0 0 then (sdF C (C 0 0 0 - 1).toNat, 0) else (-1, 1)
theorem on_u {C : Cy} {D : Int → Int → Int} (hw : dWf C D) {c v : Int} (c0 : 0 ≤ c) (h : onV D c v) : v = onF D c (D 10 1).toNat := by
  have hn := hw.2.1
  have hu := hw.2.2.2
  rcases on_spec D c (D 10 1).toNat with ⟨e, z⟩ | ⟨e0, e1, e2⟩
  · rw [e]
    rcases h with ⟨v1, -⟩ | ⟨v1, v2, v3⟩
    · exact v1
    · exact absurd v3 (z v v1 (by omega))
  · rcases h with ⟨-, v2⟩ | ⟨v1, v2, v3⟩
    · exact absurd e2 (v2 _ e0 (by omega))
    · by_cases q : v = onF D c (D 10 1).toNat
      · exact q
      · have := (hu v _ v1 v2 e0 (by omega) q).1 (by rw [v3, e2])
        omega
theorem bz_u {C : Cy} {D : Int → Int → Int} (hw : dWf C D) {g v : Int} (h : bzV C D g v) : v = bzF C D g (D 10 1).toNat := by
  have hn := hw.2.1
  have hu := hw.2.2.2
  rcases bz_spec C D g (D 10 1).toNat with ⟨e, z⟩ | ⟨e0, e1, e2, e3⟩
  · rw [e]
    rcases h with ⟨v1, -⟩ | ⟨v1, v2, v3⟩
    · exact v1
    · exact absurd v3 (z v v1 (by omega))
  · rcases h with ⟨-, v2⟩ | ⟨v1, v2, v3, v4⟩
    · exact absurd ⟨e2, e3⟩ (v2 _ e0 (by omega))
    · by_cases q : v = bzF C D g (D 10 1).toNat
      · exact q
      · exact absurd (v4.trans e3.symm) ((hu v _ v1 v2 e0 (by omega) q).2 v3 e2)
section PLAIN
variable {L : Int → Int} {R F E : Int → Int → Int} {N : Nat} {Q : xQ} {B a m c fd tr fa pl k n t i j g x : Int} {C : Cy} {tp : Int → Int} {D : Int → Int → Int} {M H : Int → Int → Int → Int} {HN : Int → Int}
theorem sX_canCut (hT : ctT a L R) (hM : ctM a C F E) (hW : ctW C) (k0 : 0 ≤ k) (k1 : k < C 0 3 0) (h1 : pn C k ≠ 0 → Q 1 (L, R, F, E, N)) (h0 : pn C k = 0 → Q 0 (L, R, F, E, N)) : T_X1_canCut [a, k] (L, R, F, E, N) Q := by
  have pa := ct_p hT
  have b3 := cw_3 hW
  have pr := ct_pr hT k k0 (by omega)
  have pb := pn_b hW k0 k1
  have e4 : F (a + 45 + 8 * k) 4 = pn C k := tm_4 (cm_pt hM k k0 k1)
  repeat' first
    | exact absurd hc (by decide)
    | simp (disch := omega) only [ub_X1_canCut_18, ue_X1_canCut, t_X1_canCut, zLg, zRf, zFq, zEl, zNz, zUf, zUe, zUr, zCe, zSn, gd_0, gd_1, gd_2, gd_3, gd_4, gd_5, gd_6, gd_7, gd_8, gd_9, gd_10, gd_11, gd_12, gd_13, gd_14, gd_15, gd_16, gd_17, gd_18, gd_19, se_0, se_1, se_2, se_3, se_4, se_5, se_6, se_7, se_8, se_9, se_10, se_11, se_12, se_13, se_14, se_15, se_16, se_17, se_18, se_19, e_const, e_load, e_store, e_iinc, e_dup, e_dup2, e_pop, e_iadd, e_isub, e_imul, e_ladd, e_lsub, e_lmul, e_iaddw, e_isubw, e_imulw, e_laddw, e_lsubw, e_lmulw, e_iand, e_ior, e_ishl, e_ishr, e_iushr, e_lcmp, e_imax, e_imin, e_idiv, e_irem, e_ldiv, e_lrem, e_i2l, e_i2b, e_l2i, e_i2c, e_getF, e_getR, e_putF, e_putR, e_putz, e_ald, e_aldR, e_ast, e_astb, e_astz, e_asta, e_len, e_acopy, e_new, e_newa, e_mna, e_this, e_room, e_call0, e_callv0, e_call1, e_callv1, e_inv1, e_invv1, e_call2, e_callv2, e_inv2, e_invv2, e_call3, e_callv3, e_inv3, e_invv3, e_call4, e_callv4, e_inv4, e_invv4, e_call5, e_callv5, e_inv5, e_invv5, e_call6, e_callv6, e_inv6, e_invv6, e_call7, e_callv7, e_inv7, e_invv7, e_call8, e_callv8, e_inv8, e_invv8, e_ret, e_retz, e_retc, e_retb, e_retv, e_skip, e_sco, e_tlen, e_tat, e_iz_eq0, e_iz_eq1, e_iz_ne0, e_iz_ne1, add0, sc_d, sc_t, inI_e, inL_e, up_eq, true_or, or_true, or_false, false_or, and_true, true_and, not_false_eq_true, Int.reduceAdd, Int.reduceSub, Int.reduceMul, Int.reduceNeg, ct_11 hT, ct_l40 hT, pr, e4]
    | with_reducible first | refine izl_lt (fun hc => ?_) (fun hc => ?_) | refine izl_ge (fun hc => ?_) (fun hc => ?_) | refine izl_eq (fun hc => ?_) (fun hc => ?_) | refine ic_ge (fun hc => ?_) (fun hc => ?_) | refine ic_lt (fun hc => ?_) (fun hc => ?_) | refine ic_ne (fun hc => ?_) (fun hc => ?_) | refine ic_eq (fun hc => ?_) (fun hc => ?_) | refine ic_le (fun hc => ?_) (fun hc => ?_) | refine ic_gt (fun hc => ?_) (fun hc => ?_) | refine iz_eq (fun hc => ?_) (fun hc => ?_) | refine iz_ne (fun hc => ?_) (fun hc => ?_) | refine iz_lt (fun hc => ?_) (fun hc => ?_) | refine iz_ge (fun hc => ?_) (fun hc => ?_) | refine iz_gt (fun hc => ?_) (fun hc => ?_) | refine iz_le (fun hc => ?_) (fun hc => ?_) | refine iz_nu (fun hc => ?_) (fun hc => ?_) | refine iz_nn (fun hc => ?_) (fun hc => ?_)
    | omega
    | (exfalso; omega)
  all_goals first
    | exact h1 (by omega)
    | exact h0 (by omega)
theorem cX_gate (hT : clT B a L R) (hM : clM B a C tp fd tr fa pl D k M n H HN R F E) (hs : stW C tp fd tr D k M n H HN)  (hQ : ∀ (R' F' E' : Int → Int → Int) (v t : Int), (v, t) = r_gate C i j → qX B a t R R' F F' E E' → Q v (L, R', F', E', N)) : T_X8_gate [B, i, j] (L, R, F, E, N) Q := by
  have pB := cl_p hT
  have ca := cl_a hT
  have pa : 0 ≤ a := by omega
  have h2 := cl_2 hT
  have hC := cx_c hM
  have hW := sw_w hs
  have b1 := cw_1 hW
  have hct := cl_ct hT
  have gr := ct_gr hct
  have gl := ct_gl hct
  have cg := cm_g hC
  repeat' first
    | exact absurd hc (by decide)
    | with_reducible refine sX_isGate pB h2 pa hC (fun q1 q2 => ?_) (fun q => ?_)
    | with_reducible refine sX_within (fun q3 q4 => ?_) (fun q8 => ?_)
    | simp (disch := omega) only [ub_X8_gate_17, ue_X8_gate, t_X8_gate, ue_X8_grant, t_X8_grant, ue_X8_refuse, t_X8_refuse, zLg, zRf, zFq, zEl, zNz, zUf, zUe, zUr, zCe, zSn, gd_0, gd_1, gd_2, gd_3, gd_4, gd_5, gd_6, gd_7, gd_8, gd_9, gd_10, gd_11, gd_12, gd_13, gd_14, gd_15, gd_16, gd_17, gd_18, gd_19, se_0, se_1, se_2, se_3, se_4, se_5, se_6, se_7, se_8, se_9, se_10, se_11, se_12, se_13, se_14, se_15, se_16, se_17, se_18, se_19, e_const, e_load, e_store, e_iinc, e_dup, e_dup2, e_pop, e_iadd, e_isub, e_imul, e_ladd, e_lsub, e_lmul, e_iaddw, e_isubw, e_imulw, e_laddw, e_lsubw, e_lmulw, e_iand, e_ior, e_ishl, e_ishr, e_iushr, e_lcmp, e_imax, e_imin, e_idiv, e_irem, e_ldiv, e_lrem, e_i2l, e_i2b, e_l2i, e_i2c, e_getF, e_getR, e_putF, e_putR, e_putz, e_ald, e_aldR, e_ast, e_astb, e_astz, e_asta, e_len, e_acopy, e_new, e_newa, e_mna, e_this, e_room, e_call0, e_callv0, e_call1, e_callv1, e_inv1, e_invv1, e_call2, e_callv2, e_inv2, e_invv2, e_call3, e_callv3, e_inv3, e_invv3, e_call4, e_callv4, e_inv4, e_invv4, e_call5, e_callv5, e_inv5, e_invv5, e_call6, e_callv6, e_inv6, e_invv6, e_call7, e_callv7, e_inv7, e_invv7, e_call8, e_callv8, e_inv8, e_invv8, e_ret, e_retz, e_retc, e_retb, e_retv, e_skip, e_sco, e_tlen, e_tat, e_iz_eq0, e_iz_eq1, e_iz_ne0, e_iz_ne1, add0, sc_d, sc_t, inI_e, inL_e, up_eq, true_or, or_true, or_false, false_or, and_true, true_and, not_false_eq_true, Int.reduceAdd, Int.reduceSub, Int.reduceMul, Int.reduceNeg, h2, ct_6 hct, ct_l2 hct, gr, gl, cg]
    | with_reducible first | refine izl_lt (fun hc => ?_) (fun hc => ?_) | refine izl_ge (fun hc => ?_) (fun hc => ?_) | refine izl_eq (fun hc => ?_) (fun hc => ?_) | refine ic_ge (fun hc => ?_) (fun hc => ?_) | refine ic_lt (fun hc => ?_) (fun hc => ?_) | refine ic_ne (fun hc => ?_) (fun hc => ?_) | refine ic_eq (fun hc => ?_) (fun hc => ?_) | refine ic_le (fun hc => ?_) (fun hc => ?_) | refine ic_gt (fun hc => ?_) (fun hc => ?_) | refine iz_eq (fun hc => ?_) (fun hc => ?_) | refine iz_ne (fun hc => ?_) (fun hc => ?_) | refine iz_lt (fun hc => ?_) (fun hc => ?_) | refine iz_ge (fun hc => ?_) (fun hc => ?_) | refine iz_gt (fun hc => ?_) (fun hc => ?_) | refine iz_le (fun hc => ?_) (fun hc => ?_) | refine iz_nu (fun hc => ?_) (fun hc => ?_) | refine iz_nn (fun hc => ?_) (fun hc => ?_)
    | omega
    | (exfalso; omega)
  all_goals exact hQ _ _ _ _ _ (by simp (disch := omega) only [r_gate, if_pos, if_neg]) (qX.s (by omega))
theorem cX_payOf (hT : clT B a L R) (hM : clM B a C tp fd tr fa pl D k M n H HN R F E) (hs : stW C tp fd tr D k M n H HN)  (hQ : ∀ (R' F' E' : Int → Int → Int) (v t : Int), (v, t) = r_ofO C 2 i → qX B a t R R' F F' E E' → Q v (L, R', F', E', N)) : T_X8_payOf [B, i] (L, R, F, E, N) Q := by
  have pB := cl_p hT
  have ca := cl_a hT
  have pa : 0 ≤ a := by omega
  have h2 := cl_2 hT
  have hC := cx_c hM
  have hW := sw_w hs
  have b4 := cw_4 hW
  have r6 := cl_6 hT
  have l220 := cl_l220 hT
  have wr : ∀ o : Int, 0 ≤ o → o < 8 → R (B + 220) o = B + 220 + 1 + 2 * o := fun o u v => (cl_wy hT o u v).1
  have w6 : ∀ o : Int, 0 ≤ o → o < 8 → R (B + 220 + 1 + 2 * o) 6 = B + 220 + 1 + 2 * o + 1 := fun o u v => (cl_wy hT o u v).2.2.1
  have wl : ∀ o : Int, 0 ≤ o → o < 8 → L (B + 220 + 1 + 2 * o + 1) = 5 := fun o u v => (cl_wy hT o u v).2.2.2
  have z0 : ∀ o : Int, 0 ≤ o → o < C 0 4 0 → F (B + 220 + 1 + 2 * o) 0 = bO C o 0 := fun o u v => (cx_w hM o u v).1
  have f01 := (bO_01 C i).1
  have zx : ∀ o : Int, 0 ≤ o → o < C 0 4 0 → bO C o 0 = 1 → F (B + 220 + 1 + 2 * o) 2 = bO C o 2 := fun o u v w => ((cx_w hM o u v).2 w).2.1
  repeat' first
    | exact absurd hc (by decide)
    | with_reducible refine sX_isOrder pB h2 pa hC (fun q1 q2 => ?_) (fun q => ?_)
    | simp (disch := omega) only [ub_X8_payOf_41, ue_X8_payOf, t_X8_payOf, ue_X8_grant, t_X8_grant, ue_X8_refuse, t_X8_refuse, zLg, zRf, zFq, zEl, zNz, zUf, zUe, zUr, zCe, zSn, gd_0, gd_1, gd_2, gd_3, gd_4, gd_5, gd_6, gd_7, gd_8, gd_9, gd_10, gd_11, gd_12, gd_13, gd_14, gd_15, gd_16, gd_17, gd_18, gd_19, se_0, se_1, se_2, se_3, se_4, se_5, se_6, se_7, se_8, se_9, se_10, se_11, se_12, se_13, se_14, se_15, se_16, se_17, se_18, se_19, e_const, e_load, e_store, e_iinc, e_dup, e_dup2, e_pop, e_iadd, e_isub, e_imul, e_ladd, e_lsub, e_lmul, e_iaddw, e_isubw, e_imulw, e_laddw, e_lsubw, e_lmulw, e_iand, e_ior, e_ishl, e_ishr, e_iushr, e_lcmp, e_imax, e_imin, e_idiv, e_irem, e_ldiv, e_lrem, e_i2l, e_i2b, e_l2i, e_i2c, e_getF, e_getR, e_putF, e_putR, e_putz, e_ald, e_aldR, e_ast, e_astb, e_astz, e_asta, e_len, e_acopy, e_new, e_newa, e_mna, e_this, e_room, e_call0, e_callv0, e_call1, e_callv1, e_inv1, e_invv1, e_call2, e_callv2, e_inv2, e_invv2, e_call3, e_callv3, e_inv3, e_invv3, e_call4, e_callv4, e_inv4, e_invv4, e_call5, e_callv5, e_inv5, e_invv5, e_call6, e_callv6, e_inv6, e_invv6, e_call7, e_callv7, e_inv7, e_invv7, e_call8, e_callv8, e_inv8, e_invv8, e_ret, e_retz, e_retc, e_retb, e_retv, e_skip, e_sco, e_tlen, e_tat, e_iz_eq0, e_iz_eq1, e_iz_ne0, e_iz_ne1, add0, sc_d, sc_t, inI_e, inL_e, up_eq, true_or, or_true, or_false, false_or, and_true, true_and, not_false_eq_true, Int.reduceAdd, Int.reduceSub, Int.reduceMul, Int.reduceNeg, h2, r6, l220, wr, z0, zx]
    | with_reducible first | refine izl_lt (fun hc => ?_) (fun hc => ?_) | refine izl_ge (fun hc => ?_) (fun hc => ?_) | refine izl_eq (fun hc => ?_) (fun hc => ?_) | refine ic_ge (fun hc => ?_) (fun hc => ?_) | refine ic_lt (fun hc => ?_) (fun hc => ?_) | refine ic_ne (fun hc => ?_) (fun hc => ?_) | refine ic_eq (fun hc => ?_) (fun hc => ?_) | refine ic_le (fun hc => ?_) (fun hc => ?_) | refine ic_gt (fun hc => ?_) (fun hc => ?_) | refine iz_eq (fun hc => ?_) (fun hc => ?_) | refine iz_ne (fun hc => ?_) (fun hc => ?_) | refine iz_lt (fun hc => ?_) (fun hc => ?_) | refine iz_ge (fun hc => ?_) (fun hc => ?_) | refine iz_gt (fun hc => ?_) (fun hc => ?_) | refine iz_le (fun hc => ?_) (fun hc => ?_) | refine iz_nu (fun hc => ?_) (fun hc => ?_) | refine iz_nn (fun hc => ?_) (fun hc => ?_)
    | omega
    | (exfalso; omega)
  all_goals exact hQ _ _ _ _ _ (by simp (disch := omega) only [r_ofO, if_pos, if_neg]) (qX.s (by omega))
theorem cX_hoursOf (hT : clT B a L R) (hM : clM B a C tp fd tr fa pl D k M n H HN R F E) (hs : stW C tp fd tr D k M n H HN)  (hQ : ∀ (R' F' E' : Int → Int → Int) (v t : Int), (v, t) = r_ofO C 3 i → qX B a t R R' F F' E E' → Q v (L, R', F', E', N)) : T_X8_hoursOf [B, i] (L, R, F, E, N) Q := by
  have pB := cl_p hT
  have ca := cl_a hT
  have pa : 0 ≤ a := by omega
  have h2 := cl_2 hT
  have hC := cx_c hM
  have hW := sw_w hs
  have b4 := cw_4 hW
  have r6 := cl_6 hT
  have l220 := cl_l220 hT
  have wr : ∀ o : Int, 0 ≤ o → o < 8 → R (B + 220) o = B + 220 + 1 + 2 * o := fun o u v => (cl_wy hT o u v).1
  have w6 : ∀ o : Int, 0 ≤ o → o < 8 → R (B + 220 + 1 + 2 * o) 6 = B + 220 + 1 + 2 * o + 1 := fun o u v => (cl_wy hT o u v).2.2.1
  have wl : ∀ o : Int, 0 ≤ o → o < 8 → L (B + 220 + 1 + 2 * o + 1) = 5 := fun o u v => (cl_wy hT o u v).2.2.2
  have z0 : ∀ o : Int, 0 ≤ o → o < C 0 4 0 → F (B + 220 + 1 + 2 * o) 0 = bO C o 0 := fun o u v => (cx_w hM o u v).1
  have f01 := (bO_01 C i).1
  have zx : ∀ o : Int, 0 ≤ o → o < C 0 4 0 → bO C o 0 = 1 → F (B + 220 + 1 + 2 * o) 3 = bO C o 3 := fun o u v w => ((cx_w hM o u v).2 w).2.2.1
  repeat' first
    | exact absurd hc (by decide)
    | with_reducible refine sX_isOrder pB h2 pa hC (fun q1 q2 => ?_) (fun q => ?_)
    | simp (disch := omega) only [ub_X8_hoursOf_41, ue_X8_hoursOf, t_X8_hoursOf, ue_X8_grant, t_X8_grant, ue_X8_refuse, t_X8_refuse, zLg, zRf, zFq, zEl, zNz, zUf, zUe, zUr, zCe, zSn, gd_0, gd_1, gd_2, gd_3, gd_4, gd_5, gd_6, gd_7, gd_8, gd_9, gd_10, gd_11, gd_12, gd_13, gd_14, gd_15, gd_16, gd_17, gd_18, gd_19, se_0, se_1, se_2, se_3, se_4, se_5, se_6, se_7, se_8, se_9, se_10, se_11, se_12, se_13, se_14, se_15, se_16, se_17, se_18, se_19, e_const, e_load, e_store, e_iinc, e_dup, e_dup2, e_pop, e_iadd, e_isub, e_imul, e_ladd, e_lsub, e_lmul, e_iaddw, e_isubw, e_imulw, e_laddw, e_lsubw, e_lmulw, e_iand, e_ior, e_ishl, e_ishr, e_iushr, e_lcmp, e_imax, e_imin, e_idiv, e_irem, e_ldiv, e_lrem, e_i2l, e_i2b, e_l2i, e_i2c, e_getF, e_getR, e_putF, e_putR, e_putz, e_ald, e_aldR, e_ast, e_astb, e_astz, e_asta, e_len, e_acopy, e_new, e_newa, e_mna, e_this, e_room, e_call0, e_callv0, e_call1, e_callv1, e_inv1, e_invv1, e_call2, e_callv2, e_inv2, e_invv2, e_call3, e_callv3, e_inv3, e_invv3, e_call4, e_callv4, e_inv4, e_invv4, e_call5, e_callv5, e_inv5, e_invv5, e_call6, e_callv6, e_inv6, e_invv6, e_call7, e_callv7, e_inv7, e_invv7, e_call8, e_callv8, e_inv8, e_invv8, e_ret, e_retz, e_retc, e_retb, e_retv, e_skip, e_sco, e_tlen, e_tat, e_iz_eq0, e_iz_eq1, e_iz_ne0, e_iz_ne1, add0, sc_d, sc_t, inI_e, inL_e, up_eq, true_or, or_true, or_false, false_or, and_true, true_and, not_false_eq_true, Int.reduceAdd, Int.reduceSub, Int.reduceMul, Int.reduceNeg, h2, r6, l220, wr, z0, zx]
    | with_reducible first | refine izl_lt (fun hc => ?_) (fun hc => ?_) | refine izl_ge (fun hc => ?_) (fun hc => ?_) | refine izl_eq (fun hc => ?_) (fun hc => ?_) | refine ic_ge (fun hc => ?_) (fun hc => ?_) | refine ic_lt (fun hc => ?_) (fun hc => ?_) | refine ic_ne (fun hc => ?_) (fun hc => ?_) | refine ic_eq (fun hc => ?_) (fun hc => ?_) | refine ic_le (fun hc => ?_) (fun hc => ?_) | refine ic_gt (fun hc => ?_) (fun hc => ?_) | refine iz_eq (fun hc => ?_) (fun hc => ?_) | refine iz_ne (fun hc => ?_) (fun hc => ?_) | refine iz_lt (fun hc => ?_) (fun hc => ?_) | refine iz_ge (fun hc => ?_) (fun hc => ?_) | refine iz_gt (fun hc => ?_) (fun hc => ?_) | refine iz_le (fun hc => ?_) (fun hc => ?_) | refine iz_nu (fun hc => ?_) (fun hc => ?_) | refine iz_nn (fun hc => ?_) (fun hc => ?_)
    | omega
    | (exfalso; omega)
  all_goals exact hQ _ _ _ _ _ (by simp (disch := omega) only [r_ofO, if_pos, if_neg]) (qX.s (by omega))
theorem cX_loadsOf (hT : clT B a L R) (hM : clM B a C tp fd tr fa pl D k M n H HN R F E) (hs : stW C tp fd tr D k M n H HN)  (hQ : ∀ (R' F' E' : Int → Int → Int) (v t : Int), (v, t) = r_loadsOf C i → qX B a t R R' F F' E E' → Q v (L, R', F', E', N)) : T_X8_loadsOf [B, i] (L, R, F, E, N) Q := by
  have pB := cl_p hT
  have ca := cl_a hT
  have pa : 0 ≤ a := by omega
  have h2 := cl_2 hT
  have hC := cx_c hM
  have hW := sw_w hs
  have b4 := cw_4 hW
  have r6 := cl_6 hT
  have l220 := cl_l220 hT
  have wr : ∀ o : Int, 0 ≤ o → o < 8 → R (B + 220) o = B + 220 + 1 + 2 * o := fun o u v => (cl_wy hT o u v).1
  have w6 : ∀ o : Int, 0 ≤ o → o < 8 → R (B + 220 + 1 + 2 * o) 6 = B + 220 + 1 + 2 * o + 1 := fun o u v => (cl_wy hT o u v).2.2.1
  have wl : ∀ o : Int, 0 ≤ o → o < 8 → L (B + 220 + 1 + 2 * o + 1) = 5 := fun o u v => (cl_wy hT o u v).2.2.2
  have z0 : ∀ o : Int, 0 ≤ o → o < C 0 4 0 → F (B + 220 + 1 + 2 * o) 0 = bO C o 0 := fun o u v => (cx_w hM o u v).1
  have f01 := (bO_01 C i).1
  have zx : ∀ o : Int, 0 ≤ o → o < C 0 4 0 → bO C o 0 = 1 → F (B + 220 + 1 + 2 * o) 4 = bO C o 4 := fun o u v w => ((cx_w hM o u v).2 w).2.2.2.1
  repeat' first
    | exact absurd hc (by decide)
    | with_reducible refine sX_isOrder pB h2 pa hC (fun q1 q2 => ?_) (fun q => ?_)
    | simp (disch := omega) only [ue_X8_loadsOf, t_X8_loadsOf, ue_X8_grant, t_X8_grant, ue_X8_refuse, t_X8_refuse, zLg, zRf, zFq, zEl, zNz, zUf, zUe, zUr, zCe, zSn, gd_0, gd_1, gd_2, gd_3, gd_4, gd_5, gd_6, gd_7, gd_8, gd_9, gd_10, gd_11, gd_12, gd_13, gd_14, gd_15, gd_16, gd_17, gd_18, gd_19, se_0, se_1, se_2, se_3, se_4, se_5, se_6, se_7, se_8, se_9, se_10, se_11, se_12, se_13, se_14, se_15, se_16, se_17, se_18, se_19, e_const, e_load, e_store, e_iinc, e_dup, e_dup2, e_pop, e_iadd, e_isub, e_imul, e_ladd, e_lsub, e_lmul, e_iaddw, e_isubw, e_imulw, e_laddw, e_lsubw, e_lmulw, e_iand, e_ior, e_ishl, e_ishr, e_iushr, e_lcmp, e_imax, e_imin, e_idiv, e_irem, e_ldiv, e_lrem, e_i2l, e_i2b, e_l2i, e_i2c, e_getF, e_getR, e_putF, e_putR, e_putz, e_ald, e_aldR, e_ast, e_astb, e_astz, e_asta, e_len, e_acopy, e_new, e_newa, e_mna, e_this, e_room, e_call0, e_callv0, e_call1, e_callv1, e_inv1, e_invv1, e_call2, e_callv2, e_inv2, e_invv2, e_call3, e_callv3, e_inv3, e_invv3, e_call4, e_callv4, e_inv4, e_invv4, e_call5, e_callv5, e_inv5, e_invv5, e_call6, e_callv6, e_inv6, e_invv6, e_call7, e_callv7, e_inv7, e_invv7, e_call8, e_callv8, e_inv8, e_invv8, e_ret, e_retz, e_retc, e_retb, e_retv, e_skip, e_sco, e_tlen, e_tat, e_iz_eq0, e_iz_eq1, e_iz_ne0, e_iz_ne1, add0, sc_d, sc_t, inI_e, inL_e, up_eq, true_or, or_true, or_false, false_or, and_true, true_and, not_false_eq_true, Int.reduceAdd, Int.reduceSub, Int.reduceMul, Int.reduceNeg, h2, r6, l220, wr, z0, zx]
    | with_reducible first | refine izl_lt (fun hc => ?_) (fun hc => ?_) | refine izl_ge (fun hc => ?_) (fun hc => ?_) | refine izl_eq (fun hc => ?_) (fun hc => ?_) | refine ic_ge (fun hc => ?_) (fun hc => ?_) | refine ic_lt (fun hc => ?_) (fun hc => ?_) | refine ic_ne (fun hc => ?_) (fun hc => ?_) | refine ic_eq (fun hc => ?_) (fun hc => ?_) | refine ic_le (fun hc => ?_) (fun hc => ?_) | refine ic_gt (fun hc => ?_) (fun hc => ?_) | refine iz_eq (fun hc => ?_) (fun hc => ?_) | refine iz_ne (fun hc => ?_) (fun hc => ?_) | refine iz_lt (fun hc => ?_) (fun hc => ?_) | refine iz_ge (fun hc => ?_) (fun hc => ?_) | refine iz_gt (fun hc => ?_) (fun hc => ?_) | refine iz_le (fun hc => ?_) (fun hc => ?_) | refine iz_nu (fun hc => ?_) (fun hc => ?_) | refine iz_nn (fun hc => ?_) (fun hc => ?_)
    | omega
    | (exfalso; omega)
  all_goals exact hQ _ _ _ _ _ (by simp (disch := omega) only [r_loadsOf, if_pos, if_neg]) (qX.s (by omega))
theorem cX_gateOf (hT : clT B a L R) (hM : clM B a C tp fd tr fa pl D k M n H HN R F E) (hs : stW C tp fd tr D k M n H HN) (hQ : ∀ (R' F' E' : Int → Int → Int) (v t : Int), (v, t) = r_gateOf C i j → qX B a t R R' F F' E E' → Q v (L, R', F', E', N)) : T_X8_gateOf [B, i, j] (L, R, F, E, N) Q := by
  have pB := cl_p hT
  have ca := cl_a hT
  have pa : 0 ≤ a := by omega
  have h2 := cl_2 hT
  have hC := cx_c hM
  have hW := sw_w hs
  have b4 := cw_4 hW
  have r6 := cl_6 hT
  have l220 := cl_l220 hT
  have wr : ∀ o : Int, 0 ≤ o → o < 8 → R (B + 220) o = B + 220 + 1 + 2 * o := fun o u v => (cl_wy hT o u v).1
  have w6 : ∀ o : Int, 0 ≤ o → o < 8 → R (B + 220 + 1 + 2 * o) 6 = B + 220 + 1 + 2 * o + 1 := fun o u v => (cl_wy hT o u v).2.2.1
  have wl : ∀ o : Int, 0 ≤ o → o < 8 → L (B + 220 + 1 + 2 * o + 1) = 5 := fun o u v => (cl_wy hT o u v).2.2.2
  have z0 : ∀ o : Int, 0 ≤ o → o < C 0 4 0 → F (B + 220 + 1 + 2 * o) 0 = bO C o 0 := fun o u v => (cx_w hM o u v).1
  have f01 := (bO_01 C i).1
  have zx : ∀ o : Int, 0 ≤ o → o < C 0 4 0 → bO C o 0 = 1 → F (B + 220 + 1 + 2 * o) 5 = bO C o 5 := fun o u v w => ((cx_w hM o u v).2 w).2.2.2.2.1
  have zg : ∀ o j : Int, 0 ≤ o → o < C 0 4 0 → bO C o 0 = 1 → 0 ≤ j → j < bO C o 5 → E (B + 220 + 1 + 2 * o + 1) j = gO C o j.toNat := fun o j u v w a b => by
    have := ((cx_w hM o u v).2 w).2.2.2.2.2 j.toNat (by omega)
    rw [Int.toNat_of_nonneg a] at this
    exact this
  have b5 : ∀ o : Int, 0 ≤ o → o < C 0 4 0 → bO C o 5 ≤ 5 := fun o u v => (bO_5 hW u v).2
  have b5i : (0 ≤ i ∧ i < C 0 4 0) → bO C i 5 ≤ 5 := fun z => b5 i z.1 z.2
  by_cases hi : 0 ≤ i ∧ i < C 0 4 0
  · have b5j := b5i hi
    repeat' first
      | exact absurd hc (by decide)
      | with_reducible refine sX_isOrder pB h2 pa hC (fun q1 q2 => ?_) (fun q => ?_)
      | with_reducible refine sX_within (fun q3 q4 => ?_) (fun q8 => ?_)
      | simp (disch := omega) only [ub_X8_gateOf_12, ue_X8_gateOf, t_X8_gateOf, ue_X8_grant, t_X8_grant, ue_X8_refuse, t_X8_refuse, zLg, zRf, zFq, zEl, zNz, zUf, zUe, zUr, zCe, zSn, gd_0, gd_1, gd_2, gd_3, gd_4, gd_5, gd_6, gd_7, gd_8, gd_9, gd_10, gd_11, gd_12, gd_13, gd_14, gd_15, gd_16, gd_17, gd_18, gd_19, se_0, se_1, se_2, se_3, se_4, se_5, se_6, se_7, se_8, se_9, se_10, se_11, se_12, se_13, se_14, se_15, se_16, se_17, se_18, se_19, e_const, e_load, e_store, e_iinc, e_dup, e_dup2, e_pop, e_iadd, e_isub, e_imul, e_ladd, e_lsub, e_lmul, e_iaddw, e_isubw, e_imulw, e_laddw, e_lsubw, e_lmulw, e_iand, e_ior, e_ishl, e_ishr, e_iushr, e_lcmp, e_imax, e_imin, e_idiv, e_irem, e_ldiv, e_lrem, e_i2l, e_i2b, e_l2i, e_i2c, e_getF, e_getR, e_putF, e_putR, e_putz, e_ald, e_aldR, e_ast, e_astb, e_astz, e_asta, e_len, e_acopy, e_new, e_newa, e_mna, e_this, e_room, e_call0, e_callv0, e_call1, e_callv1, e_inv1, e_invv1, e_call2, e_callv2, e_inv2, e_invv2, e_call3, e_callv3, e_inv3, e_invv3, e_call4, e_callv4, e_inv4, e_invv4, e_call5, e_callv5, e_inv5, e_invv5, e_call6, e_callv6, e_inv6, e_invv6, e_call7, e_callv7, e_inv7, e_invv7, e_call8, e_callv8, e_inv8, e_invv8, e_ret, e_retz, e_retc, e_retb, e_retv, e_skip, e_sco, e_tlen, e_tat, e_iz_eq0, e_iz_eq1, e_iz_ne0, e_iz_ne1, add0, sc_d, sc_t, inI_e, inL_e, up_eq, true_or, or_true, or_false, false_or, and_true, true_and, not_false_eq_true, Int.reduceAdd, Int.reduceSub, Int.reduceMul, Int.reduceNeg, h2, r6, l220, wr, w6, wl, z0, zx, zg]
      | with_reducible first | refine izl_lt (fun hc => ?_) (fun hc => ?_) | refine izl_ge (fun hc => ?_) (fun hc => ?_) | refine izl_eq (fun hc => ?_) (fun hc => ?_) | refine ic_ge (fun hc => ?_) (fun hc => ?_) | refine ic_lt (fun hc => ?_) (fun hc => ?_) | refine ic_ne (fun hc => ?_) (fun hc => ?_) | refine ic_eq (fun hc => ?_) (fun hc => ?_) | refine ic_le (fun hc => ?_) (fun hc => ?_) | refine ic_gt (fun hc => ?_) (fun hc => ?_) | refine iz_eq (fun hc => ?_) (fun hc => ?_) | refine iz_ne (fun hc => ?_) (fun hc => ?_) | refine iz_lt (fun hc => ?_) (fun hc => ?_) | refine iz_ge (fun hc => ?_) (fun hc => ?_) | refine iz_gt (fun hc => ?_) (fun hc => ?_) | refine iz_le (fun hc => ?_) (fun hc => ?_) | refine iz_nu (fun hc => ?_) (fun hc => ?_) | refine iz_nn (fun hc => ?_) (fun hc => ?_)
      | omega
      | (exfalso; omega)
    all_goals exact hQ _ _ _ _ _ (by simp (disch := omega) only [r_gateOf, if_pos, if_neg]) (qX.s (by omega))
  · repeat' first
      | exact absurd hc (by decide)
      | with_reducible refine sX_isOrder pB h2 pa hC (fun q1 q2 => ?_) (fun q => ?_)
      | simp (disch := omega) only [ub_X8_gateOf_12, ue_X8_gateOf, t_X8_gateOf, ue_X8_grant, t_X8_grant, ue_X8_refuse, t_X8_refuse, zLg, zRf, zFq, zEl, zNz, zUf, zUe, zUr, zCe, zSn, gd_0, gd_1, gd_2, gd_3, gd_4, gd_5, gd_6, gd_7, gd_8, gd_9, gd_10, gd_11, gd_12, gd_13, gd_14, gd_15, gd_16, gd_17, gd_18, gd_19, se_0, se_1, se_2, se_3, se_4, se_5, se_6, se_7, se_8, se_9, se_10, se_11, se_12, se_13, se_14, se_15, se_16, se_17, se_18, se_19, e_const, e_load, e_store, e_iinc, e_dup, e_dup2, e_pop, e_iadd, e_isub, e_imul, e_ladd, e_lsub, e_lmul, e_iaddw, e_isubw, e_imulw, e_laddw, e_lsubw, e_lmulw, e_iand, e_ior, e_ishl, e_ishr, e_iushr, e_lcmp, e_imax, e_imin, e_idiv, e_irem, e_ldiv, e_lrem, e_i2l, e_i2b, e_l2i, e_i2c, e_getF, e_getR, e_putF, e_putR, e_putz, e_ald, e_aldR, e_ast, e_astb, e_astz, e_asta, e_len, e_acopy, e_new, e_newa, e_mna, e_this, e_room, e_call0, e_callv0, e_call1, e_callv1, e_inv1, e_invv1, e_call2, e_callv2, e_inv2, e_invv2, e_call3, e_callv3, e_inv3, e_invv3, e_call4, e_callv4, e_inv4, e_invv4, e_call5, e_callv5, e_inv5, e_invv5, e_call6, e_callv6, e_inv6, e_invv6, e_call7, e_callv7, e_inv7, e_invv7, e_call8, e_callv8, e_inv8, e_invv8, e_ret, e_retz, e_retc, e_retb, e_retv, e_skip, e_sco, e_tlen, e_tat, e_iz_eq0, e_iz_eq1, e_iz_ne0, e_iz_ne1, add0, sc_d, sc_t, inI_e, inL_e, up_eq, true_or, or_true, or_false, false_or, and_true, true_and, not_false_eq_true, Int.reduceAdd, Int.reduceSub, Int.reduceMul, Int.reduceNeg, h2]
      | with_reducible first | refine izl_lt (fun hc => ?_) (fun hc => ?_) | refine izl_ge (fun hc => ?_) (fun hc => ?_) | refine izl_eq (fun hc => ?_) (fun hc => ?_) | refine ic_ge (fun hc => ?_) (fun hc => ?_) | refine ic_lt (fun hc => ?_) (fun hc => ?_) | refine ic_ne (fun hc => ?_) (fun hc => ?_) | refine ic_eq (fun hc => ?_) (fun hc => ?_) | refine ic_le (fun hc => ?_) (fun hc => ?_) | refine ic_gt (fun hc => ?_) (fun hc => ?_) | refine iz_eq (fun hc => ?_) (fun hc => ?_) | refine iz_ne (fun hc => ?_) (fun hc => ?_) | refine iz_lt (fun hc => ?_) (fun hc => ?_) | refine iz_ge (fun hc => ?_) (fun hc => ?_) | refine iz_gt (fun hc => ?_) (fun hc => ?_) | refine iz_le (fun hc => ?_) (fun hc => ?_) | refine iz_nu (fun hc => ?_) (fun hc => ?_) | refine iz_nn (fun hc => ?_) (fun hc => ?_)
      | omega
      | (exfalso; omega)
    all_goals exact hQ _ _ _ _ _ (by simp (disch := omega) only [r_gateOf, if_pos, if_neg]) (qX.s (by omega))
theorem cX_all (hT : clT B a L R) (hM : clM B a C tp fd tr fa pl D k M n H HN R F E) (hs : stW C tp fd tr D k M n H HN) (hQ : ∀ (R' F' E' : Int → Int → Int) (v t : Int), (v, t) = r_all C → qX B a t R R' F F' E E' → Q v (L, R', F', E', N)) : T_X8_all [B] (L, R, F, E, N) Q := by
  have pB := cl_p hT
  have ca := cl_a hT
  have pa : 0 ≤ a := by omega
  have h2 := cl_2 hT
  have hC := cx_c hM
  have hW := sw_w hs
  have r6 := cl_6 hT
  have l220 := cl_l220 hT
  have hct := cl_ct hT
  have yr : ∀ o : Int, 0 ≤ o → o < 8 → R (B + 220) o = B + 220 + 1 + 2 * o := fun o u v => (cl_wy hT o u v).1
  have yw := cx_w hM
  have y0 : 0 ≤ B + 220 := by omega
  repeat' first
    | exact absurd hc (by decide)
    | with_reducible refine sX_isCity pB h2 pa hC (fun q1 => ?_) (fun q => ?_)
    | with_reducible refine sX_allPay pB h2 r6 hct hC hW y0 l220 yr yw ?_
    | simp (disch := omega) only [ue_X8_all, t_X8_all, ue_X8_grant, t_X8_grant, ue_X8_refuse, t_X8_refuse, zLg, zRf, zFq, zEl, zNz, zUf, zUe, zUr, zCe, zSn, gd_0, gd_1, gd_2, gd_3, gd_4, gd_5, gd_6, gd_7, gd_8, gd_9, gd_10, gd_11, gd_12, gd_13, gd_14, gd_15, gd_16, gd_17, gd_18, gd_19, se_0, se_1, se_2, se_3, se_4, se_5, se_6, se_7, se_8, se_9, se_10, se_11, se_12, se_13, se_14, se_15, se_16, se_17, se_18, se_19, e_const, e_load, e_store, e_iinc, e_dup, e_dup2, e_pop, e_iadd, e_isub, e_imul, e_ladd, e_lsub, e_lmul, e_iaddw, e_isubw, e_imulw, e_laddw, e_lsubw, e_lmulw, e_iand, e_ior, e_ishl, e_ishr, e_iushr, e_lcmp, e_imax, e_imin, e_idiv, e_irem, e_ldiv, e_lrem, e_i2l, e_i2b, e_l2i, e_i2c, e_getF, e_getR, e_putF, e_putR, e_putz, e_ald, e_aldR, e_ast, e_astb, e_astz, e_asta, e_len, e_acopy, e_new, e_newa, e_mna, e_this, e_room, e_call0, e_callv0, e_call1, e_callv1, e_inv1, e_invv1, e_call2, e_callv2, e_inv2, e_invv2, e_call3, e_callv3, e_inv3, e_invv3, e_call4, e_callv4, e_inv4, e_invv4, e_call5, e_callv5, e_inv5, e_invv5, e_call6, e_callv6, e_inv6, e_invv6, e_call7, e_callv7, e_inv7, e_invv7, e_call8, e_callv8, e_inv8, e_invv8, e_ret, e_retz, e_retc, e_retb, e_retv, e_skip, e_sco, e_tlen, e_tat, e_iz_eq0, e_iz_eq1, e_iz_ne0, e_iz_ne1, add0, sc_d, sc_t, inI_e, inL_e, up_eq, true_or, or_true, or_false, false_or, and_true, true_and, not_false_eq_true, Int.reduceAdd, Int.reduceSub, Int.reduceMul, Int.reduceNeg]
    | with_reducible first | refine izl_lt (fun hc => ?_) (fun hc => ?_) | refine izl_ge (fun hc => ?_) (fun hc => ?_) | refine izl_eq (fun hc => ?_) (fun hc => ?_) | refine ic_ge (fun hc => ?_) (fun hc => ?_) | refine ic_lt (fun hc => ?_) (fun hc => ?_) | refine ic_ne (fun hc => ?_) (fun hc => ?_) | refine ic_eq (fun hc => ?_) (fun hc => ?_) | refine ic_le (fun hc => ?_) (fun hc => ?_) | refine ic_gt (fun hc => ?_) (fun hc => ?_) | refine iz_eq (fun hc => ?_) (fun hc => ?_) | refine iz_ne (fun hc => ?_) (fun hc => ?_) | refine iz_lt (fun hc => ?_) (fun hc => ?_) | refine iz_ge (fun hc => ?_) (fun hc => ?_) | refine iz_gt (fun hc => ?_) (fun hc => ?_) | refine iz_le (fun hc => ?_) (fun hc => ?_) | refine iz_nu (fun hc => ?_) (fun hc => ?_) | refine iz_nn (fun hc => ?_) (fun hc => ?_)
    | omega
    | (exfalso; omega)
  all_goals exact hQ _ _ _ _ _ (by simp (disch := omega) only [r_all, if_pos, if_neg]) (qX.s (by omega))
theorem cX_loads (hT : clT B a L R) (hM : clM B a C tp fd tr fa pl D k M n H HN R F E) (hs : stW C tp fd tr D k M n H HN)  (hQ : ∀ (R' F' E' : Int → Int → Int) (v t : Int), (v, t) = r_loads C D → qX B a t R R' F F' E E' → Q v (L, R', F', E', N)) : T_X8_loads [B] (L, R, F, E, N) Q := by
  have pB := cl_p hT
  have ca := cl_a hT
  have pa : 0 ≤ a := by omega
  have h2 := cl_2 hT
  have hC := cx_c hM
  have hW := sw_w hs
  have r9 := cl_9 hT
  have dd := cl_dy hT
  have d0 := cx_d0 hM
  have d1 := cx_d1 hM
  have b1 := cw_1 hW
  have b2 := cw_2 hW
  have b0 := cw_0 hW
  have dw := sw_d hs
  have n72 := dw.1.2.1
  repeat' first
    | exact absurd hc (by decide)
    | with_reducible refine sX_isCity pB h2 pa hC (fun q1 => ?_) (fun q => ?_)
    | simp (disch := omega) only [ue_X8_loads, t_X8_loads, ue_X8_grant, t_X8_grant, ue_X8_refuse, t_X8_refuse, zLg, zRf, zFq, zEl, zNz, zUf, zUe, zUr, zCe, zSn, gd_0, gd_1, gd_2, gd_3, gd_4, gd_5, gd_6, gd_7, gd_8, gd_9, gd_10, gd_11, gd_12, gd_13, gd_14, gd_15, gd_16, gd_17, gd_18, gd_19, se_0, se_1, se_2, se_3, se_4, se_5, se_6, se_7, se_8, se_9, se_10, se_11, se_12, se_13, se_14, se_15, se_16, se_17, se_18, se_19, e_const, e_load, e_store, e_iinc, e_dup, e_dup2, e_pop, e_iadd, e_isub, e_imul, e_ladd, e_lsub, e_lmul, e_iaddw, e_isubw, e_imulw, e_laddw, e_lsubw, e_lmulw, e_iand, e_ior, e_ishl, e_ishr, e_iushr, e_lcmp, e_imax, e_imin, e_idiv, e_irem, e_ldiv, e_lrem, e_i2l, e_i2b, e_l2i, e_i2c, e_getF, e_getR, e_putF, e_putR, e_putz, e_ald, e_aldR, e_ast, e_astb, e_astz, e_asta, e_len, e_acopy, e_new, e_newa, e_mna, e_this, e_room, e_call0, e_callv0, e_call1, e_callv1, e_inv1, e_invv1, e_call2, e_callv2, e_inv2, e_invv2, e_call3, e_callv3, e_inv3, e_invv3, e_call4, e_callv4, e_inv4, e_invv4, e_call5, e_callv5, e_inv5, e_invv5, e_call6, e_callv6, e_inv6, e_invv6, e_call7, e_callv7, e_inv7, e_invv7, e_call8, e_callv8, e_inv8, e_invv8, e_ret, e_retz, e_retc, e_retb, e_retv, e_skip, e_sco, e_tlen, e_tat, e_iz_eq0, e_iz_eq1, e_iz_ne0, e_iz_ne1, add0, sc_d, sc_t, inI_e, inL_e, up_eq, true_or, or_true, or_false, false_or, and_true, true_and, not_false_eq_true, Int.reduceAdd, Int.reduceSub, Int.reduceMul, Int.reduceNeg, r9, d1]
    | with_reducible first | refine izl_lt (fun hc => ?_) (fun hc => ?_) | refine izl_ge (fun hc => ?_) (fun hc => ?_) | refine izl_eq (fun hc => ?_) (fun hc => ?_) | refine ic_ge (fun hc => ?_) (fun hc => ?_) | refine ic_lt (fun hc => ?_) (fun hc => ?_) | refine ic_ne (fun hc => ?_) (fun hc => ?_) | refine ic_eq (fun hc => ?_) (fun hc => ?_) | refine ic_le (fun hc => ?_) (fun hc => ?_) | refine ic_gt (fun hc => ?_) (fun hc => ?_) | refine iz_eq (fun hc => ?_) (fun hc => ?_) | refine iz_ne (fun hc => ?_) (fun hc => ?_) | refine iz_lt (fun hc => ?_) (fun hc => ?_) | refine iz_ge (fun hc => ?_) (fun hc => ?_) | refine iz_gt (fun hc => ?_) (fun hc => ?_) | refine iz_le (fun hc => ?_) (fun hc => ?_) | refine iz_nu (fun hc => ?_) (fun hc => ?_) | refine iz_nn (fun hc => ?_) (fun hc => ?_)
    | omega
    | (exfalso; omega)
  all_goals exact hQ _ _ _ _ _ (by simp (disch := omega) only [r_loads, if_pos, if_neg]) (qX.s (by omega))
theorem ring_of {x : Int} (hs : stW C tp fd tr D k M n H HN) (h : 0 < C 0 1 0 ∨ 0 < C 0 2 0 ∨ 0 < C 0 3 0 ∨ 0 < C 0 4 0 ∨ 0 < D 10 1 ∨ 0 < k ∨ 0 < n ∨ 0 < D 10 0) : 0 < C 0 0 0 := by
  rcases sw_c hs with ⟨⟨z0, z1, z2, z3, z4⟩, z5, z6, z7, z8⟩ | z
  · omega
  · exact z
theorem cX_load (hT : clT B a L R) (hM : clM B a C tp fd tr fa pl D k M n H HN R F E) (hs : stW C tp fd tr D k M n H HN) (hQ : ∀ (R' F' E' : Int → Int → Int) (v t : Int), (v, t) = r_load D i j → qX B a t R R' F F' E E' → Q v (L, R', F', E', N)) : T_X8_load [B, i, j] (L, R, F, E, N) Q := by
  have pB := cl_p hT
  have ca := cl_a hT
  have pa : 0 ≤ a := by omega
  have h2 := cl_2 hT
  have hC := cx_c hM
  have hW := sw_w hs
  have r9 := cl_9 hT
  have dd := cl_dy hT
  have d0 := cx_d0 hM
  have d1 := cx_d1 hM
  have b1 := cw_1 hW
  have b2 := cw_2 hW
  have b0 := cw_0 hW
  have dw := sw_d hs
  have n72 := dw.1.2.1
  by_cases hz : 0 < C 0 0 0
  · have hX := cx_d hM hz
    obtain ⟨x0, x1, x2, x3, x4, x5⟩ := hX
    have dr := dt_r dd
    have dl := dt_lr dd
    have dv : ∀ w l : Int, 0 ≤ w → w < 10 → 0 ≤ l → l < D 10 1 → E (B + 240 + 2 + w) l = D w l := x2
    repeat' first
      | exact absurd hc (by decide)
      | with_reducible refine sX_within (fun q3 q4 => ?_) (fun q8 => ?_)
      | simp (disch := omega) only [ub_X8_load_23, ue_X8_load, t_X8_load, ue_X8_grant, t_X8_grant, ue_X8_refuse, t_X8_refuse, zLg, zRf, zFq, zEl, zNz, zUf, zUe, zUr, zCe, zSn, gd_0, gd_1, gd_2, gd_3, gd_4, gd_5, gd_6, gd_7, gd_8, gd_9, gd_10, gd_11, gd_12, gd_13, gd_14, gd_15, gd_16, gd_17, gd_18, gd_19, se_0, se_1, se_2, se_3, se_4, se_5, se_6, se_7, se_8, se_9, se_10, se_11, se_12, se_13, se_14, se_15, se_16, se_17, se_18, se_19, e_const, e_load, e_store, e_iinc, e_dup, e_dup2, e_pop, e_iadd, e_isub, e_imul, e_ladd, e_lsub, e_lmul, e_iaddw, e_isubw, e_imulw, e_laddw, e_lsubw, e_lmulw, e_iand, e_ior, e_ishl, e_ishr, e_iushr, e_lcmp, e_imax, e_imin, e_idiv, e_irem, e_ldiv, e_lrem, e_i2l, e_i2b, e_l2i, e_i2c, e_getF, e_getR, e_putF, e_putR, e_putz, e_ald, e_aldR, e_ast, e_astb, e_astz, e_asta, e_len, e_acopy, e_new, e_newa, e_mna, e_this, e_room, e_call0, e_callv0, e_call1, e_callv1, e_inv1, e_invv1, e_call2, e_callv2, e_inv2, e_invv2, e_call3, e_callv3, e_inv3, e_invv3, e_call4, e_callv4, e_inv4, e_invv4, e_call5, e_callv5, e_inv5, e_invv5, e_call6, e_callv6, e_inv6, e_invv6, e_call7, e_callv7, e_inv7, e_invv7, e_call8, e_callv8, e_inv8, e_invv8, e_ret, e_retz, e_retc, e_retb, e_retv, e_skip, e_sco, e_tlen, e_tat, e_iz_eq0, e_iz_eq1, e_iz_ne0, e_iz_ne1, add0, sc_d, sc_t, inI_e, inL_e, up_eq, true_or, or_true, or_false, false_or, and_true, true_and, not_false_eq_true, Int.reduceAdd, Int.reduceSub, Int.reduceMul, Int.reduceNeg, h2, r9, d1, dt_2 dd, dt_l1 dd, dr, dl, dv]
      | with_reducible first | refine izl_lt (fun hc => ?_) (fun hc => ?_) | refine izl_ge (fun hc => ?_) (fun hc => ?_) | refine izl_eq (fun hc => ?_) (fun hc => ?_) | refine ic_ge (fun hc => ?_) (fun hc => ?_) | refine ic_lt (fun hc => ?_) (fun hc => ?_) | refine ic_ne (fun hc => ?_) (fun hc => ?_) | refine ic_eq (fun hc => ?_) (fun hc => ?_) | refine ic_le (fun hc => ?_) (fun hc => ?_) | refine ic_gt (fun hc => ?_) (fun hc => ?_) | refine iz_eq (fun hc => ?_) (fun hc => ?_) | refine iz_ne (fun hc => ?_) (fun hc => ?_) | refine iz_lt (fun hc => ?_) (fun hc => ?_) | refine iz_ge (fun hc => ?_) (fun hc => ?_) | refine iz_gt (fun hc => ?_) (fun hc => ?_) | refine iz_le (fun hc => ?_) (fun hc => ?_) | refine iz_nu (fun hc => ?_) (fun hc => ?_) | refine iz_nn (fun hc => ?_) (fun hc => ?_)
      | omega
      | (exfalso; omega)
    all_goals exact hQ _ _ _ _ _ (by simp (disch := omega) only [r_load, if_pos, if_neg]) (qX.s (by omega))
  · have hno : ¬ (0 ≤ i ∧ i < D 10 1) := fun y => hz (ring_of (x := 0) hs (by omega))
    repeat' first
      | exact absurd hc (by decide)
      | with_reducible refine sX_within (fun q3 q4 => ?_) (fun q8 => ?_)
      | simp (disch := omega) only [ub_X8_load_23, ue_X8_load, t_X8_load, ue_X8_grant, t_X8_grant, ue_X8_refuse, t_X8_refuse, zLg, zRf, zFq, zEl, zNz, zUf, zUe, zUr, zCe, zSn, gd_0, gd_1, gd_2, gd_3, gd_4, gd_5, gd_6, gd_7, gd_8, gd_9, gd_10, gd_11, gd_12, gd_13, gd_14, gd_15, gd_16, gd_17, gd_18, gd_19, se_0, se_1, se_2, se_3, se_4, se_5, se_6, se_7, se_8, se_9, se_10, se_11, se_12, se_13, se_14, se_15, se_16, se_17, se_18, se_19, e_const, e_load, e_store, e_iinc, e_dup, e_dup2, e_pop, e_iadd, e_isub, e_imul, e_ladd, e_lsub, e_lmul, e_iaddw, e_isubw, e_imulw, e_laddw, e_lsubw, e_lmulw, e_iand, e_ior, e_ishl, e_ishr, e_iushr, e_lcmp, e_imax, e_imin, e_idiv, e_irem, e_ldiv, e_lrem, e_i2l, e_i2b, e_l2i, e_i2c, e_getF, e_getR, e_putF, e_putR, e_putz, e_ald, e_aldR, e_ast, e_astb, e_astz, e_asta, e_len, e_acopy, e_new, e_newa, e_mna, e_this, e_room, e_call0, e_callv0, e_call1, e_callv1, e_inv1, e_invv1, e_call2, e_callv2, e_inv2, e_invv2, e_call3, e_callv3, e_inv3, e_invv3, e_call4, e_callv4, e_inv4, e_invv4, e_call5, e_callv5, e_inv5, e_invv5, e_call6, e_callv6, e_inv6, e_invv6, e_call7, e_callv7, e_inv7, e_invv7, e_call8, e_callv8, e_inv8, e_invv8, e_ret, e_retz, e_retc, e_retb, e_retv, e_skip, e_sco, e_tlen, e_tat, e_iz_eq0, e_iz_eq1, e_iz_ne0, e_iz_ne1, add0, sc_d, sc_t, inI_e, inL_e, up_eq, true_or, or_true, or_false, false_or, and_true, true_and, not_false_eq_true, Int.reduceAdd, Int.reduceSub, Int.reduceMul, Int.reduceNeg, h2, r9, d1, cm_2 hC]
      | with_reducible first | refine izl_lt (fun hc => ?_) (fun hc => ?_) | refine izl_ge (fun hc => ?_) (fun hc => ?_) | refine izl_eq (fun hc => ?_) (fun hc => ?_) | refine ic_ge (fun hc => ?_) (fun hc => ?_) | refine ic_lt (fun hc => ?_) (fun hc => ?_) | refine ic_ne (fun hc => ?_) (fun hc => ?_) | refine ic_eq (fun hc => ?_) (fun hc => ?_) | refine ic_le (fun hc => ?_) (fun hc => ?_) | refine ic_gt (fun hc => ?_) (fun hc => ?_) | refine iz_eq (fun hc => ?_) (fun hc => ?_) | refine iz_ne (fun hc => ?_) (fun hc => ?_) | refine iz_lt (fun hc => ?_) (fun hc => ?_) | refine iz_ge (fun hc => ?_) (fun hc => ?_) | refine iz_gt (fun hc => ?_) (fun hc => ?_) | refine iz_le (fun hc => ?_) (fun hc => ?_) | refine iz_nu (fun hc => ?_) (fun hc => ?_) | refine iz_nn (fun hc => ?_) (fun hc => ?_)
      | omega
      | (exfalso; omega)
    all_goals exact hQ _ _ _ _ _ (by simp (disch := omega) only [r_load, if_pos, if_neg]) (qX.s (by omega))
theorem cX_cart (hT : clT B a L R) (hM : clM B a C tp fd tr fa pl D k M n H HN R F E) (hs : stW C tp fd tr D k M n H HN) (hQ : ∀ (R' F' E' : Int → Int → Int) (v t : Int), (v, t) = r_cart C D i → qX B a t R R' F F' E E' → Q v (L, R', F', E', N)) : T_X8_cart [B, i] (L, R, F, E, N) Q := by
  have pB := cl_p hT
  have ca := cl_a hT
  have pa : 0 ≤ a := by omega
  have h2 := cl_2 hT
  have hC := cx_c hM
  have hW := sw_w hs
  have r9 := cl_9 hT
  have dd := cl_dy hT
  have d0 := cx_d0 hM
  have d1 := cx_d1 hM
  have b1 := cw_1 hW
  have b2 := cw_2 hW
  have b0 := cw_0 hW
  have dw := sw_d hs
  have n72 := dw.1.2.1
  by_cases hz : 0 < C 0 0 0
  · have hX := cx_d hM hz
    obtain ⟨x0, x1, x2, x3, x4, x5⟩ := hX
    have ev : ∀ c : Int, 0 ≤ c → c < C 0 2 0 → E (B + 240 + 12) c = onF D c (D 10 1).toNat := fun c u v => on_u dw.1 u (x3 c u (by omega))
    repeat' first
      | exact absurd hc (by decide)
      | with_reducible refine sX_within (fun q3 q4 => ?_) (fun q8 => ?_)
      | simp (disch := omega) only [ue_X8_cart, t_X8_cart, ue_X8_grant, t_X8_grant, ue_X8_refuse, t_X8_refuse, zLg, zRf, zFq, zEl, zNz, zUf, zUe, zUr, zCe, zSn, gd_0, gd_1, gd_2, gd_3, gd_4, gd_5, gd_6, gd_7, gd_8, gd_9, gd_10, gd_11, gd_12, gd_13, gd_14, gd_15, gd_16, gd_17, gd_18, gd_19, se_0, se_1, se_2, se_3, se_4, se_5, se_6, se_7, se_8, se_9, se_10, se_11, se_12, se_13, se_14, se_15, se_16, se_17, se_18, se_19, e_const, e_load, e_store, e_iinc, e_dup, e_dup2, e_pop, e_iadd, e_isub, e_imul, e_ladd, e_lsub, e_lmul, e_iaddw, e_isubw, e_imulw, e_laddw, e_lsubw, e_lmulw, e_iand, e_ior, e_ishl, e_ishr, e_iushr, e_lcmp, e_imax, e_imin, e_idiv, e_irem, e_ldiv, e_lrem, e_i2l, e_i2b, e_l2i, e_i2c, e_getF, e_getR, e_putF, e_putR, e_putz, e_ald, e_aldR, e_ast, e_astb, e_astz, e_asta, e_len, e_acopy, e_new, e_newa, e_mna, e_this, e_room, e_call0, e_callv0, e_call1, e_callv1, e_inv1, e_invv1, e_call2, e_callv2, e_inv2, e_invv2, e_call3, e_callv3, e_inv3, e_invv3, e_call4, e_callv4, e_inv4, e_invv4, e_call5, e_callv5, e_inv5, e_invv5, e_call6, e_callv6, e_inv6, e_invv6, e_call7, e_callv7, e_inv7, e_invv7, e_call8, e_callv8, e_inv8, e_invv8, e_ret, e_retz, e_retc, e_retb, e_retv, e_skip, e_sco, e_tlen, e_tat, e_iz_eq0, e_iz_eq1, e_iz_ne0, e_iz_ne1, add0, sc_d, sc_t, inI_e, inL_e, up_eq, true_or, or_true, or_false, false_or, and_true, true_and, not_false_eq_true, Int.reduceAdd, Int.reduceSub, Int.reduceMul, Int.reduceNeg, h2, r9, d1, dt_3 dd, dt_l12 dd, cm_2 hC, ev]
      | with_reducible first | refine izl_lt (fun hc => ?_) (fun hc => ?_) | refine izl_ge (fun hc => ?_) (fun hc => ?_) | refine izl_eq (fun hc => ?_) (fun hc => ?_) | refine ic_ge (fun hc => ?_) (fun hc => ?_) | refine ic_lt (fun hc => ?_) (fun hc => ?_) | refine ic_ne (fun hc => ?_) (fun hc => ?_) | refine ic_eq (fun hc => ?_) (fun hc => ?_) | refine ic_le (fun hc => ?_) (fun hc => ?_) | refine ic_gt (fun hc => ?_) (fun hc => ?_) | refine iz_eq (fun hc => ?_) (fun hc => ?_) | refine iz_ne (fun hc => ?_) (fun hc => ?_) | refine iz_lt (fun hc => ?_) (fun hc => ?_) | refine iz_ge (fun hc => ?_) (fun hc => ?_) | refine iz_gt (fun hc => ?_) (fun hc => ?_) | refine iz_le (fun hc => ?_) (fun hc => ?_) | refine iz_nu (fun hc => ?_) (fun hc => ?_) | refine iz_nn (fun hc => ?_) (fun hc => ?_)
      | omega
      | (exfalso; omega)
    all_goals exact hQ _ _ _ _ _ (by simp (disch := omega) only [r_cart, if_pos, if_neg]) (qX.s (by omega))
  · have hno : ¬ (0 ≤ i ∧ i < C 0 2 0) := fun y => hz (ring_of (x := 0) hs (by omega))
    repeat' first
      | exact absurd hc (by decide)
      | with_reducible refine sX_within (fun q3 q4 => ?_) (fun q8 => ?_)
      | simp (disch := omega) only [ue_X8_cart, t_X8_cart, ue_X8_grant, t_X8_grant, ue_X8_refuse, t_X8_refuse, zLg, zRf, zFq, zEl, zNz, zUf, zUe, zUr, zCe, zSn, gd_0, gd_1, gd_2, gd_3, gd_4, gd_5, gd_6, gd_7, gd_8, gd_9, gd_10, gd_11, gd_12, gd_13, gd_14, gd_15, gd_16, gd_17, gd_18, gd_19, se_0, se_1, se_2, se_3, se_4, se_5, se_6, se_7, se_8, se_9, se_10, se_11, se_12, se_13, se_14, se_15, se_16, se_17, se_18, se_19, e_const, e_load, e_store, e_iinc, e_dup, e_dup2, e_pop, e_iadd, e_isub, e_imul, e_ladd, e_lsub, e_lmul, e_iaddw, e_isubw, e_imulw, e_laddw, e_lsubw, e_lmulw, e_iand, e_ior, e_ishl, e_ishr, e_iushr, e_lcmp, e_imax, e_imin, e_idiv, e_irem, e_ldiv, e_lrem, e_i2l, e_i2b, e_l2i, e_i2c, e_getF, e_getR, e_putF, e_putR, e_putz, e_ald, e_aldR, e_ast, e_astb, e_astz, e_asta, e_len, e_acopy, e_new, e_newa, e_mna, e_this, e_room, e_call0, e_callv0, e_call1, e_callv1, e_inv1, e_invv1, e_call2, e_callv2, e_inv2, e_invv2, e_call3, e_callv3, e_inv3, e_invv3, e_call4, e_callv4, e_inv4, e_invv4, e_call5, e_callv5, e_inv5, e_invv5, e_call6, e_callv6, e_inv6, e_invv6, e_call7, e_callv7, e_inv7, e_invv7, e_call8, e_callv8, e_inv8, e_invv8, e_ret, e_retz, e_retc, e_retb, e_retv, e_skip, e_sco, e_tlen, e_tat, e_iz_eq0, e_iz_eq1, e_iz_ne0, e_iz_ne1, add0, sc_d, sc_t, inI_e, inL_e, up_eq, true_or, or_true, or_false, false_or, and_true, true_and, not_false_eq_true, Int.reduceAdd, Int.reduceSub, Int.reduceMul, Int.reduceNeg, h2, r9, d1, cm_2 hC]
      | with_reducible first | refine izl_lt (fun hc => ?_) (fun hc => ?_) | refine izl_ge (fun hc => ?_) (fun hc => ?_) | refine izl_eq (fun hc => ?_) (fun hc => ?_) | refine ic_ge (fun hc => ?_) (fun hc => ?_) | refine ic_lt (fun hc => ?_) (fun hc => ?_) | refine ic_ne (fun hc => ?_) (fun hc => ?_) | refine ic_eq (fun hc => ?_) (fun hc => ?_) | refine ic_le (fun hc => ?_) (fun hc => ?_) | refine ic_gt (fun hc => ?_) (fun hc => ?_) | refine iz_eq (fun hc => ?_) (fun hc => ?_) | refine iz_ne (fun hc => ?_) (fun hc => ?_) | refine iz_lt (fun hc => ?_) (fun hc => ?_) | refine iz_ge (fun hc => ?_) (fun hc => ?_) | refine iz_gt (fun hc => ?_) (fun hc => ?_) | refine iz_le (fun hc => ?_) (fun hc => ?_) | refine iz_nu (fun hc => ?_) (fun hc => ?_) | refine iz_nn (fun hc => ?_) (fun hc => ?_)
      | omega
      | (exfalso; omega)
    all_goals exact hQ _ _ _ _ _ (by simp (disch := omega) only [r_cart, if_pos, if_neg]) (qX.s (by omega))
theorem cX_busy (hT : clT B a L R) (hM : clM B a C tp fd tr fa pl D k M n H HN R F E) (hs : stW C tp fd tr D k M n H HN) (hQ : ∀ (R' F' E' : Int → Int → Int) (v t : Int), (v, t) = r_busy C D i → qX B a t R R' F F' E E' → Q v (L, R', F', E', N)) : T_X8_busy [B, i] (L, R, F, E, N) Q := by
  have pB := cl_p hT
  have ca := cl_a hT
  have pa : 0 ≤ a := by omega
  have h2 := cl_2 hT
  have hC := cx_c hM
  have hW := sw_w hs
  have r9 := cl_9 hT
  have dd := cl_dy hT
  have d0 := cx_d0 hM
  have d1 := cx_d1 hM
  have b1 := cw_1 hW
  have b2 := cw_2 hW
  have b0 := cw_0 hW
  have dw := sw_d hs
  have n72 := dw.1.2.1
  by_cases hz : 0 < C 0 0 0
  · have hX := cx_d hM hz
    obtain ⟨x0, x1, x2, x3, x4, x5⟩ := hX
    have ev : ∀ g : Int, 0 ≤ g → g < C 0 1 0 → E (B + 240 + 13) g = bzF C D g (D 10 1).toNat := fun g u v => bz_u dw.1 (x4 g u (by omega))
    repeat' first
      | exact absurd hc (by decide)
      | with_reducible refine sX_isGate pB h2 pa hC (fun q1 q2 => ?_) (fun q => ?_)
      | simp (disch := omega) only [ue_X8_busy, t_X8_busy, ue_X8_grant, t_X8_grant, ue_X8_refuse, t_X8_refuse, zLg, zRf, zFq, zEl, zNz, zUf, zUe, zUr, zCe, zSn, gd_0, gd_1, gd_2, gd_3, gd_4, gd_5, gd_6, gd_7, gd_8, gd_9, gd_10, gd_11, gd_12, gd_13, gd_14, gd_15, gd_16, gd_17, gd_18, gd_19, se_0, se_1, se_2, se_3, se_4, se_5, se_6, se_7, se_8, se_9, se_10, se_11, se_12, se_13, se_14, se_15, se_16, se_17, se_18, se_19, e_const, e_load, e_store, e_iinc, e_dup, e_dup2, e_pop, e_iadd, e_isub, e_imul, e_ladd, e_lsub, e_lmul, e_iaddw, e_isubw, e_imulw, e_laddw, e_lsubw, e_lmulw, e_iand, e_ior, e_ishl, e_ishr, e_iushr, e_lcmp, e_imax, e_imin, e_idiv, e_irem, e_ldiv, e_lrem, e_i2l, e_i2b, e_l2i, e_i2c, e_getF, e_getR, e_putF, e_putR, e_putz, e_ald, e_aldR, e_ast, e_astb, e_astz, e_asta, e_len, e_acopy, e_new, e_newa, e_mna, e_this, e_room, e_call0, e_callv0, e_call1, e_callv1, e_inv1, e_invv1, e_call2, e_callv2, e_inv2, e_invv2, e_call3, e_callv3, e_inv3, e_invv3, e_call4, e_callv4, e_inv4, e_invv4, e_call5, e_callv5, e_inv5, e_invv5, e_call6, e_callv6, e_inv6, e_invv6, e_call7, e_callv7, e_inv7, e_invv7, e_call8, e_callv8, e_inv8, e_invv8, e_ret, e_retz, e_retc, e_retb, e_retv, e_skip, e_sco, e_tlen, e_tat, e_iz_eq0, e_iz_eq1, e_iz_ne0, e_iz_ne1, add0, sc_d, sc_t, inI_e, inL_e, up_eq, true_or, or_true, or_false, false_or, and_true, true_and, not_false_eq_true, Int.reduceAdd, Int.reduceSub, Int.reduceMul, Int.reduceNeg, h2, r9, d1, dt_4 dd, dt_l13 dd, ev]
      | with_reducible first | refine izl_lt (fun hc => ?_) (fun hc => ?_) | refine izl_ge (fun hc => ?_) (fun hc => ?_) | refine izl_eq (fun hc => ?_) (fun hc => ?_) | refine ic_ge (fun hc => ?_) (fun hc => ?_) | refine ic_lt (fun hc => ?_) (fun hc => ?_) | refine ic_ne (fun hc => ?_) (fun hc => ?_) | refine ic_eq (fun hc => ?_) (fun hc => ?_) | refine ic_le (fun hc => ?_) (fun hc => ?_) | refine ic_gt (fun hc => ?_) (fun hc => ?_) | refine iz_eq (fun hc => ?_) (fun hc => ?_) | refine iz_ne (fun hc => ?_) (fun hc => ?_) | refine iz_lt (fun hc => ?_) (fun hc => ?_) | refine iz_ge (fun hc => ?_) (fun hc => ?_) | refine iz_gt (fun hc => ?_) (fun hc => ?_) | refine iz_le (fun hc => ?_) (fun hc => ?_) | refine iz_nu (fun hc => ?_) (fun hc => ?_) | refine iz_nn (fun hc => ?_) (fun hc => ?_)
      | omega
      | (exfalso; omega)
    all_goals exact hQ _ _ _ _ _ (by simp (disch := omega) only [r_busy, if_pos, if_neg]) (qX.s (by omega))
  · have hno : ¬ (0 ≤ i ∧ i < C 0 1 0) := fun y => hz (ring_of (x := 0) hs (by omega))
    repeat' first
      | exact absurd hc (by decide)
      | with_reducible refine sX_isGate pB h2 pa hC (fun q1 q2 => ?_) (fun q => ?_)
      | simp (disch := omega) only [ue_X8_busy, t_X8_busy, ue_X8_grant, t_X8_grant, ue_X8_refuse, t_X8_refuse, zLg, zRf, zFq, zEl, zNz, zUf, zUe, zUr, zCe, zSn, gd_0, gd_1, gd_2, gd_3, gd_4, gd_5, gd_6, gd_7, gd_8, gd_9, gd_10, gd_11, gd_12, gd_13, gd_14, gd_15, gd_16, gd_17, gd_18, gd_19, se_0, se_1, se_2, se_3, se_4, se_5, se_6, se_7, se_8, se_9, se_10, se_11, se_12, se_13, se_14, se_15, se_16, se_17, se_18, se_19, e_const, e_load, e_store, e_iinc, e_dup, e_dup2, e_pop, e_iadd, e_isub, e_imul, e_ladd, e_lsub, e_lmul, e_iaddw, e_isubw, e_imulw, e_laddw, e_lsubw, e_lmulw, e_iand, e_ior, e_ishl, e_ishr, e_iushr, e_lcmp, e_imax, e_imin, e_idiv, e_irem, e_ldiv, e_lrem, e_i2l, e_i2b, e_l2i, e_i2c, e_getF, e_getR, e_putF, e_putR, e_putz, e_ald, e_aldR, e_ast, e_astb, e_astz, e_asta, e_len, e_acopy, e_new, e_newa, e_mna, e_this, e_room, e_call0, e_callv0, e_call1, e_callv1, e_inv1, e_invv1, e_call2, e_callv2, e_inv2, e_invv2, e_call3, e_callv3, e_inv3, e_invv3, e_call4, e_callv4, e_inv4, e_invv4, e_call5, e_callv5, e_inv5, e_invv5, e_call6, e_callv6, e_inv6, e_invv6, e_call7, e_callv7, e_inv7, e_invv7, e_call8, e_callv8, e_inv8, e_invv8, e_ret, e_retz, e_retc, e_retb, e_retv, e_skip, e_sco, e_tlen, e_tat, e_iz_eq0, e_iz_eq1, e_iz_ne0, e_iz_ne1, add0, sc_d, sc_t, inI_e, inL_e, up_eq, true_or, or_true, or_false, false_or, and_true, true_and, not_false_eq_true, Int.reduceAdd, Int.reduceSub, Int.reduceMul, Int.reduceNeg, h2, r9, d1, cm_2 hC]
      | with_reducible first | refine izl_lt (fun hc => ?_) (fun hc => ?_) | refine izl_ge (fun hc => ?_) (fun hc => ?_) | refine izl_eq (fun hc => ?_) (fun hc => ?_) | refine ic_ge (fun hc => ?_) (fun hc => ?_) | refine ic_lt (fun hc => ?_) (fun hc => ?_) | refine ic_ne (fun hc => ?_) (fun hc => ?_) | refine ic_eq (fun hc => ?_) (fun hc => ?_) | refine ic_le (fun hc => ?_) (fun hc => ?_) | refine ic_gt (fun hc => ?_) (fun hc => ?_) | refine iz_eq (fun hc => ?_) (fun hc => ?_) | refine iz_ne (fun hc => ?_) (fun hc => ?_) | refine iz_lt (fun hc => ?_) (fun hc => ?_) | refine iz_ge (fun hc => ?_) (fun hc => ?_) | refine iz_gt (fun hc => ?_) (fun hc => ?_) | refine iz_le (fun hc => ?_) (fun hc => ?_) | refine iz_nu (fun hc => ?_) (fun hc => ?_) | refine iz_nn (fun hc => ?_) (fun hc => ?_)
      | omega
      | (exfalso; omega)
    all_goals exact hQ _ _ _ _ _ (by simp (disch := omega) only [r_busy, if_pos, if_neg]) (qX.s (by omega))
theorem cX_tolls (hT : clT B a L R) (hM : clM B a C tp fd tr fa pl D k M n H HN R F E) (hs : stW C tp fd tr D k M n H HN) (hQ : ∀ (R' F' E' : Int → Int → Int) (v t : Int), (v, t) = r_toll C D 11 i → qX B a t R R' F F' E E' → Q v (L, R', F', E', N)) : T_X8_tolls [B, i] (L, R, F, E, N) Q := by
  have pB := cl_p hT
  have ca := cl_a hT
  have pa : 0 ≤ a := by omega
  have h2 := cl_2 hT
  have hC := cx_c hM
  have hW := sw_w hs
  have r9 := cl_9 hT
  have dd := cl_dy hT
  have d0 := cx_d0 hM
  have d1 := cx_d1 hM
  have b1 := cw_1 hW
  have b2 := cw_2 hW
  have b0 := cw_0 hW
  have dw := sw_d hs
  have n72 := dw.1.2.1
  by_cases hz : 0 < C 0 0 0
  · have hX := cx_d hM hz
    obtain ⟨x0, x1, x2, x3, x4, x5⟩ := hX
    have ev : ∀ g : Int, 0 ≤ g → g < 11 → E (B + 240 + 14) g = D 11 g := fun g u v => (x5 g u v).1
    repeat' first
      | exact absurd hc (by decide)
      | with_reducible refine sX_isGate pB h2 pa hC (fun q1 q2 => ?_) (fun q => ?_)
      | simp (disch := omega) only [ue_X8_tolls, t_X8_tolls, ue_X8_grant, t_X8_grant, ue_X8_refuse, t_X8_refuse, zLg, zRf, zFq, zEl, zNz, zUf, zUe, zUr, zCe, zSn, gd_0, gd_1, gd_2, gd_3, gd_4, gd_5, gd_6, gd_7, gd_8, gd_9, gd_10, gd_11, gd_12, gd_13, gd_14, gd_15, gd_16, gd_17, gd_18, gd_19, se_0, se_1, se_2, se_3, se_4, se_5, se_6, se_7, se_8, se_9, se_10, se_11, se_12, se_13, se_14, se_15, se_16, se_17, se_18, se_19, e_const, e_load, e_store, e_iinc, e_dup, e_dup2, e_pop, e_iadd, e_isub, e_imul, e_ladd, e_lsub, e_lmul, e_iaddw, e_isubw, e_imulw, e_laddw, e_lsubw, e_lmulw, e_iand, e_ior, e_ishl, e_ishr, e_iushr, e_lcmp, e_imax, e_imin, e_idiv, e_irem, e_ldiv, e_lrem, e_i2l, e_i2b, e_l2i, e_i2c, e_getF, e_getR, e_putF, e_putR, e_putz, e_ald, e_aldR, e_ast, e_astb, e_astz, e_asta, e_len, e_acopy, e_new, e_newa, e_mna, e_this, e_room, e_call0, e_callv0, e_call1, e_callv1, e_inv1, e_invv1, e_call2, e_callv2, e_inv2, e_invv2, e_call3, e_callv3, e_inv3, e_invv3, e_call4, e_callv4, e_inv4, e_invv4, e_call5, e_callv5, e_inv5, e_invv5, e_call6, e_callv6, e_inv6, e_invv6, e_call7, e_callv7, e_inv7, e_invv7, e_call8, e_callv8, e_inv8, e_invv8, e_ret, e_retz, e_retc, e_retb, e_retv, e_skip, e_sco, e_tlen, e_tat, e_iz_eq0, e_iz_eq1, e_iz_ne0, e_iz_ne1, add0, sc_d, sc_t, inI_e, inL_e, up_eq, true_or, or_true, or_false, false_or, and_true, true_and, not_false_eq_true, Int.reduceAdd, Int.reduceSub, Int.reduceMul, Int.reduceNeg, h2, r9, d1, dt_5 dd, dt_l14 dd, ev]
      | with_reducible first | refine izl_lt (fun hc => ?_) (fun hc => ?_) | refine izl_ge (fun hc => ?_) (fun hc => ?_) | refine izl_eq (fun hc => ?_) (fun hc => ?_) | refine ic_ge (fun hc => ?_) (fun hc => ?_) | refine ic_lt (fun hc => ?_) (fun hc => ?_) | refine ic_ne (fun hc => ?_) (fun hc => ?_) | refine ic_eq (fun hc => ?_) (fun hc => ?_) | refine ic_le (fun hc => ?_) (fun hc => ?_) | refine ic_gt (fun hc => ?_) (fun hc => ?_) | refine iz_eq (fun hc => ?_) (fun hc => ?_) | refine iz_ne (fun hc => ?_) (fun hc => ?_) | refine iz_lt (fun hc => ?_) (fun hc => ?_) | refine iz_ge (fun hc => ?_) (fun hc => ?_) | refine iz_gt (fun hc => ?_) (fun hc => ?_) | refine iz_le (fun hc => ?_) (fun hc => ?_) | refine iz_nu (fun hc => ?_) (fun hc => ?_) | refine iz_nn (fun hc => ?_) (fun hc => ?_)
      | omega
      | (exfalso; omega)
    all_goals exact hQ _ _ _ _ _ (by simp (disch := omega) only [r_toll, if_pos, if_neg]) (qX.s (by omega))
  · have hno : ¬ (0 ≤ i ∧ i < C 0 1 0) := fun y => hz (ring_of (x := 0) hs (by omega))
    repeat' first
      | exact absurd hc (by decide)
      | with_reducible refine sX_isGate pB h2 pa hC (fun q1 q2 => ?_) (fun q => ?_)
      | simp (disch := omega) only [ue_X8_tolls, t_X8_tolls, ue_X8_grant, t_X8_grant, ue_X8_refuse, t_X8_refuse, zLg, zRf, zFq, zEl, zNz, zUf, zUe, zUr, zCe, zSn, gd_0, gd_1, gd_2, gd_3, gd_4, gd_5, gd_6, gd_7, gd_8, gd_9, gd_10, gd_11, gd_12, gd_13, gd_14, gd_15, gd_16, gd_17, gd_18, gd_19, se_0, se_1, se_2, se_3, se_4, se_5, se_6, se_7, se_8, se_9, se_10, se_11, se_12, se_13, se_14, se_15, se_16, se_17, se_18, se_19, e_const, e_load, e_store, e_iinc, e_dup, e_dup2, e_pop, e_iadd, e_isub, e_imul, e_ladd, e_lsub, e_lmul, e_iaddw, e_isubw, e_imulw, e_laddw, e_lsubw, e_lmulw, e_iand, e_ior, e_ishl, e_ishr, e_iushr, e_lcmp, e_imax, e_imin, e_idiv, e_irem, e_ldiv, e_lrem, e_i2l, e_i2b, e_l2i, e_i2c, e_getF, e_getR, e_putF, e_putR, e_putz, e_ald, e_aldR, e_ast, e_astb, e_astz, e_asta, e_len, e_acopy, e_new, e_newa, e_mna, e_this, e_room, e_call0, e_callv0, e_call1, e_callv1, e_inv1, e_invv1, e_call2, e_callv2, e_inv2, e_invv2, e_call3, e_callv3, e_inv3, e_invv3, e_call4, e_callv4, e_inv4, e_invv4, e_call5, e_callv5, e_inv5, e_invv5, e_call6, e_callv6, e_inv6, e_invv6, e_call7, e_callv7, e_inv7, e_invv7, e_call8, e_callv8, e_inv8, e_invv8, e_ret, e_retz, e_retc, e_retb, e_retv, e_skip, e_sco, e_tlen, e_tat, e_iz_eq0, e_iz_eq1, e_iz_ne0, e_iz_ne1, add0, sc_d, sc_t, inI_e, inL_e, up_eq, true_or, or_true, or_false, false_or, and_true, true_and, not_false_eq_true, Int.reduceAdd, Int.reduceSub, Int.reduceMul, Int.reduceNeg, h2, r9, d1, cm_2 hC]
      | with_reducible first | refine izl_lt (fun hc => ?_) (fun hc => ?_) | refine izl_ge (fun hc => ?_) (fun hc => ?_) | refine izl_eq (fun hc => ?_) (fun hc => ?_) | refine ic_ge (fun hc => ?_) (fun hc => ?_) | refine ic_lt (fun hc => ?_) (fun hc => ?_) | refine ic_ne (fun hc => ?_) (fun hc => ?_) | refine ic_eq (fun hc => ?_) (fun hc => ?_) | refine ic_le (fun hc => ?_) (fun hc => ?_) | refine ic_gt (fun hc => ?_) (fun hc => ?_) | refine iz_eq (fun hc => ?_) (fun hc => ?_) | refine iz_ne (fun hc => ?_) (fun hc => ?_) | refine iz_lt (fun hc => ?_) (fun hc => ?_) | refine iz_ge (fun hc => ?_) (fun hc => ?_) | refine iz_gt (fun hc => ?_) (fun hc => ?_) | refine iz_le (fun hc => ?_) (fun hc => ?_) | refine iz_nu (fun hc => ?_) (fun hc => ?_) | refine iz_nn (fun hc => ?_) (fun hc => ?_)
      | omega
      | (exfalso; omega)
    all_goals exact hQ _ _ _ _ _ (by simp (disch := omega) only [r_toll, if_pos, if_neg]) (qX.s (by omega))
theorem cX_worked (hT : clT B a L R) (hM : clM B a C tp fd tr fa pl D k M n H HN R F E) (hs : stW C tp fd tr D k M n H HN) (hQ : ∀ (R' F' E' : Int → Int → Int) (v t : Int), (v, t) = r_toll C D 12 i → qX B a t R R' F F' E E' → Q v (L, R', F', E', N)) : T_X8_worked [B, i] (L, R, F, E, N) Q := by
  have pB := cl_p hT
  have ca := cl_a hT
  have pa : 0 ≤ a := by omega
  have h2 := cl_2 hT
  have hC := cx_c hM
  have hW := sw_w hs
  have r9 := cl_9 hT
  have dd := cl_dy hT
  have d0 := cx_d0 hM
  have d1 := cx_d1 hM
  have b1 := cw_1 hW
  have b2 := cw_2 hW
  have b0 := cw_0 hW
  have dw := sw_d hs
  have n72 := dw.1.2.1
  by_cases hz : 0 < C 0 0 0
  · have hX := cx_d hM hz
    obtain ⟨x0, x1, x2, x3, x4, x5⟩ := hX
    have ev : ∀ g : Int, 0 ≤ g → g < 11 → E (B + 240 + 15) g = D 12 g := fun g u v => (x5 g u v).2
    repeat' first
      | exact absurd hc (by decide)
      | with_reducible refine sX_isGate pB h2 pa hC (fun q1 q2 => ?_) (fun q => ?_)
      | simp (disch := omega) only [ue_X8_worked, t_X8_worked, ue_X8_grant, t_X8_grant, ue_X8_refuse, t_X8_refuse, zLg, zRf, zFq, zEl, zNz, zUf, zUe, zUr, zCe, zSn, gd_0, gd_1, gd_2, gd_3, gd_4, gd_5, gd_6, gd_7, gd_8, gd_9, gd_10, gd_11, gd_12, gd_13, gd_14, gd_15, gd_16, gd_17, gd_18, gd_19, se_0, se_1, se_2, se_3, se_4, se_5, se_6, se_7, se_8, se_9, se_10, se_11, se_12, se_13, se_14, se_15, se_16, se_17, se_18, se_19, e_const, e_load, e_store, e_iinc, e_dup, e_dup2, e_pop, e_iadd, e_isub, e_imul, e_ladd, e_lsub, e_lmul, e_iaddw, e_isubw, e_imulw, e_laddw, e_lsubw, e_lmulw, e_iand, e_ior, e_ishl, e_ishr, e_iushr, e_lcmp, e_imax, e_imin, e_idiv, e_irem, e_ldiv, e_lrem, e_i2l, e_i2b, e_l2i, e_i2c, e_getF, e_getR, e_putF, e_putR, e_putz, e_ald, e_aldR, e_ast, e_astb, e_astz, e_asta, e_len, e_acopy, e_new, e_newa, e_mna, e_this, e_room, e_call0, e_callv0, e_call1, e_callv1, e_inv1, e_invv1, e_call2, e_callv2, e_inv2, e_invv2, e_call3, e_callv3, e_inv3, e_invv3, e_call4, e_callv4, e_inv4, e_invv4, e_call5, e_callv5, e_inv5, e_invv5, e_call6, e_callv6, e_inv6, e_invv6, e_call7, e_callv7, e_inv7, e_invv7, e_call8, e_callv8, e_inv8, e_invv8, e_ret, e_retz, e_retc, e_retb, e_retv, e_skip, e_sco, e_tlen, e_tat, e_iz_eq0, e_iz_eq1, e_iz_ne0, e_iz_ne1, add0, sc_d, sc_t, inI_e, inL_e, up_eq, true_or, or_true, or_false, false_or, and_true, true_and, not_false_eq_true, Int.reduceAdd, Int.reduceSub, Int.reduceMul, Int.reduceNeg, h2, r9, d1, dt_6 dd, dt_l15 dd, ev]
      | with_reducible first | refine izl_lt (fun hc => ?_) (fun hc => ?_) | refine izl_ge (fun hc => ?_) (fun hc => ?_) | refine izl_eq (fun hc => ?_) (fun hc => ?_) | refine ic_ge (fun hc => ?_) (fun hc => ?_) | refine ic_lt (fun hc => ?_) (fun hc => ?_) | refine ic_ne (fun hc => ?_) (fun hc => ?_) | refine ic_eq (fun hc => ?_) (fun hc => ?_) | refine ic_le (fun hc => ?_) (fun hc => ?_) | refine ic_gt (fun hc => ?_) (fun hc => ?_) | refine iz_eq (fun hc => ?_) (fun hc => ?_) | refine iz_ne (fun hc => ?_) (fun hc => ?_) | refine iz_lt (fun hc => ?_) (fun hc => ?_) | refine iz_ge (fun hc => ?_) (fun hc => ?_) | refine iz_gt (fun hc => ?_) (fun hc => ?_) | refine iz_le (fun hc => ?_) (fun hc => ?_) | refine iz_nu (fun hc => ?_) (fun hc => ?_) | refine iz_nn (fun hc => ?_) (fun hc => ?_)
      | omega
      | (exfalso; omega)
    all_goals exact hQ _ _ _ _ _ (by simp (disch := omega) only [r_toll, if_pos, if_neg]) (qX.s (by omega))
  · have hno : ¬ (0 ≤ i ∧ i < C 0 1 0) := fun y => hz (ring_of (x := 0) hs (by omega))
    repeat' first
      | exact absurd hc (by decide)
      | with_reducible refine sX_isGate pB h2 pa hC (fun q1 q2 => ?_) (fun q => ?_)
      | simp (disch := omega) only [ue_X8_worked, t_X8_worked, ue_X8_grant, t_X8_grant, ue_X8_refuse, t_X8_refuse, zLg, zRf, zFq, zEl, zNz, zUf, zUe, zUr, zCe, zSn, gd_0, gd_1, gd_2, gd_3, gd_4, gd_5, gd_6, gd_7, gd_8, gd_9, gd_10, gd_11, gd_12, gd_13, gd_14, gd_15, gd_16, gd_17, gd_18, gd_19, se_0, se_1, se_2, se_3, se_4, se_5, se_6, se_7, se_8, se_9, se_10, se_11, se_12, se_13, se_14, se_15, se_16, se_17, se_18, se_19, e_const, e_load, e_store, e_iinc, e_dup, e_dup2, e_pop, e_iadd, e_isub, e_imul, e_ladd, e_lsub, e_lmul, e_iaddw, e_isubw, e_imulw, e_laddw, e_lsubw, e_lmulw, e_iand, e_ior, e_ishl, e_ishr, e_iushr, e_lcmp, e_imax, e_imin, e_idiv, e_irem, e_ldiv, e_lrem, e_i2l, e_i2b, e_l2i, e_i2c, e_getF, e_getR, e_putF, e_putR, e_putz, e_ald, e_aldR, e_ast, e_astb, e_astz, e_asta, e_len, e_acopy, e_new, e_newa, e_mna, e_this, e_room, e_call0, e_callv0, e_call1, e_callv1, e_inv1, e_invv1, e_call2, e_callv2, e_inv2, e_invv2, e_call3, e_callv3, e_inv3, e_invv3, e_call4, e_callv4, e_inv4, e_invv4, e_call5, e_callv5, e_inv5, e_invv5, e_call6, e_callv6, e_inv6, e_invv6, e_call7, e_callv7, e_inv7, e_invv7, e_call8, e_callv8, e_inv8, e_invv8, e_ret, e_retz, e_retc, e_retb, e_retv, e_skip, e_sco, e_tlen, e_tat, e_iz_eq0, e_iz_eq1, e_iz_ne0, e_iz_ne1, add0, sc_d, sc_t, inI_e, inL_e, up_eq, true_or, or_true, or_false, false_or, and_true, true_and, not_false_eq_true, Int.reduceAdd, Int.reduceSub, Int.reduceMul, Int.reduceNeg, h2, r9, d1, cm_2 hC]
      | with_reducible first | refine izl_lt (fun hc => ?_) (fun hc => ?_) | refine izl_ge (fun hc => ?_) (fun hc => ?_) | refine izl_eq (fun hc => ?_) (fun hc => ?_) | refine ic_ge (fun hc => ?_) (fun hc => ?_) | refine ic_lt (fun hc => ?_) (fun hc => ?_) | refine ic_ne (fun hc => ?_) (fun hc => ?_) | refine ic_eq (fun hc => ?_) (fun hc => ?_) | refine ic_le (fun hc => ?_) (fun hc => ?_) | refine ic_gt (fun hc => ?_) (fun hc => ?_) | refine iz_eq (fun hc => ?_) (fun hc => ?_) | refine iz_ne (fun hc => ?_) (fun hc => ?_) | refine iz_lt (fun hc => ?_) (fun hc => ?_) | refine iz_ge (fun hc => ?_) (fun hc => ?_) | refine iz_gt (fun hc => ?_) (fun hc => ?_) | refine iz_le (fun hc => ?_) (fun hc => ?_) | refine iz_nu (fun hc => ?_) (fun hc => ?_) | refine iz_nn (fun hc => ?_) (fun hc => ?_)
      | omega
      | (exfalso; omega)
    all_goals exact hQ _ _ _ _ _ (by simp (disch := omega) only [r_toll, if_pos, if_neg]) (qX.s (by omega))
theorem cX_waited (hT : clT B a L R) (hM : clM B a C tp fd tr fa pl D k M n H HN R F E) (hs : stW C tp fd tr D k M n H HN) (hQ : ∀ (R' F' E' : Int → Int → Int) (v t : Int), (v, t) = r_waited C D → qX B a t R R' F F' E E' → Q v (L, R', F', E', N)) : T_X8_waited [B] (L, R, F, E, N) Q := by
  have pB := cl_p hT
  have ca := cl_a hT
  have pa : 0 ≤ a := by omega
  have h2 := cl_2 hT
  have hC := cx_c hM
  have hW := sw_w hs
  have r9 := cl_9 hT
  have dd := cl_dy hT
  have d0 := cx_d0 hM
  have d1 := cx_d1 hM
  have b1 := cw_1 hW
  have b2 := cw_2 hW
  have b0 := cw_0 hW
  have dw := sw_d hs
  have n72 := dw.1.2.1
  have hh := dw.1.1
  by_cases hz : 0 < C 0 0 0
  · have hX := cx_d hM hz
    have hK := dw.2.1
    repeat' first
      | exact absurd hc (by decide)
      | with_reducible refine sX_isCity pB h2 pa hC (fun q1 => ?_) (fun q => ?_)
      | with_reducible refine sX_allWaits dd hX hK ?_ ?_ ?_ ?_
      | simp (disch := omega) only [ue_X8_waited, t_X8_waited, ue_X8_grant, t_X8_grant, ue_X8_refuse, t_X8_refuse, zLg, zRf, zFq, zEl, zNz, zUf, zUe, zUr, zCe, zSn, gd_0, gd_1, gd_2, gd_3, gd_4, gd_5, gd_6, gd_7, gd_8, gd_9, gd_10, gd_11, gd_12, gd_13, gd_14, gd_15, gd_16, gd_17, gd_18, gd_19, se_0, se_1, se_2, se_3, se_4, se_5, se_6, se_7, se_8, se_9, se_10, se_11, se_12, se_13, se_14, se_15, se_16, se_17, se_18, se_19, e_const, e_load, e_store, e_iinc, e_dup, e_dup2, e_pop, e_iadd, e_isub, e_imul, e_ladd, e_lsub, e_lmul, e_iaddw, e_isubw, e_imulw, e_laddw, e_lsubw, e_lmulw, e_iand, e_ior, e_ishl, e_ishr, e_iushr, e_lcmp, e_imax, e_imin, e_idiv, e_irem, e_ldiv, e_lrem, e_i2l, e_i2b, e_l2i, e_i2c, e_getF, e_getR, e_putF, e_putR, e_putz, e_ald, e_aldR, e_ast, e_astb, e_astz, e_asta, e_len, e_acopy, e_new, e_newa, e_mna, e_this, e_room, e_call0, e_callv0, e_call1, e_callv1, e_inv1, e_invv1, e_call2, e_callv2, e_inv2, e_invv2, e_call3, e_callv3, e_inv3, e_invv3, e_call4, e_callv4, e_inv4, e_invv4, e_call5, e_callv5, e_inv5, e_invv5, e_call6, e_callv6, e_inv6, e_invv6, e_call7, e_callv7, e_inv7, e_invv7, e_call8, e_callv8, e_inv8, e_invv8, e_ret, e_retz, e_retc, e_retb, e_retv, e_skip, e_sco, e_tlen, e_tat, e_iz_eq0, e_iz_eq1, e_iz_ne0, e_iz_ne1, add0, sc_d, sc_t, inI_e, inL_e, up_eq, true_or, or_true, or_false, false_or, and_true, true_and, not_false_eq_true, Int.reduceAdd, Int.reduceSub, Int.reduceMul, Int.reduceNeg, r9]
      | with_reducible first | refine izl_lt (fun hc => ?_) (fun hc => ?_) | refine izl_ge (fun hc => ?_) (fun hc => ?_) | refine izl_eq (fun hc => ?_) (fun hc => ?_) | refine ic_ge (fun hc => ?_) (fun hc => ?_) | refine ic_lt (fun hc => ?_) (fun hc => ?_) | refine ic_ne (fun hc => ?_) (fun hc => ?_) | refine ic_eq (fun hc => ?_) (fun hc => ?_) | refine ic_le (fun hc => ?_) (fun hc => ?_) | refine ic_gt (fun hc => ?_) (fun hc => ?_) | refine iz_eq (fun hc => ?_) (fun hc => ?_) | refine iz_ne (fun hc => ?_) (fun hc => ?_) | refine iz_lt (fun hc => ?_) (fun hc => ?_) | refine iz_ge (fun hc => ?_) (fun hc => ?_) | refine iz_gt (fun hc => ?_) (fun hc => ?_) | refine iz_le (fun hc => ?_) (fun hc => ?_) | refine iz_nu (fun hc => ?_) (fun hc => ?_) | refine iz_nn (fun hc => ?_) (fun hc => ?_)
      | omega
      | (exfalso; omega)
    all_goals exact hQ _ _ _ _ _ (by simp (disch := omega) only [r_waited, if_pos, if_neg]) (qX.s (by omega))
  · repeat' first
      | exact absurd hc (by decide)
      | with_reducible refine sX_isCity pB h2 pa hC (fun q1 => ?_) (fun q => ?_)
      | simp (disch := omega) only [ue_X8_waited, t_X8_waited, ue_X8_grant, t_X8_grant, ue_X8_refuse, t_X8_refuse, zLg, zRf, zFq, zEl, zNz, zUf, zUe, zUr, zCe, zSn, gd_0, gd_1, gd_2, gd_3, gd_4, gd_5, gd_6, gd_7, gd_8, gd_9, gd_10, gd_11, gd_12, gd_13, gd_14, gd_15, gd_16, gd_17, gd_18, gd_19, se_0, se_1, se_2, se_3, se_4, se_5, se_6, se_7, se_8, se_9, se_10, se_11, se_12, se_13, se_14, se_15, se_16, se_17, se_18, se_19, e_const, e_load, e_store, e_iinc, e_dup, e_dup2, e_pop, e_iadd, e_isub, e_imul, e_ladd, e_lsub, e_lmul, e_iaddw, e_isubw, e_imulw, e_laddw, e_lsubw, e_lmulw, e_iand, e_ior, e_ishl, e_ishr, e_iushr, e_lcmp, e_imax, e_imin, e_idiv, e_irem, e_ldiv, e_lrem, e_i2l, e_i2b, e_l2i, e_i2c, e_getF, e_getR, e_putF, e_putR, e_putz, e_ald, e_aldR, e_ast, e_astb, e_astz, e_asta, e_len, e_acopy, e_new, e_newa, e_mna, e_this, e_room, e_call0, e_callv0, e_call1, e_callv1, e_inv1, e_invv1, e_call2, e_callv2, e_inv2, e_invv2, e_call3, e_callv3, e_inv3, e_invv3, e_call4, e_callv4, e_inv4, e_invv4, e_call5, e_callv5, e_inv5, e_invv5, e_call6, e_callv6, e_inv6, e_invv6, e_call7, e_callv7, e_inv7, e_invv7, e_call8, e_callv8, e_inv8, e_invv8, e_ret, e_retz, e_retc, e_retb, e_retv, e_skip, e_sco, e_tlen, e_tat, e_iz_eq0, e_iz_eq1, e_iz_ne0, e_iz_ne1, add0, sc_d, sc_t, inI_e, inL_e, up_eq, true_or, or_true, or_false, false_or, and_true, true_and, not_false_eq_true, Int.reduceAdd, Int.reduceSub, Int.reduceMul, Int.reduceNeg, r9]
      | with_reducible first | refine izl_lt (fun hc => ?_) (fun hc => ?_) | refine izl_ge (fun hc => ?_) (fun hc => ?_) | refine izl_eq (fun hc => ?_) (fun hc => ?_) | refine ic_ge (fun hc => ?_) (fun hc => ?_) | refine ic_lt (fun hc => ?_) (fun hc => ?_) | refine ic_ne (fun hc => ?_) (fun hc => ?_) | refine ic_eq (fun hc => ?_) (fun hc => ?_) | refine ic_le (fun hc => ?_) (fun hc => ?_) | refine ic_gt (fun hc => ?_) (fun hc => ?_) | refine iz_eq (fun hc => ?_) (fun hc => ?_) | refine iz_ne (fun hc => ?_) (fun hc => ?_) | refine iz_lt (fun hc => ?_) (fun hc => ?_) | refine iz_ge (fun hc => ?_) (fun hc => ?_) | refine iz_gt (fun hc => ?_) (fun hc => ?_) | refine iz_le (fun hc => ?_) (fun hc => ?_) | refine iz_nu (fun hc => ?_) (fun hc => ?_) | refine iz_nn (fun hc => ?_) (fun hc => ?_)
      | omega
      | (exfalso; omega)
    all_goals exact hQ _ _ _ _ _ (by simp (disch := omega) only [r_waited, if_pos, if_neg]) (qX.s (by omega))
end PLAIN

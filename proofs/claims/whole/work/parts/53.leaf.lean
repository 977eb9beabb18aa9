/-! ===== the class's leaves: things and cities read ===== -/
theorem sc_t {Q : Prop} : sc True Q = Q := sc_d trivial
theorem lpw {B : xK → xK} (V : Nat → xK) (hs : ∀ n k, (∀ m l st h c s, n = m + 1 → V m l st h c s → k l st h c s) → ∀ l st h c s, V n l st h c s → B k l st h c s) {n : Nat} {l st : List Int} {h : xH} {c s : Nat} (hv : V n l st h c s) : x_loop B l st h c s := by
  have key : ∀ n l st h c s, V n l st h c s → x_it B (n + 1) l st h c s := by
    intro n
    induction n with
    | zero => exact fun l st h c s hv => hs 0 _ (fun m l st h c s e => by cases e) l st h c s hv
    | succ n ih => exact fun l st h c s hv => hs (n + 1) (x_it B (n + 1)) (fun m l st h c s e hm => by cases e; exact ih l st h c s hm) l st h c s hv
  exact ⟨n + 1, key n l st h c s hv⟩
theorem lu {B : xK → xK} (j : Nat) {l st : List Int} {h : xH} {c s : Nat} (hv : x_it B j l st h c s) : x_loop B l st h c s := ⟨j, hv⟩
theorem e_it1 {B : xK → xK} {l st : List Int} {h : xH} {c s : Nat} : x_it B 1 l st h c s = B (x_it B 0) l st h c s := rfl
theorem e_it2 {B : xK → xK} {l st : List Int} {h : xH} {c s : Nat} : x_it B 2 l st h c s = B (x_it B 1) l st h c s := rfl
theorem e_it3 {B : xK → xK} {l st : List Int} {h : xH} {c s : Nat} : x_it B 3 l st h c s = B (x_it B 2) l st h c s := rfl
theorem e_it4 {B : xK → xK} {l st : List Int} {h : xH} {c s : Nat} : x_it B 4 l st h c s = B (x_it B 3) l st h c s := rfl
theorem e_it5 {B : xK → xK} {l st : List Int} {h : xH} {c s : Nat} : x_it B 5 l st h c s = B (x_it B 4) l st h c s := rfl
theorem tdivB {x d : Int} (h0 : 0 ≤ x) (h1 : x ≤ 99) (d1 : 1 ≤ d) (d9 : d ≤ 9) : 0 ≤ Int.tdiv (x + d - 1) d ∧ Int.tdiv (x + d - 1) d ≤ 99 ∧ Int.tdiv (x + d - 1) d * d ≤ x + d - 1 ∧ x ≤ Int.tdiv (x + d - 1) d * d := by
  rw [Int.tdiv_eq_ediv_of_nonneg (by omega)]
  have : d = 1 ∨ d = 2 ∨ d = 3 ∨ d = 4 ∨ d = 5 ∨ d = 6 ∨ d = 7 ∨ d = 8 ∨ d = 9 := by omega
  rcases this with rfl | rfl | rfl | rfl | rfl | rfl | rfl | rfl | rfl <;> omega
theorem upw_eq {x d : Int} (h : 1 ≤ d) : upw x d = Int.tdiv (x + d - 1) d := by
  unfold upw
  split
  · have : d = 1 := by omega
    subst this
    rw [Int.tdiv_one]
    omega
  · rfl
theorem hrsB {C : Cy} {th : Int → Int} (hW : ctW C) (hth : thW th) {g : Int} (h0 : 0 ≤ g) (h1 : g < C 0 1 0) : 0 ≤ hrsP C th g ∧ hrsP C th g ≤ 99 ∧ hrsP C th g * C 2 g 4 ≤ 107 ∧ 0 ≤ hrsP C th g * C 2 g 4 := by
  have a := tw_3 hth
  have b := cw_g4 hW g h0 h1
  obtain ⟨p1, p2, p3, p4⟩ := tdivB a.1 a.2 b.1 b.2
  exact ⟨p1, p2, by unfold hrsP; omega, by unfold hrsP; omega⟩
section LEAF
variable {L : Int → Int} {R F E : Int → Int → Int} {N : Nat} {Q : xQ} {a t g p r : Int} {C : Cy} {th : Int → Int}
theorem sX_upwards {x d : Int} (hx : 0 ≤ x) (hx2 : x ≤ 1000000) (hd : d ≤ 1000000) {s : xH} (hQ : Q (upw x d) s) : T_X8_upwards [x, d] s Q := by
  repeat' first
    | exact absurd hc (by decide)
    | simp (disch := omega) only [ub_X8_upwards_16, ue_X8_upwards, t_X8_upwards, zLg, zRf, zFq, zEl, zNz, zUf, zUe, zUr, zCe, zSn, gd_0, gd_1, gd_2, gd_3, gd_4, gd_5, gd_6, gd_7, gd_8, gd_9, gd_10, gd_11, gd_12, gd_13, gd_14, gd_15, gd_16, gd_17, gd_18, gd_19, se_0, se_1, se_2, se_3, se_4, se_5, se_6, se_7, se_8, se_9, se_10, se_11, se_12, se_13, se_14, se_15, se_16, se_17, se_18, se_19, e_const, e_load, e_store, e_iinc, e_dup, e_dup2, e_pop, e_iadd, e_isub, e_imul, e_ladd, e_lsub, e_lmul, e_iaddw, e_isubw, e_imulw, e_laddw, e_lsubw, e_lmulw, e_iand, e_ior, e_ishl, e_ishr, e_iushr, e_lcmp, e_imax, e_imin, e_idiv, e_irem, e_ldiv, e_lrem, e_i2l, e_i2b, e_l2i, e_i2c, e_getF, e_getR, e_putF, e_putR, e_putz, e_ald, e_aldR, e_ast, e_astb, e_astz, e_asta, e_len, e_acopy, e_new, e_newa, e_mna, e_this, e_room, e_call0, e_callv0, e_call1, e_callv1, e_inv1, e_invv1, e_call2, e_callv2, e_inv2, e_invv2, e_call3, e_callv3, e_inv3, e_invv3, e_call4, e_callv4, e_inv4, e_invv4, e_call5, e_callv5, e_inv5, e_invv5, e_call6, e_callv6, e_inv6, e_invv6, e_call7, e_callv7, e_inv7, e_invv7, e_call8, e_callv8, e_inv8, e_invv8, e_ret, e_retz, e_retc, e_retb, e_retv, e_skip, e_sco, e_tlen, e_tat, e_iz_eq0, e_iz_eq1, e_iz_ne0, e_iz_ne1, add0, sc_d, sc_t, inI_e, inL_e, up_eq, true_or, or_true, or_false, false_or, and_true, true_and, not_false_eq_true, Int.reduceAdd, Int.reduceSub, Int.reduceMul, Int.reduceNeg]
    | with_reducible first | refine ic_ge (fun hc => ?_) (fun hc => ?_) | refine ic_lt (fun hc => ?_) (fun hc => ?_) | refine ic_ne (fun hc => ?_) (fun hc => ?_) | refine ic_eq (fun hc => ?_) (fun hc => ?_) | refine ic_le (fun hc => ?_) (fun hc => ?_) | refine ic_gt (fun hc => ?_) (fun hc => ?_) | refine iz_eq (fun hc => ?_) (fun hc => ?_) | refine iz_ne (fun hc => ?_) (fun hc => ?_) | refine iz_lt (fun hc => ?_) (fun hc => ?_) | refine iz_ge (fun hc => ?_) (fun hc => ?_) | refine iz_gt (fun hc => ?_) (fun hc => ?_) | refine iz_le (fun hc => ?_) (fun hc => ?_) | refine iz_nu (fun hc => ?_) (fun hc => ?_) | refine iz_nn (fun hc => ?_) (fun hc => ?_)
  all_goals
    refine cast (congrArg (fun v => Q v s) ?_) hQ
    unfold upw
    split <;> first | rfl | omega
theorem sX_canLie (hTt : thT t L R) (hm : thM t th F E) (hth : thW th) (h1 : lie th p → Q 1 (L, R, F, E, N)) (h0 : ¬ lie th p → Q 0 (L, R, F, E, N)) : T_X6_canLie [t, p] (L, R, F, E, N) Q := by
  have q0 := tt_p hTt
  have q5 := tw_5 hth
  have q6 := tw_6 hth
  repeat' first
    | exact absurd hc (by decide)
    | simp (disch := omega) only [ub_X6_canLie_33, ub_X6_canLie_28, ub_X6_canLie_32, ub_X6_canLie_16, ue_X6_canLie, t_X6_canLie, zLg, zRf, zFq, zEl, zNz, zUf, zUe, zUr, zCe, zSn, gd_0, gd_1, gd_2, gd_3, gd_4, gd_5, gd_6, gd_7, gd_8, gd_9, gd_10, gd_11, gd_12, gd_13, gd_14, gd_15, gd_16, gd_17, gd_18, gd_19, se_0, se_1, se_2, se_3, se_4, se_5, se_6, se_7, se_8, se_9, se_10, se_11, se_12, se_13, se_14, se_15, se_16, se_17, se_18, se_19, e_const, e_load, e_store, e_iinc, e_dup, e_dup2, e_pop, e_iadd, e_isub, e_imul, e_ladd, e_lsub, e_lmul, e_iaddw, e_isubw, e_imulw, e_laddw, e_lsubw, e_lmulw, e_iand, e_ior, e_ishl, e_ishr, e_iushr, e_lcmp, e_imax, e_imin, e_idiv, e_irem, e_ldiv, e_lrem, e_i2l, e_i2b, e_l2i, e_i2c, e_getF, e_getR, e_putF, e_putR, e_putz, e_ald, e_aldR, e_ast, e_astb, e_astz, e_asta, e_len, e_acopy, e_new, e_newa, e_mna, e_this, e_room, e_call0, e_callv0, e_call1, e_callv1, e_inv1, e_invv1, e_call2, e_callv2, e_inv2, e_invv2, e_call3, e_callv3, e_inv3, e_invv3, e_call4, e_callv4, e_inv4, e_invv4, e_call5, e_callv5, e_inv5, e_invv5, e_call6, e_callv6, e_inv6, e_invv6, e_call7, e_callv7, e_inv7, e_invv7, e_call8, e_callv8, e_inv8, e_invv8, e_ret, e_retz, e_retc, e_retb, e_retv, e_skip, e_sco, e_tlen, e_tat, e_iz_eq0, e_iz_eq1, e_iz_ne0, e_iz_ne1, add0, sc_d, sc_t, inI_e, inL_e, up_eq, true_or, or_true, or_false, false_or, and_true, true_and, not_false_eq_true, Int.reduceAdd, Int.reduceSub, Int.reduceMul, Int.reduceNeg, tm_l hm, tm_w hm, tm_h hm, tm_3 hm, tm_4 hm, tm_5 hm, tm_6 hm]
    | with_reducible first | refine ic_ge (fun hc => ?_) (fun hc => ?_) | refine ic_lt (fun hc => ?_) (fun hc => ?_) | refine ic_ne (fun hc => ?_) (fun hc => ?_) | refine ic_eq (fun hc => ?_) (fun hc => ?_) | refine ic_le (fun hc => ?_) (fun hc => ?_) | refine ic_gt (fun hc => ?_) (fun hc => ?_) | refine iz_eq (fun hc => ?_) (fun hc => ?_) | refine iz_ne (fun hc => ?_) (fun hc => ?_) | refine iz_lt (fun hc => ?_) (fun hc => ?_) | refine iz_ge (fun hc => ?_) (fun hc => ?_) | refine iz_gt (fun hc => ?_) (fun hc => ?_) | refine iz_le (fun hc => ?_) (fun hc => ?_) | refine iz_nu (fun hc => ?_) (fun hc => ?_) | refine iz_nn (fun hc => ?_) (fun hc => ?_)
  all_goals first
    | exact h1 (by unfold lie; omega)
    | exact h0 (by unfold lie; omega)
def narP (th : Int → Int) : Int := if th 5 = 1 ∧ th 2 < th 1 then th 2 else th 1
theorem narP_le {th : Int → Int} {x : Int} (h5 : th 5 = 0 ∨ th 5 = 1) : narP th ≤ x ↔ (th 1 ≤ x ∨ (th 5 = 1 ∧ th 2 ≤ x)) := by
  unfold narP
  split <;> omega
theorem sX_narrowest (hTt : thT t L R) (hm : thM t th F E) (hth : thW th) (hQ : Q (narP th) (L, R, F, E, N)) : T_X6_narrowest [t] (L, R, F, E, N) Q := by
  have q0 := tt_p hTt
  have q5 := tw_5 hth
  repeat' first
    | exact absurd hc (by decide)
    | simp (disch := omega) only [ub_X6_narrowest_37, ub_X6_narrowest_31, ue_X6_narrowest, t_X6_narrowest, zLg, zRf, zFq, zEl, zNz, zUf, zUe, zUr, zCe, zSn, gd_0, gd_1, gd_2, gd_3, gd_4, gd_5, gd_6, gd_7, gd_8, gd_9, gd_10, gd_11, gd_12, gd_13, gd_14, gd_15, gd_16, gd_17, gd_18, gd_19, se_0, se_1, se_2, se_3, se_4, se_5, se_6, se_7, se_8, se_9, se_10, se_11, se_12, se_13, se_14, se_15, se_16, se_17, se_18, se_19, e_const, e_load, e_store, e_iinc, e_dup, e_dup2, e_pop, e_iadd, e_isub, e_imul, e_ladd, e_lsub, e_lmul, e_iaddw, e_isubw, e_imulw, e_laddw, e_lsubw, e_lmulw, e_iand, e_ior, e_ishl, e_ishr, e_iushr, e_lcmp, e_imax, e_imin, e_idiv, e_irem, e_ldiv, e_lrem, e_i2l, e_i2b, e_l2i, e_i2c, e_getF, e_getR, e_putF, e_putR, e_putz, e_ald, e_aldR, e_ast, e_astb, e_astz, e_asta, e_len, e_acopy, e_new, e_newa, e_mna, e_this, e_room, e_call0, e_callv0, e_call1, e_callv1, e_inv1, e_invv1, e_call2, e_callv2, e_inv2, e_invv2, e_call3, e_callv3, e_inv3, e_invv3, e_call4, e_callv4, e_inv4, e_invv4, e_call5, e_callv5, e_inv5, e_invv5, e_call6, e_callv6, e_inv6, e_invv6, e_call7, e_callv7, e_inv7, e_invv7, e_call8, e_callv8, e_inv8, e_invv8, e_ret, e_retz, e_retc, e_retb, e_retv, e_skip, e_sco, e_tlen, e_tat, e_iz_eq0, e_iz_eq1, e_iz_ne0, e_iz_ne1, add0, sc_d, sc_t, inI_e, inL_e, up_eq, true_or, or_true, or_false, false_or, and_true, true_and, not_false_eq_true, Int.reduceAdd, Int.reduceSub, Int.reduceMul, Int.reduceNeg, tt_0 hTt, tt_1 hTt, tt_2 hTt, tt_l1 hTt, tt_l2 hTt, tt_l3 hTt, tm_w0 hm, tm_w1 hm, tm_5 hm]
    | with_reducible first | refine ic_ge (fun hc => ?_) (fun hc => ?_) | refine ic_lt (fun hc => ?_) (fun hc => ?_) | refine ic_ne (fun hc => ?_) (fun hc => ?_) | refine ic_eq (fun hc => ?_) (fun hc => ?_) | refine ic_le (fun hc => ?_) (fun hc => ?_) | refine ic_gt (fun hc => ?_) (fun hc => ?_) | refine iz_eq (fun hc => ?_) (fun hc => ?_) | refine iz_ne (fun hc => ?_) (fun hc => ?_) | refine iz_lt (fun hc => ?_) (fun hc => ?_) | refine iz_ge (fun hc => ?_) (fun hc => ?_) | refine iz_gt (fun hc => ?_) (fun hc => ?_) | refine iz_le (fun hc => ?_) (fun hc => ?_) | refine iz_nu (fun hc => ?_) (fun hc => ?_) | refine iz_nn (fun hc => ?_) (fun hc => ?_)
  all_goals
    refine cast (congrArg (fun v => Q v (L, R, F, E, N)) ?_) hQ
    unfold narP
    split <;> omega
theorem sX_meets (hT : ctT a L R) (hM : ctM a C F E) (hW : ctW C) (hTt : thT t L R) (hm : thM t th F E) (hth : thW th) (hg0 : 0 ≤ g) (hg1 : g < C 0 1 0) (hp0 : 0 ≤ p) (hp3 : p < 3) (hQ : Q (meetsP C th g p) (L, R, F, E, N)) : T_X1_meets [a, t, p, g] (L, R, F, E, N) Q := by
  have b0 := cw_0 hW
  have b1 := cw_1 hW
  have g0 := cw_g0 hW g hg0 hg1
  have g2 := cw_g2 hW g hg0 hg1
  have g3 := cw_g3 hW g hg0 hg1
  have w0 := cw_w hW (C 2 g 0) (by omega) (by omega)
  have w1 := cw_w hW (C 2 g 0 + 1) (by omega) (by omega)
  have q1 := tw_pl hth p
  have q2 := tw_pw hth p
  have pa := ct_p hT
  have pt := tt_p hTt
  repeat' first
    | exact absurd hc (by decide)
    | simp (disch := omega) only [ub_X1_meets_127, ue_X1_meets, t_X1_meets, zLg, zRf, zFq, zEl, zNz, zUf, zUe, zUr, zCe, zSn, gd_0, gd_1, gd_2, gd_3, gd_4, gd_5, gd_6, gd_7, gd_8, gd_9, gd_10, gd_11, gd_12, gd_13, gd_14, gd_15, gd_16, gd_17, gd_18, gd_19, se_0, se_1, se_2, se_3, se_4, se_5, se_6, se_7, se_8, se_9, se_10, se_11, se_12, se_13, se_14, se_15, se_16, se_17, se_18, se_19, e_const, e_load, e_store, e_iinc, e_dup, e_dup2, e_pop, e_iadd, e_isub, e_imul, e_ladd, e_lsub, e_lmul, e_iaddw, e_isubw, e_imulw, e_laddw, e_lsubw, e_lmulw, e_iand, e_ior, e_ishl, e_ishr, e_iushr, e_lcmp, e_imax, e_imin, e_idiv, e_irem, e_ldiv, e_lrem, e_i2l, e_i2b, e_l2i, e_i2c, e_getF, e_getR, e_putF, e_putR, e_putz, e_ald, e_aldR, e_ast, e_astb, e_astz, e_asta, e_len, e_acopy, e_new, e_newa, e_mna, e_this, e_room, e_call0, e_callv0, e_call1, e_callv1, e_inv1, e_invv1, e_call2, e_callv2, e_inv2, e_invv2, e_call3, e_callv3, e_inv3, e_invv3, e_call4, e_callv4, e_inv4, e_invv4, e_call5, e_callv5, e_inv5, e_invv5, e_call6, e_callv6, e_inv6, e_invv6, e_call7, e_callv7, e_inv7, e_invv7, e_call8, e_callv8, e_inv8, e_invv8, e_ret, e_retz, e_retc, e_retb, e_retv, e_skip, e_sco, e_tlen, e_tat, e_iz_eq0, e_iz_eq1, e_iz_ne0, e_iz_ne1, add0, sc_d, sc_t, inI_e, inL_e, up_eq, true_or, or_true, or_false, false_or, and_true, true_and, not_false_eq_true, Int.reduceAdd, Int.reduceSub, Int.reduceMul, Int.reduceNeg, ct_5 hT, ct_6 hT, ct_7 hT, ct_8 hT, ct_9 hT, ct_10 hT, ct_11 hT, ct_l1 hT, ct_l2 hT, ct_l14 hT, ct_l23 hT, ct_l30 hT, ct_l39 hT, ct_l40 hT, ct_gr hT, ct_gl hT, ct_cr hT, ct_cl hT, ct_sr hT, ct_sl hT, ct_or hT, ct_ol hT, ct_wr hT, ct_pr hT, cm_0 hM, cm_1 hM, cm_2 hM, cm_3 hM, cm_4 hM, cm_w hM, cm_g hM, cm_c hM, cm_s hM, cm_o hM, tt_0 hTt, tt_1 hTt, tt_2 hTt, tt_l1 hTt, tt_l2 hTt, tt_l3 hTt, tm_l hm, tm_w hm, tm_h hm, tm_3 hm, tm_4 hm, tm_5 hm, tm_6 hm]
    | with_reducible first | refine ic_ge (fun hc => ?_) (fun hc => ?_) | refine ic_lt (fun hc => ?_) (fun hc => ?_) | refine ic_ne (fun hc => ?_) (fun hc => ?_) | refine ic_eq (fun hc => ?_) (fun hc => ?_) | refine ic_le (fun hc => ?_) (fun hc => ?_) | refine ic_gt (fun hc => ?_) (fun hc => ?_) | refine iz_eq (fun hc => ?_) (fun hc => ?_) | refine iz_ne (fun hc => ?_) (fun hc => ?_) | refine iz_lt (fun hc => ?_) (fun hc => ?_) | refine iz_ge (fun hc => ?_) (fun hc => ?_) | refine iz_gt (fun hc => ?_) (fun hc => ?_) | refine iz_le (fun hc => ?_) (fun hc => ?_) | refine iz_nu (fun hc => ?_) (fun hc => ?_) | refine iz_nn (fun hc => ?_) (fun hc => ?_)
  all_goals
    refine cast (congrArg (fun v => Q v (L, R, F, E, N)) ?_) hQ
    unfold meetsP
    (repeat' split) <;> omega
theorem sX_barOf (hT : ctT a L R) (hM : ctM a C F E) (hW : ctW C) (hTt : thT t L R) (hm : thM t th F E) (hth : thW th) (hg0 : 0 ≤ g) (hg1 : g < C 0 1 0) (hQ : Q (barsP C th g) (L, R, F, E, N)) : T_X1_barOf [a, t, g] (L, R, F, E, N) Q := by
  have pa := ct_p hT
  have pt := tt_p hTt
  have q5 := tw_5 hth
  have q6 := tw_6 hth
  have m0 := meetsP_b C th g 0
  have m1 := meetsP_b C th g 1
  have m2 := meetsP_b C th g 2
  repeat' first
    | exact absurd hc (by decide)
    | refine sX_meets hT hM hW hTt hm hth hg0 hg1 (by omega) (by omega) ?_
    | refine sX_canLie hTt hm hth (fun hl => ?_) (fun hl => ?_)
    | (unfold L_X1_barOf_11; refine lu 3 ?_)
    | simp (disch := omega) only [ub_X1_barOf_39, ue_X1_barOf, t_X1_barOf, zLg, zRf, zFq, zEl, zNz, zUf, zUe, zUr, zCe, zSn, gd_0, gd_1, gd_2, gd_3, gd_4, gd_5, gd_6, gd_7, gd_8, gd_9, gd_10, gd_11, gd_12, gd_13, gd_14, gd_15, gd_16, gd_17, gd_18, gd_19, se_0, se_1, se_2, se_3, se_4, se_5, se_6, se_7, se_8, se_9, se_10, se_11, se_12, se_13, se_14, se_15, se_16, se_17, se_18, se_19, e_const, e_load, e_store, e_iinc, e_dup, e_dup2, e_pop, e_iadd, e_isub, e_imul, e_ladd, e_lsub, e_lmul, e_iaddw, e_isubw, e_imulw, e_laddw, e_lsubw, e_lmulw, e_iand, e_ior, e_ishl, e_ishr, e_iushr, e_lcmp, e_imax, e_imin, e_idiv, e_irem, e_ldiv, e_lrem, e_i2l, e_i2b, e_l2i, e_i2c, e_getF, e_getR, e_putF, e_putR, e_putz, e_ald, e_aldR, e_ast, e_astb, e_astz, e_asta, e_len, e_acopy, e_new, e_newa, e_mna, e_this, e_room, e_call0, e_callv0, e_call1, e_callv1, e_inv1, e_invv1, e_call2, e_callv2, e_inv2, e_invv2, e_call3, e_callv3, e_inv3, e_invv3, e_call4, e_callv4, e_inv4, e_invv4, e_call5, e_callv5, e_inv5, e_invv5, e_call6, e_callv6, e_inv6, e_invv6, e_call7, e_callv7, e_inv7, e_invv7, e_call8, e_callv8, e_inv8, e_invv8, e_ret, e_retz, e_retc, e_retb, e_retv, e_skip, e_sco, e_tlen, e_tat, e_iz_eq0, e_iz_eq1, e_iz_ne0, e_iz_ne1, add0, sc_d, sc_t, inI_e, inL_e, up_eq, true_or, or_true, or_false, false_or, and_true, true_and, not_false_eq_true, Int.reduceAdd, Int.reduceSub, Int.reduceMul, Int.reduceNeg, e_it1, e_it2, e_it3]
    | with_reducible first | refine ic_ge (fun hc => ?_) (fun hc => ?_) | refine ic_lt (fun hc => ?_) (fun hc => ?_) | refine ic_ne (fun hc => ?_) (fun hc => ?_) | refine ic_eq (fun hc => ?_) (fun hc => ?_) | refine ic_le (fun hc => ?_) (fun hc => ?_) | refine ic_gt (fun hc => ?_) (fun hc => ?_) | refine iz_eq (fun hc => ?_) (fun hc => ?_) | refine iz_ne (fun hc => ?_) (fun hc => ?_) | refine iz_lt (fun hc => ?_) (fun hc => ?_) | refine iz_ge (fun hc => ?_) (fun hc => ?_) | refine iz_gt (fun hc => ?_) (fun hc => ?_) | refine iz_le (fun hc => ?_) (fun hc => ?_) | refine iz_nu (fun hc => ?_) (fun hc => ?_) | refine iz_nn (fun hc => ?_) (fun hc => ?_)
  all_goals first
    | (exfalso; omega)
    | (refine cast (congrArg (fun v => Q v (L, R, F, E, N)) ?_) hQ
       unfold barsP
       by_cases e6 : th 6 = 1 <;> by_cases e5 : th 5 = 1 <;> simp only [e5, e6, ↓reduceIte] <;> omega)
theorem sX_letsThrough (hT : ctT a L R) (hM : ctM a C F E) (hW : ctW C) (hTt : thT t L R) (hm : thM t th F E) (hth : thW th) (hg0 : 0 ≤ g) (hg1 : g < C 0 1 0) (h1 : openP C th g → Q 1 (L, R, F, E, N)) (h0 : ¬ openP C th g → Q 0 (L, R, F, E, N)) : T_X1_letsThrough [a, t, g] (L, R, F, E, N) Q := by
  have pa := ct_p hT
  have b1 := cw_1 hW
  repeat' first
    | exact absurd hc (by decide)
    | refine sX_barOf hT hM hW hTt hm hth hg0 hg1 ?_
    | simp (disch := omega) only [ub_X1_letsThrough_26, ub_X1_letsThrough_25, ue_X1_letsThrough, t_X1_letsThrough, zLg, zRf, zFq, zEl, zNz, zUf, zUe, zUr, zCe, zSn, gd_0, gd_1, gd_2, gd_3, gd_4, gd_5, gd_6, gd_7, gd_8, gd_9, gd_10, gd_11, gd_12, gd_13, gd_14, gd_15, gd_16, gd_17, gd_18, gd_19, se_0, se_1, se_2, se_3, se_4, se_5, se_6, se_7, se_8, se_9, se_10, se_11, se_12, se_13, se_14, se_15, se_16, se_17, se_18, se_19, e_const, e_load, e_store, e_iinc, e_dup, e_dup2, e_pop, e_iadd, e_isub, e_imul, e_ladd, e_lsub, e_lmul, e_iaddw, e_isubw, e_imulw, e_laddw, e_lsubw, e_lmulw, e_iand, e_ior, e_ishl, e_ishr, e_iushr, e_lcmp, e_imax, e_imin, e_idiv, e_irem, e_ldiv, e_lrem, e_i2l, e_i2b, e_l2i, e_i2c, e_getF, e_getR, e_putF, e_putR, e_putz, e_ald, e_aldR, e_ast, e_astb, e_astz, e_asta, e_len, e_acopy, e_new, e_newa, e_mna, e_this, e_room, e_call0, e_callv0, e_call1, e_callv1, e_inv1, e_invv1, e_call2, e_callv2, e_inv2, e_invv2, e_call3, e_callv3, e_inv3, e_invv3, e_call4, e_callv4, e_inv4, e_invv4, e_call5, e_callv5, e_inv5, e_invv5, e_call6, e_callv6, e_inv6, e_invv6, e_call7, e_callv7, e_inv7, e_invv7, e_call8, e_callv8, e_inv8, e_invv8, e_ret, e_retz, e_retc, e_retb, e_retv, e_skip, e_sco, e_tlen, e_tat, e_iz_eq0, e_iz_eq1, e_iz_ne0, e_iz_ne1, add0, sc_d, sc_t, inI_e, inL_e, up_eq, true_or, or_true, or_false, false_or, and_true, true_and, not_false_eq_true, Int.reduceAdd, Int.reduceSub, Int.reduceMul, Int.reduceNeg, ct_5 hT, ct_6 hT, ct_7 hT, ct_8 hT, ct_9 hT, ct_10 hT, ct_11 hT, ct_l1 hT, ct_l2 hT, ct_l14 hT, ct_l23 hT, ct_l30 hT, ct_l39 hT, ct_l40 hT, ct_gr hT, ct_gl hT, ct_cr hT, ct_cl hT, ct_sr hT, ct_sl hT, ct_or hT, ct_ol hT, ct_wr hT, ct_pr hT, cm_0 hM, cm_1 hM, cm_2 hM, cm_3 hM, cm_4 hM, cm_w hM, cm_g hM, cm_c hM, cm_s hM, cm_o hM]
    | with_reducible first | refine ic_ge (fun hc => ?_) (fun hc => ?_) | refine ic_lt (fun hc => ?_) (fun hc => ?_) | refine ic_ne (fun hc => ?_) (fun hc => ?_) | refine ic_eq (fun hc => ?_) (fun hc => ?_) | refine ic_le (fun hc => ?_) (fun hc => ?_) | refine ic_gt (fun hc => ?_) (fun hc => ?_) | refine iz_eq (fun hc => ?_) (fun hc => ?_) | refine iz_ne (fun hc => ?_) (fun hc => ?_) | refine iz_lt (fun hc => ?_) (fun hc => ?_) | refine iz_ge (fun hc => ?_) (fun hc => ?_) | refine iz_gt (fun hc => ?_) (fun hc => ?_) | refine iz_le (fun hc => ?_) (fun hc => ?_) | refine iz_nu (fun hc => ?_) (fun hc => ?_) | refine iz_nn (fun hc => ?_) (fun hc => ?_)
  all_goals first
    | exact h1 ⟨by omega, by omega⟩
    | exact h0 (fun z => by have z1 := z.1; have z2 := z.2; omega)
theorem sX_loadingHours (hT : ctT a L R) (hM : ctM a C F E) (hW : ctW C) (hTt : thT t L R) (hm : thM t th F E) (hth : thW th) (hg0 : 0 ≤ g) (hg1 : g < C 0 1 0) (hQ : Q (hrsP C th g) (L, R, F, E, N)) : T_X1_loadingHours [a, t, g] (L, R, F, E, N) Q := by
  have pa := ct_p hT
  have pt := tt_p hTt
  have b1 := cw_1 hW
  have g4 := cw_g4 hW g hg0 hg1
  have q3 := tw_3 hth
  repeat' first
    | exact absurd hc (by decide)
    | refine sX_upwards (by omega) (by omega) (by omega) ?_
    | simp (disch := omega) only [ue_X1_loadingHours, t_X1_loadingHours, zLg, zRf, zFq, zEl, zNz, zUf, zUe, zUr, zCe, zSn, gd_0, gd_1, gd_2, gd_3, gd_4, gd_5, gd_6, gd_7, gd_8, gd_9, gd_10, gd_11, gd_12, gd_13, gd_14, gd_15, gd_16, gd_17, gd_18, gd_19, se_0, se_1, se_2, se_3, se_4, se_5, se_6, se_7, se_8, se_9, se_10, se_11, se_12, se_13, se_14, se_15, se_16, se_17, se_18, se_19, e_const, e_load, e_store, e_iinc, e_dup, e_dup2, e_pop, e_iadd, e_isub, e_imul, e_ladd, e_lsub, e_lmul, e_iaddw, e_isubw, e_imulw, e_laddw, e_lsubw, e_lmulw, e_iand, e_ior, e_ishl, e_ishr, e_iushr, e_lcmp, e_imax, e_imin, e_idiv, e_irem, e_ldiv, e_lrem, e_i2l, e_i2b, e_l2i, e_i2c, e_getF, e_getR, e_putF, e_putR, e_putz, e_ald, e_aldR, e_ast, e_astb, e_astz, e_asta, e_len, e_acopy, e_new, e_newa, e_mna, e_this, e_room, e_call0, e_callv0, e_call1, e_callv1, e_inv1, e_invv1, e_call2, e_callv2, e_inv2, e_invv2, e_call3, e_callv3, e_inv3, e_invv3, e_call4, e_callv4, e_inv4, e_invv4, e_call5, e_callv5, e_inv5, e_invv5, e_call6, e_callv6, e_inv6, e_invv6, e_call7, e_callv7, e_inv7, e_invv7, e_call8, e_callv8, e_inv8, e_invv8, e_ret, e_retz, e_retc, e_retb, e_retv, e_skip, e_sco, e_tlen, e_tat, e_iz_eq0, e_iz_eq1, e_iz_ne0, e_iz_ne1, add0, sc_d, sc_t, inI_e, inL_e, up_eq, true_or, or_true, or_false, false_or, and_true, true_and, not_false_eq_true, Int.reduceAdd, Int.reduceSub, Int.reduceMul, Int.reduceNeg, ct_5 hT, ct_6 hT, ct_7 hT, ct_8 hT, ct_9 hT, ct_10 hT, ct_11 hT, ct_l1 hT, ct_l2 hT, ct_l14 hT, ct_l23 hT, ct_l30 hT, ct_l39 hT, ct_l40 hT, ct_gr hT, ct_gl hT, ct_cr hT, ct_cl hT, ct_sr hT, ct_sl hT, ct_or hT, ct_ol hT, ct_wr hT, ct_pr hT, cm_0 hM, cm_1 hM, cm_2 hM, cm_3 hM, cm_4 hM, cm_w hM, cm_g hM, cm_c hM, cm_s hM, cm_o hM, tm_3 hm]
  rw [upw_eq (by omega)]
  exact hQ
theorem sX_loadingPay (hT : ctT a L R) (hM : ctM a C F E) (hW : ctW C) (hTt : thT t L R) (hm : thM t th F E) (hth : thW th) (hg0 : 0 ≤ g) (hg1 : g < C 0 1 0) (hQ : Q (payP C th g) (L, R, F, E, N)) : T_X1_loadingPay [a, t, g] (L, R, F, E, N) Q := by
  have pa := ct_p hT
  have pt := tt_p hTt
  have b1 := cw_1 hW
  have g4 := cw_g4 hW g hg0 hg1
  have g5 := cw_g5 hW g hg0 hg1
  have hb := hrsB hW hth hg0 hg1
  repeat' first
    | exact absurd hc (by decide)
    | refine sX_loadingHours hT hM hW hTt hm hth hg0 hg1 ?_
    | simp (disch := omega) only [ue_X1_loadingPay, t_X1_loadingPay, zLg, zRf, zFq, zEl, zNz, zUf, zUe, zUr, zCe, zSn, gd_0, gd_1, gd_2, gd_3, gd_4, gd_5, gd_6, gd_7, gd_8, gd_9, gd_10, gd_11, gd_12, gd_13, gd_14, gd_15, gd_16, gd_17, gd_18, gd_19, se_0, se_1, se_2, se_3, se_4, se_5, se_6, se_7, se_8, se_9, se_10, se_11, se_12, se_13, se_14, se_15, se_16, se_17, se_18, se_19, e_const, e_load, e_store, e_iinc, e_dup, e_dup2, e_pop, e_iadd, e_isub, e_imul, e_ladd, e_lsub, e_lmul, e_iaddw, e_isubw, e_imulw, e_laddw, e_lsubw, e_lmulw, e_iand, e_ior, e_ishl, e_ishr, e_iushr, e_lcmp, e_imax, e_imin, e_idiv, e_irem, e_ldiv, e_lrem, e_i2l, e_i2b, e_l2i, e_i2c, e_getF, e_getR, e_putF, e_putR, e_putz, e_ald, e_aldR, e_ast, e_astb, e_astz, e_asta, e_len, e_acopy, e_new, e_newa, e_mna, e_this, e_room, e_call0, e_callv0, e_call1, e_callv1, e_inv1, e_invv1, e_call2, e_callv2, e_inv2, e_invv2, e_call3, e_callv3, e_inv3, e_invv3, e_call4, e_callv4, e_inv4, e_invv4, e_call5, e_callv5, e_inv5, e_invv5, e_call6, e_callv6, e_inv6, e_invv6, e_call7, e_callv7, e_inv7, e_invv7, e_call8, e_callv8, e_inv8, e_invv8, e_ret, e_retz, e_retc, e_retb, e_retv, e_skip, e_sco, e_tlen, e_tat, e_iz_eq0, e_iz_eq1, e_iz_ne0, e_iz_ne1, add0, sc_d, sc_t, inI_e, inL_e, up_eq, true_or, or_true, or_false, false_or, and_true, true_and, not_false_eq_true, Int.reduceAdd, Int.reduceSub, Int.reduceMul, Int.reduceNeg, ct_5 hT, ct_6 hT, ct_7 hT, ct_8 hT, ct_9 hT, ct_10 hT, ct_11 hT, ct_l1 hT, ct_l2 hT, ct_l14 hT, ct_l23 hT, ct_l30 hT, ct_l39 hT, ct_l40 hT, ct_gr hT, ct_gl hT, ct_cr hT, ct_cl hT, ct_sr hT, ct_sl hT, ct_or hT, ct_ol hT, ct_wr hT, ct_pr hT, cm_0 hM, cm_1 hM, cm_2 hM, cm_3 hM, cm_4 hM, cm_w hM, cm_g hM, cm_c hM, cm_s hM, cm_o hM]
  exact hQ
theorem sX_cartBears (hT : ctT a L R) (hM : ctM a C F E) (hW : ctW C) (hTt : thT t L R) (hm : thM t th F E) {c : Int} (hc0 : 0 ≤ c) (hc1 : c < C 0 2 0) (h1 : C 3 c 0 = r → th 3 ≤ C 3 c 1 → Q 1 (L, R, F, E, N)) (h0 : ¬ (C 3 c 0 = r ∧ th 3 ≤ C 3 c 1) → Q 0 (L, R, F, E, N)) : T_X1_cartBears [a, t, c, r] (L, R, F, E, N) Q := by
  have pa := ct_p hT
  have pt := tt_p hTt
  have b2 := cw_2 hW
  repeat' first
    | exact absurd hc (by decide)
    | simp (disch := omega) only [ub_X1_cartBears_32, ub_X1_cartBears_31, ue_X1_cartBears, t_X1_cartBears, zLg, zRf, zFq, zEl, zNz, zUf, zUe, zUr, zCe, zSn, gd_0, gd_1, gd_2, gd_3, gd_4, gd_5, gd_6, gd_7, gd_8, gd_9, gd_10, gd_11, gd_12, gd_13, gd_14, gd_15, gd_16, gd_17, gd_18, gd_19, se_0, se_1, se_2, se_3, se_4, se_5, se_6, se_7, se_8, se_9, se_10, se_11, se_12, se_13, se_14, se_15, se_16, se_17, se_18, se_19, e_const, e_load, e_store, e_iinc, e_dup, e_dup2, e_pop, e_iadd, e_isub, e_imul, e_ladd, e_lsub, e_lmul, e_iaddw, e_isubw, e_imulw, e_laddw, e_lsubw, e_lmulw, e_iand, e_ior, e_ishl, e_ishr, e_iushr, e_lcmp, e_imax, e_imin, e_idiv, e_irem, e_ldiv, e_lrem, e_i2l, e_i2b, e_l2i, e_i2c, e_getF, e_getR, e_putF, e_putR, e_putz, e_ald, e_aldR, e_ast, e_astb, e_astz, e_asta, e_len, e_acopy, e_new, e_newa, e_mna, e_this, e_room, e_call0, e_callv0, e_call1, e_callv1, e_inv1, e_invv1, e_call2, e_callv2, e_inv2, e_invv2, e_call3, e_callv3, e_inv3, e_invv3, e_call4, e_callv4, e_inv4, e_invv4, e_call5, e_callv5, e_inv5, e_invv5, e_call6, e_callv6, e_inv6, e_invv6, e_call7, e_callv7, e_inv7, e_invv7, e_call8, e_callv8, e_inv8, e_invv8, e_ret, e_retz, e_retc, e_retb, e_retv, e_skip, e_sco, e_tlen, e_tat, e_iz_eq0, e_iz_eq1, e_iz_ne0, e_iz_ne1, add0, sc_d, sc_t, inI_e, inL_e, up_eq, true_or, or_true, or_false, false_or, and_true, true_and, not_false_eq_true, Int.reduceAdd, Int.reduceSub, Int.reduceMul, Int.reduceNeg, ct_5 hT, ct_6 hT, ct_7 hT, ct_8 hT, ct_9 hT, ct_10 hT, ct_11 hT, ct_l1 hT, ct_l2 hT, ct_l14 hT, ct_l23 hT, ct_l30 hT, ct_l39 hT, ct_l40 hT, ct_gr hT, ct_gl hT, ct_cr hT, ct_cl hT, ct_sr hT, ct_sl hT, ct_or hT, ct_ol hT, ct_wr hT, ct_pr hT, cm_0 hM, cm_1 hM, cm_2 hM, cm_3 hM, cm_4 hM, cm_w hM, cm_g hM, cm_c hM, cm_s hM, cm_o hM, tm_3 hm]
    | with_reducible first | refine ic_ge (fun hc => ?_) (fun hc => ?_) | refine ic_lt (fun hc => ?_) (fun hc => ?_) | refine ic_ne (fun hc => ?_) (fun hc => ?_) | refine ic_eq (fun hc => ?_) (fun hc => ?_) | refine ic_le (fun hc => ?_) (fun hc => ?_) | refine ic_gt (fun hc => ?_) (fun hc => ?_) | refine iz_eq (fun hc => ?_) (fun hc => ?_) | refine iz_ne (fun hc => ?_) (fun hc => ?_) | refine iz_lt (fun hc => ?_) (fun hc => ?_) | refine iz_ge (fun hc => ?_) (fun hc => ?_) | refine iz_gt (fun hc => ?_) (fun hc => ?_) | refine iz_le (fun hc => ?_) (fun hc => ?_) | refine iz_nu (fun hc => ?_) (fun hc => ?_) | refine iz_nn (fun hc => ?_) (fun hc => ?_)
  all_goals first
    | exact h1 (by omega) (by omega)
    | exact h0 (by omega)
theorem sX_ringBears (hT : ctT a L R) (hM : ctM a C F E) (hW : ctW C) (hTt : thT t L R) (hm : thM t th F E) (hth : thW th) (hr0 : 0 ≤ r) (hr1 : r < C 0 0 0) (h1 : bornP C th r → Q 1 (L, R, F, E, N)) (h0 : ¬ bornP C th r → Q 0 (L, R, F, E, N)) : T_X1_ringBears [a, t, r] (L, R, F, E, N) Q := by
  have pa := ct_p hT
  have pt := tt_p hTt
  have b0 := cw_0 hW
  have b2 := cw_2 hW
  have nl := @narP_le th (C 1 r 0) (tw_5 hth)
  repeat' first
    | exact absurd hc (by decide)
    | refine sX_narrowest hTt hm hth ?_
    | simp (disch := omega) only [ue_X1_ringBears, t_X1_ringBears, zLg, zRf, zFq, zEl, zNz, zUf, zUe, zUr, zCe, zSn, gd_0, gd_1, gd_2, gd_3, gd_4, gd_5, gd_6, gd_7, gd_8, gd_9, gd_10, gd_11, gd_12, gd_13, gd_14, gd_15, gd_16, gd_17, gd_18, gd_19, se_0, se_1, se_2, se_3, se_4, se_5, se_6, se_7, se_8, se_9, se_10, se_11, se_12, se_13, se_14, se_15, se_16, se_17, se_18, se_19, e_const, e_load, e_store, e_iinc, e_dup, e_dup2, e_pop, e_iadd, e_isub, e_imul, e_ladd, e_lsub, e_lmul, e_iaddw, e_isubw, e_imulw, e_laddw, e_lsubw, e_lmulw, e_iand, e_ior, e_ishl, e_ishr, e_iushr, e_lcmp, e_imax, e_imin, e_idiv, e_irem, e_ldiv, e_lrem, e_i2l, e_i2b, e_l2i, e_i2c, e_getF, e_getR, e_putF, e_putR, e_putz, e_ald, e_aldR, e_ast, e_astb, e_astz, e_asta, e_len, e_acopy, e_new, e_newa, e_mna, e_this, e_room, e_call0, e_callv0, e_call1, e_callv1, e_inv1, e_invv1, e_call2, e_callv2, e_inv2, e_invv2, e_call3, e_callv3, e_inv3, e_invv3, e_call4, e_callv4, e_inv4, e_invv4, e_call5, e_callv5, e_inv5, e_invv5, e_call6, e_callv6, e_inv6, e_invv6, e_call7, e_callv7, e_inv7, e_invv7, e_call8, e_callv8, e_inv8, e_invv8, e_ret, e_retz, e_retc, e_retb, e_retv, e_skip, e_sco, e_tlen, e_tat, e_iz_eq0, e_iz_eq1, e_iz_ne0, e_iz_ne1, add0, sc_d, sc_t, inI_e, inL_e, up_eq, true_or, or_true, or_false, false_or, and_true, true_and, not_false_eq_true, Int.reduceAdd, Int.reduceSub, Int.reduceMul, Int.reduceNeg, ct_5 hT, ct_6 hT, ct_7 hT, ct_8 hT, ct_9 hT, ct_10 hT, ct_11 hT, ct_l1 hT, ct_l2 hT, ct_l14 hT, ct_l23 hT, ct_l30 hT, ct_l39 hT, ct_l40 hT, ct_gr hT, ct_gl hT, ct_cr hT, ct_cl hT, ct_sr hT, ct_sl hT, ct_or hT, ct_ol hT, ct_wr hT, ct_pr hT, cm_0 hM, cm_1 hM, cm_2 hM, cm_3 hM, cm_4 hM, cm_w hM, cm_g hM, cm_c hM, cm_s hM, cm_o hM]
    | with_reducible first | refine ic_ge (fun hc => ?_) (fun hc => ?_) | refine ic_lt (fun hc => ?_) (fun hc => ?_) | refine ic_ne (fun hc => ?_) (fun hc => ?_) | refine ic_eq (fun hc => ?_) (fun hc => ?_) | refine ic_le (fun hc => ?_) (fun hc => ?_) | refine ic_gt (fun hc => ?_) (fun hc => ?_) | refine iz_eq (fun hc => ?_) (fun hc => ?_) | refine iz_ne (fun hc => ?_) (fun hc => ?_) | refine iz_lt (fun hc => ?_) (fun hc => ?_) | refine iz_ge (fun hc => ?_) (fun hc => ?_) | refine iz_gt (fun hc => ?_) (fun hc => ?_) | refine iz_le (fun hc => ?_) (fun hc => ?_) | refine iz_nu (fun hc => ?_) (fun hc => ?_) | refine iz_nn (fun hc => ?_) (fun hc => ?_)
  · unfold L_X1_ringBears_17
    refine lpw (fun n l st h c s => ∃ i : Int, l = [a, t, r, i] ∧ st = [] ∧ h = (L, R, F, E, N) ∧ 0 ≤ i ∧ (n : Int) = C 0 2 0 - i ∧ ∀ c : Int, 0 ≤ c → c < i → ¬ (C 3 c 0 = r ∧ th 3 ≤ C 3 c 1)) ?_ (n := (C 0 2 0).toNat) ⟨0, rfl, rfl, rfl, by omega, by omega, fun c _ _ => by omega⟩
    rintro n k hk l st h c s ⟨i, rfl, rfl, rfl, hi, hn, hinv⟩
    repeat' first
      | exact absurd hc (by decide)
      | refine sX_cartBears hT hM hW hTt hm (by omega) (by omega) (fun e1 e2 => ?_) (fun e => ?_)
      | simp (disch := omega) only [ue_X1_ringBears, t_X1_ringBears, zLg, zRf, zFq, zEl, zNz, zUf, zUe, zUr, zCe, zSn, gd_0, gd_1, gd_2, gd_3, gd_4, gd_5, gd_6, gd_7, gd_8, gd_9, gd_10, gd_11, gd_12, gd_13, gd_14, gd_15, gd_16, gd_17, gd_18, gd_19, se_0, se_1, se_2, se_3, se_4, se_5, se_6, se_7, se_8, se_9, se_10, se_11, se_12, se_13, se_14, se_15, se_16, se_17, se_18, se_19, e_const, e_load, e_store, e_iinc, e_dup, e_dup2, e_pop, e_iadd, e_isub, e_imul, e_ladd, e_lsub, e_lmul, e_iaddw, e_isubw, e_imulw, e_laddw, e_lsubw, e_lmulw, e_iand, e_ior, e_ishl, e_ishr, e_iushr, e_lcmp, e_imax, e_imin, e_idiv, e_irem, e_ldiv, e_lrem, e_i2l, e_i2b, e_l2i, e_i2c, e_getF, e_getR, e_putF, e_putR, e_putz, e_ald, e_aldR, e_ast, e_astb, e_astz, e_asta, e_len, e_acopy, e_new, e_newa, e_mna, e_this, e_room, e_call0, e_callv0, e_call1, e_callv1, e_inv1, e_invv1, e_call2, e_callv2, e_inv2, e_invv2, e_call3, e_callv3, e_inv3, e_invv3, e_call4, e_callv4, e_inv4, e_invv4, e_call5, e_callv5, e_inv5, e_invv5, e_call6, e_callv6, e_inv6, e_invv6, e_call7, e_callv7, e_inv7, e_invv7, e_call8, e_callv8, e_inv8, e_invv8, e_ret, e_retz, e_retc, e_retb, e_retv, e_skip, e_sco, e_tlen, e_tat, e_iz_eq0, e_iz_eq1, e_iz_ne0, e_iz_ne1, add0, sc_d, sc_t, inI_e, inL_e, up_eq, true_or, or_true, or_false, false_or, and_true, true_and, not_false_eq_true, Int.reduceAdd, Int.reduceSub, Int.reduceMul, Int.reduceNeg, ct_5 hT, ct_6 hT, ct_7 hT, ct_8 hT, ct_9 hT, ct_10 hT, ct_11 hT, ct_l1 hT, ct_l2 hT, ct_l14 hT, ct_l23 hT, ct_l30 hT, ct_l39 hT, ct_l40 hT, ct_gr hT, ct_gl hT, ct_cr hT, ct_cl hT, ct_sr hT, ct_sl hT, ct_or hT, ct_ol hT, ct_wr hT, ct_pr hT, cm_0 hM, cm_1 hM, cm_2 hM, cm_3 hM, cm_4 hM, cm_w hM, cm_g hM, cm_c hM, cm_s hM, cm_o hM]
      | with_reducible first | refine ic_ge (fun hc => ?_) (fun hc => ?_) | refine ic_lt (fun hc => ?_) (fun hc => ?_) | refine ic_ne (fun hc => ?_) (fun hc => ?_) | refine ic_eq (fun hc => ?_) (fun hc => ?_) | refine ic_le (fun hc => ?_) (fun hc => ?_) | refine ic_gt (fun hc => ?_) (fun hc => ?_) | refine iz_eq (fun hc => ?_) (fun hc => ?_) | refine iz_ne (fun hc => ?_) (fun hc => ?_) | refine iz_lt (fun hc => ?_) (fun hc => ?_) | refine iz_ge (fun hc => ?_) (fun hc => ?_) | refine iz_gt (fun hc => ?_) (fun hc => ?_) | refine iz_le (fun hc => ?_) (fun hc => ?_) | refine iz_nu (fun hc => ?_) (fun hc => ?_) | refine iz_nn (fun hc => ?_) (fun hc => ?_)
    · refine h0 fun z => ?_
      obtain ⟨-, c, z1, z2, z3, z4⟩ := z
      exact hinv c z1 (by omega) ⟨z3, z4⟩
    · exact h1 ⟨nl.mp (by omega), i, hi, by omega, e1, e2⟩
    · refine hk (n - 1) _ _ _ _ _ (by omega) ⟨i + 1, rfl, rfl, rfl, by omega, by omega, fun c z1 z2 => ?_⟩
      by_cases z : c = i
      · subst z; exact e
      · exact hinv c z1 (by omega)
  · exact h0 fun z => absurd (nl.mpr z.1) (by omega)
end LEAF

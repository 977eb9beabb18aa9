/-! ===== the reference's ways ===== -/
theorem lc_lt (x y : Int) : lCmp x y < 0 ↔ x < y := by
  unfold lCmp
  (repeat' split) <;> omega
theorem lc_eq (x y : Int) : lCmp x y = 0 ↔ x = y := by
  unfold lCmp
  (repeat' split) <;> omega
theorem izl_lt {kt kf : xK} {l r : List Int} {h : xH} {c n : Nat} {x y : Int} (h1 : x < y → kt l r h c n) (h2 : y ≤ x → kf l r h c n) : x_iz (fun x => x < 0) kt kf l (lCmp x y :: r) h c n := ⟨fun z => h1 ((lc_lt x y).mp z), fun z => h2 (by have := mt (lc_lt x y).mpr z; omega)⟩
theorem izl_ge {kt kf : xK} {l r : List Int} {h : xH} {c n : Nat} {x y : Int} (h1 : y ≤ x → kt l r h c n) (h2 : x < y → kf l r h c n) : x_iz (fun x => 0 ≤ x) kt kf l (lCmp x y :: r) h c n := ⟨fun z => h1 (by have := mt (lc_lt x y).mpr (by omega : ¬ lCmp x y < 0); omega), fun z => h2 ((lc_lt x y).mp (by omega))⟩
theorem izl_eq {kt kf : xK} {l r : List Int} {h : xH} {c n : Nat} {x y : Int} (h1 : x = y → kt l r h c n) (h2 : x ≠ y → kf l r h c n) : x_iz (fun x => x = 0) kt kf l (lCmp x y :: r) h c n := ⟨fun z => h1 ((lc_eq x y).mp z), fun z => h2 (fun w => z ((lc_eq x y).mpr w))⟩
theorem scD.fr {m : Int} {th : Int → Int} {F F' : Int → Int → Int} (h : scD m th F) (h1 : ∀ j : Int, 18 ≤ j → j < 24 → F' m j = F m j) : scD m th F' := ⟨(h1 _ (by omega) (by omega)).trans (sD_0 h), (h1 _ (by omega) (by omega)).trans (sD_1 h), (h1 _ (by omega) (by omega)).trans (sD_2 h), (h1 _ (by omega) (by omega)).trans (sD_p h)⟩
theorem scM.fr {m : Int} {th : Int → Int} {F F' : Int → Int → Int} (h : scM m th F) (h1 : ∀ j : Int, 18 ≤ j → j < 24 → F' m j = F m j) : scM m th F' := ⟨(sm_d h).fr h1, (h1 _ (by omega) (by omega)).trans (sm_3 h), (h1 _ (by omega) (by omega)).trans (sm_4 h)⟩
section GOES
variable {L : Int → Int} {R F E : Int → Int → Int} {N : Nat} {Q : xQ} {m c g p r : Int} {C : Cy} {th : Int → Int}
theorem sM_canCut (hT : mtT m L R) (hTc : mcT c L R) (hRc : R m 3 = c) (hM : mM m c C F E) (hW : ctW C) {k : Int} (hk0 : 0 ≤ k) (hk1 : k < C 0 3 0) (h1 : 0 < pn C k → Q 1 (L, R, F, E, N)) (h0 : pn C k = 0 → Q 0 (L, R, F, E, N)) : T_X10_canCut [m, k] (L, R, F, E, N) Q := by
  have pm := mt_p hT
  have pc := mc_p hTc
  have b3 := cw_3 hW
  have k4 := cw_k4 hW k hk0 hk1
  have k6 := cw_k6 hW k hk0 hk1
  have e : pn C k = if C 6 k 6 = 1 then 0 else C 6 k 4 := rfl
  repeat' first
    | exact absurd hc (by decide)
    | simp (disch := omega) only [ub_X10_canCut_29, ub_X10_canCut_28, ue_X10_canCut, t_X10_canCut, zLg, zRf, zFq, zEl, zNz, zUf, zUe, zUr, zCe, zSn, gd_0, gd_1, gd_2, gd_3, gd_4, gd_5, gd_6, gd_7, gd_8, gd_9, gd_10, gd_11, gd_12, gd_13, gd_14, gd_15, gd_16, gd_17, gd_18, gd_19, se_0, se_1, se_2, se_3, se_4, se_5, se_6, se_7, se_8, se_9, se_10, se_11, se_12, se_13, se_14, se_15, se_16, se_17, se_18, se_19, e_const, e_load, e_store, e_iinc, e_dup, e_dup2, e_pop, e_iadd, e_isub, e_imul, e_ladd, e_lsub, e_lmul, e_iaddw, e_isubw, e_imulw, e_laddw, e_lsubw, e_lmulw, e_iand, e_ior, e_ishl, e_ishr, e_iushr, e_lcmp, e_imax, e_imin, e_idiv, e_irem, e_ldiv, e_lrem, e_i2l, e_i2b, e_l2i, e_i2c, e_getF, e_getR, e_putF, e_putR, e_putz, e_ald, e_aldR, e_ast, e_astb, e_astz, e_asta, e_len, e_acopy, e_new, e_newa, e_mna, e_this, e_room, e_call0, e_callv0, e_call1, e_callv1, e_inv1, e_invv1, e_call2, e_callv2, e_inv2, e_invv2, e_call3, e_callv3, e_inv3, e_invv3, e_call4, e_callv4, e_inv4, e_invv4, e_call5, e_callv5, e_inv5, e_invv5, e_call6, e_callv6, e_inv6, e_invv6, e_call7, e_callv7, e_inv7, e_invv7, e_call8, e_callv8, e_inv8, e_invv8, e_ret, e_retz, e_retc, e_retb, e_retv, e_skip, e_sco, e_tlen, e_tat, e_iz_eq0, e_iz_eq1, e_iz_ne0, e_iz_ne1, add0, sc_d, sc_t, inI_e, inL_e, up_eq, true_or, or_true, or_false, false_or, and_true, true_and, not_false_eq_true, Int.reduceAdd, Int.reduceSub, Int.reduceMul, Int.reduceNeg, hRc, mc_19 hTc, mc_11 hTc, mc_l14 hTc, mc_l6 hTc, mm_k4 hM, mm_k6 hM]
    | with_reducible first | refine izl_lt (fun hc => ?_) (fun hc => ?_) | refine izl_ge (fun hc => ?_) (fun hc => ?_) | refine izl_eq (fun hc => ?_) (fun hc => ?_) | refine ic_ge (fun hc => ?_) (fun hc => ?_) | refine ic_lt (fun hc => ?_) (fun hc => ?_) | refine ic_ne (fun hc => ?_) (fun hc => ?_) | refine ic_eq (fun hc => ?_) (fun hc => ?_) | refine ic_le (fun hc => ?_) (fun hc => ?_) | refine ic_gt (fun hc => ?_) (fun hc => ?_) | refine iz_eq (fun hc => ?_) (fun hc => ?_) | refine iz_ne (fun hc => ?_) (fun hc => ?_) | refine iz_lt (fun hc => ?_) (fun hc => ?_) | refine iz_ge (fun hc => ?_) (fun hc => ?_) | refine iz_gt (fun hc => ?_) (fun hc => ?_) | refine iz_le (fun hc => ?_) (fun hc => ?_) | refine iz_nu (fun hc => ?_) (fun hc => ?_) | refine iz_nn (fun hc => ?_) (fun hc => ?_)
    | omega
    | (exfalso; omega)
  · refine h0 ?_
    rw [e]; split <;> omega
  · refine h0 ?_
    rw [e, if_pos (by omega)]
  · refine h1 ?_
    rw [e, if_neg (by omega)]; omega
theorem sM_takes (hT : mtT m L R) (hTc : mcT c L R) (hRc : R m 3 = c) (hM : mM m c C F E) (hW : ctW C) (hmc : m + 16 < c) {k cut : Int} (hk0 : 0 ≤ k) (hk1 : k < C 0 3 0) (hth : (cut = 0 ∧ th = wh C k) ∨ (cut = 1 ∧ 0 < pn C k ∧ th = pt C k)) (hQ : ∀ F' : Int → Int → Int, (∀ b j : Int, (b ≠ m ∨ j < 18 ∨ 24 ≤ j) → F' b j = F b j) → scM m th F' → Q 0 (L, R, F', E, N)) : T_X10_takes [m, k, cut] (L, R, F, E, N) Q := by
  have pm := mt_p hT
  have pc := mc_p hTc
  have b3 := cw_3 hW
  have k0 := cw_k hW k 0 hk0 hk1 (by omega) (by omega)
  have k1 := cw_k hW k 1 hk0 hk1 (by omega) (by omega)
  have k2 := cw_k hW k 2 hk0 hk1 (by omega) (by omega)
  have k3 := cw_k hW k 3 hk0 hk1 (by omega) (by omega)
  have k4 := cw_k4 hW k hk0 hk1
  have k5 := cw_k5 hW k hk0 hk1
  have k6 := cw_k6 hW k hk0 hk1
  have key : ∀ (ld x : Int), 1 ≤ ld → ld ≤ 9 → th 0 = upw (C 6 k 0) ld → th 1 = C 6 k 1 → th 2 = C 6 k 2 → th 3 = upw (C 6 k 3) ld → th 4 = ld → th 5 = 1 - C 6 k 6 → th 6 = C 6 k 5 → B_X10_takes_18 Q [m, k, x] [ld, m] (L, R, F, E, N) 0 0 := by
    intro ld x l1 l2 t0 t1 t2 t3 t4 t5 t6
    have o1 : bOr (bOr 1 0) 0 = 1 := by decide
    have o2 : bOr (bOr 1 0) 4 = 5 := by decide
    have o3 : bOr (bOr 1 2) 0 = 3 := by decide
    have o4 : bOr (bOr 1 2) 4 = 7 := by decide
    repeat' first
      | exact absurd hc (by decide)
      | with_reducible refine sM_upwards ?_ ?_ ?_ ?_ ?_
      | simp (disch := omega) only [ub_X10_takes_124, ub_X10_takes_106, ub_X10_takes_18, ue_X10_takes, t_X10_takes, zLg, zRf, zFq, zEl, zNz, zUf, zUe, zUr, zCe, zSn, gd_0, gd_1, gd_2, gd_3, gd_4, gd_5, gd_6, gd_7, gd_8, gd_9, gd_10, gd_11, gd_12, gd_13, gd_14, gd_15, gd_16, gd_17, gd_18, gd_19, se_0, se_1, se_2, se_3, se_4, se_5, se_6, se_7, se_8, se_9, se_10, se_11, se_12, se_13, se_14, se_15, se_16, se_17, se_18, se_19, e_const, e_load, e_store, e_iinc, e_dup, e_dup2, e_pop, e_iadd, e_isub, e_imul, e_ladd, e_lsub, e_lmul, e_iaddw, e_isubw, e_imulw, e_laddw, e_lsubw, e_lmulw, e_iand, e_ior, e_ishl, e_ishr, e_iushr, e_lcmp, e_imax, e_imin, e_idiv, e_irem, e_ldiv, e_lrem, e_i2l, e_i2b, e_l2i, e_i2c, e_getF, e_getR, e_putF, e_putR, e_putz, e_ald, e_aldR, e_ast, e_astb, e_astz, e_asta, e_len, e_acopy, e_new, e_newa, e_mna, e_this, e_room, e_call0, e_callv0, e_call1, e_callv1, e_inv1, e_invv1, e_call2, e_callv2, e_inv2, e_invv2, e_call3, e_callv3, e_inv3, e_invv3, e_call4, e_callv4, e_inv4, e_invv4, e_call5, e_callv5, e_inv5, e_invv5, e_call6, e_callv6, e_inv6, e_invv6, e_call7, e_callv7, e_inv7, e_invv7, e_call8, e_callv8, e_inv8, e_invv8, e_ret, e_retz, e_retc, e_retb, e_retv, e_skip, e_sco, e_tlen, e_tat, e_iz_eq0, e_iz_eq1, e_iz_ne0, e_iz_ne1, add0, sc_d, sc_t, inI_e, inL_e, up_eq, true_or, or_true, or_false, false_or, and_true, true_and, not_false_eq_true, Int.reduceAdd, Int.reduceSub, Int.reduceMul, Int.reduceNeg, up_ne, hRc, mc_10 hTc, mc_11 hTc, mc_15 hTc, mc_16 hTc, mc_17 hTc, mc_18 hTc, mc_l5 hTc, mc_l6 hTc, mc_l10 hTc, mc_l11 hTc, mc_l12 hTc, mc_l13 hTc, mm_k0 hM, mm_k1 hM, mm_k2 hM, mm_k3 hM, mm_k5 hM, mm_k6 hM, o1, o2, o3, o4]
      | with_reducible first | refine izl_lt (fun hc => ?_) (fun hc => ?_) | refine izl_ge (fun hc => ?_) (fun hc => ?_) | refine izl_eq (fun hc => ?_) (fun hc => ?_) | refine ic_ge (fun hc => ?_) (fun hc => ?_) | refine ic_lt (fun hc => ?_) (fun hc => ?_) | refine ic_ne (fun hc => ?_) (fun hc => ?_) | refine ic_eq (fun hc => ?_) (fun hc => ?_) | refine ic_le (fun hc => ?_) (fun hc => ?_) | refine ic_gt (fun hc => ?_) (fun hc => ?_) | refine iz_eq (fun hc => ?_) (fun hc => ?_) | refine iz_ne (fun hc => ?_) (fun hc => ?_) | refine iz_lt (fun hc => ?_) (fun hc => ?_) | refine iz_ge (fun hc => ?_) (fun hc => ?_) | refine iz_gt (fun hc => ?_) (fun hc => ?_) | refine iz_le (fun hc => ?_) (fun hc => ?_) | refine iz_nu (fun hc => ?_) (fun hc => ?_) | refine iz_nn (fun hc => ?_) (fun hc => ?_)
      | omega
      | (exfalso; omega)
    all_goals
      refine hQ _ (fun b j z => ?_) ⟨⟨?_, ?_, ?_, ?_⟩, ?_, ?_⟩
      · simp (disch := omega) only [up_ne]
      all_goals simp (disch := omega) only [up_ne, up_eq, t0, t1, t2, t3, t4]
      all_goals omega
  rcases hth with ⟨rfl, rfl⟩ | ⟨rfl, hp, rfl⟩
  · repeat' first
      | exact absurd hc (by decide)
      | simp (disch := omega) only [t_X10_takes, ue_X10_takes, zLg, zRf, zFq, zEl, zNz, zUf, zUe, zUr, zCe, zSn, gd_0, gd_1, gd_2, gd_3, gd_4, gd_5, gd_6, gd_7, gd_8, gd_9, gd_10, gd_11, gd_12, gd_13, gd_14, gd_15, gd_16, gd_17, gd_18, gd_19, se_0, se_1, se_2, se_3, se_4, se_5, se_6, se_7, se_8, se_9, se_10, se_11, se_12, se_13, se_14, se_15, se_16, se_17, se_18, se_19, e_const, e_load, e_store, e_iinc, e_dup, e_dup2, e_pop, e_iadd, e_isub, e_imul, e_ladd, e_lsub, e_lmul, e_iaddw, e_isubw, e_imulw, e_laddw, e_lsubw, e_lmulw, e_iand, e_ior, e_ishl, e_ishr, e_iushr, e_lcmp, e_imax, e_imin, e_idiv, e_irem, e_ldiv, e_lrem, e_i2l, e_i2b, e_l2i, e_i2c, e_getF, e_getR, e_putF, e_putR, e_putz, e_ald, e_aldR, e_ast, e_astb, e_astz, e_asta, e_len, e_acopy, e_new, e_newa, e_mna, e_this, e_room, e_call0, e_callv0, e_call1, e_callv1, e_inv1, e_invv1, e_call2, e_callv2, e_inv2, e_invv2, e_call3, e_callv3, e_inv3, e_invv3, e_call4, e_callv4, e_inv4, e_invv4, e_call5, e_callv5, e_inv5, e_invv5, e_call6, e_callv6, e_inv6, e_invv6, e_call7, e_callv7, e_inv7, e_invv7, e_call8, e_callv8, e_inv8, e_invv8, e_ret, e_retz, e_retc, e_retb, e_retv, e_skip, e_sco, e_tlen, e_tat, e_iz_eq0, e_iz_eq1, e_iz_ne0, e_iz_ne1, add0, sc_d, sc_t, inI_e, inL_e, up_eq, true_or, or_true, or_false, false_or, and_true, true_and, not_false_eq_true, Int.reduceAdd, Int.reduceSub, Int.reduceMul, Int.reduceNeg]
      | with_reducible first | refine izl_lt (fun hc => ?_) (fun hc => ?_) | refine izl_ge (fun hc => ?_) (fun hc => ?_) | refine izl_eq (fun hc => ?_) (fun hc => ?_) | refine ic_ge (fun hc => ?_) (fun hc => ?_) | refine ic_lt (fun hc => ?_) (fun hc => ?_) | refine ic_ne (fun hc => ?_) (fun hc => ?_) | refine ic_eq (fun hc => ?_) (fun hc => ?_) | refine ic_le (fun hc => ?_) (fun hc => ?_) | refine ic_gt (fun hc => ?_) (fun hc => ?_) | refine iz_eq (fun hc => ?_) (fun hc => ?_) | refine iz_ne (fun hc => ?_) (fun hc => ?_) | refine iz_lt (fun hc => ?_) (fun hc => ?_) | refine iz_ge (fun hc => ?_) (fun hc => ?_) | refine iz_gt (fun hc => ?_) (fun hc => ?_) | refine iz_le (fun hc => ?_) (fun hc => ?_) | refine iz_nu (fun hc => ?_) (fun hc => ?_) | refine iz_nn (fun hc => ?_) (fun hc => ?_)
      | omega
      | (exfalso; omega)
    exact key 1 0 (by omega) (by omega) rfl rfl rfl rfl rfl rfl rfl
  · have e : pn C k = if C 6 k 6 = 1 then 0 else C 6 k 4 := rfl
    have e2 : pn C k = C 6 k 4 := by
      rw [e]; split
      · next z => rw [if_pos z] at e; omega
      · rfl
    repeat' first
      | exact absurd hc (by decide)
      | simp (disch := omega) only [t_X10_takes, ue_X10_takes, zLg, zRf, zFq, zEl, zNz, zUf, zUe, zUr, zCe, zSn, gd_0, gd_1, gd_2, gd_3, gd_4, gd_5, gd_6, gd_7, gd_8, gd_9, gd_10, gd_11, gd_12, gd_13, gd_14, gd_15, gd_16, gd_17, gd_18, gd_19, se_0, se_1, se_2, se_3, se_4, se_5, se_6, se_7, se_8, se_9, se_10, se_11, se_12, se_13, se_14, se_15, se_16, se_17, se_18, se_19, e_const, e_load, e_store, e_iinc, e_dup, e_dup2, e_pop, e_iadd, e_isub, e_imul, e_ladd, e_lsub, e_lmul, e_iaddw, e_isubw, e_imulw, e_laddw, e_lsubw, e_lmulw, e_iand, e_ior, e_ishl, e_ishr, e_iushr, e_lcmp, e_imax, e_imin, e_idiv, e_irem, e_ldiv, e_lrem, e_i2l, e_i2b, e_l2i, e_i2c, e_getF, e_getR, e_putF, e_putR, e_putz, e_ald, e_aldR, e_ast, e_astb, e_astz, e_asta, e_len, e_acopy, e_new, e_newa, e_mna, e_this, e_room, e_call0, e_callv0, e_call1, e_callv1, e_inv1, e_invv1, e_call2, e_callv2, e_inv2, e_invv2, e_call3, e_callv3, e_inv3, e_invv3, e_call4, e_callv4, e_inv4, e_invv4, e_call5, e_callv5, e_inv5, e_invv5, e_call6, e_callv6, e_inv6, e_invv6, e_call7, e_callv7, e_inv7, e_invv7, e_call8, e_callv8, e_inv8, e_invv8, e_ret, e_retz, e_retc, e_retb, e_retv, e_skip, e_sco, e_tlen, e_tat, e_iz_eq0, e_iz_eq1, e_iz_ne0, e_iz_ne1, add0, sc_d, sc_t, inI_e, inL_e, up_eq, true_or, or_true, or_false, false_or, and_true, true_and, not_false_eq_true, Int.reduceAdd, Int.reduceSub, Int.reduceMul, Int.reduceNeg, hRc, mc_19 hTc, mc_l14 hTc, mm_k4 hM]
      | with_reducible first | refine izl_lt (fun hc => ?_) (fun hc => ?_) | refine izl_ge (fun hc => ?_) (fun hc => ?_) | refine izl_eq (fun hc => ?_) (fun hc => ?_) | refine ic_ge (fun hc => ?_) (fun hc => ?_) | refine ic_lt (fun hc => ?_) (fun hc => ?_) | refine ic_ne (fun hc => ?_) (fun hc => ?_) | refine ic_eq (fun hc => ?_) (fun hc => ?_) | refine ic_le (fun hc => ?_) (fun hc => ?_) | refine ic_gt (fun hc => ?_) (fun hc => ?_) | refine iz_eq (fun hc => ?_) (fun hc => ?_) | refine iz_ne (fun hc => ?_) (fun hc => ?_) | refine iz_lt (fun hc => ?_) (fun hc => ?_) | refine iz_ge (fun hc => ?_) (fun hc => ?_) | refine iz_gt (fun hc => ?_) (fun hc => ?_) | refine iz_le (fun hc => ?_) (fun hc => ?_) | refine iz_nu (fun hc => ?_) (fun hc => ?_) | refine iz_nn (fun hc => ?_) (fun hc => ?_)
      | omega
      | (exfalso; omega)
    refine key (C 6 k 4) 1 (by omega) (by omega) ?_ rfl rfl ?_ e2 rfl rfl
    · rw [← e2]; rfl
    · rw [← e2]; rfl
/-- a row of the reference's sums -/
def lmR (x y : Int) : Prop := (0 ≤ x ∧ x < XF ∧ y = x) ∨ (XF ≤ x ∧ x ≤ XF + 30000000 ∧ y = XF)
theorem sM_from1 (hT : mtT m L R) (hM : mM m c C F E) (hW : ctW C) {k place p1 : Int} (hk0 : 0 ≤ k) (hk1 : k < 6) (hkn : F m 26 ≠ k) (hp0 : 0 ≤ place) (hp1 : place < 12) {ls : Int → Int} (hE : ∀ g : Int, 0 ≤ g → g < C 0 1 0 → lmR (E (m + 3) (11 * k + g)) (ls g)) (hQ : Q (mnP (vP C ls place) (C 0 1 0).toNat) (L, R, F, E, N)) : T_X10_from [m, k, place, p1] (L, R, F, E, N) Q := by
  have pm := mt_p hT
  have hXF : XF = 1125899906842624 := rfl
  have b1 := cw_1 hW
  repeat' first
    | exact absurd hc (by decide)
    | simp (disch := omega) only [ub_X10_from_99, ub_X10_from_82, ue_X10_from, t_X10_from, zLg, zRf, zFq, zEl, zNz, zUf, zUe, zUr, zCe, zSn, gd_0, gd_1, gd_2, gd_3, gd_4, gd_5, gd_6, gd_7, gd_8, gd_9, gd_10, gd_11, gd_12, gd_13, gd_14, gd_15, gd_16, gd_17, gd_18, gd_19, se_0, se_1, se_2, se_3, se_4, se_5, se_6, se_7, se_8, se_9, se_10, se_11, se_12, se_13, se_14, se_15, se_16, se_17, se_18, se_19, e_const, e_load, e_store, e_iinc, e_dup, e_dup2, e_pop, e_iadd, e_isub, e_imul, e_ladd, e_lsub, e_lmul, e_iaddw, e_isubw, e_imulw, e_laddw, e_lsubw, e_lmulw, e_iand, e_ior, e_ishl, e_ishr, e_iushr, e_lcmp, e_imax, e_imin, e_idiv, e_irem, e_ldiv, e_lrem, e_i2l, e_i2b, e_l2i, e_i2c, e_getF, e_getR, e_putF, e_putR, e_putz, e_ald, e_aldR, e_ast, e_astb, e_astz, e_asta, e_len, e_acopy, e_new, e_newa, e_mna, e_this, e_room, e_call0, e_callv0, e_call1, e_callv1, e_inv1, e_invv1, e_call2, e_callv2, e_inv2, e_invv2, e_call3, e_callv3, e_inv3, e_invv3, e_call4, e_callv4, e_inv4, e_invv4, e_call5, e_callv5, e_inv5, e_invv5, e_call6, e_callv6, e_inv6, e_invv6, e_call7, e_callv7, e_inv7, e_invv7, e_call8, e_callv8, e_inv8, e_invv8, e_ret, e_retz, e_retc, e_retb, e_retv, e_skip, e_sco, e_tlen, e_tat, e_iz_eq0, e_iz_eq1, e_iz_ne0, e_iz_ne1, add0, sc_d, sc_t, inI_e, inL_e, up_eq, true_or, or_true, or_false, false_or, and_true, true_and, not_false_eq_true, Int.reduceAdd, Int.reduceSub, Int.reduceMul, Int.reduceNeg]
    | with_reducible first | refine izl_lt (fun hc => ?_) (fun hc => ?_) | refine izl_ge (fun hc => ?_) (fun hc => ?_) | refine izl_eq (fun hc => ?_) (fun hc => ?_) | refine ic_ge (fun hc => ?_) (fun hc => ?_) | refine ic_lt (fun hc => ?_) (fun hc => ?_) | refine ic_ne (fun hc => ?_) (fun hc => ?_) | refine ic_eq (fun hc => ?_) (fun hc => ?_) | refine ic_le (fun hc => ?_) (fun hc => ?_) | refine ic_gt (fun hc => ?_) (fun hc => ?_) | refine iz_eq (fun hc => ?_) (fun hc => ?_) | refine iz_ne (fun hc => ?_) (fun hc => ?_) | refine iz_lt (fun hc => ?_) (fun hc => ?_) | refine iz_ge (fun hc => ?_) (fun hc => ?_) | refine iz_gt (fun hc => ?_) (fun hc => ?_) | refine iz_le (fun hc => ?_) (fun hc => ?_) | refine iz_nu (fun hc => ?_) (fun hc => ?_) | refine iz_nn (fun hc => ?_) (fun hc => ?_)
    | omega
    | (exfalso; omega)
  unfold L_X10_from_23
  refine lpw (fun n l st h c s => ∃ i x y : Int, l = [m, k, place, p1, mnP (vP C ls place) i.toNat, y, i, x, 0] ∧ st = [] ∧ h = (L, R, F, E, N) ∧ 0 ≤ i ∧ i ≤ C 0 1 0 ∧ (n : Int) = C 0 1 0 - i) ?_ (n := (C 0 1 0).toNat) ⟨0, 0, 0, rfl, rfl, rfl, by omega, by omega, by omega⟩
  rintro n k9 hk l st h c9 s ⟨i, x, y, rfl, rfl, rfl, hi, hi2, hn⟩
  by_cases hlt : i < C 0 1 0
  · have g1 := cw_g1 hW i hi hlt
    have em := mnP_s (f := vP C ls place) hi
    have rb := rnd_b hp0 hp1 g1.1 g1.2
    have hl := hE i hi hlt
    have ev : vP C ls place i = if ls i < XF then ls i + rnd place (C 2 i 1) else XF := rfl
    have le := (mnP_le (vP C ls place) i.toNat).1
    unfold lmR at hl
    repeat' first
      | exact absurd hc (by decide)
      | with_reducible refine sM_of hT hM hW ?_ ?_ ?_ ?_ ?_
      | with_reducible refine sM_round ?_ ?_ ?_ ?_ ?_
      | simp (disch := omega) only [ub_X10_from_99, ub_X10_from_82, ue_X10_from, t_X10_from, zLg, zRf, zFq, zEl, zNz, zUf, zUe, zUr, zCe, zSn, gd_0, gd_1, gd_2, gd_3, gd_4, gd_5, gd_6, gd_7, gd_8, gd_9, gd_10, gd_11, gd_12, gd_13, gd_14, gd_15, gd_16, gd_17, gd_18, gd_19, se_0, se_1, se_2, se_3, se_4, se_5, se_6, se_7, se_8, se_9, se_10, se_11, se_12, se_13, se_14, se_15, se_16, se_17, se_18, se_19, e_const, e_load, e_store, e_iinc, e_dup, e_dup2, e_pop, e_iadd, e_isub, e_imul, e_ladd, e_lsub, e_lmul, e_iaddw, e_isubw, e_imulw, e_laddw, e_lsubw, e_lmulw, e_iand, e_ior, e_ishl, e_ishr, e_iushr, e_lcmp, e_imax, e_imin, e_idiv, e_irem, e_ldiv, e_lrem, e_i2l, e_i2b, e_l2i, e_i2c, e_getF, e_getR, e_putF, e_putR, e_putz, e_ald, e_aldR, e_ast, e_astb, e_astz, e_asta, e_len, e_acopy, e_new, e_newa, e_mna, e_this, e_room, e_call0, e_callv0, e_call1, e_callv1, e_inv1, e_invv1, e_call2, e_callv2, e_inv2, e_invv2, e_call3, e_callv3, e_inv3, e_invv3, e_call4, e_callv4, e_inv4, e_invv4, e_call5, e_callv5, e_inv5, e_invv5, e_call6, e_callv6, e_inv6, e_invv6, e_call7, e_callv7, e_inv7, e_invv7, e_call8, e_callv8, e_inv8, e_invv8, e_ret, e_retz, e_retc, e_retb, e_retv, e_skip, e_sco, e_tlen, e_tat, e_iz_eq0, e_iz_eq1, e_iz_ne0, e_iz_ne1, add0, sc_d, sc_t, inI_e, inL_e, up_eq, true_or, or_true, or_false, false_or, and_true, true_and, not_false_eq_true, Int.reduceAdd, Int.reduceSub, Int.reduceMul, Int.reduceNeg, mm_1 hM, mt_24 hT, mt_l3 hT]
      | with_reducible first | refine izl_lt (fun hc => ?_) (fun hc => ?_) | refine izl_ge (fun hc => ?_) (fun hc => ?_) | refine izl_eq (fun hc => ?_) (fun hc => ?_) | refine ic_ge (fun hc => ?_) (fun hc => ?_) | refine ic_lt (fun hc => ?_) (fun hc => ?_) | refine ic_ne (fun hc => ?_) (fun hc => ?_) | refine ic_eq (fun hc => ?_) (fun hc => ?_) | refine ic_le (fun hc => ?_) (fun hc => ?_) | refine ic_gt (fun hc => ?_) (fun hc => ?_) | refine iz_eq (fun hc => ?_) (fun hc => ?_) | refine iz_ne (fun hc => ?_) (fun hc => ?_) | refine iz_lt (fun hc => ?_) (fun hc => ?_) | refine iz_ge (fun hc => ?_) (fun hc => ?_) | refine iz_gt (fun hc => ?_) (fun hc => ?_) | refine iz_le (fun hc => ?_) (fun hc => ?_) | refine iz_nu (fun hc => ?_) (fun hc => ?_) | refine iz_nn (fun hc => ?_) (fun hc => ?_)
      | omega
      | (exfalso; omega)
    · rw [if_pos (by omega)] at ev
      rw [if_neg (by omega)] at em
      exact hk (n - 1) _ _ _ _ _ (by omega) ⟨i + 1, _, _, by rw [em], rfl, rfl, by omega, by omega, by omega⟩
    · rw [if_pos (by omega)] at ev
      rw [if_pos (by omega)] at em
      refine hk (n - 1) _ _ _ _ _ (by omega) ⟨i + 1, E (m + 3) (11 * k + i) + rnd place (C 2 i 1), y, ?_, rfl, rfl, by omega, by omega, by omega⟩
      rw [em, ev]
      have : ls i = E (m + 3) (11 * k + i) := by omega
      rw [this]
    · rw [if_neg (by omega)] at ev
      rw [if_neg (by omega)] at em
      exact hk (n - 1) _ _ _ _ _ (by omega) ⟨i + 1, _, _, by rw [em], rfl, rfl, by omega, by omega, by omega⟩
  · have hie : i = C 0 1 0 := by omega
    rw [← hie] at hQ
    repeat' first
      | exact absurd hc (by decide)
      | simp (disch := omega) only [ub_X10_from_99, ub_X10_from_82, ue_X10_from, t_X10_from, zLg, zRf, zFq, zEl, zNz, zUf, zUe, zUr, zCe, zSn, gd_0, gd_1, gd_2, gd_3, gd_4, gd_5, gd_6, gd_7, gd_8, gd_9, gd_10, gd_11, gd_12, gd_13, gd_14, gd_15, gd_16, gd_17, gd_18, gd_19, se_0, se_1, se_2, se_3, se_4, se_5, se_6, se_7, se_8, se_9, se_10, se_11, se_12, se_13, se_14, se_15, se_16, se_17, se_18, se_19, e_const, e_load, e_store, e_iinc, e_dup, e_dup2, e_pop, e_iadd, e_isub, e_imul, e_ladd, e_lsub, e_lmul, e_iaddw, e_isubw, e_imulw, e_laddw, e_lsubw, e_lmulw, e_iand, e_ior, e_ishl, e_ishr, e_iushr, e_lcmp, e_imax, e_imin, e_idiv, e_irem, e_ldiv, e_lrem, e_i2l, e_i2b, e_l2i, e_i2c, e_getF, e_getR, e_putF, e_putR, e_putz, e_ald, e_aldR, e_ast, e_astb, e_astz, e_asta, e_len, e_acopy, e_new, e_newa, e_mna, e_this, e_room, e_call0, e_callv0, e_call1, e_callv1, e_inv1, e_invv1, e_call2, e_callv2, e_inv2, e_invv2, e_call3, e_callv3, e_inv3, e_invv3, e_call4, e_callv4, e_inv4, e_invv4, e_call5, e_callv5, e_inv5, e_invv5, e_call6, e_callv6, e_inv6, e_invv6, e_call7, e_callv7, e_inv7, e_invv7, e_call8, e_callv8, e_inv8, e_invv8, e_ret, e_retz, e_retc, e_retb, e_retv, e_skip, e_sco, e_tlen, e_tat, e_iz_eq0, e_iz_eq1, e_iz_ne0, e_iz_ne1, add0, sc_d, sc_t, inI_e, inL_e, up_eq, true_or, or_true, or_false, false_or, and_true, true_and, not_false_eq_true, Int.reduceAdd, Int.reduceSub, Int.reduceMul, Int.reduceNeg, mm_1 hM]
      | with_reducible first | refine izl_lt (fun hc => ?_) (fun hc => ?_) | refine izl_ge (fun hc => ?_) (fun hc => ?_) | refine izl_eq (fun hc => ?_) (fun hc => ?_) | refine ic_ge (fun hc => ?_) (fun hc => ?_) | refine ic_lt (fun hc => ?_) (fun hc => ?_) | refine ic_ne (fun hc => ?_) (fun hc => ?_) | refine ic_eq (fun hc => ?_) (fun hc => ?_) | refine ic_le (fun hc => ?_) (fun hc => ?_) | refine ic_gt (fun hc => ?_) (fun hc => ?_) | refine iz_eq (fun hc => ?_) (fun hc => ?_) | refine iz_ne (fun hc => ?_) (fun hc => ?_) | refine iz_lt (fun hc => ?_) (fun hc => ?_) | refine iz_ge (fun hc => ?_) (fun hc => ?_) | refine iz_gt (fun hc => ?_) (fun hc => ?_) | refine iz_le (fun hc => ?_) (fun hc => ?_) | refine iz_nu (fun hc => ?_) (fun hc => ?_) | refine iz_nn (fun hc => ?_) (fun hc => ?_)
      | omega
      | (exfalso; omega)
    all_goals exact hQ
theorem sM_from0 (hT : mtT m L R) {k place p1 : Int} (hkn : F m 26 = k) (hp0 : 0 ≤ place) (hp1 : place < 12) (hq0 : 0 ≤ p1) (hq1 : p1 < 12) (hQ : Q (rnd place p1) (L, R, F, E, N)) : T_X10_from [m, k, place, p1] (L, R, F, E, N) Q := by
  have pm := mt_p hT
  repeat' first
    | exact absurd hc (by decide)
    | with_reducible refine sM_round ?_ ?_ ?_ ?_ ?_
    | simp (disch := omega) only [ub_X10_from_99, ub_X10_from_82, ue_X10_from, t_X10_from, zLg, zRf, zFq, zEl, zNz, zUf, zUe, zUr, zCe, zSn, gd_0, gd_1, gd_2, gd_3, gd_4, gd_5, gd_6, gd_7, gd_8, gd_9, gd_10, gd_11, gd_12, gd_13, gd_14, gd_15, gd_16, gd_17, gd_18, gd_19, se_0, se_1, se_2, se_3, se_4, se_5, se_6, se_7, se_8, se_9, se_10, se_11, se_12, se_13, se_14, se_15, se_16, se_17, se_18, se_19, e_const, e_load, e_store, e_iinc, e_dup, e_dup2, e_pop, e_iadd, e_isub, e_imul, e_ladd, e_lsub, e_lmul, e_iaddw, e_isubw, e_imulw, e_laddw, e_lsubw, e_lmulw, e_iand, e_ior, e_ishl, e_ishr, e_iushr, e_lcmp, e_imax, e_imin, e_idiv, e_irem, e_ldiv, e_lrem, e_i2l, e_i2b, e_l2i, e_i2c, e_getF, e_getR, e_putF, e_putR, e_putz, e_ald, e_aldR, e_ast, e_astb, e_astz, e_asta, e_len, e_acopy, e_new, e_newa, e_mna, e_this, e_room, e_call0, e_callv0, e_call1, e_callv1, e_inv1, e_invv1, e_call2, e_callv2, e_inv2, e_invv2, e_call3, e_callv3, e_inv3, e_invv3, e_call4, e_callv4, e_inv4, e_invv4, e_call5, e_callv5, e_inv5, e_invv5, e_call6, e_callv6, e_inv6, e_invv6, e_call7, e_callv7, e_inv7, e_invv7, e_call8, e_callv8, e_inv8, e_invv8, e_ret, e_retz, e_retc, e_retb, e_retv, e_skip, e_sco, e_tlen, e_tat, e_iz_eq0, e_iz_eq1, e_iz_ne0, e_iz_ne1, add0, sc_d, sc_t, inI_e, inL_e, up_eq, true_or, or_true, or_false, false_or, and_true, true_and, not_false_eq_true, Int.reduceAdd, Int.reduceSub, Int.reduceMul, Int.reduceNeg]
    | with_reducible first | refine izl_lt (fun hc => ?_) (fun hc => ?_) | refine izl_ge (fun hc => ?_) (fun hc => ?_) | refine izl_eq (fun hc => ?_) (fun hc => ?_) | refine ic_ge (fun hc => ?_) (fun hc => ?_) | refine ic_lt (fun hc => ?_) (fun hc => ?_) | refine ic_ne (fun hc => ?_) (fun hc => ?_) | refine ic_eq (fun hc => ?_) (fun hc => ?_) | refine ic_le (fun hc => ?_) (fun hc => ?_) | refine ic_gt (fun hc => ?_) (fun hc => ?_) | refine iz_eq (fun hc => ?_) (fun hc => ?_) | refine iz_ne (fun hc => ?_) (fun hc => ?_) | refine iz_lt (fun hc => ?_) (fun hc => ?_) | refine iz_ge (fun hc => ?_) (fun hc => ?_) | refine iz_gt (fun hc => ?_) (fun hc => ?_) | refine iz_le (fun hc => ?_) (fun hc => ?_) | refine iz_nu (fun hc => ?_) (fun hc => ?_) | refine iz_nn (fun hc => ?_) (fun hc => ?_)
    | omega
    | (exfalso; omega)
  all_goals exact hQ
/-- the rows of all gates on the way, j done -/
def lvlE (m : Int) (C : Cy) (th : Int → Int) (r0 r1 p1 : Int) (E : Int → Int → Int) (j : Nat) : Prop := ∀ q : Nat, q < j → ∀ g : Int, 0 ≤ g → g < C 0 1 0 → lmR (E (m + 3) (11 * (nst r0 r1 - (q + 1)) + g)) (lstP C th r0 r1 (frmP C th r0 r1 p1 q) (nst r0 r1 - (q + 1)) g)
theorem sM_fromF (hT : mtT m L R) (hM : mM m c C F E) (hW : ctW C) {r0 r1 p1 place k : Int} (hn : 0 ≤ nst r0 r1 ∧ nst r0 r1 ≤ 5) (h26 : F m 26 = nst r0 r1) (hp : 0 ≤ p1 ∧ p1 < 12) (hp0 : 0 ≤ place) (hp1 : place < 12) {j : Nat} (hj : (j : Int) ≤ nst r0 r1) (hk : k = nst r0 r1 - j) (hE : lvlE m C th r0 r1 p1 E j) (hQ : Q (frmP C th r0 r1 p1 j place) (L, R, F, E, N)) : T_X10_from [m, k, place, p1] (L, R, F, E, N) Q := by
  cases j with
  | zero => exact sM_from0 hT (by omega) hp0 hp1 hp.1 hp.2 hQ
  | succ j =>
    have e : k = nst r0 r1 - ((j : Int) + 1) := by omega
    subst e
    exact sM_from1 hT hM hW (by omega) (by omega) (by omega) hp0 hp1 (hE j (by omega)) hQ
end GOES

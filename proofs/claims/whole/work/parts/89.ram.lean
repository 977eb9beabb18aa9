/-! ===== a ram ===== -/
/-- a ram, as a thing -/
def rmT (l w h : Int) : Int → Int := fun i => if i = 0 then l else if i = 1 then w else if i = 2 then h else 0
theorem rmT_W {l w h : Int} (l0 : 1 ≤ l ∧ l ≤ 99) (w0 : 1 ≤ w ∧ w ≤ 99) (h0 : 1 ≤ h ∧ h ≤ 99) : thW (rmT l w h) := ⟨l0, w0, h0, ⟨Int.le_refl _, by show (0 : Int) ≤ 99; omega⟩, ⟨Int.le_refl _, by show (0 : Int) ≤ 9; omega⟩, Or.inl rfl, Or.inl rfl⟩
section RAM
variable {L : Int → Int} {R F E : Int → Int → Int} {N : Nat} {Q : xQ} {m c t ln wd hg : Int} {C : Cy}
theorem sX_measure (hT : thT t L R) (hF : F t 3 = 0 ∧ F t 4 = 0 ∧ F t 5 = 0 ∧ F t 6 = 0) (hQ : ∀ E' : Int → Int → Int, thM t (rmT ln wd hg) F E' → frI t (t + 4) E E' → Q 0 (L, R, F, E', N)) : T_X6_measure [t, ln, wd, hg] (L, R, F, E, N) Q := by
  obtain ⟨pt, r0, r1, r2, l1, l2, l3⟩ := hT
  obtain ⟨f3, f4, f5, f6⟩ := hF
  simp (disch := omega) only [ue_X6_measure, t_X6_measure, zLg, zRf, zFq, zEl, zNz, zUf, zUe, zUr, zCe, zSn, gd_0, gd_1, gd_2, gd_3, gd_4, gd_5, gd_6, gd_7, gd_8, gd_9, gd_10, gd_11, gd_12, gd_13, gd_14, gd_15, gd_16, gd_17, gd_18, gd_19, se_0, se_1, se_2, se_3, se_4, se_5, se_6, se_7, se_8, se_9, se_10, se_11, se_12, se_13, se_14, se_15, se_16, se_17, se_18, se_19, e_const, e_load, e_store, e_iinc, e_dup, e_dup2, e_pop, e_iadd, e_isub, e_imul, e_ladd, e_lsub, e_lmul, e_iaddw, e_isubw, e_imulw, e_laddw, e_lsubw, e_lmulw, e_iand, e_ior, e_ishl, e_ishr, e_iushr, e_lcmp, e_imax, e_imin, e_idiv, e_irem, e_ldiv, e_lrem, e_i2l, e_i2b, e_l2i, e_i2c, e_getF, e_getR, e_putF, e_putR, e_putz, e_ald, e_aldR, e_ast, e_astb, e_astz, e_asta, e_len, e_acopy, e_new, e_newa, e_mna, e_this, e_room, e_call0, e_callv0, e_call1, e_callv1, e_inv1, e_invv1, e_call2, e_callv2, e_inv2, e_invv2, e_call3, e_callv3, e_inv3, e_invv3, e_call4, e_callv4, e_inv4, e_invv4, e_call5, e_callv5, e_inv5, e_invv5, e_call6, e_callv6, e_inv6, e_invv6, e_call7, e_callv7, e_inv7, e_invv7, e_call8, e_callv8, e_inv8, e_invv8, e_ret, e_retz, e_retc, e_retb, e_retv, e_skip, e_sco, e_tlen, e_tat, e_iz_eq0, e_iz_eq1, e_iz_ne0, e_iz_ne1, add0, sc_d, sc_t, inI_e, inL_e, up_eq, true_or, or_true, or_false, false_or, and_true, true_and, not_false_eq_true, Int.reduceAdd, Int.reduceSub, Int.reduceMul, Int.reduceNeg, r0, r1, r2, l1, l2, l3]
  refine hQ _ ⟨?_, ?_, ?_, ?_, ?_, ?_, ?_, ?_, ?_, f3, f4, f5, f6⟩ (fun b j z => by simp (disch := omega) only [up_ne])
  all_goals simp (disch := omega) only [up_ne, up_eq]
  all_goals rfl
theorem sM_ramNow (hT : mtT m L R) (hTc : mcT c L R) (hRc : R m 3 = c) (hM0 : mM m c C F E) (hW : ctW C) (hmc : m + 16 < c) (hl : 1 ≤ ln ∧ ln ≤ 99) (hw : 1 ≤ wd ∧ wd ≤ 99) (hh : 1 ≤ hg ∧ hg ≤ 99) (hr : 0 < C 0 0 0) (hQ0 : ∀ (d : Int) (F' : Int → Int → Int), frS m F F' → deepP C (rmT ln wd hg) 0 d → Q d (L, R, F', E, N)) : T_X10_ramNow [m, ln, wd, hg] (L, R, F, E, N) Q := by
  have pm := mt_p hT
  have pc := mc_p hTc
  have b0 := cw_0 hW
  have b1 := cw_1 hW
  have hth := rmT_W hl hw hh
  have hQ : ∀ d : Int, deepP C (rmT ln wd hg) 0 d → Q d (L, R, up (up (up (up F m 18 ln) m 19 wd) m 20 hg) m 22 1, E, N) := fun d hd => hQ0 d _ (fun b j z => by simp (disch := omega) only [up_ne]) hd
  have hS : scD m (rmT ln wd hg) (up (up (up (up F m 18 ln) m 19 wd) m 20 hg) m 22 1) := ⟨by simp (disch := omega) only [up_ne, up_eq]; rfl, by simp (disch := omega) only [up_ne, up_eq]; rfl, by simp (disch := omega) only [up_ne, up_eq]; rfl, by rw [up_eq]; rfl⟩
  have hM : mM m c C (up (up (up (up F m 18 ln) m 19 wd) m 20 hg) m 22 1) E := hM0.fr hmc (fun b j z => by simp (disch := omega) only [up_ne]) frA.rf
  simp (disch := omega) only [t_X10_ramNow, ue_X10_ramNow, zLg, zRf, zFq, zEl, zNz, zUf, zUe, zUr, zCe, zSn, gd_0, gd_1, gd_2, gd_3, gd_4, gd_5, gd_6, gd_7, gd_8, gd_9, gd_10, gd_11, gd_12, gd_13, gd_14, gd_15, gd_16, gd_17, gd_18, gd_19, se_0, se_1, se_2, se_3, se_4, se_5, se_6, se_7, se_8, se_9, se_10, se_11, se_12, se_13, se_14, se_15, se_16, se_17, se_18, se_19, e_const, e_load, e_store, e_iinc, e_dup, e_dup2, e_pop, e_iadd, e_isub, e_imul, e_ladd, e_lsub, e_lmul, e_iaddw, e_isubw, e_imulw, e_laddw, e_lsubw, e_lmulw, e_iand, e_ior, e_ishl, e_ishr, e_iushr, e_lcmp, e_imax, e_imin, e_idiv, e_irem, e_ldiv, e_lrem, e_i2l, e_i2b, e_l2i, e_i2c, e_getF, e_getR, e_putF, e_putR, e_putz, e_ald, e_aldR, e_ast, e_astb, e_astz, e_asta, e_len, e_acopy, e_new, e_newa, e_mna, e_this, e_room, e_call0, e_callv0, e_call1, e_callv1, e_inv1, e_invv1, e_call2, e_callv2, e_inv2, e_invv2, e_call3, e_callv3, e_inv3, e_invv3, e_call4, e_callv4, e_inv4, e_invv4, e_call5, e_callv5, e_inv5, e_invv5, e_call6, e_callv6, e_inv6, e_invv6, e_call7, e_callv7, e_inv7, e_invv7, e_call8, e_callv8, e_inv8, e_invv8, e_ret, e_retz, e_retc, e_retb, e_retv, e_skip, e_sco, e_tlen, e_tat, e_iz_eq0, e_iz_eq1, e_iz_ne0, e_iz_ne1, add0, sc_d, sc_t, inI_e, inL_e, up_eq, true_or, or_true, or_false, false_or, and_true, true_and, not_false_eq_true, Int.reduceAdd, Int.reduceSub, Int.reduceMul, Int.reduceNeg]
  generalize up (up (up (up F m 18 ln) m 19 wd) m 20 hg) m 22 1 = F1 at *
  generalize rmT ln wd hg = th at *
  repeat' first
    | exact absurd hc (by decide)
    | with_reducible refine sM_fitsRing hT hTc hRc hM hW hS hth ?_ ?_ (fun hs => ?_) (fun hs => ?_)
    | simp (disch := omega) only [zLg, zRf, zFq, zEl, zNz, zUf, zUe, zUr, zCe, zSn, gd_0, gd_1, gd_2, gd_3, gd_4, gd_5, gd_6, gd_7, gd_8, gd_9, gd_10, gd_11, gd_12, gd_13, gd_14, gd_15, gd_16, gd_17, gd_18, gd_19, se_0, se_1, se_2, se_3, se_4, se_5, se_6, se_7, se_8, se_9, se_10, se_11, se_12, se_13, se_14, se_15, se_16, se_17, se_18, se_19, e_const, e_load, e_store, e_iinc, e_dup, e_dup2, e_pop, e_iadd, e_isub, e_imul, e_ladd, e_lsub, e_lmul, e_iaddw, e_isubw, e_imulw, e_laddw, e_lsubw, e_lmulw, e_iand, e_ior, e_ishl, e_ishr, e_iushr, e_lcmp, e_imax, e_imin, e_idiv, e_irem, e_ldiv, e_lrem, e_i2l, e_i2b, e_l2i, e_i2c, e_getF, e_getR, e_putF, e_putR, e_putz, e_ald, e_aldR, e_ast, e_astb, e_astz, e_asta, e_len, e_acopy, e_new, e_newa, e_mna, e_this, e_room, e_call0, e_callv0, e_call1, e_callv1, e_inv1, e_invv1, e_call2, e_callv2, e_inv2, e_invv2, e_call3, e_callv3, e_inv3, e_invv3, e_call4, e_callv4, e_inv4, e_invv4, e_call5, e_callv5, e_inv5, e_invv5, e_call6, e_callv6, e_inv6, e_invv6, e_call7, e_callv7, e_inv7, e_invv7, e_call8, e_callv8, e_inv8, e_invv8, e_ret, e_retz, e_retc, e_retb, e_retv, e_skip, e_sco, e_tlen, e_tat, e_iz_eq0, e_iz_eq1, e_iz_ne0, e_iz_ne1, add0, sc_d, sc_t, inI_e, inL_e, up_eq, true_or, or_true, or_false, false_or, and_true, true_and, not_false_eq_true, Int.reduceAdd, Int.reduceSub, Int.reduceMul, Int.reduceNeg]
    | with_reducible first | refine izl_lt (fun hc => ?_) (fun hc => ?_) | refine izl_ge (fun hc => ?_) (fun hc => ?_) | refine izl_eq (fun hc => ?_) (fun hc => ?_) | refine ic_ge (fun hc => ?_) (fun hc => ?_) | refine ic_lt (fun hc => ?_) (fun hc => ?_) | refine ic_ne (fun hc => ?_) (fun hc => ?_) | refine ic_eq (fun hc => ?_) (fun hc => ?_) | refine ic_le (fun hc => ?_) (fun hc => ?_) | refine ic_gt (fun hc => ?_) (fun hc => ?_) | refine iz_eq (fun hc => ?_) (fun hc => ?_) | refine iz_ne (fun hc => ?_) (fun hc => ?_) | refine iz_lt (fun hc => ?_) (fun hc => ?_) | refine iz_ge (fun hc => ?_) (fun hc => ?_) | refine iz_gt (fun hc => ?_) (fun hc => ?_) | refine iz_le (fun hc => ?_) (fun hc => ?_) | refine iz_nu (fun hc => ?_) (fun hc => ?_) | refine iz_nn (fun hc => ?_) (fun hc => ?_)
    | omega
    | (exfalso; omega)
  · have hsu : suitP C th 0 0 := by unfold suitP; rw [if_pos rfl]; exact hs
    unfold L_X10_ramNow_37
    refine lpw (fun n l st h c s => ∃ r v i : Int, l = [m, ln, wd, hg, r, v, i] ∧ st = [] ∧ h = (L, R, F1, E, N) ∧ 0 ≤ r ∧ r < C 0 0 0 ∧ (∀ q : Int, 0 ≤ q → q < r → stepP C th 0 q) ∧ ((v = 1 ∧ (n : Int) = C 0 0 0 - r) ∨ (v = 0 ∧ ¬ stepP C th 0 r))) ?_ (n := (C 0 0 0).toNat) ⟨0, 1, 0, rfl, rfl, rfl, by omega, by omega, fun c _ _ => by omega, Or.inl ⟨rfl, by omega⟩⟩
    rintro n k hk l st h c9 s ⟨r, v, i, rfl, rfl, rfl, hr0, hr1, hinv, hv⟩
    repeat' first
      | exact absurd hc (by decide)
      | simp (disch := omega) only [ub_X10_ramNow_108, ub_X10_ramNow_88, ub_X10_ramNow_83, ub_X10_ramNow_87, ue_X10_ramNow, t_X10_ramNow, zLg, zRf, zFq, zEl, zNz, zUf, zUe, zUr, zCe, zSn, gd_0, gd_1, gd_2, gd_3, gd_4, gd_5, gd_6, gd_7, gd_8, gd_9, gd_10, gd_11, gd_12, gd_13, gd_14, gd_15, gd_16, gd_17, gd_18, gd_19, se_0, se_1, se_2, se_3, se_4, se_5, se_6, se_7, se_8, se_9, se_10, se_11, se_12, se_13, se_14, se_15, se_16, se_17, se_18, se_19, e_const, e_load, e_store, e_iinc, e_dup, e_dup2, e_pop, e_iadd, e_isub, e_imul, e_ladd, e_lsub, e_lmul, e_iaddw, e_isubw, e_imulw, e_laddw, e_lsubw, e_lmulw, e_iand, e_ior, e_ishl, e_ishr, e_iushr, e_lcmp, e_imax, e_imin, e_idiv, e_irem, e_ldiv, e_lrem, e_i2l, e_i2b, e_l2i, e_i2c, e_getF, e_getR, e_putF, e_putR, e_putz, e_ald, e_aldR, e_ast, e_astb, e_astz, e_asta, e_len, e_acopy, e_new, e_newa, e_mna, e_this, e_room, e_call0, e_callv0, e_call1, e_callv1, e_inv1, e_invv1, e_call2, e_callv2, e_inv2, e_invv2, e_call3, e_callv3, e_inv3, e_invv3, e_call4, e_callv4, e_inv4, e_invv4, e_call5, e_callv5, e_inv5, e_invv5, e_call6, e_callv6, e_inv6, e_invv6, e_call7, e_callv7, e_inv7, e_invv7, e_call8, e_callv8, e_inv8, e_invv8, e_ret, e_retz, e_retc, e_retb, e_retv, e_skip, e_sco, e_tlen, e_tat, e_iz_eq0, e_iz_eq1, e_iz_ne0, e_iz_ne1, add0, sc_d, sc_t, inI_e, inL_e, up_eq, true_or, or_true, or_false, false_or, and_true, true_and, not_false_eq_true, Int.reduceAdd, Int.reduceSub, Int.reduceMul, Int.reduceNeg]
      | with_reducible first | refine izl_lt (fun hc => ?_) (fun hc => ?_) | refine izl_ge (fun hc => ?_) (fun hc => ?_) | refine izl_eq (fun hc => ?_) (fun hc => ?_) | refine ic_ge (fun hc => ?_) (fun hc => ?_) | refine ic_lt (fun hc => ?_) (fun hc => ?_) | refine ic_ne (fun hc => ?_) (fun hc => ?_) | refine ic_eq (fun hc => ?_) (fun hc => ?_) | refine ic_le (fun hc => ?_) (fun hc => ?_) | refine ic_gt (fun hc => ?_) (fun hc => ?_) | refine iz_eq (fun hc => ?_) (fun hc => ?_) | refine iz_ne (fun hc => ?_) (fun hc => ?_) | refine iz_lt (fun hc => ?_) (fun hc => ?_) | refine iz_ge (fun hc => ?_) (fun hc => ?_) | refine iz_gt (fun hc => ?_) (fun hc => ?_) | refine iz_le (fun hc => ?_) (fun hc => ?_) | refine iz_nu (fun hc => ?_) (fun hc => ?_) | refine iz_nn (fun hc => ?_) (fun hc => ?_)
      | omega
      | (exfalso; omega)
    · rcases hv with ⟨v1, v2⟩ | ⟨v1, v2⟩
      · omega
      · exact hQ r (Or.inr ⟨hsu, hr0, hinv, v2⟩)
    · rcases hv with ⟨v1, v2⟩ | ⟨v1, v2⟩
      · unfold L_X10_ramNow_48
        refine lpw (fun n l st h c s => ∃ v i : Int, l = [m, ln, wd, hg, r, v, i] ∧ st = [] ∧ h = (L, R, F1, E, N) ∧ 0 ≤ i ∧ (n : Int) = C 0 1 0 - i ∧ ((v = 1 ∧ stepP C th 0 r) ∨ (v = 0 ∧ ∀ q : Int, 0 ≤ q → q < i → ¬ (C 2 q 0 = r ∧ openP C th q)))) ?_ (n := (C 0 1 0).toNat) ⟨0, 0, rfl, rfl, rfl, by omega, by omega, Or.inr ⟨rfl, fun c _ _ => by omega⟩⟩
        rintro n2 k2 hk2 l st h c8 s2 ⟨w, j, rfl, rfl, rfl, hj, hn2, hw⟩
        have hnx : ∀ q : Int, 0 ≤ q → q < C 0 1 0 → C 2 q 0 = r → r + 1 < C 0 0 0 := fun q q1 q2 q3 => by have := cw_g0 hW q q1 q2; omega
        by_cases hj2 : j < C 0 1 0
        · have hg0 := cw_g0 hW j hj hj2
          repeat' first
            | exact absurd hc (by decide)
            | with_reducible refine sM_of hT hM hW ?_ ?_ ?_ ?_ ?_
            | with_reducible refine sM_goesThrough hT hTc hRc hM hW hS hth ?_ ?_ (fun ho => ?_) (fun ho => ?_)
                    | simp (disch := omega) only [ub_X10_ramNow_108, ub_X10_ramNow_88, ub_X10_ramNow_83, ub_X10_ramNow_87, ue_X10_ramNow, t_X10_ramNow, zLg, zRf, zFq, zEl, zNz, zUf, zUe, zUr, zCe, zSn, gd_0, gd_1, gd_2, gd_3, gd_4, gd_5, gd_6, gd_7, gd_8, gd_9, gd_10, gd_11, gd_12, gd_13, gd_14, gd_15, gd_16, gd_17, gd_18, gd_19, se_0, se_1, se_2, se_3, se_4, se_5, se_6, se_7, se_8, se_9, se_10, se_11, se_12, se_13, se_14, se_15, se_16, se_17, se_18, se_19, e_const, e_load, e_store, e_iinc, e_dup, e_dup2, e_pop, e_iadd, e_isub, e_imul, e_ladd, e_lsub, e_lmul, e_iaddw, e_isubw, e_imulw, e_laddw, e_lsubw, e_lmulw, e_iand, e_ior, e_ishl, e_ishr, e_iushr, e_lcmp, e_imax, e_imin, e_idiv, e_irem, e_ldiv, e_lrem, e_i2l, e_i2b, e_l2i, e_i2c, e_getF, e_getR, e_putF, e_putR, e_putz, e_ald, e_aldR, e_ast, e_astb, e_astz, e_asta, e_len, e_acopy, e_new, e_newa, e_mna, e_this, e_room, e_call0, e_callv0, e_call1, e_callv1, e_inv1, e_invv1, e_call2, e_callv2, e_inv2, e_invv2, e_call3, e_callv3, e_inv3, e_invv3, e_call4, e_callv4, e_inv4, e_invv4, e_call5, e_callv5, e_inv5, e_invv5, e_call6, e_callv6, e_inv6, e_invv6, e_call7, e_callv7, e_inv7, e_invv7, e_call8, e_callv8, e_inv8, e_invv8, e_ret, e_retz, e_retc, e_retb, e_retv, e_skip, e_sco, e_tlen, e_tat, e_iz_eq0, e_iz_eq1, e_iz_ne0, e_iz_ne1, add0, sc_d, sc_t, inI_e, inL_e, up_eq, true_or, or_true, or_false, false_or, and_true, true_and, not_false_eq_true, Int.reduceAdd, Int.reduceSub, Int.reduceMul, Int.reduceNeg, mm_1 hM]
            | with_reducible first | refine izl_lt (fun hc => ?_) (fun hc => ?_) | refine izl_ge (fun hc => ?_) (fun hc => ?_) | refine izl_eq (fun hc => ?_) (fun hc => ?_) | refine ic_ge (fun hc => ?_) (fun hc => ?_) | refine ic_lt (fun hc => ?_) (fun hc => ?_) | refine ic_ne (fun hc => ?_) (fun hc => ?_) | refine ic_eq (fun hc => ?_) (fun hc => ?_) | refine ic_le (fun hc => ?_) (fun hc => ?_) | refine ic_gt (fun hc => ?_) (fun hc => ?_) | refine iz_eq (fun hc => ?_) (fun hc => ?_) | refine iz_ne (fun hc => ?_) (fun hc => ?_) | refine iz_lt (fun hc => ?_) (fun hc => ?_) | refine iz_ge (fun hc => ?_) (fun hc => ?_) | refine iz_gt (fun hc => ?_) (fun hc => ?_) | refine iz_le (fun hc => ?_) (fun hc => ?_) | refine iz_nu (fun hc => ?_) (fun hc => ?_) | refine iz_nn (fun hc => ?_) (fun hc => ?_)
            | omega
            | (exfalso; omega)
          all_goals first
            | (exfalso; omega)
            | skip
          · rcases hw with ⟨w1, w2⟩ | ⟨w1, w2⟩
            · exact hk2 (n2 - 1) _ _ _ _ _ (by omega) ⟨1, j + 1, rfl, rfl, rfl, by omega, by omega, Or.inl ⟨rfl, w2⟩⟩
            · omega
          all_goals
            rcases hw with ⟨w1, w2⟩ | ⟨w1, w2⟩
            · omega
          · refine hk2 (n2 - 1) _ _ _ _ _ (by omega) ⟨0, j + 1, rfl, rfl, rfl, by omega, by omega, Or.inr ⟨rfl, fun q z1 z2 => ?_⟩⟩
            by_cases z : q = j
            · subst z; exact fun y => hc y.1
            · exact w2 q z1 (by omega)
          · exact hk2 (n2 - 1) _ _ _ _ _ (by omega) ⟨1, j + 1, rfl, rfl, rfl, by omega, by omega, Or.inl ⟨rfl, ⟨j, hj, hj2, by omega, ho⟩, fun q => absurd rfl q⟩⟩
          · refine hk2 (n2 - 1) _ _ _ _ _ (by omega) ⟨0, j + 1, rfl, rfl, rfl, by omega, by omega, Or.inr ⟨rfl, fun q z1 z2 => ?_⟩⟩
            by_cases z : q = j
            · subst z; exact fun y => ho y.2
            · exact w2 q z1 (by omega)
        · repeat' first
            | exact absurd hc (by decide)
            | simp (disch := omega) only [ub_X10_ramNow_108, ub_X10_ramNow_88, ub_X10_ramNow_83, ub_X10_ramNow_87, ue_X10_ramNow, t_X10_ramNow, zLg, zRf, zFq, zEl, zNz, zUf, zUe, zUr, zCe, zSn, gd_0, gd_1, gd_2, gd_3, gd_4, gd_5, gd_6, gd_7, gd_8, gd_9, gd_10, gd_11, gd_12, gd_13, gd_14, gd_15, gd_16, gd_17, gd_18, gd_19, se_0, se_1, se_2, se_3, se_4, se_5, se_6, se_7, se_8, se_9, se_10, se_11, se_12, se_13, se_14, se_15, se_16, se_17, se_18, se_19, e_const, e_load, e_store, e_iinc, e_dup, e_dup2, e_pop, e_iadd, e_isub, e_imul, e_ladd, e_lsub, e_lmul, e_iaddw, e_isubw, e_imulw, e_laddw, e_lsubw, e_lmulw, e_iand, e_ior, e_ishl, e_ishr, e_iushr, e_lcmp, e_imax, e_imin, e_idiv, e_irem, e_ldiv, e_lrem, e_i2l, e_i2b, e_l2i, e_i2c, e_getF, e_getR, e_putF, e_putR, e_putz, e_ald, e_aldR, e_ast, e_astb, e_astz, e_asta, e_len, e_acopy, e_new, e_newa, e_mna, e_this, e_room, e_call0, e_callv0, e_call1, e_callv1, e_inv1, e_invv1, e_call2, e_callv2, e_inv2, e_invv2, e_call3, e_callv3, e_inv3, e_invv3, e_call4, e_callv4, e_inv4, e_invv4, e_call5, e_callv5, e_inv5, e_invv5, e_call6, e_callv6, e_inv6, e_invv6, e_call7, e_callv7, e_inv7, e_invv7, e_call8, e_callv8, e_inv8, e_invv8, e_ret, e_retz, e_retc, e_retb, e_retv, e_skip, e_sco, e_tlen, e_tat, e_iz_eq0, e_iz_eq1, e_iz_ne0, e_iz_ne1, add0, sc_d, sc_t, inI_e, inL_e, up_eq, true_or, or_true, or_false, false_or, and_true, true_and, not_false_eq_true, Int.reduceAdd, Int.reduceSub, Int.reduceMul, Int.reduceNeg, mm_1 hM]
            | with_reducible first | refine izl_lt (fun hc => ?_) (fun hc => ?_) | refine izl_ge (fun hc => ?_) (fun hc => ?_) | refine izl_eq (fun hc => ?_) (fun hc => ?_) | refine ic_ge (fun hc => ?_) (fun hc => ?_) | refine ic_lt (fun hc => ?_) (fun hc => ?_) | refine ic_ne (fun hc => ?_) (fun hc => ?_) | refine ic_eq (fun hc => ?_) (fun hc => ?_) | refine ic_le (fun hc => ?_) (fun hc => ?_) | refine ic_gt (fun hc => ?_) (fun hc => ?_) | refine iz_eq (fun hc => ?_) (fun hc => ?_) | refine iz_ne (fun hc => ?_) (fun hc => ?_) | refine iz_lt (fun hc => ?_) (fun hc => ?_) | refine iz_ge (fun hc => ?_) (fun hc => ?_) | refine iz_gt (fun hc => ?_) (fun hc => ?_) | refine iz_le (fun hc => ?_) (fun hc => ?_) | refine iz_nu (fun hc => ?_) (fun hc => ?_) | refine iz_nn (fun hc => ?_) (fun hc => ?_)
            | omega
            | (exfalso; omega)
          all_goals first
            | (exfalso; omega)
            | skip
          · rcases hw with ⟨w1, w2⟩ | ⟨w1, w2⟩
            · omega
            · refine hk (n - 1) _ _ _ _ _ (by omega) ⟨r, 0, j, by rw [w1, Int.add_zero], rfl, rfl, hr0, hr1, hinv, Or.inr ⟨rfl, fun z => ?_⟩⟩
              obtain ⟨⟨q, z1, z2, z3, z4⟩, z5⟩ := z
              exact w2 q z1 (by omega) ⟨z3, z4⟩
          · rcases hw with ⟨w1, w2⟩ | ⟨w1, w2⟩
            · obtain ⟨q, z1, z2, z3, z4⟩ := w2.1
              refine hk (n - 1) _ _ _ _ _ (by omega) ⟨r + 1, 1, j, by rw [w1], rfl, rfl, by omega, hnx q z1 z2 z3, fun x x1 x2 => ?_, Or.inl ⟨rfl, by omega⟩⟩
              by_cases z : x = r
              · subst z; exact w2
              · exact hinv x x1 (by omega)
            · omega
      · omega
  · exact hQ (-2) (Or.inl ⟨by unfold suitP; rw [if_pos rfl]; exact hs, rfl⟩)
end RAM

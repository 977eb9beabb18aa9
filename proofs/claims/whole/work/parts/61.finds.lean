/-! ===== the reference: goes, finds ===== -/
section FINDS
variable {L : Int → Int} {R F E : Int → Int → Int} {N : Nat} {Q : xQ} {m c g p r : Int} {C : Cy} {th : Int → Int}
/-- the gates of the way, one by one -/
theorem goesC (hT : mtT m L R) (hM : mM m c C F E) (hW : ctW C) (hmc : m + 16 < c) {r0 p0 r1 p1 d v x7 x8 x9 x10 : Int} (h00 : 0 ≤ r0) (h01 : r0 < 6) (h10 : 0 ≤ r1) (h11 : r1 < 6) (h26 : F m 26 = nst r0 r1) (hp : 0 ≤ p1 ∧ p1 < 12) (hp0 : 0 ≤ p0 ∧ p0 < 12) (hE : lvlE m C th r0 r1 p1 E (nst r0 r1).toNat) (hv : frmP C th r0 r1 p1 (nst r0 r1).toNat p0 < XF) {c9 s9 : Nat}
    (hQ : ∀ E' : Int → Int → Int, (∀ b j : Int, b ≠ m + 4 → E' b j = E b j) → (∀ i : Nat, (i : Int) < nst r0 r1 → E' (m + 4) i = gsq C th r0 p0 r1 p1 i) → Q v (L, R, F, E', N)) : L_X10_goes_216 Q [m, r0, p0, r1, p1, d, v, x7, p0, 0, x10] [] (L, R, F, E, N) c9 s9 := by
  have pm := mt_p hT
  have hXF : XF = 1125899906842624 := rfl
  have nb := nst_b h00 h01 h10 h11
  have b1 := cw_1 hW
  have ws := way_step hW hv hp0
  unfold L_X10_goes_216
  refine lpw (fun n l st h c s => ∃ (i : Nat) (y : Int) (E' : Int → Int → Int), l = [m, r0, p0, r1, p1, d, v, x7, hereP C th r0 p0 r1 p1 i, (i : Int), y] ∧ st = [] ∧ h = (L, R, F, E', N) ∧ (i : Int) ≤ nst r0 r1 ∧ (n : Int) = nst r0 r1 - i ∧ (∀ b j : Int, b ≠ m + 4 → E' b j = E b j) ∧ (∀ q : Nat, q < i → E' (m + 4) q = gsq C th r0 p0 r1 p1 q)) ?_ (n := (nst r0 r1).toNat) ⟨0, x10, E, rfl, rfl, rfl, by omega, by omega, fun _ _ _ => rfl, fun q hq => by omega⟩
  rintro n k hk l st h c8 s8 ⟨i, y, E', rfl, rfl, rfl, hi, hn, hfr, hinv⟩
  have hfA : frA m E E' := fun b j z => hfr b j (by omega)
  have hM' := hM.fr hmc frS.rf hfA
  have hE' : lvlE m C th r0 r1 p1 E' (nst r0 r1).toNat := fun q hq g x y => by rw [hfr _ _ (by omega)]; exact hE q hq g x y
  by_cases hin : (i : Int) < nst r0 r1
  · obtain ⟨s1, s2, s3⟩ := ws i (by omega)
    obtain ⟨s4, s5, s6, s7⟩ := s3 (by omega)
    repeat' first
      | exact absurd hc (by decide)
      | simp (disch := omega) only [ub_X10_goes_174, ub_X10_goes_171, ub_X10_goes_97, ub_X10_goes_27, ub_X10_goes_10, ue_X10_goes, t_X10_goes, zLg, zRf, zFq, zEl, zNz, zUf, zUe, zUr, zCe, zSn, gd_0, gd_1, gd_2, gd_3, gd_4, gd_5, gd_6, gd_7, gd_8, gd_9, gd_10, gd_11, gd_12, gd_13, gd_14, gd_15, gd_16, gd_17, gd_18, gd_19, se_0, se_1, se_2, se_3, se_4, se_5, se_6, se_7, se_8, se_9, se_10, se_11, se_12, se_13, se_14, se_15, se_16, se_17, se_18, se_19, e_const, e_load, e_store, e_iinc, e_dup, e_dup2, e_pop, e_iadd, e_isub, e_imul, e_ladd, e_lsub, e_lmul, e_iaddw, e_isubw, e_imulw, e_laddw, e_lsubw, e_lmulw, e_iand, e_ior, e_ishl, e_ishr, e_iushr, e_lcmp, e_imax, e_imin, e_idiv, e_irem, e_ldiv, e_lrem, e_i2l, e_i2b, e_l2i, e_i2c, e_getF, e_getR, e_putF, e_putR, e_putz, e_ald, e_aldR, e_ast, e_astb, e_astz, e_asta, e_len, e_acopy, e_new, e_newa, e_mna, e_this, e_room, e_call0, e_callv0, e_call1, e_callv1, e_inv1, e_invv1, e_call2, e_callv2, e_inv2, e_invv2, e_call3, e_callv3, e_inv3, e_invv3, e_call4, e_callv4, e_inv4, e_invv4, e_call5, e_callv5, e_inv5, e_invv5, e_call6, e_callv6, e_inv6, e_invv6, e_call7, e_callv7, e_inv7, e_invv7, e_call8, e_callv8, e_inv8, e_invv8, e_ret, e_retz, e_retc, e_retb, e_retv, e_skip, e_sco, e_tlen, e_tat, e_iz_eq0, e_iz_eq1, e_iz_ne0, e_iz_ne1, add0, sc_d, sc_t, inI_e, inL_e, up_eq, true_or, or_true, or_false, false_or, and_true, true_and, not_false_eq_true, Int.reduceAdd, Int.reduceSub, Int.reduceMul, Int.reduceNeg, h26]
      | with_reducible first | refine izl_lt (fun hc => ?_) (fun hc => ?_) | refine izl_ge (fun hc => ?_) (fun hc => ?_) | refine izl_eq (fun hc => ?_) (fun hc => ?_) | refine ic_ge (fun hc => ?_) (fun hc => ?_) | refine ic_lt (fun hc => ?_) (fun hc => ?_) | refine ic_ne (fun hc => ?_) (fun hc => ?_) | refine ic_eq (fun hc => ?_) (fun hc => ?_) | refine ic_le (fun hc => ?_) (fun hc => ?_) | refine ic_gt (fun hc => ?_) (fun hc => ?_) | refine iz_eq (fun hc => ?_) (fun hc => ?_) | refine iz_ne (fun hc => ?_) (fun hc => ?_) | refine iz_lt (fun hc => ?_) (fun hc => ?_) | refine iz_ge (fun hc => ?_) (fun hc => ?_) | refine iz_gt (fun hc => ?_) (fun hc => ?_) | refine iz_le (fun hc => ?_) (fun hc => ?_) | refine iz_nu (fun hc => ?_) (fun hc => ?_) | refine iz_nn (fun hc => ?_) (fun hc => ?_)
      | omega
      | (exfalso; omega)
    unfold L_X10_goes_228
    obtain ⟨j, hj⟩ : ∃ j : Nat, (nst r0 r1).toNat - i = j + 1 := ⟨(nst r0 r1).toNat - i - 1, by omega⟩
    have hgs : gsq C th r0 p0 r1 p1 i = ixP (vP C (lstP C th r0 r1 (frmP C th r0 r1 p1 j) (nst r0 r1 - (j + 1))) (hereP C th r0 p0 r1 p1 i)) (C 0 1 0).toNat := by unfold gsq; rw [hj]; rfl
    rw [hj] at s2
    have hmn : frmP C th r0 r1 p1 (j + 1) (hereP C th r0 p0 r1 p1 i) = mnP (vP C (lstP C th r0 r1 (frmP C th r0 r1 p1 j) (nst r0 r1 - (j + 1))) (hereP C th r0 p0 r1 p1 i)) (C 0 1 0).toNat := rfl
    have hsp := ixP_spec (vP C (lstP C th r0 r1 (frmP C th r0 r1 p1 j) (nst r0 r1 - (j + 1))) (hereP C th r0 p0 r1 p1 i)) (C 0 1 0).toNat
    rw [← hgs, ← hmn] at hsp
    have hsp := hsp.resolve_left (by omega)
    have hE2 : lvlE m C th r0 r1 p1 E' (j + 1) := fun z hz => hE' z (by omega)
    have hlv := hE' j (by omega)
    have eii : 11 * (nst r0 r1 - ((j : Int) + 1)) = 11 * (i : Int) := by omega
    rw [eii] at hlv
    refine lpw (fun n l st h c s => ∃ q : Int, l = [m, r0, p0, r1, p1, d, v, x7, hereP C th r0 p0 r1 p1 i, (i : Int), q] ∧ st = [] ∧ h = (L, R, F, E', N) ∧ 0 ≤ q ∧ q ≤ gsq C th r0 p0 r1 p1 i ∧ (n : Int) = gsq C th r0 p0 r1 p1 i - q) ?_ (n := (gsq C th r0 p0 r1 p1 i).toNat) ⟨0, rfl, rfl, rfl, by omega, by omega, by omega⟩
    rintro n2 k2 hk2 l st h c7 s7 ⟨q, rfl, rfl, rfl, hq0, hq1, hn2⟩
    have g1 := cw_g1 hW q hq0 (by omega)
    have hl := hlv q hq0 (by omega)
    have rb := rnd_b s1.1 s1.2 g1.1 g1.2
    have evq : vP C (lstP C th r0 r1 (frmP C th r0 r1 p1 j) (nst r0 r1 - (j + 1))) (hereP C th r0 p0 r1 p1 i) q = if lstP C th r0 r1 (frmP C th r0 r1 p1 j) (nst r0 r1 - (j + 1)) q < XF then lstP C th r0 r1 (frmP C th r0 r1 p1 j) (nst r0 r1 - (j + 1)) q + rnd (hereP C th r0 p0 r1 p1 i) (C 2 q 1) else XF := rfl
    unfold lmR at hl
    repeat' first
      | exact absurd hc (by decide)
      | with_reducible refine sM_of hT hM' hW ?_ ?_ ?_ ?_ ?_
      | with_reducible refine sM_round ?_ ?_ ?_ ?_ ?_
      | with_reducible refine sM_fromF hT hM' hW nb h26 hp s1.1 s1.2 (j := j + 1) ?_ ?_ hE2 ?_
      | simp (disch := omega) only [ub_X10_goes_174, ub_X10_goes_171, ub_X10_goes_97, ub_X10_goes_27, ub_X10_goes_10, ue_X10_goes, t_X10_goes, zLg, zRf, zFq, zEl, zNz, zUf, zUe, zUr, zCe, zSn, gd_0, gd_1, gd_2, gd_3, gd_4, gd_5, gd_6, gd_7, gd_8, gd_9, gd_10, gd_11, gd_12, gd_13, gd_14, gd_15, gd_16, gd_17, gd_18, gd_19, se_0, se_1, se_2, se_3, se_4, se_5, se_6, se_7, se_8, se_9, se_10, se_11, se_12, se_13, se_14, se_15, se_16, se_17, se_18, se_19, e_const, e_load, e_store, e_iinc, e_dup, e_dup2, e_pop, e_iadd, e_isub, e_imul, e_ladd, e_lsub, e_lmul, e_iaddw, e_isubw, e_imulw, e_laddw, e_lsubw, e_lmulw, e_iand, e_ior, e_ishl, e_ishr, e_iushr, e_lcmp, e_imax, e_imin, e_idiv, e_irem, e_ldiv, e_lrem, e_i2l, e_i2b, e_l2i, e_i2c, e_getF, e_getR, e_putF, e_putR, e_putz, e_ald, e_aldR, e_ast, e_astb, e_astz, e_asta, e_len, e_acopy, e_new, e_newa, e_mna, e_this, e_room, e_call0, e_callv0, e_call1, e_callv1, e_inv1, e_invv1, e_call2, e_callv2, e_inv2, e_invv2, e_call3, e_callv3, e_inv3, e_invv3, e_call4, e_callv4, e_inv4, e_invv4, e_call5, e_callv5, e_inv5, e_invv5, e_call6, e_callv6, e_inv6, e_invv6, e_call7, e_callv7, e_inv7, e_invv7, e_call8, e_callv8, e_inv8, e_invv8, e_ret, e_retz, e_retc, e_retb, e_retv, e_skip, e_sco, e_tlen, e_tat, e_iz_eq0, e_iz_eq1, e_iz_ne0, e_iz_ne1, add0, sc_d, sc_t, inI_e, inL_e, up_eq, true_or, or_true, or_false, false_or, and_true, true_and, not_false_eq_true, Int.reduceAdd, Int.reduceSub, Int.reduceMul, Int.reduceNeg, mt_24 hT, mt_l3 hT, mt_25 hT, mt_l4 hT]
      | with_reducible first | refine izl_lt (fun hc => ?_) (fun hc => ?_) | refine izl_ge (fun hc => ?_) (fun hc => ?_) | refine izl_eq (fun hc => ?_) (fun hc => ?_) | refine ic_ge (fun hc => ?_) (fun hc => ?_) | refine ic_lt (fun hc => ?_) (fun hc => ?_) | refine ic_ne (fun hc => ?_) (fun hc => ?_) | refine ic_eq (fun hc => ?_) (fun hc => ?_) | refine ic_le (fun hc => ?_) (fun hc => ?_) | refine ic_gt (fun hc => ?_) (fun hc => ?_) | refine iz_eq (fun hc => ?_) (fun hc => ?_) | refine iz_ne (fun hc => ?_) (fun hc => ?_) | refine iz_lt (fun hc => ?_) (fun hc => ?_) | refine iz_ge (fun hc => ?_) (fun hc => ?_) | refine iz_gt (fun hc => ?_) (fun hc => ?_) | refine iz_le (fun hc => ?_) (fun hc => ?_) | refine iz_nu (fun hc => ?_) (fun hc => ?_) | refine iz_nn (fun hc => ?_) (fun hc => ?_)
      | omega
      | (exfalso; omega)
    · have hqe : q = gsq C th r0 p0 r1 p1 i := by
        apply Decidable.byContradiction
        intro w
        have z := hsp.2.2.2.2 q hq0 (by omega)
        split at evq <;> omega
      have gg := cw_g1 hW _ s4 s5
      have hM2 : mM m c C F (up E' (m + 4) (i : Int) q) := hM'.fr hmc frS.rf (frA.up (by omega) (by omega))
      repeat' first
        | exact absurd hc (by decide)
        | with_reducible refine sM_of hT hM2 hW ?_ ?_ ?_ ?_ ?_
        | simp (disch := omega) only [ub_X10_goes_174, ub_X10_goes_171, ub_X10_goes_97, ub_X10_goes_27, ub_X10_goes_10, ue_X10_goes, t_X10_goes, zLg, zRf, zFq, zEl, zNz, zUf, zUe, zUr, zCe, zSn, gd_0, gd_1, gd_2, gd_3, gd_4, gd_5, gd_6, gd_7, gd_8, gd_9, gd_10, gd_11, gd_12, gd_13, gd_14, gd_15, gd_16, gd_17, gd_18, gd_19, se_0, se_1, se_2, se_3, se_4, se_5, se_6, se_7, se_8, se_9, se_10, se_11, se_12, se_13, se_14, se_15, se_16, se_17, se_18, se_19, e_const, e_load, e_store, e_iinc, e_dup, e_dup2, e_pop, e_iadd, e_isub, e_imul, e_ladd, e_lsub, e_lmul, e_iaddw, e_isubw, e_imulw, e_laddw, e_lsubw, e_lmulw, e_iand, e_ior, e_ishl, e_ishr, e_iushr, e_lcmp, e_imax, e_imin, e_idiv, e_irem, e_ldiv, e_lrem, e_i2l, e_i2b, e_l2i, e_i2c, e_getF, e_getR, e_putF, e_putR, e_putz, e_ald, e_aldR, e_ast, e_astb, e_astz, e_asta, e_len, e_acopy, e_new, e_newa, e_mna, e_this, e_room, e_call0, e_callv0, e_call1, e_callv1, e_inv1, e_invv1, e_call2, e_callv2, e_inv2, e_invv2, e_call3, e_callv3, e_inv3, e_invv3, e_call4, e_callv4, e_inv4, e_invv4, e_call5, e_callv5, e_inv5, e_invv5, e_call6, e_callv6, e_inv6, e_invv6, e_call7, e_callv7, e_inv7, e_invv7, e_call8, e_callv8, e_inv8, e_invv8, e_ret, e_retz, e_retc, e_retb, e_retv, e_skip, e_sco, e_tlen, e_tat, e_iz_eq0, e_iz_eq1, e_iz_ne0, e_iz_ne1, add0, sc_d, sc_t, inI_e, inL_e, up_eq, true_or, or_true, or_false, false_or, and_true, true_and, not_false_eq_true, Int.reduceAdd, Int.reduceSub, Int.reduceMul, Int.reduceNeg]
        | with_reducible first | refine izl_lt (fun hc => ?_) (fun hc => ?_) | refine izl_ge (fun hc => ?_) (fun hc => ?_) | refine izl_eq (fun hc => ?_) (fun hc => ?_) | refine ic_ge (fun hc => ?_) (fun hc => ?_) | refine ic_lt (fun hc => ?_) (fun hc => ?_) | refine ic_ne (fun hc => ?_) (fun hc => ?_) | refine ic_eq (fun hc => ?_) (fun hc => ?_) | refine ic_le (fun hc => ?_) (fun hc => ?_) | refine ic_gt (fun hc => ?_) (fun hc => ?_) | refine iz_eq (fun hc => ?_) (fun hc => ?_) | refine iz_ne (fun hc => ?_) (fun hc => ?_) | refine iz_lt (fun hc => ?_) (fun hc => ?_) | refine iz_ge (fun hc => ?_) (fun hc => ?_) | refine iz_gt (fun hc => ?_) (fun hc => ?_) | refine iz_le (fun hc => ?_) (fun hc => ?_) | refine iz_nu (fun hc => ?_) (fun hc => ?_) | refine iz_nn (fun hc => ?_) (fun hc => ?_)
        | omega
        | (exfalso; omega)
      refine hk (n - 1) _ _ _ _ _ (by omega) ⟨i + 1, q, up E' (m + 4) (i : Int) q, ?_, rfl, rfl, by omega, by omega, fun b j z => (up_ne (by omega)).trans (hfr b j z), fun z hz => ?_⟩
      · rw [hqe]; rfl
      · by_cases w : z = i
        · subst w; rw [up_eq]; exact hqe
        · rw [up_ne (by omega)]; exact hinv z (by omega)
    · have hlt : q < gsq C th r0 p0 r1 p1 i := by
        apply Decidable.byContradiction
        intro w
        have hqe : q = gsq C th r0 p0 r1 p1 i := by omega
        have z := hsp.2.2.1
        rw [← hqe] at z
        split at evq <;> omega
      exact hk2 (n2 - 1) _ _ _ _ _ (by omega) ⟨q + 1, rfl, rfl, rfl, by omega, by omega, by omega⟩
  · repeat' first
      | exact absurd hc (by decide)
      | simp (disch := omega) only [ub_X10_goes_174, ub_X10_goes_171, ub_X10_goes_97, ub_X10_goes_27, ub_X10_goes_10, ue_X10_goes, t_X10_goes, zLg, zRf, zFq, zEl, zNz, zUf, zUe, zUr, zCe, zSn, gd_0, gd_1, gd_2, gd_3, gd_4, gd_5, gd_6, gd_7, gd_8, gd_9, gd_10, gd_11, gd_12, gd_13, gd_14, gd_15, gd_16, gd_17, gd_18, gd_19, se_0, se_1, se_2, se_3, se_4, se_5, se_6, se_7, se_8, se_9, se_10, se_11, se_12, se_13, se_14, se_15, se_16, se_17, se_18, se_19, e_const, e_load, e_store, e_iinc, e_dup, e_dup2, e_pop, e_iadd, e_isub, e_imul, e_ladd, e_lsub, e_lmul, e_iaddw, e_isubw, e_imulw, e_laddw, e_lsubw, e_lmulw, e_iand, e_ior, e_ishl, e_ishr, e_iushr, e_lcmp, e_imax, e_imin, e_idiv, e_irem, e_ldiv, e_lrem, e_i2l, e_i2b, e_l2i, e_i2c, e_getF, e_getR, e_putF, e_putR, e_putz, e_ald, e_aldR, e_ast, e_astb, e_astz, e_asta, e_len, e_acopy, e_new, e_newa, e_mna, e_this, e_room, e_call0, e_callv0, e_call1, e_callv1, e_inv1, e_invv1, e_call2, e_callv2, e_inv2, e_invv2, e_call3, e_callv3, e_inv3, e_invv3, e_call4, e_callv4, e_inv4, e_invv4, e_call5, e_callv5, e_inv5, e_invv5, e_call6, e_callv6, e_inv6, e_invv6, e_call7, e_callv7, e_inv7, e_invv7, e_call8, e_callv8, e_inv8, e_invv8, e_ret, e_retz, e_retc, e_retb, e_retv, e_skip, e_sco, e_tlen, e_tat, e_iz_eq0, e_iz_eq1, e_iz_ne0, e_iz_ne1, add0, sc_d, sc_t, inI_e, inL_e, up_eq, true_or, or_true, or_false, false_or, and_true, true_and, not_false_eq_true, Int.reduceAdd, Int.reduceSub, Int.reduceMul, Int.reduceNeg, h26]
      | with_reducible first | refine izl_lt (fun hc => ?_) (fun hc => ?_) | refine izl_ge (fun hc => ?_) (fun hc => ?_) | refine izl_eq (fun hc => ?_) (fun hc => ?_) | refine ic_ge (fun hc => ?_) (fun hc => ?_) | refine ic_lt (fun hc => ?_) (fun hc => ?_) | refine ic_ne (fun hc => ?_) (fun hc => ?_) | refine ic_eq (fun hc => ?_) (fun hc => ?_) | refine ic_le (fun hc => ?_) (fun hc => ?_) | refine ic_gt (fun hc => ?_) (fun hc => ?_) | refine iz_eq (fun hc => ?_) (fun hc => ?_) | refine iz_ne (fun hc => ?_) (fun hc => ?_) | refine iz_lt (fun hc => ?_) (fun hc => ?_) | refine iz_ge (fun hc => ?_) (fun hc => ?_) | refine iz_gt (fun hc => ?_) (fun hc => ?_) | refine iz_le (fun hc => ?_) (fun hc => ?_) | refine iz_nu (fun hc => ?_) (fun hc => ?_) | refine iz_nn (fun hc => ?_) (fun hc => ?_)
      | omega
      | (exfalso; omega)
    exact hQ E' hfr fun q hq => hinv q (by omega)
/-- ring by ring, from the end -/
theorem goesB (hT : mtT m L R) (hTc : mcT c L R) (hRc : R m 3 = c) (hM : mM m c C F E) (hW : ctW C) (hmc : m + 16 < c) (hS : scM m th F) (hth : thW th) {r0 p0 r1 p1 d x7 x8 x9 x10 : Int} (h00 : 0 ≤ r0) (h01 : r0 < 6) (h10 : 0 ≤ r1) (h11 : r1 < 6) (h26 : F m 26 = nst r0 r1) (hp : 0 ≤ p1 ∧ p1 < 12) (hp0 : 0 ≤ p0 ∧ p0 < 12) (hd : (d = 1 ∧ r0 < r1) ∨ (d = -1 ∧ r1 ≤ r0)) {c9 s9 : Nat}
    (hQ : ∀ E' : Int → Int → Int, (∀ b j : Int, b ≠ m + 3 → b ≠ m + 4 → E' b j = E b j) → (frmP C th r0 r1 p1 (nst r0 r1).toNat p0 < XF → ∀ i : Nat, (i : Int) < nst r0 r1 → E' (m + 4) i = gsq C th r0 p0 r1 p1 i) → Q (frmP C th r0 r1 p1 (nst r0 r1).toNat p0) (L, R, F, E', N)) : L_X10_goes_74 Q [m, r0, p0, r1, p1, d, nst r0 r1 - 1, x7, x8, x9, x10] [] (L, R, F, E, N) c9 s9 := by
  have pm := mt_p hT
  have hXF : XF = 1125899906842624 := rfl
  have nb := nst_b h00 h01 h10 h11
  have b1 := cw_1 hW
  have hn0 : nst r0 r1 = if r0 < r1 then r1 - r0 else r0 - r1 := rfl
  unfold L_X10_goes_74
  refine lpw (fun n l st h c s => ∃ (j : Nat) (y7 y8 y9 y10 : Int) (E' : Int → Int → Int), l = [m, r0, p0, r1, p1, d, nst r0 r1 - 1 - j, y7, y8, y9, y10] ∧ st = [] ∧ h = (L, R, F, E', N) ∧ (j : Int) ≤ nst r0 r1 ∧ (n : Int) = nst r0 r1 - j ∧ (∀ b i : Int, b ≠ m + 3 → E' b i = E b i) ∧ lvlE m C th r0 r1 p1 E' j) ?_ (n := (nst r0 r1).toNat) ⟨0, x7, x8, x9, x10, E, by simp, rfl, rfl, by omega, by omega, fun _ _ _ => rfl, fun q hq => by omega⟩
  rintro n k hk l st h c8 s8 ⟨j, y7, y8, y9, y10, E', rfl, rfl, rfl, hj, hn, hfr, hlv⟩
  have hfA : frA m E E' := fun b j z => hfr b j (by omega)
  have hM' := hM.fr hmc frS.rf hfA
  by_cases hjn : (j : Int) < nst r0 r1
  · have hring : orng r0 r1 (nst r0 r1 - (j + 1)) = if r0 < r1 then r0 + (nst r0 r1 - (j + 1)) else r0 - (nst r0 r1 - (j + 1)) - 1 := rfl
    have body : ∀ (o y : Int), o = orng r0 r1 (nst r0 r1 - (j + 1)) → L_X10_goes_102 Q k [m, r0, p0, r1, p1, d, nst r0 r1 - 1 - j, o, 0, y9, y10] [] (L, R, F, E', N) c8 s8 := by
      intro o y ho
      unfold L_X10_goes_102
      refine lpw (fun n l st h c s => ∃ (i : Int) (E2 : Int → Int → Int), l = [m, r0, p0, r1, p1, d, nst r0 r1 - 1 - j, o, i, y9, y10] ∧ st = [] ∧ h = (L, R, F, E2, N) ∧ 0 ≤ i ∧ i ≤ C 0 1 0 ∧ (n : Int) = C 0 1 0 - i ∧ (∀ b z : Int, b ≠ m + 3 → E2 b z = E b z) ∧ lvlE m C th r0 r1 p1 E2 j ∧ ∀ g : Int, 0 ≤ g → g < i → lmR (E2 (m + 3) (11 * (nst r0 r1 - (j + 1)) + g)) (lstP C th r0 r1 (frmP C th r0 r1 p1 j) (nst r0 r1 - (j + 1)) g)) ?_ (n := (C 0 1 0).toNat) ⟨0, E', rfl, rfl, rfl, by omega, by omega, by omega, hfr, hlv, fun g _ _ => by omega⟩
      rintro n2 k2 hk2 l st h c7 s7 ⟨i, E2, rfl, rfl, rfl, hi, hi2, hn2, hfr2, hlv2, hin⟩
      have hM2 := hM.fr hmc frS.rf (fun b j z => hfr2 b j (by omega) : frA m E E2)
      by_cases hig : i < C 0 1 0
      · have g0 := cw_g0 hW i hi hig
        have g1 := cw_g1 hW i hi hig
        have gc := gcost_b hW hth hi hig
        have fg := frm_gd hW hth (r0 := r0) (r1 := r1) hp j (C 2 i 1) g1.1 g1.2 (by omega)
        unfold gdV at fg
        have el : lstP C th r0 r1 (frmP C th r0 r1 p1 j) (nst r0 r1 - (j + 1)) i = if (C 2 i 0 = orng r0 r1 (nst r0 r1 - (j + 1)) ∧ C 2 i 6 = 0 ∧ barsP C th i = 0) ∧ frmP C th r0 r1 p1 j (C 2 i 1) < XF then gcost C th i + frmP C th r0 r1 p1 j (C 2 i 1) else XF := rfl
        have next : ∀ v : Int, lmR v (lstP C th r0 r1 (frmP C th r0 r1 p1 j) (nst r0 r1 - (j + 1)) i) → k2 [m, r0, p0, r1, p1, d, nst r0 r1 - 1 - j, o, i + 1, y9, y10] [] (L, R, F, up E2 (m + 3) (11 * (nst r0 r1 - 1 - j) + i) v, N) c7 s7 := fun v hv => by
          refine hk2 (n2 - 1) _ _ _ _ _ (by omega) ⟨i + 1, _, rfl, rfl, rfl, by omega, by omega, by omega, fun b z w => (up_ne (by omega)).trans (hfr2 b z w), fun q hq g x y => ?_, fun g x y => ?_⟩
          · rw [up_ne (by omega)]
            exact hlv2 q hq g x y
          · by_cases z : g = i
            · subst z
              rw [up_at rfl (by omega)]
              exact hv
            · rw [up_ne (by omega)]
              exact hin g x (by omega)
        have far : ¬ (C 2 i 0 = orng r0 r1 (nst r0 r1 - (j + 1)) ∧ C 2 i 6 = 0 ∧ barsP C th i = 0) → lmR 1125899906842624 (lstP C th r0 r1 (frmP C th r0 r1 p1 j) (nst r0 r1 - (j + 1)) i) := fun z => by
          rw [el, if_neg (fun w => z w.1)]
          exact Or.inr ⟨by omega, by omega, rfl⟩
        repeat' first
          | exact absurd hc (by decide)
          | with_reducible refine sM_of hT hM2 hW ?_ ?_ ?_ ?_ ?_
          | with_reducible refine sM_goesThrough hT hTc hRc hM2 hW (sm_d hS) hth ?_ ?_ (fun hop => ?_) (fun hop => ?_)
          | with_reducible refine sM_paysAt hT hM2 hW hS hth ?_ ?_ ?_
          | with_reducible refine sM_fromF hT hM2 hW nb h26 hp g1.1 g1.2 (j := j) ?_ ?_ hlv2 ?_
          | simp (disch := omega) only [ub_X10_goes_174, ub_X10_goes_171, ub_X10_goes_97, ub_X10_goes_27, ub_X10_goes_10, ue_X10_goes, t_X10_goes, zLg, zRf, zFq, zEl, zNz, zUf, zUe, zUr, zCe, zSn, gd_0, gd_1, gd_2, gd_3, gd_4, gd_5, gd_6, gd_7, gd_8, gd_9, gd_10, gd_11, gd_12, gd_13, gd_14, gd_15, gd_16, gd_17, gd_18, gd_19, se_0, se_1, se_2, se_3, se_4, se_5, se_6, se_7, se_8, se_9, se_10, se_11, se_12, se_13, se_14, se_15, se_16, se_17, se_18, se_19, e_const, e_load, e_store, e_iinc, e_dup, e_dup2, e_pop, e_iadd, e_isub, e_imul, e_ladd, e_lsub, e_lmul, e_iaddw, e_isubw, e_imulw, e_laddw, e_lsubw, e_lmulw, e_iand, e_ior, e_ishl, e_ishr, e_iushr, e_lcmp, e_imax, e_imin, e_idiv, e_irem, e_ldiv, e_lrem, e_i2l, e_i2b, e_l2i, e_i2c, e_getF, e_getR, e_putF, e_putR, e_putz, e_ald, e_aldR, e_ast, e_astb, e_astz, e_asta, e_len, e_acopy, e_new, e_newa, e_mna, e_this, e_room, e_call0, e_callv0, e_call1, e_callv1, e_inv1, e_invv1, e_call2, e_callv2, e_inv2, e_invv2, e_call3, e_callv3, e_inv3, e_invv3, e_call4, e_callv4, e_inv4, e_invv4, e_call5, e_callv5, e_inv5, e_invv5, e_call6, e_callv6, e_inv6, e_invv6, e_call7, e_callv7, e_inv7, e_invv7, e_call8, e_callv8, e_inv8, e_invv8, e_ret, e_retz, e_retc, e_retb, e_retv, e_skip, e_sco, e_tlen, e_tat, e_iz_eq0, e_iz_eq1, e_iz_ne0, e_iz_ne1, add0, sc_d, sc_t, inI_e, inL_e, up_eq, true_or, or_true, or_false, false_or, and_true, true_and, not_false_eq_true, Int.reduceAdd, Int.reduceSub, Int.reduceMul, Int.reduceNeg, mm_1 hM2, mt_24 hT, mt_l3 hT]
          | with_reducible first | refine izl_lt (fun hc => ?_) (fun hc => ?_) | refine izl_ge (fun hc => ?_) (fun hc => ?_) | refine izl_eq (fun hc => ?_) (fun hc => ?_) | refine ic_ge (fun hc => ?_) (fun hc => ?_) | refine ic_lt (fun hc => ?_) (fun hc => ?_) | refine ic_ne (fun hc => ?_) (fun hc => ?_) | refine ic_eq (fun hc => ?_) (fun hc => ?_) | refine ic_le (fun hc => ?_) (fun hc => ?_) | refine ic_gt (fun hc => ?_) (fun hc => ?_) | refine iz_eq (fun hc => ?_) (fun hc => ?_) | refine iz_ne (fun hc => ?_) (fun hc => ?_) | refine iz_lt (fun hc => ?_) (fun hc => ?_) | refine iz_ge (fun hc => ?_) (fun hc => ?_) | refine iz_gt (fun hc => ?_) (fun hc => ?_) | refine iz_le (fun hc => ?_) (fun hc => ?_) | refine iz_nu (fun hc => ?_) (fun hc => ?_) | refine iz_nn (fun hc => ?_) (fun hc => ?_)
          | omega
          | (exfalso; omega)
        · exact next _ (far fun z => by omega)
        · have e9 : payP C th i * 100000 + hrsP C th i = gcost C th i := rfl
          rw [e9]
          simp (disch := omega) only [ub_X10_goes_174, ub_X10_goes_171, ub_X10_goes_97, ub_X10_goes_27, ub_X10_goes_10, ue_X10_goes, t_X10_goes, zLg, zRf, zFq, zEl, zNz, zUf, zUe, zUr, zCe, zSn, gd_0, gd_1, gd_2, gd_3, gd_4, gd_5, gd_6, gd_7, gd_8, gd_9, gd_10, gd_11, gd_12, gd_13, gd_14, gd_15, gd_16, gd_17, gd_18, gd_19, se_0, se_1, se_2, se_3, se_4, se_5, se_6, se_7, se_8, se_9, se_10, se_11, se_12, se_13, se_14, se_15, se_16, se_17, se_18, se_19, e_const, e_load, e_store, e_iinc, e_dup, e_dup2, e_pop, e_iadd, e_isub, e_imul, e_ladd, e_lsub, e_lmul, e_iaddw, e_isubw, e_imulw, e_laddw, e_lsubw, e_lmulw, e_iand, e_ior, e_ishl, e_ishr, e_iushr, e_lcmp, e_imax, e_imin, e_idiv, e_irem, e_ldiv, e_lrem, e_i2l, e_i2b, e_l2i, e_i2c, e_getF, e_getR, e_putF, e_putR, e_putz, e_ald, e_aldR, e_ast, e_astb, e_astz, e_asta, e_len, e_acopy, e_new, e_newa, e_mna, e_this, e_room, e_call0, e_callv0, e_call1, e_callv1, e_inv1, e_invv1, e_call2, e_callv2, e_inv2, e_invv2, e_call3, e_callv3, e_inv3, e_invv3, e_call4, e_callv4, e_inv4, e_invv4, e_call5, e_callv5, e_inv5, e_invv5, e_call6, e_callv6, e_inv6, e_invv6, e_call7, e_callv7, e_inv7, e_invv7, e_call8, e_callv8, e_inv8, e_invv8, e_ret, e_retz, e_retc, e_retb, e_retv, e_skip, e_sco, e_tlen, e_tat, e_iz_eq0, e_iz_eq1, e_iz_ne0, e_iz_ne1, add0, sc_d, sc_t, inI_e, inL_e, up_eq, true_or, or_true, or_false, false_or, and_true, true_and, not_false_eq_true, Int.reduceAdd, Int.reduceSub, Int.reduceMul, Int.reduceNeg, mt_24 hT, mt_l3 hT]
          refine next _ ?_
          rw [el]
          by_cases hf : frmP C th r0 r1 p1 j (C 2 i 1) < XF
          · rw [if_pos ⟨⟨by omega, hop⟩, hf⟩]
            exact Or.inl ⟨by omega, by omega, rfl⟩
          · rw [if_neg (fun w => hf w.2)]
            exact Or.inr ⟨by omega, by omega, rfl⟩
        · exact next _ (far fun z => hop z.2)
      · repeat' first
          | exact absurd hc (by decide)
          | simp (disch := omega) only [ub_X10_goes_174, ub_X10_goes_171, ub_X10_goes_97, ub_X10_goes_27, ub_X10_goes_10, ue_X10_goes, t_X10_goes, zLg, zRf, zFq, zEl, zNz, zUf, zUe, zUr, zCe, zSn, gd_0, gd_1, gd_2, gd_3, gd_4, gd_5, gd_6, gd_7, gd_8, gd_9, gd_10, gd_11, gd_12, gd_13, gd_14, gd_15, gd_16, gd_17, gd_18, gd_19, se_0, se_1, se_2, se_3, se_4, se_5, se_6, se_7, se_8, se_9, se_10, se_11, se_12, se_13, se_14, se_15, se_16, se_17, se_18, se_19, e_const, e_load, e_store, e_iinc, e_dup, e_dup2, e_pop, e_iadd, e_isub, e_imul, e_ladd, e_lsub, e_lmul, e_iaddw, e_isubw, e_imulw, e_laddw, e_lsubw, e_lmulw, e_iand, e_ior, e_ishl, e_ishr, e_iushr, e_lcmp, e_imax, e_imin, e_idiv, e_irem, e_ldiv, e_lrem, e_i2l, e_i2b, e_l2i, e_i2c, e_getF, e_getR, e_putF, e_putR, e_putz, e_ald, e_aldR, e_ast, e_astb, e_astz, e_asta, e_len, e_acopy, e_new, e_newa, e_mna, e_this, e_room, e_call0, e_callv0, e_call1, e_callv1, e_inv1, e_invv1, e_call2, e_callv2, e_inv2, e_invv2, e_call3, e_callv3, e_inv3, e_invv3, e_call4, e_callv4, e_inv4, e_invv4, e_call5, e_callv5, e_inv5, e_invv5, e_call6, e_callv6, e_inv6, e_invv6, e_call7, e_callv7, e_inv7, e_invv7, e_call8, e_callv8, e_inv8, e_invv8, e_ret, e_retz, e_retc, e_retb, e_retv, e_skip, e_sco, e_tlen, e_tat, e_iz_eq0, e_iz_eq1, e_iz_ne0, e_iz_ne1, add0, sc_d, sc_t, inI_e, inL_e, up_eq, true_or, or_true, or_false, false_or, and_true, true_and, not_false_eq_true, Int.reduceAdd, Int.reduceSub, Int.reduceMul, Int.reduceNeg, mm_1 hM2]
          | with_reducible first | refine izl_lt (fun hc => ?_) (fun hc => ?_) | refine izl_ge (fun hc => ?_) (fun hc => ?_) | refine izl_eq (fun hc => ?_) (fun hc => ?_) | refine ic_ge (fun hc => ?_) (fun hc => ?_) | refine ic_lt (fun hc => ?_) (fun hc => ?_) | refine ic_ne (fun hc => ?_) (fun hc => ?_) | refine ic_eq (fun hc => ?_) (fun hc => ?_) | refine ic_le (fun hc => ?_) (fun hc => ?_) | refine ic_gt (fun hc => ?_) (fun hc => ?_) | refine iz_eq (fun hc => ?_) (fun hc => ?_) | refine iz_ne (fun hc => ?_) (fun hc => ?_) | refine iz_lt (fun hc => ?_) (fun hc => ?_) | refine iz_ge (fun hc => ?_) (fun hc => ?_) | refine iz_gt (fun hc => ?_) (fun hc => ?_) | refine iz_le (fun hc => ?_) (fun hc => ?_) | refine iz_nu (fun hc => ?_) (fun hc => ?_) | refine iz_nn (fun hc => ?_) (fun hc => ?_)
          | omega
          | (exfalso; omega)
        refine hk (n - 1) _ _ _ _ _ (by omega) ⟨j + 1, o, i, y9, y10, E2, ?_, rfl, rfl, by omega, by omega, hfr2, fun q hq g x y => ?_⟩
        · have : nst r0 r1 - 1 - (j : Int) + -1 = nst r0 r1 - 1 - ((j + 1 : Nat) : Int) := by omega
          rw [this]
        · by_cases z : q = j
          · subst z; exact hin g x (by omega)
          · exact hlv2 q (by omega) g x y
    rcases hd with ⟨rfl, hd⟩ | ⟨rfl, hd⟩
    · rw [if_pos hd] at hring
      repeat' first
        | exact absurd hc (by decide)
        | simp (disch := omega) only [ub_X10_goes_174, ub_X10_goes_171, ub_X10_goes_97, ub_X10_goes_27, ub_X10_goes_10, ue_X10_goes, t_X10_goes, zLg, zRf, zFq, zEl, zNz, zUf, zUe, zUr, zCe, zSn, gd_0, gd_1, gd_2, gd_3, gd_4, gd_5, gd_6, gd_7, gd_8, gd_9, gd_10, gd_11, gd_12, gd_13, gd_14, gd_15, gd_16, gd_17, gd_18, gd_19, se_0, se_1, se_2, se_3, se_4, se_5, se_6, se_7, se_8, se_9, se_10, se_11, se_12, se_13, se_14, se_15, se_16, se_17, se_18, se_19, e_const, e_load, e_store, e_iinc, e_dup, e_dup2, e_pop, e_iadd, e_isub, e_imul, e_ladd, e_lsub, e_lmul, e_iaddw, e_isubw, e_imulw, e_laddw, e_lsubw, e_lmulw, e_iand, e_ior, e_ishl, e_ishr, e_iushr, e_lcmp, e_imax, e_imin, e_idiv, e_irem, e_ldiv, e_lrem, e_i2l, e_i2b, e_l2i, e_i2c, e_getF, e_getR, e_putF, e_putR, e_putz, e_ald, e_aldR, e_ast, e_astb, e_astz, e_asta, e_len, e_acopy, e_new, e_newa, e_mna, e_this, e_room, e_call0, e_callv0, e_call1, e_callv1, e_inv1, e_invv1, e_call2, e_callv2, e_inv2, e_invv2, e_call3, e_callv3, e_inv3, e_invv3, e_call4, e_callv4, e_inv4, e_invv4, e_call5, e_callv5, e_inv5, e_invv5, e_call6, e_callv6, e_inv6, e_invv6, e_call7, e_callv7, e_inv7, e_invv7, e_call8, e_callv8, e_inv8, e_invv8, e_ret, e_retz, e_retc, e_retb, e_retv, e_skip, e_sco, e_tlen, e_tat, e_iz_eq0, e_iz_eq1, e_iz_ne0, e_iz_ne1, add0, sc_d, sc_t, inI_e, inL_e, up_eq, true_or, or_true, or_false, false_or, and_true, true_and, not_false_eq_true, Int.reduceAdd, Int.reduceSub, Int.reduceMul, Int.reduceNeg]
        | with_reducible first | refine izl_lt (fun hc => ?_) (fun hc => ?_) | refine izl_ge (fun hc => ?_) (fun hc => ?_) | refine izl_eq (fun hc => ?_) (fun hc => ?_) | refine ic_ge (fun hc => ?_) (fun hc => ?_) | refine ic_lt (fun hc => ?_) (fun hc => ?_) | refine ic_ne (fun hc => ?_) (fun hc => ?_) | refine ic_eq (fun hc => ?_) (fun hc => ?_) | refine ic_le (fun hc => ?_) (fun hc => ?_) | refine ic_gt (fun hc => ?_) (fun hc => ?_) | refine iz_eq (fun hc => ?_) (fun hc => ?_) | refine iz_ne (fun hc => ?_) (fun hc => ?_) | refine iz_lt (fun hc => ?_) (fun hc => ?_) | refine iz_ge (fun hc => ?_) (fun hc => ?_) | refine iz_gt (fun hc => ?_) (fun hc => ?_) | refine iz_le (fun hc => ?_) (fun hc => ?_) | refine iz_nu (fun hc => ?_) (fun hc => ?_) | refine iz_nn (fun hc => ?_) (fun hc => ?_)
        | omega
        | (exfalso; omega)
      exact body _ y7 (by omega)
    · rw [if_neg (by omega)] at hring
      repeat' first
        | exact absurd hc (by decide)
        | simp (disch := omega) only [ub_X10_goes_174, ub_X10_goes_171, ub_X10_goes_97, ub_X10_goes_27, ub_X10_goes_10, ue_X10_goes, t_X10_goes, zLg, zRf, zFq, zEl, zNz, zUf, zUe, zUr, zCe, zSn, gd_0, gd_1, gd_2, gd_3, gd_4, gd_5, gd_6, gd_7, gd_8, gd_9, gd_10, gd_11, gd_12, gd_13, gd_14, gd_15, gd_16, gd_17, gd_18, gd_19, se_0, se_1, se_2, se_3, se_4, se_5, se_6, se_7, se_8, se_9, se_10, se_11, se_12, se_13, se_14, se_15, se_16, se_17, se_18, se_19, e_const, e_load, e_store, e_iinc, e_dup, e_dup2, e_pop, e_iadd, e_isub, e_imul, e_ladd, e_lsub, e_lmul, e_iaddw, e_isubw, e_imulw, e_laddw, e_lsubw, e_lmulw, e_iand, e_ior, e_ishl, e_ishr, e_iushr, e_lcmp, e_imax, e_imin, e_idiv, e_irem, e_ldiv, e_lrem, e_i2l, e_i2b, e_l2i, e_i2c, e_getF, e_getR, e_putF, e_putR, e_putz, e_ald, e_aldR, e_ast, e_astb, e_astz, e_asta, e_len, e_acopy, e_new, e_newa, e_mna, e_this, e_room, e_call0, e_callv0, e_call1, e_callv1, e_inv1, e_invv1, e_call2, e_callv2, e_inv2, e_invv2, e_call3, e_callv3, e_inv3, e_invv3, e_call4, e_callv4, e_inv4, e_invv4, e_call5, e_callv5, e_inv5, e_invv5, e_call6, e_callv6, e_inv6, e_invv6, e_call7, e_callv7, e_inv7, e_invv7, e_call8, e_callv8, e_inv8, e_invv8, e_ret, e_retz, e_retc, e_retb, e_retv, e_skip, e_sco, e_tlen, e_tat, e_iz_eq0, e_iz_eq1, e_iz_ne0, e_iz_ne1, add0, sc_d, sc_t, inI_e, inL_e, up_eq, true_or, or_true, or_false, false_or, and_true, true_and, not_false_eq_true, Int.reduceAdd, Int.reduceSub, Int.reduceMul, Int.reduceNeg]
        | with_reducible first | refine izl_lt (fun hc => ?_) (fun hc => ?_) | refine izl_ge (fun hc => ?_) (fun hc => ?_) | refine izl_eq (fun hc => ?_) (fun hc => ?_) | refine ic_ge (fun hc => ?_) (fun hc => ?_) | refine ic_lt (fun hc => ?_) (fun hc => ?_) | refine ic_ne (fun hc => ?_) (fun hc => ?_) | refine ic_eq (fun hc => ?_) (fun hc => ?_) | refine ic_le (fun hc => ?_) (fun hc => ?_) | refine ic_gt (fun hc => ?_) (fun hc => ?_) | refine iz_eq (fun hc => ?_) (fun hc => ?_) | refine iz_ne (fun hc => ?_) (fun hc => ?_) | refine iz_lt (fun hc => ?_) (fun hc => ?_) | refine iz_ge (fun hc => ?_) (fun hc => ?_) | refine iz_gt (fun hc => ?_) (fun hc => ?_) | refine iz_le (fun hc => ?_) (fun hc => ?_) | refine iz_nu (fun hc => ?_) (fun hc => ?_) | refine iz_nn (fun hc => ?_) (fun hc => ?_)
        | omega
        | (exfalso; omega)
      exact body _ y7 (by omega)
  · have hje : j = (nst r0 r1).toNat := by omega
    subst hje
    repeat' first
      | exact absurd hc (by decide)
      | with_reducible refine sM_fromF hT hM' hW nb h26 hp hp0.1 hp0.2 (j := (nst r0 r1).toNat) ?_ ?_ hlv ?_
      | simp (disch := omega) only [ub_X10_goes_174, ub_X10_goes_171, ub_X10_goes_97, ub_X10_goes_27, ub_X10_goes_10, ue_X10_goes, t_X10_goes, zLg, zRf, zFq, zEl, zNz, zUf, zUe, zUr, zCe, zSn, gd_0, gd_1, gd_2, gd_3, gd_4, gd_5, gd_6, gd_7, gd_8, gd_9, gd_10, gd_11, gd_12, gd_13, gd_14, gd_15, gd_16, gd_17, gd_18, gd_19, se_0, se_1, se_2, se_3, se_4, se_5, se_6, se_7, se_8, se_9, se_10, se_11, se_12, se_13, se_14, se_15, se_16, se_17, se_18, se_19, e_const, e_load, e_store, e_iinc, e_dup, e_dup2, e_pop, e_iadd, e_isub, e_imul, e_ladd, e_lsub, e_lmul, e_iaddw, e_isubw, e_imulw, e_laddw, e_lsubw, e_lmulw, e_iand, e_ior, e_ishl, e_ishr, e_iushr, e_lcmp, e_imax, e_imin, e_idiv, e_irem, e_ldiv, e_lrem, e_i2l, e_i2b, e_l2i, e_i2c, e_getF, e_getR, e_putF, e_putR, e_putz, e_ald, e_aldR, e_ast, e_astb, e_astz, e_asta, e_len, e_acopy, e_new, e_newa, e_mna, e_this, e_room, e_call0, e_callv0, e_call1, e_callv1, e_inv1, e_invv1, e_call2, e_callv2, e_inv2, e_invv2, e_call3, e_callv3, e_inv3, e_invv3, e_call4, e_callv4, e_inv4, e_invv4, e_call5, e_callv5, e_inv5, e_invv5, e_call6, e_callv6, e_inv6, e_invv6, e_call7, e_callv7, e_inv7, e_invv7, e_call8, e_callv8, e_inv8, e_invv8, e_ret, e_retz, e_retc, e_retb, e_retv, e_skip, e_sco, e_tlen, e_tat, e_iz_eq0, e_iz_eq1, e_iz_ne0, e_iz_ne1, add0, sc_d, sc_t, inI_e, inL_e, up_eq, true_or, or_true, or_false, false_or, and_true, true_and, not_false_eq_true, Int.reduceAdd, Int.reduceSub, Int.reduceMul, Int.reduceNeg]
      | with_reducible first | refine izl_lt (fun hc => ?_) (fun hc => ?_) | refine izl_ge (fun hc => ?_) (fun hc => ?_) | refine izl_eq (fun hc => ?_) (fun hc => ?_) | refine ic_ge (fun hc => ?_) (fun hc => ?_) | refine ic_lt (fun hc => ?_) (fun hc => ?_) | refine ic_ne (fun hc => ?_) (fun hc => ?_) | refine ic_eq (fun hc => ?_) (fun hc => ?_) | refine ic_le (fun hc => ?_) (fun hc => ?_) | refine ic_gt (fun hc => ?_) (fun hc => ?_) | refine iz_eq (fun hc => ?_) (fun hc => ?_) | refine iz_ne (fun hc => ?_) (fun hc => ?_) | refine iz_lt (fun hc => ?_) (fun hc => ?_) | refine iz_ge (fun hc => ?_) (fun hc => ?_) | refine iz_gt (fun hc => ?_) (fun hc => ?_) | refine iz_le (fun hc => ?_) (fun hc => ?_) | refine iz_nu (fun hc => ?_) (fun hc => ?_) | refine iz_nn (fun hc => ?_) (fun hc => ?_)
      | omega
      | (exfalso; omega)
    · exact goesC hT hM' hW hmc (x8 := 0) (x9 := 0) h00 h01 h10 h11 h26 hp hp0 hlv (by omega) fun E3 q1 q2 => hQ E3 (fun b j z1 z2 => (q1 b j z2).trans (hfr b j z1)) fun _ => q2
    · have hg := frm_gd hW hth (r0 := r0) (r1 := r1) hp (nst r0 r1).toNat p0 hp0.1 hp0.2 (by omega)
      have hx : frmP C th r0 r1 p1 (nst r0 r1).toNat p0 = 1125899906842624 := by
        unfold gdV at hg
        omega
      rw [hx] at hQ
      exact hQ E' (fun b j z1 _ => hfr b j z1) fun z => absurd z (by omega)
theorem sM_goes (hT : mtT m L R) (hTc : mcT c L R) (hRc : R m 3 = c) (hM : mM m c C F E) (hW : ctW C) (hmc : m + 16 < c) (hS : scM m th F) (hth : thW th) {r0 p0 r1 p1 : Int} (h00 : 0 ≤ r0) (h01 : r0 < C 0 0 0) (h10 : 0 ≤ r1) (h11 : r1 < C 0 0 0) (hp : 0 ≤ p1 ∧ p1 < 12) (hp0 : 0 ≤ p0 ∧ p0 < 12)
    (hQ : ∀ E' : Int → Int → Int, (∀ b j : Int, b ≠ m + 3 → b ≠ m + 4 → E' b j = E b j) → (wcost C th r0 p0 r1 p1 < XF → ∀ i : Nat, (i : Int) < nst r0 r1 → E' (m + 4) i = gsq C th r0 p0 r1 p1 i) → Q (wcost C th r0 p0 r1 p1) (L, R, up F m 26 (nst r0 r1), E', N)) : T_X10_goes [m, r0, p0, r1, p1] (L, R, F, E, N) Q := by
  have pm := mt_p hT
  have b0 := cw_0 hW
  have hXF : XF = 1125899906842624 := rfl
  have nb := nst_b h00 (by omega) h10 (by omega)
  have hn0 : nst r0 r1 = if r0 < r1 then r1 - r0 else r0 - r1 := rfl
  have hM' : mM m c C (up F m 26 (nst r0 r1)) E := hM.fr hmc (frS.up (by omega) (by omega)) frA.rf
  have hS' : scM m th (up F m 26 (nst r0 r1)) := hS.fr fun j x y => up_ne (by omega)
  have body : ∀ d x7 x8 x9 x10 : Int, ((d = 1 ∧ r0 < r1) ∨ (d = -1 ∧ r1 ≤ r0)) → ∀ c9 s9 : Nat, L_X10_goes_33 Q [m, r0, p0, r1, p1, d, 0, x7, x8, x9, x10] [] (L, R, up F m 26 (nst r0 r1), E, N) c9 s9 := by
    intro d x7 x8 x9 x10 hd c9 s9
    unfold L_X10_goes_33
    refine lpw (fun n l st h c s => ∃ i : Int, l = [m, r0, p0, r1, p1, d, i, x7, x8, x9, x10] ∧ st = [] ∧ h = (L, R, up F m 26 (nst r0 r1), E, N) ∧ 0 ≤ i ∧ (n : Int) = nst r0 r1 + 1 - i ∧ ∀ q : Int, 0 ≤ q → q < i → bornP C th (if r0 < r1 then r0 + q else r0 - q)) ?_ (n := (nst r0 r1 + 1).toNat) ⟨0, rfl, rfl, rfl, by omega, by omega, fun q _ _ => by omega⟩
    rintro n k hk l st h c8 s8 ⟨i, rfl, rfl, rfl, hi, hn, hinv⟩
    have done : ¬ i ≤ nst r0 r1 → L_X10_goes_74 Q [m, r0, p0, r1, p1, d, nst r0 r1 - 1, x7, x8, x9, x10] [] (L, R, up F m 26 (nst r0 r1), E, N) c8 s8 := fun hni => by
      have hall : allB C th r0 r1 := fun r y z => by
        by_cases hlt : r0 < r1
        · have := hinv (r - r0) (by omega) (by rw [if_pos hlt] at hn0; omega)
          rw [if_pos hlt] at this
          have e : r0 + (r - r0) = r := by omega
          rw [e] at this
          exact this
        · have := hinv (r0 - r) (by omega) (by rw [if_neg hlt] at hn0; omega)
          rw [if_neg hlt] at this
          have e : r0 - (r0 - r) = r := by omega
          rw [e] at this
          exact this
      have hwc : wcost C th r0 p0 r1 p1 = frmP C th r0 r1 p1 (nst r0 r1).toNat p0 := if_pos (bI_t hall)
      rw [hwc] at hQ
      exact goesB hT hTc hRc hM' hW hmc hS' hth h00 (by omega) h10 (by omega) up_eq hp hp0 hd fun E' q1 q2 => hQ E' q1 q2
    have bad : ∀ q : Int, 0 ≤ q → q ≤ nst r0 r1 → ¬ bornP C th (if r0 < r1 then r0 + q else r0 - q) → Q 1125899906842624 (L, R, up F m 26 (nst r0 r1), E, N) := fun q q0 q1 hnb => by
      have hall : ¬ allB C th r0 r1 := fun z => hnb (z _ (by split <;> omega) (by split at hn0 <;> split <;> omega))
      have hwc : wcost C th r0 p0 r1 p1 = XF := if_neg (by rw [bI_f hall]; decide)
      rw [hwc] at hQ
      exact hQ E (fun _ _ _ _ => rfl) fun z => absurd z (by omega)
    rcases hd with ⟨rfl, hd⟩ | ⟨rfl, hd⟩
    · rw [if_pos hd] at hn0
      simp only [if_pos hd] at hinv bad
      repeat' first
        | exact absurd hc (by decide)
        | with_reducible refine sM_isBorne hT hTc hRc hM' hW hS' hth ?_ ?_ (fun hb => ?_) (fun hb => ?_)
        | simp (disch := omega) only [ub_X10_goes_174, ub_X10_goes_171, ub_X10_goes_97, ub_X10_goes_27, ub_X10_goes_10, ue_X10_goes, t_X10_goes, zLg, zRf, zFq, zEl, zNz, zUf, zUe, zUr, zCe, zSn, gd_0, gd_1, gd_2, gd_3, gd_4, gd_5, gd_6, gd_7, gd_8, gd_9, gd_10, gd_11, gd_12, gd_13, gd_14, gd_15, gd_16, gd_17, gd_18, gd_19, se_0, se_1, se_2, se_3, se_4, se_5, se_6, se_7, se_8, se_9, se_10, se_11, se_12, se_13, se_14, se_15, se_16, se_17, se_18, se_19, e_const, e_load, e_store, e_iinc, e_dup, e_dup2, e_pop, e_iadd, e_isub, e_imul, e_ladd, e_lsub, e_lmul, e_iaddw, e_isubw, e_imulw, e_laddw, e_lsubw, e_lmulw, e_iand, e_ior, e_ishl, e_ishr, e_iushr, e_lcmp, e_imax, e_imin, e_idiv, e_irem, e_ldiv, e_lrem, e_i2l, e_i2b, e_l2i, e_i2c, e_getF, e_getR, e_putF, e_putR, e_putz, e_ald, e_aldR, e_ast, e_astb, e_astz, e_asta, e_len, e_acopy, e_new, e_newa, e_mna, e_this, e_room, e_call0, e_callv0, e_call1, e_callv1, e_inv1, e_invv1, e_call2, e_callv2, e_inv2, e_invv2, e_call3, e_callv3, e_inv3, e_invv3, e_call4, e_callv4, e_inv4, e_invv4, e_call5, e_callv5, e_inv5, e_invv5, e_call6, e_callv6, e_inv6, e_invv6, e_call7, e_callv7, e_inv7, e_invv7, e_call8, e_callv8, e_inv8, e_invv8, e_ret, e_retz, e_retc, e_retb, e_retv, e_skip, e_sco, e_tlen, e_tat, e_iz_eq0, e_iz_eq1, e_iz_ne0, e_iz_ne1, add0, sc_d, sc_t, inI_e, inL_e, up_eq, true_or, or_true, or_false, false_or, and_true, true_and, not_false_eq_true, Int.reduceAdd, Int.reduceSub, Int.reduceMul, Int.reduceNeg]
        | with_reducible first | refine izl_lt (fun hc => ?_) (fun hc => ?_) | refine izl_ge (fun hc => ?_) (fun hc => ?_) | refine izl_eq (fun hc => ?_) (fun hc => ?_) | refine ic_ge (fun hc => ?_) (fun hc => ?_) | refine ic_lt (fun hc => ?_) (fun hc => ?_) | refine ic_ne (fun hc => ?_) (fun hc => ?_) | refine ic_eq (fun hc => ?_) (fun hc => ?_) | refine ic_le (fun hc => ?_) (fun hc => ?_) | refine ic_gt (fun hc => ?_) (fun hc => ?_) | refine iz_eq (fun hc => ?_) (fun hc => ?_) | refine iz_ne (fun hc => ?_) (fun hc => ?_) | refine iz_lt (fun hc => ?_) (fun hc => ?_) | refine iz_ge (fun hc => ?_) (fun hc => ?_) | refine iz_gt (fun hc => ?_) (fun hc => ?_) | refine iz_le (fun hc => ?_) (fun hc => ?_) | refine iz_nu (fun hc => ?_) (fun hc => ?_) | refine iz_nn (fun hc => ?_) (fun hc => ?_)
        | omega
        | (exfalso; omega)
      · exact done (by omega)
      · rw [Int.mul_one] at hb
        refine hk (n - 1) _ _ _ _ _ (by omega) ⟨i + 1, rfl, rfl, rfl, by omega, by omega, fun q x y => ?_⟩
        rw [if_pos hd]
        by_cases z : q = i
        · subst z; exact hb
        · exact hinv q x (by omega)
      · rw [Int.mul_one] at hb
        exact bad i hi (by omega) hb
    · have hd' : ¬ r0 < r1 := by omega
      rw [if_neg hd'] at hn0
      simp only [if_neg hd'] at hinv bad
      have em : ∀ i : Int, r0 + i * -1 = r0 - i := fun i => by omega
      repeat' first
        | exact absurd hc (by decide)
        | with_reducible refine sM_isBorne hT hTc hRc hM' hW hS' hth ?_ ?_ (fun hb => ?_) (fun hb => ?_)
        | simp (disch := omega) only [ub_X10_goes_174, ub_X10_goes_171, ub_X10_goes_97, ub_X10_goes_27, ub_X10_goes_10, ue_X10_goes, t_X10_goes, zLg, zRf, zFq, zEl, zNz, zUf, zUe, zUr, zCe, zSn, gd_0, gd_1, gd_2, gd_3, gd_4, gd_5, gd_6, gd_7, gd_8, gd_9, gd_10, gd_11, gd_12, gd_13, gd_14, gd_15, gd_16, gd_17, gd_18, gd_19, se_0, se_1, se_2, se_3, se_4, se_5, se_6, se_7, se_8, se_9, se_10, se_11, se_12, se_13, se_14, se_15, se_16, se_17, se_18, se_19, e_const, e_load, e_store, e_iinc, e_dup, e_dup2, e_pop, e_iadd, e_isub, e_imul, e_ladd, e_lsub, e_lmul, e_iaddw, e_isubw, e_imulw, e_laddw, e_lsubw, e_lmulw, e_iand, e_ior, e_ishl, e_ishr, e_iushr, e_lcmp, e_imax, e_imin, e_idiv, e_irem, e_ldiv, e_lrem, e_i2l, e_i2b, e_l2i, e_i2c, e_getF, e_getR, e_putF, e_putR, e_putz, e_ald, e_aldR, e_ast, e_astb, e_astz, e_asta, e_len, e_acopy, e_new, e_newa, e_mna, e_this, e_room, e_call0, e_callv0, e_call1, e_callv1, e_inv1, e_invv1, e_call2, e_callv2, e_inv2, e_invv2, e_call3, e_callv3, e_inv3, e_invv3, e_call4, e_callv4, e_inv4, e_invv4, e_call5, e_callv5, e_inv5, e_invv5, e_call6, e_callv6, e_inv6, e_invv6, e_call7, e_callv7, e_inv7, e_invv7, e_call8, e_callv8, e_inv8, e_invv8, e_ret, e_retz, e_retc, e_retb, e_retv, e_skip, e_sco, e_tlen, e_tat, e_iz_eq0, e_iz_eq1, e_iz_ne0, e_iz_ne1, add0, sc_d, sc_t, inI_e, inL_e, up_eq, true_or, or_true, or_false, false_or, and_true, true_and, not_false_eq_true, Int.reduceAdd, Int.reduceSub, Int.reduceMul, Int.reduceNeg, em]
        | with_reducible first | refine izl_lt (fun hc => ?_) (fun hc => ?_) | refine izl_ge (fun hc => ?_) (fun hc => ?_) | refine izl_eq (fun hc => ?_) (fun hc => ?_) | refine ic_ge (fun hc => ?_) (fun hc => ?_) | refine ic_lt (fun hc => ?_) (fun hc => ?_) | refine ic_ne (fun hc => ?_) (fun hc => ?_) | refine ic_eq (fun hc => ?_) (fun hc => ?_) | refine ic_le (fun hc => ?_) (fun hc => ?_) | refine ic_gt (fun hc => ?_) (fun hc => ?_) | refine iz_eq (fun hc => ?_) (fun hc => ?_) | refine iz_ne (fun hc => ?_) (fun hc => ?_) | refine iz_lt (fun hc => ?_) (fun hc => ?_) | refine iz_ge (fun hc => ?_) (fun hc => ?_) | refine iz_gt (fun hc => ?_) (fun hc => ?_) | refine iz_le (fun hc => ?_) (fun hc => ?_) | refine iz_nu (fun hc => ?_) (fun hc => ?_) | refine iz_nn (fun hc => ?_) (fun hc => ?_)
        | omega
        | (exfalso; omega)
      · exact done (by omega)
      · refine hk (n - 1) _ _ _ _ _ (by omega) ⟨i + 1, rfl, rfl, rfl, by omega, by omega, fun q x y => ?_⟩
        rw [if_neg hd']
        by_cases z : q = i
        · subst z; exact hb
        · exact hinv q x (by omega)
      · exact bad i hi (by omega) hb
  by_cases hlt : r0 < r1
  · have e : r1 - r0 = nst r0 r1 := by rw [hn0, if_pos hlt]
    repeat' first
      | exact absurd hc (by decide)
      | simp (disch := omega) only [ub_X10_goes_174, ub_X10_goes_171, ub_X10_goes_97, ub_X10_goes_27, ub_X10_goes_10, ue_X10_goes, t_X10_goes, zLg, zRf, zFq, zEl, zNz, zUf, zUe, zUr, zCe, zSn, gd_0, gd_1, gd_2, gd_3, gd_4, gd_5, gd_6, gd_7, gd_8, gd_9, gd_10, gd_11, gd_12, gd_13, gd_14, gd_15, gd_16, gd_17, gd_18, gd_19, se_0, se_1, se_2, se_3, se_4, se_5, se_6, se_7, se_8, se_9, se_10, se_11, se_12, se_13, se_14, se_15, se_16, se_17, se_18, se_19, e_const, e_load, e_store, e_iinc, e_dup, e_dup2, e_pop, e_iadd, e_isub, e_imul, e_ladd, e_lsub, e_lmul, e_iaddw, e_isubw, e_imulw, e_laddw, e_lsubw, e_lmulw, e_iand, e_ior, e_ishl, e_ishr, e_iushr, e_lcmp, e_imax, e_imin, e_idiv, e_irem, e_ldiv, e_lrem, e_i2l, e_i2b, e_l2i, e_i2c, e_getF, e_getR, e_putF, e_putR, e_putz, e_ald, e_aldR, e_ast, e_astb, e_astz, e_asta, e_len, e_acopy, e_new, e_newa, e_mna, e_this, e_room, e_call0, e_callv0, e_call1, e_callv1, e_inv1, e_invv1, e_call2, e_callv2, e_inv2, e_invv2, e_call3, e_callv3, e_inv3, e_invv3, e_call4, e_callv4, e_inv4, e_invv4, e_call5, e_callv5, e_inv5, e_invv5, e_call6, e_callv6, e_inv6, e_invv6, e_call7, e_callv7, e_inv7, e_invv7, e_call8, e_callv8, e_inv8, e_invv8, e_ret, e_retz, e_retc, e_retb, e_retv, e_skip, e_sco, e_tlen, e_tat, e_iz_eq0, e_iz_eq1, e_iz_ne0, e_iz_ne1, add0, sc_d, sc_t, inI_e, inL_e, up_eq, true_or, or_true, or_false, false_or, and_true, true_and, not_false_eq_true, Int.reduceAdd, Int.reduceSub, Int.reduceMul, Int.reduceNeg, e]
      | with_reducible first | refine izl_lt (fun hc => ?_) (fun hc => ?_) | refine izl_ge (fun hc => ?_) (fun hc => ?_) | refine izl_eq (fun hc => ?_) (fun hc => ?_) | refine ic_ge (fun hc => ?_) (fun hc => ?_) | refine ic_lt (fun hc => ?_) (fun hc => ?_) | refine ic_ne (fun hc => ?_) (fun hc => ?_) | refine ic_eq (fun hc => ?_) (fun hc => ?_) | refine ic_le (fun hc => ?_) (fun hc => ?_) | refine ic_gt (fun hc => ?_) (fun hc => ?_) | refine iz_eq (fun hc => ?_) (fun hc => ?_) | refine iz_ne (fun hc => ?_) (fun hc => ?_) | refine iz_lt (fun hc => ?_) (fun hc => ?_) | refine iz_ge (fun hc => ?_) (fun hc => ?_) | refine iz_gt (fun hc => ?_) (fun hc => ?_) | refine iz_le (fun hc => ?_) (fun hc => ?_) | refine iz_nu (fun hc => ?_) (fun hc => ?_) | refine iz_nn (fun hc => ?_) (fun hc => ?_)
      | omega
      | (exfalso; omega)
    exact body 1 0 0 0 0 (Or.inl ⟨rfl, hlt⟩) _ _
  · have e : r0 - r1 = nst r0 r1 := by rw [hn0, if_neg hlt]
    repeat' first
      | exact absurd hc (by decide)
      | simp (disch := omega) only [ub_X10_goes_174, ub_X10_goes_171, ub_X10_goes_97, ub_X10_goes_27, ub_X10_goes_10, ue_X10_goes, t_X10_goes, zLg, zRf, zFq, zEl, zNz, zUf, zUe, zUr, zCe, zSn, gd_0, gd_1, gd_2, gd_3, gd_4, gd_5, gd_6, gd_7, gd_8, gd_9, gd_10, gd_11, gd_12, gd_13, gd_14, gd_15, gd_16, gd_17, gd_18, gd_19, se_0, se_1, se_2, se_3, se_4, se_5, se_6, se_7, se_8, se_9, se_10, se_11, se_12, se_13, se_14, se_15, se_16, se_17, se_18, se_19, e_const, e_load, e_store, e_iinc, e_dup, e_dup2, e_pop, e_iadd, e_isub, e_imul, e_ladd, e_lsub, e_lmul, e_iaddw, e_isubw, e_imulw, e_laddw, e_lsubw, e_lmulw, e_iand, e_ior, e_ishl, e_ishr, e_iushr, e_lcmp, e_imax, e_imin, e_idiv, e_irem, e_ldiv, e_lrem, e_i2l, e_i2b, e_l2i, e_i2c, e_getF, e_getR, e_putF, e_putR, e_putz, e_ald, e_aldR, e_ast, e_astb, e_astz, e_asta, e_len, e_acopy, e_new, e_newa, e_mna, e_this, e_room, e_call0, e_callv0, e_call1, e_callv1, e_inv1, e_invv1, e_call2, e_callv2, e_inv2, e_invv2, e_call3, e_callv3, e_inv3, e_invv3, e_call4, e_callv4, e_inv4, e_invv4, e_call5, e_callv5, e_inv5, e_invv5, e_call6, e_callv6, e_inv6, e_invv6, e_call7, e_callv7, e_inv7, e_invv7, e_call8, e_callv8, e_inv8, e_invv8, e_ret, e_retz, e_retc, e_retb, e_retv, e_skip, e_sco, e_tlen, e_tat, e_iz_eq0, e_iz_eq1, e_iz_ne0, e_iz_ne1, add0, sc_d, sc_t, inI_e, inL_e, up_eq, true_or, or_true, or_false, false_or, and_true, true_and, not_false_eq_true, Int.reduceAdd, Int.reduceSub, Int.reduceMul, Int.reduceNeg, e]
      | with_reducible first | refine izl_lt (fun hc => ?_) (fun hc => ?_) | refine izl_ge (fun hc => ?_) (fun hc => ?_) | refine izl_eq (fun hc => ?_) (fun hc => ?_) | refine ic_ge (fun hc => ?_) (fun hc => ?_) | refine ic_lt (fun hc => ?_) (fun hc => ?_) | refine ic_ne (fun hc => ?_) (fun hc => ?_) | refine ic_eq (fun hc => ?_) (fun hc => ?_) | refine ic_le (fun hc => ?_) (fun hc => ?_) | refine ic_gt (fun hc => ?_) (fun hc => ?_) | refine iz_eq (fun hc => ?_) (fun hc => ?_) | refine iz_ne (fun hc => ?_) (fun hc => ?_) | refine iz_lt (fun hc => ?_) (fun hc => ?_) | refine iz_ge (fun hc => ?_) (fun hc => ?_) | refine iz_gt (fun hc => ?_) (fun hc => ?_) | refine iz_le (fun hc => ?_) (fun hc => ?_) | refine iz_nu (fun hc => ?_) (fun hc => ?_) | refine iz_nn (fun hc => ?_) (fun hc => ?_)
      | omega
      | (exfalso; omega)
    exact body (-1) 0 0 0 0 (Or.inr ⟨rfl, by omega⟩) _ _
end FINDS
